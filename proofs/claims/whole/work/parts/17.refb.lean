set_option maxHeartbeats 4000000 in
set_option maxRecDepth 100000 in
theorem kM_units (l : Launch) (dC : Nat → ClassId) (dI : Nat → Nat → Nat) (cI cJ : ClassId) (mm qlo qlk qhd qsf qpr qpa qsk qld qlz qrd qrv qhi qfw qkp : Nat) (sz : Nat) (x : Int32) (ly : Nat) (ce : Nat) (co : Int64) (wo : Int64) (dy : Nat) (da : Int32) (db : Int32) (dr : Int32) (mn : Nat) (rn : Nat) (lof : Nat → Int32) (sk : Nat → Int64) (hce : ce ≤ 30) : Met l yM_units wM_units ({ frames := 0, cells := 0, slots := 0, locals := 0 }) (va_Pc [.ref mm, .int x] (fun U => U.heap.size = sz ∧ va_P (dC, dI) vwCl [(mm, .inr (5, [.int (nI ly), .int (nI ce), .ref qlo, .ref qlk, .ref qhd, .ref qsf, .ref qpr, .ref qpa, .ref qsk, .long co, .long wo, .int (nI dy), .int da, .int db, .int dr, .int (nI mn), .ref qld, .ref qlz, .int (nI rn), .ref qrd, .ref qrv, .ref qhi, .ref qfw, .ref qkp])), (qlo, .inl (cI, 30, .inl lof)), (qsk, .inl (cJ, 30, .inr (.inl sk)))] U.heap ∧ va_K (dC, dI) vwCl [(cI, .int), (cJ, .long)] U ∧ va_D (fun _ => True) [(mm, .inr (5, [.int (nI ly), .int (nI ce), .ref qlo, .ref qlk, .ref qhd, .ref qsf, .ref qpr, .ref qpa, .ref qsk, .long co, .long wo, .int (nI dy), .int da, .int db, .int dr, .int (nI mn), .ref qld, .ref qlz, .int (nI rn), .ref qrd, .ref qrv, .ref qhi, .ref qfw, .ref qkp])), (qlo, .inl (cI, 30, .inl lof)), (qsk, .inl (cJ, 30, .inr (.inl sk)))])) (va_Ql (fun res_ (_ : Unit) => res_ = k_mu lof sk x ce) (fun _ t => va_P (dC, dI) vwCl [(mm, .inr (5, [.int (nI ly), .int (nI ce), .ref qlo, .ref qlk, .ref qhd, .ref qsf, .ref qpr, .ref qpa, .ref qsk, .long co, .long wo, .int (nI dy), .int da, .int db, .int dr, .int (nI mn), .ref qld, .ref qlz, .int (nI rn), .ref qrd, .ref qrv, .ref qhi, .ref qfw, .ref qkp])), (qlo, .inl (cI, 30, .inl lof)), (qsk, .inl (cJ, 30, .inr (.inl sk)))] t.heap ∧ va_K (dC, dI) vwCl [(cI, .int), (cJ, .long)] t ∧ va_D (va_A [(mm, .inr (5, [.int (nI ly), .int (nI ce), .ref qlo, .ref qlk, .ref qhd, .ref qsf, .ref qpr, .ref qpa, .ref qsk, .long co, .long wo, .int (nI dy), .int da, .int db, .int dr, .int (nI mn), .ref qld, .ref qlz, .int (nI rn), .ref qrd, .ref qrv, .ref qhi, .ref qfw, .ref qkp])), (qlo, .inl (cI, 30, .inl lof)), (qsk, .inl (cJ, 30, .inr (.inl sk)))] sz) [(mm, .inr (5, [.int (nI ly), .int (nI ce), .ref qlo, .ref qlk, .ref qhd, .ref qsf, .ref qpr, .ref qpa, .ref qsk, .long co, .long wo, .int (nI dy), .int da, .int db, .int dr, .int (nI mn), .ref qld, .ref qlz, .int (nI rn), .ref qrd, .ref qrv, .ref qhi, .ref qfw, .ref qkp])), (qlo, .inl (cI, 30, .inl lof)), (qsk, .inl (cJ, 30, .inr (.inl sk)))]) (va_A [(mm, .inr (5, [.int (nI ly), .int (nI ce), .ref qlo, .ref qlk, .ref qhd, .ref qsf, .ref qpr, .ref qpa, .ref qsk, .long co, .long wo, .int (nI dy), .int da, .int db, .int dr, .int (nI mn), .ref qld, .ref qlz, .int (nI rn), .ref qrd, .ref qrv, .ref qhi, .ref qfw, .ref qkp])), (qlo, .inl (cI, 30, .inl lof)), (qsk, .inl (cJ, 30, .inr (.inl sk)))] sz)) 0 0 (va_A [(mm, .inr (5, [.int (nI ly), .int (nI ce), .ref qlo, .ref qlk, .ref qhd, .ref qsf, .ref qpr, .ref qpa, .ref qsk, .long co, .long wo, .int (nI dy), .int da, .int db, .int dr, .int (nI mn), .ref qld, .ref qlz, .int (nI rn), .ref qrd, .ref qrv, .ref qhi, .ref qfw, .ref qkp])), (qlo, .inl (cI, 30, .inl lof)), (qsk, .inl (cJ, 30, .inr (.inl sk)))] sz) := by
  refine Met.ofW (cc := bM_units) (maxL := 5) (ret := (some .long)) (by decide) rfl ?_
  intro p e s m args below meth c s₁ B hml hv
  obtain ⟨rfl, hsz, hP, hK, hD0⟩ := hv
  have hx := B.exec
  have hb := B.bytes
  have hr := B.returns
  have hts := atoms_spec (ws := wM_units) B.pre
  have hown : s.vm.findClass R_M = some m.cls := findClass_of_methodNamed B.named
  have htw : ∀ w ∈ WA, w.before _ s = true := fun w h => hts w (List.mem_cons_of_mem _ h)
  clear hts
  have hlocks := B.notSynchronized
  subst hsz
  have hD := hD0.self (sz := s.heap.size)
  generalize hAe : va_A [(mm, .inr (5, [.int (nI ly), .int (nI ce), .ref qlo, .ref qlk, .ref qhd, .ref qsf, .ref qpr, .ref qpa, .ref qsk, .long co, .long wo, .int (nI dy), .int da, .int db, .int dr, .int (nI mn), .ref qld, .ref qlz, .int (nI rn), .ref qrd, .ref qrv, .ref qhi, .ref qfw, .ref qkp])), (qlo, .inl (cI, 30, .inl lof)), (qsk, .inl (cJ, 30, .inr (.inl sk)))] s.heap.size = A at hD ⊢
  have hA : ∀ q : Nat, s.heap.size ≤ q → A q := fun q h => by rw [← hAe]; exact Or.inr h
  clear hAe hD0
  have hS : va_S A s.heap s.heap [] := va_S.rf
  have hP : va_P (dC, dI) vwCl [(mm, .inr (5, [.int (nI ly), .int (nI ce), .ref qlo, .ref qlk, .ref qhd, .ref qsf, .ref qpr, .ref qpa, .ref qsk, .long co, .long wo, .int (nI dy), .int da, .int db, .int dr, .int (nI mn), .ref qld, .ref qlz, .int (nI rn), .ref qrd, .ref qrv, .ref qhi, .ref qfw, .ref qkp])), (qlo, .inl (cI, 30, .inl lof)), (qsk, .inl (cJ, 30, .inr (.inl sk)))] s.heap := hP
  have hl := lv_entry ([.ref mm, .int x]) (n := 5) (Nat.le_of_ble_eq_true rfl)
  rw [lg_entry_eq]
  generalize (lg_sl ([.ref mm, .int x]) ++ List.replicate (5 - (lg_sl ([.ref mm, .int x])).length) Slot.unset).toArray = ls at hl ⊢
  have hl : lv_has ls 5 [(0, .ref mm), (1, .int x)] := hl
  refine lv_lconst (v := 0) hx hb dM_units_0 (by decide) ?_
  refine lv_lstore_n (lv' := [(2, .long 0), (0, .ref mm), (1, .int x)]) hx hb dM_units_1 rfl hl (by decide) rfl (fun ls hl => ?_)
  refine lv_iconst (v := nI 0) hx hb dM_units_2 (by decide) ?_
  refine lv_istore (lv' := [(4, .int (nI 0)), (2, .long 0), (0, .ref mm), (1, .int x)]) hx hb dM_units_3 hl (by decide) rfl (fun ls hl => ?_)
  -- the loop at 5
  have hP : va_P (dC, dI) vwCl [(mm, .inr (5, [.int (nI ly), .int (nI ce), .ref qlo, .ref qlk, .ref qhd, .ref qsf, .ref qpr, .ref qpa, .ref qsk, .long co, .long wo, .int (nI dy), .int da, .int db, .int dr, .int (nI mn), .ref qld, .ref qlz, .int (nI rn), .ref qrd, .ref qrv, .ref qhi, .ref qfw, .ref qkp])), (qlo, .inl (cI, 30, .inl lof)), (qsk, .inl (cJ, 30, .inr (.inl sk)))] s.heap := by first | exact hP | simpa only [] using hP
  have hD : va_D A [(mm, .inr (5, [.int (nI ly), .int (nI ce), .ref qlo, .ref qlk, .ref qhd, .ref qsf, .ref qpr, .ref qpa, .ref qsk, .long co, .long wo, .int (nI dy), .int da, .int db, .int dr, .int (nI mn), .ref qld, .ref qlz, .int (nI rn), .ref qrd, .ref qrv, .ref qhi, .ref qfw, .ref qkp])), (qlo, .inl (cI, 30, .inl lof)), (qsk, .inl (cJ, 30, .inr (.inl sk)))] := by first | exact hD | simpa only [] using hD
  refine x_loop (N := ce) (I := fun i H locs ls => va_P (dC, dI) vwCl [(mm, .inr (5, [.int (nI ly), .int (nI ce), .ref qlo, .ref qlk, .ref qhd, .ref qsf, .ref qpr, .ref qpa, .ref qsk, .long co, .long wo, .int (nI dy), .int da, .int db, .int dr, .int (nI mn), .ref qld, .ref qlz, .int (nI rn), .ref qrd, .ref qrv, .ref qhi, .ref qfw, .ref qkp])), (qlo, .inl (cI, 30, .inl lof)), (qsk, .inl (cJ, 30, .inr (.inl sk)))] H ∧ va_D A [(mm, .inr (5, [.int (nI ly), .int (nI ce), .ref qlo, .ref qlk, .ref qhd, .ref qsf, .ref qpr, .ref qpa, .ref qsk, .long co, .long wo, .int (nI dy), .int da, .int db, .int dr, .int (nI mn), .ref qld, .ref qlz, .int (nI rn), .ref qrd, .ref qrv, .ref qhi, .ref qfw, .ref qkp])), (qlo, .inl (cI, 30, .inl lof)), (qsk, .inl (cJ, 30, .inr (.inl sk)))] ∧ va_S A s.heap H locs ∧ lv_has ls 5 [(0, .ref mm), (1, .int x), (2, .long (k_mu lof sk x i)), (4, .int (nI i))]) (i0 := 0) ?_ (Nat.zero_le _) ⟨hP, hD, hS, lv_sub hl [2, 3, 1, 0] rfl⟩
  intro i hi ih5 H locs ls hI
  obtain ⟨hP, hD, hS, hl⟩ := hI
  refine lv_iload hx hb dM_units_5 (lv_at hl 3 rfl) ?_
  refine lv_aload_n hx hb dM_units_7 rfl (lv_at hl 0 rfl) ?_
  refine va_get (D := (dC, dI)) (ci := 5) (v := .int (nI ce)) (C := R_M) (T := T_M) (N := 24) hx hb htw in_M hown hK hP 0 rfl rfl 1 (by decide) (htw _ m_358) (fun _ h9 => h9) rfl dM_units_8 ?_
  refine lv_icmp_ge (tgt := 50) hx hb dM_units_11 (by decide) (fun hc11 => ?_) (fun hc11 => ?_)
  · -- 11 taken
    rw [nI_leI (by omega) (by omega)] at hc11
    obtain rfl : ce = i := by omega
    refine lv_lload_n hx hb dM_units_50 rfl (lv_at hl 2 rfl) ?_
    have hP : va_P (dC, dI) vwCl [(mm, .inr (5, [.int (nI ly), .int (nI ce), .ref qlo, .ref qlk, .ref qhd, .ref qsf, .ref qpr, .ref qpa, .ref qsk, .long co, .long wo, .int (nI dy), .int da, .int db, .int dr, .int (nI mn), .ref qld, .ref qlz, .int (nI rn), .ref qrd, .ref qrv, .ref qhi, .ref qfw, .ref qkp])), (qlo, .inl (cI, 30, .inl lof)), (qsk, .inl (cJ, 30, .inr (.inl sk)))] H := by first | exact hP | simpa only [] using hP
    have hD : va_D A [(mm, .inr (5, [.int (nI ly), .int (nI ce), .ref qlo, .ref qlk, .ref qhd, .ref qsf, .ref qpr, .ref qpa, .ref qsk, .long co, .long wo, .int (nI dy), .int da, .int db, .int dr, .int (nI mn), .ref qld, .ref qlz, .int (nI rn), .ref qrd, .ref qrv, .ref qhi, .ref qfw, .ref qkp])), (qlo, .inl (cI, 30, .inl lof)), (qsk, .inl (cJ, 30, .inr (.inl sk)))] := by first | exact hD | simpa only [] using hD
    exact W.lret (v := k_mu lof sk x ce) hx hb hr (fun t ht hW => ⟨⟨k_mu lof sk x ce, (), rfl, rfl, by rw [ht]; exact hP, va_K.moved hW.alike hK, hD⟩, hS.F ht⟩) hS.2.2 dM_units_51
  · -- 11 not taken
    rw [nI_leI (by omega) (by omega)] at hc11
    refine lv_lload_n hx hb dM_units_14 rfl (lv_at hl 2 rfl) ?_
    refine lv_iload_n hx hb dM_units_15 rfl (lv_at hl 1 rfl) ?_
    refine lv_iconst (v := (-1)) hx hb dM_units_16 (by decide) ?_
    refine lv_icmp_eq (tgt := 31) hx hb dM_units_17 (by decide) (fun hc17 => ?_) (fun hc17 => ?_)
    · -- 17 taken
      refine lv_aload_n hx hb dM_units_31 rfl (lv_at hl 0 rfl) ?_
      refine va_get (D := (dC, dI)) (ci := 5) (v := .ref qsk) (C := R_M) (T := T_M) (N := 24) hx hb htw in_M hown hK hP 0 rfl rfl 8 (by decide) (htw _ m_365) (fun _ h9 => h9) rfl dM_units_32 ?_
      refine lv_iload hx hb dM_units_35 (lv_at hl 3 rfl) ?_
      refine xa_lald hx hb hK hP 2 1 rfl rfl (i := i) (by omega) (by decide) dM_units_37 ?_
      refine lv_goto (tgt := 42) hx hb dM_units_38 (by decide) ?_
      refine lv_ladd hx hb dM_units_42 ?_
      refine lv_lstore_n (lv' := [(2, .long ((k_mu lof sk x i) + (sk i))), (0, .ref mm), (1, .int x), (4, .int (nI i))]) hx hb dM_units_43 rfl hl (by decide) rfl (fun ls hl => ?_)
      refine lv_iinc (v := nI (i + 1)) (lv' := [(4, .int (nI (i + 1))), (2, .long ((k_mu lof sk x i) + (sk i))), (0, .ref mm), (1, .int x)]) hx hb dM_units_44 hl (k := 3) rfl (nI_1 _) (by decide) rfl (fun ls hl => ?_)
      refine lv_goto (tgt := 5) hx hb dM_units_47 (by decide) ?_
      have hP : va_P (dC, dI) vwCl [(mm, .inr (5, [.int (nI ly), .int (nI ce), .ref qlo, .ref qlk, .ref qhd, .ref qsf, .ref qpr, .ref qpa, .ref qsk, .long co, .long wo, .int (nI dy), .int da, .int db, .int dr, .int (nI mn), .ref qld, .ref qlz, .int (nI rn), .ref qrd, .ref qrv, .ref qhi, .ref qfw, .ref qkp])), (qlo, .inl (cI, 30, .inl lof)), (qsk, .inl (cJ, 30, .inr (.inl sk)))] H := by first | exact hP | simpa only [] using hP
      have hD : va_D A [(mm, .inr (5, [.int (nI ly), .int (nI ce), .ref qlo, .ref qlk, .ref qhd, .ref qsf, .ref qpr, .ref qpa, .ref qsk, .long co, .long wo, .int (nI dy), .int da, .int db, .int dr, .int (nI mn), .ref qld, .ref qlz, .int (nI rn), .ref qrd, .ref qrv, .ref qhi, .ref qfw, .ref qkp])), (qlo, .inl (cI, 30, .inl lof)), (qsk, .inl (cJ, 30, .inr (.inl sk)))] := by first | exact hD | simpa only [] using hD
      have eq1 : ((k_mu lof sk x i) + (sk i)) = k_mu lof sk x (i + 1) := k_mu_t (Or.inl hc17)
      rw [eq1] at hl
      exact ih5 (by omega) _ _ _ ⟨hP, hD, hS, lv_sub hl [2, 3, 1, 0] rfl⟩
    · -- 17 not taken
      refine lv_aload_n hx hb dM_units_20 rfl (lv_at hl 0 rfl) ?_
      refine va_get (D := (dC, dI)) (ci := 5) (v := .ref qlo) (C := R_M) (T := T_M) (N := 24) hx hb htw in_M hown hK hP 0 rfl rfl 2 (by decide) (htw _ m_359) (fun _ h9 => h9) rfl dM_units_21 ?_
      refine lv_iload hx hb dM_units_24 (lv_at hl 3 rfl) ?_
      refine xa_iald hx hb hK hP 1 0 rfl rfl (i := i) (by omega) (by decide) dM_units_26 ?_
      refine lv_iload_n hx hb dM_units_27 rfl (lv_at hl 1 rfl) ?_
      refine lv_icmp_ne (tgt := 41) hx hb dM_units_28 (by decide) (fun hc28 => ?_) (fun hc28 => ?_)
      · -- 28 taken
        refine lv_lconst (v := 0) hx hb dM_units_41 (by decide) ?_
        refine lv_ladd hx hb dM_units_42 ?_
        refine lv_lstore_n (lv' := [(2, .long ((k_mu lof sk x i) + 0)), (0, .ref mm), (1, .int x), (4, .int (nI i))]) hx hb dM_units_43 rfl hl (by decide) rfl (fun ls hl => ?_)
        refine lv_iinc (v := nI (i + 1)) (lv' := [(4, .int (nI (i + 1))), (2, .long ((k_mu lof sk x i) + 0)), (0, .ref mm), (1, .int x)]) hx hb dM_units_44 hl (k := 3) rfl (nI_1 _) (by decide) rfl (fun ls hl => ?_)
        refine lv_goto (tgt := 5) hx hb dM_units_47 (by decide) ?_
        have hP : va_P (dC, dI) vwCl [(mm, .inr (5, [.int (nI ly), .int (nI ce), .ref qlo, .ref qlk, .ref qhd, .ref qsf, .ref qpr, .ref qpa, .ref qsk, .long co, .long wo, .int (nI dy), .int da, .int db, .int dr, .int (nI mn), .ref qld, .ref qlz, .int (nI rn), .ref qrd, .ref qrv, .ref qhi, .ref qfw, .ref qkp])), (qlo, .inl (cI, 30, .inl lof)), (qsk, .inl (cJ, 30, .inr (.inl sk)))] H := by first | exact hP | simpa only [] using hP
        have hD : va_D A [(mm, .inr (5, [.int (nI ly), .int (nI ce), .ref qlo, .ref qlk, .ref qhd, .ref qsf, .ref qpr, .ref qpa, .ref qsk, .long co, .long wo, .int (nI dy), .int da, .int db, .int dr, .int (nI mn), .ref qld, .ref qlz, .int (nI rn), .ref qrd, .ref qrv, .ref qhi, .ref qfw, .ref qkp])), (qlo, .inl (cI, 30, .inl lof)), (qsk, .inl (cJ, 30, .inr (.inl sk)))] := by first | exact hD | simpa only [] using hD
        have eq2 : ((k_mu lof sk x i) + 0) = k_mu lof sk x (i + 1) := k_mu_f hc17 hc28
        rw [eq2] at hl
        exact ih5 (by omega) _ _ _ ⟨hP, hD, hS, lv_sub hl [2, 3, 1, 0] rfl⟩
      · -- 28 not taken
        refine lv_aload_n hx hb dM_units_31 rfl (lv_at hl 0 rfl) ?_
        refine va_get (D := (dC, dI)) (ci := 5) (v := .ref qsk) (C := R_M) (T := T_M) (N := 24) hx hb htw in_M hown hK hP 0 rfl rfl 8 (by decide) (htw _ m_365) (fun _ h9 => h9) rfl dM_units_32 ?_
        refine lv_iload hx hb dM_units_35 (lv_at hl 3 rfl) ?_
        refine xa_lald hx hb hK hP 2 1 rfl rfl (i := i) (by omega) (by decide) dM_units_37 ?_
        refine lv_goto (tgt := 42) hx hb dM_units_38 (by decide) ?_
        refine lv_ladd hx hb dM_units_42 ?_
        refine lv_lstore_n (lv' := [(2, .long ((k_mu lof sk x i) + (sk i))), (0, .ref mm), (1, .int x), (4, .int (nI i))]) hx hb dM_units_43 rfl hl (by decide) rfl (fun ls hl => ?_)
        refine lv_iinc (v := nI (i + 1)) (lv' := [(4, .int (nI (i + 1))), (2, .long ((k_mu lof sk x i) + (sk i))), (0, .ref mm), (1, .int x)]) hx hb dM_units_44 hl (k := 3) rfl (nI_1 _) (by decide) rfl (fun ls hl => ?_)
        refine lv_goto (tgt := 5) hx hb dM_units_47 (by decide) ?_
        have hP : va_P (dC, dI) vwCl [(mm, .inr (5, [.int (nI ly), .int (nI ce), .ref qlo, .ref qlk, .ref qhd, .ref qsf, .ref qpr, .ref qpa, .ref qsk, .long co, .long wo, .int (nI dy), .int da, .int db, .int dr, .int (nI mn), .ref qld, .ref qlz, .int (nI rn), .ref qrd, .ref qrv, .ref qhi, .ref qfw, .ref qkp])), (qlo, .inl (cI, 30, .inl lof)), (qsk, .inl (cJ, 30, .inr (.inl sk)))] H := by first | exact hP | simpa only [] using hP
        have hD : va_D A [(mm, .inr (5, [.int (nI ly), .int (nI ce), .ref qlo, .ref qlk, .ref qhd, .ref qsf, .ref qpr, .ref qpa, .ref qsk, .long co, .long wo, .int (nI dy), .int da, .int db, .int dr, .int (nI mn), .ref qld, .ref qlz, .int (nI rn), .ref qrd, .ref qrv, .ref qhi, .ref qfw, .ref qkp])), (qlo, .inl (cI, 30, .inl lof)), (qsk, .inl (cJ, 30, .inr (.inl sk)))] := by first | exact hD | simpa only [] using hD
        have eq3 : ((k_mu lof sk x i) + (sk i)) = k_mu lof sk x (i + 1) := k_mu_t (Or.inr hc28)
        rw [eq3] at hl
        exact ih5 (by omega) _ _ _ ⟨hP, hD, hS, lv_sub hl [2, 3, 1, 0] rfl⟩
set_option maxHeartbeats 4000000 in
set_option maxRecDepth 100000 in
theorem kM_endUnits (l : Launch) (dC : Nat → ClassId) (dI : Nat → Nat → Nat) (cI cJ : ClassId) (mm qlo qlk qhd qsf qpr qpa qsk qld qlz qrd qrv qhi qfw qkp : Nat) (sz : Nat) (ly : Nat) (ce : Nat) (co : Int64) (wo : Int64) (dy : Nat) (da : Int32) (db : Int32) (dr : Int32) (mn : Nat) (rn : Nat) (lof : Nat → Int32) (hd : Nat → Int32) (sf : Nat → Int32) (pr : Nat → Int64) (pa : Nat → Int64) (sk : Nat → Int64) (lz : Nat → Int32) (hce : ce ≤ 30) (hmn : mn ≤ 12) : Met l yM_endUnits wM_endUnits ({ frames := 1, cells := 0, slots := 0, locals := 27 }) (va_Pc [.ref mm] (fun U => U.heap.size = sz ∧ va_P (dC, dI) vwCl [(mm, .inr (5, [.int (nI ly), .int (nI ce), .ref qlo, .ref qlk, .ref qhd, .ref qsf, .ref qpr, .ref qpa, .ref qsk, .long co, .long wo, .int (nI dy), .int da, .int db, .int dr, .int (nI mn), .ref qld, .ref qlz, .int (nI rn), .ref qrd, .ref qrv, .ref qhi, .ref qfw, .ref qkp])), (qlo, .inl (cI, 30, .inl lof)), (qhd, .inl (cI, 30, .inl hd)), (qsf, .inl (cI, 30, .inl sf)), (qpr, .inl (cJ, 30, .inr (.inl pr))), (qpa, .inl (cJ, 30, .inr (.inl pa))), (qsk, .inl (cJ, 30, .inr (.inl sk))), (qlz, .inl (cI, 12, .inl lz))] U.heap ∧ va_K (dC, dI) vwCl [(cI, .int), (cJ, .long)] U ∧ va_D (fun _ => True) [(mm, .inr (5, [.int (nI ly), .int (nI ce), .ref qlo, .ref qlk, .ref qhd, .ref qsf, .ref qpr, .ref qpa, .ref qsk, .long co, .long wo, .int (nI dy), .int da, .int db, .int dr, .int (nI mn), .ref qld, .ref qlz, .int (nI rn), .ref qrd, .ref qrv, .ref qhi, .ref qfw, .ref qkp])), (qlo, .inl (cI, 30, .inl lof)), (qhd, .inl (cI, 30, .inl hd)), (qsf, .inl (cI, 30, .inl sf)), (qpr, .inl (cJ, 30, .inr (.inl pr))), (qpa, .inl (cJ, 30, .inr (.inl pa))), (qsk, .inl (cJ, 30, .inr (.inl sk))), (qlz, .inl (cI, 12, .inl lz))])) (va_Ql (fun res_ (_ : Unit) => res_ = k_me hd sf lof lz mn co pr pa sk ce ce) (fun _ t => va_P (dC, dI) vwCl [(mm, .inr (5, [.int (nI ly), .int (nI ce), .ref qlo, .ref qlk, .ref qhd, .ref qsf, .ref qpr, .ref qpa, .ref qsk, .long co, .long wo, .int (nI dy), .int da, .int db, .int dr, .int (nI mn), .ref qld, .ref qlz, .int (nI rn), .ref qrd, .ref qrv, .ref qhi, .ref qfw, .ref qkp])), (qlo, .inl (cI, 30, .inl lof)), (qhd, .inl (cI, 30, .inl hd)), (qsf, .inl (cI, 30, .inl sf)), (qpr, .inl (cJ, 30, .inr (.inl pr))), (qpa, .inl (cJ, 30, .inr (.inl pa))), (qsk, .inl (cJ, 30, .inr (.inl sk))), (qlz, .inl (cI, 12, .inl lz))] t.heap ∧ va_K (dC, dI) vwCl [(cI, .int), (cJ, .long)] t ∧ va_D (va_A [(mm, .inr (5, [.int (nI ly), .int (nI ce), .ref qlo, .ref qlk, .ref qhd, .ref qsf, .ref qpr, .ref qpa, .ref qsk, .long co, .long wo, .int (nI dy), .int da, .int db, .int dr, .int (nI mn), .ref qld, .ref qlz, .int (nI rn), .ref qrd, .ref qrv, .ref qhi, .ref qfw, .ref qkp])), (qlo, .inl (cI, 30, .inl lof)), (qhd, .inl (cI, 30, .inl hd)), (qsf, .inl (cI, 30, .inl sf)), (qpr, .inl (cJ, 30, .inr (.inl pr))), (qpa, .inl (cJ, 30, .inr (.inl pa))), (qsk, .inl (cJ, 30, .inr (.inl sk))), (qlz, .inl (cI, 12, .inl lz))] sz) [(mm, .inr (5, [.int (nI ly), .int (nI ce), .ref qlo, .ref qlk, .ref qhd, .ref qsf, .ref qpr, .ref qpa, .ref qsk, .long co, .long wo, .int (nI dy), .int da, .int db, .int dr, .int (nI mn), .ref qld, .ref qlz, .int (nI rn), .ref qrd, .ref qrv, .ref qhi, .ref qfw, .ref qkp])), (qlo, .inl (cI, 30, .inl lof)), (qhd, .inl (cI, 30, .inl hd)), (qsf, .inl (cI, 30, .inl sf)), (qpr, .inl (cJ, 30, .inr (.inl pr))), (qpa, .inl (cJ, 30, .inr (.inl pa))), (qsk, .inl (cJ, 30, .inr (.inl sk))), (qlz, .inl (cI, 12, .inl lz))]) (va_A [(mm, .inr (5, [.int (nI ly), .int (nI ce), .ref qlo, .ref qlk, .ref qhd, .ref qsf, .ref qpr, .ref qpa, .ref qsk, .long co, .long wo, .int (nI dy), .int da, .int db, .int dr, .int (nI mn), .ref qld, .ref qlz, .int (nI rn), .ref qrd, .ref qrv, .ref qhi, .ref qfw, .ref qkp])), (qlo, .inl (cI, 30, .inl lof)), (qhd, .inl (cI, 30, .inl hd)), (qsf, .inl (cI, 30, .inl sf)), (qpr, .inl (cJ, 30, .inr (.inl pr))), (qpa, .inl (cJ, 30, .inr (.inl pa))), (qsk, .inl (cJ, 30, .inr (.inl sk))), (qlz, .inl (cI, 12, .inl lz))] sz)) 0 0 (va_A [(mm, .inr (5, [.int (nI ly), .int (nI ce), .ref qlo, .ref qlk, .ref qhd, .ref qsf, .ref qpr, .ref qpa, .ref qsk, .long co, .long wo, .int (nI dy), .int da, .int db, .int dr, .int (nI mn), .ref qld, .ref qlz, .int (nI rn), .ref qrd, .ref qrv, .ref qhi, .ref qfw, .ref qkp])), (qlo, .inl (cI, 30, .inl lof)), (qhd, .inl (cI, 30, .inl hd)), (qsf, .inl (cI, 30, .inl sf)), (qpr, .inl (cJ, 30, .inr (.inl pr))), (qpa, .inl (cJ, 30, .inr (.inl pa))), (qsk, .inl (cJ, 30, .inr (.inl sk))), (qlz, .inl (cI, 12, .inl lz))] sz) := by
  refine Met.ofW (cc := bM_endUnits) (maxL := 6) (ret := (some .long)) (by decide) rfl ?_
  intro p e s m args below meth c s₁ B hml hv
  obtain ⟨rfl, hsz, hP, hK, hD0⟩ := hv
  have hx := B.exec
  have hb := B.bytes
  have hr := B.returns
  have hts := atoms_spec (ws := wM_endUnits) B.pre
  have hown : s.vm.findClass R_M = some m.cls := findClass_of_methodNamed B.named
  have htw : ∀ w ∈ WA, w.before _ s = true := fun w h => hts w (List.mem_cons_of_mem _ h)
  clear hts
  have hlocks := B.notSynchronized
  subst hsz
  have hD := hD0.self (sz := s.heap.size)
  generalize hAe : va_A [(mm, .inr (5, [.int (nI ly), .int (nI ce), .ref qlo, .ref qlk, .ref qhd, .ref qsf, .ref qpr, .ref qpa, .ref qsk, .long co, .long wo, .int (nI dy), .int da, .int db, .int dr, .int (nI mn), .ref qld, .ref qlz, .int (nI rn), .ref qrd, .ref qrv, .ref qhi, .ref qfw, .ref qkp])), (qlo, .inl (cI, 30, .inl lof)), (qhd, .inl (cI, 30, .inl hd)), (qsf, .inl (cI, 30, .inl sf)), (qpr, .inl (cJ, 30, .inr (.inl pr))), (qpa, .inl (cJ, 30, .inr (.inl pa))), (qsk, .inl (cJ, 30, .inr (.inl sk))), (qlz, .inl (cI, 12, .inl lz))] s.heap.size = A at hD ⊢
  have hA : ∀ q : Nat, s.heap.size ≤ q → A q := fun q h => by rw [← hAe]; exact Or.inr h
  clear hAe hD0
  have hS : va_S A s.heap s.heap [] := va_S.rf
  have hP : va_P (dC, dI) vwCl [(mm, .inr (5, [.int (nI ly), .int (nI ce), .ref qlo, .ref qlk, .ref qhd, .ref qsf, .ref qpr, .ref qpa, .ref qsk, .long co, .long wo, .int (nI dy), .int da, .int db, .int dr, .int (nI mn), .ref qld, .ref qlz, .int (nI rn), .ref qrd, .ref qrv, .ref qhi, .ref qfw, .ref qkp])), (qlo, .inl (cI, 30, .inl lof)), (qhd, .inl (cI, 30, .inl hd)), (qsf, .inl (cI, 30, .inl sf)), (qpr, .inl (cJ, 30, .inr (.inl pr))), (qpa, .inl (cJ, 30, .inr (.inl pa))), (qsk, .inl (cJ, 30, .inr (.inl sk))), (qlz, .inl (cI, 12, .inl lz))] s.heap := hP
  have hl := lv_entry ([.ref mm]) (n := 6) (Nat.le_of_ble_eq_true rfl)
  rw [lg_entry_eq]
  generalize (lg_sl ([.ref mm]) ++ List.replicate (6 - (lg_sl ([.ref mm])).length) Slot.unset).toArray = ls at hl ⊢
  have hl : lv_has ls 6 [(0, .ref mm)] := hl
  refine lv_lconst (v := 0) hx hb dM_endUnits_0 (by decide) ?_
  refine lv_lstore_n (lv' := [(1, .long 0), (0, .ref mm)]) hx hb dM_endUnits_1 rfl hl (by decide) rfl (fun ls hl => ?_)
  refine lv_iconst (v := nI 0) hx hb dM_endUnits_2 (by decide) ?_
  refine lv_istore_n (lv' := [(3, .int (nI 0)), (1, .long 0), (0, .ref mm)]) hx hb dM_endUnits_3 rfl hl (by decide) rfl (fun ls hl => ?_)
  -- the loop at 4
  have hP : va_P (dC, dI) vwCl [(mm, .inr (5, [.int (nI ly), .int (nI ce), .ref qlo, .ref qlk, .ref qhd, .ref qsf, .ref qpr, .ref qpa, .ref qsk, .long co, .long wo, .int (nI dy), .int da, .int db, .int dr, .int (nI mn), .ref qld, .ref qlz, .int (nI rn), .ref qrd, .ref qrv, .ref qhi, .ref qfw, .ref qkp])), (qlo, .inl (cI, 30, .inl lof)), (qhd, .inl (cI, 30, .inl hd)), (qsf, .inl (cI, 30, .inl sf)), (qpr, .inl (cJ, 30, .inr (.inl pr))), (qpa, .inl (cJ, 30, .inr (.inl pa))), (qsk, .inl (cJ, 30, .inr (.inl sk))), (qlz, .inl (cI, 12, .inl lz))] s.heap := by first | exact hP | simpa only [] using hP
  have hD : va_D A [(mm, .inr (5, [.int (nI ly), .int (nI ce), .ref qlo, .ref qlk, .ref qhd, .ref qsf, .ref qpr, .ref qpa, .ref qsk, .long co, .long wo, .int (nI dy), .int da, .int db, .int dr, .int (nI mn), .ref qld, .ref qlz, .int (nI rn), .ref qrd, .ref qrv, .ref qhi, .ref qfw, .ref qkp])), (qlo, .inl (cI, 30, .inl lof)), (qhd, .inl (cI, 30, .inl hd)), (qsf, .inl (cI, 30, .inl sf)), (qpr, .inl (cJ, 30, .inr (.inl pr))), (qpa, .inl (cJ, 30, .inr (.inl pa))), (qsk, .inl (cJ, 30, .inr (.inl sk))), (qlz, .inl (cI, 12, .inl lz))] := by first | exact hD | simpa only [] using hD
  refine x_loop (N := mn) (I := fun i H locs ls => va_P (dC, dI) vwCl [(mm, .inr (5, [.int (nI ly), .int (nI ce), .ref qlo, .ref qlk, .ref qhd, .ref qsf, .ref qpr, .ref qpa, .ref qsk, .long co, .long wo, .int (nI dy), .int da, .int db, .int dr, .int (nI mn), .ref qld, .ref qlz, .int (nI rn), .ref qrd, .ref qrv, .ref qhi, .ref qfw, .ref qkp])), (qlo, .inl (cI, 30, .inl lof)), (qhd, .inl (cI, 30, .inl hd)), (qsf, .inl (cI, 30, .inl sf)), (qpr, .inl (cJ, 30, .inr (.inl pr))), (qpa, .inl (cJ, 30, .inr (.inl pa))), (qsk, .inl (cJ, 30, .inr (.inl sk))), (qlz, .inl (cI, 12, .inl lz))] H ∧ va_D A [(mm, .inr (5, [.int (nI ly), .int (nI ce), .ref qlo, .ref qlk, .ref qhd, .ref qsf, .ref qpr, .ref qpa, .ref qsk, .long co, .long wo, .int (nI dy), .int da, .int db, .int dr, .int (nI mn), .ref qld, .ref qlz, .int (nI rn), .ref qrd, .ref qrv, .ref qhi, .ref qfw, .ref qkp])), (qlo, .inl (cI, 30, .inl lof)), (qhd, .inl (cI, 30, .inl hd)), (qsf, .inl (cI, 30, .inl sf)), (qpr, .inl (cJ, 30, .inr (.inl pr))), (qpa, .inl (cJ, 30, .inr (.inl pa))), (qsk, .inl (cJ, 30, .inr (.inl sk))), (qlz, .inl (cI, 12, .inl lz))] ∧ va_S A s.heap H locs ∧ lv_has ls 6 [(0, .ref mm), (1, .long (k_all lz i)), (3, .int (nI i))]) (i0 := 0) ?_ (Nat.zero_le _) ⟨hP, hD, hS, lv_sub hl [2, 1, 0] rfl⟩
  intro i hi ih4 H locs ls hI
  obtain ⟨hP, hD, hS, hl⟩ := hI
  refine lv_iload_n hx hb dM_endUnits_4 rfl (lv_at hl 2 rfl) ?_
  refine lv_aload_n hx hb dM_endUnits_5 rfl (lv_at hl 0 rfl) ?_
  refine va_get (D := (dC, dI)) (ci := 5) (v := .int (nI mn)) (C := R_M) (T := T_M) (N := 24) hx hb htw in_M hown hK hP 0 rfl rfl 15 (by decide) (htw _ m_372) (fun _ h9 => h9) rfl dM_endUnits_6 ?_
  refine lv_icmp_ge (tgt := 28) hx hb dM_endUnits_9 (by decide) (fun hc9 => ?_) (fun hc9 => ?_)
  · -- 9 taken
    rw [nI_leI (by omega) (by omega)] at hc9
    obtain rfl : mn = i := by omega
    refine lv_aload_n hx hb dM_endUnits_28 rfl (lv_at hl 0 rfl) ?_
    refine lv_iconst (v := (-1)) hx hb dM_endUnits_29 (by decide) ?_
    have hPc := hP.sub (ws' := [(mm, .inr (5, [.int (nI ly), .int (nI ce), .ref qlo, .ref qlk, .ref qhd, .ref qsf, .ref qpr, .ref qpa, .ref qsk, .long co, .long wo, .int (nI dy), .int da, .int db, .int dr, .int (nI mn), .ref qld, .ref qlz, .int (nI rn), .ref qrd, .ref qrv, .ref qhi, .ref qfw, .ref qkp])), (qlo, .inl (cI, 30, .inl lof)), (qsk, .inl (cJ, 30, .inr (.inl sk)))]) [0, 1, 6] rfl
    have hDc := hD.sub (ws' := [(mm, .inr (5, [.int (nI ly), .int (nI ce), .ref qlo, .ref qlk, .ref qhd, .ref qsf, .ref qpr, .ref qpa, .ref qsk, .long co, .long wo, .int (nI dy), .int da, .int db, .int dr, .int (nI mn), .ref qld, .ref qlz, .int (nI rn), .ref qrd, .ref qrv, .ref qhi, .ref qfw, .ref qkp])), (qlo, .inl (cI, 30, .inl lof)), (qsk, .inl (cJ, 30, .inr (.inl sk)))]) [0, 1, 6] (by decide) rfl
    have hFc := va_free (wc := [(mm, .inr (5, [.int (nI ly), .int (nI ce), .ref qlo, .ref qlk, .ref qhd, .ref qsf, .ref qpr, .ref qpa, .ref qsk, .long co, .long wo, .int (nI dy), .int da, .int db, .int dr, .int (nI mn), .ref qld, .ref qlz, .int (nI rn), .ref qrd, .ref qrv, .ref qhi, .ref qfw, .ref qkp])), (qlo, .inl (cI, 30, .inl lof)), (qsk, .inl (cJ, 30, .inr (.inl sk)))]) hD hS hA [0, 1, 6] rfl
    refine va_calll (va_runV (As := [.int (-1)]) (rest := []) ⟨hx, hb, hml, hown, htw⟩ (kM_units l dC dI cI cJ mm qlo qlk qhd qsf qpr qpa qsk qld qlz qrd qrv qhi qfw qkp H.size (-1) ly ce co wo dy da db dr mn rn lof sk (by first | assumption | omega | decide)) (cwV 1 htw (wv_good m_469 m_471 ms_8 m_6 m_472) rfl rfl rfl (by decide +kernel) ⟨Nat.le_of_ble_eq_true rfl, Nat.le_of_ble_eq_true rfl⟩) ⟨fun a U g mk q => by obtain ⟨q0, q1, qP, qK, qD⟩ := q; exact ⟨q0, q1, qP, va_K.moved (u := U) (U := U.calling g mk a) (Vm.Alike.refl U.vm) qK, qD⟩, va_recv hK hPc (ci := 5) (q0 := 0) rfl rfl, fun U hU hW => ⟨rfl, by rw [hU], by rw [hU]; exact hPc, va_K.moved hW.alike hK, hDc.weaken (fun _ _ _ _ => trivial)⟩⟩ rfl rfl hl.1 rfl (lv_room (Nat.le_of_ble_eq_true rfl)) dM_endUnits_30 ⟨Nat.le_of_ble_eq_true rfl, Nat.le_of_ble_eq_true rfl⟩) hS (fun q _ h => hFc q h) hFc (fun res_ u_ t H1 locs ht hvm hw hB hz1 hk1 hS => ?_)
    obtain ⟨hP1, hK1, hD1⟩ := hB
    rw [ht] at hP1
    obtain ⟨hP, hD⟩ := va_join (wr := [(qhd, .inl (cI, 30, .inl hd)), (qsf, .inl (cI, 30, .inl sf)), (qpr, .inl (cJ, 30, .inr (.inl pr))), (qpa, .inl (cJ, 30, .inr (.inl pa))), (qlz, .inl (cI, 12, .inl lz))]) (w1 := [(mm, .inr (5, [.int (nI ly), .int (nI ce), .ref qlo, .ref qlk, .ref qhd, .ref qsf, .ref qpr, .ref qpa, .ref qsk, .long co, .long wo, .int (nI dy), .int da, .int db, .int dr, .int (nI mn), .ref qld, .ref qlz, .int (nI rn), .ref qrd, .ref qrv, .ref qhi, .ref qfw, .ref qkp])), (qlo, .inl (cI, 30, .inl lof)), (qsk, .inl (cJ, 30, .inr (.inl sk)))]) hP hD [0, 1, 6] [2, 3, 4, 5, 7] rfl rfl (by decide) (by decide) hk1 hFc hP1 hD1
    generalize H1 = H at hP hS ⊢
    have hP := hP.sub (ws' := [(mm, .inr (5, [.int (nI ly), .int (nI ce), .ref qlo, .ref qlk, .ref qhd, .ref qsf, .ref qpr, .ref qpa, .ref qsk, .long co, .long wo, .int (nI dy), .int da, .int db, .int dr, .int (nI mn), .ref qld, .ref qlz, .int (nI rn), .ref qrd, .ref qrv, .ref qhi, .ref qfw, .ref qkp])), (qlo, .inl (cI, 30, .inl lof)), (qhd, .inl (cI, 30, .inl hd)), (qsf, .inl (cI, 30, .inl sf)), (qpr, .inl (cJ, 30, .inr (.inl pr))), (qpa, .inl (cJ, 30, .inr (.inl pa))), (qsk, .inl (cJ, 30, .inr (.inl sk))), (qlz, .inl (cI, 12, .inl lz))]) [5, 6, 0, 1, 2, 3, 7, 4] rfl
    have hD := hD.sub (ws' := [(mm, .inr (5, [.int (nI ly), .int (nI ce), .ref qlo, .ref qlk, .ref qhd, .ref qsf, .ref qpr, .ref qpa, .ref qsk, .long co, .long wo, .int (nI dy), .int da, .int db, .int dr, .int (nI mn), .ref qld, .ref qlz, .int (nI rn), .ref qrd, .ref qrv, .ref qhi, .ref qfw, .ref qkp])), (qlo, .inl (cI, 30, .inl lof)), (qhd, .inl (cI, 30, .inl hd)), (qsf, .inl (cI, 30, .inl sf)), (qpr, .inl (cJ, 30, .inr (.inl pr))), (qpa, .inl (cJ, 30, .inr (.inl pa))), (qsk, .inl (cJ, 30, .inr (.inl sk))), (qlz, .inl (cI, 12, .inl lz))]) [5, 6, 0, 1, 2, 3, 7, 4] (by decide) rfl
    clear hPc hDc hFc hP1 hD1 hK1 hk1 hz1 hvm ht
    obtain rfl : k_mu lof sk (-1) ce = res_ := hw.symm
    refine lv_lstore_n (lv' := [(3, .long (k_mu lof sk (-1) ce)), (0, .ref mm), (1, .long (k_all lz mn))]) hx hb dM_endUnits_33 rfl hl (by decide) rfl (fun ls hl => ?_)
    refine lv_iconst (v := nI 0) hx hb dM_endUnits_34 (by decide) ?_
    refine lv_istore (lv' := [(5, .int (nI 0)), (3, .long (k_mu lof sk (-1) ce)), (0, .ref mm), (1, .long (k_all lz mn))]) hx hb dM_endUnits_35 hl (by decide) rfl (fun ls hl => ?_)
    -- the loop at 37
    have hP : va_P (dC, dI) vwCl [(mm, .inr (5, [.int (nI ly), .int (nI ce), .ref qlo, .ref qlk, .ref qhd, .ref qsf, .ref qpr, .ref qpa, .ref qsk, .long co, .long wo, .int (nI dy), .int da, .int db, .int dr, .int (nI mn), .ref qld, .ref qlz, .int (nI rn), .ref qrd, .ref qrv, .ref qhi, .ref qfw, .ref qkp])), (qlo, .inl (cI, 30, .inl lof)), (qhd, .inl (cI, 30, .inl hd)), (qsf, .inl (cI, 30, .inl sf)), (qpr, .inl (cJ, 30, .inr (.inl pr))), (qpa, .inl (cJ, 30, .inr (.inl pa))), (qsk, .inl (cJ, 30, .inr (.inl sk))), (qlz, .inl (cI, 12, .inl lz))] H := by first | exact hP | simpa only [] using hP
    have hD : va_D A [(mm, .inr (5, [.int (nI ly), .int (nI ce), .ref qlo, .ref qlk, .ref qhd, .ref qsf, .ref qpr, .ref qpa, .ref qsk, .long co, .long wo, .int (nI dy), .int da, .int db, .int dr, .int (nI mn), .ref qld, .ref qlz, .int (nI rn), .ref qrd, .ref qrv, .ref qhi, .ref qfw, .ref qkp])), (qlo, .inl (cI, 30, .inl lof)), (qhd, .inl (cI, 30, .inl hd)), (qsf, .inl (cI, 30, .inl sf)), (qpr, .inl (cJ, 30, .inr (.inl pr))), (qpa, .inl (cJ, 30, .inr (.inl pa))), (qsk, .inl (cJ, 30, .inr (.inl sk))), (qlz, .inl (cI, 12, .inl lz))] := by first | exact hD | simpa only [] using hD
    have eq1 : (k_mu lof sk (-1) ce) = k_me hd sf lof lz mn co pr pa sk ce 0 := (Int64.add_zero _).symm
    rw [eq1] at hl
    refine x_loop (N := ce) (I := fun i H locs ls => va_P (dC, dI) vwCl [(mm, .inr (5, [.int (nI ly), .int (nI ce), .ref qlo, .ref qlk, .ref qhd, .ref qsf, .ref qpr, .ref qpa, .ref qsk, .long co, .long wo, .int (nI dy), .int da, .int db, .int dr, .int (nI mn), .ref qld, .ref qlz, .int (nI rn), .ref qrd, .ref qrv, .ref qhi, .ref qfw, .ref qkp])), (qlo, .inl (cI, 30, .inl lof)), (qhd, .inl (cI, 30, .inl hd)), (qsf, .inl (cI, 30, .inl sf)), (qpr, .inl (cJ, 30, .inr (.inl pr))), (qpa, .inl (cJ, 30, .inr (.inl pa))), (qsk, .inl (cJ, 30, .inr (.inl sk))), (qlz, .inl (cI, 12, .inl lz))] H ∧ va_D A [(mm, .inr (5, [.int (nI ly), .int (nI ce), .ref qlo, .ref qlk, .ref qhd, .ref qsf, .ref qpr, .ref qpa, .ref qsk, .long co, .long wo, .int (nI dy), .int da, .int db, .int dr, .int (nI mn), .ref qld, .ref qlz, .int (nI rn), .ref qrd, .ref qrv, .ref qhi, .ref qfw, .ref qkp])), (qlo, .inl (cI, 30, .inl lof)), (qhd, .inl (cI, 30, .inl hd)), (qsf, .inl (cI, 30, .inl sf)), (qpr, .inl (cJ, 30, .inr (.inl pr))), (qpa, .inl (cJ, 30, .inr (.inl pa))), (qsk, .inl (cJ, 30, .inr (.inl sk))), (qlz, .inl (cI, 12, .inl lz))] ∧ va_S A s.heap H locs ∧ lv_has ls 6 [(0, .ref mm), (1, .long (k_all lz mn)), (3, .long (k_me hd sf lof lz mn co pr pa sk ce i)), (5, .int (nI i))]) (i0 := 0) ?_ (Nat.zero_le _) ⟨hP, hD, hS, lv_sub hl [2, 3, 1, 0] rfl⟩
    intro i hi ih37 H locs ls hI
    obtain ⟨hP, hD, hS, hl⟩ := hI
    refine lv_iload hx hb dM_endUnits_37 (lv_at hl 3 rfl) ?_
    refine lv_aload_n hx hb dM_endUnits_39 rfl (lv_at hl 0 rfl) ?_
    refine va_get (D := (dC, dI)) (ci := 5) (v := .int (nI ce)) (C := R_M) (T := T_M) (N := 24) hx hb htw in_M hown hK hP 0 rfl rfl 1 (by decide) (htw _ m_358) (fun _ h9 => h9) rfl dM_endUnits_40 ?_
    refine lv_icmp_ge (tgt := 74) hx hb dM_endUnits_43 (by decide) (fun hc43 => ?_) (fun hc43 => ?_)
    · -- 43 taken
      rw [nI_leI (by omega) (by omega)] at hc43
      obtain rfl : ce = i := by omega
      refine lv_lload_n hx hb dM_endUnits_74 rfl (lv_at hl 2 rfl) ?_
      have hP : va_P (dC, dI) vwCl [(mm, .inr (5, [.int (nI ly), .int (nI ce), .ref qlo, .ref qlk, .ref qhd, .ref qsf, .ref qpr, .ref qpa, .ref qsk, .long co, .long wo, .int (nI dy), .int da, .int db, .int dr, .int (nI mn), .ref qld, .ref qlz, .int (nI rn), .ref qrd, .ref qrv, .ref qhi, .ref qfw, .ref qkp])), (qlo, .inl (cI, 30, .inl lof)), (qhd, .inl (cI, 30, .inl hd)), (qsf, .inl (cI, 30, .inl sf)), (qpr, .inl (cJ, 30, .inr (.inl pr))), (qpa, .inl (cJ, 30, .inr (.inl pa))), (qsk, .inl (cJ, 30, .inr (.inl sk))), (qlz, .inl (cI, 12, .inl lz))] H := by first | exact hP | simpa only [] using hP
      have hD : va_D A [(mm, .inr (5, [.int (nI ly), .int (nI ce), .ref qlo, .ref qlk, .ref qhd, .ref qsf, .ref qpr, .ref qpa, .ref qsk, .long co, .long wo, .int (nI dy), .int da, .int db, .int dr, .int (nI mn), .ref qld, .ref qlz, .int (nI rn), .ref qrd, .ref qrv, .ref qhi, .ref qfw, .ref qkp])), (qlo, .inl (cI, 30, .inl lof)), (qhd, .inl (cI, 30, .inl hd)), (qsf, .inl (cI, 30, .inl sf)), (qpr, .inl (cJ, 30, .inr (.inl pr))), (qpa, .inl (cJ, 30, .inr (.inl pa))), (qsk, .inl (cJ, 30, .inr (.inl sk))), (qlz, .inl (cI, 12, .inl lz))] := by first | exact hD | simpa only [] using hD
      exact W.lret (v := k_me hd sf lof lz mn co pr pa sk ce ce) hx hb hr (fun t ht hW => ⟨⟨k_me hd sf lof lz mn co pr pa sk ce ce, (), rfl, rfl, by rw [ht]; exact hP, va_K.moved hW.alike hK, hD⟩, hS.F ht⟩) hS.2.2 dM_endUnits_75
    · -- 43 not taken
      rw [nI_leI (by omega) (by omega)] at hc43
      refine lv_lload_n hx hb dM_endUnits_46 rfl (lv_at hl 2 rfl) ?_
      refine lv_aload_n hx hb dM_endUnits_47 rfl (lv_at hl 0 rfl) ?_
      refine lv_iload hx hb dM_endUnits_48 (lv_at hl 3 rfl) ?_
      refine lv_aload_n hx hb dM_endUnits_50 rfl (lv_at hl 0 rfl) ?_
      refine va_get (D := (dC, dI)) (ci := 5) (v := .long co) (C := R_M) (T := T_M) (N := 24) hx hb htw in_M hown hK hP 0 rfl rfl 9 (by decide) (htw _ m_366) (fun _ h9 => h9) rfl dM_endUnits_51 ?_
      refine lv_aload_n hx hb dM_endUnits_54 rfl (lv_at hl 0 rfl) ?_
      refine va_get (D := (dC, dI)) (ci := 5) (v := .ref qpr) (C := R_M) (T := T_M) (N := 24) hx hb htw in_M hown hK hP 0 rfl rfl 6 (by decide) (htw _ m_363) (fun _ h9 => h9) rfl dM_endUnits_55 ?_
      refine lv_iload hx hb dM_endUnits_58 (lv_at hl 3 rfl) ?_
      refine xa_lald hx hb hK hP 4 1 rfl rfl (i := i) (by omega) (by decide) dM_endUnits_60 ?_
      refine lv_lsub hx hb dM_endUnits_61 ?_
      refine lv_lload_n hx hb dM_endUnits_62 rfl (lv_at hl 1 rfl) ?_
      have hPc := hP.sub (ws' := [(mm, .inr (5, [.int (nI ly), .int (nI ce), .ref qlo, .ref qlk, .ref qhd, .ref qsf, .ref qpr, .ref qpa, .ref qsk, .long co, .long wo, .int (nI dy), .int da, .int db, .int dr, .int (nI mn), .ref qld, .ref qlz, .int (nI rn), .ref qrd, .ref qrv, .ref qhi, .ref qfw, .ref qkp])), (qhd, .inl (cI, 30, .inl hd)), (qsf, .inl (cI, 30, .inl sf)), (qpa, .inl (cJ, 30, .inr (.inl pa)))]) [0, 2, 3, 5] rfl
      have hDc := hD.sub (ws' := [(mm, .inr (5, [.int (nI ly), .int (nI ce), .ref qlo, .ref qlk, .ref qhd, .ref qsf, .ref qpr, .ref qpa, .ref qsk, .long co, .long wo, .int (nI dy), .int da, .int db, .int dr, .int (nI mn), .ref qld, .ref qlz, .int (nI rn), .ref qrd, .ref qrv, .ref qhi, .ref qfw, .ref qkp])), (qhd, .inl (cI, 30, .inl hd)), (qsf, .inl (cI, 30, .inl sf)), (qpa, .inl (cJ, 30, .inr (.inl pa)))]) [0, 2, 3, 5] (by decide) rfl
      have hFc := va_free (wc := [(mm, .inr (5, [.int (nI ly), .int (nI ce), .ref qlo, .ref qlk, .ref qhd, .ref qsf, .ref qpr, .ref qpa, .ref qsk, .long co, .long wo, .int (nI dy), .int da, .int db, .int dr, .int (nI mn), .ref qld, .ref qlz, .int (nI rn), .ref qrd, .ref qrv, .ref qhi, .ref qfw, .ref qkp])), (qhd, .inl (cI, 30, .inl hd)), (qsf, .inl (cI, 30, .inl sf)), (qpa, .inl (cJ, 30, .inr (.inl pa)))]) hD hS hA [0, 2, 3, 5] rfl
      refine va_calll (va_runV (As := [.int (nI i), .long (co - (pr i)), .long (k_all lz mn)]) (rest := [.long (k_me hd sf lof lz mn co pr pa sk ce i)]) ⟨hx, hb, hml, hown, htw⟩ (kM_sinking l dC dI cI cJ mm qlo qlk qhd qsf qpr qpa qsk qld qlz qrd qrv qhi qfw qkp H.size i (co - (pr i)) (k_all lz mn) ly ce co wo dy da db dr mn rn hd sf pa (by first | assumption | omega | decide)) (cwV 3 htw (wv_good m_465 m_467 ms_7 m_6 m_468) rfl rfl rfl (by decide +kernel) ⟨Nat.le_of_ble_eq_true rfl, Nat.le_of_ble_eq_true rfl⟩) ⟨fun a U g mk q => by obtain ⟨q0, q1, qP, qK, qD⟩ := q; exact ⟨q0, q1, qP, va_K.moved (u := U) (U := U.calling g mk a) (Vm.Alike.refl U.vm) qK, qD⟩, va_recv hK hPc (ci := 5) (q0 := 0) rfl rfl, fun U hU hW => ⟨rfl, by rw [hU], by rw [hU]; exact hPc, va_K.moved hW.alike hK, hDc.weaken (fun _ _ _ _ => trivial)⟩⟩ rfl rfl hl.1 rfl (lv_room (Nat.le_of_ble_eq_true rfl)) dM_endUnits_63 ⟨Nat.le_of_ble_eq_true rfl, Nat.le_of_ble_eq_true rfl⟩) hS (fun q _ h => hFc q h) hFc (fun res_ u_ t H1 locs ht hvm hw hB hz1 hk1 hS => ?_)
      obtain ⟨hP1, hK1, hD1⟩ := hB
      rw [ht] at hP1
      obtain ⟨hP, hD⟩ := va_join (wr := [(qlo, .inl (cI, 30, .inl lof)), (qpr, .inl (cJ, 30, .inr (.inl pr))), (qsk, .inl (cJ, 30, .inr (.inl sk))), (qlz, .inl (cI, 12, .inl lz))]) (w1 := [(mm, .inr (5, [.int (nI ly), .int (nI ce), .ref qlo, .ref qlk, .ref qhd, .ref qsf, .ref qpr, .ref qpa, .ref qsk, .long co, .long wo, .int (nI dy), .int da, .int db, .int dr, .int (nI mn), .ref qld, .ref qlz, .int (nI rn), .ref qrd, .ref qrv, .ref qhi, .ref qfw, .ref qkp])), (qhd, .inl (cI, 30, .inl hd)), (qsf, .inl (cI, 30, .inl sf)), (qpa, .inl (cJ, 30, .inr (.inl pa)))]) hP hD [0, 2, 3, 5] [1, 4, 6, 7] rfl rfl (by decide) (by decide) hk1 hFc hP1 hD1
      generalize H1 = H at hP hS ⊢
      have hP := hP.sub (ws' := [(mm, .inr (5, [.int (nI ly), .int (nI ce), .ref qlo, .ref qlk, .ref qhd, .ref qsf, .ref qpr, .ref qpa, .ref qsk, .long co, .long wo, .int (nI dy), .int da, .int db, .int dr, .int (nI mn), .ref qld, .ref qlz, .int (nI rn), .ref qrd, .ref qrv, .ref qhi, .ref qfw, .ref qkp])), (qlo, .inl (cI, 30, .inl lof)), (qhd, .inl (cI, 30, .inl hd)), (qsf, .inl (cI, 30, .inl sf)), (qpr, .inl (cJ, 30, .inr (.inl pr))), (qpa, .inl (cJ, 30, .inr (.inl pa))), (qsk, .inl (cJ, 30, .inr (.inl sk))), (qlz, .inl (cI, 12, .inl lz))]) [4, 0, 5, 6, 1, 7, 2, 3] rfl
      have hD := hD.sub (ws' := [(mm, .inr (5, [.int (nI ly), .int (nI ce), .ref qlo, .ref qlk, .ref qhd, .ref qsf, .ref qpr, .ref qpa, .ref qsk, .long co, .long wo, .int (nI dy), .int da, .int db, .int dr, .int (nI mn), .ref qld, .ref qlz, .int (nI rn), .ref qrd, .ref qrv, .ref qhi, .ref qfw, .ref qkp])), (qlo, .inl (cI, 30, .inl lof)), (qhd, .inl (cI, 30, .inl hd)), (qsf, .inl (cI, 30, .inl sf)), (qpr, .inl (cJ, 30, .inr (.inl pr))), (qpa, .inl (cJ, 30, .inr (.inl pa))), (qsk, .inl (cJ, 30, .inr (.inl sk))), (qlz, .inl (cI, 12, .inl lz))]) [4, 0, 5, 6, 1, 7, 2, 3] (by decide) rfl
      clear hPc hDc hFc hP1 hD1 hK1 hk1 hz1 hvm ht
      obtain rfl : k_sk hd sf pa i (co - (pr i)) (k_all lz mn) = res_ := hw.symm
      refine lv_ladd hx hb dM_endUnits_66 ?_
      refine lv_lstore_n (lv' := [(3, .long ((k_me hd sf lof lz mn co pr pa sk ce i) + (k_sk hd sf pa i (co - (pr i)) (k_all lz mn)))), (0, .ref mm), (1, .long (k_all lz mn)), (5, .int (nI i))]) hx hb dM_endUnits_67 rfl hl (by decide) rfl (fun ls hl => ?_)
      refine lv_iinc (v := nI (i + 1)) (lv' := [(5, .int (nI (i + 1))), (3, .long ((k_me hd sf lof lz mn co pr pa sk ce i) + (k_sk hd sf pa i (co - (pr i)) (k_all lz mn)))), (0, .ref mm), (1, .long (k_all lz mn))]) hx hb dM_endUnits_68 hl (k := 3) rfl (nI_1 _) (by decide) rfl (fun ls hl => ?_)
      refine lv_goto (tgt := 37) hx hb dM_endUnits_71 (by decide) ?_
      have hP : va_P (dC, dI) vwCl [(mm, .inr (5, [.int (nI ly), .int (nI ce), .ref qlo, .ref qlk, .ref qhd, .ref qsf, .ref qpr, .ref qpa, .ref qsk, .long co, .long wo, .int (nI dy), .int da, .int db, .int dr, .int (nI mn), .ref qld, .ref qlz, .int (nI rn), .ref qrd, .ref qrv, .ref qhi, .ref qfw, .ref qkp])), (qlo, .inl (cI, 30, .inl lof)), (qhd, .inl (cI, 30, .inl hd)), (qsf, .inl (cI, 30, .inl sf)), (qpr, .inl (cJ, 30, .inr (.inl pr))), (qpa, .inl (cJ, 30, .inr (.inl pa))), (qsk, .inl (cJ, 30, .inr (.inl sk))), (qlz, .inl (cI, 12, .inl lz))] H := by first | exact hP | simpa only [] using hP
      have hD : va_D A [(mm, .inr (5, [.int (nI ly), .int (nI ce), .ref qlo, .ref qlk, .ref qhd, .ref qsf, .ref qpr, .ref qpa, .ref qsk, .long co, .long wo, .int (nI dy), .int da, .int db, .int dr, .int (nI mn), .ref qld, .ref qlz, .int (nI rn), .ref qrd, .ref qrv, .ref qhi, .ref qfw, .ref qkp])), (qlo, .inl (cI, 30, .inl lof)), (qhd, .inl (cI, 30, .inl hd)), (qsf, .inl (cI, 30, .inl sf)), (qpr, .inl (cJ, 30, .inr (.inl pr))), (qpa, .inl (cJ, 30, .inr (.inl pa))), (qsk, .inl (cJ, 30, .inr (.inl sk))), (qlz, .inl (cI, 12, .inl lz))] := by first | exact hD | simpa only [] using hD
      have eq2 : ((k_me hd sf lof lz mn co pr pa sk ce i) + (k_sk hd sf pa i (co - (pr i)) (k_all lz mn))) = k_me hd sf lof lz mn co pr pa sk ce (i + 1) := k_me_s
      rw [eq2] at hl
      exact ih37 (by omega) _ _ _ ⟨hP, hD, hS, lv_sub hl [2, 3, 1, 0] rfl⟩
  · -- 9 not taken
    rw [nI_leI (by omega) (by omega)] at hc9
    refine lv_lload_n hx hb dM_endUnits_12 rfl (lv_at hl 1 rfl) ?_
    refine lv_aload_n hx hb dM_endUnits_13 rfl (lv_at hl 0 rfl) ?_
    refine va_get (D := (dC, dI)) (ci := 5) (v := .ref qlz) (C := R_M) (T := T_M) (N := 24) hx hb htw in_M hown hK hP 0 rfl rfl 17 (by decide) (htw _ m_374) (fun _ h9 => h9) rfl dM_endUnits_14 ?_
    refine lv_iload_n hx hb dM_endUnits_17 rfl (lv_at hl 2 rfl) ?_
    refine xa_iald hx hb hK hP 7 0 rfl rfl (i := i) (by omega) (by decide) dM_endUnits_18 ?_
    refine lv_i2l (v := (lz i).toInt64) hx hb dM_endUnits_19 rfl ?_
    refine lv_ladd hx hb dM_endUnits_20 ?_
    refine lv_lstore_n (lv' := [(1, .long ((k_all lz i) + ((lz i).toInt64))), (0, .ref mm), (3, .int (nI i))]) hx hb dM_endUnits_21 rfl hl (by decide) rfl (fun ls hl => ?_)
    refine lv_iinc (v := nI (i + 1)) (lv' := [(3, .int (nI (i + 1))), (1, .long ((k_all lz i) + ((lz i).toInt64))), (0, .ref mm)]) hx hb dM_endUnits_22 hl (k := 2) rfl (nI_1 _) (by decide) rfl (fun ls hl => ?_)
    refine lv_goto (tgt := 4) hx hb dM_endUnits_25 (by decide) ?_
    have hP : va_P (dC, dI) vwCl [(mm, .inr (5, [.int (nI ly), .int (nI ce), .ref qlo, .ref qlk, .ref qhd, .ref qsf, .ref qpr, .ref qpa, .ref qsk, .long co, .long wo, .int (nI dy), .int da, .int db, .int dr, .int (nI mn), .ref qld, .ref qlz, .int (nI rn), .ref qrd, .ref qrv, .ref qhi, .ref qfw, .ref qkp])), (qlo, .inl (cI, 30, .inl lof)), (qhd, .inl (cI, 30, .inl hd)), (qsf, .inl (cI, 30, .inl sf)), (qpr, .inl (cJ, 30, .inr (.inl pr))), (qpa, .inl (cJ, 30, .inr (.inl pa))), (qsk, .inl (cJ, 30, .inr (.inl sk))), (qlz, .inl (cI, 12, .inl lz))] H := by first | exact hP | simpa only [] using hP
    have hD : va_D A [(mm, .inr (5, [.int (nI ly), .int (nI ce), .ref qlo, .ref qlk, .ref qhd, .ref qsf, .ref qpr, .ref qpa, .ref qsk, .long co, .long wo, .int (nI dy), .int da, .int db, .int dr, .int (nI mn), .ref qld, .ref qlz, .int (nI rn), .ref qrd, .ref qrv, .ref qhi, .ref qfw, .ref qkp])), (qlo, .inl (cI, 30, .inl lof)), (qhd, .inl (cI, 30, .inl hd)), (qsf, .inl (cI, 30, .inl sf)), (qpr, .inl (cJ, 30, .inr (.inl pr))), (qpa, .inl (cJ, 30, .inr (.inl pa))), (qsk, .inl (cJ, 30, .inr (.inl sk))), (qlz, .inl (cI, 12, .inl lz))] := by first | exact hD | simpa only [] using hD
    exact ih4 (by omega) _ _ _ ⟨hP, hD, hS, lv_sub hl [2, 1, 0] rfl⟩
set_option maxHeartbeats 4000000 in
set_option maxRecDepth 100000 in
theorem kM_end (l : Launch) (dC : Nat → ClassId) (dI : Nat → Nat → Nat) (cI cJ : ClassId) (mm qlo qlk qhd qsf qpr qpa qsk qld qlz qrd qrv qhi qfw qkp : Nat) (sz : Nat) (ly : Nat) (ce : Nat) (co : Int64) (wo : Int64) (dy : Nat) (da : Int32) (db : Int32) (dr : Int32) (mn : Nat) (rn : Nat) (lof : Nat → Int32) (hd : Nat → Int32) (sf : Nat → Int32) (pr : Nat → Int64) (pa : Nat → Int64) (sk : Nat → Int64) (lz : Nat → Int32) (hce : ce ≤ 30) (hmn : mn ≤ 12) : Met l yM_end wM_end ({ frames := 2, cells := 0, slots := 0, locals := 52 }) (va_Pc [.ref mm] (fun U => U.heap.size = sz ∧ va_P (dC, dI) vwCl [(mm, .inr (5, [.int (nI ly), .int (nI ce), .ref qlo, .ref qlk, .ref qhd, .ref qsf, .ref qpr, .ref qpa, .ref qsk, .long co, .long wo, .int (nI dy), .int da, .int db, .int dr, .int (nI mn), .ref qld, .ref qlz, .int (nI rn), .ref qrd, .ref qrv, .ref qhi, .ref qfw, .ref qkp])), (qlo, .inl (cI, 30, .inl lof)), (qhd, .inl (cI, 30, .inl hd)), (qsf, .inl (cI, 30, .inl sf)), (qpr, .inl (cJ, 30, .inr (.inl pr))), (qpa, .inl (cJ, 30, .inr (.inl pa))), (qsk, .inl (cJ, 30, .inr (.inl sk))), (qlz, .inl (cI, 12, .inl lz))] U.heap ∧ va_K (dC, dI) vwCl [(cI, .int), (cJ, .long)] U ∧ va_D (fun _ => True) [(mm, .inr (5, [.int (nI ly), .int (nI ce), .ref qlo, .ref qlk, .ref qhd, .ref qsf, .ref qpr, .ref qpa, .ref qsk, .long co, .long wo, .int (nI dy), .int da, .int db, .int dr, .int (nI mn), .ref qld, .ref qlz, .int (nI rn), .ref qrd, .ref qrv, .ref qhi, .ref qfw, .ref qkp])), (qlo, .inl (cI, 30, .inl lof)), (qhd, .inl (cI, 30, .inl hd)), (qsf, .inl (cI, 30, .inl sf)), (qpr, .inl (cJ, 30, .inr (.inl pr))), (qpa, .inl (cJ, 30, .inr (.inl pa))), (qsk, .inl (cJ, 30, .inr (.inl sk))), (qlz, .inl (cI, 12, .inl lz))])) (va_Ql (fun res_ (_ : Unit) => res_ = k_me hd sf lof lz mn co pr pa sk ce ce / 1000) (fun _ t => va_P (dC, dI) vwCl [(mm, .inr (5, [.int (nI ly), .int (nI ce), .ref qlo, .ref qlk, .ref qhd, .ref qsf, .ref qpr, .ref qpa, .ref qsk, .long co, .long wo, .int (nI dy), .int da, .int db, .int dr, .int (nI mn), .ref qld, .ref qlz, .int (nI rn), .ref qrd, .ref qrv, .ref qhi, .ref qfw, .ref qkp])), (qlo, .inl (cI, 30, .inl lof)), (qhd, .inl (cI, 30, .inl hd)), (qsf, .inl (cI, 30, .inl sf)), (qpr, .inl (cJ, 30, .inr (.inl pr))), (qpa, .inl (cJ, 30, .inr (.inl pa))), (qsk, .inl (cJ, 30, .inr (.inl sk))), (qlz, .inl (cI, 12, .inl lz))] t.heap ∧ va_K (dC, dI) vwCl [(cI, .int), (cJ, .long)] t ∧ va_D (va_A [(mm, .inr (5, [.int (nI ly), .int (nI ce), .ref qlo, .ref qlk, .ref qhd, .ref qsf, .ref qpr, .ref qpa, .ref qsk, .long co, .long wo, .int (nI dy), .int da, .int db, .int dr, .int (nI mn), .ref qld, .ref qlz, .int (nI rn), .ref qrd, .ref qrv, .ref qhi, .ref qfw, .ref qkp])), (qlo, .inl (cI, 30, .inl lof)), (qhd, .inl (cI, 30, .inl hd)), (qsf, .inl (cI, 30, .inl sf)), (qpr, .inl (cJ, 30, .inr (.inl pr))), (qpa, .inl (cJ, 30, .inr (.inl pa))), (qsk, .inl (cJ, 30, .inr (.inl sk))), (qlz, .inl (cI, 12, .inl lz))] sz) [(mm, .inr (5, [.int (nI ly), .int (nI ce), .ref qlo, .ref qlk, .ref qhd, .ref qsf, .ref qpr, .ref qpa, .ref qsk, .long co, .long wo, .int (nI dy), .int da, .int db, .int dr, .int (nI mn), .ref qld, .ref qlz, .int (nI rn), .ref qrd, .ref qrv, .ref qhi, .ref qfw, .ref qkp])), (qlo, .inl (cI, 30, .inl lof)), (qhd, .inl (cI, 30, .inl hd)), (qsf, .inl (cI, 30, .inl sf)), (qpr, .inl (cJ, 30, .inr (.inl pr))), (qpa, .inl (cJ, 30, .inr (.inl pa))), (qsk, .inl (cJ, 30, .inr (.inl sk))), (qlz, .inl (cI, 12, .inl lz))]) (va_A [(mm, .inr (5, [.int (nI ly), .int (nI ce), .ref qlo, .ref qlk, .ref qhd, .ref qsf, .ref qpr, .ref qpa, .ref qsk, .long co, .long wo, .int (nI dy), .int da, .int db, .int dr, .int (nI mn), .ref qld, .ref qlz, .int (nI rn), .ref qrd, .ref qrv, .ref qhi, .ref qfw, .ref qkp])), (qlo, .inl (cI, 30, .inl lof)), (qhd, .inl (cI, 30, .inl hd)), (qsf, .inl (cI, 30, .inl sf)), (qpr, .inl (cJ, 30, .inr (.inl pr))), (qpa, .inl (cJ, 30, .inr (.inl pa))), (qsk, .inl (cJ, 30, .inr (.inl sk))), (qlz, .inl (cI, 12, .inl lz))] sz)) 0 0 (va_A [(mm, .inr (5, [.int (nI ly), .int (nI ce), .ref qlo, .ref qlk, .ref qhd, .ref qsf, .ref qpr, .ref qpa, .ref qsk, .long co, .long wo, .int (nI dy), .int da, .int db, .int dr, .int (nI mn), .ref qld, .ref qlz, .int (nI rn), .ref qrd, .ref qrv, .ref qhi, .ref qfw, .ref qkp])), (qlo, .inl (cI, 30, .inl lof)), (qhd, .inl (cI, 30, .inl hd)), (qsf, .inl (cI, 30, .inl sf)), (qpr, .inl (cJ, 30, .inr (.inl pr))), (qpa, .inl (cJ, 30, .inr (.inl pa))), (qsk, .inl (cJ, 30, .inr (.inl sk))), (qlz, .inl (cI, 12, .inl lz))] sz) := by
  refine Met.ofW (cc := bM_end) (maxL := 1) (ret := (some .long)) (by decide) rfl ?_
  intro p e s m args below meth c s₁ B hml hv
  obtain ⟨rfl, hsz, hP, hK, hD0⟩ := hv
  have hx := B.exec
  have hb := B.bytes
  have hr := B.returns
  have hts := atoms_spec (ws := wM_end) B.pre
  have hown : s.vm.findClass R_M = some m.cls := findClass_of_methodNamed B.named
  have htw : ∀ w ∈ WA, w.before _ s = true := fun w h => hts w (List.mem_cons_of_mem _ h)
  clear hts
  have hlocks := B.notSynchronized
  subst hsz
  have hD := hD0.self (sz := s.heap.size)
  generalize hAe : va_A [(mm, .inr (5, [.int (nI ly), .int (nI ce), .ref qlo, .ref qlk, .ref qhd, .ref qsf, .ref qpr, .ref qpa, .ref qsk, .long co, .long wo, .int (nI dy), .int da, .int db, .int dr, .int (nI mn), .ref qld, .ref qlz, .int (nI rn), .ref qrd, .ref qrv, .ref qhi, .ref qfw, .ref qkp])), (qlo, .inl (cI, 30, .inl lof)), (qhd, .inl (cI, 30, .inl hd)), (qsf, .inl (cI, 30, .inl sf)), (qpr, .inl (cJ, 30, .inr (.inl pr))), (qpa, .inl (cJ, 30, .inr (.inl pa))), (qsk, .inl (cJ, 30, .inr (.inl sk))), (qlz, .inl (cI, 12, .inl lz))] s.heap.size = A at hD ⊢
  have hA : ∀ q : Nat, s.heap.size ≤ q → A q := fun q h => by rw [← hAe]; exact Or.inr h
  clear hAe hD0
  have hS : va_S A s.heap s.heap [] := va_S.rf
  have hP : va_P (dC, dI) vwCl [(mm, .inr (5, [.int (nI ly), .int (nI ce), .ref qlo, .ref qlk, .ref qhd, .ref qsf, .ref qpr, .ref qpa, .ref qsk, .long co, .long wo, .int (nI dy), .int da, .int db, .int dr, .int (nI mn), .ref qld, .ref qlz, .int (nI rn), .ref qrd, .ref qrv, .ref qhi, .ref qfw, .ref qkp])), (qlo, .inl (cI, 30, .inl lof)), (qhd, .inl (cI, 30, .inl hd)), (qsf, .inl (cI, 30, .inl sf)), (qpr, .inl (cJ, 30, .inr (.inl pr))), (qpa, .inl (cJ, 30, .inr (.inl pa))), (qsk, .inl (cJ, 30, .inr (.inl sk))), (qlz, .inl (cI, 12, .inl lz))] s.heap := hP
  have hl := lv_entry ([.ref mm]) (n := 1) (Nat.le_of_ble_eq_true rfl)
  rw [lg_entry_eq]
  generalize (lg_sl ([.ref mm]) ++ List.replicate (1 - (lg_sl ([.ref mm])).length) Slot.unset).toArray = ls at hl ⊢
  have hl : lv_has ls 1 [(0, .ref mm)] := hl
  refine lv_aload_n hx hb dM_end_0 rfl (lv_at hl 0 rfl) ?_
  have hPc := hP.sub (ws' := [(mm, .inr (5, [.int (nI ly), .int (nI ce), .ref qlo, .ref qlk, .ref qhd, .ref qsf, .ref qpr, .ref qpa, .ref qsk, .long co, .long wo, .int (nI dy), .int da, .int db, .int dr, .int (nI mn), .ref qld, .ref qlz, .int (nI rn), .ref qrd, .ref qrv, .ref qhi, .ref qfw, .ref qkp])), (qlo, .inl (cI, 30, .inl lof)), (qhd, .inl (cI, 30, .inl hd)), (qsf, .inl (cI, 30, .inl sf)), (qpr, .inl (cJ, 30, .inr (.inl pr))), (qpa, .inl (cJ, 30, .inr (.inl pa))), (qsk, .inl (cJ, 30, .inr (.inl sk))), (qlz, .inl (cI, 12, .inl lz))]) [0, 1, 2, 3, 4, 5, 6, 7] rfl
  have hDc := hD.sub (ws' := [(mm, .inr (5, [.int (nI ly), .int (nI ce), .ref qlo, .ref qlk, .ref qhd, .ref qsf, .ref qpr, .ref qpa, .ref qsk, .long co, .long wo, .int (nI dy), .int da, .int db, .int dr, .int (nI mn), .ref qld, .ref qlz, .int (nI rn), .ref qrd, .ref qrv, .ref qhi, .ref qfw, .ref qkp])), (qlo, .inl (cI, 30, .inl lof)), (qhd, .inl (cI, 30, .inl hd)), (qsf, .inl (cI, 30, .inl sf)), (qpr, .inl (cJ, 30, .inr (.inl pr))), (qpa, .inl (cJ, 30, .inr (.inl pa))), (qsk, .inl (cJ, 30, .inr (.inl sk))), (qlz, .inl (cI, 12, .inl lz))]) [0, 1, 2, 3, 4, 5, 6, 7] (by decide) rfl
  have hFc := va_free (wc := [(mm, .inr (5, [.int (nI ly), .int (nI ce), .ref qlo, .ref qlk, .ref qhd, .ref qsf, .ref qpr, .ref qpa, .ref qsk, .long co, .long wo, .int (nI dy), .int da, .int db, .int dr, .int (nI mn), .ref qld, .ref qlz, .int (nI rn), .ref qrd, .ref qrv, .ref qhi, .ref qfw, .ref qkp])), (qlo, .inl (cI, 30, .inl lof)), (qhd, .inl (cI, 30, .inl hd)), (qsf, .inl (cI, 30, .inl sf)), (qpr, .inl (cJ, 30, .inr (.inl pr))), (qpa, .inl (cJ, 30, .inr (.inl pa))), (qsk, .inl (cJ, 30, .inr (.inl sk))), (qlz, .inl (cI, 12, .inl lz))]) hD hS hA [0, 1, 2, 3, 4, 5, 6, 7] rfl
  refine va_calll (va_runV (As := []) (rest := []) ⟨hx, hb, hml, hown, htw⟩ (kM_endUnits l dC dI cI cJ mm qlo qlk qhd qsf qpr qpa qsk qld qlz qrd qrv qhi qfw qkp s.heap.size ly ce co wo dy da db dr mn rn lof hd sf pr pa sk lz (by first | assumption | omega | decide) (by first | assumption | omega | decide)) (cwV 0 htw (wv_good m_495 m_497 ms_9 m_6 m_498) rfl rfl rfl (by decide +kernel) ⟨Nat.le_of_ble_eq_true rfl, Nat.le_of_ble_eq_true rfl⟩) ⟨fun a U g mk q => by obtain ⟨q0, q1, qP, qK, qD⟩ := q; exact ⟨q0, q1, qP, va_K.moved (u := U) (U := U.calling g mk a) (Vm.Alike.refl U.vm) qK, qD⟩, va_recv hK hPc (ci := 5) (q0 := 0) rfl rfl, fun U hU hW => ⟨rfl, by rw [hU], by rw [hU]; exact hPc, va_K.moved hW.alike hK, hDc.weaken (fun _ _ _ _ => trivial)⟩⟩ rfl rfl hl.1 rfl (lv_room (Nat.le_of_ble_eq_true rfl)) dM_end_1 ⟨Nat.le_of_ble_eq_true rfl, Nat.le_of_ble_eq_true rfl⟩) hS (fun q _ h => hFc q h) hFc (fun res_ u_ t H1 locs ht hvm hw hB hz1 hk1 hS => ?_)
  obtain ⟨hP1, hK1, hD1⟩ := hB
  rw [ht] at hP1
  obtain ⟨hP, hD⟩ := va_join (wr := []) (w1 := [(mm, .inr (5, [.int (nI ly), .int (nI ce), .ref qlo, .ref qlk, .ref qhd, .ref qsf, .ref qpr, .ref qpa, .ref qsk, .long co, .long wo, .int (nI dy), .int da, .int db, .int dr, .int (nI mn), .ref qld, .ref qlz, .int (nI rn), .ref qrd, .ref qrv, .ref qhi, .ref qfw, .ref qkp])), (qlo, .inl (cI, 30, .inl lof)), (qhd, .inl (cI, 30, .inl hd)), (qsf, .inl (cI, 30, .inl sf)), (qpr, .inl (cJ, 30, .inr (.inl pr))), (qpa, .inl (cJ, 30, .inr (.inl pa))), (qsk, .inl (cJ, 30, .inr (.inl sk))), (qlz, .inl (cI, 12, .inl lz))]) hP hD [0, 1, 2, 3, 4, 5, 6, 7] [] rfl rfl (by decide) (by decide) hk1 hFc hP1 hD1
  generalize H1 = H at hP hS ⊢
  have hP : va_P (dC, dI) vwCl [(mm, .inr (5, [.int (nI ly), .int (nI ce), .ref qlo, .ref qlk, .ref qhd, .ref qsf, .ref qpr, .ref qpa, .ref qsk, .long co, .long wo, .int (nI dy), .int da, .int db, .int dr, .int (nI mn), .ref qld, .ref qlz, .int (nI rn), .ref qrd, .ref qrv, .ref qhi, .ref qfw, .ref qkp])), (qlo, .inl (cI, 30, .inl lof)), (qhd, .inl (cI, 30, .inl hd)), (qsf, .inl (cI, 30, .inl sf)), (qpr, .inl (cJ, 30, .inr (.inl pr))), (qpa, .inl (cJ, 30, .inr (.inl pa))), (qsk, .inl (cJ, 30, .inr (.inl sk))), (qlz, .inl (cI, 12, .inl lz))] H := hP
  have hD : va_D A [(mm, .inr (5, [.int (nI ly), .int (nI ce), .ref qlo, .ref qlk, .ref qhd, .ref qsf, .ref qpr, .ref qpa, .ref qsk, .long co, .long wo, .int (nI dy), .int da, .int db, .int dr, .int (nI mn), .ref qld, .ref qlz, .int (nI rn), .ref qrd, .ref qrv, .ref qhi, .ref qfw, .ref qkp])), (qlo, .inl (cI, 30, .inl lof)), (qhd, .inl (cI, 30, .inl hd)), (qsf, .inl (cI, 30, .inl sf)), (qpr, .inl (cJ, 30, .inr (.inl pr))), (qpa, .inl (cJ, 30, .inr (.inl pa))), (qsk, .inl (cJ, 30, .inr (.inl sk))), (qlz, .inl (cI, 12, .inl lz))] := hD
  clear hPc hDc hFc hP1 hD1 hK1 hk1 hz1 hvm ht
  obtain rfl : k_me hd sf lof lz mn co pr pa sk ce ce = res_ := hw.symm
  refine lv_ldc2 (v := 1000) hx hb hown (htw _ m_439) dM_end_4 ?_
  refine lv_ldiv hx hb dM_end_7 (by decide) ?_
  have hP : va_P (dC, dI) vwCl [(mm, .inr (5, [.int (nI ly), .int (nI ce), .ref qlo, .ref qlk, .ref qhd, .ref qsf, .ref qpr, .ref qpa, .ref qsk, .long co, .long wo, .int (nI dy), .int da, .int db, .int dr, .int (nI mn), .ref qld, .ref qlz, .int (nI rn), .ref qrd, .ref qrv, .ref qhi, .ref qfw, .ref qkp])), (qlo, .inl (cI, 30, .inl lof)), (qhd, .inl (cI, 30, .inl hd)), (qsf, .inl (cI, 30, .inl sf)), (qpr, .inl (cJ, 30, .inr (.inl pr))), (qpa, .inl (cJ, 30, .inr (.inl pa))), (qsk, .inl (cJ, 30, .inr (.inl sk))), (qlz, .inl (cI, 12, .inl lz))] H := by first | exact hP | simpa only [] using hP
  have hD : va_D A [(mm, .inr (5, [.int (nI ly), .int (nI ce), .ref qlo, .ref qlk, .ref qhd, .ref qsf, .ref qpr, .ref qpa, .ref qsk, .long co, .long wo, .int (nI dy), .int da, .int db, .int dr, .int (nI mn), .ref qld, .ref qlz, .int (nI rn), .ref qrd, .ref qrv, .ref qhi, .ref qfw, .ref qkp])), (qlo, .inl (cI, 30, .inl lof)), (qhd, .inl (cI, 30, .inl hd)), (qsf, .inl (cI, 30, .inl sf)), (qpr, .inl (cJ, 30, .inr (.inl pr))), (qpa, .inl (cJ, 30, .inr (.inl pa))), (qsk, .inl (cJ, 30, .inr (.inl sk))), (qlz, .inl (cI, 12, .inl lz))] := by first | exact hD | simpa only [] using hD
  exact W.lret (v := (k_me hd sf lof lz mn co pr pa sk ce ce) / 1000) hx hb hr (fun t ht hW => ⟨⟨(k_me hd sf lof lz mn co pr pa sk ce ce) / 1000, (), rfl, rfl, by rw [ht]; exact hP, va_K.moved hW.alike hK, hD⟩, hS.F ht⟩) hS.2.2 dM_end_8
set_option maxHeartbeats 4000000 in
set_option maxRecDepth 100000 in
theorem kM_shareNow (l : Launch) (dC : Nat → ClassId) (dI : Nat → Nat → Nat) (cI cJ : ClassId) (mm qlo qlk qhd qsf qpr qpa qsk qld qlz qrd qrv qhi qfw qkp : Nat) (sz : Nat) (ly : Nat) (ce : Nat) (co : Int64) (wo : Int64) (dy : Nat) (da : Int32) (db : Int32) (dr : Int32) (mn : Nat) (rn : Nat) (lof : Nat → Int32) (hd : Nat → Int32) (sf : Nat → Int32) (pr : Nat → Int64) (pa : Nat → Int64) (sk : Nat → Int64) (lz : Nat → Int32) (hce : ce ≤ 30) (hmn : mn ≤ 12) : Met l yM_shareNow wM_shareNow ({ frames := 2, cells := 0, slots := 0, locals := 52 }) (va_Pc [.ref mm] (fun U => U.heap.size = sz ∧ va_P (dC, dI) vwCl [(mm, .inr (5, [.int (nI ly), .int (nI ce), .ref qlo, .ref qlk, .ref qhd, .ref qsf, .ref qpr, .ref qpa, .ref qsk, .long co, .long wo, .int (nI dy), .int da, .int db, .int dr, .int (nI mn), .ref qld, .ref qlz, .int (nI rn), .ref qrd, .ref qrv, .ref qhi, .ref qfw, .ref qkp])), (qlo, .inl (cI, 30, .inl lof)), (qhd, .inl (cI, 30, .inl hd)), (qsf, .inl (cI, 30, .inl sf)), (qpr, .inl (cJ, 30, .inr (.inl pr))), (qpa, .inl (cJ, 30, .inr (.inl pa))), (qsk, .inl (cJ, 30, .inr (.inl sk))), (qlz, .inl (cI, 12, .inl lz))] U.heap ∧ va_K (dC, dI) vwCl [(cI, .int), (cJ, .long)] U ∧ va_D (fun _ => True) [(mm, .inr (5, [.int (nI ly), .int (nI ce), .ref qlo, .ref qlk, .ref qhd, .ref qsf, .ref qpr, .ref qpa, .ref qsk, .long co, .long wo, .int (nI dy), .int da, .int db, .int dr, .int (nI mn), .ref qld, .ref qlz, .int (nI rn), .ref qrd, .ref qrv, .ref qhi, .ref qfw, .ref qkp])), (qlo, .inl (cI, 30, .inl lof)), (qhd, .inl (cI, 30, .inl hd)), (qsf, .inl (cI, 30, .inl sf)), (qpr, .inl (cJ, 30, .inr (.inl pr))), (qpa, .inl (cJ, 30, .inr (.inl pa))), (qsk, .inl (cJ, 30, .inr (.inl sk))), (qlz, .inl (cI, 12, .inl lz))])) (va_Qi (fun res_ (_ : Unit) => res_ = k_msh (k_mu lof sk (-1) ce) (k_me hd sf lof lz mn co pr pa sk ce ce)) (fun _ t => va_P (dC, dI) vwCl [(mm, .inr (5, [.int (nI ly), .int (nI ce), .ref qlo, .ref qlk, .ref qhd, .ref qsf, .ref qpr, .ref qpa, .ref qsk, .long co, .long wo, .int (nI dy), .int da, .int db, .int dr, .int (nI mn), .ref qld, .ref qlz, .int (nI rn), .ref qrd, .ref qrv, .ref qhi, .ref qfw, .ref qkp])), (qlo, .inl (cI, 30, .inl lof)), (qhd, .inl (cI, 30, .inl hd)), (qsf, .inl (cI, 30, .inl sf)), (qpr, .inl (cJ, 30, .inr (.inl pr))), (qpa, .inl (cJ, 30, .inr (.inl pa))), (qsk, .inl (cJ, 30, .inr (.inl sk))), (qlz, .inl (cI, 12, .inl lz))] t.heap ∧ va_K (dC, dI) vwCl [(cI, .int), (cJ, .long)] t ∧ va_D (va_A [(mm, .inr (5, [.int (nI ly), .int (nI ce), .ref qlo, .ref qlk, .ref qhd, .ref qsf, .ref qpr, .ref qpa, .ref qsk, .long co, .long wo, .int (nI dy), .int da, .int db, .int dr, .int (nI mn), .ref qld, .ref qlz, .int (nI rn), .ref qrd, .ref qrv, .ref qhi, .ref qfw, .ref qkp])), (qlo, .inl (cI, 30, .inl lof)), (qhd, .inl (cI, 30, .inl hd)), (qsf, .inl (cI, 30, .inl sf)), (qpr, .inl (cJ, 30, .inr (.inl pr))), (qpa, .inl (cJ, 30, .inr (.inl pa))), (qsk, .inl (cJ, 30, .inr (.inl sk))), (qlz, .inl (cI, 12, .inl lz))] sz) [(mm, .inr (5, [.int (nI ly), .int (nI ce), .ref qlo, .ref qlk, .ref qhd, .ref qsf, .ref qpr, .ref qpa, .ref qsk, .long co, .long wo, .int (nI dy), .int da, .int db, .int dr, .int (nI mn), .ref qld, .ref qlz, .int (nI rn), .ref qrd, .ref qrv, .ref qhi, .ref qfw, .ref qkp])), (qlo, .inl (cI, 30, .inl lof)), (qhd, .inl (cI, 30, .inl hd)), (qsf, .inl (cI, 30, .inl sf)), (qpr, .inl (cJ, 30, .inr (.inl pr))), (qpa, .inl (cJ, 30, .inr (.inl pa))), (qsk, .inl (cJ, 30, .inr (.inl sk))), (qlz, .inl (cI, 12, .inl lz))]) (va_A [(mm, .inr (5, [.int (nI ly), .int (nI ce), .ref qlo, .ref qlk, .ref qhd, .ref qsf, .ref qpr, .ref qpa, .ref qsk, .long co, .long wo, .int (nI dy), .int da, .int db, .int dr, .int (nI mn), .ref qld, .ref qlz, .int (nI rn), .ref qrd, .ref qrv, .ref qhi, .ref qfw, .ref qkp])), (qlo, .inl (cI, 30, .inl lof)), (qhd, .inl (cI, 30, .inl hd)), (qsf, .inl (cI, 30, .inl sf)), (qpr, .inl (cJ, 30, .inr (.inl pr))), (qpa, .inl (cJ, 30, .inr (.inl pa))), (qsk, .inl (cJ, 30, .inr (.inl sk))), (qlz, .inl (cI, 12, .inl lz))] sz)) 0 0 (va_A [(mm, .inr (5, [.int (nI ly), .int (nI ce), .ref qlo, .ref qlk, .ref qhd, .ref qsf, .ref qpr, .ref qpa, .ref qsk, .long co, .long wo, .int (nI dy), .int da, .int db, .int dr, .int (nI mn), .ref qld, .ref qlz, .int (nI rn), .ref qrd, .ref qrv, .ref qhi, .ref qfw, .ref qkp])), (qlo, .inl (cI, 30, .inl lof)), (qhd, .inl (cI, 30, .inl hd)), (qsf, .inl (cI, 30, .inl sf)), (qpr, .inl (cJ, 30, .inr (.inl pr))), (qpa, .inl (cJ, 30, .inr (.inl pa))), (qsk, .inl (cJ, 30, .inr (.inl sk))), (qlz, .inl (cI, 12, .inl lz))] sz) := by
  refine Met.ofW (cc := bM_shareNow) (maxL := 3) (ret := (some .int)) (by decide) rfl ?_
  intro p e s m args below meth c s₁ B hml hv
  obtain ⟨rfl, hsz, hP, hK, hD0⟩ := hv
  have hx := B.exec
  have hb := B.bytes
  have hr := B.returns
  have hts := atoms_spec (ws := wM_shareNow) B.pre
  have hown : s.vm.findClass R_M = some m.cls := findClass_of_methodNamed B.named
  have htw : ∀ w ∈ WA, w.before _ s = true := fun w h => hts w (List.mem_cons_of_mem _ h)
  clear hts
  have hlocks := B.notSynchronized
  subst hsz
  have hD := hD0.self (sz := s.heap.size)
  generalize hAe : va_A [(mm, .inr (5, [.int (nI ly), .int (nI ce), .ref qlo, .ref qlk, .ref qhd, .ref qsf, .ref qpr, .ref qpa, .ref qsk, .long co, .long wo, .int (nI dy), .int da, .int db, .int dr, .int (nI mn), .ref qld, .ref qlz, .int (nI rn), .ref qrd, .ref qrv, .ref qhi, .ref qfw, .ref qkp])), (qlo, .inl (cI, 30, .inl lof)), (qhd, .inl (cI, 30, .inl hd)), (qsf, .inl (cI, 30, .inl sf)), (qpr, .inl (cJ, 30, .inr (.inl pr))), (qpa, .inl (cJ, 30, .inr (.inl pa))), (qsk, .inl (cJ, 30, .inr (.inl sk))), (qlz, .inl (cI, 12, .inl lz))] s.heap.size = A at hD ⊢
  have hA : ∀ q : Nat, s.heap.size ≤ q → A q := fun q h => by rw [← hAe]; exact Or.inr h
  clear hAe hD0
  have hS : va_S A s.heap s.heap [] := va_S.rf
  have hP : va_P (dC, dI) vwCl [(mm, .inr (5, [.int (nI ly), .int (nI ce), .ref qlo, .ref qlk, .ref qhd, .ref qsf, .ref qpr, .ref qpa, .ref qsk, .long co, .long wo, .int (nI dy), .int da, .int db, .int dr, .int (nI mn), .ref qld, .ref qlz, .int (nI rn), .ref qrd, .ref qrv, .ref qhi, .ref qfw, .ref qkp])), (qlo, .inl (cI, 30, .inl lof)), (qhd, .inl (cI, 30, .inl hd)), (qsf, .inl (cI, 30, .inl sf)), (qpr, .inl (cJ, 30, .inr (.inl pr))), (qpa, .inl (cJ, 30, .inr (.inl pa))), (qsk, .inl (cJ, 30, .inr (.inl sk))), (qlz, .inl (cI, 12, .inl lz))] s.heap := hP
  have hl := lv_entry ([.ref mm]) (n := 3) (Nat.le_of_ble_eq_true rfl)
  rw [lg_entry_eq]
  generalize (lg_sl ([.ref mm]) ++ List.replicate (3 - (lg_sl ([.ref mm])).length) Slot.unset).toArray = ls at hl ⊢
  have hl : lv_has ls 3 [(0, .ref mm)] := hl
  refine lv_aload_n hx hb dM_shareNow_0 rfl (lv_at hl 0 rfl) ?_
  have hPc := hP.sub (ws' := [(mm, .inr (5, [.int (nI ly), .int (nI ce), .ref qlo, .ref qlk, .ref qhd, .ref qsf, .ref qpr, .ref qpa, .ref qsk, .long co, .long wo, .int (nI dy), .int da, .int db, .int dr, .int (nI mn), .ref qld, .ref qlz, .int (nI rn), .ref qrd, .ref qrv, .ref qhi, .ref qfw, .ref qkp])), (qlo, .inl (cI, 30, .inl lof)), (qhd, .inl (cI, 30, .inl hd)), (qsf, .inl (cI, 30, .inl sf)), (qpr, .inl (cJ, 30, .inr (.inl pr))), (qpa, .inl (cJ, 30, .inr (.inl pa))), (qsk, .inl (cJ, 30, .inr (.inl sk))), (qlz, .inl (cI, 12, .inl lz))]) [0, 1, 2, 3, 4, 5, 6, 7] rfl
  have hDc := hD.sub (ws' := [(mm, .inr (5, [.int (nI ly), .int (nI ce), .ref qlo, .ref qlk, .ref qhd, .ref qsf, .ref qpr, .ref qpa, .ref qsk, .long co, .long wo, .int (nI dy), .int da, .int db, .int dr, .int (nI mn), .ref qld, .ref qlz, .int (nI rn), .ref qrd, .ref qrv, .ref qhi, .ref qfw, .ref qkp])), (qlo, .inl (cI, 30, .inl lof)), (qhd, .inl (cI, 30, .inl hd)), (qsf, .inl (cI, 30, .inl sf)), (qpr, .inl (cJ, 30, .inr (.inl pr))), (qpa, .inl (cJ, 30, .inr (.inl pa))), (qsk, .inl (cJ, 30, .inr (.inl sk))), (qlz, .inl (cI, 12, .inl lz))]) [0, 1, 2, 3, 4, 5, 6, 7] (by decide) rfl
  have hFc := va_free (wc := [(mm, .inr (5, [.int (nI ly), .int (nI ce), .ref qlo, .ref qlk, .ref qhd, .ref qsf, .ref qpr, .ref qpa, .ref qsk, .long co, .long wo, .int (nI dy), .int da, .int db, .int dr, .int (nI mn), .ref qld, .ref qlz, .int (nI rn), .ref qrd, .ref qrv, .ref qhi, .ref qfw, .ref qkp])), (qlo, .inl (cI, 30, .inl lof)), (qhd, .inl (cI, 30, .inl hd)), (qsf, .inl (cI, 30, .inl sf)), (qpr, .inl (cJ, 30, .inr (.inl pr))), (qpa, .inl (cJ, 30, .inr (.inl pa))), (qsk, .inl (cJ, 30, .inr (.inl sk))), (qlz, .inl (cI, 12, .inl lz))]) hD hS hA [0, 1, 2, 3, 4, 5, 6, 7] rfl
  refine va_calll (va_runV (As := []) (rest := []) ⟨hx, hb, hml, hown, htw⟩ (kM_endUnits l dC dI cI cJ mm qlo qlk qhd qsf qpr qpa qsk qld qlz qrd qrv qhi qfw qkp s.heap.size ly ce co wo dy da db dr mn rn lof hd sf pr pa sk lz (by first | assumption | omega | decide) (by first | assumption | omega | decide)) (cwV 0 htw (wv_good m_495 m_497 ms_9 m_6 m_498) rfl rfl rfl (by decide +kernel) ⟨Nat.le_of_ble_eq_true rfl, Nat.le_of_ble_eq_true rfl⟩) ⟨fun a U g mk q => by obtain ⟨q0, q1, qP, qK, qD⟩ := q; exact ⟨q0, q1, qP, va_K.moved (u := U) (U := U.calling g mk a) (Vm.Alike.refl U.vm) qK, qD⟩, va_recv hK hPc (ci := 5) (q0 := 0) rfl rfl, fun U hU hW => ⟨rfl, by rw [hU], by rw [hU]; exact hPc, va_K.moved hW.alike hK, hDc.weaken (fun _ _ _ _ => trivial)⟩⟩ rfl rfl hl.1 rfl (lv_room (Nat.le_of_ble_eq_true rfl)) dM_shareNow_1 ⟨Nat.le_of_ble_eq_true rfl, Nat.le_of_ble_eq_true rfl⟩) hS (fun q _ h => hFc q h) hFc (fun res_ u_ t H1 locs ht hvm hw hB hz1 hk1 hS => ?_)
  obtain ⟨hP1, hK1, hD1⟩ := hB
  rw [ht] at hP1
  obtain ⟨hP, hD⟩ := va_join (wr := []) (w1 := [(mm, .inr (5, [.int (nI ly), .int (nI ce), .ref qlo, .ref qlk, .ref qhd, .ref qsf, .ref qpr, .ref qpa, .ref qsk, .long co, .long wo, .int (nI dy), .int da, .int db, .int dr, .int (nI mn), .ref qld, .ref qlz, .int (nI rn), .ref qrd, .ref qrv, .ref qhi, .ref qfw, .ref qkp])), (qlo, .inl (cI, 30, .inl lof)), (qhd, .inl (cI, 30, .inl hd)), (qsf, .inl (cI, 30, .inl sf)), (qpr, .inl (cJ, 30, .inr (.inl pr))), (qpa, .inl (cJ, 30, .inr (.inl pa))), (qsk, .inl (cJ, 30, .inr (.inl sk))), (qlz, .inl (cI, 12, .inl lz))]) hP hD [0, 1, 2, 3, 4, 5, 6, 7] [] rfl rfl (by decide) (by decide) hk1 hFc hP1 hD1
  generalize H1 = H at hP hS ⊢
  have hP : va_P (dC, dI) vwCl [(mm, .inr (5, [.int (nI ly), .int (nI ce), .ref qlo, .ref qlk, .ref qhd, .ref qsf, .ref qpr, .ref qpa, .ref qsk, .long co, .long wo, .int (nI dy), .int da, .int db, .int dr, .int (nI mn), .ref qld, .ref qlz, .int (nI rn), .ref qrd, .ref qrv, .ref qhi, .ref qfw, .ref qkp])), (qlo, .inl (cI, 30, .inl lof)), (qhd, .inl (cI, 30, .inl hd)), (qsf, .inl (cI, 30, .inl sf)), (qpr, .inl (cJ, 30, .inr (.inl pr))), (qpa, .inl (cJ, 30, .inr (.inl pa))), (qsk, .inl (cJ, 30, .inr (.inl sk))), (qlz, .inl (cI, 12, .inl lz))] H := hP
  have hD : va_D A [(mm, .inr (5, [.int (nI ly), .int (nI ce), .ref qlo, .ref qlk, .ref qhd, .ref qsf, .ref qpr, .ref qpa, .ref qsk, .long co, .long wo, .int (nI dy), .int da, .int db, .int dr, .int (nI mn), .ref qld, .ref qlz, .int (nI rn), .ref qrd, .ref qrv, .ref qhi, .ref qfw, .ref qkp])), (qlo, .inl (cI, 30, .inl lof)), (qhd, .inl (cI, 30, .inl hd)), (qsf, .inl (cI, 30, .inl sf)), (qpr, .inl (cJ, 30, .inr (.inl pr))), (qpa, .inl (cJ, 30, .inr (.inl pa))), (qsk, .inl (cJ, 30, .inr (.inl sk))), (qlz, .inl (cI, 12, .inl lz))] := hD
  clear hPc hDc hFc hP1 hD1 hK1 hk1 hz1 hvm ht
  obtain rfl : k_me hd sf lof lz mn co pr pa sk ce ce = res_ := hw.symm
  refine lv_lstore_n (lv' := [(1, .long (k_me hd sf lof lz mn co pr pa sk ce ce)), (0, .ref mm)]) hx hb dM_shareNow_4 rfl hl (by decide) rfl (fun ls hl => ?_)
  refine lv_lload_n hx hb dM_shareNow_5 rfl (lv_at hl 0 rfl) ?_
  refine lv_lconst (v := 0) hx hb dM_shareNow_6 (by decide) ?_
  refine W.lcmp hx hb dM_shareNow_7 ?_
  refine lv_if_ne (tgt := 17) hx hb dM_shareNow_8 (by decide) (fun hc8 => ?_) (fun hc8 => ?_)
  · -- 8 taken
    rw [lg_cmp_eq] at hc8
    refine lv_ldc2 (v := 1000) hx hb hown (htw _ m_439) dM_shareNow_17 ?_
    refine lv_aload_n hx hb dM_shareNow_20 rfl (lv_at hl 1 rfl) ?_
    refine lv_iconst (v := (-1)) hx hb dM_shareNow_21 (by decide) ?_
    have hPc := hP.sub (ws' := [(mm, .inr (5, [.int (nI ly), .int (nI ce), .ref qlo, .ref qlk, .ref qhd, .ref qsf, .ref qpr, .ref qpa, .ref qsk, .long co, .long wo, .int (nI dy), .int da, .int db, .int dr, .int (nI mn), .ref qld, .ref qlz, .int (nI rn), .ref qrd, .ref qrv, .ref qhi, .ref qfw, .ref qkp])), (qlo, .inl (cI, 30, .inl lof)), (qsk, .inl (cJ, 30, .inr (.inl sk)))]) [0, 1, 6] rfl
    have hDc := hD.sub (ws' := [(mm, .inr (5, [.int (nI ly), .int (nI ce), .ref qlo, .ref qlk, .ref qhd, .ref qsf, .ref qpr, .ref qpa, .ref qsk, .long co, .long wo, .int (nI dy), .int da, .int db, .int dr, .int (nI mn), .ref qld, .ref qlz, .int (nI rn), .ref qrd, .ref qrv, .ref qhi, .ref qfw, .ref qkp])), (qlo, .inl (cI, 30, .inl lof)), (qsk, .inl (cJ, 30, .inr (.inl sk)))]) [0, 1, 6] (by decide) rfl
    have hFc := va_free (wc := [(mm, .inr (5, [.int (nI ly), .int (nI ce), .ref qlo, .ref qlk, .ref qhd, .ref qsf, .ref qpr, .ref qpa, .ref qsk, .long co, .long wo, .int (nI dy), .int da, .int db, .int dr, .int (nI mn), .ref qld, .ref qlz, .int (nI rn), .ref qrd, .ref qrv, .ref qhi, .ref qfw, .ref qkp])), (qlo, .inl (cI, 30, .inl lof)), (qsk, .inl (cJ, 30, .inr (.inl sk)))]) hD hS hA [0, 1, 6] rfl
    refine va_calll (va_runV (As := [.int (-1)]) (rest := [.long 1000]) ⟨hx, hb, hml, hown, htw⟩ (kM_units l dC dI cI cJ mm qlo qlk qhd qsf qpr qpa qsk qld qlz qrd qrv qhi qfw qkp H.size (-1) ly ce co wo dy da db dr mn rn lof sk (by first | assumption | omega | decide)) (cwV 1 htw (wv_good m_469 m_471 ms_8 m_6 m_472) rfl rfl rfl (by decide +kernel) ⟨Nat.le_of_ble_eq_true rfl, Nat.le_of_ble_eq_true rfl⟩) ⟨fun a U g mk q => by obtain ⟨q0, q1, qP, qK, qD⟩ := q; exact ⟨q0, q1, qP, va_K.moved (u := U) (U := U.calling g mk a) (Vm.Alike.refl U.vm) qK, qD⟩, va_recv hK hPc (ci := 5) (q0 := 0) rfl rfl, fun U hU hW => ⟨rfl, by rw [hU], by rw [hU]; exact hPc, va_K.moved hW.alike hK, hDc.weaken (fun _ _ _ _ => trivial)⟩⟩ rfl rfl hl.1 rfl (lv_room (Nat.le_of_ble_eq_true rfl)) dM_shareNow_22 ⟨Nat.le_of_ble_eq_true rfl, Nat.le_of_ble_eq_true rfl⟩) hS (fun q _ h => hFc q h) hFc (fun res_ u_ t H1 locs ht hvm hw hB hz1 hk1 hS => ?_)
    obtain ⟨hP1, hK1, hD1⟩ := hB
    rw [ht] at hP1
    obtain ⟨hP, hD⟩ := va_join (wr := [(qhd, .inl (cI, 30, .inl hd)), (qsf, .inl (cI, 30, .inl sf)), (qpr, .inl (cJ, 30, .inr (.inl pr))), (qpa, .inl (cJ, 30, .inr (.inl pa))), (qlz, .inl (cI, 12, .inl lz))]) (w1 := [(mm, .inr (5, [.int (nI ly), .int (nI ce), .ref qlo, .ref qlk, .ref qhd, .ref qsf, .ref qpr, .ref qpa, .ref qsk, .long co, .long wo, .int (nI dy), .int da, .int db, .int dr, .int (nI mn), .ref qld, .ref qlz, .int (nI rn), .ref qrd, .ref qrv, .ref qhi, .ref qfw, .ref qkp])), (qlo, .inl (cI, 30, .inl lof)), (qsk, .inl (cJ, 30, .inr (.inl sk)))]) hP hD [0, 1, 6] [2, 3, 4, 5, 7] rfl rfl (by decide) (by decide) hk1 hFc hP1 hD1
    generalize H1 = H at hP hS ⊢
    have hP := hP.sub (ws' := [(mm, .inr (5, [.int (nI ly), .int (nI ce), .ref qlo, .ref qlk, .ref qhd, .ref qsf, .ref qpr, .ref qpa, .ref qsk, .long co, .long wo, .int (nI dy), .int da, .int db, .int dr, .int (nI mn), .ref qld, .ref qlz, .int (nI rn), .ref qrd, .ref qrv, .ref qhi, .ref qfw, .ref qkp])), (qlo, .inl (cI, 30, .inl lof)), (qhd, .inl (cI, 30, .inl hd)), (qsf, .inl (cI, 30, .inl sf)), (qpr, .inl (cJ, 30, .inr (.inl pr))), (qpa, .inl (cJ, 30, .inr (.inl pa))), (qsk, .inl (cJ, 30, .inr (.inl sk))), (qlz, .inl (cI, 12, .inl lz))]) [5, 6, 0, 1, 2, 3, 7, 4] rfl
    have hD := hD.sub (ws' := [(mm, .inr (5, [.int (nI ly), .int (nI ce), .ref qlo, .ref qlk, .ref qhd, .ref qsf, .ref qpr, .ref qpa, .ref qsk, .long co, .long wo, .int (nI dy), .int da, .int db, .int dr, .int (nI mn), .ref qld, .ref qlz, .int (nI rn), .ref qrd, .ref qrv, .ref qhi, .ref qfw, .ref qkp])), (qlo, .inl (cI, 30, .inl lof)), (qhd, .inl (cI, 30, .inl hd)), (qsf, .inl (cI, 30, .inl sf)), (qpr, .inl (cJ, 30, .inr (.inl pr))), (qpa, .inl (cJ, 30, .inr (.inl pa))), (qsk, .inl (cJ, 30, .inr (.inl sk))), (qlz, .inl (cI, 12, .inl lz))]) [5, 6, 0, 1, 2, 3, 7, 4] (by decide) rfl
    clear hPc hDc hFc hP1 hD1 hK1 hk1 hz1 hvm ht
    obtain rfl : k_mu lof sk (-1) ce = res_ := hw.symm
    refine lv_lmul hx hb dM_shareNow_25 ?_
    refine lv_lload_n hx hb dM_shareNow_26 rfl (lv_at hl 0 rfl) ?_
    refine lv_ldiv hx hb dM_shareNow_27 hc8 ?_
    refine lv_l2i (v := ((1000 * (k_mu lof sk (-1) ce)) / (k_me hd sf lof lz mn co pr pa sk ce ce)).toInt32) hx hb dM_shareNow_28 rfl ?_
    have hP : va_P (dC, dI) vwCl [(mm, .inr (5, [.int (nI ly), .int (nI ce), .ref qlo, .ref qlk, .ref qhd, .ref qsf, .ref qpr, .ref qpa, .ref qsk, .long co, .long wo, .int (nI dy), .int da, .int db, .int dr, .int (nI mn), .ref qld, .ref qlz, .int (nI rn), .ref qrd, .ref qrv, .ref qhi, .ref qfw, .ref qkp])), (qlo, .inl (cI, 30, .inl lof)), (qhd, .inl (cI, 30, .inl hd)), (qsf, .inl (cI, 30, .inl sf)), (qpr, .inl (cJ, 30, .inr (.inl pr))), (qpa, .inl (cJ, 30, .inr (.inl pa))), (qsk, .inl (cJ, 30, .inr (.inl sk))), (qlz, .inl (cI, 12, .inl lz))] H := by first | exact hP | simpa only [] using hP
    have hD : va_D A [(mm, .inr (5, [.int (nI ly), .int (nI ce), .ref qlo, .ref qlk, .ref qhd, .ref qsf, .ref qpr, .ref qpa, .ref qsk, .long co, .long wo, .int (nI dy), .int da, .int db, .int dr, .int (nI mn), .ref qld, .ref qlz, .int (nI rn), .ref qrd, .ref qrv, .ref qhi, .ref qfw, .ref qkp])), (qlo, .inl (cI, 30, .inl lof)), (qhd, .inl (cI, 30, .inl hd)), (qsf, .inl (cI, 30, .inl sf)), (qpr, .inl (cJ, 30, .inr (.inl pr))), (qpa, .inl (cJ, 30, .inr (.inl pa))), (qsk, .inl (cJ, 30, .inr (.inl sk))), (qlz, .inl (cI, 12, .inl lz))] := by first | exact hD | simpa only [] using hD
    exact W.iret (v := ((1000 * (k_mu lof sk (-1) ce)) / (k_me hd sf lof lz mn co pr pa sk ce ce)).toInt32) hx hb hr (fun t ht hW => ⟨⟨((1000 * (k_mu lof sk (-1) ce)) / (k_me hd sf lof lz mn co pr pa sk ce ce)).toInt32, (), rfl, (if_neg hc8).symm, by rw [ht]; exact hP, va_K.moved hW.alike hK, hD⟩, hS.F ht⟩) hS.2.2 dM_shareNow_29
  · -- 8 not taken
    rw [lg_cmp_eq] at hc8
    refine lv_sipush (v := nI 1000) hx hb dM_shareNow_11 (by decide) ?_
    refine lv_goto (tgt := 29) hx hb dM_shareNow_14 (by decide) ?_
    have hP : va_P (dC, dI) vwCl [(mm, .inr (5, [.int (nI ly), .int (nI ce), .ref qlo, .ref qlk, .ref qhd, .ref qsf, .ref qpr, .ref qpa, .ref qsk, .long co, .long wo, .int (nI dy), .int da, .int db, .int dr, .int (nI mn), .ref qld, .ref qlz, .int (nI rn), .ref qrd, .ref qrv, .ref qhi, .ref qfw, .ref qkp])), (qlo, .inl (cI, 30, .inl lof)), (qhd, .inl (cI, 30, .inl hd)), (qsf, .inl (cI, 30, .inl sf)), (qpr, .inl (cJ, 30, .inr (.inl pr))), (qpa, .inl (cJ, 30, .inr (.inl pa))), (qsk, .inl (cJ, 30, .inr (.inl sk))), (qlz, .inl (cI, 12, .inl lz))] H := by first | exact hP | simpa only [] using hP
    have hD : va_D A [(mm, .inr (5, [.int (nI ly), .int (nI ce), .ref qlo, .ref qlk, .ref qhd, .ref qsf, .ref qpr, .ref qpa, .ref qsk, .long co, .long wo, .int (nI dy), .int da, .int db, .int dr, .int (nI mn), .ref qld, .ref qlz, .int (nI rn), .ref qrd, .ref qrv, .ref qhi, .ref qfw, .ref qkp])), (qlo, .inl (cI, 30, .inl lof)), (qhd, .inl (cI, 30, .inl hd)), (qsf, .inl (cI, 30, .inl sf)), (qpr, .inl (cJ, 30, .inr (.inl pr))), (qpa, .inl (cJ, 30, .inr (.inl pa))), (qsk, .inl (cJ, 30, .inr (.inl sk))), (qlz, .inl (cI, 12, .inl lz))] := by first | exact hD | simpa only [] using hD
    exact W.iret (v := nI 1000) hx hb hr (fun t ht hW => ⟨⟨nI 1000, (), rfl, (if_pos hc8).symm, by rw [ht]; exact hP, va_K.moved hW.alike hK, hD⟩, hS.F ht⟩) hS.2.2 dM_shareNow_29
set_option maxHeartbeats 4000000 in
set_option maxRecDepth 100000 in
theorem kM_share (l : Launch) (dC : Nat → ClassId) (dI : Nat → Nat → Nat) (cI cJ : ClassId) (mm qlo qlk qhd qsf qpr qpa qsk qld qlz qrd qrv qhi qfw qkp : Nat) (sz : Nat) (ly : Nat) (ce : Nat) (co : Int64) (wo : Int64) (dy : Nat) (da : Int32) (db : Int32) (dr : Int32) (mn : Nat) (rn : Nat) (lof : Nat → Int32) (hd : Nat → Int32) (sf : Nat → Int32) (pr : Nat → Int64) (pa : Nat → Int64) (sk : Nat → Int64) (lz : Nat → Int32) (hce : ce ≤ 30) (hmn : mn ≤ 12) : Met l yM_share wM_share ({ frames := 3, cells := 0, slots := 0, locals := 74 }) (va_Pc [.ref mm] (fun U => U.heap.size = sz ∧ va_P (dC, dI) vwCl [(mm, .inr (5, [.int (nI ly), .int (nI ce), .ref qlo, .ref qlk, .ref qhd, .ref qsf, .ref qpr, .ref qpa, .ref qsk, .long co, .long wo, .int (nI dy), .int da, .int db, .int dr, .int (nI mn), .ref qld, .ref qlz, .int (nI rn), .ref qrd, .ref qrv, .ref qhi, .ref qfw, .ref qkp])), (qlo, .inl (cI, 30, .inl lof)), (qhd, .inl (cI, 30, .inl hd)), (qsf, .inl (cI, 30, .inl sf)), (qpr, .inl (cJ, 30, .inr (.inl pr))), (qpa, .inl (cJ, 30, .inr (.inl pa))), (qsk, .inl (cJ, 30, .inr (.inl sk))), (qlz, .inl (cI, 12, .inl lz))] U.heap ∧ va_K (dC, dI) vwCl [(cI, .int), (cJ, .long)] U ∧ va_D (fun _ => True) [(mm, .inr (5, [.int (nI ly), .int (nI ce), .ref qlo, .ref qlk, .ref qhd, .ref qsf, .ref qpr, .ref qpa, .ref qsk, .long co, .long wo, .int (nI dy), .int da, .int db, .int dr, .int (nI mn), .ref qld, .ref qlz, .int (nI rn), .ref qrd, .ref qrv, .ref qhi, .ref qfw, .ref qkp])), (qlo, .inl (cI, 30, .inl lof)), (qhd, .inl (cI, 30, .inl hd)), (qsf, .inl (cI, 30, .inl sf)), (qpr, .inl (cJ, 30, .inr (.inl pr))), (qpa, .inl (cJ, 30, .inr (.inl pa))), (qsk, .inl (cJ, 30, .inr (.inl sk))), (qlz, .inl (cI, 12, .inl lz))])) (va_Qi (fun res_ (_ : Unit) => res_ = k_msh (k_mu lof sk (-1) ce) (k_me hd sf lof lz mn co pr pa sk ce ce)) (fun _ t => va_P (dC, dI) vwCl [(mm, .inr (5, [.int (nI ly), .int (nI ce), .ref qlo, .ref qlk, .ref qhd, .ref qsf, .ref qpr, .ref qpa, .ref qsk, .long co, .long wo, .int (nI dy), .int da, .int db, .int dr, .int (nI mn), .ref qld, .ref qlz, .int (nI rn), .ref qrd, .ref qrv, .ref qhi, .ref qfw, .ref qkp])), (qlo, .inl (cI, 30, .inl lof)), (qhd, .inl (cI, 30, .inl hd)), (qsf, .inl (cI, 30, .inl sf)), (qpr, .inl (cJ, 30, .inr (.inl pr))), (qpa, .inl (cJ, 30, .inr (.inl pa))), (qsk, .inl (cJ, 30, .inr (.inl sk))), (qlz, .inl (cI, 12, .inl lz))] t.heap ∧ va_K (dC, dI) vwCl [(cI, .int), (cJ, .long)] t ∧ va_D (va_A [(mm, .inr (5, [.int (nI ly), .int (nI ce), .ref qlo, .ref qlk, .ref qhd, .ref qsf, .ref qpr, .ref qpa, .ref qsk, .long co, .long wo, .int (nI dy), .int da, .int db, .int dr, .int (nI mn), .ref qld, .ref qlz, .int (nI rn), .ref qrd, .ref qrv, .ref qhi, .ref qfw, .ref qkp])), (qlo, .inl (cI, 30, .inl lof)), (qhd, .inl (cI, 30, .inl hd)), (qsf, .inl (cI, 30, .inl sf)), (qpr, .inl (cJ, 30, .inr (.inl pr))), (qpa, .inl (cJ, 30, .inr (.inl pa))), (qsk, .inl (cJ, 30, .inr (.inl sk))), (qlz, .inl (cI, 12, .inl lz))] sz) [(mm, .inr (5, [.int (nI ly), .int (nI ce), .ref qlo, .ref qlk, .ref qhd, .ref qsf, .ref qpr, .ref qpa, .ref qsk, .long co, .long wo, .int (nI dy), .int da, .int db, .int dr, .int (nI mn), .ref qld, .ref qlz, .int (nI rn), .ref qrd, .ref qrv, .ref qhi, .ref qfw, .ref qkp])), (qlo, .inl (cI, 30, .inl lof)), (qhd, .inl (cI, 30, .inl hd)), (qsf, .inl (cI, 30, .inl sf)), (qpr, .inl (cJ, 30, .inr (.inl pr))), (qpa, .inl (cJ, 30, .inr (.inl pa))), (qsk, .inl (cJ, 30, .inr (.inl sk))), (qlz, .inl (cI, 12, .inl lz))]) (va_A [(mm, .inr (5, [.int (nI ly), .int (nI ce), .ref qlo, .ref qlk, .ref qhd, .ref qsf, .ref qpr, .ref qpa, .ref qsk, .long co, .long wo, .int (nI dy), .int da, .int db, .int dr, .int (nI mn), .ref qld, .ref qlz, .int (nI rn), .ref qrd, .ref qrv, .ref qhi, .ref qfw, .ref qkp])), (qlo, .inl (cI, 30, .inl lof)), (qhd, .inl (cI, 30, .inl hd)), (qsf, .inl (cI, 30, .inl sf)), (qpr, .inl (cJ, 30, .inr (.inl pr))), (qpa, .inl (cJ, 30, .inr (.inl pa))), (qsk, .inl (cJ, 30, .inr (.inl sk))), (qlz, .inl (cI, 12, .inl lz))] sz)) 0 0 (va_A [(mm, .inr (5, [.int (nI ly), .int (nI ce), .ref qlo, .ref qlk, .ref qhd, .ref qsf, .ref qpr, .ref qpa, .ref qsk, .long co, .long wo, .int (nI dy), .int da, .int db, .int dr, .int (nI mn), .ref qld, .ref qlz, .int (nI rn), .ref qrd, .ref qrv, .ref qhi, .ref qfw, .ref qkp])), (qlo, .inl (cI, 30, .inl lof)), (qhd, .inl (cI, 30, .inl hd)), (qsf, .inl (cI, 30, .inl sf)), (qpr, .inl (cJ, 30, .inr (.inl pr))), (qpa, .inl (cJ, 30, .inr (.inl pa))), (qsk, .inl (cJ, 30, .inr (.inl sk))), (qlz, .inl (cI, 12, .inl lz))] sz) := by
  refine Met.ofW (cc := bM_share) (maxL := 1) (ret := (some .int)) (by decide) rfl ?_
  intro p e s m args below meth c s₁ B hml hv
  obtain ⟨rfl, hsz, hP, hK, hD0⟩ := hv
  have hx := B.exec
  have hb := B.bytes
  have hr := B.returns
  have hts := atoms_spec (ws := wM_share) B.pre
  have hown : s.vm.findClass R_M = some m.cls := findClass_of_methodNamed B.named
  have htw : ∀ w ∈ WA, w.before _ s = true := fun w h => hts w (List.mem_cons_of_mem _ h)
  clear hts
  have hlocks := B.notSynchronized
  subst hsz
  have hD := hD0.self (sz := s.heap.size)
  generalize hAe : va_A [(mm, .inr (5, [.int (nI ly), .int (nI ce), .ref qlo, .ref qlk, .ref qhd, .ref qsf, .ref qpr, .ref qpa, .ref qsk, .long co, .long wo, .int (nI dy), .int da, .int db, .int dr, .int (nI mn), .ref qld, .ref qlz, .int (nI rn), .ref qrd, .ref qrv, .ref qhi, .ref qfw, .ref qkp])), (qlo, .inl (cI, 30, .inl lof)), (qhd, .inl (cI, 30, .inl hd)), (qsf, .inl (cI, 30, .inl sf)), (qpr, .inl (cJ, 30, .inr (.inl pr))), (qpa, .inl (cJ, 30, .inr (.inl pa))), (qsk, .inl (cJ, 30, .inr (.inl sk))), (qlz, .inl (cI, 12, .inl lz))] s.heap.size = A at hD ⊢
  have hA : ∀ q : Nat, s.heap.size ≤ q → A q := fun q h => by rw [← hAe]; exact Or.inr h
  clear hAe hD0
  have hS : va_S A s.heap s.heap [] := va_S.rf
  have hP : va_P (dC, dI) vwCl [(mm, .inr (5, [.int (nI ly), .int (nI ce), .ref qlo, .ref qlk, .ref qhd, .ref qsf, .ref qpr, .ref qpa, .ref qsk, .long co, .long wo, .int (nI dy), .int da, .int db, .int dr, .int (nI mn), .ref qld, .ref qlz, .int (nI rn), .ref qrd, .ref qrv, .ref qhi, .ref qfw, .ref qkp])), (qlo, .inl (cI, 30, .inl lof)), (qhd, .inl (cI, 30, .inl hd)), (qsf, .inl (cI, 30, .inl sf)), (qpr, .inl (cJ, 30, .inr (.inl pr))), (qpa, .inl (cJ, 30, .inr (.inl pa))), (qsk, .inl (cJ, 30, .inr (.inl sk))), (qlz, .inl (cI, 12, .inl lz))] s.heap := hP
  have hl := lv_entry ([.ref mm]) (n := 1) (Nat.le_of_ble_eq_true rfl)
  rw [lg_entry_eq]
  generalize (lg_sl ([.ref mm]) ++ List.replicate (1 - (lg_sl ([.ref mm])).length) Slot.unset).toArray = ls at hl ⊢
  have hl : lv_has ls 1 [(0, .ref mm)] := hl
  refine lv_aload_n hx hb dM_share_0 rfl (lv_at hl 0 rfl) ?_
  have hPc := hP.sub (ws' := [(mm, .inr (5, [.int (nI ly), .int (nI ce), .ref qlo, .ref qlk, .ref qhd, .ref qsf, .ref qpr, .ref qpa, .ref qsk, .long co, .long wo, .int (nI dy), .int da, .int db, .int dr, .int (nI mn), .ref qld, .ref qlz, .int (nI rn), .ref qrd, .ref qrv, .ref qhi, .ref qfw, .ref qkp])), (qlo, .inl (cI, 30, .inl lof)), (qhd, .inl (cI, 30, .inl hd)), (qsf, .inl (cI, 30, .inl sf)), (qpr, .inl (cJ, 30, .inr (.inl pr))), (qpa, .inl (cJ, 30, .inr (.inl pa))), (qsk, .inl (cJ, 30, .inr (.inl sk))), (qlz, .inl (cI, 12, .inl lz))]) [0, 1, 2, 3, 4, 5, 6, 7] rfl
  have hDc := hD.sub (ws' := [(mm, .inr (5, [.int (nI ly), .int (nI ce), .ref qlo, .ref qlk, .ref qhd, .ref qsf, .ref qpr, .ref qpa, .ref qsk, .long co, .long wo, .int (nI dy), .int da, .int db, .int dr, .int (nI mn), .ref qld, .ref qlz, .int (nI rn), .ref qrd, .ref qrv, .ref qhi, .ref qfw, .ref qkp])), (qlo, .inl (cI, 30, .inl lof)), (qhd, .inl (cI, 30, .inl hd)), (qsf, .inl (cI, 30, .inl sf)), (qpr, .inl (cJ, 30, .inr (.inl pr))), (qpa, .inl (cJ, 30, .inr (.inl pa))), (qsk, .inl (cJ, 30, .inr (.inl sk))), (qlz, .inl (cI, 12, .inl lz))]) [0, 1, 2, 3, 4, 5, 6, 7] (by decide) rfl
  have hFc := va_free (wc := [(mm, .inr (5, [.int (nI ly), .int (nI ce), .ref qlo, .ref qlk, .ref qhd, .ref qsf, .ref qpr, .ref qpa, .ref qsk, .long co, .long wo, .int (nI dy), .int da, .int db, .int dr, .int (nI mn), .ref qld, .ref qlz, .int (nI rn), .ref qrd, .ref qrv, .ref qhi, .ref qfw, .ref qkp])), (qlo, .inl (cI, 30, .inl lof)), (qhd, .inl (cI, 30, .inl hd)), (qsf, .inl (cI, 30, .inl sf)), (qpr, .inl (cJ, 30, .inr (.inl pr))), (qpa, .inl (cJ, 30, .inr (.inl pa))), (qsk, .inl (cJ, 30, .inr (.inl sk))), (qlz, .inl (cI, 12, .inl lz))]) hD hS hA [0, 1, 2, 3, 4, 5, 6, 7] rfl
  refine va_calli (va_runV (As := []) (rest := []) ⟨hx, hb, hml, hown, htw⟩ (kM_shareNow l dC dI cI cJ mm qlo qlk qhd qsf qpr qpa qsk qld qlz qrd qrv qhi qfw qkp s.heap.size ly ce co wo dy da db dr mn rn lof hd sf pr pa sk lz (by first | assumption | omega | decide) (by first | assumption | omega | decide)) (cwV 0 htw (wv_good m_503 m_505 ms_10 m_6 m_506) rfl rfl rfl (by decide +kernel) ⟨Nat.le_of_ble_eq_true rfl, Nat.le_of_ble_eq_true rfl⟩) ⟨fun a U g mk q => by obtain ⟨q0, q1, qP, qK, qD⟩ := q; exact ⟨q0, q1, qP, va_K.moved (u := U) (U := U.calling g mk a) (Vm.Alike.refl U.vm) qK, qD⟩, va_recv hK hPc (ci := 5) (q0 := 0) rfl rfl, fun U hU hW => ⟨rfl, by rw [hU], by rw [hU]; exact hPc, va_K.moved hW.alike hK, hDc.weaken (fun _ _ _ _ => trivial)⟩⟩ rfl rfl hl.1 rfl (lv_room (Nat.le_of_ble_eq_true rfl)) dM_share_1 ⟨Nat.le_of_ble_eq_true rfl, Nat.le_of_ble_eq_true rfl⟩) hS (fun q _ h => hFc q h) hFc (fun res_ u_ t H1 locs ht hvm hw hB hz1 hk1 hS => ?_)
  obtain ⟨hP1, hK1, hD1⟩ := hB
  rw [ht] at hP1
  obtain ⟨hP, hD⟩ := va_join (wr := []) (w1 := [(mm, .inr (5, [.int (nI ly), .int (nI ce), .ref qlo, .ref qlk, .ref qhd, .ref qsf, .ref qpr, .ref qpa, .ref qsk, .long co, .long wo, .int (nI dy), .int da, .int db, .int dr, .int (nI mn), .ref qld, .ref qlz, .int (nI rn), .ref qrd, .ref qrv, .ref qhi, .ref qfw, .ref qkp])), (qlo, .inl (cI, 30, .inl lof)), (qhd, .inl (cI, 30, .inl hd)), (qsf, .inl (cI, 30, .inl sf)), (qpr, .inl (cJ, 30, .inr (.inl pr))), (qpa, .inl (cJ, 30, .inr (.inl pa))), (qsk, .inl (cJ, 30, .inr (.inl sk))), (qlz, .inl (cI, 12, .inl lz))]) hP hD [0, 1, 2, 3, 4, 5, 6, 7] [] rfl rfl (by decide) (by decide) hk1 hFc hP1 hD1
  generalize H1 = H at hP hS ⊢
  have hP : va_P (dC, dI) vwCl [(mm, .inr (5, [.int (nI ly), .int (nI ce), .ref qlo, .ref qlk, .ref qhd, .ref qsf, .ref qpr, .ref qpa, .ref qsk, .long co, .long wo, .int (nI dy), .int da, .int db, .int dr, .int (nI mn), .ref qld, .ref qlz, .int (nI rn), .ref qrd, .ref qrv, .ref qhi, .ref qfw, .ref qkp])), (qlo, .inl (cI, 30, .inl lof)), (qhd, .inl (cI, 30, .inl hd)), (qsf, .inl (cI, 30, .inl sf)), (qpr, .inl (cJ, 30, .inr (.inl pr))), (qpa, .inl (cJ, 30, .inr (.inl pa))), (qsk, .inl (cJ, 30, .inr (.inl sk))), (qlz, .inl (cI, 12, .inl lz))] H := hP
  have hD : va_D A [(mm, .inr (5, [.int (nI ly), .int (nI ce), .ref qlo, .ref qlk, .ref qhd, .ref qsf, .ref qpr, .ref qpa, .ref qsk, .long co, .long wo, .int (nI dy), .int da, .int db, .int dr, .int (nI mn), .ref qld, .ref qlz, .int (nI rn), .ref qrd, .ref qrv, .ref qhi, .ref qfw, .ref qkp])), (qlo, .inl (cI, 30, .inl lof)), (qhd, .inl (cI, 30, .inl hd)), (qsf, .inl (cI, 30, .inl sf)), (qpr, .inl (cJ, 30, .inr (.inl pr))), (qpa, .inl (cJ, 30, .inr (.inl pa))), (qsk, .inl (cJ, 30, .inr (.inl sk))), (qlz, .inl (cI, 12, .inl lz))] := hD
  clear hPc hDc hFc hP1 hD1 hK1 hk1 hz1 hvm ht
  obtain rfl : k_msh (k_mu lof sk (-1) ce) (k_me hd sf lof lz mn co pr pa sk ce ce) = res_ := hw.symm
  have hP : va_P (dC, dI) vwCl [(mm, .inr (5, [.int (nI ly), .int (nI ce), .ref qlo, .ref qlk, .ref qhd, .ref qsf, .ref qpr, .ref qpa, .ref qsk, .long co, .long wo, .int (nI dy), .int da, .int db, .int dr, .int (nI mn), .ref qld, .ref qlz, .int (nI rn), .ref qrd, .ref qrv, .ref qhi, .ref qfw, .ref qkp])), (qlo, .inl (cI, 30, .inl lof)), (qhd, .inl (cI, 30, .inl hd)), (qsf, .inl (cI, 30, .inl sf)), (qpr, .inl (cJ, 30, .inr (.inl pr))), (qpa, .inl (cJ, 30, .inr (.inl pa))), (qsk, .inl (cJ, 30, .inr (.inl sk))), (qlz, .inl (cI, 12, .inl lz))] H := by first | exact hP | simpa only [] using hP
  have hD : va_D A [(mm, .inr (5, [.int (nI ly), .int (nI ce), .ref qlo, .ref qlk, .ref qhd, .ref qsf, .ref qpr, .ref qpa, .ref qsk, .long co, .long wo, .int (nI dy), .int da, .int db, .int dr, .int (nI mn), .ref qld, .ref qlz, .int (nI rn), .ref qrd, .ref qrv, .ref qhi, .ref qfw, .ref qkp])), (qlo, .inl (cI, 30, .inl lof)), (qhd, .inl (cI, 30, .inl hd)), (qsf, .inl (cI, 30, .inl sf)), (qpr, .inl (cJ, 30, .inr (.inl pr))), (qpa, .inl (cJ, 30, .inr (.inl pa))), (qsk, .inl (cJ, 30, .inr (.inl sk))), (qlz, .inl (cI, 12, .inl lz))] := by first | exact hD | simpa only [] using hD
  exact W.iret (v := k_msh (k_mu lof sk (-1) ce) (k_me hd sf lof lz mn co pr pa sk ce ce)) hx hb hr (fun t ht hW => ⟨⟨k_msh (k_mu lof sk (-1) ce) (k_me hd sf lof lz mn co pr pa sk ce ce), (), rfl, rfl, by rw [ht]; exact hP, va_K.moved hW.alike hK, hD⟩, hS.F ht⟩) hS.2.2 dM_share_4
set_option maxHeartbeats 4000000 in
set_option maxRecDepth 100000 in
theorem kM_out (l : Launch) (dC : Nat → ClassId) (dI : Nat → Nat → Nat) (cI cJ : ClassId) (mm qlo qlk qhd qsf qpr qpa qsk qld qlz qrd qrv qhi qfw qkp : Nat) (sz : Nat) (ly : Nat) (ce : Nat) (co : Int64) (wo : Int64) (dy : Nat) (da : Int32) (db : Int32) (dr : Int32) (mn : Nat) (rn : Nat) : Met l yM_out wM_out ({ frames := 0, cells := 0, slots := 0, locals := 0 }) (va_Pc [.ref mm] (fun U => U.heap.size = sz ∧ va_P (dC, dI) vwCl [(mm, .inr (5, [.int (nI ly), .int (nI ce), .ref qlo, .ref qlk, .ref qhd, .ref qsf, .ref qpr, .ref qpa, .ref qsk, .long co, .long wo, .int (nI dy), .int da, .int db, .int dr, .int (nI mn), .ref qld, .ref qlz, .int (nI rn), .ref qrd, .ref qrv, .ref qhi, .ref qfw, .ref qkp]))] U.heap ∧ va_K (dC, dI) vwCl [(cI, .int), (cJ, .long)] U ∧ va_D (fun _ => True) [(mm, .inr (5, [.int (nI ly), .int (nI ce), .ref qlo, .ref qlk, .ref qhd, .ref qsf, .ref qpr, .ref qpa, .ref qsk, .long co, .long wo, .int (nI dy), .int da, .int db, .int dr, .int (nI mn), .ref qld, .ref qlz, .int (nI rn), .ref qrd, .ref qrv, .ref qhi, .ref qfw, .ref qkp]))])) (va_Ql (fun res_ (_ : Unit) => res_ = wo) (fun _ t => va_P (dC, dI) vwCl [(mm, .inr (5, [.int (nI ly), .int (nI ce), .ref qlo, .ref qlk, .ref qhd, .ref qsf, .ref qpr, .ref qpa, .ref qsk, .long co, .long wo, .int (nI dy), .int da, .int db, .int dr, .int (nI mn), .ref qld, .ref qlz, .int (nI rn), .ref qrd, .ref qrv, .ref qhi, .ref qfw, .ref qkp]))] t.heap ∧ va_K (dC, dI) vwCl [(cI, .int), (cJ, .long)] t ∧ va_D (va_A [(mm, .inr (5, [.int (nI ly), .int (nI ce), .ref qlo, .ref qlk, .ref qhd, .ref qsf, .ref qpr, .ref qpa, .ref qsk, .long co, .long wo, .int (nI dy), .int da, .int db, .int dr, .int (nI mn), .ref qld, .ref qlz, .int (nI rn), .ref qrd, .ref qrv, .ref qhi, .ref qfw, .ref qkp]))] sz) [(mm, .inr (5, [.int (nI ly), .int (nI ce), .ref qlo, .ref qlk, .ref qhd, .ref qsf, .ref qpr, .ref qpa, .ref qsk, .long co, .long wo, .int (nI dy), .int da, .int db, .int dr, .int (nI mn), .ref qld, .ref qlz, .int (nI rn), .ref qrd, .ref qrv, .ref qhi, .ref qfw, .ref qkp]))]) (va_A [(mm, .inr (5, [.int (nI ly), .int (nI ce), .ref qlo, .ref qlk, .ref qhd, .ref qsf, .ref qpr, .ref qpa, .ref qsk, .long co, .long wo, .int (nI dy), .int da, .int db, .int dr, .int (nI mn), .ref qld, .ref qlz, .int (nI rn), .ref qrd, .ref qrv, .ref qhi, .ref qfw, .ref qkp]))] sz)) 0 0 (va_A [(mm, .inr (5, [.int (nI ly), .int (nI ce), .ref qlo, .ref qlk, .ref qhd, .ref qsf, .ref qpr, .ref qpa, .ref qsk, .long co, .long wo, .int (nI dy), .int da, .int db, .int dr, .int (nI mn), .ref qld, .ref qlz, .int (nI rn), .ref qrd, .ref qrv, .ref qhi, .ref qfw, .ref qkp]))] sz) := by
  refine Met.ofW (cc := bM_out) (maxL := 1) (ret := (some .long)) (by decide) rfl ?_
  intro p e s m args below meth c s₁ B hml hv
  obtain ⟨rfl, hsz, hP, hK, hD0⟩ := hv
  have hx := B.exec
  have hb := B.bytes
  have hr := B.returns
  have hts := atoms_spec (ws := wM_out) B.pre
  have hown : s.vm.findClass R_M = some m.cls := findClass_of_methodNamed B.named
  have htw : ∀ w ∈ WA, w.before _ s = true := fun w h => hts w (List.mem_cons_of_mem _ h)
  clear hts
  have hlocks := B.notSynchronized
  subst hsz
  have hD := hD0.self (sz := s.heap.size)
  generalize hAe : va_A [(mm, .inr (5, [.int (nI ly), .int (nI ce), .ref qlo, .ref qlk, .ref qhd, .ref qsf, .ref qpr, .ref qpa, .ref qsk, .long co, .long wo, .int (nI dy), .int da, .int db, .int dr, .int (nI mn), .ref qld, .ref qlz, .int (nI rn), .ref qrd, .ref qrv, .ref qhi, .ref qfw, .ref qkp]))] s.heap.size = A at hD ⊢
  have hA : ∀ q : Nat, s.heap.size ≤ q → A q := fun q h => by rw [← hAe]; exact Or.inr h
  clear hAe hD0
  have hS : va_S A s.heap s.heap [] := va_S.rf
  have hP : va_P (dC, dI) vwCl [(mm, .inr (5, [.int (nI ly), .int (nI ce), .ref qlo, .ref qlk, .ref qhd, .ref qsf, .ref qpr, .ref qpa, .ref qsk, .long co, .long wo, .int (nI dy), .int da, .int db, .int dr, .int (nI mn), .ref qld, .ref qlz, .int (nI rn), .ref qrd, .ref qrv, .ref qhi, .ref qfw, .ref qkp]))] s.heap := hP
  have hl := lv_entry ([.ref mm]) (n := 1) (Nat.le_of_ble_eq_true rfl)
  rw [lg_entry_eq]
  generalize (lg_sl ([.ref mm]) ++ List.replicate (1 - (lg_sl ([.ref mm])).length) Slot.unset).toArray = ls at hl ⊢
  have hl : lv_has ls 1 [(0, .ref mm)] := hl
  refine lv_aload_n hx hb dM_out_0 rfl (lv_at hl 0 rfl) ?_
  refine va_get (D := (dC, dI)) (ci := 5) (v := .long wo) (C := R_M) (T := T_M) (N := 24) hx hb htw in_M hown hK hP 0 rfl rfl 10 (by decide) (htw _ m_367) (fun _ h9 => h9) rfl dM_out_1 ?_
  have hP : va_P (dC, dI) vwCl [(mm, .inr (5, [.int (nI ly), .int (nI ce), .ref qlo, .ref qlk, .ref qhd, .ref qsf, .ref qpr, .ref qpa, .ref qsk, .long co, .long wo, .int (nI dy), .int da, .int db, .int dr, .int (nI mn), .ref qld, .ref qlz, .int (nI rn), .ref qrd, .ref qrv, .ref qhi, .ref qfw, .ref qkp]))] s.heap := by first | exact hP | simpa only [] using hP
  have hD : va_D A [(mm, .inr (5, [.int (nI ly), .int (nI ce), .ref qlo, .ref qlk, .ref qhd, .ref qsf, .ref qpr, .ref qpa, .ref qsk, .long co, .long wo, .int (nI dy), .int da, .int db, .int dr, .int (nI mn), .ref qld, .ref qlz, .int (nI rn), .ref qrd, .ref qrv, .ref qhi, .ref qfw, .ref qkp]))] := by first | exact hD | simpa only [] using hD
  exact W.lret (v := wo) hx hb hr (fun t ht hW => ⟨⟨wo, (), rfl, rfl, by rw [ht]; exact hP, va_K.moved hW.alike hK, hD⟩, hS.F ht⟩) hS.2.2 dM_out_4
set_option maxHeartbeats 4000000 in
set_option maxRecDepth 100000 in
theorem kM_balance (l : Launch) (dC : Nat → ClassId) (dI : Nat → Nat → Nat) (cI cJ : ClassId) (mm qlo qlk qhd qsf qpr qpa qsk qld qlz qrd qrv qhi qfw qkp : Nat) (sz : Nat) (ly : Nat) (ce : Nat) (co : Int64) (wo : Int64) (dy : Nat) (da : Int32) (db : Int32) (dr : Int32) (mn : Nat) (rn : Nat) (pr : Nat → Int64) (hce : ce ≤ 30) : Met l yM_balance wM_balance ({ frames := 0, cells := 0, slots := 0, locals := 0 }) (va_Pc [.ref mm] (fun U => U.heap.size = sz ∧ va_P (dC, dI) vwCl [(mm, .inr (5, [.int (nI ly), .int (nI ce), .ref qlo, .ref qlk, .ref qhd, .ref qsf, .ref qpr, .ref qpa, .ref qsk, .long co, .long wo, .int (nI dy), .int da, .int db, .int dr, .int (nI mn), .ref qld, .ref qlz, .int (nI rn), .ref qrd, .ref qrv, .ref qhi, .ref qfw, .ref qkp])), (qpr, .inl (cJ, 30, .inr (.inl pr)))] U.heap ∧ va_K (dC, dI) vwCl [(cI, .int), (cJ, .long)] U ∧ va_D (fun _ => True) [(mm, .inr (5, [.int (nI ly), .int (nI ce), .ref qlo, .ref qlk, .ref qhd, .ref qsf, .ref qpr, .ref qpa, .ref qsk, .long co, .long wo, .int (nI dy), .int da, .int db, .int dr, .int (nI mn), .ref qld, .ref qlz, .int (nI rn), .ref qrd, .ref qrv, .ref qhi, .ref qfw, .ref qkp])), (qpr, .inl (cJ, 30, .inr (.inl pr)))])) (va_Qi (fun res_ (_ : Unit) => res_ = kb (wo + k_sum pr ce = co * (nI ce).toInt64)) (fun _ t => va_P (dC, dI) vwCl [(mm, .inr (5, [.int (nI ly), .int (nI ce), .ref qlo, .ref qlk, .ref qhd, .ref qsf, .ref qpr, .ref qpa, .ref qsk, .long co, .long wo, .int (nI dy), .int da, .int db, .int dr, .int (nI mn), .ref qld, .ref qlz, .int (nI rn), .ref qrd, .ref qrv, .ref qhi, .ref qfw, .ref qkp])), (qpr, .inl (cJ, 30, .inr (.inl pr)))] t.heap ∧ va_K (dC, dI) vwCl [(cI, .int), (cJ, .long)] t ∧ va_D (va_A [(mm, .inr (5, [.int (nI ly), .int (nI ce), .ref qlo, .ref qlk, .ref qhd, .ref qsf, .ref qpr, .ref qpa, .ref qsk, .long co, .long wo, .int (nI dy), .int da, .int db, .int dr, .int (nI mn), .ref qld, .ref qlz, .int (nI rn), .ref qrd, .ref qrv, .ref qhi, .ref qfw, .ref qkp])), (qpr, .inl (cJ, 30, .inr (.inl pr)))] sz) [(mm, .inr (5, [.int (nI ly), .int (nI ce), .ref qlo, .ref qlk, .ref qhd, .ref qsf, .ref qpr, .ref qpa, .ref qsk, .long co, .long wo, .int (nI dy), .int da, .int db, .int dr, .int (nI mn), .ref qld, .ref qlz, .int (nI rn), .ref qrd, .ref qrv, .ref qhi, .ref qfw, .ref qkp])), (qpr, .inl (cJ, 30, .inr (.inl pr)))]) (va_A [(mm, .inr (5, [.int (nI ly), .int (nI ce), .ref qlo, .ref qlk, .ref qhd, .ref qsf, .ref qpr, .ref qpa, .ref qsk, .long co, .long wo, .int (nI dy), .int da, .int db, .int dr, .int (nI mn), .ref qld, .ref qlz, .int (nI rn), .ref qrd, .ref qrv, .ref qhi, .ref qfw, .ref qkp])), (qpr, .inl (cJ, 30, .inr (.inl pr)))] sz)) 0 0 (va_A [(mm, .inr (5, [.int (nI ly), .int (nI ce), .ref qlo, .ref qlk, .ref qhd, .ref qsf, .ref qpr, .ref qpa, .ref qsk, .long co, .long wo, .int (nI dy), .int da, .int db, .int dr, .int (nI mn), .ref qld, .ref qlz, .int (nI rn), .ref qrd, .ref qrv, .ref qhi, .ref qfw, .ref qkp])), (qpr, .inl (cJ, 30, .inr (.inl pr)))] sz) := by
  refine Met.ofW (cc := bM_balance) (maxL := 4) (ret := (some .boolean)) (by decide) rfl ?_
  intro p e s m args below meth c s₁ B hml hv
  obtain ⟨rfl, hsz, hP, hK, hD0⟩ := hv
  have hx := B.exec
  have hb := B.bytes
  have hr := B.returns
  have hts := atoms_spec (ws := wM_balance) B.pre
  have hown : s.vm.findClass R_M = some m.cls := findClass_of_methodNamed B.named
  have htw : ∀ w ∈ WA, w.before _ s = true := fun w h => hts w (List.mem_cons_of_mem _ h)
  clear hts
  have hlocks := B.notSynchronized
  subst hsz
  have hD := hD0.self (sz := s.heap.size)
  generalize hAe : va_A [(mm, .inr (5, [.int (nI ly), .int (nI ce), .ref qlo, .ref qlk, .ref qhd, .ref qsf, .ref qpr, .ref qpa, .ref qsk, .long co, .long wo, .int (nI dy), .int da, .int db, .int dr, .int (nI mn), .ref qld, .ref qlz, .int (nI rn), .ref qrd, .ref qrv, .ref qhi, .ref qfw, .ref qkp])), (qpr, .inl (cJ, 30, .inr (.inl pr)))] s.heap.size = A at hD ⊢
  have hA : ∀ q : Nat, s.heap.size ≤ q → A q := fun q h => by rw [← hAe]; exact Or.inr h
  clear hAe hD0
  have hS : va_S A s.heap s.heap [] := va_S.rf
  have hP : va_P (dC, dI) vwCl [(mm, .inr (5, [.int (nI ly), .int (nI ce), .ref qlo, .ref qlk, .ref qhd, .ref qsf, .ref qpr, .ref qpa, .ref qsk, .long co, .long wo, .int (nI dy), .int da, .int db, .int dr, .int (nI mn), .ref qld, .ref qlz, .int (nI rn), .ref qrd, .ref qrv, .ref qhi, .ref qfw, .ref qkp])), (qpr, .inl (cJ, 30, .inr (.inl pr)))] s.heap := hP
  have hl := lv_entry ([.ref mm]) (n := 4) (Nat.le_of_ble_eq_true rfl)
  rw [lg_entry_eq]
  generalize (lg_sl ([.ref mm]) ++ List.replicate (4 - (lg_sl ([.ref mm])).length) Slot.unset).toArray = ls at hl ⊢
  have hl : lv_has ls 4 [(0, .ref mm)] := hl
  refine lv_aload_n hx hb dM_balance_0 rfl (lv_at hl 0 rfl) ?_
  refine va_get (D := (dC, dI)) (ci := 5) (v := .long wo) (C := R_M) (T := T_M) (N := 24) hx hb htw in_M hown hK hP 0 rfl rfl 10 (by decide) (htw _ m_367) (fun _ h9 => h9) rfl dM_balance_1 ?_
  refine lv_lstore_n (lv' := [(1, .long wo), (0, .ref mm)]) hx hb dM_balance_4 rfl hl (by decide) rfl (fun ls hl => ?_)
  refine lv_iconst (v := nI 0) hx hb dM_balance_5 (by decide) ?_
  refine lv_istore_n (lv' := [(3, .int (nI 0)), (1, .long wo), (0, .ref mm)]) hx hb dM_balance_6 rfl hl (by decide) rfl (fun ls hl => ?_)
  -- the loop at 7
  have hP : va_P (dC, dI) vwCl [(mm, .inr (5, [.int (nI ly), .int (nI ce), .ref qlo, .ref qlk, .ref qhd, .ref qsf, .ref qpr, .ref qpa, .ref qsk, .long co, .long wo, .int (nI dy), .int da, .int db, .int dr, .int (nI mn), .ref qld, .ref qlz, .int (nI rn), .ref qrd, .ref qrv, .ref qhi, .ref qfw, .ref qkp])), (qpr, .inl (cJ, 30, .inr (.inl pr)))] s.heap := by first | exact hP | simpa only [] using hP
  have hD : va_D A [(mm, .inr (5, [.int (nI ly), .int (nI ce), .ref qlo, .ref qlk, .ref qhd, .ref qsf, .ref qpr, .ref qpa, .ref qsk, .long co, .long wo, .int (nI dy), .int da, .int db, .int dr, .int (nI mn), .ref qld, .ref qlz, .int (nI rn), .ref qrd, .ref qrv, .ref qhi, .ref qfw, .ref qkp])), (qpr, .inl (cJ, 30, .inr (.inl pr)))] := by first | exact hD | simpa only [] using hD
  have eq1 : wo = wo + k_sum pr 0 := (Int64.add_zero wo).symm
  rw [eq1] at hl
  refine x_loop (N := ce) (I := fun i H locs ls => va_P (dC, dI) vwCl [(mm, .inr (5, [.int (nI ly), .int (nI ce), .ref qlo, .ref qlk, .ref qhd, .ref qsf, .ref qpr, .ref qpa, .ref qsk, .long co, .long wo, .int (nI dy), .int da, .int db, .int dr, .int (nI mn), .ref qld, .ref qlz, .int (nI rn), .ref qrd, .ref qrv, .ref qhi, .ref qfw, .ref qkp])), (qpr, .inl (cJ, 30, .inr (.inl pr)))] H ∧ va_D A [(mm, .inr (5, [.int (nI ly), .int (nI ce), .ref qlo, .ref qlk, .ref qhd, .ref qsf, .ref qpr, .ref qpa, .ref qsk, .long co, .long wo, .int (nI dy), .int da, .int db, .int dr, .int (nI mn), .ref qld, .ref qlz, .int (nI rn), .ref qrd, .ref qrv, .ref qhi, .ref qfw, .ref qkp])), (qpr, .inl (cJ, 30, .inr (.inl pr)))] ∧ va_S A s.heap H locs ∧ lv_has ls 4 [(0, .ref mm), (1, .long (wo + k_sum pr i)), (3, .int (nI i))]) (i0 := 0) ?_ (Nat.zero_le _) ⟨hP, hD, hS, lv_sub hl [2, 1, 0] rfl⟩
  intro i hi ih7 H locs ls hI
  obtain ⟨hP, hD, hS, hl⟩ := hI
  refine lv_iload_n hx hb dM_balance_7 rfl (lv_at hl 2 rfl) ?_
  refine lv_aload_n hx hb dM_balance_8 rfl (lv_at hl 0 rfl) ?_
  refine va_get (D := (dC, dI)) (ci := 5) (v := .int (nI ce)) (C := R_M) (T := T_M) (N := 24) hx hb htw in_M hown hK hP 0 rfl rfl 1 (by decide) (htw _ m_358) (fun _ h9 => h9) rfl dM_balance_9 ?_
  refine lv_icmp_ge (tgt := 30) hx hb dM_balance_12 (by decide) (fun hc12 => ?_) (fun hc12 => ?_)
  · -- 12 taken
    rw [nI_leI (by omega) (by omega)] at hc12
    obtain rfl : ce = i := by omega
    refine lv_lload_n hx hb dM_balance_30 rfl (lv_at hl 1 rfl) ?_
    refine lv_aload_n hx hb dM_balance_31 rfl (lv_at hl 0 rfl) ?_
    refine va_get (D := (dC, dI)) (ci := 5) (v := .long co) (C := R_M) (T := T_M) (N := 24) hx hb htw in_M hown hK hP 0 rfl rfl 9 (by decide) (htw _ m_366) (fun _ h9 => h9) rfl dM_balance_32 ?_
    refine lv_aload_n hx hb dM_balance_35 rfl (lv_at hl 0 rfl) ?_
    refine va_get (D := (dC, dI)) (ci := 5) (v := .int (nI ce)) (C := R_M) (T := T_M) (N := 24) hx hb htw in_M hown hK hP 0 rfl rfl 1 (by decide) (htw _ m_358) (fun _ h9 => h9) rfl dM_balance_36 ?_
    refine lv_i2l (v := (nI ce).toInt64) hx hb dM_balance_39 rfl ?_
    refine lv_lmul hx hb dM_balance_40 ?_
    refine W.lcmp hx hb dM_balance_41 ?_
    refine lv_if_ne (tgt := 49) hx hb dM_balance_42 (by decide) (fun hc42 => ?_) (fun hc42 => ?_)
    · -- 42 taken
      rw [lg_cmp_eq] at hc42
      refine lv_iconst (v := nI 0) hx hb dM_balance_49 (by decide) ?_
      have hP : va_P (dC, dI) vwCl [(mm, .inr (5, [.int (nI ly), .int (nI ce), .ref qlo, .ref qlk, .ref qhd, .ref qsf, .ref qpr, .ref qpa, .ref qsk, .long co, .long wo, .int (nI dy), .int da, .int db, .int dr, .int (nI mn), .ref qld, .ref qlz, .int (nI rn), .ref qrd, .ref qrv, .ref qhi, .ref qfw, .ref qkp])), (qpr, .inl (cJ, 30, .inr (.inl pr)))] H := by first | exact hP | simpa only [] using hP
      have hD : va_D A [(mm, .inr (5, [.int (nI ly), .int (nI ce), .ref qlo, .ref qlk, .ref qhd, .ref qsf, .ref qpr, .ref qpa, .ref qsk, .long co, .long wo, .int (nI dy), .int da, .int db, .int dr, .int (nI mn), .ref qld, .ref qlz, .int (nI rn), .ref qrd, .ref qrv, .ref qhi, .ref qfw, .ref qkp])), (qpr, .inl (cJ, 30, .inr (.inl pr)))] := by first | exact hD | simpa only [] using hD
      exact W.zret (v := nI 0) hx hb hr (by decide) (fun t ht hW => ⟨⟨nI 0, (), rfl, kb_f hc42, by rw [ht]; exact hP, va_K.moved hW.alike hK, hD⟩, hS.F ht⟩) hS.2.2 dM_balance_50
    · -- 42 not taken
      rw [lg_cmp_eq] at hc42
      refine lv_iconst (v := nI 1) hx hb dM_balance_45 (by decide) ?_
      refine lv_goto (tgt := 50) hx hb dM_balance_46 (by decide) ?_
      have hP : va_P (dC, dI) vwCl [(mm, .inr (5, [.int (nI ly), .int (nI ce), .ref qlo, .ref qlk, .ref qhd, .ref qsf, .ref qpr, .ref qpa, .ref qsk, .long co, .long wo, .int (nI dy), .int da, .int db, .int dr, .int (nI mn), .ref qld, .ref qlz, .int (nI rn), .ref qrd, .ref qrv, .ref qhi, .ref qfw, .ref qkp])), (qpr, .inl (cJ, 30, .inr (.inl pr)))] H := by first | exact hP | simpa only [] using hP
      have hD : va_D A [(mm, .inr (5, [.int (nI ly), .int (nI ce), .ref qlo, .ref qlk, .ref qhd, .ref qsf, .ref qpr, .ref qpa, .ref qsk, .long co, .long wo, .int (nI dy), .int da, .int db, .int dr, .int (nI mn), .ref qld, .ref qlz, .int (nI rn), .ref qrd, .ref qrv, .ref qhi, .ref qfw, .ref qkp])), (qpr, .inl (cJ, 30, .inr (.inl pr)))] := by first | exact hD | simpa only [] using hD
      exact W.zret (v := nI 1) hx hb hr (by decide) (fun t ht hW => ⟨⟨nI 1, (), rfl, kb_t hc42, by rw [ht]; exact hP, va_K.moved hW.alike hK, hD⟩, hS.F ht⟩) hS.2.2 dM_balance_50
  · -- 12 not taken
    rw [nI_leI (by omega) (by omega)] at hc12
    refine lv_lload_n hx hb dM_balance_15 rfl (lv_at hl 1 rfl) ?_
    refine lv_aload_n hx hb dM_balance_16 rfl (lv_at hl 0 rfl) ?_
    refine va_get (D := (dC, dI)) (ci := 5) (v := .ref qpr) (C := R_M) (T := T_M) (N := 24) hx hb htw in_M hown hK hP 0 rfl rfl 6 (by decide) (htw _ m_363) (fun _ h9 => h9) rfl dM_balance_17 ?_
    refine lv_iload_n hx hb dM_balance_20 rfl (lv_at hl 2 rfl) ?_
    refine xa_lald hx hb hK hP 1 1 rfl rfl (i := i) (by omega) (by decide) dM_balance_21 ?_
    refine lv_ladd hx hb dM_balance_22 ?_
    refine lv_lstore_n (lv' := [(1, .long ((wo + k_sum pr i) + (pr i))), (0, .ref mm), (3, .int (nI i))]) hx hb dM_balance_23 rfl hl (by decide) rfl (fun ls hl => ?_)
    refine lv_iinc (v := nI (i + 1)) (lv' := [(3, .int (nI (i + 1))), (1, .long ((wo + k_sum pr i) + (pr i))), (0, .ref mm)]) hx hb dM_balance_24 hl (k := 2) rfl (nI_1 _) (by decide) rfl (fun ls hl => ?_)
    refine lv_goto (tgt := 7) hx hb dM_balance_27 (by decide) ?_
    have hP : va_P (dC, dI) vwCl [(mm, .inr (5, [.int (nI ly), .int (nI ce), .ref qlo, .ref qlk, .ref qhd, .ref qsf, .ref qpr, .ref qpa, .ref qsk, .long co, .long wo, .int (nI dy), .int da, .int db, .int dr, .int (nI mn), .ref qld, .ref qlz, .int (nI rn), .ref qrd, .ref qrv, .ref qhi, .ref qfw, .ref qkp])), (qpr, .inl (cJ, 30, .inr (.inl pr)))] H := by first | exact hP | simpa only [] using hP
    have hD : va_D A [(mm, .inr (5, [.int (nI ly), .int (nI ce), .ref qlo, .ref qlk, .ref qhd, .ref qsf, .ref qpr, .ref qpa, .ref qsk, .long co, .long wo, .int (nI dy), .int da, .int db, .int dr, .int (nI mn), .ref qld, .ref qlz, .int (nI rn), .ref qrd, .ref qrv, .ref qhi, .ref qfw, .ref qkp])), (qpr, .inl (cJ, 30, .inr (.inl pr)))] := by first | exact hD | simpa only [] using hD
    have eq2 : ((wo + k_sum pr i) + (pr i)) = wo + k_sum pr (i + 1) := Int64.add_assoc _ _ _
    rw [eq2] at hl
    exact ih7 (by omega) _ _ _ ⟨hP, hD, hS, lv_sub hl [2, 1, 0] rfl⟩
set_option maxHeartbeats 4000000 in
set_option maxRecDepth 100000 in
theorem kM_drains_ok (l : Launch) (dC : Nat → ClassId) (dI : Nat → Nat → Nat) (cI cJ : ClassId) (mm qlo qlk qhd qsf qpr qpa qsk qld qlz qrd qrv qhi qfw qkp : Nat) (sz : Nat) (xa : Int32) (xb : Int32) (x : Int32) (ly : Nat) (ce : Nat) (co : Int64) (wo : Int64) (dy : Nat) (da : Int32) (db : Int32) (dr : Int32) (mn : Nat) (rn : Nat) (hxa : k_bo xa) (hxb : k_bo xb) (hx1 : 0 ≤ x.toInt ∧ x.toInt ≤ 200) : Met l yM_drains wM_drains ({ frames := 1, cells := 0, slots := 0, locals := 25 }) (va_Pc [.ref mm, .int xa, .int xb, .int x] (fun U => U.heap.size = sz ∧ va_P (dC, dI) vwCl [(mm, .inr (5, [.int (nI ly), .int (nI ce), .ref qlo, .ref qlk, .ref qhd, .ref qsf, .ref qpr, .ref qpa, .ref qsk, .long co, .long wo, .int (nI dy), .int da, .int db, .int dr, .int (nI mn), .ref qld, .ref qlz, .int (nI rn), .ref qrd, .ref qrv, .ref qhi, .ref qfw, .ref qkp]))] U.heap ∧ va_K (dC, dI) vwCl [(cI, .int), (cJ, .long)] U ∧ va_D (fun _ => True) [(mm, .inr (5, [.int (nI ly), .int (nI ce), .ref qlo, .ref qlk, .ref qhd, .ref qsf, .ref qpr, .ref qpa, .ref qsk, .long co, .long wo, .int (nI dy), .int da, .int db, .int dr, .int (nI mn), .ref qld, .ref qlz, .int (nI rn), .ref qrd, .ref qrv, .ref qhi, .ref qfw, .ref qkp]))])) (va_Qi (fun res_ (_ : Unit) => res_ = nI 1) (fun _ t => va_P (dC, dI) vwCl [(mm, .inr (5, [.int (nI ly), .int (nI ce), .ref qlo, .ref qlk, .ref qhd, .ref qsf, .ref qpr, .ref qpa, .ref qsk, .long co, .long wo, .int (nI dy), .int xa, .int xb, .int x, .int (nI mn), .ref qld, .ref qlz, .int (nI rn), .ref qrd, .ref qrv, .ref qhi, .ref qfw, .ref qkp]))] t.heap ∧ va_K (dC, dI) vwCl [(cI, .int), (cJ, .long)] t ∧ va_D (va_A [(mm, .inr (5, [.int (nI ly), .int (nI ce), .ref qlo, .ref qlk, .ref qhd, .ref qsf, .ref qpr, .ref qpa, .ref qsk, .long co, .long wo, .int (nI dy), .int da, .int db, .int dr, .int (nI mn), .ref qld, .ref qlz, .int (nI rn), .ref qrd, .ref qrv, .ref qhi, .ref qfw, .ref qkp]))] sz) [(mm, .inr (5, [.int (nI ly), .int (nI ce), .ref qlo, .ref qlk, .ref qhd, .ref qsf, .ref qpr, .ref qpa, .ref qsk, .long co, .long wo, .int (nI dy), .int xa, .int xb, .int x, .int (nI mn), .ref qld, .ref qlz, .int (nI rn), .ref qrd, .ref qrv, .ref qhi, .ref qfw, .ref qkp]))]) (va_A [(mm, .inr (5, [.int (nI ly), .int (nI ce), .ref qlo, .ref qlk, .ref qhd, .ref qsf, .ref qpr, .ref qpa, .ref qsk, .long co, .long wo, .int (nI dy), .int da, .int db, .int dr, .int (nI mn), .ref qld, .ref qlz, .int (nI rn), .ref qrd, .ref qrv, .ref qhi, .ref qfw, .ref qkp]))] sz)) 0 0 (va_A [(mm, .inr (5, [.int (nI ly), .int (nI ce), .ref qlo, .ref qlk, .ref qhd, .ref qsf, .ref qpr, .ref qpa, .ref qsk, .long co, .long wo, .int (nI dy), .int da, .int db, .int dr, .int (nI mn), .ref qld, .ref qlz, .int (nI rn), .ref qrd, .ref qrv, .ref qhi, .ref qfw, .ref qkp]))] sz) := by
  refine Met.ofW (cc := bM_drains) (maxL := 4) (ret := (some .boolean)) (by decide) rfl ?_
  intro p e s m args below meth c s₁ B hml hv
  obtain ⟨rfl, hsz, hP, hK, hD0⟩ := hv
  have hx := B.exec
  have hb := B.bytes
  have hr := B.returns
  have hts := atoms_spec (ws := wM_drains) B.pre
  have hown : s.vm.findClass R_M = some m.cls := findClass_of_methodNamed B.named
  have htw : ∀ w ∈ WA, w.before _ s = true := fun w h => hts w (List.mem_cons_of_mem _ h)
  clear hts
  have hlocks := B.notSynchronized
  subst hsz
  have hD := hD0.self (sz := s.heap.size)
  generalize hAe : va_A [(mm, .inr (5, [.int (nI ly), .int (nI ce), .ref qlo, .ref qlk, .ref qhd, .ref qsf, .ref qpr, .ref qpa, .ref qsk, .long co, .long wo, .int (nI dy), .int da, .int db, .int dr, .int (nI mn), .ref qld, .ref qlz, .int (nI rn), .ref qrd, .ref qrv, .ref qhi, .ref qfw, .ref qkp]))] s.heap.size = A at hD ⊢
  have hA : ∀ q : Nat, s.heap.size ≤ q → A q := fun q h => by rw [← hAe]; exact Or.inr h
  clear hAe hD0
  have hS : va_S A s.heap s.heap [] := va_S.rf
  have hP : va_P (dC, dI) vwCl [(mm, .inr (5, [.int (nI ly), .int (nI ce), .ref qlo, .ref qlk, .ref qhd, .ref qsf, .ref qpr, .ref qpa, .ref qsk, .long co, .long wo, .int (nI dy), .int da, .int db, .int dr, .int (nI mn), .ref qld, .ref qlz, .int (nI rn), .ref qrd, .ref qrv, .ref qhi, .ref qfw, .ref qkp]))] s.heap := hP
  have hl := lv_entry ([.ref mm, .int xa, .int xb, .int x]) (n := 4) (Nat.le_of_ble_eq_true rfl)
  rw [lg_entry_eq]
  generalize (lg_sl ([.ref mm, .int xa, .int xb, .int x]) ++ List.replicate (4 - (lg_sl ([.ref mm, .int xa, .int xb, .int x])).length) Slot.unset).toArray = ls at hl ⊢
  have hl : lv_has ls 4 [(0, .ref mm), (1, .int xa), (2, .int xb), (3, .int x)] := hl
  refine lv_iload_n hx hb dM_drains_0 rfl (lv_at hl 3 rfl) ?_
  refine lv_i2l (v := x.toInt64) hx hb dM_drains_1 rfl ?_
  refine lv_lconst (v := 0) hx hb dM_drains_2 (by decide) ?_
  refine lv_ldc2 (v := 200) hx hb hown (htw _ m_445) dM_drains_3 ?_
  have hPc := hP.sub (ws' := []) [] rfl
  have hDc := hD.sub (ws' := []) [] (by decide) rfl
  have hFc := va_free (wc := []) hD hS hA [] rfl
  refine va_calli (va_runS (As := [.long x.toInt64, .long 0, .long 200]) (rest := []) ⟨hx, hb, hml, hown, htw⟩ (kM_in l dC dI cI cJ s.heap.size x.toInt64 0 200) (va_cwS 3 htw (ws_good m_435 m_436 m_6 m_437) rfl rfl rfl (by decide +kernel) ⟨Nat.le_of_ble_eq_true rfl, Nat.le_of_ble_eq_true rfl⟩) ⟨fun a U g mk q => by obtain ⟨q0, q1, qP, qK, qD⟩ := q; exact ⟨q0, q1, qP, va_K.moved (u := U) (U := U.calling g mk a) (Vm.Alike.refl U.vm) qK, qD⟩, fun U hU hW => ⟨rfl, by rw [hU], by rw [hU]; exact hPc, va_K.moved hW.alike hK, hDc.weaken (fun _ _ _ _ => trivial)⟩⟩ rfl rfl hl.1 rfl (lv_room (Nat.le_of_ble_eq_true rfl)) dM_drains_6 ⟨Nat.le_of_ble_eq_true rfl, Nat.le_of_ble_eq_true rfl⟩) hS (fun q _ h => hFc q h) hFc (fun res_ u_ t H1 locs ht hvm hw hB hz1 hk1 hS => ?_)
  obtain ⟨hP1, hK1, hD1⟩ := hB
  rw [ht] at hP1
  obtain ⟨hP, hD⟩ := va_join (wr := [(mm, .inr (5, [.int (nI ly), .int (nI ce), .ref qlo, .ref qlk, .ref qhd, .ref qsf, .ref qpr, .ref qpa, .ref qsk, .long co, .long wo, .int (nI dy), .int da, .int db, .int dr, .int (nI mn), .ref qld, .ref qlz, .int (nI rn), .ref qrd, .ref qrv, .ref qhi, .ref qfw, .ref qkp]))]) (w1 := []) hP hD [] [0] rfl rfl (by decide) (by decide) hk1 hFc hP1 hD1
  generalize H1 = H at hP hS ⊢
  have hP : va_P (dC, dI) vwCl [(mm, .inr (5, [.int (nI ly), .int (nI ce), .ref qlo, .ref qlk, .ref qhd, .ref qsf, .ref qpr, .ref qpa, .ref qsk, .long co, .long wo, .int (nI dy), .int da, .int db, .int dr, .int (nI mn), .ref qld, .ref qlz, .int (nI rn), .ref qrd, .ref qrv, .ref qhi, .ref qfw, .ref qkp]))] H := hP
  have hD : va_D A [(mm, .inr (5, [.int (nI ly), .int (nI ce), .ref qlo, .ref qlk, .ref qhd, .ref qsf, .ref qpr, .ref qpa, .ref qsk, .long co, .long wo, .int (nI dy), .int da, .int db, .int dr, .int (nI mn), .ref qld, .ref qlz, .int (nI rn), .ref qrd, .ref qrv, .ref qhi, .ref qfw, .ref qkp]))] := hD
  clear hPc hDc hFc hP1 hD1 hK1 hk1 hz1 hvm ht
  obtain rfl : kb (0 ≤ x.toInt64 ∧ x.toInt64 ≤ 200) = res_ := hw.symm
  refine lv_if_ne (tgt := 14) hx hb dM_drains_9 (by decide) (fun hc9 => ?_) (fun hc9 => ?_)
  · -- 9 taken
    rw [kb_eq0, k_wl, show ((0 : Int64)).toInt = 0 from by decide, show ((200 : Int64)).toInt = 200 from by decide] at hc9
    simp only [Int32.toInt_toInt64] at hc9
    refine lv_aload_n hx hb dM_drains_14 rfl (lv_at hl 0 rfl) ?_
    refine lv_iload_n hx hb dM_drains_15 rfl (lv_at hl 1 rfl) ?_
    refine va_put (D := (dC, dI)) (ci := 5) (v := .int xa) (ty := .boolean) (C := R_M) (T := T_M) (N := 24) hx hb htw in_M ty_M tok_M nnm_M hown hK hP hD hS 0 rfl rfl 12 (by decide) (htw _ m_369) (fun _ h9 => h9) rfl (by decide +kernel) (k_bo_nar hxa) (k_bo_fit hxa) (Nat.le_of_ble_eq_true rfl) dM_drains_16 (fun H locs hP hD hS => ?_)
    have hP : va_P (dC, dI) vwCl [(mm, .inr (5, [.int (nI ly), .int (nI ce), .ref qlo, .ref qlk, .ref qhd, .ref qsf, .ref qpr, .ref qpa, .ref qsk, .long co, .long wo, .int (nI dy), .int xa, .int db, .int dr, .int (nI mn), .ref qld, .ref qlz, .int (nI rn), .ref qrd, .ref qrv, .ref qhi, .ref qfw, .ref qkp]))] H := hP
    have hD : va_D A [(mm, .inr (5, [.int (nI ly), .int (nI ce), .ref qlo, .ref qlk, .ref qhd, .ref qsf, .ref qpr, .ref qpa, .ref qsk, .long co, .long wo, .int (nI dy), .int xa, .int db, .int dr, .int (nI mn), .ref qld, .ref qlz, .int (nI rn), .ref qrd, .ref qrv, .ref qhi, .ref qfw, .ref qkp]))] := hD
    refine lv_aload_n hx hb dM_drains_19 rfl (lv_at hl 0 rfl) ?_
    refine lv_iload_n hx hb dM_drains_20 rfl (lv_at hl 2 rfl) ?_
    refine va_put (D := (dC, dI)) (ci := 5) (v := .int xb) (ty := .boolean) (C := R_M) (T := T_M) (N := 24) hx hb htw in_M ty_M tok_M nnm_M hown hK hP hD hS 0 rfl rfl 13 (by decide) (htw _ m_370) (fun _ h9 => h9) rfl (by decide +kernel) (k_bo_nar hxb) (k_bo_fit hxb) (Nat.le_of_ble_eq_true rfl) dM_drains_21 (fun H locs hP hD hS => ?_)
    have hP : va_P (dC, dI) vwCl [(mm, .inr (5, [.int (nI ly), .int (nI ce), .ref qlo, .ref qlk, .ref qhd, .ref qsf, .ref qpr, .ref qpa, .ref qsk, .long co, .long wo, .int (nI dy), .int xa, .int xb, .int dr, .int (nI mn), .ref qld, .ref qlz, .int (nI rn), .ref qrd, .ref qrv, .ref qhi, .ref qfw, .ref qkp]))] H := hP
    have hD : va_D A [(mm, .inr (5, [.int (nI ly), .int (nI ce), .ref qlo, .ref qlk, .ref qhd, .ref qsf, .ref qpr, .ref qpa, .ref qsk, .long co, .long wo, .int (nI dy), .int xa, .int xb, .int dr, .int (nI mn), .ref qld, .ref qlz, .int (nI rn), .ref qrd, .ref qrv, .ref qhi, .ref qfw, .ref qkp]))] := hD
    refine lv_aload_n hx hb dM_drains_24 rfl (lv_at hl 0 rfl) ?_
    refine lv_iload_n hx hb dM_drains_25 rfl (lv_at hl 3 rfl) ?_
    refine va_put (D := (dC, dI)) (ci := 5) (v := .int x) (ty := .int) (C := R_M) (T := T_M) (N := 24) hx hb htw in_M ty_M tok_M nnm_M hown hK hP hD hS 0 rfl rfl 14 (by decide) (htw _ m_371) (fun _ h9 => h9) rfl (by decide +kernel) rfl rfl (Nat.le_of_ble_eq_true rfl) dM_drains_26 (fun H locs hP hD hS => ?_)
    have hP : va_P (dC, dI) vwCl [(mm, .inr (5, [.int (nI ly), .int (nI ce), .ref qlo, .ref qlk, .ref qhd, .ref qsf, .ref qpr, .ref qpa, .ref qsk, .long co, .long wo, .int (nI dy), .int xa, .int xb, .int x, .int (nI mn), .ref qld, .ref qlz, .int (nI rn), .ref qrd, .ref qrv, .ref qhi, .ref qfw, .ref qkp]))] H := hP
    have hD : va_D A [(mm, .inr (5, [.int (nI ly), .int (nI ce), .ref qlo, .ref qlk, .ref qhd, .ref qsf, .ref qpr, .ref qpa, .ref qsk, .long co, .long wo, .int (nI dy), .int xa, .int xb, .int x, .int (nI mn), .ref qld, .ref qlz, .int (nI rn), .ref qrd, .ref qrv, .ref qhi, .ref qfw, .ref qkp]))] := hD
    refine lv_iconst (v := nI 1) hx hb dM_drains_29 (by decide) ?_
    have hP : va_P (dC, dI) vwCl [(mm, .inr (5, [.int (nI ly), .int (nI ce), .ref qlo, .ref qlk, .ref qhd, .ref qsf, .ref qpr, .ref qpa, .ref qsk, .long co, .long wo, .int (nI dy), .int xa, .int xb, .int x, .int (nI mn), .ref qld, .ref qlz, .int (nI rn), .ref qrd, .ref qrv, .ref qhi, .ref qfw, .ref qkp]))] H := by first | exact hP | simpa only [] using hP
    have hD : va_D A [(mm, .inr (5, [.int (nI ly), .int (nI ce), .ref qlo, .ref qlk, .ref qhd, .ref qsf, .ref qpr, .ref qpa, .ref qsk, .long co, .long wo, .int (nI dy), .int xa, .int xb, .int x, .int (nI mn), .ref qld, .ref qlz, .int (nI rn), .ref qrd, .ref qrv, .ref qhi, .ref qfw, .ref qkp]))] := by first | exact hD | simpa only [] using hD
    exact W.zret (v := nI 1) hx hb hr (by decide) (fun t ht hW => ⟨⟨nI 1, (), rfl, rfl, by rw [ht]; exact hP, va_K.moved hW.alike hK, hD⟩, hS.F ht⟩) hS.2.2 dM_drains_30
  · -- 9 not taken
    rw [kb_eq0, k_wl, show ((0 : Int64)).toInt = 0 from by decide, show ((200 : Int64)).toInt = 200 from by decide] at hc9
    simp only [Int32.toInt_toInt64] at hc9
    exfalso; omega
set_option maxHeartbeats 4000000 in
set_option maxRecDepth 100000 in
theorem kM_drains_bad (l : Launch) (dC : Nat → ClassId) (dI : Nat → Nat → Nat) (cI cJ : ClassId) (mm qlo qlk qhd qsf qpr qpa qsk qld qlz qrd qrv qhi qfw qkp : Nat) (sz : Nat) (xa : Int32) (xb : Int32) (x : Int32) (ly : Nat) (ce : Nat) (co : Int64) (wo : Int64) (dy : Nat) (da : Int32) (db : Int32) (dr : Int32) (mn : Nat) (rn : Nat) (hbad : ¬ (0 ≤ x.toInt ∧ x.toInt ≤ 200)) : Met l yM_drains wM_drains ({ frames := 1, cells := 0, slots := 0, locals := 25 }) (va_Pc [.ref mm, .int xa, .int xb, .int x] (fun U => U.heap.size = sz ∧ va_P (dC, dI) vwCl [(mm, .inr (5, [.int (nI ly), .int (nI ce), .ref qlo, .ref qlk, .ref qhd, .ref qsf, .ref qpr, .ref qpa, .ref qsk, .long co, .long wo, .int (nI dy), .int da, .int db, .int dr, .int (nI mn), .ref qld, .ref qlz, .int (nI rn), .ref qrd, .ref qrv, .ref qhi, .ref qfw, .ref qkp]))] U.heap ∧ va_K (dC, dI) vwCl [(cI, .int), (cJ, .long)] U ∧ va_D (fun _ => True) [(mm, .inr (5, [.int (nI ly), .int (nI ce), .ref qlo, .ref qlk, .ref qhd, .ref qsf, .ref qpr, .ref qpa, .ref qsk, .long co, .long wo, .int (nI dy), .int da, .int db, .int dr, .int (nI mn), .ref qld, .ref qlz, .int (nI rn), .ref qrd, .ref qrv, .ref qhi, .ref qfw, .ref qkp]))])) (va_Qi (fun res_ (_ : Unit) => res_ = nI 0) (fun _ t => va_P (dC, dI) vwCl [(mm, .inr (5, [.int (nI ly), .int (nI ce), .ref qlo, .ref qlk, .ref qhd, .ref qsf, .ref qpr, .ref qpa, .ref qsk, .long co, .long wo, .int (nI dy), .int da, .int db, .int dr, .int (nI mn), .ref qld, .ref qlz, .int (nI rn), .ref qrd, .ref qrv, .ref qhi, .ref qfw, .ref qkp]))] t.heap ∧ va_K (dC, dI) vwCl [(cI, .int), (cJ, .long)] t ∧ va_D (va_A [(mm, .inr (5, [.int (nI ly), .int (nI ce), .ref qlo, .ref qlk, .ref qhd, .ref qsf, .ref qpr, .ref qpa, .ref qsk, .long co, .long wo, .int (nI dy), .int da, .int db, .int dr, .int (nI mn), .ref qld, .ref qlz, .int (nI rn), .ref qrd, .ref qrv, .ref qhi, .ref qfw, .ref qkp]))] sz) [(mm, .inr (5, [.int (nI ly), .int (nI ce), .ref qlo, .ref qlk, .ref qhd, .ref qsf, .ref qpr, .ref qpa, .ref qsk, .long co, .long wo, .int (nI dy), .int da, .int db, .int dr, .int (nI mn), .ref qld, .ref qlz, .int (nI rn), .ref qrd, .ref qrv, .ref qhi, .ref qfw, .ref qkp]))]) (va_A [(mm, .inr (5, [.int (nI ly), .int (nI ce), .ref qlo, .ref qlk, .ref qhd, .ref qsf, .ref qpr, .ref qpa, .ref qsk, .long co, .long wo, .int (nI dy), .int da, .int db, .int dr, .int (nI mn), .ref qld, .ref qlz, .int (nI rn), .ref qrd, .ref qrv, .ref qhi, .ref qfw, .ref qkp]))] sz)) 0 0 (va_A [(mm, .inr (5, [.int (nI ly), .int (nI ce), .ref qlo, .ref qlk, .ref qhd, .ref qsf, .ref qpr, .ref qpa, .ref qsk, .long co, .long wo, .int (nI dy), .int da, .int db, .int dr, .int (nI mn), .ref qld, .ref qlz, .int (nI rn), .ref qrd, .ref qrv, .ref qhi, .ref qfw, .ref qkp]))] sz) := by
  refine Met.ofW (cc := bM_drains) (maxL := 4) (ret := (some .boolean)) (by decide) rfl ?_
  intro p e s m args below meth c s₁ B hml hv
  obtain ⟨rfl, hsz, hP, hK, hD0⟩ := hv
  have hx := B.exec
  have hb := B.bytes
  have hr := B.returns
  have hts := atoms_spec (ws := wM_drains) B.pre
  have hown : s.vm.findClass R_M = some m.cls := findClass_of_methodNamed B.named
  have htw : ∀ w ∈ WA, w.before _ s = true := fun w h => hts w (List.mem_cons_of_mem _ h)
  clear hts
  have hlocks := B.notSynchronized
  subst hsz
  have hD := hD0.self (sz := s.heap.size)
  generalize hAe : va_A [(mm, .inr (5, [.int (nI ly), .int (nI ce), .ref qlo, .ref qlk, .ref qhd, .ref qsf, .ref qpr, .ref qpa, .ref qsk, .long co, .long wo, .int (nI dy), .int da, .int db, .int dr, .int (nI mn), .ref qld, .ref qlz, .int (nI rn), .ref qrd, .ref qrv, .ref qhi, .ref qfw, .ref qkp]))] s.heap.size = A at hD ⊢
  have hA : ∀ q : Nat, s.heap.size ≤ q → A q := fun q h => by rw [← hAe]; exact Or.inr h
  clear hAe hD0
  have hS : va_S A s.heap s.heap [] := va_S.rf
  have hP : va_P (dC, dI) vwCl [(mm, .inr (5, [.int (nI ly), .int (nI ce), .ref qlo, .ref qlk, .ref qhd, .ref qsf, .ref qpr, .ref qpa, .ref qsk, .long co, .long wo, .int (nI dy), .int da, .int db, .int dr, .int (nI mn), .ref qld, .ref qlz, .int (nI rn), .ref qrd, .ref qrv, .ref qhi, .ref qfw, .ref qkp]))] s.heap := hP
  have hl := lv_entry ([.ref mm, .int xa, .int xb, .int x]) (n := 4) (Nat.le_of_ble_eq_true rfl)
  rw [lg_entry_eq]
  generalize (lg_sl ([.ref mm, .int xa, .int xb, .int x]) ++ List.replicate (4 - (lg_sl ([.ref mm, .int xa, .int xb, .int x])).length) Slot.unset).toArray = ls at hl ⊢
  have hl : lv_has ls 4 [(0, .ref mm), (1, .int xa), (2, .int xb), (3, .int x)] := hl
  refine lv_iload_n hx hb dM_drains_0 rfl (lv_at hl 3 rfl) ?_
  refine lv_i2l (v := x.toInt64) hx hb dM_drains_1 rfl ?_
  refine lv_lconst (v := 0) hx hb dM_drains_2 (by decide) ?_
  refine lv_ldc2 (v := 200) hx hb hown (htw _ m_445) dM_drains_3 ?_
  have hPc := hP.sub (ws' := []) [] rfl
  have hDc := hD.sub (ws' := []) [] (by decide) rfl
  have hFc := va_free (wc := []) hD hS hA [] rfl
  refine va_calli (va_runS (As := [.long x.toInt64, .long 0, .long 200]) (rest := []) ⟨hx, hb, hml, hown, htw⟩ (kM_in l dC dI cI cJ s.heap.size x.toInt64 0 200) (va_cwS 3 htw (ws_good m_435 m_436 m_6 m_437) rfl rfl rfl (by decide +kernel) ⟨Nat.le_of_ble_eq_true rfl, Nat.le_of_ble_eq_true rfl⟩) ⟨fun a U g mk q => by obtain ⟨q0, q1, qP, qK, qD⟩ := q; exact ⟨q0, q1, qP, va_K.moved (u := U) (U := U.calling g mk a) (Vm.Alike.refl U.vm) qK, qD⟩, fun U hU hW => ⟨rfl, by rw [hU], by rw [hU]; exact hPc, va_K.moved hW.alike hK, hDc.weaken (fun _ _ _ _ => trivial)⟩⟩ rfl rfl hl.1 rfl (lv_room (Nat.le_of_ble_eq_true rfl)) dM_drains_6 ⟨Nat.le_of_ble_eq_true rfl, Nat.le_of_ble_eq_true rfl⟩) hS (fun q _ h => hFc q h) hFc (fun res_ u_ t H1 locs ht hvm hw hB hz1 hk1 hS => ?_)
  obtain ⟨hP1, hK1, hD1⟩ := hB
  rw [ht] at hP1
  obtain ⟨hP, hD⟩ := va_join (wr := [(mm, .inr (5, [.int (nI ly), .int (nI ce), .ref qlo, .ref qlk, .ref qhd, .ref qsf, .ref qpr, .ref qpa, .ref qsk, .long co, .long wo, .int (nI dy), .int da, .int db, .int dr, .int (nI mn), .ref qld, .ref qlz, .int (nI rn), .ref qrd, .ref qrv, .ref qhi, .ref qfw, .ref qkp]))]) (w1 := []) hP hD [] [0] rfl rfl (by decide) (by decide) hk1 hFc hP1 hD1
  generalize H1 = H at hP hS ⊢
  have hP : va_P (dC, dI) vwCl [(mm, .inr (5, [.int (nI ly), .int (nI ce), .ref qlo, .ref qlk, .ref qhd, .ref qsf, .ref qpr, .ref qpa, .ref qsk, .long co, .long wo, .int (nI dy), .int da, .int db, .int dr, .int (nI mn), .ref qld, .ref qlz, .int (nI rn), .ref qrd, .ref qrv, .ref qhi, .ref qfw, .ref qkp]))] H := hP
  have hD : va_D A [(mm, .inr (5, [.int (nI ly), .int (nI ce), .ref qlo, .ref qlk, .ref qhd, .ref qsf, .ref qpr, .ref qpa, .ref qsk, .long co, .long wo, .int (nI dy), .int da, .int db, .int dr, .int (nI mn), .ref qld, .ref qlz, .int (nI rn), .ref qrd, .ref qrv, .ref qhi, .ref qfw, .ref qkp]))] := hD
  clear hPc hDc hFc hP1 hD1 hK1 hk1 hz1 hvm ht
  obtain rfl : kb (0 ≤ x.toInt64 ∧ x.toInt64 ≤ 200) = res_ := hw.symm
  refine lv_if_ne (tgt := 14) hx hb dM_drains_9 (by decide) (fun hc9 => ?_) (fun hc9 => ?_)
  · -- 9 taken
    rw [kb_eq0, k_wl, show ((0 : Int64)).toInt = 0 from by decide, show ((200 : Int64)).toInt = 200 from by decide] at hc9
    simp only [Int32.toInt_toInt64] at hc9
    exfalso; omega
  · -- 9 not taken
    rw [kb_eq0, k_wl, show ((0 : Int64)).toInt = 0 from by decide, show ((200 : Int64)).toInt = 200 from by decide] at hc9
    simp only [Int32.toInt_toInt64] at hc9
    refine lv_iconst (v := nI 0) hx hb dM_drains_12 (by decide) ?_
    have hP : va_P (dC, dI) vwCl [(mm, .inr (5, [.int (nI ly), .int (nI ce), .ref qlo, .ref qlk, .ref qhd, .ref qsf, .ref qpr, .ref qpa, .ref qsk, .long co, .long wo, .int (nI dy), .int da, .int db, .int dr, .int (nI mn), .ref qld, .ref qlz, .int (nI rn), .ref qrd, .ref qrv, .ref qhi, .ref qfw, .ref qkp]))] H := by first | exact hP | simpa only [] using hP
    have hD : va_D A [(mm, .inr (5, [.int (nI ly), .int (nI ce), .ref qlo, .ref qlk, .ref qhd, .ref qsf, .ref qpr, .ref qpa, .ref qsk, .long co, .long wo, .int (nI dy), .int da, .int db, .int dr, .int (nI mn), .ref qld, .ref qlz, .int (nI rn), .ref qrd, .ref qrv, .ref qhi, .ref qfw, .ref qkp]))] := by first | exact hD | simpa only [] using hD
    exact W.zret (v := nI 0) hx hb hr (by decide) (fun t ht hW => ⟨⟨nI 0, (), rfl, rfl, by rw [ht]; exact hP, va_K.moved hW.alike hK, hD⟩, hS.F ht⟩) hS.2.2 dM_drains_13
set_option maxHeartbeats 4000000 in
set_option maxRecDepth 100000 in
theorem kM_load_ok (l : Launch) (dC : Nat → ClassId) (dI : Nat → Nat → Nat) (cI cJ : ClassId) (mm qlo qlk qhd qsf qpr qpa qsk qld qlz qrd qrv qhi qfw qkp : Nat) (sz : Nat) (x : Int32) (y : Int32) (ly : Nat) (ce : Nat) (co : Int64) (wo : Int64) (dy : Nat) (da : Int32) (db : Int32) (dr : Int32) (mn : Nat) (rn : Nat) (ld : Nat → Int32) (lz : Nat → Int32) (hdy : dy ≤ 400) (hmn : mn ≤ 12) (hok : ((dy : Int) ≤ x.toInt ∧ x.toInt ≤ 399 ∧ 1 ≤ y.toInt ∧ y.toInt ≤ 200000 ∧ mn < 12)) : Met l yM_load wM_load ({ frames := 1, cells := 0, slots := 0, locals := 25 }) (va_Pc [.ref mm, .int x, .int y] (fun U => U.heap.size = sz ∧ va_P (dC, dI) vwCl [(mm, .inr (5, [.int (nI ly), .int (nI ce), .ref qlo, .ref qlk, .ref qhd, .ref qsf, .ref qpr, .ref qpa, .ref qsk, .long co, .long wo, .int (nI dy), .int da, .int db, .int dr, .int (nI mn), .ref qld, .ref qlz, .int (nI rn), .ref qrd, .ref qrv, .ref qhi, .ref qfw, .ref qkp])), (qld, .inl (cI, 12, .inl ld)), (qlz, .inl (cI, 12, .inl lz))] U.heap ∧ va_K (dC, dI) vwCl [(cI, .int), (cJ, .long)] U ∧ va_D (fun _ => True) [(mm, .inr (5, [.int (nI ly), .int (nI ce), .ref qlo, .ref qlk, .ref qhd, .ref qsf, .ref qpr, .ref qpa, .ref qsk, .long co, .long wo, .int (nI dy), .int da, .int db, .int dr, .int (nI mn), .ref qld, .ref qlz, .int (nI rn), .ref qrd, .ref qrv, .ref qhi, .ref qfw, .ref qkp])), (qld, .inl (cI, 12, .inl ld)), (qlz, .inl (cI, 12, .inl lz))])) (va_Qi (fun res_ (_ : Unit) => res_ = nI (mn + 1)) (fun _ t => va_P (dC, dI) vwCl [(mm, .inr (5, [.int (nI ly), .int (nI ce), .ref qlo, .ref qlk, .ref qhd, .ref qsf, .ref qpr, .ref qpa, .ref qsk, .long co, .long wo, .int (nI dy), .int da, .int db, .int dr, .int (nI (mn + 1)), .ref qld, .ref qlz, .int (nI rn), .ref qrd, .ref qrv, .ref qhi, .ref qfw, .ref qkp])), (qld, .inl (cI, 12, .inl (upd ld mn x))), (qlz, .inl (cI, 12, .inl (upd lz mn y)))] t.heap ∧ va_K (dC, dI) vwCl [(cI, .int), (cJ, .long)] t ∧ va_D (va_A [(mm, .inr (5, [.int (nI ly), .int (nI ce), .ref qlo, .ref qlk, .ref qhd, .ref qsf, .ref qpr, .ref qpa, .ref qsk, .long co, .long wo, .int (nI dy), .int da, .int db, .int dr, .int (nI mn), .ref qld, .ref qlz, .int (nI rn), .ref qrd, .ref qrv, .ref qhi, .ref qfw, .ref qkp])), (qld, .inl (cI, 12, .inl ld)), (qlz, .inl (cI, 12, .inl lz))] sz) [(mm, .inr (5, [.int (nI ly), .int (nI ce), .ref qlo, .ref qlk, .ref qhd, .ref qsf, .ref qpr, .ref qpa, .ref qsk, .long co, .long wo, .int (nI dy), .int da, .int db, .int dr, .int (nI (mn + 1)), .ref qld, .ref qlz, .int (nI rn), .ref qrd, .ref qrv, .ref qhi, .ref qfw, .ref qkp])), (qld, .inl (cI, 12, .inl (upd ld mn x))), (qlz, .inl (cI, 12, .inl (upd lz mn y)))]) (va_A [(mm, .inr (5, [.int (nI ly), .int (nI ce), .ref qlo, .ref qlk, .ref qhd, .ref qsf, .ref qpr, .ref qpa, .ref qsk, .long co, .long wo, .int (nI dy), .int da, .int db, .int dr, .int (nI mn), .ref qld, .ref qlz, .int (nI rn), .ref qrd, .ref qrv, .ref qhi, .ref qfw, .ref qkp])), (qld, .inl (cI, 12, .inl ld)), (qlz, .inl (cI, 12, .inl lz))] sz)) 0 0 (va_A [(mm, .inr (5, [.int (nI ly), .int (nI ce), .ref qlo, .ref qlk, .ref qhd, .ref qsf, .ref qpr, .ref qpa, .ref qsk, .long co, .long wo, .int (nI dy), .int da, .int db, .int dr, .int (nI mn), .ref qld, .ref qlz, .int (nI rn), .ref qrd, .ref qrv, .ref qhi, .ref qfw, .ref qkp])), (qld, .inl (cI, 12, .inl ld)), (qlz, .inl (cI, 12, .inl lz))] sz) := by
  refine Met.ofW (cc := bM_load) (maxL := 3) (ret := (some .int)) (by decide) rfl ?_
  intro p e s m args below meth c s₁ B hml hv
  obtain ⟨rfl, hsz, hP, hK, hD0⟩ := hv
  have hx := B.exec
  have hb := B.bytes
  have hr := B.returns
  have hts := atoms_spec (ws := wM_load) B.pre
  have hown : s.vm.findClass R_M = some m.cls := findClass_of_methodNamed B.named
  have htw : ∀ w ∈ WA, w.before _ s = true := fun w h => hts w (List.mem_cons_of_mem _ h)
  clear hts
  have hlocks := B.notSynchronized
  subst hsz
  have hD := hD0.self (sz := s.heap.size)
  generalize hAe : va_A [(mm, .inr (5, [.int (nI ly), .int (nI ce), .ref qlo, .ref qlk, .ref qhd, .ref qsf, .ref qpr, .ref qpa, .ref qsk, .long co, .long wo, .int (nI dy), .int da, .int db, .int dr, .int (nI mn), .ref qld, .ref qlz, .int (nI rn), .ref qrd, .ref qrv, .ref qhi, .ref qfw, .ref qkp])), (qld, .inl (cI, 12, .inl ld)), (qlz, .inl (cI, 12, .inl lz))] s.heap.size = A at hD ⊢
  have hA : ∀ q : Nat, s.heap.size ≤ q → A q := fun q h => by rw [← hAe]; exact Or.inr h
  clear hAe hD0
  have hS : va_S A s.heap s.heap [] := va_S.rf
  have hP : va_P (dC, dI) vwCl [(mm, .inr (5, [.int (nI ly), .int (nI ce), .ref qlo, .ref qlk, .ref qhd, .ref qsf, .ref qpr, .ref qpa, .ref qsk, .long co, .long wo, .int (nI dy), .int da, .int db, .int dr, .int (nI mn), .ref qld, .ref qlz, .int (nI rn), .ref qrd, .ref qrv, .ref qhi, .ref qfw, .ref qkp])), (qld, .inl (cI, 12, .inl ld)), (qlz, .inl (cI, 12, .inl lz))] s.heap := hP
  have hl := lv_entry ([.ref mm, .int x, .int y]) (n := 3) (Nat.le_of_ble_eq_true rfl)
  rw [lg_entry_eq]
  generalize (lg_sl ([.ref mm, .int x, .int y]) ++ List.replicate (3 - (lg_sl ([.ref mm, .int x, .int y])).length) Slot.unset).toArray = ls at hl ⊢
  have hl : lv_has ls 3 [(0, .ref mm), (1, .int x), (2, .int y)] := hl
  refine lv_iload_n hx hb dM_load_0 rfl (lv_at hl 1 rfl) ?_
  refine lv_i2l (v := x.toInt64) hx hb dM_load_1 rfl ?_
  refine lv_aload_n hx hb dM_load_2 rfl (lv_at hl 0 rfl) ?_
  refine va_get (D := (dC, dI)) (ci := 5) (v := .int (nI dy)) (C := R_M) (T := T_M) (N := 24) hx hb htw in_M hown hK hP 0 rfl rfl 11 (by decide) (htw _ m_368) (fun _ h9 => h9) rfl dM_load_3 ?_
  refine lv_i2l (v := (nI dy).toInt64) hx hb dM_load_6 rfl ?_
  refine lv_ldc2 (v := 399) hx hb hown (htw _ m_450) dM_load_7 ?_
  have hPc := hP.sub (ws' := []) [] rfl
  have hDc := hD.sub (ws' := []) [] (by decide) rfl
  have hFc := va_free (wc := []) hD hS hA [] rfl
  refine va_calli (va_runS (As := [.long x.toInt64, .long ((nI dy).toInt64), .long 399]) (rest := []) ⟨hx, hb, hml, hown, htw⟩ (kM_in l dC dI cI cJ s.heap.size x.toInt64 ((nI dy).toInt64) 399) (va_cwS 3 htw (ws_good m_435 m_436 m_6 m_437) rfl rfl rfl (by decide +kernel) ⟨Nat.le_of_ble_eq_true rfl, Nat.le_of_ble_eq_true rfl⟩) ⟨fun a U g mk q => by obtain ⟨q0, q1, qP, qK, qD⟩ := q; exact ⟨q0, q1, qP, va_K.moved (u := U) (U := U.calling g mk a) (Vm.Alike.refl U.vm) qK, qD⟩, fun U hU hW => ⟨rfl, by rw [hU], by rw [hU]; exact hPc, va_K.moved hW.alike hK, hDc.weaken (fun _ _ _ _ => trivial)⟩⟩ rfl rfl hl.1 rfl (lv_room (Nat.le_of_ble_eq_true rfl)) dM_load_10 ⟨Nat.le_of_ble_eq_true rfl, Nat.le_of_ble_eq_true rfl⟩) hS (fun q _ h => hFc q h) hFc (fun res_ u_ t H1 locs ht hvm hw hB hz1 hk1 hS => ?_)
  obtain ⟨hP1, hK1, hD1⟩ := hB
  rw [ht] at hP1
  obtain ⟨hP, hD⟩ := va_join (wr := [(mm, .inr (5, [.int (nI ly), .int (nI ce), .ref qlo, .ref qlk, .ref qhd, .ref qsf, .ref qpr, .ref qpa, .ref qsk, .long co, .long wo, .int (nI dy), .int da, .int db, .int dr, .int (nI mn), .ref qld, .ref qlz, .int (nI rn), .ref qrd, .ref qrv, .ref qhi, .ref qfw, .ref qkp])), (qld, .inl (cI, 12, .inl ld)), (qlz, .inl (cI, 12, .inl lz))]) (w1 := []) hP hD [] [0, 1, 2] rfl rfl (by decide) (by decide) hk1 hFc hP1 hD1
  generalize H1 = H at hP hS ⊢
  have hP : va_P (dC, dI) vwCl [(mm, .inr (5, [.int (nI ly), .int (nI ce), .ref qlo, .ref qlk, .ref qhd, .ref qsf, .ref qpr, .ref qpa, .ref qsk, .long co, .long wo, .int (nI dy), .int da, .int db, .int dr, .int (nI mn), .ref qld, .ref qlz, .int (nI rn), .ref qrd, .ref qrv, .ref qhi, .ref qfw, .ref qkp])), (qld, .inl (cI, 12, .inl ld)), (qlz, .inl (cI, 12, .inl lz))] H := hP
  have hD : va_D A [(mm, .inr (5, [.int (nI ly), .int (nI ce), .ref qlo, .ref qlk, .ref qhd, .ref qsf, .ref qpr, .ref qpa, .ref qsk, .long co, .long wo, .int (nI dy), .int da, .int db, .int dr, .int (nI mn), .ref qld, .ref qlz, .int (nI rn), .ref qrd, .ref qrv, .ref qhi, .ref qfw, .ref qkp])), (qld, .inl (cI, 12, .inl ld)), (qlz, .inl (cI, 12, .inl lz))] := hD
  clear hPc hDc hFc hP1 hD1 hK1 hk1 hz1 hvm ht
  obtain rfl : kb (((nI dy).toInt64) ≤ x.toInt64 ∧ x.toInt64 ≤ 399) = res_ := hw.symm
  refine lv_if_eq (tgt := 37) hx hb dM_load_13 (by decide) (fun hc13 => ?_) (fun hc13 => ?_)
  · -- 13 taken
    rw [kb_eq0, k_wl, show ((399 : Int64)).toInt = 399 from by decide] at hc13
    simp only [Int32.toInt_toInt64] at hc13
    rw [nI_toInt (n := dy) (by omega)] at hc13
    exfalso; omega
  · -- 13 not taken
    rw [kb_eq0, k_wl, show ((399 : Int64)).toInt = 399 from by decide] at hc13
    simp only [Int32.toInt_toInt64] at hc13
    rw [nI_toInt (n := dy) (by omega)] at hc13
    refine lv_iload_n hx hb dM_load_16 rfl (lv_at hl 2 rfl) ?_
    refine lv_i2l (v := y.toInt64) hx hb dM_load_17 rfl ?_
    refine lv_lconst (v := 1) hx hb dM_load_18 (by decide) ?_
    refine lv_ldc2 (v := 200000) hx hb hown (htw _ m_451) dM_load_19 ?_
    have hPc := hP.sub (ws' := []) [] rfl
    have hDc := hD.sub (ws' := []) [] (by decide) rfl
    have hFc := va_free (wc := []) hD hS hA [] rfl
    refine va_calli (va_runS (As := [.long y.toInt64, .long 1, .long 200000]) (rest := []) ⟨hx, hb, hml, hown, htw⟩ (kM_in l dC dI cI cJ H.size y.toInt64 1 200000) (va_cwS 3 htw (ws_good m_435 m_436 m_6 m_437) rfl rfl rfl (by decide +kernel) ⟨Nat.le_of_ble_eq_true rfl, Nat.le_of_ble_eq_true rfl⟩) ⟨fun a U g mk q => by obtain ⟨q0, q1, qP, qK, qD⟩ := q; exact ⟨q0, q1, qP, va_K.moved (u := U) (U := U.calling g mk a) (Vm.Alike.refl U.vm) qK, qD⟩, fun U hU hW => ⟨rfl, by rw [hU], by rw [hU]; exact hPc, va_K.moved hW.alike hK, hDc.weaken (fun _ _ _ _ => trivial)⟩⟩ rfl rfl hl.1 rfl (lv_room (Nat.le_of_ble_eq_true rfl)) dM_load_22 ⟨Nat.le_of_ble_eq_true rfl, Nat.le_of_ble_eq_true rfl⟩) hS (fun q _ h => hFc q h) hFc (fun res_ u_ t H1 locs ht hvm hw hB hz1 hk1 hS => ?_)
    obtain ⟨hP1, hK1, hD1⟩ := hB
    rw [ht] at hP1
    obtain ⟨hP, hD⟩ := va_join (wr := [(mm, .inr (5, [.int (nI ly), .int (nI ce), .ref qlo, .ref qlk, .ref qhd, .ref qsf, .ref qpr, .ref qpa, .ref qsk, .long co, .long wo, .int (nI dy), .int da, .int db, .int dr, .int (nI mn), .ref qld, .ref qlz, .int (nI rn), .ref qrd, .ref qrv, .ref qhi, .ref qfw, .ref qkp])), (qld, .inl (cI, 12, .inl ld)), (qlz, .inl (cI, 12, .inl lz))]) (w1 := []) hP hD [] [0, 1, 2] rfl rfl (by decide) (by decide) hk1 hFc hP1 hD1
    generalize H1 = H at hP hS ⊢
    have hP : va_P (dC, dI) vwCl [(mm, .inr (5, [.int (nI ly), .int (nI ce), .ref qlo, .ref qlk, .ref qhd, .ref qsf, .ref qpr, .ref qpa, .ref qsk, .long co, .long wo, .int (nI dy), .int da, .int db, .int dr, .int (nI mn), .ref qld, .ref qlz, .int (nI rn), .ref qrd, .ref qrv, .ref qhi, .ref qfw, .ref qkp])), (qld, .inl (cI, 12, .inl ld)), (qlz, .inl (cI, 12, .inl lz))] H := hP
    have hD : va_D A [(mm, .inr (5, [.int (nI ly), .int (nI ce), .ref qlo, .ref qlk, .ref qhd, .ref qsf, .ref qpr, .ref qpa, .ref qsk, .long co, .long wo, .int (nI dy), .int da, .int db, .int dr, .int (nI mn), .ref qld, .ref qlz, .int (nI rn), .ref qrd, .ref qrv, .ref qhi, .ref qfw, .ref qkp])), (qld, .inl (cI, 12, .inl ld)), (qlz, .inl (cI, 12, .inl lz))] := hD
    clear hPc hDc hFc hP1 hD1 hK1 hk1 hz1 hvm ht
    obtain rfl : kb (1 ≤ y.toInt64 ∧ y.toInt64 ≤ 200000) = res_ := hw.symm
    refine lv_if_eq (tgt := 37) hx hb dM_load_25 (by decide) (fun hc25 => ?_) (fun hc25 => ?_)
    · -- 25 taken
      rw [kb_eq0, k_wl, show ((1 : Int64)).toInt = 1 from by decide, show ((200000 : Int64)).toInt = 200000 from by decide] at hc25
      simp only [Int32.toInt_toInt64] at hc25
      exfalso; omega
    · -- 25 not taken
      rw [kb_eq0, k_wl, show ((1 : Int64)).toInt = 1 from by decide, show ((200000 : Int64)).toInt = 200000 from by decide] at hc25
      simp only [Int32.toInt_toInt64] at hc25
      refine lv_aload_n hx hb dM_load_28 rfl (lv_at hl 0 rfl) ?_
      refine va_get (D := (dC, dI)) (ci := 5) (v := .int (nI mn)) (C := R_M) (T := T_M) (N := 24) hx hb htw in_M hown hK hP 0 rfl rfl 15 (by decide) (htw _ m_372) (fun _ h9 => h9) rfl dM_load_29 ?_
      refine lv_bipush (v := nI 12) hx hb dM_load_32 (by decide) ?_
      refine lv_icmp_ne (tgt := 39) hx hb dM_load_34 (by decide) (fun hc34 => ?_) (fun hc34 => ?_)
      · -- 34 taken
        rw [nI_eq (by omega) (by omega)] at hc34
        refine lv_aload_n hx hb dM_load_39 rfl (lv_at hl 0 rfl) ?_
        refine va_get (D := (dC, dI)) (ci := 5) (v := .ref qld) (C := R_M) (T := T_M) (N := 24) hx hb htw in_M hown hK hP 0 rfl rfl 16 (by decide) (htw _ m_373) (fun _ h9 => h9) rfl dM_load_40 ?_
        refine lv_aload_n hx hb dM_load_43 rfl (lv_at hl 0 rfl) ?_
        refine va_get (D := (dC, dI)) (ci := 5) (v := .int (nI mn)) (C := R_M) (T := T_M) (N := 24) hx hb htw in_M hown hK hP 0 rfl rfl 15 (by decide) (htw _ m_372) (fun _ h9 => h9) rfl dM_load_44 ?_
        refine lv_iload_n hx hb dM_load_47 rfl (lv_at hl 1 rfl) ?_
        refine xa_iast hx hb hK hP hD hS 1 0 rfl rfl (i := mn) (by omega) (by decide) dM_load_48 (fun H locs hP hD hS => ?_)
        have hP : va_P (dC, dI) vwCl [(mm, .inr (5, [.int (nI ly), .int (nI ce), .ref qlo, .ref qlk, .ref qhd, .ref qsf, .ref qpr, .ref qpa, .ref qsk, .long co, .long wo, .int (nI dy), .int da, .int db, .int dr, .int (nI mn), .ref qld, .ref qlz, .int (nI rn), .ref qrd, .ref qrv, .ref qhi, .ref qfw, .ref qkp])), (qld, .inl (cI, 12, .inl (upd ld mn x))), (qlz, .inl (cI, 12, .inl lz))] H := hP
        have hD : va_D A [(mm, .inr (5, [.int (nI ly), .int (nI ce), .ref qlo, .ref qlk, .ref qhd, .ref qsf, .ref qpr, .ref qpa, .ref qsk, .long co, .long wo, .int (nI dy), .int da, .int db, .int dr, .int (nI mn), .ref qld, .ref qlz, .int (nI rn), .ref qrd, .ref qrv, .ref qhi, .ref qfw, .ref qkp])), (qld, .inl (cI, 12, .inl (upd ld mn x))), (qlz, .inl (cI, 12, .inl lz))] := hD
        refine lv_aload_n hx hb dM_load_49 rfl (lv_at hl 0 rfl) ?_
        refine va_get (D := (dC, dI)) (ci := 5) (v := .ref qlz) (C := R_M) (T := T_M) (N := 24) hx hb htw in_M hown hK hP 0 rfl rfl 17 (by decide) (htw _ m_374) (fun _ h9 => h9) rfl dM_load_50 ?_
        refine lv_aload_n hx hb dM_load_53 rfl (lv_at hl 0 rfl) ?_
        refine va_get (D := (dC, dI)) (ci := 5) (v := .int (nI mn)) (C := R_M) (T := T_M) (N := 24) hx hb htw in_M hown hK hP 0 rfl rfl 15 (by decide) (htw _ m_372) (fun _ h9 => h9) rfl dM_load_54 ?_
        refine lv_iload_n hx hb dM_load_57 rfl (lv_at hl 2 rfl) ?_
        refine xa_iast hx hb hK hP hD hS 2 0 rfl rfl (i := mn) (by omega) (by decide) dM_load_58 (fun H locs hP hD hS => ?_)
        have hP : va_P (dC, dI) vwCl [(mm, .inr (5, [.int (nI ly), .int (nI ce), .ref qlo, .ref qlk, .ref qhd, .ref qsf, .ref qpr, .ref qpa, .ref qsk, .long co, .long wo, .int (nI dy), .int da, .int db, .int dr, .int (nI mn), .ref qld, .ref qlz, .int (nI rn), .ref qrd, .ref qrv, .ref qhi, .ref qfw, .ref qkp])), (qld, .inl (cI, 12, .inl (upd ld mn x))), (qlz, .inl (cI, 12, .inl (upd lz mn y)))] H := hP
        have hD : va_D A [(mm, .inr (5, [.int (nI ly), .int (nI ce), .ref qlo, .ref qlk, .ref qhd, .ref qsf, .ref qpr, .ref qpa, .ref qsk, .long co, .long wo, .int (nI dy), .int da, .int db, .int dr, .int (nI mn), .ref qld, .ref qlz, .int (nI rn), .ref qrd, .ref qrv, .ref qhi, .ref qfw, .ref qkp])), (qld, .inl (cI, 12, .inl (upd ld mn x))), (qlz, .inl (cI, 12, .inl (upd lz mn y)))] := hD
        refine lv_aload_n hx hb dM_load_59 rfl (lv_at hl 0 rfl) ?_
        refine lv_dup hx hb dM_load_60 rfl ?_
        refine va_get (D := (dC, dI)) (ci := 5) (v := .int (nI mn)) (C := R_M) (T := T_M) (N := 24) hx hb htw in_M hown hK hP 0 rfl rfl 15 (by decide) (htw _ m_372) (fun _ h9 => h9) rfl dM_load_61 ?_
        refine lv_iconst (v := nI 1) hx hb dM_load_64 (by decide) ?_
        refine lv_iadd hx hb dM_load_65 ?_
        refine lv_topi (fun kv ekv => ?_)
        obtain rfl : kv = nI (mn + 1) := by rw [ekv]; exact nI_add _ _
        refine va_put (D := (dC, dI)) (ci := 5) (v := .int (nI (mn + 1))) (ty := .int) (C := R_M) (T := T_M) (N := 24) hx hb htw in_M ty_M tok_M nnm_M hown hK hP hD hS 0 rfl rfl 15 (by decide) (htw _ m_372) (fun _ h9 => h9) rfl (by decide +kernel) rfl rfl (Nat.le_of_ble_eq_true rfl) dM_load_66 (fun H locs hP hD hS => ?_)
        have hP : va_P (dC, dI) vwCl [(mm, .inr (5, [.int (nI ly), .int (nI ce), .ref qlo, .ref qlk, .ref qhd, .ref qsf, .ref qpr, .ref qpa, .ref qsk, .long co, .long wo, .int (nI dy), .int da, .int db, .int dr, .int (nI (mn + 1)), .ref qld, .ref qlz, .int (nI rn), .ref qrd, .ref qrv, .ref qhi, .ref qfw, .ref qkp])), (qld, .inl (cI, 12, .inl (upd ld mn x))), (qlz, .inl (cI, 12, .inl (upd lz mn y)))] H := hP
        have hD : va_D A [(mm, .inr (5, [.int (nI ly), .int (nI ce), .ref qlo, .ref qlk, .ref qhd, .ref qsf, .ref qpr, .ref qpa, .ref qsk, .long co, .long wo, .int (nI dy), .int da, .int db, .int dr, .int (nI (mn + 1)), .ref qld, .ref qlz, .int (nI rn), .ref qrd, .ref qrv, .ref qhi, .ref qfw, .ref qkp])), (qld, .inl (cI, 12, .inl (upd ld mn x))), (qlz, .inl (cI, 12, .inl (upd lz mn y)))] := hD
        refine lv_aload_n hx hb dM_load_69 rfl (lv_at hl 0 rfl) ?_
        refine va_get (D := (dC, dI)) (ci := 5) (v := .int (nI (mn + 1))) (C := R_M) (T := T_M) (N := 24) hx hb htw in_M hown hK hP 0 rfl rfl 15 (by decide) (htw _ m_372) (fun _ h9 => h9) rfl dM_load_70 ?_
        have hP : va_P (dC, dI) vwCl [(mm, .inr (5, [.int (nI ly), .int (nI ce), .ref qlo, .ref qlk, .ref qhd, .ref qsf, .ref qpr, .ref qpa, .ref qsk, .long co, .long wo, .int (nI dy), .int da, .int db, .int dr, .int (nI (mn + 1)), .ref qld, .ref qlz, .int (nI rn), .ref qrd, .ref qrv, .ref qhi, .ref qfw, .ref qkp])), (qld, .inl (cI, 12, .inl (upd ld mn x))), (qlz, .inl (cI, 12, .inl (upd lz mn y)))] H := by first | exact hP | simpa only [] using hP
        have hD : va_D A [(mm, .inr (5, [.int (nI ly), .int (nI ce), .ref qlo, .ref qlk, .ref qhd, .ref qsf, .ref qpr, .ref qpa, .ref qsk, .long co, .long wo, .int (nI dy), .int da, .int db, .int dr, .int (nI (mn + 1)), .ref qld, .ref qlz, .int (nI rn), .ref qrd, .ref qrv, .ref qhi, .ref qfw, .ref qkp])), (qld, .inl (cI, 12, .inl (upd ld mn x))), (qlz, .inl (cI, 12, .inl (upd lz mn y)))] := by first | exact hD | simpa only [] using hD
        exact W.iret (v := nI (mn + 1)) hx hb hr (fun t ht hW => ⟨⟨nI (mn + 1), (), rfl, rfl, by rw [ht]; exact hP, va_K.moved hW.alike hK, hD⟩, hS.F ht⟩) hS.2.2 dM_load_73
      · -- 34 not taken
        rw [nI_eq (by omega) (by omega)] at hc34
        exfalso; omega
set_option maxHeartbeats 4000000 in
set_option maxRecDepth 100000 in
theorem kM_load_bad (l : Launch) (dC : Nat → ClassId) (dI : Nat → Nat → Nat) (cI cJ : ClassId) (mm qlo qlk qhd qsf qpr qpa qsk qld qlz qrd qrv qhi qfw qkp : Nat) (sz : Nat) (x : Int32) (y : Int32) (ly : Nat) (ce : Nat) (co : Int64) (wo : Int64) (dy : Nat) (da : Int32) (db : Int32) (dr : Int32) (mn : Nat) (rn : Nat) (ld : Nat → Int32) (lz : Nat → Int32) (hdy : dy ≤ 400) (hmn : mn ≤ 12) (hbad : ¬ ((dy : Int) ≤ x.toInt ∧ x.toInt ≤ 399 ∧ 1 ≤ y.toInt ∧ y.toInt ≤ 200000 ∧ mn < 12)) : Met l yM_load wM_load ({ frames := 1, cells := 0, slots := 0, locals := 25 }) (va_Pc [.ref mm, .int x, .int y] (fun U => U.heap.size = sz ∧ va_P (dC, dI) vwCl [(mm, .inr (5, [.int (nI ly), .int (nI ce), .ref qlo, .ref qlk, .ref qhd, .ref qsf, .ref qpr, .ref qpa, .ref qsk, .long co, .long wo, .int (nI dy), .int da, .int db, .int dr, .int (nI mn), .ref qld, .ref qlz, .int (nI rn), .ref qrd, .ref qrv, .ref qhi, .ref qfw, .ref qkp])), (qld, .inl (cI, 12, .inl ld)), (qlz, .inl (cI, 12, .inl lz))] U.heap ∧ va_K (dC, dI) vwCl [(cI, .int), (cJ, .long)] U ∧ va_D (fun _ => True) [(mm, .inr (5, [.int (nI ly), .int (nI ce), .ref qlo, .ref qlk, .ref qhd, .ref qsf, .ref qpr, .ref qpa, .ref qsk, .long co, .long wo, .int (nI dy), .int da, .int db, .int dr, .int (nI mn), .ref qld, .ref qlz, .int (nI rn), .ref qrd, .ref qrv, .ref qhi, .ref qfw, .ref qkp])), (qld, .inl (cI, 12, .inl ld)), (qlz, .inl (cI, 12, .inl lz))])) (va_Qi (fun res_ (_ : Unit) => res_ = (-1)) (fun _ t => va_P (dC, dI) vwCl [(mm, .inr (5, [.int (nI ly), .int (nI ce), .ref qlo, .ref qlk, .ref qhd, .ref qsf, .ref qpr, .ref qpa, .ref qsk, .long co, .long wo, .int (nI dy), .int da, .int db, .int dr, .int (nI mn), .ref qld, .ref qlz, .int (nI rn), .ref qrd, .ref qrv, .ref qhi, .ref qfw, .ref qkp])), (qld, .inl (cI, 12, .inl ld)), (qlz, .inl (cI, 12, .inl lz))] t.heap ∧ va_K (dC, dI) vwCl [(cI, .int), (cJ, .long)] t ∧ va_D (va_A [(mm, .inr (5, [.int (nI ly), .int (nI ce), .ref qlo, .ref qlk, .ref qhd, .ref qsf, .ref qpr, .ref qpa, .ref qsk, .long co, .long wo, .int (nI dy), .int da, .int db, .int dr, .int (nI mn), .ref qld, .ref qlz, .int (nI rn), .ref qrd, .ref qrv, .ref qhi, .ref qfw, .ref qkp])), (qld, .inl (cI, 12, .inl ld)), (qlz, .inl (cI, 12, .inl lz))] sz) [(mm, .inr (5, [.int (nI ly), .int (nI ce), .ref qlo, .ref qlk, .ref qhd, .ref qsf, .ref qpr, .ref qpa, .ref qsk, .long co, .long wo, .int (nI dy), .int da, .int db, .int dr, .int (nI mn), .ref qld, .ref qlz, .int (nI rn), .ref qrd, .ref qrv, .ref qhi, .ref qfw, .ref qkp])), (qld, .inl (cI, 12, .inl ld)), (qlz, .inl (cI, 12, .inl lz))]) (va_A [(mm, .inr (5, [.int (nI ly), .int (nI ce), .ref qlo, .ref qlk, .ref qhd, .ref qsf, .ref qpr, .ref qpa, .ref qsk, .long co, .long wo, .int (nI dy), .int da, .int db, .int dr, .int (nI mn), .ref qld, .ref qlz, .int (nI rn), .ref qrd, .ref qrv, .ref qhi, .ref qfw, .ref qkp])), (qld, .inl (cI, 12, .inl ld)), (qlz, .inl (cI, 12, .inl lz))] sz)) 0 0 (va_A [(mm, .inr (5, [.int (nI ly), .int (nI ce), .ref qlo, .ref qlk, .ref qhd, .ref qsf, .ref qpr, .ref qpa, .ref qsk, .long co, .long wo, .int (nI dy), .int da, .int db, .int dr, .int (nI mn), .ref qld, .ref qlz, .int (nI rn), .ref qrd, .ref qrv, .ref qhi, .ref qfw, .ref qkp])), (qld, .inl (cI, 12, .inl ld)), (qlz, .inl (cI, 12, .inl lz))] sz) := by
  refine Met.ofW (cc := bM_load) (maxL := 3) (ret := (some .int)) (by decide) rfl ?_
  intro p e s m args below meth c s₁ B hml hv
  obtain ⟨rfl, hsz, hP, hK, hD0⟩ := hv
  have hx := B.exec
  have hb := B.bytes
  have hr := B.returns
  have hts := atoms_spec (ws := wM_load) B.pre
  have hown : s.vm.findClass R_M = some m.cls := findClass_of_methodNamed B.named
  have htw : ∀ w ∈ WA, w.before _ s = true := fun w h => hts w (List.mem_cons_of_mem _ h)
  clear hts
  have hlocks := B.notSynchronized
  subst hsz
  have hD := hD0.self (sz := s.heap.size)
  generalize hAe : va_A [(mm, .inr (5, [.int (nI ly), .int (nI ce), .ref qlo, .ref qlk, .ref qhd, .ref qsf, .ref qpr, .ref qpa, .ref qsk, .long co, .long wo, .int (nI dy), .int da, .int db, .int dr, .int (nI mn), .ref qld, .ref qlz, .int (nI rn), .ref qrd, .ref qrv, .ref qhi, .ref qfw, .ref qkp])), (qld, .inl (cI, 12, .inl ld)), (qlz, .inl (cI, 12, .inl lz))] s.heap.size = A at hD ⊢
  have hA : ∀ q : Nat, s.heap.size ≤ q → A q := fun q h => by rw [← hAe]; exact Or.inr h
  clear hAe hD0
  have hS : va_S A s.heap s.heap [] := va_S.rf
  have hP : va_P (dC, dI) vwCl [(mm, .inr (5, [.int (nI ly), .int (nI ce), .ref qlo, .ref qlk, .ref qhd, .ref qsf, .ref qpr, .ref qpa, .ref qsk, .long co, .long wo, .int (nI dy), .int da, .int db, .int dr, .int (nI mn), .ref qld, .ref qlz, .int (nI rn), .ref qrd, .ref qrv, .ref qhi, .ref qfw, .ref qkp])), (qld, .inl (cI, 12, .inl ld)), (qlz, .inl (cI, 12, .inl lz))] s.heap := hP
  have hl := lv_entry ([.ref mm, .int x, .int y]) (n := 3) (Nat.le_of_ble_eq_true rfl)
  rw [lg_entry_eq]
  generalize (lg_sl ([.ref mm, .int x, .int y]) ++ List.replicate (3 - (lg_sl ([.ref mm, .int x, .int y])).length) Slot.unset).toArray = ls at hl ⊢
  have hl : lv_has ls 3 [(0, .ref mm), (1, .int x), (2, .int y)] := hl
  refine lv_iload_n hx hb dM_load_0 rfl (lv_at hl 1 rfl) ?_
  refine lv_i2l (v := x.toInt64) hx hb dM_load_1 rfl ?_
  refine lv_aload_n hx hb dM_load_2 rfl (lv_at hl 0 rfl) ?_
  refine va_get (D := (dC, dI)) (ci := 5) (v := .int (nI dy)) (C := R_M) (T := T_M) (N := 24) hx hb htw in_M hown hK hP 0 rfl rfl 11 (by decide) (htw _ m_368) (fun _ h9 => h9) rfl dM_load_3 ?_
  refine lv_i2l (v := (nI dy).toInt64) hx hb dM_load_6 rfl ?_
  refine lv_ldc2 (v := 399) hx hb hown (htw _ m_450) dM_load_7 ?_
  have hPc := hP.sub (ws' := []) [] rfl
  have hDc := hD.sub (ws' := []) [] (by decide) rfl
  have hFc := va_free (wc := []) hD hS hA [] rfl
  refine va_calli (va_runS (As := [.long x.toInt64, .long ((nI dy).toInt64), .long 399]) (rest := []) ⟨hx, hb, hml, hown, htw⟩ (kM_in l dC dI cI cJ s.heap.size x.toInt64 ((nI dy).toInt64) 399) (va_cwS 3 htw (ws_good m_435 m_436 m_6 m_437) rfl rfl rfl (by decide +kernel) ⟨Nat.le_of_ble_eq_true rfl, Nat.le_of_ble_eq_true rfl⟩) ⟨fun a U g mk q => by obtain ⟨q0, q1, qP, qK, qD⟩ := q; exact ⟨q0, q1, qP, va_K.moved (u := U) (U := U.calling g mk a) (Vm.Alike.refl U.vm) qK, qD⟩, fun U hU hW => ⟨rfl, by rw [hU], by rw [hU]; exact hPc, va_K.moved hW.alike hK, hDc.weaken (fun _ _ _ _ => trivial)⟩⟩ rfl rfl hl.1 rfl (lv_room (Nat.le_of_ble_eq_true rfl)) dM_load_10 ⟨Nat.le_of_ble_eq_true rfl, Nat.le_of_ble_eq_true rfl⟩) hS (fun q _ h => hFc q h) hFc (fun res_ u_ t H1 locs ht hvm hw hB hz1 hk1 hS => ?_)
  obtain ⟨hP1, hK1, hD1⟩ := hB
  rw [ht] at hP1
  obtain ⟨hP, hD⟩ := va_join (wr := [(mm, .inr (5, [.int (nI ly), .int (nI ce), .ref qlo, .ref qlk, .ref qhd, .ref qsf, .ref qpr, .ref qpa, .ref qsk, .long co, .long wo, .int (nI dy), .int da, .int db, .int dr, .int (nI mn), .ref qld, .ref qlz, .int (nI rn), .ref qrd, .ref qrv, .ref qhi, .ref qfw, .ref qkp])), (qld, .inl (cI, 12, .inl ld)), (qlz, .inl (cI, 12, .inl lz))]) (w1 := []) hP hD [] [0, 1, 2] rfl rfl (by decide) (by decide) hk1 hFc hP1 hD1
  generalize H1 = H at hP hS ⊢
  have hP : va_P (dC, dI) vwCl [(mm, .inr (5, [.int (nI ly), .int (nI ce), .ref qlo, .ref qlk, .ref qhd, .ref qsf, .ref qpr, .ref qpa, .ref qsk, .long co, .long wo, .int (nI dy), .int da, .int db, .int dr, .int (nI mn), .ref qld, .ref qlz, .int (nI rn), .ref qrd, .ref qrv, .ref qhi, .ref qfw, .ref qkp])), (qld, .inl (cI, 12, .inl ld)), (qlz, .inl (cI, 12, .inl lz))] H := hP
  have hD : va_D A [(mm, .inr (5, [.int (nI ly), .int (nI ce), .ref qlo, .ref qlk, .ref qhd, .ref qsf, .ref qpr, .ref qpa, .ref qsk, .long co, .long wo, .int (nI dy), .int da, .int db, .int dr, .int (nI mn), .ref qld, .ref qlz, .int (nI rn), .ref qrd, .ref qrv, .ref qhi, .ref qfw, .ref qkp])), (qld, .inl (cI, 12, .inl ld)), (qlz, .inl (cI, 12, .inl lz))] := hD
  clear hPc hDc hFc hP1 hD1 hK1 hk1 hz1 hvm ht
  obtain rfl : kb (((nI dy).toInt64) ≤ x.toInt64 ∧ x.toInt64 ≤ 399) = res_ := hw.symm
  refine lv_if_eq (tgt := 37) hx hb dM_load_13 (by decide) (fun hc13 => ?_) (fun hc13 => ?_)
  · -- 13 taken
    rw [kb_eq0, k_wl, show ((399 : Int64)).toInt = 399 from by decide] at hc13
    simp only [Int32.toInt_toInt64] at hc13
    rw [nI_toInt (n := dy) (by omega)] at hc13
    refine lv_iconst (v := (-1)) hx hb dM_load_37 (by decide) ?_
    have hP : va_P (dC, dI) vwCl [(mm, .inr (5, [.int (nI ly), .int (nI ce), .ref qlo, .ref qlk, .ref qhd, .ref qsf, .ref qpr, .ref qpa, .ref qsk, .long co, .long wo, .int (nI dy), .int da, .int db, .int dr, .int (nI mn), .ref qld, .ref qlz, .int (nI rn), .ref qrd, .ref qrv, .ref qhi, .ref qfw, .ref qkp])), (qld, .inl (cI, 12, .inl ld)), (qlz, .inl (cI, 12, .inl lz))] H := by first | exact hP | simpa only [] using hP
    have hD : va_D A [(mm, .inr (5, [.int (nI ly), .int (nI ce), .ref qlo, .ref qlk, .ref qhd, .ref qsf, .ref qpr, .ref qpa, .ref qsk, .long co, .long wo, .int (nI dy), .int da, .int db, .int dr, .int (nI mn), .ref qld, .ref qlz, .int (nI rn), .ref qrd, .ref qrv, .ref qhi, .ref qfw, .ref qkp])), (qld, .inl (cI, 12, .inl ld)), (qlz, .inl (cI, 12, .inl lz))] := by first | exact hD | simpa only [] using hD
    exact W.iret (v := (-1)) hx hb hr (fun t ht hW => ⟨⟨(-1), (), rfl, rfl, by rw [ht]; exact hP, va_K.moved hW.alike hK, hD⟩, hS.F ht⟩) hS.2.2 dM_load_38
  · -- 13 not taken
    rw [kb_eq0, k_wl, show ((399 : Int64)).toInt = 399 from by decide] at hc13
    simp only [Int32.toInt_toInt64] at hc13
    rw [nI_toInt (n := dy) (by omega)] at hc13
    refine lv_iload_n hx hb dM_load_16 rfl (lv_at hl 2 rfl) ?_
    refine lv_i2l (v := y.toInt64) hx hb dM_load_17 rfl ?_
    refine lv_lconst (v := 1) hx hb dM_load_18 (by decide) ?_
    refine lv_ldc2 (v := 200000) hx hb hown (htw _ m_451) dM_load_19 ?_
    have hPc := hP.sub (ws' := []) [] rfl
    have hDc := hD.sub (ws' := []) [] (by decide) rfl
    have hFc := va_free (wc := []) hD hS hA [] rfl
    refine va_calli (va_runS (As := [.long y.toInt64, .long 1, .long 200000]) (rest := []) ⟨hx, hb, hml, hown, htw⟩ (kM_in l dC dI cI cJ H.size y.toInt64 1 200000) (va_cwS 3 htw (ws_good m_435 m_436 m_6 m_437) rfl rfl rfl (by decide +kernel) ⟨Nat.le_of_ble_eq_true rfl, Nat.le_of_ble_eq_true rfl⟩) ⟨fun a U g mk q => by obtain ⟨q0, q1, qP, qK, qD⟩ := q; exact ⟨q0, q1, qP, va_K.moved (u := U) (U := U.calling g mk a) (Vm.Alike.refl U.vm) qK, qD⟩, fun U hU hW => ⟨rfl, by rw [hU], by rw [hU]; exact hPc, va_K.moved hW.alike hK, hDc.weaken (fun _ _ _ _ => trivial)⟩⟩ rfl rfl hl.1 rfl (lv_room (Nat.le_of_ble_eq_true rfl)) dM_load_22 ⟨Nat.le_of_ble_eq_true rfl, Nat.le_of_ble_eq_true rfl⟩) hS (fun q _ h => hFc q h) hFc (fun res_ u_ t H1 locs ht hvm hw hB hz1 hk1 hS => ?_)
    obtain ⟨hP1, hK1, hD1⟩ := hB
    rw [ht] at hP1
    obtain ⟨hP, hD⟩ := va_join (wr := [(mm, .inr (5, [.int (nI ly), .int (nI ce), .ref qlo, .ref qlk, .ref qhd, .ref qsf, .ref qpr, .ref qpa, .ref qsk, .long co, .long wo, .int (nI dy), .int da, .int db, .int dr, .int (nI mn), .ref qld, .ref qlz, .int (nI rn), .ref qrd, .ref qrv, .ref qhi, .ref qfw, .ref qkp])), (qld, .inl (cI, 12, .inl ld)), (qlz, .inl (cI, 12, .inl lz))]) (w1 := []) hP hD [] [0, 1, 2] rfl rfl (by decide) (by decide) hk1 hFc hP1 hD1
    generalize H1 = H at hP hS ⊢
    have hP : va_P (dC, dI) vwCl [(mm, .inr (5, [.int (nI ly), .int (nI ce), .ref qlo, .ref qlk, .ref qhd, .ref qsf, .ref qpr, .ref qpa, .ref qsk, .long co, .long wo, .int (nI dy), .int da, .int db, .int dr, .int (nI mn), .ref qld, .ref qlz, .int (nI rn), .ref qrd, .ref qrv, .ref qhi, .ref qfw, .ref qkp])), (qld, .inl (cI, 12, .inl ld)), (qlz, .inl (cI, 12, .inl lz))] H := hP
    have hD : va_D A [(mm, .inr (5, [.int (nI ly), .int (nI ce), .ref qlo, .ref qlk, .ref qhd, .ref qsf, .ref qpr, .ref qpa, .ref qsk, .long co, .long wo, .int (nI dy), .int da, .int db, .int dr, .int (nI mn), .ref qld, .ref qlz, .int (nI rn), .ref qrd, .ref qrv, .ref qhi, .ref qfw, .ref qkp])), (qld, .inl (cI, 12, .inl ld)), (qlz, .inl (cI, 12, .inl lz))] := hD
    clear hPc hDc hFc hP1 hD1 hK1 hk1 hz1 hvm ht
    obtain rfl : kb (1 ≤ y.toInt64 ∧ y.toInt64 ≤ 200000) = res_ := hw.symm
    refine lv_if_eq (tgt := 37) hx hb dM_load_25 (by decide) (fun hc25 => ?_) (fun hc25 => ?_)
    · -- 25 taken
      rw [kb_eq0, k_wl, show ((1 : Int64)).toInt = 1 from by decide, show ((200000 : Int64)).toInt = 200000 from by decide] at hc25
      simp only [Int32.toInt_toInt64] at hc25
      refine lv_iconst (v := (-1)) hx hb dM_load_37 (by decide) ?_
      have hP : va_P (dC, dI) vwCl [(mm, .inr (5, [.int (nI ly), .int (nI ce), .ref qlo, .ref qlk, .ref qhd, .ref qsf, .ref qpr, .ref qpa, .ref qsk, .long co, .long wo, .int (nI dy), .int da, .int db, .int dr, .int (nI mn), .ref qld, .ref qlz, .int (nI rn), .ref qrd, .ref qrv, .ref qhi, .ref qfw, .ref qkp])), (qld, .inl (cI, 12, .inl ld)), (qlz, .inl (cI, 12, .inl lz))] H := by first | exact hP | simpa only [] using hP
      have hD : va_D A [(mm, .inr (5, [.int (nI ly), .int (nI ce), .ref qlo, .ref qlk, .ref qhd, .ref qsf, .ref qpr, .ref qpa, .ref qsk, .long co, .long wo, .int (nI dy), .int da, .int db, .int dr, .int (nI mn), .ref qld, .ref qlz, .int (nI rn), .ref qrd, .ref qrv, .ref qhi, .ref qfw, .ref qkp])), (qld, .inl (cI, 12, .inl ld)), (qlz, .inl (cI, 12, .inl lz))] := by first | exact hD | simpa only [] using hD
      exact W.iret (v := (-1)) hx hb hr (fun t ht hW => ⟨⟨(-1), (), rfl, rfl, by rw [ht]; exact hP, va_K.moved hW.alike hK, hD⟩, hS.F ht⟩) hS.2.2 dM_load_38
    · -- 25 not taken
      rw [kb_eq0, k_wl, show ((1 : Int64)).toInt = 1 from by decide, show ((200000 : Int64)).toInt = 200000 from by decide] at hc25
      simp only [Int32.toInt_toInt64] at hc25
      refine lv_aload_n hx hb dM_load_28 rfl (lv_at hl 0 rfl) ?_
      refine va_get (D := (dC, dI)) (ci := 5) (v := .int (nI mn)) (C := R_M) (T := T_M) (N := 24) hx hb htw in_M hown hK hP 0 rfl rfl 15 (by decide) (htw _ m_372) (fun _ h9 => h9) rfl dM_load_29 ?_
      refine lv_bipush (v := nI 12) hx hb dM_load_32 (by decide) ?_
      refine lv_icmp_ne (tgt := 39) hx hb dM_load_34 (by decide) (fun hc34 => ?_) (fun hc34 => ?_)
      · -- 34 taken
        rw [nI_eq (by omega) (by omega)] at hc34
        exfalso; omega
      · -- 34 not taken
        rw [nI_eq (by omega) (by omega)] at hc34
        refine lv_iconst (v := (-1)) hx hb dM_load_37 (by decide) ?_
        have hP : va_P (dC, dI) vwCl [(mm, .inr (5, [.int (nI ly), .int (nI ce), .ref qlo, .ref qlk, .ref qhd, .ref qsf, .ref qpr, .ref qpa, .ref qsk, .long co, .long wo, .int (nI dy), .int da, .int db, .int dr, .int (nI mn), .ref qld, .ref qlz, .int (nI rn), .ref qrd, .ref qrv, .ref qhi, .ref qfw, .ref qkp])), (qld, .inl (cI, 12, .inl ld)), (qlz, .inl (cI, 12, .inl lz))] H := by first | exact hP | simpa only [] using hP
        have hD : va_D A [(mm, .inr (5, [.int (nI ly), .int (nI ce), .ref qlo, .ref qlk, .ref qhd, .ref qsf, .ref qpr, .ref qpa, .ref qsk, .long co, .long wo, .int (nI dy), .int da, .int db, .int dr, .int (nI mn), .ref qld, .ref qlz, .int (nI rn), .ref qrd, .ref qrv, .ref qhi, .ref qfw, .ref qkp])), (qld, .inl (cI, 12, .inl ld)), (qlz, .inl (cI, 12, .inl lz))] := by first | exact hD | simpa only [] using hD
        exact W.iret (v := (-1)) hx hb hr (fun t ht hW => ⟨⟨(-1), (), rfl, rfl, by rw [ht]; exact hP, va_K.moved hW.alike hK, hD⟩, hS.F ht⟩) hS.2.2 dM_load_38
set_option maxHeartbeats 4000000 in
set_option maxRecDepth 100000 in
theorem kM_count (l : Launch) (dC : Nat → ClassId) (dI : Nat → Nat → Nat) (cI cJ : ClassId) (mm qlo qlk qhd qsf qpr qpa qsk qld qlz qrd qrv qhi qfw qkp : Nat) (sz : Nat) (x : Int32) (ly : Nat) (ce : Nat) (co : Int64) (wo : Int64) (dy : Nat) (da : Int32) (db : Int32) (dr : Int32) (mn : Nat) (rn : Nat) : Met l yM_count wM_count ({ frames := 0, cells := 0, slots := 0, locals := 0 }) (va_Pc [.ref mm, .int x] (fun U => U.heap.size = sz ∧ va_P (dC, dI) vwCl [(mm, .inr (5, [.int (nI ly), .int (nI ce), .ref qlo, .ref qlk, .ref qhd, .ref qsf, .ref qpr, .ref qpa, .ref qsk, .long co, .long wo, .int (nI dy), .int da, .int db, .int dr, .int (nI mn), .ref qld, .ref qlz, .int (nI rn), .ref qrd, .ref qrv, .ref qhi, .ref qfw, .ref qkp]))] U.heap ∧ va_K (dC, dI) vwCl [(cI, .int), (cJ, .long)] U ∧ va_D (fun _ => True) [(mm, .inr (5, [.int (nI ly), .int (nI ce), .ref qlo, .ref qlk, .ref qhd, .ref qsf, .ref qpr, .ref qpa, .ref qsk, .long co, .long wo, .int (nI dy), .int da, .int db, .int dr, .int (nI mn), .ref qld, .ref qlz, .int (nI rn), .ref qrd, .ref qrv, .ref qhi, .ref qfw, .ref qkp]))])) (va_Qi (fun res_ (_ : Unit) => res_ = k_count ly ce mn dy rn co x) (fun _ t => va_P (dC, dI) vwCl [(mm, .inr (5, [.int (nI ly), .int (nI ce), .ref qlo, .ref qlk, .ref qhd, .ref qsf, .ref qpr, .ref qpa, .ref qsk, .long co, .long wo, .int (nI dy), .int da, .int db, .int dr, .int (nI mn), .ref qld, .ref qlz, .int (nI rn), .ref qrd, .ref qrv, .ref qhi, .ref qfw, .ref qkp]))] t.heap ∧ va_K (dC, dI) vwCl [(cI, .int), (cJ, .long)] t ∧ va_D (va_A [(mm, .inr (5, [.int (nI ly), .int (nI ce), .ref qlo, .ref qlk, .ref qhd, .ref qsf, .ref qpr, .ref qpa, .ref qsk, .long co, .long wo, .int (nI dy), .int da, .int db, .int dr, .int (nI mn), .ref qld, .ref qlz, .int (nI rn), .ref qrd, .ref qrv, .ref qhi, .ref qfw, .ref qkp]))] sz) [(mm, .inr (5, [.int (nI ly), .int (nI ce), .ref qlo, .ref qlk, .ref qhd, .ref qsf, .ref qpr, .ref qpa, .ref qsk, .long co, .long wo, .int (nI dy), .int da, .int db, .int dr, .int (nI mn), .ref qld, .ref qlz, .int (nI rn), .ref qrd, .ref qrv, .ref qhi, .ref qfw, .ref qkp]))]) (va_A [(mm, .inr (5, [.int (nI ly), .int (nI ce), .ref qlo, .ref qlk, .ref qhd, .ref qsf, .ref qpr, .ref qpa, .ref qsk, .long co, .long wo, .int (nI dy), .int da, .int db, .int dr, .int (nI mn), .ref qld, .ref qlz, .int (nI rn), .ref qrd, .ref qrv, .ref qhi, .ref qfw, .ref qkp]))] sz)) 0 0 (va_A [(mm, .inr (5, [.int (nI ly), .int (nI ce), .ref qlo, .ref qlk, .ref qhd, .ref qsf, .ref qpr, .ref qpa, .ref qsk, .long co, .long wo, .int (nI dy), .int da, .int db, .int dr, .int (nI mn), .ref qld, .ref qlz, .int (nI rn), .ref qrd, .ref qrv, .ref qhi, .ref qfw, .ref qkp]))] sz) := by
  refine Met.ofW (cc := bM_count) (maxL := 2) (ret := (some .int)) (by decide) rfl ?_
  intro p e s m args below meth c s₁ B hml hv
  obtain ⟨rfl, hsz, hP, hK, hD0⟩ := hv
  have hx := B.exec
  have hb := B.bytes
  have hr := B.returns
  have hts := atoms_spec (ws := wM_count) B.pre
  have hown : s.vm.findClass R_M = some m.cls := findClass_of_methodNamed B.named
  have htw : ∀ w ∈ WA, w.before _ s = true := fun w h => hts w (List.mem_cons_of_mem _ h)
  clear hts
  have hlocks := B.notSynchronized
  subst hsz
  have hD := hD0.self (sz := s.heap.size)
  generalize hAe : va_A [(mm, .inr (5, [.int (nI ly), .int (nI ce), .ref qlo, .ref qlk, .ref qhd, .ref qsf, .ref qpr, .ref qpa, .ref qsk, .long co, .long wo, .int (nI dy), .int da, .int db, .int dr, .int (nI mn), .ref qld, .ref qlz, .int (nI rn), .ref qrd, .ref qrv, .ref qhi, .ref qfw, .ref qkp]))] s.heap.size = A at hD ⊢
  have hA : ∀ q : Nat, s.heap.size ≤ q → A q := fun q h => by rw [← hAe]; exact Or.inr h
  clear hAe hD0
  have hS : va_S A s.heap s.heap [] := va_S.rf
  have hP : va_P (dC, dI) vwCl [(mm, .inr (5, [.int (nI ly), .int (nI ce), .ref qlo, .ref qlk, .ref qhd, .ref qsf, .ref qpr, .ref qpa, .ref qsk, .long co, .long wo, .int (nI dy), .int da, .int db, .int dr, .int (nI mn), .ref qld, .ref qlz, .int (nI rn), .ref qrd, .ref qrv, .ref qhi, .ref qfw, .ref qkp]))] s.heap := hP
  have hl := lv_entry ([.ref mm, .int x]) (n := 2) (Nat.le_of_ble_eq_true rfl)
  rw [lg_entry_eq]
  generalize (lg_sl ([.ref mm, .int x]) ++ List.replicate (2 - (lg_sl ([.ref mm, .int x])).length) Slot.unset).toArray = ls at hl ⊢
  have hl : lv_has ls 2 [(0, .ref mm), (1, .int x)] := hl
  refine lv_iload_n hx hb dM_count_0 rfl (lv_at hl 1 rfl) ?_
  by_cases hs1_0 : x = nI 0
  · subst hs1_0
    refine lv_tableIn (off := 39) (tgt := 40) hx hb dM_count_1 (by decide) (by decide) (by decide) (by decide) ?_
    refine lv_aload_n hx hb dM_count_40 rfl (lv_at hl 0 rfl) ?_
    refine va_get (D := (dC, dI)) (ci := 5) (v := .int (nI ly)) (C := R_M) (T := T_M) (N := 24) hx hb htw in_M hown hK hP 0 rfl rfl 0 (by decide) (htw _ m_357) (fun _ h9 => h9) rfl dM_count_41 ?_
    have hP : va_P (dC, dI) vwCl [(mm, .inr (5, [.int (nI ly), .int (nI ce), .ref qlo, .ref qlk, .ref qhd, .ref qsf, .ref qpr, .ref qpa, .ref qsk, .long co, .long wo, .int (nI dy), .int da, .int db, .int dr, .int (nI mn), .ref qld, .ref qlz, .int (nI rn), .ref qrd, .ref qrv, .ref qhi, .ref qfw, .ref qkp]))] s.heap := by first | exact hP | simpa only [] using hP
    have hD : va_D A [(mm, .inr (5, [.int (nI ly), .int (nI ce), .ref qlo, .ref qlk, .ref qhd, .ref qsf, .ref qpr, .ref qpa, .ref qsk, .long co, .long wo, .int (nI dy), .int da, .int db, .int dr, .int (nI mn), .ref qld, .ref qlz, .int (nI rn), .ref qrd, .ref qrv, .ref qhi, .ref qfw, .ref qkp]))] := by first | exact hD | simpa only [] using hD
    exact W.iret (v := nI ly) hx hb hr (fun t ht hW => ⟨⟨nI ly, (), rfl, by unfold k_count; rw [if_pos rfl], by rw [ht]; exact hP, va_K.moved hW.alike hK, hD⟩, hS.F ht⟩) hS.2.2 dM_count_44
  by_cases hs1_1 : x = nI 1
  · subst hs1_1
    refine lv_tableIn (off := 44) (tgt := 45) hx hb dM_count_1 (by decide) (by decide) (by decide) (by decide) ?_
    refine lv_aload_n hx hb dM_count_45 rfl (lv_at hl 0 rfl) ?_
    refine va_get (D := (dC, dI)) (ci := 5) (v := .int (nI ce)) (C := R_M) (T := T_M) (N := 24) hx hb htw in_M hown hK hP 0 rfl rfl 1 (by decide) (htw _ m_358) (fun _ h9 => h9) rfl dM_count_46 ?_
    have hP : va_P (dC, dI) vwCl [(mm, .inr (5, [.int (nI ly), .int (nI ce), .ref qlo, .ref qlk, .ref qhd, .ref qsf, .ref qpr, .ref qpa, .ref qsk, .long co, .long wo, .int (nI dy), .int da, .int db, .int dr, .int (nI mn), .ref qld, .ref qlz, .int (nI rn), .ref qrd, .ref qrv, .ref qhi, .ref qfw, .ref qkp]))] s.heap := by first | exact hP | simpa only [] using hP
    have hD : va_D A [(mm, .inr (5, [.int (nI ly), .int (nI ce), .ref qlo, .ref qlk, .ref qhd, .ref qsf, .ref qpr, .ref qpa, .ref qsk, .long co, .long wo, .int (nI dy), .int da, .int db, .int dr, .int (nI mn), .ref qld, .ref qlz, .int (nI rn), .ref qrd, .ref qrv, .ref qhi, .ref qfw, .ref qkp]))] := by first | exact hD | simpa only [] using hD
    exact W.iret (v := nI ce) hx hb hr (fun t ht hW => ⟨⟨nI ce, (), rfl, by unfold k_count; rw [if_neg (by decide), if_pos rfl], by rw [ht]; exact hP, va_K.moved hW.alike hK, hD⟩, hS.F ht⟩) hS.2.2 dM_count_49
  by_cases hs1_2 : x = nI 2
  · subst hs1_2
    refine lv_tableIn (off := 49) (tgt := 50) hx hb dM_count_1 (by decide) (by decide) (by decide) (by decide) ?_
    refine lv_aload_n hx hb dM_count_50 rfl (lv_at hl 0 rfl) ?_
    refine va_get (D := (dC, dI)) (ci := 5) (v := .int (nI mn)) (C := R_M) (T := T_M) (N := 24) hx hb htw in_M hown hK hP 0 rfl rfl 15 (by decide) (htw _ m_372) (fun _ h9 => h9) rfl dM_count_51 ?_
    have hP : va_P (dC, dI) vwCl [(mm, .inr (5, [.int (nI ly), .int (nI ce), .ref qlo, .ref qlk, .ref qhd, .ref qsf, .ref qpr, .ref qpa, .ref qsk, .long co, .long wo, .int (nI dy), .int da, .int db, .int dr, .int (nI mn), .ref qld, .ref qlz, .int (nI rn), .ref qrd, .ref qrv, .ref qhi, .ref qfw, .ref qkp]))] s.heap := by first | exact hP | simpa only [] using hP
    have hD : va_D A [(mm, .inr (5, [.int (nI ly), .int (nI ce), .ref qlo, .ref qlk, .ref qhd, .ref qsf, .ref qpr, .ref qpa, .ref qsk, .long co, .long wo, .int (nI dy), .int da, .int db, .int dr, .int (nI mn), .ref qld, .ref qlz, .int (nI rn), .ref qrd, .ref qrv, .ref qhi, .ref qfw, .ref qkp]))] := by first | exact hD | simpa only [] using hD
    exact W.iret (v := nI mn) hx hb hr (fun t ht hW => ⟨⟨nI mn, (), rfl, by unfold k_count; rw [if_neg (by decide), if_neg (by decide), if_pos rfl], by rw [ht]; exact hP, va_K.moved hW.alike hK, hD⟩, hS.F ht⟩) hS.2.2 dM_count_54
  by_cases hs1_3 : x = nI 3
  · subst hs1_3
    refine lv_tableIn (off := 54) (tgt := 55) hx hb dM_count_1 (by decide) (by decide) (by decide) (by decide) ?_
    refine lv_aload_n hx hb dM_count_55 rfl (lv_at hl 0 rfl) ?_
    refine va_get (D := (dC, dI)) (ci := 5) (v := .int (nI dy)) (C := R_M) (T := T_M) (N := 24) hx hb htw in_M hown hK hP 0 rfl rfl 11 (by decide) (htw _ m_368) (fun _ h9 => h9) rfl dM_count_56 ?_
    have hP : va_P (dC, dI) vwCl [(mm, .inr (5, [.int (nI ly), .int (nI ce), .ref qlo, .ref qlk, .ref qhd, .ref qsf, .ref qpr, .ref qpa, .ref qsk, .long co, .long wo, .int (nI dy), .int da, .int db, .int dr, .int (nI mn), .ref qld, .ref qlz, .int (nI rn), .ref qrd, .ref qrv, .ref qhi, .ref qfw, .ref qkp]))] s.heap := by first | exact hP | simpa only [] using hP
    have hD : va_D A [(mm, .inr (5, [.int (nI ly), .int (nI ce), .ref qlo, .ref qlk, .ref qhd, .ref qsf, .ref qpr, .ref qpa, .ref qsk, .long co, .long wo, .int (nI dy), .int da, .int db, .int dr, .int (nI mn), .ref qld, .ref qlz, .int (nI rn), .ref qrd, .ref qrv, .ref qhi, .ref qfw, .ref qkp]))] := by first | exact hD | simpa only [] using hD
    exact W.iret (v := nI dy) hx hb hr (fun t ht hW => ⟨⟨nI dy, (), rfl, by unfold k_count; rw [if_neg (by decide), if_neg (by decide), if_neg (by decide), if_pos rfl], by rw [ht]; exact hP, va_K.moved hW.alike hK, hD⟩, hS.F ht⟩) hS.2.2 dM_count_59
  by_cases hs1_4 : x = nI 4
  · subst hs1_4
    refine lv_tableIn (off := 59) (tgt := 60) hx hb dM_count_1 (by decide) (by decide) (by decide) (by decide) ?_
    refine lv_aload_n hx hb dM_count_60 rfl (lv_at hl 0 rfl) ?_
    refine va_get (D := (dC, dI)) (ci := 5) (v := .int (nI rn)) (C := R_M) (T := T_M) (N := 24) hx hb htw in_M hown hK hP 0 rfl rfl 18 (by decide) (htw _ m_375) (fun _ h9 => h9) rfl dM_count_61 ?_
    have hP : va_P (dC, dI) vwCl [(mm, .inr (5, [.int (nI ly), .int (nI ce), .ref qlo, .ref qlk, .ref qhd, .ref qsf, .ref qpr, .ref qpa, .ref qsk, .long co, .long wo, .int (nI dy), .int da, .int db, .int dr, .int (nI mn), .ref qld, .ref qlz, .int (nI rn), .ref qrd, .ref qrv, .ref qhi, .ref qfw, .ref qkp]))] s.heap := by first | exact hP | simpa only [] using hP
    have hD : va_D A [(mm, .inr (5, [.int (nI ly), .int (nI ce), .ref qlo, .ref qlk, .ref qhd, .ref qsf, .ref qpr, .ref qpa, .ref qsk, .long co, .long wo, .int (nI dy), .int da, .int db, .int dr, .int (nI mn), .ref qld, .ref qlz, .int (nI rn), .ref qrd, .ref qrv, .ref qhi, .ref qfw, .ref qkp]))] := by first | exact hD | simpa only [] using hD
    exact W.iret (v := nI rn) hx hb hr (fun t ht hW => ⟨⟨nI rn, (), rfl, by unfold k_count; rw [if_neg (by decide), if_neg (by decide), if_neg (by decide), if_neg (by decide), if_pos rfl], by rw [ht]; exact hP, va_K.moved hW.alike hK, hD⟩, hS.F ht⟩) hS.2.2 dM_count_64
  by_cases hs1_5 : x = nI 5
  · subst hs1_5
    refine lv_tableIn (off := 64) (tgt := 65) hx hb dM_count_1 (by decide) (by decide) (by decide) (by decide) ?_
    refine lv_aload_n hx hb dM_count_65 rfl (lv_at hl 0 rfl) ?_
    refine va_get (D := (dC, dI)) (ci := 5) (v := .long co) (C := R_M) (T := T_M) (N := 24) hx hb htw in_M hown hK hP 0 rfl rfl 9 (by decide) (htw _ m_366) (fun _ h9 => h9) rfl dM_count_66 ?_
    refine lv_l2i (v := co.toInt32) hx hb dM_count_69 rfl ?_
    have hP : va_P (dC, dI) vwCl [(mm, .inr (5, [.int (nI ly), .int (nI ce), .ref qlo, .ref qlk, .ref qhd, .ref qsf, .ref qpr, .ref qpa, .ref qsk, .long co, .long wo, .int (nI dy), .int da, .int db, .int dr, .int (nI mn), .ref qld, .ref qlz, .int (nI rn), .ref qrd, .ref qrv, .ref qhi, .ref qfw, .ref qkp]))] s.heap := by first | exact hP | simpa only [] using hP
    have hD : va_D A [(mm, .inr (5, [.int (nI ly), .int (nI ce), .ref qlo, .ref qlk, .ref qhd, .ref qsf, .ref qpr, .ref qpa, .ref qsk, .long co, .long wo, .int (nI dy), .int da, .int db, .int dr, .int (nI mn), .ref qld, .ref qlz, .int (nI rn), .ref qrd, .ref qrv, .ref qhi, .ref qfw, .ref qkp]))] := by first | exact hD | simpa only [] using hD
    exact W.iret (v := co.toInt32) hx hb hr (fun t ht hW => ⟨⟨co.toInt32, (), rfl, by unfold k_count; rw [if_neg (by decide), if_neg (by decide), if_neg (by decide), if_neg (by decide), if_neg (by decide), if_pos rfl], by rw [ht]; exact hP, va_K.moved hW.alike hK, hD⟩, hS.F ht⟩) hS.2.2 dM_count_70
  refine lv_tableOut (tgt := 71) hx hb dM_count_1 (by have a0 := lv_neT hs1_0 (a := 0) (by decide); have a1 := lv_neT hs1_1 (a := 1) (by decide); have a2 := lv_neT hs1_2 (a := 2) (by decide); have a3 := lv_neT hs1_3 (a := 3) (by decide); have a4 := lv_neT hs1_4 (a := 4) (by decide); have a5 := lv_neT hs1_5 (a := 5) (by decide); omega) (by decide) ?_
  refine lv_iconst (v := (-1)) hx hb dM_count_71 (by decide) ?_
  have hP : va_P (dC, dI) vwCl [(mm, .inr (5, [.int (nI ly), .int (nI ce), .ref qlo, .ref qlk, .ref qhd, .ref qsf, .ref qpr, .ref qpa, .ref qsk, .long co, .long wo, .int (nI dy), .int da, .int db, .int dr, .int (nI mn), .ref qld, .ref qlz, .int (nI rn), .ref qrd, .ref qrv, .ref qhi, .ref qfw, .ref qkp]))] s.heap := by first | exact hP | simpa only [] using hP
  have hD : va_D A [(mm, .inr (5, [.int (nI ly), .int (nI ce), .ref qlo, .ref qlk, .ref qhd, .ref qsf, .ref qpr, .ref qpa, .ref qsk, .long co, .long wo, .int (nI dy), .int da, .int db, .int dr, .int (nI mn), .ref qld, .ref qlz, .int (nI rn), .ref qrd, .ref qrv, .ref qhi, .ref qfw, .ref qkp]))] := by first | exact hD | simpa only [] using hD
  exact W.iret (v := (-1)) hx hb hr (fun t ht hW => ⟨⟨(-1), (), rfl, by unfold k_count; rw [if_neg hs1_0, if_neg hs1_1, if_neg hs1_2, if_neg hs1_3, if_neg hs1_4, if_neg hs1_5], by rw [ht]; exact hP, va_K.moved hW.alike hK, hD⟩, hS.F ht⟩) hS.2.2 dM_count_72
set_option maxHeartbeats 4000000 in
set_option maxRecDepth 100000 in
theorem kM_layer_ok (l : Launch) (dC : Nat → ClassId) (dI : Nat → Nat → Nat) (cI cJ : ClassId) (mm qlo qlk qhd qsf qpr qpa qsk qld qlz qrd qrv qhi qfw qkp : Nat) (sz : Nat) (n : Nat) (x1 : Int32) (x2 : Int32) (x3 : Int32) (x4 : Int32) (ly : Nat) (ce : Nat) (co : Int64) (wo : Int64) (dy : Nat) (da : Int32) (db : Int32) (dr : Int32) (mn : Nat) (rn : Nat) (lof : Nat → Int32) (lk : Nat → Int32) (hd : Nat → Int32) (sf : Nat → Int32) (pa : Nat → Int64) (hdy : dy ≤ 400) (hmn : mn ≤ 12) (hce : ce ≤ 30) (hly : ly < 30) (hn : n < 2147483648) (hok : (dy = 0 ∧ mn = 0 ∧ 1 ≤ n ∧ n ≤ 10 ∧ n + ce ≤ 30 ∧ 0 ≤ x1.toInt ∧ x1.toInt ≤ 300 ∧ 0 ≤ x4.toInt ∧ x4.toInt ≤ 1000000 ∧ 0 ≤ x2.toInt ∧ x2.toInt ≤ 1000 ∧ x2.toInt ≤ x3.toInt ∧ x3.toInt ≤ 1000)) : Met l yM_layer wM_layer ({ frames := 1, cells := 0, slots := 0, locals := 25 }) (va_Pc [.ref mm, .int (nI n), .int x1, .int x2, .int x3, .int x4] (fun U => U.heap.size = sz ∧ va_P (dC, dI) vwCl [(mm, .inr (5, [.int (nI ly), .int (nI ce), .ref qlo, .ref qlk, .ref qhd, .ref qsf, .ref qpr, .ref qpa, .ref qsk, .long co, .long wo, .int (nI dy), .int da, .int db, .int dr, .int (nI mn), .ref qld, .ref qlz, .int (nI rn), .ref qrd, .ref qrv, .ref qhi, .ref qfw, .ref qkp])), (qlo, .inl (cI, 30, .inl lof)), (qlk, .inl (cI, 30, .inl lk)), (qhd, .inl (cI, 30, .inl hd)), (qsf, .inl (cI, 30, .inl sf)), (qpa, .inl (cJ, 30, .inr (.inl pa)))] U.heap ∧ va_K (dC, dI) vwCl [(cI, .int), (cJ, .long)] U ∧ va_D (fun _ => True) [(mm, .inr (5, [.int (nI ly), .int (nI ce), .ref qlo, .ref qlk, .ref qhd, .ref qsf, .ref qpr, .ref qpa, .ref qsk, .long co, .long wo, .int (nI dy), .int da, .int db, .int dr, .int (nI mn), .ref qld, .ref qlz, .int (nI rn), .ref qrd, .ref qrv, .ref qhi, .ref qfw, .ref qkp])), (qlo, .inl (cI, 30, .inl lof)), (qlk, .inl (cI, 30, .inl lk)), (qhd, .inl (cI, 30, .inl hd)), (qsf, .inl (cI, 30, .inl sf)), (qpa, .inl (cJ, 30, .inr (.inl pa)))])) (va_Qi (fun res_ (_ : Unit) => res_ = nI ly) (fun _ t => va_P (dC, dI) vwCl [(mm, .inr (5, [.int (nI (ly + 1)), .int (nI (ce + n)), .ref qlo, .ref qlk, .ref qhd, .ref qsf, .ref qpr, .ref qpa, .ref qsk, .long co, .long wo, .int (nI dy), .int da, .int db, .int dr, .int (nI mn), .ref qld, .ref qlz, .int (nI rn), .ref qrd, .ref qrv, .ref qhi, .ref qfw, .ref qkp])), (qlo, .inl (cI, 30, .inl (k_fi lof ce (ce + n) (nI ly)))), (qlk, .inl (cI, 30, .inl (k_fi lk ce (ce + n) x1))), (qhd, .inl (cI, 30, .inl (k_fi hd ce (ce + n) x2))), (qsf, .inl (cI, 30, .inl (k_fi sf ce (ce + n) x3))), (qpa, .inl (cJ, 30, .inr (.inl (k_beg pa ce (ce + n) x4.toInt64))))] t.heap ∧ va_K (dC, dI) vwCl [(cI, .int), (cJ, .long)] t ∧ va_D (va_A [(mm, .inr (5, [.int (nI ly), .int (nI ce), .ref qlo, .ref qlk, .ref qhd, .ref qsf, .ref qpr, .ref qpa, .ref qsk, .long co, .long wo, .int (nI dy), .int da, .int db, .int dr, .int (nI mn), .ref qld, .ref qlz, .int (nI rn), .ref qrd, .ref qrv, .ref qhi, .ref qfw, .ref qkp])), (qlo, .inl (cI, 30, .inl lof)), (qlk, .inl (cI, 30, .inl lk)), (qhd, .inl (cI, 30, .inl hd)), (qsf, .inl (cI, 30, .inl sf)), (qpa, .inl (cJ, 30, .inr (.inl pa)))] sz) [(mm, .inr (5, [.int (nI (ly + 1)), .int (nI (ce + n)), .ref qlo, .ref qlk, .ref qhd, .ref qsf, .ref qpr, .ref qpa, .ref qsk, .long co, .long wo, .int (nI dy), .int da, .int db, .int dr, .int (nI mn), .ref qld, .ref qlz, .int (nI rn), .ref qrd, .ref qrv, .ref qhi, .ref qfw, .ref qkp])), (qlo, .inl (cI, 30, .inl (k_fi lof ce (ce + n) (nI ly)))), (qlk, .inl (cI, 30, .inl (k_fi lk ce (ce + n) x1))), (qhd, .inl (cI, 30, .inl (k_fi hd ce (ce + n) x2))), (qsf, .inl (cI, 30, .inl (k_fi sf ce (ce + n) x3))), (qpa, .inl (cJ, 30, .inr (.inl (k_beg pa ce (ce + n) x4.toInt64))))]) (va_A [(mm, .inr (5, [.int (nI ly), .int (nI ce), .ref qlo, .ref qlk, .ref qhd, .ref qsf, .ref qpr, .ref qpa, .ref qsk, .long co, .long wo, .int (nI dy), .int da, .int db, .int dr, .int (nI mn), .ref qld, .ref qlz, .int (nI rn), .ref qrd, .ref qrv, .ref qhi, .ref qfw, .ref qkp])), (qlo, .inl (cI, 30, .inl lof)), (qlk, .inl (cI, 30, .inl lk)), (qhd, .inl (cI, 30, .inl hd)), (qsf, .inl (cI, 30, .inl sf)), (qpa, .inl (cJ, 30, .inr (.inl pa)))] sz)) 0 0 (va_A [(mm, .inr (5, [.int (nI ly), .int (nI ce), .ref qlo, .ref qlk, .ref qhd, .ref qsf, .ref qpr, .ref qpa, .ref qsk, .long co, .long wo, .int (nI dy), .int da, .int db, .int dr, .int (nI mn), .ref qld, .ref qlz, .int (nI rn), .ref qrd, .ref qrv, .ref qhi, .ref qfw, .ref qkp])), (qlo, .inl (cI, 30, .inl lof)), (qlk, .inl (cI, 30, .inl lk)), (qhd, .inl (cI, 30, .inl hd)), (qsf, .inl (cI, 30, .inl sf)), (qpa, .inl (cJ, 30, .inr (.inl pa)))] sz) := by
  refine Met.ofW (cc := bM_layer) (maxL := 8) (ret := (some .int)) (by decide) rfl ?_
  intro p e s m args below meth c s₁ B hml hv
  obtain ⟨rfl, hsz, hP, hK, hD0⟩ := hv
  have hx := B.exec
  have hb := B.bytes
  have hr := B.returns
  have hts := atoms_spec (ws := wM_layer) B.pre
  have hown : s.vm.findClass R_M = some m.cls := findClass_of_methodNamed B.named
  have htw : ∀ w ∈ WA, w.before _ s = true := fun w h => hts w (List.mem_cons_of_mem _ h)
  clear hts
  have hlocks := B.notSynchronized
  subst hsz
  have hD := hD0.self (sz := s.heap.size)
  generalize hAe : va_A [(mm, .inr (5, [.int (nI ly), .int (nI ce), .ref qlo, .ref qlk, .ref qhd, .ref qsf, .ref qpr, .ref qpa, .ref qsk, .long co, .long wo, .int (nI dy), .int da, .int db, .int dr, .int (nI mn), .ref qld, .ref qlz, .int (nI rn), .ref qrd, .ref qrv, .ref qhi, .ref qfw, .ref qkp])), (qlo, .inl (cI, 30, .inl lof)), (qlk, .inl (cI, 30, .inl lk)), (qhd, .inl (cI, 30, .inl hd)), (qsf, .inl (cI, 30, .inl sf)), (qpa, .inl (cJ, 30, .inr (.inl pa)))] s.heap.size = A at hD ⊢
  have hA : ∀ q : Nat, s.heap.size ≤ q → A q := fun q h => by rw [← hAe]; exact Or.inr h
  clear hAe hD0
  have hS : va_S A s.heap s.heap [] := va_S.rf
  have hP : va_P (dC, dI) vwCl [(mm, .inr (5, [.int (nI ly), .int (nI ce), .ref qlo, .ref qlk, .ref qhd, .ref qsf, .ref qpr, .ref qpa, .ref qsk, .long co, .long wo, .int (nI dy), .int da, .int db, .int dr, .int (nI mn), .ref qld, .ref qlz, .int (nI rn), .ref qrd, .ref qrv, .ref qhi, .ref qfw, .ref qkp])), (qlo, .inl (cI, 30, .inl lof)), (qlk, .inl (cI, 30, .inl lk)), (qhd, .inl (cI, 30, .inl hd)), (qsf, .inl (cI, 30, .inl sf)), (qpa, .inl (cJ, 30, .inr (.inl pa)))] s.heap := hP
  have hl := lv_entry ([.ref mm, .int (nI n), .int x1, .int x2, .int x3, .int x4]) (n := 8) (Nat.le_of_ble_eq_true rfl)
  rw [lg_entry_eq]
  generalize (lg_sl ([.ref mm, .int (nI n), .int x1, .int x2, .int x3, .int x4]) ++ List.replicate (8 - (lg_sl ([.ref mm, .int (nI n), .int x1, .int x2, .int x3, .int x4])).length) Slot.unset).toArray = ls at hl ⊢
  have hl : lv_has ls 8 [(0, .ref mm), (1, .int (nI n)), (2, .int x1), (3, .int x2), (4, .int x3), (5, .int x4)] := hl
  refine lv_iload_n hx hb dM_layer_0 rfl (lv_at hl 1 rfl) ?_
  refine lv_i2l (v := (nI n).toInt64) hx hb dM_layer_1 rfl ?_
  refine lv_lconst (v := 1) hx hb dM_layer_2 (by decide) ?_
  refine lv_ldc2 (v := 10) hx hb hown (htw _ m_434) dM_layer_3 ?_
  have hPc := hP.sub (ws' := []) [] rfl
  have hDc := hD.sub (ws' := []) [] (by decide) rfl
  have hFc := va_free (wc := []) hD hS hA [] rfl
  refine va_calli (va_runS (As := [.long ((nI n).toInt64), .long 1, .long 10]) (rest := []) ⟨hx, hb, hml, hown, htw⟩ (kM_in l dC dI cI cJ s.heap.size ((nI n).toInt64) 1 10) (va_cwS 3 htw (ws_good m_435 m_436 m_6 m_437) rfl rfl rfl (by decide +kernel) ⟨Nat.le_of_ble_eq_true rfl, Nat.le_of_ble_eq_true rfl⟩) ⟨fun a U g mk q => by obtain ⟨q0, q1, qP, qK, qD⟩ := q; exact ⟨q0, q1, qP, va_K.moved (u := U) (U := U.calling g mk a) (Vm.Alike.refl U.vm) qK, qD⟩, fun U hU hW => ⟨rfl, by rw [hU], by rw [hU]; exact hPc, va_K.moved hW.alike hK, hDc.weaken (fun _ _ _ _ => trivial)⟩⟩ rfl rfl hl.1 rfl (lv_room (Nat.le_of_ble_eq_true rfl)) dM_layer_6 ⟨Nat.le_of_ble_eq_true rfl, Nat.le_of_ble_eq_true rfl⟩) hS (fun q _ h => hFc q h) hFc (fun res_ u_ t H1 locs ht hvm hw hB hz1 hk1 hS => ?_)
  obtain ⟨hP1, hK1, hD1⟩ := hB
  rw [ht] at hP1
  obtain ⟨hP, hD⟩ := va_join (wr := [(mm, .inr (5, [.int (nI ly), .int (nI ce), .ref qlo, .ref qlk, .ref qhd, .ref qsf, .ref qpr, .ref qpa, .ref qsk, .long co, .long wo, .int (nI dy), .int da, .int db, .int dr, .int (nI mn), .ref qld, .ref qlz, .int (nI rn), .ref qrd, .ref qrv, .ref qhi, .ref qfw, .ref qkp])), (qlo, .inl (cI, 30, .inl lof)), (qlk, .inl (cI, 30, .inl lk)), (qhd, .inl (cI, 30, .inl hd)), (qsf, .inl (cI, 30, .inl sf)), (qpa, .inl (cJ, 30, .inr (.inl pa)))]) (w1 := []) hP hD [] [0, 1, 2, 3, 4, 5] rfl rfl (by decide) (by decide) hk1 hFc hP1 hD1
  generalize H1 = H at hP hS ⊢
  have hP : va_P (dC, dI) vwCl [(mm, .inr (5, [.int (nI ly), .int (nI ce), .ref qlo, .ref qlk, .ref qhd, .ref qsf, .ref qpr, .ref qpa, .ref qsk, .long co, .long wo, .int (nI dy), .int da, .int db, .int dr, .int (nI mn), .ref qld, .ref qlz, .int (nI rn), .ref qrd, .ref qrv, .ref qhi, .ref qfw, .ref qkp])), (qlo, .inl (cI, 30, .inl lof)), (qlk, .inl (cI, 30, .inl lk)), (qhd, .inl (cI, 30, .inl hd)), (qsf, .inl (cI, 30, .inl sf)), (qpa, .inl (cJ, 30, .inr (.inl pa)))] H := hP
  have hD : va_D A [(mm, .inr (5, [.int (nI ly), .int (nI ce), .ref qlo, .ref qlk, .ref qhd, .ref qsf, .ref qpr, .ref qpa, .ref qsk, .long co, .long wo, .int (nI dy), .int da, .int db, .int dr, .int (nI mn), .ref qld, .ref qlz, .int (nI rn), .ref qrd, .ref qrv, .ref qhi, .ref qfw, .ref qkp])), (qlo, .inl (cI, 30, .inl lof)), (qlk, .inl (cI, 30, .inl lk)), (qhd, .inl (cI, 30, .inl hd)), (qsf, .inl (cI, 30, .inl sf)), (qpa, .inl (cJ, 30, .inr (.inl pa)))] := hD
  clear hPc hDc hFc hP1 hD1 hK1 hk1 hz1 hvm ht
  obtain rfl : kb (1 ≤ ((nI n).toInt64) ∧ ((nI n).toInt64) ≤ 10) = res_ := hw.symm
  refine lv_if_eq (tgt := 72) hx hb dM_layer_9 (by decide) (fun hc9 => ?_) (fun hc9 => ?_)
  · -- 9 taken
    rw [kb_eq0, k_wl, show ((1 : Int64)).toInt = 1 from by decide, show ((10 : Int64)).toInt = 10 from by decide] at hc9
    simp only [Int32.toInt_toInt64] at hc9
    rw [nI_toInt (n := n) (by omega)] at hc9
    exfalso; omega
  · -- 9 not taken
    rw [kb_eq0, k_wl, show ((1 : Int64)).toInt = 1 from by decide, show ((10 : Int64)).toInt = 10 from by decide] at hc9
    simp only [Int32.toInt_toInt64] at hc9
    rw [nI_toInt (n := n) (by omega)] at hc9
    refine lv_iload_n hx hb dM_layer_12 rfl (lv_at hl 2 rfl) ?_
    refine lv_i2l (v := x1.toInt64) hx hb dM_layer_13 rfl ?_
    refine lv_lconst (v := 0) hx hb dM_layer_14 (by decide) ?_
    refine lv_ldc2 (v := 300) hx hb hown (htw _ m_438) dM_layer_15 ?_
    have hPc := hP.sub (ws' := []) [] rfl
    have hDc := hD.sub (ws' := []) [] (by decide) rfl
    have hFc := va_free (wc := []) hD hS hA [] rfl
    refine va_calli (va_runS (As := [.long x1.toInt64, .long 0, .long 300]) (rest := []) ⟨hx, hb, hml, hown, htw⟩ (kM_in l dC dI cI cJ H.size x1.toInt64 0 300) (va_cwS 3 htw (ws_good m_435 m_436 m_6 m_437) rfl rfl rfl (by decide +kernel) ⟨Nat.le_of_ble_eq_true rfl, Nat.le_of_ble_eq_true rfl⟩) ⟨fun a U g mk q => by obtain ⟨q0, q1, qP, qK, qD⟩ := q; exact ⟨q0, q1, qP, va_K.moved (u := U) (U := U.calling g mk a) (Vm.Alike.refl U.vm) qK, qD⟩, fun U hU hW => ⟨rfl, by rw [hU], by rw [hU]; exact hPc, va_K.moved hW.alike hK, hDc.weaken (fun _ _ _ _ => trivial)⟩⟩ rfl rfl hl.1 rfl (lv_room (Nat.le_of_ble_eq_true rfl)) dM_layer_18 ⟨Nat.le_of_ble_eq_true rfl, Nat.le_of_ble_eq_true rfl⟩) hS (fun q _ h => hFc q h) hFc (fun res_ u_ t H1 locs ht hvm hw hB hz1 hk1 hS => ?_)
    obtain ⟨hP1, hK1, hD1⟩ := hB
    rw [ht] at hP1
    obtain ⟨hP, hD⟩ := va_join (wr := [(mm, .inr (5, [.int (nI ly), .int (nI ce), .ref qlo, .ref qlk, .ref qhd, .ref qsf, .ref qpr, .ref qpa, .ref qsk, .long co, .long wo, .int (nI dy), .int da, .int db, .int dr, .int (nI mn), .ref qld, .ref qlz, .int (nI rn), .ref qrd, .ref qrv, .ref qhi, .ref qfw, .ref qkp])), (qlo, .inl (cI, 30, .inl lof)), (qlk, .inl (cI, 30, .inl lk)), (qhd, .inl (cI, 30, .inl hd)), (qsf, .inl (cI, 30, .inl sf)), (qpa, .inl (cJ, 30, .inr (.inl pa)))]) (w1 := []) hP hD [] [0, 1, 2, 3, 4, 5] rfl rfl (by decide) (by decide) hk1 hFc hP1 hD1
    generalize H1 = H at hP hS ⊢
    have hP : va_P (dC, dI) vwCl [(mm, .inr (5, [.int (nI ly), .int (nI ce), .ref qlo, .ref qlk, .ref qhd, .ref qsf, .ref qpr, .ref qpa, .ref qsk, .long co, .long wo, .int (nI dy), .int da, .int db, .int dr, .int (nI mn), .ref qld, .ref qlz, .int (nI rn), .ref qrd, .ref qrv, .ref qhi, .ref qfw, .ref qkp])), (qlo, .inl (cI, 30, .inl lof)), (qlk, .inl (cI, 30, .inl lk)), (qhd, .inl (cI, 30, .inl hd)), (qsf, .inl (cI, 30, .inl sf)), (qpa, .inl (cJ, 30, .inr (.inl pa)))] H := hP
    have hD : va_D A [(mm, .inr (5, [.int (nI ly), .int (nI ce), .ref qlo, .ref qlk, .ref qhd, .ref qsf, .ref qpr, .ref qpa, .ref qsk, .long co, .long wo, .int (nI dy), .int da, .int db, .int dr, .int (nI mn), .ref qld, .ref qlz, .int (nI rn), .ref qrd, .ref qrv, .ref qhi, .ref qfw, .ref qkp])), (qlo, .inl (cI, 30, .inl lof)), (qlk, .inl (cI, 30, .inl lk)), (qhd, .inl (cI, 30, .inl hd)), (qsf, .inl (cI, 30, .inl sf)), (qpa, .inl (cJ, 30, .inr (.inl pa)))] := hD
    clear hPc hDc hFc hP1 hD1 hK1 hk1 hz1 hvm ht
    obtain rfl : kb (0 ≤ x1.toInt64 ∧ x1.toInt64 ≤ 300) = res_ := hw.symm
    refine lv_if_eq (tgt := 72) hx hb dM_layer_21 (by decide) (fun hc21 => ?_) (fun hc21 => ?_)
    · -- 21 taken
      rw [kb_eq0, k_wl, show ((0 : Int64)).toInt = 0 from by decide, show ((300 : Int64)).toInt = 300 from by decide] at hc21
      simp only [Int32.toInt_toInt64] at hc21
      exfalso; omega
    · -- 21 not taken
      rw [kb_eq0, k_wl, show ((0 : Int64)).toInt = 0 from by decide, show ((300 : Int64)).toInt = 300 from by decide] at hc21
      simp only [Int32.toInt_toInt64] at hc21
      refine lv_iload_n hx hb dM_layer_24 rfl (lv_at hl 3 rfl) ?_
      refine lv_i2l (v := x2.toInt64) hx hb dM_layer_25 rfl ?_
      refine lv_lconst (v := 0) hx hb dM_layer_26 (by decide) ?_
      refine lv_ldc2 (v := 1000) hx hb hown (htw _ m_439) dM_layer_27 ?_
      have hPc := hP.sub (ws' := []) [] rfl
      have hDc := hD.sub (ws' := []) [] (by decide) rfl
      have hFc := va_free (wc := []) hD hS hA [] rfl
      refine va_calli (va_runS (As := [.long x2.toInt64, .long 0, .long 1000]) (rest := []) ⟨hx, hb, hml, hown, htw⟩ (kM_in l dC dI cI cJ H.size x2.toInt64 0 1000) (va_cwS 3 htw (ws_good m_435 m_436 m_6 m_437) rfl rfl rfl (by decide +kernel) ⟨Nat.le_of_ble_eq_true rfl, Nat.le_of_ble_eq_true rfl⟩) ⟨fun a U g mk q => by obtain ⟨q0, q1, qP, qK, qD⟩ := q; exact ⟨q0, q1, qP, va_K.moved (u := U) (U := U.calling g mk a) (Vm.Alike.refl U.vm) qK, qD⟩, fun U hU hW => ⟨rfl, by rw [hU], by rw [hU]; exact hPc, va_K.moved hW.alike hK, hDc.weaken (fun _ _ _ _ => trivial)⟩⟩ rfl rfl hl.1 rfl (lv_room (Nat.le_of_ble_eq_true rfl)) dM_layer_30 ⟨Nat.le_of_ble_eq_true rfl, Nat.le_of_ble_eq_true rfl⟩) hS (fun q _ h => hFc q h) hFc (fun res_ u_ t H1 locs ht hvm hw hB hz1 hk1 hS => ?_)
      obtain ⟨hP1, hK1, hD1⟩ := hB
      rw [ht] at hP1
      obtain ⟨hP, hD⟩ := va_join (wr := [(mm, .inr (5, [.int (nI ly), .int (nI ce), .ref qlo, .ref qlk, .ref qhd, .ref qsf, .ref qpr, .ref qpa, .ref qsk, .long co, .long wo, .int (nI dy), .int da, .int db, .int dr, .int (nI mn), .ref qld, .ref qlz, .int (nI rn), .ref qrd, .ref qrv, .ref qhi, .ref qfw, .ref qkp])), (qlo, .inl (cI, 30, .inl lof)), (qlk, .inl (cI, 30, .inl lk)), (qhd, .inl (cI, 30, .inl hd)), (qsf, .inl (cI, 30, .inl sf)), (qpa, .inl (cJ, 30, .inr (.inl pa)))]) (w1 := []) hP hD [] [0, 1, 2, 3, 4, 5] rfl rfl (by decide) (by decide) hk1 hFc hP1 hD1
      generalize H1 = H at hP hS ⊢
      have hP : va_P (dC, dI) vwCl [(mm, .inr (5, [.int (nI ly), .int (nI ce), .ref qlo, .ref qlk, .ref qhd, .ref qsf, .ref qpr, .ref qpa, .ref qsk, .long co, .long wo, .int (nI dy), .int da, .int db, .int dr, .int (nI mn), .ref qld, .ref qlz, .int (nI rn), .ref qrd, .ref qrv, .ref qhi, .ref qfw, .ref qkp])), (qlo, .inl (cI, 30, .inl lof)), (qlk, .inl (cI, 30, .inl lk)), (qhd, .inl (cI, 30, .inl hd)), (qsf, .inl (cI, 30, .inl sf)), (qpa, .inl (cJ, 30, .inr (.inl pa)))] H := hP
      have hD : va_D A [(mm, .inr (5, [.int (nI ly), .int (nI ce), .ref qlo, .ref qlk, .ref qhd, .ref qsf, .ref qpr, .ref qpa, .ref qsk, .long co, .long wo, .int (nI dy), .int da, .int db, .int dr, .int (nI mn), .ref qld, .ref qlz, .int (nI rn), .ref qrd, .ref qrv, .ref qhi, .ref qfw, .ref qkp])), (qlo, .inl (cI, 30, .inl lof)), (qlk, .inl (cI, 30, .inl lk)), (qhd, .inl (cI, 30, .inl hd)), (qsf, .inl (cI, 30, .inl sf)), (qpa, .inl (cJ, 30, .inr (.inl pa)))] := hD
      clear hPc hDc hFc hP1 hD1 hK1 hk1 hz1 hvm ht
      obtain rfl : kb (0 ≤ x2.toInt64 ∧ x2.toInt64 ≤ 1000) = res_ := hw.symm
      refine lv_if_eq (tgt := 72) hx hb dM_layer_33 (by decide) (fun hc33 => ?_) (fun hc33 => ?_)
      · -- 33 taken
        rw [kb_eq0, k_wl, show ((0 : Int64)).toInt = 0 from by decide, show ((1000 : Int64)).toInt = 1000 from by decide] at hc33
        simp only [Int32.toInt_toInt64] at hc33
        exfalso; omega
      · -- 33 not taken
        rw [kb_eq0, k_wl, show ((0 : Int64)).toInt = 0 from by decide, show ((1000 : Int64)).toInt = 1000 from by decide] at hc33
        simp only [Int32.toInt_toInt64] at hc33
        refine lv_iload hx hb dM_layer_36 (lv_at hl 4 rfl) ?_
        refine lv_i2l (v := x3.toInt64) hx hb dM_layer_38 rfl ?_
        refine lv_lconst (v := 0) hx hb dM_layer_39 (by decide) ?_
        refine lv_ldc2 (v := 1000) hx hb hown (htw _ m_439) dM_layer_40 ?_
        have hPc := hP.sub (ws' := []) [] rfl
        have hDc := hD.sub (ws' := []) [] (by decide) rfl
        have hFc := va_free (wc := []) hD hS hA [] rfl
        refine va_calli (va_runS (As := [.long x3.toInt64, .long 0, .long 1000]) (rest := []) ⟨hx, hb, hml, hown, htw⟩ (kM_in l dC dI cI cJ H.size x3.toInt64 0 1000) (va_cwS 3 htw (ws_good m_435 m_436 m_6 m_437) rfl rfl rfl (by decide +kernel) ⟨Nat.le_of_ble_eq_true rfl, Nat.le_of_ble_eq_true rfl⟩) ⟨fun a U g mk q => by obtain ⟨q0, q1, qP, qK, qD⟩ := q; exact ⟨q0, q1, qP, va_K.moved (u := U) (U := U.calling g mk a) (Vm.Alike.refl U.vm) qK, qD⟩, fun U hU hW => ⟨rfl, by rw [hU], by rw [hU]; exact hPc, va_K.moved hW.alike hK, hDc.weaken (fun _ _ _ _ => trivial)⟩⟩ rfl rfl hl.1 rfl (lv_room (Nat.le_of_ble_eq_true rfl)) dM_layer_43 ⟨Nat.le_of_ble_eq_true rfl, Nat.le_of_ble_eq_true rfl⟩) hS (fun q _ h => hFc q h) hFc (fun res_ u_ t H1 locs ht hvm hw hB hz1 hk1 hS => ?_)
        obtain ⟨hP1, hK1, hD1⟩ := hB
        rw [ht] at hP1
        obtain ⟨hP, hD⟩ := va_join (wr := [(mm, .inr (5, [.int (nI ly), .int (nI ce), .ref qlo, .ref qlk, .ref qhd, .ref qsf, .ref qpr, .ref qpa, .ref qsk, .long co, .long wo, .int (nI dy), .int da, .int db, .int dr, .int (nI mn), .ref qld, .ref qlz, .int (nI rn), .ref qrd, .ref qrv, .ref qhi, .ref qfw, .ref qkp])), (qlo, .inl (cI, 30, .inl lof)), (qlk, .inl (cI, 30, .inl lk)), (qhd, .inl (cI, 30, .inl hd)), (qsf, .inl (cI, 30, .inl sf)), (qpa, .inl (cJ, 30, .inr (.inl pa)))]) (w1 := []) hP hD [] [0, 1, 2, 3, 4, 5] rfl rfl (by decide) (by decide) hk1 hFc hP1 hD1
        generalize H1 = H at hP hS ⊢
        have hP : va_P (dC, dI) vwCl [(mm, .inr (5, [.int (nI ly), .int (nI ce), .ref qlo, .ref qlk, .ref qhd, .ref qsf, .ref qpr, .ref qpa, .ref qsk, .long co, .long wo, .int (nI dy), .int da, .int db, .int dr, .int (nI mn), .ref qld, .ref qlz, .int (nI rn), .ref qrd, .ref qrv, .ref qhi, .ref qfw, .ref qkp])), (qlo, .inl (cI, 30, .inl lof)), (qlk, .inl (cI, 30, .inl lk)), (qhd, .inl (cI, 30, .inl hd)), (qsf, .inl (cI, 30, .inl sf)), (qpa, .inl (cJ, 30, .inr (.inl pa)))] H := hP
        have hD : va_D A [(mm, .inr (5, [.int (nI ly), .int (nI ce), .ref qlo, .ref qlk, .ref qhd, .ref qsf, .ref qpr, .ref qpa, .ref qsk, .long co, .long wo, .int (nI dy), .int da, .int db, .int dr, .int (nI mn), .ref qld, .ref qlz, .int (nI rn), .ref qrd, .ref qrv, .ref qhi, .ref qfw, .ref qkp])), (qlo, .inl (cI, 30, .inl lof)), (qlk, .inl (cI, 30, .inl lk)), (qhd, .inl (cI, 30, .inl hd)), (qsf, .inl (cI, 30, .inl sf)), (qpa, .inl (cJ, 30, .inr (.inl pa)))] := hD
        clear hPc hDc hFc hP1 hD1 hK1 hk1 hz1 hvm ht
        obtain rfl : kb (0 ≤ x3.toInt64 ∧ x3.toInt64 ≤ 1000) = res_ := hw.symm
        refine lv_if_eq (tgt := 72) hx hb dM_layer_46 (by decide) (fun hc46 => ?_) (fun hc46 => ?_)
        · -- 46 taken
          rw [kb_eq0, k_wl, show ((0 : Int64)).toInt = 0 from by decide, show ((1000 : Int64)).toInt = 1000 from by decide] at hc46
          simp only [Int32.toInt_toInt64] at hc46
          exfalso; omega
        · -- 46 not taken
          rw [kb_eq0, k_wl, show ((0 : Int64)).toInt = 0 from by decide, show ((1000 : Int64)).toInt = 1000 from by decide] at hc46
          simp only [Int32.toInt_toInt64] at hc46
          refine lv_iload hx hb dM_layer_49 (lv_at hl 5 rfl) ?_
          refine lv_i2l (v := x4.toInt64) hx hb dM_layer_51 rfl ?_
          refine lv_lconst (v := 0) hx hb dM_layer_52 (by decide) ?_
          refine lv_ldc2 (v := 1000000) hx hb hown (htw _ m_440) dM_layer_53 ?_
          have hPc := hP.sub (ws' := []) [] rfl
          have hDc := hD.sub (ws' := []) [] (by decide) rfl
          have hFc := va_free (wc := []) hD hS hA [] rfl
          refine va_calli (va_runS (As := [.long x4.toInt64, .long 0, .long 1000000]) (rest := []) ⟨hx, hb, hml, hown, htw⟩ (kM_in l dC dI cI cJ H.size x4.toInt64 0 1000000) (va_cwS 3 htw (ws_good m_435 m_436 m_6 m_437) rfl rfl rfl (by decide +kernel) ⟨Nat.le_of_ble_eq_true rfl, Nat.le_of_ble_eq_true rfl⟩) ⟨fun a U g mk q => by obtain ⟨q0, q1, qP, qK, qD⟩ := q; exact ⟨q0, q1, qP, va_K.moved (u := U) (U := U.calling g mk a) (Vm.Alike.refl U.vm) qK, qD⟩, fun U hU hW => ⟨rfl, by rw [hU], by rw [hU]; exact hPc, va_K.moved hW.alike hK, hDc.weaken (fun _ _ _ _ => trivial)⟩⟩ rfl rfl hl.1 rfl (lv_room (Nat.le_of_ble_eq_true rfl)) dM_layer_56 ⟨Nat.le_of_ble_eq_true rfl, Nat.le_of_ble_eq_true rfl⟩) hS (fun q _ h => hFc q h) hFc (fun res_ u_ t H1 locs ht hvm hw hB hz1 hk1 hS => ?_)
          obtain ⟨hP1, hK1, hD1⟩ := hB
          rw [ht] at hP1
          obtain ⟨hP, hD⟩ := va_join (wr := [(mm, .inr (5, [.int (nI ly), .int (nI ce), .ref qlo, .ref qlk, .ref qhd, .ref qsf, .ref qpr, .ref qpa, .ref qsk, .long co, .long wo, .int (nI dy), .int da, .int db, .int dr, .int (nI mn), .ref qld, .ref qlz, .int (nI rn), .ref qrd, .ref qrv, .ref qhi, .ref qfw, .ref qkp])), (qlo, .inl (cI, 30, .inl lof)), (qlk, .inl (cI, 30, .inl lk)), (qhd, .inl (cI, 30, .inl hd)), (qsf, .inl (cI, 30, .inl sf)), (qpa, .inl (cJ, 30, .inr (.inl pa)))]) (w1 := []) hP hD [] [0, 1, 2, 3, 4, 5] rfl rfl (by decide) (by decide) hk1 hFc hP1 hD1
          generalize H1 = H at hP hS ⊢
          have hP : va_P (dC, dI) vwCl [(mm, .inr (5, [.int (nI ly), .int (nI ce), .ref qlo, .ref qlk, .ref qhd, .ref qsf, .ref qpr, .ref qpa, .ref qsk, .long co, .long wo, .int (nI dy), .int da, .int db, .int dr, .int (nI mn), .ref qld, .ref qlz, .int (nI rn), .ref qrd, .ref qrv, .ref qhi, .ref qfw, .ref qkp])), (qlo, .inl (cI, 30, .inl lof)), (qlk, .inl (cI, 30, .inl lk)), (qhd, .inl (cI, 30, .inl hd)), (qsf, .inl (cI, 30, .inl sf)), (qpa, .inl (cJ, 30, .inr (.inl pa)))] H := hP
          have hD : va_D A [(mm, .inr (5, [.int (nI ly), .int (nI ce), .ref qlo, .ref qlk, .ref qhd, .ref qsf, .ref qpr, .ref qpa, .ref qsk, .long co, .long wo, .int (nI dy), .int da, .int db, .int dr, .int (nI mn), .ref qld, .ref qlz, .int (nI rn), .ref qrd, .ref qrv, .ref qhi, .ref qfw, .ref qkp])), (qlo, .inl (cI, 30, .inl lof)), (qlk, .inl (cI, 30, .inl lk)), (qhd, .inl (cI, 30, .inl hd)), (qsf, .inl (cI, 30, .inl sf)), (qpa, .inl (cJ, 30, .inr (.inl pa)))] := hD
          clear hPc hDc hFc hP1 hD1 hK1 hk1 hz1 hvm ht
          obtain rfl : kb (0 ≤ x4.toInt64 ∧ x4.toInt64 ≤ 1000000) = res_ := hw.symm
          refine lv_if_eq (tgt := 72) hx hb dM_layer_59 (by decide) (fun hc59 => ?_) (fun hc59 => ?_)
          · -- 59 taken
            rw [kb_eq0, k_wl, show ((0 : Int64)).toInt = 0 from by decide, show ((1000000 : Int64)).toInt = 1000000 from by decide] at hc59
            simp only [Int32.toInt_toInt64] at hc59
            exfalso; omega
          · -- 59 not taken
            rw [kb_eq0, k_wl, show ((0 : Int64)).toInt = 0 from by decide, show ((1000000 : Int64)).toInt = 1000000 from by decide] at hc59
            simp only [Int32.toInt_toInt64] at hc59
            refine lv_iload hx hb dM_layer_62 (lv_at hl 4 rfl) ?_
            refine lv_iload_n hx hb dM_layer_64 rfl (lv_at hl 3 rfl) ?_
            refine lv_icmp_lt (tgt := 72) hx hb dM_layer_65 (by decide) (fun hc65 => ?_) (fun hc65 => ?_)
            · -- 65 taken
              rw [Int32.lt_iff_toInt_lt] at hc65
              exfalso; omega
            · -- 65 not taken
              rw [Int32.lt_iff_toInt_lt] at hc65
              refine lv_iconst (v := nI 1) hx hb dM_layer_68 (by decide) ?_
              refine lv_goto (tgt := 73) hx hb dM_layer_69 (by decide) ?_
              refine lv_istore (lv' := [(6, .int (nI 1)), (0, .ref mm), (1, .int (nI n)), (2, .int x1), (3, .int x2), (4, .int x3), (5, .int x4)]) hx hb dM_layer_73 hl (by decide) rfl (fun ls hl => ?_)
              refine lv_iload hx hb dM_layer_75 (lv_at hl 0 rfl) ?_
              refine lv_if_eq (tgt := 105) hx hb dM_layer_77 (by decide) (fun hc77 => ?_) (fun hc77 => ?_)
              · -- 77 taken
                rw [show (0 : Int32) = nI 0 from rfl, nI_eq (by omega) (by omega)] at hc77
                exfalso; omega
              · -- 77 not taken
                rw [show (0 : Int32) = nI 0 from rfl, nI_eq (by omega) (by omega)] at hc77
                refine lv_aload_n hx hb dM_layer_80 rfl (lv_at hl 1 rfl) ?_
                refine va_get (D := (dC, dI)) (ci := 5) (v := .int (nI ce)) (C := R_M) (T := T_M) (N := 24) hx hb htw in_M hown hK hP 0 rfl rfl 1 (by decide) (htw _ m_358) (fun _ h9 => h9) rfl dM_layer_81 ?_
                refine lv_iload_n hx hb dM_layer_84 rfl (lv_at hl 2 rfl) ?_
                refine lv_iadd hx hb dM_layer_85 ?_
                refine lv_topi (fun kv ekv => ?_)
                obtain rfl : kv = nI (ce + n) := by rw [ekv]; exact nI_add _ _
                refine lv_bipush (v := nI 30) hx hb dM_layer_86 (by decide) ?_
                refine lv_icmp_gt (tgt := 105) hx hb dM_layer_88 (by decide) (fun hc88 => ?_) (fun hc88 => ?_)
                · -- 88 taken
                  rw [nI_ltI (by omega) (by omega)] at hc88
                  exfalso; omega
                · -- 88 not taken
                  rw [nI_ltI (by omega) (by omega)] at hc88
                  refine lv_aload_n hx hb dM_layer_91 rfl (lv_at hl 1 rfl) ?_
                  refine va_get (D := (dC, dI)) (ci := 5) (v := .int (nI dy)) (C := R_M) (T := T_M) (N := 24) hx hb htw in_M hown hK hP 0 rfl rfl 11 (by decide) (htw _ m_368) (fun _ h9 => h9) rfl dM_layer_92 ?_
                  refine lv_if_gt (tgt := 105) hx hb dM_layer_95 (by decide) (fun hc95 => ?_) (fun hc95 => ?_)
                  · -- 95 taken
                    rw [show (0 : Int32) = nI 0 from rfl, nI_ltI (by omega) (by omega)] at hc95
                    exfalso; omega
                  · -- 95 not taken
                    rw [show (0 : Int32) = nI 0 from rfl, nI_ltI (by omega) (by omega)] at hc95
                    refine lv_aload_n hx hb dM_layer_98 rfl (lv_at hl 1 rfl) ?_
                    refine va_get (D := (dC, dI)) (ci := 5) (v := .int (nI mn)) (C := R_M) (T := T_M) (N := 24) hx hb htw in_M hown hK hP 0 rfl rfl 15 (by decide) (htw _ m_372) (fun _ h9 => h9) rfl dM_layer_99 ?_
                    refine lv_if_le (tgt := 107) hx hb dM_layer_102 (by decide) (fun hc102 => ?_) (fun hc102 => ?_)
                    · -- 102 taken
                      rw [show (0 : Int32) = nI 0 from rfl, nI_leI (by omega) (by omega)] at hc102
                      refine lv_iconst (v := nI 0) hx hb dM_layer_107 (by decide) ?_
                      refine lv_istore (lv' := [(7, .int (nI 0)), (6, .int (nI 1)), (0, .ref mm), (1, .int (nI n)), (2, .int x1), (3, .int x2), (4, .int x3), (5, .int x4)]) hx hb dM_layer_108 hl (by decide) rfl (fun ls hl => ?_)
                      -- the loop at 110
                      have eq1 : (lof : Nat → Int32) = k_fi lof ce (ce + 0) (nI ly) := k_fi_0
                      have hP := Eq.mp (congrArg (fun zz => va_P (dC, dI) vwCl [(mm, .inr (5, [.int (nI ly), .int (nI ce), .ref qlo, .ref qlk, .ref qhd, .ref qsf, .ref qpr, .ref qpa, .ref qsk, .long co, .long wo, .int (nI dy), .int da, .int db, .int dr, .int (nI mn), .ref qld, .ref qlz, .int (nI rn), .ref qrd, .ref qrv, .ref qhi, .ref qfw, .ref qkp])), (qlo, .inl (cI, 30, .inl zz)), (qlk, .inl (cI, 30, .inl lk)), (qhd, .inl (cI, 30, .inl hd)), (qsf, .inl (cI, 30, .inl sf)), (qpa, .inl (cJ, 30, .inr (.inl pa)))] H) eq1) hP
                      have hD := Eq.mp (congrArg (fun zz => va_D A [(mm, .inr (5, [.int (nI ly), .int (nI ce), .ref qlo, .ref qlk, .ref qhd, .ref qsf, .ref qpr, .ref qpa, .ref qsk, .long co, .long wo, .int (nI dy), .int da, .int db, .int dr, .int (nI mn), .ref qld, .ref qlz, .int (nI rn), .ref qrd, .ref qrv, .ref qhi, .ref qfw, .ref qkp])), (qlo, .inl (cI, 30, .inl zz)), (qlk, .inl (cI, 30, .inl lk)), (qhd, .inl (cI, 30, .inl hd)), (qsf, .inl (cI, 30, .inl sf)), (qpa, .inl (cJ, 30, .inr (.inl pa)))]) eq1) hD
                      have eq2 : (lk : Nat → Int32) = k_fi lk ce (ce + 0) x1 := k_fi_0
                      have hP := Eq.mp (congrArg (fun zz => va_P (dC, dI) vwCl [(mm, .inr (5, [.int (nI ly), .int (nI ce), .ref qlo, .ref qlk, .ref qhd, .ref qsf, .ref qpr, .ref qpa, .ref qsk, .long co, .long wo, .int (nI dy), .int da, .int db, .int dr, .int (nI mn), .ref qld, .ref qlz, .int (nI rn), .ref qrd, .ref qrv, .ref qhi, .ref qfw, .ref qkp])), (qlo, .inl (cI, 30, .inl (k_fi lof ce (ce + 0) (nI ly)))), (qlk, .inl (cI, 30, .inl zz)), (qhd, .inl (cI, 30, .inl hd)), (qsf, .inl (cI, 30, .inl sf)), (qpa, .inl (cJ, 30, .inr (.inl pa)))] H) eq2) hP
                      have hD := Eq.mp (congrArg (fun zz => va_D A [(mm, .inr (5, [.int (nI ly), .int (nI ce), .ref qlo, .ref qlk, .ref qhd, .ref qsf, .ref qpr, .ref qpa, .ref qsk, .long co, .long wo, .int (nI dy), .int da, .int db, .int dr, .int (nI mn), .ref qld, .ref qlz, .int (nI rn), .ref qrd, .ref qrv, .ref qhi, .ref qfw, .ref qkp])), (qlo, .inl (cI, 30, .inl (k_fi lof ce (ce + 0) (nI ly)))), (qlk, .inl (cI, 30, .inl zz)), (qhd, .inl (cI, 30, .inl hd)), (qsf, .inl (cI, 30, .inl sf)), (qpa, .inl (cJ, 30, .inr (.inl pa)))]) eq2) hD
                      have eq3 : (hd : Nat → Int32) = k_fi hd ce (ce + 0) x2 := k_fi_0
                      have hP := Eq.mp (congrArg (fun zz => va_P (dC, dI) vwCl [(mm, .inr (5, [.int (nI ly), .int (nI ce), .ref qlo, .ref qlk, .ref qhd, .ref qsf, .ref qpr, .ref qpa, .ref qsk, .long co, .long wo, .int (nI dy), .int da, .int db, .int dr, .int (nI mn), .ref qld, .ref qlz, .int (nI rn), .ref qrd, .ref qrv, .ref qhi, .ref qfw, .ref qkp])), (qlo, .inl (cI, 30, .inl (k_fi lof ce (ce + 0) (nI ly)))), (qlk, .inl (cI, 30, .inl (k_fi lk ce (ce + 0) x1))), (qhd, .inl (cI, 30, .inl zz)), (qsf, .inl (cI, 30, .inl sf)), (qpa, .inl (cJ, 30, .inr (.inl pa)))] H) eq3) hP
                      have hD := Eq.mp (congrArg (fun zz => va_D A [(mm, .inr (5, [.int (nI ly), .int (nI ce), .ref qlo, .ref qlk, .ref qhd, .ref qsf, .ref qpr, .ref qpa, .ref qsk, .long co, .long wo, .int (nI dy), .int da, .int db, .int dr, .int (nI mn), .ref qld, .ref qlz, .int (nI rn), .ref qrd, .ref qrv, .ref qhi, .ref qfw, .ref qkp])), (qlo, .inl (cI, 30, .inl (k_fi lof ce (ce + 0) (nI ly)))), (qlk, .inl (cI, 30, .inl (k_fi lk ce (ce + 0) x1))), (qhd, .inl (cI, 30, .inl zz)), (qsf, .inl (cI, 30, .inl sf)), (qpa, .inl (cJ, 30, .inr (.inl pa)))]) eq3) hD
                      have eq4 : (sf : Nat → Int32) = k_fi sf ce (ce + 0) x3 := k_fi_0
                      have hP := Eq.mp (congrArg (fun zz => va_P (dC, dI) vwCl [(mm, .inr (5, [.int (nI ly), .int (nI ce), .ref qlo, .ref qlk, .ref qhd, .ref qsf, .ref qpr, .ref qpa, .ref qsk, .long co, .long wo, .int (nI dy), .int da, .int db, .int dr, .int (nI mn), .ref qld, .ref qlz, .int (nI rn), .ref qrd, .ref qrv, .ref qhi, .ref qfw, .ref qkp])), (qlo, .inl (cI, 30, .inl (k_fi lof ce (ce + 0) (nI ly)))), (qlk, .inl (cI, 30, .inl (k_fi lk ce (ce + 0) x1))), (qhd, .inl (cI, 30, .inl (k_fi hd ce (ce + 0) x2))), (qsf, .inl (cI, 30, .inl zz)), (qpa, .inl (cJ, 30, .inr (.inl pa)))] H) eq4) hP
                      have hD := Eq.mp (congrArg (fun zz => va_D A [(mm, .inr (5, [.int (nI ly), .int (nI ce), .ref qlo, .ref qlk, .ref qhd, .ref qsf, .ref qpr, .ref qpa, .ref qsk, .long co, .long wo, .int (nI dy), .int da, .int db, .int dr, .int (nI mn), .ref qld, .ref qlz, .int (nI rn), .ref qrd, .ref qrv, .ref qhi, .ref qfw, .ref qkp])), (qlo, .inl (cI, 30, .inl (k_fi lof ce (ce + 0) (nI ly)))), (qlk, .inl (cI, 30, .inl (k_fi lk ce (ce + 0) x1))), (qhd, .inl (cI, 30, .inl (k_fi hd ce (ce + 0) x2))), (qsf, .inl (cI, 30, .inl zz)), (qpa, .inl (cJ, 30, .inr (.inl pa)))]) eq4) hD
                      have eq5 : (pa : Nat → Int64) = k_beg pa ce (ce + 0) x4.toInt64 := k_beg_0
                      have hP := Eq.mp (congrArg (fun zz => va_P (dC, dI) vwCl [(mm, .inr (5, [.int (nI ly), .int (nI ce), .ref qlo, .ref qlk, .ref qhd, .ref qsf, .ref qpr, .ref qpa, .ref qsk, .long co, .long wo, .int (nI dy), .int da, .int db, .int dr, .int (nI mn), .ref qld, .ref qlz, .int (nI rn), .ref qrd, .ref qrv, .ref qhi, .ref qfw, .ref qkp])), (qlo, .inl (cI, 30, .inl (k_fi lof ce (ce + 0) (nI ly)))), (qlk, .inl (cI, 30, .inl (k_fi lk ce (ce + 0) x1))), (qhd, .inl (cI, 30, .inl (k_fi hd ce (ce + 0) x2))), (qsf, .inl (cI, 30, .inl (k_fi sf ce (ce + 0) x3))), (qpa, .inl (cJ, 30, .inr (.inl zz)))] H) eq5) hP
                      have hD := Eq.mp (congrArg (fun zz => va_D A [(mm, .inr (5, [.int (nI ly), .int (nI ce), .ref qlo, .ref qlk, .ref qhd, .ref qsf, .ref qpr, .ref qpa, .ref qsk, .long co, .long wo, .int (nI dy), .int da, .int db, .int dr, .int (nI mn), .ref qld, .ref qlz, .int (nI rn), .ref qrd, .ref qrv, .ref qhi, .ref qfw, .ref qkp])), (qlo, .inl (cI, 30, .inl (k_fi lof ce (ce + 0) (nI ly)))), (qlk, .inl (cI, 30, .inl (k_fi lk ce (ce + 0) x1))), (qhd, .inl (cI, 30, .inl (k_fi hd ce (ce + 0) x2))), (qsf, .inl (cI, 30, .inl (k_fi sf ce (ce + 0) x3))), (qpa, .inl (cJ, 30, .inr (.inl zz)))]) eq5) hD
                      have hP : va_P (dC, dI) vwCl [(mm, .inr (5, [.int (nI ly), .int (nI (ce + 0)), .ref qlo, .ref qlk, .ref qhd, .ref qsf, .ref qpr, .ref qpa, .ref qsk, .long co, .long wo, .int (nI dy), .int da, .int db, .int dr, .int (nI mn), .ref qld, .ref qlz, .int (nI rn), .ref qrd, .ref qrv, .ref qhi, .ref qfw, .ref qkp])), (qlo, .inl (cI, 30, .inl (k_fi lof ce (ce + 0) (nI ly)))), (qlk, .inl (cI, 30, .inl (k_fi lk ce (ce + 0) x1))), (qhd, .inl (cI, 30, .inl (k_fi hd ce (ce + 0) x2))), (qsf, .inl (cI, 30, .inl (k_fi sf ce (ce + 0) x3))), (qpa, .inl (cJ, 30, .inr (.inl (k_beg pa ce (ce + 0) x4.toInt64))))] H := by first | exact hP | simpa only [] using hP
                      have hD : va_D A [(mm, .inr (5, [.int (nI ly), .int (nI (ce + 0)), .ref qlo, .ref qlk, .ref qhd, .ref qsf, .ref qpr, .ref qpa, .ref qsk, .long co, .long wo, .int (nI dy), .int da, .int db, .int dr, .int (nI mn), .ref qld, .ref qlz, .int (nI rn), .ref qrd, .ref qrv, .ref qhi, .ref qfw, .ref qkp])), (qlo, .inl (cI, 30, .inl (k_fi lof ce (ce + 0) (nI ly)))), (qlk, .inl (cI, 30, .inl (k_fi lk ce (ce + 0) x1))), (qhd, .inl (cI, 30, .inl (k_fi hd ce (ce + 0) x2))), (qsf, .inl (cI, 30, .inl (k_fi sf ce (ce + 0) x3))), (qpa, .inl (cJ, 30, .inr (.inl (k_beg pa ce (ce + 0) x4.toInt64))))] := by first | exact hD | simpa only [] using hD
                      refine x_loop (N := n) (I := fun i H locs ls => va_P (dC, dI) vwCl [(mm, .inr (5, [.int (nI ly), .int (nI (ce + i)), .ref qlo, .ref qlk, .ref qhd, .ref qsf, .ref qpr, .ref qpa, .ref qsk, .long co, .long wo, .int (nI dy), .int da, .int db, .int dr, .int (nI mn), .ref qld, .ref qlz, .int (nI rn), .ref qrd, .ref qrv, .ref qhi, .ref qfw, .ref qkp])), (qlo, .inl (cI, 30, .inl (k_fi lof ce (ce + i) (nI ly)))), (qlk, .inl (cI, 30, .inl (k_fi lk ce (ce + i) x1))), (qhd, .inl (cI, 30, .inl (k_fi hd ce (ce + i) x2))), (qsf, .inl (cI, 30, .inl (k_fi sf ce (ce + i) x3))), (qpa, .inl (cJ, 30, .inr (.inl (k_beg pa ce (ce + i) x4.toInt64))))] H ∧ va_D A [(mm, .inr (5, [.int (nI ly), .int (nI (ce + i)), .ref qlo, .ref qlk, .ref qhd, .ref qsf, .ref qpr, .ref qpa, .ref qsk, .long co, .long wo, .int (nI dy), .int da, .int db, .int dr, .int (nI mn), .ref qld, .ref qlz, .int (nI rn), .ref qrd, .ref qrv, .ref qhi, .ref qfw, .ref qkp])), (qlo, .inl (cI, 30, .inl (k_fi lof ce (ce + i) (nI ly)))), (qlk, .inl (cI, 30, .inl (k_fi lk ce (ce + i) x1))), (qhd, .inl (cI, 30, .inl (k_fi hd ce (ce + i) x2))), (qsf, .inl (cI, 30, .inl (k_fi sf ce (ce + i) x3))), (qpa, .inl (cJ, 30, .inr (.inl (k_beg pa ce (ce + i) x4.toInt64))))] ∧ va_S A s.heap H locs ∧ lv_has ls 8 [(0, .ref mm), (1, .int (nI n)), (2, .int x1), (3, .int x2), (4, .int x3), (5, .int x4), (7, .int (nI i))]) (i0 := 0) ?_ (Nat.zero_le _) ⟨hP, hD, hS, lv_sub hl [2, 3, 4, 5, 6, 7, 0] rfl⟩
                      intro i hi ih110 H locs ls hI
                      obtain ⟨hP, hD, hS, hl⟩ := hI
                      refine lv_iload hx hb dM_layer_110 (lv_at hl 6 rfl) ?_
                      refine lv_iload_n hx hb dM_layer_112 rfl (lv_at hl 1 rfl) ?_
                      refine lv_icmp_ge (tgt := 188) hx hb dM_layer_113 (by decide) (fun hc113 => ?_) (fun hc113 => ?_)
                      · -- 113 taken
                        rw [nI_leI (by omega) (by omega)] at hc113
                        obtain rfl : n = i := by omega
                        refine lv_aload_n hx hb dM_layer_188 rfl (lv_at hl 0 rfl) ?_
                        refine lv_dup hx hb dM_layer_189 rfl ?_
                        refine va_get (D := (dC, dI)) (ci := 5) (v := .int (nI ly)) (C := R_M) (T := T_M) (N := 24) hx hb htw in_M hown hK hP 0 rfl rfl 0 (by decide) (htw _ m_357) (fun _ h9 => h9) rfl dM_layer_190 ?_
                        refine lv_iconst (v := nI 1) hx hb dM_layer_193 (by decide) ?_
                        refine lv_iadd hx hb dM_layer_194 ?_
                        refine lv_topi (fun kv ekv => ?_)
                        obtain rfl : kv = nI (ly + 1) := by rw [ekv]; exact nI_add _ _
                        refine va_put (D := (dC, dI)) (ci := 5) (v := .int (nI (ly + 1))) (ty := .int) (C := R_M) (T := T_M) (N := 24) hx hb htw in_M ty_M tok_M nnm_M hown hK hP hD hS 0 rfl rfl 0 (by decide) (htw _ m_357) (fun _ h9 => h9) rfl (by decide +kernel) rfl rfl (Nat.le_of_ble_eq_true rfl) dM_layer_195 (fun H locs hP hD hS => ?_)
                        have hP : va_P (dC, dI) vwCl [(mm, .inr (5, [.int (nI (ly + 1)), .int (nI (ce + n)), .ref qlo, .ref qlk, .ref qhd, .ref qsf, .ref qpr, .ref qpa, .ref qsk, .long co, .long wo, .int (nI dy), .int da, .int db, .int dr, .int (nI mn), .ref qld, .ref qlz, .int (nI rn), .ref qrd, .ref qrv, .ref qhi, .ref qfw, .ref qkp])), (qlo, .inl (cI, 30, .inl (k_fi lof ce (ce + n) (nI ly)))), (qlk, .inl (cI, 30, .inl (k_fi lk ce (ce + n) x1))), (qhd, .inl (cI, 30, .inl (k_fi hd ce (ce + n) x2))), (qsf, .inl (cI, 30, .inl (k_fi sf ce (ce + n) x3))), (qpa, .inl (cJ, 30, .inr (.inl (k_beg pa ce (ce + n) x4.toInt64))))] H := hP
                        have hD : va_D A [(mm, .inr (5, [.int (nI (ly + 1)), .int (nI (ce + n)), .ref qlo, .ref qlk, .ref qhd, .ref qsf, .ref qpr, .ref qpa, .ref qsk, .long co, .long wo, .int (nI dy), .int da, .int db, .int dr, .int (nI mn), .ref qld, .ref qlz, .int (nI rn), .ref qrd, .ref qrv, .ref qhi, .ref qfw, .ref qkp])), (qlo, .inl (cI, 30, .inl (k_fi lof ce (ce + n) (nI ly)))), (qlk, .inl (cI, 30, .inl (k_fi lk ce (ce + n) x1))), (qhd, .inl (cI, 30, .inl (k_fi hd ce (ce + n) x2))), (qsf, .inl (cI, 30, .inl (k_fi sf ce (ce + n) x3))), (qpa, .inl (cJ, 30, .inr (.inl (k_beg pa ce (ce + n) x4.toInt64))))] := hD
                        refine lv_aload_n hx hb dM_layer_198 rfl (lv_at hl 0 rfl) ?_
                        refine va_get (D := (dC, dI)) (ci := 5) (v := .int (nI (ly + 1))) (C := R_M) (T := T_M) (N := 24) hx hb htw in_M hown hK hP 0 rfl rfl 0 (by decide) (htw _ m_357) (fun _ h9 => h9) rfl dM_layer_199 ?_
                        refine lv_iconst (v := nI 1) hx hb dM_layer_202 (by decide) ?_
                        refine lv_isub hx hb dM_layer_203 ?_
                        refine lv_topi (fun kv ekv => ?_)
                        obtain rfl : kv = nI ((ly + 1) - 1) := by rw [ekv]; exact pk_sub (by omega)
                        have hP : va_P (dC, dI) vwCl [(mm, .inr (5, [.int (nI (ly + 1)), .int (nI (ce + n)), .ref qlo, .ref qlk, .ref qhd, .ref qsf, .ref qpr, .ref qpa, .ref qsk, .long co, .long wo, .int (nI dy), .int da, .int db, .int dr, .int (nI mn), .ref qld, .ref qlz, .int (nI rn), .ref qrd, .ref qrv, .ref qhi, .ref qfw, .ref qkp])), (qlo, .inl (cI, 30, .inl (k_fi lof ce (ce + n) (nI ly)))), (qlk, .inl (cI, 30, .inl (k_fi lk ce (ce + n) x1))), (qhd, .inl (cI, 30, .inl (k_fi hd ce (ce + n) x2))), (qsf, .inl (cI, 30, .inl (k_fi sf ce (ce + n) x3))), (qpa, .inl (cJ, 30, .inr (.inl (k_beg pa ce (ce + n) x4.toInt64))))] H := by first | exact hP | simpa only [] using hP
                        have hD : va_D A [(mm, .inr (5, [.int (nI (ly + 1)), .int (nI (ce + n)), .ref qlo, .ref qlk, .ref qhd, .ref qsf, .ref qpr, .ref qpa, .ref qsk, .long co, .long wo, .int (nI dy), .int da, .int db, .int dr, .int (nI mn), .ref qld, .ref qlz, .int (nI rn), .ref qrd, .ref qrv, .ref qhi, .ref qfw, .ref qkp])), (qlo, .inl (cI, 30, .inl (k_fi lof ce (ce + n) (nI ly)))), (qlk, .inl (cI, 30, .inl (k_fi lk ce (ce + n) x1))), (qhd, .inl (cI, 30, .inl (k_fi hd ce (ce + n) x2))), (qsf, .inl (cI, 30, .inl (k_fi sf ce (ce + n) x3))), (qpa, .inl (cJ, 30, .inr (.inl (k_beg pa ce (ce + n) x4.toInt64))))] := by first | exact hD | simpa only [] using hD
                        exact W.iret (v := nI ((ly + 1) - 1)) hx hb hr (fun t ht hW => ⟨⟨nI ((ly + 1) - 1), (), rfl, rfl, by rw [ht]; exact hP, va_K.moved hW.alike hK, hD⟩, hS.F ht⟩) hS.2.2 dM_layer_204
                      · -- 113 not taken
                        rw [nI_leI (by omega) (by omega)] at hc113
                        refine lv_aload_n hx hb dM_layer_116 rfl (lv_at hl 0 rfl) ?_
                        refine va_get (D := (dC, dI)) (ci := 5) (v := .ref qlo) (C := R_M) (T := T_M) (N := 24) hx hb htw in_M hown hK hP 0 rfl rfl 2 (by decide) (htw _ m_359) (fun _ h9 => h9) rfl dM_layer_117 ?_
                        refine lv_aload_n hx hb dM_layer_120 rfl (lv_at hl 0 rfl) ?_
                        refine va_get (D := (dC, dI)) (ci := 5) (v := .int (nI (ce + i))) (C := R_M) (T := T_M) (N := 24) hx hb htw in_M hown hK hP 0 rfl rfl 1 (by decide) (htw _ m_358) (fun _ h9 => h9) rfl dM_layer_121 ?_
                        refine lv_aload_n hx hb dM_layer_124 rfl (lv_at hl 0 rfl) ?_
                        refine va_get (D := (dC, dI)) (ci := 5) (v := .int (nI ly)) (C := R_M) (T := T_M) (N := 24) hx hb htw in_M hown hK hP 0 rfl rfl 0 (by decide) (htw _ m_357) (fun _ h9 => h9) rfl dM_layer_125 ?_
                        refine xa_iast hx hb hK hP hD hS 1 0 rfl rfl (i := (ce + i)) (by omega) (by decide) dM_layer_128 (fun H locs hP hD hS => ?_)
                        have hP : va_P (dC, dI) vwCl [(mm, .inr (5, [.int (nI ly), .int (nI (ce + i)), .ref qlo, .ref qlk, .ref qhd, .ref qsf, .ref qpr, .ref qpa, .ref qsk, .long co, .long wo, .int (nI dy), .int da, .int db, .int dr, .int (nI mn), .ref qld, .ref qlz, .int (nI rn), .ref qrd, .ref qrv, .ref qhi, .ref qfw, .ref qkp])), (qlo, .inl (cI, 30, .inl (upd (k_fi lof ce (ce + i) (nI ly)) (ce + i) (nI ly)))), (qlk, .inl (cI, 30, .inl (k_fi lk ce (ce + i) x1))), (qhd, .inl (cI, 30, .inl (k_fi hd ce (ce + i) x2))), (qsf, .inl (cI, 30, .inl (k_fi sf ce (ce + i) x3))), (qpa, .inl (cJ, 30, .inr (.inl (k_beg pa ce (ce + i) x4.toInt64))))] H := hP
                        have hD : va_D A [(mm, .inr (5, [.int (nI ly), .int (nI (ce + i)), .ref qlo, .ref qlk, .ref qhd, .ref qsf, .ref qpr, .ref qpa, .ref qsk, .long co, .long wo, .int (nI dy), .int da, .int db, .int dr, .int (nI mn), .ref qld, .ref qlz, .int (nI rn), .ref qrd, .ref qrv, .ref qhi, .ref qfw, .ref qkp])), (qlo, .inl (cI, 30, .inl (upd (k_fi lof ce (ce + i) (nI ly)) (ce + i) (nI ly)))), (qlk, .inl (cI, 30, .inl (k_fi lk ce (ce + i) x1))), (qhd, .inl (cI, 30, .inl (k_fi hd ce (ce + i) x2))), (qsf, .inl (cI, 30, .inl (k_fi sf ce (ce + i) x3))), (qpa, .inl (cJ, 30, .inr (.inl (k_beg pa ce (ce + i) x4.toInt64))))] := hD
                        have eq7 : (upd (k_fi lof ce (ce + i) (nI ly)) (ce + i) (nI ly) : Nat → Int32) = k_fi lof ce (ce + i + 1) (nI ly) := k_fi_s (by omega)
                        have hP := Eq.mp (congrArg (fun zz => va_P (dC, dI) vwCl [(mm, .inr (5, [.int (nI ly), .int (nI (ce + i)), .ref qlo, .ref qlk, .ref qhd, .ref qsf, .ref qpr, .ref qpa, .ref qsk, .long co, .long wo, .int (nI dy), .int da, .int db, .int dr, .int (nI mn), .ref qld, .ref qlz, .int (nI rn), .ref qrd, .ref qrv, .ref qhi, .ref qfw, .ref qkp])), (qlo, .inl (cI, 30, .inl zz)), (qlk, .inl (cI, 30, .inl (k_fi lk ce (ce + i) x1))), (qhd, .inl (cI, 30, .inl (k_fi hd ce (ce + i) x2))), (qsf, .inl (cI, 30, .inl (k_fi sf ce (ce + i) x3))), (qpa, .inl (cJ, 30, .inr (.inl (k_beg pa ce (ce + i) x4.toInt64))))] H) eq7) hP
                        have hD := Eq.mp (congrArg (fun zz => va_D A [(mm, .inr (5, [.int (nI ly), .int (nI (ce + i)), .ref qlo, .ref qlk, .ref qhd, .ref qsf, .ref qpr, .ref qpa, .ref qsk, .long co, .long wo, .int (nI dy), .int da, .int db, .int dr, .int (nI mn), .ref qld, .ref qlz, .int (nI rn), .ref qrd, .ref qrv, .ref qhi, .ref qfw, .ref qkp])), (qlo, .inl (cI, 30, .inl zz)), (qlk, .inl (cI, 30, .inl (k_fi lk ce (ce + i) x1))), (qhd, .inl (cI, 30, .inl (k_fi hd ce (ce + i) x2))), (qsf, .inl (cI, 30, .inl (k_fi sf ce (ce + i) x3))), (qpa, .inl (cJ, 30, .inr (.inl (k_beg pa ce (ce + i) x4.toInt64))))]) eq7) hD
                        refine lv_aload_n hx hb dM_layer_129 rfl (lv_at hl 0 rfl) ?_
                        refine va_get (D := (dC, dI)) (ci := 5) (v := .ref qlk) (C := R_M) (T := T_M) (N := 24) hx hb htw in_M hown hK hP 0 rfl rfl 3 (by decide) (htw _ m_360) (fun _ h9 => h9) rfl dM_layer_130 ?_
                        refine lv_aload_n hx hb dM_layer_133 rfl (lv_at hl 0 rfl) ?_
                        refine va_get (D := (dC, dI)) (ci := 5) (v := .int (nI (ce + i))) (C := R_M) (T := T_M) (N := 24) hx hb htw in_M hown hK hP 0 rfl rfl 1 (by decide) (htw _ m_358) (fun _ h9 => h9) rfl dM_layer_134 ?_
                        refine lv_iload_n hx hb dM_layer_137 rfl (lv_at hl 2 rfl) ?_
                        refine xa_iast hx hb hK hP hD hS 2 0 rfl rfl (i := (ce + i)) (by omega) (by decide) dM_layer_138 (fun H locs hP hD hS => ?_)
                        have hP : va_P (dC, dI) vwCl [(mm, .inr (5, [.int (nI ly), .int (nI (ce + i)), .ref qlo, .ref qlk, .ref qhd, .ref qsf, .ref qpr, .ref qpa, .ref qsk, .long co, .long wo, .int (nI dy), .int da, .int db, .int dr, .int (nI mn), .ref qld, .ref qlz, .int (nI rn), .ref qrd, .ref qrv, .ref qhi, .ref qfw, .ref qkp])), (qlo, .inl (cI, 30, .inl (k_fi lof ce (ce + i + 1) (nI ly)))), (qlk, .inl (cI, 30, .inl (upd (k_fi lk ce (ce + i) x1) (ce + i) x1))), (qhd, .inl (cI, 30, .inl (k_fi hd ce (ce + i) x2))), (qsf, .inl (cI, 30, .inl (k_fi sf ce (ce + i) x3))), (qpa, .inl (cJ, 30, .inr (.inl (k_beg pa ce (ce + i) x4.toInt64))))] H := hP
                        have hD : va_D A [(mm, .inr (5, [.int (nI ly), .int (nI (ce + i)), .ref qlo, .ref qlk, .ref qhd, .ref qsf, .ref qpr, .ref qpa, .ref qsk, .long co, .long wo, .int (nI dy), .int da, .int db, .int dr, .int (nI mn), .ref qld, .ref qlz, .int (nI rn), .ref qrd, .ref qrv, .ref qhi, .ref qfw, .ref qkp])), (qlo, .inl (cI, 30, .inl (k_fi lof ce (ce + i + 1) (nI ly)))), (qlk, .inl (cI, 30, .inl (upd (k_fi lk ce (ce + i) x1) (ce + i) x1))), (qhd, .inl (cI, 30, .inl (k_fi hd ce (ce + i) x2))), (qsf, .inl (cI, 30, .inl (k_fi sf ce (ce + i) x3))), (qpa, .inl (cJ, 30, .inr (.inl (k_beg pa ce (ce + i) x4.toInt64))))] := hD
                        have eq8 : (upd (k_fi lk ce (ce + i) x1) (ce + i) x1 : Nat → Int32) = k_fi lk ce (ce + i + 1) x1 := k_fi_s (by omega)
                        have hP := Eq.mp (congrArg (fun zz => va_P (dC, dI) vwCl [(mm, .inr (5, [.int (nI ly), .int (nI (ce + i)), .ref qlo, .ref qlk, .ref qhd, .ref qsf, .ref qpr, .ref qpa, .ref qsk, .long co, .long wo, .int (nI dy), .int da, .int db, .int dr, .int (nI mn), .ref qld, .ref qlz, .int (nI rn), .ref qrd, .ref qrv, .ref qhi, .ref qfw, .ref qkp])), (qlo, .inl (cI, 30, .inl (k_fi lof ce (ce + i + 1) (nI ly)))), (qlk, .inl (cI, 30, .inl zz)), (qhd, .inl (cI, 30, .inl (k_fi hd ce (ce + i) x2))), (qsf, .inl (cI, 30, .inl (k_fi sf ce (ce + i) x3))), (qpa, .inl (cJ, 30, .inr (.inl (k_beg pa ce (ce + i) x4.toInt64))))] H) eq8) hP
                        have hD := Eq.mp (congrArg (fun zz => va_D A [(mm, .inr (5, [.int (nI ly), .int (nI (ce + i)), .ref qlo, .ref qlk, .ref qhd, .ref qsf, .ref qpr, .ref qpa, .ref qsk, .long co, .long wo, .int (nI dy), .int da, .int db, .int dr, .int (nI mn), .ref qld, .ref qlz, .int (nI rn), .ref qrd, .ref qrv, .ref qhi, .ref qfw, .ref qkp])), (qlo, .inl (cI, 30, .inl (k_fi lof ce (ce + i + 1) (nI ly)))), (qlk, .inl (cI, 30, .inl zz)), (qhd, .inl (cI, 30, .inl (k_fi hd ce (ce + i) x2))), (qsf, .inl (cI, 30, .inl (k_fi sf ce (ce + i) x3))), (qpa, .inl (cJ, 30, .inr (.inl (k_beg pa ce (ce + i) x4.toInt64))))]) eq8) hD
                        refine lv_aload_n hx hb dM_layer_139 rfl (lv_at hl 0 rfl) ?_
                        refine va_get (D := (dC, dI)) (ci := 5) (v := .ref qhd) (C := R_M) (T := T_M) (N := 24) hx hb htw in_M hown hK hP 0 rfl rfl 4 (by decide) (htw _ m_361) (fun _ h9 => h9) rfl dM_layer_140 ?_
                        refine lv_aload_n hx hb dM_layer_143 rfl (lv_at hl 0 rfl) ?_
                        refine va_get (D := (dC, dI)) (ci := 5) (v := .int (nI (ce + i))) (C := R_M) (T := T_M) (N := 24) hx hb htw in_M hown hK hP 0 rfl rfl 1 (by decide) (htw _ m_358) (fun _ h9 => h9) rfl dM_layer_144 ?_
                        refine lv_iload_n hx hb dM_layer_147 rfl (lv_at hl 3 rfl) ?_
                        refine xa_iast hx hb hK hP hD hS 3 0 rfl rfl (i := (ce + i)) (by omega) (by decide) dM_layer_148 (fun H locs hP hD hS => ?_)
                        have hP : va_P (dC, dI) vwCl [(mm, .inr (5, [.int (nI ly), .int (nI (ce + i)), .ref qlo, .ref qlk, .ref qhd, .ref qsf, .ref qpr, .ref qpa, .ref qsk, .long co, .long wo, .int (nI dy), .int da, .int db, .int dr, .int (nI mn), .ref qld, .ref qlz, .int (nI rn), .ref qrd, .ref qrv, .ref qhi, .ref qfw, .ref qkp])), (qlo, .inl (cI, 30, .inl (k_fi lof ce (ce + i + 1) (nI ly)))), (qlk, .inl (cI, 30, .inl (k_fi lk ce (ce + i + 1) x1))), (qhd, .inl (cI, 30, .inl (upd (k_fi hd ce (ce + i) x2) (ce + i) x2))), (qsf, .inl (cI, 30, .inl (k_fi sf ce (ce + i) x3))), (qpa, .inl (cJ, 30, .inr (.inl (k_beg pa ce (ce + i) x4.toInt64))))] H := hP
                        have hD : va_D A [(mm, .inr (5, [.int (nI ly), .int (nI (ce + i)), .ref qlo, .ref qlk, .ref qhd, .ref qsf, .ref qpr, .ref qpa, .ref qsk, .long co, .long wo, .int (nI dy), .int da, .int db, .int dr, .int (nI mn), .ref qld, .ref qlz, .int (nI rn), .ref qrd, .ref qrv, .ref qhi, .ref qfw, .ref qkp])), (qlo, .inl (cI, 30, .inl (k_fi lof ce (ce + i + 1) (nI ly)))), (qlk, .inl (cI, 30, .inl (k_fi lk ce (ce + i + 1) x1))), (qhd, .inl (cI, 30, .inl (upd (k_fi hd ce (ce + i) x2) (ce + i) x2))), (qsf, .inl (cI, 30, .inl (k_fi sf ce (ce + i) x3))), (qpa, .inl (cJ, 30, .inr (.inl (k_beg pa ce (ce + i) x4.toInt64))))] := hD
                        have eq9 : (upd (k_fi hd ce (ce + i) x2) (ce + i) x2 : Nat → Int32) = k_fi hd ce (ce + i + 1) x2 := k_fi_s (by omega)
                        have hP := Eq.mp (congrArg (fun zz => va_P (dC, dI) vwCl [(mm, .inr (5, [.int (nI ly), .int (nI (ce + i)), .ref qlo, .ref qlk, .ref qhd, .ref qsf, .ref qpr, .ref qpa, .ref qsk, .long co, .long wo, .int (nI dy), .int da, .int db, .int dr, .int (nI mn), .ref qld, .ref qlz, .int (nI rn), .ref qrd, .ref qrv, .ref qhi, .ref qfw, .ref qkp])), (qlo, .inl (cI, 30, .inl (k_fi lof ce (ce + i + 1) (nI ly)))), (qlk, .inl (cI, 30, .inl (k_fi lk ce (ce + i + 1) x1))), (qhd, .inl (cI, 30, .inl zz)), (qsf, .inl (cI, 30, .inl (k_fi sf ce (ce + i) x3))), (qpa, .inl (cJ, 30, .inr (.inl (k_beg pa ce (ce + i) x4.toInt64))))] H) eq9) hP
                        have hD := Eq.mp (congrArg (fun zz => va_D A [(mm, .inr (5, [.int (nI ly), .int (nI (ce + i)), .ref qlo, .ref qlk, .ref qhd, .ref qsf, .ref qpr, .ref qpa, .ref qsk, .long co, .long wo, .int (nI dy), .int da, .int db, .int dr, .int (nI mn), .ref qld, .ref qlz, .int (nI rn), .ref qrd, .ref qrv, .ref qhi, .ref qfw, .ref qkp])), (qlo, .inl (cI, 30, .inl (k_fi lof ce (ce + i + 1) (nI ly)))), (qlk, .inl (cI, 30, .inl (k_fi lk ce (ce + i + 1) x1))), (qhd, .inl (cI, 30, .inl zz)), (qsf, .inl (cI, 30, .inl (k_fi sf ce (ce + i) x3))), (qpa, .inl (cJ, 30, .inr (.inl (k_beg pa ce (ce + i) x4.toInt64))))]) eq9) hD
                        refine lv_aload_n hx hb dM_layer_149 rfl (lv_at hl 0 rfl) ?_
                        refine va_get (D := (dC, dI)) (ci := 5) (v := .ref qsf) (C := R_M) (T := T_M) (N := 24) hx hb htw in_M hown hK hP 0 rfl rfl 5 (by decide) (htw _ m_362) (fun _ h9 => h9) rfl dM_layer_150 ?_
                        refine lv_aload_n hx hb dM_layer_153 rfl (lv_at hl 0 rfl) ?_
                        refine va_get (D := (dC, dI)) (ci := 5) (v := .int (nI (ce + i))) (C := R_M) (T := T_M) (N := 24) hx hb htw in_M hown hK hP 0 rfl rfl 1 (by decide) (htw _ m_358) (fun _ h9 => h9) rfl dM_layer_154 ?_
                        refine lv_iload hx hb dM_layer_157 (lv_at hl 4 rfl) ?_
                        refine xa_iast hx hb hK hP hD hS 4 0 rfl rfl (i := (ce + i)) (by omega) (by decide) dM_layer_159 (fun H locs hP hD hS => ?_)
                        have hP : va_P (dC, dI) vwCl [(mm, .inr (5, [.int (nI ly), .int (nI (ce + i)), .ref qlo, .ref qlk, .ref qhd, .ref qsf, .ref qpr, .ref qpa, .ref qsk, .long co, .long wo, .int (nI dy), .int da, .int db, .int dr, .int (nI mn), .ref qld, .ref qlz, .int (nI rn), .ref qrd, .ref qrv, .ref qhi, .ref qfw, .ref qkp])), (qlo, .inl (cI, 30, .inl (k_fi lof ce (ce + i + 1) (nI ly)))), (qlk, .inl (cI, 30, .inl (k_fi lk ce (ce + i + 1) x1))), (qhd, .inl (cI, 30, .inl (k_fi hd ce (ce + i + 1) x2))), (qsf, .inl (cI, 30, .inl (upd (k_fi sf ce (ce + i) x3) (ce + i) x3))), (qpa, .inl (cJ, 30, .inr (.inl (k_beg pa ce (ce + i) x4.toInt64))))] H := hP
                        have hD : va_D A [(mm, .inr (5, [.int (nI ly), .int (nI (ce + i)), .ref qlo, .ref qlk, .ref qhd, .ref qsf, .ref qpr, .ref qpa, .ref qsk, .long co, .long wo, .int (nI dy), .int da, .int db, .int dr, .int (nI mn), .ref qld, .ref qlz, .int (nI rn), .ref qrd, .ref qrv, .ref qhi, .ref qfw, .ref qkp])), (qlo, .inl (cI, 30, .inl (k_fi lof ce (ce + i + 1) (nI ly)))), (qlk, .inl (cI, 30, .inl (k_fi lk ce (ce + i + 1) x1))), (qhd, .inl (cI, 30, .inl (k_fi hd ce (ce + i + 1) x2))), (qsf, .inl (cI, 30, .inl (upd (k_fi sf ce (ce + i) x3) (ce + i) x3))), (qpa, .inl (cJ, 30, .inr (.inl (k_beg pa ce (ce + i) x4.toInt64))))] := hD
                        have eq10 : (upd (k_fi sf ce (ce + i) x3) (ce + i) x3 : Nat → Int32) = k_fi sf ce (ce + i + 1) x3 := k_fi_s (by omega)
                        have hP := Eq.mp (congrArg (fun zz => va_P (dC, dI) vwCl [(mm, .inr (5, [.int (nI ly), .int (nI (ce + i)), .ref qlo, .ref qlk, .ref qhd, .ref qsf, .ref qpr, .ref qpa, .ref qsk, .long co, .long wo, .int (nI dy), .int da, .int db, .int dr, .int (nI mn), .ref qld, .ref qlz, .int (nI rn), .ref qrd, .ref qrv, .ref qhi, .ref qfw, .ref qkp])), (qlo, .inl (cI, 30, .inl (k_fi lof ce (ce + i + 1) (nI ly)))), (qlk, .inl (cI, 30, .inl (k_fi lk ce (ce + i + 1) x1))), (qhd, .inl (cI, 30, .inl (k_fi hd ce (ce + i + 1) x2))), (qsf, .inl (cI, 30, .inl zz)), (qpa, .inl (cJ, 30, .inr (.inl (k_beg pa ce (ce + i) x4.toInt64))))] H) eq10) hP
                        have hD := Eq.mp (congrArg (fun zz => va_D A [(mm, .inr (5, [.int (nI ly), .int (nI (ce + i)), .ref qlo, .ref qlk, .ref qhd, .ref qsf, .ref qpr, .ref qpa, .ref qsk, .long co, .long wo, .int (nI dy), .int da, .int db, .int dr, .int (nI mn), .ref qld, .ref qlz, .int (nI rn), .ref qrd, .ref qrv, .ref qhi, .ref qfw, .ref qkp])), (qlo, .inl (cI, 30, .inl (k_fi lof ce (ce + i + 1) (nI ly)))), (qlk, .inl (cI, 30, .inl (k_fi lk ce (ce + i + 1) x1))), (qhd, .inl (cI, 30, .inl (k_fi hd ce (ce + i + 1) x2))), (qsf, .inl (cI, 30, .inl zz)), (qpa, .inl (cJ, 30, .inr (.inl (k_beg pa ce (ce + i) x4.toInt64))))]) eq10) hD
                        refine lv_aload_n hx hb dM_layer_160 rfl (lv_at hl 0 rfl) ?_
                        refine va_get (D := (dC, dI)) (ci := 5) (v := .ref qpa) (C := R_M) (T := T_M) (N := 24) hx hb htw in_M hown hK hP 0 rfl rfl 7 (by decide) (htw _ m_364) (fun _ h9 => h9) rfl dM_layer_161 ?_
                        refine lv_aload_n hx hb dM_layer_164 rfl (lv_at hl 0 rfl) ?_
                        refine va_get (D := (dC, dI)) (ci := 5) (v := .int (nI (ce + i))) (C := R_M) (T := T_M) (N := 24) hx hb htw in_M hown hK hP 0 rfl rfl 1 (by decide) (htw _ m_358) (fun _ h9 => h9) rfl dM_layer_165 ?_
                        refine lv_iload hx hb dM_layer_168 (lv_at hl 5 rfl) ?_
                        refine lv_i2l (v := x4.toInt64) hx hb dM_layer_170 rfl ?_
                        refine xa_last hx hb hK hP hD hS 5 1 rfl rfl (i := (ce + i)) (by omega) (by decide) dM_layer_171 (fun H locs hP hD hS => ?_)
                        have hP : va_P (dC, dI) vwCl [(mm, .inr (5, [.int (nI ly), .int (nI (ce + i)), .ref qlo, .ref qlk, .ref qhd, .ref qsf, .ref qpr, .ref qpa, .ref qsk, .long co, .long wo, .int (nI dy), .int da, .int db, .int dr, .int (nI mn), .ref qld, .ref qlz, .int (nI rn), .ref qrd, .ref qrv, .ref qhi, .ref qfw, .ref qkp])), (qlo, .inl (cI, 30, .inl (k_fi lof ce (ce + i + 1) (nI ly)))), (qlk, .inl (cI, 30, .inl (k_fi lk ce (ce + i + 1) x1))), (qhd, .inl (cI, 30, .inl (k_fi hd ce (ce + i + 1) x2))), (qsf, .inl (cI, 30, .inl (k_fi sf ce (ce + i + 1) x3))), (qpa, .inl (cJ, 30, .inr (.inl (vp_updL (k_beg pa ce (ce + i) x4.toInt64) (ce + i) x4.toInt64))))] H := hP
                        have hD : va_D A [(mm, .inr (5, [.int (nI ly), .int (nI (ce + i)), .ref qlo, .ref qlk, .ref qhd, .ref qsf, .ref qpr, .ref qpa, .ref qsk, .long co, .long wo, .int (nI dy), .int da, .int db, .int dr, .int (nI mn), .ref qld, .ref qlz, .int (nI rn), .ref qrd, .ref qrv, .ref qhi, .ref qfw, .ref qkp])), (qlo, .inl (cI, 30, .inl (k_fi lof ce (ce + i + 1) (nI ly)))), (qlk, .inl (cI, 30, .inl (k_fi lk ce (ce + i + 1) x1))), (qhd, .inl (cI, 30, .inl (k_fi hd ce (ce + i + 1) x2))), (qsf, .inl (cI, 30, .inl (k_fi sf ce (ce + i + 1) x3))), (qpa, .inl (cJ, 30, .inr (.inl (vp_updL (k_beg pa ce (ce + i) x4.toInt64) (ce + i) x4.toInt64))))] := hD
                        have eq11 : (vp_updL (k_beg pa ce (ce + i) x4.toInt64) (ce + i) x4.toInt64 : Nat → Int64) = k_beg pa ce (ce + i + 1) x4.toInt64 := k_beg_s (by omega)
                        have hP := Eq.mp (congrArg (fun zz => va_P (dC, dI) vwCl [(mm, .inr (5, [.int (nI ly), .int (nI (ce + i)), .ref qlo, .ref qlk, .ref qhd, .ref qsf, .ref qpr, .ref qpa, .ref qsk, .long co, .long wo, .int (nI dy), .int da, .int db, .int dr, .int (nI mn), .ref qld, .ref qlz, .int (nI rn), .ref qrd, .ref qrv, .ref qhi, .ref qfw, .ref qkp])), (qlo, .inl (cI, 30, .inl (k_fi lof ce (ce + i + 1) (nI ly)))), (qlk, .inl (cI, 30, .inl (k_fi lk ce (ce + i + 1) x1))), (qhd, .inl (cI, 30, .inl (k_fi hd ce (ce + i + 1) x2))), (qsf, .inl (cI, 30, .inl (k_fi sf ce (ce + i + 1) x3))), (qpa, .inl (cJ, 30, .inr (.inl zz)))] H) eq11) hP
                        have hD := Eq.mp (congrArg (fun zz => va_D A [(mm, .inr (5, [.int (nI ly), .int (nI (ce + i)), .ref qlo, .ref qlk, .ref qhd, .ref qsf, .ref qpr, .ref qpa, .ref qsk, .long co, .long wo, .int (nI dy), .int da, .int db, .int dr, .int (nI mn), .ref qld, .ref qlz, .int (nI rn), .ref qrd, .ref qrv, .ref qhi, .ref qfw, .ref qkp])), (qlo, .inl (cI, 30, .inl (k_fi lof ce (ce + i + 1) (nI ly)))), (qlk, .inl (cI, 30, .inl (k_fi lk ce (ce + i + 1) x1))), (qhd, .inl (cI, 30, .inl (k_fi hd ce (ce + i + 1) x2))), (qsf, .inl (cI, 30, .inl (k_fi sf ce (ce + i + 1) x3))), (qpa, .inl (cJ, 30, .inr (.inl zz)))]) eq11) hD
                        refine lv_aload_n hx hb dM_layer_172 rfl (lv_at hl 0 rfl) ?_
                        refine lv_dup hx hb dM_layer_173 rfl ?_
                        refine va_get (D := (dC, dI)) (ci := 5) (v := .int (nI (ce + i))) (C := R_M) (T := T_M) (N := 24) hx hb htw in_M hown hK hP 0 rfl rfl 1 (by decide) (htw _ m_358) (fun _ h9 => h9) rfl dM_layer_174 ?_
                        refine lv_iconst (v := nI 1) hx hb dM_layer_177 (by decide) ?_
                        refine lv_iadd hx hb dM_layer_178 ?_
                        refine lv_topi (fun kv ekv => ?_)
                        obtain rfl : kv = nI ((ce + i) + 1) := by rw [ekv]; exact nI_add _ _
                        refine va_put (D := (dC, dI)) (ci := 5) (v := .int (nI ((ce + i) + 1))) (ty := .int) (C := R_M) (T := T_M) (N := 24) hx hb htw in_M ty_M tok_M nnm_M hown hK hP hD hS 0 rfl rfl 1 (by decide) (htw _ m_358) (fun _ h9 => h9) rfl (by decide +kernel) rfl rfl (Nat.le_of_ble_eq_true rfl) dM_layer_179 (fun H locs hP hD hS => ?_)
                        have hP : va_P (dC, dI) vwCl [(mm, .inr (5, [.int (nI ly), .int (nI ((ce + i) + 1)), .ref qlo, .ref qlk, .ref qhd, .ref qsf, .ref qpr, .ref qpa, .ref qsk, .long co, .long wo, .int (nI dy), .int da, .int db, .int dr, .int (nI mn), .ref qld, .ref qlz, .int (nI rn), .ref qrd, .ref qrv, .ref qhi, .ref qfw, .ref qkp])), (qlo, .inl (cI, 30, .inl (k_fi lof ce (ce + i + 1) (nI ly)))), (qlk, .inl (cI, 30, .inl (k_fi lk ce (ce + i + 1) x1))), (qhd, .inl (cI, 30, .inl (k_fi hd ce (ce + i + 1) x2))), (qsf, .inl (cI, 30, .inl (k_fi sf ce (ce + i + 1) x3))), (qpa, .inl (cJ, 30, .inr (.inl (k_beg pa ce (ce + i + 1) x4.toInt64))))] H := hP
                        have hD : va_D A [(mm, .inr (5, [.int (nI ly), .int (nI ((ce + i) + 1)), .ref qlo, .ref qlk, .ref qhd, .ref qsf, .ref qpr, .ref qpa, .ref qsk, .long co, .long wo, .int (nI dy), .int da, .int db, .int dr, .int (nI mn), .ref qld, .ref qlz, .int (nI rn), .ref qrd, .ref qrv, .ref qhi, .ref qfw, .ref qkp])), (qlo, .inl (cI, 30, .inl (k_fi lof ce (ce + i + 1) (nI ly)))), (qlk, .inl (cI, 30, .inl (k_fi lk ce (ce + i + 1) x1))), (qhd, .inl (cI, 30, .inl (k_fi hd ce (ce + i + 1) x2))), (qsf, .inl (cI, 30, .inl (k_fi sf ce (ce + i + 1) x3))), (qpa, .inl (cJ, 30, .inr (.inl (k_beg pa ce (ce + i + 1) x4.toInt64))))] := hD
                        refine lv_iinc (v := nI (i + 1)) (lv' := [(7, .int (nI (i + 1))), (0, .ref mm), (1, .int (nI n)), (2, .int x1), (3, .int x2), (4, .int x3), (5, .int x4)]) hx hb dM_layer_182 hl (k := 6) rfl (nI_1 _) (by decide) rfl (fun ls hl => ?_)
                        refine lv_goto (tgt := 110) hx hb dM_layer_185 (by decide) ?_
                        have hP : va_P (dC, dI) vwCl [(mm, .inr (5, [.int (nI ly), .int (nI (ce + (i + 1))), .ref qlo, .ref qlk, .ref qhd, .ref qsf, .ref qpr, .ref qpa, .ref qsk, .long co, .long wo, .int (nI dy), .int da, .int db, .int dr, .int (nI mn), .ref qld, .ref qlz, .int (nI rn), .ref qrd, .ref qrv, .ref qhi, .ref qfw, .ref qkp])), (qlo, .inl (cI, 30, .inl (k_fi lof ce (ce + (i + 1)) (nI ly)))), (qlk, .inl (cI, 30, .inl (k_fi lk ce (ce + (i + 1)) x1))), (qhd, .inl (cI, 30, .inl (k_fi hd ce (ce + (i + 1)) x2))), (qsf, .inl (cI, 30, .inl (k_fi sf ce (ce + (i + 1)) x3))), (qpa, .inl (cJ, 30, .inr (.inl (k_beg pa ce (ce + (i + 1)) x4.toInt64))))] H := by first | exact hP | simpa only [] using hP
                        have hD : va_D A [(mm, .inr (5, [.int (nI ly), .int (nI (ce + (i + 1))), .ref qlo, .ref qlk, .ref qhd, .ref qsf, .ref qpr, .ref qpa, .ref qsk, .long co, .long wo, .int (nI dy), .int da, .int db, .int dr, .int (nI mn), .ref qld, .ref qlz, .int (nI rn), .ref qrd, .ref qrv, .ref qhi, .ref qfw, .ref qkp])), (qlo, .inl (cI, 30, .inl (k_fi lof ce (ce + (i + 1)) (nI ly)))), (qlk, .inl (cI, 30, .inl (k_fi lk ce (ce + (i + 1)) x1))), (qhd, .inl (cI, 30, .inl (k_fi hd ce (ce + (i + 1)) x2))), (qsf, .inl (cI, 30, .inl (k_fi sf ce (ce + (i + 1)) x3))), (qpa, .inl (cJ, 30, .inr (.inl (k_beg pa ce (ce + (i + 1)) x4.toInt64))))] := by first | exact hD | simpa only [] using hD
                        exact ih110 (by omega) _ _ _ ⟨hP, hD, hS, lv_sub hl [1, 2, 3, 4, 5, 6, 0] rfl⟩
                    · -- 102 not taken
                      rw [show (0 : Int32) = nI 0 from rfl, nI_leI (by omega) (by omega)] at hc102
                      exfalso; omega
set_option maxHeartbeats 4000000 in
set_option maxRecDepth 100000 in
theorem kM_layer_bad (l : Launch) (dC : Nat → ClassId) (dI : Nat → Nat → Nat) (cI cJ : ClassId) (mm qlo qlk qhd qsf qpr qpa qsk qld qlz qrd qrv qhi qfw qkp : Nat) (sz : Nat) (x : Int32) (x1 : Int32) (x2 : Int32) (x3 : Int32) (x4 : Int32) (ly : Nat) (ce : Nat) (co : Int64) (wo : Int64) (dy : Nat) (da : Int32) (db : Int32) (dr : Int32) (mn : Nat) (rn : Nat) (lof : Nat → Int32) (lk : Nat → Int32) (hd : Nat → Int32) (sf : Nat → Int32) (pa : Nat → Int64) (hdy : dy ≤ 400) (hmn : mn ≤ 12) (hce : ce ≤ 30) (hbad : ¬ (dy = 0 ∧ mn = 0 ∧ 1 ≤ x.toInt ∧ x.toInt ≤ 10 ∧ x.toInt + ce ≤ 30 ∧ 0 ≤ x1.toInt ∧ x1.toInt ≤ 300 ∧ 0 ≤ x4.toInt ∧ x4.toInt ≤ 1000000 ∧ 0 ≤ x2.toInt ∧ x2.toInt ≤ 1000 ∧ x2.toInt ≤ x3.toInt ∧ x3.toInt ≤ 1000)) : Met l yM_layer wM_layer ({ frames := 1, cells := 0, slots := 0, locals := 25 }) (va_Pc [.ref mm, .int x, .int x1, .int x2, .int x3, .int x4] (fun U => U.heap.size = sz ∧ va_P (dC, dI) vwCl [(mm, .inr (5, [.int (nI ly), .int (nI ce), .ref qlo, .ref qlk, .ref qhd, .ref qsf, .ref qpr, .ref qpa, .ref qsk, .long co, .long wo, .int (nI dy), .int da, .int db, .int dr, .int (nI mn), .ref qld, .ref qlz, .int (nI rn), .ref qrd, .ref qrv, .ref qhi, .ref qfw, .ref qkp])), (qlo, .inl (cI, 30, .inl lof)), (qlk, .inl (cI, 30, .inl lk)), (qhd, .inl (cI, 30, .inl hd)), (qsf, .inl (cI, 30, .inl sf)), (qpa, .inl (cJ, 30, .inr (.inl pa)))] U.heap ∧ va_K (dC, dI) vwCl [(cI, .int), (cJ, .long)] U ∧ va_D (fun _ => True) [(mm, .inr (5, [.int (nI ly), .int (nI ce), .ref qlo, .ref qlk, .ref qhd, .ref qsf, .ref qpr, .ref qpa, .ref qsk, .long co, .long wo, .int (nI dy), .int da, .int db, .int dr, .int (nI mn), .ref qld, .ref qlz, .int (nI rn), .ref qrd, .ref qrv, .ref qhi, .ref qfw, .ref qkp])), (qlo, .inl (cI, 30, .inl lof)), (qlk, .inl (cI, 30, .inl lk)), (qhd, .inl (cI, 30, .inl hd)), (qsf, .inl (cI, 30, .inl sf)), (qpa, .inl (cJ, 30, .inr (.inl pa)))])) (va_Qi (fun res_ (_ : Unit) => res_ = (-1)) (fun _ t => va_P (dC, dI) vwCl [(mm, .inr (5, [.int (nI ly), .int (nI ce), .ref qlo, .ref qlk, .ref qhd, .ref qsf, .ref qpr, .ref qpa, .ref qsk, .long co, .long wo, .int (nI dy), .int da, .int db, .int dr, .int (nI mn), .ref qld, .ref qlz, .int (nI rn), .ref qrd, .ref qrv, .ref qhi, .ref qfw, .ref qkp])), (qlo, .inl (cI, 30, .inl lof)), (qlk, .inl (cI, 30, .inl lk)), (qhd, .inl (cI, 30, .inl hd)), (qsf, .inl (cI, 30, .inl sf)), (qpa, .inl (cJ, 30, .inr (.inl pa)))] t.heap ∧ va_K (dC, dI) vwCl [(cI, .int), (cJ, .long)] t ∧ va_D (va_A [(mm, .inr (5, [.int (nI ly), .int (nI ce), .ref qlo, .ref qlk, .ref qhd, .ref qsf, .ref qpr, .ref qpa, .ref qsk, .long co, .long wo, .int (nI dy), .int da, .int db, .int dr, .int (nI mn), .ref qld, .ref qlz, .int (nI rn), .ref qrd, .ref qrv, .ref qhi, .ref qfw, .ref qkp])), (qlo, .inl (cI, 30, .inl lof)), (qlk, .inl (cI, 30, .inl lk)), (qhd, .inl (cI, 30, .inl hd)), (qsf, .inl (cI, 30, .inl sf)), (qpa, .inl (cJ, 30, .inr (.inl pa)))] sz) [(mm, .inr (5, [.int (nI ly), .int (nI ce), .ref qlo, .ref qlk, .ref qhd, .ref qsf, .ref qpr, .ref qpa, .ref qsk, .long co, .long wo, .int (nI dy), .int da, .int db, .int dr, .int (nI mn), .ref qld, .ref qlz, .int (nI rn), .ref qrd, .ref qrv, .ref qhi, .ref qfw, .ref qkp])), (qlo, .inl (cI, 30, .inl lof)), (qlk, .inl (cI, 30, .inl lk)), (qhd, .inl (cI, 30, .inl hd)), (qsf, .inl (cI, 30, .inl sf)), (qpa, .inl (cJ, 30, .inr (.inl pa)))]) (va_A [(mm, .inr (5, [.int (nI ly), .int (nI ce), .ref qlo, .ref qlk, .ref qhd, .ref qsf, .ref qpr, .ref qpa, .ref qsk, .long co, .long wo, .int (nI dy), .int da, .int db, .int dr, .int (nI mn), .ref qld, .ref qlz, .int (nI rn), .ref qrd, .ref qrv, .ref qhi, .ref qfw, .ref qkp])), (qlo, .inl (cI, 30, .inl lof)), (qlk, .inl (cI, 30, .inl lk)), (qhd, .inl (cI, 30, .inl hd)), (qsf, .inl (cI, 30, .inl sf)), (qpa, .inl (cJ, 30, .inr (.inl pa)))] sz)) 0 0 (va_A [(mm, .inr (5, [.int (nI ly), .int (nI ce), .ref qlo, .ref qlk, .ref qhd, .ref qsf, .ref qpr, .ref qpa, .ref qsk, .long co, .long wo, .int (nI dy), .int da, .int db, .int dr, .int (nI mn), .ref qld, .ref qlz, .int (nI rn), .ref qrd, .ref qrv, .ref qhi, .ref qfw, .ref qkp])), (qlo, .inl (cI, 30, .inl lof)), (qlk, .inl (cI, 30, .inl lk)), (qhd, .inl (cI, 30, .inl hd)), (qsf, .inl (cI, 30, .inl sf)), (qpa, .inl (cJ, 30, .inr (.inl pa)))] sz) := by
  refine Met.ofW (cc := bM_layer) (maxL := 8) (ret := (some .int)) (by decide) rfl ?_
  intro p e s m args below meth c s₁ B hml hv
  obtain ⟨rfl, hsz, hP, hK, hD0⟩ := hv
  have hx := B.exec
  have hb := B.bytes
  have hr := B.returns
  have hts := atoms_spec (ws := wM_layer) B.pre
  have hown : s.vm.findClass R_M = some m.cls := findClass_of_methodNamed B.named
  have htw : ∀ w ∈ WA, w.before _ s = true := fun w h => hts w (List.mem_cons_of_mem _ h)
  clear hts
  have hlocks := B.notSynchronized
  subst hsz
  have hD := hD0.self (sz := s.heap.size)
  generalize hAe : va_A [(mm, .inr (5, [.int (nI ly), .int (nI ce), .ref qlo, .ref qlk, .ref qhd, .ref qsf, .ref qpr, .ref qpa, .ref qsk, .long co, .long wo, .int (nI dy), .int da, .int db, .int dr, .int (nI mn), .ref qld, .ref qlz, .int (nI rn), .ref qrd, .ref qrv, .ref qhi, .ref qfw, .ref qkp])), (qlo, .inl (cI, 30, .inl lof)), (qlk, .inl (cI, 30, .inl lk)), (qhd, .inl (cI, 30, .inl hd)), (qsf, .inl (cI, 30, .inl sf)), (qpa, .inl (cJ, 30, .inr (.inl pa)))] s.heap.size = A at hD ⊢
  have hA : ∀ q : Nat, s.heap.size ≤ q → A q := fun q h => by rw [← hAe]; exact Or.inr h
  clear hAe hD0
  have hS : va_S A s.heap s.heap [] := va_S.rf
  have hP : va_P (dC, dI) vwCl [(mm, .inr (5, [.int (nI ly), .int (nI ce), .ref qlo, .ref qlk, .ref qhd, .ref qsf, .ref qpr, .ref qpa, .ref qsk, .long co, .long wo, .int (nI dy), .int da, .int db, .int dr, .int (nI mn), .ref qld, .ref qlz, .int (nI rn), .ref qrd, .ref qrv, .ref qhi, .ref qfw, .ref qkp])), (qlo, .inl (cI, 30, .inl lof)), (qlk, .inl (cI, 30, .inl lk)), (qhd, .inl (cI, 30, .inl hd)), (qsf, .inl (cI, 30, .inl sf)), (qpa, .inl (cJ, 30, .inr (.inl pa)))] s.heap := hP
  have hl := lv_entry ([.ref mm, .int x, .int x1, .int x2, .int x3, .int x4]) (n := 8) (Nat.le_of_ble_eq_true rfl)
  rw [lg_entry_eq]
  generalize (lg_sl ([.ref mm, .int x, .int x1, .int x2, .int x3, .int x4]) ++ List.replicate (8 - (lg_sl ([.ref mm, .int x, .int x1, .int x2, .int x3, .int x4])).length) Slot.unset).toArray = ls at hl ⊢
  have hl : lv_has ls 8 [(0, .ref mm), (1, .int x), (2, .int x1), (3, .int x2), (4, .int x3), (5, .int x4)] := hl
  refine lv_iload_n hx hb dM_layer_0 rfl (lv_at hl 1 rfl) ?_
  refine lv_i2l (v := x.toInt64) hx hb dM_layer_1 rfl ?_
  refine lv_lconst (v := 1) hx hb dM_layer_2 (by decide) ?_
  refine lv_ldc2 (v := 10) hx hb hown (htw _ m_434) dM_layer_3 ?_
  have hPc := hP.sub (ws' := []) [] rfl
  have hDc := hD.sub (ws' := []) [] (by decide) rfl
  have hFc := va_free (wc := []) hD hS hA [] rfl
  refine va_calli (va_runS (As := [.long x.toInt64, .long 1, .long 10]) (rest := []) ⟨hx, hb, hml, hown, htw⟩ (kM_in l dC dI cI cJ s.heap.size x.toInt64 1 10) (va_cwS 3 htw (ws_good m_435 m_436 m_6 m_437) rfl rfl rfl (by decide +kernel) ⟨Nat.le_of_ble_eq_true rfl, Nat.le_of_ble_eq_true rfl⟩) ⟨fun a U g mk q => by obtain ⟨q0, q1, qP, qK, qD⟩ := q; exact ⟨q0, q1, qP, va_K.moved (u := U) (U := U.calling g mk a) (Vm.Alike.refl U.vm) qK, qD⟩, fun U hU hW => ⟨rfl, by rw [hU], by rw [hU]; exact hPc, va_K.moved hW.alike hK, hDc.weaken (fun _ _ _ _ => trivial)⟩⟩ rfl rfl hl.1 rfl (lv_room (Nat.le_of_ble_eq_true rfl)) dM_layer_6 ⟨Nat.le_of_ble_eq_true rfl, Nat.le_of_ble_eq_true rfl⟩) hS (fun q _ h => hFc q h) hFc (fun res_ u_ t H1 locs ht hvm hw hB hz1 hk1 hS => ?_)
  obtain ⟨hP1, hK1, hD1⟩ := hB
  rw [ht] at hP1
  obtain ⟨hP, hD⟩ := va_join (wr := [(mm, .inr (5, [.int (nI ly), .int (nI ce), .ref qlo, .ref qlk, .ref qhd, .ref qsf, .ref qpr, .ref qpa, .ref qsk, .long co, .long wo, .int (nI dy), .int da, .int db, .int dr, .int (nI mn), .ref qld, .ref qlz, .int (nI rn), .ref qrd, .ref qrv, .ref qhi, .ref qfw, .ref qkp])), (qlo, .inl (cI, 30, .inl lof)), (qlk, .inl (cI, 30, .inl lk)), (qhd, .inl (cI, 30, .inl hd)), (qsf, .inl (cI, 30, .inl sf)), (qpa, .inl (cJ, 30, .inr (.inl pa)))]) (w1 := []) hP hD [] [0, 1, 2, 3, 4, 5] rfl rfl (by decide) (by decide) hk1 hFc hP1 hD1
  generalize H1 = H at hP hS ⊢
  have hP : va_P (dC, dI) vwCl [(mm, .inr (5, [.int (nI ly), .int (nI ce), .ref qlo, .ref qlk, .ref qhd, .ref qsf, .ref qpr, .ref qpa, .ref qsk, .long co, .long wo, .int (nI dy), .int da, .int db, .int dr, .int (nI mn), .ref qld, .ref qlz, .int (nI rn), .ref qrd, .ref qrv, .ref qhi, .ref qfw, .ref qkp])), (qlo, .inl (cI, 30, .inl lof)), (qlk, .inl (cI, 30, .inl lk)), (qhd, .inl (cI, 30, .inl hd)), (qsf, .inl (cI, 30, .inl sf)), (qpa, .inl (cJ, 30, .inr (.inl pa)))] H := hP
  have hD : va_D A [(mm, .inr (5, [.int (nI ly), .int (nI ce), .ref qlo, .ref qlk, .ref qhd, .ref qsf, .ref qpr, .ref qpa, .ref qsk, .long co, .long wo, .int (nI dy), .int da, .int db, .int dr, .int (nI mn), .ref qld, .ref qlz, .int (nI rn), .ref qrd, .ref qrv, .ref qhi, .ref qfw, .ref qkp])), (qlo, .inl (cI, 30, .inl lof)), (qlk, .inl (cI, 30, .inl lk)), (qhd, .inl (cI, 30, .inl hd)), (qsf, .inl (cI, 30, .inl sf)), (qpa, .inl (cJ, 30, .inr (.inl pa)))] := hD
  clear hPc hDc hFc hP1 hD1 hK1 hk1 hz1 hvm ht
  obtain rfl : kb (1 ≤ x.toInt64 ∧ x.toInt64 ≤ 10) = res_ := hw.symm
  refine lv_if_eq (tgt := 72) hx hb dM_layer_9 (by decide) (fun hc9 => ?_) (fun hc9 => ?_)
  · -- 9 taken
    rw [kb_eq0, k_wl, show ((1 : Int64)).toInt = 1 from by decide, show ((10 : Int64)).toInt = 10 from by decide] at hc9
    simp only [Int32.toInt_toInt64] at hc9
    refine lv_iconst (v := nI 0) hx hb dM_layer_72 (by decide) ?_
    refine lv_istore (lv' := [(6, .int (nI 0)), (0, .ref mm), (1, .int x), (2, .int x1), (3, .int x2), (4, .int x3), (5, .int x4)]) hx hb dM_layer_73 hl (by decide) rfl (fun ls hl => ?_)
    refine lv_iload hx hb dM_layer_75 (lv_at hl 0 rfl) ?_
    refine lv_if_eq (tgt := 105) hx hb dM_layer_77 (by decide) (fun hc77 => ?_) (fun hc77 => ?_)
    · -- 77 taken
      rw [show (0 : Int32) = nI 0 from rfl, nI_eq (by omega) (by omega)] at hc77
      refine lv_iconst (v := (-1)) hx hb dM_layer_105 (by decide) ?_
      have hP : va_P (dC, dI) vwCl [(mm, .inr (5, [.int (nI ly), .int (nI ce), .ref qlo, .ref qlk, .ref qhd, .ref qsf, .ref qpr, .ref qpa, .ref qsk, .long co, .long wo, .int (nI dy), .int da, .int db, .int dr, .int (nI mn), .ref qld, .ref qlz, .int (nI rn), .ref qrd, .ref qrv, .ref qhi, .ref qfw, .ref qkp])), (qlo, .inl (cI, 30, .inl lof)), (qlk, .inl (cI, 30, .inl lk)), (qhd, .inl (cI, 30, .inl hd)), (qsf, .inl (cI, 30, .inl sf)), (qpa, .inl (cJ, 30, .inr (.inl pa)))] H := by first | exact hP | simpa only [] using hP
      have hD : va_D A [(mm, .inr (5, [.int (nI ly), .int (nI ce), .ref qlo, .ref qlk, .ref qhd, .ref qsf, .ref qpr, .ref qpa, .ref qsk, .long co, .long wo, .int (nI dy), .int da, .int db, .int dr, .int (nI mn), .ref qld, .ref qlz, .int (nI rn), .ref qrd, .ref qrv, .ref qhi, .ref qfw, .ref qkp])), (qlo, .inl (cI, 30, .inl lof)), (qlk, .inl (cI, 30, .inl lk)), (qhd, .inl (cI, 30, .inl hd)), (qsf, .inl (cI, 30, .inl sf)), (qpa, .inl (cJ, 30, .inr (.inl pa)))] := by first | exact hD | simpa only [] using hD
      exact W.iret (v := (-1)) hx hb hr (fun t ht hW => ⟨⟨(-1), (), rfl, rfl, by rw [ht]; exact hP, va_K.moved hW.alike hK, hD⟩, hS.F ht⟩) hS.2.2 dM_layer_106
    · -- 77 not taken
      rw [show (0 : Int32) = nI 0 from rfl, nI_eq (by omega) (by omega)] at hc77
      exfalso; omega
  · -- 9 not taken
    rw [kb_eq0, k_wl, show ((1 : Int64)).toInt = 1 from by decide, show ((10 : Int64)).toInt = 10 from by decide] at hc9
    simp only [Int32.toInt_toInt64] at hc9
    refine lv_iload_n hx hb dM_layer_12 rfl (lv_at hl 2 rfl) ?_
    refine lv_i2l (v := x1.toInt64) hx hb dM_layer_13 rfl ?_
    refine lv_lconst (v := 0) hx hb dM_layer_14 (by decide) ?_
    refine lv_ldc2 (v := 300) hx hb hown (htw _ m_438) dM_layer_15 ?_
    have hPc := hP.sub (ws' := []) [] rfl
    have hDc := hD.sub (ws' := []) [] (by decide) rfl
    have hFc := va_free (wc := []) hD hS hA [] rfl
    refine va_calli (va_runS (As := [.long x1.toInt64, .long 0, .long 300]) (rest := []) ⟨hx, hb, hml, hown, htw⟩ (kM_in l dC dI cI cJ H.size x1.toInt64 0 300) (va_cwS 3 htw (ws_good m_435 m_436 m_6 m_437) rfl rfl rfl (by decide +kernel) ⟨Nat.le_of_ble_eq_true rfl, Nat.le_of_ble_eq_true rfl⟩) ⟨fun a U g mk q => by obtain ⟨q0, q1, qP, qK, qD⟩ := q; exact ⟨q0, q1, qP, va_K.moved (u := U) (U := U.calling g mk a) (Vm.Alike.refl U.vm) qK, qD⟩, fun U hU hW => ⟨rfl, by rw [hU], by rw [hU]; exact hPc, va_K.moved hW.alike hK, hDc.weaken (fun _ _ _ _ => trivial)⟩⟩ rfl rfl hl.1 rfl (lv_room (Nat.le_of_ble_eq_true rfl)) dM_layer_18 ⟨Nat.le_of_ble_eq_true rfl, Nat.le_of_ble_eq_true rfl⟩) hS (fun q _ h => hFc q h) hFc (fun res_ u_ t H1 locs ht hvm hw hB hz1 hk1 hS => ?_)
    obtain ⟨hP1, hK1, hD1⟩ := hB
    rw [ht] at hP1
    obtain ⟨hP, hD⟩ := va_join (wr := [(mm, .inr (5, [.int (nI ly), .int (nI ce), .ref qlo, .ref qlk, .ref qhd, .ref qsf, .ref qpr, .ref qpa, .ref qsk, .long co, .long wo, .int (nI dy), .int da, .int db, .int dr, .int (nI mn), .ref qld, .ref qlz, .int (nI rn), .ref qrd, .ref qrv, .ref qhi, .ref qfw, .ref qkp])), (qlo, .inl (cI, 30, .inl lof)), (qlk, .inl (cI, 30, .inl lk)), (qhd, .inl (cI, 30, .inl hd)), (qsf, .inl (cI, 30, .inl sf)), (qpa, .inl (cJ, 30, .inr (.inl pa)))]) (w1 := []) hP hD [] [0, 1, 2, 3, 4, 5] rfl rfl (by decide) (by decide) hk1 hFc hP1 hD1
    generalize H1 = H at hP hS ⊢
    have hP : va_P (dC, dI) vwCl [(mm, .inr (5, [.int (nI ly), .int (nI ce), .ref qlo, .ref qlk, .ref qhd, .ref qsf, .ref qpr, .ref qpa, .ref qsk, .long co, .long wo, .int (nI dy), .int da, .int db, .int dr, .int (nI mn), .ref qld, .ref qlz, .int (nI rn), .ref qrd, .ref qrv, .ref qhi, .ref qfw, .ref qkp])), (qlo, .inl (cI, 30, .inl lof)), (qlk, .inl (cI, 30, .inl lk)), (qhd, .inl (cI, 30, .inl hd)), (qsf, .inl (cI, 30, .inl sf)), (qpa, .inl (cJ, 30, .inr (.inl pa)))] H := hP
    have hD : va_D A [(mm, .inr (5, [.int (nI ly), .int (nI ce), .ref qlo, .ref qlk, .ref qhd, .ref qsf, .ref qpr, .ref qpa, .ref qsk, .long co, .long wo, .int (nI dy), .int da, .int db, .int dr, .int (nI mn), .ref qld, .ref qlz, .int (nI rn), .ref qrd, .ref qrv, .ref qhi, .ref qfw, .ref qkp])), (qlo, .inl (cI, 30, .inl lof)), (qlk, .inl (cI, 30, .inl lk)), (qhd, .inl (cI, 30, .inl hd)), (qsf, .inl (cI, 30, .inl sf)), (qpa, .inl (cJ, 30, .inr (.inl pa)))] := hD
    clear hPc hDc hFc hP1 hD1 hK1 hk1 hz1 hvm ht
    obtain rfl : kb (0 ≤ x1.toInt64 ∧ x1.toInt64 ≤ 300) = res_ := hw.symm
    refine lv_if_eq (tgt := 72) hx hb dM_layer_21 (by decide) (fun hc21 => ?_) (fun hc21 => ?_)
    · -- 21 taken
      rw [kb_eq0, k_wl, show ((0 : Int64)).toInt = 0 from by decide, show ((300 : Int64)).toInt = 300 from by decide] at hc21
      simp only [Int32.toInt_toInt64] at hc21
      refine lv_iconst (v := nI 0) hx hb dM_layer_72 (by decide) ?_
      refine lv_istore (lv' := [(6, .int (nI 0)), (0, .ref mm), (1, .int x), (2, .int x1), (3, .int x2), (4, .int x3), (5, .int x4)]) hx hb dM_layer_73 hl (by decide) rfl (fun ls hl => ?_)
      refine lv_iload hx hb dM_layer_75 (lv_at hl 0 rfl) ?_
      refine lv_if_eq (tgt := 105) hx hb dM_layer_77 (by decide) (fun hc77 => ?_) (fun hc77 => ?_)
      · -- 77 taken
        rw [show (0 : Int32) = nI 0 from rfl, nI_eq (by omega) (by omega)] at hc77
        refine lv_iconst (v := (-1)) hx hb dM_layer_105 (by decide) ?_
        have hP : va_P (dC, dI) vwCl [(mm, .inr (5, [.int (nI ly), .int (nI ce), .ref qlo, .ref qlk, .ref qhd, .ref qsf, .ref qpr, .ref qpa, .ref qsk, .long co, .long wo, .int (nI dy), .int da, .int db, .int dr, .int (nI mn), .ref qld, .ref qlz, .int (nI rn), .ref qrd, .ref qrv, .ref qhi, .ref qfw, .ref qkp])), (qlo, .inl (cI, 30, .inl lof)), (qlk, .inl (cI, 30, .inl lk)), (qhd, .inl (cI, 30, .inl hd)), (qsf, .inl (cI, 30, .inl sf)), (qpa, .inl (cJ, 30, .inr (.inl pa)))] H := by first | exact hP | simpa only [] using hP
        have hD : va_D A [(mm, .inr (5, [.int (nI ly), .int (nI ce), .ref qlo, .ref qlk, .ref qhd, .ref qsf, .ref qpr, .ref qpa, .ref qsk, .long co, .long wo, .int (nI dy), .int da, .int db, .int dr, .int (nI mn), .ref qld, .ref qlz, .int (nI rn), .ref qrd, .ref qrv, .ref qhi, .ref qfw, .ref qkp])), (qlo, .inl (cI, 30, .inl lof)), (qlk, .inl (cI, 30, .inl lk)), (qhd, .inl (cI, 30, .inl hd)), (qsf, .inl (cI, 30, .inl sf)), (qpa, .inl (cJ, 30, .inr (.inl pa)))] := by first | exact hD | simpa only [] using hD
        exact W.iret (v := (-1)) hx hb hr (fun t ht hW => ⟨⟨(-1), (), rfl, rfl, by rw [ht]; exact hP, va_K.moved hW.alike hK, hD⟩, hS.F ht⟩) hS.2.2 dM_layer_106
      · -- 77 not taken
        rw [show (0 : Int32) = nI 0 from rfl, nI_eq (by omega) (by omega)] at hc77
        exfalso; omega
    · -- 21 not taken
      rw [kb_eq0, k_wl, show ((0 : Int64)).toInt = 0 from by decide, show ((300 : Int64)).toInt = 300 from by decide] at hc21
      simp only [Int32.toInt_toInt64] at hc21
      refine lv_iload_n hx hb dM_layer_24 rfl (lv_at hl 3 rfl) ?_
      refine lv_i2l (v := x2.toInt64) hx hb dM_layer_25 rfl ?_
      refine lv_lconst (v := 0) hx hb dM_layer_26 (by decide) ?_
      refine lv_ldc2 (v := 1000) hx hb hown (htw _ m_439) dM_layer_27 ?_
      have hPc := hP.sub (ws' := []) [] rfl
      have hDc := hD.sub (ws' := []) [] (by decide) rfl
      have hFc := va_free (wc := []) hD hS hA [] rfl
      refine va_calli (va_runS (As := [.long x2.toInt64, .long 0, .long 1000]) (rest := []) ⟨hx, hb, hml, hown, htw⟩ (kM_in l dC dI cI cJ H.size x2.toInt64 0 1000) (va_cwS 3 htw (ws_good m_435 m_436 m_6 m_437) rfl rfl rfl (by decide +kernel) ⟨Nat.le_of_ble_eq_true rfl, Nat.le_of_ble_eq_true rfl⟩) ⟨fun a U g mk q => by obtain ⟨q0, q1, qP, qK, qD⟩ := q; exact ⟨q0, q1, qP, va_K.moved (u := U) (U := U.calling g mk a) (Vm.Alike.refl U.vm) qK, qD⟩, fun U hU hW => ⟨rfl, by rw [hU], by rw [hU]; exact hPc, va_K.moved hW.alike hK, hDc.weaken (fun _ _ _ _ => trivial)⟩⟩ rfl rfl hl.1 rfl (lv_room (Nat.le_of_ble_eq_true rfl)) dM_layer_30 ⟨Nat.le_of_ble_eq_true rfl, Nat.le_of_ble_eq_true rfl⟩) hS (fun q _ h => hFc q h) hFc (fun res_ u_ t H1 locs ht hvm hw hB hz1 hk1 hS => ?_)
      obtain ⟨hP1, hK1, hD1⟩ := hB
      rw [ht] at hP1
      obtain ⟨hP, hD⟩ := va_join (wr := [(mm, .inr (5, [.int (nI ly), .int (nI ce), .ref qlo, .ref qlk, .ref qhd, .ref qsf, .ref qpr, .ref qpa, .ref qsk, .long co, .long wo, .int (nI dy), .int da, .int db, .int dr, .int (nI mn), .ref qld, .ref qlz, .int (nI rn), .ref qrd, .ref qrv, .ref qhi, .ref qfw, .ref qkp])), (qlo, .inl (cI, 30, .inl lof)), (qlk, .inl (cI, 30, .inl lk)), (qhd, .inl (cI, 30, .inl hd)), (qsf, .inl (cI, 30, .inl sf)), (qpa, .inl (cJ, 30, .inr (.inl pa)))]) (w1 := []) hP hD [] [0, 1, 2, 3, 4, 5] rfl rfl (by decide) (by decide) hk1 hFc hP1 hD1
      generalize H1 = H at hP hS ⊢
      have hP : va_P (dC, dI) vwCl [(mm, .inr (5, [.int (nI ly), .int (nI ce), .ref qlo, .ref qlk, .ref qhd, .ref qsf, .ref qpr, .ref qpa, .ref qsk, .long co, .long wo, .int (nI dy), .int da, .int db, .int dr, .int (nI mn), .ref qld, .ref qlz, .int (nI rn), .ref qrd, .ref qrv, .ref qhi, .ref qfw, .ref qkp])), (qlo, .inl (cI, 30, .inl lof)), (qlk, .inl (cI, 30, .inl lk)), (qhd, .inl (cI, 30, .inl hd)), (qsf, .inl (cI, 30, .inl sf)), (qpa, .inl (cJ, 30, .inr (.inl pa)))] H := hP
      have hD : va_D A [(mm, .inr (5, [.int (nI ly), .int (nI ce), .ref qlo, .ref qlk, .ref qhd, .ref qsf, .ref qpr, .ref qpa, .ref qsk, .long co, .long wo, .int (nI dy), .int da, .int db, .int dr, .int (nI mn), .ref qld, .ref qlz, .int (nI rn), .ref qrd, .ref qrv, .ref qhi, .ref qfw, .ref qkp])), (qlo, .inl (cI, 30, .inl lof)), (qlk, .inl (cI, 30, .inl lk)), (qhd, .inl (cI, 30, .inl hd)), (qsf, .inl (cI, 30, .inl sf)), (qpa, .inl (cJ, 30, .inr (.inl pa)))] := hD
      clear hPc hDc hFc hP1 hD1 hK1 hk1 hz1 hvm ht
      obtain rfl : kb (0 ≤ x2.toInt64 ∧ x2.toInt64 ≤ 1000) = res_ := hw.symm
      refine lv_if_eq (tgt := 72) hx hb dM_layer_33 (by decide) (fun hc33 => ?_) (fun hc33 => ?_)
      · -- 33 taken
        rw [kb_eq0, k_wl, show ((0 : Int64)).toInt = 0 from by decide, show ((1000 : Int64)).toInt = 1000 from by decide] at hc33
        simp only [Int32.toInt_toInt64] at hc33
        refine lv_iconst (v := nI 0) hx hb dM_layer_72 (by decide) ?_
        refine lv_istore (lv' := [(6, .int (nI 0)), (0, .ref mm), (1, .int x), (2, .int x1), (3, .int x2), (4, .int x3), (5, .int x4)]) hx hb dM_layer_73 hl (by decide) rfl (fun ls hl => ?_)
        refine lv_iload hx hb dM_layer_75 (lv_at hl 0 rfl) ?_
        refine lv_if_eq (tgt := 105) hx hb dM_layer_77 (by decide) (fun hc77 => ?_) (fun hc77 => ?_)
        · -- 77 taken
          rw [show (0 : Int32) = nI 0 from rfl, nI_eq (by omega) (by omega)] at hc77
          refine lv_iconst (v := (-1)) hx hb dM_layer_105 (by decide) ?_
          have hP : va_P (dC, dI) vwCl [(mm, .inr (5, [.int (nI ly), .int (nI ce), .ref qlo, .ref qlk, .ref qhd, .ref qsf, .ref qpr, .ref qpa, .ref qsk, .long co, .long wo, .int (nI dy), .int da, .int db, .int dr, .int (nI mn), .ref qld, .ref qlz, .int (nI rn), .ref qrd, .ref qrv, .ref qhi, .ref qfw, .ref qkp])), (qlo, .inl (cI, 30, .inl lof)), (qlk, .inl (cI, 30, .inl lk)), (qhd, .inl (cI, 30, .inl hd)), (qsf, .inl (cI, 30, .inl sf)), (qpa, .inl (cJ, 30, .inr (.inl pa)))] H := by first | exact hP | simpa only [] using hP
          have hD : va_D A [(mm, .inr (5, [.int (nI ly), .int (nI ce), .ref qlo, .ref qlk, .ref qhd, .ref qsf, .ref qpr, .ref qpa, .ref qsk, .long co, .long wo, .int (nI dy), .int da, .int db, .int dr, .int (nI mn), .ref qld, .ref qlz, .int (nI rn), .ref qrd, .ref qrv, .ref qhi, .ref qfw, .ref qkp])), (qlo, .inl (cI, 30, .inl lof)), (qlk, .inl (cI, 30, .inl lk)), (qhd, .inl (cI, 30, .inl hd)), (qsf, .inl (cI, 30, .inl sf)), (qpa, .inl (cJ, 30, .inr (.inl pa)))] := by first | exact hD | simpa only [] using hD
          exact W.iret (v := (-1)) hx hb hr (fun t ht hW => ⟨⟨(-1), (), rfl, rfl, by rw [ht]; exact hP, va_K.moved hW.alike hK, hD⟩, hS.F ht⟩) hS.2.2 dM_layer_106
        · -- 77 not taken
          rw [show (0 : Int32) = nI 0 from rfl, nI_eq (by omega) (by omega)] at hc77
          exfalso; omega
      · -- 33 not taken
        rw [kb_eq0, k_wl, show ((0 : Int64)).toInt = 0 from by decide, show ((1000 : Int64)).toInt = 1000 from by decide] at hc33
        simp only [Int32.toInt_toInt64] at hc33
        refine lv_iload hx hb dM_layer_36 (lv_at hl 4 rfl) ?_
        refine lv_i2l (v := x3.toInt64) hx hb dM_layer_38 rfl ?_
        refine lv_lconst (v := 0) hx hb dM_layer_39 (by decide) ?_
        refine lv_ldc2 (v := 1000) hx hb hown (htw _ m_439) dM_layer_40 ?_
        have hPc := hP.sub (ws' := []) [] rfl
        have hDc := hD.sub (ws' := []) [] (by decide) rfl
        have hFc := va_free (wc := []) hD hS hA [] rfl
        refine va_calli (va_runS (As := [.long x3.toInt64, .long 0, .long 1000]) (rest := []) ⟨hx, hb, hml, hown, htw⟩ (kM_in l dC dI cI cJ H.size x3.toInt64 0 1000) (va_cwS 3 htw (ws_good m_435 m_436 m_6 m_437) rfl rfl rfl (by decide +kernel) ⟨Nat.le_of_ble_eq_true rfl, Nat.le_of_ble_eq_true rfl⟩) ⟨fun a U g mk q => by obtain ⟨q0, q1, qP, qK, qD⟩ := q; exact ⟨q0, q1, qP, va_K.moved (u := U) (U := U.calling g mk a) (Vm.Alike.refl U.vm) qK, qD⟩, fun U hU hW => ⟨rfl, by rw [hU], by rw [hU]; exact hPc, va_K.moved hW.alike hK, hDc.weaken (fun _ _ _ _ => trivial)⟩⟩ rfl rfl hl.1 rfl (lv_room (Nat.le_of_ble_eq_true rfl)) dM_layer_43 ⟨Nat.le_of_ble_eq_true rfl, Nat.le_of_ble_eq_true rfl⟩) hS (fun q _ h => hFc q h) hFc (fun res_ u_ t H1 locs ht hvm hw hB hz1 hk1 hS => ?_)
        obtain ⟨hP1, hK1, hD1⟩ := hB
        rw [ht] at hP1
        obtain ⟨hP, hD⟩ := va_join (wr := [(mm, .inr (5, [.int (nI ly), .int (nI ce), .ref qlo, .ref qlk, .ref qhd, .ref qsf, .ref qpr, .ref qpa, .ref qsk, .long co, .long wo, .int (nI dy), .int da, .int db, .int dr, .int (nI mn), .ref qld, .ref qlz, .int (nI rn), .ref qrd, .ref qrv, .ref qhi, .ref qfw, .ref qkp])), (qlo, .inl (cI, 30, .inl lof)), (qlk, .inl (cI, 30, .inl lk)), (qhd, .inl (cI, 30, .inl hd)), (qsf, .inl (cI, 30, .inl sf)), (qpa, .inl (cJ, 30, .inr (.inl pa)))]) (w1 := []) hP hD [] [0, 1, 2, 3, 4, 5] rfl rfl (by decide) (by decide) hk1 hFc hP1 hD1
        generalize H1 = H at hP hS ⊢
        have hP : va_P (dC, dI) vwCl [(mm, .inr (5, [.int (nI ly), .int (nI ce), .ref qlo, .ref qlk, .ref qhd, .ref qsf, .ref qpr, .ref qpa, .ref qsk, .long co, .long wo, .int (nI dy), .int da, .int db, .int dr, .int (nI mn), .ref qld, .ref qlz, .int (nI rn), .ref qrd, .ref qrv, .ref qhi, .ref qfw, .ref qkp])), (qlo, .inl (cI, 30, .inl lof)), (qlk, .inl (cI, 30, .inl lk)), (qhd, .inl (cI, 30, .inl hd)), (qsf, .inl (cI, 30, .inl sf)), (qpa, .inl (cJ, 30, .inr (.inl pa)))] H := hP
        have hD : va_D A [(mm, .inr (5, [.int (nI ly), .int (nI ce), .ref qlo, .ref qlk, .ref qhd, .ref qsf, .ref qpr, .ref qpa, .ref qsk, .long co, .long wo, .int (nI dy), .int da, .int db, .int dr, .int (nI mn), .ref qld, .ref qlz, .int (nI rn), .ref qrd, .ref qrv, .ref qhi, .ref qfw, .ref qkp])), (qlo, .inl (cI, 30, .inl lof)), (qlk, .inl (cI, 30, .inl lk)), (qhd, .inl (cI, 30, .inl hd)), (qsf, .inl (cI, 30, .inl sf)), (qpa, .inl (cJ, 30, .inr (.inl pa)))] := hD
        clear hPc hDc hFc hP1 hD1 hK1 hk1 hz1 hvm ht
        obtain rfl : kb (0 ≤ x3.toInt64 ∧ x3.toInt64 ≤ 1000) = res_ := hw.symm
        refine lv_if_eq (tgt := 72) hx hb dM_layer_46 (by decide) (fun hc46 => ?_) (fun hc46 => ?_)
        · -- 46 taken
          rw [kb_eq0, k_wl, show ((0 : Int64)).toInt = 0 from by decide, show ((1000 : Int64)).toInt = 1000 from by decide] at hc46
          simp only [Int32.toInt_toInt64] at hc46
          refine lv_iconst (v := nI 0) hx hb dM_layer_72 (by decide) ?_
          refine lv_istore (lv' := [(6, .int (nI 0)), (0, .ref mm), (1, .int x), (2, .int x1), (3, .int x2), (4, .int x3), (5, .int x4)]) hx hb dM_layer_73 hl (by decide) rfl (fun ls hl => ?_)
          refine lv_iload hx hb dM_layer_75 (lv_at hl 0 rfl) ?_
          refine lv_if_eq (tgt := 105) hx hb dM_layer_77 (by decide) (fun hc77 => ?_) (fun hc77 => ?_)
          · -- 77 taken
            rw [show (0 : Int32) = nI 0 from rfl, nI_eq (by omega) (by omega)] at hc77
            refine lv_iconst (v := (-1)) hx hb dM_layer_105 (by decide) ?_
            have hP : va_P (dC, dI) vwCl [(mm, .inr (5, [.int (nI ly), .int (nI ce), .ref qlo, .ref qlk, .ref qhd, .ref qsf, .ref qpr, .ref qpa, .ref qsk, .long co, .long wo, .int (nI dy), .int da, .int db, .int dr, .int (nI mn), .ref qld, .ref qlz, .int (nI rn), .ref qrd, .ref qrv, .ref qhi, .ref qfw, .ref qkp])), (qlo, .inl (cI, 30, .inl lof)), (qlk, .inl (cI, 30, .inl lk)), (qhd, .inl (cI, 30, .inl hd)), (qsf, .inl (cI, 30, .inl sf)), (qpa, .inl (cJ, 30, .inr (.inl pa)))] H := by first | exact hP | simpa only [] using hP
            have hD : va_D A [(mm, .inr (5, [.int (nI ly), .int (nI ce), .ref qlo, .ref qlk, .ref qhd, .ref qsf, .ref qpr, .ref qpa, .ref qsk, .long co, .long wo, .int (nI dy), .int da, .int db, .int dr, .int (nI mn), .ref qld, .ref qlz, .int (nI rn), .ref qrd, .ref qrv, .ref qhi, .ref qfw, .ref qkp])), (qlo, .inl (cI, 30, .inl lof)), (qlk, .inl (cI, 30, .inl lk)), (qhd, .inl (cI, 30, .inl hd)), (qsf, .inl (cI, 30, .inl sf)), (qpa, .inl (cJ, 30, .inr (.inl pa)))] := by first | exact hD | simpa only [] using hD
            exact W.iret (v := (-1)) hx hb hr (fun t ht hW => ⟨⟨(-1), (), rfl, rfl, by rw [ht]; exact hP, va_K.moved hW.alike hK, hD⟩, hS.F ht⟩) hS.2.2 dM_layer_106
          · -- 77 not taken
            rw [show (0 : Int32) = nI 0 from rfl, nI_eq (by omega) (by omega)] at hc77
            exfalso; omega
        · -- 46 not taken
          rw [kb_eq0, k_wl, show ((0 : Int64)).toInt = 0 from by decide, show ((1000 : Int64)).toInt = 1000 from by decide] at hc46
          simp only [Int32.toInt_toInt64] at hc46
          refine lv_iload hx hb dM_layer_49 (lv_at hl 5 rfl) ?_
          refine lv_i2l (v := x4.toInt64) hx hb dM_layer_51 rfl ?_
          refine lv_lconst (v := 0) hx hb dM_layer_52 (by decide) ?_
          refine lv_ldc2 (v := 1000000) hx hb hown (htw _ m_440) dM_layer_53 ?_
          have hPc := hP.sub (ws' := []) [] rfl
          have hDc := hD.sub (ws' := []) [] (by decide) rfl
          have hFc := va_free (wc := []) hD hS hA [] rfl
          refine va_calli (va_runS (As := [.long x4.toInt64, .long 0, .long 1000000]) (rest := []) ⟨hx, hb, hml, hown, htw⟩ (kM_in l dC dI cI cJ H.size x4.toInt64 0 1000000) (va_cwS 3 htw (ws_good m_435 m_436 m_6 m_437) rfl rfl rfl (by decide +kernel) ⟨Nat.le_of_ble_eq_true rfl, Nat.le_of_ble_eq_true rfl⟩) ⟨fun a U g mk q => by obtain ⟨q0, q1, qP, qK, qD⟩ := q; exact ⟨q0, q1, qP, va_K.moved (u := U) (U := U.calling g mk a) (Vm.Alike.refl U.vm) qK, qD⟩, fun U hU hW => ⟨rfl, by rw [hU], by rw [hU]; exact hPc, va_K.moved hW.alike hK, hDc.weaken (fun _ _ _ _ => trivial)⟩⟩ rfl rfl hl.1 rfl (lv_room (Nat.le_of_ble_eq_true rfl)) dM_layer_56 ⟨Nat.le_of_ble_eq_true rfl, Nat.le_of_ble_eq_true rfl⟩) hS (fun q _ h => hFc q h) hFc (fun res_ u_ t H1 locs ht hvm hw hB hz1 hk1 hS => ?_)
          obtain ⟨hP1, hK1, hD1⟩ := hB
          rw [ht] at hP1
          obtain ⟨hP, hD⟩ := va_join (wr := [(mm, .inr (5, [.int (nI ly), .int (nI ce), .ref qlo, .ref qlk, .ref qhd, .ref qsf, .ref qpr, .ref qpa, .ref qsk, .long co, .long wo, .int (nI dy), .int da, .int db, .int dr, .int (nI mn), .ref qld, .ref qlz, .int (nI rn), .ref qrd, .ref qrv, .ref qhi, .ref qfw, .ref qkp])), (qlo, .inl (cI, 30, .inl lof)), (qlk, .inl (cI, 30, .inl lk)), (qhd, .inl (cI, 30, .inl hd)), (qsf, .inl (cI, 30, .inl sf)), (qpa, .inl (cJ, 30, .inr (.inl pa)))]) (w1 := []) hP hD [] [0, 1, 2, 3, 4, 5] rfl rfl (by decide) (by decide) hk1 hFc hP1 hD1
          generalize H1 = H at hP hS ⊢
          have hP : va_P (dC, dI) vwCl [(mm, .inr (5, [.int (nI ly), .int (nI ce), .ref qlo, .ref qlk, .ref qhd, .ref qsf, .ref qpr, .ref qpa, .ref qsk, .long co, .long wo, .int (nI dy), .int da, .int db, .int dr, .int (nI mn), .ref qld, .ref qlz, .int (nI rn), .ref qrd, .ref qrv, .ref qhi, .ref qfw, .ref qkp])), (qlo, .inl (cI, 30, .inl lof)), (qlk, .inl (cI, 30, .inl lk)), (qhd, .inl (cI, 30, .inl hd)), (qsf, .inl (cI, 30, .inl sf)), (qpa, .inl (cJ, 30, .inr (.inl pa)))] H := hP
          have hD : va_D A [(mm, .inr (5, [.int (nI ly), .int (nI ce), .ref qlo, .ref qlk, .ref qhd, .ref qsf, .ref qpr, .ref qpa, .ref qsk, .long co, .long wo, .int (nI dy), .int da, .int db, .int dr, .int (nI mn), .ref qld, .ref qlz, .int (nI rn), .ref qrd, .ref qrv, .ref qhi, .ref qfw, .ref qkp])), (qlo, .inl (cI, 30, .inl lof)), (qlk, .inl (cI, 30, .inl lk)), (qhd, .inl (cI, 30, .inl hd)), (qsf, .inl (cI, 30, .inl sf)), (qpa, .inl (cJ, 30, .inr (.inl pa)))] := hD
          clear hPc hDc hFc hP1 hD1 hK1 hk1 hz1 hvm ht
          obtain rfl : kb (0 ≤ x4.toInt64 ∧ x4.toInt64 ≤ 1000000) = res_ := hw.symm
          refine lv_if_eq (tgt := 72) hx hb dM_layer_59 (by decide) (fun hc59 => ?_) (fun hc59 => ?_)
          · -- 59 taken
            rw [kb_eq0, k_wl, show ((0 : Int64)).toInt = 0 from by decide, show ((1000000 : Int64)).toInt = 1000000 from by decide] at hc59
            simp only [Int32.toInt_toInt64] at hc59
            refine lv_iconst (v := nI 0) hx hb dM_layer_72 (by decide) ?_
            refine lv_istore (lv' := [(6, .int (nI 0)), (0, .ref mm), (1, .int x), (2, .int x1), (3, .int x2), (4, .int x3), (5, .int x4)]) hx hb dM_layer_73 hl (by decide) rfl (fun ls hl => ?_)
            refine lv_iload hx hb dM_layer_75 (lv_at hl 0 rfl) ?_
            refine lv_if_eq (tgt := 105) hx hb dM_layer_77 (by decide) (fun hc77 => ?_) (fun hc77 => ?_)
            · -- 77 taken
              rw [show (0 : Int32) = nI 0 from rfl, nI_eq (by omega) (by omega)] at hc77
              refine lv_iconst (v := (-1)) hx hb dM_layer_105 (by decide) ?_
              have hP : va_P (dC, dI) vwCl [(mm, .inr (5, [.int (nI ly), .int (nI ce), .ref qlo, .ref qlk, .ref qhd, .ref qsf, .ref qpr, .ref qpa, .ref qsk, .long co, .long wo, .int (nI dy), .int da, .int db, .int dr, .int (nI mn), .ref qld, .ref qlz, .int (nI rn), .ref qrd, .ref qrv, .ref qhi, .ref qfw, .ref qkp])), (qlo, .inl (cI, 30, .inl lof)), (qlk, .inl (cI, 30, .inl lk)), (qhd, .inl (cI, 30, .inl hd)), (qsf, .inl (cI, 30, .inl sf)), (qpa, .inl (cJ, 30, .inr (.inl pa)))] H := by first | exact hP | simpa only [] using hP
              have hD : va_D A [(mm, .inr (5, [.int (nI ly), .int (nI ce), .ref qlo, .ref qlk, .ref qhd, .ref qsf, .ref qpr, .ref qpa, .ref qsk, .long co, .long wo, .int (nI dy), .int da, .int db, .int dr, .int (nI mn), .ref qld, .ref qlz, .int (nI rn), .ref qrd, .ref qrv, .ref qhi, .ref qfw, .ref qkp])), (qlo, .inl (cI, 30, .inl lof)), (qlk, .inl (cI, 30, .inl lk)), (qhd, .inl (cI, 30, .inl hd)), (qsf, .inl (cI, 30, .inl sf)), (qpa, .inl (cJ, 30, .inr (.inl pa)))] := by first | exact hD | simpa only [] using hD
              exact W.iret (v := (-1)) hx hb hr (fun t ht hW => ⟨⟨(-1), (), rfl, rfl, by rw [ht]; exact hP, va_K.moved hW.alike hK, hD⟩, hS.F ht⟩) hS.2.2 dM_layer_106
            · -- 77 not taken
              rw [show (0 : Int32) = nI 0 from rfl, nI_eq (by omega) (by omega)] at hc77
              exfalso; omega
          · -- 59 not taken
            rw [kb_eq0, k_wl, show ((0 : Int64)).toInt = 0 from by decide, show ((1000000 : Int64)).toInt = 1000000 from by decide] at hc59
            simp only [Int32.toInt_toInt64] at hc59
            refine lv_iload hx hb dM_layer_62 (lv_at hl 4 rfl) ?_
            refine lv_iload_n hx hb dM_layer_64 rfl (lv_at hl 3 rfl) ?_
            refine lv_icmp_lt (tgt := 72) hx hb dM_layer_65 (by decide) (fun hc65 => ?_) (fun hc65 => ?_)
            · -- 65 taken
              rw [Int32.lt_iff_toInt_lt] at hc65
              refine lv_iconst (v := nI 0) hx hb dM_layer_72 (by decide) ?_
              refine lv_istore (lv' := [(6, .int (nI 0)), (0, .ref mm), (1, .int x), (2, .int x1), (3, .int x2), (4, .int x3), (5, .int x4)]) hx hb dM_layer_73 hl (by decide) rfl (fun ls hl => ?_)
              refine lv_iload hx hb dM_layer_75 (lv_at hl 0 rfl) ?_
              refine lv_if_eq (tgt := 105) hx hb dM_layer_77 (by decide) (fun hc77 => ?_) (fun hc77 => ?_)
              · -- 77 taken
                rw [show (0 : Int32) = nI 0 from rfl, nI_eq (by omega) (by omega)] at hc77
                refine lv_iconst (v := (-1)) hx hb dM_layer_105 (by decide) ?_
                have hP : va_P (dC, dI) vwCl [(mm, .inr (5, [.int (nI ly), .int (nI ce), .ref qlo, .ref qlk, .ref qhd, .ref qsf, .ref qpr, .ref qpa, .ref qsk, .long co, .long wo, .int (nI dy), .int da, .int db, .int dr, .int (nI mn), .ref qld, .ref qlz, .int (nI rn), .ref qrd, .ref qrv, .ref qhi, .ref qfw, .ref qkp])), (qlo, .inl (cI, 30, .inl lof)), (qlk, .inl (cI, 30, .inl lk)), (qhd, .inl (cI, 30, .inl hd)), (qsf, .inl (cI, 30, .inl sf)), (qpa, .inl (cJ, 30, .inr (.inl pa)))] H := by first | exact hP | simpa only [] using hP
                have hD : va_D A [(mm, .inr (5, [.int (nI ly), .int (nI ce), .ref qlo, .ref qlk, .ref qhd, .ref qsf, .ref qpr, .ref qpa, .ref qsk, .long co, .long wo, .int (nI dy), .int da, .int db, .int dr, .int (nI mn), .ref qld, .ref qlz, .int (nI rn), .ref qrd, .ref qrv, .ref qhi, .ref qfw, .ref qkp])), (qlo, .inl (cI, 30, .inl lof)), (qlk, .inl (cI, 30, .inl lk)), (qhd, .inl (cI, 30, .inl hd)), (qsf, .inl (cI, 30, .inl sf)), (qpa, .inl (cJ, 30, .inr (.inl pa)))] := by first | exact hD | simpa only [] using hD
                exact W.iret (v := (-1)) hx hb hr (fun t ht hW => ⟨⟨(-1), (), rfl, rfl, by rw [ht]; exact hP, va_K.moved hW.alike hK, hD⟩, hS.F ht⟩) hS.2.2 dM_layer_106
              · -- 77 not taken
                rw [show (0 : Int32) = nI 0 from rfl, nI_eq (by omega) (by omega)] at hc77
                exfalso; omega
            · -- 65 not taken
              rw [Int32.lt_iff_toInt_lt] at hc65
              refine lv_iconst (v := nI 1) hx hb dM_layer_68 (by decide) ?_
              refine lv_goto (tgt := 73) hx hb dM_layer_69 (by decide) ?_
              refine lv_istore (lv' := [(6, .int (nI 1)), (0, .ref mm), (1, .int x), (2, .int x1), (3, .int x2), (4, .int x3), (5, .int x4)]) hx hb dM_layer_73 hl (by decide) rfl (fun ls hl => ?_)
              refine lv_iload hx hb dM_layer_75 (lv_at hl 0 rfl) ?_
              refine lv_if_eq (tgt := 105) hx hb dM_layer_77 (by decide) (fun hc77 => ?_) (fun hc77 => ?_)
              · -- 77 taken
                rw [show (0 : Int32) = nI 0 from rfl, nI_eq (by omega) (by omega)] at hc77
                exfalso; omega
              · -- 77 not taken
                rw [show (0 : Int32) = nI 0 from rfl, nI_eq (by omega) (by omega)] at hc77
                refine lv_aload_n hx hb dM_layer_80 rfl (lv_at hl 1 rfl) ?_
                refine va_get (D := (dC, dI)) (ci := 5) (v := .int (nI ce)) (C := R_M) (T := T_M) (N := 24) hx hb htw in_M hown hK hP 0 rfl rfl 1 (by decide) (htw _ m_358) (fun _ h9 => h9) rfl dM_layer_81 ?_
                refine lv_iload_n hx hb dM_layer_84 rfl (lv_at hl 2 rfl) ?_
                refine lv_iadd hx hb dM_layer_85 ?_
                have hadd : (nI ce + x).toInt = (ce : Int) + x.toInt := k_addT (by omega) (by omega) (by omega)
                refine lv_bipush (v := nI 30) hx hb dM_layer_86 (by decide) ?_
                refine lv_icmp_gt (tgt := 105) hx hb dM_layer_88 (by decide) (fun hc88 => ?_) (fun hc88 => ?_)
                · -- 88 taken
                  rw [Int32.lt_iff_toInt_lt, nI_toInt (n := 30) (by omega)] at hc88
                  refine lv_iconst (v := (-1)) hx hb dM_layer_105 (by decide) ?_
                  have hP : va_P (dC, dI) vwCl [(mm, .inr (5, [.int (nI ly), .int (nI ce), .ref qlo, .ref qlk, .ref qhd, .ref qsf, .ref qpr, .ref qpa, .ref qsk, .long co, .long wo, .int (nI dy), .int da, .int db, .int dr, .int (nI mn), .ref qld, .ref qlz, .int (nI rn), .ref qrd, .ref qrv, .ref qhi, .ref qfw, .ref qkp])), (qlo, .inl (cI, 30, .inl lof)), (qlk, .inl (cI, 30, .inl lk)), (qhd, .inl (cI, 30, .inl hd)), (qsf, .inl (cI, 30, .inl sf)), (qpa, .inl (cJ, 30, .inr (.inl pa)))] H := by first | exact hP | simpa only [] using hP
                  have hD : va_D A [(mm, .inr (5, [.int (nI ly), .int (nI ce), .ref qlo, .ref qlk, .ref qhd, .ref qsf, .ref qpr, .ref qpa, .ref qsk, .long co, .long wo, .int (nI dy), .int da, .int db, .int dr, .int (nI mn), .ref qld, .ref qlz, .int (nI rn), .ref qrd, .ref qrv, .ref qhi, .ref qfw, .ref qkp])), (qlo, .inl (cI, 30, .inl lof)), (qlk, .inl (cI, 30, .inl lk)), (qhd, .inl (cI, 30, .inl hd)), (qsf, .inl (cI, 30, .inl sf)), (qpa, .inl (cJ, 30, .inr (.inl pa)))] := by first | exact hD | simpa only [] using hD
                  exact W.iret (v := (-1)) hx hb hr (fun t ht hW => ⟨⟨(-1), (), rfl, rfl, by rw [ht]; exact hP, va_K.moved hW.alike hK, hD⟩, hS.F ht⟩) hS.2.2 dM_layer_106
                · -- 88 not taken
                  rw [Int32.lt_iff_toInt_lt, nI_toInt (n := 30) (by omega)] at hc88
                  refine lv_aload_n hx hb dM_layer_91 rfl (lv_at hl 1 rfl) ?_
                  refine va_get (D := (dC, dI)) (ci := 5) (v := .int (nI dy)) (C := R_M) (T := T_M) (N := 24) hx hb htw in_M hown hK hP 0 rfl rfl 11 (by decide) (htw _ m_368) (fun _ h9 => h9) rfl dM_layer_92 ?_
                  refine lv_if_gt (tgt := 105) hx hb dM_layer_95 (by decide) (fun hc95 => ?_) (fun hc95 => ?_)
                  · -- 95 taken
                    rw [show (0 : Int32) = nI 0 from rfl, nI_ltI (by omega) (by omega)] at hc95
                    refine lv_iconst (v := (-1)) hx hb dM_layer_105 (by decide) ?_
                    have hP : va_P (dC, dI) vwCl [(mm, .inr (5, [.int (nI ly), .int (nI ce), .ref qlo, .ref qlk, .ref qhd, .ref qsf, .ref qpr, .ref qpa, .ref qsk, .long co, .long wo, .int (nI dy), .int da, .int db, .int dr, .int (nI mn), .ref qld, .ref qlz, .int (nI rn), .ref qrd, .ref qrv, .ref qhi, .ref qfw, .ref qkp])), (qlo, .inl (cI, 30, .inl lof)), (qlk, .inl (cI, 30, .inl lk)), (qhd, .inl (cI, 30, .inl hd)), (qsf, .inl (cI, 30, .inl sf)), (qpa, .inl (cJ, 30, .inr (.inl pa)))] H := by first | exact hP | simpa only [] using hP
                    have hD : va_D A [(mm, .inr (5, [.int (nI ly), .int (nI ce), .ref qlo, .ref qlk, .ref qhd, .ref qsf, .ref qpr, .ref qpa, .ref qsk, .long co, .long wo, .int (nI dy), .int da, .int db, .int dr, .int (nI mn), .ref qld, .ref qlz, .int (nI rn), .ref qrd, .ref qrv, .ref qhi, .ref qfw, .ref qkp])), (qlo, .inl (cI, 30, .inl lof)), (qlk, .inl (cI, 30, .inl lk)), (qhd, .inl (cI, 30, .inl hd)), (qsf, .inl (cI, 30, .inl sf)), (qpa, .inl (cJ, 30, .inr (.inl pa)))] := by first | exact hD | simpa only [] using hD
                    exact W.iret (v := (-1)) hx hb hr (fun t ht hW => ⟨⟨(-1), (), rfl, rfl, by rw [ht]; exact hP, va_K.moved hW.alike hK, hD⟩, hS.F ht⟩) hS.2.2 dM_layer_106
                  · -- 95 not taken
                    rw [show (0 : Int32) = nI 0 from rfl, nI_ltI (by omega) (by omega)] at hc95
                    refine lv_aload_n hx hb dM_layer_98 rfl (lv_at hl 1 rfl) ?_
                    refine va_get (D := (dC, dI)) (ci := 5) (v := .int (nI mn)) (C := R_M) (T := T_M) (N := 24) hx hb htw in_M hown hK hP 0 rfl rfl 15 (by decide) (htw _ m_372) (fun _ h9 => h9) rfl dM_layer_99 ?_
                    refine lv_if_le (tgt := 107) hx hb dM_layer_102 (by decide) (fun hc102 => ?_) (fun hc102 => ?_)
                    · -- 102 taken
                      rw [show (0 : Int32) = nI 0 from rfl, nI_leI (by omega) (by omega)] at hc102
                      exfalso; omega
                    · -- 102 not taken
                      rw [show (0 : Int32) = nI 0 from rfl, nI_leI (by omega) (by omega)] at hc102
                      refine lv_iconst (v := (-1)) hx hb dM_layer_105 (by decide) ?_
                      have hP : va_P (dC, dI) vwCl [(mm, .inr (5, [.int (nI ly), .int (nI ce), .ref qlo, .ref qlk, .ref qhd, .ref qsf, .ref qpr, .ref qpa, .ref qsk, .long co, .long wo, .int (nI dy), .int da, .int db, .int dr, .int (nI mn), .ref qld, .ref qlz, .int (nI rn), .ref qrd, .ref qrv, .ref qhi, .ref qfw, .ref qkp])), (qlo, .inl (cI, 30, .inl lof)), (qlk, .inl (cI, 30, .inl lk)), (qhd, .inl (cI, 30, .inl hd)), (qsf, .inl (cI, 30, .inl sf)), (qpa, .inl (cJ, 30, .inr (.inl pa)))] H := by first | exact hP | simpa only [] using hP
                      have hD : va_D A [(mm, .inr (5, [.int (nI ly), .int (nI ce), .ref qlo, .ref qlk, .ref qhd, .ref qsf, .ref qpr, .ref qpa, .ref qsk, .long co, .long wo, .int (nI dy), .int da, .int db, .int dr, .int (nI mn), .ref qld, .ref qlz, .int (nI rn), .ref qrd, .ref qrv, .ref qhi, .ref qfw, .ref qkp])), (qlo, .inl (cI, 30, .inl lof)), (qlk, .inl (cI, 30, .inl lk)), (qhd, .inl (cI, 30, .inl hd)), (qsf, .inl (cI, 30, .inl sf)), (qpa, .inl (cJ, 30, .inr (.inl pa)))] := by first | exact hD | simpa only [] using hD
                      exact W.iret (v := (-1)) hx hb hr (fun t ht hW => ⟨⟨(-1), (), rfl, rfl, by rw [ht]; exact hP, va_K.moved hW.alike hK, hD⟩, hS.F ht⟩) hS.2.2 dM_layer_106
