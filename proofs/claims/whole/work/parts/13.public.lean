set_option maxHeartbeats 4000000 in
set_option maxRecDepth 100000 in
theorem kX_out (l : Launch) (dC : Nat → ClassId) (dI : Nat → Nat → Nat) (cI cJ : ClassId) (xx so lo rg g g2 qmi qpr qpa : Nat) (sz : Nat) (dy : Nat) (co : Int64) (wo : Int64) : Met l yX_out wX_out ({ frames := 0, cells := 0, slots := 0, locals := 0 }) (va_Pc [.ref xx] (fun U => U.heap.size = sz ∧ va_P (dC, dI) vwCl [(xx, .inr (4, [.ref so, .ref lo, .ref rg, .ref g, .ref g2, .ref qmi])), (g, .inr (0, [.ref so, .ref lo, .ref qpr, .ref qpa, .int (nI dy), .long co, .long wo]))] U.heap ∧ va_K (dC, dI) vwCl [(cI, .int), (cJ, .long)] U ∧ va_D (fun _ => True) [(xx, .inr (4, [.ref so, .ref lo, .ref rg, .ref g, .ref g2, .ref qmi])), (g, .inr (0, [.ref so, .ref lo, .ref qpr, .ref qpa, .int (nI dy), .long co, .long wo]))])) (va_Ql (fun res_ (_ : Unit) => res_ = wo) (fun _ t => va_P (dC, dI) vwCl [(xx, .inr (4, [.ref so, .ref lo, .ref rg, .ref g, .ref g2, .ref qmi])), (g, .inr (0, [.ref so, .ref lo, .ref qpr, .ref qpa, .int (nI dy), .long co, .long wo]))] t.heap ∧ va_K (dC, dI) vwCl [(cI, .int), (cJ, .long)] t ∧ va_D (va_A [(xx, .inr (4, [.ref so, .ref lo, .ref rg, .ref g, .ref g2, .ref qmi])), (g, .inr (0, [.ref so, .ref lo, .ref qpr, .ref qpa, .int (nI dy), .long co, .long wo]))] sz) [(xx, .inr (4, [.ref so, .ref lo, .ref rg, .ref g, .ref g2, .ref qmi])), (g, .inr (0, [.ref so, .ref lo, .ref qpr, .ref qpa, .int (nI dy), .long co, .long wo]))]) (va_A [(xx, .inr (4, [.ref so, .ref lo, .ref rg, .ref g, .ref g2, .ref qmi])), (g, .inr (0, [.ref so, .ref lo, .ref qpr, .ref qpa, .int (nI dy), .long co, .long wo]))] sz)) 0 0 (va_A [(xx, .inr (4, [.ref so, .ref lo, .ref rg, .ref g, .ref g2, .ref qmi])), (g, .inr (0, [.ref so, .ref lo, .ref qpr, .ref qpa, .int (nI dy), .long co, .long wo]))] sz) := by
  refine Met.ofW (cc := bX_out) (maxL := 1) (ret := (some .long)) (by decide) rfl ?_
  intro p e s m args below meth c s₁ B hml hv
  obtain ⟨rfl, hsz, hP, hK, hD0⟩ := hv
  have hx := B.exec
  have hb := B.bytes
  have hr := B.returns
  have hts := atoms_spec (ws := wX_out) B.pre
  have hown : s.vm.findClass R_X = some m.cls := findClass_of_methodNamed B.named
  have htw : ∀ w ∈ WA, w.before _ s = true := fun w h => hts w (List.mem_cons_of_mem _ h)
  clear hts
  have hlocks := B.notSynchronized
  subst hsz
  have hD := hD0.self (sz := s.heap.size)
  generalize hAe : va_A [(xx, .inr (4, [.ref so, .ref lo, .ref rg, .ref g, .ref g2, .ref qmi])), (g, .inr (0, [.ref so, .ref lo, .ref qpr, .ref qpa, .int (nI dy), .long co, .long wo]))] s.heap.size = A at hD ⊢
  have hA : ∀ q : Nat, s.heap.size ≤ q → A q := fun q h => by rw [← hAe]; exact Or.inr h
  clear hAe hD0
  have hS : va_S A s.heap s.heap [] := va_S.rf
  have hP : va_P (dC, dI) vwCl [(xx, .inr (4, [.ref so, .ref lo, .ref rg, .ref g, .ref g2, .ref qmi])), (g, .inr (0, [.ref so, .ref lo, .ref qpr, .ref qpa, .int (nI dy), .long co, .long wo]))] s.heap := hP
  have hl := lv_entry ([.ref xx]) (n := 1) (Nat.le_of_ble_eq_true rfl)
  rw [lg_entry_eq]
  generalize (lg_sl ([.ref xx]) ++ List.replicate (1 - (lg_sl ([.ref xx])).length) Slot.unset).toArray = ls at hl ⊢
  have hl : lv_has ls 1 [(0, .ref xx)] := hl
  refine lv_aload_n hx hb dX_out_0 rfl (lv_at hl 0 rfl) ?_
  refine va_get (D := (dC, dI)) (ci := 4) (v := .ref g) (C := R_X) (T := T_X) (N := 6) hx hb htw in_X hown hK hP 0 rfl rfl 3 (by decide) (htw _ m_144) (fun _ h9 => h9) rfl dX_out_1 ?_
  refine va_get (D := (dC, dI)) (ci := 0) (v := .long wo) (C := R_G) (T := T_G) (N := 7) hx hb htw in_G hown hK hP 1 rfl rfl 6 (by decide) (htw _ m_125) (fun _ h9 => h9) rfl dX_out_4 ?_
  have hP : va_P (dC, dI) vwCl [(xx, .inr (4, [.ref so, .ref lo, .ref rg, .ref g, .ref g2, .ref qmi])), (g, .inr (0, [.ref so, .ref lo, .ref qpr, .ref qpa, .int (nI dy), .long co, .long wo]))] s.heap := by first | exact hP | simpa only [] using hP
  have hD : va_D A [(xx, .inr (4, [.ref so, .ref lo, .ref rg, .ref g, .ref g2, .ref qmi])), (g, .inr (0, [.ref so, .ref lo, .ref qpr, .ref qpa, .int (nI dy), .long co, .long wo]))] := by first | exact hD | simpa only [] using hD
  exact W.lret (v := wo) hx hb hr (fun t ht hW => ⟨⟨wo, (), rfl, rfl, by rw [ht]; exact hP, va_K.moved hW.alike hK, hD⟩, hS.F ht⟩) hS.2.2 dX_out_7
set_option maxHeartbeats 4000000 in
set_option maxRecDepth 100000 in
theorem kX_end (l : Launch) (dC : Nat → ClassId) (dI : Nat → Nat → Nat) (cI cJ : ClassId) (xx so lo rg g g2 qmi qpr qpa qlk qln qhd qsf qfp qfc qld qlz : Nat) (sz : Nat) (dy : Nat) (co : Int64) (wo : Int64) (pa : Nat → Int64) (ly : Nat) (ce : Nat) (da : Int32) (db : Int32) (dr : Int32) (hd : Nat → Int32) (sf : Nat → Int32) (fp : Nat → Int32) (mn : Nat) (sm : Int64) (hce : ce ≤ 30) : Met l yX_end wX_end ({ frames := 2, cells := 0, slots := 0, locals := 48 }) (va_Pc [.ref xx] (fun U => U.heap.size = sz ∧ va_P (dC, dI) vwCl [(xx, .inr (4, [.ref so, .ref lo, .ref rg, .ref g, .ref g2, .ref qmi])), (g, .inr (0, [.ref so, .ref lo, .ref qpr, .ref qpa, .int (nI dy), .long co, .long wo])), (qpa, .inl (cJ, 30, .inr (.inl pa))), (so, .inr (3, [.ref qlk, .ref qln, .ref qhd, .ref qsf, .ref qfp, .ref qfc, .int (nI ly), .int (nI ce), .int da, .int db, .int dr])), (qhd, .inl (cI, 30, .inl hd)), (qsf, .inl (cI, 30, .inl sf)), (qfp, .inl (cI, 30, .inl fp)), (lo, .inr (1, [.ref qld, .ref qlz, .int (nI mn), .long sm]))] U.heap ∧ va_K (dC, dI) vwCl [(cI, .int), (cJ, .long)] U ∧ va_D (fun _ => True) [(xx, .inr (4, [.ref so, .ref lo, .ref rg, .ref g, .ref g2, .ref qmi])), (g, .inr (0, [.ref so, .ref lo, .ref qpr, .ref qpa, .int (nI dy), .long co, .long wo])), (qpa, .inl (cJ, 30, .inr (.inl pa))), (so, .inr (3, [.ref qlk, .ref qln, .ref qhd, .ref qsf, .ref qfp, .ref qfc, .int (nI ly), .int (nI ce), .int da, .int db, .int dr])), (qhd, .inl (cI, 30, .inl hd)), (qsf, .inl (cI, 30, .inl sf)), (qfp, .inl (cI, 30, .inl fp)), (lo, .inr (1, [.ref qld, .ref qlz, .int (nI mn), .long sm]))])) (va_Ql (fun res_ (_ : Unit) => res_ = k_end hd sf fp sm pa ce / 1000) (fun _ t => va_P (dC, dI) vwCl [(xx, .inr (4, [.ref so, .ref lo, .ref rg, .ref g, .ref g2, .ref qmi])), (g, .inr (0, [.ref so, .ref lo, .ref qpr, .ref qpa, .int (nI dy), .long co, .long wo])), (qpa, .inl (cJ, 30, .inr (.inl pa))), (so, .inr (3, [.ref qlk, .ref qln, .ref qhd, .ref qsf, .ref qfp, .ref qfc, .int (nI ly), .int (nI ce), .int da, .int db, .int dr])), (qhd, .inl (cI, 30, .inl hd)), (qsf, .inl (cI, 30, .inl sf)), (qfp, .inl (cI, 30, .inl fp)), (lo, .inr (1, [.ref qld, .ref qlz, .int (nI mn), .long sm]))] t.heap ∧ va_K (dC, dI) vwCl [(cI, .int), (cJ, .long)] t ∧ va_D (va_A [(xx, .inr (4, [.ref so, .ref lo, .ref rg, .ref g, .ref g2, .ref qmi])), (g, .inr (0, [.ref so, .ref lo, .ref qpr, .ref qpa, .int (nI dy), .long co, .long wo])), (qpa, .inl (cJ, 30, .inr (.inl pa))), (so, .inr (3, [.ref qlk, .ref qln, .ref qhd, .ref qsf, .ref qfp, .ref qfc, .int (nI ly), .int (nI ce), .int da, .int db, .int dr])), (qhd, .inl (cI, 30, .inl hd)), (qsf, .inl (cI, 30, .inl sf)), (qfp, .inl (cI, 30, .inl fp)), (lo, .inr (1, [.ref qld, .ref qlz, .int (nI mn), .long sm]))] sz) [(xx, .inr (4, [.ref so, .ref lo, .ref rg, .ref g, .ref g2, .ref qmi])), (g, .inr (0, [.ref so, .ref lo, .ref qpr, .ref qpa, .int (nI dy), .long co, .long wo])), (qpa, .inl (cJ, 30, .inr (.inl pa))), (so, .inr (3, [.ref qlk, .ref qln, .ref qhd, .ref qsf, .ref qfp, .ref qfc, .int (nI ly), .int (nI ce), .int da, .int db, .int dr])), (qhd, .inl (cI, 30, .inl hd)), (qsf, .inl (cI, 30, .inl sf)), (qfp, .inl (cI, 30, .inl fp)), (lo, .inr (1, [.ref qld, .ref qlz, .int (nI mn), .long sm]))]) (va_A [(xx, .inr (4, [.ref so, .ref lo, .ref rg, .ref g, .ref g2, .ref qmi])), (g, .inr (0, [.ref so, .ref lo, .ref qpr, .ref qpa, .int (nI dy), .long co, .long wo])), (qpa, .inl (cJ, 30, .inr (.inl pa))), (so, .inr (3, [.ref qlk, .ref qln, .ref qhd, .ref qsf, .ref qfp, .ref qfc, .int (nI ly), .int (nI ce), .int da, .int db, .int dr])), (qhd, .inl (cI, 30, .inl hd)), (qsf, .inl (cI, 30, .inl sf)), (qfp, .inl (cI, 30, .inl fp)), (lo, .inr (1, [.ref qld, .ref qlz, .int (nI mn), .long sm]))] sz)) 0 0 (va_A [(xx, .inr (4, [.ref so, .ref lo, .ref rg, .ref g, .ref g2, .ref qmi])), (g, .inr (0, [.ref so, .ref lo, .ref qpr, .ref qpa, .int (nI dy), .long co, .long wo])), (qpa, .inl (cJ, 30, .inr (.inl pa))), (so, .inr (3, [.ref qlk, .ref qln, .ref qhd, .ref qsf, .ref qfp, .ref qfc, .int (nI ly), .int (nI ce), .int da, .int db, .int dr])), (qhd, .inl (cI, 30, .inl hd)), (qsf, .inl (cI, 30, .inl sf)), (qfp, .inl (cI, 30, .inl fp)), (lo, .inr (1, [.ref qld, .ref qlz, .int (nI mn), .long sm]))] sz) := by
  refine Met.ofW (cc := bX_end) (maxL := 1) (ret := (some .long)) (by decide) rfl ?_
  intro p e s m args below meth c s₁ B hml hv
  obtain ⟨rfl, hsz, hP, hK, hD0⟩ := hv
  have hx := B.exec
  have hb := B.bytes
  have hr := B.returns
  have hts := atoms_spec (ws := wX_end) B.pre
  have hown : s.vm.findClass R_X = some m.cls := findClass_of_methodNamed B.named
  have htw : ∀ w ∈ WA, w.before _ s = true := fun w h => hts w (List.mem_cons_of_mem _ h)
  clear hts
  have hlocks := B.notSynchronized
  subst hsz
  have hD := hD0.self (sz := s.heap.size)
  generalize hAe : va_A [(xx, .inr (4, [.ref so, .ref lo, .ref rg, .ref g, .ref g2, .ref qmi])), (g, .inr (0, [.ref so, .ref lo, .ref qpr, .ref qpa, .int (nI dy), .long co, .long wo])), (qpa, .inl (cJ, 30, .inr (.inl pa))), (so, .inr (3, [.ref qlk, .ref qln, .ref qhd, .ref qsf, .ref qfp, .ref qfc, .int (nI ly), .int (nI ce), .int da, .int db, .int dr])), (qhd, .inl (cI, 30, .inl hd)), (qsf, .inl (cI, 30, .inl sf)), (qfp, .inl (cI, 30, .inl fp)), (lo, .inr (1, [.ref qld, .ref qlz, .int (nI mn), .long sm]))] s.heap.size = A at hD ⊢
  have hA : ∀ q : Nat, s.heap.size ≤ q → A q := fun q h => by rw [← hAe]; exact Or.inr h
  clear hAe hD0
  have hS : va_S A s.heap s.heap [] := va_S.rf
  have hP : va_P (dC, dI) vwCl [(xx, .inr (4, [.ref so, .ref lo, .ref rg, .ref g, .ref g2, .ref qmi])), (g, .inr (0, [.ref so, .ref lo, .ref qpr, .ref qpa, .int (nI dy), .long co, .long wo])), (qpa, .inl (cJ, 30, .inr (.inl pa))), (so, .inr (3, [.ref qlk, .ref qln, .ref qhd, .ref qsf, .ref qfp, .ref qfc, .int (nI ly), .int (nI ce), .int da, .int db, .int dr])), (qhd, .inl (cI, 30, .inl hd)), (qsf, .inl (cI, 30, .inl sf)), (qfp, .inl (cI, 30, .inl fp)), (lo, .inr (1, [.ref qld, .ref qlz, .int (nI mn), .long sm]))] s.heap := hP
  have hl := lv_entry ([.ref xx]) (n := 1) (Nat.le_of_ble_eq_true rfl)
  rw [lg_entry_eq]
  generalize (lg_sl ([.ref xx]) ++ List.replicate (1 - (lg_sl ([.ref xx])).length) Slot.unset).toArray = ls at hl ⊢
  have hl : lv_has ls 1 [(0, .ref xx)] := hl
  refine lv_aload_n hx hb dX_end_0 rfl (lv_at hl 0 rfl) ?_
  refine va_get (D := (dC, dI)) (ci := 4) (v := .ref g) (C := R_X) (T := T_X) (N := 6) hx hb htw in_X hown hK hP 0 rfl rfl 3 (by decide) (htw _ m_144) (fun _ h9 => h9) rfl dX_end_1 ?_
  have hPc := hP.sub (ws' := [(g, .inr (0, [.ref so, .ref lo, .ref qpr, .ref qpa, .int (nI dy), .long co, .long wo])), (qpa, .inl (cJ, 30, .inr (.inl pa))), (so, .inr (3, [.ref qlk, .ref qln, .ref qhd, .ref qsf, .ref qfp, .ref qfc, .int (nI ly), .int (nI ce), .int da, .int db, .int dr])), (qhd, .inl (cI, 30, .inl hd)), (qsf, .inl (cI, 30, .inl sf)), (qfp, .inl (cI, 30, .inl fp)), (lo, .inr (1, [.ref qld, .ref qlz, .int (nI mn), .long sm]))]) [1, 2, 3, 4, 5, 6, 7] rfl
  have hDc := hD.sub (ws' := [(g, .inr (0, [.ref so, .ref lo, .ref qpr, .ref qpa, .int (nI dy), .long co, .long wo])), (qpa, .inl (cJ, 30, .inr (.inl pa))), (so, .inr (3, [.ref qlk, .ref qln, .ref qhd, .ref qsf, .ref qfp, .ref qfc, .int (nI ly), .int (nI ce), .int da, .int db, .int dr])), (qhd, .inl (cI, 30, .inl hd)), (qsf, .inl (cI, 30, .inl sf)), (qfp, .inl (cI, 30, .inl fp)), (lo, .inr (1, [.ref qld, .ref qlz, .int (nI mn), .long sm]))]) [1, 2, 3, 4, 5, 6, 7] (by decide) rfl
  have hFc := va_free (wc := [(g, .inr (0, [.ref so, .ref lo, .ref qpr, .ref qpa, .int (nI dy), .long co, .long wo])), (qpa, .inl (cJ, 30, .inr (.inl pa))), (so, .inr (3, [.ref qlk, .ref qln, .ref qhd, .ref qsf, .ref qfp, .ref qfc, .int (nI ly), .int (nI ce), .int da, .int db, .int dr])), (qhd, .inl (cI, 30, .inl hd)), (qsf, .inl (cI, 30, .inl sf)), (qfp, .inl (cI, 30, .inl fp)), (lo, .inr (1, [.ref qld, .ref qlz, .int (nI mn), .long sm]))]) hD hS hA [1, 2, 3, 4, 5, 6, 7] rfl
  refine va_calll (va_runV (As := []) (rest := []) ⟨hx, hb, hml, hown, htw⟩ (kG_unitsAtEnd l dC dI cI cJ g so lo qpr qpa qlk qln qhd qsf qfp qfc qld qlz s.heap.size dy co wo pa ly ce da db dr hd sf fp mn sm (by first | assumption | omega | decide)) (cwV 0 htw (wv_good m_272 m_273 m_274 m_5 m_275) rfl rfl rfl (by decide +kernel) ⟨Nat.le_of_ble_eq_true rfl, Nat.le_of_ble_eq_true rfl⟩) ⟨fun a U g mk q => by obtain ⟨q0, q1, qP, qK, qD⟩ := q; exact ⟨q0, q1, qP, va_K.moved (u := U) (U := U.calling g mk a) (Vm.Alike.refl U.vm) qK, qD⟩, va_recv hK hPc (ci := 0) (q0 := 0) rfl rfl, fun U hU hW => ⟨rfl, by rw [hU], by rw [hU]; exact hPc, va_K.moved hW.alike hK, hDc.weaken (fun _ _ _ _ => trivial)⟩⟩ rfl rfl hl.1 rfl (lv_room (Nat.le_of_ble_eq_true rfl)) dX_end_4 ⟨Nat.le_of_ble_eq_true rfl, Nat.le_of_ble_eq_true rfl⟩) hS (fun q _ h => hFc q h) hFc (fun res_ u_ t H1 locs ht hvm hw hB hz1 hk1 hS => ?_)
  obtain ⟨hP1, hK1, hD1⟩ := hB
  rw [ht] at hP1
  obtain ⟨hP, hD⟩ := va_join (wr := [(xx, .inr (4, [.ref so, .ref lo, .ref rg, .ref g, .ref g2, .ref qmi]))]) (w1 := [(g, .inr (0, [.ref so, .ref lo, .ref qpr, .ref qpa, .int (nI dy), .long co, .long wo])), (qpa, .inl (cJ, 30, .inr (.inl pa))), (so, .inr (3, [.ref qlk, .ref qln, .ref qhd, .ref qsf, .ref qfp, .ref qfc, .int (nI ly), .int (nI ce), .int da, .int db, .int dr])), (qhd, .inl (cI, 30, .inl hd)), (qsf, .inl (cI, 30, .inl sf)), (qfp, .inl (cI, 30, .inl fp)), (lo, .inr (1, [.ref qld, .ref qlz, .int (nI mn), .long sm]))]) hP hD [1, 2, 3, 4, 5, 6, 7] [0] rfl rfl (by decide) (by decide) hk1 hFc hP1 hD1
  generalize H1 = H at hP hS ⊢
  have hP : va_P (dC, dI) vwCl [(xx, .inr (4, [.ref so, .ref lo, .ref rg, .ref g, .ref g2, .ref qmi])), (g, .inr (0, [.ref so, .ref lo, .ref qpr, .ref qpa, .int (nI dy), .long co, .long wo])), (qpa, .inl (cJ, 30, .inr (.inl pa))), (so, .inr (3, [.ref qlk, .ref qln, .ref qhd, .ref qsf, .ref qfp, .ref qfc, .int (nI ly), .int (nI ce), .int da, .int db, .int dr])), (qhd, .inl (cI, 30, .inl hd)), (qsf, .inl (cI, 30, .inl sf)), (qfp, .inl (cI, 30, .inl fp)), (lo, .inr (1, [.ref qld, .ref qlz, .int (nI mn), .long sm]))] H := hP
  have hD : va_D A [(xx, .inr (4, [.ref so, .ref lo, .ref rg, .ref g, .ref g2, .ref qmi])), (g, .inr (0, [.ref so, .ref lo, .ref qpr, .ref qpa, .int (nI dy), .long co, .long wo])), (qpa, .inl (cJ, 30, .inr (.inl pa))), (so, .inr (3, [.ref qlk, .ref qln, .ref qhd, .ref qsf, .ref qfp, .ref qfc, .int (nI ly), .int (nI ce), .int da, .int db, .int dr])), (qhd, .inl (cI, 30, .inl hd)), (qsf, .inl (cI, 30, .inl sf)), (qfp, .inl (cI, 30, .inl fp)), (lo, .inr (1, [.ref qld, .ref qlz, .int (nI mn), .long sm]))] := hD
  clear hPc hDc hFc hP1 hD1 hK1 hk1 hz1 hvm ht
  obtain rfl : k_end hd sf fp sm pa ce = res_ := hw.symm
  refine lv_ldc2 (v := 1000) hx hb hown (htw _ m_244) dX_end_7 ?_
  refine lv_ldiv hx hb dX_end_10 (by decide) ?_
  have hP : va_P (dC, dI) vwCl [(xx, .inr (4, [.ref so, .ref lo, .ref rg, .ref g, .ref g2, .ref qmi])), (g, .inr (0, [.ref so, .ref lo, .ref qpr, .ref qpa, .int (nI dy), .long co, .long wo])), (qpa, .inl (cJ, 30, .inr (.inl pa))), (so, .inr (3, [.ref qlk, .ref qln, .ref qhd, .ref qsf, .ref qfp, .ref qfc, .int (nI ly), .int (nI ce), .int da, .int db, .int dr])), (qhd, .inl (cI, 30, .inl hd)), (qsf, .inl (cI, 30, .inl sf)), (qfp, .inl (cI, 30, .inl fp)), (lo, .inr (1, [.ref qld, .ref qlz, .int (nI mn), .long sm]))] H := by first | exact hP | simpa only [] using hP
  have hD : va_D A [(xx, .inr (4, [.ref so, .ref lo, .ref rg, .ref g, .ref g2, .ref qmi])), (g, .inr (0, [.ref so, .ref lo, .ref qpr, .ref qpa, .int (nI dy), .long co, .long wo])), (qpa, .inl (cJ, 30, .inr (.inl pa))), (so, .inr (3, [.ref qlk, .ref qln, .ref qhd, .ref qsf, .ref qfp, .ref qfc, .int (nI ly), .int (nI ce), .int da, .int db, .int dr])), (qhd, .inl (cI, 30, .inl hd)), (qsf, .inl (cI, 30, .inl sf)), (qfp, .inl (cI, 30, .inl fp)), (lo, .inr (1, [.ref qld, .ref qlz, .int (nI mn), .long sm]))] := by first | exact hD | simpa only [] using hD
  exact W.lret (v := (k_end hd sf fp sm pa ce) / 1000) hx hb hr (fun t ht hW => ⟨⟨(k_end hd sf fp sm pa ce) / 1000, (), rfl, rfl, by rw [ht]; exact hP, va_K.moved hW.alike hK, hD⟩, hS.F ht⟩) hS.2.2 dX_end_11
set_option maxHeartbeats 4000000 in
set_option maxRecDepth 100000 in
theorem kX_share (l : Launch) (dC : Nat → ClassId) (dI : Nat → Nat → Nat) (cI cJ : ClassId) (xx so lo rg g g2 qmi qpr qpa qlk qln qhd qsf qfp qfc qld qlz : Nat) (sz : Nat) (dy : Nat) (co : Int64) (wo : Int64) (pr : Nat → Int64) (pa : Nat → Int64) (ly : Nat) (ce : Nat) (da : Int32) (db : Int32) (dr : Int32) (hd : Nat → Int32) (sf : Nat → Int32) (fp : Nat → Int32) (mn : Nat) (sm : Int64) (hce : ce ≤ 30) : Met l yX_share wX_share ({ frames := 3, cells := 0, slots := 0, locals := 70 }) (va_Pc [.ref xx] (fun U => U.heap.size = sz ∧ va_P (dC, dI) vwCl [(xx, .inr (4, [.ref so, .ref lo, .ref rg, .ref g, .ref g2, .ref qmi])), (g, .inr (0, [.ref so, .ref lo, .ref qpr, .ref qpa, .int (nI dy), .long co, .long wo])), (qpr, .inl (cJ, 30, .inr (.inl pr))), (qpa, .inl (cJ, 30, .inr (.inl pa))), (so, .inr (3, [.ref qlk, .ref qln, .ref qhd, .ref qsf, .ref qfp, .ref qfc, .int (nI ly), .int (nI ce), .int da, .int db, .int dr])), (qhd, .inl (cI, 30, .inl hd)), (qsf, .inl (cI, 30, .inl sf)), (qfp, .inl (cI, 30, .inl fp)), (lo, .inr (1, [.ref qld, .ref qlz, .int (nI mn), .long sm]))] U.heap ∧ va_K (dC, dI) vwCl [(cI, .int), (cJ, .long)] U ∧ va_D (fun _ => True) [(xx, .inr (4, [.ref so, .ref lo, .ref rg, .ref g, .ref g2, .ref qmi])), (g, .inr (0, [.ref so, .ref lo, .ref qpr, .ref qpa, .int (nI dy), .long co, .long wo])), (qpr, .inl (cJ, 30, .inr (.inl pr))), (qpa, .inl (cJ, 30, .inr (.inl pa))), (so, .inr (3, [.ref qlk, .ref qln, .ref qhd, .ref qsf, .ref qfp, .ref qfc, .int (nI ly), .int (nI ce), .int da, .int db, .int dr])), (qhd, .inl (cI, 30, .inl hd)), (qsf, .inl (cI, 30, .inl sf)), (qfp, .inl (cI, 30, .inl fp)), (lo, .inr (1, [.ref qld, .ref qlz, .int (nI mn), .long sm]))])) (va_Qi (fun res_ (_ : Unit) => res_ = k_th (k_units hd sf fp co pr pa 0 ce) (k_end hd sf fp sm pa ce)) (fun _ t => va_P (dC, dI) vwCl [(xx, .inr (4, [.ref so, .ref lo, .ref rg, .ref g, .ref g2, .ref qmi])), (g, .inr (0, [.ref so, .ref lo, .ref qpr, .ref qpa, .int (nI dy), .long co, .long wo])), (qpr, .inl (cJ, 30, .inr (.inl pr))), (qpa, .inl (cJ, 30, .inr (.inl pa))), (so, .inr (3, [.ref qlk, .ref qln, .ref qhd, .ref qsf, .ref qfp, .ref qfc, .int (nI ly), .int (nI ce), .int da, .int db, .int dr])), (qhd, .inl (cI, 30, .inl hd)), (qsf, .inl (cI, 30, .inl sf)), (qfp, .inl (cI, 30, .inl fp)), (lo, .inr (1, [.ref qld, .ref qlz, .int (nI mn), .long sm]))] t.heap ∧ va_K (dC, dI) vwCl [(cI, .int), (cJ, .long)] t ∧ va_D (va_A [(xx, .inr (4, [.ref so, .ref lo, .ref rg, .ref g, .ref g2, .ref qmi])), (g, .inr (0, [.ref so, .ref lo, .ref qpr, .ref qpa, .int (nI dy), .long co, .long wo])), (qpr, .inl (cJ, 30, .inr (.inl pr))), (qpa, .inl (cJ, 30, .inr (.inl pa))), (so, .inr (3, [.ref qlk, .ref qln, .ref qhd, .ref qsf, .ref qfp, .ref qfc, .int (nI ly), .int (nI ce), .int da, .int db, .int dr])), (qhd, .inl (cI, 30, .inl hd)), (qsf, .inl (cI, 30, .inl sf)), (qfp, .inl (cI, 30, .inl fp)), (lo, .inr (1, [.ref qld, .ref qlz, .int (nI mn), .long sm]))] sz) [(xx, .inr (4, [.ref so, .ref lo, .ref rg, .ref g, .ref g2, .ref qmi])), (g, .inr (0, [.ref so, .ref lo, .ref qpr, .ref qpa, .int (nI dy), .long co, .long wo])), (qpr, .inl (cJ, 30, .inr (.inl pr))), (qpa, .inl (cJ, 30, .inr (.inl pa))), (so, .inr (3, [.ref qlk, .ref qln, .ref qhd, .ref qsf, .ref qfp, .ref qfc, .int (nI ly), .int (nI ce), .int da, .int db, .int dr])), (qhd, .inl (cI, 30, .inl hd)), (qsf, .inl (cI, 30, .inl sf)), (qfp, .inl (cI, 30, .inl fp)), (lo, .inr (1, [.ref qld, .ref qlz, .int (nI mn), .long sm]))]) (va_A [(xx, .inr (4, [.ref so, .ref lo, .ref rg, .ref g, .ref g2, .ref qmi])), (g, .inr (0, [.ref so, .ref lo, .ref qpr, .ref qpa, .int (nI dy), .long co, .long wo])), (qpr, .inl (cJ, 30, .inr (.inl pr))), (qpa, .inl (cJ, 30, .inr (.inl pa))), (so, .inr (3, [.ref qlk, .ref qln, .ref qhd, .ref qsf, .ref qfp, .ref qfc, .int (nI ly), .int (nI ce), .int da, .int db, .int dr])), (qhd, .inl (cI, 30, .inl hd)), (qsf, .inl (cI, 30, .inl sf)), (qfp, .inl (cI, 30, .inl fp)), (lo, .inr (1, [.ref qld, .ref qlz, .int (nI mn), .long sm]))] sz)) 0 0 (va_A [(xx, .inr (4, [.ref so, .ref lo, .ref rg, .ref g, .ref g2, .ref qmi])), (g, .inr (0, [.ref so, .ref lo, .ref qpr, .ref qpa, .int (nI dy), .long co, .long wo])), (qpr, .inl (cJ, 30, .inr (.inl pr))), (qpa, .inl (cJ, 30, .inr (.inl pa))), (so, .inr (3, [.ref qlk, .ref qln, .ref qhd, .ref qsf, .ref qfp, .ref qfc, .int (nI ly), .int (nI ce), .int da, .int db, .int dr])), (qhd, .inl (cI, 30, .inl hd)), (qsf, .inl (cI, 30, .inl sf)), (qfp, .inl (cI, 30, .inl fp)), (lo, .inr (1, [.ref qld, .ref qlz, .int (nI mn), .long sm]))] sz) := by
  refine Met.ofW (cc := bX_share) (maxL := 1) (ret := (some .int)) (by decide) rfl ?_
  intro p e s m args below meth c s₁ B hml hv
  obtain ⟨rfl, hsz, hP, hK, hD0⟩ := hv
  have hx := B.exec
  have hb := B.bytes
  have hr := B.returns
  have hts := atoms_spec (ws := wX_share) B.pre
  have hown : s.vm.findClass R_X = some m.cls := findClass_of_methodNamed B.named
  have htw : ∀ w ∈ WA, w.before _ s = true := fun w h => hts w (List.mem_cons_of_mem _ h)
  clear hts
  have hlocks := B.notSynchronized
  subst hsz
  have hD := hD0.self (sz := s.heap.size)
  generalize hAe : va_A [(xx, .inr (4, [.ref so, .ref lo, .ref rg, .ref g, .ref g2, .ref qmi])), (g, .inr (0, [.ref so, .ref lo, .ref qpr, .ref qpa, .int (nI dy), .long co, .long wo])), (qpr, .inl (cJ, 30, .inr (.inl pr))), (qpa, .inl (cJ, 30, .inr (.inl pa))), (so, .inr (3, [.ref qlk, .ref qln, .ref qhd, .ref qsf, .ref qfp, .ref qfc, .int (nI ly), .int (nI ce), .int da, .int db, .int dr])), (qhd, .inl (cI, 30, .inl hd)), (qsf, .inl (cI, 30, .inl sf)), (qfp, .inl (cI, 30, .inl fp)), (lo, .inr (1, [.ref qld, .ref qlz, .int (nI mn), .long sm]))] s.heap.size = A at hD ⊢
  have hA : ∀ q : Nat, s.heap.size ≤ q → A q := fun q h => by rw [← hAe]; exact Or.inr h
  clear hAe hD0
  have hS : va_S A s.heap s.heap [] := va_S.rf
  have hP : va_P (dC, dI) vwCl [(xx, .inr (4, [.ref so, .ref lo, .ref rg, .ref g, .ref g2, .ref qmi])), (g, .inr (0, [.ref so, .ref lo, .ref qpr, .ref qpa, .int (nI dy), .long co, .long wo])), (qpr, .inl (cJ, 30, .inr (.inl pr))), (qpa, .inl (cJ, 30, .inr (.inl pa))), (so, .inr (3, [.ref qlk, .ref qln, .ref qhd, .ref qsf, .ref qfp, .ref qfc, .int (nI ly), .int (nI ce), .int da, .int db, .int dr])), (qhd, .inl (cI, 30, .inl hd)), (qsf, .inl (cI, 30, .inl sf)), (qfp, .inl (cI, 30, .inl fp)), (lo, .inr (1, [.ref qld, .ref qlz, .int (nI mn), .long sm]))] s.heap := hP
  have hl := lv_entry ([.ref xx]) (n := 1) (Nat.le_of_ble_eq_true rfl)
  rw [lg_entry_eq]
  generalize (lg_sl ([.ref xx]) ++ List.replicate (1 - (lg_sl ([.ref xx])).length) Slot.unset).toArray = ls at hl ⊢
  have hl : lv_has ls 1 [(0, .ref xx)] := hl
  refine lv_aload_n hx hb dX_share_0 rfl (lv_at hl 0 rfl) ?_
  refine va_get (D := (dC, dI)) (ci := 4) (v := .ref g) (C := R_X) (T := T_X) (N := 6) hx hb htw in_X hown hK hP 0 rfl rfl 3 (by decide) (htw _ m_144) (fun _ h9 => h9) rfl dX_share_1 ?_
  have hPc := hP.sub (ws' := [(g, .inr (0, [.ref so, .ref lo, .ref qpr, .ref qpa, .int (nI dy), .long co, .long wo])), (qpr, .inl (cJ, 30, .inr (.inl pr))), (qpa, .inl (cJ, 30, .inr (.inl pa))), (so, .inr (3, [.ref qlk, .ref qln, .ref qhd, .ref qsf, .ref qfp, .ref qfc, .int (nI ly), .int (nI ce), .int da, .int db, .int dr])), (qhd, .inl (cI, 30, .inl hd)), (qsf, .inl (cI, 30, .inl sf)), (qfp, .inl (cI, 30, .inl fp))]) [1, 2, 3, 4, 5, 6, 7] rfl
  have hDc := hD.sub (ws' := [(g, .inr (0, [.ref so, .ref lo, .ref qpr, .ref qpa, .int (nI dy), .long co, .long wo])), (qpr, .inl (cJ, 30, .inr (.inl pr))), (qpa, .inl (cJ, 30, .inr (.inl pa))), (so, .inr (3, [.ref qlk, .ref qln, .ref qhd, .ref qsf, .ref qfp, .ref qfc, .int (nI ly), .int (nI ce), .int da, .int db, .int dr])), (qhd, .inl (cI, 30, .inl hd)), (qsf, .inl (cI, 30, .inl sf)), (qfp, .inl (cI, 30, .inl fp))]) [1, 2, 3, 4, 5, 6, 7] (by decide) rfl
  have hFc := va_free (wc := [(g, .inr (0, [.ref so, .ref lo, .ref qpr, .ref qpa, .int (nI dy), .long co, .long wo])), (qpr, .inl (cJ, 30, .inr (.inl pr))), (qpa, .inl (cJ, 30, .inr (.inl pa))), (so, .inr (3, [.ref qlk, .ref qln, .ref qhd, .ref qsf, .ref qfp, .ref qfc, .int (nI ly), .int (nI ce), .int da, .int db, .int dr])), (qhd, .inl (cI, 30, .inl hd)), (qsf, .inl (cI, 30, .inl sf)), (qfp, .inl (cI, 30, .inl fp))]) hD hS hA [1, 2, 3, 4, 5, 6, 7] rfl
  refine va_calll (va_runV (As := []) (rest := []) ⟨hx, hb, hml, hown, htw⟩ (kG_unitsSunk l dC dI cI cJ g so lo qpr qpa qlk qln qhd qsf qfp qfc s.heap.size dy co wo pr pa ly ce da db dr hd sf fp (by first | assumption | omega | decide)) (cwV 0 htw (wv_good m_232 m_233 m_234 m_5 m_235) rfl rfl rfl (by decide +kernel) ⟨Nat.le_of_ble_eq_true rfl, Nat.le_of_ble_eq_true rfl⟩) ⟨fun a U g mk q => by obtain ⟨q0, q1, qP, qK, qD⟩ := q; exact ⟨q0, q1, qP, va_K.moved (u := U) (U := U.calling g mk a) (Vm.Alike.refl U.vm) qK, qD⟩, va_recv hK hPc (ci := 0) (q0 := 0) rfl rfl, fun U hU hW => ⟨rfl, by rw [hU], by rw [hU]; exact hPc, va_K.moved hW.alike hK, hDc.weaken (fun _ _ _ _ => trivial)⟩⟩ rfl rfl hl.1 rfl (lv_room (Nat.le_of_ble_eq_true rfl)) dX_share_4 ⟨Nat.le_of_ble_eq_true rfl, Nat.le_of_ble_eq_true rfl⟩) hS (fun q _ h => hFc q h) hFc (fun res_ u_ t H1 locs ht hvm hw hB hz1 hk1 hS => ?_)
  obtain ⟨hP1, hK1, hD1⟩ := hB
  rw [ht] at hP1
  obtain ⟨hP, hD⟩ := va_join (wr := [(xx, .inr (4, [.ref so, .ref lo, .ref rg, .ref g, .ref g2, .ref qmi])), (lo, .inr (1, [.ref qld, .ref qlz, .int (nI mn), .long sm]))]) (w1 := [(g, .inr (0, [.ref so, .ref lo, .ref qpr, .ref qpa, .int (nI dy), .long co, .long wo])), (qpr, .inl (cJ, 30, .inr (.inl pr))), (qpa, .inl (cJ, 30, .inr (.inl pa))), (so, .inr (3, [.ref qlk, .ref qln, .ref qhd, .ref qsf, .ref qfp, .ref qfc, .int (nI ly), .int (nI ce), .int da, .int db, .int dr])), (qhd, .inl (cI, 30, .inl hd)), (qsf, .inl (cI, 30, .inl sf)), (qfp, .inl (cI, 30, .inl fp))]) hP hD [1, 2, 3, 4, 5, 6, 7] [0, 8] rfl rfl (by decide) (by decide) hk1 hFc hP1 hD1
  generalize H1 = H at hP hS ⊢
  have hP := hP.sub (ws' := [(xx, .inr (4, [.ref so, .ref lo, .ref rg, .ref g, .ref g2, .ref qmi])), (g, .inr (0, [.ref so, .ref lo, .ref qpr, .ref qpa, .int (nI dy), .long co, .long wo])), (qpr, .inl (cJ, 30, .inr (.inl pr))), (qpa, .inl (cJ, 30, .inr (.inl pa))), (so, .inr (3, [.ref qlk, .ref qln, .ref qhd, .ref qsf, .ref qfp, .ref qfc, .int (nI ly), .int (nI ce), .int da, .int db, .int dr])), (qhd, .inl (cI, 30, .inl hd)), (qsf, .inl (cI, 30, .inl sf)), (qfp, .inl (cI, 30, .inl fp)), (lo, .inr (1, [.ref qld, .ref qlz, .int (nI mn), .long sm]))]) [0, 2, 3, 4, 5, 6, 7, 8, 1] rfl
  have hD := hD.sub (ws' := [(xx, .inr (4, [.ref so, .ref lo, .ref rg, .ref g, .ref g2, .ref qmi])), (g, .inr (0, [.ref so, .ref lo, .ref qpr, .ref qpa, .int (nI dy), .long co, .long wo])), (qpr, .inl (cJ, 30, .inr (.inl pr))), (qpa, .inl (cJ, 30, .inr (.inl pa))), (so, .inr (3, [.ref qlk, .ref qln, .ref qhd, .ref qsf, .ref qfp, .ref qfc, .int (nI ly), .int (nI ce), .int da, .int db, .int dr])), (qhd, .inl (cI, 30, .inl hd)), (qsf, .inl (cI, 30, .inl sf)), (qfp, .inl (cI, 30, .inl fp)), (lo, .inr (1, [.ref qld, .ref qlz, .int (nI mn), .long sm]))]) [0, 2, 3, 4, 5, 6, 7, 8, 1] (by decide) rfl
  clear hPc hDc hFc hP1 hD1 hK1 hk1 hz1 hvm ht
  obtain rfl : k_units hd sf fp co pr pa 0 ce = res_ := hw.symm
  refine lv_aload_n hx hb dX_share_7 rfl (lv_at hl 0 rfl) ?_
  refine va_get (D := (dC, dI)) (ci := 4) (v := .ref g) (C := R_X) (T := T_X) (N := 6) hx hb htw in_X hown hK hP 0 rfl rfl 3 (by decide) (htw _ m_144) (fun _ h9 => h9) rfl dX_share_8 ?_
  have hPc := hP.sub (ws' := [(g, .inr (0, [.ref so, .ref lo, .ref qpr, .ref qpa, .int (nI dy), .long co, .long wo])), (qpa, .inl (cJ, 30, .inr (.inl pa))), (so, .inr (3, [.ref qlk, .ref qln, .ref qhd, .ref qsf, .ref qfp, .ref qfc, .int (nI ly), .int (nI ce), .int da, .int db, .int dr])), (qhd, .inl (cI, 30, .inl hd)), (qsf, .inl (cI, 30, .inl sf)), (qfp, .inl (cI, 30, .inl fp)), (lo, .inr (1, [.ref qld, .ref qlz, .int (nI mn), .long sm]))]) [1, 3, 4, 5, 6, 7, 8] rfl
  have hDc := hD.sub (ws' := [(g, .inr (0, [.ref so, .ref lo, .ref qpr, .ref qpa, .int (nI dy), .long co, .long wo])), (qpa, .inl (cJ, 30, .inr (.inl pa))), (so, .inr (3, [.ref qlk, .ref qln, .ref qhd, .ref qsf, .ref qfp, .ref qfc, .int (nI ly), .int (nI ce), .int da, .int db, .int dr])), (qhd, .inl (cI, 30, .inl hd)), (qsf, .inl (cI, 30, .inl sf)), (qfp, .inl (cI, 30, .inl fp)), (lo, .inr (1, [.ref qld, .ref qlz, .int (nI mn), .long sm]))]) [1, 3, 4, 5, 6, 7, 8] (by decide) rfl
  have hFc := va_free (wc := [(g, .inr (0, [.ref so, .ref lo, .ref qpr, .ref qpa, .int (nI dy), .long co, .long wo])), (qpa, .inl (cJ, 30, .inr (.inl pa))), (so, .inr (3, [.ref qlk, .ref qln, .ref qhd, .ref qsf, .ref qfp, .ref qfc, .int (nI ly), .int (nI ce), .int da, .int db, .int dr])), (qhd, .inl (cI, 30, .inl hd)), (qsf, .inl (cI, 30, .inl sf)), (qfp, .inl (cI, 30, .inl fp)), (lo, .inr (1, [.ref qld, .ref qlz, .int (nI mn), .long sm]))]) hD hS hA [1, 3, 4, 5, 6, 7, 8] rfl
  refine va_calll (va_runV (As := []) (rest := [.long (k_units hd sf fp co pr pa 0 ce)]) ⟨hx, hb, hml, hown, htw⟩ (kG_unitsAtEnd l dC dI cI cJ g so lo qpr qpa qlk qln qhd qsf qfp qfc qld qlz H.size dy co wo pa ly ce da db dr hd sf fp mn sm (by first | assumption | omega | decide)) (cwV 0 htw (wv_good m_272 m_273 m_274 m_5 m_275) rfl rfl rfl (by decide +kernel) ⟨Nat.le_of_ble_eq_true rfl, Nat.le_of_ble_eq_true rfl⟩) ⟨fun a U g mk q => by obtain ⟨q0, q1, qP, qK, qD⟩ := q; exact ⟨q0, q1, qP, va_K.moved (u := U) (U := U.calling g mk a) (Vm.Alike.refl U.vm) qK, qD⟩, va_recv hK hPc (ci := 0) (q0 := 0) rfl rfl, fun U hU hW => ⟨rfl, by rw [hU], by rw [hU]; exact hPc, va_K.moved hW.alike hK, hDc.weaken (fun _ _ _ _ => trivial)⟩⟩ rfl rfl hl.1 rfl (lv_room (Nat.le_of_ble_eq_true rfl)) dX_share_11 ⟨Nat.le_of_ble_eq_true rfl, Nat.le_of_ble_eq_true rfl⟩) hS (fun q _ h => hFc q h) hFc (fun res_ u_ t H1 locs ht hvm hw hB hz1 hk1 hS => ?_)
  obtain ⟨hP1, hK1, hD1⟩ := hB
  rw [ht] at hP1
  obtain ⟨hP, hD⟩ := va_join (wr := [(xx, .inr (4, [.ref so, .ref lo, .ref rg, .ref g, .ref g2, .ref qmi])), (qpr, .inl (cJ, 30, .inr (.inl pr)))]) (w1 := [(g, .inr (0, [.ref so, .ref lo, .ref qpr, .ref qpa, .int (nI dy), .long co, .long wo])), (qpa, .inl (cJ, 30, .inr (.inl pa))), (so, .inr (3, [.ref qlk, .ref qln, .ref qhd, .ref qsf, .ref qfp, .ref qfc, .int (nI ly), .int (nI ce), .int da, .int db, .int dr])), (qhd, .inl (cI, 30, .inl hd)), (qsf, .inl (cI, 30, .inl sf)), (qfp, .inl (cI, 30, .inl fp)), (lo, .inr (1, [.ref qld, .ref qlz, .int (nI mn), .long sm]))]) hP hD [1, 3, 4, 5, 6, 7, 8] [0, 2] rfl rfl (by decide) (by decide) hk1 hFc hP1 hD1
  generalize H1 = H at hP hS ⊢
  have hP := hP.sub (ws' := [(xx, .inr (4, [.ref so, .ref lo, .ref rg, .ref g, .ref g2, .ref qmi])), (g, .inr (0, [.ref so, .ref lo, .ref qpr, .ref qpa, .int (nI dy), .long co, .long wo])), (qpr, .inl (cJ, 30, .inr (.inl pr))), (qpa, .inl (cJ, 30, .inr (.inl pa))), (so, .inr (3, [.ref qlk, .ref qln, .ref qhd, .ref qsf, .ref qfp, .ref qfc, .int (nI ly), .int (nI ce), .int da, .int db, .int dr])), (qhd, .inl (cI, 30, .inl hd)), (qsf, .inl (cI, 30, .inl sf)), (qfp, .inl (cI, 30, .inl fp)), (lo, .inr (1, [.ref qld, .ref qlz, .int (nI mn), .long sm]))]) [0, 2, 1, 3, 4, 5, 6, 7, 8] rfl
  have hD := hD.sub (ws' := [(xx, .inr (4, [.ref so, .ref lo, .ref rg, .ref g, .ref g2, .ref qmi])), (g, .inr (0, [.ref so, .ref lo, .ref qpr, .ref qpa, .int (nI dy), .long co, .long wo])), (qpr, .inl (cJ, 30, .inr (.inl pr))), (qpa, .inl (cJ, 30, .inr (.inl pa))), (so, .inr (3, [.ref qlk, .ref qln, .ref qhd, .ref qsf, .ref qfp, .ref qfc, .int (nI ly), .int (nI ce), .int da, .int db, .int dr])), (qhd, .inl (cI, 30, .inl hd)), (qsf, .inl (cI, 30, .inl sf)), (qfp, .inl (cI, 30, .inl fp)), (lo, .inr (1, [.ref qld, .ref qlz, .int (nI mn), .long sm]))]) [0, 2, 1, 3, 4, 5, 6, 7, 8] (by decide) rfl
  clear hPc hDc hFc hP1 hD1 hK1 hk1 hz1 hvm ht
  obtain rfl : k_end hd sf fp sm pa ce = res_ := hw.symm
  have hPc := hP.sub (ws' := []) [] rfl
  have hDc := hD.sub (ws' := []) [] (by decide) rfl
  have hFc := va_free (wc := []) hD hS hA [] rfl
  refine va_calli (va_runS (As := [.long (k_units hd sf fp co pr pa 0 ce), .long (k_end hd sf fp sm pa ce)]) (rest := []) ⟨hx, hb, hml, hown, htw⟩ (kX_thousandths l dC dI cI cJ H.size (k_units hd sf fp co pr pa 0 ce) (k_end hd sf fp sm pa ce)) (va_cwS 2 htw (ws_good m_280 m_281 m_1 m_282) rfl rfl rfl (by decide +kernel) ⟨Nat.le_of_ble_eq_true rfl, Nat.le_of_ble_eq_true rfl⟩) ⟨fun a U g mk q => by obtain ⟨q0, q1, qP, qK, qD⟩ := q; exact ⟨q0, q1, qP, va_K.moved (u := U) (U := U.calling g mk a) (Vm.Alike.refl U.vm) qK, qD⟩, fun U hU hW => ⟨rfl, by rw [hU], by rw [hU]; exact hPc, va_K.moved hW.alike hK, hDc.weaken (fun _ _ _ _ => trivial)⟩⟩ rfl rfl hl.1 rfl (lv_room (Nat.le_of_ble_eq_true rfl)) dX_share_14 ⟨Nat.le_of_ble_eq_true rfl, Nat.le_of_ble_eq_true rfl⟩) hS (fun q _ h => hFc q h) hFc (fun res_ u_ t H1 locs ht hvm hw hB hz1 hk1 hS => ?_)
  obtain ⟨hP1, hK1, hD1⟩ := hB
  rw [ht] at hP1
  obtain ⟨hP, hD⟩ := va_join (wr := [(xx, .inr (4, [.ref so, .ref lo, .ref rg, .ref g, .ref g2, .ref qmi])), (g, .inr (0, [.ref so, .ref lo, .ref qpr, .ref qpa, .int (nI dy), .long co, .long wo])), (qpr, .inl (cJ, 30, .inr (.inl pr))), (qpa, .inl (cJ, 30, .inr (.inl pa))), (so, .inr (3, [.ref qlk, .ref qln, .ref qhd, .ref qsf, .ref qfp, .ref qfc, .int (nI ly), .int (nI ce), .int da, .int db, .int dr])), (qhd, .inl (cI, 30, .inl hd)), (qsf, .inl (cI, 30, .inl sf)), (qfp, .inl (cI, 30, .inl fp)), (lo, .inr (1, [.ref qld, .ref qlz, .int (nI mn), .long sm]))]) (w1 := []) hP hD [] [0, 1, 2, 3, 4, 5, 6, 7, 8] rfl rfl (by decide) (by decide) hk1 hFc hP1 hD1
  generalize H1 = H at hP hS ⊢
  have hP : va_P (dC, dI) vwCl [(xx, .inr (4, [.ref so, .ref lo, .ref rg, .ref g, .ref g2, .ref qmi])), (g, .inr (0, [.ref so, .ref lo, .ref qpr, .ref qpa, .int (nI dy), .long co, .long wo])), (qpr, .inl (cJ, 30, .inr (.inl pr))), (qpa, .inl (cJ, 30, .inr (.inl pa))), (so, .inr (3, [.ref qlk, .ref qln, .ref qhd, .ref qsf, .ref qfp, .ref qfc, .int (nI ly), .int (nI ce), .int da, .int db, .int dr])), (qhd, .inl (cI, 30, .inl hd)), (qsf, .inl (cI, 30, .inl sf)), (qfp, .inl (cI, 30, .inl fp)), (lo, .inr (1, [.ref qld, .ref qlz, .int (nI mn), .long sm]))] H := hP
  have hD : va_D A [(xx, .inr (4, [.ref so, .ref lo, .ref rg, .ref g, .ref g2, .ref qmi])), (g, .inr (0, [.ref so, .ref lo, .ref qpr, .ref qpa, .int (nI dy), .long co, .long wo])), (qpr, .inl (cJ, 30, .inr (.inl pr))), (qpa, .inl (cJ, 30, .inr (.inl pa))), (so, .inr (3, [.ref qlk, .ref qln, .ref qhd, .ref qsf, .ref qfp, .ref qfc, .int (nI ly), .int (nI ce), .int da, .int db, .int dr])), (qhd, .inl (cI, 30, .inl hd)), (qsf, .inl (cI, 30, .inl sf)), (qfp, .inl (cI, 30, .inl fp)), (lo, .inr (1, [.ref qld, .ref qlz, .int (nI mn), .long sm]))] := hD
  clear hPc hDc hFc hP1 hD1 hK1 hk1 hz1 hvm ht
  obtain rfl : k_th (k_units hd sf fp co pr pa 0 ce) (k_end hd sf fp sm pa ce) = res_ := hw.symm
  have hP : va_P (dC, dI) vwCl [(xx, .inr (4, [.ref so, .ref lo, .ref rg, .ref g, .ref g2, .ref qmi])), (g, .inr (0, [.ref so, .ref lo, .ref qpr, .ref qpa, .int (nI dy), .long co, .long wo])), (qpr, .inl (cJ, 30, .inr (.inl pr))), (qpa, .inl (cJ, 30, .inr (.inl pa))), (so, .inr (3, [.ref qlk, .ref qln, .ref qhd, .ref qsf, .ref qfp, .ref qfc, .int (nI ly), .int (nI ce), .int da, .int db, .int dr])), (qhd, .inl (cI, 30, .inl hd)), (qsf, .inl (cI, 30, .inl sf)), (qfp, .inl (cI, 30, .inl fp)), (lo, .inr (1, [.ref qld, .ref qlz, .int (nI mn), .long sm]))] H := by first | exact hP | simpa only [] using hP
  have hD : va_D A [(xx, .inr (4, [.ref so, .ref lo, .ref rg, .ref g, .ref g2, .ref qmi])), (g, .inr (0, [.ref so, .ref lo, .ref qpr, .ref qpa, .int (nI dy), .long co, .long wo])), (qpr, .inl (cJ, 30, .inr (.inl pr))), (qpa, .inl (cJ, 30, .inr (.inl pa))), (so, .inr (3, [.ref qlk, .ref qln, .ref qhd, .ref qsf, .ref qfp, .ref qfc, .int (nI ly), .int (nI ce), .int da, .int db, .int dr])), (qhd, .inl (cI, 30, .inl hd)), (qsf, .inl (cI, 30, .inl sf)), (qfp, .inl (cI, 30, .inl fp)), (lo, .inr (1, [.ref qld, .ref qlz, .int (nI mn), .long sm]))] := by first | exact hD | simpa only [] using hD
  exact W.iret (v := k_th (k_units hd sf fp co pr pa 0 ce) (k_end hd sf fp sm pa ce)) hx hb hr (fun t ht hW => ⟨⟨k_th (k_units hd sf fp co pr pa 0 ce) (k_end hd sf fp sm pa ce), (), rfl, rfl, by rw [ht]; exact hP, va_K.moved hW.alike hK, hD⟩, hS.F ht⟩) hS.2.2 dX_share_17
set_option maxHeartbeats 4000000 in
set_option maxRecDepth 100000 in
theorem kX_balance (l : Launch) (dC : Nat → ClassId) (dI : Nat → Nat → Nat) (cI cJ : ClassId) (xx so lo rg g g2 qmi qpr qpa qlk qln qhd qsf qfp qfc : Nat) (sz : Nat) (dy : Nat) (co : Int64) (wo : Int64) (pr : Nat → Int64) (ly : Nat) (ce : Nat) (da : Int32) (db : Int32) (dr : Int32) (hce : ce ≤ 30) : Met l yX_balance wX_balance ({ frames := 1, cells := 0, slots := 0, locals := 23 }) (va_Pc [.ref xx] (fun U => U.heap.size = sz ∧ va_P (dC, dI) vwCl [(xx, .inr (4, [.ref so, .ref lo, .ref rg, .ref g, .ref g2, .ref qmi])), (g, .inr (0, [.ref so, .ref lo, .ref qpr, .ref qpa, .int (nI dy), .long co, .long wo])), (qpr, .inl (cJ, 30, .inr (.inl pr))), (so, .inr (3, [.ref qlk, .ref qln, .ref qhd, .ref qsf, .ref qfp, .ref qfc, .int (nI ly), .int (nI ce), .int da, .int db, .int dr]))] U.heap ∧ va_K (dC, dI) vwCl [(cI, .int), (cJ, .long)] U ∧ va_D (fun _ => True) [(xx, .inr (4, [.ref so, .ref lo, .ref rg, .ref g, .ref g2, .ref qmi])), (g, .inr (0, [.ref so, .ref lo, .ref qpr, .ref qpa, .int (nI dy), .long co, .long wo])), (qpr, .inl (cJ, 30, .inr (.inl pr))), (so, .inr (3, [.ref qlk, .ref qln, .ref qhd, .ref qsf, .ref qfp, .ref qfc, .int (nI ly), .int (nI ce), .int da, .int db, .int dr]))])) (va_Qi (fun res_ (_ : Unit) => res_ = kb (co * (nI ce).toInt64 = k_sum pr ce + wo)) (fun _ t => va_P (dC, dI) vwCl [(xx, .inr (4, [.ref so, .ref lo, .ref rg, .ref g, .ref g2, .ref qmi])), (g, .inr (0, [.ref so, .ref lo, .ref qpr, .ref qpa, .int (nI dy), .long co, .long wo])), (qpr, .inl (cJ, 30, .inr (.inl pr))), (so, .inr (3, [.ref qlk, .ref qln, .ref qhd, .ref qsf, .ref qfp, .ref qfc, .int (nI ly), .int (nI ce), .int da, .int db, .int dr]))] t.heap ∧ va_K (dC, dI) vwCl [(cI, .int), (cJ, .long)] t ∧ va_D (va_A [(xx, .inr (4, [.ref so, .ref lo, .ref rg, .ref g, .ref g2, .ref qmi])), (g, .inr (0, [.ref so, .ref lo, .ref qpr, .ref qpa, .int (nI dy), .long co, .long wo])), (qpr, .inl (cJ, 30, .inr (.inl pr))), (so, .inr (3, [.ref qlk, .ref qln, .ref qhd, .ref qsf, .ref qfp, .ref qfc, .int (nI ly), .int (nI ce), .int da, .int db, .int dr]))] sz) [(xx, .inr (4, [.ref so, .ref lo, .ref rg, .ref g, .ref g2, .ref qmi])), (g, .inr (0, [.ref so, .ref lo, .ref qpr, .ref qpa, .int (nI dy), .long co, .long wo])), (qpr, .inl (cJ, 30, .inr (.inl pr))), (so, .inr (3, [.ref qlk, .ref qln, .ref qhd, .ref qsf, .ref qfp, .ref qfc, .int (nI ly), .int (nI ce), .int da, .int db, .int dr]))]) (va_A [(xx, .inr (4, [.ref so, .ref lo, .ref rg, .ref g, .ref g2, .ref qmi])), (g, .inr (0, [.ref so, .ref lo, .ref qpr, .ref qpa, .int (nI dy), .long co, .long wo])), (qpr, .inl (cJ, 30, .inr (.inl pr))), (so, .inr (3, [.ref qlk, .ref qln, .ref qhd, .ref qsf, .ref qfp, .ref qfc, .int (nI ly), .int (nI ce), .int da, .int db, .int dr]))] sz)) 0 0 (va_A [(xx, .inr (4, [.ref so, .ref lo, .ref rg, .ref g, .ref g2, .ref qmi])), (g, .inr (0, [.ref so, .ref lo, .ref qpr, .ref qpa, .int (nI dy), .long co, .long wo])), (qpr, .inl (cJ, 30, .inr (.inl pr))), (so, .inr (3, [.ref qlk, .ref qln, .ref qhd, .ref qsf, .ref qfp, .ref qfc, .int (nI ly), .int (nI ce), .int da, .int db, .int dr]))] sz) := by
  refine Met.ofW (cc := bX_balance) (maxL := 1) (ret := (some .boolean)) (by decide) rfl ?_
  intro p e s m args below meth c s₁ B hml hv
  obtain ⟨rfl, hsz, hP, hK, hD0⟩ := hv
  have hx := B.exec
  have hb := B.bytes
  have hr := B.returns
  have hts := atoms_spec (ws := wX_balance) B.pre
  have hown : s.vm.findClass R_X = some m.cls := findClass_of_methodNamed B.named
  have htw : ∀ w ∈ WA, w.before _ s = true := fun w h => hts w (List.mem_cons_of_mem _ h)
  clear hts
  have hlocks := B.notSynchronized
  subst hsz
  have hD := hD0.self (sz := s.heap.size)
  generalize hAe : va_A [(xx, .inr (4, [.ref so, .ref lo, .ref rg, .ref g, .ref g2, .ref qmi])), (g, .inr (0, [.ref so, .ref lo, .ref qpr, .ref qpa, .int (nI dy), .long co, .long wo])), (qpr, .inl (cJ, 30, .inr (.inl pr))), (so, .inr (3, [.ref qlk, .ref qln, .ref qhd, .ref qsf, .ref qfp, .ref qfc, .int (nI ly), .int (nI ce), .int da, .int db, .int dr]))] s.heap.size = A at hD ⊢
  have hA : ∀ q : Nat, s.heap.size ≤ q → A q := fun q h => by rw [← hAe]; exact Or.inr h
  clear hAe hD0
  have hS : va_S A s.heap s.heap [] := va_S.rf
  have hP : va_P (dC, dI) vwCl [(xx, .inr (4, [.ref so, .ref lo, .ref rg, .ref g, .ref g2, .ref qmi])), (g, .inr (0, [.ref so, .ref lo, .ref qpr, .ref qpa, .int (nI dy), .long co, .long wo])), (qpr, .inl (cJ, 30, .inr (.inl pr))), (so, .inr (3, [.ref qlk, .ref qln, .ref qhd, .ref qsf, .ref qfp, .ref qfc, .int (nI ly), .int (nI ce), .int da, .int db, .int dr]))] s.heap := hP
  have hl := lv_entry ([.ref xx]) (n := 1) (Nat.le_of_ble_eq_true rfl)
  rw [lg_entry_eq]
  generalize (lg_sl ([.ref xx]) ++ List.replicate (1 - (lg_sl ([.ref xx])).length) Slot.unset).toArray = ls at hl ⊢
  have hl : lv_has ls 1 [(0, .ref xx)] := hl
  refine lv_aload_n hx hb dX_balance_0 rfl (lv_at hl 0 rfl) ?_
  refine va_get (D := (dC, dI)) (ci := 4) (v := .ref g) (C := R_X) (T := T_X) (N := 6) hx hb htw in_X hown hK hP 0 rfl rfl 3 (by decide) (htw _ m_144) (fun _ h9 => h9) rfl dX_balance_1 ?_
  refine va_get (D := (dC, dI)) (ci := 0) (v := .long co) (C := R_G) (T := T_G) (N := 7) hx hb htw in_G hown hK hP 1 rfl rfl 5 (by decide) (htw _ m_123) (fun _ h9 => h9) rfl dX_balance_4 ?_
  refine lv_aload_n hx hb dX_balance_7 rfl (lv_at hl 0 rfl) ?_
  refine va_get (D := (dC, dI)) (ci := 4) (v := .ref so) (C := R_X) (T := T_X) (N := 6) hx hb htw in_X hown hK hP 0 rfl rfl 0 (by decide) (htw _ m_141) (fun _ h9 => h9) rfl dX_balance_8 ?_
  refine va_get (D := (dC, dI)) (ci := 3) (v := .int (nI ce)) (C := R_S) (T := T_S) (N := 11) hx hb htw in_S hown hK hP 3 rfl rfl 7 (by decide) (htw _ m_34) (fun _ h9 => h9) rfl dX_balance_11 ?_
  refine lv_i2l (v := (nI ce).toInt64) hx hb dX_balance_14 rfl ?_
  refine lv_lmul hx hb dX_balance_15 ?_
  refine lv_aload_n hx hb dX_balance_16 rfl (lv_at hl 0 rfl) ?_
  refine va_get (D := (dC, dI)) (ci := 4) (v := .ref g) (C := R_X) (T := T_X) (N := 6) hx hb htw in_X hown hK hP 0 rfl rfl 3 (by decide) (htw _ m_144) (fun _ h9 => h9) rfl dX_balance_17 ?_
  have hPc := hP.sub (ws' := [(g, .inr (0, [.ref so, .ref lo, .ref qpr, .ref qpa, .int (nI dy), .long co, .long wo])), (qpr, .inl (cJ, 30, .inr (.inl pr))), (so, .inr (3, [.ref qlk, .ref qln, .ref qhd, .ref qsf, .ref qfp, .ref qfc, .int (nI ly), .int (nI ce), .int da, .int db, .int dr]))]) [1, 2, 3] rfl
  have hDc := hD.sub (ws' := [(g, .inr (0, [.ref so, .ref lo, .ref qpr, .ref qpa, .int (nI dy), .long co, .long wo])), (qpr, .inl (cJ, 30, .inr (.inl pr))), (so, .inr (3, [.ref qlk, .ref qln, .ref qhd, .ref qsf, .ref qfp, .ref qfc, .int (nI ly), .int (nI ce), .int da, .int db, .int dr]))]) [1, 2, 3] (by decide) rfl
  have hFc := va_free (wc := [(g, .inr (0, [.ref so, .ref lo, .ref qpr, .ref qpa, .int (nI dy), .long co, .long wo])), (qpr, .inl (cJ, 30, .inr (.inl pr))), (so, .inr (3, [.ref qlk, .ref qln, .ref qhd, .ref qsf, .ref qfp, .ref qfc, .int (nI ly), .int (nI ce), .int da, .int db, .int dr]))]) hD hS hA [1, 2, 3] rfl
  refine va_calll (va_runV (As := []) (rest := [.long (co * ((nI ce).toInt64))]) ⟨hx, hb, hml, hown, htw⟩ (kG_allPressures l dC dI cI cJ g so lo qpr qpa qlk qln qhd qsf qfp qfc s.heap.size dy co wo pr ly ce da db dr (by first | assumption | omega | decide)) (cwV 0 htw (wv_good m_264 m_265 m_266 m_5 m_267) rfl rfl rfl (by decide +kernel) ⟨Nat.le_of_ble_eq_true rfl, Nat.le_of_ble_eq_true rfl⟩) ⟨fun a U g mk q => by obtain ⟨q0, q1, qP, qK, qD⟩ := q; exact ⟨q0, q1, qP, va_K.moved (u := U) (U := U.calling g mk a) (Vm.Alike.refl U.vm) qK, qD⟩, va_recv hK hPc (ci := 0) (q0 := 0) rfl rfl, fun U hU hW => ⟨rfl, by rw [hU], by rw [hU]; exact hPc, va_K.moved hW.alike hK, hDc.weaken (fun _ _ _ _ => trivial)⟩⟩ rfl rfl hl.1 rfl (lv_room (Nat.le_of_ble_eq_true rfl)) dX_balance_20 ⟨Nat.le_of_ble_eq_true rfl, Nat.le_of_ble_eq_true rfl⟩) hS (fun q _ h => hFc q h) hFc (fun res_ u_ t H1 locs ht hvm hw hB hz1 hk1 hS => ?_)
  obtain ⟨hP1, hK1, hD1⟩ := hB
  rw [ht] at hP1
  obtain ⟨hP, hD⟩ := va_join (wr := [(xx, .inr (4, [.ref so, .ref lo, .ref rg, .ref g, .ref g2, .ref qmi]))]) (w1 := [(g, .inr (0, [.ref so, .ref lo, .ref qpr, .ref qpa, .int (nI dy), .long co, .long wo])), (qpr, .inl (cJ, 30, .inr (.inl pr))), (so, .inr (3, [.ref qlk, .ref qln, .ref qhd, .ref qsf, .ref qfp, .ref qfc, .int (nI ly), .int (nI ce), .int da, .int db, .int dr]))]) hP hD [1, 2, 3] [0] rfl rfl (by decide) (by decide) hk1 hFc hP1 hD1
  generalize H1 = H at hP hS ⊢
  have hP : va_P (dC, dI) vwCl [(xx, .inr (4, [.ref so, .ref lo, .ref rg, .ref g, .ref g2, .ref qmi])), (g, .inr (0, [.ref so, .ref lo, .ref qpr, .ref qpa, .int (nI dy), .long co, .long wo])), (qpr, .inl (cJ, 30, .inr (.inl pr))), (so, .inr (3, [.ref qlk, .ref qln, .ref qhd, .ref qsf, .ref qfp, .ref qfc, .int (nI ly), .int (nI ce), .int da, .int db, .int dr]))] H := hP
  have hD : va_D A [(xx, .inr (4, [.ref so, .ref lo, .ref rg, .ref g, .ref g2, .ref qmi])), (g, .inr (0, [.ref so, .ref lo, .ref qpr, .ref qpa, .int (nI dy), .long co, .long wo])), (qpr, .inl (cJ, 30, .inr (.inl pr))), (so, .inr (3, [.ref qlk, .ref qln, .ref qhd, .ref qsf, .ref qfp, .ref qfc, .int (nI ly), .int (nI ce), .int da, .int db, .int dr]))] := hD
  clear hPc hDc hFc hP1 hD1 hK1 hk1 hz1 hvm ht
  obtain rfl : k_sum pr ce = res_ := hw.symm
  refine lv_aload_n hx hb dX_balance_23 rfl (lv_at hl 0 rfl) ?_
  refine va_get (D := (dC, dI)) (ci := 4) (v := .ref g) (C := R_X) (T := T_X) (N := 6) hx hb htw in_X hown hK hP 0 rfl rfl 3 (by decide) (htw _ m_144) (fun _ h9 => h9) rfl dX_balance_24 ?_
  refine va_get (D := (dC, dI)) (ci := 0) (v := .long wo) (C := R_G) (T := T_G) (N := 7) hx hb htw in_G hown hK hP 1 rfl rfl 6 (by decide) (htw _ m_125) (fun _ h9 => h9) rfl dX_balance_27 ?_
  refine lv_ladd hx hb dX_balance_30 ?_
  refine W.lcmp hx hb dX_balance_31 ?_
  refine lv_if_ne (tgt := 39) hx hb dX_balance_32 (by decide) (fun hc32 => ?_) (fun hc32 => ?_)
  · -- 32 taken
    rw [lg_cmp_eq] at hc32
    have hret := kb_f hc32
    refine lv_iconst (v := nI 0) hx hb dX_balance_39 (by decide) ?_
    have hP : va_P (dC, dI) vwCl [(xx, .inr (4, [.ref so, .ref lo, .ref rg, .ref g, .ref g2, .ref qmi])), (g, .inr (0, [.ref so, .ref lo, .ref qpr, .ref qpa, .int (nI dy), .long co, .long wo])), (qpr, .inl (cJ, 30, .inr (.inl pr))), (so, .inr (3, [.ref qlk, .ref qln, .ref qhd, .ref qsf, .ref qfp, .ref qfc, .int (nI ly), .int (nI ce), .int da, .int db, .int dr]))] H := by first | exact hP | simpa only [] using hP
    have hD : va_D A [(xx, .inr (4, [.ref so, .ref lo, .ref rg, .ref g, .ref g2, .ref qmi])), (g, .inr (0, [.ref so, .ref lo, .ref qpr, .ref qpa, .int (nI dy), .long co, .long wo])), (qpr, .inl (cJ, 30, .inr (.inl pr))), (so, .inr (3, [.ref qlk, .ref qln, .ref qhd, .ref qsf, .ref qfp, .ref qfc, .int (nI ly), .int (nI ce), .int da, .int db, .int dr]))] := by first | exact hD | simpa only [] using hD
    exact W.zret (v := nI 0) hx hb hr (by decide) (fun t ht hW => ⟨⟨nI 0, (), rfl, hret, by rw [ht]; exact hP, va_K.moved hW.alike hK, hD⟩, hS.F ht⟩) hS.2.2 dX_balance_40
  · -- 32 not taken
    rw [lg_cmp_eq] at hc32
    have hret := kb_t hc32
    refine lv_iconst (v := nI 1) hx hb dX_balance_35 (by decide) ?_
    refine lv_goto (tgt := 40) hx hb dX_balance_36 (by decide) ?_
    have hP : va_P (dC, dI) vwCl [(xx, .inr (4, [.ref so, .ref lo, .ref rg, .ref g, .ref g2, .ref qmi])), (g, .inr (0, [.ref so, .ref lo, .ref qpr, .ref qpa, .int (nI dy), .long co, .long wo])), (qpr, .inl (cJ, 30, .inr (.inl pr))), (so, .inr (3, [.ref qlk, .ref qln, .ref qhd, .ref qsf, .ref qfp, .ref qfc, .int (nI ly), .int (nI ce), .int da, .int db, .int dr]))] H := by first | exact hP | simpa only [] using hP
    have hD : va_D A [(xx, .inr (4, [.ref so, .ref lo, .ref rg, .ref g, .ref g2, .ref qmi])), (g, .inr (0, [.ref so, .ref lo, .ref qpr, .ref qpa, .int (nI dy), .long co, .long wo])), (qpr, .inl (cJ, 30, .inr (.inl pr))), (so, .inr (3, [.ref qlk, .ref qln, .ref qhd, .ref qsf, .ref qfp, .ref qfc, .int (nI ly), .int (nI ce), .int da, .int db, .int dr]))] := by first | exact hD | simpa only [] using hD
    exact W.zret (v := nI 1) hx hb hr (by decide) (fun t ht hW => ⟨⟨nI 1, (), rfl, hret, by rw [ht]; exact hP, va_K.moved hW.alike hK, hD⟩, hS.F ht⟩) hS.2.2 dX_balance_40
set_option maxHeartbeats 4000000 in
set_option maxRecDepth 100000 in
theorem kX_drains_ok (l : Launch) (dC : Nat → ClassId) (dI : Nat → Nat → Nat) (cI cJ : ClassId) (xx so lo rg g g2 qmi qlk qln qhd qsf qfp qfc : Nat) (sz : Nat) (xa : Int32) (xb : Int32) (x : Int32) (ly : Nat) (ce : Nat) (da : Int32) (db : Int32) (dr : Int32) (hxa : k_bo xa) (hxb : k_bo xb) (hx1 : 0 ≤ x.toInt ∧ x.toInt ≤ 200) : Met l yX_drains wX_drains ({ frames := 1, cells := 0, slots := 0, locals := 22 }) (va_Pc [.ref xx, .int xa, .int xb, .int x] (fun U => U.heap.size = sz ∧ va_P (dC, dI) vwCl [(xx, .inr (4, [.ref so, .ref lo, .ref rg, .ref g, .ref g2, .ref qmi])), (so, .inr (3, [.ref qlk, .ref qln, .ref qhd, .ref qsf, .ref qfp, .ref qfc, .int (nI ly), .int (nI ce), .int da, .int db, .int dr]))] U.heap ∧ va_K (dC, dI) vwCl [(cI, .int), (cJ, .long)] U ∧ va_D (fun _ => True) [(xx, .inr (4, [.ref so, .ref lo, .ref rg, .ref g, .ref g2, .ref qmi])), (so, .inr (3, [.ref qlk, .ref qln, .ref qhd, .ref qsf, .ref qfp, .ref qfc, .int (nI ly), .int (nI ce), .int da, .int db, .int dr]))])) (va_Qi (fun res_ (_ : Unit) => res_ = nI 1) (fun _ t => va_P (dC, dI) vwCl [(xx, .inr (4, [.ref so, .ref lo, .ref rg, .ref g, .ref g2, .ref qmi])), (so, .inr (3, [.ref qlk, .ref qln, .ref qhd, .ref qsf, .ref qfp, .ref qfc, .int (nI ly), .int (nI ce), .int xa, .int xb, .int x]))] t.heap ∧ va_K (dC, dI) vwCl [(cI, .int), (cJ, .long)] t ∧ va_D (va_A [(xx, .inr (4, [.ref so, .ref lo, .ref rg, .ref g, .ref g2, .ref qmi])), (so, .inr (3, [.ref qlk, .ref qln, .ref qhd, .ref qsf, .ref qfp, .ref qfc, .int (nI ly), .int (nI ce), .int da, .int db, .int dr]))] sz) [(xx, .inr (4, [.ref so, .ref lo, .ref rg, .ref g, .ref g2, .ref qmi])), (so, .inr (3, [.ref qlk, .ref qln, .ref qhd, .ref qsf, .ref qfp, .ref qfc, .int (nI ly), .int (nI ce), .int xa, .int xb, .int x]))]) (va_A [(xx, .inr (4, [.ref so, .ref lo, .ref rg, .ref g, .ref g2, .ref qmi])), (so, .inr (3, [.ref qlk, .ref qln, .ref qhd, .ref qsf, .ref qfp, .ref qfc, .int (nI ly), .int (nI ce), .int da, .int db, .int dr]))] sz)) 0 0 (va_A [(xx, .inr (4, [.ref so, .ref lo, .ref rg, .ref g, .ref g2, .ref qmi])), (so, .inr (3, [.ref qlk, .ref qln, .ref qhd, .ref qsf, .ref qfp, .ref qfc, .int (nI ly), .int (nI ce), .int da, .int db, .int dr]))] sz) := by
  refine Met.ofW (cc := bX_drains) (maxL := 4) (ret := (some .boolean)) (by decide) rfl ?_
  intro p e s m args below meth c s₁ B hml hv
  obtain ⟨rfl, hsz, hP, hK, hD0⟩ := hv
  have hx := B.exec
  have hb := B.bytes
  have hr := B.returns
  have hts := atoms_spec (ws := wX_drains) B.pre
  have hown : s.vm.findClass R_X = some m.cls := findClass_of_methodNamed B.named
  have htw : ∀ w ∈ WA, w.before _ s = true := fun w h => hts w (List.mem_cons_of_mem _ h)
  clear hts
  have hlocks := B.notSynchronized
  subst hsz
  have hD := hD0.self (sz := s.heap.size)
  generalize hAe : va_A [(xx, .inr (4, [.ref so, .ref lo, .ref rg, .ref g, .ref g2, .ref qmi])), (so, .inr (3, [.ref qlk, .ref qln, .ref qhd, .ref qsf, .ref qfp, .ref qfc, .int (nI ly), .int (nI ce), .int da, .int db, .int dr]))] s.heap.size = A at hD ⊢
  have hA : ∀ q : Nat, s.heap.size ≤ q → A q := fun q h => by rw [← hAe]; exact Or.inr h
  clear hAe hD0
  have hS : va_S A s.heap s.heap [] := va_S.rf
  have hP : va_P (dC, dI) vwCl [(xx, .inr (4, [.ref so, .ref lo, .ref rg, .ref g, .ref g2, .ref qmi])), (so, .inr (3, [.ref qlk, .ref qln, .ref qhd, .ref qsf, .ref qfp, .ref qfc, .int (nI ly), .int (nI ce), .int da, .int db, .int dr]))] s.heap := hP
  have hl := lv_entry ([.ref xx, .int xa, .int xb, .int x]) (n := 4) (Nat.le_of_ble_eq_true rfl)
  rw [lg_entry_eq]
  generalize (lg_sl ([.ref xx, .int xa, .int xb, .int x]) ++ List.replicate (4 - (lg_sl ([.ref xx, .int xa, .int xb, .int x])).length) Slot.unset).toArray = ls at hl ⊢
  have hl : lv_has ls 4 [(0, .ref xx), (1, .int xa), (2, .int xb), (3, .int x)] := hl
  refine lv_iload_n hx hb dX_drains_0 rfl (lv_at hl 3 rfl) ?_
  refine lv_iconst (v := nI 0) hx hb dX_drains_1 (by decide) ?_
  refine lv_sipush (v := nI 200) hx hb dX_drains_2 (by decide) ?_
  have hPc := hP.sub (ws' := []) [] rfl
  have hDc := hD.sub (ws' := []) [] (by decide) rfl
  have hFc := va_free (wc := []) hD hS hA [] rfl
  refine va_calli (va_runS (As := [.int x, .int (nI 0), .int (nI 200)]) (rest := []) ⟨hx, hb, hml, hown, htw⟩ (kX_within l dC dI cI cJ s.heap.size x (nI 0) (nI 200)) (va_cwS 3 htw (ws_good m_164 m_165 m_1 m_166) rfl rfl rfl (by decide +kernel) ⟨Nat.le_of_ble_eq_true rfl, Nat.le_of_ble_eq_true rfl⟩) ⟨fun a U g mk q => by obtain ⟨q0, q1, qP, qK, qD⟩ := q; exact ⟨q0, q1, qP, va_K.moved (u := U) (U := U.calling g mk a) (Vm.Alike.refl U.vm) qK, qD⟩, fun U hU hW => ⟨rfl, by rw [hU], by rw [hU]; exact hPc, va_K.moved hW.alike hK, hDc.weaken (fun _ _ _ _ => trivial)⟩⟩ rfl rfl hl.1 rfl (lv_room (Nat.le_of_ble_eq_true rfl)) dX_drains_5 ⟨Nat.le_of_ble_eq_true rfl, Nat.le_of_ble_eq_true rfl⟩) hS (fun q _ h => hFc q h) hFc (fun res_ u_ t H1 locs ht hvm hw hB hz1 hk1 hS => ?_)
  obtain ⟨hP1, hK1, hD1⟩ := hB
  rw [ht] at hP1
  obtain ⟨hP, hD⟩ := va_join (wr := [(xx, .inr (4, [.ref so, .ref lo, .ref rg, .ref g, .ref g2, .ref qmi])), (so, .inr (3, [.ref qlk, .ref qln, .ref qhd, .ref qsf, .ref qfp, .ref qfc, .int (nI ly), .int (nI ce), .int da, .int db, .int dr]))]) (w1 := []) hP hD [] [0, 1] rfl rfl (by decide) (by decide) hk1 hFc hP1 hD1
  generalize H1 = H at hP hS ⊢
  have hP : va_P (dC, dI) vwCl [(xx, .inr (4, [.ref so, .ref lo, .ref rg, .ref g, .ref g2, .ref qmi])), (so, .inr (3, [.ref qlk, .ref qln, .ref qhd, .ref qsf, .ref qfp, .ref qfc, .int (nI ly), .int (nI ce), .int da, .int db, .int dr]))] H := hP
  have hD : va_D A [(xx, .inr (4, [.ref so, .ref lo, .ref rg, .ref g, .ref g2, .ref qmi])), (so, .inr (3, [.ref qlk, .ref qln, .ref qhd, .ref qsf, .ref qfp, .ref qfc, .int (nI ly), .int (nI ce), .int da, .int db, .int dr]))] := hD
  clear hPc hDc hFc hP1 hD1 hK1 hk1 hz1 hvm ht
  obtain rfl : kb ((nI 0) ≤ x ∧ x ≤ (nI 200)) = res_ := hw.symm
  refine lv_if_ne (tgt := 13) hx hb dX_drains_8 (by decide) (fun hc8 => ?_) (fun hc8 => ?_)
  · -- 8 taken
    rw [kb_eq0, k_wi, nI_toInt (n := 0) (by omega), nI_toInt (n := 200) (by omega)] at hc8
    refine lv_aload_n hx hb dX_drains_13 rfl (lv_at hl 0 rfl) ?_
    refine va_get (D := (dC, dI)) (ci := 4) (v := .ref so) (C := R_X) (T := T_X) (N := 6) hx hb htw in_X hown hK hP 0 rfl rfl 0 (by decide) (htw _ m_141) (fun _ h9 => h9) rfl dX_drains_14 ?_
    refine lv_iload_n hx hb dX_drains_17 rfl (lv_at hl 1 rfl) ?_
    refine va_put (D := (dC, dI)) (ci := 3) (v := .int xa) (ty := .boolean) (C := R_S) (T := T_S) (N := 11) hx hb htw in_S ty_S tok_S nnm_S hown hK hP hD hS 1 rfl rfl 8 (by decide) (htw _ m_37) (fun _ h9 => h9) rfl (by decide +kernel) (k_bo_nar hxa) (k_bo_fit hxa) (Nat.le_of_ble_eq_true rfl) dX_drains_18 (fun H locs hP hD hS => ?_)
    have hP : va_P (dC, dI) vwCl [(xx, .inr (4, [.ref so, .ref lo, .ref rg, .ref g, .ref g2, .ref qmi])), (so, .inr (3, [.ref qlk, .ref qln, .ref qhd, .ref qsf, .ref qfp, .ref qfc, .int (nI ly), .int (nI ce), .int xa, .int db, .int dr]))] H := hP
    have hD : va_D A [(xx, .inr (4, [.ref so, .ref lo, .ref rg, .ref g, .ref g2, .ref qmi])), (so, .inr (3, [.ref qlk, .ref qln, .ref qhd, .ref qsf, .ref qfp, .ref qfc, .int (nI ly), .int (nI ce), .int xa, .int db, .int dr]))] := hD
    refine lv_aload_n hx hb dX_drains_21 rfl (lv_at hl 0 rfl) ?_
    refine va_get (D := (dC, dI)) (ci := 4) (v := .ref so) (C := R_X) (T := T_X) (N := 6) hx hb htw in_X hown hK hP 0 rfl rfl 0 (by decide) (htw _ m_141) (fun _ h9 => h9) rfl dX_drains_22 ?_
    refine lv_iload_n hx hb dX_drains_25 rfl (lv_at hl 2 rfl) ?_
    refine va_put (D := (dC, dI)) (ci := 3) (v := .int xb) (ty := .boolean) (C := R_S) (T := T_S) (N := 11) hx hb htw in_S ty_S tok_S nnm_S hown hK hP hD hS 1 rfl rfl 9 (by decide) (htw _ m_39) (fun _ h9 => h9) rfl (by decide +kernel) (k_bo_nar hxb) (k_bo_fit hxb) (Nat.le_of_ble_eq_true rfl) dX_drains_26 (fun H locs hP hD hS => ?_)
    have hP : va_P (dC, dI) vwCl [(xx, .inr (4, [.ref so, .ref lo, .ref rg, .ref g, .ref g2, .ref qmi])), (so, .inr (3, [.ref qlk, .ref qln, .ref qhd, .ref qsf, .ref qfp, .ref qfc, .int (nI ly), .int (nI ce), .int xa, .int xb, .int dr]))] H := hP
    have hD : va_D A [(xx, .inr (4, [.ref so, .ref lo, .ref rg, .ref g, .ref g2, .ref qmi])), (so, .inr (3, [.ref qlk, .ref qln, .ref qhd, .ref qsf, .ref qfp, .ref qfc, .int (nI ly), .int (nI ce), .int xa, .int xb, .int dr]))] := hD
    refine lv_aload_n hx hb dX_drains_29 rfl (lv_at hl 0 rfl) ?_
    refine va_get (D := (dC, dI)) (ci := 4) (v := .ref so) (C := R_X) (T := T_X) (N := 6) hx hb htw in_X hown hK hP 0 rfl rfl 0 (by decide) (htw _ m_141) (fun _ h9 => h9) rfl dX_drains_30 ?_
    refine lv_iload_n hx hb dX_drains_33 rfl (lv_at hl 3 rfl) ?_
    refine va_put (D := (dC, dI)) (ci := 3) (v := .int x) (ty := .int) (C := R_S) (T := T_S) (N := 11) hx hb htw in_S ty_S tok_S nnm_S hown hK hP hD hS 1 rfl rfl 10 (by decide) (htw _ m_41) (fun _ h9 => h9) rfl (by decide +kernel) rfl rfl (Nat.le_of_ble_eq_true rfl) dX_drains_34 (fun H locs hP hD hS => ?_)
    have hP : va_P (dC, dI) vwCl [(xx, .inr (4, [.ref so, .ref lo, .ref rg, .ref g, .ref g2, .ref qmi])), (so, .inr (3, [.ref qlk, .ref qln, .ref qhd, .ref qsf, .ref qfp, .ref qfc, .int (nI ly), .int (nI ce), .int xa, .int xb, .int x]))] H := hP
    have hD : va_D A [(xx, .inr (4, [.ref so, .ref lo, .ref rg, .ref g, .ref g2, .ref qmi])), (so, .inr (3, [.ref qlk, .ref qln, .ref qhd, .ref qsf, .ref qfp, .ref qfc, .int (nI ly), .int (nI ce), .int xa, .int xb, .int x]))] := hD
    refine lv_iconst (v := nI 1) hx hb dX_drains_37 (by decide) ?_
    have hP : va_P (dC, dI) vwCl [(xx, .inr (4, [.ref so, .ref lo, .ref rg, .ref g, .ref g2, .ref qmi])), (so, .inr (3, [.ref qlk, .ref qln, .ref qhd, .ref qsf, .ref qfp, .ref qfc, .int (nI ly), .int (nI ce), .int xa, .int xb, .int x]))] H := by first | exact hP | simpa only [] using hP
    have hD : va_D A [(xx, .inr (4, [.ref so, .ref lo, .ref rg, .ref g, .ref g2, .ref qmi])), (so, .inr (3, [.ref qlk, .ref qln, .ref qhd, .ref qsf, .ref qfp, .ref qfc, .int (nI ly), .int (nI ce), .int xa, .int xb, .int x]))] := by first | exact hD | simpa only [] using hD
    exact W.zret (v := nI 1) hx hb hr (by decide) (fun t ht hW => ⟨⟨nI 1, (), rfl, rfl, by rw [ht]; exact hP, va_K.moved hW.alike hK, hD⟩, hS.F ht⟩) hS.2.2 dX_drains_38
  · -- 8 not taken
    rw [kb_eq0, k_wi, nI_toInt (n := 0) (by omega), nI_toInt (n := 200) (by omega)] at hc8
    exfalso; omega
set_option maxHeartbeats 4000000 in
set_option maxRecDepth 100000 in
theorem kX_drains_bad (l : Launch) (dC : Nat → ClassId) (dI : Nat → Nat → Nat) (cI cJ : ClassId) (xx so lo rg g g2 qmi qlk qln qhd qsf qfp qfc : Nat) (sz : Nat) (xa : Int32) (xb : Int32) (x : Int32) (ly : Nat) (ce : Nat) (da : Int32) (db : Int32) (dr : Int32) (hbad : ¬ (0 ≤ x.toInt ∧ x.toInt ≤ 200)) : Met l yX_drains wX_drains ({ frames := 1, cells := 0, slots := 0, locals := 22 }) (va_Pc [.ref xx, .int xa, .int xb, .int x] (fun U => U.heap.size = sz ∧ va_P (dC, dI) vwCl [(xx, .inr (4, [.ref so, .ref lo, .ref rg, .ref g, .ref g2, .ref qmi])), (so, .inr (3, [.ref qlk, .ref qln, .ref qhd, .ref qsf, .ref qfp, .ref qfc, .int (nI ly), .int (nI ce), .int da, .int db, .int dr]))] U.heap ∧ va_K (dC, dI) vwCl [(cI, .int), (cJ, .long)] U ∧ va_D (fun _ => True) [(xx, .inr (4, [.ref so, .ref lo, .ref rg, .ref g, .ref g2, .ref qmi])), (so, .inr (3, [.ref qlk, .ref qln, .ref qhd, .ref qsf, .ref qfp, .ref qfc, .int (nI ly), .int (nI ce), .int da, .int db, .int dr]))])) (va_Qi (fun res_ (_ : Unit) => res_ = nI 0) (fun _ t => va_P (dC, dI) vwCl [(xx, .inr (4, [.ref so, .ref lo, .ref rg, .ref g, .ref g2, .ref qmi])), (so, .inr (3, [.ref qlk, .ref qln, .ref qhd, .ref qsf, .ref qfp, .ref qfc, .int (nI ly), .int (nI ce), .int da, .int db, .int dr]))] t.heap ∧ va_K (dC, dI) vwCl [(cI, .int), (cJ, .long)] t ∧ va_D (va_A [(xx, .inr (4, [.ref so, .ref lo, .ref rg, .ref g, .ref g2, .ref qmi])), (so, .inr (3, [.ref qlk, .ref qln, .ref qhd, .ref qsf, .ref qfp, .ref qfc, .int (nI ly), .int (nI ce), .int da, .int db, .int dr]))] sz) [(xx, .inr (4, [.ref so, .ref lo, .ref rg, .ref g, .ref g2, .ref qmi])), (so, .inr (3, [.ref qlk, .ref qln, .ref qhd, .ref qsf, .ref qfp, .ref qfc, .int (nI ly), .int (nI ce), .int da, .int db, .int dr]))]) (va_A [(xx, .inr (4, [.ref so, .ref lo, .ref rg, .ref g, .ref g2, .ref qmi])), (so, .inr (3, [.ref qlk, .ref qln, .ref qhd, .ref qsf, .ref qfp, .ref qfc, .int (nI ly), .int (nI ce), .int da, .int db, .int dr]))] sz)) 0 0 (va_A [(xx, .inr (4, [.ref so, .ref lo, .ref rg, .ref g, .ref g2, .ref qmi])), (so, .inr (3, [.ref qlk, .ref qln, .ref qhd, .ref qsf, .ref qfp, .ref qfc, .int (nI ly), .int (nI ce), .int da, .int db, .int dr]))] sz) := by
  refine Met.ofW (cc := bX_drains) (maxL := 4) (ret := (some .boolean)) (by decide) rfl ?_
  intro p e s m args below meth c s₁ B hml hv
  obtain ⟨rfl, hsz, hP, hK, hD0⟩ := hv
  have hx := B.exec
  have hb := B.bytes
  have hr := B.returns
  have hts := atoms_spec (ws := wX_drains) B.pre
  have hown : s.vm.findClass R_X = some m.cls := findClass_of_methodNamed B.named
  have htw : ∀ w ∈ WA, w.before _ s = true := fun w h => hts w (List.mem_cons_of_mem _ h)
  clear hts
  have hlocks := B.notSynchronized
  subst hsz
  have hD := hD0.self (sz := s.heap.size)
  generalize hAe : va_A [(xx, .inr (4, [.ref so, .ref lo, .ref rg, .ref g, .ref g2, .ref qmi])), (so, .inr (3, [.ref qlk, .ref qln, .ref qhd, .ref qsf, .ref qfp, .ref qfc, .int (nI ly), .int (nI ce), .int da, .int db, .int dr]))] s.heap.size = A at hD ⊢
  have hA : ∀ q : Nat, s.heap.size ≤ q → A q := fun q h => by rw [← hAe]; exact Or.inr h
  clear hAe hD0
  have hS : va_S A s.heap s.heap [] := va_S.rf
  have hP : va_P (dC, dI) vwCl [(xx, .inr (4, [.ref so, .ref lo, .ref rg, .ref g, .ref g2, .ref qmi])), (so, .inr (3, [.ref qlk, .ref qln, .ref qhd, .ref qsf, .ref qfp, .ref qfc, .int (nI ly), .int (nI ce), .int da, .int db, .int dr]))] s.heap := hP
  have hl := lv_entry ([.ref xx, .int xa, .int xb, .int x]) (n := 4) (Nat.le_of_ble_eq_true rfl)
  rw [lg_entry_eq]
  generalize (lg_sl ([.ref xx, .int xa, .int xb, .int x]) ++ List.replicate (4 - (lg_sl ([.ref xx, .int xa, .int xb, .int x])).length) Slot.unset).toArray = ls at hl ⊢
  have hl : lv_has ls 4 [(0, .ref xx), (1, .int xa), (2, .int xb), (3, .int x)] := hl
  refine lv_iload_n hx hb dX_drains_0 rfl (lv_at hl 3 rfl) ?_
  refine lv_iconst (v := nI 0) hx hb dX_drains_1 (by decide) ?_
  refine lv_sipush (v := nI 200) hx hb dX_drains_2 (by decide) ?_
  have hPc := hP.sub (ws' := []) [] rfl
  have hDc := hD.sub (ws' := []) [] (by decide) rfl
  have hFc := va_free (wc := []) hD hS hA [] rfl
  refine va_calli (va_runS (As := [.int x, .int (nI 0), .int (nI 200)]) (rest := []) ⟨hx, hb, hml, hown, htw⟩ (kX_within l dC dI cI cJ s.heap.size x (nI 0) (nI 200)) (va_cwS 3 htw (ws_good m_164 m_165 m_1 m_166) rfl rfl rfl (by decide +kernel) ⟨Nat.le_of_ble_eq_true rfl, Nat.le_of_ble_eq_true rfl⟩) ⟨fun a U g mk q => by obtain ⟨q0, q1, qP, qK, qD⟩ := q; exact ⟨q0, q1, qP, va_K.moved (u := U) (U := U.calling g mk a) (Vm.Alike.refl U.vm) qK, qD⟩, fun U hU hW => ⟨rfl, by rw [hU], by rw [hU]; exact hPc, va_K.moved hW.alike hK, hDc.weaken (fun _ _ _ _ => trivial)⟩⟩ rfl rfl hl.1 rfl (lv_room (Nat.le_of_ble_eq_true rfl)) dX_drains_5 ⟨Nat.le_of_ble_eq_true rfl, Nat.le_of_ble_eq_true rfl⟩) hS (fun q _ h => hFc q h) hFc (fun res_ u_ t H1 locs ht hvm hw hB hz1 hk1 hS => ?_)
  obtain ⟨hP1, hK1, hD1⟩ := hB
  rw [ht] at hP1
  obtain ⟨hP, hD⟩ := va_join (wr := [(xx, .inr (4, [.ref so, .ref lo, .ref rg, .ref g, .ref g2, .ref qmi])), (so, .inr (3, [.ref qlk, .ref qln, .ref qhd, .ref qsf, .ref qfp, .ref qfc, .int (nI ly), .int (nI ce), .int da, .int db, .int dr]))]) (w1 := []) hP hD [] [0, 1] rfl rfl (by decide) (by decide) hk1 hFc hP1 hD1
  generalize H1 = H at hP hS ⊢
  have hP : va_P (dC, dI) vwCl [(xx, .inr (4, [.ref so, .ref lo, .ref rg, .ref g, .ref g2, .ref qmi])), (so, .inr (3, [.ref qlk, .ref qln, .ref qhd, .ref qsf, .ref qfp, .ref qfc, .int (nI ly), .int (nI ce), .int da, .int db, .int dr]))] H := hP
  have hD : va_D A [(xx, .inr (4, [.ref so, .ref lo, .ref rg, .ref g, .ref g2, .ref qmi])), (so, .inr (3, [.ref qlk, .ref qln, .ref qhd, .ref qsf, .ref qfp, .ref qfc, .int (nI ly), .int (nI ce), .int da, .int db, .int dr]))] := hD
  clear hPc hDc hFc hP1 hD1 hK1 hk1 hz1 hvm ht
  obtain rfl : kb ((nI 0) ≤ x ∧ x ≤ (nI 200)) = res_ := hw.symm
  refine lv_if_ne (tgt := 13) hx hb dX_drains_8 (by decide) (fun hc8 => ?_) (fun hc8 => ?_)
  · -- 8 taken
    rw [kb_eq0, k_wi, nI_toInt (n := 0) (by omega), nI_toInt (n := 200) (by omega)] at hc8
    exfalso; omega
  · -- 8 not taken
    rw [kb_eq0, k_wi, nI_toInt (n := 0) (by omega), nI_toInt (n := 200) (by omega)] at hc8
    refine lv_iconst (v := nI 0) hx hb dX_drains_11 (by decide) ?_
    have hP : va_P (dC, dI) vwCl [(xx, .inr (4, [.ref so, .ref lo, .ref rg, .ref g, .ref g2, .ref qmi])), (so, .inr (3, [.ref qlk, .ref qln, .ref qhd, .ref qsf, .ref qfp, .ref qfc, .int (nI ly), .int (nI ce), .int da, .int db, .int dr]))] H := by first | exact hP | simpa only [] using hP
    have hD : va_D A [(xx, .inr (4, [.ref so, .ref lo, .ref rg, .ref g, .ref g2, .ref qmi])), (so, .inr (3, [.ref qlk, .ref qln, .ref qhd, .ref qsf, .ref qfp, .ref qfc, .int (nI ly), .int (nI ce), .int da, .int db, .int dr]))] := by first | exact hD | simpa only [] using hD
    exact W.zret (v := nI 0) hx hb hr (by decide) (fun t ht hW => ⟨⟨nI 0, (), rfl, rfl, by rw [ht]; exact hP, va_K.moved hW.alike hK, hD⟩, hS.F ht⟩) hS.2.2 dX_drains_12
set_option maxHeartbeats 4000000 in
set_option maxRecDepth 100000 in
theorem kX_load_ok (l : Launch) (dC : Nat → ClassId) (dI : Nat → Nat → Nat) (cI cJ : ClassId) (xx so lo rg g g2 qmi qpr qpa qld qlz : Nat) (sz : Nat) (x : Int32) (y : Int32) (dy : Nat) (co : Int64) (wo : Int64) (mn : Nat) (sm : Int64) (ld : Nat → Int32) (lz : Nat → Int32) (hdy : dy ≤ 400) (hmn : mn ≤ 12) (hok : ((dy : Int) ≤ x.toInt ∧ x.toInt ≤ 399 ∧ 1 ≤ y.toInt ∧ y.toInt ≤ 200000 ∧ mn < 12)) : Met l yX_load wX_load ({ frames := 1, cells := 0, slots := 0, locals := 22 }) (va_Pc [.ref xx, .int x, .int y] (fun U => U.heap.size = sz ∧ va_P (dC, dI) vwCl [(xx, .inr (4, [.ref so, .ref lo, .ref rg, .ref g, .ref g2, .ref qmi])), (g, .inr (0, [.ref so, .ref lo, .ref qpr, .ref qpa, .int (nI dy), .long co, .long wo])), (lo, .inr (1, [.ref qld, .ref qlz, .int (nI mn), .long sm])), (qld, .inl (cI, 12, .inl ld)), (qlz, .inl (cI, 12, .inl lz))] U.heap ∧ va_K (dC, dI) vwCl [(cI, .int), (cJ, .long)] U ∧ va_D (fun _ => True) [(xx, .inr (4, [.ref so, .ref lo, .ref rg, .ref g, .ref g2, .ref qmi])), (g, .inr (0, [.ref so, .ref lo, .ref qpr, .ref qpa, .int (nI dy), .long co, .long wo])), (lo, .inr (1, [.ref qld, .ref qlz, .int (nI mn), .long sm])), (qld, .inl (cI, 12, .inl ld)), (qlz, .inl (cI, 12, .inl lz))])) (va_Qi (fun res_ (_ : Unit) => res_ = nI (mn + 1)) (fun _ t => va_P (dC, dI) vwCl [(xx, .inr (4, [.ref so, .ref lo, .ref rg, .ref g, .ref g2, .ref qmi])), (g, .inr (0, [.ref so, .ref lo, .ref qpr, .ref qpa, .int (nI dy), .long co, .long wo])), (lo, .inr (1, [.ref qld, .ref qlz, .int (nI (mn + 1)), .long (sm + y.toInt64)])), (qld, .inl (cI, 12, .inl (upd ld mn x))), (qlz, .inl (cI, 12, .inl (upd lz mn y)))] t.heap ∧ va_K (dC, dI) vwCl [(cI, .int), (cJ, .long)] t ∧ va_D (va_A [(xx, .inr (4, [.ref so, .ref lo, .ref rg, .ref g, .ref g2, .ref qmi])), (g, .inr (0, [.ref so, .ref lo, .ref qpr, .ref qpa, .int (nI dy), .long co, .long wo])), (lo, .inr (1, [.ref qld, .ref qlz, .int (nI mn), .long sm])), (qld, .inl (cI, 12, .inl ld)), (qlz, .inl (cI, 12, .inl lz))] sz) [(xx, .inr (4, [.ref so, .ref lo, .ref rg, .ref g, .ref g2, .ref qmi])), (g, .inr (0, [.ref so, .ref lo, .ref qpr, .ref qpa, .int (nI dy), .long co, .long wo])), (lo, .inr (1, [.ref qld, .ref qlz, .int (nI (mn + 1)), .long (sm + y.toInt64)])), (qld, .inl (cI, 12, .inl (upd ld mn x))), (qlz, .inl (cI, 12, .inl (upd lz mn y)))]) (va_A [(xx, .inr (4, [.ref so, .ref lo, .ref rg, .ref g, .ref g2, .ref qmi])), (g, .inr (0, [.ref so, .ref lo, .ref qpr, .ref qpa, .int (nI dy), .long co, .long wo])), (lo, .inr (1, [.ref qld, .ref qlz, .int (nI mn), .long sm])), (qld, .inl (cI, 12, .inl ld)), (qlz, .inl (cI, 12, .inl lz))] sz)) 0 0 (va_A [(xx, .inr (4, [.ref so, .ref lo, .ref rg, .ref g, .ref g2, .ref qmi])), (g, .inr (0, [.ref so, .ref lo, .ref qpr, .ref qpa, .int (nI dy), .long co, .long wo])), (lo, .inr (1, [.ref qld, .ref qlz, .int (nI mn), .long sm])), (qld, .inl (cI, 12, .inl ld)), (qlz, .inl (cI, 12, .inl lz))] sz) := by
  refine Met.ofW (cc := bX_load) (maxL := 3) (ret := (some .int)) (by decide) rfl ?_
  intro p e s m args below meth c s₁ B hml hv
  obtain ⟨rfl, hsz, hP, hK, hD0⟩ := hv
  have hx := B.exec
  have hb := B.bytes
  have hr := B.returns
  have hts := atoms_spec (ws := wX_load) B.pre
  have hown : s.vm.findClass R_X = some m.cls := findClass_of_methodNamed B.named
  have htw : ∀ w ∈ WA, w.before _ s = true := fun w h => hts w (List.mem_cons_of_mem _ h)
  clear hts
  have hlocks := B.notSynchronized
  subst hsz
  have hD := hD0.self (sz := s.heap.size)
  generalize hAe : va_A [(xx, .inr (4, [.ref so, .ref lo, .ref rg, .ref g, .ref g2, .ref qmi])), (g, .inr (0, [.ref so, .ref lo, .ref qpr, .ref qpa, .int (nI dy), .long co, .long wo])), (lo, .inr (1, [.ref qld, .ref qlz, .int (nI mn), .long sm])), (qld, .inl (cI, 12, .inl ld)), (qlz, .inl (cI, 12, .inl lz))] s.heap.size = A at hD ⊢
  have hA : ∀ q : Nat, s.heap.size ≤ q → A q := fun q h => by rw [← hAe]; exact Or.inr h
  clear hAe hD0
  have hS : va_S A s.heap s.heap [] := va_S.rf
  have hP : va_P (dC, dI) vwCl [(xx, .inr (4, [.ref so, .ref lo, .ref rg, .ref g, .ref g2, .ref qmi])), (g, .inr (0, [.ref so, .ref lo, .ref qpr, .ref qpa, .int (nI dy), .long co, .long wo])), (lo, .inr (1, [.ref qld, .ref qlz, .int (nI mn), .long sm])), (qld, .inl (cI, 12, .inl ld)), (qlz, .inl (cI, 12, .inl lz))] s.heap := hP
  have hl := lv_entry ([.ref xx, .int x, .int y]) (n := 3) (Nat.le_of_ble_eq_true rfl)
  rw [lg_entry_eq]
  generalize (lg_sl ([.ref xx, .int x, .int y]) ++ List.replicate (3 - (lg_sl ([.ref xx, .int x, .int y])).length) Slot.unset).toArray = ls at hl ⊢
  have hl : lv_has ls 3 [(0, .ref xx), (1, .int x), (2, .int y)] := hl
  refine lv_iload_n hx hb dX_load_0 rfl (lv_at hl 1 rfl) ?_
  refine lv_aload_n hx hb dX_load_1 rfl (lv_at hl 0 rfl) ?_
  refine va_get (D := (dC, dI)) (ci := 4) (v := .ref g) (C := R_X) (T := T_X) (N := 6) hx hb htw in_X hown hK hP 0 rfl rfl 3 (by decide) (htw _ m_144) (fun _ h9 => h9) rfl dX_load_2 ?_
  refine va_get (D := (dC, dI)) (ci := 0) (v := .int (nI dy)) (C := R_G) (T := T_G) (N := 7) hx hb htw in_G hown hK hP 1 rfl rfl 4 (by decide) (htw _ m_120) (fun _ h9 => h9) rfl dX_load_5 ?_
  refine lv_sipush (v := nI 399) hx hb dX_load_8 (by decide) ?_
  have hPc := hP.sub (ws' := []) [] rfl
  have hDc := hD.sub (ws' := []) [] (by decide) rfl
  have hFc := va_free (wc := []) hD hS hA [] rfl
  refine va_calli (va_runS (As := [.int x, .int (nI dy), .int (nI 399)]) (rest := []) ⟨hx, hb, hml, hown, htw⟩ (kX_within l dC dI cI cJ s.heap.size x (nI dy) (nI 399)) (va_cwS 3 htw (ws_good m_164 m_165 m_1 m_166) rfl rfl rfl (by decide +kernel) ⟨Nat.le_of_ble_eq_true rfl, Nat.le_of_ble_eq_true rfl⟩) ⟨fun a U g mk q => by obtain ⟨q0, q1, qP, qK, qD⟩ := q; exact ⟨q0, q1, qP, va_K.moved (u := U) (U := U.calling g mk a) (Vm.Alike.refl U.vm) qK, qD⟩, fun U hU hW => ⟨rfl, by rw [hU], by rw [hU]; exact hPc, va_K.moved hW.alike hK, hDc.weaken (fun _ _ _ _ => trivial)⟩⟩ rfl rfl hl.1 rfl (lv_room (Nat.le_of_ble_eq_true rfl)) dX_load_11 ⟨Nat.le_of_ble_eq_true rfl, Nat.le_of_ble_eq_true rfl⟩) hS (fun q _ h => hFc q h) hFc (fun res_ u_ t H1 locs ht hvm hw hB hz1 hk1 hS => ?_)
  obtain ⟨hP1, hK1, hD1⟩ := hB
  rw [ht] at hP1
  obtain ⟨hP, hD⟩ := va_join (wr := [(xx, .inr (4, [.ref so, .ref lo, .ref rg, .ref g, .ref g2, .ref qmi])), (g, .inr (0, [.ref so, .ref lo, .ref qpr, .ref qpa, .int (nI dy), .long co, .long wo])), (lo, .inr (1, [.ref qld, .ref qlz, .int (nI mn), .long sm])), (qld, .inl (cI, 12, .inl ld)), (qlz, .inl (cI, 12, .inl lz))]) (w1 := []) hP hD [] [0, 1, 2, 3, 4] rfl rfl (by decide) (by decide) hk1 hFc hP1 hD1
  generalize H1 = H at hP hS ⊢
  have hP : va_P (dC, dI) vwCl [(xx, .inr (4, [.ref so, .ref lo, .ref rg, .ref g, .ref g2, .ref qmi])), (g, .inr (0, [.ref so, .ref lo, .ref qpr, .ref qpa, .int (nI dy), .long co, .long wo])), (lo, .inr (1, [.ref qld, .ref qlz, .int (nI mn), .long sm])), (qld, .inl (cI, 12, .inl ld)), (qlz, .inl (cI, 12, .inl lz))] H := hP
  have hD : va_D A [(xx, .inr (4, [.ref so, .ref lo, .ref rg, .ref g, .ref g2, .ref qmi])), (g, .inr (0, [.ref so, .ref lo, .ref qpr, .ref qpa, .int (nI dy), .long co, .long wo])), (lo, .inr (1, [.ref qld, .ref qlz, .int (nI mn), .long sm])), (qld, .inl (cI, 12, .inl ld)), (qlz, .inl (cI, 12, .inl lz))] := hD
  clear hPc hDc hFc hP1 hD1 hK1 hk1 hz1 hvm ht
  obtain rfl : kb ((nI dy) ≤ x ∧ x ≤ (nI 399)) = res_ := hw.symm
  refine lv_if_eq (tgt := 27) hx hb dX_load_14 (by decide) (fun hc14 => ?_) (fun hc14 => ?_)
  · -- 14 taken
    rw [kb_eq0, k_wi, nI_toInt (n := dy) (by omega), nI_toInt (n := 399) (by omega)] at hc14
    exfalso; omega
  · -- 14 not taken
    rw [kb_eq0, k_wi, nI_toInt (n := dy) (by omega), nI_toInt (n := 399) (by omega)] at hc14
    refine lv_iload_n hx hb dX_load_17 rfl (lv_at hl 2 rfl) ?_
    refine lv_iconst (v := nI 1) hx hb dX_load_18 (by decide) ?_
    refine lv_ldc (v := 200000) hx hb hown (htw _ m_187) dX_load_19 ?_
    refine lv_topi (fun kv ekv => ?_)
    obtain rfl : kv = nI 200000 := by rw [ekv]; decide +kernel
    have hPc := hP.sub (ws' := []) [] rfl
    have hDc := hD.sub (ws' := []) [] (by decide) rfl
    have hFc := va_free (wc := []) hD hS hA [] rfl
    refine va_calli (va_runS (As := [.int y, .int (nI 1), .int (nI 200000)]) (rest := []) ⟨hx, hb, hml, hown, htw⟩ (kX_within l dC dI cI cJ H.size y (nI 1) (nI 200000)) (va_cwS 3 htw (ws_good m_164 m_165 m_1 m_166) rfl rfl rfl (by decide +kernel) ⟨Nat.le_of_ble_eq_true rfl, Nat.le_of_ble_eq_true rfl⟩) ⟨fun a U g mk q => by obtain ⟨q0, q1, qP, qK, qD⟩ := q; exact ⟨q0, q1, qP, va_K.moved (u := U) (U := U.calling g mk a) (Vm.Alike.refl U.vm) qK, qD⟩, fun U hU hW => ⟨rfl, by rw [hU], by rw [hU]; exact hPc, va_K.moved hW.alike hK, hDc.weaken (fun _ _ _ _ => trivial)⟩⟩ rfl rfl hl.1 rfl (lv_room (Nat.le_of_ble_eq_true rfl)) dX_load_21 ⟨Nat.le_of_ble_eq_true rfl, Nat.le_of_ble_eq_true rfl⟩) hS (fun q _ h => hFc q h) hFc (fun res_ u_ t H1 locs ht hvm hw hB hz1 hk1 hS => ?_)
    obtain ⟨hP1, hK1, hD1⟩ := hB
    rw [ht] at hP1
    obtain ⟨hP, hD⟩ := va_join (wr := [(xx, .inr (4, [.ref so, .ref lo, .ref rg, .ref g, .ref g2, .ref qmi])), (g, .inr (0, [.ref so, .ref lo, .ref qpr, .ref qpa, .int (nI dy), .long co, .long wo])), (lo, .inr (1, [.ref qld, .ref qlz, .int (nI mn), .long sm])), (qld, .inl (cI, 12, .inl ld)), (qlz, .inl (cI, 12, .inl lz))]) (w1 := []) hP hD [] [0, 1, 2, 3, 4] rfl rfl (by decide) (by decide) hk1 hFc hP1 hD1
    generalize H1 = H at hP hS ⊢
    have hP : va_P (dC, dI) vwCl [(xx, .inr (4, [.ref so, .ref lo, .ref rg, .ref g, .ref g2, .ref qmi])), (g, .inr (0, [.ref so, .ref lo, .ref qpr, .ref qpa, .int (nI dy), .long co, .long wo])), (lo, .inr (1, [.ref qld, .ref qlz, .int (nI mn), .long sm])), (qld, .inl (cI, 12, .inl ld)), (qlz, .inl (cI, 12, .inl lz))] H := hP
    have hD : va_D A [(xx, .inr (4, [.ref so, .ref lo, .ref rg, .ref g, .ref g2, .ref qmi])), (g, .inr (0, [.ref so, .ref lo, .ref qpr, .ref qpa, .int (nI dy), .long co, .long wo])), (lo, .inr (1, [.ref qld, .ref qlz, .int (nI mn), .long sm])), (qld, .inl (cI, 12, .inl ld)), (qlz, .inl (cI, 12, .inl lz))] := hD
    clear hPc hDc hFc hP1 hD1 hK1 hk1 hz1 hvm ht
    obtain rfl : kb ((nI 1) ≤ y ∧ y ≤ (nI 200000)) = res_ := hw.symm
    refine lv_if_ne (tgt := 29) hx hb dX_load_24 (by decide) (fun hc24 => ?_) (fun hc24 => ?_)
    · -- 24 taken
      rw [kb_eq0, k_wi, nI_toInt (n := 1) (by omega), nI_toInt (n := 200000) (by omega)] at hc24
      refine lv_aload_n hx hb dX_load_29 rfl (lv_at hl 0 rfl) ?_
      refine va_get (D := (dC, dI)) (ci := 4) (v := .ref lo) (C := R_X) (T := T_X) (N := 6) hx hb htw in_X hown hK hP 0 rfl rfl 1 (by decide) (htw _ m_142) (fun _ h9 => h9) rfl dX_load_30 ?_
      refine va_get (D := (dC, dI)) (ci := 1) (v := .int (nI mn)) (C := R_O) (T := T_O) (N := 4) hx hb htw in_O hown hK hP 2 rfl rfl 2 (by decide) (htw _ m_76) (fun _ h9 => h9) rfl dX_load_33 ?_
      refine lv_bipush (v := nI 12) hx hb dX_load_36 (by decide) ?_
      refine lv_icmp_lt (tgt := 43) hx hb dX_load_38 (by decide) (fun hc38 => ?_) (fun hc38 => ?_)
      · -- 38 taken
        rw [nI_ltI (by omega) (by omega)] at hc38
        refine lv_aload_n hx hb dX_load_43 rfl (lv_at hl 0 rfl) ?_
        refine va_get (D := (dC, dI)) (ci := 4) (v := .ref lo) (C := R_X) (T := T_X) (N := 6) hx hb htw in_X hown hK hP 0 rfl rfl 1 (by decide) (htw _ m_142) (fun _ h9 => h9) rfl dX_load_44 ?_
        refine lv_iload_n hx hb dX_load_47 rfl (lv_at hl 1 rfl) ?_
        refine lv_iload_n hx hb dX_load_48 rfl (lv_at hl 2 rfl) ?_
        have hPc := hP.sub (ws' := [(lo, .inr (1, [.ref qld, .ref qlz, .int (nI mn), .long sm])), (qld, .inl (cI, 12, .inl ld)), (qlz, .inl (cI, 12, .inl lz))]) [2, 3, 4] rfl
        have hDc := hD.sub (ws' := [(lo, .inr (1, [.ref qld, .ref qlz, .int (nI mn), .long sm])), (qld, .inl (cI, 12, .inl ld)), (qlz, .inl (cI, 12, .inl lz))]) [2, 3, 4] (by decide) rfl
        have hFc := va_free (wc := [(lo, .inr (1, [.ref qld, .ref qlz, .int (nI mn), .long sm])), (qld, .inl (cI, 12, .inl ld)), (qlz, .inl (cI, 12, .inl lz))]) hD hS hA [2, 3, 4] rfl
        refine va_calli (va_runV (As := [.int x, .int y]) (rest := []) ⟨hx, hb, hml, hown, htw⟩ (kO_add l dC dI cI cJ lo qld qlz H.size x y mn sm ld lz (by first | assumption | omega | decide)) (cwV 2 htw (wv_good m_188 m_189 m_190 m_3 m_191) rfl rfl rfl (by decide +kernel) ⟨Nat.le_of_ble_eq_true rfl, Nat.le_of_ble_eq_true rfl⟩) ⟨fun a U g mk q => by obtain ⟨q0, q1, qP, qK, qD⟩ := q; exact ⟨q0, q1, qP, va_K.moved (u := U) (U := U.calling g mk a) (Vm.Alike.refl U.vm) qK, qD⟩, va_recv hK hPc (ci := 1) (q0 := 0) rfl rfl, fun U hU hW => ⟨rfl, by rw [hU], by rw [hU]; exact hPc, va_K.moved hW.alike hK, hDc.weaken (fun _ _ _ _ => trivial)⟩⟩ rfl rfl hl.1 rfl (lv_room (Nat.le_of_ble_eq_true rfl)) dX_load_49 ⟨Nat.le_of_ble_eq_true rfl, Nat.le_of_ble_eq_true rfl⟩) hS (fun q _ h => hFc q h) hFc (fun res_ u_ t H1 locs ht hvm hw hB hz1 hk1 hS => ?_)
        obtain ⟨hP1, hK1, hD1⟩ := hB
        rw [ht] at hP1
        obtain ⟨hP, hD⟩ := va_join (wr := [(xx, .inr (4, [.ref so, .ref lo, .ref rg, .ref g, .ref g2, .ref qmi])), (g, .inr (0, [.ref so, .ref lo, .ref qpr, .ref qpa, .int (nI dy), .long co, .long wo]))]) (w1 := [(lo, .inr (1, [.ref qld, .ref qlz, .int (nI (mn + 1)), .long (sm + y.toInt64)])), (qld, .inl (cI, 12, .inl (upd ld mn x))), (qlz, .inl (cI, 12, .inl (upd lz mn y)))]) hP hD [2, 3, 4] [0, 1] rfl rfl (by decide) (by decide) hk1 hFc hP1 hD1
        generalize H1 = H at hP hS ⊢
        have hP : va_P (dC, dI) vwCl [(xx, .inr (4, [.ref so, .ref lo, .ref rg, .ref g, .ref g2, .ref qmi])), (g, .inr (0, [.ref so, .ref lo, .ref qpr, .ref qpa, .int (nI dy), .long co, .long wo])), (lo, .inr (1, [.ref qld, .ref qlz, .int (nI (mn + 1)), .long (sm + y.toInt64)])), (qld, .inl (cI, 12, .inl (upd ld mn x))), (qlz, .inl (cI, 12, .inl (upd lz mn y)))] H := hP
        have hD : va_D A [(xx, .inr (4, [.ref so, .ref lo, .ref rg, .ref g, .ref g2, .ref qmi])), (g, .inr (0, [.ref so, .ref lo, .ref qpr, .ref qpa, .int (nI dy), .long co, .long wo])), (lo, .inr (1, [.ref qld, .ref qlz, .int (nI (mn + 1)), .long (sm + y.toInt64)])), (qld, .inl (cI, 12, .inl (upd ld mn x))), (qlz, .inl (cI, 12, .inl (upd lz mn y)))] := hD
        clear hPc hDc hFc hP1 hD1 hK1 hk1 hz1 hvm ht
        obtain rfl : nI (mn + 1) = res_ := hw.symm
        have hP : va_P (dC, dI) vwCl [(xx, .inr (4, [.ref so, .ref lo, .ref rg, .ref g, .ref g2, .ref qmi])), (g, .inr (0, [.ref so, .ref lo, .ref qpr, .ref qpa, .int (nI dy), .long co, .long wo])), (lo, .inr (1, [.ref qld, .ref qlz, .int (nI (mn + 1)), .long (sm + y.toInt64)])), (qld, .inl (cI, 12, .inl (upd ld mn x))), (qlz, .inl (cI, 12, .inl (upd lz mn y)))] H := by first | exact hP | simpa only [] using hP
        have hD : va_D A [(xx, .inr (4, [.ref so, .ref lo, .ref rg, .ref g, .ref g2, .ref qmi])), (g, .inr (0, [.ref so, .ref lo, .ref qpr, .ref qpa, .int (nI dy), .long co, .long wo])), (lo, .inr (1, [.ref qld, .ref qlz, .int (nI (mn + 1)), .long (sm + y.toInt64)])), (qld, .inl (cI, 12, .inl (upd ld mn x))), (qlz, .inl (cI, 12, .inl (upd lz mn y)))] := by first | exact hD | simpa only [] using hD
        exact W.iret (v := nI (mn + 1)) hx hb hr (fun t ht hW => ⟨⟨nI (mn + 1), (), rfl, rfl, by rw [ht]; exact hP, va_K.moved hW.alike hK, hD⟩, hS.F ht⟩) hS.2.2 dX_load_52
      · -- 38 not taken
        rw [nI_ltI (by omega) (by omega)] at hc38
        exfalso; omega
    · -- 24 not taken
      rw [kb_eq0, k_wi, nI_toInt (n := 1) (by omega), nI_toInt (n := 200000) (by omega)] at hc24
      exfalso; omega
set_option maxHeartbeats 4000000 in
set_option maxRecDepth 100000 in
theorem kX_load_bad (l : Launch) (dC : Nat → ClassId) (dI : Nat → Nat → Nat) (cI cJ : ClassId) (xx so lo rg g g2 qmi qpr qpa qld qlz : Nat) (sz : Nat) (x : Int32) (y : Int32) (dy : Nat) (co : Int64) (wo : Int64) (mn : Nat) (sm : Int64) (ld : Nat → Int32) (lz : Nat → Int32) (hdy : dy ≤ 400) (hmn : mn ≤ 12) (hbad : ¬ ((dy : Int) ≤ x.toInt ∧ x.toInt ≤ 399 ∧ 1 ≤ y.toInt ∧ y.toInt ≤ 200000 ∧ mn < 12)) : Met l yX_load wX_load ({ frames := 1, cells := 0, slots := 0, locals := 22 }) (va_Pc [.ref xx, .int x, .int y] (fun U => U.heap.size = sz ∧ va_P (dC, dI) vwCl [(xx, .inr (4, [.ref so, .ref lo, .ref rg, .ref g, .ref g2, .ref qmi])), (g, .inr (0, [.ref so, .ref lo, .ref qpr, .ref qpa, .int (nI dy), .long co, .long wo])), (lo, .inr (1, [.ref qld, .ref qlz, .int (nI mn), .long sm])), (qld, .inl (cI, 12, .inl ld)), (qlz, .inl (cI, 12, .inl lz))] U.heap ∧ va_K (dC, dI) vwCl [(cI, .int), (cJ, .long)] U ∧ va_D (fun _ => True) [(xx, .inr (4, [.ref so, .ref lo, .ref rg, .ref g, .ref g2, .ref qmi])), (g, .inr (0, [.ref so, .ref lo, .ref qpr, .ref qpa, .int (nI dy), .long co, .long wo])), (lo, .inr (1, [.ref qld, .ref qlz, .int (nI mn), .long sm])), (qld, .inl (cI, 12, .inl ld)), (qlz, .inl (cI, 12, .inl lz))])) (va_Qi (fun res_ (_ : Unit) => res_ = (-1)) (fun _ t => va_P (dC, dI) vwCl [(xx, .inr (4, [.ref so, .ref lo, .ref rg, .ref g, .ref g2, .ref qmi])), (g, .inr (0, [.ref so, .ref lo, .ref qpr, .ref qpa, .int (nI dy), .long co, .long wo])), (lo, .inr (1, [.ref qld, .ref qlz, .int (nI mn), .long sm])), (qld, .inl (cI, 12, .inl ld)), (qlz, .inl (cI, 12, .inl lz))] t.heap ∧ va_K (dC, dI) vwCl [(cI, .int), (cJ, .long)] t ∧ va_D (va_A [(xx, .inr (4, [.ref so, .ref lo, .ref rg, .ref g, .ref g2, .ref qmi])), (g, .inr (0, [.ref so, .ref lo, .ref qpr, .ref qpa, .int (nI dy), .long co, .long wo])), (lo, .inr (1, [.ref qld, .ref qlz, .int (nI mn), .long sm])), (qld, .inl (cI, 12, .inl ld)), (qlz, .inl (cI, 12, .inl lz))] sz) [(xx, .inr (4, [.ref so, .ref lo, .ref rg, .ref g, .ref g2, .ref qmi])), (g, .inr (0, [.ref so, .ref lo, .ref qpr, .ref qpa, .int (nI dy), .long co, .long wo])), (lo, .inr (1, [.ref qld, .ref qlz, .int (nI mn), .long sm])), (qld, .inl (cI, 12, .inl ld)), (qlz, .inl (cI, 12, .inl lz))]) (va_A [(xx, .inr (4, [.ref so, .ref lo, .ref rg, .ref g, .ref g2, .ref qmi])), (g, .inr (0, [.ref so, .ref lo, .ref qpr, .ref qpa, .int (nI dy), .long co, .long wo])), (lo, .inr (1, [.ref qld, .ref qlz, .int (nI mn), .long sm])), (qld, .inl (cI, 12, .inl ld)), (qlz, .inl (cI, 12, .inl lz))] sz)) 0 0 (va_A [(xx, .inr (4, [.ref so, .ref lo, .ref rg, .ref g, .ref g2, .ref qmi])), (g, .inr (0, [.ref so, .ref lo, .ref qpr, .ref qpa, .int (nI dy), .long co, .long wo])), (lo, .inr (1, [.ref qld, .ref qlz, .int (nI mn), .long sm])), (qld, .inl (cI, 12, .inl ld)), (qlz, .inl (cI, 12, .inl lz))] sz) := by
  refine Met.ofW (cc := bX_load) (maxL := 3) (ret := (some .int)) (by decide) rfl ?_
  intro p e s m args below meth c s₁ B hml hv
  obtain ⟨rfl, hsz, hP, hK, hD0⟩ := hv
  have hx := B.exec
  have hb := B.bytes
  have hr := B.returns
  have hts := atoms_spec (ws := wX_load) B.pre
  have hown : s.vm.findClass R_X = some m.cls := findClass_of_methodNamed B.named
  have htw : ∀ w ∈ WA, w.before _ s = true := fun w h => hts w (List.mem_cons_of_mem _ h)
  clear hts
  have hlocks := B.notSynchronized
  subst hsz
  have hD := hD0.self (sz := s.heap.size)
  generalize hAe : va_A [(xx, .inr (4, [.ref so, .ref lo, .ref rg, .ref g, .ref g2, .ref qmi])), (g, .inr (0, [.ref so, .ref lo, .ref qpr, .ref qpa, .int (nI dy), .long co, .long wo])), (lo, .inr (1, [.ref qld, .ref qlz, .int (nI mn), .long sm])), (qld, .inl (cI, 12, .inl ld)), (qlz, .inl (cI, 12, .inl lz))] s.heap.size = A at hD ⊢
  have hA : ∀ q : Nat, s.heap.size ≤ q → A q := fun q h => by rw [← hAe]; exact Or.inr h
  clear hAe hD0
  have hS : va_S A s.heap s.heap [] := va_S.rf
  have hP : va_P (dC, dI) vwCl [(xx, .inr (4, [.ref so, .ref lo, .ref rg, .ref g, .ref g2, .ref qmi])), (g, .inr (0, [.ref so, .ref lo, .ref qpr, .ref qpa, .int (nI dy), .long co, .long wo])), (lo, .inr (1, [.ref qld, .ref qlz, .int (nI mn), .long sm])), (qld, .inl (cI, 12, .inl ld)), (qlz, .inl (cI, 12, .inl lz))] s.heap := hP
  have hl := lv_entry ([.ref xx, .int x, .int y]) (n := 3) (Nat.le_of_ble_eq_true rfl)
  rw [lg_entry_eq]
  generalize (lg_sl ([.ref xx, .int x, .int y]) ++ List.replicate (3 - (lg_sl ([.ref xx, .int x, .int y])).length) Slot.unset).toArray = ls at hl ⊢
  have hl : lv_has ls 3 [(0, .ref xx), (1, .int x), (2, .int y)] := hl
  refine lv_iload_n hx hb dX_load_0 rfl (lv_at hl 1 rfl) ?_
  refine lv_aload_n hx hb dX_load_1 rfl (lv_at hl 0 rfl) ?_
  refine va_get (D := (dC, dI)) (ci := 4) (v := .ref g) (C := R_X) (T := T_X) (N := 6) hx hb htw in_X hown hK hP 0 rfl rfl 3 (by decide) (htw _ m_144) (fun _ h9 => h9) rfl dX_load_2 ?_
  refine va_get (D := (dC, dI)) (ci := 0) (v := .int (nI dy)) (C := R_G) (T := T_G) (N := 7) hx hb htw in_G hown hK hP 1 rfl rfl 4 (by decide) (htw _ m_120) (fun _ h9 => h9) rfl dX_load_5 ?_
  refine lv_sipush (v := nI 399) hx hb dX_load_8 (by decide) ?_
  have hPc := hP.sub (ws' := []) [] rfl
  have hDc := hD.sub (ws' := []) [] (by decide) rfl
  have hFc := va_free (wc := []) hD hS hA [] rfl
  refine va_calli (va_runS (As := [.int x, .int (nI dy), .int (nI 399)]) (rest := []) ⟨hx, hb, hml, hown, htw⟩ (kX_within l dC dI cI cJ s.heap.size x (nI dy) (nI 399)) (va_cwS 3 htw (ws_good m_164 m_165 m_1 m_166) rfl rfl rfl (by decide +kernel) ⟨Nat.le_of_ble_eq_true rfl, Nat.le_of_ble_eq_true rfl⟩) ⟨fun a U g mk q => by obtain ⟨q0, q1, qP, qK, qD⟩ := q; exact ⟨q0, q1, qP, va_K.moved (u := U) (U := U.calling g mk a) (Vm.Alike.refl U.vm) qK, qD⟩, fun U hU hW => ⟨rfl, by rw [hU], by rw [hU]; exact hPc, va_K.moved hW.alike hK, hDc.weaken (fun _ _ _ _ => trivial)⟩⟩ rfl rfl hl.1 rfl (lv_room (Nat.le_of_ble_eq_true rfl)) dX_load_11 ⟨Nat.le_of_ble_eq_true rfl, Nat.le_of_ble_eq_true rfl⟩) hS (fun q _ h => hFc q h) hFc (fun res_ u_ t H1 locs ht hvm hw hB hz1 hk1 hS => ?_)
  obtain ⟨hP1, hK1, hD1⟩ := hB
  rw [ht] at hP1
  obtain ⟨hP, hD⟩ := va_join (wr := [(xx, .inr (4, [.ref so, .ref lo, .ref rg, .ref g, .ref g2, .ref qmi])), (g, .inr (0, [.ref so, .ref lo, .ref qpr, .ref qpa, .int (nI dy), .long co, .long wo])), (lo, .inr (1, [.ref qld, .ref qlz, .int (nI mn), .long sm])), (qld, .inl (cI, 12, .inl ld)), (qlz, .inl (cI, 12, .inl lz))]) (w1 := []) hP hD [] [0, 1, 2, 3, 4] rfl rfl (by decide) (by decide) hk1 hFc hP1 hD1
  generalize H1 = H at hP hS ⊢
  have hP : va_P (dC, dI) vwCl [(xx, .inr (4, [.ref so, .ref lo, .ref rg, .ref g, .ref g2, .ref qmi])), (g, .inr (0, [.ref so, .ref lo, .ref qpr, .ref qpa, .int (nI dy), .long co, .long wo])), (lo, .inr (1, [.ref qld, .ref qlz, .int (nI mn), .long sm])), (qld, .inl (cI, 12, .inl ld)), (qlz, .inl (cI, 12, .inl lz))] H := hP
  have hD : va_D A [(xx, .inr (4, [.ref so, .ref lo, .ref rg, .ref g, .ref g2, .ref qmi])), (g, .inr (0, [.ref so, .ref lo, .ref qpr, .ref qpa, .int (nI dy), .long co, .long wo])), (lo, .inr (1, [.ref qld, .ref qlz, .int (nI mn), .long sm])), (qld, .inl (cI, 12, .inl ld)), (qlz, .inl (cI, 12, .inl lz))] := hD
  clear hPc hDc hFc hP1 hD1 hK1 hk1 hz1 hvm ht
  obtain rfl : kb ((nI dy) ≤ x ∧ x ≤ (nI 399)) = res_ := hw.symm
  refine lv_if_eq (tgt := 27) hx hb dX_load_14 (by decide) (fun hc14 => ?_) (fun hc14 => ?_)
  · -- 14 taken
    rw [kb_eq0, k_wi, nI_toInt (n := dy) (by omega), nI_toInt (n := 399) (by omega)] at hc14
    refine lv_iconst (v := (-1)) hx hb dX_load_27 (by decide) ?_
    have hP : va_P (dC, dI) vwCl [(xx, .inr (4, [.ref so, .ref lo, .ref rg, .ref g, .ref g2, .ref qmi])), (g, .inr (0, [.ref so, .ref lo, .ref qpr, .ref qpa, .int (nI dy), .long co, .long wo])), (lo, .inr (1, [.ref qld, .ref qlz, .int (nI mn), .long sm])), (qld, .inl (cI, 12, .inl ld)), (qlz, .inl (cI, 12, .inl lz))] H := by first | exact hP | simpa only [] using hP
    have hD : va_D A [(xx, .inr (4, [.ref so, .ref lo, .ref rg, .ref g, .ref g2, .ref qmi])), (g, .inr (0, [.ref so, .ref lo, .ref qpr, .ref qpa, .int (nI dy), .long co, .long wo])), (lo, .inr (1, [.ref qld, .ref qlz, .int (nI mn), .long sm])), (qld, .inl (cI, 12, .inl ld)), (qlz, .inl (cI, 12, .inl lz))] := by first | exact hD | simpa only [] using hD
    exact W.iret (v := (-1)) hx hb hr (fun t ht hW => ⟨⟨(-1), (), rfl, rfl, by rw [ht]; exact hP, va_K.moved hW.alike hK, hD⟩, hS.F ht⟩) hS.2.2 dX_load_28
  · -- 14 not taken
    rw [kb_eq0, k_wi, nI_toInt (n := dy) (by omega), nI_toInt (n := 399) (by omega)] at hc14
    refine lv_iload_n hx hb dX_load_17 rfl (lv_at hl 2 rfl) ?_
    refine lv_iconst (v := nI 1) hx hb dX_load_18 (by decide) ?_
    refine lv_ldc (v := 200000) hx hb hown (htw _ m_187) dX_load_19 ?_
    refine lv_topi (fun kv ekv => ?_)
    obtain rfl : kv = nI 200000 := by rw [ekv]; decide +kernel
    have hPc := hP.sub (ws' := []) [] rfl
    have hDc := hD.sub (ws' := []) [] (by decide) rfl
    have hFc := va_free (wc := []) hD hS hA [] rfl
    refine va_calli (va_runS (As := [.int y, .int (nI 1), .int (nI 200000)]) (rest := []) ⟨hx, hb, hml, hown, htw⟩ (kX_within l dC dI cI cJ H.size y (nI 1) (nI 200000)) (va_cwS 3 htw (ws_good m_164 m_165 m_1 m_166) rfl rfl rfl (by decide +kernel) ⟨Nat.le_of_ble_eq_true rfl, Nat.le_of_ble_eq_true rfl⟩) ⟨fun a U g mk q => by obtain ⟨q0, q1, qP, qK, qD⟩ := q; exact ⟨q0, q1, qP, va_K.moved (u := U) (U := U.calling g mk a) (Vm.Alike.refl U.vm) qK, qD⟩, fun U hU hW => ⟨rfl, by rw [hU], by rw [hU]; exact hPc, va_K.moved hW.alike hK, hDc.weaken (fun _ _ _ _ => trivial)⟩⟩ rfl rfl hl.1 rfl (lv_room (Nat.le_of_ble_eq_true rfl)) dX_load_21 ⟨Nat.le_of_ble_eq_true rfl, Nat.le_of_ble_eq_true rfl⟩) hS (fun q _ h => hFc q h) hFc (fun res_ u_ t H1 locs ht hvm hw hB hz1 hk1 hS => ?_)
    obtain ⟨hP1, hK1, hD1⟩ := hB
    rw [ht] at hP1
    obtain ⟨hP, hD⟩ := va_join (wr := [(xx, .inr (4, [.ref so, .ref lo, .ref rg, .ref g, .ref g2, .ref qmi])), (g, .inr (0, [.ref so, .ref lo, .ref qpr, .ref qpa, .int (nI dy), .long co, .long wo])), (lo, .inr (1, [.ref qld, .ref qlz, .int (nI mn), .long sm])), (qld, .inl (cI, 12, .inl ld)), (qlz, .inl (cI, 12, .inl lz))]) (w1 := []) hP hD [] [0, 1, 2, 3, 4] rfl rfl (by decide) (by decide) hk1 hFc hP1 hD1
    generalize H1 = H at hP hS ⊢
    have hP : va_P (dC, dI) vwCl [(xx, .inr (4, [.ref so, .ref lo, .ref rg, .ref g, .ref g2, .ref qmi])), (g, .inr (0, [.ref so, .ref lo, .ref qpr, .ref qpa, .int (nI dy), .long co, .long wo])), (lo, .inr (1, [.ref qld, .ref qlz, .int (nI mn), .long sm])), (qld, .inl (cI, 12, .inl ld)), (qlz, .inl (cI, 12, .inl lz))] H := hP
    have hD : va_D A [(xx, .inr (4, [.ref so, .ref lo, .ref rg, .ref g, .ref g2, .ref qmi])), (g, .inr (0, [.ref so, .ref lo, .ref qpr, .ref qpa, .int (nI dy), .long co, .long wo])), (lo, .inr (1, [.ref qld, .ref qlz, .int (nI mn), .long sm])), (qld, .inl (cI, 12, .inl ld)), (qlz, .inl (cI, 12, .inl lz))] := hD
    clear hPc hDc hFc hP1 hD1 hK1 hk1 hz1 hvm ht
    obtain rfl : kb ((nI 1) ≤ y ∧ y ≤ (nI 200000)) = res_ := hw.symm
    refine lv_if_ne (tgt := 29) hx hb dX_load_24 (by decide) (fun hc24 => ?_) (fun hc24 => ?_)
    · -- 24 taken
      rw [kb_eq0, k_wi, nI_toInt (n := 1) (by omega), nI_toInt (n := 200000) (by omega)] at hc24
      refine lv_aload_n hx hb dX_load_29 rfl (lv_at hl 0 rfl) ?_
      refine va_get (D := (dC, dI)) (ci := 4) (v := .ref lo) (C := R_X) (T := T_X) (N := 6) hx hb htw in_X hown hK hP 0 rfl rfl 1 (by decide) (htw _ m_142) (fun _ h9 => h9) rfl dX_load_30 ?_
      refine va_get (D := (dC, dI)) (ci := 1) (v := .int (nI mn)) (C := R_O) (T := T_O) (N := 4) hx hb htw in_O hown hK hP 2 rfl rfl 2 (by decide) (htw _ m_76) (fun _ h9 => h9) rfl dX_load_33 ?_
      refine lv_bipush (v := nI 12) hx hb dX_load_36 (by decide) ?_
      refine lv_icmp_lt (tgt := 43) hx hb dX_load_38 (by decide) (fun hc38 => ?_) (fun hc38 => ?_)
      · -- 38 taken
        rw [nI_ltI (by omega) (by omega)] at hc38
        exfalso; omega
      · -- 38 not taken
        rw [nI_ltI (by omega) (by omega)] at hc38
        refine lv_iconst (v := (-1)) hx hb dX_load_41 (by decide) ?_
        have hP : va_P (dC, dI) vwCl [(xx, .inr (4, [.ref so, .ref lo, .ref rg, .ref g, .ref g2, .ref qmi])), (g, .inr (0, [.ref so, .ref lo, .ref qpr, .ref qpa, .int (nI dy), .long co, .long wo])), (lo, .inr (1, [.ref qld, .ref qlz, .int (nI mn), .long sm])), (qld, .inl (cI, 12, .inl ld)), (qlz, .inl (cI, 12, .inl lz))] H := by first | exact hP | simpa only [] using hP
        have hD : va_D A [(xx, .inr (4, [.ref so, .ref lo, .ref rg, .ref g, .ref g2, .ref qmi])), (g, .inr (0, [.ref so, .ref lo, .ref qpr, .ref qpa, .int (nI dy), .long co, .long wo])), (lo, .inr (1, [.ref qld, .ref qlz, .int (nI mn), .long sm])), (qld, .inl (cI, 12, .inl ld)), (qlz, .inl (cI, 12, .inl lz))] := by first | exact hD | simpa only [] using hD
        exact W.iret (v := (-1)) hx hb hr (fun t ht hW => ⟨⟨(-1), (), rfl, rfl, by rw [ht]; exact hP, va_K.moved hW.alike hK, hD⟩, hS.F ht⟩) hS.2.2 dX_load_42
    · -- 24 not taken
      rw [kb_eq0, k_wi, nI_toInt (n := 1) (by omega), nI_toInt (n := 200000) (by omega)] at hc24
      refine lv_iconst (v := (-1)) hx hb dX_load_27 (by decide) ?_
      have hP : va_P (dC, dI) vwCl [(xx, .inr (4, [.ref so, .ref lo, .ref rg, .ref g, .ref g2, .ref qmi])), (g, .inr (0, [.ref so, .ref lo, .ref qpr, .ref qpa, .int (nI dy), .long co, .long wo])), (lo, .inr (1, [.ref qld, .ref qlz, .int (nI mn), .long sm])), (qld, .inl (cI, 12, .inl ld)), (qlz, .inl (cI, 12, .inl lz))] H := by first | exact hP | simpa only [] using hP
      have hD : va_D A [(xx, .inr (4, [.ref so, .ref lo, .ref rg, .ref g, .ref g2, .ref qmi])), (g, .inr (0, [.ref so, .ref lo, .ref qpr, .ref qpa, .int (nI dy), .long co, .long wo])), (lo, .inr (1, [.ref qld, .ref qlz, .int (nI mn), .long sm])), (qld, .inl (cI, 12, .inl ld)), (qlz, .inl (cI, 12, .inl lz))] := by first | exact hD | simpa only [] using hD
      exact W.iret (v := (-1)) hx hb hr (fun t ht hW => ⟨⟨(-1), (), rfl, rfl, by rw [ht]; exact hP, va_K.moved hW.alike hK, hD⟩, hS.F ht⟩) hS.2.2 dX_load_28
set_option maxHeartbeats 4000000 in
set_option maxRecDepth 100000 in
theorem kX_layer_ok (l : Launch) (dC : Nat → ClassId) (dI : Nat → Nat → Nat) (cI cJ : ClassId) (xx so lo rg g g2 qmi qpr qpa qlk qln qhd qsf qfp qfc qld qlz : Nat) (sz : Nat) (n : Nat) (x1 : Int32) (x2 : Int32) (x3 : Int32) (x4 : Int32) (dy : Nat) (co : Int64) (wo : Int64) (pa : Nat → Int64) (ly : Nat) (ce : Nat) (da : Int32) (db : Int32) (dr : Int32) (lk : Nat → Int32) (ln : Nat → Int32) (hd : Nat → Int32) (sf : Nat → Int32) (fp : Nat → Int32) (fc : Nat → Int32) (mn : Nat) (sm : Int64) (hdy : dy ≤ 400) (hmn : mn ≤ 12) (hce : ce ≤ 30) (hly : ly < 30) (hn : n < 2147483648) (hok : (dy = 0 ∧ mn = 0 ∧ 1 ≤ n ∧ n ≤ 10 ∧ n + ce ≤ 30 ∧ 0 ≤ x1.toInt ∧ x1.toInt ≤ 300 ∧ 0 ≤ x4.toInt ∧ x4.toInt ≤ 1000000 ∧ 0 ≤ x2.toInt ∧ x2.toInt ≤ 1000 ∧ x2.toInt ≤ x3.toInt ∧ x3.toInt ≤ 1000)) : Met l yX_layer wX_layer ({ frames := 2, cells := 0, slots := 0, locals := 41 }) (va_Pc [.ref xx, .int (nI n), .int x1, .int x2, .int x3, .int x4] (fun U => U.heap.size = sz ∧ va_P (dC, dI) vwCl [(xx, .inr (4, [.ref so, .ref lo, .ref rg, .ref g, .ref g2, .ref qmi])), (g, .inr (0, [.ref so, .ref lo, .ref qpr, .ref qpa, .int (nI dy), .long co, .long wo])), (qpa, .inl (cJ, 30, .inr (.inl pa))), (so, .inr (3, [.ref qlk, .ref qln, .ref qhd, .ref qsf, .ref qfp, .ref qfc, .int (nI ly), .int (nI ce), .int da, .int db, .int dr])), (qlk, .inl (cI, 30, .inl lk)), (qln, .inl (cI, 30, .inl ln)), (qhd, .inl (cI, 30, .inl hd)), (qsf, .inl (cI, 30, .inl sf)), (qfp, .inl (cI, 30, .inl fp)), (qfc, .inl (cI, 31, .inl fc)), (lo, .inr (1, [.ref qld, .ref qlz, .int (nI mn), .long sm]))] U.heap ∧ va_K (dC, dI) vwCl [(cI, .int), (cJ, .long)] U ∧ va_D (fun _ => True) [(xx, .inr (4, [.ref so, .ref lo, .ref rg, .ref g, .ref g2, .ref qmi])), (g, .inr (0, [.ref so, .ref lo, .ref qpr, .ref qpa, .int (nI dy), .long co, .long wo])), (qpa, .inl (cJ, 30, .inr (.inl pa))), (so, .inr (3, [.ref qlk, .ref qln, .ref qhd, .ref qsf, .ref qfp, .ref qfc, .int (nI ly), .int (nI ce), .int da, .int db, .int dr])), (qlk, .inl (cI, 30, .inl lk)), (qln, .inl (cI, 30, .inl ln)), (qhd, .inl (cI, 30, .inl hd)), (qsf, .inl (cI, 30, .inl sf)), (qfp, .inl (cI, 30, .inl fp)), (qfc, .inl (cI, 31, .inl fc)), (lo, .inr (1, [.ref qld, .ref qlz, .int (nI mn), .long sm]))])) (va_Qi (fun res_ (_ : Unit) => res_ = nI ly) (fun _ t => va_P (dC, dI) vwCl [(xx, .inr (4, [.ref so, .ref lo, .ref rg, .ref g, .ref g2, .ref qmi])), (g, .inr (0, [.ref so, .ref lo, .ref qpr, .ref qpa, .int (nI dy), .long co, .long wo])), (qpa, .inl (cJ, 30, .inr (.inl (k_beg pa ce (ce + n) x4.toInt64)))), (so, .inr (3, [.ref qlk, .ref qln, .ref qhd, .ref qsf, .ref qfp, .ref qfc, .int (nI (ly + 1)), .int (nI (ce + n)), .int da, .int db, .int dr])), (qlk, .inl (cI, 30, .inl (k_fi lk ce (ce + n) x1))), (qln, .inl (cI, 30, .inl (k_lnf lk ln ce (ce + n) x1))), (qhd, .inl (cI, 30, .inl (k_fi hd ce (ce + n) x2))), (qsf, .inl (cI, 30, .inl (k_fi sf ce (ce + n) x3))), (qfp, .inl (cI, 30, .inl (k_fi fp ce (ce + n) x4))), (qfc, .inl (cI, 31, .inl (upd fc (ly + 1) (nI (ce + n))))), (lo, .inr (1, [.ref qld, .ref qlz, .int (nI mn), .long sm]))] t.heap ∧ va_K (dC, dI) vwCl [(cI, .int), (cJ, .long)] t ∧ va_D (va_A [(xx, .inr (4, [.ref so, .ref lo, .ref rg, .ref g, .ref g2, .ref qmi])), (g, .inr (0, [.ref so, .ref lo, .ref qpr, .ref qpa, .int (nI dy), .long co, .long wo])), (qpa, .inl (cJ, 30, .inr (.inl pa))), (so, .inr (3, [.ref qlk, .ref qln, .ref qhd, .ref qsf, .ref qfp, .ref qfc, .int (nI ly), .int (nI ce), .int da, .int db, .int dr])), (qlk, .inl (cI, 30, .inl lk)), (qln, .inl (cI, 30, .inl ln)), (qhd, .inl (cI, 30, .inl hd)), (qsf, .inl (cI, 30, .inl sf)), (qfp, .inl (cI, 30, .inl fp)), (qfc, .inl (cI, 31, .inl fc)), (lo, .inr (1, [.ref qld, .ref qlz, .int (nI mn), .long sm]))] sz) [(xx, .inr (4, [.ref so, .ref lo, .ref rg, .ref g, .ref g2, .ref qmi])), (g, .inr (0, [.ref so, .ref lo, .ref qpr, .ref qpa, .int (nI dy), .long co, .long wo])), (qpa, .inl (cJ, 30, .inr (.inl (k_beg pa ce (ce + n) x4.toInt64)))), (so, .inr (3, [.ref qlk, .ref qln, .ref qhd, .ref qsf, .ref qfp, .ref qfc, .int (nI (ly + 1)), .int (nI (ce + n)), .int da, .int db, .int dr])), (qlk, .inl (cI, 30, .inl (k_fi lk ce (ce + n) x1))), (qln, .inl (cI, 30, .inl (k_lnf lk ln ce (ce + n) x1))), (qhd, .inl (cI, 30, .inl (k_fi hd ce (ce + n) x2))), (qsf, .inl (cI, 30, .inl (k_fi sf ce (ce + n) x3))), (qfp, .inl (cI, 30, .inl (k_fi fp ce (ce + n) x4))), (qfc, .inl (cI, 31, .inl (upd fc (ly + 1) (nI (ce + n))))), (lo, .inr (1, [.ref qld, .ref qlz, .int (nI mn), .long sm]))]) (va_A [(xx, .inr (4, [.ref so, .ref lo, .ref rg, .ref g, .ref g2, .ref qmi])), (g, .inr (0, [.ref so, .ref lo, .ref qpr, .ref qpa, .int (nI dy), .long co, .long wo])), (qpa, .inl (cJ, 30, .inr (.inl pa))), (so, .inr (3, [.ref qlk, .ref qln, .ref qhd, .ref qsf, .ref qfp, .ref qfc, .int (nI ly), .int (nI ce), .int da, .int db, .int dr])), (qlk, .inl (cI, 30, .inl lk)), (qln, .inl (cI, 30, .inl ln)), (qhd, .inl (cI, 30, .inl hd)), (qsf, .inl (cI, 30, .inl sf)), (qfp, .inl (cI, 30, .inl fp)), (qfc, .inl (cI, 31, .inl fc)), (lo, .inr (1, [.ref qld, .ref qlz, .int (nI mn), .long sm]))] sz)) 0 0 (va_A [(xx, .inr (4, [.ref so, .ref lo, .ref rg, .ref g, .ref g2, .ref qmi])), (g, .inr (0, [.ref so, .ref lo, .ref qpr, .ref qpa, .int (nI dy), .long co, .long wo])), (qpa, .inl (cJ, 30, .inr (.inl pa))), (so, .inr (3, [.ref qlk, .ref qln, .ref qhd, .ref qsf, .ref qfp, .ref qfc, .int (nI ly), .int (nI ce), .int da, .int db, .int dr])), (qlk, .inl (cI, 30, .inl lk)), (qln, .inl (cI, 30, .inl ln)), (qhd, .inl (cI, 30, .inl hd)), (qsf, .inl (cI, 30, .inl sf)), (qfp, .inl (cI, 30, .inl fp)), (qfc, .inl (cI, 31, .inl fc)), (lo, .inr (1, [.ref qld, .ref qlz, .int (nI mn), .long sm]))] sz) := by
  refine Met.ofW (cc := bX_layer) (maxL := 6) (ret := (some .int)) (by decide) rfl ?_
  intro p e s m args below meth c s₁ B hml hv
  obtain ⟨rfl, hsz, hP, hK, hD0⟩ := hv
  have hx := B.exec
  have hb := B.bytes
  have hr := B.returns
  have hts := atoms_spec (ws := wX_layer) B.pre
  have hown : s.vm.findClass R_X = some m.cls := findClass_of_methodNamed B.named
  have htw : ∀ w ∈ WA, w.before _ s = true := fun w h => hts w (List.mem_cons_of_mem _ h)
  clear hts
  have hlocks := B.notSynchronized
  subst hsz
  have hD := hD0.self (sz := s.heap.size)
  generalize hAe : va_A [(xx, .inr (4, [.ref so, .ref lo, .ref rg, .ref g, .ref g2, .ref qmi])), (g, .inr (0, [.ref so, .ref lo, .ref qpr, .ref qpa, .int (nI dy), .long co, .long wo])), (qpa, .inl (cJ, 30, .inr (.inl pa))), (so, .inr (3, [.ref qlk, .ref qln, .ref qhd, .ref qsf, .ref qfp, .ref qfc, .int (nI ly), .int (nI ce), .int da, .int db, .int dr])), (qlk, .inl (cI, 30, .inl lk)), (qln, .inl (cI, 30, .inl ln)), (qhd, .inl (cI, 30, .inl hd)), (qsf, .inl (cI, 30, .inl sf)), (qfp, .inl (cI, 30, .inl fp)), (qfc, .inl (cI, 31, .inl fc)), (lo, .inr (1, [.ref qld, .ref qlz, .int (nI mn), .long sm]))] s.heap.size = A at hD ⊢
  have hA : ∀ q : Nat, s.heap.size ≤ q → A q := fun q h => by rw [← hAe]; exact Or.inr h
  clear hAe hD0
  have hS : va_S A s.heap s.heap [] := va_S.rf
  have hP : va_P (dC, dI) vwCl [(xx, .inr (4, [.ref so, .ref lo, .ref rg, .ref g, .ref g2, .ref qmi])), (g, .inr (0, [.ref so, .ref lo, .ref qpr, .ref qpa, .int (nI dy), .long co, .long wo])), (qpa, .inl (cJ, 30, .inr (.inl pa))), (so, .inr (3, [.ref qlk, .ref qln, .ref qhd, .ref qsf, .ref qfp, .ref qfc, .int (nI ly), .int (nI ce), .int da, .int db, .int dr])), (qlk, .inl (cI, 30, .inl lk)), (qln, .inl (cI, 30, .inl ln)), (qhd, .inl (cI, 30, .inl hd)), (qsf, .inl (cI, 30, .inl sf)), (qfp, .inl (cI, 30, .inl fp)), (qfc, .inl (cI, 31, .inl fc)), (lo, .inr (1, [.ref qld, .ref qlz, .int (nI mn), .long sm]))] s.heap := hP
  have hl := lv_entry ([.ref xx, .int (nI n), .int x1, .int x2, .int x3, .int x4]) (n := 6) (Nat.le_of_ble_eq_true rfl)
  rw [lg_entry_eq]
  generalize (lg_sl ([.ref xx, .int (nI n), .int x1, .int x2, .int x3, .int x4]) ++ List.replicate (6 - (lg_sl ([.ref xx, .int (nI n), .int x1, .int x2, .int x3, .int x4])).length) Slot.unset).toArray = ls at hl ⊢
  have hl : lv_has ls 6 [(0, .ref xx), (1, .int (nI n)), (2, .int x1), (3, .int x2), (4, .int x3), (5, .int x4)] := hl
  refine lv_aload_n hx hb dX_layer_0 rfl (lv_at hl 0 rfl) ?_
  refine va_get (D := (dC, dI)) (ci := 4) (v := .ref g) (C := R_X) (T := T_X) (N := 6) hx hb htw in_X hown hK hP 0 rfl rfl 3 (by decide) (htw _ m_144) (fun _ h9 => h9) rfl dX_layer_1 ?_
  refine va_get (D := (dC, dI)) (ci := 0) (v := .int (nI dy)) (C := R_G) (T := T_G) (N := 7) hx hb htw in_G hown hK hP 1 rfl rfl 4 (by decide) (htw _ m_120) (fun _ h9 => h9) rfl dX_layer_4 ?_
  refine lv_if_gt (tgt := 20) hx hb dX_layer_7 (by decide) (fun hc7 => ?_) (fun hc7 => ?_)
  · -- 7 taken
    rw [show (0 : Int32) = nI 0 from rfl, nI_ltI (by omega) (by omega)] at hc7
    exfalso; omega
  · -- 7 not taken
    rw [show (0 : Int32) = nI 0 from rfl, nI_ltI (by omega) (by omega)] at hc7
    refine lv_aload_n hx hb dX_layer_10 rfl (lv_at hl 0 rfl) ?_
    refine va_get (D := (dC, dI)) (ci := 4) (v := .ref lo) (C := R_X) (T := T_X) (N := 6) hx hb htw in_X hown hK hP 0 rfl rfl 1 (by decide) (htw _ m_142) (fun _ h9 => h9) rfl dX_layer_11 ?_
    refine va_get (D := (dC, dI)) (ci := 1) (v := .int (nI mn)) (C := R_O) (T := T_O) (N := 4) hx hb htw in_O hown hK hP 10 rfl rfl 2 (by decide) (htw _ m_76) (fun _ h9 => h9) rfl dX_layer_14 ?_
    refine lv_if_le (tgt := 22) hx hb dX_layer_17 (by decide) (fun hc17 => ?_) (fun hc17 => ?_)
    · -- 17 taken
      rw [show (0 : Int32) = nI 0 from rfl, nI_leI (by omega) (by omega)] at hc17
      refine lv_iload_n hx hb dX_layer_22 rfl (lv_at hl 1 rfl) ?_
      refine lv_iconst (v := nI 1) hx hb dX_layer_23 (by decide) ?_
      refine lv_bipush (v := nI 10) hx hb dX_layer_24 (by decide) ?_
      have hPc := hP.sub (ws' := []) [] rfl
      have hDc := hD.sub (ws' := []) [] (by decide) rfl
      have hFc := va_free (wc := []) hD hS hA [] rfl
      refine va_calli (va_runS (As := [.int (nI n), .int (nI 1), .int (nI 10)]) (rest := []) ⟨hx, hb, hml, hown, htw⟩ (kX_within l dC dI cI cJ s.heap.size (nI n) (nI 1) (nI 10)) (va_cwS 3 htw (ws_good m_164 m_165 m_1 m_166) rfl rfl rfl (by decide +kernel) ⟨Nat.le_of_ble_eq_true rfl, Nat.le_of_ble_eq_true rfl⟩) ⟨fun a U g mk q => by obtain ⟨q0, q1, qP, qK, qD⟩ := q; exact ⟨q0, q1, qP, va_K.moved (u := U) (U := U.calling g mk a) (Vm.Alike.refl U.vm) qK, qD⟩, fun U hU hW => ⟨rfl, by rw [hU], by rw [hU]; exact hPc, va_K.moved hW.alike hK, hDc.weaken (fun _ _ _ _ => trivial)⟩⟩ rfl rfl hl.1 rfl (lv_room (Nat.le_of_ble_eq_true rfl)) dX_layer_26 ⟨Nat.le_of_ble_eq_true rfl, Nat.le_of_ble_eq_true rfl⟩) hS (fun q _ h => hFc q h) hFc (fun res_ u_ t H1 locs ht hvm hw hB hz1 hk1 hS => ?_)
      obtain ⟨hP1, hK1, hD1⟩ := hB
      rw [ht] at hP1
      obtain ⟨hP, hD⟩ := va_join (wr := [(xx, .inr (4, [.ref so, .ref lo, .ref rg, .ref g, .ref g2, .ref qmi])), (g, .inr (0, [.ref so, .ref lo, .ref qpr, .ref qpa, .int (nI dy), .long co, .long wo])), (qpa, .inl (cJ, 30, .inr (.inl pa))), (so, .inr (3, [.ref qlk, .ref qln, .ref qhd, .ref qsf, .ref qfp, .ref qfc, .int (nI ly), .int (nI ce), .int da, .int db, .int dr])), (qlk, .inl (cI, 30, .inl lk)), (qln, .inl (cI, 30, .inl ln)), (qhd, .inl (cI, 30, .inl hd)), (qsf, .inl (cI, 30, .inl sf)), (qfp, .inl (cI, 30, .inl fp)), (qfc, .inl (cI, 31, .inl fc)), (lo, .inr (1, [.ref qld, .ref qlz, .int (nI mn), .long sm]))]) (w1 := []) hP hD [] [0, 1, 2, 3, 4, 5, 6, 7, 8, 9, 10] rfl rfl (by decide) (by decide) hk1 hFc hP1 hD1
      generalize H1 = H at hP hS ⊢
      have hP : va_P (dC, dI) vwCl [(xx, .inr (4, [.ref so, .ref lo, .ref rg, .ref g, .ref g2, .ref qmi])), (g, .inr (0, [.ref so, .ref lo, .ref qpr, .ref qpa, .int (nI dy), .long co, .long wo])), (qpa, .inl (cJ, 30, .inr (.inl pa))), (so, .inr (3, [.ref qlk, .ref qln, .ref qhd, .ref qsf, .ref qfp, .ref qfc, .int (nI ly), .int (nI ce), .int da, .int db, .int dr])), (qlk, .inl (cI, 30, .inl lk)), (qln, .inl (cI, 30, .inl ln)), (qhd, .inl (cI, 30, .inl hd)), (qsf, .inl (cI, 30, .inl sf)), (qfp, .inl (cI, 30, .inl fp)), (qfc, .inl (cI, 31, .inl fc)), (lo, .inr (1, [.ref qld, .ref qlz, .int (nI mn), .long sm]))] H := hP
      have hD : va_D A [(xx, .inr (4, [.ref so, .ref lo, .ref rg, .ref g, .ref g2, .ref qmi])), (g, .inr (0, [.ref so, .ref lo, .ref qpr, .ref qpa, .int (nI dy), .long co, .long wo])), (qpa, .inl (cJ, 30, .inr (.inl pa))), (so, .inr (3, [.ref qlk, .ref qln, .ref qhd, .ref qsf, .ref qfp, .ref qfc, .int (nI ly), .int (nI ce), .int da, .int db, .int dr])), (qlk, .inl (cI, 30, .inl lk)), (qln, .inl (cI, 30, .inl ln)), (qhd, .inl (cI, 30, .inl hd)), (qsf, .inl (cI, 30, .inl sf)), (qfp, .inl (cI, 30, .inl fp)), (qfc, .inl (cI, 31, .inl fc)), (lo, .inr (1, [.ref qld, .ref qlz, .int (nI mn), .long sm]))] := hD
      clear hPc hDc hFc hP1 hD1 hK1 hk1 hz1 hvm ht
      obtain rfl : kb ((nI 1) ≤ (nI n) ∧ (nI n) ≤ (nI 10)) = res_ := hw.symm
      refine lv_if_eq (tgt := 46) hx hb dX_layer_29 (by decide) (fun hc29 => ?_) (fun hc29 => ?_)
      · -- 29 taken
        rw [kb_eq0, k_wi, nI_toInt (n := 1) (by omega), nI_toInt (n := n) (by omega), nI_toInt (n := 10) (by omega)] at hc29
        exfalso; omega
      · -- 29 not taken
        rw [kb_eq0, k_wi, nI_toInt (n := 1) (by omega), nI_toInt (n := n) (by omega), nI_toInt (n := 10) (by omega)] at hc29
        refine lv_iload_n hx hb dX_layer_32 rfl (lv_at hl 1 rfl) ?_
        refine lv_bipush (v := nI 30) hx hb dX_layer_33 (by decide) ?_
        refine lv_aload_n hx hb dX_layer_35 rfl (lv_at hl 0 rfl) ?_
        refine va_get (D := (dC, dI)) (ci := 4) (v := .ref so) (C := R_X) (T := T_X) (N := 6) hx hb htw in_X hown hK hP 0 rfl rfl 0 (by decide) (htw _ m_141) (fun _ h9 => h9) rfl dX_layer_36 ?_
        refine va_get (D := (dC, dI)) (ci := 3) (v := .int (nI ce)) (C := R_S) (T := T_S) (N := 11) hx hb htw in_S hown hK hP 3 rfl rfl 7 (by decide) (htw _ m_34) (fun _ h9 => h9) rfl dX_layer_39 ?_
        refine lv_isub hx hb dX_layer_42 ?_
        refine lv_icmp_le (tgt := 48) hx hb dX_layer_43 (by decide) (fun hc43 => ?_) (fun hc43 => ?_)
        · -- 43 taken
          rw [Int32.le_iff_toInt_le, nI_toInt (n := n) (by omega), pk_sub_toInt (a := 30) (b := ce) (by omega) (by omega)] at hc43
          refine lv_iload_n hx hb dX_layer_48 rfl (lv_at hl 2 rfl) ?_
          refine lv_iconst (v := nI 0) hx hb dX_layer_49 (by decide) ?_
          refine lv_sipush (v := nI 300) hx hb dX_layer_50 (by decide) ?_
          have hPc := hP.sub (ws' := []) [] rfl
          have hDc := hD.sub (ws' := []) [] (by decide) rfl
          have hFc := va_free (wc := []) hD hS hA [] rfl
          refine va_calli (va_runS (As := [.int x1, .int (nI 0), .int (nI 300)]) (rest := []) ⟨hx, hb, hml, hown, htw⟩ (kX_within l dC dI cI cJ H.size x1 (nI 0) (nI 300)) (va_cwS 3 htw (ws_good m_164 m_165 m_1 m_166) rfl rfl rfl (by decide +kernel) ⟨Nat.le_of_ble_eq_true rfl, Nat.le_of_ble_eq_true rfl⟩) ⟨fun a U g mk q => by obtain ⟨q0, q1, qP, qK, qD⟩ := q; exact ⟨q0, q1, qP, va_K.moved (u := U) (U := U.calling g mk a) (Vm.Alike.refl U.vm) qK, qD⟩, fun U hU hW => ⟨rfl, by rw [hU], by rw [hU]; exact hPc, va_K.moved hW.alike hK, hDc.weaken (fun _ _ _ _ => trivial)⟩⟩ rfl rfl hl.1 rfl (lv_room (Nat.le_of_ble_eq_true rfl)) dX_layer_53 ⟨Nat.le_of_ble_eq_true rfl, Nat.le_of_ble_eq_true rfl⟩) hS (fun q _ h => hFc q h) hFc (fun res_ u_ t H1 locs ht hvm hw hB hz1 hk1 hS => ?_)
          obtain ⟨hP1, hK1, hD1⟩ := hB
          rw [ht] at hP1
          obtain ⟨hP, hD⟩ := va_join (wr := [(xx, .inr (4, [.ref so, .ref lo, .ref rg, .ref g, .ref g2, .ref qmi])), (g, .inr (0, [.ref so, .ref lo, .ref qpr, .ref qpa, .int (nI dy), .long co, .long wo])), (qpa, .inl (cJ, 30, .inr (.inl pa))), (so, .inr (3, [.ref qlk, .ref qln, .ref qhd, .ref qsf, .ref qfp, .ref qfc, .int (nI ly), .int (nI ce), .int da, .int db, .int dr])), (qlk, .inl (cI, 30, .inl lk)), (qln, .inl (cI, 30, .inl ln)), (qhd, .inl (cI, 30, .inl hd)), (qsf, .inl (cI, 30, .inl sf)), (qfp, .inl (cI, 30, .inl fp)), (qfc, .inl (cI, 31, .inl fc)), (lo, .inr (1, [.ref qld, .ref qlz, .int (nI mn), .long sm]))]) (w1 := []) hP hD [] [0, 1, 2, 3, 4, 5, 6, 7, 8, 9, 10] rfl rfl (by decide) (by decide) hk1 hFc hP1 hD1
          generalize H1 = H at hP hS ⊢
          have hP : va_P (dC, dI) vwCl [(xx, .inr (4, [.ref so, .ref lo, .ref rg, .ref g, .ref g2, .ref qmi])), (g, .inr (0, [.ref so, .ref lo, .ref qpr, .ref qpa, .int (nI dy), .long co, .long wo])), (qpa, .inl (cJ, 30, .inr (.inl pa))), (so, .inr (3, [.ref qlk, .ref qln, .ref qhd, .ref qsf, .ref qfp, .ref qfc, .int (nI ly), .int (nI ce), .int da, .int db, .int dr])), (qlk, .inl (cI, 30, .inl lk)), (qln, .inl (cI, 30, .inl ln)), (qhd, .inl (cI, 30, .inl hd)), (qsf, .inl (cI, 30, .inl sf)), (qfp, .inl (cI, 30, .inl fp)), (qfc, .inl (cI, 31, .inl fc)), (lo, .inr (1, [.ref qld, .ref qlz, .int (nI mn), .long sm]))] H := hP
          have hD : va_D A [(xx, .inr (4, [.ref so, .ref lo, .ref rg, .ref g, .ref g2, .ref qmi])), (g, .inr (0, [.ref so, .ref lo, .ref qpr, .ref qpa, .int (nI dy), .long co, .long wo])), (qpa, .inl (cJ, 30, .inr (.inl pa))), (so, .inr (3, [.ref qlk, .ref qln, .ref qhd, .ref qsf, .ref qfp, .ref qfc, .int (nI ly), .int (nI ce), .int da, .int db, .int dr])), (qlk, .inl (cI, 30, .inl lk)), (qln, .inl (cI, 30, .inl ln)), (qhd, .inl (cI, 30, .inl hd)), (qsf, .inl (cI, 30, .inl sf)), (qfp, .inl (cI, 30, .inl fp)), (qfc, .inl (cI, 31, .inl fc)), (lo, .inr (1, [.ref qld, .ref qlz, .int (nI mn), .long sm]))] := hD
          clear hPc hDc hFc hP1 hD1 hK1 hk1 hz1 hvm ht
          obtain rfl : kb ((nI 0) ≤ x1 ∧ x1 ≤ (nI 300)) = res_ := hw.symm
          refine lv_if_eq (tgt := 70) hx hb dX_layer_56 (by decide) (fun hc56 => ?_) (fun hc56 => ?_)
          · -- 56 taken
            rw [kb_eq0, k_wi, nI_toInt (n := 0) (by omega), nI_toInt (n := 300) (by omega)] at hc56
            exfalso; omega
          · -- 56 not taken
            rw [kb_eq0, k_wi, nI_toInt (n := 0) (by omega), nI_toInt (n := 300) (by omega)] at hc56
            refine lv_iload hx hb dX_layer_59 (lv_at hl 5 rfl) ?_
            refine lv_iconst (v := nI 0) hx hb dX_layer_61 (by decide) ?_
            refine lv_ldc (v := 1000000) hx hb hown (htw _ m_167) dX_layer_62 ?_
            refine lv_topi (fun kv ekv => ?_)
            obtain rfl : kv = nI 1000000 := by rw [ekv]; decide +kernel
            have hPc := hP.sub (ws' := []) [] rfl
            have hDc := hD.sub (ws' := []) [] (by decide) rfl
            have hFc := va_free (wc := []) hD hS hA [] rfl
            refine va_calli (va_runS (As := [.int x4, .int (nI 0), .int (nI 1000000)]) (rest := []) ⟨hx, hb, hml, hown, htw⟩ (kX_within l dC dI cI cJ H.size x4 (nI 0) (nI 1000000)) (va_cwS 3 htw (ws_good m_164 m_165 m_1 m_166) rfl rfl rfl (by decide +kernel) ⟨Nat.le_of_ble_eq_true rfl, Nat.le_of_ble_eq_true rfl⟩) ⟨fun a U g mk q => by obtain ⟨q0, q1, qP, qK, qD⟩ := q; exact ⟨q0, q1, qP, va_K.moved (u := U) (U := U.calling g mk a) (Vm.Alike.refl U.vm) qK, qD⟩, fun U hU hW => ⟨rfl, by rw [hU], by rw [hU]; exact hPc, va_K.moved hW.alike hK, hDc.weaken (fun _ _ _ _ => trivial)⟩⟩ rfl rfl hl.1 rfl (lv_room (Nat.le_of_ble_eq_true rfl)) dX_layer_64 ⟨Nat.le_of_ble_eq_true rfl, Nat.le_of_ble_eq_true rfl⟩) hS (fun q _ h => hFc q h) hFc (fun res_ u_ t H1 locs ht hvm hw hB hz1 hk1 hS => ?_)
            obtain ⟨hP1, hK1, hD1⟩ := hB
            rw [ht] at hP1
            obtain ⟨hP, hD⟩ := va_join (wr := [(xx, .inr (4, [.ref so, .ref lo, .ref rg, .ref g, .ref g2, .ref qmi])), (g, .inr (0, [.ref so, .ref lo, .ref qpr, .ref qpa, .int (nI dy), .long co, .long wo])), (qpa, .inl (cJ, 30, .inr (.inl pa))), (so, .inr (3, [.ref qlk, .ref qln, .ref qhd, .ref qsf, .ref qfp, .ref qfc, .int (nI ly), .int (nI ce), .int da, .int db, .int dr])), (qlk, .inl (cI, 30, .inl lk)), (qln, .inl (cI, 30, .inl ln)), (qhd, .inl (cI, 30, .inl hd)), (qsf, .inl (cI, 30, .inl sf)), (qfp, .inl (cI, 30, .inl fp)), (qfc, .inl (cI, 31, .inl fc)), (lo, .inr (1, [.ref qld, .ref qlz, .int (nI mn), .long sm]))]) (w1 := []) hP hD [] [0, 1, 2, 3, 4, 5, 6, 7, 8, 9, 10] rfl rfl (by decide) (by decide) hk1 hFc hP1 hD1
            generalize H1 = H at hP hS ⊢
            have hP : va_P (dC, dI) vwCl [(xx, .inr (4, [.ref so, .ref lo, .ref rg, .ref g, .ref g2, .ref qmi])), (g, .inr (0, [.ref so, .ref lo, .ref qpr, .ref qpa, .int (nI dy), .long co, .long wo])), (qpa, .inl (cJ, 30, .inr (.inl pa))), (so, .inr (3, [.ref qlk, .ref qln, .ref qhd, .ref qsf, .ref qfp, .ref qfc, .int (nI ly), .int (nI ce), .int da, .int db, .int dr])), (qlk, .inl (cI, 30, .inl lk)), (qln, .inl (cI, 30, .inl ln)), (qhd, .inl (cI, 30, .inl hd)), (qsf, .inl (cI, 30, .inl sf)), (qfp, .inl (cI, 30, .inl fp)), (qfc, .inl (cI, 31, .inl fc)), (lo, .inr (1, [.ref qld, .ref qlz, .int (nI mn), .long sm]))] H := hP
            have hD : va_D A [(xx, .inr (4, [.ref so, .ref lo, .ref rg, .ref g, .ref g2, .ref qmi])), (g, .inr (0, [.ref so, .ref lo, .ref qpr, .ref qpa, .int (nI dy), .long co, .long wo])), (qpa, .inl (cJ, 30, .inr (.inl pa))), (so, .inr (3, [.ref qlk, .ref qln, .ref qhd, .ref qsf, .ref qfp, .ref qfc, .int (nI ly), .int (nI ce), .int da, .int db, .int dr])), (qlk, .inl (cI, 30, .inl lk)), (qln, .inl (cI, 30, .inl ln)), (qhd, .inl (cI, 30, .inl hd)), (qsf, .inl (cI, 30, .inl sf)), (qfp, .inl (cI, 30, .inl fp)), (qfc, .inl (cI, 31, .inl fc)), (lo, .inr (1, [.ref qld, .ref qlz, .int (nI mn), .long sm]))] := hD
            clear hPc hDc hFc hP1 hD1 hK1 hk1 hz1 hvm ht
            obtain rfl : kb ((nI 0) ≤ x4 ∧ x4 ≤ (nI 1000000)) = res_ := hw.symm
            refine lv_if_ne (tgt := 72) hx hb dX_layer_67 (by decide) (fun hc67 => ?_) (fun hc67 => ?_)
            · -- 67 taken
              rw [kb_eq0, k_wi, nI_toInt (n := 0) (by omega), nI_toInt (n := 1000000) (by omega)] at hc67
              refine lv_iload_n hx hb dX_layer_72 rfl (lv_at hl 3 rfl) ?_
              refine lv_iconst (v := nI 0) hx hb dX_layer_73 (by decide) ?_
              refine lv_sipush (v := nI 1000) hx hb dX_layer_74 (by decide) ?_
              have hPc := hP.sub (ws' := []) [] rfl
              have hDc := hD.sub (ws' := []) [] (by decide) rfl
              have hFc := va_free (wc := []) hD hS hA [] rfl
              refine va_calli (va_runS (As := [.int x2, .int (nI 0), .int (nI 1000)]) (rest := []) ⟨hx, hb, hml, hown, htw⟩ (kX_within l dC dI cI cJ H.size x2 (nI 0) (nI 1000)) (va_cwS 3 htw (ws_good m_164 m_165 m_1 m_166) rfl rfl rfl (by decide +kernel) ⟨Nat.le_of_ble_eq_true rfl, Nat.le_of_ble_eq_true rfl⟩) ⟨fun a U g mk q => by obtain ⟨q0, q1, qP, qK, qD⟩ := q; exact ⟨q0, q1, qP, va_K.moved (u := U) (U := U.calling g mk a) (Vm.Alike.refl U.vm) qK, qD⟩, fun U hU hW => ⟨rfl, by rw [hU], by rw [hU]; exact hPc, va_K.moved hW.alike hK, hDc.weaken (fun _ _ _ _ => trivial)⟩⟩ rfl rfl hl.1 rfl (lv_room (Nat.le_of_ble_eq_true rfl)) dX_layer_77 ⟨Nat.le_of_ble_eq_true rfl, Nat.le_of_ble_eq_true rfl⟩) hS (fun q _ h => hFc q h) hFc (fun res_ u_ t H1 locs ht hvm hw hB hz1 hk1 hS => ?_)
              obtain ⟨hP1, hK1, hD1⟩ := hB
              rw [ht] at hP1
              obtain ⟨hP, hD⟩ := va_join (wr := [(xx, .inr (4, [.ref so, .ref lo, .ref rg, .ref g, .ref g2, .ref qmi])), (g, .inr (0, [.ref so, .ref lo, .ref qpr, .ref qpa, .int (nI dy), .long co, .long wo])), (qpa, .inl (cJ, 30, .inr (.inl pa))), (so, .inr (3, [.ref qlk, .ref qln, .ref qhd, .ref qsf, .ref qfp, .ref qfc, .int (nI ly), .int (nI ce), .int da, .int db, .int dr])), (qlk, .inl (cI, 30, .inl lk)), (qln, .inl (cI, 30, .inl ln)), (qhd, .inl (cI, 30, .inl hd)), (qsf, .inl (cI, 30, .inl sf)), (qfp, .inl (cI, 30, .inl fp)), (qfc, .inl (cI, 31, .inl fc)), (lo, .inr (1, [.ref qld, .ref qlz, .int (nI mn), .long sm]))]) (w1 := []) hP hD [] [0, 1, 2, 3, 4, 5, 6, 7, 8, 9, 10] rfl rfl (by decide) (by decide) hk1 hFc hP1 hD1
              generalize H1 = H at hP hS ⊢
              have hP : va_P (dC, dI) vwCl [(xx, .inr (4, [.ref so, .ref lo, .ref rg, .ref g, .ref g2, .ref qmi])), (g, .inr (0, [.ref so, .ref lo, .ref qpr, .ref qpa, .int (nI dy), .long co, .long wo])), (qpa, .inl (cJ, 30, .inr (.inl pa))), (so, .inr (3, [.ref qlk, .ref qln, .ref qhd, .ref qsf, .ref qfp, .ref qfc, .int (nI ly), .int (nI ce), .int da, .int db, .int dr])), (qlk, .inl (cI, 30, .inl lk)), (qln, .inl (cI, 30, .inl ln)), (qhd, .inl (cI, 30, .inl hd)), (qsf, .inl (cI, 30, .inl sf)), (qfp, .inl (cI, 30, .inl fp)), (qfc, .inl (cI, 31, .inl fc)), (lo, .inr (1, [.ref qld, .ref qlz, .int (nI mn), .long sm]))] H := hP
              have hD : va_D A [(xx, .inr (4, [.ref so, .ref lo, .ref rg, .ref g, .ref g2, .ref qmi])), (g, .inr (0, [.ref so, .ref lo, .ref qpr, .ref qpa, .int (nI dy), .long co, .long wo])), (qpa, .inl (cJ, 30, .inr (.inl pa))), (so, .inr (3, [.ref qlk, .ref qln, .ref qhd, .ref qsf, .ref qfp, .ref qfc, .int (nI ly), .int (nI ce), .int da, .int db, .int dr])), (qlk, .inl (cI, 30, .inl lk)), (qln, .inl (cI, 30, .inl ln)), (qhd, .inl (cI, 30, .inl hd)), (qsf, .inl (cI, 30, .inl sf)), (qfp, .inl (cI, 30, .inl fp)), (qfc, .inl (cI, 31, .inl fc)), (lo, .inr (1, [.ref qld, .ref qlz, .int (nI mn), .long sm]))] := hD
              clear hPc hDc hFc hP1 hD1 hK1 hk1 hz1 hvm ht
              obtain rfl : kb ((nI 0) ≤ x2 ∧ x2 ≤ (nI 1000)) = res_ := hw.symm
              refine lv_if_eq (tgt := 95) hx hb dX_layer_80 (by decide) (fun hc80 => ?_) (fun hc80 => ?_)
              · -- 80 taken
                rw [kb_eq0, k_wi, nI_toInt (n := 0) (by omega), nI_toInt (n := 1000) (by omega)] at hc80
                exfalso; omega
              · -- 80 not taken
                rw [kb_eq0, k_wi, nI_toInt (n := 0) (by omega), nI_toInt (n := 1000) (by omega)] at hc80
                refine lv_iload hx hb dX_layer_83 (lv_at hl 4 rfl) ?_
                refine lv_iload_n hx hb dX_layer_85 rfl (lv_at hl 3 rfl) ?_
                refine lv_sipush (v := nI 1000) hx hb dX_layer_86 (by decide) ?_
                have hPc := hP.sub (ws' := []) [] rfl
                have hDc := hD.sub (ws' := []) [] (by decide) rfl
                have hFc := va_free (wc := []) hD hS hA [] rfl
                refine va_calli (va_runS (As := [.int x3, .int x2, .int (nI 1000)]) (rest := []) ⟨hx, hb, hml, hown, htw⟩ (kX_within l dC dI cI cJ H.size x3 x2 (nI 1000)) (va_cwS 3 htw (ws_good m_164 m_165 m_1 m_166) rfl rfl rfl (by decide +kernel) ⟨Nat.le_of_ble_eq_true rfl, Nat.le_of_ble_eq_true rfl⟩) ⟨fun a U g mk q => by obtain ⟨q0, q1, qP, qK, qD⟩ := q; exact ⟨q0, q1, qP, va_K.moved (u := U) (U := U.calling g mk a) (Vm.Alike.refl U.vm) qK, qD⟩, fun U hU hW => ⟨rfl, by rw [hU], by rw [hU]; exact hPc, va_K.moved hW.alike hK, hDc.weaken (fun _ _ _ _ => trivial)⟩⟩ rfl rfl hl.1 rfl (lv_room (Nat.le_of_ble_eq_true rfl)) dX_layer_89 ⟨Nat.le_of_ble_eq_true rfl, Nat.le_of_ble_eq_true rfl⟩) hS (fun q _ h => hFc q h) hFc (fun res_ u_ t H1 locs ht hvm hw hB hz1 hk1 hS => ?_)
                obtain ⟨hP1, hK1, hD1⟩ := hB
                rw [ht] at hP1
                obtain ⟨hP, hD⟩ := va_join (wr := [(xx, .inr (4, [.ref so, .ref lo, .ref rg, .ref g, .ref g2, .ref qmi])), (g, .inr (0, [.ref so, .ref lo, .ref qpr, .ref qpa, .int (nI dy), .long co, .long wo])), (qpa, .inl (cJ, 30, .inr (.inl pa))), (so, .inr (3, [.ref qlk, .ref qln, .ref qhd, .ref qsf, .ref qfp, .ref qfc, .int (nI ly), .int (nI ce), .int da, .int db, .int dr])), (qlk, .inl (cI, 30, .inl lk)), (qln, .inl (cI, 30, .inl ln)), (qhd, .inl (cI, 30, .inl hd)), (qsf, .inl (cI, 30, .inl sf)), (qfp, .inl (cI, 30, .inl fp)), (qfc, .inl (cI, 31, .inl fc)), (lo, .inr (1, [.ref qld, .ref qlz, .int (nI mn), .long sm]))]) (w1 := []) hP hD [] [0, 1, 2, 3, 4, 5, 6, 7, 8, 9, 10] rfl rfl (by decide) (by decide) hk1 hFc hP1 hD1
                generalize H1 = H at hP hS ⊢
                have hP : va_P (dC, dI) vwCl [(xx, .inr (4, [.ref so, .ref lo, .ref rg, .ref g, .ref g2, .ref qmi])), (g, .inr (0, [.ref so, .ref lo, .ref qpr, .ref qpa, .int (nI dy), .long co, .long wo])), (qpa, .inl (cJ, 30, .inr (.inl pa))), (so, .inr (3, [.ref qlk, .ref qln, .ref qhd, .ref qsf, .ref qfp, .ref qfc, .int (nI ly), .int (nI ce), .int da, .int db, .int dr])), (qlk, .inl (cI, 30, .inl lk)), (qln, .inl (cI, 30, .inl ln)), (qhd, .inl (cI, 30, .inl hd)), (qsf, .inl (cI, 30, .inl sf)), (qfp, .inl (cI, 30, .inl fp)), (qfc, .inl (cI, 31, .inl fc)), (lo, .inr (1, [.ref qld, .ref qlz, .int (nI mn), .long sm]))] H := hP
                have hD : va_D A [(xx, .inr (4, [.ref so, .ref lo, .ref rg, .ref g, .ref g2, .ref qmi])), (g, .inr (0, [.ref so, .ref lo, .ref qpr, .ref qpa, .int (nI dy), .long co, .long wo])), (qpa, .inl (cJ, 30, .inr (.inl pa))), (so, .inr (3, [.ref qlk, .ref qln, .ref qhd, .ref qsf, .ref qfp, .ref qfc, .int (nI ly), .int (nI ce), .int da, .int db, .int dr])), (qlk, .inl (cI, 30, .inl lk)), (qln, .inl (cI, 30, .inl ln)), (qhd, .inl (cI, 30, .inl hd)), (qsf, .inl (cI, 30, .inl sf)), (qfp, .inl (cI, 30, .inl fp)), (qfc, .inl (cI, 31, .inl fc)), (lo, .inr (1, [.ref qld, .ref qlz, .int (nI mn), .long sm]))] := hD
                clear hPc hDc hFc hP1 hD1 hK1 hk1 hz1 hvm ht
                obtain rfl : kb (x2 ≤ x3 ∧ x3 ≤ (nI 1000)) = res_ := hw.symm
                refine lv_if_ne (tgt := 97) hx hb dX_layer_92 (by decide) (fun hc92 => ?_) (fun hc92 => ?_)
                · -- 92 taken
                  rw [kb_eq0, k_wi, nI_toInt (n := 1000) (by omega)] at hc92
                  refine lv_aload_n hx hb dX_layer_97 rfl (lv_at hl 0 rfl) ?_
                  refine va_get (D := (dC, dI)) (ci := 4) (v := .ref g) (C := R_X) (T := T_X) (N := 6) hx hb htw in_X hown hK hP 0 rfl rfl 3 (by decide) (htw _ m_144) (fun _ h9 => h9) rfl dX_layer_98 ?_
                  refine lv_aload_n hx hb dX_layer_101 rfl (lv_at hl 0 rfl) ?_
                  refine va_get (D := (dC, dI)) (ci := 4) (v := .ref so) (C := R_X) (T := T_X) (N := 6) hx hb htw in_X hown hK hP 0 rfl rfl 0 (by decide) (htw _ m_141) (fun _ h9 => h9) rfl dX_layer_102 ?_
                  refine va_get (D := (dC, dI)) (ci := 3) (v := .int (nI ce)) (C := R_S) (T := T_S) (N := 11) hx hb htw in_S hown hK hP 3 rfl rfl 7 (by decide) (htw _ m_34) (fun _ h9 => h9) rfl dX_layer_105 ?_
                  refine lv_iload_n hx hb dX_layer_108 rfl (lv_at hl 1 rfl) ?_
                  refine lv_iload hx hb dX_layer_109 (lv_at hl 5 rfl) ?_
                  have hPc := hP.sub (ws' := [(g, .inr (0, [.ref so, .ref lo, .ref qpr, .ref qpa, .int (nI dy), .long co, .long wo])), (qpa, .inl (cJ, 30, .inr (.inl pa)))]) [1, 2] rfl
                  have hDc := hD.sub (ws' := [(g, .inr (0, [.ref so, .ref lo, .ref qpr, .ref qpa, .int (nI dy), .long co, .long wo])), (qpa, .inl (cJ, 30, .inr (.inl pa)))]) [1, 2] (by decide) rfl
                  have hFc := va_free (wc := [(g, .inr (0, [.ref so, .ref lo, .ref qpr, .ref qpa, .int (nI dy), .long co, .long wo])), (qpa, .inl (cJ, 30, .inr (.inl pa)))]) hD hS hA [1, 2] rfl
                  refine va_callv (va_runV (As := [.int (nI ce), .int (nI n), .int x4]) (rest := []) ⟨hx, hb, hml, hown, htw⟩ (kG_begin l dC dI cI cJ g so lo qpr qpa H.size ce n x4 dy co wo pa (by first | assumption | omega | decide)) (cwV 3 htw (wv_good m_168 m_169 m_170 m_5 m_171) rfl rfl rfl (by decide +kernel) ⟨Nat.le_of_ble_eq_true rfl, Nat.le_of_ble_eq_true rfl⟩) ⟨fun a U g mk q => by obtain ⟨q0, q1, qP, qK, qD⟩ := q; exact ⟨q0, q1, qP, va_K.moved (u := U) (U := U.calling g mk a) (Vm.Alike.refl U.vm) qK, qD⟩, va_recv hK hPc (ci := 0) (q0 := 0) rfl rfl, fun U hU hW => ⟨rfl, by rw [hU], by rw [hU]; exact hPc, va_K.moved hW.alike hK, hDc.weaken (fun _ _ _ _ => trivial)⟩⟩ rfl rfl hl.1 rfl (lv_room (Nat.le_of_ble_eq_true rfl)) dX_layer_111 ⟨Nat.le_of_ble_eq_true rfl, Nat.le_of_ble_eq_true rfl⟩) hS (fun q _ h => hFc q h) hFc (fun u_ t H1 locs ht hvm hw hB hz1 hk1 hS => ?_)
                  obtain ⟨hP1, hK1, hD1⟩ := hB
                  rw [ht] at hP1
                  obtain ⟨hP, hD⟩ := va_join (wr := [(xx, .inr (4, [.ref so, .ref lo, .ref rg, .ref g, .ref g2, .ref qmi])), (so, .inr (3, [.ref qlk, .ref qln, .ref qhd, .ref qsf, .ref qfp, .ref qfc, .int (nI ly), .int (nI ce), .int da, .int db, .int dr])), (qlk, .inl (cI, 30, .inl lk)), (qln, .inl (cI, 30, .inl ln)), (qhd, .inl (cI, 30, .inl hd)), (qsf, .inl (cI, 30, .inl sf)), (qfp, .inl (cI, 30, .inl fp)), (qfc, .inl (cI, 31, .inl fc)), (lo, .inr (1, [.ref qld, .ref qlz, .int (nI mn), .long sm]))]) (w1 := [(g, .inr (0, [.ref so, .ref lo, .ref qpr, .ref qpa, .int (nI dy), .long co, .long wo])), (qpa, .inl (cJ, 30, .inr (.inl (k_beg pa ce (ce + n) x4.toInt64))))]) hP hD [1, 2] [0, 3, 4, 5, 6, 7, 8, 9, 10] rfl rfl (by decide) (by decide) hk1 hFc hP1 hD1
                  generalize H1 = H at hP hS ⊢
                  have hP := hP.sub (ws' := [(xx, .inr (4, [.ref so, .ref lo, .ref rg, .ref g, .ref g2, .ref qmi])), (g, .inr (0, [.ref so, .ref lo, .ref qpr, .ref qpa, .int (nI dy), .long co, .long wo])), (qpa, .inl (cJ, 30, .inr (.inl (k_beg pa ce (ce + n) x4.toInt64)))), (so, .inr (3, [.ref qlk, .ref qln, .ref qhd, .ref qsf, .ref qfp, .ref qfc, .int (nI ly), .int (nI ce), .int da, .int db, .int dr])), (qlk, .inl (cI, 30, .inl lk)), (qln, .inl (cI, 30, .inl ln)), (qhd, .inl (cI, 30, .inl hd)), (qsf, .inl (cI, 30, .inl sf)), (qfp, .inl (cI, 30, .inl fp)), (qfc, .inl (cI, 31, .inl fc)), (lo, .inr (1, [.ref qld, .ref qlz, .int (nI mn), .long sm]))]) [0, 9, 10, 1, 2, 3, 4, 5, 6, 7, 8] rfl
                  have hD := hD.sub (ws' := [(xx, .inr (4, [.ref so, .ref lo, .ref rg, .ref g, .ref g2, .ref qmi])), (g, .inr (0, [.ref so, .ref lo, .ref qpr, .ref qpa, .int (nI dy), .long co, .long wo])), (qpa, .inl (cJ, 30, .inr (.inl (k_beg pa ce (ce + n) x4.toInt64)))), (so, .inr (3, [.ref qlk, .ref qln, .ref qhd, .ref qsf, .ref qfp, .ref qfc, .int (nI ly), .int (nI ce), .int da, .int db, .int dr])), (qlk, .inl (cI, 30, .inl lk)), (qln, .inl (cI, 30, .inl ln)), (qhd, .inl (cI, 30, .inl hd)), (qsf, .inl (cI, 30, .inl sf)), (qfp, .inl (cI, 30, .inl fp)), (qfc, .inl (cI, 31, .inl fc)), (lo, .inr (1, [.ref qld, .ref qlz, .int (nI mn), .long sm]))]) [0, 9, 10, 1, 2, 3, 4, 5, 6, 7, 8] (by decide) rfl
                  clear hPc hDc hFc hP1 hD1 hK1 hk1 hz1 hvm ht
                  refine lv_aload_n hx hb dX_layer_114 rfl (lv_at hl 0 rfl) ?_
                  refine va_get (D := (dC, dI)) (ci := 4) (v := .ref so) (C := R_X) (T := T_X) (N := 6) hx hb htw in_X hown hK hP 0 rfl rfl 0 (by decide) (htw _ m_141) (fun _ h9 => h9) rfl dX_layer_115 ?_
                  refine lv_iload_n hx hb dX_layer_118 rfl (lv_at hl 1 rfl) ?_
                  refine lv_iload_n hx hb dX_layer_119 rfl (lv_at hl 2 rfl) ?_
                  refine lv_iload_n hx hb dX_layer_120 rfl (lv_at hl 3 rfl) ?_
                  refine lv_iload hx hb dX_layer_121 (lv_at hl 4 rfl) ?_
                  refine lv_iload hx hb dX_layer_123 (lv_at hl 5 rfl) ?_
                  have hPc := hP.sub (ws' := [(so, .inr (3, [.ref qlk, .ref qln, .ref qhd, .ref qsf, .ref qfp, .ref qfc, .int (nI ly), .int (nI ce), .int da, .int db, .int dr])), (qlk, .inl (cI, 30, .inl lk)), (qln, .inl (cI, 30, .inl ln)), (qhd, .inl (cI, 30, .inl hd)), (qsf, .inl (cI, 30, .inl sf)), (qfp, .inl (cI, 30, .inl fp)), (qfc, .inl (cI, 31, .inl fc))]) [3, 4, 5, 6, 7, 8, 9] rfl
                  have hDc := hD.sub (ws' := [(so, .inr (3, [.ref qlk, .ref qln, .ref qhd, .ref qsf, .ref qfp, .ref qfc, .int (nI ly), .int (nI ce), .int da, .int db, .int dr])), (qlk, .inl (cI, 30, .inl lk)), (qln, .inl (cI, 30, .inl ln)), (qhd, .inl (cI, 30, .inl hd)), (qsf, .inl (cI, 30, .inl sf)), (qfp, .inl (cI, 30, .inl fp)), (qfc, .inl (cI, 31, .inl fc))]) [3, 4, 5, 6, 7, 8, 9] (by decide) rfl
                  have hFc := va_free (wc := [(so, .inr (3, [.ref qlk, .ref qln, .ref qhd, .ref qsf, .ref qfp, .ref qfc, .int (nI ly), .int (nI ce), .int da, .int db, .int dr])), (qlk, .inl (cI, 30, .inl lk)), (qln, .inl (cI, 30, .inl ln)), (qhd, .inl (cI, 30, .inl hd)), (qsf, .inl (cI, 30, .inl sf)), (qfp, .inl (cI, 30, .inl fp)), (qfc, .inl (cI, 31, .inl fc))]) hD hS hA [3, 4, 5, 6, 7, 8, 9] rfl
                  refine va_calli (va_runV (As := [.int (nI n), .int x1, .int x2, .int x3, .int x4]) (rest := []) ⟨hx, hb, hml, hown, htw⟩ (kS_addLayer l dC dI cI cJ so qlk qln qhd qsf qfp qfc H.size n x1 x2 x3 x4 ly ce da db dr lk ln hd sf fp fc (by first | assumption | omega | decide) (by first | assumption | omega | decide)) (cwV 5 htw (wv_good m_172 m_173 m_174 m_2 m_175) rfl rfl rfl (by decide +kernel) ⟨Nat.le_of_ble_eq_true rfl, Nat.le_of_ble_eq_true rfl⟩) ⟨fun a U g mk q => by obtain ⟨q0, q1, qP, qK, qD⟩ := q; exact ⟨q0, q1, qP, va_K.moved (u := U) (U := U.calling g mk a) (Vm.Alike.refl U.vm) qK, qD⟩, va_recv hK hPc (ci := 3) (q0 := 0) rfl rfl, fun U hU hW => ⟨rfl, by rw [hU], by rw [hU]; exact hPc, va_K.moved hW.alike hK, hDc.weaken (fun _ _ _ _ => trivial)⟩⟩ rfl rfl hl.1 rfl (lv_room (Nat.le_of_ble_eq_true rfl)) dX_layer_125 ⟨Nat.le_of_ble_eq_true rfl, Nat.le_of_ble_eq_true rfl⟩) hS (fun q _ h => hFc q h) hFc (fun res_ u_ t H1 locs ht hvm hw hB hz1 hk1 hS => ?_)
                  obtain ⟨hP1, hK1, hD1⟩ := hB
                  rw [ht] at hP1
                  obtain ⟨hP, hD⟩ := va_join (wr := [(xx, .inr (4, [.ref so, .ref lo, .ref rg, .ref g, .ref g2, .ref qmi])), (g, .inr (0, [.ref so, .ref lo, .ref qpr, .ref qpa, .int (nI dy), .long co, .long wo])), (qpa, .inl (cJ, 30, .inr (.inl (k_beg pa ce (ce + n) x4.toInt64)))), (lo, .inr (1, [.ref qld, .ref qlz, .int (nI mn), .long sm]))]) (w1 := [(so, .inr (3, [.ref qlk, .ref qln, .ref qhd, .ref qsf, .ref qfp, .ref qfc, .int (nI (ly + 1)), .int (nI (ce + n)), .int da, .int db, .int dr])), (qlk, .inl (cI, 30, .inl (k_fi lk ce (ce + n) x1))), (qln, .inl (cI, 30, .inl (k_lnf lk ln ce (ce + n) x1))), (qhd, .inl (cI, 30, .inl (k_fi hd ce (ce + n) x2))), (qsf, .inl (cI, 30, .inl (k_fi sf ce (ce + n) x3))), (qfp, .inl (cI, 30, .inl (k_fi fp ce (ce + n) x4))), (qfc, .inl (cI, 31, .inl (upd fc (ly + 1) (nI (ce + n)))))]) hP hD [3, 4, 5, 6, 7, 8, 9] [0, 1, 2, 10] rfl rfl (by decide) (by decide) hk1 hFc hP1 hD1
                  generalize H1 = H at hP hS ⊢
                  have hP := hP.sub (ws' := [(xx, .inr (4, [.ref so, .ref lo, .ref rg, .ref g, .ref g2, .ref qmi])), (g, .inr (0, [.ref so, .ref lo, .ref qpr, .ref qpa, .int (nI dy), .long co, .long wo])), (qpa, .inl (cJ, 30, .inr (.inl (k_beg pa ce (ce + n) x4.toInt64)))), (so, .inr (3, [.ref qlk, .ref qln, .ref qhd, .ref qsf, .ref qfp, .ref qfc, .int (nI (ly + 1)), .int (nI (ce + n)), .int da, .int db, .int dr])), (qlk, .inl (cI, 30, .inl (k_fi lk ce (ce + n) x1))), (qln, .inl (cI, 30, .inl (k_lnf lk ln ce (ce + n) x1))), (qhd, .inl (cI, 30, .inl (k_fi hd ce (ce + n) x2))), (qsf, .inl (cI, 30, .inl (k_fi sf ce (ce + n) x3))), (qfp, .inl (cI, 30, .inl (k_fi fp ce (ce + n) x4))), (qfc, .inl (cI, 31, .inl (upd fc (ly + 1) (nI (ce + n))))), (lo, .inr (1, [.ref qld, .ref qlz, .int (nI mn), .long sm]))]) [0, 1, 2, 4, 5, 6, 7, 8, 9, 10, 3] rfl
                  have hD := hD.sub (ws' := [(xx, .inr (4, [.ref so, .ref lo, .ref rg, .ref g, .ref g2, .ref qmi])), (g, .inr (0, [.ref so, .ref lo, .ref qpr, .ref qpa, .int (nI dy), .long co, .long wo])), (qpa, .inl (cJ, 30, .inr (.inl (k_beg pa ce (ce + n) x4.toInt64)))), (so, .inr (3, [.ref qlk, .ref qln, .ref qhd, .ref qsf, .ref qfp, .ref qfc, .int (nI (ly + 1)), .int (nI (ce + n)), .int da, .int db, .int dr])), (qlk, .inl (cI, 30, .inl (k_fi lk ce (ce + n) x1))), (qln, .inl (cI, 30, .inl (k_lnf lk ln ce (ce + n) x1))), (qhd, .inl (cI, 30, .inl (k_fi hd ce (ce + n) x2))), (qsf, .inl (cI, 30, .inl (k_fi sf ce (ce + n) x3))), (qfp, .inl (cI, 30, .inl (k_fi fp ce (ce + n) x4))), (qfc, .inl (cI, 31, .inl (upd fc (ly + 1) (nI (ce + n))))), (lo, .inr (1, [.ref qld, .ref qlz, .int (nI mn), .long sm]))]) [0, 1, 2, 4, 5, 6, 7, 8, 9, 10, 3] (by decide) rfl
                  clear hPc hDc hFc hP1 hD1 hK1 hk1 hz1 hvm ht
                  obtain rfl : nI ly = res_ := hw.symm
                  have hP : va_P (dC, dI) vwCl [(xx, .inr (4, [.ref so, .ref lo, .ref rg, .ref g, .ref g2, .ref qmi])), (g, .inr (0, [.ref so, .ref lo, .ref qpr, .ref qpa, .int (nI dy), .long co, .long wo])), (qpa, .inl (cJ, 30, .inr (.inl (k_beg pa ce (ce + n) x4.toInt64)))), (so, .inr (3, [.ref qlk, .ref qln, .ref qhd, .ref qsf, .ref qfp, .ref qfc, .int (nI (ly + 1)), .int (nI (ce + n)), .int da, .int db, .int dr])), (qlk, .inl (cI, 30, .inl (k_fi lk ce (ce + n) x1))), (qln, .inl (cI, 30, .inl (k_lnf lk ln ce (ce + n) x1))), (qhd, .inl (cI, 30, .inl (k_fi hd ce (ce + n) x2))), (qsf, .inl (cI, 30, .inl (k_fi sf ce (ce + n) x3))), (qfp, .inl (cI, 30, .inl (k_fi fp ce (ce + n) x4))), (qfc, .inl (cI, 31, .inl (upd fc (ly + 1) (nI (ce + n))))), (lo, .inr (1, [.ref qld, .ref qlz, .int (nI mn), .long sm]))] H := by first | exact hP | simpa only [] using hP
                  have hD : va_D A [(xx, .inr (4, [.ref so, .ref lo, .ref rg, .ref g, .ref g2, .ref qmi])), (g, .inr (0, [.ref so, .ref lo, .ref qpr, .ref qpa, .int (nI dy), .long co, .long wo])), (qpa, .inl (cJ, 30, .inr (.inl (k_beg pa ce (ce + n) x4.toInt64)))), (so, .inr (3, [.ref qlk, .ref qln, .ref qhd, .ref qsf, .ref qfp, .ref qfc, .int (nI (ly + 1)), .int (nI (ce + n)), .int da, .int db, .int dr])), (qlk, .inl (cI, 30, .inl (k_fi lk ce (ce + n) x1))), (qln, .inl (cI, 30, .inl (k_lnf lk ln ce (ce + n) x1))), (qhd, .inl (cI, 30, .inl (k_fi hd ce (ce + n) x2))), (qsf, .inl (cI, 30, .inl (k_fi sf ce (ce + n) x3))), (qfp, .inl (cI, 30, .inl (k_fi fp ce (ce + n) x4))), (qfc, .inl (cI, 31, .inl (upd fc (ly + 1) (nI (ce + n))))), (lo, .inr (1, [.ref qld, .ref qlz, .int (nI mn), .long sm]))] := by first | exact hD | simpa only [] using hD
                  exact W.iret (v := nI ly) hx hb hr (fun t ht hW => ⟨⟨nI ly, (), rfl, rfl, by rw [ht]; exact hP, va_K.moved hW.alike hK, hD⟩, hS.F ht⟩) hS.2.2 dX_layer_128
                · -- 92 not taken
                  rw [kb_eq0, k_wi, nI_toInt (n := 1000) (by omega)] at hc92
                  exfalso; omega
            · -- 67 not taken
              rw [kb_eq0, k_wi, nI_toInt (n := 0) (by omega), nI_toInt (n := 1000000) (by omega)] at hc67
              exfalso; omega
        · -- 43 not taken
          rw [Int32.le_iff_toInt_le, nI_toInt (n := n) (by omega), pk_sub_toInt (a := 30) (b := ce) (by omega) (by omega)] at hc43
          exfalso; omega
    · -- 17 not taken
      rw [show (0 : Int32) = nI 0 from rfl, nI_leI (by omega) (by omega)] at hc17
      exfalso; omega
set_option maxHeartbeats 4000000 in
set_option maxRecDepth 100000 in
theorem kX_layer_bad (l : Launch) (dC : Nat → ClassId) (dI : Nat → Nat → Nat) (cI cJ : ClassId) (xx so lo rg g g2 qmi qpr qpa qlk qln qhd qsf qfp qfc qld qlz : Nat) (sz : Nat) (x : Int32) (x1 : Int32) (x2 : Int32) (x3 : Int32) (x4 : Int32) (dy : Nat) (co : Int64) (wo : Int64) (pa : Nat → Int64) (ly : Nat) (ce : Nat) (da : Int32) (db : Int32) (dr : Int32) (lk : Nat → Int32) (ln : Nat → Int32) (hd : Nat → Int32) (sf : Nat → Int32) (fp : Nat → Int32) (fc : Nat → Int32) (mn : Nat) (sm : Int64) (hdy : dy ≤ 400) (hmn : mn ≤ 12) (hce : ce ≤ 30) (hbad : ¬ (dy = 0 ∧ mn = 0 ∧ 1 ≤ x.toInt ∧ x.toInt ≤ 10 ∧ x.toInt + ce ≤ 30 ∧ 0 ≤ x1.toInt ∧ x1.toInt ≤ 300 ∧ 0 ≤ x4.toInt ∧ x4.toInt ≤ 1000000 ∧ 0 ≤ x2.toInt ∧ x2.toInt ≤ 1000 ∧ x2.toInt ≤ x3.toInt ∧ x3.toInt ≤ 1000)) : Met l yX_layer wX_layer ({ frames := 1, cells := 0, slots := 0, locals := 22 }) (va_Pc [.ref xx, .int x, .int x1, .int x2, .int x3, .int x4] (fun U => U.heap.size = sz ∧ va_P (dC, dI) vwCl [(xx, .inr (4, [.ref so, .ref lo, .ref rg, .ref g, .ref g2, .ref qmi])), (g, .inr (0, [.ref so, .ref lo, .ref qpr, .ref qpa, .int (nI dy), .long co, .long wo])), (qpa, .inl (cJ, 30, .inr (.inl pa))), (so, .inr (3, [.ref qlk, .ref qln, .ref qhd, .ref qsf, .ref qfp, .ref qfc, .int (nI ly), .int (nI ce), .int da, .int db, .int dr])), (qlk, .inl (cI, 30, .inl lk)), (qln, .inl (cI, 30, .inl ln)), (qhd, .inl (cI, 30, .inl hd)), (qsf, .inl (cI, 30, .inl sf)), (qfp, .inl (cI, 30, .inl fp)), (qfc, .inl (cI, 31, .inl fc)), (lo, .inr (1, [.ref qld, .ref qlz, .int (nI mn), .long sm]))] U.heap ∧ va_K (dC, dI) vwCl [(cI, .int), (cJ, .long)] U ∧ va_D (fun _ => True) [(xx, .inr (4, [.ref so, .ref lo, .ref rg, .ref g, .ref g2, .ref qmi])), (g, .inr (0, [.ref so, .ref lo, .ref qpr, .ref qpa, .int (nI dy), .long co, .long wo])), (qpa, .inl (cJ, 30, .inr (.inl pa))), (so, .inr (3, [.ref qlk, .ref qln, .ref qhd, .ref qsf, .ref qfp, .ref qfc, .int (nI ly), .int (nI ce), .int da, .int db, .int dr])), (qlk, .inl (cI, 30, .inl lk)), (qln, .inl (cI, 30, .inl ln)), (qhd, .inl (cI, 30, .inl hd)), (qsf, .inl (cI, 30, .inl sf)), (qfp, .inl (cI, 30, .inl fp)), (qfc, .inl (cI, 31, .inl fc)), (lo, .inr (1, [.ref qld, .ref qlz, .int (nI mn), .long sm]))])) (va_Qi (fun res_ (_ : Unit) => res_ = (-1)) (fun _ t => va_P (dC, dI) vwCl [(xx, .inr (4, [.ref so, .ref lo, .ref rg, .ref g, .ref g2, .ref qmi])), (g, .inr (0, [.ref so, .ref lo, .ref qpr, .ref qpa, .int (nI dy), .long co, .long wo])), (qpa, .inl (cJ, 30, .inr (.inl pa))), (so, .inr (3, [.ref qlk, .ref qln, .ref qhd, .ref qsf, .ref qfp, .ref qfc, .int (nI ly), .int (nI ce), .int da, .int db, .int dr])), (qlk, .inl (cI, 30, .inl lk)), (qln, .inl (cI, 30, .inl ln)), (qhd, .inl (cI, 30, .inl hd)), (qsf, .inl (cI, 30, .inl sf)), (qfp, .inl (cI, 30, .inl fp)), (qfc, .inl (cI, 31, .inl fc)), (lo, .inr (1, [.ref qld, .ref qlz, .int (nI mn), .long sm]))] t.heap ∧ va_K (dC, dI) vwCl [(cI, .int), (cJ, .long)] t ∧ va_D (va_A [(xx, .inr (4, [.ref so, .ref lo, .ref rg, .ref g, .ref g2, .ref qmi])), (g, .inr (0, [.ref so, .ref lo, .ref qpr, .ref qpa, .int (nI dy), .long co, .long wo])), (qpa, .inl (cJ, 30, .inr (.inl pa))), (so, .inr (3, [.ref qlk, .ref qln, .ref qhd, .ref qsf, .ref qfp, .ref qfc, .int (nI ly), .int (nI ce), .int da, .int db, .int dr])), (qlk, .inl (cI, 30, .inl lk)), (qln, .inl (cI, 30, .inl ln)), (qhd, .inl (cI, 30, .inl hd)), (qsf, .inl (cI, 30, .inl sf)), (qfp, .inl (cI, 30, .inl fp)), (qfc, .inl (cI, 31, .inl fc)), (lo, .inr (1, [.ref qld, .ref qlz, .int (nI mn), .long sm]))] sz) [(xx, .inr (4, [.ref so, .ref lo, .ref rg, .ref g, .ref g2, .ref qmi])), (g, .inr (0, [.ref so, .ref lo, .ref qpr, .ref qpa, .int (nI dy), .long co, .long wo])), (qpa, .inl (cJ, 30, .inr (.inl pa))), (so, .inr (3, [.ref qlk, .ref qln, .ref qhd, .ref qsf, .ref qfp, .ref qfc, .int (nI ly), .int (nI ce), .int da, .int db, .int dr])), (qlk, .inl (cI, 30, .inl lk)), (qln, .inl (cI, 30, .inl ln)), (qhd, .inl (cI, 30, .inl hd)), (qsf, .inl (cI, 30, .inl sf)), (qfp, .inl (cI, 30, .inl fp)), (qfc, .inl (cI, 31, .inl fc)), (lo, .inr (1, [.ref qld, .ref qlz, .int (nI mn), .long sm]))]) (va_A [(xx, .inr (4, [.ref so, .ref lo, .ref rg, .ref g, .ref g2, .ref qmi])), (g, .inr (0, [.ref so, .ref lo, .ref qpr, .ref qpa, .int (nI dy), .long co, .long wo])), (qpa, .inl (cJ, 30, .inr (.inl pa))), (so, .inr (3, [.ref qlk, .ref qln, .ref qhd, .ref qsf, .ref qfp, .ref qfc, .int (nI ly), .int (nI ce), .int da, .int db, .int dr])), (qlk, .inl (cI, 30, .inl lk)), (qln, .inl (cI, 30, .inl ln)), (qhd, .inl (cI, 30, .inl hd)), (qsf, .inl (cI, 30, .inl sf)), (qfp, .inl (cI, 30, .inl fp)), (qfc, .inl (cI, 31, .inl fc)), (lo, .inr (1, [.ref qld, .ref qlz, .int (nI mn), .long sm]))] sz)) 0 0 (va_A [(xx, .inr (4, [.ref so, .ref lo, .ref rg, .ref g, .ref g2, .ref qmi])), (g, .inr (0, [.ref so, .ref lo, .ref qpr, .ref qpa, .int (nI dy), .long co, .long wo])), (qpa, .inl (cJ, 30, .inr (.inl pa))), (so, .inr (3, [.ref qlk, .ref qln, .ref qhd, .ref qsf, .ref qfp, .ref qfc, .int (nI ly), .int (nI ce), .int da, .int db, .int dr])), (qlk, .inl (cI, 30, .inl lk)), (qln, .inl (cI, 30, .inl ln)), (qhd, .inl (cI, 30, .inl hd)), (qsf, .inl (cI, 30, .inl sf)), (qfp, .inl (cI, 30, .inl fp)), (qfc, .inl (cI, 31, .inl fc)), (lo, .inr (1, [.ref qld, .ref qlz, .int (nI mn), .long sm]))] sz) := by
  refine Met.ofW (cc := bX_layer) (maxL := 6) (ret := (some .int)) (by decide) rfl ?_
  intro p e s m args below meth c s₁ B hml hv
  obtain ⟨rfl, hsz, hP, hK, hD0⟩ := hv
  have hx := B.exec
  have hb := B.bytes
  have hr := B.returns
  have hts := atoms_spec (ws := wX_layer) B.pre
  have hown : s.vm.findClass R_X = some m.cls := findClass_of_methodNamed B.named
  have htw : ∀ w ∈ WA, w.before _ s = true := fun w h => hts w (List.mem_cons_of_mem _ h)
  clear hts
  have hlocks := B.notSynchronized
  subst hsz
  have hD := hD0.self (sz := s.heap.size)
  generalize hAe : va_A [(xx, .inr (4, [.ref so, .ref lo, .ref rg, .ref g, .ref g2, .ref qmi])), (g, .inr (0, [.ref so, .ref lo, .ref qpr, .ref qpa, .int (nI dy), .long co, .long wo])), (qpa, .inl (cJ, 30, .inr (.inl pa))), (so, .inr (3, [.ref qlk, .ref qln, .ref qhd, .ref qsf, .ref qfp, .ref qfc, .int (nI ly), .int (nI ce), .int da, .int db, .int dr])), (qlk, .inl (cI, 30, .inl lk)), (qln, .inl (cI, 30, .inl ln)), (qhd, .inl (cI, 30, .inl hd)), (qsf, .inl (cI, 30, .inl sf)), (qfp, .inl (cI, 30, .inl fp)), (qfc, .inl (cI, 31, .inl fc)), (lo, .inr (1, [.ref qld, .ref qlz, .int (nI mn), .long sm]))] s.heap.size = A at hD ⊢
  have hA : ∀ q : Nat, s.heap.size ≤ q → A q := fun q h => by rw [← hAe]; exact Or.inr h
  clear hAe hD0
  have hS : va_S A s.heap s.heap [] := va_S.rf
  have hP : va_P (dC, dI) vwCl [(xx, .inr (4, [.ref so, .ref lo, .ref rg, .ref g, .ref g2, .ref qmi])), (g, .inr (0, [.ref so, .ref lo, .ref qpr, .ref qpa, .int (nI dy), .long co, .long wo])), (qpa, .inl (cJ, 30, .inr (.inl pa))), (so, .inr (3, [.ref qlk, .ref qln, .ref qhd, .ref qsf, .ref qfp, .ref qfc, .int (nI ly), .int (nI ce), .int da, .int db, .int dr])), (qlk, .inl (cI, 30, .inl lk)), (qln, .inl (cI, 30, .inl ln)), (qhd, .inl (cI, 30, .inl hd)), (qsf, .inl (cI, 30, .inl sf)), (qfp, .inl (cI, 30, .inl fp)), (qfc, .inl (cI, 31, .inl fc)), (lo, .inr (1, [.ref qld, .ref qlz, .int (nI mn), .long sm]))] s.heap := hP
  have hl := lv_entry ([.ref xx, .int x, .int x1, .int x2, .int x3, .int x4]) (n := 6) (Nat.le_of_ble_eq_true rfl)
  rw [lg_entry_eq]
  generalize (lg_sl ([.ref xx, .int x, .int x1, .int x2, .int x3, .int x4]) ++ List.replicate (6 - (lg_sl ([.ref xx, .int x, .int x1, .int x2, .int x3, .int x4])).length) Slot.unset).toArray = ls at hl ⊢
  have hl : lv_has ls 6 [(0, .ref xx), (1, .int x), (2, .int x1), (3, .int x2), (4, .int x3), (5, .int x4)] := hl
  refine lv_aload_n hx hb dX_layer_0 rfl (lv_at hl 0 rfl) ?_
  refine va_get (D := (dC, dI)) (ci := 4) (v := .ref g) (C := R_X) (T := T_X) (N := 6) hx hb htw in_X hown hK hP 0 rfl rfl 3 (by decide) (htw _ m_144) (fun _ h9 => h9) rfl dX_layer_1 ?_
  refine va_get (D := (dC, dI)) (ci := 0) (v := .int (nI dy)) (C := R_G) (T := T_G) (N := 7) hx hb htw in_G hown hK hP 1 rfl rfl 4 (by decide) (htw _ m_120) (fun _ h9 => h9) rfl dX_layer_4 ?_
  refine lv_if_gt (tgt := 20) hx hb dX_layer_7 (by decide) (fun hc7 => ?_) (fun hc7 => ?_)
  · -- 7 taken
    rw [show (0 : Int32) = nI 0 from rfl, nI_ltI (by omega) (by omega)] at hc7
    refine lv_iconst (v := (-1)) hx hb dX_layer_20 (by decide) ?_
    have hP : va_P (dC, dI) vwCl [(xx, .inr (4, [.ref so, .ref lo, .ref rg, .ref g, .ref g2, .ref qmi])), (g, .inr (0, [.ref so, .ref lo, .ref qpr, .ref qpa, .int (nI dy), .long co, .long wo])), (qpa, .inl (cJ, 30, .inr (.inl pa))), (so, .inr (3, [.ref qlk, .ref qln, .ref qhd, .ref qsf, .ref qfp, .ref qfc, .int (nI ly), .int (nI ce), .int da, .int db, .int dr])), (qlk, .inl (cI, 30, .inl lk)), (qln, .inl (cI, 30, .inl ln)), (qhd, .inl (cI, 30, .inl hd)), (qsf, .inl (cI, 30, .inl sf)), (qfp, .inl (cI, 30, .inl fp)), (qfc, .inl (cI, 31, .inl fc)), (lo, .inr (1, [.ref qld, .ref qlz, .int (nI mn), .long sm]))] s.heap := by first | exact hP | simpa only [] using hP
    have hD : va_D A [(xx, .inr (4, [.ref so, .ref lo, .ref rg, .ref g, .ref g2, .ref qmi])), (g, .inr (0, [.ref so, .ref lo, .ref qpr, .ref qpa, .int (nI dy), .long co, .long wo])), (qpa, .inl (cJ, 30, .inr (.inl pa))), (so, .inr (3, [.ref qlk, .ref qln, .ref qhd, .ref qsf, .ref qfp, .ref qfc, .int (nI ly), .int (nI ce), .int da, .int db, .int dr])), (qlk, .inl (cI, 30, .inl lk)), (qln, .inl (cI, 30, .inl ln)), (qhd, .inl (cI, 30, .inl hd)), (qsf, .inl (cI, 30, .inl sf)), (qfp, .inl (cI, 30, .inl fp)), (qfc, .inl (cI, 31, .inl fc)), (lo, .inr (1, [.ref qld, .ref qlz, .int (nI mn), .long sm]))] := by first | exact hD | simpa only [] using hD
    exact W.iret (v := (-1)) hx hb hr (fun t ht hW => ⟨⟨(-1), (), rfl, rfl, by rw [ht]; exact hP, va_K.moved hW.alike hK, hD⟩, hS.F ht⟩) hS.2.2 dX_layer_21
  · -- 7 not taken
    rw [show (0 : Int32) = nI 0 from rfl, nI_ltI (by omega) (by omega)] at hc7
    refine lv_aload_n hx hb dX_layer_10 rfl (lv_at hl 0 rfl) ?_
    refine va_get (D := (dC, dI)) (ci := 4) (v := .ref lo) (C := R_X) (T := T_X) (N := 6) hx hb htw in_X hown hK hP 0 rfl rfl 1 (by decide) (htw _ m_142) (fun _ h9 => h9) rfl dX_layer_11 ?_
    refine va_get (D := (dC, dI)) (ci := 1) (v := .int (nI mn)) (C := R_O) (T := T_O) (N := 4) hx hb htw in_O hown hK hP 10 rfl rfl 2 (by decide) (htw _ m_76) (fun _ h9 => h9) rfl dX_layer_14 ?_
    refine lv_if_le (tgt := 22) hx hb dX_layer_17 (by decide) (fun hc17 => ?_) (fun hc17 => ?_)
    · -- 17 taken
      rw [show (0 : Int32) = nI 0 from rfl, nI_leI (by omega) (by omega)] at hc17
      refine lv_iload_n hx hb dX_layer_22 rfl (lv_at hl 1 rfl) ?_
      refine lv_iconst (v := nI 1) hx hb dX_layer_23 (by decide) ?_
      refine lv_bipush (v := nI 10) hx hb dX_layer_24 (by decide) ?_
      have hPc := hP.sub (ws' := []) [] rfl
      have hDc := hD.sub (ws' := []) [] (by decide) rfl
      have hFc := va_free (wc := []) hD hS hA [] rfl
      refine va_calli (va_runS (As := [.int x, .int (nI 1), .int (nI 10)]) (rest := []) ⟨hx, hb, hml, hown, htw⟩ (kX_within l dC dI cI cJ s.heap.size x (nI 1) (nI 10)) (va_cwS 3 htw (ws_good m_164 m_165 m_1 m_166) rfl rfl rfl (by decide +kernel) ⟨Nat.le_of_ble_eq_true rfl, Nat.le_of_ble_eq_true rfl⟩) ⟨fun a U g mk q => by obtain ⟨q0, q1, qP, qK, qD⟩ := q; exact ⟨q0, q1, qP, va_K.moved (u := U) (U := U.calling g mk a) (Vm.Alike.refl U.vm) qK, qD⟩, fun U hU hW => ⟨rfl, by rw [hU], by rw [hU]; exact hPc, va_K.moved hW.alike hK, hDc.weaken (fun _ _ _ _ => trivial)⟩⟩ rfl rfl hl.1 rfl (lv_room (Nat.le_of_ble_eq_true rfl)) dX_layer_26 ⟨Nat.le_of_ble_eq_true rfl, Nat.le_of_ble_eq_true rfl⟩) hS (fun q _ h => hFc q h) hFc (fun res_ u_ t H1 locs ht hvm hw hB hz1 hk1 hS => ?_)
      obtain ⟨hP1, hK1, hD1⟩ := hB
      rw [ht] at hP1
      obtain ⟨hP, hD⟩ := va_join (wr := [(xx, .inr (4, [.ref so, .ref lo, .ref rg, .ref g, .ref g2, .ref qmi])), (g, .inr (0, [.ref so, .ref lo, .ref qpr, .ref qpa, .int (nI dy), .long co, .long wo])), (qpa, .inl (cJ, 30, .inr (.inl pa))), (so, .inr (3, [.ref qlk, .ref qln, .ref qhd, .ref qsf, .ref qfp, .ref qfc, .int (nI ly), .int (nI ce), .int da, .int db, .int dr])), (qlk, .inl (cI, 30, .inl lk)), (qln, .inl (cI, 30, .inl ln)), (qhd, .inl (cI, 30, .inl hd)), (qsf, .inl (cI, 30, .inl sf)), (qfp, .inl (cI, 30, .inl fp)), (qfc, .inl (cI, 31, .inl fc)), (lo, .inr (1, [.ref qld, .ref qlz, .int (nI mn), .long sm]))]) (w1 := []) hP hD [] [0, 1, 2, 3, 4, 5, 6, 7, 8, 9, 10] rfl rfl (by decide) (by decide) hk1 hFc hP1 hD1
      generalize H1 = H at hP hS ⊢
      have hP : va_P (dC, dI) vwCl [(xx, .inr (4, [.ref so, .ref lo, .ref rg, .ref g, .ref g2, .ref qmi])), (g, .inr (0, [.ref so, .ref lo, .ref qpr, .ref qpa, .int (nI dy), .long co, .long wo])), (qpa, .inl (cJ, 30, .inr (.inl pa))), (so, .inr (3, [.ref qlk, .ref qln, .ref qhd, .ref qsf, .ref qfp, .ref qfc, .int (nI ly), .int (nI ce), .int da, .int db, .int dr])), (qlk, .inl (cI, 30, .inl lk)), (qln, .inl (cI, 30, .inl ln)), (qhd, .inl (cI, 30, .inl hd)), (qsf, .inl (cI, 30, .inl sf)), (qfp, .inl (cI, 30, .inl fp)), (qfc, .inl (cI, 31, .inl fc)), (lo, .inr (1, [.ref qld, .ref qlz, .int (nI mn), .long sm]))] H := hP
      have hD : va_D A [(xx, .inr (4, [.ref so, .ref lo, .ref rg, .ref g, .ref g2, .ref qmi])), (g, .inr (0, [.ref so, .ref lo, .ref qpr, .ref qpa, .int (nI dy), .long co, .long wo])), (qpa, .inl (cJ, 30, .inr (.inl pa))), (so, .inr (3, [.ref qlk, .ref qln, .ref qhd, .ref qsf, .ref qfp, .ref qfc, .int (nI ly), .int (nI ce), .int da, .int db, .int dr])), (qlk, .inl (cI, 30, .inl lk)), (qln, .inl (cI, 30, .inl ln)), (qhd, .inl (cI, 30, .inl hd)), (qsf, .inl (cI, 30, .inl sf)), (qfp, .inl (cI, 30, .inl fp)), (qfc, .inl (cI, 31, .inl fc)), (lo, .inr (1, [.ref qld, .ref qlz, .int (nI mn), .long sm]))] := hD
      clear hPc hDc hFc hP1 hD1 hK1 hk1 hz1 hvm ht
      obtain rfl : kb ((nI 1) ≤ x ∧ x ≤ (nI 10)) = res_ := hw.symm
      refine lv_if_eq (tgt := 46) hx hb dX_layer_29 (by decide) (fun hc29 => ?_) (fun hc29 => ?_)
      · -- 29 taken
        rw [kb_eq0, k_wi, nI_toInt (n := 1) (by omega), nI_toInt (n := 10) (by omega)] at hc29
        refine lv_iconst (v := (-1)) hx hb dX_layer_46 (by decide) ?_
        have hP : va_P (dC, dI) vwCl [(xx, .inr (4, [.ref so, .ref lo, .ref rg, .ref g, .ref g2, .ref qmi])), (g, .inr (0, [.ref so, .ref lo, .ref qpr, .ref qpa, .int (nI dy), .long co, .long wo])), (qpa, .inl (cJ, 30, .inr (.inl pa))), (so, .inr (3, [.ref qlk, .ref qln, .ref qhd, .ref qsf, .ref qfp, .ref qfc, .int (nI ly), .int (nI ce), .int da, .int db, .int dr])), (qlk, .inl (cI, 30, .inl lk)), (qln, .inl (cI, 30, .inl ln)), (qhd, .inl (cI, 30, .inl hd)), (qsf, .inl (cI, 30, .inl sf)), (qfp, .inl (cI, 30, .inl fp)), (qfc, .inl (cI, 31, .inl fc)), (lo, .inr (1, [.ref qld, .ref qlz, .int (nI mn), .long sm]))] H := by first | exact hP | simpa only [] using hP
        have hD : va_D A [(xx, .inr (4, [.ref so, .ref lo, .ref rg, .ref g, .ref g2, .ref qmi])), (g, .inr (0, [.ref so, .ref lo, .ref qpr, .ref qpa, .int (nI dy), .long co, .long wo])), (qpa, .inl (cJ, 30, .inr (.inl pa))), (so, .inr (3, [.ref qlk, .ref qln, .ref qhd, .ref qsf, .ref qfp, .ref qfc, .int (nI ly), .int (nI ce), .int da, .int db, .int dr])), (qlk, .inl (cI, 30, .inl lk)), (qln, .inl (cI, 30, .inl ln)), (qhd, .inl (cI, 30, .inl hd)), (qsf, .inl (cI, 30, .inl sf)), (qfp, .inl (cI, 30, .inl fp)), (qfc, .inl (cI, 31, .inl fc)), (lo, .inr (1, [.ref qld, .ref qlz, .int (nI mn), .long sm]))] := by first | exact hD | simpa only [] using hD
        exact W.iret (v := (-1)) hx hb hr (fun t ht hW => ⟨⟨(-1), (), rfl, rfl, by rw [ht]; exact hP, va_K.moved hW.alike hK, hD⟩, hS.F ht⟩) hS.2.2 dX_layer_47
      · -- 29 not taken
        rw [kb_eq0, k_wi, nI_toInt (n := 1) (by omega), nI_toInt (n := 10) (by omega)] at hc29
        refine lv_iload_n hx hb dX_layer_32 rfl (lv_at hl 1 rfl) ?_
        refine lv_bipush (v := nI 30) hx hb dX_layer_33 (by decide) ?_
        refine lv_aload_n hx hb dX_layer_35 rfl (lv_at hl 0 rfl) ?_
        refine va_get (D := (dC, dI)) (ci := 4) (v := .ref so) (C := R_X) (T := T_X) (N := 6) hx hb htw in_X hown hK hP 0 rfl rfl 0 (by decide) (htw _ m_141) (fun _ h9 => h9) rfl dX_layer_36 ?_
        refine va_get (D := (dC, dI)) (ci := 3) (v := .int (nI ce)) (C := R_S) (T := T_S) (N := 11) hx hb htw in_S hown hK hP 3 rfl rfl 7 (by decide) (htw _ m_34) (fun _ h9 => h9) rfl dX_layer_39 ?_
        refine lv_isub hx hb dX_layer_42 ?_
        refine lv_icmp_le (tgt := 48) hx hb dX_layer_43 (by decide) (fun hc43 => ?_) (fun hc43 => ?_)
        · -- 43 taken
          rw [Int32.le_iff_toInt_le, pk_sub_toInt (a := 30) (b := ce) (by omega) (by omega)] at hc43
          refine lv_iload_n hx hb dX_layer_48 rfl (lv_at hl 2 rfl) ?_
          refine lv_iconst (v := nI 0) hx hb dX_layer_49 (by decide) ?_
          refine lv_sipush (v := nI 300) hx hb dX_layer_50 (by decide) ?_
          have hPc := hP.sub (ws' := []) [] rfl
          have hDc := hD.sub (ws' := []) [] (by decide) rfl
          have hFc := va_free (wc := []) hD hS hA [] rfl
          refine va_calli (va_runS (As := [.int x1, .int (nI 0), .int (nI 300)]) (rest := []) ⟨hx, hb, hml, hown, htw⟩ (kX_within l dC dI cI cJ H.size x1 (nI 0) (nI 300)) (va_cwS 3 htw (ws_good m_164 m_165 m_1 m_166) rfl rfl rfl (by decide +kernel) ⟨Nat.le_of_ble_eq_true rfl, Nat.le_of_ble_eq_true rfl⟩) ⟨fun a U g mk q => by obtain ⟨q0, q1, qP, qK, qD⟩ := q; exact ⟨q0, q1, qP, va_K.moved (u := U) (U := U.calling g mk a) (Vm.Alike.refl U.vm) qK, qD⟩, fun U hU hW => ⟨rfl, by rw [hU], by rw [hU]; exact hPc, va_K.moved hW.alike hK, hDc.weaken (fun _ _ _ _ => trivial)⟩⟩ rfl rfl hl.1 rfl (lv_room (Nat.le_of_ble_eq_true rfl)) dX_layer_53 ⟨Nat.le_of_ble_eq_true rfl, Nat.le_of_ble_eq_true rfl⟩) hS (fun q _ h => hFc q h) hFc (fun res_ u_ t H1 locs ht hvm hw hB hz1 hk1 hS => ?_)
          obtain ⟨hP1, hK1, hD1⟩ := hB
          rw [ht] at hP1
          obtain ⟨hP, hD⟩ := va_join (wr := [(xx, .inr (4, [.ref so, .ref lo, .ref rg, .ref g, .ref g2, .ref qmi])), (g, .inr (0, [.ref so, .ref lo, .ref qpr, .ref qpa, .int (nI dy), .long co, .long wo])), (qpa, .inl (cJ, 30, .inr (.inl pa))), (so, .inr (3, [.ref qlk, .ref qln, .ref qhd, .ref qsf, .ref qfp, .ref qfc, .int (nI ly), .int (nI ce), .int da, .int db, .int dr])), (qlk, .inl (cI, 30, .inl lk)), (qln, .inl (cI, 30, .inl ln)), (qhd, .inl (cI, 30, .inl hd)), (qsf, .inl (cI, 30, .inl sf)), (qfp, .inl (cI, 30, .inl fp)), (qfc, .inl (cI, 31, .inl fc)), (lo, .inr (1, [.ref qld, .ref qlz, .int (nI mn), .long sm]))]) (w1 := []) hP hD [] [0, 1, 2, 3, 4, 5, 6, 7, 8, 9, 10] rfl rfl (by decide) (by decide) hk1 hFc hP1 hD1
          generalize H1 = H at hP hS ⊢
          have hP : va_P (dC, dI) vwCl [(xx, .inr (4, [.ref so, .ref lo, .ref rg, .ref g, .ref g2, .ref qmi])), (g, .inr (0, [.ref so, .ref lo, .ref qpr, .ref qpa, .int (nI dy), .long co, .long wo])), (qpa, .inl (cJ, 30, .inr (.inl pa))), (so, .inr (3, [.ref qlk, .ref qln, .ref qhd, .ref qsf, .ref qfp, .ref qfc, .int (nI ly), .int (nI ce), .int da, .int db, .int dr])), (qlk, .inl (cI, 30, .inl lk)), (qln, .inl (cI, 30, .inl ln)), (qhd, .inl (cI, 30, .inl hd)), (qsf, .inl (cI, 30, .inl sf)), (qfp, .inl (cI, 30, .inl fp)), (qfc, .inl (cI, 31, .inl fc)), (lo, .inr (1, [.ref qld, .ref qlz, .int (nI mn), .long sm]))] H := hP
          have hD : va_D A [(xx, .inr (4, [.ref so, .ref lo, .ref rg, .ref g, .ref g2, .ref qmi])), (g, .inr (0, [.ref so, .ref lo, .ref qpr, .ref qpa, .int (nI dy), .long co, .long wo])), (qpa, .inl (cJ, 30, .inr (.inl pa))), (so, .inr (3, [.ref qlk, .ref qln, .ref qhd, .ref qsf, .ref qfp, .ref qfc, .int (nI ly), .int (nI ce), .int da, .int db, .int dr])), (qlk, .inl (cI, 30, .inl lk)), (qln, .inl (cI, 30, .inl ln)), (qhd, .inl (cI, 30, .inl hd)), (qsf, .inl (cI, 30, .inl sf)), (qfp, .inl (cI, 30, .inl fp)), (qfc, .inl (cI, 31, .inl fc)), (lo, .inr (1, [.ref qld, .ref qlz, .int (nI mn), .long sm]))] := hD
          clear hPc hDc hFc hP1 hD1 hK1 hk1 hz1 hvm ht
          obtain rfl : kb ((nI 0) ≤ x1 ∧ x1 ≤ (nI 300)) = res_ := hw.symm
          refine lv_if_eq (tgt := 70) hx hb dX_layer_56 (by decide) (fun hc56 => ?_) (fun hc56 => ?_)
          · -- 56 taken
            rw [kb_eq0, k_wi, nI_toInt (n := 0) (by omega), nI_toInt (n := 300) (by omega)] at hc56
            refine lv_iconst (v := (-1)) hx hb dX_layer_70 (by decide) ?_
            have hP : va_P (dC, dI) vwCl [(xx, .inr (4, [.ref so, .ref lo, .ref rg, .ref g, .ref g2, .ref qmi])), (g, .inr (0, [.ref so, .ref lo, .ref qpr, .ref qpa, .int (nI dy), .long co, .long wo])), (qpa, .inl (cJ, 30, .inr (.inl pa))), (so, .inr (3, [.ref qlk, .ref qln, .ref qhd, .ref qsf, .ref qfp, .ref qfc, .int (nI ly), .int (nI ce), .int da, .int db, .int dr])), (qlk, .inl (cI, 30, .inl lk)), (qln, .inl (cI, 30, .inl ln)), (qhd, .inl (cI, 30, .inl hd)), (qsf, .inl (cI, 30, .inl sf)), (qfp, .inl (cI, 30, .inl fp)), (qfc, .inl (cI, 31, .inl fc)), (lo, .inr (1, [.ref qld, .ref qlz, .int (nI mn), .long sm]))] H := by first | exact hP | simpa only [] using hP
            have hD : va_D A [(xx, .inr (4, [.ref so, .ref lo, .ref rg, .ref g, .ref g2, .ref qmi])), (g, .inr (0, [.ref so, .ref lo, .ref qpr, .ref qpa, .int (nI dy), .long co, .long wo])), (qpa, .inl (cJ, 30, .inr (.inl pa))), (so, .inr (3, [.ref qlk, .ref qln, .ref qhd, .ref qsf, .ref qfp, .ref qfc, .int (nI ly), .int (nI ce), .int da, .int db, .int dr])), (qlk, .inl (cI, 30, .inl lk)), (qln, .inl (cI, 30, .inl ln)), (qhd, .inl (cI, 30, .inl hd)), (qsf, .inl (cI, 30, .inl sf)), (qfp, .inl (cI, 30, .inl fp)), (qfc, .inl (cI, 31, .inl fc)), (lo, .inr (1, [.ref qld, .ref qlz, .int (nI mn), .long sm]))] := by first | exact hD | simpa only [] using hD
            exact W.iret (v := (-1)) hx hb hr (fun t ht hW => ⟨⟨(-1), (), rfl, rfl, by rw [ht]; exact hP, va_K.moved hW.alike hK, hD⟩, hS.F ht⟩) hS.2.2 dX_layer_71
          · -- 56 not taken
            rw [kb_eq0, k_wi, nI_toInt (n := 0) (by omega), nI_toInt (n := 300) (by omega)] at hc56
            refine lv_iload hx hb dX_layer_59 (lv_at hl 5 rfl) ?_
            refine lv_iconst (v := nI 0) hx hb dX_layer_61 (by decide) ?_
            refine lv_ldc (v := 1000000) hx hb hown (htw _ m_167) dX_layer_62 ?_
            refine lv_topi (fun kv ekv => ?_)
            obtain rfl : kv = nI 1000000 := by rw [ekv]; decide +kernel
            have hPc := hP.sub (ws' := []) [] rfl
            have hDc := hD.sub (ws' := []) [] (by decide) rfl
            have hFc := va_free (wc := []) hD hS hA [] rfl
            refine va_calli (va_runS (As := [.int x4, .int (nI 0), .int (nI 1000000)]) (rest := []) ⟨hx, hb, hml, hown, htw⟩ (kX_within l dC dI cI cJ H.size x4 (nI 0) (nI 1000000)) (va_cwS 3 htw (ws_good m_164 m_165 m_1 m_166) rfl rfl rfl (by decide +kernel) ⟨Nat.le_of_ble_eq_true rfl, Nat.le_of_ble_eq_true rfl⟩) ⟨fun a U g mk q => by obtain ⟨q0, q1, qP, qK, qD⟩ := q; exact ⟨q0, q1, qP, va_K.moved (u := U) (U := U.calling g mk a) (Vm.Alike.refl U.vm) qK, qD⟩, fun U hU hW => ⟨rfl, by rw [hU], by rw [hU]; exact hPc, va_K.moved hW.alike hK, hDc.weaken (fun _ _ _ _ => trivial)⟩⟩ rfl rfl hl.1 rfl (lv_room (Nat.le_of_ble_eq_true rfl)) dX_layer_64 ⟨Nat.le_of_ble_eq_true rfl, Nat.le_of_ble_eq_true rfl⟩) hS (fun q _ h => hFc q h) hFc (fun res_ u_ t H1 locs ht hvm hw hB hz1 hk1 hS => ?_)
            obtain ⟨hP1, hK1, hD1⟩ := hB
            rw [ht] at hP1
            obtain ⟨hP, hD⟩ := va_join (wr := [(xx, .inr (4, [.ref so, .ref lo, .ref rg, .ref g, .ref g2, .ref qmi])), (g, .inr (0, [.ref so, .ref lo, .ref qpr, .ref qpa, .int (nI dy), .long co, .long wo])), (qpa, .inl (cJ, 30, .inr (.inl pa))), (so, .inr (3, [.ref qlk, .ref qln, .ref qhd, .ref qsf, .ref qfp, .ref qfc, .int (nI ly), .int (nI ce), .int da, .int db, .int dr])), (qlk, .inl (cI, 30, .inl lk)), (qln, .inl (cI, 30, .inl ln)), (qhd, .inl (cI, 30, .inl hd)), (qsf, .inl (cI, 30, .inl sf)), (qfp, .inl (cI, 30, .inl fp)), (qfc, .inl (cI, 31, .inl fc)), (lo, .inr (1, [.ref qld, .ref qlz, .int (nI mn), .long sm]))]) (w1 := []) hP hD [] [0, 1, 2, 3, 4, 5, 6, 7, 8, 9, 10] rfl rfl (by decide) (by decide) hk1 hFc hP1 hD1
            generalize H1 = H at hP hS ⊢
            have hP : va_P (dC, dI) vwCl [(xx, .inr (4, [.ref so, .ref lo, .ref rg, .ref g, .ref g2, .ref qmi])), (g, .inr (0, [.ref so, .ref lo, .ref qpr, .ref qpa, .int (nI dy), .long co, .long wo])), (qpa, .inl (cJ, 30, .inr (.inl pa))), (so, .inr (3, [.ref qlk, .ref qln, .ref qhd, .ref qsf, .ref qfp, .ref qfc, .int (nI ly), .int (nI ce), .int da, .int db, .int dr])), (qlk, .inl (cI, 30, .inl lk)), (qln, .inl (cI, 30, .inl ln)), (qhd, .inl (cI, 30, .inl hd)), (qsf, .inl (cI, 30, .inl sf)), (qfp, .inl (cI, 30, .inl fp)), (qfc, .inl (cI, 31, .inl fc)), (lo, .inr (1, [.ref qld, .ref qlz, .int (nI mn), .long sm]))] H := hP
            have hD : va_D A [(xx, .inr (4, [.ref so, .ref lo, .ref rg, .ref g, .ref g2, .ref qmi])), (g, .inr (0, [.ref so, .ref lo, .ref qpr, .ref qpa, .int (nI dy), .long co, .long wo])), (qpa, .inl (cJ, 30, .inr (.inl pa))), (so, .inr (3, [.ref qlk, .ref qln, .ref qhd, .ref qsf, .ref qfp, .ref qfc, .int (nI ly), .int (nI ce), .int da, .int db, .int dr])), (qlk, .inl (cI, 30, .inl lk)), (qln, .inl (cI, 30, .inl ln)), (qhd, .inl (cI, 30, .inl hd)), (qsf, .inl (cI, 30, .inl sf)), (qfp, .inl (cI, 30, .inl fp)), (qfc, .inl (cI, 31, .inl fc)), (lo, .inr (1, [.ref qld, .ref qlz, .int (nI mn), .long sm]))] := hD
            clear hPc hDc hFc hP1 hD1 hK1 hk1 hz1 hvm ht
            obtain rfl : kb ((nI 0) ≤ x4 ∧ x4 ≤ (nI 1000000)) = res_ := hw.symm
            refine lv_if_ne (tgt := 72) hx hb dX_layer_67 (by decide) (fun hc67 => ?_) (fun hc67 => ?_)
            · -- 67 taken
              rw [kb_eq0, k_wi, nI_toInt (n := 0) (by omega), nI_toInt (n := 1000000) (by omega)] at hc67
              refine lv_iload_n hx hb dX_layer_72 rfl (lv_at hl 3 rfl) ?_
              refine lv_iconst (v := nI 0) hx hb dX_layer_73 (by decide) ?_
              refine lv_sipush (v := nI 1000) hx hb dX_layer_74 (by decide) ?_
              have hPc := hP.sub (ws' := []) [] rfl
              have hDc := hD.sub (ws' := []) [] (by decide) rfl
              have hFc := va_free (wc := []) hD hS hA [] rfl
              refine va_calli (va_runS (As := [.int x2, .int (nI 0), .int (nI 1000)]) (rest := []) ⟨hx, hb, hml, hown, htw⟩ (kX_within l dC dI cI cJ H.size x2 (nI 0) (nI 1000)) (va_cwS 3 htw (ws_good m_164 m_165 m_1 m_166) rfl rfl rfl (by decide +kernel) ⟨Nat.le_of_ble_eq_true rfl, Nat.le_of_ble_eq_true rfl⟩) ⟨fun a U g mk q => by obtain ⟨q0, q1, qP, qK, qD⟩ := q; exact ⟨q0, q1, qP, va_K.moved (u := U) (U := U.calling g mk a) (Vm.Alike.refl U.vm) qK, qD⟩, fun U hU hW => ⟨rfl, by rw [hU], by rw [hU]; exact hPc, va_K.moved hW.alike hK, hDc.weaken (fun _ _ _ _ => trivial)⟩⟩ rfl rfl hl.1 rfl (lv_room (Nat.le_of_ble_eq_true rfl)) dX_layer_77 ⟨Nat.le_of_ble_eq_true rfl, Nat.le_of_ble_eq_true rfl⟩) hS (fun q _ h => hFc q h) hFc (fun res_ u_ t H1 locs ht hvm hw hB hz1 hk1 hS => ?_)
              obtain ⟨hP1, hK1, hD1⟩ := hB
              rw [ht] at hP1
              obtain ⟨hP, hD⟩ := va_join (wr := [(xx, .inr (4, [.ref so, .ref lo, .ref rg, .ref g, .ref g2, .ref qmi])), (g, .inr (0, [.ref so, .ref lo, .ref qpr, .ref qpa, .int (nI dy), .long co, .long wo])), (qpa, .inl (cJ, 30, .inr (.inl pa))), (so, .inr (3, [.ref qlk, .ref qln, .ref qhd, .ref qsf, .ref qfp, .ref qfc, .int (nI ly), .int (nI ce), .int da, .int db, .int dr])), (qlk, .inl (cI, 30, .inl lk)), (qln, .inl (cI, 30, .inl ln)), (qhd, .inl (cI, 30, .inl hd)), (qsf, .inl (cI, 30, .inl sf)), (qfp, .inl (cI, 30, .inl fp)), (qfc, .inl (cI, 31, .inl fc)), (lo, .inr (1, [.ref qld, .ref qlz, .int (nI mn), .long sm]))]) (w1 := []) hP hD [] [0, 1, 2, 3, 4, 5, 6, 7, 8, 9, 10] rfl rfl (by decide) (by decide) hk1 hFc hP1 hD1
              generalize H1 = H at hP hS ⊢
              have hP : va_P (dC, dI) vwCl [(xx, .inr (4, [.ref so, .ref lo, .ref rg, .ref g, .ref g2, .ref qmi])), (g, .inr (0, [.ref so, .ref lo, .ref qpr, .ref qpa, .int (nI dy), .long co, .long wo])), (qpa, .inl (cJ, 30, .inr (.inl pa))), (so, .inr (3, [.ref qlk, .ref qln, .ref qhd, .ref qsf, .ref qfp, .ref qfc, .int (nI ly), .int (nI ce), .int da, .int db, .int dr])), (qlk, .inl (cI, 30, .inl lk)), (qln, .inl (cI, 30, .inl ln)), (qhd, .inl (cI, 30, .inl hd)), (qsf, .inl (cI, 30, .inl sf)), (qfp, .inl (cI, 30, .inl fp)), (qfc, .inl (cI, 31, .inl fc)), (lo, .inr (1, [.ref qld, .ref qlz, .int (nI mn), .long sm]))] H := hP
              have hD : va_D A [(xx, .inr (4, [.ref so, .ref lo, .ref rg, .ref g, .ref g2, .ref qmi])), (g, .inr (0, [.ref so, .ref lo, .ref qpr, .ref qpa, .int (nI dy), .long co, .long wo])), (qpa, .inl (cJ, 30, .inr (.inl pa))), (so, .inr (3, [.ref qlk, .ref qln, .ref qhd, .ref qsf, .ref qfp, .ref qfc, .int (nI ly), .int (nI ce), .int da, .int db, .int dr])), (qlk, .inl (cI, 30, .inl lk)), (qln, .inl (cI, 30, .inl ln)), (qhd, .inl (cI, 30, .inl hd)), (qsf, .inl (cI, 30, .inl sf)), (qfp, .inl (cI, 30, .inl fp)), (qfc, .inl (cI, 31, .inl fc)), (lo, .inr (1, [.ref qld, .ref qlz, .int (nI mn), .long sm]))] := hD
              clear hPc hDc hFc hP1 hD1 hK1 hk1 hz1 hvm ht
              obtain rfl : kb ((nI 0) ≤ x2 ∧ x2 ≤ (nI 1000)) = res_ := hw.symm
              refine lv_if_eq (tgt := 95) hx hb dX_layer_80 (by decide) (fun hc80 => ?_) (fun hc80 => ?_)
              · -- 80 taken
                rw [kb_eq0, k_wi, nI_toInt (n := 0) (by omega), nI_toInt (n := 1000) (by omega)] at hc80
                refine lv_iconst (v := (-1)) hx hb dX_layer_95 (by decide) ?_
                have hP : va_P (dC, dI) vwCl [(xx, .inr (4, [.ref so, .ref lo, .ref rg, .ref g, .ref g2, .ref qmi])), (g, .inr (0, [.ref so, .ref lo, .ref qpr, .ref qpa, .int (nI dy), .long co, .long wo])), (qpa, .inl (cJ, 30, .inr (.inl pa))), (so, .inr (3, [.ref qlk, .ref qln, .ref qhd, .ref qsf, .ref qfp, .ref qfc, .int (nI ly), .int (nI ce), .int da, .int db, .int dr])), (qlk, .inl (cI, 30, .inl lk)), (qln, .inl (cI, 30, .inl ln)), (qhd, .inl (cI, 30, .inl hd)), (qsf, .inl (cI, 30, .inl sf)), (qfp, .inl (cI, 30, .inl fp)), (qfc, .inl (cI, 31, .inl fc)), (lo, .inr (1, [.ref qld, .ref qlz, .int (nI mn), .long sm]))] H := by first | exact hP | simpa only [] using hP
                have hD : va_D A [(xx, .inr (4, [.ref so, .ref lo, .ref rg, .ref g, .ref g2, .ref qmi])), (g, .inr (0, [.ref so, .ref lo, .ref qpr, .ref qpa, .int (nI dy), .long co, .long wo])), (qpa, .inl (cJ, 30, .inr (.inl pa))), (so, .inr (3, [.ref qlk, .ref qln, .ref qhd, .ref qsf, .ref qfp, .ref qfc, .int (nI ly), .int (nI ce), .int da, .int db, .int dr])), (qlk, .inl (cI, 30, .inl lk)), (qln, .inl (cI, 30, .inl ln)), (qhd, .inl (cI, 30, .inl hd)), (qsf, .inl (cI, 30, .inl sf)), (qfp, .inl (cI, 30, .inl fp)), (qfc, .inl (cI, 31, .inl fc)), (lo, .inr (1, [.ref qld, .ref qlz, .int (nI mn), .long sm]))] := by first | exact hD | simpa only [] using hD
                exact W.iret (v := (-1)) hx hb hr (fun t ht hW => ⟨⟨(-1), (), rfl, rfl, by rw [ht]; exact hP, va_K.moved hW.alike hK, hD⟩, hS.F ht⟩) hS.2.2 dX_layer_96
              · -- 80 not taken
                rw [kb_eq0, k_wi, nI_toInt (n := 0) (by omega), nI_toInt (n := 1000) (by omega)] at hc80
                refine lv_iload hx hb dX_layer_83 (lv_at hl 4 rfl) ?_
                refine lv_iload_n hx hb dX_layer_85 rfl (lv_at hl 3 rfl) ?_
                refine lv_sipush (v := nI 1000) hx hb dX_layer_86 (by decide) ?_
                have hPc := hP.sub (ws' := []) [] rfl
                have hDc := hD.sub (ws' := []) [] (by decide) rfl
                have hFc := va_free (wc := []) hD hS hA [] rfl
                refine va_calli (va_runS (As := [.int x3, .int x2, .int (nI 1000)]) (rest := []) ⟨hx, hb, hml, hown, htw⟩ (kX_within l dC dI cI cJ H.size x3 x2 (nI 1000)) (va_cwS 3 htw (ws_good m_164 m_165 m_1 m_166) rfl rfl rfl (by decide +kernel) ⟨Nat.le_of_ble_eq_true rfl, Nat.le_of_ble_eq_true rfl⟩) ⟨fun a U g mk q => by obtain ⟨q0, q1, qP, qK, qD⟩ := q; exact ⟨q0, q1, qP, va_K.moved (u := U) (U := U.calling g mk a) (Vm.Alike.refl U.vm) qK, qD⟩, fun U hU hW => ⟨rfl, by rw [hU], by rw [hU]; exact hPc, va_K.moved hW.alike hK, hDc.weaken (fun _ _ _ _ => trivial)⟩⟩ rfl rfl hl.1 rfl (lv_room (Nat.le_of_ble_eq_true rfl)) dX_layer_89 ⟨Nat.le_of_ble_eq_true rfl, Nat.le_of_ble_eq_true rfl⟩) hS (fun q _ h => hFc q h) hFc (fun res_ u_ t H1 locs ht hvm hw hB hz1 hk1 hS => ?_)
                obtain ⟨hP1, hK1, hD1⟩ := hB
                rw [ht] at hP1
                obtain ⟨hP, hD⟩ := va_join (wr := [(xx, .inr (4, [.ref so, .ref lo, .ref rg, .ref g, .ref g2, .ref qmi])), (g, .inr (0, [.ref so, .ref lo, .ref qpr, .ref qpa, .int (nI dy), .long co, .long wo])), (qpa, .inl (cJ, 30, .inr (.inl pa))), (so, .inr (3, [.ref qlk, .ref qln, .ref qhd, .ref qsf, .ref qfp, .ref qfc, .int (nI ly), .int (nI ce), .int da, .int db, .int dr])), (qlk, .inl (cI, 30, .inl lk)), (qln, .inl (cI, 30, .inl ln)), (qhd, .inl (cI, 30, .inl hd)), (qsf, .inl (cI, 30, .inl sf)), (qfp, .inl (cI, 30, .inl fp)), (qfc, .inl (cI, 31, .inl fc)), (lo, .inr (1, [.ref qld, .ref qlz, .int (nI mn), .long sm]))]) (w1 := []) hP hD [] [0, 1, 2, 3, 4, 5, 6, 7, 8, 9, 10] rfl rfl (by decide) (by decide) hk1 hFc hP1 hD1
                generalize H1 = H at hP hS ⊢
                have hP : va_P (dC, dI) vwCl [(xx, .inr (4, [.ref so, .ref lo, .ref rg, .ref g, .ref g2, .ref qmi])), (g, .inr (0, [.ref so, .ref lo, .ref qpr, .ref qpa, .int (nI dy), .long co, .long wo])), (qpa, .inl (cJ, 30, .inr (.inl pa))), (so, .inr (3, [.ref qlk, .ref qln, .ref qhd, .ref qsf, .ref qfp, .ref qfc, .int (nI ly), .int (nI ce), .int da, .int db, .int dr])), (qlk, .inl (cI, 30, .inl lk)), (qln, .inl (cI, 30, .inl ln)), (qhd, .inl (cI, 30, .inl hd)), (qsf, .inl (cI, 30, .inl sf)), (qfp, .inl (cI, 30, .inl fp)), (qfc, .inl (cI, 31, .inl fc)), (lo, .inr (1, [.ref qld, .ref qlz, .int (nI mn), .long sm]))] H := hP
                have hD : va_D A [(xx, .inr (4, [.ref so, .ref lo, .ref rg, .ref g, .ref g2, .ref qmi])), (g, .inr (0, [.ref so, .ref lo, .ref qpr, .ref qpa, .int (nI dy), .long co, .long wo])), (qpa, .inl (cJ, 30, .inr (.inl pa))), (so, .inr (3, [.ref qlk, .ref qln, .ref qhd, .ref qsf, .ref qfp, .ref qfc, .int (nI ly), .int (nI ce), .int da, .int db, .int dr])), (qlk, .inl (cI, 30, .inl lk)), (qln, .inl (cI, 30, .inl ln)), (qhd, .inl (cI, 30, .inl hd)), (qsf, .inl (cI, 30, .inl sf)), (qfp, .inl (cI, 30, .inl fp)), (qfc, .inl (cI, 31, .inl fc)), (lo, .inr (1, [.ref qld, .ref qlz, .int (nI mn), .long sm]))] := hD
                clear hPc hDc hFc hP1 hD1 hK1 hk1 hz1 hvm ht
                obtain rfl : kb (x2 ≤ x3 ∧ x3 ≤ (nI 1000)) = res_ := hw.symm
                refine lv_if_ne (tgt := 97) hx hb dX_layer_92 (by decide) (fun hc92 => ?_) (fun hc92 => ?_)
                · -- 92 taken
                  rw [kb_eq0, k_wi, nI_toInt (n := 1000) (by omega)] at hc92
                  exfalso; omega
                · -- 92 not taken
                  rw [kb_eq0, k_wi, nI_toInt (n := 1000) (by omega)] at hc92
                  refine lv_iconst (v := (-1)) hx hb dX_layer_95 (by decide) ?_
                  have hP : va_P (dC, dI) vwCl [(xx, .inr (4, [.ref so, .ref lo, .ref rg, .ref g, .ref g2, .ref qmi])), (g, .inr (0, [.ref so, .ref lo, .ref qpr, .ref qpa, .int (nI dy), .long co, .long wo])), (qpa, .inl (cJ, 30, .inr (.inl pa))), (so, .inr (3, [.ref qlk, .ref qln, .ref qhd, .ref qsf, .ref qfp, .ref qfc, .int (nI ly), .int (nI ce), .int da, .int db, .int dr])), (qlk, .inl (cI, 30, .inl lk)), (qln, .inl (cI, 30, .inl ln)), (qhd, .inl (cI, 30, .inl hd)), (qsf, .inl (cI, 30, .inl sf)), (qfp, .inl (cI, 30, .inl fp)), (qfc, .inl (cI, 31, .inl fc)), (lo, .inr (1, [.ref qld, .ref qlz, .int (nI mn), .long sm]))] H := by first | exact hP | simpa only [] using hP
                  have hD : va_D A [(xx, .inr (4, [.ref so, .ref lo, .ref rg, .ref g, .ref g2, .ref qmi])), (g, .inr (0, [.ref so, .ref lo, .ref qpr, .ref qpa, .int (nI dy), .long co, .long wo])), (qpa, .inl (cJ, 30, .inr (.inl pa))), (so, .inr (3, [.ref qlk, .ref qln, .ref qhd, .ref qsf, .ref qfp, .ref qfc, .int (nI ly), .int (nI ce), .int da, .int db, .int dr])), (qlk, .inl (cI, 30, .inl lk)), (qln, .inl (cI, 30, .inl ln)), (qhd, .inl (cI, 30, .inl hd)), (qsf, .inl (cI, 30, .inl sf)), (qfp, .inl (cI, 30, .inl fp)), (qfc, .inl (cI, 31, .inl fc)), (lo, .inr (1, [.ref qld, .ref qlz, .int (nI mn), .long sm]))] := by first | exact hD | simpa only [] using hD
                  exact W.iret (v := (-1)) hx hb hr (fun t ht hW => ⟨⟨(-1), (), rfl, rfl, by rw [ht]; exact hP, va_K.moved hW.alike hK, hD⟩, hS.F ht⟩) hS.2.2 dX_layer_96
            · -- 67 not taken
              rw [kb_eq0, k_wi, nI_toInt (n := 0) (by omega), nI_toInt (n := 1000000) (by omega)] at hc67
              refine lv_iconst (v := (-1)) hx hb dX_layer_70 (by decide) ?_
              have hP : va_P (dC, dI) vwCl [(xx, .inr (4, [.ref so, .ref lo, .ref rg, .ref g, .ref g2, .ref qmi])), (g, .inr (0, [.ref so, .ref lo, .ref qpr, .ref qpa, .int (nI dy), .long co, .long wo])), (qpa, .inl (cJ, 30, .inr (.inl pa))), (so, .inr (3, [.ref qlk, .ref qln, .ref qhd, .ref qsf, .ref qfp, .ref qfc, .int (nI ly), .int (nI ce), .int da, .int db, .int dr])), (qlk, .inl (cI, 30, .inl lk)), (qln, .inl (cI, 30, .inl ln)), (qhd, .inl (cI, 30, .inl hd)), (qsf, .inl (cI, 30, .inl sf)), (qfp, .inl (cI, 30, .inl fp)), (qfc, .inl (cI, 31, .inl fc)), (lo, .inr (1, [.ref qld, .ref qlz, .int (nI mn), .long sm]))] H := by first | exact hP | simpa only [] using hP
              have hD : va_D A [(xx, .inr (4, [.ref so, .ref lo, .ref rg, .ref g, .ref g2, .ref qmi])), (g, .inr (0, [.ref so, .ref lo, .ref qpr, .ref qpa, .int (nI dy), .long co, .long wo])), (qpa, .inl (cJ, 30, .inr (.inl pa))), (so, .inr (3, [.ref qlk, .ref qln, .ref qhd, .ref qsf, .ref qfp, .ref qfc, .int (nI ly), .int (nI ce), .int da, .int db, .int dr])), (qlk, .inl (cI, 30, .inl lk)), (qln, .inl (cI, 30, .inl ln)), (qhd, .inl (cI, 30, .inl hd)), (qsf, .inl (cI, 30, .inl sf)), (qfp, .inl (cI, 30, .inl fp)), (qfc, .inl (cI, 31, .inl fc)), (lo, .inr (1, [.ref qld, .ref qlz, .int (nI mn), .long sm]))] := by first | exact hD | simpa only [] using hD
              exact W.iret (v := (-1)) hx hb hr (fun t ht hW => ⟨⟨(-1), (), rfl, rfl, by rw [ht]; exact hP, va_K.moved hW.alike hK, hD⟩, hS.F ht⟩) hS.2.2 dX_layer_71
        · -- 43 not taken
          rw [Int32.le_iff_toInt_le, pk_sub_toInt (a := 30) (b := ce) (by omega) (by omega)] at hc43
          refine lv_iconst (v := (-1)) hx hb dX_layer_46 (by decide) ?_
          have hP : va_P (dC, dI) vwCl [(xx, .inr (4, [.ref so, .ref lo, .ref rg, .ref g, .ref g2, .ref qmi])), (g, .inr (0, [.ref so, .ref lo, .ref qpr, .ref qpa, .int (nI dy), .long co, .long wo])), (qpa, .inl (cJ, 30, .inr (.inl pa))), (so, .inr (3, [.ref qlk, .ref qln, .ref qhd, .ref qsf, .ref qfp, .ref qfc, .int (nI ly), .int (nI ce), .int da, .int db, .int dr])), (qlk, .inl (cI, 30, .inl lk)), (qln, .inl (cI, 30, .inl ln)), (qhd, .inl (cI, 30, .inl hd)), (qsf, .inl (cI, 30, .inl sf)), (qfp, .inl (cI, 30, .inl fp)), (qfc, .inl (cI, 31, .inl fc)), (lo, .inr (1, [.ref qld, .ref qlz, .int (nI mn), .long sm]))] H := by first | exact hP | simpa only [] using hP
          have hD : va_D A [(xx, .inr (4, [.ref so, .ref lo, .ref rg, .ref g, .ref g2, .ref qmi])), (g, .inr (0, [.ref so, .ref lo, .ref qpr, .ref qpa, .int (nI dy), .long co, .long wo])), (qpa, .inl (cJ, 30, .inr (.inl pa))), (so, .inr (3, [.ref qlk, .ref qln, .ref qhd, .ref qsf, .ref qfp, .ref qfc, .int (nI ly), .int (nI ce), .int da, .int db, .int dr])), (qlk, .inl (cI, 30, .inl lk)), (qln, .inl (cI, 30, .inl ln)), (qhd, .inl (cI, 30, .inl hd)), (qsf, .inl (cI, 30, .inl sf)), (qfp, .inl (cI, 30, .inl fp)), (qfc, .inl (cI, 31, .inl fc)), (lo, .inr (1, [.ref qld, .ref qlz, .int (nI mn), .long sm]))] := by first | exact hD | simpa only [] using hD
          exact W.iret (v := (-1)) hx hb hr (fun t ht hW => ⟨⟨(-1), (), rfl, rfl, by rw [ht]; exact hP, va_K.moved hW.alike hK, hD⟩, hS.F ht⟩) hS.2.2 dX_layer_47
    · -- 17 not taken
      rw [show (0 : Int32) = nI 0 from rfl, nI_leI (by omega) (by omega)] at hc17
      refine lv_iconst (v := (-1)) hx hb dX_layer_20 (by decide) ?_
      have hP : va_P (dC, dI) vwCl [(xx, .inr (4, [.ref so, .ref lo, .ref rg, .ref g, .ref g2, .ref qmi])), (g, .inr (0, [.ref so, .ref lo, .ref qpr, .ref qpa, .int (nI dy), .long co, .long wo])), (qpa, .inl (cJ, 30, .inr (.inl pa))), (so, .inr (3, [.ref qlk, .ref qln, .ref qhd, .ref qsf, .ref qfp, .ref qfc, .int (nI ly), .int (nI ce), .int da, .int db, .int dr])), (qlk, .inl (cI, 30, .inl lk)), (qln, .inl (cI, 30, .inl ln)), (qhd, .inl (cI, 30, .inl hd)), (qsf, .inl (cI, 30, .inl sf)), (qfp, .inl (cI, 30, .inl fp)), (qfc, .inl (cI, 31, .inl fc)), (lo, .inr (1, [.ref qld, .ref qlz, .int (nI mn), .long sm]))] s.heap := by first | exact hP | simpa only [] using hP
      have hD : va_D A [(xx, .inr (4, [.ref so, .ref lo, .ref rg, .ref g, .ref g2, .ref qmi])), (g, .inr (0, [.ref so, .ref lo, .ref qpr, .ref qpa, .int (nI dy), .long co, .long wo])), (qpa, .inl (cJ, 30, .inr (.inl pa))), (so, .inr (3, [.ref qlk, .ref qln, .ref qhd, .ref qsf, .ref qfp, .ref qfc, .int (nI ly), .int (nI ce), .int da, .int db, .int dr])), (qlk, .inl (cI, 30, .inl lk)), (qln, .inl (cI, 30, .inl ln)), (qhd, .inl (cI, 30, .inl hd)), (qsf, .inl (cI, 30, .inl sf)), (qfp, .inl (cI, 30, .inl fp)), (qfc, .inl (cI, 31, .inl fc)), (lo, .inr (1, [.ref qld, .ref qlz, .int (nI mn), .long sm]))] := by first | exact hD | simpa only [] using hD
      exact W.iret (v := (-1)) hx hb hr (fun t ht hW => ⟨⟨(-1), (), rfl, rfl, by rw [ht]; exact hP, va_K.moved hW.alike hK, hD⟩, hS.F ht⟩) hS.2.2 dX_layer_21
set_option maxHeartbeats 4000000 in
set_option maxRecDepth 100000 in
theorem kX_run_ok (l : Launch) (dC : Nat → ClassId) (dI : Nat → Nat → Nat) (cI cJ : ClassId) (xx so lo rg g g2 qmi qlk qln qhd qsf qfp qfc qld qlz qpr qpa : Nat) (sz : Nat) (n : Nat) (ly : Nat) (ce : Nat) (da : Int32) (db : Int32) (dr : Int32) (lk : Nat → Int32) (ln : Nat → Int32) (hd : Nat → Int32) (sf : Nat → Int32) (fp : Nat → Int32) (mn : Nat) (sm : Int64) (ld : Nat → Int32) (lz : Nat → Int32) (dy : Nat) (co : Int64) (wo : Int64) (pr : Nat → Int64) (pa : Nat → Int64) (mi : Nat → Int64) (hdy : dy ≤ 400) (hmn : mn ≤ 12) (hce : ce ≤ 30) (hn : n < 2147483648) (hok : (0 < ce ∧ 1 ≤ n ∧ n ≤ 60 ∧ n + dy ≤ 400)) : Met l yX_run wX_run ({ frames := 3, cells := 0, slots := 0, locals := 71 }) (va_Pc [.ref xx, .int (nI n)] (fun U => U.heap.size = sz ∧ va_P (dC, dI) vwCl [(xx, .inr (4, [.ref so, .ref lo, .ref rg, .ref g, .ref g2, .ref qmi])), (so, .inr (3, [.ref qlk, .ref qln, .ref qhd, .ref qsf, .ref qfp, .ref qfc, .int (nI ly), .int (nI ce), .int da, .int db, .int dr])), (qlk, .inl (cI, 30, .inl lk)), (qln, .inl (cI, 30, .inl ln)), (qhd, .inl (cI, 30, .inl hd)), (qsf, .inl (cI, 30, .inl sf)), (qfp, .inl (cI, 30, .inl fp)), (lo, .inr (1, [.ref qld, .ref qlz, .int (nI mn), .long sm])), (qld, .inl (cI, 12, .inl ld)), (qlz, .inl (cI, 12, .inl lz)), (g, .inr (0, [.ref so, .ref lo, .ref qpr, .ref qpa, .int (nI dy), .long co, .long wo])), (qpr, .inl (cJ, 30, .inr (.inl pr))), (qpa, .inl (cJ, 30, .inr (.inl pa))), (qmi, .inl (cJ, 401, .inr (.inl mi)))] U.heap ∧ va_K (dC, dI) vwCl [(cI, .int), (cJ, .long)] U ∧ va_D (fun _ => True) [(xx, .inr (4, [.ref so, .ref lo, .ref rg, .ref g, .ref g2, .ref qmi])), (so, .inr (3, [.ref qlk, .ref qln, .ref qhd, .ref qsf, .ref qfp, .ref qfc, .int (nI ly), .int (nI ce), .int da, .int db, .int dr])), (qlk, .inl (cI, 30, .inl lk)), (qln, .inl (cI, 30, .inl ln)), (qhd, .inl (cI, 30, .inl hd)), (qsf, .inl (cI, 30, .inl sf)), (qfp, .inl (cI, 30, .inl fp)), (lo, .inr (1, [.ref qld, .ref qlz, .int (nI mn), .long sm])), (qld, .inl (cI, 12, .inl ld)), (qlz, .inl (cI, 12, .inl lz)), (g, .inr (0, [.ref so, .ref lo, .ref qpr, .ref qpa, .int (nI dy), .long co, .long wo])), (qpr, .inl (cJ, 30, .inr (.inl pr))), (qpa, .inl (cJ, 30, .inr (.inl pa))), (qmi, .inl (cJ, 401, .inr (.inl mi)))])) (va_Qi (fun res_ (_ : Unit) => res_ = nI (dy + n)) (fun _ t => va_P (dC, dI) vwCl [(xx, .inr (4, [.ref so, .ref lo, .ref rg, .ref g, .ref g2, .ref qmi])), (so, .inr (3, [.ref qlk, .ref qln, .ref qhd, .ref qsf, .ref qfp, .ref qfc, .int (nI ly), .int (nI ce), .int da, .int db, .int dr])), (qlk, .inl (cI, 30, .inl lk)), (qln, .inl (cI, 30, .inl ln)), (qhd, .inl (cI, 30, .inl hd)), (qsf, .inl (cI, 30, .inl sf)), (qfp, .inl (cI, 30, .inl fp)), (lo, .inr (1, [.ref qld, .ref qlz, .int (nI mn), .long sm])), (qld, .inl (cI, 12, .inl ld)), (qlz, .inl (cI, 12, .inl lz)), (g, .inr (0, [.ref so, .ref lo, .ref qpr, .ref qpa, .int (nI (dy + n)), .long (kD_c ld lz mn dy co n), .long (kD_w lk ln ce da db dr ld lz mn dy pr wo n)])), (qpr, .inl (cJ, 30, .inr (.inl (kD_p lk ln ce da db dr ld lz mn dy pr n)))), (qpa, .inl (cJ, 30, .inr (.inl (kD_a lk ln ce da db dr ld lz mn dy co pr pa n)))), (qmi, .inl (cJ, 401, .inr (.inl (kD_m dy (fun d => kD_u hd sf fp lk ln ce da db dr ld lz mn dy co pr pa d) mi n))))] t.heap ∧ va_K (dC, dI) vwCl [(cI, .int), (cJ, .long)] t ∧ va_D (va_A [(xx, .inr (4, [.ref so, .ref lo, .ref rg, .ref g, .ref g2, .ref qmi])), (so, .inr (3, [.ref qlk, .ref qln, .ref qhd, .ref qsf, .ref qfp, .ref qfc, .int (nI ly), .int (nI ce), .int da, .int db, .int dr])), (qlk, .inl (cI, 30, .inl lk)), (qln, .inl (cI, 30, .inl ln)), (qhd, .inl (cI, 30, .inl hd)), (qsf, .inl (cI, 30, .inl sf)), (qfp, .inl (cI, 30, .inl fp)), (lo, .inr (1, [.ref qld, .ref qlz, .int (nI mn), .long sm])), (qld, .inl (cI, 12, .inl ld)), (qlz, .inl (cI, 12, .inl lz)), (g, .inr (0, [.ref so, .ref lo, .ref qpr, .ref qpa, .int (nI dy), .long co, .long wo])), (qpr, .inl (cJ, 30, .inr (.inl pr))), (qpa, .inl (cJ, 30, .inr (.inl pa))), (qmi, .inl (cJ, 401, .inr (.inl mi)))] sz) [(xx, .inr (4, [.ref so, .ref lo, .ref rg, .ref g, .ref g2, .ref qmi])), (so, .inr (3, [.ref qlk, .ref qln, .ref qhd, .ref qsf, .ref qfp, .ref qfc, .int (nI ly), .int (nI ce), .int da, .int db, .int dr])), (qlk, .inl (cI, 30, .inl lk)), (qln, .inl (cI, 30, .inl ln)), (qhd, .inl (cI, 30, .inl hd)), (qsf, .inl (cI, 30, .inl sf)), (qfp, .inl (cI, 30, .inl fp)), (lo, .inr (1, [.ref qld, .ref qlz, .int (nI mn), .long sm])), (qld, .inl (cI, 12, .inl ld)), (qlz, .inl (cI, 12, .inl lz)), (g, .inr (0, [.ref so, .ref lo, .ref qpr, .ref qpa, .int (nI (dy + n)), .long (kD_c ld lz mn dy co n), .long (kD_w lk ln ce da db dr ld lz mn dy pr wo n)])), (qpr, .inl (cJ, 30, .inr (.inl (kD_p lk ln ce da db dr ld lz mn dy pr n)))), (qpa, .inl (cJ, 30, .inr (.inl (kD_a lk ln ce da db dr ld lz mn dy co pr pa n)))), (qmi, .inl (cJ, 401, .inr (.inl (kD_m dy (fun d => kD_u hd sf fp lk ln ce da db dr ld lz mn dy co pr pa d) mi n))))]) (va_A [(xx, .inr (4, [.ref so, .ref lo, .ref rg, .ref g, .ref g2, .ref qmi])), (so, .inr (3, [.ref qlk, .ref qln, .ref qhd, .ref qsf, .ref qfp, .ref qfc, .int (nI ly), .int (nI ce), .int da, .int db, .int dr])), (qlk, .inl (cI, 30, .inl lk)), (qln, .inl (cI, 30, .inl ln)), (qhd, .inl (cI, 30, .inl hd)), (qsf, .inl (cI, 30, .inl sf)), (qfp, .inl (cI, 30, .inl fp)), (lo, .inr (1, [.ref qld, .ref qlz, .int (nI mn), .long sm])), (qld, .inl (cI, 12, .inl ld)), (qlz, .inl (cI, 12, .inl lz)), (g, .inr (0, [.ref so, .ref lo, .ref qpr, .ref qpa, .int (nI dy), .long co, .long wo])), (qpr, .inl (cJ, 30, .inr (.inl pr))), (qpa, .inl (cJ, 30, .inr (.inl pa))), (qmi, .inl (cJ, 401, .inr (.inl mi)))] sz)) 0 0 (va_A [(xx, .inr (4, [.ref so, .ref lo, .ref rg, .ref g, .ref g2, .ref qmi])), (so, .inr (3, [.ref qlk, .ref qln, .ref qhd, .ref qsf, .ref qfp, .ref qfc, .int (nI ly), .int (nI ce), .int da, .int db, .int dr])), (qlk, .inl (cI, 30, .inl lk)), (qln, .inl (cI, 30, .inl ln)), (qhd, .inl (cI, 30, .inl hd)), (qsf, .inl (cI, 30, .inl sf)), (qfp, .inl (cI, 30, .inl fp)), (lo, .inr (1, [.ref qld, .ref qlz, .int (nI mn), .long sm])), (qld, .inl (cI, 12, .inl ld)), (qlz, .inl (cI, 12, .inl lz)), (g, .inr (0, [.ref so, .ref lo, .ref qpr, .ref qpa, .int (nI dy), .long co, .long wo])), (qpr, .inl (cJ, 30, .inr (.inl pr))), (qpa, .inl (cJ, 30, .inr (.inl pa))), (qmi, .inl (cJ, 401, .inr (.inl mi)))] sz) := by
  refine Met.ofW (cc := bX_run) (maxL := 3) (ret := (some .int)) (by decide) rfl ?_
  intro p e s m args below meth c s₁ B hml hv
  obtain ⟨rfl, hsz, hP, hK, hD0⟩ := hv
  have hx := B.exec
  have hb := B.bytes
  have hr := B.returns
  have hts := atoms_spec (ws := wX_run) B.pre
  have hown : s.vm.findClass R_X = some m.cls := findClass_of_methodNamed B.named
  have htw : ∀ w ∈ WA, w.before _ s = true := fun w h => hts w (List.mem_cons_of_mem _ h)
  clear hts
  have hlocks := B.notSynchronized
  subst hsz
  have hD := hD0.self (sz := s.heap.size)
  generalize hAe : va_A [(xx, .inr (4, [.ref so, .ref lo, .ref rg, .ref g, .ref g2, .ref qmi])), (so, .inr (3, [.ref qlk, .ref qln, .ref qhd, .ref qsf, .ref qfp, .ref qfc, .int (nI ly), .int (nI ce), .int da, .int db, .int dr])), (qlk, .inl (cI, 30, .inl lk)), (qln, .inl (cI, 30, .inl ln)), (qhd, .inl (cI, 30, .inl hd)), (qsf, .inl (cI, 30, .inl sf)), (qfp, .inl (cI, 30, .inl fp)), (lo, .inr (1, [.ref qld, .ref qlz, .int (nI mn), .long sm])), (qld, .inl (cI, 12, .inl ld)), (qlz, .inl (cI, 12, .inl lz)), (g, .inr (0, [.ref so, .ref lo, .ref qpr, .ref qpa, .int (nI dy), .long co, .long wo])), (qpr, .inl (cJ, 30, .inr (.inl pr))), (qpa, .inl (cJ, 30, .inr (.inl pa))), (qmi, .inl (cJ, 401, .inr (.inl mi)))] s.heap.size = A at hD ⊢
  have hA : ∀ q : Nat, s.heap.size ≤ q → A q := fun q h => by rw [← hAe]; exact Or.inr h
  clear hAe hD0
  have hS : va_S A s.heap s.heap [] := va_S.rf
  have hP : va_P (dC, dI) vwCl [(xx, .inr (4, [.ref so, .ref lo, .ref rg, .ref g, .ref g2, .ref qmi])), (so, .inr (3, [.ref qlk, .ref qln, .ref qhd, .ref qsf, .ref qfp, .ref qfc, .int (nI ly), .int (nI ce), .int da, .int db, .int dr])), (qlk, .inl (cI, 30, .inl lk)), (qln, .inl (cI, 30, .inl ln)), (qhd, .inl (cI, 30, .inl hd)), (qsf, .inl (cI, 30, .inl sf)), (qfp, .inl (cI, 30, .inl fp)), (lo, .inr (1, [.ref qld, .ref qlz, .int (nI mn), .long sm])), (qld, .inl (cI, 12, .inl ld)), (qlz, .inl (cI, 12, .inl lz)), (g, .inr (0, [.ref so, .ref lo, .ref qpr, .ref qpa, .int (nI dy), .long co, .long wo])), (qpr, .inl (cJ, 30, .inr (.inl pr))), (qpa, .inl (cJ, 30, .inr (.inl pa))), (qmi, .inl (cJ, 401, .inr (.inl mi)))] s.heap := hP
  have hl := lv_entry ([.ref xx, .int (nI n)]) (n := 3) (Nat.le_of_ble_eq_true rfl)
  rw [lg_entry_eq]
  generalize (lg_sl ([.ref xx, .int (nI n)]) ++ List.replicate (3 - (lg_sl ([.ref xx, .int (nI n)])).length) Slot.unset).toArray = ls at hl ⊢
  have hl : lv_has ls 3 [(0, .ref xx), (1, .int (nI n))] := hl
  refine lv_aload_n hx hb dX_run_0 rfl (lv_at hl 0 rfl) ?_
  refine va_get (D := (dC, dI)) (ci := 4) (v := .ref so) (C := R_X) (T := T_X) (N := 6) hx hb htw in_X hown hK hP 0 rfl rfl 0 (by decide) (htw _ m_141) (fun _ h9 => h9) rfl dX_run_1 ?_
  refine va_get (D := (dC, dI)) (ci := 3) (v := .int (nI ce)) (C := R_S) (T := T_S) (N := 11) hx hb htw in_S hown hK hP 1 rfl rfl 7 (by decide) (htw _ m_34) (fun _ h9 => h9) rfl dX_run_4 ?_
  refine lv_if_eq (tgt := 35) hx hb dX_run_7 (by decide) (fun hc7 => ?_) (fun hc7 => ?_)
  · -- 7 taken
    rw [show (0 : Int32) = nI 0 from rfl, nI_eq (by omega) (by omega)] at hc7
    exfalso; omega
  · -- 7 not taken
    rw [show (0 : Int32) = nI 0 from rfl, nI_eq (by omega) (by omega)] at hc7
    refine lv_iload_n hx hb dX_run_10 rfl (lv_at hl 1 rfl) ?_
    refine lv_iconst (v := nI 1) hx hb dX_run_11 (by decide) ?_
    refine lv_bipush (v := nI 60) hx hb dX_run_12 (by decide) ?_
    have hPc := hP.sub (ws' := []) [] rfl
    have hDc := hD.sub (ws' := []) [] (by decide) rfl
    have hFc := va_free (wc := []) hD hS hA [] rfl
    refine va_calli (va_runS (As := [.int (nI n), .int (nI 1), .int (nI 60)]) (rest := []) ⟨hx, hb, hml, hown, htw⟩ (kX_within l dC dI cI cJ s.heap.size (nI n) (nI 1) (nI 60)) (va_cwS 3 htw (ws_good m_164 m_165 m_1 m_166) rfl rfl rfl (by decide +kernel) ⟨Nat.le_of_ble_eq_true rfl, Nat.le_of_ble_eq_true rfl⟩) ⟨fun a U g mk q => by obtain ⟨q0, q1, qP, qK, qD⟩ := q; exact ⟨q0, q1, qP, va_K.moved (u := U) (U := U.calling g mk a) (Vm.Alike.refl U.vm) qK, qD⟩, fun U hU hW => ⟨rfl, by rw [hU], by rw [hU]; exact hPc, va_K.moved hW.alike hK, hDc.weaken (fun _ _ _ _ => trivial)⟩⟩ rfl rfl hl.1 rfl (lv_room (Nat.le_of_ble_eq_true rfl)) dX_run_14 ⟨Nat.le_of_ble_eq_true rfl, Nat.le_of_ble_eq_true rfl⟩) hS (fun q _ h => hFc q h) hFc (fun res_ u_ t H1 locs ht hvm hw hB hz1 hk1 hS => ?_)
    obtain ⟨hP1, hK1, hD1⟩ := hB
    rw [ht] at hP1
    obtain ⟨hP, hD⟩ := va_join (wr := [(xx, .inr (4, [.ref so, .ref lo, .ref rg, .ref g, .ref g2, .ref qmi])), (so, .inr (3, [.ref qlk, .ref qln, .ref qhd, .ref qsf, .ref qfp, .ref qfc, .int (nI ly), .int (nI ce), .int da, .int db, .int dr])), (qlk, .inl (cI, 30, .inl lk)), (qln, .inl (cI, 30, .inl ln)), (qhd, .inl (cI, 30, .inl hd)), (qsf, .inl (cI, 30, .inl sf)), (qfp, .inl (cI, 30, .inl fp)), (lo, .inr (1, [.ref qld, .ref qlz, .int (nI mn), .long sm])), (qld, .inl (cI, 12, .inl ld)), (qlz, .inl (cI, 12, .inl lz)), (g, .inr (0, [.ref so, .ref lo, .ref qpr, .ref qpa, .int (nI dy), .long co, .long wo])), (qpr, .inl (cJ, 30, .inr (.inl pr))), (qpa, .inl (cJ, 30, .inr (.inl pa))), (qmi, .inl (cJ, 401, .inr (.inl mi)))]) (w1 := []) hP hD [] [0, 1, 2, 3, 4, 5, 6, 7, 8, 9, 10, 11, 12, 13] rfl rfl (by decide) (by decide) hk1 hFc hP1 hD1
    generalize H1 = H at hP hS ⊢
    have hP : va_P (dC, dI) vwCl [(xx, .inr (4, [.ref so, .ref lo, .ref rg, .ref g, .ref g2, .ref qmi])), (so, .inr (3, [.ref qlk, .ref qln, .ref qhd, .ref qsf, .ref qfp, .ref qfc, .int (nI ly), .int (nI ce), .int da, .int db, .int dr])), (qlk, .inl (cI, 30, .inl lk)), (qln, .inl (cI, 30, .inl ln)), (qhd, .inl (cI, 30, .inl hd)), (qsf, .inl (cI, 30, .inl sf)), (qfp, .inl (cI, 30, .inl fp)), (lo, .inr (1, [.ref qld, .ref qlz, .int (nI mn), .long sm])), (qld, .inl (cI, 12, .inl ld)), (qlz, .inl (cI, 12, .inl lz)), (g, .inr (0, [.ref so, .ref lo, .ref qpr, .ref qpa, .int (nI dy), .long co, .long wo])), (qpr, .inl (cJ, 30, .inr (.inl pr))), (qpa, .inl (cJ, 30, .inr (.inl pa))), (qmi, .inl (cJ, 401, .inr (.inl mi)))] H := hP
    have hD : va_D A [(xx, .inr (4, [.ref so, .ref lo, .ref rg, .ref g, .ref g2, .ref qmi])), (so, .inr (3, [.ref qlk, .ref qln, .ref qhd, .ref qsf, .ref qfp, .ref qfc, .int (nI ly), .int (nI ce), .int da, .int db, .int dr])), (qlk, .inl (cI, 30, .inl lk)), (qln, .inl (cI, 30, .inl ln)), (qhd, .inl (cI, 30, .inl hd)), (qsf, .inl (cI, 30, .inl sf)), (qfp, .inl (cI, 30, .inl fp)), (lo, .inr (1, [.ref qld, .ref qlz, .int (nI mn), .long sm])), (qld, .inl (cI, 12, .inl ld)), (qlz, .inl (cI, 12, .inl lz)), (g, .inr (0, [.ref so, .ref lo, .ref qpr, .ref qpa, .int (nI dy), .long co, .long wo])), (qpr, .inl (cJ, 30, .inr (.inl pr))), (qpa, .inl (cJ, 30, .inr (.inl pa))), (qmi, .inl (cJ, 401, .inr (.inl mi)))] := hD
    clear hPc hDc hFc hP1 hD1 hK1 hk1 hz1 hvm ht
    obtain rfl : kb ((nI 1) ≤ (nI n) ∧ (nI n) ≤ (nI 60)) = res_ := hw.symm
    refine lv_if_eq (tgt := 35) hx hb dX_run_17 (by decide) (fun hc17 => ?_) (fun hc17 => ?_)
    · -- 17 taken
      rw [kb_eq0, k_wi, nI_toInt (n := 1) (by omega), nI_toInt (n := n) (by omega), nI_toInt (n := 60) (by omega)] at hc17
      exfalso; omega
    · -- 17 not taken
      rw [kb_eq0, k_wi, nI_toInt (n := 1) (by omega), nI_toInt (n := n) (by omega), nI_toInt (n := 60) (by omega)] at hc17
      refine lv_iload_n hx hb dX_run_20 rfl (lv_at hl 1 rfl) ?_
      refine lv_sipush (v := nI 400) hx hb dX_run_21 (by decide) ?_
      refine lv_aload_n hx hb dX_run_24 rfl (lv_at hl 0 rfl) ?_
      refine va_get (D := (dC, dI)) (ci := 4) (v := .ref g) (C := R_X) (T := T_X) (N := 6) hx hb htw in_X hown hK hP 0 rfl rfl 3 (by decide) (htw _ m_144) (fun _ h9 => h9) rfl dX_run_25 ?_
      refine va_get (D := (dC, dI)) (ci := 0) (v := .int (nI dy)) (C := R_G) (T := T_G) (N := 7) hx hb htw in_G hown hK hP 10 rfl rfl 4 (by decide) (htw _ m_120) (fun _ h9 => h9) rfl dX_run_28 ?_
      refine lv_isub hx hb dX_run_31 ?_
      refine lv_icmp_le (tgt := 37) hx hb dX_run_32 (by decide) (fun hc32 => ?_) (fun hc32 => ?_)
      · -- 32 taken
        rw [Int32.le_iff_toInt_le, nI_toInt (n := n) (by omega), pk_sub_toInt (a := 400) (b := dy) (by omega) (by omega)] at hc32
        refine lv_iconst (v := nI 0) hx hb dX_run_37 (by decide) ?_
        refine lv_istore_n (lv' := [(2, .int (nI 0)), (0, .ref xx), (1, .int (nI n))]) hx hb dX_run_38 rfl hl (by decide) rfl (fun ls hl => ?_)
        -- the loop at 39
        have hP : va_P (dC, dI) vwCl [(xx, .inr (4, [.ref so, .ref lo, .ref rg, .ref g, .ref g2, .ref qmi])), (so, .inr (3, [.ref qlk, .ref qln, .ref qhd, .ref qsf, .ref qfp, .ref qfc, .int (nI ly), .int (nI ce), .int da, .int db, .int dr])), (qlk, .inl (cI, 30, .inl lk)), (qln, .inl (cI, 30, .inl ln)), (qhd, .inl (cI, 30, .inl hd)), (qsf, .inl (cI, 30, .inl sf)), (qfp, .inl (cI, 30, .inl fp)), (lo, .inr (1, [.ref qld, .ref qlz, .int (nI mn), .long sm])), (qld, .inl (cI, 12, .inl ld)), (qlz, .inl (cI, 12, .inl lz)), (g, .inr (0, [.ref so, .ref lo, .ref qpr, .ref qpa, .int (nI (dy + 0)), .long (kD_c ld lz mn dy co 0), .long (kD_w lk ln ce da db dr ld lz mn dy pr wo 0)])), (qpr, .inl (cJ, 30, .inr (.inl (kD_p lk ln ce da db dr ld lz mn dy pr 0)))), (qpa, .inl (cJ, 30, .inr (.inl (kD_a lk ln ce da db dr ld lz mn dy co pr pa 0)))), (qmi, .inl (cJ, 401, .inr (.inl (kD_m dy (fun d => kD_u hd sf fp lk ln ce da db dr ld lz mn dy co pr pa d) mi 0))))] H := by first | exact hP | simpa only [] using hP
        have hD : va_D A [(xx, .inr (4, [.ref so, .ref lo, .ref rg, .ref g, .ref g2, .ref qmi])), (so, .inr (3, [.ref qlk, .ref qln, .ref qhd, .ref qsf, .ref qfp, .ref qfc, .int (nI ly), .int (nI ce), .int da, .int db, .int dr])), (qlk, .inl (cI, 30, .inl lk)), (qln, .inl (cI, 30, .inl ln)), (qhd, .inl (cI, 30, .inl hd)), (qsf, .inl (cI, 30, .inl sf)), (qfp, .inl (cI, 30, .inl fp)), (lo, .inr (1, [.ref qld, .ref qlz, .int (nI mn), .long sm])), (qld, .inl (cI, 12, .inl ld)), (qlz, .inl (cI, 12, .inl lz)), (g, .inr (0, [.ref so, .ref lo, .ref qpr, .ref qpa, .int (nI (dy + 0)), .long (kD_c ld lz mn dy co 0), .long (kD_w lk ln ce da db dr ld lz mn dy pr wo 0)])), (qpr, .inl (cJ, 30, .inr (.inl (kD_p lk ln ce da db dr ld lz mn dy pr 0)))), (qpa, .inl (cJ, 30, .inr (.inl (kD_a lk ln ce da db dr ld lz mn dy co pr pa 0)))), (qmi, .inl (cJ, 401, .inr (.inl (kD_m dy (fun d => kD_u hd sf fp lk ln ce da db dr ld lz mn dy co pr pa d) mi 0))))] := by first | exact hD | simpa only [] using hD
        refine x_loop (N := n) (I := fun i H locs ls => va_P (dC, dI) vwCl [(xx, .inr (4, [.ref so, .ref lo, .ref rg, .ref g, .ref g2, .ref qmi])), (so, .inr (3, [.ref qlk, .ref qln, .ref qhd, .ref qsf, .ref qfp, .ref qfc, .int (nI ly), .int (nI ce), .int da, .int db, .int dr])), (qlk, .inl (cI, 30, .inl lk)), (qln, .inl (cI, 30, .inl ln)), (qhd, .inl (cI, 30, .inl hd)), (qsf, .inl (cI, 30, .inl sf)), (qfp, .inl (cI, 30, .inl fp)), (lo, .inr (1, [.ref qld, .ref qlz, .int (nI mn), .long sm])), (qld, .inl (cI, 12, .inl ld)), (qlz, .inl (cI, 12, .inl lz)), (g, .inr (0, [.ref so, .ref lo, .ref qpr, .ref qpa, .int (nI (dy + i)), .long (kD_c ld lz mn dy co i), .long (kD_w lk ln ce da db dr ld lz mn dy pr wo i)])), (qpr, .inl (cJ, 30, .inr (.inl (kD_p lk ln ce da db dr ld lz mn dy pr i)))), (qpa, .inl (cJ, 30, .inr (.inl (kD_a lk ln ce da db dr ld lz mn dy co pr pa i)))), (qmi, .inl (cJ, 401, .inr (.inl (kD_m dy (fun d => kD_u hd sf fp lk ln ce da db dr ld lz mn dy co pr pa d) mi i))))] H ∧ va_D A [(xx, .inr (4, [.ref so, .ref lo, .ref rg, .ref g, .ref g2, .ref qmi])), (so, .inr (3, [.ref qlk, .ref qln, .ref qhd, .ref qsf, .ref qfp, .ref qfc, .int (nI ly), .int (nI ce), .int da, .int db, .int dr])), (qlk, .inl (cI, 30, .inl lk)), (qln, .inl (cI, 30, .inl ln)), (qhd, .inl (cI, 30, .inl hd)), (qsf, .inl (cI, 30, .inl sf)), (qfp, .inl (cI, 30, .inl fp)), (lo, .inr (1, [.ref qld, .ref qlz, .int (nI mn), .long sm])), (qld, .inl (cI, 12, .inl ld)), (qlz, .inl (cI, 12, .inl lz)), (g, .inr (0, [.ref so, .ref lo, .ref qpr, .ref qpa, .int (nI (dy + i)), .long (kD_c ld lz mn dy co i), .long (kD_w lk ln ce da db dr ld lz mn dy pr wo i)])), (qpr, .inl (cJ, 30, .inr (.inl (kD_p lk ln ce da db dr ld lz mn dy pr i)))), (qpa, .inl (cJ, 30, .inr (.inl (kD_a lk ln ce da db dr ld lz mn dy co pr pa i)))), (qmi, .inl (cJ, 401, .inr (.inl (kD_m dy (fun d => kD_u hd sf fp lk ln ce da db dr ld lz mn dy co pr pa d) mi i))))] ∧ va_S A s.heap H locs ∧ lv_has ls 3 [(0, .ref xx), (1, .int (nI n)), (2, .int (nI i))]) (i0 := 0) ?_ (Nat.zero_le _) ⟨hP, hD, hS, lv_sub hl [1, 2, 0] rfl⟩
        intro i hi ih39 H locs ls hI
        obtain ⟨hP, hD, hS, hl⟩ := hI
        refine lv_iload_n hx hb dX_run_39 rfl (lv_at hl 2 rfl) ?_
        refine lv_iload_n hx hb dX_run_40 rfl (lv_at hl 1 rfl) ?_
        refine lv_icmp_ge (tgt := 80) hx hb dX_run_41 (by decide) (fun hc41 => ?_) (fun hc41 => ?_)
        · -- 41 taken
          rw [nI_leI (by omega) (by omega)] at hc41
          obtain rfl : n = i := by omega
          refine lv_aload_n hx hb dX_run_80 rfl (lv_at hl 0 rfl) ?_
          refine va_get (D := (dC, dI)) (ci := 4) (v := .ref g) (C := R_X) (T := T_X) (N := 6) hx hb htw in_X hown hK hP 0 rfl rfl 3 (by decide) (htw _ m_144) (fun _ h9 => h9) rfl dX_run_81 ?_
          refine va_get (D := (dC, dI)) (ci := 0) (v := .int (nI (dy + n))) (C := R_G) (T := T_G) (N := 7) hx hb htw in_G hown hK hP 10 rfl rfl 4 (by decide) (htw _ m_120) (fun _ h9 => h9) rfl dX_run_84 ?_
          have hP : va_P (dC, dI) vwCl [(xx, .inr (4, [.ref so, .ref lo, .ref rg, .ref g, .ref g2, .ref qmi])), (so, .inr (3, [.ref qlk, .ref qln, .ref qhd, .ref qsf, .ref qfp, .ref qfc, .int (nI ly), .int (nI ce), .int da, .int db, .int dr])), (qlk, .inl (cI, 30, .inl lk)), (qln, .inl (cI, 30, .inl ln)), (qhd, .inl (cI, 30, .inl hd)), (qsf, .inl (cI, 30, .inl sf)), (qfp, .inl (cI, 30, .inl fp)), (lo, .inr (1, [.ref qld, .ref qlz, .int (nI mn), .long sm])), (qld, .inl (cI, 12, .inl ld)), (qlz, .inl (cI, 12, .inl lz)), (g, .inr (0, [.ref so, .ref lo, .ref qpr, .ref qpa, .int (nI (dy + n)), .long (kD_c ld lz mn dy co n), .long (kD_w lk ln ce da db dr ld lz mn dy pr wo n)])), (qpr, .inl (cJ, 30, .inr (.inl (kD_p lk ln ce da db dr ld lz mn dy pr n)))), (qpa, .inl (cJ, 30, .inr (.inl (kD_a lk ln ce da db dr ld lz mn dy co pr pa n)))), (qmi, .inl (cJ, 401, .inr (.inl (kD_m dy (fun d => kD_u hd sf fp lk ln ce da db dr ld lz mn dy co pr pa d) mi n))))] H := by first | exact hP | simpa only [] using hP
          have hD : va_D A [(xx, .inr (4, [.ref so, .ref lo, .ref rg, .ref g, .ref g2, .ref qmi])), (so, .inr (3, [.ref qlk, .ref qln, .ref qhd, .ref qsf, .ref qfp, .ref qfc, .int (nI ly), .int (nI ce), .int da, .int db, .int dr])), (qlk, .inl (cI, 30, .inl lk)), (qln, .inl (cI, 30, .inl ln)), (qhd, .inl (cI, 30, .inl hd)), (qsf, .inl (cI, 30, .inl sf)), (qfp, .inl (cI, 30, .inl fp)), (lo, .inr (1, [.ref qld, .ref qlz, .int (nI mn), .long sm])), (qld, .inl (cI, 12, .inl ld)), (qlz, .inl (cI, 12, .inl lz)), (g, .inr (0, [.ref so, .ref lo, .ref qpr, .ref qpa, .int (nI (dy + n)), .long (kD_c ld lz mn dy co n), .long (kD_w lk ln ce da db dr ld lz mn dy pr wo n)])), (qpr, .inl (cJ, 30, .inr (.inl (kD_p lk ln ce da db dr ld lz mn dy pr n)))), (qpa, .inl (cJ, 30, .inr (.inl (kD_a lk ln ce da db dr ld lz mn dy co pr pa n)))), (qmi, .inl (cJ, 401, .inr (.inl (kD_m dy (fun d => kD_u hd sf fp lk ln ce da db dr ld lz mn dy co pr pa d) mi n))))] := by first | exact hD | simpa only [] using hD
          exact W.iret (v := nI (dy + n)) hx hb hr (fun t ht hW => ⟨⟨nI (dy + n), (), rfl, rfl, by rw [ht]; exact hP, va_K.moved hW.alike hK, hD⟩, hS.F ht⟩) hS.2.2 dX_run_87
        · -- 41 not taken
          rw [nI_leI (by omega) (by omega)] at hc41
          refine lv_aload_n hx hb dX_run_44 rfl (lv_at hl 0 rfl) ?_
          refine va_get (D := (dC, dI)) (ci := 4) (v := .ref g) (C := R_X) (T := T_X) (N := 6) hx hb htw in_X hown hK hP 0 rfl rfl 3 (by decide) (htw _ m_144) (fun _ h9 => h9) rfl dX_run_45 ?_
          have hPc := hP.sub (ws' := [(g, .inr (0, [.ref so, .ref lo, .ref qpr, .ref qpa, .int (nI (dy + i)), .long (kD_c ld lz mn dy co i), .long (kD_w lk ln ce da db dr ld lz mn dy pr wo i)])), (qpr, .inl (cJ, 30, .inr (.inl (kD_p lk ln ce da db dr ld lz mn dy pr i)))), (qpa, .inl (cJ, 30, .inr (.inl (kD_a lk ln ce da db dr ld lz mn dy co pr pa i)))), (so, .inr (3, [.ref qlk, .ref qln, .ref qhd, .ref qsf, .ref qfp, .ref qfc, .int (nI ly), .int (nI ce), .int da, .int db, .int dr])), (qlk, .inl (cI, 30, .inl lk)), (qln, .inl (cI, 30, .inl ln)), (lo, .inr (1, [.ref qld, .ref qlz, .int (nI mn), .long sm])), (qld, .inl (cI, 12, .inl ld)), (qlz, .inl (cI, 12, .inl lz))]) [10, 11, 12, 1, 2, 3, 7, 8, 9] rfl
          have hDc := hD.sub (ws' := [(g, .inr (0, [.ref so, .ref lo, .ref qpr, .ref qpa, .int (nI (dy + i)), .long (kD_c ld lz mn dy co i), .long (kD_w lk ln ce da db dr ld lz mn dy pr wo i)])), (qpr, .inl (cJ, 30, .inr (.inl (kD_p lk ln ce da db dr ld lz mn dy pr i)))), (qpa, .inl (cJ, 30, .inr (.inl (kD_a lk ln ce da db dr ld lz mn dy co pr pa i)))), (so, .inr (3, [.ref qlk, .ref qln, .ref qhd, .ref qsf, .ref qfp, .ref qfc, .int (nI ly), .int (nI ce), .int da, .int db, .int dr])), (qlk, .inl (cI, 30, .inl lk)), (qln, .inl (cI, 30, .inl ln)), (lo, .inr (1, [.ref qld, .ref qlz, .int (nI mn), .long sm])), (qld, .inl (cI, 12, .inl ld)), (qlz, .inl (cI, 12, .inl lz))]) [10, 11, 12, 1, 2, 3, 7, 8, 9] (by decide) rfl
          have hFc := va_free (wc := [(g, .inr (0, [.ref so, .ref lo, .ref qpr, .ref qpa, .int (nI (dy + i)), .long (kD_c ld lz mn dy co i), .long (kD_w lk ln ce da db dr ld lz mn dy pr wo i)])), (qpr, .inl (cJ, 30, .inr (.inl (kD_p lk ln ce da db dr ld lz mn dy pr i)))), (qpa, .inl (cJ, 30, .inr (.inl (kD_a lk ln ce da db dr ld lz mn dy co pr pa i)))), (so, .inr (3, [.ref qlk, .ref qln, .ref qhd, .ref qsf, .ref qfp, .ref qfc, .int (nI ly), .int (nI ce), .int da, .int db, .int dr])), (qlk, .inl (cI, 30, .inl lk)), (qln, .inl (cI, 30, .inl ln)), (lo, .inr (1, [.ref qld, .ref qlz, .int (nI mn), .long sm])), (qld, .inl (cI, 12, .inl ld)), (qlz, .inl (cI, 12, .inl lz))]) hD hS hA [10, 11, 12, 1, 2, 3, 7, 8, 9] rfl
          refine va_callv (va_runV (As := []) (rest := []) ⟨hx, hb, hml, hown, htw⟩ (kG_passDay l dC dI cI cJ g so lo qpr qpa qlk qln qhd qsf qfp qfc qld qlz H.size (dy + i) (kD_c ld lz mn dy co i) (kD_w lk ln ce da db dr ld lz mn dy pr wo i) (kD_p lk ln ce da db dr ld lz mn dy pr i) (kD_a lk ln ce da db dr ld lz mn dy co pr pa i) ly ce da db dr lk ln mn sm ld lz (by first | assumption | omega | decide) (by first | assumption | omega | decide) (by first | assumption | omega | decide) (by first | assumption | omega | decide)) (cwV 0 htw (wv_good m_196 m_197 m_198 m_5 m_199) rfl rfl rfl (by decide +kernel) ⟨Nat.le_of_ble_eq_true rfl, Nat.le_of_ble_eq_true rfl⟩) ⟨fun a U g mk q => by obtain ⟨q0, q1, qP, qK, qD⟩ := q; exact ⟨q0, q1, qP, va_K.moved (u := U) (U := U.calling g mk a) (Vm.Alike.refl U.vm) qK, qD⟩, va_recv hK hPc (ci := 0) (q0 := 0) rfl rfl, fun U hU hW => ⟨rfl, by rw [hU], by rw [hU]; exact hPc, va_K.moved hW.alike hK, hDc.weaken (fun _ _ _ _ => trivial)⟩⟩ rfl rfl hl.1 rfl (lv_room (Nat.le_of_ble_eq_true rfl)) dX_run_48 ⟨Nat.le_of_ble_eq_true rfl, Nat.le_of_ble_eq_true rfl⟩) hS (fun q _ h => hFc q h) hFc (fun u_ t H1 locs ht hvm hw hB hz1 hk1 hS => ?_)
          obtain ⟨hP1, hK1, hD1⟩ := hB
          rw [ht] at hP1
          obtain ⟨hP, hD⟩ := va_join (wr := [(xx, .inr (4, [.ref so, .ref lo, .ref rg, .ref g, .ref g2, .ref qmi])), (qhd, .inl (cI, 30, .inl hd)), (qsf, .inl (cI, 30, .inl sf)), (qfp, .inl (cI, 30, .inl fp)), (qmi, .inl (cJ, 401, .inr (.inl (kD_m dy (fun d => kD_u hd sf fp lk ln ce da db dr ld lz mn dy co pr pa d) mi i))))]) (w1 := [(g, .inr (0, [.ref so, .ref lo, .ref qpr, .ref qpa, .int (nI ((dy + i) + 1)), .long ((kD_c ld lz mn dy co i) + k_come ld lz (nI (dy + i)) mn), .long (k_w lk ln ce da db dr (k_lay (kD_p lk ln ce da db dr ld lz mn dy pr i) ce (k_come ld lz (nI (dy + i)) mn)) (kD_w lk ln ce da db dr ld lz mn dy pr wo i) 24)])), (qpr, .inl (cJ, 30, .inr (.inl (k_p lk ln ce da db dr (k_lay (kD_p lk ln ce da db dr ld lz mn dy pr i) ce (k_come ld lz (nI (dy + i)) mn)) 24)))), (qpa, .inl (cJ, 30, .inr (.inl (k_a lk ln ce da db dr ((kD_c ld lz mn dy co i) + k_come ld lz (nI (dy + i)) mn) (k_lay (kD_p lk ln ce da db dr ld lz mn dy pr i) ce (k_come ld lz (nI (dy + i)) mn)) (kD_a lk ln ce da db dr ld lz mn dy co pr pa i) 24)))), (so, .inr (3, [.ref qlk, .ref qln, .ref qhd, .ref qsf, .ref qfp, .ref qfc, .int (nI ly), .int (nI ce), .int da, .int db, .int dr])), (qlk, .inl (cI, 30, .inl lk)), (qln, .inl (cI, 30, .inl ln)), (lo, .inr (1, [.ref qld, .ref qlz, .int (nI mn), .long sm])), (qld, .inl (cI, 12, .inl ld)), (qlz, .inl (cI, 12, .inl lz))]) hP hD [10, 11, 12, 1, 2, 3, 7, 8, 9] [0, 4, 5, 6, 13] rfl rfl (by decide) (by decide) hk1 hFc hP1 hD1
          generalize H1 = H at hP hS ⊢
          have hP := hP.sub (ws' := [(xx, .inr (4, [.ref so, .ref lo, .ref rg, .ref g, .ref g2, .ref qmi])), (so, .inr (3, [.ref qlk, .ref qln, .ref qhd, .ref qsf, .ref qfp, .ref qfc, .int (nI ly), .int (nI ce), .int da, .int db, .int dr])), (qlk, .inl (cI, 30, .inl lk)), (qln, .inl (cI, 30, .inl ln)), (qhd, .inl (cI, 30, .inl hd)), (qsf, .inl (cI, 30, .inl sf)), (qfp, .inl (cI, 30, .inl fp)), (lo, .inr (1, [.ref qld, .ref qlz, .int (nI mn), .long sm])), (qld, .inl (cI, 12, .inl ld)), (qlz, .inl (cI, 12, .inl lz)), (g, .inr (0, [.ref so, .ref lo, .ref qpr, .ref qpa, .int (nI ((dy + i) + 1)), .long ((kD_c ld lz mn dy co i) + k_come ld lz (nI (dy + i)) mn), .long (k_w lk ln ce da db dr (k_lay (kD_p lk ln ce da db dr ld lz mn dy pr i) ce (k_come ld lz (nI (dy + i)) mn)) (kD_w lk ln ce da db dr ld lz mn dy pr wo i) 24)])), (qpr, .inl (cJ, 30, .inr (.inl (k_p lk ln ce da db dr (k_lay (kD_p lk ln ce da db dr ld lz mn dy pr i) ce (k_come ld lz (nI (dy + i)) mn)) 24)))), (qpa, .inl (cJ, 30, .inr (.inl (k_a lk ln ce da db dr ((kD_c ld lz mn dy co i) + k_come ld lz (nI (dy + i)) mn) (k_lay (kD_p lk ln ce da db dr ld lz mn dy pr i) ce (k_come ld lz (nI (dy + i)) mn)) (kD_a lk ln ce da db dr ld lz mn dy co pr pa i) 24)))), (qmi, .inl (cJ, 401, .inr (.inl (kD_m dy (fun d => kD_u hd sf fp lk ln ce da db dr ld lz mn dy co pr pa d) mi i))))]) [0, 8, 9, 10, 1, 2, 3, 11, 12, 13, 5, 6, 7, 4] rfl
          have hD := hD.sub (ws' := [(xx, .inr (4, [.ref so, .ref lo, .ref rg, .ref g, .ref g2, .ref qmi])), (so, .inr (3, [.ref qlk, .ref qln, .ref qhd, .ref qsf, .ref qfp, .ref qfc, .int (nI ly), .int (nI ce), .int da, .int db, .int dr])), (qlk, .inl (cI, 30, .inl lk)), (qln, .inl (cI, 30, .inl ln)), (qhd, .inl (cI, 30, .inl hd)), (qsf, .inl (cI, 30, .inl sf)), (qfp, .inl (cI, 30, .inl fp)), (lo, .inr (1, [.ref qld, .ref qlz, .int (nI mn), .long sm])), (qld, .inl (cI, 12, .inl ld)), (qlz, .inl (cI, 12, .inl lz)), (g, .inr (0, [.ref so, .ref lo, .ref qpr, .ref qpa, .int (nI ((dy + i) + 1)), .long ((kD_c ld lz mn dy co i) + k_come ld lz (nI (dy + i)) mn), .long (k_w lk ln ce da db dr (k_lay (kD_p lk ln ce da db dr ld lz mn dy pr i) ce (k_come ld lz (nI (dy + i)) mn)) (kD_w lk ln ce da db dr ld lz mn dy pr wo i) 24)])), (qpr, .inl (cJ, 30, .inr (.inl (k_p lk ln ce da db dr (k_lay (kD_p lk ln ce da db dr ld lz mn dy pr i) ce (k_come ld lz (nI (dy + i)) mn)) 24)))), (qpa, .inl (cJ, 30, .inr (.inl (k_a lk ln ce da db dr ((kD_c ld lz mn dy co i) + k_come ld lz (nI (dy + i)) mn) (k_lay (kD_p lk ln ce da db dr ld lz mn dy pr i) ce (k_come ld lz (nI (dy + i)) mn)) (kD_a lk ln ce da db dr ld lz mn dy co pr pa i) 24)))), (qmi, .inl (cJ, 401, .inr (.inl (kD_m dy (fun d => kD_u hd sf fp lk ln ce da db dr ld lz mn dy co pr pa d) mi i))))]) [0, 8, 9, 10, 1, 2, 3, 11, 12, 13, 5, 6, 7, 4] (by decide) rfl
          clear hPc hDc hFc hP1 hD1 hK1 hk1 hz1 hvm ht
          refine lv_aload_n hx hb dX_run_51 rfl (lv_at hl 0 rfl) ?_
          refine va_get (D := (dC, dI)) (ci := 4) (v := .ref qmi) (C := R_X) (T := T_X) (N := 6) hx hb htw in_X hown hK hP 0 rfl rfl 5 (by decide) (htw _ m_146) (fun _ h9 => h9) rfl dX_run_52 ?_
          refine lv_aload_n hx hb dX_run_55 rfl (lv_at hl 0 rfl) ?_
          refine va_get (D := (dC, dI)) (ci := 4) (v := .ref g) (C := R_X) (T := T_X) (N := 6) hx hb htw in_X hown hK hP 0 rfl rfl 3 (by decide) (htw _ m_144) (fun _ h9 => h9) rfl dX_run_56 ?_
          refine va_get (D := (dC, dI)) (ci := 0) (v := .int (nI ((dy + i) + 1))) (C := R_G) (T := T_G) (N := 7) hx hb htw in_G hown hK hP 10 rfl rfl 4 (by decide) (htw _ m_120) (fun _ h9 => h9) rfl dX_run_59 ?_
          refine lv_aload_n hx hb dX_run_62 rfl (lv_at hl 0 rfl) ?_
          refine va_get (D := (dC, dI)) (ci := 4) (v := .ref g) (C := R_X) (T := T_X) (N := 6) hx hb htw in_X hown hK hP 0 rfl rfl 3 (by decide) (htw _ m_144) (fun _ h9 => h9) rfl dX_run_63 ?_
          have hPc := hP.sub (ws' := [(g, .inr (0, [.ref so, .ref lo, .ref qpr, .ref qpa, .int (nI ((dy + i) + 1)), .long ((kD_c ld lz mn dy co i) + k_come ld lz (nI (dy + i)) mn), .long (k_w lk ln ce da db dr (k_lay (kD_p lk ln ce da db dr ld lz mn dy pr i) ce (k_come ld lz (nI (dy + i)) mn)) (kD_w lk ln ce da db dr ld lz mn dy pr wo i) 24)])), (qpr, .inl (cJ, 30, .inr (.inl (k_p lk ln ce da db dr (k_lay (kD_p lk ln ce da db dr ld lz mn dy pr i) ce (k_come ld lz (nI (dy + i)) mn)) 24)))), (qpa, .inl (cJ, 30, .inr (.inl (k_a lk ln ce da db dr ((kD_c ld lz mn dy co i) + k_come ld lz (nI (dy + i)) mn) (k_lay (kD_p lk ln ce da db dr ld lz mn dy pr i) ce (k_come ld lz (nI (dy + i)) mn)) (kD_a lk ln ce da db dr ld lz mn dy co pr pa i) 24)))), (so, .inr (3, [.ref qlk, .ref qln, .ref qhd, .ref qsf, .ref qfp, .ref qfc, .int (nI ly), .int (nI ce), .int da, .int db, .int dr])), (qhd, .inl (cI, 30, .inl hd)), (qsf, .inl (cI, 30, .inl sf)), (qfp, .inl (cI, 30, .inl fp))]) [10, 11, 12, 1, 4, 5, 6] rfl
          have hDc := hD.sub (ws' := [(g, .inr (0, [.ref so, .ref lo, .ref qpr, .ref qpa, .int (nI ((dy + i) + 1)), .long ((kD_c ld lz mn dy co i) + k_come ld lz (nI (dy + i)) mn), .long (k_w lk ln ce da db dr (k_lay (kD_p lk ln ce da db dr ld lz mn dy pr i) ce (k_come ld lz (nI (dy + i)) mn)) (kD_w lk ln ce da db dr ld lz mn dy pr wo i) 24)])), (qpr, .inl (cJ, 30, .inr (.inl (k_p lk ln ce da db dr (k_lay (kD_p lk ln ce da db dr ld lz mn dy pr i) ce (k_come ld lz (nI (dy + i)) mn)) 24)))), (qpa, .inl (cJ, 30, .inr (.inl (k_a lk ln ce da db dr ((kD_c ld lz mn dy co i) + k_come ld lz (nI (dy + i)) mn) (k_lay (kD_p lk ln ce da db dr ld lz mn dy pr i) ce (k_come ld lz (nI (dy + i)) mn)) (kD_a lk ln ce da db dr ld lz mn dy co pr pa i) 24)))), (so, .inr (3, [.ref qlk, .ref qln, .ref qhd, .ref qsf, .ref qfp, .ref qfc, .int (nI ly), .int (nI ce), .int da, .int db, .int dr])), (qhd, .inl (cI, 30, .inl hd)), (qsf, .inl (cI, 30, .inl sf)), (qfp, .inl (cI, 30, .inl fp))]) [10, 11, 12, 1, 4, 5, 6] (by decide) rfl
          have hFc := va_free (wc := [(g, .inr (0, [.ref so, .ref lo, .ref qpr, .ref qpa, .int (nI ((dy + i) + 1)), .long ((kD_c ld lz mn dy co i) + k_come ld lz (nI (dy + i)) mn), .long (k_w lk ln ce da db dr (k_lay (kD_p lk ln ce da db dr ld lz mn dy pr i) ce (k_come ld lz (nI (dy + i)) mn)) (kD_w lk ln ce da db dr ld lz mn dy pr wo i) 24)])), (qpr, .inl (cJ, 30, .inr (.inl (k_p lk ln ce da db dr (k_lay (kD_p lk ln ce da db dr ld lz mn dy pr i) ce (k_come ld lz (nI (dy + i)) mn)) 24)))), (qpa, .inl (cJ, 30, .inr (.inl (k_a lk ln ce da db dr ((kD_c ld lz mn dy co i) + k_come ld lz (nI (dy + i)) mn) (k_lay (kD_p lk ln ce da db dr ld lz mn dy pr i) ce (k_come ld lz (nI (dy + i)) mn)) (kD_a lk ln ce da db dr ld lz mn dy co pr pa i) 24)))), (so, .inr (3, [.ref qlk, .ref qln, .ref qhd, .ref qsf, .ref qfp, .ref qfc, .int (nI ly), .int (nI ce), .int da, .int db, .int dr])), (qhd, .inl (cI, 30, .inl hd)), (qsf, .inl (cI, 30, .inl sf)), (qfp, .inl (cI, 30, .inl fp))]) hD hS hA [10, 11, 12, 1, 4, 5, 6] rfl
          refine va_calll (va_runV (As := []) (rest := [.int (nI ((dy + i) + 1)), .ref qmi]) ⟨hx, hb, hml, hown, htw⟩ (kG_unitsSunk l dC dI cI cJ g so lo qpr qpa qlk qln qhd qsf qfp qfc H.size ((dy + i) + 1) ((kD_c ld lz mn dy co i) + k_come ld lz (nI (dy + i)) mn) (k_w lk ln ce da db dr (k_lay (kD_p lk ln ce da db dr ld lz mn dy pr i) ce (k_come ld lz (nI (dy + i)) mn)) (kD_w lk ln ce da db dr ld lz mn dy pr wo i) 24) (k_p lk ln ce da db dr (k_lay (kD_p lk ln ce da db dr ld lz mn dy pr i) ce (k_come ld lz (nI (dy + i)) mn)) 24) (k_a lk ln ce da db dr ((kD_c ld lz mn dy co i) + k_come ld lz (nI (dy + i)) mn) (k_lay (kD_p lk ln ce da db dr ld lz mn dy pr i) ce (k_come ld lz (nI (dy + i)) mn)) (kD_a lk ln ce da db dr ld lz mn dy co pr pa i) 24) ly ce da db dr hd sf fp (by first | assumption | omega | decide)) (cwV 0 htw (wv_good m_232 m_233 m_234 m_5 m_235) rfl rfl rfl (by decide +kernel) ⟨Nat.le_of_ble_eq_true rfl, Nat.le_of_ble_eq_true rfl⟩) ⟨fun a U g mk q => by obtain ⟨q0, q1, qP, qK, qD⟩ := q; exact ⟨q0, q1, qP, va_K.moved (u := U) (U := U.calling g mk a) (Vm.Alike.refl U.vm) qK, qD⟩, va_recv hK hPc (ci := 0) (q0 := 0) rfl rfl, fun U hU hW => ⟨rfl, by rw [hU], by rw [hU]; exact hPc, va_K.moved hW.alike hK, hDc.weaken (fun _ _ _ _ => trivial)⟩⟩ rfl rfl hl.1 rfl (lv_room (Nat.le_of_ble_eq_true rfl)) dX_run_66 ⟨Nat.le_of_ble_eq_true rfl, Nat.le_of_ble_eq_true rfl⟩) hS (fun q _ h => hFc q h) hFc (fun res_ u_ t H1 locs ht hvm hw hB hz1 hk1 hS => ?_)
          obtain ⟨hP1, hK1, hD1⟩ := hB
          rw [ht] at hP1
          obtain ⟨hP, hD⟩ := va_join (wr := [(xx, .inr (4, [.ref so, .ref lo, .ref rg, .ref g, .ref g2, .ref qmi])), (qlk, .inl (cI, 30, .inl lk)), (qln, .inl (cI, 30, .inl ln)), (lo, .inr (1, [.ref qld, .ref qlz, .int (nI mn), .long sm])), (qld, .inl (cI, 12, .inl ld)), (qlz, .inl (cI, 12, .inl lz)), (qmi, .inl (cJ, 401, .inr (.inl (kD_m dy (fun d => kD_u hd sf fp lk ln ce da db dr ld lz mn dy co pr pa d) mi i))))]) (w1 := [(g, .inr (0, [.ref so, .ref lo, .ref qpr, .ref qpa, .int (nI ((dy + i) + 1)), .long ((kD_c ld lz mn dy co i) + k_come ld lz (nI (dy + i)) mn), .long (k_w lk ln ce da db dr (k_lay (kD_p lk ln ce da db dr ld lz mn dy pr i) ce (k_come ld lz (nI (dy + i)) mn)) (kD_w lk ln ce da db dr ld lz mn dy pr wo i) 24)])), (qpr, .inl (cJ, 30, .inr (.inl (k_p lk ln ce da db dr (k_lay (kD_p lk ln ce da db dr ld lz mn dy pr i) ce (k_come ld lz (nI (dy + i)) mn)) 24)))), (qpa, .inl (cJ, 30, .inr (.inl (k_a lk ln ce da db dr ((kD_c ld lz mn dy co i) + k_come ld lz (nI (dy + i)) mn) (k_lay (kD_p lk ln ce da db dr ld lz mn dy pr i) ce (k_come ld lz (nI (dy + i)) mn)) (kD_a lk ln ce da db dr ld lz mn dy co pr pa i) 24)))), (so, .inr (3, [.ref qlk, .ref qln, .ref qhd, .ref qsf, .ref qfp, .ref qfc, .int (nI ly), .int (nI ce), .int da, .int db, .int dr])), (qhd, .inl (cI, 30, .inl hd)), (qsf, .inl (cI, 30, .inl sf)), (qfp, .inl (cI, 30, .inl fp))]) hP hD [10, 11, 12, 1, 4, 5, 6] [0, 2, 3, 7, 8, 9, 13] rfl rfl (by decide) (by decide) hk1 hFc hP1 hD1
          generalize H1 = H at hP hS ⊢
          have hP := hP.sub (ws' := [(xx, .inr (4, [.ref so, .ref lo, .ref rg, .ref g, .ref g2, .ref qmi])), (so, .inr (3, [.ref qlk, .ref qln, .ref qhd, .ref qsf, .ref qfp, .ref qfc, .int (nI ly), .int (nI ce), .int da, .int db, .int dr])), (qlk, .inl (cI, 30, .inl lk)), (qln, .inl (cI, 30, .inl ln)), (qhd, .inl (cI, 30, .inl hd)), (qsf, .inl (cI, 30, .inl sf)), (qfp, .inl (cI, 30, .inl fp)), (lo, .inr (1, [.ref qld, .ref qlz, .int (nI mn), .long sm])), (qld, .inl (cI, 12, .inl ld)), (qlz, .inl (cI, 12, .inl lz)), (g, .inr (0, [.ref so, .ref lo, .ref qpr, .ref qpa, .int (nI ((dy + i) + 1)), .long ((kD_c ld lz mn dy co i) + k_come ld lz (nI (dy + i)) mn), .long (k_w lk ln ce da db dr (k_lay (kD_p lk ln ce da db dr ld lz mn dy pr i) ce (k_come ld lz (nI (dy + i)) mn)) (kD_w lk ln ce da db dr ld lz mn dy pr wo i) 24)])), (qpr, .inl (cJ, 30, .inr (.inl (k_p lk ln ce da db dr (k_lay (kD_p lk ln ce da db dr ld lz mn dy pr i) ce (k_come ld lz (nI (dy + i)) mn)) 24)))), (qpa, .inl (cJ, 30, .inr (.inl (k_a lk ln ce da db dr ((kD_c ld lz mn dy co i) + k_come ld lz (nI (dy + i)) mn) (k_lay (kD_p lk ln ce da db dr ld lz mn dy pr i) ce (k_come ld lz (nI (dy + i)) mn)) (kD_a lk ln ce da db dr ld lz mn dy co pr pa i) 24)))), (qmi, .inl (cJ, 401, .inr (.inl (kD_m dy (fun d => kD_u hd sf fp lk ln ce da db dr ld lz mn dy co pr pa d) mi i))))]) [0, 10, 1, 2, 11, 12, 13, 3, 4, 5, 7, 8, 9, 6] rfl
          have hD := hD.sub (ws' := [(xx, .inr (4, [.ref so, .ref lo, .ref rg, .ref g, .ref g2, .ref qmi])), (so, .inr (3, [.ref qlk, .ref qln, .ref qhd, .ref qsf, .ref qfp, .ref qfc, .int (nI ly), .int (nI ce), .int da, .int db, .int dr])), (qlk, .inl (cI, 30, .inl lk)), (qln, .inl (cI, 30, .inl ln)), (qhd, .inl (cI, 30, .inl hd)), (qsf, .inl (cI, 30, .inl sf)), (qfp, .inl (cI, 30, .inl fp)), (lo, .inr (1, [.ref qld, .ref qlz, .int (nI mn), .long sm])), (qld, .inl (cI, 12, .inl ld)), (qlz, .inl (cI, 12, .inl lz)), (g, .inr (0, [.ref so, .ref lo, .ref qpr, .ref qpa, .int (nI ((dy + i) + 1)), .long ((kD_c ld lz mn dy co i) + k_come ld lz (nI (dy + i)) mn), .long (k_w lk ln ce da db dr (k_lay (kD_p lk ln ce da db dr ld lz mn dy pr i) ce (k_come ld lz (nI (dy + i)) mn)) (kD_w lk ln ce da db dr ld lz mn dy pr wo i) 24)])), (qpr, .inl (cJ, 30, .inr (.inl (k_p lk ln ce da db dr (k_lay (kD_p lk ln ce da db dr ld lz mn dy pr i) ce (k_come ld lz (nI (dy + i)) mn)) 24)))), (qpa, .inl (cJ, 30, .inr (.inl (k_a lk ln ce da db dr ((kD_c ld lz mn dy co i) + k_come ld lz (nI (dy + i)) mn) (k_lay (kD_p lk ln ce da db dr ld lz mn dy pr i) ce (k_come ld lz (nI (dy + i)) mn)) (kD_a lk ln ce da db dr ld lz mn dy co pr pa i) 24)))), (qmi, .inl (cJ, 401, .inr (.inl (kD_m dy (fun d => kD_u hd sf fp lk ln ce da db dr ld lz mn dy co pr pa d) mi i))))]) [0, 10, 1, 2, 11, 12, 13, 3, 4, 5, 7, 8, 9, 6] (by decide) rfl
          clear hPc hDc hFc hP1 hD1 hK1 hk1 hz1 hvm ht
          obtain rfl : k_units hd sf fp ((kD_c ld lz mn dy co i) + k_come ld lz (nI (dy + i)) mn) (k_p lk ln ce da db dr (k_lay (kD_p lk ln ce da db dr ld lz mn dy pr i) ce (k_come ld lz (nI (dy + i)) mn)) 24) (k_a lk ln ce da db dr ((kD_c ld lz mn dy co i) + k_come ld lz (nI (dy + i)) mn) (k_lay (kD_p lk ln ce da db dr ld lz mn dy pr i) ce (k_come ld lz (nI (dy + i)) mn)) (kD_a lk ln ce da db dr ld lz mn dy co pr pa i) 24) 0 ce = res_ := hw.symm
          refine lv_ldc2 (v := 1000) hx hb hown (htw _ m_244) dX_run_69 ?_
          refine lv_ldiv hx hb dX_run_72 (by decide) ?_
          refine lv_topl (fun kv ekv => ?_)
          obtain rfl : kD_u hd sf fp lk ln ce da db dr ld lz mn dy co pr pa (i + 1) / 1000 = kv := (ekv.trans (rfl)).symm
          refine xa_last hx hb hK hP hD hS 13 1 rfl rfl (i := ((dy + i) + 1)) (by omega) (by decide) dX_run_73 (fun H locs hP hD hS => ?_)
          have hP : va_P (dC, dI) vwCl [(xx, .inr (4, [.ref so, .ref lo, .ref rg, .ref g, .ref g2, .ref qmi])), (so, .inr (3, [.ref qlk, .ref qln, .ref qhd, .ref qsf, .ref qfp, .ref qfc, .int (nI ly), .int (nI ce), .int da, .int db, .int dr])), (qlk, .inl (cI, 30, .inl lk)), (qln, .inl (cI, 30, .inl ln)), (qhd, .inl (cI, 30, .inl hd)), (qsf, .inl (cI, 30, .inl sf)), (qfp, .inl (cI, 30, .inl fp)), (lo, .inr (1, [.ref qld, .ref qlz, .int (nI mn), .long sm])), (qld, .inl (cI, 12, .inl ld)), (qlz, .inl (cI, 12, .inl lz)), (g, .inr (0, [.ref so, .ref lo, .ref qpr, .ref qpa, .int (nI ((dy + i) + 1)), .long ((kD_c ld lz mn dy co i) + k_come ld lz (nI (dy + i)) mn), .long (k_w lk ln ce da db dr (k_lay (kD_p lk ln ce da db dr ld lz mn dy pr i) ce (k_come ld lz (nI (dy + i)) mn)) (kD_w lk ln ce da db dr ld lz mn dy pr wo i) 24)])), (qpr, .inl (cJ, 30, .inr (.inl (k_p lk ln ce da db dr (k_lay (kD_p lk ln ce da db dr ld lz mn dy pr i) ce (k_come ld lz (nI (dy + i)) mn)) 24)))), (qpa, .inl (cJ, 30, .inr (.inl (k_a lk ln ce da db dr ((kD_c ld lz mn dy co i) + k_come ld lz (nI (dy + i)) mn) (k_lay (kD_p lk ln ce da db dr ld lz mn dy pr i) ce (k_come ld lz (nI (dy + i)) mn)) (kD_a lk ln ce da db dr ld lz mn dy co pr pa i) 24)))), (qmi, .inl (cJ, 401, .inr (.inl (vp_updL (kD_m dy (fun d => kD_u hd sf fp lk ln ce da db dr ld lz mn dy co pr pa d) mi i) ((dy + i) + 1) (kD_u hd sf fp lk ln ce da db dr ld lz mn dy co pr pa (i + 1) / 1000)))))] H := hP
          have hD : va_D A [(xx, .inr (4, [.ref so, .ref lo, .ref rg, .ref g, .ref g2, .ref qmi])), (so, .inr (3, [.ref qlk, .ref qln, .ref qhd, .ref qsf, .ref qfp, .ref qfc, .int (nI ly), .int (nI ce), .int da, .int db, .int dr])), (qlk, .inl (cI, 30, .inl lk)), (qln, .inl (cI, 30, .inl ln)), (qhd, .inl (cI, 30, .inl hd)), (qsf, .inl (cI, 30, .inl sf)), (qfp, .inl (cI, 30, .inl fp)), (lo, .inr (1, [.ref qld, .ref qlz, .int (nI mn), .long sm])), (qld, .inl (cI, 12, .inl ld)), (qlz, .inl (cI, 12, .inl lz)), (g, .inr (0, [.ref so, .ref lo, .ref qpr, .ref qpa, .int (nI ((dy + i) + 1)), .long ((kD_c ld lz mn dy co i) + k_come ld lz (nI (dy + i)) mn), .long (k_w lk ln ce da db dr (k_lay (kD_p lk ln ce da db dr ld lz mn dy pr i) ce (k_come ld lz (nI (dy + i)) mn)) (kD_w lk ln ce da db dr ld lz mn dy pr wo i) 24)])), (qpr, .inl (cJ, 30, .inr (.inl (k_p lk ln ce da db dr (k_lay (kD_p lk ln ce da db dr ld lz mn dy pr i) ce (k_come ld lz (nI (dy + i)) mn)) 24)))), (qpa, .inl (cJ, 30, .inr (.inl (k_a lk ln ce da db dr ((kD_c ld lz mn dy co i) + k_come ld lz (nI (dy + i)) mn) (k_lay (kD_p lk ln ce da db dr ld lz mn dy pr i) ce (k_come ld lz (nI (dy + i)) mn)) (kD_a lk ln ce da db dr ld lz mn dy co pr pa i) 24)))), (qmi, .inl (cJ, 401, .inr (.inl (vp_updL (kD_m dy (fun d => kD_u hd sf fp lk ln ce da db dr ld lz mn dy co pr pa d) mi i) ((dy + i) + 1) (kD_u hd sf fp lk ln ce da db dr ld lz mn dy co pr pa (i + 1) / 1000)))))] := hD
          refine lv_iinc (v := nI (i + 1)) (lv' := [(2, .int (nI (i + 1))), (0, .ref xx), (1, .int (nI n))]) hx hb dX_run_74 hl (k := 2) rfl (nI_1 _) (by decide) rfl (fun ls hl => ?_)
          refine lv_goto (tgt := 39) hx hb dX_run_77 (by decide) ?_
          have hP : va_P (dC, dI) vwCl [(xx, .inr (4, [.ref so, .ref lo, .ref rg, .ref g, .ref g2, .ref qmi])), (so, .inr (3, [.ref qlk, .ref qln, .ref qhd, .ref qsf, .ref qfp, .ref qfc, .int (nI ly), .int (nI ce), .int da, .int db, .int dr])), (qlk, .inl (cI, 30, .inl lk)), (qln, .inl (cI, 30, .inl ln)), (qhd, .inl (cI, 30, .inl hd)), (qsf, .inl (cI, 30, .inl sf)), (qfp, .inl (cI, 30, .inl fp)), (lo, .inr (1, [.ref qld, .ref qlz, .int (nI mn), .long sm])), (qld, .inl (cI, 12, .inl ld)), (qlz, .inl (cI, 12, .inl lz)), (g, .inr (0, [.ref so, .ref lo, .ref qpr, .ref qpa, .int (nI (dy + (i + 1))), .long (kD_c ld lz mn dy co (i + 1)), .long (kD_w lk ln ce da db dr ld lz mn dy pr wo (i + 1))])), (qpr, .inl (cJ, 30, .inr (.inl (kD_p lk ln ce da db dr ld lz mn dy pr (i + 1))))), (qpa, .inl (cJ, 30, .inr (.inl (kD_a lk ln ce da db dr ld lz mn dy co pr pa (i + 1))))), (qmi, .inl (cJ, 401, .inr (.inl (kD_m dy (fun d => kD_u hd sf fp lk ln ce da db dr ld lz mn dy co pr pa d) mi (i + 1)))))] H := by first | exact hP | simpa only [] using hP
          have hD : va_D A [(xx, .inr (4, [.ref so, .ref lo, .ref rg, .ref g, .ref g2, .ref qmi])), (so, .inr (3, [.ref qlk, .ref qln, .ref qhd, .ref qsf, .ref qfp, .ref qfc, .int (nI ly), .int (nI ce), .int da, .int db, .int dr])), (qlk, .inl (cI, 30, .inl lk)), (qln, .inl (cI, 30, .inl ln)), (qhd, .inl (cI, 30, .inl hd)), (qsf, .inl (cI, 30, .inl sf)), (qfp, .inl (cI, 30, .inl fp)), (lo, .inr (1, [.ref qld, .ref qlz, .int (nI mn), .long sm])), (qld, .inl (cI, 12, .inl ld)), (qlz, .inl (cI, 12, .inl lz)), (g, .inr (0, [.ref so, .ref lo, .ref qpr, .ref qpa, .int (nI (dy + (i + 1))), .long (kD_c ld lz mn dy co (i + 1)), .long (kD_w lk ln ce da db dr ld lz mn dy pr wo (i + 1))])), (qpr, .inl (cJ, 30, .inr (.inl (kD_p lk ln ce da db dr ld lz mn dy pr (i + 1))))), (qpa, .inl (cJ, 30, .inr (.inl (kD_a lk ln ce da db dr ld lz mn dy co pr pa (i + 1))))), (qmi, .inl (cJ, 401, .inr (.inl (kD_m dy (fun d => kD_u hd sf fp lk ln ce da db dr ld lz mn dy co pr pa d) mi (i + 1)))))] := by first | exact hD | simpa only [] using hD
          exact ih39 (by omega) _ _ _ ⟨hP, hD, hS, lv_sub hl [1, 2, 0] rfl⟩
      · -- 32 not taken
        rw [Int32.le_iff_toInt_le, nI_toInt (n := n) (by omega), pk_sub_toInt (a := 400) (b := dy) (by omega) (by omega)] at hc32
        exfalso; omega
set_option maxHeartbeats 4000000 in
set_option maxRecDepth 100000 in
theorem kX_run_bad (l : Launch) (dC : Nat → ClassId) (dI : Nat → Nat → Nat) (cI cJ : ClassId) (xx so lo rg g g2 qmi qlk qln qhd qsf qfp qfc qld qlz qpr qpa : Nat) (sz : Nat) (x : Int32) (ly : Nat) (ce : Nat) (da : Int32) (db : Int32) (dr : Int32) (lk : Nat → Int32) (ln : Nat → Int32) (hd : Nat → Int32) (sf : Nat → Int32) (fp : Nat → Int32) (mn : Nat) (sm : Int64) (ld : Nat → Int32) (lz : Nat → Int32) (dy : Nat) (co : Int64) (wo : Int64) (pr : Nat → Int64) (pa : Nat → Int64) (mi : Nat → Int64) (hdy : dy ≤ 400) (hmn : mn ≤ 12) (hce : ce ≤ 30) (hbad : ¬ (0 < ce ∧ 1 ≤ x.toInt ∧ x.toInt ≤ 60 ∧ x.toInt + dy ≤ 400)) : Met l yX_run wX_run ({ frames := 1, cells := 0, slots := 0, locals := 22 }) (va_Pc [.ref xx, .int x] (fun U => U.heap.size = sz ∧ va_P (dC, dI) vwCl [(xx, .inr (4, [.ref so, .ref lo, .ref rg, .ref g, .ref g2, .ref qmi])), (so, .inr (3, [.ref qlk, .ref qln, .ref qhd, .ref qsf, .ref qfp, .ref qfc, .int (nI ly), .int (nI ce), .int da, .int db, .int dr])), (qlk, .inl (cI, 30, .inl lk)), (qln, .inl (cI, 30, .inl ln)), (qhd, .inl (cI, 30, .inl hd)), (qsf, .inl (cI, 30, .inl sf)), (qfp, .inl (cI, 30, .inl fp)), (lo, .inr (1, [.ref qld, .ref qlz, .int (nI mn), .long sm])), (qld, .inl (cI, 12, .inl ld)), (qlz, .inl (cI, 12, .inl lz)), (g, .inr (0, [.ref so, .ref lo, .ref qpr, .ref qpa, .int (nI dy), .long co, .long wo])), (qpr, .inl (cJ, 30, .inr (.inl pr))), (qpa, .inl (cJ, 30, .inr (.inl pa))), (qmi, .inl (cJ, 401, .inr (.inl mi)))] U.heap ∧ va_K (dC, dI) vwCl [(cI, .int), (cJ, .long)] U ∧ va_D (fun _ => True) [(xx, .inr (4, [.ref so, .ref lo, .ref rg, .ref g, .ref g2, .ref qmi])), (so, .inr (3, [.ref qlk, .ref qln, .ref qhd, .ref qsf, .ref qfp, .ref qfc, .int (nI ly), .int (nI ce), .int da, .int db, .int dr])), (qlk, .inl (cI, 30, .inl lk)), (qln, .inl (cI, 30, .inl ln)), (qhd, .inl (cI, 30, .inl hd)), (qsf, .inl (cI, 30, .inl sf)), (qfp, .inl (cI, 30, .inl fp)), (lo, .inr (1, [.ref qld, .ref qlz, .int (nI mn), .long sm])), (qld, .inl (cI, 12, .inl ld)), (qlz, .inl (cI, 12, .inl lz)), (g, .inr (0, [.ref so, .ref lo, .ref qpr, .ref qpa, .int (nI dy), .long co, .long wo])), (qpr, .inl (cJ, 30, .inr (.inl pr))), (qpa, .inl (cJ, 30, .inr (.inl pa))), (qmi, .inl (cJ, 401, .inr (.inl mi)))])) (va_Qi (fun res_ (_ : Unit) => res_ = (-1)) (fun _ t => va_P (dC, dI) vwCl [(xx, .inr (4, [.ref so, .ref lo, .ref rg, .ref g, .ref g2, .ref qmi])), (so, .inr (3, [.ref qlk, .ref qln, .ref qhd, .ref qsf, .ref qfp, .ref qfc, .int (nI ly), .int (nI ce), .int da, .int db, .int dr])), (qlk, .inl (cI, 30, .inl lk)), (qln, .inl (cI, 30, .inl ln)), (qhd, .inl (cI, 30, .inl hd)), (qsf, .inl (cI, 30, .inl sf)), (qfp, .inl (cI, 30, .inl fp)), (lo, .inr (1, [.ref qld, .ref qlz, .int (nI mn), .long sm])), (qld, .inl (cI, 12, .inl ld)), (qlz, .inl (cI, 12, .inl lz)), (g, .inr (0, [.ref so, .ref lo, .ref qpr, .ref qpa, .int (nI dy), .long co, .long wo])), (qpr, .inl (cJ, 30, .inr (.inl pr))), (qpa, .inl (cJ, 30, .inr (.inl pa))), (qmi, .inl (cJ, 401, .inr (.inl mi)))] t.heap ∧ va_K (dC, dI) vwCl [(cI, .int), (cJ, .long)] t ∧ va_D (va_A [(xx, .inr (4, [.ref so, .ref lo, .ref rg, .ref g, .ref g2, .ref qmi])), (so, .inr (3, [.ref qlk, .ref qln, .ref qhd, .ref qsf, .ref qfp, .ref qfc, .int (nI ly), .int (nI ce), .int da, .int db, .int dr])), (qlk, .inl (cI, 30, .inl lk)), (qln, .inl (cI, 30, .inl ln)), (qhd, .inl (cI, 30, .inl hd)), (qsf, .inl (cI, 30, .inl sf)), (qfp, .inl (cI, 30, .inl fp)), (lo, .inr (1, [.ref qld, .ref qlz, .int (nI mn), .long sm])), (qld, .inl (cI, 12, .inl ld)), (qlz, .inl (cI, 12, .inl lz)), (g, .inr (0, [.ref so, .ref lo, .ref qpr, .ref qpa, .int (nI dy), .long co, .long wo])), (qpr, .inl (cJ, 30, .inr (.inl pr))), (qpa, .inl (cJ, 30, .inr (.inl pa))), (qmi, .inl (cJ, 401, .inr (.inl mi)))] sz) [(xx, .inr (4, [.ref so, .ref lo, .ref rg, .ref g, .ref g2, .ref qmi])), (so, .inr (3, [.ref qlk, .ref qln, .ref qhd, .ref qsf, .ref qfp, .ref qfc, .int (nI ly), .int (nI ce), .int da, .int db, .int dr])), (qlk, .inl (cI, 30, .inl lk)), (qln, .inl (cI, 30, .inl ln)), (qhd, .inl (cI, 30, .inl hd)), (qsf, .inl (cI, 30, .inl sf)), (qfp, .inl (cI, 30, .inl fp)), (lo, .inr (1, [.ref qld, .ref qlz, .int (nI mn), .long sm])), (qld, .inl (cI, 12, .inl ld)), (qlz, .inl (cI, 12, .inl lz)), (g, .inr (0, [.ref so, .ref lo, .ref qpr, .ref qpa, .int (nI dy), .long co, .long wo])), (qpr, .inl (cJ, 30, .inr (.inl pr))), (qpa, .inl (cJ, 30, .inr (.inl pa))), (qmi, .inl (cJ, 401, .inr (.inl mi)))]) (va_A [(xx, .inr (4, [.ref so, .ref lo, .ref rg, .ref g, .ref g2, .ref qmi])), (so, .inr (3, [.ref qlk, .ref qln, .ref qhd, .ref qsf, .ref qfp, .ref qfc, .int (nI ly), .int (nI ce), .int da, .int db, .int dr])), (qlk, .inl (cI, 30, .inl lk)), (qln, .inl (cI, 30, .inl ln)), (qhd, .inl (cI, 30, .inl hd)), (qsf, .inl (cI, 30, .inl sf)), (qfp, .inl (cI, 30, .inl fp)), (lo, .inr (1, [.ref qld, .ref qlz, .int (nI mn), .long sm])), (qld, .inl (cI, 12, .inl ld)), (qlz, .inl (cI, 12, .inl lz)), (g, .inr (0, [.ref so, .ref lo, .ref qpr, .ref qpa, .int (nI dy), .long co, .long wo])), (qpr, .inl (cJ, 30, .inr (.inl pr))), (qpa, .inl (cJ, 30, .inr (.inl pa))), (qmi, .inl (cJ, 401, .inr (.inl mi)))] sz)) 0 0 (va_A [(xx, .inr (4, [.ref so, .ref lo, .ref rg, .ref g, .ref g2, .ref qmi])), (so, .inr (3, [.ref qlk, .ref qln, .ref qhd, .ref qsf, .ref qfp, .ref qfc, .int (nI ly), .int (nI ce), .int da, .int db, .int dr])), (qlk, .inl (cI, 30, .inl lk)), (qln, .inl (cI, 30, .inl ln)), (qhd, .inl (cI, 30, .inl hd)), (qsf, .inl (cI, 30, .inl sf)), (qfp, .inl (cI, 30, .inl fp)), (lo, .inr (1, [.ref qld, .ref qlz, .int (nI mn), .long sm])), (qld, .inl (cI, 12, .inl ld)), (qlz, .inl (cI, 12, .inl lz)), (g, .inr (0, [.ref so, .ref lo, .ref qpr, .ref qpa, .int (nI dy), .long co, .long wo])), (qpr, .inl (cJ, 30, .inr (.inl pr))), (qpa, .inl (cJ, 30, .inr (.inl pa))), (qmi, .inl (cJ, 401, .inr (.inl mi)))] sz) := by
  refine Met.ofW (cc := bX_run) (maxL := 3) (ret := (some .int)) (by decide) rfl ?_
  intro p e s m args below meth c s₁ B hml hv
  obtain ⟨rfl, hsz, hP, hK, hD0⟩ := hv
  have hx := B.exec
  have hb := B.bytes
  have hr := B.returns
  have hts := atoms_spec (ws := wX_run) B.pre
  have hown : s.vm.findClass R_X = some m.cls := findClass_of_methodNamed B.named
  have htw : ∀ w ∈ WA, w.before _ s = true := fun w h => hts w (List.mem_cons_of_mem _ h)
  clear hts
  have hlocks := B.notSynchronized
  subst hsz
  have hD := hD0.self (sz := s.heap.size)
  generalize hAe : va_A [(xx, .inr (4, [.ref so, .ref lo, .ref rg, .ref g, .ref g2, .ref qmi])), (so, .inr (3, [.ref qlk, .ref qln, .ref qhd, .ref qsf, .ref qfp, .ref qfc, .int (nI ly), .int (nI ce), .int da, .int db, .int dr])), (qlk, .inl (cI, 30, .inl lk)), (qln, .inl (cI, 30, .inl ln)), (qhd, .inl (cI, 30, .inl hd)), (qsf, .inl (cI, 30, .inl sf)), (qfp, .inl (cI, 30, .inl fp)), (lo, .inr (1, [.ref qld, .ref qlz, .int (nI mn), .long sm])), (qld, .inl (cI, 12, .inl ld)), (qlz, .inl (cI, 12, .inl lz)), (g, .inr (0, [.ref so, .ref lo, .ref qpr, .ref qpa, .int (nI dy), .long co, .long wo])), (qpr, .inl (cJ, 30, .inr (.inl pr))), (qpa, .inl (cJ, 30, .inr (.inl pa))), (qmi, .inl (cJ, 401, .inr (.inl mi)))] s.heap.size = A at hD ⊢
  have hA : ∀ q : Nat, s.heap.size ≤ q → A q := fun q h => by rw [← hAe]; exact Or.inr h
  clear hAe hD0
  have hS : va_S A s.heap s.heap [] := va_S.rf
  have hP : va_P (dC, dI) vwCl [(xx, .inr (4, [.ref so, .ref lo, .ref rg, .ref g, .ref g2, .ref qmi])), (so, .inr (3, [.ref qlk, .ref qln, .ref qhd, .ref qsf, .ref qfp, .ref qfc, .int (nI ly), .int (nI ce), .int da, .int db, .int dr])), (qlk, .inl (cI, 30, .inl lk)), (qln, .inl (cI, 30, .inl ln)), (qhd, .inl (cI, 30, .inl hd)), (qsf, .inl (cI, 30, .inl sf)), (qfp, .inl (cI, 30, .inl fp)), (lo, .inr (1, [.ref qld, .ref qlz, .int (nI mn), .long sm])), (qld, .inl (cI, 12, .inl ld)), (qlz, .inl (cI, 12, .inl lz)), (g, .inr (0, [.ref so, .ref lo, .ref qpr, .ref qpa, .int (nI dy), .long co, .long wo])), (qpr, .inl (cJ, 30, .inr (.inl pr))), (qpa, .inl (cJ, 30, .inr (.inl pa))), (qmi, .inl (cJ, 401, .inr (.inl mi)))] s.heap := hP
  have hl := lv_entry ([.ref xx, .int x]) (n := 3) (Nat.le_of_ble_eq_true rfl)
  rw [lg_entry_eq]
  generalize (lg_sl ([.ref xx, .int x]) ++ List.replicate (3 - (lg_sl ([.ref xx, .int x])).length) Slot.unset).toArray = ls at hl ⊢
  have hl : lv_has ls 3 [(0, .ref xx), (1, .int x)] := hl
  refine lv_aload_n hx hb dX_run_0 rfl (lv_at hl 0 rfl) ?_
  refine va_get (D := (dC, dI)) (ci := 4) (v := .ref so) (C := R_X) (T := T_X) (N := 6) hx hb htw in_X hown hK hP 0 rfl rfl 0 (by decide) (htw _ m_141) (fun _ h9 => h9) rfl dX_run_1 ?_
  refine va_get (D := (dC, dI)) (ci := 3) (v := .int (nI ce)) (C := R_S) (T := T_S) (N := 11) hx hb htw in_S hown hK hP 1 rfl rfl 7 (by decide) (htw _ m_34) (fun _ h9 => h9) rfl dX_run_4 ?_
  refine lv_if_eq (tgt := 35) hx hb dX_run_7 (by decide) (fun hc7 => ?_) (fun hc7 => ?_)
  · -- 7 taken
    rw [show (0 : Int32) = nI 0 from rfl, nI_eq (by omega) (by omega)] at hc7
    refine lv_iconst (v := (-1)) hx hb dX_run_35 (by decide) ?_
    have hP : va_P (dC, dI) vwCl [(xx, .inr (4, [.ref so, .ref lo, .ref rg, .ref g, .ref g2, .ref qmi])), (so, .inr (3, [.ref qlk, .ref qln, .ref qhd, .ref qsf, .ref qfp, .ref qfc, .int (nI ly), .int (nI ce), .int da, .int db, .int dr])), (qlk, .inl (cI, 30, .inl lk)), (qln, .inl (cI, 30, .inl ln)), (qhd, .inl (cI, 30, .inl hd)), (qsf, .inl (cI, 30, .inl sf)), (qfp, .inl (cI, 30, .inl fp)), (lo, .inr (1, [.ref qld, .ref qlz, .int (nI mn), .long sm])), (qld, .inl (cI, 12, .inl ld)), (qlz, .inl (cI, 12, .inl lz)), (g, .inr (0, [.ref so, .ref lo, .ref qpr, .ref qpa, .int (nI dy), .long co, .long wo])), (qpr, .inl (cJ, 30, .inr (.inl pr))), (qpa, .inl (cJ, 30, .inr (.inl pa))), (qmi, .inl (cJ, 401, .inr (.inl mi)))] s.heap := by first | exact hP | simpa only [] using hP
    have hD : va_D A [(xx, .inr (4, [.ref so, .ref lo, .ref rg, .ref g, .ref g2, .ref qmi])), (so, .inr (3, [.ref qlk, .ref qln, .ref qhd, .ref qsf, .ref qfp, .ref qfc, .int (nI ly), .int (nI ce), .int da, .int db, .int dr])), (qlk, .inl (cI, 30, .inl lk)), (qln, .inl (cI, 30, .inl ln)), (qhd, .inl (cI, 30, .inl hd)), (qsf, .inl (cI, 30, .inl sf)), (qfp, .inl (cI, 30, .inl fp)), (lo, .inr (1, [.ref qld, .ref qlz, .int (nI mn), .long sm])), (qld, .inl (cI, 12, .inl ld)), (qlz, .inl (cI, 12, .inl lz)), (g, .inr (0, [.ref so, .ref lo, .ref qpr, .ref qpa, .int (nI dy), .long co, .long wo])), (qpr, .inl (cJ, 30, .inr (.inl pr))), (qpa, .inl (cJ, 30, .inr (.inl pa))), (qmi, .inl (cJ, 401, .inr (.inl mi)))] := by first | exact hD | simpa only [] using hD
    exact W.iret (v := (-1)) hx hb hr (fun t ht hW => ⟨⟨(-1), (), rfl, rfl, by rw [ht]; exact hP, va_K.moved hW.alike hK, hD⟩, hS.F ht⟩) hS.2.2 dX_run_36
  · -- 7 not taken
    rw [show (0 : Int32) = nI 0 from rfl, nI_eq (by omega) (by omega)] at hc7
    refine lv_iload_n hx hb dX_run_10 rfl (lv_at hl 1 rfl) ?_
    refine lv_iconst (v := nI 1) hx hb dX_run_11 (by decide) ?_
    refine lv_bipush (v := nI 60) hx hb dX_run_12 (by decide) ?_
    have hPc := hP.sub (ws' := []) [] rfl
    have hDc := hD.sub (ws' := []) [] (by decide) rfl
    have hFc := va_free (wc := []) hD hS hA [] rfl
    refine va_calli (va_runS (As := [.int x, .int (nI 1), .int (nI 60)]) (rest := []) ⟨hx, hb, hml, hown, htw⟩ (kX_within l dC dI cI cJ s.heap.size x (nI 1) (nI 60)) (va_cwS 3 htw (ws_good m_164 m_165 m_1 m_166) rfl rfl rfl (by decide +kernel) ⟨Nat.le_of_ble_eq_true rfl, Nat.le_of_ble_eq_true rfl⟩) ⟨fun a U g mk q => by obtain ⟨q0, q1, qP, qK, qD⟩ := q; exact ⟨q0, q1, qP, va_K.moved (u := U) (U := U.calling g mk a) (Vm.Alike.refl U.vm) qK, qD⟩, fun U hU hW => ⟨rfl, by rw [hU], by rw [hU]; exact hPc, va_K.moved hW.alike hK, hDc.weaken (fun _ _ _ _ => trivial)⟩⟩ rfl rfl hl.1 rfl (lv_room (Nat.le_of_ble_eq_true rfl)) dX_run_14 ⟨Nat.le_of_ble_eq_true rfl, Nat.le_of_ble_eq_true rfl⟩) hS (fun q _ h => hFc q h) hFc (fun res_ u_ t H1 locs ht hvm hw hB hz1 hk1 hS => ?_)
    obtain ⟨hP1, hK1, hD1⟩ := hB
    rw [ht] at hP1
    obtain ⟨hP, hD⟩ := va_join (wr := [(xx, .inr (4, [.ref so, .ref lo, .ref rg, .ref g, .ref g2, .ref qmi])), (so, .inr (3, [.ref qlk, .ref qln, .ref qhd, .ref qsf, .ref qfp, .ref qfc, .int (nI ly), .int (nI ce), .int da, .int db, .int dr])), (qlk, .inl (cI, 30, .inl lk)), (qln, .inl (cI, 30, .inl ln)), (qhd, .inl (cI, 30, .inl hd)), (qsf, .inl (cI, 30, .inl sf)), (qfp, .inl (cI, 30, .inl fp)), (lo, .inr (1, [.ref qld, .ref qlz, .int (nI mn), .long sm])), (qld, .inl (cI, 12, .inl ld)), (qlz, .inl (cI, 12, .inl lz)), (g, .inr (0, [.ref so, .ref lo, .ref qpr, .ref qpa, .int (nI dy), .long co, .long wo])), (qpr, .inl (cJ, 30, .inr (.inl pr))), (qpa, .inl (cJ, 30, .inr (.inl pa))), (qmi, .inl (cJ, 401, .inr (.inl mi)))]) (w1 := []) hP hD [] [0, 1, 2, 3, 4, 5, 6, 7, 8, 9, 10, 11, 12, 13] rfl rfl (by decide) (by decide) hk1 hFc hP1 hD1
    generalize H1 = H at hP hS ⊢
    have hP : va_P (dC, dI) vwCl [(xx, .inr (4, [.ref so, .ref lo, .ref rg, .ref g, .ref g2, .ref qmi])), (so, .inr (3, [.ref qlk, .ref qln, .ref qhd, .ref qsf, .ref qfp, .ref qfc, .int (nI ly), .int (nI ce), .int da, .int db, .int dr])), (qlk, .inl (cI, 30, .inl lk)), (qln, .inl (cI, 30, .inl ln)), (qhd, .inl (cI, 30, .inl hd)), (qsf, .inl (cI, 30, .inl sf)), (qfp, .inl (cI, 30, .inl fp)), (lo, .inr (1, [.ref qld, .ref qlz, .int (nI mn), .long sm])), (qld, .inl (cI, 12, .inl ld)), (qlz, .inl (cI, 12, .inl lz)), (g, .inr (0, [.ref so, .ref lo, .ref qpr, .ref qpa, .int (nI dy), .long co, .long wo])), (qpr, .inl (cJ, 30, .inr (.inl pr))), (qpa, .inl (cJ, 30, .inr (.inl pa))), (qmi, .inl (cJ, 401, .inr (.inl mi)))] H := hP
    have hD : va_D A [(xx, .inr (4, [.ref so, .ref lo, .ref rg, .ref g, .ref g2, .ref qmi])), (so, .inr (3, [.ref qlk, .ref qln, .ref qhd, .ref qsf, .ref qfp, .ref qfc, .int (nI ly), .int (nI ce), .int da, .int db, .int dr])), (qlk, .inl (cI, 30, .inl lk)), (qln, .inl (cI, 30, .inl ln)), (qhd, .inl (cI, 30, .inl hd)), (qsf, .inl (cI, 30, .inl sf)), (qfp, .inl (cI, 30, .inl fp)), (lo, .inr (1, [.ref qld, .ref qlz, .int (nI mn), .long sm])), (qld, .inl (cI, 12, .inl ld)), (qlz, .inl (cI, 12, .inl lz)), (g, .inr (0, [.ref so, .ref lo, .ref qpr, .ref qpa, .int (nI dy), .long co, .long wo])), (qpr, .inl (cJ, 30, .inr (.inl pr))), (qpa, .inl (cJ, 30, .inr (.inl pa))), (qmi, .inl (cJ, 401, .inr (.inl mi)))] := hD
    clear hPc hDc hFc hP1 hD1 hK1 hk1 hz1 hvm ht
    obtain rfl : kb ((nI 1) ≤ x ∧ x ≤ (nI 60)) = res_ := hw.symm
    refine lv_if_eq (tgt := 35) hx hb dX_run_17 (by decide) (fun hc17 => ?_) (fun hc17 => ?_)
    · -- 17 taken
      rw [kb_eq0, k_wi, nI_toInt (n := 1) (by omega), nI_toInt (n := 60) (by omega)] at hc17
      refine lv_iconst (v := (-1)) hx hb dX_run_35 (by decide) ?_
      have hP : va_P (dC, dI) vwCl [(xx, .inr (4, [.ref so, .ref lo, .ref rg, .ref g, .ref g2, .ref qmi])), (so, .inr (3, [.ref qlk, .ref qln, .ref qhd, .ref qsf, .ref qfp, .ref qfc, .int (nI ly), .int (nI ce), .int da, .int db, .int dr])), (qlk, .inl (cI, 30, .inl lk)), (qln, .inl (cI, 30, .inl ln)), (qhd, .inl (cI, 30, .inl hd)), (qsf, .inl (cI, 30, .inl sf)), (qfp, .inl (cI, 30, .inl fp)), (lo, .inr (1, [.ref qld, .ref qlz, .int (nI mn), .long sm])), (qld, .inl (cI, 12, .inl ld)), (qlz, .inl (cI, 12, .inl lz)), (g, .inr (0, [.ref so, .ref lo, .ref qpr, .ref qpa, .int (nI dy), .long co, .long wo])), (qpr, .inl (cJ, 30, .inr (.inl pr))), (qpa, .inl (cJ, 30, .inr (.inl pa))), (qmi, .inl (cJ, 401, .inr (.inl mi)))] H := by first | exact hP | simpa only [] using hP
      have hD : va_D A [(xx, .inr (4, [.ref so, .ref lo, .ref rg, .ref g, .ref g2, .ref qmi])), (so, .inr (3, [.ref qlk, .ref qln, .ref qhd, .ref qsf, .ref qfp, .ref qfc, .int (nI ly), .int (nI ce), .int da, .int db, .int dr])), (qlk, .inl (cI, 30, .inl lk)), (qln, .inl (cI, 30, .inl ln)), (qhd, .inl (cI, 30, .inl hd)), (qsf, .inl (cI, 30, .inl sf)), (qfp, .inl (cI, 30, .inl fp)), (lo, .inr (1, [.ref qld, .ref qlz, .int (nI mn), .long sm])), (qld, .inl (cI, 12, .inl ld)), (qlz, .inl (cI, 12, .inl lz)), (g, .inr (0, [.ref so, .ref lo, .ref qpr, .ref qpa, .int (nI dy), .long co, .long wo])), (qpr, .inl (cJ, 30, .inr (.inl pr))), (qpa, .inl (cJ, 30, .inr (.inl pa))), (qmi, .inl (cJ, 401, .inr (.inl mi)))] := by first | exact hD | simpa only [] using hD
      exact W.iret (v := (-1)) hx hb hr (fun t ht hW => ⟨⟨(-1), (), rfl, rfl, by rw [ht]; exact hP, va_K.moved hW.alike hK, hD⟩, hS.F ht⟩) hS.2.2 dX_run_36
    · -- 17 not taken
      rw [kb_eq0, k_wi, nI_toInt (n := 1) (by omega), nI_toInt (n := 60) (by omega)] at hc17
      refine lv_iload_n hx hb dX_run_20 rfl (lv_at hl 1 rfl) ?_
      refine lv_sipush (v := nI 400) hx hb dX_run_21 (by decide) ?_
      refine lv_aload_n hx hb dX_run_24 rfl (lv_at hl 0 rfl) ?_
      refine va_get (D := (dC, dI)) (ci := 4) (v := .ref g) (C := R_X) (T := T_X) (N := 6) hx hb htw in_X hown hK hP 0 rfl rfl 3 (by decide) (htw _ m_144) (fun _ h9 => h9) rfl dX_run_25 ?_
      refine va_get (D := (dC, dI)) (ci := 0) (v := .int (nI dy)) (C := R_G) (T := T_G) (N := 7) hx hb htw in_G hown hK hP 10 rfl rfl 4 (by decide) (htw _ m_120) (fun _ h9 => h9) rfl dX_run_28 ?_
      refine lv_isub hx hb dX_run_31 ?_
      refine lv_icmp_le (tgt := 37) hx hb dX_run_32 (by decide) (fun hc32 => ?_) (fun hc32 => ?_)
      · -- 32 taken
        rw [Int32.le_iff_toInt_le, pk_sub_toInt (a := 400) (b := dy) (by omega) (by omega)] at hc32
        exfalso; omega
      · -- 32 not taken
        rw [Int32.le_iff_toInt_le, pk_sub_toInt (a := 400) (b := dy) (by omega) (by omega)] at hc32
        refine lv_iconst (v := (-1)) hx hb dX_run_35 (by decide) ?_
        have hP : va_P (dC, dI) vwCl [(xx, .inr (4, [.ref so, .ref lo, .ref rg, .ref g, .ref g2, .ref qmi])), (so, .inr (3, [.ref qlk, .ref qln, .ref qhd, .ref qsf, .ref qfp, .ref qfc, .int (nI ly), .int (nI ce), .int da, .int db, .int dr])), (qlk, .inl (cI, 30, .inl lk)), (qln, .inl (cI, 30, .inl ln)), (qhd, .inl (cI, 30, .inl hd)), (qsf, .inl (cI, 30, .inl sf)), (qfp, .inl (cI, 30, .inl fp)), (lo, .inr (1, [.ref qld, .ref qlz, .int (nI mn), .long sm])), (qld, .inl (cI, 12, .inl ld)), (qlz, .inl (cI, 12, .inl lz)), (g, .inr (0, [.ref so, .ref lo, .ref qpr, .ref qpa, .int (nI dy), .long co, .long wo])), (qpr, .inl (cJ, 30, .inr (.inl pr))), (qpa, .inl (cJ, 30, .inr (.inl pa))), (qmi, .inl (cJ, 401, .inr (.inl mi)))] H := by first | exact hP | simpa only [] using hP
        have hD : va_D A [(xx, .inr (4, [.ref so, .ref lo, .ref rg, .ref g, .ref g2, .ref qmi])), (so, .inr (3, [.ref qlk, .ref qln, .ref qhd, .ref qsf, .ref qfp, .ref qfc, .int (nI ly), .int (nI ce), .int da, .int db, .int dr])), (qlk, .inl (cI, 30, .inl lk)), (qln, .inl (cI, 30, .inl ln)), (qhd, .inl (cI, 30, .inl hd)), (qsf, .inl (cI, 30, .inl sf)), (qfp, .inl (cI, 30, .inl fp)), (lo, .inr (1, [.ref qld, .ref qlz, .int (nI mn), .long sm])), (qld, .inl (cI, 12, .inl ld)), (qlz, .inl (cI, 12, .inl lz)), (g, .inr (0, [.ref so, .ref lo, .ref qpr, .ref qpa, .int (nI dy), .long co, .long wo])), (qpr, .inl (cJ, 30, .inr (.inl pr))), (qpa, .inl (cJ, 30, .inr (.inl pa))), (qmi, .inl (cJ, 401, .inr (.inl mi)))] := by first | exact hD | simpa only [] using hD
        exact W.iret (v := (-1)) hx hb hr (fun t ht hW => ⟨⟨(-1), (), rfl, rfl, by rw [ht]; exact hP, va_K.moved hW.alike hK, hD⟩, hS.F ht⟩) hS.2.2 dX_run_36
set_option maxHeartbeats 4000000 in
set_option maxRecDepth 100000 in
theorem kX_sunk_all (l : Launch) (dC : Nat → ClassId) (dI : Nat → Nat → Nat) (cI cJ : ClassId) (xx so lo rg g g2 qmi qlk qln qhd qsf qfp qfc qpr qpa : Nat) (sz : Nat) (ly : Nat) (ce : Nat) (da : Int32) (db : Int32) (dr : Int32) (hd : Nat → Int32) (sf : Nat → Int32) (fp : Nat → Int32) (fc : Nat → Int32) (dy : Nat) (co : Int64) (wo : Int64) (pr : Nat → Int64) (pa : Nat → Int64) (hce : ce ≤ 30) : Met l yX_sunk wX_sunk ({ frames := 3, cells := 0, slots := 0, locals := 70 }) (va_Pc [.ref xx, .int (-1)] (fun U => U.heap.size = sz ∧ va_P (dC, dI) vwCl [(xx, .inr (4, [.ref so, .ref lo, .ref rg, .ref g, .ref g2, .ref qmi])), (so, .inr (3, [.ref qlk, .ref qln, .ref qhd, .ref qsf, .ref qfp, .ref qfc, .int (nI ly), .int (nI ce), .int da, .int db, .int dr])), (qhd, .inl (cI, 30, .inl hd)), (qsf, .inl (cI, 30, .inl sf)), (qfp, .inl (cI, 30, .inl fp)), (qfc, .inl (cI, 31, .inl fc)), (g, .inr (0, [.ref so, .ref lo, .ref qpr, .ref qpa, .int (nI dy), .long co, .long wo])), (qpr, .inl (cJ, 30, .inr (.inl pr))), (qpa, .inl (cJ, 30, .inr (.inl pa)))] U.heap ∧ va_K (dC, dI) vwCl [(cI, .int), (cJ, .long)] U ∧ va_D (fun _ => True) [(xx, .inr (4, [.ref so, .ref lo, .ref rg, .ref g, .ref g2, .ref qmi])), (so, .inr (3, [.ref qlk, .ref qln, .ref qhd, .ref qsf, .ref qfp, .ref qfc, .int (nI ly), .int (nI ce), .int da, .int db, .int dr])), (qhd, .inl (cI, 30, .inl hd)), (qsf, .inl (cI, 30, .inl sf)), (qfp, .inl (cI, 30, .inl fp)), (qfc, .inl (cI, 31, .inl fc)), (g, .inr (0, [.ref so, .ref lo, .ref qpr, .ref qpa, .int (nI dy), .long co, .long wo])), (qpr, .inl (cJ, 30, .inr (.inl pr))), (qpa, .inl (cJ, 30, .inr (.inl pa)))])) (va_Ql (fun res_ (_ : Unit) => res_ = k_units hd sf fp co pr pa 0 ce / 1000) (fun _ t => va_P (dC, dI) vwCl [(xx, .inr (4, [.ref so, .ref lo, .ref rg, .ref g, .ref g2, .ref qmi])), (so, .inr (3, [.ref qlk, .ref qln, .ref qhd, .ref qsf, .ref qfp, .ref qfc, .int (nI ly), .int (nI ce), .int da, .int db, .int dr])), (qhd, .inl (cI, 30, .inl hd)), (qsf, .inl (cI, 30, .inl sf)), (qfp, .inl (cI, 30, .inl fp)), (qfc, .inl (cI, 31, .inl fc)), (g, .inr (0, [.ref so, .ref lo, .ref qpr, .ref qpa, .int (nI dy), .long co, .long wo])), (qpr, .inl (cJ, 30, .inr (.inl pr))), (qpa, .inl (cJ, 30, .inr (.inl pa)))] t.heap ∧ va_K (dC, dI) vwCl [(cI, .int), (cJ, .long)] t ∧ va_D (va_A [(xx, .inr (4, [.ref so, .ref lo, .ref rg, .ref g, .ref g2, .ref qmi])), (so, .inr (3, [.ref qlk, .ref qln, .ref qhd, .ref qsf, .ref qfp, .ref qfc, .int (nI ly), .int (nI ce), .int da, .int db, .int dr])), (qhd, .inl (cI, 30, .inl hd)), (qsf, .inl (cI, 30, .inl sf)), (qfp, .inl (cI, 30, .inl fp)), (qfc, .inl (cI, 31, .inl fc)), (g, .inr (0, [.ref so, .ref lo, .ref qpr, .ref qpa, .int (nI dy), .long co, .long wo])), (qpr, .inl (cJ, 30, .inr (.inl pr))), (qpa, .inl (cJ, 30, .inr (.inl pa)))] sz) [(xx, .inr (4, [.ref so, .ref lo, .ref rg, .ref g, .ref g2, .ref qmi])), (so, .inr (3, [.ref qlk, .ref qln, .ref qhd, .ref qsf, .ref qfp, .ref qfc, .int (nI ly), .int (nI ce), .int da, .int db, .int dr])), (qhd, .inl (cI, 30, .inl hd)), (qsf, .inl (cI, 30, .inl sf)), (qfp, .inl (cI, 30, .inl fp)), (qfc, .inl (cI, 31, .inl fc)), (g, .inr (0, [.ref so, .ref lo, .ref qpr, .ref qpa, .int (nI dy), .long co, .long wo])), (qpr, .inl (cJ, 30, .inr (.inl pr))), (qpa, .inl (cJ, 30, .inr (.inl pa)))]) (va_A [(xx, .inr (4, [.ref so, .ref lo, .ref rg, .ref g, .ref g2, .ref qmi])), (so, .inr (3, [.ref qlk, .ref qln, .ref qhd, .ref qsf, .ref qfp, .ref qfc, .int (nI ly), .int (nI ce), .int da, .int db, .int dr])), (qhd, .inl (cI, 30, .inl hd)), (qsf, .inl (cI, 30, .inl sf)), (qfp, .inl (cI, 30, .inl fp)), (qfc, .inl (cI, 31, .inl fc)), (g, .inr (0, [.ref so, .ref lo, .ref qpr, .ref qpa, .int (nI dy), .long co, .long wo])), (qpr, .inl (cJ, 30, .inr (.inl pr))), (qpa, .inl (cJ, 30, .inr (.inl pa)))] sz)) 0 0 (va_A [(xx, .inr (4, [.ref so, .ref lo, .ref rg, .ref g, .ref g2, .ref qmi])), (so, .inr (3, [.ref qlk, .ref qln, .ref qhd, .ref qsf, .ref qfp, .ref qfc, .int (nI ly), .int (nI ce), .int da, .int db, .int dr])), (qhd, .inl (cI, 30, .inl hd)), (qsf, .inl (cI, 30, .inl sf)), (qfp, .inl (cI, 30, .inl fp)), (qfc, .inl (cI, 31, .inl fc)), (g, .inr (0, [.ref so, .ref lo, .ref qpr, .ref qpa, .int (nI dy), .long co, .long wo])), (qpr, .inl (cJ, 30, .inr (.inl pr))), (qpa, .inl (cJ, 30, .inr (.inl pa)))] sz) := by
  refine Met.ofW (cc := bX_sunk) (maxL := 2) (ret := (some .long)) (by decide) rfl ?_
  intro p e s m args below meth c s₁ B hml hv
  obtain ⟨rfl, hsz, hP, hK, hD0⟩ := hv
  have hx := B.exec
  have hb := B.bytes
  have hr := B.returns
  have hts := atoms_spec (ws := wX_sunk) B.pre
  have hown : s.vm.findClass R_X = some m.cls := findClass_of_methodNamed B.named
  have htw : ∀ w ∈ WA, w.before _ s = true := fun w h => hts w (List.mem_cons_of_mem _ h)
  clear hts
  have hlocks := B.notSynchronized
  subst hsz
  have hD := hD0.self (sz := s.heap.size)
  generalize hAe : va_A [(xx, .inr (4, [.ref so, .ref lo, .ref rg, .ref g, .ref g2, .ref qmi])), (so, .inr (3, [.ref qlk, .ref qln, .ref qhd, .ref qsf, .ref qfp, .ref qfc, .int (nI ly), .int (nI ce), .int da, .int db, .int dr])), (qhd, .inl (cI, 30, .inl hd)), (qsf, .inl (cI, 30, .inl sf)), (qfp, .inl (cI, 30, .inl fp)), (qfc, .inl (cI, 31, .inl fc)), (g, .inr (0, [.ref so, .ref lo, .ref qpr, .ref qpa, .int (nI dy), .long co, .long wo])), (qpr, .inl (cJ, 30, .inr (.inl pr))), (qpa, .inl (cJ, 30, .inr (.inl pa)))] s.heap.size = A at hD ⊢
  have hA : ∀ q : Nat, s.heap.size ≤ q → A q := fun q h => by rw [← hAe]; exact Or.inr h
  clear hAe hD0
  have hS : va_S A s.heap s.heap [] := va_S.rf
  have hP : va_P (dC, dI) vwCl [(xx, .inr (4, [.ref so, .ref lo, .ref rg, .ref g, .ref g2, .ref qmi])), (so, .inr (3, [.ref qlk, .ref qln, .ref qhd, .ref qsf, .ref qfp, .ref qfc, .int (nI ly), .int (nI ce), .int da, .int db, .int dr])), (qhd, .inl (cI, 30, .inl hd)), (qsf, .inl (cI, 30, .inl sf)), (qfp, .inl (cI, 30, .inl fp)), (qfc, .inl (cI, 31, .inl fc)), (g, .inr (0, [.ref so, .ref lo, .ref qpr, .ref qpa, .int (nI dy), .long co, .long wo])), (qpr, .inl (cJ, 30, .inr (.inl pr))), (qpa, .inl (cJ, 30, .inr (.inl pa)))] s.heap := hP
  have hl := lv_entry ([.ref xx, .int (-1)]) (n := 2) (Nat.le_of_ble_eq_true rfl)
  rw [lg_entry_eq]
  generalize (lg_sl ([.ref xx, .int (-1)]) ++ List.replicate (2 - (lg_sl ([.ref xx, .int (-1)])).length) Slot.unset).toArray = ls at hl ⊢
  have hl : lv_has ls 2 [(0, .ref xx), (1, .int (-1))] := hl
  refine lv_iload_n hx hb dX_sunk_0 rfl (lv_at hl 1 rfl) ?_
  refine lv_iconst (v := (-1)) hx hb dX_sunk_1 (by decide) ?_
  refine lv_icmp_ne (tgt := 17) hx hb dX_sunk_2 (by decide) (fun hc2 => ?_) (fun hc2 => ?_)
  · -- 2 taken
    exact absurd rfl hc2
  · -- 2 not taken
    refine lv_aload_n hx hb dX_sunk_5 rfl (lv_at hl 0 rfl) ?_
    refine va_get (D := (dC, dI)) (ci := 4) (v := .ref g) (C := R_X) (T := T_X) (N := 6) hx hb htw in_X hown hK hP 0 rfl rfl 3 (by decide) (htw _ m_144) (fun _ h9 => h9) rfl dX_sunk_6 ?_
    have hPc := hP.sub (ws' := [(g, .inr (0, [.ref so, .ref lo, .ref qpr, .ref qpa, .int (nI dy), .long co, .long wo])), (qpr, .inl (cJ, 30, .inr (.inl pr))), (qpa, .inl (cJ, 30, .inr (.inl pa))), (so, .inr (3, [.ref qlk, .ref qln, .ref qhd, .ref qsf, .ref qfp, .ref qfc, .int (nI ly), .int (nI ce), .int da, .int db, .int dr])), (qhd, .inl (cI, 30, .inl hd)), (qsf, .inl (cI, 30, .inl sf)), (qfp, .inl (cI, 30, .inl fp))]) [6, 7, 8, 1, 2, 3, 4] rfl
    have hDc := hD.sub (ws' := [(g, .inr (0, [.ref so, .ref lo, .ref qpr, .ref qpa, .int (nI dy), .long co, .long wo])), (qpr, .inl (cJ, 30, .inr (.inl pr))), (qpa, .inl (cJ, 30, .inr (.inl pa))), (so, .inr (3, [.ref qlk, .ref qln, .ref qhd, .ref qsf, .ref qfp, .ref qfc, .int (nI ly), .int (nI ce), .int da, .int db, .int dr])), (qhd, .inl (cI, 30, .inl hd)), (qsf, .inl (cI, 30, .inl sf)), (qfp, .inl (cI, 30, .inl fp))]) [6, 7, 8, 1, 2, 3, 4] (by decide) rfl
    have hFc := va_free (wc := [(g, .inr (0, [.ref so, .ref lo, .ref qpr, .ref qpa, .int (nI dy), .long co, .long wo])), (qpr, .inl (cJ, 30, .inr (.inl pr))), (qpa, .inl (cJ, 30, .inr (.inl pa))), (so, .inr (3, [.ref qlk, .ref qln, .ref qhd, .ref qsf, .ref qfp, .ref qfc, .int (nI ly), .int (nI ce), .int da, .int db, .int dr])), (qhd, .inl (cI, 30, .inl hd)), (qsf, .inl (cI, 30, .inl sf)), (qfp, .inl (cI, 30, .inl fp))]) hD hS hA [6, 7, 8, 1, 2, 3, 4] rfl
    refine va_calll (va_runV (As := []) (rest := []) ⟨hx, hb, hml, hown, htw⟩ (kG_unitsSunk l dC dI cI cJ g so lo qpr qpa qlk qln qhd qsf qfp qfc s.heap.size dy co wo pr pa ly ce da db dr hd sf fp (by first | assumption | omega | decide)) (cwV 0 htw (wv_good m_232 m_233 m_234 m_5 m_235) rfl rfl rfl (by decide +kernel) ⟨Nat.le_of_ble_eq_true rfl, Nat.le_of_ble_eq_true rfl⟩) ⟨fun a U g mk q => by obtain ⟨q0, q1, qP, qK, qD⟩ := q; exact ⟨q0, q1, qP, va_K.moved (u := U) (U := U.calling g mk a) (Vm.Alike.refl U.vm) qK, qD⟩, va_recv hK hPc (ci := 0) (q0 := 0) rfl rfl, fun U hU hW => ⟨rfl, by rw [hU], by rw [hU]; exact hPc, va_K.moved hW.alike hK, hDc.weaken (fun _ _ _ _ => trivial)⟩⟩ rfl rfl hl.1 rfl (lv_room (Nat.le_of_ble_eq_true rfl)) dX_sunk_9 ⟨Nat.le_of_ble_eq_true rfl, Nat.le_of_ble_eq_true rfl⟩) hS (fun q _ h => hFc q h) hFc (fun res_ u_ t H1 locs ht hvm hw hB hz1 hk1 hS => ?_)
    obtain ⟨hP1, hK1, hD1⟩ := hB
    rw [ht] at hP1
    obtain ⟨hP, hD⟩ := va_join (wr := [(xx, .inr (4, [.ref so, .ref lo, .ref rg, .ref g, .ref g2, .ref qmi])), (qfc, .inl (cI, 31, .inl fc))]) (w1 := [(g, .inr (0, [.ref so, .ref lo, .ref qpr, .ref qpa, .int (nI dy), .long co, .long wo])), (qpr, .inl (cJ, 30, .inr (.inl pr))), (qpa, .inl (cJ, 30, .inr (.inl pa))), (so, .inr (3, [.ref qlk, .ref qln, .ref qhd, .ref qsf, .ref qfp, .ref qfc, .int (nI ly), .int (nI ce), .int da, .int db, .int dr])), (qhd, .inl (cI, 30, .inl hd)), (qsf, .inl (cI, 30, .inl sf)), (qfp, .inl (cI, 30, .inl fp))]) hP hD [6, 7, 8, 1, 2, 3, 4] [0, 5] rfl rfl (by decide) (by decide) hk1 hFc hP1 hD1
    generalize H1 = H at hP hS ⊢
    have hP := hP.sub (ws' := [(xx, .inr (4, [.ref so, .ref lo, .ref rg, .ref g, .ref g2, .ref qmi])), (so, .inr (3, [.ref qlk, .ref qln, .ref qhd, .ref qsf, .ref qfp, .ref qfc, .int (nI ly), .int (nI ce), .int da, .int db, .int dr])), (qhd, .inl (cI, 30, .inl hd)), (qsf, .inl (cI, 30, .inl sf)), (qfp, .inl (cI, 30, .inl fp)), (qfc, .inl (cI, 31, .inl fc)), (g, .inr (0, [.ref so, .ref lo, .ref qpr, .ref qpa, .int (nI dy), .long co, .long wo])), (qpr, .inl (cJ, 30, .inr (.inl pr))), (qpa, .inl (cJ, 30, .inr (.inl pa)))]) [0, 5, 6, 7, 8, 1, 2, 3, 4] rfl
    have hD := hD.sub (ws' := [(xx, .inr (4, [.ref so, .ref lo, .ref rg, .ref g, .ref g2, .ref qmi])), (so, .inr (3, [.ref qlk, .ref qln, .ref qhd, .ref qsf, .ref qfp, .ref qfc, .int (nI ly), .int (nI ce), .int da, .int db, .int dr])), (qhd, .inl (cI, 30, .inl hd)), (qsf, .inl (cI, 30, .inl sf)), (qfp, .inl (cI, 30, .inl fp)), (qfc, .inl (cI, 31, .inl fc)), (g, .inr (0, [.ref so, .ref lo, .ref qpr, .ref qpa, .int (nI dy), .long co, .long wo])), (qpr, .inl (cJ, 30, .inr (.inl pr))), (qpa, .inl (cJ, 30, .inr (.inl pa)))]) [0, 5, 6, 7, 8, 1, 2, 3, 4] (by decide) rfl
    clear hPc hDc hFc hP1 hD1 hK1 hk1 hz1 hvm ht
    obtain rfl : k_units hd sf fp co pr pa 0 ce = res_ := hw.symm
    refine lv_ldc2 (v := 1000) hx hb hown (htw _ m_244) dX_sunk_12 ?_
    refine lv_ldiv hx hb dX_sunk_15 (by decide) ?_
    have hP : va_P (dC, dI) vwCl [(xx, .inr (4, [.ref so, .ref lo, .ref rg, .ref g, .ref g2, .ref qmi])), (so, .inr (3, [.ref qlk, .ref qln, .ref qhd, .ref qsf, .ref qfp, .ref qfc, .int (nI ly), .int (nI ce), .int da, .int db, .int dr])), (qhd, .inl (cI, 30, .inl hd)), (qsf, .inl (cI, 30, .inl sf)), (qfp, .inl (cI, 30, .inl fp)), (qfc, .inl (cI, 31, .inl fc)), (g, .inr (0, [.ref so, .ref lo, .ref qpr, .ref qpa, .int (nI dy), .long co, .long wo])), (qpr, .inl (cJ, 30, .inr (.inl pr))), (qpa, .inl (cJ, 30, .inr (.inl pa)))] H := by first | exact hP | simpa only [] using hP
    have hD : va_D A [(xx, .inr (4, [.ref so, .ref lo, .ref rg, .ref g, .ref g2, .ref qmi])), (so, .inr (3, [.ref qlk, .ref qln, .ref qhd, .ref qsf, .ref qfp, .ref qfc, .int (nI ly), .int (nI ce), .int da, .int db, .int dr])), (qhd, .inl (cI, 30, .inl hd)), (qsf, .inl (cI, 30, .inl sf)), (qfp, .inl (cI, 30, .inl fp)), (qfc, .inl (cI, 31, .inl fc)), (g, .inr (0, [.ref so, .ref lo, .ref qpr, .ref qpa, .int (nI dy), .long co, .long wo])), (qpr, .inl (cJ, 30, .inr (.inl pr))), (qpa, .inl (cJ, 30, .inr (.inl pa)))] := by first | exact hD | simpa only [] using hD
    exact W.lret (v := (k_units hd sf fp co pr pa 0 ce) / 1000) hx hb hr (fun t ht hW => ⟨⟨(k_units hd sf fp co pr pa 0 ce) / 1000, (), rfl, rfl, by rw [ht]; exact hP, va_K.moved hW.alike hK, hD⟩, hS.F ht⟩) hS.2.2 dX_sunk_16
set_option maxHeartbeats 4000000 in
set_option maxRecDepth 100000 in
theorem kX_sunk_one (l : Launch) (dC : Nat → ClassId) (dI : Nat → Nat → Nat) (cI cJ : ClassId) (xx so lo rg g g2 qmi qlk qln qhd qsf qfp qfc qpr qpa : Nat) (sz : Nat) (j : Nat) (ly : Nat) (ce : Nat) (da : Int32) (db : Int32) (dr : Int32) (hd : Nat → Int32) (sf : Nat → Int32) (fp : Nat → Int32) (fc : Nat → Int32) (dy : Nat) (co : Int64) (wo : Int64) (pr : Nat → Int64) (pa : Nat → Int64) (fa : Nat) (fb : Nat) (hce : ce ≤ 30) (hly : ly ≤ 30) (hj : j < ly) (hfa : fc j = nI fa) (hfb : fc (j + 1) = nI fb) (hab : fa ≤ fb) (hb30 : fb ≤ 30) : Met l yX_sunk wX_sunk ({ frames := 2, cells := 0, slots := 0, locals := 50 }) (va_Pc [.ref xx, .int (nI j)] (fun U => U.heap.size = sz ∧ va_P (dC, dI) vwCl [(xx, .inr (4, [.ref so, .ref lo, .ref rg, .ref g, .ref g2, .ref qmi])), (so, .inr (3, [.ref qlk, .ref qln, .ref qhd, .ref qsf, .ref qfp, .ref qfc, .int (nI ly), .int (nI ce), .int da, .int db, .int dr])), (qhd, .inl (cI, 30, .inl hd)), (qsf, .inl (cI, 30, .inl sf)), (qfp, .inl (cI, 30, .inl fp)), (qfc, .inl (cI, 31, .inl fc)), (g, .inr (0, [.ref so, .ref lo, .ref qpr, .ref qpa, .int (nI dy), .long co, .long wo])), (qpr, .inl (cJ, 30, .inr (.inl pr))), (qpa, .inl (cJ, 30, .inr (.inl pa)))] U.heap ∧ va_K (dC, dI) vwCl [(cI, .int), (cJ, .long)] U ∧ va_D (fun _ => True) [(xx, .inr (4, [.ref so, .ref lo, .ref rg, .ref g, .ref g2, .ref qmi])), (so, .inr (3, [.ref qlk, .ref qln, .ref qhd, .ref qsf, .ref qfp, .ref qfc, .int (nI ly), .int (nI ce), .int da, .int db, .int dr])), (qhd, .inl (cI, 30, .inl hd)), (qsf, .inl (cI, 30, .inl sf)), (qfp, .inl (cI, 30, .inl fp)), (qfc, .inl (cI, 31, .inl fc)), (g, .inr (0, [.ref so, .ref lo, .ref qpr, .ref qpa, .int (nI dy), .long co, .long wo])), (qpr, .inl (cJ, 30, .inr (.inl pr))), (qpa, .inl (cJ, 30, .inr (.inl pa)))])) (va_Ql (fun res_ (_ : Unit) => res_ = k_units hd sf fp co pr pa fa fb / 1000) (fun _ t => va_P (dC, dI) vwCl [(xx, .inr (4, [.ref so, .ref lo, .ref rg, .ref g, .ref g2, .ref qmi])), (so, .inr (3, [.ref qlk, .ref qln, .ref qhd, .ref qsf, .ref qfp, .ref qfc, .int (nI ly), .int (nI ce), .int da, .int db, .int dr])), (qhd, .inl (cI, 30, .inl hd)), (qsf, .inl (cI, 30, .inl sf)), (qfp, .inl (cI, 30, .inl fp)), (qfc, .inl (cI, 31, .inl fc)), (g, .inr (0, [.ref so, .ref lo, .ref qpr, .ref qpa, .int (nI dy), .long co, .long wo])), (qpr, .inl (cJ, 30, .inr (.inl pr))), (qpa, .inl (cJ, 30, .inr (.inl pa)))] t.heap ∧ va_K (dC, dI) vwCl [(cI, .int), (cJ, .long)] t ∧ va_D (va_A [(xx, .inr (4, [.ref so, .ref lo, .ref rg, .ref g, .ref g2, .ref qmi])), (so, .inr (3, [.ref qlk, .ref qln, .ref qhd, .ref qsf, .ref qfp, .ref qfc, .int (nI ly), .int (nI ce), .int da, .int db, .int dr])), (qhd, .inl (cI, 30, .inl hd)), (qsf, .inl (cI, 30, .inl sf)), (qfp, .inl (cI, 30, .inl fp)), (qfc, .inl (cI, 31, .inl fc)), (g, .inr (0, [.ref so, .ref lo, .ref qpr, .ref qpa, .int (nI dy), .long co, .long wo])), (qpr, .inl (cJ, 30, .inr (.inl pr))), (qpa, .inl (cJ, 30, .inr (.inl pa)))] sz) [(xx, .inr (4, [.ref so, .ref lo, .ref rg, .ref g, .ref g2, .ref qmi])), (so, .inr (3, [.ref qlk, .ref qln, .ref qhd, .ref qsf, .ref qfp, .ref qfc, .int (nI ly), .int (nI ce), .int da, .int db, .int dr])), (qhd, .inl (cI, 30, .inl hd)), (qsf, .inl (cI, 30, .inl sf)), (qfp, .inl (cI, 30, .inl fp)), (qfc, .inl (cI, 31, .inl fc)), (g, .inr (0, [.ref so, .ref lo, .ref qpr, .ref qpa, .int (nI dy), .long co, .long wo])), (qpr, .inl (cJ, 30, .inr (.inl pr))), (qpa, .inl (cJ, 30, .inr (.inl pa)))]) (va_A [(xx, .inr (4, [.ref so, .ref lo, .ref rg, .ref g, .ref g2, .ref qmi])), (so, .inr (3, [.ref qlk, .ref qln, .ref qhd, .ref qsf, .ref qfp, .ref qfc, .int (nI ly), .int (nI ce), .int da, .int db, .int dr])), (qhd, .inl (cI, 30, .inl hd)), (qsf, .inl (cI, 30, .inl sf)), (qfp, .inl (cI, 30, .inl fp)), (qfc, .inl (cI, 31, .inl fc)), (g, .inr (0, [.ref so, .ref lo, .ref qpr, .ref qpa, .int (nI dy), .long co, .long wo])), (qpr, .inl (cJ, 30, .inr (.inl pr))), (qpa, .inl (cJ, 30, .inr (.inl pa)))] sz)) 0 0 (va_A [(xx, .inr (4, [.ref so, .ref lo, .ref rg, .ref g, .ref g2, .ref qmi])), (so, .inr (3, [.ref qlk, .ref qln, .ref qhd, .ref qsf, .ref qfp, .ref qfc, .int (nI ly), .int (nI ce), .int da, .int db, .int dr])), (qhd, .inl (cI, 30, .inl hd)), (qsf, .inl (cI, 30, .inl sf)), (qfp, .inl (cI, 30, .inl fp)), (qfc, .inl (cI, 31, .inl fc)), (g, .inr (0, [.ref so, .ref lo, .ref qpr, .ref qpa, .int (nI dy), .long co, .long wo])), (qpr, .inl (cJ, 30, .inr (.inl pr))), (qpa, .inl (cJ, 30, .inr (.inl pa)))] sz) := by
  refine Met.ofW (cc := bX_sunk) (maxL := 2) (ret := (some .long)) (by decide) rfl ?_
  intro p e s m args below meth c s₁ B hml hv
  obtain ⟨rfl, hsz, hP, hK, hD0⟩ := hv
  have hx := B.exec
  have hb := B.bytes
  have hr := B.returns
  have hts := atoms_spec (ws := wX_sunk) B.pre
  have hown : s.vm.findClass R_X = some m.cls := findClass_of_methodNamed B.named
  have htw : ∀ w ∈ WA, w.before _ s = true := fun w h => hts w (List.mem_cons_of_mem _ h)
  clear hts
  have hlocks := B.notSynchronized
  subst hsz
  have hD := hD0.self (sz := s.heap.size)
  generalize hAe : va_A [(xx, .inr (4, [.ref so, .ref lo, .ref rg, .ref g, .ref g2, .ref qmi])), (so, .inr (3, [.ref qlk, .ref qln, .ref qhd, .ref qsf, .ref qfp, .ref qfc, .int (nI ly), .int (nI ce), .int da, .int db, .int dr])), (qhd, .inl (cI, 30, .inl hd)), (qsf, .inl (cI, 30, .inl sf)), (qfp, .inl (cI, 30, .inl fp)), (qfc, .inl (cI, 31, .inl fc)), (g, .inr (0, [.ref so, .ref lo, .ref qpr, .ref qpa, .int (nI dy), .long co, .long wo])), (qpr, .inl (cJ, 30, .inr (.inl pr))), (qpa, .inl (cJ, 30, .inr (.inl pa)))] s.heap.size = A at hD ⊢
  have hA : ∀ q : Nat, s.heap.size ≤ q → A q := fun q h => by rw [← hAe]; exact Or.inr h
  clear hAe hD0
  have hS : va_S A s.heap s.heap [] := va_S.rf
  have hP : va_P (dC, dI) vwCl [(xx, .inr (4, [.ref so, .ref lo, .ref rg, .ref g, .ref g2, .ref qmi])), (so, .inr (3, [.ref qlk, .ref qln, .ref qhd, .ref qsf, .ref qfp, .ref qfc, .int (nI ly), .int (nI ce), .int da, .int db, .int dr])), (qhd, .inl (cI, 30, .inl hd)), (qsf, .inl (cI, 30, .inl sf)), (qfp, .inl (cI, 30, .inl fp)), (qfc, .inl (cI, 31, .inl fc)), (g, .inr (0, [.ref so, .ref lo, .ref qpr, .ref qpa, .int (nI dy), .long co, .long wo])), (qpr, .inl (cJ, 30, .inr (.inl pr))), (qpa, .inl (cJ, 30, .inr (.inl pa)))] s.heap := hP
  have hl := lv_entry ([.ref xx, .int (nI j)]) (n := 2) (Nat.le_of_ble_eq_true rfl)
  rw [lg_entry_eq]
  generalize (lg_sl ([.ref xx, .int (nI j)]) ++ List.replicate (2 - (lg_sl ([.ref xx, .int (nI j)])).length) Slot.unset).toArray = ls at hl ⊢
  have hl : lv_has ls 2 [(0, .ref xx), (1, .int (nI j))] := hl
  refine lv_iload_n hx hb dX_sunk_0 rfl (lv_at hl 1 rfl) ?_
  refine lv_iconst (v := (-1)) hx hb dX_sunk_1 (by decide) ?_
  refine lv_icmp_ne (tgt := 17) hx hb dX_sunk_2 (by decide) (fun hc2 => ?_) (fun hc2 => ?_)
  · -- 2 taken
    refine lv_iload_n hx hb dX_sunk_17 rfl (lv_at hl 1 rfl) ?_
    refine lv_iconst (v := nI 0) hx hb dX_sunk_18 (by decide) ?_
    refine lv_aload_n hx hb dX_sunk_19 rfl (lv_at hl 0 rfl) ?_
    refine va_get (D := (dC, dI)) (ci := 4) (v := .ref so) (C := R_X) (T := T_X) (N := 6) hx hb htw in_X hown hK hP 0 rfl rfl 0 (by decide) (htw _ m_141) (fun _ h9 => h9) rfl dX_sunk_20 ?_
    refine va_get (D := (dC, dI)) (ci := 3) (v := .int (nI ly)) (C := R_S) (T := T_S) (N := 11) hx hb htw in_S hown hK hP 1 rfl rfl 6 (by decide) (htw _ m_32) (fun _ h9 => h9) rfl dX_sunk_23 ?_
    refine lv_iconst (v := nI 1) hx hb dX_sunk_26 (by decide) ?_
    refine lv_isub hx hb dX_sunk_27 ?_
    have hPc := hP.sub (ws' := []) [] rfl
    have hDc := hD.sub (ws' := []) [] (by decide) rfl
    have hFc := va_free (wc := []) hD hS hA [] rfl
    refine va_calli (va_runS (As := [.int (nI j), .int (nI 0), .int ((nI ly) - (nI 1))]) (rest := []) ⟨hx, hb, hml, hown, htw⟩ (kX_within l dC dI cI cJ s.heap.size (nI j) (nI 0) ((nI ly) - (nI 1))) (va_cwS 3 htw (ws_good m_164 m_165 m_1 m_166) rfl rfl rfl (by decide +kernel) ⟨Nat.le_of_ble_eq_true rfl, Nat.le_of_ble_eq_true rfl⟩) ⟨fun a U g mk q => by obtain ⟨q0, q1, qP, qK, qD⟩ := q; exact ⟨q0, q1, qP, va_K.moved (u := U) (U := U.calling g mk a) (Vm.Alike.refl U.vm) qK, qD⟩, fun U hU hW => ⟨rfl, by rw [hU], by rw [hU]; exact hPc, va_K.moved hW.alike hK, hDc.weaken (fun _ _ _ _ => trivial)⟩⟩ rfl rfl hl.1 rfl (lv_room (Nat.le_of_ble_eq_true rfl)) dX_sunk_28 ⟨Nat.le_of_ble_eq_true rfl, Nat.le_of_ble_eq_true rfl⟩) hS (fun q _ h => hFc q h) hFc (fun res_ u_ t H1 locs ht hvm hw hB hz1 hk1 hS => ?_)
    obtain ⟨hP1, hK1, hD1⟩ := hB
    rw [ht] at hP1
    obtain ⟨hP, hD⟩ := va_join (wr := [(xx, .inr (4, [.ref so, .ref lo, .ref rg, .ref g, .ref g2, .ref qmi])), (so, .inr (3, [.ref qlk, .ref qln, .ref qhd, .ref qsf, .ref qfp, .ref qfc, .int (nI ly), .int (nI ce), .int da, .int db, .int dr])), (qhd, .inl (cI, 30, .inl hd)), (qsf, .inl (cI, 30, .inl sf)), (qfp, .inl (cI, 30, .inl fp)), (qfc, .inl (cI, 31, .inl fc)), (g, .inr (0, [.ref so, .ref lo, .ref qpr, .ref qpa, .int (nI dy), .long co, .long wo])), (qpr, .inl (cJ, 30, .inr (.inl pr))), (qpa, .inl (cJ, 30, .inr (.inl pa)))]) (w1 := []) hP hD [] [0, 1, 2, 3, 4, 5, 6, 7, 8] rfl rfl (by decide) (by decide) hk1 hFc hP1 hD1
    generalize H1 = H at hP hS ⊢
    have hP : va_P (dC, dI) vwCl [(xx, .inr (4, [.ref so, .ref lo, .ref rg, .ref g, .ref g2, .ref qmi])), (so, .inr (3, [.ref qlk, .ref qln, .ref qhd, .ref qsf, .ref qfp, .ref qfc, .int (nI ly), .int (nI ce), .int da, .int db, .int dr])), (qhd, .inl (cI, 30, .inl hd)), (qsf, .inl (cI, 30, .inl sf)), (qfp, .inl (cI, 30, .inl fp)), (qfc, .inl (cI, 31, .inl fc)), (g, .inr (0, [.ref so, .ref lo, .ref qpr, .ref qpa, .int (nI dy), .long co, .long wo])), (qpr, .inl (cJ, 30, .inr (.inl pr))), (qpa, .inl (cJ, 30, .inr (.inl pa)))] H := hP
    have hD : va_D A [(xx, .inr (4, [.ref so, .ref lo, .ref rg, .ref g, .ref g2, .ref qmi])), (so, .inr (3, [.ref qlk, .ref qln, .ref qhd, .ref qsf, .ref qfp, .ref qfc, .int (nI ly), .int (nI ce), .int da, .int db, .int dr])), (qhd, .inl (cI, 30, .inl hd)), (qsf, .inl (cI, 30, .inl sf)), (qfp, .inl (cI, 30, .inl fp)), (qfc, .inl (cI, 31, .inl fc)), (g, .inr (0, [.ref so, .ref lo, .ref qpr, .ref qpa, .int (nI dy), .long co, .long wo])), (qpr, .inl (cJ, 30, .inr (.inl pr))), (qpa, .inl (cJ, 30, .inr (.inl pa)))] := hD
    clear hPc hDc hFc hP1 hD1 hK1 hk1 hz1 hvm ht
    obtain rfl : kb ((nI 0) ≤ (nI j) ∧ (nI j) ≤ ((nI ly) - (nI 1))) = res_ := hw.symm
    refine lv_if_ne (tgt := 38) hx hb dX_sunk_31 (by decide) (fun hc31 => ?_) (fun hc31 => ?_)
    · -- 31 taken
      rw [kb_eq0, k_wi, nI_toInt (n := 0) (by omega), nI_toInt (n := j) (by omega), pk_sub_toInt (a := ly) (b := 1) (by omega) (by omega)] at hc31
      refine lv_aload_n hx hb dX_sunk_38 rfl (lv_at hl 0 rfl) ?_
      refine va_get (D := (dC, dI)) (ci := 4) (v := .ref g) (C := R_X) (T := T_X) (N := 6) hx hb htw in_X hown hK hP 0 rfl rfl 3 (by decide) (htw _ m_144) (fun _ h9 => h9) rfl dX_sunk_39 ?_
      refine lv_aload_n hx hb dX_sunk_42 rfl (lv_at hl 0 rfl) ?_
      refine va_get (D := (dC, dI)) (ci := 4) (v := .ref so) (C := R_X) (T := T_X) (N := 6) hx hb htw in_X hown hK hP 0 rfl rfl 0 (by decide) (htw _ m_141) (fun _ h9 => h9) rfl dX_sunk_43 ?_
      refine va_get (D := (dC, dI)) (ci := 3) (v := .ref qfc) (C := R_S) (T := T_S) (N := 11) hx hb htw in_S hown hK hP 1 rfl rfl 5 (by decide) (htw _ m_30) (fun _ h9 => h9) rfl dX_sunk_46 ?_
      refine lv_iload_n hx hb dX_sunk_49 rfl (lv_at hl 1 rfl) ?_
      refine xa_iald hx hb hK hP 5 0 rfl rfl (i := j) (by omega) (by decide) dX_sunk_50 ?_
      refine lv_topi (fun kv ekv => ?_)
      obtain rfl : nI fa = kv := (ekv.trans (hfa)).symm
      refine lv_aload_n hx hb dX_sunk_51 rfl (lv_at hl 0 rfl) ?_
      refine va_get (D := (dC, dI)) (ci := 4) (v := .ref so) (C := R_X) (T := T_X) (N := 6) hx hb htw in_X hown hK hP 0 rfl rfl 0 (by decide) (htw _ m_141) (fun _ h9 => h9) rfl dX_sunk_52 ?_
      refine va_get (D := (dC, dI)) (ci := 3) (v := .ref qfc) (C := R_S) (T := T_S) (N := 11) hx hb htw in_S hown hK hP 1 rfl rfl 5 (by decide) (htw _ m_30) (fun _ h9 => h9) rfl dX_sunk_55 ?_
      refine lv_iload_n hx hb dX_sunk_58 rfl (lv_at hl 1 rfl) ?_
      refine lv_iconst (v := nI 1) hx hb dX_sunk_59 (by decide) ?_
      refine lv_iadd hx hb dX_sunk_60 ?_
      refine lv_topi (fun kv ekv => ?_)
      obtain rfl : kv = nI (j + 1) := by rw [ekv]; exact nI_add _ _
      refine xa_iald hx hb hK hP 5 0 rfl rfl (i := (j + 1)) (by omega) (by decide) dX_sunk_61 ?_
      refine lv_topi (fun kv ekv => ?_)
      obtain rfl : nI fb = kv := (ekv.trans (hfb)).symm
      have hPc := hP.sub (ws' := [(g, .inr (0, [.ref so, .ref lo, .ref qpr, .ref qpa, .int (nI dy), .long co, .long wo])), (qpr, .inl (cJ, 30, .inr (.inl pr))), (qpa, .inl (cJ, 30, .inr (.inl pa))), (so, .inr (3, [.ref qlk, .ref qln, .ref qhd, .ref qsf, .ref qfp, .ref qfc, .int (nI ly), .int (nI ce), .int da, .int db, .int dr])), (qhd, .inl (cI, 30, .inl hd)), (qsf, .inl (cI, 30, .inl sf)), (qfp, .inl (cI, 30, .inl fp))]) [6, 7, 8, 1, 2, 3, 4] rfl
      have hDc := hD.sub (ws' := [(g, .inr (0, [.ref so, .ref lo, .ref qpr, .ref qpa, .int (nI dy), .long co, .long wo])), (qpr, .inl (cJ, 30, .inr (.inl pr))), (qpa, .inl (cJ, 30, .inr (.inl pa))), (so, .inr (3, [.ref qlk, .ref qln, .ref qhd, .ref qsf, .ref qfp, .ref qfc, .int (nI ly), .int (nI ce), .int da, .int db, .int dr])), (qhd, .inl (cI, 30, .inl hd)), (qsf, .inl (cI, 30, .inl sf)), (qfp, .inl (cI, 30, .inl fp))]) [6, 7, 8, 1, 2, 3, 4] (by decide) rfl
      have hFc := va_free (wc := [(g, .inr (0, [.ref so, .ref lo, .ref qpr, .ref qpa, .int (nI dy), .long co, .long wo])), (qpr, .inl (cJ, 30, .inr (.inl pr))), (qpa, .inl (cJ, 30, .inr (.inl pa))), (so, .inr (3, [.ref qlk, .ref qln, .ref qhd, .ref qsf, .ref qfp, .ref qfc, .int (nI ly), .int (nI ce), .int da, .int db, .int dr])), (qhd, .inl (cI, 30, .inl hd)), (qsf, .inl (cI, 30, .inl sf)), (qfp, .inl (cI, 30, .inl fp))]) hD hS hA [6, 7, 8, 1, 2, 3, 4] rfl
      refine va_calll (va_runV (As := [.int (nI fa), .int (nI fb)]) (rest := []) ⟨hx, hb, hml, hown, htw⟩ (kG_unitsSunk2 l dC dI cI cJ g so lo qpr qpa qlk qln qhd qsf qfp qfc H.size fa fb dy co wo pr pa ly ce da db dr hd sf fp (by first | assumption | omega | decide) (by first | assumption | omega | decide)) (cwV 2 htw (wv_good m_250 m_237 m_238 m_5 m_239) rfl rfl rfl (by decide +kernel) ⟨Nat.le_of_ble_eq_true rfl, Nat.le_of_ble_eq_true rfl⟩) ⟨fun a U g mk q => by obtain ⟨q0, q1, qP, qK, qD⟩ := q; exact ⟨q0, q1, qP, va_K.moved (u := U) (U := U.calling g mk a) (Vm.Alike.refl U.vm) qK, qD⟩, va_recv hK hPc (ci := 0) (q0 := 0) rfl rfl, fun U hU hW => ⟨rfl, by rw [hU], by rw [hU]; exact hPc, va_K.moved hW.alike hK, hDc.weaken (fun _ _ _ _ => trivial)⟩⟩ rfl rfl hl.1 rfl (lv_room (Nat.le_of_ble_eq_true rfl)) dX_sunk_62 ⟨Nat.le_of_ble_eq_true rfl, Nat.le_of_ble_eq_true rfl⟩) hS (fun q _ h => hFc q h) hFc (fun res_ u_ t H1 locs ht hvm hw hB hz1 hk1 hS => ?_)
      obtain ⟨hP1, hK1, hD1⟩ := hB
      rw [ht] at hP1
      obtain ⟨hP, hD⟩ := va_join (wr := [(xx, .inr (4, [.ref so, .ref lo, .ref rg, .ref g, .ref g2, .ref qmi])), (qfc, .inl (cI, 31, .inl fc))]) (w1 := [(g, .inr (0, [.ref so, .ref lo, .ref qpr, .ref qpa, .int (nI dy), .long co, .long wo])), (qpr, .inl (cJ, 30, .inr (.inl pr))), (qpa, .inl (cJ, 30, .inr (.inl pa))), (so, .inr (3, [.ref qlk, .ref qln, .ref qhd, .ref qsf, .ref qfp, .ref qfc, .int (nI ly), .int (nI ce), .int da, .int db, .int dr])), (qhd, .inl (cI, 30, .inl hd)), (qsf, .inl (cI, 30, .inl sf)), (qfp, .inl (cI, 30, .inl fp))]) hP hD [6, 7, 8, 1, 2, 3, 4] [0, 5] rfl rfl (by decide) (by decide) hk1 hFc hP1 hD1
      generalize H1 = H at hP hS ⊢
      have hP := hP.sub (ws' := [(xx, .inr (4, [.ref so, .ref lo, .ref rg, .ref g, .ref g2, .ref qmi])), (so, .inr (3, [.ref qlk, .ref qln, .ref qhd, .ref qsf, .ref qfp, .ref qfc, .int (nI ly), .int (nI ce), .int da, .int db, .int dr])), (qhd, .inl (cI, 30, .inl hd)), (qsf, .inl (cI, 30, .inl sf)), (qfp, .inl (cI, 30, .inl fp)), (qfc, .inl (cI, 31, .inl fc)), (g, .inr (0, [.ref so, .ref lo, .ref qpr, .ref qpa, .int (nI dy), .long co, .long wo])), (qpr, .inl (cJ, 30, .inr (.inl pr))), (qpa, .inl (cJ, 30, .inr (.inl pa)))]) [0, 5, 6, 7, 8, 1, 2, 3, 4] rfl
      have hD := hD.sub (ws' := [(xx, .inr (4, [.ref so, .ref lo, .ref rg, .ref g, .ref g2, .ref qmi])), (so, .inr (3, [.ref qlk, .ref qln, .ref qhd, .ref qsf, .ref qfp, .ref qfc, .int (nI ly), .int (nI ce), .int da, .int db, .int dr])), (qhd, .inl (cI, 30, .inl hd)), (qsf, .inl (cI, 30, .inl sf)), (qfp, .inl (cI, 30, .inl fp)), (qfc, .inl (cI, 31, .inl fc)), (g, .inr (0, [.ref so, .ref lo, .ref qpr, .ref qpa, .int (nI dy), .long co, .long wo])), (qpr, .inl (cJ, 30, .inr (.inl pr))), (qpa, .inl (cJ, 30, .inr (.inl pa)))]) [0, 5, 6, 7, 8, 1, 2, 3, 4] (by decide) rfl
      clear hPc hDc hFc hP1 hD1 hK1 hk1 hz1 hvm ht
      obtain rfl : k_units hd sf fp co pr pa fa fb = res_ := hw.symm
      refine lv_ldc2 (v := 1000) hx hb hown (htw _ m_244) dX_sunk_65 ?_
      refine lv_ldiv hx hb dX_sunk_68 (by decide) ?_
      have hP : va_P (dC, dI) vwCl [(xx, .inr (4, [.ref so, .ref lo, .ref rg, .ref g, .ref g2, .ref qmi])), (so, .inr (3, [.ref qlk, .ref qln, .ref qhd, .ref qsf, .ref qfp, .ref qfc, .int (nI ly), .int (nI ce), .int da, .int db, .int dr])), (qhd, .inl (cI, 30, .inl hd)), (qsf, .inl (cI, 30, .inl sf)), (qfp, .inl (cI, 30, .inl fp)), (qfc, .inl (cI, 31, .inl fc)), (g, .inr (0, [.ref so, .ref lo, .ref qpr, .ref qpa, .int (nI dy), .long co, .long wo])), (qpr, .inl (cJ, 30, .inr (.inl pr))), (qpa, .inl (cJ, 30, .inr (.inl pa)))] H := by first | exact hP | simpa only [] using hP
      have hD : va_D A [(xx, .inr (4, [.ref so, .ref lo, .ref rg, .ref g, .ref g2, .ref qmi])), (so, .inr (3, [.ref qlk, .ref qln, .ref qhd, .ref qsf, .ref qfp, .ref qfc, .int (nI ly), .int (nI ce), .int da, .int db, .int dr])), (qhd, .inl (cI, 30, .inl hd)), (qsf, .inl (cI, 30, .inl sf)), (qfp, .inl (cI, 30, .inl fp)), (qfc, .inl (cI, 31, .inl fc)), (g, .inr (0, [.ref so, .ref lo, .ref qpr, .ref qpa, .int (nI dy), .long co, .long wo])), (qpr, .inl (cJ, 30, .inr (.inl pr))), (qpa, .inl (cJ, 30, .inr (.inl pa)))] := by first | exact hD | simpa only [] using hD
      exact W.lret (v := (k_units hd sf fp co pr pa fa fb) / 1000) hx hb hr (fun t ht hW => ⟨⟨(k_units hd sf fp co pr pa fa fb) / 1000, (), rfl, rfl, by rw [ht]; exact hP, va_K.moved hW.alike hK, hD⟩, hS.F ht⟩) hS.2.2 dX_sunk_69
    · -- 31 not taken
      rw [kb_eq0, k_wi, nI_toInt (n := 0) (by omega), nI_toInt (n := j) (by omega), pk_sub_toInt (a := ly) (b := 1) (by omega) (by omega)] at hc31
      exfalso; omega
  · -- 2 not taken
    exfalso; have := congrArg Int32.toInt hc2; rw [nI_toInt (by omega)] at this; have e : (-1 : Int32).toInt = -1 := by decide
    rw [e] at this; omega
set_option maxHeartbeats 4000000 in
set_option maxRecDepth 100000 in
theorem kX_sunk_bad (l : Launch) (dC : Nat → ClassId) (dI : Nat → Nat → Nat) (cI cJ : ClassId) (xx so lo rg g g2 qmi qlk qln qhd qsf qfp qfc qpr qpa : Nat) (sz : Nat) (x : Int32) (ly : Nat) (ce : Nat) (da : Int32) (db : Int32) (dr : Int32) (hd : Nat → Int32) (sf : Nat → Int32) (fp : Nat → Int32) (fc : Nat → Int32) (dy : Nat) (co : Int64) (wo : Int64) (pr : Nat → Int64) (pa : Nat → Int64) (hce : ce ≤ 30) (hly : ly ≤ 30) (hbad : ¬ (-1 ≤ x.toInt ∧ x.toInt < ly)) : Met l yX_sunk wX_sunk ({ frames := 1, cells := 0, slots := 0, locals := 22 }) (va_Pc [.ref xx, .int x] (fun U => U.heap.size = sz ∧ va_P (dC, dI) vwCl [(xx, .inr (4, [.ref so, .ref lo, .ref rg, .ref g, .ref g2, .ref qmi])), (so, .inr (3, [.ref qlk, .ref qln, .ref qhd, .ref qsf, .ref qfp, .ref qfc, .int (nI ly), .int (nI ce), .int da, .int db, .int dr])), (qhd, .inl (cI, 30, .inl hd)), (qsf, .inl (cI, 30, .inl sf)), (qfp, .inl (cI, 30, .inl fp)), (qfc, .inl (cI, 31, .inl fc)), (g, .inr (0, [.ref so, .ref lo, .ref qpr, .ref qpa, .int (nI dy), .long co, .long wo])), (qpr, .inl (cJ, 30, .inr (.inl pr))), (qpa, .inl (cJ, 30, .inr (.inl pa)))] U.heap ∧ va_K (dC, dI) vwCl [(cI, .int), (cJ, .long)] U ∧ va_D (fun _ => True) [(xx, .inr (4, [.ref so, .ref lo, .ref rg, .ref g, .ref g2, .ref qmi])), (so, .inr (3, [.ref qlk, .ref qln, .ref qhd, .ref qsf, .ref qfp, .ref qfc, .int (nI ly), .int (nI ce), .int da, .int db, .int dr])), (qhd, .inl (cI, 30, .inl hd)), (qsf, .inl (cI, 30, .inl sf)), (qfp, .inl (cI, 30, .inl fp)), (qfc, .inl (cI, 31, .inl fc)), (g, .inr (0, [.ref so, .ref lo, .ref qpr, .ref qpa, .int (nI dy), .long co, .long wo])), (qpr, .inl (cJ, 30, .inr (.inl pr))), (qpa, .inl (cJ, 30, .inr (.inl pa)))])) (va_Ql (fun res_ (_ : Unit) => res_ = (-1)) (fun _ t => va_P (dC, dI) vwCl [(xx, .inr (4, [.ref so, .ref lo, .ref rg, .ref g, .ref g2, .ref qmi])), (so, .inr (3, [.ref qlk, .ref qln, .ref qhd, .ref qsf, .ref qfp, .ref qfc, .int (nI ly), .int (nI ce), .int da, .int db, .int dr])), (qhd, .inl (cI, 30, .inl hd)), (qsf, .inl (cI, 30, .inl sf)), (qfp, .inl (cI, 30, .inl fp)), (qfc, .inl (cI, 31, .inl fc)), (g, .inr (0, [.ref so, .ref lo, .ref qpr, .ref qpa, .int (nI dy), .long co, .long wo])), (qpr, .inl (cJ, 30, .inr (.inl pr))), (qpa, .inl (cJ, 30, .inr (.inl pa)))] t.heap ∧ va_K (dC, dI) vwCl [(cI, .int), (cJ, .long)] t ∧ va_D (va_A [(xx, .inr (4, [.ref so, .ref lo, .ref rg, .ref g, .ref g2, .ref qmi])), (so, .inr (3, [.ref qlk, .ref qln, .ref qhd, .ref qsf, .ref qfp, .ref qfc, .int (nI ly), .int (nI ce), .int da, .int db, .int dr])), (qhd, .inl (cI, 30, .inl hd)), (qsf, .inl (cI, 30, .inl sf)), (qfp, .inl (cI, 30, .inl fp)), (qfc, .inl (cI, 31, .inl fc)), (g, .inr (0, [.ref so, .ref lo, .ref qpr, .ref qpa, .int (nI dy), .long co, .long wo])), (qpr, .inl (cJ, 30, .inr (.inl pr))), (qpa, .inl (cJ, 30, .inr (.inl pa)))] sz) [(xx, .inr (4, [.ref so, .ref lo, .ref rg, .ref g, .ref g2, .ref qmi])), (so, .inr (3, [.ref qlk, .ref qln, .ref qhd, .ref qsf, .ref qfp, .ref qfc, .int (nI ly), .int (nI ce), .int da, .int db, .int dr])), (qhd, .inl (cI, 30, .inl hd)), (qsf, .inl (cI, 30, .inl sf)), (qfp, .inl (cI, 30, .inl fp)), (qfc, .inl (cI, 31, .inl fc)), (g, .inr (0, [.ref so, .ref lo, .ref qpr, .ref qpa, .int (nI dy), .long co, .long wo])), (qpr, .inl (cJ, 30, .inr (.inl pr))), (qpa, .inl (cJ, 30, .inr (.inl pa)))]) (va_A [(xx, .inr (4, [.ref so, .ref lo, .ref rg, .ref g, .ref g2, .ref qmi])), (so, .inr (3, [.ref qlk, .ref qln, .ref qhd, .ref qsf, .ref qfp, .ref qfc, .int (nI ly), .int (nI ce), .int da, .int db, .int dr])), (qhd, .inl (cI, 30, .inl hd)), (qsf, .inl (cI, 30, .inl sf)), (qfp, .inl (cI, 30, .inl fp)), (qfc, .inl (cI, 31, .inl fc)), (g, .inr (0, [.ref so, .ref lo, .ref qpr, .ref qpa, .int (nI dy), .long co, .long wo])), (qpr, .inl (cJ, 30, .inr (.inl pr))), (qpa, .inl (cJ, 30, .inr (.inl pa)))] sz)) 0 0 (va_A [(xx, .inr (4, [.ref so, .ref lo, .ref rg, .ref g, .ref g2, .ref qmi])), (so, .inr (3, [.ref qlk, .ref qln, .ref qhd, .ref qsf, .ref qfp, .ref qfc, .int (nI ly), .int (nI ce), .int da, .int db, .int dr])), (qhd, .inl (cI, 30, .inl hd)), (qsf, .inl (cI, 30, .inl sf)), (qfp, .inl (cI, 30, .inl fp)), (qfc, .inl (cI, 31, .inl fc)), (g, .inr (0, [.ref so, .ref lo, .ref qpr, .ref qpa, .int (nI dy), .long co, .long wo])), (qpr, .inl (cJ, 30, .inr (.inl pr))), (qpa, .inl (cJ, 30, .inr (.inl pa)))] sz) := by
  refine Met.ofW (cc := bX_sunk) (maxL := 2) (ret := (some .long)) (by decide) rfl ?_
  intro p e s m args below meth c s₁ B hml hv
  obtain ⟨rfl, hsz, hP, hK, hD0⟩ := hv
  have hx := B.exec
  have hb := B.bytes
  have hr := B.returns
  have hts := atoms_spec (ws := wX_sunk) B.pre
  have hown : s.vm.findClass R_X = some m.cls := findClass_of_methodNamed B.named
  have htw : ∀ w ∈ WA, w.before _ s = true := fun w h => hts w (List.mem_cons_of_mem _ h)
  clear hts
  have hlocks := B.notSynchronized
  subst hsz
  have hD := hD0.self (sz := s.heap.size)
  generalize hAe : va_A [(xx, .inr (4, [.ref so, .ref lo, .ref rg, .ref g, .ref g2, .ref qmi])), (so, .inr (3, [.ref qlk, .ref qln, .ref qhd, .ref qsf, .ref qfp, .ref qfc, .int (nI ly), .int (nI ce), .int da, .int db, .int dr])), (qhd, .inl (cI, 30, .inl hd)), (qsf, .inl (cI, 30, .inl sf)), (qfp, .inl (cI, 30, .inl fp)), (qfc, .inl (cI, 31, .inl fc)), (g, .inr (0, [.ref so, .ref lo, .ref qpr, .ref qpa, .int (nI dy), .long co, .long wo])), (qpr, .inl (cJ, 30, .inr (.inl pr))), (qpa, .inl (cJ, 30, .inr (.inl pa)))] s.heap.size = A at hD ⊢
  have hA : ∀ q : Nat, s.heap.size ≤ q → A q := fun q h => by rw [← hAe]; exact Or.inr h
  clear hAe hD0
  have hS : va_S A s.heap s.heap [] := va_S.rf
  have hP : va_P (dC, dI) vwCl [(xx, .inr (4, [.ref so, .ref lo, .ref rg, .ref g, .ref g2, .ref qmi])), (so, .inr (3, [.ref qlk, .ref qln, .ref qhd, .ref qsf, .ref qfp, .ref qfc, .int (nI ly), .int (nI ce), .int da, .int db, .int dr])), (qhd, .inl (cI, 30, .inl hd)), (qsf, .inl (cI, 30, .inl sf)), (qfp, .inl (cI, 30, .inl fp)), (qfc, .inl (cI, 31, .inl fc)), (g, .inr (0, [.ref so, .ref lo, .ref qpr, .ref qpa, .int (nI dy), .long co, .long wo])), (qpr, .inl (cJ, 30, .inr (.inl pr))), (qpa, .inl (cJ, 30, .inr (.inl pa)))] s.heap := hP
  have hl := lv_entry ([.ref xx, .int x]) (n := 2) (Nat.le_of_ble_eq_true rfl)
  rw [lg_entry_eq]
  generalize (lg_sl ([.ref xx, .int x]) ++ List.replicate (2 - (lg_sl ([.ref xx, .int x])).length) Slot.unset).toArray = ls at hl ⊢
  have hl : lv_has ls 2 [(0, .ref xx), (1, .int x)] := hl
  refine lv_iload_n hx hb dX_sunk_0 rfl (lv_at hl 1 rfl) ?_
  refine lv_iconst (v := (-1)) hx hb dX_sunk_1 (by decide) ?_
  refine lv_icmp_ne (tgt := 17) hx hb dX_sunk_2 (by decide) (fun hc2 => ?_) (fun hc2 => ?_)
  · -- 2 taken
    refine lv_iload_n hx hb dX_sunk_17 rfl (lv_at hl 1 rfl) ?_
    refine lv_iconst (v := nI 0) hx hb dX_sunk_18 (by decide) ?_
    refine lv_aload_n hx hb dX_sunk_19 rfl (lv_at hl 0 rfl) ?_
    refine va_get (D := (dC, dI)) (ci := 4) (v := .ref so) (C := R_X) (T := T_X) (N := 6) hx hb htw in_X hown hK hP 0 rfl rfl 0 (by decide) (htw _ m_141) (fun _ h9 => h9) rfl dX_sunk_20 ?_
    refine va_get (D := (dC, dI)) (ci := 3) (v := .int (nI ly)) (C := R_S) (T := T_S) (N := 11) hx hb htw in_S hown hK hP 1 rfl rfl 6 (by decide) (htw _ m_32) (fun _ h9 => h9) rfl dX_sunk_23 ?_
    refine lv_iconst (v := nI 1) hx hb dX_sunk_26 (by decide) ?_
    refine lv_isub hx hb dX_sunk_27 ?_
    have hPc := hP.sub (ws' := []) [] rfl
    have hDc := hD.sub (ws' := []) [] (by decide) rfl
    have hFc := va_free (wc := []) hD hS hA [] rfl
    refine va_calli (va_runS (As := [.int x, .int (nI 0), .int ((nI ly) - (nI 1))]) (rest := []) ⟨hx, hb, hml, hown, htw⟩ (kX_within l dC dI cI cJ s.heap.size x (nI 0) ((nI ly) - (nI 1))) (va_cwS 3 htw (ws_good m_164 m_165 m_1 m_166) rfl rfl rfl (by decide +kernel) ⟨Nat.le_of_ble_eq_true rfl, Nat.le_of_ble_eq_true rfl⟩) ⟨fun a U g mk q => by obtain ⟨q0, q1, qP, qK, qD⟩ := q; exact ⟨q0, q1, qP, va_K.moved (u := U) (U := U.calling g mk a) (Vm.Alike.refl U.vm) qK, qD⟩, fun U hU hW => ⟨rfl, by rw [hU], by rw [hU]; exact hPc, va_K.moved hW.alike hK, hDc.weaken (fun _ _ _ _ => trivial)⟩⟩ rfl rfl hl.1 rfl (lv_room (Nat.le_of_ble_eq_true rfl)) dX_sunk_28 ⟨Nat.le_of_ble_eq_true rfl, Nat.le_of_ble_eq_true rfl⟩) hS (fun q _ h => hFc q h) hFc (fun res_ u_ t H1 locs ht hvm hw hB hz1 hk1 hS => ?_)
    obtain ⟨hP1, hK1, hD1⟩ := hB
    rw [ht] at hP1
    obtain ⟨hP, hD⟩ := va_join (wr := [(xx, .inr (4, [.ref so, .ref lo, .ref rg, .ref g, .ref g2, .ref qmi])), (so, .inr (3, [.ref qlk, .ref qln, .ref qhd, .ref qsf, .ref qfp, .ref qfc, .int (nI ly), .int (nI ce), .int da, .int db, .int dr])), (qhd, .inl (cI, 30, .inl hd)), (qsf, .inl (cI, 30, .inl sf)), (qfp, .inl (cI, 30, .inl fp)), (qfc, .inl (cI, 31, .inl fc)), (g, .inr (0, [.ref so, .ref lo, .ref qpr, .ref qpa, .int (nI dy), .long co, .long wo])), (qpr, .inl (cJ, 30, .inr (.inl pr))), (qpa, .inl (cJ, 30, .inr (.inl pa)))]) (w1 := []) hP hD [] [0, 1, 2, 3, 4, 5, 6, 7, 8] rfl rfl (by decide) (by decide) hk1 hFc hP1 hD1
    generalize H1 = H at hP hS ⊢
    have hP : va_P (dC, dI) vwCl [(xx, .inr (4, [.ref so, .ref lo, .ref rg, .ref g, .ref g2, .ref qmi])), (so, .inr (3, [.ref qlk, .ref qln, .ref qhd, .ref qsf, .ref qfp, .ref qfc, .int (nI ly), .int (nI ce), .int da, .int db, .int dr])), (qhd, .inl (cI, 30, .inl hd)), (qsf, .inl (cI, 30, .inl sf)), (qfp, .inl (cI, 30, .inl fp)), (qfc, .inl (cI, 31, .inl fc)), (g, .inr (0, [.ref so, .ref lo, .ref qpr, .ref qpa, .int (nI dy), .long co, .long wo])), (qpr, .inl (cJ, 30, .inr (.inl pr))), (qpa, .inl (cJ, 30, .inr (.inl pa)))] H := hP
    have hD : va_D A [(xx, .inr (4, [.ref so, .ref lo, .ref rg, .ref g, .ref g2, .ref qmi])), (so, .inr (3, [.ref qlk, .ref qln, .ref qhd, .ref qsf, .ref qfp, .ref qfc, .int (nI ly), .int (nI ce), .int da, .int db, .int dr])), (qhd, .inl (cI, 30, .inl hd)), (qsf, .inl (cI, 30, .inl sf)), (qfp, .inl (cI, 30, .inl fp)), (qfc, .inl (cI, 31, .inl fc)), (g, .inr (0, [.ref so, .ref lo, .ref qpr, .ref qpa, .int (nI dy), .long co, .long wo])), (qpr, .inl (cJ, 30, .inr (.inl pr))), (qpa, .inl (cJ, 30, .inr (.inl pa)))] := hD
    clear hPc hDc hFc hP1 hD1 hK1 hk1 hz1 hvm ht
    obtain rfl : kb ((nI 0) ≤ x ∧ x ≤ ((nI ly) - (nI 1))) = res_ := hw.symm
    refine lv_if_ne (tgt := 38) hx hb dX_sunk_31 (by decide) (fun hc31 => ?_) (fun hc31 => ?_)
    · -- 31 taken
      rw [kb_eq0, k_wi, nI_toInt (n := 0) (by omega), pk_sub_toInt (a := ly) (b := 1) (by omega) (by omega)] at hc31
      exfalso; omega
    · -- 31 not taken
      rw [kb_eq0, k_wi, nI_toInt (n := 0) (by omega), pk_sub_toInt (a := ly) (b := 1) (by omega) (by omega)] at hc31
      refine lv_ldc2 (v := (-1)) hx hb hown (htw _ m_249) dX_sunk_34 ?_
      have hP : va_P (dC, dI) vwCl [(xx, .inr (4, [.ref so, .ref lo, .ref rg, .ref g, .ref g2, .ref qmi])), (so, .inr (3, [.ref qlk, .ref qln, .ref qhd, .ref qsf, .ref qfp, .ref qfc, .int (nI ly), .int (nI ce), .int da, .int db, .int dr])), (qhd, .inl (cI, 30, .inl hd)), (qsf, .inl (cI, 30, .inl sf)), (qfp, .inl (cI, 30, .inl fp)), (qfc, .inl (cI, 31, .inl fc)), (g, .inr (0, [.ref so, .ref lo, .ref qpr, .ref qpa, .int (nI dy), .long co, .long wo])), (qpr, .inl (cJ, 30, .inr (.inl pr))), (qpa, .inl (cJ, 30, .inr (.inl pa)))] H := by first | exact hP | simpa only [] using hP
      have hD : va_D A [(xx, .inr (4, [.ref so, .ref lo, .ref rg, .ref g, .ref g2, .ref qmi])), (so, .inr (3, [.ref qlk, .ref qln, .ref qhd, .ref qsf, .ref qfp, .ref qfc, .int (nI ly), .int (nI ce), .int da, .int db, .int dr])), (qhd, .inl (cI, 30, .inl hd)), (qsf, .inl (cI, 30, .inl sf)), (qfp, .inl (cI, 30, .inl fp)), (qfc, .inl (cI, 31, .inl fc)), (g, .inr (0, [.ref so, .ref lo, .ref qpr, .ref qpa, .int (nI dy), .long co, .long wo])), (qpr, .inl (cJ, 30, .inr (.inl pr))), (qpa, .inl (cJ, 30, .inr (.inl pa)))] := by first | exact hD | simpa only [] using hD
      exact W.lret (v := (-1)) hx hb hr (fun t ht hW => ⟨⟨(-1), (), rfl, rfl, by rw [ht]; exact hP, va_K.moved hW.alike hK, hD⟩, hS.F ht⟩) hS.2.2 dX_sunk_37
  · -- 2 not taken
    exfalso; have := congrArg Int32.toInt hc2; have e : (-1 : Int32).toInt = -1 := by decide
    rw [e] at this; omega
set_option maxHeartbeats 4000000 in
set_option maxRecDepth 100000 in
theorem kX_told_ok (l : Launch) (dC : Nat → ClassId) (dI : Nat → Nat → Nat) (cI cJ : ClassId) (xx so lo rg g g2 qmi qlk qln qhd qsf qfp qfc qpr qpa : Nat) (sz : Nat) (i : Nat) (y : Int32) (ly : Nat) (ce : Nat) (da : Int32) (db : Int32) (dr : Int32) (dy : Nat) (co : Int64) (wo : Int64) (pr : Nat → Int64) (pa : Nat → Int64) (hce : ce ≤ 30) (hi : i < ce) : Met l yX_told wX_told ({ frames := 1, cells := 0, slots := 0, locals := 22 }) (va_Pc [.ref xx, .int (nI i), .int y] (fun U => U.heap.size = sz ∧ va_P (dC, dI) vwCl [(xx, .inr (4, [.ref so, .ref lo, .ref rg, .ref g, .ref g2, .ref qmi])), (so, .inr (3, [.ref qlk, .ref qln, .ref qhd, .ref qsf, .ref qfp, .ref qfc, .int (nI ly), .int (nI ce), .int da, .int db, .int dr])), (g, .inr (0, [.ref so, .ref lo, .ref qpr, .ref qpa, .int (nI dy), .long co, .long wo])), (qpr, .inl (cJ, 30, .inr (.inl pr))), (qpa, .inl (cJ, 30, .inr (.inl pa)))] U.heap ∧ va_K (dC, dI) vwCl [(cI, .int), (cJ, .long)] U ∧ va_D (fun _ => True) [(xx, .inr (4, [.ref so, .ref lo, .ref rg, .ref g, .ref g2, .ref qmi])), (so, .inr (3, [.ref qlk, .ref qln, .ref qhd, .ref qsf, .ref qfp, .ref qfc, .int (nI ly), .int (nI ce), .int da, .int db, .int dr])), (g, .inr (0, [.ref so, .ref lo, .ref qpr, .ref qpa, .int (nI dy), .long co, .long wo])), (qpr, .inl (cJ, 30, .inr (.inl pr))), (qpa, .inl (cJ, 30, .inr (.inl pa)))])) (va_Qi (fun res_ (_ : Unit) => res_ = k_told co pr pa i y) (fun _ t => va_P (dC, dI) vwCl [(xx, .inr (4, [.ref so, .ref lo, .ref rg, .ref g, .ref g2, .ref qmi])), (so, .inr (3, [.ref qlk, .ref qln, .ref qhd, .ref qsf, .ref qfp, .ref qfc, .int (nI ly), .int (nI ce), .int da, .int db, .int dr])), (g, .inr (0, [.ref so, .ref lo, .ref qpr, .ref qpa, .int (nI dy), .long co, .long wo])), (qpr, .inl (cJ, 30, .inr (.inl pr))), (qpa, .inl (cJ, 30, .inr (.inl pa)))] t.heap ∧ va_K (dC, dI) vwCl [(cI, .int), (cJ, .long)] t ∧ va_D (va_A [(xx, .inr (4, [.ref so, .ref lo, .ref rg, .ref g, .ref g2, .ref qmi])), (so, .inr (3, [.ref qlk, .ref qln, .ref qhd, .ref qsf, .ref qfp, .ref qfc, .int (nI ly), .int (nI ce), .int da, .int db, .int dr])), (g, .inr (0, [.ref so, .ref lo, .ref qpr, .ref qpa, .int (nI dy), .long co, .long wo])), (qpr, .inl (cJ, 30, .inr (.inl pr))), (qpa, .inl (cJ, 30, .inr (.inl pa)))] sz) [(xx, .inr (4, [.ref so, .ref lo, .ref rg, .ref g, .ref g2, .ref qmi])), (so, .inr (3, [.ref qlk, .ref qln, .ref qhd, .ref qsf, .ref qfp, .ref qfc, .int (nI ly), .int (nI ce), .int da, .int db, .int dr])), (g, .inr (0, [.ref so, .ref lo, .ref qpr, .ref qpa, .int (nI dy), .long co, .long wo])), (qpr, .inl (cJ, 30, .inr (.inl pr))), (qpa, .inl (cJ, 30, .inr (.inl pa)))]) (va_A [(xx, .inr (4, [.ref so, .ref lo, .ref rg, .ref g, .ref g2, .ref qmi])), (so, .inr (3, [.ref qlk, .ref qln, .ref qhd, .ref qsf, .ref qfp, .ref qfc, .int (nI ly), .int (nI ce), .int da, .int db, .int dr])), (g, .inr (0, [.ref so, .ref lo, .ref qpr, .ref qpa, .int (nI dy), .long co, .long wo])), (qpr, .inl (cJ, 30, .inr (.inl pr))), (qpa, .inl (cJ, 30, .inr (.inl pa)))] sz)) 0 0 (va_A [(xx, .inr (4, [.ref so, .ref lo, .ref rg, .ref g, .ref g2, .ref qmi])), (so, .inr (3, [.ref qlk, .ref qln, .ref qhd, .ref qsf, .ref qfp, .ref qfc, .int (nI ly), .int (nI ce), .int da, .int db, .int dr])), (g, .inr (0, [.ref so, .ref lo, .ref qpr, .ref qpa, .int (nI dy), .long co, .long wo])), (qpr, .inl (cJ, 30, .inr (.inl pr))), (qpa, .inl (cJ, 30, .inr (.inl pa)))] sz) := by
  refine Met.ofW (cc := bX_told) (maxL := 3) (ret := (some .int)) (by decide) rfl ?_
  intro p e s m args below meth c s₁ B hml hv
  obtain ⟨rfl, hsz, hP, hK, hD0⟩ := hv
  have hx := B.exec
  have hb := B.bytes
  have hr := B.returns
  have hts := atoms_spec (ws := wX_told) B.pre
  have hown : s.vm.findClass R_X = some m.cls := findClass_of_methodNamed B.named
  have htw : ∀ w ∈ WA, w.before _ s = true := fun w h => hts w (List.mem_cons_of_mem _ h)
  clear hts
  have hlocks := B.notSynchronized
  subst hsz
  have hD := hD0.self (sz := s.heap.size)
  generalize hAe : va_A [(xx, .inr (4, [.ref so, .ref lo, .ref rg, .ref g, .ref g2, .ref qmi])), (so, .inr (3, [.ref qlk, .ref qln, .ref qhd, .ref qsf, .ref qfp, .ref qfc, .int (nI ly), .int (nI ce), .int da, .int db, .int dr])), (g, .inr (0, [.ref so, .ref lo, .ref qpr, .ref qpa, .int (nI dy), .long co, .long wo])), (qpr, .inl (cJ, 30, .inr (.inl pr))), (qpa, .inl (cJ, 30, .inr (.inl pa)))] s.heap.size = A at hD ⊢
  have hA : ∀ q : Nat, s.heap.size ≤ q → A q := fun q h => by rw [← hAe]; exact Or.inr h
  clear hAe hD0
  have hS : va_S A s.heap s.heap [] := va_S.rf
  have hP : va_P (dC, dI) vwCl [(xx, .inr (4, [.ref so, .ref lo, .ref rg, .ref g, .ref g2, .ref qmi])), (so, .inr (3, [.ref qlk, .ref qln, .ref qhd, .ref qsf, .ref qfp, .ref qfc, .int (nI ly), .int (nI ce), .int da, .int db, .int dr])), (g, .inr (0, [.ref so, .ref lo, .ref qpr, .ref qpa, .int (nI dy), .long co, .long wo])), (qpr, .inl (cJ, 30, .inr (.inl pr))), (qpa, .inl (cJ, 30, .inr (.inl pa)))] s.heap := hP
  have hl := lv_entry ([.ref xx, .int (nI i), .int y]) (n := 3) (Nat.le_of_ble_eq_true rfl)
  rw [lg_entry_eq]
  generalize (lg_sl ([.ref xx, .int (nI i), .int y]) ++ List.replicate (3 - (lg_sl ([.ref xx, .int (nI i), .int y])).length) Slot.unset).toArray = ls at hl ⊢
  have hl : lv_has ls 3 [(0, .ref xx), (1, .int (nI i)), (2, .int y)] := hl
  refine lv_iload_n hx hb dX_told_0 rfl (lv_at hl 1 rfl) ?_
  refine lv_iconst (v := nI 0) hx hb dX_told_1 (by decide) ?_
  refine lv_aload_n hx hb dX_told_2 rfl (lv_at hl 0 rfl) ?_
  refine va_get (D := (dC, dI)) (ci := 4) (v := .ref so) (C := R_X) (T := T_X) (N := 6) hx hb htw in_X hown hK hP 0 rfl rfl 0 (by decide) (htw _ m_141) (fun _ h9 => h9) rfl dX_told_3 ?_
  refine va_get (D := (dC, dI)) (ci := 3) (v := .int (nI ce)) (C := R_S) (T := T_S) (N := 11) hx hb htw in_S hown hK hP 1 rfl rfl 7 (by decide) (htw _ m_34) (fun _ h9 => h9) rfl dX_told_6 ?_
  refine lv_iconst (v := nI 1) hx hb dX_told_9 (by decide) ?_
  refine lv_isub hx hb dX_told_10 ?_
  have hPc := hP.sub (ws' := []) [] rfl
  have hDc := hD.sub (ws' := []) [] (by decide) rfl
  have hFc := va_free (wc := []) hD hS hA [] rfl
  refine va_calli (va_runS (As := [.int (nI i), .int (nI 0), .int ((nI ce) - (nI 1))]) (rest := []) ⟨hx, hb, hml, hown, htw⟩ (kX_within l dC dI cI cJ s.heap.size (nI i) (nI 0) ((nI ce) - (nI 1))) (va_cwS 3 htw (ws_good m_164 m_165 m_1 m_166) rfl rfl rfl (by decide +kernel) ⟨Nat.le_of_ble_eq_true rfl, Nat.le_of_ble_eq_true rfl⟩) ⟨fun a U g mk q => by obtain ⟨q0, q1, qP, qK, qD⟩ := q; exact ⟨q0, q1, qP, va_K.moved (u := U) (U := U.calling g mk a) (Vm.Alike.refl U.vm) qK, qD⟩, fun U hU hW => ⟨rfl, by rw [hU], by rw [hU]; exact hPc, va_K.moved hW.alike hK, hDc.weaken (fun _ _ _ _ => trivial)⟩⟩ rfl rfl hl.1 rfl (lv_room (Nat.le_of_ble_eq_true rfl)) dX_told_11 ⟨Nat.le_of_ble_eq_true rfl, Nat.le_of_ble_eq_true rfl⟩) hS (fun q _ h => hFc q h) hFc (fun res_ u_ t H1 locs ht hvm hw hB hz1 hk1 hS => ?_)
  obtain ⟨hP1, hK1, hD1⟩ := hB
  rw [ht] at hP1
  obtain ⟨hP, hD⟩ := va_join (wr := [(xx, .inr (4, [.ref so, .ref lo, .ref rg, .ref g, .ref g2, .ref qmi])), (so, .inr (3, [.ref qlk, .ref qln, .ref qhd, .ref qsf, .ref qfp, .ref qfc, .int (nI ly), .int (nI ce), .int da, .int db, .int dr])), (g, .inr (0, [.ref so, .ref lo, .ref qpr, .ref qpa, .int (nI dy), .long co, .long wo])), (qpr, .inl (cJ, 30, .inr (.inl pr))), (qpa, .inl (cJ, 30, .inr (.inl pa)))]) (w1 := []) hP hD [] [0, 1, 2, 3, 4] rfl rfl (by decide) (by decide) hk1 hFc hP1 hD1
  generalize H1 = H at hP hS ⊢
  have hP : va_P (dC, dI) vwCl [(xx, .inr (4, [.ref so, .ref lo, .ref rg, .ref g, .ref g2, .ref qmi])), (so, .inr (3, [.ref qlk, .ref qln, .ref qhd, .ref qsf, .ref qfp, .ref qfc, .int (nI ly), .int (nI ce), .int da, .int db, .int dr])), (g, .inr (0, [.ref so, .ref lo, .ref qpr, .ref qpa, .int (nI dy), .long co, .long wo])), (qpr, .inl (cJ, 30, .inr (.inl pr))), (qpa, .inl (cJ, 30, .inr (.inl pa)))] H := hP
  have hD : va_D A [(xx, .inr (4, [.ref so, .ref lo, .ref rg, .ref g, .ref g2, .ref qmi])), (so, .inr (3, [.ref qlk, .ref qln, .ref qhd, .ref qsf, .ref qfp, .ref qfc, .int (nI ly), .int (nI ce), .int da, .int db, .int dr])), (g, .inr (0, [.ref so, .ref lo, .ref qpr, .ref qpa, .int (nI dy), .long co, .long wo])), (qpr, .inl (cJ, 30, .inr (.inl pr))), (qpa, .inl (cJ, 30, .inr (.inl pa)))] := hD
  clear hPc hDc hFc hP1 hD1 hK1 hk1 hz1 hvm ht
  obtain rfl : kb ((nI 0) ≤ (nI i) ∧ (nI i) ≤ ((nI ce) - (nI 1))) = res_ := hw.symm
  refine lv_if_ne (tgt := 19) hx hb dX_told_14 (by decide) (fun hc14 => ?_) (fun hc14 => ?_)
  · -- 14 taken
    rw [kb_eq0, k_wi, nI_toInt (n := 0) (by omega), nI_toInt (n := i) (by omega), pk_sub_toInt (a := ce) (b := 1) (by omega) (by omega)] at hc14
    refine lv_iload_n hx hb dX_told_19 rfl (lv_at hl 2 rfl) ?_
    by_cases hs20_0 : y = nI 0
    · subst hs20_0
      refine lv_tableIn (off := 28) (tgt := 48) hx hb dX_told_20 (by decide) (by decide) (by decide) (by decide) ?_
      refine lv_aload_n hx hb dX_told_48 rfl (lv_at hl 0 rfl) ?_
      refine va_get (D := (dC, dI)) (ci := 4) (v := .ref g) (C := R_X) (T := T_X) (N := 6) hx hb htw in_X hown hK hP 0 rfl rfl 3 (by decide) (htw _ m_144) (fun _ h9 => h9) rfl dX_told_49 ?_
      refine va_get (D := (dC, dI)) (ci := 0) (v := .ref qpr) (C := R_G) (T := T_G) (N := 7) hx hb htw in_G hown hK hP 2 rfl rfl 2 (by decide) (htw _ m_117) (fun _ h9 => h9) rfl dX_told_52 ?_
      refine lv_iload_n hx hb dX_told_55 rfl (lv_at hl 1 rfl) ?_
      refine xa_lald hx hb hK hP 3 1 rfl rfl (i := i) (by omega) (by decide) dX_told_56 ?_
      refine lv_l2i (v := (pr i).toInt32) hx hb dX_told_57 rfl ?_
      have hP : va_P (dC, dI) vwCl [(xx, .inr (4, [.ref so, .ref lo, .ref rg, .ref g, .ref g2, .ref qmi])), (so, .inr (3, [.ref qlk, .ref qln, .ref qhd, .ref qsf, .ref qfp, .ref qfc, .int (nI ly), .int (nI ce), .int da, .int db, .int dr])), (g, .inr (0, [.ref so, .ref lo, .ref qpr, .ref qpa, .int (nI dy), .long co, .long wo])), (qpr, .inl (cJ, 30, .inr (.inl pr))), (qpa, .inl (cJ, 30, .inr (.inl pa)))] H := by first | exact hP | simpa only [] using hP
      have hD : va_D A [(xx, .inr (4, [.ref so, .ref lo, .ref rg, .ref g, .ref g2, .ref qmi])), (so, .inr (3, [.ref qlk, .ref qln, .ref qhd, .ref qsf, .ref qfp, .ref qfc, .int (nI ly), .int (nI ce), .int da, .int db, .int dr])), (g, .inr (0, [.ref so, .ref lo, .ref qpr, .ref qpa, .int (nI dy), .long co, .long wo])), (qpr, .inl (cJ, 30, .inr (.inl pr))), (qpa, .inl (cJ, 30, .inr (.inl pa)))] := by first | exact hD | simpa only [] using hD
      exact W.iret (v := (pr i).toInt32) hx hb hr (fun t ht hW => ⟨⟨(pr i).toInt32, (), rfl, by unfold k_told; rw [if_pos rfl], by rw [ht]; exact hP, va_K.moved hW.alike hK, hD⟩, hS.F ht⟩) hS.2.2 dX_told_58
    by_cases hs20_1 : y = nI 1
    · subst hs20_1
      refine lv_tableIn (off := 39) (tgt := 59) hx hb dX_told_20 (by decide) (by decide) (by decide) (by decide) ?_
      refine lv_aload_n hx hb dX_told_59 rfl (lv_at hl 0 rfl) ?_
      refine va_get (D := (dC, dI)) (ci := 4) (v := .ref g) (C := R_X) (T := T_X) (N := 6) hx hb htw in_X hown hK hP 0 rfl rfl 3 (by decide) (htw _ m_144) (fun _ h9 => h9) rfl dX_told_60 ?_
      refine lv_iload_n hx hb dX_told_63 rfl (lv_at hl 1 rfl) ?_
      have hPc := hP.sub (ws' := [(g, .inr (0, [.ref so, .ref lo, .ref qpr, .ref qpa, .int (nI dy), .long co, .long wo])), (qpr, .inl (cJ, 30, .inr (.inl pr)))]) [2, 3] rfl
      have hDc := hD.sub (ws' := [(g, .inr (0, [.ref so, .ref lo, .ref qpr, .ref qpa, .int (nI dy), .long co, .long wo])), (qpr, .inl (cJ, 30, .inr (.inl pr)))]) [2, 3] (by decide) rfl
      have hFc := va_free (wc := [(g, .inr (0, [.ref so, .ref lo, .ref qpr, .ref qpa, .int (nI dy), .long co, .long wo])), (qpr, .inl (cJ, 30, .inr (.inl pr)))]) hD hS hA [2, 3] rfl
      refine va_calll (va_runV (As := [.int (nI i)]) (rest := []) ⟨hx, hb, hml, hown, htw⟩ (kG_carried l dC dI cI cJ g so lo qpr qpa H.size i dy co wo pr (by first | assumption | omega | decide)) (cwV 1 htw (wv_good m_255 m_226 m_227 m_5 m_228) rfl rfl rfl (by decide +kernel) ⟨Nat.le_of_ble_eq_true rfl, Nat.le_of_ble_eq_true rfl⟩) ⟨fun a U g mk q => by obtain ⟨q0, q1, qP, qK, qD⟩ := q; exact ⟨q0, q1, qP, va_K.moved (u := U) (U := U.calling g mk a) (Vm.Alike.refl U.vm) qK, qD⟩, va_recv hK hPc (ci := 0) (q0 := 0) rfl rfl, fun U hU hW => ⟨rfl, by rw [hU], by rw [hU]; exact hPc, va_K.moved hW.alike hK, hDc.weaken (fun _ _ _ _ => trivial)⟩⟩ rfl rfl hl.1 rfl (lv_room (Nat.le_of_ble_eq_true rfl)) dX_told_64 ⟨Nat.le_of_ble_eq_true rfl, Nat.le_of_ble_eq_true rfl⟩) hS (fun q _ h => hFc q h) hFc (fun res_ u_ t H1 locs ht hvm hw hB hz1 hk1 hS => ?_)
      obtain ⟨hP1, hK1, hD1⟩ := hB
      rw [ht] at hP1
      obtain ⟨hP, hD⟩ := va_join (wr := [(xx, .inr (4, [.ref so, .ref lo, .ref rg, .ref g, .ref g2, .ref qmi])), (so, .inr (3, [.ref qlk, .ref qln, .ref qhd, .ref qsf, .ref qfp, .ref qfc, .int (nI ly), .int (nI ce), .int da, .int db, .int dr])), (qpa, .inl (cJ, 30, .inr (.inl pa)))]) (w1 := [(g, .inr (0, [.ref so, .ref lo, .ref qpr, .ref qpa, .int (nI dy), .long co, .long wo])), (qpr, .inl (cJ, 30, .inr (.inl pr)))]) hP hD [2, 3] [0, 1, 4] rfl rfl (by decide) (by decide) hk1 hFc hP1 hD1
      generalize H1 = H at hP hS ⊢
      have hP := hP.sub (ws' := [(xx, .inr (4, [.ref so, .ref lo, .ref rg, .ref g, .ref g2, .ref qmi])), (so, .inr (3, [.ref qlk, .ref qln, .ref qhd, .ref qsf, .ref qfp, .ref qfc, .int (nI ly), .int (nI ce), .int da, .int db, .int dr])), (g, .inr (0, [.ref so, .ref lo, .ref qpr, .ref qpa, .int (nI dy), .long co, .long wo])), (qpr, .inl (cJ, 30, .inr (.inl pr))), (qpa, .inl (cJ, 30, .inr (.inl pa)))]) [0, 1, 3, 4, 2] rfl
      have hD := hD.sub (ws' := [(xx, .inr (4, [.ref so, .ref lo, .ref rg, .ref g, .ref g2, .ref qmi])), (so, .inr (3, [.ref qlk, .ref qln, .ref qhd, .ref qsf, .ref qfp, .ref qfc, .int (nI ly), .int (nI ce), .int da, .int db, .int dr])), (g, .inr (0, [.ref so, .ref lo, .ref qpr, .ref qpa, .int (nI dy), .long co, .long wo])), (qpr, .inl (cJ, 30, .inr (.inl pr))), (qpa, .inl (cJ, 30, .inr (.inl pa)))]) [0, 1, 3, 4, 2] (by decide) rfl
      clear hPc hDc hFc hP1 hD1 hK1 hk1 hz1 hvm ht
      obtain rfl : co - pr i = res_ := hw.symm
      refine lv_l2i (v := (co - pr i).toInt32) hx hb dX_told_67 rfl ?_
      have hP : va_P (dC, dI) vwCl [(xx, .inr (4, [.ref so, .ref lo, .ref rg, .ref g, .ref g2, .ref qmi])), (so, .inr (3, [.ref qlk, .ref qln, .ref qhd, .ref qsf, .ref qfp, .ref qfc, .int (nI ly), .int (nI ce), .int da, .int db, .int dr])), (g, .inr (0, [.ref so, .ref lo, .ref qpr, .ref qpa, .int (nI dy), .long co, .long wo])), (qpr, .inl (cJ, 30, .inr (.inl pr))), (qpa, .inl (cJ, 30, .inr (.inl pa)))] H := by first | exact hP | simpa only [] using hP
      have hD : va_D A [(xx, .inr (4, [.ref so, .ref lo, .ref rg, .ref g, .ref g2, .ref qmi])), (so, .inr (3, [.ref qlk, .ref qln, .ref qhd, .ref qsf, .ref qfp, .ref qfc, .int (nI ly), .int (nI ce), .int da, .int db, .int dr])), (g, .inr (0, [.ref so, .ref lo, .ref qpr, .ref qpa, .int (nI dy), .long co, .long wo])), (qpr, .inl (cJ, 30, .inr (.inl pr))), (qpa, .inl (cJ, 30, .inr (.inl pa)))] := by first | exact hD | simpa only [] using hD
      exact W.iret (v := (co - pr i).toInt32) hx hb hr (fun t ht hW => ⟨⟨(co - pr i).toInt32, (), rfl, by unfold k_told; rw [if_neg (by decide), if_pos rfl], by rw [ht]; exact hP, va_K.moved hW.alike hK, hD⟩, hS.F ht⟩) hS.2.2 dX_told_68
    by_cases hs20_2 : y = nI 2
    · subst hs20_2
      refine lv_tableIn (off := 49) (tgt := 69) hx hb dX_told_20 (by decide) (by decide) (by decide) (by decide) ?_
      refine lv_aload_n hx hb dX_told_69 rfl (lv_at hl 0 rfl) ?_
      refine va_get (D := (dC, dI)) (ci := 4) (v := .ref g) (C := R_X) (T := T_X) (N := 6) hx hb htw in_X hown hK hP 0 rfl rfl 3 (by decide) (htw _ m_144) (fun _ h9 => h9) rfl dX_told_70 ?_
      refine va_get (D := (dC, dI)) (ci := 0) (v := .ref qpa) (C := R_G) (T := T_G) (N := 7) hx hb htw in_G hown hK hP 2 rfl rfl 3 (by decide) (htw _ m_119) (fun _ h9 => h9) rfl dX_told_73 ?_
      refine lv_iload_n hx hb dX_told_76 rfl (lv_at hl 1 rfl) ?_
      refine xa_lald hx hb hK hP 4 1 rfl rfl (i := i) (by omega) (by decide) dX_told_77 ?_
      refine lv_l2i (v := (pa i).toInt32) hx hb dX_told_78 rfl ?_
      have hP : va_P (dC, dI) vwCl [(xx, .inr (4, [.ref so, .ref lo, .ref rg, .ref g, .ref g2, .ref qmi])), (so, .inr (3, [.ref qlk, .ref qln, .ref qhd, .ref qsf, .ref qfp, .ref qfc, .int (nI ly), .int (nI ce), .int da, .int db, .int dr])), (g, .inr (0, [.ref so, .ref lo, .ref qpr, .ref qpa, .int (nI dy), .long co, .long wo])), (qpr, .inl (cJ, 30, .inr (.inl pr))), (qpa, .inl (cJ, 30, .inr (.inl pa)))] H := by first | exact hP | simpa only [] using hP
      have hD : va_D A [(xx, .inr (4, [.ref so, .ref lo, .ref rg, .ref g, .ref g2, .ref qmi])), (so, .inr (3, [.ref qlk, .ref qln, .ref qhd, .ref qsf, .ref qfp, .ref qfc, .int (nI ly), .int (nI ce), .int da, .int db, .int dr])), (g, .inr (0, [.ref so, .ref lo, .ref qpr, .ref qpa, .int (nI dy), .long co, .long wo])), (qpr, .inl (cJ, 30, .inr (.inl pr))), (qpa, .inl (cJ, 30, .inr (.inl pa)))] := by first | exact hD | simpa only [] using hD
      exact W.iret (v := (pa i).toInt32) hx hb hr (fun t ht hW => ⟨⟨(pa i).toInt32, (), rfl, by unfold k_told; rw [if_neg (by decide), if_neg (by decide), if_pos rfl], by rw [ht]; exact hP, va_K.moved hW.alike hK, hD⟩, hS.F ht⟩) hS.2.2 dX_told_79
    refine lv_tableOut (tgt := 80) hx hb dX_told_20 (by have a0 := lv_neT hs20_0 (a := 0) (by decide); have a1 := lv_neT hs20_1 (a := 1) (by decide); have a2 := lv_neT hs20_2 (a := 2) (by decide); omega) (by decide) ?_
    refine lv_iconst (v := (-1)) hx hb dX_told_80 (by decide) ?_
    have hP : va_P (dC, dI) vwCl [(xx, .inr (4, [.ref so, .ref lo, .ref rg, .ref g, .ref g2, .ref qmi])), (so, .inr (3, [.ref qlk, .ref qln, .ref qhd, .ref qsf, .ref qfp, .ref qfc, .int (nI ly), .int (nI ce), .int da, .int db, .int dr])), (g, .inr (0, [.ref so, .ref lo, .ref qpr, .ref qpa, .int (nI dy), .long co, .long wo])), (qpr, .inl (cJ, 30, .inr (.inl pr))), (qpa, .inl (cJ, 30, .inr (.inl pa)))] H := by first | exact hP | simpa only [] using hP
    have hD : va_D A [(xx, .inr (4, [.ref so, .ref lo, .ref rg, .ref g, .ref g2, .ref qmi])), (so, .inr (3, [.ref qlk, .ref qln, .ref qhd, .ref qsf, .ref qfp, .ref qfc, .int (nI ly), .int (nI ce), .int da, .int db, .int dr])), (g, .inr (0, [.ref so, .ref lo, .ref qpr, .ref qpa, .int (nI dy), .long co, .long wo])), (qpr, .inl (cJ, 30, .inr (.inl pr))), (qpa, .inl (cJ, 30, .inr (.inl pa)))] := by first | exact hD | simpa only [] using hD
    exact W.iret (v := (-1)) hx hb hr (fun t ht hW => ⟨⟨(-1), (), rfl, by unfold k_told; rw [if_neg hs20_0, if_neg hs20_1, if_neg hs20_2], by rw [ht]; exact hP, va_K.moved hW.alike hK, hD⟩, hS.F ht⟩) hS.2.2 dX_told_81
  · -- 14 not taken
    rw [kb_eq0, k_wi, nI_toInt (n := 0) (by omega), nI_toInt (n := i) (by omega), pk_sub_toInt (a := ce) (b := 1) (by omega) (by omega)] at hc14
    exfalso; omega
set_option maxHeartbeats 4000000 in
set_option maxRecDepth 100000 in
theorem kX_told_bad (l : Launch) (dC : Nat → ClassId) (dI : Nat → Nat → Nat) (cI cJ : ClassId) (xx so lo rg g g2 qmi qlk qln qhd qsf qfp qfc qpr qpa : Nat) (sz : Nat) (x : Int32) (y : Int32) (ly : Nat) (ce : Nat) (da : Int32) (db : Int32) (dr : Int32) (dy : Nat) (co : Int64) (wo : Int64) (pr : Nat → Int64) (pa : Nat → Int64) (hce : ce ≤ 30) (hbad : ¬ (0 ≤ x.toInt ∧ x.toInt < ce)) : Met l yX_told wX_told ({ frames := 1, cells := 0, slots := 0, locals := 22 }) (va_Pc [.ref xx, .int x, .int y] (fun U => U.heap.size = sz ∧ va_P (dC, dI) vwCl [(xx, .inr (4, [.ref so, .ref lo, .ref rg, .ref g, .ref g2, .ref qmi])), (so, .inr (3, [.ref qlk, .ref qln, .ref qhd, .ref qsf, .ref qfp, .ref qfc, .int (nI ly), .int (nI ce), .int da, .int db, .int dr])), (g, .inr (0, [.ref so, .ref lo, .ref qpr, .ref qpa, .int (nI dy), .long co, .long wo])), (qpr, .inl (cJ, 30, .inr (.inl pr))), (qpa, .inl (cJ, 30, .inr (.inl pa)))] U.heap ∧ va_K (dC, dI) vwCl [(cI, .int), (cJ, .long)] U ∧ va_D (fun _ => True) [(xx, .inr (4, [.ref so, .ref lo, .ref rg, .ref g, .ref g2, .ref qmi])), (so, .inr (3, [.ref qlk, .ref qln, .ref qhd, .ref qsf, .ref qfp, .ref qfc, .int (nI ly), .int (nI ce), .int da, .int db, .int dr])), (g, .inr (0, [.ref so, .ref lo, .ref qpr, .ref qpa, .int (nI dy), .long co, .long wo])), (qpr, .inl (cJ, 30, .inr (.inl pr))), (qpa, .inl (cJ, 30, .inr (.inl pa)))])) (va_Qi (fun res_ (_ : Unit) => res_ = (-1)) (fun _ t => va_P (dC, dI) vwCl [(xx, .inr (4, [.ref so, .ref lo, .ref rg, .ref g, .ref g2, .ref qmi])), (so, .inr (3, [.ref qlk, .ref qln, .ref qhd, .ref qsf, .ref qfp, .ref qfc, .int (nI ly), .int (nI ce), .int da, .int db, .int dr])), (g, .inr (0, [.ref so, .ref lo, .ref qpr, .ref qpa, .int (nI dy), .long co, .long wo])), (qpr, .inl (cJ, 30, .inr (.inl pr))), (qpa, .inl (cJ, 30, .inr (.inl pa)))] t.heap ∧ va_K (dC, dI) vwCl [(cI, .int), (cJ, .long)] t ∧ va_D (va_A [(xx, .inr (4, [.ref so, .ref lo, .ref rg, .ref g, .ref g2, .ref qmi])), (so, .inr (3, [.ref qlk, .ref qln, .ref qhd, .ref qsf, .ref qfp, .ref qfc, .int (nI ly), .int (nI ce), .int da, .int db, .int dr])), (g, .inr (0, [.ref so, .ref lo, .ref qpr, .ref qpa, .int (nI dy), .long co, .long wo])), (qpr, .inl (cJ, 30, .inr (.inl pr))), (qpa, .inl (cJ, 30, .inr (.inl pa)))] sz) [(xx, .inr (4, [.ref so, .ref lo, .ref rg, .ref g, .ref g2, .ref qmi])), (so, .inr (3, [.ref qlk, .ref qln, .ref qhd, .ref qsf, .ref qfp, .ref qfc, .int (nI ly), .int (nI ce), .int da, .int db, .int dr])), (g, .inr (0, [.ref so, .ref lo, .ref qpr, .ref qpa, .int (nI dy), .long co, .long wo])), (qpr, .inl (cJ, 30, .inr (.inl pr))), (qpa, .inl (cJ, 30, .inr (.inl pa)))]) (va_A [(xx, .inr (4, [.ref so, .ref lo, .ref rg, .ref g, .ref g2, .ref qmi])), (so, .inr (3, [.ref qlk, .ref qln, .ref qhd, .ref qsf, .ref qfp, .ref qfc, .int (nI ly), .int (nI ce), .int da, .int db, .int dr])), (g, .inr (0, [.ref so, .ref lo, .ref qpr, .ref qpa, .int (nI dy), .long co, .long wo])), (qpr, .inl (cJ, 30, .inr (.inl pr))), (qpa, .inl (cJ, 30, .inr (.inl pa)))] sz)) 0 0 (va_A [(xx, .inr (4, [.ref so, .ref lo, .ref rg, .ref g, .ref g2, .ref qmi])), (so, .inr (3, [.ref qlk, .ref qln, .ref qhd, .ref qsf, .ref qfp, .ref qfc, .int (nI ly), .int (nI ce), .int da, .int db, .int dr])), (g, .inr (0, [.ref so, .ref lo, .ref qpr, .ref qpa, .int (nI dy), .long co, .long wo])), (qpr, .inl (cJ, 30, .inr (.inl pr))), (qpa, .inl (cJ, 30, .inr (.inl pa)))] sz) := by
  refine Met.ofW (cc := bX_told) (maxL := 3) (ret := (some .int)) (by decide) rfl ?_
  intro p e s m args below meth c s₁ B hml hv
  obtain ⟨rfl, hsz, hP, hK, hD0⟩ := hv
  have hx := B.exec
  have hb := B.bytes
  have hr := B.returns
  have hts := atoms_spec (ws := wX_told) B.pre
  have hown : s.vm.findClass R_X = some m.cls := findClass_of_methodNamed B.named
  have htw : ∀ w ∈ WA, w.before _ s = true := fun w h => hts w (List.mem_cons_of_mem _ h)
  clear hts
  have hlocks := B.notSynchronized
  subst hsz
  have hD := hD0.self (sz := s.heap.size)
  generalize hAe : va_A [(xx, .inr (4, [.ref so, .ref lo, .ref rg, .ref g, .ref g2, .ref qmi])), (so, .inr (3, [.ref qlk, .ref qln, .ref qhd, .ref qsf, .ref qfp, .ref qfc, .int (nI ly), .int (nI ce), .int da, .int db, .int dr])), (g, .inr (0, [.ref so, .ref lo, .ref qpr, .ref qpa, .int (nI dy), .long co, .long wo])), (qpr, .inl (cJ, 30, .inr (.inl pr))), (qpa, .inl (cJ, 30, .inr (.inl pa)))] s.heap.size = A at hD ⊢
  have hA : ∀ q : Nat, s.heap.size ≤ q → A q := fun q h => by rw [← hAe]; exact Or.inr h
  clear hAe hD0
  have hS : va_S A s.heap s.heap [] := va_S.rf
  have hP : va_P (dC, dI) vwCl [(xx, .inr (4, [.ref so, .ref lo, .ref rg, .ref g, .ref g2, .ref qmi])), (so, .inr (3, [.ref qlk, .ref qln, .ref qhd, .ref qsf, .ref qfp, .ref qfc, .int (nI ly), .int (nI ce), .int da, .int db, .int dr])), (g, .inr (0, [.ref so, .ref lo, .ref qpr, .ref qpa, .int (nI dy), .long co, .long wo])), (qpr, .inl (cJ, 30, .inr (.inl pr))), (qpa, .inl (cJ, 30, .inr (.inl pa)))] s.heap := hP
  have hl := lv_entry ([.ref xx, .int x, .int y]) (n := 3) (Nat.le_of_ble_eq_true rfl)
  rw [lg_entry_eq]
  generalize (lg_sl ([.ref xx, .int x, .int y]) ++ List.replicate (3 - (lg_sl ([.ref xx, .int x, .int y])).length) Slot.unset).toArray = ls at hl ⊢
  have hl : lv_has ls 3 [(0, .ref xx), (1, .int x), (2, .int y)] := hl
  refine lv_iload_n hx hb dX_told_0 rfl (lv_at hl 1 rfl) ?_
  refine lv_iconst (v := nI 0) hx hb dX_told_1 (by decide) ?_
  refine lv_aload_n hx hb dX_told_2 rfl (lv_at hl 0 rfl) ?_
  refine va_get (D := (dC, dI)) (ci := 4) (v := .ref so) (C := R_X) (T := T_X) (N := 6) hx hb htw in_X hown hK hP 0 rfl rfl 0 (by decide) (htw _ m_141) (fun _ h9 => h9) rfl dX_told_3 ?_
  refine va_get (D := (dC, dI)) (ci := 3) (v := .int (nI ce)) (C := R_S) (T := T_S) (N := 11) hx hb htw in_S hown hK hP 1 rfl rfl 7 (by decide) (htw _ m_34) (fun _ h9 => h9) rfl dX_told_6 ?_
  refine lv_iconst (v := nI 1) hx hb dX_told_9 (by decide) ?_
  refine lv_isub hx hb dX_told_10 ?_
  have hPc := hP.sub (ws' := []) [] rfl
  have hDc := hD.sub (ws' := []) [] (by decide) rfl
  have hFc := va_free (wc := []) hD hS hA [] rfl
  refine va_calli (va_runS (As := [.int x, .int (nI 0), .int ((nI ce) - (nI 1))]) (rest := []) ⟨hx, hb, hml, hown, htw⟩ (kX_within l dC dI cI cJ s.heap.size x (nI 0) ((nI ce) - (nI 1))) (va_cwS 3 htw (ws_good m_164 m_165 m_1 m_166) rfl rfl rfl (by decide +kernel) ⟨Nat.le_of_ble_eq_true rfl, Nat.le_of_ble_eq_true rfl⟩) ⟨fun a U g mk q => by obtain ⟨q0, q1, qP, qK, qD⟩ := q; exact ⟨q0, q1, qP, va_K.moved (u := U) (U := U.calling g mk a) (Vm.Alike.refl U.vm) qK, qD⟩, fun U hU hW => ⟨rfl, by rw [hU], by rw [hU]; exact hPc, va_K.moved hW.alike hK, hDc.weaken (fun _ _ _ _ => trivial)⟩⟩ rfl rfl hl.1 rfl (lv_room (Nat.le_of_ble_eq_true rfl)) dX_told_11 ⟨Nat.le_of_ble_eq_true rfl, Nat.le_of_ble_eq_true rfl⟩) hS (fun q _ h => hFc q h) hFc (fun res_ u_ t H1 locs ht hvm hw hB hz1 hk1 hS => ?_)
  obtain ⟨hP1, hK1, hD1⟩ := hB
  rw [ht] at hP1
  obtain ⟨hP, hD⟩ := va_join (wr := [(xx, .inr (4, [.ref so, .ref lo, .ref rg, .ref g, .ref g2, .ref qmi])), (so, .inr (3, [.ref qlk, .ref qln, .ref qhd, .ref qsf, .ref qfp, .ref qfc, .int (nI ly), .int (nI ce), .int da, .int db, .int dr])), (g, .inr (0, [.ref so, .ref lo, .ref qpr, .ref qpa, .int (nI dy), .long co, .long wo])), (qpr, .inl (cJ, 30, .inr (.inl pr))), (qpa, .inl (cJ, 30, .inr (.inl pa)))]) (w1 := []) hP hD [] [0, 1, 2, 3, 4] rfl rfl (by decide) (by decide) hk1 hFc hP1 hD1
  generalize H1 = H at hP hS ⊢
  have hP : va_P (dC, dI) vwCl [(xx, .inr (4, [.ref so, .ref lo, .ref rg, .ref g, .ref g2, .ref qmi])), (so, .inr (3, [.ref qlk, .ref qln, .ref qhd, .ref qsf, .ref qfp, .ref qfc, .int (nI ly), .int (nI ce), .int da, .int db, .int dr])), (g, .inr (0, [.ref so, .ref lo, .ref qpr, .ref qpa, .int (nI dy), .long co, .long wo])), (qpr, .inl (cJ, 30, .inr (.inl pr))), (qpa, .inl (cJ, 30, .inr (.inl pa)))] H := hP
  have hD : va_D A [(xx, .inr (4, [.ref so, .ref lo, .ref rg, .ref g, .ref g2, .ref qmi])), (so, .inr (3, [.ref qlk, .ref qln, .ref qhd, .ref qsf, .ref qfp, .ref qfc, .int (nI ly), .int (nI ce), .int da, .int db, .int dr])), (g, .inr (0, [.ref so, .ref lo, .ref qpr, .ref qpa, .int (nI dy), .long co, .long wo])), (qpr, .inl (cJ, 30, .inr (.inl pr))), (qpa, .inl (cJ, 30, .inr (.inl pa)))] := hD
  clear hPc hDc hFc hP1 hD1 hK1 hk1 hz1 hvm ht
  obtain rfl : kb ((nI 0) ≤ x ∧ x ≤ ((nI ce) - (nI 1))) = res_ := hw.symm
  refine lv_if_ne (tgt := 19) hx hb dX_told_14 (by decide) (fun hc14 => ?_) (fun hc14 => ?_)
  · -- 14 taken
    rw [kb_eq0, k_wi, nI_toInt (n := 0) (by omega), pk_sub_toInt (a := ce) (b := 1) (by omega) (by omega)] at hc14
    exfalso; omega
  · -- 14 not taken
    rw [kb_eq0, k_wi, nI_toInt (n := 0) (by omega), pk_sub_toInt (a := ce) (b := 1) (by omega) (by omega)] at hc14
    refine lv_iconst (v := (-1)) hx hb dX_told_17 (by decide) ?_
    have hP : va_P (dC, dI) vwCl [(xx, .inr (4, [.ref so, .ref lo, .ref rg, .ref g, .ref g2, .ref qmi])), (so, .inr (3, [.ref qlk, .ref qln, .ref qhd, .ref qsf, .ref qfp, .ref qfc, .int (nI ly), .int (nI ce), .int da, .int db, .int dr])), (g, .inr (0, [.ref so, .ref lo, .ref qpr, .ref qpa, .int (nI dy), .long co, .long wo])), (qpr, .inl (cJ, 30, .inr (.inl pr))), (qpa, .inl (cJ, 30, .inr (.inl pa)))] H := by first | exact hP | simpa only [] using hP
    have hD : va_D A [(xx, .inr (4, [.ref so, .ref lo, .ref rg, .ref g, .ref g2, .ref qmi])), (so, .inr (3, [.ref qlk, .ref qln, .ref qhd, .ref qsf, .ref qfp, .ref qfc, .int (nI ly), .int (nI ce), .int da, .int db, .int dr])), (g, .inr (0, [.ref so, .ref lo, .ref qpr, .ref qpa, .int (nI dy), .long co, .long wo])), (qpr, .inl (cJ, 30, .inr (.inl pr))), (qpa, .inl (cJ, 30, .inr (.inl pa)))] := by first | exact hD | simpa only [] using hD
    exact W.iret (v := (-1)) hx hb hr (fun t ht hW => ⟨⟨(-1), (), rfl, rfl, by rw [ht]; exact hP, va_K.moved hW.alike hK, hD⟩, hS.F ht⟩) hS.2.2 dX_told_18
set_option maxHeartbeats 4000000 in
set_option maxRecDepth 100000 in
theorem kX_count (l : Launch) (dC : Nat → ClassId) (dI : Nat → Nat → Nat) (cI cJ : ClassId) (xx so lo rg g g2 qmi qlk qln qhd qsf qfp qfc qld qlz qpr qpa qrd qrv : Nat) (sz : Nat) (x : Int32) (ly : Nat) (ce : Nat) (da : Int32) (db : Int32) (dr : Int32) (mn : Nat) (sm : Int64) (dy : Nat) (co : Int64) (wo : Int64) (rn : Nat) : Met l yX_count wX_count ({ frames := 0, cells := 0, slots := 0, locals := 0 }) (va_Pc [.ref xx, .int x] (fun U => U.heap.size = sz ∧ va_P (dC, dI) vwCl [(xx, .inr (4, [.ref so, .ref lo, .ref rg, .ref g, .ref g2, .ref qmi])), (so, .inr (3, [.ref qlk, .ref qln, .ref qhd, .ref qsf, .ref qfp, .ref qfc, .int (nI ly), .int (nI ce), .int da, .int db, .int dr])), (lo, .inr (1, [.ref qld, .ref qlz, .int (nI mn), .long sm])), (g, .inr (0, [.ref so, .ref lo, .ref qpr, .ref qpa, .int (nI dy), .long co, .long wo])), (rg, .inr (2, [.ref qrd, .ref qrv, .int (nI rn)]))] U.heap ∧ va_K (dC, dI) vwCl [(cI, .int), (cJ, .long)] U ∧ va_D (fun _ => True) [(xx, .inr (4, [.ref so, .ref lo, .ref rg, .ref g, .ref g2, .ref qmi])), (so, .inr (3, [.ref qlk, .ref qln, .ref qhd, .ref qsf, .ref qfp, .ref qfc, .int (nI ly), .int (nI ce), .int da, .int db, .int dr])), (lo, .inr (1, [.ref qld, .ref qlz, .int (nI mn), .long sm])), (g, .inr (0, [.ref so, .ref lo, .ref qpr, .ref qpa, .int (nI dy), .long co, .long wo])), (rg, .inr (2, [.ref qrd, .ref qrv, .int (nI rn)]))])) (va_Qi (fun res_ (_ : Unit) => res_ = k_count ly ce mn dy rn co x) (fun _ t => va_P (dC, dI) vwCl [(xx, .inr (4, [.ref so, .ref lo, .ref rg, .ref g, .ref g2, .ref qmi])), (so, .inr (3, [.ref qlk, .ref qln, .ref qhd, .ref qsf, .ref qfp, .ref qfc, .int (nI ly), .int (nI ce), .int da, .int db, .int dr])), (lo, .inr (1, [.ref qld, .ref qlz, .int (nI mn), .long sm])), (g, .inr (0, [.ref so, .ref lo, .ref qpr, .ref qpa, .int (nI dy), .long co, .long wo])), (rg, .inr (2, [.ref qrd, .ref qrv, .int (nI rn)]))] t.heap ∧ va_K (dC, dI) vwCl [(cI, .int), (cJ, .long)] t ∧ va_D (va_A [(xx, .inr (4, [.ref so, .ref lo, .ref rg, .ref g, .ref g2, .ref qmi])), (so, .inr (3, [.ref qlk, .ref qln, .ref qhd, .ref qsf, .ref qfp, .ref qfc, .int (nI ly), .int (nI ce), .int da, .int db, .int dr])), (lo, .inr (1, [.ref qld, .ref qlz, .int (nI mn), .long sm])), (g, .inr (0, [.ref so, .ref lo, .ref qpr, .ref qpa, .int (nI dy), .long co, .long wo])), (rg, .inr (2, [.ref qrd, .ref qrv, .int (nI rn)]))] sz) [(xx, .inr (4, [.ref so, .ref lo, .ref rg, .ref g, .ref g2, .ref qmi])), (so, .inr (3, [.ref qlk, .ref qln, .ref qhd, .ref qsf, .ref qfp, .ref qfc, .int (nI ly), .int (nI ce), .int da, .int db, .int dr])), (lo, .inr (1, [.ref qld, .ref qlz, .int (nI mn), .long sm])), (g, .inr (0, [.ref so, .ref lo, .ref qpr, .ref qpa, .int (nI dy), .long co, .long wo])), (rg, .inr (2, [.ref qrd, .ref qrv, .int (nI rn)]))]) (va_A [(xx, .inr (4, [.ref so, .ref lo, .ref rg, .ref g, .ref g2, .ref qmi])), (so, .inr (3, [.ref qlk, .ref qln, .ref qhd, .ref qsf, .ref qfp, .ref qfc, .int (nI ly), .int (nI ce), .int da, .int db, .int dr])), (lo, .inr (1, [.ref qld, .ref qlz, .int (nI mn), .long sm])), (g, .inr (0, [.ref so, .ref lo, .ref qpr, .ref qpa, .int (nI dy), .long co, .long wo])), (rg, .inr (2, [.ref qrd, .ref qrv, .int (nI rn)]))] sz)) 0 0 (va_A [(xx, .inr (4, [.ref so, .ref lo, .ref rg, .ref g, .ref g2, .ref qmi])), (so, .inr (3, [.ref qlk, .ref qln, .ref qhd, .ref qsf, .ref qfp, .ref qfc, .int (nI ly), .int (nI ce), .int da, .int db, .int dr])), (lo, .inr (1, [.ref qld, .ref qlz, .int (nI mn), .long sm])), (g, .inr (0, [.ref so, .ref lo, .ref qpr, .ref qpa, .int (nI dy), .long co, .long wo])), (rg, .inr (2, [.ref qrd, .ref qrv, .int (nI rn)]))] sz) := by
  refine Met.ofW (cc := bX_count) (maxL := 2) (ret := (some .int)) (by decide) rfl ?_
  intro p e s m args below meth c s₁ B hml hv
  obtain ⟨rfl, hsz, hP, hK, hD0⟩ := hv
  have hx := B.exec
  have hb := B.bytes
  have hr := B.returns
  have hts := atoms_spec (ws := wX_count) B.pre
  have hown : s.vm.findClass R_X = some m.cls := findClass_of_methodNamed B.named
  have htw : ∀ w ∈ WA, w.before _ s = true := fun w h => hts w (List.mem_cons_of_mem _ h)
  clear hts
  have hlocks := B.notSynchronized
  subst hsz
  have hD := hD0.self (sz := s.heap.size)
  generalize hAe : va_A [(xx, .inr (4, [.ref so, .ref lo, .ref rg, .ref g, .ref g2, .ref qmi])), (so, .inr (3, [.ref qlk, .ref qln, .ref qhd, .ref qsf, .ref qfp, .ref qfc, .int (nI ly), .int (nI ce), .int da, .int db, .int dr])), (lo, .inr (1, [.ref qld, .ref qlz, .int (nI mn), .long sm])), (g, .inr (0, [.ref so, .ref lo, .ref qpr, .ref qpa, .int (nI dy), .long co, .long wo])), (rg, .inr (2, [.ref qrd, .ref qrv, .int (nI rn)]))] s.heap.size = A at hD ⊢
  have hA : ∀ q : Nat, s.heap.size ≤ q → A q := fun q h => by rw [← hAe]; exact Or.inr h
  clear hAe hD0
  have hS : va_S A s.heap s.heap [] := va_S.rf
  have hP : va_P (dC, dI) vwCl [(xx, .inr (4, [.ref so, .ref lo, .ref rg, .ref g, .ref g2, .ref qmi])), (so, .inr (3, [.ref qlk, .ref qln, .ref qhd, .ref qsf, .ref qfp, .ref qfc, .int (nI ly), .int (nI ce), .int da, .int db, .int dr])), (lo, .inr (1, [.ref qld, .ref qlz, .int (nI mn), .long sm])), (g, .inr (0, [.ref so, .ref lo, .ref qpr, .ref qpa, .int (nI dy), .long co, .long wo])), (rg, .inr (2, [.ref qrd, .ref qrv, .int (nI rn)]))] s.heap := hP
  have hl := lv_entry ([.ref xx, .int x]) (n := 2) (Nat.le_of_ble_eq_true rfl)
  rw [lg_entry_eq]
  generalize (lg_sl ([.ref xx, .int x]) ++ List.replicate (2 - (lg_sl ([.ref xx, .int x])).length) Slot.unset).toArray = ls at hl ⊢
  have hl : lv_has ls 2 [(0, .ref xx), (1, .int x)] := hl
  refine lv_iload_n hx hb dX_count_0 rfl (lv_at hl 1 rfl) ?_
  by_cases hs1_0 : x = nI 0
  · subst hs1_0
    refine lv_tableIn (off := 39) (tgt := 40) hx hb dX_count_1 (by decide) (by decide) (by decide) (by decide) ?_
    refine lv_aload_n hx hb dX_count_40 rfl (lv_at hl 0 rfl) ?_
    refine va_get (D := (dC, dI)) (ci := 4) (v := .ref so) (C := R_X) (T := T_X) (N := 6) hx hb htw in_X hown hK hP 0 rfl rfl 0 (by decide) (htw _ m_141) (fun _ h9 => h9) rfl dX_count_41 ?_
    refine va_get (D := (dC, dI)) (ci := 3) (v := .int (nI ly)) (C := R_S) (T := T_S) (N := 11) hx hb htw in_S hown hK hP 1 rfl rfl 6 (by decide) (htw _ m_32) (fun _ h9 => h9) rfl dX_count_44 ?_
    have hP : va_P (dC, dI) vwCl [(xx, .inr (4, [.ref so, .ref lo, .ref rg, .ref g, .ref g2, .ref qmi])), (so, .inr (3, [.ref qlk, .ref qln, .ref qhd, .ref qsf, .ref qfp, .ref qfc, .int (nI ly), .int (nI ce), .int da, .int db, .int dr])), (lo, .inr (1, [.ref qld, .ref qlz, .int (nI mn), .long sm])), (g, .inr (0, [.ref so, .ref lo, .ref qpr, .ref qpa, .int (nI dy), .long co, .long wo])), (rg, .inr (2, [.ref qrd, .ref qrv, .int (nI rn)]))] s.heap := by first | exact hP | simpa only [] using hP
    have hD : va_D A [(xx, .inr (4, [.ref so, .ref lo, .ref rg, .ref g, .ref g2, .ref qmi])), (so, .inr (3, [.ref qlk, .ref qln, .ref qhd, .ref qsf, .ref qfp, .ref qfc, .int (nI ly), .int (nI ce), .int da, .int db, .int dr])), (lo, .inr (1, [.ref qld, .ref qlz, .int (nI mn), .long sm])), (g, .inr (0, [.ref so, .ref lo, .ref qpr, .ref qpa, .int (nI dy), .long co, .long wo])), (rg, .inr (2, [.ref qrd, .ref qrv, .int (nI rn)]))] := by first | exact hD | simpa only [] using hD
    exact W.iret (v := nI ly) hx hb hr (fun t ht hW => ⟨⟨nI ly, (), rfl, by unfold k_count; rw [if_pos rfl], by rw [ht]; exact hP, va_K.moved hW.alike hK, hD⟩, hS.F ht⟩) hS.2.2 dX_count_47
  by_cases hs1_1 : x = nI 1
  · subst hs1_1
    refine lv_tableIn (off := 47) (tgt := 48) hx hb dX_count_1 (by decide) (by decide) (by decide) (by decide) ?_
    refine lv_aload_n hx hb dX_count_48 rfl (lv_at hl 0 rfl) ?_
    refine va_get (D := (dC, dI)) (ci := 4) (v := .ref so) (C := R_X) (T := T_X) (N := 6) hx hb htw in_X hown hK hP 0 rfl rfl 0 (by decide) (htw _ m_141) (fun _ h9 => h9) rfl dX_count_49 ?_
    refine va_get (D := (dC, dI)) (ci := 3) (v := .int (nI ce)) (C := R_S) (T := T_S) (N := 11) hx hb htw in_S hown hK hP 1 rfl rfl 7 (by decide) (htw _ m_34) (fun _ h9 => h9) rfl dX_count_52 ?_
    have hP : va_P (dC, dI) vwCl [(xx, .inr (4, [.ref so, .ref lo, .ref rg, .ref g, .ref g2, .ref qmi])), (so, .inr (3, [.ref qlk, .ref qln, .ref qhd, .ref qsf, .ref qfp, .ref qfc, .int (nI ly), .int (nI ce), .int da, .int db, .int dr])), (lo, .inr (1, [.ref qld, .ref qlz, .int (nI mn), .long sm])), (g, .inr (0, [.ref so, .ref lo, .ref qpr, .ref qpa, .int (nI dy), .long co, .long wo])), (rg, .inr (2, [.ref qrd, .ref qrv, .int (nI rn)]))] s.heap := by first | exact hP | simpa only [] using hP
    have hD : va_D A [(xx, .inr (4, [.ref so, .ref lo, .ref rg, .ref g, .ref g2, .ref qmi])), (so, .inr (3, [.ref qlk, .ref qln, .ref qhd, .ref qsf, .ref qfp, .ref qfc, .int (nI ly), .int (nI ce), .int da, .int db, .int dr])), (lo, .inr (1, [.ref qld, .ref qlz, .int (nI mn), .long sm])), (g, .inr (0, [.ref so, .ref lo, .ref qpr, .ref qpa, .int (nI dy), .long co, .long wo])), (rg, .inr (2, [.ref qrd, .ref qrv, .int (nI rn)]))] := by first | exact hD | simpa only [] using hD
    exact W.iret (v := nI ce) hx hb hr (fun t ht hW => ⟨⟨nI ce, (), rfl, by unfold k_count; rw [if_neg (by decide), if_pos rfl], by rw [ht]; exact hP, va_K.moved hW.alike hK, hD⟩, hS.F ht⟩) hS.2.2 dX_count_55
  by_cases hs1_2 : x = nI 2
  · subst hs1_2
    refine lv_tableIn (off := 55) (tgt := 56) hx hb dX_count_1 (by decide) (by decide) (by decide) (by decide) ?_
    refine lv_aload_n hx hb dX_count_56 rfl (lv_at hl 0 rfl) ?_
    refine va_get (D := (dC, dI)) (ci := 4) (v := .ref lo) (C := R_X) (T := T_X) (N := 6) hx hb htw in_X hown hK hP 0 rfl rfl 1 (by decide) (htw _ m_142) (fun _ h9 => h9) rfl dX_count_57 ?_
    refine va_get (D := (dC, dI)) (ci := 1) (v := .int (nI mn)) (C := R_O) (T := T_O) (N := 4) hx hb htw in_O hown hK hP 2 rfl rfl 2 (by decide) (htw _ m_76) (fun _ h9 => h9) rfl dX_count_60 ?_
    have hP : va_P (dC, dI) vwCl [(xx, .inr (4, [.ref so, .ref lo, .ref rg, .ref g, .ref g2, .ref qmi])), (so, .inr (3, [.ref qlk, .ref qln, .ref qhd, .ref qsf, .ref qfp, .ref qfc, .int (nI ly), .int (nI ce), .int da, .int db, .int dr])), (lo, .inr (1, [.ref qld, .ref qlz, .int (nI mn), .long sm])), (g, .inr (0, [.ref so, .ref lo, .ref qpr, .ref qpa, .int (nI dy), .long co, .long wo])), (rg, .inr (2, [.ref qrd, .ref qrv, .int (nI rn)]))] s.heap := by first | exact hP | simpa only [] using hP
    have hD : va_D A [(xx, .inr (4, [.ref so, .ref lo, .ref rg, .ref g, .ref g2, .ref qmi])), (so, .inr (3, [.ref qlk, .ref qln, .ref qhd, .ref qsf, .ref qfp, .ref qfc, .int (nI ly), .int (nI ce), .int da, .int db, .int dr])), (lo, .inr (1, [.ref qld, .ref qlz, .int (nI mn), .long sm])), (g, .inr (0, [.ref so, .ref lo, .ref qpr, .ref qpa, .int (nI dy), .long co, .long wo])), (rg, .inr (2, [.ref qrd, .ref qrv, .int (nI rn)]))] := by first | exact hD | simpa only [] using hD
    exact W.iret (v := nI mn) hx hb hr (fun t ht hW => ⟨⟨nI mn, (), rfl, by unfold k_count; rw [if_neg (by decide), if_neg (by decide), if_pos rfl], by rw [ht]; exact hP, va_K.moved hW.alike hK, hD⟩, hS.F ht⟩) hS.2.2 dX_count_63
  by_cases hs1_3 : x = nI 3
  · subst hs1_3
    refine lv_tableIn (off := 63) (tgt := 64) hx hb dX_count_1 (by decide) (by decide) (by decide) (by decide) ?_
    refine lv_aload_n hx hb dX_count_64 rfl (lv_at hl 0 rfl) ?_
    refine va_get (D := (dC, dI)) (ci := 4) (v := .ref g) (C := R_X) (T := T_X) (N := 6) hx hb htw in_X hown hK hP 0 rfl rfl 3 (by decide) (htw _ m_144) (fun _ h9 => h9) rfl dX_count_65 ?_
    refine va_get (D := (dC, dI)) (ci := 0) (v := .int (nI dy)) (C := R_G) (T := T_G) (N := 7) hx hb htw in_G hown hK hP 3 rfl rfl 4 (by decide) (htw _ m_120) (fun _ h9 => h9) rfl dX_count_68 ?_
    have hP : va_P (dC, dI) vwCl [(xx, .inr (4, [.ref so, .ref lo, .ref rg, .ref g, .ref g2, .ref qmi])), (so, .inr (3, [.ref qlk, .ref qln, .ref qhd, .ref qsf, .ref qfp, .ref qfc, .int (nI ly), .int (nI ce), .int da, .int db, .int dr])), (lo, .inr (1, [.ref qld, .ref qlz, .int (nI mn), .long sm])), (g, .inr (0, [.ref so, .ref lo, .ref qpr, .ref qpa, .int (nI dy), .long co, .long wo])), (rg, .inr (2, [.ref qrd, .ref qrv, .int (nI rn)]))] s.heap := by first | exact hP | simpa only [] using hP
    have hD : va_D A [(xx, .inr (4, [.ref so, .ref lo, .ref rg, .ref g, .ref g2, .ref qmi])), (so, .inr (3, [.ref qlk, .ref qln, .ref qhd, .ref qsf, .ref qfp, .ref qfc, .int (nI ly), .int (nI ce), .int da, .int db, .int dr])), (lo, .inr (1, [.ref qld, .ref qlz, .int (nI mn), .long sm])), (g, .inr (0, [.ref so, .ref lo, .ref qpr, .ref qpa, .int (nI dy), .long co, .long wo])), (rg, .inr (2, [.ref qrd, .ref qrv, .int (nI rn)]))] := by first | exact hD | simpa only [] using hD
    exact W.iret (v := nI dy) hx hb hr (fun t ht hW => ⟨⟨nI dy, (), rfl, by unfold k_count; rw [if_neg (by decide), if_neg (by decide), if_neg (by decide), if_pos rfl], by rw [ht]; exact hP, va_K.moved hW.alike hK, hD⟩, hS.F ht⟩) hS.2.2 dX_count_71
  by_cases hs1_4 : x = nI 4
  · subst hs1_4
    refine lv_tableIn (off := 71) (tgt := 72) hx hb dX_count_1 (by decide) (by decide) (by decide) (by decide) ?_
    refine lv_aload_n hx hb dX_count_72 rfl (lv_at hl 0 rfl) ?_
    refine va_get (D := (dC, dI)) (ci := 4) (v := .ref rg) (C := R_X) (T := T_X) (N := 6) hx hb htw in_X hown hK hP 0 rfl rfl 2 (by decide) (htw _ m_143) (fun _ h9 => h9) rfl dX_count_73 ?_
    refine va_get (D := (dC, dI)) (ci := 2) (v := .int (nI rn)) (C := R_D) (T := T_D) (N := 3) hx hb htw in_D hown hK hP 4 rfl rfl 2 (by decide) (htw _ m_99) (fun _ h9 => h9) rfl dX_count_76 ?_
    have hP : va_P (dC, dI) vwCl [(xx, .inr (4, [.ref so, .ref lo, .ref rg, .ref g, .ref g2, .ref qmi])), (so, .inr (3, [.ref qlk, .ref qln, .ref qhd, .ref qsf, .ref qfp, .ref qfc, .int (nI ly), .int (nI ce), .int da, .int db, .int dr])), (lo, .inr (1, [.ref qld, .ref qlz, .int (nI mn), .long sm])), (g, .inr (0, [.ref so, .ref lo, .ref qpr, .ref qpa, .int (nI dy), .long co, .long wo])), (rg, .inr (2, [.ref qrd, .ref qrv, .int (nI rn)]))] s.heap := by first | exact hP | simpa only [] using hP
    have hD : va_D A [(xx, .inr (4, [.ref so, .ref lo, .ref rg, .ref g, .ref g2, .ref qmi])), (so, .inr (3, [.ref qlk, .ref qln, .ref qhd, .ref qsf, .ref qfp, .ref qfc, .int (nI ly), .int (nI ce), .int da, .int db, .int dr])), (lo, .inr (1, [.ref qld, .ref qlz, .int (nI mn), .long sm])), (g, .inr (0, [.ref so, .ref lo, .ref qpr, .ref qpa, .int (nI dy), .long co, .long wo])), (rg, .inr (2, [.ref qrd, .ref qrv, .int (nI rn)]))] := by first | exact hD | simpa only [] using hD
    exact W.iret (v := nI rn) hx hb hr (fun t ht hW => ⟨⟨nI rn, (), rfl, by unfold k_count; rw [if_neg (by decide), if_neg (by decide), if_neg (by decide), if_neg (by decide), if_pos rfl], by rw [ht]; exact hP, va_K.moved hW.alike hK, hD⟩, hS.F ht⟩) hS.2.2 dX_count_79
  by_cases hs1_5 : x = nI 5
  · subst hs1_5
    refine lv_tableIn (off := 79) (tgt := 80) hx hb dX_count_1 (by decide) (by decide) (by decide) (by decide) ?_
    refine lv_aload_n hx hb dX_count_80 rfl (lv_at hl 0 rfl) ?_
    refine va_get (D := (dC, dI)) (ci := 4) (v := .ref g) (C := R_X) (T := T_X) (N := 6) hx hb htw in_X hown hK hP 0 rfl rfl 3 (by decide) (htw _ m_144) (fun _ h9 => h9) rfl dX_count_81 ?_
    refine va_get (D := (dC, dI)) (ci := 0) (v := .long co) (C := R_G) (T := T_G) (N := 7) hx hb htw in_G hown hK hP 3 rfl rfl 5 (by decide) (htw _ m_123) (fun _ h9 => h9) rfl dX_count_84 ?_
    refine lv_l2i (v := co.toInt32) hx hb dX_count_87 rfl ?_
    have hP : va_P (dC, dI) vwCl [(xx, .inr (4, [.ref so, .ref lo, .ref rg, .ref g, .ref g2, .ref qmi])), (so, .inr (3, [.ref qlk, .ref qln, .ref qhd, .ref qsf, .ref qfp, .ref qfc, .int (nI ly), .int (nI ce), .int da, .int db, .int dr])), (lo, .inr (1, [.ref qld, .ref qlz, .int (nI mn), .long sm])), (g, .inr (0, [.ref so, .ref lo, .ref qpr, .ref qpa, .int (nI dy), .long co, .long wo])), (rg, .inr (2, [.ref qrd, .ref qrv, .int (nI rn)]))] s.heap := by first | exact hP | simpa only [] using hP
    have hD : va_D A [(xx, .inr (4, [.ref so, .ref lo, .ref rg, .ref g, .ref g2, .ref qmi])), (so, .inr (3, [.ref qlk, .ref qln, .ref qhd, .ref qsf, .ref qfp, .ref qfc, .int (nI ly), .int (nI ce), .int da, .int db, .int dr])), (lo, .inr (1, [.ref qld, .ref qlz, .int (nI mn), .long sm])), (g, .inr (0, [.ref so, .ref lo, .ref qpr, .ref qpa, .int (nI dy), .long co, .long wo])), (rg, .inr (2, [.ref qrd, .ref qrv, .int (nI rn)]))] := by first | exact hD | simpa only [] using hD
    exact W.iret (v := co.toInt32) hx hb hr (fun t ht hW => ⟨⟨co.toInt32, (), rfl, by unfold k_count; rw [if_neg (by decide), if_neg (by decide), if_neg (by decide), if_neg (by decide), if_neg (by decide), if_pos rfl], by rw [ht]; exact hP, va_K.moved hW.alike hK, hD⟩, hS.F ht⟩) hS.2.2 dX_count_88
  refine lv_tableOut (tgt := 89) hx hb dX_count_1 (by have a0 := lv_neT hs1_0 (a := 0) (by decide); have a1 := lv_neT hs1_1 (a := 1) (by decide); have a2 := lv_neT hs1_2 (a := 2) (by decide); have a3 := lv_neT hs1_3 (a := 3) (by decide); have a4 := lv_neT hs1_4 (a := 4) (by decide); have a5 := lv_neT hs1_5 (a := 5) (by decide); omega) (by decide) ?_
  refine lv_iconst (v := (-1)) hx hb dX_count_89 (by decide) ?_
  have hP : va_P (dC, dI) vwCl [(xx, .inr (4, [.ref so, .ref lo, .ref rg, .ref g, .ref g2, .ref qmi])), (so, .inr (3, [.ref qlk, .ref qln, .ref qhd, .ref qsf, .ref qfp, .ref qfc, .int (nI ly), .int (nI ce), .int da, .int db, .int dr])), (lo, .inr (1, [.ref qld, .ref qlz, .int (nI mn), .long sm])), (g, .inr (0, [.ref so, .ref lo, .ref qpr, .ref qpa, .int (nI dy), .long co, .long wo])), (rg, .inr (2, [.ref qrd, .ref qrv, .int (nI rn)]))] s.heap := by first | exact hP | simpa only [] using hP
  have hD : va_D A [(xx, .inr (4, [.ref so, .ref lo, .ref rg, .ref g, .ref g2, .ref qmi])), (so, .inr (3, [.ref qlk, .ref qln, .ref qhd, .ref qsf, .ref qfp, .ref qfc, .int (nI ly), .int (nI ce), .int da, .int db, .int dr])), (lo, .inr (1, [.ref qld, .ref qlz, .int (nI mn), .long sm])), (g, .inr (0, [.ref so, .ref lo, .ref qpr, .ref qpa, .int (nI dy), .long co, .long wo])), (rg, .inr (2, [.ref qrd, .ref qrv, .int (nI rn)]))] := by first | exact hD | simpa only [] using hD
  exact W.iret (v := (-1)) hx hb hr (fun t ht hW => ⟨⟨(-1), (), rfl, by unfold k_count; rw [if_neg hs1_0, if_neg hs1_1, if_neg hs1_2, if_neg hs1_3, if_neg hs1_4, if_neg hs1_5], by rw [ht]; exact hP, va_K.moved hW.alike hK, hD⟩, hS.F ht⟩) hS.2.2 dX_count_90
set_option maxHeartbeats 4000000 in
set_option maxRecDepth 100000 in
theorem kX_foretold (l : Launch) (dC : Nat → ClassId) (dI : Nat → Nat → Nat) (cI cJ : ClassId) (xx so lo rg g g2 qmi qrd qrv : Nat) (sz : Nat) (x : Int32) (rn : Nat) (rd : Nat → Int32) (rv : Nat → Int64) (hrn : rn ≤ 20) : Met l yX_foretold wX_foretold ({ frames := 2, cells := 0, slots := 0, locals := 51 }) (va_Pc [.ref xx, .int x] (fun U => U.heap.size = sz ∧ va_P (dC, dI) vwCl [(xx, .inr (4, [.ref so, .ref lo, .ref rg, .ref g, .ref g2, .ref qmi])), (rg, .inr (2, [.ref qrd, .ref qrv, .int (nI rn)])), (qrd, .inl (cI, 20, .inl rd)), (qrv, .inl (cJ, 20, .inr (.inl rv)))] U.heap ∧ va_K (dC, dI) vwCl [(cI, .int), (cJ, .long)] U ∧ va_D (fun _ => True) [(xx, .inr (4, [.ref so, .ref lo, .ref rg, .ref g, .ref g2, .ref qmi])), (rg, .inr (2, [.ref qrd, .ref qrv, .int (nI rn)])), (qrd, .inl (cI, 20, .inl rd)), (qrv, .inl (cJ, 20, .inr (.inl rv)))])) (va_Ql (fun res_ (_ : Unit) => res_ = k_foretold rd rv rn x) (fun _ t => va_P (dC, dI) vwCl [(xx, .inr (4, [.ref so, .ref lo, .ref rg, .ref g, .ref g2, .ref qmi])), (rg, .inr (2, [.ref qrd, .ref qrv, .int (nI rn)])), (qrd, .inl (cI, 20, .inl rd)), (qrv, .inl (cJ, 20, .inr (.inl rv)))] t.heap ∧ va_K (dC, dI) vwCl [(cI, .int), (cJ, .long)] t ∧ va_D (va_A [(xx, .inr (4, [.ref so, .ref lo, .ref rg, .ref g, .ref g2, .ref qmi])), (rg, .inr (2, [.ref qrd, .ref qrv, .int (nI rn)])), (qrd, .inl (cI, 20, .inl rd)), (qrv, .inl (cJ, 20, .inr (.inl rv)))] sz) [(xx, .inr (4, [.ref so, .ref lo, .ref rg, .ref g, .ref g2, .ref qmi])), (rg, .inr (2, [.ref qrd, .ref qrv, .int (nI rn)])), (qrd, .inl (cI, 20, .inl rd)), (qrv, .inl (cJ, 20, .inr (.inl rv)))]) (va_A [(xx, .inr (4, [.ref so, .ref lo, .ref rg, .ref g, .ref g2, .ref qmi])), (rg, .inr (2, [.ref qrd, .ref qrv, .int (nI rn)])), (qrd, .inl (cI, 20, .inl rd)), (qrv, .inl (cJ, 20, .inr (.inl rv)))] sz)) 0 0 (va_A [(xx, .inr (4, [.ref so, .ref lo, .ref rg, .ref g, .ref g2, .ref qmi])), (rg, .inr (2, [.ref qrd, .ref qrv, .int (nI rn)])), (qrd, .inl (cI, 20, .inl rd)), (qrv, .inl (cJ, 20, .inr (.inl rv)))] sz) := by
  refine Met.ofW (cc := bX_foretold) (maxL := 2) (ret := (some .long)) (by decide) rfl ?_
  intro p e s m args below meth c s₁ B hml hv
  obtain ⟨rfl, hsz, hP, hK, hD0⟩ := hv
  have hx := B.exec
  have hb := B.bytes
  have hr := B.returns
  have hts := atoms_spec (ws := wX_foretold) B.pre
  have hown : s.vm.findClass R_X = some m.cls := findClass_of_methodNamed B.named
  have htw : ∀ w ∈ WA, w.before _ s = true := fun w h => hts w (List.mem_cons_of_mem _ h)
  clear hts
  have hlocks := B.notSynchronized
  subst hsz
  have hD := hD0.self (sz := s.heap.size)
  generalize hAe : va_A [(xx, .inr (4, [.ref so, .ref lo, .ref rg, .ref g, .ref g2, .ref qmi])), (rg, .inr (2, [.ref qrd, .ref qrv, .int (nI rn)])), (qrd, .inl (cI, 20, .inl rd)), (qrv, .inl (cJ, 20, .inr (.inl rv)))] s.heap.size = A at hD ⊢
  have hA : ∀ q : Nat, s.heap.size ≤ q → A q := fun q h => by rw [← hAe]; exact Or.inr h
  clear hAe hD0
  have hS : va_S A s.heap s.heap [] := va_S.rf
  have hP : va_P (dC, dI) vwCl [(xx, .inr (4, [.ref so, .ref lo, .ref rg, .ref g, .ref g2, .ref qmi])), (rg, .inr (2, [.ref qrd, .ref qrv, .int (nI rn)])), (qrd, .inl (cI, 20, .inl rd)), (qrv, .inl (cJ, 20, .inr (.inl rv)))] s.heap := hP
  have hl := lv_entry ([.ref xx, .int x]) (n := 2) (Nat.le_of_ble_eq_true rfl)
  rw [lg_entry_eq]
  generalize (lg_sl ([.ref xx, .int x]) ++ List.replicate (2 - (lg_sl ([.ref xx, .int x])).length) Slot.unset).toArray = ls at hl ⊢
  have hl : lv_has ls 2 [(0, .ref xx), (1, .int x)] := hl
  refine lv_iload_n hx hb dX_foretold_0 rfl (lv_at hl 1 rfl) ?_
  by_cases hs1_0 : x = nI 0
  · subst hs1_0
    refine lv_tableIn (off := 27) (tgt := 28) hx hb dX_foretold_1 (by decide) (by decide) (by decide) (by decide) ?_
    refine lv_aload_n hx hb dX_foretold_28 rfl (lv_at hl 0 rfl) ?_
    refine va_get (D := (dC, dI)) (ci := 4) (v := .ref rg) (C := R_X) (T := T_X) (N := 6) hx hb htw in_X hown hK hP 0 rfl rfl 2 (by decide) (htw _ m_143) (fun _ h9 => h9) rfl dX_foretold_29 ?_
    have hPc := hP.sub (ws' := [(rg, .inr (2, [.ref qrd, .ref qrv, .int (nI rn)])), (qrv, .inl (cJ, 20, .inr (.inl rv)))]) [1, 3] rfl
    have hDc := hD.sub (ws' := [(rg, .inr (2, [.ref qrd, .ref qrv, .int (nI rn)])), (qrv, .inl (cJ, 20, .inr (.inl rv)))]) [1, 3] (by decide) rfl
    have hFc := va_free (wc := [(rg, .inr (2, [.ref qrd, .ref qrv, .int (nI rn)])), (qrv, .inl (cJ, 20, .inr (.inl rv)))]) hD hS hA [1, 3] rfl
    refine va_calll (va_runV (As := []) (rest := []) ⟨hx, hb, hml, hown, htw⟩ (kD_foretellByLastThree l dC dI cI cJ rg qrd qrv s.heap.size rn rv (by first | assumption | omega | decide)) (cwV 0 htw (wv_good m_318 m_319 m_320 m_4 m_321) rfl rfl rfl (by decide +kernel) ⟨Nat.le_of_ble_eq_true rfl, Nat.le_of_ble_eq_true rfl⟩) ⟨fun a U g mk q => by obtain ⟨q0, q1, qP, qK, qD⟩ := q; exact ⟨q0, q1, qP, va_K.moved (u := U) (U := U.calling g mk a) (Vm.Alike.refl U.vm) qK, qD⟩, va_recv hK hPc (ci := 2) (q0 := 0) rfl rfl, fun U hU hW => ⟨rfl, by rw [hU], by rw [hU]; exact hPc, va_K.moved hW.alike hK, hDc.weaken (fun _ _ _ _ => trivial)⟩⟩ rfl rfl hl.1 rfl (lv_room (Nat.le_of_ble_eq_true rfl)) dX_foretold_32 ⟨Nat.le_of_ble_eq_true rfl, Nat.le_of_ble_eq_true rfl⟩) hS (fun q _ h => hFc q h) hFc (fun res_ u_ t H1 locs ht hvm hw hB hz1 hk1 hS => ?_)
    obtain ⟨hP1, hK1, hD1⟩ := hB
    rw [ht] at hP1
    obtain ⟨hP, hD⟩ := va_join (wr := [(xx, .inr (4, [.ref so, .ref lo, .ref rg, .ref g, .ref g2, .ref qmi])), (qrd, .inl (cI, 20, .inl rd))]) (w1 := [(rg, .inr (2, [.ref qrd, .ref qrv, .int (nI rn)])), (qrv, .inl (cJ, 20, .inr (.inl rv)))]) hP hD [1, 3] [0, 2] rfl rfl (by decide) (by decide) hk1 hFc hP1 hD1
    generalize H1 = H at hP hS ⊢
    have hP := hP.sub (ws' := [(xx, .inr (4, [.ref so, .ref lo, .ref rg, .ref g, .ref g2, .ref qmi])), (rg, .inr (2, [.ref qrd, .ref qrv, .int (nI rn)])), (qrd, .inl (cI, 20, .inl rd)), (qrv, .inl (cJ, 20, .inr (.inl rv)))]) [0, 2, 1, 3] rfl
    have hD := hD.sub (ws' := [(xx, .inr (4, [.ref so, .ref lo, .ref rg, .ref g, .ref g2, .ref qmi])), (rg, .inr (2, [.ref qrd, .ref qrv, .int (nI rn)])), (qrd, .inl (cI, 20, .inl rd)), (qrv, .inl (cJ, 20, .inr (.inl rv)))]) [0, 2, 1, 3] (by decide) rfl
    clear hPc hDc hFc hP1 hD1 hK1 hk1 hz1 hvm ht
    obtain rfl : k_f0 rv rn = res_ := hw.symm
    have hP : va_P (dC, dI) vwCl [(xx, .inr (4, [.ref so, .ref lo, .ref rg, .ref g, .ref g2, .ref qmi])), (rg, .inr (2, [.ref qrd, .ref qrv, .int (nI rn)])), (qrd, .inl (cI, 20, .inl rd)), (qrv, .inl (cJ, 20, .inr (.inl rv)))] H := by first | exact hP | simpa only [] using hP
    have hD : va_D A [(xx, .inr (4, [.ref so, .ref lo, .ref rg, .ref g, .ref g2, .ref qmi])), (rg, .inr (2, [.ref qrd, .ref qrv, .int (nI rn)])), (qrd, .inl (cI, 20, .inl rd)), (qrv, .inl (cJ, 20, .inr (.inl rv)))] := by first | exact hD | simpa only [] using hD
    exact W.lret (v := k_f0 rv rn) hx hb hr (fun t ht hW => ⟨⟨k_f0 rv rn, (), rfl, by unfold k_foretold; rw [if_pos rfl], by rw [ht]; exact hP, va_K.moved hW.alike hK, hD⟩, hS.F ht⟩) hS.2.2 dX_foretold_35
  by_cases hs1_1 : x = nI 1
  · subst hs1_1
    refine lv_tableIn (off := 35) (tgt := 36) hx hb dX_foretold_1 (by decide) (by decide) (by decide) (by decide) ?_
    refine lv_aload_n hx hb dX_foretold_36 rfl (lv_at hl 0 rfl) ?_
    refine va_get (D := (dC, dI)) (ci := 4) (v := .ref rg) (C := R_X) (T := T_X) (N := 6) hx hb htw in_X hown hK hP 0 rfl rfl 2 (by decide) (htw _ m_143) (fun _ h9 => h9) rfl dX_foretold_37 ?_
    have hPc := hP.sub (ws' := [(rg, .inr (2, [.ref qrd, .ref qrv, .int (nI rn)])), (qrd, .inl (cI, 20, .inl rd)), (qrv, .inl (cJ, 20, .inr (.inl rv)))]) [1, 2, 3] rfl
    have hDc := hD.sub (ws' := [(rg, .inr (2, [.ref qrd, .ref qrv, .int (nI rn)])), (qrd, .inl (cI, 20, .inl rd)), (qrv, .inl (cJ, 20, .inr (.inl rv)))]) [1, 2, 3] (by decide) rfl
    have hFc := va_free (wc := [(rg, .inr (2, [.ref qrd, .ref qrv, .int (nI rn)])), (qrd, .inl (cI, 20, .inl rd)), (qrv, .inl (cJ, 20, .inr (.inl rv)))]) hD hS hA [1, 2, 3] rfl
    refine va_calll (va_runV (As := []) (rest := []) ⟨hx, hb, hml, hown, htw⟩ (kD_foretellByLastTwo l dC dI cI cJ rg qrd qrv s.heap.size rn rd rv (by first | assumption | omega | decide)) (cwV 0 htw (wv_good m_331 m_332 m_333 m_4 m_334) rfl rfl rfl (by decide +kernel) ⟨Nat.le_of_ble_eq_true rfl, Nat.le_of_ble_eq_true rfl⟩) ⟨fun a U g mk q => by obtain ⟨q0, q1, qP, qK, qD⟩ := q; exact ⟨q0, q1, qP, va_K.moved (u := U) (U := U.calling g mk a) (Vm.Alike.refl U.vm) qK, qD⟩, va_recv hK hPc (ci := 2) (q0 := 0) rfl rfl, fun U hU hW => ⟨rfl, by rw [hU], by rw [hU]; exact hPc, va_K.moved hW.alike hK, hDc.weaken (fun _ _ _ _ => trivial)⟩⟩ rfl rfl hl.1 rfl (lv_room (Nat.le_of_ble_eq_true rfl)) dX_foretold_40 ⟨Nat.le_of_ble_eq_true rfl, Nat.le_of_ble_eq_true rfl⟩) hS (fun q _ h => hFc q h) hFc (fun res_ u_ t H1 locs ht hvm hw hB hz1 hk1 hS => ?_)
    obtain ⟨hP1, hK1, hD1⟩ := hB
    rw [ht] at hP1
    obtain ⟨hP, hD⟩ := va_join (wr := [(xx, .inr (4, [.ref so, .ref lo, .ref rg, .ref g, .ref g2, .ref qmi]))]) (w1 := [(rg, .inr (2, [.ref qrd, .ref qrv, .int (nI rn)])), (qrd, .inl (cI, 20, .inl rd)), (qrv, .inl (cJ, 20, .inr (.inl rv)))]) hP hD [1, 2, 3] [0] rfl rfl (by decide) (by decide) hk1 hFc hP1 hD1
    generalize H1 = H at hP hS ⊢
    have hP : va_P (dC, dI) vwCl [(xx, .inr (4, [.ref so, .ref lo, .ref rg, .ref g, .ref g2, .ref qmi])), (rg, .inr (2, [.ref qrd, .ref qrv, .int (nI rn)])), (qrd, .inl (cI, 20, .inl rd)), (qrv, .inl (cJ, 20, .inr (.inl rv)))] H := hP
    have hD : va_D A [(xx, .inr (4, [.ref so, .ref lo, .ref rg, .ref g, .ref g2, .ref qmi])), (rg, .inr (2, [.ref qrd, .ref qrv, .int (nI rn)])), (qrd, .inl (cI, 20, .inl rd)), (qrv, .inl (cJ, 20, .inr (.inl rv)))] := hD
    clear hPc hDc hFc hP1 hD1 hK1 hk1 hz1 hvm ht
    obtain rfl : k_f1 rd rv rn = res_ := hw.symm
    have hP : va_P (dC, dI) vwCl [(xx, .inr (4, [.ref so, .ref lo, .ref rg, .ref g, .ref g2, .ref qmi])), (rg, .inr (2, [.ref qrd, .ref qrv, .int (nI rn)])), (qrd, .inl (cI, 20, .inl rd)), (qrv, .inl (cJ, 20, .inr (.inl rv)))] H := by first | exact hP | simpa only [] using hP
    have hD : va_D A [(xx, .inr (4, [.ref so, .ref lo, .ref rg, .ref g, .ref g2, .ref qmi])), (rg, .inr (2, [.ref qrd, .ref qrv, .int (nI rn)])), (qrd, .inl (cI, 20, .inl rd)), (qrv, .inl (cJ, 20, .inr (.inl rv)))] := by first | exact hD | simpa only [] using hD
    exact W.lret (v := k_f1 rd rv rn) hx hb hr (fun t ht hW => ⟨⟨k_f1 rd rv rn, (), rfl, by unfold k_foretold; rw [if_neg (by decide), if_pos rfl], by rw [ht]; exact hP, va_K.moved hW.alike hK, hD⟩, hS.F ht⟩) hS.2.2 dX_foretold_43
  by_cases hs1_2 : x = nI 2
  · subst hs1_2
    refine lv_tableIn (off := 43) (tgt := 44) hx hb dX_foretold_1 (by decide) (by decide) (by decide) (by decide) ?_
    refine lv_aload_n hx hb dX_foretold_44 rfl (lv_at hl 0 rfl) ?_
    refine va_get (D := (dC, dI)) (ci := 4) (v := .ref rg) (C := R_X) (T := T_X) (N := 6) hx hb htw in_X hown hK hP 0 rfl rfl 2 (by decide) (htw _ m_143) (fun _ h9 => h9) rfl dX_foretold_45 ?_
    have hPc := hP.sub (ws' := [(rg, .inr (2, [.ref qrd, .ref qrv, .int (nI rn)])), (qrd, .inl (cI, 20, .inl rd)), (qrv, .inl (cJ, 20, .inr (.inl rv)))]) [1, 2, 3] rfl
    have hDc := hD.sub (ws' := [(rg, .inr (2, [.ref qrd, .ref qrv, .int (nI rn)])), (qrd, .inl (cI, 20, .inl rd)), (qrv, .inl (cJ, 20, .inr (.inl rv)))]) [1, 2, 3] (by decide) rfl
    have hFc := va_free (wc := [(rg, .inr (2, [.ref qrd, .ref qrv, .int (nI rn)])), (qrd, .inl (cI, 20, .inl rd)), (qrv, .inl (cJ, 20, .inr (.inl rv)))]) hD hS hA [1, 2, 3] rfl
    refine va_calll (va_runV (As := []) (rest := []) ⟨hx, hb, hml, hown, htw⟩ (kD_foretellByFirstAndLast l dC dI cI cJ rg qrd qrv s.heap.size rn rd rv (by first | assumption | omega | decide)) (cwV 0 htw (wv_good m_335 m_336 m_337 m_4 m_338) rfl rfl rfl (by decide +kernel) ⟨Nat.le_of_ble_eq_true rfl, Nat.le_of_ble_eq_true rfl⟩) ⟨fun a U g mk q => by obtain ⟨q0, q1, qP, qK, qD⟩ := q; exact ⟨q0, q1, qP, va_K.moved (u := U) (U := U.calling g mk a) (Vm.Alike.refl U.vm) qK, qD⟩, va_recv hK hPc (ci := 2) (q0 := 0) rfl rfl, fun U hU hW => ⟨rfl, by rw [hU], by rw [hU]; exact hPc, va_K.moved hW.alike hK, hDc.weaken (fun _ _ _ _ => trivial)⟩⟩ rfl rfl hl.1 rfl (lv_room (Nat.le_of_ble_eq_true rfl)) dX_foretold_48 ⟨Nat.le_of_ble_eq_true rfl, Nat.le_of_ble_eq_true rfl⟩) hS (fun q _ h => hFc q h) hFc (fun res_ u_ t H1 locs ht hvm hw hB hz1 hk1 hS => ?_)
    obtain ⟨hP1, hK1, hD1⟩ := hB
    rw [ht] at hP1
    obtain ⟨hP, hD⟩ := va_join (wr := [(xx, .inr (4, [.ref so, .ref lo, .ref rg, .ref g, .ref g2, .ref qmi]))]) (w1 := [(rg, .inr (2, [.ref qrd, .ref qrv, .int (nI rn)])), (qrd, .inl (cI, 20, .inl rd)), (qrv, .inl (cJ, 20, .inr (.inl rv)))]) hP hD [1, 2, 3] [0] rfl rfl (by decide) (by decide) hk1 hFc hP1 hD1
    generalize H1 = H at hP hS ⊢
    have hP : va_P (dC, dI) vwCl [(xx, .inr (4, [.ref so, .ref lo, .ref rg, .ref g, .ref g2, .ref qmi])), (rg, .inr (2, [.ref qrd, .ref qrv, .int (nI rn)])), (qrd, .inl (cI, 20, .inl rd)), (qrv, .inl (cJ, 20, .inr (.inl rv)))] H := hP
    have hD : va_D A [(xx, .inr (4, [.ref so, .ref lo, .ref rg, .ref g, .ref g2, .ref qmi])), (rg, .inr (2, [.ref qrd, .ref qrv, .int (nI rn)])), (qrd, .inl (cI, 20, .inl rd)), (qrv, .inl (cJ, 20, .inr (.inl rv)))] := hD
    clear hPc hDc hFc hP1 hD1 hK1 hk1 hz1 hvm ht
    obtain rfl : k_f2 rd rv rn = res_ := hw.symm
    have hP : va_P (dC, dI) vwCl [(xx, .inr (4, [.ref so, .ref lo, .ref rg, .ref g, .ref g2, .ref qmi])), (rg, .inr (2, [.ref qrd, .ref qrv, .int (nI rn)])), (qrd, .inl (cI, 20, .inl rd)), (qrv, .inl (cJ, 20, .inr (.inl rv)))] H := by first | exact hP | simpa only [] using hP
    have hD : va_D A [(xx, .inr (4, [.ref so, .ref lo, .ref rg, .ref g, .ref g2, .ref qmi])), (rg, .inr (2, [.ref qrd, .ref qrv, .int (nI rn)])), (qrd, .inl (cI, 20, .inl rd)), (qrv, .inl (cJ, 20, .inr (.inl rv)))] := by first | exact hD | simpa only [] using hD
    exact W.lret (v := k_f2 rd rv rn) hx hb hr (fun t ht hW => ⟨⟨k_f2 rd rv rn, (), rfl, by unfold k_foretold; rw [if_neg (by decide), if_neg (by decide), if_pos rfl], by rw [ht]; exact hP, va_K.moved hW.alike hK, hD⟩, hS.F ht⟩) hS.2.2 dX_foretold_51
  refine lv_tableOut (tgt := 52) hx hb dX_foretold_1 (by have a0 := lv_neT hs1_0 (a := 0) (by decide); have a1 := lv_neT hs1_1 (a := 1) (by decide); have a2 := lv_neT hs1_2 (a := 2) (by decide); omega) (by decide) ?_
  refine lv_ldc2 (v := (-1)) hx hb hown (htw _ m_249) dX_foretold_52 ?_
  have hP : va_P (dC, dI) vwCl [(xx, .inr (4, [.ref so, .ref lo, .ref rg, .ref g, .ref g2, .ref qmi])), (rg, .inr (2, [.ref qrd, .ref qrv, .int (nI rn)])), (qrd, .inl (cI, 20, .inl rd)), (qrv, .inl (cJ, 20, .inr (.inl rv)))] s.heap := by first | exact hP | simpa only [] using hP
  have hD : va_D A [(xx, .inr (4, [.ref so, .ref lo, .ref rg, .ref g, .ref g2, .ref qmi])), (rg, .inr (2, [.ref qrd, .ref qrv, .int (nI rn)])), (qrd, .inl (cI, 20, .inl rd)), (qrv, .inl (cJ, 20, .inr (.inl rv)))] := by first | exact hD | simpa only [] using hD
  exact W.lret (v := (-1)) hx hb hr (fun t ht hW => ⟨⟨(-1), (), rfl, by unfold k_foretold; rw [if_neg hs1_0, if_neg hs1_1, if_neg hs1_2], by rw [ht]; exact hP, va_K.moved hW.alike hK, hD⟩, hS.F ht⟩) hS.2.2 dX_foretold_55
set_option maxHeartbeats 4000000 in
set_option maxRecDepth 100000 in
theorem kX_read_ok (l : Launch) (dC : Nat → ClassId) (dI : Nat → Nat → Nat) (cI cJ : ClassId) (xx so lo rg g g2 qmi qrd qrv : Nat) (sz : Nat) (x : Int32) (v : Int64) (rn : Nat) (rd : Nat → Int32) (rv : Nat → Int64) (hrn : rn ≤ 20) (hok : ((k_ff rd rn).toInt ≤ x.toInt ∧ x.toInt ≤ 400 ∧ 0 ≤ v.toInt ∧ v.toInt ≤ 1000000000000 ∧ rn < 20)) : Met l yX_read wX_read ({ frames := 1, cells := 0, slots := 0, locals := 23 }) (va_Pc [.ref xx, .int x, .long v] (fun U => U.heap.size = sz ∧ va_P (dC, dI) vwCl [(xx, .inr (4, [.ref so, .ref lo, .ref rg, .ref g, .ref g2, .ref qmi])), (rg, .inr (2, [.ref qrd, .ref qrv, .int (nI rn)])), (qrd, .inl (cI, 20, .inl rd)), (qrv, .inl (cJ, 20, .inr (.inl rv)))] U.heap ∧ va_K (dC, dI) vwCl [(cI, .int), (cJ, .long)] U ∧ va_D (fun _ => True) [(xx, .inr (4, [.ref so, .ref lo, .ref rg, .ref g, .ref g2, .ref qmi])), (rg, .inr (2, [.ref qrd, .ref qrv, .int (nI rn)])), (qrd, .inl (cI, 20, .inl rd)), (qrv, .inl (cJ, 20, .inr (.inl rv)))])) (va_Qi (fun res_ (_ : Unit) => res_ = nI (rn + 1)) (fun _ t => va_P (dC, dI) vwCl [(xx, .inr (4, [.ref so, .ref lo, .ref rg, .ref g, .ref g2, .ref qmi])), (rg, .inr (2, [.ref qrd, .ref qrv, .int (nI (rn + 1))])), (qrd, .inl (cI, 20, .inl (upd rd rn x))), (qrv, .inl (cJ, 20, .inr (.inl (vp_updL rv rn v))))] t.heap ∧ va_K (dC, dI) vwCl [(cI, .int), (cJ, .long)] t ∧ va_D (va_A [(xx, .inr (4, [.ref so, .ref lo, .ref rg, .ref g, .ref g2, .ref qmi])), (rg, .inr (2, [.ref qrd, .ref qrv, .int (nI rn)])), (qrd, .inl (cI, 20, .inl rd)), (qrv, .inl (cJ, 20, .inr (.inl rv)))] sz) [(xx, .inr (4, [.ref so, .ref lo, .ref rg, .ref g, .ref g2, .ref qmi])), (rg, .inr (2, [.ref qrd, .ref qrv, .int (nI (rn + 1))])), (qrd, .inl (cI, 20, .inl (upd rd rn x))), (qrv, .inl (cJ, 20, .inr (.inl (vp_updL rv rn v))))]) (va_A [(xx, .inr (4, [.ref so, .ref lo, .ref rg, .ref g, .ref g2, .ref qmi])), (rg, .inr (2, [.ref qrd, .ref qrv, .int (nI rn)])), (qrd, .inl (cI, 20, .inl rd)), (qrv, .inl (cJ, 20, .inr (.inl rv)))] sz)) 0 0 (va_A [(xx, .inr (4, [.ref so, .ref lo, .ref rg, .ref g, .ref g2, .ref qmi])), (rg, .inr (2, [.ref qrd, .ref qrv, .int (nI rn)])), (qrd, .inl (cI, 20, .inl rd)), (qrv, .inl (cJ, 20, .inr (.inl rv)))] sz) := by
  refine Met.ofW (cc := bX_read) (maxL := 4) (ret := (some .int)) (by decide) rfl ?_
  intro p e s m args below meth c s₁ B hml hv
  obtain ⟨rfl, hsz, hP, hK, hD0⟩ := hv
  have hx := B.exec
  have hb := B.bytes
  have hr := B.returns
  have hts := atoms_spec (ws := wX_read) B.pre
  have hown : s.vm.findClass R_X = some m.cls := findClass_of_methodNamed B.named
  have htw : ∀ w ∈ WA, w.before _ s = true := fun w h => hts w (List.mem_cons_of_mem _ h)
  clear hts
  have hlocks := B.notSynchronized
  subst hsz
  have hD := hD0.self (sz := s.heap.size)
  generalize hAe : va_A [(xx, .inr (4, [.ref so, .ref lo, .ref rg, .ref g, .ref g2, .ref qmi])), (rg, .inr (2, [.ref qrd, .ref qrv, .int (nI rn)])), (qrd, .inl (cI, 20, .inl rd)), (qrv, .inl (cJ, 20, .inr (.inl rv)))] s.heap.size = A at hD ⊢
  have hA : ∀ q : Nat, s.heap.size ≤ q → A q := fun q h => by rw [← hAe]; exact Or.inr h
  clear hAe hD0
  have hS : va_S A s.heap s.heap [] := va_S.rf
  have hP : va_P (dC, dI) vwCl [(xx, .inr (4, [.ref so, .ref lo, .ref rg, .ref g, .ref g2, .ref qmi])), (rg, .inr (2, [.ref qrd, .ref qrv, .int (nI rn)])), (qrd, .inl (cI, 20, .inl rd)), (qrv, .inl (cJ, 20, .inr (.inl rv)))] s.heap := hP
  have hl := lv_entry ([.ref xx, .int x, .long v]) (n := 4) (Nat.le_of_ble_eq_true rfl)
  rw [lg_entry_eq]
  generalize (lg_sl ([.ref xx, .int x, .long v]) ++ List.replicate (4 - (lg_sl ([.ref xx, .int x, .long v])).length) Slot.unset).toArray = ls at hl ⊢
  have hl : lv_has ls 4 [(0, .ref xx), (1, .int x), (2, .long v)] := hl
  refine lv_iload_n hx hb dX_read_0 rfl (lv_at hl 1 rfl) ?_
  refine lv_aload_n hx hb dX_read_1 rfl (lv_at hl 0 rfl) ?_
  refine va_get (D := (dC, dI)) (ci := 4) (v := .ref rg) (C := R_X) (T := T_X) (N := 6) hx hb htw in_X hown hK hP 0 rfl rfl 2 (by decide) (htw _ m_143) (fun _ h9 => h9) rfl dX_read_2 ?_
  have hPc := hP.sub (ws' := [(rg, .inr (2, [.ref qrd, .ref qrv, .int (nI rn)])), (qrd, .inl (cI, 20, .inl rd))]) [1, 2] rfl
  have hDc := hD.sub (ws' := [(rg, .inr (2, [.ref qrd, .ref qrv, .int (nI rn)])), (qrd, .inl (cI, 20, .inl rd))]) [1, 2] (by decide) rfl
  have hFc := va_free (wc := [(rg, .inr (2, [.ref qrd, .ref qrv, .int (nI rn)])), (qrd, .inl (cI, 20, .inl rd))]) hD hS hA [1, 2] rfl
  refine va_calli (va_runV (As := []) (rest := [.int x]) ⟨hx, hb, hml, hown, htw⟩ (kD_firstFreeDay l dC dI cI cJ rg qrd qrv s.heap.size rn rd (by first | assumption | omega | decide)) (cwV 0 htw (wv_good m_305 m_306 m_307 m_4 m_308) rfl rfl rfl (by decide +kernel) ⟨Nat.le_of_ble_eq_true rfl, Nat.le_of_ble_eq_true rfl⟩) ⟨fun a U g mk q => by obtain ⟨q0, q1, qP, qK, qD⟩ := q; exact ⟨q0, q1, qP, va_K.moved (u := U) (U := U.calling g mk a) (Vm.Alike.refl U.vm) qK, qD⟩, va_recv hK hPc (ci := 2) (q0 := 0) rfl rfl, fun U hU hW => ⟨rfl, by rw [hU], by rw [hU]; exact hPc, va_K.moved hW.alike hK, hDc.weaken (fun _ _ _ _ => trivial)⟩⟩ rfl rfl hl.1 rfl (lv_room (Nat.le_of_ble_eq_true rfl)) dX_read_5 ⟨Nat.le_of_ble_eq_true rfl, Nat.le_of_ble_eq_true rfl⟩) hS (fun q _ h => hFc q h) hFc (fun res_ u_ t H1 locs ht hvm hw hB hz1 hk1 hS => ?_)
  obtain ⟨hP1, hK1, hD1⟩ := hB
  rw [ht] at hP1
  obtain ⟨hP, hD⟩ := va_join (wr := [(xx, .inr (4, [.ref so, .ref lo, .ref rg, .ref g, .ref g2, .ref qmi])), (qrv, .inl (cJ, 20, .inr (.inl rv)))]) (w1 := [(rg, .inr (2, [.ref qrd, .ref qrv, .int (nI rn)])), (qrd, .inl (cI, 20, .inl rd))]) hP hD [1, 2] [0, 3] rfl rfl (by decide) (by decide) hk1 hFc hP1 hD1
  generalize H1 = H at hP hS ⊢
  have hP := hP.sub (ws' := [(xx, .inr (4, [.ref so, .ref lo, .ref rg, .ref g, .ref g2, .ref qmi])), (rg, .inr (2, [.ref qrd, .ref qrv, .int (nI rn)])), (qrd, .inl (cI, 20, .inl rd)), (qrv, .inl (cJ, 20, .inr (.inl rv)))]) [0, 2, 3, 1] rfl
  have hD := hD.sub (ws' := [(xx, .inr (4, [.ref so, .ref lo, .ref rg, .ref g, .ref g2, .ref qmi])), (rg, .inr (2, [.ref qrd, .ref qrv, .int (nI rn)])), (qrd, .inl (cI, 20, .inl rd)), (qrv, .inl (cJ, 20, .inr (.inl rv)))]) [0, 2, 3, 1] (by decide) rfl
  clear hPc hDc hFc hP1 hD1 hK1 hk1 hz1 hvm ht
  obtain rfl : k_ff rd rn = res_ := hw.symm
  refine lv_sipush (v := nI 400) hx hb dX_read_8 (by decide) ?_
  have hPc := hP.sub (ws' := []) [] rfl
  have hDc := hD.sub (ws' := []) [] (by decide) rfl
  have hFc := va_free (wc := []) hD hS hA [] rfl
  refine va_calli (va_runS (As := [.int x, .int (k_ff rd rn), .int (nI 400)]) (rest := []) ⟨hx, hb, hml, hown, htw⟩ (kX_within l dC dI cI cJ H.size x (k_ff rd rn) (nI 400)) (va_cwS 3 htw (ws_good m_164 m_165 m_1 m_166) rfl rfl rfl (by decide +kernel) ⟨Nat.le_of_ble_eq_true rfl, Nat.le_of_ble_eq_true rfl⟩) ⟨fun a U g mk q => by obtain ⟨q0, q1, qP, qK, qD⟩ := q; exact ⟨q0, q1, qP, va_K.moved (u := U) (U := U.calling g mk a) (Vm.Alike.refl U.vm) qK, qD⟩, fun U hU hW => ⟨rfl, by rw [hU], by rw [hU]; exact hPc, va_K.moved hW.alike hK, hDc.weaken (fun _ _ _ _ => trivial)⟩⟩ rfl rfl hl.1 rfl (lv_room (Nat.le_of_ble_eq_true rfl)) dX_read_11 ⟨Nat.le_of_ble_eq_true rfl, Nat.le_of_ble_eq_true rfl⟩) hS (fun q _ h => hFc q h) hFc (fun res_ u_ t H1 locs ht hvm hw hB hz1 hk1 hS => ?_)
  obtain ⟨hP1, hK1, hD1⟩ := hB
  rw [ht] at hP1
  obtain ⟨hP, hD⟩ := va_join (wr := [(xx, .inr (4, [.ref so, .ref lo, .ref rg, .ref g, .ref g2, .ref qmi])), (rg, .inr (2, [.ref qrd, .ref qrv, .int (nI rn)])), (qrd, .inl (cI, 20, .inl rd)), (qrv, .inl (cJ, 20, .inr (.inl rv)))]) (w1 := []) hP hD [] [0, 1, 2, 3] rfl rfl (by decide) (by decide) hk1 hFc hP1 hD1
  generalize H1 = H at hP hS ⊢
  have hP : va_P (dC, dI) vwCl [(xx, .inr (4, [.ref so, .ref lo, .ref rg, .ref g, .ref g2, .ref qmi])), (rg, .inr (2, [.ref qrd, .ref qrv, .int (nI rn)])), (qrd, .inl (cI, 20, .inl rd)), (qrv, .inl (cJ, 20, .inr (.inl rv)))] H := hP
  have hD : va_D A [(xx, .inr (4, [.ref so, .ref lo, .ref rg, .ref g, .ref g2, .ref qmi])), (rg, .inr (2, [.ref qrd, .ref qrv, .int (nI rn)])), (qrd, .inl (cI, 20, .inl rd)), (qrv, .inl (cJ, 20, .inr (.inl rv)))] := hD
  clear hPc hDc hFc hP1 hD1 hK1 hk1 hz1 hvm ht
  obtain rfl : kb ((k_ff rd rn) ≤ x ∧ x ≤ (nI 400)) = res_ := hw.symm
  refine lv_if_eq (tgt := 31) hx hb dX_read_14 (by decide) (fun hc14 => ?_) (fun hc14 => ?_)
  · -- 14 taken
    rw [kb_eq0, k_wi, nI_toInt (n := 400) (by omega)] at hc14
    exfalso; omega
  · -- 14 not taken
    rw [kb_eq0, k_wi, nI_toInt (n := 400) (by omega)] at hc14
    refine lv_lload_n hx hb dX_read_17 rfl (lv_at hl 2 rfl) ?_
    refine lv_lconst (v := 0) hx hb dX_read_18 (by decide) ?_
    refine W.lcmp hx hb dX_read_19 ?_
    refine lv_if_lt (tgt := 31) hx hb dX_read_20 (by decide) (fun hc20 => ?_) (fun hc20 => ?_)
    · -- 20 taken
      rw [lg_cmp_lt, Int64.lt_iff_toInt_lt, show ((0 : Int64)).toInt = 0 from by decide] at hc20
      exfalso; omega
    · -- 20 not taken
      rw [lg_cmp_lt, Int64.lt_iff_toInt_lt, show ((0 : Int64)).toInt = 0 from by decide] at hc20
      refine lv_lload_n hx hb dX_read_23 rfl (lv_at hl 2 rfl) ?_
      refine lv_ldc2 (v := 1000000000000) hx hb hown (htw _ m_309) dX_read_24 ?_
      refine W.lcmp hx hb dX_read_27 ?_
      refine lv_if_le (tgt := 33) hx hb dX_read_28 (by decide) (fun hc28 => ?_) (fun hc28 => ?_)
      · -- 28 taken
        rw [lg_cmp_le, Int64.le_iff_toInt_le, show ((1000000000000 : Int64)).toInt = 1000000000000 from by decide] at hc28
        refine lv_aload_n hx hb dX_read_33 rfl (lv_at hl 0 rfl) ?_
        refine va_get (D := (dC, dI)) (ci := 4) (v := .ref rg) (C := R_X) (T := T_X) (N := 6) hx hb htw in_X hown hK hP 0 rfl rfl 2 (by decide) (htw _ m_143) (fun _ h9 => h9) rfl dX_read_34 ?_
        refine va_get (D := (dC, dI)) (ci := 2) (v := .int (nI rn)) (C := R_D) (T := T_D) (N := 3) hx hb htw in_D hown hK hP 1 rfl rfl 2 (by decide) (htw _ m_99) (fun _ h9 => h9) rfl dX_read_37 ?_
        refine lv_bipush (v := nI 20) hx hb dX_read_40 (by decide) ?_
        refine lv_icmp_lt (tgt := 47) hx hb dX_read_42 (by decide) (fun hc42 => ?_) (fun hc42 => ?_)
        · -- 42 taken
          rw [nI_ltI (by omega) (by omega)] at hc42
          refine lv_aload_n hx hb dX_read_47 rfl (lv_at hl 0 rfl) ?_
          refine va_get (D := (dC, dI)) (ci := 4) (v := .ref rg) (C := R_X) (T := T_X) (N := 6) hx hb htw in_X hown hK hP 0 rfl rfl 2 (by decide) (htw _ m_143) (fun _ h9 => h9) rfl dX_read_48 ?_
          refine lv_iload_n hx hb dX_read_51 rfl (lv_at hl 1 rfl) ?_
          refine lv_lload_n hx hb dX_read_52 rfl (lv_at hl 2 rfl) ?_
          have hPc := hP.sub (ws' := [(rg, .inr (2, [.ref qrd, .ref qrv, .int (nI rn)])), (qrd, .inl (cI, 20, .inl rd)), (qrv, .inl (cJ, 20, .inr (.inl rv)))]) [1, 2, 3] rfl
          have hDc := hD.sub (ws' := [(rg, .inr (2, [.ref qrd, .ref qrv, .int (nI rn)])), (qrd, .inl (cI, 20, .inl rd)), (qrv, .inl (cJ, 20, .inr (.inl rv)))]) [1, 2, 3] (by decide) rfl
          have hFc := va_free (wc := [(rg, .inr (2, [.ref qrd, .ref qrv, .int (nI rn)])), (qrd, .inl (cI, 20, .inl rd)), (qrv, .inl (cJ, 20, .inr (.inl rv)))]) hD hS hA [1, 2, 3] rfl
          refine va_calli (va_runV (As := [.int x, .long v]) (rest := []) ⟨hx, hb, hml, hown, htw⟩ (kD_add l dC dI cI cJ rg qrd qrv H.size x v rn rd rv (by first | assumption | omega | decide)) (cwV 2 htw (wv_good m_310 m_311 m_312 m_4 m_313) rfl rfl rfl (by decide +kernel) ⟨Nat.le_of_ble_eq_true rfl, Nat.le_of_ble_eq_true rfl⟩) ⟨fun a U g mk q => by obtain ⟨q0, q1, qP, qK, qD⟩ := q; exact ⟨q0, q1, qP, va_K.moved (u := U) (U := U.calling g mk a) (Vm.Alike.refl U.vm) qK, qD⟩, va_recv hK hPc (ci := 2) (q0 := 0) rfl rfl, fun U hU hW => ⟨rfl, by rw [hU], by rw [hU]; exact hPc, va_K.moved hW.alike hK, hDc.weaken (fun _ _ _ _ => trivial)⟩⟩ rfl rfl hl.1 rfl (lv_room (Nat.le_of_ble_eq_true rfl)) dX_read_53 ⟨Nat.le_of_ble_eq_true rfl, Nat.le_of_ble_eq_true rfl⟩) hS (fun q _ h => hFc q h) hFc (fun res_ u_ t H1 locs ht hvm hw hB hz1 hk1 hS => ?_)
          obtain ⟨hP1, hK1, hD1⟩ := hB
          rw [ht] at hP1
          obtain ⟨hP, hD⟩ := va_join (wr := [(xx, .inr (4, [.ref so, .ref lo, .ref rg, .ref g, .ref g2, .ref qmi]))]) (w1 := [(rg, .inr (2, [.ref qrd, .ref qrv, .int (nI (rn + 1))])), (qrd, .inl (cI, 20, .inl (upd rd rn x))), (qrv, .inl (cJ, 20, .inr (.inl (vp_updL rv rn v))))]) hP hD [1, 2, 3] [0] rfl rfl (by decide) (by decide) hk1 hFc hP1 hD1
          generalize H1 = H at hP hS ⊢
          have hP : va_P (dC, dI) vwCl [(xx, .inr (4, [.ref so, .ref lo, .ref rg, .ref g, .ref g2, .ref qmi])), (rg, .inr (2, [.ref qrd, .ref qrv, .int (nI (rn + 1))])), (qrd, .inl (cI, 20, .inl (upd rd rn x))), (qrv, .inl (cJ, 20, .inr (.inl (vp_updL rv rn v))))] H := hP
          have hD : va_D A [(xx, .inr (4, [.ref so, .ref lo, .ref rg, .ref g, .ref g2, .ref qmi])), (rg, .inr (2, [.ref qrd, .ref qrv, .int (nI (rn + 1))])), (qrd, .inl (cI, 20, .inl (upd rd rn x))), (qrv, .inl (cJ, 20, .inr (.inl (vp_updL rv rn v))))] := hD
          clear hPc hDc hFc hP1 hD1 hK1 hk1 hz1 hvm ht
          obtain rfl : nI (rn + 1) = res_ := hw.symm
          have hP : va_P (dC, dI) vwCl [(xx, .inr (4, [.ref so, .ref lo, .ref rg, .ref g, .ref g2, .ref qmi])), (rg, .inr (2, [.ref qrd, .ref qrv, .int (nI (rn + 1))])), (qrd, .inl (cI, 20, .inl (upd rd rn x))), (qrv, .inl (cJ, 20, .inr (.inl (vp_updL rv rn v))))] H := by first | exact hP | simpa only [] using hP
          have hD : va_D A [(xx, .inr (4, [.ref so, .ref lo, .ref rg, .ref g, .ref g2, .ref qmi])), (rg, .inr (2, [.ref qrd, .ref qrv, .int (nI (rn + 1))])), (qrd, .inl (cI, 20, .inl (upd rd rn x))), (qrv, .inl (cJ, 20, .inr (.inl (vp_updL rv rn v))))] := by first | exact hD | simpa only [] using hD
          exact W.iret (v := nI (rn + 1)) hx hb hr (fun t ht hW => ⟨⟨nI (rn + 1), (), rfl, rfl, by rw [ht]; exact hP, va_K.moved hW.alike hK, hD⟩, hS.F ht⟩) hS.2.2 dX_read_56
        · -- 42 not taken
          rw [nI_ltI (by omega) (by omega)] at hc42
          exfalso; omega
      · -- 28 not taken
        rw [lg_cmp_le, Int64.le_iff_toInt_le, show ((1000000000000 : Int64)).toInt = 1000000000000 from by decide] at hc28
        exfalso; omega
set_option maxHeartbeats 4000000 in
set_option maxRecDepth 100000 in
theorem kX_read_bad (l : Launch) (dC : Nat → ClassId) (dI : Nat → Nat → Nat) (cI cJ : ClassId) (xx so lo rg g g2 qmi qrd qrv : Nat) (sz : Nat) (x : Int32) (v : Int64) (rn : Nat) (rd : Nat → Int32) (rv : Nat → Int64) (hrn : rn ≤ 20) (hbad : ¬ ((k_ff rd rn).toInt ≤ x.toInt ∧ x.toInt ≤ 400 ∧ 0 ≤ v.toInt ∧ v.toInt ≤ 1000000000000 ∧ rn < 20)) : Met l yX_read wX_read ({ frames := 1, cells := 0, slots := 0, locals := 22 }) (va_Pc [.ref xx, .int x, .long v] (fun U => U.heap.size = sz ∧ va_P (dC, dI) vwCl [(xx, .inr (4, [.ref so, .ref lo, .ref rg, .ref g, .ref g2, .ref qmi])), (rg, .inr (2, [.ref qrd, .ref qrv, .int (nI rn)])), (qrd, .inl (cI, 20, .inl rd)), (qrv, .inl (cJ, 20, .inr (.inl rv)))] U.heap ∧ va_K (dC, dI) vwCl [(cI, .int), (cJ, .long)] U ∧ va_D (fun _ => True) [(xx, .inr (4, [.ref so, .ref lo, .ref rg, .ref g, .ref g2, .ref qmi])), (rg, .inr (2, [.ref qrd, .ref qrv, .int (nI rn)])), (qrd, .inl (cI, 20, .inl rd)), (qrv, .inl (cJ, 20, .inr (.inl rv)))])) (va_Qi (fun res_ (_ : Unit) => res_ = (-1)) (fun _ t => va_P (dC, dI) vwCl [(xx, .inr (4, [.ref so, .ref lo, .ref rg, .ref g, .ref g2, .ref qmi])), (rg, .inr (2, [.ref qrd, .ref qrv, .int (nI rn)])), (qrd, .inl (cI, 20, .inl rd)), (qrv, .inl (cJ, 20, .inr (.inl rv)))] t.heap ∧ va_K (dC, dI) vwCl [(cI, .int), (cJ, .long)] t ∧ va_D (va_A [(xx, .inr (4, [.ref so, .ref lo, .ref rg, .ref g, .ref g2, .ref qmi])), (rg, .inr (2, [.ref qrd, .ref qrv, .int (nI rn)])), (qrd, .inl (cI, 20, .inl rd)), (qrv, .inl (cJ, 20, .inr (.inl rv)))] sz) [(xx, .inr (4, [.ref so, .ref lo, .ref rg, .ref g, .ref g2, .ref qmi])), (rg, .inr (2, [.ref qrd, .ref qrv, .int (nI rn)])), (qrd, .inl (cI, 20, .inl rd)), (qrv, .inl (cJ, 20, .inr (.inl rv)))]) (va_A [(xx, .inr (4, [.ref so, .ref lo, .ref rg, .ref g, .ref g2, .ref qmi])), (rg, .inr (2, [.ref qrd, .ref qrv, .int (nI rn)])), (qrd, .inl (cI, 20, .inl rd)), (qrv, .inl (cJ, 20, .inr (.inl rv)))] sz)) 0 0 (va_A [(xx, .inr (4, [.ref so, .ref lo, .ref rg, .ref g, .ref g2, .ref qmi])), (rg, .inr (2, [.ref qrd, .ref qrv, .int (nI rn)])), (qrd, .inl (cI, 20, .inl rd)), (qrv, .inl (cJ, 20, .inr (.inl rv)))] sz) := by
  refine Met.ofW (cc := bX_read) (maxL := 4) (ret := (some .int)) (by decide) rfl ?_
  intro p e s m args below meth c s₁ B hml hv
  obtain ⟨rfl, hsz, hP, hK, hD0⟩ := hv
  have hx := B.exec
  have hb := B.bytes
  have hr := B.returns
  have hts := atoms_spec (ws := wX_read) B.pre
  have hown : s.vm.findClass R_X = some m.cls := findClass_of_methodNamed B.named
  have htw : ∀ w ∈ WA, w.before _ s = true := fun w h => hts w (List.mem_cons_of_mem _ h)
  clear hts
  have hlocks := B.notSynchronized
  subst hsz
  have hD := hD0.self (sz := s.heap.size)
  generalize hAe : va_A [(xx, .inr (4, [.ref so, .ref lo, .ref rg, .ref g, .ref g2, .ref qmi])), (rg, .inr (2, [.ref qrd, .ref qrv, .int (nI rn)])), (qrd, .inl (cI, 20, .inl rd)), (qrv, .inl (cJ, 20, .inr (.inl rv)))] s.heap.size = A at hD ⊢
  have hA : ∀ q : Nat, s.heap.size ≤ q → A q := fun q h => by rw [← hAe]; exact Or.inr h
  clear hAe hD0
  have hS : va_S A s.heap s.heap [] := va_S.rf
  have hP : va_P (dC, dI) vwCl [(xx, .inr (4, [.ref so, .ref lo, .ref rg, .ref g, .ref g2, .ref qmi])), (rg, .inr (2, [.ref qrd, .ref qrv, .int (nI rn)])), (qrd, .inl (cI, 20, .inl rd)), (qrv, .inl (cJ, 20, .inr (.inl rv)))] s.heap := hP
  have hl := lv_entry ([.ref xx, .int x, .long v]) (n := 4) (Nat.le_of_ble_eq_true rfl)
  rw [lg_entry_eq]
  generalize (lg_sl ([.ref xx, .int x, .long v]) ++ List.replicate (4 - (lg_sl ([.ref xx, .int x, .long v])).length) Slot.unset).toArray = ls at hl ⊢
  have hl : lv_has ls 4 [(0, .ref xx), (1, .int x), (2, .long v)] := hl
  refine lv_iload_n hx hb dX_read_0 rfl (lv_at hl 1 rfl) ?_
  refine lv_aload_n hx hb dX_read_1 rfl (lv_at hl 0 rfl) ?_
  refine va_get (D := (dC, dI)) (ci := 4) (v := .ref rg) (C := R_X) (T := T_X) (N := 6) hx hb htw in_X hown hK hP 0 rfl rfl 2 (by decide) (htw _ m_143) (fun _ h9 => h9) rfl dX_read_2 ?_
  have hPc := hP.sub (ws' := [(rg, .inr (2, [.ref qrd, .ref qrv, .int (nI rn)])), (qrd, .inl (cI, 20, .inl rd))]) [1, 2] rfl
  have hDc := hD.sub (ws' := [(rg, .inr (2, [.ref qrd, .ref qrv, .int (nI rn)])), (qrd, .inl (cI, 20, .inl rd))]) [1, 2] (by decide) rfl
  have hFc := va_free (wc := [(rg, .inr (2, [.ref qrd, .ref qrv, .int (nI rn)])), (qrd, .inl (cI, 20, .inl rd))]) hD hS hA [1, 2] rfl
  refine va_calli (va_runV (As := []) (rest := [.int x]) ⟨hx, hb, hml, hown, htw⟩ (kD_firstFreeDay l dC dI cI cJ rg qrd qrv s.heap.size rn rd (by first | assumption | omega | decide)) (cwV 0 htw (wv_good m_305 m_306 m_307 m_4 m_308) rfl rfl rfl (by decide +kernel) ⟨Nat.le_of_ble_eq_true rfl, Nat.le_of_ble_eq_true rfl⟩) ⟨fun a U g mk q => by obtain ⟨q0, q1, qP, qK, qD⟩ := q; exact ⟨q0, q1, qP, va_K.moved (u := U) (U := U.calling g mk a) (Vm.Alike.refl U.vm) qK, qD⟩, va_recv hK hPc (ci := 2) (q0 := 0) rfl rfl, fun U hU hW => ⟨rfl, by rw [hU], by rw [hU]; exact hPc, va_K.moved hW.alike hK, hDc.weaken (fun _ _ _ _ => trivial)⟩⟩ rfl rfl hl.1 rfl (lv_room (Nat.le_of_ble_eq_true rfl)) dX_read_5 ⟨Nat.le_of_ble_eq_true rfl, Nat.le_of_ble_eq_true rfl⟩) hS (fun q _ h => hFc q h) hFc (fun res_ u_ t H1 locs ht hvm hw hB hz1 hk1 hS => ?_)
  obtain ⟨hP1, hK1, hD1⟩ := hB
  rw [ht] at hP1
  obtain ⟨hP, hD⟩ := va_join (wr := [(xx, .inr (4, [.ref so, .ref lo, .ref rg, .ref g, .ref g2, .ref qmi])), (qrv, .inl (cJ, 20, .inr (.inl rv)))]) (w1 := [(rg, .inr (2, [.ref qrd, .ref qrv, .int (nI rn)])), (qrd, .inl (cI, 20, .inl rd))]) hP hD [1, 2] [0, 3] rfl rfl (by decide) (by decide) hk1 hFc hP1 hD1
  generalize H1 = H at hP hS ⊢
  have hP := hP.sub (ws' := [(xx, .inr (4, [.ref so, .ref lo, .ref rg, .ref g, .ref g2, .ref qmi])), (rg, .inr (2, [.ref qrd, .ref qrv, .int (nI rn)])), (qrd, .inl (cI, 20, .inl rd)), (qrv, .inl (cJ, 20, .inr (.inl rv)))]) [0, 2, 3, 1] rfl
  have hD := hD.sub (ws' := [(xx, .inr (4, [.ref so, .ref lo, .ref rg, .ref g, .ref g2, .ref qmi])), (rg, .inr (2, [.ref qrd, .ref qrv, .int (nI rn)])), (qrd, .inl (cI, 20, .inl rd)), (qrv, .inl (cJ, 20, .inr (.inl rv)))]) [0, 2, 3, 1] (by decide) rfl
  clear hPc hDc hFc hP1 hD1 hK1 hk1 hz1 hvm ht
  obtain rfl : k_ff rd rn = res_ := hw.symm
  refine lv_sipush (v := nI 400) hx hb dX_read_8 (by decide) ?_
  have hPc := hP.sub (ws' := []) [] rfl
  have hDc := hD.sub (ws' := []) [] (by decide) rfl
  have hFc := va_free (wc := []) hD hS hA [] rfl
  refine va_calli (va_runS (As := [.int x, .int (k_ff rd rn), .int (nI 400)]) (rest := []) ⟨hx, hb, hml, hown, htw⟩ (kX_within l dC dI cI cJ H.size x (k_ff rd rn) (nI 400)) (va_cwS 3 htw (ws_good m_164 m_165 m_1 m_166) rfl rfl rfl (by decide +kernel) ⟨Nat.le_of_ble_eq_true rfl, Nat.le_of_ble_eq_true rfl⟩) ⟨fun a U g mk q => by obtain ⟨q0, q1, qP, qK, qD⟩ := q; exact ⟨q0, q1, qP, va_K.moved (u := U) (U := U.calling g mk a) (Vm.Alike.refl U.vm) qK, qD⟩, fun U hU hW => ⟨rfl, by rw [hU], by rw [hU]; exact hPc, va_K.moved hW.alike hK, hDc.weaken (fun _ _ _ _ => trivial)⟩⟩ rfl rfl hl.1 rfl (lv_room (Nat.le_of_ble_eq_true rfl)) dX_read_11 ⟨Nat.le_of_ble_eq_true rfl, Nat.le_of_ble_eq_true rfl⟩) hS (fun q _ h => hFc q h) hFc (fun res_ u_ t H1 locs ht hvm hw hB hz1 hk1 hS => ?_)
  obtain ⟨hP1, hK1, hD1⟩ := hB
  rw [ht] at hP1
  obtain ⟨hP, hD⟩ := va_join (wr := [(xx, .inr (4, [.ref so, .ref lo, .ref rg, .ref g, .ref g2, .ref qmi])), (rg, .inr (2, [.ref qrd, .ref qrv, .int (nI rn)])), (qrd, .inl (cI, 20, .inl rd)), (qrv, .inl (cJ, 20, .inr (.inl rv)))]) (w1 := []) hP hD [] [0, 1, 2, 3] rfl rfl (by decide) (by decide) hk1 hFc hP1 hD1
  generalize H1 = H at hP hS ⊢
  have hP : va_P (dC, dI) vwCl [(xx, .inr (4, [.ref so, .ref lo, .ref rg, .ref g, .ref g2, .ref qmi])), (rg, .inr (2, [.ref qrd, .ref qrv, .int (nI rn)])), (qrd, .inl (cI, 20, .inl rd)), (qrv, .inl (cJ, 20, .inr (.inl rv)))] H := hP
  have hD : va_D A [(xx, .inr (4, [.ref so, .ref lo, .ref rg, .ref g, .ref g2, .ref qmi])), (rg, .inr (2, [.ref qrd, .ref qrv, .int (nI rn)])), (qrd, .inl (cI, 20, .inl rd)), (qrv, .inl (cJ, 20, .inr (.inl rv)))] := hD
  clear hPc hDc hFc hP1 hD1 hK1 hk1 hz1 hvm ht
  obtain rfl : kb ((k_ff rd rn) ≤ x ∧ x ≤ (nI 400)) = res_ := hw.symm
  refine lv_if_eq (tgt := 31) hx hb dX_read_14 (by decide) (fun hc14 => ?_) (fun hc14 => ?_)
  · -- 14 taken
    rw [kb_eq0, k_wi, nI_toInt (n := 400) (by omega)] at hc14
    refine lv_iconst (v := (-1)) hx hb dX_read_31 (by decide) ?_
    have hP : va_P (dC, dI) vwCl [(xx, .inr (4, [.ref so, .ref lo, .ref rg, .ref g, .ref g2, .ref qmi])), (rg, .inr (2, [.ref qrd, .ref qrv, .int (nI rn)])), (qrd, .inl (cI, 20, .inl rd)), (qrv, .inl (cJ, 20, .inr (.inl rv)))] H := by first | exact hP | simpa only [] using hP
    have hD : va_D A [(xx, .inr (4, [.ref so, .ref lo, .ref rg, .ref g, .ref g2, .ref qmi])), (rg, .inr (2, [.ref qrd, .ref qrv, .int (nI rn)])), (qrd, .inl (cI, 20, .inl rd)), (qrv, .inl (cJ, 20, .inr (.inl rv)))] := by first | exact hD | simpa only [] using hD
    exact W.iret (v := (-1)) hx hb hr (fun t ht hW => ⟨⟨(-1), (), rfl, rfl, by rw [ht]; exact hP, va_K.moved hW.alike hK, hD⟩, hS.F ht⟩) hS.2.2 dX_read_32
  · -- 14 not taken
    rw [kb_eq0, k_wi, nI_toInt (n := 400) (by omega)] at hc14
    refine lv_lload_n hx hb dX_read_17 rfl (lv_at hl 2 rfl) ?_
    refine lv_lconst (v := 0) hx hb dX_read_18 (by decide) ?_
    refine W.lcmp hx hb dX_read_19 ?_
    refine lv_if_lt (tgt := 31) hx hb dX_read_20 (by decide) (fun hc20 => ?_) (fun hc20 => ?_)
    · -- 20 taken
      rw [lg_cmp_lt, Int64.lt_iff_toInt_lt, show ((0 : Int64)).toInt = 0 from by decide] at hc20
      refine lv_iconst (v := (-1)) hx hb dX_read_31 (by decide) ?_
      have hP : va_P (dC, dI) vwCl [(xx, .inr (4, [.ref so, .ref lo, .ref rg, .ref g, .ref g2, .ref qmi])), (rg, .inr (2, [.ref qrd, .ref qrv, .int (nI rn)])), (qrd, .inl (cI, 20, .inl rd)), (qrv, .inl (cJ, 20, .inr (.inl rv)))] H := by first | exact hP | simpa only [] using hP
      have hD : va_D A [(xx, .inr (4, [.ref so, .ref lo, .ref rg, .ref g, .ref g2, .ref qmi])), (rg, .inr (2, [.ref qrd, .ref qrv, .int (nI rn)])), (qrd, .inl (cI, 20, .inl rd)), (qrv, .inl (cJ, 20, .inr (.inl rv)))] := by first | exact hD | simpa only [] using hD
      exact W.iret (v := (-1)) hx hb hr (fun t ht hW => ⟨⟨(-1), (), rfl, rfl, by rw [ht]; exact hP, va_K.moved hW.alike hK, hD⟩, hS.F ht⟩) hS.2.2 dX_read_32
    · -- 20 not taken
      rw [lg_cmp_lt, Int64.lt_iff_toInt_lt, show ((0 : Int64)).toInt = 0 from by decide] at hc20
      refine lv_lload_n hx hb dX_read_23 rfl (lv_at hl 2 rfl) ?_
      refine lv_ldc2 (v := 1000000000000) hx hb hown (htw _ m_309) dX_read_24 ?_
      refine W.lcmp hx hb dX_read_27 ?_
      refine lv_if_le (tgt := 33) hx hb dX_read_28 (by decide) (fun hc28 => ?_) (fun hc28 => ?_)
      · -- 28 taken
        rw [lg_cmp_le, Int64.le_iff_toInt_le, show ((1000000000000 : Int64)).toInt = 1000000000000 from by decide] at hc28
        refine lv_aload_n hx hb dX_read_33 rfl (lv_at hl 0 rfl) ?_
        refine va_get (D := (dC, dI)) (ci := 4) (v := .ref rg) (C := R_X) (T := T_X) (N := 6) hx hb htw in_X hown hK hP 0 rfl rfl 2 (by decide) (htw _ m_143) (fun _ h9 => h9) rfl dX_read_34 ?_
        refine va_get (D := (dC, dI)) (ci := 2) (v := .int (nI rn)) (C := R_D) (T := T_D) (N := 3) hx hb htw in_D hown hK hP 1 rfl rfl 2 (by decide) (htw _ m_99) (fun _ h9 => h9) rfl dX_read_37 ?_
        refine lv_bipush (v := nI 20) hx hb dX_read_40 (by decide) ?_
        refine lv_icmp_lt (tgt := 47) hx hb dX_read_42 (by decide) (fun hc42 => ?_) (fun hc42 => ?_)
        · -- 42 taken
          rw [nI_ltI (by omega) (by omega)] at hc42
          exfalso; omega
        · -- 42 not taken
          rw [nI_ltI (by omega) (by omega)] at hc42
          refine lv_iconst (v := (-1)) hx hb dX_read_45 (by decide) ?_
          have hP : va_P (dC, dI) vwCl [(xx, .inr (4, [.ref so, .ref lo, .ref rg, .ref g, .ref g2, .ref qmi])), (rg, .inr (2, [.ref qrd, .ref qrv, .int (nI rn)])), (qrd, .inl (cI, 20, .inl rd)), (qrv, .inl (cJ, 20, .inr (.inl rv)))] H := by first | exact hP | simpa only [] using hP
          have hD : va_D A [(xx, .inr (4, [.ref so, .ref lo, .ref rg, .ref g, .ref g2, .ref qmi])), (rg, .inr (2, [.ref qrd, .ref qrv, .int (nI rn)])), (qrd, .inl (cI, 20, .inl rd)), (qrv, .inl (cJ, 20, .inr (.inl rv)))] := by first | exact hD | simpa only [] using hD
          exact W.iret (v := (-1)) hx hb hr (fun t ht hW => ⟨⟨(-1), (), rfl, rfl, by rw [ht]; exact hP, va_K.moved hW.alike hK, hD⟩, hS.F ht⟩) hS.2.2 dX_read_46
      · -- 28 not taken
        rw [lg_cmp_le, Int64.le_iff_toInt_le, show ((1000000000000 : Int64)).toInt = 1000000000000 from by decide] at hc28
        refine lv_iconst (v := (-1)) hx hb dX_read_31 (by decide) ?_
        have hP : va_P (dC, dI) vwCl [(xx, .inr (4, [.ref so, .ref lo, .ref rg, .ref g, .ref g2, .ref qmi])), (rg, .inr (2, [.ref qrd, .ref qrv, .int (nI rn)])), (qrd, .inl (cI, 20, .inl rd)), (qrv, .inl (cJ, 20, .inr (.inl rv)))] H := by first | exact hP | simpa only [] using hP
        have hD : va_D A [(xx, .inr (4, [.ref so, .ref lo, .ref rg, .ref g, .ref g2, .ref qmi])), (rg, .inr (2, [.ref qrd, .ref qrv, .int (nI rn)])), (qrd, .inl (cI, 20, .inl rd)), (qrv, .inl (cJ, 20, .inr (.inl rv)))] := by first | exact hD | simpa only [] using hD
        exact W.iret (v := (-1)) hx hb hr (fun t ht hW => ⟨⟨(-1), (), rfl, rfl, by rw [ht]; exact hP, va_K.moved hW.alike hK, hD⟩, hS.F ht⟩) hS.2.2 dX_read_32
set_option maxHeartbeats 4000000 in
set_option maxRecDepth 100000 in
theorem kX_off_ok (l : Launch) (dC : Nat → ClassId) (dI : Nat → Nat → Nat) (cI cJ : ClassId) (xx so lo rg g g2 qmi qrd qrv qpr qpa : Nat) (sz : Nat) (v : Int64) (rn : Nat) (rd : Nat → Int32) (rv : Nat → Int64) (dy : Nat) (co : Int64) (wo : Int64) (mi : Nat → Int64) (hrn : rn ≤ 20) (hdy : dy ≤ 400) (hrd : ∀ i, i < rn → 0 ≤ (rd i).toInt ∧ k_d rd i ≤ 400) (hv : ¬ v < 0) : Met l yX_off wX_off ({ frames := 1, cells := 0, slots := 0, locals := 13 }) (va_Pc [.ref xx, .long v] (fun U => U.heap.size = sz ∧ va_P (dC, dI) vwCl [(xx, .inr (4, [.ref so, .ref lo, .ref rg, .ref g, .ref g2, .ref qmi])), (rg, .inr (2, [.ref qrd, .ref qrv, .int (nI rn)])), (qrd, .inl (cI, 20, .inl rd)), (qrv, .inl (cJ, 20, .inr (.inl rv))), (g, .inr (0, [.ref so, .ref lo, .ref qpr, .ref qpa, .int (nI dy), .long co, .long wo])), (qmi, .inl (cJ, 401, .inr (.inl mi)))] U.heap ∧ va_K (dC, dI) vwCl [(cI, .int), (cJ, .long)] U ∧ va_D (fun _ => True) [(xx, .inr (4, [.ref so, .ref lo, .ref rg, .ref g, .ref g2, .ref qmi])), (rg, .inr (2, [.ref qrd, .ref qrv, .int (nI rn)])), (qrd, .inl (cI, 20, .inl rd)), (qrv, .inl (cJ, 20, .inr (.inl rv))), (g, .inr (0, [.ref so, .ref lo, .ref qpr, .ref qpa, .int (nI dy), .long co, .long wo])), (qmi, .inl (cJ, 401, .inr (.inl mi)))])) (va_Qi (fun res_ (_ : Unit) => res_ = nI (k_off rd rv mi dy v rn)) (fun _ t => va_P (dC, dI) vwCl [(xx, .inr (4, [.ref so, .ref lo, .ref rg, .ref g, .ref g2, .ref qmi])), (rg, .inr (2, [.ref qrd, .ref qrv, .int (nI rn)])), (qrd, .inl (cI, 20, .inl rd)), (qrv, .inl (cJ, 20, .inr (.inl rv))), (g, .inr (0, [.ref so, .ref lo, .ref qpr, .ref qpa, .int (nI dy), .long co, .long wo])), (qmi, .inl (cJ, 401, .inr (.inl mi)))] t.heap ∧ va_K (dC, dI) vwCl [(cI, .int), (cJ, .long)] t ∧ va_D (va_A [(xx, .inr (4, [.ref so, .ref lo, .ref rg, .ref g, .ref g2, .ref qmi])), (rg, .inr (2, [.ref qrd, .ref qrv, .int (nI rn)])), (qrd, .inl (cI, 20, .inl rd)), (qrv, .inl (cJ, 20, .inr (.inl rv))), (g, .inr (0, [.ref so, .ref lo, .ref qpr, .ref qpa, .int (nI dy), .long co, .long wo])), (qmi, .inl (cJ, 401, .inr (.inl mi)))] sz) [(xx, .inr (4, [.ref so, .ref lo, .ref rg, .ref g, .ref g2, .ref qmi])), (rg, .inr (2, [.ref qrd, .ref qrv, .int (nI rn)])), (qrd, .inl (cI, 20, .inl rd)), (qrv, .inl (cJ, 20, .inr (.inl rv))), (g, .inr (0, [.ref so, .ref lo, .ref qpr, .ref qpa, .int (nI dy), .long co, .long wo])), (qmi, .inl (cJ, 401, .inr (.inl mi)))]) (va_A [(xx, .inr (4, [.ref so, .ref lo, .ref rg, .ref g, .ref g2, .ref qmi])), (rg, .inr (2, [.ref qrd, .ref qrv, .int (nI rn)])), (qrd, .inl (cI, 20, .inl rd)), (qrv, .inl (cJ, 20, .inr (.inl rv))), (g, .inr (0, [.ref so, .ref lo, .ref qpr, .ref qpa, .int (nI dy), .long co, .long wo])), (qmi, .inl (cJ, 401, .inr (.inl mi)))] sz)) 0 0 (va_A [(xx, .inr (4, [.ref so, .ref lo, .ref rg, .ref g, .ref g2, .ref qmi])), (rg, .inr (2, [.ref qrd, .ref qrv, .int (nI rn)])), (qrd, .inl (cI, 20, .inl rd)), (qrv, .inl (cJ, 20, .inr (.inl rv))), (g, .inr (0, [.ref so, .ref lo, .ref qpr, .ref qpa, .int (nI dy), .long co, .long wo])), (qmi, .inl (cJ, 401, .inr (.inl mi)))] sz) := by
  refine Met.ofW (cc := bX_off) (maxL := 6) (ret := (some .int)) (by decide) rfl ?_
  intro p e s m args below meth c s₁ B hml hv
  obtain ⟨rfl, hsz, hP, hK, hD0⟩ := hv
  have hx := B.exec
  have hb := B.bytes
  have hr := B.returns
  have hts := atoms_spec (ws := wX_off) B.pre
  have hown : s.vm.findClass R_X = some m.cls := findClass_of_methodNamed B.named
  have htw : ∀ w ∈ WA, w.before _ s = true := fun w h => hts w (List.mem_cons_of_mem _ h)
  clear hts
  have hlocks := B.notSynchronized
  subst hsz
  have hD := hD0.self (sz := s.heap.size)
  generalize hAe : va_A [(xx, .inr (4, [.ref so, .ref lo, .ref rg, .ref g, .ref g2, .ref qmi])), (rg, .inr (2, [.ref qrd, .ref qrv, .int (nI rn)])), (qrd, .inl (cI, 20, .inl rd)), (qrv, .inl (cJ, 20, .inr (.inl rv))), (g, .inr (0, [.ref so, .ref lo, .ref qpr, .ref qpa, .int (nI dy), .long co, .long wo])), (qmi, .inl (cJ, 401, .inr (.inl mi)))] s.heap.size = A at hD ⊢
  have hA : ∀ q : Nat, s.heap.size ≤ q → A q := fun q h => by rw [← hAe]; exact Or.inr h
  clear hAe hD0
  have hS : va_S A s.heap s.heap [] := va_S.rf
  have hP : va_P (dC, dI) vwCl [(xx, .inr (4, [.ref so, .ref lo, .ref rg, .ref g, .ref g2, .ref qmi])), (rg, .inr (2, [.ref qrd, .ref qrv, .int (nI rn)])), (qrd, .inl (cI, 20, .inl rd)), (qrv, .inl (cJ, 20, .inr (.inl rv))), (g, .inr (0, [.ref so, .ref lo, .ref qpr, .ref qpa, .int (nI dy), .long co, .long wo])), (qmi, .inl (cJ, 401, .inr (.inl mi)))] s.heap := hP
  have hl := lv_entry ([.ref xx, .long v]) (n := 6) (Nat.le_of_ble_eq_true rfl)
  rw [lg_entry_eq]
  generalize (lg_sl ([.ref xx, .long v]) ++ List.replicate (6 - (lg_sl ([.ref xx, .long v])).length) Slot.unset).toArray = ls at hl ⊢
  have hl : lv_has ls 6 [(0, .ref xx), (1, .long v)] := hl
  refine lv_lload_n hx hb dX_off_0 rfl (lv_at hl 1 rfl) ?_
  refine lv_lconst (v := 0) hx hb dX_off_1 (by decide) ?_
  refine W.lcmp hx hb dX_off_2 ?_
  refine lv_if_ge (tgt := 8) hx hb dX_off_3 (by decide) (fun hc3 => ?_) (fun hc3 => ?_)
  · -- 3 taken
    rw [lg_cmp_ge] at hc3
    refine lv_iconst (v := nI 0) hx hb dX_off_8 (by decide) ?_
    refine lv_istore_n (lv' := [(3, .int (nI 0)), (0, .ref xx), (1, .long v)]) hx hb dX_off_9 rfl hl (by decide) rfl (fun ls hl => ?_)
    refine lv_iconst (v := nI 0) hx hb dX_off_10 (by decide) ?_
    refine lv_istore (lv' := [(4, .int (nI 0)), (3, .int (nI 0)), (0, .ref xx), (1, .long v)]) hx hb dX_off_11 hl (by decide) rfl (fun ls hl => ?_)
    -- the loop at 13
    have hP : va_P (dC, dI) vwCl [(xx, .inr (4, [.ref so, .ref lo, .ref rg, .ref g, .ref g2, .ref qmi])), (rg, .inr (2, [.ref qrd, .ref qrv, .int (nI rn)])), (qrd, .inl (cI, 20, .inl rd)), (qrv, .inl (cJ, 20, .inr (.inl rv))), (g, .inr (0, [.ref so, .ref lo, .ref qpr, .ref qpa, .int (nI dy), .long co, .long wo])), (qmi, .inl (cJ, 401, .inr (.inl mi)))] s.heap := by first | exact hP | simpa only [] using hP
    have hD : va_D A [(xx, .inr (4, [.ref so, .ref lo, .ref rg, .ref g, .ref g2, .ref qmi])), (rg, .inr (2, [.ref qrd, .ref qrv, .int (nI rn)])), (qrd, .inl (cI, 20, .inl rd)), (qrv, .inl (cJ, 20, .inr (.inl rv))), (g, .inr (0, [.ref so, .ref lo, .ref qpr, .ref qpa, .int (nI dy), .long co, .long wo])), (qmi, .inl (cJ, 401, .inr (.inl mi)))] := by first | exact hD | simpa only [] using hD
    refine x_loop (N := rn) (I := fun i H locs ls => va_P (dC, dI) vwCl [(xx, .inr (4, [.ref so, .ref lo, .ref rg, .ref g, .ref g2, .ref qmi])), (rg, .inr (2, [.ref qrd, .ref qrv, .int (nI rn)])), (qrd, .inl (cI, 20, .inl rd)), (qrv, .inl (cJ, 20, .inr (.inl rv))), (g, .inr (0, [.ref so, .ref lo, .ref qpr, .ref qpa, .int (nI dy), .long co, .long wo])), (qmi, .inl (cJ, 401, .inr (.inl mi)))] H ∧ va_D A [(xx, .inr (4, [.ref so, .ref lo, .ref rg, .ref g, .ref g2, .ref qmi])), (rg, .inr (2, [.ref qrd, .ref qrv, .int (nI rn)])), (qrd, .inl (cI, 20, .inl rd)), (qrv, .inl (cJ, 20, .inr (.inl rv))), (g, .inr (0, [.ref so, .ref lo, .ref qpr, .ref qpa, .int (nI dy), .long co, .long wo])), (qmi, .inl (cJ, 401, .inr (.inl mi)))] ∧ va_S A s.heap H locs ∧ lv_has ls 6 [(0, .ref xx), (1, .long v), (3, .int (nI (k_off rd rv mi dy v i))), (4, .int (nI i))]) (i0 := 0) ?_ (Nat.zero_le _) ⟨hP, hD, hS, lv_sub hl [2, 3, 1, 0] rfl⟩
    intro i hi ih13 H locs ls hI
    obtain ⟨hP, hD, hS, hl⟩ := hI
    refine lv_iload hx hb dX_off_13 (lv_at hl 3 rfl) ?_
    refine lv_aload_n hx hb dX_off_15 rfl (lv_at hl 0 rfl) ?_
    refine va_get (D := (dC, dI)) (ci := 4) (v := .ref rg) (C := R_X) (T := T_X) (N := 6) hx hb htw in_X hown hK hP 0 rfl rfl 2 (by decide) (htw _ m_143) (fun _ h9 => h9) rfl dX_off_16 ?_
    refine va_get (D := (dC, dI)) (ci := 2) (v := .int (nI rn)) (C := R_D) (T := T_D) (N := 3) hx hb htw in_D hown hK hP 1 rfl rfl 2 (by decide) (htw _ m_99) (fun _ h9 => h9) rfl dX_off_19 ?_
    refine lv_icmp_ge (tgt := 84) hx hb dX_off_22 (by decide) (fun hc22 => ?_) (fun hc22 => ?_)
    · -- 22 taken
      rw [nI_leI (by omega) (by omega)] at hc22
      obtain rfl : rn = i := by omega
      refine lv_iload_n hx hb dX_off_84 rfl (lv_at hl 2 rfl) ?_
      have hP : va_P (dC, dI) vwCl [(xx, .inr (4, [.ref so, .ref lo, .ref rg, .ref g, .ref g2, .ref qmi])), (rg, .inr (2, [.ref qrd, .ref qrv, .int (nI rn)])), (qrd, .inl (cI, 20, .inl rd)), (qrv, .inl (cJ, 20, .inr (.inl rv))), (g, .inr (0, [.ref so, .ref lo, .ref qpr, .ref qpa, .int (nI dy), .long co, .long wo])), (qmi, .inl (cJ, 401, .inr (.inl mi)))] H := by first | exact hP | simpa only [] using hP
      have hD : va_D A [(xx, .inr (4, [.ref so, .ref lo, .ref rg, .ref g, .ref g2, .ref qmi])), (rg, .inr (2, [.ref qrd, .ref qrv, .int (nI rn)])), (qrd, .inl (cI, 20, .inl rd)), (qrv, .inl (cJ, 20, .inr (.inl rv))), (g, .inr (0, [.ref so, .ref lo, .ref qpr, .ref qpa, .int (nI dy), .long co, .long wo])), (qmi, .inl (cJ, 401, .inr (.inl mi)))] := by first | exact hD | simpa only [] using hD
      exact W.iret (v := nI (k_off rd rv mi dy v rn)) hx hb hr (fun t ht hW => ⟨⟨nI (k_off rd rv mi dy v rn), (), rfl, rfl, by rw [ht]; exact hP, va_K.moved hW.alike hK, hD⟩, hS.F ht⟩) hS.2.2 dX_off_85
    · -- 22 not taken
      rw [nI_leI (by omega) (by omega)] at hc22
      refine lv_aload_n hx hb dX_off_25 rfl (lv_at hl 0 rfl) ?_
      refine va_get (D := (dC, dI)) (ci := 4) (v := .ref rg) (C := R_X) (T := T_X) (N := 6) hx hb htw in_X hown hK hP 0 rfl rfl 2 (by decide) (htw _ m_143) (fun _ h9 => h9) rfl dX_off_26 ?_
      refine va_get (D := (dC, dI)) (ci := 2) (v := .ref qrd) (C := R_D) (T := T_D) (N := 3) hx hb htw in_D hown hK hP 1 rfl rfl 0 (by decide) (htw _ m_95) (fun _ h9 => h9) rfl dX_off_29 ?_
      refine lv_iload hx hb dX_off_32 (lv_at hl 3 rfl) ?_
      refine xa_iald hx hb hK hP 2 0 rfl rfl (i := i) (by omega) (by decide) dX_off_34 ?_
      refine lv_topi (fun kv ekv => ?_)
      obtain rfl : nI (k_d rd i) = kv := (ekv.trans (k_nI (hrd i (by omega)).1)).symm
      refine lv_istore (lv' := [(5, .int (nI (k_d rd i))), (0, .ref xx), (1, .long v), (3, .int (nI (k_off rd rv mi dy v i))), (4, .int (nI i))]) hx hb dX_off_35 hl (by decide) rfl (fun ls hl => ?_)
      have hdi : k_d rd i ≤ 400 := (hrd i (by omega)).2
      refine lv_iload hx hb dX_off_37 (lv_at hl 0 rfl) ?_
      refine lv_aload_n hx hb dX_off_39 rfl (lv_at hl 1 rfl) ?_
      refine va_get (D := (dC, dI)) (ci := 4) (v := .ref g) (C := R_X) (T := T_X) (N := 6) hx hb htw in_X hown hK hP 0 rfl rfl 3 (by decide) (htw _ m_144) (fun _ h9 => h9) rfl dX_off_40 ?_
      refine va_get (D := (dC, dI)) (ci := 0) (v := .int (nI dy)) (C := R_G) (T := T_G) (N := 7) hx hb htw in_G hown hK hP 4 rfl rfl 4 (by decide) (htw _ m_120) (fun _ h9 => h9) rfl dX_off_43 ?_
      refine lv_icmp_gt (tgt := 78) hx hb dX_off_46 (by decide) (fun hc46 => ?_) (fun hc46 => ?_)
      · -- 46 taken
        rw [nI_ltI (by omega) (by omega)] at hc46
        refine lv_iinc (v := nI (i + 1)) (lv' := [(4, .int (nI (i + 1))), (5, .int (nI (k_d rd i))), (0, .ref xx), (1, .long v), (3, .int (nI (k_off rd rv mi dy v i)))]) hx hb dX_off_78 hl (k := 4) rfl (nI_1 _) (by decide) rfl (fun ls hl => ?_)
        refine lv_goto (tgt := 13) hx hb dX_off_81 (by decide) ?_
        have hP : va_P (dC, dI) vwCl [(xx, .inr (4, [.ref so, .ref lo, .ref rg, .ref g, .ref g2, .ref qmi])), (rg, .inr (2, [.ref qrd, .ref qrv, .int (nI rn)])), (qrd, .inl (cI, 20, .inl rd)), (qrv, .inl (cJ, 20, .inr (.inl rv))), (g, .inr (0, [.ref so, .ref lo, .ref qpr, .ref qpa, .int (nI dy), .long co, .long wo])), (qmi, .inl (cJ, 401, .inr (.inl mi)))] H := by first | exact hP | simpa only [] using hP
        have hD : va_D A [(xx, .inr (4, [.ref so, .ref lo, .ref rg, .ref g, .ref g2, .ref qmi])), (rg, .inr (2, [.ref qrd, .ref qrv, .int (nI rn)])), (qrd, .inl (cI, 20, .inl rd)), (qrv, .inl (cJ, 20, .inr (.inl rv))), (g, .inr (0, [.ref so, .ref lo, .ref qpr, .ref qpa, .int (nI dy), .long co, .long wo])), (qmi, .inl (cJ, 401, .inr (.inl mi)))] := by first | exact hD | simpa only [] using hD
        have eq1 : (nI (k_off rd rv mi dy v i)) = nI (k_off rd rv mi dy v (i + 1)) := (by first | exact congrArg nI (k_off_t (by omega) (Int64.not_le.mp hc72)) | exact congrArg nI (k_off_f (fun h => absurd h.2 (Int64.not_lt.mpr hc72))) | exact congrArg nI (k_off_f (fun h => by omega)))
        rw [eq1] at hl
        exact ih13 (by omega) _ _ _ ⟨hP, hD, hS, lv_sub hl [2, 3, 4, 0] rfl⟩
      · -- 46 not taken
        rw [nI_ltI (by omega) (by omega)] at hc46
        refine lv_aload_n hx hb dX_off_49 rfl (lv_at hl 1 rfl) ?_
        refine va_get (D := (dC, dI)) (ci := 4) (v := .ref rg) (C := R_X) (T := T_X) (N := 6) hx hb htw in_X hown hK hP 0 rfl rfl 2 (by decide) (htw _ m_143) (fun _ h9 => h9) rfl dX_off_50 ?_
        refine va_get (D := (dC, dI)) (ci := 2) (v := .ref qrv) (C := R_D) (T := T_D) (N := 3) hx hb htw in_D hown hK hP 1 rfl rfl 1 (by decide) (htw _ m_97) (fun _ h9 => h9) rfl dX_off_53 ?_
        refine lv_iload hx hb dX_off_56 (lv_at hl 4 rfl) ?_
        refine xa_lald hx hb hK hP 3 1 rfl rfl (i := i) (by omega) (by decide) dX_off_58 ?_
        refine lv_aload_n hx hb dX_off_59 rfl (lv_at hl 1 rfl) ?_
        refine va_get (D := (dC, dI)) (ci := 4) (v := .ref qmi) (C := R_X) (T := T_X) (N := 6) hx hb htw in_X hown hK hP 0 rfl rfl 5 (by decide) (htw _ m_146) (fun _ h9 => h9) rfl dX_off_60 ?_
        refine lv_iload hx hb dX_off_63 (lv_at hl 0 rfl) ?_
        refine xa_lald hx hb hK hP 5 1 rfl rfl (i := (k_d rd i)) (by omega) (by decide) dX_off_65 ?_
        refine lv_lsub hx hb dX_off_66 ?_
        refine va_mabs_long hx hb (by rw [hml]; exact hl.1.symm) hown (htw _ m_344) (htw _ m_345) (htw _ m_7) (htw _ m_346) (Nat.le_of_ble_eq_true rfl) (Nat.le_of_ble_eq_true rfl) (Nat.le_of_ble_eq_true rfl) (Nat.le_of_ble_eq_true rfl) dX_off_67 ?_
        refine lv_topl (fun kv ekv => ?_)
        obtain rfl : k_ab (rv i - mi (k_d rd i)) = kv := (ekv.trans (rfl)).symm
        refine lv_lload_n hx hb dX_off_70 rfl (lv_at hl 2 rfl) ?_
        refine W.lcmp hx hb dX_off_71 ?_
        refine lv_if_le (tgt := 78) hx hb dX_off_72 (by decide) (fun hc72 => ?_) (fun hc72 => ?_)
        · -- 72 taken
          rw [lg_cmp_le] at hc72
          refine lv_iinc (v := nI (i + 1)) (lv' := [(4, .int (nI (i + 1))), (5, .int (nI (k_d rd i))), (0, .ref xx), (1, .long v), (3, .int (nI (k_off rd rv mi dy v i)))]) hx hb dX_off_78 hl (k := 4) rfl (nI_1 _) (by decide) rfl (fun ls hl => ?_)
          refine lv_goto (tgt := 13) hx hb dX_off_81 (by decide) ?_
          have hP : va_P (dC, dI) vwCl [(xx, .inr (4, [.ref so, .ref lo, .ref rg, .ref g, .ref g2, .ref qmi])), (rg, .inr (2, [.ref qrd, .ref qrv, .int (nI rn)])), (qrd, .inl (cI, 20, .inl rd)), (qrv, .inl (cJ, 20, .inr (.inl rv))), (g, .inr (0, [.ref so, .ref lo, .ref qpr, .ref qpa, .int (nI dy), .long co, .long wo])), (qmi, .inl (cJ, 401, .inr (.inl mi)))] H := by first | exact hP | simpa only [] using hP
          have hD : va_D A [(xx, .inr (4, [.ref so, .ref lo, .ref rg, .ref g, .ref g2, .ref qmi])), (rg, .inr (2, [.ref qrd, .ref qrv, .int (nI rn)])), (qrd, .inl (cI, 20, .inl rd)), (qrv, .inl (cJ, 20, .inr (.inl rv))), (g, .inr (0, [.ref so, .ref lo, .ref qpr, .ref qpa, .int (nI dy), .long co, .long wo])), (qmi, .inl (cJ, 401, .inr (.inl mi)))] := by first | exact hD | simpa only [] using hD
          have eq2 : (nI (k_off rd rv mi dy v i)) = nI (k_off rd rv mi dy v (i + 1)) := (by first | exact congrArg nI (k_off_t (by omega) (Int64.not_le.mp hc72)) | exact congrArg nI (k_off_f (fun h => absurd h.2 (Int64.not_lt.mpr hc72))) | exact congrArg nI (k_off_f (fun h => by omega)))
          rw [eq2] at hl
          exact ih13 (by omega) _ _ _ ⟨hP, hD, hS, lv_sub hl [2, 3, 4, 0] rfl⟩
        · -- 72 not taken
          rw [lg_cmp_le] at hc72
          refine lv_iinc (v := nI (k_off rd rv mi dy v i + 1)) (lv' := [(3, .int (nI (k_off rd rv mi dy v i + 1))), (5, .int (nI (k_d rd i))), (0, .ref xx), (1, .long v), (4, .int (nI i))]) hx hb dX_off_75 hl (k := 3) rfl (nI_1 _) (by decide) rfl (fun ls hl => ?_)
          refine lv_iinc (v := nI (i + 1)) (lv' := [(4, .int (nI (i + 1))), (3, .int (nI (k_off rd rv mi dy v i + 1))), (5, .int (nI (k_d rd i))), (0, .ref xx), (1, .long v)]) hx hb dX_off_78 hl (k := 4) rfl (nI_1 _) (by decide) rfl (fun ls hl => ?_)
          refine lv_goto (tgt := 13) hx hb dX_off_81 (by decide) ?_
          have hP : va_P (dC, dI) vwCl [(xx, .inr (4, [.ref so, .ref lo, .ref rg, .ref g, .ref g2, .ref qmi])), (rg, .inr (2, [.ref qrd, .ref qrv, .int (nI rn)])), (qrd, .inl (cI, 20, .inl rd)), (qrv, .inl (cJ, 20, .inr (.inl rv))), (g, .inr (0, [.ref so, .ref lo, .ref qpr, .ref qpa, .int (nI dy), .long co, .long wo])), (qmi, .inl (cJ, 401, .inr (.inl mi)))] H := by first | exact hP | simpa only [] using hP
          have hD : va_D A [(xx, .inr (4, [.ref so, .ref lo, .ref rg, .ref g, .ref g2, .ref qmi])), (rg, .inr (2, [.ref qrd, .ref qrv, .int (nI rn)])), (qrd, .inl (cI, 20, .inl rd)), (qrv, .inl (cJ, 20, .inr (.inl rv))), (g, .inr (0, [.ref so, .ref lo, .ref qpr, .ref qpa, .int (nI dy), .long co, .long wo])), (qmi, .inl (cJ, 401, .inr (.inl mi)))] := by first | exact hD | simpa only [] using hD
          have eq3 : (nI (k_off rd rv mi dy v i + 1)) = nI (k_off rd rv mi dy v (i + 1)) := (by first | exact congrArg nI (k_off_t (by omega) (Int64.not_le.mp hc72)) | exact congrArg nI (k_off_f (fun h => absurd h.2 (Int64.not_lt.mpr hc72))) | exact congrArg nI (k_off_f (fun h => by omega)))
          rw [eq3] at hl
          exact ih13 (by omega) _ _ _ ⟨hP, hD, hS, lv_sub hl [3, 4, 1, 0] rfl⟩
  · -- 3 not taken
    rw [lg_cmp_ge] at hc3
    exact absurd (Int64.not_le.mp hc3) hv
set_option maxHeartbeats 4000000 in
set_option maxRecDepth 100000 in
theorem kX_off_bad (l : Launch) (dC : Nat → ClassId) (dI : Nat → Nat → Nat) (cI cJ : ClassId) (xx so lo rg g g2 qmi qrd qrv qpr qpa : Nat) (sz : Nat) (v : Int64) (rn : Nat) (rd : Nat → Int32) (rv : Nat → Int64) (dy : Nat) (co : Int64) (wo : Int64) (mi : Nat → Int64) (hv : v < 0) : Met l yX_off wX_off ({ frames := 0, cells := 0, slots := 0, locals := 0 }) (va_Pc [.ref xx, .long v] (fun U => U.heap.size = sz ∧ va_P (dC, dI) vwCl [(xx, .inr (4, [.ref so, .ref lo, .ref rg, .ref g, .ref g2, .ref qmi])), (rg, .inr (2, [.ref qrd, .ref qrv, .int (nI rn)])), (qrd, .inl (cI, 20, .inl rd)), (qrv, .inl (cJ, 20, .inr (.inl rv))), (g, .inr (0, [.ref so, .ref lo, .ref qpr, .ref qpa, .int (nI dy), .long co, .long wo])), (qmi, .inl (cJ, 401, .inr (.inl mi)))] U.heap ∧ va_K (dC, dI) vwCl [(cI, .int), (cJ, .long)] U ∧ va_D (fun _ => True) [(xx, .inr (4, [.ref so, .ref lo, .ref rg, .ref g, .ref g2, .ref qmi])), (rg, .inr (2, [.ref qrd, .ref qrv, .int (nI rn)])), (qrd, .inl (cI, 20, .inl rd)), (qrv, .inl (cJ, 20, .inr (.inl rv))), (g, .inr (0, [.ref so, .ref lo, .ref qpr, .ref qpa, .int (nI dy), .long co, .long wo])), (qmi, .inl (cJ, 401, .inr (.inl mi)))])) (va_Qi (fun res_ (_ : Unit) => res_ = (-1)) (fun _ t => va_P (dC, dI) vwCl [(xx, .inr (4, [.ref so, .ref lo, .ref rg, .ref g, .ref g2, .ref qmi])), (rg, .inr (2, [.ref qrd, .ref qrv, .int (nI rn)])), (qrd, .inl (cI, 20, .inl rd)), (qrv, .inl (cJ, 20, .inr (.inl rv))), (g, .inr (0, [.ref so, .ref lo, .ref qpr, .ref qpa, .int (nI dy), .long co, .long wo])), (qmi, .inl (cJ, 401, .inr (.inl mi)))] t.heap ∧ va_K (dC, dI) vwCl [(cI, .int), (cJ, .long)] t ∧ va_D (va_A [(xx, .inr (4, [.ref so, .ref lo, .ref rg, .ref g, .ref g2, .ref qmi])), (rg, .inr (2, [.ref qrd, .ref qrv, .int (nI rn)])), (qrd, .inl (cI, 20, .inl rd)), (qrv, .inl (cJ, 20, .inr (.inl rv))), (g, .inr (0, [.ref so, .ref lo, .ref qpr, .ref qpa, .int (nI dy), .long co, .long wo])), (qmi, .inl (cJ, 401, .inr (.inl mi)))] sz) [(xx, .inr (4, [.ref so, .ref lo, .ref rg, .ref g, .ref g2, .ref qmi])), (rg, .inr (2, [.ref qrd, .ref qrv, .int (nI rn)])), (qrd, .inl (cI, 20, .inl rd)), (qrv, .inl (cJ, 20, .inr (.inl rv))), (g, .inr (0, [.ref so, .ref lo, .ref qpr, .ref qpa, .int (nI dy), .long co, .long wo])), (qmi, .inl (cJ, 401, .inr (.inl mi)))]) (va_A [(xx, .inr (4, [.ref so, .ref lo, .ref rg, .ref g, .ref g2, .ref qmi])), (rg, .inr (2, [.ref qrd, .ref qrv, .int (nI rn)])), (qrd, .inl (cI, 20, .inl rd)), (qrv, .inl (cJ, 20, .inr (.inl rv))), (g, .inr (0, [.ref so, .ref lo, .ref qpr, .ref qpa, .int (nI dy), .long co, .long wo])), (qmi, .inl (cJ, 401, .inr (.inl mi)))] sz)) 0 0 (va_A [(xx, .inr (4, [.ref so, .ref lo, .ref rg, .ref g, .ref g2, .ref qmi])), (rg, .inr (2, [.ref qrd, .ref qrv, .int (nI rn)])), (qrd, .inl (cI, 20, .inl rd)), (qrv, .inl (cJ, 20, .inr (.inl rv))), (g, .inr (0, [.ref so, .ref lo, .ref qpr, .ref qpa, .int (nI dy), .long co, .long wo])), (qmi, .inl (cJ, 401, .inr (.inl mi)))] sz) := by
  refine Met.ofW (cc := bX_off) (maxL := 6) (ret := (some .int)) (by decide) rfl ?_
  intro p e s m args below meth c s₁ B hml hv
  obtain ⟨rfl, hsz, hP, hK, hD0⟩ := hv
  have hx := B.exec
  have hb := B.bytes
  have hr := B.returns
  have hts := atoms_spec (ws := wX_off) B.pre
  have hown : s.vm.findClass R_X = some m.cls := findClass_of_methodNamed B.named
  have htw : ∀ w ∈ WA, w.before _ s = true := fun w h => hts w (List.mem_cons_of_mem _ h)
  clear hts
  have hlocks := B.notSynchronized
  subst hsz
  have hD := hD0.self (sz := s.heap.size)
  generalize hAe : va_A [(xx, .inr (4, [.ref so, .ref lo, .ref rg, .ref g, .ref g2, .ref qmi])), (rg, .inr (2, [.ref qrd, .ref qrv, .int (nI rn)])), (qrd, .inl (cI, 20, .inl rd)), (qrv, .inl (cJ, 20, .inr (.inl rv))), (g, .inr (0, [.ref so, .ref lo, .ref qpr, .ref qpa, .int (nI dy), .long co, .long wo])), (qmi, .inl (cJ, 401, .inr (.inl mi)))] s.heap.size = A at hD ⊢
  have hA : ∀ q : Nat, s.heap.size ≤ q → A q := fun q h => by rw [← hAe]; exact Or.inr h
  clear hAe hD0
  have hS : va_S A s.heap s.heap [] := va_S.rf
  have hP : va_P (dC, dI) vwCl [(xx, .inr (4, [.ref so, .ref lo, .ref rg, .ref g, .ref g2, .ref qmi])), (rg, .inr (2, [.ref qrd, .ref qrv, .int (nI rn)])), (qrd, .inl (cI, 20, .inl rd)), (qrv, .inl (cJ, 20, .inr (.inl rv))), (g, .inr (0, [.ref so, .ref lo, .ref qpr, .ref qpa, .int (nI dy), .long co, .long wo])), (qmi, .inl (cJ, 401, .inr (.inl mi)))] s.heap := hP
  have hl := lv_entry ([.ref xx, .long v]) (n := 6) (Nat.le_of_ble_eq_true rfl)
  rw [lg_entry_eq]
  generalize (lg_sl ([.ref xx, .long v]) ++ List.replicate (6 - (lg_sl ([.ref xx, .long v])).length) Slot.unset).toArray = ls at hl ⊢
  have hl : lv_has ls 6 [(0, .ref xx), (1, .long v)] := hl
  refine lv_lload_n hx hb dX_off_0 rfl (lv_at hl 1 rfl) ?_
  refine lv_lconst (v := 0) hx hb dX_off_1 (by decide) ?_
  refine W.lcmp hx hb dX_off_2 ?_
  refine lv_if_ge (tgt := 8) hx hb dX_off_3 (by decide) (fun hc3 => ?_) (fun hc3 => ?_)
  · -- 3 taken
    rw [lg_cmp_ge] at hc3
    exact absurd hv (Int64.not_lt.mpr hc3)
  · -- 3 not taken
    rw [lg_cmp_ge] at hc3
    refine lv_iconst (v := (-1)) hx hb dX_off_6 (by decide) ?_
    have hP : va_P (dC, dI) vwCl [(xx, .inr (4, [.ref so, .ref lo, .ref rg, .ref g, .ref g2, .ref qmi])), (rg, .inr (2, [.ref qrd, .ref qrv, .int (nI rn)])), (qrd, .inl (cI, 20, .inl rd)), (qrv, .inl (cJ, 20, .inr (.inl rv))), (g, .inr (0, [.ref so, .ref lo, .ref qpr, .ref qpa, .int (nI dy), .long co, .long wo])), (qmi, .inl (cJ, 401, .inr (.inl mi)))] s.heap := by first | exact hP | simpa only [] using hP
    have hD : va_D A [(xx, .inr (4, [.ref so, .ref lo, .ref rg, .ref g, .ref g2, .ref qmi])), (rg, .inr (2, [.ref qrd, .ref qrv, .int (nI rn)])), (qrd, .inl (cI, 20, .inl rd)), (qrv, .inl (cJ, 20, .inr (.inl rv))), (g, .inr (0, [.ref so, .ref lo, .ref qpr, .ref qpa, .int (nI dy), .long co, .long wo])), (qmi, .inl (cJ, 401, .inr (.inl mi)))] := by first | exact hD | simpa only [] using hD
    exact W.iret (v := (-1)) hx hb hr (fun t ht hW => ⟨⟨(-1), (), rfl, rfl, by rw [ht]; exact hP, va_K.moved hW.alike hK, hD⟩, hS.F ht⟩) hS.2.2 dX_off_7
