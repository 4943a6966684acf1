set_option maxHeartbeats 4000000 in
set_option maxRecDepth 100000 in
theorem kM_run_ok (l : Launch) (dC : Nat → ClassId) (dI : Nat → Nat → Nat) (cI cJ : ClassId) (mm qlo qlk qhd qsf qpr qpa qsk qld qlz qrd qrv qhi qfw qkp : Nat) (sz : Nat) (n : Nat) (ly : Nat) (ce : Nat) (co : Int64) (wo : Int64) (dy : Nat) (da : Int32) (db : Int32) (dr : Int32) (mn : Nat) (rn : Nat) (lof : Nat → Int32) (lk : Nat → Int32) (hd : Nat → Int32) (sf : Nat → Int32) (pr : Nat → Int64) (pa : Nat → Int64) (sk : Nat → Int64) (ld : Nat → Int32) (lz : Nat → Int32) (mi : Nat → Int64) (fw : Nat → Int64) (hdy : dy ≤ 400) (hmn : mn ≤ 12) (hce : ce ≤ 30) (hly : ly ≤ 30) (hn : n < 2147483648) (hok : (0 < ly ∧ 1 ≤ n ∧ n ≤ 60 ∧ n + dy ≤ 400)) : Met l yM_run wM_run ({ frames := 3, cells := 0, slots := 0, locals := 82 }) (va_Pc [.ref mm, .int (nI n)] (fun U => U.heap.size = sz ∧ va_P (dC, dI) vwCl [(mm, .inr (5, [.int (nI ly), .int (nI ce), .ref qlo, .ref qlk, .ref qhd, .ref qsf, .ref qpr, .ref qpa, .ref qsk, .long co, .long wo, .int (nI dy), .int da, .int db, .int dr, .int (nI mn), .ref qld, .ref qlz, .int (nI rn), .ref qrd, .ref qrv, .ref qhi, .ref qfw, .ref qkp])), (qlo, .inl (cI, 30, .inl lof)), (qlk, .inl (cI, 30, .inl lk)), (qhd, .inl (cI, 30, .inl hd)), (qsf, .inl (cI, 30, .inl sf)), (qpr, .inl (cJ, 30, .inr (.inl pr))), (qpa, .inl (cJ, 30, .inr (.inl pa))), (qsk, .inl (cJ, 30, .inr (.inl sk))), (qld, .inl (cI, 12, .inl ld)), (qlz, .inl (cI, 12, .inl lz)), (qhi, .inl (cJ, 401, .inr (.inl mi))), (qfw, .inl (cJ, 31, .inr (.inl fw)))] U.heap ∧ va_K (dC, dI) vwCl [(cI, .int), (cJ, .long)] U ∧ va_D (fun _ => True) [(mm, .inr (5, [.int (nI ly), .int (nI ce), .ref qlo, .ref qlk, .ref qhd, .ref qsf, .ref qpr, .ref qpa, .ref qsk, .long co, .long wo, .int (nI dy), .int da, .int db, .int dr, .int (nI mn), .ref qld, .ref qlz, .int (nI rn), .ref qrd, .ref qrv, .ref qhi, .ref qfw, .ref qkp])), (qlo, .inl (cI, 30, .inl lof)), (qlk, .inl (cI, 30, .inl lk)), (qhd, .inl (cI, 30, .inl hd)), (qsf, .inl (cI, 30, .inl sf)), (qpr, .inl (cJ, 30, .inr (.inl pr))), (qpa, .inl (cJ, 30, .inr (.inl pa))), (qsk, .inl (cJ, 30, .inr (.inl sk))), (qld, .inl (cI, 12, .inl ld)), (qlz, .inl (cI, 12, .inl lz)), (qhi, .inl (cJ, 401, .inr (.inl mi))), (qfw, .inl (cJ, 31, .inr (.inl fw)))])) (va_Qi (fun res_ (_ : Unit) => res_ = nI (dy + n)) (fun _ t => ∃ (fw2 : Nat → Int64), va_P (dC, dI) vwCl [(mm, .inr (5, [.int (nI ly), .int (nI ce), .ref qlo, .ref qlk, .ref qhd, .ref qsf, .ref qpr, .ref qpa, .ref qsk, .long (kD_c ld lz mn dy co n), .long (kD_w lk (k_lm lk) ce da db dr ld lz mn dy pr wo n), .int (nI (dy + n)), .int da, .int db, .int dr, .int (nI mn), .ref qld, .ref qlz, .int (nI rn), .ref qrd, .ref qrv, .ref qhi, .ref qfw, .ref qkp])), (qlo, .inl (cI, 30, .inl lof)), (qlk, .inl (cI, 30, .inl lk)), (qhd, .inl (cI, 30, .inl hd)), (qsf, .inl (cI, 30, .inl sf)), (qpr, .inl (cJ, 30, .inr (.inl (kD_p lk (k_lm lk) ce da db dr ld lz mn dy pr n)))), (qpa, .inl (cJ, 30, .inr (.inl (kD_a lk (k_lm lk) ce da db dr ld lz mn dy co pr pa n)))), (qsk, .inl (cJ, 30, .inr (.inl (kD_s hd sf lk (k_lm lk) ce da db dr ld lz mn dy co pr pa sk n)))), (qld, .inl (cI, 12, .inl ld)), (qlz, .inl (cI, 12, .inl lz)), (qhi, .inl (cJ, 401, .inr (.inl (kD_m dy (fun d => k_mu lof (kD_s hd sf lk (k_lm lk) ce da db dr ld lz mn dy co pr pa sk d) (-1) ce) mi n)))), (qfw, .inl (cJ, 31, .inr (.inl fw2)))] t.heap ∧ va_K (dC, dI) vwCl [(cI, .int), (cJ, .long)] t ∧ va_D (va_A [(mm, .inr (5, [.int (nI ly), .int (nI ce), .ref qlo, .ref qlk, .ref qhd, .ref qsf, .ref qpr, .ref qpa, .ref qsk, .long co, .long wo, .int (nI dy), .int da, .int db, .int dr, .int (nI mn), .ref qld, .ref qlz, .int (nI rn), .ref qrd, .ref qrv, .ref qhi, .ref qfw, .ref qkp])), (qlo, .inl (cI, 30, .inl lof)), (qlk, .inl (cI, 30, .inl lk)), (qhd, .inl (cI, 30, .inl hd)), (qsf, .inl (cI, 30, .inl sf)), (qpr, .inl (cJ, 30, .inr (.inl pr))), (qpa, .inl (cJ, 30, .inr (.inl pa))), (qsk, .inl (cJ, 30, .inr (.inl sk))), (qld, .inl (cI, 12, .inl ld)), (qlz, .inl (cI, 12, .inl lz)), (qhi, .inl (cJ, 401, .inr (.inl mi))), (qfw, .inl (cJ, 31, .inr (.inl fw)))] sz) [(mm, .inr (5, [.int (nI ly), .int (nI ce), .ref qlo, .ref qlk, .ref qhd, .ref qsf, .ref qpr, .ref qpa, .ref qsk, .long (kD_c ld lz mn dy co n), .long (kD_w lk (k_lm lk) ce da db dr ld lz mn dy pr wo n), .int (nI (dy + n)), .int da, .int db, .int dr, .int (nI mn), .ref qld, .ref qlz, .int (nI rn), .ref qrd, .ref qrv, .ref qhi, .ref qfw, .ref qkp])), (qlo, .inl (cI, 30, .inl lof)), (qlk, .inl (cI, 30, .inl lk)), (qhd, .inl (cI, 30, .inl hd)), (qsf, .inl (cI, 30, .inl sf)), (qpr, .inl (cJ, 30, .inr (.inl (kD_p lk (k_lm lk) ce da db dr ld lz mn dy pr n)))), (qpa, .inl (cJ, 30, .inr (.inl (kD_a lk (k_lm lk) ce da db dr ld lz mn dy co pr pa n)))), (qsk, .inl (cJ, 30, .inr (.inl (kD_s hd sf lk (k_lm lk) ce da db dr ld lz mn dy co pr pa sk n)))), (qld, .inl (cI, 12, .inl ld)), (qlz, .inl (cI, 12, .inl lz)), (qhi, .inl (cJ, 401, .inr (.inl (kD_m dy (fun d => k_mu lof (kD_s hd sf lk (k_lm lk) ce da db dr ld lz mn dy co pr pa sk d) (-1) ce) mi n)))), (qfw, .inl (cJ, 31, .inr (.inl fw2)))]) (va_A [(mm, .inr (5, [.int (nI ly), .int (nI ce), .ref qlo, .ref qlk, .ref qhd, .ref qsf, .ref qpr, .ref qpa, .ref qsk, .long co, .long wo, .int (nI dy), .int da, .int db, .int dr, .int (nI mn), .ref qld, .ref qlz, .int (nI rn), .ref qrd, .ref qrv, .ref qhi, .ref qfw, .ref qkp])), (qlo, .inl (cI, 30, .inl lof)), (qlk, .inl (cI, 30, .inl lk)), (qhd, .inl (cI, 30, .inl hd)), (qsf, .inl (cI, 30, .inl sf)), (qpr, .inl (cJ, 30, .inr (.inl pr))), (qpa, .inl (cJ, 30, .inr (.inl pa))), (qsk, .inl (cJ, 30, .inr (.inl sk))), (qld, .inl (cI, 12, .inl ld)), (qlz, .inl (cI, 12, .inl lz)), (qhi, .inl (cJ, 401, .inr (.inl mi))), (qfw, .inl (cJ, 31, .inr (.inl fw)))] sz)) 0 0 (va_A [(mm, .inr (5, [.int (nI ly), .int (nI ce), .ref qlo, .ref qlk, .ref qhd, .ref qsf, .ref qpr, .ref qpa, .ref qsk, .long co, .long wo, .int (nI dy), .int da, .int db, .int dr, .int (nI mn), .ref qld, .ref qlz, .int (nI rn), .ref qrd, .ref qrv, .ref qhi, .ref qfw, .ref qkp])), (qlo, .inl (cI, 30, .inl lof)), (qlk, .inl (cI, 30, .inl lk)), (qhd, .inl (cI, 30, .inl hd)), (qsf, .inl (cI, 30, .inl sf)), (qpr, .inl (cJ, 30, .inr (.inl pr))), (qpa, .inl (cJ, 30, .inr (.inl pa))), (qsk, .inl (cJ, 30, .inr (.inl sk))), (qld, .inl (cI, 12, .inl ld)), (qlz, .inl (cI, 12, .inl lz)), (qhi, .inl (cJ, 401, .inr (.inl mi))), (qfw, .inl (cJ, 31, .inr (.inl fw)))] sz) := by
  refine Met.ofW (cc := bM_run) (maxL := 3) (ret := (some .int)) (by decide) rfl ?_
  intro p e s m args below meth c s₁ B hml hv
  obtain ⟨rfl, hsz, hP, hK, hD0⟩ := hv
  have hx := B.exec
  have hb := B.bytes
  have hr := B.returns
  have hts := atoms_spec (ws := wM_run) B.pre
  have hown : s.vm.findClass R_M = some m.cls := findClass_of_methodNamed B.named
  have htw : ∀ w ∈ WA, w.before _ s = true := fun w h => hts w (List.mem_cons_of_mem _ h)
  clear hts
  have hlocks := B.notSynchronized
  subst hsz
  have hD := hD0.self (sz := s.heap.size)
  generalize hAe : va_A [(mm, .inr (5, [.int (nI ly), .int (nI ce), .ref qlo, .ref qlk, .ref qhd, .ref qsf, .ref qpr, .ref qpa, .ref qsk, .long co, .long wo, .int (nI dy), .int da, .int db, .int dr, .int (nI mn), .ref qld, .ref qlz, .int (nI rn), .ref qrd, .ref qrv, .ref qhi, .ref qfw, .ref qkp])), (qlo, .inl (cI, 30, .inl lof)), (qlk, .inl (cI, 30, .inl lk)), (qhd, .inl (cI, 30, .inl hd)), (qsf, .inl (cI, 30, .inl sf)), (qpr, .inl (cJ, 30, .inr (.inl pr))), (qpa, .inl (cJ, 30, .inr (.inl pa))), (qsk, .inl (cJ, 30, .inr (.inl sk))), (qld, .inl (cI, 12, .inl ld)), (qlz, .inl (cI, 12, .inl lz)), (qhi, .inl (cJ, 401, .inr (.inl mi))), (qfw, .inl (cJ, 31, .inr (.inl fw)))] s.heap.size = A at hD ⊢
  have hA : ∀ q : Nat, s.heap.size ≤ q → A q := fun q h => by rw [← hAe]; exact Or.inr h
  clear hAe hD0
  have hS : va_S A s.heap s.heap [] := va_S.rf
  have hP : va_P (dC, dI) vwCl [(mm, .inr (5, [.int (nI ly), .int (nI ce), .ref qlo, .ref qlk, .ref qhd, .ref qsf, .ref qpr, .ref qpa, .ref qsk, .long co, .long wo, .int (nI dy), .int da, .int db, .int dr, .int (nI mn), .ref qld, .ref qlz, .int (nI rn), .ref qrd, .ref qrv, .ref qhi, .ref qfw, .ref qkp])), (qlo, .inl (cI, 30, .inl lof)), (qlk, .inl (cI, 30, .inl lk)), (qhd, .inl (cI, 30, .inl hd)), (qsf, .inl (cI, 30, .inl sf)), (qpr, .inl (cJ, 30, .inr (.inl pr))), (qpa, .inl (cJ, 30, .inr (.inl pa))), (qsk, .inl (cJ, 30, .inr (.inl sk))), (qld, .inl (cI, 12, .inl ld)), (qlz, .inl (cI, 12, .inl lz)), (qhi, .inl (cJ, 401, .inr (.inl mi))), (qfw, .inl (cJ, 31, .inr (.inl fw)))] s.heap := hP
  have hl := lv_entry ([.ref mm, .int (nI n)]) (n := 3) (Nat.le_of_ble_eq_true rfl)
  rw [lg_entry_eq]
  generalize (lg_sl ([.ref mm, .int (nI n)]) ++ List.replicate (3 - (lg_sl ([.ref mm, .int (nI n)])).length) Slot.unset).toArray = ls at hl ⊢
  have hl : lv_has ls 3 [(0, .ref mm), (1, .int (nI n))] := hl
  refine lv_iload_n hx hb dM_run_0 rfl (lv_at hl 1 rfl) ?_
  refine lv_i2l (v := (nI n).toInt64) hx hb dM_run_1 rfl ?_
  refine lv_lconst (v := 1) hx hb dM_run_2 (by decide) ?_
  refine lv_ldc2 (v := 60) hx hb hown (htw _ m_456) dM_run_3 ?_
  have hPc := hP.sub (ws' := []) [] rfl
  have hDc := hD.sub (ws' := []) [] (by decide) rfl
  have hFc := va_free (wc := []) hD hS hA [] rfl
  refine va_calli (va_runS (As := [.long ((nI n).toInt64), .long 1, .long 60]) (rest := []) ⟨hx, hb, hml, hown, htw⟩ (kM_in l dC dI cI cJ s.heap.size ((nI n).toInt64) 1 60) (va_cwS 3 htw (ws_good m_435 m_436 m_6 m_437) rfl rfl rfl (by decide +kernel) ⟨Nat.le_of_ble_eq_true rfl, Nat.le_of_ble_eq_true rfl⟩) ⟨fun a U g mk q => by obtain ⟨q0, q1, qP, qK, qD⟩ := q; exact ⟨q0, q1, qP, va_K.moved (u := U) (U := U.calling g mk a) (Vm.Alike.refl U.vm) qK, qD⟩, fun U hU hW => ⟨rfl, by rw [hU], by rw [hU]; exact hPc, va_K.moved hW.alike hK, hDc.weaken (fun _ _ _ _ => trivial)⟩⟩ rfl rfl hl.1 rfl (lv_room (Nat.le_of_ble_eq_true rfl)) dM_run_6 ⟨Nat.le_of_ble_eq_true rfl, Nat.le_of_ble_eq_true rfl⟩) hS (fun q _ h => hFc q h) hFc (fun res_ u_ t H1 locs ht hvm hw hB hz1 hk1 hS => ?_)
  obtain ⟨hP1, hK1, hD1⟩ := hB
  rw [ht] at hP1
  obtain ⟨hP, hD⟩ := va_join (wr := [(mm, .inr (5, [.int (nI ly), .int (nI ce), .ref qlo, .ref qlk, .ref qhd, .ref qsf, .ref qpr, .ref qpa, .ref qsk, .long co, .long wo, .int (nI dy), .int da, .int db, .int dr, .int (nI mn), .ref qld, .ref qlz, .int (nI rn), .ref qrd, .ref qrv, .ref qhi, .ref qfw, .ref qkp])), (qlo, .inl (cI, 30, .inl lof)), (qlk, .inl (cI, 30, .inl lk)), (qhd, .inl (cI, 30, .inl hd)), (qsf, .inl (cI, 30, .inl sf)), (qpr, .inl (cJ, 30, .inr (.inl pr))), (qpa, .inl (cJ, 30, .inr (.inl pa))), (qsk, .inl (cJ, 30, .inr (.inl sk))), (qld, .inl (cI, 12, .inl ld)), (qlz, .inl (cI, 12, .inl lz)), (qhi, .inl (cJ, 401, .inr (.inl mi))), (qfw, .inl (cJ, 31, .inr (.inl fw)))]) (w1 := []) hP hD [] [0, 1, 2, 3, 4, 5, 6, 7, 8, 9, 10, 11] rfl rfl (by decide) (by decide) hk1 hFc hP1 hD1
  generalize H1 = H at hP hS ⊢
  have hP : va_P (dC, dI) vwCl [(mm, .inr (5, [.int (nI ly), .int (nI ce), .ref qlo, .ref qlk, .ref qhd, .ref qsf, .ref qpr, .ref qpa, .ref qsk, .long co, .long wo, .int (nI dy), .int da, .int db, .int dr, .int (nI mn), .ref qld, .ref qlz, .int (nI rn), .ref qrd, .ref qrv, .ref qhi, .ref qfw, .ref qkp])), (qlo, .inl (cI, 30, .inl lof)), (qlk, .inl (cI, 30, .inl lk)), (qhd, .inl (cI, 30, .inl hd)), (qsf, .inl (cI, 30, .inl sf)), (qpr, .inl (cJ, 30, .inr (.inl pr))), (qpa, .inl (cJ, 30, .inr (.inl pa))), (qsk, .inl (cJ, 30, .inr (.inl sk))), (qld, .inl (cI, 12, .inl ld)), (qlz, .inl (cI, 12, .inl lz)), (qhi, .inl (cJ, 401, .inr (.inl mi))), (qfw, .inl (cJ, 31, .inr (.inl fw)))] H := hP
  have hD : va_D A [(mm, .inr (5, [.int (nI ly), .int (nI ce), .ref qlo, .ref qlk, .ref qhd, .ref qsf, .ref qpr, .ref qpa, .ref qsk, .long co, .long wo, .int (nI dy), .int da, .int db, .int dr, .int (nI mn), .ref qld, .ref qlz, .int (nI rn), .ref qrd, .ref qrv, .ref qhi, .ref qfw, .ref qkp])), (qlo, .inl (cI, 30, .inl lof)), (qlk, .inl (cI, 30, .inl lk)), (qhd, .inl (cI, 30, .inl hd)), (qsf, .inl (cI, 30, .inl sf)), (qpr, .inl (cJ, 30, .inr (.inl pr))), (qpa, .inl (cJ, 30, .inr (.inl pa))), (qsk, .inl (cJ, 30, .inr (.inl sk))), (qld, .inl (cI, 12, .inl ld)), (qlz, .inl (cI, 12, .inl lz)), (qhi, .inl (cJ, 401, .inr (.inl mi))), (qfw, .inl (cJ, 31, .inr (.inl fw)))] := hD
  clear hPc hDc hFc hP1 hD1 hK1 hk1 hz1 hvm ht
  obtain rfl : kb (1 ≤ ((nI n).toInt64) ∧ ((nI n).toInt64) ≤ 60) = res_ := hw.symm
  refine lv_if_eq (tgt := 31) hx hb dM_run_9 (by decide) (fun hc9 => ?_) (fun hc9 => ?_)
  · -- 9 taken
    rw [kb_eq0, k_wl, show ((1 : Int64)).toInt = 1 from by decide, show ((60 : Int64)).toInt = 60 from by decide] at hc9
    simp only [Int32.toInt_toInt64] at hc9
    rw [nI_toInt (n := n) (by omega)] at hc9
    exfalso; omega
  · -- 9 not taken
    rw [kb_eq0, k_wl, show ((1 : Int64)).toInt = 1 from by decide, show ((60 : Int64)).toInt = 60 from by decide] at hc9
    simp only [Int32.toInt_toInt64] at hc9
    rw [nI_toInt (n := n) (by omega)] at hc9
    refine lv_aload_n hx hb dM_run_12 rfl (lv_at hl 0 rfl) ?_
    refine va_get (D := (dC, dI)) (ci := 5) (v := .int (nI dy)) (C := R_M) (T := T_M) (N := 24) hx hb htw in_M hown hK hP 0 rfl rfl 11 (by decide) (htw _ m_368) (fun _ h9 => h9) rfl dM_run_13 ?_
    refine lv_iload_n hx hb dM_run_16 rfl (lv_at hl 1 rfl) ?_
    refine lv_iadd hx hb dM_run_17 ?_
    refine lv_topi (fun kv ekv => ?_)
    obtain rfl : kv = nI (dy + n) := by rw [ekv]; exact nI_add _ _
    refine lv_sipush (v := nI 400) hx hb dM_run_18 (by decide) ?_
    refine lv_icmp_gt (tgt := 31) hx hb dM_run_21 (by decide) (fun hc21 => ?_) (fun hc21 => ?_)
    · -- 21 taken
      rw [nI_ltI (by omega) (by omega)] at hc21
      exfalso; omega
    · -- 21 not taken
      rw [nI_ltI (by omega) (by omega)] at hc21
      refine lv_aload_n hx hb dM_run_24 rfl (lv_at hl 0 rfl) ?_
      refine va_get (D := (dC, dI)) (ci := 5) (v := .int (nI ly)) (C := R_M) (T := T_M) (N := 24) hx hb htw in_M hown hK hP 0 rfl rfl 0 (by decide) (htw _ m_357) (fun _ h9 => h9) rfl dM_run_25 ?_
      refine lv_if_ne (tgt := 33) hx hb dM_run_28 (by decide) (fun hc28 => ?_) (fun hc28 => ?_)
      · -- 28 taken
        rw [show (0 : Int32) = nI 0 from rfl, nI_eq (by omega) (by omega)] at hc28
        refine lv_iconst (v := nI 0) hx hb dM_run_33 (by decide) ?_
        refine lv_istore_n (lv' := [(2, .int (nI 0)), (0, .ref mm), (1, .int (nI n))]) hx hb dM_run_34 rfl hl (by decide) rfl (fun ls hl => ?_)
        -- the loop at 35
        have hP : va_P (dC, dI) vwCl [(mm, .inr (5, [.int (nI ly), .int (nI ce), .ref qlo, .ref qlk, .ref qhd, .ref qsf, .ref qpr, .ref qpa, .ref qsk, .long (kD_c ld lz mn dy co 0), .long (kD_w lk (k_lm lk) ce da db dr ld lz mn dy pr wo 0), .int (nI (dy + 0)), .int da, .int db, .int dr, .int (nI mn), .ref qld, .ref qlz, .int (nI rn), .ref qrd, .ref qrv, .ref qhi, .ref qfw, .ref qkp])), (qlo, .inl (cI, 30, .inl lof)), (qlk, .inl (cI, 30, .inl lk)), (qhd, .inl (cI, 30, .inl hd)), (qsf, .inl (cI, 30, .inl sf)), (qpr, .inl (cJ, 30, .inr (.inl (kD_p lk (k_lm lk) ce da db dr ld lz mn dy pr 0)))), (qpa, .inl (cJ, 30, .inr (.inl (kD_a lk (k_lm lk) ce da db dr ld lz mn dy co pr pa 0)))), (qsk, .inl (cJ, 30, .inr (.inl (kD_s hd sf lk (k_lm lk) ce da db dr ld lz mn dy co pr pa sk 0)))), (qld, .inl (cI, 12, .inl ld)), (qlz, .inl (cI, 12, .inl lz)), (qhi, .inl (cJ, 401, .inr (.inl (kD_m dy (fun d => k_mu lof (kD_s hd sf lk (k_lm lk) ce da db dr ld lz mn dy co pr pa sk d) (-1) ce) mi 0)))), (qfw, .inl (cJ, 31, .inr (.inl fw)))] H := by first | exact hP | simpa only [] using hP
        have hD : va_D A [(mm, .inr (5, [.int (nI ly), .int (nI ce), .ref qlo, .ref qlk, .ref qhd, .ref qsf, .ref qpr, .ref qpa, .ref qsk, .long (kD_c ld lz mn dy co 0), .long (kD_w lk (k_lm lk) ce da db dr ld lz mn dy pr wo 0), .int (nI (dy + 0)), .int da, .int db, .int dr, .int (nI mn), .ref qld, .ref qlz, .int (nI rn), .ref qrd, .ref qrv, .ref qhi, .ref qfw, .ref qkp])), (qlo, .inl (cI, 30, .inl lof)), (qlk, .inl (cI, 30, .inl lk)), (qhd, .inl (cI, 30, .inl hd)), (qsf, .inl (cI, 30, .inl sf)), (qpr, .inl (cJ, 30, .inr (.inl (kD_p lk (k_lm lk) ce da db dr ld lz mn dy pr 0)))), (qpa, .inl (cJ, 30, .inr (.inl (kD_a lk (k_lm lk) ce da db dr ld lz mn dy co pr pa 0)))), (qsk, .inl (cJ, 30, .inr (.inl (kD_s hd sf lk (k_lm lk) ce da db dr ld lz mn dy co pr pa sk 0)))), (qld, .inl (cI, 12, .inl ld)), (qlz, .inl (cI, 12, .inl lz)), (qhi, .inl (cJ, 401, .inr (.inl (kD_m dy (fun d => k_mu lof (kD_s hd sf lk (k_lm lk) ce da db dr ld lz mn dy co pr pa sk d) (-1) ce) mi 0)))), (qfw, .inl (cJ, 31, .inr (.inl fw)))] := by first | exact hD | simpa only [] using hD
        refine x_loop (N := n) (I := fun i H locs ls => ∃ (fw3 : Nat → Int64), va_P (dC, dI) vwCl [(mm, .inr (5, [.int (nI ly), .int (nI ce), .ref qlo, .ref qlk, .ref qhd, .ref qsf, .ref qpr, .ref qpa, .ref qsk, .long (kD_c ld lz mn dy co i), .long (kD_w lk (k_lm lk) ce da db dr ld lz mn dy pr wo i), .int (nI (dy + i)), .int da, .int db, .int dr, .int (nI mn), .ref qld, .ref qlz, .int (nI rn), .ref qrd, .ref qrv, .ref qhi, .ref qfw, .ref qkp])), (qlo, .inl (cI, 30, .inl lof)), (qlk, .inl (cI, 30, .inl lk)), (qhd, .inl (cI, 30, .inl hd)), (qsf, .inl (cI, 30, .inl sf)), (qpr, .inl (cJ, 30, .inr (.inl (kD_p lk (k_lm lk) ce da db dr ld lz mn dy pr i)))), (qpa, .inl (cJ, 30, .inr (.inl (kD_a lk (k_lm lk) ce da db dr ld lz mn dy co pr pa i)))), (qsk, .inl (cJ, 30, .inr (.inl (kD_s hd sf lk (k_lm lk) ce da db dr ld lz mn dy co pr pa sk i)))), (qld, .inl (cI, 12, .inl ld)), (qlz, .inl (cI, 12, .inl lz)), (qhi, .inl (cJ, 401, .inr (.inl (kD_m dy (fun d => k_mu lof (kD_s hd sf lk (k_lm lk) ce da db dr ld lz mn dy co pr pa sk d) (-1) ce) mi i)))), (qfw, .inl (cJ, 31, .inr (.inl fw3)))] H ∧ va_D A [(mm, .inr (5, [.int (nI ly), .int (nI ce), .ref qlo, .ref qlk, .ref qhd, .ref qsf, .ref qpr, .ref qpa, .ref qsk, .long (kD_c ld lz mn dy co i), .long (kD_w lk (k_lm lk) ce da db dr ld lz mn dy pr wo i), .int (nI (dy + i)), .int da, .int db, .int dr, .int (nI mn), .ref qld, .ref qlz, .int (nI rn), .ref qrd, .ref qrv, .ref qhi, .ref qfw, .ref qkp])), (qlo, .inl (cI, 30, .inl lof)), (qlk, .inl (cI, 30, .inl lk)), (qhd, .inl (cI, 30, .inl hd)), (qsf, .inl (cI, 30, .inl sf)), (qpr, .inl (cJ, 30, .inr (.inl (kD_p lk (k_lm lk) ce da db dr ld lz mn dy pr i)))), (qpa, .inl (cJ, 30, .inr (.inl (kD_a lk (k_lm lk) ce da db dr ld lz mn dy co pr pa i)))), (qsk, .inl (cJ, 30, .inr (.inl (kD_s hd sf lk (k_lm lk) ce da db dr ld lz mn dy co pr pa sk i)))), (qld, .inl (cI, 12, .inl ld)), (qlz, .inl (cI, 12, .inl lz)), (qhi, .inl (cJ, 401, .inr (.inl (kD_m dy (fun d => k_mu lof (kD_s hd sf lk (k_lm lk) ce da db dr ld lz mn dy co pr pa sk d) (-1) ce) mi i)))), (qfw, .inl (cJ, 31, .inr (.inl fw3)))] ∧ va_S A s.heap H locs ∧ lv_has ls 3 [(0, .ref mm), (1, .int (nI n)), (2, .int (nI i))]) (i0 := 0) ?_ (Nat.zero_le _) ⟨fw, hP, hD, hS, lv_sub hl [1, 2, 0] rfl⟩
        intro i hi ih35 H locs ls hI
        obtain ⟨fw3, hP, hD, hS, hl⟩ := hI
        refine lv_iload_n hx hb dM_run_35 rfl (lv_at hl 2 rfl) ?_
        refine lv_iload_n hx hb dM_run_36 rfl (lv_at hl 1 rfl) ?_
        refine lv_icmp_ge (tgt := 83) hx hb dM_run_37 (by decide) (fun hc37 => ?_) (fun hc37 => ?_)
        · -- 37 taken
          rw [nI_leI (by omega) (by omega)] at hc37
          obtain rfl : n = i := by omega
          refine lv_aload_n hx hb dM_run_83 rfl (lv_at hl 0 rfl) ?_
          refine va_get (D := (dC, dI)) (ci := 5) (v := .int (nI (dy + n))) (C := R_M) (T := T_M) (N := 24) hx hb htw in_M hown hK hP 0 rfl rfl 11 (by decide) (htw _ m_368) (fun _ h9 => h9) rfl dM_run_84 ?_
          have hP : va_P (dC, dI) vwCl [(mm, .inr (5, [.int (nI ly), .int (nI ce), .ref qlo, .ref qlk, .ref qhd, .ref qsf, .ref qpr, .ref qpa, .ref qsk, .long (kD_c ld lz mn dy co n), .long (kD_w lk (k_lm lk) ce da db dr ld lz mn dy pr wo n), .int (nI (dy + n)), .int da, .int db, .int dr, .int (nI mn), .ref qld, .ref qlz, .int (nI rn), .ref qrd, .ref qrv, .ref qhi, .ref qfw, .ref qkp])), (qlo, .inl (cI, 30, .inl lof)), (qlk, .inl (cI, 30, .inl lk)), (qhd, .inl (cI, 30, .inl hd)), (qsf, .inl (cI, 30, .inl sf)), (qpr, .inl (cJ, 30, .inr (.inl (kD_p lk (k_lm lk) ce da db dr ld lz mn dy pr n)))), (qpa, .inl (cJ, 30, .inr (.inl (kD_a lk (k_lm lk) ce da db dr ld lz mn dy co pr pa n)))), (qsk, .inl (cJ, 30, .inr (.inl (kD_s hd sf lk (k_lm lk) ce da db dr ld lz mn dy co pr pa sk n)))), (qld, .inl (cI, 12, .inl ld)), (qlz, .inl (cI, 12, .inl lz)), (qhi, .inl (cJ, 401, .inr (.inl (kD_m dy (fun d => k_mu lof (kD_s hd sf lk (k_lm lk) ce da db dr ld lz mn dy co pr pa sk d) (-1) ce) mi n)))), (qfw, .inl (cJ, 31, .inr (.inl fw3)))] H := by first | exact hP | simpa only [] using hP
          have hD : va_D A [(mm, .inr (5, [.int (nI ly), .int (nI ce), .ref qlo, .ref qlk, .ref qhd, .ref qsf, .ref qpr, .ref qpa, .ref qsk, .long (kD_c ld lz mn dy co n), .long (kD_w lk (k_lm lk) ce da db dr ld lz mn dy pr wo n), .int (nI (dy + n)), .int da, .int db, .int dr, .int (nI mn), .ref qld, .ref qlz, .int (nI rn), .ref qrd, .ref qrv, .ref qhi, .ref qfw, .ref qkp])), (qlo, .inl (cI, 30, .inl lof)), (qlk, .inl (cI, 30, .inl lk)), (qhd, .inl (cI, 30, .inl hd)), (qsf, .inl (cI, 30, .inl sf)), (qpr, .inl (cJ, 30, .inr (.inl (kD_p lk (k_lm lk) ce da db dr ld lz mn dy pr n)))), (qpa, .inl (cJ, 30, .inr (.inl (kD_a lk (k_lm lk) ce da db dr ld lz mn dy co pr pa n)))), (qsk, .inl (cJ, 30, .inr (.inl (kD_s hd sf lk (k_lm lk) ce da db dr ld lz mn dy co pr pa sk n)))), (qld, .inl (cI, 12, .inl ld)), (qlz, .inl (cI, 12, .inl lz)), (qhi, .inl (cJ, 401, .inr (.inl (kD_m dy (fun d => k_mu lof (kD_s hd sf lk (k_lm lk) ce da db dr ld lz mn dy co pr pa sk d) (-1) ce) mi n)))), (qfw, .inl (cJ, 31, .inr (.inl fw3)))] := by first | exact hD | simpa only [] using hD
          exact W.iret (v := nI (dy + n)) hx hb hr (fun t ht hW => ⟨⟨nI (dy + n), (), rfl, rfl, fw3, by rw [ht]; exact hP, va_K.moved hW.alike hK, hD⟩, hS.F ht⟩) hS.2.2 dM_run_87
        · -- 37 not taken
          rw [nI_leI (by omega) (by omega)] at hc37
          refine lv_aload_n hx hb dM_run_40 rfl (lv_at hl 0 rfl) ?_
          refine lv_aload_n hx hb dM_run_41 rfl (lv_at hl 0 rfl) ?_
          refine va_get (D := (dC, dI)) (ci := 5) (v := .int (nI (dy + i))) (C := R_M) (T := T_M) (N := 24) hx hb htw in_M hown hK hP 0 rfl rfl 11 (by decide) (htw _ m_368) (fun _ h9 => h9) rfl dM_run_42 ?_
          refine lv_lconst (v := 0) hx hb dM_run_45 (by decide) ?_
          have hPc := hP.sub (ws' := [(mm, .inr (5, [.int (nI ly), .int (nI ce), .ref qlo, .ref qlk, .ref qhd, .ref qsf, .ref qpr, .ref qpa, .ref qsk, .long (kD_c ld lz mn dy co i), .long (kD_w lk (k_lm lk) ce da db dr ld lz mn dy pr wo i), .int (nI (dy + i)), .int da, .int db, .int dr, .int (nI mn), .ref qld, .ref qlz, .int (nI rn), .ref qrd, .ref qrv, .ref qhi, .ref qfw, .ref qkp])), (qlk, .inl (cI, 30, .inl lk)), (qhd, .inl (cI, 30, .inl hd)), (qsf, .inl (cI, 30, .inl sf)), (qpr, .inl (cJ, 30, .inr (.inl (kD_p lk (k_lm lk) ce da db dr ld lz mn dy pr i)))), (qpa, .inl (cJ, 30, .inr (.inl (kD_a lk (k_lm lk) ce da db dr ld lz mn dy co pr pa i)))), (qsk, .inl (cJ, 30, .inr (.inl (kD_s hd sf lk (k_lm lk) ce da db dr ld lz mn dy co pr pa sk i)))), (qld, .inl (cI, 12, .inl ld)), (qlz, .inl (cI, 12, .inl lz)), (qfw, .inl (cJ, 31, .inr (.inl fw3)))]) [0, 2, 3, 4, 5, 6, 7, 8, 9, 11] rfl
          have hDc := hD.sub (ws' := [(mm, .inr (5, [.int (nI ly), .int (nI ce), .ref qlo, .ref qlk, .ref qhd, .ref qsf, .ref qpr, .ref qpa, .ref qsk, .long (kD_c ld lz mn dy co i), .long (kD_w lk (k_lm lk) ce da db dr ld lz mn dy pr wo i), .int (nI (dy + i)), .int da, .int db, .int dr, .int (nI mn), .ref qld, .ref qlz, .int (nI rn), .ref qrd, .ref qrv, .ref qhi, .ref qfw, .ref qkp])), (qlk, .inl (cI, 30, .inl lk)), (qhd, .inl (cI, 30, .inl hd)), (qsf, .inl (cI, 30, .inl sf)), (qpr, .inl (cJ, 30, .inr (.inl (kD_p lk (k_lm lk) ce da db dr ld lz mn dy pr i)))), (qpa, .inl (cJ, 30, .inr (.inl (kD_a lk (k_lm lk) ce da db dr ld lz mn dy co pr pa i)))), (qsk, .inl (cJ, 30, .inr (.inl (kD_s hd sf lk (k_lm lk) ce da db dr ld lz mn dy co pr pa sk i)))), (qld, .inl (cI, 12, .inl ld)), (qlz, .inl (cI, 12, .inl lz)), (qfw, .inl (cJ, 31, .inr (.inl fw3)))]) [0, 2, 3, 4, 5, 6, 7, 8, 9, 11] (by decide) rfl
          have hFc := va_free (wc := [(mm, .inr (5, [.int (nI ly), .int (nI ce), .ref qlo, .ref qlk, .ref qhd, .ref qsf, .ref qpr, .ref qpa, .ref qsk, .long (kD_c ld lz mn dy co i), .long (kD_w lk (k_lm lk) ce da db dr ld lz mn dy pr wo i), .int (nI (dy + i)), .int da, .int db, .int dr, .int (nI mn), .ref qld, .ref qlz, .int (nI rn), .ref qrd, .ref qrv, .ref qhi, .ref qfw, .ref qkp])), (qlk, .inl (cI, 30, .inl lk)), (qhd, .inl (cI, 30, .inl hd)), (qsf, .inl (cI, 30, .inl sf)), (qpr, .inl (cJ, 30, .inr (.inl (kD_p lk (k_lm lk) ce da db dr ld lz mn dy pr i)))), (qpa, .inl (cJ, 30, .inr (.inl (kD_a lk (k_lm lk) ce da db dr ld lz mn dy co pr pa i)))), (qsk, .inl (cJ, 30, .inr (.inl (kD_s hd sf lk (k_lm lk) ce da db dr ld lz mn dy co pr pa sk i)))), (qld, .inl (cI, 12, .inl ld)), (qlz, .inl (cI, 12, .inl lz)), (qfw, .inl (cJ, 31, .inr (.inl fw3)))]) hD hS hA [0, 2, 3, 4, 5, 6, 7, 8, 9, 11] rfl
          refine va_callv (va_runV (As := [.int (nI (dy + i)), .long 0]) (rest := []) ⟨hx, hb, hml, hown, htw⟩ (kM_goDay l dC dI cI cJ mm qlo qlk qhd qsf qpr qpa qsk qld qlz qrd qrv qhi qfw qkp H.size (nI (dy + i)) 0 ly ce (kD_c ld lz mn dy co i) (kD_w lk (k_lm lk) ce da db dr ld lz mn dy pr wo i) (dy + i) da db dr mn rn lk hd sf (kD_p lk (k_lm lk) ce da db dr ld lz mn dy pr i) (kD_a lk (k_lm lk) ce da db dr ld lz mn dy co pr pa i) (kD_s hd sf lk (k_lm lk) ce da db dr ld lz mn dy co pr pa sk i) ld lz fw3 (k_come ld lz (nI (dy + i)) mn) (by first | assumption | omega | decide) (by first | assumption | omega | decide) (Int64.zero_add _)) (cwV 2 htw (wv_good m_457 m_459 ms_5 m_6 m_460) rfl rfl rfl (by decide +kernel) ⟨Nat.le_of_ble_eq_true rfl, Nat.le_of_ble_eq_true rfl⟩) ⟨fun a U g mk q => by obtain ⟨q0, q1, qP, qK, qD⟩ := q; exact ⟨q0, q1, qP, va_K.moved (u := U) (U := U.calling g mk a) (Vm.Alike.refl U.vm) qK, qD⟩, va_recv hK hPc (ci := 5) (q0 := 0) rfl rfl, fun U hU hW => ⟨rfl, by rw [hU], by rw [hU]; exact hPc, va_K.moved hW.alike hK, hDc.weaken (fun _ _ _ _ => trivial)⟩⟩ rfl rfl hl.1 rfl (lv_room (Nat.le_of_ble_eq_true rfl)) dM_run_46 ⟨Nat.le_of_ble_eq_true rfl, Nat.le_of_ble_eq_true rfl⟩) hS (fun q _ h => hFc q h) hFc (fun u_ t H1 locs ht hvm hw hB hz1 hk1 hS => ?_)
          obtain ⟨fw2_8, hP1, hK1, hD1⟩ := hB
          rw [ht] at hP1
          obtain ⟨hP, hD⟩ := va_join (wr := [(qlo, .inl (cI, 30, .inl lof)), (qhi, .inl (cJ, 401, .inr (.inl (kD_m dy (fun d => k_mu lof (kD_s hd sf lk (k_lm lk) ce da db dr ld lz mn dy co pr pa sk d) (-1) ce) mi i))))]) (w1 := [(mm, .inr (5, [.int (nI ly), .int (nI ce), .ref qlo, .ref qlk, .ref qhd, .ref qsf, .ref qpr, .ref qpa, .ref qsk, .long ((kD_c ld lz mn dy co i) + (k_come ld lz (nI (dy + i)) mn)), .long (k_w lk (k_lm lk) ce da db dr (k_lay (kD_p lk (k_lm lk) ce da db dr ld lz mn dy pr i) ce (k_come ld lz (nI (dy + i)) mn)) (kD_w lk (k_lm lk) ce da db dr ld lz mn dy pr wo i) 24), .int (nI (dy + i)), .int da, .int db, .int dr, .int (nI mn), .ref qld, .ref qlz, .int (nI rn), .ref qrd, .ref qrv, .ref qhi, .ref qfw, .ref qkp])), (qlk, .inl (cI, 30, .inl lk)), (qhd, .inl (cI, 30, .inl hd)), (qsf, .inl (cI, 30, .inl sf)), (qpr, .inl (cJ, 30, .inr (.inl (k_p lk (k_lm lk) ce da db dr (k_lay (kD_p lk (k_lm lk) ce da db dr ld lz mn dy pr i) ce (k_come ld lz (nI (dy + i)) mn)) 24)))), (qpa, .inl (cJ, 30, .inr (.inl (k_a lk (k_lm lk) ce da db dr ((kD_c ld lz mn dy co i) + (k_come ld lz (nI (dy + i)) mn)) (k_lay (kD_p lk (k_lm lk) ce da db dr ld lz mn dy pr i) ce (k_come ld lz (nI (dy + i)) mn)) (kD_a lk (k_lm lk) ce da db dr ld lz mn dy co pr pa i) 24)))), (qsk, .inl (cJ, 30, .inr (.inl (k_s hd sf lk (k_lm lk) ce da db dr ((kD_c ld lz mn dy co i) + (k_come ld lz (nI (dy + i)) mn)) (k_lay (kD_p lk (k_lm lk) ce da db dr ld lz mn dy pr i) ce (k_come ld lz (nI (dy + i)) mn)) (kD_a lk (k_lm lk) ce da db dr ld lz mn dy co pr pa i) (kD_s hd sf lk (k_lm lk) ce da db dr ld lz mn dy co pr pa sk i) 24)))), (qld, .inl (cI, 12, .inl ld)), (qlz, .inl (cI, 12, .inl lz)), (qfw, .inl (cJ, 31, .inr (.inl fw2_8)))]) hP hD [0, 2, 3, 4, 5, 6, 7, 8, 9, 11] [1, 10] rfl rfl (by decide) (by decide) hk1 hFc hP1 hD1
          generalize H1 = H at hP hS ⊢
          have hP := hP.sub (ws' := [(mm, .inr (5, [.int (nI ly), .int (nI ce), .ref qlo, .ref qlk, .ref qhd, .ref qsf, .ref qpr, .ref qpa, .ref qsk, .long ((kD_c ld lz mn dy co i) + (k_come ld lz (nI (dy + i)) mn)), .long (k_w lk (k_lm lk) ce da db dr (k_lay (kD_p lk (k_lm lk) ce da db dr ld lz mn dy pr i) ce (k_come ld lz (nI (dy + i)) mn)) (kD_w lk (k_lm lk) ce da db dr ld lz mn dy pr wo i) 24), .int (nI (dy + i)), .int da, .int db, .int dr, .int (nI mn), .ref qld, .ref qlz, .int (nI rn), .ref qrd, .ref qrv, .ref qhi, .ref qfw, .ref qkp])), (qlo, .inl (cI, 30, .inl lof)), (qlk, .inl (cI, 30, .inl lk)), (qhd, .inl (cI, 30, .inl hd)), (qsf, .inl (cI, 30, .inl sf)), (qpr, .inl (cJ, 30, .inr (.inl (k_p lk (k_lm lk) ce da db dr (k_lay (kD_p lk (k_lm lk) ce da db dr ld lz mn dy pr i) ce (k_come ld lz (nI (dy + i)) mn)) 24)))), (qpa, .inl (cJ, 30, .inr (.inl (k_a lk (k_lm lk) ce da db dr ((kD_c ld lz mn dy co i) + (k_come ld lz (nI (dy + i)) mn)) (k_lay (kD_p lk (k_lm lk) ce da db dr ld lz mn dy pr i) ce (k_come ld lz (nI (dy + i)) mn)) (kD_a lk (k_lm lk) ce da db dr ld lz mn dy co pr pa i) 24)))), (qsk, .inl (cJ, 30, .inr (.inl (k_s hd sf lk (k_lm lk) ce da db dr ((kD_c ld lz mn dy co i) + (k_come ld lz (nI (dy + i)) mn)) (k_lay (kD_p lk (k_lm lk) ce da db dr ld lz mn dy pr i) ce (k_come ld lz (nI (dy + i)) mn)) (kD_a lk (k_lm lk) ce da db dr ld lz mn dy co pr pa i) (kD_s hd sf lk (k_lm lk) ce da db dr ld lz mn dy co pr pa sk i) 24)))), (qld, .inl (cI, 12, .inl ld)), (qlz, .inl (cI, 12, .inl lz)), (qhi, .inl (cJ, 401, .inr (.inl (kD_m dy (fun d => k_mu lof (kD_s hd sf lk (k_lm lk) ce da db dr ld lz mn dy co pr pa sk d) (-1) ce) mi i)))), (qfw, .inl (cJ, 31, .inr (.inl fw2_8)))]) [2, 0, 3, 4, 5, 6, 7, 8, 9, 10, 1, 11] rfl
          have hD := hD.sub (ws' := [(mm, .inr (5, [.int (nI ly), .int (nI ce), .ref qlo, .ref qlk, .ref qhd, .ref qsf, .ref qpr, .ref qpa, .ref qsk, .long ((kD_c ld lz mn dy co i) + (k_come ld lz (nI (dy + i)) mn)), .long (k_w lk (k_lm lk) ce da db dr (k_lay (kD_p lk (k_lm lk) ce da db dr ld lz mn dy pr i) ce (k_come ld lz (nI (dy + i)) mn)) (kD_w lk (k_lm lk) ce da db dr ld lz mn dy pr wo i) 24), .int (nI (dy + i)), .int da, .int db, .int dr, .int (nI mn), .ref qld, .ref qlz, .int (nI rn), .ref qrd, .ref qrv, .ref qhi, .ref qfw, .ref qkp])), (qlo, .inl (cI, 30, .inl lof)), (qlk, .inl (cI, 30, .inl lk)), (qhd, .inl (cI, 30, .inl hd)), (qsf, .inl (cI, 30, .inl sf)), (qpr, .inl (cJ, 30, .inr (.inl (k_p lk (k_lm lk) ce da db dr (k_lay (kD_p lk (k_lm lk) ce da db dr ld lz mn dy pr i) ce (k_come ld lz (nI (dy + i)) mn)) 24)))), (qpa, .inl (cJ, 30, .inr (.inl (k_a lk (k_lm lk) ce da db dr ((kD_c ld lz mn dy co i) + (k_come ld lz (nI (dy + i)) mn)) (k_lay (kD_p lk (k_lm lk) ce da db dr ld lz mn dy pr i) ce (k_come ld lz (nI (dy + i)) mn)) (kD_a lk (k_lm lk) ce da db dr ld lz mn dy co pr pa i) 24)))), (qsk, .inl (cJ, 30, .inr (.inl (k_s hd sf lk (k_lm lk) ce da db dr ((kD_c ld lz mn dy co i) + (k_come ld lz (nI (dy + i)) mn)) (k_lay (kD_p lk (k_lm lk) ce da db dr ld lz mn dy pr i) ce (k_come ld lz (nI (dy + i)) mn)) (kD_a lk (k_lm lk) ce da db dr ld lz mn dy co pr pa i) (kD_s hd sf lk (k_lm lk) ce da db dr ld lz mn dy co pr pa sk i) 24)))), (qld, .inl (cI, 12, .inl ld)), (qlz, .inl (cI, 12, .inl lz)), (qhi, .inl (cJ, 401, .inr (.inl (kD_m dy (fun d => k_mu lof (kD_s hd sf lk (k_lm lk) ce da db dr ld lz mn dy co pr pa sk d) (-1) ce) mi i)))), (qfw, .inl (cJ, 31, .inr (.inl fw2_8)))]) [2, 0, 3, 4, 5, 6, 7, 8, 9, 10, 1, 11] (by decide) rfl
          clear hPc hDc hFc hP1 hD1 hK1 hk1 hz1 hvm ht
          refine lv_aload_n hx hb dM_run_49 rfl (lv_at hl 0 rfl) ?_
          refine lv_dup hx hb dM_run_50 rfl ?_
          refine va_get (D := (dC, dI)) (ci := 5) (v := .int (nI (dy + i))) (C := R_M) (T := T_M) (N := 24) hx hb htw in_M hown hK hP 0 rfl rfl 11 (by decide) (htw _ m_368) (fun _ h9 => h9) rfl dM_run_51 ?_
          refine lv_iconst (v := nI 1) hx hb dM_run_54 (by decide) ?_
          refine lv_iadd hx hb dM_run_55 ?_
          refine lv_topi (fun kv ekv => ?_)
          obtain rfl : kv = nI ((dy + i) + 1) := by rw [ekv]; exact nI_add _ _
          refine va_put (D := (dC, dI)) (ci := 5) (v := .int (nI ((dy + i) + 1))) (ty := .int) (C := R_M) (T := T_M) (N := 24) hx hb htw in_M ty_M tok_M nnm_M hown hK hP hD hS 0 rfl rfl 11 (by decide) (htw _ m_368) (fun _ h9 => h9) rfl (by decide +kernel) rfl rfl (Nat.le_of_ble_eq_true rfl) dM_run_56 (fun H locs hP hD hS => ?_)
          have hP : va_P (dC, dI) vwCl [(mm, .inr (5, [.int (nI ly), .int (nI ce), .ref qlo, .ref qlk, .ref qhd, .ref qsf, .ref qpr, .ref qpa, .ref qsk, .long ((kD_c ld lz mn dy co i) + (k_come ld lz (nI (dy + i)) mn)), .long (k_w lk (k_lm lk) ce da db dr (k_lay (kD_p lk (k_lm lk) ce da db dr ld lz mn dy pr i) ce (k_come ld lz (nI (dy + i)) mn)) (kD_w lk (k_lm lk) ce da db dr ld lz mn dy pr wo i) 24), .int (nI ((dy + i) + 1)), .int da, .int db, .int dr, .int (nI mn), .ref qld, .ref qlz, .int (nI rn), .ref qrd, .ref qrv, .ref qhi, .ref qfw, .ref qkp])), (qlo, .inl (cI, 30, .inl lof)), (qlk, .inl (cI, 30, .inl lk)), (qhd, .inl (cI, 30, .inl hd)), (qsf, .inl (cI, 30, .inl sf)), (qpr, .inl (cJ, 30, .inr (.inl (k_p lk (k_lm lk) ce da db dr (k_lay (kD_p lk (k_lm lk) ce da db dr ld lz mn dy pr i) ce (k_come ld lz (nI (dy + i)) mn)) 24)))), (qpa, .inl (cJ, 30, .inr (.inl (k_a lk (k_lm lk) ce da db dr ((kD_c ld lz mn dy co i) + (k_come ld lz (nI (dy + i)) mn)) (k_lay (kD_p lk (k_lm lk) ce da db dr ld lz mn dy pr i) ce (k_come ld lz (nI (dy + i)) mn)) (kD_a lk (k_lm lk) ce da db dr ld lz mn dy co pr pa i) 24)))), (qsk, .inl (cJ, 30, .inr (.inl (k_s hd sf lk (k_lm lk) ce da db dr ((kD_c ld lz mn dy co i) + (k_come ld lz (nI (dy + i)) mn)) (k_lay (kD_p lk (k_lm lk) ce da db dr ld lz mn dy pr i) ce (k_come ld lz (nI (dy + i)) mn)) (kD_a lk (k_lm lk) ce da db dr ld lz mn dy co pr pa i) (kD_s hd sf lk (k_lm lk) ce da db dr ld lz mn dy co pr pa sk i) 24)))), (qld, .inl (cI, 12, .inl ld)), (qlz, .inl (cI, 12, .inl lz)), (qhi, .inl (cJ, 401, .inr (.inl (kD_m dy (fun d => k_mu lof (kD_s hd sf lk (k_lm lk) ce da db dr ld lz mn dy co pr pa sk d) (-1) ce) mi i)))), (qfw, .inl (cJ, 31, .inr (.inl fw2_8)))] H := hP
          have hD : va_D A [(mm, .inr (5, [.int (nI ly), .int (nI ce), .ref qlo, .ref qlk, .ref qhd, .ref qsf, .ref qpr, .ref qpa, .ref qsk, .long ((kD_c ld lz mn dy co i) + (k_come ld lz (nI (dy + i)) mn)), .long (k_w lk (k_lm lk) ce da db dr (k_lay (kD_p lk (k_lm lk) ce da db dr ld lz mn dy pr i) ce (k_come ld lz (nI (dy + i)) mn)) (kD_w lk (k_lm lk) ce da db dr ld lz mn dy pr wo i) 24), .int (nI ((dy + i) + 1)), .int da, .int db, .int dr, .int (nI mn), .ref qld, .ref qlz, .int (nI rn), .ref qrd, .ref qrv, .ref qhi, .ref qfw, .ref qkp])), (qlo, .inl (cI, 30, .inl lof)), (qlk, .inl (cI, 30, .inl lk)), (qhd, .inl (cI, 30, .inl hd)), (qsf, .inl (cI, 30, .inl sf)), (qpr, .inl (cJ, 30, .inr (.inl (k_p lk (k_lm lk) ce da db dr (k_lay (kD_p lk (k_lm lk) ce da db dr ld lz mn dy pr i) ce (k_come ld lz (nI (dy + i)) mn)) 24)))), (qpa, .inl (cJ, 30, .inr (.inl (k_a lk (k_lm lk) ce da db dr ((kD_c ld lz mn dy co i) + (k_come ld lz (nI (dy + i)) mn)) (k_lay (kD_p lk (k_lm lk) ce da db dr ld lz mn dy pr i) ce (k_come ld lz (nI (dy + i)) mn)) (kD_a lk (k_lm lk) ce da db dr ld lz mn dy co pr pa i) 24)))), (qsk, .inl (cJ, 30, .inr (.inl (k_s hd sf lk (k_lm lk) ce da db dr ((kD_c ld lz mn dy co i) + (k_come ld lz (nI (dy + i)) mn)) (k_lay (kD_p lk (k_lm lk) ce da db dr ld lz mn dy pr i) ce (k_come ld lz (nI (dy + i)) mn)) (kD_a lk (k_lm lk) ce da db dr ld lz mn dy co pr pa i) (kD_s hd sf lk (k_lm lk) ce da db dr ld lz mn dy co pr pa sk i) 24)))), (qld, .inl (cI, 12, .inl ld)), (qlz, .inl (cI, 12, .inl lz)), (qhi, .inl (cJ, 401, .inr (.inl (kD_m dy (fun d => k_mu lof (kD_s hd sf lk (k_lm lk) ce da db dr ld lz mn dy co pr pa sk d) (-1) ce) mi i)))), (qfw, .inl (cJ, 31, .inr (.inl fw2_8)))] := hD
          refine lv_aload_n hx hb dM_run_59 rfl (lv_at hl 0 rfl) ?_
          refine va_get (D := (dC, dI)) (ci := 5) (v := .ref qhi) (C := R_M) (T := T_M) (N := 24) hx hb htw in_M hown hK hP 0 rfl rfl 21 (by decide) (htw _ m_378) (fun _ h9 => h9) rfl dM_run_60 ?_
          refine lv_aload_n hx hb dM_run_63 rfl (lv_at hl 0 rfl) ?_
          refine va_get (D := (dC, dI)) (ci := 5) (v := .int (nI ((dy + i) + 1))) (C := R_M) (T := T_M) (N := 24) hx hb htw in_M hown hK hP 0 rfl rfl 11 (by decide) (htw _ m_368) (fun _ h9 => h9) rfl dM_run_64 ?_
          refine lv_aload_n hx hb dM_run_67 rfl (lv_at hl 0 rfl) ?_
          refine lv_iconst (v := (-1)) hx hb dM_run_68 (by decide) ?_
          have hPc := hP.sub (ws' := [(mm, .inr (5, [.int (nI ly), .int (nI ce), .ref qlo, .ref qlk, .ref qhd, .ref qsf, .ref qpr, .ref qpa, .ref qsk, .long ((kD_c ld lz mn dy co i) + (k_come ld lz (nI (dy + i)) mn)), .long (k_w lk (k_lm lk) ce da db dr (k_lay (kD_p lk (k_lm lk) ce da db dr ld lz mn dy pr i) ce (k_come ld lz (nI (dy + i)) mn)) (kD_w lk (k_lm lk) ce da db dr ld lz mn dy pr wo i) 24), .int (nI ((dy + i) + 1)), .int da, .int db, .int dr, .int (nI mn), .ref qld, .ref qlz, .int (nI rn), .ref qrd, .ref qrv, .ref qhi, .ref qfw, .ref qkp])), (qlo, .inl (cI, 30, .inl lof)), (qsk, .inl (cJ, 30, .inr (.inl (k_s hd sf lk (k_lm lk) ce da db dr ((kD_c ld lz mn dy co i) + (k_come ld lz (nI (dy + i)) mn)) (k_lay (kD_p lk (k_lm lk) ce da db dr ld lz mn dy pr i) ce (k_come ld lz (nI (dy + i)) mn)) (kD_a lk (k_lm lk) ce da db dr ld lz mn dy co pr pa i) (kD_s hd sf lk (k_lm lk) ce da db dr ld lz mn dy co pr pa sk i) 24))))]) [0, 1, 7] rfl
          have hDc := hD.sub (ws' := [(mm, .inr (5, [.int (nI ly), .int (nI ce), .ref qlo, .ref qlk, .ref qhd, .ref qsf, .ref qpr, .ref qpa, .ref qsk, .long ((kD_c ld lz mn dy co i) + (k_come ld lz (nI (dy + i)) mn)), .long (k_w lk (k_lm lk) ce da db dr (k_lay (kD_p lk (k_lm lk) ce da db dr ld lz mn dy pr i) ce (k_come ld lz (nI (dy + i)) mn)) (kD_w lk (k_lm lk) ce da db dr ld lz mn dy pr wo i) 24), .int (nI ((dy + i) + 1)), .int da, .int db, .int dr, .int (nI mn), .ref qld, .ref qlz, .int (nI rn), .ref qrd, .ref qrv, .ref qhi, .ref qfw, .ref qkp])), (qlo, .inl (cI, 30, .inl lof)), (qsk, .inl (cJ, 30, .inr (.inl (k_s hd sf lk (k_lm lk) ce da db dr ((kD_c ld lz mn dy co i) + (k_come ld lz (nI (dy + i)) mn)) (k_lay (kD_p lk (k_lm lk) ce da db dr ld lz mn dy pr i) ce (k_come ld lz (nI (dy + i)) mn)) (kD_a lk (k_lm lk) ce da db dr ld lz mn dy co pr pa i) (kD_s hd sf lk (k_lm lk) ce da db dr ld lz mn dy co pr pa sk i) 24))))]) [0, 1, 7] (by decide) rfl
          have hFc := va_free (wc := [(mm, .inr (5, [.int (nI ly), .int (nI ce), .ref qlo, .ref qlk, .ref qhd, .ref qsf, .ref qpr, .ref qpa, .ref qsk, .long ((kD_c ld lz mn dy co i) + (k_come ld lz (nI (dy + i)) mn)), .long (k_w lk (k_lm lk) ce da db dr (k_lay (kD_p lk (k_lm lk) ce da db dr ld lz mn dy pr i) ce (k_come ld lz (nI (dy + i)) mn)) (kD_w lk (k_lm lk) ce da db dr ld lz mn dy pr wo i) 24), .int (nI ((dy + i) + 1)), .int da, .int db, .int dr, .int (nI mn), .ref qld, .ref qlz, .int (nI rn), .ref qrd, .ref qrv, .ref qhi, .ref qfw, .ref qkp])), (qlo, .inl (cI, 30, .inl lof)), (qsk, .inl (cJ, 30, .inr (.inl (k_s hd sf lk (k_lm lk) ce da db dr ((kD_c ld lz mn dy co i) + (k_come ld lz (nI (dy + i)) mn)) (k_lay (kD_p lk (k_lm lk) ce da db dr ld lz mn dy pr i) ce (k_come ld lz (nI (dy + i)) mn)) (kD_a lk (k_lm lk) ce da db dr ld lz mn dy co pr pa i) (kD_s hd sf lk (k_lm lk) ce da db dr ld lz mn dy co pr pa sk i) 24))))]) hD hS hA [0, 1, 7] rfl
          refine va_calll (va_runV (As := [.int (-1)]) (rest := [.int (nI ((dy + i) + 1)), .ref qhi]) ⟨hx, hb, hml, hown, htw⟩ (kM_units l dC dI cI cJ mm qlo qlk qhd qsf qpr qpa qsk qld qlz qrd qrv qhi qfw qkp H.size (-1) ly ce ((kD_c ld lz mn dy co i) + (k_come ld lz (nI (dy + i)) mn)) (k_w lk (k_lm lk) ce da db dr (k_lay (kD_p lk (k_lm lk) ce da db dr ld lz mn dy pr i) ce (k_come ld lz (nI (dy + i)) mn)) (kD_w lk (k_lm lk) ce da db dr ld lz mn dy pr wo i) 24) ((dy + i) + 1) da db dr mn rn lof (k_s hd sf lk (k_lm lk) ce da db dr ((kD_c ld lz mn dy co i) + (k_come ld lz (nI (dy + i)) mn)) (k_lay (kD_p lk (k_lm lk) ce da db dr ld lz mn dy pr i) ce (k_come ld lz (nI (dy + i)) mn)) (kD_a lk (k_lm lk) ce da db dr ld lz mn dy co pr pa i) (kD_s hd sf lk (k_lm lk) ce da db dr ld lz mn dy co pr pa sk i) 24) (by first | assumption | omega | decide)) (cwV 1 htw (wv_good m_469 m_471 ms_8 m_6 m_472) rfl rfl rfl (by decide +kernel) ⟨Nat.le_of_ble_eq_true rfl, Nat.le_of_ble_eq_true rfl⟩) ⟨fun a U g mk q => by obtain ⟨q0, q1, qP, qK, qD⟩ := q; exact ⟨q0, q1, qP, va_K.moved (u := U) (U := U.calling g mk a) (Vm.Alike.refl U.vm) qK, qD⟩, va_recv hK hPc (ci := 5) (q0 := 0) rfl rfl, fun U hU hW => ⟨rfl, by rw [hU], by rw [hU]; exact hPc, va_K.moved hW.alike hK, hDc.weaken (fun _ _ _ _ => trivial)⟩⟩ rfl rfl hl.1 rfl (lv_room (Nat.le_of_ble_eq_true rfl)) dM_run_69 ⟨Nat.le_of_ble_eq_true rfl, Nat.le_of_ble_eq_true rfl⟩) hS (fun q _ h => hFc q h) hFc (fun res_ u_ t H1 locs ht hvm hw hB hz1 hk1 hS => ?_)
          obtain ⟨hP1, hK1, hD1⟩ := hB
          rw [ht] at hP1
          obtain ⟨hP, hD⟩ := va_join (wr := [(qlk, .inl (cI, 30, .inl lk)), (qhd, .inl (cI, 30, .inl hd)), (qsf, .inl (cI, 30, .inl sf)), (qpr, .inl (cJ, 30, .inr (.inl (k_p lk (k_lm lk) ce da db dr (k_lay (kD_p lk (k_lm lk) ce da db dr ld lz mn dy pr i) ce (k_come ld lz (nI (dy + i)) mn)) 24)))), (qpa, .inl (cJ, 30, .inr (.inl (k_a lk (k_lm lk) ce da db dr ((kD_c ld lz mn dy co i) + (k_come ld lz (nI (dy + i)) mn)) (k_lay (kD_p lk (k_lm lk) ce da db dr ld lz mn dy pr i) ce (k_come ld lz (nI (dy + i)) mn)) (kD_a lk (k_lm lk) ce da db dr ld lz mn dy co pr pa i) 24)))), (qld, .inl (cI, 12, .inl ld)), (qlz, .inl (cI, 12, .inl lz)), (qhi, .inl (cJ, 401, .inr (.inl (kD_m dy (fun d => k_mu lof (kD_s hd sf lk (k_lm lk) ce da db dr ld lz mn dy co pr pa sk d) (-1) ce) mi i)))), (qfw, .inl (cJ, 31, .inr (.inl fw2_8)))]) (w1 := [(mm, .inr (5, [.int (nI ly), .int (nI ce), .ref qlo, .ref qlk, .ref qhd, .ref qsf, .ref qpr, .ref qpa, .ref qsk, .long ((kD_c ld lz mn dy co i) + (k_come ld lz (nI (dy + i)) mn)), .long (k_w lk (k_lm lk) ce da db dr (k_lay (kD_p lk (k_lm lk) ce da db dr ld lz mn dy pr i) ce (k_come ld lz (nI (dy + i)) mn)) (kD_w lk (k_lm lk) ce da db dr ld lz mn dy pr wo i) 24), .int (nI ((dy + i) + 1)), .int da, .int db, .int dr, .int (nI mn), .ref qld, .ref qlz, .int (nI rn), .ref qrd, .ref qrv, .ref qhi, .ref qfw, .ref qkp])), (qlo, .inl (cI, 30, .inl lof)), (qsk, .inl (cJ, 30, .inr (.inl (k_s hd sf lk (k_lm lk) ce da db dr ((kD_c ld lz mn dy co i) + (k_come ld lz (nI (dy + i)) mn)) (k_lay (kD_p lk (k_lm lk) ce da db dr ld lz mn dy pr i) ce (k_come ld lz (nI (dy + i)) mn)) (kD_a lk (k_lm lk) ce da db dr ld lz mn dy co pr pa i) (kD_s hd sf lk (k_lm lk) ce da db dr ld lz mn dy co pr pa sk i) 24))))]) hP hD [0, 1, 7] [2, 3, 4, 5, 6, 8, 9, 10, 11] rfl rfl (by decide) (by decide) hk1 hFc hP1 hD1
          generalize H1 = H at hP hS ⊢
          have hP := hP.sub (ws' := [(mm, .inr (5, [.int (nI ly), .int (nI ce), .ref qlo, .ref qlk, .ref qhd, .ref qsf, .ref qpr, .ref qpa, .ref qsk, .long ((kD_c ld lz mn dy co i) + (k_come ld lz (nI (dy + i)) mn)), .long (k_w lk (k_lm lk) ce da db dr (k_lay (kD_p lk (k_lm lk) ce da db dr ld lz mn dy pr i) ce (k_come ld lz (nI (dy + i)) mn)) (kD_w lk (k_lm lk) ce da db dr ld lz mn dy pr wo i) 24), .int (nI ((dy + i) + 1)), .int da, .int db, .int dr, .int (nI mn), .ref qld, .ref qlz, .int (nI rn), .ref qrd, .ref qrv, .ref qhi, .ref qfw, .ref qkp])), (qlo, .inl (cI, 30, .inl lof)), (qlk, .inl (cI, 30, .inl lk)), (qhd, .inl (cI, 30, .inl hd)), (qsf, .inl (cI, 30, .inl sf)), (qpr, .inl (cJ, 30, .inr (.inl (k_p lk (k_lm lk) ce da db dr (k_lay (kD_p lk (k_lm lk) ce da db dr ld lz mn dy pr i) ce (k_come ld lz (nI (dy + i)) mn)) 24)))), (qpa, .inl (cJ, 30, .inr (.inl (k_a lk (k_lm lk) ce da db dr ((kD_c ld lz mn dy co i) + (k_come ld lz (nI (dy + i)) mn)) (k_lay (kD_p lk (k_lm lk) ce da db dr ld lz mn dy pr i) ce (k_come ld lz (nI (dy + i)) mn)) (kD_a lk (k_lm lk) ce da db dr ld lz mn dy co pr pa i) 24)))), (qsk, .inl (cJ, 30, .inr (.inl (k_s hd sf lk (k_lm lk) ce da db dr ((kD_c ld lz mn dy co i) + (k_come ld lz (nI (dy + i)) mn)) (k_lay (kD_p lk (k_lm lk) ce da db dr ld lz mn dy pr i) ce (k_come ld lz (nI (dy + i)) mn)) (kD_a lk (k_lm lk) ce da db dr ld lz mn dy co pr pa i) (kD_s hd sf lk (k_lm lk) ce da db dr ld lz mn dy co pr pa sk i) 24)))), (qld, .inl (cI, 12, .inl ld)), (qlz, .inl (cI, 12, .inl lz)), (qhi, .inl (cJ, 401, .inr (.inl (kD_m dy (fun d => k_mu lof (kD_s hd sf lk (k_lm lk) ce da db dr ld lz mn dy co pr pa sk d) (-1) ce) mi i)))), (qfw, .inl (cJ, 31, .inr (.inl fw2_8)))]) [9, 10, 0, 1, 2, 3, 4, 11, 5, 6, 7, 8] rfl
          have hD := hD.sub (ws' := [(mm, .inr (5, [.int (nI ly), .int (nI ce), .ref qlo, .ref qlk, .ref qhd, .ref qsf, .ref qpr, .ref qpa, .ref qsk, .long ((kD_c ld lz mn dy co i) + (k_come ld lz (nI (dy + i)) mn)), .long (k_w lk (k_lm lk) ce da db dr (k_lay (kD_p lk (k_lm lk) ce da db dr ld lz mn dy pr i) ce (k_come ld lz (nI (dy + i)) mn)) (kD_w lk (k_lm lk) ce da db dr ld lz mn dy pr wo i) 24), .int (nI ((dy + i) + 1)), .int da, .int db, .int dr, .int (nI mn), .ref qld, .ref qlz, .int (nI rn), .ref qrd, .ref qrv, .ref qhi, .ref qfw, .ref qkp])), (qlo, .inl (cI, 30, .inl lof)), (qlk, .inl (cI, 30, .inl lk)), (qhd, .inl (cI, 30, .inl hd)), (qsf, .inl (cI, 30, .inl sf)), (qpr, .inl (cJ, 30, .inr (.inl (k_p lk (k_lm lk) ce da db dr (k_lay (kD_p lk (k_lm lk) ce da db dr ld lz mn dy pr i) ce (k_come ld lz (nI (dy + i)) mn)) 24)))), (qpa, .inl (cJ, 30, .inr (.inl (k_a lk (k_lm lk) ce da db dr ((kD_c ld lz mn dy co i) + (k_come ld lz (nI (dy + i)) mn)) (k_lay (kD_p lk (k_lm lk) ce da db dr ld lz mn dy pr i) ce (k_come ld lz (nI (dy + i)) mn)) (kD_a lk (k_lm lk) ce da db dr ld lz mn dy co pr pa i) 24)))), (qsk, .inl (cJ, 30, .inr (.inl (k_s hd sf lk (k_lm lk) ce da db dr ((kD_c ld lz mn dy co i) + (k_come ld lz (nI (dy + i)) mn)) (k_lay (kD_p lk (k_lm lk) ce da db dr ld lz mn dy pr i) ce (k_come ld lz (nI (dy + i)) mn)) (kD_a lk (k_lm lk) ce da db dr ld lz mn dy co pr pa i) (kD_s hd sf lk (k_lm lk) ce da db dr ld lz mn dy co pr pa sk i) 24)))), (qld, .inl (cI, 12, .inl ld)), (qlz, .inl (cI, 12, .inl lz)), (qhi, .inl (cJ, 401, .inr (.inl (kD_m dy (fun d => k_mu lof (kD_s hd sf lk (k_lm lk) ce da db dr ld lz mn dy co pr pa sk d) (-1) ce) mi i)))), (qfw, .inl (cJ, 31, .inr (.inl fw2_8)))]) [9, 10, 0, 1, 2, 3, 4, 11, 5, 6, 7, 8] (by decide) rfl
          clear hPc hDc hFc hP1 hD1 hK1 hk1 hz1 hvm ht
          obtain rfl : k_mu lof (k_s hd sf lk (k_lm lk) ce da db dr ((kD_c ld lz mn dy co i) + (k_come ld lz (nI (dy + i)) mn)) (k_lay (kD_p lk (k_lm lk) ce da db dr ld lz mn dy pr i) ce (k_come ld lz (nI (dy + i)) mn)) (kD_a lk (k_lm lk) ce da db dr ld lz mn dy co pr pa i) (kD_s hd sf lk (k_lm lk) ce da db dr ld lz mn dy co pr pa sk i) 24) (-1) ce = res_ := hw.symm
          refine lv_ldc2 (v := 1000) hx hb hown (htw _ m_439) dM_run_72 ?_
          refine lv_ldiv hx hb dM_run_75 (by decide) ?_
          refine lv_topl (fun kv ekv => ?_)
          obtain rfl : k_mu lof (kD_s hd sf lk (k_lm lk) ce da db dr ld lz mn dy co pr pa sk (i + 1)) (-1) ce / 1000 = kv := (ekv.trans (rfl)).symm
          refine xa_last hx hb hK hP hD hS 10 1 rfl rfl (i := ((dy + i) + 1)) (by omega) (by decide) dM_run_76 (fun H locs hP hD hS => ?_)
          have hP : va_P (dC, dI) vwCl [(mm, .inr (5, [.int (nI ly), .int (nI ce), .ref qlo, .ref qlk, .ref qhd, .ref qsf, .ref qpr, .ref qpa, .ref qsk, .long ((kD_c ld lz mn dy co i) + (k_come ld lz (nI (dy + i)) mn)), .long (k_w lk (k_lm lk) ce da db dr (k_lay (kD_p lk (k_lm lk) ce da db dr ld lz mn dy pr i) ce (k_come ld lz (nI (dy + i)) mn)) (kD_w lk (k_lm lk) ce da db dr ld lz mn dy pr wo i) 24), .int (nI ((dy + i) + 1)), .int da, .int db, .int dr, .int (nI mn), .ref qld, .ref qlz, .int (nI rn), .ref qrd, .ref qrv, .ref qhi, .ref qfw, .ref qkp])), (qlo, .inl (cI, 30, .inl lof)), (qlk, .inl (cI, 30, .inl lk)), (qhd, .inl (cI, 30, .inl hd)), (qsf, .inl (cI, 30, .inl sf)), (qpr, .inl (cJ, 30, .inr (.inl (k_p lk (k_lm lk) ce da db dr (k_lay (kD_p lk (k_lm lk) ce da db dr ld lz mn dy pr i) ce (k_come ld lz (nI (dy + i)) mn)) 24)))), (qpa, .inl (cJ, 30, .inr (.inl (k_a lk (k_lm lk) ce da db dr ((kD_c ld lz mn dy co i) + (k_come ld lz (nI (dy + i)) mn)) (k_lay (kD_p lk (k_lm lk) ce da db dr ld lz mn dy pr i) ce (k_come ld lz (nI (dy + i)) mn)) (kD_a lk (k_lm lk) ce da db dr ld lz mn dy co pr pa i) 24)))), (qsk, .inl (cJ, 30, .inr (.inl (k_s hd sf lk (k_lm lk) ce da db dr ((kD_c ld lz mn dy co i) + (k_come ld lz (nI (dy + i)) mn)) (k_lay (kD_p lk (k_lm lk) ce da db dr ld lz mn dy pr i) ce (k_come ld lz (nI (dy + i)) mn)) (kD_a lk (k_lm lk) ce da db dr ld lz mn dy co pr pa i) (kD_s hd sf lk (k_lm lk) ce da db dr ld lz mn dy co pr pa sk i) 24)))), (qld, .inl (cI, 12, .inl ld)), (qlz, .inl (cI, 12, .inl lz)), (qhi, .inl (cJ, 401, .inr (.inl (vp_updL (kD_m dy (fun d => k_mu lof (kD_s hd sf lk (k_lm lk) ce da db dr ld lz mn dy co pr pa sk d) (-1) ce) mi i) ((dy + i) + 1) (k_mu lof (kD_s hd sf lk (k_lm lk) ce da db dr ld lz mn dy co pr pa sk (i + 1)) (-1) ce / 1000))))), (qfw, .inl (cJ, 31, .inr (.inl fw2_8)))] H := hP
          have hD : va_D A [(mm, .inr (5, [.int (nI ly), .int (nI ce), .ref qlo, .ref qlk, .ref qhd, .ref qsf, .ref qpr, .ref qpa, .ref qsk, .long ((kD_c ld lz mn dy co i) + (k_come ld lz (nI (dy + i)) mn)), .long (k_w lk (k_lm lk) ce da db dr (k_lay (kD_p lk (k_lm lk) ce da db dr ld lz mn dy pr i) ce (k_come ld lz (nI (dy + i)) mn)) (kD_w lk (k_lm lk) ce da db dr ld lz mn dy pr wo i) 24), .int (nI ((dy + i) + 1)), .int da, .int db, .int dr, .int (nI mn), .ref qld, .ref qlz, .int (nI rn), .ref qrd, .ref qrv, .ref qhi, .ref qfw, .ref qkp])), (qlo, .inl (cI, 30, .inl lof)), (qlk, .inl (cI, 30, .inl lk)), (qhd, .inl (cI, 30, .inl hd)), (qsf, .inl (cI, 30, .inl sf)), (qpr, .inl (cJ, 30, .inr (.inl (k_p lk (k_lm lk) ce da db dr (k_lay (kD_p lk (k_lm lk) ce da db dr ld lz mn dy pr i) ce (k_come ld lz (nI (dy + i)) mn)) 24)))), (qpa, .inl (cJ, 30, .inr (.inl (k_a lk (k_lm lk) ce da db dr ((kD_c ld lz mn dy co i) + (k_come ld lz (nI (dy + i)) mn)) (k_lay (kD_p lk (k_lm lk) ce da db dr ld lz mn dy pr i) ce (k_come ld lz (nI (dy + i)) mn)) (kD_a lk (k_lm lk) ce da db dr ld lz mn dy co pr pa i) 24)))), (qsk, .inl (cJ, 30, .inr (.inl (k_s hd sf lk (k_lm lk) ce da db dr ((kD_c ld lz mn dy co i) + (k_come ld lz (nI (dy + i)) mn)) (k_lay (kD_p lk (k_lm lk) ce da db dr ld lz mn dy pr i) ce (k_come ld lz (nI (dy + i)) mn)) (kD_a lk (k_lm lk) ce da db dr ld lz mn dy co pr pa i) (kD_s hd sf lk (k_lm lk) ce da db dr ld lz mn dy co pr pa sk i) 24)))), (qld, .inl (cI, 12, .inl ld)), (qlz, .inl (cI, 12, .inl lz)), (qhi, .inl (cJ, 401, .inr (.inl (vp_updL (kD_m dy (fun d => k_mu lof (kD_s hd sf lk (k_lm lk) ce da db dr ld lz mn dy co pr pa sk d) (-1) ce) mi i) ((dy + i) + 1) (k_mu lof (kD_s hd sf lk (k_lm lk) ce da db dr ld lz mn dy co pr pa sk (i + 1)) (-1) ce / 1000))))), (qfw, .inl (cJ, 31, .inr (.inl fw2_8)))] := hD
          refine lv_iinc (v := nI (i + 1)) (lv' := [(2, .int (nI (i + 1))), (0, .ref mm), (1, .int (nI n))]) hx hb dM_run_77 hl (k := 2) rfl (nI_1 _) (by decide) rfl (fun ls hl => ?_)
          refine lv_goto (tgt := 35) hx hb dM_run_80 (by decide) ?_
          have hP : va_P (dC, dI) vwCl [(mm, .inr (5, [.int (nI ly), .int (nI ce), .ref qlo, .ref qlk, .ref qhd, .ref qsf, .ref qpr, .ref qpa, .ref qsk, .long (kD_c ld lz mn dy co (i + 1)), .long (kD_w lk (k_lm lk) ce da db dr ld lz mn dy pr wo (i + 1)), .int (nI (dy + (i + 1))), .int da, .int db, .int dr, .int (nI mn), .ref qld, .ref qlz, .int (nI rn), .ref qrd, .ref qrv, .ref qhi, .ref qfw, .ref qkp])), (qlo, .inl (cI, 30, .inl lof)), (qlk, .inl (cI, 30, .inl lk)), (qhd, .inl (cI, 30, .inl hd)), (qsf, .inl (cI, 30, .inl sf)), (qpr, .inl (cJ, 30, .inr (.inl (kD_p lk (k_lm lk) ce da db dr ld lz mn dy pr (i + 1))))), (qpa, .inl (cJ, 30, .inr (.inl (kD_a lk (k_lm lk) ce da db dr ld lz mn dy co pr pa (i + 1))))), (qsk, .inl (cJ, 30, .inr (.inl (kD_s hd sf lk (k_lm lk) ce da db dr ld lz mn dy co pr pa sk (i + 1))))), (qld, .inl (cI, 12, .inl ld)), (qlz, .inl (cI, 12, .inl lz)), (qhi, .inl (cJ, 401, .inr (.inl (kD_m dy (fun d => k_mu lof (kD_s hd sf lk (k_lm lk) ce da db dr ld lz mn dy co pr pa sk d) (-1) ce) mi (i + 1))))), (qfw, .inl (cJ, 31, .inr (.inl fw2_8)))] H := by first | exact hP | simpa only [] using hP
          have hD : va_D A [(mm, .inr (5, [.int (nI ly), .int (nI ce), .ref qlo, .ref qlk, .ref qhd, .ref qsf, .ref qpr, .ref qpa, .ref qsk, .long (kD_c ld lz mn dy co (i + 1)), .long (kD_w lk (k_lm lk) ce da db dr ld lz mn dy pr wo (i + 1)), .int (nI (dy + (i + 1))), .int da, .int db, .int dr, .int (nI mn), .ref qld, .ref qlz, .int (nI rn), .ref qrd, .ref qrv, .ref qhi, .ref qfw, .ref qkp])), (qlo, .inl (cI, 30, .inl lof)), (qlk, .inl (cI, 30, .inl lk)), (qhd, .inl (cI, 30, .inl hd)), (qsf, .inl (cI, 30, .inl sf)), (qpr, .inl (cJ, 30, .inr (.inl (kD_p lk (k_lm lk) ce da db dr ld lz mn dy pr (i + 1))))), (qpa, .inl (cJ, 30, .inr (.inl (kD_a lk (k_lm lk) ce da db dr ld lz mn dy co pr pa (i + 1))))), (qsk, .inl (cJ, 30, .inr (.inl (kD_s hd sf lk (k_lm lk) ce da db dr ld lz mn dy co pr pa sk (i + 1))))), (qld, .inl (cI, 12, .inl ld)), (qlz, .inl (cI, 12, .inl lz)), (qhi, .inl (cJ, 401, .inr (.inl (kD_m dy (fun d => k_mu lof (kD_s hd sf lk (k_lm lk) ce da db dr ld lz mn dy co pr pa sk d) (-1) ce) mi (i + 1))))), (qfw, .inl (cJ, 31, .inr (.inl fw2_8)))] := by first | exact hD | simpa only [] using hD
          exact ih35 (by omega) _ _ _ ⟨fw2_8, hP, hD, hS, lv_sub hl [1, 2, 0] rfl⟩
      · -- 28 not taken
        rw [show (0 : Int32) = nI 0 from rfl, nI_eq (by omega) (by omega)] at hc28
        exfalso; omega
set_option maxHeartbeats 4000000 in
set_option maxRecDepth 100000 in
theorem kM_run_bad (l : Launch) (dC : Nat → ClassId) (dI : Nat → Nat → Nat) (cI cJ : ClassId) (mm qlo qlk qhd qsf qpr qpa qsk qld qlz qrd qrv qhi qfw qkp : Nat) (sz : Nat) (x : Int32) (ly : Nat) (ce : Nat) (co : Int64) (wo : Int64) (dy : Nat) (da : Int32) (db : Int32) (dr : Int32) (mn : Nat) (rn : Nat) (lof : Nat → Int32) (lk : Nat → Int32) (hd : Nat → Int32) (sf : Nat → Int32) (pr : Nat → Int64) (pa : Nat → Int64) (sk : Nat → Int64) (ld : Nat → Int32) (lz : Nat → Int32) (mi : Nat → Int64) (fw : Nat → Int64) (hdy : dy ≤ 400) (hmn : mn ≤ 12) (hce : ce ≤ 30) (hly : ly ≤ 30) (hbad : ¬ (0 < ly ∧ 1 ≤ x.toInt ∧ x.toInt ≤ 60 ∧ x.toInt + dy ≤ 400)) : Met l yM_run wM_run ({ frames := 1, cells := 0, slots := 0, locals := 25 }) (va_Pc [.ref mm, .int x] (fun U => U.heap.size = sz ∧ va_P (dC, dI) vwCl [(mm, .inr (5, [.int (nI ly), .int (nI ce), .ref qlo, .ref qlk, .ref qhd, .ref qsf, .ref qpr, .ref qpa, .ref qsk, .long co, .long wo, .int (nI dy), .int da, .int db, .int dr, .int (nI mn), .ref qld, .ref qlz, .int (nI rn), .ref qrd, .ref qrv, .ref qhi, .ref qfw, .ref qkp])), (qlo, .inl (cI, 30, .inl lof)), (qlk, .inl (cI, 30, .inl lk)), (qhd, .inl (cI, 30, .inl hd)), (qsf, .inl (cI, 30, .inl sf)), (qpr, .inl (cJ, 30, .inr (.inl pr))), (qpa, .inl (cJ, 30, .inr (.inl pa))), (qsk, .inl (cJ, 30, .inr (.inl sk))), (qld, .inl (cI, 12, .inl ld)), (qlz, .inl (cI, 12, .inl lz)), (qhi, .inl (cJ, 401, .inr (.inl mi))), (qfw, .inl (cJ, 31, .inr (.inl fw)))] U.heap ∧ va_K (dC, dI) vwCl [(cI, .int), (cJ, .long)] U ∧ va_D (fun _ => True) [(mm, .inr (5, [.int (nI ly), .int (nI ce), .ref qlo, .ref qlk, .ref qhd, .ref qsf, .ref qpr, .ref qpa, .ref qsk, .long co, .long wo, .int (nI dy), .int da, .int db, .int dr, .int (nI mn), .ref qld, .ref qlz, .int (nI rn), .ref qrd, .ref qrv, .ref qhi, .ref qfw, .ref qkp])), (qlo, .inl (cI, 30, .inl lof)), (qlk, .inl (cI, 30, .inl lk)), (qhd, .inl (cI, 30, .inl hd)), (qsf, .inl (cI, 30, .inl sf)), (qpr, .inl (cJ, 30, .inr (.inl pr))), (qpa, .inl (cJ, 30, .inr (.inl pa))), (qsk, .inl (cJ, 30, .inr (.inl sk))), (qld, .inl (cI, 12, .inl ld)), (qlz, .inl (cI, 12, .inl lz)), (qhi, .inl (cJ, 401, .inr (.inl mi))), (qfw, .inl (cJ, 31, .inr (.inl fw)))])) (va_Qi (fun res_ (_ : Unit) => res_ = (-1)) (fun _ t => va_P (dC, dI) vwCl [(mm, .inr (5, [.int (nI ly), .int (nI ce), .ref qlo, .ref qlk, .ref qhd, .ref qsf, .ref qpr, .ref qpa, .ref qsk, .long co, .long wo, .int (nI dy), .int da, .int db, .int dr, .int (nI mn), .ref qld, .ref qlz, .int (nI rn), .ref qrd, .ref qrv, .ref qhi, .ref qfw, .ref qkp])), (qlo, .inl (cI, 30, .inl lof)), (qlk, .inl (cI, 30, .inl lk)), (qhd, .inl (cI, 30, .inl hd)), (qsf, .inl (cI, 30, .inl sf)), (qpr, .inl (cJ, 30, .inr (.inl pr))), (qpa, .inl (cJ, 30, .inr (.inl pa))), (qsk, .inl (cJ, 30, .inr (.inl sk))), (qld, .inl (cI, 12, .inl ld)), (qlz, .inl (cI, 12, .inl lz)), (qhi, .inl (cJ, 401, .inr (.inl mi))), (qfw, .inl (cJ, 31, .inr (.inl fw)))] t.heap ∧ va_K (dC, dI) vwCl [(cI, .int), (cJ, .long)] t ∧ va_D (va_A [(mm, .inr (5, [.int (nI ly), .int (nI ce), .ref qlo, .ref qlk, .ref qhd, .ref qsf, .ref qpr, .ref qpa, .ref qsk, .long co, .long wo, .int (nI dy), .int da, .int db, .int dr, .int (nI mn), .ref qld, .ref qlz, .int (nI rn), .ref qrd, .ref qrv, .ref qhi, .ref qfw, .ref qkp])), (qlo, .inl (cI, 30, .inl lof)), (qlk, .inl (cI, 30, .inl lk)), (qhd, .inl (cI, 30, .inl hd)), (qsf, .inl (cI, 30, .inl sf)), (qpr, .inl (cJ, 30, .inr (.inl pr))), (qpa, .inl (cJ, 30, .inr (.inl pa))), (qsk, .inl (cJ, 30, .inr (.inl sk))), (qld, .inl (cI, 12, .inl ld)), (qlz, .inl (cI, 12, .inl lz)), (qhi, .inl (cJ, 401, .inr (.inl mi))), (qfw, .inl (cJ, 31, .inr (.inl fw)))] sz) [(mm, .inr (5, [.int (nI ly), .int (nI ce), .ref qlo, .ref qlk, .ref qhd, .ref qsf, .ref qpr, .ref qpa, .ref qsk, .long co, .long wo, .int (nI dy), .int da, .int db, .int dr, .int (nI mn), .ref qld, .ref qlz, .int (nI rn), .ref qrd, .ref qrv, .ref qhi, .ref qfw, .ref qkp])), (qlo, .inl (cI, 30, .inl lof)), (qlk, .inl (cI, 30, .inl lk)), (qhd, .inl (cI, 30, .inl hd)), (qsf, .inl (cI, 30, .inl sf)), (qpr, .inl (cJ, 30, .inr (.inl pr))), (qpa, .inl (cJ, 30, .inr (.inl pa))), (qsk, .inl (cJ, 30, .inr (.inl sk))), (qld, .inl (cI, 12, .inl ld)), (qlz, .inl (cI, 12, .inl lz)), (qhi, .inl (cJ, 401, .inr (.inl mi))), (qfw, .inl (cJ, 31, .inr (.inl fw)))]) (va_A [(mm, .inr (5, [.int (nI ly), .int (nI ce), .ref qlo, .ref qlk, .ref qhd, .ref qsf, .ref qpr, .ref qpa, .ref qsk, .long co, .long wo, .int (nI dy), .int da, .int db, .int dr, .int (nI mn), .ref qld, .ref qlz, .int (nI rn), .ref qrd, .ref qrv, .ref qhi, .ref qfw, .ref qkp])), (qlo, .inl (cI, 30, .inl lof)), (qlk, .inl (cI, 30, .inl lk)), (qhd, .inl (cI, 30, .inl hd)), (qsf, .inl (cI, 30, .inl sf)), (qpr, .inl (cJ, 30, .inr (.inl pr))), (qpa, .inl (cJ, 30, .inr (.inl pa))), (qsk, .inl (cJ, 30, .inr (.inl sk))), (qld, .inl (cI, 12, .inl ld)), (qlz, .inl (cI, 12, .inl lz)), (qhi, .inl (cJ, 401, .inr (.inl mi))), (qfw, .inl (cJ, 31, .inr (.inl fw)))] sz)) 0 0 (va_A [(mm, .inr (5, [.int (nI ly), .int (nI ce), .ref qlo, .ref qlk, .ref qhd, .ref qsf, .ref qpr, .ref qpa, .ref qsk, .long co, .long wo, .int (nI dy), .int da, .int db, .int dr, .int (nI mn), .ref qld, .ref qlz, .int (nI rn), .ref qrd, .ref qrv, .ref qhi, .ref qfw, .ref qkp])), (qlo, .inl (cI, 30, .inl lof)), (qlk, .inl (cI, 30, .inl lk)), (qhd, .inl (cI, 30, .inl hd)), (qsf, .inl (cI, 30, .inl sf)), (qpr, .inl (cJ, 30, .inr (.inl pr))), (qpa, .inl (cJ, 30, .inr (.inl pa))), (qsk, .inl (cJ, 30, .inr (.inl sk))), (qld, .inl (cI, 12, .inl ld)), (qlz, .inl (cI, 12, .inl lz)), (qhi, .inl (cJ, 401, .inr (.inl mi))), (qfw, .inl (cJ, 31, .inr (.inl fw)))] sz) := by
  refine Met.ofW (cc := bM_run) (maxL := 3) (ret := (some .int)) (by decide) rfl ?_
  intro p e s m args below meth c s₁ B hml hv
  obtain ⟨rfl, hsz, hP, hK, hD0⟩ := hv
  have hx := B.exec
  have hb := B.bytes
  have hr := B.returns
  have hts := atoms_spec (ws := wM_run) B.pre
  have hown : s.vm.findClass R_M = some m.cls := findClass_of_methodNamed B.named
  have htw : ∀ w ∈ WA, w.before _ s = true := fun w h => hts w (List.mem_cons_of_mem _ h)
  clear hts
  have hlocks := B.notSynchronized
  subst hsz
  have hD := hD0.self (sz := s.heap.size)
  generalize hAe : va_A [(mm, .inr (5, [.int (nI ly), .int (nI ce), .ref qlo, .ref qlk, .ref qhd, .ref qsf, .ref qpr, .ref qpa, .ref qsk, .long co, .long wo, .int (nI dy), .int da, .int db, .int dr, .int (nI mn), .ref qld, .ref qlz, .int (nI rn), .ref qrd, .ref qrv, .ref qhi, .ref qfw, .ref qkp])), (qlo, .inl (cI, 30, .inl lof)), (qlk, .inl (cI, 30, .inl lk)), (qhd, .inl (cI, 30, .inl hd)), (qsf, .inl (cI, 30, .inl sf)), (qpr, .inl (cJ, 30, .inr (.inl pr))), (qpa, .inl (cJ, 30, .inr (.inl pa))), (qsk, .inl (cJ, 30, .inr (.inl sk))), (qld, .inl (cI, 12, .inl ld)), (qlz, .inl (cI, 12, .inl lz)), (qhi, .inl (cJ, 401, .inr (.inl mi))), (qfw, .inl (cJ, 31, .inr (.inl fw)))] s.heap.size = A at hD ⊢
  have hA : ∀ q : Nat, s.heap.size ≤ q → A q := fun q h => by rw [← hAe]; exact Or.inr h
  clear hAe hD0
  have hS : va_S A s.heap s.heap [] := va_S.rf
  have hP : va_P (dC, dI) vwCl [(mm, .inr (5, [.int (nI ly), .int (nI ce), .ref qlo, .ref qlk, .ref qhd, .ref qsf, .ref qpr, .ref qpa, .ref qsk, .long co, .long wo, .int (nI dy), .int da, .int db, .int dr, .int (nI mn), .ref qld, .ref qlz, .int (nI rn), .ref qrd, .ref qrv, .ref qhi, .ref qfw, .ref qkp])), (qlo, .inl (cI, 30, .inl lof)), (qlk, .inl (cI, 30, .inl lk)), (qhd, .inl (cI, 30, .inl hd)), (qsf, .inl (cI, 30, .inl sf)), (qpr, .inl (cJ, 30, .inr (.inl pr))), (qpa, .inl (cJ, 30, .inr (.inl pa))), (qsk, .inl (cJ, 30, .inr (.inl sk))), (qld, .inl (cI, 12, .inl ld)), (qlz, .inl (cI, 12, .inl lz)), (qhi, .inl (cJ, 401, .inr (.inl mi))), (qfw, .inl (cJ, 31, .inr (.inl fw)))] s.heap := hP
  have hl := lv_entry ([.ref mm, .int x]) (n := 3) (Nat.le_of_ble_eq_true rfl)
  rw [lg_entry_eq]
  generalize (lg_sl ([.ref mm, .int x]) ++ List.replicate (3 - (lg_sl ([.ref mm, .int x])).length) Slot.unset).toArray = ls at hl ⊢
  have hl : lv_has ls 3 [(0, .ref mm), (1, .int x)] := hl
  refine lv_iload_n hx hb dM_run_0 rfl (lv_at hl 1 rfl) ?_
  refine lv_i2l (v := x.toInt64) hx hb dM_run_1 rfl ?_
  refine lv_lconst (v := 1) hx hb dM_run_2 (by decide) ?_
  refine lv_ldc2 (v := 60) hx hb hown (htw _ m_456) dM_run_3 ?_
  have hPc := hP.sub (ws' := []) [] rfl
  have hDc := hD.sub (ws' := []) [] (by decide) rfl
  have hFc := va_free (wc := []) hD hS hA [] rfl
  refine va_calli (va_runS (As := [.long x.toInt64, .long 1, .long 60]) (rest := []) ⟨hx, hb, hml, hown, htw⟩ (kM_in l dC dI cI cJ s.heap.size x.toInt64 1 60) (va_cwS 3 htw (ws_good m_435 m_436 m_6 m_437) rfl rfl rfl (by decide +kernel) ⟨Nat.le_of_ble_eq_true rfl, Nat.le_of_ble_eq_true rfl⟩) ⟨fun a U g mk q => by obtain ⟨q0, q1, qP, qK, qD⟩ := q; exact ⟨q0, q1, qP, va_K.moved (u := U) (U := U.calling g mk a) (Vm.Alike.refl U.vm) qK, qD⟩, fun U hU hW => ⟨rfl, by rw [hU], by rw [hU]; exact hPc, va_K.moved hW.alike hK, hDc.weaken (fun _ _ _ _ => trivial)⟩⟩ rfl rfl hl.1 rfl (lv_room (Nat.le_of_ble_eq_true rfl)) dM_run_6 ⟨Nat.le_of_ble_eq_true rfl, Nat.le_of_ble_eq_true rfl⟩) hS (fun q _ h => hFc q h) hFc (fun res_ u_ t H1 locs ht hvm hw hB hz1 hk1 hS => ?_)
  obtain ⟨hP1, hK1, hD1⟩ := hB
  rw [ht] at hP1
  obtain ⟨hP, hD⟩ := va_join (wr := [(mm, .inr (5, [.int (nI ly), .int (nI ce), .ref qlo, .ref qlk, .ref qhd, .ref qsf, .ref qpr, .ref qpa, .ref qsk, .long co, .long wo, .int (nI dy), .int da, .int db, .int dr, .int (nI mn), .ref qld, .ref qlz, .int (nI rn), .ref qrd, .ref qrv, .ref qhi, .ref qfw, .ref qkp])), (qlo, .inl (cI, 30, .inl lof)), (qlk, .inl (cI, 30, .inl lk)), (qhd, .inl (cI, 30, .inl hd)), (qsf, .inl (cI, 30, .inl sf)), (qpr, .inl (cJ, 30, .inr (.inl pr))), (qpa, .inl (cJ, 30, .inr (.inl pa))), (qsk, .inl (cJ, 30, .inr (.inl sk))), (qld, .inl (cI, 12, .inl ld)), (qlz, .inl (cI, 12, .inl lz)), (qhi, .inl (cJ, 401, .inr (.inl mi))), (qfw, .inl (cJ, 31, .inr (.inl fw)))]) (w1 := []) hP hD [] [0, 1, 2, 3, 4, 5, 6, 7, 8, 9, 10, 11] rfl rfl (by decide) (by decide) hk1 hFc hP1 hD1
  generalize H1 = H at hP hS ⊢
  have hP : va_P (dC, dI) vwCl [(mm, .inr (5, [.int (nI ly), .int (nI ce), .ref qlo, .ref qlk, .ref qhd, .ref qsf, .ref qpr, .ref qpa, .ref qsk, .long co, .long wo, .int (nI dy), .int da, .int db, .int dr, .int (nI mn), .ref qld, .ref qlz, .int (nI rn), .ref qrd, .ref qrv, .ref qhi, .ref qfw, .ref qkp])), (qlo, .inl (cI, 30, .inl lof)), (qlk, .inl (cI, 30, .inl lk)), (qhd, .inl (cI, 30, .inl hd)), (qsf, .inl (cI, 30, .inl sf)), (qpr, .inl (cJ, 30, .inr (.inl pr))), (qpa, .inl (cJ, 30, .inr (.inl pa))), (qsk, .inl (cJ, 30, .inr (.inl sk))), (qld, .inl (cI, 12, .inl ld)), (qlz, .inl (cI, 12, .inl lz)), (qhi, .inl (cJ, 401, .inr (.inl mi))), (qfw, .inl (cJ, 31, .inr (.inl fw)))] H := hP
  have hD : va_D A [(mm, .inr (5, [.int (nI ly), .int (nI ce), .ref qlo, .ref qlk, .ref qhd, .ref qsf, .ref qpr, .ref qpa, .ref qsk, .long co, .long wo, .int (nI dy), .int da, .int db, .int dr, .int (nI mn), .ref qld, .ref qlz, .int (nI rn), .ref qrd, .ref qrv, .ref qhi, .ref qfw, .ref qkp])), (qlo, .inl (cI, 30, .inl lof)), (qlk, .inl (cI, 30, .inl lk)), (qhd, .inl (cI, 30, .inl hd)), (qsf, .inl (cI, 30, .inl sf)), (qpr, .inl (cJ, 30, .inr (.inl pr))), (qpa, .inl (cJ, 30, .inr (.inl pa))), (qsk, .inl (cJ, 30, .inr (.inl sk))), (qld, .inl (cI, 12, .inl ld)), (qlz, .inl (cI, 12, .inl lz)), (qhi, .inl (cJ, 401, .inr (.inl mi))), (qfw, .inl (cJ, 31, .inr (.inl fw)))] := hD
  clear hPc hDc hFc hP1 hD1 hK1 hk1 hz1 hvm ht
  obtain rfl : kb (1 ≤ x.toInt64 ∧ x.toInt64 ≤ 60) = res_ := hw.symm
  refine lv_if_eq (tgt := 31) hx hb dM_run_9 (by decide) (fun hc9 => ?_) (fun hc9 => ?_)
  · -- 9 taken
    rw [kb_eq0, k_wl, show ((1 : Int64)).toInt = 1 from by decide, show ((60 : Int64)).toInt = 60 from by decide] at hc9
    simp only [Int32.toInt_toInt64] at hc9
    refine lv_iconst (v := (-1)) hx hb dM_run_31 (by decide) ?_
    have hP : va_P (dC, dI) vwCl [(mm, .inr (5, [.int (nI ly), .int (nI ce), .ref qlo, .ref qlk, .ref qhd, .ref qsf, .ref qpr, .ref qpa, .ref qsk, .long co, .long wo, .int (nI dy), .int da, .int db, .int dr, .int (nI mn), .ref qld, .ref qlz, .int (nI rn), .ref qrd, .ref qrv, .ref qhi, .ref qfw, .ref qkp])), (qlo, .inl (cI, 30, .inl lof)), (qlk, .inl (cI, 30, .inl lk)), (qhd, .inl (cI, 30, .inl hd)), (qsf, .inl (cI, 30, .inl sf)), (qpr, .inl (cJ, 30, .inr (.inl pr))), (qpa, .inl (cJ, 30, .inr (.inl pa))), (qsk, .inl (cJ, 30, .inr (.inl sk))), (qld, .inl (cI, 12, .inl ld)), (qlz, .inl (cI, 12, .inl lz)), (qhi, .inl (cJ, 401, .inr (.inl mi))), (qfw, .inl (cJ, 31, .inr (.inl fw)))] H := by first | exact hP | simpa only [] using hP
    have hD : va_D A [(mm, .inr (5, [.int (nI ly), .int (nI ce), .ref qlo, .ref qlk, .ref qhd, .ref qsf, .ref qpr, .ref qpa, .ref qsk, .long co, .long wo, .int (nI dy), .int da, .int db, .int dr, .int (nI mn), .ref qld, .ref qlz, .int (nI rn), .ref qrd, .ref qrv, .ref qhi, .ref qfw, .ref qkp])), (qlo, .inl (cI, 30, .inl lof)), (qlk, .inl (cI, 30, .inl lk)), (qhd, .inl (cI, 30, .inl hd)), (qsf, .inl (cI, 30, .inl sf)), (qpr, .inl (cJ, 30, .inr (.inl pr))), (qpa, .inl (cJ, 30, .inr (.inl pa))), (qsk, .inl (cJ, 30, .inr (.inl sk))), (qld, .inl (cI, 12, .inl ld)), (qlz, .inl (cI, 12, .inl lz)), (qhi, .inl (cJ, 401, .inr (.inl mi))), (qfw, .inl (cJ, 31, .inr (.inl fw)))] := by first | exact hD | simpa only [] using hD
    exact W.iret (v := (-1)) hx hb hr (fun t ht hW => ⟨⟨(-1), (), rfl, rfl, by rw [ht]; exact hP, va_K.moved hW.alike hK, hD⟩, hS.F ht⟩) hS.2.2 dM_run_32
  · -- 9 not taken
    rw [kb_eq0, k_wl, show ((1 : Int64)).toInt = 1 from by decide, show ((60 : Int64)).toInt = 60 from by decide] at hc9
    simp only [Int32.toInt_toInt64] at hc9
    refine lv_aload_n hx hb dM_run_12 rfl (lv_at hl 0 rfl) ?_
    refine va_get (D := (dC, dI)) (ci := 5) (v := .int (nI dy)) (C := R_M) (T := T_M) (N := 24) hx hb htw in_M hown hK hP 0 rfl rfl 11 (by decide) (htw _ m_368) (fun _ h9 => h9) rfl dM_run_13 ?_
    refine lv_iload_n hx hb dM_run_16 rfl (lv_at hl 1 rfl) ?_
    refine lv_iadd hx hb dM_run_17 ?_
    have hadd : (nI dy + x).toInt = (dy : Int) + x.toInt := k_addT (by omega) (by omega) (by omega)
    refine lv_sipush (v := nI 400) hx hb dM_run_18 (by decide) ?_
    refine lv_icmp_gt (tgt := 31) hx hb dM_run_21 (by decide) (fun hc21 => ?_) (fun hc21 => ?_)
    · -- 21 taken
      rw [Int32.lt_iff_toInt_lt, nI_toInt (n := 400) (by omega)] at hc21
      refine lv_iconst (v := (-1)) hx hb dM_run_31 (by decide) ?_
      have hP : va_P (dC, dI) vwCl [(mm, .inr (5, [.int (nI ly), .int (nI ce), .ref qlo, .ref qlk, .ref qhd, .ref qsf, .ref qpr, .ref qpa, .ref qsk, .long co, .long wo, .int (nI dy), .int da, .int db, .int dr, .int (nI mn), .ref qld, .ref qlz, .int (nI rn), .ref qrd, .ref qrv, .ref qhi, .ref qfw, .ref qkp])), (qlo, .inl (cI, 30, .inl lof)), (qlk, .inl (cI, 30, .inl lk)), (qhd, .inl (cI, 30, .inl hd)), (qsf, .inl (cI, 30, .inl sf)), (qpr, .inl (cJ, 30, .inr (.inl pr))), (qpa, .inl (cJ, 30, .inr (.inl pa))), (qsk, .inl (cJ, 30, .inr (.inl sk))), (qld, .inl (cI, 12, .inl ld)), (qlz, .inl (cI, 12, .inl lz)), (qhi, .inl (cJ, 401, .inr (.inl mi))), (qfw, .inl (cJ, 31, .inr (.inl fw)))] H := by first | exact hP | simpa only [] using hP
      have hD : va_D A [(mm, .inr (5, [.int (nI ly), .int (nI ce), .ref qlo, .ref qlk, .ref qhd, .ref qsf, .ref qpr, .ref qpa, .ref qsk, .long co, .long wo, .int (nI dy), .int da, .int db, .int dr, .int (nI mn), .ref qld, .ref qlz, .int (nI rn), .ref qrd, .ref qrv, .ref qhi, .ref qfw, .ref qkp])), (qlo, .inl (cI, 30, .inl lof)), (qlk, .inl (cI, 30, .inl lk)), (qhd, .inl (cI, 30, .inl hd)), (qsf, .inl (cI, 30, .inl sf)), (qpr, .inl (cJ, 30, .inr (.inl pr))), (qpa, .inl (cJ, 30, .inr (.inl pa))), (qsk, .inl (cJ, 30, .inr (.inl sk))), (qld, .inl (cI, 12, .inl ld)), (qlz, .inl (cI, 12, .inl lz)), (qhi, .inl (cJ, 401, .inr (.inl mi))), (qfw, .inl (cJ, 31, .inr (.inl fw)))] := by first | exact hD | simpa only [] using hD
      exact W.iret (v := (-1)) hx hb hr (fun t ht hW => ⟨⟨(-1), (), rfl, rfl, by rw [ht]; exact hP, va_K.moved hW.alike hK, hD⟩, hS.F ht⟩) hS.2.2 dM_run_32
    · -- 21 not taken
      rw [Int32.lt_iff_toInt_lt, nI_toInt (n := 400) (by omega)] at hc21
      refine lv_aload_n hx hb dM_run_24 rfl (lv_at hl 0 rfl) ?_
      refine va_get (D := (dC, dI)) (ci := 5) (v := .int (nI ly)) (C := R_M) (T := T_M) (N := 24) hx hb htw in_M hown hK hP 0 rfl rfl 0 (by decide) (htw _ m_357) (fun _ h9 => h9) rfl dM_run_25 ?_
      refine lv_if_ne (tgt := 33) hx hb dM_run_28 (by decide) (fun hc28 => ?_) (fun hc28 => ?_)
      · -- 28 taken
        rw [show (0 : Int32) = nI 0 from rfl, nI_eq (by omega) (by omega)] at hc28
        exfalso; omega
      · -- 28 not taken
        rw [show (0 : Int32) = nI 0 from rfl, nI_eq (by omega) (by omega)] at hc28
        refine lv_iconst (v := (-1)) hx hb dM_run_31 (by decide) ?_
        have hP : va_P (dC, dI) vwCl [(mm, .inr (5, [.int (nI ly), .int (nI ce), .ref qlo, .ref qlk, .ref qhd, .ref qsf, .ref qpr, .ref qpa, .ref qsk, .long co, .long wo, .int (nI dy), .int da, .int db, .int dr, .int (nI mn), .ref qld, .ref qlz, .int (nI rn), .ref qrd, .ref qrv, .ref qhi, .ref qfw, .ref qkp])), (qlo, .inl (cI, 30, .inl lof)), (qlk, .inl (cI, 30, .inl lk)), (qhd, .inl (cI, 30, .inl hd)), (qsf, .inl (cI, 30, .inl sf)), (qpr, .inl (cJ, 30, .inr (.inl pr))), (qpa, .inl (cJ, 30, .inr (.inl pa))), (qsk, .inl (cJ, 30, .inr (.inl sk))), (qld, .inl (cI, 12, .inl ld)), (qlz, .inl (cI, 12, .inl lz)), (qhi, .inl (cJ, 401, .inr (.inl mi))), (qfw, .inl (cJ, 31, .inr (.inl fw)))] H := by first | exact hP | simpa only [] using hP
        have hD : va_D A [(mm, .inr (5, [.int (nI ly), .int (nI ce), .ref qlo, .ref qlk, .ref qhd, .ref qsf, .ref qpr, .ref qpa, .ref qsk, .long co, .long wo, .int (nI dy), .int da, .int db, .int dr, .int (nI mn), .ref qld, .ref qlz, .int (nI rn), .ref qrd, .ref qrv, .ref qhi, .ref qfw, .ref qkp])), (qlo, .inl (cI, 30, .inl lof)), (qlk, .inl (cI, 30, .inl lk)), (qhd, .inl (cI, 30, .inl hd)), (qsf, .inl (cI, 30, .inl sf)), (qpr, .inl (cJ, 30, .inr (.inl pr))), (qpa, .inl (cJ, 30, .inr (.inl pa))), (qsk, .inl (cJ, 30, .inr (.inl sk))), (qld, .inl (cI, 12, .inl ld)), (qlz, .inl (cI, 12, .inl lz)), (qhi, .inl (cJ, 401, .inr (.inl mi))), (qfw, .inl (cJ, 31, .inr (.inl fw)))] := by first | exact hD | simpa only [] using hD
        exact W.iret (v := (-1)) hx hb hr (fun t ht hW => ⟨⟨(-1), (), rfl, rfl, by rw [ht]; exact hP, va_K.moved hW.alike hK, hD⟩, hS.F ht⟩) hS.2.2 dM_run_32
set_option maxHeartbeats 4000000 in
set_option maxRecDepth 100000 in
theorem kM_sunk_ok (l : Launch) (dC : Nat → ClassId) (dI : Nat → Nat → Nat) (cI cJ : ClassId) (mm qlo qlk qhd qsf qpr qpa qsk qld qlz qrd qrv qhi qfw qkp : Nat) (sz : Nat) (x : Int32) (ly : Nat) (ce : Nat) (co : Int64) (wo : Int64) (dy : Nat) (da : Int32) (db : Int32) (dr : Int32) (mn : Nat) (rn : Nat) (lof : Nat → Int32) (sk : Nat → Int64) (hce : ce ≤ 30) (hly : ly ≤ 30) (hok : -1 ≤ x.toInt ∧ x.toInt < ly) : Met l yM_sunk wM_sunk ({ frames := 1, cells := 0, slots := 0, locals := 25 }) (va_Pc [.ref mm, .int x] (fun U => U.heap.size = sz ∧ va_P (dC, dI) vwCl [(mm, .inr (5, [.int (nI ly), .int (nI ce), .ref qlo, .ref qlk, .ref qhd, .ref qsf, .ref qpr, .ref qpa, .ref qsk, .long co, .long wo, .int (nI dy), .int da, .int db, .int dr, .int (nI mn), .ref qld, .ref qlz, .int (nI rn), .ref qrd, .ref qrv, .ref qhi, .ref qfw, .ref qkp])), (qlo, .inl (cI, 30, .inl lof)), (qsk, .inl (cJ, 30, .inr (.inl sk)))] U.heap ∧ va_K (dC, dI) vwCl [(cI, .int), (cJ, .long)] U ∧ va_D (fun _ => True) [(mm, .inr (5, [.int (nI ly), .int (nI ce), .ref qlo, .ref qlk, .ref qhd, .ref qsf, .ref qpr, .ref qpa, .ref qsk, .long co, .long wo, .int (nI dy), .int da, .int db, .int dr, .int (nI mn), .ref qld, .ref qlz, .int (nI rn), .ref qrd, .ref qrv, .ref qhi, .ref qfw, .ref qkp])), (qlo, .inl (cI, 30, .inl lof)), (qsk, .inl (cJ, 30, .inr (.inl sk)))])) (va_Ql (fun res_ (_ : Unit) => res_ = k_mu lof sk x ce / 1000) (fun _ t => va_P (dC, dI) vwCl [(mm, .inr (5, [.int (nI ly), .int (nI ce), .ref qlo, .ref qlk, .ref qhd, .ref qsf, .ref qpr, .ref qpa, .ref qsk, .long co, .long wo, .int (nI dy), .int da, .int db, .int dr, .int (nI mn), .ref qld, .ref qlz, .int (nI rn), .ref qrd, .ref qrv, .ref qhi, .ref qfw, .ref qkp])), (qlo, .inl (cI, 30, .inl lof)), (qsk, .inl (cJ, 30, .inr (.inl sk)))] t.heap ∧ va_K (dC, dI) vwCl [(cI, .int), (cJ, .long)] t ∧ va_D (va_A [(mm, .inr (5, [.int (nI ly), .int (nI ce), .ref qlo, .ref qlk, .ref qhd, .ref qsf, .ref qpr, .ref qpa, .ref qsk, .long co, .long wo, .int (nI dy), .int da, .int db, .int dr, .int (nI mn), .ref qld, .ref qlz, .int (nI rn), .ref qrd, .ref qrv, .ref qhi, .ref qfw, .ref qkp])), (qlo, .inl (cI, 30, .inl lof)), (qsk, .inl (cJ, 30, .inr (.inl sk)))] sz) [(mm, .inr (5, [.int (nI ly), .int (nI ce), .ref qlo, .ref qlk, .ref qhd, .ref qsf, .ref qpr, .ref qpa, .ref qsk, .long co, .long wo, .int (nI dy), .int da, .int db, .int dr, .int (nI mn), .ref qld, .ref qlz, .int (nI rn), .ref qrd, .ref qrv, .ref qhi, .ref qfw, .ref qkp])), (qlo, .inl (cI, 30, .inl lof)), (qsk, .inl (cJ, 30, .inr (.inl sk)))]) (va_A [(mm, .inr (5, [.int (nI ly), .int (nI ce), .ref qlo, .ref qlk, .ref qhd, .ref qsf, .ref qpr, .ref qpa, .ref qsk, .long co, .long wo, .int (nI dy), .int da, .int db, .int dr, .int (nI mn), .ref qld, .ref qlz, .int (nI rn), .ref qrd, .ref qrv, .ref qhi, .ref qfw, .ref qkp])), (qlo, .inl (cI, 30, .inl lof)), (qsk, .inl (cJ, 30, .inr (.inl sk)))] sz)) 0 0 (va_A [(mm, .inr (5, [.int (nI ly), .int (nI ce), .ref qlo, .ref qlk, .ref qhd, .ref qsf, .ref qpr, .ref qpa, .ref qsk, .long co, .long wo, .int (nI dy), .int da, .int db, .int dr, .int (nI mn), .ref qld, .ref qlz, .int (nI rn), .ref qrd, .ref qrv, .ref qhi, .ref qfw, .ref qkp])), (qlo, .inl (cI, 30, .inl lof)), (qsk, .inl (cJ, 30, .inr (.inl sk)))] sz) := by
  refine Met.ofW (cc := bM_sunk) (maxL := 2) (ret := (some .long)) (by decide) rfl ?_
  intro p e s m args below meth c s₁ B hml hv
  obtain ⟨rfl, hsz, hP, hK, hD0⟩ := hv
  have hx := B.exec
  have hb := B.bytes
  have hr := B.returns
  have hts := atoms_spec (ws := wM_sunk) B.pre
  have hown : s.vm.findClass R_M = some m.cls := findClass_of_methodNamed B.named
  have htw : ∀ w ∈ WA, w.before _ s = true := fun w h => hts w (List.mem_cons_of_mem _ h)
  clear hts
  have hlocks := B.notSynchronized
  subst hsz
  have hD := hD0.self (sz := s.heap.size)
  generalize hAe : va_A [(mm, .inr (5, [.int (nI ly), .int (nI ce), .ref qlo, .ref qlk, .ref qhd, .ref qsf, .ref qpr, .ref qpa, .ref qsk, .long co, .long wo, .int (nI dy), .int da, .int db, .int dr, .int (nI mn), .ref qld, .ref qlz, .int (nI rn), .ref qrd, .ref qrv, .ref qhi, .ref qfw, .ref qkp])), (qlo, .inl (cI, 30, .inl lof)), (qsk, .inl (cJ, 30, .inr (.inl sk)))] s.heap.size = A at hD ⊢
  have hA : ∀ q : Nat, s.heap.size ≤ q → A q := fun q h => by rw [← hAe]; exact Or.inr h
  clear hAe hD0
  have hS : va_S A s.heap s.heap [] := va_S.rf
  have hP : va_P (dC, dI) vwCl [(mm, .inr (5, [.int (nI ly), .int (nI ce), .ref qlo, .ref qlk, .ref qhd, .ref qsf, .ref qpr, .ref qpa, .ref qsk, .long co, .long wo, .int (nI dy), .int da, .int db, .int dr, .int (nI mn), .ref qld, .ref qlz, .int (nI rn), .ref qrd, .ref qrv, .ref qhi, .ref qfw, .ref qkp])), (qlo, .inl (cI, 30, .inl lof)), (qsk, .inl (cJ, 30, .inr (.inl sk)))] s.heap := hP
  have hl := lv_entry ([.ref mm, .int x]) (n := 2) (Nat.le_of_ble_eq_true rfl)
  rw [lg_entry_eq]
  generalize (lg_sl ([.ref mm, .int x]) ++ List.replicate (2 - (lg_sl ([.ref mm, .int x])).length) Slot.unset).toArray = ls at hl ⊢
  have hl : lv_has ls 2 [(0, .ref mm), (1, .int x)] := hl
  refine lv_iload_n hx hb dM_sunk_0 rfl (lv_at hl 1 rfl) ?_
  refine lv_i2l (v := x.toInt64) hx hb dM_sunk_1 rfl ?_
  refine lv_ldc2 (v := (-1)) hx hb hown (htw _ m_477) dM_sunk_2 ?_
  refine lv_aload_n hx hb dM_sunk_5 rfl (lv_at hl 0 rfl) ?_
  refine va_get (D := (dC, dI)) (ci := 5) (v := .int (nI ly)) (C := R_M) (T := T_M) (N := 24) hx hb htw in_M hown hK hP 0 rfl rfl 0 (by decide) (htw _ m_357) (fun _ h9 => h9) rfl dM_sunk_6 ?_
  refine lv_iconst (v := nI 1) hx hb dM_sunk_9 (by decide) ?_
  refine lv_isub hx hb dM_sunk_10 ?_
  refine lv_i2l (v := ((nI ly) - (nI 1)).toInt64) hx hb dM_sunk_11 rfl ?_
  have hPc := hP.sub (ws' := []) [] rfl
  have hDc := hD.sub (ws' := []) [] (by decide) rfl
  have hFc := va_free (wc := []) hD hS hA [] rfl
  refine va_calli (va_runS (As := [.long x.toInt64, .long (-1), .long (((nI ly) - (nI 1)).toInt64)]) (rest := []) ⟨hx, hb, hml, hown, htw⟩ (kM_in l dC dI cI cJ s.heap.size x.toInt64 (-1) (((nI ly) - (nI 1)).toInt64)) (va_cwS 3 htw (ws_good m_435 m_436 m_6 m_437) rfl rfl rfl (by decide +kernel) ⟨Nat.le_of_ble_eq_true rfl, Nat.le_of_ble_eq_true rfl⟩) ⟨fun a U g mk q => by obtain ⟨q0, q1, qP, qK, qD⟩ := q; exact ⟨q0, q1, qP, va_K.moved (u := U) (U := U.calling g mk a) (Vm.Alike.refl U.vm) qK, qD⟩, fun U hU hW => ⟨rfl, by rw [hU], by rw [hU]; exact hPc, va_K.moved hW.alike hK, hDc.weaken (fun _ _ _ _ => trivial)⟩⟩ rfl rfl hl.1 rfl (lv_room (Nat.le_of_ble_eq_true rfl)) dM_sunk_12 ⟨Nat.le_of_ble_eq_true rfl, Nat.le_of_ble_eq_true rfl⟩) hS (fun q _ h => hFc q h) hFc (fun res_ u_ t H1 locs ht hvm hw hB hz1 hk1 hS => ?_)
  obtain ⟨hP1, hK1, hD1⟩ := hB
  rw [ht] at hP1
  obtain ⟨hP, hD⟩ := va_join (wr := [(mm, .inr (5, [.int (nI ly), .int (nI ce), .ref qlo, .ref qlk, .ref qhd, .ref qsf, .ref qpr, .ref qpa, .ref qsk, .long co, .long wo, .int (nI dy), .int da, .int db, .int dr, .int (nI mn), .ref qld, .ref qlz, .int (nI rn), .ref qrd, .ref qrv, .ref qhi, .ref qfw, .ref qkp])), (qlo, .inl (cI, 30, .inl lof)), (qsk, .inl (cJ, 30, .inr (.inl sk)))]) (w1 := []) hP hD [] [0, 1, 2] rfl rfl (by decide) (by decide) hk1 hFc hP1 hD1
  generalize H1 = H at hP hS ⊢
  have hP : va_P (dC, dI) vwCl [(mm, .inr (5, [.int (nI ly), .int (nI ce), .ref qlo, .ref qlk, .ref qhd, .ref qsf, .ref qpr, .ref qpa, .ref qsk, .long co, .long wo, .int (nI dy), .int da, .int db, .int dr, .int (nI mn), .ref qld, .ref qlz, .int (nI rn), .ref qrd, .ref qrv, .ref qhi, .ref qfw, .ref qkp])), (qlo, .inl (cI, 30, .inl lof)), (qsk, .inl (cJ, 30, .inr (.inl sk)))] H := hP
  have hD : va_D A [(mm, .inr (5, [.int (nI ly), .int (nI ce), .ref qlo, .ref qlk, .ref qhd, .ref qsf, .ref qpr, .ref qpa, .ref qsk, .long co, .long wo, .int (nI dy), .int da, .int db, .int dr, .int (nI mn), .ref qld, .ref qlz, .int (nI rn), .ref qrd, .ref qrv, .ref qhi, .ref qfw, .ref qkp])), (qlo, .inl (cI, 30, .inl lof)), (qsk, .inl (cJ, 30, .inr (.inl sk)))] := hD
  clear hPc hDc hFc hP1 hD1 hK1 hk1 hz1 hvm ht
  obtain rfl : kb ((-1) ≤ x.toInt64 ∧ x.toInt64 ≤ (((nI ly) - (nI 1)).toInt64)) = res_ := hw.symm
  refine lv_if_eq (tgt := 30) hx hb dM_sunk_15 (by decide) (fun hc15 => ?_) (fun hc15 => ?_)
  · -- 15 taken
    rw [kb_eq0, k_wl, show (((-1) : Int64)).toInt = -1 from by decide] at hc15
    simp only [Int32.toInt_toInt64] at hc15
    rw [pk_sub_toInt (a := ly) (b := 1) (by omega) (by omega)] at hc15
    exfalso; omega
  · -- 15 not taken
    rw [kb_eq0, k_wl, show (((-1) : Int64)).toInt = -1 from by decide] at hc15
    simp only [Int32.toInt_toInt64] at hc15
    rw [pk_sub_toInt (a := ly) (b := 1) (by omega) (by omega)] at hc15
    refine lv_aload_n hx hb dM_sunk_18 rfl (lv_at hl 0 rfl) ?_
    refine lv_iload_n hx hb dM_sunk_19 rfl (lv_at hl 1 rfl) ?_
    have hPc := hP.sub (ws' := [(mm, .inr (5, [.int (nI ly), .int (nI ce), .ref qlo, .ref qlk, .ref qhd, .ref qsf, .ref qpr, .ref qpa, .ref qsk, .long co, .long wo, .int (nI dy), .int da, .int db, .int dr, .int (nI mn), .ref qld, .ref qlz, .int (nI rn), .ref qrd, .ref qrv, .ref qhi, .ref qfw, .ref qkp])), (qlo, .inl (cI, 30, .inl lof)), (qsk, .inl (cJ, 30, .inr (.inl sk)))]) [0, 1, 2] rfl
    have hDc := hD.sub (ws' := [(mm, .inr (5, [.int (nI ly), .int (nI ce), .ref qlo, .ref qlk, .ref qhd, .ref qsf, .ref qpr, .ref qpa, .ref qsk, .long co, .long wo, .int (nI dy), .int da, .int db, .int dr, .int (nI mn), .ref qld, .ref qlz, .int (nI rn), .ref qrd, .ref qrv, .ref qhi, .ref qfw, .ref qkp])), (qlo, .inl (cI, 30, .inl lof)), (qsk, .inl (cJ, 30, .inr (.inl sk)))]) [0, 1, 2] (by decide) rfl
    have hFc := va_free (wc := [(mm, .inr (5, [.int (nI ly), .int (nI ce), .ref qlo, .ref qlk, .ref qhd, .ref qsf, .ref qpr, .ref qpa, .ref qsk, .long co, .long wo, .int (nI dy), .int da, .int db, .int dr, .int (nI mn), .ref qld, .ref qlz, .int (nI rn), .ref qrd, .ref qrv, .ref qhi, .ref qfw, .ref qkp])), (qlo, .inl (cI, 30, .inl lof)), (qsk, .inl (cJ, 30, .inr (.inl sk)))]) hD hS hA [0, 1, 2] rfl
    refine va_calll (va_runV (As := [.int x]) (rest := []) ⟨hx, hb, hml, hown, htw⟩ (kM_units l dC dI cI cJ mm qlo qlk qhd qsf qpr qpa qsk qld qlz qrd qrv qhi qfw qkp H.size x ly ce co wo dy da db dr mn rn lof sk (by first | assumption | omega | decide)) (cwV 1 htw (wv_good m_469 m_471 ms_8 m_6 m_472) rfl rfl rfl (by decide +kernel) ⟨Nat.le_of_ble_eq_true rfl, Nat.le_of_ble_eq_true rfl⟩) ⟨fun a U g mk q => by obtain ⟨q0, q1, qP, qK, qD⟩ := q; exact ⟨q0, q1, qP, va_K.moved (u := U) (U := U.calling g mk a) (Vm.Alike.refl U.vm) qK, qD⟩, va_recv hK hPc (ci := 5) (q0 := 0) rfl rfl, fun U hU hW => ⟨rfl, by rw [hU], by rw [hU]; exact hPc, va_K.moved hW.alike hK, hDc.weaken (fun _ _ _ _ => trivial)⟩⟩ rfl rfl hl.1 rfl (lv_room (Nat.le_of_ble_eq_true rfl)) dM_sunk_20 ⟨Nat.le_of_ble_eq_true rfl, Nat.le_of_ble_eq_true rfl⟩) hS (fun q _ h => hFc q h) hFc (fun res_ u_ t H1 locs ht hvm hw hB hz1 hk1 hS => ?_)
    obtain ⟨hP1, hK1, hD1⟩ := hB
    rw [ht] at hP1
    obtain ⟨hP, hD⟩ := va_join (wr := []) (w1 := [(mm, .inr (5, [.int (nI ly), .int (nI ce), .ref qlo, .ref qlk, .ref qhd, .ref qsf, .ref qpr, .ref qpa, .ref qsk, .long co, .long wo, .int (nI dy), .int da, .int db, .int dr, .int (nI mn), .ref qld, .ref qlz, .int (nI rn), .ref qrd, .ref qrv, .ref qhi, .ref qfw, .ref qkp])), (qlo, .inl (cI, 30, .inl lof)), (qsk, .inl (cJ, 30, .inr (.inl sk)))]) hP hD [0, 1, 2] [] rfl rfl (by decide) (by decide) hk1 hFc hP1 hD1
    generalize H1 = H at hP hS ⊢
    have hP : va_P (dC, dI) vwCl [(mm, .inr (5, [.int (nI ly), .int (nI ce), .ref qlo, .ref qlk, .ref qhd, .ref qsf, .ref qpr, .ref qpa, .ref qsk, .long co, .long wo, .int (nI dy), .int da, .int db, .int dr, .int (nI mn), .ref qld, .ref qlz, .int (nI rn), .ref qrd, .ref qrv, .ref qhi, .ref qfw, .ref qkp])), (qlo, .inl (cI, 30, .inl lof)), (qsk, .inl (cJ, 30, .inr (.inl sk)))] H := hP
    have hD : va_D A [(mm, .inr (5, [.int (nI ly), .int (nI ce), .ref qlo, .ref qlk, .ref qhd, .ref qsf, .ref qpr, .ref qpa, .ref qsk, .long co, .long wo, .int (nI dy), .int da, .int db, .int dr, .int (nI mn), .ref qld, .ref qlz, .int (nI rn), .ref qrd, .ref qrv, .ref qhi, .ref qfw, .ref qkp])), (qlo, .inl (cI, 30, .inl lof)), (qsk, .inl (cJ, 30, .inr (.inl sk)))] := hD
    clear hPc hDc hFc hP1 hD1 hK1 hk1 hz1 hvm ht
    obtain rfl : k_mu lof sk x ce = res_ := hw.symm
    refine lv_ldc2 (v := 1000) hx hb hown (htw _ m_439) dM_sunk_23 ?_
    refine lv_ldiv hx hb dM_sunk_26 (by decide) ?_
    refine lv_goto (tgt := 33) hx hb dM_sunk_27 (by decide) ?_
    have hP : va_P (dC, dI) vwCl [(mm, .inr (5, [.int (nI ly), .int (nI ce), .ref qlo, .ref qlk, .ref qhd, .ref qsf, .ref qpr, .ref qpa, .ref qsk, .long co, .long wo, .int (nI dy), .int da, .int db, .int dr, .int (nI mn), .ref qld, .ref qlz, .int (nI rn), .ref qrd, .ref qrv, .ref qhi, .ref qfw, .ref qkp])), (qlo, .inl (cI, 30, .inl lof)), (qsk, .inl (cJ, 30, .inr (.inl sk)))] H := by first | exact hP | simpa only [] using hP
    have hD : va_D A [(mm, .inr (5, [.int (nI ly), .int (nI ce), .ref qlo, .ref qlk, .ref qhd, .ref qsf, .ref qpr, .ref qpa, .ref qsk, .long co, .long wo, .int (nI dy), .int da, .int db, .int dr, .int (nI mn), .ref qld, .ref qlz, .int (nI rn), .ref qrd, .ref qrv, .ref qhi, .ref qfw, .ref qkp])), (qlo, .inl (cI, 30, .inl lof)), (qsk, .inl (cJ, 30, .inr (.inl sk)))] := by first | exact hD | simpa only [] using hD
    exact W.lret (v := (k_mu lof sk x ce) / 1000) hx hb hr (fun t ht hW => ⟨⟨(k_mu lof sk x ce) / 1000, (), rfl, rfl, by rw [ht]; exact hP, va_K.moved hW.alike hK, hD⟩, hS.F ht⟩) hS.2.2 dM_sunk_33
set_option maxHeartbeats 4000000 in
set_option maxRecDepth 100000 in
theorem kM_sunk_bad (l : Launch) (dC : Nat → ClassId) (dI : Nat → Nat → Nat) (cI cJ : ClassId) (mm qlo qlk qhd qsf qpr qpa qsk qld qlz qrd qrv qhi qfw qkp : Nat) (sz : Nat) (x : Int32) (ly : Nat) (ce : Nat) (co : Int64) (wo : Int64) (dy : Nat) (da : Int32) (db : Int32) (dr : Int32) (mn : Nat) (rn : Nat) (lof : Nat → Int32) (sk : Nat → Int64) (hce : ce ≤ 30) (hly : ly ≤ 30) (hbad : ¬ (-1 ≤ x.toInt ∧ x.toInt < ly)) : Met l yM_sunk wM_sunk ({ frames := 1, cells := 0, slots := 0, locals := 25 }) (va_Pc [.ref mm, .int x] (fun U => U.heap.size = sz ∧ va_P (dC, dI) vwCl [(mm, .inr (5, [.int (nI ly), .int (nI ce), .ref qlo, .ref qlk, .ref qhd, .ref qsf, .ref qpr, .ref qpa, .ref qsk, .long co, .long wo, .int (nI dy), .int da, .int db, .int dr, .int (nI mn), .ref qld, .ref qlz, .int (nI rn), .ref qrd, .ref qrv, .ref qhi, .ref qfw, .ref qkp])), (qlo, .inl (cI, 30, .inl lof)), (qsk, .inl (cJ, 30, .inr (.inl sk)))] U.heap ∧ va_K (dC, dI) vwCl [(cI, .int), (cJ, .long)] U ∧ va_D (fun _ => True) [(mm, .inr (5, [.int (nI ly), .int (nI ce), .ref qlo, .ref qlk, .ref qhd, .ref qsf, .ref qpr, .ref qpa, .ref qsk, .long co, .long wo, .int (nI dy), .int da, .int db, .int dr, .int (nI mn), .ref qld, .ref qlz, .int (nI rn), .ref qrd, .ref qrv, .ref qhi, .ref qfw, .ref qkp])), (qlo, .inl (cI, 30, .inl lof)), (qsk, .inl (cJ, 30, .inr (.inl sk)))])) (va_Ql (fun res_ (_ : Unit) => res_ = (-1)) (fun _ t => va_P (dC, dI) vwCl [(mm, .inr (5, [.int (nI ly), .int (nI ce), .ref qlo, .ref qlk, .ref qhd, .ref qsf, .ref qpr, .ref qpa, .ref qsk, .long co, .long wo, .int (nI dy), .int da, .int db, .int dr, .int (nI mn), .ref qld, .ref qlz, .int (nI rn), .ref qrd, .ref qrv, .ref qhi, .ref qfw, .ref qkp])), (qlo, .inl (cI, 30, .inl lof)), (qsk, .inl (cJ, 30, .inr (.inl sk)))] t.heap ∧ va_K (dC, dI) vwCl [(cI, .int), (cJ, .long)] t ∧ va_D (va_A [(mm, .inr (5, [.int (nI ly), .int (nI ce), .ref qlo, .ref qlk, .ref qhd, .ref qsf, .ref qpr, .ref qpa, .ref qsk, .long co, .long wo, .int (nI dy), .int da, .int db, .int dr, .int (nI mn), .ref qld, .ref qlz, .int (nI rn), .ref qrd, .ref qrv, .ref qhi, .ref qfw, .ref qkp])), (qlo, .inl (cI, 30, .inl lof)), (qsk, .inl (cJ, 30, .inr (.inl sk)))] sz) [(mm, .inr (5, [.int (nI ly), .int (nI ce), .ref qlo, .ref qlk, .ref qhd, .ref qsf, .ref qpr, .ref qpa, .ref qsk, .long co, .long wo, .int (nI dy), .int da, .int db, .int dr, .int (nI mn), .ref qld, .ref qlz, .int (nI rn), .ref qrd, .ref qrv, .ref qhi, .ref qfw, .ref qkp])), (qlo, .inl (cI, 30, .inl lof)), (qsk, .inl (cJ, 30, .inr (.inl sk)))]) (va_A [(mm, .inr (5, [.int (nI ly), .int (nI ce), .ref qlo, .ref qlk, .ref qhd, .ref qsf, .ref qpr, .ref qpa, .ref qsk, .long co, .long wo, .int (nI dy), .int da, .int db, .int dr, .int (nI mn), .ref qld, .ref qlz, .int (nI rn), .ref qrd, .ref qrv, .ref qhi, .ref qfw, .ref qkp])), (qlo, .inl (cI, 30, .inl lof)), (qsk, .inl (cJ, 30, .inr (.inl sk)))] sz)) 0 0 (va_A [(mm, .inr (5, [.int (nI ly), .int (nI ce), .ref qlo, .ref qlk, .ref qhd, .ref qsf, .ref qpr, .ref qpa, .ref qsk, .long co, .long wo, .int (nI dy), .int da, .int db, .int dr, .int (nI mn), .ref qld, .ref qlz, .int (nI rn), .ref qrd, .ref qrv, .ref qhi, .ref qfw, .ref qkp])), (qlo, .inl (cI, 30, .inl lof)), (qsk, .inl (cJ, 30, .inr (.inl sk)))] sz) := by
  refine Met.ofW (cc := bM_sunk) (maxL := 2) (ret := (some .long)) (by decide) rfl ?_
  intro p e s m args below meth c s₁ B hml hv
  obtain ⟨rfl, hsz, hP, hK, hD0⟩ := hv
  have hx := B.exec
  have hb := B.bytes
  have hr := B.returns
  have hts := atoms_spec (ws := wM_sunk) B.pre
  have hown : s.vm.findClass R_M = some m.cls := findClass_of_methodNamed B.named
  have htw : ∀ w ∈ WA, w.before _ s = true := fun w h => hts w (List.mem_cons_of_mem _ h)
  clear hts
  have hlocks := B.notSynchronized
  subst hsz
  have hD := hD0.self (sz := s.heap.size)
  generalize hAe : va_A [(mm, .inr (5, [.int (nI ly), .int (nI ce), .ref qlo, .ref qlk, .ref qhd, .ref qsf, .ref qpr, .ref qpa, .ref qsk, .long co, .long wo, .int (nI dy), .int da, .int db, .int dr, .int (nI mn), .ref qld, .ref qlz, .int (nI rn), .ref qrd, .ref qrv, .ref qhi, .ref qfw, .ref qkp])), (qlo, .inl (cI, 30, .inl lof)), (qsk, .inl (cJ, 30, .inr (.inl sk)))] s.heap.size = A at hD ⊢
  have hA : ∀ q : Nat, s.heap.size ≤ q → A q := fun q h => by rw [← hAe]; exact Or.inr h
  clear hAe hD0
  have hS : va_S A s.heap s.heap [] := va_S.rf
  have hP : va_P (dC, dI) vwCl [(mm, .inr (5, [.int (nI ly), .int (nI ce), .ref qlo, .ref qlk, .ref qhd, .ref qsf, .ref qpr, .ref qpa, .ref qsk, .long co, .long wo, .int (nI dy), .int da, .int db, .int dr, .int (nI mn), .ref qld, .ref qlz, .int (nI rn), .ref qrd, .ref qrv, .ref qhi, .ref qfw, .ref qkp])), (qlo, .inl (cI, 30, .inl lof)), (qsk, .inl (cJ, 30, .inr (.inl sk)))] s.heap := hP
  have hl := lv_entry ([.ref mm, .int x]) (n := 2) (Nat.le_of_ble_eq_true rfl)
  rw [lg_entry_eq]
  generalize (lg_sl ([.ref mm, .int x]) ++ List.replicate (2 - (lg_sl ([.ref mm, .int x])).length) Slot.unset).toArray = ls at hl ⊢
  have hl : lv_has ls 2 [(0, .ref mm), (1, .int x)] := hl
  refine lv_iload_n hx hb dM_sunk_0 rfl (lv_at hl 1 rfl) ?_
  refine lv_i2l (v := x.toInt64) hx hb dM_sunk_1 rfl ?_
  refine lv_ldc2 (v := (-1)) hx hb hown (htw _ m_477) dM_sunk_2 ?_
  refine lv_aload_n hx hb dM_sunk_5 rfl (lv_at hl 0 rfl) ?_
  refine va_get (D := (dC, dI)) (ci := 5) (v := .int (nI ly)) (C := R_M) (T := T_M) (N := 24) hx hb htw in_M hown hK hP 0 rfl rfl 0 (by decide) (htw _ m_357) (fun _ h9 => h9) rfl dM_sunk_6 ?_
  refine lv_iconst (v := nI 1) hx hb dM_sunk_9 (by decide) ?_
  refine lv_isub hx hb dM_sunk_10 ?_
  refine lv_i2l (v := ((nI ly) - (nI 1)).toInt64) hx hb dM_sunk_11 rfl ?_
  have hPc := hP.sub (ws' := []) [] rfl
  have hDc := hD.sub (ws' := []) [] (by decide) rfl
  have hFc := va_free (wc := []) hD hS hA [] rfl
  refine va_calli (va_runS (As := [.long x.toInt64, .long (-1), .long (((nI ly) - (nI 1)).toInt64)]) (rest := []) ⟨hx, hb, hml, hown, htw⟩ (kM_in l dC dI cI cJ s.heap.size x.toInt64 (-1) (((nI ly) - (nI 1)).toInt64)) (va_cwS 3 htw (ws_good m_435 m_436 m_6 m_437) rfl rfl rfl (by decide +kernel) ⟨Nat.le_of_ble_eq_true rfl, Nat.le_of_ble_eq_true rfl⟩) ⟨fun a U g mk q => by obtain ⟨q0, q1, qP, qK, qD⟩ := q; exact ⟨q0, q1, qP, va_K.moved (u := U) (U := U.calling g mk a) (Vm.Alike.refl U.vm) qK, qD⟩, fun U hU hW => ⟨rfl, by rw [hU], by rw [hU]; exact hPc, va_K.moved hW.alike hK, hDc.weaken (fun _ _ _ _ => trivial)⟩⟩ rfl rfl hl.1 rfl (lv_room (Nat.le_of_ble_eq_true rfl)) dM_sunk_12 ⟨Nat.le_of_ble_eq_true rfl, Nat.le_of_ble_eq_true rfl⟩) hS (fun q _ h => hFc q h) hFc (fun res_ u_ t H1 locs ht hvm hw hB hz1 hk1 hS => ?_)
  obtain ⟨hP1, hK1, hD1⟩ := hB
  rw [ht] at hP1
  obtain ⟨hP, hD⟩ := va_join (wr := [(mm, .inr (5, [.int (nI ly), .int (nI ce), .ref qlo, .ref qlk, .ref qhd, .ref qsf, .ref qpr, .ref qpa, .ref qsk, .long co, .long wo, .int (nI dy), .int da, .int db, .int dr, .int (nI mn), .ref qld, .ref qlz, .int (nI rn), .ref qrd, .ref qrv, .ref qhi, .ref qfw, .ref qkp])), (qlo, .inl (cI, 30, .inl lof)), (qsk, .inl (cJ, 30, .inr (.inl sk)))]) (w1 := []) hP hD [] [0, 1, 2] rfl rfl (by decide) (by decide) hk1 hFc hP1 hD1
  generalize H1 = H at hP hS ⊢
  have hP : va_P (dC, dI) vwCl [(mm, .inr (5, [.int (nI ly), .int (nI ce), .ref qlo, .ref qlk, .ref qhd, .ref qsf, .ref qpr, .ref qpa, .ref qsk, .long co, .long wo, .int (nI dy), .int da, .int db, .int dr, .int (nI mn), .ref qld, .ref qlz, .int (nI rn), .ref qrd, .ref qrv, .ref qhi, .ref qfw, .ref qkp])), (qlo, .inl (cI, 30, .inl lof)), (qsk, .inl (cJ, 30, .inr (.inl sk)))] H := hP
  have hD : va_D A [(mm, .inr (5, [.int (nI ly), .int (nI ce), .ref qlo, .ref qlk, .ref qhd, .ref qsf, .ref qpr, .ref qpa, .ref qsk, .long co, .long wo, .int (nI dy), .int da, .int db, .int dr, .int (nI mn), .ref qld, .ref qlz, .int (nI rn), .ref qrd, .ref qrv, .ref qhi, .ref qfw, .ref qkp])), (qlo, .inl (cI, 30, .inl lof)), (qsk, .inl (cJ, 30, .inr (.inl sk)))] := hD
  clear hPc hDc hFc hP1 hD1 hK1 hk1 hz1 hvm ht
  obtain rfl : kb ((-1) ≤ x.toInt64 ∧ x.toInt64 ≤ (((nI ly) - (nI 1)).toInt64)) = res_ := hw.symm
  refine lv_if_eq (tgt := 30) hx hb dM_sunk_15 (by decide) (fun hc15 => ?_) (fun hc15 => ?_)
  · -- 15 taken
    rw [kb_eq0, k_wl, show (((-1) : Int64)).toInt = -1 from by decide] at hc15
    simp only [Int32.toInt_toInt64] at hc15
    rw [pk_sub_toInt (a := ly) (b := 1) (by omega) (by omega)] at hc15
    refine lv_ldc2 (v := (-1)) hx hb hown (htw _ m_477) dM_sunk_30 ?_
    have hP : va_P (dC, dI) vwCl [(mm, .inr (5, [.int (nI ly), .int (nI ce), .ref qlo, .ref qlk, .ref qhd, .ref qsf, .ref qpr, .ref qpa, .ref qsk, .long co, .long wo, .int (nI dy), .int da, .int db, .int dr, .int (nI mn), .ref qld, .ref qlz, .int (nI rn), .ref qrd, .ref qrv, .ref qhi, .ref qfw, .ref qkp])), (qlo, .inl (cI, 30, .inl lof)), (qsk, .inl (cJ, 30, .inr (.inl sk)))] H := by first | exact hP | simpa only [] using hP
    have hD : va_D A [(mm, .inr (5, [.int (nI ly), .int (nI ce), .ref qlo, .ref qlk, .ref qhd, .ref qsf, .ref qpr, .ref qpa, .ref qsk, .long co, .long wo, .int (nI dy), .int da, .int db, .int dr, .int (nI mn), .ref qld, .ref qlz, .int (nI rn), .ref qrd, .ref qrv, .ref qhi, .ref qfw, .ref qkp])), (qlo, .inl (cI, 30, .inl lof)), (qsk, .inl (cJ, 30, .inr (.inl sk)))] := by first | exact hD | simpa only [] using hD
    exact W.lret (v := (-1)) hx hb hr (fun t ht hW => ⟨⟨(-1), (), rfl, rfl, by rw [ht]; exact hP, va_K.moved hW.alike hK, hD⟩, hS.F ht⟩) hS.2.2 dM_sunk_33
  · -- 15 not taken
    rw [kb_eq0, k_wl, show (((-1) : Int64)).toInt = -1 from by decide] at hc15
    simp only [Int32.toInt_toInt64] at hc15
    rw [pk_sub_toInt (a := ly) (b := 1) (by omega) (by omega)] at hc15
    exfalso; omega
set_option maxHeartbeats 4000000 in
set_option maxRecDepth 100000 in
theorem kM_told_ok (l : Launch) (dC : Nat → ClassId) (dI : Nat → Nat → Nat) (cI cJ : ClassId) (mm qlo qlk qhd qsf qpr qpa qsk qld qlz qrd qrv qhi qfw qkp : Nat) (sz : Nat) (i : Nat) (y : Int32) (ly : Nat) (ce : Nat) (co : Int64) (wo : Int64) (dy : Nat) (da : Int32) (db : Int32) (dr : Int32) (mn : Nat) (rn : Nat) (pr : Nat → Int64) (pa : Nat → Int64) (hce : ce ≤ 30) (hi : i < ce) : Met l yM_told wM_told ({ frames := 1, cells := 0, slots := 0, locals := 25 }) (va_Pc [.ref mm, .int (nI i), .int y] (fun U => U.heap.size = sz ∧ va_P (dC, dI) vwCl [(mm, .inr (5, [.int (nI ly), .int (nI ce), .ref qlo, .ref qlk, .ref qhd, .ref qsf, .ref qpr, .ref qpa, .ref qsk, .long co, .long wo, .int (nI dy), .int da, .int db, .int dr, .int (nI mn), .ref qld, .ref qlz, .int (nI rn), .ref qrd, .ref qrv, .ref qhi, .ref qfw, .ref qkp])), (qpr, .inl (cJ, 30, .inr (.inl pr))), (qpa, .inl (cJ, 30, .inr (.inl pa)))] U.heap ∧ va_K (dC, dI) vwCl [(cI, .int), (cJ, .long)] U ∧ va_D (fun _ => True) [(mm, .inr (5, [.int (nI ly), .int (nI ce), .ref qlo, .ref qlk, .ref qhd, .ref qsf, .ref qpr, .ref qpa, .ref qsk, .long co, .long wo, .int (nI dy), .int da, .int db, .int dr, .int (nI mn), .ref qld, .ref qlz, .int (nI rn), .ref qrd, .ref qrv, .ref qhi, .ref qfw, .ref qkp])), (qpr, .inl (cJ, 30, .inr (.inl pr))), (qpa, .inl (cJ, 30, .inr (.inl pa)))])) (va_Qi (fun res_ (_ : Unit) => res_ = k_told co pr pa i y) (fun _ t => va_P (dC, dI) vwCl [(mm, .inr (5, [.int (nI ly), .int (nI ce), .ref qlo, .ref qlk, .ref qhd, .ref qsf, .ref qpr, .ref qpa, .ref qsk, .long co, .long wo, .int (nI dy), .int da, .int db, .int dr, .int (nI mn), .ref qld, .ref qlz, .int (nI rn), .ref qrd, .ref qrv, .ref qhi, .ref qfw, .ref qkp])), (qpr, .inl (cJ, 30, .inr (.inl pr))), (qpa, .inl (cJ, 30, .inr (.inl pa)))] t.heap ∧ va_K (dC, dI) vwCl [(cI, .int), (cJ, .long)] t ∧ va_D (va_A [(mm, .inr (5, [.int (nI ly), .int (nI ce), .ref qlo, .ref qlk, .ref qhd, .ref qsf, .ref qpr, .ref qpa, .ref qsk, .long co, .long wo, .int (nI dy), .int da, .int db, .int dr, .int (nI mn), .ref qld, .ref qlz, .int (nI rn), .ref qrd, .ref qrv, .ref qhi, .ref qfw, .ref qkp])), (qpr, .inl (cJ, 30, .inr (.inl pr))), (qpa, .inl (cJ, 30, .inr (.inl pa)))] sz) [(mm, .inr (5, [.int (nI ly), .int (nI ce), .ref qlo, .ref qlk, .ref qhd, .ref qsf, .ref qpr, .ref qpa, .ref qsk, .long co, .long wo, .int (nI dy), .int da, .int db, .int dr, .int (nI mn), .ref qld, .ref qlz, .int (nI rn), .ref qrd, .ref qrv, .ref qhi, .ref qfw, .ref qkp])), (qpr, .inl (cJ, 30, .inr (.inl pr))), (qpa, .inl (cJ, 30, .inr (.inl pa)))]) (va_A [(mm, .inr (5, [.int (nI ly), .int (nI ce), .ref qlo, .ref qlk, .ref qhd, .ref qsf, .ref qpr, .ref qpa, .ref qsk, .long co, .long wo, .int (nI dy), .int da, .int db, .int dr, .int (nI mn), .ref qld, .ref qlz, .int (nI rn), .ref qrd, .ref qrv, .ref qhi, .ref qfw, .ref qkp])), (qpr, .inl (cJ, 30, .inr (.inl pr))), (qpa, .inl (cJ, 30, .inr (.inl pa)))] sz)) 0 0 (va_A [(mm, .inr (5, [.int (nI ly), .int (nI ce), .ref qlo, .ref qlk, .ref qhd, .ref qsf, .ref qpr, .ref qpa, .ref qsk, .long co, .long wo, .int (nI dy), .int da, .int db, .int dr, .int (nI mn), .ref qld, .ref qlz, .int (nI rn), .ref qrd, .ref qrv, .ref qhi, .ref qfw, .ref qkp])), (qpr, .inl (cJ, 30, .inr (.inl pr))), (qpa, .inl (cJ, 30, .inr (.inl pa)))] sz) := by
  refine Met.ofW (cc := bM_told) (maxL := 3) (ret := (some .int)) (by decide) rfl ?_
  intro p e s m args below meth c s₁ B hml hv
  obtain ⟨rfl, hsz, hP, hK, hD0⟩ := hv
  have hx := B.exec
  have hb := B.bytes
  have hr := B.returns
  have hts := atoms_spec (ws := wM_told) B.pre
  have hown : s.vm.findClass R_M = some m.cls := findClass_of_methodNamed B.named
  have htw : ∀ w ∈ WA, w.before _ s = true := fun w h => hts w (List.mem_cons_of_mem _ h)
  clear hts
  have hlocks := B.notSynchronized
  subst hsz
  have hD := hD0.self (sz := s.heap.size)
  generalize hAe : va_A [(mm, .inr (5, [.int (nI ly), .int (nI ce), .ref qlo, .ref qlk, .ref qhd, .ref qsf, .ref qpr, .ref qpa, .ref qsk, .long co, .long wo, .int (nI dy), .int da, .int db, .int dr, .int (nI mn), .ref qld, .ref qlz, .int (nI rn), .ref qrd, .ref qrv, .ref qhi, .ref qfw, .ref qkp])), (qpr, .inl (cJ, 30, .inr (.inl pr))), (qpa, .inl (cJ, 30, .inr (.inl pa)))] s.heap.size = A at hD ⊢
  have hA : ∀ q : Nat, s.heap.size ≤ q → A q := fun q h => by rw [← hAe]; exact Or.inr h
  clear hAe hD0
  have hS : va_S A s.heap s.heap [] := va_S.rf
  have hP : va_P (dC, dI) vwCl [(mm, .inr (5, [.int (nI ly), .int (nI ce), .ref qlo, .ref qlk, .ref qhd, .ref qsf, .ref qpr, .ref qpa, .ref qsk, .long co, .long wo, .int (nI dy), .int da, .int db, .int dr, .int (nI mn), .ref qld, .ref qlz, .int (nI rn), .ref qrd, .ref qrv, .ref qhi, .ref qfw, .ref qkp])), (qpr, .inl (cJ, 30, .inr (.inl pr))), (qpa, .inl (cJ, 30, .inr (.inl pa)))] s.heap := hP
  have hl := lv_entry ([.ref mm, .int (nI i), .int y]) (n := 3) (Nat.le_of_ble_eq_true rfl)
  rw [lg_entry_eq]
  generalize (lg_sl ([.ref mm, .int (nI i), .int y]) ++ List.replicate (3 - (lg_sl ([.ref mm, .int (nI i), .int y])).length) Slot.unset).toArray = ls at hl ⊢
  have hl : lv_has ls 3 [(0, .ref mm), (1, .int (nI i)), (2, .int y)] := hl
  refine lv_iload_n hx hb dM_told_0 rfl (lv_at hl 1 rfl) ?_
  refine lv_i2l (v := (nI i).toInt64) hx hb dM_told_1 rfl ?_
  refine lv_lconst (v := 0) hx hb dM_told_2 (by decide) ?_
  refine lv_aload_n hx hb dM_told_3 rfl (lv_at hl 0 rfl) ?_
  refine va_get (D := (dC, dI)) (ci := 5) (v := .int (nI ce)) (C := R_M) (T := T_M) (N := 24) hx hb htw in_M hown hK hP 0 rfl rfl 1 (by decide) (htw _ m_358) (fun _ h9 => h9) rfl dM_told_4 ?_
  refine lv_iconst (v := nI 1) hx hb dM_told_7 (by decide) ?_
  refine lv_isub hx hb dM_told_8 ?_
  refine lv_i2l (v := ((nI ce) - (nI 1)).toInt64) hx hb dM_told_9 rfl ?_
  have hPc := hP.sub (ws' := []) [] rfl
  have hDc := hD.sub (ws' := []) [] (by decide) rfl
  have hFc := va_free (wc := []) hD hS hA [] rfl
  refine va_calli (va_runS (As := [.long ((nI i).toInt64), .long 0, .long (((nI ce) - (nI 1)).toInt64)]) (rest := []) ⟨hx, hb, hml, hown, htw⟩ (kM_in l dC dI cI cJ s.heap.size ((nI i).toInt64) 0 (((nI ce) - (nI 1)).toInt64)) (va_cwS 3 htw (ws_good m_435 m_436 m_6 m_437) rfl rfl rfl (by decide +kernel) ⟨Nat.le_of_ble_eq_true rfl, Nat.le_of_ble_eq_true rfl⟩) ⟨fun a U g mk q => by obtain ⟨q0, q1, qP, qK, qD⟩ := q; exact ⟨q0, q1, qP, va_K.moved (u := U) (U := U.calling g mk a) (Vm.Alike.refl U.vm) qK, qD⟩, fun U hU hW => ⟨rfl, by rw [hU], by rw [hU]; exact hPc, va_K.moved hW.alike hK, hDc.weaken (fun _ _ _ _ => trivial)⟩⟩ rfl rfl hl.1 rfl (lv_room (Nat.le_of_ble_eq_true rfl)) dM_told_10 ⟨Nat.le_of_ble_eq_true rfl, Nat.le_of_ble_eq_true rfl⟩) hS (fun q _ h => hFc q h) hFc (fun res_ u_ t H1 locs ht hvm hw hB hz1 hk1 hS => ?_)
  obtain ⟨hP1, hK1, hD1⟩ := hB
  rw [ht] at hP1
  obtain ⟨hP, hD⟩ := va_join (wr := [(mm, .inr (5, [.int (nI ly), .int (nI ce), .ref qlo, .ref qlk, .ref qhd, .ref qsf, .ref qpr, .ref qpa, .ref qsk, .long co, .long wo, .int (nI dy), .int da, .int db, .int dr, .int (nI mn), .ref qld, .ref qlz, .int (nI rn), .ref qrd, .ref qrv, .ref qhi, .ref qfw, .ref qkp])), (qpr, .inl (cJ, 30, .inr (.inl pr))), (qpa, .inl (cJ, 30, .inr (.inl pa)))]) (w1 := []) hP hD [] [0, 1, 2] rfl rfl (by decide) (by decide) hk1 hFc hP1 hD1
  generalize H1 = H at hP hS ⊢
  have hP : va_P (dC, dI) vwCl [(mm, .inr (5, [.int (nI ly), .int (nI ce), .ref qlo, .ref qlk, .ref qhd, .ref qsf, .ref qpr, .ref qpa, .ref qsk, .long co, .long wo, .int (nI dy), .int da, .int db, .int dr, .int (nI mn), .ref qld, .ref qlz, .int (nI rn), .ref qrd, .ref qrv, .ref qhi, .ref qfw, .ref qkp])), (qpr, .inl (cJ, 30, .inr (.inl pr))), (qpa, .inl (cJ, 30, .inr (.inl pa)))] H := hP
  have hD : va_D A [(mm, .inr (5, [.int (nI ly), .int (nI ce), .ref qlo, .ref qlk, .ref qhd, .ref qsf, .ref qpr, .ref qpa, .ref qsk, .long co, .long wo, .int (nI dy), .int da, .int db, .int dr, .int (nI mn), .ref qld, .ref qlz, .int (nI rn), .ref qrd, .ref qrv, .ref qhi, .ref qfw, .ref qkp])), (qpr, .inl (cJ, 30, .inr (.inl pr))), (qpa, .inl (cJ, 30, .inr (.inl pa)))] := hD
  clear hPc hDc hFc hP1 hD1 hK1 hk1 hz1 hvm ht
  obtain rfl : kb (0 ≤ ((nI i).toInt64) ∧ ((nI i).toInt64) ≤ (((nI ce) - (nI 1)).toInt64)) = res_ := hw.symm
  refine lv_if_eq (tgt := 28) hx hb dM_told_13 (by decide) (fun hc13 => ?_) (fun hc13 => ?_)
  · -- 13 taken
    rw [kb_eq0, k_wl, show ((0 : Int64)).toInt = 0 from by decide] at hc13
    simp only [Int32.toInt_toInt64] at hc13
    rw [pk_sub_toInt (a := ce) (b := 1) (by omega) (by omega), nI_toInt (n := i) (by omega)] at hc13
    exfalso; omega
  · -- 13 not taken
    rw [kb_eq0, k_wl, show ((0 : Int64)).toInt = 0 from by decide] at hc13
    simp only [Int32.toInt_toInt64] at hc13
    rw [pk_sub_toInt (a := ce) (b := 1) (by omega) (by omega), nI_toInt (n := i) (by omega)] at hc13
    refine lv_iload_n hx hb dM_told_16 rfl (lv_at hl 2 rfl) ?_
    refine lv_i2l (v := y.toInt64) hx hb dM_told_17 rfl ?_
    refine lv_lconst (v := 0) hx hb dM_told_18 (by decide) ?_
    refine lv_ldc2 (v := 2) hx hb hown (htw _ m_482) dM_told_19 ?_
    have hPc := hP.sub (ws' := []) [] rfl
    have hDc := hD.sub (ws' := []) [] (by decide) rfl
    have hFc := va_free (wc := []) hD hS hA [] rfl
    refine va_calli (va_runS (As := [.long y.toInt64, .long 0, .long 2]) (rest := []) ⟨hx, hb, hml, hown, htw⟩ (kM_in l dC dI cI cJ H.size y.toInt64 0 2) (va_cwS 3 htw (ws_good m_435 m_436 m_6 m_437) rfl rfl rfl (by decide +kernel) ⟨Nat.le_of_ble_eq_true rfl, Nat.le_of_ble_eq_true rfl⟩) ⟨fun a U g mk q => by obtain ⟨q0, q1, qP, qK, qD⟩ := q; exact ⟨q0, q1, qP, va_K.moved (u := U) (U := U.calling g mk a) (Vm.Alike.refl U.vm) qK, qD⟩, fun U hU hW => ⟨rfl, by rw [hU], by rw [hU]; exact hPc, va_K.moved hW.alike hK, hDc.weaken (fun _ _ _ _ => trivial)⟩⟩ rfl rfl hl.1 rfl (lv_room (Nat.le_of_ble_eq_true rfl)) dM_told_22 ⟨Nat.le_of_ble_eq_true rfl, Nat.le_of_ble_eq_true rfl⟩) hS (fun q _ h => hFc q h) hFc (fun res_ u_ t H1 locs ht hvm hw hB hz1 hk1 hS => ?_)
    obtain ⟨hP1, hK1, hD1⟩ := hB
    rw [ht] at hP1
    obtain ⟨hP, hD⟩ := va_join (wr := [(mm, .inr (5, [.int (nI ly), .int (nI ce), .ref qlo, .ref qlk, .ref qhd, .ref qsf, .ref qpr, .ref qpa, .ref qsk, .long co, .long wo, .int (nI dy), .int da, .int db, .int dr, .int (nI mn), .ref qld, .ref qlz, .int (nI rn), .ref qrd, .ref qrv, .ref qhi, .ref qfw, .ref qkp])), (qpr, .inl (cJ, 30, .inr (.inl pr))), (qpa, .inl (cJ, 30, .inr (.inl pa)))]) (w1 := []) hP hD [] [0, 1, 2] rfl rfl (by decide) (by decide) hk1 hFc hP1 hD1
    generalize H1 = H at hP hS ⊢
    have hP : va_P (dC, dI) vwCl [(mm, .inr (5, [.int (nI ly), .int (nI ce), .ref qlo, .ref qlk, .ref qhd, .ref qsf, .ref qpr, .ref qpa, .ref qsk, .long co, .long wo, .int (nI dy), .int da, .int db, .int dr, .int (nI mn), .ref qld, .ref qlz, .int (nI rn), .ref qrd, .ref qrv, .ref qhi, .ref qfw, .ref qkp])), (qpr, .inl (cJ, 30, .inr (.inl pr))), (qpa, .inl (cJ, 30, .inr (.inl pa)))] H := hP
    have hD : va_D A [(mm, .inr (5, [.int (nI ly), .int (nI ce), .ref qlo, .ref qlk, .ref qhd, .ref qsf, .ref qpr, .ref qpa, .ref qsk, .long co, .long wo, .int (nI dy), .int da, .int db, .int dr, .int (nI mn), .ref qld, .ref qlz, .int (nI rn), .ref qrd, .ref qrv, .ref qhi, .ref qfw, .ref qkp])), (qpr, .inl (cJ, 30, .inr (.inl pr))), (qpa, .inl (cJ, 30, .inr (.inl pa)))] := hD
    clear hPc hDc hFc hP1 hD1 hK1 hk1 hz1 hvm ht
    obtain rfl : kb (0 ≤ y.toInt64 ∧ y.toInt64 ≤ 2) = res_ := hw.symm
    refine lv_if_ne (tgt := 30) hx hb dM_told_25 (by decide) (fun hc25 => ?_) (fun hc25 => ?_)
    · -- 25 taken
      rw [kb_eq0, k_wl, show ((0 : Int64)).toInt = 0 from by decide, show ((2 : Int64)).toInt = 2 from by decide] at hc25
      simp only [Int32.toInt_toInt64] at hc25
      refine lv_iload_n hx hb dM_told_30 rfl (lv_at hl 2 rfl) ?_
      refine lv_if_ne (tgt := 43) hx hb dM_told_31 (by decide) (fun hc31 => ?_) (fun hc31 => ?_)
      · -- 31 taken
        refine lv_iload_n hx hb dM_told_43 rfl (lv_at hl 2 rfl) ?_
        refine lv_iconst (v := nI 1) hx hb dM_told_44 (by decide) ?_
        refine lv_icmp_ne (tgt := 62) hx hb dM_told_45 (by decide) (fun hc45 => ?_) (fun hc45 => ?_)
        · -- 45 taken
          refine lv_aload_n hx hb dM_told_62 rfl (lv_at hl 0 rfl) ?_
          refine va_get (D := (dC, dI)) (ci := 5) (v := .ref qpa) (C := R_M) (T := T_M) (N := 24) hx hb htw in_M hown hK hP 0 rfl rfl 7 (by decide) (htw _ m_364) (fun _ h9 => h9) rfl dM_told_63 ?_
          refine lv_iload_n hx hb dM_told_66 rfl (lv_at hl 1 rfl) ?_
          refine xa_lald hx hb hK hP 2 1 rfl rfl (i := i) (by omega) (by decide) dM_told_67 ?_
          refine lv_l2i (v := (pa i).toInt32) hx hb dM_told_68 rfl ?_
          have hP : va_P (dC, dI) vwCl [(mm, .inr (5, [.int (nI ly), .int (nI ce), .ref qlo, .ref qlk, .ref qhd, .ref qsf, .ref qpr, .ref qpa, .ref qsk, .long co, .long wo, .int (nI dy), .int da, .int db, .int dr, .int (nI mn), .ref qld, .ref qlz, .int (nI rn), .ref qrd, .ref qrv, .ref qhi, .ref qfw, .ref qkp])), (qpr, .inl (cJ, 30, .inr (.inl pr))), (qpa, .inl (cJ, 30, .inr (.inl pa)))] H := by first | exact hP | simpa only [] using hP
          have hD : va_D A [(mm, .inr (5, [.int (nI ly), .int (nI ce), .ref qlo, .ref qlk, .ref qhd, .ref qsf, .ref qpr, .ref qpa, .ref qsk, .long co, .long wo, .int (nI dy), .int da, .int db, .int dr, .int (nI mn), .ref qld, .ref qlz, .int (nI rn), .ref qrd, .ref qrv, .ref qhi, .ref qfw, .ref qkp])), (qpr, .inl (cJ, 30, .inr (.inl pr))), (qpa, .inl (cJ, 30, .inr (.inl pa)))] := by first | exact hD | simpa only [] using hD
          exact W.iret (v := (pa i).toInt32) hx hb hr (fun t ht hW => ⟨⟨(pa i).toInt32, (), rfl, by unfold k_told; rw [if_neg (show ¬ y = nI 0 from hc31), if_neg hc45, if_pos (k_is2 hc31 hc45 (by omega))], by rw [ht]; exact hP, va_K.moved hW.alike hK, hD⟩, hS.F ht⟩) hS.2.2 dM_told_69
        · -- 45 not taken
          refine lv_aload_n hx hb dM_told_48 rfl (lv_at hl 0 rfl) ?_
          refine va_get (D := (dC, dI)) (ci := 5) (v := .long co) (C := R_M) (T := T_M) (N := 24) hx hb htw in_M hown hK hP 0 rfl rfl 9 (by decide) (htw _ m_366) (fun _ h9 => h9) rfl dM_told_49 ?_
          refine lv_aload_n hx hb dM_told_52 rfl (lv_at hl 0 rfl) ?_
          refine va_get (D := (dC, dI)) (ci := 5) (v := .ref qpr) (C := R_M) (T := T_M) (N := 24) hx hb htw in_M hown hK hP 0 rfl rfl 6 (by decide) (htw _ m_363) (fun _ h9 => h9) rfl dM_told_53 ?_
          refine lv_iload_n hx hb dM_told_56 rfl (lv_at hl 1 rfl) ?_
          refine xa_lald hx hb hK hP 1 1 rfl rfl (i := i) (by omega) (by decide) dM_told_57 ?_
          refine lv_lsub hx hb dM_told_58 ?_
          refine lv_goto (tgt := 68) hx hb dM_told_59 (by decide) ?_
          refine lv_l2i (v := (co - (pr i)).toInt32) hx hb dM_told_68 rfl ?_
          have hP : va_P (dC, dI) vwCl [(mm, .inr (5, [.int (nI ly), .int (nI ce), .ref qlo, .ref qlk, .ref qhd, .ref qsf, .ref qpr, .ref qpa, .ref qsk, .long co, .long wo, .int (nI dy), .int da, .int db, .int dr, .int (nI mn), .ref qld, .ref qlz, .int (nI rn), .ref qrd, .ref qrv, .ref qhi, .ref qfw, .ref qkp])), (qpr, .inl (cJ, 30, .inr (.inl pr))), (qpa, .inl (cJ, 30, .inr (.inl pa)))] H := by first | exact hP | simpa only [] using hP
          have hD : va_D A [(mm, .inr (5, [.int (nI ly), .int (nI ce), .ref qlo, .ref qlk, .ref qhd, .ref qsf, .ref qpr, .ref qpa, .ref qsk, .long co, .long wo, .int (nI dy), .int da, .int db, .int dr, .int (nI mn), .ref qld, .ref qlz, .int (nI rn), .ref qrd, .ref qrv, .ref qhi, .ref qfw, .ref qkp])), (qpr, .inl (cJ, 30, .inr (.inl pr))), (qpa, .inl (cJ, 30, .inr (.inl pa)))] := by first | exact hD | simpa only [] using hD
          exact W.iret (v := (co - (pr i)).toInt32) hx hb hr (fun t ht hW => ⟨⟨(co - (pr i)).toInt32, (), rfl, by unfold k_told; rw [if_neg (show ¬ y = nI 0 from hc31), if_pos hc45], by rw [ht]; exact hP, va_K.moved hW.alike hK, hD⟩, hS.F ht⟩) hS.2.2 dM_told_69
      · -- 31 not taken
        refine lv_aload_n hx hb dM_told_34 rfl (lv_at hl 0 rfl) ?_
        refine va_get (D := (dC, dI)) (ci := 5) (v := .ref qpr) (C := R_M) (T := T_M) (N := 24) hx hb htw in_M hown hK hP 0 rfl rfl 6 (by decide) (htw _ m_363) (fun _ h9 => h9) rfl dM_told_35 ?_
        refine lv_iload_n hx hb dM_told_38 rfl (lv_at hl 1 rfl) ?_
        refine xa_lald hx hb hK hP 1 1 rfl rfl (i := i) (by omega) (by decide) dM_told_39 ?_
        refine lv_goto (tgt := 68) hx hb dM_told_40 (by decide) ?_
        refine lv_l2i (v := (pr i).toInt32) hx hb dM_told_68 rfl ?_
        have hP : va_P (dC, dI) vwCl [(mm, .inr (5, [.int (nI ly), .int (nI ce), .ref qlo, .ref qlk, .ref qhd, .ref qsf, .ref qpr, .ref qpa, .ref qsk, .long co, .long wo, .int (nI dy), .int da, .int db, .int dr, .int (nI mn), .ref qld, .ref qlz, .int (nI rn), .ref qrd, .ref qrv, .ref qhi, .ref qfw, .ref qkp])), (qpr, .inl (cJ, 30, .inr (.inl pr))), (qpa, .inl (cJ, 30, .inr (.inl pa)))] H := by first | exact hP | simpa only [] using hP
        have hD : va_D A [(mm, .inr (5, [.int (nI ly), .int (nI ce), .ref qlo, .ref qlk, .ref qhd, .ref qsf, .ref qpr, .ref qpa, .ref qsk, .long co, .long wo, .int (nI dy), .int da, .int db, .int dr, .int (nI mn), .ref qld, .ref qlz, .int (nI rn), .ref qrd, .ref qrv, .ref qhi, .ref qfw, .ref qkp])), (qpr, .inl (cJ, 30, .inr (.inl pr))), (qpa, .inl (cJ, 30, .inr (.inl pa)))] := by first | exact hD | simpa only [] using hD
        exact W.iret (v := (pr i).toInt32) hx hb hr (fun t ht hW => ⟨⟨(pr i).toInt32, (), rfl, by unfold k_told; rw [if_pos (show y = nI 0 from hc31)], by rw [ht]; exact hP, va_K.moved hW.alike hK, hD⟩, hS.F ht⟩) hS.2.2 dM_told_69
    · -- 25 not taken
      rw [kb_eq0, k_wl, show ((0 : Int64)).toInt = 0 from by decide, show ((2 : Int64)).toInt = 2 from by decide] at hc25
      simp only [Int32.toInt_toInt64] at hc25
      refine lv_iconst (v := (-1)) hx hb dM_told_28 (by decide) ?_
      have hP : va_P (dC, dI) vwCl [(mm, .inr (5, [.int (nI ly), .int (nI ce), .ref qlo, .ref qlk, .ref qhd, .ref qsf, .ref qpr, .ref qpa, .ref qsk, .long co, .long wo, .int (nI dy), .int da, .int db, .int dr, .int (nI mn), .ref qld, .ref qlz, .int (nI rn), .ref qrd, .ref qrv, .ref qhi, .ref qfw, .ref qkp])), (qpr, .inl (cJ, 30, .inr (.inl pr))), (qpa, .inl (cJ, 30, .inr (.inl pa)))] H := by first | exact hP | simpa only [] using hP
      have hD : va_D A [(mm, .inr (5, [.int (nI ly), .int (nI ce), .ref qlo, .ref qlk, .ref qhd, .ref qsf, .ref qpr, .ref qpa, .ref qsk, .long co, .long wo, .int (nI dy), .int da, .int db, .int dr, .int (nI mn), .ref qld, .ref qlz, .int (nI rn), .ref qrd, .ref qrv, .ref qhi, .ref qfw, .ref qkp])), (qpr, .inl (cJ, 30, .inr (.inl pr))), (qpa, .inl (cJ, 30, .inr (.inl pa)))] := by first | exact hD | simpa only [] using hD
      exact W.iret (v := (-1)) hx hb hr (fun t ht hW => ⟨⟨(-1), (), rfl, by unfold k_told; rw [if_neg (k_not (n := 2) (by decide) (by decide) (by omega)), if_neg (k_not (n := 2) (by decide) (by decide) (by omega)), if_neg (k_not (n := 2) (by decide) (by decide) (by omega))], by rw [ht]; exact hP, va_K.moved hW.alike hK, hD⟩, hS.F ht⟩) hS.2.2 dM_told_29
set_option maxHeartbeats 4000000 in
set_option maxRecDepth 100000 in
theorem kM_told_bad (l : Launch) (dC : Nat → ClassId) (dI : Nat → Nat → Nat) (cI cJ : ClassId) (mm qlo qlk qhd qsf qpr qpa qsk qld qlz qrd qrv qhi qfw qkp : Nat) (sz : Nat) (x : Int32) (y : Int32) (ly : Nat) (ce : Nat) (co : Int64) (wo : Int64) (dy : Nat) (da : Int32) (db : Int32) (dr : Int32) (mn : Nat) (rn : Nat) (pr : Nat → Int64) (pa : Nat → Int64) (hce : ce ≤ 30) (hbad : ¬ (0 ≤ x.toInt ∧ x.toInt < ce)) : Met l yM_told wM_told ({ frames := 1, cells := 0, slots := 0, locals := 25 }) (va_Pc [.ref mm, .int x, .int y] (fun U => U.heap.size = sz ∧ va_P (dC, dI) vwCl [(mm, .inr (5, [.int (nI ly), .int (nI ce), .ref qlo, .ref qlk, .ref qhd, .ref qsf, .ref qpr, .ref qpa, .ref qsk, .long co, .long wo, .int (nI dy), .int da, .int db, .int dr, .int (nI mn), .ref qld, .ref qlz, .int (nI rn), .ref qrd, .ref qrv, .ref qhi, .ref qfw, .ref qkp])), (qpr, .inl (cJ, 30, .inr (.inl pr))), (qpa, .inl (cJ, 30, .inr (.inl pa)))] U.heap ∧ va_K (dC, dI) vwCl [(cI, .int), (cJ, .long)] U ∧ va_D (fun _ => True) [(mm, .inr (5, [.int (nI ly), .int (nI ce), .ref qlo, .ref qlk, .ref qhd, .ref qsf, .ref qpr, .ref qpa, .ref qsk, .long co, .long wo, .int (nI dy), .int da, .int db, .int dr, .int (nI mn), .ref qld, .ref qlz, .int (nI rn), .ref qrd, .ref qrv, .ref qhi, .ref qfw, .ref qkp])), (qpr, .inl (cJ, 30, .inr (.inl pr))), (qpa, .inl (cJ, 30, .inr (.inl pa)))])) (va_Qi (fun res_ (_ : Unit) => res_ = (-1)) (fun _ t => va_P (dC, dI) vwCl [(mm, .inr (5, [.int (nI ly), .int (nI ce), .ref qlo, .ref qlk, .ref qhd, .ref qsf, .ref qpr, .ref qpa, .ref qsk, .long co, .long wo, .int (nI dy), .int da, .int db, .int dr, .int (nI mn), .ref qld, .ref qlz, .int (nI rn), .ref qrd, .ref qrv, .ref qhi, .ref qfw, .ref qkp])), (qpr, .inl (cJ, 30, .inr (.inl pr))), (qpa, .inl (cJ, 30, .inr (.inl pa)))] t.heap ∧ va_K (dC, dI) vwCl [(cI, .int), (cJ, .long)] t ∧ va_D (va_A [(mm, .inr (5, [.int (nI ly), .int (nI ce), .ref qlo, .ref qlk, .ref qhd, .ref qsf, .ref qpr, .ref qpa, .ref qsk, .long co, .long wo, .int (nI dy), .int da, .int db, .int dr, .int (nI mn), .ref qld, .ref qlz, .int (nI rn), .ref qrd, .ref qrv, .ref qhi, .ref qfw, .ref qkp])), (qpr, .inl (cJ, 30, .inr (.inl pr))), (qpa, .inl (cJ, 30, .inr (.inl pa)))] sz) [(mm, .inr (5, [.int (nI ly), .int (nI ce), .ref qlo, .ref qlk, .ref qhd, .ref qsf, .ref qpr, .ref qpa, .ref qsk, .long co, .long wo, .int (nI dy), .int da, .int db, .int dr, .int (nI mn), .ref qld, .ref qlz, .int (nI rn), .ref qrd, .ref qrv, .ref qhi, .ref qfw, .ref qkp])), (qpr, .inl (cJ, 30, .inr (.inl pr))), (qpa, .inl (cJ, 30, .inr (.inl pa)))]) (va_A [(mm, .inr (5, [.int (nI ly), .int (nI ce), .ref qlo, .ref qlk, .ref qhd, .ref qsf, .ref qpr, .ref qpa, .ref qsk, .long co, .long wo, .int (nI dy), .int da, .int db, .int dr, .int (nI mn), .ref qld, .ref qlz, .int (nI rn), .ref qrd, .ref qrv, .ref qhi, .ref qfw, .ref qkp])), (qpr, .inl (cJ, 30, .inr (.inl pr))), (qpa, .inl (cJ, 30, .inr (.inl pa)))] sz)) 0 0 (va_A [(mm, .inr (5, [.int (nI ly), .int (nI ce), .ref qlo, .ref qlk, .ref qhd, .ref qsf, .ref qpr, .ref qpa, .ref qsk, .long co, .long wo, .int (nI dy), .int da, .int db, .int dr, .int (nI mn), .ref qld, .ref qlz, .int (nI rn), .ref qrd, .ref qrv, .ref qhi, .ref qfw, .ref qkp])), (qpr, .inl (cJ, 30, .inr (.inl pr))), (qpa, .inl (cJ, 30, .inr (.inl pa)))] sz) := by
  refine Met.ofW (cc := bM_told) (maxL := 3) (ret := (some .int)) (by decide) rfl ?_
  intro p e s m args below meth c s₁ B hml hv
  obtain ⟨rfl, hsz, hP, hK, hD0⟩ := hv
  have hx := B.exec
  have hb := B.bytes
  have hr := B.returns
  have hts := atoms_spec (ws := wM_told) B.pre
  have hown : s.vm.findClass R_M = some m.cls := findClass_of_methodNamed B.named
  have htw : ∀ w ∈ WA, w.before _ s = true := fun w h => hts w (List.mem_cons_of_mem _ h)
  clear hts
  have hlocks := B.notSynchronized
  subst hsz
  have hD := hD0.self (sz := s.heap.size)
  generalize hAe : va_A [(mm, .inr (5, [.int (nI ly), .int (nI ce), .ref qlo, .ref qlk, .ref qhd, .ref qsf, .ref qpr, .ref qpa, .ref qsk, .long co, .long wo, .int (nI dy), .int da, .int db, .int dr, .int (nI mn), .ref qld, .ref qlz, .int (nI rn), .ref qrd, .ref qrv, .ref qhi, .ref qfw, .ref qkp])), (qpr, .inl (cJ, 30, .inr (.inl pr))), (qpa, .inl (cJ, 30, .inr (.inl pa)))] s.heap.size = A at hD ⊢
  have hA : ∀ q : Nat, s.heap.size ≤ q → A q := fun q h => by rw [← hAe]; exact Or.inr h
  clear hAe hD0
  have hS : va_S A s.heap s.heap [] := va_S.rf
  have hP : va_P (dC, dI) vwCl [(mm, .inr (5, [.int (nI ly), .int (nI ce), .ref qlo, .ref qlk, .ref qhd, .ref qsf, .ref qpr, .ref qpa, .ref qsk, .long co, .long wo, .int (nI dy), .int da, .int db, .int dr, .int (nI mn), .ref qld, .ref qlz, .int (nI rn), .ref qrd, .ref qrv, .ref qhi, .ref qfw, .ref qkp])), (qpr, .inl (cJ, 30, .inr (.inl pr))), (qpa, .inl (cJ, 30, .inr (.inl pa)))] s.heap := hP
  have hl := lv_entry ([.ref mm, .int x, .int y]) (n := 3) (Nat.le_of_ble_eq_true rfl)
  rw [lg_entry_eq]
  generalize (lg_sl ([.ref mm, .int x, .int y]) ++ List.replicate (3 - (lg_sl ([.ref mm, .int x, .int y])).length) Slot.unset).toArray = ls at hl ⊢
  have hl : lv_has ls 3 [(0, .ref mm), (1, .int x), (2, .int y)] := hl
  refine lv_iload_n hx hb dM_told_0 rfl (lv_at hl 1 rfl) ?_
  refine lv_i2l (v := x.toInt64) hx hb dM_told_1 rfl ?_
  refine lv_lconst (v := 0) hx hb dM_told_2 (by decide) ?_
  refine lv_aload_n hx hb dM_told_3 rfl (lv_at hl 0 rfl) ?_
  refine va_get (D := (dC, dI)) (ci := 5) (v := .int (nI ce)) (C := R_M) (T := T_M) (N := 24) hx hb htw in_M hown hK hP 0 rfl rfl 1 (by decide) (htw _ m_358) (fun _ h9 => h9) rfl dM_told_4 ?_
  refine lv_iconst (v := nI 1) hx hb dM_told_7 (by decide) ?_
  refine lv_isub hx hb dM_told_8 ?_
  refine lv_i2l (v := ((nI ce) - (nI 1)).toInt64) hx hb dM_told_9 rfl ?_
  have hPc := hP.sub (ws' := []) [] rfl
  have hDc := hD.sub (ws' := []) [] (by decide) rfl
  have hFc := va_free (wc := []) hD hS hA [] rfl
  refine va_calli (va_runS (As := [.long x.toInt64, .long 0, .long (((nI ce) - (nI 1)).toInt64)]) (rest := []) ⟨hx, hb, hml, hown, htw⟩ (kM_in l dC dI cI cJ s.heap.size x.toInt64 0 (((nI ce) - (nI 1)).toInt64)) (va_cwS 3 htw (ws_good m_435 m_436 m_6 m_437) rfl rfl rfl (by decide +kernel) ⟨Nat.le_of_ble_eq_true rfl, Nat.le_of_ble_eq_true rfl⟩) ⟨fun a U g mk q => by obtain ⟨q0, q1, qP, qK, qD⟩ := q; exact ⟨q0, q1, qP, va_K.moved (u := U) (U := U.calling g mk a) (Vm.Alike.refl U.vm) qK, qD⟩, fun U hU hW => ⟨rfl, by rw [hU], by rw [hU]; exact hPc, va_K.moved hW.alike hK, hDc.weaken (fun _ _ _ _ => trivial)⟩⟩ rfl rfl hl.1 rfl (lv_room (Nat.le_of_ble_eq_true rfl)) dM_told_10 ⟨Nat.le_of_ble_eq_true rfl, Nat.le_of_ble_eq_true rfl⟩) hS (fun q _ h => hFc q h) hFc (fun res_ u_ t H1 locs ht hvm hw hB hz1 hk1 hS => ?_)
  obtain ⟨hP1, hK1, hD1⟩ := hB
  rw [ht] at hP1
  obtain ⟨hP, hD⟩ := va_join (wr := [(mm, .inr (5, [.int (nI ly), .int (nI ce), .ref qlo, .ref qlk, .ref qhd, .ref qsf, .ref qpr, .ref qpa, .ref qsk, .long co, .long wo, .int (nI dy), .int da, .int db, .int dr, .int (nI mn), .ref qld, .ref qlz, .int (nI rn), .ref qrd, .ref qrv, .ref qhi, .ref qfw, .ref qkp])), (qpr, .inl (cJ, 30, .inr (.inl pr))), (qpa, .inl (cJ, 30, .inr (.inl pa)))]) (w1 := []) hP hD [] [0, 1, 2] rfl rfl (by decide) (by decide) hk1 hFc hP1 hD1
  generalize H1 = H at hP hS ⊢
  have hP : va_P (dC, dI) vwCl [(mm, .inr (5, [.int (nI ly), .int (nI ce), .ref qlo, .ref qlk, .ref qhd, .ref qsf, .ref qpr, .ref qpa, .ref qsk, .long co, .long wo, .int (nI dy), .int da, .int db, .int dr, .int (nI mn), .ref qld, .ref qlz, .int (nI rn), .ref qrd, .ref qrv, .ref qhi, .ref qfw, .ref qkp])), (qpr, .inl (cJ, 30, .inr (.inl pr))), (qpa, .inl (cJ, 30, .inr (.inl pa)))] H := hP
  have hD : va_D A [(mm, .inr (5, [.int (nI ly), .int (nI ce), .ref qlo, .ref qlk, .ref qhd, .ref qsf, .ref qpr, .ref qpa, .ref qsk, .long co, .long wo, .int (nI dy), .int da, .int db, .int dr, .int (nI mn), .ref qld, .ref qlz, .int (nI rn), .ref qrd, .ref qrv, .ref qhi, .ref qfw, .ref qkp])), (qpr, .inl (cJ, 30, .inr (.inl pr))), (qpa, .inl (cJ, 30, .inr (.inl pa)))] := hD
  clear hPc hDc hFc hP1 hD1 hK1 hk1 hz1 hvm ht
  obtain rfl : kb (0 ≤ x.toInt64 ∧ x.toInt64 ≤ (((nI ce) - (nI 1)).toInt64)) = res_ := hw.symm
  refine lv_if_eq (tgt := 28) hx hb dM_told_13 (by decide) (fun hc13 => ?_) (fun hc13 => ?_)
  · -- 13 taken
    rw [kb_eq0, k_wl, show ((0 : Int64)).toInt = 0 from by decide] at hc13
    simp only [Int32.toInt_toInt64] at hc13
    rw [pk_sub_toInt (a := ce) (b := 1) (by omega) (by omega)] at hc13
    refine lv_iconst (v := (-1)) hx hb dM_told_28 (by decide) ?_
    have hP : va_P (dC, dI) vwCl [(mm, .inr (5, [.int (nI ly), .int (nI ce), .ref qlo, .ref qlk, .ref qhd, .ref qsf, .ref qpr, .ref qpa, .ref qsk, .long co, .long wo, .int (nI dy), .int da, .int db, .int dr, .int (nI mn), .ref qld, .ref qlz, .int (nI rn), .ref qrd, .ref qrv, .ref qhi, .ref qfw, .ref qkp])), (qpr, .inl (cJ, 30, .inr (.inl pr))), (qpa, .inl (cJ, 30, .inr (.inl pa)))] H := by first | exact hP | simpa only [] using hP
    have hD : va_D A [(mm, .inr (5, [.int (nI ly), .int (nI ce), .ref qlo, .ref qlk, .ref qhd, .ref qsf, .ref qpr, .ref qpa, .ref qsk, .long co, .long wo, .int (nI dy), .int da, .int db, .int dr, .int (nI mn), .ref qld, .ref qlz, .int (nI rn), .ref qrd, .ref qrv, .ref qhi, .ref qfw, .ref qkp])), (qpr, .inl (cJ, 30, .inr (.inl pr))), (qpa, .inl (cJ, 30, .inr (.inl pa)))] := by first | exact hD | simpa only [] using hD
    exact W.iret (v := (-1)) hx hb hr (fun t ht hW => ⟨⟨(-1), (), rfl, rfl, by rw [ht]; exact hP, va_K.moved hW.alike hK, hD⟩, hS.F ht⟩) hS.2.2 dM_told_29
  · -- 13 not taken
    rw [kb_eq0, k_wl, show ((0 : Int64)).toInt = 0 from by decide] at hc13
    simp only [Int32.toInt_toInt64] at hc13
    rw [pk_sub_toInt (a := ce) (b := 1) (by omega) (by omega)] at hc13
    exfalso; omega
set_option maxHeartbeats 4000000 in
set_option maxRecDepth 100000 in
theorem kM_keep (l : Launch) (dC : Nat → ClassId) (dI : Nat → Nat → Nat) (cI cJ : ClassId) (mm qlo qlk qhd qsf qpr qpa qsk qld qlz qrd qrv qhi qfw qkp : Nat) (sz : Nat) (ly : Nat) (ce : Nat) (co : Int64) (wo : Int64) (dy : Nat) (da : Int32) (db : Int32) (dr : Int32) (mn : Nat) (rn : Nat) (pr : Nat → Int64) (pa : Nat → Int64) (sk : Nat → Int64) (kp : Nat → Int64) : Met l yM_keep wM_keep ({ frames := 0, cells := 0, slots := 0, locals := 0 }) (va_Pc [.ref mm] (fun U => U.heap.size = sz ∧ va_P (dC, dI) vwCl [(mm, .inr (5, [.int (nI ly), .int (nI ce), .ref qlo, .ref qlk, .ref qhd, .ref qsf, .ref qpr, .ref qpa, .ref qsk, .long co, .long wo, .int (nI dy), .int da, .int db, .int dr, .int (nI mn), .ref qld, .ref qlz, .int (nI rn), .ref qrd, .ref qrv, .ref qhi, .ref qfw, .ref qkp])), (qpr, .inl (cJ, 30, .inr (.inl pr))), (qpa, .inl (cJ, 30, .inr (.inl pa))), (qsk, .inl (cJ, 30, .inr (.inl sk))), (qkp, .inl (cJ, 92, .inr (.inl kp)))] U.heap ∧ va_K (dC, dI) vwCl [(cI, .int), (cJ, .long)] U ∧ va_D (fun _ => True) [(mm, .inr (5, [.int (nI ly), .int (nI ce), .ref qlo, .ref qlk, .ref qhd, .ref qsf, .ref qpr, .ref qpa, .ref qsk, .long co, .long wo, .int (nI dy), .int da, .int db, .int dr, .int (nI mn), .ref qld, .ref qlz, .int (nI rn), .ref qrd, .ref qrv, .ref qhi, .ref qfw, .ref qkp])), (qpr, .inl (cJ, 30, .inr (.inl pr))), (qpa, .inl (cJ, 30, .inr (.inl pa))), (qsk, .inl (cJ, 30, .inr (.inl sk))), (qkp, .inl (cJ, 92, .inr (.inl kp)))])) (va_Qv (fun (_ : Unit) => True) (fun _ t => va_P (dC, dI) vwCl [(mm, .inr (5, [.int (nI ly), .int (nI ce), .ref qlo, .ref qlk, .ref qhd, .ref qsf, .ref qpr, .ref qpa, .ref qsk, .long co, .long wo, .int (nI dy), .int da, .int db, .int dr, .int (nI mn), .ref qld, .ref qlz, .int (nI rn), .ref qrd, .ref qrv, .ref qhi, .ref qfw, .ref qkp])), (qpr, .inl (cJ, 30, .inr (.inl pr))), (qpa, .inl (cJ, 30, .inr (.inl pa))), (qsk, .inl (cJ, 30, .inr (.inl sk))), (qkp, .inl (cJ, 92, .inr (.inl (k_kept pr pa sk co wo kp))))] t.heap ∧ va_K (dC, dI) vwCl [(cI, .int), (cJ, .long)] t ∧ va_D (va_A [(mm, .inr (5, [.int (nI ly), .int (nI ce), .ref qlo, .ref qlk, .ref qhd, .ref qsf, .ref qpr, .ref qpa, .ref qsk, .long co, .long wo, .int (nI dy), .int da, .int db, .int dr, .int (nI mn), .ref qld, .ref qlz, .int (nI rn), .ref qrd, .ref qrv, .ref qhi, .ref qfw, .ref qkp])), (qpr, .inl (cJ, 30, .inr (.inl pr))), (qpa, .inl (cJ, 30, .inr (.inl pa))), (qsk, .inl (cJ, 30, .inr (.inl sk))), (qkp, .inl (cJ, 92, .inr (.inl kp)))] sz) [(mm, .inr (5, [.int (nI ly), .int (nI ce), .ref qlo, .ref qlk, .ref qhd, .ref qsf, .ref qpr, .ref qpa, .ref qsk, .long co, .long wo, .int (nI dy), .int da, .int db, .int dr, .int (nI mn), .ref qld, .ref qlz, .int (nI rn), .ref qrd, .ref qrv, .ref qhi, .ref qfw, .ref qkp])), (qpr, .inl (cJ, 30, .inr (.inl pr))), (qpa, .inl (cJ, 30, .inr (.inl pa))), (qsk, .inl (cJ, 30, .inr (.inl sk))), (qkp, .inl (cJ, 92, .inr (.inl (k_kept pr pa sk co wo kp))))]) (va_A [(mm, .inr (5, [.int (nI ly), .int (nI ce), .ref qlo, .ref qlk, .ref qhd, .ref qsf, .ref qpr, .ref qpa, .ref qsk, .long co, .long wo, .int (nI dy), .int da, .int db, .int dr, .int (nI mn), .ref qld, .ref qlz, .int (nI rn), .ref qrd, .ref qrv, .ref qhi, .ref qfw, .ref qkp])), (qpr, .inl (cJ, 30, .inr (.inl pr))), (qpa, .inl (cJ, 30, .inr (.inl pa))), (qsk, .inl (cJ, 30, .inr (.inl sk))), (qkp, .inl (cJ, 92, .inr (.inl kp)))] sz)) 0 0 (va_A [(mm, .inr (5, [.int (nI ly), .int (nI ce), .ref qlo, .ref qlk, .ref qhd, .ref qsf, .ref qpr, .ref qpa, .ref qsk, .long co, .long wo, .int (nI dy), .int da, .int db, .int dr, .int (nI mn), .ref qld, .ref qlz, .int (nI rn), .ref qrd, .ref qrv, .ref qhi, .ref qfw, .ref qkp])), (qpr, .inl (cJ, 30, .inr (.inl pr))), (qpa, .inl (cJ, 30, .inr (.inl pa))), (qsk, .inl (cJ, 30, .inr (.inl sk))), (qkp, .inl (cJ, 92, .inr (.inl kp)))] sz) := by
  refine Met.ofW (cc := bM_keep) (maxL := 2) (ret := none) (by decide) rfl ?_
  intro p e s m args below meth c s₁ B hml hv
  obtain ⟨rfl, hsz, hP, hK, hD0⟩ := hv
  have hx := B.exec
  have hb := B.bytes
  have hr := B.returns
  have hts := atoms_spec (ws := wM_keep) B.pre
  have hown : s.vm.findClass R_M = some m.cls := findClass_of_methodNamed B.named
  have htw : ∀ w ∈ WA, w.before _ s = true := fun w h => hts w (List.mem_cons_of_mem _ h)
  clear hts
  have hlocks := B.notSynchronized
  subst hsz
  have hD := hD0.self (sz := s.heap.size)
  generalize hAe : va_A [(mm, .inr (5, [.int (nI ly), .int (nI ce), .ref qlo, .ref qlk, .ref qhd, .ref qsf, .ref qpr, .ref qpa, .ref qsk, .long co, .long wo, .int (nI dy), .int da, .int db, .int dr, .int (nI mn), .ref qld, .ref qlz, .int (nI rn), .ref qrd, .ref qrv, .ref qhi, .ref qfw, .ref qkp])), (qpr, .inl (cJ, 30, .inr (.inl pr))), (qpa, .inl (cJ, 30, .inr (.inl pa))), (qsk, .inl (cJ, 30, .inr (.inl sk))), (qkp, .inl (cJ, 92, .inr (.inl kp)))] s.heap.size = A at hD ⊢
  have hA : ∀ q : Nat, s.heap.size ≤ q → A q := fun q h => by rw [← hAe]; exact Or.inr h
  clear hAe hD0
  have hS : va_S A s.heap s.heap [] := va_S.rf
  have hP : va_P (dC, dI) vwCl [(mm, .inr (5, [.int (nI ly), .int (nI ce), .ref qlo, .ref qlk, .ref qhd, .ref qsf, .ref qpr, .ref qpa, .ref qsk, .long co, .long wo, .int (nI dy), .int da, .int db, .int dr, .int (nI mn), .ref qld, .ref qlz, .int (nI rn), .ref qrd, .ref qrv, .ref qhi, .ref qfw, .ref qkp])), (qpr, .inl (cJ, 30, .inr (.inl pr))), (qpa, .inl (cJ, 30, .inr (.inl pa))), (qsk, .inl (cJ, 30, .inr (.inl sk))), (qkp, .inl (cJ, 92, .inr (.inl kp)))] s.heap := hP
  have hl := lv_entry ([.ref mm]) (n := 2) (Nat.le_of_ble_eq_true rfl)
  rw [lg_entry_eq]
  generalize (lg_sl ([.ref mm]) ++ List.replicate (2 - (lg_sl ([.ref mm])).length) Slot.unset).toArray = ls at hl ⊢
  have hl : lv_has ls 2 [(0, .ref mm)] := hl
  refine lv_iconst (v := nI 0) hx hb dM_keep_0 (by decide) ?_
  refine lv_istore_n (lv' := [(1, .int (nI 0)), (0, .ref mm)]) hx hb dM_keep_1 rfl hl (by decide) rfl (fun ls hl => ?_)
  -- the loop at 2
  have eq1 : (kp : Nat → Int64) = k_kl pr pa sk kp 0 := k_kl_0
  have hP := Eq.mp (congrArg (fun zz => va_P (dC, dI) vwCl [(mm, .inr (5, [.int (nI ly), .int (nI ce), .ref qlo, .ref qlk, .ref qhd, .ref qsf, .ref qpr, .ref qpa, .ref qsk, .long co, .long wo, .int (nI dy), .int da, .int db, .int dr, .int (nI mn), .ref qld, .ref qlz, .int (nI rn), .ref qrd, .ref qrv, .ref qhi, .ref qfw, .ref qkp])), (qpr, .inl (cJ, 30, .inr (.inl pr))), (qpa, .inl (cJ, 30, .inr (.inl pa))), (qsk, .inl (cJ, 30, .inr (.inl sk))), (qkp, .inl (cJ, 92, .inr (.inl zz)))] s.heap) eq1) hP
  have hD := Eq.mp (congrArg (fun zz => va_D A [(mm, .inr (5, [.int (nI ly), .int (nI ce), .ref qlo, .ref qlk, .ref qhd, .ref qsf, .ref qpr, .ref qpa, .ref qsk, .long co, .long wo, .int (nI dy), .int da, .int db, .int dr, .int (nI mn), .ref qld, .ref qlz, .int (nI rn), .ref qrd, .ref qrv, .ref qhi, .ref qfw, .ref qkp])), (qpr, .inl (cJ, 30, .inr (.inl pr))), (qpa, .inl (cJ, 30, .inr (.inl pa))), (qsk, .inl (cJ, 30, .inr (.inl sk))), (qkp, .inl (cJ, 92, .inr (.inl zz)))]) eq1) hD
  have hP : va_P (dC, dI) vwCl [(mm, .inr (5, [.int (nI ly), .int (nI ce), .ref qlo, .ref qlk, .ref qhd, .ref qsf, .ref qpr, .ref qpa, .ref qsk, .long co, .long wo, .int (nI dy), .int da, .int db, .int dr, .int (nI mn), .ref qld, .ref qlz, .int (nI rn), .ref qrd, .ref qrv, .ref qhi, .ref qfw, .ref qkp])), (qpr, .inl (cJ, 30, .inr (.inl pr))), (qpa, .inl (cJ, 30, .inr (.inl pa))), (qsk, .inl (cJ, 30, .inr (.inl sk))), (qkp, .inl (cJ, 92, .inr (.inl (k_kl pr pa sk kp 0))))] s.heap := by first | exact hP | simpa only [] using hP
  have hD : va_D A [(mm, .inr (5, [.int (nI ly), .int (nI ce), .ref qlo, .ref qlk, .ref qhd, .ref qsf, .ref qpr, .ref qpa, .ref qsk, .long co, .long wo, .int (nI dy), .int da, .int db, .int dr, .int (nI mn), .ref qld, .ref qlz, .int (nI rn), .ref qrd, .ref qrv, .ref qhi, .ref qfw, .ref qkp])), (qpr, .inl (cJ, 30, .inr (.inl pr))), (qpa, .inl (cJ, 30, .inr (.inl pa))), (qsk, .inl (cJ, 30, .inr (.inl sk))), (qkp, .inl (cJ, 92, .inr (.inl (k_kl pr pa sk kp 0))))] := by first | exact hD | simpa only [] using hD
  refine x_loop (N := 30) (I := fun i H locs ls => va_P (dC, dI) vwCl [(mm, .inr (5, [.int (nI ly), .int (nI ce), .ref qlo, .ref qlk, .ref qhd, .ref qsf, .ref qpr, .ref qpa, .ref qsk, .long co, .long wo, .int (nI dy), .int da, .int db, .int dr, .int (nI mn), .ref qld, .ref qlz, .int (nI rn), .ref qrd, .ref qrv, .ref qhi, .ref qfw, .ref qkp])), (qpr, .inl (cJ, 30, .inr (.inl pr))), (qpa, .inl (cJ, 30, .inr (.inl pa))), (qsk, .inl (cJ, 30, .inr (.inl sk))), (qkp, .inl (cJ, 92, .inr (.inl (k_kl pr pa sk kp i))))] H ∧ va_D A [(mm, .inr (5, [.int (nI ly), .int (nI ce), .ref qlo, .ref qlk, .ref qhd, .ref qsf, .ref qpr, .ref qpa, .ref qsk, .long co, .long wo, .int (nI dy), .int da, .int db, .int dr, .int (nI mn), .ref qld, .ref qlz, .int (nI rn), .ref qrd, .ref qrv, .ref qhi, .ref qfw, .ref qkp])), (qpr, .inl (cJ, 30, .inr (.inl pr))), (qpa, .inl (cJ, 30, .inr (.inl pa))), (qsk, .inl (cJ, 30, .inr (.inl sk))), (qkp, .inl (cJ, 92, .inr (.inl (k_kl pr pa sk kp i))))] ∧ va_S A s.heap H locs ∧ lv_has ls 2 [(0, .ref mm), (1, .int (nI i))]) (i0 := 0) ?_ (Nat.zero_le _) ⟨hP, hD, hS, lv_sub hl [1, 0] rfl⟩
  intro i hi ih2 H locs ls hI
  obtain ⟨hP, hD, hS, hl⟩ := hI
  refine lv_iload_n hx hb dM_keep_2 rfl (lv_at hl 1 rfl) ?_
  refine lv_bipush (v := nI 30) hx hb dM_keep_3 (by decide) ?_
  refine lv_icmp_ge (tgt := 56) hx hb dM_keep_5 (by decide) (fun hc5 => ?_) (fun hc5 => ?_)
  · -- 5 taken
    rw [nI_leI (by omega) (by omega)] at hc5
    obtain rfl : i = 30 := by omega
    refine lv_aload_n hx hb dM_keep_56 rfl (lv_at hl 0 rfl) ?_
    refine va_get (D := (dC, dI)) (ci := 5) (v := .ref qkp) (C := R_M) (T := T_M) (N := 24) hx hb htw in_M hown hK hP 0 rfl rfl 23 (by decide) (htw _ m_380) (fun _ h9 => h9) rfl dM_keep_57 ?_
    refine lv_bipush (v := nI 90) hx hb dM_keep_60 (by decide) ?_
    refine lv_aload_n hx hb dM_keep_62 rfl (lv_at hl 0 rfl) ?_
    refine va_get (D := (dC, dI)) (ci := 5) (v := .long co) (C := R_M) (T := T_M) (N := 24) hx hb htw in_M hown hK hP 0 rfl rfl 9 (by decide) (htw _ m_366) (fun _ h9 => h9) rfl dM_keep_63 ?_
    refine xa_last hx hb hK hP hD hS 4 1 rfl rfl (i := 90) (by omega) (by decide) dM_keep_66 (fun H locs hP hD hS => ?_)
    have hP : va_P (dC, dI) vwCl [(mm, .inr (5, [.int (nI ly), .int (nI ce), .ref qlo, .ref qlk, .ref qhd, .ref qsf, .ref qpr, .ref qpa, .ref qsk, .long co, .long wo, .int (nI dy), .int da, .int db, .int dr, .int (nI mn), .ref qld, .ref qlz, .int (nI rn), .ref qrd, .ref qrv, .ref qhi, .ref qfw, .ref qkp])), (qpr, .inl (cJ, 30, .inr (.inl pr))), (qpa, .inl (cJ, 30, .inr (.inl pa))), (qsk, .inl (cJ, 30, .inr (.inl sk))), (qkp, .inl (cJ, 92, .inr (.inl (vp_updL (k_kl pr pa sk kp 30) 90 co))))] H := hP
    have hD : va_D A [(mm, .inr (5, [.int (nI ly), .int (nI ce), .ref qlo, .ref qlk, .ref qhd, .ref qsf, .ref qpr, .ref qpa, .ref qsk, .long co, .long wo, .int (nI dy), .int da, .int db, .int dr, .int (nI mn), .ref qld, .ref qlz, .int (nI rn), .ref qrd, .ref qrv, .ref qhi, .ref qfw, .ref qkp])), (qpr, .inl (cJ, 30, .inr (.inl pr))), (qpa, .inl (cJ, 30, .inr (.inl pa))), (qsk, .inl (cJ, 30, .inr (.inl sk))), (qkp, .inl (cJ, 92, .inr (.inl (vp_updL (k_kl pr pa sk kp 30) 90 co))))] := hD
    refine lv_aload_n hx hb dM_keep_67 rfl (lv_at hl 0 rfl) ?_
    refine va_get (D := (dC, dI)) (ci := 5) (v := .ref qkp) (C := R_M) (T := T_M) (N := 24) hx hb htw in_M hown hK hP 0 rfl rfl 23 (by decide) (htw _ m_380) (fun _ h9 => h9) rfl dM_keep_68 ?_
    refine lv_bipush (v := nI 91) hx hb dM_keep_71 (by decide) ?_
    refine lv_aload_n hx hb dM_keep_73 rfl (lv_at hl 0 rfl) ?_
    refine va_get (D := (dC, dI)) (ci := 5) (v := .long wo) (C := R_M) (T := T_M) (N := 24) hx hb htw in_M hown hK hP 0 rfl rfl 10 (by decide) (htw _ m_367) (fun _ h9 => h9) rfl dM_keep_74 ?_
    refine xa_last hx hb hK hP hD hS 4 1 rfl rfl (i := 91) (by omega) (by decide) dM_keep_77 (fun H locs hP hD hS => ?_)
    have hP : va_P (dC, dI) vwCl [(mm, .inr (5, [.int (nI ly), .int (nI ce), .ref qlo, .ref qlk, .ref qhd, .ref qsf, .ref qpr, .ref qpa, .ref qsk, .long co, .long wo, .int (nI dy), .int da, .int db, .int dr, .int (nI mn), .ref qld, .ref qlz, .int (nI rn), .ref qrd, .ref qrv, .ref qhi, .ref qfw, .ref qkp])), (qpr, .inl (cJ, 30, .inr (.inl pr))), (qpa, .inl (cJ, 30, .inr (.inl pa))), (qsk, .inl (cJ, 30, .inr (.inl sk))), (qkp, .inl (cJ, 92, .inr (.inl (vp_updL (vp_updL (k_kl pr pa sk kp 30) 90 co) 91 wo))))] H := hP
    have hD : va_D A [(mm, .inr (5, [.int (nI ly), .int (nI ce), .ref qlo, .ref qlk, .ref qhd, .ref qsf, .ref qpr, .ref qpa, .ref qsk, .long co, .long wo, .int (nI dy), .int da, .int db, .int dr, .int (nI mn), .ref qld, .ref qlz, .int (nI rn), .ref qrd, .ref qrv, .ref qhi, .ref qfw, .ref qkp])), (qpr, .inl (cJ, 30, .inr (.inl pr))), (qpa, .inl (cJ, 30, .inr (.inl pa))), (qsk, .inl (cJ, 30, .inr (.inl sk))), (qkp, .inl (cJ, 92, .inr (.inl (vp_updL (vp_updL (k_kl pr pa sk kp 30) 90 co) 91 wo))))] := hD
    have hP : va_P (dC, dI) vwCl [(mm, .inr (5, [.int (nI ly), .int (nI ce), .ref qlo, .ref qlk, .ref qhd, .ref qsf, .ref qpr, .ref qpa, .ref qsk, .long co, .long wo, .int (nI dy), .int da, .int db, .int dr, .int (nI mn), .ref qld, .ref qlz, .int (nI rn), .ref qrd, .ref qrv, .ref qhi, .ref qfw, .ref qkp])), (qpr, .inl (cJ, 30, .inr (.inl pr))), (qpa, .inl (cJ, 30, .inr (.inl pa))), (qsk, .inl (cJ, 30, .inr (.inl sk))), (qkp, .inl (cJ, 92, .inr (.inl (k_kept pr pa sk co wo kp))))] H := by first | exact hP | simpa only [] using hP
    have hD : va_D A [(mm, .inr (5, [.int (nI ly), .int (nI ce), .ref qlo, .ref qlk, .ref qhd, .ref qsf, .ref qpr, .ref qpa, .ref qsk, .long co, .long wo, .int (nI dy), .int da, .int db, .int dr, .int (nI mn), .ref qld, .ref qlz, .int (nI rn), .ref qrd, .ref qrv, .ref qhi, .ref qfw, .ref qkp])), (qpr, .inl (cJ, 30, .inr (.inl pr))), (qpa, .inl (cJ, 30, .inr (.inl pa))), (qsk, .inl (cJ, 30, .inr (.inl sk))), (qkp, .inl (cJ, 92, .inr (.inl (k_kept pr pa sk co wo kp))))] := by first | exact hD | simpa only [] using hD
    exact W.vret hx hb hr (fun t ht hW => ⟨⟨(), rfl, trivial, by rw [ht]; exact hP, va_K.moved hW.alike hK, hD⟩, hS.F ht⟩) hS.2.2 dM_keep_78
  · -- 5 not taken
    rw [nI_leI (by omega) (by omega)] at hc5
    refine lv_aload_n hx hb dM_keep_8 rfl (lv_at hl 0 rfl) ?_
    refine va_get (D := (dC, dI)) (ci := 5) (v := .ref qkp) (C := R_M) (T := T_M) (N := 24) hx hb htw in_M hown hK hP 0 rfl rfl 23 (by decide) (htw _ m_380) (fun _ h9 => h9) rfl dM_keep_9 ?_
    refine lv_iload_n hx hb dM_keep_12 rfl (lv_at hl 1 rfl) ?_
    refine lv_aload_n hx hb dM_keep_13 rfl (lv_at hl 0 rfl) ?_
    refine va_get (D := (dC, dI)) (ci := 5) (v := .ref qpr) (C := R_M) (T := T_M) (N := 24) hx hb htw in_M hown hK hP 0 rfl rfl 6 (by decide) (htw _ m_363) (fun _ h9 => h9) rfl dM_keep_14 ?_
    refine lv_iload_n hx hb dM_keep_17 rfl (lv_at hl 1 rfl) ?_
    refine xa_lald hx hb hK hP 1 1 rfl rfl (i := i) (by omega) (by decide) dM_keep_18 ?_
    refine xa_last hx hb hK hP hD hS 4 1 rfl rfl (i := i) (by omega) (by decide) dM_keep_19 (fun H locs hP hD hS => ?_)
    have hP : va_P (dC, dI) vwCl [(mm, .inr (5, [.int (nI ly), .int (nI ce), .ref qlo, .ref qlk, .ref qhd, .ref qsf, .ref qpr, .ref qpa, .ref qsk, .long co, .long wo, .int (nI dy), .int da, .int db, .int dr, .int (nI mn), .ref qld, .ref qlz, .int (nI rn), .ref qrd, .ref qrv, .ref qhi, .ref qfw, .ref qkp])), (qpr, .inl (cJ, 30, .inr (.inl pr))), (qpa, .inl (cJ, 30, .inr (.inl pa))), (qsk, .inl (cJ, 30, .inr (.inl sk))), (qkp, .inl (cJ, 92, .inr (.inl (vp_updL (k_kl pr pa sk kp i) i (pr i)))))] H := hP
    have hD : va_D A [(mm, .inr (5, [.int (nI ly), .int (nI ce), .ref qlo, .ref qlk, .ref qhd, .ref qsf, .ref qpr, .ref qpa, .ref qsk, .long co, .long wo, .int (nI dy), .int da, .int db, .int dr, .int (nI mn), .ref qld, .ref qlz, .int (nI rn), .ref qrd, .ref qrv, .ref qhi, .ref qfw, .ref qkp])), (qpr, .inl (cJ, 30, .inr (.inl pr))), (qpa, .inl (cJ, 30, .inr (.inl pa))), (qsk, .inl (cJ, 30, .inr (.inl sk))), (qkp, .inl (cJ, 92, .inr (.inl (vp_updL (k_kl pr pa sk kp i) i (pr i)))))] := hD
    refine lv_aload_n hx hb dM_keep_20 rfl (lv_at hl 0 rfl) ?_
    refine va_get (D := (dC, dI)) (ci := 5) (v := .ref qkp) (C := R_M) (T := T_M) (N := 24) hx hb htw in_M hown hK hP 0 rfl rfl 23 (by decide) (htw _ m_380) (fun _ h9 => h9) rfl dM_keep_21 ?_
    refine lv_bipush (v := nI 30) hx hb dM_keep_24 (by decide) ?_
    refine lv_iload_n hx hb dM_keep_26 rfl (lv_at hl 1 rfl) ?_
    refine lv_iadd hx hb dM_keep_27 ?_
    refine lv_topi (fun kv ekv => ?_)
    obtain rfl : kv = nI (30 + i) := by rw [ekv]; exact nI_add _ _
    refine lv_aload_n hx hb dM_keep_28 rfl (lv_at hl 0 rfl) ?_
    refine va_get (D := (dC, dI)) (ci := 5) (v := .ref qpa) (C := R_M) (T := T_M) (N := 24) hx hb htw in_M hown hK hP 0 rfl rfl 7 (by decide) (htw _ m_364) (fun _ h9 => h9) rfl dM_keep_29 ?_
    refine lv_iload_n hx hb dM_keep_32 rfl (lv_at hl 1 rfl) ?_
    refine xa_lald hx hb hK hP 2 1 rfl rfl (i := i) (by omega) (by decide) dM_keep_33 ?_
    refine xa_last hx hb hK hP hD hS 4 1 rfl rfl (i := (30 + i)) (by omega) (by decide) dM_keep_34 (fun H locs hP hD hS => ?_)
    have hP : va_P (dC, dI) vwCl [(mm, .inr (5, [.int (nI ly), .int (nI ce), .ref qlo, .ref qlk, .ref qhd, .ref qsf, .ref qpr, .ref qpa, .ref qsk, .long co, .long wo, .int (nI dy), .int da, .int db, .int dr, .int (nI mn), .ref qld, .ref qlz, .int (nI rn), .ref qrd, .ref qrv, .ref qhi, .ref qfw, .ref qkp])), (qpr, .inl (cJ, 30, .inr (.inl pr))), (qpa, .inl (cJ, 30, .inr (.inl pa))), (qsk, .inl (cJ, 30, .inr (.inl sk))), (qkp, .inl (cJ, 92, .inr (.inl (vp_updL (vp_updL (k_kl pr pa sk kp i) i (pr i)) (30 + i) (pa i)))))] H := hP
    have hD : va_D A [(mm, .inr (5, [.int (nI ly), .int (nI ce), .ref qlo, .ref qlk, .ref qhd, .ref qsf, .ref qpr, .ref qpa, .ref qsk, .long co, .long wo, .int (nI dy), .int da, .int db, .int dr, .int (nI mn), .ref qld, .ref qlz, .int (nI rn), .ref qrd, .ref qrv, .ref qhi, .ref qfw, .ref qkp])), (qpr, .inl (cJ, 30, .inr (.inl pr))), (qpa, .inl (cJ, 30, .inr (.inl pa))), (qsk, .inl (cJ, 30, .inr (.inl sk))), (qkp, .inl (cJ, 92, .inr (.inl (vp_updL (vp_updL (k_kl pr pa sk kp i) i (pr i)) (30 + i) (pa i)))))] := hD
    refine lv_aload_n hx hb dM_keep_35 rfl (lv_at hl 0 rfl) ?_
    refine va_get (D := (dC, dI)) (ci := 5) (v := .ref qkp) (C := R_M) (T := T_M) (N := 24) hx hb htw in_M hown hK hP 0 rfl rfl 23 (by decide) (htw _ m_380) (fun _ h9 => h9) rfl dM_keep_36 ?_
    refine lv_bipush (v := nI 60) hx hb dM_keep_39 (by decide) ?_
    refine lv_iload_n hx hb dM_keep_41 rfl (lv_at hl 1 rfl) ?_
    refine lv_iadd hx hb dM_keep_42 ?_
    refine lv_topi (fun kv ekv => ?_)
    obtain rfl : kv = nI (60 + i) := by rw [ekv]; exact nI_add _ _
    refine lv_aload_n hx hb dM_keep_43 rfl (lv_at hl 0 rfl) ?_
    refine va_get (D := (dC, dI)) (ci := 5) (v := .ref qsk) (C := R_M) (T := T_M) (N := 24) hx hb htw in_M hown hK hP 0 rfl rfl 8 (by decide) (htw _ m_365) (fun _ h9 => h9) rfl dM_keep_44 ?_
    refine lv_iload_n hx hb dM_keep_47 rfl (lv_at hl 1 rfl) ?_
    refine xa_lald hx hb hK hP 3 1 rfl rfl (i := i) (by omega) (by decide) dM_keep_48 ?_
    refine xa_last hx hb hK hP hD hS 4 1 rfl rfl (i := (60 + i)) (by omega) (by decide) dM_keep_49 (fun H locs hP hD hS => ?_)
    have hP : va_P (dC, dI) vwCl [(mm, .inr (5, [.int (nI ly), .int (nI ce), .ref qlo, .ref qlk, .ref qhd, .ref qsf, .ref qpr, .ref qpa, .ref qsk, .long co, .long wo, .int (nI dy), .int da, .int db, .int dr, .int (nI mn), .ref qld, .ref qlz, .int (nI rn), .ref qrd, .ref qrv, .ref qhi, .ref qfw, .ref qkp])), (qpr, .inl (cJ, 30, .inr (.inl pr))), (qpa, .inl (cJ, 30, .inr (.inl pa))), (qsk, .inl (cJ, 30, .inr (.inl sk))), (qkp, .inl (cJ, 92, .inr (.inl (vp_updL (vp_updL (vp_updL (k_kl pr pa sk kp i) i (pr i)) (30 + i) (pa i)) (60 + i) (sk i)))))] H := hP
    have hD : va_D A [(mm, .inr (5, [.int (nI ly), .int (nI ce), .ref qlo, .ref qlk, .ref qhd, .ref qsf, .ref qpr, .ref qpa, .ref qsk, .long co, .long wo, .int (nI dy), .int da, .int db, .int dr, .int (nI mn), .ref qld, .ref qlz, .int (nI rn), .ref qrd, .ref qrv, .ref qhi, .ref qfw, .ref qkp])), (qpr, .inl (cJ, 30, .inr (.inl pr))), (qpa, .inl (cJ, 30, .inr (.inl pa))), (qsk, .inl (cJ, 30, .inr (.inl sk))), (qkp, .inl (cJ, 92, .inr (.inl (vp_updL (vp_updL (vp_updL (k_kl pr pa sk kp i) i (pr i)) (30 + i) (pa i)) (60 + i) (sk i)))))] := hD
    refine lv_iinc (v := nI (i + 1)) (lv' := [(1, .int (nI (i + 1))), (0, .ref mm)]) hx hb dM_keep_50 hl (k := 1) rfl (nI_1 _) (by decide) rfl (fun ls hl => ?_)
    refine lv_goto (tgt := 2) hx hb dM_keep_53 (by decide) ?_
    have eq3 : (vp_updL (vp_updL (vp_updL (k_kl pr pa sk kp i) i (pr i)) (30 + i) (pa i)) (60 + i) (sk i) : Nat → Int64) = k_kl pr pa sk kp (i + 1) := k_kl_s (by omega)
    have hP := Eq.mp (congrArg (fun zz => va_P (dC, dI) vwCl [(mm, .inr (5, [.int (nI ly), .int (nI ce), .ref qlo, .ref qlk, .ref qhd, .ref qsf, .ref qpr, .ref qpa, .ref qsk, .long co, .long wo, .int (nI dy), .int da, .int db, .int dr, .int (nI mn), .ref qld, .ref qlz, .int (nI rn), .ref qrd, .ref qrv, .ref qhi, .ref qfw, .ref qkp])), (qpr, .inl (cJ, 30, .inr (.inl pr))), (qpa, .inl (cJ, 30, .inr (.inl pa))), (qsk, .inl (cJ, 30, .inr (.inl sk))), (qkp, .inl (cJ, 92, .inr (.inl zz)))] H) eq3) hP
    have hD := Eq.mp (congrArg (fun zz => va_D A [(mm, .inr (5, [.int (nI ly), .int (nI ce), .ref qlo, .ref qlk, .ref qhd, .ref qsf, .ref qpr, .ref qpa, .ref qsk, .long co, .long wo, .int (nI dy), .int da, .int db, .int dr, .int (nI mn), .ref qld, .ref qlz, .int (nI rn), .ref qrd, .ref qrv, .ref qhi, .ref qfw, .ref qkp])), (qpr, .inl (cJ, 30, .inr (.inl pr))), (qpa, .inl (cJ, 30, .inr (.inl pa))), (qsk, .inl (cJ, 30, .inr (.inl sk))), (qkp, .inl (cJ, 92, .inr (.inl zz)))]) eq3) hD
    have hP : va_P (dC, dI) vwCl [(mm, .inr (5, [.int (nI ly), .int (nI ce), .ref qlo, .ref qlk, .ref qhd, .ref qsf, .ref qpr, .ref qpa, .ref qsk, .long co, .long wo, .int (nI dy), .int da, .int db, .int dr, .int (nI mn), .ref qld, .ref qlz, .int (nI rn), .ref qrd, .ref qrv, .ref qhi, .ref qfw, .ref qkp])), (qpr, .inl (cJ, 30, .inr (.inl pr))), (qpa, .inl (cJ, 30, .inr (.inl pa))), (qsk, .inl (cJ, 30, .inr (.inl sk))), (qkp, .inl (cJ, 92, .inr (.inl (k_kl pr pa sk kp (i + 1)))))] H := by first | exact hP | simpa only [] using hP
    have hD : va_D A [(mm, .inr (5, [.int (nI ly), .int (nI ce), .ref qlo, .ref qlk, .ref qhd, .ref qsf, .ref qpr, .ref qpa, .ref qsk, .long co, .long wo, .int (nI dy), .int da, .int db, .int dr, .int (nI mn), .ref qld, .ref qlz, .int (nI rn), .ref qrd, .ref qrv, .ref qhi, .ref qfw, .ref qkp])), (qpr, .inl (cJ, 30, .inr (.inl pr))), (qpa, .inl (cJ, 30, .inr (.inl pa))), (qsk, .inl (cJ, 30, .inr (.inl sk))), (qkp, .inl (cJ, 92, .inr (.inl (k_kl pr pa sk kp (i + 1)))))] := by first | exact hD | simpa only [] using hD
    exact ih2 (by omega) _ _ _ ⟨hP, hD, hS, lv_sub hl [1, 0] rfl⟩
set_option maxHeartbeats 4000000 in
set_option maxRecDepth 100000 in
theorem kM_putBack (l : Launch) (dC : Nat → ClassId) (dI : Nat → Nat → Nat) (cI cJ : ClassId) (mm qlo qlk qhd qsf qpr qpa qsk qld qlz qrd qrv qhi qfw qkp : Nat) (sz : Nat) (ly : Nat) (ce : Nat) (co : Int64) (wo : Int64) (dy : Nat) (da : Int32) (db : Int32) (dr : Int32) (mn : Nat) (rn : Nat) (pr : Nat → Int64) (pa : Nat → Int64) (sk : Nat → Int64) (kp : Nat → Int64) (opr : Nat → Int64) (opa : Nat → Int64) (osk : Nat → Int64) (oco : Int64) (owo : Int64) (hk1 : ∀ j, j < 30 → kp j = opr j) (hk2 : ∀ j, j < 30 → kp (30 + j) = opa j) (hk3 : ∀ j, j < 30 → kp (60 + j) = osk j) (hk4 : kp 90 = oco) (hk5 : kp 91 = owo) : Met l yM_putBack wM_putBack ({ frames := 0, cells := 0, slots := 0, locals := 0 }) (va_Pc [.ref mm] (fun U => U.heap.size = sz ∧ va_P (dC, dI) vwCl [(mm, .inr (5, [.int (nI ly), .int (nI ce), .ref qlo, .ref qlk, .ref qhd, .ref qsf, .ref qpr, .ref qpa, .ref qsk, .long co, .long wo, .int (nI dy), .int da, .int db, .int dr, .int (nI mn), .ref qld, .ref qlz, .int (nI rn), .ref qrd, .ref qrv, .ref qhi, .ref qfw, .ref qkp])), (qpr, .inl (cJ, 30, .inr (.inl pr))), (qpa, .inl (cJ, 30, .inr (.inl pa))), (qsk, .inl (cJ, 30, .inr (.inl sk))), (qkp, .inl (cJ, 92, .inr (.inl kp)))] U.heap ∧ va_K (dC, dI) vwCl [(cI, .int), (cJ, .long)] U ∧ va_D (fun _ => True) [(mm, .inr (5, [.int (nI ly), .int (nI ce), .ref qlo, .ref qlk, .ref qhd, .ref qsf, .ref qpr, .ref qpa, .ref qsk, .long co, .long wo, .int (nI dy), .int da, .int db, .int dr, .int (nI mn), .ref qld, .ref qlz, .int (nI rn), .ref qrd, .ref qrv, .ref qhi, .ref qfw, .ref qkp])), (qpr, .inl (cJ, 30, .inr (.inl pr))), (qpa, .inl (cJ, 30, .inr (.inl pa))), (qsk, .inl (cJ, 30, .inr (.inl sk))), (qkp, .inl (cJ, 92, .inr (.inl kp)))])) (va_Qv (fun (_ : Unit) => True) (fun _ t => va_P (dC, dI) vwCl [(mm, .inr (5, [.int (nI ly), .int (nI ce), .ref qlo, .ref qlk, .ref qhd, .ref qsf, .ref qpr, .ref qpa, .ref qsk, .long oco, .long owo, .int (nI dy), .int da, .int db, .int dr, .int (nI mn), .ref qld, .ref qlz, .int (nI rn), .ref qrd, .ref qrv, .ref qhi, .ref qfw, .ref qkp])), (qpr, .inl (cJ, 30, .inr (.inl opr))), (qpa, .inl (cJ, 30, .inr (.inl opa))), (qsk, .inl (cJ, 30, .inr (.inl osk))), (qkp, .inl (cJ, 92, .inr (.inl kp)))] t.heap ∧ va_K (dC, dI) vwCl [(cI, .int), (cJ, .long)] t ∧ va_D (va_A [(mm, .inr (5, [.int (nI ly), .int (nI ce), .ref qlo, .ref qlk, .ref qhd, .ref qsf, .ref qpr, .ref qpa, .ref qsk, .long co, .long wo, .int (nI dy), .int da, .int db, .int dr, .int (nI mn), .ref qld, .ref qlz, .int (nI rn), .ref qrd, .ref qrv, .ref qhi, .ref qfw, .ref qkp])), (qpr, .inl (cJ, 30, .inr (.inl pr))), (qpa, .inl (cJ, 30, .inr (.inl pa))), (qsk, .inl (cJ, 30, .inr (.inl sk))), (qkp, .inl (cJ, 92, .inr (.inl kp)))] sz) [(mm, .inr (5, [.int (nI ly), .int (nI ce), .ref qlo, .ref qlk, .ref qhd, .ref qsf, .ref qpr, .ref qpa, .ref qsk, .long oco, .long owo, .int (nI dy), .int da, .int db, .int dr, .int (nI mn), .ref qld, .ref qlz, .int (nI rn), .ref qrd, .ref qrv, .ref qhi, .ref qfw, .ref qkp])), (qpr, .inl (cJ, 30, .inr (.inl opr))), (qpa, .inl (cJ, 30, .inr (.inl opa))), (qsk, .inl (cJ, 30, .inr (.inl osk))), (qkp, .inl (cJ, 92, .inr (.inl kp)))]) (va_A [(mm, .inr (5, [.int (nI ly), .int (nI ce), .ref qlo, .ref qlk, .ref qhd, .ref qsf, .ref qpr, .ref qpa, .ref qsk, .long co, .long wo, .int (nI dy), .int da, .int db, .int dr, .int (nI mn), .ref qld, .ref qlz, .int (nI rn), .ref qrd, .ref qrv, .ref qhi, .ref qfw, .ref qkp])), (qpr, .inl (cJ, 30, .inr (.inl pr))), (qpa, .inl (cJ, 30, .inr (.inl pa))), (qsk, .inl (cJ, 30, .inr (.inl sk))), (qkp, .inl (cJ, 92, .inr (.inl kp)))] sz)) 0 0 (va_A [(mm, .inr (5, [.int (nI ly), .int (nI ce), .ref qlo, .ref qlk, .ref qhd, .ref qsf, .ref qpr, .ref qpa, .ref qsk, .long co, .long wo, .int (nI dy), .int da, .int db, .int dr, .int (nI mn), .ref qld, .ref qlz, .int (nI rn), .ref qrd, .ref qrv, .ref qhi, .ref qfw, .ref qkp])), (qpr, .inl (cJ, 30, .inr (.inl pr))), (qpa, .inl (cJ, 30, .inr (.inl pa))), (qsk, .inl (cJ, 30, .inr (.inl sk))), (qkp, .inl (cJ, 92, .inr (.inl kp)))] sz) := by
  refine Met.ofW (cc := bM_putBack) (maxL := 2) (ret := none) (by decide) rfl ?_
  intro p e s m args below meth c s₁ B hml hv
  obtain ⟨rfl, hsz, hP, hK, hD0⟩ := hv
  have hx := B.exec
  have hb := B.bytes
  have hr := B.returns
  have hts := atoms_spec (ws := wM_putBack) B.pre
  have hown : s.vm.findClass R_M = some m.cls := findClass_of_methodNamed B.named
  have htw : ∀ w ∈ WA, w.before _ s = true := fun w h => hts w (List.mem_cons_of_mem _ h)
  clear hts
  have hlocks := B.notSynchronized
  subst hsz
  have hD := hD0.self (sz := s.heap.size)
  generalize hAe : va_A [(mm, .inr (5, [.int (nI ly), .int (nI ce), .ref qlo, .ref qlk, .ref qhd, .ref qsf, .ref qpr, .ref qpa, .ref qsk, .long co, .long wo, .int (nI dy), .int da, .int db, .int dr, .int (nI mn), .ref qld, .ref qlz, .int (nI rn), .ref qrd, .ref qrv, .ref qhi, .ref qfw, .ref qkp])), (qpr, .inl (cJ, 30, .inr (.inl pr))), (qpa, .inl (cJ, 30, .inr (.inl pa))), (qsk, .inl (cJ, 30, .inr (.inl sk))), (qkp, .inl (cJ, 92, .inr (.inl kp)))] s.heap.size = A at hD ⊢
  have hA : ∀ q : Nat, s.heap.size ≤ q → A q := fun q h => by rw [← hAe]; exact Or.inr h
  clear hAe hD0
  have hS : va_S A s.heap s.heap [] := va_S.rf
  have hP : va_P (dC, dI) vwCl [(mm, .inr (5, [.int (nI ly), .int (nI ce), .ref qlo, .ref qlk, .ref qhd, .ref qsf, .ref qpr, .ref qpa, .ref qsk, .long co, .long wo, .int (nI dy), .int da, .int db, .int dr, .int (nI mn), .ref qld, .ref qlz, .int (nI rn), .ref qrd, .ref qrv, .ref qhi, .ref qfw, .ref qkp])), (qpr, .inl (cJ, 30, .inr (.inl pr))), (qpa, .inl (cJ, 30, .inr (.inl pa))), (qsk, .inl (cJ, 30, .inr (.inl sk))), (qkp, .inl (cJ, 92, .inr (.inl kp)))] s.heap := hP
  have hl := lv_entry ([.ref mm]) (n := 2) (Nat.le_of_ble_eq_true rfl)
  rw [lg_entry_eq]
  generalize (lg_sl ([.ref mm]) ++ List.replicate (2 - (lg_sl ([.ref mm])).length) Slot.unset).toArray = ls at hl ⊢
  have hl : lv_has ls 2 [(0, .ref mm)] := hl
  refine lv_iconst (v := nI 0) hx hb dM_putBack_0 (by decide) ?_
  refine lv_istore_n (lv' := [(1, .int (nI 0)), (0, .ref mm)]) hx hb dM_putBack_1 rfl hl (by decide) rfl (fun ls hl => ?_)
  -- the loop at 2
  have eq1 : (pr : Nat → Int64) = k_cp opr pr 0 := k_cp_0
  have hP := Eq.mp (congrArg (fun zz => va_P (dC, dI) vwCl [(mm, .inr (5, [.int (nI ly), .int (nI ce), .ref qlo, .ref qlk, .ref qhd, .ref qsf, .ref qpr, .ref qpa, .ref qsk, .long co, .long wo, .int (nI dy), .int da, .int db, .int dr, .int (nI mn), .ref qld, .ref qlz, .int (nI rn), .ref qrd, .ref qrv, .ref qhi, .ref qfw, .ref qkp])), (qpr, .inl (cJ, 30, .inr (.inl zz))), (qpa, .inl (cJ, 30, .inr (.inl pa))), (qsk, .inl (cJ, 30, .inr (.inl sk))), (qkp, .inl (cJ, 92, .inr (.inl kp)))] s.heap) eq1) hP
  have hD := Eq.mp (congrArg (fun zz => va_D A [(mm, .inr (5, [.int (nI ly), .int (nI ce), .ref qlo, .ref qlk, .ref qhd, .ref qsf, .ref qpr, .ref qpa, .ref qsk, .long co, .long wo, .int (nI dy), .int da, .int db, .int dr, .int (nI mn), .ref qld, .ref qlz, .int (nI rn), .ref qrd, .ref qrv, .ref qhi, .ref qfw, .ref qkp])), (qpr, .inl (cJ, 30, .inr (.inl zz))), (qpa, .inl (cJ, 30, .inr (.inl pa))), (qsk, .inl (cJ, 30, .inr (.inl sk))), (qkp, .inl (cJ, 92, .inr (.inl kp)))]) eq1) hD
  have eq2 : (pa : Nat → Int64) = k_cp opa pa 0 := k_cp_0
  have hP := Eq.mp (congrArg (fun zz => va_P (dC, dI) vwCl [(mm, .inr (5, [.int (nI ly), .int (nI ce), .ref qlo, .ref qlk, .ref qhd, .ref qsf, .ref qpr, .ref qpa, .ref qsk, .long co, .long wo, .int (nI dy), .int da, .int db, .int dr, .int (nI mn), .ref qld, .ref qlz, .int (nI rn), .ref qrd, .ref qrv, .ref qhi, .ref qfw, .ref qkp])), (qpr, .inl (cJ, 30, .inr (.inl (k_cp opr pr 0)))), (qpa, .inl (cJ, 30, .inr (.inl zz))), (qsk, .inl (cJ, 30, .inr (.inl sk))), (qkp, .inl (cJ, 92, .inr (.inl kp)))] s.heap) eq2) hP
  have hD := Eq.mp (congrArg (fun zz => va_D A [(mm, .inr (5, [.int (nI ly), .int (nI ce), .ref qlo, .ref qlk, .ref qhd, .ref qsf, .ref qpr, .ref qpa, .ref qsk, .long co, .long wo, .int (nI dy), .int da, .int db, .int dr, .int (nI mn), .ref qld, .ref qlz, .int (nI rn), .ref qrd, .ref qrv, .ref qhi, .ref qfw, .ref qkp])), (qpr, .inl (cJ, 30, .inr (.inl (k_cp opr pr 0)))), (qpa, .inl (cJ, 30, .inr (.inl zz))), (qsk, .inl (cJ, 30, .inr (.inl sk))), (qkp, .inl (cJ, 92, .inr (.inl kp)))]) eq2) hD
  have eq3 : (sk : Nat → Int64) = k_cp osk sk 0 := k_cp_0
  have hP := Eq.mp (congrArg (fun zz => va_P (dC, dI) vwCl [(mm, .inr (5, [.int (nI ly), .int (nI ce), .ref qlo, .ref qlk, .ref qhd, .ref qsf, .ref qpr, .ref qpa, .ref qsk, .long co, .long wo, .int (nI dy), .int da, .int db, .int dr, .int (nI mn), .ref qld, .ref qlz, .int (nI rn), .ref qrd, .ref qrv, .ref qhi, .ref qfw, .ref qkp])), (qpr, .inl (cJ, 30, .inr (.inl (k_cp opr pr 0)))), (qpa, .inl (cJ, 30, .inr (.inl (k_cp opa pa 0)))), (qsk, .inl (cJ, 30, .inr (.inl zz))), (qkp, .inl (cJ, 92, .inr (.inl kp)))] s.heap) eq3) hP
  have hD := Eq.mp (congrArg (fun zz => va_D A [(mm, .inr (5, [.int (nI ly), .int (nI ce), .ref qlo, .ref qlk, .ref qhd, .ref qsf, .ref qpr, .ref qpa, .ref qsk, .long co, .long wo, .int (nI dy), .int da, .int db, .int dr, .int (nI mn), .ref qld, .ref qlz, .int (nI rn), .ref qrd, .ref qrv, .ref qhi, .ref qfw, .ref qkp])), (qpr, .inl (cJ, 30, .inr (.inl (k_cp opr pr 0)))), (qpa, .inl (cJ, 30, .inr (.inl (k_cp opa pa 0)))), (qsk, .inl (cJ, 30, .inr (.inl zz))), (qkp, .inl (cJ, 92, .inr (.inl kp)))]) eq3) hD
  have hP : va_P (dC, dI) vwCl [(mm, .inr (5, [.int (nI ly), .int (nI ce), .ref qlo, .ref qlk, .ref qhd, .ref qsf, .ref qpr, .ref qpa, .ref qsk, .long co, .long wo, .int (nI dy), .int da, .int db, .int dr, .int (nI mn), .ref qld, .ref qlz, .int (nI rn), .ref qrd, .ref qrv, .ref qhi, .ref qfw, .ref qkp])), (qpr, .inl (cJ, 30, .inr (.inl (k_cp opr pr 0)))), (qpa, .inl (cJ, 30, .inr (.inl (k_cp opa pa 0)))), (qsk, .inl (cJ, 30, .inr (.inl (k_cp osk sk 0)))), (qkp, .inl (cJ, 92, .inr (.inl kp)))] s.heap := by first | exact hP | simpa only [] using hP
  have hD : va_D A [(mm, .inr (5, [.int (nI ly), .int (nI ce), .ref qlo, .ref qlk, .ref qhd, .ref qsf, .ref qpr, .ref qpa, .ref qsk, .long co, .long wo, .int (nI dy), .int da, .int db, .int dr, .int (nI mn), .ref qld, .ref qlz, .int (nI rn), .ref qrd, .ref qrv, .ref qhi, .ref qfw, .ref qkp])), (qpr, .inl (cJ, 30, .inr (.inl (k_cp opr pr 0)))), (qpa, .inl (cJ, 30, .inr (.inl (k_cp opa pa 0)))), (qsk, .inl (cJ, 30, .inr (.inl (k_cp osk sk 0)))), (qkp, .inl (cJ, 92, .inr (.inl kp)))] := by first | exact hD | simpa only [] using hD
  refine x_loop (N := 30) (I := fun i H locs ls => va_P (dC, dI) vwCl [(mm, .inr (5, [.int (nI ly), .int (nI ce), .ref qlo, .ref qlk, .ref qhd, .ref qsf, .ref qpr, .ref qpa, .ref qsk, .long co, .long wo, .int (nI dy), .int da, .int db, .int dr, .int (nI mn), .ref qld, .ref qlz, .int (nI rn), .ref qrd, .ref qrv, .ref qhi, .ref qfw, .ref qkp])), (qpr, .inl (cJ, 30, .inr (.inl (k_cp opr pr i)))), (qpa, .inl (cJ, 30, .inr (.inl (k_cp opa pa i)))), (qsk, .inl (cJ, 30, .inr (.inl (k_cp osk sk i)))), (qkp, .inl (cJ, 92, .inr (.inl kp)))] H ∧ va_D A [(mm, .inr (5, [.int (nI ly), .int (nI ce), .ref qlo, .ref qlk, .ref qhd, .ref qsf, .ref qpr, .ref qpa, .ref qsk, .long co, .long wo, .int (nI dy), .int da, .int db, .int dr, .int (nI mn), .ref qld, .ref qlz, .int (nI rn), .ref qrd, .ref qrv, .ref qhi, .ref qfw, .ref qkp])), (qpr, .inl (cJ, 30, .inr (.inl (k_cp opr pr i)))), (qpa, .inl (cJ, 30, .inr (.inl (k_cp opa pa i)))), (qsk, .inl (cJ, 30, .inr (.inl (k_cp osk sk i)))), (qkp, .inl (cJ, 92, .inr (.inl kp)))] ∧ va_S A s.heap H locs ∧ lv_has ls 2 [(0, .ref mm), (1, .int (nI i))]) (i0 := 0) ?_ (Nat.zero_le _) ⟨hP, hD, hS, lv_sub hl [1, 0] rfl⟩
  intro i hi ih2 H locs ls hI
  obtain ⟨hP, hD, hS, hl⟩ := hI
  refine lv_iload_n hx hb dM_putBack_2 rfl (lv_at hl 1 rfl) ?_
  refine lv_bipush (v := nI 30) hx hb dM_putBack_3 (by decide) ?_
  refine lv_icmp_ge (tgt := 56) hx hb dM_putBack_5 (by decide) (fun hc5 => ?_) (fun hc5 => ?_)
  · -- 5 taken
    rw [nI_leI (by omega) (by omega)] at hc5
    obtain rfl : i = 30 := by omega
    obtain ⟨hP, hD⟩ := x_setL (q0 := 1) (g := opr) hP hD rfl (fun j hj => if_pos hj)
    have hP : va_P (dC, dI) vwCl [(mm, .inr (5, [.int (nI ly), .int (nI ce), .ref qlo, .ref qlk, .ref qhd, .ref qsf, .ref qpr, .ref qpa, .ref qsk, .long co, .long wo, .int (nI dy), .int da, .int db, .int dr, .int (nI mn), .ref qld, .ref qlz, .int (nI rn), .ref qrd, .ref qrv, .ref qhi, .ref qfw, .ref qkp])), (qpr, .inl (cJ, 30, .inr (.inl opr))), (qpa, .inl (cJ, 30, .inr (.inl (k_cp opa pa 30)))), (qsk, .inl (cJ, 30, .inr (.inl (k_cp osk sk 30)))), (qkp, .inl (cJ, 92, .inr (.inl kp)))] H := hP
    have hD : va_D A [(mm, .inr (5, [.int (nI ly), .int (nI ce), .ref qlo, .ref qlk, .ref qhd, .ref qsf, .ref qpr, .ref qpa, .ref qsk, .long co, .long wo, .int (nI dy), .int da, .int db, .int dr, .int (nI mn), .ref qld, .ref qlz, .int (nI rn), .ref qrd, .ref qrv, .ref qhi, .ref qfw, .ref qkp])), (qpr, .inl (cJ, 30, .inr (.inl opr))), (qpa, .inl (cJ, 30, .inr (.inl (k_cp opa pa 30)))), (qsk, .inl (cJ, 30, .inr (.inl (k_cp osk sk 30)))), (qkp, .inl (cJ, 92, .inr (.inl kp)))] := hD
    obtain ⟨hP, hD⟩ := x_setL (q0 := 2) (g := opa) hP hD rfl (fun j hj => if_pos hj)
    have hP : va_P (dC, dI) vwCl [(mm, .inr (5, [.int (nI ly), .int (nI ce), .ref qlo, .ref qlk, .ref qhd, .ref qsf, .ref qpr, .ref qpa, .ref qsk, .long co, .long wo, .int (nI dy), .int da, .int db, .int dr, .int (nI mn), .ref qld, .ref qlz, .int (nI rn), .ref qrd, .ref qrv, .ref qhi, .ref qfw, .ref qkp])), (qpr, .inl (cJ, 30, .inr (.inl opr))), (qpa, .inl (cJ, 30, .inr (.inl opa))), (qsk, .inl (cJ, 30, .inr (.inl (k_cp osk sk 30)))), (qkp, .inl (cJ, 92, .inr (.inl kp)))] H := hP
    have hD : va_D A [(mm, .inr (5, [.int (nI ly), .int (nI ce), .ref qlo, .ref qlk, .ref qhd, .ref qsf, .ref qpr, .ref qpa, .ref qsk, .long co, .long wo, .int (nI dy), .int da, .int db, .int dr, .int (nI mn), .ref qld, .ref qlz, .int (nI rn), .ref qrd, .ref qrv, .ref qhi, .ref qfw, .ref qkp])), (qpr, .inl (cJ, 30, .inr (.inl opr))), (qpa, .inl (cJ, 30, .inr (.inl opa))), (qsk, .inl (cJ, 30, .inr (.inl (k_cp osk sk 30)))), (qkp, .inl (cJ, 92, .inr (.inl kp)))] := hD
    obtain ⟨hP, hD⟩ := x_setL (q0 := 3) (g := osk) hP hD rfl (fun j hj => if_pos hj)
    have hP : va_P (dC, dI) vwCl [(mm, .inr (5, [.int (nI ly), .int (nI ce), .ref qlo, .ref qlk, .ref qhd, .ref qsf, .ref qpr, .ref qpa, .ref qsk, .long co, .long wo, .int (nI dy), .int da, .int db, .int dr, .int (nI mn), .ref qld, .ref qlz, .int (nI rn), .ref qrd, .ref qrv, .ref qhi, .ref qfw, .ref qkp])), (qpr, .inl (cJ, 30, .inr (.inl opr))), (qpa, .inl (cJ, 30, .inr (.inl opa))), (qsk, .inl (cJ, 30, .inr (.inl osk))), (qkp, .inl (cJ, 92, .inr (.inl kp)))] H := hP
    have hD : va_D A [(mm, .inr (5, [.int (nI ly), .int (nI ce), .ref qlo, .ref qlk, .ref qhd, .ref qsf, .ref qpr, .ref qpa, .ref qsk, .long co, .long wo, .int (nI dy), .int da, .int db, .int dr, .int (nI mn), .ref qld, .ref qlz, .int (nI rn), .ref qrd, .ref qrv, .ref qhi, .ref qfw, .ref qkp])), (qpr, .inl (cJ, 30, .inr (.inl opr))), (qpa, .inl (cJ, 30, .inr (.inl opa))), (qsk, .inl (cJ, 30, .inr (.inl osk))), (qkp, .inl (cJ, 92, .inr (.inl kp)))] := hD
    refine lv_aload_n hx hb dM_putBack_56 rfl (lv_at hl 0 rfl) ?_
    refine lv_aload_n hx hb dM_putBack_57 rfl (lv_at hl 0 rfl) ?_
    refine va_get (D := (dC, dI)) (ci := 5) (v := .ref qkp) (C := R_M) (T := T_M) (N := 24) hx hb htw in_M hown hK hP 0 rfl rfl 23 (by decide) (htw _ m_380) (fun _ h9 => h9) rfl dM_putBack_58 ?_
    refine lv_bipush (v := nI 90) hx hb dM_putBack_61 (by decide) ?_
    refine xa_lald hx hb hK hP 4 1 rfl rfl (i := 90) (by omega) (by decide) dM_putBack_63 ?_
    refine lv_topl (fun kv ekv => ?_)
    obtain rfl : oco = kv := (ekv.trans (hk4)).symm
    refine va_put (D := (dC, dI)) (ci := 5) (v := .long oco) (ty := .long) (C := R_M) (T := T_M) (N := 24) hx hb htw in_M ty_M tok_M nnm_M hown hK hP hD hS 0 rfl rfl 9 (by decide) (htw _ m_366) (fun _ h9 => h9) rfl (by decide +kernel) rfl rfl (Nat.le_of_ble_eq_true rfl) dM_putBack_64 (fun H locs hP hD hS => ?_)
    have hP : va_P (dC, dI) vwCl [(mm, .inr (5, [.int (nI ly), .int (nI ce), .ref qlo, .ref qlk, .ref qhd, .ref qsf, .ref qpr, .ref qpa, .ref qsk, .long oco, .long wo, .int (nI dy), .int da, .int db, .int dr, .int (nI mn), .ref qld, .ref qlz, .int (nI rn), .ref qrd, .ref qrv, .ref qhi, .ref qfw, .ref qkp])), (qpr, .inl (cJ, 30, .inr (.inl opr))), (qpa, .inl (cJ, 30, .inr (.inl opa))), (qsk, .inl (cJ, 30, .inr (.inl osk))), (qkp, .inl (cJ, 92, .inr (.inl kp)))] H := hP
    have hD : va_D A [(mm, .inr (5, [.int (nI ly), .int (nI ce), .ref qlo, .ref qlk, .ref qhd, .ref qsf, .ref qpr, .ref qpa, .ref qsk, .long oco, .long wo, .int (nI dy), .int da, .int db, .int dr, .int (nI mn), .ref qld, .ref qlz, .int (nI rn), .ref qrd, .ref qrv, .ref qhi, .ref qfw, .ref qkp])), (qpr, .inl (cJ, 30, .inr (.inl opr))), (qpa, .inl (cJ, 30, .inr (.inl opa))), (qsk, .inl (cJ, 30, .inr (.inl osk))), (qkp, .inl (cJ, 92, .inr (.inl kp)))] := hD
    refine lv_aload_n hx hb dM_putBack_67 rfl (lv_at hl 0 rfl) ?_
    refine lv_aload_n hx hb dM_putBack_68 rfl (lv_at hl 0 rfl) ?_
    refine va_get (D := (dC, dI)) (ci := 5) (v := .ref qkp) (C := R_M) (T := T_M) (N := 24) hx hb htw in_M hown hK hP 0 rfl rfl 23 (by decide) (htw _ m_380) (fun _ h9 => h9) rfl dM_putBack_69 ?_
    refine lv_bipush (v := nI 91) hx hb dM_putBack_72 (by decide) ?_
    refine xa_lald hx hb hK hP 4 1 rfl rfl (i := 91) (by omega) (by decide) dM_putBack_74 ?_
    refine lv_topl (fun kv ekv => ?_)
    obtain rfl : owo = kv := (ekv.trans (hk5)).symm
    refine va_put (D := (dC, dI)) (ci := 5) (v := .long owo) (ty := .long) (C := R_M) (T := T_M) (N := 24) hx hb htw in_M ty_M tok_M nnm_M hown hK hP hD hS 0 rfl rfl 10 (by decide) (htw _ m_367) (fun _ h9 => h9) rfl (by decide +kernel) rfl rfl (Nat.le_of_ble_eq_true rfl) dM_putBack_75 (fun H locs hP hD hS => ?_)
    have hP : va_P (dC, dI) vwCl [(mm, .inr (5, [.int (nI ly), .int (nI ce), .ref qlo, .ref qlk, .ref qhd, .ref qsf, .ref qpr, .ref qpa, .ref qsk, .long oco, .long owo, .int (nI dy), .int da, .int db, .int dr, .int (nI mn), .ref qld, .ref qlz, .int (nI rn), .ref qrd, .ref qrv, .ref qhi, .ref qfw, .ref qkp])), (qpr, .inl (cJ, 30, .inr (.inl opr))), (qpa, .inl (cJ, 30, .inr (.inl opa))), (qsk, .inl (cJ, 30, .inr (.inl osk))), (qkp, .inl (cJ, 92, .inr (.inl kp)))] H := hP
    have hD : va_D A [(mm, .inr (5, [.int (nI ly), .int (nI ce), .ref qlo, .ref qlk, .ref qhd, .ref qsf, .ref qpr, .ref qpa, .ref qsk, .long oco, .long owo, .int (nI dy), .int da, .int db, .int dr, .int (nI mn), .ref qld, .ref qlz, .int (nI rn), .ref qrd, .ref qrv, .ref qhi, .ref qfw, .ref qkp])), (qpr, .inl (cJ, 30, .inr (.inl opr))), (qpa, .inl (cJ, 30, .inr (.inl opa))), (qsk, .inl (cJ, 30, .inr (.inl osk))), (qkp, .inl (cJ, 92, .inr (.inl kp)))] := hD
    have hP : va_P (dC, dI) vwCl [(mm, .inr (5, [.int (nI ly), .int (nI ce), .ref qlo, .ref qlk, .ref qhd, .ref qsf, .ref qpr, .ref qpa, .ref qsk, .long oco, .long owo, .int (nI dy), .int da, .int db, .int dr, .int (nI mn), .ref qld, .ref qlz, .int (nI rn), .ref qrd, .ref qrv, .ref qhi, .ref qfw, .ref qkp])), (qpr, .inl (cJ, 30, .inr (.inl opr))), (qpa, .inl (cJ, 30, .inr (.inl opa))), (qsk, .inl (cJ, 30, .inr (.inl osk))), (qkp, .inl (cJ, 92, .inr (.inl kp)))] H := by first | exact hP | simpa only [] using hP
    have hD : va_D A [(mm, .inr (5, [.int (nI ly), .int (nI ce), .ref qlo, .ref qlk, .ref qhd, .ref qsf, .ref qpr, .ref qpa, .ref qsk, .long oco, .long owo, .int (nI dy), .int da, .int db, .int dr, .int (nI mn), .ref qld, .ref qlz, .int (nI rn), .ref qrd, .ref qrv, .ref qhi, .ref qfw, .ref qkp])), (qpr, .inl (cJ, 30, .inr (.inl opr))), (qpa, .inl (cJ, 30, .inr (.inl opa))), (qsk, .inl (cJ, 30, .inr (.inl osk))), (qkp, .inl (cJ, 92, .inr (.inl kp)))] := by first | exact hD | simpa only [] using hD
    exact W.vret hx hb hr (fun t ht hW => ⟨⟨(), rfl, trivial, by rw [ht]; exact hP, va_K.moved hW.alike hK, hD⟩, hS.F ht⟩) hS.2.2 dM_putBack_78
  · -- 5 not taken
    rw [nI_leI (by omega) (by omega)] at hc5
    refine lv_aload_n hx hb dM_putBack_8 rfl (lv_at hl 0 rfl) ?_
    refine va_get (D := (dC, dI)) (ci := 5) (v := .ref qpr) (C := R_M) (T := T_M) (N := 24) hx hb htw in_M hown hK hP 0 rfl rfl 6 (by decide) (htw _ m_363) (fun _ h9 => h9) rfl dM_putBack_9 ?_
    refine lv_iload_n hx hb dM_putBack_12 rfl (lv_at hl 1 rfl) ?_
    refine lv_aload_n hx hb dM_putBack_13 rfl (lv_at hl 0 rfl) ?_
    refine va_get (D := (dC, dI)) (ci := 5) (v := .ref qkp) (C := R_M) (T := T_M) (N := 24) hx hb htw in_M hown hK hP 0 rfl rfl 23 (by decide) (htw _ m_380) (fun _ h9 => h9) rfl dM_putBack_14 ?_
    refine lv_iload_n hx hb dM_putBack_17 rfl (lv_at hl 1 rfl) ?_
    refine xa_lald hx hb hK hP 4 1 rfl rfl (i := i) (by omega) (by decide) dM_putBack_18 ?_
    refine lv_topl (fun kv ekv => ?_)
    obtain rfl : opr i = kv := (ekv.trans (hk1 i (by omega))).symm
    refine xa_last hx hb hK hP hD hS 1 1 rfl rfl (i := i) (by omega) (by decide) dM_putBack_19 (fun H locs hP hD hS => ?_)
    have hP : va_P (dC, dI) vwCl [(mm, .inr (5, [.int (nI ly), .int (nI ce), .ref qlo, .ref qlk, .ref qhd, .ref qsf, .ref qpr, .ref qpa, .ref qsk, .long co, .long wo, .int (nI dy), .int da, .int db, .int dr, .int (nI mn), .ref qld, .ref qlz, .int (nI rn), .ref qrd, .ref qrv, .ref qhi, .ref qfw, .ref qkp])), (qpr, .inl (cJ, 30, .inr (.inl (vp_updL (k_cp opr pr i) i (opr i))))), (qpa, .inl (cJ, 30, .inr (.inl (k_cp opa pa i)))), (qsk, .inl (cJ, 30, .inr (.inl (k_cp osk sk i)))), (qkp, .inl (cJ, 92, .inr (.inl kp)))] H := hP
    have hD : va_D A [(mm, .inr (5, [.int (nI ly), .int (nI ce), .ref qlo, .ref qlk, .ref qhd, .ref qsf, .ref qpr, .ref qpa, .ref qsk, .long co, .long wo, .int (nI dy), .int da, .int db, .int dr, .int (nI mn), .ref qld, .ref qlz, .int (nI rn), .ref qrd, .ref qrv, .ref qhi, .ref qfw, .ref qkp])), (qpr, .inl (cJ, 30, .inr (.inl (vp_updL (k_cp opr pr i) i (opr i))))), (qpa, .inl (cJ, 30, .inr (.inl (k_cp opa pa i)))), (qsk, .inl (cJ, 30, .inr (.inl (k_cp osk sk i)))), (qkp, .inl (cJ, 92, .inr (.inl kp)))] := hD
    refine lv_aload_n hx hb dM_putBack_20 rfl (lv_at hl 0 rfl) ?_
    refine va_get (D := (dC, dI)) (ci := 5) (v := .ref qpa) (C := R_M) (T := T_M) (N := 24) hx hb htw in_M hown hK hP 0 rfl rfl 7 (by decide) (htw _ m_364) (fun _ h9 => h9) rfl dM_putBack_21 ?_
    refine lv_iload_n hx hb dM_putBack_24 rfl (lv_at hl 1 rfl) ?_
    refine lv_aload_n hx hb dM_putBack_25 rfl (lv_at hl 0 rfl) ?_
    refine va_get (D := (dC, dI)) (ci := 5) (v := .ref qkp) (C := R_M) (T := T_M) (N := 24) hx hb htw in_M hown hK hP 0 rfl rfl 23 (by decide) (htw _ m_380) (fun _ h9 => h9) rfl dM_putBack_26 ?_
    refine lv_bipush (v := nI 30) hx hb dM_putBack_29 (by decide) ?_
    refine lv_iload_n hx hb dM_putBack_31 rfl (lv_at hl 1 rfl) ?_
    refine lv_iadd hx hb dM_putBack_32 ?_
    refine lv_topi (fun kv ekv => ?_)
    obtain rfl : kv = nI (30 + i) := by rw [ekv]; exact nI_add _ _
    refine xa_lald hx hb hK hP 4 1 rfl rfl (i := (30 + i)) (by omega) (by decide) dM_putBack_33 ?_
    refine lv_topl (fun kv ekv => ?_)
    obtain rfl : opa i = kv := (ekv.trans (hk2 i (by omega))).symm
    refine xa_last hx hb hK hP hD hS 2 1 rfl rfl (i := i) (by omega) (by decide) dM_putBack_34 (fun H locs hP hD hS => ?_)
    have hP : va_P (dC, dI) vwCl [(mm, .inr (5, [.int (nI ly), .int (nI ce), .ref qlo, .ref qlk, .ref qhd, .ref qsf, .ref qpr, .ref qpa, .ref qsk, .long co, .long wo, .int (nI dy), .int da, .int db, .int dr, .int (nI mn), .ref qld, .ref qlz, .int (nI rn), .ref qrd, .ref qrv, .ref qhi, .ref qfw, .ref qkp])), (qpr, .inl (cJ, 30, .inr (.inl (vp_updL (k_cp opr pr i) i (opr i))))), (qpa, .inl (cJ, 30, .inr (.inl (vp_updL (k_cp opa pa i) i (opa i))))), (qsk, .inl (cJ, 30, .inr (.inl (k_cp osk sk i)))), (qkp, .inl (cJ, 92, .inr (.inl kp)))] H := hP
    have hD : va_D A [(mm, .inr (5, [.int (nI ly), .int (nI ce), .ref qlo, .ref qlk, .ref qhd, .ref qsf, .ref qpr, .ref qpa, .ref qsk, .long co, .long wo, .int (nI dy), .int da, .int db, .int dr, .int (nI mn), .ref qld, .ref qlz, .int (nI rn), .ref qrd, .ref qrv, .ref qhi, .ref qfw, .ref qkp])), (qpr, .inl (cJ, 30, .inr (.inl (vp_updL (k_cp opr pr i) i (opr i))))), (qpa, .inl (cJ, 30, .inr (.inl (vp_updL (k_cp opa pa i) i (opa i))))), (qsk, .inl (cJ, 30, .inr (.inl (k_cp osk sk i)))), (qkp, .inl (cJ, 92, .inr (.inl kp)))] := hD
    refine lv_aload_n hx hb dM_putBack_35 rfl (lv_at hl 0 rfl) ?_
    refine va_get (D := (dC, dI)) (ci := 5) (v := .ref qsk) (C := R_M) (T := T_M) (N := 24) hx hb htw in_M hown hK hP 0 rfl rfl 8 (by decide) (htw _ m_365) (fun _ h9 => h9) rfl dM_putBack_36 ?_
    refine lv_iload_n hx hb dM_putBack_39 rfl (lv_at hl 1 rfl) ?_
    refine lv_aload_n hx hb dM_putBack_40 rfl (lv_at hl 0 rfl) ?_
    refine va_get (D := (dC, dI)) (ci := 5) (v := .ref qkp) (C := R_M) (T := T_M) (N := 24) hx hb htw in_M hown hK hP 0 rfl rfl 23 (by decide) (htw _ m_380) (fun _ h9 => h9) rfl dM_putBack_41 ?_
    refine lv_bipush (v := nI 60) hx hb dM_putBack_44 (by decide) ?_
    refine lv_iload_n hx hb dM_putBack_46 rfl (lv_at hl 1 rfl) ?_
    refine lv_iadd hx hb dM_putBack_47 ?_
    refine lv_topi (fun kv ekv => ?_)
    obtain rfl : kv = nI (60 + i) := by rw [ekv]; exact nI_add _ _
    refine xa_lald hx hb hK hP 4 1 rfl rfl (i := (60 + i)) (by omega) (by decide) dM_putBack_48 ?_
    refine lv_topl (fun kv ekv => ?_)
    obtain rfl : osk i = kv := (ekv.trans (hk3 i (by omega))).symm
    refine xa_last hx hb hK hP hD hS 3 1 rfl rfl (i := i) (by omega) (by decide) dM_putBack_49 (fun H locs hP hD hS => ?_)
    have hP : va_P (dC, dI) vwCl [(mm, .inr (5, [.int (nI ly), .int (nI ce), .ref qlo, .ref qlk, .ref qhd, .ref qsf, .ref qpr, .ref qpa, .ref qsk, .long co, .long wo, .int (nI dy), .int da, .int db, .int dr, .int (nI mn), .ref qld, .ref qlz, .int (nI rn), .ref qrd, .ref qrv, .ref qhi, .ref qfw, .ref qkp])), (qpr, .inl (cJ, 30, .inr (.inl (vp_updL (k_cp opr pr i) i (opr i))))), (qpa, .inl (cJ, 30, .inr (.inl (vp_updL (k_cp opa pa i) i (opa i))))), (qsk, .inl (cJ, 30, .inr (.inl (vp_updL (k_cp osk sk i) i (osk i))))), (qkp, .inl (cJ, 92, .inr (.inl kp)))] H := hP
    have hD : va_D A [(mm, .inr (5, [.int (nI ly), .int (nI ce), .ref qlo, .ref qlk, .ref qhd, .ref qsf, .ref qpr, .ref qpa, .ref qsk, .long co, .long wo, .int (nI dy), .int da, .int db, .int dr, .int (nI mn), .ref qld, .ref qlz, .int (nI rn), .ref qrd, .ref qrv, .ref qhi, .ref qfw, .ref qkp])), (qpr, .inl (cJ, 30, .inr (.inl (vp_updL (k_cp opr pr i) i (opr i))))), (qpa, .inl (cJ, 30, .inr (.inl (vp_updL (k_cp opa pa i) i (opa i))))), (qsk, .inl (cJ, 30, .inr (.inl (vp_updL (k_cp osk sk i) i (osk i))))), (qkp, .inl (cJ, 92, .inr (.inl kp)))] := hD
    refine lv_iinc (v := nI (i + 1)) (lv' := [(1, .int (nI (i + 1))), (0, .ref mm)]) hx hb dM_putBack_50 hl (k := 1) rfl (nI_1 _) (by decide) rfl (fun ls hl => ?_)
    refine lv_goto (tgt := 2) hx hb dM_putBack_53 (by decide) ?_
    have eq4 : (vp_updL (k_cp opr pr i) i (opr i) : Nat → Int64) = k_cp opr pr (i + 1) := k_cp_s
    have hP := Eq.mp (congrArg (fun zz => va_P (dC, dI) vwCl [(mm, .inr (5, [.int (nI ly), .int (nI ce), .ref qlo, .ref qlk, .ref qhd, .ref qsf, .ref qpr, .ref qpa, .ref qsk, .long co, .long wo, .int (nI dy), .int da, .int db, .int dr, .int (nI mn), .ref qld, .ref qlz, .int (nI rn), .ref qrd, .ref qrv, .ref qhi, .ref qfw, .ref qkp])), (qpr, .inl (cJ, 30, .inr (.inl zz))), (qpa, .inl (cJ, 30, .inr (.inl (vp_updL (k_cp opa pa i) i (opa i))))), (qsk, .inl (cJ, 30, .inr (.inl (vp_updL (k_cp osk sk i) i (osk i))))), (qkp, .inl (cJ, 92, .inr (.inl kp)))] H) eq4) hP
    have hD := Eq.mp (congrArg (fun zz => va_D A [(mm, .inr (5, [.int (nI ly), .int (nI ce), .ref qlo, .ref qlk, .ref qhd, .ref qsf, .ref qpr, .ref qpa, .ref qsk, .long co, .long wo, .int (nI dy), .int da, .int db, .int dr, .int (nI mn), .ref qld, .ref qlz, .int (nI rn), .ref qrd, .ref qrv, .ref qhi, .ref qfw, .ref qkp])), (qpr, .inl (cJ, 30, .inr (.inl zz))), (qpa, .inl (cJ, 30, .inr (.inl (vp_updL (k_cp opa pa i) i (opa i))))), (qsk, .inl (cJ, 30, .inr (.inl (vp_updL (k_cp osk sk i) i (osk i))))), (qkp, .inl (cJ, 92, .inr (.inl kp)))]) eq4) hD
    have eq5 : (vp_updL (k_cp opa pa i) i (opa i) : Nat → Int64) = k_cp opa pa (i + 1) := k_cp_s
    have hP := Eq.mp (congrArg (fun zz => va_P (dC, dI) vwCl [(mm, .inr (5, [.int (nI ly), .int (nI ce), .ref qlo, .ref qlk, .ref qhd, .ref qsf, .ref qpr, .ref qpa, .ref qsk, .long co, .long wo, .int (nI dy), .int da, .int db, .int dr, .int (nI mn), .ref qld, .ref qlz, .int (nI rn), .ref qrd, .ref qrv, .ref qhi, .ref qfw, .ref qkp])), (qpr, .inl (cJ, 30, .inr (.inl (k_cp opr pr (i + 1))))), (qpa, .inl (cJ, 30, .inr (.inl zz))), (qsk, .inl (cJ, 30, .inr (.inl (vp_updL (k_cp osk sk i) i (osk i))))), (qkp, .inl (cJ, 92, .inr (.inl kp)))] H) eq5) hP
    have hD := Eq.mp (congrArg (fun zz => va_D A [(mm, .inr (5, [.int (nI ly), .int (nI ce), .ref qlo, .ref qlk, .ref qhd, .ref qsf, .ref qpr, .ref qpa, .ref qsk, .long co, .long wo, .int (nI dy), .int da, .int db, .int dr, .int (nI mn), .ref qld, .ref qlz, .int (nI rn), .ref qrd, .ref qrv, .ref qhi, .ref qfw, .ref qkp])), (qpr, .inl (cJ, 30, .inr (.inl (k_cp opr pr (i + 1))))), (qpa, .inl (cJ, 30, .inr (.inl zz))), (qsk, .inl (cJ, 30, .inr (.inl (vp_updL (k_cp osk sk i) i (osk i))))), (qkp, .inl (cJ, 92, .inr (.inl kp)))]) eq5) hD
    have eq6 : (vp_updL (k_cp osk sk i) i (osk i) : Nat → Int64) = k_cp osk sk (i + 1) := k_cp_s
    have hP := Eq.mp (congrArg (fun zz => va_P (dC, dI) vwCl [(mm, .inr (5, [.int (nI ly), .int (nI ce), .ref qlo, .ref qlk, .ref qhd, .ref qsf, .ref qpr, .ref qpa, .ref qsk, .long co, .long wo, .int (nI dy), .int da, .int db, .int dr, .int (nI mn), .ref qld, .ref qlz, .int (nI rn), .ref qrd, .ref qrv, .ref qhi, .ref qfw, .ref qkp])), (qpr, .inl (cJ, 30, .inr (.inl (k_cp opr pr (i + 1))))), (qpa, .inl (cJ, 30, .inr (.inl (k_cp opa pa (i + 1))))), (qsk, .inl (cJ, 30, .inr (.inl zz))), (qkp, .inl (cJ, 92, .inr (.inl kp)))] H) eq6) hP
    have hD := Eq.mp (congrArg (fun zz => va_D A [(mm, .inr (5, [.int (nI ly), .int (nI ce), .ref qlo, .ref qlk, .ref qhd, .ref qsf, .ref qpr, .ref qpa, .ref qsk, .long co, .long wo, .int (nI dy), .int da, .int db, .int dr, .int (nI mn), .ref qld, .ref qlz, .int (nI rn), .ref qrd, .ref qrv, .ref qhi, .ref qfw, .ref qkp])), (qpr, .inl (cJ, 30, .inr (.inl (k_cp opr pr (i + 1))))), (qpa, .inl (cJ, 30, .inr (.inl (k_cp opa pa (i + 1))))), (qsk, .inl (cJ, 30, .inr (.inl zz))), (qkp, .inl (cJ, 92, .inr (.inl kp)))]) eq6) hD
    have hP : va_P (dC, dI) vwCl [(mm, .inr (5, [.int (nI ly), .int (nI ce), .ref qlo, .ref qlk, .ref qhd, .ref qsf, .ref qpr, .ref qpa, .ref qsk, .long co, .long wo, .int (nI dy), .int da, .int db, .int dr, .int (nI mn), .ref qld, .ref qlz, .int (nI rn), .ref qrd, .ref qrv, .ref qhi, .ref qfw, .ref qkp])), (qpr, .inl (cJ, 30, .inr (.inl (k_cp opr pr (i + 1))))), (qpa, .inl (cJ, 30, .inr (.inl (k_cp opa pa (i + 1))))), (qsk, .inl (cJ, 30, .inr (.inl (k_cp osk sk (i + 1))))), (qkp, .inl (cJ, 92, .inr (.inl kp)))] H := by first | exact hP | simpa only [] using hP
    have hD : va_D A [(mm, .inr (5, [.int (nI ly), .int (nI ce), .ref qlo, .ref qlk, .ref qhd, .ref qsf, .ref qpr, .ref qpa, .ref qsk, .long co, .long wo, .int (nI dy), .int da, .int db, .int dr, .int (nI mn), .ref qld, .ref qlz, .int (nI rn), .ref qrd, .ref qrv, .ref qhi, .ref qfw, .ref qkp])), (qpr, .inl (cJ, 30, .inr (.inl (k_cp opr pr (i + 1))))), (qpa, .inl (cJ, 30, .inr (.inl (k_cp opa pa (i + 1))))), (qsk, .inl (cJ, 30, .inr (.inl (k_cp osk sk (i + 1))))), (qkp, .inl (cJ, 92, .inr (.inl kp)))] := by first | exact hD | simpa only [] using hD
    exact ih2 (by omega) _ _ _ ⟨hP, hD, hS, lv_sub hl [1, 0] rfl⟩
set_option maxHeartbeats 4000000 in
set_option maxRecDepth 100000 in
theorem kM_read_ok (l : Launch) (dC : Nat → ClassId) (dI : Nat → Nat → Nat) (cI cJ : ClassId) (mm qlo qlk qhd qsf qpr qpa qsk qld qlz qrd qrv qhi qfw qkp : Nat) (sz : Nat) (x : Int32) (v : Int64) (ly : Nat) (ce : Nat) (co : Int64) (wo : Int64) (dy : Nat) (da : Int32) (db : Int32) (dr : Int32) (mn : Nat) (rn : Nat) (rd : Nat → Int32) (rv : Nat → Int64) (hrn : rn ≤ 20) (hok : ((k_ff rd rn).toInt ≤ x.toInt ∧ x.toInt ≤ 400 ∧ 0 ≤ v.toInt ∧ v.toInt ≤ 1000000000000 ∧ rn < 20)) : Met l yM_read wM_read ({ frames := 1, cells := 0, slots := 0, locals := 25 }) (va_Pc [.ref mm, .int x, .long v] (fun U => U.heap.size = sz ∧ va_P (dC, dI) vwCl [(mm, .inr (5, [.int (nI ly), .int (nI ce), .ref qlo, .ref qlk, .ref qhd, .ref qsf, .ref qpr, .ref qpa, .ref qsk, .long co, .long wo, .int (nI dy), .int da, .int db, .int dr, .int (nI mn), .ref qld, .ref qlz, .int (nI rn), .ref qrd, .ref qrv, .ref qhi, .ref qfw, .ref qkp])), (qrd, .inl (cI, 20, .inl rd)), (qrv, .inl (cJ, 20, .inr (.inl rv)))] U.heap ∧ va_K (dC, dI) vwCl [(cI, .int), (cJ, .long)] U ∧ va_D (fun _ => True) [(mm, .inr (5, [.int (nI ly), .int (nI ce), .ref qlo, .ref qlk, .ref qhd, .ref qsf, .ref qpr, .ref qpa, .ref qsk, .long co, .long wo, .int (nI dy), .int da, .int db, .int dr, .int (nI mn), .ref qld, .ref qlz, .int (nI rn), .ref qrd, .ref qrv, .ref qhi, .ref qfw, .ref qkp])), (qrd, .inl (cI, 20, .inl rd)), (qrv, .inl (cJ, 20, .inr (.inl rv)))])) (va_Qi (fun res_ (_ : Unit) => res_ = nI (rn + 1)) (fun _ t => va_P (dC, dI) vwCl [(mm, .inr (5, [.int (nI ly), .int (nI ce), .ref qlo, .ref qlk, .ref qhd, .ref qsf, .ref qpr, .ref qpa, .ref qsk, .long co, .long wo, .int (nI dy), .int da, .int db, .int dr, .int (nI mn), .ref qld, .ref qlz, .int (nI (rn + 1)), .ref qrd, .ref qrv, .ref qhi, .ref qfw, .ref qkp])), (qrd, .inl (cI, 20, .inl (upd rd rn x))), (qrv, .inl (cJ, 20, .inr (.inl (vp_updL rv rn v))))] t.heap ∧ va_K (dC, dI) vwCl [(cI, .int), (cJ, .long)] t ∧ va_D (va_A [(mm, .inr (5, [.int (nI ly), .int (nI ce), .ref qlo, .ref qlk, .ref qhd, .ref qsf, .ref qpr, .ref qpa, .ref qsk, .long co, .long wo, .int (nI dy), .int da, .int db, .int dr, .int (nI mn), .ref qld, .ref qlz, .int (nI rn), .ref qrd, .ref qrv, .ref qhi, .ref qfw, .ref qkp])), (qrd, .inl (cI, 20, .inl rd)), (qrv, .inl (cJ, 20, .inr (.inl rv)))] sz) [(mm, .inr (5, [.int (nI ly), .int (nI ce), .ref qlo, .ref qlk, .ref qhd, .ref qsf, .ref qpr, .ref qpa, .ref qsk, .long co, .long wo, .int (nI dy), .int da, .int db, .int dr, .int (nI mn), .ref qld, .ref qlz, .int (nI (rn + 1)), .ref qrd, .ref qrv, .ref qhi, .ref qfw, .ref qkp])), (qrd, .inl (cI, 20, .inl (upd rd rn x))), (qrv, .inl (cJ, 20, .inr (.inl (vp_updL rv rn v))))]) (va_A [(mm, .inr (5, [.int (nI ly), .int (nI ce), .ref qlo, .ref qlk, .ref qhd, .ref qsf, .ref qpr, .ref qpa, .ref qsk, .long co, .long wo, .int (nI dy), .int da, .int db, .int dr, .int (nI mn), .ref qld, .ref qlz, .int (nI rn), .ref qrd, .ref qrv, .ref qhi, .ref qfw, .ref qkp])), (qrd, .inl (cI, 20, .inl rd)), (qrv, .inl (cJ, 20, .inr (.inl rv)))] sz)) 0 0 (va_A [(mm, .inr (5, [.int (nI ly), .int (nI ce), .ref qlo, .ref qlk, .ref qhd, .ref qsf, .ref qpr, .ref qpa, .ref qsk, .long co, .long wo, .int (nI dy), .int da, .int db, .int dr, .int (nI mn), .ref qld, .ref qlz, .int (nI rn), .ref qrd, .ref qrv, .ref qhi, .ref qfw, .ref qkp])), (qrd, .inl (cI, 20, .inl rd)), (qrv, .inl (cJ, 20, .inr (.inl rv)))] sz) := by
  refine Met.ofW (cc := bM_read) (maxL := 5) (ret := (some .int)) (by decide) rfl ?_
  intro p e s m args below meth c s₁ B hml hv
  obtain ⟨rfl, hsz, hP, hK, hD0⟩ := hv
  have hx := B.exec
  have hb := B.bytes
  have hr := B.returns
  have hts := atoms_spec (ws := wM_read) B.pre
  have hown : s.vm.findClass R_M = some m.cls := findClass_of_methodNamed B.named
  have htw : ∀ w ∈ WA, w.before _ s = true := fun w h => hts w (List.mem_cons_of_mem _ h)
  clear hts
  have hlocks := B.notSynchronized
  subst hsz
  have hD := hD0.self (sz := s.heap.size)
  generalize hAe : va_A [(mm, .inr (5, [.int (nI ly), .int (nI ce), .ref qlo, .ref qlk, .ref qhd, .ref qsf, .ref qpr, .ref qpa, .ref qsk, .long co, .long wo, .int (nI dy), .int da, .int db, .int dr, .int (nI mn), .ref qld, .ref qlz, .int (nI rn), .ref qrd, .ref qrv, .ref qhi, .ref qfw, .ref qkp])), (qrd, .inl (cI, 20, .inl rd)), (qrv, .inl (cJ, 20, .inr (.inl rv)))] s.heap.size = A at hD ⊢
  have hA : ∀ q : Nat, s.heap.size ≤ q → A q := fun q h => by rw [← hAe]; exact Or.inr h
  clear hAe hD0
  have hS : va_S A s.heap s.heap [] := va_S.rf
  have hP : va_P (dC, dI) vwCl [(mm, .inr (5, [.int (nI ly), .int (nI ce), .ref qlo, .ref qlk, .ref qhd, .ref qsf, .ref qpr, .ref qpa, .ref qsk, .long co, .long wo, .int (nI dy), .int da, .int db, .int dr, .int (nI mn), .ref qld, .ref qlz, .int (nI rn), .ref qrd, .ref qrv, .ref qhi, .ref qfw, .ref qkp])), (qrd, .inl (cI, 20, .inl rd)), (qrv, .inl (cJ, 20, .inr (.inl rv)))] s.heap := hP
  have hl := lv_entry ([.ref mm, .int x, .long v]) (n := 5) (Nat.le_of_ble_eq_true rfl)
  rw [lg_entry_eq]
  generalize (lg_sl ([.ref mm, .int x, .long v]) ++ List.replicate (5 - (lg_sl ([.ref mm, .int x, .long v])).length) Slot.unset).toArray = ls at hl ⊢
  have hl : lv_has ls 5 [(0, .ref mm), (1, .int x), (2, .long v)] := hl
  refine lv_aload_n hx hb dM_read_0 rfl (lv_at hl 0 rfl) ?_
  refine va_get (D := (dC, dI)) (ci := 5) (v := .int (nI rn)) (C := R_M) (T := T_M) (N := 24) hx hb htw in_M hown hK hP 0 rfl rfl 18 (by decide) (htw _ m_375) (fun _ h9 => h9) rfl dM_read_1 ?_
  refine lv_if_ne (tgt := 11) hx hb dM_read_4 (by decide) (fun hc4 => ?_) (fun hc4 => ?_)
  · -- 4 taken
    rw [show (0 : Int32) = nI 0 from rfl, nI_eq (by omega) (by omega)] at hc4
    refine lv_aload_n hx hb dM_read_11 rfl (lv_at hl 0 rfl) ?_
    refine va_get (D := (dC, dI)) (ci := 5) (v := .ref qrd) (C := R_M) (T := T_M) (N := 24) hx hb htw in_M hown hK hP 0 rfl rfl 19 (by decide) (htw _ m_376) (fun _ h9 => h9) rfl dM_read_12 ?_
    refine lv_aload_n hx hb dM_read_15 rfl (lv_at hl 0 rfl) ?_
    refine va_get (D := (dC, dI)) (ci := 5) (v := .int (nI rn)) (C := R_M) (T := T_M) (N := 24) hx hb htw in_M hown hK hP 0 rfl rfl 18 (by decide) (htw _ m_375) (fun _ h9 => h9) rfl dM_read_16 ?_
    refine lv_iconst (v := nI 1) hx hb dM_read_19 (by decide) ?_
    refine lv_isub hx hb dM_read_20 ?_
    refine lv_topi (fun kv ekv => ?_)
    obtain rfl : kv = nI (rn - 1) := by rw [ekv]; exact pk_sub (by omega)
    refine xa_iald hx hb hK hP 1 0 rfl rfl (i := (rn - 1)) (by omega) (by decide) dM_read_21 ?_
    refine lv_iconst (v := nI 1) hx hb dM_read_22 (by decide) ?_
    refine lv_iadd hx hb dM_read_23 ?_
    refine lv_topi (fun kv ekv => ?_)
    obtain rfl : k_ff rd rn = kv := (ekv.trans ((if_neg hc4).symm)).symm
    refine lv_istore (lv' := [(4, .int (k_ff rd rn)), (0, .ref mm), (1, .int x), (2, .long v)]) hx hb dM_read_24 hl (by decide) rfl (fun ls hl => ?_)
    refine lv_iload_n hx hb dM_read_26 rfl (lv_at hl 2 rfl) ?_
    refine lv_i2l (v := x.toInt64) hx hb dM_read_27 rfl ?_
    refine lv_iload hx hb dM_read_28 (lv_at hl 0 rfl) ?_
    refine lv_i2l (v := (k_ff rd rn).toInt64) hx hb dM_read_30 rfl ?_
    refine lv_ldc2 (v := 400) hx hb hown (htw _ m_529) dM_read_31 ?_
    have hPc := hP.sub (ws' := []) [] rfl
    have hDc := hD.sub (ws' := []) [] (by decide) rfl
    have hFc := va_free (wc := []) hD hS hA [] rfl
    refine va_calli (va_runS (As := [.long x.toInt64, .long ((k_ff rd rn).toInt64), .long 400]) (rest := []) ⟨hx, hb, hml, hown, htw⟩ (kM_in l dC dI cI cJ s.heap.size x.toInt64 ((k_ff rd rn).toInt64) 400) (va_cwS 3 htw (ws_good m_435 m_436 m_6 m_437) rfl rfl rfl (by decide +kernel) ⟨Nat.le_of_ble_eq_true rfl, Nat.le_of_ble_eq_true rfl⟩) ⟨fun a U g mk q => by obtain ⟨q0, q1, qP, qK, qD⟩ := q; exact ⟨q0, q1, qP, va_K.moved (u := U) (U := U.calling g mk a) (Vm.Alike.refl U.vm) qK, qD⟩, fun U hU hW => ⟨rfl, by rw [hU], by rw [hU]; exact hPc, va_K.moved hW.alike hK, hDc.weaken (fun _ _ _ _ => trivial)⟩⟩ rfl rfl hl.1 rfl (lv_room (Nat.le_of_ble_eq_true rfl)) dM_read_34 ⟨Nat.le_of_ble_eq_true rfl, Nat.le_of_ble_eq_true rfl⟩) hS (fun q _ h => hFc q h) hFc (fun res_ u_ t H1 locs ht hvm hw hB hz1 hk1 hS => ?_)
    obtain ⟨hP1, hK1, hD1⟩ := hB
    rw [ht] at hP1
    obtain ⟨hP, hD⟩ := va_join (wr := [(mm, .inr (5, [.int (nI ly), .int (nI ce), .ref qlo, .ref qlk, .ref qhd, .ref qsf, .ref qpr, .ref qpa, .ref qsk, .long co, .long wo, .int (nI dy), .int da, .int db, .int dr, .int (nI mn), .ref qld, .ref qlz, .int (nI rn), .ref qrd, .ref qrv, .ref qhi, .ref qfw, .ref qkp])), (qrd, .inl (cI, 20, .inl rd)), (qrv, .inl (cJ, 20, .inr (.inl rv)))]) (w1 := []) hP hD [] [0, 1, 2] rfl rfl (by decide) (by decide) hk1 hFc hP1 hD1
    generalize H1 = H at hP hS ⊢
    have hP : va_P (dC, dI) vwCl [(mm, .inr (5, [.int (nI ly), .int (nI ce), .ref qlo, .ref qlk, .ref qhd, .ref qsf, .ref qpr, .ref qpa, .ref qsk, .long co, .long wo, .int (nI dy), .int da, .int db, .int dr, .int (nI mn), .ref qld, .ref qlz, .int (nI rn), .ref qrd, .ref qrv, .ref qhi, .ref qfw, .ref qkp])), (qrd, .inl (cI, 20, .inl rd)), (qrv, .inl (cJ, 20, .inr (.inl rv)))] H := hP
    have hD : va_D A [(mm, .inr (5, [.int (nI ly), .int (nI ce), .ref qlo, .ref qlk, .ref qhd, .ref qsf, .ref qpr, .ref qpa, .ref qsk, .long co, .long wo, .int (nI dy), .int da, .int db, .int dr, .int (nI mn), .ref qld, .ref qlz, .int (nI rn), .ref qrd, .ref qrv, .ref qhi, .ref qfw, .ref qkp])), (qrd, .inl (cI, 20, .inl rd)), (qrv, .inl (cJ, 20, .inr (.inl rv)))] := hD
    clear hPc hDc hFc hP1 hD1 hK1 hk1 hz1 hvm ht
    obtain rfl : kb (((k_ff rd rn).toInt64) ≤ x.toInt64 ∧ x.toInt64 ≤ 400) = res_ := hw.symm
    refine lv_if_eq (tgt := 60) hx hb dM_read_37 (by decide) (fun hc37 => ?_) (fun hc37 => ?_)
    · -- 37 taken
      rw [kb_eq0, k_wl, show ((400 : Int64)).toInt = 400 from by decide] at hc37
      simp only [Int32.toInt_toInt64] at hc37
      exfalso; omega
    · -- 37 not taken
      rw [kb_eq0, k_wl, show ((400 : Int64)).toInt = 400 from by decide] at hc37
      simp only [Int32.toInt_toInt64] at hc37
      refine lv_lload_n hx hb dM_read_40 rfl (lv_at hl 3 rfl) ?_
      refine lv_lconst (v := 0) hx hb dM_read_41 (by decide) ?_
      refine lv_ldc2 (v := 1000000000000) hx hb hown (htw _ m_530) dM_read_42 ?_
      have hPc := hP.sub (ws' := []) [] rfl
      have hDc := hD.sub (ws' := []) [] (by decide) rfl
      have hFc := va_free (wc := []) hD hS hA [] rfl
      refine va_calli (va_runS (As := [.long v, .long 0, .long 1000000000000]) (rest := []) ⟨hx, hb, hml, hown, htw⟩ (kM_in l dC dI cI cJ H.size v 0 1000000000000) (va_cwS 3 htw (ws_good m_435 m_436 m_6 m_437) rfl rfl rfl (by decide +kernel) ⟨Nat.le_of_ble_eq_true rfl, Nat.le_of_ble_eq_true rfl⟩) ⟨fun a U g mk q => by obtain ⟨q0, q1, qP, qK, qD⟩ := q; exact ⟨q0, q1, qP, va_K.moved (u := U) (U := U.calling g mk a) (Vm.Alike.refl U.vm) qK, qD⟩, fun U hU hW => ⟨rfl, by rw [hU], by rw [hU]; exact hPc, va_K.moved hW.alike hK, hDc.weaken (fun _ _ _ _ => trivial)⟩⟩ rfl rfl hl.1 rfl (lv_room (Nat.le_of_ble_eq_true rfl)) dM_read_45 ⟨Nat.le_of_ble_eq_true rfl, Nat.le_of_ble_eq_true rfl⟩) hS (fun q _ h => hFc q h) hFc (fun res_ u_ t H1 locs ht hvm hw hB hz1 hk1 hS => ?_)
      obtain ⟨hP1, hK1, hD1⟩ := hB
      rw [ht] at hP1
      obtain ⟨hP, hD⟩ := va_join (wr := [(mm, .inr (5, [.int (nI ly), .int (nI ce), .ref qlo, .ref qlk, .ref qhd, .ref qsf, .ref qpr, .ref qpa, .ref qsk, .long co, .long wo, .int (nI dy), .int da, .int db, .int dr, .int (nI mn), .ref qld, .ref qlz, .int (nI rn), .ref qrd, .ref qrv, .ref qhi, .ref qfw, .ref qkp])), (qrd, .inl (cI, 20, .inl rd)), (qrv, .inl (cJ, 20, .inr (.inl rv)))]) (w1 := []) hP hD [] [0, 1, 2] rfl rfl (by decide) (by decide) hk1 hFc hP1 hD1
      generalize H1 = H at hP hS ⊢
      have hP : va_P (dC, dI) vwCl [(mm, .inr (5, [.int (nI ly), .int (nI ce), .ref qlo, .ref qlk, .ref qhd, .ref qsf, .ref qpr, .ref qpa, .ref qsk, .long co, .long wo, .int (nI dy), .int da, .int db, .int dr, .int (nI mn), .ref qld, .ref qlz, .int (nI rn), .ref qrd, .ref qrv, .ref qhi, .ref qfw, .ref qkp])), (qrd, .inl (cI, 20, .inl rd)), (qrv, .inl (cJ, 20, .inr (.inl rv)))] H := hP
      have hD : va_D A [(mm, .inr (5, [.int (nI ly), .int (nI ce), .ref qlo, .ref qlk, .ref qhd, .ref qsf, .ref qpr, .ref qpa, .ref qsk, .long co, .long wo, .int (nI dy), .int da, .int db, .int dr, .int (nI mn), .ref qld, .ref qlz, .int (nI rn), .ref qrd, .ref qrv, .ref qhi, .ref qfw, .ref qkp])), (qrd, .inl (cI, 20, .inl rd)), (qrv, .inl (cJ, 20, .inr (.inl rv)))] := hD
      clear hPc hDc hFc hP1 hD1 hK1 hk1 hz1 hvm ht
      obtain rfl : kb (0 ≤ v ∧ v ≤ 1000000000000) = res_ := hw.symm
      refine lv_if_eq (tgt := 60) hx hb dM_read_48 (by decide) (fun hc48 => ?_) (fun hc48 => ?_)
      · -- 48 taken
        rw [kb_eq0, k_wl, show ((0 : Int64)).toInt = 0 from by decide, show ((1000000000000 : Int64)).toInt = 1000000000000 from by decide] at hc48
        exfalso; omega
      · -- 48 not taken
        rw [kb_eq0, k_wl, show ((0 : Int64)).toInt = 0 from by decide, show ((1000000000000 : Int64)).toInt = 1000000000000 from by decide] at hc48
        refine lv_aload_n hx hb dM_read_51 rfl (lv_at hl 1 rfl) ?_
        refine va_get (D := (dC, dI)) (ci := 5) (v := .int (nI rn)) (C := R_M) (T := T_M) (N := 24) hx hb htw in_M hown hK hP 0 rfl rfl 18 (by decide) (htw _ m_375) (fun _ h9 => h9) rfl dM_read_52 ?_
        refine lv_bipush (v := nI 20) hx hb dM_read_55 (by decide) ?_
        refine lv_icmp_ne (tgt := 62) hx hb dM_read_57 (by decide) (fun hc57 => ?_) (fun hc57 => ?_)
        · -- 57 taken
          rw [nI_eq (by omega) (by omega)] at hc57
          refine lv_aload_n hx hb dM_read_62 rfl (lv_at hl 1 rfl) ?_
          refine va_get (D := (dC, dI)) (ci := 5) (v := .ref qrd) (C := R_M) (T := T_M) (N := 24) hx hb htw in_M hown hK hP 0 rfl rfl 19 (by decide) (htw _ m_376) (fun _ h9 => h9) rfl dM_read_63 ?_
          refine lv_aload_n hx hb dM_read_66 rfl (lv_at hl 1 rfl) ?_
          refine va_get (D := (dC, dI)) (ci := 5) (v := .int (nI rn)) (C := R_M) (T := T_M) (N := 24) hx hb htw in_M hown hK hP 0 rfl rfl 18 (by decide) (htw _ m_375) (fun _ h9 => h9) rfl dM_read_67 ?_
          refine lv_iload_n hx hb dM_read_70 rfl (lv_at hl 2 rfl) ?_
          refine xa_iast hx hb hK hP hD hS 1 0 rfl rfl (i := rn) (by omega) (by decide) dM_read_71 (fun H locs hP hD hS => ?_)
          have hP : va_P (dC, dI) vwCl [(mm, .inr (5, [.int (nI ly), .int (nI ce), .ref qlo, .ref qlk, .ref qhd, .ref qsf, .ref qpr, .ref qpa, .ref qsk, .long co, .long wo, .int (nI dy), .int da, .int db, .int dr, .int (nI mn), .ref qld, .ref qlz, .int (nI rn), .ref qrd, .ref qrv, .ref qhi, .ref qfw, .ref qkp])), (qrd, .inl (cI, 20, .inl (upd rd rn x))), (qrv, .inl (cJ, 20, .inr (.inl rv)))] H := hP
          have hD : va_D A [(mm, .inr (5, [.int (nI ly), .int (nI ce), .ref qlo, .ref qlk, .ref qhd, .ref qsf, .ref qpr, .ref qpa, .ref qsk, .long co, .long wo, .int (nI dy), .int da, .int db, .int dr, .int (nI mn), .ref qld, .ref qlz, .int (nI rn), .ref qrd, .ref qrv, .ref qhi, .ref qfw, .ref qkp])), (qrd, .inl (cI, 20, .inl (upd rd rn x))), (qrv, .inl (cJ, 20, .inr (.inl rv)))] := hD
          refine lv_aload_n hx hb dM_read_72 rfl (lv_at hl 1 rfl) ?_
          refine va_get (D := (dC, dI)) (ci := 5) (v := .ref qrv) (C := R_M) (T := T_M) (N := 24) hx hb htw in_M hown hK hP 0 rfl rfl 20 (by decide) (htw _ m_377) (fun _ h9 => h9) rfl dM_read_73 ?_
          refine lv_aload_n hx hb dM_read_76 rfl (lv_at hl 1 rfl) ?_
          refine va_get (D := (dC, dI)) (ci := 5) (v := .int (nI rn)) (C := R_M) (T := T_M) (N := 24) hx hb htw in_M hown hK hP 0 rfl rfl 18 (by decide) (htw _ m_375) (fun _ h9 => h9) rfl dM_read_77 ?_
          refine lv_lload_n hx hb dM_read_80 rfl (lv_at hl 3 rfl) ?_
          refine xa_last hx hb hK hP hD hS 2 1 rfl rfl (i := rn) (by omega) (by decide) dM_read_81 (fun H locs hP hD hS => ?_)
          have hP : va_P (dC, dI) vwCl [(mm, .inr (5, [.int (nI ly), .int (nI ce), .ref qlo, .ref qlk, .ref qhd, .ref qsf, .ref qpr, .ref qpa, .ref qsk, .long co, .long wo, .int (nI dy), .int da, .int db, .int dr, .int (nI mn), .ref qld, .ref qlz, .int (nI rn), .ref qrd, .ref qrv, .ref qhi, .ref qfw, .ref qkp])), (qrd, .inl (cI, 20, .inl (upd rd rn x))), (qrv, .inl (cJ, 20, .inr (.inl (vp_updL rv rn v))))] H := hP
          have hD : va_D A [(mm, .inr (5, [.int (nI ly), .int (nI ce), .ref qlo, .ref qlk, .ref qhd, .ref qsf, .ref qpr, .ref qpa, .ref qsk, .long co, .long wo, .int (nI dy), .int da, .int db, .int dr, .int (nI mn), .ref qld, .ref qlz, .int (nI rn), .ref qrd, .ref qrv, .ref qhi, .ref qfw, .ref qkp])), (qrd, .inl (cI, 20, .inl (upd rd rn x))), (qrv, .inl (cJ, 20, .inr (.inl (vp_updL rv rn v))))] := hD
          refine lv_aload_n hx hb dM_read_82 rfl (lv_at hl 1 rfl) ?_
          refine lv_dup hx hb dM_read_83 rfl ?_
          refine va_get (D := (dC, dI)) (ci := 5) (v := .int (nI rn)) (C := R_M) (T := T_M) (N := 24) hx hb htw in_M hown hK hP 0 rfl rfl 18 (by decide) (htw _ m_375) (fun _ h9 => h9) rfl dM_read_84 ?_
          refine lv_iconst (v := nI 1) hx hb dM_read_87 (by decide) ?_
          refine lv_iadd hx hb dM_read_88 ?_
          refine lv_topi (fun kv ekv => ?_)
          obtain rfl : kv = nI (rn + 1) := by rw [ekv]; exact nI_add _ _
          refine va_put (D := (dC, dI)) (ci := 5) (v := .int (nI (rn + 1))) (ty := .int) (C := R_M) (T := T_M) (N := 24) hx hb htw in_M ty_M tok_M nnm_M hown hK hP hD hS 0 rfl rfl 18 (by decide) (htw _ m_375) (fun _ h9 => h9) rfl (by decide +kernel) rfl rfl (Nat.le_of_ble_eq_true rfl) dM_read_89 (fun H locs hP hD hS => ?_)
          have hP : va_P (dC, dI) vwCl [(mm, .inr (5, [.int (nI ly), .int (nI ce), .ref qlo, .ref qlk, .ref qhd, .ref qsf, .ref qpr, .ref qpa, .ref qsk, .long co, .long wo, .int (nI dy), .int da, .int db, .int dr, .int (nI mn), .ref qld, .ref qlz, .int (nI (rn + 1)), .ref qrd, .ref qrv, .ref qhi, .ref qfw, .ref qkp])), (qrd, .inl (cI, 20, .inl (upd rd rn x))), (qrv, .inl (cJ, 20, .inr (.inl (vp_updL rv rn v))))] H := hP
          have hD : va_D A [(mm, .inr (5, [.int (nI ly), .int (nI ce), .ref qlo, .ref qlk, .ref qhd, .ref qsf, .ref qpr, .ref qpa, .ref qsk, .long co, .long wo, .int (nI dy), .int da, .int db, .int dr, .int (nI mn), .ref qld, .ref qlz, .int (nI (rn + 1)), .ref qrd, .ref qrv, .ref qhi, .ref qfw, .ref qkp])), (qrd, .inl (cI, 20, .inl (upd rd rn x))), (qrv, .inl (cJ, 20, .inr (.inl (vp_updL rv rn v))))] := hD
          refine lv_aload_n hx hb dM_read_92 rfl (lv_at hl 1 rfl) ?_
          refine va_get (D := (dC, dI)) (ci := 5) (v := .int (nI (rn + 1))) (C := R_M) (T := T_M) (N := 24) hx hb htw in_M hown hK hP 0 rfl rfl 18 (by decide) (htw _ m_375) (fun _ h9 => h9) rfl dM_read_93 ?_
          have hP : va_P (dC, dI) vwCl [(mm, .inr (5, [.int (nI ly), .int (nI ce), .ref qlo, .ref qlk, .ref qhd, .ref qsf, .ref qpr, .ref qpa, .ref qsk, .long co, .long wo, .int (nI dy), .int da, .int db, .int dr, .int (nI mn), .ref qld, .ref qlz, .int (nI (rn + 1)), .ref qrd, .ref qrv, .ref qhi, .ref qfw, .ref qkp])), (qrd, .inl (cI, 20, .inl (upd rd rn x))), (qrv, .inl (cJ, 20, .inr (.inl (vp_updL rv rn v))))] H := by first | exact hP | simpa only [] using hP
          have hD : va_D A [(mm, .inr (5, [.int (nI ly), .int (nI ce), .ref qlo, .ref qlk, .ref qhd, .ref qsf, .ref qpr, .ref qpa, .ref qsk, .long co, .long wo, .int (nI dy), .int da, .int db, .int dr, .int (nI mn), .ref qld, .ref qlz, .int (nI (rn + 1)), .ref qrd, .ref qrv, .ref qhi, .ref qfw, .ref qkp])), (qrd, .inl (cI, 20, .inl (upd rd rn x))), (qrv, .inl (cJ, 20, .inr (.inl (vp_updL rv rn v))))] := by first | exact hD | simpa only [] using hD
          exact W.iret (v := nI (rn + 1)) hx hb hr (fun t ht hW => ⟨⟨nI (rn + 1), (), rfl, rfl, by rw [ht]; exact hP, va_K.moved hW.alike hK, hD⟩, hS.F ht⟩) hS.2.2 dM_read_96
        · -- 57 not taken
          rw [nI_eq (by omega) (by omega)] at hc57
          exfalso; omega
  · -- 4 not taken
    rw [show (0 : Int32) = nI 0 from rfl, nI_eq (by omega) (by omega)] at hc4
    refine lv_iconst (v := nI 0) hx hb dM_read_7 (by decide) ?_
    refine lv_goto (tgt := 24) hx hb dM_read_8 (by decide) ?_
    refine lv_topi (fun kv ekv => ?_)
    obtain rfl : k_ff rd rn = kv := (ekv.trans ((if_pos hc4).symm)).symm
    refine lv_istore (lv' := [(4, .int (k_ff rd rn)), (0, .ref mm), (1, .int x), (2, .long v)]) hx hb dM_read_24 hl (by decide) rfl (fun ls hl => ?_)
    refine lv_iload_n hx hb dM_read_26 rfl (lv_at hl 2 rfl) ?_
    refine lv_i2l (v := x.toInt64) hx hb dM_read_27 rfl ?_
    refine lv_iload hx hb dM_read_28 (lv_at hl 0 rfl) ?_
    refine lv_i2l (v := (k_ff rd rn).toInt64) hx hb dM_read_30 rfl ?_
    refine lv_ldc2 (v := 400) hx hb hown (htw _ m_529) dM_read_31 ?_
    have hPc := hP.sub (ws' := []) [] rfl
    have hDc := hD.sub (ws' := []) [] (by decide) rfl
    have hFc := va_free (wc := []) hD hS hA [] rfl
    refine va_calli (va_runS (As := [.long x.toInt64, .long ((k_ff rd rn).toInt64), .long 400]) (rest := []) ⟨hx, hb, hml, hown, htw⟩ (kM_in l dC dI cI cJ s.heap.size x.toInt64 ((k_ff rd rn).toInt64) 400) (va_cwS 3 htw (ws_good m_435 m_436 m_6 m_437) rfl rfl rfl (by decide +kernel) ⟨Nat.le_of_ble_eq_true rfl, Nat.le_of_ble_eq_true rfl⟩) ⟨fun a U g mk q => by obtain ⟨q0, q1, qP, qK, qD⟩ := q; exact ⟨q0, q1, qP, va_K.moved (u := U) (U := U.calling g mk a) (Vm.Alike.refl U.vm) qK, qD⟩, fun U hU hW => ⟨rfl, by rw [hU], by rw [hU]; exact hPc, va_K.moved hW.alike hK, hDc.weaken (fun _ _ _ _ => trivial)⟩⟩ rfl rfl hl.1 rfl (lv_room (Nat.le_of_ble_eq_true rfl)) dM_read_34 ⟨Nat.le_of_ble_eq_true rfl, Nat.le_of_ble_eq_true rfl⟩) hS (fun q _ h => hFc q h) hFc (fun res_ u_ t H1 locs ht hvm hw hB hz1 hk1 hS => ?_)
    obtain ⟨hP1, hK1, hD1⟩ := hB
    rw [ht] at hP1
    obtain ⟨hP, hD⟩ := va_join (wr := [(mm, .inr (5, [.int (nI ly), .int (nI ce), .ref qlo, .ref qlk, .ref qhd, .ref qsf, .ref qpr, .ref qpa, .ref qsk, .long co, .long wo, .int (nI dy), .int da, .int db, .int dr, .int (nI mn), .ref qld, .ref qlz, .int (nI rn), .ref qrd, .ref qrv, .ref qhi, .ref qfw, .ref qkp])), (qrd, .inl (cI, 20, .inl rd)), (qrv, .inl (cJ, 20, .inr (.inl rv)))]) (w1 := []) hP hD [] [0, 1, 2] rfl rfl (by decide) (by decide) hk1 hFc hP1 hD1
    generalize H1 = H at hP hS ⊢
    have hP : va_P (dC, dI) vwCl [(mm, .inr (5, [.int (nI ly), .int (nI ce), .ref qlo, .ref qlk, .ref qhd, .ref qsf, .ref qpr, .ref qpa, .ref qsk, .long co, .long wo, .int (nI dy), .int da, .int db, .int dr, .int (nI mn), .ref qld, .ref qlz, .int (nI rn), .ref qrd, .ref qrv, .ref qhi, .ref qfw, .ref qkp])), (qrd, .inl (cI, 20, .inl rd)), (qrv, .inl (cJ, 20, .inr (.inl rv)))] H := hP
    have hD : va_D A [(mm, .inr (5, [.int (nI ly), .int (nI ce), .ref qlo, .ref qlk, .ref qhd, .ref qsf, .ref qpr, .ref qpa, .ref qsk, .long co, .long wo, .int (nI dy), .int da, .int db, .int dr, .int (nI mn), .ref qld, .ref qlz, .int (nI rn), .ref qrd, .ref qrv, .ref qhi, .ref qfw, .ref qkp])), (qrd, .inl (cI, 20, .inl rd)), (qrv, .inl (cJ, 20, .inr (.inl rv)))] := hD
    clear hPc hDc hFc hP1 hD1 hK1 hk1 hz1 hvm ht
    obtain rfl : kb (((k_ff rd rn).toInt64) ≤ x.toInt64 ∧ x.toInt64 ≤ 400) = res_ := hw.symm
    refine lv_if_eq (tgt := 60) hx hb dM_read_37 (by decide) (fun hc37 => ?_) (fun hc37 => ?_)
    · -- 37 taken
      rw [kb_eq0, k_wl, show ((400 : Int64)).toInt = 400 from by decide] at hc37
      simp only [Int32.toInt_toInt64] at hc37
      exfalso; omega
    · -- 37 not taken
      rw [kb_eq0, k_wl, show ((400 : Int64)).toInt = 400 from by decide] at hc37
      simp only [Int32.toInt_toInt64] at hc37
      refine lv_lload_n hx hb dM_read_40 rfl (lv_at hl 3 rfl) ?_
      refine lv_lconst (v := 0) hx hb dM_read_41 (by decide) ?_
      refine lv_ldc2 (v := 1000000000000) hx hb hown (htw _ m_530) dM_read_42 ?_
      have hPc := hP.sub (ws' := []) [] rfl
      have hDc := hD.sub (ws' := []) [] (by decide) rfl
      have hFc := va_free (wc := []) hD hS hA [] rfl
      refine va_calli (va_runS (As := [.long v, .long 0, .long 1000000000000]) (rest := []) ⟨hx, hb, hml, hown, htw⟩ (kM_in l dC dI cI cJ H.size v 0 1000000000000) (va_cwS 3 htw (ws_good m_435 m_436 m_6 m_437) rfl rfl rfl (by decide +kernel) ⟨Nat.le_of_ble_eq_true rfl, Nat.le_of_ble_eq_true rfl⟩) ⟨fun a U g mk q => by obtain ⟨q0, q1, qP, qK, qD⟩ := q; exact ⟨q0, q1, qP, va_K.moved (u := U) (U := U.calling g mk a) (Vm.Alike.refl U.vm) qK, qD⟩, fun U hU hW => ⟨rfl, by rw [hU], by rw [hU]; exact hPc, va_K.moved hW.alike hK, hDc.weaken (fun _ _ _ _ => trivial)⟩⟩ rfl rfl hl.1 rfl (lv_room (Nat.le_of_ble_eq_true rfl)) dM_read_45 ⟨Nat.le_of_ble_eq_true rfl, Nat.le_of_ble_eq_true rfl⟩) hS (fun q _ h => hFc q h) hFc (fun res_ u_ t H1 locs ht hvm hw hB hz1 hk1 hS => ?_)
      obtain ⟨hP1, hK1, hD1⟩ := hB
      rw [ht] at hP1
      obtain ⟨hP, hD⟩ := va_join (wr := [(mm, .inr (5, [.int (nI ly), .int (nI ce), .ref qlo, .ref qlk, .ref qhd, .ref qsf, .ref qpr, .ref qpa, .ref qsk, .long co, .long wo, .int (nI dy), .int da, .int db, .int dr, .int (nI mn), .ref qld, .ref qlz, .int (nI rn), .ref qrd, .ref qrv, .ref qhi, .ref qfw, .ref qkp])), (qrd, .inl (cI, 20, .inl rd)), (qrv, .inl (cJ, 20, .inr (.inl rv)))]) (w1 := []) hP hD [] [0, 1, 2] rfl rfl (by decide) (by decide) hk1 hFc hP1 hD1
      generalize H1 = H at hP hS ⊢
      have hP : va_P (dC, dI) vwCl [(mm, .inr (5, [.int (nI ly), .int (nI ce), .ref qlo, .ref qlk, .ref qhd, .ref qsf, .ref qpr, .ref qpa, .ref qsk, .long co, .long wo, .int (nI dy), .int da, .int db, .int dr, .int (nI mn), .ref qld, .ref qlz, .int (nI rn), .ref qrd, .ref qrv, .ref qhi, .ref qfw, .ref qkp])), (qrd, .inl (cI, 20, .inl rd)), (qrv, .inl (cJ, 20, .inr (.inl rv)))] H := hP
      have hD : va_D A [(mm, .inr (5, [.int (nI ly), .int (nI ce), .ref qlo, .ref qlk, .ref qhd, .ref qsf, .ref qpr, .ref qpa, .ref qsk, .long co, .long wo, .int (nI dy), .int da, .int db, .int dr, .int (nI mn), .ref qld, .ref qlz, .int (nI rn), .ref qrd, .ref qrv, .ref qhi, .ref qfw, .ref qkp])), (qrd, .inl (cI, 20, .inl rd)), (qrv, .inl (cJ, 20, .inr (.inl rv)))] := hD
      clear hPc hDc hFc hP1 hD1 hK1 hk1 hz1 hvm ht
      obtain rfl : kb (0 ≤ v ∧ v ≤ 1000000000000) = res_ := hw.symm
      refine lv_if_eq (tgt := 60) hx hb dM_read_48 (by decide) (fun hc48 => ?_) (fun hc48 => ?_)
      · -- 48 taken
        rw [kb_eq0, k_wl, show ((0 : Int64)).toInt = 0 from by decide, show ((1000000000000 : Int64)).toInt = 1000000000000 from by decide] at hc48
        exfalso; omega
      · -- 48 not taken
        rw [kb_eq0, k_wl, show ((0 : Int64)).toInt = 0 from by decide, show ((1000000000000 : Int64)).toInt = 1000000000000 from by decide] at hc48
        refine lv_aload_n hx hb dM_read_51 rfl (lv_at hl 1 rfl) ?_
        refine va_get (D := (dC, dI)) (ci := 5) (v := .int (nI rn)) (C := R_M) (T := T_M) (N := 24) hx hb htw in_M hown hK hP 0 rfl rfl 18 (by decide) (htw _ m_375) (fun _ h9 => h9) rfl dM_read_52 ?_
        refine lv_bipush (v := nI 20) hx hb dM_read_55 (by decide) ?_
        refine lv_icmp_ne (tgt := 62) hx hb dM_read_57 (by decide) (fun hc57 => ?_) (fun hc57 => ?_)
        · -- 57 taken
          rw [nI_eq (by omega) (by omega)] at hc57
          refine lv_aload_n hx hb dM_read_62 rfl (lv_at hl 1 rfl) ?_
          refine va_get (D := (dC, dI)) (ci := 5) (v := .ref qrd) (C := R_M) (T := T_M) (N := 24) hx hb htw in_M hown hK hP 0 rfl rfl 19 (by decide) (htw _ m_376) (fun _ h9 => h9) rfl dM_read_63 ?_
          refine lv_aload_n hx hb dM_read_66 rfl (lv_at hl 1 rfl) ?_
          refine va_get (D := (dC, dI)) (ci := 5) (v := .int (nI rn)) (C := R_M) (T := T_M) (N := 24) hx hb htw in_M hown hK hP 0 rfl rfl 18 (by decide) (htw _ m_375) (fun _ h9 => h9) rfl dM_read_67 ?_
          refine lv_iload_n hx hb dM_read_70 rfl (lv_at hl 2 rfl) ?_
          refine xa_iast hx hb hK hP hD hS 1 0 rfl rfl (i := rn) (by omega) (by decide) dM_read_71 (fun H locs hP hD hS => ?_)
          have hP : va_P (dC, dI) vwCl [(mm, .inr (5, [.int (nI ly), .int (nI ce), .ref qlo, .ref qlk, .ref qhd, .ref qsf, .ref qpr, .ref qpa, .ref qsk, .long co, .long wo, .int (nI dy), .int da, .int db, .int dr, .int (nI mn), .ref qld, .ref qlz, .int (nI rn), .ref qrd, .ref qrv, .ref qhi, .ref qfw, .ref qkp])), (qrd, .inl (cI, 20, .inl (upd rd rn x))), (qrv, .inl (cJ, 20, .inr (.inl rv)))] H := hP
          have hD : va_D A [(mm, .inr (5, [.int (nI ly), .int (nI ce), .ref qlo, .ref qlk, .ref qhd, .ref qsf, .ref qpr, .ref qpa, .ref qsk, .long co, .long wo, .int (nI dy), .int da, .int db, .int dr, .int (nI mn), .ref qld, .ref qlz, .int (nI rn), .ref qrd, .ref qrv, .ref qhi, .ref qfw, .ref qkp])), (qrd, .inl (cI, 20, .inl (upd rd rn x))), (qrv, .inl (cJ, 20, .inr (.inl rv)))] := hD
          refine lv_aload_n hx hb dM_read_72 rfl (lv_at hl 1 rfl) ?_
          refine va_get (D := (dC, dI)) (ci := 5) (v := .ref qrv) (C := R_M) (T := T_M) (N := 24) hx hb htw in_M hown hK hP 0 rfl rfl 20 (by decide) (htw _ m_377) (fun _ h9 => h9) rfl dM_read_73 ?_
          refine lv_aload_n hx hb dM_read_76 rfl (lv_at hl 1 rfl) ?_
          refine va_get (D := (dC, dI)) (ci := 5) (v := .int (nI rn)) (C := R_M) (T := T_M) (N := 24) hx hb htw in_M hown hK hP 0 rfl rfl 18 (by decide) (htw _ m_375) (fun _ h9 => h9) rfl dM_read_77 ?_
          refine lv_lload_n hx hb dM_read_80 rfl (lv_at hl 3 rfl) ?_
          refine xa_last hx hb hK hP hD hS 2 1 rfl rfl (i := rn) (by omega) (by decide) dM_read_81 (fun H locs hP hD hS => ?_)
          have hP : va_P (dC, dI) vwCl [(mm, .inr (5, [.int (nI ly), .int (nI ce), .ref qlo, .ref qlk, .ref qhd, .ref qsf, .ref qpr, .ref qpa, .ref qsk, .long co, .long wo, .int (nI dy), .int da, .int db, .int dr, .int (nI mn), .ref qld, .ref qlz, .int (nI rn), .ref qrd, .ref qrv, .ref qhi, .ref qfw, .ref qkp])), (qrd, .inl (cI, 20, .inl (upd rd rn x))), (qrv, .inl (cJ, 20, .inr (.inl (vp_updL rv rn v))))] H := hP
          have hD : va_D A [(mm, .inr (5, [.int (nI ly), .int (nI ce), .ref qlo, .ref qlk, .ref qhd, .ref qsf, .ref qpr, .ref qpa, .ref qsk, .long co, .long wo, .int (nI dy), .int da, .int db, .int dr, .int (nI mn), .ref qld, .ref qlz, .int (nI rn), .ref qrd, .ref qrv, .ref qhi, .ref qfw, .ref qkp])), (qrd, .inl (cI, 20, .inl (upd rd rn x))), (qrv, .inl (cJ, 20, .inr (.inl (vp_updL rv rn v))))] := hD
          refine lv_aload_n hx hb dM_read_82 rfl (lv_at hl 1 rfl) ?_
          refine lv_dup hx hb dM_read_83 rfl ?_
          refine va_get (D := (dC, dI)) (ci := 5) (v := .int (nI rn)) (C := R_M) (T := T_M) (N := 24) hx hb htw in_M hown hK hP 0 rfl rfl 18 (by decide) (htw _ m_375) (fun _ h9 => h9) rfl dM_read_84 ?_
          refine lv_iconst (v := nI 1) hx hb dM_read_87 (by decide) ?_
          refine lv_iadd hx hb dM_read_88 ?_
          refine lv_topi (fun kv ekv => ?_)
          obtain rfl : kv = nI (rn + 1) := by rw [ekv]; exact nI_add _ _
          refine va_put (D := (dC, dI)) (ci := 5) (v := .int (nI (rn + 1))) (ty := .int) (C := R_M) (T := T_M) (N := 24) hx hb htw in_M ty_M tok_M nnm_M hown hK hP hD hS 0 rfl rfl 18 (by decide) (htw _ m_375) (fun _ h9 => h9) rfl (by decide +kernel) rfl rfl (Nat.le_of_ble_eq_true rfl) dM_read_89 (fun H locs hP hD hS => ?_)
          have hP : va_P (dC, dI) vwCl [(mm, .inr (5, [.int (nI ly), .int (nI ce), .ref qlo, .ref qlk, .ref qhd, .ref qsf, .ref qpr, .ref qpa, .ref qsk, .long co, .long wo, .int (nI dy), .int da, .int db, .int dr, .int (nI mn), .ref qld, .ref qlz, .int (nI (rn + 1)), .ref qrd, .ref qrv, .ref qhi, .ref qfw, .ref qkp])), (qrd, .inl (cI, 20, .inl (upd rd rn x))), (qrv, .inl (cJ, 20, .inr (.inl (vp_updL rv rn v))))] H := hP
          have hD : va_D A [(mm, .inr (5, [.int (nI ly), .int (nI ce), .ref qlo, .ref qlk, .ref qhd, .ref qsf, .ref qpr, .ref qpa, .ref qsk, .long co, .long wo, .int (nI dy), .int da, .int db, .int dr, .int (nI mn), .ref qld, .ref qlz, .int (nI (rn + 1)), .ref qrd, .ref qrv, .ref qhi, .ref qfw, .ref qkp])), (qrd, .inl (cI, 20, .inl (upd rd rn x))), (qrv, .inl (cJ, 20, .inr (.inl (vp_updL rv rn v))))] := hD
          refine lv_aload_n hx hb dM_read_92 rfl (lv_at hl 1 rfl) ?_
          refine va_get (D := (dC, dI)) (ci := 5) (v := .int (nI (rn + 1))) (C := R_M) (T := T_M) (N := 24) hx hb htw in_M hown hK hP 0 rfl rfl 18 (by decide) (htw _ m_375) (fun _ h9 => h9) rfl dM_read_93 ?_
          have hP : va_P (dC, dI) vwCl [(mm, .inr (5, [.int (nI ly), .int (nI ce), .ref qlo, .ref qlk, .ref qhd, .ref qsf, .ref qpr, .ref qpa, .ref qsk, .long co, .long wo, .int (nI dy), .int da, .int db, .int dr, .int (nI mn), .ref qld, .ref qlz, .int (nI (rn + 1)), .ref qrd, .ref qrv, .ref qhi, .ref qfw, .ref qkp])), (qrd, .inl (cI, 20, .inl (upd rd rn x))), (qrv, .inl (cJ, 20, .inr (.inl (vp_updL rv rn v))))] H := by first | exact hP | simpa only [] using hP
          have hD : va_D A [(mm, .inr (5, [.int (nI ly), .int (nI ce), .ref qlo, .ref qlk, .ref qhd, .ref qsf, .ref qpr, .ref qpa, .ref qsk, .long co, .long wo, .int (nI dy), .int da, .int db, .int dr, .int (nI mn), .ref qld, .ref qlz, .int (nI (rn + 1)), .ref qrd, .ref qrv, .ref qhi, .ref qfw, .ref qkp])), (qrd, .inl (cI, 20, .inl (upd rd rn x))), (qrv, .inl (cJ, 20, .inr (.inl (vp_updL rv rn v))))] := by first | exact hD | simpa only [] using hD
          exact W.iret (v := nI (rn + 1)) hx hb hr (fun t ht hW => ⟨⟨nI (rn + 1), (), rfl, rfl, by rw [ht]; exact hP, va_K.moved hW.alike hK, hD⟩, hS.F ht⟩) hS.2.2 dM_read_96
        · -- 57 not taken
          rw [nI_eq (by omega) (by omega)] at hc57
          exfalso; omega
set_option maxHeartbeats 4000000 in
set_option maxRecDepth 100000 in
theorem kM_read_bad (l : Launch) (dC : Nat → ClassId) (dI : Nat → Nat → Nat) (cI cJ : ClassId) (mm qlo qlk qhd qsf qpr qpa qsk qld qlz qrd qrv qhi qfw qkp : Nat) (sz : Nat) (x : Int32) (v : Int64) (ly : Nat) (ce : Nat) (co : Int64) (wo : Int64) (dy : Nat) (da : Int32) (db : Int32) (dr : Int32) (mn : Nat) (rn : Nat) (rd : Nat → Int32) (rv : Nat → Int64) (hrn : rn ≤ 20) (hbad : ¬ ((k_ff rd rn).toInt ≤ x.toInt ∧ x.toInt ≤ 400 ∧ 0 ≤ v.toInt ∧ v.toInt ≤ 1000000000000 ∧ rn < 20)) : Met l yM_read wM_read ({ frames := 1, cells := 0, slots := 0, locals := 25 }) (va_Pc [.ref mm, .int x, .long v] (fun U => U.heap.size = sz ∧ va_P (dC, dI) vwCl [(mm, .inr (5, [.int (nI ly), .int (nI ce), .ref qlo, .ref qlk, .ref qhd, .ref qsf, .ref qpr, .ref qpa, .ref qsk, .long co, .long wo, .int (nI dy), .int da, .int db, .int dr, .int (nI mn), .ref qld, .ref qlz, .int (nI rn), .ref qrd, .ref qrv, .ref qhi, .ref qfw, .ref qkp])), (qrd, .inl (cI, 20, .inl rd)), (qrv, .inl (cJ, 20, .inr (.inl rv)))] U.heap ∧ va_K (dC, dI) vwCl [(cI, .int), (cJ, .long)] U ∧ va_D (fun _ => True) [(mm, .inr (5, [.int (nI ly), .int (nI ce), .ref qlo, .ref qlk, .ref qhd, .ref qsf, .ref qpr, .ref qpa, .ref qsk, .long co, .long wo, .int (nI dy), .int da, .int db, .int dr, .int (nI mn), .ref qld, .ref qlz, .int (nI rn), .ref qrd, .ref qrv, .ref qhi, .ref qfw, .ref qkp])), (qrd, .inl (cI, 20, .inl rd)), (qrv, .inl (cJ, 20, .inr (.inl rv)))])) (va_Qi (fun res_ (_ : Unit) => res_ = (-1)) (fun _ t => va_P (dC, dI) vwCl [(mm, .inr (5, [.int (nI ly), .int (nI ce), .ref qlo, .ref qlk, .ref qhd, .ref qsf, .ref qpr, .ref qpa, .ref qsk, .long co, .long wo, .int (nI dy), .int da, .int db, .int dr, .int (nI mn), .ref qld, .ref qlz, .int (nI rn), .ref qrd, .ref qrv, .ref qhi, .ref qfw, .ref qkp])), (qrd, .inl (cI, 20, .inl rd)), (qrv, .inl (cJ, 20, .inr (.inl rv)))] t.heap ∧ va_K (dC, dI) vwCl [(cI, .int), (cJ, .long)] t ∧ va_D (va_A [(mm, .inr (5, [.int (nI ly), .int (nI ce), .ref qlo, .ref qlk, .ref qhd, .ref qsf, .ref qpr, .ref qpa, .ref qsk, .long co, .long wo, .int (nI dy), .int da, .int db, .int dr, .int (nI mn), .ref qld, .ref qlz, .int (nI rn), .ref qrd, .ref qrv, .ref qhi, .ref qfw, .ref qkp])), (qrd, .inl (cI, 20, .inl rd)), (qrv, .inl (cJ, 20, .inr (.inl rv)))] sz) [(mm, .inr (5, [.int (nI ly), .int (nI ce), .ref qlo, .ref qlk, .ref qhd, .ref qsf, .ref qpr, .ref qpa, .ref qsk, .long co, .long wo, .int (nI dy), .int da, .int db, .int dr, .int (nI mn), .ref qld, .ref qlz, .int (nI rn), .ref qrd, .ref qrv, .ref qhi, .ref qfw, .ref qkp])), (qrd, .inl (cI, 20, .inl rd)), (qrv, .inl (cJ, 20, .inr (.inl rv)))]) (va_A [(mm, .inr (5, [.int (nI ly), .int (nI ce), .ref qlo, .ref qlk, .ref qhd, .ref qsf, .ref qpr, .ref qpa, .ref qsk, .long co, .long wo, .int (nI dy), .int da, .int db, .int dr, .int (nI mn), .ref qld, .ref qlz, .int (nI rn), .ref qrd, .ref qrv, .ref qhi, .ref qfw, .ref qkp])), (qrd, .inl (cI, 20, .inl rd)), (qrv, .inl (cJ, 20, .inr (.inl rv)))] sz)) 0 0 (va_A [(mm, .inr (5, [.int (nI ly), .int (nI ce), .ref qlo, .ref qlk, .ref qhd, .ref qsf, .ref qpr, .ref qpa, .ref qsk, .long co, .long wo, .int (nI dy), .int da, .int db, .int dr, .int (nI mn), .ref qld, .ref qlz, .int (nI rn), .ref qrd, .ref qrv, .ref qhi, .ref qfw, .ref qkp])), (qrd, .inl (cI, 20, .inl rd)), (qrv, .inl (cJ, 20, .inr (.inl rv)))] sz) := by
  refine Met.ofW (cc := bM_read) (maxL := 5) (ret := (some .int)) (by decide) rfl ?_
  intro p e s m args below meth c s₁ B hml hv
  obtain ⟨rfl, hsz, hP, hK, hD0⟩ := hv
  have hx := B.exec
  have hb := B.bytes
  have hr := B.returns
  have hts := atoms_spec (ws := wM_read) B.pre
  have hown : s.vm.findClass R_M = some m.cls := findClass_of_methodNamed B.named
  have htw : ∀ w ∈ WA, w.before _ s = true := fun w h => hts w (List.mem_cons_of_mem _ h)
  clear hts
  have hlocks := B.notSynchronized
  subst hsz
  have hD := hD0.self (sz := s.heap.size)
  generalize hAe : va_A [(mm, .inr (5, [.int (nI ly), .int (nI ce), .ref qlo, .ref qlk, .ref qhd, .ref qsf, .ref qpr, .ref qpa, .ref qsk, .long co, .long wo, .int (nI dy), .int da, .int db, .int dr, .int (nI mn), .ref qld, .ref qlz, .int (nI rn), .ref qrd, .ref qrv, .ref qhi, .ref qfw, .ref qkp])), (qrd, .inl (cI, 20, .inl rd)), (qrv, .inl (cJ, 20, .inr (.inl rv)))] s.heap.size = A at hD ⊢
  have hA : ∀ q : Nat, s.heap.size ≤ q → A q := fun q h => by rw [← hAe]; exact Or.inr h
  clear hAe hD0
  have hS : va_S A s.heap s.heap [] := va_S.rf
  have hP : va_P (dC, dI) vwCl [(mm, .inr (5, [.int (nI ly), .int (nI ce), .ref qlo, .ref qlk, .ref qhd, .ref qsf, .ref qpr, .ref qpa, .ref qsk, .long co, .long wo, .int (nI dy), .int da, .int db, .int dr, .int (nI mn), .ref qld, .ref qlz, .int (nI rn), .ref qrd, .ref qrv, .ref qhi, .ref qfw, .ref qkp])), (qrd, .inl (cI, 20, .inl rd)), (qrv, .inl (cJ, 20, .inr (.inl rv)))] s.heap := hP
  have hl := lv_entry ([.ref mm, .int x, .long v]) (n := 5) (Nat.le_of_ble_eq_true rfl)
  rw [lg_entry_eq]
  generalize (lg_sl ([.ref mm, .int x, .long v]) ++ List.replicate (5 - (lg_sl ([.ref mm, .int x, .long v])).length) Slot.unset).toArray = ls at hl ⊢
  have hl : lv_has ls 5 [(0, .ref mm), (1, .int x), (2, .long v)] := hl
  refine lv_aload_n hx hb dM_read_0 rfl (lv_at hl 0 rfl) ?_
  refine va_get (D := (dC, dI)) (ci := 5) (v := .int (nI rn)) (C := R_M) (T := T_M) (N := 24) hx hb htw in_M hown hK hP 0 rfl rfl 18 (by decide) (htw _ m_375) (fun _ h9 => h9) rfl dM_read_1 ?_
  refine lv_if_ne (tgt := 11) hx hb dM_read_4 (by decide) (fun hc4 => ?_) (fun hc4 => ?_)
  · -- 4 taken
    rw [show (0 : Int32) = nI 0 from rfl, nI_eq (by omega) (by omega)] at hc4
    refine lv_aload_n hx hb dM_read_11 rfl (lv_at hl 0 rfl) ?_
    refine va_get (D := (dC, dI)) (ci := 5) (v := .ref qrd) (C := R_M) (T := T_M) (N := 24) hx hb htw in_M hown hK hP 0 rfl rfl 19 (by decide) (htw _ m_376) (fun _ h9 => h9) rfl dM_read_12 ?_
    refine lv_aload_n hx hb dM_read_15 rfl (lv_at hl 0 rfl) ?_
    refine va_get (D := (dC, dI)) (ci := 5) (v := .int (nI rn)) (C := R_M) (T := T_M) (N := 24) hx hb htw in_M hown hK hP 0 rfl rfl 18 (by decide) (htw _ m_375) (fun _ h9 => h9) rfl dM_read_16 ?_
    refine lv_iconst (v := nI 1) hx hb dM_read_19 (by decide) ?_
    refine lv_isub hx hb dM_read_20 ?_
    refine lv_topi (fun kv ekv => ?_)
    obtain rfl : kv = nI (rn - 1) := by rw [ekv]; exact pk_sub (by omega)
    refine xa_iald hx hb hK hP 1 0 rfl rfl (i := (rn - 1)) (by omega) (by decide) dM_read_21 ?_
    refine lv_iconst (v := nI 1) hx hb dM_read_22 (by decide) ?_
    refine lv_iadd hx hb dM_read_23 ?_
    refine lv_topi (fun kv ekv => ?_)
    obtain rfl : k_ff rd rn = kv := (ekv.trans ((if_neg hc4).symm)).symm
    refine lv_istore (lv' := [(4, .int (k_ff rd rn)), (0, .ref mm), (1, .int x), (2, .long v)]) hx hb dM_read_24 hl (by decide) rfl (fun ls hl => ?_)
    refine lv_iload_n hx hb dM_read_26 rfl (lv_at hl 2 rfl) ?_
    refine lv_i2l (v := x.toInt64) hx hb dM_read_27 rfl ?_
    refine lv_iload hx hb dM_read_28 (lv_at hl 0 rfl) ?_
    refine lv_i2l (v := (k_ff rd rn).toInt64) hx hb dM_read_30 rfl ?_
    refine lv_ldc2 (v := 400) hx hb hown (htw _ m_529) dM_read_31 ?_
    have hPc := hP.sub (ws' := []) [] rfl
    have hDc := hD.sub (ws' := []) [] (by decide) rfl
    have hFc := va_free (wc := []) hD hS hA [] rfl
    refine va_calli (va_runS (As := [.long x.toInt64, .long ((k_ff rd rn).toInt64), .long 400]) (rest := []) ⟨hx, hb, hml, hown, htw⟩ (kM_in l dC dI cI cJ s.heap.size x.toInt64 ((k_ff rd rn).toInt64) 400) (va_cwS 3 htw (ws_good m_435 m_436 m_6 m_437) rfl rfl rfl (by decide +kernel) ⟨Nat.le_of_ble_eq_true rfl, Nat.le_of_ble_eq_true rfl⟩) ⟨fun a U g mk q => by obtain ⟨q0, q1, qP, qK, qD⟩ := q; exact ⟨q0, q1, qP, va_K.moved (u := U) (U := U.calling g mk a) (Vm.Alike.refl U.vm) qK, qD⟩, fun U hU hW => ⟨rfl, by rw [hU], by rw [hU]; exact hPc, va_K.moved hW.alike hK, hDc.weaken (fun _ _ _ _ => trivial)⟩⟩ rfl rfl hl.1 rfl (lv_room (Nat.le_of_ble_eq_true rfl)) dM_read_34 ⟨Nat.le_of_ble_eq_true rfl, Nat.le_of_ble_eq_true rfl⟩) hS (fun q _ h => hFc q h) hFc (fun res_ u_ t H1 locs ht hvm hw hB hz1 hk1 hS => ?_)
    obtain ⟨hP1, hK1, hD1⟩ := hB
    rw [ht] at hP1
    obtain ⟨hP, hD⟩ := va_join (wr := [(mm, .inr (5, [.int (nI ly), .int (nI ce), .ref qlo, .ref qlk, .ref qhd, .ref qsf, .ref qpr, .ref qpa, .ref qsk, .long co, .long wo, .int (nI dy), .int da, .int db, .int dr, .int (nI mn), .ref qld, .ref qlz, .int (nI rn), .ref qrd, .ref qrv, .ref qhi, .ref qfw, .ref qkp])), (qrd, .inl (cI, 20, .inl rd)), (qrv, .inl (cJ, 20, .inr (.inl rv)))]) (w1 := []) hP hD [] [0, 1, 2] rfl rfl (by decide) (by decide) hk1 hFc hP1 hD1
    generalize H1 = H at hP hS ⊢
    have hP : va_P (dC, dI) vwCl [(mm, .inr (5, [.int (nI ly), .int (nI ce), .ref qlo, .ref qlk, .ref qhd, .ref qsf, .ref qpr, .ref qpa, .ref qsk, .long co, .long wo, .int (nI dy), .int da, .int db, .int dr, .int (nI mn), .ref qld, .ref qlz, .int (nI rn), .ref qrd, .ref qrv, .ref qhi, .ref qfw, .ref qkp])), (qrd, .inl (cI, 20, .inl rd)), (qrv, .inl (cJ, 20, .inr (.inl rv)))] H := hP
    have hD : va_D A [(mm, .inr (5, [.int (nI ly), .int (nI ce), .ref qlo, .ref qlk, .ref qhd, .ref qsf, .ref qpr, .ref qpa, .ref qsk, .long co, .long wo, .int (nI dy), .int da, .int db, .int dr, .int (nI mn), .ref qld, .ref qlz, .int (nI rn), .ref qrd, .ref qrv, .ref qhi, .ref qfw, .ref qkp])), (qrd, .inl (cI, 20, .inl rd)), (qrv, .inl (cJ, 20, .inr (.inl rv)))] := hD
    clear hPc hDc hFc hP1 hD1 hK1 hk1 hz1 hvm ht
    obtain rfl : kb (((k_ff rd rn).toInt64) ≤ x.toInt64 ∧ x.toInt64 ≤ 400) = res_ := hw.symm
    refine lv_if_eq (tgt := 60) hx hb dM_read_37 (by decide) (fun hc37 => ?_) (fun hc37 => ?_)
    · -- 37 taken
      rw [kb_eq0, k_wl, show ((400 : Int64)).toInt = 400 from by decide] at hc37
      simp only [Int32.toInt_toInt64] at hc37
      refine lv_iconst (v := (-1)) hx hb dM_read_60 (by decide) ?_
      have hP : va_P (dC, dI) vwCl [(mm, .inr (5, [.int (nI ly), .int (nI ce), .ref qlo, .ref qlk, .ref qhd, .ref qsf, .ref qpr, .ref qpa, .ref qsk, .long co, .long wo, .int (nI dy), .int da, .int db, .int dr, .int (nI mn), .ref qld, .ref qlz, .int (nI rn), .ref qrd, .ref qrv, .ref qhi, .ref qfw, .ref qkp])), (qrd, .inl (cI, 20, .inl rd)), (qrv, .inl (cJ, 20, .inr (.inl rv)))] H := by first | exact hP | simpa only [] using hP
      have hD : va_D A [(mm, .inr (5, [.int (nI ly), .int (nI ce), .ref qlo, .ref qlk, .ref qhd, .ref qsf, .ref qpr, .ref qpa, .ref qsk, .long co, .long wo, .int (nI dy), .int da, .int db, .int dr, .int (nI mn), .ref qld, .ref qlz, .int (nI rn), .ref qrd, .ref qrv, .ref qhi, .ref qfw, .ref qkp])), (qrd, .inl (cI, 20, .inl rd)), (qrv, .inl (cJ, 20, .inr (.inl rv)))] := by first | exact hD | simpa only [] using hD
      exact W.iret (v := (-1)) hx hb hr (fun t ht hW => ⟨⟨(-1), (), rfl, rfl, by rw [ht]; exact hP, va_K.moved hW.alike hK, hD⟩, hS.F ht⟩) hS.2.2 dM_read_61
    · -- 37 not taken
      rw [kb_eq0, k_wl, show ((400 : Int64)).toInt = 400 from by decide] at hc37
      simp only [Int32.toInt_toInt64] at hc37
      refine lv_lload_n hx hb dM_read_40 rfl (lv_at hl 3 rfl) ?_
      refine lv_lconst (v := 0) hx hb dM_read_41 (by decide) ?_
      refine lv_ldc2 (v := 1000000000000) hx hb hown (htw _ m_530) dM_read_42 ?_
      have hPc := hP.sub (ws' := []) [] rfl
      have hDc := hD.sub (ws' := []) [] (by decide) rfl
      have hFc := va_free (wc := []) hD hS hA [] rfl
      refine va_calli (va_runS (As := [.long v, .long 0, .long 1000000000000]) (rest := []) ⟨hx, hb, hml, hown, htw⟩ (kM_in l dC dI cI cJ H.size v 0 1000000000000) (va_cwS 3 htw (ws_good m_435 m_436 m_6 m_437) rfl rfl rfl (by decide +kernel) ⟨Nat.le_of_ble_eq_true rfl, Nat.le_of_ble_eq_true rfl⟩) ⟨fun a U g mk q => by obtain ⟨q0, q1, qP, qK, qD⟩ := q; exact ⟨q0, q1, qP, va_K.moved (u := U) (U := U.calling g mk a) (Vm.Alike.refl U.vm) qK, qD⟩, fun U hU hW => ⟨rfl, by rw [hU], by rw [hU]; exact hPc, va_K.moved hW.alike hK, hDc.weaken (fun _ _ _ _ => trivial)⟩⟩ rfl rfl hl.1 rfl (lv_room (Nat.le_of_ble_eq_true rfl)) dM_read_45 ⟨Nat.le_of_ble_eq_true rfl, Nat.le_of_ble_eq_true rfl⟩) hS (fun q _ h => hFc q h) hFc (fun res_ u_ t H1 locs ht hvm hw hB hz1 hk1 hS => ?_)
      obtain ⟨hP1, hK1, hD1⟩ := hB
      rw [ht] at hP1
      obtain ⟨hP, hD⟩ := va_join (wr := [(mm, .inr (5, [.int (nI ly), .int (nI ce), .ref qlo, .ref qlk, .ref qhd, .ref qsf, .ref qpr, .ref qpa, .ref qsk, .long co, .long wo, .int (nI dy), .int da, .int db, .int dr, .int (nI mn), .ref qld, .ref qlz, .int (nI rn), .ref qrd, .ref qrv, .ref qhi, .ref qfw, .ref qkp])), (qrd, .inl (cI, 20, .inl rd)), (qrv, .inl (cJ, 20, .inr (.inl rv)))]) (w1 := []) hP hD [] [0, 1, 2] rfl rfl (by decide) (by decide) hk1 hFc hP1 hD1
      generalize H1 = H at hP hS ⊢
      have hP : va_P (dC, dI) vwCl [(mm, .inr (5, [.int (nI ly), .int (nI ce), .ref qlo, .ref qlk, .ref qhd, .ref qsf, .ref qpr, .ref qpa, .ref qsk, .long co, .long wo, .int (nI dy), .int da, .int db, .int dr, .int (nI mn), .ref qld, .ref qlz, .int (nI rn), .ref qrd, .ref qrv, .ref qhi, .ref qfw, .ref qkp])), (qrd, .inl (cI, 20, .inl rd)), (qrv, .inl (cJ, 20, .inr (.inl rv)))] H := hP
      have hD : va_D A [(mm, .inr (5, [.int (nI ly), .int (nI ce), .ref qlo, .ref qlk, .ref qhd, .ref qsf, .ref qpr, .ref qpa, .ref qsk, .long co, .long wo, .int (nI dy), .int da, .int db, .int dr, .int (nI mn), .ref qld, .ref qlz, .int (nI rn), .ref qrd, .ref qrv, .ref qhi, .ref qfw, .ref qkp])), (qrd, .inl (cI, 20, .inl rd)), (qrv, .inl (cJ, 20, .inr (.inl rv)))] := hD
      clear hPc hDc hFc hP1 hD1 hK1 hk1 hz1 hvm ht
      obtain rfl : kb (0 ≤ v ∧ v ≤ 1000000000000) = res_ := hw.symm
      refine lv_if_eq (tgt := 60) hx hb dM_read_48 (by decide) (fun hc48 => ?_) (fun hc48 => ?_)
      · -- 48 taken
        rw [kb_eq0, k_wl, show ((0 : Int64)).toInt = 0 from by decide, show ((1000000000000 : Int64)).toInt = 1000000000000 from by decide] at hc48
        refine lv_iconst (v := (-1)) hx hb dM_read_60 (by decide) ?_
        have hP : va_P (dC, dI) vwCl [(mm, .inr (5, [.int (nI ly), .int (nI ce), .ref qlo, .ref qlk, .ref qhd, .ref qsf, .ref qpr, .ref qpa, .ref qsk, .long co, .long wo, .int (nI dy), .int da, .int db, .int dr, .int (nI mn), .ref qld, .ref qlz, .int (nI rn), .ref qrd, .ref qrv, .ref qhi, .ref qfw, .ref qkp])), (qrd, .inl (cI, 20, .inl rd)), (qrv, .inl (cJ, 20, .inr (.inl rv)))] H := by first | exact hP | simpa only [] using hP
        have hD : va_D A [(mm, .inr (5, [.int (nI ly), .int (nI ce), .ref qlo, .ref qlk, .ref qhd, .ref qsf, .ref qpr, .ref qpa, .ref qsk, .long co, .long wo, .int (nI dy), .int da, .int db, .int dr, .int (nI mn), .ref qld, .ref qlz, .int (nI rn), .ref qrd, .ref qrv, .ref qhi, .ref qfw, .ref qkp])), (qrd, .inl (cI, 20, .inl rd)), (qrv, .inl (cJ, 20, .inr (.inl rv)))] := by first | exact hD | simpa only [] using hD
        exact W.iret (v := (-1)) hx hb hr (fun t ht hW => ⟨⟨(-1), (), rfl, rfl, by rw [ht]; exact hP, va_K.moved hW.alike hK, hD⟩, hS.F ht⟩) hS.2.2 dM_read_61
      · -- 48 not taken
        rw [kb_eq0, k_wl, show ((0 : Int64)).toInt = 0 from by decide, show ((1000000000000 : Int64)).toInt = 1000000000000 from by decide] at hc48
        refine lv_aload_n hx hb dM_read_51 rfl (lv_at hl 1 rfl) ?_
        refine va_get (D := (dC, dI)) (ci := 5) (v := .int (nI rn)) (C := R_M) (T := T_M) (N := 24) hx hb htw in_M hown hK hP 0 rfl rfl 18 (by decide) (htw _ m_375) (fun _ h9 => h9) rfl dM_read_52 ?_
        refine lv_bipush (v := nI 20) hx hb dM_read_55 (by decide) ?_
        refine lv_icmp_ne (tgt := 62) hx hb dM_read_57 (by decide) (fun hc57 => ?_) (fun hc57 => ?_)
        · -- 57 taken
          rw [nI_eq (by omega) (by omega)] at hc57
          exfalso; omega
        · -- 57 not taken
          rw [nI_eq (by omega) (by omega)] at hc57
          refine lv_iconst (v := (-1)) hx hb dM_read_60 (by decide) ?_
          have hP : va_P (dC, dI) vwCl [(mm, .inr (5, [.int (nI ly), .int (nI ce), .ref qlo, .ref qlk, .ref qhd, .ref qsf, .ref qpr, .ref qpa, .ref qsk, .long co, .long wo, .int (nI dy), .int da, .int db, .int dr, .int (nI mn), .ref qld, .ref qlz, .int (nI rn), .ref qrd, .ref qrv, .ref qhi, .ref qfw, .ref qkp])), (qrd, .inl (cI, 20, .inl rd)), (qrv, .inl (cJ, 20, .inr (.inl rv)))] H := by first | exact hP | simpa only [] using hP
          have hD : va_D A [(mm, .inr (5, [.int (nI ly), .int (nI ce), .ref qlo, .ref qlk, .ref qhd, .ref qsf, .ref qpr, .ref qpa, .ref qsk, .long co, .long wo, .int (nI dy), .int da, .int db, .int dr, .int (nI mn), .ref qld, .ref qlz, .int (nI rn), .ref qrd, .ref qrv, .ref qhi, .ref qfw, .ref qkp])), (qrd, .inl (cI, 20, .inl rd)), (qrv, .inl (cJ, 20, .inr (.inl rv)))] := by first | exact hD | simpa only [] using hD
          exact W.iret (v := (-1)) hx hb hr (fun t ht hW => ⟨⟨(-1), (), rfl, rfl, by rw [ht]; exact hP, va_K.moved hW.alike hK, hD⟩, hS.F ht⟩) hS.2.2 dM_read_61
  · -- 4 not taken
    rw [show (0 : Int32) = nI 0 from rfl, nI_eq (by omega) (by omega)] at hc4
    refine lv_iconst (v := nI 0) hx hb dM_read_7 (by decide) ?_
    refine lv_goto (tgt := 24) hx hb dM_read_8 (by decide) ?_
    refine lv_topi (fun kv ekv => ?_)
    obtain rfl : k_ff rd rn = kv := (ekv.trans ((if_pos hc4).symm)).symm
    refine lv_istore (lv' := [(4, .int (k_ff rd rn)), (0, .ref mm), (1, .int x), (2, .long v)]) hx hb dM_read_24 hl (by decide) rfl (fun ls hl => ?_)
    refine lv_iload_n hx hb dM_read_26 rfl (lv_at hl 2 rfl) ?_
    refine lv_i2l (v := x.toInt64) hx hb dM_read_27 rfl ?_
    refine lv_iload hx hb dM_read_28 (lv_at hl 0 rfl) ?_
    refine lv_i2l (v := (k_ff rd rn).toInt64) hx hb dM_read_30 rfl ?_
    refine lv_ldc2 (v := 400) hx hb hown (htw _ m_529) dM_read_31 ?_
    have hPc := hP.sub (ws' := []) [] rfl
    have hDc := hD.sub (ws' := []) [] (by decide) rfl
    have hFc := va_free (wc := []) hD hS hA [] rfl
    refine va_calli (va_runS (As := [.long x.toInt64, .long ((k_ff rd rn).toInt64), .long 400]) (rest := []) ⟨hx, hb, hml, hown, htw⟩ (kM_in l dC dI cI cJ s.heap.size x.toInt64 ((k_ff rd rn).toInt64) 400) (va_cwS 3 htw (ws_good m_435 m_436 m_6 m_437) rfl rfl rfl (by decide +kernel) ⟨Nat.le_of_ble_eq_true rfl, Nat.le_of_ble_eq_true rfl⟩) ⟨fun a U g mk q => by obtain ⟨q0, q1, qP, qK, qD⟩ := q; exact ⟨q0, q1, qP, va_K.moved (u := U) (U := U.calling g mk a) (Vm.Alike.refl U.vm) qK, qD⟩, fun U hU hW => ⟨rfl, by rw [hU], by rw [hU]; exact hPc, va_K.moved hW.alike hK, hDc.weaken (fun _ _ _ _ => trivial)⟩⟩ rfl rfl hl.1 rfl (lv_room (Nat.le_of_ble_eq_true rfl)) dM_read_34 ⟨Nat.le_of_ble_eq_true rfl, Nat.le_of_ble_eq_true rfl⟩) hS (fun q _ h => hFc q h) hFc (fun res_ u_ t H1 locs ht hvm hw hB hz1 hk1 hS => ?_)
    obtain ⟨hP1, hK1, hD1⟩ := hB
    rw [ht] at hP1
    obtain ⟨hP, hD⟩ := va_join (wr := [(mm, .inr (5, [.int (nI ly), .int (nI ce), .ref qlo, .ref qlk, .ref qhd, .ref qsf, .ref qpr, .ref qpa, .ref qsk, .long co, .long wo, .int (nI dy), .int da, .int db, .int dr, .int (nI mn), .ref qld, .ref qlz, .int (nI rn), .ref qrd, .ref qrv, .ref qhi, .ref qfw, .ref qkp])), (qrd, .inl (cI, 20, .inl rd)), (qrv, .inl (cJ, 20, .inr (.inl rv)))]) (w1 := []) hP hD [] [0, 1, 2] rfl rfl (by decide) (by decide) hk1 hFc hP1 hD1
    generalize H1 = H at hP hS ⊢
    have hP : va_P (dC, dI) vwCl [(mm, .inr (5, [.int (nI ly), .int (nI ce), .ref qlo, .ref qlk, .ref qhd, .ref qsf, .ref qpr, .ref qpa, .ref qsk, .long co, .long wo, .int (nI dy), .int da, .int db, .int dr, .int (nI mn), .ref qld, .ref qlz, .int (nI rn), .ref qrd, .ref qrv, .ref qhi, .ref qfw, .ref qkp])), (qrd, .inl (cI, 20, .inl rd)), (qrv, .inl (cJ, 20, .inr (.inl rv)))] H := hP
    have hD : va_D A [(mm, .inr (5, [.int (nI ly), .int (nI ce), .ref qlo, .ref qlk, .ref qhd, .ref qsf, .ref qpr, .ref qpa, .ref qsk, .long co, .long wo, .int (nI dy), .int da, .int db, .int dr, .int (nI mn), .ref qld, .ref qlz, .int (nI rn), .ref qrd, .ref qrv, .ref qhi, .ref qfw, .ref qkp])), (qrd, .inl (cI, 20, .inl rd)), (qrv, .inl (cJ, 20, .inr (.inl rv)))] := hD
    clear hPc hDc hFc hP1 hD1 hK1 hk1 hz1 hvm ht
    obtain rfl : kb (((k_ff rd rn).toInt64) ≤ x.toInt64 ∧ x.toInt64 ≤ 400) = res_ := hw.symm
    refine lv_if_eq (tgt := 60) hx hb dM_read_37 (by decide) (fun hc37 => ?_) (fun hc37 => ?_)
    · -- 37 taken
      rw [kb_eq0, k_wl, show ((400 : Int64)).toInt = 400 from by decide] at hc37
      simp only [Int32.toInt_toInt64] at hc37
      refine lv_iconst (v := (-1)) hx hb dM_read_60 (by decide) ?_
      have hP : va_P (dC, dI) vwCl [(mm, .inr (5, [.int (nI ly), .int (nI ce), .ref qlo, .ref qlk, .ref qhd, .ref qsf, .ref qpr, .ref qpa, .ref qsk, .long co, .long wo, .int (nI dy), .int da, .int db, .int dr, .int (nI mn), .ref qld, .ref qlz, .int (nI rn), .ref qrd, .ref qrv, .ref qhi, .ref qfw, .ref qkp])), (qrd, .inl (cI, 20, .inl rd)), (qrv, .inl (cJ, 20, .inr (.inl rv)))] H := by first | exact hP | simpa only [] using hP
      have hD : va_D A [(mm, .inr (5, [.int (nI ly), .int (nI ce), .ref qlo, .ref qlk, .ref qhd, .ref qsf, .ref qpr, .ref qpa, .ref qsk, .long co, .long wo, .int (nI dy), .int da, .int db, .int dr, .int (nI mn), .ref qld, .ref qlz, .int (nI rn), .ref qrd, .ref qrv, .ref qhi, .ref qfw, .ref qkp])), (qrd, .inl (cI, 20, .inl rd)), (qrv, .inl (cJ, 20, .inr (.inl rv)))] := by first | exact hD | simpa only [] using hD
      exact W.iret (v := (-1)) hx hb hr (fun t ht hW => ⟨⟨(-1), (), rfl, rfl, by rw [ht]; exact hP, va_K.moved hW.alike hK, hD⟩, hS.F ht⟩) hS.2.2 dM_read_61
    · -- 37 not taken
      rw [kb_eq0, k_wl, show ((400 : Int64)).toInt = 400 from by decide] at hc37
      simp only [Int32.toInt_toInt64] at hc37
      refine lv_lload_n hx hb dM_read_40 rfl (lv_at hl 3 rfl) ?_
      refine lv_lconst (v := 0) hx hb dM_read_41 (by decide) ?_
      refine lv_ldc2 (v := 1000000000000) hx hb hown (htw _ m_530) dM_read_42 ?_
      have hPc := hP.sub (ws' := []) [] rfl
      have hDc := hD.sub (ws' := []) [] (by decide) rfl
      have hFc := va_free (wc := []) hD hS hA [] rfl
      refine va_calli (va_runS (As := [.long v, .long 0, .long 1000000000000]) (rest := []) ⟨hx, hb, hml, hown, htw⟩ (kM_in l dC dI cI cJ H.size v 0 1000000000000) (va_cwS 3 htw (ws_good m_435 m_436 m_6 m_437) rfl rfl rfl (by decide +kernel) ⟨Nat.le_of_ble_eq_true rfl, Nat.le_of_ble_eq_true rfl⟩) ⟨fun a U g mk q => by obtain ⟨q0, q1, qP, qK, qD⟩ := q; exact ⟨q0, q1, qP, va_K.moved (u := U) (U := U.calling g mk a) (Vm.Alike.refl U.vm) qK, qD⟩, fun U hU hW => ⟨rfl, by rw [hU], by rw [hU]; exact hPc, va_K.moved hW.alike hK, hDc.weaken (fun _ _ _ _ => trivial)⟩⟩ rfl rfl hl.1 rfl (lv_room (Nat.le_of_ble_eq_true rfl)) dM_read_45 ⟨Nat.le_of_ble_eq_true rfl, Nat.le_of_ble_eq_true rfl⟩) hS (fun q _ h => hFc q h) hFc (fun res_ u_ t H1 locs ht hvm hw hB hz1 hk1 hS => ?_)
      obtain ⟨hP1, hK1, hD1⟩ := hB
      rw [ht] at hP1
      obtain ⟨hP, hD⟩ := va_join (wr := [(mm, .inr (5, [.int (nI ly), .int (nI ce), .ref qlo, .ref qlk, .ref qhd, .ref qsf, .ref qpr, .ref qpa, .ref qsk, .long co, .long wo, .int (nI dy), .int da, .int db, .int dr, .int (nI mn), .ref qld, .ref qlz, .int (nI rn), .ref qrd, .ref qrv, .ref qhi, .ref qfw, .ref qkp])), (qrd, .inl (cI, 20, .inl rd)), (qrv, .inl (cJ, 20, .inr (.inl rv)))]) (w1 := []) hP hD [] [0, 1, 2] rfl rfl (by decide) (by decide) hk1 hFc hP1 hD1
      generalize H1 = H at hP hS ⊢
      have hP : va_P (dC, dI) vwCl [(mm, .inr (5, [.int (nI ly), .int (nI ce), .ref qlo, .ref qlk, .ref qhd, .ref qsf, .ref qpr, .ref qpa, .ref qsk, .long co, .long wo, .int (nI dy), .int da, .int db, .int dr, .int (nI mn), .ref qld, .ref qlz, .int (nI rn), .ref qrd, .ref qrv, .ref qhi, .ref qfw, .ref qkp])), (qrd, .inl (cI, 20, .inl rd)), (qrv, .inl (cJ, 20, .inr (.inl rv)))] H := hP
      have hD : va_D A [(mm, .inr (5, [.int (nI ly), .int (nI ce), .ref qlo, .ref qlk, .ref qhd, .ref qsf, .ref qpr, .ref qpa, .ref qsk, .long co, .long wo, .int (nI dy), .int da, .int db, .int dr, .int (nI mn), .ref qld, .ref qlz, .int (nI rn), .ref qrd, .ref qrv, .ref qhi, .ref qfw, .ref qkp])), (qrd, .inl (cI, 20, .inl rd)), (qrv, .inl (cJ, 20, .inr (.inl rv)))] := hD
      clear hPc hDc hFc hP1 hD1 hK1 hk1 hz1 hvm ht
      obtain rfl : kb (0 ≤ v ∧ v ≤ 1000000000000) = res_ := hw.symm
      refine lv_if_eq (tgt := 60) hx hb dM_read_48 (by decide) (fun hc48 => ?_) (fun hc48 => ?_)
      · -- 48 taken
        rw [kb_eq0, k_wl, show ((0 : Int64)).toInt = 0 from by decide, show ((1000000000000 : Int64)).toInt = 1000000000000 from by decide] at hc48
        refine lv_iconst (v := (-1)) hx hb dM_read_60 (by decide) ?_
        have hP : va_P (dC, dI) vwCl [(mm, .inr (5, [.int (nI ly), .int (nI ce), .ref qlo, .ref qlk, .ref qhd, .ref qsf, .ref qpr, .ref qpa, .ref qsk, .long co, .long wo, .int (nI dy), .int da, .int db, .int dr, .int (nI mn), .ref qld, .ref qlz, .int (nI rn), .ref qrd, .ref qrv, .ref qhi, .ref qfw, .ref qkp])), (qrd, .inl (cI, 20, .inl rd)), (qrv, .inl (cJ, 20, .inr (.inl rv)))] H := by first | exact hP | simpa only [] using hP
        have hD : va_D A [(mm, .inr (5, [.int (nI ly), .int (nI ce), .ref qlo, .ref qlk, .ref qhd, .ref qsf, .ref qpr, .ref qpa, .ref qsk, .long co, .long wo, .int (nI dy), .int da, .int db, .int dr, .int (nI mn), .ref qld, .ref qlz, .int (nI rn), .ref qrd, .ref qrv, .ref qhi, .ref qfw, .ref qkp])), (qrd, .inl (cI, 20, .inl rd)), (qrv, .inl (cJ, 20, .inr (.inl rv)))] := by first | exact hD | simpa only [] using hD
        exact W.iret (v := (-1)) hx hb hr (fun t ht hW => ⟨⟨(-1), (), rfl, rfl, by rw [ht]; exact hP, va_K.moved hW.alike hK, hD⟩, hS.F ht⟩) hS.2.2 dM_read_61
      · -- 48 not taken
        rw [kb_eq0, k_wl, show ((0 : Int64)).toInt = 0 from by decide, show ((1000000000000 : Int64)).toInt = 1000000000000 from by decide] at hc48
        refine lv_aload_n hx hb dM_read_51 rfl (lv_at hl 1 rfl) ?_
        refine va_get (D := (dC, dI)) (ci := 5) (v := .int (nI rn)) (C := R_M) (T := T_M) (N := 24) hx hb htw in_M hown hK hP 0 rfl rfl 18 (by decide) (htw _ m_375) (fun _ h9 => h9) rfl dM_read_52 ?_
        refine lv_bipush (v := nI 20) hx hb dM_read_55 (by decide) ?_
        refine lv_icmp_ne (tgt := 62) hx hb dM_read_57 (by decide) (fun hc57 => ?_) (fun hc57 => ?_)
        · -- 57 taken
          rw [nI_eq (by omega) (by omega)] at hc57
          exfalso; omega
        · -- 57 not taken
          rw [nI_eq (by omega) (by omega)] at hc57
          refine lv_iconst (v := (-1)) hx hb dM_read_60 (by decide) ?_
          have hP : va_P (dC, dI) vwCl [(mm, .inr (5, [.int (nI ly), .int (nI ce), .ref qlo, .ref qlk, .ref qhd, .ref qsf, .ref qpr, .ref qpa, .ref qsk, .long co, .long wo, .int (nI dy), .int da, .int db, .int dr, .int (nI mn), .ref qld, .ref qlz, .int (nI rn), .ref qrd, .ref qrv, .ref qhi, .ref qfw, .ref qkp])), (qrd, .inl (cI, 20, .inl rd)), (qrv, .inl (cJ, 20, .inr (.inl rv)))] H := by first | exact hP | simpa only [] using hP
          have hD : va_D A [(mm, .inr (5, [.int (nI ly), .int (nI ce), .ref qlo, .ref qlk, .ref qhd, .ref qsf, .ref qpr, .ref qpa, .ref qsk, .long co, .long wo, .int (nI dy), .int da, .int db, .int dr, .int (nI mn), .ref qld, .ref qlz, .int (nI rn), .ref qrd, .ref qrv, .ref qhi, .ref qfw, .ref qkp])), (qrd, .inl (cI, 20, .inl rd)), (qrv, .inl (cJ, 20, .inr (.inl rv)))] := by first | exact hD | simpa only [] using hD
          exact W.iret (v := (-1)) hx hb hr (fun t ht hW => ⟨⟨(-1), (), rfl, rfl, by rw [ht]; exact hP, va_K.moved hW.alike hK, hD⟩, hS.F ht⟩) hS.2.2 dM_read_61
set_option maxHeartbeats 4000000 in
set_option maxRecDepth 100000 in
theorem kM_off_ok (l : Launch) (dC : Nat → ClassId) (dI : Nat → Nat → Nat) (cI cJ : ClassId) (mm qlo qlk qhd qsf qpr qpa qsk qld qlz qrd qrv qhi qfw qkp : Nat) (sz : Nat) (v : Int64) (ly : Nat) (ce : Nat) (co : Int64) (wo : Int64) (dy : Nat) (da : Int32) (db : Int32) (dr : Int32) (mn : Nat) (rn : Nat) (rd : Nat → Int32) (rv : Nat → Int64) (mi : Nat → Int64) (hrn : rn ≤ 20) (hdy : dy ≤ 400) (hrd : ∀ i, i < rn → 0 ≤ (rd i).toInt ∧ k_d rd i ≤ 400) (hv : ¬ v < 0) : Met l yM_off wM_off ({ frames := 0, cells := 0, slots := 0, locals := 0 }) (va_Pc [.ref mm, .long v] (fun U => U.heap.size = sz ∧ va_P (dC, dI) vwCl [(mm, .inr (5, [.int (nI ly), .int (nI ce), .ref qlo, .ref qlk, .ref qhd, .ref qsf, .ref qpr, .ref qpa, .ref qsk, .long co, .long wo, .int (nI dy), .int da, .int db, .int dr, .int (nI mn), .ref qld, .ref qlz, .int (nI rn), .ref qrd, .ref qrv, .ref qhi, .ref qfw, .ref qkp])), (qrd, .inl (cI, 20, .inl rd)), (qrv, .inl (cJ, 20, .inr (.inl rv))), (qhi, .inl (cJ, 401, .inr (.inl mi)))] U.heap ∧ va_K (dC, dI) vwCl [(cI, .int), (cJ, .long)] U ∧ va_D (fun _ => True) [(mm, .inr (5, [.int (nI ly), .int (nI ce), .ref qlo, .ref qlk, .ref qhd, .ref qsf, .ref qpr, .ref qpa, .ref qsk, .long co, .long wo, .int (nI dy), .int da, .int db, .int dr, .int (nI mn), .ref qld, .ref qlz, .int (nI rn), .ref qrd, .ref qrv, .ref qhi, .ref qfw, .ref qkp])), (qrd, .inl (cI, 20, .inl rd)), (qrv, .inl (cJ, 20, .inr (.inl rv))), (qhi, .inl (cJ, 401, .inr (.inl mi)))])) (va_Qi (fun res_ (_ : Unit) => res_ = nI (k_off rd rv mi dy v rn)) (fun _ t => va_P (dC, dI) vwCl [(mm, .inr (5, [.int (nI ly), .int (nI ce), .ref qlo, .ref qlk, .ref qhd, .ref qsf, .ref qpr, .ref qpa, .ref qsk, .long co, .long wo, .int (nI dy), .int da, .int db, .int dr, .int (nI mn), .ref qld, .ref qlz, .int (nI rn), .ref qrd, .ref qrv, .ref qhi, .ref qfw, .ref qkp])), (qrd, .inl (cI, 20, .inl rd)), (qrv, .inl (cJ, 20, .inr (.inl rv))), (qhi, .inl (cJ, 401, .inr (.inl mi)))] t.heap ∧ va_K (dC, dI) vwCl [(cI, .int), (cJ, .long)] t ∧ va_D (va_A [(mm, .inr (5, [.int (nI ly), .int (nI ce), .ref qlo, .ref qlk, .ref qhd, .ref qsf, .ref qpr, .ref qpa, .ref qsk, .long co, .long wo, .int (nI dy), .int da, .int db, .int dr, .int (nI mn), .ref qld, .ref qlz, .int (nI rn), .ref qrd, .ref qrv, .ref qhi, .ref qfw, .ref qkp])), (qrd, .inl (cI, 20, .inl rd)), (qrv, .inl (cJ, 20, .inr (.inl rv))), (qhi, .inl (cJ, 401, .inr (.inl mi)))] sz) [(mm, .inr (5, [.int (nI ly), .int (nI ce), .ref qlo, .ref qlk, .ref qhd, .ref qsf, .ref qpr, .ref qpa, .ref qsk, .long co, .long wo, .int (nI dy), .int da, .int db, .int dr, .int (nI mn), .ref qld, .ref qlz, .int (nI rn), .ref qrd, .ref qrv, .ref qhi, .ref qfw, .ref qkp])), (qrd, .inl (cI, 20, .inl rd)), (qrv, .inl (cJ, 20, .inr (.inl rv))), (qhi, .inl (cJ, 401, .inr (.inl mi)))]) (va_A [(mm, .inr (5, [.int (nI ly), .int (nI ce), .ref qlo, .ref qlk, .ref qhd, .ref qsf, .ref qpr, .ref qpa, .ref qsk, .long co, .long wo, .int (nI dy), .int da, .int db, .int dr, .int (nI mn), .ref qld, .ref qlz, .int (nI rn), .ref qrd, .ref qrv, .ref qhi, .ref qfw, .ref qkp])), (qrd, .inl (cI, 20, .inl rd)), (qrv, .inl (cJ, 20, .inr (.inl rv))), (qhi, .inl (cJ, 401, .inr (.inl mi)))] sz)) 0 0 (va_A [(mm, .inr (5, [.int (nI ly), .int (nI ce), .ref qlo, .ref qlk, .ref qhd, .ref qsf, .ref qpr, .ref qpa, .ref qsk, .long co, .long wo, .int (nI dy), .int da, .int db, .int dr, .int (nI mn), .ref qld, .ref qlz, .int (nI rn), .ref qrd, .ref qrv, .ref qhi, .ref qfw, .ref qkp])), (qrd, .inl (cI, 20, .inl rd)), (qrv, .inl (cJ, 20, .inr (.inl rv))), (qhi, .inl (cJ, 401, .inr (.inl mi)))] sz) := by
  refine Met.ofW (cc := bM_off) (maxL := 7) (ret := (some .int)) (by decide) rfl ?_
  intro p e s m args below meth c s₁ B hml hv
  obtain ⟨rfl, hsz, hP, hK, hD0⟩ := hv
  have hx := B.exec
  have hb := B.bytes
  have hr := B.returns
  have hts := atoms_spec (ws := wM_off) B.pre
  have hown : s.vm.findClass R_M = some m.cls := findClass_of_methodNamed B.named
  have htw : ∀ w ∈ WA, w.before _ s = true := fun w h => hts w (List.mem_cons_of_mem _ h)
  clear hts
  have hlocks := B.notSynchronized
  subst hsz
  have hD := hD0.self (sz := s.heap.size)
  generalize hAe : va_A [(mm, .inr (5, [.int (nI ly), .int (nI ce), .ref qlo, .ref qlk, .ref qhd, .ref qsf, .ref qpr, .ref qpa, .ref qsk, .long co, .long wo, .int (nI dy), .int da, .int db, .int dr, .int (nI mn), .ref qld, .ref qlz, .int (nI rn), .ref qrd, .ref qrv, .ref qhi, .ref qfw, .ref qkp])), (qrd, .inl (cI, 20, .inl rd)), (qrv, .inl (cJ, 20, .inr (.inl rv))), (qhi, .inl (cJ, 401, .inr (.inl mi)))] s.heap.size = A at hD ⊢
  have hA : ∀ q : Nat, s.heap.size ≤ q → A q := fun q h => by rw [← hAe]; exact Or.inr h
  clear hAe hD0
  have hS : va_S A s.heap s.heap [] := va_S.rf
  have hP : va_P (dC, dI) vwCl [(mm, .inr (5, [.int (nI ly), .int (nI ce), .ref qlo, .ref qlk, .ref qhd, .ref qsf, .ref qpr, .ref qpa, .ref qsk, .long co, .long wo, .int (nI dy), .int da, .int db, .int dr, .int (nI mn), .ref qld, .ref qlz, .int (nI rn), .ref qrd, .ref qrv, .ref qhi, .ref qfw, .ref qkp])), (qrd, .inl (cI, 20, .inl rd)), (qrv, .inl (cJ, 20, .inr (.inl rv))), (qhi, .inl (cJ, 401, .inr (.inl mi)))] s.heap := hP
  have hl := lv_entry ([.ref mm, .long v]) (n := 7) (Nat.le_of_ble_eq_true rfl)
  rw [lg_entry_eq]
  generalize (lg_sl ([.ref mm, .long v]) ++ List.replicate (7 - (lg_sl ([.ref mm, .long v])).length) Slot.unset).toArray = ls at hl ⊢
  have hl : lv_has ls 7 [(0, .ref mm), (1, .long v)] := hl
  refine lv_lload_n hx hb dM_off_0 rfl (lv_at hl 1 rfl) ?_
  refine lv_lconst (v := 0) hx hb dM_off_1 (by decide) ?_
  refine W.lcmp hx hb dM_off_2 ?_
  refine lv_if_ge (tgt := 8) hx hb dM_off_3 (by decide) (fun hc3 => ?_) (fun hc3 => ?_)
  · -- 3 taken
    rw [lg_cmp_ge] at hc3
    refine lv_iconst (v := nI 0) hx hb dM_off_8 (by decide) ?_
    refine lv_istore_n (lv' := [(3, .int (nI 0)), (0, .ref mm), (1, .long v)]) hx hb dM_off_9 rfl hl (by decide) rfl (fun ls hl => ?_)
    refine lv_iconst (v := nI 0) hx hb dM_off_10 (by decide) ?_
    refine lv_istore (lv' := [(4, .int (nI 0)), (3, .int (nI 0)), (0, .ref mm), (1, .long v)]) hx hb dM_off_11 hl (by decide) rfl (fun ls hl => ?_)
    -- the loop at 13
    have hP : va_P (dC, dI) vwCl [(mm, .inr (5, [.int (nI ly), .int (nI ce), .ref qlo, .ref qlk, .ref qhd, .ref qsf, .ref qpr, .ref qpa, .ref qsk, .long co, .long wo, .int (nI dy), .int da, .int db, .int dr, .int (nI mn), .ref qld, .ref qlz, .int (nI rn), .ref qrd, .ref qrv, .ref qhi, .ref qfw, .ref qkp])), (qrd, .inl (cI, 20, .inl rd)), (qrv, .inl (cJ, 20, .inr (.inl rv))), (qhi, .inl (cJ, 401, .inr (.inl mi)))] s.heap := by first | exact hP | simpa only [] using hP
    have hD : va_D A [(mm, .inr (5, [.int (nI ly), .int (nI ce), .ref qlo, .ref qlk, .ref qhd, .ref qsf, .ref qpr, .ref qpa, .ref qsk, .long co, .long wo, .int (nI dy), .int da, .int db, .int dr, .int (nI mn), .ref qld, .ref qlz, .int (nI rn), .ref qrd, .ref qrv, .ref qhi, .ref qfw, .ref qkp])), (qrd, .inl (cI, 20, .inl rd)), (qrv, .inl (cJ, 20, .inr (.inl rv))), (qhi, .inl (cJ, 401, .inr (.inl mi)))] := by first | exact hD | simpa only [] using hD
    refine x_loop (N := rn) (I := fun i H locs ls => va_P (dC, dI) vwCl [(mm, .inr (5, [.int (nI ly), .int (nI ce), .ref qlo, .ref qlk, .ref qhd, .ref qsf, .ref qpr, .ref qpa, .ref qsk, .long co, .long wo, .int (nI dy), .int da, .int db, .int dr, .int (nI mn), .ref qld, .ref qlz, .int (nI rn), .ref qrd, .ref qrv, .ref qhi, .ref qfw, .ref qkp])), (qrd, .inl (cI, 20, .inl rd)), (qrv, .inl (cJ, 20, .inr (.inl rv))), (qhi, .inl (cJ, 401, .inr (.inl mi)))] H ∧ va_D A [(mm, .inr (5, [.int (nI ly), .int (nI ce), .ref qlo, .ref qlk, .ref qhd, .ref qsf, .ref qpr, .ref qpa, .ref qsk, .long co, .long wo, .int (nI dy), .int da, .int db, .int dr, .int (nI mn), .ref qld, .ref qlz, .int (nI rn), .ref qrd, .ref qrv, .ref qhi, .ref qfw, .ref qkp])), (qrd, .inl (cI, 20, .inl rd)), (qrv, .inl (cJ, 20, .inr (.inl rv))), (qhi, .inl (cJ, 401, .inr (.inl mi)))] ∧ va_S A s.heap H locs ∧ lv_has ls 7 [(0, .ref mm), (1, .long v), (3, .int (nI (k_off rd rv mi dy v i))), (4, .int (nI i))]) (i0 := 0) ?_ (Nat.zero_le _) ⟨hP, hD, hS, lv_sub hl [2, 3, 1, 0] rfl⟩
    intro i hi ih13 H locs ls hI
    obtain ⟨hP, hD, hS, hl⟩ := hI
    refine lv_iload hx hb dM_off_13 (lv_at hl 3 rfl) ?_
    refine lv_aload_n hx hb dM_off_15 rfl (lv_at hl 0 rfl) ?_
    refine va_get (D := (dC, dI)) (ci := 5) (v := .int (nI rn)) (C := R_M) (T := T_M) (N := 24) hx hb htw in_M hown hK hP 0 rfl rfl 18 (by decide) (htw _ m_375) (fun _ h9 => h9) rfl dM_off_16 ?_
    refine lv_icmp_ge (tgt := 92) hx hb dM_off_19 (by decide) (fun hc19 => ?_) (fun hc19 => ?_)
    · -- 19 taken
      rw [nI_leI (by omega) (by omega)] at hc19
      obtain rfl : rn = i := by omega
      refine lv_iload_n hx hb dM_off_92 rfl (lv_at hl 2 rfl) ?_
      have hP : va_P (dC, dI) vwCl [(mm, .inr (5, [.int (nI ly), .int (nI ce), .ref qlo, .ref qlk, .ref qhd, .ref qsf, .ref qpr, .ref qpa, .ref qsk, .long co, .long wo, .int (nI dy), .int da, .int db, .int dr, .int (nI mn), .ref qld, .ref qlz, .int (nI rn), .ref qrd, .ref qrv, .ref qhi, .ref qfw, .ref qkp])), (qrd, .inl (cI, 20, .inl rd)), (qrv, .inl (cJ, 20, .inr (.inl rv))), (qhi, .inl (cJ, 401, .inr (.inl mi)))] H := by first | exact hP | simpa only [] using hP
      have hD : va_D A [(mm, .inr (5, [.int (nI ly), .int (nI ce), .ref qlo, .ref qlk, .ref qhd, .ref qsf, .ref qpr, .ref qpa, .ref qsk, .long co, .long wo, .int (nI dy), .int da, .int db, .int dr, .int (nI mn), .ref qld, .ref qlz, .int (nI rn), .ref qrd, .ref qrv, .ref qhi, .ref qfw, .ref qkp])), (qrd, .inl (cI, 20, .inl rd)), (qrv, .inl (cJ, 20, .inr (.inl rv))), (qhi, .inl (cJ, 401, .inr (.inl mi)))] := by first | exact hD | simpa only [] using hD
      exact W.iret (v := nI (k_off rd rv mi dy v rn)) hx hb hr (fun t ht hW => ⟨⟨nI (k_off rd rv mi dy v rn), (), rfl, rfl, by rw [ht]; exact hP, va_K.moved hW.alike hK, hD⟩, hS.F ht⟩) hS.2.2 dM_off_93
    · -- 19 not taken
      rw [nI_leI (by omega) (by omega)] at hc19
      refine lv_aload_n hx hb dM_off_22 rfl (lv_at hl 0 rfl) ?_
      refine va_get (D := (dC, dI)) (ci := 5) (v := .ref qrd) (C := R_M) (T := T_M) (N := 24) hx hb htw in_M hown hK hP 0 rfl rfl 19 (by decide) (htw _ m_376) (fun _ h9 => h9) rfl dM_off_23 ?_
      refine lv_iload hx hb dM_off_26 (lv_at hl 3 rfl) ?_
      refine xa_iald hx hb hK hP 1 0 rfl rfl (i := i) (by omega) (by decide) dM_off_28 ?_
      have hdi : k_d rd i ≤ 400 := (hrd i (by omega)).2
      refine lv_topi (fun kv ekv => ?_)
      obtain rfl : nI (k_d rd i) = kv := (ekv.trans (k_nI (hrd i (by omega)).1)).symm
      refine lv_aload_n hx hb dM_off_29 rfl (lv_at hl 0 rfl) ?_
      refine va_get (D := (dC, dI)) (ci := 5) (v := .int (nI dy)) (C := R_M) (T := T_M) (N := 24) hx hb htw in_M hown hK hP 0 rfl rfl 11 (by decide) (htw _ m_368) (fun _ h9 => h9) rfl dM_off_30 ?_
      refine lv_icmp_gt (tgt := 86) hx hb dM_off_33 (by decide) (fun hc33 => ?_) (fun hc33 => ?_)
      · -- 33 taken
        rw [nI_ltI (by omega) (by omega)] at hc33
        refine lv_iinc (v := nI (i + 1)) (lv' := [(4, .int (nI (i + 1))), (0, .ref mm), (1, .long v), (3, .int (nI (k_off rd rv mi dy v i)))]) hx hb dM_off_86 hl (k := 3) rfl (nI_1 _) (by decide) rfl (fun ls hl => ?_)
        refine lv_goto (tgt := 13) hx hb dM_off_89 (by decide) ?_
        have hP : va_P (dC, dI) vwCl [(mm, .inr (5, [.int (nI ly), .int (nI ce), .ref qlo, .ref qlk, .ref qhd, .ref qsf, .ref qpr, .ref qpa, .ref qsk, .long co, .long wo, .int (nI dy), .int da, .int db, .int dr, .int (nI mn), .ref qld, .ref qlz, .int (nI rn), .ref qrd, .ref qrv, .ref qhi, .ref qfw, .ref qkp])), (qrd, .inl (cI, 20, .inl rd)), (qrv, .inl (cJ, 20, .inr (.inl rv))), (qhi, .inl (cJ, 401, .inr (.inl mi)))] H := by first | exact hP | simpa only [] using hP
        have hD : va_D A [(mm, .inr (5, [.int (nI ly), .int (nI ce), .ref qlo, .ref qlk, .ref qhd, .ref qsf, .ref qpr, .ref qpa, .ref qsk, .long co, .long wo, .int (nI dy), .int da, .int db, .int dr, .int (nI mn), .ref qld, .ref qlz, .int (nI rn), .ref qrd, .ref qrv, .ref qhi, .ref qfw, .ref qkp])), (qrd, .inl (cI, 20, .inl rd)), (qrv, .inl (cJ, 20, .inr (.inl rv))), (qhi, .inl (cJ, 401, .inr (.inl mi)))] := by first | exact hD | simpa only [] using hD
        have eq1 : (nI (k_off rd rv mi dy v i)) = nI (k_off rd rv mi dy v (i + 1)) := congrArg nI (k_off_f (fun h => by omega))
        rw [eq1] at hl
        exact ih13 (by omega) _ _ _ ⟨hP, hD, hS, lv_sub hl [1, 2, 3, 0] rfl⟩
      · -- 33 not taken
        rw [nI_ltI (by omega) (by omega)] at hc33
        refine lv_aload_n hx hb dM_off_36 rfl (lv_at hl 0 rfl) ?_
        refine va_get (D := (dC, dI)) (ci := 5) (v := .ref qrv) (C := R_M) (T := T_M) (N := 24) hx hb htw in_M hown hK hP 0 rfl rfl 20 (by decide) (htw _ m_377) (fun _ h9 => h9) rfl dM_off_37 ?_
        refine lv_iload hx hb dM_off_40 (lv_at hl 3 rfl) ?_
        refine xa_lald hx hb hK hP 2 1 rfl rfl (i := i) (by omega) (by decide) dM_off_42 ?_
        refine lv_aload_n hx hb dM_off_43 rfl (lv_at hl 0 rfl) ?_
        refine va_get (D := (dC, dI)) (ci := 5) (v := .ref qhi) (C := R_M) (T := T_M) (N := 24) hx hb htw in_M hown hK hP 0 rfl rfl 21 (by decide) (htw _ m_378) (fun _ h9 => h9) rfl dM_off_44 ?_
        refine lv_aload_n hx hb dM_off_47 rfl (lv_at hl 0 rfl) ?_
        refine va_get (D := (dC, dI)) (ci := 5) (v := .ref qrd) (C := R_M) (T := T_M) (N := 24) hx hb htw in_M hown hK hP 0 rfl rfl 19 (by decide) (htw _ m_376) (fun _ h9 => h9) rfl dM_off_48 ?_
        refine lv_iload hx hb dM_off_51 (lv_at hl 3 rfl) ?_
        refine xa_iald hx hb hK hP 1 0 rfl rfl (i := i) (by omega) (by decide) dM_off_53 ?_
        refine lv_topi (fun kv ekv => ?_)
        obtain rfl : nI (k_d rd i) = kv := (ekv.trans (k_nI (hrd i (by omega)).1)).symm
        refine xa_lald hx hb hK hP 3 1 rfl rfl (i := (k_d rd i)) (by omega) (by decide) dM_off_54 ?_
        refine lv_lsub hx hb dM_off_55 ?_
        refine lv_lstore (lv' := [(5, .long ((rv i) - (mi (k_d rd i)))), (0, .ref mm), (1, .long v), (3, .int (nI (k_off rd rv mi dy v i))), (4, .int (nI i))]) hx hb dM_off_56 hl (by decide) rfl (fun ls hl => ?_)
        refine lv_iload_n hx hb dM_off_58 rfl (lv_at hl 3 rfl) ?_
        refine lv_lload hx hb dM_off_59 (lv_at hl 0 rfl) ?_
        refine lv_lconst (v := 0) hx hb dM_off_61 (by decide) ?_
        refine W.lcmp hx hb dM_off_62 ?_
        refine lv_if_ge (tgt := 72) hx hb dM_off_63 (by decide) (fun hc63 => ?_) (fun hc63 => ?_)
        · -- 63 taken
          rw [lg_cmp_ge] at hc63
          refine lv_lload hx hb dM_off_72 (lv_at hl 0 rfl) ?_
          refine lv_topl (fun kv ekv => ?_)
          obtain rfl : k_ab (rv i - mi (k_d rd i)) = kv := (ekv.trans (k_ab1 hc63)).symm
          refine lv_lload_n hx hb dM_off_74 rfl (lv_at hl 2 rfl) ?_
          refine W.lcmp hx hb dM_off_75 ?_
          refine lv_if_le (tgt := 83) hx hb dM_off_76 (by decide) (fun hc76 => ?_) (fun hc76 => ?_)
          · -- 76 taken
            rw [lg_cmp_le] at hc76
            refine lv_iconst (v := nI 0) hx hb dM_off_83 (by decide) ?_
            refine lv_iadd hx hb dM_off_84 ?_
            refine lv_topi (fun kv ekv => ?_)
            obtain rfl : kv = nI ((k_off rd rv mi dy v i) + 0) := by rw [ekv]; exact nI_add _ _
            refine lv_istore_n (lv' := [(3, .int (nI ((k_off rd rv mi dy v i) + 0))), (5, .long ((rv i) - (mi (k_d rd i)))), (0, .ref mm), (1, .long v), (4, .int (nI i))]) hx hb dM_off_85 rfl hl (by decide) rfl (fun ls hl => ?_)
            refine lv_iinc (v := nI (i + 1)) (lv' := [(4, .int (nI (i + 1))), (3, .int (nI ((k_off rd rv mi dy v i) + 0))), (5, .long ((rv i) - (mi (k_d rd i)))), (0, .ref mm), (1, .long v)]) hx hb dM_off_86 hl (k := 4) rfl (nI_1 _) (by decide) rfl (fun ls hl => ?_)
            refine lv_goto (tgt := 13) hx hb dM_off_89 (by decide) ?_
            have hP : va_P (dC, dI) vwCl [(mm, .inr (5, [.int (nI ly), .int (nI ce), .ref qlo, .ref qlk, .ref qhd, .ref qsf, .ref qpr, .ref qpa, .ref qsk, .long co, .long wo, .int (nI dy), .int da, .int db, .int dr, .int (nI mn), .ref qld, .ref qlz, .int (nI rn), .ref qrd, .ref qrv, .ref qhi, .ref qfw, .ref qkp])), (qrd, .inl (cI, 20, .inl rd)), (qrv, .inl (cJ, 20, .inr (.inl rv))), (qhi, .inl (cJ, 401, .inr (.inl mi)))] H := by first | exact hP | simpa only [] using hP
            have hD : va_D A [(mm, .inr (5, [.int (nI ly), .int (nI ce), .ref qlo, .ref qlk, .ref qhd, .ref qsf, .ref qpr, .ref qpa, .ref qsk, .long co, .long wo, .int (nI dy), .int da, .int db, .int dr, .int (nI mn), .ref qld, .ref qlz, .int (nI rn), .ref qrd, .ref qrv, .ref qhi, .ref qfw, .ref qkp])), (qrd, .inl (cI, 20, .inl rd)), (qrv, .inl (cJ, 20, .inr (.inl rv))), (qhi, .inl (cJ, 401, .inr (.inl mi)))] := by first | exact hD | simpa only [] using hD
            have eq2 : (nI ((k_off rd rv mi dy v i) + 0)) = nI (k_off rd rv mi dy v (i + 1)) := congrArg nI ((Nat.add_zero _).trans (k_off_f (fun h => absurd h.2 (Int64.not_lt.mpr hc76))))
            rw [eq2] at hl
            exact ih13 (by omega) _ _ _ ⟨hP, hD, hS, lv_sub hl [3, 4, 1, 0] rfl⟩
          · -- 76 not taken
            rw [lg_cmp_le] at hc76
            refine lv_iconst (v := nI 1) hx hb dM_off_79 (by decide) ?_
            refine lv_goto (tgt := 84) hx hb dM_off_80 (by decide) ?_
            refine lv_iadd hx hb dM_off_84 ?_
            refine lv_topi (fun kv ekv => ?_)
            obtain rfl : kv = nI ((k_off rd rv mi dy v i) + 1) := by rw [ekv]; exact nI_add _ _
            refine lv_istore_n (lv' := [(3, .int (nI ((k_off rd rv mi dy v i) + 1))), (5, .long ((rv i) - (mi (k_d rd i)))), (0, .ref mm), (1, .long v), (4, .int (nI i))]) hx hb dM_off_85 rfl hl (by decide) rfl (fun ls hl => ?_)
            refine lv_iinc (v := nI (i + 1)) (lv' := [(4, .int (nI (i + 1))), (3, .int (nI ((k_off rd rv mi dy v i) + 1))), (5, .long ((rv i) - (mi (k_d rd i)))), (0, .ref mm), (1, .long v)]) hx hb dM_off_86 hl (k := 4) rfl (nI_1 _) (by decide) rfl (fun ls hl => ?_)
            refine lv_goto (tgt := 13) hx hb dM_off_89 (by decide) ?_
            have hP : va_P (dC, dI) vwCl [(mm, .inr (5, [.int (nI ly), .int (nI ce), .ref qlo, .ref qlk, .ref qhd, .ref qsf, .ref qpr, .ref qpa, .ref qsk, .long co, .long wo, .int (nI dy), .int da, .int db, .int dr, .int (nI mn), .ref qld, .ref qlz, .int (nI rn), .ref qrd, .ref qrv, .ref qhi, .ref qfw, .ref qkp])), (qrd, .inl (cI, 20, .inl rd)), (qrv, .inl (cJ, 20, .inr (.inl rv))), (qhi, .inl (cJ, 401, .inr (.inl mi)))] H := by first | exact hP | simpa only [] using hP
            have hD : va_D A [(mm, .inr (5, [.int (nI ly), .int (nI ce), .ref qlo, .ref qlk, .ref qhd, .ref qsf, .ref qpr, .ref qpa, .ref qsk, .long co, .long wo, .int (nI dy), .int da, .int db, .int dr, .int (nI mn), .ref qld, .ref qlz, .int (nI rn), .ref qrd, .ref qrv, .ref qhi, .ref qfw, .ref qkp])), (qrd, .inl (cI, 20, .inl rd)), (qrv, .inl (cJ, 20, .inr (.inl rv))), (qhi, .inl (cJ, 401, .inr (.inl mi)))] := by first | exact hD | simpa only [] using hD
            have eq3 : (nI ((k_off rd rv mi dy v i) + 1)) = nI (k_off rd rv mi dy v (i + 1)) := congrArg nI (k_off_t (by omega) (Int64.not_le.mp hc76))
            rw [eq3] at hl
            exact ih13 (by omega) _ _ _ ⟨hP, hD, hS, lv_sub hl [3, 4, 1, 0] rfl⟩
        · -- 63 not taken
          rw [lg_cmp_ge] at hc63
          refine lv_lload hx hb dM_off_66 (lv_at hl 0 rfl) ?_
          refine lv_lneg hx hb dM_off_68 ?_
          refine lv_goto (tgt := 74) hx hb dM_off_69 (by decide) ?_
          refine lv_topl (fun kv ekv => ?_)
          obtain rfl : k_ab (rv i - mi (k_d rd i)) = kv := (ekv.trans (k_ab2 hc63)).symm
          refine lv_lload_n hx hb dM_off_74 rfl (lv_at hl 2 rfl) ?_
          refine W.lcmp hx hb dM_off_75 ?_
          refine lv_if_le (tgt := 83) hx hb dM_off_76 (by decide) (fun hc76 => ?_) (fun hc76 => ?_)
          · -- 76 taken
            rw [lg_cmp_le] at hc76
            refine lv_iconst (v := nI 0) hx hb dM_off_83 (by decide) ?_
            refine lv_iadd hx hb dM_off_84 ?_
            refine lv_topi (fun kv ekv => ?_)
            obtain rfl : kv = nI ((k_off rd rv mi dy v i) + 0) := by rw [ekv]; exact nI_add _ _
            refine lv_istore_n (lv' := [(3, .int (nI ((k_off rd rv mi dy v i) + 0))), (5, .long ((rv i) - (mi (k_d rd i)))), (0, .ref mm), (1, .long v), (4, .int (nI i))]) hx hb dM_off_85 rfl hl (by decide) rfl (fun ls hl => ?_)
            refine lv_iinc (v := nI (i + 1)) (lv' := [(4, .int (nI (i + 1))), (3, .int (nI ((k_off rd rv mi dy v i) + 0))), (5, .long ((rv i) - (mi (k_d rd i)))), (0, .ref mm), (1, .long v)]) hx hb dM_off_86 hl (k := 4) rfl (nI_1 _) (by decide) rfl (fun ls hl => ?_)
            refine lv_goto (tgt := 13) hx hb dM_off_89 (by decide) ?_
            have hP : va_P (dC, dI) vwCl [(mm, .inr (5, [.int (nI ly), .int (nI ce), .ref qlo, .ref qlk, .ref qhd, .ref qsf, .ref qpr, .ref qpa, .ref qsk, .long co, .long wo, .int (nI dy), .int da, .int db, .int dr, .int (nI mn), .ref qld, .ref qlz, .int (nI rn), .ref qrd, .ref qrv, .ref qhi, .ref qfw, .ref qkp])), (qrd, .inl (cI, 20, .inl rd)), (qrv, .inl (cJ, 20, .inr (.inl rv))), (qhi, .inl (cJ, 401, .inr (.inl mi)))] H := by first | exact hP | simpa only [] using hP
            have hD : va_D A [(mm, .inr (5, [.int (nI ly), .int (nI ce), .ref qlo, .ref qlk, .ref qhd, .ref qsf, .ref qpr, .ref qpa, .ref qsk, .long co, .long wo, .int (nI dy), .int da, .int db, .int dr, .int (nI mn), .ref qld, .ref qlz, .int (nI rn), .ref qrd, .ref qrv, .ref qhi, .ref qfw, .ref qkp])), (qrd, .inl (cI, 20, .inl rd)), (qrv, .inl (cJ, 20, .inr (.inl rv))), (qhi, .inl (cJ, 401, .inr (.inl mi)))] := by first | exact hD | simpa only [] using hD
            have eq4 : (nI ((k_off rd rv mi dy v i) + 0)) = nI (k_off rd rv mi dy v (i + 1)) := congrArg nI ((Nat.add_zero _).trans (k_off_f (fun h => absurd h.2 (Int64.not_lt.mpr hc76))))
            rw [eq4] at hl
            exact ih13 (by omega) _ _ _ ⟨hP, hD, hS, lv_sub hl [3, 4, 1, 0] rfl⟩
          · -- 76 not taken
            rw [lg_cmp_le] at hc76
            refine lv_iconst (v := nI 1) hx hb dM_off_79 (by decide) ?_
            refine lv_goto (tgt := 84) hx hb dM_off_80 (by decide) ?_
            refine lv_iadd hx hb dM_off_84 ?_
            refine lv_topi (fun kv ekv => ?_)
            obtain rfl : kv = nI ((k_off rd rv mi dy v i) + 1) := by rw [ekv]; exact nI_add _ _
            refine lv_istore_n (lv' := [(3, .int (nI ((k_off rd rv mi dy v i) + 1))), (5, .long ((rv i) - (mi (k_d rd i)))), (0, .ref mm), (1, .long v), (4, .int (nI i))]) hx hb dM_off_85 rfl hl (by decide) rfl (fun ls hl => ?_)
            refine lv_iinc (v := nI (i + 1)) (lv' := [(4, .int (nI (i + 1))), (3, .int (nI ((k_off rd rv mi dy v i) + 1))), (5, .long ((rv i) - (mi (k_d rd i)))), (0, .ref mm), (1, .long v)]) hx hb dM_off_86 hl (k := 4) rfl (nI_1 _) (by decide) rfl (fun ls hl => ?_)
            refine lv_goto (tgt := 13) hx hb dM_off_89 (by decide) ?_
            have hP : va_P (dC, dI) vwCl [(mm, .inr (5, [.int (nI ly), .int (nI ce), .ref qlo, .ref qlk, .ref qhd, .ref qsf, .ref qpr, .ref qpa, .ref qsk, .long co, .long wo, .int (nI dy), .int da, .int db, .int dr, .int (nI mn), .ref qld, .ref qlz, .int (nI rn), .ref qrd, .ref qrv, .ref qhi, .ref qfw, .ref qkp])), (qrd, .inl (cI, 20, .inl rd)), (qrv, .inl (cJ, 20, .inr (.inl rv))), (qhi, .inl (cJ, 401, .inr (.inl mi)))] H := by first | exact hP | simpa only [] using hP
            have hD : va_D A [(mm, .inr (5, [.int (nI ly), .int (nI ce), .ref qlo, .ref qlk, .ref qhd, .ref qsf, .ref qpr, .ref qpa, .ref qsk, .long co, .long wo, .int (nI dy), .int da, .int db, .int dr, .int (nI mn), .ref qld, .ref qlz, .int (nI rn), .ref qrd, .ref qrv, .ref qhi, .ref qfw, .ref qkp])), (qrd, .inl (cI, 20, .inl rd)), (qrv, .inl (cJ, 20, .inr (.inl rv))), (qhi, .inl (cJ, 401, .inr (.inl mi)))] := by first | exact hD | simpa only [] using hD
            have eq5 : (nI ((k_off rd rv mi dy v i) + 1)) = nI (k_off rd rv mi dy v (i + 1)) := congrArg nI (k_off_t (by omega) (Int64.not_le.mp hc76))
            rw [eq5] at hl
            exact ih13 (by omega) _ _ _ ⟨hP, hD, hS, lv_sub hl [3, 4, 1, 0] rfl⟩
  · -- 3 not taken
    rw [lg_cmp_ge] at hc3
    exact absurd (Int64.not_le.mp hc3) hv
set_option maxHeartbeats 4000000 in
set_option maxRecDepth 100000 in
theorem kM_off_bad (l : Launch) (dC : Nat → ClassId) (dI : Nat → Nat → Nat) (cI cJ : ClassId) (mm qlo qlk qhd qsf qpr qpa qsk qld qlz qrd qrv qhi qfw qkp : Nat) (sz : Nat) (v : Int64) (ly : Nat) (ce : Nat) (co : Int64) (wo : Int64) (dy : Nat) (da : Int32) (db : Int32) (dr : Int32) (mn : Nat) (rn : Nat) (rd : Nat → Int32) (rv : Nat → Int64) (mi : Nat → Int64) (hv : v < 0) : Met l yM_off wM_off ({ frames := 0, cells := 0, slots := 0, locals := 0 }) (va_Pc [.ref mm, .long v] (fun U => U.heap.size = sz ∧ va_P (dC, dI) vwCl [(mm, .inr (5, [.int (nI ly), .int (nI ce), .ref qlo, .ref qlk, .ref qhd, .ref qsf, .ref qpr, .ref qpa, .ref qsk, .long co, .long wo, .int (nI dy), .int da, .int db, .int dr, .int (nI mn), .ref qld, .ref qlz, .int (nI rn), .ref qrd, .ref qrv, .ref qhi, .ref qfw, .ref qkp])), (qrd, .inl (cI, 20, .inl rd)), (qrv, .inl (cJ, 20, .inr (.inl rv))), (qhi, .inl (cJ, 401, .inr (.inl mi)))] U.heap ∧ va_K (dC, dI) vwCl [(cI, .int), (cJ, .long)] U ∧ va_D (fun _ => True) [(mm, .inr (5, [.int (nI ly), .int (nI ce), .ref qlo, .ref qlk, .ref qhd, .ref qsf, .ref qpr, .ref qpa, .ref qsk, .long co, .long wo, .int (nI dy), .int da, .int db, .int dr, .int (nI mn), .ref qld, .ref qlz, .int (nI rn), .ref qrd, .ref qrv, .ref qhi, .ref qfw, .ref qkp])), (qrd, .inl (cI, 20, .inl rd)), (qrv, .inl (cJ, 20, .inr (.inl rv))), (qhi, .inl (cJ, 401, .inr (.inl mi)))])) (va_Qi (fun res_ (_ : Unit) => res_ = (-1)) (fun _ t => va_P (dC, dI) vwCl [(mm, .inr (5, [.int (nI ly), .int (nI ce), .ref qlo, .ref qlk, .ref qhd, .ref qsf, .ref qpr, .ref qpa, .ref qsk, .long co, .long wo, .int (nI dy), .int da, .int db, .int dr, .int (nI mn), .ref qld, .ref qlz, .int (nI rn), .ref qrd, .ref qrv, .ref qhi, .ref qfw, .ref qkp])), (qrd, .inl (cI, 20, .inl rd)), (qrv, .inl (cJ, 20, .inr (.inl rv))), (qhi, .inl (cJ, 401, .inr (.inl mi)))] t.heap ∧ va_K (dC, dI) vwCl [(cI, .int), (cJ, .long)] t ∧ va_D (va_A [(mm, .inr (5, [.int (nI ly), .int (nI ce), .ref qlo, .ref qlk, .ref qhd, .ref qsf, .ref qpr, .ref qpa, .ref qsk, .long co, .long wo, .int (nI dy), .int da, .int db, .int dr, .int (nI mn), .ref qld, .ref qlz, .int (nI rn), .ref qrd, .ref qrv, .ref qhi, .ref qfw, .ref qkp])), (qrd, .inl (cI, 20, .inl rd)), (qrv, .inl (cJ, 20, .inr (.inl rv))), (qhi, .inl (cJ, 401, .inr (.inl mi)))] sz) [(mm, .inr (5, [.int (nI ly), .int (nI ce), .ref qlo, .ref qlk, .ref qhd, .ref qsf, .ref qpr, .ref qpa, .ref qsk, .long co, .long wo, .int (nI dy), .int da, .int db, .int dr, .int (nI mn), .ref qld, .ref qlz, .int (nI rn), .ref qrd, .ref qrv, .ref qhi, .ref qfw, .ref qkp])), (qrd, .inl (cI, 20, .inl rd)), (qrv, .inl (cJ, 20, .inr (.inl rv))), (qhi, .inl (cJ, 401, .inr (.inl mi)))]) (va_A [(mm, .inr (5, [.int (nI ly), .int (nI ce), .ref qlo, .ref qlk, .ref qhd, .ref qsf, .ref qpr, .ref qpa, .ref qsk, .long co, .long wo, .int (nI dy), .int da, .int db, .int dr, .int (nI mn), .ref qld, .ref qlz, .int (nI rn), .ref qrd, .ref qrv, .ref qhi, .ref qfw, .ref qkp])), (qrd, .inl (cI, 20, .inl rd)), (qrv, .inl (cJ, 20, .inr (.inl rv))), (qhi, .inl (cJ, 401, .inr (.inl mi)))] sz)) 0 0 (va_A [(mm, .inr (5, [.int (nI ly), .int (nI ce), .ref qlo, .ref qlk, .ref qhd, .ref qsf, .ref qpr, .ref qpa, .ref qsk, .long co, .long wo, .int (nI dy), .int da, .int db, .int dr, .int (nI mn), .ref qld, .ref qlz, .int (nI rn), .ref qrd, .ref qrv, .ref qhi, .ref qfw, .ref qkp])), (qrd, .inl (cI, 20, .inl rd)), (qrv, .inl (cJ, 20, .inr (.inl rv))), (qhi, .inl (cJ, 401, .inr (.inl mi)))] sz) := by
  refine Met.ofW (cc := bM_off) (maxL := 7) (ret := (some .int)) (by decide) rfl ?_
  intro p e s m args below meth c s₁ B hml hv
  obtain ⟨rfl, hsz, hP, hK, hD0⟩ := hv
  have hx := B.exec
  have hb := B.bytes
  have hr := B.returns
  have hts := atoms_spec (ws := wM_off) B.pre
  have hown : s.vm.findClass R_M = some m.cls := findClass_of_methodNamed B.named
  have htw : ∀ w ∈ WA, w.before _ s = true := fun w h => hts w (List.mem_cons_of_mem _ h)
  clear hts
  have hlocks := B.notSynchronized
  subst hsz
  have hD := hD0.self (sz := s.heap.size)
  generalize hAe : va_A [(mm, .inr (5, [.int (nI ly), .int (nI ce), .ref qlo, .ref qlk, .ref qhd, .ref qsf, .ref qpr, .ref qpa, .ref qsk, .long co, .long wo, .int (nI dy), .int da, .int db, .int dr, .int (nI mn), .ref qld, .ref qlz, .int (nI rn), .ref qrd, .ref qrv, .ref qhi, .ref qfw, .ref qkp])), (qrd, .inl (cI, 20, .inl rd)), (qrv, .inl (cJ, 20, .inr (.inl rv))), (qhi, .inl (cJ, 401, .inr (.inl mi)))] s.heap.size = A at hD ⊢
  have hA : ∀ q : Nat, s.heap.size ≤ q → A q := fun q h => by rw [← hAe]; exact Or.inr h
  clear hAe hD0
  have hS : va_S A s.heap s.heap [] := va_S.rf
  have hP : va_P (dC, dI) vwCl [(mm, .inr (5, [.int (nI ly), .int (nI ce), .ref qlo, .ref qlk, .ref qhd, .ref qsf, .ref qpr, .ref qpa, .ref qsk, .long co, .long wo, .int (nI dy), .int da, .int db, .int dr, .int (nI mn), .ref qld, .ref qlz, .int (nI rn), .ref qrd, .ref qrv, .ref qhi, .ref qfw, .ref qkp])), (qrd, .inl (cI, 20, .inl rd)), (qrv, .inl (cJ, 20, .inr (.inl rv))), (qhi, .inl (cJ, 401, .inr (.inl mi)))] s.heap := hP
  have hl := lv_entry ([.ref mm, .long v]) (n := 7) (Nat.le_of_ble_eq_true rfl)
  rw [lg_entry_eq]
  generalize (lg_sl ([.ref mm, .long v]) ++ List.replicate (7 - (lg_sl ([.ref mm, .long v])).length) Slot.unset).toArray = ls at hl ⊢
  have hl : lv_has ls 7 [(0, .ref mm), (1, .long v)] := hl
  refine lv_lload_n hx hb dM_off_0 rfl (lv_at hl 1 rfl) ?_
  refine lv_lconst (v := 0) hx hb dM_off_1 (by decide) ?_
  refine W.lcmp hx hb dM_off_2 ?_
  refine lv_if_ge (tgt := 8) hx hb dM_off_3 (by decide) (fun hc3 => ?_) (fun hc3 => ?_)
  · -- 3 taken
    rw [lg_cmp_ge] at hc3
    exact absurd hv (Int64.not_lt.mpr hc3)
  · -- 3 not taken
    rw [lg_cmp_ge] at hc3
    refine lv_iconst (v := (-1)) hx hb dM_off_6 (by decide) ?_
    have hP : va_P (dC, dI) vwCl [(mm, .inr (5, [.int (nI ly), .int (nI ce), .ref qlo, .ref qlk, .ref qhd, .ref qsf, .ref qpr, .ref qpa, .ref qsk, .long co, .long wo, .int (nI dy), .int da, .int db, .int dr, .int (nI mn), .ref qld, .ref qlz, .int (nI rn), .ref qrd, .ref qrv, .ref qhi, .ref qfw, .ref qkp])), (qrd, .inl (cI, 20, .inl rd)), (qrv, .inl (cJ, 20, .inr (.inl rv))), (qhi, .inl (cJ, 401, .inr (.inl mi)))] s.heap := by first | exact hP | simpa only [] using hP
    have hD : va_D A [(mm, .inr (5, [.int (nI ly), .int (nI ce), .ref qlo, .ref qlk, .ref qhd, .ref qsf, .ref qpr, .ref qpa, .ref qsk, .long co, .long wo, .int (nI dy), .int da, .int db, .int dr, .int (nI mn), .ref qld, .ref qlz, .int (nI rn), .ref qrd, .ref qrv, .ref qhi, .ref qfw, .ref qkp])), (qrd, .inl (cI, 20, .inl rd)), (qrv, .inl (cJ, 20, .inr (.inl rv))), (qhi, .inl (cJ, 401, .inr (.inl mi)))] := by first | exact hD | simpa only [] using hD
    exact W.iret (v := (-1)) hx hb hr (fun t ht hW => ⟨⟨(-1), (), rfl, rfl, by rw [ht]; exact hP, va_K.moved hW.alike hK, hD⟩, hS.F ht⟩) hS.2.2 dM_off_7
set_option maxHeartbeats 4000000 in
set_option maxRecDepth 100000 in
theorem kM_foretold_0 (l : Launch) (dC : Nat → ClassId) (dI : Nat → Nat → Nat) (cI cJ : ClassId) (mm qlo qlk qhd qsf qpr qpa qsk qld qlz qrd qrv qhi qfw qkp : Nat) (sz : Nat) (ly : Nat) (ce : Nat) (co : Int64) (wo : Int64) (dy : Nat) (da : Int32) (db : Int32) (dr : Int32) (mn : Nat) (rn : Nat) (rd : Nat → Int32) (rv : Nat → Int64) (hrn : rn ≤ 20) : Met l yM_foretold wM_foretold ({ frames := 1, cells := 0, slots := 0, locals := 25 }) (va_Pc [.ref mm, .int (nI 0)] (fun U => U.heap.size = sz ∧ va_P (dC, dI) vwCl [(mm, .inr (5, [.int (nI ly), .int (nI ce), .ref qlo, .ref qlk, .ref qhd, .ref qsf, .ref qpr, .ref qpa, .ref qsk, .long co, .long wo, .int (nI dy), .int da, .int db, .int dr, .int (nI mn), .ref qld, .ref qlz, .int (nI rn), .ref qrd, .ref qrv, .ref qhi, .ref qfw, .ref qkp])), (qrd, .inl (cI, 20, .inl rd)), (qrv, .inl (cJ, 20, .inr (.inl rv)))] U.heap ∧ va_K (dC, dI) vwCl [(cI, .int), (cJ, .long)] U ∧ va_D (fun _ => True) [(mm, .inr (5, [.int (nI ly), .int (nI ce), .ref qlo, .ref qlk, .ref qhd, .ref qsf, .ref qpr, .ref qpa, .ref qsk, .long co, .long wo, .int (nI dy), .int da, .int db, .int dr, .int (nI mn), .ref qld, .ref qlz, .int (nI rn), .ref qrd, .ref qrv, .ref qhi, .ref qfw, .ref qkp])), (qrd, .inl (cI, 20, .inl rd)), (qrv, .inl (cJ, 20, .inr (.inl rv)))])) (va_Ql (fun res_ (_ : Unit) => res_ = k_foretold rd rv rn (nI 0)) (fun _ t => va_P (dC, dI) vwCl [(mm, .inr (5, [.int (nI ly), .int (nI ce), .ref qlo, .ref qlk, .ref qhd, .ref qsf, .ref qpr, .ref qpa, .ref qsk, .long co, .long wo, .int (nI dy), .int da, .int db, .int dr, .int (nI mn), .ref qld, .ref qlz, .int (nI rn), .ref qrd, .ref qrv, .ref qhi, .ref qfw, .ref qkp])), (qrd, .inl (cI, 20, .inl rd)), (qrv, .inl (cJ, 20, .inr (.inl rv)))] t.heap ∧ va_K (dC, dI) vwCl [(cI, .int), (cJ, .long)] t ∧ va_D (va_A [(mm, .inr (5, [.int (nI ly), .int (nI ce), .ref qlo, .ref qlk, .ref qhd, .ref qsf, .ref qpr, .ref qpa, .ref qsk, .long co, .long wo, .int (nI dy), .int da, .int db, .int dr, .int (nI mn), .ref qld, .ref qlz, .int (nI rn), .ref qrd, .ref qrv, .ref qhi, .ref qfw, .ref qkp])), (qrd, .inl (cI, 20, .inl rd)), (qrv, .inl (cJ, 20, .inr (.inl rv)))] sz) [(mm, .inr (5, [.int (nI ly), .int (nI ce), .ref qlo, .ref qlk, .ref qhd, .ref qsf, .ref qpr, .ref qpa, .ref qsk, .long co, .long wo, .int (nI dy), .int da, .int db, .int dr, .int (nI mn), .ref qld, .ref qlz, .int (nI rn), .ref qrd, .ref qrv, .ref qhi, .ref qfw, .ref qkp])), (qrd, .inl (cI, 20, .inl rd)), (qrv, .inl (cJ, 20, .inr (.inl rv)))]) (va_A [(mm, .inr (5, [.int (nI ly), .int (nI ce), .ref qlo, .ref qlk, .ref qhd, .ref qsf, .ref qpr, .ref qpa, .ref qsk, .long co, .long wo, .int (nI dy), .int da, .int db, .int dr, .int (nI mn), .ref qld, .ref qlz, .int (nI rn), .ref qrd, .ref qrv, .ref qhi, .ref qfw, .ref qkp])), (qrd, .inl (cI, 20, .inl rd)), (qrv, .inl (cJ, 20, .inr (.inl rv)))] sz)) 0 0 (va_A [(mm, .inr (5, [.int (nI ly), .int (nI ce), .ref qlo, .ref qlk, .ref qhd, .ref qsf, .ref qpr, .ref qpa, .ref qsk, .long co, .long wo, .int (nI dy), .int da, .int db, .int dr, .int (nI mn), .ref qld, .ref qlz, .int (nI rn), .ref qrd, .ref qrv, .ref qhi, .ref qfw, .ref qkp])), (qrd, .inl (cI, 20, .inl rd)), (qrv, .inl (cJ, 20, .inr (.inl rv)))] sz) := by
  refine Met.ofW (cc := bM_foretold) (maxL := 15) (ret := (some .long)) (by decide) rfl ?_
  intro p e s m args below meth c s₁ B hml hv
  obtain ⟨rfl, hsz, hP, hK, hD0⟩ := hv
  have hx := B.exec
  have hb := B.bytes
  have hr := B.returns
  have hts := atoms_spec (ws := wM_foretold) B.pre
  have hown : s.vm.findClass R_M = some m.cls := findClass_of_methodNamed B.named
  have htw : ∀ w ∈ WA, w.before _ s = true := fun w h => hts w (List.mem_cons_of_mem _ h)
  clear hts
  have hlocks := B.notSynchronized
  subst hsz
  have hD := hD0.self (sz := s.heap.size)
  generalize hAe : va_A [(mm, .inr (5, [.int (nI ly), .int (nI ce), .ref qlo, .ref qlk, .ref qhd, .ref qsf, .ref qpr, .ref qpa, .ref qsk, .long co, .long wo, .int (nI dy), .int da, .int db, .int dr, .int (nI mn), .ref qld, .ref qlz, .int (nI rn), .ref qrd, .ref qrv, .ref qhi, .ref qfw, .ref qkp])), (qrd, .inl (cI, 20, .inl rd)), (qrv, .inl (cJ, 20, .inr (.inl rv)))] s.heap.size = A at hD ⊢
  have hA : ∀ q : Nat, s.heap.size ≤ q → A q := fun q h => by rw [← hAe]; exact Or.inr h
  clear hAe hD0
  have hS : va_S A s.heap s.heap [] := va_S.rf
  have hP : va_P (dC, dI) vwCl [(mm, .inr (5, [.int (nI ly), .int (nI ce), .ref qlo, .ref qlk, .ref qhd, .ref qsf, .ref qpr, .ref qpa, .ref qsk, .long co, .long wo, .int (nI dy), .int da, .int db, .int dr, .int (nI mn), .ref qld, .ref qlz, .int (nI rn), .ref qrd, .ref qrv, .ref qhi, .ref qfw, .ref qkp])), (qrd, .inl (cI, 20, .inl rd)), (qrv, .inl (cJ, 20, .inr (.inl rv)))] s.heap := hP
  have hl := lv_entry ([.ref mm, .int (nI 0)]) (n := 15) (Nat.le_of_ble_eq_true rfl)
  rw [lg_entry_eq]
  generalize (lg_sl ([.ref mm, .int (nI 0)]) ++ List.replicate (15 - (lg_sl ([.ref mm, .int (nI 0)])).length) Slot.unset).toArray = ls at hl ⊢
  have hl : lv_has ls 15 [(0, .ref mm), (1, .int (nI 0))] := hl
  refine lv_iload_n hx hb dM_foretold_0 rfl (lv_at hl 1 rfl) ?_
  refine lv_i2l (v := 0) hx hb dM_foretold_1 (by decide +kernel) ?_
  refine lv_lconst (v := 0) hx hb dM_foretold_2 (by decide) ?_
  refine lv_ldc2 (v := 2) hx hb hown (htw _ m_482) dM_foretold_3 ?_
  have hPc := hP.sub (ws' := []) [] rfl
  have hDc := hD.sub (ws' := []) [] (by decide) rfl
  have hFc := va_free (wc := []) hD hS hA [] rfl
  refine va_calli (va_runS (As := [.long 0, .long 0, .long 2]) (rest := []) ⟨hx, hb, hml, hown, htw⟩ (kM_in l dC dI cI cJ s.heap.size 0 0 2) (va_cwS 3 htw (ws_good m_435 m_436 m_6 m_437) rfl rfl rfl (by decide +kernel) ⟨Nat.le_of_ble_eq_true rfl, Nat.le_of_ble_eq_true rfl⟩) ⟨fun a U g mk q => by obtain ⟨q0, q1, qP, qK, qD⟩ := q; exact ⟨q0, q1, qP, va_K.moved (u := U) (U := U.calling g mk a) (Vm.Alike.refl U.vm) qK, qD⟩, fun U hU hW => ⟨rfl, by rw [hU], by rw [hU]; exact hPc, va_K.moved hW.alike hK, hDc.weaken (fun _ _ _ _ => trivial)⟩⟩ rfl rfl hl.1 rfl (lv_room (Nat.le_of_ble_eq_true rfl)) dM_foretold_6 ⟨Nat.le_of_ble_eq_true rfl, Nat.le_of_ble_eq_true rfl⟩) hS (fun q _ h => hFc q h) hFc (fun res_ u_ t H1 locs ht hvm hw hB hz1 hk1 hS => ?_)
  obtain ⟨hP1, hK1, hD1⟩ := hB
  rw [ht] at hP1
  obtain ⟨hP, hD⟩ := va_join (wr := [(mm, .inr (5, [.int (nI ly), .int (nI ce), .ref qlo, .ref qlk, .ref qhd, .ref qsf, .ref qpr, .ref qpa, .ref qsk, .long co, .long wo, .int (nI dy), .int da, .int db, .int dr, .int (nI mn), .ref qld, .ref qlz, .int (nI rn), .ref qrd, .ref qrv, .ref qhi, .ref qfw, .ref qkp])), (qrd, .inl (cI, 20, .inl rd)), (qrv, .inl (cJ, 20, .inr (.inl rv)))]) (w1 := []) hP hD [] [0, 1, 2] rfl rfl (by decide) (by decide) hk1 hFc hP1 hD1
  generalize H1 = H at hP hS ⊢
  have hP : va_P (dC, dI) vwCl [(mm, .inr (5, [.int (nI ly), .int (nI ce), .ref qlo, .ref qlk, .ref qhd, .ref qsf, .ref qpr, .ref qpa, .ref qsk, .long co, .long wo, .int (nI dy), .int da, .int db, .int dr, .int (nI mn), .ref qld, .ref qlz, .int (nI rn), .ref qrd, .ref qrv, .ref qhi, .ref qfw, .ref qkp])), (qrd, .inl (cI, 20, .inl rd)), (qrv, .inl (cJ, 20, .inr (.inl rv)))] H := hP
  have hD : va_D A [(mm, .inr (5, [.int (nI ly), .int (nI ce), .ref qlo, .ref qlk, .ref qhd, .ref qsf, .ref qpr, .ref qpa, .ref qsk, .long co, .long wo, .int (nI dy), .int da, .int db, .int dr, .int (nI mn), .ref qld, .ref qlz, .int (nI rn), .ref qrd, .ref qrv, .ref qhi, .ref qfw, .ref qkp])), (qrd, .inl (cI, 20, .inl rd)), (qrv, .inl (cJ, 20, .inr (.inl rv)))] := hD
  clear hPc hDc hFc hP1 hD1 hK1 hk1 hz1 hvm ht
  obtain rfl : kb (0 ≤ 0 ∧ 0 ≤ 2) = res_ := hw.symm
  refine lv_if_eq (tgt := 28) hx hb dM_foretold_9 (by decide) (fun hc9 => ?_) (fun hc9 => ?_)
  · -- 9 taken
    rw [kb_eq0] at hc9
    exact absurd (by decide) hc9
  · -- 9 not taken
    rw [kb_eq0] at hc9
    refine lv_aload_n hx hb dM_foretold_12 rfl (lv_at hl 0 rfl) ?_
    refine va_get (D := (dC, dI)) (ci := 5) (v := .int (nI rn)) (C := R_M) (T := T_M) (N := 24) hx hb htw in_M hown hK hP 0 rfl rfl 18 (by decide) (htw _ m_375) (fun _ h9 => h9) rfl dM_foretold_13 ?_
    refine lv_iload_n hx hb dM_foretold_16 rfl (lv_at hl 1 rfl) ?_
    refine lv_if_ne (tgt := 24) hx hb dM_foretold_17 (by decide) (fun hc17 => ?_) (fun hc17 => ?_)
    · -- 17 taken
      rw [show (0 : Int32) = nI 0 from rfl, nI_eq (by omega) (by omega)] at hc17
      exfalso; omega
    · -- 17 not taken
      rw [show (0 : Int32) = nI 0 from rfl, nI_eq (by omega) (by omega)] at hc17
      refine lv_iconst (v := nI 3) hx hb dM_foretold_20 (by decide) ?_
      refine lv_goto (tgt := 25) hx hb dM_foretold_21 (by decide) ?_
      refine lv_icmp_ge (tgt := 32) hx hb dM_foretold_25 (by decide) (fun hc25 => ?_) (fun hc25 => ?_)
      · -- 25 taken
        rw [nI_leI (by omega) (by omega)] at hc25
        refine lv_aload_n hx hb dM_foretold_32 rfl (lv_at hl 0 rfl) ?_
        refine va_get (D := (dC, dI)) (ci := 5) (v := .int (nI rn)) (C := R_M) (T := T_M) (N := 24) hx hb htw in_M hown hK hP 0 rfl rfl 18 (by decide) (htw _ m_375) (fun _ h9 => h9) rfl dM_foretold_33 ?_
        refine lv_istore_n (lv' := [(2, .int (nI rn)), (0, .ref mm), (1, .int (nI 0))]) hx hb dM_foretold_36 rfl hl (by decide) rfl (fun ls hl => ?_)
        refine lv_aload_n hx hb dM_foretold_37 rfl (lv_at hl 1 rfl) ?_
        refine va_get (D := (dC, dI)) (ci := 5) (v := .ref qrv) (C := R_M) (T := T_M) (N := 24) hx hb htw in_M hown hK hP 0 rfl rfl 20 (by decide) (htw _ m_377) (fun _ h9 => h9) rfl dM_foretold_38 ?_
        refine lv_iload_n hx hb dM_foretold_41 rfl (lv_at hl 0 rfl) ?_
        refine lv_iconst (v := nI 1) hx hb dM_foretold_42 (by decide) ?_
        refine lv_isub hx hb dM_foretold_43 ?_
        refine lv_topi (fun kv ekv => ?_)
        obtain rfl : kv = nI (rn - 1) := by rw [ekv]; exact pk_sub (by omega)
        refine xa_lald hx hb hK hP 2 1 rfl rfl (i := (rn - 1)) (by omega) (by decide) dM_foretold_44 ?_
        refine lv_lstore_n (lv' := [(3, .long (rv (rn - 1))), (2, .int (nI rn)), (0, .ref mm), (1, .int (nI 0))]) hx hb dM_foretold_45 rfl hl (by decide) rfl (fun ls hl => ?_)
        refine lv_iload_n hx hb dM_foretold_46 rfl (lv_at hl 3 rfl) ?_
        refine lv_iconst (v := nI 2) hx hb dM_foretold_47 (by decide) ?_
        refine lv_icmp_ne (tgt := 60) hx hb dM_foretold_48 (by decide) (fun hc48 => ?_) (fun hc48 => ?_)
        · -- 48 taken
          rw [nI_eq (by omega) (by omega)] at hc48
          refine lv_aload_n hx hb dM_foretold_60 rfl (lv_at hl 2 rfl) ?_
          refine va_get (D := (dC, dI)) (ci := 5) (v := .ref qrv) (C := R_M) (T := T_M) (N := 24) hx hb htw in_M hown hK hP 0 rfl rfl 20 (by decide) (htw _ m_377) (fun _ h9 => h9) rfl dM_foretold_61 ?_
          refine lv_iload_n hx hb dM_foretold_64 rfl (lv_at hl 1 rfl) ?_
          refine lv_iconst (v := nI 2) hx hb dM_foretold_65 (by decide) ?_
          refine lv_isub hx hb dM_foretold_66 ?_
          refine lv_topi (fun kv ekv => ?_)
          obtain rfl : kv = nI (rn - 2) := by rw [ekv]; exact pk_sub (by omega)
          refine xa_lald hx hb hK hP 2 1 rfl rfl (i := (rn - 2)) (by omega) (by decide) dM_foretold_67 ?_
          refine lv_lstore (lv' := [(5, .long (rv (rn - 2))), (3, .long (rv (rn - 1))), (2, .int (nI rn)), (0, .ref mm), (1, .int (nI 0))]) hx hb dM_foretold_68 hl (by decide) rfl (fun ls hl => ?_)
          refine lv_iload_n hx hb dM_foretold_70 rfl (lv_at hl 4 rfl) ?_
          refine lv_if_ne (tgt := 85) hx hb dM_foretold_71 (by decide) (fun hc71 => ?_) (fun hc71 => ?_)
          · -- 71 taken
            rw [show (0 : Int32) = nI 0 from rfl, nI_eq (by omega) (by omega)] at hc71
            exfalso; omega
          · -- 71 not taken
            rw [show (0 : Int32) = nI 0 from rfl, nI_eq (by omega) (by omega)] at hc71
            refine lv_aload_n hx hb dM_foretold_74 rfl (lv_at hl 3 rfl) ?_
            refine va_get (D := (dC, dI)) (ci := 5) (v := .ref qrv) (C := R_M) (T := T_M) (N := 24) hx hb htw in_M hown hK hP 0 rfl rfl 20 (by decide) (htw _ m_377) (fun _ h9 => h9) rfl dM_foretold_75 ?_
            refine lv_iload_n hx hb dM_foretold_78 rfl (lv_at hl 2 rfl) ?_
            refine lv_iconst (v := nI 3) hx hb dM_foretold_79 (by decide) ?_
            refine lv_isub hx hb dM_foretold_80 ?_
            refine lv_topi (fun kv ekv => ?_)
            obtain rfl : kv = nI (rn - 3) := by rw [ekv]; exact pk_sub (by omega)
            refine xa_lald hx hb hK hP 2 1 rfl rfl (i := (rn - 3)) (by omega) (by decide) dM_foretold_81 ?_
            refine lv_goto (tgt := 86) hx hb dM_foretold_82 (by decide) ?_
            refine lv_lstore (lv' := [(7, .long (rv (rn - 3))), (5, .long (rv (rn - 2))), (3, .long (rv (rn - 1))), (2, .int (nI rn)), (0, .ref mm), (1, .int (nI 0))]) hx hb dM_foretold_86 hl (by decide) rfl (fun ls hl => ?_)
            refine lv_lload hx hb dM_foretold_88 (lv_at hl 0 rfl) ?_
            refine lv_ldc2 (v := 100000000) hx hb hown (htw _ m_535) dM_foretold_90 ?_
            refine W.lcmp hx hb dM_foretold_93 ?_
            refine lv_if_gt (tgt := 114) hx hb dM_foretold_94 (by decide) (fun hc94 => ?_) (fun hc94 => ?_)
            · -- 94 taken
              rw [lg_cmp_gt] at hc94
              refine lv_ldc2 (v := (-1)) hx hb hown (htw _ m_477) dM_foretold_114 ?_
              have hP : va_P (dC, dI) vwCl [(mm, .inr (5, [.int (nI ly), .int (nI ce), .ref qlo, .ref qlk, .ref qhd, .ref qsf, .ref qpr, .ref qpa, .ref qsk, .long co, .long wo, .int (nI dy), .int da, .int db, .int dr, .int (nI mn), .ref qld, .ref qlz, .int (nI rn), .ref qrd, .ref qrv, .ref qhi, .ref qfw, .ref qkp])), (qrd, .inl (cI, 20, .inl rd)), (qrv, .inl (cJ, 20, .inr (.inl rv)))] H := by first | exact hP | simpa only [] using hP
              have hD : va_D A [(mm, .inr (5, [.int (nI ly), .int (nI ce), .ref qlo, .ref qlk, .ref qhd, .ref qsf, .ref qpr, .ref qpa, .ref qsk, .long co, .long wo, .int (nI dy), .int da, .int db, .int dr, .int (nI mn), .ref qld, .ref qlz, .int (nI rn), .ref qrd, .ref qrv, .ref qhi, .ref qfw, .ref qkp])), (qrd, .inl (cI, 20, .inl rd)), (qrv, .inl (cJ, 20, .inr (.inl rv)))] := by first | exact hD | simpa only [] using hD
              exact W.lret (v := (-1)) hx hb hr (fun t ht hW => ⟨⟨(-1), (), rfl, by unfold k_foretold; rw [if_pos rfl]; unfold k_f0; rw [if_neg (by omega), if_pos (Or.inl hc94)], by rw [ht]; exact hP, va_K.moved hW.alike hK, hD⟩, hS.F ht⟩) hS.2.2 dM_foretold_117
            · -- 94 not taken
              rw [lg_cmp_gt] at hc94
              refine lv_lload hx hb dM_foretold_97 (lv_at hl 1 rfl) ?_
              refine lv_ldc2 (v := 100000000) hx hb hown (htw _ m_535) dM_foretold_99 ?_
              refine W.lcmp hx hb dM_foretold_102 ?_
              refine lv_if_gt (tgt := 114) hx hb dM_foretold_103 (by decide) (fun hc103 => ?_) (fun hc103 => ?_)
              · -- 103 taken
                rw [lg_cmp_gt] at hc103
                refine lv_ldc2 (v := (-1)) hx hb hown (htw _ m_477) dM_foretold_114 ?_
                have hP : va_P (dC, dI) vwCl [(mm, .inr (5, [.int (nI ly), .int (nI ce), .ref qlo, .ref qlk, .ref qhd, .ref qsf, .ref qpr, .ref qpa, .ref qsk, .long co, .long wo, .int (nI dy), .int da, .int db, .int dr, .int (nI mn), .ref qld, .ref qlz, .int (nI rn), .ref qrd, .ref qrv, .ref qhi, .ref qfw, .ref qkp])), (qrd, .inl (cI, 20, .inl rd)), (qrv, .inl (cJ, 20, .inr (.inl rv)))] H := by first | exact hP | simpa only [] using hP
                have hD : va_D A [(mm, .inr (5, [.int (nI ly), .int (nI ce), .ref qlo, .ref qlk, .ref qhd, .ref qsf, .ref qpr, .ref qpa, .ref qsk, .long co, .long wo, .int (nI dy), .int da, .int db, .int dr, .int (nI mn), .ref qld, .ref qlz, .int (nI rn), .ref qrd, .ref qrv, .ref qhi, .ref qfw, .ref qkp])), (qrd, .inl (cI, 20, .inl rd)), (qrv, .inl (cJ, 20, .inr (.inl rv)))] := by first | exact hD | simpa only [] using hD
                exact W.lret (v := (-1)) hx hb hr (fun t ht hW => ⟨⟨(-1), (), rfl, by unfold k_foretold; rw [if_pos rfl]; unfold k_f0; rw [if_neg (by omega), if_pos (Or.inr (Or.inl hc103))], by rw [ht]; exact hP, va_K.moved hW.alike hK, hD⟩, hS.F ht⟩) hS.2.2 dM_foretold_117
              · -- 103 not taken
                rw [lg_cmp_gt] at hc103
                refine lv_lload_n hx hb dM_foretold_106 rfl (lv_at hl 2 rfl) ?_
                refine lv_ldc2 (v := 100000000) hx hb hown (htw _ m_535) dM_foretold_107 ?_
                refine W.lcmp hx hb dM_foretold_110 ?_
                refine lv_if_le (tgt := 118) hx hb dM_foretold_111 (by decide) (fun hc111 => ?_) (fun hc111 => ?_)
                · -- 111 taken
                  rw [lg_cmp_le] at hc111
                  refine lv_iload_n hx hb dM_foretold_118 rfl (lv_at hl 5 rfl) ?_
                  refine lv_if_ne (tgt := 162) hx hb dM_foretold_119 (by decide) (fun hc119 => ?_) (fun hc119 => ?_)
                  · -- 119 taken
                    rw [show (0 : Int32) = nI 0 from rfl, nI_eq (by omega) (by omega)] at hc119
                    exfalso; omega
                  · -- 119 not taken
                    rw [show (0 : Int32) = nI 0 from rfl, nI_eq (by omega) (by omega)] at hc119
                    refine lv_ldc2 (v := 2) hx hb hown (htw _ m_482) dM_foretold_122 ?_
                    refine lv_lload hx hb dM_foretold_125 (lv_at hl 1 rfl) ?_
                    refine lv_lmul hx hb dM_foretold_127 ?_
                    refine lv_lload hx hb dM_foretold_128 (lv_at hl 0 rfl) ?_
                    refine lv_lsub hx hb dM_foretold_130 ?_
                    refine lv_lload_n hx hb dM_foretold_131 rfl (lv_at hl 2 rfl) ?_
                    refine lv_lsub hx hb dM_foretold_132 ?_
                    refine lv_lstore (lv' := [(9, .long (((2 * (rv (rn - 2))) - (rv (rn - 3))) - (rv (rn - 1)))), (7, .long (rv (rn - 3))), (5, .long (rv (rn - 2))), (3, .long (rv (rn - 1))), (2, .int (nI rn)), (0, .ref mm), (1, .int (nI 0))]) hx hb dM_foretold_133 hl (by decide) rfl (fun ls hl => ?_)
                    refine lv_lload hx hb dM_foretold_135 (lv_at hl 0 rfl) ?_
                    refine lv_lconst (v := 0) hx hb dM_foretold_137 (by decide) ?_
                    refine W.lcmp hx hb dM_foretold_138 ?_
                    refine lv_if_ne (tgt := 148) hx hb dM_foretold_139 (by decide) (fun hc139 => ?_) (fun hc139 => ?_)
                    · -- 139 taken
                      rw [lg_cmp_eq] at hc139
                      refine lv_lload hx hb dM_foretold_148 (lv_at hl 2 rfl) ?_
                      refine lv_lload hx hb dM_foretold_150 (lv_at hl 2 rfl) ?_
                      refine lv_lmul hx hb dM_foretold_152 ?_
                      refine lv_lload hx hb dM_foretold_153 (lv_at hl 1 rfl) ?_
                      refine lv_lload_n hx hb dM_foretold_155 rfl (lv_at hl 3 rfl) ?_
                      refine lv_lmul hx hb dM_foretold_156 ?_
                      refine lv_lsub hx hb dM_foretold_157 ?_
                      refine lv_lload hx hb dM_foretold_158 (lv_at hl 0 rfl) ?_
                      refine lv_ldiv hx hb dM_foretold_160 hc139 ?_
                      have hP : va_P (dC, dI) vwCl [(mm, .inr (5, [.int (nI ly), .int (nI ce), .ref qlo, .ref qlk, .ref qhd, .ref qsf, .ref qpr, .ref qpa, .ref qsk, .long co, .long wo, .int (nI dy), .int da, .int db, .int dr, .int (nI mn), .ref qld, .ref qlz, .int (nI rn), .ref qrd, .ref qrv, .ref qhi, .ref qfw, .ref qkp])), (qrd, .inl (cI, 20, .inl rd)), (qrv, .inl (cJ, 20, .inr (.inl rv)))] H := by first | exact hP | simpa only [] using hP
                      have hD : va_D A [(mm, .inr (5, [.int (nI ly), .int (nI ce), .ref qlo, .ref qlk, .ref qhd, .ref qsf, .ref qpr, .ref qpa, .ref qsk, .long co, .long wo, .int (nI dy), .int da, .int db, .int dr, .int (nI mn), .ref qld, .ref qlz, .int (nI rn), .ref qrd, .ref qrv, .ref qhi, .ref qfw, .ref qkp])), (qrd, .inl (cI, 20, .inl rd)), (qrv, .inl (cJ, 20, .inr (.inl rv)))] := by first | exact hD | simpa only [] using hD
                      exact W.lret (v := (((rv (rn - 2)) * (rv (rn - 2))) - ((rv (rn - 3)) * (rv (rn - 1)))) / (((2 * (rv (rn - 2))) - (rv (rn - 3))) - (rv (rn - 1)))) hx hb hr (fun t ht hW => ⟨⟨(((rv (rn - 2)) * (rv (rn - 2))) - ((rv (rn - 3)) * (rv (rn - 1)))) / (((2 * (rv (rn - 2))) - (rv (rn - 3))) - (rv (rn - 1))), (), rfl, by unfold k_foretold; rw [if_pos rfl]; unfold k_f0; rw [if_neg (by omega), if_neg (fun h => h.elim hc94 (fun h => h.elim hc103 (fun h => absurd h (Int64.not_lt.mpr hc111))))]; unfold k_quo; rw [if_neg hc139], by rw [ht]; exact hP, va_K.moved hW.alike hK, hD⟩, hS.F ht⟩) hS.2.2 dM_foretold_161
                    · -- 139 not taken
                      rw [lg_cmp_eq] at hc139
                      refine lv_ldc2 (v := (-1)) hx hb hown (htw _ m_477) dM_foretold_142 ?_
                      refine lv_goto (tgt := 161) hx hb dM_foretold_145 (by decide) ?_
                      have hP : va_P (dC, dI) vwCl [(mm, .inr (5, [.int (nI ly), .int (nI ce), .ref qlo, .ref qlk, .ref qhd, .ref qsf, .ref qpr, .ref qpa, .ref qsk, .long co, .long wo, .int (nI dy), .int da, .int db, .int dr, .int (nI mn), .ref qld, .ref qlz, .int (nI rn), .ref qrd, .ref qrv, .ref qhi, .ref qfw, .ref qkp])), (qrd, .inl (cI, 20, .inl rd)), (qrv, .inl (cJ, 20, .inr (.inl rv)))] H := by first | exact hP | simpa only [] using hP
                      have hD : va_D A [(mm, .inr (5, [.int (nI ly), .int (nI ce), .ref qlo, .ref qlk, .ref qhd, .ref qsf, .ref qpr, .ref qpa, .ref qsk, .long co, .long wo, .int (nI dy), .int da, .int db, .int dr, .int (nI mn), .ref qld, .ref qlz, .int (nI rn), .ref qrd, .ref qrv, .ref qhi, .ref qfw, .ref qkp])), (qrd, .inl (cI, 20, .inl rd)), (qrv, .inl (cJ, 20, .inr (.inl rv)))] := by first | exact hD | simpa only [] using hD
                      exact W.lret (v := (-1)) hx hb hr (fun t ht hW => ⟨⟨(-1), (), rfl, by unfold k_foretold; rw [if_pos rfl]; unfold k_f0; rw [if_neg (by omega), if_neg (fun h => h.elim hc94 (fun h => h.elim hc103 (fun h => absurd h (Int64.not_lt.mpr hc111))))]; unfold k_quo; rw [if_pos hc139], by rw [ht]; exact hP, va_K.moved hW.alike hK, hD⟩, hS.F ht⟩) hS.2.2 dM_foretold_161
                · -- 111 not taken
                  rw [lg_cmp_le] at hc111
                  refine lv_ldc2 (v := (-1)) hx hb hown (htw _ m_477) dM_foretold_114 ?_
                  have hP : va_P (dC, dI) vwCl [(mm, .inr (5, [.int (nI ly), .int (nI ce), .ref qlo, .ref qlk, .ref qhd, .ref qsf, .ref qpr, .ref qpa, .ref qsk, .long co, .long wo, .int (nI dy), .int da, .int db, .int dr, .int (nI mn), .ref qld, .ref qlz, .int (nI rn), .ref qrd, .ref qrv, .ref qhi, .ref qfw, .ref qkp])), (qrd, .inl (cI, 20, .inl rd)), (qrv, .inl (cJ, 20, .inr (.inl rv)))] H := by first | exact hP | simpa only [] using hP
                  have hD : va_D A [(mm, .inr (5, [.int (nI ly), .int (nI ce), .ref qlo, .ref qlk, .ref qhd, .ref qsf, .ref qpr, .ref qpa, .ref qsk, .long co, .long wo, .int (nI dy), .int da, .int db, .int dr, .int (nI mn), .ref qld, .ref qlz, .int (nI rn), .ref qrd, .ref qrv, .ref qhi, .ref qfw, .ref qkp])), (qrd, .inl (cI, 20, .inl rd)), (qrv, .inl (cJ, 20, .inr (.inl rv)))] := by first | exact hD | simpa only [] using hD
                  exact W.lret (v := (-1)) hx hb hr (fun t ht hW => ⟨⟨(-1), (), rfl, by unfold k_foretold; rw [if_pos rfl]; unfold k_f0; rw [if_neg (by omega), if_pos (Or.inr (Or.inr (Int64.not_le.mp hc111)))], by rw [ht]; exact hP, va_K.moved hW.alike hK, hD⟩, hS.F ht⟩) hS.2.2 dM_foretold_117
        · -- 48 not taken
          rw [nI_eq (by omega) (by omega)] at hc48
          exfalso; omega
      · -- 25 not taken
        rw [nI_leI (by omega) (by omega)] at hc25
        refine lv_ldc2 (v := (-1)) hx hb hown (htw _ m_477) dM_foretold_28 ?_
        have hP : va_P (dC, dI) vwCl [(mm, .inr (5, [.int (nI ly), .int (nI ce), .ref qlo, .ref qlk, .ref qhd, .ref qsf, .ref qpr, .ref qpa, .ref qsk, .long co, .long wo, .int (nI dy), .int da, .int db, .int dr, .int (nI mn), .ref qld, .ref qlz, .int (nI rn), .ref qrd, .ref qrv, .ref qhi, .ref qfw, .ref qkp])), (qrd, .inl (cI, 20, .inl rd)), (qrv, .inl (cJ, 20, .inr (.inl rv)))] H := by first | exact hP | simpa only [] using hP
        have hD : va_D A [(mm, .inr (5, [.int (nI ly), .int (nI ce), .ref qlo, .ref qlk, .ref qhd, .ref qsf, .ref qpr, .ref qpa, .ref qsk, .long co, .long wo, .int (nI dy), .int da, .int db, .int dr, .int (nI mn), .ref qld, .ref qlz, .int (nI rn), .ref qrd, .ref qrv, .ref qhi, .ref qfw, .ref qkp])), (qrd, .inl (cI, 20, .inl rd)), (qrv, .inl (cJ, 20, .inr (.inl rv)))] := by first | exact hD | simpa only [] using hD
        exact W.lret (v := (-1)) hx hb hr (fun t ht hW => ⟨⟨(-1), (), rfl, by unfold k_foretold; rw [if_pos rfl]; unfold k_f0; rw [if_pos (by omega)], by rw [ht]; exact hP, va_K.moved hW.alike hK, hD⟩, hS.F ht⟩) hS.2.2 dM_foretold_31
set_option maxHeartbeats 4000000 in
set_option maxRecDepth 100000 in
theorem kM_foretold_1 (l : Launch) (dC : Nat → ClassId) (dI : Nat → Nat → Nat) (cI cJ : ClassId) (mm qlo qlk qhd qsf qpr qpa qsk qld qlz qrd qrv qhi qfw qkp : Nat) (sz : Nat) (ly : Nat) (ce : Nat) (co : Int64) (wo : Int64) (dy : Nat) (da : Int32) (db : Int32) (dr : Int32) (mn : Nat) (rn : Nat) (rd : Nat → Int32) (rv : Nat → Int64) (hrn : rn ≤ 20) : Met l yM_foretold wM_foretold ({ frames := 1, cells := 0, slots := 0, locals := 25 }) (va_Pc [.ref mm, .int (nI 1)] (fun U => U.heap.size = sz ∧ va_P (dC, dI) vwCl [(mm, .inr (5, [.int (nI ly), .int (nI ce), .ref qlo, .ref qlk, .ref qhd, .ref qsf, .ref qpr, .ref qpa, .ref qsk, .long co, .long wo, .int (nI dy), .int da, .int db, .int dr, .int (nI mn), .ref qld, .ref qlz, .int (nI rn), .ref qrd, .ref qrv, .ref qhi, .ref qfw, .ref qkp])), (qrd, .inl (cI, 20, .inl rd)), (qrv, .inl (cJ, 20, .inr (.inl rv)))] U.heap ∧ va_K (dC, dI) vwCl [(cI, .int), (cJ, .long)] U ∧ va_D (fun _ => True) [(mm, .inr (5, [.int (nI ly), .int (nI ce), .ref qlo, .ref qlk, .ref qhd, .ref qsf, .ref qpr, .ref qpa, .ref qsk, .long co, .long wo, .int (nI dy), .int da, .int db, .int dr, .int (nI mn), .ref qld, .ref qlz, .int (nI rn), .ref qrd, .ref qrv, .ref qhi, .ref qfw, .ref qkp])), (qrd, .inl (cI, 20, .inl rd)), (qrv, .inl (cJ, 20, .inr (.inl rv)))])) (va_Ql (fun res_ (_ : Unit) => res_ = k_foretold rd rv rn (nI 1)) (fun _ t => va_P (dC, dI) vwCl [(mm, .inr (5, [.int (nI ly), .int (nI ce), .ref qlo, .ref qlk, .ref qhd, .ref qsf, .ref qpr, .ref qpa, .ref qsk, .long co, .long wo, .int (nI dy), .int da, .int db, .int dr, .int (nI mn), .ref qld, .ref qlz, .int (nI rn), .ref qrd, .ref qrv, .ref qhi, .ref qfw, .ref qkp])), (qrd, .inl (cI, 20, .inl rd)), (qrv, .inl (cJ, 20, .inr (.inl rv)))] t.heap ∧ va_K (dC, dI) vwCl [(cI, .int), (cJ, .long)] t ∧ va_D (va_A [(mm, .inr (5, [.int (nI ly), .int (nI ce), .ref qlo, .ref qlk, .ref qhd, .ref qsf, .ref qpr, .ref qpa, .ref qsk, .long co, .long wo, .int (nI dy), .int da, .int db, .int dr, .int (nI mn), .ref qld, .ref qlz, .int (nI rn), .ref qrd, .ref qrv, .ref qhi, .ref qfw, .ref qkp])), (qrd, .inl (cI, 20, .inl rd)), (qrv, .inl (cJ, 20, .inr (.inl rv)))] sz) [(mm, .inr (5, [.int (nI ly), .int (nI ce), .ref qlo, .ref qlk, .ref qhd, .ref qsf, .ref qpr, .ref qpa, .ref qsk, .long co, .long wo, .int (nI dy), .int da, .int db, .int dr, .int (nI mn), .ref qld, .ref qlz, .int (nI rn), .ref qrd, .ref qrv, .ref qhi, .ref qfw, .ref qkp])), (qrd, .inl (cI, 20, .inl rd)), (qrv, .inl (cJ, 20, .inr (.inl rv)))]) (va_A [(mm, .inr (5, [.int (nI ly), .int (nI ce), .ref qlo, .ref qlk, .ref qhd, .ref qsf, .ref qpr, .ref qpa, .ref qsk, .long co, .long wo, .int (nI dy), .int da, .int db, .int dr, .int (nI mn), .ref qld, .ref qlz, .int (nI rn), .ref qrd, .ref qrv, .ref qhi, .ref qfw, .ref qkp])), (qrd, .inl (cI, 20, .inl rd)), (qrv, .inl (cJ, 20, .inr (.inl rv)))] sz)) 0 0 (va_A [(mm, .inr (5, [.int (nI ly), .int (nI ce), .ref qlo, .ref qlk, .ref qhd, .ref qsf, .ref qpr, .ref qpa, .ref qsk, .long co, .long wo, .int (nI dy), .int da, .int db, .int dr, .int (nI mn), .ref qld, .ref qlz, .int (nI rn), .ref qrd, .ref qrv, .ref qhi, .ref qfw, .ref qkp])), (qrd, .inl (cI, 20, .inl rd)), (qrv, .inl (cJ, 20, .inr (.inl rv)))] sz) := by
  refine Met.ofW (cc := bM_foretold) (maxL := 15) (ret := (some .long)) (by decide) rfl ?_
  intro p e s m args below meth c s₁ B hml hv
  obtain ⟨rfl, hsz, hP, hK, hD0⟩ := hv
  have hx := B.exec
  have hb := B.bytes
  have hr := B.returns
  have hts := atoms_spec (ws := wM_foretold) B.pre
  have hown : s.vm.findClass R_M = some m.cls := findClass_of_methodNamed B.named
  have htw : ∀ w ∈ WA, w.before _ s = true := fun w h => hts w (List.mem_cons_of_mem _ h)
  clear hts
  have hlocks := B.notSynchronized
  subst hsz
  have hD := hD0.self (sz := s.heap.size)
  generalize hAe : va_A [(mm, .inr (5, [.int (nI ly), .int (nI ce), .ref qlo, .ref qlk, .ref qhd, .ref qsf, .ref qpr, .ref qpa, .ref qsk, .long co, .long wo, .int (nI dy), .int da, .int db, .int dr, .int (nI mn), .ref qld, .ref qlz, .int (nI rn), .ref qrd, .ref qrv, .ref qhi, .ref qfw, .ref qkp])), (qrd, .inl (cI, 20, .inl rd)), (qrv, .inl (cJ, 20, .inr (.inl rv)))] s.heap.size = A at hD ⊢
  have hA : ∀ q : Nat, s.heap.size ≤ q → A q := fun q h => by rw [← hAe]; exact Or.inr h
  clear hAe hD0
  have hS : va_S A s.heap s.heap [] := va_S.rf
  have hP : va_P (dC, dI) vwCl [(mm, .inr (5, [.int (nI ly), .int (nI ce), .ref qlo, .ref qlk, .ref qhd, .ref qsf, .ref qpr, .ref qpa, .ref qsk, .long co, .long wo, .int (nI dy), .int da, .int db, .int dr, .int (nI mn), .ref qld, .ref qlz, .int (nI rn), .ref qrd, .ref qrv, .ref qhi, .ref qfw, .ref qkp])), (qrd, .inl (cI, 20, .inl rd)), (qrv, .inl (cJ, 20, .inr (.inl rv)))] s.heap := hP
  have hl := lv_entry ([.ref mm, .int (nI 1)]) (n := 15) (Nat.le_of_ble_eq_true rfl)
  rw [lg_entry_eq]
  generalize (lg_sl ([.ref mm, .int (nI 1)]) ++ List.replicate (15 - (lg_sl ([.ref mm, .int (nI 1)])).length) Slot.unset).toArray = ls at hl ⊢
  have hl : lv_has ls 15 [(0, .ref mm), (1, .int (nI 1))] := hl
  refine lv_iload_n hx hb dM_foretold_0 rfl (lv_at hl 1 rfl) ?_
  refine lv_i2l (v := 1) hx hb dM_foretold_1 (by decide +kernel) ?_
  refine lv_lconst (v := 0) hx hb dM_foretold_2 (by decide) ?_
  refine lv_ldc2 (v := 2) hx hb hown (htw _ m_482) dM_foretold_3 ?_
  have hPc := hP.sub (ws' := []) [] rfl
  have hDc := hD.sub (ws' := []) [] (by decide) rfl
  have hFc := va_free (wc := []) hD hS hA [] rfl
  refine va_calli (va_runS (As := [.long 1, .long 0, .long 2]) (rest := []) ⟨hx, hb, hml, hown, htw⟩ (kM_in l dC dI cI cJ s.heap.size 1 0 2) (va_cwS 3 htw (ws_good m_435 m_436 m_6 m_437) rfl rfl rfl (by decide +kernel) ⟨Nat.le_of_ble_eq_true rfl, Nat.le_of_ble_eq_true rfl⟩) ⟨fun a U g mk q => by obtain ⟨q0, q1, qP, qK, qD⟩ := q; exact ⟨q0, q1, qP, va_K.moved (u := U) (U := U.calling g mk a) (Vm.Alike.refl U.vm) qK, qD⟩, fun U hU hW => ⟨rfl, by rw [hU], by rw [hU]; exact hPc, va_K.moved hW.alike hK, hDc.weaken (fun _ _ _ _ => trivial)⟩⟩ rfl rfl hl.1 rfl (lv_room (Nat.le_of_ble_eq_true rfl)) dM_foretold_6 ⟨Nat.le_of_ble_eq_true rfl, Nat.le_of_ble_eq_true rfl⟩) hS (fun q _ h => hFc q h) hFc (fun res_ u_ t H1 locs ht hvm hw hB hz1 hk1 hS => ?_)
  obtain ⟨hP1, hK1, hD1⟩ := hB
  rw [ht] at hP1
  obtain ⟨hP, hD⟩ := va_join (wr := [(mm, .inr (5, [.int (nI ly), .int (nI ce), .ref qlo, .ref qlk, .ref qhd, .ref qsf, .ref qpr, .ref qpa, .ref qsk, .long co, .long wo, .int (nI dy), .int da, .int db, .int dr, .int (nI mn), .ref qld, .ref qlz, .int (nI rn), .ref qrd, .ref qrv, .ref qhi, .ref qfw, .ref qkp])), (qrd, .inl (cI, 20, .inl rd)), (qrv, .inl (cJ, 20, .inr (.inl rv)))]) (w1 := []) hP hD [] [0, 1, 2] rfl rfl (by decide) (by decide) hk1 hFc hP1 hD1
  generalize H1 = H at hP hS ⊢
  have hP : va_P (dC, dI) vwCl [(mm, .inr (5, [.int (nI ly), .int (nI ce), .ref qlo, .ref qlk, .ref qhd, .ref qsf, .ref qpr, .ref qpa, .ref qsk, .long co, .long wo, .int (nI dy), .int da, .int db, .int dr, .int (nI mn), .ref qld, .ref qlz, .int (nI rn), .ref qrd, .ref qrv, .ref qhi, .ref qfw, .ref qkp])), (qrd, .inl (cI, 20, .inl rd)), (qrv, .inl (cJ, 20, .inr (.inl rv)))] H := hP
  have hD : va_D A [(mm, .inr (5, [.int (nI ly), .int (nI ce), .ref qlo, .ref qlk, .ref qhd, .ref qsf, .ref qpr, .ref qpa, .ref qsk, .long co, .long wo, .int (nI dy), .int da, .int db, .int dr, .int (nI mn), .ref qld, .ref qlz, .int (nI rn), .ref qrd, .ref qrv, .ref qhi, .ref qfw, .ref qkp])), (qrd, .inl (cI, 20, .inl rd)), (qrv, .inl (cJ, 20, .inr (.inl rv)))] := hD
  clear hPc hDc hFc hP1 hD1 hK1 hk1 hz1 hvm ht
  obtain rfl : kb (0 ≤ 1 ∧ 1 ≤ 2) = res_ := hw.symm
  refine lv_if_eq (tgt := 28) hx hb dM_foretold_9 (by decide) (fun hc9 => ?_) (fun hc9 => ?_)
  · -- 9 taken
    rw [kb_eq0] at hc9
    exact absurd (by decide) hc9
  · -- 9 not taken
    rw [kb_eq0] at hc9
    refine lv_aload_n hx hb dM_foretold_12 rfl (lv_at hl 0 rfl) ?_
    refine va_get (D := (dC, dI)) (ci := 5) (v := .int (nI rn)) (C := R_M) (T := T_M) (N := 24) hx hb htw in_M hown hK hP 0 rfl rfl 18 (by decide) (htw _ m_375) (fun _ h9 => h9) rfl dM_foretold_13 ?_
    refine lv_iload_n hx hb dM_foretold_16 rfl (lv_at hl 1 rfl) ?_
    refine lv_if_ne (tgt := 24) hx hb dM_foretold_17 (by decide) (fun hc17 => ?_) (fun hc17 => ?_)
    · -- 17 taken
      rw [show (0 : Int32) = nI 0 from rfl, nI_eq (by omega) (by omega)] at hc17
      refine lv_iconst (v := nI 2) hx hb dM_foretold_24 (by decide) ?_
      refine lv_icmp_ge (tgt := 32) hx hb dM_foretold_25 (by decide) (fun hc25 => ?_) (fun hc25 => ?_)
      · -- 25 taken
        rw [nI_leI (by omega) (by omega)] at hc25
        refine lv_aload_n hx hb dM_foretold_32 rfl (lv_at hl 0 rfl) ?_
        refine va_get (D := (dC, dI)) (ci := 5) (v := .int (nI rn)) (C := R_M) (T := T_M) (N := 24) hx hb htw in_M hown hK hP 0 rfl rfl 18 (by decide) (htw _ m_375) (fun _ h9 => h9) rfl dM_foretold_33 ?_
        refine lv_istore_n (lv' := [(2, .int (nI rn)), (0, .ref mm), (1, .int (nI 1))]) hx hb dM_foretold_36 rfl hl (by decide) rfl (fun ls hl => ?_)
        refine lv_aload_n hx hb dM_foretold_37 rfl (lv_at hl 1 rfl) ?_
        refine va_get (D := (dC, dI)) (ci := 5) (v := .ref qrv) (C := R_M) (T := T_M) (N := 24) hx hb htw in_M hown hK hP 0 rfl rfl 20 (by decide) (htw _ m_377) (fun _ h9 => h9) rfl dM_foretold_38 ?_
        refine lv_iload_n hx hb dM_foretold_41 rfl (lv_at hl 0 rfl) ?_
        refine lv_iconst (v := nI 1) hx hb dM_foretold_42 (by decide) ?_
        refine lv_isub hx hb dM_foretold_43 ?_
        refine lv_topi (fun kv ekv => ?_)
        obtain rfl : kv = nI (rn - 1) := by rw [ekv]; exact pk_sub (by omega)
        refine xa_lald hx hb hK hP 2 1 rfl rfl (i := (rn - 1)) (by omega) (by decide) dM_foretold_44 ?_
        refine lv_lstore_n (lv' := [(3, .long (rv (rn - 1))), (2, .int (nI rn)), (0, .ref mm), (1, .int (nI 1))]) hx hb dM_foretold_45 rfl hl (by decide) rfl (fun ls hl => ?_)
        refine lv_iload_n hx hb dM_foretold_46 rfl (lv_at hl 3 rfl) ?_
        refine lv_iconst (v := nI 2) hx hb dM_foretold_47 (by decide) ?_
        refine lv_icmp_ne (tgt := 60) hx hb dM_foretold_48 (by decide) (fun hc48 => ?_) (fun hc48 => ?_)
        · -- 48 taken
          rw [nI_eq (by omega) (by omega)] at hc48
          refine lv_aload_n hx hb dM_foretold_60 rfl (lv_at hl 2 rfl) ?_
          refine va_get (D := (dC, dI)) (ci := 5) (v := .ref qrv) (C := R_M) (T := T_M) (N := 24) hx hb htw in_M hown hK hP 0 rfl rfl 20 (by decide) (htw _ m_377) (fun _ h9 => h9) rfl dM_foretold_61 ?_
          refine lv_iload_n hx hb dM_foretold_64 rfl (lv_at hl 1 rfl) ?_
          refine lv_iconst (v := nI 2) hx hb dM_foretold_65 (by decide) ?_
          refine lv_isub hx hb dM_foretold_66 ?_
          refine lv_topi (fun kv ekv => ?_)
          obtain rfl : kv = nI (rn - 2) := by rw [ekv]; exact pk_sub (by omega)
          refine xa_lald hx hb hK hP 2 1 rfl rfl (i := (rn - 2)) (by omega) (by decide) dM_foretold_67 ?_
          refine lv_lstore (lv' := [(5, .long (rv (rn - 2))), (3, .long (rv (rn - 1))), (2, .int (nI rn)), (0, .ref mm), (1, .int (nI 1))]) hx hb dM_foretold_68 hl (by decide) rfl (fun ls hl => ?_)
          refine lv_iload_n hx hb dM_foretold_70 rfl (lv_at hl 4 rfl) ?_
          refine lv_if_ne (tgt := 85) hx hb dM_foretold_71 (by decide) (fun hc71 => ?_) (fun hc71 => ?_)
          · -- 71 taken
            rw [show (0 : Int32) = nI 0 from rfl, nI_eq (by omega) (by omega)] at hc71
            refine lv_lconst (v := 0) hx hb dM_foretold_85 (by decide) ?_
            refine lv_lstore (lv' := [(7, .long 0), (5, .long (rv (rn - 2))), (3, .long (rv (rn - 1))), (2, .int (nI rn)), (0, .ref mm), (1, .int (nI 1))]) hx hb dM_foretold_86 hl (by decide) rfl (fun ls hl => ?_)
            refine lv_lload hx hb dM_foretold_88 (lv_at hl 0 rfl) ?_
            refine lv_ldc2 (v := 100000000) hx hb hown (htw _ m_535) dM_foretold_90 ?_
            refine W.lcmp hx hb dM_foretold_93 ?_
            refine lv_if_gt (tgt := 114) hx hb dM_foretold_94 (by decide) (fun hc94 => ?_) (fun hc94 => ?_)
            · -- 94 taken
              rw [lg_cmp_gt] at hc94
              exact absurd hc94 (by decide)
            · -- 94 not taken
              rw [lg_cmp_gt] at hc94
              refine lv_lload hx hb dM_foretold_97 (lv_at hl 1 rfl) ?_
              refine lv_ldc2 (v := 100000000) hx hb hown (htw _ m_535) dM_foretold_99 ?_
              refine W.lcmp hx hb dM_foretold_102 ?_
              refine lv_if_gt (tgt := 114) hx hb dM_foretold_103 (by decide) (fun hc103 => ?_) (fun hc103 => ?_)
              · -- 103 taken
                rw [lg_cmp_gt] at hc103
                refine lv_ldc2 (v := (-1)) hx hb hown (htw _ m_477) dM_foretold_114 ?_
                have hP : va_P (dC, dI) vwCl [(mm, .inr (5, [.int (nI ly), .int (nI ce), .ref qlo, .ref qlk, .ref qhd, .ref qsf, .ref qpr, .ref qpa, .ref qsk, .long co, .long wo, .int (nI dy), .int da, .int db, .int dr, .int (nI mn), .ref qld, .ref qlz, .int (nI rn), .ref qrd, .ref qrv, .ref qhi, .ref qfw, .ref qkp])), (qrd, .inl (cI, 20, .inl rd)), (qrv, .inl (cJ, 20, .inr (.inl rv)))] H := by first | exact hP | simpa only [] using hP
                have hD : va_D A [(mm, .inr (5, [.int (nI ly), .int (nI ce), .ref qlo, .ref qlk, .ref qhd, .ref qsf, .ref qpr, .ref qpa, .ref qsk, .long co, .long wo, .int (nI dy), .int da, .int db, .int dr, .int (nI mn), .ref qld, .ref qlz, .int (nI rn), .ref qrd, .ref qrv, .ref qhi, .ref qfw, .ref qkp])), (qrd, .inl (cI, 20, .inl rd)), (qrv, .inl (cJ, 20, .inr (.inl rv)))] := by first | exact hD | simpa only [] using hD
                exact W.lret (v := (-1)) hx hb hr (fun t ht hW => ⟨⟨(-1), (), rfl, by unfold k_foretold; rw [if_neg (by decide), if_pos rfl]; unfold k_f1; rw [if_neg (by omega), if_pos (Or.inl hc103)], by rw [ht]; exact hP, va_K.moved hW.alike hK, hD⟩, hS.F ht⟩) hS.2.2 dM_foretold_117
              · -- 103 not taken
                rw [lg_cmp_gt] at hc103
                refine lv_lload_n hx hb dM_foretold_106 rfl (lv_at hl 2 rfl) ?_
                refine lv_ldc2 (v := 100000000) hx hb hown (htw _ m_535) dM_foretold_107 ?_
                refine W.lcmp hx hb dM_foretold_110 ?_
                refine lv_if_le (tgt := 118) hx hb dM_foretold_111 (by decide) (fun hc111 => ?_) (fun hc111 => ?_)
                · -- 111 taken
                  rw [lg_cmp_le] at hc111
                  refine lv_iload_n hx hb dM_foretold_118 rfl (lv_at hl 5 rfl) ?_
                  refine lv_if_ne (tgt := 162) hx hb dM_foretold_119 (by decide) (fun hc119 => ?_) (fun hc119 => ?_)
                  · -- 119 taken
                    rw [show (0 : Int32) = nI 0 from rfl, nI_eq (by omega) (by omega)] at hc119
                    refine lv_iload_n hx hb dM_foretold_162 rfl (lv_at hl 5 rfl) ?_
                    refine lv_iconst (v := nI 1) hx hb dM_foretold_163 (by decide) ?_
                    refine lv_icmp_ne (tgt := 228) hx hb dM_foretold_164 (by decide) (fun hc164 => ?_) (fun hc164 => ?_)
                    · -- 164 taken
                      rw [nI_eq (by omega) (by omega)] at hc164
                      exfalso; omega
                    · -- 164 not taken
                      rw [nI_eq (by omega) (by omega)] at hc164
                      refine lv_aload_n hx hb dM_foretold_167 rfl (lv_at hl 4 rfl) ?_
                      refine va_get (D := (dC, dI)) (ci := 5) (v := .ref qrd) (C := R_M) (T := T_M) (N := 24) hx hb htw in_M hown hK hP 0 rfl rfl 19 (by decide) (htw _ m_376) (fun _ h9 => h9) rfl dM_foretold_168 ?_
                      refine lv_iload_n hx hb dM_foretold_171 rfl (lv_at hl 3 rfl) ?_
                      refine lv_iconst (v := nI 2) hx hb dM_foretold_172 (by decide) ?_
                      refine lv_isub hx hb dM_foretold_173 ?_
                      refine lv_topi (fun kv ekv => ?_)
                      obtain rfl : kv = nI (rn - 2) := by rw [ekv]; exact pk_sub (by omega)
                      refine xa_iald hx hb hK hP 1 0 rfl rfl (i := (rn - 2)) (by omega) (by decide) dM_foretold_174 ?_
                      refine lv_i2l (v := (rd (rn - 2)).toInt64) hx hb dM_foretold_175 rfl ?_
                      refine lv_lstore (lv' := [(9, .long ((rd (rn - 2)).toInt64)), (7, .long 0), (5, .long (rv (rn - 2))), (3, .long (rv (rn - 1))), (2, .int (nI rn)), (0, .ref mm), (1, .int (nI 1))]) hx hb dM_foretold_176 hl (by decide) rfl (fun ls hl => ?_)
                      refine lv_aload_n hx hb dM_foretold_178 rfl (lv_at hl 5 rfl) ?_
                      refine va_get (D := (dC, dI)) (ci := 5) (v := .ref qrd) (C := R_M) (T := T_M) (N := 24) hx hb htw in_M hown hK hP 0 rfl rfl 19 (by decide) (htw _ m_376) (fun _ h9 => h9) rfl dM_foretold_179 ?_
                      refine lv_iload_n hx hb dM_foretold_182 rfl (lv_at hl 4 rfl) ?_
                      refine lv_iconst (v := nI 1) hx hb dM_foretold_183 (by decide) ?_
                      refine lv_isub hx hb dM_foretold_184 ?_
                      refine lv_topi (fun kv ekv => ?_)
                      obtain rfl : kv = nI (rn - 1) := by rw [ekv]; exact pk_sub (by omega)
                      refine xa_iald hx hb hK hP 1 0 rfl rfl (i := (rn - 1)) (by omega) (by decide) dM_foretold_185 ?_
                      refine lv_i2l (v := (rd (rn - 1)).toInt64) hx hb dM_foretold_186 rfl ?_
                      refine lv_lstore (lv' := [(11, .long ((rd (rn - 1)).toInt64)), (9, .long ((rd (rn - 2)).toInt64)), (7, .long 0), (5, .long (rv (rn - 2))), (3, .long (rv (rn - 1))), (2, .int (nI rn)), (0, .ref mm), (1, .int (nI 1))]) hx hb dM_foretold_187 hl (by decide) rfl (fun ls hl => ?_)
                      refine lv_lload hx hb dM_foretold_189 (lv_at hl 0 rfl) ?_
                      refine lv_lload hx hb dM_foretold_191 (lv_at hl 3 rfl) ?_
                      refine lv_lmul hx hb dM_foretold_193 ?_
                      refine lv_lload hx hb dM_foretold_194 (lv_at hl 1 rfl) ?_
                      refine lv_lload_n hx hb dM_foretold_196 rfl (lv_at hl 4 rfl) ?_
                      refine lv_lmul hx hb dM_foretold_197 ?_
                      refine lv_lsub hx hb dM_foretold_198 ?_
                      refine lv_lstore (lv' := [(13, .long ((((rd (rn - 1)).toInt64) * (rv (rn - 2))) - (((rd (rn - 2)).toInt64) * (rv (rn - 1))))), (11, .long ((rd (rn - 1)).toInt64)), (9, .long ((rd (rn - 2)).toInt64)), (7, .long 0), (5, .long (rv (rn - 2))), (3, .long (rv (rn - 1))), (2, .int (nI rn)), (0, .ref mm), (1, .int (nI 1))]) hx hb dM_foretold_199 hl (by decide) rfl (fun ls hl => ?_)
                      refine lv_lload hx hb dM_foretold_201 (lv_at hl 0 rfl) ?_
                      refine lv_lconst (v := 0) hx hb dM_foretold_203 (by decide) ?_
                      refine W.lcmp hx hb dM_foretold_204 ?_
                      refine lv_if_ne (tgt := 214) hx hb dM_foretold_205 (by decide) (fun hc205 => ?_) (fun hc205 => ?_)
                      · -- 205 taken
                        rw [lg_cmp_eq] at hc205
                        refine lv_lload hx hb dM_foretold_214 (lv_at hl 1 rfl) ?_
                        refine lv_lload hx hb dM_foretold_216 (lv_at hl 2 rfl) ?_
                        refine lv_lsub hx hb dM_foretold_218 ?_
                        refine lv_lload hx hb dM_foretold_219 (lv_at hl 4 rfl) ?_
                        refine lv_lmul hx hb dM_foretold_221 ?_
                        refine lv_lload_n hx hb dM_foretold_222 rfl (lv_at hl 5 rfl) ?_
                        refine lv_lmul hx hb dM_foretold_223 ?_
                        refine lv_lload hx hb dM_foretold_224 (lv_at hl 0 rfl) ?_
                        refine lv_ldiv hx hb dM_foretold_226 hc205 ?_
                        have hP : va_P (dC, dI) vwCl [(mm, .inr (5, [.int (nI ly), .int (nI ce), .ref qlo, .ref qlk, .ref qhd, .ref qsf, .ref qpr, .ref qpa, .ref qsk, .long co, .long wo, .int (nI dy), .int da, .int db, .int dr, .int (nI mn), .ref qld, .ref qlz, .int (nI rn), .ref qrd, .ref qrv, .ref qhi, .ref qfw, .ref qkp])), (qrd, .inl (cI, 20, .inl rd)), (qrv, .inl (cJ, 20, .inr (.inl rv)))] H := by first | exact hP | simpa only [] using hP
                        have hD : va_D A [(mm, .inr (5, [.int (nI ly), .int (nI ce), .ref qlo, .ref qlk, .ref qhd, .ref qsf, .ref qpr, .ref qpa, .ref qsk, .long co, .long wo, .int (nI dy), .int da, .int db, .int dr, .int (nI mn), .ref qld, .ref qlz, .int (nI rn), .ref qrd, .ref qrv, .ref qhi, .ref qfw, .ref qkp])), (qrd, .inl (cI, 20, .inl rd)), (qrv, .inl (cJ, 20, .inr (.inl rv)))] := by first | exact hD | simpa only [] using hD
                        exact W.lret (v := (((((rd (rn - 1)).toInt64) - ((rd (rn - 2)).toInt64)) * (rv (rn - 2))) * (rv (rn - 1))) / ((((rd (rn - 1)).toInt64) * (rv (rn - 2))) - (((rd (rn - 2)).toInt64) * (rv (rn - 1))))) hx hb hr (fun t ht hW => ⟨⟨(((((rd (rn - 1)).toInt64) - ((rd (rn - 2)).toInt64)) * (rv (rn - 2))) * (rv (rn - 1))) / ((((rd (rn - 1)).toInt64) * (rv (rn - 2))) - (((rd (rn - 2)).toInt64) * (rv (rn - 1)))), (), rfl, by unfold k_foretold; rw [if_neg (by decide), if_pos rfl]; unfold k_f1; rw [if_neg (by omega), if_neg (fun h => h.elim hc103 (fun h => absurd h (Int64.not_lt.mpr hc111)))]; unfold k_quo; rw [if_neg hc205], by rw [ht]; exact hP, va_K.moved hW.alike hK, hD⟩, hS.F ht⟩) hS.2.2 dM_foretold_227
                      · -- 205 not taken
                        rw [lg_cmp_eq] at hc205
                        refine lv_ldc2 (v := (-1)) hx hb hown (htw _ m_477) dM_foretold_208 ?_
                        refine lv_goto (tgt := 227) hx hb dM_foretold_211 (by decide) ?_
                        have hP : va_P (dC, dI) vwCl [(mm, .inr (5, [.int (nI ly), .int (nI ce), .ref qlo, .ref qlk, .ref qhd, .ref qsf, .ref qpr, .ref qpa, .ref qsk, .long co, .long wo, .int (nI dy), .int da, .int db, .int dr, .int (nI mn), .ref qld, .ref qlz, .int (nI rn), .ref qrd, .ref qrv, .ref qhi, .ref qfw, .ref qkp])), (qrd, .inl (cI, 20, .inl rd)), (qrv, .inl (cJ, 20, .inr (.inl rv)))] H := by first | exact hP | simpa only [] using hP
                        have hD : va_D A [(mm, .inr (5, [.int (nI ly), .int (nI ce), .ref qlo, .ref qlk, .ref qhd, .ref qsf, .ref qpr, .ref qpa, .ref qsk, .long co, .long wo, .int (nI dy), .int da, .int db, .int dr, .int (nI mn), .ref qld, .ref qlz, .int (nI rn), .ref qrd, .ref qrv, .ref qhi, .ref qfw, .ref qkp])), (qrd, .inl (cI, 20, .inl rd)), (qrv, .inl (cJ, 20, .inr (.inl rv)))] := by first | exact hD | simpa only [] using hD
                        exact W.lret (v := (-1)) hx hb hr (fun t ht hW => ⟨⟨(-1), (), rfl, by unfold k_foretold; rw [if_neg (by decide), if_pos rfl]; unfold k_f1; rw [if_neg (by omega), if_neg (fun h => h.elim hc103 (fun h => absurd h (Int64.not_lt.mpr hc111)))]; unfold k_quo; rw [if_pos hc205], by rw [ht]; exact hP, va_K.moved hW.alike hK, hD⟩, hS.F ht⟩) hS.2.2 dM_foretold_227
                  · -- 119 not taken
                    rw [show (0 : Int32) = nI 0 from rfl, nI_eq (by omega) (by omega)] at hc119
                    exfalso; omega
                · -- 111 not taken
                  rw [lg_cmp_le] at hc111
                  refine lv_ldc2 (v := (-1)) hx hb hown (htw _ m_477) dM_foretold_114 ?_
                  have hP : va_P (dC, dI) vwCl [(mm, .inr (5, [.int (nI ly), .int (nI ce), .ref qlo, .ref qlk, .ref qhd, .ref qsf, .ref qpr, .ref qpa, .ref qsk, .long co, .long wo, .int (nI dy), .int da, .int db, .int dr, .int (nI mn), .ref qld, .ref qlz, .int (nI rn), .ref qrd, .ref qrv, .ref qhi, .ref qfw, .ref qkp])), (qrd, .inl (cI, 20, .inl rd)), (qrv, .inl (cJ, 20, .inr (.inl rv)))] H := by first | exact hP | simpa only [] using hP
                  have hD : va_D A [(mm, .inr (5, [.int (nI ly), .int (nI ce), .ref qlo, .ref qlk, .ref qhd, .ref qsf, .ref qpr, .ref qpa, .ref qsk, .long co, .long wo, .int (nI dy), .int da, .int db, .int dr, .int (nI mn), .ref qld, .ref qlz, .int (nI rn), .ref qrd, .ref qrv, .ref qhi, .ref qfw, .ref qkp])), (qrd, .inl (cI, 20, .inl rd)), (qrv, .inl (cJ, 20, .inr (.inl rv)))] := by first | exact hD | simpa only [] using hD
                  exact W.lret (v := (-1)) hx hb hr (fun t ht hW => ⟨⟨(-1), (), rfl, by unfold k_foretold; rw [if_neg (by decide), if_pos rfl]; unfold k_f1; rw [if_neg (by omega), if_pos (Or.inr (Int64.not_le.mp hc111))], by rw [ht]; exact hP, va_K.moved hW.alike hK, hD⟩, hS.F ht⟩) hS.2.2 dM_foretold_117
          · -- 71 not taken
            rw [show (0 : Int32) = nI 0 from rfl, nI_eq (by omega) (by omega)] at hc71
            exfalso; omega
        · -- 48 not taken
          rw [nI_eq (by omega) (by omega)] at hc48
          exfalso; omega
      · -- 25 not taken
        rw [nI_leI (by omega) (by omega)] at hc25
        refine lv_ldc2 (v := (-1)) hx hb hown (htw _ m_477) dM_foretold_28 ?_
        have hP : va_P (dC, dI) vwCl [(mm, .inr (5, [.int (nI ly), .int (nI ce), .ref qlo, .ref qlk, .ref qhd, .ref qsf, .ref qpr, .ref qpa, .ref qsk, .long co, .long wo, .int (nI dy), .int da, .int db, .int dr, .int (nI mn), .ref qld, .ref qlz, .int (nI rn), .ref qrd, .ref qrv, .ref qhi, .ref qfw, .ref qkp])), (qrd, .inl (cI, 20, .inl rd)), (qrv, .inl (cJ, 20, .inr (.inl rv)))] H := by first | exact hP | simpa only [] using hP
        have hD : va_D A [(mm, .inr (5, [.int (nI ly), .int (nI ce), .ref qlo, .ref qlk, .ref qhd, .ref qsf, .ref qpr, .ref qpa, .ref qsk, .long co, .long wo, .int (nI dy), .int da, .int db, .int dr, .int (nI mn), .ref qld, .ref qlz, .int (nI rn), .ref qrd, .ref qrv, .ref qhi, .ref qfw, .ref qkp])), (qrd, .inl (cI, 20, .inl rd)), (qrv, .inl (cJ, 20, .inr (.inl rv)))] := by first | exact hD | simpa only [] using hD
        exact W.lret (v := (-1)) hx hb hr (fun t ht hW => ⟨⟨(-1), (), rfl, by unfold k_foretold; rw [if_neg (by decide), if_pos rfl]; unfold k_f1; rw [if_pos (by omega)], by rw [ht]; exact hP, va_K.moved hW.alike hK, hD⟩, hS.F ht⟩) hS.2.2 dM_foretold_31
    · -- 17 not taken
      rw [show (0 : Int32) = nI 0 from rfl, nI_eq (by omega) (by omega)] at hc17
      exfalso; omega
set_option maxHeartbeats 4000000 in
set_option maxRecDepth 100000 in
theorem kM_foretold_2 (l : Launch) (dC : Nat → ClassId) (dI : Nat → Nat → Nat) (cI cJ : ClassId) (mm qlo qlk qhd qsf qpr qpa qsk qld qlz qrd qrv qhi qfw qkp : Nat) (sz : Nat) (ly : Nat) (ce : Nat) (co : Int64) (wo : Int64) (dy : Nat) (da : Int32) (db : Int32) (dr : Int32) (mn : Nat) (rn : Nat) (rd : Nat → Int32) (rv : Nat → Int64) (hrn : rn ≤ 20) (hdz : ¬ (rd (rn - 1) - rd 0).toInt64 = 0) (hrn2 : 2 ≤ rn) : Met l yM_foretold wM_foretold ({ frames := 1, cells := 0, slots := 0, locals := 25 }) (va_Pc [.ref mm, .int (nI 2)] (fun U => U.heap.size = sz ∧ va_P (dC, dI) vwCl [(mm, .inr (5, [.int (nI ly), .int (nI ce), .ref qlo, .ref qlk, .ref qhd, .ref qsf, .ref qpr, .ref qpa, .ref qsk, .long co, .long wo, .int (nI dy), .int da, .int db, .int dr, .int (nI mn), .ref qld, .ref qlz, .int (nI rn), .ref qrd, .ref qrv, .ref qhi, .ref qfw, .ref qkp])), (qrd, .inl (cI, 20, .inl rd)), (qrv, .inl (cJ, 20, .inr (.inl rv)))] U.heap ∧ va_K (dC, dI) vwCl [(cI, .int), (cJ, .long)] U ∧ va_D (fun _ => True) [(mm, .inr (5, [.int (nI ly), .int (nI ce), .ref qlo, .ref qlk, .ref qhd, .ref qsf, .ref qpr, .ref qpa, .ref qsk, .long co, .long wo, .int (nI dy), .int da, .int db, .int dr, .int (nI mn), .ref qld, .ref qlz, .int (nI rn), .ref qrd, .ref qrv, .ref qhi, .ref qfw, .ref qkp])), (qrd, .inl (cI, 20, .inl rd)), (qrv, .inl (cJ, 20, .inr (.inl rv)))])) (va_Ql (fun res_ (_ : Unit) => res_ = k_foretold rd rv rn (nI 2)) (fun _ t => va_P (dC, dI) vwCl [(mm, .inr (5, [.int (nI ly), .int (nI ce), .ref qlo, .ref qlk, .ref qhd, .ref qsf, .ref qpr, .ref qpa, .ref qsk, .long co, .long wo, .int (nI dy), .int da, .int db, .int dr, .int (nI mn), .ref qld, .ref qlz, .int (nI rn), .ref qrd, .ref qrv, .ref qhi, .ref qfw, .ref qkp])), (qrd, .inl (cI, 20, .inl rd)), (qrv, .inl (cJ, 20, .inr (.inl rv)))] t.heap ∧ va_K (dC, dI) vwCl [(cI, .int), (cJ, .long)] t ∧ va_D (va_A [(mm, .inr (5, [.int (nI ly), .int (nI ce), .ref qlo, .ref qlk, .ref qhd, .ref qsf, .ref qpr, .ref qpa, .ref qsk, .long co, .long wo, .int (nI dy), .int da, .int db, .int dr, .int (nI mn), .ref qld, .ref qlz, .int (nI rn), .ref qrd, .ref qrv, .ref qhi, .ref qfw, .ref qkp])), (qrd, .inl (cI, 20, .inl rd)), (qrv, .inl (cJ, 20, .inr (.inl rv)))] sz) [(mm, .inr (5, [.int (nI ly), .int (nI ce), .ref qlo, .ref qlk, .ref qhd, .ref qsf, .ref qpr, .ref qpa, .ref qsk, .long co, .long wo, .int (nI dy), .int da, .int db, .int dr, .int (nI mn), .ref qld, .ref qlz, .int (nI rn), .ref qrd, .ref qrv, .ref qhi, .ref qfw, .ref qkp])), (qrd, .inl (cI, 20, .inl rd)), (qrv, .inl (cJ, 20, .inr (.inl rv)))]) (va_A [(mm, .inr (5, [.int (nI ly), .int (nI ce), .ref qlo, .ref qlk, .ref qhd, .ref qsf, .ref qpr, .ref qpa, .ref qsk, .long co, .long wo, .int (nI dy), .int da, .int db, .int dr, .int (nI mn), .ref qld, .ref qlz, .int (nI rn), .ref qrd, .ref qrv, .ref qhi, .ref qfw, .ref qkp])), (qrd, .inl (cI, 20, .inl rd)), (qrv, .inl (cJ, 20, .inr (.inl rv)))] sz)) 0 0 (va_A [(mm, .inr (5, [.int (nI ly), .int (nI ce), .ref qlo, .ref qlk, .ref qhd, .ref qsf, .ref qpr, .ref qpa, .ref qsk, .long co, .long wo, .int (nI dy), .int da, .int db, .int dr, .int (nI mn), .ref qld, .ref qlz, .int (nI rn), .ref qrd, .ref qrv, .ref qhi, .ref qfw, .ref qkp])), (qrd, .inl (cI, 20, .inl rd)), (qrv, .inl (cJ, 20, .inr (.inl rv)))] sz) := by
  refine Met.ofW (cc := bM_foretold) (maxL := 15) (ret := (some .long)) (by decide) rfl ?_
  intro p e s m args below meth c s₁ B hml hv
  obtain ⟨rfl, hsz, hP, hK, hD0⟩ := hv
  have hx := B.exec
  have hb := B.bytes
  have hr := B.returns
  have hts := atoms_spec (ws := wM_foretold) B.pre
  have hown : s.vm.findClass R_M = some m.cls := findClass_of_methodNamed B.named
  have htw : ∀ w ∈ WA, w.before _ s = true := fun w h => hts w (List.mem_cons_of_mem _ h)
  clear hts
  have hlocks := B.notSynchronized
  subst hsz
  have hD := hD0.self (sz := s.heap.size)
  generalize hAe : va_A [(mm, .inr (5, [.int (nI ly), .int (nI ce), .ref qlo, .ref qlk, .ref qhd, .ref qsf, .ref qpr, .ref qpa, .ref qsk, .long co, .long wo, .int (nI dy), .int da, .int db, .int dr, .int (nI mn), .ref qld, .ref qlz, .int (nI rn), .ref qrd, .ref qrv, .ref qhi, .ref qfw, .ref qkp])), (qrd, .inl (cI, 20, .inl rd)), (qrv, .inl (cJ, 20, .inr (.inl rv)))] s.heap.size = A at hD ⊢
  have hA : ∀ q : Nat, s.heap.size ≤ q → A q := fun q h => by rw [← hAe]; exact Or.inr h
  clear hAe hD0
  have hS : va_S A s.heap s.heap [] := va_S.rf
  have hP : va_P (dC, dI) vwCl [(mm, .inr (5, [.int (nI ly), .int (nI ce), .ref qlo, .ref qlk, .ref qhd, .ref qsf, .ref qpr, .ref qpa, .ref qsk, .long co, .long wo, .int (nI dy), .int da, .int db, .int dr, .int (nI mn), .ref qld, .ref qlz, .int (nI rn), .ref qrd, .ref qrv, .ref qhi, .ref qfw, .ref qkp])), (qrd, .inl (cI, 20, .inl rd)), (qrv, .inl (cJ, 20, .inr (.inl rv)))] s.heap := hP
  have hl := lv_entry ([.ref mm, .int (nI 2)]) (n := 15) (Nat.le_of_ble_eq_true rfl)
  rw [lg_entry_eq]
  generalize (lg_sl ([.ref mm, .int (nI 2)]) ++ List.replicate (15 - (lg_sl ([.ref mm, .int (nI 2)])).length) Slot.unset).toArray = ls at hl ⊢
  have hl : lv_has ls 15 [(0, .ref mm), (1, .int (nI 2))] := hl
  refine lv_iload_n hx hb dM_foretold_0 rfl (lv_at hl 1 rfl) ?_
  refine lv_i2l (v := 2) hx hb dM_foretold_1 (by decide +kernel) ?_
  refine lv_lconst (v := 0) hx hb dM_foretold_2 (by decide) ?_
  refine lv_ldc2 (v := 2) hx hb hown (htw _ m_482) dM_foretold_3 ?_
  have hPc := hP.sub (ws' := []) [] rfl
  have hDc := hD.sub (ws' := []) [] (by decide) rfl
  have hFc := va_free (wc := []) hD hS hA [] rfl
  refine va_calli (va_runS (As := [.long 2, .long 0, .long 2]) (rest := []) ⟨hx, hb, hml, hown, htw⟩ (kM_in l dC dI cI cJ s.heap.size 2 0 2) (va_cwS 3 htw (ws_good m_435 m_436 m_6 m_437) rfl rfl rfl (by decide +kernel) ⟨Nat.le_of_ble_eq_true rfl, Nat.le_of_ble_eq_true rfl⟩) ⟨fun a U g mk q => by obtain ⟨q0, q1, qP, qK, qD⟩ := q; exact ⟨q0, q1, qP, va_K.moved (u := U) (U := U.calling g mk a) (Vm.Alike.refl U.vm) qK, qD⟩, fun U hU hW => ⟨rfl, by rw [hU], by rw [hU]; exact hPc, va_K.moved hW.alike hK, hDc.weaken (fun _ _ _ _ => trivial)⟩⟩ rfl rfl hl.1 rfl (lv_room (Nat.le_of_ble_eq_true rfl)) dM_foretold_6 ⟨Nat.le_of_ble_eq_true rfl, Nat.le_of_ble_eq_true rfl⟩) hS (fun q _ h => hFc q h) hFc (fun res_ u_ t H1 locs ht hvm hw hB hz1 hk1 hS => ?_)
  obtain ⟨hP1, hK1, hD1⟩ := hB
  rw [ht] at hP1
  obtain ⟨hP, hD⟩ := va_join (wr := [(mm, .inr (5, [.int (nI ly), .int (nI ce), .ref qlo, .ref qlk, .ref qhd, .ref qsf, .ref qpr, .ref qpa, .ref qsk, .long co, .long wo, .int (nI dy), .int da, .int db, .int dr, .int (nI mn), .ref qld, .ref qlz, .int (nI rn), .ref qrd, .ref qrv, .ref qhi, .ref qfw, .ref qkp])), (qrd, .inl (cI, 20, .inl rd)), (qrv, .inl (cJ, 20, .inr (.inl rv)))]) (w1 := []) hP hD [] [0, 1, 2] rfl rfl (by decide) (by decide) hk1 hFc hP1 hD1
  generalize H1 = H at hP hS ⊢
  have hP : va_P (dC, dI) vwCl [(mm, .inr (5, [.int (nI ly), .int (nI ce), .ref qlo, .ref qlk, .ref qhd, .ref qsf, .ref qpr, .ref qpa, .ref qsk, .long co, .long wo, .int (nI dy), .int da, .int db, .int dr, .int (nI mn), .ref qld, .ref qlz, .int (nI rn), .ref qrd, .ref qrv, .ref qhi, .ref qfw, .ref qkp])), (qrd, .inl (cI, 20, .inl rd)), (qrv, .inl (cJ, 20, .inr (.inl rv)))] H := hP
  have hD : va_D A [(mm, .inr (5, [.int (nI ly), .int (nI ce), .ref qlo, .ref qlk, .ref qhd, .ref qsf, .ref qpr, .ref qpa, .ref qsk, .long co, .long wo, .int (nI dy), .int da, .int db, .int dr, .int (nI mn), .ref qld, .ref qlz, .int (nI rn), .ref qrd, .ref qrv, .ref qhi, .ref qfw, .ref qkp])), (qrd, .inl (cI, 20, .inl rd)), (qrv, .inl (cJ, 20, .inr (.inl rv)))] := hD
  clear hPc hDc hFc hP1 hD1 hK1 hk1 hz1 hvm ht
  obtain rfl : kb (0 ≤ 2 ∧ 2 ≤ 2) = res_ := hw.symm
  refine lv_if_eq (tgt := 28) hx hb dM_foretold_9 (by decide) (fun hc9 => ?_) (fun hc9 => ?_)
  · -- 9 taken
    rw [kb_eq0] at hc9
    exact absurd (by decide) hc9
  · -- 9 not taken
    rw [kb_eq0] at hc9
    refine lv_aload_n hx hb dM_foretold_12 rfl (lv_at hl 0 rfl) ?_
    refine va_get (D := (dC, dI)) (ci := 5) (v := .int (nI rn)) (C := R_M) (T := T_M) (N := 24) hx hb htw in_M hown hK hP 0 rfl rfl 18 (by decide) (htw _ m_375) (fun _ h9 => h9) rfl dM_foretold_13 ?_
    refine lv_iload_n hx hb dM_foretold_16 rfl (lv_at hl 1 rfl) ?_
    refine lv_if_ne (tgt := 24) hx hb dM_foretold_17 (by decide) (fun hc17 => ?_) (fun hc17 => ?_)
    · -- 17 taken
      rw [show (0 : Int32) = nI 0 from rfl, nI_eq (by omega) (by omega)] at hc17
      refine lv_iconst (v := nI 2) hx hb dM_foretold_24 (by decide) ?_
      refine lv_icmp_ge (tgt := 32) hx hb dM_foretold_25 (by decide) (fun hc25 => ?_) (fun hc25 => ?_)
      · -- 25 taken
        rw [nI_leI (by omega) (by omega)] at hc25
        refine lv_aload_n hx hb dM_foretold_32 rfl (lv_at hl 0 rfl) ?_
        refine va_get (D := (dC, dI)) (ci := 5) (v := .int (nI rn)) (C := R_M) (T := T_M) (N := 24) hx hb htw in_M hown hK hP 0 rfl rfl 18 (by decide) (htw _ m_375) (fun _ h9 => h9) rfl dM_foretold_33 ?_
        refine lv_istore_n (lv' := [(2, .int (nI rn)), (0, .ref mm), (1, .int (nI 2))]) hx hb dM_foretold_36 rfl hl (by decide) rfl (fun ls hl => ?_)
        refine lv_aload_n hx hb dM_foretold_37 rfl (lv_at hl 1 rfl) ?_
        refine va_get (D := (dC, dI)) (ci := 5) (v := .ref qrv) (C := R_M) (T := T_M) (N := 24) hx hb htw in_M hown hK hP 0 rfl rfl 20 (by decide) (htw _ m_377) (fun _ h9 => h9) rfl dM_foretold_38 ?_
        refine lv_iload_n hx hb dM_foretold_41 rfl (lv_at hl 0 rfl) ?_
        refine lv_iconst (v := nI 1) hx hb dM_foretold_42 (by decide) ?_
        refine lv_isub hx hb dM_foretold_43 ?_
        refine lv_topi (fun kv ekv => ?_)
        obtain rfl : kv = nI (rn - 1) := by rw [ekv]; exact pk_sub (by omega)
        refine xa_lald hx hb hK hP 2 1 rfl rfl (i := (rn - 1)) (by omega) (by decide) dM_foretold_44 ?_
        refine lv_lstore_n (lv' := [(3, .long (rv (rn - 1))), (2, .int (nI rn)), (0, .ref mm), (1, .int (nI 2))]) hx hb dM_foretold_45 rfl hl (by decide) rfl (fun ls hl => ?_)
        refine lv_iload_n hx hb dM_foretold_46 rfl (lv_at hl 3 rfl) ?_
        refine lv_iconst (v := nI 2) hx hb dM_foretold_47 (by decide) ?_
        refine lv_icmp_ne (tgt := 60) hx hb dM_foretold_48 (by decide) (fun hc48 => ?_) (fun hc48 => ?_)
        · -- 48 taken
          rw [nI_eq (by omega) (by omega)] at hc48
          exfalso; omega
        · -- 48 not taken
          rw [nI_eq (by omega) (by omega)] at hc48
          refine lv_aload_n hx hb dM_foretold_51 rfl (lv_at hl 2 rfl) ?_
          refine va_get (D := (dC, dI)) (ci := 5) (v := .ref qrv) (C := R_M) (T := T_M) (N := 24) hx hb htw in_M hown hK hP 0 rfl rfl 20 (by decide) (htw _ m_377) (fun _ h9 => h9) rfl dM_foretold_52 ?_
          refine lv_iconst (v := nI 0) hx hb dM_foretold_55 (by decide) ?_
          refine xa_lald hx hb hK hP 2 1 rfl rfl (i := 0) (by omega) (by decide) dM_foretold_56 ?_
          refine lv_goto (tgt := 68) hx hb dM_foretold_57 (by decide) ?_
          refine lv_lstore (lv' := [(5, .long (rv 0)), (3, .long (rv (rn - 1))), (2, .int (nI rn)), (0, .ref mm), (1, .int (nI 2))]) hx hb dM_foretold_68 hl (by decide) rfl (fun ls hl => ?_)
          refine lv_iload_n hx hb dM_foretold_70 rfl (lv_at hl 4 rfl) ?_
          refine lv_if_ne (tgt := 85) hx hb dM_foretold_71 (by decide) (fun hc71 => ?_) (fun hc71 => ?_)
          · -- 71 taken
            rw [show (0 : Int32) = nI 0 from rfl, nI_eq (by omega) (by omega)] at hc71
            refine lv_lconst (v := 0) hx hb dM_foretold_85 (by decide) ?_
            refine lv_lstore (lv' := [(7, .long 0), (5, .long (rv 0)), (3, .long (rv (rn - 1))), (2, .int (nI rn)), (0, .ref mm), (1, .int (nI 2))]) hx hb dM_foretold_86 hl (by decide) rfl (fun ls hl => ?_)
            refine lv_lload hx hb dM_foretold_88 (lv_at hl 0 rfl) ?_
            refine lv_ldc2 (v := 100000000) hx hb hown (htw _ m_535) dM_foretold_90 ?_
            refine W.lcmp hx hb dM_foretold_93 ?_
            refine lv_if_gt (tgt := 114) hx hb dM_foretold_94 (by decide) (fun hc94 => ?_) (fun hc94 => ?_)
            · -- 94 taken
              rw [lg_cmp_gt] at hc94
              exact absurd hc94 (by decide)
            · -- 94 not taken
              rw [lg_cmp_gt] at hc94
              refine lv_lload hx hb dM_foretold_97 (lv_at hl 1 rfl) ?_
              refine lv_ldc2 (v := 100000000) hx hb hown (htw _ m_535) dM_foretold_99 ?_
              refine W.lcmp hx hb dM_foretold_102 ?_
              refine lv_if_gt (tgt := 114) hx hb dM_foretold_103 (by decide) (fun hc103 => ?_) (fun hc103 => ?_)
              · -- 103 taken
                rw [lg_cmp_gt] at hc103
                refine lv_ldc2 (v := (-1)) hx hb hown (htw _ m_477) dM_foretold_114 ?_
                have hP : va_P (dC, dI) vwCl [(mm, .inr (5, [.int (nI ly), .int (nI ce), .ref qlo, .ref qlk, .ref qhd, .ref qsf, .ref qpr, .ref qpa, .ref qsk, .long co, .long wo, .int (nI dy), .int da, .int db, .int dr, .int (nI mn), .ref qld, .ref qlz, .int (nI rn), .ref qrd, .ref qrv, .ref qhi, .ref qfw, .ref qkp])), (qrd, .inl (cI, 20, .inl rd)), (qrv, .inl (cJ, 20, .inr (.inl rv)))] H := by first | exact hP | simpa only [] using hP
                have hD : va_D A [(mm, .inr (5, [.int (nI ly), .int (nI ce), .ref qlo, .ref qlk, .ref qhd, .ref qsf, .ref qpr, .ref qpa, .ref qsk, .long co, .long wo, .int (nI dy), .int da, .int db, .int dr, .int (nI mn), .ref qld, .ref qlz, .int (nI rn), .ref qrd, .ref qrv, .ref qhi, .ref qfw, .ref qkp])), (qrd, .inl (cI, 20, .inl rd)), (qrv, .inl (cJ, 20, .inr (.inl rv)))] := by first | exact hD | simpa only [] using hD
                exact W.lret (v := (-1)) hx hb hr (fun t ht hW => ⟨⟨(-1), (), rfl, by unfold k_foretold; rw [if_neg (by decide), if_neg (by decide), if_pos rfl]; unfold k_f2; rw [if_neg (by omega), if_pos (Or.inl hc103)], by rw [ht]; exact hP, va_K.moved hW.alike hK, hD⟩, hS.F ht⟩) hS.2.2 dM_foretold_117
              · -- 103 not taken
                rw [lg_cmp_gt] at hc103
                refine lv_lload_n hx hb dM_foretold_106 rfl (lv_at hl 2 rfl) ?_
                refine lv_ldc2 (v := 100000000) hx hb hown (htw _ m_535) dM_foretold_107 ?_
                refine W.lcmp hx hb dM_foretold_110 ?_
                refine lv_if_le (tgt := 118) hx hb dM_foretold_111 (by decide) (fun hc111 => ?_) (fun hc111 => ?_)
                · -- 111 taken
                  rw [lg_cmp_le] at hc111
                  refine lv_iload_n hx hb dM_foretold_118 rfl (lv_at hl 5 rfl) ?_
                  refine lv_if_ne (tgt := 162) hx hb dM_foretold_119 (by decide) (fun hc119 => ?_) (fun hc119 => ?_)
                  · -- 119 taken
                    rw [show (0 : Int32) = nI 0 from rfl, nI_eq (by omega) (by omega)] at hc119
                    refine lv_iload_n hx hb dM_foretold_162 rfl (lv_at hl 5 rfl) ?_
                    refine lv_iconst (v := nI 1) hx hb dM_foretold_163 (by decide) ?_
                    refine lv_icmp_ne (tgt := 228) hx hb dM_foretold_164 (by decide) (fun hc164 => ?_) (fun hc164 => ?_)
                    · -- 164 taken
                      rw [nI_eq (by omega) (by omega)] at hc164
                      refine lv_lload_n hx hb dM_foretold_228 rfl (lv_at hl 2 rfl) ?_
                      refine lv_lload_n hx hb dM_foretold_229 rfl (lv_at hl 2 rfl) ?_
                      refine lv_lload hx hb dM_foretold_230 (lv_at hl 1 rfl) ?_
                      refine lv_lsub hx hb dM_foretold_232 ?_
                      refine lv_ldc2 (v := 100) hx hb hown (htw _ m_524) dM_foretold_233 ?_
                      refine lv_lmul hx hb dM_foretold_236 ?_
                      refine lv_aload_n hx hb dM_foretold_237 rfl (lv_at hl 4 rfl) ?_
                      refine va_get (D := (dC, dI)) (ci := 5) (v := .ref qrd) (C := R_M) (T := T_M) (N := 24) hx hb htw in_M hown hK hP 0 rfl rfl 19 (by decide) (htw _ m_376) (fun _ h9 => h9) rfl dM_foretold_238 ?_
                      refine lv_iload_n hx hb dM_foretold_241 rfl (lv_at hl 3 rfl) ?_
                      refine lv_iconst (v := nI 1) hx hb dM_foretold_242 (by decide) ?_
                      refine lv_isub hx hb dM_foretold_243 ?_
                      refine lv_topi (fun kv ekv => ?_)
                      obtain rfl : kv = nI (rn - 1) := by rw [ekv]; exact pk_sub (by omega)
                      refine xa_iald hx hb hK hP 1 0 rfl rfl (i := (rn - 1)) (by omega) (by decide) dM_foretold_244 ?_
                      refine lv_aload_n hx hb dM_foretold_245 rfl (lv_at hl 4 rfl) ?_
                      refine va_get (D := (dC, dI)) (ci := 5) (v := .ref qrd) (C := R_M) (T := T_M) (N := 24) hx hb htw in_M hown hK hP 0 rfl rfl 19 (by decide) (htw _ m_376) (fun _ h9 => h9) rfl dM_foretold_246 ?_
                      refine lv_iconst (v := nI 0) hx hb dM_foretold_249 (by decide) ?_
                      refine xa_iald hx hb hK hP 1 0 rfl rfl (i := 0) (by omega) (by decide) dM_foretold_250 ?_
                      refine lv_isub hx hb dM_foretold_251 ?_
                      refine lv_i2l (v := ((rd (rn - 1)) - (rd 0)).toInt64) hx hb dM_foretold_252 rfl ?_
                      refine lv_ldiv hx hb dM_foretold_253 hdz ?_
                      refine lv_ladd hx hb dM_foretold_254 ?_
                      have hP : va_P (dC, dI) vwCl [(mm, .inr (5, [.int (nI ly), .int (nI ce), .ref qlo, .ref qlk, .ref qhd, .ref qsf, .ref qpr, .ref qpa, .ref qsk, .long co, .long wo, .int (nI dy), .int da, .int db, .int dr, .int (nI mn), .ref qld, .ref qlz, .int (nI rn), .ref qrd, .ref qrv, .ref qhi, .ref qfw, .ref qkp])), (qrd, .inl (cI, 20, .inl rd)), (qrv, .inl (cJ, 20, .inr (.inl rv)))] H := by first | exact hP | simpa only [] using hP
                      have hD : va_D A [(mm, .inr (5, [.int (nI ly), .int (nI ce), .ref qlo, .ref qlk, .ref qhd, .ref qsf, .ref qpr, .ref qpa, .ref qsk, .long co, .long wo, .int (nI dy), .int da, .int db, .int dr, .int (nI mn), .ref qld, .ref qlz, .int (nI rn), .ref qrd, .ref qrv, .ref qhi, .ref qfw, .ref qkp])), (qrd, .inl (cI, 20, .inl rd)), (qrv, .inl (cJ, 20, .inr (.inl rv)))] := by first | exact hD | simpa only [] using hD
                      exact W.lret (v := (rv (rn - 1)) + ((((rv (rn - 1)) - (rv 0)) * 100) / (((rd (rn - 1)) - (rd 0)).toInt64))) hx hb hr (fun t ht hW => ⟨⟨(rv (rn - 1)) + ((((rv (rn - 1)) - (rv 0)) * 100) / (((rd (rn - 1)) - (rd 0)).toInt64)), (), rfl, by unfold k_foretold; rw [if_neg (by decide), if_neg (by decide), if_pos rfl]; unfold k_f2; rw [if_neg (by omega), if_neg (fun h => h.elim hc103 (fun h => h.elim (fun h => absurd h (Int64.not_lt.mpr hc111)) hdz))], by rw [ht]; exact hP, va_K.moved hW.alike hK, hD⟩, hS.F ht⟩) hS.2.2 dM_foretold_255
                    · -- 164 not taken
                      rw [nI_eq (by omega) (by omega)] at hc164
                      exfalso; omega
                  · -- 119 not taken
                    rw [show (0 : Int32) = nI 0 from rfl, nI_eq (by omega) (by omega)] at hc119
                    exfalso; omega
                · -- 111 not taken
                  rw [lg_cmp_le] at hc111
                  refine lv_ldc2 (v := (-1)) hx hb hown (htw _ m_477) dM_foretold_114 ?_
                  have hP : va_P (dC, dI) vwCl [(mm, .inr (5, [.int (nI ly), .int (nI ce), .ref qlo, .ref qlk, .ref qhd, .ref qsf, .ref qpr, .ref qpa, .ref qsk, .long co, .long wo, .int (nI dy), .int da, .int db, .int dr, .int (nI mn), .ref qld, .ref qlz, .int (nI rn), .ref qrd, .ref qrv, .ref qhi, .ref qfw, .ref qkp])), (qrd, .inl (cI, 20, .inl rd)), (qrv, .inl (cJ, 20, .inr (.inl rv)))] H := by first | exact hP | simpa only [] using hP
                  have hD : va_D A [(mm, .inr (5, [.int (nI ly), .int (nI ce), .ref qlo, .ref qlk, .ref qhd, .ref qsf, .ref qpr, .ref qpa, .ref qsk, .long co, .long wo, .int (nI dy), .int da, .int db, .int dr, .int (nI mn), .ref qld, .ref qlz, .int (nI rn), .ref qrd, .ref qrv, .ref qhi, .ref qfw, .ref qkp])), (qrd, .inl (cI, 20, .inl rd)), (qrv, .inl (cJ, 20, .inr (.inl rv)))] := by first | exact hD | simpa only [] using hD
                  exact W.lret (v := (-1)) hx hb hr (fun t ht hW => ⟨⟨(-1), (), rfl, by unfold k_foretold; rw [if_neg (by decide), if_neg (by decide), if_pos rfl]; unfold k_f2; rw [if_neg (by omega), if_pos (Or.inr (Or.inl (Int64.not_le.mp hc111)))], by rw [ht]; exact hP, va_K.moved hW.alike hK, hD⟩, hS.F ht⟩) hS.2.2 dM_foretold_117
          · -- 71 not taken
            rw [show (0 : Int32) = nI 0 from rfl, nI_eq (by omega) (by omega)] at hc71
            exfalso; omega
      · -- 25 not taken
        rw [nI_leI (by omega) (by omega)] at hc25
        refine lv_ldc2 (v := (-1)) hx hb hown (htw _ m_477) dM_foretold_28 ?_
        have hP : va_P (dC, dI) vwCl [(mm, .inr (5, [.int (nI ly), .int (nI ce), .ref qlo, .ref qlk, .ref qhd, .ref qsf, .ref qpr, .ref qpa, .ref qsk, .long co, .long wo, .int (nI dy), .int da, .int db, .int dr, .int (nI mn), .ref qld, .ref qlz, .int (nI rn), .ref qrd, .ref qrv, .ref qhi, .ref qfw, .ref qkp])), (qrd, .inl (cI, 20, .inl rd)), (qrv, .inl (cJ, 20, .inr (.inl rv)))] H := by first | exact hP | simpa only [] using hP
        have hD : va_D A [(mm, .inr (5, [.int (nI ly), .int (nI ce), .ref qlo, .ref qlk, .ref qhd, .ref qsf, .ref qpr, .ref qpa, .ref qsk, .long co, .long wo, .int (nI dy), .int da, .int db, .int dr, .int (nI mn), .ref qld, .ref qlz, .int (nI rn), .ref qrd, .ref qrv, .ref qhi, .ref qfw, .ref qkp])), (qrd, .inl (cI, 20, .inl rd)), (qrv, .inl (cJ, 20, .inr (.inl rv)))] := by first | exact hD | simpa only [] using hD
        exact W.lret (v := (-1)) hx hb hr (fun t ht hW => ⟨⟨(-1), (), rfl, by unfold k_foretold; rw [if_neg (by decide), if_neg (by decide), if_pos rfl]; unfold k_f2; rw [if_pos (by omega)], by rw [ht]; exact hP, va_K.moved hW.alike hK, hD⟩, hS.F ht⟩) hS.2.2 dM_foretold_31
    · -- 17 not taken
      rw [show (0 : Int32) = nI 0 from rfl, nI_eq (by omega) (by omega)] at hc17
      exfalso; omega
set_option maxHeartbeats 4000000 in
set_option maxRecDepth 100000 in
theorem kM_foretold_2n (l : Launch) (dC : Nat → ClassId) (dI : Nat → Nat → Nat) (cI cJ : ClassId) (mm qlo qlk qhd qsf qpr qpa qsk qld qlz qrd qrv qhi qfw qkp : Nat) (sz : Nat) (ly : Nat) (ce : Nat) (co : Int64) (wo : Int64) (dy : Nat) (da : Int32) (db : Int32) (dr : Int32) (mn : Nat) (rn : Nat) (rd : Nat → Int32) (rv : Nat → Int64) (hrn : rn ≤ 20) (hrn2 : rn < 2) : Met l yM_foretold wM_foretold ({ frames := 1, cells := 0, slots := 0, locals := 25 }) (va_Pc [.ref mm, .int (nI 2)] (fun U => U.heap.size = sz ∧ va_P (dC, dI) vwCl [(mm, .inr (5, [.int (nI ly), .int (nI ce), .ref qlo, .ref qlk, .ref qhd, .ref qsf, .ref qpr, .ref qpa, .ref qsk, .long co, .long wo, .int (nI dy), .int da, .int db, .int dr, .int (nI mn), .ref qld, .ref qlz, .int (nI rn), .ref qrd, .ref qrv, .ref qhi, .ref qfw, .ref qkp])), (qrd, .inl (cI, 20, .inl rd)), (qrv, .inl (cJ, 20, .inr (.inl rv)))] U.heap ∧ va_K (dC, dI) vwCl [(cI, .int), (cJ, .long)] U ∧ va_D (fun _ => True) [(mm, .inr (5, [.int (nI ly), .int (nI ce), .ref qlo, .ref qlk, .ref qhd, .ref qsf, .ref qpr, .ref qpa, .ref qsk, .long co, .long wo, .int (nI dy), .int da, .int db, .int dr, .int (nI mn), .ref qld, .ref qlz, .int (nI rn), .ref qrd, .ref qrv, .ref qhi, .ref qfw, .ref qkp])), (qrd, .inl (cI, 20, .inl rd)), (qrv, .inl (cJ, 20, .inr (.inl rv)))])) (va_Ql (fun res_ (_ : Unit) => res_ = k_foretold rd rv rn (nI 2)) (fun _ t => va_P (dC, dI) vwCl [(mm, .inr (5, [.int (nI ly), .int (nI ce), .ref qlo, .ref qlk, .ref qhd, .ref qsf, .ref qpr, .ref qpa, .ref qsk, .long co, .long wo, .int (nI dy), .int da, .int db, .int dr, .int (nI mn), .ref qld, .ref qlz, .int (nI rn), .ref qrd, .ref qrv, .ref qhi, .ref qfw, .ref qkp])), (qrd, .inl (cI, 20, .inl rd)), (qrv, .inl (cJ, 20, .inr (.inl rv)))] t.heap ∧ va_K (dC, dI) vwCl [(cI, .int), (cJ, .long)] t ∧ va_D (va_A [(mm, .inr (5, [.int (nI ly), .int (nI ce), .ref qlo, .ref qlk, .ref qhd, .ref qsf, .ref qpr, .ref qpa, .ref qsk, .long co, .long wo, .int (nI dy), .int da, .int db, .int dr, .int (nI mn), .ref qld, .ref qlz, .int (nI rn), .ref qrd, .ref qrv, .ref qhi, .ref qfw, .ref qkp])), (qrd, .inl (cI, 20, .inl rd)), (qrv, .inl (cJ, 20, .inr (.inl rv)))] sz) [(mm, .inr (5, [.int (nI ly), .int (nI ce), .ref qlo, .ref qlk, .ref qhd, .ref qsf, .ref qpr, .ref qpa, .ref qsk, .long co, .long wo, .int (nI dy), .int da, .int db, .int dr, .int (nI mn), .ref qld, .ref qlz, .int (nI rn), .ref qrd, .ref qrv, .ref qhi, .ref qfw, .ref qkp])), (qrd, .inl (cI, 20, .inl rd)), (qrv, .inl (cJ, 20, .inr (.inl rv)))]) (va_A [(mm, .inr (5, [.int (nI ly), .int (nI ce), .ref qlo, .ref qlk, .ref qhd, .ref qsf, .ref qpr, .ref qpa, .ref qsk, .long co, .long wo, .int (nI dy), .int da, .int db, .int dr, .int (nI mn), .ref qld, .ref qlz, .int (nI rn), .ref qrd, .ref qrv, .ref qhi, .ref qfw, .ref qkp])), (qrd, .inl (cI, 20, .inl rd)), (qrv, .inl (cJ, 20, .inr (.inl rv)))] sz)) 0 0 (va_A [(mm, .inr (5, [.int (nI ly), .int (nI ce), .ref qlo, .ref qlk, .ref qhd, .ref qsf, .ref qpr, .ref qpa, .ref qsk, .long co, .long wo, .int (nI dy), .int da, .int db, .int dr, .int (nI mn), .ref qld, .ref qlz, .int (nI rn), .ref qrd, .ref qrv, .ref qhi, .ref qfw, .ref qkp])), (qrd, .inl (cI, 20, .inl rd)), (qrv, .inl (cJ, 20, .inr (.inl rv)))] sz) := by
  refine Met.ofW (cc := bM_foretold) (maxL := 15) (ret := (some .long)) (by decide) rfl ?_
  intro p e s m args below meth c s₁ B hml hv
  obtain ⟨rfl, hsz, hP, hK, hD0⟩ := hv
  have hx := B.exec
  have hb := B.bytes
  have hr := B.returns
  have hts := atoms_spec (ws := wM_foretold) B.pre
  have hown : s.vm.findClass R_M = some m.cls := findClass_of_methodNamed B.named
  have htw : ∀ w ∈ WA, w.before _ s = true := fun w h => hts w (List.mem_cons_of_mem _ h)
  clear hts
  have hlocks := B.notSynchronized
  subst hsz
  have hD := hD0.self (sz := s.heap.size)
  generalize hAe : va_A [(mm, .inr (5, [.int (nI ly), .int (nI ce), .ref qlo, .ref qlk, .ref qhd, .ref qsf, .ref qpr, .ref qpa, .ref qsk, .long co, .long wo, .int (nI dy), .int da, .int db, .int dr, .int (nI mn), .ref qld, .ref qlz, .int (nI rn), .ref qrd, .ref qrv, .ref qhi, .ref qfw, .ref qkp])), (qrd, .inl (cI, 20, .inl rd)), (qrv, .inl (cJ, 20, .inr (.inl rv)))] s.heap.size = A at hD ⊢
  have hA : ∀ q : Nat, s.heap.size ≤ q → A q := fun q h => by rw [← hAe]; exact Or.inr h
  clear hAe hD0
  have hS : va_S A s.heap s.heap [] := va_S.rf
  have hP : va_P (dC, dI) vwCl [(mm, .inr (5, [.int (nI ly), .int (nI ce), .ref qlo, .ref qlk, .ref qhd, .ref qsf, .ref qpr, .ref qpa, .ref qsk, .long co, .long wo, .int (nI dy), .int da, .int db, .int dr, .int (nI mn), .ref qld, .ref qlz, .int (nI rn), .ref qrd, .ref qrv, .ref qhi, .ref qfw, .ref qkp])), (qrd, .inl (cI, 20, .inl rd)), (qrv, .inl (cJ, 20, .inr (.inl rv)))] s.heap := hP
  have hl := lv_entry ([.ref mm, .int (nI 2)]) (n := 15) (Nat.le_of_ble_eq_true rfl)
  rw [lg_entry_eq]
  generalize (lg_sl ([.ref mm, .int (nI 2)]) ++ List.replicate (15 - (lg_sl ([.ref mm, .int (nI 2)])).length) Slot.unset).toArray = ls at hl ⊢
  have hl : lv_has ls 15 [(0, .ref mm), (1, .int (nI 2))] := hl
  refine lv_iload_n hx hb dM_foretold_0 rfl (lv_at hl 1 rfl) ?_
  refine lv_i2l (v := 2) hx hb dM_foretold_1 (by decide +kernel) ?_
  refine lv_lconst (v := 0) hx hb dM_foretold_2 (by decide) ?_
  refine lv_ldc2 (v := 2) hx hb hown (htw _ m_482) dM_foretold_3 ?_
  have hPc := hP.sub (ws' := []) [] rfl
  have hDc := hD.sub (ws' := []) [] (by decide) rfl
  have hFc := va_free (wc := []) hD hS hA [] rfl
  refine va_calli (va_runS (As := [.long 2, .long 0, .long 2]) (rest := []) ⟨hx, hb, hml, hown, htw⟩ (kM_in l dC dI cI cJ s.heap.size 2 0 2) (va_cwS 3 htw (ws_good m_435 m_436 m_6 m_437) rfl rfl rfl (by decide +kernel) ⟨Nat.le_of_ble_eq_true rfl, Nat.le_of_ble_eq_true rfl⟩) ⟨fun a U g mk q => by obtain ⟨q0, q1, qP, qK, qD⟩ := q; exact ⟨q0, q1, qP, va_K.moved (u := U) (U := U.calling g mk a) (Vm.Alike.refl U.vm) qK, qD⟩, fun U hU hW => ⟨rfl, by rw [hU], by rw [hU]; exact hPc, va_K.moved hW.alike hK, hDc.weaken (fun _ _ _ _ => trivial)⟩⟩ rfl rfl hl.1 rfl (lv_room (Nat.le_of_ble_eq_true rfl)) dM_foretold_6 ⟨Nat.le_of_ble_eq_true rfl, Nat.le_of_ble_eq_true rfl⟩) hS (fun q _ h => hFc q h) hFc (fun res_ u_ t H1 locs ht hvm hw hB hz1 hk1 hS => ?_)
  obtain ⟨hP1, hK1, hD1⟩ := hB
  rw [ht] at hP1
  obtain ⟨hP, hD⟩ := va_join (wr := [(mm, .inr (5, [.int (nI ly), .int (nI ce), .ref qlo, .ref qlk, .ref qhd, .ref qsf, .ref qpr, .ref qpa, .ref qsk, .long co, .long wo, .int (nI dy), .int da, .int db, .int dr, .int (nI mn), .ref qld, .ref qlz, .int (nI rn), .ref qrd, .ref qrv, .ref qhi, .ref qfw, .ref qkp])), (qrd, .inl (cI, 20, .inl rd)), (qrv, .inl (cJ, 20, .inr (.inl rv)))]) (w1 := []) hP hD [] [0, 1, 2] rfl rfl (by decide) (by decide) hk1 hFc hP1 hD1
  generalize H1 = H at hP hS ⊢
  have hP : va_P (dC, dI) vwCl [(mm, .inr (5, [.int (nI ly), .int (nI ce), .ref qlo, .ref qlk, .ref qhd, .ref qsf, .ref qpr, .ref qpa, .ref qsk, .long co, .long wo, .int (nI dy), .int da, .int db, .int dr, .int (nI mn), .ref qld, .ref qlz, .int (nI rn), .ref qrd, .ref qrv, .ref qhi, .ref qfw, .ref qkp])), (qrd, .inl (cI, 20, .inl rd)), (qrv, .inl (cJ, 20, .inr (.inl rv)))] H := hP
  have hD : va_D A [(mm, .inr (5, [.int (nI ly), .int (nI ce), .ref qlo, .ref qlk, .ref qhd, .ref qsf, .ref qpr, .ref qpa, .ref qsk, .long co, .long wo, .int (nI dy), .int da, .int db, .int dr, .int (nI mn), .ref qld, .ref qlz, .int (nI rn), .ref qrd, .ref qrv, .ref qhi, .ref qfw, .ref qkp])), (qrd, .inl (cI, 20, .inl rd)), (qrv, .inl (cJ, 20, .inr (.inl rv)))] := hD
  clear hPc hDc hFc hP1 hD1 hK1 hk1 hz1 hvm ht
  obtain rfl : kb (0 ≤ 2 ∧ 2 ≤ 2) = res_ := hw.symm
  refine lv_if_eq (tgt := 28) hx hb dM_foretold_9 (by decide) (fun hc9 => ?_) (fun hc9 => ?_)
  · -- 9 taken
    rw [kb_eq0] at hc9
    exact absurd (by decide) hc9
  · -- 9 not taken
    rw [kb_eq0] at hc9
    refine lv_aload_n hx hb dM_foretold_12 rfl (lv_at hl 0 rfl) ?_
    refine va_get (D := (dC, dI)) (ci := 5) (v := .int (nI rn)) (C := R_M) (T := T_M) (N := 24) hx hb htw in_M hown hK hP 0 rfl rfl 18 (by decide) (htw _ m_375) (fun _ h9 => h9) rfl dM_foretold_13 ?_
    refine lv_iload_n hx hb dM_foretold_16 rfl (lv_at hl 1 rfl) ?_
    refine lv_if_ne (tgt := 24) hx hb dM_foretold_17 (by decide) (fun hc17 => ?_) (fun hc17 => ?_)
    · -- 17 taken
      rw [show (0 : Int32) = nI 0 from rfl, nI_eq (by omega) (by omega)] at hc17
      refine lv_iconst (v := nI 2) hx hb dM_foretold_24 (by decide) ?_
      refine lv_icmp_ge (tgt := 32) hx hb dM_foretold_25 (by decide) (fun hc25 => ?_) (fun hc25 => ?_)
      · -- 25 taken
        rw [nI_leI (by omega) (by omega)] at hc25
        exfalso; omega
      · -- 25 not taken
        rw [nI_leI (by omega) (by omega)] at hc25
        refine lv_ldc2 (v := (-1)) hx hb hown (htw _ m_477) dM_foretold_28 ?_
        have hP : va_P (dC, dI) vwCl [(mm, .inr (5, [.int (nI ly), .int (nI ce), .ref qlo, .ref qlk, .ref qhd, .ref qsf, .ref qpr, .ref qpa, .ref qsk, .long co, .long wo, .int (nI dy), .int da, .int db, .int dr, .int (nI mn), .ref qld, .ref qlz, .int (nI rn), .ref qrd, .ref qrv, .ref qhi, .ref qfw, .ref qkp])), (qrd, .inl (cI, 20, .inl rd)), (qrv, .inl (cJ, 20, .inr (.inl rv)))] H := by first | exact hP | simpa only [] using hP
        have hD : va_D A [(mm, .inr (5, [.int (nI ly), .int (nI ce), .ref qlo, .ref qlk, .ref qhd, .ref qsf, .ref qpr, .ref qpa, .ref qsk, .long co, .long wo, .int (nI dy), .int da, .int db, .int dr, .int (nI mn), .ref qld, .ref qlz, .int (nI rn), .ref qrd, .ref qrv, .ref qhi, .ref qfw, .ref qkp])), (qrd, .inl (cI, 20, .inl rd)), (qrv, .inl (cJ, 20, .inr (.inl rv)))] := by first | exact hD | simpa only [] using hD
        exact W.lret (v := (-1)) hx hb hr (fun t ht hW => ⟨⟨(-1), (), rfl, by unfold k_foretold; rw [if_neg (by decide), if_neg (by decide), if_pos rfl]; unfold k_f2; rw [if_pos (by omega)], by rw [ht]; exact hP, va_K.moved hW.alike hK, hD⟩, hS.F ht⟩) hS.2.2 dM_foretold_31
    · -- 17 not taken
      rw [show (0 : Int32) = nI 0 from rfl, nI_eq (by omega) (by omega)] at hc17
      exfalso; omega
set_option maxHeartbeats 4000000 in
set_option maxRecDepth 100000 in
theorem kM_foretold_bad (l : Launch) (dC : Nat → ClassId) (dI : Nat → Nat → Nat) (cI cJ : ClassId) (mm qlo qlk qhd qsf qpr qpa qsk qld qlz qrd qrv qhi qfw qkp : Nat) (sz : Nat) (x : Int32) (ly : Nat) (ce : Nat) (co : Int64) (wo : Int64) (dy : Nat) (da : Int32) (db : Int32) (dr : Int32) (mn : Nat) (rn : Nat) (rd : Nat → Int32) (rv : Nat → Int64) (hrn : rn ≤ 20) (hbad : ¬ (0 ≤ x.toInt ∧ x.toInt ≤ 2)) : Met l yM_foretold wM_foretold ({ frames := 1, cells := 0, slots := 0, locals := 25 }) (va_Pc [.ref mm, .int x] (fun U => U.heap.size = sz ∧ va_P (dC, dI) vwCl [(mm, .inr (5, [.int (nI ly), .int (nI ce), .ref qlo, .ref qlk, .ref qhd, .ref qsf, .ref qpr, .ref qpa, .ref qsk, .long co, .long wo, .int (nI dy), .int da, .int db, .int dr, .int (nI mn), .ref qld, .ref qlz, .int (nI rn), .ref qrd, .ref qrv, .ref qhi, .ref qfw, .ref qkp])), (qrd, .inl (cI, 20, .inl rd)), (qrv, .inl (cJ, 20, .inr (.inl rv)))] U.heap ∧ va_K (dC, dI) vwCl [(cI, .int), (cJ, .long)] U ∧ va_D (fun _ => True) [(mm, .inr (5, [.int (nI ly), .int (nI ce), .ref qlo, .ref qlk, .ref qhd, .ref qsf, .ref qpr, .ref qpa, .ref qsk, .long co, .long wo, .int (nI dy), .int da, .int db, .int dr, .int (nI mn), .ref qld, .ref qlz, .int (nI rn), .ref qrd, .ref qrv, .ref qhi, .ref qfw, .ref qkp])), (qrd, .inl (cI, 20, .inl rd)), (qrv, .inl (cJ, 20, .inr (.inl rv)))])) (va_Ql (fun res_ (_ : Unit) => res_ = k_foretold rd rv rn x) (fun _ t => va_P (dC, dI) vwCl [(mm, .inr (5, [.int (nI ly), .int (nI ce), .ref qlo, .ref qlk, .ref qhd, .ref qsf, .ref qpr, .ref qpa, .ref qsk, .long co, .long wo, .int (nI dy), .int da, .int db, .int dr, .int (nI mn), .ref qld, .ref qlz, .int (nI rn), .ref qrd, .ref qrv, .ref qhi, .ref qfw, .ref qkp])), (qrd, .inl (cI, 20, .inl rd)), (qrv, .inl (cJ, 20, .inr (.inl rv)))] t.heap ∧ va_K (dC, dI) vwCl [(cI, .int), (cJ, .long)] t ∧ va_D (va_A [(mm, .inr (5, [.int (nI ly), .int (nI ce), .ref qlo, .ref qlk, .ref qhd, .ref qsf, .ref qpr, .ref qpa, .ref qsk, .long co, .long wo, .int (nI dy), .int da, .int db, .int dr, .int (nI mn), .ref qld, .ref qlz, .int (nI rn), .ref qrd, .ref qrv, .ref qhi, .ref qfw, .ref qkp])), (qrd, .inl (cI, 20, .inl rd)), (qrv, .inl (cJ, 20, .inr (.inl rv)))] sz) [(mm, .inr (5, [.int (nI ly), .int (nI ce), .ref qlo, .ref qlk, .ref qhd, .ref qsf, .ref qpr, .ref qpa, .ref qsk, .long co, .long wo, .int (nI dy), .int da, .int db, .int dr, .int (nI mn), .ref qld, .ref qlz, .int (nI rn), .ref qrd, .ref qrv, .ref qhi, .ref qfw, .ref qkp])), (qrd, .inl (cI, 20, .inl rd)), (qrv, .inl (cJ, 20, .inr (.inl rv)))]) (va_A [(mm, .inr (5, [.int (nI ly), .int (nI ce), .ref qlo, .ref qlk, .ref qhd, .ref qsf, .ref qpr, .ref qpa, .ref qsk, .long co, .long wo, .int (nI dy), .int da, .int db, .int dr, .int (nI mn), .ref qld, .ref qlz, .int (nI rn), .ref qrd, .ref qrv, .ref qhi, .ref qfw, .ref qkp])), (qrd, .inl (cI, 20, .inl rd)), (qrv, .inl (cJ, 20, .inr (.inl rv)))] sz)) 0 0 (va_A [(mm, .inr (5, [.int (nI ly), .int (nI ce), .ref qlo, .ref qlk, .ref qhd, .ref qsf, .ref qpr, .ref qpa, .ref qsk, .long co, .long wo, .int (nI dy), .int da, .int db, .int dr, .int (nI mn), .ref qld, .ref qlz, .int (nI rn), .ref qrd, .ref qrv, .ref qhi, .ref qfw, .ref qkp])), (qrd, .inl (cI, 20, .inl rd)), (qrv, .inl (cJ, 20, .inr (.inl rv)))] sz) := by
  refine Met.ofW (cc := bM_foretold) (maxL := 15) (ret := (some .long)) (by decide) rfl ?_
  intro p e s m args below meth c s₁ B hml hv
  obtain ⟨rfl, hsz, hP, hK, hD0⟩ := hv
  have hx := B.exec
  have hb := B.bytes
  have hr := B.returns
  have hts := atoms_spec (ws := wM_foretold) B.pre
  have hown : s.vm.findClass R_M = some m.cls := findClass_of_methodNamed B.named
  have htw : ∀ w ∈ WA, w.before _ s = true := fun w h => hts w (List.mem_cons_of_mem _ h)
  clear hts
  have hlocks := B.notSynchronized
  subst hsz
  have hD := hD0.self (sz := s.heap.size)
  generalize hAe : va_A [(mm, .inr (5, [.int (nI ly), .int (nI ce), .ref qlo, .ref qlk, .ref qhd, .ref qsf, .ref qpr, .ref qpa, .ref qsk, .long co, .long wo, .int (nI dy), .int da, .int db, .int dr, .int (nI mn), .ref qld, .ref qlz, .int (nI rn), .ref qrd, .ref qrv, .ref qhi, .ref qfw, .ref qkp])), (qrd, .inl (cI, 20, .inl rd)), (qrv, .inl (cJ, 20, .inr (.inl rv)))] s.heap.size = A at hD ⊢
  have hA : ∀ q : Nat, s.heap.size ≤ q → A q := fun q h => by rw [← hAe]; exact Or.inr h
  clear hAe hD0
  have hS : va_S A s.heap s.heap [] := va_S.rf
  have hP : va_P (dC, dI) vwCl [(mm, .inr (5, [.int (nI ly), .int (nI ce), .ref qlo, .ref qlk, .ref qhd, .ref qsf, .ref qpr, .ref qpa, .ref qsk, .long co, .long wo, .int (nI dy), .int da, .int db, .int dr, .int (nI mn), .ref qld, .ref qlz, .int (nI rn), .ref qrd, .ref qrv, .ref qhi, .ref qfw, .ref qkp])), (qrd, .inl (cI, 20, .inl rd)), (qrv, .inl (cJ, 20, .inr (.inl rv)))] s.heap := hP
  have hl := lv_entry ([.ref mm, .int x]) (n := 15) (Nat.le_of_ble_eq_true rfl)
  rw [lg_entry_eq]
  generalize (lg_sl ([.ref mm, .int x]) ++ List.replicate (15 - (lg_sl ([.ref mm, .int x])).length) Slot.unset).toArray = ls at hl ⊢
  have hl : lv_has ls 15 [(0, .ref mm), (1, .int x)] := hl
  refine lv_iload_n hx hb dM_foretold_0 rfl (lv_at hl 1 rfl) ?_
  refine lv_i2l (v := x.toInt64) hx hb dM_foretold_1 rfl ?_
  refine lv_lconst (v := 0) hx hb dM_foretold_2 (by decide) ?_
  refine lv_ldc2 (v := 2) hx hb hown (htw _ m_482) dM_foretold_3 ?_
  have hPc := hP.sub (ws' := []) [] rfl
  have hDc := hD.sub (ws' := []) [] (by decide) rfl
  have hFc := va_free (wc := []) hD hS hA [] rfl
  refine va_calli (va_runS (As := [.long x.toInt64, .long 0, .long 2]) (rest := []) ⟨hx, hb, hml, hown, htw⟩ (kM_in l dC dI cI cJ s.heap.size x.toInt64 0 2) (va_cwS 3 htw (ws_good m_435 m_436 m_6 m_437) rfl rfl rfl (by decide +kernel) ⟨Nat.le_of_ble_eq_true rfl, Nat.le_of_ble_eq_true rfl⟩) ⟨fun a U g mk q => by obtain ⟨q0, q1, qP, qK, qD⟩ := q; exact ⟨q0, q1, qP, va_K.moved (u := U) (U := U.calling g mk a) (Vm.Alike.refl U.vm) qK, qD⟩, fun U hU hW => ⟨rfl, by rw [hU], by rw [hU]; exact hPc, va_K.moved hW.alike hK, hDc.weaken (fun _ _ _ _ => trivial)⟩⟩ rfl rfl hl.1 rfl (lv_room (Nat.le_of_ble_eq_true rfl)) dM_foretold_6 ⟨Nat.le_of_ble_eq_true rfl, Nat.le_of_ble_eq_true rfl⟩) hS (fun q _ h => hFc q h) hFc (fun res_ u_ t H1 locs ht hvm hw hB hz1 hk1 hS => ?_)
  obtain ⟨hP1, hK1, hD1⟩ := hB
  rw [ht] at hP1
  obtain ⟨hP, hD⟩ := va_join (wr := [(mm, .inr (5, [.int (nI ly), .int (nI ce), .ref qlo, .ref qlk, .ref qhd, .ref qsf, .ref qpr, .ref qpa, .ref qsk, .long co, .long wo, .int (nI dy), .int da, .int db, .int dr, .int (nI mn), .ref qld, .ref qlz, .int (nI rn), .ref qrd, .ref qrv, .ref qhi, .ref qfw, .ref qkp])), (qrd, .inl (cI, 20, .inl rd)), (qrv, .inl (cJ, 20, .inr (.inl rv)))]) (w1 := []) hP hD [] [0, 1, 2] rfl rfl (by decide) (by decide) hk1 hFc hP1 hD1
  generalize H1 = H at hP hS ⊢
  have hP : va_P (dC, dI) vwCl [(mm, .inr (5, [.int (nI ly), .int (nI ce), .ref qlo, .ref qlk, .ref qhd, .ref qsf, .ref qpr, .ref qpa, .ref qsk, .long co, .long wo, .int (nI dy), .int da, .int db, .int dr, .int (nI mn), .ref qld, .ref qlz, .int (nI rn), .ref qrd, .ref qrv, .ref qhi, .ref qfw, .ref qkp])), (qrd, .inl (cI, 20, .inl rd)), (qrv, .inl (cJ, 20, .inr (.inl rv)))] H := hP
  have hD : va_D A [(mm, .inr (5, [.int (nI ly), .int (nI ce), .ref qlo, .ref qlk, .ref qhd, .ref qsf, .ref qpr, .ref qpa, .ref qsk, .long co, .long wo, .int (nI dy), .int da, .int db, .int dr, .int (nI mn), .ref qld, .ref qlz, .int (nI rn), .ref qrd, .ref qrv, .ref qhi, .ref qfw, .ref qkp])), (qrd, .inl (cI, 20, .inl rd)), (qrv, .inl (cJ, 20, .inr (.inl rv)))] := hD
  clear hPc hDc hFc hP1 hD1 hK1 hk1 hz1 hvm ht
  obtain rfl : kb (0 ≤ x.toInt64 ∧ x.toInt64 ≤ 2) = res_ := hw.symm
  refine lv_if_eq (tgt := 28) hx hb dM_foretold_9 (by decide) (fun hc9 => ?_) (fun hc9 => ?_)
  · -- 9 taken
    rw [kb_eq0, k_wl, show ((0 : Int64)).toInt = 0 from by decide, show ((2 : Int64)).toInt = 2 from by decide] at hc9
    simp only [Int32.toInt_toInt64] at hc9
    refine lv_ldc2 (v := (-1)) hx hb hown (htw _ m_477) dM_foretold_28 ?_
    have hP : va_P (dC, dI) vwCl [(mm, .inr (5, [.int (nI ly), .int (nI ce), .ref qlo, .ref qlk, .ref qhd, .ref qsf, .ref qpr, .ref qpa, .ref qsk, .long co, .long wo, .int (nI dy), .int da, .int db, .int dr, .int (nI mn), .ref qld, .ref qlz, .int (nI rn), .ref qrd, .ref qrv, .ref qhi, .ref qfw, .ref qkp])), (qrd, .inl (cI, 20, .inl rd)), (qrv, .inl (cJ, 20, .inr (.inl rv)))] H := by first | exact hP | simpa only [] using hP
    have hD : va_D A [(mm, .inr (5, [.int (nI ly), .int (nI ce), .ref qlo, .ref qlk, .ref qhd, .ref qsf, .ref qpr, .ref qpa, .ref qsk, .long co, .long wo, .int (nI dy), .int da, .int db, .int dr, .int (nI mn), .ref qld, .ref qlz, .int (nI rn), .ref qrd, .ref qrv, .ref qhi, .ref qfw, .ref qkp])), (qrd, .inl (cI, 20, .inl rd)), (qrv, .inl (cJ, 20, .inr (.inl rv)))] := by first | exact hD | simpa only [] using hD
    exact W.lret (v := (-1)) hx hb hr (fun t ht hW => ⟨⟨(-1), (), rfl, by unfold k_foretold; rw [if_neg (k_not (n := 2) (by decide) (by decide) (by omega)), if_neg (k_not (n := 2) (by decide) (by decide) (by omega)), if_neg (k_not (n := 2) (by decide) (by decide) (by omega))], by rw [ht]; exact hP, va_K.moved hW.alike hK, hD⟩, hS.F ht⟩) hS.2.2 dM_foretold_31
  · -- 9 not taken
    rw [kb_eq0, k_wl, show ((0 : Int64)).toInt = 0 from by decide, show ((2 : Int64)).toInt = 2 from by decide] at hc9
    simp only [Int32.toInt_toInt64] at hc9
    exfalso; omega
