set_option maxHeartbeats 4000000 in
set_option maxRecDepth 100000 in
theorem law_loop {p : Program} {l : Launch} {e : Env} {s : State} {m : MethodId} {below : List Frame} {meth : Method} {c : Code} {dC : Nat → ClassId} {dI : Nat → Nat → Nat} {cI cJ : ClassId} {b L : Nat} {xs : Nat → Int32} (hL : L ≤ 3072) (C0 : lw_At p s m meth c b L xs) (hK : va_K (dC, dI) vwCl [(cI, .int), (cJ, .long)] s) {xx so qlk qln qhd qsf qfp qfc lo qld qlz rg qrd qrv g qpr qpa g2 qtp qta qmi mm rlo rlk rhd rsf rpr rpa rsk rld rlz rrd rrv rhi rfw rkp : Nat} {H : Heap} {locs : List Loc} {ls : Array Slot} (h0 : lw_I s (fun q : Nat => s.heap.size ≤ q) dC dI cI cJ b xx so qlk qln qhd qsf qfp qfc lo qld qlz rg qrd qrv g qpr qpa g2 qtp qta qmi mm rlo rlk rhd rsf rpr rpa rsk rld rlz rrd rrv rhi rfw rkp 0 H locs ls) : W p l e room_1 s m #[Value.ref b] below meth c H locs 36 1626 (lw_Z below #[Value.ref b] s) (F0 m 18 ls []) := by
  obtain ⟨hx, hb, hr, hml, hown, hts, hX, hbl, hlocks, hgv⟩ := id C0
  have hA : ∀ q : Nat, s.heap.size ≤ q → (fun q : Nat => s.heap.size ≤ q) q := fun _ h => h
  have hbA : ¬ (fun q : Nat => s.heap.size ≤ q) b := Nat.not_le.mpr hbl
  refine x_loop (N := L) (I := fun kt H locs ls => lw_I s (fun q : Nat => s.heap.size ≤ q) dC dI cI cJ b xx so qlk qln qhd qsf qfp qfc lo qld qlz rg qrd qrv g qpr qpa g2 qtp qta qmi mm rlo rlk rhd rsf rpr rpa rsk rld rlz rrd rrv rhi rfw rkp kt H locs ls) (i0 := 0) ?_ (Nat.zero_le _) h0
  intro kt hkt ih H locs ls hI0
  obtain ⟨ly, ce, dy, mn, rn, lk, ln, hd, sf, fp, fc, lof, ld, lz, rd, da, db, dr, pr, pa, sk, rv, mi, co, wo, sm, td, tc, tw, tp, ta, fw, kp, hP, hD, hS, hl, hI⟩ := id hI0
  refine lv_iload_n hx hb dL_law_18 rfl (lv_at hl 3 rfl) ?_
  refine lv_aload_n hx hb dL_law_19 rfl (lv_at hl 0 rfl) ?_
  refine va_slen hx hb hX hbl hbA hS dL_law_20 ?_
  refine W.eq (g2 := F0 m 21 ls [.int (nI L), .int (nI (6 * kt))]) rfl ?_
  refine lv_bipush (v := nI 6) hx hb dL_law_21 (by decide) ?_
  refine lv_isub hx hb dL_law_23 ?_
  refine lv_icmp_gt (tgt := 642) hx hb dL_law_24 (by decide) (fun hc => ?_) (fun hc => ?_)
  · refine lv_iconst (v := 1) hx hb dL_law_642 (by decide) ?_
    refine va_forget (fun q hq => hS.2.2 q hq) ?_
    exact lw_ret hx hb hr hlocks dL_law_643
  · rw [Int32.lt_iff_toInt_lt, pk_sub_toInt (a := L) (b := 6) (by omega) (by omega), nI_toInt (n := 6 * kt) (by omega)] at hc
    have hk : 6 * kt + 6 ≤ L := by omega
    have ih := ih (by omega)
    refine lv_aload_n hx hb dL_law_27 rfl (lv_at hl 0 rfl) ?_
    refine lv_iload_n hx hb dL_law_28 rfl (lv_at hl 3 rfl) ?_
    refine xa_sld hx hb hX hbl hbA hS (i := (6 * kt)) (by omega) (by omega) dL_law_29 ?_
    refine lv_bipush (v := nI 15) hx hb dL_law_30 (by decide) ?_
    refine lv_iand hx hb dL_law_32 ?_
    obtain ⟨j, hj, ej⟩ := pk_andE (xs (6 * kt)) (m := nI 15) 4 (by decide)
    refine lv_topi (fun kv ekv => ?_)
    obtain rfl : nI j = kv := (ekv.trans ej).symm
    have hj : j < 16 := hj
    rcases (show j = 0 ∨ j = 1 ∨ j = 2 ∨ j = 3 ∨ j = 4 ∨ j = 5 ∨ j = 6 ∨ j = 7 ∨ j = 8 ∨ j = 9 ∨ j = 10 ∨ j = 11 ∨ j = 12 ∨ j = 13 ∨ j = 14 ∨ j = 15 by omega) with rfl | rfl | rfl | rfl | rfl | rfl | rfl | rfl | rfl | rfl | rfl | rfl | rfl | rfl | rfl | rfl
    · refine lv_tableIn (off := 79) (tgt := 112) hx hb dL_law_33 (by decide) (by decide) (by decide) (by decide) ?_
      exact law_c0 hL C0 hA hbA hK hk ih hP hD hS hl hI
    · refine lv_tableIn (off := 142) (tgt := 175) hx hb dL_law_33 (by decide) (by decide) (by decide) (by decide) ?_
      exact law_c1 hL C0 hA hbA hK hk ih hP hD hS hl hI
    · refine lv_tableIn (off := 217) (tgt := 250) hx hb dL_law_33 (by decide) (by decide) (by decide) (by decide) ?_
      exact law_c2 hL C0 hA hbA hK hk ih hP hD hS hl hI
    · refine lv_tableIn (off := 250) (tgt := 283) hx hb dL_law_33 (by decide) (by decide) (by decide) (by decide) ?_
      exact law_c3 hL C0 hA hbA hK hk ih hP hD hS hl hI
    · refine lv_tableIn (off := 273) (tgt := 306) hx hb dL_law_33 (by decide) (by decide) (by decide) (by decide) ?_
      exact law_c4 hL C0 hA hbA hK hk ih hP hD hS hl hI
    · refine lv_tableIn (off := 297) (tgt := 330) hx hb dL_law_33 (by decide) (by decide) (by decide) (by decide) ?_
      exact law_c5 hL C0 hA hbA hK hk ih hP hD hS hl hI
    · refine lv_tableIn (off := 330) (tgt := 363) hx hb dL_law_33 (by decide) (by decide) (by decide) (by decide) ?_
      exact law_c6 hL C0 hA hbA hK hk ih hP hD hS hl hI
    · refine lv_tableIn (off := 344) (tgt := 377) hx hb dL_law_33 (by decide) (by decide) (by decide) (by decide) ?_
      exact law_c7 hL C0 hA hbA hK hk ih hP hD hS hl hI
    · refine lv_tableIn (off := 357) (tgt := 390) hx hb dL_law_33 (by decide) (by decide) (by decide) (by decide) ?_
      exact law_c8 hL C0 hA hbA hK hk ih hP hD hS hl hI
    · refine lv_tableIn (off := 371) (tgt := 404) hx hb dL_law_33 (by decide) (by decide) (by decide) (by decide) ?_
      exact law_c9 hL C0 hA hbA hK hk ih hP hD hS hl hI
    · refine lv_tableIn (off := 384) (tgt := 417) hx hb dL_law_33 (by decide) (by decide) (by decide) (by decide) ?_
      exact law_c10 hL C0 hA hbA hK hk ih hP hD hS hl hI
    · refine lv_tableIn (off := 407) (tgt := 440) hx hb dL_law_33 (by decide) (by decide) (by decide) (by decide) ?_
      exact law_c11 hL C0 hA hbA hK hk ih hP hD hS hl hI
    · refine lv_tableIn (off := 440) (tgt := 473) hx hb dL_law_33 (by decide) (by decide) (by decide) (by decide) ?_
      exact law_c12 hL C0 hA hbA hK hk ih hP hD hS hl hI
    · refine lv_tableIn (off := 503) (tgt := 536) hx hb dL_law_33 (by decide) (by decide) (by decide) (by decide) ?_
      exact law_c13 hL C0 hA hbA hK hk ih hP hD hS hl hI
    · refine lv_tableIn (off := 527) (tgt := 560) hx hb dL_law_33 (by decide) (by decide) (by decide) (by decide) ?_
      exact law_c14 hL C0 hA hbA hK hk ih hP hD hS hl hI
    · refine lv_tableIn (off := 580) (tgt := 613) hx hb dL_law_33 (by decide) (by decide) (by decide) (by decide) ?_
      exact law_c15 hL C0 hA hbA hK hk ih hP hD hS hl hI
