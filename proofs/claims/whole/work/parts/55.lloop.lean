/-! THE LAW'S LOOP -/
theorem loop_in {L n : Nat} (hL : L ≤ 2048) (hn : n ≤ 4096) (h : ¬ Int32.ofNat L - 4 < nI n) : n + 4 ≤ L := by
  have q : (nI L - nI 4).toInt = (L : Int) - 4 := pk_sub_toInt (a := L) (b := 4) (by omega) (by omega)
  have h2 : ¬ (nI L - nI 4) < nI n := h
  rw [Int32.lt_iff_toInt_lt, q, nI_toInt (by omega)] at h2
  omega
set_option maxHeartbeats 4000000 in
set_option maxRecDepth 100000 in
theorem law_loop {p : Program} {l : Launch} {e : Env} {s : State} {m : MethodId} {below : List Frame} {meth : Method} {c : Code} {dC : Nat → ClassId} {dI : Nat → Nat → Nat} {B : Nat} {cI cC cJ : ClassId} {A : Nat → Prop} {sc L : Nat} {xs : Nat → Int32} (hFx : lwF p l s m meth c dC dI B cI cC cJ A sc L xs) {x r h hz w b o rs hd hkd hnd hud hk hn hu hkz hnz huz wd be os mo mx mt md mp jo : Nat} : ∀ n k, 513 - k ≤ n → k ≤ 513 → lwK p l e s m below meth c dC dI cI cC cJ A sc x r h hz w b o rs hd hkd hnd hud hk hn hu hkz hnz huz wd be os mo mx mt md mp jo k := by
  obtain ⟨hx, hb, hr, hlocks, hml, hown, hg, hK, hT, hX, hB, hA, hAs, hXs, hbl, hL, hst⟩ := id hFx
  have hbA : ¬ A sc := fun h => absurd (hAs sc h) (Nat.not_le.mpr hbl)
  intro n
  induction n with
  | zero =>
    intro k hn hk9 sg len pl fn fp ksd nsd usd szd ks ns us sz ksz nsz usz szz dp en bn ot ol th td cm dm pr fj H locs ls hI hP hD hS hl
    refine lv_iload hx hb dL_law_23 (lv_at hl 4 rfl) ?_
    refine lv_aload_n hx hb dL_law_25 rfl (lv_at hl 0 rfl) ?_
    refine va_slen hx hb hXs hbl hbA hS dL_law_26 ?_
    refine lv_iconst (v := 4) hx hb dL_law_27 (by decide) ?_
    refine lv_isub hx hb dL_law_28 ?_
    refine lv_icmp_gt (tgt := 619) hx hb dL_law_29 (by decide) (fun c_1 => ?_) (fun c_1 => ?_)
    · refine lv_iconst (v := 1) hx hb dL_law_619 (by decide) ?_
      refine va_forget (fun q hq => hAs _ (hS.2.2 q hq)) ?_
      refine W.widen (k := 1058) (n := 11723) (by omega) (by omega) ?_
      exact lw_ret hx hb hr hlocks dL_law_620
    · have := loop_in hL (by omega) c_1
      omega
  | succ n ih =>
    intro k hn hk9 sg len pl fn fp ksd nsd usd szd ks ns us sz ksz nsz usz szz dp en bn ot ol th td cm dm pr fj H locs ls hI hP hD hS hl
    refine lv_iload hx hb dL_law_23 (lv_at hl 4 rfl) ?_
    refine lv_aload_n hx hb dL_law_25 rfl (lv_at hl 0 rfl) ?_
    refine va_slen hx hb hXs hbl hbA hS dL_law_26 ?_
    refine lv_iconst (v := 4) hx hb dL_law_27 (by decide) ?_
    refine lv_isub hx hb dL_law_28 ?_
    refine lv_icmp_gt (tgt := 619) hx hb dL_law_29 (by decide) (fun c_1 => ?_) (fun c_1 => ?_)
    · refine lv_iconst (v := 1) hx hb dL_law_619 (by decide) ?_
      refine va_forget (fun q hq => hAs _ (hS.2.2 q hq)) ?_
      refine W.widen (k := 1058) (n := 11723) (by omega) (by omega) ?_
      exact lw_ret hx hb hr hlocks dL_law_620
    have hkL := loop_in hL (by omega) c_1
    refine lv_aload_n hx hb dL_law_32 rfl (lv_at hl 0 rfl) ?_
    refine lv_iload hx hb dL_law_33 (lv_at hl 4 rfl) ?_
    refine x_sld (k := 4 * k) hx hb hXs hbl hbA hS (by omega) (by omega) dL_law_35 ?_
    refine lv_bipush (v := 15) hx hb dL_law_36 (by decide) ?_
    refine lv_iand hx hb dL_law_38 ?_
    obtain ⟨j, hj, ej⟩ := pk_andE (xs (4 * k)) (m := 15) 4 (by decide)
    refine top_eq (y := nI j) ej ?_
    rcases (show j = 0 ∨ j = 1 ∨ j = 2 ∨ j = 3 ∨ j = 4 ∨ j = 5 ∨ j = 6 ∨ j = 7 ∨ j = 8 ∨ j = 9 ∨ j = 10 ∨ j = 11 ∨ j = 12 ∨ j = 13 ∨ j = 14 ∨ j = 15 by omega) with rfl | rfl | rfl | rfl | rfl | rfl | rfl | rfl | rfl | rfl | rfl | rfl | rfl | rfl | rfl | rfl
    · refine lv_tableIn (tgt := 108) hx hb dL_law_39 (by decide) (by decide) rfl (by decide) ?_
      exact lw_c0 hFx hkL (ih (k + 1) (by omega) (by omega)) hI hP hD hS hl
    · refine lv_tableIn (tgt := 133) hx hb dL_law_39 (by decide) (by decide) rfl (by decide) ?_
      exact lw_c1 hFx hkL (ih (k + 1) (by omega) (by omega)) hI hP hD hS hl
    · refine lv_tableIn (tgt := 177) hx hb dL_law_39 (by decide) (by decide) rfl (by decide) ?_
      exact lw_c2 hFx hkL (ih (k + 1) (by omega) (by omega)) hI hP hD hS hl
    · refine lv_tableIn (tgt := 202) hx hb dL_law_39 (by decide) (by decide) rfl (by decide) ?_
      exact lw_c3 hFx hkL (ih (k + 1) (by omega) (by omega)) hI hP hD hS hl
    · refine lv_tableIn (tgt := 270) hx hb dL_law_39 (by decide) (by decide) rfl (by decide) ?_
      exact lw_c4 hFx hkL (ih (k + 1) (by omega) (by omega)) hI hP hD hS hl
    · refine lv_tableIn (tgt := 307) hx hb dL_law_39 (by decide) (by decide) rfl (by decide) ?_
      exact lw_c5 hFx hkL (ih (k + 1) (by omega) (by omega)) hI hP hD hS hl
    · refine lv_tableIn (tgt := 387) hx hb dL_law_39 (by decide) (by decide) rfl (by decide) ?_
      exact lw_c6 hFx hkL (ih (k + 1) (by omega) (by omega)) hI hP hD hS hl
    · refine lv_tableIn (tgt := 455) hx hb dL_law_39 (by decide) (by decide) rfl (by decide) ?_
      exact lw_c7 hFx hkL (ih (k + 1) (by omega) (by omega)) hI hP hD hS hl
    · refine lv_tableIn (tgt := 468) hx hb dL_law_39 (by decide) (by decide) rfl (by decide) ?_
      exact lw_c8 hFx hkL (ih (k + 1) (by omega) (by omega)) hI hP hD hS hl
    · refine lv_tableIn (tgt := 493) hx hb dL_law_39 (by decide) (by decide) rfl (by decide) ?_
      exact lw_c9 hFx hkL (ih (k + 1) (by omega) (by omega)) hI hP hD hS hl
    · refine lv_tableIn (tgt := 506) hx hb dL_law_39 (by decide) (by decide) rfl (by decide) ?_
      exact lw_c10 hFx hkL (ih (k + 1) (by omega) (by omega)) hI hP hD hS hl
    · refine lv_tableIn (tgt := 562) hx hb dL_law_39 (by decide) (by decide) rfl (by decide) ?_
      exact lw_c11 hFx hkL (ih (k + 1) (by omega) (by omega)) hI hP hD hS hl
    · refine lv_tableIn (tgt := 575) hx hb dL_law_39 (by decide) (by decide) rfl (by decide) ?_
      exact lw_c12 hFx hkL (ih (k + 1) (by omega) (by omega)) hI hP hD hS hl
    · refine lv_tableIn (tgt := 588) hx hb dL_law_39 (by decide) (by decide) rfl (by decide) ?_
      exact lw_c13 hFx hkL (ih (k + 1) (by omega) (by omega)) hI hP hD hS hl
    · refine lv_tableOut (tgt := 613) hx hb dL_law_39 (Or.inr (by decide)) (by decide) ?_
      refine lv_iinc (v := (nI (4 * k + 4))) (lv' := [(4, .int (nI (4 * k + 4))), (0, .ref sc), (1, .ref x), (2, .ref mo), (3, .ref jo)]) hx hb dL_law_613 hl (k := 4) rfl (by rw [← nI_add]; rfl) (by decide) rfl (fun ls hl => ?_)
      refine lv_goto (tgt := 23) hx hb dL_law_616 (by decide) ?_
      refine W.widen (k := 27 + (k + 1)) (n := 3489 + 6 * (k + 1)) (by omega) (by omega) ?_
      exact ih (k + 1) (by omega) (by omega) _ _ _ _ _ _ _ _ _ _ _ _ _ _ _ _ _ _ _ _ _ _ _ _ _ _ _ _ H locs ls hI hP hD hS (lv_sub hl [1, 2, 3, 4, 0] rfl)
    · refine lv_tableOut (tgt := 613) hx hb dL_law_39 (Or.inr (by decide)) (by decide) ?_
      refine lv_iinc (v := (nI (4 * k + 4))) (lv' := [(4, .int (nI (4 * k + 4))), (0, .ref sc), (1, .ref x), (2, .ref mo), (3, .ref jo)]) hx hb dL_law_613 hl (k := 4) rfl (by rw [← nI_add]; rfl) (by decide) rfl (fun ls hl => ?_)
      refine lv_goto (tgt := 23) hx hb dL_law_616 (by decide) ?_
      refine W.widen (k := 27 + (k + 1)) (n := 3489 + 6 * (k + 1)) (by omega) (by omega) ?_
      exact ih (k + 1) (by omega) (by omega) _ _ _ _ _ _ _ _ _ _ _ _ _ _ _ _ _ _ _ _ _ _ _ _ _ _ _ _ H locs ls hI hP hD hS (lv_sub hl [1, 2, 3, 4, 0] rfl)
