set_option maxHeartbeats 4000000 in
set_option maxRecDepth 100000 in
theorem kX3_length (l : Launch) (dC : Nat → ClassId) (dI : Nat → Nat → Nat) (B : Nat) (cI cC cJ : ClassId) (r : Nat) (rs : Nat) (h : Nat) (sg : Nat → Int32) (len : Nat) (pl : Nat) (fn : Int32) (fp : Int32) (hlen : len ≤ 500) (hpl : pl ≤ 501) : Met l yX3_length wsX3_length ({ frames := 0, cells := 0, slots := 0, locals := 0 }) (q_Rd (dC, dI) vwCl [.ref r] [(r, .inr (3, [.ref rs, .ref h, .int (nI len), .int (nI pl), .int fn, .int fp])), (rs, .inl (cC, 500, .inl sg))] [(cI, .int), (cC, .char), (cJ, .long)] B) (QcRead (nI len)) 0 0 (fun _ => False) := by
  refine Met.ofW (cc := cX3_length) (maxL := 1) (ret := (some .int)) (by decide) rfl ?_
  intro p e s m args below meth c s₁ Bd hml hv
  obtain ⟨rfl, hP, hK, hT⟩ := hv
  have hx := Bd.exec
  have hb := Bd.bytes
  have hr := Bd.returns
  have hts := atoms_spec (ws := wsX3_length) Bd.pre
  have hg : ∀ w ∈ lw_good, w.before _ s = true := fun w h => hts w (List.mem_cons_of_mem _ h)
  have hown : s.vm.findClass RX3 = some m.cls := findClass_of_methodNamed Bd.named
  have hlocks := Bd.notSynchronized
  have hSB : va_S (fun q => B ≤ q) s.heap s.heap [] := va_S.rf
  have hP : va_P (dC, dI) vwCl [(r, .inr (3, [.ref rs, .ref h, .int (nI len), .int (nI pl), .int fn, .int fp])), (rs, .inl (cC, 500, .inl sg))] s.heap := hP
  have hl := lv_entry ([.ref r]) (n := 1) (Nat.le_of_ble_eq_true rfl)
  rw [lg_entry_eq]
  generalize (lg_sl ([.ref r]) ++ List.replicate (1 - (lg_sl ([.ref r])).length) Slot.unset).toArray = ls at hl ⊢
  have hl : lv_has ls 1 [(0, .ref r)] := hl
  refine lv_aload_n hx hb dX3_length_0 rfl (lv_at hl 0 rfl) ?_
  refine va_get (D := (dC, dI)) (ci := 3) (v := .int (nI len)) (C := RX3) (T := TX3) (N := 6) hx hb hg in_X3 hown hK hP 0 rfl rfl 2 (by decide) (hg _ w_52) (fun _ h9 => h9) rfl dX3_length_1 ?_
  exact W.iret (v := (nI len)) hx hb hr (fun t ht hW => rd_end rfl ht) (fun q h => by cases h) dX3_length_4
set_option maxHeartbeats 4000000 in
set_option maxRecDepth 100000 in
theorem kX3_failureNumber (l : Launch) (dC : Nat → ClassId) (dI : Nat → Nat → Nat) (B : Nat) (cI cC cJ : ClassId) (r : Nat) (rs : Nat) (h : Nat) (sg : Nat → Int32) (len : Nat) (pl : Nat) (fn : Int32) (fp : Int32) (hlen : len ≤ 500) (hpl : pl ≤ 501) : Met l yX3_failureNumber wsX3_failureNumber ({ frames := 0, cells := 0, slots := 0, locals := 0 }) (q_Rd (dC, dI) vwCl [.ref r] [(r, .inr (3, [.ref rs, .ref h, .int (nI len), .int (nI pl), .int fn, .int fp])), (rs, .inl (cC, 500, .inl sg))] [(cI, .int), (cC, .char), (cJ, .long)] B) (QcRead fn) 0 0 (fun _ => False) := by
  refine Met.ofW (cc := cX3_failureNumber) (maxL := 1) (ret := (some .int)) (by decide) rfl ?_
  intro p e s m args below meth c s₁ Bd hml hv
  obtain ⟨rfl, hP, hK, hT⟩ := hv
  have hx := Bd.exec
  have hb := Bd.bytes
  have hr := Bd.returns
  have hts := atoms_spec (ws := wsX3_failureNumber) Bd.pre
  have hg : ∀ w ∈ lw_good, w.before _ s = true := fun w h => hts w (List.mem_cons_of_mem _ h)
  have hown : s.vm.findClass RX3 = some m.cls := findClass_of_methodNamed Bd.named
  have hlocks := Bd.notSynchronized
  have hSB : va_S (fun q => B ≤ q) s.heap s.heap [] := va_S.rf
  have hP : va_P (dC, dI) vwCl [(r, .inr (3, [.ref rs, .ref h, .int (nI len), .int (nI pl), .int fn, .int fp])), (rs, .inl (cC, 500, .inl sg))] s.heap := hP
  have hl := lv_entry ([.ref r]) (n := 1) (Nat.le_of_ble_eq_true rfl)
  rw [lg_entry_eq]
  generalize (lg_sl ([.ref r]) ++ List.replicate (1 - (lg_sl ([.ref r])).length) Slot.unset).toArray = ls at hl ⊢
  have hl : lv_has ls 1 [(0, .ref r)] := hl
  refine lv_aload_n hx hb dX3_failureNumber_0 rfl (lv_at hl 0 rfl) ?_
  refine va_get (D := (dC, dI)) (ci := 3) (v := .int fn) (C := RX3) (T := TX3) (N := 6) hx hb hg in_X3 hown hK hP 0 rfl rfl 4 (by decide) (hg _ w_54) (fun _ h9 => h9) rfl dX3_failureNumber_1 ?_
  exact W.iret (v := fn) hx hb hr (fun t ht hW => rd_end rfl ht) (fun q h => by cases h) dX3_failureNumber_4
set_option maxHeartbeats 4000000 in
set_option maxRecDepth 100000 in
theorem kX3_failurePlace (l : Launch) (dC : Nat → ClassId) (dI : Nat → Nat → Nat) (B : Nat) (cI cC cJ : ClassId) (r : Nat) (rs : Nat) (h : Nat) (sg : Nat → Int32) (len : Nat) (pl : Nat) (fn : Int32) (fp : Int32) (hlen : len ≤ 500) (hpl : pl ≤ 501) : Met l yX3_failurePlace wsX3_failurePlace ({ frames := 0, cells := 0, slots := 0, locals := 0 }) (q_Rd (dC, dI) vwCl [.ref r] [(r, .inr (3, [.ref rs, .ref h, .int (nI len), .int (nI pl), .int fn, .int fp])), (rs, .inl (cC, 500, .inl sg))] [(cI, .int), (cC, .char), (cJ, .long)] B) (QcRead fp) 0 0 (fun _ => False) := by
  refine Met.ofW (cc := cX3_failurePlace) (maxL := 1) (ret := (some .int)) (by decide) rfl ?_
  intro p e s m args below meth c s₁ Bd hml hv
  obtain ⟨rfl, hP, hK, hT⟩ := hv
  have hx := Bd.exec
  have hb := Bd.bytes
  have hr := Bd.returns
  have hts := atoms_spec (ws := wsX3_failurePlace) Bd.pre
  have hg : ∀ w ∈ lw_good, w.before _ s = true := fun w h => hts w (List.mem_cons_of_mem _ h)
  have hown : s.vm.findClass RX3 = some m.cls := findClass_of_methodNamed Bd.named
  have hlocks := Bd.notSynchronized
  have hSB : va_S (fun q => B ≤ q) s.heap s.heap [] := va_S.rf
  have hP : va_P (dC, dI) vwCl [(r, .inr (3, [.ref rs, .ref h, .int (nI len), .int (nI pl), .int fn, .int fp])), (rs, .inl (cC, 500, .inl sg))] s.heap := hP
  have hl := lv_entry ([.ref r]) (n := 1) (Nat.le_of_ble_eq_true rfl)
  rw [lg_entry_eq]
  generalize (lg_sl ([.ref r]) ++ List.replicate (1 - (lg_sl ([.ref r])).length) Slot.unset).toArray = ls at hl ⊢
  have hl : lv_has ls 1 [(0, .ref r)] := hl
  refine lv_aload_n hx hb dX3_failurePlace_0 rfl (lv_at hl 0 rfl) ?_
  refine va_get (D := (dC, dI)) (ci := 3) (v := .int fp) (C := RX3) (T := TX3) (N := 6) hx hb hg in_X3 hown hK hP 0 rfl rfl 5 (by decide) (hg _ w_55) (fun _ h9 => h9) rfl dX3_failurePlace_1 ?_
  exact W.iret (v := fp) hx hb hr (fun t ht hW => rd_end rfl ht) (fun q h => by cases h) dX3_failurePlace_4
set_option maxHeartbeats 4000000 in
set_option maxRecDepth 100000 in
theorem kX3_result (l : Launch) (dC : Nat → ClassId) (dI : Nat → Nat → Nat) (B : Nat) (cI cC cJ : ClassId) (r : Nat) (rs : Nat) (h : Nat) (sg : Nat → Int32) (len : Nat) (pl : Nat) (fn : Int32) (fp : Int32) (hlen : len ≤ 500) (hpl : pl ≤ 501) : Met l yX3_result wsX3_result ({ frames := 0, cells := 0, slots := 0, locals := 0 }) (q_Rd (dC, dI) vwCl [.ref r] [(r, .inr (3, [.ref rs, .ref h, .int (nI len), .int (nI pl), .int fn, .int fp])), (rs, .inl (cC, 500, .inl sg))] [(cI, .int), (cC, .char), (cJ, .long)] B) (k2_QcV (.ref h)) 0 0 (fun _ => False) := by
  refine Met.ofW (cc := cX3_result) (maxL := 1) (ret := (some (.object "HarbourText$Harbour"))) (by decide) rfl ?_
  intro p e s m args below meth c s₁ Bd hml hv
  obtain ⟨rfl, hP, hK, hT⟩ := hv
  have hx := Bd.exec
  have hb := Bd.bytes
  have hr := Bd.returns
  have hts := atoms_spec (ws := wsX3_result) Bd.pre
  have hg : ∀ w ∈ lw_good, w.before _ s = true := fun w h => hts w (List.mem_cons_of_mem _ h)
  have hown : s.vm.findClass RX3 = some m.cls := findClass_of_methodNamed Bd.named
  have hlocks := Bd.notSynchronized
  have hSB : va_S (fun q => B ≤ q) s.heap s.heap [] := va_S.rf
  have hP : va_P (dC, dI) vwCl [(r, .inr (3, [.ref rs, .ref h, .int (nI len), .int (nI pl), .int fn, .int fp])), (rs, .inl (cC, 500, .inl sg))] s.heap := hP
  have hl := lv_entry ([.ref r]) (n := 1) (Nat.le_of_ble_eq_true rfl)
  rw [lg_entry_eq]
  generalize (lg_sl ([.ref r]) ++ List.replicate (1 - (lg_sl ([.ref r])).length) Slot.unset).toArray = ls at hl ⊢
  have hl : lv_has ls 1 [(0, .ref r)] := hl
  refine lv_aload_n hx hb dX3_result_0 rfl (lv_at hl 0 rfl) ?_
  refine va_get (D := (dC, dI)) (ci := 3) (v := .ref h) (C := RX3) (T := TX3) (N := 6) hx hb hg in_X3 hown hK hP 0 rfl rfl 1 (by decide) (hg _ w_51) (fun _ h9 => h9) rfl dX3_result_1 ?_
  exact W.aret hx hb hr (Or.inl ⟨_, rfl⟩) (Or.inr ⟨_, rfl⟩) (fun t ht hW => ⟨rfl, ht⟩) (fun q h => by cases h) dX3_result_4
set_option maxHeartbeats 4000000 in
set_option maxRecDepth 100000 in
theorem kX3_signHere (l : Launch) (dC : Nat → ClassId) (dI : Nat → Nat → Nat) (B : Nat) (cI cC cJ : ClassId) (r : Nat) (rs : Nat) (h : Nat) (sg : Nat → Int32) (len : Nat) (pl : Nat) (fn : Int32) (fp : Int32) (hlen : len ≤ 500) (hpl : pl ≤ 501) : Met l yX3_signHere wsX3_signHere ({ frames := 0, cells := 0, slots := 0, locals := 0 }) (q_Rd (dC, dI) vwCl [.ref r] [(r, .inr (3, [.ref rs, .ref h, .int (nI len), .int (nI pl), .int fn, .int fp])), (rs, .inl (cC, 500, .inl sg))] [(cI, .int), (cC, .char), (cJ, .long)] B) (QcRead (k_sign sg len pl)) 0 0 (fun _ => False) := by
  refine Met.ofW (cc := cX3_signHere) (maxL := 1) (ret := (some .int)) (by decide) rfl ?_
  intro p e s m args below meth c s₁ Bd hml hv
  obtain ⟨rfl, hP, hK, hT⟩ := hv
  have hx := Bd.exec
  have hb := Bd.bytes
  have hr := Bd.returns
  have hts := atoms_spec (ws := wsX3_signHere) Bd.pre
  have hg : ∀ w ∈ lw_good, w.before _ s = true := fun w h => hts w (List.mem_cons_of_mem _ h)
  have hown : s.vm.findClass RX3 = some m.cls := findClass_of_methodNamed Bd.named
  have hlocks := Bd.notSynchronized
  have hSB : va_S (fun q => B ≤ q) s.heap s.heap [] := va_S.rf
  have hP : va_P (dC, dI) vwCl [(r, .inr (3, [.ref rs, .ref h, .int (nI len), .int (nI pl), .int fn, .int fp])), (rs, .inl (cC, 500, .inl sg))] s.heap := hP
  have hl := lv_entry ([.ref r]) (n := 1) (Nat.le_of_ble_eq_true rfl)
  rw [lg_entry_eq]
  generalize (lg_sl ([.ref r]) ++ List.replicate (1 - (lg_sl ([.ref r])).length) Slot.unset).toArray = ls at hl ⊢
  have hl : lv_has ls 1 [(0, .ref r)] := hl
  refine lv_aload_n hx hb dX3_signHere_0 rfl (lv_at hl 0 rfl) ?_
  refine va_get (D := (dC, dI)) (ci := 3) (v := .int (nI pl)) (C := RX3) (T := TX3) (N := 6) hx hb hg in_X3 hown hK hP 0 rfl rfl 3 (by decide) (hg _ w_53) (fun _ h9 => h9) rfl dX3_signHere_1 ?_
  refine lv_if_lt (tgt := 30) hx hb dX3_signHere_4 (by decide) (fun c_1 => ?_) (fun c_1 => ?_)
  · skip
    have c_1 := na_lt (a := pl) (b := 0) c_1 (by omega) (by omega)
    exact absurd c_1 (Nat.not_lt_zero _)
  · skip
    have c_1 := na_nlt (a := pl) (b := 0) c_1 (by omega) (by omega)
    refine lv_aload_n hx hb dX3_signHere_7 rfl (lv_at hl 0 rfl) ?_
    refine va_get (D := (dC, dI)) (ci := 3) (v := .int (nI pl)) (C := RX3) (T := TX3) (N := 6) hx hb hg in_X3 hown hK hP 0 rfl rfl 3 (by decide) (hg _ w_53) (fun _ h9 => h9) rfl dX3_signHere_8 ?_
    refine lv_aload_n hx hb dX3_signHere_11 rfl (lv_at hl 0 rfl) ?_
    refine va_get (D := (dC, dI)) (ci := 3) (v := .int (nI len)) (C := RX3) (T := TX3) (N := 6) hx hb hg in_X3 hown hK hP 0 rfl rfl 2 (by decide) (hg _ w_52) (fun _ h9 => h9) rfl dX3_signHere_12 ?_
    refine lv_icmp_ge (tgt := 30) hx hb dX3_signHere_15 (by decide) (fun c_2 => ?_) (fun c_2 => ?_)
    · skip
      have c_2 := na_le (a := len) (b := pl) c_2 (by omega) (by omega)
      refine lv_iconst (v := (-1)) hx hb dX3_signHere_30 (by decide) ?_
      exact W.iret (v := (-1)) hx hb hr (fun t ht hW => rd_end (by simp [k_sign, c_1, c_2]) ht) (fun q h => by cases h) dX3_signHere_31
    · skip
      have c_2 := na_nle (a := len) (b := pl) c_2 (by omega) (by omega)
      refine lv_aload_n hx hb dX3_signHere_18 rfl (lv_at hl 0 rfl) ?_
      refine va_get (D := (dC, dI)) (ci := 3) (v := .ref rs) (C := RX3) (T := TX3) (N := 6) hx hb hg in_X3 hown hK hP 0 rfl rfl 0 (by decide) (hg _ w_50) (fun _ h9 => h9) rfl dX3_signHere_19 ?_
      refine lv_aload_n hx hb dX3_signHere_22 rfl (lv_at hl 0 rfl) ?_
      refine va_get (D := (dC, dI)) (ci := 3) (v := .int (nI pl)) (C := RX3) (T := TX3) (N := 6) hx hb hg in_X3 hown hK hP 0 rfl rfl 3 (by decide) (hg _ w_53) (fun _ h9 => h9) rfl dX3_signHere_23 ?_
      refine x_cald (k := pl) hx hb hK hP 1 1 rfl rfl (by omega) (by decide) dX3_signHere_26 ?_
      refine lv_goto (tgt := 31) hx hb dX3_signHere_27 (by decide) ?_
      exact W.iret (v := sg pl) hx hb hr (fun t ht hW => rd_end (by simp [k_sign, c_1, c_2]) ht) (fun q h => by cases h) dX3_signHere_31
set_option maxHeartbeats 4000000 in
set_option maxRecDepth 100000 in
theorem kX3_digitHere (l : Launch) (dC : Nat → ClassId) (dI : Nat → Nat → Nat) (B : Nat) (cI cC cJ : ClassId) (r : Nat) (rs : Nat) (h : Nat) (sg : Nat → Int32) (len : Nat) (pl : Nat) (fn : Int32) (fp : Int32) (hlen : len ≤ 500) (hpl : pl ≤ 501) : Met l yX3_digitHere wsX3_digitHere ({ frames := 1, cells := 0, slots := 0, locals := 20 }) (q_Rd (dC, dI) vwCl [.ref r] [(r, .inr (3, [.ref rs, .ref h, .int (nI len), .int (nI pl), .int fn, .int fp])), (rs, .inl (cC, 500, .inl sg))] [(cI, .int), (cC, .char), (cJ, .long)] B) (QcRead (k_digit sg len pl)) 0 0 (fun _ => False) := by
  refine Met.ofW (cc := cX3_digitHere) (maxL := 2) (ret := (some .int)) (by decide) rfl ?_
  intro p e s m args below meth c s₁ Bd hml hv
  obtain ⟨rfl, hP, hK, hT⟩ := hv
  have hx := Bd.exec
  have hb := Bd.bytes
  have hr := Bd.returns
  have hts := atoms_spec (ws := wsX3_digitHere) Bd.pre
  have hg : ∀ w ∈ lw_good, w.before _ s = true := fun w h => hts w (List.mem_cons_of_mem _ h)
  have hown : s.vm.findClass RX3 = some m.cls := findClass_of_methodNamed Bd.named
  have hlocks := Bd.notSynchronized
  have hSB : va_S (fun q => B ≤ q) s.heap s.heap [] := va_S.rf
  have hP : va_P (dC, dI) vwCl [(r, .inr (3, [.ref rs, .ref h, .int (nI len), .int (nI pl), .int fn, .int fp])), (rs, .inl (cC, 500, .inl sg))] s.heap := hP
  have hl := lv_entry ([.ref r]) (n := 2) (Nat.le_of_ble_eq_true rfl)
  rw [lg_entry_eq]
  generalize (lg_sl ([.ref r]) ++ List.replicate (2 - (lg_sl ([.ref r])).length) Slot.unset).toArray = ls at hl ⊢
  have hl : lv_has ls 2 [(0, .ref r)] := hl
  refine lv_aload_n hx hb dX3_digitHere_0 rfl (lv_at hl 0 rfl) ?_
  refine go_R (r := k_sign sg len pl) (va_runV (As := []) (rest := []) ⟨hx, hb, hml, hown, hg⟩ (kX3_signHere l dC dI B cI cC cJ r rs h sg len pl fn fp (by omega) (by omega)) (cwV 0 hg (gi_V w_253 w_254 w_680 w_3 w_255) rfl rfl rfl (by decide +kernel) ⟨Nat.le_of_ble_eq_true rfl, Nat.le_of_ble_eq_true rfl⟩) (pre_RV (va_recv hK hP (ci := 3) (q0 := 0) rfl rfl) (hP.sub [0, 1] rfl) hK hT) rfl rfl hl.1 rfl (lv_room (Nat.le_of_ble_eq_true rfl)) dX3_digitHere_1 ⟨Nat.le_of_ble_eq_true rfl, Nat.le_of_ble_eq_true rfl⟩) ?_
  refine lv_istore_n (lv' := [(1, .int (k_sign sg len pl)), (0, .ref r)]) hx hb dX3_digitHere_4 rfl hl (by decide) rfl (fun ls hl => ?_)
  refine lv_iload_n hx hb dX3_digitHere_5 rfl (lv_at hl 0 rfl) ?_
  refine lv_bipush (v := 48) hx hb dX3_digitHere_6 (by decide) ?_
  refine lv_icmp_lt (tgt := 24) hx hb dX3_digitHere_8 (by decide) (fun c_1 => ?_) (fun c_1 => ?_)
  · skip
    refine lv_iconst (v := (-1)) hx hb dX3_digitHere_24 (by decide) ?_
    exact W.iret (v := (-1)) hx hb hr (fun t ht hW => rd_end (by simp [k_digit, c_1]) ht) (fun q h => by cases h) dX3_digitHere_25
  · skip
    refine lv_iload_n hx hb dX3_digitHere_11 rfl (lv_at hl 0 rfl) ?_
    refine lv_bipush (v := 57) hx hb dX3_digitHere_12 (by decide) ?_
    refine lv_icmp_gt (tgt := 24) hx hb dX3_digitHere_14 (by decide) (fun c_2 => ?_) (fun c_2 => ?_)
    · skip
      refine lv_iconst (v := (-1)) hx hb dX3_digitHere_24 (by decide) ?_
      exact W.iret (v := (-1)) hx hb hr (fun t ht hW => rd_end (by simp [k_digit, c_1, c_2]) ht) (fun q h => by cases h) dX3_digitHere_25
    · skip
      refine lv_iload_n hx hb dX3_digitHere_17 rfl (lv_at hl 0 rfl) ?_
      refine lv_bipush (v := 48) hx hb dX3_digitHere_18 (by decide) ?_
      refine lv_isub hx hb dX3_digitHere_20 ?_
      refine lv_goto (tgt := 25) hx hb dX3_digitHere_21 (by decide) ?_
      exact W.iret (v := (k_sign sg len pl) - 48) hx hb hr (fun t ht hW => rd_end (by simp [k_digit, c_1, c_2]) ht) (fun q h => by cases h) dX3_digitHere_25
set_option maxHeartbeats 4000000 in
set_option maxRecDepth 100000 in
theorem kX3_kindHere (l : Launch) (dC : Nat → ClassId) (dI : Nat → Nat → Nat) (B : Nat) (cI cC cJ : ClassId) (r : Nat) (rs : Nat) (h : Nat) (sg : Nat → Int32) (len : Nat) (pl : Nat) (fn : Int32) (fp : Int32) (hlen : len ≤ 500) (hpl : pl ≤ 501) : Met l yX3_kindHere wsX3_kindHere ({ frames := 1, cells := 0, slots := 0, locals := 20 }) (q_Rd (dC, dI) vwCl [.ref r] [(r, .inr (3, [.ref rs, .ref h, .int (nI len), .int (nI pl), .int fn, .int fp])), (rs, .inl (cC, 500, .inl sg))] [(cI, .int), (cC, .char), (cJ, .long)] B) (QcRead (k_kindF (k_sign sg len pl) 0)) 0 0 (fun _ => False) := by
  refine Met.ofW (cc := cX3_kindHere) (maxL := 3) (ret := (some .int)) (by decide) rfl ?_
  intro p e s m args below meth c s₁ Bd hml hv
  obtain ⟨rfl, hP, hK, hT⟩ := hv
  have hx := Bd.exec
  have hb := Bd.bytes
  have hr := Bd.returns
  have hts := atoms_spec (ws := wsX3_kindHere) Bd.pre
  have hg : ∀ w ∈ lw_good, w.before _ s = true := fun w h => hts w (List.mem_cons_of_mem _ h)
  have hown : s.vm.findClass RX3 = some m.cls := findClass_of_methodNamed Bd.named
  have hlocks := Bd.notSynchronized
  have hSB : va_S (fun q => B ≤ q) s.heap s.heap [] := va_S.rf
  have hP : va_P (dC, dI) vwCl [(r, .inr (3, [.ref rs, .ref h, .int (nI len), .int (nI pl), .int fn, .int fp])), (rs, .inl (cC, 500, .inl sg))] s.heap := hP
  have hT9 := hT.1
  obtain ⟨tL, tN, tA, tZ, zL, aL, zN, aN, zA, aA, zZ, aZ⟩ := hT9
  have hl := lv_entry ([.ref r]) (n := 3) (Nat.le_of_ble_eq_true rfl)
  rw [lg_entry_eq]
  generalize (lg_sl ([.ref r]) ++ List.replicate (3 - (lg_sl ([.ref r])).length) Slot.unset).toArray = ls at hl ⊢
  have hl : lv_has ls 3 [(0, .ref r)] := hl
  refine lv_aload_n hx hb dX3_kindHere_0 rfl (lv_at hl 0 rfl) ?_
  refine go_R (r := k_sign sg len pl) (va_runV (As := []) (rest := []) ⟨hx, hb, hml, hown, hg⟩ (kX3_signHere l dC dI B cI cC cJ r rs h sg len pl fn fp (by omega) (by omega)) (cwV 0 hg (gi_V w_253 w_254 w_680 w_3 w_255) rfl rfl rfl (by decide +kernel) ⟨Nat.le_of_ble_eq_true rfl, Nat.le_of_ble_eq_true rfl⟩) (pre_RV (va_recv hK hP (ci := 3) (q0 := 0) rfl rfl) (hP.sub [0, 1] rfl) hK hT) rfl rfl hl.1 rfl (lv_room (Nat.le_of_ble_eq_true rfl)) dX3_kindHere_1 ⟨Nat.le_of_ble_eq_true rfl, Nat.le_of_ble_eq_true rfl⟩) ?_
  refine lv_istore_n (lv' := [(1, .int (k_sign sg len pl)), (0, .ref r)]) hx hb dX3_kindHere_4 rfl hl (by decide) rfl (fun ls hl => ?_)
  refine lv_iconst (v := 0) hx hb dX3_kindHere_5 (by decide) ?_
  refine lv_istore_n (lv' := [(2, .int 0), (1, .int (k_sign sg len pl)), (0, .ref r)]) hx hb dX3_kindHere_6 rfl hl (by decide) rfl (fun ls hl => ?_)
  refine loop_R (σ := Nat) (fun n x ls => 6 - x < n ∧ x ≤ 6 ∧ k_kindF (k_sign sg len pl) 0 = k_kindF (k_sign sg len pl) x ∧ lv_has ls 3 [(0, .ref r), (1, .int (k_sign sg len pl)), (2, .int (nI x))]) (fun n x ls ih_1 hI => ?_) (fun x ls hI => ?_) (n := (6 - 0) + 1) (x := 0) ⟨(Nat.lt_succ_self _), (by (try dsimp only); omega), rfl, lv_sub hl [2, 1, 0] rfl⟩
  · skip
    obtain ⟨k, rfl⟩ : ∃ z, z = x := ⟨x, rfl⟩
    obtain ⟨hfu, hk0, he, hl⟩ := hI
    have hfu : 6 - k < n + 1 := hfu
    have hk0 : k ≤ 6 := hk0
    have he : k_kindF (k_sign sg len pl) 0 = k_kindF (k_sign sg len pl) k := he
    have hl : lv_has ls 3 [(0, .ref r), (1, .int (k_sign sg len pl)), (2, .int (nI k))] := hl
    refine lv_iload_n hx hb dX3_kindHere_7 rfl (lv_at hl 2 rfl) ?_
    refine lv_bipush (v := 6) hx hb dX3_kindHere_8 (by decide) ?_
    refine lv_icmp_ge (tgt := 30) hx hb dX3_kindHere_10 (by decide) (fun c_2 => ?_) (fun c_2 => ?_)
    · skip
      have c_2 := na_le (a := 6) (b := k) c_2 (by omega) (by omega)
      refine lv_iconst (v := (-1)) hx hb dX3_kindHere_30 (by decide) ?_
      exact W.iret (v := (-1)) hx hb hr (fun t ht hW => rd_end (by rw [he]; rw [k_kindF]; simp [c_2]) ht) (fun q h => by cases h) dX3_kindHere_31
    · skip
      have c_2 := na_nle (a := 6) (b := k) c_2 (by omega) (by omega)
      refine va_getsN hx hb zL hSB hown ((st_B.nF hT (q := ("HarbourText$TextReader", 112, "HarbourText", "LETTERS", "[C")) (List.mem_of_getElem? (i := 0) rfl)).use rfl) (fun _ h9 => h9) dX3_kindHere_13 ?_
      refine lv_iload_n hx hb dX3_kindHere_16 rfl (lv_at hl 2 rfl) ?_
      refine x_tc (k := k) (v := .int (k_tabL k)) hx hb aL hSB (by omega) (by decide) rfl dX3_kindHere_17 ?_
      refine lv_iload_n hx hb dX3_kindHere_18 rfl (lv_at hl 1 rfl) ?_
      refine lv_icmp_ne (tgt := 24) hx hb dX3_kindHere_19 (by decide) (fun c_3 => ?_) (fun c_3 => ?_)
      · skip
        refine lv_iinc (v := (nI (k + 1))) (lv' := [(2, .int (nI (k + 1))), (0, .ref r), (1, .int (k_sign sg len pl))]) hx hb dX3_kindHere_24 hl (k := 2) rfl (by rw [← nI_add]; rfl) (by decide) rfl (fun ls hl => ?_)
        refine lv_goto (tgt := 7) hx hb dX3_kindHere_27 (by decide) ?_
        exact ih_1 (k + 1) _ ⟨(by (try dsimp only); omega), (by (try dsimp only); omega), (by (try dsimp only); rw [he, k_kindF]; simp [c_2, c_3]), lv_sub hl [1, 2, 0] rfl⟩
      · skip
        refine lv_iload_n hx hb dX3_kindHere_22 rfl (lv_at hl 2 rfl) ?_
        exact W.iret (v := (nI k)) hx hb hr (fun t ht hW => rd_end (by rw [he]; rw [k_kindF]; simp [c_2, c_3]) ht) (fun q h => by cases h) dX3_kindHere_23
  · exact absurd hI.1 (Nat.not_lt_zero _)
set_option maxHeartbeats 4000000 in
set_option maxRecDepth 100000 in
theorem kX3_isInRange (l : Launch) (dC : Nat → ClassId) (dI : Nat → Nat → Nat) (B : Nat) (cI cC cJ : ClassId) (p0 : Int32) (p1 : Int32) (p2 : Int32) : Met l yX3_isInRange wsX3_isInRange ({ frames := 1, cells := 0, slots := 0, locals := 20 }) (q_Rd (dC, dI) vwCl [.int p0, .int p1, .int p2] [] [(cI, .int), (cC, .char), (cJ, .long)] B) (QcRead (bI (k_inRange p0 p1 p2))) 0 0 (fun _ => False) := by
  refine Met.ofW (cc := cX3_isInRange) (maxL := 4) (ret := (some .boolean)) (by decide) rfl ?_
  intro p e s m args below meth c s₁ Bd hml hv
  obtain ⟨rfl, hP, hK, hT⟩ := hv
  have hx := Bd.exec
  have hb := Bd.bytes
  have hr := Bd.returns
  have hts := atoms_spec (ws := wsX3_isInRange) Bd.pre
  have hg : ∀ w ∈ lw_good, w.before _ s = true := fun w h => hts w (List.mem_cons_of_mem _ h)
  have hown : s.vm.findClass RX3 = some m.cls := findClass_of_methodNamed Bd.named
  have hlocks := Bd.notSynchronized
  have hSB : va_S (fun q => B ≤ q) s.heap s.heap [] := va_S.rf
  have hP : va_P (dC, dI) vwCl [] s.heap := hP
  have hT9 := hT.1
  obtain ⟨tL, tN, tA, tZ, zL, aL, zN, aN, zA, aA, zZ, aZ⟩ := hT9
  have hl := lv_entry ([.int p0, .int p1, .int p2]) (n := 4) (Nat.le_of_ble_eq_true rfl)
  rw [lg_entry_eq]
  generalize (lg_sl ([.int p0, .int p1, .int p2]) ++ List.replicate (4 - (lg_sl ([.int p0, .int p1, .int p2])).length) Slot.unset).toArray = ls at hl ⊢
  have hl : lv_has ls 4 [(0, .int p0), (1, .int p1), (2, .int p2)] := hl
  refine lv_iload_n hx hb dX3_isInRange_0 rfl (lv_at hl 0 rfl) ?_
  refine go_R (r := (bI (k_isKind p0))) (va_runSN (As := [.int p0]) (rest := []) ⟨hx, hb, hml, hown, hg⟩ (kX5_isKind l dC dI B cI cC cJ p0) ⟨va_cnB 1 hg (gi_N w_213) rfl rfl rfl (st_B.nM hT (q := ("HarbourText$TextReader", 96, yX5_isKind)) (List.mem_of_getElem? (i := 9) rfl)) (hg _ w_2) (by decide +kernel) ⟨Nat.le_of_ble_eq_true rfl, Nat.le_of_ble_eq_true rfl⟩, hg _ w_212, trivial⟩ (pre_RS (hP.sub [] rfl) hK hT) rfl rfl hl.1 rfl (lv_room (Nat.le_of_ble_eq_true rfl)) dX3_isInRange_1 ⟨Nat.le_of_ble_eq_true rfl, Nat.le_of_ble_eq_true rfl⟩) ?_
  refine lv_if_eq (tgt := 16) hx hb dX3_isInRange_4 (by decide) (fun c_1 => ?_) (fun c_1 => ?_)
  · skip
    have c_1 := bI_eq0 c_1
    refine lv_iconst (v := 0) hx hb dX3_isInRange_16 (by decide) ?_
    exact W.zret (v := 0) (ty := .boolean) hx hb hr rfl (fun t ht hW => rd_end (bI_0 (by simp [k_inRange, c_1])).symm ht) (fun q h => by cases h) dX3_isInRange_17
  · skip
    have c_1 := bI_ne0 c_1
    refine lv_iload_n hx hb dX3_isInRange_7 rfl (lv_at hl 1 rfl) ?_
    refine lv_if_lt (tgt := 16) hx hb dX3_isInRange_8 (by decide) (fun c_2 => ?_) (fun c_2 => ?_)
    · skip
      refine lv_iconst (v := 0) hx hb dX3_isInRange_16 (by decide) ?_
      exact W.zret (v := 0) (ty := .boolean) hx hb hr rfl (fun t ht hW => rd_end (bI_0 (by simp [k_inRange, c_1, c_2])).symm ht) (fun q h => by cases h) dX3_isInRange_17
    · skip
      refine lv_iload_n hx hb dX3_isInRange_11 rfl (lv_at hl 1 rfl) ?_
      refine lv_iconst (v := 4) hx hb dX3_isInRange_12 (by decide) ?_
      refine lv_icmp_lt (tgt := 18) hx hb dX3_isInRange_13 (by decide) (fun c_3 => ?_) (fun c_3 => ?_)
      · skip
        refine lv_iload_n hx hb dX3_isInRange_18 rfl (lv_at hl 0 rfl) ?_
        refine lv_iconst (v := 4) hx hb dX3_isInRange_19 (by decide) ?_
        refine lv_imul hx hb dX3_isInRange_20 ?_
        refine lv_iload_n hx hb dX3_isInRange_21 rfl (lv_at hl 1 rfl) ?_
        refine lv_iadd hx hb dX3_isInRange_22 ?_
        refine lv_istore_n (lv' := [(3, .int ((p0 * 4) + p1)), (0, .int p0), (1, .int p1), (2, .int p2)]) hx hb dX3_isInRange_23 rfl hl (by decide) rfl (fun ls hl => ?_)
        refine lv_iload_n hx hb dX3_isInRange_24 rfl (lv_at hl 3 rfl) ?_
        refine va_getsN hx hb zA hSB hown ((st_B.nF hT (q := ("HarbourText$TextReader", 99, "HarbourText", "LEAST", "[I")) (List.mem_of_getElem? (i := 1) rfl)).use rfl) (fun _ h9 => h9) dX3_isInRange_25 ?_
        refine lv_iload_n hx hb dX3_isInRange_28 rfl (lv_at hl 0 rfl) ?_
        refine va_ti (i := (p0 * 4) + p1) (v := .int (k_tabA ((p0 * 4) + p1).toNatClampNeg)) hx hb aA hSB (ix_tab c_1 c_2 c_3) rfl dX3_isInRange_29 ?_
        refine lv_icmp_lt (tgt := 46) hx hb dX3_isInRange_30 (by decide) (fun c_4 => ?_) (fun c_4 => ?_)
        · skip
          refine lv_iconst (v := 0) hx hb dX3_isInRange_46 (by decide) ?_
          exact W.zret (v := 0) (ty := .boolean) hx hb hr rfl (fun t ht hW => rd_end (bI_0 (by simp [k_inRange, c_1, c_2, c_3, c_4])).symm ht) (fun q h => by cases h) dX3_isInRange_47
        · skip
          refine lv_iload_n hx hb dX3_isInRange_33 rfl (lv_at hl 3 rfl) ?_
          refine va_getsN hx hb zZ hSB hown ((st_B.nF hT (q := ("HarbourText$TextReader", 103, "HarbourText", "MOST", "[I")) (List.mem_of_getElem? (i := 2) rfl)).use rfl) (fun _ h9 => h9) dX3_isInRange_34 ?_
          refine lv_iload_n hx hb dX3_isInRange_37 rfl (lv_at hl 0 rfl) ?_
          refine va_ti (i := (p0 * 4) + p1) (v := .int (k_tabZ ((p0 * 4) + p1).toNatClampNeg)) hx hb aZ hSB (ix_tab c_1 c_2 c_3) rfl dX3_isInRange_38 ?_
          refine lv_icmp_gt (tgt := 46) hx hb dX3_isInRange_39 (by decide) (fun c_5 => ?_) (fun c_5 => ?_)
          · skip
            refine lv_iconst (v := 0) hx hb dX3_isInRange_46 (by decide) ?_
            exact W.zret (v := 0) (ty := .boolean) hx hb hr rfl (fun t ht hW => rd_end (bI_0 (by simp [k_inRange, c_1, c_2, c_3, c_4, c_5])).symm ht) (fun q h => by cases h) dX3_isInRange_47
          · skip
            refine lv_iconst (v := 1) hx hb dX3_isInRange_42 (by decide) ?_
            refine lv_goto (tgt := 47) hx hb dX3_isInRange_43 (by decide) ?_
            exact W.zret (v := 1) (ty := .boolean) hx hb hr rfl (fun t ht hW => rd_end (bI_1 (by simp [k_inRange, c_1, c_2, c_3, c_4, c_5])).symm ht) (fun q h => by cases h) dX3_isInRange_47
      · skip
        refine lv_iconst (v := 0) hx hb dX3_isInRange_16 (by decide) ?_
        exact W.zret (v := 0) (ty := .boolean) hx hb hr rfl (fun t ht hW => rd_end (bI_0 (by simp [k_inRange, c_1, c_2, c_3])).symm ht) (fun q h => by cases h) dX3_isInRange_17
set_option maxHeartbeats 4000000 in
set_option maxRecDepth 100000 in
theorem kX3_judgeNumber (l : Launch) (dC : Nat → ClassId) (dI : Nat → Nat → Nat) (B : Nat) (cI cC cJ : ClassId) (r : Nat) (rs : Nat) (sg : Nat → Int32) (len : Nat) (pl : Nat) (fn : Int32) (fp : Int32) (h : Nat) (hk : Nat) (hn : Nat) (hu : Nat) (ks : Nat → Int32) (ns : Nat → Int32) (us : Nat → Int32) (sz : Nat) (p0 : Int32) (p1 : Int32) (p2 : Int32) (hlen : len ≤ 500) (hpl : pl ≤ 501) (hsz : sz ≤ 50) : Met l yX3_judgeNumber wsX3_judgeNumber ({ frames := 2, cells := 0, slots := 0, locals := 43 }) (q_Rd (dC, dI) vwCl [.ref r, .int p0, .int p1, .int p2] [(r, .inr (3, [.ref rs, .ref h, .int (nI len), .int (nI pl), .int fn, .int fp])), (rs, .inl (cC, 500, .inl sg)), (h, .inr (1, [.ref hk, .ref hn, .ref hu, .int (nI sz)])), (hk, .inl (cI, 50, .inl ks)), (hn, .inl (cI, 50, .inl ns)), (hu, .inl (cI, 200, .inl us))] [(cI, .int), (cC, .char), (cJ, .long)] B) (QcRead (k_judge us sz p0 p1 p2)) 0 0 (fun _ => False) := by
  refine Met.ofW (cc := cX3_judgeNumber) (maxL := 4) (ret := (some .int)) (by decide) rfl ?_
  intro p e s m args below meth c s₁ Bd hml hv
  obtain ⟨rfl, hP, hK, hT⟩ := hv
  have hx := Bd.exec
  have hb := Bd.bytes
  have hr := Bd.returns
  have hts := atoms_spec (ws := wsX3_judgeNumber) Bd.pre
  have hg : ∀ w ∈ lw_good, w.before _ s = true := fun w h => hts w (List.mem_cons_of_mem _ h)
  have hown : s.vm.findClass RX3 = some m.cls := findClass_of_methodNamed Bd.named
  have hlocks := Bd.notSynchronized
  have hSB : va_S (fun q => B ≤ q) s.heap s.heap [] := va_S.rf
  have hP : va_P (dC, dI) vwCl [(r, .inr (3, [.ref rs, .ref h, .int (nI len), .int (nI pl), .int fn, .int fp])), (rs, .inl (cC, 500, .inl sg)), (h, .inr (1, [.ref hk, .ref hn, .ref hu, .int (nI sz)])), (hk, .inl (cI, 50, .inl ks)), (hn, .inl (cI, 50, .inl ns)), (hu, .inl (cI, 200, .inl us))] s.heap := hP
  have hl := lv_entry ([.ref r, .int p0, .int p1, .int p2]) (n := 4) (Nat.le_of_ble_eq_true rfl)
  rw [lg_entry_eq]
  generalize (lg_sl ([.ref r, .int p0, .int p1, .int p2]) ++ List.replicate (4 - (lg_sl ([.ref r, .int p0, .int p1, .int p2])).length) Slot.unset).toArray = ls at hl ⊢
  have hl : lv_has ls 4 [(0, .ref r), (1, .int p0), (2, .int p1), (3, .int p2)] := hl
  refine lv_iload_n hx hb dX3_judgeNumber_0 rfl (lv_at hl 1 rfl) ?_
  refine lv_iload_n hx hb dX3_judgeNumber_1 rfl (lv_at hl 2 rfl) ?_
  refine lv_iload_n hx hb dX3_judgeNumber_2 rfl (lv_at hl 3 rfl) ?_
  refine go_R (r := (bI (k_inRange p0 p1 p2))) (va_runS (As := [.int p0, .int p1, .int p2]) (rest := []) ⟨hx, hb, hml, hown, hg⟩ (kX3_isInRange l dC dI B cI cC cJ p0 p1 p2) (va_cwS 3 hg (gi_S w_287 w_288 w_3 w_289) rfl rfl rfl (by decide +kernel) ⟨Nat.le_of_ble_eq_true rfl, Nat.le_of_ble_eq_true rfl⟩) (pre_RS (hP.sub [] rfl) hK hT) rfl rfl hl.1 rfl (lv_room (Nat.le_of_ble_eq_true rfl)) dX3_judgeNumber_3 ⟨Nat.le_of_ble_eq_true rfl, Nat.le_of_ble_eq_true rfl⟩) ?_
  refine lv_if_ne (tgt := 11) hx hb dX3_judgeNumber_6 (by decide) (fun c_1 => ?_) (fun c_1 => ?_)
  · skip
    have c_1 := bI_ne0 c_1
    refine lv_iload_n hx hb dX3_judgeNumber_11 rfl (lv_at hl 1 rfl) ?_
    refine lv_if_eq (tgt := 20) hx hb dX3_judgeNumber_12 (by decide) (fun c_2 => ?_) (fun c_2 => ?_)
    · skip
      refine lv_iload_n hx hb dX3_judgeNumber_20 rfl (lv_at hl 2 rfl) ?_
      refine lv_iconst (v := 1) hx hb dX3_judgeNumber_21 (by decide) ?_
      refine lv_icmp_ne (tgt := 48) hx hb dX3_judgeNumber_22 (by decide) (fun c_3 => ?_) (fun c_3 => ?_)
      · skip
        refine lv_iload_n hx hb dX3_judgeNumber_48 rfl (lv_at hl 1 rfl) ?_
        refine lv_iconst (v := 1) hx hb dX3_judgeNumber_49 (by decide) ?_
        refine lv_icmp_ne (tgt := 64) hx hb dX3_judgeNumber_50 (by decide) (fun c_4 => ?_) (fun c_4 => ?_)
        · skip
          refine lv_iconst (v := 0) hx hb dX3_judgeNumber_64 (by decide) ?_
          exact W.iret (v := 0) hx hb hr (fun t ht hW => rd_end (by rw [k_judge, if_pos c_1]; first | (simp [c_2, c_3, c_4]; done) | (exfalso; simp_all; done) | simp_all) ht) (fun q h => by cases h) dX3_judgeNumber_65
        · skip
          refine lv_iload_n hx hb dX3_judgeNumber_53 rfl (lv_at hl 2 rfl) ?_
          refine lv_iconst (v := 1) hx hb dX3_judgeNumber_54 (by decide) ?_
          refine lv_icmp_ne (tgt := 64) hx hb dX3_judgeNumber_55 (by decide) (fun c_5 => ?_) (fun c_5 => ?_)
          · skip
            refine lv_iconst (v := 0) hx hb dX3_judgeNumber_64 (by decide) ?_
            exact W.iret (v := 0) hx hb hr (fun t ht hW => rd_end (by rw [k_judge, if_pos c_1]; first | (simp [c_2, c_3, c_4, c_5]; done) | (exfalso; simp_all; done) | simp_all) ht) (fun q h => by cases h) dX3_judgeNumber_65
          · skip
            refine lv_iload_n hx hb dX3_judgeNumber_58 rfl (lv_at hl 3 rfl) ?_
            refine lv_if_ne (tgt := 64) hx hb dX3_judgeNumber_59 (by decide) (fun c_6 => ?_) (fun c_6 => ?_)
            · skip
              refine lv_iconst (v := 0) hx hb dX3_judgeNumber_64 (by decide) ?_
              exact W.iret (v := 0) hx hb hr (fun t ht hW => rd_end (by rw [k_judge, if_pos c_1]; first | (simp [c_2, c_3, c_4, c_5, c_6]; done) | (exfalso; simp_all; done) | simp_all) ht) (fun q h => by cases h) dX3_judgeNumber_65
            · skip
              refine lv_iconst (v := 4) hx hb dX3_judgeNumber_62 (by decide) ?_
              exact W.iret (v := 4) hx hb hr (fun t ht hW => rd_end (by rw [k_judge, if_pos c_1]; first | (simp [c_2, c_3, c_4, c_5, c_6]; done) | (exfalso; simp_all; done) | simp_all) ht) (fun q h => by cases h) dX3_judgeNumber_63
      · skip
        refine lv_iload_n hx hb dX3_judgeNumber_25 rfl (lv_at hl 3 rfl) ?_
        refine lv_aload_n hx hb dX3_judgeNumber_26 rfl (lv_at hl 0 rfl) ?_
        refine va_get (D := (dC, dI)) (ci := 3) (v := .ref h) (C := RX3) (T := TX3) (N := 6) hx hb hg in_X3 hown hK hP 0 rfl rfl 1 (by decide) (hg _ w_51) (fun _ h9 => h9) rfl dX3_judgeNumber_27 ?_
        refine lv_aload_n hx hb dX3_judgeNumber_30 rfl (lv_at hl 0 rfl) ?_
        refine va_get (D := (dC, dI)) (ci := 3) (v := .ref h) (C := RX3) (T := TX3) (N := 6) hx hb hg in_X3 hown hK hP 0 rfl rfl 1 (by decide) (hg _ w_51) (fun _ h9 => h9) rfl dX3_judgeNumber_31 ?_
        refine go_R (r := (nI sz)) (va_runV (As := []) (rest := [.ref h, .int p2]) ⟨hx, hb, hml, hown, hg⟩ (kX1_size l dC dI B cI cC cJ h hk hn hu ks ns us sz (by omega)) (cwV 0 hg (gi_V w_290 w_186 w_187 w_4 w_188) rfl rfl rfl (by decide +kernel) ⟨Nat.le_of_ble_eq_true rfl, Nat.le_of_ble_eq_true rfl⟩) (pre_RV (va_recv hK hP (ci := 1) (q0 := 2) rfl rfl) (hP.sub [2, 3, 4, 5] rfl) hK hT) rfl rfl hl.1 rfl (lv_room (Nat.le_of_ble_eq_true rfl)) dX3_judgeNumber_34 ⟨Nat.le_of_ble_eq_true rfl, Nat.le_of_ble_eq_true rfl⟩) ?_
        refine lv_iconst (v := 1) hx hb dX3_judgeNumber_37 (by decide) ?_
        refine lv_isub hx hb dX3_judgeNumber_38 ?_
        refine lv_iconst (v := 0) hx hb dX3_judgeNumber_39 (by decide) ?_
        refine go_R (r := k_num us sz ((nI sz) - 1) 0) (va_runV (As := [.int ((nI sz) - 1), .int 0]) (rest := [.int p2]) ⟨hx, hb, hml, hown, hg⟩ (kX1_numberOf l dC dI B cI cC cJ h hk hn hu ks ns us sz ((nI sz) - 1) 0 (by omega)) (cwV 2 hg (gi_V w_291 w_216 w_217 w_4 w_218) rfl rfl rfl (by decide +kernel) ⟨Nat.le_of_ble_eq_true rfl, Nat.le_of_ble_eq_true rfl⟩) (pre_RV (va_recv hK hP (ci := 1) (q0 := 2) rfl rfl) (hP.sub [2, 3, 4, 5] rfl) hK hT) rfl rfl hl.1 rfl (lv_room (Nat.le_of_ble_eq_true rfl)) dX3_judgeNumber_40 ⟨Nat.le_of_ble_eq_true rfl, Nat.le_of_ble_eq_true rfl⟩) ?_
        refine lv_icmp_ne (tgt := 48) hx hb dX3_judgeNumber_43 (by decide) (fun c_7 => ?_) (fun c_7 => ?_)
        · skip
          refine lv_iload_n hx hb dX3_judgeNumber_48 rfl (lv_at hl 1 rfl) ?_
          refine lv_iconst (v := 1) hx hb dX3_judgeNumber_49 (by decide) ?_
          refine lv_icmp_ne (tgt := 64) hx hb dX3_judgeNumber_50 (by decide) (fun c_8 => ?_) (fun c_8 => ?_)
          · skip
            refine lv_iconst (v := 0) hx hb dX3_judgeNumber_64 (by decide) ?_
            exact W.iret (v := 0) hx hb hr (fun t ht hW => rd_end (by rw [k_judge, if_pos c_1]; first | (simp [c_2, c_3, c_7, c_8]; done) | (exfalso; simp_all; done) | simp_all) ht) (fun q h => by cases h) dX3_judgeNumber_65
          · skip
            refine lv_iload_n hx hb dX3_judgeNumber_53 rfl (lv_at hl 2 rfl) ?_
            refine lv_iconst (v := 1) hx hb dX3_judgeNumber_54 (by decide) ?_
            refine lv_icmp_ne (tgt := 64) hx hb dX3_judgeNumber_55 (by decide) (fun c_9 => ?_) (fun c_9 => ?_)
            · skip
              refine lv_iconst (v := 0) hx hb dX3_judgeNumber_64 (by decide) ?_
              exact W.iret (v := 0) hx hb hr (fun t ht hW => rd_end (by rw [k_judge, if_pos c_1]; first | (simp [c_2, c_3, c_7, c_8, c_9]; done) | (exfalso; simp_all; done) | simp_all) ht) (fun q h => by cases h) dX3_judgeNumber_65
            · skip
              refine lv_iload_n hx hb dX3_judgeNumber_58 rfl (lv_at hl 3 rfl) ?_
              refine lv_if_ne (tgt := 64) hx hb dX3_judgeNumber_59 (by decide) (fun c_10 => ?_) (fun c_10 => ?_)
              · skip
                refine lv_iconst (v := 0) hx hb dX3_judgeNumber_64 (by decide) ?_
                exact W.iret (v := 0) hx hb hr (fun t ht hW => rd_end (by rw [k_judge, if_pos c_1]; first | (simp [c_2, c_3, c_7, c_8, c_9, c_10]; done) | (exfalso; simp_all; done) | simp_all) ht) (fun q h => by cases h) dX3_judgeNumber_65
              · skip
                refine lv_iconst (v := 4) hx hb dX3_judgeNumber_62 (by decide) ?_
                exact W.iret (v := 4) hx hb hr (fun t ht hW => rd_end (by rw [k_judge, if_pos c_1]; first | (simp [c_2, c_3, c_7, c_8, c_9, c_10]; done) | (exfalso; simp_all; done) | simp_all) ht) (fun q h => by cases h) dX3_judgeNumber_63
        · skip
          refine lv_iconst (v := 3) hx hb dX3_judgeNumber_46 (by decide) ?_
          exact W.iret (v := 3) hx hb hr (fun t ht hW => rd_end (by rw [k_judge, if_pos c_1]; first | (simp [c_2, c_3, c_7]; done) | (exfalso; simp_all; done) | simp_all) ht) (fun q h => by cases h) dX3_judgeNumber_47
    · skip
      refine lv_iload_n hx hb dX3_judgeNumber_15 rfl (lv_at hl 1 rfl) ?_
      refine lv_iconst (v := 4) hx hb dX3_judgeNumber_16 (by decide) ?_
      refine lv_icmp_ne (tgt := 48) hx hb dX3_judgeNumber_17 (by decide) (fun c_11 => ?_) (fun c_11 => ?_)
      · skip
        refine lv_iload_n hx hb dX3_judgeNumber_48 rfl (lv_at hl 1 rfl) ?_
        refine lv_iconst (v := 1) hx hb dX3_judgeNumber_49 (by decide) ?_
        refine lv_icmp_ne (tgt := 64) hx hb dX3_judgeNumber_50 (by decide) (fun c_12 => ?_) (fun c_12 => ?_)
        · skip
          refine lv_iconst (v := 0) hx hb dX3_judgeNumber_64 (by decide) ?_
          exact W.iret (v := 0) hx hb hr (fun t ht hW => rd_end (by rw [k_judge, if_pos c_1]; first | (simp [c_2, c_11, c_12]; done) | (exfalso; simp_all; done) | simp_all) ht) (fun q h => by cases h) dX3_judgeNumber_65
        · skip
          refine lv_iload_n hx hb dX3_judgeNumber_53 rfl (lv_at hl 2 rfl) ?_
          refine lv_iconst (v := 1) hx hb dX3_judgeNumber_54 (by decide) ?_
          refine lv_icmp_ne (tgt := 64) hx hb dX3_judgeNumber_55 (by decide) (fun c_13 => ?_) (fun c_13 => ?_)
          · skip
            refine lv_iconst (v := 0) hx hb dX3_judgeNumber_64 (by decide) ?_
            exact W.iret (v := 0) hx hb hr (fun t ht hW => rd_end (by rw [k_judge, if_pos c_1]; first | (simp [c_2, c_11, c_12, c_13]; done) | (exfalso; simp_all; done) | simp_all) ht) (fun q h => by cases h) dX3_judgeNumber_65
          · skip
            refine lv_iload_n hx hb dX3_judgeNumber_58 rfl (lv_at hl 3 rfl) ?_
            refine lv_if_ne (tgt := 64) hx hb dX3_judgeNumber_59 (by decide) (fun c_14 => ?_) (fun c_14 => ?_)
            · skip
              refine lv_iconst (v := 0) hx hb dX3_judgeNumber_64 (by decide) ?_
              exact W.iret (v := 0) hx hb hr (fun t ht hW => rd_end (by rw [k_judge, if_pos c_1]; first | (simp [c_2, c_11, c_12, c_13, c_14]; done) | (exfalso; simp_all; done) | simp_all) ht) (fun q h => by cases h) dX3_judgeNumber_65
            · skip
              refine lv_iconst (v := 4) hx hb dX3_judgeNumber_62 (by decide) ?_
              exact W.iret (v := 4) hx hb hr (fun t ht hW => rd_end (by rw [k_judge, if_pos c_1]; first | (simp [c_2, c_11, c_12, c_13, c_14]; done) | (exfalso; simp_all; done) | simp_all) ht) (fun q h => by cases h) dX3_judgeNumber_63
      · skip
        refine lv_iload_n hx hb dX3_judgeNumber_20 rfl (lv_at hl 2 rfl) ?_
        refine lv_iconst (v := 1) hx hb dX3_judgeNumber_21 (by decide) ?_
        refine lv_icmp_ne (tgt := 48) hx hb dX3_judgeNumber_22 (by decide) (fun c_15 => ?_) (fun c_15 => ?_)
        · skip
          refine lv_iload_n hx hb dX3_judgeNumber_48 rfl (lv_at hl 1 rfl) ?_
          refine lv_iconst (v := 1) hx hb dX3_judgeNumber_49 (by decide) ?_
          refine lv_icmp_ne (tgt := 64) hx hb dX3_judgeNumber_50 (by decide) (fun c_16 => ?_) (fun c_16 => ?_)
          · skip
            refine lv_iconst (v := 0) hx hb dX3_judgeNumber_64 (by decide) ?_
            exact W.iret (v := 0) hx hb hr (fun t ht hW => rd_end (by rw [k_judge, if_pos c_1]; first | (simp [c_2, c_11, c_15, c_16]; done) | (exfalso; simp_all; done) | simp_all) ht) (fun q h => by cases h) dX3_judgeNumber_65
          · skip
            refine lv_iload_n hx hb dX3_judgeNumber_53 rfl (lv_at hl 2 rfl) ?_
            refine lv_iconst (v := 1) hx hb dX3_judgeNumber_54 (by decide) ?_
            refine lv_icmp_ne (tgt := 64) hx hb dX3_judgeNumber_55 (by decide) (fun c_17 => ?_) (fun c_17 => ?_)
            · skip
              refine lv_iconst (v := 0) hx hb dX3_judgeNumber_64 (by decide) ?_
              exact W.iret (v := 0) hx hb hr (fun t ht hW => rd_end (by rw [k_judge, if_pos c_1]; first | (simp [c_2, c_11, c_15, c_16, c_17]; done) | (exfalso; simp_all; done) | simp_all) ht) (fun q h => by cases h) dX3_judgeNumber_65
            · skip
              refine lv_iload_n hx hb dX3_judgeNumber_58 rfl (lv_at hl 3 rfl) ?_
              refine lv_if_ne (tgt := 64) hx hb dX3_judgeNumber_59 (by decide) (fun c_18 => ?_) (fun c_18 => ?_)
              · skip
                refine lv_iconst (v := 0) hx hb dX3_judgeNumber_64 (by decide) ?_
                exact W.iret (v := 0) hx hb hr (fun t ht hW => rd_end (by rw [k_judge, if_pos c_1]; first | (simp [c_2, c_11, c_15, c_16, c_17, c_18]; done) | (exfalso; simp_all; done) | simp_all) ht) (fun q h => by cases h) dX3_judgeNumber_65
              · skip
                refine lv_iconst (v := 4) hx hb dX3_judgeNumber_62 (by decide) ?_
                exact W.iret (v := 4) hx hb hr (fun t ht hW => rd_end (by rw [k_judge, if_pos c_1]; first | (simp [c_2, c_11, c_15, c_16, c_17, c_18]; done) | (exfalso; simp_all; done) | simp_all) ht) (fun q h => by cases h) dX3_judgeNumber_63
        · skip
          refine lv_iload_n hx hb dX3_judgeNumber_25 rfl (lv_at hl 3 rfl) ?_
          refine lv_aload_n hx hb dX3_judgeNumber_26 rfl (lv_at hl 0 rfl) ?_
          refine va_get (D := (dC, dI)) (ci := 3) (v := .ref h) (C := RX3) (T := TX3) (N := 6) hx hb hg in_X3 hown hK hP 0 rfl rfl 1 (by decide) (hg _ w_51) (fun _ h9 => h9) rfl dX3_judgeNumber_27 ?_
          refine lv_aload_n hx hb dX3_judgeNumber_30 rfl (lv_at hl 0 rfl) ?_
          refine va_get (D := (dC, dI)) (ci := 3) (v := .ref h) (C := RX3) (T := TX3) (N := 6) hx hb hg in_X3 hown hK hP 0 rfl rfl 1 (by decide) (hg _ w_51) (fun _ h9 => h9) rfl dX3_judgeNumber_31 ?_
          refine go_R (r := (nI sz)) (va_runV (As := []) (rest := [.ref h, .int p2]) ⟨hx, hb, hml, hown, hg⟩ (kX1_size l dC dI B cI cC cJ h hk hn hu ks ns us sz (by omega)) (cwV 0 hg (gi_V w_290 w_186 w_187 w_4 w_188) rfl rfl rfl (by decide +kernel) ⟨Nat.le_of_ble_eq_true rfl, Nat.le_of_ble_eq_true rfl⟩) (pre_RV (va_recv hK hP (ci := 1) (q0 := 2) rfl rfl) (hP.sub [2, 3, 4, 5] rfl) hK hT) rfl rfl hl.1 rfl (lv_room (Nat.le_of_ble_eq_true rfl)) dX3_judgeNumber_34 ⟨Nat.le_of_ble_eq_true rfl, Nat.le_of_ble_eq_true rfl⟩) ?_
          refine lv_iconst (v := 1) hx hb dX3_judgeNumber_37 (by decide) ?_
          refine lv_isub hx hb dX3_judgeNumber_38 ?_
          refine lv_iconst (v := 0) hx hb dX3_judgeNumber_39 (by decide) ?_
          refine go_R (r := k_num us sz ((nI sz) - 1) 0) (va_runV (As := [.int ((nI sz) - 1), .int 0]) (rest := [.int p2]) ⟨hx, hb, hml, hown, hg⟩ (kX1_numberOf l dC dI B cI cC cJ h hk hn hu ks ns us sz ((nI sz) - 1) 0 (by omega)) (cwV 2 hg (gi_V w_291 w_216 w_217 w_4 w_218) rfl rfl rfl (by decide +kernel) ⟨Nat.le_of_ble_eq_true rfl, Nat.le_of_ble_eq_true rfl⟩) (pre_RV (va_recv hK hP (ci := 1) (q0 := 2) rfl rfl) (hP.sub [2, 3, 4, 5] rfl) hK hT) rfl rfl hl.1 rfl (lv_room (Nat.le_of_ble_eq_true rfl)) dX3_judgeNumber_40 ⟨Nat.le_of_ble_eq_true rfl, Nat.le_of_ble_eq_true rfl⟩) ?_
          refine lv_icmp_ne (tgt := 48) hx hb dX3_judgeNumber_43 (by decide) (fun c_19 => ?_) (fun c_19 => ?_)
          · skip
            refine lv_iload_n hx hb dX3_judgeNumber_48 rfl (lv_at hl 1 rfl) ?_
            refine lv_iconst (v := 1) hx hb dX3_judgeNumber_49 (by decide) ?_
            refine lv_icmp_ne (tgt := 64) hx hb dX3_judgeNumber_50 (by decide) (fun c_20 => ?_) (fun c_20 => ?_)
            · skip
              refine lv_iconst (v := 0) hx hb dX3_judgeNumber_64 (by decide) ?_
              exact W.iret (v := 0) hx hb hr (fun t ht hW => rd_end (by rw [k_judge, if_pos c_1]; first | (simp [c_2, c_11, c_15, c_19, c_20]; done) | (exfalso; simp_all; done) | simp_all) ht) (fun q h => by cases h) dX3_judgeNumber_65
            · skip
              refine lv_iload_n hx hb dX3_judgeNumber_53 rfl (lv_at hl 2 rfl) ?_
              refine lv_iconst (v := 1) hx hb dX3_judgeNumber_54 (by decide) ?_
              refine lv_icmp_ne (tgt := 64) hx hb dX3_judgeNumber_55 (by decide) (fun c_21 => ?_) (fun c_21 => ?_)
              · skip
                refine lv_iconst (v := 0) hx hb dX3_judgeNumber_64 (by decide) ?_
                exact W.iret (v := 0) hx hb hr (fun t ht hW => rd_end (by rw [k_judge, if_pos c_1]; first | (simp [c_2, c_11, c_15, c_19, c_20, c_21]; done) | (exfalso; simp_all; done) | simp_all) ht) (fun q h => by cases h) dX3_judgeNumber_65
              · skip
                refine lv_iload_n hx hb dX3_judgeNumber_58 rfl (lv_at hl 3 rfl) ?_
                refine lv_if_ne (tgt := 64) hx hb dX3_judgeNumber_59 (by decide) (fun c_22 => ?_) (fun c_22 => ?_)
                · skip
                  refine lv_iconst (v := 0) hx hb dX3_judgeNumber_64 (by decide) ?_
                  exact W.iret (v := 0) hx hb hr (fun t ht hW => rd_end (by rw [k_judge, if_pos c_1]; first | (simp [c_2, c_11, c_15, c_19, c_20, c_21, c_22]; done) | (exfalso; simp_all; done) | simp_all) ht) (fun q h => by cases h) dX3_judgeNumber_65
                · skip
                  refine lv_iconst (v := 4) hx hb dX3_judgeNumber_62 (by decide) ?_
                  exact W.iret (v := 4) hx hb hr (fun t ht hW => rd_end (by rw [k_judge, if_pos c_1]; first | (simp [c_2, c_11, c_15, c_19, c_20, c_21, c_22]; done) | (exfalso; simp_all; done) | simp_all) ht) (fun q h => by cases h) dX3_judgeNumber_63
          · skip
            refine lv_iconst (v := 3) hx hb dX3_judgeNumber_46 (by decide) ?_
            exact W.iret (v := 3) hx hb hr (fun t ht hW => rd_end (by rw [k_judge, if_pos c_1]; first | (simp [c_2, c_11, c_15, c_19]; done) | (exfalso; simp_all; done) | simp_all) ht) (fun q h => by cases h) dX3_judgeNumber_47
  · skip
    have c_1 := bI_eq0 c_1
    refine lv_iconst (v := 3) hx hb dX3_judgeNumber_9 (by decide) ?_
    exact W.iret (v := 3) hx hb hr (fun t ht hW => rd_end (by simp [k_judge, c_1]) ht) (fun q h => by cases h) dX3_judgeNumber_10
