set_option maxHeartbeats 4000000 in
set_option maxRecDepth 100000 in
theorem kX2_length (l : Launch) (dC : Nat → ClassId) (dI : Nat → Nat → Nat) (B : Nat) (cI cC cJ : ClassId) (o : Nat) (os : Nat) (ot : Nat → Int32) (ol : Nat) (hol : ol ≤ 500) : Met l yX2_length wsX2_length ({ frames := 0, cells := 0, slots := 0, locals := 0 }) (q_Rd (dC, dI) vwCl [.ref o] [(o, .inr (2, [.ref os, .int (nI ol)])), (os, .inl (cC, 500, .inl ot))] [(cI, .int), (cC, .char), (cJ, .long)] B) (QcRead (nI ol)) 0 0 (fun _ => False) := by
  refine Met.ofW (cc := cX2_length) (maxL := 1) (ret := (some .int)) (by decide) rfl ?_
  intro p e s m args below meth c s₁ Bd hml hv
  obtain ⟨rfl, hP, hK, hT⟩ := hv
  have hx := Bd.exec
  have hb := Bd.bytes
  have hr := Bd.returns
  have hts := atoms_spec (ws := wsX2_length) Bd.pre
  have hg : ∀ w ∈ lw_good, w.before _ s = true := fun w h => hts w (List.mem_cons_of_mem _ h)
  have hown : s.vm.findClass RX2 = some m.cls := findClass_of_methodNamed Bd.named
  have hlocks := Bd.notSynchronized
  have hSB : va_S (fun q => B ≤ q) s.heap s.heap [] := va_S.rf
  have hP : va_P (dC, dI) vwCl [(o, .inr (2, [.ref os, .int (nI ol)])), (os, .inl (cC, 500, .inl ot))] s.heap := hP
  have hl := lv_entry ([.ref o]) (n := 1) (Nat.le_of_ble_eq_true rfl)
  rw [lg_entry_eq]
  generalize (lg_sl ([.ref o]) ++ List.replicate (1 - (lg_sl ([.ref o])).length) Slot.unset).toArray = ls at hl ⊢
  have hl : lv_has ls 1 [(0, .ref o)] := hl
  refine lv_aload_n hx hb dX2_length_0 rfl (lv_at hl 0 rfl) ?_
  refine va_get (D := (dC, dI)) (ci := 2) (v := .int (nI ol)) (C := RX2) (T := TX2) (N := 2) hx hb hg in_X2 hown hK hP 0 rfl rfl 1 (by decide) (hg _ w_97) (fun _ h9 => h9) rfl dX2_length_1 ?_
  exact W.iret (v := (nI ol)) hx hb hr (fun t ht hW => rd_end rfl ht) (fun q h => by cases h) dX2_length_4
set_option maxHeartbeats 4000000 in
set_option maxRecDepth 100000 in
theorem kX2_signAt (l : Launch) (dC : Nat → ClassId) (dI : Nat → Nat → Nat) (B : Nat) (cI cC cJ : ClassId) (o : Nat) (os : Nat) (ot : Nat → Int32) (ol : Nat) (p0 : Int32) (hol : ol ≤ 500) : Met l yX2_signAt wsX2_signAt ({ frames := 0, cells := 0, slots := 0, locals := 0 }) (q_Rd (dC, dI) vwCl [.ref o, .int p0] [(o, .inr (2, [.ref os, .int (nI ol)])), (os, .inl (cC, 500, .inl ot))] [(cI, .int), (cC, .char), (cJ, .long)] B) (QcRead (k_get ot ol p0)) 0 0 (fun _ => False) := by
  refine Met.ofW (cc := cX2_signAt) (maxL := 2) (ret := (some .int)) (by decide) rfl ?_
  intro p e s m args below meth c s₁ Bd hml hv
  obtain ⟨rfl, hP, hK, hT⟩ := hv
  have hx := Bd.exec
  have hb := Bd.bytes
  have hr := Bd.returns
  have hts := atoms_spec (ws := wsX2_signAt) Bd.pre
  have hg : ∀ w ∈ lw_good, w.before _ s = true := fun w h => hts w (List.mem_cons_of_mem _ h)
  have hown : s.vm.findClass RX2 = some m.cls := findClass_of_methodNamed Bd.named
  have hlocks := Bd.notSynchronized
  have hSB : va_S (fun q => B ≤ q) s.heap s.heap [] := va_S.rf
  have hP : va_P (dC, dI) vwCl [(o, .inr (2, [.ref os, .int (nI ol)])), (os, .inl (cC, 500, .inl ot))] s.heap := hP
  have hl := lv_entry ([.ref o, .int p0]) (n := 2) (Nat.le_of_ble_eq_true rfl)
  rw [lg_entry_eq]
  generalize (lg_sl ([.ref o, .int p0]) ++ List.replicate (2 - (lg_sl ([.ref o, .int p0])).length) Slot.unset).toArray = ls at hl ⊢
  have hl : lv_has ls 2 [(0, .ref o), (1, .int p0)] := hl
  refine lv_iload_n hx hb dX2_signAt_0 rfl (lv_at hl 1 rfl) ?_
  refine lv_if_lt (tgt := 21) hx hb dX2_signAt_1 (by decide) (fun c_1 => ?_) (fun c_1 => ?_)
  · skip
    refine lv_iconst (v := (-1)) hx hb dX2_signAt_21 (by decide) ?_
    exact W.iret (v := (-1)) hx hb hr (fun t ht hW => rd_end (by simp [k_get, c_1]) ht) (fun q h => by cases h) dX2_signAt_22
  · skip
    refine lv_iload_n hx hb dX2_signAt_4 rfl (lv_at hl 1 rfl) ?_
    refine lv_aload_n hx hb dX2_signAt_5 rfl (lv_at hl 0 rfl) ?_
    refine va_get (D := (dC, dI)) (ci := 2) (v := .int (nI ol)) (C := RX2) (T := TX2) (N := 2) hx hb hg in_X2 hown hK hP 0 rfl rfl 1 (by decide) (hg _ w_97) (fun _ h9 => h9) rfl dX2_signAt_6 ?_
    refine lv_icmp_ge (tgt := 21) hx hb dX2_signAt_9 (by decide) (fun c_2 => ?_) (fun c_2 => ?_)
    · skip
      refine lv_iconst (v := (-1)) hx hb dX2_signAt_21 (by decide) ?_
      exact W.iret (v := (-1)) hx hb hr (fun t ht hW => rd_end (by simp [k_get, c_1, c_2]) ht) (fun q h => by cases h) dX2_signAt_22
    · skip
      refine lv_aload_n hx hb dX2_signAt_12 rfl (lv_at hl 0 rfl) ?_
      refine va_get (D := (dC, dI)) (ci := 2) (v := .ref os) (C := RX2) (T := TX2) (N := 2) hx hb hg in_X2 hown hK hP 0 rfl rfl 0 (by decide) (hg _ w_96) (fun _ h9 => h9) rfl dX2_signAt_13 ?_
      refine lv_iload_n hx hb dX2_signAt_16 rfl (lv_at hl 1 rfl) ?_
      refine va_cald (i := p0) hx hb hK hP 1 1 rfl rfl (ix_in c_1 c_2 hol (by decide)) dX2_signAt_17 ?_
      refine lv_goto (tgt := 22) hx hb dX2_signAt_18 (by decide) ?_
      exact W.iret (v := ot p0.toNatClampNeg) hx hb hr (fun t ht hW => rd_end (by simp [k_get, c_1, c_2]) ht) (fun q h => by cases h) dX2_signAt_22
set_option maxHeartbeats 4000000 in
set_option maxRecDepth 100000 in
theorem kX2_writeSign (l : Launch) (dC : Nat → ClassId) (dI : Nat → Nat → Nat) (B : Nat) (cI cC cJ : ClassId) (o : Nat) (os : Nat) (ot : Nat → Int32) (ol : Nat) (p0 : Int32) (ot1 : Nat → Int32) (ol1 : Nat) (hol : ol ≤ 500) (hF : k_wSign ot ol p0 = (ot1, ol1)) (sz9 : Nat) : Met l yX2_writeSign wsX2_writeSign ({ frames := 0, cells := 0, slots := 0, locals := 0 }) (q_Mp (dC, dI) vwCl [.ref o, .int p0] [(o, .inr (2, [.ref os, .int (nI ol)])), (os, .inl (cC, 500, .inl ot))] [(cI, .int), (cC, .char), (cJ, .long)] B sz9) (q_Mq (dC, dI) vwCl [(o, .inr (2, [.ref os, .int (nI ol1)])), (os, .inl (cC, 500, .inl ot1))] (va_A [(o, .inr (2, [.ref os, .int (nI ol)])), (os, .inl (cC, 500, .inl ot))] sz9) none) 0 0 (va_A [(o, .inr (2, [.ref os, .int (nI ol)])), (os, .inl (cC, 500, .inl ot))] sz9) := by
  refine Met.ofW (cc := cX2_writeSign) (maxL := 2) (ret := none) (by decide) rfl ?_
  intro p e s m args below meth c s₁ Bd hml hv
  obtain ⟨rfl, hsz9, hB, hP, hK, hD0, hT⟩ := hv
  have hx := Bd.exec
  have hb := Bd.bytes
  have hr := Bd.returns
  have hts := atoms_spec (ws := wsX2_writeSign) Bd.pre
  have hg : ∀ w ∈ lw_good, w.before _ s = true := fun w h => hts w (List.mem_cons_of_mem _ h)
  have hown : s.vm.findClass RX2 = some m.cls := findClass_of_methodNamed Bd.named
  have hlocks := Bd.notSynchronized
  subst hsz9
  have hD := hD0.self (sz := s.heap.size)
  generalize hAe : va_A [(o, .inr (2, [.ref os, .int (nI ol)])), (os, .inl (cC, 500, .inl ot))] s.heap.size = A at hD ⊢
  have hA : ∀ q : Nat, s.heap.size ≤ q → A q := fun q h => by rw [← hAe]; exact Or.inr h
  have hAB : ∀ q, A q → B ≤ q := by rw [← hAe]; exact va_A.ge hD0 hB
  have hS : va_S A s.heap s.heap [] := va_S.rf
  have hP : va_P (dC, dI) vwCl [(o, .inr (2, [.ref os, .int (nI ol)])), (os, .inl (cC, 500, .inl ot))] s.heap := hP
  have hl := lv_entry ([.ref o, .int p0]) (n := 2) (Nat.le_of_ble_eq_true rfl)
  rw [lg_entry_eq]
  generalize (lg_sl ([.ref o, .int p0]) ++ List.replicate (2 - (lg_sl ([.ref o, .int p0])).length) Slot.unset).toArray = ls at hl ⊢
  have hl : lv_has ls 2 [(0, .ref o), (1, .int p0)] := hl
  refine lv_aload_n hx hb dX2_writeSign_0 rfl (lv_at hl 0 rfl) ?_
  refine va_get (D := (dC, dI)) (ci := 2) (v := .int (nI ol)) (C := RX2) (T := TX2) (N := 2) hx hb hg in_X2 hown hK hP 0 rfl rfl 1 (by decide) (hg _ w_97) (fun _ h9 => h9) rfl dX2_writeSign_1 ?_
  refine lv_sipush (v := 500) hx hb dX2_writeSign_4 (by decide) ?_
  refine lv_icmp_ge (tgt := 30) hx hb dX2_writeSign_7 (by decide) (fun c_1 => ?_) (fun c_1 => ?_)
  · skip
    have c_1 := na_le (a := 500) (b := ol) c_1 (by omega) (by omega)
    have hP9 := hP
    have hS9 := hS
    have h9 : k_wSign ot ol p0 = (ot, ol) := by simp [k_wSign, c_1]
    have h9 := hF.symm.trans h9
    cases h9
    exact W.vret hx hb hr (fun t ht hW => ⟨rfl, by rw [ht]; exact hP9, hS9.F ht⟩) hS9.2.2 dX2_writeSign_30
  · skip
    have c_1 := na_nle (a := 500) (b := ol) c_1 (by omega) (by omega)
    refine lv_aload_n hx hb dX2_writeSign_10 rfl (lv_at hl 0 rfl) ?_
    refine va_get (D := (dC, dI)) (ci := 2) (v := .ref os) (C := RX2) (T := TX2) (N := 2) hx hb hg in_X2 hown hK hP 0 rfl rfl 0 (by decide) (hg _ w_96) (fun _ h9 => h9) rfl dX2_writeSign_11 ?_
    refine lv_aload_n hx hb dX2_writeSign_14 rfl (lv_at hl 0 rfl) ?_
    refine va_get (D := (dC, dI)) (ci := 2) (v := .int (nI ol)) (C := RX2) (T := TX2) (N := 2) hx hb hg in_X2 hown hK hP 0 rfl rfl 1 (by decide) (hg _ w_97) (fun _ h9 => h9) rfl dX2_writeSign_15 ?_
    refine lv_iload_n hx hb dX2_writeSign_18 rfl (lv_at hl 1 rfl) ?_
    refine x_cast (k := ol) (v := vp_nar .char p0) hx hb hK hP hD hS 1 1 rfl rfl rfl (by omega) (by decide) dX2_writeSign_19 (fun H locs hP hD hS => ?_)
    have hP : va_P (dC, dI) vwCl [(o, .inr (2, [.ref os, .int (nI ol)])), (os, .inl (cC, 500, .inl (upd ot ol (vp_nar .char p0))))] H := hP
    have hD : va_D A [(o, .inr (2, [.ref os, .int (nI ol)])), (os, .inl (cC, 500, .inl (upd ot ol (vp_nar .char p0))))] := hD
    refine lv_aload_n hx hb dX2_writeSign_20 rfl (lv_at hl 0 rfl) ?_
    refine lv_dup hx hb dX2_writeSign_21 rfl ?_
    refine va_get (D := (dC, dI)) (ci := 2) (v := .int (nI ol)) (C := RX2) (T := TX2) (N := 2) hx hb hg in_X2 hown hK hP 0 rfl rfl 1 (by decide) (hg _ w_97) (fun _ h9 => h9) rfl dX2_writeSign_22 ?_
    refine lv_iconst (v := 1) hx hb dX2_writeSign_25 (by decide) ?_
    refine lv_iadd hx hb dX2_writeSign_26 ?_
    refine top_eq (y := (nI (ol + 1))) (by exact nI_add _ _) ?_
    refine va_put (D := (dC, dI)) (ci := 2) (v := .int (nI (ol + 1))) (ty := .int) (C := RX2) (T := TX2) (N := 2) hx hb hg in_X2 tyX2 tyX2_ok nmX2_ok hown hK hP hD hS 0 rfl rfl 1 (by decide) (hg _ w_97) (fun _ h9 => h9) rfl (by decide +kernel) rfl rfl (Nat.le_of_ble_eq_true rfl) dX2_writeSign_27 (fun H locs hP hD hS => ?_)
    have hP : va_P (dC, dI) vwCl [(o, .inr (2, [.ref os, .int (nI (ol + 1))])), (os, .inl (cC, 500, .inl (upd ot ol (vp_nar .char p0))))] H := hP
    have hD : va_D A [(o, .inr (2, [.ref os, .int (nI (ol + 1))])), (os, .inl (cC, 500, .inl (upd ot ol (vp_nar .char p0))))] := hD
    have hP9 := hP
    have hS9 := hS
    have h9 : k_wSign ot ol p0 = (upd ot ol (vp_nar .char p0), ol + 1) := by simp [k_wSign, c_1]
    have h9 := hF.symm.trans h9
    cases h9
    exact W.vret hx hb hr (fun t ht hW => ⟨rfl, by rw [ht]; exact hP9, hS9.F ht⟩) hS9.2.2 dX2_writeSign_30
set_option maxHeartbeats 4000000 in
set_option maxRecDepth 100000 in
theorem kX2_writeNumber (l : Launch) (dC : Nat → ClassId) (dI : Nat → Nat → Nat) (B : Nat) (cI cC cJ : ClassId) (o : Nat) (os : Nat) (ot : Nat → Int32) (ol : Nat) (p0 : Int32) (ot1 : Nat → Int32) (ol1 : Nat) (hol : ol ≤ 500) (hF : k_wNum ot ol p0 = (ot1, ol1)) (sz9 : Nat) : Met l yX2_writeNumber wsX2_writeNumber ({ frames := 1, cells := 0, slots := 0, locals := 21 }) (q_Mp (dC, dI) vwCl [.ref o, .int p0] [(o, .inr (2, [.ref os, .int (nI ol)])), (os, .inl (cC, 500, .inl ot))] [(cI, .int), (cC, .char), (cJ, .long)] B sz9) (q_Mq (dC, dI) vwCl [(o, .inr (2, [.ref os, .int (nI ol1)])), (os, .inl (cC, 500, .inl ot1))] (va_A [(o, .inr (2, [.ref os, .int (nI ol)])), (os, .inl (cC, 500, .inl ot))] sz9) none) 0 0 (va_A [(o, .inr (2, [.ref os, .int (nI ol)])), (os, .inl (cC, 500, .inl ot))] sz9) := by
  refine Met.ofW (cc := cX2_writeNumber) (maxL := 2) (ret := none) (by decide) rfl ?_
  intro p e s m args below meth c s₁ Bd hml hv
  obtain ⟨rfl, hsz9, hB, hP, hK, hD0, hT⟩ := hv
  have hx := Bd.exec
  have hb := Bd.bytes
  have hr := Bd.returns
  have hts := atoms_spec (ws := wsX2_writeNumber) Bd.pre
  have hg : ∀ w ∈ lw_good, w.before _ s = true := fun w h => hts w (List.mem_cons_of_mem _ h)
  have hown : s.vm.findClass RX2 = some m.cls := findClass_of_methodNamed Bd.named
  have hlocks := Bd.notSynchronized
  subst hsz9
  have hD := hD0.self (sz := s.heap.size)
  generalize hAe : va_A [(o, .inr (2, [.ref os, .int (nI ol)])), (os, .inl (cC, 500, .inl ot))] s.heap.size = A at hD ⊢
  have hA : ∀ q : Nat, s.heap.size ≤ q → A q := fun q h => by rw [← hAe]; exact Or.inr h
  have hAB : ∀ q, A q → B ≤ q := by rw [← hAe]; exact va_A.ge hD0 hB
  have hS : va_S A s.heap s.heap [] := va_S.rf
  have hP : va_P (dC, dI) vwCl [(o, .inr (2, [.ref os, .int (nI ol)])), (os, .inl (cC, 500, .inl ot))] s.heap := hP
  have hl := lv_entry ([.ref o, .int p0]) (n := 2) (Nat.le_of_ble_eq_true rfl)
  rw [lg_entry_eq]
  generalize (lg_sl ([.ref o, .int p0]) ++ List.replicate (2 - (lg_sl ([.ref o, .int p0])).length) Slot.unset).toArray = ls at hl ⊢
  have hl : lv_has ls 2 [(0, .ref o), (1, .int p0)] := hl
  refine lv_iload_n hx hb dX2_writeNumber_0 rfl (lv_at hl 1 rfl) ?_
  refine lv_bipush (v := 10) hx hb dX2_writeNumber_1 (by decide) ?_
  refine lv_icmp_lt (tgt := 18) hx hb dX2_writeNumber_3 (by decide) (fun c_1 => ?_) (fun c_1 => ?_)
  · skip
    refine lv_aload_n hx hb dX2_writeNumber_18 rfl (lv_at hl 0 rfl) ?_
    refine lv_bipush (v := 48) hx hb dX2_writeNumber_19 (by decide) ?_
    refine lv_iload_n hx hb dX2_writeNumber_21 rfl (lv_at hl 1 rfl) ?_
    refine lv_bipush (v := 10) hx hb dX2_writeNumber_22 (by decide) ?_
    refine lv_irem hx hb dX2_writeNumber_24 (by decide) ?_
    refine lv_iadd hx hb dX2_writeNumber_25 ?_
    refine lv_i2c (v := ((48 + (p0 - p0 / 10 * 10)).toUInt32 % 65536).toInt32) hx hb dX2_writeNumber_26 rfl ?_
    refine top_eq (y := k_chr (p0 - p0 / 10 * 10)) rfl ?_
    obtain ⟨ot1_2, ol1_2, hF_2⟩ : ∃ (ot1_2 : Nat → Int32) (ol1_2 : Nat), k_wSign ot ol (k_chr (p0 - p0 / 10 * 10)) = (ot1_2, ol1_2) := ⟨_, _, rfl⟩
    have hq_ol1_2 := k_wSign_le ot ol (k_chr (p0 - p0 / 10 * 10)) (by omega)
    rw [hF_2] at hq_ol1_2
    have hq_ol1_2 : ol1_2 ≤ 500 := hq_ol1_2
    refine go_M (r := none) (wc' := [(o, .inr (2, [.ref os, .int (nI ol1_2)])), (os, .inl (cC, 500, .inl ot1_2))]) (w2 := [(o, .inr (2, [.ref os, .int (nI ol1_2)])), (os, .inl (cC, 500, .inl ot1_2))]) [0, 1] (va_runV (As := [.int (k_chr (p0 - p0 / 10 * 10))]) (rest := []) ⟨hx, hb, hml, hown, hg⟩ (kX2_writeSign l dC dI B cI cC cJ o os ot ol (k_chr (p0 - p0 / 10 * 10)) ot1_2 ol1_2 (by omega) hF_2 _) (cwV 1 hg (gi_V w_419 w_420 w_694 w_7 w_421) rfl rfl rfl (by decide +kernel) ⟨Nat.le_of_ble_eq_true rfl, Nat.le_of_ble_eq_true rfl⟩) (pre_MV (va_recv hK hP (ci := 2) (q0 := 0) rfl rfl) (Nat.le_trans hB hS.1) (hP.sub [0, 1] rfl) hK ((hD.weaken (fun _ _ _ h => hAB _ h)).sub [0, 1] (by decide) rfl) hT) rfl rfl hl.1 rfl (lv_room (Nat.le_of_ble_eq_true rfl)) dX2_writeNumber_27 ⟨Nat.le_of_ble_eq_true rfl, Nat.le_of_ble_eq_true rfl⟩) hP hD hS hA rfl (Nat.le_of_ble_eq_true rfl) rfl rfl (fun H locs hP hD hS => ?_)
    refine W.eq (g2 := F0 m 30 ls []) rfl ?_
    have hP9 := hP
    have hS9 := hS
    have h9 : k_wNum ot ol p0 = (ot1_2, ol1_2) := by simp [k_wNum, c_1, hF_2]
    have h9 := hF.symm.trans h9
    cases h9
    exact W.vret hx hb hr (fun t ht hW => ⟨rfl, by rw [ht]; exact hP9, hS9.F ht⟩) hS9.2.2 dX2_writeNumber_30
  · skip
    refine lv_aload_n hx hb dX2_writeNumber_6 rfl (lv_at hl 0 rfl) ?_
    refine lv_bipush (v := 48) hx hb dX2_writeNumber_7 (by decide) ?_
    refine lv_iload_n hx hb dX2_writeNumber_9 rfl (lv_at hl 1 rfl) ?_
    refine lv_bipush (v := 10) hx hb dX2_writeNumber_10 (by decide) ?_
    refine lv_idiv hx hb dX2_writeNumber_12 (by decide) ?_
    refine lv_iadd hx hb dX2_writeNumber_13 ?_
    refine lv_i2c (v := ((48 + (p0 / 10)).toUInt32 % 65536).toInt32) hx hb dX2_writeNumber_14 rfl ?_
    refine top_eq (y := k_chr (p0 / 10)) rfl ?_
    obtain ⟨ot1_3, ol1_3, hF_3⟩ : ∃ (ot1_3 : Nat → Int32) (ol1_3 : Nat), k_wSign ot ol (k_chr (p0 / 10)) = (ot1_3, ol1_3) := ⟨_, _, rfl⟩
    have hq_ol1_3 := k_wSign_le ot ol (k_chr (p0 / 10)) (by omega)
    rw [hF_3] at hq_ol1_3
    have hq_ol1_3 : ol1_3 ≤ 500 := hq_ol1_3
    refine go_M (r := none) (wc' := [(o, .inr (2, [.ref os, .int (nI ol1_3)])), (os, .inl (cC, 500, .inl ot1_3))]) (w2 := [(o, .inr (2, [.ref os, .int (nI ol1_3)])), (os, .inl (cC, 500, .inl ot1_3))]) [0, 1] (va_runV (As := [.int (k_chr (p0 / 10))]) (rest := []) ⟨hx, hb, hml, hown, hg⟩ (kX2_writeSign l dC dI B cI cC cJ o os ot ol (k_chr (p0 / 10)) ot1_3 ol1_3 (by omega) hF_3 _) (cwV 1 hg (gi_V w_419 w_420 w_694 w_7 w_421) rfl rfl rfl (by decide +kernel) ⟨Nat.le_of_ble_eq_true rfl, Nat.le_of_ble_eq_true rfl⟩) (pre_MV (va_recv hK hP (ci := 2) (q0 := 0) rfl rfl) (Nat.le_trans hB hS.1) (hP.sub [0, 1] rfl) hK ((hD.weaken (fun _ _ _ h => hAB _ h)).sub [0, 1] (by decide) rfl) hT) rfl rfl hl.1 rfl (lv_room (Nat.le_of_ble_eq_true rfl)) dX2_writeNumber_15 ⟨Nat.le_of_ble_eq_true rfl, Nat.le_of_ble_eq_true rfl⟩) hP hD hS hA rfl (Nat.le_of_ble_eq_true rfl) rfl rfl (fun H locs hP hD hS => ?_)
    refine W.eq (g2 := F0 m 18 ls []) rfl ?_
    refine lv_aload_n hx hb dX2_writeNumber_18 rfl (lv_at hl 0 rfl) ?_
    refine lv_bipush (v := 48) hx hb dX2_writeNumber_19 (by decide) ?_
    refine lv_iload_n hx hb dX2_writeNumber_21 rfl (lv_at hl 1 rfl) ?_
    refine lv_bipush (v := 10) hx hb dX2_writeNumber_22 (by decide) ?_
    refine lv_irem hx hb dX2_writeNumber_24 (by decide) ?_
    refine lv_iadd hx hb dX2_writeNumber_25 ?_
    refine lv_i2c (v := ((48 + (p0 - p0 / 10 * 10)).toUInt32 % 65536).toInt32) hx hb dX2_writeNumber_26 rfl ?_
    refine top_eq (y := k_chr (p0 - p0 / 10 * 10)) rfl ?_
    obtain ⟨ot1_4, ol1_4, hF_4⟩ : ∃ (ot1_4 : Nat → Int32) (ol1_4 : Nat), k_wSign ot1_3 ol1_3 (k_chr (p0 - p0 / 10 * 10)) = (ot1_4, ol1_4) := ⟨_, _, rfl⟩
    have hq_ol1_4 := k_wSign_le ot1_3 ol1_3 (k_chr (p0 - p0 / 10 * 10)) (by omega)
    rw [hF_4] at hq_ol1_4
    have hq_ol1_4 : ol1_4 ≤ 500 := hq_ol1_4
    refine go_M (r := none) (wc' := [(o, .inr (2, [.ref os, .int (nI ol1_4)])), (os, .inl (cC, 500, .inl ot1_4))]) (w2 := [(o, .inr (2, [.ref os, .int (nI ol1_4)])), (os, .inl (cC, 500, .inl ot1_4))]) [0, 1] (va_runV (As := [.int (k_chr (p0 - p0 / 10 * 10))]) (rest := []) ⟨hx, hb, hml, hown, hg⟩ (kX2_writeSign l dC dI B cI cC cJ o os ot1_3 ol1_3 (k_chr (p0 - p0 / 10 * 10)) ot1_4 ol1_4 (by omega) hF_4 _) (cwV 1 hg (gi_V w_419 w_420 w_694 w_7 w_421) rfl rfl rfl (by decide +kernel) ⟨Nat.le_of_ble_eq_true rfl, Nat.le_of_ble_eq_true rfl⟩) (pre_MV (va_recv hK hP (ci := 2) (q0 := 0) rfl rfl) (Nat.le_trans hB hS.1) (hP.sub [0, 1] rfl) hK ((hD.weaken (fun _ _ _ h => hAB _ h)).sub [0, 1] (by decide) rfl) (hT.kept (hS.mono hAB))) rfl rfl hl.1 rfl (lv_room (Nat.le_of_ble_eq_true rfl)) dX2_writeNumber_27 ⟨Nat.le_of_ble_eq_true rfl, Nat.le_of_ble_eq_true rfl⟩) hP hD hS hA rfl (Nat.le_of_ble_eq_true rfl) rfl rfl (fun H locs hP hD hS => ?_)
    refine W.eq (g2 := F0 m 30 ls []) rfl ?_
    have hP9 := hP
    have hS9 := hS
    have h9 : k_wNum ot ol p0 = (ot1_4, ol1_4) := by simp [k_wNum, c_1, hF_3, hF_4]
    have h9 := hF.symm.trans h9
    cases h9
    exact W.vret hx hb hr (fun t ht hW => ⟨rfl, by rw [ht]; exact hP9, hS9.F ht⟩) hS9.2.2 dX2_writeNumber_30
set_option maxHeartbeats 4000000 in
set_option maxRecDepth 100000 in
theorem kX2_writeRow (l : Launch) (dC : Nat → ClassId) (dI : Nat → Nat → Nat) (B : Nat) (cI cC cJ : ClassId) (o : Nat) (os : Nat) (ot : Nat → Int32) (ol : Nat) (h : Nat) (hk : Nat) (hn : Nat) (hu : Nat) (ks : Nat → Int32) (ns : Nat → Int32) (us : Nat → Int32) (sz : Nat) (p1 : Int32) (ot1 : Nat → Int32) (ol1 : Nat) (hol : ol ≤ 500) (hsz : sz ≤ 50) (hF : k_wRow ks ns us sz p1 ot ol = (ot1, ol1)) (sz9 : Nat) : Met l yX2_writeRow wsX2_writeRow ({ frames := 2, cells := 0, slots := 0, locals := 42 }) (q_Mp (dC, dI) vwCl [.ref o, .ref h, .int p1] [(o, .inr (2, [.ref os, .int (nI ol)])), (os, .inl (cC, 500, .inl ot)), (h, .inr (1, [.ref hk, .ref hn, .ref hu, .int (nI sz)])), (hk, .inl (cI, 50, .inl ks)), (hn, .inl (cI, 50, .inl ns)), (hu, .inl (cI, 200, .inl us))] [(cI, .int), (cC, .char), (cJ, .long)] B sz9) (q_Mq (dC, dI) vwCl [(o, .inr (2, [.ref os, .int (nI ol1)])), (os, .inl (cC, 500, .inl ot1)), (h, .inr (1, [.ref hk, .ref hn, .ref hu, .int (nI sz)])), (hk, .inl (cI, 50, .inl ks)), (hn, .inl (cI, 50, .inl ns)), (hu, .inl (cI, 200, .inl us))] (va_A [(o, .inr (2, [.ref os, .int (nI ol)])), (os, .inl (cC, 500, .inl ot)), (h, .inr (1, [.ref hk, .ref hn, .ref hu, .int (nI sz)])), (hk, .inl (cI, 50, .inl ks)), (hn, .inl (cI, 50, .inl ns)), (hu, .inl (cI, 200, .inl us))] sz9) none) 0 0 (va_A [(o, .inr (2, [.ref os, .int (nI ol)])), (os, .inl (cC, 500, .inl ot)), (h, .inr (1, [.ref hk, .ref hn, .ref hu, .int (nI sz)])), (hk, .inl (cI, 50, .inl ks)), (hn, .inl (cI, 50, .inl ns)), (hu, .inl (cI, 200, .inl us))] sz9) := by
  refine Met.ofW (cc := cX2_writeRow) (maxL := 6) (ret := none) (by decide) rfl ?_
  intro p e s m args below meth c s₁ Bd hml hv
  obtain ⟨rfl, hsz9, hB, hP, hK, hD0, hT⟩ := hv
  have hx := Bd.exec
  have hb := Bd.bytes
  have hr := Bd.returns
  have hts := atoms_spec (ws := wsX2_writeRow) Bd.pre
  have hg : ∀ w ∈ lw_good, w.before _ s = true := fun w h => hts w (List.mem_cons_of_mem _ h)
  have hown : s.vm.findClass RX2 = some m.cls := findClass_of_methodNamed Bd.named
  have hlocks := Bd.notSynchronized
  subst hsz9
  have hD := hD0.self (sz := s.heap.size)
  generalize hAe : va_A [(o, .inr (2, [.ref os, .int (nI ol)])), (os, .inl (cC, 500, .inl ot)), (h, .inr (1, [.ref hk, .ref hn, .ref hu, .int (nI sz)])), (hk, .inl (cI, 50, .inl ks)), (hn, .inl (cI, 50, .inl ns)), (hu, .inl (cI, 200, .inl us))] s.heap.size = A at hD ⊢
  have hA : ∀ q : Nat, s.heap.size ≤ q → A q := fun q h => by rw [← hAe]; exact Or.inr h
  have hAB : ∀ q, A q → B ≤ q := by rw [← hAe]; exact va_A.ge hD0 hB
  have hS : va_S A s.heap s.heap [] := va_S.rf
  have hP : va_P (dC, dI) vwCl [(o, .inr (2, [.ref os, .int (nI ol)])), (os, .inl (cC, 500, .inl ot)), (h, .inr (1, [.ref hk, .ref hn, .ref hu, .int (nI sz)])), (hk, .inl (cI, 50, .inl ks)), (hn, .inl (cI, 50, .inl ns)), (hu, .inl (cI, 200, .inl us))] s.heap := hP
  have hT9 := hT.1
  obtain ⟨tL, tN, tA, tZ, zL, aL, zN, aN, zA, aA, zZ, aZ⟩ := hT9
  have hl := lv_entry ([.ref o, .ref h, .int p1]) (n := 6) (Nat.le_of_ble_eq_true rfl)
  rw [lg_entry_eq]
  generalize (lg_sl ([.ref o, .ref h, .int p1]) ++ List.replicate (6 - (lg_sl ([.ref o, .ref h, .int p1])).length) Slot.unset).toArray = ls at hl ⊢
  have hl : lv_has ls 6 [(0, .ref o), (1, .ref h), (2, .int p1)] := hl
  refine lv_aload_n hx hb dX2_writeRow_0 rfl (lv_at hl 1 rfl) ?_
  refine lv_iload_n hx hb dX2_writeRow_1 rfl (lv_at hl 2 rfl) ?_
  refine go_R (r := k_get ks sz p1) (va_runV (As := [.int p1]) (rest := []) ⟨hx, hb, hml, hown, hg⟩ (kX1_kindOf l dC dI B cI cC cJ h hk hn hu ks ns us sz p1 (by omega)) (cwV 1 hg (gi_V w_418 w_206 w_207 w_4 w_208) rfl rfl rfl (by decide +kernel) ⟨Nat.le_of_ble_eq_true rfl, Nat.le_of_ble_eq_true rfl⟩) (pre_RV (va_recv hK hP (ci := 1) (q0 := 2) rfl rfl) (hP.sub [2, 3, 4, 5] rfl) hK hT) rfl rfl hl.1 rfl (lv_room (Nat.le_of_ble_eq_true rfl)) dX2_writeRow_2 ⟨Nat.le_of_ble_eq_true rfl, Nat.le_of_ble_eq_true rfl⟩) ?_
  refine lv_istore_n (lv' := [(3, .int (k_get ks sz p1)), (0, .ref o), (1, .ref h), (2, .int p1)]) hx hb dX2_writeRow_5 rfl hl (by decide) rfl (fun ls hl => ?_)
  refine lv_iload_n hx hb dX2_writeRow_6 rfl (lv_at hl 0 rfl) ?_
  refine go_R (r := (bI (k_isKind (k_get ks sz p1)))) (va_runSN (As := [.int (k_get ks sz p1)]) (rest := []) ⟨hx, hb, hml, hown, hg⟩ (kX5_isKind l dC dI B cI cC cJ (k_get ks sz p1)) ⟨va_cnB 1 hg (gi_N w_213) rfl rfl rfl (st_B.nM hT (q := ("HarbourText$Printout", 39, yX5_isKind)) (List.mem_of_getElem? (i := 11) rfl)) (hg _ w_2) (by decide +kernel) ⟨Nat.le_of_ble_eq_true rfl, Nat.le_of_ble_eq_true rfl⟩, hg _ w_212, trivial⟩ (pre_RS (hP.sub [] rfl) hK hT) rfl rfl hl.1 rfl (lv_room (Nat.le_of_ble_eq_true rfl)) dX2_writeRow_7 ⟨Nat.le_of_ble_eq_true rfl, Nat.le_of_ble_eq_true rfl⟩) ?_
  refine lv_if_ne (tgt := 14) hx hb dX2_writeRow_10 (by decide) (fun c_1 => ?_) (fun c_1 => ?_)
  · skip
    have c_1 := bI_ne0 c_1
    refine lv_aload_n hx hb dX2_writeRow_14 rfl (lv_at hl 1 rfl) ?_
    refine va_getsN hx hb zL (hS.mono hAB) hown ((st_B.nF hT (q := ("HarbourText$Printout", 43, "HarbourText", "LETTERS", "[C")) (List.mem_of_getElem? (i := 3) rfl)).use rfl) (fun _ h9 => h9) dX2_writeRow_15 ?_
    refine lv_iload_n hx hb dX2_writeRow_18 rfl (lv_at hl 0 rfl) ?_
    refine va_tc (i := k_get ks sz p1) (v := .int (k_tabL (k_get ks sz p1).toNatClampNeg)) hx hb aL (hS.mono hAB) (kind_in c_1) rfl dX2_writeRow_19 ?_
    obtain ⟨ot1_2, ol1_2, hF_2⟩ : ∃ (ot1_2 : Nat → Int32) (ol1_2 : Nat), k_wSign ot ol (k_tabL (k_get ks sz p1).toNatClampNeg) = (ot1_2, ol1_2) := ⟨_, _, rfl⟩
    have hq_ol1_2 := k_wSign_le ot ol (k_tabL (k_get ks sz p1).toNatClampNeg) (by omega)
    rw [hF_2] at hq_ol1_2
    have hq_ol1_2 : ol1_2 ≤ 500 := hq_ol1_2
    refine go_M (r := none) (wc' := [(o, .inr (2, [.ref os, .int (nI ol1_2)])), (os, .inl (cC, 500, .inl ot1_2))]) (w2 := [(o, .inr (2, [.ref os, .int (nI ol1_2)])), (os, .inl (cC, 500, .inl ot1_2)), (h, .inr (1, [.ref hk, .ref hn, .ref hu, .int (nI sz)])), (hk, .inl (cI, 50, .inl ks)), (hn, .inl (cI, 50, .inl ns)), (hu, .inl (cI, 200, .inl us))]) [0, 1] (va_runV (As := [.int (k_tabL (k_get ks sz p1).toNatClampNeg)]) (rest := []) ⟨hx, hb, hml, hown, hg⟩ (kX2_writeSign l dC dI B cI cC cJ o os ot ol (k_tabL (k_get ks sz p1).toNatClampNeg) ot1_2 ol1_2 (by omega) hF_2 _) (cwV 1 hg (gi_V w_419 w_420 w_694 w_7 w_421) rfl rfl rfl (by decide +kernel) ⟨Nat.le_of_ble_eq_true rfl, Nat.le_of_ble_eq_true rfl⟩) (pre_MV (va_recv hK hP (ci := 2) (q0 := 0) rfl rfl) (Nat.le_trans hB hS.1) (hP.sub [0, 1] rfl) hK ((hD.weaken (fun _ _ _ h => hAB _ h)).sub [0, 1] (by decide) rfl) hT) rfl rfl hl.1 rfl (lv_room (Nat.le_of_ble_eq_true rfl)) dX2_writeRow_20 ⟨Nat.le_of_ble_eq_true rfl, Nat.le_of_ble_eq_true rfl⟩) hP hD hS hA rfl (Nat.le_of_ble_eq_true rfl) rfl rfl (fun H locs hP hD hS => ?_)
    refine W.eq (g2 := F0 m 23 ls []) rfl ?_
    refine lv_aload_n hx hb dX2_writeRow_23 rfl (lv_at hl 1 rfl) ?_
    refine lv_aload_n hx hb dX2_writeRow_24 rfl (lv_at hl 2 rfl) ?_
    refine lv_iload_n hx hb dX2_writeRow_25 rfl (lv_at hl 3 rfl) ?_
    refine go_R (r := k_get ns sz p1) (va_runV (As := [.int p1]) (rest := [.ref o]) ⟨hx, hb, hml, hown, hg⟩ (kX1_nameOf l dC dI B cI cC cJ h hk hn hu ks ns us sz p1 (by omega)) (cwV 1 hg (gi_V w_422 w_412 w_413 w_4 w_414) rfl rfl rfl (by decide +kernel) ⟨Nat.le_of_ble_eq_true rfl, Nat.le_of_ble_eq_true rfl⟩) (pre_RV (va_recv hK hP (ci := 1) (q0 := 2) rfl rfl) (hP.sub [2, 3, 4, 5] rfl) hK (hT.kept (hS.mono hAB))) rfl rfl hl.1 rfl (lv_room (Nat.le_of_ble_eq_true rfl)) dX2_writeRow_26 ⟨Nat.le_of_ble_eq_true rfl, Nat.le_of_ble_eq_true rfl⟩) ?_
    obtain ⟨ot1_3, ol1_3, hF_3⟩ : ∃ (ot1_3 : Nat → Int32) (ol1_3 : Nat), k_wNum ot1_2 ol1_2 (k_get ns sz p1) = (ot1_3, ol1_3) := ⟨_, _, rfl⟩
    have hq_ol1_3 := k_wNum_le ot1_2 ol1_2 (k_get ns sz p1) (by omega)
    rw [hF_3] at hq_ol1_3
    have hq_ol1_3 : ol1_3 ≤ 500 := hq_ol1_3
    refine go_M (r := none) (wc' := [(o, .inr (2, [.ref os, .int (nI ol1_3)])), (os, .inl (cC, 500, .inl ot1_3))]) (w2 := [(o, .inr (2, [.ref os, .int (nI ol1_3)])), (os, .inl (cC, 500, .inl ot1_3)), (h, .inr (1, [.ref hk, .ref hn, .ref hu, .int (nI sz)])), (hk, .inl (cI, 50, .inl ks)), (hn, .inl (cI, 50, .inl ns)), (hu, .inl (cI, 200, .inl us))]) [0, 1] (va_runV (As := [.int (k_get ns sz p1)]) (rest := []) ⟨hx, hb, hml, hown, hg⟩ (kX2_writeNumber l dC dI B cI cC cJ o os ot1_2 ol1_2 (k_get ns sz p1) ot1_3 ol1_3 (by omega) hF_3 _) (cwV 1 hg (gi_V w_423 w_424 w_695 w_7 w_425) rfl rfl rfl (by decide +kernel) ⟨Nat.le_of_ble_eq_true rfl, Nat.le_of_ble_eq_true rfl⟩) (pre_MV (va_recv hK hP (ci := 2) (q0 := 0) rfl rfl) (Nat.le_trans hB hS.1) (hP.sub [0, 1] rfl) hK ((hD.weaken (fun _ _ _ h => hAB _ h)).sub [0, 1] (by decide) rfl) (hT.kept (hS.mono hAB))) rfl rfl hl.1 rfl (lv_room (Nat.le_of_ble_eq_true rfl)) dX2_writeRow_29 ⟨Nat.le_of_ble_eq_true rfl, Nat.le_of_ble_eq_true rfl⟩) hP hD hS hA rfl (Nat.le_of_ble_eq_true rfl) rfl rfl (fun H locs hP hD hS => ?_)
    refine W.eq (g2 := F0 m 32 ls []) rfl ?_
    refine lv_iload_n hx hb dX2_writeRow_32 rfl (lv_at hl 0 rfl) ?_
    refine go_R (r := (nI (k_nK (k_get ks sz p1)))) (va_runSN (As := [.int (k_get ks sz p1)]) (rest := []) ⟨hx, hb, hml, hown, hg⟩ (kX5_numbersOfKind l dC dI B cI cC cJ (k_get ks sz p1)) ⟨va_cnB 1 hg (gi_N w_210) rfl rfl rfl (st_B.nM hT (q := ("HarbourText$Printout", 57, yX5_numbersOfKind)) (List.mem_of_getElem? (i := 12) rfl)) (hg _ w_2) (by decide +kernel) ⟨Nat.le_of_ble_eq_true rfl, Nat.le_of_ble_eq_true rfl⟩, hg _ w_209, trivial⟩ (pre_RS (hP.sub [] rfl) hK (hT.kept (hS.mono hAB))) rfl rfl hl.1 rfl (lv_room (Nat.le_of_ble_eq_true rfl)) dX2_writeRow_33 ⟨Nat.le_of_ble_eq_true rfl, Nat.le_of_ble_eq_true rfl⟩) ?_
    have hm4 := k_nK_le (k_get ks sz p1)
    refine lv_istore (lv' := [(4, .int (nI (k_nK (k_get ks sz p1)))), (3, .int (k_get ks sz p1)), (0, .ref o), (1, .ref h), (2, .int p1)]) hx hb dX2_writeRow_36 hl (by decide) rfl (fun ls hl => ?_)
    refine lv_iconst (v := 0) hx hb dX2_writeRow_38 (by decide) ?_
    refine lv_istore (lv' := [(5, .int 0), (4, .int (nI (k_nK (k_get ks sz p1)))), (3, .int (k_get ks sz p1)), (0, .ref o), (1, .ref h), (2, .int p1)]) hx hb dX2_writeRow_39 hl (by decide) rfl (fun ls hl => ?_)
    refine loop_M (σ := Nat × (Nat → Int32) × Nat) (fun n x H locs ls => (k_nK (k_get ks sz p1)) - x.1 < n ∧ x.1 ≤ (k_nK (k_get ks sz p1)) ∧ x.2.2 ≤ 500 ∧ k_wRow ks ns us sz p1 ot ol = k_wNums us sz p1 (k_nK (k_get ks sz p1)) x.1 x.2.1 x.2.2 ∧ va_P (dC, dI) vwCl [(o, .inr (2, [.ref os, .int (nI x.2.2)])), (os, .inl (cC, 500, .inl x.2.1)), (h, .inr (1, [.ref hk, .ref hn, .ref hu, .int (nI sz)])), (hk, .inl (cI, 50, .inl ks)), (hn, .inl (cI, 50, .inl ns)), (hu, .inl (cI, 200, .inl us))] H ∧ va_D A [(o, .inr (2, [.ref os, .int (nI x.2.2)])), (os, .inl (cC, 500, .inl x.2.1)), (h, .inr (1, [.ref hk, .ref hn, .ref hu, .int (nI sz)])), (hk, .inl (cI, 50, .inl ks)), (hn, .inl (cI, 50, .inl ns)), (hu, .inl (cI, 200, .inl us))] ∧ va_S A s.heap H locs ∧ lv_has ls 6 [(0, .ref o), (1, .ref h), (2, .int p1), (3, .int (k_get ks sz p1)), (4, .int (nI (k_nK (k_get ks sz p1)))), (5, .int (nI x.1))]) (fun n x H locs ls ih_4 hI => ?_) (fun x H locs ls hI => ?_) (n := ((k_nK (k_get ks sz p1)) - 0) + 1) (x := (0, ot1_3, ol1_3)) ⟨(Nat.lt_succ_self _), (by (try dsimp only); omega), (by (try dsimp only); omega), (by simp [k_wRow, c_1, hF_2, hF_3]), hP, hD, hS, lv_sub hl [3, 4, 5, 2, 1, 0] rfl⟩
    · skip
      obtain ⟨k, otx, olx⟩ := x
      obtain ⟨hfu, hk0, hox, he, hP, hD, hS, hl⟩ := hI
      have hfu : (k_nK (k_get ks sz p1)) - k < n + 1 := hfu
      have hk0 : k ≤ (k_nK (k_get ks sz p1)) := hk0
      have hox : olx ≤ 500 := hox
      have he : k_wRow ks ns us sz p1 ot ol = k_wNums us sz p1 (k_nK (k_get ks sz p1)) k otx olx := he
      have hP : va_P (dC, dI) vwCl [(o, .inr (2, [.ref os, .int (nI olx)])), (os, .inl (cC, 500, .inl otx)), (h, .inr (1, [.ref hk, .ref hn, .ref hu, .int (nI sz)])), (hk, .inl (cI, 50, .inl ks)), (hn, .inl (cI, 50, .inl ns)), (hu, .inl (cI, 200, .inl us))] H := hP
      have hD : va_D A [(o, .inr (2, [.ref os, .int (nI olx)])), (os, .inl (cC, 500, .inl otx)), (h, .inr (1, [.ref hk, .ref hn, .ref hu, .int (nI sz)])), (hk, .inl (cI, 50, .inl ks)), (hn, .inl (cI, 50, .inl ns)), (hu, .inl (cI, 200, .inl us))] := hD
      have hl : lv_has ls 6 [(0, .ref o), (1, .ref h), (2, .int p1), (3, .int (k_get ks sz p1)), (4, .int (nI (k_nK (k_get ks sz p1)))), (5, .int (nI k))] := hl
      have hm4 := k_nK_le (k_get ks sz p1)
      refine lv_iload hx hb dX2_writeRow_41 (lv_at hl 5 rfl) ?_
      refine lv_iload hx hb dX2_writeRow_43 (lv_at hl 4 rfl) ?_
      refine lv_icmp_ge (tgt := 81) hx hb dX2_writeRow_45 (by decide) (fun c_5 => ?_) (fun c_5 => ?_)
      · skip
        have c_5 := na_le (a := k_nK (k_get ks sz p1)) (b := k) c_5 (by omega) (by omega)
        refine lv_aload_n hx hb dX2_writeRow_81 rfl (lv_at hl 0 rfl) ?_
        refine lv_bipush (v := 59) hx hb dX2_writeRow_82 (by decide) ?_
        obtain ⟨ot1_6, ol1_6, hF_6⟩ : ∃ (ot1_6 : Nat → Int32) (ol1_6 : Nat), k_wSign otx olx 59 = (ot1_6, ol1_6) := ⟨_, _, rfl⟩
        have hq_ol1_6 := k_wSign_le otx olx 59 (by omega)
        rw [hF_6] at hq_ol1_6
        have hq_ol1_6 : ol1_6 ≤ 500 := hq_ol1_6
        refine go_M (r := none) (wc' := [(o, .inr (2, [.ref os, .int (nI ol1_6)])), (os, .inl (cC, 500, .inl ot1_6))]) (w2 := [(o, .inr (2, [.ref os, .int (nI ol1_6)])), (os, .inl (cC, 500, .inl ot1_6)), (h, .inr (1, [.ref hk, .ref hn, .ref hu, .int (nI sz)])), (hk, .inl (cI, 50, .inl ks)), (hn, .inl (cI, 50, .inl ns)), (hu, .inl (cI, 200, .inl us))]) [0, 1] (va_runV (As := [.int 59]) (rest := []) ⟨hx, hb, hml, hown, hg⟩ (kX2_writeSign l dC dI B cI cC cJ o os otx olx 59 ot1_6 ol1_6 (by omega) hF_6 _) (cwV 1 hg (gi_V w_419 w_420 w_694 w_7 w_421) rfl rfl rfl (by decide +kernel) ⟨Nat.le_of_ble_eq_true rfl, Nat.le_of_ble_eq_true rfl⟩) (pre_MV (va_recv hK hP (ci := 2) (q0 := 0) rfl rfl) (Nat.le_trans hB hS.1) (hP.sub [0, 1] rfl) hK ((hD.weaken (fun _ _ _ h => hAB _ h)).sub [0, 1] (by decide) rfl) (hT.kept (hS.mono hAB))) rfl rfl hl.1 rfl (lv_room (Nat.le_of_ble_eq_true rfl)) dX2_writeRow_84 ⟨Nat.le_of_ble_eq_true rfl, Nat.le_of_ble_eq_true rfl⟩) hP hD hS hA rfl (Nat.le_of_ble_eq_true rfl) rfl rfl (fun H locs hP hD hS => ?_)
        refine W.eq (g2 := F0 m 87 ls []) rfl ?_
        have hP9 := hP
        have hS9 := hS
        have h9 : k_wRow ks ns us sz p1 ot ol = (ot1_6, ol1_6) := by rw [he, k_wNums]; simp [c_5, hF_6]
        have h9 := hF.symm.trans h9
        cases h9
        exact W.vret hx hb hr (fun t ht hW => ⟨rfl, by rw [ht]; exact hP9, hS9.F ht⟩) hS9.2.2 dX2_writeRow_87
      · skip
        have c_5 := na_nle (a := k_nK (k_get ks sz p1)) (b := k) c_5 (by omega) (by omega)
        refine lv_aload_n hx hb dX2_writeRow_48 rfl (lv_at hl 0 rfl) ?_
        refine lv_iload hx hb dX2_writeRow_49 (lv_at hl 5 rfl) ?_
        refine lv_if_ne (tgt := 59) hx hb dX2_writeRow_51 (by decide) (fun c_7 => ?_) (fun c_7 => ?_)
        · skip
          have c_7 := na_ne (a := k) (b := 0) c_7 (by omega) (by omega)
          refine lv_bipush (v := 44) hx hb dX2_writeRow_59 (by decide) ?_
          obtain ⟨ot1_8, ol1_8, hF_8⟩ : ∃ (ot1_8 : Nat → Int32) (ol1_8 : Nat), k_wSign otx olx 44 = (ot1_8, ol1_8) := ⟨_, _, rfl⟩
          have hq_ol1_8 := k_wSign_le otx olx 44 (by omega)
          rw [hF_8] at hq_ol1_8
          have hq_ol1_8 : ol1_8 ≤ 500 := hq_ol1_8
          refine go_M (r := none) (wc' := [(o, .inr (2, [.ref os, .int (nI ol1_8)])), (os, .inl (cC, 500, .inl ot1_8))]) (w2 := [(o, .inr (2, [.ref os, .int (nI ol1_8)])), (os, .inl (cC, 500, .inl ot1_8)), (h, .inr (1, [.ref hk, .ref hn, .ref hu, .int (nI sz)])), (hk, .inl (cI, 50, .inl ks)), (hn, .inl (cI, 50, .inl ns)), (hu, .inl (cI, 200, .inl us))]) [0, 1] (va_runV (As := [.int 44]) (rest := []) ⟨hx, hb, hml, hown, hg⟩ (kX2_writeSign l dC dI B cI cC cJ o os otx olx 44 ot1_8 ol1_8 (by omega) hF_8 _) (cwV 1 hg (gi_V w_419 w_420 w_694 w_7 w_421) rfl rfl rfl (by decide +kernel) ⟨Nat.le_of_ble_eq_true rfl, Nat.le_of_ble_eq_true rfl⟩) (pre_MV (va_recv hK hP (ci := 2) (q0 := 0) rfl rfl) (Nat.le_trans hB hS.1) (hP.sub [0, 1] rfl) hK ((hD.weaken (fun _ _ _ h => hAB _ h)).sub [0, 1] (by decide) rfl) (hT.kept (hS.mono hAB))) rfl rfl hl.1 rfl (lv_room (Nat.le_of_ble_eq_true rfl)) dX2_writeRow_61 ⟨Nat.le_of_ble_eq_true rfl, Nat.le_of_ble_eq_true rfl⟩) hP hD hS hA rfl (Nat.le_of_ble_eq_true rfl) rfl rfl (fun H locs hP hD hS => ?_)
          refine W.eq (g2 := F0 m 64 ls []) rfl ?_
          refine lv_aload_n hx hb dX2_writeRow_64 rfl (lv_at hl 0 rfl) ?_
          refine lv_aload_n hx hb dX2_writeRow_65 rfl (lv_at hl 1 rfl) ?_
          refine lv_iload_n hx hb dX2_writeRow_66 rfl (lv_at hl 2 rfl) ?_
          refine lv_iload hx hb dX2_writeRow_67 (lv_at hl 5 rfl) ?_
          refine go_R (r := k_num us sz p1 (nI k)) (va_runV (As := [.int p1, .int (nI k)]) (rest := [.ref o]) ⟨hx, hb, hml, hown, hg⟩ (kX1_numberOf l dC dI B cI cC cJ h hk hn hu ks ns us sz p1 (nI k) (by omega)) (cwV 2 hg (gi_V w_426 w_216 w_217 w_4 w_218) rfl rfl rfl (by decide +kernel) ⟨Nat.le_of_ble_eq_true rfl, Nat.le_of_ble_eq_true rfl⟩) (pre_RV (va_recv hK hP (ci := 1) (q0 := 2) rfl rfl) (hP.sub [2, 3, 4, 5] rfl) hK (hT.kept (hS.mono hAB))) rfl rfl hl.1 rfl (lv_room (Nat.le_of_ble_eq_true rfl)) dX2_writeRow_69 ⟨Nat.le_of_ble_eq_true rfl, Nat.le_of_ble_eq_true rfl⟩) ?_
          obtain ⟨ot1_9, ol1_9, hF_9⟩ : ∃ (ot1_9 : Nat → Int32) (ol1_9 : Nat), k_wNum ot1_8 ol1_8 (k_num us sz p1 (nI k)) = (ot1_9, ol1_9) := ⟨_, _, rfl⟩
          have hq_ol1_9 := k_wNum_le ot1_8 ol1_8 (k_num us sz p1 (nI k)) (by omega)
          rw [hF_9] at hq_ol1_9
          have hq_ol1_9 : ol1_9 ≤ 500 := hq_ol1_9
          refine go_M (r := none) (wc' := [(o, .inr (2, [.ref os, .int (nI ol1_9)])), (os, .inl (cC, 500, .inl ot1_9))]) (w2 := [(o, .inr (2, [.ref os, .int (nI ol1_9)])), (os, .inl (cC, 500, .inl ot1_9)), (h, .inr (1, [.ref hk, .ref hn, .ref hu, .int (nI sz)])), (hk, .inl (cI, 50, .inl ks)), (hn, .inl (cI, 50, .inl ns)), (hu, .inl (cI, 200, .inl us))]) [0, 1] (va_runV (As := [.int (k_num us sz p1 (nI k))]) (rest := []) ⟨hx, hb, hml, hown, hg⟩ (kX2_writeNumber l dC dI B cI cC cJ o os ot1_8 ol1_8 (k_num us sz p1 (nI k)) ot1_9 ol1_9 (by omega) hF_9 _) (cwV 1 hg (gi_V w_423 w_424 w_695 w_7 w_425) rfl rfl rfl (by decide +kernel) ⟨Nat.le_of_ble_eq_true rfl, Nat.le_of_ble_eq_true rfl⟩) (pre_MV (va_recv hK hP (ci := 2) (q0 := 0) rfl rfl) (Nat.le_trans hB hS.1) (hP.sub [0, 1] rfl) hK ((hD.weaken (fun _ _ _ h => hAB _ h)).sub [0, 1] (by decide) rfl) (hT.kept (hS.mono hAB))) rfl rfl hl.1 rfl (lv_room (Nat.le_of_ble_eq_true rfl)) dX2_writeRow_72 ⟨Nat.le_of_ble_eq_true rfl, Nat.le_of_ble_eq_true rfl⟩) hP hD hS hA rfl (Nat.le_of_ble_eq_true rfl) rfl rfl (fun H locs hP hD hS => ?_)
          refine W.eq (g2 := F0 m 75 ls []) rfl ?_
          refine lv_iinc (v := (nI (k + 1))) (lv' := [(5, .int (nI (k + 1))), (0, .ref o), (1, .ref h), (2, .int p1), (3, .int (k_get ks sz p1)), (4, .int (nI (k_nK (k_get ks sz p1))))]) hx hb dX2_writeRow_75 hl (k := 5) rfl (by rw [← nI_add]; rfl) (by decide) rfl (fun ls hl => ?_)
          refine lv_goto (tgt := 41) hx hb dX2_writeRow_78 (by decide) ?_
          exact ih_4 (k + 1, ot1_9, ol1_9) _ _ _ ⟨(by (try dsimp only); omega), (by (try dsimp only); omega), (by (try dsimp only); omega), (by (try dsimp only); rw [he, k_wNums]; simp [c_5, c_7, hF_8, hF_9]), hP, hD, hS, lv_sub hl [1, 2, 3, 4, 5, 0] rfl⟩
        · skip
          have c_7 := na_eq (a := k) (b := 0) c_7 (by omega) (by omega)
          refine lv_bipush (v := 61) hx hb dX2_writeRow_54 (by decide) ?_
          refine lv_goto (tgt := 61) hx hb dX2_writeRow_56 (by decide) ?_
          obtain ⟨ot1_10, ol1_10, hF_10⟩ : ∃ (ot1_10 : Nat → Int32) (ol1_10 : Nat), k_wSign otx olx 61 = (ot1_10, ol1_10) := ⟨_, _, rfl⟩
          have hq_ol1_10 := k_wSign_le otx olx 61 (by omega)
          rw [hF_10] at hq_ol1_10
          have hq_ol1_10 : ol1_10 ≤ 500 := hq_ol1_10
          refine go_M (r := none) (wc' := [(o, .inr (2, [.ref os, .int (nI ol1_10)])), (os, .inl (cC, 500, .inl ot1_10))]) (w2 := [(o, .inr (2, [.ref os, .int (nI ol1_10)])), (os, .inl (cC, 500, .inl ot1_10)), (h, .inr (1, [.ref hk, .ref hn, .ref hu, .int (nI sz)])), (hk, .inl (cI, 50, .inl ks)), (hn, .inl (cI, 50, .inl ns)), (hu, .inl (cI, 200, .inl us))]) [0, 1] (va_runV (As := [.int 61]) (rest := []) ⟨hx, hb, hml, hown, hg⟩ (kX2_writeSign l dC dI B cI cC cJ o os otx olx 61 ot1_10 ol1_10 (by omega) hF_10 _) (cwV 1 hg (gi_V w_419 w_420 w_694 w_7 w_421) rfl rfl rfl (by decide +kernel) ⟨Nat.le_of_ble_eq_true rfl, Nat.le_of_ble_eq_true rfl⟩) (pre_MV (va_recv hK hP (ci := 2) (q0 := 0) rfl rfl) (Nat.le_trans hB hS.1) (hP.sub [0, 1] rfl) hK ((hD.weaken (fun _ _ _ h => hAB _ h)).sub [0, 1] (by decide) rfl) (hT.kept (hS.mono hAB))) rfl rfl hl.1 rfl (lv_room (Nat.le_of_ble_eq_true rfl)) dX2_writeRow_61 ⟨Nat.le_of_ble_eq_true rfl, Nat.le_of_ble_eq_true rfl⟩) hP hD hS hA rfl (Nat.le_of_ble_eq_true rfl) rfl rfl (fun H locs hP hD hS => ?_)
          refine W.eq (g2 := F0 m 64 ls []) rfl ?_
          refine lv_aload_n hx hb dX2_writeRow_64 rfl (lv_at hl 0 rfl) ?_
          refine lv_aload_n hx hb dX2_writeRow_65 rfl (lv_at hl 1 rfl) ?_
          refine lv_iload_n hx hb dX2_writeRow_66 rfl (lv_at hl 2 rfl) ?_
          refine lv_iload hx hb dX2_writeRow_67 (lv_at hl 5 rfl) ?_
          refine go_R (r := k_num us sz p1 (nI k)) (va_runV (As := [.int p1, .int (nI k)]) (rest := [.ref o]) ⟨hx, hb, hml, hown, hg⟩ (kX1_numberOf l dC dI B cI cC cJ h hk hn hu ks ns us sz p1 (nI k) (by omega)) (cwV 2 hg (gi_V w_426 w_216 w_217 w_4 w_218) rfl rfl rfl (by decide +kernel) ⟨Nat.le_of_ble_eq_true rfl, Nat.le_of_ble_eq_true rfl⟩) (pre_RV (va_recv hK hP (ci := 1) (q0 := 2) rfl rfl) (hP.sub [2, 3, 4, 5] rfl) hK (hT.kept (hS.mono hAB))) rfl rfl hl.1 rfl (lv_room (Nat.le_of_ble_eq_true rfl)) dX2_writeRow_69 ⟨Nat.le_of_ble_eq_true rfl, Nat.le_of_ble_eq_true rfl⟩) ?_
          obtain ⟨ot1_11, ol1_11, hF_11⟩ : ∃ (ot1_11 : Nat → Int32) (ol1_11 : Nat), k_wNum ot1_10 ol1_10 (k_num us sz p1 (nI k)) = (ot1_11, ol1_11) := ⟨_, _, rfl⟩
          have hq_ol1_11 := k_wNum_le ot1_10 ol1_10 (k_num us sz p1 (nI k)) (by omega)
          rw [hF_11] at hq_ol1_11
          have hq_ol1_11 : ol1_11 ≤ 500 := hq_ol1_11
          refine go_M (r := none) (wc' := [(o, .inr (2, [.ref os, .int (nI ol1_11)])), (os, .inl (cC, 500, .inl ot1_11))]) (w2 := [(o, .inr (2, [.ref os, .int (nI ol1_11)])), (os, .inl (cC, 500, .inl ot1_11)), (h, .inr (1, [.ref hk, .ref hn, .ref hu, .int (nI sz)])), (hk, .inl (cI, 50, .inl ks)), (hn, .inl (cI, 50, .inl ns)), (hu, .inl (cI, 200, .inl us))]) [0, 1] (va_runV (As := [.int (k_num us sz p1 (nI k))]) (rest := []) ⟨hx, hb, hml, hown, hg⟩ (kX2_writeNumber l dC dI B cI cC cJ o os ot1_10 ol1_10 (k_num us sz p1 (nI k)) ot1_11 ol1_11 (by omega) hF_11 _) (cwV 1 hg (gi_V w_423 w_424 w_695 w_7 w_425) rfl rfl rfl (by decide +kernel) ⟨Nat.le_of_ble_eq_true rfl, Nat.le_of_ble_eq_true rfl⟩) (pre_MV (va_recv hK hP (ci := 2) (q0 := 0) rfl rfl) (Nat.le_trans hB hS.1) (hP.sub [0, 1] rfl) hK ((hD.weaken (fun _ _ _ h => hAB _ h)).sub [0, 1] (by decide) rfl) (hT.kept (hS.mono hAB))) rfl rfl hl.1 rfl (lv_room (Nat.le_of_ble_eq_true rfl)) dX2_writeRow_72 ⟨Nat.le_of_ble_eq_true rfl, Nat.le_of_ble_eq_true rfl⟩) hP hD hS hA rfl (Nat.le_of_ble_eq_true rfl) rfl rfl (fun H locs hP hD hS => ?_)
          refine W.eq (g2 := F0 m 75 ls []) rfl ?_
          refine lv_iinc (v := (nI (k + 1))) (lv' := [(5, .int (nI (k + 1))), (0, .ref o), (1, .ref h), (2, .int p1), (3, .int (k_get ks sz p1)), (4, .int (nI (k_nK (k_get ks sz p1))))]) hx hb dX2_writeRow_75 hl (k := 5) rfl (by rw [← nI_add]; rfl) (by decide) rfl (fun ls hl => ?_)
          refine lv_goto (tgt := 41) hx hb dX2_writeRow_78 (by decide) ?_
          exact ih_4 (k + 1, ot1_11, ol1_11) _ _ _ ⟨(by (try dsimp only); omega), (by (try dsimp only); omega), (by (try dsimp only); omega), (by (try dsimp only); rw [he, k_wNums]; simp [c_5, eq_true c_7, hF_10, hF_11]), hP, hD, hS, lv_sub hl [1, 2, 3, 4, 5, 0] rfl⟩
    · exact absurd hI.1 (Nat.not_lt_zero _)
  · skip
    have c_1 := bI_eq0 c_1
    have hP9 := hP
    have hS9 := hS
    have h9 : k_wRow ks ns us sz p1 ot ol = (ot, ol) := by simp [k_wRow, c_1]
    have h9 := hF.symm.trans h9
    cases h9
    exact W.vret hx hb hr (fun t ht hW => ⟨rfl, by rw [ht]; exact hP9, hS9.F ht⟩) hS9.2.2 dX2_writeRow_13
set_option maxHeartbeats 4000000 in
set_option maxRecDepth 100000 in
theorem kX2_write (l : Launch) (dC : Nat → ClassId) (dI : Nat → Nat → Nat) (B : Nat) (cI cC cJ : ClassId) (o : Nat) (os : Nat) (ot : Nat → Int32) (ol : Nat) (h : Nat) (hk : Nat) (hn : Nat) (hu : Nat) (ks : Nat → Int32) (ns : Nat → Int32) (us : Nat → Int32) (sz : Nat) (ot1 : Nat → Int32) (ol1 : Nat) (hol : ol ≤ 500) (hsz : sz ≤ 50) (hF : k_write ks ns us sz ot = (ot1, ol1)) (sz9 : Nat) : Met l yX2_write wsX2_write ({ frames := 3, cells := 0, slots := 0, locals := 67 }) (q_Mp (dC, dI) vwCl [.ref o, .ref h] [(o, .inr (2, [.ref os, .int (nI ol)])), (os, .inl (cC, 500, .inl ot)), (h, .inr (1, [.ref hk, .ref hn, .ref hu, .int (nI sz)])), (hk, .inl (cI, 50, .inl ks)), (hn, .inl (cI, 50, .inl ns)), (hu, .inl (cI, 200, .inl us))] [(cI, .int), (cC, .char), (cJ, .long)] B sz9) (q_Mq (dC, dI) vwCl [(o, .inr (2, [.ref os, .int (nI ol1)])), (os, .inl (cC, 500, .inl ot1)), (h, .inr (1, [.ref hk, .ref hn, .ref hu, .int (nI sz)])), (hk, .inl (cI, 50, .inl ks)), (hn, .inl (cI, 50, .inl ns)), (hu, .inl (cI, 200, .inl us))] (va_A [(o, .inr (2, [.ref os, .int (nI ol)])), (os, .inl (cC, 500, .inl ot)), (h, .inr (1, [.ref hk, .ref hn, .ref hu, .int (nI sz)])), (hk, .inl (cI, 50, .inl ks)), (hn, .inl (cI, 50, .inl ns)), (hu, .inl (cI, 200, .inl us))] sz9) none) 0 0 (va_A [(o, .inr (2, [.ref os, .int (nI ol)])), (os, .inl (cC, 500, .inl ot)), (h, .inr (1, [.ref hk, .ref hn, .ref hu, .int (nI sz)])), (hk, .inl (cI, 50, .inl ks)), (hn, .inl (cI, 50, .inl ns)), (hu, .inl (cI, 200, .inl us))] sz9) := by
  refine Met.ofW (cc := cX2_write) (maxL := 6) (ret := none) (by decide) rfl ?_
  intro p e s m args below meth c s₁ Bd hml hv
  obtain ⟨rfl, hsz9, hB, hP, hK, hD0, hT⟩ := hv
  have hx := Bd.exec
  have hb := Bd.bytes
  have hr := Bd.returns
  have hts := atoms_spec (ws := wsX2_write) Bd.pre
  have hg : ∀ w ∈ lw_good, w.before _ s = true := fun w h => hts w (List.mem_cons_of_mem _ h)
  have hown : s.vm.findClass RX2 = some m.cls := findClass_of_methodNamed Bd.named
  have hlocks := Bd.notSynchronized
  subst hsz9
  have hD := hD0.self (sz := s.heap.size)
  generalize hAe : va_A [(o, .inr (2, [.ref os, .int (nI ol)])), (os, .inl (cC, 500, .inl ot)), (h, .inr (1, [.ref hk, .ref hn, .ref hu, .int (nI sz)])), (hk, .inl (cI, 50, .inl ks)), (hn, .inl (cI, 50, .inl ns)), (hu, .inl (cI, 200, .inl us))] s.heap.size = A at hD ⊢
  have hA : ∀ q : Nat, s.heap.size ≤ q → A q := fun q h => by rw [← hAe]; exact Or.inr h
  have hAB : ∀ q, A q → B ≤ q := by rw [← hAe]; exact va_A.ge hD0 hB
  have hS : va_S A s.heap s.heap [] := va_S.rf
  have hP : va_P (dC, dI) vwCl [(o, .inr (2, [.ref os, .int (nI ol)])), (os, .inl (cC, 500, .inl ot)), (h, .inr (1, [.ref hk, .ref hn, .ref hu, .int (nI sz)])), (hk, .inl (cI, 50, .inl ks)), (hn, .inl (cI, 50, .inl ns)), (hu, .inl (cI, 200, .inl us))] s.heap := hP
  have hl := lv_entry ([.ref o, .ref h]) (n := 6) (Nat.le_of_ble_eq_true rfl)
  rw [lg_entry_eq]
  generalize (lg_sl ([.ref o, .ref h]) ++ List.replicate (6 - (lg_sl ([.ref o, .ref h])).length) Slot.unset).toArray = ls at hl ⊢
  have hl : lv_has ls 6 [(0, .ref o), (1, .ref h)] := hl
  refine lv_aload_n hx hb dX2_write_0 rfl (lv_at hl 0 rfl) ?_
  refine lv_iconst (v := 0) hx hb dX2_write_1 (by decide) ?_
  refine va_put (D := (dC, dI)) (ci := 2) (v := .int 0) (ty := .int) (C := RX2) (T := TX2) (N := 2) hx hb hg in_X2 tyX2 tyX2_ok nmX2_ok hown hK hP hD hS 0 rfl rfl 1 (by decide) (hg _ w_97) (fun _ h9 => h9) rfl (by decide +kernel) rfl rfl (Nat.le_of_ble_eq_true rfl) dX2_write_2 (fun H locs hP hD hS => ?_)
  have hP : va_P (dC, dI) vwCl [(o, .inr (2, [.ref os, .int 0])), (os, .inl (cC, 500, .inl ot)), (h, .inr (1, [.ref hk, .ref hn, .ref hu, .int (nI sz)])), (hk, .inl (cI, 50, .inl ks)), (hn, .inl (cI, 50, .inl ns)), (hu, .inl (cI, 200, .inl us))] H := hP
  have hD : va_D A [(o, .inr (2, [.ref os, .int 0])), (os, .inl (cC, 500, .inl ot)), (h, .inr (1, [.ref hk, .ref hn, .ref hu, .int (nI sz)])), (hk, .inl (cI, 50, .inl ks)), (hn, .inl (cI, 50, .inl ns)), (hu, .inl (cI, 200, .inl us))] := hD
  refine lv_iconst (v := (-1)) hx hb dX2_write_5 (by decide) ?_
  refine lv_istore_n (lv' := [(2, .int (-1)), (0, .ref o), (1, .ref h)]) hx hb dX2_write_6 rfl hl (by decide) rfl (fun ls hl => ?_)
  refine lv_aload_n hx hb dX2_write_7 rfl (lv_at hl 2 rfl) ?_
  refine go_R (r := (nI sz)) (va_runV (As := []) (rest := []) ⟨hx, hb, hml, hown, hg⟩ (kX1_size l dC dI B cI cC cJ h hk hn hu ks ns us sz (by omega)) (cwV 0 hg (gi_V w_402 w_186 w_187 w_4 w_188) rfl rfl rfl (by decide +kernel) ⟨Nat.le_of_ble_eq_true rfl, Nat.le_of_ble_eq_true rfl⟩) (pre_RV (va_recv hK hP (ci := 1) (q0 := 2) rfl rfl) (hP.sub [2, 3, 4, 5] rfl) hK (hT.kept (hS.mono hAB))) rfl rfl hl.1 rfl (lv_room (Nat.le_of_ble_eq_true rfl)) dX2_write_8 ⟨Nat.le_of_ble_eq_true rfl, Nat.le_of_ble_eq_true rfl⟩) ?_
  refine lv_istore_n (lv' := [(3, .int (nI sz)), (2, .int (-1)), (0, .ref o), (1, .ref h)]) hx hb dX2_write_11 rfl hl (by decide) rfl (fun ls hl => ?_)
  refine lv_iconst (v := 0) hx hb dX2_write_12 (by decide) ?_
  refine lv_istore (lv' := [(4, .int 0), (3, .int (nI sz)), (2, .int (-1)), (0, .ref o), (1, .ref h)]) hx hb dX2_write_13 hl (by decide) rfl (fun ls hl => ?_)
  refine loop_M (σ := Nat × Int32 × (Nat → Int32) × Nat) (fun n x H locs ls => sz - x.1 < n ∧ x.1 ≤ sz ∧ x.2.2.2 ≤ 500 ∧ k_write ks ns us sz ot = k_writeF ks ns us sz x.2.1 x.1 x.2.2.1 x.2.2.2 ∧ va_P (dC, dI) vwCl [(o, .inr (2, [.ref os, .int (nI x.2.2.2)])), (os, .inl (cC, 500, .inl x.2.2.1)), (h, .inr (1, [.ref hk, .ref hn, .ref hu, .int (nI sz)])), (hk, .inl (cI, 50, .inl ks)), (hn, .inl (cI, 50, .inl ns)), (hu, .inl (cI, 200, .inl us))] H ∧ va_D A [(o, .inr (2, [.ref os, .int (nI x.2.2.2)])), (os, .inl (cC, 500, .inl x.2.2.1)), (h, .inr (1, [.ref hk, .ref hn, .ref hu, .int (nI sz)])), (hk, .inl (cI, 50, .inl ks)), (hn, .inl (cI, 50, .inl ns)), (hu, .inl (cI, 200, .inl us))] ∧ va_S A s.heap H locs ∧ lv_has ls 6 [(0, .ref o), (1, .ref h), (2, .int x.2.1), (3, .int (nI sz)), (4, .int (nI x.1))]) (fun n x H locs ls ih_1 hI => ?_) (fun x H locs ls hI => ?_) (n := (sz - 0) + 1) (x := (0, (-1), ot, 0)) ⟨(Nat.lt_succ_self _), (by (try dsimp only); omega), (by (try dsimp only); omega), rfl, hP, hD, hS, lv_sub hl [3, 4, 2, 1, 0] rfl⟩
  · skip
    obtain ⟨k, rk, otx, olx⟩ := x
    obtain ⟨hfu, hk0, hox, he, hP, hD, hS, hl⟩ := hI
    have hfu : sz - k < n + 1 := hfu
    have hk0 : k ≤ sz := hk0
    have hox : olx ≤ 500 := hox
    have he : k_write ks ns us sz ot = k_writeF ks ns us sz rk k otx olx := he
    have hP : va_P (dC, dI) vwCl [(o, .inr (2, [.ref os, .int (nI olx)])), (os, .inl (cC, 500, .inl otx)), (h, .inr (1, [.ref hk, .ref hn, .ref hu, .int (nI sz)])), (hk, .inl (cI, 50, .inl ks)), (hn, .inl (cI, 50, .inl ns)), (hu, .inl (cI, 200, .inl us))] H := hP
    have hD : va_D A [(o, .inr (2, [.ref os, .int (nI olx)])), (os, .inl (cC, 500, .inl otx)), (h, .inr (1, [.ref hk, .ref hn, .ref hu, .int (nI sz)])), (hk, .inl (cI, 50, .inl ks)), (hn, .inl (cI, 50, .inl ns)), (hu, .inl (cI, 200, .inl us))] := hD
    have hl : lv_has ls 6 [(0, .ref o), (1, .ref h), (2, .int rk), (3, .int (nI sz)), (4, .int (nI k))] := hl
    refine lv_iload hx hb dX2_write_15 (lv_at hl 4 rfl) ?_
    refine lv_iload_n hx hb dX2_write_17 rfl (lv_at hl 3 rfl) ?_
    refine lv_icmp_ge (tgt := 48) hx hb dX2_write_18 (by decide) (fun c_2 => ?_) (fun c_2 => ?_)
    · skip
      have c_2 := na_le (a := sz) (b := k) c_2 (by omega) (by omega)
      have hP9 := hP
      have hS9 := hS
      have h9 : k_write ks ns us sz ot = (otx, olx) := by rw [he, k_writeF]; simp [c_2]
      have h9 := hF.symm.trans h9
      cases h9
      exact W.vret hx hb hr (fun t ht hW => ⟨rfl, by rw [ht]; exact hP9, hS9.F ht⟩) hS9.2.2 dX2_write_48
    · skip
      have c_2 := na_nle (a := sz) (b := k) c_2 (by omega) (by omega)
      refine lv_aload_n hx hb dX2_write_21 rfl (lv_at hl 1 rfl) ?_
      refine lv_iload_n hx hb dX2_write_22 rfl (lv_at hl 2 rfl) ?_
      refine go_R (r := k_next ks ns sz rk 0 (-1)) (va_runV (As := [.int rk]) (rest := []) ⟨hx, hb, hml, hown, hg⟩ (kX1_nextBehind l dC dI B cI cC cJ h hk hn hu ks ns us sz rk (by omega)) (cwV 1 hg (gi_V w_403 w_404 w_405 w_4 w_406) rfl rfl rfl (by decide +kernel) ⟨Nat.le_of_ble_eq_true rfl, Nat.le_of_ble_eq_true rfl⟩) (pre_RV (va_recv hK hP (ci := 1) (q0 := 2) rfl rfl) (hP.sub [2, 3, 4, 5] rfl) hK (hT.kept (hS.mono hAB))) rfl rfl hl.1 rfl (lv_room (Nat.le_of_ble_eq_true rfl)) dX2_write_23 ⟨Nat.le_of_ble_eq_true rfl, Nat.le_of_ble_eq_true rfl⟩) ?_
      refine lv_istore (lv' := [(5, .int (k_next ks ns sz rk 0 (-1))), (0, .ref o), (1, .ref h), (2, .int rk), (3, .int (nI sz)), (4, .int (nI k))]) hx hb dX2_write_26 hl (by decide) rfl (fun ls hl => ?_)
      refine lv_aload_n hx hb dX2_write_28 rfl (lv_at hl 1 rfl) ?_
      refine lv_aload_n hx hb dX2_write_29 rfl (lv_at hl 2 rfl) ?_
      refine lv_iload hx hb dX2_write_30 (lv_at hl 0 rfl) ?_
      obtain ⟨ot1_3, ol1_3, hF_3⟩ : ∃ (ot1_3 : Nat → Int32) (ol1_3 : Nat), k_wRow ks ns us sz (k_next ks ns sz rk 0 (-1)) otx olx = (ot1_3, ol1_3) := ⟨_, _, rfl⟩
      have hq_ol1_3 := k_wRow_le ks ns us sz (k_next ks ns sz rk 0 (-1)) otx olx (by omega)
      rw [hF_3] at hq_ol1_3
      have hq_ol1_3 : ol1_3 ≤ 500 := hq_ol1_3
      refine go_M (r := none) (wc' := [(o, .inr (2, [.ref os, .int (nI ol1_3)])), (os, .inl (cC, 500, .inl ot1_3)), (h, .inr (1, [.ref hk, .ref hn, .ref hu, .int (nI sz)])), (hk, .inl (cI, 50, .inl ks)), (hn, .inl (cI, 50, .inl ns)), (hu, .inl (cI, 200, .inl us))]) (w2 := [(o, .inr (2, [.ref os, .int (nI ol1_3)])), (os, .inl (cC, 500, .inl ot1_3)), (h, .inr (1, [.ref hk, .ref hn, .ref hu, .int (nI sz)])), (hk, .inl (cI, 50, .inl ks)), (hn, .inl (cI, 50, .inl ns)), (hu, .inl (cI, 200, .inl us))]) [0, 1, 2, 3, 4, 5] (va_runV (As := [.ref h, .int (k_next ks ns sz rk 0 (-1))]) (rest := []) ⟨hx, hb, hml, hown, hg⟩ (kX2_writeRow l dC dI B cI cC cJ o os otx olx h hk hn hu ks ns us sz (k_next ks ns sz rk 0 (-1)) ot1_3 ol1_3 (by omega) (by omega) hF_3 _) (cwV 2 hg (gi_V w_415 w_416 w_693 w_7 w_417) rfl rfl rfl (by decide +kernel) ⟨Nat.le_of_ble_eq_true rfl, Nat.le_of_ble_eq_true rfl⟩) (pre_MV (va_recv hK hP (ci := 2) (q0 := 0) rfl rfl) (Nat.le_trans hB hS.1) (hP.sub [0, 1, 2, 3, 4, 5] rfl) hK ((hD.weaken (fun _ _ _ h => hAB _ h)).sub [0, 1, 2, 3, 4, 5] (by decide) rfl) (hT.kept (hS.mono hAB))) rfl rfl hl.1 rfl (lv_room (Nat.le_of_ble_eq_true rfl)) dX2_write_32 ⟨Nat.le_of_ble_eq_true rfl, Nat.le_of_ble_eq_true rfl⟩) hP hD hS hA rfl (Nat.le_of_ble_eq_true rfl) rfl rfl (fun H locs hP hD hS => ?_)
      refine W.eq (g2 := F0 m 35 ls []) rfl ?_
      refine lv_aload_n hx hb dX2_write_35 rfl (lv_at hl 2 rfl) ?_
      refine lv_iload hx hb dX2_write_36 (lv_at hl 0 rfl) ?_
      refine go_R (r := k_rank ks ns sz (k_next ks ns sz rk 0 (-1))) (va_runV (As := [.int (k_next ks ns sz rk 0 (-1))]) (rest := []) ⟨hx, hb, hml, hown, hg⟩ (kX1_rankOf l dC dI B cI cC cJ h hk hn hu ks ns us sz (k_next ks ns sz rk 0 (-1)) (by omega)) (cwV 1 hg (gi_V w_427 w_408 w_409 w_4 w_410) rfl rfl rfl (by decide +kernel) ⟨Nat.le_of_ble_eq_true rfl, Nat.le_of_ble_eq_true rfl⟩) (pre_RV (va_recv hK hP (ci := 1) (q0 := 2) rfl rfl) (hP.sub [2, 3, 4, 5] rfl) hK (hT.kept (hS.mono hAB))) rfl rfl hl.1 rfl (lv_room (Nat.le_of_ble_eq_true rfl)) dX2_write_38 ⟨Nat.le_of_ble_eq_true rfl, Nat.le_of_ble_eq_true rfl⟩) ?_
      refine lv_istore_n (lv' := [(2, .int (k_rank ks ns sz (k_next ks ns sz rk 0 (-1)))), (5, .int (k_next ks ns sz rk 0 (-1))), (0, .ref o), (1, .ref h), (3, .int (nI sz)), (4, .int (nI k))]) hx hb dX2_write_41 rfl hl (by decide) rfl (fun ls hl => ?_)
      refine lv_iinc (v := (nI (k + 1))) (lv' := [(4, .int (nI (k + 1))), (2, .int (k_rank ks ns sz (k_next ks ns sz rk 0 (-1)))), (5, .int (k_next ks ns sz rk 0 (-1))), (0, .ref o), (1, .ref h), (3, .int (nI sz))]) hx hb dX2_write_42 hl (k := 5) rfl (by rw [← nI_add]; rfl) (by decide) rfl (fun ls hl => ?_)
      refine lv_goto (tgt := 15) hx hb dX2_write_45 (by decide) ?_
      exact ih_1 (k + 1, k_rank ks ns sz (k_next ks ns sz rk 0 (-1)), ot1_3, ol1_3) _ _ _ ⟨(by (try dsimp only); omega), (by (try dsimp only); omega), (by (try dsimp only); omega), (by (try dsimp only); rw [he, k_writeF]; simp [c_2, hF_3]), hP, hD, hS, lv_sub hl [3, 4, 1, 5, 0] rfl⟩
  · exact absurd hI.1 (Nat.not_lt_zero _)
