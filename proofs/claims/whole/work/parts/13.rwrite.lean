set_option maxHeartbeats 4000000 in
set_option maxRecDepth 100000 in
theorem kX3_collect (l : Launch) (dC : Nat → ClassId) (dI : Nat → Nat → Nat) (B : Nat) (cI cC cJ : ClassId) (r : Nat) (rs : Nat) (h : Nat) (sg : Nat → Int32) (len : Nat) (pl : Nat) (fn : Int32) (fp : Int32) (p0 : Int32) (b1 : Bool) (sg1 : Nat → Int32) (len1 : Nat) (hlen : len ≤ 500) (hF : k_collect sg len p0 = (b1, sg1, len1)) (sz9 : Nat) : Met l yX3_collect wsX3_collect ({ frames := 0, cells := 0, slots := 0, locals := 0 }) (q_Mp (dC, dI) vwCl [.ref r, .int p0] [(r, .inr (3, [.ref rs, .ref h, .int (nI len), .int (nI pl), .int fn, .int fp])), (rs, .inl (cC, 500, .inl sg))] [(cI, .int), (cC, .char), (cJ, .long)] B sz9) (q_Mq (dC, dI) vwCl [(r, .inr (3, [.ref rs, .ref h, .int (nI len1), .int (nI pl), .int fn, .int fp])), (rs, .inl (cC, 500, .inl sg1))] (va_A [(r, .inr (3, [.ref rs, .ref h, .int (nI len), .int (nI pl), .int fn, .int fp])), (rs, .inl (cC, 500, .inl sg))] sz9) (some (.int (bI b1)))) 0 0 (va_A [(r, .inr (3, [.ref rs, .ref h, .int (nI len), .int (nI pl), .int fn, .int fp])), (rs, .inl (cC, 500, .inl sg))] sz9) := by
  refine Met.ofW (cc := cX3_collect) (maxL := 2) (ret := (some .boolean)) (by decide) rfl ?_
  intro p e s m args below meth c s₁ Bd hml hv
  obtain ⟨rfl, hsz9, hB, hP, hK, hD0, hT⟩ := hv
  have hx := Bd.exec
  have hb := Bd.bytes
  have hr := Bd.returns
  have hts := atoms_spec (ws := wsX3_collect) Bd.pre
  have hg : ∀ w ∈ lw_good, w.before _ s = true := fun w h => hts w (List.mem_cons_of_mem _ h)
  have hown : s.vm.findClass RX3 = some m.cls := findClass_of_methodNamed Bd.named
  have hlocks := Bd.notSynchronized
  subst hsz9
  have hD := hD0.self (sz := s.heap.size)
  generalize hAe : va_A [(r, .inr (3, [.ref rs, .ref h, .int (nI len), .int (nI pl), .int fn, .int fp])), (rs, .inl (cC, 500, .inl sg))] s.heap.size = A at hD ⊢
  have hA : ∀ q : Nat, s.heap.size ≤ q → A q := fun q h => by rw [← hAe]; exact Or.inr h
  have hAB : ∀ q, A q → B ≤ q := by rw [← hAe]; exact va_A.ge hD0 hB
  have hS : va_S A s.heap s.heap [] := va_S.rf
  have hP : va_P (dC, dI) vwCl [(r, .inr (3, [.ref rs, .ref h, .int (nI len), .int (nI pl), .int fn, .int fp])), (rs, .inl (cC, 500, .inl sg))] s.heap := hP
  have hl := lv_entry ([.ref r, .int p0]) (n := 2) (Nat.le_of_ble_eq_true rfl)
  rw [lg_entry_eq]
  generalize (lg_sl ([.ref r, .int p0]) ++ List.replicate (2 - (lg_sl ([.ref r, .int p0])).length) Slot.unset).toArray = ls at hl ⊢
  have hl : lv_has ls 2 [(0, .ref r), (1, .int p0)] := hl
  refine lv_iload_n hx hb dX3_collect_0 rfl (lv_at hl 1 rfl) ?_
  refine lv_bipush (v := 33) hx hb dX3_collect_1 (by decide) ?_
  refine lv_icmp_lt (tgt := 22) hx hb dX3_collect_3 (by decide) (fun c_1 => ?_) (fun c_1 => ?_)
  · skip
    refine lv_iconst (v := 0) hx hb dX3_collect_22 (by decide) ?_
    have hP9 := hP
    have hS9 := hS
    have h9 : k_collect sg len p0 = (false, sg, len) := by simp [k_collect, c_1]
    have h9 := hF.symm.trans h9
    cases h9
    exact W.zret (ty := .boolean) hx hb hr rfl (fun t ht hW => ⟨rfl, by rw [ht]; exact hP9, hS9.F ht⟩) hS9.2.2 dX3_collect_23
  · skip
    refine lv_iload_n hx hb dX3_collect_6 rfl (lv_at hl 1 rfl) ?_
    refine lv_bipush (v := 126) hx hb dX3_collect_7 (by decide) ?_
    refine lv_icmp_gt (tgt := 22) hx hb dX3_collect_9 (by decide) (fun c_2 => ?_) (fun c_2 => ?_)
    · skip
      refine lv_iconst (v := 0) hx hb dX3_collect_22 (by decide) ?_
      have hP9 := hP
      have hS9 := hS
      have h9 : k_collect sg len p0 = (false, sg, len) := by simp [k_collect, c_1, c_2]
      have h9 := hF.symm.trans h9
      cases h9
      exact W.zret (ty := .boolean) hx hb hr rfl (fun t ht hW => ⟨rfl, by rw [ht]; exact hP9, hS9.F ht⟩) hS9.2.2 dX3_collect_23
    · skip
      refine lv_aload_n hx hb dX3_collect_12 rfl (lv_at hl 0 rfl) ?_
      refine va_get (D := (dC, dI)) (ci := 3) (v := .int (nI len)) (C := RX3) (T := TX3) (N := 6) hx hb hg in_X3 hown hK hP 0 rfl rfl 2 (by decide) (hg _ w_52) (fun _ h9 => h9) rfl dX3_collect_13 ?_
      refine lv_sipush (v := 500) hx hb dX3_collect_16 (by decide) ?_
      refine lv_icmp_lt (tgt := 24) hx hb dX3_collect_19 (by decide) (fun c_3 => ?_) (fun c_3 => ?_)
      · skip
        have c_3 := na_lt (a := len) (b := 500) c_3 (by omega) (by omega)
        refine lv_aload_n hx hb dX3_collect_24 rfl (lv_at hl 0 rfl) ?_
        refine va_get (D := (dC, dI)) (ci := 3) (v := .ref rs) (C := RX3) (T := TX3) (N := 6) hx hb hg in_X3 hown hK hP 0 rfl rfl 0 (by decide) (hg _ w_50) (fun _ h9 => h9) rfl dX3_collect_25 ?_
        refine lv_aload_n hx hb dX3_collect_28 rfl (lv_at hl 0 rfl) ?_
        refine va_get (D := (dC, dI)) (ci := 3) (v := .int (nI len)) (C := RX3) (T := TX3) (N := 6) hx hb hg in_X3 hown hK hP 0 rfl rfl 2 (by decide) (hg _ w_52) (fun _ h9 => h9) rfl dX3_collect_29 ?_
        refine lv_iload_n hx hb dX3_collect_32 rfl (lv_at hl 1 rfl) ?_
        refine lv_i2c (v := (p0.toUInt32 % 65536).toInt32) hx hb dX3_collect_33 rfl ?_
        refine x_cast (k := len) (v := p0) hx hb hK hP hD hS 1 1 rfl rfl (chr_keep c_1 c_2) (by omega) (by decide) dX3_collect_34 (fun H locs hP hD hS => ?_)
        have hP : va_P (dC, dI) vwCl [(r, .inr (3, [.ref rs, .ref h, .int (nI len), .int (nI pl), .int fn, .int fp])), (rs, .inl (cC, 500, .inl (upd sg len p0)))] H := hP
        have hD : va_D A [(r, .inr (3, [.ref rs, .ref h, .int (nI len), .int (nI pl), .int fn, .int fp])), (rs, .inl (cC, 500, .inl (upd sg len p0)))] := hD
        refine lv_aload_n hx hb dX3_collect_35 rfl (lv_at hl 0 rfl) ?_
        refine lv_dup hx hb dX3_collect_36 rfl ?_
        refine va_get (D := (dC, dI)) (ci := 3) (v := .int (nI len)) (C := RX3) (T := TX3) (N := 6) hx hb hg in_X3 hown hK hP 0 rfl rfl 2 (by decide) (hg _ w_52) (fun _ h9 => h9) rfl dX3_collect_37 ?_
        refine lv_iconst (v := 1) hx hb dX3_collect_40 (by decide) ?_
        refine lv_iadd hx hb dX3_collect_41 ?_
        refine top_eq (y := (nI (len + 1))) (by exact nI_add _ _) ?_
        refine va_put (D := (dC, dI)) (ci := 3) (v := .int (nI (len + 1))) (ty := .int) (C := RX3) (T := TX3) (N := 6) hx hb hg in_X3 tyX3 tyX3_ok nmX3_ok hown hK hP hD hS 0 rfl rfl 2 (by decide) (hg _ w_52) (fun _ h9 => h9) rfl (by decide +kernel) rfl rfl (Nat.le_of_ble_eq_true rfl) dX3_collect_42 (fun H locs hP hD hS => ?_)
        have hP : va_P (dC, dI) vwCl [(r, .inr (3, [.ref rs, .ref h, .int (nI (len + 1)), .int (nI pl), .int fn, .int fp])), (rs, .inl (cC, 500, .inl (upd sg len p0)))] H := hP
        have hD : va_D A [(r, .inr (3, [.ref rs, .ref h, .int (nI (len + 1)), .int (nI pl), .int fn, .int fp])), (rs, .inl (cC, 500, .inl (upd sg len p0)))] := hD
        refine lv_iconst (v := 1) hx hb dX3_collect_45 (by decide) ?_
        have hP9 := hP
        have hS9 := hS
        have h9 : k_collect sg len p0 = (true, upd sg len p0, len + 1) := by simp [k_collect, c_1, c_2, c_3]
        have h9 := hF.symm.trans h9
        cases h9
        exact W.zret (ty := .boolean) hx hb hr rfl (fun t ht hW => ⟨rfl, by rw [ht]; exact hP9, hS9.F ht⟩) hS9.2.2 dX3_collect_46
      · skip
        have c_3 := na_nlt (a := len) (b := 500) c_3 (by omega) (by omega)
        refine lv_iconst (v := 0) hx hb dX3_collect_22 (by decide) ?_
        have hP9 := hP
        have hS9 := hS
        have h9 : k_collect sg len p0 = (false, sg, len) := by simp [k_collect, c_1, c_2, c_3]
        have h9 := hF.symm.trans h9
        cases h9
        exact W.zret (ty := .boolean) hx hb hr rfl (fun t ht hW => ⟨rfl, by rw [ht]; exact hP9, hS9.F ht⟩) hS9.2.2 dX3_collect_23
set_option maxHeartbeats 4000000 in
set_option maxRecDepth 100000 in
theorem kX3_fail (l : Launch) (dC : Nat → ClassId) (dI : Nat → Nat → Nat) (B : Nat) (cI cC cJ : ClassId) (r : Nat) (rs : Nat) (h : Nat) (sg : Nat → Int32) (len : Nat) (pl : Nat) (fn : Int32) (fp : Int32) (p0 : Int32) (p1 : Int32) (sz9 : Nat) : Met l yX3_fail wsX3_fail ({ frames := 0, cells := 0, slots := 0, locals := 0 }) (q_Mp (dC, dI) vwCl [.ref r, .int p0, .int p1] [(r, .inr (3, [.ref rs, .ref h, .int (nI len), .int (nI pl), .int fn, .int fp])), (rs, .inl (cC, 500, .inl sg))] [(cI, .int), (cC, .char), (cJ, .long)] B sz9) (q_Mq (dC, dI) vwCl [(r, .inr (3, [.ref rs, .ref h, .int (nI len), .int (nI pl), .int p0, .int p1])), (rs, .inl (cC, 500, .inl sg))] (va_A [(r, .inr (3, [.ref rs, .ref h, .int (nI len), .int (nI pl), .int fn, .int fp])), (rs, .inl (cC, 500, .inl sg))] sz9) (some (.int (bI false)))) 0 0 (va_A [(r, .inr (3, [.ref rs, .ref h, .int (nI len), .int (nI pl), .int fn, .int fp])), (rs, .inl (cC, 500, .inl sg))] sz9) := by
  refine Met.ofW (cc := cX3_fail) (maxL := 3) (ret := (some .boolean)) (by decide) rfl ?_
  intro p e s m args below meth c s₁ Bd hml hv
  obtain ⟨rfl, hsz9, hB, hP, hK, hD0, hT⟩ := hv
  have hx := Bd.exec
  have hb := Bd.bytes
  have hr := Bd.returns
  have hts := atoms_spec (ws := wsX3_fail) Bd.pre
  have hg : ∀ w ∈ lw_good, w.before _ s = true := fun w h => hts w (List.mem_cons_of_mem _ h)
  have hown : s.vm.findClass RX3 = some m.cls := findClass_of_methodNamed Bd.named
  have hlocks := Bd.notSynchronized
  subst hsz9
  have hD := hD0.self (sz := s.heap.size)
  generalize hAe : va_A [(r, .inr (3, [.ref rs, .ref h, .int (nI len), .int (nI pl), .int fn, .int fp])), (rs, .inl (cC, 500, .inl sg))] s.heap.size = A at hD ⊢
  have hA : ∀ q : Nat, s.heap.size ≤ q → A q := fun q h => by rw [← hAe]; exact Or.inr h
  have hAB : ∀ q, A q → B ≤ q := by rw [← hAe]; exact va_A.ge hD0 hB
  have hS : va_S A s.heap s.heap [] := va_S.rf
  have hP : va_P (dC, dI) vwCl [(r, .inr (3, [.ref rs, .ref h, .int (nI len), .int (nI pl), .int fn, .int fp])), (rs, .inl (cC, 500, .inl sg))] s.heap := hP
  have hl := lv_entry ([.ref r, .int p0, .int p1]) (n := 3) (Nat.le_of_ble_eq_true rfl)
  rw [lg_entry_eq]
  generalize (lg_sl ([.ref r, .int p0, .int p1]) ++ List.replicate (3 - (lg_sl ([.ref r, .int p0, .int p1])).length) Slot.unset).toArray = ls at hl ⊢
  have hl : lv_has ls 3 [(0, .ref r), (1, .int p0), (2, .int p1)] := hl
  refine lv_aload_n hx hb dX3_fail_0 rfl (lv_at hl 0 rfl) ?_
  refine lv_iload_n hx hb dX3_fail_1 rfl (lv_at hl 1 rfl) ?_
  refine va_put (D := (dC, dI)) (ci := 3) (v := .int p0) (ty := .int) (C := RX3) (T := TX3) (N := 6) hx hb hg in_X3 tyX3 tyX3_ok nmX3_ok hown hK hP hD hS 0 rfl rfl 4 (by decide) (hg _ w_54) (fun _ h9 => h9) rfl (by decide +kernel) rfl rfl (Nat.le_of_ble_eq_true rfl) dX3_fail_2 (fun H locs hP hD hS => ?_)
  have hP : va_P (dC, dI) vwCl [(r, .inr (3, [.ref rs, .ref h, .int (nI len), .int (nI pl), .int p0, .int fp])), (rs, .inl (cC, 500, .inl sg))] H := hP
  have hD : va_D A [(r, .inr (3, [.ref rs, .ref h, .int (nI len), .int (nI pl), .int p0, .int fp])), (rs, .inl (cC, 500, .inl sg))] := hD
  refine lv_aload_n hx hb dX3_fail_5 rfl (lv_at hl 0 rfl) ?_
  refine lv_iload_n hx hb dX3_fail_6 rfl (lv_at hl 2 rfl) ?_
  refine va_put (D := (dC, dI)) (ci := 3) (v := .int p1) (ty := .int) (C := RX3) (T := TX3) (N := 6) hx hb hg in_X3 tyX3 tyX3_ok nmX3_ok hown hK hP hD hS 0 rfl rfl 5 (by decide) (hg _ w_55) (fun _ h9 => h9) rfl (by decide +kernel) rfl rfl (Nat.le_of_ble_eq_true rfl) dX3_fail_7 (fun H locs hP hD hS => ?_)
  have hP : va_P (dC, dI) vwCl [(r, .inr (3, [.ref rs, .ref h, .int (nI len), .int (nI pl), .int p0, .int p1])), (rs, .inl (cC, 500, .inl sg))] H := hP
  have hD : va_D A [(r, .inr (3, [.ref rs, .ref h, .int (nI len), .int (nI pl), .int p0, .int p1])), (rs, .inl (cC, 500, .inl sg))] := hD
  refine lv_iconst (v := 0) hx hb dX3_fail_10 (by decide) ?_
  have hP9 := hP
  have hS9 := hS
  exact W.zret (ty := .boolean) hx hb hr rfl (fun t ht hW => ⟨rfl, by rw [ht]; exact hP9, hS9.F ht⟩) hS9.2.2 dX3_fail_11
set_option maxHeartbeats 4000000 in
set_option maxRecDepth 100000 in
theorem kX3_readDigits (l : Launch) (dC : Nat → ClassId) (dI : Nat → Nat → Nat) (B : Nat) (cI cC cJ : ClassId) (r : Nat) (rs : Nat) (h : Nat) (sg : Nat → Int32) (len : Nat) (pl : Nat) (fn : Int32) (fp : Int32) (x1 : Int32) (pl1 : Nat) (hlen : len ≤ 500) (hpl : pl ≤ len) (hF : k_readDigits sg len pl = (x1, pl1)) (sz9 : Nat) : Met l yX3_readDigits wsX3_readDigits ({ frames := 2, cells := 0, slots := 0, locals := 41 }) (q_Mp (dC, dI) vwCl [.ref r] [(r, .inr (3, [.ref rs, .ref h, .int (nI len), .int (nI pl), .int fn, .int fp])), (rs, .inl (cC, 500, .inl sg))] [(cI, .int), (cC, .char), (cJ, .long)] B sz9) (q_Mq (dC, dI) vwCl [(r, .inr (3, [.ref rs, .ref h, .int (nI len), .int (nI pl1), .int fn, .int fp])), (rs, .inl (cC, 500, .inl sg))] (va_A [(r, .inr (3, [.ref rs, .ref h, .int (nI len), .int (nI pl), .int fn, .int fp])), (rs, .inl (cC, 500, .inl sg))] sz9) (some (.int x1))) 0 0 (va_A [(r, .inr (3, [.ref rs, .ref h, .int (nI len), .int (nI pl), .int fn, .int fp])), (rs, .inl (cC, 500, .inl sg))] sz9) := by
  refine Met.ofW (cc := cX3_readDigits) (maxL := 3) (ret := (some .int)) (by decide) rfl ?_
  intro p e s m args below meth c s₁ Bd hml hv
  obtain ⟨rfl, hsz9, hB, hP, hK, hD0, hT⟩ := hv
  have hx := Bd.exec
  have hb := Bd.bytes
  have hr := Bd.returns
  have hts := atoms_spec (ws := wsX3_readDigits) Bd.pre
  have hg : ∀ w ∈ lw_good, w.before _ s = true := fun w h => hts w (List.mem_cons_of_mem _ h)
  have hown : s.vm.findClass RX3 = some m.cls := findClass_of_methodNamed Bd.named
  have hlocks := Bd.notSynchronized
  subst hsz9
  have hD := hD0.self (sz := s.heap.size)
  generalize hAe : va_A [(r, .inr (3, [.ref rs, .ref h, .int (nI len), .int (nI pl), .int fn, .int fp])), (rs, .inl (cC, 500, .inl sg))] s.heap.size = A at hD ⊢
  have hA : ∀ q : Nat, s.heap.size ≤ q → A q := fun q h => by rw [← hAe]; exact Or.inr h
  have hAB : ∀ q, A q → B ≤ q := by rw [← hAe]; exact va_A.ge hD0 hB
  have hS : va_S A s.heap s.heap [] := va_S.rf
  have hP : va_P (dC, dI) vwCl [(r, .inr (3, [.ref rs, .ref h, .int (nI len), .int (nI pl), .int fn, .int fp])), (rs, .inl (cC, 500, .inl sg))] s.heap := hP
  have hl := lv_entry ([.ref r]) (n := 3) (Nat.le_of_ble_eq_true rfl)
  rw [lg_entry_eq]
  generalize (lg_sl ([.ref r]) ++ List.replicate (3 - (lg_sl ([.ref r])).length) Slot.unset).toArray = ls at hl ⊢
  have hl : lv_has ls 3 [(0, .ref r)] := hl
  refine lv_aload_n hx hb dX3_readDigits_0 rfl (lv_at hl 0 rfl) ?_
  refine go_R (r := k_digit sg len pl) (va_runV (As := []) (rest := []) ⟨hx, hb, hml, hown, hg⟩ (kX3_digitHere l dC dI B cI cC cJ r rs h sg len pl fn fp (by omega) (by omega)) (cwV 0 hg (gi_V w_269 w_270 w_684 w_3 w_271) rfl rfl rfl (by decide +kernel) ⟨Nat.le_of_ble_eq_true rfl, Nat.le_of_ble_eq_true rfl⟩) (pre_RV (va_recv hK hP (ci := 3) (q0 := 0) rfl rfl) (hP.sub [0, 1] rfl) hK hT) rfl rfl hl.1 rfl (lv_room (Nat.le_of_ble_eq_true rfl)) dX3_readDigits_1 ⟨Nat.le_of_ble_eq_true rfl, Nat.le_of_ble_eq_true rfl⟩) ?_
  refine lv_istore_n (lv' := [(1, .int (k_digit sg len pl)), (0, .ref r)]) hx hb dX3_readDigits_4 rfl hl (by decide) rfl (fun ls hl => ?_)
  refine lv_iload_n hx hb dX3_readDigits_5 rfl (lv_at hl 0 rfl) ?_
  refine lv_iconst (v := (-1)) hx hb dX3_readDigits_6 (by decide) ?_
  refine lv_icmp_ne (tgt := 12) hx hb dX3_readDigits_7 (by decide) (fun c_1 => ?_) (fun c_1 => ?_)
  · skip
    refine lv_aload_n hx hb dX3_readDigits_12 rfl (lv_at hl 1 rfl) ?_
    refine lv_dup hx hb dX3_readDigits_13 rfl ?_
    refine va_get (D := (dC, dI)) (ci := 3) (v := .int (nI pl)) (C := RX3) (T := TX3) (N := 6) hx hb hg in_X3 hown hK hP 0 rfl rfl 3 (by decide) (hg _ w_53) (fun _ h9 => h9) rfl dX3_readDigits_14 ?_
    refine lv_iconst (v := 1) hx hb dX3_readDigits_17 (by decide) ?_
    refine lv_iadd hx hb dX3_readDigits_18 ?_
    refine top_eq (y := (nI (pl + 1))) (by exact nI_add _ _) ?_
    refine va_put (D := (dC, dI)) (ci := 3) (v := .int (nI (pl + 1))) (ty := .int) (C := RX3) (T := TX3) (N := 6) hx hb hg in_X3 tyX3 tyX3_ok nmX3_ok hown hK hP hD hS 0 rfl rfl 3 (by decide) (hg _ w_53) (fun _ h9 => h9) rfl (by decide +kernel) rfl rfl (Nat.le_of_ble_eq_true rfl) dX3_readDigits_19 (fun H locs hP hD hS => ?_)
    have hP : va_P (dC, dI) vwCl [(r, .inr (3, [.ref rs, .ref h, .int (nI len), .int (nI (pl + 1)), .int fn, .int fp])), (rs, .inl (cC, 500, .inl sg))] H := hP
    have hD : va_D A [(r, .inr (3, [.ref rs, .ref h, .int (nI len), .int (nI (pl + 1)), .int fn, .int fp])), (rs, .inl (cC, 500, .inl sg))] := hD
    refine lv_aload_n hx hb dX3_readDigits_22 rfl (lv_at hl 1 rfl) ?_
    refine go_R (r := k_digit sg len (pl + 1)) (va_runV (As := []) (rest := []) ⟨hx, hb, hml, hown, hg⟩ (kX3_digitHere l dC dI B cI cC cJ r rs h sg len (pl + 1) fn fp (by omega) (by omega)) (cwV 0 hg (gi_V w_269 w_270 w_684 w_3 w_271) rfl rfl rfl (by decide +kernel) ⟨Nat.le_of_ble_eq_true rfl, Nat.le_of_ble_eq_true rfl⟩) (pre_RV (va_recv hK hP (ci := 3) (q0 := 0) rfl rfl) (hP.sub [0, 1] rfl) hK (hT.kept (hS.mono hAB))) rfl rfl hl.1 rfl (lv_room (Nat.le_of_ble_eq_true rfl)) dX3_readDigits_23 ⟨Nat.le_of_ble_eq_true rfl, Nat.le_of_ble_eq_true rfl⟩) ?_
    refine lv_istore_n (lv' := [(2, .int (k_digit sg len (pl + 1))), (1, .int (k_digit sg len pl)), (0, .ref r)]) hx hb dX3_readDigits_26 rfl hl (by decide) rfl (fun ls hl => ?_)
    refine lv_iload_n hx hb dX3_readDigits_27 rfl (lv_at hl 0 rfl) ?_
    refine lv_iconst (v := (-1)) hx hb dX3_readDigits_28 (by decide) ?_
    refine lv_icmp_ne (tgt := 34) hx hb dX3_readDigits_29 (by decide) (fun c_2 => ?_) (fun c_2 => ?_)
    · skip
      refine lv_aload_n hx hb dX3_readDigits_34 rfl (lv_at hl 2 rfl) ?_
      refine lv_dup hx hb dX3_readDigits_35 rfl ?_
      refine va_get (D := (dC, dI)) (ci := 3) (v := .int (nI (pl + 1))) (C := RX3) (T := TX3) (N := 6) hx hb hg in_X3 hown hK hP 0 rfl rfl 3 (by decide) (hg _ w_53) (fun _ h9 => h9) rfl dX3_readDigits_36 ?_
      refine lv_iconst (v := 1) hx hb dX3_readDigits_39 (by decide) ?_
      refine lv_iadd hx hb dX3_readDigits_40 ?_
      refine top_eq (y := (nI ((pl + 1) + 1))) (by exact nI_add _ _) ?_
      refine va_put (D := (dC, dI)) (ci := 3) (v := .int (nI ((pl + 1) + 1))) (ty := .int) (C := RX3) (T := TX3) (N := 6) hx hb hg in_X3 tyX3 tyX3_ok nmX3_ok hown hK hP hD hS 0 rfl rfl 3 (by decide) (hg _ w_53) (fun _ h9 => h9) rfl (by decide +kernel) rfl rfl (Nat.le_of_ble_eq_true rfl) dX3_readDigits_41 (fun H locs hP hD hS => ?_)
      have hP : va_P (dC, dI) vwCl [(r, .inr (3, [.ref rs, .ref h, .int (nI len), .int (nI ((pl + 1) + 1)), .int fn, .int fp])), (rs, .inl (cC, 500, .inl sg))] H := hP
      have hD : va_D A [(r, .inr (3, [.ref rs, .ref h, .int (nI len), .int (nI ((pl + 1) + 1)), .int fn, .int fp])), (rs, .inl (cC, 500, .inl sg))] := hD
      refine lv_bipush (v := 10) hx hb dX3_readDigits_44 (by decide) ?_
      refine lv_iload_n hx hb dX3_readDigits_46 rfl (lv_at hl 1 rfl) ?_
      refine lv_imul hx hb dX3_readDigits_47 ?_
      refine lv_iload_n hx hb dX3_readDigits_48 rfl (lv_at hl 0 rfl) ?_
      refine lv_iadd hx hb dX3_readDigits_49 ?_
      have hP9 := hP
      have hS9 := hS
      have h9 : k_readDigits sg len pl = ((10 * (k_digit sg len pl)) + (k_digit sg len (pl + 1)), (pl + 1) + 1) := by simp [k_readDigits, c_1, c_2]
      have h9 := hF.symm.trans h9
      cases h9
      exact W.iret hx hb hr (fun t ht hW => ⟨rfl, by rw [ht]; exact hP9, hS9.F ht⟩) hS9.2.2 dX3_readDigits_50
    · skip
      refine lv_iload_n hx hb dX3_readDigits_32 rfl (lv_at hl 1 rfl) ?_
      have hP9 := hP
      have hS9 := hS
      have h9 : k_readDigits sg len pl = (k_digit sg len pl, pl + 1) := by simp [k_readDigits, c_1, c_2]
      have h9 := hF.symm.trans h9
      cases h9
      exact W.iret hx hb hr (fun t ht hW => ⟨rfl, by rw [ht]; exact hP9, hS9.F ht⟩) hS9.2.2 dX3_readDigits_33
  · skip
    refine lv_iconst (v := (-1)) hx hb dX3_readDigits_10 (by decide) ?_
    have hP9 := hP
    have hS9 := hS
    have h9 : k_readDigits sg len pl = ((-1), pl) := by simp [k_readDigits, c_1]
    have h9 := hF.symm.trans h9
    cases h9
    exact W.iret hx hb hr (fun t ht hW => ⟨rfl, by rw [ht]; exact hP9, hS9.F ht⟩) hS9.2.2 dX3_readDigits_11
set_option maxHeartbeats 4000000 in
set_option maxRecDepth 100000 in
theorem kX3_readSign (l : Launch) (dC : Nat → ClassId) (dI : Nat → Nat → Nat) (B : Nat) (cI cC cJ : ClassId) (r : Nat) (rs : Nat) (h : Nat) (sg : Nat → Int32) (len : Nat) (pl : Nat) (fn : Int32) (fp : Int32) (p0 : Int32) (b1 : Bool) (pl1 : Nat) (fn1 : Int32) (fp1 : Int32) (hlen : len ≤ 500) (hpl : pl ≤ len) (hF : k_readSign sg len p0 pl fn fp = (b1, pl1, fn1, fp1)) (sz9 : Nat) : Met l yX3_readSign wsX3_readSign ({ frames := 1, cells := 0, slots := 0, locals := 22 }) (q_Mp (dC, dI) vwCl [.ref r, .int p0] [(r, .inr (3, [.ref rs, .ref h, .int (nI len), .int (nI pl), .int fn, .int fp])), (rs, .inl (cC, 500, .inl sg))] [(cI, .int), (cC, .char), (cJ, .long)] B sz9) (q_Mq (dC, dI) vwCl [(r, .inr (3, [.ref rs, .ref h, .int (nI len), .int (nI pl1), .int fn1, .int fp1])), (rs, .inl (cC, 500, .inl sg))] (va_A [(r, .inr (3, [.ref rs, .ref h, .int (nI len), .int (nI pl), .int fn, .int fp])), (rs, .inl (cC, 500, .inl sg))] sz9) (some (.int (bI b1)))) 0 0 (va_A [(r, .inr (3, [.ref rs, .ref h, .int (nI len), .int (nI pl), .int fn, .int fp])), (rs, .inl (cC, 500, .inl sg))] sz9) := by
  refine Met.ofW (cc := cX3_readSign) (maxL := 2) (ret := (some .boolean)) (by decide) rfl ?_
  intro p e s m args below meth c s₁ Bd hml hv
  obtain ⟨rfl, hsz9, hB, hP, hK, hD0, hT⟩ := hv
  have hx := Bd.exec
  have hb := Bd.bytes
  have hr := Bd.returns
  have hts := atoms_spec (ws := wsX3_readSign) Bd.pre
  have hg : ∀ w ∈ lw_good, w.before _ s = true := fun w h => hts w (List.mem_cons_of_mem _ h)
  have hown : s.vm.findClass RX3 = some m.cls := findClass_of_methodNamed Bd.named
  have hlocks := Bd.notSynchronized
  subst hsz9
  have hD := hD0.self (sz := s.heap.size)
  generalize hAe : va_A [(r, .inr (3, [.ref rs, .ref h, .int (nI len), .int (nI pl), .int fn, .int fp])), (rs, .inl (cC, 500, .inl sg))] s.heap.size = A at hD ⊢
  have hA : ∀ q : Nat, s.heap.size ≤ q → A q := fun q h => by rw [← hAe]; exact Or.inr h
  have hAB : ∀ q, A q → B ≤ q := by rw [← hAe]; exact va_A.ge hD0 hB
  have hS : va_S A s.heap s.heap [] := va_S.rf
  have hP : va_P (dC, dI) vwCl [(r, .inr (3, [.ref rs, .ref h, .int (nI len), .int (nI pl), .int fn, .int fp])), (rs, .inl (cC, 500, .inl sg))] s.heap := hP
  have hl := lv_entry ([.ref r, .int p0]) (n := 2) (Nat.le_of_ble_eq_true rfl)
  rw [lg_entry_eq]
  generalize (lg_sl ([.ref r, .int p0]) ++ List.replicate (2 - (lg_sl ([.ref r, .int p0])).length) Slot.unset).toArray = ls at hl ⊢
  have hl : lv_has ls 2 [(0, .ref r), (1, .int p0)] := hl
  refine lv_aload_n hx hb dX3_readSign_0 rfl (lv_at hl 0 rfl) ?_
  refine go_R (r := k_sign sg len pl) (va_runV (As := []) (rest := []) ⟨hx, hb, hml, hown, hg⟩ (kX3_signHere l dC dI B cI cC cJ r rs h sg len pl fn fp (by omega) (by omega)) (cwV 0 hg (gi_V w_253 w_254 w_680 w_3 w_255) rfl rfl rfl (by decide +kernel) ⟨Nat.le_of_ble_eq_true rfl, Nat.le_of_ble_eq_true rfl⟩) (pre_RV (va_recv hK hP (ci := 3) (q0 := 0) rfl rfl) (hP.sub [0, 1] rfl) hK hT) rfl rfl hl.1 rfl (lv_room (Nat.le_of_ble_eq_true rfl)) dX3_readSign_1 ⟨Nat.le_of_ble_eq_true rfl, Nat.le_of_ble_eq_true rfl⟩) ?_
  refine lv_iload_n hx hb dX3_readSign_4 rfl (lv_at hl 1 rfl) ?_
  refine lv_icmp_eq (tgt := 18) hx hb dX3_readSign_5 (by decide) (fun c_1 => ?_) (fun c_1 => ?_)
  · skip
    refine lv_aload_n hx hb dX3_readSign_18 rfl (lv_at hl 0 rfl) ?_
    refine lv_dup hx hb dX3_readSign_19 rfl ?_
    refine va_get (D := (dC, dI)) (ci := 3) (v := .int (nI pl)) (C := RX3) (T := TX3) (N := 6) hx hb hg in_X3 hown hK hP 0 rfl rfl 3 (by decide) (hg _ w_53) (fun _ h9 => h9) rfl dX3_readSign_20 ?_
    refine lv_iconst (v := 1) hx hb dX3_readSign_23 (by decide) ?_
    refine lv_iadd hx hb dX3_readSign_24 ?_
    refine top_eq (y := (nI (pl + 1))) (by exact nI_add _ _) ?_
    refine va_put (D := (dC, dI)) (ci := 3) (v := .int (nI (pl + 1))) (ty := .int) (C := RX3) (T := TX3) (N := 6) hx hb hg in_X3 tyX3 tyX3_ok nmX3_ok hown hK hP hD hS 0 rfl rfl 3 (by decide) (hg _ w_53) (fun _ h9 => h9) rfl (by decide +kernel) rfl rfl (Nat.le_of_ble_eq_true rfl) dX3_readSign_25 (fun H locs hP hD hS => ?_)
    have hP : va_P (dC, dI) vwCl [(r, .inr (3, [.ref rs, .ref h, .int (nI len), .int (nI (pl + 1)), .int fn, .int fp])), (rs, .inl (cC, 500, .inl sg))] H := hP
    have hD : va_D A [(r, .inr (3, [.ref rs, .ref h, .int (nI len), .int (nI (pl + 1)), .int fn, .int fp])), (rs, .inl (cC, 500, .inl sg))] := hD
    refine lv_iconst (v := 1) hx hb dX3_readSign_28 (by decide) ?_
    have hP9 := hP
    have hS9 := hS
    have h9 : k_readSign sg len p0 pl fn fp = (true, pl + 1, fn, fp) := by simp [k_readSign, c_1]
    have h9 := hF.symm.trans h9
    cases h9
    exact W.zret (ty := .boolean) hx hb hr rfl (fun t ht hW => ⟨rfl, by rw [ht]; exact hP9, hS9.F ht⟩) hS9.2.2 dX3_readSign_29
  · skip
    refine lv_aload_n hx hb dX3_readSign_8 rfl (lv_at hl 0 rfl) ?_
    refine lv_iconst (v := 1) hx hb dX3_readSign_9 (by decide) ?_
    refine lv_aload_n hx hb dX3_readSign_10 rfl (lv_at hl 0 rfl) ?_
    refine va_get (D := (dC, dI)) (ci := 3) (v := .int (nI pl)) (C := RX3) (T := TX3) (N := 6) hx hb hg in_X3 hown hK hP 0 rfl rfl 3 (by decide) (hg _ w_53) (fun _ h9 => h9) rfl dX3_readSign_11 ?_
    refine go_M (r := some (.int (bI false))) (wc' := [(r, .inr (3, [.ref rs, .ref h, .int (nI len), .int (nI pl), .int 1, .int (nI pl)])), (rs, .inl (cC, 500, .inl sg))]) (w2 := [(r, .inr (3, [.ref rs, .ref h, .int (nI len), .int (nI pl), .int 1, .int (nI pl)])), (rs, .inl (cC, 500, .inl sg))]) [0, 1] (va_runV (As := [.int 1, .int (nI pl)]) (rest := []) ⟨hx, hb, hml, hown, hg⟩ (kX3_fail l dC dI B cI cC cJ r rs h sg len pl fn fp 1 (nI pl) _) (cwV 2 hg (gi_V w_256 w_257 w_681 w_3 w_258) rfl rfl rfl (by decide +kernel) ⟨Nat.le_of_ble_eq_true rfl, Nat.le_of_ble_eq_true rfl⟩) (pre_MV (va_recv hK hP (ci := 3) (q0 := 0) rfl rfl) (Nat.le_trans hB hS.1) (hP.sub [0, 1] rfl) hK ((hD.weaken (fun _ _ _ h => hAB _ h)).sub [0, 1] (by decide) rfl) hT) rfl rfl hl.1 rfl (lv_room (Nat.le_of_ble_eq_true rfl)) dX3_readSign_14 ⟨Nat.le_of_ble_eq_true rfl, Nat.le_of_ble_eq_true rfl⟩) hP hD hS hA rfl (Nat.le_of_ble_eq_true rfl) rfl rfl (fun H locs hP hD hS => ?_)
    refine W.eq (g2 := F0 m 17 ls [.int (bI false)]) rfl ?_
    have hP9 := hP
    have hS9 := hS
    have h9 : k_readSign sg len p0 pl fn fp = (false, pl, 1, (nI pl)) := by simp [k_readSign, c_1]
    have h9 := hF.symm.trans h9
    cases h9
    exact W.zret (ty := .boolean) hx hb hr (bI_nar _) (fun t ht hW => ⟨rfl, by rw [ht]; exact hP9, hS9.F ht⟩) hS9.2.2 dX3_readSign_17
set_option maxHeartbeats 4000000 in
set_option maxRecDepth 100000 in
theorem kX3_readName (l : Launch) (dC : Nat → ClassId) (dI : Nat → Nat → Nat) (B : Nat) (cI cC cJ : ClassId) (r : Nat) (rs : Nat) (sg : Nat → Int32) (len : Nat) (pl : Nat) (fn : Int32) (fp : Int32) (h : Nat) (hk : Nat) (hn : Nat) (hu : Nat) (ks : Nat → Int32) (ns : Nat → Int32) (us : Nat → Int32) (sz : Nat) (p0 : Int32) (b1 : Bool) (ks1 : Nat → Int32) (ns1 : Nat → Int32) (us1 : Nat → Int32) (sz1 : Nat) (pl1 : Nat) (fn1 : Int32) (fp1 : Int32) (hlen : len ≤ 500) (hpl : pl ≤ len) (hsz : sz ≤ 50) (hF : k_readName sg len p0 ks ns us sz pl fn fp = (b1, ks1, ns1, us1, sz1, pl1, fn1, fp1)) (sz9 : Nat) : Met l yX3_readName wsX3_readName ({ frames := 3, cells := 0, slots := 0, locals := 63 }) (q_Mp (dC, dI) vwCl [.ref r, .int p0] [(r, .inr (3, [.ref rs, .ref h, .int (nI len), .int (nI pl), .int fn, .int fp])), (rs, .inl (cC, 500, .inl sg)), (h, .inr (1, [.ref hk, .ref hn, .ref hu, .int (nI sz)])), (hk, .inl (cI, 50, .inl ks)), (hn, .inl (cI, 50, .inl ns)), (hu, .inl (cI, 200, .inl us))] [(cI, .int), (cC, .char), (cJ, .long)] B sz9) (q_Mq (dC, dI) vwCl [(r, .inr (3, [.ref rs, .ref h, .int (nI len), .int (nI pl1), .int fn1, .int fp1])), (rs, .inl (cC, 500, .inl sg)), (h, .inr (1, [.ref hk, .ref hn, .ref hu, .int (nI sz1)])), (hk, .inl (cI, 50, .inl ks1)), (hn, .inl (cI, 50, .inl ns1)), (hu, .inl (cI, 200, .inl us1))] (va_A [(r, .inr (3, [.ref rs, .ref h, .int (nI len), .int (nI pl), .int fn, .int fp])), (rs, .inl (cC, 500, .inl sg)), (h, .inr (1, [.ref hk, .ref hn, .ref hu, .int (nI sz)])), (hk, .inl (cI, 50, .inl ks)), (hn, .inl (cI, 50, .inl ns)), (hu, .inl (cI, 200, .inl us))] sz9) (some (.int (bI b1)))) 0 0 (va_A [(r, .inr (3, [.ref rs, .ref h, .int (nI len), .int (nI pl), .int fn, .int fp])), (rs, .inl (cC, 500, .inl sg)), (h, .inr (1, [.ref hk, .ref hn, .ref hu, .int (nI sz)])), (hk, .inl (cI, 50, .inl ks)), (hn, .inl (cI, 50, .inl ns)), (hu, .inl (cI, 200, .inl us))] sz9) := by
  refine Met.ofW (cc := cX3_readName) (maxL := 4) (ret := (some .boolean)) (by decide) rfl ?_
  intro p e s m args below meth c s₁ Bd hml hv
  obtain ⟨rfl, hsz9, hB, hP, hK, hD0, hT⟩ := hv
  have hx := Bd.exec
  have hb := Bd.bytes
  have hr := Bd.returns
  have hts := atoms_spec (ws := wsX3_readName) Bd.pre
  have hg : ∀ w ∈ lw_good, w.before _ s = true := fun w h => hts w (List.mem_cons_of_mem _ h)
  have hown : s.vm.findClass RX3 = some m.cls := findClass_of_methodNamed Bd.named
  have hlocks := Bd.notSynchronized
  subst hsz9
  have hD := hD0.self (sz := s.heap.size)
  generalize hAe : va_A [(r, .inr (3, [.ref rs, .ref h, .int (nI len), .int (nI pl), .int fn, .int fp])), (rs, .inl (cC, 500, .inl sg)), (h, .inr (1, [.ref hk, .ref hn, .ref hu, .int (nI sz)])), (hk, .inl (cI, 50, .inl ks)), (hn, .inl (cI, 50, .inl ns)), (hu, .inl (cI, 200, .inl us))] s.heap.size = A at hD ⊢
  have hA : ∀ q : Nat, s.heap.size ≤ q → A q := fun q h => by rw [← hAe]; exact Or.inr h
  have hAB : ∀ q, A q → B ≤ q := by rw [← hAe]; exact va_A.ge hD0 hB
  have hS : va_S A s.heap s.heap [] := va_S.rf
  have hP : va_P (dC, dI) vwCl [(r, .inr (3, [.ref rs, .ref h, .int (nI len), .int (nI pl), .int fn, .int fp])), (rs, .inl (cC, 500, .inl sg)), (h, .inr (1, [.ref hk, .ref hn, .ref hu, .int (nI sz)])), (hk, .inl (cI, 50, .inl ks)), (hn, .inl (cI, 50, .inl ns)), (hu, .inl (cI, 200, .inl us))] s.heap := hP
  have hl := lv_entry ([.ref r, .int p0]) (n := 4) (Nat.le_of_ble_eq_true rfl)
  rw [lg_entry_eq]
  generalize (lg_sl ([.ref r, .int p0]) ++ List.replicate (4 - (lg_sl ([.ref r, .int p0])).length) Slot.unset).toArray = ls at hl ⊢
  have hl : lv_has ls 4 [(0, .ref r), (1, .int p0)] := hl
  refine lv_aload_n hx hb dX3_readName_0 rfl (lv_at hl 0 rfl) ?_
  refine va_get (D := (dC, dI)) (ci := 3) (v := .int (nI pl)) (C := RX3) (T := TX3) (N := 6) hx hb hg in_X3 hown hK hP 0 rfl rfl 3 (by decide) (hg _ w_53) (fun _ h9 => h9) rfl dX3_readName_1 ?_
  refine lv_istore_n (lv' := [(2, .int (nI pl)), (0, .ref r), (1, .int p0)]) hx hb dX3_readName_4 rfl hl (by decide) rfl (fun ls hl => ?_)
  refine lv_aload_n hx hb dX3_readName_5 rfl (lv_at hl 1 rfl) ?_
  obtain ⟨x1_1, pl1_1, hF_1⟩ : ∃ (x1_1 : Int32) (pl1_1 : Nat), k_readDigits sg len pl = (x1_1, pl1_1) := ⟨_, _, rfl⟩
  have hq_pl1_1 := k_readDigits_le sg len pl (by omega)
  rw [hF_1] at hq_pl1_1
  have hq_pl1_1 : pl1_1 ≤ len := hq_pl1_1
  refine go_M (r := some (.int x1_1)) (wc' := [(r, .inr (3, [.ref rs, .ref h, .int (nI len), .int (nI pl1_1), .int fn, .int fp])), (rs, .inl (cC, 500, .inl sg))]) (w2 := [(r, .inr (3, [.ref rs, .ref h, .int (nI len), .int (nI pl1_1), .int fn, .int fp])), (rs, .inl (cC, 500, .inl sg)), (h, .inr (1, [.ref hk, .ref hn, .ref hu, .int (nI sz)])), (hk, .inl (cI, 50, .inl ks)), (hn, .inl (cI, 50, .inl ns)), (hu, .inl (cI, 200, .inl us))]) [0, 1] (va_runV (As := []) (rest := []) ⟨hx, hb, hml, hown, hg⟩ (kX3_readDigits l dC dI B cI cC cJ r rs h sg len pl fn fp x1_1 pl1_1 (by omega) (by omega) hF_1 _) (cwV 0 hg (gi_V w_266 w_267 w_683 w_3 w_268) rfl rfl rfl (by decide +kernel) ⟨Nat.le_of_ble_eq_true rfl, Nat.le_of_ble_eq_true rfl⟩) (pre_MV (va_recv hK hP (ci := 3) (q0 := 0) rfl rfl) (Nat.le_trans hB hS.1) (hP.sub [0, 1] rfl) hK ((hD.weaken (fun _ _ _ h => hAB _ h)).sub [0, 1] (by decide) rfl) hT) rfl rfl hl.1 rfl (lv_room (Nat.le_of_ble_eq_true rfl)) dX3_readName_6 ⟨Nat.le_of_ble_eq_true rfl, Nat.le_of_ble_eq_true rfl⟩) hP hD hS hA rfl (Nat.le_of_ble_eq_true rfl) rfl rfl (fun H locs hP hD hS => ?_)
  refine W.eq (g2 := F0 m 9 ls [.int x1_1]) rfl ?_
  refine lv_istore_n (lv' := [(3, .int x1_1), (2, .int (nI pl)), (0, .ref r), (1, .int p0)]) hx hb dX3_readName_9 rfl hl (by decide) rfl (fun ls hl => ?_)
  refine lv_iload_n hx hb dX3_readName_10 rfl (lv_at hl 0 rfl) ?_
  refine lv_iconst (v := (-1)) hx hb dX3_readName_11 (by decide) ?_
  refine lv_icmp_ne (tgt := 25) hx hb dX3_readName_12 (by decide) (fun c_2 => ?_) (fun c_2 => ?_)
  · skip
    refine lv_aload_n hx hb dX3_readName_25 rfl (lv_at hl 2 rfl) ?_
    refine va_get (D := (dC, dI)) (ci := 3) (v := .ref h) (C := RX3) (T := TX3) (N := 6) hx hb hg in_X3 hown hK hP 0 rfl rfl 1 (by decide) (hg _ w_51) (fun _ h9 => h9) rfl dX3_readName_26 ?_
    refine lv_iload_n hx hb dX3_readName_29 rfl (lv_at hl 3 rfl) ?_
    refine lv_iload_n hx hb dX3_readName_30 rfl (lv_at hl 0 rfl) ?_
    refine go_R (r := k_indexOf ks ns p0 x1_1 sz 0) (va_runV (As := [.int p0, .int x1_1]) (rest := []) ⟨hx, hb, hml, hown, hg⟩ (kX1_indexOf l dC dI B cI cC cJ h hk hn hu ks ns us sz p0 x1_1 (by omega)) (cwV 2 hg (gi_V w_272 w_147 w_148 w_4 w_149) rfl rfl rfl (by decide +kernel) ⟨Nat.le_of_ble_eq_true rfl, Nat.le_of_ble_eq_true rfl⟩) (pre_RV (va_recv hK hP (ci := 1) (q0 := 2) rfl rfl) (hP.sub [2, 3, 4, 5] rfl) hK (hT.kept (hS.mono hAB))) rfl rfl hl.1 rfl (lv_room (Nat.le_of_ble_eq_true rfl)) dX3_readName_31 ⟨Nat.le_of_ble_eq_true rfl, Nat.le_of_ble_eq_true rfl⟩) ?_
    refine lv_iconst (v := (-1)) hx hb dX3_readName_34 (by decide) ?_
    refine lv_icmp_eq (tgt := 45) hx hb dX3_readName_35 (by decide) (fun c_3 => ?_) (fun c_3 => ?_)
    · skip
      refine lv_aload_n hx hb dX3_readName_45 rfl (lv_at hl 2 rfl) ?_
      refine va_get (D := (dC, dI)) (ci := 3) (v := .ref h) (C := RX3) (T := TX3) (N := 6) hx hb hg in_X3 hown hK hP 0 rfl rfl 1 (by decide) (hg _ w_51) (fun _ h9 => h9) rfl dX3_readName_46 ?_
      refine lv_iload_n hx hb dX3_readName_49 rfl (lv_at hl 3 rfl) ?_
      refine lv_iload_n hx hb dX3_readName_50 rfl (lv_at hl 0 rfl) ?_
      obtain ⟨ks1_4, ns1_4, sz1_4, hF_4⟩ : ∃ (ks1_4 : Nat → Int32) (ns1_4 : Nat → Int32) (sz1_4 : Nat), k_begin ks ns sz p0 x1_1 = (ks1_4, ns1_4, sz1_4) := ⟨_, _, _, rfl⟩
      refine go_M (r := none) (wc' := [(h, .inr (1, [.ref hk, .ref hn, .ref hu, .int (nI sz1_4)])), (hk, .inl (cI, 50, .inl ks1_4)), (hn, .inl (cI, 50, .inl ns1_4)), (hu, .inl (cI, 200, .inl us))]) (w2 := [(r, .inr (3, [.ref rs, .ref h, .int (nI len), .int (nI pl1_1), .int fn, .int fp])), (rs, .inl (cC, 500, .inl sg)), (h, .inr (1, [.ref hk, .ref hn, .ref hu, .int (nI sz1_4)])), (hk, .inl (cI, 50, .inl ks1_4)), (hn, .inl (cI, 50, .inl ns1_4)), (hu, .inl (cI, 200, .inl us))]) [2, 3, 4, 5] (va_runV (As := [.int p0, .int x1_1]) (rest := []) ⟨hx, hb, hml, hown, hg⟩ (kX1_begin l dC dI B cI cC cJ h hk hn hu ks ns us sz p0 x1_1 ks1_4 ns1_4 sz1_4 (by omega) hF_4 _) (cwV 2 hg (gi_V w_273 w_274 w_275 w_4 w_276) rfl rfl rfl (by decide +kernel) ⟨Nat.le_of_ble_eq_true rfl, Nat.le_of_ble_eq_true rfl⟩) (pre_MV (va_recv hK hP (ci := 1) (q0 := 2) rfl rfl) (Nat.le_trans hB hS.1) (hP.sub [2, 3, 4, 5] rfl) hK ((hD.weaken (fun _ _ _ h => hAB _ h)).sub [2, 3, 4, 5] (by decide) rfl) (hT.kept (hS.mono hAB))) rfl rfl hl.1 rfl (lv_room (Nat.le_of_ble_eq_true rfl)) dX3_readName_51 ⟨Nat.le_of_ble_eq_true rfl, Nat.le_of_ble_eq_true rfl⟩) hP hD hS hA rfl (Nat.le_of_ble_eq_true rfl) rfl rfl (fun H locs hP hD hS => ?_)
      refine W.eq (g2 := F0 m 54 ls []) rfl ?_
      refine lv_iconst (v := 1) hx hb dX3_readName_54 (by decide) ?_
      have hP9 := hP
      have hS9 := hS
      have h9 : k_readName sg len p0 ks ns us sz pl fn fp = (true, ks1_4, ns1_4, us, sz1_4, pl1_1, fn, fp) := by simp [k_readName, hF_1, c_2, c_3, hF_4]
      have h9 := hF.symm.trans h9
      cases h9
      exact W.zret (ty := .boolean) hx hb hr rfl (fun t ht hW => ⟨rfl, by rw [ht]; exact hP9, hS9.F ht⟩) hS9.2.2 dX3_readName_55
    · skip
      refine lv_aload_n hx hb dX3_readName_38 rfl (lv_at hl 2 rfl) ?_
      refine lv_iconst (v := 2) hx hb dX3_readName_39 (by decide) ?_
      refine lv_iload_n hx hb dX3_readName_40 rfl (lv_at hl 1 rfl) ?_
      refine go_M (r := some (.int (bI false))) (wc' := [(r, .inr (3, [.ref rs, .ref h, .int (nI len), .int (nI pl1_1), .int 2, .int (nI pl)])), (rs, .inl (cC, 500, .inl sg))]) (w2 := [(r, .inr (3, [.ref rs, .ref h, .int (nI len), .int (nI pl1_1), .int 2, .int (nI pl)])), (rs, .inl (cC, 500, .inl sg)), (h, .inr (1, [.ref hk, .ref hn, .ref hu, .int (nI sz)])), (hk, .inl (cI, 50, .inl ks)), (hn, .inl (cI, 50, .inl ns)), (hu, .inl (cI, 200, .inl us))]) [0, 1] (va_runV (As := [.int 2, .int (nI pl)]) (rest := []) ⟨hx, hb, hml, hown, hg⟩ (kX3_fail l dC dI B cI cC cJ r rs h sg len pl1_1 fn fp 2 (nI pl) _) (cwV 2 hg (gi_V w_256 w_257 w_681 w_3 w_258) rfl rfl rfl (by decide +kernel) ⟨Nat.le_of_ble_eq_true rfl, Nat.le_of_ble_eq_true rfl⟩) (pre_MV (va_recv hK hP (ci := 3) (q0 := 0) rfl rfl) (Nat.le_trans hB hS.1) (hP.sub [0, 1] rfl) hK ((hD.weaken (fun _ _ _ h => hAB _ h)).sub [0, 1] (by decide) rfl) (hT.kept (hS.mono hAB))) rfl rfl hl.1 rfl (lv_room (Nat.le_of_ble_eq_true rfl)) dX3_readName_41 ⟨Nat.le_of_ble_eq_true rfl, Nat.le_of_ble_eq_true rfl⟩) hP hD hS hA rfl (Nat.le_of_ble_eq_true rfl) rfl rfl (fun H locs hP hD hS => ?_)
      refine W.eq (g2 := F0 m 44 ls [.int (bI false)]) rfl ?_
      have hP9 := hP
      have hS9 := hS
      have h9 : k_readName sg len p0 ks ns us sz pl fn fp = (false, ks, ns, us, sz, pl1_1, 2, (nI pl)) := by simp [k_readName, hF_1, c_2, c_3]
      have h9 := hF.symm.trans h9
      cases h9
      exact W.zret (ty := .boolean) hx hb hr (bI_nar _) (fun t ht hW => ⟨rfl, by rw [ht]; exact hP9, hS9.F ht⟩) hS9.2.2 dX3_readName_44
  · skip
    refine lv_aload_n hx hb dX3_readName_15 rfl (lv_at hl 2 rfl) ?_
    refine lv_iconst (v := 1) hx hb dX3_readName_16 (by decide) ?_
    refine lv_aload_n hx hb dX3_readName_17 rfl (lv_at hl 2 rfl) ?_
    refine va_get (D := (dC, dI)) (ci := 3) (v := .int (nI pl1_1)) (C := RX3) (T := TX3) (N := 6) hx hb hg in_X3 hown hK hP 0 rfl rfl 3 (by decide) (hg _ w_53) (fun _ h9 => h9) rfl dX3_readName_18 ?_
    refine go_M (r := some (.int (bI false))) (wc' := [(r, .inr (3, [.ref rs, .ref h, .int (nI len), .int (nI pl1_1), .int 1, .int (nI pl1_1)])), (rs, .inl (cC, 500, .inl sg))]) (w2 := [(r, .inr (3, [.ref rs, .ref h, .int (nI len), .int (nI pl1_1), .int 1, .int (nI pl1_1)])), (rs, .inl (cC, 500, .inl sg)), (h, .inr (1, [.ref hk, .ref hn, .ref hu, .int (nI sz)])), (hk, .inl (cI, 50, .inl ks)), (hn, .inl (cI, 50, .inl ns)), (hu, .inl (cI, 200, .inl us))]) [0, 1] (va_runV (As := [.int 1, .int (nI pl1_1)]) (rest := []) ⟨hx, hb, hml, hown, hg⟩ (kX3_fail l dC dI B cI cC cJ r rs h sg len pl1_1 fn fp 1 (nI pl1_1) _) (cwV 2 hg (gi_V w_256 w_257 w_681 w_3 w_258) rfl rfl rfl (by decide +kernel) ⟨Nat.le_of_ble_eq_true rfl, Nat.le_of_ble_eq_true rfl⟩) (pre_MV (va_recv hK hP (ci := 3) (q0 := 0) rfl rfl) (Nat.le_trans hB hS.1) (hP.sub [0, 1] rfl) hK ((hD.weaken (fun _ _ _ h => hAB _ h)).sub [0, 1] (by decide) rfl) (hT.kept (hS.mono hAB))) rfl rfl hl.1 rfl (lv_room (Nat.le_of_ble_eq_true rfl)) dX3_readName_21 ⟨Nat.le_of_ble_eq_true rfl, Nat.le_of_ble_eq_true rfl⟩) hP hD hS hA rfl (Nat.le_of_ble_eq_true rfl) rfl rfl (fun H locs hP hD hS => ?_)
    refine W.eq (g2 := F0 m 24 ls [.int (bI false)]) rfl ?_
    have hP9 := hP
    have hS9 := hS
    have h9 : k_readName sg len p0 ks ns us sz pl fn fp = (false, ks, ns, us, sz, pl1_1, 1, (nI pl1_1)) := by simp [k_readName, hF_1, c_2]
    have h9 := hF.symm.trans h9
    cases h9
    exact W.zret (ty := .boolean) hx hb hr (bI_nar _) (fun t ht hW => ⟨rfl, by rw [ht]; exact hP9, hS9.F ht⟩) hS9.2.2 dX3_readName_24
set_option maxHeartbeats 4000000 in
set_option maxRecDepth 100000 in
theorem kX3_readNumber (l : Launch) (dC : Nat → ClassId) (dI : Nat → Nat → Nat) (B : Nat) (cI cC cJ : ClassId) (r : Nat) (rs : Nat) (sg : Nat → Int32) (len : Nat) (pl : Nat) (fn : Int32) (fp : Int32) (h : Nat) (hk : Nat) (hn : Nat) (hu : Nat) (ks : Nat → Int32) (ns : Nat → Int32) (us : Nat → Int32) (sz : Nat) (p0 : Int32) (p1 : Int32) (b1 : Bool) (us1 : Nat → Int32) (pl1 : Nat) (fn1 : Int32) (fp1 : Int32) (hlen : len ≤ 500) (hpl : pl ≤ len) (hsz : sz ≤ 50) (hF : k_readNumber sg len p0 p1 us sz pl fn fp = (b1, us1, pl1, fn1, fp1)) (sz9 : Nat) : Met l yX3_readNumber wsX3_readNumber ({ frames := 3, cells := 0, slots := 0, locals := 66 }) (q_Mp (dC, dI) vwCl [.ref r, .int p0, .int p1] [(r, .inr (3, [.ref rs, .ref h, .int (nI len), .int (nI pl), .int fn, .int fp])), (rs, .inl (cC, 500, .inl sg)), (h, .inr (1, [.ref hk, .ref hn, .ref hu, .int (nI sz)])), (hk, .inl (cI, 50, .inl ks)), (hn, .inl (cI, 50, .inl ns)), (hu, .inl (cI, 200, .inl us))] [(cI, .int), (cC, .char), (cJ, .long)] B sz9) (q_Mq (dC, dI) vwCl [(r, .inr (3, [.ref rs, .ref h, .int (nI len), .int (nI pl1), .int fn1, .int fp1])), (rs, .inl (cC, 500, .inl sg)), (h, .inr (1, [.ref hk, .ref hn, .ref hu, .int (nI sz)])), (hk, .inl (cI, 50, .inl ks)), (hn, .inl (cI, 50, .inl ns)), (hu, .inl (cI, 200, .inl us1))] (va_A [(r, .inr (3, [.ref rs, .ref h, .int (nI len), .int (nI pl), .int fn, .int fp])), (rs, .inl (cC, 500, .inl sg)), (h, .inr (1, [.ref hk, .ref hn, .ref hu, .int (nI sz)])), (hk, .inl (cI, 50, .inl ks)), (hn, .inl (cI, 50, .inl ns)), (hu, .inl (cI, 200, .inl us))] sz9) (some (.int (bI b1)))) 0 0 (va_A [(r, .inr (3, [.ref rs, .ref h, .int (nI len), .int (nI pl), .int fn, .int fp])), (rs, .inl (cC, 500, .inl sg)), (h, .inr (1, [.ref hk, .ref hn, .ref hu, .int (nI sz)])), (hk, .inl (cI, 50, .inl ks)), (hn, .inl (cI, 50, .inl ns)), (hu, .inl (cI, 200, .inl us))] sz9) := by
  refine Met.ofW (cc := cX3_readNumber) (maxL := 6) (ret := (some .boolean)) (by decide) rfl ?_
  intro p e s m args below meth c s₁ Bd hml hv
  obtain ⟨rfl, hsz9, hB, hP, hK, hD0, hT⟩ := hv
  have hx := Bd.exec
  have hb := Bd.bytes
  have hr := Bd.returns
  have hts := atoms_spec (ws := wsX3_readNumber) Bd.pre
  have hg : ∀ w ∈ lw_good, w.before _ s = true := fun w h => hts w (List.mem_cons_of_mem _ h)
  have hown : s.vm.findClass RX3 = some m.cls := findClass_of_methodNamed Bd.named
  have hlocks := Bd.notSynchronized
  subst hsz9
  have hD := hD0.self (sz := s.heap.size)
  generalize hAe : va_A [(r, .inr (3, [.ref rs, .ref h, .int (nI len), .int (nI pl), .int fn, .int fp])), (rs, .inl (cC, 500, .inl sg)), (h, .inr (1, [.ref hk, .ref hn, .ref hu, .int (nI sz)])), (hk, .inl (cI, 50, .inl ks)), (hn, .inl (cI, 50, .inl ns)), (hu, .inl (cI, 200, .inl us))] s.heap.size = A at hD ⊢
  have hA : ∀ q : Nat, s.heap.size ≤ q → A q := fun q h => by rw [← hAe]; exact Or.inr h
  have hAB : ∀ q, A q → B ≤ q := by rw [← hAe]; exact va_A.ge hD0 hB
  have hS : va_S A s.heap s.heap [] := va_S.rf
  have hP : va_P (dC, dI) vwCl [(r, .inr (3, [.ref rs, .ref h, .int (nI len), .int (nI pl), .int fn, .int fp])), (rs, .inl (cC, 500, .inl sg)), (h, .inr (1, [.ref hk, .ref hn, .ref hu, .int (nI sz)])), (hk, .inl (cI, 50, .inl ks)), (hn, .inl (cI, 50, .inl ns)), (hu, .inl (cI, 200, .inl us))] s.heap := hP
  have hl := lv_entry ([.ref r, .int p0, .int p1]) (n := 6) (Nat.le_of_ble_eq_true rfl)
  rw [lg_entry_eq]
  generalize (lg_sl ([.ref r, .int p0, .int p1]) ++ List.replicate (6 - (lg_sl ([.ref r, .int p0, .int p1])).length) Slot.unset).toArray = ls at hl ⊢
  have hl : lv_has ls 6 [(0, .ref r), (1, .int p0), (2, .int p1)] := hl
  refine lv_aload_n hx hb dX3_readNumber_0 rfl (lv_at hl 0 rfl) ?_
  refine va_get (D := (dC, dI)) (ci := 3) (v := .int (nI pl)) (C := RX3) (T := TX3) (N := 6) hx hb hg in_X3 hown hK hP 0 rfl rfl 3 (by decide) (hg _ w_53) (fun _ h9 => h9) rfl dX3_readNumber_1 ?_
  refine lv_istore_n (lv' := [(3, .int (nI pl)), (0, .ref r), (1, .int p0), (2, .int p1)]) hx hb dX3_readNumber_4 rfl hl (by decide) rfl (fun ls hl => ?_)
  refine lv_aload_n hx hb dX3_readNumber_5 rfl (lv_at hl 1 rfl) ?_
  obtain ⟨x1_1, pl1_1, hF_1⟩ : ∃ (x1_1 : Int32) (pl1_1 : Nat), k_readDigits sg len pl = (x1_1, pl1_1) := ⟨_, _, rfl⟩
  have hq_pl1_1 := k_readDigits_le sg len pl (by omega)
  rw [hF_1] at hq_pl1_1
  have hq_pl1_1 : pl1_1 ≤ len := hq_pl1_1
  refine go_M (r := some (.int x1_1)) (wc' := [(r, .inr (3, [.ref rs, .ref h, .int (nI len), .int (nI pl1_1), .int fn, .int fp])), (rs, .inl (cC, 500, .inl sg))]) (w2 := [(r, .inr (3, [.ref rs, .ref h, .int (nI len), .int (nI pl1_1), .int fn, .int fp])), (rs, .inl (cC, 500, .inl sg)), (h, .inr (1, [.ref hk, .ref hn, .ref hu, .int (nI sz)])), (hk, .inl (cI, 50, .inl ks)), (hn, .inl (cI, 50, .inl ns)), (hu, .inl (cI, 200, .inl us))]) [0, 1] (va_runV (As := []) (rest := []) ⟨hx, hb, hml, hown, hg⟩ (kX3_readDigits l dC dI B cI cC cJ r rs h sg len pl fn fp x1_1 pl1_1 (by omega) (by omega) hF_1 _) (cwV 0 hg (gi_V w_266 w_267 w_683 w_3 w_268) rfl rfl rfl (by decide +kernel) ⟨Nat.le_of_ble_eq_true rfl, Nat.le_of_ble_eq_true rfl⟩) (pre_MV (va_recv hK hP (ci := 3) (q0 := 0) rfl rfl) (Nat.le_trans hB hS.1) (hP.sub [0, 1] rfl) hK ((hD.weaken (fun _ _ _ h => hAB _ h)).sub [0, 1] (by decide) rfl) hT) rfl rfl hl.1 rfl (lv_room (Nat.le_of_ble_eq_true rfl)) dX3_readNumber_6 ⟨Nat.le_of_ble_eq_true rfl, Nat.le_of_ble_eq_true rfl⟩) hP hD hS hA rfl (Nat.le_of_ble_eq_true rfl) rfl rfl (fun H locs hP hD hS => ?_)
  refine W.eq (g2 := F0 m 9 ls [.int x1_1]) rfl ?_
  refine lv_istore (lv' := [(4, .int x1_1), (3, .int (nI pl)), (0, .ref r), (1, .int p0), (2, .int p1)]) hx hb dX3_readNumber_9 hl (by decide) rfl (fun ls hl => ?_)
  refine lv_iload hx hb dX3_readNumber_11 (lv_at hl 0 rfl) ?_
  refine lv_iconst (v := (-1)) hx hb dX3_readNumber_13 (by decide) ?_
  refine lv_icmp_ne (tgt := 27) hx hb dX3_readNumber_14 (by decide) (fun c_2 => ?_) (fun c_2 => ?_)
  · skip
    refine lv_aload_n hx hb dX3_readNumber_27 rfl (lv_at hl 2 rfl) ?_
    refine lv_iload_n hx hb dX3_readNumber_28 rfl (lv_at hl 3 rfl) ?_
    refine lv_iload_n hx hb dX3_readNumber_29 rfl (lv_at hl 4 rfl) ?_
    refine lv_iload hx hb dX3_readNumber_30 (lv_at hl 0 rfl) ?_
    refine go_R (r := k_judge us sz p0 p1 x1_1) (va_runV (As := [.int p0, .int p1, .int x1_1]) (rest := []) ⟨hx, hb, hml, hown, hg⟩ (kX3_judgeNumber l dC dI B cI cC cJ r rs sg len pl1_1 fn fp h hk hn hu ks ns us sz p0 p1 x1_1 (by omega) (by omega) (by omega)) (cwV 3 hg (gi_V w_284 w_285 w_687 w_3 w_286) rfl rfl rfl (by decide +kernel) ⟨Nat.le_of_ble_eq_true rfl, Nat.le_of_ble_eq_true rfl⟩) (pre_RV (va_recv hK hP (ci := 3) (q0 := 0) rfl rfl) (hP.sub [0, 1, 2, 3, 4, 5] rfl) hK (hT.kept (hS.mono hAB))) rfl rfl hl.1 rfl (lv_room (Nat.le_of_ble_eq_true rfl)) dX3_readNumber_32 ⟨Nat.le_of_ble_eq_true rfl, Nat.le_of_ble_eq_true rfl⟩) ?_
    refine lv_istore (lv' := [(5, .int (k_judge us sz p0 p1 x1_1)), (4, .int x1_1), (3, .int (nI pl)), (0, .ref r), (1, .int p0), (2, .int p1)]) hx hb dX3_readNumber_35 hl (by decide) rfl (fun ls hl => ?_)
    refine lv_iload hx hb dX3_readNumber_37 (lv_at hl 0 rfl) ?_
    refine lv_if_eq (tgt := 50) hx hb dX3_readNumber_39 (by decide) (fun c_3 => ?_) (fun c_3 => ?_)
    · skip
      refine lv_aload_n hx hb dX3_readNumber_50 rfl (lv_at hl 3 rfl) ?_
      refine va_get (D := (dC, dI)) (ci := 3) (v := .ref h) (C := RX3) (T := TX3) (N := 6) hx hb hg in_X3 hown hK hP 0 rfl rfl 1 (by decide) (hg _ w_51) (fun _ h9 => h9) rfl dX3_readNumber_51 ?_
      refine lv_iload_n hx hb dX3_readNumber_54 rfl (lv_at hl 5 rfl) ?_
      refine lv_iload hx hb dX3_readNumber_55 (lv_at hl 1 rfl) ?_
      obtain ⟨us1_4, hF_4⟩ : ∃ (us1_4 : Nat → Int32), k_setNumber us sz p1 x1_1 = us1_4 := ⟨_, rfl⟩
      refine go_M (r := none) (wc' := [(h, .inr (1, [.ref hk, .ref hn, .ref hu, .int (nI sz)])), (hk, .inl (cI, 50, .inl ks)), (hn, .inl (cI, 50, .inl ns)), (hu, .inl (cI, 200, .inl us1_4))]) (w2 := [(r, .inr (3, [.ref rs, .ref h, .int (nI len), .int (nI pl1_1), .int fn, .int fp])), (rs, .inl (cC, 500, .inl sg)), (h, .inr (1, [.ref hk, .ref hn, .ref hu, .int (nI sz)])), (hk, .inl (cI, 50, .inl ks)), (hn, .inl (cI, 50, .inl ns)), (hu, .inl (cI, 200, .inl us1_4))]) [2, 3, 4, 5] (va_runV (As := [.int p1, .int x1_1]) (rest := []) ⟨hx, hb, hml, hown, hg⟩ (kX1_setNumber l dC dI B cI cC cJ h hk hn hu ks ns us sz p1 x1_1 us1_4 (by omega) hF_4 _) (cwV 2 hg (gi_V w_292 w_293 w_294 w_4 w_295) rfl rfl rfl (by decide +kernel) ⟨Nat.le_of_ble_eq_true rfl, Nat.le_of_ble_eq_true rfl⟩) (pre_MV (va_recv hK hP (ci := 1) (q0 := 2) rfl rfl) (Nat.le_trans hB hS.1) (hP.sub [2, 3, 4, 5] rfl) hK ((hD.weaken (fun _ _ _ h => hAB _ h)).sub [2, 3, 4, 5] (by decide) rfl) (hT.kept (hS.mono hAB))) rfl rfl hl.1 rfl (lv_room (Nat.le_of_ble_eq_true rfl)) dX3_readNumber_57 ⟨Nat.le_of_ble_eq_true rfl, Nat.le_of_ble_eq_true rfl⟩) hP hD hS hA rfl (Nat.le_of_ble_eq_true rfl) rfl rfl (fun H locs hP hD hS => ?_)
      refine W.eq (g2 := F0 m 60 ls []) rfl ?_
      refine lv_iconst (v := 1) hx hb dX3_readNumber_60 (by decide) ?_
      have hP9 := hP
      have hS9 := hS
      have h9 : k_readNumber sg len p0 p1 us sz pl fn fp = (true, us1_4, pl1_1, fn, fp) := by simp [k_readNumber, hF_1, c_2, c_3, hF_4]
      have h9 := hF.symm.trans h9
      cases h9
      exact W.zret (ty := .boolean) hx hb hr rfl (fun t ht hW => ⟨rfl, by rw [ht]; exact hP9, hS9.F ht⟩) hS9.2.2 dX3_readNumber_61
    · skip
      refine lv_aload_n hx hb dX3_readNumber_42 rfl (lv_at hl 3 rfl) ?_
      refine lv_iload hx hb dX3_readNumber_43 (lv_at hl 0 rfl) ?_
      refine lv_iload_n hx hb dX3_readNumber_45 rfl (lv_at hl 2 rfl) ?_
      refine go_M (r := some (.int (bI false))) (wc' := [(r, .inr (3, [.ref rs, .ref h, .int (nI len), .int (nI pl1_1), .int (k_judge us sz p0 p1 x1_1), .int (nI pl)])), (rs, .inl (cC, 500, .inl sg))]) (w2 := [(r, .inr (3, [.ref rs, .ref h, .int (nI len), .int (nI pl1_1), .int (k_judge us sz p0 p1 x1_1), .int (nI pl)])), (rs, .inl (cC, 500, .inl sg)), (h, .inr (1, [.ref hk, .ref hn, .ref hu, .int (nI sz)])), (hk, .inl (cI, 50, .inl ks)), (hn, .inl (cI, 50, .inl ns)), (hu, .inl (cI, 200, .inl us))]) [0, 1] (va_runV (As := [.int (k_judge us sz p0 p1 x1_1), .int (nI pl)]) (rest := []) ⟨hx, hb, hml, hown, hg⟩ (kX3_fail l dC dI B cI cC cJ r rs h sg len pl1_1 fn fp (k_judge us sz p0 p1 x1_1) (nI pl) _) (cwV 2 hg (gi_V w_256 w_257 w_681 w_3 w_258) rfl rfl rfl (by decide +kernel) ⟨Nat.le_of_ble_eq_true rfl, Nat.le_of_ble_eq_true rfl⟩) (pre_MV (va_recv hK hP (ci := 3) (q0 := 0) rfl rfl) (Nat.le_trans hB hS.1) (hP.sub [0, 1] rfl) hK ((hD.weaken (fun _ _ _ h => hAB _ h)).sub [0, 1] (by decide) rfl) (hT.kept (hS.mono hAB))) rfl rfl hl.1 rfl (lv_room (Nat.le_of_ble_eq_true rfl)) dX3_readNumber_46 ⟨Nat.le_of_ble_eq_true rfl, Nat.le_of_ble_eq_true rfl⟩) hP hD hS hA rfl (Nat.le_of_ble_eq_true rfl) rfl rfl (fun H locs hP hD hS => ?_)
      refine W.eq (g2 := F0 m 49 ls [.int (bI false)]) rfl ?_
      have hP9 := hP
      have hS9 := hS
      have h9 : k_readNumber sg len p0 p1 us sz pl fn fp = (false, us, pl1_1, (k_judge us sz p0 p1 x1_1), (nI pl)) := by simp [k_readNumber, hF_1, c_2, c_3]
      have h9 := hF.symm.trans h9
      cases h9
      exact W.zret (ty := .boolean) hx hb hr (bI_nar _) (fun t ht hW => ⟨rfl, by rw [ht]; exact hP9, hS9.F ht⟩) hS9.2.2 dX3_readNumber_49
  · skip
    refine lv_aload_n hx hb dX3_readNumber_17 rfl (lv_at hl 2 rfl) ?_
    refine lv_iconst (v := 1) hx hb dX3_readNumber_18 (by decide) ?_
    refine lv_aload_n hx hb dX3_readNumber_19 rfl (lv_at hl 2 rfl) ?_
    refine va_get (D := (dC, dI)) (ci := 3) (v := .int (nI pl1_1)) (C := RX3) (T := TX3) (N := 6) hx hb hg in_X3 hown hK hP 0 rfl rfl 3 (by decide) (hg _ w_53) (fun _ h9 => h9) rfl dX3_readNumber_20 ?_
    refine go_M (r := some (.int (bI false))) (wc' := [(r, .inr (3, [.ref rs, .ref h, .int (nI len), .int (nI pl1_1), .int 1, .int (nI pl1_1)])), (rs, .inl (cC, 500, .inl sg))]) (w2 := [(r, .inr (3, [.ref rs, .ref h, .int (nI len), .int (nI pl1_1), .int 1, .int (nI pl1_1)])), (rs, .inl (cC, 500, .inl sg)), (h, .inr (1, [.ref hk, .ref hn, .ref hu, .int (nI sz)])), (hk, .inl (cI, 50, .inl ks)), (hn, .inl (cI, 50, .inl ns)), (hu, .inl (cI, 200, .inl us))]) [0, 1] (va_runV (As := [.int 1, .int (nI pl1_1)]) (rest := []) ⟨hx, hb, hml, hown, hg⟩ (kX3_fail l dC dI B cI cC cJ r rs h sg len pl1_1 fn fp 1 (nI pl1_1) _) (cwV 2 hg (gi_V w_256 w_257 w_681 w_3 w_258) rfl rfl rfl (by decide +kernel) ⟨Nat.le_of_ble_eq_true rfl, Nat.le_of_ble_eq_true rfl⟩) (pre_MV (va_recv hK hP (ci := 3) (q0 := 0) rfl rfl) (Nat.le_trans hB hS.1) (hP.sub [0, 1] rfl) hK ((hD.weaken (fun _ _ _ h => hAB _ h)).sub [0, 1] (by decide) rfl) (hT.kept (hS.mono hAB))) rfl rfl hl.1 rfl (lv_room (Nat.le_of_ble_eq_true rfl)) dX3_readNumber_23 ⟨Nat.le_of_ble_eq_true rfl, Nat.le_of_ble_eq_true rfl⟩) hP hD hS hA rfl (Nat.le_of_ble_eq_true rfl) rfl rfl (fun H locs hP hD hS => ?_)
    refine W.eq (g2 := F0 m 26 ls [.int (bI false)]) rfl ?_
    have hP9 := hP
    have hS9 := hS
    have h9 : k_readNumber sg len p0 p1 us sz pl fn fp = (false, us, pl1_1, 1, (nI pl1_1)) := by simp [k_readNumber, hF_1, c_2]
    have h9 := hF.symm.trans h9
    cases h9
    exact W.zret (ty := .boolean) hx hb hr (bI_nar _) (fun t ht hW => ⟨rfl, by rw [ht]; exact hP9, hS9.F ht⟩) hS9.2.2 dX3_readNumber_26
set_option maxHeartbeats 4000000 in
set_option maxRecDepth 100000 in
theorem kX3_readRow (l : Launch) (dC : Nat → ClassId) (dI : Nat → Nat → Nat) (B : Nat) (cI cC cJ : ClassId) (r : Nat) (rs : Nat) (sg : Nat → Int32) (len : Nat) (pl : Nat) (fn : Int32) (fp : Int32) (h : Nat) (hk : Nat) (hn : Nat) (hu : Nat) (ks : Nat → Int32) (ns : Nat → Int32) (us : Nat → Int32) (sz : Nat) (b1 : Bool) (ks1 : Nat → Int32) (ns1 : Nat → Int32) (us1 : Nat → Int32) (sz1 : Nat) (pl1 : Nat) (fn1 : Int32) (fp1 : Int32) (hlen : len ≤ 500) (hpl : pl ≤ len) (hsz : sz ≤ 50) (hF : k_readRow sg len ks ns us sz pl fn fp = (b1, ks1, ns1, us1, sz1, pl1, fn1, fp1)) (sz9 : Nat) : Met l yX3_readRow wsX3_readRow ({ frames := 4, cells := 0, slots := 0, locals := 91 }) (q_Mp (dC, dI) vwCl [.ref r] [(r, .inr (3, [.ref rs, .ref h, .int (nI len), .int (nI pl), .int fn, .int fp])), (rs, .inl (cC, 500, .inl sg)), (h, .inr (1, [.ref hk, .ref hn, .ref hu, .int (nI sz)])), (hk, .inl (cI, 50, .inl ks)), (hn, .inl (cI, 50, .inl ns)), (hu, .inl (cI, 200, .inl us))] [(cI, .int), (cC, .char), (cJ, .long)] B sz9) (q_Mq (dC, dI) vwCl [(r, .inr (3, [.ref rs, .ref h, .int (nI len), .int (nI pl1), .int fn1, .int fp1])), (rs, .inl (cC, 500, .inl sg)), (h, .inr (1, [.ref hk, .ref hn, .ref hu, .int (nI sz1)])), (hk, .inl (cI, 50, .inl ks1)), (hn, .inl (cI, 50, .inl ns1)), (hu, .inl (cI, 200, .inl us1))] (va_A [(r, .inr (3, [.ref rs, .ref h, .int (nI len), .int (nI pl), .int fn, .int fp])), (rs, .inl (cC, 500, .inl sg)), (h, .inr (1, [.ref hk, .ref hn, .ref hu, .int (nI sz)])), (hk, .inl (cI, 50, .inl ks)), (hn, .inl (cI, 50, .inl ns)), (hu, .inl (cI, 200, .inl us))] sz9) (some (.int (bI b1)))) 0 0 (va_A [(r, .inr (3, [.ref rs, .ref h, .int (nI len), .int (nI pl), .int fn, .int fp])), (rs, .inl (cC, 500, .inl sg)), (h, .inr (1, [.ref hk, .ref hn, .ref hu, .int (nI sz)])), (hk, .inl (cI, 50, .inl ks)), (hn, .inl (cI, 50, .inl ns)), (hu, .inl (cI, 200, .inl us))] sz9) := by
  refine Met.ofW (cc := cX3_readRow) (maxL := 4) (ret := (some .boolean)) (by decide) rfl ?_
  intro p e s m args below meth c s₁ Bd hml hv
  obtain ⟨rfl, hsz9, hB, hP, hK, hD0, hT⟩ := hv
  have hx := Bd.exec
  have hb := Bd.bytes
  have hr := Bd.returns
  have hts := atoms_spec (ws := wsX3_readRow) Bd.pre
  have hg : ∀ w ∈ lw_good, w.before _ s = true := fun w h => hts w (List.mem_cons_of_mem _ h)
  have hown : s.vm.findClass RX3 = some m.cls := findClass_of_methodNamed Bd.named
  have hlocks := Bd.notSynchronized
  subst hsz9
  have hD := hD0.self (sz := s.heap.size)
  generalize hAe : va_A [(r, .inr (3, [.ref rs, .ref h, .int (nI len), .int (nI pl), .int fn, .int fp])), (rs, .inl (cC, 500, .inl sg)), (h, .inr (1, [.ref hk, .ref hn, .ref hu, .int (nI sz)])), (hk, .inl (cI, 50, .inl ks)), (hn, .inl (cI, 50, .inl ns)), (hu, .inl (cI, 200, .inl us))] s.heap.size = A at hD ⊢
  have hA : ∀ q : Nat, s.heap.size ≤ q → A q := fun q h => by rw [← hAe]; exact Or.inr h
  have hAB : ∀ q, A q → B ≤ q := by rw [← hAe]; exact va_A.ge hD0 hB
  have hS : va_S A s.heap s.heap [] := va_S.rf
  have hP : va_P (dC, dI) vwCl [(r, .inr (3, [.ref rs, .ref h, .int (nI len), .int (nI pl), .int fn, .int fp])), (rs, .inl (cC, 500, .inl sg)), (h, .inr (1, [.ref hk, .ref hn, .ref hu, .int (nI sz)])), (hk, .inl (cI, 50, .inl ks)), (hn, .inl (cI, 50, .inl ns)), (hu, .inl (cI, 200, .inl us))] s.heap := hP
  have hl := lv_entry ([.ref r]) (n := 4) (Nat.le_of_ble_eq_true rfl)
  rw [lg_entry_eq]
  generalize (lg_sl ([.ref r]) ++ List.replicate (4 - (lg_sl ([.ref r])).length) Slot.unset).toArray = ls at hl ⊢
  have hl : lv_has ls 4 [(0, .ref r)] := hl
  refine lv_aload_n hx hb dX3_readRow_0 rfl (lv_at hl 0 rfl) ?_
  refine go_R (r := k_kindF (k_sign sg len pl) 0) (va_runV (As := []) (rest := []) ⟨hx, hb, hml, hown, hg⟩ (kX3_kindHere l dC dI B cI cC cJ r rs h sg len pl fn fp (by omega) (by omega)) (cwV 0 hg (gi_V w_250 w_251 w_679 w_3 w_252) rfl rfl rfl (by decide +kernel) ⟨Nat.le_of_ble_eq_true rfl, Nat.le_of_ble_eq_true rfl⟩) (pre_RV (va_recv hK hP (ci := 3) (q0 := 0) rfl rfl) (hP.sub [0, 1] rfl) hK hT) rfl rfl hl.1 rfl (lv_room (Nat.le_of_ble_eq_true rfl)) dX3_readRow_1 ⟨Nat.le_of_ble_eq_true rfl, Nat.le_of_ble_eq_true rfl⟩) ?_
  refine lv_istore_n (lv' := [(1, .int (k_kindF (k_sign sg len pl) 0)), (0, .ref r)]) hx hb dX3_readRow_4 rfl hl (by decide) rfl (fun ls hl => ?_)
  refine lv_iload_n hx hb dX3_readRow_5 rfl (lv_at hl 0 rfl) ?_
  refine lv_iconst (v := (-1)) hx hb dX3_readRow_6 (by decide) ?_
  refine lv_icmp_ne (tgt := 20) hx hb dX3_readRow_7 (by decide) (fun c_1 => ?_) (fun c_1 => ?_)
  · skip
    refine lv_aload_n hx hb dX3_readRow_20 rfl (lv_at hl 1 rfl) ?_
    refine va_get (D := (dC, dI)) (ci := 3) (v := .ref h) (C := RX3) (T := TX3) (N := 6) hx hb hg in_X3 hown hK hP 0 rfl rfl 1 (by decide) (hg _ w_51) (fun _ h9 => h9) rfl dX3_readRow_21 ?_
    refine go_R (r := (bI (k_isFull sz))) (va_runV (As := []) (rest := []) ⟨hx, hb, hml, hown, hg⟩ (kX1_isFull l dC dI B cI cC cJ h hk hn hu ks ns us sz (by omega)) (cwV 0 hg (gi_V w_259 w_260 w_261 w_4 w_262) rfl rfl rfl (by decide +kernel) ⟨Nat.le_of_ble_eq_true rfl, Nat.le_of_ble_eq_true rfl⟩) (pre_RV (va_recv hK hP (ci := 1) (q0 := 2) rfl rfl) (hP.sub [2, 3, 4, 5] rfl) hK hT) rfl rfl hl.1 rfl (lv_room (Nat.le_of_ble_eq_true rfl)) dX3_readRow_24 ⟨Nat.le_of_ble_eq_true rfl, Nat.le_of_ble_eq_true rfl⟩) ?_
    refine lv_if_eq (tgt := 40) hx hb dX3_readRow_27 (by decide) (fun c_2 => ?_) (fun c_2 => ?_)
    · skip
      have c_2 := bI_eq0 c_2
      have hfl := k_isFull_lt c_2
      have hpl1 := k_kindF_lt c_1
      refine lv_aload_n hx hb dX3_readRow_40 rfl (lv_at hl 1 rfl) ?_
      refine lv_dup hx hb dX3_readRow_41 rfl ?_
      refine va_get (D := (dC, dI)) (ci := 3) (v := .int (nI pl)) (C := RX3) (T := TX3) (N := 6) hx hb hg in_X3 hown hK hP 0 rfl rfl 3 (by decide) (hg _ w_53) (fun _ h9 => h9) rfl dX3_readRow_42 ?_
      refine lv_iconst (v := 1) hx hb dX3_readRow_45 (by decide) ?_
      refine lv_iadd hx hb dX3_readRow_46 ?_
      refine top_eq (y := (nI (pl + 1))) (by exact nI_add _ _) ?_
      refine va_put (D := (dC, dI)) (ci := 3) (v := .int (nI (pl + 1))) (ty := .int) (C := RX3) (T := TX3) (N := 6) hx hb hg in_X3 tyX3 tyX3_ok nmX3_ok hown hK hP hD hS 0 rfl rfl 3 (by decide) (hg _ w_53) (fun _ h9 => h9) rfl (by decide +kernel) rfl rfl (Nat.le_of_ble_eq_true rfl) dX3_readRow_47 (fun H locs hP hD hS => ?_)
      have hP : va_P (dC, dI) vwCl [(r, .inr (3, [.ref rs, .ref h, .int (nI len), .int (nI (pl + 1)), .int fn, .int fp])), (rs, .inl (cC, 500, .inl sg)), (h, .inr (1, [.ref hk, .ref hn, .ref hu, .int (nI sz)])), (hk, .inl (cI, 50, .inl ks)), (hn, .inl (cI, 50, .inl ns)), (hu, .inl (cI, 200, .inl us))] H := hP
      have hD : va_D A [(r, .inr (3, [.ref rs, .ref h, .int (nI len), .int (nI (pl + 1)), .int fn, .int fp])), (rs, .inl (cC, 500, .inl sg)), (h, .inr (1, [.ref hk, .ref hn, .ref hu, .int (nI sz)])), (hk, .inl (cI, 50, .inl ks)), (hn, .inl (cI, 50, .inl ns)), (hu, .inl (cI, 200, .inl us))] := hD
      refine lv_aload_n hx hb dX3_readRow_50 rfl (lv_at hl 1 rfl) ?_
      refine lv_iload_n hx hb dX3_readRow_51 rfl (lv_at hl 0 rfl) ?_
      obtain ⟨b1_3, ks1_3, ns1_3, us1_3, sz1_3, pl1_3, fn1_3, fp1_3, hF_3⟩ : ∃ (b1_3 : Bool) (ks1_3 : Nat → Int32) (ns1_3 : Nat → Int32) (us1_3 : Nat → Int32) (sz1_3 : Nat) (pl1_3 : Nat) (fn1_3 : Int32) (fp1_3 : Int32), k_readName sg len (k_kindF (k_sign sg len pl) 0) ks ns us sz (pl + 1) fn fp = (b1_3, ks1_3, ns1_3, us1_3, sz1_3, pl1_3, fn1_3, fp1_3) := ⟨_, _, _, _, _, _, _, _, rfl⟩
      have hq_pl1_3 := k_readName_ok sg len (k_kindF (k_sign sg len pl) 0) ks ns us sz (pl + 1) fn fp (by omega) (by omega)
      rw [hF_3] at hq_pl1_3
      have hq_pl1_3 : sz1_3 ≤ 50 ∧ pl1_3 ≤ len := hq_pl1_3
      obtain ⟨hs_pl1_3, hq_pl1_3⟩ := hq_pl1_3
      refine go_M (r := some (.int (bI b1_3))) (wc' := [(r, .inr (3, [.ref rs, .ref h, .int (nI len), .int (nI pl1_3), .int fn1_3, .int fp1_3])), (rs, .inl (cC, 500, .inl sg)), (h, .inr (1, [.ref hk, .ref hn, .ref hu, .int (nI sz1_3)])), (hk, .inl (cI, 50, .inl ks1_3)), (hn, .inl (cI, 50, .inl ns1_3)), (hu, .inl (cI, 200, .inl us1_3))]) (w2 := [(r, .inr (3, [.ref rs, .ref h, .int (nI len), .int (nI pl1_3), .int fn1_3, .int fp1_3])), (rs, .inl (cC, 500, .inl sg)), (h, .inr (1, [.ref hk, .ref hn, .ref hu, .int (nI sz1_3)])), (hk, .inl (cI, 50, .inl ks1_3)), (hn, .inl (cI, 50, .inl ns1_3)), (hu, .inl (cI, 200, .inl us1_3))]) [0, 1, 2, 3, 4, 5] (va_runV (As := [.int (k_kindF (k_sign sg len pl) 0)]) (rest := []) ⟨hx, hb, hml, hown, hg⟩ (kX3_readName l dC dI B cI cC cJ r rs sg len (pl + 1) fn fp h hk hn hu ks ns us sz (k_kindF (k_sign sg len pl) 0) b1_3 ks1_3 ns1_3 us1_3 sz1_3 pl1_3 fn1_3 fp1_3 (by omega) (by omega) (by omega) hF_3 _) (cwV 1 hg (gi_V w_263 w_264 w_682 w_3 w_265) rfl rfl rfl (by decide +kernel) ⟨Nat.le_of_ble_eq_true rfl, Nat.le_of_ble_eq_true rfl⟩) (pre_MV (va_recv hK hP (ci := 3) (q0 := 0) rfl rfl) (Nat.le_trans hB hS.1) (hP.sub [0, 1, 2, 3, 4, 5] rfl) hK ((hD.weaken (fun _ _ _ h => hAB _ h)).sub [0, 1, 2, 3, 4, 5] (by decide) rfl) (hT.kept (hS.mono hAB))) rfl rfl hl.1 rfl (lv_room (Nat.le_of_ble_eq_true rfl)) dX3_readRow_52 ⟨Nat.le_of_ble_eq_true rfl, Nat.le_of_ble_eq_true rfl⟩) hP hD hS hA rfl (Nat.le_of_ble_eq_true rfl) rfl rfl (fun H locs hP hD hS => ?_)
      refine W.eq (g2 := F0 m 55 ls [.int (bI b1_3)]) rfl ?_
      refine lv_if_eq (tgt := 67) hx hb dX3_readRow_55 (by decide) (fun c_4 => ?_) (fun c_4 => ?_)
      · skip
        have c_4 := bI_eq0 c_4
        refine lv_iconst (v := 0) hx hb dX3_readRow_67 (by decide) ?_
        have hP9 := hP
        have hS9 := hS
        have h9 : k_readRow sg len ks ns us sz pl fn fp = (false, ks1_3, ns1_3, us1_3, sz1_3, pl1_3, fn1_3, fp1_3) := by simp [k_readRow, c_1, c_2, hF_3, c_4]
        have h9 := hF.symm.trans h9
        cases h9
        exact W.zret (ty := .boolean) hx hb hr rfl (fun t ht hW => ⟨rfl, by rw [ht]; exact hP9, hS9.F ht⟩) hS9.2.2 dX3_readRow_68
      · skip
        have c_4 := bI_ne0 c_4
        refine lv_aload_n hx hb dX3_readRow_58 rfl (lv_at hl 1 rfl) ?_
        refine lv_bipush (v := 61) hx hb dX3_readRow_59 (by decide) ?_
        obtain ⟨b1_5, pl1_5, fn1_5, fp1_5, hF_5⟩ : ∃ (b1_5 : Bool) (pl1_5 : Nat) (fn1_5 : Int32) (fp1_5 : Int32), k_readSign sg len 61 pl1_3 fn1_3 fp1_3 = (b1_5, pl1_5, fn1_5, fp1_5) := ⟨_, _, _, _, rfl⟩
        have hq_pl1_5 := k_readSign_le sg len 61 pl1_3 fn1_3 fp1_3 (by omega) (by decide)
        rw [hF_5] at hq_pl1_5
        have hq_pl1_5 : pl1_5 ≤ len := hq_pl1_5
        refine go_M (r := some (.int (bI b1_5))) (wc' := [(r, .inr (3, [.ref rs, .ref h, .int (nI len), .int (nI pl1_5), .int fn1_5, .int fp1_5])), (rs, .inl (cC, 500, .inl sg))]) (w2 := [(r, .inr (3, [.ref rs, .ref h, .int (nI len), .int (nI pl1_5), .int fn1_5, .int fp1_5])), (rs, .inl (cC, 500, .inl sg)), (h, .inr (1, [.ref hk, .ref hn, .ref hu, .int (nI sz1_3)])), (hk, .inl (cI, 50, .inl ks1_3)), (hn, .inl (cI, 50, .inl ns1_3)), (hu, .inl (cI, 200, .inl us1_3))]) [0, 1] (va_runV (As := [.int 61]) (rest := []) ⟨hx, hb, hml, hown, hg⟩ (kX3_readSign l dC dI B cI cC cJ r rs h sg len pl1_3 fn1_3 fp1_3 61 b1_5 pl1_5 fn1_5 fp1_5 (by omega) (by omega) hF_5 _) (cwV 1 hg (gi_V w_278 w_279 w_685 w_3 w_280) rfl rfl rfl (by decide +kernel) ⟨Nat.le_of_ble_eq_true rfl, Nat.le_of_ble_eq_true rfl⟩) (pre_MV (va_recv hK hP (ci := 3) (q0 := 0) rfl rfl) (Nat.le_trans hB hS.1) (hP.sub [0, 1] rfl) hK ((hD.weaken (fun _ _ _ h => hAB _ h)).sub [0, 1] (by decide) rfl) (hT.kept (hS.mono hAB))) rfl rfl hl.1 rfl (lv_room (Nat.le_of_ble_eq_true rfl)) dX3_readRow_61 ⟨Nat.le_of_ble_eq_true rfl, Nat.le_of_ble_eq_true rfl⟩) hP hD hS hA rfl (Nat.le_of_ble_eq_true rfl) rfl rfl (fun H locs hP hD hS => ?_)
        refine W.eq (g2 := F0 m 64 ls [.int (bI b1_5)]) rfl ?_
        refine lv_if_ne (tgt := 69) hx hb dX3_readRow_64 (by decide) (fun c_6 => ?_) (fun c_6 => ?_)
        · skip
          have c_6 := bI_ne0 c_6
          refine lv_iload_n hx hb dX3_readRow_69 rfl (lv_at hl 0 rfl) ?_
          refine go_R (r := (nI (k_nK (k_kindF (k_sign sg len pl) 0)))) (va_runSN (As := [.int (k_kindF (k_sign sg len pl) 0)]) (rest := []) ⟨hx, hb, hml, hown, hg⟩ (kX5_numbersOfKind l dC dI B cI cC cJ (k_kindF (k_sign sg len pl) 0)) ⟨va_cnB 1 hg (gi_N w_210) rfl rfl rfl (st_B.nM hT (q := ("HarbourText$TextReader", 61, yX5_numbersOfKind)) (List.mem_of_getElem? (i := 8) rfl)) (hg _ w_2) (by decide +kernel) ⟨Nat.le_of_ble_eq_true rfl, Nat.le_of_ble_eq_true rfl⟩, hg _ w_209, trivial⟩ (pre_RS (hP.sub [] rfl) hK (hT.kept (hS.mono hAB))) rfl rfl hl.1 rfl (lv_room (Nat.le_of_ble_eq_true rfl)) dX3_readRow_70 ⟨Nat.le_of_ble_eq_true rfl, Nat.le_of_ble_eq_true rfl⟩) ?_
          have hm4 := k_nK_le (k_kindF (k_sign sg len pl) 0)
          refine lv_istore_n (lv' := [(2, .int (nI (k_nK (k_kindF (k_sign sg len pl) 0)))), (1, .int (k_kindF (k_sign sg len pl) 0)), (0, .ref r)]) hx hb dX3_readRow_73 rfl hl (by decide) rfl (fun ls hl => ?_)
          refine lv_iconst (v := 0) hx hb dX3_readRow_74 (by decide) ?_
          refine lv_istore_n (lv' := [(3, .int 0), (2, .int (nI (k_nK (k_kindF (k_sign sg len pl) 0)))), (1, .int (k_kindF (k_sign sg len pl) 0)), (0, .ref r)]) hx hb dX3_readRow_75 rfl hl (by decide) rfl (fun ls hl => ?_)
          refine loop_M (σ := Nat × (Nat → Int32) × Nat × Int32 × Int32) (fun n x H locs ls => k_nK (k_kindF (k_sign sg len pl) 0) - x.1 < n ∧ x.1 ≤ k_nK (k_kindF (k_sign sg len pl) 0) ∧ x.2.2.1 ≤ len ∧ k_readRow sg len ks ns us sz pl fn fp = k_rowEnd ks1_3 ns1_3 sz1_3 (k_nums sg len (k_kindF (k_sign sg len pl) 0) (k_nK (k_kindF (k_sign sg len pl) 0)) x.1 x.2.1 sz1_3 x.2.2.1 x.2.2.2.1 x.2.2.2.2) ∧ va_P (dC, dI) vwCl [(r, .inr (3, [.ref rs, .ref h, .int (nI len), .int (nI x.2.2.1), .int x.2.2.2.1, .int x.2.2.2.2])), (rs, .inl (cC, 500, .inl sg)), (h, .inr (1, [.ref hk, .ref hn, .ref hu, .int (nI sz1_3)])), (hk, .inl (cI, 50, .inl ks1_3)), (hn, .inl (cI, 50, .inl ns1_3)), (hu, .inl (cI, 200, .inl x.2.1))] H ∧ va_D A [(r, .inr (3, [.ref rs, .ref h, .int (nI len), .int (nI x.2.2.1), .int x.2.2.2.1, .int x.2.2.2.2])), (rs, .inl (cC, 500, .inl sg)), (h, .inr (1, [.ref hk, .ref hn, .ref hu, .int (nI sz1_3)])), (hk, .inl (cI, 50, .inl ks1_3)), (hn, .inl (cI, 50, .inl ns1_3)), (hu, .inl (cI, 200, .inl x.2.1))] ∧ va_S A s.heap H locs ∧ lv_has ls 4 [(0, .ref r), (1, .int (k_kindF (k_sign sg len pl) 0)), (2, .int (nI (k_nK (k_kindF (k_sign sg len pl) 0)))), (3, .int (nI x.1))]) (fun n x H locs ls ih_7 hI => ?_) (fun x H locs ls hI => ?_) (n := (k_nK (k_kindF (k_sign sg len pl) 0) - 0) + 1) (x := (0, us1_3, pl1_5, fn1_5, fp1_5)) ⟨(Nat.lt_succ_self _), (by (try dsimp only); omega), (by (try dsimp only); omega), (by simp [k_readRow, c_1, c_2, hF_3, c_4, hF_5, c_6]), hP, hD, hS, lv_sub hl [3, 2, 1, 0] rfl⟩
          · skip
            obtain ⟨k, usx, plx, fnx, fpx⟩ := x
            obtain ⟨hfu, hk0, hpx, he, hP, hD, hS, hl⟩ := hI
            have hfu : k_nK (k_kindF (k_sign sg len pl) 0) - k < n + 1 := hfu
            have hk0 : k ≤ k_nK (k_kindF (k_sign sg len pl) 0) := hk0
            have hpx : plx ≤ len := hpx
            have he : k_readRow sg len ks ns us sz pl fn fp = k_rowEnd ks1_3 ns1_3 sz1_3 (k_nums sg len (k_kindF (k_sign sg len pl) 0) (k_nK (k_kindF (k_sign sg len pl) 0)) k usx sz1_3 plx fnx fpx) := he
            have hP : va_P (dC, dI) vwCl [(r, .inr (3, [.ref rs, .ref h, .int (nI len), .int (nI plx), .int fnx, .int fpx])), (rs, .inl (cC, 500, .inl sg)), (h, .inr (1, [.ref hk, .ref hn, .ref hu, .int (nI sz1_3)])), (hk, .inl (cI, 50, .inl ks1_3)), (hn, .inl (cI, 50, .inl ns1_3)), (hu, .inl (cI, 200, .inl usx))] H := hP
            have hD : va_D A [(r, .inr (3, [.ref rs, .ref h, .int (nI len), .int (nI plx), .int fnx, .int fpx])), (rs, .inl (cC, 500, .inl sg)), (h, .inr (1, [.ref hk, .ref hn, .ref hu, .int (nI sz1_3)])), (hk, .inl (cI, 50, .inl ks1_3)), (hn, .inl (cI, 50, .inl ns1_3)), (hu, .inl (cI, 200, .inl usx))] := hD
            have hl : lv_has ls 4 [(0, .ref r), (1, .int (k_kindF (k_sign sg len pl) 0)), (2, .int (nI (k_nK (k_kindF (k_sign sg len pl) 0)))), (3, .int (nI k))] := hl
            have hm4 := k_nK_le (k_kindF (k_sign sg len pl) 0)
            refine lv_iload_n hx hb dX3_readRow_76 rfl (lv_at hl 3 rfl) ?_
            refine lv_iload_n hx hb dX3_readRow_77 rfl (lv_at hl 2 rfl) ?_
            refine lv_icmp_ge (tgt := 119) hx hb dX3_readRow_78 (by decide) (fun c_8 => ?_) (fun c_8 => ?_)
            · skip
              have c_8 := na_le (a := k_nK (k_kindF (k_sign sg len pl) 0)) (b := k) c_8 (by omega) (by omega)
              refine lv_iconst (v := 1) hx hb dX3_readRow_119 (by decide) ?_
              have hP9 := hP
              have hS9 := hS
              have h9 : k_readRow sg len ks ns us sz pl fn fp = (true, ks1_3, ns1_3, usx, sz1_3, plx, fnx, fpx) := by rw [he, k_nums]; simp [k_rowEnd, c_8]
              have h9 := hF.symm.trans h9
              cases h9
              exact W.zret (ty := .boolean) hx hb hr rfl (fun t ht hW => ⟨rfl, by rw [ht]; exact hP9, hS9.F ht⟩) hS9.2.2 dX3_readRow_120
            · skip
              have c_8 := na_nle (a := k_nK (k_kindF (k_sign sg len pl) 0)) (b := k) c_8 (by omega) (by omega)
              refine lv_aload_n hx hb dX3_readRow_81 rfl (lv_at hl 0 rfl) ?_
              refine lv_iload_n hx hb dX3_readRow_82 rfl (lv_at hl 1 rfl) ?_
              refine lv_iload_n hx hb dX3_readRow_83 rfl (lv_at hl 3 rfl) ?_
              obtain ⟨b1_9, us1_9, pl1_9, fn1_9, fp1_9, hF_9⟩ : ∃ (b1_9 : Bool) (us1_9 : Nat → Int32) (pl1_9 : Nat) (fn1_9 : Int32) (fp1_9 : Int32), k_readNumber sg len (k_kindF (k_sign sg len pl) 0) (nI k) usx sz1_3 plx fnx fpx = (b1_9, us1_9, pl1_9, fn1_9, fp1_9) := ⟨_, _, _, _, _, rfl⟩
              have hq_pl1_9 := k_readNumber_le sg len (k_kindF (k_sign sg len pl) 0) (nI k) usx sz1_3 plx fnx fpx (by omega)
              rw [hF_9] at hq_pl1_9
              have hq_pl1_9 : pl1_9 ≤ len := hq_pl1_9
              refine go_M (r := some (.int (bI b1_9))) (wc' := [(r, .inr (3, [.ref rs, .ref h, .int (nI len), .int (nI pl1_9), .int fn1_9, .int fp1_9])), (rs, .inl (cC, 500, .inl sg)), (h, .inr (1, [.ref hk, .ref hn, .ref hu, .int (nI sz1_3)])), (hk, .inl (cI, 50, .inl ks1_3)), (hn, .inl (cI, 50, .inl ns1_3)), (hu, .inl (cI, 200, .inl us1_9))]) (w2 := [(r, .inr (3, [.ref rs, .ref h, .int (nI len), .int (nI pl1_9), .int fn1_9, .int fp1_9])), (rs, .inl (cC, 500, .inl sg)), (h, .inr (1, [.ref hk, .ref hn, .ref hu, .int (nI sz1_3)])), (hk, .inl (cI, 50, .inl ks1_3)), (hn, .inl (cI, 50, .inl ns1_3)), (hu, .inl (cI, 200, .inl us1_9))]) [0, 1, 2, 3, 4, 5] (va_runV (As := [.int (k_kindF (k_sign sg len pl) 0), .int (nI k)]) (rest := []) ⟨hx, hb, hml, hown, hg⟩ (kX3_readNumber l dC dI B cI cC cJ r rs sg len plx fnx fpx h hk hn hu ks1_3 ns1_3 usx sz1_3 (k_kindF (k_sign sg len pl) 0) (nI k) b1_9 us1_9 pl1_9 fn1_9 fp1_9 (by omega) (by omega) (by omega) hF_9 _) (cwV 2 hg (gi_V w_281 w_282 w_686 w_3 w_283) rfl rfl rfl (by decide +kernel) ⟨Nat.le_of_ble_eq_true rfl, Nat.le_of_ble_eq_true rfl⟩) (pre_MV (va_recv hK hP (ci := 3) (q0 := 0) rfl rfl) (Nat.le_trans hB hS.1) (hP.sub [0, 1, 2, 3, 4, 5] rfl) hK ((hD.weaken (fun _ _ _ h => hAB _ h)).sub [0, 1, 2, 3, 4, 5] (by decide) rfl) (hT.kept (hS.mono hAB))) rfl rfl hl.1 rfl (lv_room (Nat.le_of_ble_eq_true rfl)) dX3_readRow_84 ⟨Nat.le_of_ble_eq_true rfl, Nat.le_of_ble_eq_true rfl⟩) hP hD hS hA rfl (Nat.le_of_ble_eq_true rfl) rfl rfl (fun H locs hP hD hS => ?_)
              refine W.eq (g2 := F0 m 87 ls [.int (bI b1_9)]) rfl ?_
              refine lv_if_eq (tgt := 111) hx hb dX3_readRow_87 (by decide) (fun c_10 => ?_) (fun c_10 => ?_)
              · skip
                have c_10 := bI_eq0 c_10
                refine lv_iconst (v := 0) hx hb dX3_readRow_111 (by decide) ?_
                have hP9 := hP
                have hS9 := hS
                have h9 : k_readRow sg len ks ns us sz pl fn fp = (false, ks1_3, ns1_3, us1_9, sz1_3, pl1_9, fn1_9, fp1_9) := by rw [he, k_nums]; simp [k_rowEnd, c_8, hF_9, c_10]
                have h9 := hF.symm.trans h9
                cases h9
                exact W.zret (ty := .boolean) hx hb hr rfl (fun t ht hW => ⟨rfl, by rw [ht]; exact hP9, hS9.F ht⟩) hS9.2.2 dX3_readRow_112
              · skip
                have c_10 := bI_ne0 c_10
                refine lv_aload_n hx hb dX3_readRow_90 rfl (lv_at hl 0 rfl) ?_
                refine lv_iload_n hx hb dX3_readRow_91 rfl (lv_at hl 3 rfl) ?_
                refine lv_iconst (v := 1) hx hb dX3_readRow_92 (by decide) ?_
                refine lv_iadd hx hb dX3_readRow_93 ?_
                refine top_eq (y := (nI (k + 1))) (by exact nI_add _ _) ?_
                refine lv_iload_n hx hb dX3_readRow_94 rfl (lv_at hl 2 rfl) ?_
                refine lv_icmp_ge (tgt := 103) hx hb dX3_readRow_95 (by decide) (fun c_11 => ?_) (fun c_11 => ?_)
                · skip
                  have c_11 := na_le (a := k_nK (k_kindF (k_sign sg len pl) 0)) (b := k + 1) c_11 (by omega) (by omega)
                  refine lv_bipush (v := 59) hx hb dX3_readRow_103 (by decide) ?_
                  obtain ⟨b1_12, pl1_12, fn1_12, fp1_12, hF_12⟩ : ∃ (b1_12 : Bool) (pl1_12 : Nat) (fn1_12 : Int32) (fp1_12 : Int32), k_readSign sg len 59 pl1_9 fn1_9 fp1_9 = (b1_12, pl1_12, fn1_12, fp1_12) := ⟨_, _, _, _, rfl⟩
                  have hq_pl1_12 := k_readSign_le sg len 59 pl1_9 fn1_9 fp1_9 (by omega) (by decide)
                  rw [hF_12] at hq_pl1_12
                  have hq_pl1_12 : pl1_12 ≤ len := hq_pl1_12
                  refine go_M (r := some (.int (bI b1_12))) (wc' := [(r, .inr (3, [.ref rs, .ref h, .int (nI len), .int (nI pl1_12), .int fn1_12, .int fp1_12])), (rs, .inl (cC, 500, .inl sg))]) (w2 := [(r, .inr (3, [.ref rs, .ref h, .int (nI len), .int (nI pl1_12), .int fn1_12, .int fp1_12])), (rs, .inl (cC, 500, .inl sg)), (h, .inr (1, [.ref hk, .ref hn, .ref hu, .int (nI sz1_3)])), (hk, .inl (cI, 50, .inl ks1_3)), (hn, .inl (cI, 50, .inl ns1_3)), (hu, .inl (cI, 200, .inl us1_9))]) [0, 1] (va_runV (As := [.int 59]) (rest := []) ⟨hx, hb, hml, hown, hg⟩ (kX3_readSign l dC dI B cI cC cJ r rs h sg len pl1_9 fn1_9 fp1_9 59 b1_12 pl1_12 fn1_12 fp1_12 (by omega) (by omega) hF_12 _) (cwV 1 hg (gi_V w_278 w_279 w_685 w_3 w_280) rfl rfl rfl (by decide +kernel) ⟨Nat.le_of_ble_eq_true rfl, Nat.le_of_ble_eq_true rfl⟩) (pre_MV (va_recv hK hP (ci := 3) (q0 := 0) rfl rfl) (Nat.le_trans hB hS.1) (hP.sub [0, 1] rfl) hK ((hD.weaken (fun _ _ _ h => hAB _ h)).sub [0, 1] (by decide) rfl) (hT.kept (hS.mono hAB))) rfl rfl hl.1 rfl (lv_room (Nat.le_of_ble_eq_true rfl)) dX3_readRow_105 ⟨Nat.le_of_ble_eq_true rfl, Nat.le_of_ble_eq_true rfl⟩) hP hD hS hA rfl (Nat.le_of_ble_eq_true rfl) rfl rfl (fun H locs hP hD hS => ?_)
                  refine W.eq (g2 := F0 m 108 ls [.int (bI b1_12)]) rfl ?_
                  refine lv_if_ne (tgt := 113) hx hb dX3_readRow_108 (by decide) (fun c_13 => ?_) (fun c_13 => ?_)
                  · skip
                    have c_13 := bI_ne0 c_13
                    refine lv_iinc (v := (nI (k + 1))) (lv' := [(3, .int (nI (k + 1))), (0, .ref r), (1, .int (k_kindF (k_sign sg len pl) 0)), (2, .int (nI (k_nK (k_kindF (k_sign sg len pl) 0))))]) hx hb dX3_readRow_113 hl (k := 3) rfl (by rw [← nI_add]; rfl) (by decide) rfl (fun ls hl => ?_)
                    refine lv_goto (tgt := 76) hx hb dX3_readRow_116 (by decide) ?_
                    exact ih_7 (k + 1, us1_9, pl1_12, fn1_12, fp1_12) _ _ _ ⟨(by (try dsimp only); omega), (by (try dsimp only); omega), (by (try dsimp only); omega), (by (try dsimp only); rw [he, k_nums]; simp [c_8, hF_9, c_10, c_11, hF_12, c_13]), hP, hD, hS, lv_sub hl [1, 2, 3, 0] rfl⟩
                  · skip
                    have c_13 := bI_eq0 c_13
                    refine lv_iconst (v := 0) hx hb dX3_readRow_111 (by decide) ?_
                    have hP9 := hP
                    have hS9 := hS
                    have h9 : k_readRow sg len ks ns us sz pl fn fp = (false, ks1_3, ns1_3, us1_9, sz1_3, pl1_12, fn1_12, fp1_12) := by rw [he, k_nums]; simp [k_rowEnd, c_8, hF_9, c_10, c_11, hF_12, c_13]
                    have h9 := hF.symm.trans h9
                    cases h9
                    exact W.zret (ty := .boolean) hx hb hr rfl (fun t ht hW => ⟨rfl, by rw [ht]; exact hP9, hS9.F ht⟩) hS9.2.2 dX3_readRow_112
                · skip
                  have c_11 := na_nle (a := k_nK (k_kindF (k_sign sg len pl) 0)) (b := k + 1) c_11 (by omega) (by omega)
                  refine lv_bipush (v := 44) hx hb dX3_readRow_98 (by decide) ?_
                  refine lv_goto (tgt := 105) hx hb dX3_readRow_100 (by decide) ?_
                  obtain ⟨b1_14, pl1_14, fn1_14, fp1_14, hF_14⟩ : ∃ (b1_14 : Bool) (pl1_14 : Nat) (fn1_14 : Int32) (fp1_14 : Int32), k_readSign sg len 44 pl1_9 fn1_9 fp1_9 = (b1_14, pl1_14, fn1_14, fp1_14) := ⟨_, _, _, _, rfl⟩
                  have hq_pl1_14 := k_readSign_le sg len 44 pl1_9 fn1_9 fp1_9 (by omega) (by decide)
                  rw [hF_14] at hq_pl1_14
                  have hq_pl1_14 : pl1_14 ≤ len := hq_pl1_14
                  refine go_M (r := some (.int (bI b1_14))) (wc' := [(r, .inr (3, [.ref rs, .ref h, .int (nI len), .int (nI pl1_14), .int fn1_14, .int fp1_14])), (rs, .inl (cC, 500, .inl sg))]) (w2 := [(r, .inr (3, [.ref rs, .ref h, .int (nI len), .int (nI pl1_14), .int fn1_14, .int fp1_14])), (rs, .inl (cC, 500, .inl sg)), (h, .inr (1, [.ref hk, .ref hn, .ref hu, .int (nI sz1_3)])), (hk, .inl (cI, 50, .inl ks1_3)), (hn, .inl (cI, 50, .inl ns1_3)), (hu, .inl (cI, 200, .inl us1_9))]) [0, 1] (va_runV (As := [.int 44]) (rest := []) ⟨hx, hb, hml, hown, hg⟩ (kX3_readSign l dC dI B cI cC cJ r rs h sg len pl1_9 fn1_9 fp1_9 44 b1_14 pl1_14 fn1_14 fp1_14 (by omega) (by omega) hF_14 _) (cwV 1 hg (gi_V w_278 w_279 w_685 w_3 w_280) rfl rfl rfl (by decide +kernel) ⟨Nat.le_of_ble_eq_true rfl, Nat.le_of_ble_eq_true rfl⟩) (pre_MV (va_recv hK hP (ci := 3) (q0 := 0) rfl rfl) (Nat.le_trans hB hS.1) (hP.sub [0, 1] rfl) hK ((hD.weaken (fun _ _ _ h => hAB _ h)).sub [0, 1] (by decide) rfl) (hT.kept (hS.mono hAB))) rfl rfl hl.1 rfl (lv_room (Nat.le_of_ble_eq_true rfl)) dX3_readRow_105 ⟨Nat.le_of_ble_eq_true rfl, Nat.le_of_ble_eq_true rfl⟩) hP hD hS hA rfl (Nat.le_of_ble_eq_true rfl) rfl rfl (fun H locs hP hD hS => ?_)
                  refine W.eq (g2 := F0 m 108 ls [.int (bI b1_14)]) rfl ?_
                  refine lv_if_ne (tgt := 113) hx hb dX3_readRow_108 (by decide) (fun c_15 => ?_) (fun c_15 => ?_)
                  · skip
                    have c_15 := bI_ne0 c_15
                    refine lv_iinc (v := (nI (k + 1))) (lv' := [(3, .int (nI (k + 1))), (0, .ref r), (1, .int (k_kindF (k_sign sg len pl) 0)), (2, .int (nI (k_nK (k_kindF (k_sign sg len pl) 0))))]) hx hb dX3_readRow_113 hl (k := 3) rfl (by rw [← nI_add]; rfl) (by decide) rfl (fun ls hl => ?_)
                    refine lv_goto (tgt := 76) hx hb dX3_readRow_116 (by decide) ?_
                    exact ih_7 (k + 1, us1_9, pl1_14, fn1_14, fp1_14) _ _ _ ⟨(by (try dsimp only); omega), (by (try dsimp only); omega), (by (try dsimp only); omega), (by (try dsimp only); rw [he, k_nums]; simp [c_8, hF_9, c_10, c_11, hF_14, c_15]), hP, hD, hS, lv_sub hl [1, 2, 3, 0] rfl⟩
                  · skip
                    have c_15 := bI_eq0 c_15
                    refine lv_iconst (v := 0) hx hb dX3_readRow_111 (by decide) ?_
                    have hP9 := hP
                    have hS9 := hS
                    have h9 : k_readRow sg len ks ns us sz pl fn fp = (false, ks1_3, ns1_3, us1_9, sz1_3, pl1_14, fn1_14, fp1_14) := by rw [he, k_nums]; simp [k_rowEnd, c_8, hF_9, c_10, c_11, hF_14, c_15]
                    have h9 := hF.symm.trans h9
                    cases h9
                    exact W.zret (ty := .boolean) hx hb hr rfl (fun t ht hW => ⟨rfl, by rw [ht]; exact hP9, hS9.F ht⟩) hS9.2.2 dX3_readRow_112
          · exact absurd hI.1 (Nat.not_lt_zero _)
        · skip
          have c_6 := bI_eq0 c_6
          refine lv_iconst (v := 0) hx hb dX3_readRow_67 (by decide) ?_
          have hP9 := hP
          have hS9 := hS
          have h9 : k_readRow sg len ks ns us sz pl fn fp = (false, ks1_3, ns1_3, us1_3, sz1_3, pl1_5, fn1_5, fp1_5) := by simp [k_readRow, c_1, c_2, hF_3, c_4, hF_5, c_6]
          have h9 := hF.symm.trans h9
          cases h9
          exact W.zret (ty := .boolean) hx hb hr rfl (fun t ht hW => ⟨rfl, by rw [ht]; exact hP9, hS9.F ht⟩) hS9.2.2 dX3_readRow_68
    · skip
      have c_2 := bI_ne0 c_2
      refine lv_aload_n hx hb dX3_readRow_30 rfl (lv_at hl 1 rfl) ?_
      refine lv_iconst (v := 5) hx hb dX3_readRow_31 (by decide) ?_
      refine lv_aload_n hx hb dX3_readRow_32 rfl (lv_at hl 1 rfl) ?_
      refine va_get (D := (dC, dI)) (ci := 3) (v := .int (nI pl)) (C := RX3) (T := TX3) (N := 6) hx hb hg in_X3 hown hK hP 0 rfl rfl 3 (by decide) (hg _ w_53) (fun _ h9 => h9) rfl dX3_readRow_33 ?_
      refine go_M (r := some (.int (bI false))) (wc' := [(r, .inr (3, [.ref rs, .ref h, .int (nI len), .int (nI pl), .int 5, .int (nI pl)])), (rs, .inl (cC, 500, .inl sg))]) (w2 := [(r, .inr (3, [.ref rs, .ref h, .int (nI len), .int (nI pl), .int 5, .int (nI pl)])), (rs, .inl (cC, 500, .inl sg)), (h, .inr (1, [.ref hk, .ref hn, .ref hu, .int (nI sz)])), (hk, .inl (cI, 50, .inl ks)), (hn, .inl (cI, 50, .inl ns)), (hu, .inl (cI, 200, .inl us))]) [0, 1] (va_runV (As := [.int 5, .int (nI pl)]) (rest := []) ⟨hx, hb, hml, hown, hg⟩ (kX3_fail l dC dI B cI cC cJ r rs h sg len pl fn fp 5 (nI pl) _) (cwV 2 hg (gi_V w_256 w_257 w_681 w_3 w_258) rfl rfl rfl (by decide +kernel) ⟨Nat.le_of_ble_eq_true rfl, Nat.le_of_ble_eq_true rfl⟩) (pre_MV (va_recv hK hP (ci := 3) (q0 := 0) rfl rfl) (Nat.le_trans hB hS.1) (hP.sub [0, 1] rfl) hK ((hD.weaken (fun _ _ _ h => hAB _ h)).sub [0, 1] (by decide) rfl) hT) rfl rfl hl.1 rfl (lv_room (Nat.le_of_ble_eq_true rfl)) dX3_readRow_36 ⟨Nat.le_of_ble_eq_true rfl, Nat.le_of_ble_eq_true rfl⟩) hP hD hS hA rfl (Nat.le_of_ble_eq_true rfl) rfl rfl (fun H locs hP hD hS => ?_)
      refine W.eq (g2 := F0 m 39 ls [.int (bI false)]) rfl ?_
      have hP9 := hP
      have hS9 := hS
      have h9 : k_readRow sg len ks ns us sz pl fn fp = (false, ks, ns, us, sz, pl, 5, (nI pl)) := by simp [k_readRow, c_1, c_2]
      have h9 := hF.symm.trans h9
      cases h9
      exact W.zret (ty := .boolean) hx hb hr (bI_nar _) (fun t ht hW => ⟨rfl, by rw [ht]; exact hP9, hS9.F ht⟩) hS9.2.2 dX3_readRow_39
  · skip
    refine lv_aload_n hx hb dX3_readRow_10 rfl (lv_at hl 1 rfl) ?_
    refine lv_iconst (v := 1) hx hb dX3_readRow_11 (by decide) ?_
    refine lv_aload_n hx hb dX3_readRow_12 rfl (lv_at hl 1 rfl) ?_
    refine va_get (D := (dC, dI)) (ci := 3) (v := .int (nI pl)) (C := RX3) (T := TX3) (N := 6) hx hb hg in_X3 hown hK hP 0 rfl rfl 3 (by decide) (hg _ w_53) (fun _ h9 => h9) rfl dX3_readRow_13 ?_
    refine go_M (r := some (.int (bI false))) (wc' := [(r, .inr (3, [.ref rs, .ref h, .int (nI len), .int (nI pl), .int 1, .int (nI pl)])), (rs, .inl (cC, 500, .inl sg))]) (w2 := [(r, .inr (3, [.ref rs, .ref h, .int (nI len), .int (nI pl), .int 1, .int (nI pl)])), (rs, .inl (cC, 500, .inl sg)), (h, .inr (1, [.ref hk, .ref hn, .ref hu, .int (nI sz)])), (hk, .inl (cI, 50, .inl ks)), (hn, .inl (cI, 50, .inl ns)), (hu, .inl (cI, 200, .inl us))]) [0, 1] (va_runV (As := [.int 1, .int (nI pl)]) (rest := []) ⟨hx, hb, hml, hown, hg⟩ (kX3_fail l dC dI B cI cC cJ r rs h sg len pl fn fp 1 (nI pl) _) (cwV 2 hg (gi_V w_256 w_257 w_681 w_3 w_258) rfl rfl rfl (by decide +kernel) ⟨Nat.le_of_ble_eq_true rfl, Nat.le_of_ble_eq_true rfl⟩) (pre_MV (va_recv hK hP (ci := 3) (q0 := 0) rfl rfl) (Nat.le_trans hB hS.1) (hP.sub [0, 1] rfl) hK ((hD.weaken (fun _ _ _ h => hAB _ h)).sub [0, 1] (by decide) rfl) hT) rfl rfl hl.1 rfl (lv_room (Nat.le_of_ble_eq_true rfl)) dX3_readRow_16 ⟨Nat.le_of_ble_eq_true rfl, Nat.le_of_ble_eq_true rfl⟩) hP hD hS hA rfl (Nat.le_of_ble_eq_true rfl) rfl rfl (fun H locs hP hD hS => ?_)
    refine W.eq (g2 := F0 m 19 ls [.int (bI false)]) rfl ?_
    have hP9 := hP
    have hS9 := hS
    have h9 : k_readRow sg len ks ns us sz pl fn fp = (false, ks, ns, us, sz, pl, 1, (nI pl)) := by simp [k_readRow, c_1]
    have h9 := hF.symm.trans h9
    cases h9
    exact W.zret (ty := .boolean) hx hb hr (bI_nar _) (fun t ht hW => ⟨rfl, by rw [ht]; exact hP9, hS9.F ht⟩) hS9.2.2 dX3_readRow_19
set_option maxHeartbeats 4000000 in
set_option maxRecDepth 100000 in
theorem kX3_readAll (l : Launch) (dC : Nat → ClassId) (dI : Nat → Nat → Nat) (B : Nat) (cI cC cJ : ClassId) (r : Nat) (rs : Nat) (sg : Nat → Int32) (len : Nat) (pl : Nat) (fn : Int32) (fp : Int32) (h : Nat) (hk : Nat) (hn : Nat) (hu : Nat) (ks : Nat → Int32) (ns : Nat → Int32) (us : Nat → Int32) (sz : Nat) (b1 : Bool) (ks1 : Nat → Int32) (ns1 : Nat → Int32) (us1 : Nat → Int32) (sz1 : Nat) (pl1 : Nat) (fn1 : Int32) (fp1 : Int32) (hlen : len ≤ 500) (hpl : pl ≤ 501) (hsz : sz ≤ 50) (hF : k_readAll sg len ks ns us = (b1, ks1, ns1, us1, sz1, pl1, fn1, fp1)) (sz9 : Nat) : Met l yX3_readAll wsX3_readAll ({ frames := 5, cells := 0, slots := 0, locals := 114 }) (q_Mp (dC, dI) vwCl [.ref r] [(r, .inr (3, [.ref rs, .ref h, .int (nI len), .int (nI pl), .int fn, .int fp])), (rs, .inl (cC, 500, .inl sg)), (h, .inr (1, [.ref hk, .ref hn, .ref hu, .int (nI sz)])), (hk, .inl (cI, 50, .inl ks)), (hn, .inl (cI, 50, .inl ns)), (hu, .inl (cI, 200, .inl us))] [(cI, .int), (cC, .char), (cJ, .long)] B sz9) (q_Mq (dC, dI) vwCl [(r, .inr (3, [.ref rs, .ref h, .int (nI 0), .int (nI pl1), .int fn1, .int fp1])), (rs, .inl (cC, 500, .inl sg)), (h, .inr (1, [.ref hk, .ref hn, .ref hu, .int (nI sz1)])), (hk, .inl (cI, 50, .inl ks1)), (hn, .inl (cI, 50, .inl ns1)), (hu, .inl (cI, 200, .inl us1))] (va_A [(r, .inr (3, [.ref rs, .ref h, .int (nI len), .int (nI pl), .int fn, .int fp])), (rs, .inl (cC, 500, .inl sg)), (h, .inr (1, [.ref hk, .ref hn, .ref hu, .int (nI sz)])), (hk, .inl (cI, 50, .inl ks)), (hn, .inl (cI, 50, .inl ns)), (hu, .inl (cI, 200, .inl us))] sz9) (some (.int (bI b1)))) 0 0 (va_A [(r, .inr (3, [.ref rs, .ref h, .int (nI len), .int (nI pl), .int fn, .int fp])), (rs, .inl (cC, 500, .inl sg)), (h, .inr (1, [.ref hk, .ref hn, .ref hu, .int (nI sz)])), (hk, .inl (cI, 50, .inl ks)), (hn, .inl (cI, 50, .inl ns)), (hu, .inl (cI, 200, .inl us))] sz9) := by
  refine Met.ofW (cc := cX3_readAll) (maxL := 3) (ret := (some .boolean)) (by decide) rfl ?_
  intro p e s m args below meth c s₁ Bd hml hv
  obtain ⟨rfl, hsz9, hB, hP, hK, hD0, hT⟩ := hv
  have hx := Bd.exec
  have hb := Bd.bytes
  have hr := Bd.returns
  have hts := atoms_spec (ws := wsX3_readAll) Bd.pre
  have hg : ∀ w ∈ lw_good, w.before _ s = true := fun w h => hts w (List.mem_cons_of_mem _ h)
  have hown : s.vm.findClass RX3 = some m.cls := findClass_of_methodNamed Bd.named
  have hlocks := Bd.notSynchronized
  subst hsz9
  have hD := hD0.self (sz := s.heap.size)
  generalize hAe : va_A [(r, .inr (3, [.ref rs, .ref h, .int (nI len), .int (nI pl), .int fn, .int fp])), (rs, .inl (cC, 500, .inl sg)), (h, .inr (1, [.ref hk, .ref hn, .ref hu, .int (nI sz)])), (hk, .inl (cI, 50, .inl ks)), (hn, .inl (cI, 50, .inl ns)), (hu, .inl (cI, 200, .inl us))] s.heap.size = A at hD ⊢
  have hA : ∀ q : Nat, s.heap.size ≤ q → A q := fun q h => by rw [← hAe]; exact Or.inr h
  have hAB : ∀ q, A q → B ≤ q := by rw [← hAe]; exact va_A.ge hD0 hB
  have hS : va_S A s.heap s.heap [] := va_S.rf
  have hP : va_P (dC, dI) vwCl [(r, .inr (3, [.ref rs, .ref h, .int (nI len), .int (nI pl), .int fn, .int fp])), (rs, .inl (cC, 500, .inl sg)), (h, .inr (1, [.ref hk, .ref hn, .ref hu, .int (nI sz)])), (hk, .inl (cI, 50, .inl ks)), (hn, .inl (cI, 50, .inl ns)), (hu, .inl (cI, 200, .inl us))] s.heap := hP
  have hl := lv_entry ([.ref r]) (n := 3) (Nat.le_of_ble_eq_true rfl)
  rw [lg_entry_eq]
  generalize (lg_sl ([.ref r]) ++ List.replicate (3 - (lg_sl ([.ref r])).length) Slot.unset).toArray = ls at hl ⊢
  have hl : lv_has ls 3 [(0, .ref r)] := hl
  refine lv_aload_n hx hb dX3_readAll_0 rfl (lv_at hl 0 rfl) ?_
  refine va_get (D := (dC, dI)) (ci := 3) (v := .ref h) (C := RX3) (T := TX3) (N := 6) hx hb hg in_X3 hown hK hP 0 rfl rfl 1 (by decide) (hg _ w_51) (fun _ h9 => h9) rfl dX3_readAll_1 ?_
  refine go_M (r := none) (wc' := [(h, .inr (1, [.ref hk, .ref hn, .ref hu, .int (nI 0)])), (hk, .inl (cI, 50, .inl ks)), (hn, .inl (cI, 50, .inl ns)), (hu, .inl (cI, 200, .inl us))]) (w2 := [(r, .inr (3, [.ref rs, .ref h, .int (nI len), .int (nI pl), .int fn, .int fp])), (rs, .inl (cC, 500, .inl sg)), (h, .inr (1, [.ref hk, .ref hn, .ref hu, .int (nI 0)])), (hk, .inl (cI, 50, .inl ks)), (hn, .inl (cI, 50, .inl ns)), (hu, .inl (cI, 200, .inl us))]) [2, 3, 4, 5] (va_runV (As := []) (rest := []) ⟨hx, hb, hml, hown, hg⟩ (kX1_clear l dC dI B cI cC cJ h hk hn hu ks ns us sz (by omega) _) (cwV 0 hg (gi_V w_243 w_244 w_245 w_4 w_246) rfl rfl rfl (by decide +kernel) ⟨Nat.le_of_ble_eq_true rfl, Nat.le_of_ble_eq_true rfl⟩) (pre_MV (va_recv hK hP (ci := 1) (q0 := 2) rfl rfl) (Nat.le_trans hB hS.1) (hP.sub [2, 3, 4, 5] rfl) hK ((hD.weaken (fun _ _ _ h => hAB _ h)).sub [2, 3, 4, 5] (by decide) rfl) hT) rfl rfl hl.1 rfl (lv_room (Nat.le_of_ble_eq_true rfl)) dX3_readAll_4 ⟨Nat.le_of_ble_eq_true rfl, Nat.le_of_ble_eq_true rfl⟩) hP hD hS hA rfl (Nat.le_of_ble_eq_true rfl) rfl rfl (fun H locs hP hD hS => ?_)
  refine W.eq (g2 := F0 m 7 ls []) rfl ?_
  refine lv_aload_n hx hb dX3_readAll_7 rfl (lv_at hl 0 rfl) ?_
  refine lv_iconst (v := 0) hx hb dX3_readAll_8 (by decide) ?_
  refine va_put (D := (dC, dI)) (ci := 3) (v := .int 0) (ty := .int) (C := RX3) (T := TX3) (N := 6) hx hb hg in_X3 tyX3 tyX3_ok nmX3_ok hown hK hP hD hS 0 rfl rfl 3 (by decide) (hg _ w_53) (fun _ h9 => h9) rfl (by decide +kernel) rfl rfl (Nat.le_of_ble_eq_true rfl) dX3_readAll_9 (fun H locs hP hD hS => ?_)
  have hP : va_P (dC, dI) vwCl [(r, .inr (3, [.ref rs, .ref h, .int (nI len), .int 0, .int fn, .int fp])), (rs, .inl (cC, 500, .inl sg)), (h, .inr (1, [.ref hk, .ref hn, .ref hu, .int (nI 0)])), (hk, .inl (cI, 50, .inl ks)), (hn, .inl (cI, 50, .inl ns)), (hu, .inl (cI, 200, .inl us))] H := hP
  have hD : va_D A [(r, .inr (3, [.ref rs, .ref h, .int (nI len), .int 0, .int fn, .int fp])), (rs, .inl (cC, 500, .inl sg)), (h, .inr (1, [.ref hk, .ref hn, .ref hu, .int (nI 0)])), (hk, .inl (cI, 50, .inl ks)), (hn, .inl (cI, 50, .inl ns)), (hu, .inl (cI, 200, .inl us))] := hD
  refine lv_aload_n hx hb dX3_readAll_12 rfl (lv_at hl 0 rfl) ?_
  refine lv_iconst (v := 0) hx hb dX3_readAll_13 (by decide) ?_
  refine va_put (D := (dC, dI)) (ci := 3) (v := .int 0) (ty := .int) (C := RX3) (T := TX3) (N := 6) hx hb hg in_X3 tyX3 tyX3_ok nmX3_ok hown hK hP hD hS 0 rfl rfl 4 (by decide) (hg _ w_54) (fun _ h9 => h9) rfl (by decide +kernel) rfl rfl (Nat.le_of_ble_eq_true rfl) dX3_readAll_14 (fun H locs hP hD hS => ?_)
  have hP : va_P (dC, dI) vwCl [(r, .inr (3, [.ref rs, .ref h, .int (nI len), .int 0, .int 0, .int fp])), (rs, .inl (cC, 500, .inl sg)), (h, .inr (1, [.ref hk, .ref hn, .ref hu, .int (nI 0)])), (hk, .inl (cI, 50, .inl ks)), (hn, .inl (cI, 50, .inl ns)), (hu, .inl (cI, 200, .inl us))] H := hP
  have hD : va_D A [(r, .inr (3, [.ref rs, .ref h, .int (nI len), .int 0, .int 0, .int fp])), (rs, .inl (cC, 500, .inl sg)), (h, .inr (1, [.ref hk, .ref hn, .ref hu, .int (nI 0)])), (hk, .inl (cI, 50, .inl ks)), (hn, .inl (cI, 50, .inl ns)), (hu, .inl (cI, 200, .inl us))] := hD
  refine lv_aload_n hx hb dX3_readAll_17 rfl (lv_at hl 0 rfl) ?_
  refine lv_iconst (v := (-1)) hx hb dX3_readAll_18 (by decide) ?_
  refine va_put (D := (dC, dI)) (ci := 3) (v := .int (-1)) (ty := .int) (C := RX3) (T := TX3) (N := 6) hx hb hg in_X3 tyX3 tyX3_ok nmX3_ok hown hK hP hD hS 0 rfl rfl 5 (by decide) (hg _ w_55) (fun _ h9 => h9) rfl (by decide +kernel) rfl rfl (Nat.le_of_ble_eq_true rfl) dX3_readAll_19 (fun H locs hP hD hS => ?_)
  have hP : va_P (dC, dI) vwCl [(r, .inr (3, [.ref rs, .ref h, .int (nI len), .int 0, .int 0, .int (-1)])), (rs, .inl (cC, 500, .inl sg)), (h, .inr (1, [.ref hk, .ref hn, .ref hu, .int (nI 0)])), (hk, .inl (cI, 50, .inl ks)), (hn, .inl (cI, 50, .inl ns)), (hu, .inl (cI, 200, .inl us))] H := hP
  have hD : va_D A [(r, .inr (3, [.ref rs, .ref h, .int (nI len), .int 0, .int 0, .int (-1)])), (rs, .inl (cC, 500, .inl sg)), (h, .inr (1, [.ref hk, .ref hn, .ref hu, .int (nI 0)])), (hk, .inl (cI, 50, .inl ks)), (hn, .inl (cI, 50, .inl ns)), (hu, .inl (cI, 200, .inl us))] := hD
  refine lv_iconst (v := 1) hx hb dX3_readAll_22 (by decide) ?_
  refine lv_istore_n (lv' := [(1, .int 1), (0, .ref r)]) hx hb dX3_readAll_23 rfl hl (by decide) rfl (fun ls hl => ?_)
  refine lv_iconst (v := 0) hx hb dX3_readAll_24 (by decide) ?_
  refine lv_istore_n (lv' := [(2, .int 0), (1, .int 1), (0, .ref r)]) hx hb dX3_readAll_25 rfl hl (by decide) rfl (fun ls hl => ?_)
  refine loop_M (σ := Nat × Bool × (Nat → Int32) × (Nat → Int32) × (Nat → Int32) × Nat × Nat × Int32 × Int32) (fun n x H locs ls => 51 - x.1 < n ∧ x.1 ≤ 51 ∧ x.2.2.2.2.2.1 ≤ 50 ∧ x.2.2.2.2.2.2.1 ≤ len ∧ k_readAll sg len ks ns us = k_rows sg len x.1 x.2.1 x.2.2.1 x.2.2.2.1 x.2.2.2.2.1 x.2.2.2.2.2.1 x.2.2.2.2.2.2.1 x.2.2.2.2.2.2.2.1 x.2.2.2.2.2.2.2.2 ∧ va_P (dC, dI) vwCl [(r, .inr (3, [.ref rs, .ref h, .int (nI len), .int (nI x.2.2.2.2.2.2.1), .int x.2.2.2.2.2.2.2.1, .int x.2.2.2.2.2.2.2.2])), (rs, .inl (cC, 500, .inl sg)), (h, .inr (1, [.ref hk, .ref hn, .ref hu, .int (nI x.2.2.2.2.2.1)])), (hk, .inl (cI, 50, .inl x.2.2.1)), (hn, .inl (cI, 50, .inl x.2.2.2.1)), (hu, .inl (cI, 200, .inl x.2.2.2.2.1))] H ∧ va_D A [(r, .inr (3, [.ref rs, .ref h, .int (nI len), .int (nI x.2.2.2.2.2.2.1), .int x.2.2.2.2.2.2.2.1, .int x.2.2.2.2.2.2.2.2])), (rs, .inl (cC, 500, .inl sg)), (h, .inr (1, [.ref hk, .ref hn, .ref hu, .int (nI x.2.2.2.2.2.1)])), (hk, .inl (cI, 50, .inl x.2.2.1)), (hn, .inl (cI, 50, .inl x.2.2.2.1)), (hu, .inl (cI, 200, .inl x.2.2.2.2.1))] ∧ va_S A s.heap H locs ∧ lv_has ls 3 [(0, .ref r), (1, .int (bI x.2.1)), (2, .int (nI x.1))]) (fun n x H locs ls ih_1 hI => ?_) (fun x H locs ls hI => ?_) (n := (51 - 0) + 1) (x := (0, true, ks, ns, us, 0, 0, 0, (-1))) ⟨(Nat.lt_succ_self _), (by (try dsimp only); omega), (by (try dsimp only); omega), (by (try dsimp only); omega), rfl, hP, hD, hS, lv_sub hl [2, 1, 0] rfl⟩
  · skip
    obtain ⟨row, rt, ksx, nsx, usx, szx, plx, fnx, fpx⟩ := x
    obtain ⟨hfu, hrw, hsx, hpx, he, hP, hD, hS, hl⟩ := hI
    have hfu : 51 - row < n + 1 := hfu
    have hrw : row ≤ 51 := hrw
    have hsx : szx ≤ 50 := hsx
    have hpx : plx ≤ len := hpx
    have he : k_readAll sg len ks ns us = k_rows sg len row rt ksx nsx usx szx plx fnx fpx := he
    have hP : va_P (dC, dI) vwCl [(r, .inr (3, [.ref rs, .ref h, .int (nI len), .int (nI plx), .int fnx, .int fpx])), (rs, .inl (cC, 500, .inl sg)), (h, .inr (1, [.ref hk, .ref hn, .ref hu, .int (nI szx)])), (hk, .inl (cI, 50, .inl ksx)), (hn, .inl (cI, 50, .inl nsx)), (hu, .inl (cI, 200, .inl usx))] H := hP
    have hD : va_D A [(r, .inr (3, [.ref rs, .ref h, .int (nI len), .int (nI plx), .int fnx, .int fpx])), (rs, .inl (cC, 500, .inl sg)), (h, .inr (1, [.ref hk, .ref hn, .ref hu, .int (nI szx)])), (hk, .inl (cI, 50, .inl ksx)), (hn, .inl (cI, 50, .inl nsx)), (hu, .inl (cI, 200, .inl usx))] := hD
    have hl : lv_has ls 3 [(0, .ref r), (1, .int (bI rt)), (2, .int (nI row))] := hl
    refine lv_iload_n hx hb dX3_readAll_26 rfl (lv_at hl 2 rfl) ?_
    refine lv_bipush (v := 50) hx hb dX3_readAll_27 (by decide) ?_
    refine lv_icmp_gt (tgt := 58) hx hb dX3_readAll_29 (by decide) (fun c_2 => ?_) (fun c_2 => ?_)
    · skip
      have c_2 := na_lt (a := 50) (b := row) c_2 (by omega) (by omega)
      refine lv_aload_n hx hb dX3_readAll_58 rfl (lv_at hl 0 rfl) ?_
      refine lv_iconst (v := 0) hx hb dX3_readAll_59 (by decide) ?_
      refine va_put (D := (dC, dI)) (ci := 3) (v := .int 0) (ty := .int) (C := RX3) (T := TX3) (N := 6) hx hb hg in_X3 tyX3 tyX3_ok nmX3_ok hown hK hP hD hS 0 rfl rfl 2 (by decide) (hg _ w_52) (fun _ h9 => h9) rfl (by decide +kernel) rfl rfl (Nat.le_of_ble_eq_true rfl) dX3_readAll_60 (fun H locs hP hD hS => ?_)
      have hP : va_P (dC, dI) vwCl [(r, .inr (3, [.ref rs, .ref h, .int 0, .int (nI plx), .int fnx, .int fpx])), (rs, .inl (cC, 500, .inl sg)), (h, .inr (1, [.ref hk, .ref hn, .ref hu, .int (nI szx)])), (hk, .inl (cI, 50, .inl ksx)), (hn, .inl (cI, 50, .inl nsx)), (hu, .inl (cI, 200, .inl usx))] H := hP
      have hD : va_D A [(r, .inr (3, [.ref rs, .ref h, .int 0, .int (nI plx), .int fnx, .int fpx])), (rs, .inl (cC, 500, .inl sg)), (h, .inr (1, [.ref hk, .ref hn, .ref hu, .int (nI szx)])), (hk, .inl (cI, 50, .inl ksx)), (hn, .inl (cI, 50, .inl nsx)), (hu, .inl (cI, 200, .inl usx))] := hD
      refine lv_iload_n hx hb dX3_readAll_63 rfl (lv_at hl 1 rfl) ?_
      have hP9 := hP
      have hS9 := hS
      have h9 : k_readAll sg len ks ns us = (rt, ksx, nsx, usx, szx, plx, fnx, fpx) := by rw [he, k_rows]; simp [c_2]
      have h9 := hF.symm.trans h9
      cases h9
      exact W.zret (ty := .boolean) hx hb hr (bI_nar _) (fun t ht hW => ⟨rfl, by rw [ht]; exact hP9, hS9.F ht⟩) hS9.2.2 dX3_readAll_64
    · skip
      have c_2 := na_nlt (a := 50) (b := row) c_2 (by omega) (by omega)
      refine lv_iload_n hx hb dX3_readAll_32 rfl (lv_at hl 1 rfl) ?_
      refine lv_if_eq (tgt := 58) hx hb dX3_readAll_33 (by decide) (fun c_3 => ?_) (fun c_3 => ?_)
      · skip
        have c_3 := bI_eq0 c_3
        refine lv_aload_n hx hb dX3_readAll_58 rfl (lv_at hl 0 rfl) ?_
        refine lv_iconst (v := 0) hx hb dX3_readAll_59 (by decide) ?_
        refine va_put (D := (dC, dI)) (ci := 3) (v := .int 0) (ty := .int) (C := RX3) (T := TX3) (N := 6) hx hb hg in_X3 tyX3 tyX3_ok nmX3_ok hown hK hP hD hS 0 rfl rfl 2 (by decide) (hg _ w_52) (fun _ h9 => h9) rfl (by decide +kernel) rfl rfl (Nat.le_of_ble_eq_true rfl) dX3_readAll_60 (fun H locs hP hD hS => ?_)
        have hP : va_P (dC, dI) vwCl [(r, .inr (3, [.ref rs, .ref h, .int 0, .int (nI plx), .int fnx, .int fpx])), (rs, .inl (cC, 500, .inl sg)), (h, .inr (1, [.ref hk, .ref hn, .ref hu, .int (nI szx)])), (hk, .inl (cI, 50, .inl ksx)), (hn, .inl (cI, 50, .inl nsx)), (hu, .inl (cI, 200, .inl usx))] H := hP
        have hD : va_D A [(r, .inr (3, [.ref rs, .ref h, .int 0, .int (nI plx), .int fnx, .int fpx])), (rs, .inl (cC, 500, .inl sg)), (h, .inr (1, [.ref hk, .ref hn, .ref hu, .int (nI szx)])), (hk, .inl (cI, 50, .inl ksx)), (hn, .inl (cI, 50, .inl nsx)), (hu, .inl (cI, 200, .inl usx))] := hD
        refine lv_iload_n hx hb dX3_readAll_63 rfl (lv_at hl 1 rfl) ?_
        have hP9 := hP
        have hS9 := hS
        have h9 : k_readAll sg len ks ns us = (rt, ksx, nsx, usx, szx, plx, fnx, fpx) := by rw [he, k_rows]; simp [c_2, c_3]
        have h9 := hF.symm.trans h9
        cases h9
        exact W.zret (ty := .boolean) hx hb hr (bI_nar _) (fun t ht hW => ⟨rfl, by rw [ht]; exact hP9, hS9.F ht⟩) hS9.2.2 dX3_readAll_64
      · skip
        have c_3 := bI_ne0 c_3
        refine lv_aload_n hx hb dX3_readAll_36 rfl (lv_at hl 0 rfl) ?_
        refine va_get (D := (dC, dI)) (ci := 3) (v := .int (nI plx)) (C := RX3) (T := TX3) (N := 6) hx hb hg in_X3 hown hK hP 0 rfl rfl 3 (by decide) (hg _ w_53) (fun _ h9 => h9) rfl dX3_readAll_37 ?_
        refine lv_aload_n hx hb dX3_readAll_40 rfl (lv_at hl 0 rfl) ?_
        refine va_get (D := (dC, dI)) (ci := 3) (v := .int (nI len)) (C := RX3) (T := TX3) (N := 6) hx hb hg in_X3 hown hK hP 0 rfl rfl 2 (by decide) (hg _ w_52) (fun _ h9 => h9) rfl dX3_readAll_41 ?_
        refine lv_icmp_ge (tgt := 58) hx hb dX3_readAll_44 (by decide) (fun c_4 => ?_) (fun c_4 => ?_)
        · skip
          have c_4 := na_le (a := len) (b := plx) c_4 (by omega) (by omega)
          refine lv_aload_n hx hb dX3_readAll_58 rfl (lv_at hl 0 rfl) ?_
          refine lv_iconst (v := 0) hx hb dX3_readAll_59 (by decide) ?_
          refine va_put (D := (dC, dI)) (ci := 3) (v := .int 0) (ty := .int) (C := RX3) (T := TX3) (N := 6) hx hb hg in_X3 tyX3 tyX3_ok nmX3_ok hown hK hP hD hS 0 rfl rfl 2 (by decide) (hg _ w_52) (fun _ h9 => h9) rfl (by decide +kernel) rfl rfl (Nat.le_of_ble_eq_true rfl) dX3_readAll_60 (fun H locs hP hD hS => ?_)
          have hP : va_P (dC, dI) vwCl [(r, .inr (3, [.ref rs, .ref h, .int 0, .int (nI plx), .int fnx, .int fpx])), (rs, .inl (cC, 500, .inl sg)), (h, .inr (1, [.ref hk, .ref hn, .ref hu, .int (nI szx)])), (hk, .inl (cI, 50, .inl ksx)), (hn, .inl (cI, 50, .inl nsx)), (hu, .inl (cI, 200, .inl usx))] H := hP
          have hD : va_D A [(r, .inr (3, [.ref rs, .ref h, .int 0, .int (nI plx), .int fnx, .int fpx])), (rs, .inl (cC, 500, .inl sg)), (h, .inr (1, [.ref hk, .ref hn, .ref hu, .int (nI szx)])), (hk, .inl (cI, 50, .inl ksx)), (hn, .inl (cI, 50, .inl nsx)), (hu, .inl (cI, 200, .inl usx))] := hD
          refine lv_iload_n hx hb dX3_readAll_63 rfl (lv_at hl 1 rfl) ?_
          have hP9 := hP
          have hS9 := hS
          have h9 : k_readAll sg len ks ns us = (rt, ksx, nsx, usx, szx, plx, fnx, fpx) := by rw [he, k_rows]; simp [c_2, c_3, c_4]
          have h9 := hF.symm.trans h9
          cases h9
          exact W.zret (ty := .boolean) hx hb hr (bI_nar _) (fun t ht hW => ⟨rfl, by rw [ht]; exact hP9, hS9.F ht⟩) hS9.2.2 dX3_readAll_64
        · skip
          have c_4 := na_nle (a := len) (b := plx) c_4 (by omega) (by omega)
          refine lv_aload_n hx hb dX3_readAll_47 rfl (lv_at hl 0 rfl) ?_
          obtain ⟨b1_5, ks1_5, ns1_5, us1_5, sz1_5, pl1_5, fn1_5, fp1_5, hF_5⟩ : ∃ (b1_5 : Bool) (ks1_5 : Nat → Int32) (ns1_5 : Nat → Int32) (us1_5 : Nat → Int32) (sz1_5 : Nat) (pl1_5 : Nat) (fn1_5 : Int32) (fp1_5 : Int32), k_readRow sg len ksx nsx usx szx plx fnx fpx = (b1_5, ks1_5, ns1_5, us1_5, sz1_5, pl1_5, fn1_5, fp1_5) := ⟨_, _, _, _, _, _, _, _, rfl⟩
          have hq_pl1_5 := k_readRow_ok sg len ksx nsx usx szx plx fnx fpx (by omega) (by omega)
          rw [hF_5] at hq_pl1_5
          have hq_pl1_5 : sz1_5 ≤ 50 ∧ pl1_5 ≤ len := hq_pl1_5
          obtain ⟨hs_pl1_5, hq_pl1_5⟩ := hq_pl1_5
          refine go_M (r := some (.int (bI b1_5))) (wc' := [(r, .inr (3, [.ref rs, .ref h, .int (nI len), .int (nI pl1_5), .int fn1_5, .int fp1_5])), (rs, .inl (cC, 500, .inl sg)), (h, .inr (1, [.ref hk, .ref hn, .ref hu, .int (nI sz1_5)])), (hk, .inl (cI, 50, .inl ks1_5)), (hn, .inl (cI, 50, .inl ns1_5)), (hu, .inl (cI, 200, .inl us1_5))]) (w2 := [(r, .inr (3, [.ref rs, .ref h, .int (nI len), .int (nI pl1_5), .int fn1_5, .int fp1_5])), (rs, .inl (cC, 500, .inl sg)), (h, .inr (1, [.ref hk, .ref hn, .ref hu, .int (nI sz1_5)])), (hk, .inl (cI, 50, .inl ks1_5)), (hn, .inl (cI, 50, .inl ns1_5)), (hu, .inl (cI, 200, .inl us1_5))]) [0, 1, 2, 3, 4, 5] (va_runV (As := []) (rest := []) ⟨hx, hb, hml, hown, hg⟩ (kX3_readRow l dC dI B cI cC cJ r rs sg len plx fnx fpx h hk hn hu ksx nsx usx szx b1_5 ks1_5 ns1_5 us1_5 sz1_5 pl1_5 fn1_5 fp1_5 (by omega) (by omega) (by omega) hF_5 _) (cwV 0 hg (gi_V w_247 w_248 w_678 w_3 w_249) rfl rfl rfl (by decide +kernel) ⟨Nat.le_of_ble_eq_true rfl, Nat.le_of_ble_eq_true rfl⟩) (pre_MV (va_recv hK hP (ci := 3) (q0 := 0) rfl rfl) (Nat.le_trans hB hS.1) (hP.sub [0, 1, 2, 3, 4, 5] rfl) hK ((hD.weaken (fun _ _ _ h => hAB _ h)).sub [0, 1, 2, 3, 4, 5] (by decide) rfl) (hT.kept (hS.mono hAB))) rfl rfl hl.1 rfl (lv_room (Nat.le_of_ble_eq_true rfl)) dX3_readAll_48 ⟨Nat.le_of_ble_eq_true rfl, Nat.le_of_ble_eq_true rfl⟩) hP hD hS hA rfl (Nat.le_of_ble_eq_true rfl) rfl rfl (fun H locs hP hD hS => ?_)
          refine W.eq (g2 := F0 m 51 ls [.int (bI b1_5)]) rfl ?_
          refine lv_istore_n (lv' := [(1, .int (bI b1_5)), (0, .ref r), (2, .int (nI row))]) hx hb dX3_readAll_51 rfl hl (by decide) rfl (fun ls hl => ?_)
          refine lv_iinc (v := (nI (row + 1))) (lv' := [(2, .int (nI (row + 1))), (1, .int (bI b1_5)), (0, .ref r)]) hx hb dX3_readAll_52 hl (k := 2) rfl (by rw [← nI_add]; rfl) (by decide) rfl (fun ls hl => ?_)
          refine lv_goto (tgt := 26) hx hb dX3_readAll_55 (by decide) ?_
          exact ih_1 (row + 1, b1_5, ks1_5, ns1_5, us1_5, sz1_5, pl1_5, fn1_5, fp1_5) _ _ _ ⟨(by (try dsimp only); omega), (by (try dsimp only); omega), (by (try dsimp only); omega), (by (try dsimp only); omega), (by (try dsimp only); rw [he, k_rows]; simp [c_2, c_3, c_4, hF_5]), hP, hD, hS, lv_sub hl [2, 1, 0] rfl⟩
  · exact absurd hI.1 (Nat.not_lt_zero _)
