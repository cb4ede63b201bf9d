set_option maxHeartbeats 4000000 in
set_option maxRecDepth 100000 in
theorem kX1_clear (l : Launch) (dC : Nat → ClassId) (dI : Nat → Nat → Nat) (B : Nat) (cI cC cJ : ClassId) (h : Nat) (hk : Nat) (hn : Nat) (hu : Nat) (ks : Nat → Int32) (ns : Nat → Int32) (us : Nat → Int32) (sz : Nat) (hsz : sz ≤ 50) (sz9 : Nat) : Met l yX1_clear wsX1_clear ({ frames := 0, cells := 0, slots := 0, locals := 0 }) (q_Mp (dC, dI) vwCl [.ref h] [(h, .inr (1, [.ref hk, .ref hn, .ref hu, .int (nI sz)])), (hk, .inl (cI, 50, .inl ks)), (hn, .inl (cI, 50, .inl ns)), (hu, .inl (cI, 200, .inl us))] [(cI, .int), (cC, .char), (cJ, .long)] B sz9) (q_Mq (dC, dI) vwCl [(h, .inr (1, [.ref hk, .ref hn, .ref hu, .int (nI 0)])), (hk, .inl (cI, 50, .inl ks)), (hn, .inl (cI, 50, .inl ns)), (hu, .inl (cI, 200, .inl us))] (va_A [(h, .inr (1, [.ref hk, .ref hn, .ref hu, .int (nI sz)])), (hk, .inl (cI, 50, .inl ks)), (hn, .inl (cI, 50, .inl ns)), (hu, .inl (cI, 200, .inl us))] sz9) none) 0 0 (va_A [(h, .inr (1, [.ref hk, .ref hn, .ref hu, .int (nI sz)])), (hk, .inl (cI, 50, .inl ks)), (hn, .inl (cI, 50, .inl ns)), (hu, .inl (cI, 200, .inl us))] sz9) := by
  refine Met.ofW (cc := cX1_clear) (maxL := 1) (ret := none) (by decide) rfl ?_
  intro p e s m args below meth c s₁ Bd hml hv
  obtain ⟨rfl, hsz9, hB, hP, hK, hD0, hT⟩ := hv
  have hx := Bd.exec
  have hb := Bd.bytes
  have hr := Bd.returns
  have hts := atoms_spec (ws := wsX1_clear) Bd.pre
  have hg : ∀ w ∈ lw_good, w.before _ s = true := fun w h => hts w (List.mem_cons_of_mem _ h)
  have hown : s.vm.findClass RX1 = some m.cls := findClass_of_methodNamed Bd.named
  have hlocks := Bd.notSynchronized
  subst hsz9
  have hD := hD0.self (sz := s.heap.size)
  generalize hAe : va_A [(h, .inr (1, [.ref hk, .ref hn, .ref hu, .int (nI sz)])), (hk, .inl (cI, 50, .inl ks)), (hn, .inl (cI, 50, .inl ns)), (hu, .inl (cI, 200, .inl us))] s.heap.size = A at hD ⊢
  have hA : ∀ q : Nat, s.heap.size ≤ q → A q := fun q h => by rw [← hAe]; exact Or.inr h
  have hAB : ∀ q, A q → B ≤ q := by rw [← hAe]; exact va_A.ge hD0 hB
  have hS : va_S A s.heap s.heap [] := va_S.rf
  have hP : va_P (dC, dI) vwCl [(h, .inr (1, [.ref hk, .ref hn, .ref hu, .int (nI sz)])), (hk, .inl (cI, 50, .inl ks)), (hn, .inl (cI, 50, .inl ns)), (hu, .inl (cI, 200, .inl us))] s.heap := hP
  have hl := lv_entry ([.ref h]) (n := 1) (Nat.le_of_ble_eq_true rfl)
  rw [lg_entry_eq]
  generalize (lg_sl ([.ref h]) ++ List.replicate (1 - (lg_sl ([.ref h])).length) Slot.unset).toArray = ls at hl ⊢
  have hl : lv_has ls 1 [(0, .ref h)] := hl
  refine lv_aload_n hx hb dX1_clear_0 rfl (lv_at hl 0 rfl) ?_
  refine lv_iconst (v := 0) hx hb dX1_clear_1 (by decide) ?_
  refine va_put (D := (dC, dI)) (ci := 1) (v := .int 0) (ty := .int) (C := RX1) (T := TX1) (N := 4) hx hb hg in_X1 tyX1 tyX1_ok nmX1_ok hown hK hP hD hS 0 rfl rfl 3 (by decide) (hg _ w_38) (fun _ h9 => h9) rfl (by decide +kernel) rfl rfl (Nat.le_of_ble_eq_true rfl) dX1_clear_2 (fun H locs hP hD hS => ?_)
  have hP : va_P (dC, dI) vwCl [(h, .inr (1, [.ref hk, .ref hn, .ref hu, .int 0])), (hk, .inl (cI, 50, .inl ks)), (hn, .inl (cI, 50, .inl ns)), (hu, .inl (cI, 200, .inl us))] H := hP
  have hD : va_D A [(h, .inr (1, [.ref hk, .ref hn, .ref hu, .int 0])), (hk, .inl (cI, 50, .inl ks)), (hn, .inl (cI, 50, .inl ns)), (hu, .inl (cI, 200, .inl us))] := hD
  have hP9 := hP
  have hS9 := hS
  exact W.vret hx hb hr (fun t ht hW => ⟨rfl, by rw [ht]; exact hP9, hS9.F ht⟩) hS9.2.2 dX1_clear_5
set_option maxHeartbeats 4000000 in
set_option maxRecDepth 100000 in
theorem kX1_begin (l : Launch) (dC : Nat → ClassId) (dI : Nat → Nat → Nat) (B : Nat) (cI cC cJ : ClassId) (h : Nat) (hk : Nat) (hn : Nat) (hu : Nat) (ks : Nat → Int32) (ns : Nat → Int32) (us : Nat → Int32) (sz : Nat) (p0 : Int32) (p1 : Int32) (ks1 : Nat → Int32) (ns1 : Nat → Int32) (sz1 : Nat) (hsz : sz ≤ 50) (hF : k_begin ks ns sz p0 p1 = (ks1, ns1, sz1)) (sz9 : Nat) : Met l yX1_begin wsX1_begin ({ frames := 1, cells := 0, slots := 0, locals := 20 }) (q_Mp (dC, dI) vwCl [.ref h, .int p0, .int p1] [(h, .inr (1, [.ref hk, .ref hn, .ref hu, .int (nI sz)])), (hk, .inl (cI, 50, .inl ks)), (hn, .inl (cI, 50, .inl ns)), (hu, .inl (cI, 200, .inl us))] [(cI, .int), (cC, .char), (cJ, .long)] B sz9) (q_Mq (dC, dI) vwCl [(h, .inr (1, [.ref hk, .ref hn, .ref hu, .int (nI sz1)])), (hk, .inl (cI, 50, .inl ks1)), (hn, .inl (cI, 50, .inl ns1)), (hu, .inl (cI, 200, .inl us))] (va_A [(h, .inr (1, [.ref hk, .ref hn, .ref hu, .int (nI sz)])), (hk, .inl (cI, 50, .inl ks)), (hn, .inl (cI, 50, .inl ns)), (hu, .inl (cI, 200, .inl us))] sz9) none) 0 0 (va_A [(h, .inr (1, [.ref hk, .ref hn, .ref hu, .int (nI sz)])), (hk, .inl (cI, 50, .inl ks)), (hn, .inl (cI, 50, .inl ns)), (hu, .inl (cI, 200, .inl us))] sz9) := by
  refine Met.ofW (cc := cX1_begin) (maxL := 3) (ret := none) (by decide) rfl ?_
  intro p e s m args below meth c s₁ Bd hml hv
  obtain ⟨rfl, hsz9, hB, hP, hK, hD0, hT⟩ := hv
  have hx := Bd.exec
  have hb := Bd.bytes
  have hr := Bd.returns
  have hts := atoms_spec (ws := wsX1_begin) Bd.pre
  have hg : ∀ w ∈ lw_good, w.before _ s = true := fun w h => hts w (List.mem_cons_of_mem _ h)
  have hown : s.vm.findClass RX1 = some m.cls := findClass_of_methodNamed Bd.named
  have hlocks := Bd.notSynchronized
  subst hsz9
  have hD := hD0.self (sz := s.heap.size)
  generalize hAe : va_A [(h, .inr (1, [.ref hk, .ref hn, .ref hu, .int (nI sz)])), (hk, .inl (cI, 50, .inl ks)), (hn, .inl (cI, 50, .inl ns)), (hu, .inl (cI, 200, .inl us))] s.heap.size = A at hD ⊢
  have hA : ∀ q : Nat, s.heap.size ≤ q → A q := fun q h => by rw [← hAe]; exact Or.inr h
  have hAB : ∀ q, A q → B ≤ q := by rw [← hAe]; exact va_A.ge hD0 hB
  have hS : va_S A s.heap s.heap [] := va_S.rf
  have hP : va_P (dC, dI) vwCl [(h, .inr (1, [.ref hk, .ref hn, .ref hu, .int (nI sz)])), (hk, .inl (cI, 50, .inl ks)), (hn, .inl (cI, 50, .inl ns)), (hu, .inl (cI, 200, .inl us))] s.heap := hP
  have hl := lv_entry ([.ref h, .int p0, .int p1]) (n := 3) (Nat.le_of_ble_eq_true rfl)
  rw [lg_entry_eq]
  generalize (lg_sl ([.ref h, .int p0, .int p1]) ++ List.replicate (3 - (lg_sl ([.ref h, .int p0, .int p1])).length) Slot.unset).toArray = ls at hl ⊢
  have hl : lv_has ls 3 [(0, .ref h), (1, .int p0), (2, .int p1)] := hl
  refine lv_aload_n hx hb dX1_begin_0 rfl (lv_at hl 0 rfl) ?_
  refine go_R (r := (bI (k_isFull sz))) (va_runV (As := []) (rest := []) ⟨hx, hb, hml, hown, hg⟩ (kX1_isFull l dC dI B cI cC cJ h hk hn hu ks ns us sz (by omega)) (cwV 0 hg (gi_V w_277 w_260 w_261 w_4 w_262) rfl rfl rfl (by decide +kernel) ⟨Nat.le_of_ble_eq_true rfl, Nat.le_of_ble_eq_true rfl⟩) (pre_RV (va_recv hK hP (ci := 1) (q0 := 0) rfl rfl) (hP.sub [0, 1, 2, 3] rfl) hK hT) rfl rfl hl.1 rfl (lv_room (Nat.le_of_ble_eq_true rfl)) dX1_begin_1 ⟨Nat.le_of_ble_eq_true rfl, Nat.le_of_ble_eq_true rfl⟩) ?_
  refine lv_if_ne (tgt := 37) hx hb dX1_begin_4 (by decide) (fun c_1 => ?_) (fun c_1 => ?_)
  · skip
    have c_1 := bI_ne0 c_1
    have hP9 := hP
    have hS9 := hS
    have h9 : k_begin ks ns sz p0 p1 = (ks, ns, sz) := by simp [k_begin, c_1]
    have h9 := hF.symm.trans h9
    cases h9
    exact W.vret hx hb hr (fun t ht hW => ⟨rfl, by rw [ht]; exact hP9, hS9.F ht⟩) hS9.2.2 dX1_begin_37
  · skip
    have c_1 := bI_eq0 c_1
    have hfl := k_isFull_lt c_1
    refine lv_aload_n hx hb dX1_begin_7 rfl (lv_at hl 0 rfl) ?_
    refine va_get (D := (dC, dI)) (ci := 1) (v := .ref hk) (C := RX1) (T := TX1) (N := 4) hx hb hg in_X1 hown hK hP 0 rfl rfl 0 (by decide) (hg _ w_35) (fun _ h9 => h9) rfl dX1_begin_8 ?_
    refine lv_aload_n hx hb dX1_begin_11 rfl (lv_at hl 0 rfl) ?_
    refine va_get (D := (dC, dI)) (ci := 1) (v := .int (nI sz)) (C := RX1) (T := TX1) (N := 4) hx hb hg in_X1 hown hK hP 0 rfl rfl 3 (by decide) (hg _ w_38) (fun _ h9 => h9) rfl dX1_begin_12 ?_
    refine lv_iload_n hx hb dX1_begin_15 rfl (lv_at hl 1 rfl) ?_
    refine x_iast (k := sz) hx hb hK hP hD hS 1 0 rfl rfl (by omega) (by decide) dX1_begin_16 (fun H locs hP hD hS => ?_)
    have hP : va_P (dC, dI) vwCl [(h, .inr (1, [.ref hk, .ref hn, .ref hu, .int (nI sz)])), (hk, .inl (cI, 50, .inl (upd ks sz p0))), (hn, .inl (cI, 50, .inl ns)), (hu, .inl (cI, 200, .inl us))] H := hP
    have hD : va_D A [(h, .inr (1, [.ref hk, .ref hn, .ref hu, .int (nI sz)])), (hk, .inl (cI, 50, .inl (upd ks sz p0))), (hn, .inl (cI, 50, .inl ns)), (hu, .inl (cI, 200, .inl us))] := hD
    refine lv_aload_n hx hb dX1_begin_17 rfl (lv_at hl 0 rfl) ?_
    refine va_get (D := (dC, dI)) (ci := 1) (v := .ref hn) (C := RX1) (T := TX1) (N := 4) hx hb hg in_X1 hown hK hP 0 rfl rfl 1 (by decide) (hg _ w_36) (fun _ h9 => h9) rfl dX1_begin_18 ?_
    refine lv_aload_n hx hb dX1_begin_21 rfl (lv_at hl 0 rfl) ?_
    refine va_get (D := (dC, dI)) (ci := 1) (v := .int (nI sz)) (C := RX1) (T := TX1) (N := 4) hx hb hg in_X1 hown hK hP 0 rfl rfl 3 (by decide) (hg _ w_38) (fun _ h9 => h9) rfl dX1_begin_22 ?_
    refine lv_iload_n hx hb dX1_begin_25 rfl (lv_at hl 2 rfl) ?_
    refine x_iast (k := sz) hx hb hK hP hD hS 2 0 rfl rfl (by omega) (by decide) dX1_begin_26 (fun H locs hP hD hS => ?_)
    have hP : va_P (dC, dI) vwCl [(h, .inr (1, [.ref hk, .ref hn, .ref hu, .int (nI sz)])), (hk, .inl (cI, 50, .inl (upd ks sz p0))), (hn, .inl (cI, 50, .inl (upd ns sz p1))), (hu, .inl (cI, 200, .inl us))] H := hP
    have hD : va_D A [(h, .inr (1, [.ref hk, .ref hn, .ref hu, .int (nI sz)])), (hk, .inl (cI, 50, .inl (upd ks sz p0))), (hn, .inl (cI, 50, .inl (upd ns sz p1))), (hu, .inl (cI, 200, .inl us))] := hD
    refine lv_aload_n hx hb dX1_begin_27 rfl (lv_at hl 0 rfl) ?_
    refine lv_dup hx hb dX1_begin_28 rfl ?_
    refine va_get (D := (dC, dI)) (ci := 1) (v := .int (nI sz)) (C := RX1) (T := TX1) (N := 4) hx hb hg in_X1 hown hK hP 0 rfl rfl 3 (by decide) (hg _ w_38) (fun _ h9 => h9) rfl dX1_begin_29 ?_
    refine lv_iconst (v := 1) hx hb dX1_begin_32 (by decide) ?_
    refine lv_iadd hx hb dX1_begin_33 ?_
    refine top_eq (y := (nI (sz + 1))) (by exact nI_add _ _) ?_
    refine va_put (D := (dC, dI)) (ci := 1) (v := .int (nI (sz + 1))) (ty := .int) (C := RX1) (T := TX1) (N := 4) hx hb hg in_X1 tyX1 tyX1_ok nmX1_ok hown hK hP hD hS 0 rfl rfl 3 (by decide) (hg _ w_38) (fun _ h9 => h9) rfl (by decide +kernel) rfl rfl (Nat.le_of_ble_eq_true rfl) dX1_begin_34 (fun H locs hP hD hS => ?_)
    have hP : va_P (dC, dI) vwCl [(h, .inr (1, [.ref hk, .ref hn, .ref hu, .int (nI (sz + 1))])), (hk, .inl (cI, 50, .inl (upd ks sz p0))), (hn, .inl (cI, 50, .inl (upd ns sz p1))), (hu, .inl (cI, 200, .inl us))] H := hP
    have hD : va_D A [(h, .inr (1, [.ref hk, .ref hn, .ref hu, .int (nI (sz + 1))])), (hk, .inl (cI, 50, .inl (upd ks sz p0))), (hn, .inl (cI, 50, .inl (upd ns sz p1))), (hu, .inl (cI, 200, .inl us))] := hD
    have hP9 := hP
    have hS9 := hS
    have h9 : k_begin ks ns sz p0 p1 = (upd ks sz p0, upd ns sz p1, sz + 1) := by simp [k_begin, c_1]
    have h9 := hF.symm.trans h9
    cases h9
    exact W.vret hx hb hr (fun t ht hW => ⟨rfl, by rw [ht]; exact hP9, hS9.F ht⟩) hS9.2.2 dX1_begin_37
set_option maxHeartbeats 4000000 in
set_option maxRecDepth 100000 in
theorem kX1_setNumber (l : Launch) (dC : Nat → ClassId) (dI : Nat → Nat → Nat) (B : Nat) (cI cC cJ : ClassId) (h : Nat) (hk : Nat) (hn : Nat) (hu : Nat) (ks : Nat → Int32) (ns : Nat → Int32) (us : Nat → Int32) (sz : Nat) (p0 : Int32) (p1 : Int32) (us1 : Nat → Int32) (hsz : sz ≤ 50) (hF : k_setNumber us sz p0 p1 = us1) (sz9 : Nat) : Met l yX1_setNumber wsX1_setNumber ({ frames := 0, cells := 0, slots := 0, locals := 0 }) (q_Mp (dC, dI) vwCl [.ref h, .int p0, .int p1] [(h, .inr (1, [.ref hk, .ref hn, .ref hu, .int (nI sz)])), (hk, .inl (cI, 50, .inl ks)), (hn, .inl (cI, 50, .inl ns)), (hu, .inl (cI, 200, .inl us))] [(cI, .int), (cC, .char), (cJ, .long)] B sz9) (q_Mq (dC, dI) vwCl [(h, .inr (1, [.ref hk, .ref hn, .ref hu, .int (nI sz)])), (hk, .inl (cI, 50, .inl ks)), (hn, .inl (cI, 50, .inl ns)), (hu, .inl (cI, 200, .inl us1))] (va_A [(h, .inr (1, [.ref hk, .ref hn, .ref hu, .int (nI sz)])), (hk, .inl (cI, 50, .inl ks)), (hn, .inl (cI, 50, .inl ns)), (hu, .inl (cI, 200, .inl us))] sz9) none) 0 0 (va_A [(h, .inr (1, [.ref hk, .ref hn, .ref hu, .int (nI sz)])), (hk, .inl (cI, 50, .inl ks)), (hn, .inl (cI, 50, .inl ns)), (hu, .inl (cI, 200, .inl us))] sz9) := by
  refine Met.ofW (cc := cX1_setNumber) (maxL := 3) (ret := none) (by decide) rfl ?_
  intro p e s m args below meth c s₁ Bd hml hv
  obtain ⟨rfl, hsz9, hB, hP, hK, hD0, hT⟩ := hv
  have hx := Bd.exec
  have hb := Bd.bytes
  have hr := Bd.returns
  have hts := atoms_spec (ws := wsX1_setNumber) Bd.pre
  have hg : ∀ w ∈ lw_good, w.before _ s = true := fun w h => hts w (List.mem_cons_of_mem _ h)
  have hown : s.vm.findClass RX1 = some m.cls := findClass_of_methodNamed Bd.named
  have hlocks := Bd.notSynchronized
  subst hsz9
  have hD := hD0.self (sz := s.heap.size)
  generalize hAe : va_A [(h, .inr (1, [.ref hk, .ref hn, .ref hu, .int (nI sz)])), (hk, .inl (cI, 50, .inl ks)), (hn, .inl (cI, 50, .inl ns)), (hu, .inl (cI, 200, .inl us))] s.heap.size = A at hD ⊢
  have hA : ∀ q : Nat, s.heap.size ≤ q → A q := fun q h => by rw [← hAe]; exact Or.inr h
  have hAB : ∀ q, A q → B ≤ q := by rw [← hAe]; exact va_A.ge hD0 hB
  have hS : va_S A s.heap s.heap [] := va_S.rf
  have hP : va_P (dC, dI) vwCl [(h, .inr (1, [.ref hk, .ref hn, .ref hu, .int (nI sz)])), (hk, .inl (cI, 50, .inl ks)), (hn, .inl (cI, 50, .inl ns)), (hu, .inl (cI, 200, .inl us))] s.heap := hP
  have hl := lv_entry ([.ref h, .int p0, .int p1]) (n := 3) (Nat.le_of_ble_eq_true rfl)
  rw [lg_entry_eq]
  generalize (lg_sl ([.ref h, .int p0, .int p1]) ++ List.replicate (3 - (lg_sl ([.ref h, .int p0, .int p1])).length) Slot.unset).toArray = ls at hl ⊢
  have hl : lv_has ls 3 [(0, .ref h), (1, .int p0), (2, .int p1)] := hl
  refine lv_aload_n hx hb dX1_setNumber_0 rfl (lv_at hl 0 rfl) ?_
  refine va_get (D := (dC, dI)) (ci := 1) (v := .int (nI sz)) (C := RX1) (T := TX1) (N := 4) hx hb hg in_X1 hown hK hP 0 rfl rfl 3 (by decide) (hg _ w_38) (fun _ h9 => h9) rfl dX1_setNumber_1 ?_
  refine lv_if_le (tgt := 32) hx hb dX1_setNumber_4 (by decide) (fun c_1 => ?_) (fun c_1 => ?_)
  · skip
    have c_1 := na_le (a := sz) (b := 0) c_1 (by omega) (by omega)
    have hP9 := hP
    have hS9 := hS
    have h9 : k_setNumber us sz p0 p1 = us := by simp [k_setNumber, c_1]
    have h9 := hF.symm.trans h9
    cases h9
    exact W.vret hx hb hr (fun t ht hW => ⟨rfl, by rw [ht]; exact hP9, hS9.F ht⟩) hS9.2.2 dX1_setNumber_32
  · skip
    have c_1 := na_nle (a := sz) (b := 0) c_1 (by omega) (by omega)
    refine lv_iload_n hx hb dX1_setNumber_7 rfl (lv_at hl 1 rfl) ?_
    refine lv_if_lt (tgt := 32) hx hb dX1_setNumber_8 (by decide) (fun c_2 => ?_) (fun c_2 => ?_)
    · skip
      have hP9 := hP
      have hS9 := hS
      have h9 : k_setNumber us sz p0 p1 = us := by simp [k_setNumber, c_1, c_2]
      have h9 := hF.symm.trans h9
      cases h9
      exact W.vret hx hb hr (fun t ht hW => ⟨rfl, by rw [ht]; exact hP9, hS9.F ht⟩) hS9.2.2 dX1_setNumber_32
    · skip
      refine lv_iload_n hx hb dX1_setNumber_11 rfl (lv_at hl 1 rfl) ?_
      refine lv_iconst (v := 4) hx hb dX1_setNumber_12 (by decide) ?_
      refine lv_icmp_ge (tgt := 32) hx hb dX1_setNumber_13 (by decide) (fun c_3 => ?_) (fun c_3 => ?_)
      · skip
        have hP9 := hP
        have hS9 := hS
        have h9 : k_setNumber us sz p0 p1 = us := by simp [k_setNumber, c_1, c_2, c_3]
        have h9 := hF.symm.trans h9
        cases h9
        exact W.vret hx hb hr (fun t ht hW => ⟨rfl, by rw [ht]; exact hP9, hS9.F ht⟩) hS9.2.2 dX1_setNumber_32
      · skip
        refine lv_aload_n hx hb dX1_setNumber_16 rfl (lv_at hl 0 rfl) ?_
        refine va_get (D := (dC, dI)) (ci := 1) (v := .ref hu) (C := RX1) (T := TX1) (N := 4) hx hb hg in_X1 hown hK hP 0 rfl rfl 2 (by decide) (hg _ w_37) (fun _ h9 => h9) rfl dX1_setNumber_17 ?_
        refine lv_aload_n hx hb dX1_setNumber_20 rfl (lv_at hl 0 rfl) ?_
        refine va_get (D := (dC, dI)) (ci := 1) (v := .int (nI sz)) (C := RX1) (T := TX1) (N := 4) hx hb hg in_X1 hown hK hP 0 rfl rfl 3 (by decide) (hg _ w_38) (fun _ h9 => h9) rfl dX1_setNumber_21 ?_
        refine lv_iconst (v := 1) hx hb dX1_setNumber_24 (by decide) ?_
        refine lv_isub hx hb dX1_setNumber_25 ?_
        refine lv_iconst (v := 4) hx hb dX1_setNumber_26 (by decide) ?_
        refine lv_imul hx hb dX1_setNumber_27 ?_
        refine lv_iload_n hx hb dX1_setNumber_28 rfl (lv_at hl 1 rfl) ?_
        refine lv_iadd hx hb dX1_setNumber_29 ?_
        refine lv_iload_n hx hb dX1_setNumber_30 rfl (lv_at hl 2 rfl) ?_
        refine va_iast (i := (((nI sz) - 1) * 4) + p0) hx hb hK hP hD hS 3 0 rfl rfl (ix_set c_1 c_2 c_3 hsz) dX1_setNumber_31 (fun H locs hP hD hS => ?_)
        have hP : va_P (dC, dI) vwCl [(h, .inr (1, [.ref hk, .ref hn, .ref hu, .int (nI sz)])), (hk, .inl (cI, 50, .inl ks)), (hn, .inl (cI, 50, .inl ns)), (hu, .inl (cI, 200, .inl (upd us ((((nI sz) - 1) * 4) + p0).toNatClampNeg p1)))] H := hP
        have hD : va_D A [(h, .inr (1, [.ref hk, .ref hn, .ref hu, .int (nI sz)])), (hk, .inl (cI, 50, .inl ks)), (hn, .inl (cI, 50, .inl ns)), (hu, .inl (cI, 200, .inl (upd us ((((nI sz) - 1) * 4) + p0).toNatClampNeg p1)))] := hD
        have hP9 := hP
        have hS9 := hS
        have h9 : k_setNumber us sz p0 p1 = upd us ((((nI sz) - 1) * 4) + p0).toNatClampNeg p1 := by simp [k_setNumber, c_1, c_2, c_3]
        have h9 := hF.symm.trans h9
        cases h9
        exact W.vret hx hb hr (fun t ht hW => ⟨rfl, by rw [ht]; exact hP9, hS9.F ht⟩) hS9.2.2 dX1_setNumber_32
set_option maxHeartbeats 4000000 in
set_option maxRecDepth 100000 in
theorem kX1_copyFrom (l : Launch) (dC : Nat → ClassId) (dI : Nat → Nat → Nat) (B : Nat) (cI cC cJ : ClassId) (h : Nat) (hk : Nat) (hn : Nat) (hu : Nat) (ks : Nat → Int32) (ns : Nat → Int32) (us : Nat → Int32) (sz : Nat) (h2 : Nat) (hk2 : Nat) (hn2 : Nat) (hu2 : Nat) (ks2 : Nat → Int32) (ns2 : Nat → Int32) (us2 : Nat → Int32) (sz2 : Nat) (hsz : sz ≤ 50) (hsz2 : sz2 ≤ 50) (sz9 : Nat) : Met l yX1_copyFrom wsX1_copyFrom ({ frames := 1, cells := 0, slots := 0, locals := 60 }) (q_Mp (dC, dI) vwCl [.ref h, .ref h2] [(h, .inr (1, [.ref hk, .ref hn, .ref hu, .int (nI sz)])), (hk, .inl (cI, 50, .inl ks)), (hn, .inl (cI, 50, .inl ns)), (hu, .inl (cI, 200, .inl us)), (h2, .inr (1, [.ref hk2, .ref hn2, .ref hu2, .int (nI sz2)])), (hk2, .inl (cI, 50, .inl ks2)), (hn2, .inl (cI, 50, .inl ns2)), (hu2, .inl (cI, 200, .inl us2))] [(cI, .int), (cC, .char), (cJ, .long)] B sz9) (q_Mq (dC, dI) vwCl [(h, .inr (1, [.ref hk, .ref hn, .ref hu, .int (nI sz2)])), (hk, .inl (cI, 50, .inl ks2)), (hn, .inl (cI, 50, .inl ns2)), (hu, .inl (cI, 200, .inl us2)), (h2, .inr (1, [.ref hk2, .ref hn2, .ref hu2, .int (nI sz2)])), (hk2, .inl (cI, 50, .inl ks2)), (hn2, .inl (cI, 50, .inl ns2)), (hu2, .inl (cI, 200, .inl us2))] (va_A [(h, .inr (1, [.ref hk, .ref hn, .ref hu, .int (nI sz)])), (hk, .inl (cI, 50, .inl ks)), (hn, .inl (cI, 50, .inl ns)), (hu, .inl (cI, 200, .inl us)), (h2, .inr (1, [.ref hk2, .ref hn2, .ref hu2, .int (nI sz2)])), (hk2, .inl (cI, 50, .inl ks2)), (hn2, .inl (cI, 50, .inl ns2)), (hu2, .inl (cI, 200, .inl us2))] sz9) none) 0 0 (va_A [(h, .inr (1, [.ref hk, .ref hn, .ref hu, .int (nI sz)])), (hk, .inl (cI, 50, .inl ks)), (hn, .inl (cI, 50, .inl ns)), (hu, .inl (cI, 200, .inl us)), (h2, .inr (1, [.ref hk2, .ref hn2, .ref hu2, .int (nI sz2)])), (hk2, .inl (cI, 50, .inl ks2)), (hn2, .inl (cI, 50, .inl ns2)), (hu2, .inl (cI, 200, .inl us2))] sz9) := by
  refine Met.ofW (cc := cX1_copyFrom) (maxL := 2) (ret := none) (by decide) rfl ?_
  intro p e s m args below meth c s₁ Bd hml hv
  obtain ⟨rfl, hsz9, hB, hP, hK, hD0, hT⟩ := hv
  have hx := Bd.exec
  have hb := Bd.bytes
  have hr := Bd.returns
  have hts := atoms_spec (ws := wsX1_copyFrom) Bd.pre
  have hg : ∀ w ∈ lw_good, w.before _ s = true := fun w h => hts w (List.mem_cons_of_mem _ h)
  have hown : s.vm.findClass RX1 = some m.cls := findClass_of_methodNamed Bd.named
  have hlocks := Bd.notSynchronized
  subst hsz9
  have hD := hD0.self (sz := s.heap.size)
  generalize hAe : va_A [(h, .inr (1, [.ref hk, .ref hn, .ref hu, .int (nI sz)])), (hk, .inl (cI, 50, .inl ks)), (hn, .inl (cI, 50, .inl ns)), (hu, .inl (cI, 200, .inl us)), (h2, .inr (1, [.ref hk2, .ref hn2, .ref hu2, .int (nI sz2)])), (hk2, .inl (cI, 50, .inl ks2)), (hn2, .inl (cI, 50, .inl ns2)), (hu2, .inl (cI, 200, .inl us2))] s.heap.size = A at hD ⊢
  have hA : ∀ q : Nat, s.heap.size ≤ q → A q := fun q h => by rw [← hAe]; exact Or.inr h
  have hAB : ∀ q, A q → B ≤ q := by rw [← hAe]; exact va_A.ge hD0 hB
  have hS : va_S A s.heap s.heap [] := va_S.rf
  have hP : va_P (dC, dI) vwCl [(h, .inr (1, [.ref hk, .ref hn, .ref hu, .int (nI sz)])), (hk, .inl (cI, 50, .inl ks)), (hn, .inl (cI, 50, .inl ns)), (hu, .inl (cI, 200, .inl us)), (h2, .inr (1, [.ref hk2, .ref hn2, .ref hu2, .int (nI sz2)])), (hk2, .inl (cI, 50, .inl ks2)), (hn2, .inl (cI, 50, .inl ns2)), (hu2, .inl (cI, 200, .inl us2))] s.heap := hP
  have hl := lv_entry ([.ref h, .ref h2]) (n := 2) (Nat.le_of_ble_eq_true rfl)
  rw [lg_entry_eq]
  generalize (lg_sl ([.ref h, .ref h2]) ++ List.replicate (2 - (lg_sl ([.ref h, .ref h2])).length) Slot.unset).toArray = ls at hl ⊢
  have hl : lv_has ls 2 [(0, .ref h), (1, .ref h2)] := hl
  refine lv_aload_n hx hb dX1_copyFrom_0 rfl (lv_at hl 0 rfl) ?_
  refine lv_aload_n hx hb dX1_copyFrom_1 rfl (lv_at hl 1 rfl) ?_
  refine va_get (D := (dC, dI)) (ci := 1) (v := .int (nI sz2)) (C := RX1) (T := TX1) (N := 4) hx hb hg in_X1 hown hK hP 4 rfl rfl 3 (by decide) (hg _ w_38) (fun _ h9 => h9) rfl dX1_copyFrom_2 ?_
  refine va_put (D := (dC, dI)) (ci := 1) (v := .int (nI sz2)) (ty := .int) (C := RX1) (T := TX1) (N := 4) hx hb hg in_X1 tyX1 tyX1_ok nmX1_ok hown hK hP hD hS 0 rfl rfl 3 (by decide) (hg _ w_38) (fun _ h9 => h9) rfl (by decide +kernel) rfl rfl (Nat.le_of_ble_eq_true rfl) dX1_copyFrom_5 (fun H locs hP hD hS => ?_)
  have hP : va_P (dC, dI) vwCl [(h, .inr (1, [.ref hk, .ref hn, .ref hu, .int (nI sz2)])), (hk, .inl (cI, 50, .inl ks)), (hn, .inl (cI, 50, .inl ns)), (hu, .inl (cI, 200, .inl us)), (h2, .inr (1, [.ref hk2, .ref hn2, .ref hu2, .int (nI sz2)])), (hk2, .inl (cI, 50, .inl ks2)), (hn2, .inl (cI, 50, .inl ns2)), (hu2, .inl (cI, 200, .inl us2))] H := hP
  have hD : va_D A [(h, .inr (1, [.ref hk, .ref hn, .ref hu, .int (nI sz2)])), (hk, .inl (cI, 50, .inl ks)), (hn, .inl (cI, 50, .inl ns)), (hu, .inl (cI, 200, .inl us)), (h2, .inr (1, [.ref hk2, .ref hn2, .ref hu2, .int (nI sz2)])), (hk2, .inl (cI, 50, .inl ks2)), (hn2, .inl (cI, 50, .inl ns2)), (hu2, .inl (cI, 200, .inl us2))] := hD
  refine lv_aload_n hx hb dX1_copyFrom_8 rfl (lv_at hl 1 rfl) ?_
  refine va_get (D := (dC, dI)) (ci := 1) (v := .ref hk2) (C := RX1) (T := TX1) (N := 4) hx hb hg in_X1 hown hK hP 4 rfl rfl 0 (by decide) (hg _ w_35) (fun _ h9 => h9) rfl dX1_copyFrom_9 ?_
  refine lv_iconst (v := 0) hx hb dX1_copyFrom_12 (by decide) ?_
  refine lv_aload_n hx hb dX1_copyFrom_13 rfl (lv_at hl 0 rfl) ?_
  refine va_get (D := (dC, dI)) (ci := 1) (v := .ref hk) (C := RX1) (T := TX1) (N := 4) hx hb hg in_X1 hown hK hP 0 rfl rfl 0 (by decide) (hg _ w_35) (fun _ h9 => h9) rfl dX1_copyFrom_14 ?_
  refine lv_iconst (v := 0) hx hb dX1_copyFrom_17 (by decide) ?_
  refine lv_bipush (v := 50) hx hb dX1_copyFrom_18 (by decide) ?_
  refine va_copyi (ty := .int) hx hb (hml.trans hl.1.symm) hown (hg _ w_182) (hg _ w_184) (hg _ w_183) (hg _ w_13) hK hP hD hS 5 1 0 0 rfl rfl rfl rfl rfl (by decide) (by decide) (by decide) (by decide) (by decide) (fun _ _ => rfl) (Nat.le_of_ble_eq_true rfl) (Nat.le_of_ble_eq_true rfl) dX1_copyFrom_20 (fun H locs hP hD hS => ?_)
  have hP := hP.congrA (q0 := 1) (g := ks2) rfl (fun j hj => cpy_all (N := 50) (n := 50) (by decide) hj)
  have hP : va_P (dC, dI) vwCl [(h, .inr (1, [.ref hk, .ref hn, .ref hu, .int (nI sz2)])), (hk, .inl (cI, 50, .inl ks2)), (hn, .inl (cI, 50, .inl ns)), (hu, .inl (cI, 200, .inl us)), (h2, .inr (1, [.ref hk2, .ref hn2, .ref hu2, .int (nI sz2)])), (hk2, .inl (cI, 50, .inl ks2)), (hn2, .inl (cI, 50, .inl ns2)), (hu2, .inl (cI, 200, .inl us2))] H := hP
  have hD : va_D A [(h, .inr (1, [.ref hk, .ref hn, .ref hu, .int (nI sz2)])), (hk, .inl (cI, 50, .inl ks2)), (hn, .inl (cI, 50, .inl ns)), (hu, .inl (cI, 200, .inl us)), (h2, .inr (1, [.ref hk2, .ref hn2, .ref hu2, .int (nI sz2)])), (hk2, .inl (cI, 50, .inl ks2)), (hn2, .inl (cI, 50, .inl ns2)), (hu2, .inl (cI, 200, .inl us2))] := hD.of_map rfl
  refine lv_aload_n hx hb dX1_copyFrom_23 rfl (lv_at hl 1 rfl) ?_
  refine va_get (D := (dC, dI)) (ci := 1) (v := .ref hn2) (C := RX1) (T := TX1) (N := 4) hx hb hg in_X1 hown hK hP 4 rfl rfl 1 (by decide) (hg _ w_36) (fun _ h9 => h9) rfl dX1_copyFrom_24 ?_
  refine lv_iconst (v := 0) hx hb dX1_copyFrom_27 (by decide) ?_
  refine lv_aload_n hx hb dX1_copyFrom_28 rfl (lv_at hl 0 rfl) ?_
  refine va_get (D := (dC, dI)) (ci := 1) (v := .ref hn) (C := RX1) (T := TX1) (N := 4) hx hb hg in_X1 hown hK hP 0 rfl rfl 1 (by decide) (hg _ w_36) (fun _ h9 => h9) rfl dX1_copyFrom_29 ?_
  refine lv_iconst (v := 0) hx hb dX1_copyFrom_32 (by decide) ?_
  refine lv_bipush (v := 50) hx hb dX1_copyFrom_33 (by decide) ?_
  refine va_copyi (ty := .int) hx hb (hml.trans hl.1.symm) hown (hg _ w_182) (hg _ w_184) (hg _ w_183) (hg _ w_13) hK hP hD hS 6 2 0 0 rfl rfl rfl rfl rfl (by decide) (by decide) (by decide) (by decide) (by decide) (fun _ _ => rfl) (Nat.le_of_ble_eq_true rfl) (Nat.le_of_ble_eq_true rfl) dX1_copyFrom_35 (fun H locs hP hD hS => ?_)
  have hP := hP.congrA (q0 := 2) (g := ns2) rfl (fun j hj => cpy_all (N := 50) (n := 50) (by decide) hj)
  have hP : va_P (dC, dI) vwCl [(h, .inr (1, [.ref hk, .ref hn, .ref hu, .int (nI sz2)])), (hk, .inl (cI, 50, .inl ks2)), (hn, .inl (cI, 50, .inl ns2)), (hu, .inl (cI, 200, .inl us)), (h2, .inr (1, [.ref hk2, .ref hn2, .ref hu2, .int (nI sz2)])), (hk2, .inl (cI, 50, .inl ks2)), (hn2, .inl (cI, 50, .inl ns2)), (hu2, .inl (cI, 200, .inl us2))] H := hP
  have hD : va_D A [(h, .inr (1, [.ref hk, .ref hn, .ref hu, .int (nI sz2)])), (hk, .inl (cI, 50, .inl ks2)), (hn, .inl (cI, 50, .inl ns2)), (hu, .inl (cI, 200, .inl us)), (h2, .inr (1, [.ref hk2, .ref hn2, .ref hu2, .int (nI sz2)])), (hk2, .inl (cI, 50, .inl ks2)), (hn2, .inl (cI, 50, .inl ns2)), (hu2, .inl (cI, 200, .inl us2))] := hD.of_map rfl
  refine lv_aload_n hx hb dX1_copyFrom_38 rfl (lv_at hl 1 rfl) ?_
  refine va_get (D := (dC, dI)) (ci := 1) (v := .ref hu2) (C := RX1) (T := TX1) (N := 4) hx hb hg in_X1 hown hK hP 4 rfl rfl 2 (by decide) (hg _ w_37) (fun _ h9 => h9) rfl dX1_copyFrom_39 ?_
  refine lv_iconst (v := 0) hx hb dX1_copyFrom_42 (by decide) ?_
  refine lv_aload_n hx hb dX1_copyFrom_43 rfl (lv_at hl 0 rfl) ?_
  refine va_get (D := (dC, dI)) (ci := 1) (v := .ref hu) (C := RX1) (T := TX1) (N := 4) hx hb hg in_X1 hown hK hP 0 rfl rfl 2 (by decide) (hg _ w_37) (fun _ h9 => h9) rfl dX1_copyFrom_44 ?_
  refine lv_iconst (v := 0) hx hb dX1_copyFrom_47 (by decide) ?_
  refine lv_sipush (v := 200) hx hb dX1_copyFrom_48 (by decide) ?_
  refine va_copyi (ty := .int) hx hb (hml.trans hl.1.symm) hown (hg _ w_182) (hg _ w_184) (hg _ w_183) (hg _ w_13) hK hP hD hS 7 3 0 0 rfl rfl rfl rfl rfl (by decide) (by decide) (by decide) (by decide) (by decide) (fun _ _ => rfl) (Nat.le_of_ble_eq_true rfl) (Nat.le_of_ble_eq_true rfl) dX1_copyFrom_51 (fun H locs hP hD hS => ?_)
  have hP := hP.congrA (q0 := 3) (g := us2) rfl (fun j hj => cpy_all (N := 200) (n := 200) (by decide) hj)
  have hP : va_P (dC, dI) vwCl [(h, .inr (1, [.ref hk, .ref hn, .ref hu, .int (nI sz2)])), (hk, .inl (cI, 50, .inl ks2)), (hn, .inl (cI, 50, .inl ns2)), (hu, .inl (cI, 200, .inl us2)), (h2, .inr (1, [.ref hk2, .ref hn2, .ref hu2, .int (nI sz2)])), (hk2, .inl (cI, 50, .inl ks2)), (hn2, .inl (cI, 50, .inl ns2)), (hu2, .inl (cI, 200, .inl us2))] H := hP
  have hD : va_D A [(h, .inr (1, [.ref hk, .ref hn, .ref hu, .int (nI sz2)])), (hk, .inl (cI, 50, .inl ks2)), (hn, .inl (cI, 50, .inl ns2)), (hu, .inl (cI, 200, .inl us2)), (h2, .inr (1, [.ref hk2, .ref hn2, .ref hu2, .int (nI sz2)])), (hk2, .inl (cI, 50, .inl ks2)), (hn2, .inl (cI, 50, .inl ns2)), (hu2, .inl (cI, 200, .inl us2))] := hD.of_map rfl
  have hP9 := hP
  have hS9 := hS
  exact W.vret hx hb hr (fun t ht hW => ⟨rfl, by rw [ht]; exact hP9, hS9.F ht⟩) hS9.2.2 dX1_copyFrom_54
