set_option maxHeartbeats 4000000 in
set_option maxRecDepth 100000 in
theorem kX5_isPoint (l : Launch) (dC : Nat → ClassId) (dI : Nat → Nat → Nat) (B : Nat) (cI cC cJ : ClassId) (p0 : Int32) : Met l yX5_isPoint wsX5_isPoint ({ frames := 0, cells := 0, slots := 0, locals := 0 }) (q_Rd (dC, dI) vwCl [.int p0] [] [(cI, .int), (cC, .char), (cJ, .long)] B) (QcRead (bI (k_isPoint p0))) 0 0 (fun _ => False) := by
  refine Met.ofW (cc := cX5_isPoint) (maxL := 1) (ret := (some .boolean)) (by decide) rfl ?_
  intro p e s m args below meth c s₁ Bd hml hv
  obtain ⟨rfl, hP, hK, hT⟩ := hv
  have hx := Bd.exec
  have hb := Bd.bytes
  have hr := Bd.returns
  have hts := atoms_spec (ws := wsX5_isPoint) Bd.pre
  have hg : ∀ w ∈ lw_good, w.before _ s = true := fun w h => hts w (List.mem_cons_of_mem _ h)
  have hown : s.vm.findClass RX5 = some m.cls := findClass_of_methodNamed Bd.named
  have hlocks := Bd.notSynchronized
  have hSB : va_S (fun q => B ≤ q) s.heap s.heap [] := va_S.rf
  have hP : va_P (dC, dI) vwCl [] s.heap := hP
  have hl := lv_entry ([.int p0]) (n := 1) (Nat.le_of_ble_eq_true rfl)
  rw [lg_entry_eq]
  generalize (lg_sl ([.int p0]) ++ List.replicate (1 - (lg_sl ([.int p0])).length) Slot.unset).toArray = ls at hl ⊢
  have hl : lv_has ls 1 [(0, .int p0)] := hl
  refine lv_iload_n hx hb dX5_isPoint_0 rfl (lv_at hl 0 rfl) ?_
  refine lv_if_lt (tgt := 14) hx hb dX5_isPoint_1 (by decide) (fun c_1 => ?_) (fun c_1 => ?_)
  · skip
    refine lv_iconst (v := 0) hx hb dX5_isPoint_14 (by decide) ?_
    exact W.zret (v := 0) (ty := .boolean) hx hb hr rfl (fun t ht hW => rd_end (bI_0 (by simp [k_isPoint, c_1])).symm ht) (fun q h => by cases h) dX5_isPoint_15
  · skip
    refine lv_iload_n hx hb dX5_isPoint_4 rfl (lv_at hl 0 rfl) ?_
    refine lv_bipush (v := 16) hx hb dX5_isPoint_5 (by decide) ?_
    refine lv_icmp_ge (tgt := 14) hx hb dX5_isPoint_7 (by decide) (fun c_2 => ?_) (fun c_2 => ?_)
    · skip
      refine lv_iconst (v := 0) hx hb dX5_isPoint_14 (by decide) ?_
      exact W.zret (v := 0) (ty := .boolean) hx hb hr rfl (fun t ht hW => rd_end (bI_0 (by simp [k_isPoint, c_1, c_2])).symm ht) (fun q h => by cases h) dX5_isPoint_15
    · skip
      refine lv_iconst (v := 1) hx hb dX5_isPoint_10 (by decide) ?_
      refine lv_goto (tgt := 15) hx hb dX5_isPoint_11 (by decide) ?_
      exact W.zret (v := 1) (ty := .boolean) hx hb hr rfl (fun t ht hW => rd_end (bI_1 (by simp [k_isPoint, c_1, c_2])).symm ht) (fun q h => by cases h) dX5_isPoint_15
set_option maxHeartbeats 4000000 in
set_option maxRecDepth 100000 in
theorem kX5_isKind (l : Launch) (dC : Nat → ClassId) (dI : Nat → Nat → Nat) (B : Nat) (cI cC cJ : ClassId) (p0 : Int32) : Met l yX5_isKind wsX5_isKind ({ frames := 0, cells := 0, slots := 0, locals := 0 }) (q_Rd (dC, dI) vwCl [.int p0] [] [(cI, .int), (cC, .char), (cJ, .long)] B) (QcRead (bI (k_isKind p0))) 0 0 (fun _ => False) := by
  refine Met.ofW (cc := cX5_isKind) (maxL := 1) (ret := (some .boolean)) (by decide) rfl ?_
  intro p e s m args below meth c s₁ Bd hml hv
  obtain ⟨rfl, hP, hK, hT⟩ := hv
  have hx := Bd.exec
  have hb := Bd.bytes
  have hr := Bd.returns
  have hts := atoms_spec (ws := wsX5_isKind) Bd.pre
  have hg : ∀ w ∈ lw_good, w.before _ s = true := fun w h => hts w (List.mem_cons_of_mem _ h)
  have hown : s.vm.findClass RX5 = some m.cls := findClass_of_methodNamed Bd.named
  have hlocks := Bd.notSynchronized
  have hSB : va_S (fun q => B ≤ q) s.heap s.heap [] := va_S.rf
  have hP : va_P (dC, dI) vwCl [] s.heap := hP
  have hl := lv_entry ([.int p0]) (n := 1) (Nat.le_of_ble_eq_true rfl)
  rw [lg_entry_eq]
  generalize (lg_sl ([.int p0]) ++ List.replicate (1 - (lg_sl ([.int p0])).length) Slot.unset).toArray = ls at hl ⊢
  have hl : lv_has ls 1 [(0, .int p0)] := hl
  refine lv_iload_n hx hb dX5_isKind_0 rfl (lv_at hl 0 rfl) ?_
  refine lv_if_lt (tgt := 14) hx hb dX5_isKind_1 (by decide) (fun c_1 => ?_) (fun c_1 => ?_)
  · skip
    refine lv_iconst (v := 0) hx hb dX5_isKind_14 (by decide) ?_
    exact W.zret (v := 0) (ty := .boolean) hx hb hr rfl (fun t ht hW => rd_end (bI_0 (by simp [k_isKind, c_1])).symm ht) (fun q h => by cases h) dX5_isKind_15
  · skip
    refine lv_iload_n hx hb dX5_isKind_4 rfl (lv_at hl 0 rfl) ?_
    refine lv_bipush (v := 6) hx hb dX5_isKind_5 (by decide) ?_
    refine lv_icmp_ge (tgt := 14) hx hb dX5_isKind_7 (by decide) (fun c_2 => ?_) (fun c_2 => ?_)
    · skip
      refine lv_iconst (v := 0) hx hb dX5_isKind_14 (by decide) ?_
      exact W.zret (v := 0) (ty := .boolean) hx hb hr rfl (fun t ht hW => rd_end (bI_0 (by simp [k_isKind, c_1, c_2])).symm ht) (fun q h => by cases h) dX5_isKind_15
    · skip
      refine lv_iconst (v := 1) hx hb dX5_isKind_10 (by decide) ?_
      refine lv_goto (tgt := 15) hx hb dX5_isKind_11 (by decide) ?_
      exact W.zret (v := 1) (ty := .boolean) hx hb hr rfl (fun t ht hW => rd_end (bI_1 (by simp [k_isKind, c_1, c_2])).symm ht) (fun q h => by cases h) dX5_isKind_15
set_option maxHeartbeats 4000000 in
set_option maxRecDepth 100000 in
theorem kX5_numbersOfKind (l : Launch) (dC : Nat → ClassId) (dI : Nat → Nat → Nat) (B : Nat) (cI cC cJ : ClassId) (p0 : Int32) : Met l yX5_numbersOfKind wsX5_numbersOfKind ({ frames := 1, cells := 0, slots := 0, locals := 20 }) (q_Rd (dC, dI) vwCl [.int p0] [] [(cI, .int), (cC, .char), (cJ, .long)] B) (QcRead (nI (k_nK p0))) 0 0 (fun _ => False) := by
  refine Met.ofW (cc := cX5_numbersOfKind) (maxL := 1) (ret := (some .int)) (by decide) rfl ?_
  intro p e s m args below meth c s₁ Bd hml hv
  obtain ⟨rfl, hP, hK, hT⟩ := hv
  have hx := Bd.exec
  have hb := Bd.bytes
  have hr := Bd.returns
  have hts := atoms_spec (ws := wsX5_numbersOfKind) Bd.pre
  have hg : ∀ w ∈ lw_good, w.before _ s = true := fun w h => hts w (List.mem_cons_of_mem _ h)
  have hown : s.vm.findClass RX5 = some m.cls := findClass_of_methodNamed Bd.named
  have hlocks := Bd.notSynchronized
  have hSB : va_S (fun q => B ≤ q) s.heap s.heap [] := va_S.rf
  have hP : va_P (dC, dI) vwCl [] s.heap := hP
  have hT9 := hT.1
  obtain ⟨tL, tN, tA, tZ, zL, aL, zN, aN, zA, aA, zZ, aZ⟩ := hT9
  have hl := lv_entry ([.int p0]) (n := 1) (Nat.le_of_ble_eq_true rfl)
  rw [lg_entry_eq]
  generalize (lg_sl ([.int p0]) ++ List.replicate (1 - (lg_sl ([.int p0])).length) Slot.unset).toArray = ls at hl ⊢
  have hl : lv_has ls 1 [(0, .int p0)] := hl
  refine lv_iload_n hx hb dX5_numbersOfKind_0 rfl (lv_at hl 0 rfl) ?_
  refine go_R (r := (bI (k_isKind p0))) (va_runS (As := [.int p0]) (rest := []) ⟨hx, hb, hml, hown, hg⟩ (kX5_isKind l dC dI B cI cC cJ p0) (va_cwS 1 hg (gi_S w_211 w_212 w_2 w_213) rfl rfl rfl (by decide +kernel) ⟨Nat.le_of_ble_eq_true rfl, Nat.le_of_ble_eq_true rfl⟩) (pre_RS (hP.sub [] rfl) hK hT) rfl rfl hl.1 rfl (lv_room (Nat.le_of_ble_eq_true rfl)) dX5_numbersOfKind_1 ⟨Nat.le_of_ble_eq_true rfl, Nat.le_of_ble_eq_true rfl⟩) ?_
  refine lv_if_eq (tgt := 15) hx hb dX5_numbersOfKind_4 (by decide) (fun c_1 => ?_) (fun c_1 => ?_)
  · skip
    have c_1 := bI_eq0 c_1
    refine lv_iconst (v := 0) hx hb dX5_numbersOfKind_15 (by decide) ?_
    exact W.iret (v := 0) hx hb hr (fun t ht hW => rd_end (by simp [k_nK, nI_0, c_1]) ht) (fun q h => by cases h) dX5_numbersOfKind_16
  · skip
    have c_1 := bI_ne0 c_1
    refine va_gets hx hb zN hSB hown (hg _ w_214) (fun _ h9 => h9) dX5_numbersOfKind_7 ?_
    refine lv_iload_n hx hb dX5_numbersOfKind_10 rfl (lv_at hl 0 rfl) ?_
    refine va_ti (i := p0) (v := .int (nI (k_tabN p0.toNatClampNeg))) hx hb aN hSB (kind_in c_1) rfl dX5_numbersOfKind_11 ?_
    refine lv_goto (tgt := 16) hx hb dX5_numbersOfKind_12 (by decide) ?_
    exact W.iret (v := (nI (k_tabN p0.toNatClampNeg))) hx hb hr (fun t ht hW => rd_end (by simp [k_nK, nI_0, c_1]) ht) (fun q h => by cases h) dX5_numbersOfKind_16
set_option maxHeartbeats 4000000 in
set_option maxRecDepth 100000 in
theorem kX1_size (l : Launch) (dC : Nat → ClassId) (dI : Nat → Nat → Nat) (B : Nat) (cI cC cJ : ClassId) (h : Nat) (hk : Nat) (hn : Nat) (hu : Nat) (ks : Nat → Int32) (ns : Nat → Int32) (us : Nat → Int32) (sz : Nat) (hsz : sz ≤ 50) : Met l yX1_size wsX1_size ({ frames := 0, cells := 0, slots := 0, locals := 0 }) (q_Rd (dC, dI) vwCl [.ref h] [(h, .inr (1, [.ref hk, .ref hn, .ref hu, .int (nI sz)])), (hk, .inl (cI, 50, .inl ks)), (hn, .inl (cI, 50, .inl ns)), (hu, .inl (cI, 200, .inl us))] [(cI, .int), (cC, .char), (cJ, .long)] B) (QcRead (nI sz)) 0 0 (fun _ => False) := by
  refine Met.ofW (cc := cX1_size) (maxL := 1) (ret := (some .int)) (by decide) rfl ?_
  intro p e s m args below meth c s₁ Bd hml hv
  obtain ⟨rfl, hP, hK, hT⟩ := hv
  have hx := Bd.exec
  have hb := Bd.bytes
  have hr := Bd.returns
  have hts := atoms_spec (ws := wsX1_size) Bd.pre
  have hg : ∀ w ∈ lw_good, w.before _ s = true := fun w h => hts w (List.mem_cons_of_mem _ h)
  have hown : s.vm.findClass RX1 = some m.cls := findClass_of_methodNamed Bd.named
  have hlocks := Bd.notSynchronized
  have hSB : va_S (fun q => B ≤ q) s.heap s.heap [] := va_S.rf
  have hP : va_P (dC, dI) vwCl [(h, .inr (1, [.ref hk, .ref hn, .ref hu, .int (nI sz)])), (hk, .inl (cI, 50, .inl ks)), (hn, .inl (cI, 50, .inl ns)), (hu, .inl (cI, 200, .inl us))] s.heap := hP
  have hl := lv_entry ([.ref h]) (n := 1) (Nat.le_of_ble_eq_true rfl)
  rw [lg_entry_eq]
  generalize (lg_sl ([.ref h]) ++ List.replicate (1 - (lg_sl ([.ref h])).length) Slot.unset).toArray = ls at hl ⊢
  have hl : lv_has ls 1 [(0, .ref h)] := hl
  refine lv_aload_n hx hb dX1_size_0 rfl (lv_at hl 0 rfl) ?_
  refine va_get (D := (dC, dI)) (ci := 1) (v := .int (nI sz)) (C := RX1) (T := TX1) (N := 4) hx hb hg in_X1 hown hK hP 0 rfl rfl 3 (by decide) (hg _ w_38) (fun _ h9 => h9) rfl dX1_size_1 ?_
  exact W.iret (v := (nI sz)) hx hb hr (fun t ht hW => rd_end rfl ht) (fun q h => by cases h) dX1_size_4
set_option maxHeartbeats 4000000 in
set_option maxRecDepth 100000 in
theorem kX1_isFull (l : Launch) (dC : Nat → ClassId) (dI : Nat → Nat → Nat) (B : Nat) (cI cC cJ : ClassId) (h : Nat) (hk : Nat) (hn : Nat) (hu : Nat) (ks : Nat → Int32) (ns : Nat → Int32) (us : Nat → Int32) (sz : Nat) (hsz : sz ≤ 50) : Met l yX1_isFull wsX1_isFull ({ frames := 0, cells := 0, slots := 0, locals := 0 }) (q_Rd (dC, dI) vwCl [.ref h] [(h, .inr (1, [.ref hk, .ref hn, .ref hu, .int (nI sz)])), (hk, .inl (cI, 50, .inl ks)), (hn, .inl (cI, 50, .inl ns)), (hu, .inl (cI, 200, .inl us))] [(cI, .int), (cC, .char), (cJ, .long)] B) (QcRead (bI (k_isFull sz))) 0 0 (fun _ => False) := by
  refine Met.ofW (cc := cX1_isFull) (maxL := 1) (ret := (some .boolean)) (by decide) rfl ?_
  intro p e s m args below meth c s₁ Bd hml hv
  obtain ⟨rfl, hP, hK, hT⟩ := hv
  have hx := Bd.exec
  have hb := Bd.bytes
  have hr := Bd.returns
  have hts := atoms_spec (ws := wsX1_isFull) Bd.pre
  have hg : ∀ w ∈ lw_good, w.before _ s = true := fun w h => hts w (List.mem_cons_of_mem _ h)
  have hown : s.vm.findClass RX1 = some m.cls := findClass_of_methodNamed Bd.named
  have hlocks := Bd.notSynchronized
  have hSB : va_S (fun q => B ≤ q) s.heap s.heap [] := va_S.rf
  have hP : va_P (dC, dI) vwCl [(h, .inr (1, [.ref hk, .ref hn, .ref hu, .int (nI sz)])), (hk, .inl (cI, 50, .inl ks)), (hn, .inl (cI, 50, .inl ns)), (hu, .inl (cI, 200, .inl us))] s.heap := hP
  have hl := lv_entry ([.ref h]) (n := 1) (Nat.le_of_ble_eq_true rfl)
  rw [lg_entry_eq]
  generalize (lg_sl ([.ref h]) ++ List.replicate (1 - (lg_sl ([.ref h])).length) Slot.unset).toArray = ls at hl ⊢
  have hl : lv_has ls 1 [(0, .ref h)] := hl
  refine lv_aload_n hx hb dX1_isFull_0 rfl (lv_at hl 0 rfl) ?_
  refine va_get (D := (dC, dI)) (ci := 1) (v := .int (nI sz)) (C := RX1) (T := TX1) (N := 4) hx hb hg in_X1 hown hK hP 0 rfl rfl 3 (by decide) (hg _ w_38) (fun _ h9 => h9) rfl dX1_isFull_1 ?_
  refine lv_bipush (v := 50) hx hb dX1_isFull_4 (by decide) ?_
  refine lv_icmp_lt (tgt := 13) hx hb dX1_isFull_6 (by decide) (fun c_1 => ?_) (fun c_1 => ?_)
  · skip
    have c_1 := na_lt (a := sz) (b := 50) c_1 (by omega) (by omega)
    refine lv_iconst (v := 0) hx hb dX1_isFull_13 (by decide) ?_
    exact W.zret (v := 0) (ty := .boolean) hx hb hr rfl (fun t ht hW => rd_end (bI_0 (by simp [k_isFull, c_1])).symm ht) (fun q h => by cases h) dX1_isFull_14
  · skip
    have c_1 := na_nlt (a := sz) (b := 50) c_1 (by omega) (by omega)
    refine lv_iconst (v := 1) hx hb dX1_isFull_9 (by decide) ?_
    refine lv_goto (tgt := 14) hx hb dX1_isFull_10 (by decide) ?_
    exact W.zret (v := 1) (ty := .boolean) hx hb hr rfl (fun t ht hW => rd_end (bI_1 (by simp [k_isFull, c_1])).symm ht) (fun q h => by cases h) dX1_isFull_14
set_option maxHeartbeats 4000000 in
set_option maxRecDepth 100000 in
theorem kX1_kindOf (l : Launch) (dC : Nat → ClassId) (dI : Nat → Nat → Nat) (B : Nat) (cI cC cJ : ClassId) (h : Nat) (hk : Nat) (hn : Nat) (hu : Nat) (ks : Nat → Int32) (ns : Nat → Int32) (us : Nat → Int32) (sz : Nat) (p0 : Int32) (hsz : sz ≤ 50) : Met l yX1_kindOf wsX1_kindOf ({ frames := 0, cells := 0, slots := 0, locals := 0 }) (q_Rd (dC, dI) vwCl [.ref h, .int p0] [(h, .inr (1, [.ref hk, .ref hn, .ref hu, .int (nI sz)])), (hk, .inl (cI, 50, .inl ks)), (hn, .inl (cI, 50, .inl ns)), (hu, .inl (cI, 200, .inl us))] [(cI, .int), (cC, .char), (cJ, .long)] B) (QcRead (k_get ks sz p0)) 0 0 (fun _ => False) := by
  refine Met.ofW (cc := cX1_kindOf) (maxL := 2) (ret := (some .int)) (by decide) rfl ?_
  intro p e s m args below meth c s₁ Bd hml hv
  obtain ⟨rfl, hP, hK, hT⟩ := hv
  have hx := Bd.exec
  have hb := Bd.bytes
  have hr := Bd.returns
  have hts := atoms_spec (ws := wsX1_kindOf) Bd.pre
  have hg : ∀ w ∈ lw_good, w.before _ s = true := fun w h => hts w (List.mem_cons_of_mem _ h)
  have hown : s.vm.findClass RX1 = some m.cls := findClass_of_methodNamed Bd.named
  have hlocks := Bd.notSynchronized
  have hSB : va_S (fun q => B ≤ q) s.heap s.heap [] := va_S.rf
  have hP : va_P (dC, dI) vwCl [(h, .inr (1, [.ref hk, .ref hn, .ref hu, .int (nI sz)])), (hk, .inl (cI, 50, .inl ks)), (hn, .inl (cI, 50, .inl ns)), (hu, .inl (cI, 200, .inl us))] s.heap := hP
  have hl := lv_entry ([.ref h, .int p0]) (n := 2) (Nat.le_of_ble_eq_true rfl)
  rw [lg_entry_eq]
  generalize (lg_sl ([.ref h, .int p0]) ++ List.replicate (2 - (lg_sl ([.ref h, .int p0])).length) Slot.unset).toArray = ls at hl ⊢
  have hl : lv_has ls 2 [(0, .ref h), (1, .int p0)] := hl
  refine lv_iload_n hx hb dX1_kindOf_0 rfl (lv_at hl 1 rfl) ?_
  refine lv_if_lt (tgt := 21) hx hb dX1_kindOf_1 (by decide) (fun c_1 => ?_) (fun c_1 => ?_)
  · skip
    refine lv_iconst (v := (-1)) hx hb dX1_kindOf_21 (by decide) ?_
    exact W.iret (v := (-1)) hx hb hr (fun t ht hW => rd_end (by simp [k_get, c_1]) ht) (fun q h => by cases h) dX1_kindOf_22
  · skip
    refine lv_iload_n hx hb dX1_kindOf_4 rfl (lv_at hl 1 rfl) ?_
    refine lv_aload_n hx hb dX1_kindOf_5 rfl (lv_at hl 0 rfl) ?_
    refine va_get (D := (dC, dI)) (ci := 1) (v := .int (nI sz)) (C := RX1) (T := TX1) (N := 4) hx hb hg in_X1 hown hK hP 0 rfl rfl 3 (by decide) (hg _ w_38) (fun _ h9 => h9) rfl dX1_kindOf_6 ?_
    refine lv_icmp_ge (tgt := 21) hx hb dX1_kindOf_9 (by decide) (fun c_2 => ?_) (fun c_2 => ?_)
    · skip
      refine lv_iconst (v := (-1)) hx hb dX1_kindOf_21 (by decide) ?_
      exact W.iret (v := (-1)) hx hb hr (fun t ht hW => rd_end (by simp [k_get, c_1, c_2]) ht) (fun q h => by cases h) dX1_kindOf_22
    · skip
      refine lv_aload_n hx hb dX1_kindOf_12 rfl (lv_at hl 0 rfl) ?_
      refine va_get (D := (dC, dI)) (ci := 1) (v := .ref hk) (C := RX1) (T := TX1) (N := 4) hx hb hg in_X1 hown hK hP 0 rfl rfl 0 (by decide) (hg _ w_35) (fun _ h9 => h9) rfl dX1_kindOf_13 ?_
      refine lv_iload_n hx hb dX1_kindOf_16 rfl (lv_at hl 1 rfl) ?_
      refine va_iald (i := p0) hx hb hK hP 1 0 rfl rfl (ix_in c_1 c_2 hsz (by decide)) dX1_kindOf_17 ?_
      refine lv_goto (tgt := 22) hx hb dX1_kindOf_18 (by decide) ?_
      exact W.iret (v := ks p0.toNatClampNeg) hx hb hr (fun t ht hW => rd_end (by simp [k_get, c_1, c_2]) ht) (fun q h => by cases h) dX1_kindOf_22
set_option maxHeartbeats 4000000 in
set_option maxRecDepth 100000 in
theorem kX1_nameOf (l : Launch) (dC : Nat → ClassId) (dI : Nat → Nat → Nat) (B : Nat) (cI cC cJ : ClassId) (h : Nat) (hk : Nat) (hn : Nat) (hu : Nat) (ks : Nat → Int32) (ns : Nat → Int32) (us : Nat → Int32) (sz : Nat) (p0 : Int32) (hsz : sz ≤ 50) : Met l yX1_nameOf wsX1_nameOf ({ frames := 0, cells := 0, slots := 0, locals := 0 }) (q_Rd (dC, dI) vwCl [.ref h, .int p0] [(h, .inr (1, [.ref hk, .ref hn, .ref hu, .int (nI sz)])), (hk, .inl (cI, 50, .inl ks)), (hn, .inl (cI, 50, .inl ns)), (hu, .inl (cI, 200, .inl us))] [(cI, .int), (cC, .char), (cJ, .long)] B) (QcRead (k_get ns sz p0)) 0 0 (fun _ => False) := by
  refine Met.ofW (cc := cX1_nameOf) (maxL := 2) (ret := (some .int)) (by decide) rfl ?_
  intro p e s m args below meth c s₁ Bd hml hv
  obtain ⟨rfl, hP, hK, hT⟩ := hv
  have hx := Bd.exec
  have hb := Bd.bytes
  have hr := Bd.returns
  have hts := atoms_spec (ws := wsX1_nameOf) Bd.pre
  have hg : ∀ w ∈ lw_good, w.before _ s = true := fun w h => hts w (List.mem_cons_of_mem _ h)
  have hown : s.vm.findClass RX1 = some m.cls := findClass_of_methodNamed Bd.named
  have hlocks := Bd.notSynchronized
  have hSB : va_S (fun q => B ≤ q) s.heap s.heap [] := va_S.rf
  have hP : va_P (dC, dI) vwCl [(h, .inr (1, [.ref hk, .ref hn, .ref hu, .int (nI sz)])), (hk, .inl (cI, 50, .inl ks)), (hn, .inl (cI, 50, .inl ns)), (hu, .inl (cI, 200, .inl us))] s.heap := hP
  have hl := lv_entry ([.ref h, .int p0]) (n := 2) (Nat.le_of_ble_eq_true rfl)
  rw [lg_entry_eq]
  generalize (lg_sl ([.ref h, .int p0]) ++ List.replicate (2 - (lg_sl ([.ref h, .int p0])).length) Slot.unset).toArray = ls at hl ⊢
  have hl : lv_has ls 2 [(0, .ref h), (1, .int p0)] := hl
  refine lv_iload_n hx hb dX1_nameOf_0 rfl (lv_at hl 1 rfl) ?_
  refine lv_if_lt (tgt := 21) hx hb dX1_nameOf_1 (by decide) (fun c_1 => ?_) (fun c_1 => ?_)
  · skip
    refine lv_iconst (v := (-1)) hx hb dX1_nameOf_21 (by decide) ?_
    exact W.iret (v := (-1)) hx hb hr (fun t ht hW => rd_end (by simp [k_get, c_1]) ht) (fun q h => by cases h) dX1_nameOf_22
  · skip
    refine lv_iload_n hx hb dX1_nameOf_4 rfl (lv_at hl 1 rfl) ?_
    refine lv_aload_n hx hb dX1_nameOf_5 rfl (lv_at hl 0 rfl) ?_
    refine va_get (D := (dC, dI)) (ci := 1) (v := .int (nI sz)) (C := RX1) (T := TX1) (N := 4) hx hb hg in_X1 hown hK hP 0 rfl rfl 3 (by decide) (hg _ w_38) (fun _ h9 => h9) rfl dX1_nameOf_6 ?_
    refine lv_icmp_ge (tgt := 21) hx hb dX1_nameOf_9 (by decide) (fun c_2 => ?_) (fun c_2 => ?_)
    · skip
      refine lv_iconst (v := (-1)) hx hb dX1_nameOf_21 (by decide) ?_
      exact W.iret (v := (-1)) hx hb hr (fun t ht hW => rd_end (by simp [k_get, c_1, c_2]) ht) (fun q h => by cases h) dX1_nameOf_22
    · skip
      refine lv_aload_n hx hb dX1_nameOf_12 rfl (lv_at hl 0 rfl) ?_
      refine va_get (D := (dC, dI)) (ci := 1) (v := .ref hn) (C := RX1) (T := TX1) (N := 4) hx hb hg in_X1 hown hK hP 0 rfl rfl 1 (by decide) (hg _ w_36) (fun _ h9 => h9) rfl dX1_nameOf_13 ?_
      refine lv_iload_n hx hb dX1_nameOf_16 rfl (lv_at hl 1 rfl) ?_
      refine va_iald (i := p0) hx hb hK hP 2 0 rfl rfl (ix_in c_1 c_2 hsz (by decide)) dX1_nameOf_17 ?_
      refine lv_goto (tgt := 22) hx hb dX1_nameOf_18 (by decide) ?_
      exact W.iret (v := ns p0.toNatClampNeg) hx hb hr (fun t ht hW => rd_end (by simp [k_get, c_1, c_2]) ht) (fun q h => by cases h) dX1_nameOf_22
set_option maxHeartbeats 4000000 in
set_option maxRecDepth 100000 in
theorem kX1_numberOf (l : Launch) (dC : Nat → ClassId) (dI : Nat → Nat → Nat) (B : Nat) (cI cC cJ : ClassId) (h : Nat) (hk : Nat) (hn : Nat) (hu : Nat) (ks : Nat → Int32) (ns : Nat → Int32) (us : Nat → Int32) (sz : Nat) (p0 : Int32) (p1 : Int32) (hsz : sz ≤ 50) : Met l yX1_numberOf wsX1_numberOf ({ frames := 0, cells := 0, slots := 0, locals := 0 }) (q_Rd (dC, dI) vwCl [.ref h, .int p0, .int p1] [(h, .inr (1, [.ref hk, .ref hn, .ref hu, .int (nI sz)])), (hk, .inl (cI, 50, .inl ks)), (hn, .inl (cI, 50, .inl ns)), (hu, .inl (cI, 200, .inl us))] [(cI, .int), (cC, .char), (cJ, .long)] B) (QcRead (k_num us sz p0 p1)) 0 0 (fun _ => False) := by
  refine Met.ofW (cc := cX1_numberOf) (maxL := 3) (ret := (some .int)) (by decide) rfl ?_
  intro p e s m args below meth c s₁ Bd hml hv
  obtain ⟨rfl, hP, hK, hT⟩ := hv
  have hx := Bd.exec
  have hb := Bd.bytes
  have hr := Bd.returns
  have hts := atoms_spec (ws := wsX1_numberOf) Bd.pre
  have hg : ∀ w ∈ lw_good, w.before _ s = true := fun w h => hts w (List.mem_cons_of_mem _ h)
  have hown : s.vm.findClass RX1 = some m.cls := findClass_of_methodNamed Bd.named
  have hlocks := Bd.notSynchronized
  have hSB : va_S (fun q => B ≤ q) s.heap s.heap [] := va_S.rf
  have hP : va_P (dC, dI) vwCl [(h, .inr (1, [.ref hk, .ref hn, .ref hu, .int (nI sz)])), (hk, .inl (cI, 50, .inl ks)), (hn, .inl (cI, 50, .inl ns)), (hu, .inl (cI, 200, .inl us))] s.heap := hP
  have hl := lv_entry ([.ref h, .int p0, .int p1]) (n := 3) (Nat.le_of_ble_eq_true rfl)
  rw [lg_entry_eq]
  generalize (lg_sl ([.ref h, .int p0, .int p1]) ++ List.replicate (3 - (lg_sl ([.ref h, .int p0, .int p1])).length) Slot.unset).toArray = ls at hl ⊢
  have hl : lv_has ls 3 [(0, .ref h), (1, .int p0), (2, .int p1)] := hl
  refine lv_iload_n hx hb dX1_numberOf_0 rfl (lv_at hl 1 rfl) ?_
  refine lv_if_lt (tgt := 21) hx hb dX1_numberOf_1 (by decide) (fun c_1 => ?_) (fun c_1 => ?_)
  · skip
    refine lv_iconst (v := (-1)) hx hb dX1_numberOf_21 (by decide) ?_
    exact W.iret (v := (-1)) hx hb hr (fun t ht hW => rd_end (by simp [k_num, c_1]) ht) (fun q h => by cases h) dX1_numberOf_22
  · skip
    refine lv_iload_n hx hb dX1_numberOf_4 rfl (lv_at hl 1 rfl) ?_
    refine lv_aload_n hx hb dX1_numberOf_5 rfl (lv_at hl 0 rfl) ?_
    refine va_get (D := (dC, dI)) (ci := 1) (v := .int (nI sz)) (C := RX1) (T := TX1) (N := 4) hx hb hg in_X1 hown hK hP 0 rfl rfl 3 (by decide) (hg _ w_38) (fun _ h9 => h9) rfl dX1_numberOf_6 ?_
    refine lv_icmp_ge (tgt := 21) hx hb dX1_numberOf_9 (by decide) (fun c_2 => ?_) (fun c_2 => ?_)
    · skip
      refine lv_iconst (v := (-1)) hx hb dX1_numberOf_21 (by decide) ?_
      exact W.iret (v := (-1)) hx hb hr (fun t ht hW => rd_end (by simp [k_num, c_1, c_2]) ht) (fun q h => by cases h) dX1_numberOf_22
    · skip
      refine lv_iload_n hx hb dX1_numberOf_12 rfl (lv_at hl 2 rfl) ?_
      refine lv_if_lt (tgt := 21) hx hb dX1_numberOf_13 (by decide) (fun c_3 => ?_) (fun c_3 => ?_)
      · skip
        refine lv_iconst (v := (-1)) hx hb dX1_numberOf_21 (by decide) ?_
        exact W.iret (v := (-1)) hx hb hr (fun t ht hW => rd_end (by simp [k_num, c_1, c_2, c_3]) ht) (fun q h => by cases h) dX1_numberOf_22
      · skip
        refine lv_iload_n hx hb dX1_numberOf_16 rfl (lv_at hl 2 rfl) ?_
        refine lv_iconst (v := 4) hx hb dX1_numberOf_17 (by decide) ?_
        refine lv_icmp_lt (tgt := 23) hx hb dX1_numberOf_18 (by decide) (fun c_4 => ?_) (fun c_4 => ?_)
        · skip
          refine lv_aload_n hx hb dX1_numberOf_23 rfl (lv_at hl 0 rfl) ?_
          refine va_get (D := (dC, dI)) (ci := 1) (v := .ref hu) (C := RX1) (T := TX1) (N := 4) hx hb hg in_X1 hown hK hP 0 rfl rfl 2 (by decide) (hg _ w_37) (fun _ h9 => h9) rfl dX1_numberOf_24 ?_
          refine lv_iload_n hx hb dX1_numberOf_27 rfl (lv_at hl 1 rfl) ?_
          refine lv_iconst (v := 4) hx hb dX1_numberOf_28 (by decide) ?_
          refine lv_imul hx hb dX1_numberOf_29 ?_
          refine lv_iload_n hx hb dX1_numberOf_30 rfl (lv_at hl 2 rfl) ?_
          refine lv_iadd hx hb dX1_numberOf_31 ?_
          refine va_iald (i := (p0 * 4) + p1) hx hb hK hP 3 0 rfl rfl (ix_num c_1 c_2 c_3 c_4 hsz) dX1_numberOf_32 ?_
          exact W.iret (v := us ((p0 * 4) + p1).toNatClampNeg) hx hb hr (fun t ht hW => rd_end (by simp [k_num, c_1, c_2, c_3, c_4]) ht) (fun q h => by cases h) dX1_numberOf_33
        · skip
          refine lv_iconst (v := (-1)) hx hb dX1_numberOf_21 (by decide) ?_
          exact W.iret (v := (-1)) hx hb hr (fun t ht hW => rd_end (by simp [k_num, c_1, c_2, c_3, c_4]) ht) (fun q h => by cases h) dX1_numberOf_22
set_option maxHeartbeats 4000000 in
set_option maxRecDepth 100000 in
theorem kX1_indexOf (l : Launch) (dC : Nat → ClassId) (dI : Nat → Nat → Nat) (B : Nat) (cI cC cJ : ClassId) (h : Nat) (hk : Nat) (hn : Nat) (hu : Nat) (ks : Nat → Int32) (ns : Nat → Int32) (us : Nat → Int32) (sz : Nat) (p0 : Int32) (p1 : Int32) (hsz : sz ≤ 50) : Met l yX1_indexOf wsX1_indexOf ({ frames := 0, cells := 0, slots := 0, locals := 0 }) (q_Rd (dC, dI) vwCl [.ref h, .int p0, .int p1] [(h, .inr (1, [.ref hk, .ref hn, .ref hu, .int (nI sz)])), (hk, .inl (cI, 50, .inl ks)), (hn, .inl (cI, 50, .inl ns)), (hu, .inl (cI, 200, .inl us))] [(cI, .int), (cC, .char), (cJ, .long)] B) (QcRead (k_indexOf ks ns p0 p1 sz 0)) 0 0 (fun _ => False) := by
  refine Met.ofW (cc := cX1_indexOf) (maxL := 4) (ret := (some .int)) (by decide) rfl ?_
  intro p e s m args below meth c s₁ Bd hml hv
  obtain ⟨rfl, hP, hK, hT⟩ := hv
  have hx := Bd.exec
  have hb := Bd.bytes
  have hr := Bd.returns
  have hts := atoms_spec (ws := wsX1_indexOf) Bd.pre
  have hg : ∀ w ∈ lw_good, w.before _ s = true := fun w h => hts w (List.mem_cons_of_mem _ h)
  have hown : s.vm.findClass RX1 = some m.cls := findClass_of_methodNamed Bd.named
  have hlocks := Bd.notSynchronized
  have hSB : va_S (fun q => B ≤ q) s.heap s.heap [] := va_S.rf
  have hP : va_P (dC, dI) vwCl [(h, .inr (1, [.ref hk, .ref hn, .ref hu, .int (nI sz)])), (hk, .inl (cI, 50, .inl ks)), (hn, .inl (cI, 50, .inl ns)), (hu, .inl (cI, 200, .inl us))] s.heap := hP
  have hl := lv_entry ([.ref h, .int p0, .int p1]) (n := 4) (Nat.le_of_ble_eq_true rfl)
  rw [lg_entry_eq]
  generalize (lg_sl ([.ref h, .int p0, .int p1]) ++ List.replicate (4 - (lg_sl ([.ref h, .int p0, .int p1])).length) Slot.unset).toArray = ls at hl ⊢
  have hl : lv_has ls 4 [(0, .ref h), (1, .int p0), (2, .int p1)] := hl
  refine lv_iconst (v := 0) hx hb dX1_indexOf_0 (by decide) ?_
  refine lv_istore_n (lv' := [(3, .int 0), (0, .ref h), (1, .int p0), (2, .int p1)]) hx hb dX1_indexOf_1 rfl hl (by decide) rfl (fun ls hl => ?_)
  refine loop_R (σ := Nat) (fun n x ls => sz - x < n ∧ x ≤ sz ∧ k_indexOf ks ns p0 p1 sz 0 = k_indexOf ks ns p0 p1 sz x ∧ lv_has ls 4 [(0, .ref h), (1, .int p0), (2, .int p1), (3, .int (nI x))]) (fun n x ls ih_1 hI => ?_) (fun x ls hI => ?_) (n := (sz - 0) + 1) (x := 0) ⟨(Nat.lt_succ_self _), (by (try dsimp only); omega), rfl, lv_sub hl [1, 2, 3, 0] rfl⟩
  · skip
    obtain ⟨k, rfl⟩ : ∃ z, z = x := ⟨x, rfl⟩
    obtain ⟨hfu, hk0, he, hl⟩ := hI
    have hfu : sz - k < n + 1 := hfu
    have hk0 : k ≤ sz := hk0
    have he : k_indexOf ks ns p0 p1 sz 0 = k_indexOf ks ns p0 p1 sz k := he
    have hl : lv_has ls 4 [(0, .ref h), (1, .int p0), (2, .int p1), (3, .int (nI k))] := hl
    refine lv_iload_n hx hb dX1_indexOf_2 rfl (lv_at hl 3 rfl) ?_
    refine lv_aload_n hx hb dX1_indexOf_3 rfl (lv_at hl 0 rfl) ?_
    refine va_get (D := (dC, dI)) (ci := 1) (v := .int (nI sz)) (C := RX1) (T := TX1) (N := 4) hx hb hg in_X1 hown hK hP 0 rfl rfl 3 (by decide) (hg _ w_38) (fun _ h9 => h9) rfl dX1_indexOf_4 ?_
    refine lv_icmp_ge (tgt := 38) hx hb dX1_indexOf_7 (by decide) (fun c_2 => ?_) (fun c_2 => ?_)
    · skip
      have c_2 := na_le (a := sz) (b := k) c_2 (by omega) (by omega)
      refine lv_iconst (v := (-1)) hx hb dX1_indexOf_38 (by decide) ?_
      exact W.iret (v := (-1)) hx hb hr (fun t ht hW => rd_end (by rw [he]; rw [k_indexOf]; simp [c_2]) ht) (fun q h => by cases h) dX1_indexOf_39
    · skip
      have c_2 := na_nle (a := sz) (b := k) c_2 (by omega) (by omega)
      refine lv_aload_n hx hb dX1_indexOf_10 rfl (lv_at hl 0 rfl) ?_
      refine va_get (D := (dC, dI)) (ci := 1) (v := .ref hk) (C := RX1) (T := TX1) (N := 4) hx hb hg in_X1 hown hK hP 0 rfl rfl 0 (by decide) (hg _ w_35) (fun _ h9 => h9) rfl dX1_indexOf_11 ?_
      refine lv_iload_n hx hb dX1_indexOf_14 rfl (lv_at hl 3 rfl) ?_
      refine x_iald (k := k) hx hb hK hP 1 0 rfl rfl (by omega) (by decide) dX1_indexOf_15 ?_
      refine lv_iload_n hx hb dX1_indexOf_16 rfl (lv_at hl 1 rfl) ?_
      refine lv_icmp_ne (tgt := 32) hx hb dX1_indexOf_17 (by decide) (fun c_3 => ?_) (fun c_3 => ?_)
      · skip
        refine lv_iinc (v := (nI (k + 1))) (lv' := [(3, .int (nI (k + 1))), (0, .ref h), (1, .int p0), (2, .int p1)]) hx hb dX1_indexOf_32 hl (k := 3) rfl (by rw [← nI_add]; rfl) (by decide) rfl (fun ls hl => ?_)
        refine lv_goto (tgt := 2) hx hb dX1_indexOf_35 (by decide) ?_
        exact ih_1 (k + 1) _ ⟨(by (try dsimp only); omega), (by (try dsimp only); omega), (by (try dsimp only); rw [he, k_indexOf]; simp [c_2, c_3]), lv_sub hl [1, 2, 3, 0] rfl⟩
      · skip
        refine lv_aload_n hx hb dX1_indexOf_20 rfl (lv_at hl 0 rfl) ?_
        refine va_get (D := (dC, dI)) (ci := 1) (v := .ref hn) (C := RX1) (T := TX1) (N := 4) hx hb hg in_X1 hown hK hP 0 rfl rfl 1 (by decide) (hg _ w_36) (fun _ h9 => h9) rfl dX1_indexOf_21 ?_
        refine lv_iload_n hx hb dX1_indexOf_24 rfl (lv_at hl 3 rfl) ?_
        refine x_iald (k := k) hx hb hK hP 2 0 rfl rfl (by omega) (by decide) dX1_indexOf_25 ?_
        refine lv_iload_n hx hb dX1_indexOf_26 rfl (lv_at hl 2 rfl) ?_
        refine lv_icmp_ne (tgt := 32) hx hb dX1_indexOf_27 (by decide) (fun c_4 => ?_) (fun c_4 => ?_)
        · skip
          refine lv_iinc (v := (nI (k + 1))) (lv' := [(3, .int (nI (k + 1))), (0, .ref h), (1, .int p0), (2, .int p1)]) hx hb dX1_indexOf_32 hl (k := 3) rfl (by rw [← nI_add]; rfl) (by decide) rfl (fun ls hl => ?_)
          refine lv_goto (tgt := 2) hx hb dX1_indexOf_35 (by decide) ?_
          exact ih_1 (k + 1) _ ⟨(by (try dsimp only); omega), (by (try dsimp only); omega), (by (try dsimp only); rw [he, k_indexOf]; simp [c_2, c_3, c_4]), lv_sub hl [1, 2, 3, 0] rfl⟩
        · skip
          refine lv_iload_n hx hb dX1_indexOf_30 rfl (lv_at hl 3 rfl) ?_
          exact W.iret (v := (nI k)) hx hb hr (fun t ht hW => rd_end (by rw [he]; rw [k_indexOf]; simp [c_2, c_3, c_4]) ht) (fun q h => by cases h) dX1_indexOf_31
  · exact absurd hI.1 (Nat.not_lt_zero _)
set_option maxHeartbeats 4000000 in
set_option maxRecDepth 100000 in
theorem kX1_sizeOfKind (l : Launch) (dC : Nat → ClassId) (dI : Nat → Nat → Nat) (B : Nat) (cI cC cJ : ClassId) (h : Nat) (hk : Nat) (hn : Nat) (hu : Nat) (ks : Nat → Int32) (ns : Nat → Int32) (us : Nat → Int32) (sz : Nat) (p0 : Int32) (hsz : sz ≤ 50) : Met l yX1_sizeOfKind wsX1_sizeOfKind ({ frames := 1, cells := 0, slots := 0, locals := 20 }) (q_Rd (dC, dI) vwCl [.ref h, .int p0] [(h, .inr (1, [.ref hk, .ref hn, .ref hu, .int (nI sz)])), (hk, .inl (cI, 50, .inl ks)), (hn, .inl (cI, 50, .inl ns)), (hu, .inl (cI, 200, .inl us))] [(cI, .int), (cC, .char), (cJ, .long)] B) (QcRead (k_sizeOfKind ks sz p0)) 0 0 (fun _ => False) := by
  refine Met.ofW (cc := cX1_sizeOfKind) (maxL := 4) (ret := (some .int)) (by decide) rfl ?_
  intro p e s m args below meth c s₁ Bd hml hv
  obtain ⟨rfl, hP, hK, hT⟩ := hv
  have hx := Bd.exec
  have hb := Bd.bytes
  have hr := Bd.returns
  have hts := atoms_spec (ws := wsX1_sizeOfKind) Bd.pre
  have hg : ∀ w ∈ lw_good, w.before _ s = true := fun w h => hts w (List.mem_cons_of_mem _ h)
  have hown : s.vm.findClass RX1 = some m.cls := findClass_of_methodNamed Bd.named
  have hlocks := Bd.notSynchronized
  have hSB : va_S (fun q => B ≤ q) s.heap s.heap [] := va_S.rf
  have hP : va_P (dC, dI) vwCl [(h, .inr (1, [.ref hk, .ref hn, .ref hu, .int (nI sz)])), (hk, .inl (cI, 50, .inl ks)), (hn, .inl (cI, 50, .inl ns)), (hu, .inl (cI, 200, .inl us))] s.heap := hP
  have hl := lv_entry ([.ref h, .int p0]) (n := 4) (Nat.le_of_ble_eq_true rfl)
  rw [lg_entry_eq]
  generalize (lg_sl ([.ref h, .int p0]) ++ List.replicate (4 - (lg_sl ([.ref h, .int p0])).length) Slot.unset).toArray = ls at hl ⊢
  have hl : lv_has ls 4 [(0, .ref h), (1, .int p0)] := hl
  refine lv_iload_n hx hb dX1_sizeOfKind_0 rfl (lv_at hl 1 rfl) ?_
  refine go_R (r := (bI (k_isKind p0))) (va_runSN (As := [.int p0]) (rest := []) ⟨hx, hb, hml, hown, hg⟩ (kX5_isKind l dC dI B cI cC cJ p0) ⟨va_cnB 1 hg (gi_N w_213) rfl rfl rfl (st_B.nM hT (q := ("HarbourText$Harbour", 29, yX5_isKind)) (List.mem_of_getElem? (i := 7) rfl)) (hg _ w_2) (by decide +kernel) ⟨Nat.le_of_ble_eq_true rfl, Nat.le_of_ble_eq_true rfl⟩, hg _ w_212, trivial⟩ (pre_RS (hP.sub [] rfl) hK hT) rfl rfl hl.1 rfl (lv_room (Nat.le_of_ble_eq_true rfl)) dX1_sizeOfKind_1 ⟨Nat.le_of_ble_eq_true rfl, Nat.le_of_ble_eq_true rfl⟩) ?_
  refine lv_if_ne (tgt := 9) hx hb dX1_sizeOfKind_4 (by decide) (fun c_1 => ?_) (fun c_1 => ?_)
  · skip
    have c_1 := bI_ne0 c_1
    refine lv_iconst (v := 0) hx hb dX1_sizeOfKind_9 (by decide) ?_
    refine lv_istore_n (lv' := [(2, .int 0), (0, .ref h), (1, .int p0)]) hx hb dX1_sizeOfKind_10 rfl hl (by decide) rfl (fun ls hl => ?_)
    refine lv_iconst (v := 0) hx hb dX1_sizeOfKind_11 (by decide) ?_
    refine lv_istore_n (lv' := [(3, .int 0), (2, .int 0), (0, .ref h), (1, .int p0)]) hx hb dX1_sizeOfKind_12 rfl hl (by decide) rfl (fun ls hl => ?_)
    refine loop_R (σ := Nat × Nat) (fun n x ls => sz - x.1 < n ∧ x.1 ≤ sz ∧ x.2 ≤ x.1 ∧ k_sizeOfKind ks sz p0 = nI (k_cnt ks p0 sz x.1 x.2) ∧ lv_has ls 4 [(0, .ref h), (1, .int p0), (2, .int (nI x.2)), (3, .int (nI x.1))]) (fun n x ls ih_2 hI => ?_) (fun x ls hI => ?_) (n := (sz - 0) + 1) (x := (0, 0)) ⟨(Nat.lt_succ_self _), (by (try dsimp only); omega), (by (try dsimp only); omega), (by simp [k_sizeOfKind, c_1]), lv_sub hl [2, 3, 1, 0] rfl⟩
    · skip
      obtain ⟨k, f⟩ := x
      obtain ⟨hfu, hk0, hf0, he, hl⟩ := hI
      have hfu : sz - k < n + 1 := hfu
      have hk0 : k ≤ sz := hk0
      have hf0 : f ≤ k := hf0
      have he : k_sizeOfKind ks sz p0 = nI (k_cnt ks p0 sz k f) := he
      have hl : lv_has ls 4 [(0, .ref h), (1, .int p0), (2, .int (nI f)), (3, .int (nI k))] := hl
      refine lv_iload_n hx hb dX1_sizeOfKind_13 rfl (lv_at hl 3 rfl) ?_
      refine lv_aload_n hx hb dX1_sizeOfKind_14 rfl (lv_at hl 0 rfl) ?_
      refine va_get (D := (dC, dI)) (ci := 1) (v := .int (nI sz)) (C := RX1) (T := TX1) (N := 4) hx hb hg in_X1 hown hK hP 0 rfl rfl 3 (by decide) (hg _ w_38) (fun _ h9 => h9) rfl dX1_sizeOfKind_15 ?_
      refine lv_icmp_ge (tgt := 40) hx hb dX1_sizeOfKind_18 (by decide) (fun c_3 => ?_) (fun c_3 => ?_)
      · skip
        have c_3 := na_le (a := sz) (b := k) c_3 (by omega) (by omega)
        refine lv_iload_n hx hb dX1_sizeOfKind_40 rfl (lv_at hl 2 rfl) ?_
        exact W.iret (v := (nI f)) hx hb hr (fun t ht hW => rd_end (by (try dsimp only); rw [he, k_cnt]; simp [c_3]) ht) (fun q h => by cases h) dX1_sizeOfKind_41
      · skip
        have c_3 := na_nle (a := sz) (b := k) c_3 (by omega) (by omega)
        refine lv_aload_n hx hb dX1_sizeOfKind_21 rfl (lv_at hl 0 rfl) ?_
        refine va_get (D := (dC, dI)) (ci := 1) (v := .ref hk) (C := RX1) (T := TX1) (N := 4) hx hb hg in_X1 hown hK hP 0 rfl rfl 0 (by decide) (hg _ w_35) (fun _ h9 => h9) rfl dX1_sizeOfKind_22 ?_
        refine lv_iload_n hx hb dX1_sizeOfKind_25 rfl (lv_at hl 3 rfl) ?_
        refine x_iald (k := k) hx hb hK hP 1 0 rfl rfl (by omega) (by decide) dX1_sizeOfKind_26 ?_
        refine lv_iload_n hx hb dX1_sizeOfKind_27 rfl (lv_at hl 1 rfl) ?_
        refine lv_icmp_ne (tgt := 34) hx hb dX1_sizeOfKind_28 (by decide) (fun c_4 => ?_) (fun c_4 => ?_)
        · skip
          refine lv_iinc (v := (nI (k + 1))) (lv' := [(3, .int (nI (k + 1))), (0, .ref h), (1, .int p0), (2, .int (nI f))]) hx hb dX1_sizeOfKind_34 hl (k := 3) rfl (by rw [← nI_add]; rfl) (by decide) rfl (fun ls hl => ?_)
          refine lv_goto (tgt := 13) hx hb dX1_sizeOfKind_37 (by decide) ?_
          exact ih_2 (k + 1, f) _ ⟨(by (try dsimp only); omega), (by (try dsimp only); omega), (by (try dsimp only); omega), (by (try dsimp only); rw [he, k_cnt]; simp [c_3, c_4]), lv_sub hl [1, 2, 3, 0] rfl⟩
        · skip
          refine lv_iinc (v := (nI (f + 1))) (lv' := [(2, .int (nI (f + 1))), (0, .ref h), (1, .int p0), (3, .int (nI k))]) hx hb dX1_sizeOfKind_31 hl (k := 2) rfl (by rw [← nI_add]; rfl) (by decide) rfl (fun ls hl => ?_)
          refine lv_iinc (v := (nI (k + 1))) (lv' := [(3, .int (nI (k + 1))), (2, .int (nI (f + 1))), (0, .ref h), (1, .int p0)]) hx hb dX1_sizeOfKind_34 hl (k := 3) rfl (by rw [← nI_add]; rfl) (by decide) rfl (fun ls hl => ?_)
          refine lv_goto (tgt := 13) hx hb dX1_sizeOfKind_37 (by decide) ?_
          exact ih_2 (k + 1, f + 1) _ ⟨(by (try dsimp only); omega), (by (try dsimp only); omega), (by (try dsimp only); omega), (by (try dsimp only); rw [he, k_cnt]; simp [c_3, c_4]), lv_sub hl [2, 3, 1, 0] rfl⟩
    · exact absurd hI.1 (Nat.not_lt_zero _)
  · skip
    have c_1 := bI_eq0 c_1
    refine lv_iconst (v := (-1)) hx hb dX1_sizeOfKind_7 (by decide) ?_
    exact W.iret (v := (-1)) hx hb hr (fun t ht hW => rd_end (by simp [k_sizeOfKind, c_1]) ht) (fun q h => by cases h) dX1_sizeOfKind_8
set_option maxHeartbeats 4000000 in
set_option maxRecDepth 100000 in
theorem kX1_rankOf (l : Launch) (dC : Nat → ClassId) (dI : Nat → Nat → Nat) (B : Nat) (cI cC cJ : ClassId) (h : Nat) (hk : Nat) (hn : Nat) (hu : Nat) (ks : Nat → Int32) (ns : Nat → Int32) (us : Nat → Int32) (sz : Nat) (p0 : Int32) (hsz : sz ≤ 50) : Met l yX1_rankOf wsX1_rankOf ({ frames := 1, cells := 0, slots := 0, locals := 21 }) (q_Rd (dC, dI) vwCl [.ref h, .int p0] [(h, .inr (1, [.ref hk, .ref hn, .ref hu, .int (nI sz)])), (hk, .inl (cI, 50, .inl ks)), (hn, .inl (cI, 50, .inl ns)), (hu, .inl (cI, 200, .inl us))] [(cI, .int), (cC, .char), (cJ, .long)] B) (QcRead (k_rank ks ns sz p0)) 0 0 (fun _ => False) := by
  refine Met.ofW (cc := cX1_rankOf) (maxL := 2) (ret := (some .int)) (by decide) rfl ?_
  intro p e s m args below meth c s₁ Bd hml hv
  obtain ⟨rfl, hP, hK, hT⟩ := hv
  have hx := Bd.exec
  have hb := Bd.bytes
  have hr := Bd.returns
  have hts := atoms_spec (ws := wsX1_rankOf) Bd.pre
  have hg : ∀ w ∈ lw_good, w.before _ s = true := fun w h => hts w (List.mem_cons_of_mem _ h)
  have hown : s.vm.findClass RX1 = some m.cls := findClass_of_methodNamed Bd.named
  have hlocks := Bd.notSynchronized
  have hSB : va_S (fun q => B ≤ q) s.heap s.heap [] := va_S.rf
  have hP : va_P (dC, dI) vwCl [(h, .inr (1, [.ref hk, .ref hn, .ref hu, .int (nI sz)])), (hk, .inl (cI, 50, .inl ks)), (hn, .inl (cI, 50, .inl ns)), (hu, .inl (cI, 200, .inl us))] s.heap := hP
  have hl := lv_entry ([.ref h, .int p0]) (n := 2) (Nat.le_of_ble_eq_true rfl)
  rw [lg_entry_eq]
  generalize (lg_sl ([.ref h, .int p0]) ++ List.replicate (2 - (lg_sl ([.ref h, .int p0])).length) Slot.unset).toArray = ls at hl ⊢
  have hl : lv_has ls 2 [(0, .ref h), (1, .int p0)] := hl
  refine lv_aload_n hx hb dX1_rankOf_0 rfl (lv_at hl 0 rfl) ?_
  refine lv_iload_n hx hb dX1_rankOf_1 rfl (lv_at hl 1 rfl) ?_
  refine go_R (r := k_get ks sz p0) (va_runV (As := [.int p0]) (rest := []) ⟨hx, hb, hml, hown, hg⟩ (kX1_kindOf l dC dI B cI cC cJ h hk hn hu ks ns us sz p0 (by omega)) (cwV 1 hg (gi_V w_205 w_206 w_207 w_4 w_208) rfl rfl rfl (by decide +kernel) ⟨Nat.le_of_ble_eq_true rfl, Nat.le_of_ble_eq_true rfl⟩) (pre_RV (va_recv hK hP (ci := 1) (q0 := 0) rfl rfl) (hP.sub [0, 1, 2, 3] rfl) hK hT) rfl rfl hl.1 rfl (lv_room (Nat.le_of_ble_eq_true rfl)) dX1_rankOf_2 ⟨Nat.le_of_ble_eq_true rfl, Nat.le_of_ble_eq_true rfl⟩) ?_
  refine lv_bipush (v := 100) hx hb dX1_rankOf_5 (by decide) ?_
  refine lv_imul hx hb dX1_rankOf_7 ?_
  refine lv_aload_n hx hb dX1_rankOf_8 rfl (lv_at hl 0 rfl) ?_
  refine lv_iload_n hx hb dX1_rankOf_9 rfl (lv_at hl 1 rfl) ?_
  refine go_R (r := k_get ns sz p0) (va_runV (As := [.int p0]) (rest := [.int ((k_get ks sz p0) * 100)]) ⟨hx, hb, hml, hown, hg⟩ (kX1_nameOf l dC dI B cI cC cJ h hk hn hu ks ns us sz p0 (by omega)) (cwV 1 hg (gi_V w_411 w_412 w_413 w_4 w_414) rfl rfl rfl (by decide +kernel) ⟨Nat.le_of_ble_eq_true rfl, Nat.le_of_ble_eq_true rfl⟩) (pre_RV (va_recv hK hP (ci := 1) (q0 := 0) rfl rfl) (hP.sub [0, 1, 2, 3] rfl) hK hT) rfl rfl hl.1 rfl (lv_room (Nat.le_of_ble_eq_true rfl)) dX1_rankOf_10 ⟨Nat.le_of_ble_eq_true rfl, Nat.le_of_ble_eq_true rfl⟩) ?_
  refine lv_iadd hx hb dX1_rankOf_13 ?_
  exact W.iret (v := ((k_get ks sz p0) * 100) + (k_get ns sz p0)) hx hb hr (fun t ht hW => rd_end rfl ht) (fun q h => by cases h) dX1_rankOf_14
set_option maxHeartbeats 4000000 in
set_option maxRecDepth 100000 in
theorem kX1_nextBehind (l : Launch) (dC : Nat → ClassId) (dI : Nat → Nat → Nat) (B : Nat) (cI cC cJ : ClassId) (h : Nat) (hk : Nat) (hn : Nat) (hu : Nat) (ks : Nat → Int32) (ns : Nat → Int32) (us : Nat → Int32) (sz : Nat) (p0 : Int32) (hsz : sz ≤ 50) : Met l yX1_nextBehind wsX1_nextBehind ({ frames := 2, cells := 0, slots := 0, locals := 42 }) (q_Rd (dC, dI) vwCl [.ref h, .int p0] [(h, .inr (1, [.ref hk, .ref hn, .ref hu, .int (nI sz)])), (hk, .inl (cI, 50, .inl ks)), (hn, .inl (cI, 50, .inl ns)), (hu, .inl (cI, 200, .inl us))] [(cI, .int), (cC, .char), (cJ, .long)] B) (QcRead (k_next ks ns sz p0 0 (-1))) 0 0 (fun _ => False) := by
  refine Met.ofW (cc := cX1_nextBehind) (maxL := 4) (ret := (some .int)) (by decide) rfl ?_
  intro p e s m args below meth c s₁ Bd hml hv
  obtain ⟨rfl, hP, hK, hT⟩ := hv
  have hx := Bd.exec
  have hb := Bd.bytes
  have hr := Bd.returns
  have hts := atoms_spec (ws := wsX1_nextBehind) Bd.pre
  have hg : ∀ w ∈ lw_good, w.before _ s = true := fun w h => hts w (List.mem_cons_of_mem _ h)
  have hown : s.vm.findClass RX1 = some m.cls := findClass_of_methodNamed Bd.named
  have hlocks := Bd.notSynchronized
  have hSB : va_S (fun q => B ≤ q) s.heap s.heap [] := va_S.rf
  have hP : va_P (dC, dI) vwCl [(h, .inr (1, [.ref hk, .ref hn, .ref hu, .int (nI sz)])), (hk, .inl (cI, 50, .inl ks)), (hn, .inl (cI, 50, .inl ns)), (hu, .inl (cI, 200, .inl us))] s.heap := hP
  have hl := lv_entry ([.ref h, .int p0]) (n := 4) (Nat.le_of_ble_eq_true rfl)
  rw [lg_entry_eq]
  generalize (lg_sl ([.ref h, .int p0]) ++ List.replicate (4 - (lg_sl ([.ref h, .int p0])).length) Slot.unset).toArray = ls at hl ⊢
  have hl : lv_has ls 4 [(0, .ref h), (1, .int p0)] := hl
  refine lv_iconst (v := (-1)) hx hb dX1_nextBehind_0 (by decide) ?_
  refine lv_istore_n (lv' := [(2, .int (-1)), (0, .ref h), (1, .int p0)]) hx hb dX1_nextBehind_1 rfl hl (by decide) rfl (fun ls hl => ?_)
  refine lv_iconst (v := 0) hx hb dX1_nextBehind_2 (by decide) ?_
  refine lv_istore_n (lv' := [(3, .int 0), (2, .int (-1)), (0, .ref h), (1, .int p0)]) hx hb dX1_nextBehind_3 rfl hl (by decide) rfl (fun ls hl => ?_)
  refine loop_R (σ := Nat × Int32) (fun n x ls => sz - x.1 < n ∧ x.1 ≤ sz ∧ k_next ks ns sz p0 0 (-1) = k_next ks ns sz p0 x.1 x.2 ∧ lv_has ls 4 [(0, .ref h), (1, .int p0), (2, .int x.2), (3, .int (nI x.1))]) (fun n x ls ih_1 hI => ?_) (fun x ls hI => ?_) (n := (sz - 0) + 1) (x := (0, (-1))) ⟨(Nat.lt_succ_self _), (by (try dsimp only); omega), rfl, lv_sub hl [2, 3, 1, 0] rfl⟩
  · skip
    obtain ⟨k, nx⟩ := x
    obtain ⟨hfu, hk0, he, hl⟩ := hI
    have hfu : sz - k < n + 1 := hfu
    have hk0 : k ≤ sz := hk0
    have he : k_next ks ns sz p0 0 (-1) = k_next ks ns sz p0 k nx := he
    have hl : lv_has ls 4 [(0, .ref h), (1, .int p0), (2, .int nx), (3, .int (nI k))] := hl
    refine lv_iload_n hx hb dX1_nextBehind_4 rfl (lv_at hl 3 rfl) ?_
    refine lv_aload_n hx hb dX1_nextBehind_5 rfl (lv_at hl 0 rfl) ?_
    refine va_get (D := (dC, dI)) (ci := 1) (v := .int (nI sz)) (C := RX1) (T := TX1) (N := 4) hx hb hg in_X1 hown hK hP 0 rfl rfl 3 (by decide) (hg _ w_38) (fun _ h9 => h9) rfl dX1_nextBehind_6 ?_
    refine lv_icmp_ge (tgt := 47) hx hb dX1_nextBehind_9 (by decide) (fun c_2 => ?_) (fun c_2 => ?_)
    · skip
      have c_2 := na_le (a := sz) (b := k) c_2 (by omega) (by omega)
      refine lv_iload_n hx hb dX1_nextBehind_47 rfl (lv_at hl 2 rfl) ?_
      exact W.iret (v := nx) hx hb hr (fun t ht hW => rd_end (by rw [he]; rw [k_next]; simp [c_2]) ht) (fun q h => by cases h) dX1_nextBehind_48
    · skip
      have c_2 := na_nle (a := sz) (b := k) c_2 (by omega) (by omega)
      refine lv_aload_n hx hb dX1_nextBehind_12 rfl (lv_at hl 0 rfl) ?_
      refine lv_iload_n hx hb dX1_nextBehind_13 rfl (lv_at hl 3 rfl) ?_
      refine go_R (r := k_rank ks ns sz (nI k)) (va_runV (As := [.int (nI k)]) (rest := []) ⟨hx, hb, hml, hown, hg⟩ (kX1_rankOf l dC dI B cI cC cJ h hk hn hu ks ns us sz (nI k) (by omega)) (cwV 1 hg (gi_V w_407 w_408 w_409 w_4 w_410) rfl rfl rfl (by decide +kernel) ⟨Nat.le_of_ble_eq_true rfl, Nat.le_of_ble_eq_true rfl⟩) (pre_RV (va_recv hK hP (ci := 1) (q0 := 0) rfl rfl) (hP.sub [0, 1, 2, 3] rfl) hK hT) rfl rfl hl.1 rfl (lv_room (Nat.le_of_ble_eq_true rfl)) dX1_nextBehind_14 ⟨Nat.le_of_ble_eq_true rfl, Nat.le_of_ble_eq_true rfl⟩) ?_
      refine lv_iload_n hx hb dX1_nextBehind_17 rfl (lv_at hl 1 rfl) ?_
      refine lv_icmp_le (tgt := 41) hx hb dX1_nextBehind_18 (by decide) (fun c_3 => ?_) (fun c_3 => ?_)
      · skip
        refine lv_iinc (v := (nI (k + 1))) (lv' := [(3, .int (nI (k + 1))), (0, .ref h), (1, .int p0), (2, .int nx)]) hx hb dX1_nextBehind_41 hl (k := 3) rfl (by rw [← nI_add]; rfl) (by decide) rfl (fun ls hl => ?_)
        refine lv_goto (tgt := 4) hx hb dX1_nextBehind_44 (by decide) ?_
        exact ih_1 (k + 1, nx) _ ⟨(by (try dsimp only); omega), (by (try dsimp only); omega), (by (try dsimp only); rw [he, k_next]; simp [c_2, c_3]), lv_sub hl [1, 2, 3, 0] rfl⟩
      · skip
        refine lv_iload_n hx hb dX1_nextBehind_21 rfl (lv_at hl 2 rfl) ?_
        refine lv_iconst (v := (-1)) hx hb dX1_nextBehind_22 (by decide) ?_
        refine lv_icmp_eq (tgt := 39) hx hb dX1_nextBehind_23 (by decide) (fun c_4 => ?_) (fun c_4 => ?_)
        · skip
          refine lv_iload_n hx hb dX1_nextBehind_39 rfl (lv_at hl 3 rfl) ?_
          refine lv_istore_n (lv' := [(2, .int (nI k)), (0, .ref h), (1, .int p0), (3, .int (nI k))]) hx hb dX1_nextBehind_40 rfl hl (by decide) rfl (fun ls hl => ?_)
          refine lv_iinc (v := (nI (k + 1))) (lv' := [(3, .int (nI (k + 1))), (2, .int (nI k)), (0, .ref h), (1, .int p0)]) hx hb dX1_nextBehind_41 hl (k := 3) rfl (by rw [← nI_add]; rfl) (by decide) rfl (fun ls hl => ?_)
          refine lv_goto (tgt := 4) hx hb dX1_nextBehind_44 (by decide) ?_
          exact ih_1 (k + 1, (nI k)) _ ⟨(by (try dsimp only); omega), (by (try dsimp only); omega), (by (try dsimp only); rw [he, k_next]; simp [c_2, c_3, c_4]), lv_sub hl [2, 3, 1, 0] rfl⟩
        · skip
          refine lv_aload_n hx hb dX1_nextBehind_26 rfl (lv_at hl 0 rfl) ?_
          refine lv_iload_n hx hb dX1_nextBehind_27 rfl (lv_at hl 3 rfl) ?_
          refine go_R (r := k_rank ks ns sz (nI k)) (va_runV (As := [.int (nI k)]) (rest := []) ⟨hx, hb, hml, hown, hg⟩ (kX1_rankOf l dC dI B cI cC cJ h hk hn hu ks ns us sz (nI k) (by omega)) (cwV 1 hg (gi_V w_407 w_408 w_409 w_4 w_410) rfl rfl rfl (by decide +kernel) ⟨Nat.le_of_ble_eq_true rfl, Nat.le_of_ble_eq_true rfl⟩) (pre_RV (va_recv hK hP (ci := 1) (q0 := 0) rfl rfl) (hP.sub [0, 1, 2, 3] rfl) hK hT) rfl rfl hl.1 rfl (lv_room (Nat.le_of_ble_eq_true rfl)) dX1_nextBehind_28 ⟨Nat.le_of_ble_eq_true rfl, Nat.le_of_ble_eq_true rfl⟩) ?_
          refine lv_aload_n hx hb dX1_nextBehind_31 rfl (lv_at hl 0 rfl) ?_
          refine lv_iload_n hx hb dX1_nextBehind_32 rfl (lv_at hl 2 rfl) ?_
          refine go_R (r := k_rank ks ns sz nx) (va_runV (As := [.int nx]) (rest := [.int (k_rank ks ns sz (nI k))]) ⟨hx, hb, hml, hown, hg⟩ (kX1_rankOf l dC dI B cI cC cJ h hk hn hu ks ns us sz nx (by omega)) (cwV 1 hg (gi_V w_407 w_408 w_409 w_4 w_410) rfl rfl rfl (by decide +kernel) ⟨Nat.le_of_ble_eq_true rfl, Nat.le_of_ble_eq_true rfl⟩) (pre_RV (va_recv hK hP (ci := 1) (q0 := 0) rfl rfl) (hP.sub [0, 1, 2, 3] rfl) hK hT) rfl rfl hl.1 rfl (lv_room (Nat.le_of_ble_eq_true rfl)) dX1_nextBehind_33 ⟨Nat.le_of_ble_eq_true rfl, Nat.le_of_ble_eq_true rfl⟩) ?_
          refine lv_icmp_ge (tgt := 41) hx hb dX1_nextBehind_36 (by decide) (fun c_5 => ?_) (fun c_5 => ?_)
          · skip
            refine lv_iinc (v := (nI (k + 1))) (lv' := [(3, .int (nI (k + 1))), (0, .ref h), (1, .int p0), (2, .int nx)]) hx hb dX1_nextBehind_41 hl (k := 3) rfl (by rw [← nI_add]; rfl) (by decide) rfl (fun ls hl => ?_)
            refine lv_goto (tgt := 4) hx hb dX1_nextBehind_44 (by decide) ?_
            exact ih_1 (k + 1, nx) _ ⟨(by (try dsimp only); omega), (by (try dsimp only); omega), (by (try dsimp only); rw [he, k_next]; simp [c_2, c_3, c_4, c_5]), lv_sub hl [1, 2, 3, 0] rfl⟩
          · skip
            refine lv_iload_n hx hb dX1_nextBehind_39 rfl (lv_at hl 3 rfl) ?_
            refine lv_istore_n (lv' := [(2, .int (nI k)), (0, .ref h), (1, .int p0), (3, .int (nI k))]) hx hb dX1_nextBehind_40 rfl hl (by decide) rfl (fun ls hl => ?_)
            refine lv_iinc (v := (nI (k + 1))) (lv' := [(3, .int (nI (k + 1))), (2, .int (nI k)), (0, .ref h), (1, .int p0)]) hx hb dX1_nextBehind_41 hl (k := 3) rfl (by rw [← nI_add]; rfl) (by decide) rfl (fun ls hl => ?_)
            refine lv_goto (tgt := 4) hx hb dX1_nextBehind_44 (by decide) ?_
            exact ih_1 (k + 1, (nI k)) _ ⟨(by (try dsimp only); omega), (by (try dsimp only); omega), (by (try dsimp only); rw [he, k_next]; simp [c_2, c_3, c_4, c_5]), lv_sub hl [2, 3, 1, 0] rfl⟩
  · exact absurd hI.1 (Nat.not_lt_zero _)
set_option maxHeartbeats 4000000 in
set_option maxRecDepth 100000 in
theorem kX1_hasPieceAt (l : Launch) (dC : Nat → ClassId) (dI : Nat → Nat → Nat) (B : Nat) (cI cC cJ : ClassId) (h : Nat) (hk : Nat) (hn : Nat) (hu : Nat) (ks : Nat → Int32) (ns : Nat → Int32) (us : Nat → Int32) (sz : Nat) (p0 : Int32) (p1 : Int32) (hsz : sz ≤ 50) : Met l yX1_hasPieceAt wsX1_hasPieceAt ({ frames := 1, cells := 0, slots := 0, locals := 22 }) (q_Rd (dC, dI) vwCl [.ref h, .int p0, .int p1] [(h, .inr (1, [.ref hk, .ref hn, .ref hu, .int (nI sz)])), (hk, .inl (cI, 50, .inl ks)), (hn, .inl (cI, 50, .inl ns)), (hu, .inl (cI, 200, .inl us))] [(cI, .int), (cC, .char), (cJ, .long)] B) (QcRead (bI (k_has ks us sz p0 p1 0))) 0 0 (fun _ => False) := by
  refine Met.ofW (cc := cX1_hasPieceAt) (maxL := 4) (ret := (some .boolean)) (by decide) rfl ?_
  intro p e s m args below meth c s₁ Bd hml hv
  obtain ⟨rfl, hP, hK, hT⟩ := hv
  have hx := Bd.exec
  have hb := Bd.bytes
  have hr := Bd.returns
  have hts := atoms_spec (ws := wsX1_hasPieceAt) Bd.pre
  have hg : ∀ w ∈ lw_good, w.before _ s = true := fun w h => hts w (List.mem_cons_of_mem _ h)
  have hown : s.vm.findClass RX1 = some m.cls := findClass_of_methodNamed Bd.named
  have hlocks := Bd.notSynchronized
  have hSB : va_S (fun q => B ≤ q) s.heap s.heap [] := va_S.rf
  have hP : va_P (dC, dI) vwCl [(h, .inr (1, [.ref hk, .ref hn, .ref hu, .int (nI sz)])), (hk, .inl (cI, 50, .inl ks)), (hn, .inl (cI, 50, .inl ns)), (hu, .inl (cI, 200, .inl us))] s.heap := hP
  have hl := lv_entry ([.ref h, .int p0, .int p1]) (n := 4) (Nat.le_of_ble_eq_true rfl)
  rw [lg_entry_eq]
  generalize (lg_sl ([.ref h, .int p0, .int p1]) ++ List.replicate (4 - (lg_sl ([.ref h, .int p0, .int p1])).length) Slot.unset).toArray = ls at hl ⊢
  have hl : lv_has ls 4 [(0, .ref h), (1, .int p0), (2, .int p1)] := hl
  refine lv_iconst (v := 0) hx hb dX1_hasPieceAt_0 (by decide) ?_
  refine lv_istore_n (lv' := [(3, .int 0), (0, .ref h), (1, .int p0), (2, .int p1)]) hx hb dX1_hasPieceAt_1 rfl hl (by decide) rfl (fun ls hl => ?_)
  refine loop_R (σ := Nat) (fun n x ls => sz - x < n ∧ x ≤ sz ∧ k_has ks us sz p0 p1 0 = k_has ks us sz p0 p1 x ∧ lv_has ls 4 [(0, .ref h), (1, .int p0), (2, .int p1), (3, .int (nI x))]) (fun n x ls ih_1 hI => ?_) (fun x ls hI => ?_) (n := (sz - 0) + 1) (x := 0) ⟨(Nat.lt_succ_self _), (by (try dsimp only); omega), rfl, lv_sub hl [1, 2, 3, 0] rfl⟩
  · skip
    obtain ⟨k, rfl⟩ : ∃ z, z = x := ⟨x, rfl⟩
    obtain ⟨hfu, hk0, he, hl⟩ := hI
    have hfu : sz - k < n + 1 := hfu
    have hk0 : k ≤ sz := hk0
    have he : k_has ks us sz p0 p1 0 = k_has ks us sz p0 p1 k := he
    have hl : lv_has ls 4 [(0, .ref h), (1, .int p0), (2, .int p1), (3, .int (nI k))] := hl
    refine lv_iload_n hx hb dX1_hasPieceAt_2 rfl (lv_at hl 3 rfl) ?_
    refine lv_aload_n hx hb dX1_hasPieceAt_3 rfl (lv_at hl 0 rfl) ?_
    refine va_get (D := (dC, dI)) (ci := 1) (v := .int (nI sz)) (C := RX1) (T := TX1) (N := 4) hx hb hg in_X1 hown hK hP 0 rfl rfl 3 (by decide) (hg _ w_38) (fun _ h9 => h9) rfl dX1_hasPieceAt_4 ?_
    refine lv_icmp_ge (tgt := 48) hx hb dX1_hasPieceAt_7 (by decide) (fun c_2 => ?_) (fun c_2 => ?_)
    · skip
      have c_2 := na_le (a := sz) (b := k) c_2 (by omega) (by omega)
      refine lv_iconst (v := 0) hx hb dX1_hasPieceAt_48 (by decide) ?_
      exact W.zret (v := 0) (ty := .boolean) hx hb hr rfl (fun t ht hW => rd_end (bI_0 (by rw [he]; rw [k_has]; simp [c_2])).symm ht) (fun q h => by cases h) dX1_hasPieceAt_49
    · skip
      have c_2 := na_nle (a := sz) (b := k) c_2 (by omega) (by omega)
      refine lv_aload_n hx hb dX1_hasPieceAt_10 rfl (lv_at hl 0 rfl) ?_
      refine va_get (D := (dC, dI)) (ci := 1) (v := .ref hk) (C := RX1) (T := TX1) (N := 4) hx hb hg in_X1 hown hK hP 0 rfl rfl 0 (by decide) (hg _ w_35) (fun _ h9 => h9) rfl dX1_hasPieceAt_11 ?_
      refine lv_iload_n hx hb dX1_hasPieceAt_14 rfl (lv_at hl 3 rfl) ?_
      refine x_iald (k := k) hx hb hK hP 1 0 rfl rfl (by omega) (by decide) dX1_hasPieceAt_15 ?_
      refine lv_iload_n hx hb dX1_hasPieceAt_16 rfl (lv_at hl 1 rfl) ?_
      refine lv_icmp_ne (tgt := 42) hx hb dX1_hasPieceAt_17 (by decide) (fun c_3 => ?_) (fun c_3 => ?_)
      · skip
        refine lv_iinc (v := (nI (k + 1))) (lv' := [(3, .int (nI (k + 1))), (0, .ref h), (1, .int p0), (2, .int p1)]) hx hb dX1_hasPieceAt_42 hl (k := 3) rfl (by rw [← nI_add]; rfl) (by decide) rfl (fun ls hl => ?_)
        refine lv_goto (tgt := 2) hx hb dX1_hasPieceAt_45 (by decide) ?_
        exact ih_1 (k + 1) _ ⟨(by (try dsimp only); omega), (by (try dsimp only); omega), (by (try dsimp only); rw [he, k_has]; simp [c_2, c_3]), lv_sub hl [1, 2, 3, 0] rfl⟩
      · skip
        refine lv_aload_n hx hb dX1_hasPieceAt_20 rfl (lv_at hl 0 rfl) ?_
        refine lv_iload_n hx hb dX1_hasPieceAt_21 rfl (lv_at hl 3 rfl) ?_
        refine lv_iconst (v := 0) hx hb dX1_hasPieceAt_22 (by decide) ?_
        refine go_R (r := k_num us sz (nI k) 0) (va_runV (As := [.int (nI k), .int 0]) (rest := []) ⟨hx, hb, hml, hown, hg⟩ (kX1_numberOf l dC dI B cI cC cJ h hk hn hu ks ns us sz (nI k) 0 (by omega)) (cwV 2 hg (gi_V w_215 w_216 w_217 w_4 w_218) rfl rfl rfl (by decide +kernel) ⟨Nat.le_of_ble_eq_true rfl, Nat.le_of_ble_eq_true rfl⟩) (pre_RV (va_recv hK hP (ci := 1) (q0 := 0) rfl rfl) (hP.sub [0, 1, 2, 3] rfl) hK hT) rfl rfl hl.1 rfl (lv_room (Nat.le_of_ble_eq_true rfl)) dX1_hasPieceAt_23 ⟨Nat.le_of_ble_eq_true rfl, Nat.le_of_ble_eq_true rfl⟩) ?_
        refine lv_iload_n hx hb dX1_hasPieceAt_26 rfl (lv_at hl 2 rfl) ?_
        refine lv_icmp_eq (tgt := 40) hx hb dX1_hasPieceAt_27 (by decide) (fun c_4 => ?_) (fun c_4 => ?_)
        · skip
          refine lv_iconst (v := 1) hx hb dX1_hasPieceAt_40 (by decide) ?_
          exact W.zret (v := 1) (ty := .boolean) hx hb hr rfl (fun t ht hW => rd_end (bI_1 (by rw [he]; rw [k_has]; simp [c_2, c_3, c_4])).symm ht) (fun q h => by cases h) dX1_hasPieceAt_41
        · skip
          refine lv_aload_n hx hb dX1_hasPieceAt_30 rfl (lv_at hl 0 rfl) ?_
          refine lv_iload_n hx hb dX1_hasPieceAt_31 rfl (lv_at hl 3 rfl) ?_
          refine lv_iconst (v := 1) hx hb dX1_hasPieceAt_32 (by decide) ?_
          refine go_R (r := k_num us sz (nI k) 1) (va_runV (As := [.int (nI k), .int 1]) (rest := []) ⟨hx, hb, hml, hown, hg⟩ (kX1_numberOf l dC dI B cI cC cJ h hk hn hu ks ns us sz (nI k) 1 (by omega)) (cwV 2 hg (gi_V w_215 w_216 w_217 w_4 w_218) rfl rfl rfl (by decide +kernel) ⟨Nat.le_of_ble_eq_true rfl, Nat.le_of_ble_eq_true rfl⟩) (pre_RV (va_recv hK hP (ci := 1) (q0 := 0) rfl rfl) (hP.sub [0, 1, 2, 3] rfl) hK hT) rfl rfl hl.1 rfl (lv_room (Nat.le_of_ble_eq_true rfl)) dX1_hasPieceAt_33 ⟨Nat.le_of_ble_eq_true rfl, Nat.le_of_ble_eq_true rfl⟩) ?_
          refine lv_iload_n hx hb dX1_hasPieceAt_36 rfl (lv_at hl 2 rfl) ?_
          refine lv_icmp_ne (tgt := 42) hx hb dX1_hasPieceAt_37 (by decide) (fun c_5 => ?_) (fun c_5 => ?_)
          · skip
            refine lv_iinc (v := (nI (k + 1))) (lv' := [(3, .int (nI (k + 1))), (0, .ref h), (1, .int p0), (2, .int p1)]) hx hb dX1_hasPieceAt_42 hl (k := 3) rfl (by rw [← nI_add]; rfl) (by decide) rfl (fun ls hl => ?_)
            refine lv_goto (tgt := 2) hx hb dX1_hasPieceAt_45 (by decide) ?_
            exact ih_1 (k + 1) _ ⟨(by (try dsimp only); omega), (by (try dsimp only); omega), (by (try dsimp only); rw [he, k_has]; simp [c_2, c_3, c_4, c_5]), lv_sub hl [1, 2, 3, 0] rfl⟩
          · skip
            refine lv_iconst (v := 1) hx hb dX1_hasPieceAt_40 (by decide) ?_
            exact W.zret (v := 1) (ty := .boolean) hx hb hr rfl (fun t ht hW => rd_end (bI_1 (by rw [he]; rw [k_has]; simp [c_2, c_3, c_4, c_5])).symm ht) (fun q h => by cases h) dX1_hasPieceAt_41
  · exact absurd hI.1 (Nat.not_lt_zero _)
set_option maxHeartbeats 4000000 in
set_option maxRecDepth 100000 in
theorem kX1_hasSameNumbers (l : Launch) (dC : Nat → ClassId) (dI : Nat → Nat → Nat) (B : Nat) (cI cC cJ : ClassId) (h : Nat) (hk : Nat) (hn : Nat) (hu : Nat) (ks : Nat → Int32) (ns : Nat → Int32) (us : Nat → Int32) (sz : Nat) (h2 : Nat) (hk2 : Nat) (hn2 : Nat) (hu2 : Nat) (ks2 : Nat → Int32) (ns2 : Nat → Int32) (us2 : Nat → Int32) (sz2 : Nat) (p0 : Int32) (p2 : Int32) (hsz : sz ≤ 50) (hsz2 : sz2 ≤ 50) : Met l yX1_hasSameNumbers wsX1_hasSameNumbers ({ frames := 2, cells := 0, slots := 0, locals := 40 }) (q_Rd (dC, dI) vwCl [.ref h, .int p0, .ref h2, .int p2] [(h, .inr (1, [.ref hk, .ref hn, .ref hu, .int (nI sz)])), (hk, .inl (cI, 50, .inl ks)), (hn, .inl (cI, 50, .inl ns)), (hu, .inl (cI, 200, .inl us)), (h2, .inr (1, [.ref hk2, .ref hn2, .ref hu2, .int (nI sz2)])), (hk2, .inl (cI, 50, .inl ks2)), (hn2, .inl (cI, 50, .inl ns2)), (hu2, .inl (cI, 200, .inl us2))] [(cI, .int), (cC, .char), (cJ, .long)] B) (QcRead (bI (k_same us sz p0 us2 sz2 p2 (k_nK (k_get ks sz p0)) 0))) 0 0 (fun _ => False) := by
  refine Met.ofW (cc := cX1_hasSameNumbers) (maxL := 6) (ret := (some .boolean)) (by decide) rfl ?_
  intro p e s m args below meth c s₁ Bd hml hv
  obtain ⟨rfl, hP, hK, hT⟩ := hv
  have hx := Bd.exec
  have hb := Bd.bytes
  have hr := Bd.returns
  have hts := atoms_spec (ws := wsX1_hasSameNumbers) Bd.pre
  have hg : ∀ w ∈ lw_good, w.before _ s = true := fun w h => hts w (List.mem_cons_of_mem _ h)
  have hown : s.vm.findClass RX1 = some m.cls := findClass_of_methodNamed Bd.named
  have hlocks := Bd.notSynchronized
  have hSB : va_S (fun q => B ≤ q) s.heap s.heap [] := va_S.rf
  have hP : va_P (dC, dI) vwCl [(h, .inr (1, [.ref hk, .ref hn, .ref hu, .int (nI sz)])), (hk, .inl (cI, 50, .inl ks)), (hn, .inl (cI, 50, .inl ns)), (hu, .inl (cI, 200, .inl us)), (h2, .inr (1, [.ref hk2, .ref hn2, .ref hu2, .int (nI sz2)])), (hk2, .inl (cI, 50, .inl ks2)), (hn2, .inl (cI, 50, .inl ns2)), (hu2, .inl (cI, 200, .inl us2))] s.heap := hP
  have hl := lv_entry ([.ref h, .int p0, .ref h2, .int p2]) (n := 6) (Nat.le_of_ble_eq_true rfl)
  rw [lg_entry_eq]
  generalize (lg_sl ([.ref h, .int p0, .ref h2, .int p2]) ++ List.replicate (6 - (lg_sl ([.ref h, .int p0, .ref h2, .int p2])).length) Slot.unset).toArray = ls at hl ⊢
  have hl : lv_has ls 6 [(0, .ref h), (1, .int p0), (2, .ref h2), (3, .int p2)] := hl
  refine lv_aload_n hx hb dX1_hasSameNumbers_0 rfl (lv_at hl 0 rfl) ?_
  refine lv_iload_n hx hb dX1_hasSameNumbers_1 rfl (lv_at hl 1 rfl) ?_
  refine go_R (r := k_get ks sz p0) (va_runV (As := [.int p0]) (rest := []) ⟨hx, hb, hml, hown, hg⟩ (kX1_kindOf l dC dI B cI cC cJ h hk hn hu ks ns us sz p0 (by omega)) (cwV 1 hg (gi_V w_205 w_206 w_207 w_4 w_208) rfl rfl rfl (by decide +kernel) ⟨Nat.le_of_ble_eq_true rfl, Nat.le_of_ble_eq_true rfl⟩) (pre_RV (va_recv hK hP (ci := 1) (q0 := 0) rfl rfl) (hP.sub [0, 1, 2, 3] rfl) hK hT) rfl rfl hl.1 rfl (lv_room (Nat.le_of_ble_eq_true rfl)) dX1_hasSameNumbers_2 ⟨Nat.le_of_ble_eq_true rfl, Nat.le_of_ble_eq_true rfl⟩) ?_
  refine go_R (r := (nI (k_nK (k_get ks sz p0)))) (va_runSN (As := [.int (k_get ks sz p0)]) (rest := []) ⟨hx, hb, hml, hown, hg⟩ (kX5_numbersOfKind l dC dI B cI cC cJ (k_get ks sz p0)) ⟨va_cnB 1 hg (gi_N w_210) rfl rfl rfl (st_B.nM hT (q := ("HarbourText$Harbour", 60, yX5_numbersOfKind)) (List.mem_of_getElem? (i := 6) rfl)) (hg _ w_2) (by decide +kernel) ⟨Nat.le_of_ble_eq_true rfl, Nat.le_of_ble_eq_true rfl⟩, hg _ w_209, trivial⟩ (pre_RS (hP.sub [] rfl) hK hT) rfl rfl hl.1 rfl (lv_room (Nat.le_of_ble_eq_true rfl)) dX1_hasSameNumbers_5 ⟨Nat.le_of_ble_eq_true rfl, Nat.le_of_ble_eq_true rfl⟩) ?_
  have hm4 := k_nK_le (k_get ks sz p0)
  refine lv_istore (lv' := [(4, .int (nI (k_nK (k_get ks sz p0)))), (0, .ref h), (1, .int p0), (2, .ref h2), (3, .int p2)]) hx hb dX1_hasSameNumbers_8 hl (by decide) rfl (fun ls hl => ?_)
  refine lv_iconst (v := 0) hx hb dX1_hasSameNumbers_10 (by decide) ?_
  refine lv_istore (lv' := [(5, .int 0), (4, .int (nI (k_nK (k_get ks sz p0)))), (0, .ref h), (1, .int p0), (2, .ref h2), (3, .int p2)]) hx hb dX1_hasSameNumbers_11 hl (by decide) rfl (fun ls hl => ?_)
  refine loop_R (σ := Nat) (fun n x ls => k_nK (k_get ks sz p0) - x < n ∧ x ≤ k_nK (k_get ks sz p0) ∧ k_same us sz p0 us2 sz2 p2 (k_nK (k_get ks sz p0)) 0 = k_same us sz p0 us2 sz2 p2 (k_nK (k_get ks sz p0)) x ∧ lv_has ls 6 [(0, .ref h), (1, .int p0), (2, .ref h2), (3, .int p2), (4, .int (nI (k_nK (k_get ks sz p0)))), (5, .int (nI x))]) (fun n x ls ih_1 hI => ?_) (fun x ls hI => ?_) (n := (k_nK (k_get ks sz p0) - 0) + 1) (x := 0) ⟨(Nat.lt_succ_self _), (by (try dsimp only); omega), rfl, lv_sub hl [2, 3, 4, 5, 1, 0] rfl⟩
  · skip
    obtain ⟨k, rfl⟩ : ∃ z, z = x := ⟨x, rfl⟩
    obtain ⟨hfu, hk0, he, hl⟩ := hI
    have hfu : k_nK (k_get ks sz p0) - k < n + 1 := hfu
    have hk0 : k ≤ k_nK (k_get ks sz p0) := hk0
    have he : k_same us sz p0 us2 sz2 p2 (k_nK (k_get ks sz p0)) 0 = k_same us sz p0 us2 sz2 p2 (k_nK (k_get ks sz p0)) k := he
    have hl : lv_has ls 6 [(0, .ref h), (1, .int p0), (2, .ref h2), (3, .int p2), (4, .int (nI (k_nK (k_get ks sz p0)))), (5, .int (nI k))] := hl
    have hm4 := k_nK_le (k_get ks sz p0)
    refine lv_iload hx hb dX1_hasSameNumbers_13 (lv_at hl 5 rfl) ?_
    refine lv_iload hx hb dX1_hasSameNumbers_15 (lv_at hl 4 rfl) ?_
    refine lv_icmp_ge (tgt := 45) hx hb dX1_hasSameNumbers_17 (by decide) (fun c_2 => ?_) (fun c_2 => ?_)
    · skip
      have c_2 := na_le (a := k_nK (k_get ks sz p0)) (b := k) c_2 (by omega) (by omega)
      refine lv_iconst (v := 1) hx hb dX1_hasSameNumbers_45 (by decide) ?_
      exact W.zret (v := 1) (ty := .boolean) hx hb hr rfl (fun t ht hW => rd_end (bI_1 (by rw [he]; rw [k_same]; simp [c_2])).symm ht) (fun q h => by cases h) dX1_hasSameNumbers_46
    · skip
      have c_2 := na_nle (a := k_nK (k_get ks sz p0)) (b := k) c_2 (by omega) (by omega)
      refine lv_aload_n hx hb dX1_hasSameNumbers_20 rfl (lv_at hl 0 rfl) ?_
      refine lv_iload_n hx hb dX1_hasSameNumbers_21 rfl (lv_at hl 1 rfl) ?_
      refine lv_iload hx hb dX1_hasSameNumbers_22 (lv_at hl 5 rfl) ?_
      refine go_R (r := k_num us sz p0 (nI k)) (va_runV (As := [.int p0, .int (nI k)]) (rest := []) ⟨hx, hb, hml, hown, hg⟩ (kX1_numberOf l dC dI B cI cC cJ h hk hn hu ks ns us sz p0 (nI k) (by omega)) (cwV 2 hg (gi_V w_215 w_216 w_217 w_4 w_218) rfl rfl rfl (by decide +kernel) ⟨Nat.le_of_ble_eq_true rfl, Nat.le_of_ble_eq_true rfl⟩) (pre_RV (va_recv hK hP (ci := 1) (q0 := 0) rfl rfl) (hP.sub [0, 1, 2, 3] rfl) hK hT) rfl rfl hl.1 rfl (lv_room (Nat.le_of_ble_eq_true rfl)) dX1_hasSameNumbers_24 ⟨Nat.le_of_ble_eq_true rfl, Nat.le_of_ble_eq_true rfl⟩) ?_
      refine lv_aload_n hx hb dX1_hasSameNumbers_27 rfl (lv_at hl 2 rfl) ?_
      refine lv_iload_n hx hb dX1_hasSameNumbers_28 rfl (lv_at hl 3 rfl) ?_
      refine lv_iload hx hb dX1_hasSameNumbers_29 (lv_at hl 5 rfl) ?_
      refine go_R (r := k_num us2 sz2 p2 (nI k)) (va_runV (As := [.int p2, .int (nI k)]) (rest := [.int (k_num us sz p0 (nI k))]) ⟨hx, hb, hml, hown, hg⟩ (kX1_numberOf l dC dI B cI cC cJ h2 hk2 hn2 hu2 ks2 ns2 us2 sz2 p2 (nI k) (by omega)) (cwV 2 hg (gi_V w_215 w_216 w_217 w_4 w_218) rfl rfl rfl (by decide +kernel) ⟨Nat.le_of_ble_eq_true rfl, Nat.le_of_ble_eq_true rfl⟩) (pre_RV (va_recv hK hP (ci := 1) (q0 := 4) rfl rfl) (hP.sub [4, 5, 6, 7] rfl) hK hT) rfl rfl hl.1 rfl (lv_room (Nat.le_of_ble_eq_true rfl)) dX1_hasSameNumbers_31 ⟨Nat.le_of_ble_eq_true rfl, Nat.le_of_ble_eq_true rfl⟩) ?_
      refine lv_icmp_eq (tgt := 39) hx hb dX1_hasSameNumbers_34 (by decide) (fun c_3 => ?_) (fun c_3 => ?_)
      · skip
        refine lv_iinc (v := (nI (k + 1))) (lv' := [(5, .int (nI (k + 1))), (0, .ref h), (1, .int p0), (2, .ref h2), (3, .int p2), (4, .int (nI (k_nK (k_get ks sz p0))))]) hx hb dX1_hasSameNumbers_39 hl (k := 5) rfl (by rw [← nI_add]; rfl) (by decide) rfl (fun ls hl => ?_)
        refine lv_goto (tgt := 13) hx hb dX1_hasSameNumbers_42 (by decide) ?_
        exact ih_1 (k + 1) _ ⟨(by (try dsimp only); omega), (by (try dsimp only); omega), (by (try dsimp only); rw [he, k_same]; simp [c_2, c_3]), lv_sub hl [1, 2, 3, 4, 5, 0] rfl⟩
      · skip
        refine lv_iconst (v := 0) hx hb dX1_hasSameNumbers_37 (by decide) ?_
        exact W.zret (v := 0) (ty := .boolean) hx hb hr rfl (fun t ht hW => rd_end (bI_0 (by rw [he]; rw [k_same]; simp [c_2, c_3])).symm ht) (fun q h => by cases h) dX1_hasSameNumbers_38
  · exact absurd hI.1 (Nat.not_lt_zero _)
set_option maxHeartbeats 4000000 in
set_option maxRecDepth 100000 in
theorem kX1_missingIn (l : Launch) (dC : Nat → ClassId) (dI : Nat → Nat → Nat) (B : Nat) (cI cC cJ : ClassId) (h : Nat) (hk : Nat) (hn : Nat) (hu : Nat) (ks : Nat → Int32) (ns : Nat → Int32) (us : Nat → Int32) (sz : Nat) (h2 : Nat) (hk2 : Nat) (hn2 : Nat) (hu2 : Nat) (ks2 : Nat → Int32) (ns2 : Nat → Int32) (us2 : Nat → Int32) (sz2 : Nat) (hsz : sz ≤ 50) (hsz2 : sz2 ≤ 50) : Met l yX1_missingIn wsX1_missingIn ({ frames := 1, cells := 0, slots := 0, locals := 23 }) (q_Rd (dC, dI) vwCl [.ref h, .ref h2] [(h, .inr (1, [.ref hk, .ref hn, .ref hu, .int (nI sz)])), (hk, .inl (cI, 50, .inl ks)), (hn, .inl (cI, 50, .inl ns)), (hu, .inl (cI, 200, .inl us)), (h2, .inr (1, [.ref hk2, .ref hn2, .ref hu2, .int (nI sz2)])), (hk2, .inl (cI, 50, .inl ks2)), (hn2, .inl (cI, 50, .inl ns2)), (hu2, .inl (cI, 200, .inl us2))] [(cI, .int), (cC, .char), (cJ, .long)] B) (QcRead (nI (k_miss ks ns sz ks2 ns2 sz2 0 0))) 0 0 (fun _ => False) := by
  refine Met.ofW (cc := cX1_missingIn) (maxL := 4) (ret := (some .int)) (by decide) rfl ?_
  intro p e s m args below meth c s₁ Bd hml hv
  obtain ⟨rfl, hP, hK, hT⟩ := hv
  have hx := Bd.exec
  have hb := Bd.bytes
  have hr := Bd.returns
  have hts := atoms_spec (ws := wsX1_missingIn) Bd.pre
  have hg : ∀ w ∈ lw_good, w.before _ s = true := fun w h => hts w (List.mem_cons_of_mem _ h)
  have hown : s.vm.findClass RX1 = some m.cls := findClass_of_methodNamed Bd.named
  have hlocks := Bd.notSynchronized
  have hSB : va_S (fun q => B ≤ q) s.heap s.heap [] := va_S.rf
  have hP : va_P (dC, dI) vwCl [(h, .inr (1, [.ref hk, .ref hn, .ref hu, .int (nI sz)])), (hk, .inl (cI, 50, .inl ks)), (hn, .inl (cI, 50, .inl ns)), (hu, .inl (cI, 200, .inl us)), (h2, .inr (1, [.ref hk2, .ref hn2, .ref hu2, .int (nI sz2)])), (hk2, .inl (cI, 50, .inl ks2)), (hn2, .inl (cI, 50, .inl ns2)), (hu2, .inl (cI, 200, .inl us2))] s.heap := hP
  have hl := lv_entry ([.ref h, .ref h2]) (n := 4) (Nat.le_of_ble_eq_true rfl)
  rw [lg_entry_eq]
  generalize (lg_sl ([.ref h, .ref h2]) ++ List.replicate (4 - (lg_sl ([.ref h, .ref h2])).length) Slot.unset).toArray = ls at hl ⊢
  have hl : lv_has ls 4 [(0, .ref h), (1, .ref h2)] := hl
  refine lv_iconst (v := 0) hx hb dX1_missingIn_0 (by decide) ?_
  refine lv_istore_n (lv' := [(2, .int 0), (0, .ref h), (1, .ref h2)]) hx hb dX1_missingIn_1 rfl hl (by decide) rfl (fun ls hl => ?_)
  refine lv_iconst (v := 0) hx hb dX1_missingIn_2 (by decide) ?_
  refine lv_istore_n (lv' := [(3, .int 0), (2, .int 0), (0, .ref h), (1, .ref h2)]) hx hb dX1_missingIn_3 rfl hl (by decide) rfl (fun ls hl => ?_)
  refine loop_R (σ := Nat × Nat) (fun n x ls => sz - x.1 < n ∧ x.1 ≤ sz ∧ x.2 ≤ x.1 ∧ k_miss ks ns sz ks2 ns2 sz2 0 0 = k_miss ks ns sz ks2 ns2 sz2 x.1 x.2 ∧ lv_has ls 4 [(0, .ref h), (1, .ref h2), (2, .int (nI x.2)), (3, .int (nI x.1))]) (fun n x ls ih_1 hI => ?_) (fun x ls hI => ?_) (n := (sz - 0) + 1) (x := (0, 0)) ⟨(Nat.lt_succ_self _), (by (try dsimp only); omega), (by (try dsimp only); omega), rfl, lv_sub hl [2, 3, 1, 0] rfl⟩
  · skip
    obtain ⟨k, f⟩ := x
    obtain ⟨hfu, hk0, hf0, he, hl⟩ := hI
    have hfu : sz - k < n + 1 := hfu
    have hk0 : k ≤ sz := hk0
    have hf0 : f ≤ k := hf0
    have he : k_miss ks ns sz ks2 ns2 sz2 0 0 = k_miss ks ns sz ks2 ns2 sz2 k f := he
    have hl : lv_has ls 4 [(0, .ref h), (1, .ref h2), (2, .int (nI f)), (3, .int (nI k))] := hl
    refine lv_iload_n hx hb dX1_missingIn_4 rfl (lv_at hl 3 rfl) ?_
    refine lv_aload_n hx hb dX1_missingIn_5 rfl (lv_at hl 0 rfl) ?_
    refine va_get (D := (dC, dI)) (ci := 1) (v := .int (nI sz)) (C := RX1) (T := TX1) (N := 4) hx hb hg in_X1 hown hK hP 0 rfl rfl 3 (by decide) (hg _ w_38) (fun _ h9 => h9) rfl dX1_missingIn_6 ?_
    refine lv_icmp_ge (tgt := 41) hx hb dX1_missingIn_9 (by decide) (fun c_2 => ?_) (fun c_2 => ?_)
    · skip
      have c_2 := na_le (a := sz) (b := k) c_2 (by omega) (by omega)
      refine lv_iload_n hx hb dX1_missingIn_41 rfl (lv_at hl 2 rfl) ?_
      exact W.iret (v := (nI f)) hx hb hr (fun t ht hW => rd_end (by rw [he]; rw [k_miss]; simp [c_2]) ht) (fun q h => by cases h) dX1_missingIn_42
    · skip
      have c_2 := na_nle (a := sz) (b := k) c_2 (by omega) (by omega)
      refine lv_aload_n hx hb dX1_missingIn_12 rfl (lv_at hl 1 rfl) ?_
      refine lv_aload_n hx hb dX1_missingIn_13 rfl (lv_at hl 0 rfl) ?_
      refine va_get (D := (dC, dI)) (ci := 1) (v := .ref hk) (C := RX1) (T := TX1) (N := 4) hx hb hg in_X1 hown hK hP 0 rfl rfl 0 (by decide) (hg _ w_35) (fun _ h9 => h9) rfl dX1_missingIn_14 ?_
      refine lv_iload_n hx hb dX1_missingIn_17 rfl (lv_at hl 3 rfl) ?_
      refine x_iald (k := k) hx hb hK hP 1 0 rfl rfl (by omega) (by decide) dX1_missingIn_18 ?_
      refine lv_aload_n hx hb dX1_missingIn_19 rfl (lv_at hl 0 rfl) ?_
      refine va_get (D := (dC, dI)) (ci := 1) (v := .ref hn) (C := RX1) (T := TX1) (N := 4) hx hb hg in_X1 hown hK hP 0 rfl rfl 1 (by decide) (hg _ w_36) (fun _ h9 => h9) rfl dX1_missingIn_20 ?_
      refine lv_iload_n hx hb dX1_missingIn_23 rfl (lv_at hl 3 rfl) ?_
      refine x_iald (k := k) hx hb hK hP 2 0 rfl rfl (by omega) (by decide) dX1_missingIn_24 ?_
      refine go_R (r := k_indexOf ks2 ns2 (ks k) (ns k) sz2 0) (va_runV (As := [.int (ks k), .int (ns k)]) (rest := []) ⟨hx, hb, hml, hown, hg⟩ (kX1_indexOf l dC dI B cI cC cJ h2 hk2 hn2 hu2 ks2 ns2 us2 sz2 (ks k) (ns k) (by omega)) (cwV 2 hg (gi_V w_197 w_147 w_148 w_4 w_149) rfl rfl rfl (by decide +kernel) ⟨Nat.le_of_ble_eq_true rfl, Nat.le_of_ble_eq_true rfl⟩) (pre_RV (va_recv hK hP (ci := 1) (q0 := 4) rfl rfl) (hP.sub [4, 5, 6, 7] rfl) hK hT) rfl rfl hl.1 rfl (lv_room (Nat.le_of_ble_eq_true rfl)) dX1_missingIn_25 ⟨Nat.le_of_ble_eq_true rfl, Nat.le_of_ble_eq_true rfl⟩) ?_
      refine lv_iconst (v := (-1)) hx hb dX1_missingIn_28 (by decide) ?_
      refine lv_icmp_ne (tgt := 35) hx hb dX1_missingIn_29 (by decide) (fun c_3 => ?_) (fun c_3 => ?_)
      · skip
        refine lv_iinc (v := (nI (k + 1))) (lv' := [(3, .int (nI (k + 1))), (0, .ref h), (1, .ref h2), (2, .int (nI f))]) hx hb dX1_missingIn_35 hl (k := 3) rfl (by rw [← nI_add]; rfl) (by decide) rfl (fun ls hl => ?_)
        refine lv_goto (tgt := 4) hx hb dX1_missingIn_38 (by decide) ?_
        exact ih_1 (k + 1, f) _ ⟨(by (try dsimp only); omega), (by (try dsimp only); omega), (by (try dsimp only); omega), (by (try dsimp only); rw [he, k_miss]; simp [c_2, c_3]), lv_sub hl [1, 2, 3, 0] rfl⟩
      · skip
        refine lv_iinc (v := (nI (f + 1))) (lv' := [(2, .int (nI (f + 1))), (0, .ref h), (1, .ref h2), (3, .int (nI k))]) hx hb dX1_missingIn_32 hl (k := 2) rfl (by rw [← nI_add]; rfl) (by decide) rfl (fun ls hl => ?_)
        refine lv_iinc (v := (nI (k + 1))) (lv' := [(3, .int (nI (k + 1))), (2, .int (nI (f + 1))), (0, .ref h), (1, .ref h2)]) hx hb dX1_missingIn_35 hl (k := 3) rfl (by rw [← nI_add]; rfl) (by decide) rfl (fun ls hl => ?_)
        refine lv_goto (tgt := 4) hx hb dX1_missingIn_38 (by decide) ?_
        exact ih_1 (k + 1, f + 1) _ ⟨(by (try dsimp only); omega), (by (try dsimp only); omega), (by (try dsimp only); omega), (by (try dsimp only); rw [he, k_miss]; simp [c_2, c_3]), lv_sub hl [2, 3, 1, 0] rfl⟩
  · exact absurd hI.1 (Nat.not_lt_zero _)
set_option maxHeartbeats 4000000 in
set_option maxRecDepth 100000 in
theorem kX1_changedIn (l : Launch) (dC : Nat → ClassId) (dI : Nat → Nat → Nat) (B : Nat) (cI cC cJ : ClassId) (h : Nat) (hk : Nat) (hn : Nat) (hu : Nat) (ks : Nat → Int32) (ns : Nat → Int32) (us : Nat → Int32) (sz : Nat) (h2 : Nat) (hk2 : Nat) (hn2 : Nat) (hu2 : Nat) (ks2 : Nat → Int32) (ns2 : Nat → Int32) (us2 : Nat → Int32) (sz2 : Nat) (hsz : sz ≤ 50) (hsz2 : sz2 ≤ 50) : Met l yX1_changedIn wsX1_changedIn ({ frames := 3, cells := 0, slots := 0, locals := 65 }) (q_Rd (dC, dI) vwCl [.ref h, .ref h2] [(h, .inr (1, [.ref hk, .ref hn, .ref hu, .int (nI sz)])), (hk, .inl (cI, 50, .inl ks)), (hn, .inl (cI, 50, .inl ns)), (hu, .inl (cI, 200, .inl us)), (h2, .inr (1, [.ref hk2, .ref hn2, .ref hu2, .int (nI sz2)])), (hk2, .inl (cI, 50, .inl ks2)), (hn2, .inl (cI, 50, .inl ns2)), (hu2, .inl (cI, 200, .inl us2))] [(cI, .int), (cC, .char), (cJ, .long)] B) (QcRead (nI (k_chg ks ns us sz ks2 ns2 us2 sz2 0 0))) 0 0 (fun _ => False) := by
  refine Met.ofW (cc := cX1_changedIn) (maxL := 5) (ret := (some .int)) (by decide) rfl ?_
  intro p e s m args below meth c s₁ Bd hml hv
  obtain ⟨rfl, hP, hK, hT⟩ := hv
  have hx := Bd.exec
  have hb := Bd.bytes
  have hr := Bd.returns
  have hts := atoms_spec (ws := wsX1_changedIn) Bd.pre
  have hg : ∀ w ∈ lw_good, w.before _ s = true := fun w h => hts w (List.mem_cons_of_mem _ h)
  have hown : s.vm.findClass RX1 = some m.cls := findClass_of_methodNamed Bd.named
  have hlocks := Bd.notSynchronized
  have hSB : va_S (fun q => B ≤ q) s.heap s.heap [] := va_S.rf
  have hP : va_P (dC, dI) vwCl [(h, .inr (1, [.ref hk, .ref hn, .ref hu, .int (nI sz)])), (hk, .inl (cI, 50, .inl ks)), (hn, .inl (cI, 50, .inl ns)), (hu, .inl (cI, 200, .inl us)), (h2, .inr (1, [.ref hk2, .ref hn2, .ref hu2, .int (nI sz2)])), (hk2, .inl (cI, 50, .inl ks2)), (hn2, .inl (cI, 50, .inl ns2)), (hu2, .inl (cI, 200, .inl us2))] s.heap := hP
  have hl := lv_entry ([.ref h, .ref h2]) (n := 5) (Nat.le_of_ble_eq_true rfl)
  rw [lg_entry_eq]
  generalize (lg_sl ([.ref h, .ref h2]) ++ List.replicate (5 - (lg_sl ([.ref h, .ref h2])).length) Slot.unset).toArray = ls at hl ⊢
  have hl : lv_has ls 5 [(0, .ref h), (1, .ref h2)] := hl
  refine lv_iconst (v := 0) hx hb dX1_changedIn_0 (by decide) ?_
  refine lv_istore_n (lv' := [(2, .int 0), (0, .ref h), (1, .ref h2)]) hx hb dX1_changedIn_1 rfl hl (by decide) rfl (fun ls hl => ?_)
  refine lv_iconst (v := 0) hx hb dX1_changedIn_2 (by decide) ?_
  refine lv_istore_n (lv' := [(3, .int 0), (2, .int 0), (0, .ref h), (1, .ref h2)]) hx hb dX1_changedIn_3 rfl hl (by decide) rfl (fun ls hl => ?_)
  refine loop_R (σ := Nat × Nat) (fun n x ls => sz - x.1 < n ∧ x.1 ≤ sz ∧ x.2 ≤ x.1 ∧ k_chg ks ns us sz ks2 ns2 us2 sz2 0 0 = k_chg ks ns us sz ks2 ns2 us2 sz2 x.1 x.2 ∧ lv_has ls 5 [(0, .ref h), (1, .ref h2), (2, .int (nI x.2)), (3, .int (nI x.1))]) (fun n x ls ih_1 hI => ?_) (fun x ls hI => ?_) (n := (sz - 0) + 1) (x := (0, 0)) ⟨(Nat.lt_succ_self _), (by (try dsimp only); omega), (by (try dsimp only); omega), rfl, lv_sub hl [2, 3, 1, 0] rfl⟩
  · skip
    obtain ⟨k, f⟩ := x
    obtain ⟨hfu, hk0, hf0, he, hl⟩ := hI
    have hfu : sz - k < n + 1 := hfu
    have hk0 : k ≤ sz := hk0
    have hf0 : f ≤ k := hf0
    have he : k_chg ks ns us sz ks2 ns2 us2 sz2 0 0 = k_chg ks ns us sz ks2 ns2 us2 sz2 k f := he
    have hl : lv_has ls 5 [(0, .ref h), (1, .ref h2), (2, .int (nI f)), (3, .int (nI k))] := hl
    refine lv_iload_n hx hb dX1_changedIn_4 rfl (lv_at hl 3 rfl) ?_
    refine lv_aload_n hx hb dX1_changedIn_5 rfl (lv_at hl 0 rfl) ?_
    refine va_get (D := (dC, dI)) (ci := 1) (v := .int (nI sz)) (C := RX1) (T := TX1) (N := 4) hx hb hg in_X1 hown hK hP 0 rfl rfl 3 (by decide) (hg _ w_38) (fun _ h9 => h9) rfl dX1_changedIn_6 ?_
    refine lv_icmp_ge (tgt := 56) hx hb dX1_changedIn_9 (by decide) (fun c_2 => ?_) (fun c_2 => ?_)
    · skip
      have c_2 := na_le (a := sz) (b := k) c_2 (by omega) (by omega)
      refine lv_iload_n hx hb dX1_changedIn_56 rfl (lv_at hl 2 rfl) ?_
      exact W.iret (v := (nI f)) hx hb hr (fun t ht hW => rd_end (by rw [he]; rw [k_chg]; simp [c_2]) ht) (fun q h => by cases h) dX1_changedIn_57
    · skip
      have c_2 := na_nle (a := sz) (b := k) c_2 (by omega) (by omega)
      refine lv_aload_n hx hb dX1_changedIn_12 rfl (lv_at hl 1 rfl) ?_
      refine lv_aload_n hx hb dX1_changedIn_13 rfl (lv_at hl 0 rfl) ?_
      refine va_get (D := (dC, dI)) (ci := 1) (v := .ref hk) (C := RX1) (T := TX1) (N := 4) hx hb hg in_X1 hown hK hP 0 rfl rfl 0 (by decide) (hg _ w_35) (fun _ h9 => h9) rfl dX1_changedIn_14 ?_
      refine lv_iload_n hx hb dX1_changedIn_17 rfl (lv_at hl 3 rfl) ?_
      refine x_iald (k := k) hx hb hK hP 1 0 rfl rfl (by omega) (by decide) dX1_changedIn_18 ?_
      refine lv_aload_n hx hb dX1_changedIn_19 rfl (lv_at hl 0 rfl) ?_
      refine va_get (D := (dC, dI)) (ci := 1) (v := .ref hn) (C := RX1) (T := TX1) (N := 4) hx hb hg in_X1 hown hK hP 0 rfl rfl 1 (by decide) (hg _ w_36) (fun _ h9 => h9) rfl dX1_changedIn_20 ?_
      refine lv_iload_n hx hb dX1_changedIn_23 rfl (lv_at hl 3 rfl) ?_
      refine x_iald (k := k) hx hb hK hP 2 0 rfl rfl (by omega) (by decide) dX1_changedIn_24 ?_
      refine go_R (r := k_indexOf ks2 ns2 (ks k) (ns k) sz2 0) (va_runV (As := [.int (ks k), .int (ns k)]) (rest := []) ⟨hx, hb, hml, hown, hg⟩ (kX1_indexOf l dC dI B cI cC cJ h2 hk2 hn2 hu2 ks2 ns2 us2 sz2 (ks k) (ns k) (by omega)) (cwV 2 hg (gi_V w_197 w_147 w_148 w_4 w_149) rfl rfl rfl (by decide +kernel) ⟨Nat.le_of_ble_eq_true rfl, Nat.le_of_ble_eq_true rfl⟩) (pre_RV (va_recv hK hP (ci := 1) (q0 := 4) rfl rfl) (hP.sub [4, 5, 6, 7] rfl) hK hT) rfl rfl hl.1 rfl (lv_room (Nat.le_of_ble_eq_true rfl)) dX1_changedIn_25 ⟨Nat.le_of_ble_eq_true rfl, Nat.le_of_ble_eq_true rfl⟩) ?_
      refine lv_istore (lv' := [(4, .int (k_indexOf ks2 ns2 (ks k) (ns k) sz2 0)), (0, .ref h), (1, .ref h2), (2, .int (nI f)), (3, .int (nI k))]) hx hb dX1_changedIn_28 hl (by decide) rfl (fun ls hl => ?_)
      refine lv_iload hx hb dX1_changedIn_30 (lv_at hl 0 rfl) ?_
      refine lv_iconst (v := (-1)) hx hb dX1_changedIn_32 (by decide) ?_
      refine lv_icmp_eq (tgt := 50) hx hb dX1_changedIn_33 (by decide) (fun c_3 => ?_) (fun c_3 => ?_)
      · skip
        refine lv_iinc (v := (nI (k + 1))) (lv' := [(3, .int (nI (k + 1))), (4, .int (k_indexOf ks2 ns2 (ks k) (ns k) sz2 0)), (0, .ref h), (1, .ref h2), (2, .int (nI f))]) hx hb dX1_changedIn_50 hl (k := 4) rfl (by rw [← nI_add]; rfl) (by decide) rfl (fun ls hl => ?_)
        refine lv_goto (tgt := 4) hx hb dX1_changedIn_53 (by decide) ?_
        exact ih_1 (k + 1, f) _ ⟨(by (try dsimp only); omega), (by (try dsimp only); omega), (by (try dsimp only); omega), (by (try dsimp only); rw [he, k_chg]; simp [c_2, c_3]), lv_sub hl [2, 3, 4, 0] rfl⟩
      · skip
        refine lv_aload_n hx hb dX1_changedIn_36 rfl (lv_at hl 1 rfl) ?_
        refine lv_iload_n hx hb dX1_changedIn_37 rfl (lv_at hl 4 rfl) ?_
        refine lv_aload_n hx hb dX1_changedIn_38 rfl (lv_at hl 2 rfl) ?_
        refine lv_iload hx hb dX1_changedIn_39 (lv_at hl 0 rfl) ?_
        refine go_R (r := (bI (k_same us sz (nI k) us2 sz2 (k_indexOf ks2 ns2 (ks k) (ns k) sz2 0) (k_nK (k_get ks sz (nI k))) 0))) (va_runV (As := [.int (nI k), .ref h2, .int (k_indexOf ks2 ns2 (ks k) (ns k) sz2 0)]) (rest := []) ⟨hx, hb, hml, hown, hg⟩ (kX1_hasSameNumbers l dC dI B cI cC cJ h hk hn hu ks ns us sz h2 hk2 hn2 hu2 ks2 ns2 us2 sz2 (nI k) (k_indexOf ks2 ns2 (ks k) (ns k) sz2 0) (by omega) (by omega)) (cwV 3 hg (gi_V w_202 w_203 w_677 w_4 w_204) rfl rfl rfl (by decide +kernel) ⟨Nat.le_of_ble_eq_true rfl, Nat.le_of_ble_eq_true rfl⟩) (pre_RV (va_recv hK hP (ci := 1) (q0 := 0) rfl rfl) (hP.sub [0, 1, 2, 3, 4, 5, 6, 7] rfl) hK hT) rfl rfl hl.1 rfl (lv_room (Nat.le_of_ble_eq_true rfl)) dX1_changedIn_41 ⟨Nat.le_of_ble_eq_true rfl, Nat.le_of_ble_eq_true rfl⟩) ?_
        refine lv_if_ne (tgt := 50) hx hb dX1_changedIn_44 (by decide) (fun c_4 => ?_) (fun c_4 => ?_)
        · skip
          have c_4 := bI_ne0 c_4
          refine lv_iinc (v := (nI (k + 1))) (lv' := [(3, .int (nI (k + 1))), (4, .int (k_indexOf ks2 ns2 (ks k) (ns k) sz2 0)), (0, .ref h), (1, .ref h2), (2, .int (nI f))]) hx hb dX1_changedIn_50 hl (k := 4) rfl (by rw [← nI_add]; rfl) (by decide) rfl (fun ls hl => ?_)
          refine lv_goto (tgt := 4) hx hb dX1_changedIn_53 (by decide) ?_
          exact ih_1 (k + 1, f) _ ⟨(by (try dsimp only); omega), (by (try dsimp only); omega), (by (try dsimp only); omega), (by (try dsimp only); rw [he, k_chg]; simp [c_2, c_3, c_4]), lv_sub hl [2, 3, 4, 0] rfl⟩
        · skip
          have c_4 := bI_eq0 c_4
          refine lv_iinc (v := (nI (f + 1))) (lv' := [(2, .int (nI (f + 1))), (4, .int (k_indexOf ks2 ns2 (ks k) (ns k) sz2 0)), (0, .ref h), (1, .ref h2), (3, .int (nI k))]) hx hb dX1_changedIn_47 hl (k := 3) rfl (by rw [← nI_add]; rfl) (by decide) rfl (fun ls hl => ?_)
          refine lv_iinc (v := (nI (k + 1))) (lv' := [(3, .int (nI (k + 1))), (2, .int (nI (f + 1))), (4, .int (k_indexOf ks2 ns2 (ks k) (ns k) sz2 0)), (0, .ref h), (1, .ref h2)]) hx hb dX1_changedIn_50 hl (k := 4) rfl (by rw [← nI_add]; rfl) (by decide) rfl (fun ls hl => ?_)
          refine lv_goto (tgt := 4) hx hb dX1_changedIn_53 (by decide) ?_
          exact ih_1 (k + 1, f + 1) _ ⟨(by (try dsimp only); omega), (by (try dsimp only); omega), (by (try dsimp only); omega), (by (try dsimp only); rw [he, k_chg]; simp [c_2, c_3, c_4]), lv_sub hl [3, 4, 1, 0] rfl⟩
  · exact absurd hI.1 (Nat.not_lt_zero _)
