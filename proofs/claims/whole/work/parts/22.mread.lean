set_option maxHeartbeats 4000000 in
set_option maxRecDepth 100000 in
theorem kX6_in (l : Launch) (dC : Nat → ClassId) (dI : Nat → Nat → Nat) (B : Nat) (cI cC cJ : ClassId) (p0 : Int32) (p1 : Int32) (p2 : Int32) : Met l yX6_in wsX6_in ({ frames := 0, cells := 0, slots := 0, locals := 0 }) (q_Rd (dC, dI) vwCl [.int p0, .int p1, .int p2] [] [(cI, .int), (cC, .char), (cJ, .long)] B) (QcRead (bI (m_in p0 p1 p2))) 0 0 (fun _ => False) := by
  refine Met.ofW (cc := cX6_in) (maxL := 3) (ret := (some .boolean)) (by decide) rfl ?_
  intro p e s m args below meth c s₁ Bd hml hv
  obtain ⟨rfl, hP, hK, hT⟩ := hv
  have hx := Bd.exec
  have hb := Bd.bytes
  have hr := Bd.returns
  have hts := atoms_spec (ws := wsX6_in) Bd.pre
  have hg : ∀ w ∈ lw_good, w.before _ s = true := fun w h => hts w (List.mem_cons_of_mem _ h)
  have hown : s.vm.findClass RX6 = some m.cls := findClass_of_methodNamed Bd.named
  have hlocks := Bd.notSynchronized
  have hSB : va_S (fun q => B ≤ q) s.heap s.heap [] := va_S.rf
  have hP : va_P (dC, dI) vwCl [] s.heap := hP
  have hl := lv_entry ([.int p0, .int p1, .int p2]) (n := 3) (Nat.le_of_ble_eq_true rfl)
  rw [lg_entry_eq]
  generalize (lg_sl ([.int p0, .int p1, .int p2]) ++ List.replicate (3 - (lg_sl ([.int p0, .int p1, .int p2])).length) Slot.unset).toArray = ls at hl ⊢
  have hl : lv_has ls 3 [(0, .int p0), (1, .int p1), (2, .int p2)] := hl
  refine lv_iload_n hx hb dX6_in_0 rfl (lv_at hl 0 rfl) ?_
  refine lv_iload_n hx hb dX6_in_1 rfl (lv_at hl 1 rfl) ?_
  refine lv_icmp_lt (tgt := 14) hx hb dX6_in_2 (by decide) (fun c_1 => ?_) (fun c_1 => ?_)
  · skip
    refine lv_iconst (v := 0) hx hb dX6_in_14 (by decide) ?_
    exact W.zret (v := 0) (ty := .boolean) hx hb hr rfl (fun t ht hW => rd_end (bI_0 (by simp [m_in, c_1])).symm ht) (fun q h => by cases h) dX6_in_15
  · skip
    refine lv_iload_n hx hb dX6_in_5 rfl (lv_at hl 0 rfl) ?_
    refine lv_iload_n hx hb dX6_in_6 rfl (lv_at hl 2 rfl) ?_
    refine lv_icmp_gt (tgt := 14) hx hb dX6_in_7 (by decide) (fun c_2 => ?_) (fun c_2 => ?_)
    · skip
      refine lv_iconst (v := 0) hx hb dX6_in_14 (by decide) ?_
      exact W.zret (v := 0) (ty := .boolean) hx hb hr rfl (fun t ht hW => rd_end (bI_0 (by simp [m_in, c_1, c_2])).symm ht) (fun q h => by cases h) dX6_in_15
    · skip
      refine lv_iconst (v := 1) hx hb dX6_in_10 (by decide) ?_
      refine lv_goto (tgt := 15) hx hb dX6_in_11 (by decide) ?_
      exact W.zret (v := 1) (ty := .boolean) hx hb hr rfl (fun t ht hW => rd_end (bI_1 (by simp [m_in, c_1, c_2])).symm ht) (fun q h => by cases h) dX6_in_15
set_option maxHeartbeats 4000000 in
set_option maxRecDepth 100000 in
theorem kX6_isDigit (l : Launch) (dC : Nat → ClassId) (dI : Nat → Nat → Nat) (B : Nat) (cI cC cJ : ClassId) (p0 : Int32) : Met l yX6_isDigit wsX6_isDigit ({ frames := 0, cells := 0, slots := 0, locals := 0 }) (q_Rd (dC, dI) vwCl [.int p0] [] [(cI, .int), (cC, .char), (cJ, .long)] B) (QcRead (bI (m_isDigit p0))) 0 0 (fun _ => False) := by
  refine Met.ofW (cc := cX6_isDigit) (maxL := 1) (ret := (some .boolean)) (by decide) rfl ?_
  intro p e s m args below meth c s₁ Bd hml hv
  obtain ⟨rfl, hP, hK, hT⟩ := hv
  have hx := Bd.exec
  have hb := Bd.bytes
  have hr := Bd.returns
  have hts := atoms_spec (ws := wsX6_isDigit) Bd.pre
  have hg : ∀ w ∈ lw_good, w.before _ s = true := fun w h => hts w (List.mem_cons_of_mem _ h)
  have hown : s.vm.findClass RX6 = some m.cls := findClass_of_methodNamed Bd.named
  have hlocks := Bd.notSynchronized
  have hSB : va_S (fun q => B ≤ q) s.heap s.heap [] := va_S.rf
  have hP : va_P (dC, dI) vwCl [] s.heap := hP
  have hl := lv_entry ([.int p0]) (n := 1) (Nat.le_of_ble_eq_true rfl)
  rw [lg_entry_eq]
  generalize (lg_sl ([.int p0]) ++ List.replicate (1 - (lg_sl ([.int p0])).length) Slot.unset).toArray = ls at hl ⊢
  have hl : lv_has ls 1 [(0, .int p0)] := hl
  refine lv_iload_n hx hb dX6_isDigit_0 rfl (lv_at hl 0 rfl) ?_
  refine lv_bipush (v := 48) hx hb dX6_isDigit_1 (by decide) ?_
  refine lv_icmp_lt (tgt := 16) hx hb dX6_isDigit_3 (by decide) (fun c_1 => ?_) (fun c_1 => ?_)
  · skip
    refine lv_iconst (v := 0) hx hb dX6_isDigit_16 (by decide) ?_
    exact W.zret (v := 0) (ty := .boolean) hx hb hr rfl (fun t ht hW => rd_end (bI_0 (by simp [m_isDigit, c_1])).symm ht) (fun q h => by cases h) dX6_isDigit_17
  · skip
    refine lv_iload_n hx hb dX6_isDigit_6 rfl (lv_at hl 0 rfl) ?_
    refine lv_bipush (v := 57) hx hb dX6_isDigit_7 (by decide) ?_
    refine lv_icmp_gt (tgt := 16) hx hb dX6_isDigit_9 (by decide) (fun c_2 => ?_) (fun c_2 => ?_)
    · skip
      refine lv_iconst (v := 0) hx hb dX6_isDigit_16 (by decide) ?_
      exact W.zret (v := 0) (ty := .boolean) hx hb hr rfl (fun t ht hW => rd_end (bI_0 (by simp [m_isDigit, c_1, c_2])).symm ht) (fun q h => by cases h) dX6_isDigit_17
    · skip
      refine lv_iconst (v := 1) hx hb dX6_isDigit_12 (by decide) ?_
      refine lv_goto (tgt := 17) hx hb dX6_isDigit_13 (by decide) ?_
      exact W.zret (v := 1) (ty := .boolean) hx hb hr rfl (fun t ht hW => rd_end (bI_1 (by simp [m_isDigit, c_1, c_2])).symm ht) (fun q h => by cases h) dX6_isDigit_17
set_option maxHeartbeats 4000000 in
set_option maxRecDepth 100000 in
theorem kX6_isPoint (l : Launch) (dC : Nat → ClassId) (dI : Nat → Nat → Nat) (B : Nat) (cI cC cJ : ClassId) (p0 : Int32) : Met l yX6_isPoint wsX6_isPoint ({ frames := 0, cells := 0, slots := 0, locals := 0 }) (q_Rd (dC, dI) vwCl [.int p0] [] [(cI, .int), (cC, .char), (cJ, .long)] B) (QcRead (bI (k_isPoint p0))) 0 0 (fun _ => False) := by
  refine Met.ofW (cc := cX6_isPoint) (maxL := 1) (ret := (some .boolean)) (by decide) rfl ?_
  intro p e s m args below meth c s₁ Bd hml hv
  obtain ⟨rfl, hP, hK, hT⟩ := hv
  have hx := Bd.exec
  have hb := Bd.bytes
  have hr := Bd.returns
  have hts := atoms_spec (ws := wsX6_isPoint) Bd.pre
  have hg : ∀ w ∈ lw_good, w.before _ s = true := fun w h => hts w (List.mem_cons_of_mem _ h)
  have hown : s.vm.findClass RX6 = some m.cls := findClass_of_methodNamed Bd.named
  have hlocks := Bd.notSynchronized
  have hSB : va_S (fun q => B ≤ q) s.heap s.heap [] := va_S.rf
  have hP : va_P (dC, dI) vwCl [] s.heap := hP
  have hl := lv_entry ([.int p0]) (n := 1) (Nat.le_of_ble_eq_true rfl)
  rw [lg_entry_eq]
  generalize (lg_sl ([.int p0]) ++ List.replicate (1 - (lg_sl ([.int p0])).length) Slot.unset).toArray = ls at hl ⊢
  have hl : lv_has ls 1 [(0, .int p0)] := hl
  refine lv_iload_n hx hb dX6_isPoint_0 rfl (lv_at hl 0 rfl) ?_
  refine lv_if_lt (tgt := 14) hx hb dX6_isPoint_1 (by decide) (fun c_1 => ?_) (fun c_1 => ?_)
  · skip
    refine lv_iconst (v := 0) hx hb dX6_isPoint_14 (by decide) ?_
    exact W.zret (v := 0) (ty := .boolean) hx hb hr rfl (fun t ht hW => rd_end (bI_0 (by simp [k_isPoint, c_1])).symm ht) (fun q h => by cases h) dX6_isPoint_15
  · skip
    refine lv_iload_n hx hb dX6_isPoint_4 rfl (lv_at hl 0 rfl) ?_
    refine lv_bipush (v := 16) hx hb dX6_isPoint_5 (by decide) ?_
    refine lv_icmp_ge (tgt := 14) hx hb dX6_isPoint_7 (by decide) (fun c_2 => ?_) (fun c_2 => ?_)
    · skip
      refine lv_iconst (v := 0) hx hb dX6_isPoint_14 (by decide) ?_
      exact W.zret (v := 0) (ty := .boolean) hx hb hr rfl (fun t ht hW => rd_end (bI_0 (by simp [k_isPoint, c_1, c_2])).symm ht) (fun q h => by cases h) dX6_isPoint_15
    · skip
      refine lv_iconst (v := 1) hx hb dX6_isPoint_10 (by decide) ?_
      refine lv_goto (tgt := 15) hx hb dX6_isPoint_11 (by decide) ?_
      exact W.zret (v := 1) (ty := .boolean) hx hb hr rfl (fun t ht hW => rd_end (bI_1 (by simp [k_isPoint, c_1, c_2])).symm ht) (fun q h => by cases h) dX6_isPoint_15
set_option maxHeartbeats 4000000 in
set_option maxRecDepth 100000 in
theorem kX6_less (l : Launch) (dC : Nat → ClassId) (dI : Nat → Nat → Nat) (B : Nat) (cI cC cJ : ClassId) (p0 : Int32) (p1 : Int32) : Met l yX6_less wsX6_less ({ frames := 0, cells := 0, slots := 0, locals := 0 }) (q_Rd (dC, dI) vwCl [.int p0, .int p1] [] [(cI, .int), (cC, .char), (cJ, .long)] B) (QcRead (m_less p0 p1)) 0 0 (fun _ => False) := by
  refine Met.ofW (cc := cX6_less) (maxL := 2) (ret := (some .int)) (by decide) rfl ?_
  intro p e s m args below meth c s₁ Bd hml hv
  obtain ⟨rfl, hP, hK, hT⟩ := hv
  have hx := Bd.exec
  have hb := Bd.bytes
  have hr := Bd.returns
  have hts := atoms_spec (ws := wsX6_less) Bd.pre
  have hg : ∀ w ∈ lw_good, w.before _ s = true := fun w h => hts w (List.mem_cons_of_mem _ h)
  have hown : s.vm.findClass RX6 = some m.cls := findClass_of_methodNamed Bd.named
  have hlocks := Bd.notSynchronized
  have hSB : va_S (fun q => B ≤ q) s.heap s.heap [] := va_S.rf
  have hP : va_P (dC, dI) vwCl [] s.heap := hP
  have hl := lv_entry ([.int p0, .int p1]) (n := 2) (Nat.le_of_ble_eq_true rfl)
  rw [lg_entry_eq]
  generalize (lg_sl ([.int p0, .int p1]) ++ List.replicate (2 - (lg_sl ([.int p0, .int p1])).length) Slot.unset).toArray = ls at hl ⊢
  have hl : lv_has ls 2 [(0, .int p0), (1, .int p1)] := hl
  refine lv_iload_n hx hb dX6_less_0 rfl (lv_at hl 0 rfl) ?_
  refine lv_iload_n hx hb dX6_less_1 rfl (lv_at hl 1 rfl) ?_
  refine lv_icmp_ge (tgt := 9) hx hb dX6_less_2 (by decide) (fun c_1 => ?_) (fun c_1 => ?_)
  · skip
    refine lv_iload_n hx hb dX6_less_9 rfl (lv_at hl 1 rfl) ?_
    exact W.iret (v := p1) hx hb hr (fun t ht hW => rd_end (by simp [m_less, c_1]) ht) (fun q h => by cases h) dX6_less_10
  · skip
    refine lv_iload_n hx hb dX6_less_5 rfl (lv_at hl 0 rfl) ?_
    refine lv_goto (tgt := 10) hx hb dX6_less_6 (by decide) ?_
    exact W.iret (v := p0) hx hb hr (fun t ht hW => rd_end (by simp [m_less, c_1]) ht) (fun q h => by cases h) dX6_less_10
set_option maxHeartbeats 4000000 in
set_option maxRecDepth 100000 in
theorem kX6_numbersOf (l : Launch) (dC : Nat → ClassId) (dI : Nat → Nat → Nat) (B : Nat) (cI cC cJ : ClassId) (p0 : Int32) : Met l yX6_numbersOf wsX6_numbersOf ({ frames := 0, cells := 0, slots := 0, locals := 0 }) (q_Rd (dC, dI) vwCl [.int p0] [] [(cI, .int), (cC, .char), (cJ, .long)] B) (QcRead (nI (m_nums p0))) 0 0 (fun _ => False) := by
  refine Met.ofW (cc := cX6_numbersOf) (maxL := 1) (ret := (some .int)) (by decide) rfl ?_
  intro p e s m args below meth c s₁ Bd hml hv
  obtain ⟨rfl, hP, hK, hT⟩ := hv
  have hx := Bd.exec
  have hb := Bd.bytes
  have hr := Bd.returns
  have hts := atoms_spec (ws := wsX6_numbersOf) Bd.pre
  have hg : ∀ w ∈ lw_good, w.before _ s = true := fun w h => hts w (List.mem_cons_of_mem _ h)
  have hown : s.vm.findClass RX6 = some m.cls := findClass_of_methodNamed Bd.named
  have hlocks := Bd.notSynchronized
  have hSB : va_S (fun q => B ≤ q) s.heap s.heap [] := va_S.rf
  have hP : va_P (dC, dI) vwCl [] s.heap := hP
  have hl := lv_entry ([.int p0]) (n := 1) (Nat.le_of_ble_eq_true rfl)
  rw [lg_entry_eq]
  generalize (lg_sl ([.int p0]) ++ List.replicate (1 - (lg_sl ([.int p0])).length) Slot.unset).toArray = ls at hl ⊢
  have hl : lv_has ls 1 [(0, .int p0)] := hl
  refine lv_iload_n hx hb dX6_numbersOf_0 rfl (lv_at hl 0 rfl) ?_
  refine lv_iconst (v := 3) hx hb dX6_numbersOf_1 (by decide) ?_
  refine lv_icmp_ge (tgt := 9) hx hb dX6_numbersOf_2 (by decide) (fun c_1 => ?_) (fun c_1 => ?_)
  · skip
    refine lv_iload_n hx hb dX6_numbersOf_9 rfl (lv_at hl 0 rfl) ?_
    refine lv_iconst (v := 5) hx hb dX6_numbersOf_10 (by decide) ?_
    refine lv_icmp_ne (tgt := 18) hx hb dX6_numbersOf_11 (by decide) (fun c_2 => ?_) (fun c_2 => ?_)
    · skip
      refine lv_iconst (v := 2) hx hb dX6_numbersOf_18 (by decide) ?_
      exact W.iret (v := 2) hx hb hr (fun t ht hW => rd_end (congrArg nI (show m_nums p0 = 2 by simp [m_nums, c_1, c_2])) ht) (fun q h => by cases h) dX6_numbersOf_19
    · skip
      refine lv_iconst (v := 1) hx hb dX6_numbersOf_14 (by decide) ?_
      refine lv_goto (tgt := 19) hx hb dX6_numbersOf_15 (by decide) ?_
      exact W.iret (v := 1) hx hb hr (fun t ht hW => rd_end (congrArg nI (show m_nums p0 = 1 by simp [m_nums, c_1, c_2])) ht) (fun q h => by cases h) dX6_numbersOf_19
  · skip
    refine lv_iconst (v := 4) hx hb dX6_numbersOf_5 (by decide) ?_
    refine lv_goto (tgt := 19) hx hb dX6_numbersOf_6 (by decide) ?_
    exact W.iret (v := 4) hx hb hr (fun t ht hW => rd_end (congrArg nI (show m_nums p0 = 4 by simp [m_nums, c_1])) ht) (fun q h => by cases h) dX6_numbersOf_19
set_option maxHeartbeats 4000000 in
set_option maxRecDepth 100000 in
theorem kX6_letterOf (l : Launch) (dC : Nat → ClassId) (dI : Nat → Nat → Nat) (B : Nat) (cI cC cJ : ClassId) (p0 : Int32) : Met l yX6_letterOf wsX6_letterOf ({ frames := 0, cells := 0, slots := 0, locals := 0 }) (q_Rd (dC, dI) vwCl [.int p0] [] [(cI, .int), (cC, .char), (cJ, .long)] B) (QcRead (m_letter p0)) 0 0 (fun _ => False) := by
  refine Met.ofW (cc := cX6_letterOf) (maxL := 1) (ret := (some .int)) (by decide) rfl ?_
  intro p e s m args below meth c s₁ Bd hml hv
  obtain ⟨rfl, hP, hK, hT⟩ := hv
  have hx := Bd.exec
  have hb := Bd.bytes
  have hr := Bd.returns
  have hts := atoms_spec (ws := wsX6_letterOf) Bd.pre
  have hg : ∀ w ∈ lw_good, w.before _ s = true := fun w h => hts w (List.mem_cons_of_mem _ h)
  have hown : s.vm.findClass RX6 = some m.cls := findClass_of_methodNamed Bd.named
  have hlocks := Bd.notSynchronized
  have hSB : va_S (fun q => B ≤ q) s.heap s.heap [] := va_S.rf
  have hP : va_P (dC, dI) vwCl [] s.heap := hP
  have hl := lv_entry ([.int p0]) (n := 1) (Nat.le_of_ble_eq_true rfl)
  rw [lg_entry_eq]
  generalize (lg_sl ([.int p0]) ++ List.replicate (1 - (lg_sl ([.int p0])).length) Slot.unset).toArray = ls at hl ⊢
  have hl : lv_has ls 1 [(0, .int p0)] := hl
  refine lv_iload_n hx hb dX6_letterOf_0 rfl (lv_at hl 0 rfl) ?_
  rcases sw5 p0 with rfl | rfl | rfl | rfl | rfl | ⟨c_90, c_91, c_92, c_93, c_94, c_95⟩
  · skip
    refine lv_tableIn (tgt := 36) hx hb dX6_letterOf_1 (by decide) (by decide) rfl (by decide) ?_
    refine lv_bipush (v := 67) hx hb dX6_letterOf_36 (by decide) ?_
    exact W.iret (v := 67) hx hb hr (fun t ht hW => rd_end (by simp [m_letter]) ht) (fun q h => by cases h) dX6_letterOf_38
  · skip
    refine lv_tableIn (tgt := 39) hx hb dX6_letterOf_1 (by decide) (by decide) rfl (by decide) ?_
    refine lv_bipush (v := 76) hx hb dX6_letterOf_39 (by decide) ?_
    exact W.iret (v := 76) hx hb hr (fun t ht hW => rd_end (by simp [m_letter]) ht) (fun q h => by cases h) dX6_letterOf_41
  · skip
    refine lv_tableIn (tgt := 42) hx hb dX6_letterOf_1 (by decide) (by decide) rfl (by decide) ?_
    refine lv_bipush (v := 66) hx hb dX6_letterOf_42 (by decide) ?_
    exact W.iret (v := 66) hx hb hr (fun t ht hW => rd_end (by simp [m_letter]) ht) (fun q h => by cases h) dX6_letterOf_44
  · skip
    refine lv_tableIn (tgt := 45) hx hb dX6_letterOf_1 (by decide) (by decide) rfl (by decide) ?_
    refine lv_bipush (v := 89) hx hb dX6_letterOf_45 (by decide) ?_
    exact W.iret (v := 89) hx hb hr (fun t ht hW => rd_end (by simp [m_letter]) ht) (fun q h => by cases h) dX6_letterOf_47
  · skip
    refine lv_tableIn (tgt := 48) hx hb dX6_letterOf_1 (by decide) (by decide) rfl (by decide) ?_
    refine lv_bipush (v := 82) hx hb dX6_letterOf_48 (by decide) ?_
    exact W.iret (v := 82) hx hb hr (fun t ht hW => rd_end (by simp [m_letter]) ht) (fun q h => by cases h) dX6_letterOf_50
  · skip
    refine lv_tableOut (tgt := 51) hx hb dX6_letterOf_1 c_95 (by decide) ?_
    refine lv_bipush (v := 71) hx hb dX6_letterOf_51 (by decide) ?_
    exact W.iret (v := 71) hx hb hr (fun t ht hW => rd_end (by simp [m_letter, c_90, c_91, c_92, c_93, c_94]) ht) (fun q h => by cases h) dX6_letterOf_53
set_option maxHeartbeats 4000000 in
set_option maxRecDepth 100000 in
theorem kX6_isRange (l : Launch) (dC : Nat → ClassId) (dI : Nat → Nat → Nat) (B : Nat) (cI cC cJ : ClassId) (p0 : Int32) (p1 : Int32) (p2 : Int32) : Met l yX6_isRange wsX6_isRange ({ frames := 1, cells := 0, slots := 0, locals := 22 }) (q_Rd (dC, dI) vwCl [.int p0, .int p1, .int p2] [] [(cI, .int), (cC, .char), (cJ, .long)] B) (QcRead (bI (m_isRange p0 p1 p2))) 0 0 (fun _ => False) := by
  refine Met.ofW (cc := cX6_isRange) (maxL := 3) (ret := (some .boolean)) (by decide) rfl ?_
  intro p e s m args below meth c s₁ Bd hml hv
  obtain ⟨rfl, hP, hK, hT⟩ := hv
  have hx := Bd.exec
  have hb := Bd.bytes
  have hr := Bd.returns
  have hts := atoms_spec (ws := wsX6_isRange) Bd.pre
  have hg : ∀ w ∈ lw_good, w.before _ s = true := fun w h => hts w (List.mem_cons_of_mem _ h)
  have hown : s.vm.findClass RX6 = some m.cls := findClass_of_methodNamed Bd.named
  have hlocks := Bd.notSynchronized
  have hSB : va_S (fun q => B ≤ q) s.heap s.heap [] := va_S.rf
  have hP : va_P (dC, dI) vwCl [] s.heap := hP
  have hl := lv_entry ([.int p0, .int p1, .int p2]) (n := 3) (Nat.le_of_ble_eq_true rfl)
  rw [lg_entry_eq]
  generalize (lg_sl ([.int p0, .int p1, .int p2]) ++ List.replicate (3 - (lg_sl ([.int p0, .int p1, .int p2])).length) Slot.unset).toArray = ls at hl ⊢
  have hl : lv_has ls 3 [(0, .int p0), (1, .int p1), (2, .int p2)] := hl
  refine lv_iload_n hx hb dX6_isRange_0 rfl (lv_at hl 1 rfl) ?_
  refine lv_if_eq (tgt := 18) hx hb dX6_isRange_1 (by decide) (fun c_1 => ?_) (fun c_1 => ?_)
  · skip
    refine lv_iload_n hx hb dX6_isRange_18 rfl (lv_at hl 2 rfl) ?_
    refine lv_bipush (v := 16) hx hb dX6_isRange_19 (by decide) ?_
    refine lv_icmp_ge (tgt := 28) hx hb dX6_isRange_21 (by decide) (fun c_2 => ?_) (fun c_2 => ?_)
    · skip
      refine lv_iconst (v := 0) hx hb dX6_isRange_28 (by decide) ?_
      exact W.zret (v := 0) (ty := .boolean) hx hb hr rfl (fun t ht hW => rd_end (bI_0 (by first | (simp [m_isRange, c_1, c_2]; done) | simp_all [m_isRange])).symm ht) (fun q h => by cases h) dX6_isRange_29
    · skip
      refine lv_iconst (v := 1) hx hb dX6_isRange_24 (by decide) ?_
      refine lv_goto (tgt := 29) hx hb dX6_isRange_25 (by decide) ?_
      exact W.zret (v := 1) (ty := .boolean) hx hb hr rfl (fun t ht hW => rd_end (bI_1 (by first | (simp [m_isRange, c_1, c_2]; done) | simp_all [m_isRange])).symm ht) (fun q h => by cases h) dX6_isRange_29
  · skip
    refine lv_iload_n hx hb dX6_isRange_4 rfl (lv_at hl 1 rfl) ?_
    refine lv_iconst (v := 1) hx hb dX6_isRange_5 (by decide) ?_
    refine lv_icmp_ne (tgt := 30) hx hb dX6_isRange_6 (by decide) (fun c_3 => ?_) (fun c_3 => ?_)
    · skip
      refine lv_iload_n hx hb dX6_isRange_30 rfl (lv_at hl 0 rfl) ?_
      rcases sw3 p0 with rfl | rfl | rfl | ⟨c_90, c_91, c_92, c_93⟩
      · skip
        refine lv_tableIn (tgt := 56) hx hb dX6_isRange_31 (by decide) (by decide) rfl (by decide) ?_
        refine lv_iload_n hx hb dX6_isRange_56 rfl (lv_at hl 1 rfl) ?_
        refine lv_iconst (v := 2) hx hb dX6_isRange_57 (by decide) ?_
        refine lv_icmp_eq (tgt := 71) hx hb dX6_isRange_58 (by decide) (fun c_4 => ?_) (fun c_4 => ?_)
        · skip
          refine lv_iconst (v := 1) hx hb dX6_isRange_71 (by decide) ?_
          refine lv_goto (tgt := 76) hx hb dX6_isRange_72 (by decide) ?_
          exact W.zret (v := 1) (ty := .boolean) hx hb hr rfl (fun t ht hW => rd_end (bI_1 (by first | (simp [m_isRange, c_1, c_3, c_4]; done) | simp_all [m_isRange])).symm ht) (fun q h => by cases h) dX6_isRange_76
        · skip
          refine lv_iload_n hx hb dX6_isRange_61 rfl (lv_at hl 2 rfl) ?_
          refine lv_iconst (v := 1) hx hb dX6_isRange_62 (by decide) ?_
          refine lv_bipush (v := 30) hx hb dX6_isRange_63 (by decide) ?_
          refine go_R (r := (bI (m_in p2 1 30))) (va_runS (As := [.int p2, .int 1, .int 30]) (rest := []) ⟨hx, hb, hml, hown, hg⟩ (kX6_in l dC dI B cI cC cJ p2 1 30) (va_cwS 3 hg (gi_S w_545 w_546 w_8 w_547) rfl rfl rfl (by decide +kernel) ⟨Nat.le_of_ble_eq_true rfl, Nat.le_of_ble_eq_true rfl⟩) (pre_RS (hP.sub [] rfl) hK hT) rfl rfl hl.1 rfl (lv_room (Nat.le_of_ble_eq_true rfl)) dX6_isRange_65 ⟨Nat.le_of_ble_eq_true rfl, Nat.le_of_ble_eq_true rfl⟩) ?_
          refine lv_if_eq (tgt := 75) hx hb dX6_isRange_68 (by decide) (fun c_5 => ?_) (fun c_5 => ?_)
          · skip
            have c_5 := bI_eq0 c_5
            refine lv_iconst (v := 0) hx hb dX6_isRange_75 (by decide) ?_
            exact W.zret (v := 0) (ty := .boolean) hx hb hr rfl (fun t ht hW => rd_end (bI_0 (by first | (simp [m_isRange, c_1, c_3, c_4, c_5]; done) | simp_all [m_isRange])).symm ht) (fun q h => by cases h) dX6_isRange_76
          · skip
            have c_5 := bI_ne0 c_5
            refine lv_iconst (v := 1) hx hb dX6_isRange_71 (by decide) ?_
            refine lv_goto (tgt := 76) hx hb dX6_isRange_72 (by decide) ?_
            exact W.zret (v := 1) (ty := .boolean) hx hb hr rfl (fun t ht hW => rd_end (bI_1 (by first | (simp [m_isRange, c_1, c_3, c_4, c_5]; done) | simp_all [m_isRange])).symm ht) (fun q h => by cases h) dX6_isRange_76
      · skip
        refine lv_tableIn (tgt := 77) hx hb dX6_isRange_31 (by decide) (by decide) rfl (by decide) ?_
        refine lv_iload_n hx hb dX6_isRange_77 rfl (lv_at hl 1 rfl) ?_
        refine lv_iconst (v := 1) hx hb dX6_isRange_78 (by decide) ?_
        refine lv_icmp_ne (tgt := 95) hx hb dX6_isRange_79 (by decide) (fun c_6 => ?_) (fun c_6 => ?_)
        · skip
          refine lv_iload_n hx hb dX6_isRange_95 rfl (lv_at hl 1 rfl) ?_
          refine lv_iconst (v := 2) hx hb dX6_isRange_96 (by decide) ?_
          refine lv_icmp_ne (tgt := 112) hx hb dX6_isRange_97 (by decide) (fun c_7 => ?_) (fun c_7 => ?_)
          · skip
            refine lv_iload_n hx hb dX6_isRange_112 rfl (lv_at hl 2 rfl) ?_
            refine lv_iconst (v := 1) hx hb dX6_isRange_113 (by decide) ?_
            refine lv_bipush (v := 30) hx hb dX6_isRange_114 (by decide) ?_
            refine go_R (r := (bI (m_in p2 1 30))) (va_runS (As := [.int p2, .int 1, .int 30]) (rest := []) ⟨hx, hb, hml, hown, hg⟩ (kX6_in l dC dI B cI cC cJ p2 1 30) (va_cwS 3 hg (gi_S w_545 w_546 w_8 w_547) rfl rfl rfl (by decide +kernel) ⟨Nat.le_of_ble_eq_true rfl, Nat.le_of_ble_eq_true rfl⟩) (pre_RS (hP.sub [] rfl) hK hT) rfl rfl hl.1 rfl (lv_room (Nat.le_of_ble_eq_true rfl)) dX6_isRange_116 ⟨Nat.le_of_ble_eq_true rfl, Nat.le_of_ble_eq_true rfl⟩) ?_
            exact W.zret (v := (bI (m_in p2 1 30))) (ty := .boolean) hx hb hr (bI_nar _) (fun t ht hW => rd_end (congrArg bI (by first | (simp [m_isRange, c_1, c_3, c_7]; done) | simp_all [m_isRange])) ht) (fun q h => by cases h) dX6_isRange_119
          · skip
            refine lv_iload_n hx hb dX6_isRange_100 rfl (lv_at hl 2 rfl) ?_
            refine lv_if_le (tgt := 108) hx hb dX6_isRange_101 (by decide) (fun c_8 => ?_) (fun c_8 => ?_)
            · skip
              refine lv_iconst (v := 0) hx hb dX6_isRange_108 (by decide) ?_
              refine lv_goto (tgt := 119) hx hb dX6_isRange_109 (by decide) ?_
              exact W.zret (v := 0) (ty := .boolean) hx hb hr rfl (fun t ht hW => rd_end (bI_0 (by first | (simp [m_isRange, c_1, c_3, c_7, c_8]; done) | simp_all [m_isRange])).symm ht) (fun q h => by cases h) dX6_isRange_119
            · skip
              refine lv_iconst (v := 1) hx hb dX6_isRange_104 (by decide) ?_
              refine lv_goto (tgt := 119) hx hb dX6_isRange_105 (by decide) ?_
              exact W.zret (v := 1) (ty := .boolean) hx hb hr rfl (fun t ht hW => rd_end (bI_1 (by first | (simp [m_isRange, c_1, c_3, c_7, c_8]; done) | simp_all [m_isRange])).symm ht) (fun q h => by cases h) dX6_isRange_119
        · skip
          exact absurd c_6 c_3
      · skip
        refine lv_tableIn (tgt := 120) hx hb dX6_isRange_31 (by decide) (by decide) rfl (by decide) ?_
        refine lv_iload_n hx hb dX6_isRange_120 rfl (lv_at hl 1 rfl) ?_
        refine lv_iconst (v := 1) hx hb dX6_isRange_121 (by decide) ?_
        refine lv_icmp_ne (tgt := 137) hx hb dX6_isRange_122 (by decide) (fun c_9 => ?_) (fun c_9 => ?_)
        · skip
          refine lv_iload_n hx hb dX6_isRange_137 rfl (lv_at hl 1 rfl) ?_
          refine lv_iconst (v := 2) hx hb dX6_isRange_138 (by decide) ?_
          refine lv_icmp_ne (tgt := 152) hx hb dX6_isRange_139 (by decide) (fun c_10 => ?_) (fun c_10 => ?_)
          · skip
            refine lv_iload_n hx hb dX6_isRange_152 rfl (lv_at hl 2 rfl) ?_
            refine lv_bipush (v := 10) hx hb dX6_isRange_153 (by decide) ?_
            refine lv_icmp_ge (tgt := 162) hx hb dX6_isRange_155 (by decide) (fun c_11 => ?_) (fun c_11 => ?_)
            · skip
              refine lv_iconst (v := 0) hx hb dX6_isRange_162 (by decide) ?_
              exact W.zret (v := 0) (ty := .boolean) hx hb hr rfl (fun t ht hW => rd_end (bI_0 (by first | (simp [m_isRange, c_1, c_3, c_10, c_11]; done) | simp_all [m_isRange])).symm ht) (fun q h => by cases h) dX6_isRange_163
            · skip
              refine lv_iconst (v := 1) hx hb dX6_isRange_158 (by decide) ?_
              refine lv_goto (tgt := 163) hx hb dX6_isRange_159 (by decide) ?_
              exact W.zret (v := 1) (ty := .boolean) hx hb hr rfl (fun t ht hW => rd_end (bI_1 (by first | (simp [m_isRange, c_1, c_3, c_10, c_11]; done) | simp_all [m_isRange])).symm ht) (fun q h => by cases h) dX6_isRange_163
          · skip
            refine lv_iload_n hx hb dX6_isRange_142 rfl (lv_at hl 2 rfl) ?_
            refine lv_iconst (v := 1) hx hb dX6_isRange_143 (by decide) ?_
            refine lv_bipush (v := 30) hx hb dX6_isRange_144 (by decide) ?_
            refine go_R (r := (bI (m_in p2 1 30))) (va_runS (As := [.int p2, .int 1, .int 30]) (rest := []) ⟨hx, hb, hml, hown, hg⟩ (kX6_in l dC dI B cI cC cJ p2 1 30) (va_cwS 3 hg (gi_S w_545 w_546 w_8 w_547) rfl rfl rfl (by decide +kernel) ⟨Nat.le_of_ble_eq_true rfl, Nat.le_of_ble_eq_true rfl⟩) (pre_RS (hP.sub [] rfl) hK hT) rfl rfl hl.1 rfl (lv_room (Nat.le_of_ble_eq_true rfl)) dX6_isRange_146 ⟨Nat.le_of_ble_eq_true rfl, Nat.le_of_ble_eq_true rfl⟩) ?_
            refine lv_goto (tgt := 163) hx hb dX6_isRange_149 (by decide) ?_
            exact W.zret (v := (bI (m_in p2 1 30))) (ty := .boolean) hx hb hr (bI_nar _) (fun t ht hW => rd_end (congrArg bI (by first | (simp [m_isRange, c_1, c_3, c_10]; done) | simp_all [m_isRange])) ht) (fun q h => by cases h) dX6_isRange_163
        · skip
          exact absurd c_9 c_3
      · skip
        refine lv_tableOut (tgt := 164) hx hb dX6_isRange_31 c_93 (by decide) ?_
        refine lv_iload_n hx hb dX6_isRange_164 rfl (lv_at hl 2 rfl) ?_
        refine lv_bipush (v := 51) hx hb dX6_isRange_165 (by decide) ?_
        refine lv_icmp_ge (tgt := 174) hx hb dX6_isRange_167 (by decide) (fun c_12 => ?_) (fun c_12 => ?_)
        · skip
          refine lv_iconst (v := 0) hx hb dX6_isRange_174 (by decide) ?_
          exact W.zret (v := 0) (ty := .boolean) hx hb hr rfl (fun t ht hW => rd_end (bI_0 (by first | (simp [m_isRange, c_1, c_3, c_90, c_91, c_92, c_12]; done) | simp_all [m_isRange])).symm ht) (fun q h => by cases h) dX6_isRange_175
        · skip
          refine lv_iconst (v := 1) hx hb dX6_isRange_170 (by decide) ?_
          refine lv_goto (tgt := 175) hx hb dX6_isRange_171 (by decide) ?_
          exact W.zret (v := 1) (ty := .boolean) hx hb hr rfl (fun t ht hW => rd_end (bI_1 (by first | (simp [m_isRange, c_1, c_3, c_90, c_91, c_92, c_12]; done) | simp_all [m_isRange])).symm ht) (fun q h => by cases h) dX6_isRange_175
    · skip
      refine lv_iload_n hx hb dX6_isRange_9 rfl (lv_at hl 0 rfl) ?_
      refine lv_if_eq (tgt := 18) hx hb dX6_isRange_10 (by decide) (fun c_13 => ?_) (fun c_13 => ?_)
      · skip
        refine lv_iload_n hx hb dX6_isRange_18 rfl (lv_at hl 2 rfl) ?_
        refine lv_bipush (v := 16) hx hb dX6_isRange_19 (by decide) ?_
        refine lv_icmp_ge (tgt := 28) hx hb dX6_isRange_21 (by decide) (fun c_14 => ?_) (fun c_14 => ?_)
        · skip
          refine lv_iconst (v := 0) hx hb dX6_isRange_28 (by decide) ?_
          exact W.zret (v := 0) (ty := .boolean) hx hb hr rfl (fun t ht hW => rd_end (bI_0 (by first | (simp [m_isRange, c_1, c_3, c_13, c_14]; done) | simp_all [m_isRange])).symm ht) (fun q h => by cases h) dX6_isRange_29
        · skip
          refine lv_iconst (v := 1) hx hb dX6_isRange_24 (by decide) ?_
          refine lv_goto (tgt := 29) hx hb dX6_isRange_25 (by decide) ?_
          exact W.zret (v := 1) (ty := .boolean) hx hb hr rfl (fun t ht hW => rd_end (bI_1 (by first | (simp [m_isRange, c_1, c_3, c_13, c_14]; done) | simp_all [m_isRange])).symm ht) (fun q h => by cases h) dX6_isRange_29
      · skip
        refine lv_iload_n hx hb dX6_isRange_13 rfl (lv_at hl 0 rfl) ?_
        refine lv_iconst (v := 4) hx hb dX6_isRange_14 (by decide) ?_
        refine lv_icmp_ne (tgt := 30) hx hb dX6_isRange_15 (by decide) (fun c_15 => ?_) (fun c_15 => ?_)
        · skip
          refine lv_iload_n hx hb dX6_isRange_30 rfl (lv_at hl 0 rfl) ?_
          rcases sw3 p0 with rfl | rfl | rfl | ⟨c_90, c_91, c_92, c_93⟩
          · skip
            refine lv_tableIn (tgt := 56) hx hb dX6_isRange_31 (by decide) (by decide) rfl (by decide) ?_
            refine lv_iload_n hx hb dX6_isRange_56 rfl (lv_at hl 1 rfl) ?_
            refine lv_iconst (v := 2) hx hb dX6_isRange_57 (by decide) ?_
            refine lv_icmp_eq (tgt := 71) hx hb dX6_isRange_58 (by decide) (fun c_16 => ?_) (fun c_16 => ?_)
            · skip
              exact absurd (c_3.symm.trans c_16) (by decide)
            · skip
              refine lv_iload_n hx hb dX6_isRange_61 rfl (lv_at hl 2 rfl) ?_
              refine lv_iconst (v := 1) hx hb dX6_isRange_62 (by decide) ?_
              refine lv_bipush (v := 30) hx hb dX6_isRange_63 (by decide) ?_
              refine go_R (r := (bI (m_in p2 1 30))) (va_runS (As := [.int p2, .int 1, .int 30]) (rest := []) ⟨hx, hb, hml, hown, hg⟩ (kX6_in l dC dI B cI cC cJ p2 1 30) (va_cwS 3 hg (gi_S w_545 w_546 w_8 w_547) rfl rfl rfl (by decide +kernel) ⟨Nat.le_of_ble_eq_true rfl, Nat.le_of_ble_eq_true rfl⟩) (pre_RS (hP.sub [] rfl) hK hT) rfl rfl hl.1 rfl (lv_room (Nat.le_of_ble_eq_true rfl)) dX6_isRange_65 ⟨Nat.le_of_ble_eq_true rfl, Nat.le_of_ble_eq_true rfl⟩) ?_
              refine lv_if_eq (tgt := 75) hx hb dX6_isRange_68 (by decide) (fun c_17 => ?_) (fun c_17 => ?_)
              · skip
                have c_17 := bI_eq0 c_17
                refine lv_iconst (v := 0) hx hb dX6_isRange_75 (by decide) ?_
                exact W.zret (v := 0) (ty := .boolean) hx hb hr rfl (fun t ht hW => rd_end (bI_0 (by first | (simp [m_isRange, c_1, c_3, c_13, c_15, c_16, c_17]; done) | simp_all [m_isRange])).symm ht) (fun q h => by cases h) dX6_isRange_76
              · skip
                have c_17 := bI_ne0 c_17
                refine lv_iconst (v := 1) hx hb dX6_isRange_71 (by decide) ?_
                refine lv_goto (tgt := 76) hx hb dX6_isRange_72 (by decide) ?_
                exact W.zret (v := 1) (ty := .boolean) hx hb hr rfl (fun t ht hW => rd_end (bI_1 (by first | (simp [m_isRange, c_1, c_3, c_13, c_15, c_16, c_17]; done) | simp_all [m_isRange])).symm ht) (fun q h => by cases h) dX6_isRange_76
          · skip
            refine lv_tableIn (tgt := 77) hx hb dX6_isRange_31 (by decide) (by decide) rfl (by decide) ?_
            refine lv_iload_n hx hb dX6_isRange_77 rfl (lv_at hl 1 rfl) ?_
            refine lv_iconst (v := 1) hx hb dX6_isRange_78 (by decide) ?_
            refine lv_icmp_ne (tgt := 95) hx hb dX6_isRange_79 (by decide) (fun c_18 => ?_) (fun c_18 => ?_)
            · skip
              exact absurd c_3 c_18
            · skip
              refine lv_iload_n hx hb dX6_isRange_82 rfl (lv_at hl 2 rfl) ?_
              refine lv_iconst (v := 5) hx hb dX6_isRange_83 (by decide) ?_
              refine lv_icmp_ge (tgt := 91) hx hb dX6_isRange_84 (by decide) (fun c_19 => ?_) (fun c_19 => ?_)
              · skip
                refine lv_iconst (v := 0) hx hb dX6_isRange_91 (by decide) ?_
                refine lv_goto (tgt := 119) hx hb dX6_isRange_92 (by decide) ?_
                exact W.zret (v := 0) (ty := .boolean) hx hb hr rfl (fun t ht hW => rd_end (bI_0 (by first | (simp [m_isRange, c_1, c_3, c_13, c_15, c_19]; done) | simp_all [m_isRange])).symm ht) (fun q h => by cases h) dX6_isRange_119
              · skip
                refine lv_iconst (v := 1) hx hb dX6_isRange_87 (by decide) ?_
                refine lv_goto (tgt := 119) hx hb dX6_isRange_88 (by decide) ?_
                exact W.zret (v := 1) (ty := .boolean) hx hb hr rfl (fun t ht hW => rd_end (bI_1 (by first | (simp [m_isRange, c_1, c_3, c_13, c_15, c_19]; done) | simp_all [m_isRange])).symm ht) (fun q h => by cases h) dX6_isRange_119
          · skip
            refine lv_tableIn (tgt := 120) hx hb dX6_isRange_31 (by decide) (by decide) rfl (by decide) ?_
            refine lv_iload_n hx hb dX6_isRange_120 rfl (lv_at hl 1 rfl) ?_
            refine lv_iconst (v := 1) hx hb dX6_isRange_121 (by decide) ?_
            refine lv_icmp_ne (tgt := 137) hx hb dX6_isRange_122 (by decide) (fun c_20 => ?_) (fun c_20 => ?_)
            · skip
              exact absurd c_3 c_20
            · skip
              refine lv_iload_n hx hb dX6_isRange_125 rfl (lv_at hl 2 rfl) ?_
              refine lv_if_le (tgt := 133) hx hb dX6_isRange_126 (by decide) (fun c_21 => ?_) (fun c_21 => ?_)
              · skip
                refine lv_iconst (v := 0) hx hb dX6_isRange_133 (by decide) ?_
                refine lv_goto (tgt := 163) hx hb dX6_isRange_134 (by decide) ?_
                exact W.zret (v := 0) (ty := .boolean) hx hb hr rfl (fun t ht hW => rd_end (bI_0 (by first | (simp [m_isRange, c_1, c_3, c_13, c_15, c_21]; done) | simp_all [m_isRange])).symm ht) (fun q h => by cases h) dX6_isRange_163
              · skip
                refine lv_iconst (v := 1) hx hb dX6_isRange_129 (by decide) ?_
                refine lv_goto (tgt := 163) hx hb dX6_isRange_130 (by decide) ?_
                exact W.zret (v := 1) (ty := .boolean) hx hb hr rfl (fun t ht hW => rd_end (bI_1 (by first | (simp [m_isRange, c_1, c_3, c_13, c_15, c_21]; done) | simp_all [m_isRange])).symm ht) (fun q h => by cases h) dX6_isRange_163
          · skip
            refine lv_tableOut (tgt := 164) hx hb dX6_isRange_31 c_93 (by decide) ?_
            refine lv_iload_n hx hb dX6_isRange_164 rfl (lv_at hl 2 rfl) ?_
            refine lv_bipush (v := 51) hx hb dX6_isRange_165 (by decide) ?_
            refine lv_icmp_ge (tgt := 174) hx hb dX6_isRange_167 (by decide) (fun c_22 => ?_) (fun c_22 => ?_)
            · skip
              refine lv_iconst (v := 0) hx hb dX6_isRange_174 (by decide) ?_
              exact W.zret (v := 0) (ty := .boolean) hx hb hr rfl (fun t ht hW => rd_end (bI_0 (by first | (simp [m_isRange, c_1, c_3, c_13, c_15, c_90, c_91, c_92, c_22]; done) | simp_all [m_isRange])).symm ht) (fun q h => by cases h) dX6_isRange_175
            · skip
              refine lv_iconst (v := 1) hx hb dX6_isRange_170 (by decide) ?_
              refine lv_goto (tgt := 175) hx hb dX6_isRange_171 (by decide) ?_
              exact W.zret (v := 1) (ty := .boolean) hx hb hr rfl (fun t ht hW => rd_end (bI_1 (by first | (simp [m_isRange, c_1, c_3, c_13, c_15, c_90, c_91, c_92, c_22]; done) | simp_all [m_isRange])).symm ht) (fun q h => by cases h) dX6_isRange_175
        · skip
          refine lv_iload_n hx hb dX6_isRange_18 rfl (lv_at hl 2 rfl) ?_
          refine lv_bipush (v := 16) hx hb dX6_isRange_19 (by decide) ?_
          refine lv_icmp_ge (tgt := 28) hx hb dX6_isRange_21 (by decide) (fun c_23 => ?_) (fun c_23 => ?_)
          · skip
            refine lv_iconst (v := 0) hx hb dX6_isRange_28 (by decide) ?_
            exact W.zret (v := 0) (ty := .boolean) hx hb hr rfl (fun t ht hW => rd_end (bI_0 (by first | (simp [m_isRange, c_1, c_3, c_13, c_15, c_23]; done) | simp_all [m_isRange])).symm ht) (fun q h => by cases h) dX6_isRange_29
          · skip
            refine lv_iconst (v := 1) hx hb dX6_isRange_24 (by decide) ?_
            refine lv_goto (tgt := 29) hx hb dX6_isRange_25 (by decide) ?_
            exact W.zret (v := 1) (ty := .boolean) hx hb hr rfl (fun t ht hW => rd_end (bI_1 (by first | (simp [m_isRange, c_1, c_3, c_13, c_15, c_23]; done) | simp_all [m_isRange])).symm ht) (fun q h => by cases h) dX6_isRange_29
set_option maxHeartbeats 4000000 in
set_option maxRecDepth 100000 in
theorem kX6_kindOf (l : Launch) (dC : Nat → ClassId) (dI : Nat → Nat → Nat) (B : Nat) (cI cC cJ : ClassId) (p0 : Int32) : Met l yX6_kindOf wsX6_kindOf ({ frames := 1, cells := 0, slots := 0, locals := 20 }) (q_Rd (dC, dI) vwCl [.int p0] [] [(cI, .int), (cC, .char), (cJ, .long)] B) (QcRead (oI (m_kindF p0 0 none))) 0 0 (fun _ => False) := by
  refine Met.ofW (cc := cX6_kindOf) (maxL := 3) (ret := (some .int)) (by decide) rfl ?_
  intro p e s m args below meth c s₁ Bd hml hv
  obtain ⟨rfl, hP, hK, hT⟩ := hv
  have hx := Bd.exec
  have hb := Bd.bytes
  have hr := Bd.returns
  have hts := atoms_spec (ws := wsX6_kindOf) Bd.pre
  have hg : ∀ w ∈ lw_good, w.before _ s = true := fun w h => hts w (List.mem_cons_of_mem _ h)
  have hown : s.vm.findClass RX6 = some m.cls := findClass_of_methodNamed Bd.named
  have hlocks := Bd.notSynchronized
  have hSB : va_S (fun q => B ≤ q) s.heap s.heap [] := va_S.rf
  have hP : va_P (dC, dI) vwCl [] s.heap := hP
  have hl := lv_entry ([.int p0]) (n := 3) (Nat.le_of_ble_eq_true rfl)
  rw [lg_entry_eq]
  generalize (lg_sl ([.int p0]) ++ List.replicate (3 - (lg_sl ([.int p0])).length) Slot.unset).toArray = ls at hl ⊢
  have hl : lv_has ls 3 [(0, .int p0)] := hl
  refine lv_iconst (v := (-1)) hx hb dX6_kindOf_0 (by decide) ?_
  refine lv_istore_n (lv' := [(1, .int (-1)), (0, .int p0)]) hx hb dX6_kindOf_1 rfl hl (by decide) rfl (fun ls hl => ?_)
  refine lv_iconst (v := 0) hx hb dX6_kindOf_2 (by decide) ?_
  refine lv_istore_n (lv' := [(2, .int 0), (1, .int (-1)), (0, .int p0)]) hx hb dX6_kindOf_3 rfl hl (by decide) rfl (fun ls hl => ?_)
  refine loop_R (σ := Nat × (Option Nat)) (fun n x ls => 6 - x.1 < n ∧ x.1 ≤ 6 ∧ m_kindF p0 0 none = m_kindF p0 x.1 x.2 ∧ lv_has ls 3 [(0, .int p0), (1, .int (oI x.2)), (2, .int (nI x.1))]) (fun n x ls ih_1 hI => ?_) (fun x ls hI => ?_) (n := (6 - 0) + 1) (x := (0, none)) ⟨(Nat.lt_succ_self _), (by first | omega | (dsimp only; omega) | (dsimp only; done)), rfl, lv_sub hl [2, 1, 0] rfl⟩
  · skip
    obtain ⟨k, f⟩ := x
    obtain ⟨hfu, hk0, he, hl⟩ := hI
    have hfu : 6 - k < n + 1 := hfu
    have hk0 : k ≤ 6 := hk0
    have he : m_kindF p0 0 none = m_kindF p0 k f := he
    have hl : lv_has ls 3 [(0, .int p0), (1, .int (oI f)), (2, .int (nI k))] := hl
    refine lv_iload_n hx hb dX6_kindOf_4 rfl (lv_at hl 2 rfl) ?_
    refine lv_bipush (v := 6) hx hb dX6_kindOf_5 (by decide) ?_
    refine lv_icmp_ge (tgt := 30) hx hb dX6_kindOf_7 (by decide) (fun c_2 => ?_) (fun c_2 => ?_)
    · skip
      have c_2 := na_le (a := 6) (b := k) c_2 (by omega) (by omega)
      refine lv_iload_n hx hb dX6_kindOf_30 rfl (lv_at hl 1 rfl) ?_
      exact W.iret (v := (oI f)) hx hb hr (fun t ht hW => rd_end (by rw [he]; rw [m_kindF]; simp [c_2]) ht) (fun q h => by cases h) dX6_kindOf_31
    · skip
      have c_2 := na_nle (a := 6) (b := k) c_2 (by omega) (by omega)
      refine lv_iload_n hx hb dX6_kindOf_10 rfl (lv_at hl 2 rfl) ?_
      refine go_R (r := m_letter (nI k)) (va_runS (As := [.int (nI k)]) (rest := []) ⟨hx, hb, hml, hown, hg⟩ (kX6_letterOf l dC dI B cI cC cJ (nI k)) (va_cwS 1 hg (gi_S w_558 w_559 w_8 w_560) rfl rfl rfl (by decide +kernel) ⟨Nat.le_of_ble_eq_true rfl, Nat.le_of_ble_eq_true rfl⟩) (pre_RS (hP.sub [] rfl) hK hT) rfl rfl hl.1 rfl (lv_room (Nat.le_of_ble_eq_true rfl)) dX6_kindOf_11 ⟨Nat.le_of_ble_eq_true rfl, Nat.le_of_ble_eq_true rfl⟩) ?_
      refine lv_iload_n hx hb dX6_kindOf_14 rfl (lv_at hl 0 rfl) ?_
      refine lv_icmp_ne (tgt := 22) hx hb dX6_kindOf_15 (by decide) (fun c_3 => ?_) (fun c_3 => ?_)
      · skip
        refine lv_iload_n hx hb dX6_kindOf_22 rfl (lv_at hl 1 rfl) ?_
        refine lv_istore_n (lv' := [(1, .int (oI f)), (0, .int p0), (2, .int (nI k))]) hx hb dX6_kindOf_23 rfl hl (by decide) rfl (fun ls hl => ?_)
        refine lv_iinc (v := (nI (k + 1))) (lv' := [(2, .int (nI (k + 1))), (1, .int (oI f)), (0, .int p0)]) hx hb dX6_kindOf_24 hl (k := 2) rfl (by rw [← nI_add]; rfl) (by decide) rfl (fun ls hl => ?_)
        refine lv_goto (tgt := 4) hx hb dX6_kindOf_27 (by decide) ?_
        exact ih_1 (k + 1, f) _ ⟨(by first | omega | (dsimp only; omega) | (dsimp only; done)), (by first | omega | (dsimp only; omega) | (dsimp only; done)), (by (try dsimp only); rw [he, m_kindF]; simp [c_2, c_3]), lv_sub hl [2, 1, 0] rfl⟩
      · skip
        refine lv_iload_n hx hb dX6_kindOf_18 rfl (lv_at hl 2 rfl) ?_
        refine lv_goto (tgt := 23) hx hb dX6_kindOf_19 (by decide) ?_
        refine lv_istore_n (lv' := [(1, .int (nI k)), (0, .int p0), (2, .int (nI k))]) hx hb dX6_kindOf_23 rfl hl (by decide) rfl (fun ls hl => ?_)
        refine lv_iinc (v := (nI (k + 1))) (lv' := [(2, .int (nI (k + 1))), (1, .int (nI k)), (0, .int p0)]) hx hb dX6_kindOf_24 hl (k := 2) rfl (by rw [← nI_add]; rfl) (by decide) rfl (fun ls hl => ?_)
        refine lv_goto (tgt := 4) hx hb dX6_kindOf_27 (by decide) ?_
        exact ih_1 (k + 1, (some k)) _ ⟨(by first | omega | (dsimp only; omega) | (dsimp only; done)), (by first | omega | (dsimp only; omega) | (dsimp only; done)), (by (try dsimp only); rw [he, m_kindF]; simp [c_2, c_3]), lv_sub hl [2, 1, 0] rfl⟩
  · exact absurd hI.1 (Nat.not_lt_zero _)
set_option maxHeartbeats 4000000 in
set_option maxRecDepth 100000 in
theorem kX6_thrown (l : Launch) (dC : Nat → ClassId) (dI : Nat → Nat → Nat) (B : Nat) (cI cC cJ : ClassId) (mo : Nat) (mx : Nat) (mt : Nat) (md : Nat) (mp : Nat) (tx : Nat → Int32) (td : Nat → Int32) (dp : Nat → Int32) (pr : Nat → Int32) (th : Int32) (fl : Int32) (fa : Int32) (sn : Nat) (pn : Nat) (kp : Nat) (cm : Nat) (hsn : sn ≤ 500) (hpn : pn ≤ 50) (hkp : kp ≤ 50) (hcm : cm ≤ 50) : Met l yX6_thrown wsX6_thrown ({ frames := 0, cells := 0, slots := 0, locals := 0 }) (q_Rd (dC, dI) vwCl [.ref mo] [(mo, .inr (6, [.int th, .ref mx, .int (nI sn), .int fl, .int fa, .ref mt, .int (nI pn), .int (nI kp), .int (nI cm), .ref md, .ref mp])), (mx, .inl (cI, 500, .inl tx)), (mt, .inl (cI, 900, .inl td)), (md, .inl (cI, 16, .inl dp)), (mp, .inl (cI, 16, .inl pr))] [(cI, .int), (cC, .char), (cJ, .long)] B) (QcRead th) 0 0 (fun _ => False) := by
  refine Met.ofW (cc := cX6_thrown) (maxL := 1) (ret := (some .int)) (by decide) rfl ?_
  intro p e s m args below meth c s₁ Bd hml hv
  obtain ⟨rfl, hP, hK, hT⟩ := hv
  have hx := Bd.exec
  have hb := Bd.bytes
  have hr := Bd.returns
  have hts := atoms_spec (ws := wsX6_thrown) Bd.pre
  have hg : ∀ w ∈ lw_good, w.before _ s = true := fun w h => hts w (List.mem_cons_of_mem _ h)
  have hown : s.vm.findClass RX6 = some m.cls := findClass_of_methodNamed Bd.named
  have hlocks := Bd.notSynchronized
  have hSB : va_S (fun q => B ≤ q) s.heap s.heap [] := va_S.rf
  have hP : va_P (dC, dI) vwCl [(mo, .inr (6, [.int th, .ref mx, .int (nI sn), .int fl, .int fa, .ref mt, .int (nI pn), .int (nI kp), .int (nI cm), .ref md, .ref mp])), (mx, .inl (cI, 500, .inl tx)), (mt, .inl (cI, 900, .inl td)), (md, .inl (cI, 16, .inl dp)), (mp, .inl (cI, 16, .inl pr))] s.heap := hP
  have hl := lv_entry ([.ref mo]) (n := 1) (Nat.le_of_ble_eq_true rfl)
  rw [lg_entry_eq]
  generalize (lg_sl ([.ref mo]) ++ List.replicate (1 - (lg_sl ([.ref mo])).length) Slot.unset).toArray = ls at hl ⊢
  have hl : lv_has ls 1 [(0, .ref mo)] := hl
  refine lv_aload_n hx hb dX6_thrown_0 rfl (lv_at hl 0 rfl) ?_
  refine va_get (D := (dC, dI)) (ci := 6) (v := .int th) (C := RX6) (T := TX6) (N := 11) hx hb hg in_X6 hown hK hP 0 rfl rfl 0 (by decide) (hg _ w_503) (fun _ h9 => h9) rfl dX6_thrown_1 ?_
  exact W.iret (v := th) hx hb hr (fun t ht hW => rd_end rfl ht) (fun q h => by cases h) dX6_thrown_4
set_option maxHeartbeats 4000000 in
set_option maxRecDepth 100000 in
theorem kX6_signAt (l : Launch) (dC : Nat → ClassId) (dI : Nat → Nat → Nat) (B : Nat) (cI cC cJ : ClassId) (mo : Nat) (mx : Nat) (mt : Nat) (md : Nat) (mp : Nat) (tx : Nat → Int32) (td : Nat → Int32) (dp : Nat → Int32) (pr : Nat → Int32) (th : Int32) (fl : Int32) (fa : Int32) (sn : Nat) (pn : Nat) (kp : Nat) (cm : Nat) (q0 : Nat) (hsn : sn ≤ 500) (hpn : pn ≤ 50) (hkp : kp ≤ 50) (hcm : cm ≤ 50) (hq0 : q0 ≤ 600) : Met l yX6_signAt wsX6_signAt ({ frames := 0, cells := 0, slots := 0, locals := 0 }) (q_Rd (dC, dI) vwCl [.ref mo, .int (nI q0)] [(mo, .inr (6, [.int th, .ref mx, .int (nI sn), .int fl, .int fa, .ref mt, .int (nI pn), .int (nI kp), .int (nI cm), .ref md, .ref mp])), (mx, .inl (cI, 500, .inl tx)), (mt, .inl (cI, 900, .inl td)), (md, .inl (cI, 16, .inl dp)), (mp, .inl (cI, 16, .inl pr))] [(cI, .int), (cC, .char), (cJ, .long)] B) (QcRead (m_signAt tx sn q0)) 0 0 (fun _ => False) := by
  refine Met.ofW (cc := cX6_signAt) (maxL := 2) (ret := (some .int)) (by decide) rfl ?_
  intro p e s m args below meth c s₁ Bd hml hv
  obtain ⟨rfl, hP, hK, hT⟩ := hv
  have hx := Bd.exec
  have hb := Bd.bytes
  have hr := Bd.returns
  have hts := atoms_spec (ws := wsX6_signAt) Bd.pre
  have hg : ∀ w ∈ lw_good, w.before _ s = true := fun w h => hts w (List.mem_cons_of_mem _ h)
  have hown : s.vm.findClass RX6 = some m.cls := findClass_of_methodNamed Bd.named
  have hlocks := Bd.notSynchronized
  have hSB : va_S (fun q => B ≤ q) s.heap s.heap [] := va_S.rf
  have hP : va_P (dC, dI) vwCl [(mo, .inr (6, [.int th, .ref mx, .int (nI sn), .int fl, .int fa, .ref mt, .int (nI pn), .int (nI kp), .int (nI cm), .ref md, .ref mp])), (mx, .inl (cI, 500, .inl tx)), (mt, .inl (cI, 900, .inl td)), (md, .inl (cI, 16, .inl dp)), (mp, .inl (cI, 16, .inl pr))] s.heap := hP
  have hl := lv_entry ([.ref mo, .int (nI q0)]) (n := 2) (Nat.le_of_ble_eq_true rfl)
  rw [lg_entry_eq]
  generalize (lg_sl ([.ref mo, .int (nI q0)]) ++ List.replicate (2 - (lg_sl ([.ref mo, .int (nI q0)])).length) Slot.unset).toArray = ls at hl ⊢
  have hl : lv_has ls 2 [(0, .ref mo), (1, .int (nI q0))] := hl
  refine lv_iload_n hx hb dX6_signAt_0 rfl (lv_at hl 1 rfl) ?_
  refine lv_aload_n hx hb dX6_signAt_1 rfl (lv_at hl 0 rfl) ?_
  refine va_get (D := (dC, dI)) (ci := 6) (v := .int (nI sn)) (C := RX6) (T := TX6) (N := 11) hx hb hg in_X6 hown hK hP 0 rfl rfl 2 (by decide) (hg _ w_505) (fun _ h9 => h9) rfl dX6_signAt_2 ?_
  refine lv_icmp_ge (tgt := 17) hx hb dX6_signAt_5 (by decide) (fun c_1 => ?_) (fun c_1 => ?_)
  · skip
    have c_1 := na_le (a := sn) (b := q0) c_1 (by omega) (by omega)
    refine lv_iconst (v := 0) hx hb dX6_signAt_17 (by decide) ?_
    exact W.iret (v := 0) hx hb hr (fun t ht hW => rd_end (by simp [m_signAt, c_1]) ht) (fun q h => by cases h) dX6_signAt_18
  · skip
    have c_1 := na_nle (a := sn) (b := q0) c_1 (by omega) (by omega)
    refine lv_aload_n hx hb dX6_signAt_8 rfl (lv_at hl 0 rfl) ?_
    refine va_get (D := (dC, dI)) (ci := 6) (v := .ref mx) (C := RX6) (T := TX6) (N := 11) hx hb hg in_X6 hown hK hP 0 rfl rfl 1 (by decide) (hg _ w_504) (fun _ h9 => h9) rfl dX6_signAt_9 ?_
    refine lv_iload_n hx hb dX6_signAt_12 rfl (lv_at hl 1 rfl) ?_
    refine x_iald (k := q0) hx hb hK hP 1 0 rfl rfl (by omega) (by decide) dX6_signAt_13 ?_
    refine lv_goto (tgt := 18) hx hb dX6_signAt_14 (by decide) ?_
    exact W.iret (v := tx q0) hx hb hr (fun t ht hW => rd_end (by simp [m_signAt, c_1]) ht) (fun q h => by cases h) dX6_signAt_18
set_option maxHeartbeats 4000000 in
set_option maxRecDepth 100000 in
theorem kX6_numberAt (l : Launch) (dC : Nat → ClassId) (dI : Nat → Nat → Nat) (B : Nat) (cI cC cJ : ClassId) (mo : Nat) (mx : Nat) (mt : Nat) (md : Nat) (mp : Nat) (tx : Nat → Int32) (td : Nat → Int32) (dp : Nat → Int32) (pr : Nat → Int32) (th : Int32) (fl : Int32) (fa : Int32) (sn : Nat) (pn : Nat) (kp : Nat) (cm : Nat) (q0 : Nat) (hsn : sn ≤ 500) (hpn : pn ≤ 50) (hkp : kp ≤ 50) (hcm : cm ≤ 50) (hq0 : q0 ≤ 599) : Met l yX6_numberAt wsX6_numberAt ({ frames := 1, cells := 0, slots := 0, locals := 21 }) (q_Rd (dC, dI) vwCl [.ref mo, .int (nI q0)] [(mo, .inr (6, [.int th, .ref mx, .int (nI sn), .int fl, .int fa, .ref mt, .int (nI pn), .int (nI kp), .int (nI cm), .ref md, .ref mp])), (mx, .inl (cI, 500, .inl tx)), (mt, .inl (cI, 900, .inl td)), (md, .inl (cI, 16, .inl dp)), (mp, .inl (cI, 16, .inl pr))] [(cI, .int), (cC, .char), (cJ, .long)] B) (QcRead (m_number tx sn q0)) 0 0 (fun _ => False) := by
  refine Met.ofW (cc := cX6_numberAt) (maxL := 4) (ret := (some .int)) (by decide) rfl ?_
  intro p e s m args below meth c s₁ Bd hml hv
  obtain ⟨rfl, hP, hK, hT⟩ := hv
  have hx := Bd.exec
  have hb := Bd.bytes
  have hr := Bd.returns
  have hts := atoms_spec (ws := wsX6_numberAt) Bd.pre
  have hg : ∀ w ∈ lw_good, w.before _ s = true := fun w h => hts w (List.mem_cons_of_mem _ h)
  have hown : s.vm.findClass RX6 = some m.cls := findClass_of_methodNamed Bd.named
  have hlocks := Bd.notSynchronized
  have hSB : va_S (fun q => B ≤ q) s.heap s.heap [] := va_S.rf
  have hP : va_P (dC, dI) vwCl [(mo, .inr (6, [.int th, .ref mx, .int (nI sn), .int fl, .int fa, .ref mt, .int (nI pn), .int (nI kp), .int (nI cm), .ref md, .ref mp])), (mx, .inl (cI, 500, .inl tx)), (mt, .inl (cI, 900, .inl td)), (md, .inl (cI, 16, .inl dp)), (mp, .inl (cI, 16, .inl pr))] s.heap := hP
  have hl := lv_entry ([.ref mo, .int (nI q0)]) (n := 4) (Nat.le_of_ble_eq_true rfl)
  rw [lg_entry_eq]
  generalize (lg_sl ([.ref mo, .int (nI q0)]) ++ List.replicate (4 - (lg_sl ([.ref mo, .int (nI q0)])).length) Slot.unset).toArray = ls at hl ⊢
  have hl : lv_has ls 4 [(0, .ref mo), (1, .int (nI q0))] := hl
  refine lv_aload_n hx hb dX6_numberAt_0 rfl (lv_at hl 0 rfl) ?_
  refine lv_iload_n hx hb dX6_numberAt_1 rfl (lv_at hl 1 rfl) ?_
  refine go_R (r := m_signAt tx sn q0) (va_runV (As := [.int (nI q0)]) (rest := []) ⟨hx, hb, hml, hown, hg⟩ (kX6_signAt l dC dI B cI cC cJ mo mx mt md mp tx td dp pr th fl fa sn pn kp cm q0 (by omega) (by omega) (by omega) (by omega) (by omega)) (cwV 1 hg (gi_V w_570 w_571 w_700 w_8 w_572) rfl rfl rfl (by decide +kernel) ⟨Nat.le_of_ble_eq_true rfl, Nat.le_of_ble_eq_true rfl⟩) (pre_RV (va_recv hK hP (ci := 6) (q0 := 0) rfl rfl) (hP.sub [0, 1, 2, 3, 4] rfl) hK hT) rfl rfl hl.1 rfl (lv_room (Nat.le_of_ble_eq_true rfl)) dX6_numberAt_2 ⟨Nat.le_of_ble_eq_true rfl, Nat.le_of_ble_eq_true rfl⟩) ?_
  refine lv_istore_n (lv' := [(2, .int (m_signAt tx sn q0)), (0, .ref mo), (1, .int (nI q0))]) hx hb dX6_numberAt_5 rfl hl (by decide) rfl (fun ls hl => ?_)
  refine lv_aload_n hx hb dX6_numberAt_6 rfl (lv_at hl 1 rfl) ?_
  refine lv_iload_n hx hb dX6_numberAt_7 rfl (lv_at hl 2 rfl) ?_
  refine lv_iconst (v := 1) hx hb dX6_numberAt_8 (by decide) ?_
  refine lv_iadd hx hb dX6_numberAt_9 ?_
  refine top_eq (y := (nI (q0 + 1))) (by exact nI_add _ _) ?_
  refine go_R (r := m_signAt tx sn (q0 + 1)) (va_runV (As := [.int (nI (q0 + 1))]) (rest := []) ⟨hx, hb, hml, hown, hg⟩ (kX6_signAt l dC dI B cI cC cJ mo mx mt md mp tx td dp pr th fl fa sn pn kp cm (q0 + 1) (by omega) (by omega) (by omega) (by omega) (by omega)) (cwV 1 hg (gi_V w_570 w_571 w_700 w_8 w_572) rfl rfl rfl (by decide +kernel) ⟨Nat.le_of_ble_eq_true rfl, Nat.le_of_ble_eq_true rfl⟩) (pre_RV (va_recv hK hP (ci := 6) (q0 := 0) rfl rfl) (hP.sub [0, 1, 2, 3, 4] rfl) hK hT) rfl rfl hl.1 rfl (lv_room (Nat.le_of_ble_eq_true rfl)) dX6_numberAt_10 ⟨Nat.le_of_ble_eq_true rfl, Nat.le_of_ble_eq_true rfl⟩) ?_
  refine lv_istore_n (lv' := [(3, .int (m_signAt tx sn (q0 + 1))), (2, .int (m_signAt tx sn q0)), (0, .ref mo), (1, .int (nI q0))]) hx hb dX6_numberAt_13 rfl hl (by decide) rfl (fun ls hl => ?_)
  refine lv_iload_n hx hb dX6_numberAt_14 rfl (lv_at hl 1 rfl) ?_
  refine go_R (r := (bI (m_isDigit (m_signAt tx sn q0)))) (va_runS (As := [.int (m_signAt tx sn q0)]) (rest := []) ⟨hx, hb, hml, hown, hg⟩ (kX6_isDigit l dC dI B cI cC cJ (m_signAt tx sn q0)) (va_cwS 1 hg (gi_S w_573 w_574 w_8 w_575) rfl rfl rfl (by decide +kernel) ⟨Nat.le_of_ble_eq_true rfl, Nat.le_of_ble_eq_true rfl⟩) (pre_RS (hP.sub [] rfl) hK hT) rfl rfl hl.1 rfl (lv_room (Nat.le_of_ble_eq_true rfl)) dX6_numberAt_15 ⟨Nat.le_of_ble_eq_true rfl, Nat.le_of_ble_eq_true rfl⟩) ?_
  refine lv_if_ne (tgt := 25) hx hb dX6_numberAt_18 (by decide) (fun c_1 => ?_) (fun c_1 => ?_)
  · skip
    have c_1 := bI_ne0 c_1
    refine lv_iload_n hx hb dX6_numberAt_25 rfl (lv_at hl 0 rfl) ?_
    refine go_R (r := (bI (m_isDigit (m_signAt tx sn (q0 + 1))))) (va_runS (As := [.int (m_signAt tx sn (q0 + 1))]) (rest := []) ⟨hx, hb, hml, hown, hg⟩ (kX6_isDigit l dC dI B cI cC cJ (m_signAt tx sn (q0 + 1))) (va_cwS 1 hg (gi_S w_573 w_574 w_8 w_575) rfl rfl rfl (by decide +kernel) ⟨Nat.le_of_ble_eq_true rfl, Nat.le_of_ble_eq_true rfl⟩) (pre_RS (hP.sub [] rfl) hK hT) rfl rfl hl.1 rfl (lv_room (Nat.le_of_ble_eq_true rfl)) dX6_numberAt_26 ⟨Nat.le_of_ble_eq_true rfl, Nat.le_of_ble_eq_true rfl⟩) ?_
    refine lv_if_eq (tgt := 47) hx hb dX6_numberAt_29 (by decide) (fun c_2 => ?_) (fun c_2 => ?_)
    · skip
      have c_2 := bI_eq0 c_2
      refine lv_iload_n hx hb dX6_numberAt_47 rfl (lv_at hl 1 rfl) ?_
      refine lv_bipush (v := 48) hx hb dX6_numberAt_48 (by decide) ?_
      refine lv_isub hx hb dX6_numberAt_50 ?_
      exact W.iret (v := (m_signAt tx sn q0) - 48) hx hb hr (fun t ht hW => rd_end (by simp [m_number, c_1, c_2]) ht) (fun q h => by cases h) dX6_numberAt_51
    · skip
      have c_2 := bI_ne0 c_2
      refine lv_bipush (v := 10) hx hb dX6_numberAt_32 (by decide) ?_
      refine lv_iload_n hx hb dX6_numberAt_34 rfl (lv_at hl 1 rfl) ?_
      refine lv_bipush (v := 48) hx hb dX6_numberAt_35 (by decide) ?_
      refine lv_isub hx hb dX6_numberAt_37 ?_
      refine lv_imul hx hb dX6_numberAt_38 ?_
      refine lv_iload_n hx hb dX6_numberAt_39 rfl (lv_at hl 0 rfl) ?_
      refine lv_iadd hx hb dX6_numberAt_40 ?_
      refine lv_bipush (v := 48) hx hb dX6_numberAt_41 (by decide) ?_
      refine lv_isub hx hb dX6_numberAt_43 ?_
      refine lv_goto (tgt := 51) hx hb dX6_numberAt_44 (by decide) ?_
      exact W.iret (v := ((10 * ((m_signAt tx sn q0) - 48)) + (m_signAt tx sn (q0 + 1))) - 48) hx hb hr (fun t ht hW => rd_end (by simp [m_number, c_1, c_2]) ht) (fun q h => by cases h) dX6_numberAt_51
  · skip
    have c_1 := bI_eq0 c_1
    refine lv_iconst (v := (-1)) hx hb dX6_numberAt_21 (by decide) ?_
    refine lv_goto (tgt := 51) hx hb dX6_numberAt_22 (by decide) ?_
    exact W.iret (v := (-1)) hx hb hr (fun t ht hW => rd_end (by simp [m_number, c_1]) ht) (fun q h => by cases h) dX6_numberAt_51
set_option maxHeartbeats 4000000 in
set_option maxRecDepth 100000 in
theorem kX6_findIn (l : Launch) (dC : Nat → ClassId) (dI : Nat → Nat → Nat) (B : Nat) (cI cC cJ : ClassId) (mo : Nat) (mx : Nat) (mt : Nat) (md : Nat) (mp : Nat) (tx : Nat → Int32) (td : Nat → Int32) (dp : Nat → Int32) (pr : Nat → Int32) (th : Int32) (fl : Int32) (fa : Int32) (sn : Nat) (pn : Nat) (kp : Nat) (cm : Nat) (q0 : Nat) (q1 : Nat) (p2 : Int32) (p3 : Int32) (hsn : sn ≤ 500) (hpn : pn ≤ 50) (hkp : kp ≤ 50) (hcm : cm ≤ 50) (hq1 : q0 + 6 * q1 ≤ 900) : Met l yX6_findIn wsX6_findIn ({ frames := 0, cells := 0, slots := 0, locals := 0 }) (q_Rd (dC, dI) vwCl [.ref mo, .int (nI q0), .int (nI q1), .int p2, .int p3] [(mo, .inr (6, [.int th, .ref mx, .int (nI sn), .int fl, .int fa, .ref mt, .int (nI pn), .int (nI kp), .int (nI cm), .ref md, .ref mp])), (mx, .inl (cI, 500, .inl tx)), (mt, .inl (cI, 900, .inl td)), (md, .inl (cI, 16, .inl dp)), (mp, .inl (cI, 16, .inl pr))] [(cI, .int), (cC, .char), (cJ, .long)] B) (QcRead (oI (m_find td q0 q1 p2 p3 0 none))) 0 0 (fun _ => False) := by
  refine Met.ofW (cc := cX6_findIn) (maxL := 7) (ret := (some .int)) (by decide) rfl ?_
  intro p e s m args below meth c s₁ Bd hml hv
  obtain ⟨rfl, hP, hK, hT⟩ := hv
  have hx := Bd.exec
  have hb := Bd.bytes
  have hr := Bd.returns
  have hts := atoms_spec (ws := wsX6_findIn) Bd.pre
  have hg : ∀ w ∈ lw_good, w.before _ s = true := fun w h => hts w (List.mem_cons_of_mem _ h)
  have hown : s.vm.findClass RX6 = some m.cls := findClass_of_methodNamed Bd.named
  have hlocks := Bd.notSynchronized
  have hSB : va_S (fun q => B ≤ q) s.heap s.heap [] := va_S.rf
  have hP : va_P (dC, dI) vwCl [(mo, .inr (6, [.int th, .ref mx, .int (nI sn), .int fl, .int fa, .ref mt, .int (nI pn), .int (nI kp), .int (nI cm), .ref md, .ref mp])), (mx, .inl (cI, 500, .inl tx)), (mt, .inl (cI, 900, .inl td)), (md, .inl (cI, 16, .inl dp)), (mp, .inl (cI, 16, .inl pr))] s.heap := hP
  have hl := lv_entry ([.ref mo, .int (nI q0), .int (nI q1), .int p2, .int p3]) (n := 7) (Nat.le_of_ble_eq_true rfl)
  rw [lg_entry_eq]
  generalize (lg_sl ([.ref mo, .int (nI q0), .int (nI q1), .int p2, .int p3]) ++ List.replicate (7 - (lg_sl ([.ref mo, .int (nI q0), .int (nI q1), .int p2, .int p3])).length) Slot.unset).toArray = ls at hl ⊢
  have hl : lv_has ls 7 [(0, .ref mo), (1, .int (nI q0)), (2, .int (nI q1)), (3, .int p2), (4, .int p3)] := hl
  refine lv_iconst (v := (-1)) hx hb dX6_findIn_0 (by decide) ?_
  refine lv_istore (lv' := [(5, .int (-1)), (0, .ref mo), (1, .int (nI q0)), (2, .int (nI q1)), (3, .int p2), (4, .int p3)]) hx hb dX6_findIn_1 hl (by decide) rfl (fun ls hl => ?_)
  refine lv_iconst (v := 0) hx hb dX6_findIn_3 (by decide) ?_
  refine lv_istore (lv' := [(6, .int 0), (5, .int (-1)), (0, .ref mo), (1, .int (nI q0)), (2, .int (nI q1)), (3, .int p2), (4, .int p3)]) hx hb dX6_findIn_4 hl (by decide) rfl (fun ls hl => ?_)
  refine loop_R (σ := Nat × (Option Nat)) (fun n x ls => q1 - x.1 < n ∧ x.1 ≤ q1 ∧ m_find td q0 q1 p2 p3 0 none = m_find td q0 q1 p2 p3 x.1 x.2 ∧ lv_has ls 7 [(0, .ref mo), (1, .int (nI q0)), (2, .int (nI q1)), (3, .int p2), (4, .int p3), (5, .int (oI x.2)), (6, .int (nI x.1))]) (fun n x ls ih_1 hI => ?_) (fun x ls hI => ?_) (n := (q1 - 0) + 1) (x := (0, none)) ⟨(Nat.lt_succ_self _), (by first | omega | (dsimp only; omega) | (dsimp only; done)), rfl, lv_sub hl [2, 3, 4, 5, 6, 1, 0] rfl⟩
  · skip
    obtain ⟨k, f⟩ := x
    obtain ⟨hfu, hk0, he, hl⟩ := hI
    have hfu : q1 - k < n + 1 := hfu
    have hk0 : k ≤ q1 := hk0
    have he : m_find td q0 q1 p2 p3 0 none = m_find td q0 q1 p2 p3 k f := he
    have hl : lv_has ls 7 [(0, .ref mo), (1, .int (nI q0)), (2, .int (nI q1)), (3, .int p2), (4, .int p3), (5, .int (oI f)), (6, .int (nI k))] := hl
    refine lv_iload hx hb dX6_findIn_6 (lv_at hl 6 rfl) ?_
    refine lv_iload_n hx hb dX6_findIn_8 rfl (lv_at hl 2 rfl) ?_
    refine lv_icmp_ge (tgt := 62) hx hb dX6_findIn_9 (by decide) (fun c_2 => ?_) (fun c_2 => ?_)
    · skip
      have c_2 := na_le (a := q1) (b := k) c_2 (by omega) (by omega)
      refine lv_iload hx hb dX6_findIn_62 (lv_at hl 5 rfl) ?_
      exact W.iret (v := (oI f)) hx hb hr (fun t ht hW => rd_end (by rw [he]; rw [m_find]; simp [c_2]) ht) (fun q h => by cases h) dX6_findIn_64
    · skip
      have c_2 := na_nle (a := q1) (b := k) c_2 (by omega) (by omega)
      refine lv_aload_n hx hb dX6_findIn_12 rfl (lv_at hl 0 rfl) ?_
      refine va_get (D := (dC, dI)) (ci := 6) (v := .ref mt) (C := RX6) (T := TX6) (N := 11) hx hb hg in_X6 hown hK hP 0 rfl rfl 5 (by decide) (hg _ w_508) (fun _ h9 => h9) rfl dX6_findIn_13 ?_
      refine lv_iload_n hx hb dX6_findIn_16 rfl (lv_at hl 1 rfl) ?_
      refine lv_bipush (v := 6) hx hb dX6_findIn_17 (by decide) ?_
      refine lv_iload hx hb dX6_findIn_19 (lv_at hl 6 rfl) ?_
      refine lv_imul hx hb dX6_findIn_21 ?_
      refine top_eq (y := (nI (6 * k))) (by exact pk_mul _ _) ?_
      refine lv_iadd hx hb dX6_findIn_22 ?_
      refine top_eq (y := (nI (q0 + (6 * k)))) (by exact nI_add _ _) ?_
      refine x_iald (k := q0 + (6 * k)) hx hb hK hP 2 0 rfl rfl (by omega) (by decide) dX6_findIn_23 ?_
      refine lv_iload_n hx hb dX6_findIn_24 rfl (lv_at hl 3 rfl) ?_
      refine lv_icmp_ne (tgt := 52) hx hb dX6_findIn_25 (by decide) (fun c_3 => ?_) (fun c_3 => ?_)
      · skip
        refine lv_iload hx hb dX6_findIn_52 (lv_at hl 5 rfl) ?_
        refine lv_istore (lv' := [(5, .int (oI f)), (0, .ref mo), (1, .int (nI q0)), (2, .int (nI q1)), (3, .int p2), (4, .int p3), (6, .int (nI k))]) hx hb dX6_findIn_54 hl (by decide) rfl (fun ls hl => ?_)
        refine lv_iinc (v := (nI (k + 1))) (lv' := [(6, .int (nI (k + 1))), (5, .int (oI f)), (0, .ref mo), (1, .int (nI q0)), (2, .int (nI q1)), (3, .int p2), (4, .int p3)]) hx hb dX6_findIn_56 hl (k := 6) rfl (by rw [← nI_add]; rfl) (by decide) rfl (fun ls hl => ?_)
        refine lv_goto (tgt := 6) hx hb dX6_findIn_59 (by decide) ?_
        exact ih_1 (k + 1, f) _ ⟨(by first | omega | (dsimp only; omega) | (dsimp only; done)), (by first | omega | (dsimp only; omega) | (dsimp only; done)), (by (try dsimp only); rw [he, m_find]; simp [c_2, c_3]), lv_sub hl [2, 3, 4, 5, 6, 1, 0] rfl⟩
      · skip
        refine lv_aload_n hx hb dX6_findIn_28 rfl (lv_at hl 0 rfl) ?_
        refine va_get (D := (dC, dI)) (ci := 6) (v := .ref mt) (C := RX6) (T := TX6) (N := 11) hx hb hg in_X6 hown hK hP 0 rfl rfl 5 (by decide) (hg _ w_508) (fun _ h9 => h9) rfl dX6_findIn_29 ?_
        refine lv_iload_n hx hb dX6_findIn_32 rfl (lv_at hl 1 rfl) ?_
        refine lv_bipush (v := 6) hx hb dX6_findIn_33 (by decide) ?_
        refine lv_iload hx hb dX6_findIn_35 (lv_at hl 6 rfl) ?_
        refine lv_imul hx hb dX6_findIn_37 ?_
        refine top_eq (y := (nI (6 * k))) (by exact pk_mul _ _) ?_
        refine lv_iadd hx hb dX6_findIn_38 ?_
        refine top_eq (y := (nI (q0 + (6 * k)))) (by exact nI_add _ _) ?_
        refine lv_iconst (v := 1) hx hb dX6_findIn_39 (by decide) ?_
        refine lv_iadd hx hb dX6_findIn_40 ?_
        refine top_eq (y := (nI ((q0 + (6 * k)) + 1))) (by exact nI_add _ _) ?_
        refine x_iald (k := (q0 + (6 * k)) + 1) hx hb hK hP 2 0 rfl rfl (by omega) (by decide) dX6_findIn_41 ?_
        refine lv_iload hx hb dX6_findIn_42 (lv_at hl 4 rfl) ?_
        refine lv_icmp_ne (tgt := 52) hx hb dX6_findIn_44 (by decide) (fun c_4 => ?_) (fun c_4 => ?_)
        · skip
          refine lv_iload hx hb dX6_findIn_52 (lv_at hl 5 rfl) ?_
          refine lv_istore (lv' := [(5, .int (oI f)), (0, .ref mo), (1, .int (nI q0)), (2, .int (nI q1)), (3, .int p2), (4, .int p3), (6, .int (nI k))]) hx hb dX6_findIn_54 hl (by decide) rfl (fun ls hl => ?_)
          refine lv_iinc (v := (nI (k + 1))) (lv' := [(6, .int (nI (k + 1))), (5, .int (oI f)), (0, .ref mo), (1, .int (nI q0)), (2, .int (nI q1)), (3, .int p2), (4, .int p3)]) hx hb dX6_findIn_56 hl (k := 6) rfl (by rw [← nI_add]; rfl) (by decide) rfl (fun ls hl => ?_)
          refine lv_goto (tgt := 6) hx hb dX6_findIn_59 (by decide) ?_
          exact ih_1 (k + 1, f) _ ⟨(by first | omega | (dsimp only; omega) | (dsimp only; done)), (by first | omega | (dsimp only; omega) | (dsimp only; done)), (by (try dsimp only); rw [he, m_find]; simp [c_2, c_3, c_4]), lv_sub hl [2, 3, 4, 5, 6, 1, 0] rfl⟩
        · skip
          refine lv_iload hx hb dX6_findIn_47 (lv_at hl 6 rfl) ?_
          refine lv_goto (tgt := 54) hx hb dX6_findIn_49 (by decide) ?_
          refine lv_istore (lv' := [(5, .int (nI k)), (0, .ref mo), (1, .int (nI q0)), (2, .int (nI q1)), (3, .int p2), (4, .int p3), (6, .int (nI k))]) hx hb dX6_findIn_54 hl (by decide) rfl (fun ls hl => ?_)
          refine lv_iinc (v := (nI (k + 1))) (lv' := [(6, .int (nI (k + 1))), (5, .int (nI k)), (0, .ref mo), (1, .int (nI q0)), (2, .int (nI q1)), (3, .int p2), (4, .int p3)]) hx hb dX6_findIn_56 hl (k := 6) rfl (by rw [← nI_add]; rfl) (by decide) rfl (fun ls hl => ?_)
          refine lv_goto (tgt := 6) hx hb dX6_findIn_59 (by decide) ?_
          exact ih_1 (k + 1, (some k)) _ ⟨(by first | omega | (dsimp only; omega) | (dsimp only; done)), (by first | omega | (dsimp only; omega) | (dsimp only; done)), (by (try dsimp only); rw [he, m_find]; simp [c_2, c_3, c_4]), lv_sub hl [2, 3, 4, 5, 6, 1, 0] rfl⟩
  · exact absurd hI.1 (Nat.not_lt_zero _)
set_option maxHeartbeats 4000000 in
set_option maxRecDepth 100000 in
theorem kX6_wrong (l : Launch) (dC : Nat → ClassId) (dI : Nat → Nat → Nat) (B : Nat) (cI cC cJ : ClassId) (mo : Nat) (mx : Nat) (mt : Nat) (md : Nat) (mp : Nat) (tx : Nat → Int32) (td : Nat → Int32) (dp : Nat → Int32) (pr : Nat → Int32) (th : Int32) (fl : Int32) (fa : Int32) (sn : Nat) (pn : Nat) (kp : Nat) (cm : Nat) (p0 : Int32) (p1 : Int32) (hsn : sn ≤ 500) (hpn : pn ≤ 50) (hkp : kp ≤ 50) (hcm : cm ≤ 50) (hc9 : cm < 50) : Met l yX6_wrong wsX6_wrong ({ frames := 2, cells := 0, slots := 0, locals := 44 }) (q_Rd (dC, dI) vwCl [.ref mo, .int p0, .int p1] [(mo, .inr (6, [.int th, .ref mx, .int (nI sn), .int fl, .int fa, .ref mt, .int (nI pn), .int (nI kp), .int (nI cm), .ref md, .ref mp])), (mx, .inl (cI, 500, .inl tx)), (mt, .inl (cI, 900, .inl td)), (md, .inl (cI, 16, .inl dp)), (mp, .inl (cI, 16, .inl pr))] [(cI, .int), (cC, .char), (cJ, .long)] B) (QcRead (m_wrong td cm p0 p1)) 0 0 (fun _ => False) := by
  refine Met.ofW (cc := cX6_wrong) (maxL := 6) (ret := (some .int)) (by decide) rfl ?_
  intro p e s m args below meth c s₁ Bd hml hv
  obtain ⟨rfl, hP, hK, hT⟩ := hv
  have hx := Bd.exec
  have hb := Bd.bytes
  have hr := Bd.returns
  have hts := atoms_spec (ws := wsX6_wrong) Bd.pre
  have hg : ∀ w ∈ lw_good, w.before _ s = true := fun w h => hts w (List.mem_cons_of_mem _ h)
  have hown : s.vm.findClass RX6 = some m.cls := findClass_of_methodNamed Bd.named
  have hlocks := Bd.notSynchronized
  have hSB : va_S (fun q => B ≤ q) s.heap s.heap [] := va_S.rf
  have hP : va_P (dC, dI) vwCl [(mo, .inr (6, [.int th, .ref mx, .int (nI sn), .int fl, .int fa, .ref mt, .int (nI pn), .int (nI kp), .int (nI cm), .ref md, .ref mp])), (mx, .inl (cI, 500, .inl tx)), (mt, .inl (cI, 900, .inl td)), (md, .inl (cI, 16, .inl dp)), (mp, .inl (cI, 16, .inl pr))] s.heap := hP
  have hl := lv_entry ([.ref mo, .int p0, .int p1]) (n := 6) (Nat.le_of_ble_eq_true rfl)
  rw [lg_entry_eq]
  generalize (lg_sl ([.ref mo, .int p0, .int p1]) ++ List.replicate (6 - (lg_sl ([.ref mo, .int p0, .int p1])).length) Slot.unset).toArray = ls at hl ⊢
  have hl : lv_has ls 6 [(0, .ref mo), (1, .int p0), (2, .int p1)] := hl
  refine lv_sipush (v := 600) hx hb dX6_wrong_0 (by decide) ?_
  refine lv_bipush (v := 6) hx hb dX6_wrong_3 (by decide) ?_
  refine lv_aload_n hx hb dX6_wrong_5 rfl (lv_at hl 0 rfl) ?_
  refine va_get (D := (dC, dI)) (ci := 6) (v := .int (nI cm)) (C := RX6) (T := TX6) (N := 11) hx hb hg in_X6 hown hK hP 0 rfl rfl 8 (by decide) (hg _ w_511) (fun _ h9 => h9) rfl dX6_wrong_6 ?_
  refine lv_imul hx hb dX6_wrong_9 ?_
  refine top_eq (y := (nI (6 * cm))) (by exact pk_mul _ _) ?_
  refine lv_iadd hx hb dX6_wrong_10 ?_
  refine top_eq (y := (nI (600 + (6 * cm)))) (by exact nI_add _ _) ?_
  refine lv_istore_n (lv' := [(3, .int (nI (600 + (6 * cm)))), (0, .ref mo), (1, .int p0), (2, .int p1)]) hx hb dX6_wrong_11 rfl hl (by decide) rfl (fun ls hl => ?_)
  refine lv_aload_n hx hb dX6_wrong_12 rfl (lv_at hl 1 rfl) ?_
  refine va_get (D := (dC, dI)) (ci := 6) (v := .ref mt) (C := RX6) (T := TX6) (N := 11) hx hb hg in_X6 hown hK hP 0 rfl rfl 5 (by decide) (hg _ w_508) (fun _ h9 => h9) rfl dX6_wrong_13 ?_
  refine lv_iload_n hx hb dX6_wrong_16 rfl (lv_at hl 0 rfl) ?_
  refine x_iald (k := 600 + (6 * cm)) hx hb hK hP 2 0 rfl rfl (by omega) (by decide) dX6_wrong_17 ?_
  refine lv_istore (lv' := [(4, .int (td (600 + (6 * cm)))), (3, .int (nI (600 + (6 * cm)))), (0, .ref mo), (1, .int p0), (2, .int p1)]) hx hb dX6_wrong_18 hl (by decide) rfl (fun ls hl => ?_)
  refine lv_iload_n hx hb dX6_wrong_20 rfl (lv_at hl 3 rfl) ?_
  refine lv_if_ge (tgt := 47) hx hb dX6_wrong_21 (by decide) (fun c_1 => ?_) (fun c_1 => ?_)
  · skip
    refine lv_iload_n hx hb dX6_wrong_47 rfl (lv_at hl 3 rfl) ?_
    refine lv_iconst (v := 1) hx hb dX6_wrong_48 (by decide) ?_
    refine lv_icmp_ne (tgt := 79) hx hb dX6_wrong_49 (by decide) (fun c_2 => ?_) (fun c_2 => ?_)
    · skip
      refine lv_iconst (v := 0) hx hb dX6_wrong_79 (by decide) ?_
      refine lv_istore (lv' := [(5, .int 0), (4, .int (td (600 + (6 * cm)))), (3, .int (nI (600 + (6 * cm)))), (0, .ref mo), (1, .int p0), (2, .int p1)]) hx hb dX6_wrong_80 hl (by decide) rfl (fun ls hl => ?_)
      refine lv_iload hx hb dX6_wrong_82 (lv_at hl 1 rfl) ?_
      refine lv_iload_n hx hb dX6_wrong_84 rfl (lv_at hl 4 rfl) ?_
      refine lv_iload_n hx hb dX6_wrong_85 rfl (lv_at hl 5 rfl) ?_
      refine go_R (r := (bI (m_isRange (td (600 + (6 * cm))) p0 p1))) (va_runS (As := [.int (td (600 + (6 * cm))), .int p0, .int p1]) (rest := []) ⟨hx, hb, hml, hown, hg⟩ (kX6_isRange l dC dI B cI cC cJ (td (600 + (6 * cm))) p0 p1) (va_cwS 3 hg (gi_S w_582 w_583 w_8 w_584) rfl rfl rfl (by decide +kernel) ⟨Nat.le_of_ble_eq_true rfl, Nat.le_of_ble_eq_true rfl⟩) (pre_RS (hP.sub [] rfl) hK hT) rfl rfl hl.1 rfl (lv_room (Nat.le_of_ble_eq_true rfl)) dX6_wrong_86 ⟨Nat.le_of_ble_eq_true rfl, Nat.le_of_ble_eq_true rfl⟩) ?_
      refine lv_if_eq (tgt := 97) hx hb dX6_wrong_89 (by decide) (fun c_3 => ?_) (fun c_3 => ?_)
      · skip
        have c_3 := bI_eq0 c_3
        refine lv_iconst (v := 3) hx hb dX6_wrong_97 (by decide) ?_
        refine lv_goto (tgt := 121) hx hb dX6_wrong_98 (by decide) ?_
        exact W.iret (v := 3) hx hb hr (fun t ht hW => rd_end (by first | (simp [m_wrong, m_twice, c_1, c_2, c_3]; done) | simp_all [m_wrong, m_twice]) ht) (fun q h => by cases h) dX6_wrong_121
      · skip
        have c_3 := bI_ne0 c_3
        refine lv_iload hx hb dX6_wrong_92 (lv_at hl 0 rfl) ?_
        refine lv_if_eq (tgt := 101) hx hb dX6_wrong_94 (by decide) (fun c_4 => ?_) (fun c_4 => ?_)
        · skip
          refine lv_iload hx hb dX6_wrong_101 (lv_at hl 1 rfl) ?_
          refine lv_iconst (v := 1) hx hb dX6_wrong_103 (by decide) ?_
          refine lv_icmp_ne (tgt := 120) hx hb dX6_wrong_104 (by decide) (fun c_5 => ?_) (fun c_5 => ?_)
          · skip
            refine lv_iconst (v := 0) hx hb dX6_wrong_120 (by decide) ?_
            exact W.iret (v := 0) hx hb hr (fun t ht hW => rd_end (by first | (simp [m_wrong, m_twice, c_1, c_2, c_3, c_5]; done) | simp_all [m_wrong, m_twice]) ht) (fun q h => by cases h) dX6_wrong_121
          · skip
            refine lv_iload_n hx hb dX6_wrong_107 rfl (lv_at hl 4 rfl) ?_
            refine lv_iconst (v := 1) hx hb dX6_wrong_108 (by decide) ?_
            refine lv_icmp_ne (tgt := 120) hx hb dX6_wrong_109 (by decide) (fun c_6 => ?_) (fun c_6 => ?_)
            · skip
              refine lv_iconst (v := 0) hx hb dX6_wrong_120 (by decide) ?_
              exact W.iret (v := 0) hx hb hr (fun t ht hW => rd_end (by first | (simp [m_wrong, m_twice, c_1, c_2, c_3, c_5]; done) | simp_all [m_wrong, m_twice]) ht) (fun q h => by cases h) dX6_wrong_121
            · skip
              exact absurd c_6 c_2
        · skip
          exact absurd c_4 (by decide)
    · skip
      refine lv_iload hx hb dX6_wrong_52 (lv_at hl 0 rfl) ?_
      refine lv_if_eq (tgt := 63) hx hb dX6_wrong_54 (by decide) (fun c_7 => ?_) (fun c_7 => ?_)
      · skip
        refine lv_aload_n hx hb dX6_wrong_63 rfl (lv_at hl 2 rfl) ?_
        refine va_get (D := (dC, dI)) (ci := 6) (v := .ref mt) (C := RX6) (T := TX6) (N := 11) hx hb hg in_X6 hown hK hP 0 rfl rfl 5 (by decide) (hg _ w_508) (fun _ h9 => h9) rfl dX6_wrong_64 ?_
        refine lv_iload_n hx hb dX6_wrong_67 rfl (lv_at hl 1 rfl) ?_
        refine lv_iconst (v := 2) hx hb dX6_wrong_68 (by decide) ?_
        refine lv_iadd hx hb dX6_wrong_69 ?_
        refine top_eq (y := (nI ((600 + (6 * cm)) + 2))) (by exact nI_add _ _) ?_
        refine x_iald (k := (600 + (6 * cm)) + 2) hx hb hK hP 2 0 rfl rfl (by omega) (by decide) dX6_wrong_70 ?_
        refine lv_iload_n hx hb dX6_wrong_71 rfl (lv_at hl 4 rfl) ?_
        refine lv_icmp_ne (tgt := 79) hx hb dX6_wrong_72 (by decide) (fun c_8 => ?_) (fun c_8 => ?_)
        · skip
          refine lv_iconst (v := 0) hx hb dX6_wrong_79 (by decide) ?_
          refine lv_istore (lv' := [(5, .int 0), (4, .int (td (600 + (6 * cm)))), (3, .int (nI (600 + (6 * cm)))), (0, .ref mo), (1, .int p0), (2, .int p1)]) hx hb dX6_wrong_80 hl (by decide) rfl (fun ls hl => ?_)
          refine lv_iload hx hb dX6_wrong_82 (lv_at hl 1 rfl) ?_
          refine lv_iload_n hx hb dX6_wrong_84 rfl (lv_at hl 4 rfl) ?_
          refine lv_iload_n hx hb dX6_wrong_85 rfl (lv_at hl 5 rfl) ?_
          refine go_R (r := (bI (m_isRange (td (600 + (6 * cm))) p0 p1))) (va_runS (As := [.int (td (600 + (6 * cm))), .int p0, .int p1]) (rest := []) ⟨hx, hb, hml, hown, hg⟩ (kX6_isRange l dC dI B cI cC cJ (td (600 + (6 * cm))) p0 p1) (va_cwS 3 hg (gi_S w_582 w_583 w_8 w_584) rfl rfl rfl (by decide +kernel) ⟨Nat.le_of_ble_eq_true rfl, Nat.le_of_ble_eq_true rfl⟩) (pre_RS (hP.sub [] rfl) hK hT) rfl rfl hl.1 rfl (lv_room (Nat.le_of_ble_eq_true rfl)) dX6_wrong_86 ⟨Nat.le_of_ble_eq_true rfl, Nat.le_of_ble_eq_true rfl⟩) ?_
          refine lv_if_eq (tgt := 97) hx hb dX6_wrong_89 (by decide) (fun c_9 => ?_) (fun c_9 => ?_)
          · skip
            have c_9 := bI_eq0 c_9
            refine lv_iconst (v := 3) hx hb dX6_wrong_97 (by decide) ?_
            refine lv_goto (tgt := 121) hx hb dX6_wrong_98 (by decide) ?_
            exact W.iret (v := 3) hx hb hr (fun t ht hW => rd_end (by first | (simp [m_wrong, m_twice, c_1, c_2, c_7, c_8, c_9]; done) | simp_all [m_wrong, m_twice]) ht) (fun q h => by cases h) dX6_wrong_121
          · skip
            have c_9 := bI_ne0 c_9
            refine lv_iload hx hb dX6_wrong_92 (lv_at hl 0 rfl) ?_
            refine lv_if_eq (tgt := 101) hx hb dX6_wrong_94 (by decide) (fun c_10 => ?_) (fun c_10 => ?_)
            · skip
              refine lv_iload hx hb dX6_wrong_101 (lv_at hl 1 rfl) ?_
              refine lv_iconst (v := 1) hx hb dX6_wrong_103 (by decide) ?_
              refine lv_icmp_ne (tgt := 120) hx hb dX6_wrong_104 (by decide) (fun c_11 => ?_) (fun c_11 => ?_)
              · skip
                refine lv_iconst (v := 0) hx hb dX6_wrong_120 (by decide) ?_
                exact W.iret (v := 0) hx hb hr (fun t ht hW => rd_end (by first | (simp [m_wrong, m_twice, c_1, c_2, c_7, c_8, c_9, c_11]; done) | simp_all [m_wrong, m_twice]) ht) (fun q h => by cases h) dX6_wrong_121
              · skip
                exact absurd (c_7.symm.trans c_11) (by decide)
            · skip
              exact absurd c_10 (by decide)
        · skip
          refine lv_iconst (v := 1) hx hb dX6_wrong_75 (by decide) ?_
          refine lv_goto (tgt := 80) hx hb dX6_wrong_76 (by decide) ?_
          refine lv_istore (lv' := [(5, .int 1), (4, .int (td (600 + (6 * cm)))), (3, .int (nI (600 + (6 * cm)))), (0, .ref mo), (1, .int p0), (2, .int p1)]) hx hb dX6_wrong_80 hl (by decide) rfl (fun ls hl => ?_)
          refine lv_iload hx hb dX6_wrong_82 (lv_at hl 1 rfl) ?_
          refine lv_iload_n hx hb dX6_wrong_84 rfl (lv_at hl 4 rfl) ?_
          refine lv_iload_n hx hb dX6_wrong_85 rfl (lv_at hl 5 rfl) ?_
          refine go_R (r := (bI (m_isRange (td (600 + (6 * cm))) p0 p1))) (va_runS (As := [.int (td (600 + (6 * cm))), .int p0, .int p1]) (rest := []) ⟨hx, hb, hml, hown, hg⟩ (kX6_isRange l dC dI B cI cC cJ (td (600 + (6 * cm))) p0 p1) (va_cwS 3 hg (gi_S w_582 w_583 w_8 w_584) rfl rfl rfl (by decide +kernel) ⟨Nat.le_of_ble_eq_true rfl, Nat.le_of_ble_eq_true rfl⟩) (pre_RS (hP.sub [] rfl) hK hT) rfl rfl hl.1 rfl (lv_room (Nat.le_of_ble_eq_true rfl)) dX6_wrong_86 ⟨Nat.le_of_ble_eq_true rfl, Nat.le_of_ble_eq_true rfl⟩) ?_
          refine lv_if_eq (tgt := 97) hx hb dX6_wrong_89 (by decide) (fun c_12 => ?_) (fun c_12 => ?_)
          · skip
            have c_12 := bI_eq0 c_12
            refine lv_iconst (v := 3) hx hb dX6_wrong_97 (by decide) ?_
            refine lv_goto (tgt := 121) hx hb dX6_wrong_98 (by decide) ?_
            exact W.iret (v := 3) hx hb hr (fun t ht hW => rd_end (by first | (simp [m_wrong, m_twice, c_1, c_2, c_7, c_8, c_12]; done) | simp_all [m_wrong, m_twice]) ht) (fun q h => by cases h) dX6_wrong_121
          · skip
            have c_12 := bI_ne0 c_12
            refine lv_iload hx hb dX6_wrong_92 (lv_at hl 0 rfl) ?_
            refine lv_if_eq (tgt := 101) hx hb dX6_wrong_94 (by decide) (fun c_13 => ?_) (fun c_13 => ?_)
            · skip
              exact absurd c_13 (by decide)
            · skip
              refine lv_iconst (v := 3) hx hb dX6_wrong_97 (by decide) ?_
              refine lv_goto (tgt := 121) hx hb dX6_wrong_98 (by decide) ?_
              exact W.iret (v := 3) hx hb hr (fun t ht hW => rd_end (by first | (simp [m_wrong, m_twice, c_1, c_2, c_7, c_8, c_12]; done) | simp_all [m_wrong, m_twice]) ht) (fun q h => by cases h) dX6_wrong_121
      · skip
        refine lv_iload hx hb dX6_wrong_57 (lv_at hl 0 rfl) ?_
        refine lv_iconst (v := 4) hx hb dX6_wrong_59 (by decide) ?_
        refine lv_icmp_ne (tgt := 79) hx hb dX6_wrong_60 (by decide) (fun c_14 => ?_) (fun c_14 => ?_)
        · skip
          refine lv_iconst (v := 0) hx hb dX6_wrong_79 (by decide) ?_
          refine lv_istore (lv' := [(5, .int 0), (4, .int (td (600 + (6 * cm)))), (3, .int (nI (600 + (6 * cm)))), (0, .ref mo), (1, .int p0), (2, .int p1)]) hx hb dX6_wrong_80 hl (by decide) rfl (fun ls hl => ?_)
          refine lv_iload hx hb dX6_wrong_82 (lv_at hl 1 rfl) ?_
          refine lv_iload_n hx hb dX6_wrong_84 rfl (lv_at hl 4 rfl) ?_
          refine lv_iload_n hx hb dX6_wrong_85 rfl (lv_at hl 5 rfl) ?_
          refine go_R (r := (bI (m_isRange (td (600 + (6 * cm))) p0 p1))) (va_runS (As := [.int (td (600 + (6 * cm))), .int p0, .int p1]) (rest := []) ⟨hx, hb, hml, hown, hg⟩ (kX6_isRange l dC dI B cI cC cJ (td (600 + (6 * cm))) p0 p1) (va_cwS 3 hg (gi_S w_582 w_583 w_8 w_584) rfl rfl rfl (by decide +kernel) ⟨Nat.le_of_ble_eq_true rfl, Nat.le_of_ble_eq_true rfl⟩) (pre_RS (hP.sub [] rfl) hK hT) rfl rfl hl.1 rfl (lv_room (Nat.le_of_ble_eq_true rfl)) dX6_wrong_86 ⟨Nat.le_of_ble_eq_true rfl, Nat.le_of_ble_eq_true rfl⟩) ?_
          refine lv_if_eq (tgt := 97) hx hb dX6_wrong_89 (by decide) (fun c_15 => ?_) (fun c_15 => ?_)
          · skip
            have c_15 := bI_eq0 c_15
            refine lv_iconst (v := 3) hx hb dX6_wrong_97 (by decide) ?_
            refine lv_goto (tgt := 121) hx hb dX6_wrong_98 (by decide) ?_
            exact W.iret (v := 3) hx hb hr (fun t ht hW => rd_end (by first | (simp [m_wrong, m_twice, c_1, c_2, c_7, c_14, c_15]; done) | simp_all [m_wrong, m_twice]) ht) (fun q h => by cases h) dX6_wrong_121
          · skip
            have c_15 := bI_ne0 c_15
            refine lv_iload hx hb dX6_wrong_92 (lv_at hl 0 rfl) ?_
            refine lv_if_eq (tgt := 101) hx hb dX6_wrong_94 (by decide) (fun c_16 => ?_) (fun c_16 => ?_)
            · skip
              refine lv_iload hx hb dX6_wrong_101 (lv_at hl 1 rfl) ?_
              refine lv_iconst (v := 1) hx hb dX6_wrong_103 (by decide) ?_
              refine lv_icmp_ne (tgt := 120) hx hb dX6_wrong_104 (by decide) (fun c_17 => ?_) (fun c_17 => ?_)
              · skip
                refine lv_iconst (v := 0) hx hb dX6_wrong_120 (by decide) ?_
                exact W.iret (v := 0) hx hb hr (fun t ht hW => rd_end (by first | (simp [m_wrong, m_twice, c_1, c_2, c_7, c_14, c_15, c_17]; done) | simp_all [m_wrong, m_twice]) ht) (fun q h => by cases h) dX6_wrong_121
              · skip
                refine lv_iload_n hx hb dX6_wrong_107 rfl (lv_at hl 4 rfl) ?_
                refine lv_iconst (v := 1) hx hb dX6_wrong_108 (by decide) ?_
                refine lv_icmp_ne (tgt := 120) hx hb dX6_wrong_109 (by decide) (fun c_18 => ?_) (fun c_18 => ?_)
                · skip
                  exact absurd c_2 c_18
                · skip
                  refine lv_iload_n hx hb dX6_wrong_112 rfl (lv_at hl 5 rfl) ?_
                  refine lv_if_ne (tgt := 120) hx hb dX6_wrong_113 (by decide) (fun c_19 => ?_) (fun c_19 => ?_)
                  · skip
                    refine lv_iconst (v := 0) hx hb dX6_wrong_120 (by decide) ?_
                    exact W.iret (v := 0) hx hb hr (fun t ht hW => rd_end (by first | (simp [m_wrong, m_twice, c_1, c_2, c_7, c_14, c_15, c_17, c_19]; done) | simp_all [m_wrong, m_twice]) ht) (fun q h => by cases h) dX6_wrong_121
                  · skip
                    refine lv_iconst (v := 4) hx hb dX6_wrong_116 (by decide) ?_
                    refine lv_goto (tgt := 121) hx hb dX6_wrong_117 (by decide) ?_
                    exact W.iret (v := 4) hx hb hr (fun t ht hW => rd_end (by first | (simp [m_wrong, m_twice, c_1, c_2, c_7, c_14, c_15, c_17, c_19]; done) | simp_all [m_wrong, m_twice]) ht) (fun q h => by cases h) dX6_wrong_121
            · skip
              exact absurd c_16 (by decide)
        · skip
          refine lv_aload_n hx hb dX6_wrong_63 rfl (lv_at hl 2 rfl) ?_
          refine va_get (D := (dC, dI)) (ci := 6) (v := .ref mt) (C := RX6) (T := TX6) (N := 11) hx hb hg in_X6 hown hK hP 0 rfl rfl 5 (by decide) (hg _ w_508) (fun _ h9 => h9) rfl dX6_wrong_64 ?_
          refine lv_iload_n hx hb dX6_wrong_67 rfl (lv_at hl 1 rfl) ?_
          refine lv_iconst (v := 2) hx hb dX6_wrong_68 (by decide) ?_
          refine lv_iadd hx hb dX6_wrong_69 ?_
          refine top_eq (y := (nI ((600 + (6 * cm)) + 2))) (by exact nI_add _ _) ?_
          refine x_iald (k := (600 + (6 * cm)) + 2) hx hb hK hP 2 0 rfl rfl (by omega) (by decide) dX6_wrong_70 ?_
          refine lv_iload_n hx hb dX6_wrong_71 rfl (lv_at hl 4 rfl) ?_
          refine lv_icmp_ne (tgt := 79) hx hb dX6_wrong_72 (by decide) (fun c_20 => ?_) (fun c_20 => ?_)
          · skip
            refine lv_iconst (v := 0) hx hb dX6_wrong_79 (by decide) ?_
            refine lv_istore (lv' := [(5, .int 0), (4, .int (td (600 + (6 * cm)))), (3, .int (nI (600 + (6 * cm)))), (0, .ref mo), (1, .int p0), (2, .int p1)]) hx hb dX6_wrong_80 hl (by decide) rfl (fun ls hl => ?_)
            refine lv_iload hx hb dX6_wrong_82 (lv_at hl 1 rfl) ?_
            refine lv_iload_n hx hb dX6_wrong_84 rfl (lv_at hl 4 rfl) ?_
            refine lv_iload_n hx hb dX6_wrong_85 rfl (lv_at hl 5 rfl) ?_
            refine go_R (r := (bI (m_isRange (td (600 + (6 * cm))) p0 p1))) (va_runS (As := [.int (td (600 + (6 * cm))), .int p0, .int p1]) (rest := []) ⟨hx, hb, hml, hown, hg⟩ (kX6_isRange l dC dI B cI cC cJ (td (600 + (6 * cm))) p0 p1) (va_cwS 3 hg (gi_S w_582 w_583 w_8 w_584) rfl rfl rfl (by decide +kernel) ⟨Nat.le_of_ble_eq_true rfl, Nat.le_of_ble_eq_true rfl⟩) (pre_RS (hP.sub [] rfl) hK hT) rfl rfl hl.1 rfl (lv_room (Nat.le_of_ble_eq_true rfl)) dX6_wrong_86 ⟨Nat.le_of_ble_eq_true rfl, Nat.le_of_ble_eq_true rfl⟩) ?_
            refine lv_if_eq (tgt := 97) hx hb dX6_wrong_89 (by decide) (fun c_21 => ?_) (fun c_21 => ?_)
            · skip
              have c_21 := bI_eq0 c_21
              refine lv_iconst (v := 3) hx hb dX6_wrong_97 (by decide) ?_
              refine lv_goto (tgt := 121) hx hb dX6_wrong_98 (by decide) ?_
              exact W.iret (v := 3) hx hb hr (fun t ht hW => rd_end (by first | (simp [m_wrong, m_twice, c_1, c_2, c_7, c_14, c_20, c_21]; done) | simp_all [m_wrong, m_twice]) ht) (fun q h => by cases h) dX6_wrong_121
            · skip
              have c_21 := bI_ne0 c_21
              refine lv_iload hx hb dX6_wrong_92 (lv_at hl 0 rfl) ?_
              refine lv_if_eq (tgt := 101) hx hb dX6_wrong_94 (by decide) (fun c_22 => ?_) (fun c_22 => ?_)
              · skip
                refine lv_iload hx hb dX6_wrong_101 (lv_at hl 1 rfl) ?_
                refine lv_iconst (v := 1) hx hb dX6_wrong_103 (by decide) ?_
                refine lv_icmp_ne (tgt := 120) hx hb dX6_wrong_104 (by decide) (fun c_23 => ?_) (fun c_23 => ?_)
                · skip
                  refine lv_iconst (v := 0) hx hb dX6_wrong_120 (by decide) ?_
                  exact W.iret (v := 0) hx hb hr (fun t ht hW => rd_end (by first | (simp [m_wrong, m_twice, c_1, c_2, c_7, c_14, c_20, c_21, c_23]; done) | simp_all [m_wrong, m_twice]) ht) (fun q h => by cases h) dX6_wrong_121
                · skip
                  exact absurd (c_14.symm.trans c_23) (by decide)
              · skip
                exact absurd c_22 (by decide)
          · skip
            refine lv_iconst (v := 1) hx hb dX6_wrong_75 (by decide) ?_
            refine lv_goto (tgt := 80) hx hb dX6_wrong_76 (by decide) ?_
            refine lv_istore (lv' := [(5, .int 1), (4, .int (td (600 + (6 * cm)))), (3, .int (nI (600 + (6 * cm)))), (0, .ref mo), (1, .int p0), (2, .int p1)]) hx hb dX6_wrong_80 hl (by decide) rfl (fun ls hl => ?_)
            refine lv_iload hx hb dX6_wrong_82 (lv_at hl 1 rfl) ?_
            refine lv_iload_n hx hb dX6_wrong_84 rfl (lv_at hl 4 rfl) ?_
            refine lv_iload_n hx hb dX6_wrong_85 rfl (lv_at hl 5 rfl) ?_
            refine go_R (r := (bI (m_isRange (td (600 + (6 * cm))) p0 p1))) (va_runS (As := [.int (td (600 + (6 * cm))), .int p0, .int p1]) (rest := []) ⟨hx, hb, hml, hown, hg⟩ (kX6_isRange l dC dI B cI cC cJ (td (600 + (6 * cm))) p0 p1) (va_cwS 3 hg (gi_S w_582 w_583 w_8 w_584) rfl rfl rfl (by decide +kernel) ⟨Nat.le_of_ble_eq_true rfl, Nat.le_of_ble_eq_true rfl⟩) (pre_RS (hP.sub [] rfl) hK hT) rfl rfl hl.1 rfl (lv_room (Nat.le_of_ble_eq_true rfl)) dX6_wrong_86 ⟨Nat.le_of_ble_eq_true rfl, Nat.le_of_ble_eq_true rfl⟩) ?_
            refine lv_if_eq (tgt := 97) hx hb dX6_wrong_89 (by decide) (fun c_24 => ?_) (fun c_24 => ?_)
            · skip
              have c_24 := bI_eq0 c_24
              refine lv_iconst (v := 3) hx hb dX6_wrong_97 (by decide) ?_
              refine lv_goto (tgt := 121) hx hb dX6_wrong_98 (by decide) ?_
              exact W.iret (v := 3) hx hb hr (fun t ht hW => rd_end (by first | (simp [m_wrong, m_twice, c_1, c_2, c_7, c_14, c_20, c_24]; done) | simp_all [m_wrong, m_twice]) ht) (fun q h => by cases h) dX6_wrong_121
            · skip
              have c_24 := bI_ne0 c_24
              refine lv_iload hx hb dX6_wrong_92 (lv_at hl 0 rfl) ?_
              refine lv_if_eq (tgt := 101) hx hb dX6_wrong_94 (by decide) (fun c_25 => ?_) (fun c_25 => ?_)
              · skip
                exact absurd c_25 (by decide)
              · skip
                refine lv_iconst (v := 3) hx hb dX6_wrong_97 (by decide) ?_
                refine lv_goto (tgt := 121) hx hb dX6_wrong_98 (by decide) ?_
                exact W.iret (v := 3) hx hb hr (fun t ht hW => rd_end (by first | (simp [m_wrong, m_twice, c_1, c_2, c_7, c_14, c_20, c_24]; done) | simp_all [m_wrong, m_twice]) ht) (fun q h => by cases h) dX6_wrong_121
  · skip
    refine lv_aload_n hx hb dX6_wrong_24 rfl (lv_at hl 2 rfl) ?_
    refine lv_sipush (v := 600) hx hb dX6_wrong_25 (by decide) ?_
    refine lv_aload_n hx hb dX6_wrong_28 rfl (lv_at hl 2 rfl) ?_
    refine va_get (D := (dC, dI)) (ci := 6) (v := .int (nI cm)) (C := RX6) (T := TX6) (N := 11) hx hb hg in_X6 hown hK hP 0 rfl rfl 8 (by decide) (hg _ w_511) (fun _ h9 => h9) rfl dX6_wrong_29 ?_
    refine lv_iload hx hb dX6_wrong_32 (lv_at hl 0 rfl) ?_
    refine lv_iload_n hx hb dX6_wrong_34 rfl (lv_at hl 4 rfl) ?_
    refine go_R (r := (oI (m_find td 600 cm (td (600 + (6 * cm))) p1 0 none))) (va_runV (As := [.int 600, .int (nI cm), .int (td (600 + (6 * cm))), .int p1]) (rest := []) ⟨hx, hb, hml, hown, hg⟩ (kX6_findIn l dC dI B cI cC cJ mo mx mt md mp tx td dp pr th fl fa sn pn kp cm 600 cm (td (600 + (6 * cm))) p1 (by omega) (by omega) (by omega) (by omega) (by omega)) (cwV 4 hg (gi_V w_579 w_580 w_702 w_8 w_581) rfl rfl rfl (by decide +kernel) ⟨Nat.le_of_ble_eq_true rfl, Nat.le_of_ble_eq_true rfl⟩) (pre_RV (va_recv hK hP (ci := 6) (q0 := 0) rfl rfl) (hP.sub [0, 1, 2, 3, 4] rfl) hK hT) rfl rfl hl.1 rfl (lv_room (Nat.le_of_ble_eq_true rfl)) dX6_wrong_35 ⟨Nat.le_of_ble_eq_true rfl, Nat.le_of_ble_eq_true rfl⟩) ?_
    generalize hE_26 : m_find td 600 cm (td (600 + (6 * cm))) p1 0 none = r_26
    have hb_r_26 : ∀ n, r_26 = some n → n < cm := fun n h => m_find_lt (hE_26.trans h)
    refine lv_if_lt (tgt := 45) hx hb dX6_wrong_38 (by decide) (fun c_27 => ?_) (fun c_27 => ?_)
    · skip
      obtain rfl : r_26 = none := oI_neg (c_27) hb_r_26 (by omega)
      refine lv_iconst (v := 0) hx hb dX6_wrong_45 (by decide) ?_
      exact W.iret (v := 0) hx hb hr (fun t ht hW => rd_end (by first | (simp [m_wrong, m_twice, c_1, hE_26]; done) | simp_all [m_wrong, m_twice]) ht) (fun q h => by cases h) dX6_wrong_46
    · skip
      obtain ⟨n_28, rfl⟩ : ∃ n, r_26 = some n := oI_some c_27
      have hn_28 := hb_r_26 _ rfl
      refine lv_iconst (v := 2) hx hb dX6_wrong_41 (by decide) ?_
      refine lv_goto (tgt := 46) hx hb dX6_wrong_42 (by decide) ?_
      exact W.iret (v := 2) hx hb hr (fun t ht hW => rd_end (by first | (simp [m_wrong, m_twice, c_1, hE_26]; done) | simp_all [m_wrong, m_twice]) ht) (fun q h => by cases h) dX6_wrong_46
set_option maxHeartbeats 4000000 in
set_option maxRecDepth 100000 in
theorem kX6_isTouched (l : Launch) (dC : Nat → ClassId) (dI : Nat → Nat → Nat) (B : Nat) (cI cC cJ : ClassId) (mo : Nat) (mx : Nat) (mt : Nat) (md : Nat) (mp : Nat) (tx : Nat → Int32) (td : Nat → Int32) (dp : Nat → Int32) (pr : Nat → Int32) (th : Int32) (fl : Int32) (fa : Int32) (sn : Nat) (pn : Nat) (kp : Nat) (cm : Nat) (p0 : Int32) (p1 : Int32) (hsn : sn ≤ 500) (hpn : pn ≤ 50) (hkp : kp ≤ 50) (hcm : cm ≤ 50) : Met l yX6_isTouched wsX6_isTouched ({ frames := 0, cells := 0, slots := 0, locals := 0 }) (q_Rd (dC, dI) vwCl [.ref mo, .int p0, .int p1] [(mo, .inr (6, [.int th, .ref mx, .int (nI sn), .int fl, .int fa, .ref mt, .int (nI pn), .int (nI kp), .int (nI cm), .ref md, .ref mp])), (mx, .inl (cI, 500, .inl tx)), (mt, .inl (cI, 900, .inl td)), (md, .inl (cI, 16, .inl dp)), (mp, .inl (cI, 16, .inl pr))] [(cI, .int), (cC, .char), (cJ, .long)] B) (QcRead (bI (m_touch td pn p0 p1 0 false))) 0 0 (fun _ => False) := by
  refine Met.ofW (cc := cX6_isTouched) (maxL := 5) (ret := (some .boolean)) (by decide) rfl ?_
  intro p e s m args below meth c s₁ Bd hml hv
  obtain ⟨rfl, hP, hK, hT⟩ := hv
  have hx := Bd.exec
  have hb := Bd.bytes
  have hr := Bd.returns
  have hts := atoms_spec (ws := wsX6_isTouched) Bd.pre
  have hg : ∀ w ∈ lw_good, w.before _ s = true := fun w h => hts w (List.mem_cons_of_mem _ h)
  have hown : s.vm.findClass RX6 = some m.cls := findClass_of_methodNamed Bd.named
  have hlocks := Bd.notSynchronized
  have hSB : va_S (fun q => B ≤ q) s.heap s.heap [] := va_S.rf
  have hP : va_P (dC, dI) vwCl [(mo, .inr (6, [.int th, .ref mx, .int (nI sn), .int fl, .int fa, .ref mt, .int (nI pn), .int (nI kp), .int (nI cm), .ref md, .ref mp])), (mx, .inl (cI, 500, .inl tx)), (mt, .inl (cI, 900, .inl td)), (md, .inl (cI, 16, .inl dp)), (mp, .inl (cI, 16, .inl pr))] s.heap := hP
  have hl := lv_entry ([.ref mo, .int p0, .int p1]) (n := 5) (Nat.le_of_ble_eq_true rfl)
  rw [lg_entry_eq]
  generalize (lg_sl ([.ref mo, .int p0, .int p1]) ++ List.replicate (5 - (lg_sl ([.ref mo, .int p0, .int p1])).length) Slot.unset).toArray = ls at hl ⊢
  have hl : lv_has ls 5 [(0, .ref mo), (1, .int p0), (2, .int p1)] := hl
  refine lv_iconst (v := 0) hx hb dX6_isTouched_0 (by decide) ?_
  refine lv_istore_n (lv' := [(3, .int 0), (0, .ref mo), (1, .int p0), (2, .int p1)]) hx hb dX6_isTouched_1 rfl hl (by decide) rfl (fun ls hl => ?_)
  refine lv_iconst (v := 0) hx hb dX6_isTouched_2 (by decide) ?_
  refine lv_istore (lv' := [(4, .int 0), (3, .int 0), (0, .ref mo), (1, .int p0), (2, .int p1)]) hx hb dX6_isTouched_3 hl (by decide) rfl (fun ls hl => ?_)
  refine loop_R (σ := Nat × Bool) (fun n x ls => 6 * pn - x.1 < n ∧ x.1 ≤ 6 * pn ∧ x.1 % 6 = 0 ∧ m_touch td pn p0 p1 0 false = m_touch td pn p0 p1 x.1 x.2 ∧ lv_has ls 5 [(0, .ref mo), (1, .int p0), (2, .int p1), (3, .int (bI x.2)), (4, .int (nI x.1))]) (fun n x ls ih_1 hI => ?_) (fun x ls hI => ?_) (n := (6 * pn - 0) + 1) (x := (0, false)) ⟨(Nat.lt_succ_self _), (by first | omega | (dsimp only; omega) | (dsimp only; done)), (by first | omega | (dsimp only; omega) | (dsimp only; done)), rfl, lv_sub hl [2, 3, 4, 1, 0] rfl⟩
  · skip
    obtain ⟨i, is9⟩ := x
    obtain ⟨hfu, hi0, hi6, he, hl⟩ := hI
    have hfu : 6 * pn - i < n + 1 := hfu
    have hi0 : i ≤ 6 * pn := hi0
    have hi6 : i % 6 = 0 := hi6
    have he : m_touch td pn p0 p1 0 false = m_touch td pn p0 p1 i is9 := he
    have hl : lv_has ls 5 [(0, .ref mo), (1, .int p0), (2, .int p1), (3, .int (bI is9)), (4, .int (nI i))] := hl
    refine lv_iload hx hb dX6_isTouched_5 (lv_at hl 4 rfl) ?_
    refine lv_bipush (v := 6) hx hb dX6_isTouched_7 (by decide) ?_
    refine lv_aload_n hx hb dX6_isTouched_9 rfl (lv_at hl 0 rfl) ?_
    refine va_get (D := (dC, dI)) (ci := 6) (v := .int (nI pn)) (C := RX6) (T := TX6) (N := 11) hx hb hg in_X6 hown hK hP 0 rfl rfl 6 (by decide) (hg _ w_509) (fun _ h9 => h9) rfl dX6_isTouched_10 ?_
    refine lv_imul hx hb dX6_isTouched_13 ?_
    refine top_eq (y := (nI (6 * pn))) (by exact pk_mul _ _) ?_
    refine lv_icmp_ge (tgt := 70) hx hb dX6_isTouched_14 (by decide) (fun c_2 => ?_) (fun c_2 => ?_)
    · skip
      have c_2 := na_le (a := 6 * pn) (b := i) c_2 (by omega) (by omega)
      refine lv_iload_n hx hb dX6_isTouched_70 rfl (lv_at hl 3 rfl) ?_
      exact W.zret (v := (bI is9)) (ty := .boolean) hx hb hr (bI_nar _) (fun t ht hW => rd_end (by rw [he]; rw [m_touch]; simp [c_2]) ht) (fun q h => by cases h) dX6_isTouched_71
    · skip
      have c_2 := na_nle (a := 6 * pn) (b := i) c_2 (by omega) (by omega)
      refine lv_iload_n hx hb dX6_isTouched_17 rfl (lv_at hl 3 rfl) ?_
      refine lv_if_ne (tgt := 58) hx hb dX6_isTouched_18 (by decide) (fun c_3 => ?_) (fun c_3 => ?_)
      · skip
        have c_3 := bI_ne0 c_3
        refine lv_iconst (v := 1) hx hb dX6_isTouched_58 (by decide) ?_
        refine lv_goto (tgt := 63) hx hb dX6_isTouched_59 (by decide) ?_
        refine lv_istore_n (lv' := [(3, .int 1), (0, .ref mo), (1, .int p0), (2, .int p1), (4, .int (nI i))]) hx hb dX6_isTouched_63 rfl hl (by decide) rfl (fun ls hl => ?_)
        refine lv_iinc (v := (nI (i + 6))) (lv' := [(4, .int (nI (i + 6))), (3, .int 1), (0, .ref mo), (1, .int p0), (2, .int p1)]) hx hb dX6_isTouched_64 hl (k := 4) rfl (by rw [← nI_add]; rfl) (by decide) rfl (fun ls hl => ?_)
        refine lv_goto (tgt := 5) hx hb dX6_isTouched_67 (by decide) ?_
        exact ih_1 (i + 6, true) _ ⟨(by first | omega | (dsimp only; omega) | (dsimp only; done)), (by first | omega | (dsimp only; omega) | (dsimp only; done)), (by first | omega | (dsimp only; omega) | (dsimp only; done)), (by (try dsimp only); rw [he, m_touch]; simp [c_2, c_3]), lv_sub hl [2, 3, 4, 1, 0] rfl⟩
      · skip
        have c_3 := bI_eq0 c_3
        refine lv_aload_n hx hb dX6_isTouched_21 rfl (lv_at hl 0 rfl) ?_
        refine va_get (D := (dC, dI)) (ci := 6) (v := .ref mt) (C := RX6) (T := TX6) (N := 11) hx hb hg in_X6 hown hK hP 0 rfl rfl 5 (by decide) (hg _ w_508) (fun _ h9 => h9) rfl dX6_isTouched_22 ?_
        refine lv_iload hx hb dX6_isTouched_25 (lv_at hl 4 rfl) ?_
        refine x_iald (k := i) hx hb hK hP 2 0 rfl rfl (by omega) (by decide) dX6_isTouched_27 ?_
        refine lv_iload_n hx hb dX6_isTouched_28 rfl (lv_at hl 1 rfl) ?_
        refine lv_icmp_ne (tgt := 62) hx hb dX6_isTouched_29 (by decide) (fun c_4 => ?_) (fun c_4 => ?_)
        · skip
          refine lv_iconst (v := 0) hx hb dX6_isTouched_62 (by decide) ?_
          refine lv_istore_n (lv' := [(3, .int 0), (0, .ref mo), (1, .int p0), (2, .int p1), (4, .int (nI i))]) hx hb dX6_isTouched_63 rfl hl (by decide) rfl (fun ls hl => ?_)
          refine lv_iinc (v := (nI (i + 6))) (lv' := [(4, .int (nI (i + 6))), (3, .int 0), (0, .ref mo), (1, .int p0), (2, .int p1)]) hx hb dX6_isTouched_64 hl (k := 4) rfl (by rw [← nI_add]; rfl) (by decide) rfl (fun ls hl => ?_)
          refine lv_goto (tgt := 5) hx hb dX6_isTouched_67 (by decide) ?_
          exact ih_1 (i + 6, false) _ ⟨(by first | omega | (dsimp only; omega) | (dsimp only; done)), (by first | omega | (dsimp only; omega) | (dsimp only; done)), (by first | omega | (dsimp only; omega) | (dsimp only; done)), (by (try dsimp only); rw [he, m_touch]; simp [c_2, c_3, c_4]), lv_sub hl [2, 3, 4, 1, 0] rfl⟩
        · skip
          refine lv_aload_n hx hb dX6_isTouched_32 rfl (lv_at hl 0 rfl) ?_
          refine va_get (D := (dC, dI)) (ci := 6) (v := .ref mt) (C := RX6) (T := TX6) (N := 11) hx hb hg in_X6 hown hK hP 0 rfl rfl 5 (by decide) (hg _ w_508) (fun _ h9 => h9) rfl dX6_isTouched_33 ?_
          refine lv_iload hx hb dX6_isTouched_36 (lv_at hl 4 rfl) ?_
          refine lv_iconst (v := 2) hx hb dX6_isTouched_38 (by decide) ?_
          refine lv_iadd hx hb dX6_isTouched_39 ?_
          refine top_eq (y := (nI (i + 2))) (by exact nI_add _ _) ?_
          refine x_iald (k := i + 2) hx hb hK hP 2 0 rfl rfl (by omega) (by decide) dX6_isTouched_40 ?_
          refine lv_iload_n hx hb dX6_isTouched_41 rfl (lv_at hl 2 rfl) ?_
          refine lv_icmp_eq (tgt := 58) hx hb dX6_isTouched_42 (by decide) (fun c_5 => ?_) (fun c_5 => ?_)
          · skip
            refine lv_iconst (v := 1) hx hb dX6_isTouched_58 (by decide) ?_
            refine lv_goto (tgt := 63) hx hb dX6_isTouched_59 (by decide) ?_
            refine lv_istore_n (lv' := [(3, .int 1), (0, .ref mo), (1, .int p0), (2, .int p1), (4, .int (nI i))]) hx hb dX6_isTouched_63 rfl hl (by decide) rfl (fun ls hl => ?_)
            refine lv_iinc (v := (nI (i + 6))) (lv' := [(4, .int (nI (i + 6))), (3, .int 1), (0, .ref mo), (1, .int p0), (2, .int p1)]) hx hb dX6_isTouched_64 hl (k := 4) rfl (by rw [← nI_add]; rfl) (by decide) rfl (fun ls hl => ?_)
            refine lv_goto (tgt := 5) hx hb dX6_isTouched_67 (by decide) ?_
            exact ih_1 (i + 6, true) _ ⟨(by first | omega | (dsimp only; omega) | (dsimp only; done)), (by first | omega | (dsimp only; omega) | (dsimp only; done)), (by first | omega | (dsimp only; omega) | (dsimp only; done)), (by (try dsimp only); rw [he, m_touch]; simp [c_2, c_3, c_4, c_5]), lv_sub hl [2, 3, 4, 1, 0] rfl⟩
          · skip
            refine lv_aload_n hx hb dX6_isTouched_45 rfl (lv_at hl 0 rfl) ?_
            refine va_get (D := (dC, dI)) (ci := 6) (v := .ref mt) (C := RX6) (T := TX6) (N := 11) hx hb hg in_X6 hown hK hP 0 rfl rfl 5 (by decide) (hg _ w_508) (fun _ h9 => h9) rfl dX6_isTouched_46 ?_
            refine lv_iload hx hb dX6_isTouched_49 (lv_at hl 4 rfl) ?_
            refine lv_iconst (v := 3) hx hb dX6_isTouched_51 (by decide) ?_
            refine lv_iadd hx hb dX6_isTouched_52 ?_
            refine top_eq (y := (nI (i + 3))) (by exact nI_add _ _) ?_
            refine x_iald (k := i + 3) hx hb hK hP 2 0 rfl rfl (by omega) (by decide) dX6_isTouched_53 ?_
            refine lv_iload_n hx hb dX6_isTouched_54 rfl (lv_at hl 2 rfl) ?_
            refine lv_icmp_ne (tgt := 62) hx hb dX6_isTouched_55 (by decide) (fun c_6 => ?_) (fun c_6 => ?_)
            · skip
              refine lv_iconst (v := 0) hx hb dX6_isTouched_62 (by decide) ?_
              refine lv_istore_n (lv' := [(3, .int 0), (0, .ref mo), (1, .int p0), (2, .int p1), (4, .int (nI i))]) hx hb dX6_isTouched_63 rfl hl (by decide) rfl (fun ls hl => ?_)
              refine lv_iinc (v := (nI (i + 6))) (lv' := [(4, .int (nI (i + 6))), (3, .int 0), (0, .ref mo), (1, .int p0), (2, .int p1)]) hx hb dX6_isTouched_64 hl (k := 4) rfl (by rw [← nI_add]; rfl) (by decide) rfl (fun ls hl => ?_)
              refine lv_goto (tgt := 5) hx hb dX6_isTouched_67 (by decide) ?_
              exact ih_1 (i + 6, false) _ ⟨(by first | omega | (dsimp only; omega) | (dsimp only; done)), (by first | omega | (dsimp only; omega) | (dsimp only; done)), (by first | omega | (dsimp only; omega) | (dsimp only; done)), (by (try dsimp only); rw [he, m_touch]; simp [c_2, c_3, c_4, c_5, c_6]), lv_sub hl [2, 3, 4, 1, 0] rfl⟩
            · skip
              refine lv_iconst (v := 1) hx hb dX6_isTouched_58 (by decide) ?_
              refine lv_goto (tgt := 63) hx hb dX6_isTouched_59 (by decide) ?_
              refine lv_istore_n (lv' := [(3, .int 1), (0, .ref mo), (1, .int p0), (2, .int p1), (4, .int (nI i))]) hx hb dX6_isTouched_63 rfl hl (by decide) rfl (fun ls hl => ?_)
              refine lv_iinc (v := (nI (i + 6))) (lv' := [(4, .int (nI (i + 6))), (3, .int 1), (0, .ref mo), (1, .int p0), (2, .int p1)]) hx hb dX6_isTouched_64 hl (k := 4) rfl (by rw [← nI_add]; rfl) (by decide) rfl (fun ls hl => ?_)
              refine lv_goto (tgt := 5) hx hb dX6_isTouched_67 (by decide) ?_
              exact ih_1 (i + 6, true) _ ⟨(by first | omega | (dsimp only; omega) | (dsimp only; done)), (by first | omega | (dsimp only; omega) | (dsimp only; done)), (by first | omega | (dsimp only; omega) | (dsimp only; done)), (by (try dsimp only); rw [he, m_touch]; simp [c_2, c_3, c_4, c_5, c_6]), lv_sub hl [2, 3, 4, 1, 0] rfl⟩
  · exact absurd hI.1 (Nat.not_lt_zero _)
set_option maxHeartbeats 4000000 in
set_option maxRecDepth 100000 in
theorem kX6_isBad (l : Launch) (dC : Nat → ClassId) (dI : Nat → Nat → Nat) (B : Nat) (cI cC cJ : ClassId) (mo : Nat) (mx : Nat) (mt : Nat) (md : Nat) (mp : Nat) (tx : Nat → Int32) (td : Nat → Int32) (dp : Nat → Int32) (pr : Nat → Int32) (th : Int32) (fl : Int32) (fa : Int32) (sn : Nat) (pn : Nat) (kp : Nat) (cm : Nat) (q0 : Nat) (wh : Nat) (hsn : sn ≤ 500) (hpn : pn ≤ 50) (hkp : kp ≤ 50) (hcm : cm ≤ 50) (hq0 : q0 < pn) (hwh : wh < 4) (hok : m_ok td pn) : Met l yX6_isBad wsX6_isBad ({ frames := 1, cells := 0, slots := 0, locals := 24 }) (q_Rd (dC, dI) vwCl [.ref mo, .int (nI q0), .int (nI wh)] [(mo, .inr (6, [.int th, .ref mx, .int (nI sn), .int fl, .int fa, .ref mt, .int (nI pn), .int (nI kp), .int (nI cm), .ref md, .ref mp])), (mx, .inl (cI, 500, .inl tx)), (mt, .inl (cI, 900, .inl td)), (md, .inl (cI, 16, .inl dp)), (mp, .inl (cI, 16, .inl pr))] [(cI, .int), (cC, .char), (cJ, .long)] B) (QcRead (bI (m_isBad td pn dp q0 wh))) 0 0 (fun _ => False) := by
  refine Met.ofW (cc := cX6_isBad) (maxL := 5) (ret := (some .boolean)) (by decide) rfl ?_
  intro p e s m args below meth c s₁ Bd hml hv
  obtain ⟨rfl, hP, hK, hT⟩ := hv
  have hx := Bd.exec
  have hb := Bd.bytes
  have hr := Bd.returns
  have hts := atoms_spec (ws := wsX6_isBad) Bd.pre
  have hg : ∀ w ∈ lw_good, w.before _ s = true := fun w h => hts w (List.mem_cons_of_mem _ h)
  have hown : s.vm.findClass RX6 = some m.cls := findClass_of_methodNamed Bd.named
  have hlocks := Bd.notSynchronized
  have hSB : va_S (fun q => B ≤ q) s.heap s.heap [] := va_S.rf
  have hP : va_P (dC, dI) vwCl [(mo, .inr (6, [.int th, .ref mx, .int (nI sn), .int fl, .int fa, .ref mt, .int (nI pn), .int (nI kp), .int (nI cm), .ref md, .ref mp])), (mx, .inl (cI, 500, .inl tx)), (mt, .inl (cI, 900, .inl td)), (md, .inl (cI, 16, .inl dp)), (mp, .inl (cI, 16, .inl pr))] s.heap := hP
  have hl := lv_entry ([.ref mo, .int (nI q0), .int (nI wh)]) (n := 5) (Nat.le_of_ble_eq_true rfl)
  rw [lg_entry_eq]
  generalize (lg_sl ([.ref mo, .int (nI q0), .int (nI wh)]) ++ List.replicate (5 - (lg_sl ([.ref mo, .int (nI q0), .int (nI wh)])).length) Slot.unset).toArray = ls at hl ⊢
  have hl : lv_has ls 5 [(0, .ref mo), (1, .int (nI q0)), (2, .int (nI wh))] := hl
  refine lv_aload_n hx hb dX6_isBad_0 rfl (lv_at hl 0 rfl) ?_
  refine va_get (D := (dC, dI)) (ci := 6) (v := .ref mt) (C := RX6) (T := TX6) (N := 11) hx hb hg in_X6 hown hK hP 0 rfl rfl 5 (by decide) (hg _ w_508) (fun _ h9 => h9) rfl dX6_isBad_1 ?_
  refine lv_bipush (v := 6) hx hb dX6_isBad_4 (by decide) ?_
  refine lv_iload_n hx hb dX6_isBad_6 rfl (lv_at hl 1 rfl) ?_
  refine lv_imul hx hb dX6_isBad_7 ?_
  refine top_eq (y := (nI (6 * q0))) (by exact pk_mul _ _) ?_
  refine x_iald (k := 6 * q0) hx hb hK hP 2 0 rfl rfl (by omega) (by decide) dX6_isBad_8 ?_
  refine lv_istore_n (lv' := [(3, .int (td (6 * q0))), (0, .ref mo), (1, .int (nI q0)), (2, .int (nI wh))]) hx hb dX6_isBad_9 rfl hl (by decide) rfl (fun ls hl => ?_)
  refine lv_aload_n hx hb dX6_isBad_10 rfl (lv_at hl 1 rfl) ?_
  refine va_get (D := (dC, dI)) (ci := 6) (v := .ref mt) (C := RX6) (T := TX6) (N := 11) hx hb hg in_X6 hown hK hP 0 rfl rfl 5 (by decide) (hg _ w_508) (fun _ h9 => h9) rfl dX6_isBad_11 ?_
  refine lv_bipush (v := 6) hx hb dX6_isBad_14 (by decide) ?_
  refine lv_iload_n hx hb dX6_isBad_16 rfl (lv_at hl 2 rfl) ?_
  refine lv_imul hx hb dX6_isBad_17 ?_
  refine top_eq (y := (nI (6 * q0))) (by exact pk_mul _ _) ?_
  refine lv_iconst (v := 2) hx hb dX6_isBad_18 (by decide) ?_
  refine lv_iadd hx hb dX6_isBad_19 ?_
  refine top_eq (y := (nI ((6 * q0) + 2))) (by exact nI_add _ _) ?_
  refine x_iald (k := (6 * q0) + 2) hx hb hK hP 2 0 rfl rfl (by omega) (by decide) dX6_isBad_20 ?_
  refine lv_istore (lv' := [(4, .int (td ((6 * q0) + 2))), (3, .int (td (6 * q0))), (0, .ref mo), (1, .int (nI q0)), (2, .int (nI wh))]) hx hb dX6_isBad_21 hl (by decide) rfl (fun ls hl => ?_)
  refine lv_iload_n hx hb dX6_isBad_23 rfl (lv_at hl 4 rfl) ?_
  rcases (show wh = 0 ∨ wh = 1 ∨ wh = 2 ∨ wh = 3 by omega) with rfl | rfl | rfl | rfl
  · skip
    refine lv_tableIn (tgt := 52) hx hb dX6_isBad_24 (by decide) (by decide) rfl (by decide) ?_
    refine lv_iload_n hx hb dX6_isBad_52 rfl (lv_at hl 1 rfl) ?_
    refine lv_iconst (v := 1) hx hb dX6_isBad_53 (by decide) ?_
    refine lv_icmp_eq (tgt := 62) hx hb dX6_isBad_54 (by decide) (fun c_1 => ?_) (fun c_1 => ?_)
    · skip
      refine lv_aload_n hx hb dX6_isBad_62 rfl (lv_at hl 2 rfl) ?_
      refine lv_iconst (v := 0) hx hb dX6_isBad_63 (by decide) ?_
      refine lv_iload hx hb dX6_isBad_64 (lv_at hl 0 rfl) ?_
      refine go_R (r := (bI (m_touch td pn 0 (td ((6 * q0) + 2)) 0 false))) (va_runV (As := [.int 0, .int (td ((6 * q0) + 2))]) (rest := []) ⟨hx, hb, hml, hown, hg⟩ (kX6_isTouched l dC dI B cI cC cJ mo mx mt md mp tx td dp pr th fl fa sn pn kp cm 0 (td ((6 * q0) + 2)) (by omega) (by omega) (by omega) (by omega)) (cwV 2 hg (gi_V w_633 w_634 w_708 w_8 w_635) rfl rfl rfl (by decide +kernel) ⟨Nat.le_of_ble_eq_true rfl, Nat.le_of_ble_eq_true rfl⟩) (pre_RV (va_recv hK hP (ci := 6) (q0 := 0) rfl rfl) (hP.sub [0, 1, 2, 3, 4] rfl) hK hT) rfl rfl hl.1 rfl (lv_room (Nat.le_of_ble_eq_true rfl)) dX6_isBad_66 ⟨Nat.le_of_ble_eq_true rfl, Nat.le_of_ble_eq_true rfl⟩) ?_
      refine lv_if_ne (tgt := 76) hx hb dX6_isBad_69 (by decide) (fun c_2 => ?_) (fun c_2 => ?_)
      · skip
        have c_2 := bI_ne0 c_2
        refine lv_iconst (v := 0) hx hb dX6_isBad_76 (by decide) ?_
        exact W.zret (v := 0) (ty := .boolean) hx hb hr rfl (fun t ht hW => rd_end (bI_0 (by simp [m_isBad, m_pt, c_1, c_2])).symm ht) (fun q h => by cases h) dX6_isBad_77
      · skip
        have c_2 := bI_eq0 c_2
        refine lv_iconst (v := 1) hx hb dX6_isBad_72 (by decide) ?_
        refine lv_goto (tgt := 77) hx hb dX6_isBad_73 (by decide) ?_
        exact W.zret (v := 1) (ty := .boolean) hx hb hr rfl (fun t ht hW => rd_end (bI_1 (by simp [m_isBad, m_pt, c_1, c_2])).symm ht) (fun q h => by cases h) dX6_isBad_77
    · skip
      refine lv_iload_n hx hb dX6_isBad_57 rfl (lv_at hl 1 rfl) ?_
      refine lv_iconst (v := 2) hx hb dX6_isBad_58 (by decide) ?_
      refine lv_icmp_ne (tgt := 76) hx hb dX6_isBad_59 (by decide) (fun c_3 => ?_) (fun c_3 => ?_)
      · skip
        refine lv_iconst (v := 0) hx hb dX6_isBad_76 (by decide) ?_
        exact W.zret (v := 0) (ty := .boolean) hx hb hr rfl (fun t ht hW => rd_end (bI_0 (by simp [m_isBad, m_pt, c_1, c_3])).symm ht) (fun q h => by cases h) dX6_isBad_77
      · skip
        refine lv_aload_n hx hb dX6_isBad_62 rfl (lv_at hl 2 rfl) ?_
        refine lv_iconst (v := 0) hx hb dX6_isBad_63 (by decide) ?_
        refine lv_iload hx hb dX6_isBad_64 (lv_at hl 0 rfl) ?_
        refine go_R (r := (bI (m_touch td pn 0 (td ((6 * q0) + 2)) 0 false))) (va_runV (As := [.int 0, .int (td ((6 * q0) + 2))]) (rest := []) ⟨hx, hb, hml, hown, hg⟩ (kX6_isTouched l dC dI B cI cC cJ mo mx mt md mp tx td dp pr th fl fa sn pn kp cm 0 (td ((6 * q0) + 2)) (by omega) (by omega) (by omega) (by omega)) (cwV 2 hg (gi_V w_633 w_634 w_708 w_8 w_635) rfl rfl rfl (by decide +kernel) ⟨Nat.le_of_ble_eq_true rfl, Nat.le_of_ble_eq_true rfl⟩) (pre_RV (va_recv hK hP (ci := 6) (q0 := 0) rfl rfl) (hP.sub [0, 1, 2, 3, 4] rfl) hK hT) rfl rfl hl.1 rfl (lv_room (Nat.le_of_ble_eq_true rfl)) dX6_isBad_66 ⟨Nat.le_of_ble_eq_true rfl, Nat.le_of_ble_eq_true rfl⟩) ?_
        refine lv_if_ne (tgt := 76) hx hb dX6_isBad_69 (by decide) (fun c_4 => ?_) (fun c_4 => ?_)
        · skip
          have c_4 := bI_ne0 c_4
          refine lv_iconst (v := 0) hx hb dX6_isBad_76 (by decide) ?_
          exact W.zret (v := 0) (ty := .boolean) hx hb hr rfl (fun t ht hW => rd_end (bI_0 (by simp [m_isBad, m_pt, c_1, c_3, c_4])).symm ht) (fun q h => by cases h) dX6_isBad_77
        · skip
          have c_4 := bI_eq0 c_4
          refine lv_iconst (v := 1) hx hb dX6_isBad_72 (by decide) ?_
          refine lv_goto (tgt := 77) hx hb dX6_isBad_73 (by decide) ?_
          exact W.zret (v := 1) (ty := .boolean) hx hb hr rfl (fun t ht hW => rd_end (bI_1 (by simp [m_isBad, m_pt, c_1, c_3, c_4])).symm ht) (fun q h => by cases h) dX6_isBad_77
  · skip
    refine lv_tableIn (tgt := 78) hx hb dX6_isBad_24 (by decide) (by decide) rfl (by decide) ?_
    refine lv_iload_n hx hb dX6_isBad_78 rfl (lv_at hl 1 rfl) ?_
    refine lv_iconst (v := 3) hx hb dX6_isBad_79 (by decide) ?_
    refine lv_icmp_eq (tgt := 88) hx hb dX6_isBad_80 (by decide) (fun c_5 => ?_) (fun c_5 => ?_)
    · skip
      refine lv_aload_n hx hb dX6_isBad_88 rfl (lv_at hl 2 rfl) ?_
      refine lv_iconst (v := 4) hx hb dX6_isBad_89 (by decide) ?_
      refine lv_iload hx hb dX6_isBad_90 (lv_at hl 0 rfl) ?_
      refine go_R (r := (bI (m_touch td pn 4 (td ((6 * q0) + 2)) 0 false))) (va_runV (As := [.int 4, .int (td ((6 * q0) + 2))]) (rest := []) ⟨hx, hb, hml, hown, hg⟩ (kX6_isTouched l dC dI B cI cC cJ mo mx mt md mp tx td dp pr th fl fa sn pn kp cm 4 (td ((6 * q0) + 2)) (by omega) (by omega) (by omega) (by omega)) (cwV 2 hg (gi_V w_633 w_634 w_708 w_8 w_635) rfl rfl rfl (by decide +kernel) ⟨Nat.le_of_ble_eq_true rfl, Nat.le_of_ble_eq_true rfl⟩) (pre_RV (va_recv hK hP (ci := 6) (q0 := 0) rfl rfl) (hP.sub [0, 1, 2, 3, 4] rfl) hK hT) rfl rfl hl.1 rfl (lv_room (Nat.le_of_ble_eq_true rfl)) dX6_isBad_92 ⟨Nat.le_of_ble_eq_true rfl, Nat.le_of_ble_eq_true rfl⟩) ?_
      refine lv_if_ne (tgt := 102) hx hb dX6_isBad_95 (by decide) (fun c_6 => ?_) (fun c_6 => ?_)
      · skip
        have c_6 := bI_ne0 c_6
        refine lv_iconst (v := 0) hx hb dX6_isBad_102 (by decide) ?_
        exact W.zret (v := 0) (ty := .boolean) hx hb hr rfl (fun t ht hW => rd_end (bI_0 (by simp [m_isBad, m_pt, c_5, c_6])).symm ht) (fun q h => by cases h) dX6_isBad_103
      · skip
        have c_6 := bI_eq0 c_6
        refine lv_iconst (v := 1) hx hb dX6_isBad_98 (by decide) ?_
        refine lv_goto (tgt := 103) hx hb dX6_isBad_99 (by decide) ?_
        exact W.zret (v := 1) (ty := .boolean) hx hb hr rfl (fun t ht hW => rd_end (bI_1 (by simp [m_isBad, m_pt, c_5, c_6])).symm ht) (fun q h => by cases h) dX6_isBad_103
    · skip
      refine lv_iload_n hx hb dX6_isBad_83 rfl (lv_at hl 1 rfl) ?_
      refine lv_iconst (v := 5) hx hb dX6_isBad_84 (by decide) ?_
      refine lv_icmp_ne (tgt := 102) hx hb dX6_isBad_85 (by decide) (fun c_7 => ?_) (fun c_7 => ?_)
      · skip
        refine lv_iconst (v := 0) hx hb dX6_isBad_102 (by decide) ?_
        exact W.zret (v := 0) (ty := .boolean) hx hb hr rfl (fun t ht hW => rd_end (bI_0 (by simp [m_isBad, m_pt, c_5, c_7])).symm ht) (fun q h => by cases h) dX6_isBad_103
      · skip
        refine lv_aload_n hx hb dX6_isBad_88 rfl (lv_at hl 2 rfl) ?_
        refine lv_iconst (v := 4) hx hb dX6_isBad_89 (by decide) ?_
        refine lv_iload hx hb dX6_isBad_90 (lv_at hl 0 rfl) ?_
        refine go_R (r := (bI (m_touch td pn 4 (td ((6 * q0) + 2)) 0 false))) (va_runV (As := [.int 4, .int (td ((6 * q0) + 2))]) (rest := []) ⟨hx, hb, hml, hown, hg⟩ (kX6_isTouched l dC dI B cI cC cJ mo mx mt md mp tx td dp pr th fl fa sn pn kp cm 4 (td ((6 * q0) + 2)) (by omega) (by omega) (by omega) (by omega)) (cwV 2 hg (gi_V w_633 w_634 w_708 w_8 w_635) rfl rfl rfl (by decide +kernel) ⟨Nat.le_of_ble_eq_true rfl, Nat.le_of_ble_eq_true rfl⟩) (pre_RV (va_recv hK hP (ci := 6) (q0 := 0) rfl rfl) (hP.sub [0, 1, 2, 3, 4] rfl) hK hT) rfl rfl hl.1 rfl (lv_room (Nat.le_of_ble_eq_true rfl)) dX6_isBad_92 ⟨Nat.le_of_ble_eq_true rfl, Nat.le_of_ble_eq_true rfl⟩) ?_
        refine lv_if_ne (tgt := 102) hx hb dX6_isBad_95 (by decide) (fun c_8 => ?_) (fun c_8 => ?_)
        · skip
          have c_8 := bI_ne0 c_8
          refine lv_iconst (v := 0) hx hb dX6_isBad_102 (by decide) ?_
          exact W.zret (v := 0) (ty := .boolean) hx hb hr rfl (fun t ht hW => rd_end (bI_0 (by simp [m_isBad, m_pt, c_5, c_7, c_8])).symm ht) (fun q h => by cases h) dX6_isBad_103
        · skip
          have c_8 := bI_eq0 c_8
          refine lv_iconst (v := 1) hx hb dX6_isBad_98 (by decide) ?_
          refine lv_goto (tgt := 103) hx hb dX6_isBad_99 (by decide) ?_
          exact W.zret (v := 1) (ty := .boolean) hx hb hr rfl (fun t ht hW => rd_end (bI_1 (by simp [m_isBad, m_pt, c_5, c_7, c_8])).symm ht) (fun q h => by cases h) dX6_isBad_103
  · skip
    refine lv_tableIn (tgt := 104) hx hb dX6_isBad_24 (by decide) (by decide) rfl (by decide) ?_
    refine lv_iload_n hx hb dX6_isBad_104 rfl (lv_at hl 1 rfl) ?_
    refine lv_if_ne (tgt := 126) hx hb dX6_isBad_105 (by decide) (fun c_9 => ?_) (fun c_9 => ?_)
    · skip
      refine lv_iconst (v := 0) hx hb dX6_isBad_126 (by decide) ?_
      exact W.zret (v := 0) (ty := .boolean) hx hb hr rfl (fun t ht hW => rd_end (bI_0 (by simp [m_isBad, m_pt, c_9])).symm ht) (fun q h => by cases h) dX6_isBad_127
    · skip
      refine lv_aload_n hx hb dX6_isBad_108 rfl (lv_at hl 2 rfl) ?_
      refine va_get (D := (dC, dI)) (ci := 6) (v := .ref mt) (C := RX6) (T := TX6) (N := 11) hx hb hg in_X6 hown hK hP 0 rfl rfl 5 (by decide) (hg _ w_508) (fun _ h9 => h9) rfl dX6_isBad_109 ?_
      refine lv_bipush (v := 6) hx hb dX6_isBad_112 (by decide) ?_
      refine lv_iload_n hx hb dX6_isBad_114 rfl (lv_at hl 3 rfl) ?_
      refine lv_imul hx hb dX6_isBad_115 ?_
      refine top_eq (y := (nI (6 * q0))) (by exact pk_mul _ _) ?_
      refine lv_iconst (v := 4) hx hb dX6_isBad_116 (by decide) ?_
      refine lv_iadd hx hb dX6_isBad_117 ?_
      refine top_eq (y := (nI ((6 * q0) + 4))) (by exact nI_add _ _) ?_
      refine x_iald (k := (6 * q0) + 4) hx hb hK hP 2 0 rfl rfl (by omega) (by decide) dX6_isBad_118 ?_
      refine lv_if_ne (tgt := 126) hx hb dX6_isBad_119 (by decide) (fun c_10 => ?_) (fun c_10 => ?_)
      · skip
        refine lv_iconst (v := 0) hx hb dX6_isBad_126 (by decide) ?_
        exact W.zret (v := 0) (ty := .boolean) hx hb hr rfl (fun t ht hW => rd_end (bI_0 (by simp [m_isBad, m_pt, c_9, c_10])).symm ht) (fun q h => by cases h) dX6_isBad_127
      · skip
        refine lv_iconst (v := 1) hx hb dX6_isBad_122 (by decide) ?_
        refine lv_goto (tgt := 127) hx hb dX6_isBad_123 (by decide) ?_
        exact W.zret (v := 1) (ty := .boolean) hx hb hr rfl (fun t ht hW => rd_end (bI_1 (by simp [m_isBad, m_pt, c_9, c_10])).symm ht) (fun q h => by cases h) dX6_isBad_127
  · skip
    refine lv_tableOut (tgt := 128) hx hb dX6_isBad_24 (Or.inr (by decide)) (by decide) ?_
    refine lv_iload_n hx hb dX6_isBad_128 rfl (lv_at hl 1 rfl) ?_
    refine lv_iconst (v := 2) hx hb dX6_isBad_129 (by decide) ?_
    refine lv_icmp_ne (tgt := 158) hx hb dX6_isBad_130 (by decide) (fun c_11 => ?_) (fun c_11 => ?_)
    · skip
      refine lv_iconst (v := 0) hx hb dX6_isBad_158 (by decide) ?_
      exact W.zret (v := 0) (ty := .boolean) hx hb hr rfl (fun t ht hW => rd_end (bI_0 (by simp [m_isBad, m_pt, c_11])).symm ht) (fun q h => by cases h) dX6_isBad_159
    · skip
      refine lv_aload_n hx hb dX6_isBad_133 rfl (lv_at hl 2 rfl) ?_
      refine va_get (D := (dC, dI)) (ci := 6) (v := .ref mt) (C := RX6) (T := TX6) (N := 11) hx hb hg in_X6 hown hK hP 0 rfl rfl 5 (by decide) (hg _ w_508) (fun _ h9 => h9) rfl dX6_isBad_134 ?_
      refine lv_bipush (v := 6) hx hb dX6_isBad_137 (by decide) ?_
      refine lv_iload_n hx hb dX6_isBad_139 rfl (lv_at hl 3 rfl) ?_
      refine lv_imul hx hb dX6_isBad_140 ?_
      refine top_eq (y := (nI (6 * q0))) (by exact pk_mul _ _) ?_
      refine lv_iconst (v := 4) hx hb dX6_isBad_141 (by decide) ?_
      refine lv_iadd hx hb dX6_isBad_142 ?_
      refine top_eq (y := (nI ((6 * q0) + 4))) (by exact nI_add _ _) ?_
      refine x_iald (k := (6 * q0) + 4) hx hb hK hP 2 0 rfl rfl (by omega) (by decide) dX6_isBad_143 ?_
      refine lv_aload_n hx hb dX6_isBad_144 rfl (lv_at hl 2 rfl) ?_
      refine va_get (D := (dC, dI)) (ci := 6) (v := .ref md) (C := RX6) (T := TX6) (N := 11) hx hb hg in_X6 hown hK hP 0 rfl rfl 9 (by decide) (hg _ w_512) (fun _ h9 => h9) rfl dX6_isBad_145 ?_
      refine lv_iload hx hb dX6_isBad_148 (lv_at hl 0 rfl) ?_
      refine va_iald (i := td ((6 * q0) + 2)) hx hb hK hP 3 0 rfl rfl (ok_2 (hok q0 hq0) c_11) dX6_isBad_150 ?_
      refine lv_icmp_le (tgt := 158) hx hb dX6_isBad_151 (by decide) (fun c_12 => ?_) (fun c_12 => ?_)
      · skip
        refine lv_iconst (v := 0) hx hb dX6_isBad_158 (by decide) ?_
        exact W.zret (v := 0) (ty := .boolean) hx hb hr rfl (fun t ht hW => rd_end (bI_0 (by simp [m_isBad, m_pt, c_11, c_12])).symm ht) (fun q h => by cases h) dX6_isBad_159
      · skip
        refine lv_iconst (v := 1) hx hb dX6_isBad_154 (by decide) ?_
        refine lv_goto (tgt := 159) hx hb dX6_isBad_155 (by decide) ?_
        exact W.zret (v := 1) (ty := .boolean) hx hb hr rfl (fun t ht hW => rd_end (bI_1 (by simp [m_isBad, m_pt, c_11, c_12])).symm ht) (fun q h => by cases h) dX6_isBad_159
set_option maxHeartbeats 4000000 in
set_option maxRecDepth 100000 in
theorem kX6_order (l : Launch) (dC : Nat → ClassId) (dI : Nat → Nat → Nat) (B : Nat) (cI cC cJ : ClassId) (mo : Nat) (mx : Nat) (mt : Nat) (md : Nat) (mp : Nat) (tx : Nat → Int32) (td : Nat → Int32) (dp : Nat → Int32) (pr : Nat → Int32) (th : Int32) (fl : Int32) (fa : Int32) (sn : Nat) (pn : Nat) (kp : Nat) (cm : Nat) (p0 : Int32) (hsn : sn ≤ 500) (hpn : pn ≤ 50) (hkp : kp ≤ 50) (hcm : cm ≤ 50) : Met l yX6_order wsX6_order ({ frames := 0, cells := 0, slots := 0, locals := 0 }) (q_Rd (dC, dI) vwCl [.ref mo, .int p0] [(mo, .inr (6, [.int th, .ref mx, .int (nI sn), .int fl, .int fa, .ref mt, .int (nI pn), .int (nI kp), .int (nI cm), .ref md, .ref mp])), (mx, .inl (cI, 500, .inl tx)), (mt, .inl (cI, 900, .inl td)), (md, .inl (cI, 16, .inl dp)), (mp, .inl (cI, 16, .inl pr))] [(cI, .int), (cC, .char), (cJ, .long)] B) (QcRead (nI (m_order td pn p0 0 0))) 0 0 (fun _ => False) := by
  refine Met.ofW (cc := cX6_order) (maxL := 7) (ret := (some .int)) (by decide) rfl ?_
  intro p e s m args below meth c s₁ Bd hml hv
  obtain ⟨rfl, hP, hK, hT⟩ := hv
  have hx := Bd.exec
  have hb := Bd.bytes
  have hr := Bd.returns
  have hts := atoms_spec (ws := wsX6_order) Bd.pre
  have hg : ∀ w ∈ lw_good, w.before _ s = true := fun w h => hts w (List.mem_cons_of_mem _ h)
  have hown : s.vm.findClass RX6 = some m.cls := findClass_of_methodNamed Bd.named
  have hlocks := Bd.notSynchronized
  have hSB : va_S (fun q => B ≤ q) s.heap s.heap [] := va_S.rf
  have hP : va_P (dC, dI) vwCl [(mo, .inr (6, [.int th, .ref mx, .int (nI sn), .int fl, .int fa, .ref mt, .int (nI pn), .int (nI kp), .int (nI cm), .ref md, .ref mp])), (mx, .inl (cI, 500, .inl tx)), (mt, .inl (cI, 900, .inl td)), (md, .inl (cI, 16, .inl dp)), (mp, .inl (cI, 16, .inl pr))] s.heap := hP
  have hl := lv_entry ([.ref mo, .int p0]) (n := 7) (Nat.le_of_ble_eq_true rfl)
  rw [lg_entry_eq]
  generalize (lg_sl ([.ref mo, .int p0]) ++ List.replicate (7 - (lg_sl ([.ref mo, .int p0])).length) Slot.unset).toArray = ls at hl ⊢
  have hl : lv_has ls 7 [(0, .ref mo), (1, .int p0)] := hl
  refine lv_iconst (v := 0) hx hb dX6_order_0 (by decide) ?_
  refine lv_istore_n (lv' := [(2, .int 0), (0, .ref mo), (1, .int p0)]) hx hb dX6_order_1 rfl hl (by decide) rfl (fun ls hl => ?_)
  refine lv_iconst (v := 0) hx hb dX6_order_2 (by decide) ?_
  refine lv_istore_n (lv' := [(3, .int 0), (2, .int 0), (0, .ref mo), (1, .int p0)]) hx hb dX6_order_3 rfl hl (by decide) rfl (fun ls hl => ?_)
  refine loop_R (σ := Nat × Nat) (fun n x ls => pn - x.1 < n ∧ x.1 ≤ pn ∧ x.2 ≤ x.1 ∧ m_order td pn p0 0 0 = m_order td pn p0 x.1 x.2 ∧ lv_has ls 7 [(0, .ref mo), (1, .int p0), (2, .int (nI x.2)), (3, .int (nI x.1))]) (fun n x ls ih_1 hI => ?_) (fun x ls hI => ?_) (n := (pn - 0) + 1) (x := (0, 0)) ⟨(Nat.lt_succ_self _), (by first | omega | (dsimp only; omega) | (dsimp only; done)), (by first | omega | (dsimp only; omega) | (dsimp only; done)), rfl, lv_sub hl [2, 3, 1, 0] rfl⟩
  · skip
    obtain ⟨i, f⟩ := x
    obtain ⟨hfu, hi0, hf0, he, hl⟩ := hI
    have hfu : pn - i < n + 1 := hfu
    have hi0 : i ≤ pn := hi0
    have hf0 : f ≤ i := hf0
    have he : m_order td pn p0 0 0 = m_order td pn p0 i f := he
    have hl : lv_has ls 7 [(0, .ref mo), (1, .int p0), (2, .int (nI f)), (3, .int (nI i))] := hl
    refine lv_iload_n hx hb dX6_order_4 rfl (lv_at hl 3 rfl) ?_
    refine lv_aload_n hx hb dX6_order_5 rfl (lv_at hl 0 rfl) ?_
    refine va_get (D := (dC, dI)) (ci := 6) (v := .int (nI pn)) (C := RX6) (T := TX6) (N := 11) hx hb hg in_X6 hown hK hP 0 rfl rfl 6 (by decide) (hg _ w_509) (fun _ h9 => h9) rfl dX6_order_6 ?_
    refine lv_icmp_ge (tgt := 118) hx hb dX6_order_9 (by decide) (fun c_2 => ?_) (fun c_2 => ?_)
    · skip
      have c_2 := na_le (a := pn) (b := i) c_2 (by omega) (by omega)
      refine lv_iload_n hx hb dX6_order_118 rfl (lv_at hl 2 rfl) ?_
      exact W.iret (v := (nI f)) hx hb hr (fun t ht hW => rd_end (by rw [he]; rw [m_order]; simp [c_2]) ht) (fun q h => by cases h) dX6_order_119
    · skip
      have c_2 := na_nle (a := pn) (b := i) c_2 (by omega) (by omega)
      refine lv_iconst (v := 0) hx hb dX6_order_12 (by decide) ?_
      refine lv_istore (lv' := [(4, .int 0), (0, .ref mo), (1, .int p0), (2, .int (nI f)), (3, .int (nI i))]) hx hb dX6_order_13 hl (by decide) rfl (fun ls hl => ?_)
      refine lv_iconst (v := 0) hx hb dX6_order_15 (by decide) ?_
      refine lv_istore (lv' := [(5, .int 0), (4, .int 0), (0, .ref mo), (1, .int p0), (2, .int (nI f)), (3, .int (nI i))]) hx hb dX6_order_16 hl (by decide) rfl (fun ls hl => ?_)
      refine loop_R (σ := Nat × Nat) (fun n x ls => pn - x.1 < n ∧ x.1 ≤ pn ∧ x.2 ≤ x.1 ∧ m_ahead td pn i 0 0 = m_ahead td pn i x.1 x.2 ∧ lv_has ls 7 [(0, .ref mo), (1, .int p0), (2, .int (nI f)), (3, .int (nI i)), (4, .int (nI x.2)), (5, .int (nI x.1))]) (fun n x ls ih_3 hI => ?_) (fun x ls hI => ?_) (n := (pn - 0) + 1) (x := (0, 0)) ⟨(Nat.lt_succ_self _), (by first | omega | (dsimp only; omega) | (dsimp only; done)), (by first | omega | (dsimp only; omega) | (dsimp only; done)), rfl, lv_sub hl [2, 3, 4, 5, 1, 0] rfl⟩
      · skip
        obtain ⟨j, a9⟩ := x
        obtain ⟨hfu, hj0, ha0, ha, hl⟩ := hI
        have hfu : pn - j < n + 1 := hfu
        have hj0 : j ≤ pn := hj0
        have ha0 : a9 ≤ j := ha0
        have ha : m_ahead td pn i 0 0 = m_ahead td pn i j a9 := ha
        have hl : lv_has ls 7 [(0, .ref mo), (1, .int p0), (2, .int (nI f)), (3, .int (nI i)), (4, .int (nI a9)), (5, .int (nI j))] := hl
        refine lv_iload hx hb dX6_order_18 (lv_at hl 5 rfl) ?_
        refine lv_aload_n hx hb dX6_order_20 rfl (lv_at hl 0 rfl) ?_
        refine va_get (D := (dC, dI)) (ci := 6) (v := .int (nI pn)) (C := RX6) (T := TX6) (N := 11) hx hb hg in_X6 hown hK hP 0 rfl rfl 6 (by decide) (hg _ w_509) (fun _ h9 => h9) rfl dX6_order_21 ?_
        refine lv_icmp_ge (tgt := 100) hx hb dX6_order_24 (by decide) (fun c_4 => ?_) (fun c_4 => ?_)
        · skip
          have c_4 := na_le (a := pn) (b := j) c_4 (by omega) (by omega)
          refine lv_iload hx hb dX6_order_100 (lv_at hl 4 rfl) ?_
          refine lv_iload_n hx hb dX6_order_102 rfl (lv_at hl 1 rfl) ?_
          refine lv_icmp_ne (tgt := 110) hx hb dX6_order_103 (by decide) (fun c_5 => ?_) (fun c_5 => ?_)
          · skip
            refine lv_iload_n hx hb dX6_order_110 rfl (lv_at hl 2 rfl) ?_
            refine lv_istore_n (lv' := [(2, .int (nI f)), (0, .ref mo), (1, .int p0), (3, .int (nI i)), (4, .int (nI a9)), (5, .int (nI j))]) hx hb dX6_order_111 rfl hl (by decide) rfl (fun ls hl => ?_)
            refine lv_iinc (v := (nI (i + 1))) (lv' := [(3, .int (nI (i + 1))), (2, .int (nI f)), (0, .ref mo), (1, .int p0), (4, .int (nI a9)), (5, .int (nI j))]) hx hb dX6_order_112 hl (k := 3) rfl (by rw [← nI_add]; rfl) (by decide) rfl (fun ls hl => ?_)
            refine lv_goto (tgt := 4) hx hb dX6_order_115 (by decide) ?_
            exact ih_1 (i + 1, f) _ ⟨(by first | omega | (dsimp only; omega) | (dsimp only; done)), (by first | omega | (dsimp only; omega) | (dsimp only; done)), (by first | omega | (dsimp only; omega) | (dsimp only; done)), (by (try dsimp only); rw [he, m_order, if_pos c_2, ha, m_ahead, if_neg c_4]; simp [c_5]), lv_sub hl [2, 3, 1, 0] rfl⟩
          · skip
            refine lv_iload_n hx hb dX6_order_106 rfl (lv_at hl 3 rfl) ?_
            refine lv_goto (tgt := 111) hx hb dX6_order_107 (by decide) ?_
            refine lv_istore_n (lv' := [(2, .int (nI i)), (0, .ref mo), (1, .int p0), (3, .int (nI i)), (4, .int (nI a9)), (5, .int (nI j))]) hx hb dX6_order_111 rfl hl (by decide) rfl (fun ls hl => ?_)
            refine lv_iinc (v := (nI (i + 1))) (lv' := [(3, .int (nI (i + 1))), (2, .int (nI i)), (0, .ref mo), (1, .int p0), (4, .int (nI a9)), (5, .int (nI j))]) hx hb dX6_order_112 hl (k := 3) rfl (by rw [← nI_add]; rfl) (by decide) rfl (fun ls hl => ?_)
            refine lv_goto (tgt := 4) hx hb dX6_order_115 (by decide) ?_
            exact ih_1 (i + 1, i) _ ⟨(by first | omega | (dsimp only; omega) | (dsimp only; done)), (by first | omega | (dsimp only; omega) | (dsimp only; done)), (by first | omega | (dsimp only; omega) | (dsimp only; done)), (by (try dsimp only); rw [he, m_order, if_pos c_2, ha, m_ahead, if_neg c_4]; simp [c_5]), lv_sub hl [2, 3, 1, 0] rfl⟩
        · skip
          have c_4 := na_nle (a := pn) (b := j) c_4 (by omega) (by omega)
          refine lv_bipush (v := 100) hx hb dX6_order_27 (by decide) ?_
          refine lv_aload_n hx hb dX6_order_29 rfl (lv_at hl 0 rfl) ?_
          refine va_get (D := (dC, dI)) (ci := 6) (v := .ref mt) (C := RX6) (T := TX6) (N := 11) hx hb hg in_X6 hown hK hP 0 rfl rfl 5 (by decide) (hg _ w_508) (fun _ h9 => h9) rfl dX6_order_30 ?_
          refine lv_bipush (v := 6) hx hb dX6_order_33 (by decide) ?_
          refine lv_iload hx hb dX6_order_35 (lv_at hl 5 rfl) ?_
          refine lv_imul hx hb dX6_order_37 ?_
          refine top_eq (y := (nI (6 * j))) (by exact pk_mul _ _) ?_
          refine x_iald (k := 6 * j) hx hb hK hP 2 0 rfl rfl (by omega) (by decide) dX6_order_38 ?_
          refine lv_imul hx hb dX6_order_39 ?_
          refine lv_aload_n hx hb dX6_order_40 rfl (lv_at hl 0 rfl) ?_
          refine va_get (D := (dC, dI)) (ci := 6) (v := .ref mt) (C := RX6) (T := TX6) (N := 11) hx hb hg in_X6 hown hK hP 0 rfl rfl 5 (by decide) (hg _ w_508) (fun _ h9 => h9) rfl dX6_order_41 ?_
          refine lv_bipush (v := 6) hx hb dX6_order_44 (by decide) ?_
          refine lv_iload hx hb dX6_order_46 (lv_at hl 5 rfl) ?_
          refine lv_imul hx hb dX6_order_48 ?_
          refine top_eq (y := (nI (6 * j))) (by exact pk_mul _ _) ?_
          refine lv_iconst (v := 1) hx hb dX6_order_49 (by decide) ?_
          refine lv_iadd hx hb dX6_order_50 ?_
          refine top_eq (y := (nI ((6 * j) + 1))) (by exact nI_add _ _) ?_
          refine x_iald (k := (6 * j) + 1) hx hb hK hP 2 0 rfl rfl (by omega) (by decide) dX6_order_51 ?_
          refine lv_iadd hx hb dX6_order_52 ?_
          refine lv_istore (lv' := [(6, .int ((100 * (td (6 * j))) + (td ((6 * j) + 1)))), (0, .ref mo), (1, .int p0), (2, .int (nI f)), (3, .int (nI i)), (4, .int (nI a9)), (5, .int (nI j))]) hx hb dX6_order_53 hl (by decide) rfl (fun ls hl => ?_)
          refine lv_iload hx hb dX6_order_55 (lv_at hl 5 rfl) ?_
          refine lv_iload hx hb dX6_order_57 (lv_at hl 0 rfl) ?_
          refine lv_bipush (v := 100) hx hb dX6_order_59 (by decide) ?_
          refine lv_aload_n hx hb dX6_order_61 rfl (lv_at hl 1 rfl) ?_
          refine va_get (D := (dC, dI)) (ci := 6) (v := .ref mt) (C := RX6) (T := TX6) (N := 11) hx hb hg in_X6 hown hK hP 0 rfl rfl 5 (by decide) (hg _ w_508) (fun _ h9 => h9) rfl dX6_order_62 ?_
          refine lv_bipush (v := 6) hx hb dX6_order_65 (by decide) ?_
          refine lv_iload_n hx hb dX6_order_67 rfl (lv_at hl 4 rfl) ?_
          refine lv_imul hx hb dX6_order_68 ?_
          refine top_eq (y := (nI (6 * i))) (by exact pk_mul _ _) ?_
          refine x_iald (k := 6 * i) hx hb hK hP 2 0 rfl rfl (by omega) (by decide) dX6_order_69 ?_
          refine lv_imul hx hb dX6_order_70 ?_
          refine lv_aload_n hx hb dX6_order_71 rfl (lv_at hl 1 rfl) ?_
          refine va_get (D := (dC, dI)) (ci := 6) (v := .ref mt) (C := RX6) (T := TX6) (N := 11) hx hb hg in_X6 hown hK hP 0 rfl rfl 5 (by decide) (hg _ w_508) (fun _ h9 => h9) rfl dX6_order_72 ?_
          refine lv_bipush (v := 6) hx hb dX6_order_75 (by decide) ?_
          refine lv_iload_n hx hb dX6_order_77 rfl (lv_at hl 4 rfl) ?_
          refine lv_imul hx hb dX6_order_78 ?_
          refine top_eq (y := (nI (6 * i))) (by exact pk_mul _ _) ?_
          refine lv_iconst (v := 1) hx hb dX6_order_79 (by decide) ?_
          refine lv_iadd hx hb dX6_order_80 ?_
          refine top_eq (y := (nI ((6 * i) + 1))) (by exact nI_add _ _) ?_
          refine x_iald (k := (6 * i) + 1) hx hb hK hP 2 0 rfl rfl (by omega) (by decide) dX6_order_81 ?_
          refine lv_iadd hx hb dX6_order_82 ?_
          refine lv_icmp_ge (tgt := 90) hx hb dX6_order_83 (by decide) (fun c_6 => ?_) (fun c_6 => ?_)
          · skip
            refine lv_iconst (v := 0) hx hb dX6_order_90 (by decide) ?_
            refine lv_iadd hx hb dX6_order_91 ?_
            refine top_eq (y := (nI (a9 + 0))) (by exact nI_add _ _) ?_
            refine lv_istore (lv' := [(4, .int (nI (a9 + 0))), (6, .int ((100 * (td (6 * j))) + (td ((6 * j) + 1)))), (0, .ref mo), (1, .int p0), (2, .int (nI f)), (3, .int (nI i)), (5, .int (nI j))]) hx hb dX6_order_92 hl (by decide) rfl (fun ls hl => ?_)
            refine lv_iinc (v := (nI (j + 1))) (lv' := [(5, .int (nI (j + 1))), (4, .int (nI (a9 + 0))), (6, .int ((100 * (td (6 * j))) + (td ((6 * j) + 1)))), (0, .ref mo), (1, .int p0), (2, .int (nI f)), (3, .int (nI i))]) hx hb dX6_order_94 hl (k := 6) rfl (by rw [← nI_add]; rfl) (by decide) rfl (fun ls hl => ?_)
            refine lv_goto (tgt := 18) hx hb dX6_order_97 (by decide) ?_
            exact ih_3 (j + 1, a9 + 0) _ ⟨(by first | omega | (dsimp only; omega) | (dsimp only; done)), (by first | omega | (dsimp only; omega) | (dsimp only; done)), (by first | omega | (dsimp only; omega) | (dsimp only; done)), (by (try dsimp only); rw [ha, m_ahead]; simp [m_rank, c_4, c_6]), lv_sub hl [3, 4, 5, 6, 1, 0] rfl⟩
          · skip
            refine lv_iconst (v := 1) hx hb dX6_order_86 (by decide) ?_
            refine lv_goto (tgt := 91) hx hb dX6_order_87 (by decide) ?_
            refine lv_iadd hx hb dX6_order_91 ?_
            refine top_eq (y := (nI (a9 + 1))) (by exact nI_add _ _) ?_
            refine lv_istore (lv' := [(4, .int (nI (a9 + 1))), (6, .int ((100 * (td (6 * j))) + (td ((6 * j) + 1)))), (0, .ref mo), (1, .int p0), (2, .int (nI f)), (3, .int (nI i)), (5, .int (nI j))]) hx hb dX6_order_92 hl (by decide) rfl (fun ls hl => ?_)
            refine lv_iinc (v := (nI (j + 1))) (lv' := [(5, .int (nI (j + 1))), (4, .int (nI (a9 + 1))), (6, .int ((100 * (td (6 * j))) + (td ((6 * j) + 1)))), (0, .ref mo), (1, .int p0), (2, .int (nI f)), (3, .int (nI i))]) hx hb dX6_order_94 hl (k := 6) rfl (by rw [← nI_add]; rfl) (by decide) rfl (fun ls hl => ?_)
            refine lv_goto (tgt := 18) hx hb dX6_order_97 (by decide) ?_
            exact ih_3 (j + 1, a9 + 1) _ ⟨(by first | omega | (dsimp only; omega) | (dsimp only; done)), (by first | omega | (dsimp only; omega) | (dsimp only; done)), (by first | omega | (dsimp only; omega) | (dsimp only; done)), (by (try dsimp only); rw [ha, m_ahead]; simp [m_rank, c_4, c_6]), lv_sub hl [3, 4, 5, 6, 1, 0] rfl⟩
      · exact absurd hI.1 (Nat.not_lt_zero _)
  · exact absurd hI.1 (Nat.not_lt_zero _)
set_option maxHeartbeats 4000000 in
set_option maxRecDepth 100000 in
theorem kX6_isAlike (l : Launch) (dC : Nat → ClassId) (dI : Nat → Nat → Nat) (B : Nat) (cI cC cJ : ClassId) (mo : Nat) (mx : Nat) (mt : Nat) (md : Nat) (mp : Nat) (tx : Nat → Int32) (td : Nat → Int32) (dp : Nat → Int32) (pr : Nat → Int32) (th : Int32) (fl : Int32) (fa : Int32) (sn : Nat) (pn : Nat) (kp : Nat) (cm : Nat) (q0 : Nat) (q1 : Nat) (hsn : sn ≤ 500) (hpn : pn ≤ 50) (hkp : kp ≤ 50) (hcm : cm ≤ 50) (hq0 : q0 + 6 ≤ 900) (hq1 : q1 + 6 ≤ 900) : Met l yX6_isAlike wsX6_isAlike ({ frames := 0, cells := 0, slots := 0, locals := 0 }) (q_Rd (dC, dI) vwCl [.ref mo, .int (nI q0), .int (nI q1)] [(mo, .inr (6, [.int th, .ref mx, .int (nI sn), .int fl, .int fa, .ref mt, .int (nI pn), .int (nI kp), .int (nI cm), .ref md, .ref mp])), (mx, .inl (cI, 500, .inl tx)), (mt, .inl (cI, 900, .inl td)), (md, .inl (cI, 16, .inl dp)), (mp, .inl (cI, 16, .inl pr))] [(cI, .int), (cC, .char), (cJ, .long)] B) (QcRead (bI (m_alike td q0 q1 0 true))) 0 0 (fun _ => False) := by
  refine Met.ofW (cc := cX6_isAlike) (maxL := 5) (ret := (some .boolean)) (by decide) rfl ?_
  intro p e s m args below meth c s₁ Bd hml hv
  obtain ⟨rfl, hP, hK, hT⟩ := hv
  have hx := Bd.exec
  have hb := Bd.bytes
  have hr := Bd.returns
  have hts := atoms_spec (ws := wsX6_isAlike) Bd.pre
  have hg : ∀ w ∈ lw_good, w.before _ s = true := fun w h => hts w (List.mem_cons_of_mem _ h)
  have hown : s.vm.findClass RX6 = some m.cls := findClass_of_methodNamed Bd.named
  have hlocks := Bd.notSynchronized
  have hSB : va_S (fun q => B ≤ q) s.heap s.heap [] := va_S.rf
  have hP : va_P (dC, dI) vwCl [(mo, .inr (6, [.int th, .ref mx, .int (nI sn), .int fl, .int fa, .ref mt, .int (nI pn), .int (nI kp), .int (nI cm), .ref md, .ref mp])), (mx, .inl (cI, 500, .inl tx)), (mt, .inl (cI, 900, .inl td)), (md, .inl (cI, 16, .inl dp)), (mp, .inl (cI, 16, .inl pr))] s.heap := hP
  have hl := lv_entry ([.ref mo, .int (nI q0), .int (nI q1)]) (n := 5) (Nat.le_of_ble_eq_true rfl)
  rw [lg_entry_eq]
  generalize (lg_sl ([.ref mo, .int (nI q0), .int (nI q1)]) ++ List.replicate (5 - (lg_sl ([.ref mo, .int (nI q0), .int (nI q1)])).length) Slot.unset).toArray = ls at hl ⊢
  have hl : lv_has ls 5 [(0, .ref mo), (1, .int (nI q0)), (2, .int (nI q1))] := hl
  refine lv_iconst (v := 1) hx hb dX6_isAlike_0 (by decide) ?_
  refine lv_istore_n (lv' := [(3, .int 1), (0, .ref mo), (1, .int (nI q0)), (2, .int (nI q1))]) hx hb dX6_isAlike_1 rfl hl (by decide) rfl (fun ls hl => ?_)
  refine lv_iconst (v := 0) hx hb dX6_isAlike_2 (by decide) ?_
  refine lv_istore (lv' := [(4, .int 0), (3, .int 1), (0, .ref mo), (1, .int (nI q0)), (2, .int (nI q1))]) hx hb dX6_isAlike_3 hl (by decide) rfl (fun ls hl => ?_)
  refine loop_R (σ := Nat × Bool) (fun n x ls => 6 - x.1 < n ∧ x.1 ≤ 6 ∧ m_alike td q0 q1 0 true = m_alike td q0 q1 x.1 x.2 ∧ lv_has ls 5 [(0, .ref mo), (1, .int (nI q0)), (2, .int (nI q1)), (3, .int (bI x.2)), (4, .int (nI x.1))]) (fun n x ls ih_1 hI => ?_) (fun x ls hI => ?_) (n := (6 - 0) + 1) (x := (0, true)) ⟨(Nat.lt_succ_self _), (by first | omega | (dsimp only; omega) | (dsimp only; done)), rfl, lv_sub hl [2, 3, 4, 1, 0] rfl⟩
  · skip
    obtain ⟨k, is9⟩ := x
    obtain ⟨hfu, hk0, he, hl⟩ := hI
    have hfu : 6 - k < n + 1 := hfu
    have hk0 : k ≤ 6 := hk0
    have he : m_alike td q0 q1 0 true = m_alike td q0 q1 k is9 := he
    have hl : lv_has ls 5 [(0, .ref mo), (1, .int (nI q0)), (2, .int (nI q1)), (3, .int (bI is9)), (4, .int (nI k))] := hl
    refine lv_iload hx hb dX6_isAlike_5 (lv_at hl 4 rfl) ?_
    refine lv_bipush (v := 6) hx hb dX6_isAlike_7 (by decide) ?_
    refine lv_icmp_ge (tgt := 49) hx hb dX6_isAlike_9 (by decide) (fun c_2 => ?_) (fun c_2 => ?_)
    · skip
      have c_2 := na_le (a := 6) (b := k) c_2 (by omega) (by omega)
      refine lv_iload_n hx hb dX6_isAlike_49 rfl (lv_at hl 3 rfl) ?_
      exact W.zret (v := (bI is9)) (ty := .boolean) hx hb hr (bI_nar _) (fun t ht hW => rd_end (by rw [he]; rw [m_alike]; simp [c_2]) ht) (fun q h => by cases h) dX6_isAlike_50
    · skip
      have c_2 := na_nle (a := 6) (b := k) c_2 (by omega) (by omega)
      refine lv_iload_n hx hb dX6_isAlike_12 rfl (lv_at hl 3 rfl) ?_
      refine lv_if_eq (tgt := 41) hx hb dX6_isAlike_13 (by decide) (fun c_3 => ?_) (fun c_3 => ?_)
      · skip
        have c_3 := bI_eq0 c_3
        refine lv_iconst (v := 0) hx hb dX6_isAlike_41 (by decide) ?_
        refine lv_istore_n (lv' := [(3, .int 0), (0, .ref mo), (1, .int (nI q0)), (2, .int (nI q1)), (4, .int (nI k))]) hx hb dX6_isAlike_42 rfl hl (by decide) rfl (fun ls hl => ?_)
        refine lv_iinc (v := (nI (k + 1))) (lv' := [(4, .int (nI (k + 1))), (3, .int 0), (0, .ref mo), (1, .int (nI q0)), (2, .int (nI q1))]) hx hb dX6_isAlike_43 hl (k := 4) rfl (by rw [← nI_add]; rfl) (by decide) rfl (fun ls hl => ?_)
        refine lv_goto (tgt := 5) hx hb dX6_isAlike_46 (by decide) ?_
        exact ih_1 (k + 1, false) _ ⟨(by first | omega | (dsimp only; omega) | (dsimp only; done)), (by first | omega | (dsimp only; omega) | (dsimp only; done)), (by (try dsimp only); rw [he, m_alike]; simp [c_2, c_3]), lv_sub hl [2, 3, 4, 1, 0] rfl⟩
      · skip
        have c_3 := bI_ne0 c_3
        refine lv_aload_n hx hb dX6_isAlike_16 rfl (lv_at hl 0 rfl) ?_
        refine va_get (D := (dC, dI)) (ci := 6) (v := .ref mt) (C := RX6) (T := TX6) (N := 11) hx hb hg in_X6 hown hK hP 0 rfl rfl 5 (by decide) (hg _ w_508) (fun _ h9 => h9) rfl dX6_isAlike_17 ?_
        refine lv_iload_n hx hb dX6_isAlike_20 rfl (lv_at hl 1 rfl) ?_
        refine lv_iload hx hb dX6_isAlike_21 (lv_at hl 4 rfl) ?_
        refine lv_iadd hx hb dX6_isAlike_23 ?_
        refine top_eq (y := (nI (q0 + k))) (by exact nI_add _ _) ?_
        refine x_iald (k := q0 + k) hx hb hK hP 2 0 rfl rfl (by omega) (by decide) dX6_isAlike_24 ?_
        refine lv_aload_n hx hb dX6_isAlike_25 rfl (lv_at hl 0 rfl) ?_
        refine va_get (D := (dC, dI)) (ci := 6) (v := .ref mt) (C := RX6) (T := TX6) (N := 11) hx hb hg in_X6 hown hK hP 0 rfl rfl 5 (by decide) (hg _ w_508) (fun _ h9 => h9) rfl dX6_isAlike_26 ?_
        refine lv_iload_n hx hb dX6_isAlike_29 rfl (lv_at hl 2 rfl) ?_
        refine lv_iload hx hb dX6_isAlike_30 (lv_at hl 4 rfl) ?_
        refine lv_iadd hx hb dX6_isAlike_32 ?_
        refine top_eq (y := (nI (q1 + k))) (by exact nI_add _ _) ?_
        refine x_iald (k := q1 + k) hx hb hK hP 2 0 rfl rfl (by omega) (by decide) dX6_isAlike_33 ?_
        refine lv_icmp_ne (tgt := 41) hx hb dX6_isAlike_34 (by decide) (fun c_4 => ?_) (fun c_4 => ?_)
        · skip
          refine lv_iconst (v := 0) hx hb dX6_isAlike_41 (by decide) ?_
          refine lv_istore_n (lv' := [(3, .int 0), (0, .ref mo), (1, .int (nI q0)), (2, .int (nI q1)), (4, .int (nI k))]) hx hb dX6_isAlike_42 rfl hl (by decide) rfl (fun ls hl => ?_)
          refine lv_iinc (v := (nI (k + 1))) (lv' := [(4, .int (nI (k + 1))), (3, .int 0), (0, .ref mo), (1, .int (nI q0)), (2, .int (nI q1))]) hx hb dX6_isAlike_43 hl (k := 4) rfl (by rw [← nI_add]; rfl) (by decide) rfl (fun ls hl => ?_)
          refine lv_goto (tgt := 5) hx hb dX6_isAlike_46 (by decide) ?_
          exact ih_1 (k + 1, false) _ ⟨(by first | omega | (dsimp only; omega) | (dsimp only; done)), (by first | omega | (dsimp only; omega) | (dsimp only; done)), (by (try dsimp only); rw [he, m_alike]; simp [c_2, c_3, c_4]), lv_sub hl [2, 3, 4, 1, 0] rfl⟩
        · skip
          refine lv_iconst (v := 1) hx hb dX6_isAlike_37 (by decide) ?_
          refine lv_goto (tgt := 42) hx hb dX6_isAlike_38 (by decide) ?_
          refine lv_istore_n (lv' := [(3, .int 1), (0, .ref mo), (1, .int (nI q0)), (2, .int (nI q1)), (4, .int (nI k))]) hx hb dX6_isAlike_42 rfl hl (by decide) rfl (fun ls hl => ?_)
          refine lv_iinc (v := (nI (k + 1))) (lv' := [(4, .int (nI (k + 1))), (3, .int 1), (0, .ref mo), (1, .int (nI q0)), (2, .int (nI q1))]) hx hb dX6_isAlike_43 hl (k := 4) rfl (by rw [← nI_add]; rfl) (by decide) rfl (fun ls hl => ?_)
          refine lv_goto (tgt := 5) hx hb dX6_isAlike_46 (by decide) ?_
          exact ih_1 (k + 1, true) _ ⟨(by first | omega | (dsimp only; omega) | (dsimp only; done)), (by first | omega | (dsimp only; omega) | (dsimp only; done)), (by (try dsimp only); rw [he, m_alike]; simp [c_2, c_3, c_4]), lv_sub hl [2, 3, 4, 1, 0] rfl⟩
  · exact absurd hI.1 (Nat.not_lt_zero _)
