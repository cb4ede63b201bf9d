set_option maxHeartbeats 4000000 in
set_option maxRecDepth 100000 in
theorem kX4_depthAt (l : Launch) (dC : Nat → ClassId) (dI : Nat → Nat → Nat) (B : Nat) (cI cC cJ : ClassId) (w : Nat) (wd : Nat) (dp : Nat → Int32) (p0 : Int32) : Met l yX4_depthAt wsX4_depthAt ({ frames := 1, cells := 0, slots := 0, locals := 20 }) (q_Rd (dC, dI) vwCl [.ref w, .int p0] [(w, .inr (4, [.ref wd])), (wd, .inl (cI, 16, .inl dp))] [(cI, .int), (cC, .char), (cJ, .long)] B) (QcRead (k_depthAt dp p0)) 0 0 (fun _ => False) := by
  refine Met.ofW (cc := cX4_depthAt) (maxL := 2) (ret := (some .int)) (by decide) rfl ?_
  intro p e s m args below meth c s₁ Bd hml hv
  obtain ⟨rfl, hP, hK, hT⟩ := hv
  have hx := Bd.exec
  have hb := Bd.bytes
  have hr := Bd.returns
  have hts := atoms_spec (ws := wsX4_depthAt) Bd.pre
  have hg : ∀ w ∈ lw_good, w.before _ s = true := fun w h => hts w (List.mem_cons_of_mem _ h)
  have hown : s.vm.findClass RX4 = some m.cls := findClass_of_methodNamed Bd.named
  have hlocks := Bd.notSynchronized
  have hSB : va_S (fun q => B ≤ q) s.heap s.heap [] := va_S.rf
  have hP : va_P (dC, dI) vwCl [(w, .inr (4, [.ref wd])), (wd, .inl (cI, 16, .inl dp))] s.heap := hP
  have hl := lv_entry ([.ref w, .int p0]) (n := 2) (Nat.le_of_ble_eq_true rfl)
  rw [lg_entry_eq]
  generalize (lg_sl ([.ref w, .int p0]) ++ List.replicate (2 - (lg_sl ([.ref w, .int p0])).length) Slot.unset).toArray = ls at hl ⊢
  have hl : lv_has ls 2 [(0, .ref w), (1, .int p0)] := hl
  refine lv_iload_n hx hb dX4_depthAt_0 rfl (lv_at hl 1 rfl) ?_
  refine go_R (r := (bI (k_isPoint p0))) (va_runSN (As := [.int p0]) (rest := []) ⟨hx, hb, hml, hown, hg⟩ (kX5_isPoint l dC dI B cI cC cJ p0) ⟨va_cnB 1 hg (gi_N w_377) rfl rfl rfl (st_B.nM hT (q := ("HarbourText$Ways", 15, yX5_isPoint)) (List.mem_of_getElem? (i := 10) rfl)) (hg _ w_2) (by decide +kernel) ⟨Nat.le_of_ble_eq_true rfl, Nat.le_of_ble_eq_true rfl⟩, hg _ w_376, trivial⟩ (pre_RS (hP.sub [] rfl) hK hT) rfl rfl hl.1 rfl (lv_room (Nat.le_of_ble_eq_true rfl)) dX4_depthAt_1 ⟨Nat.le_of_ble_eq_true rfl, Nat.le_of_ble_eq_true rfl⟩) ?_
  refine lv_if_eq (tgt := 16) hx hb dX4_depthAt_4 (by decide) (fun c_1 => ?_) (fun c_1 => ?_)
  · skip
    have c_1 := bI_eq0 c_1
    refine lv_iconst (v := 0) hx hb dX4_depthAt_16 (by decide) ?_
    exact W.iret (v := 0) hx hb hr (fun t ht hW => rd_end (by simp [k_depthAt, c_1]) ht) (fun q h => by cases h) dX4_depthAt_17
  · skip
    have c_1 := bI_ne0 c_1
    refine lv_aload_n hx hb dX4_depthAt_7 rfl (lv_at hl 0 rfl) ?_
    refine va_get (D := (dC, dI)) (ci := 4) (v := .ref wd) (C := RX4) (T := TX4) (N := 1) hx hb hg in_X4 hown hK hP 0 rfl rfl 0 (by decide) (hg _ w_75) (fun _ h9 => h9) rfl dX4_depthAt_8 ?_
    refine lv_iload_n hx hb dX4_depthAt_11 rfl (lv_at hl 1 rfl) ?_
    refine va_iald (i := p0) hx hb hK hP 1 0 rfl rfl (pt_in c_1) dX4_depthAt_12 ?_
    refine lv_goto (tgt := 17) hx hb dX4_depthAt_13 (by decide) ?_
    exact W.iret (v := dp p0.toNatClampNeg) hx hb hr (fun t ht hW => rd_end (by simp [k_depthAt, c_1]) ht) (fun q h => by cases h) dX4_depthAt_17
set_option maxHeartbeats 4000000 in
set_option maxRecDepth 100000 in
theorem kX4_deepen (l : Launch) (dC : Nat → ClassId) (dI : Nat → Nat → Nat) (B : Nat) (cI cC cJ : ClassId) (w : Nat) (wd : Nat) (dp : Nat → Int32) (p0 : Int32) (p1 : Int32) (p2 : Int32) (b1 : Bool) (dp1 : Nat → Int32) (hF : k_deepen dp p0 p1 p2 = (b1, dp1)) (sz9 : Nat) : Met l yX4_deepen wsX4_deepen ({ frames := 1, cells := 0, slots := 0, locals := 20 }) (q_Mp (dC, dI) vwCl [.ref w, .int p0, .int p1, .int p2] [(w, .inr (4, [.ref wd])), (wd, .inl (cI, 16, .inl dp))] [(cI, .int), (cC, .char), (cJ, .long)] B sz9) (q_Mq (dC, dI) vwCl [(w, .inr (4, [.ref wd])), (wd, .inl (cI, 16, .inl dp1))] (va_A [(w, .inr (4, [.ref wd])), (wd, .inl (cI, 16, .inl dp))] sz9) (some (.int (bI b1)))) 0 0 (va_A [(w, .inr (4, [.ref wd])), (wd, .inl (cI, 16, .inl dp))] sz9) := by
  refine Met.ofW (cc := cX4_deepen) (maxL := 5) (ret := (some .boolean)) (by decide) rfl ?_
  intro p e s m args below meth c s₁ Bd hml hv
  obtain ⟨rfl, hsz9, hB, hP, hK, hD0, hT⟩ := hv
  have hx := Bd.exec
  have hb := Bd.bytes
  have hr := Bd.returns
  have hts := atoms_spec (ws := wsX4_deepen) Bd.pre
  have hg : ∀ w ∈ lw_good, w.before _ s = true := fun w h => hts w (List.mem_cons_of_mem _ h)
  have hown : s.vm.findClass RX4 = some m.cls := findClass_of_methodNamed Bd.named
  have hlocks := Bd.notSynchronized
  subst hsz9
  have hD := hD0.self (sz := s.heap.size)
  generalize hAe : va_A [(w, .inr (4, [.ref wd])), (wd, .inl (cI, 16, .inl dp))] s.heap.size = A at hD ⊢
  have hA : ∀ q : Nat, s.heap.size ≤ q → A q := fun q h => by rw [← hAe]; exact Or.inr h
  have hAB : ∀ q, A q → B ≤ q := by rw [← hAe]; exact va_A.ge hD0 hB
  have hS : va_S A s.heap s.heap [] := va_S.rf
  have hP : va_P (dC, dI) vwCl [(w, .inr (4, [.ref wd])), (wd, .inl (cI, 16, .inl dp))] s.heap := hP
  have hl := lv_entry ([.ref w, .int p0, .int p1, .int p2]) (n := 5) (Nat.le_of_ble_eq_true rfl)
  rw [lg_entry_eq]
  generalize (lg_sl ([.ref w, .int p0, .int p1, .int p2]) ++ List.replicate (5 - (lg_sl ([.ref w, .int p0, .int p1, .int p2])).length) Slot.unset).toArray = ls at hl ⊢
  have hl : lv_has ls 5 [(0, .ref w), (1, .int p0), (2, .int p1), (3, .int p2)] := hl
  refine lv_iload_n hx hb dX4_deepen_0 rfl (lv_at hl 1 rfl) ?_
  refine go_R (r := (bI (k_isPoint p0))) (va_runSN (As := [.int p0]) (rest := []) ⟨hx, hb, hml, hown, hg⟩ (kX5_isPoint l dC dI B cI cC cJ p0) ⟨va_cnB 1 hg (gi_N w_377) rfl rfl rfl (st_B.nM hT (q := ("HarbourText$Ways", 15, yX5_isPoint)) (List.mem_of_getElem? (i := 10) rfl)) (hg _ w_2) (by decide +kernel) ⟨Nat.le_of_ble_eq_true rfl, Nat.le_of_ble_eq_true rfl⟩, hg _ w_376, trivial⟩ (pre_RS (hP.sub [] rfl) hK hT) rfl rfl hl.1 rfl (lv_room (Nat.le_of_ble_eq_true rfl)) dX4_deepen_1 ⟨Nat.le_of_ble_eq_true rfl, Nat.le_of_ble_eq_true rfl⟩) ?_
  refine lv_if_eq (tgt := 14) hx hb dX4_deepen_4 (by decide) (fun c_1 => ?_) (fun c_1 => ?_)
  · skip
    have c_1 := bI_eq0 c_1
    refine lv_iconst (v := 0) hx hb dX4_deepen_14 (by decide) ?_
    have hP9 := hP
    have hS9 := hS
    have h9 : k_deepen dp p0 p1 p2 = (false, dp) := by simp [k_deepen, c_1]
    have h9 := hF.symm.trans h9
    cases h9
    exact W.zret (ty := .boolean) hx hb hr rfl (fun t ht hW => ⟨rfl, by rw [ht]; exact hP9, hS9.F ht⟩) hS9.2.2 dX4_deepen_15
  · skip
    have c_1 := bI_ne0 c_1
    refine lv_iload_n hx hb dX4_deepen_7 rfl (lv_at hl 2 rfl) ?_
    refine go_R (r := (bI (k_isPoint p1))) (va_runSN (As := [.int p1]) (rest := []) ⟨hx, hb, hml, hown, hg⟩ (kX5_isPoint l dC dI B cI cC cJ p1) ⟨va_cnB 1 hg (gi_N w_377) rfl rfl rfl (st_B.nM hT (q := ("HarbourText$Ways", 15, yX5_isPoint)) (List.mem_of_getElem? (i := 10) rfl)) (hg _ w_2) (by decide +kernel) ⟨Nat.le_of_ble_eq_true rfl, Nat.le_of_ble_eq_true rfl⟩, hg _ w_376, trivial⟩ (pre_RS (hP.sub [] rfl) hK hT) rfl rfl hl.1 rfl (lv_room (Nat.le_of_ble_eq_true rfl)) dX4_deepen_8 ⟨Nat.le_of_ble_eq_true rfl, Nat.le_of_ble_eq_true rfl⟩) ?_
    refine lv_if_ne (tgt := 16) hx hb dX4_deepen_11 (by decide) (fun c_2 => ?_) (fun c_2 => ?_)
    · skip
      have c_2 := bI_ne0 c_2
      refine lv_aload_n hx hb dX4_deepen_16 rfl (lv_at hl 0 rfl) ?_
      refine va_get (D := (dC, dI)) (ci := 4) (v := .ref wd) (C := RX4) (T := TX4) (N := 1) hx hb hg in_X4 hown hK hP 0 rfl rfl 0 (by decide) (hg _ w_75) (fun _ h9 => h9) rfl dX4_deepen_17 ?_
      refine lv_iload_n hx hb dX4_deepen_20 rfl (lv_at hl 1 rfl) ?_
      refine va_iald (i := p0) hx hb hK hP 1 0 rfl rfl (pt_in c_1) dX4_deepen_21 ?_
      refine lv_iload_n hx hb dX4_deepen_22 rfl (lv_at hl 3 rfl) ?_
      refine va_mmin hx hb (hml.trans hl.1.symm) hown (hg _ w_378) (hg _ w_379) (hg _ w_14) (hg _ w_380) (Nat.le_of_ble_eq_true rfl) (Nat.le_of_ble_eq_true rfl) (Nat.zero_le _) (Nat.zero_le _) dX4_deepen_23 ?_
      refine lv_istore (lv' := [(4, .int (if p2 < dp p0.toNatClampNeg then p2 else dp p0.toNatClampNeg)), (0, .ref w), (1, .int p0), (2, .int p1), (3, .int p2)]) hx hb dX4_deepen_26 hl (by decide) rfl (fun ls hl => ?_)
      refine lv_iload hx hb dX4_deepen_28 (lv_at hl 0 rfl) ?_
      refine lv_aload_n hx hb dX4_deepen_30 rfl (lv_at hl 1 rfl) ?_
      refine va_get (D := (dC, dI)) (ci := 4) (v := .ref wd) (C := RX4) (T := TX4) (N := 1) hx hb hg in_X4 hown hK hP 0 rfl rfl 0 (by decide) (hg _ w_75) (fun _ h9 => h9) rfl dX4_deepen_31 ?_
      refine lv_iload_n hx hb dX4_deepen_34 rfl (lv_at hl 3 rfl) ?_
      refine va_iald (i := p1) hx hb hK hP 1 0 rfl rfl (pt_in c_2) dX4_deepen_35 ?_
      refine lv_icmp_gt (tgt := 41) hx hb dX4_deepen_36 (by decide) (fun c_3 => ?_) (fun c_3 => ?_)
      · skip
        refine lv_aload_n hx hb dX4_deepen_41 rfl (lv_at hl 1 rfl) ?_
        refine va_get (D := (dC, dI)) (ci := 4) (v := .ref wd) (C := RX4) (T := TX4) (N := 1) hx hb hg in_X4 hown hK hP 0 rfl rfl 0 (by decide) (hg _ w_75) (fun _ h9 => h9) rfl dX4_deepen_42 ?_
        refine lv_iload_n hx hb dX4_deepen_45 rfl (lv_at hl 3 rfl) ?_
        refine lv_iload hx hb dX4_deepen_46 (lv_at hl 0 rfl) ?_
        refine va_iast (i := p1) hx hb hK hP hD hS 1 0 rfl rfl (pt_in c_2) dX4_deepen_48 (fun H locs hP hD hS => ?_)
        have hP : va_P (dC, dI) vwCl [(w, .inr (4, [.ref wd])), (wd, .inl (cI, 16, .inl (upd dp p1.toNatClampNeg (if p2 < dp p0.toNatClampNeg then p2 else dp p0.toNatClampNeg))))] H := hP
        have hD : va_D A [(w, .inr (4, [.ref wd])), (wd, .inl (cI, 16, .inl (upd dp p1.toNatClampNeg (if p2 < dp p0.toNatClampNeg then p2 else dp p0.toNatClampNeg))))] := hD
        refine lv_iconst (v := 1) hx hb dX4_deepen_49 (by decide) ?_
        have hP9 := hP
        have hS9 := hS
        have h9 : k_deepen dp p0 p1 p2 = (true, upd dp p1.toNatClampNeg (if p2 < dp p0.toNatClampNeg then p2 else dp p0.toNatClampNeg)) := by simp [k_deepen, c_1, c_2, c_3]
        have h9 := hF.symm.trans h9
        cases h9
        exact W.zret (ty := .boolean) hx hb hr rfl (fun t ht hW => ⟨rfl, by rw [ht]; exact hP9, hS9.F ht⟩) hS9.2.2 dX4_deepen_50
      · skip
        refine lv_iconst (v := 0) hx hb dX4_deepen_39 (by decide) ?_
        have hP9 := hP
        have hS9 := hS
        have h9 : k_deepen dp p0 p1 p2 = (false, dp) := by simp [k_deepen, c_1, c_2, c_3]
        have h9 := hF.symm.trans h9
        cases h9
        exact W.zret (ty := .boolean) hx hb hr rfl (fun t ht hW => ⟨rfl, by rw [ht]; exact hP9, hS9.F ht⟩) hS9.2.2 dX4_deepen_40
    · skip
      have c_2 := bI_eq0 c_2
      refine lv_iconst (v := 0) hx hb dX4_deepen_14 (by decide) ?_
      have hP9 := hP
      have hS9 := hS
      have h9 : k_deepen dp p0 p1 p2 = (false, dp) := by simp [k_deepen, c_1, c_2]
      have h9 := hF.symm.trans h9
      cases h9
      exact W.zret (ty := .boolean) hx hb hr rfl (fun t ht hW => ⟨rfl, by rw [ht]; exact hP9, hS9.F ht⟩) hS9.2.2 dX4_deepen_15
set_option maxHeartbeats 4000000 in
set_option maxRecDepth 100000 in
theorem kX4_spreadAlong (l : Launch) (dC : Nat → ClassId) (dI : Nat → Nat → Nat) (B : Nat) (cI cC cJ : ClassId) (w : Nat) (wd : Nat) (dp : Nat → Int32) (h : Nat) (hk : Nat) (hn : Nat) (hu : Nat) (ks : Nat → Int32) (ns : Nat → Int32) (us : Nat → Int32) (sz : Nat) (p1 : Int32) (b1 : Bool) (dp1 : Nat → Int32) (hsz : sz ≤ 50) (hF : k_along ks us sz p1 dp = (b1, dp1)) (sz9 : Nat) : Met l yX4_spreadAlong wsX4_spreadAlong ({ frames := 2, cells := 0, slots := 0, locals := 44 }) (q_Mp (dC, dI) vwCl [.ref w, .ref h, .int p1] [(w, .inr (4, [.ref wd])), (wd, .inl (cI, 16, .inl dp)), (h, .inr (1, [.ref hk, .ref hn, .ref hu, .int (nI sz)])), (hk, .inl (cI, 50, .inl ks)), (hn, .inl (cI, 50, .inl ns)), (hu, .inl (cI, 200, .inl us))] [(cI, .int), (cC, .char), (cJ, .long)] B sz9) (q_Mq (dC, dI) vwCl [(w, .inr (4, [.ref wd])), (wd, .inl (cI, 16, .inl dp1)), (h, .inr (1, [.ref hk, .ref hn, .ref hu, .int (nI sz)])), (hk, .inl (cI, 50, .inl ks)), (hn, .inl (cI, 50, .inl ns)), (hu, .inl (cI, 200, .inl us))] (va_A [(w, .inr (4, [.ref wd])), (wd, .inl (cI, 16, .inl dp)), (h, .inr (1, [.ref hk, .ref hn, .ref hu, .int (nI sz)])), (hk, .inl (cI, 50, .inl ks)), (hn, .inl (cI, 50, .inl ns)), (hu, .inl (cI, 200, .inl us))] sz9) (some (.int (bI b1)))) 0 0 (va_A [(w, .inr (4, [.ref wd])), (wd, .inl (cI, 16, .inl dp)), (h, .inr (1, [.ref hk, .ref hn, .ref hu, .int (nI sz)])), (hk, .inl (cI, 50, .inl ks)), (hn, .inl (cI, 50, .inl ns)), (hu, .inl (cI, 200, .inl us))] sz9) := by
  refine Met.ofW (cc := cX4_spreadAlong) (maxL := 6) (ret := (some .boolean)) (by decide) rfl ?_
  intro p e s m args below meth c s₁ Bd hml hv
  obtain ⟨rfl, hsz9, hB, hP, hK, hD0, hT⟩ := hv
  have hx := Bd.exec
  have hb := Bd.bytes
  have hr := Bd.returns
  have hts := atoms_spec (ws := wsX4_spreadAlong) Bd.pre
  have hg : ∀ w ∈ lw_good, w.before _ s = true := fun w h => hts w (List.mem_cons_of_mem _ h)
  have hown : s.vm.findClass RX4 = some m.cls := findClass_of_methodNamed Bd.named
  have hlocks := Bd.notSynchronized
  subst hsz9
  have hD := hD0.self (sz := s.heap.size)
  generalize hAe : va_A [(w, .inr (4, [.ref wd])), (wd, .inl (cI, 16, .inl dp)), (h, .inr (1, [.ref hk, .ref hn, .ref hu, .int (nI sz)])), (hk, .inl (cI, 50, .inl ks)), (hn, .inl (cI, 50, .inl ns)), (hu, .inl (cI, 200, .inl us))] s.heap.size = A at hD ⊢
  have hA : ∀ q : Nat, s.heap.size ≤ q → A q := fun q h => by rw [← hAe]; exact Or.inr h
  have hAB : ∀ q, A q → B ≤ q := by rw [← hAe]; exact va_A.ge hD0 hB
  have hS : va_S A s.heap s.heap [] := va_S.rf
  have hP : va_P (dC, dI) vwCl [(w, .inr (4, [.ref wd])), (wd, .inl (cI, 16, .inl dp)), (h, .inr (1, [.ref hk, .ref hn, .ref hu, .int (nI sz)])), (hk, .inl (cI, 50, .inl ks)), (hn, .inl (cI, 50, .inl ns)), (hu, .inl (cI, 200, .inl us))] s.heap := hP
  have hl := lv_entry ([.ref w, .ref h, .int p1]) (n := 6) (Nat.le_of_ble_eq_true rfl)
  rw [lg_entry_eq]
  generalize (lg_sl ([.ref w, .ref h, .int p1]) ++ List.replicate (6 - (lg_sl ([.ref w, .ref h, .int p1])).length) Slot.unset).toArray = ls at hl ⊢
  have hl : lv_has ls 6 [(0, .ref w), (1, .ref h), (2, .int p1)] := hl
  refine lv_aload_n hx hb dX4_spreadAlong_0 rfl (lv_at hl 1 rfl) ?_
  refine lv_iload_n hx hb dX4_spreadAlong_1 rfl (lv_at hl 2 rfl) ?_
  refine lv_iconst (v := 0) hx hb dX4_spreadAlong_2 (by decide) ?_
  refine go_R (r := k_num us sz p1 0) (va_runV (As := [.int p1, .int 0]) (rest := []) ⟨hx, hb, hml, hown, hg⟩ (kX1_numberOf l dC dI B cI cC cJ h hk hn hu ks ns us sz p1 0 (by omega)) (cwV 2 hg (gi_V w_372 w_216 w_217 w_4 w_218) rfl rfl rfl (by decide +kernel) ⟨Nat.le_of_ble_eq_true rfl, Nat.le_of_ble_eq_true rfl⟩) (pre_RV (va_recv hK hP (ci := 1) (q0 := 2) rfl rfl) (hP.sub [2, 3, 4, 5] rfl) hK hT) rfl rfl hl.1 rfl (lv_room (Nat.le_of_ble_eq_true rfl)) dX4_spreadAlong_3 ⟨Nat.le_of_ble_eq_true rfl, Nat.le_of_ble_eq_true rfl⟩) ?_
  refine lv_istore_n (lv' := [(3, .int (k_num us sz p1 0)), (0, .ref w), (1, .ref h), (2, .int p1)]) hx hb dX4_spreadAlong_6 rfl hl (by decide) rfl (fun ls hl => ?_)
  refine lv_aload_n hx hb dX4_spreadAlong_7 rfl (lv_at hl 2 rfl) ?_
  refine lv_iload_n hx hb dX4_spreadAlong_8 rfl (lv_at hl 3 rfl) ?_
  refine lv_iconst (v := 1) hx hb dX4_spreadAlong_9 (by decide) ?_
  refine go_R (r := k_num us sz p1 1) (va_runV (As := [.int p1, .int 1]) (rest := []) ⟨hx, hb, hml, hown, hg⟩ (kX1_numberOf l dC dI B cI cC cJ h hk hn hu ks ns us sz p1 1 (by omega)) (cwV 2 hg (gi_V w_372 w_216 w_217 w_4 w_218) rfl rfl rfl (by decide +kernel) ⟨Nat.le_of_ble_eq_true rfl, Nat.le_of_ble_eq_true rfl⟩) (pre_RV (va_recv hK hP (ci := 1) (q0 := 2) rfl rfl) (hP.sub [2, 3, 4, 5] rfl) hK hT) rfl rfl hl.1 rfl (lv_room (Nat.le_of_ble_eq_true rfl)) dX4_spreadAlong_10 ⟨Nat.le_of_ble_eq_true rfl, Nat.le_of_ble_eq_true rfl⟩) ?_
  refine lv_istore (lv' := [(4, .int (k_num us sz p1 1)), (3, .int (k_num us sz p1 0)), (0, .ref w), (1, .ref h), (2, .int p1)]) hx hb dX4_spreadAlong_13 hl (by decide) rfl (fun ls hl => ?_)
  refine lv_aload_n hx hb dX4_spreadAlong_15 rfl (lv_at hl 3 rfl) ?_
  refine lv_iload_n hx hb dX4_spreadAlong_16 rfl (lv_at hl 4 rfl) ?_
  refine go_R (r := k_get ks sz p1) (va_runV (As := [.int p1]) (rest := []) ⟨hx, hb, hml, hown, hg⟩ (kX1_kindOf l dC dI B cI cC cJ h hk hn hu ks ns us sz p1 (by omega)) (cwV 1 hg (gi_V w_368 w_206 w_207 w_4 w_208) rfl rfl rfl (by decide +kernel) ⟨Nat.le_of_ble_eq_true rfl, Nat.le_of_ble_eq_true rfl⟩) (pre_RV (va_recv hK hP (ci := 1) (q0 := 2) rfl rfl) (hP.sub [2, 3, 4, 5] rfl) hK hT) rfl rfl hl.1 rfl (lv_room (Nat.le_of_ble_eq_true rfl)) dX4_spreadAlong_17 ⟨Nat.le_of_ble_eq_true rfl, Nat.le_of_ble_eq_true rfl⟩) ?_
  refine lv_iconst (v := 4) hx hb dX4_spreadAlong_20 (by decide) ?_
  refine lv_icmp_ne (tgt := 34) hx hb dX4_spreadAlong_21 (by decide) (fun c_1 => ?_) (fun c_1 => ?_)
  · skip
    refine lv_aload_n hx hb dX4_spreadAlong_34 rfl (lv_at hl 3 rfl) ?_
    refine lv_iload_n hx hb dX4_spreadAlong_35 rfl (lv_at hl 4 rfl) ?_
    refine lv_iconst (v := 3) hx hb dX4_spreadAlong_36 (by decide) ?_
    refine go_R (r := k_num us sz p1 3) (va_runV (As := [.int p1, .int 3]) (rest := []) ⟨hx, hb, hml, hown, hg⟩ (kX1_numberOf l dC dI B cI cC cJ h hk hn hu ks ns us sz p1 3 (by omega)) (cwV 2 hg (gi_V w_372 w_216 w_217 w_4 w_218) rfl rfl rfl (by decide +kernel) ⟨Nat.le_of_ble_eq_true rfl, Nat.le_of_ble_eq_true rfl⟩) (pre_RV (va_recv hK hP (ci := 1) (q0 := 2) rfl rfl) (hP.sub [2, 3, 4, 5] rfl) hK hT) rfl rfl hl.1 rfl (lv_room (Nat.le_of_ble_eq_true rfl)) dX4_spreadAlong_37 ⟨Nat.le_of_ble_eq_true rfl, Nat.le_of_ble_eq_true rfl⟩) ?_
    refine lv_istore (lv' := [(5, .int (k_num us sz p1 3)), (4, .int (k_num us sz p1 1)), (3, .int (k_num us sz p1 0)), (0, .ref w), (1, .ref h), (2, .int p1)]) hx hb dX4_spreadAlong_40 hl (by decide) rfl (fun ls hl => ?_)
    refine lv_aload_n hx hb dX4_spreadAlong_42 rfl (lv_at hl 3 rfl) ?_
    refine lv_iload_n hx hb dX4_spreadAlong_43 rfl (lv_at hl 2 rfl) ?_
    refine lv_iload hx hb dX4_spreadAlong_44 (lv_at hl 1 rfl) ?_
    refine lv_iload hx hb dX4_spreadAlong_46 (lv_at hl 0 rfl) ?_
    obtain ⟨b1_2, dp1_2, hF_2⟩ : ∃ (b1_2 : Bool) (dp1_2 : Nat → Int32), k_deepen dp (k_num us sz p1 0) (k_num us sz p1 1) (k_num us sz p1 3) = (b1_2, dp1_2) := ⟨_, _, rfl⟩
    refine go_M (r := some (.int (bI b1_2))) (wc' := [(w, .inr (4, [.ref wd])), (wd, .inl (cI, 16, .inl dp1_2))]) (w2 := [(w, .inr (4, [.ref wd])), (wd, .inl (cI, 16, .inl dp1_2)), (h, .inr (1, [.ref hk, .ref hn, .ref hu, .int (nI sz)])), (hk, .inl (cI, 50, .inl ks)), (hn, .inl (cI, 50, .inl ns)), (hu, .inl (cI, 200, .inl us))]) [0, 1] (va_runV (As := [.int (k_num us sz p1 0), .int (k_num us sz p1 1), .int (k_num us sz p1 3)]) (rest := []) ⟨hx, hb, hml, hown, hg⟩ (kX4_deepen l dC dI B cI cC cJ w wd dp (k_num us sz p1 0) (k_num us sz p1 1) (k_num us sz p1 3) b1_2 dp1_2 hF_2 _) (cwV 3 hg (gi_V w_373 w_374 w_691 w_5 w_375) rfl rfl rfl (by decide +kernel) ⟨Nat.le_of_ble_eq_true rfl, Nat.le_of_ble_eq_true rfl⟩) (pre_MV (va_recv hK hP (ci := 4) (q0 := 0) rfl rfl) (Nat.le_trans hB hS.1) (hP.sub [0, 1] rfl) hK ((hD.weaken (fun _ _ _ h => hAB _ h)).sub [0, 1] (by decide) rfl) hT) rfl rfl hl.1 rfl (lv_room (Nat.le_of_ble_eq_true rfl)) dX4_spreadAlong_48 ⟨Nat.le_of_ble_eq_true rfl, Nat.le_of_ble_eq_true rfl⟩) hP hD hS hA rfl (Nat.le_of_ble_eq_true rfl) rfl rfl (fun H locs hP hD hS => ?_)
    refine W.eq (g2 := F0 m 51 ls [.int (bI b1_2)]) rfl ?_
    refine lv_if_ne (tgt := 66) hx hb dX4_spreadAlong_51 (by decide) (fun c_3 => ?_) (fun c_3 => ?_)
    · skip
      have c_3 := bI_ne0 c_3
      refine lv_iconst (v := 1) hx hb dX4_spreadAlong_66 (by decide) ?_
      refine lv_goto (tgt := 71) hx hb dX4_spreadAlong_67 (by decide) ?_
      have hP9 := hP
      have hS9 := hS
      have h9 : k_along ks us sz p1 dp = (true, dp1_2) := by simp [k_along, c_1, hF_2, c_3]
      have h9 := hF.symm.trans h9
      cases h9
      exact W.zret (ty := .boolean) hx hb hr rfl (fun t ht hW => ⟨rfl, by rw [ht]; exact hP9, hS9.F ht⟩) hS9.2.2 dX4_spreadAlong_71
    · skip
      have c_3 := bI_eq0 c_3
      refine lv_aload_n hx hb dX4_spreadAlong_54 rfl (lv_at hl 3 rfl) ?_
      refine lv_iload hx hb dX4_spreadAlong_55 (lv_at hl 1 rfl) ?_
      refine lv_iload_n hx hb dX4_spreadAlong_57 rfl (lv_at hl 2 rfl) ?_
      refine lv_iload hx hb dX4_spreadAlong_58 (lv_at hl 0 rfl) ?_
      obtain ⟨b1_4, dp1_4, hF_4⟩ : ∃ (b1_4 : Bool) (dp1_4 : Nat → Int32), k_deepen dp1_2 (k_num us sz p1 1) (k_num us sz p1 0) (k_num us sz p1 3) = (b1_4, dp1_4) := ⟨_, _, rfl⟩
      refine go_M (r := some (.int (bI b1_4))) (wc' := [(w, .inr (4, [.ref wd])), (wd, .inl (cI, 16, .inl dp1_4))]) (w2 := [(w, .inr (4, [.ref wd])), (wd, .inl (cI, 16, .inl dp1_4)), (h, .inr (1, [.ref hk, .ref hn, .ref hu, .int (nI sz)])), (hk, .inl (cI, 50, .inl ks)), (hn, .inl (cI, 50, .inl ns)), (hu, .inl (cI, 200, .inl us))]) [0, 1] (va_runV (As := [.int (k_num us sz p1 1), .int (k_num us sz p1 0), .int (k_num us sz p1 3)]) (rest := []) ⟨hx, hb, hml, hown, hg⟩ (kX4_deepen l dC dI B cI cC cJ w wd dp1_2 (k_num us sz p1 1) (k_num us sz p1 0) (k_num us sz p1 3) b1_4 dp1_4 hF_4 _) (cwV 3 hg (gi_V w_373 w_374 w_691 w_5 w_375) rfl rfl rfl (by decide +kernel) ⟨Nat.le_of_ble_eq_true rfl, Nat.le_of_ble_eq_true rfl⟩) (pre_MV (va_recv hK hP (ci := 4) (q0 := 0) rfl rfl) (Nat.le_trans hB hS.1) (hP.sub [0, 1] rfl) hK ((hD.weaken (fun _ _ _ h => hAB _ h)).sub [0, 1] (by decide) rfl) (hT.kept (hS.mono hAB))) rfl rfl hl.1 rfl (lv_room (Nat.le_of_ble_eq_true rfl)) dX4_spreadAlong_60 ⟨Nat.le_of_ble_eq_true rfl, Nat.le_of_ble_eq_true rfl⟩) hP hD hS hA rfl (Nat.le_of_ble_eq_true rfl) rfl rfl (fun H locs hP hD hS => ?_)
      refine W.eq (g2 := F0 m 63 ls [.int (bI b1_4)]) rfl ?_
      refine lv_if_eq (tgt := 70) hx hb dX4_spreadAlong_63 (by decide) (fun c_5 => ?_) (fun c_5 => ?_)
      · skip
        have c_5 := bI_eq0 c_5
        refine lv_iconst (v := 0) hx hb dX4_spreadAlong_70 (by decide) ?_
        have hP9 := hP
        have hS9 := hS
        have h9 : k_along ks us sz p1 dp = (false, dp1_4) := by simp [k_along, c_1, hF_2, c_3, hF_4, c_5]
        have h9 := hF.symm.trans h9
        cases h9
        exact W.zret (ty := .boolean) hx hb hr rfl (fun t ht hW => ⟨rfl, by rw [ht]; exact hP9, hS9.F ht⟩) hS9.2.2 dX4_spreadAlong_71
      · skip
        have c_5 := bI_ne0 c_5
        refine lv_iconst (v := 1) hx hb dX4_spreadAlong_66 (by decide) ?_
        refine lv_goto (tgt := 71) hx hb dX4_spreadAlong_67 (by decide) ?_
        have hP9 := hP
        have hS9 := hS
        have h9 : k_along ks us sz p1 dp = (true, dp1_4) := by simp [k_along, c_1, hF_2, c_3, hF_4, c_5]
        have h9 := hF.symm.trans h9
        cases h9
        exact W.zret (ty := .boolean) hx hb hr rfl (fun t ht hW => ⟨rfl, by rw [ht]; exact hP9, hS9.F ht⟩) hS9.2.2 dX4_spreadAlong_71
  · skip
    refine lv_aload_n hx hb dX4_spreadAlong_24 rfl (lv_at hl 2 rfl) ?_
    refine lv_iload_n hx hb dX4_spreadAlong_25 rfl (lv_at hl 1 rfl) ?_
    refine lv_iload hx hb dX4_spreadAlong_26 (lv_at hl 0 rfl) ?_
    refine lv_bipush (v := 99) hx hb dX4_spreadAlong_28 (by decide) ?_
    obtain ⟨b1_6, dp1_6, hF_6⟩ : ∃ (b1_6 : Bool) (dp1_6 : Nat → Int32), k_deepen dp (k_num us sz p1 0) (k_num us sz p1 1) 99 = (b1_6, dp1_6) := ⟨_, _, rfl⟩
    refine go_M (r := some (.int (bI b1_6))) (wc' := [(w, .inr (4, [.ref wd])), (wd, .inl (cI, 16, .inl dp1_6))]) (w2 := [(w, .inr (4, [.ref wd])), (wd, .inl (cI, 16, .inl dp1_6)), (h, .inr (1, [.ref hk, .ref hn, .ref hu, .int (nI sz)])), (hk, .inl (cI, 50, .inl ks)), (hn, .inl (cI, 50, .inl ns)), (hu, .inl (cI, 200, .inl us))]) [0, 1] (va_runV (As := [.int (k_num us sz p1 0), .int (k_num us sz p1 1), .int 99]) (rest := []) ⟨hx, hb, hml, hown, hg⟩ (kX4_deepen l dC dI B cI cC cJ w wd dp (k_num us sz p1 0) (k_num us sz p1 1) 99 b1_6 dp1_6 hF_6 _) (cwV 3 hg (gi_V w_373 w_374 w_691 w_5 w_375) rfl rfl rfl (by decide +kernel) ⟨Nat.le_of_ble_eq_true rfl, Nat.le_of_ble_eq_true rfl⟩) (pre_MV (va_recv hK hP (ci := 4) (q0 := 0) rfl rfl) (Nat.le_trans hB hS.1) (hP.sub [0, 1] rfl) hK ((hD.weaken (fun _ _ _ h => hAB _ h)).sub [0, 1] (by decide) rfl) hT) rfl rfl hl.1 rfl (lv_room (Nat.le_of_ble_eq_true rfl)) dX4_spreadAlong_30 ⟨Nat.le_of_ble_eq_true rfl, Nat.le_of_ble_eq_true rfl⟩) hP hD hS hA rfl (Nat.le_of_ble_eq_true rfl) rfl rfl (fun H locs hP hD hS => ?_)
    refine W.eq (g2 := F0 m 33 ls [.int (bI b1_6)]) rfl ?_
    have hP9 := hP
    have hS9 := hS
    have h9 : k_along ks us sz p1 dp = (b1_6, dp1_6) := by simp [k_along, c_1, hF_6]
    have h9 := hF.symm.trans h9
    cases h9
    exact W.zret (ty := .boolean) hx hb hr (bI_nar _) (fun t ht hW => ⟨rfl, by rw [ht]; exact hP9, hS9.F ht⟩) hS9.2.2 dX4_spreadAlong_33
set_option maxHeartbeats 4000000 in
set_option maxRecDepth 100000 in
theorem kX4_spreadOnce (l : Launch) (dC : Nat → ClassId) (dI : Nat → Nat → Nat) (B : Nat) (cI cC cJ : ClassId) (w : Nat) (wd : Nat) (dp : Nat → Int32) (h : Nat) (hk : Nat) (hn : Nat) (hu : Nat) (ks : Nat → Int32) (ns : Nat → Int32) (us : Nat → Int32) (sz : Nat) (p1 : Int32) (b1 : Bool) (dp1 : Nat → Int32) (hsz : sz ≤ 50) (hF : k_once ks us sz p1 0 false dp = (b1, dp1)) (sz9 : Nat) : Met l yX4_spreadOnce wsX4_spreadOnce ({ frames := 3, cells := 0, slots := 0, locals := 69 }) (q_Mp (dC, dI) vwCl [.ref w, .ref h, .int p1] [(w, .inr (4, [.ref wd])), (wd, .inl (cI, 16, .inl dp)), (h, .inr (1, [.ref hk, .ref hn, .ref hu, .int (nI sz)])), (hk, .inl (cI, 50, .inl ks)), (hn, .inl (cI, 50, .inl ns)), (hu, .inl (cI, 200, .inl us))] [(cI, .int), (cC, .char), (cJ, .long)] B sz9) (q_Mq (dC, dI) vwCl [(w, .inr (4, [.ref wd])), (wd, .inl (cI, 16, .inl dp1)), (h, .inr (1, [.ref hk, .ref hn, .ref hu, .int (nI sz)])), (hk, .inl (cI, 50, .inl ks)), (hn, .inl (cI, 50, .inl ns)), (hu, .inl (cI, 200, .inl us))] (va_A [(w, .inr (4, [.ref wd])), (wd, .inl (cI, 16, .inl dp)), (h, .inr (1, [.ref hk, .ref hn, .ref hu, .int (nI sz)])), (hk, .inl (cI, 50, .inl ks)), (hn, .inl (cI, 50, .inl ns)), (hu, .inl (cI, 200, .inl us))] sz9) (some (.int (bI b1)))) 0 0 (va_A [(w, .inr (4, [.ref wd])), (wd, .inl (cI, 16, .inl dp)), (h, .inr (1, [.ref hk, .ref hn, .ref hu, .int (nI sz)])), (hk, .inl (cI, 50, .inl ks)), (hn, .inl (cI, 50, .inl ns)), (hu, .inl (cI, 200, .inl us))] sz9) := by
  refine Met.ofW (cc := cX4_spreadOnce) (maxL := 6) (ret := (some .boolean)) (by decide) rfl ?_
  intro p e s m args below meth c s₁ Bd hml hv
  obtain ⟨rfl, hsz9, hB, hP, hK, hD0, hT⟩ := hv
  have hx := Bd.exec
  have hb := Bd.bytes
  have hr := Bd.returns
  have hts := atoms_spec (ws := wsX4_spreadOnce) Bd.pre
  have hg : ∀ w ∈ lw_good, w.before _ s = true := fun w h => hts w (List.mem_cons_of_mem _ h)
  have hown : s.vm.findClass RX4 = some m.cls := findClass_of_methodNamed Bd.named
  have hlocks := Bd.notSynchronized
  subst hsz9
  have hD := hD0.self (sz := s.heap.size)
  generalize hAe : va_A [(w, .inr (4, [.ref wd])), (wd, .inl (cI, 16, .inl dp)), (h, .inr (1, [.ref hk, .ref hn, .ref hu, .int (nI sz)])), (hk, .inl (cI, 50, .inl ks)), (hn, .inl (cI, 50, .inl ns)), (hu, .inl (cI, 200, .inl us))] s.heap.size = A at hD ⊢
  have hA : ∀ q : Nat, s.heap.size ≤ q → A q := fun q h => by rw [← hAe]; exact Or.inr h
  have hAB : ∀ q, A q → B ≤ q := by rw [← hAe]; exact va_A.ge hD0 hB
  have hS : va_S A s.heap s.heap [] := va_S.rf
  have hP : va_P (dC, dI) vwCl [(w, .inr (4, [.ref wd])), (wd, .inl (cI, 16, .inl dp)), (h, .inr (1, [.ref hk, .ref hn, .ref hu, .int (nI sz)])), (hk, .inl (cI, 50, .inl ks)), (hn, .inl (cI, 50, .inl ns)), (hu, .inl (cI, 200, .inl us))] s.heap := hP
  have hl := lv_entry ([.ref w, .ref h, .int p1]) (n := 6) (Nat.le_of_ble_eq_true rfl)
  rw [lg_entry_eq]
  generalize (lg_sl ([.ref w, .ref h, .int p1]) ++ List.replicate (6 - (lg_sl ([.ref w, .ref h, .int p1])).length) Slot.unset).toArray = ls at hl ⊢
  have hl : lv_has ls 6 [(0, .ref w), (1, .ref h), (2, .int p1)] := hl
  refine lv_iconst (v := 0) hx hb dX4_spreadOnce_0 (by decide) ?_
  refine lv_istore_n (lv' := [(3, .int 0), (0, .ref w), (1, .ref h), (2, .int p1)]) hx hb dX4_spreadOnce_1 rfl hl (by decide) rfl (fun ls hl => ?_)
  refine lv_aload_n hx hb dX4_spreadOnce_2 rfl (lv_at hl 2 rfl) ?_
  refine go_R (r := (nI sz)) (va_runV (As := []) (rest := []) ⟨hx, hb, hml, hown, hg⟩ (kX1_size l dC dI B cI cC cJ h hk hn hu ks ns us sz (by omega)) (cwV 0 hg (gi_V w_367 w_186 w_187 w_4 w_188) rfl rfl rfl (by decide +kernel) ⟨Nat.le_of_ble_eq_true rfl, Nat.le_of_ble_eq_true rfl⟩) (pre_RV (va_recv hK hP (ci := 1) (q0 := 2) rfl rfl) (hP.sub [2, 3, 4, 5] rfl) hK hT) rfl rfl hl.1 rfl (lv_room (Nat.le_of_ble_eq_true rfl)) dX4_spreadOnce_3 ⟨Nat.le_of_ble_eq_true rfl, Nat.le_of_ble_eq_true rfl⟩) ?_
  refine lv_istore (lv' := [(4, .int (nI sz)), (3, .int 0), (0, .ref w), (1, .ref h), (2, .int p1)]) hx hb dX4_spreadOnce_6 hl (by decide) rfl (fun ls hl => ?_)
  refine lv_iconst (v := 0) hx hb dX4_spreadOnce_8 (by decide) ?_
  refine lv_istore (lv' := [(5, .int 0), (4, .int (nI sz)), (3, .int 0), (0, .ref w), (1, .ref h), (2, .int p1)]) hx hb dX4_spreadOnce_9 hl (by decide) rfl (fun ls hl => ?_)
  refine loop_M (σ := Nat × Bool × (Nat → Int32)) (fun n x H locs ls => sz - x.1 < n ∧ x.1 ≤ sz ∧ k_once ks us sz p1 0 false dp = k_once ks us sz p1 x.1 x.2.1 x.2.2 ∧ va_P (dC, dI) vwCl [(w, .inr (4, [.ref wd])), (wd, .inl (cI, 16, .inl x.2.2)), (h, .inr (1, [.ref hk, .ref hn, .ref hu, .int (nI sz)])), (hk, .inl (cI, 50, .inl ks)), (hn, .inl (cI, 50, .inl ns)), (hu, .inl (cI, 200, .inl us))] H ∧ va_D A [(w, .inr (4, [.ref wd])), (wd, .inl (cI, 16, .inl x.2.2)), (h, .inr (1, [.ref hk, .ref hn, .ref hu, .int (nI sz)])), (hk, .inl (cI, 50, .inl ks)), (hn, .inl (cI, 50, .inl ns)), (hu, .inl (cI, 200, .inl us))] ∧ va_S A s.heap H locs ∧ lv_has ls 6 [(0, .ref w), (1, .ref h), (2, .int p1), (3, .int (bI x.2.1)), (4, .int (nI sz)), (5, .int (nI x.1))]) (fun n x H locs ls ih_1 hI => ?_) (fun x H locs ls hI => ?_) (n := (sz - 0) + 1) (x := (0, false, dp)) ⟨(Nat.lt_succ_self _), (by (try dsimp only); omega), rfl, hP, hD, hS, lv_sub hl [3, 4, 5, 2, 1, 0] rfl⟩
  · skip
    obtain ⟨k, ch, dpx⟩ := x
    obtain ⟨hfu, hk0, he, hP, hD, hS, hl⟩ := hI
    have hfu : sz - k < n + 1 := hfu
    have hk0 : k ≤ sz := hk0
    have he : k_once ks us sz p1 0 false dp = k_once ks us sz p1 k ch dpx := he
    have hP : va_P (dC, dI) vwCl [(w, .inr (4, [.ref wd])), (wd, .inl (cI, 16, .inl dpx)), (h, .inr (1, [.ref hk, .ref hn, .ref hu, .int (nI sz)])), (hk, .inl (cI, 50, .inl ks)), (hn, .inl (cI, 50, .inl ns)), (hu, .inl (cI, 200, .inl us))] H := hP
    have hD : va_D A [(w, .inr (4, [.ref wd])), (wd, .inl (cI, 16, .inl dpx)), (h, .inr (1, [.ref hk, .ref hn, .ref hu, .int (nI sz)])), (hk, .inl (cI, 50, .inl ks)), (hn, .inl (cI, 50, .inl ns)), (hu, .inl (cI, 200, .inl us))] := hD
    have hl : lv_has ls 6 [(0, .ref w), (1, .ref h), (2, .int p1), (3, .int (bI ch)), (4, .int (nI sz)), (5, .int (nI k))] := hl
    refine lv_iload hx hb dX4_spreadOnce_11 (lv_at hl 5 rfl) ?_
    refine lv_iload hx hb dX4_spreadOnce_13 (lv_at hl 4 rfl) ?_
    refine lv_icmp_ge (tgt := 46) hx hb dX4_spreadOnce_15 (by decide) (fun c_2 => ?_) (fun c_2 => ?_)
    · skip
      have c_2 := na_le (a := sz) (b := k) c_2 (by omega) (by omega)
      refine lv_iload_n hx hb dX4_spreadOnce_46 rfl (lv_at hl 3 rfl) ?_
      have hP9 := hP
      have hS9 := hS
      have h9 : k_once ks us sz p1 0 false dp = (ch, dpx) := by rw [he, k_once]; simp [c_2]
      have h9 := hF.symm.trans h9
      cases h9
      exact W.zret (ty := .boolean) hx hb hr (bI_nar _) (fun t ht hW => ⟨rfl, by rw [ht]; exact hP9, hS9.F ht⟩) hS9.2.2 dX4_spreadOnce_47
    · skip
      have c_2 := na_nle (a := sz) (b := k) c_2 (by omega) (by omega)
      refine lv_aload_n hx hb dX4_spreadOnce_18 rfl (lv_at hl 1 rfl) ?_
      refine lv_iload hx hb dX4_spreadOnce_19 (lv_at hl 5 rfl) ?_
      refine go_R (r := k_get ks sz (nI k)) (va_runV (As := [.int (nI k)]) (rest := []) ⟨hx, hb, hml, hown, hg⟩ (kX1_kindOf l dC dI B cI cC cJ h hk hn hu ks ns us sz (nI k) (by omega)) (cwV 1 hg (gi_V w_368 w_206 w_207 w_4 w_208) rfl rfl rfl (by decide +kernel) ⟨Nat.le_of_ble_eq_true rfl, Nat.le_of_ble_eq_true rfl⟩) (pre_RV (va_recv hK hP (ci := 1) (q0 := 2) rfl rfl) (hP.sub [2, 3, 4, 5] rfl) hK (hT.kept (hS.mono hAB))) rfl rfl hl.1 rfl (lv_room (Nat.le_of_ble_eq_true rfl)) dX4_spreadOnce_21 ⟨Nat.le_of_ble_eq_true rfl, Nat.le_of_ble_eq_true rfl⟩) ?_
      refine lv_iload_n hx hb dX4_spreadOnce_24 rfl (lv_at hl 2 rfl) ?_
      refine lv_icmp_ne (tgt := 40) hx hb dX4_spreadOnce_25 (by decide) (fun c_3 => ?_) (fun c_3 => ?_)
      · skip
        refine lv_iinc (v := (nI (k + 1))) (lv' := [(5, .int (nI (k + 1))), (0, .ref w), (1, .ref h), (2, .int p1), (3, .int (bI ch)), (4, .int (nI sz))]) hx hb dX4_spreadOnce_40 hl (k := 5) rfl (by rw [← nI_add]; rfl) (by decide) rfl (fun ls hl => ?_)
        refine lv_goto (tgt := 11) hx hb dX4_spreadOnce_43 (by decide) ?_
        exact ih_1 (k + 1, ch, dpx) _ _ _ ⟨(by (try dsimp only); omega), (by (try dsimp only); omega), (by (try dsimp only); rw [he, k_once]; simp [c_2, c_3]), hP, hD, hS, lv_sub hl [1, 2, 3, 4, 5, 0] rfl⟩
      · skip
        refine lv_aload_n hx hb dX4_spreadOnce_28 rfl (lv_at hl 0 rfl) ?_
        refine lv_aload_n hx hb dX4_spreadOnce_29 rfl (lv_at hl 1 rfl) ?_
        refine lv_iload hx hb dX4_spreadOnce_30 (lv_at hl 5 rfl) ?_
        obtain ⟨b1_4, dp1_4, hF_4⟩ : ∃ (b1_4 : Bool) (dp1_4 : Nat → Int32), k_along ks us sz (nI k) dpx = (b1_4, dp1_4) := ⟨_, _, rfl⟩
        refine go_M (r := some (.int (bI b1_4))) (wc' := [(w, .inr (4, [.ref wd])), (wd, .inl (cI, 16, .inl dp1_4)), (h, .inr (1, [.ref hk, .ref hn, .ref hu, .int (nI sz)])), (hk, .inl (cI, 50, .inl ks)), (hn, .inl (cI, 50, .inl ns)), (hu, .inl (cI, 200, .inl us))]) (w2 := [(w, .inr (4, [.ref wd])), (wd, .inl (cI, 16, .inl dp1_4)), (h, .inr (1, [.ref hk, .ref hn, .ref hu, .int (nI sz)])), (hk, .inl (cI, 50, .inl ks)), (hn, .inl (cI, 50, .inl ns)), (hu, .inl (cI, 200, .inl us))]) [0, 1, 2, 3, 4, 5] (va_runV (As := [.ref h, .int (nI k)]) (rest := []) ⟨hx, hb, hml, hown, hg⟩ (kX4_spreadAlong l dC dI B cI cC cJ w wd dpx h hk hn hu ks ns us sz (nI k) b1_4 dp1_4 (by omega) hF_4 _) (cwV 2 hg (gi_V w_369 w_370 w_690 w_5 w_371) rfl rfl rfl (by decide +kernel) ⟨Nat.le_of_ble_eq_true rfl, Nat.le_of_ble_eq_true rfl⟩) (pre_MV (va_recv hK hP (ci := 4) (q0 := 0) rfl rfl) (Nat.le_trans hB hS.1) (hP.sub [0, 1, 2, 3, 4, 5] rfl) hK ((hD.weaken (fun _ _ _ h => hAB _ h)).sub [0, 1, 2, 3, 4, 5] (by decide) rfl) (hT.kept (hS.mono hAB))) rfl rfl hl.1 rfl (lv_room (Nat.le_of_ble_eq_true rfl)) dX4_spreadOnce_32 ⟨Nat.le_of_ble_eq_true rfl, Nat.le_of_ble_eq_true rfl⟩) hP hD hS hA rfl (Nat.le_of_ble_eq_true rfl) rfl rfl (fun H locs hP hD hS => ?_)
        refine W.eq (g2 := F0 m 35 ls [.int (bI b1_4)]) rfl ?_
        refine lv_if_eq (tgt := 40) hx hb dX4_spreadOnce_35 (by decide) (fun c_5 => ?_) (fun c_5 => ?_)
        · skip
          have c_5 := bI_eq0 c_5
          refine lv_iinc (v := (nI (k + 1))) (lv' := [(5, .int (nI (k + 1))), (0, .ref w), (1, .ref h), (2, .int p1), (3, .int (bI ch)), (4, .int (nI sz))]) hx hb dX4_spreadOnce_40 hl (k := 5) rfl (by rw [← nI_add]; rfl) (by decide) rfl (fun ls hl => ?_)
          refine lv_goto (tgt := 11) hx hb dX4_spreadOnce_43 (by decide) ?_
          exact ih_1 (k + 1, ch, dp1_4) _ _ _ ⟨(by (try dsimp only); omega), (by (try dsimp only); omega), (by (try dsimp only); rw [he, k_once]; simp [c_2, c_3, hF_4, c_5]), hP, hD, hS, lv_sub hl [1, 2, 3, 4, 5, 0] rfl⟩
        · skip
          have c_5 := bI_ne0 c_5
          refine lv_iconst (v := 1) hx hb dX4_spreadOnce_38 (by decide) ?_
          refine lv_istore_n (lv' := [(3, .int 1), (0, .ref w), (1, .ref h), (2, .int p1), (4, .int (nI sz)), (5, .int (nI k))]) hx hb dX4_spreadOnce_39 rfl hl (by decide) rfl (fun ls hl => ?_)
          refine lv_iinc (v := (nI (k + 1))) (lv' := [(5, .int (nI (k + 1))), (3, .int 1), (0, .ref w), (1, .ref h), (2, .int p1), (4, .int (nI sz))]) hx hb dX4_spreadOnce_40 hl (k := 5) rfl (by rw [← nI_add]; rfl) (by decide) rfl (fun ls hl => ?_)
          refine lv_goto (tgt := 11) hx hb dX4_spreadOnce_43 (by decide) ?_
          exact ih_1 (k + 1, true, dp1_4) _ _ _ ⟨(by (try dsimp only); omega), (by (try dsimp only); omega), (by (try dsimp only); rw [he, k_once]; simp [c_2, c_3, hF_4, c_5]), hP, hD, hS, lv_sub hl [2, 3, 4, 1, 5, 0] rfl⟩
  · exact absurd hI.1 (Nat.not_lt_zero _)
set_option maxHeartbeats 4000000 in
set_option maxRecDepth 100000 in
theorem kX4_spread (l : Launch) (dC : Nat → ClassId) (dI : Nat → Nat → Nat) (B : Nat) (cI cC cJ : ClassId) (w : Nat) (wd : Nat) (dp : Nat → Int32) (h : Nat) (hk : Nat) (hn : Nat) (hu : Nat) (ks : Nat → Int32) (ns : Nat → Int32) (us : Nat → Int32) (sz : Nat) (p1 : Int32) (p2 : Int32) (dp1 : Nat → Int32) (hsz : sz ≤ 50) (hF : k_spread ks us sz p1 p2 dp = dp1) (sz9 : Nat) : Met l yX4_spread wsX4_spread ({ frames := 4, cells := 0, slots := 0, locals := 94 }) (q_Mp (dC, dI) vwCl [.ref w, .ref h, .int p1, .int p2] [(w, .inr (4, [.ref wd])), (wd, .inl (cI, 16, .inl dp)), (h, .inr (1, [.ref hk, .ref hn, .ref hu, .int (nI sz)])), (hk, .inl (cI, 50, .inl ks)), (hn, .inl (cI, 50, .inl ns)), (hu, .inl (cI, 200, .inl us))] [(cI, .int), (cC, .char), (cJ, .long)] B sz9) (q_Mq (dC, dI) vwCl [(w, .inr (4, [.ref wd])), (wd, .inl (cI, 16, .inl dp1)), (h, .inr (1, [.ref hk, .ref hn, .ref hu, .int (nI sz)])), (hk, .inl (cI, 50, .inl ks)), (hn, .inl (cI, 50, .inl ns)), (hu, .inl (cI, 200, .inl us))] (va_A [(w, .inr (4, [.ref wd])), (wd, .inl (cI, 16, .inl dp)), (h, .inr (1, [.ref hk, .ref hn, .ref hu, .int (nI sz)])), (hk, .inl (cI, 50, .inl ks)), (hn, .inl (cI, 50, .inl ns)), (hu, .inl (cI, 200, .inl us))] sz9) none) 0 0 (va_A [(w, .inr (4, [.ref wd])), (wd, .inl (cI, 16, .inl dp)), (h, .inr (1, [.ref hk, .ref hn, .ref hu, .int (nI sz)])), (hk, .inl (cI, 50, .inl ks)), (hn, .inl (cI, 50, .inl ns)), (hu, .inl (cI, 200, .inl us))] sz9) := by
  refine Met.ofW (cc := cX4_spread) (maxL := 6) (ret := none) (by decide) rfl ?_
  intro p e s m args below meth c s₁ Bd hml hv
  obtain ⟨rfl, hsz9, hB, hP, hK, hD0, hT⟩ := hv
  have hx := Bd.exec
  have hb := Bd.bytes
  have hr := Bd.returns
  have hts := atoms_spec (ws := wsX4_spread) Bd.pre
  have hg : ∀ w ∈ lw_good, w.before _ s = true := fun w h => hts w (List.mem_cons_of_mem _ h)
  have hown : s.vm.findClass RX4 = some m.cls := findClass_of_methodNamed Bd.named
  have hlocks := Bd.notSynchronized
  subst hsz9
  have hD := hD0.self (sz := s.heap.size)
  generalize hAe : va_A [(w, .inr (4, [.ref wd])), (wd, .inl (cI, 16, .inl dp)), (h, .inr (1, [.ref hk, .ref hn, .ref hu, .int (nI sz)])), (hk, .inl (cI, 50, .inl ks)), (hn, .inl (cI, 50, .inl ns)), (hu, .inl (cI, 200, .inl us))] s.heap.size = A at hD ⊢
  have hA : ∀ q : Nat, s.heap.size ≤ q → A q := fun q h => by rw [← hAe]; exact Or.inr h
  have hAB : ∀ q, A q → B ≤ q := by rw [← hAe]; exact va_A.ge hD0 hB
  have hS : va_S A s.heap s.heap [] := va_S.rf
  have hP : va_P (dC, dI) vwCl [(w, .inr (4, [.ref wd])), (wd, .inl (cI, 16, .inl dp)), (h, .inr (1, [.ref hk, .ref hn, .ref hu, .int (nI sz)])), (hk, .inl (cI, 50, .inl ks)), (hn, .inl (cI, 50, .inl ns)), (hu, .inl (cI, 200, .inl us))] s.heap := hP
  have hl := lv_entry ([.ref w, .ref h, .int p1, .int p2]) (n := 6) (Nat.le_of_ble_eq_true rfl)
  rw [lg_entry_eq]
  generalize (lg_sl ([.ref w, .ref h, .int p1, .int p2]) ++ List.replicate (6 - (lg_sl ([.ref w, .ref h, .int p1, .int p2])).length) Slot.unset).toArray = ls at hl ⊢
  have hl : lv_has ls 6 [(0, .ref w), (1, .ref h), (2, .int p1), (3, .int p2)] := hl
  refine lv_iconst (v := 0) hx hb dX4_spread_0 (by decide) ?_
  refine lv_istore (lv' := [(4, .int 0), (0, .ref w), (1, .ref h), (2, .int p1), (3, .int p2)]) hx hb dX4_spread_1 hl (by decide) rfl (fun ls hl => ?_)
  refine loop_M (σ := Nat × (Nat → Int32)) (fun n x H locs ls => 16 - x.1 < n ∧ x.1 ≤ 16 ∧ k_spread ks us sz p1 p2 dp = k_rounds ks us sz p1 0 true (k_init p2 x.1 x.2) ∧ va_P (dC, dI) vwCl [(w, .inr (4, [.ref wd])), (wd, .inl (cI, 16, .inl x.2)), (h, .inr (1, [.ref hk, .ref hn, .ref hu, .int (nI sz)])), (hk, .inl (cI, 50, .inl ks)), (hn, .inl (cI, 50, .inl ns)), (hu, .inl (cI, 200, .inl us))] H ∧ va_D A [(w, .inr (4, [.ref wd])), (wd, .inl (cI, 16, .inl x.2)), (h, .inr (1, [.ref hk, .ref hn, .ref hu, .int (nI sz)])), (hk, .inl (cI, 50, .inl ks)), (hn, .inl (cI, 50, .inl ns)), (hu, .inl (cI, 200, .inl us))] ∧ va_S A s.heap H locs ∧ lv_has ls 6 [(0, .ref w), (1, .ref h), (2, .int p1), (3, .int p2), (4, .int (nI x.1))]) (fun n x H locs ls ih_1 hI => ?_) (fun x H locs ls hI => ?_) (n := (16 - 0) + 1) (x := (0, dp)) ⟨(Nat.lt_succ_self _), (by (try dsimp only); omega), rfl, hP, hD, hS, lv_sub hl [1, 2, 3, 4, 0] rfl⟩
  · skip
    obtain ⟨k, dpx⟩ := x
    obtain ⟨hfu, hk0, he, hP, hD, hS, hl⟩ := hI
    have hfu : 16 - k < n + 1 := hfu
    have hk0 : k ≤ 16 := hk0
    have he : k_spread ks us sz p1 p2 dp = k_rounds ks us sz p1 0 true (k_init p2 k dpx) := he
    have hP : va_P (dC, dI) vwCl [(w, .inr (4, [.ref wd])), (wd, .inl (cI, 16, .inl dpx)), (h, .inr (1, [.ref hk, .ref hn, .ref hu, .int (nI sz)])), (hk, .inl (cI, 50, .inl ks)), (hn, .inl (cI, 50, .inl ns)), (hu, .inl (cI, 200, .inl us))] H := hP
    have hD : va_D A [(w, .inr (4, [.ref wd])), (wd, .inl (cI, 16, .inl dpx)), (h, .inr (1, [.ref hk, .ref hn, .ref hu, .int (nI sz)])), (hk, .inl (cI, 50, .inl ks)), (hn, .inl (cI, 50, .inl ns)), (hu, .inl (cI, 200, .inl us))] := hD
    have hl : lv_has ls 6 [(0, .ref w), (1, .ref h), (2, .int p1), (3, .int p2), (4, .int (nI k))] := hl
    refine lv_iload hx hb dX4_spread_3 (lv_at hl 4 rfl) ?_
    refine lv_bipush (v := 16) hx hb dX4_spread_5 (by decide) ?_
    refine lv_icmp_ge (tgt := 35) hx hb dX4_spread_7 (by decide) (fun c_2 => ?_) (fun c_2 => ?_)
    · skip
      have c_2 := na_le (a := 16) (b := k) c_2 (by omega) (by omega)
      refine lv_iconst (v := 1) hx hb dX4_spread_35 (by decide) ?_
      refine lv_istore (lv' := [(4, .int 1), (0, .ref w), (1, .ref h), (2, .int p1), (3, .int p2)]) hx hb dX4_spread_36 hl (by decide) rfl (fun ls hl => ?_)
      refine lv_iconst (v := 0) hx hb dX4_spread_38 (by decide) ?_
      refine lv_istore (lv' := [(5, .int 0), (4, .int 1), (0, .ref w), (1, .ref h), (2, .int p1), (3, .int p2)]) hx hb dX4_spread_39 hl (by decide) rfl (fun ls hl => ?_)
      refine loop_M (σ := Nat × Bool × (Nat → Int32)) (fun n x H locs ls => 16 - x.1 < n ∧ x.1 ≤ 16 ∧ k_spread ks us sz p1 p2 dp = k_rounds ks us sz p1 x.1 x.2.1 x.2.2 ∧ va_P (dC, dI) vwCl [(w, .inr (4, [.ref wd])), (wd, .inl (cI, 16, .inl x.2.2)), (h, .inr (1, [.ref hk, .ref hn, .ref hu, .int (nI sz)])), (hk, .inl (cI, 50, .inl ks)), (hn, .inl (cI, 50, .inl ns)), (hu, .inl (cI, 200, .inl us))] H ∧ va_D A [(w, .inr (4, [.ref wd])), (wd, .inl (cI, 16, .inl x.2.2)), (h, .inr (1, [.ref hk, .ref hn, .ref hu, .int (nI sz)])), (hk, .inl (cI, 50, .inl ks)), (hn, .inl (cI, 50, .inl ns)), (hu, .inl (cI, 200, .inl us))] ∧ va_S A s.heap H locs ∧ lv_has ls 6 [(0, .ref w), (1, .ref h), (2, .int p1), (3, .int p2), (4, .int (bI x.2.1)), (5, .int (nI x.1))]) (fun n x H locs ls ih_3 hI => ?_) (fun x H locs ls hI => ?_) (n := (16 - 0) + 1) (x := (0, true, dpx)) ⟨(Nat.lt_succ_self _), (by (try dsimp only); omega), (by (try dsimp only); rw [he, k_init]; simp [c_2]), hP, hD, hS, lv_sub hl [2, 3, 4, 5, 1, 0] rfl⟩
      · skip
        obtain ⟨rd, ch, dpy⟩ := x
        obtain ⟨hfu, hrd, he, hP, hD, hS, hl⟩ := hI
        have hfu : 16 - rd < n + 1 := hfu
        have hrd : rd ≤ 16 := hrd
        have he : k_spread ks us sz p1 p2 dp = k_rounds ks us sz p1 rd ch dpy := he
        have hP : va_P (dC, dI) vwCl [(w, .inr (4, [.ref wd])), (wd, .inl (cI, 16, .inl dpy)), (h, .inr (1, [.ref hk, .ref hn, .ref hu, .int (nI sz)])), (hk, .inl (cI, 50, .inl ks)), (hn, .inl (cI, 50, .inl ns)), (hu, .inl (cI, 200, .inl us))] H := hP
        have hD : va_D A [(w, .inr (4, [.ref wd])), (wd, .inl (cI, 16, .inl dpy)), (h, .inr (1, [.ref hk, .ref hn, .ref hu, .int (nI sz)])), (hk, .inl (cI, 50, .inl ks)), (hn, .inl (cI, 50, .inl ns)), (hu, .inl (cI, 200, .inl us))] := hD
        have hl : lv_has ls 6 [(0, .ref w), (1, .ref h), (2, .int p1), (3, .int p2), (4, .int (bI ch)), (5, .int (nI rd))] := hl
        refine lv_iload hx hb dX4_spread_41 (lv_at hl 5 rfl) ?_
        refine lv_bipush (v := 16) hx hb dX4_spread_43 (by decide) ?_
        refine lv_icmp_ge (tgt := 67) hx hb dX4_spread_45 (by decide) (fun c_4 => ?_) (fun c_4 => ?_)
        · skip
          have c_4 := na_le (a := 16) (b := rd) c_4 (by omega) (by omega)
          have hP9 := hP
          have hS9 := hS
          have h9 : k_spread ks us sz p1 p2 dp = dpy := by rw [he, k_rounds]; simp [c_4]
          have h9 := hF.symm.trans h9
          cases h9
          exact W.vret hx hb hr (fun t ht hW => ⟨rfl, by rw [ht]; exact hP9, hS9.F ht⟩) hS9.2.2 dX4_spread_67
        · skip
          have c_4 := na_nle (a := 16) (b := rd) c_4 (by omega) (by omega)
          refine lv_iload hx hb dX4_spread_48 (lv_at hl 4 rfl) ?_
          refine lv_if_eq (tgt := 67) hx hb dX4_spread_50 (by decide) (fun c_5 => ?_) (fun c_5 => ?_)
          · skip
            have c_5 := bI_eq0 c_5
            have hP9 := hP
            have hS9 := hS
            have h9 : k_spread ks us sz p1 p2 dp = dpy := by rw [he, k_rounds]; simp [c_4, c_5]
            have h9 := hF.symm.trans h9
            cases h9
            exact W.vret hx hb hr (fun t ht hW => ⟨rfl, by rw [ht]; exact hP9, hS9.F ht⟩) hS9.2.2 dX4_spread_67
          · skip
            have c_5 := bI_ne0 c_5
            refine lv_aload_n hx hb dX4_spread_53 rfl (lv_at hl 0 rfl) ?_
            refine lv_aload_n hx hb dX4_spread_54 rfl (lv_at hl 1 rfl) ?_
            refine lv_iload_n hx hb dX4_spread_55 rfl (lv_at hl 2 rfl) ?_
            obtain ⟨b1_6, dp1_6, hF_6⟩ : ∃ (b1_6 : Bool) (dp1_6 : Nat → Int32), k_once ks us sz p1 0 false dpy = (b1_6, dp1_6) := ⟨_, _, rfl⟩
            refine go_M (r := some (.int (bI b1_6))) (wc' := [(w, .inr (4, [.ref wd])), (wd, .inl (cI, 16, .inl dp1_6)), (h, .inr (1, [.ref hk, .ref hn, .ref hu, .int (nI sz)])), (hk, .inl (cI, 50, .inl ks)), (hn, .inl (cI, 50, .inl ns)), (hu, .inl (cI, 200, .inl us))]) (w2 := [(w, .inr (4, [.ref wd])), (wd, .inl (cI, 16, .inl dp1_6)), (h, .inr (1, [.ref hk, .ref hn, .ref hu, .int (nI sz)])), (hk, .inl (cI, 50, .inl ks)), (hn, .inl (cI, 50, .inl ns)), (hu, .inl (cI, 200, .inl us))]) [0, 1, 2, 3, 4, 5] (va_runV (As := [.ref h, .int p1]) (rest := []) ⟨hx, hb, hml, hown, hg⟩ (kX4_spreadOnce l dC dI B cI cC cJ w wd dpy h hk hn hu ks ns us sz p1 b1_6 dp1_6 (by omega) hF_6 _) (cwV 2 hg (gi_V w_364 w_365 w_689 w_5 w_366) rfl rfl rfl (by decide +kernel) ⟨Nat.le_of_ble_eq_true rfl, Nat.le_of_ble_eq_true rfl⟩) (pre_MV (va_recv hK hP (ci := 4) (q0 := 0) rfl rfl) (Nat.le_trans hB hS.1) (hP.sub [0, 1, 2, 3, 4, 5] rfl) hK ((hD.weaken (fun _ _ _ h => hAB _ h)).sub [0, 1, 2, 3, 4, 5] (by decide) rfl) (hT.kept (hS.mono hAB))) rfl rfl hl.1 rfl (lv_room (Nat.le_of_ble_eq_true rfl)) dX4_spread_56 ⟨Nat.le_of_ble_eq_true rfl, Nat.le_of_ble_eq_true rfl⟩) hP hD hS hA rfl (Nat.le_of_ble_eq_true rfl) rfl rfl (fun H locs hP hD hS => ?_)
            refine W.eq (g2 := F0 m 59 ls [.int (bI b1_6)]) rfl ?_
            refine lv_istore (lv' := [(4, .int (bI b1_6)), (0, .ref w), (1, .ref h), (2, .int p1), (3, .int p2), (5, .int (nI rd))]) hx hb dX4_spread_59 hl (by decide) rfl (fun ls hl => ?_)
            refine lv_iinc (v := (nI (rd + 1))) (lv' := [(5, .int (nI (rd + 1))), (4, .int (bI b1_6)), (0, .ref w), (1, .ref h), (2, .int p1), (3, .int p2)]) hx hb dX4_spread_61 hl (k := 5) rfl (by rw [← nI_add]; rfl) (by decide) rfl (fun ls hl => ?_)
            refine lv_goto (tgt := 41) hx hb dX4_spread_64 (by decide) ?_
            exact ih_3 (rd + 1, b1_6, dp1_6) _ _ _ ⟨(by (try dsimp only); omega), (by (try dsimp only); omega), (by (try dsimp only); rw [he, k_rounds]; simp [c_4, c_5, hF_6]), hP, hD, hS, lv_sub hl [2, 3, 4, 5, 1, 0] rfl⟩
      · exact absurd hI.1 (Nat.not_lt_zero _)
    · skip
      have c_2 := na_nle (a := 16) (b := k) c_2 (by omega) (by omega)
      refine lv_aload_n hx hb dX4_spread_10 rfl (lv_at hl 0 rfl) ?_
      refine va_get (D := (dC, dI)) (ci := 4) (v := .ref wd) (C := RX4) (T := TX4) (N := 1) hx hb hg in_X4 hown hK hP 0 rfl rfl 0 (by decide) (hg _ w_75) (fun _ h9 => h9) rfl dX4_spread_11 ?_
      refine lv_iload hx hb dX4_spread_14 (lv_at hl 4 rfl) ?_
      refine lv_iload hx hb dX4_spread_16 (lv_at hl 4 rfl) ?_
      refine lv_iload_n hx hb dX4_spread_18 rfl (lv_at hl 3 rfl) ?_
      refine lv_icmp_ne (tgt := 27) hx hb dX4_spread_19 (by decide) (fun c_7 => ?_) (fun c_7 => ?_)
      · skip
        refine lv_iconst (v := 0) hx hb dX4_spread_27 (by decide) ?_
        refine x_iast (k := k) hx hb hK hP hD hS 1 0 rfl rfl (by omega) (by decide) dX4_spread_28 (fun H locs hP hD hS => ?_)
        have hP : va_P (dC, dI) vwCl [(w, .inr (4, [.ref wd])), (wd, .inl (cI, 16, .inl (upd dpx k 0))), (h, .inr (1, [.ref hk, .ref hn, .ref hu, .int (nI sz)])), (hk, .inl (cI, 50, .inl ks)), (hn, .inl (cI, 50, .inl ns)), (hu, .inl (cI, 200, .inl us))] H := hP
        have hD : va_D A [(w, .inr (4, [.ref wd])), (wd, .inl (cI, 16, .inl (upd dpx k 0))), (h, .inr (1, [.ref hk, .ref hn, .ref hu, .int (nI sz)])), (hk, .inl (cI, 50, .inl ks)), (hn, .inl (cI, 50, .inl ns)), (hu, .inl (cI, 200, .inl us))] := hD
        refine lv_iinc (v := (nI (k + 1))) (lv' := [(4, .int (nI (k + 1))), (0, .ref w), (1, .ref h), (2, .int p1), (3, .int p2)]) hx hb dX4_spread_29 hl (k := 4) rfl (by rw [← nI_add]; rfl) (by decide) rfl (fun ls hl => ?_)
        refine lv_goto (tgt := 3) hx hb dX4_spread_32 (by decide) ?_
        exact ih_1 (k + 1, upd dpx k 0) _ _ _ ⟨(by (try dsimp only); omega), (by (try dsimp only); omega), (by (try dsimp only); rw [he, k_init]; simp [c_2, c_7]), hP, hD, hS, lv_sub hl [1, 2, 3, 4, 0] rfl⟩
      · skip
        refine lv_bipush (v := 99) hx hb dX4_spread_22 (by decide) ?_
        refine lv_goto (tgt := 28) hx hb dX4_spread_24 (by decide) ?_
        refine x_iast (k := k) hx hb hK hP hD hS 1 0 rfl rfl (by omega) (by decide) dX4_spread_28 (fun H locs hP hD hS => ?_)
        have hP : va_P (dC, dI) vwCl [(w, .inr (4, [.ref wd])), (wd, .inl (cI, 16, .inl (upd dpx k 99))), (h, .inr (1, [.ref hk, .ref hn, .ref hu, .int (nI sz)])), (hk, .inl (cI, 50, .inl ks)), (hn, .inl (cI, 50, .inl ns)), (hu, .inl (cI, 200, .inl us))] H := hP
        have hD : va_D A [(w, .inr (4, [.ref wd])), (wd, .inl (cI, 16, .inl (upd dpx k 99))), (h, .inr (1, [.ref hk, .ref hn, .ref hu, .int (nI sz)])), (hk, .inl (cI, 50, .inl ks)), (hn, .inl (cI, 50, .inl ns)), (hu, .inl (cI, 200, .inl us))] := hD
        refine lv_iinc (v := (nI (k + 1))) (lv' := [(4, .int (nI (k + 1))), (0, .ref w), (1, .ref h), (2, .int p1), (3, .int p2)]) hx hb dX4_spread_29 hl (k := 4) rfl (by rw [← nI_add]; rfl) (by decide) rfl (fun ls hl => ?_)
        refine lv_goto (tgt := 3) hx hb dX4_spread_32 (by decide) ?_
        exact ih_1 (k + 1, upd dpx k 99) _ _ _ ⟨(by (try dsimp only); omega), (by (try dsimp only); omega), (by (try dsimp only); rw [he, k_init]; simp [c_2, c_7]), hP, hD, hS, lv_sub hl [1, 2, 3, 4, 0] rfl⟩
  · exact absurd hI.1 (Nat.not_lt_zero _)
