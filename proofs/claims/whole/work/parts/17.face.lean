set_option maxHeartbeats 4000000 in
set_option maxRecDepth 100000 in
theorem kX5_sign (l : Launch) (dC : Nat → ClassId) (dI : Nat → Nat → Nat) (B : Nat) (cI cC cJ : ClassId) (x : Nat) (r : Nat) (h : Nat) (hz : Nat) (w : Nat) (b : Nat) (o : Nat) (rs : Nat) (hd : Nat) (sg : Nat → Int32) (len : Nat) (pl : Nat) (fn : Int32) (fp : Int32) (p0 : Int32) (b1 : Bool) (sg1 : Nat → Int32) (len1 : Nat) (hlen : len ≤ 500) (hF : k_collect sg len p0 = (b1, sg1, len1)) (sz9 : Nat) : Met l yX5_sign wsX5_sign ({ frames := 1, cells := 0, slots := 0, locals := 21 }) (q_Mp (dC, dI) vwCl [.ref x, .int p0] [(x, .inr (5, [.ref r, .ref h, .ref hz, .ref w, .ref b, .ref o])), (r, .inr (3, [.ref rs, .ref hd, .int (nI len), .int (nI pl), .int fn, .int fp])), (rs, .inl (cC, 500, .inl sg))] [(cI, .int), (cC, .char), (cJ, .long)] B sz9) (q_Mq (dC, dI) vwCl [(x, .inr (5, [.ref r, .ref h, .ref hz, .ref w, .ref b, .ref o])), (r, .inr (3, [.ref rs, .ref hd, .int (nI len1), .int (nI pl), .int fn, .int fp])), (rs, .inl (cC, 500, .inl sg1))] (va_A [(x, .inr (5, [.ref r, .ref h, .ref hz, .ref w, .ref b, .ref o])), (r, .inr (3, [.ref rs, .ref hd, .int (nI len), .int (nI pl), .int fn, .int fp])), (rs, .inl (cC, 500, .inl sg))] sz9) (some (.int (bI b1)))) 0 0 (va_A [(x, .inr (5, [.ref r, .ref h, .ref hz, .ref w, .ref b, .ref o])), (r, .inr (3, [.ref rs, .ref hd, .int (nI len), .int (nI pl), .int fn, .int fp])), (rs, .inl (cC, 500, .inl sg))] sz9) := by
  refine Met.ofW (cc := cX5_sign) (maxL := 2) (ret := (some .boolean)) (by decide) rfl ?_
  intro p e s m args below meth c s₁ Bd hml hv
  obtain ⟨rfl, hsz9, hB, hP, hK, hD0, hT⟩ := hv
  have hx := Bd.exec
  have hb := Bd.bytes
  have hr := Bd.returns
  have hts := atoms_spec (ws := wsX5_sign) Bd.pre
  have hg : ∀ w ∈ lw_good, w.before _ s = true := fun w h => hts w (List.mem_cons_of_mem _ h)
  have hown : s.vm.findClass RX5 = some m.cls := findClass_of_methodNamed Bd.named
  have hlocks := Bd.notSynchronized
  subst hsz9
  have hD := hD0.self (sz := s.heap.size)
  generalize hAe : va_A [(x, .inr (5, [.ref r, .ref h, .ref hz, .ref w, .ref b, .ref o])), (r, .inr (3, [.ref rs, .ref hd, .int (nI len), .int (nI pl), .int fn, .int fp])), (rs, .inl (cC, 500, .inl sg))] s.heap.size = A at hD ⊢
  have hA : ∀ q : Nat, s.heap.size ≤ q → A q := fun q h => by rw [← hAe]; exact Or.inr h
  have hAB : ∀ q, A q → B ≤ q := by rw [← hAe]; exact va_A.ge hD0 hB
  have hS : va_S A s.heap s.heap [] := va_S.rf
  have hP : va_P (dC, dI) vwCl [(x, .inr (5, [.ref r, .ref h, .ref hz, .ref w, .ref b, .ref o])), (r, .inr (3, [.ref rs, .ref hd, .int (nI len), .int (nI pl), .int fn, .int fp])), (rs, .inl (cC, 500, .inl sg))] s.heap := hP
  have hl := lv_entry ([.ref x, .int p0]) (n := 2) (Nat.le_of_ble_eq_true rfl)
  rw [lg_entry_eq]
  generalize (lg_sl ([.ref x, .int p0]) ++ List.replicate (2 - (lg_sl ([.ref x, .int p0])).length) Slot.unset).toArray = ls at hl ⊢
  have hl : lv_has ls 2 [(0, .ref x), (1, .int p0)] := hl
  refine lv_aload_n hx hb dX5_sign_0 rfl (lv_at hl 0 rfl) ?_
  refine va_get (D := (dC, dI)) (ci := 5) (v := .ref r) (C := RX5) (T := TX5) (N := 6) hx hb hg in_X5 hown hK hP 0 rfl rfl 0 (by decide) (hg _ w_103) (fun _ h9 => h9) rfl dX5_sign_1 ?_
  refine lv_iload_n hx hb dX5_sign_4 rfl (lv_at hl 1 rfl) ?_
  obtain ⟨b1_1, sg1_1, len1_1, hF_1⟩ : ∃ (b1_1 : Bool) (sg1_1 : Nat → Int32) (len1_1 : Nat), k_collect sg len p0 = (b1_1, sg1_1, len1_1) := ⟨_, _, _, rfl⟩
  refine go_M (r := some (.int (bI b1_1))) (wc' := [(r, .inr (3, [.ref rs, .ref hd, .int (nI len1_1), .int (nI pl), .int fn, .int fp])), (rs, .inl (cC, 500, .inl sg1_1))]) (w2 := [(x, .inr (5, [.ref r, .ref h, .ref hz, .ref w, .ref b, .ref o])), (r, .inr (3, [.ref rs, .ref hd, .int (nI len1_1), .int (nI pl), .int fn, .int fp])), (rs, .inl (cC, 500, .inl sg1_1))]) [1, 2] (va_runV (As := [.int p0]) (rest := []) ⟨hx, hb, hml, hown, hg⟩ (kX3_collect l dC dI B cI cC cJ r rs hd sg len pl fn fp p0 b1_1 sg1_1 len1_1 (by omega) hF_1 _) (cwV 1 hg (gi_V w_126 w_127 w_128 w_3 w_129) rfl rfl rfl (by decide +kernel) ⟨Nat.le_of_ble_eq_true rfl, Nat.le_of_ble_eq_true rfl⟩) (pre_MV (va_recv hK hP (ci := 3) (q0 := 1) rfl rfl) (Nat.le_trans hB hS.1) (hP.sub [1, 2] rfl) hK ((hD.weaken (fun _ _ _ h => hAB _ h)).sub [1, 2] (by decide) rfl) hT) rfl rfl hl.1 rfl (lv_room (Nat.le_of_ble_eq_true rfl)) dX5_sign_5 ⟨Nat.le_of_ble_eq_true rfl, Nat.le_of_ble_eq_true rfl⟩) hP hD hS hA rfl (Nat.le_of_ble_eq_true rfl) rfl rfl (fun H locs hP hD hS => ?_)
  refine W.eq (g2 := F0 m 8 ls [.int (bI b1_1)]) rfl ?_
  have hP9 := hP
  have hS9 := hS
  have h9 : k_collect sg len p0 = (b1_1, sg1_1, len1_1) := by simp [hF_1]
  have h9 := hF.symm.trans h9
  cases h9
  exact W.zret (ty := .boolean) hx hb hr (bI_nar _) (fun t ht hW => ⟨rfl, by rw [ht]; exact hP9, hS9.F ht⟩) hS9.2.2 dX5_sign_8
set_option maxHeartbeats 4000000 in
set_option maxRecDepth 100000 in
theorem kX5_failure (l : Launch) (dC : Nat → ClassId) (dI : Nat → Nat → Nat) (B : Nat) (cI cC cJ : ClassId) (x : Nat) (r : Nat) (h : Nat) (hz : Nat) (w : Nat) (b : Nat) (o : Nat) (rs : Nat) (hd : Nat) (sg : Nat → Int32) (len : Nat) (pl : Nat) (fn : Int32) (fp : Int32) (p0 : Int32) (hlen : len ≤ 500) (hpl : pl ≤ 501) : Met l yX5_failure wsX5_failure ({ frames := 1, cells := 0, slots := 0, locals := 20 }) (q_Rd (dC, dI) vwCl [.ref x, .int p0] [(x, .inr (5, [.ref r, .ref h, .ref hz, .ref w, .ref b, .ref o])), (r, .inr (3, [.ref rs, .ref hd, .int (nI len), .int (nI pl), .int fn, .int fp])), (rs, .inl (cC, 500, .inl sg))] [(cI, .int), (cC, .char), (cJ, .long)] B) (QcRead (k_failure fn fp p0)) 0 0 (fun _ => False) := by
  refine Met.ofW (cc := cX5_failure) (maxL := 2) (ret := (some .int)) (by decide) rfl ?_
  intro p e s m args below meth c s₁ Bd hml hv
  obtain ⟨rfl, hP, hK, hT⟩ := hv
  have hx := Bd.exec
  have hb := Bd.bytes
  have hr := Bd.returns
  have hts := atoms_spec (ws := wsX5_failure) Bd.pre
  have hg : ∀ w ∈ lw_good, w.before _ s = true := fun w h => hts w (List.mem_cons_of_mem _ h)
  have hown : s.vm.findClass RX5 = some m.cls := findClass_of_methodNamed Bd.named
  have hlocks := Bd.notSynchronized
  have hSB : va_S (fun q => B ≤ q) s.heap s.heap [] := va_S.rf
  have hP : va_P (dC, dI) vwCl [(x, .inr (5, [.ref r, .ref h, .ref hz, .ref w, .ref b, .ref o])), (r, .inr (3, [.ref rs, .ref hd, .int (nI len), .int (nI pl), .int fn, .int fp])), (rs, .inl (cC, 500, .inl sg))] s.heap := hP
  have hl := lv_entry ([.ref x, .int p0]) (n := 2) (Nat.le_of_ble_eq_true rfl)
  rw [lg_entry_eq]
  generalize (lg_sl ([.ref x, .int p0]) ++ List.replicate (2 - (lg_sl ([.ref x, .int p0])).length) Slot.unset).toArray = ls at hl ⊢
  have hl : lv_has ls 2 [(0, .ref x), (1, .int p0)] := hl
  refine lv_iload_n hx hb dX5_failure_0 rfl (lv_at hl 1 rfl) ?_
  refine lv_if_ne (tgt := 12) hx hb dX5_failure_1 (by decide) (fun c_1 => ?_) (fun c_1 => ?_)
  · skip
    refine lv_iload_n hx hb dX5_failure_12 rfl (lv_at hl 1 rfl) ?_
    refine lv_iconst (v := 1) hx hb dX5_failure_13 (by decide) ?_
    refine lv_icmp_ne (tgt := 27) hx hb dX5_failure_14 (by decide) (fun c_2 => ?_) (fun c_2 => ?_)
    · skip
      refine lv_iconst (v := (-1)) hx hb dX5_failure_27 (by decide) ?_
      exact W.iret (v := (-1)) hx hb hr (fun t ht hW => rd_end (by simp [k_failure, c_1, c_2]) ht) (fun q h => by cases h) dX5_failure_28
    · skip
      refine lv_aload_n hx hb dX5_failure_17 rfl (lv_at hl 0 rfl) ?_
      refine va_get (D := (dC, dI)) (ci := 5) (v := .ref r) (C := RX5) (T := TX5) (N := 6) hx hb hg in_X5 hown hK hP 0 rfl rfl 0 (by decide) (hg _ w_103) (fun _ h9 => h9) rfl dX5_failure_18 ?_
      refine go_R (r := fp) (va_runV (As := []) (rest := []) ⟨hx, hb, hml, hown, hg⟩ (kX3_failurePlace l dC dI B cI cC cJ r rs hd sg len pl fn fp (by omega) (by omega)) (cwV 0 hg (gi_V w_138 w_139 w_140 w_3 w_141) rfl rfl rfl (by decide +kernel) ⟨Nat.le_of_ble_eq_true rfl, Nat.le_of_ble_eq_true rfl⟩) (pre_RV (va_recv hK hP (ci := 3) (q0 := 1) rfl rfl) (hP.sub [1, 2] rfl) hK hT) rfl rfl hl.1 rfl (lv_room (Nat.le_of_ble_eq_true rfl)) dX5_failure_21 ⟨Nat.le_of_ble_eq_true rfl, Nat.le_of_ble_eq_true rfl⟩) ?_
      refine lv_goto (tgt := 28) hx hb dX5_failure_24 (by decide) ?_
      exact W.iret (v := fp) hx hb hr (fun t ht hW => rd_end (by simp [k_failure, c_1, c_2]) ht) (fun q h => by cases h) dX5_failure_28
  · skip
    refine lv_aload_n hx hb dX5_failure_4 rfl (lv_at hl 0 rfl) ?_
    refine va_get (D := (dC, dI)) (ci := 5) (v := .ref r) (C := RX5) (T := TX5) (N := 6) hx hb hg in_X5 hown hK hP 0 rfl rfl 0 (by decide) (hg _ w_103) (fun _ h9 => h9) rfl dX5_failure_5 ?_
    refine go_R (r := fn) (va_runV (As := []) (rest := []) ⟨hx, hb, hml, hown, hg⟩ (kX3_failureNumber l dC dI B cI cC cJ r rs hd sg len pl fn fp (by omega) (by omega)) (cwV 0 hg (gi_V w_134 w_135 w_136 w_3 w_137) rfl rfl rfl (by decide +kernel) ⟨Nat.le_of_ble_eq_true rfl, Nat.le_of_ble_eq_true rfl⟩) (pre_RV (va_recv hK hP (ci := 3) (q0 := 1) rfl rfl) (hP.sub [1, 2] rfl) hK hT) rfl rfl hl.1 rfl (lv_room (Nat.le_of_ble_eq_true rfl)) dX5_failure_8 ⟨Nat.le_of_ble_eq_true rfl, Nat.le_of_ble_eq_true rfl⟩) ?_
    exact W.iret (v := fn) hx hb hr (fun t ht hW => rd_end (by simp [k_failure, c_1]) ht) (fun q h => by cases h) dX5_failure_11
set_option maxHeartbeats 4000000 in
set_option maxRecDepth 100000 in
theorem kX5_find (l : Launch) (dC : Nat → ClassId) (dI : Nat → Nat → Nat) (B : Nat) (cI cC cJ : ClassId) (x : Nat) (r : Nat) (h : Nat) (hz : Nat) (w : Nat) (b : Nat) (o : Nat) (hk : Nat) (hn : Nat) (hu : Nat) (ks : Nat → Int32) (ns : Nat → Int32) (us : Nat → Int32) (sz : Nat) (p0 : Int32) (p1 : Int32) (hsz : sz ≤ 50) : Met l yX5_find wsX5_find ({ frames := 1, cells := 0, slots := 0, locals := 23 }) (q_Rd (dC, dI) vwCl [.ref x, .int p0, .int p1] [(x, .inr (5, [.ref r, .ref h, .ref hz, .ref w, .ref b, .ref o])), (h, .inr (1, [.ref hk, .ref hn, .ref hu, .int (nI sz)])), (hk, .inl (cI, 50, .inl ks)), (hn, .inl (cI, 50, .inl ns)), (hu, .inl (cI, 200, .inl us))] [(cI, .int), (cC, .char), (cJ, .long)] B) (QcRead (k_indexOf ks ns p0 p1 sz 0)) 0 0 (fun _ => False) := by
  refine Met.ofW (cc := cX5_find) (maxL := 3) (ret := (some .int)) (by decide) rfl ?_
  intro p e s m args below meth c s₁ Bd hml hv
  obtain ⟨rfl, hP, hK, hT⟩ := hv
  have hx := Bd.exec
  have hb := Bd.bytes
  have hr := Bd.returns
  have hts := atoms_spec (ws := wsX5_find) Bd.pre
  have hg : ∀ w ∈ lw_good, w.before _ s = true := fun w h => hts w (List.mem_cons_of_mem _ h)
  have hown : s.vm.findClass RX5 = some m.cls := findClass_of_methodNamed Bd.named
  have hlocks := Bd.notSynchronized
  have hSB : va_S (fun q => B ≤ q) s.heap s.heap [] := va_S.rf
  have hP : va_P (dC, dI) vwCl [(x, .inr (5, [.ref r, .ref h, .ref hz, .ref w, .ref b, .ref o])), (h, .inr (1, [.ref hk, .ref hn, .ref hu, .int (nI sz)])), (hk, .inl (cI, 50, .inl ks)), (hn, .inl (cI, 50, .inl ns)), (hu, .inl (cI, 200, .inl us))] s.heap := hP
  have hl := lv_entry ([.ref x, .int p0, .int p1]) (n := 3) (Nat.le_of_ble_eq_true rfl)
  rw [lg_entry_eq]
  generalize (lg_sl ([.ref x, .int p0, .int p1]) ++ List.replicate (3 - (lg_sl ([.ref x, .int p0, .int p1])).length) Slot.unset).toArray = ls at hl ⊢
  have hl : lv_has ls 3 [(0, .ref x), (1, .int p0), (2, .int p1)] := hl
  refine lv_aload_n hx hb dX5_find_0 rfl (lv_at hl 0 rfl) ?_
  refine va_get (D := (dC, dI)) (ci := 5) (v := .ref h) (C := RX5) (T := TX5) (N := 6) hx hb hg in_X5 hown hK hP 0 rfl rfl 1 (by decide) (hg _ w_104) (fun _ h9 => h9) rfl dX5_find_1 ?_
  refine lv_iload_n hx hb dX5_find_4 rfl (lv_at hl 1 rfl) ?_
  refine lv_iload_n hx hb dX5_find_5 rfl (lv_at hl 2 rfl) ?_
  refine go_R (r := k_indexOf ks ns p0 p1 sz 0) (va_runV (As := [.int p0, .int p1]) (rest := []) ⟨hx, hb, hml, hown, hg⟩ (kX1_indexOf l dC dI B cI cC cJ h hk hn hu ks ns us sz p0 p1 (by omega)) (cwV 2 hg (gi_V w_146 w_147 w_148 w_4 w_149) rfl rfl rfl (by decide +kernel) ⟨Nat.le_of_ble_eq_true rfl, Nat.le_of_ble_eq_true rfl⟩) (pre_RV (va_recv hK hP (ci := 1) (q0 := 1) rfl rfl) (hP.sub [1, 2, 3, 4] rfl) hK hT) rfl rfl hl.1 rfl (lv_room (Nat.le_of_ble_eq_true rfl)) dX5_find_6 ⟨Nat.le_of_ble_eq_true rfl, Nat.le_of_ble_eq_true rfl⟩) ?_
  exact W.iret (v := k_indexOf ks ns p0 p1 sz 0) hx hb hr (fun t ht hW => rd_end rfl ht) (fun q h => by cases h) dX5_find_9
set_option maxHeartbeats 4000000 in
set_option maxRecDepth 100000 in
theorem kX5_bad (l : Launch) (dC : Nat → ClassId) (dI : Nat → Nat → Nat) (B : Nat) (cI cC cJ : ClassId) (x : Nat) (r : Nat) (h : Nat) (hz : Nat) (w : Nat) (b : Nat) (o : Nat) (be : Nat) (en : Nat → Int32) (bn : Nat) (hbn : bn ≤ 100) : Met l yX5_bad wsX5_bad ({ frames := 1, cells := 0, slots := 0, locals := 20 }) (q_Rd (dC, dI) vwCl [.ref x] [(x, .inr (5, [.ref r, .ref h, .ref hz, .ref w, .ref b, .ref o])), (b, .inr (0, [.ref be, .int (nI bn)])), (be, .inl (cI, 100, .inl en))] [(cI, .int), (cC, .char), (cJ, .long)] B) (QcRead (nI bn)) 0 0 (fun _ => False) := by
  refine Met.ofW (cc := cX5_bad) (maxL := 1) (ret := (some .int)) (by decide) rfl ?_
  intro p e s m args below meth c s₁ Bd hml hv
  obtain ⟨rfl, hP, hK, hT⟩ := hv
  have hx := Bd.exec
  have hb := Bd.bytes
  have hr := Bd.returns
  have hts := atoms_spec (ws := wsX5_bad) Bd.pre
  have hg : ∀ w ∈ lw_good, w.before _ s = true := fun w h => hts w (List.mem_cons_of_mem _ h)
  have hown : s.vm.findClass RX5 = some m.cls := findClass_of_methodNamed Bd.named
  have hlocks := Bd.notSynchronized
  have hSB : va_S (fun q => B ≤ q) s.heap s.heap [] := va_S.rf
  have hP : va_P (dC, dI) vwCl [(x, .inr (5, [.ref r, .ref h, .ref hz, .ref w, .ref b, .ref o])), (b, .inr (0, [.ref be, .int (nI bn)])), (be, .inl (cI, 100, .inl en))] s.heap := hP
  have hl := lv_entry ([.ref x]) (n := 1) (Nat.le_of_ble_eq_true rfl)
  rw [lg_entry_eq]
  generalize (lg_sl ([.ref x]) ++ List.replicate (1 - (lg_sl ([.ref x])).length) Slot.unset).toArray = ls at hl ⊢
  have hl : lv_has ls 1 [(0, .ref x)] := hl
  refine lv_aload_n hx hb dX5_bad_0 rfl (lv_at hl 0 rfl) ?_
  refine va_get (D := (dC, dI)) (ci := 5) (v := .ref b) (C := RX5) (T := TX5) (N := 6) hx hb hg in_X5 hown hK hP 0 rfl rfl 4 (by decide) (hg _ w_107) (fun _ h9 => h9) rfl dX5_bad_1 ?_
  refine go_R (r := (nI bn)) (va_runV (As := []) (rest := []) ⟨hx, hb, hml, hown, hg⟩ (kX0_size l dC dI B cI cC cJ b be en bn (by omega)) (cwV 0 hg (gi_V w_154 w_155 w_156 w_6 w_157) rfl rfl rfl (by decide +kernel) ⟨Nat.le_of_ble_eq_true rfl, Nat.le_of_ble_eq_true rfl⟩) (pre_RV (va_recv hK hP (ci := 0) (q0 := 1) rfl rfl) (hP.sub [1, 2] rfl) hK hT) rfl rfl hl.1 rfl (lv_room (Nat.le_of_ble_eq_true rfl)) dX5_bad_4 ⟨Nat.le_of_ble_eq_true rfl, Nat.le_of_ble_eq_true rfl⟩) ?_
  exact W.iret (v := (nI bn)) hx hb hr (fun t ht hW => rd_end rfl ht) (fun q h => by cases h) dX5_bad_7
set_option maxHeartbeats 4000000 in
set_option maxRecDepth 100000 in
theorem kX5_unjoined (l : Launch) (dC : Nat → ClassId) (dI : Nat → Nat → Nat) (B : Nat) (cI cC cJ : ClassId) (x : Nat) (r : Nat) (h : Nat) (hz : Nat) (w : Nat) (b : Nat) (o : Nat) (be : Nat) (en : Nat → Int32) (bn : Nat) (p0 : Int32) (hbn : bn ≤ 100) : Met l yX5_unjoined wsX5_unjoined ({ frames := 1, cells := 0, slots := 0, locals := 21 }) (q_Rd (dC, dI) vwCl [.ref x, .int p0] [(x, .inr (5, [.ref r, .ref h, .ref hz, .ref w, .ref b, .ref o])), (b, .inr (0, [.ref be, .int (nI bn)])), (be, .inl (cI, 100, .inl en))] [(cI, .int), (cC, .char), (cJ, .long)] B) (QcRead (k_get en bn p0)) 0 0 (fun _ => False) := by
  refine Met.ofW (cc := cX5_unjoined) (maxL := 2) (ret := (some .int)) (by decide) rfl ?_
  intro p e s m args below meth c s₁ Bd hml hv
  obtain ⟨rfl, hP, hK, hT⟩ := hv
  have hx := Bd.exec
  have hb := Bd.bytes
  have hr := Bd.returns
  have hts := atoms_spec (ws := wsX5_unjoined) Bd.pre
  have hg : ∀ w ∈ lw_good, w.before _ s = true := fun w h => hts w (List.mem_cons_of_mem _ h)
  have hown : s.vm.findClass RX5 = some m.cls := findClass_of_methodNamed Bd.named
  have hlocks := Bd.notSynchronized
  have hSB : va_S (fun q => B ≤ q) s.heap s.heap [] := va_S.rf
  have hP : va_P (dC, dI) vwCl [(x, .inr (5, [.ref r, .ref h, .ref hz, .ref w, .ref b, .ref o])), (b, .inr (0, [.ref be, .int (nI bn)])), (be, .inl (cI, 100, .inl en))] s.heap := hP
  have hl := lv_entry ([.ref x, .int p0]) (n := 2) (Nat.le_of_ble_eq_true rfl)
  rw [lg_entry_eq]
  generalize (lg_sl ([.ref x, .int p0]) ++ List.replicate (2 - (lg_sl ([.ref x, .int p0])).length) Slot.unset).toArray = ls at hl ⊢
  have hl : lv_has ls 2 [(0, .ref x), (1, .int p0)] := hl
  refine lv_aload_n hx hb dX5_unjoined_0 rfl (lv_at hl 0 rfl) ?_
  refine va_get (D := (dC, dI)) (ci := 5) (v := .ref b) (C := RX5) (T := TX5) (N := 6) hx hb hg in_X5 hown hK hP 0 rfl rfl 4 (by decide) (hg _ w_107) (fun _ h9 => h9) rfl dX5_unjoined_1 ?_
  refine lv_iload_n hx hb dX5_unjoined_4 rfl (lv_at hl 1 rfl) ?_
  refine go_R (r := k_get en bn p0) (va_runV (As := [.int p0]) (rest := []) ⟨hx, hb, hml, hown, hg⟩ (kX0_entry l dC dI B cI cC cJ b be en bn p0 (by omega)) (cwV 1 hg (gi_V w_162 w_163 w_164 w_6 w_165) rfl rfl rfl (by decide +kernel) ⟨Nat.le_of_ble_eq_true rfl, Nat.le_of_ble_eq_true rfl⟩) (pre_RV (va_recv hK hP (ci := 0) (q0 := 1) rfl rfl) (hP.sub [1, 2] rfl) hK hT) rfl rfl hl.1 rfl (lv_room (Nat.le_of_ble_eq_true rfl)) dX5_unjoined_5 ⟨Nat.le_of_ble_eq_true rfl, Nat.le_of_ble_eq_true rfl⟩) ?_
  exact W.iret (v := k_get en bn p0) hx hb hr (fun t ht hW => rd_end rfl ht) (fun q h => by cases h) dX5_unjoined_8
set_option maxHeartbeats 4000000 in
set_option maxRecDepth 100000 in
theorem kX5_print (l : Launch) (dC : Nat → ClassId) (dI : Nat → Nat → Nat) (B : Nat) (cI cC cJ : ClassId) (x : Nat) (r : Nat) (h : Nat) (hz : Nat) (w : Nat) (b : Nat) (o : Nat) (os : Nat) (ot : Nat → Int32) (ol : Nat) (hol : ol ≤ 500) : Met l yX5_print wsX5_print ({ frames := 1, cells := 0, slots := 0, locals := 20 }) (q_Rd (dC, dI) vwCl [.ref x] [(x, .inr (5, [.ref r, .ref h, .ref hz, .ref w, .ref b, .ref o])), (o, .inr (2, [.ref os, .int (nI ol)])), (os, .inl (cC, 500, .inl ot))] [(cI, .int), (cC, .char), (cJ, .long)] B) (QcRead (nI ol)) 0 0 (fun _ => False) := by
  refine Met.ofW (cc := cX5_print) (maxL := 1) (ret := (some .int)) (by decide) rfl ?_
  intro p e s m args below meth c s₁ Bd hml hv
  obtain ⟨rfl, hP, hK, hT⟩ := hv
  have hx := Bd.exec
  have hb := Bd.bytes
  have hr := Bd.returns
  have hts := atoms_spec (ws := wsX5_print) Bd.pre
  have hg : ∀ w ∈ lw_good, w.before _ s = true := fun w h => hts w (List.mem_cons_of_mem _ h)
  have hown : s.vm.findClass RX5 = some m.cls := findClass_of_methodNamed Bd.named
  have hlocks := Bd.notSynchronized
  have hSB : va_S (fun q => B ≤ q) s.heap s.heap [] := va_S.rf
  have hP : va_P (dC, dI) vwCl [(x, .inr (5, [.ref r, .ref h, .ref hz, .ref w, .ref b, .ref o])), (o, .inr (2, [.ref os, .int (nI ol)])), (os, .inl (cC, 500, .inl ot))] s.heap := hP
  have hl := lv_entry ([.ref x]) (n := 1) (Nat.le_of_ble_eq_true rfl)
  rw [lg_entry_eq]
  generalize (lg_sl ([.ref x]) ++ List.replicate (1 - (lg_sl ([.ref x])).length) Slot.unset).toArray = ls at hl ⊢
  have hl : lv_has ls 1 [(0, .ref x)] := hl
  refine lv_aload_n hx hb dX5_print_0 rfl (lv_at hl 0 rfl) ?_
  refine va_get (D := (dC, dI)) (ci := 5) (v := .ref o) (C := RX5) (T := TX5) (N := 6) hx hb hg in_X5 hown hK hP 0 rfl rfl 5 (by decide) (hg _ w_108) (fun _ h9 => h9) rfl dX5_print_1 ?_
  refine go_R (r := (nI ol)) (va_runV (As := []) (rest := []) ⟨hx, hb, hml, hown, hg⟩ (kX2_length l dC dI B cI cC cJ o os ot ol (by omega)) (cwV 0 hg (gi_V w_170 w_171 w_172 w_7 w_173) rfl rfl rfl (by decide +kernel) ⟨Nat.le_of_ble_eq_true rfl, Nat.le_of_ble_eq_true rfl⟩) (pre_RV (va_recv hK hP (ci := 2) (q0 := 1) rfl rfl) (hP.sub [1, 2] rfl) hK hT) rfl rfl hl.1 rfl (lv_room (Nat.le_of_ble_eq_true rfl)) dX5_print_4 ⟨Nat.le_of_ble_eq_true rfl, Nat.le_of_ble_eq_true rfl⟩) ?_
  exact W.iret (v := (nI ol)) hx hb hr (fun t ht hW => rd_end rfl ht) (fun q h => by cases h) dX5_print_7
set_option maxHeartbeats 4000000 in
set_option maxRecDepth 100000 in
theorem kX5_keep (l : Launch) (dC : Nat → ClassId) (dI : Nat → Nat → Nat) (B : Nat) (cI cC cJ : ClassId) (x : Nat) (r : Nat) (h : Nat) (hz : Nat) (w : Nat) (b : Nat) (o : Nat) (hk : Nat) (hn : Nat) (hu : Nat) (ks : Nat → Int32) (ns : Nat → Int32) (us : Nat → Int32) (sz : Nat) (hkz : Nat) (hnz : Nat) (huz : Nat) (ksz : Nat → Int32) (nsz : Nat → Int32) (usz : Nat → Int32) (szz : Nat) (hsz : sz ≤ 50) (hszz : szz ≤ 50) (sz9 : Nat) : Met l yX5_keep wsX5_keep ({ frames := 2, cells := 0, slots := 0, locals := 81 }) (q_Mp (dC, dI) vwCl [.ref x] [(x, .inr (5, [.ref r, .ref h, .ref hz, .ref w, .ref b, .ref o])), (h, .inr (1, [.ref hk, .ref hn, .ref hu, .int (nI sz)])), (hk, .inl (cI, 50, .inl ks)), (hn, .inl (cI, 50, .inl ns)), (hu, .inl (cI, 200, .inl us)), (hz, .inr (1, [.ref hkz, .ref hnz, .ref huz, .int (nI szz)])), (hkz, .inl (cI, 50, .inl ksz)), (hnz, .inl (cI, 50, .inl nsz)), (huz, .inl (cI, 200, .inl usz))] [(cI, .int), (cC, .char), (cJ, .long)] B sz9) (q_Mq (dC, dI) vwCl [(x, .inr (5, [.ref r, .ref h, .ref hz, .ref w, .ref b, .ref o])), (h, .inr (1, [.ref hk, .ref hn, .ref hu, .int (nI sz)])), (hk, .inl (cI, 50, .inl ks)), (hn, .inl (cI, 50, .inl ns)), (hu, .inl (cI, 200, .inl us)), (hz, .inr (1, [.ref hkz, .ref hnz, .ref huz, .int (nI sz)])), (hkz, .inl (cI, 50, .inl ks)), (hnz, .inl (cI, 50, .inl ns)), (huz, .inl (cI, 200, .inl us))] (va_A [(x, .inr (5, [.ref r, .ref h, .ref hz, .ref w, .ref b, .ref o])), (h, .inr (1, [.ref hk, .ref hn, .ref hu, .int (nI sz)])), (hk, .inl (cI, 50, .inl ks)), (hn, .inl (cI, 50, .inl ns)), (hu, .inl (cI, 200, .inl us)), (hz, .inr (1, [.ref hkz, .ref hnz, .ref huz, .int (nI szz)])), (hkz, .inl (cI, 50, .inl ksz)), (hnz, .inl (cI, 50, .inl nsz)), (huz, .inl (cI, 200, .inl usz))] sz9) (some (.int (nI sz)))) 0 0 (va_A [(x, .inr (5, [.ref r, .ref h, .ref hz, .ref w, .ref b, .ref o])), (h, .inr (1, [.ref hk, .ref hn, .ref hu, .int (nI sz)])), (hk, .inl (cI, 50, .inl ks)), (hn, .inl (cI, 50, .inl ns)), (hu, .inl (cI, 200, .inl us)), (hz, .inr (1, [.ref hkz, .ref hnz, .ref huz, .int (nI szz)])), (hkz, .inl (cI, 50, .inl ksz)), (hnz, .inl (cI, 50, .inl nsz)), (huz, .inl (cI, 200, .inl usz))] sz9) := by
  refine Met.ofW (cc := cX5_keep) (maxL := 1) (ret := (some .int)) (by decide) rfl ?_
  intro p e s m args below meth c s₁ Bd hml hv
  obtain ⟨rfl, hsz9, hB, hP, hK, hD0, hT⟩ := hv
  have hx := Bd.exec
  have hb := Bd.bytes
  have hr := Bd.returns
  have hts := atoms_spec (ws := wsX5_keep) Bd.pre
  have hg : ∀ w ∈ lw_good, w.before _ s = true := fun w h => hts w (List.mem_cons_of_mem _ h)
  have hown : s.vm.findClass RX5 = some m.cls := findClass_of_methodNamed Bd.named
  have hlocks := Bd.notSynchronized
  subst hsz9
  have hD := hD0.self (sz := s.heap.size)
  generalize hAe : va_A [(x, .inr (5, [.ref r, .ref h, .ref hz, .ref w, .ref b, .ref o])), (h, .inr (1, [.ref hk, .ref hn, .ref hu, .int (nI sz)])), (hk, .inl (cI, 50, .inl ks)), (hn, .inl (cI, 50, .inl ns)), (hu, .inl (cI, 200, .inl us)), (hz, .inr (1, [.ref hkz, .ref hnz, .ref huz, .int (nI szz)])), (hkz, .inl (cI, 50, .inl ksz)), (hnz, .inl (cI, 50, .inl nsz)), (huz, .inl (cI, 200, .inl usz))] s.heap.size = A at hD ⊢
  have hA : ∀ q : Nat, s.heap.size ≤ q → A q := fun q h => by rw [← hAe]; exact Or.inr h
  have hAB : ∀ q, A q → B ≤ q := by rw [← hAe]; exact va_A.ge hD0 hB
  have hS : va_S A s.heap s.heap [] := va_S.rf
  have hP : va_P (dC, dI) vwCl [(x, .inr (5, [.ref r, .ref h, .ref hz, .ref w, .ref b, .ref o])), (h, .inr (1, [.ref hk, .ref hn, .ref hu, .int (nI sz)])), (hk, .inl (cI, 50, .inl ks)), (hn, .inl (cI, 50, .inl ns)), (hu, .inl (cI, 200, .inl us)), (hz, .inr (1, [.ref hkz, .ref hnz, .ref huz, .int (nI szz)])), (hkz, .inl (cI, 50, .inl ksz)), (hnz, .inl (cI, 50, .inl nsz)), (huz, .inl (cI, 200, .inl usz))] s.heap := hP
  have hl := lv_entry ([.ref x]) (n := 1) (Nat.le_of_ble_eq_true rfl)
  rw [lg_entry_eq]
  generalize (lg_sl ([.ref x]) ++ List.replicate (1 - (lg_sl ([.ref x])).length) Slot.unset).toArray = ls at hl ⊢
  have hl : lv_has ls 1 [(0, .ref x)] := hl
  refine lv_aload_n hx hb dX5_keep_0 rfl (lv_at hl 0 rfl) ?_
  refine va_get (D := (dC, dI)) (ci := 5) (v := .ref hz) (C := RX5) (T := TX5) (N := 6) hx hb hg in_X5 hown hK hP 0 rfl rfl 2 (by decide) (hg _ w_105) (fun _ h9 => h9) rfl dX5_keep_1 ?_
  refine lv_aload_n hx hb dX5_keep_4 rfl (lv_at hl 0 rfl) ?_
  refine va_get (D := (dC, dI)) (ci := 5) (v := .ref h) (C := RX5) (T := TX5) (N := 6) hx hb hg in_X5 hown hK hP 0 rfl rfl 1 (by decide) (hg _ w_104) (fun _ h9 => h9) rfl dX5_keep_5 ?_
  refine go_M (r := none) (wc' := [(hz, .inr (1, [.ref hkz, .ref hnz, .ref huz, .int (nI sz)])), (hkz, .inl (cI, 50, .inl ks)), (hnz, .inl (cI, 50, .inl ns)), (huz, .inl (cI, 200, .inl us)), (h, .inr (1, [.ref hk, .ref hn, .ref hu, .int (nI sz)])), (hk, .inl (cI, 50, .inl ks)), (hn, .inl (cI, 50, .inl ns)), (hu, .inl (cI, 200, .inl us))]) (w2 := [(x, .inr (5, [.ref r, .ref h, .ref hz, .ref w, .ref b, .ref o])), (h, .inr (1, [.ref hk, .ref hn, .ref hu, .int (nI sz)])), (hk, .inl (cI, 50, .inl ks)), (hn, .inl (cI, 50, .inl ns)), (hu, .inl (cI, 200, .inl us)), (hz, .inr (1, [.ref hkz, .ref hnz, .ref huz, .int (nI sz)])), (hkz, .inl (cI, 50, .inl ks)), (hnz, .inl (cI, 50, .inl ns)), (huz, .inl (cI, 200, .inl us))]) [5, 6, 7, 8, 1, 2, 3, 4] (va_runV (As := [.ref h]) (rest := []) ⟨hx, hb, hml, hown, hg⟩ (kX1_copyFrom l dC dI B cI cC cJ hz hkz hnz huz ksz nsz usz szz h hk hn hu ks ns us sz (by omega) (by omega) _) (cwV 1 hg (gi_V w_178 w_179 w_180 w_4 w_181) rfl rfl rfl (by decide +kernel) ⟨Nat.le_of_ble_eq_true rfl, Nat.le_of_ble_eq_true rfl⟩) (pre_MV (va_recv hK hP (ci := 1) (q0 := 5) rfl rfl) (Nat.le_trans hB hS.1) (hP.sub [5, 6, 7, 8, 1, 2, 3, 4] rfl) hK ((hD.weaken (fun _ _ _ h => hAB _ h)).sub [5, 6, 7, 8, 1, 2, 3, 4] (by decide) rfl) hT) rfl rfl hl.1 rfl (lv_room (Nat.le_of_ble_eq_true rfl)) dX5_keep_8 ⟨Nat.le_of_ble_eq_true rfl, Nat.le_of_ble_eq_true rfl⟩) hP hD hS hA rfl (Nat.le_of_ble_eq_true rfl) rfl rfl (fun H locs hP hD hS => ?_)
  refine W.eq (g2 := F0 m 11 ls []) rfl ?_
  refine lv_aload_n hx hb dX5_keep_11 rfl (lv_at hl 0 rfl) ?_
  refine va_get (D := (dC, dI)) (ci := 5) (v := .ref hz) (C := RX5) (T := TX5) (N := 6) hx hb hg in_X5 hown hK hP 0 rfl rfl 2 (by decide) (hg _ w_105) (fun _ h9 => h9) rfl dX5_keep_12 ?_
  refine go_R (r := (nI sz)) (va_runV (As := []) (rest := []) ⟨hx, hb, hml, hown, hg⟩ (kX1_size l dC dI B cI cC cJ hz hkz hnz huz ks ns us sz (by omega)) (cwV 0 hg (gi_V w_185 w_186 w_187 w_4 w_188) rfl rfl rfl (by decide +kernel) ⟨Nat.le_of_ble_eq_true rfl, Nat.le_of_ble_eq_true rfl⟩) (pre_RV (va_recv hK hP (ci := 1) (q0 := 5) rfl rfl) (hP.sub [5, 6, 7, 8] rfl) hK (hT.kept (hS.mono hAB))) rfl rfl hl.1 rfl (lv_room (Nat.le_of_ble_eq_true rfl)) dX5_keep_15 ⟨Nat.le_of_ble_eq_true rfl, Nat.le_of_ble_eq_true rfl⟩) ?_
  have hP9 := hP
  have hS9 := hS
  exact W.iret hx hb hr (fun t ht hW => ⟨rfl, by rw [ht]; exact hP9, hS9.F ht⟩) hS9.2.2 dX5_keep_18
set_option maxHeartbeats 4000000 in
set_option maxRecDepth 100000 in
theorem kX5_compare (l : Launch) (dC : Nat → ClassId) (dI : Nat → Nat → Nat) (B : Nat) (cI cC cJ : ClassId) (x : Nat) (r : Nat) (h : Nat) (hz : Nat) (w : Nat) (b : Nat) (o : Nat) (hk : Nat) (hn : Nat) (hu : Nat) (ks : Nat → Int32) (ns : Nat → Int32) (us : Nat → Int32) (sz : Nat) (hkz : Nat) (hnz : Nat) (huz : Nat) (ksz : Nat → Int32) (nsz : Nat → Int32) (usz : Nat → Int32) (szz : Nat) (hsz : sz ≤ 50) (hszz : szz ≤ 50) : Met l yX5_compare wsX5_compare ({ frames := 4, cells := 0, slots := 0, locals := 89 }) (q_Rd (dC, dI) vwCl [.ref x] [(x, .inr (5, [.ref r, .ref h, .ref hz, .ref w, .ref b, .ref o])), (h, .inr (1, [.ref hk, .ref hn, .ref hu, .int (nI sz)])), (hk, .inl (cI, 50, .inl ks)), (hn, .inl (cI, 50, .inl ns)), (hu, .inl (cI, 200, .inl us)), (hz, .inr (1, [.ref hkz, .ref hnz, .ref huz, .int (nI szz)])), (hkz, .inl (cI, 50, .inl ksz)), (hnz, .inl (cI, 50, .inl nsz)), (huz, .inl (cI, 200, .inl usz))] [(cI, .int), (cC, .char), (cJ, .long)] B) (QcRead (nI (k_compare ks ns us sz ksz nsz usz szz))) 0 0 (fun _ => False) := by
  refine Met.ofW (cc := cX5_compare) (maxL := 1) (ret := (some .int)) (by decide) rfl ?_
  intro p e s m args below meth c s₁ Bd hml hv
  obtain ⟨rfl, hP, hK, hT⟩ := hv
  have hx := Bd.exec
  have hb := Bd.bytes
  have hr := Bd.returns
  have hts := atoms_spec (ws := wsX5_compare) Bd.pre
  have hg : ∀ w ∈ lw_good, w.before _ s = true := fun w h => hts w (List.mem_cons_of_mem _ h)
  have hown : s.vm.findClass RX5 = some m.cls := findClass_of_methodNamed Bd.named
  have hlocks := Bd.notSynchronized
  have hSB : va_S (fun q => B ≤ q) s.heap s.heap [] := va_S.rf
  have hP : va_P (dC, dI) vwCl [(x, .inr (5, [.ref r, .ref h, .ref hz, .ref w, .ref b, .ref o])), (h, .inr (1, [.ref hk, .ref hn, .ref hu, .int (nI sz)])), (hk, .inl (cI, 50, .inl ks)), (hn, .inl (cI, 50, .inl ns)), (hu, .inl (cI, 200, .inl us)), (hz, .inr (1, [.ref hkz, .ref hnz, .ref huz, .int (nI szz)])), (hkz, .inl (cI, 50, .inl ksz)), (hnz, .inl (cI, 50, .inl nsz)), (huz, .inl (cI, 200, .inl usz))] s.heap := hP
  have hl := lv_entry ([.ref x]) (n := 1) (Nat.le_of_ble_eq_true rfl)
  rw [lg_entry_eq]
  generalize (lg_sl ([.ref x]) ++ List.replicate (1 - (lg_sl ([.ref x])).length) Slot.unset).toArray = ls at hl ⊢
  have hl : lv_has ls 1 [(0, .ref x)] := hl
  refine lv_aload_n hx hb dX5_compare_0 rfl (lv_at hl 0 rfl) ?_
  refine va_get (D := (dC, dI)) (ci := 5) (v := .ref h) (C := RX5) (T := TX5) (N := 6) hx hb hg in_X5 hown hK hP 0 rfl rfl 1 (by decide) (hg _ w_104) (fun _ h9 => h9) rfl dX5_compare_1 ?_
  refine lv_aload_n hx hb dX5_compare_4 rfl (lv_at hl 0 rfl) ?_
  refine va_get (D := (dC, dI)) (ci := 5) (v := .ref hz) (C := RX5) (T := TX5) (N := 6) hx hb hg in_X5 hown hK hP 0 rfl rfl 2 (by decide) (hg _ w_105) (fun _ h9 => h9) rfl dX5_compare_5 ?_
  refine go_R (r := (nI (k_miss ks ns sz ksz nsz szz 0 0))) (va_runV (As := [.ref hz]) (rest := []) ⟨hx, hb, hml, hown, hg⟩ (kX1_missingIn l dC dI B cI cC cJ h hk hn hu ks ns us sz hz hkz hnz huz ksz nsz usz szz (by omega) (by omega)) (cwV 1 hg (gi_V w_193 w_194 w_195 w_4 w_196) rfl rfl rfl (by decide +kernel) ⟨Nat.le_of_ble_eq_true rfl, Nat.le_of_ble_eq_true rfl⟩) (pre_RV (va_recv hK hP (ci := 1) (q0 := 1) rfl rfl) (hP.sub [1, 2, 3, 4, 5, 6, 7, 8] rfl) hK hT) rfl rfl hl.1 rfl (lv_room (Nat.le_of_ble_eq_true rfl)) dX5_compare_8 ⟨Nat.le_of_ble_eq_true rfl, Nat.le_of_ble_eq_true rfl⟩) ?_
  refine lv_aload_n hx hb dX5_compare_11 rfl (lv_at hl 0 rfl) ?_
  refine va_get (D := (dC, dI)) (ci := 5) (v := .ref hz) (C := RX5) (T := TX5) (N := 6) hx hb hg in_X5 hown hK hP 0 rfl rfl 2 (by decide) (hg _ w_105) (fun _ h9 => h9) rfl dX5_compare_12 ?_
  refine lv_aload_n hx hb dX5_compare_15 rfl (lv_at hl 0 rfl) ?_
  refine va_get (D := (dC, dI)) (ci := 5) (v := .ref h) (C := RX5) (T := TX5) (N := 6) hx hb hg in_X5 hown hK hP 0 rfl rfl 1 (by decide) (hg _ w_104) (fun _ h9 => h9) rfl dX5_compare_16 ?_
  refine go_R (r := (nI (k_miss ksz nsz szz ks ns sz 0 0))) (va_runV (As := [.ref h]) (rest := [.int (nI (k_miss ks ns sz ksz nsz szz 0 0))]) ⟨hx, hb, hml, hown, hg⟩ (kX1_missingIn l dC dI B cI cC cJ hz hkz hnz huz ksz nsz usz szz h hk hn hu ks ns us sz (by omega) (by omega)) (cwV 1 hg (gi_V w_193 w_194 w_195 w_4 w_196) rfl rfl rfl (by decide +kernel) ⟨Nat.le_of_ble_eq_true rfl, Nat.le_of_ble_eq_true rfl⟩) (pre_RV (va_recv hK hP (ci := 1) (q0 := 5) rfl rfl) (hP.sub [5, 6, 7, 8, 1, 2, 3, 4] rfl) hK hT) rfl rfl hl.1 rfl (lv_room (Nat.le_of_ble_eq_true rfl)) dX5_compare_19 ⟨Nat.le_of_ble_eq_true rfl, Nat.le_of_ble_eq_true rfl⟩) ?_
  refine lv_iadd hx hb dX5_compare_22 ?_
  refine top_eq (y := (nI ((k_miss ks ns sz ksz nsz szz 0 0) + (k_miss ksz nsz szz ks ns sz 0 0)))) (by exact nI_add _ _) ?_
  refine lv_aload_n hx hb dX5_compare_23 rfl (lv_at hl 0 rfl) ?_
  refine va_get (D := (dC, dI)) (ci := 5) (v := .ref h) (C := RX5) (T := TX5) (N := 6) hx hb hg in_X5 hown hK hP 0 rfl rfl 1 (by decide) (hg _ w_104) (fun _ h9 => h9) rfl dX5_compare_24 ?_
  refine lv_aload_n hx hb dX5_compare_27 rfl (lv_at hl 0 rfl) ?_
  refine va_get (D := (dC, dI)) (ci := 5) (v := .ref hz) (C := RX5) (T := TX5) (N := 6) hx hb hg in_X5 hown hK hP 0 rfl rfl 2 (by decide) (hg _ w_105) (fun _ h9 => h9) rfl dX5_compare_28 ?_
  refine go_R (r := (nI (k_chg ks ns us sz ksz nsz usz szz 0 0))) (va_runV (As := [.ref hz]) (rest := [.int (nI ((k_miss ks ns sz ksz nsz szz 0 0) + (k_miss ksz nsz szz ks ns sz 0 0)))]) ⟨hx, hb, hml, hown, hg⟩ (kX1_changedIn l dC dI B cI cC cJ h hk hn hu ks ns us sz hz hkz hnz huz ksz nsz usz szz (by omega) (by omega)) (cwV 1 hg (gi_V w_198 w_199 w_200 w_4 w_201) rfl rfl rfl (by decide +kernel) ⟨Nat.le_of_ble_eq_true rfl, Nat.le_of_ble_eq_true rfl⟩) (pre_RV (va_recv hK hP (ci := 1) (q0 := 1) rfl rfl) (hP.sub [1, 2, 3, 4, 5, 6, 7, 8] rfl) hK hT) rfl rfl hl.1 rfl (lv_room (Nat.le_of_ble_eq_true rfl)) dX5_compare_31 ⟨Nat.le_of_ble_eq_true rfl, Nat.le_of_ble_eq_true rfl⟩) ?_
  refine lv_iadd hx hb dX5_compare_34 ?_
  refine top_eq (y := (nI (((k_miss ks ns sz ksz nsz szz 0 0) + (k_miss ksz nsz szz ks ns sz 0 0)) + (k_chg ks ns us sz ksz nsz usz szz 0 0)))) (by exact nI_add _ _) ?_
  exact W.iret (v := (nI (((k_miss ks ns sz ksz nsz szz 0 0) + (k_miss ksz nsz szz ks ns sz 0 0)) + (k_chg ks ns us sz ksz nsz usz szz 0 0)))) hx hb hr (fun t ht hW => rd_end rfl ht) (fun q h => by cases h) dX5_compare_35
set_option maxHeartbeats 4000000 in
set_option maxRecDepth 100000 in
theorem kX5_count (l : Launch) (dC : Nat → ClassId) (dI : Nat → Nat → Nat) (B : Nat) (cI cC cJ : ClassId) (x : Nat) (r : Nat) (h : Nat) (hz : Nat) (w : Nat) (b : Nat) (o : Nat) (rs : Nat) (hd : Nat) (sg : Nat → Int32) (len : Nat) (pl : Nat) (fn : Int32) (fp : Int32) (hk : Nat) (hn : Nat) (hu : Nat) (ks : Nat → Int32) (ns : Nat → Int32) (us : Nat → Int32) (sz : Nat) (hkz : Nat) (hnz : Nat) (huz : Nat) (ksz : Nat → Int32) (nsz : Nat → Int32) (usz : Nat → Int32) (szz : Nat) (p0 : Int32) (hlen : len ≤ 500) (hpl : pl ≤ 501) (hsz : sz ≤ 50) (hszz : szz ≤ 50) : Met l yX5_count wsX5_count ({ frames := 2, cells := 0, slots := 0, locals := 43 }) (q_Rd (dC, dI) vwCl [.ref x, .int p0] [(x, .inr (5, [.ref r, .ref h, .ref hz, .ref w, .ref b, .ref o])), (r, .inr (3, [.ref rs, .ref hd, .int (nI len), .int (nI pl), .int fn, .int fp])), (rs, .inl (cC, 500, .inl sg)), (h, .inr (1, [.ref hk, .ref hn, .ref hu, .int (nI sz)])), (hk, .inl (cI, 50, .inl ks)), (hn, .inl (cI, 50, .inl ns)), (hu, .inl (cI, 200, .inl us)), (hz, .inr (1, [.ref hkz, .ref hnz, .ref huz, .int (nI szz)])), (hkz, .inl (cI, 50, .inl ksz)), (hnz, .inl (cI, 50, .inl nsz)), (huz, .inl (cI, 200, .inl usz))] [(cI, .int), (cC, .char), (cJ, .long)] B) (QcRead (k_count len sz szz ks p0)) 0 0 (fun _ => False) := by
  refine Met.ofW (cc := cX5_count) (maxL := 2) (ret := (some .int)) (by decide) rfl ?_
  intro p e s m args below meth c s₁ Bd hml hv
  obtain ⟨rfl, hP, hK, hT⟩ := hv
  have hx := Bd.exec
  have hb := Bd.bytes
  have hr := Bd.returns
  have hts := atoms_spec (ws := wsX5_count) Bd.pre
  have hg : ∀ w ∈ lw_good, w.before _ s = true := fun w h => hts w (List.mem_cons_of_mem _ h)
  have hown : s.vm.findClass RX5 = some m.cls := findClass_of_methodNamed Bd.named
  have hlocks := Bd.notSynchronized
  have hSB : va_S (fun q => B ≤ q) s.heap s.heap [] := va_S.rf
  have hP : va_P (dC, dI) vwCl [(x, .inr (5, [.ref r, .ref h, .ref hz, .ref w, .ref b, .ref o])), (r, .inr (3, [.ref rs, .ref hd, .int (nI len), .int (nI pl), .int fn, .int fp])), (rs, .inl (cC, 500, .inl sg)), (h, .inr (1, [.ref hk, .ref hn, .ref hu, .int (nI sz)])), (hk, .inl (cI, 50, .inl ks)), (hn, .inl (cI, 50, .inl ns)), (hu, .inl (cI, 200, .inl us)), (hz, .inr (1, [.ref hkz, .ref hnz, .ref huz, .int (nI szz)])), (hkz, .inl (cI, 50, .inl ksz)), (hnz, .inl (cI, 50, .inl nsz)), (huz, .inl (cI, 200, .inl usz))] s.heap := hP
  have hl := lv_entry ([.ref x, .int p0]) (n := 2) (Nat.le_of_ble_eq_true rfl)
  rw [lg_entry_eq]
  generalize (lg_sl ([.ref x, .int p0]) ++ List.replicate (2 - (lg_sl ([.ref x, .int p0])).length) Slot.unset).toArray = ls at hl ⊢
  have hl : lv_has ls 2 [(0, .ref x), (1, .int p0)] := hl
  refine lv_iload_n hx hb dX5_count_0 rfl (lv_at hl 1 rfl) ?_
  rcases sw3 p0 with rfl | rfl | rfl | ⟨c_1, c_2, c_3, c_4⟩
  · skip
    refine lv_tableIn (tgt := 28) hx hb dX5_count_1 (by decide) (by decide) rfl (by decide) ?_
    refine lv_aload_n hx hb dX5_count_28 rfl (lv_at hl 0 rfl) ?_
    refine va_get (D := (dC, dI)) (ci := 5) (v := .ref r) (C := RX5) (T := TX5) (N := 6) hx hb hg in_X5 hown hK hP 0 rfl rfl 0 (by decide) (hg _ w_103) (fun _ h9 => h9) rfl dX5_count_29 ?_
    refine go_R (r := (nI len)) (va_runV (As := []) (rest := []) ⟨hx, hb, hml, hown, hg⟩ (kX3_length l dC dI B cI cC cJ r rs hd sg len pl fn fp (by omega) (by omega)) (cwV 0 hg (gi_V w_223 w_224 w_225 w_3 w_226) rfl rfl rfl (by decide +kernel) ⟨Nat.le_of_ble_eq_true rfl, Nat.le_of_ble_eq_true rfl⟩) (pre_RV (va_recv hK hP (ci := 3) (q0 := 1) rfl rfl) (hP.sub [1, 2] rfl) hK hT) rfl rfl hl.1 rfl (lv_room (Nat.le_of_ble_eq_true rfl)) dX5_count_32 ⟨Nat.le_of_ble_eq_true rfl, Nat.le_of_ble_eq_true rfl⟩) ?_
    exact W.iret (v := (nI len)) hx hb hr (fun t ht hW => rd_end (by simp [k_count, nI_0]) ht) (fun q h => by cases h) dX5_count_35
  · skip
    refine lv_tableIn (tgt := 36) hx hb dX5_count_1 (by decide) (by decide) rfl (by decide) ?_
    refine lv_aload_n hx hb dX5_count_36 rfl (lv_at hl 0 rfl) ?_
    refine va_get (D := (dC, dI)) (ci := 5) (v := .ref h) (C := RX5) (T := TX5) (N := 6) hx hb hg in_X5 hown hK hP 0 rfl rfl 1 (by decide) (hg _ w_104) (fun _ h9 => h9) rfl dX5_count_37 ?_
    refine go_R (r := (nI sz)) (va_runV (As := []) (rest := []) ⟨hx, hb, hml, hown, hg⟩ (kX1_size l dC dI B cI cC cJ h hk hn hu ks ns us sz (by omega)) (cwV 0 hg (gi_V w_185 w_186 w_187 w_4 w_188) rfl rfl rfl (by decide +kernel) ⟨Nat.le_of_ble_eq_true rfl, Nat.le_of_ble_eq_true rfl⟩) (pre_RV (va_recv hK hP (ci := 1) (q0 := 3) rfl rfl) (hP.sub [3, 4, 5, 6] rfl) hK hT) rfl rfl hl.1 rfl (lv_room (Nat.le_of_ble_eq_true rfl)) dX5_count_40 ⟨Nat.le_of_ble_eq_true rfl, Nat.le_of_ble_eq_true rfl⟩) ?_
    exact W.iret (v := (nI sz)) hx hb hr (fun t ht hW => rd_end (by simp [k_count, nI_0]) ht) (fun q h => by cases h) dX5_count_43
  · skip
    refine lv_tableIn (tgt := 44) hx hb dX5_count_1 (by decide) (by decide) rfl (by decide) ?_
    refine lv_aload_n hx hb dX5_count_44 rfl (lv_at hl 0 rfl) ?_
    refine va_get (D := (dC, dI)) (ci := 5) (v := .ref hz) (C := RX5) (T := TX5) (N := 6) hx hb hg in_X5 hown hK hP 0 rfl rfl 2 (by decide) (hg _ w_105) (fun _ h9 => h9) rfl dX5_count_45 ?_
    refine go_R (r := (nI szz)) (va_runV (As := []) (rest := []) ⟨hx, hb, hml, hown, hg⟩ (kX1_size l dC dI B cI cC cJ hz hkz hnz huz ksz nsz usz szz (by omega)) (cwV 0 hg (gi_V w_185 w_186 w_187 w_4 w_188) rfl rfl rfl (by decide +kernel) ⟨Nat.le_of_ble_eq_true rfl, Nat.le_of_ble_eq_true rfl⟩) (pre_RV (va_recv hK hP (ci := 1) (q0 := 7) rfl rfl) (hP.sub [7, 8, 9, 10] rfl) hK hT) rfl rfl hl.1 rfl (lv_room (Nat.le_of_ble_eq_true rfl)) dX5_count_48 ⟨Nat.le_of_ble_eq_true rfl, Nat.le_of_ble_eq_true rfl⟩) ?_
    exact W.iret (v := (nI szz)) hx hb hr (fun t ht hW => rd_end (by simp [k_count, nI_0]) ht) (fun q h => by cases h) dX5_count_51
  · skip
    refine lv_tableOut (tgt := 52) hx hb dX5_count_1 c_4 (by decide) ?_
    refine lv_iload_n hx hb dX5_count_52 rfl (lv_at hl 1 rfl) ?_
    refine lv_bipush (v := 10) hx hb dX5_count_53 (by decide) ?_
    refine lv_icmp_ge (tgt := 62) hx hb dX5_count_55 (by decide) (fun c_6 => ?_) (fun c_6 => ?_)
    · skip
      refine lv_aload_n hx hb dX5_count_62 rfl (lv_at hl 0 rfl) ?_
      refine va_get (D := (dC, dI)) (ci := 5) (v := .ref h) (C := RX5) (T := TX5) (N := 6) hx hb hg in_X5 hown hK hP 0 rfl rfl 1 (by decide) (hg _ w_104) (fun _ h9 => h9) rfl dX5_count_63 ?_
      refine lv_iload_n hx hb dX5_count_66 rfl (lv_at hl 1 rfl) ?_
      refine lv_bipush (v := 10) hx hb dX5_count_67 (by decide) ?_
      refine lv_isub hx hb dX5_count_69 ?_
      refine go_R (r := k_sizeOfKind ks sz (p0 - 10)) (va_runV (As := [.int (p0 - 10)]) (rest := []) ⟨hx, hb, hml, hown, hg⟩ (kX1_sizeOfKind l dC dI B cI cC cJ h hk hn hu ks ns us sz (p0 - 10) (by omega)) (cwV 1 hg (gi_V w_227 w_228 w_229 w_4 w_230) rfl rfl rfl (by decide +kernel) ⟨Nat.le_of_ble_eq_true rfl, Nat.le_of_ble_eq_true rfl⟩) (pre_RV (va_recv hK hP (ci := 1) (q0 := 3) rfl rfl) (hP.sub [3, 4, 5, 6] rfl) hK hT) rfl rfl hl.1 rfl (lv_room (Nat.le_of_ble_eq_true rfl)) dX5_count_70 ⟨Nat.le_of_ble_eq_true rfl, Nat.le_of_ble_eq_true rfl⟩) ?_
      exact W.iret (v := k_sizeOfKind ks sz (p0 - 10)) hx hb hr (fun t ht hW => rd_end (by simp [k_count, c_1, c_2, c_3, c_6]) ht) (fun q h => by cases h) dX5_count_73
    · skip
      refine lv_iconst (v := (-1)) hx hb dX5_count_58 (by decide) ?_
      refine lv_goto (tgt := 73) hx hb dX5_count_59 (by decide) ?_
      exact W.iret (v := (-1)) hx hb hr (fun t ht hW => rd_end (by simp [k_count, c_1, c_2, c_3, c_6]) ht) (fun q h => by cases h) dX5_count_73
