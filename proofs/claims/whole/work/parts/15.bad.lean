set_option maxHeartbeats 4000000 in
set_option maxRecDepth 100000 in
theorem kX0_size (l : Launch) (dC : Nat → ClassId) (dI : Nat → Nat → Nat) (B : Nat) (cI cC cJ : ClassId) (b : Nat) (be : Nat) (en : Nat → Int32) (bn : Nat) (hbn : bn ≤ 100) : Met l yX0_size wsX0_size ({ frames := 0, cells := 0, slots := 0, locals := 0 }) (q_Rd (dC, dI) vwCl [.ref b] [(b, .inr (0, [.ref be, .int (nI bn)])), (be, .inl (cI, 100, .inl en))] [(cI, .int), (cC, .char), (cJ, .long)] B) (QcRead (nI bn)) 0 0 (fun _ => False) := by
  refine Met.ofW (cc := cX0_size) (maxL := 1) (ret := (some .int)) (by decide) rfl ?_
  intro p e s m args below meth c s₁ Bd hml hv
  obtain ⟨rfl, hP, hK, hT⟩ := hv
  have hx := Bd.exec
  have hb := Bd.bytes
  have hr := Bd.returns
  have hts := atoms_spec (ws := wsX0_size) Bd.pre
  have hg : ∀ w ∈ lw_good, w.before _ s = true := fun w h => hts w (List.mem_cons_of_mem _ h)
  have hown : s.vm.findClass RX0 = some m.cls := findClass_of_methodNamed Bd.named
  have hlocks := Bd.notSynchronized
  have hSB : va_S (fun q => B ≤ q) s.heap s.heap [] := va_S.rf
  have hP : va_P (dC, dI) vwCl [(b, .inr (0, [.ref be, .int (nI bn)])), (be, .inl (cI, 100, .inl en))] s.heap := hP
  have hl := lv_entry ([.ref b]) (n := 1) (Nat.le_of_ble_eq_true rfl)
  rw [lg_entry_eq]
  generalize (lg_sl ([.ref b]) ++ List.replicate (1 - (lg_sl ([.ref b])).length) Slot.unset).toArray = ls at hl ⊢
  have hl : lv_has ls 1 [(0, .ref b)] := hl
  refine lv_aload_n hx hb dX0_size_0 rfl (lv_at hl 0 rfl) ?_
  refine va_get (D := (dC, dI)) (ci := 0) (v := .int (nI bn)) (C := RX0) (T := TX0) (N := 2) hx hb hg in_X0 hown hK hP 0 rfl rfl 1 (by decide) (hg _ w_85) (fun _ h9 => h9) rfl dX0_size_1 ?_
  exact W.iret (v := (nI bn)) hx hb hr (fun t ht hW => rd_end rfl ht) (fun q h => by cases h) dX0_size_4
set_option maxHeartbeats 4000000 in
set_option maxRecDepth 100000 in
theorem kX0_entry (l : Launch) (dC : Nat → ClassId) (dI : Nat → Nat → Nat) (B : Nat) (cI cC cJ : ClassId) (b : Nat) (be : Nat) (en : Nat → Int32) (bn : Nat) (p0 : Int32) (hbn : bn ≤ 100) : Met l yX0_entry wsX0_entry ({ frames := 0, cells := 0, slots := 0, locals := 0 }) (q_Rd (dC, dI) vwCl [.ref b, .int p0] [(b, .inr (0, [.ref be, .int (nI bn)])), (be, .inl (cI, 100, .inl en))] [(cI, .int), (cC, .char), (cJ, .long)] B) (QcRead (k_get en bn p0)) 0 0 (fun _ => False) := by
  refine Met.ofW (cc := cX0_entry) (maxL := 2) (ret := (some .int)) (by decide) rfl ?_
  intro p e s m args below meth c s₁ Bd hml hv
  obtain ⟨rfl, hP, hK, hT⟩ := hv
  have hx := Bd.exec
  have hb := Bd.bytes
  have hr := Bd.returns
  have hts := atoms_spec (ws := wsX0_entry) Bd.pre
  have hg : ∀ w ∈ lw_good, w.before _ s = true := fun w h => hts w (List.mem_cons_of_mem _ h)
  have hown : s.vm.findClass RX0 = some m.cls := findClass_of_methodNamed Bd.named
  have hlocks := Bd.notSynchronized
  have hSB : va_S (fun q => B ≤ q) s.heap s.heap [] := va_S.rf
  have hP : va_P (dC, dI) vwCl [(b, .inr (0, [.ref be, .int (nI bn)])), (be, .inl (cI, 100, .inl en))] s.heap := hP
  have hl := lv_entry ([.ref b, .int p0]) (n := 2) (Nat.le_of_ble_eq_true rfl)
  rw [lg_entry_eq]
  generalize (lg_sl ([.ref b, .int p0]) ++ List.replicate (2 - (lg_sl ([.ref b, .int p0])).length) Slot.unset).toArray = ls at hl ⊢
  have hl : lv_has ls 2 [(0, .ref b), (1, .int p0)] := hl
  refine lv_iload_n hx hb dX0_entry_0 rfl (lv_at hl 1 rfl) ?_
  refine lv_if_lt (tgt := 21) hx hb dX0_entry_1 (by decide) (fun c_1 => ?_) (fun c_1 => ?_)
  · skip
    refine lv_iconst (v := (-1)) hx hb dX0_entry_21 (by decide) ?_
    exact W.iret (v := (-1)) hx hb hr (fun t ht hW => rd_end (by simp [k_get, c_1]) ht) (fun q h => by cases h) dX0_entry_22
  · skip
    refine lv_iload_n hx hb dX0_entry_4 rfl (lv_at hl 1 rfl) ?_
    refine lv_aload_n hx hb dX0_entry_5 rfl (lv_at hl 0 rfl) ?_
    refine va_get (D := (dC, dI)) (ci := 0) (v := .int (nI bn)) (C := RX0) (T := TX0) (N := 2) hx hb hg in_X0 hown hK hP 0 rfl rfl 1 (by decide) (hg _ w_85) (fun _ h9 => h9) rfl dX0_entry_6 ?_
    refine lv_icmp_ge (tgt := 21) hx hb dX0_entry_9 (by decide) (fun c_2 => ?_) (fun c_2 => ?_)
    · skip
      refine lv_iconst (v := (-1)) hx hb dX0_entry_21 (by decide) ?_
      exact W.iret (v := (-1)) hx hb hr (fun t ht hW => rd_end (by simp [k_get, c_1, c_2]) ht) (fun q h => by cases h) dX0_entry_22
    · skip
      refine lv_aload_n hx hb dX0_entry_12 rfl (lv_at hl 0 rfl) ?_
      refine va_get (D := (dC, dI)) (ci := 0) (v := .ref be) (C := RX0) (T := TX0) (N := 2) hx hb hg in_X0 hown hK hP 0 rfl rfl 0 (by decide) (hg _ w_84) (fun _ h9 => h9) rfl dX0_entry_13 ?_
      refine lv_iload_n hx hb dX0_entry_16 rfl (lv_at hl 1 rfl) ?_
      refine va_iald (i := p0) hx hb hK hP 1 0 rfl rfl (ix_in c_1 c_2 hbn (by decide)) dX0_entry_17 ?_
      refine lv_goto (tgt := 22) hx hb dX0_entry_18 (by decide) ?_
      exact W.iret (v := en p0.toNatClampNeg) hx hb hr (fun t ht hW => rd_end (by simp [k_get, c_1, c_2]) ht) (fun q h => by cases h) dX0_entry_22
set_option maxHeartbeats 4000000 in
set_option maxRecDepth 100000 in
theorem kX0_holds (l : Launch) (dC : Nat → ClassId) (dI : Nat → Nat → Nat) (B : Nat) (cI cC cJ : ClassId) (h : Nat) (hk : Nat) (hn : Nat) (hu : Nat) (ks : Nat → Int32) (ns : Nat → Int32) (us : Nat → Int32) (sz : Nat) (w : Nat) (wd : Nat) (dp : Nat → Int32) (rsn : Nat) (p3 : Int32) (hsz : sz ≤ 50) (hrs : rsn < 4) : Met l yX0_holds wsX0_holds ({ frames := 2, cells := 0, slots := 0, locals := 45 }) (q_Rd (dC, dI) vwCl [.ref h, .ref w, .int (nI rsn), .int p3] [(h, .inr (1, [.ref hk, .ref hn, .ref hu, .int (nI sz)])), (hk, .inl (cI, 50, .inl ks)), (hn, .inl (cI, 50, .inl ns)), (hu, .inl (cI, 200, .inl us)), (w, .inr (4, [.ref wd])), (wd, .inl (cI, 16, .inl dp))] [(cI, .int), (cC, .char), (cJ, .long)] B) (QcRead (bI (k_holds ks us sz dp rsn p3))) 0 0 (fun _ => False) := by
  refine Met.ofW (cc := cX0_holds) (maxL := 6) (ret := (some .boolean)) (by decide) rfl ?_
  intro p e s m args below meth c s₁ Bd hml hv
  obtain ⟨rfl, hP, hK, hT⟩ := hv
  have hx := Bd.exec
  have hb := Bd.bytes
  have hr := Bd.returns
  have hts := atoms_spec (ws := wsX0_holds) Bd.pre
  have hg : ∀ w ∈ lw_good, w.before _ s = true := fun w h => hts w (List.mem_cons_of_mem _ h)
  have hown : s.vm.findClass RX0 = some m.cls := findClass_of_methodNamed Bd.named
  have hlocks := Bd.notSynchronized
  have hSB : va_S (fun q => B ≤ q) s.heap s.heap [] := va_S.rf
  have hP : va_P (dC, dI) vwCl [(h, .inr (1, [.ref hk, .ref hn, .ref hu, .int (nI sz)])), (hk, .inl (cI, 50, .inl ks)), (hn, .inl (cI, 50, .inl ns)), (hu, .inl (cI, 200, .inl us)), (w, .inr (4, [.ref wd])), (wd, .inl (cI, 16, .inl dp))] s.heap := hP
  have hl := lv_entry ([.ref h, .ref w, .int (nI rsn), .int p3]) (n := 6) (Nat.le_of_ble_eq_true rfl)
  rw [lg_entry_eq]
  generalize (lg_sl ([.ref h, .ref w, .int (nI rsn), .int p3]) ++ List.replicate (6 - (lg_sl ([.ref h, .ref w, .int (nI rsn), .int p3])).length) Slot.unset).toArray = ls at hl ⊢
  have hl : lv_has ls 6 [(0, .ref h), (1, .ref w), (2, .int (nI rsn)), (3, .int p3)] := hl
  refine lv_aload_n hx hb dX0_holds_0 rfl (lv_at hl 0 rfl) ?_
  refine lv_iload_n hx hb dX0_holds_1 rfl (lv_at hl 3 rfl) ?_
  refine go_R (r := k_get ks sz p3) (va_runV (As := [.int p3]) (rest := []) ⟨hx, hb, hml, hown, hg⟩ (kX1_kindOf l dC dI B cI cC cJ h hk hn hu ks ns us sz p3 (by omega)) (cwV 1 hg (gi_V w_388 w_206 w_207 w_4 w_208) rfl rfl rfl (by decide +kernel) ⟨Nat.le_of_ble_eq_true rfl, Nat.le_of_ble_eq_true rfl⟩) (pre_RV (va_recv hK hP (ci := 1) (q0 := 0) rfl rfl) (hP.sub [0, 1, 2, 3] rfl) hK hT) rfl rfl hl.1 rfl (lv_room (Nat.le_of_ble_eq_true rfl)) dX0_holds_2 ⟨Nat.le_of_ble_eq_true rfl, Nat.le_of_ble_eq_true rfl⟩) ?_
  refine lv_istore (lv' := [(4, .int (k_get ks sz p3)), (0, .ref h), (1, .ref w), (2, .int (nI rsn)), (3, .int p3)]) hx hb dX0_holds_5 hl (by decide) rfl (fun ls hl => ?_)
  refine lv_aload_n hx hb dX0_holds_7 rfl (lv_at hl 1 rfl) ?_
  refine lv_iload_n hx hb dX0_holds_8 rfl (lv_at hl 4 rfl) ?_
  refine lv_iconst (v := 0) hx hb dX0_holds_9 (by decide) ?_
  refine go_R (r := k_num us sz p3 0) (va_runV (As := [.int p3, .int 0]) (rest := []) ⟨hx, hb, hml, hown, hg⟩ (kX1_numberOf l dC dI B cI cC cJ h hk hn hu ks ns us sz p3 0 (by omega)) (cwV 2 hg (gi_V w_389 w_216 w_217 w_4 w_218) rfl rfl rfl (by decide +kernel) ⟨Nat.le_of_ble_eq_true rfl, Nat.le_of_ble_eq_true rfl⟩) (pre_RV (va_recv hK hP (ci := 1) (q0 := 0) rfl rfl) (hP.sub [0, 1, 2, 3] rfl) hK hT) rfl rfl hl.1 rfl (lv_room (Nat.le_of_ble_eq_true rfl)) dX0_holds_10 ⟨Nat.le_of_ble_eq_true rfl, Nat.le_of_ble_eq_true rfl⟩) ?_
  refine lv_istore (lv' := [(5, .int (k_num us sz p3 0)), (4, .int (k_get ks sz p3)), (0, .ref h), (1, .ref w), (2, .int (nI rsn)), (3, .int p3)]) hx hb dX0_holds_13 hl (by decide) rfl (fun ls hl => ?_)
  refine lv_iload_n hx hb dX0_holds_15 rfl (lv_at hl 4 rfl) ?_
  rcases (show rsn = 0 ∨ rsn = 1 ∨ rsn = 2 ∨ rsn = 3 by omega) with rfl | rfl | rfl | rfl
  · skip
    refine lv_tableIn (tgt := 48) hx hb dX0_holds_16 (by decide) (by decide) rfl (by decide) ?_
    refine lv_iload hx hb dX0_holds_48 (lv_at hl 1 rfl) ?_
    refine lv_iconst (v := 1) hx hb dX0_holds_50 (by decide) ?_
    refine lv_icmp_eq (tgt := 60) hx hb dX0_holds_51 (by decide) (fun c_1 => ?_) (fun c_1 => ?_)
    · skip
      refine lv_aload_n hx hb dX0_holds_60 rfl (lv_at hl 2 rfl) ?_
      refine lv_iconst (v := 0) hx hb dX0_holds_61 (by decide) ?_
      refine lv_iload hx hb dX0_holds_62 (lv_at hl 0 rfl) ?_
      refine go_R (r := (bI (k_has ks us sz 0 (k_num us sz p3 0) 0))) (va_runV (As := [.int 0, .int (k_num us sz p3 0)]) (rest := []) ⟨hx, hb, hml, hown, hg⟩ (kX1_hasPieceAt l dC dI B cI cC cJ h hk hn hu ks ns us sz 0 (k_num us sz p3 0) (by omega)) (cwV 2 hg (gi_V w_390 w_391 w_392 w_4 w_393) rfl rfl rfl (by decide +kernel) ⟨Nat.le_of_ble_eq_true rfl, Nat.le_of_ble_eq_true rfl⟩) (pre_RV (va_recv hK hP (ci := 1) (q0 := 0) rfl rfl) (hP.sub [0, 1, 2, 3] rfl) hK hT) rfl rfl hl.1 rfl (lv_room (Nat.le_of_ble_eq_true rfl)) dX0_holds_64 ⟨Nat.le_of_ble_eq_true rfl, Nat.le_of_ble_eq_true rfl⟩) ?_
      refine lv_if_ne (tgt := 74) hx hb dX0_holds_67 (by decide) (fun c_2 => ?_) (fun c_2 => ?_)
      · skip
        have c_2 := bI_ne0 c_2
        refine lv_iconst (v := 0) hx hb dX0_holds_74 (by decide) ?_
        exact W.zret (v := 0) (ty := .boolean) hx hb hr rfl (fun t ht hW => rd_end (bI_0 (by simp [k_holds, c_1, c_2])).symm ht) (fun q h => by cases h) dX0_holds_75
      · skip
        have c_2 := bI_eq0 c_2
        refine lv_iconst (v := 1) hx hb dX0_holds_70 (by decide) ?_
        refine lv_goto (tgt := 75) hx hb dX0_holds_71 (by decide) ?_
        exact W.zret (v := 1) (ty := .boolean) hx hb hr rfl (fun t ht hW => rd_end (bI_1 (by simp [k_holds, c_1, c_2])).symm ht) (fun q h => by cases h) dX0_holds_75
    · skip
      refine lv_iload hx hb dX0_holds_54 (lv_at hl 1 rfl) ?_
      refine lv_iconst (v := 2) hx hb dX0_holds_56 (by decide) ?_
      refine lv_icmp_ne (tgt := 74) hx hb dX0_holds_57 (by decide) (fun c_3 => ?_) (fun c_3 => ?_)
      · skip
        refine lv_iconst (v := 0) hx hb dX0_holds_74 (by decide) ?_
        exact W.zret (v := 0) (ty := .boolean) hx hb hr rfl (fun t ht hW => rd_end (bI_0 (by simp [k_holds, c_1, c_3])).symm ht) (fun q h => by cases h) dX0_holds_75
      · skip
        refine lv_aload_n hx hb dX0_holds_60 rfl (lv_at hl 2 rfl) ?_
        refine lv_iconst (v := 0) hx hb dX0_holds_61 (by decide) ?_
        refine lv_iload hx hb dX0_holds_62 (lv_at hl 0 rfl) ?_
        refine go_R (r := (bI (k_has ks us sz 0 (k_num us sz p3 0) 0))) (va_runV (As := [.int 0, .int (k_num us sz p3 0)]) (rest := []) ⟨hx, hb, hml, hown, hg⟩ (kX1_hasPieceAt l dC dI B cI cC cJ h hk hn hu ks ns us sz 0 (k_num us sz p3 0) (by omega)) (cwV 2 hg (gi_V w_390 w_391 w_392 w_4 w_393) rfl rfl rfl (by decide +kernel) ⟨Nat.le_of_ble_eq_true rfl, Nat.le_of_ble_eq_true rfl⟩) (pre_RV (va_recv hK hP (ci := 1) (q0 := 0) rfl rfl) (hP.sub [0, 1, 2, 3] rfl) hK hT) rfl rfl hl.1 rfl (lv_room (Nat.le_of_ble_eq_true rfl)) dX0_holds_64 ⟨Nat.le_of_ble_eq_true rfl, Nat.le_of_ble_eq_true rfl⟩) ?_
        refine lv_if_ne (tgt := 74) hx hb dX0_holds_67 (by decide) (fun c_4 => ?_) (fun c_4 => ?_)
        · skip
          have c_4 := bI_ne0 c_4
          refine lv_iconst (v := 0) hx hb dX0_holds_74 (by decide) ?_
          exact W.zret (v := 0) (ty := .boolean) hx hb hr rfl (fun t ht hW => rd_end (bI_0 (by simp [k_holds, c_1, c_3, c_4])).symm ht) (fun q h => by cases h) dX0_holds_75
        · skip
          have c_4 := bI_eq0 c_4
          refine lv_iconst (v := 1) hx hb dX0_holds_70 (by decide) ?_
          refine lv_goto (tgt := 75) hx hb dX0_holds_71 (by decide) ?_
          exact W.zret (v := 1) (ty := .boolean) hx hb hr rfl (fun t ht hW => rd_end (bI_1 (by simp [k_holds, c_1, c_3, c_4])).symm ht) (fun q h => by cases h) dX0_holds_75
  · skip
    refine lv_tableIn (tgt := 76) hx hb dX0_holds_16 (by decide) (by decide) rfl (by decide) ?_
    refine lv_iload hx hb dX0_holds_76 (lv_at hl 1 rfl) ?_
    refine lv_iconst (v := 3) hx hb dX0_holds_78 (by decide) ?_
    refine lv_icmp_eq (tgt := 88) hx hb dX0_holds_79 (by decide) (fun c_5 => ?_) (fun c_5 => ?_)
    · skip
      refine lv_aload_n hx hb dX0_holds_88 rfl (lv_at hl 2 rfl) ?_
      refine lv_iconst (v := 4) hx hb dX0_holds_89 (by decide) ?_
      refine lv_iload hx hb dX0_holds_90 (lv_at hl 0 rfl) ?_
      refine go_R (r := (bI (k_has ks us sz 4 (k_num us sz p3 0) 0))) (va_runV (As := [.int 4, .int (k_num us sz p3 0)]) (rest := []) ⟨hx, hb, hml, hown, hg⟩ (kX1_hasPieceAt l dC dI B cI cC cJ h hk hn hu ks ns us sz 4 (k_num us sz p3 0) (by omega)) (cwV 2 hg (gi_V w_390 w_391 w_392 w_4 w_393) rfl rfl rfl (by decide +kernel) ⟨Nat.le_of_ble_eq_true rfl, Nat.le_of_ble_eq_true rfl⟩) (pre_RV (va_recv hK hP (ci := 1) (q0 := 0) rfl rfl) (hP.sub [0, 1, 2, 3] rfl) hK hT) rfl rfl hl.1 rfl (lv_room (Nat.le_of_ble_eq_true rfl)) dX0_holds_92 ⟨Nat.le_of_ble_eq_true rfl, Nat.le_of_ble_eq_true rfl⟩) ?_
      refine lv_if_ne (tgt := 102) hx hb dX0_holds_95 (by decide) (fun c_6 => ?_) (fun c_6 => ?_)
      · skip
        have c_6 := bI_ne0 c_6
        refine lv_iconst (v := 0) hx hb dX0_holds_102 (by decide) ?_
        exact W.zret (v := 0) (ty := .boolean) hx hb hr rfl (fun t ht hW => rd_end (bI_0 (by simp [k_holds, c_5, c_6])).symm ht) (fun q h => by cases h) dX0_holds_103
      · skip
        have c_6 := bI_eq0 c_6
        refine lv_iconst (v := 1) hx hb dX0_holds_98 (by decide) ?_
        refine lv_goto (tgt := 103) hx hb dX0_holds_99 (by decide) ?_
        exact W.zret (v := 1) (ty := .boolean) hx hb hr rfl (fun t ht hW => rd_end (bI_1 (by simp [k_holds, c_5, c_6])).symm ht) (fun q h => by cases h) dX0_holds_103
    · skip
      refine lv_iload hx hb dX0_holds_82 (lv_at hl 1 rfl) ?_
      refine lv_iconst (v := 5) hx hb dX0_holds_84 (by decide) ?_
      refine lv_icmp_ne (tgt := 102) hx hb dX0_holds_85 (by decide) (fun c_7 => ?_) (fun c_7 => ?_)
      · skip
        refine lv_iconst (v := 0) hx hb dX0_holds_102 (by decide) ?_
        exact W.zret (v := 0) (ty := .boolean) hx hb hr rfl (fun t ht hW => rd_end (bI_0 (by simp [k_holds, c_5, c_7])).symm ht) (fun q h => by cases h) dX0_holds_103
      · skip
        refine lv_aload_n hx hb dX0_holds_88 rfl (lv_at hl 2 rfl) ?_
        refine lv_iconst (v := 4) hx hb dX0_holds_89 (by decide) ?_
        refine lv_iload hx hb dX0_holds_90 (lv_at hl 0 rfl) ?_
        refine go_R (r := (bI (k_has ks us sz 4 (k_num us sz p3 0) 0))) (va_runV (As := [.int 4, .int (k_num us sz p3 0)]) (rest := []) ⟨hx, hb, hml, hown, hg⟩ (kX1_hasPieceAt l dC dI B cI cC cJ h hk hn hu ks ns us sz 4 (k_num us sz p3 0) (by omega)) (cwV 2 hg (gi_V w_390 w_391 w_392 w_4 w_393) rfl rfl rfl (by decide +kernel) ⟨Nat.le_of_ble_eq_true rfl, Nat.le_of_ble_eq_true rfl⟩) (pre_RV (va_recv hK hP (ci := 1) (q0 := 0) rfl rfl) (hP.sub [0, 1, 2, 3] rfl) hK hT) rfl rfl hl.1 rfl (lv_room (Nat.le_of_ble_eq_true rfl)) dX0_holds_92 ⟨Nat.le_of_ble_eq_true rfl, Nat.le_of_ble_eq_true rfl⟩) ?_
        refine lv_if_ne (tgt := 102) hx hb dX0_holds_95 (by decide) (fun c_8 => ?_) (fun c_8 => ?_)
        · skip
          have c_8 := bI_ne0 c_8
          refine lv_iconst (v := 0) hx hb dX0_holds_102 (by decide) ?_
          exact W.zret (v := 0) (ty := .boolean) hx hb hr rfl (fun t ht hW => rd_end (bI_0 (by simp [k_holds, c_5, c_7, c_8])).symm ht) (fun q h => by cases h) dX0_holds_103
        · skip
          have c_8 := bI_eq0 c_8
          refine lv_iconst (v := 1) hx hb dX0_holds_98 (by decide) ?_
          refine lv_goto (tgt := 103) hx hb dX0_holds_99 (by decide) ?_
          exact W.zret (v := 1) (ty := .boolean) hx hb hr rfl (fun t ht hW => rd_end (bI_1 (by simp [k_holds, c_5, c_7, c_8])).symm ht) (fun q h => by cases h) dX0_holds_103
  · skip
    refine lv_tableIn (tgt := 104) hx hb dX0_holds_16 (by decide) (by decide) rfl (by decide) ?_
    refine lv_iload hx hb dX0_holds_104 (lv_at hl 1 rfl) ?_
    refine lv_if_ne (tgt := 122) hx hb dX0_holds_106 (by decide) (fun c_9 => ?_) (fun c_9 => ?_)
    · skip
      refine lv_iconst (v := 0) hx hb dX0_holds_122 (by decide) ?_
      exact W.zret (v := 0) (ty := .boolean) hx hb hr rfl (fun t ht hW => rd_end (bI_0 (by simp [k_holds, c_9])).symm ht) (fun q h => by cases h) dX0_holds_123
    · skip
      refine lv_aload_n hx hb dX0_holds_109 rfl (lv_at hl 2 rfl) ?_
      refine lv_iload_n hx hb dX0_holds_110 rfl (lv_at hl 5 rfl) ?_
      refine lv_iconst (v := 2) hx hb dX0_holds_111 (by decide) ?_
      refine go_R (r := k_num us sz p3 2) (va_runV (As := [.int p3, .int 2]) (rest := []) ⟨hx, hb, hml, hown, hg⟩ (kX1_numberOf l dC dI B cI cC cJ h hk hn hu ks ns us sz p3 2 (by omega)) (cwV 2 hg (gi_V w_389 w_216 w_217 w_4 w_218) rfl rfl rfl (by decide +kernel) ⟨Nat.le_of_ble_eq_true rfl, Nat.le_of_ble_eq_true rfl⟩) (pre_RV (va_recv hK hP (ci := 1) (q0 := 0) rfl rfl) (hP.sub [0, 1, 2, 3] rfl) hK hT) rfl rfl hl.1 rfl (lv_room (Nat.le_of_ble_eq_true rfl)) dX0_holds_112 ⟨Nat.le_of_ble_eq_true rfl, Nat.le_of_ble_eq_true rfl⟩) ?_
      refine lv_if_ne (tgt := 122) hx hb dX0_holds_115 (by decide) (fun c_10 => ?_) (fun c_10 => ?_)
      · skip
        refine lv_iconst (v := 0) hx hb dX0_holds_122 (by decide) ?_
        exact W.zret (v := 0) (ty := .boolean) hx hb hr rfl (fun t ht hW => rd_end (bI_0 (by simp [k_holds, c_9, c_10])).symm ht) (fun q h => by cases h) dX0_holds_123
      · skip
        refine lv_iconst (v := 1) hx hb dX0_holds_118 (by decide) ?_
        refine lv_goto (tgt := 123) hx hb dX0_holds_119 (by decide) ?_
        exact W.zret (v := 1) (ty := .boolean) hx hb hr rfl (fun t ht hW => rd_end (bI_1 (by simp [k_holds, c_9, c_10])).symm ht) (fun q h => by cases h) dX0_holds_123
  · skip
    refine lv_tableIn (tgt := 124) hx hb dX0_holds_16 (by decide) (by decide) rfl (by decide) ?_
    refine lv_iload hx hb dX0_holds_124 (lv_at hl 1 rfl) ?_
    refine lv_iconst (v := 2) hx hb dX0_holds_126 (by decide) ?_
    refine lv_icmp_ne (tgt := 149) hx hb dX0_holds_127 (by decide) (fun c_11 => ?_) (fun c_11 => ?_)
    · skip
      refine lv_iconst (v := 0) hx hb dX0_holds_149 (by decide) ?_
      exact W.zret (v := 0) (ty := .boolean) hx hb hr rfl (fun t ht hW => rd_end (bI_0 (by simp [k_holds, c_11])).symm ht) (fun q h => by cases h) dX0_holds_150
    · skip
      refine lv_aload_n hx hb dX0_holds_130 rfl (lv_at hl 2 rfl) ?_
      refine lv_iload_n hx hb dX0_holds_131 rfl (lv_at hl 5 rfl) ?_
      refine lv_iconst (v := 2) hx hb dX0_holds_132 (by decide) ?_
      refine go_R (r := k_num us sz p3 2) (va_runV (As := [.int p3, .int 2]) (rest := []) ⟨hx, hb, hml, hown, hg⟩ (kX1_numberOf l dC dI B cI cC cJ h hk hn hu ks ns us sz p3 2 (by omega)) (cwV 2 hg (gi_V w_389 w_216 w_217 w_4 w_218) rfl rfl rfl (by decide +kernel) ⟨Nat.le_of_ble_eq_true rfl, Nat.le_of_ble_eq_true rfl⟩) (pre_RV (va_recv hK hP (ci := 1) (q0 := 0) rfl rfl) (hP.sub [0, 1, 2, 3] rfl) hK hT) rfl rfl hl.1 rfl (lv_room (Nat.le_of_ble_eq_true rfl)) dX0_holds_133 ⟨Nat.le_of_ble_eq_true rfl, Nat.le_of_ble_eq_true rfl⟩) ?_
      refine lv_aload_n hx hb dX0_holds_136 rfl (lv_at hl 3 rfl) ?_
      refine lv_iload hx hb dX0_holds_137 (lv_at hl 0 rfl) ?_
      refine go_R (r := k_depthAt dp (k_num us sz p3 0)) (va_runV (As := [.int (k_num us sz p3 0)]) (rest := [.int (k_num us sz p3 2)]) ⟨hx, hb, hml, hown, hg⟩ (kX4_depthAt l dC dI B cI cC cJ w wd dp (k_num us sz p3 0)) (cwV 1 hg (gi_V w_394 w_395 w_396 w_5 w_397) rfl rfl rfl (by decide +kernel) ⟨Nat.le_of_ble_eq_true rfl, Nat.le_of_ble_eq_true rfl⟩) (pre_RV (va_recv hK hP (ci := 4) (q0 := 4) rfl rfl) (hP.sub [4, 5] rfl) hK hT) rfl rfl hl.1 rfl (lv_room (Nat.le_of_ble_eq_true rfl)) dX0_holds_139 ⟨Nat.le_of_ble_eq_true rfl, Nat.le_of_ble_eq_true rfl⟩) ?_
      refine lv_icmp_le (tgt := 149) hx hb dX0_holds_142 (by decide) (fun c_12 => ?_) (fun c_12 => ?_)
      · skip
        refine lv_iconst (v := 0) hx hb dX0_holds_149 (by decide) ?_
        exact W.zret (v := 0) (ty := .boolean) hx hb hr rfl (fun t ht hW => rd_end (bI_0 (by simp [k_holds, c_11, c_12])).symm ht) (fun q h => by cases h) dX0_holds_150
      · skip
        refine lv_iconst (v := 1) hx hb dX0_holds_145 (by decide) ?_
        refine lv_goto (tgt := 150) hx hb dX0_holds_146 (by decide) ?_
        exact W.zret (v := 1) (ty := .boolean) hx hb hr rfl (fun t ht hW => rd_end (bI_1 (by simp [k_holds, c_11, c_12])).symm ht) (fun q h => by cases h) dX0_holds_150
set_option maxHeartbeats 4000000 in
set_option maxRecDepth 100000 in
theorem kX0_addAll (l : Launch) (dC : Nat → ClassId) (dI : Nat → Nat → Nat) (B : Nat) (cI cC cJ : ClassId) (b : Nat) (be : Nat) (en : Nat → Int32) (bn : Nat) (h : Nat) (hk : Nat) (hn : Nat) (hu : Nat) (ks : Nat → Int32) (ns : Nat → Int32) (us : Nat → Int32) (sz : Nat) (w : Nat) (wd : Nat) (dp : Nat → Int32) (rsn : Nat) (en1 : Nat → Int32) (bn1 : Nat) (hbn : bn ≤ 100) (hsz : sz ≤ 50) (hrs : rsn < 4) (hF : k_addAll ks us sz dp rsn 0 en bn = (en1, bn1)) (sz9 : Nat) : Met l yX0_addAll wsX0_addAll ({ frames := 3, cells := 0, slots := 0, locals := 70 }) (q_Mp (dC, dI) vwCl [.ref b, .ref h, .ref w, .int (nI rsn)] [(b, .inr (0, [.ref be, .int (nI bn)])), (be, .inl (cI, 100, .inl en)), (h, .inr (1, [.ref hk, .ref hn, .ref hu, .int (nI sz)])), (hk, .inl (cI, 50, .inl ks)), (hn, .inl (cI, 50, .inl ns)), (hu, .inl (cI, 200, .inl us)), (w, .inr (4, [.ref wd])), (wd, .inl (cI, 16, .inl dp))] [(cI, .int), (cC, .char), (cJ, .long)] B sz9) (q_Mq (dC, dI) vwCl [(b, .inr (0, [.ref be, .int (nI bn1)])), (be, .inl (cI, 100, .inl en1)), (h, .inr (1, [.ref hk, .ref hn, .ref hu, .int (nI sz)])), (hk, .inl (cI, 50, .inl ks)), (hn, .inl (cI, 50, .inl ns)), (hu, .inl (cI, 200, .inl us)), (w, .inr (4, [.ref wd])), (wd, .inl (cI, 16, .inl dp))] (va_A [(b, .inr (0, [.ref be, .int (nI bn)])), (be, .inl (cI, 100, .inl en)), (h, .inr (1, [.ref hk, .ref hn, .ref hu, .int (nI sz)])), (hk, .inl (cI, 50, .inl ks)), (hn, .inl (cI, 50, .inl ns)), (hu, .inl (cI, 200, .inl us)), (w, .inr (4, [.ref wd])), (wd, .inl (cI, 16, .inl dp))] sz9) none) 0 0 (va_A [(b, .inr (0, [.ref be, .int (nI bn)])), (be, .inl (cI, 100, .inl en)), (h, .inr (1, [.ref hk, .ref hn, .ref hu, .int (nI sz)])), (hk, .inl (cI, 50, .inl ks)), (hn, .inl (cI, 50, .inl ns)), (hu, .inl (cI, 200, .inl us)), (w, .inr (4, [.ref wd])), (wd, .inl (cI, 16, .inl dp))] sz9) := by
  refine Met.ofW (cc := cX0_addAll) (maxL := 6) (ret := none) (by decide) rfl ?_
  intro p e s m args below meth c s₁ Bd hml hv
  obtain ⟨rfl, hsz9, hB, hP, hK, hD0, hT⟩ := hv
  have hx := Bd.exec
  have hb := Bd.bytes
  have hr := Bd.returns
  have hts := atoms_spec (ws := wsX0_addAll) Bd.pre
  have hg : ∀ w ∈ lw_good, w.before _ s = true := fun w h => hts w (List.mem_cons_of_mem _ h)
  have hown : s.vm.findClass RX0 = some m.cls := findClass_of_methodNamed Bd.named
  have hlocks := Bd.notSynchronized
  subst hsz9
  have hD := hD0.self (sz := s.heap.size)
  generalize hAe : va_A [(b, .inr (0, [.ref be, .int (nI bn)])), (be, .inl (cI, 100, .inl en)), (h, .inr (1, [.ref hk, .ref hn, .ref hu, .int (nI sz)])), (hk, .inl (cI, 50, .inl ks)), (hn, .inl (cI, 50, .inl ns)), (hu, .inl (cI, 200, .inl us)), (w, .inr (4, [.ref wd])), (wd, .inl (cI, 16, .inl dp))] s.heap.size = A at hD ⊢
  have hA : ∀ q : Nat, s.heap.size ≤ q → A q := fun q h => by rw [← hAe]; exact Or.inr h
  have hAB : ∀ q, A q → B ≤ q := by rw [← hAe]; exact va_A.ge hD0 hB
  have hS : va_S A s.heap s.heap [] := va_S.rf
  have hP : va_P (dC, dI) vwCl [(b, .inr (0, [.ref be, .int (nI bn)])), (be, .inl (cI, 100, .inl en)), (h, .inr (1, [.ref hk, .ref hn, .ref hu, .int (nI sz)])), (hk, .inl (cI, 50, .inl ks)), (hn, .inl (cI, 50, .inl ns)), (hu, .inl (cI, 200, .inl us)), (w, .inr (4, [.ref wd])), (wd, .inl (cI, 16, .inl dp))] s.heap := hP
  have hl := lv_entry ([.ref b, .ref h, .ref w, .int (nI rsn)]) (n := 6) (Nat.le_of_ble_eq_true rfl)
  rw [lg_entry_eq]
  generalize (lg_sl ([.ref b, .ref h, .ref w, .int (nI rsn)]) ++ List.replicate (6 - (lg_sl ([.ref b, .ref h, .ref w, .int (nI rsn)])).length) Slot.unset).toArray = ls at hl ⊢
  have hl : lv_has ls 6 [(0, .ref b), (1, .ref h), (2, .ref w), (3, .int (nI rsn))] := hl
  refine lv_aload_n hx hb dX0_addAll_0 rfl (lv_at hl 1 rfl) ?_
  refine go_R (r := (nI sz)) (va_runV (As := []) (rest := []) ⟨hx, hb, hml, hown, hg⟩ (kX1_size l dC dI B cI cC cJ h hk hn hu ks ns us sz (by omega)) (cwV 0 hg (gi_V w_384 w_186 w_187 w_4 w_188) rfl rfl rfl (by decide +kernel) ⟨Nat.le_of_ble_eq_true rfl, Nat.le_of_ble_eq_true rfl⟩) (pre_RV (va_recv hK hP (ci := 1) (q0 := 2) rfl rfl) (hP.sub [2, 3, 4, 5] rfl) hK hT) rfl rfl hl.1 rfl (lv_room (Nat.le_of_ble_eq_true rfl)) dX0_addAll_1 ⟨Nat.le_of_ble_eq_true rfl, Nat.le_of_ble_eq_true rfl⟩) ?_
  refine lv_istore (lv' := [(4, .int (nI sz)), (0, .ref b), (1, .ref h), (2, .ref w), (3, .int (nI rsn))]) hx hb dX0_addAll_4 hl (by decide) rfl (fun ls hl => ?_)
  refine lv_iconst (v := 0) hx hb dX0_addAll_6 (by decide) ?_
  refine lv_istore (lv' := [(5, .int 0), (4, .int (nI sz)), (0, .ref b), (1, .ref h), (2, .ref w), (3, .int (nI rsn))]) hx hb dX0_addAll_7 hl (by decide) rfl (fun ls hl => ?_)
  refine loop_M (σ := Nat × (Nat → Int32) × Nat) (fun n x H locs ls => sz - x.1 < n ∧ x.1 ≤ sz ∧ x.2.2 ≤ 100 ∧ k_addAll ks us sz dp rsn 0 en bn = k_addAll ks us sz dp rsn x.1 x.2.1 x.2.2 ∧ va_P (dC, dI) vwCl [(b, .inr (0, [.ref be, .int (nI x.2.2)])), (be, .inl (cI, 100, .inl x.2.1)), (h, .inr (1, [.ref hk, .ref hn, .ref hu, .int (nI sz)])), (hk, .inl (cI, 50, .inl ks)), (hn, .inl (cI, 50, .inl ns)), (hu, .inl (cI, 200, .inl us)), (w, .inr (4, [.ref wd])), (wd, .inl (cI, 16, .inl dp))] H ∧ va_D A [(b, .inr (0, [.ref be, .int (nI x.2.2)])), (be, .inl (cI, 100, .inl x.2.1)), (h, .inr (1, [.ref hk, .ref hn, .ref hu, .int (nI sz)])), (hk, .inl (cI, 50, .inl ks)), (hn, .inl (cI, 50, .inl ns)), (hu, .inl (cI, 200, .inl us)), (w, .inr (4, [.ref wd])), (wd, .inl (cI, 16, .inl dp))] ∧ va_S A s.heap H locs ∧ lv_has ls 6 [(0, .ref b), (1, .ref h), (2, .ref w), (3, .int (nI rsn)), (4, .int (nI sz)), (5, .int (nI x.1))]) (fun n x H locs ls ih_1 hI => ?_) (fun x H locs ls hI => ?_) (n := (sz - 0) + 1) (x := (0, en, bn)) ⟨(Nat.lt_succ_self _), (by (try dsimp only); omega), (by (try dsimp only); omega), rfl, hP, hD, hS, lv_sub hl [2, 3, 4, 5, 1, 0] rfl⟩
  · skip
    obtain ⟨k, enx, bnx⟩ := x
    obtain ⟨hfu, hk0, hbx, he, hP, hD, hS, hl⟩ := hI
    have hfu : sz - k < n + 1 := hfu
    have hk0 : k ≤ sz := hk0
    have hbx : bnx ≤ 100 := hbx
    have he : k_addAll ks us sz dp rsn 0 en bn = k_addAll ks us sz dp rsn k enx bnx := he
    have hP : va_P (dC, dI) vwCl [(b, .inr (0, [.ref be, .int (nI bnx)])), (be, .inl (cI, 100, .inl enx)), (h, .inr (1, [.ref hk, .ref hn, .ref hu, .int (nI sz)])), (hk, .inl (cI, 50, .inl ks)), (hn, .inl (cI, 50, .inl ns)), (hu, .inl (cI, 200, .inl us)), (w, .inr (4, [.ref wd])), (wd, .inl (cI, 16, .inl dp))] H := hP
    have hD : va_D A [(b, .inr (0, [.ref be, .int (nI bnx)])), (be, .inl (cI, 100, .inl enx)), (h, .inr (1, [.ref hk, .ref hn, .ref hu, .int (nI sz)])), (hk, .inl (cI, 50, .inl ks)), (hn, .inl (cI, 50, .inl ns)), (hu, .inl (cI, 200, .inl us)), (w, .inr (4, [.ref wd])), (wd, .inl (cI, 16, .inl dp))] := hD
    have hl : lv_has ls 6 [(0, .ref b), (1, .ref h), (2, .ref w), (3, .int (nI rsn)), (4, .int (nI sz)), (5, .int (nI k))] := hl
    refine lv_iload hx hb dX0_addAll_9 (lv_at hl 5 rfl) ?_
    refine lv_iload hx hb dX0_addAll_11 (lv_at hl 4 rfl) ?_
    refine lv_icmp_ge (tgt := 71) hx hb dX0_addAll_13 (by decide) (fun c_2 => ?_) (fun c_2 => ?_)
    · skip
      have c_2 := na_le (a := sz) (b := k) c_2 (by omega) (by omega)
      have hP9 := hP
      have hS9 := hS
      have h9 : k_addAll ks us sz dp rsn 0 en bn = (enx, bnx) := by rw [he, k_addAll]; simp [c_2]
      have h9 := hF.symm.trans h9
      cases h9
      exact W.vret hx hb hr (fun t ht hW => ⟨rfl, by rw [ht]; exact hP9, hS9.F ht⟩) hS9.2.2 dX0_addAll_71
    · skip
      have c_2 := na_nle (a := sz) (b := k) c_2 (by omega) (by omega)
      refine lv_aload_n hx hb dX0_addAll_16 rfl (lv_at hl 0 rfl) ?_
      refine va_get (D := (dC, dI)) (ci := 0) (v := .int (nI bnx)) (C := RX0) (T := TX0) (N := 2) hx hb hg in_X0 hown hK hP 0 rfl rfl 1 (by decide) (hg _ w_85) (fun _ h9 => h9) rfl dX0_addAll_17 ?_
      refine lv_aload_n hx hb dX0_addAll_20 rfl (lv_at hl 0 rfl) ?_
      refine va_get (D := (dC, dI)) (ci := 0) (v := .ref be) (C := RX0) (T := TX0) (N := 2) hx hb hg in_X0 hown hK hP 0 rfl rfl 0 (by decide) (hg _ w_84) (fun _ h9 => h9) rfl dX0_addAll_21 ?_
      refine va_alen (v := 100) hx hb hK hP 1 0 rfl rfl rfl dX0_addAll_24 ?_
      refine lv_icmp_ge (tgt := 65) hx hb dX0_addAll_25 (by decide) (fun c_3 => ?_) (fun c_3 => ?_)
      · skip
        have c_3 := na_le (a := 100) (b := bnx) c_3 (by omega) (by omega)
        refine lv_iinc (v := (nI (k + 1))) (lv' := [(5, .int (nI (k + 1))), (0, .ref b), (1, .ref h), (2, .ref w), (3, .int (nI rsn)), (4, .int (nI sz))]) hx hb dX0_addAll_65 hl (k := 5) rfl (by rw [← nI_add]; rfl) (by decide) rfl (fun ls hl => ?_)
        refine lv_goto (tgt := 9) hx hb dX0_addAll_68 (by decide) ?_
        exact ih_1 (k + 1, enx, bnx) _ _ _ ⟨(by (try dsimp only); omega), (by (try dsimp only); omega), (by (try dsimp only); omega), (by (try dsimp only); rw [he, k_addAll]; simp [c_2, c_3]), hP, hD, hS, lv_sub hl [1, 2, 3, 4, 5, 0] rfl⟩
      · skip
        have c_3 := na_nle (a := 100) (b := bnx) c_3 (by omega) (by omega)
        refine lv_aload_n hx hb dX0_addAll_28 rfl (lv_at hl 1 rfl) ?_
        refine lv_aload_n hx hb dX0_addAll_29 rfl (lv_at hl 2 rfl) ?_
        refine lv_iload_n hx hb dX0_addAll_30 rfl (lv_at hl 3 rfl) ?_
        refine lv_iload hx hb dX0_addAll_31 (lv_at hl 5 rfl) ?_
        refine go_R (r := (bI (k_holds ks us sz dp rsn (nI k)))) (va_runS (As := [.ref h, .ref w, .int (nI rsn), .int (nI k)]) (rest := []) ⟨hx, hb, hml, hown, hg⟩ (kX0_holds l dC dI B cI cC cJ h hk hn hu ks ns us sz w wd dp rsn (nI k) (by omega) (by omega)) (va_cwS 4 hg (gi_S w_385 w_386 w_6 w_387) rfl rfl rfl (by decide +kernel) ⟨Nat.le_of_ble_eq_true rfl, Nat.le_of_ble_eq_true rfl⟩) (pre_RS (hP.sub [2, 3, 4, 5, 6, 7] rfl) hK (hT.kept (hS.mono hAB))) rfl rfl hl.1 rfl (lv_room (Nat.le_of_ble_eq_true rfl)) dX0_addAll_33 ⟨Nat.le_of_ble_eq_true rfl, Nat.le_of_ble_eq_true rfl⟩) ?_
        refine lv_if_eq (tgt := 65) hx hb dX0_addAll_36 (by decide) (fun c_4 => ?_) (fun c_4 => ?_)
        · skip
          have c_4 := bI_eq0 c_4
          refine lv_iinc (v := (nI (k + 1))) (lv' := [(5, .int (nI (k + 1))), (0, .ref b), (1, .ref h), (2, .ref w), (3, .int (nI rsn)), (4, .int (nI sz))]) hx hb dX0_addAll_65 hl (k := 5) rfl (by rw [← nI_add]; rfl) (by decide) rfl (fun ls hl => ?_)
          refine lv_goto (tgt := 9) hx hb dX0_addAll_68 (by decide) ?_
          exact ih_1 (k + 1, enx, bnx) _ _ _ ⟨(by (try dsimp only); omega), (by (try dsimp only); omega), (by (try dsimp only); omega), (by (try dsimp only); rw [he, k_addAll]; simp [c_2, c_3, c_4]), hP, hD, hS, lv_sub hl [1, 2, 3, 4, 5, 0] rfl⟩
        · skip
          have c_4 := bI_ne0 c_4
          refine lv_aload_n hx hb dX0_addAll_39 rfl (lv_at hl 0 rfl) ?_
          refine va_get (D := (dC, dI)) (ci := 0) (v := .ref be) (C := RX0) (T := TX0) (N := 2) hx hb hg in_X0 hown hK hP 0 rfl rfl 0 (by decide) (hg _ w_84) (fun _ h9 => h9) rfl dX0_addAll_40 ?_
          refine lv_aload_n hx hb dX0_addAll_43 rfl (lv_at hl 0 rfl) ?_
          refine va_get (D := (dC, dI)) (ci := 0) (v := .int (nI bnx)) (C := RX0) (T := TX0) (N := 2) hx hb hg in_X0 hown hK hP 0 rfl rfl 1 (by decide) (hg _ w_85) (fun _ h9 => h9) rfl dX0_addAll_44 ?_
          refine lv_bipush (v := 10) hx hb dX0_addAll_47 (by decide) ?_
          refine lv_iload hx hb dX0_addAll_49 (lv_at hl 5 rfl) ?_
          refine lv_imul hx hb dX0_addAll_51 ?_
          refine top_eq (y := (nI (10 * k))) (by exact pk_mul _ _) ?_
          refine lv_iload_n hx hb dX0_addAll_52 rfl (lv_at hl 3 rfl) ?_
          refine lv_iadd hx hb dX0_addAll_53 ?_
          refine top_eq (y := (nI ((10 * k) + rsn))) (by exact nI_add _ _) ?_
          refine x_iast (k := bnx) hx hb hK hP hD hS 1 0 rfl rfl (by omega) (by decide) dX0_addAll_54 (fun H locs hP hD hS => ?_)
          have hP : va_P (dC, dI) vwCl [(b, .inr (0, [.ref be, .int (nI bnx)])), (be, .inl (cI, 100, .inl (upd enx bnx (nI ((10 * k) + rsn))))), (h, .inr (1, [.ref hk, .ref hn, .ref hu, .int (nI sz)])), (hk, .inl (cI, 50, .inl ks)), (hn, .inl (cI, 50, .inl ns)), (hu, .inl (cI, 200, .inl us)), (w, .inr (4, [.ref wd])), (wd, .inl (cI, 16, .inl dp))] H := hP
          have hD : va_D A [(b, .inr (0, [.ref be, .int (nI bnx)])), (be, .inl (cI, 100, .inl (upd enx bnx (nI ((10 * k) + rsn))))), (h, .inr (1, [.ref hk, .ref hn, .ref hu, .int (nI sz)])), (hk, .inl (cI, 50, .inl ks)), (hn, .inl (cI, 50, .inl ns)), (hu, .inl (cI, 200, .inl us)), (w, .inr (4, [.ref wd])), (wd, .inl (cI, 16, .inl dp))] := hD
          refine lv_aload_n hx hb dX0_addAll_55 rfl (lv_at hl 0 rfl) ?_
          refine lv_dup hx hb dX0_addAll_56 rfl ?_
          refine va_get (D := (dC, dI)) (ci := 0) (v := .int (nI bnx)) (C := RX0) (T := TX0) (N := 2) hx hb hg in_X0 hown hK hP 0 rfl rfl 1 (by decide) (hg _ w_85) (fun _ h9 => h9) rfl dX0_addAll_57 ?_
          refine lv_iconst (v := 1) hx hb dX0_addAll_60 (by decide) ?_
          refine lv_iadd hx hb dX0_addAll_61 ?_
          refine top_eq (y := (nI (bnx + 1))) (by exact nI_add _ _) ?_
          refine va_put (D := (dC, dI)) (ci := 0) (v := .int (nI (bnx + 1))) (ty := .int) (C := RX0) (T := TX0) (N := 2) hx hb hg in_X0 tyX0 tyX0_ok nmX0_ok hown hK hP hD hS 0 rfl rfl 1 (by decide) (hg _ w_85) (fun _ h9 => h9) rfl (by decide +kernel) rfl rfl (Nat.le_of_ble_eq_true rfl) dX0_addAll_62 (fun H locs hP hD hS => ?_)
          have hP : va_P (dC, dI) vwCl [(b, .inr (0, [.ref be, .int (nI (bnx + 1))])), (be, .inl (cI, 100, .inl (upd enx bnx (nI ((10 * k) + rsn))))), (h, .inr (1, [.ref hk, .ref hn, .ref hu, .int (nI sz)])), (hk, .inl (cI, 50, .inl ks)), (hn, .inl (cI, 50, .inl ns)), (hu, .inl (cI, 200, .inl us)), (w, .inr (4, [.ref wd])), (wd, .inl (cI, 16, .inl dp))] H := hP
          have hD : va_D A [(b, .inr (0, [.ref be, .int (nI (bnx + 1))])), (be, .inl (cI, 100, .inl (upd enx bnx (nI ((10 * k) + rsn))))), (h, .inr (1, [.ref hk, .ref hn, .ref hu, .int (nI sz)])), (hk, .inl (cI, 50, .inl ks)), (hn, .inl (cI, 50, .inl ns)), (hu, .inl (cI, 200, .inl us)), (w, .inr (4, [.ref wd])), (wd, .inl (cI, 16, .inl dp))] := hD
          refine lv_iinc (v := (nI (k + 1))) (lv' := [(5, .int (nI (k + 1))), (0, .ref b), (1, .ref h), (2, .ref w), (3, .int (nI rsn)), (4, .int (nI sz))]) hx hb dX0_addAll_65 hl (k := 5) rfl (by rw [← nI_add]; rfl) (by decide) rfl (fun ls hl => ?_)
          refine lv_goto (tgt := 9) hx hb dX0_addAll_68 (by decide) ?_
          exact ih_1 (k + 1, upd enx bnx (nI ((10 * k) + rsn)), bnx + 1) _ _ _ ⟨(by (try dsimp only); omega), (by (try dsimp only); omega), (by (try dsimp only); omega), (by (try dsimp only); rw [he, k_addAll]; simp [c_2, c_3, c_4]), hP, hD, hS, lv_sub hl [1, 2, 3, 4, 5, 0] rfl⟩
  · exact absurd hI.1 (Nat.not_lt_zero _)
set_option maxHeartbeats 4000000 in
set_option maxRecDepth 100000 in
theorem kX0_judge (l : Launch) (dC : Nat → ClassId) (dI : Nat → Nat → Nat) (B : Nat) (cI cC cJ : ClassId) (b : Nat) (be : Nat) (en : Nat → Int32) (bn : Nat) (h : Nat) (hk : Nat) (hn : Nat) (hu : Nat) (ks : Nat → Int32) (ns : Nat → Int32) (us : Nat → Int32) (sz : Nat) (w : Nat) (wd : Nat) (dp : Nat → Int32) (dp1 : Nat → Int32) (en1 : Nat → Int32) (bn1 : Nat) (hbn : bn ≤ 100) (hsz : sz ≤ 50) (hF : k_judgeAll ks us sz dp en = (dp1, en1, bn1)) (sz9 : Nat) : Met l yX0_judge wsX0_judge ({ frames := 5, cells := 0, slots := 0, locals := 119 }) (q_Mp (dC, dI) vwCl [.ref b, .ref h, .ref w] [(b, .inr (0, [.ref be, .int (nI bn)])), (be, .inl (cI, 100, .inl en)), (h, .inr (1, [.ref hk, .ref hn, .ref hu, .int (nI sz)])), (hk, .inl (cI, 50, .inl ks)), (hn, .inl (cI, 50, .inl ns)), (hu, .inl (cI, 200, .inl us)), (w, .inr (4, [.ref wd])), (wd, .inl (cI, 16, .inl dp))] [(cI, .int), (cC, .char), (cJ, .long)] B sz9) (q_Mq (dC, dI) vwCl [(b, .inr (0, [.ref be, .int (nI bn1)])), (be, .inl (cI, 100, .inl en1)), (h, .inr (1, [.ref hk, .ref hn, .ref hu, .int (nI sz)])), (hk, .inl (cI, 50, .inl ks)), (hn, .inl (cI, 50, .inl ns)), (hu, .inl (cI, 200, .inl us)), (w, .inr (4, [.ref wd])), (wd, .inl (cI, 16, .inl dp1))] (va_A [(b, .inr (0, [.ref be, .int (nI bn)])), (be, .inl (cI, 100, .inl en)), (h, .inr (1, [.ref hk, .ref hn, .ref hu, .int (nI sz)])), (hk, .inl (cI, 50, .inl ks)), (hn, .inl (cI, 50, .inl ns)), (hu, .inl (cI, 200, .inl us)), (w, .inr (4, [.ref wd])), (wd, .inl (cI, 16, .inl dp))] sz9) none) 0 0 (va_A [(b, .inr (0, [.ref be, .int (nI bn)])), (be, .inl (cI, 100, .inl en)), (h, .inr (1, [.ref hk, .ref hn, .ref hu, .int (nI sz)])), (hk, .inl (cI, 50, .inl ks)), (hn, .inl (cI, 50, .inl ns)), (hu, .inl (cI, 200, .inl us)), (w, .inr (4, [.ref wd])), (wd, .inl (cI, 16, .inl dp))] sz9) := by
  refine Met.ofW (cc := cX0_judge) (maxL := 4) (ret := none) (by decide) rfl ?_
  intro p e s m args below meth c s₁ Bd hml hv
  obtain ⟨rfl, hsz9, hB, hP, hK, hD0, hT⟩ := hv
  have hx := Bd.exec
  have hb := Bd.bytes
  have hr := Bd.returns
  have hts := atoms_spec (ws := wsX0_judge) Bd.pre
  have hg : ∀ w ∈ lw_good, w.before _ s = true := fun w h => hts w (List.mem_cons_of_mem _ h)
  have hown : s.vm.findClass RX0 = some m.cls := findClass_of_methodNamed Bd.named
  have hlocks := Bd.notSynchronized
  subst hsz9
  have hD := hD0.self (sz := s.heap.size)
  generalize hAe : va_A [(b, .inr (0, [.ref be, .int (nI bn)])), (be, .inl (cI, 100, .inl en)), (h, .inr (1, [.ref hk, .ref hn, .ref hu, .int (nI sz)])), (hk, .inl (cI, 50, .inl ks)), (hn, .inl (cI, 50, .inl ns)), (hu, .inl (cI, 200, .inl us)), (w, .inr (4, [.ref wd])), (wd, .inl (cI, 16, .inl dp))] s.heap.size = A at hD ⊢
  have hA : ∀ q : Nat, s.heap.size ≤ q → A q := fun q h => by rw [← hAe]; exact Or.inr h
  have hAB : ∀ q, A q → B ≤ q := by rw [← hAe]; exact va_A.ge hD0 hB
  have hS : va_S A s.heap s.heap [] := va_S.rf
  have hP : va_P (dC, dI) vwCl [(b, .inr (0, [.ref be, .int (nI bn)])), (be, .inl (cI, 100, .inl en)), (h, .inr (1, [.ref hk, .ref hn, .ref hu, .int (nI sz)])), (hk, .inl (cI, 50, .inl ks)), (hn, .inl (cI, 50, .inl ns)), (hu, .inl (cI, 200, .inl us)), (w, .inr (4, [.ref wd])), (wd, .inl (cI, 16, .inl dp))] s.heap := hP
  have hl := lv_entry ([.ref b, .ref h, .ref w]) (n := 4) (Nat.le_of_ble_eq_true rfl)
  rw [lg_entry_eq]
  generalize (lg_sl ([.ref b, .ref h, .ref w]) ++ List.replicate (4 - (lg_sl ([.ref b, .ref h, .ref w])).length) Slot.unset).toArray = ls at hl ⊢
  have hl : lv_has ls 4 [(0, .ref b), (1, .ref h), (2, .ref w)] := hl
  refine lv_aload_n hx hb dX0_judge_0 rfl (lv_at hl 0 rfl) ?_
  refine lv_iconst (v := 0) hx hb dX0_judge_1 (by decide) ?_
  refine va_put (D := (dC, dI)) (ci := 0) (v := .int 0) (ty := .int) (C := RX0) (T := TX0) (N := 2) hx hb hg in_X0 tyX0 tyX0_ok nmX0_ok hown hK hP hD hS 0 rfl rfl 1 (by decide) (hg _ w_85) (fun _ h9 => h9) rfl (by decide +kernel) rfl rfl (Nat.le_of_ble_eq_true rfl) dX0_judge_2 (fun H locs hP hD hS => ?_)
  have hP : va_P (dC, dI) vwCl [(b, .inr (0, [.ref be, .int 0])), (be, .inl (cI, 100, .inl en)), (h, .inr (1, [.ref hk, .ref hn, .ref hu, .int (nI sz)])), (hk, .inl (cI, 50, .inl ks)), (hn, .inl (cI, 50, .inl ns)), (hu, .inl (cI, 200, .inl us)), (w, .inr (4, [.ref wd])), (wd, .inl (cI, 16, .inl dp))] H := hP
  have hD : va_D A [(b, .inr (0, [.ref be, .int 0])), (be, .inl (cI, 100, .inl en)), (h, .inr (1, [.ref hk, .ref hn, .ref hu, .int (nI sz)])), (hk, .inl (cI, 50, .inl ks)), (hn, .inl (cI, 50, .inl ns)), (hu, .inl (cI, 200, .inl us)), (w, .inr (4, [.ref wd])), (wd, .inl (cI, 16, .inl dp))] := hD
  refine lv_aload_n hx hb dX0_judge_5 rfl (lv_at hl 2 rfl) ?_
  refine lv_aload_n hx hb dX0_judge_6 rfl (lv_at hl 1 rfl) ?_
  refine lv_iconst (v := 0) hx hb dX0_judge_7 (by decide) ?_
  refine lv_iconst (v := 0) hx hb dX0_judge_8 (by decide) ?_
  obtain ⟨dp1_1, hF_1⟩ : ∃ (dp1_1 : Nat → Int32), k_spread ks us sz 0 0 dp = dp1_1 := ⟨_, rfl⟩
  refine go_M (r := none) (wc' := [(w, .inr (4, [.ref wd])), (wd, .inl (cI, 16, .inl dp1_1)), (h, .inr (1, [.ref hk, .ref hn, .ref hu, .int (nI sz)])), (hk, .inl (cI, 50, .inl ks)), (hn, .inl (cI, 50, .inl ns)), (hu, .inl (cI, 200, .inl us))]) (w2 := [(b, .inr (0, [.ref be, .int 0])), (be, .inl (cI, 100, .inl en)), (h, .inr (1, [.ref hk, .ref hn, .ref hu, .int (nI sz)])), (hk, .inl (cI, 50, .inl ks)), (hn, .inl (cI, 50, .inl ns)), (hu, .inl (cI, 200, .inl us)), (w, .inr (4, [.ref wd])), (wd, .inl (cI, 16, .inl dp1_1))]) [6, 7, 2, 3, 4, 5] (va_runV (As := [.ref h, .int 0, .int 0]) (rest := []) ⟨hx, hb, hml, hown, hg⟩ (kX4_spread l dC dI B cI cC cJ w wd dp h hk hn hu ks ns us sz 0 0 dp1_1 (by omega) hF_1 _) (cwV 3 hg (gi_V w_360 w_361 w_362 w_5 w_363) rfl rfl rfl (by decide +kernel) ⟨Nat.le_of_ble_eq_true rfl, Nat.le_of_ble_eq_true rfl⟩) (pre_MV (va_recv hK hP (ci := 4) (q0 := 6) rfl rfl) (Nat.le_trans hB hS.1) (hP.sub [6, 7, 2, 3, 4, 5] rfl) hK ((hD.weaken (fun _ _ _ h => hAB _ h)).sub [6, 7, 2, 3, 4, 5] (by decide) rfl) (hT.kept (hS.mono hAB))) rfl rfl hl.1 rfl (lv_room (Nat.le_of_ble_eq_true rfl)) dX0_judge_9 ⟨Nat.le_of_ble_eq_true rfl, Nat.le_of_ble_eq_true rfl⟩) hP hD hS hA rfl (Nat.le_of_ble_eq_true rfl) rfl rfl (fun H locs hP hD hS => ?_)
  refine W.eq (g2 := F0 m 12 ls []) rfl ?_
  refine lv_iconst (v := 0) hx hb dX0_judge_12 (by decide) ?_
  refine lv_istore_n (lv' := [(3, .int 0), (0, .ref b), (1, .ref h), (2, .ref w)]) hx hb dX0_judge_13 rfl hl (by decide) rfl (fun ls hl => ?_)
  refine loop_M (σ := Nat × (Nat → Int32) × Nat) (fun n x H locs ls => 4 - x.1 < n ∧ x.1 ≤ 4 ∧ x.2.2 ≤ 100 ∧ k_judgeAll ks us sz dp en = (dp1_1, k_reasons ks us sz dp1_1 x.1 x.2.1 x.2.2) ∧ va_P (dC, dI) vwCl [(b, .inr (0, [.ref be, .int (nI x.2.2)])), (be, .inl (cI, 100, .inl x.2.1)), (h, .inr (1, [.ref hk, .ref hn, .ref hu, .int (nI sz)])), (hk, .inl (cI, 50, .inl ks)), (hn, .inl (cI, 50, .inl ns)), (hu, .inl (cI, 200, .inl us)), (w, .inr (4, [.ref wd])), (wd, .inl (cI, 16, .inl dp1_1))] H ∧ va_D A [(b, .inr (0, [.ref be, .int (nI x.2.2)])), (be, .inl (cI, 100, .inl x.2.1)), (h, .inr (1, [.ref hk, .ref hn, .ref hu, .int (nI sz)])), (hk, .inl (cI, 50, .inl ks)), (hn, .inl (cI, 50, .inl ns)), (hu, .inl (cI, 200, .inl us)), (w, .inr (4, [.ref wd])), (wd, .inl (cI, 16, .inl dp1_1))] ∧ va_S A s.heap H locs ∧ lv_has ls 4 [(0, .ref b), (1, .ref h), (2, .ref w), (3, .int (nI x.1))]) (fun n x H locs ls ih_2 hI => ?_) (fun x H locs ls hI => ?_) (n := (4 - 0) + 1) (x := (0, en, 0)) ⟨(Nat.lt_succ_self _), (by (try dsimp only); omega), (by (try dsimp only); omega), (by simp [k_judgeAll, hF_1]), hP, hD, hS, lv_sub hl [1, 2, 3, 0] rfl⟩
  · skip
    obtain ⟨rsn, enx, bnx⟩ := x
    obtain ⟨hfu, hrs, hbx, he, hP, hD, hS, hl⟩ := hI
    have hfu : 4 - rsn < n + 1 := hfu
    have hrs : rsn ≤ 4 := hrs
    have hbx : bnx ≤ 100 := hbx
    have he : k_judgeAll ks us sz dp en = (dp1_1, k_reasons ks us sz dp1_1 rsn enx bnx) := he
    have hP : va_P (dC, dI) vwCl [(b, .inr (0, [.ref be, .int (nI bnx)])), (be, .inl (cI, 100, .inl enx)), (h, .inr (1, [.ref hk, .ref hn, .ref hu, .int (nI sz)])), (hk, .inl (cI, 50, .inl ks)), (hn, .inl (cI, 50, .inl ns)), (hu, .inl (cI, 200, .inl us)), (w, .inr (4, [.ref wd])), (wd, .inl (cI, 16, .inl dp1_1))] H := hP
    have hD : va_D A [(b, .inr (0, [.ref be, .int (nI bnx)])), (be, .inl (cI, 100, .inl enx)), (h, .inr (1, [.ref hk, .ref hn, .ref hu, .int (nI sz)])), (hk, .inl (cI, 50, .inl ks)), (hn, .inl (cI, 50, .inl ns)), (hu, .inl (cI, 200, .inl us)), (w, .inr (4, [.ref wd])), (wd, .inl (cI, 16, .inl dp1_1))] := hD
    have hl : lv_has ls 4 [(0, .ref b), (1, .ref h), (2, .ref w), (3, .int (nI rsn))] := hl
    refine lv_iload_n hx hb dX0_judge_14 rfl (lv_at hl 3 rfl) ?_
    refine lv_iconst (v := 3) hx hb dX0_judge_15 (by decide) ?_
    refine lv_icmp_gt (tgt := 32) hx hb dX0_judge_16 (by decide) (fun c_3 => ?_) (fun c_3 => ?_)
    · skip
      have c_3 := na_lt (a := 3) (b := rsn) c_3 (by omega) (by omega)
      have hP9 := hP
      have hS9 := hS
      have h9 : k_judgeAll ks us sz dp en = (dp1_1, enx, bnx) := by rw [he, k_reasons]; simp [c_3, show ¬ rsn < 4 by omega]
      have h9 := hF.symm.trans h9
      cases h9
      exact W.vret hx hb hr (fun t ht hW => ⟨rfl, by rw [ht]; exact hP9, hS9.F ht⟩) hS9.2.2 dX0_judge_32
    · skip
      have c_3 := na_nlt (a := 3) (b := rsn) c_3 (by omega) (by omega)
      refine lv_aload_n hx hb dX0_judge_19 rfl (lv_at hl 0 rfl) ?_
      refine lv_aload_n hx hb dX0_judge_20 rfl (lv_at hl 1 rfl) ?_
      refine lv_aload_n hx hb dX0_judge_21 rfl (lv_at hl 2 rfl) ?_
      refine lv_iload_n hx hb dX0_judge_22 rfl (lv_at hl 3 rfl) ?_
      obtain ⟨en1_4, bn1_4, hF_4⟩ : ∃ (en1_4 : Nat → Int32) (bn1_4 : Nat), k_addAll ks us sz dp1_1 rsn 0 enx bnx = (en1_4, bn1_4) := ⟨_, _, rfl⟩
      have hq_bn1_4 := k_addAll_le ks us sz dp1_1 rsn 0 enx bnx (by omega)
      rw [hF_4] at hq_bn1_4
      have hq_bn1_4 : bn1_4 ≤ 100 := hq_bn1_4
      refine go_M (r := none) (wc' := [(b, .inr (0, [.ref be, .int (nI bn1_4)])), (be, .inl (cI, 100, .inl en1_4)), (h, .inr (1, [.ref hk, .ref hn, .ref hu, .int (nI sz)])), (hk, .inl (cI, 50, .inl ks)), (hn, .inl (cI, 50, .inl ns)), (hu, .inl (cI, 200, .inl us)), (w, .inr (4, [.ref wd])), (wd, .inl (cI, 16, .inl dp1_1))]) (w2 := [(b, .inr (0, [.ref be, .int (nI bn1_4)])), (be, .inl (cI, 100, .inl en1_4)), (h, .inr (1, [.ref hk, .ref hn, .ref hu, .int (nI sz)])), (hk, .inl (cI, 50, .inl ks)), (hn, .inl (cI, 50, .inl ns)), (hu, .inl (cI, 200, .inl us)), (w, .inr (4, [.ref wd])), (wd, .inl (cI, 16, .inl dp1_1))]) [0, 1, 2, 3, 4, 5, 6, 7] (va_runV (As := [.ref h, .ref w, .int (nI rsn)]) (rest := []) ⟨hx, hb, hml, hown, hg⟩ (kX0_addAll l dC dI B cI cC cJ b be enx bnx h hk hn hu ks ns us sz w wd dp1_1 rsn en1_4 bn1_4 (by omega) (by omega) (by omega) hF_4 _) (cwV 3 hg (gi_V w_381 w_382 w_692 w_6 w_383) rfl rfl rfl (by decide +kernel) ⟨Nat.le_of_ble_eq_true rfl, Nat.le_of_ble_eq_true rfl⟩) (pre_MV (va_recv hK hP (ci := 0) (q0 := 0) rfl rfl) (Nat.le_trans hB hS.1) (hP.sub [0, 1, 2, 3, 4, 5, 6, 7] rfl) hK ((hD.weaken (fun _ _ _ h => hAB _ h)).sub [0, 1, 2, 3, 4, 5, 6, 7] (by decide) rfl) (hT.kept (hS.mono hAB))) rfl rfl hl.1 rfl (lv_room (Nat.le_of_ble_eq_true rfl)) dX0_judge_23 ⟨Nat.le_of_ble_eq_true rfl, Nat.le_of_ble_eq_true rfl⟩) hP hD hS hA rfl (Nat.le_of_ble_eq_true rfl) rfl rfl (fun H locs hP hD hS => ?_)
      refine W.eq (g2 := F0 m 26 ls []) rfl ?_
      refine lv_iinc (v := (nI (rsn + 1))) (lv' := [(3, .int (nI (rsn + 1))), (0, .ref b), (1, .ref h), (2, .ref w)]) hx hb dX0_judge_26 hl (k := 3) rfl (by rw [← nI_add]; rfl) (by decide) rfl (fun ls hl => ?_)
      refine lv_goto (tgt := 14) hx hb dX0_judge_29 (by decide) ?_
      exact ih_2 (rsn + 1, en1_4, bn1_4) _ _ _ ⟨(by (try dsimp only); omega), (by (try dsimp only); omega), (by (try dsimp only); omega), (by (try dsimp only); rw [he, k_reasons]; simp [c_3, hF_4, show rsn < 4 by omega]), hP, hD, hS, lv_sub hl [1, 2, 3, 0] rfl⟩
  · exact absurd hI.1 (Nat.not_lt_zero _)
