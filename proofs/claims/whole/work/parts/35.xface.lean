set_option maxHeartbeats 4000000 in
set_option maxRecDepth 100000 in
theorem kX5_piece (l : Launch) (dC : Nat → ClassId) (dI : Nat → Nat → Nat) (B : Nat) (cI cC cJ : ClassId) (x : Nat) (r : Nat) (h : Nat) (hz : Nat) (w : Nat) (b : Nat) (o : Nat) (hk : Nat) (hn : Nat) (hu : Nat) (ks : Nat → Int32) (ns : Nat → Int32) (us : Nat → Int32) (sz : Nat) (p0 : Int32) (p1 : Int32) (ok1 : Bool) (v1 : Int32) (hsz : sz ≤ 50) (hF : k_piece ks ns us sz p0 p1 = (ok1, v1)) (hst : ∀ e : Env, l.admits e → e.platform.stackTraces = false) (sz9 : Nat) : xMet l yX5_piece wsX5_piece ({ frames := 6, cells := 1, slots := 6, locals := 82 }) (q_Xp (dC, dI) vwCl [.ref x, .int p0, .int p1] [(x, .inr (5, [.ref r, .ref h, .ref hz, .ref w, .ref b, .ref o])), (h, .inr (1, [.ref hk, .ref hn, .ref hu, .int (nI sz)])), (hk, .inl (cI, 50, .inl ks)), (hn, .inl (cI, 50, .inl ns)), (hu, .inl (cI, 200, .inl us))] [(cI, .int), (cC, .char), (cJ, .long)] B sz9) (xQ (dC, dI) vwCl ok1 [(x, .inr (5, [.ref r, .ref h, .ref hz, .ref w, .ref b, .ref o])), (h, .inr (1, [.ref hk, .ref hn, .ref hu, .int (nI sz)])), (hk, .inl (cI, 50, .inl ks)), (hn, .inl (cI, 50, .inl ns)), (hu, .inl (cI, 200, .inl us))] [(x, .inr (5, [.ref r, .ref h, .ref hz, .ref w, .ref b, .ref o])), (h, .inr (1, [.ref hk, .ref hn, .ref hu, .int (nI sz)])), (hk, .inl (cI, 50, .inl ks)), (hn, .inl (cI, 50, .inl ns)), (hu, .inl (cI, 200, .inl us))] (va_A [(x, .inr (5, [.ref r, .ref h, .ref hz, .ref w, .ref b, .ref o])), (h, .inr (1, [.ref hk, .ref hn, .ref hu, .int (nI sz)])), (hk, .inl (cI, 50, .inl ks)), (hn, .inl (cI, 50, .inl ns)), (hu, .inl (cI, 200, .inl us))] sz9) (some (.int v1)) "java/lang/IndexOutOfBoundsException") 1 6 (va_A [(x, .inr (5, [.ref r, .ref h, .ref hz, .ref w, .ref b, .ref o])), (h, .inr (1, [.ref hk, .ref hn, .ref hu, .int (nI sz)])), (hk, .inl (cI, 50, .inl ks)), (hn, .inl (cI, 50, .inl ns)), (hu, .inl (cI, 200, .inl us))] sz9) := by
  refine xMet.ofW (cc := cX5_piece) (maxL := 4) (ret := (some .int)) (by decide) rfl ?_
  intro p e s m args below meth c s₁ Bd hml hv
  obtain ⟨⟨rfl, hsz9, hB, hP, hK, hD0, hT⟩, hX⟩ := hv
  have hx := Bd.exec
  have hb := Bd.bytes
  have hr := Bd.returns
  have hts := atoms_spec (ws := wsX5_piece) Bd.pre
  have hg : ∀ w ∈ lw_good, w.before _ s = true := fun w h => hts w (List.mem_cons_of_mem _ h)
  have hown : s.vm.findClass RX5 = some m.cls := findClass_of_methodNamed Bd.named
  have hlocks := Bd.notSynchronized
  subst hsz9
  have hD := hD0.self (sz := s.heap.size)
  generalize hAe : va_A [(x, .inr (5, [.ref r, .ref h, .ref hz, .ref w, .ref b, .ref o])), (h, .inr (1, [.ref hk, .ref hn, .ref hu, .int (nI sz)])), (hk, .inl (cI, 50, .inl ks)), (hn, .inl (cI, 50, .inl ns)), (hu, .inl (cI, 200, .inl us))] s.heap.size = A at hD ⊢
  have hA : ∀ q : Nat, s.heap.size ≤ q → A q := fun q h => by rw [← hAe]; exact Or.inr h
  have hAB : ∀ q, A q → B ≤ q := by rw [← hAe]; exact va_A.ge hD0 hB
  have hS : va_S A s.heap s.heap [] := va_S.rf
  have hP : va_P (dC, dI) vwCl [(x, .inr (5, [.ref r, .ref h, .ref hz, .ref w, .ref b, .ref o])), (h, .inr (1, [.ref hk, .ref hn, .ref hu, .int (nI sz)])), (hk, .inl (cI, 50, .inl ks)), (hn, .inl (cI, 50, .inl ns)), (hu, .inl (cI, 200, .inl us))] s.heap := hP
  have hl := lv_entry ([.ref x, .int p0, .int p1]) (n := 4) (Nat.le_of_ble_eq_true rfl)
  rw [lg_entry_eq]
  generalize (lg_sl ([.ref x, .int p0, .int p1]) ++ List.replicate (4 - (lg_sl ([.ref x, .int p0, .int p1])).length) Slot.unset).toArray = ls at hl ⊢
  have hl : lv_has ls 4 [(0, .ref x), (1, .int p0), (2, .int p1)] := hl
  refine lv_iload_n hx hb dX5_piece_0 rfl (lv_at hl 1 rfl) ?_
  refine lv_if_lt (tgt := 15) hx hb dX5_piece_1 (by decide) (fun c_1 => ?_) (fun c_1 => ?_)
  · skip
    have hP9 := hP
    have hS9 := hS
    have h9 : k_piece ks ns us sz p0 p1 = (false, 0) := by simp [k_piece, c_1]
    have h9 := hF.symm.trans h9
    cases h9
    exact x_thr (y := yX5_piece) hst hx hb hml hown hg Bd.named (hts _ List.mem_cons_self) hlocks hX hB hAB w_436 w_437 w_15 xi_o1 (by decide) (List.mem_of_getElem? (i := 1) rfl) dX5_piece_15 dX5_piece_18 dX5_piece_19 dX5_piece_21 dX5_piece_24 hl.1 (Nat.le_of_ble_eq_true rfl) (Nat.le_of_ble_eq_true rfl) (Nat.le_of_ble_eq_true rfl) (Nat.le_of_ble_eq_true rfl) rfl hP9 hS9
  · skip
    refine lv_iload_n hx hb dX5_piece_4 rfl (lv_at hl 1 rfl) ?_
    refine lv_aload_n hx hb dX5_piece_5 rfl (lv_at hl 0 rfl) ?_
    refine va_get (D := (dC, dI)) (ci := 5) (v := .ref h) (C := RX5) (T := TX5) (N := 6) hx hb hg in_X5 hown hK hP 0 rfl rfl 1 (by decide) (hg _ w_104) (fun _ h9 => h9) rfl dX5_piece_6 ?_
    refine go_R (r := (nI sz)) (va_runV (As := []) (rest := [.int p0]) ⟨hx, hb, hml, hown, hg⟩ (kX1_size l dC dI B cI cC cJ h hk hn hu ks ns us sz (by omega)) (cwV 0 hg (gi_V w_185 w_186 w_187 w_4 w_188) rfl rfl rfl (by decide +kernel) ⟨Nat.le_of_ble_eq_true rfl, Nat.le_of_ble_eq_true rfl⟩) (pre_RV (va_recv hK hP (ci := 1) (q0 := 1) rfl rfl) (hP.sub [1, 2, 3, 4] rfl) hK hT) rfl rfl hl.1 rfl (lv_room (Nat.le_of_ble_eq_true rfl)) dX5_piece_9 ⟨Nat.le_of_ble_eq_true rfl, Nat.le_of_ble_eq_true rfl⟩) ?_
    refine lv_icmp_lt (tgt := 25) hx hb dX5_piece_12 (by decide) (fun c_2 => ?_) (fun c_2 => ?_)
    · skip
      refine lv_aload_n hx hb dX5_piece_25 rfl (lv_at hl 0 rfl) ?_
      refine va_get (D := (dC, dI)) (ci := 5) (v := .ref h) (C := RX5) (T := TX5) (N := 6) hx hb hg in_X5 hown hK hP 0 rfl rfl 1 (by decide) (hg _ w_104) (fun _ h9 => h9) rfl dX5_piece_26 ?_
      refine lv_iload_n hx hb dX5_piece_29 rfl (lv_at hl 1 rfl) ?_
      refine go_R (r := k_get ks sz p0) (va_runV (As := [.int p0]) (rest := []) ⟨hx, hb, hml, hown, hg⟩ (kX1_kindOf l dC dI B cI cC cJ h hk hn hu ks ns us sz p0 (by omega)) (cwV 1 hg (gi_V w_450 w_206 w_207 w_4 w_208) rfl rfl rfl (by decide +kernel) ⟨Nat.le_of_ble_eq_true rfl, Nat.le_of_ble_eq_true rfl⟩) (pre_RV (va_recv hK hP (ci := 1) (q0 := 1) rfl rfl) (hP.sub [1, 2, 3, 4] rfl) hK hT) rfl rfl hl.1 rfl (lv_room (Nat.le_of_ble_eq_true rfl)) dX5_piece_30 ⟨Nat.le_of_ble_eq_true rfl, Nat.le_of_ble_eq_true rfl⟩) ?_
      refine lv_istore_n (lv' := [(3, .int (k_get ks sz p0)), (0, .ref x), (1, .int p0), (2, .int p1)]) hx hb dX5_piece_33 rfl hl (by decide) rfl (fun ls hl => ?_)
      refine lv_iload_n hx hb dX5_piece_34 rfl (lv_at hl 3 rfl) ?_
      refine lv_if_lt (tgt := 48) hx hb dX5_piece_35 (by decide) (fun c_3 => ?_) (fun c_3 => ?_)
      · skip
        have hP9 := hP
        have hS9 := hS
        have h9 : k_piece ks ns us sz p0 p1 = (false, 0) := by simp [k_piece, c_1, c_2, c_3]
        have h9 := hF.symm.trans h9
        cases h9
        exact x_thr (y := yX5_piece) hst hx hb hml hown hg Bd.named (hts _ List.mem_cons_self) hlocks hX hB hAB w_436 w_437 w_15 xi_o1 (by decide) (List.mem_of_getElem? (i := 2) rfl) dX5_piece_48 dX5_piece_51 dX5_piece_52 dX5_piece_54 dX5_piece_57 hl.1 (Nat.le_of_ble_eq_true rfl) (Nat.le_of_ble_eq_true rfl) (Nat.le_of_ble_eq_true rfl) (Nat.le_of_ble_eq_true rfl) rfl hP9 hS9
      · skip
        refine lv_iload_n hx hb dX5_piece_38 rfl (lv_at hl 3 rfl) ?_
        refine lv_iconst (v := 2) hx hb dX5_piece_39 (by decide) ?_
        refine lv_iload_n hx hb dX5_piece_40 rfl (lv_at hl 0 rfl) ?_
        refine go_R (r := (nI (k_nK (k_get ks sz p0)))) (va_runS (As := [.int (k_get ks sz p0)]) (rest := [.int 2, .int p1]) ⟨hx, hb, hml, hown, hg⟩ (kX5_numbersOfKind l dC dI B cI cC cJ (k_get ks sz p0)) (va_cwS 1 hg (gi_S w_451 w_209 w_2 w_210) rfl rfl rfl (by decide +kernel) ⟨Nat.le_of_ble_eq_true rfl, Nat.le_of_ble_eq_true rfl⟩) (pre_RS (hP.sub [] rfl) hK hT) rfl rfl hl.1 rfl (lv_room (Nat.le_of_ble_eq_true rfl)) dX5_piece_41 ⟨Nat.le_of_ble_eq_true rfl, Nat.le_of_ble_eq_true rfl⟩) ?_
        refine lv_iadd hx hb dX5_piece_44 ?_
        refine top_eq (y := (nI (2 + (k_nK (k_get ks sz p0))))) (by exact nI_add _ _) ?_
        refine lv_icmp_lt (tgt := 58) hx hb dX5_piece_45 (by decide) (fun c_4 => ?_) (fun c_4 => ?_)
        · skip
          refine lv_iload_n hx hb dX5_piece_58 rfl (lv_at hl 3 rfl) ?_
          refine lv_if_ne (tgt := 64) hx hb dX5_piece_59 (by decide) (fun c_5 => ?_) (fun c_5 => ?_)
          · skip
            refine lv_iload_n hx hb dX5_piece_64 rfl (lv_at hl 3 rfl) ?_
            refine lv_iconst (v := 1) hx hb dX5_piece_65 (by decide) ?_
            refine lv_icmp_ne (tgt := 80) hx hb dX5_piece_66 (by decide) (fun c_6 => ?_) (fun c_6 => ?_)
            · skip
              refine lv_aload_n hx hb dX5_piece_80 rfl (lv_at hl 1 rfl) ?_
              refine va_get (D := (dC, dI)) (ci := 5) (v := .ref h) (C := RX5) (T := TX5) (N := 6) hx hb hg in_X5 hown hK hP 0 rfl rfl 1 (by decide) (hg _ w_104) (fun _ h9 => h9) rfl dX5_piece_81 ?_
              refine lv_iload_n hx hb dX5_piece_84 rfl (lv_at hl 2 rfl) ?_
              refine lv_iload_n hx hb dX5_piece_85 rfl (lv_at hl 3 rfl) ?_
              refine lv_iconst (v := 2) hx hb dX5_piece_86 (by decide) ?_
              refine lv_isub hx hb dX5_piece_87 ?_
              refine go_R (r := k_num us sz p0 (p1 - 2)) (va_runV (As := [.int p0, .int (p1 - 2)]) (rest := []) ⟨hx, hb, hml, hown, hg⟩ (kX1_numberOf l dC dI B cI cC cJ h hk hn hu ks ns us sz p0 (p1 - 2) (by omega)) (cwV 2 hg (gi_V w_453 w_216 w_217 w_4 w_218) rfl rfl rfl (by decide +kernel) ⟨Nat.le_of_ble_eq_true rfl, Nat.le_of_ble_eq_true rfl⟩) (pre_RV (va_recv hK hP (ci := 1) (q0 := 1) rfl rfl) (hP.sub [1, 2, 3, 4] rfl) hK hT) rfl rfl hl.1 rfl (lv_room (Nat.le_of_ble_eq_true rfl)) dX5_piece_88 ⟨Nat.le_of_ble_eq_true rfl, Nat.le_of_ble_eq_true rfl⟩) ?_
              have hP9 := hP
              have hS9 := hS
              have h9 : k_piece ks ns us sz p0 p1 = (true, k_num us sz p0 (p1 - 2)) := by simp [k_piece, c_1, c_2, c_3, c_4, c_5, c_6]
              have h9 := hF.symm.trans h9
              cases h9
              exact x_ret (Nat.zero_le _) (Nat.zero_le _) (W.iret hx hb hr (fun t ht hW => ⟨hS9.F ht, Or.inl ⟨rfl, rfl, by rw [ht]; exact hP9⟩⟩) hS9.2.2 dX5_piece_91)
            · skip
              refine lv_aload_n hx hb dX5_piece_69 rfl (lv_at hl 1 rfl) ?_
              refine va_get (D := (dC, dI)) (ci := 5) (v := .ref h) (C := RX5) (T := TX5) (N := 6) hx hb hg in_X5 hown hK hP 0 rfl rfl 1 (by decide) (hg _ w_104) (fun _ h9 => h9) rfl dX5_piece_70 ?_
              refine lv_iload_n hx hb dX5_piece_73 rfl (lv_at hl 2 rfl) ?_
              refine go_R (r := k_get ns sz p0) (va_runV (As := [.int p0]) (rest := []) ⟨hx, hb, hml, hown, hg⟩ (kX1_nameOf l dC dI B cI cC cJ h hk hn hu ks ns us sz p0 (by omega)) (cwV 1 hg (gi_V w_452 w_412 w_413 w_4 w_414) rfl rfl rfl (by decide +kernel) ⟨Nat.le_of_ble_eq_true rfl, Nat.le_of_ble_eq_true rfl⟩) (pre_RV (va_recv hK hP (ci := 1) (q0 := 1) rfl rfl) (hP.sub [1, 2, 3, 4] rfl) hK hT) rfl rfl hl.1 rfl (lv_room (Nat.le_of_ble_eq_true rfl)) dX5_piece_74 ⟨Nat.le_of_ble_eq_true rfl, Nat.le_of_ble_eq_true rfl⟩) ?_
              refine lv_goto (tgt := 91) hx hb dX5_piece_77 (by decide) ?_
              have hP9 := hP
              have hS9 := hS
              have h9 : k_piece ks ns us sz p0 p1 = (true, k_get ns sz p0) := by simp [k_piece, c_1, c_2, c_3, c_4, c_5, eq_true c_6]
              have h9 := hF.symm.trans h9
              cases h9
              exact x_ret (Nat.zero_le _) (Nat.zero_le _) (W.iret hx hb hr (fun t ht hW => ⟨hS9.F ht, Or.inl ⟨rfl, rfl, by rw [ht]; exact hP9⟩⟩) hS9.2.2 dX5_piece_91)
          · skip
            refine lv_iload_n hx hb dX5_piece_62 rfl (lv_at hl 0 rfl) ?_
            have hP9 := hP
            have hS9 := hS
            have h9 : k_piece ks ns us sz p0 p1 = (true, k_get ks sz p0) := by simp [k_piece, c_1, c_2, c_3, c_4, eq_true c_5]
            have h9 := hF.symm.trans h9
            cases h9
            exact x_ret (Nat.zero_le _) (Nat.zero_le _) (W.iret hx hb hr (fun t ht hW => ⟨hS9.F ht, Or.inl ⟨rfl, rfl, by rw [ht]; exact hP9⟩⟩) hS9.2.2 dX5_piece_63)
        · skip
          have hP9 := hP
          have hS9 := hS
          have h9 : k_piece ks ns us sz p0 p1 = (false, 0) := by simp [k_piece, c_1, c_2, c_3, c_4]
          have h9 := hF.symm.trans h9
          cases h9
          exact x_thr (y := yX5_piece) hst hx hb hml hown hg Bd.named (hts _ List.mem_cons_self) hlocks hX hB hAB w_436 w_437 w_15 xi_o1 (by decide) (List.mem_of_getElem? (i := 2) rfl) dX5_piece_48 dX5_piece_51 dX5_piece_52 dX5_piece_54 dX5_piece_57 hl.1 (Nat.le_of_ble_eq_true rfl) (Nat.le_of_ble_eq_true rfl) (Nat.le_of_ble_eq_true rfl) (Nat.le_of_ble_eq_true rfl) rfl hP9 hS9
    · skip
      have hP9 := hP
      have hS9 := hS
      have h9 : k_piece ks ns us sz p0 p1 = (false, 0) := by simp [k_piece, c_1, c_2]
      have h9 := hF.symm.trans h9
      cases h9
      exact x_thr (y := yX5_piece) hst hx hb hml hown hg Bd.named (hts _ List.mem_cons_self) hlocks hX hB hAB w_436 w_437 w_15 xi_o1 (by decide) (List.mem_of_getElem? (i := 1) rfl) dX5_piece_15 dX5_piece_18 dX5_piece_19 dX5_piece_21 dX5_piece_24 hl.1 (Nat.le_of_ble_eq_true rfl) (Nat.le_of_ble_eq_true rfl) (Nat.le_of_ble_eq_true rfl) (Nat.le_of_ble_eq_true rfl) rfl hP9 hS9
set_option maxHeartbeats 4000000 in
set_option maxRecDepth 100000 in
theorem kX5_at (l : Launch) (dC : Nat → ClassId) (dI : Nat → Nat → Nat) (B : Nat) (cI cC cJ : ClassId) (x : Nat) (r : Nat) (h : Nat) (hz : Nat) (w : Nat) (b : Nat) (o : Nat) (os : Nat) (ot : Nat → Int32) (ol : Nat) (p0 : Int32) (ok1 : Bool) (v1 : Int32) (hol : ol ≤ 500) (hF : k_at ot ol p0 = (ok1, v1)) (hst : ∀ e : Env, l.admits e → e.platform.stackTraces = false) (sz9 : Nat) : xMet l yX5_at wsX5_at ({ frames := 6, cells := 1, slots := 6, locals := 82 }) (q_Xp (dC, dI) vwCl [.ref x, .int p0] [(x, .inr (5, [.ref r, .ref h, .ref hz, .ref w, .ref b, .ref o])), (o, .inr (2, [.ref os, .int (nI ol)])), (os, .inl (cC, 500, .inl ot))] [(cI, .int), (cC, .char), (cJ, .long)] B sz9) (xQ (dC, dI) vwCl ok1 [(x, .inr (5, [.ref r, .ref h, .ref hz, .ref w, .ref b, .ref o])), (o, .inr (2, [.ref os, .int (nI ol)])), (os, .inl (cC, 500, .inl ot))] [(x, .inr (5, [.ref r, .ref h, .ref hz, .ref w, .ref b, .ref o])), (o, .inr (2, [.ref os, .int (nI ol)])), (os, .inl (cC, 500, .inl ot))] (va_A [(x, .inr (5, [.ref r, .ref h, .ref hz, .ref w, .ref b, .ref o])), (o, .inr (2, [.ref os, .int (nI ol)])), (os, .inl (cC, 500, .inl ot))] sz9) (some (.int v1)) "java/lang/IndexOutOfBoundsException") 1 6 (va_A [(x, .inr (5, [.ref r, .ref h, .ref hz, .ref w, .ref b, .ref o])), (o, .inr (2, [.ref os, .int (nI ol)])), (os, .inl (cC, 500, .inl ot))] sz9) := by
  refine xMet.ofW (cc := cX5_at) (maxL := 2) (ret := (some .int)) (by decide) rfl ?_
  intro p e s m args below meth c s₁ Bd hml hv
  obtain ⟨⟨rfl, hsz9, hB, hP, hK, hD0, hT⟩, hX⟩ := hv
  have hx := Bd.exec
  have hb := Bd.bytes
  have hr := Bd.returns
  have hts := atoms_spec (ws := wsX5_at) Bd.pre
  have hg : ∀ w ∈ lw_good, w.before _ s = true := fun w h => hts w (List.mem_cons_of_mem _ h)
  have hown : s.vm.findClass RX5 = some m.cls := findClass_of_methodNamed Bd.named
  have hlocks := Bd.notSynchronized
  subst hsz9
  have hD := hD0.self (sz := s.heap.size)
  generalize hAe : va_A [(x, .inr (5, [.ref r, .ref h, .ref hz, .ref w, .ref b, .ref o])), (o, .inr (2, [.ref os, .int (nI ol)])), (os, .inl (cC, 500, .inl ot))] s.heap.size = A at hD ⊢
  have hA : ∀ q : Nat, s.heap.size ≤ q → A q := fun q h => by rw [← hAe]; exact Or.inr h
  have hAB : ∀ q, A q → B ≤ q := by rw [← hAe]; exact va_A.ge hD0 hB
  have hS : va_S A s.heap s.heap [] := va_S.rf
  have hP : va_P (dC, dI) vwCl [(x, .inr (5, [.ref r, .ref h, .ref hz, .ref w, .ref b, .ref o])), (o, .inr (2, [.ref os, .int (nI ol)])), (os, .inl (cC, 500, .inl ot))] s.heap := hP
  have hl := lv_entry ([.ref x, .int p0]) (n := 2) (Nat.le_of_ble_eq_true rfl)
  rw [lg_entry_eq]
  generalize (lg_sl ([.ref x, .int p0]) ++ List.replicate (2 - (lg_sl ([.ref x, .int p0])).length) Slot.unset).toArray = ls at hl ⊢
  have hl : lv_has ls 2 [(0, .ref x), (1, .int p0)] := hl
  refine lv_iload_n hx hb dX5_at_0 rfl (lv_at hl 1 rfl) ?_
  refine lv_if_lt (tgt := 15) hx hb dX5_at_1 (by decide) (fun c_1 => ?_) (fun c_1 => ?_)
  · skip
    have hP9 := hP
    have hS9 := hS
    have h9 : k_at ot ol p0 = (false, 0) := by simp [k_at, c_1]
    have h9 := hF.symm.trans h9
    cases h9
    exact x_thr (y := yX5_at) hst hx hb hml hown hg Bd.named (hts _ List.mem_cons_self) hlocks hX hB hAB w_436 w_437 w_15 xi_o1 (by decide) (List.mem_of_getElem? (i := 5) rfl) dX5_at_15 dX5_at_18 dX5_at_19 dX5_at_21 dX5_at_24 hl.1 (Nat.le_of_ble_eq_true rfl) (Nat.le_of_ble_eq_true rfl) (Nat.le_of_ble_eq_true rfl) (Nat.le_of_ble_eq_true rfl) rfl hP9 hS9
  · skip
    refine lv_iload_n hx hb dX5_at_4 rfl (lv_at hl 1 rfl) ?_
    refine lv_aload_n hx hb dX5_at_5 rfl (lv_at hl 0 rfl) ?_
    refine va_get (D := (dC, dI)) (ci := 5) (v := .ref o) (C := RX5) (T := TX5) (N := 6) hx hb hg in_X5 hown hK hP 0 rfl rfl 5 (by decide) (hg _ w_108) (fun _ h9 => h9) rfl dX5_at_6 ?_
    refine go_R (r := (nI ol)) (va_runV (As := []) (rest := [.int p0]) ⟨hx, hb, hml, hown, hg⟩ (kX2_length l dC dI B cI cC cJ o os ot ol (by omega)) (cwV 0 hg (gi_V w_170 w_171 w_172 w_7 w_173) rfl rfl rfl (by decide +kernel) ⟨Nat.le_of_ble_eq_true rfl, Nat.le_of_ble_eq_true rfl⟩) (pre_RV (va_recv hK hP (ci := 2) (q0 := 1) rfl rfl) (hP.sub [1, 2] rfl) hK hT) rfl rfl hl.1 rfl (lv_room (Nat.le_of_ble_eq_true rfl)) dX5_at_9 ⟨Nat.le_of_ble_eq_true rfl, Nat.le_of_ble_eq_true rfl⟩) ?_
    refine lv_icmp_lt (tgt := 25) hx hb dX5_at_12 (by decide) (fun c_2 => ?_) (fun c_2 => ?_)
    · skip
      refine lv_aload_n hx hb dX5_at_25 rfl (lv_at hl 0 rfl) ?_
      refine va_get (D := (dC, dI)) (ci := 5) (v := .ref o) (C := RX5) (T := TX5) (N := 6) hx hb hg in_X5 hown hK hP 0 rfl rfl 5 (by decide) (hg _ w_108) (fun _ h9 => h9) rfl dX5_at_26 ?_
      refine lv_iload_n hx hb dX5_at_29 rfl (lv_at hl 1 rfl) ?_
      refine go_R (r := k_get ot ol p0) (va_runV (As := [.int p0]) (rest := []) ⟨hx, hb, hml, hown, hg⟩ (kX2_signAt l dC dI B cI cC cJ o os ot ol p0 (by omega)) (cwV 1 hg (gi_V w_493 w_494 w_495 w_7 w_496) rfl rfl rfl (by decide +kernel) ⟨Nat.le_of_ble_eq_true rfl, Nat.le_of_ble_eq_true rfl⟩) (pre_RV (va_recv hK hP (ci := 2) (q0 := 1) rfl rfl) (hP.sub [1, 2] rfl) hK hT) rfl rfl hl.1 rfl (lv_room (Nat.le_of_ble_eq_true rfl)) dX5_at_30 ⟨Nat.le_of_ble_eq_true rfl, Nat.le_of_ble_eq_true rfl⟩) ?_
      have hP9 := hP
      have hS9 := hS
      have h9 : k_at ot ol p0 = (true, k_get ot ol p0) := by simp [k_at, c_1, c_2]
      have h9 := hF.symm.trans h9
      cases h9
      exact x_ret (Nat.zero_le _) (Nat.zero_le _) (W.iret hx hb hr (fun t ht hW => ⟨hS9.F ht, Or.inl ⟨rfl, rfl, by rw [ht]; exact hP9⟩⟩) hS9.2.2 dX5_at_33)
    · skip
      have hP9 := hP
      have hS9 := hS
      have h9 : k_at ot ol p0 = (false, 0) := by simp [k_at, c_1, c_2]
      have h9 := hF.symm.trans h9
      cases h9
      exact x_thr (y := yX5_at) hst hx hb hml hown hg Bd.named (hts _ List.mem_cons_self) hlocks hX hB hAB w_436 w_437 w_15 xi_o1 (by decide) (List.mem_of_getElem? (i := 5) rfl) dX5_at_15 dX5_at_18 dX5_at_19 dX5_at_21 dX5_at_24 hl.1 (Nat.le_of_ble_eq_true rfl) (Nat.le_of_ble_eq_true rfl) (Nat.le_of_ble_eq_true rfl) (Nat.le_of_ble_eq_true rfl) rfl hP9 hS9
set_option maxHeartbeats 4000000 in
set_option maxRecDepth 100000 in
theorem kX5_reach (l : Launch) (dC : Nat → ClassId) (dI : Nat → Nat → Nat) (B : Nat) (cI cC cJ : ClassId) (x : Nat) (r : Nat) (h : Nat) (hz : Nat) (w : Nat) (b : Nat) (o : Nat) (hk : Nat) (hn : Nat) (hu : Nat) (ks : Nat → Int32) (ns : Nat → Int32) (us : Nat → Int32) (sz : Nat) (wd : Nat) (dp : Nat → Int32) (p0 : Int32) (p1 : Int32) (p2 : Int32) (ok1 : Bool) (v1 : Int32) (dp1 : Nat → Int32) (hsz : sz ≤ 50) (hF : k_reach ks us sz dp p0 p1 p2 = (ok1, v1, dp1)) (hst : ∀ e : Env, l.admits e → e.platform.stackTraces = false) (sz9 : Nat) : xMet l yX5_reach wsX5_reach ({ frames := 6, cells := 1, slots := 6, locals := 119 }) (q_Xp (dC, dI) vwCl [.ref x, .int p0, .int p1, .int p2] [(x, .inr (5, [.ref r, .ref h, .ref hz, .ref w, .ref b, .ref o])), (h, .inr (1, [.ref hk, .ref hn, .ref hu, .int (nI sz)])), (hk, .inl (cI, 50, .inl ks)), (hn, .inl (cI, 50, .inl ns)), (hu, .inl (cI, 200, .inl us)), (w, .inr (4, [.ref wd])), (wd, .inl (cI, 16, .inl dp))] [(cI, .int), (cC, .char), (cJ, .long)] B sz9) (xQ (dC, dI) vwCl ok1 [(x, .inr (5, [.ref r, .ref h, .ref hz, .ref w, .ref b, .ref o])), (h, .inr (1, [.ref hk, .ref hn, .ref hu, .int (nI sz)])), (hk, .inl (cI, 50, .inl ks)), (hn, .inl (cI, 50, .inl ns)), (hu, .inl (cI, 200, .inl us)), (w, .inr (4, [.ref wd])), (wd, .inl (cI, 16, .inl dp1))] [(x, .inr (5, [.ref r, .ref h, .ref hz, .ref w, .ref b, .ref o])), (h, .inr (1, [.ref hk, .ref hn, .ref hu, .int (nI sz)])), (hk, .inl (cI, 50, .inl ks)), (hn, .inl (cI, 50, .inl ns)), (hu, .inl (cI, 200, .inl us)), (w, .inr (4, [.ref wd])), (wd, .inl (cI, 16, .inl dp))] (va_A [(x, .inr (5, [.ref r, .ref h, .ref hz, .ref w, .ref b, .ref o])), (h, .inr (1, [.ref hk, .ref hn, .ref hu, .int (nI sz)])), (hk, .inl (cI, 50, .inl ks)), (hn, .inl (cI, 50, .inl ns)), (hu, .inl (cI, 200, .inl us)), (w, .inr (4, [.ref wd])), (wd, .inl (cI, 16, .inl dp))] sz9) (some (.int v1)) "java/lang/IllegalArgumentException") 1 6 (va_A [(x, .inr (5, [.ref r, .ref h, .ref hz, .ref w, .ref b, .ref o])), (h, .inr (1, [.ref hk, .ref hn, .ref hu, .int (nI sz)])), (hk, .inl (cI, 50, .inl ks)), (hn, .inl (cI, 50, .inl ns)), (hu, .inl (cI, 200, .inl us)), (w, .inr (4, [.ref wd])), (wd, .inl (cI, 16, .inl dp))] sz9) := by
  refine xMet.ofW (cc := cX5_reach) (maxL := 4) (ret := (some .int)) (by decide) rfl ?_
  intro p e s m args below meth c s₁ Bd hml hv
  obtain ⟨⟨rfl, hsz9, hB, hP, hK, hD0, hT⟩, hX⟩ := hv
  have hx := Bd.exec
  have hb := Bd.bytes
  have hr := Bd.returns
  have hts := atoms_spec (ws := wsX5_reach) Bd.pre
  have hg : ∀ w ∈ lw_good, w.before _ s = true := fun w h => hts w (List.mem_cons_of_mem _ h)
  have hown : s.vm.findClass RX5 = some m.cls := findClass_of_methodNamed Bd.named
  have hlocks := Bd.notSynchronized
  subst hsz9
  have hD := hD0.self (sz := s.heap.size)
  generalize hAe : va_A [(x, .inr (5, [.ref r, .ref h, .ref hz, .ref w, .ref b, .ref o])), (h, .inr (1, [.ref hk, .ref hn, .ref hu, .int (nI sz)])), (hk, .inl (cI, 50, .inl ks)), (hn, .inl (cI, 50, .inl ns)), (hu, .inl (cI, 200, .inl us)), (w, .inr (4, [.ref wd])), (wd, .inl (cI, 16, .inl dp))] s.heap.size = A at hD ⊢
  have hA : ∀ q : Nat, s.heap.size ≤ q → A q := fun q h => by rw [← hAe]; exact Or.inr h
  have hAB : ∀ q, A q → B ≤ q := by rw [← hAe]; exact va_A.ge hD0 hB
  have hS : va_S A s.heap s.heap [] := va_S.rf
  have hP : va_P (dC, dI) vwCl [(x, .inr (5, [.ref r, .ref h, .ref hz, .ref w, .ref b, .ref o])), (h, .inr (1, [.ref hk, .ref hn, .ref hu, .int (nI sz)])), (hk, .inl (cI, 50, .inl ks)), (hn, .inl (cI, 50, .inl ns)), (hu, .inl (cI, 200, .inl us)), (w, .inr (4, [.ref wd])), (wd, .inl (cI, 16, .inl dp))] s.heap := hP
  have hl := lv_entry ([.ref x, .int p0, .int p1, .int p2]) (n := 4) (Nat.le_of_ble_eq_true rfl)
  rw [lg_entry_eq]
  generalize (lg_sl ([.ref x, .int p0, .int p1, .int p2]) ++ List.replicate (4 - (lg_sl ([.ref x, .int p0, .int p1, .int p2])).length) Slot.unset).toArray = ls at hl ⊢
  have hl : lv_has ls 4 [(0, .ref x), (1, .int p0), (2, .int p1), (3, .int p2)] := hl
  refine lv_iload_n hx hb dX5_reach_0 rfl (lv_at hl 1 rfl) ?_
  refine lv_if_eq (tgt := 19) hx hb dX5_reach_1 (by decide) (fun c_1 => ?_) (fun c_1 => ?_)
  · skip
    refine lv_iload_n hx hb dX5_reach_19 rfl (lv_at hl 2 rfl) ?_
    refine go_R (r := (bI (k_isPoint p1))) (va_runS (As := [.int p1]) (rest := []) ⟨hx, hb, hml, hown, hg⟩ (kX5_isPoint l dC dI B cI cC cJ p1) (va_cwS 1 hg (gi_S w_476 w_376 w_2 w_377) rfl rfl rfl (by decide +kernel) ⟨Nat.le_of_ble_eq_true rfl, Nat.le_of_ble_eq_true rfl⟩) (pre_RS (hP.sub [] rfl) hK hT) rfl rfl hl.1 rfl (lv_room (Nat.le_of_ble_eq_true rfl)) dX5_reach_20 ⟨Nat.le_of_ble_eq_true rfl, Nat.le_of_ble_eq_true rfl⟩) ?_
    refine lv_if_eq (tgt := 33) hx hb dX5_reach_23 (by decide) (fun c_2 => ?_) (fun c_2 => ?_)
    · skip
      have c_2 := bI_eq0 c_2
      have hP9 := hP
      have hS9 := hS
      have h9 : k_reach ks us sz dp p0 p1 p2 = (false, 0, dp) := by simp [k_reach, eq_true c_1, c_2]
      have h9 := hF.symm.trans h9
      cases h9
      exact x_thr (y := yX5_reach) hst hx hb hml hown hg Bd.named (hts _ List.mem_cons_self) hlocks hX hB hAB w_462 w_463 w_16 xi_o2 (by decide) (List.mem_of_getElem? (i := 4) rfl) dX5_reach_33 dX5_reach_36 dX5_reach_37 dX5_reach_39 dX5_reach_42 hl.1 (Nat.le_of_ble_eq_true rfl) (Nat.le_of_ble_eq_true rfl) (Nat.le_of_ble_eq_true rfl) (Nat.le_of_ble_eq_true rfl) rfl hP9 hS9
    · skip
      have c_2 := bI_ne0 c_2
      refine lv_iload_n hx hb dX5_reach_26 rfl (lv_at hl 3 rfl) ?_
      refine go_R (r := (bI (k_isPoint p2))) (va_runS (As := [.int p2]) (rest := []) ⟨hx, hb, hml, hown, hg⟩ (kX5_isPoint l dC dI B cI cC cJ p2) (va_cwS 1 hg (gi_S w_476 w_376 w_2 w_377) rfl rfl rfl (by decide +kernel) ⟨Nat.le_of_ble_eq_true rfl, Nat.le_of_ble_eq_true rfl⟩) (pre_RS (hP.sub [] rfl) hK hT) rfl rfl hl.1 rfl (lv_room (Nat.le_of_ble_eq_true rfl)) dX5_reach_27 ⟨Nat.le_of_ble_eq_true rfl, Nat.le_of_ble_eq_true rfl⟩) ?_
      refine lv_if_ne (tgt := 43) hx hb dX5_reach_30 (by decide) (fun c_3 => ?_) (fun c_3 => ?_)
      · skip
        have c_3 := bI_ne0 c_3
        refine lv_aload_n hx hb dX5_reach_43 rfl (lv_at hl 0 rfl) ?_
        refine va_get (D := (dC, dI)) (ci := 5) (v := .ref w) (C := RX5) (T := TX5) (N := 6) hx hb hg in_X5 hown hK hP 0 rfl rfl 3 (by decide) (hg _ w_106) (fun _ h9 => h9) rfl dX5_reach_44 ?_
        refine lv_aload_n hx hb dX5_reach_47 rfl (lv_at hl 0 rfl) ?_
        refine va_get (D := (dC, dI)) (ci := 5) (v := .ref h) (C := RX5) (T := TX5) (N := 6) hx hb hg in_X5 hown hK hP 0 rfl rfl 1 (by decide) (hg _ w_104) (fun _ h9 => h9) rfl dX5_reach_48 ?_
        refine lv_iload_n hx hb dX5_reach_51 rfl (lv_at hl 1 rfl) ?_
        refine lv_if_ne (tgt := 59) hx hb dX5_reach_52 (by decide) (fun c_4 => ?_) (fun c_4 => ?_)
        · skip
          exact absurd c_1 c_4
        · skip
          refine lv_iconst (v := 0) hx hb dX5_reach_55 (by decide) ?_
          refine lv_goto (tgt := 60) hx hb dX5_reach_56 (by decide) ?_
          refine lv_iload_n hx hb dX5_reach_60 rfl (lv_at hl 2 rfl) ?_
          obtain ⟨dp1_5, hF_5⟩ : ∃ (dp1_5 : Nat → Int32), k_spread ks us sz 0 p1 dp = dp1_5 := ⟨_, rfl⟩
          refine go_M (r := none) (wc' := [(w, .inr (4, [.ref wd])), (wd, .inl (cI, 16, .inl dp1_5)), (h, .inr (1, [.ref hk, .ref hn, .ref hu, .int (nI sz)])), (hk, .inl (cI, 50, .inl ks)), (hn, .inl (cI, 50, .inl ns)), (hu, .inl (cI, 200, .inl us))]) (w2 := [(x, .inr (5, [.ref r, .ref h, .ref hz, .ref w, .ref b, .ref o])), (h, .inr (1, [.ref hk, .ref hn, .ref hu, .int (nI sz)])), (hk, .inl (cI, 50, .inl ks)), (hn, .inl (cI, 50, .inl ns)), (hu, .inl (cI, 200, .inl us)), (w, .inr (4, [.ref wd])), (wd, .inl (cI, 16, .inl dp1_5))]) [5, 6, 1, 2, 3, 4] (va_runV (As := [.ref h, .int 0, .int p1]) (rest := []) ⟨hx, hb, hml, hown, hg⟩ (kX4_spread l dC dI B cI cC cJ w wd dp h hk hn hu ks ns us sz 0 p1 dp1_5 (by omega) hF_5 _) (cwV 3 hg (gi_V w_477 w_361 w_362 w_5 w_363) rfl rfl rfl (by decide +kernel) ⟨Nat.le_of_ble_eq_true rfl, Nat.le_of_ble_eq_true rfl⟩) (pre_MV (va_recv hK hP (ci := 4) (q0 := 5) rfl rfl) (Nat.le_trans hB hS.1) (hP.sub [5, 6, 1, 2, 3, 4] rfl) hK ((hD.weaken (fun _ _ _ h => hAB _ h)).sub [5, 6, 1, 2, 3, 4] (by decide) rfl) hT) rfl rfl hl.1 rfl (lv_room (Nat.le_of_ble_eq_true rfl)) dX5_reach_61 ⟨Nat.le_of_ble_eq_true rfl, Nat.le_of_ble_eq_true rfl⟩) hP hD hS hA rfl (Nat.le_of_ble_eq_true rfl) rfl rfl (fun H locs hP hD hS => ?_)
          refine W.eq (g2 := F0 m 64 ls []) rfl ?_
          refine lv_aload_n hx hb dX5_reach_64 rfl (lv_at hl 0 rfl) ?_
          refine va_get (D := (dC, dI)) (ci := 5) (v := .ref w) (C := RX5) (T := TX5) (N := 6) hx hb hg in_X5 hown hK hP 0 rfl rfl 3 (by decide) (hg _ w_106) (fun _ h9 => h9) rfl dX5_reach_65 ?_
          refine lv_iload_n hx hb dX5_reach_68 rfl (lv_at hl 3 rfl) ?_
          refine go_R (r := k_depthAt dp1_5 p2) (va_runV (As := [.int p2]) (rest := []) ⟨hx, hb, hml, hown, hg⟩ (kX4_depthAt l dC dI B cI cC cJ w wd dp1_5 p2) (cwV 1 hg (gi_V w_478 w_395 w_396 w_5 w_397) rfl rfl rfl (by decide +kernel) ⟨Nat.le_of_ble_eq_true rfl, Nat.le_of_ble_eq_true rfl⟩) (pre_RV (va_recv hK hP (ci := 4) (q0 := 5) rfl rfl) (hP.sub [5, 6] rfl) hK (hT.kept (hS.mono hAB))) rfl rfl hl.1 rfl (lv_room (Nat.le_of_ble_eq_true rfl)) dX5_reach_69 ⟨Nat.le_of_ble_eq_true rfl, Nat.le_of_ble_eq_true rfl⟩) ?_
          refine lv_if_le (tgt := 79) hx hb dX5_reach_72 (by decide) (fun c_6 => ?_) (fun c_6 => ?_)
          · skip
            refine lv_iconst (v := 0) hx hb dX5_reach_79 (by decide) ?_
            have hP9 := hP
            have hS9 := hS
            have h9 : k_reach ks us sz dp p0 p1 p2 = (true, 0, dp1_5) := by simp [k_reach, eq_true c_1, c_2, c_3, hF_5, c_6]
            have h9 := hF.symm.trans h9
            cases h9
            exact x_ret (Nat.zero_le _) (Nat.zero_le _) (W.iret hx hb hr (fun t ht hW => ⟨hS9.F ht, Or.inl ⟨rfl, rfl, by rw [ht]; exact hP9⟩⟩) hS9.2.2 dX5_reach_80)
          · skip
            refine lv_iconst (v := 1) hx hb dX5_reach_75 (by decide) ?_
            refine lv_goto (tgt := 80) hx hb dX5_reach_76 (by decide) ?_
            have hP9 := hP
            have hS9 := hS
            have h9 : k_reach ks us sz dp p0 p1 p2 = (true, 1, dp1_5) := by simp [k_reach, eq_true c_1, c_2, c_3, hF_5, c_6]
            have h9 := hF.symm.trans h9
            cases h9
            exact x_ret (Nat.zero_le _) (Nat.zero_le _) (W.iret hx hb hr (fun t ht hW => ⟨hS9.F ht, Or.inl ⟨rfl, rfl, by rw [ht]; exact hP9⟩⟩) hS9.2.2 dX5_reach_80)
      · skip
        have c_3 := bI_eq0 c_3
        have hP9 := hP
        have hS9 := hS
        have h9 : k_reach ks us sz dp p0 p1 p2 = (false, 0, dp) := by simp [k_reach, eq_true c_1, c_2, c_3]
        have h9 := hF.symm.trans h9
        cases h9
        exact x_thr (y := yX5_reach) hst hx hb hml hown hg Bd.named (hts _ List.mem_cons_self) hlocks hX hB hAB w_462 w_463 w_16 xi_o2 (by decide) (List.mem_of_getElem? (i := 4) rfl) dX5_reach_33 dX5_reach_36 dX5_reach_37 dX5_reach_39 dX5_reach_42 hl.1 (Nat.le_of_ble_eq_true rfl) (Nat.le_of_ble_eq_true rfl) (Nat.le_of_ble_eq_true rfl) (Nat.le_of_ble_eq_true rfl) rfl hP9 hS9
  · skip
    refine lv_iload_n hx hb dX5_reach_4 rfl (lv_at hl 1 rfl) ?_
    refine lv_iconst (v := 1) hx hb dX5_reach_5 (by decide) ?_
    refine lv_icmp_eq (tgt := 19) hx hb dX5_reach_6 (by decide) (fun c_7 => ?_) (fun c_7 => ?_)
    · skip
      refine lv_iload_n hx hb dX5_reach_19 rfl (lv_at hl 2 rfl) ?_
      refine go_R (r := (bI (k_isPoint p1))) (va_runS (As := [.int p1]) (rest := []) ⟨hx, hb, hml, hown, hg⟩ (kX5_isPoint l dC dI B cI cC cJ p1) (va_cwS 1 hg (gi_S w_476 w_376 w_2 w_377) rfl rfl rfl (by decide +kernel) ⟨Nat.le_of_ble_eq_true rfl, Nat.le_of_ble_eq_true rfl⟩) (pre_RS (hP.sub [] rfl) hK hT) rfl rfl hl.1 rfl (lv_room (Nat.le_of_ble_eq_true rfl)) dX5_reach_20 ⟨Nat.le_of_ble_eq_true rfl, Nat.le_of_ble_eq_true rfl⟩) ?_
      refine lv_if_eq (tgt := 33) hx hb dX5_reach_23 (by decide) (fun c_8 => ?_) (fun c_8 => ?_)
      · skip
        have c_8 := bI_eq0 c_8
        have hP9 := hP
        have hS9 := hS
        have h9 : k_reach ks us sz dp p0 p1 p2 = (false, 0, dp) := by simp [k_reach, c_1, eq_true c_7, c_8]
        have h9 := hF.symm.trans h9
        cases h9
        exact x_thr (y := yX5_reach) hst hx hb hml hown hg Bd.named (hts _ List.mem_cons_self) hlocks hX hB hAB w_462 w_463 w_16 xi_o2 (by decide) (List.mem_of_getElem? (i := 4) rfl) dX5_reach_33 dX5_reach_36 dX5_reach_37 dX5_reach_39 dX5_reach_42 hl.1 (Nat.le_of_ble_eq_true rfl) (Nat.le_of_ble_eq_true rfl) (Nat.le_of_ble_eq_true rfl) (Nat.le_of_ble_eq_true rfl) rfl hP9 hS9
      · skip
        have c_8 := bI_ne0 c_8
        refine lv_iload_n hx hb dX5_reach_26 rfl (lv_at hl 3 rfl) ?_
        refine go_R (r := (bI (k_isPoint p2))) (va_runS (As := [.int p2]) (rest := []) ⟨hx, hb, hml, hown, hg⟩ (kX5_isPoint l dC dI B cI cC cJ p2) (va_cwS 1 hg (gi_S w_476 w_376 w_2 w_377) rfl rfl rfl (by decide +kernel) ⟨Nat.le_of_ble_eq_true rfl, Nat.le_of_ble_eq_true rfl⟩) (pre_RS (hP.sub [] rfl) hK hT) rfl rfl hl.1 rfl (lv_room (Nat.le_of_ble_eq_true rfl)) dX5_reach_27 ⟨Nat.le_of_ble_eq_true rfl, Nat.le_of_ble_eq_true rfl⟩) ?_
        refine lv_if_ne (tgt := 43) hx hb dX5_reach_30 (by decide) (fun c_9 => ?_) (fun c_9 => ?_)
        · skip
          have c_9 := bI_ne0 c_9
          refine lv_aload_n hx hb dX5_reach_43 rfl (lv_at hl 0 rfl) ?_
          refine va_get (D := (dC, dI)) (ci := 5) (v := .ref w) (C := RX5) (T := TX5) (N := 6) hx hb hg in_X5 hown hK hP 0 rfl rfl 3 (by decide) (hg _ w_106) (fun _ h9 => h9) rfl dX5_reach_44 ?_
          refine lv_aload_n hx hb dX5_reach_47 rfl (lv_at hl 0 rfl) ?_
          refine va_get (D := (dC, dI)) (ci := 5) (v := .ref h) (C := RX5) (T := TX5) (N := 6) hx hb hg in_X5 hown hK hP 0 rfl rfl 1 (by decide) (hg _ w_104) (fun _ h9 => h9) rfl dX5_reach_48 ?_
          refine lv_iload_n hx hb dX5_reach_51 rfl (lv_at hl 1 rfl) ?_
          refine lv_if_ne (tgt := 59) hx hb dX5_reach_52 (by decide) (fun c_10 => ?_) (fun c_10 => ?_)
          · skip
            refine lv_iconst (v := 4) hx hb dX5_reach_59 (by decide) ?_
            refine lv_iload_n hx hb dX5_reach_60 rfl (lv_at hl 2 rfl) ?_
            obtain ⟨dp1_11, hF_11⟩ : ∃ (dp1_11 : Nat → Int32), k_spread ks us sz 4 p1 dp = dp1_11 := ⟨_, rfl⟩
            refine go_M (r := none) (wc' := [(w, .inr (4, [.ref wd])), (wd, .inl (cI, 16, .inl dp1_11)), (h, .inr (1, [.ref hk, .ref hn, .ref hu, .int (nI sz)])), (hk, .inl (cI, 50, .inl ks)), (hn, .inl (cI, 50, .inl ns)), (hu, .inl (cI, 200, .inl us))]) (w2 := [(x, .inr (5, [.ref r, .ref h, .ref hz, .ref w, .ref b, .ref o])), (h, .inr (1, [.ref hk, .ref hn, .ref hu, .int (nI sz)])), (hk, .inl (cI, 50, .inl ks)), (hn, .inl (cI, 50, .inl ns)), (hu, .inl (cI, 200, .inl us)), (w, .inr (4, [.ref wd])), (wd, .inl (cI, 16, .inl dp1_11))]) [5, 6, 1, 2, 3, 4] (va_runV (As := [.ref h, .int 4, .int p1]) (rest := []) ⟨hx, hb, hml, hown, hg⟩ (kX4_spread l dC dI B cI cC cJ w wd dp h hk hn hu ks ns us sz 4 p1 dp1_11 (by omega) hF_11 _) (cwV 3 hg (gi_V w_477 w_361 w_362 w_5 w_363) rfl rfl rfl (by decide +kernel) ⟨Nat.le_of_ble_eq_true rfl, Nat.le_of_ble_eq_true rfl⟩) (pre_MV (va_recv hK hP (ci := 4) (q0 := 5) rfl rfl) (Nat.le_trans hB hS.1) (hP.sub [5, 6, 1, 2, 3, 4] rfl) hK ((hD.weaken (fun _ _ _ h => hAB _ h)).sub [5, 6, 1, 2, 3, 4] (by decide) rfl) hT) rfl rfl hl.1 rfl (lv_room (Nat.le_of_ble_eq_true rfl)) dX5_reach_61 ⟨Nat.le_of_ble_eq_true rfl, Nat.le_of_ble_eq_true rfl⟩) hP hD hS hA rfl (Nat.le_of_ble_eq_true rfl) rfl rfl (fun H locs hP hD hS => ?_)
            refine W.eq (g2 := F0 m 64 ls []) rfl ?_
            refine lv_aload_n hx hb dX5_reach_64 rfl (lv_at hl 0 rfl) ?_
            refine va_get (D := (dC, dI)) (ci := 5) (v := .ref w) (C := RX5) (T := TX5) (N := 6) hx hb hg in_X5 hown hK hP 0 rfl rfl 3 (by decide) (hg _ w_106) (fun _ h9 => h9) rfl dX5_reach_65 ?_
            refine lv_iload_n hx hb dX5_reach_68 rfl (lv_at hl 3 rfl) ?_
            refine go_R (r := k_depthAt dp1_11 p2) (va_runV (As := [.int p2]) (rest := []) ⟨hx, hb, hml, hown, hg⟩ (kX4_depthAt l dC dI B cI cC cJ w wd dp1_11 p2) (cwV 1 hg (gi_V w_478 w_395 w_396 w_5 w_397) rfl rfl rfl (by decide +kernel) ⟨Nat.le_of_ble_eq_true rfl, Nat.le_of_ble_eq_true rfl⟩) (pre_RV (va_recv hK hP (ci := 4) (q0 := 5) rfl rfl) (hP.sub [5, 6] rfl) hK (hT.kept (hS.mono hAB))) rfl rfl hl.1 rfl (lv_room (Nat.le_of_ble_eq_true rfl)) dX5_reach_69 ⟨Nat.le_of_ble_eq_true rfl, Nat.le_of_ble_eq_true rfl⟩) ?_
            refine lv_if_le (tgt := 79) hx hb dX5_reach_72 (by decide) (fun c_12 => ?_) (fun c_12 => ?_)
            · skip
              refine lv_iconst (v := 0) hx hb dX5_reach_79 (by decide) ?_
              have hP9 := hP
              have hS9 := hS
              have h9 : k_reach ks us sz dp p0 p1 p2 = (true, 0, dp1_11) := by simp [k_reach, c_1, eq_true c_7, c_8, c_9, hF_11, c_12]
              have h9 := hF.symm.trans h9
              cases h9
              exact x_ret (Nat.zero_le _) (Nat.zero_le _) (W.iret hx hb hr (fun t ht hW => ⟨hS9.F ht, Or.inl ⟨rfl, rfl, by rw [ht]; exact hP9⟩⟩) hS9.2.2 dX5_reach_80)
            · skip
              refine lv_iconst (v := 1) hx hb dX5_reach_75 (by decide) ?_
              refine lv_goto (tgt := 80) hx hb dX5_reach_76 (by decide) ?_
              have hP9 := hP
              have hS9 := hS
              have h9 : k_reach ks us sz dp p0 p1 p2 = (true, 1, dp1_11) := by simp [k_reach, c_1, eq_true c_7, c_8, c_9, hF_11, c_12]
              have h9 := hF.symm.trans h9
              cases h9
              exact x_ret (Nat.zero_le _) (Nat.zero_le _) (W.iret hx hb hr (fun t ht hW => ⟨hS9.F ht, Or.inl ⟨rfl, rfl, by rw [ht]; exact hP9⟩⟩) hS9.2.2 dX5_reach_80)
          · skip
            exact absurd c_10 c_1
        · skip
          have c_9 := bI_eq0 c_9
          have hP9 := hP
          have hS9 := hS
          have h9 : k_reach ks us sz dp p0 p1 p2 = (false, 0, dp) := by simp [k_reach, c_1, eq_true c_7, c_8, c_9]
          have h9 := hF.symm.trans h9
          cases h9
          exact x_thr (y := yX5_reach) hst hx hb hml hown hg Bd.named (hts _ List.mem_cons_self) hlocks hX hB hAB w_462 w_463 w_16 xi_o2 (by decide) (List.mem_of_getElem? (i := 4) rfl) dX5_reach_33 dX5_reach_36 dX5_reach_37 dX5_reach_39 dX5_reach_42 hl.1 (Nat.le_of_ble_eq_true rfl) (Nat.le_of_ble_eq_true rfl) (Nat.le_of_ble_eq_true rfl) (Nat.le_of_ble_eq_true rfl) rfl hP9 hS9
    · skip
      have hP9 := hP
      have hS9 := hS
      have h9 : k_reach ks us sz dp p0 p1 p2 = (false, 0, dp) := by simp [k_reach, c_1, c_7]
      have h9 := hF.symm.trans h9
      cases h9
      exact x_thr (y := yX5_reach) hst hx hb hml hown hg Bd.named (hts _ List.mem_cons_self) hlocks hX hB hAB w_462 w_463 w_16 xi_o2 (by decide) (List.mem_of_getElem? (i := 3) rfl) dX5_reach_9 dX5_reach_12 dX5_reach_13 dX5_reach_15 dX5_reach_18 hl.1 (Nat.le_of_ble_eq_true rfl) (Nat.le_of_ble_eq_true rfl) (Nat.le_of_ble_eq_true rfl) (Nat.le_of_ble_eq_true rfl) rfl hP9 hS9
set_option maxHeartbeats 4000000 in
set_option maxRecDepth 100000 in
theorem kX5_deep (l : Launch) (dC : Nat → ClassId) (dI : Nat → Nat → Nat) (B : Nat) (cI cC cJ : ClassId) (x : Nat) (r : Nat) (h : Nat) (hz : Nat) (w : Nat) (b : Nat) (o : Nat) (hk : Nat) (hn : Nat) (hu : Nat) (ks : Nat → Int32) (ns : Nat → Int32) (us : Nat → Int32) (sz : Nat) (wd : Nat) (dp : Nat → Int32) (p0 : Int32) (p1 : Int32) (ok1 : Bool) (v1 : Int32) (dp1 : Nat → Int32) (hsz : sz ≤ 50) (hF : k_deep ks us sz dp p0 p1 = (ok1, v1, dp1)) (hst : ∀ e : Env, l.admits e → e.platform.stackTraces = false) (sz9 : Nat) : xMet l yX5_deep wsX5_deep ({ frames := 6, cells := 1, slots := 6, locals := 119 }) (q_Xp (dC, dI) vwCl [.ref x, .int p0, .int p1] [(x, .inr (5, [.ref r, .ref h, .ref hz, .ref w, .ref b, .ref o])), (h, .inr (1, [.ref hk, .ref hn, .ref hu, .int (nI sz)])), (hk, .inl (cI, 50, .inl ks)), (hn, .inl (cI, 50, .inl ns)), (hu, .inl (cI, 200, .inl us)), (w, .inr (4, [.ref wd])), (wd, .inl (cI, 16, .inl dp))] [(cI, .int), (cC, .char), (cJ, .long)] B sz9) (xQ (dC, dI) vwCl ok1 [(x, .inr (5, [.ref r, .ref h, .ref hz, .ref w, .ref b, .ref o])), (h, .inr (1, [.ref hk, .ref hn, .ref hu, .int (nI sz)])), (hk, .inl (cI, 50, .inl ks)), (hn, .inl (cI, 50, .inl ns)), (hu, .inl (cI, 200, .inl us)), (w, .inr (4, [.ref wd])), (wd, .inl (cI, 16, .inl dp1))] [(x, .inr (5, [.ref r, .ref h, .ref hz, .ref w, .ref b, .ref o])), (h, .inr (1, [.ref hk, .ref hn, .ref hu, .int (nI sz)])), (hk, .inl (cI, 50, .inl ks)), (hn, .inl (cI, 50, .inl ns)), (hu, .inl (cI, 200, .inl us)), (w, .inr (4, [.ref wd])), (wd, .inl (cI, 16, .inl dp))] (va_A [(x, .inr (5, [.ref r, .ref h, .ref hz, .ref w, .ref b, .ref o])), (h, .inr (1, [.ref hk, .ref hn, .ref hu, .int (nI sz)])), (hk, .inl (cI, 50, .inl ks)), (hn, .inl (cI, 50, .inl ns)), (hu, .inl (cI, 200, .inl us)), (w, .inr (4, [.ref wd])), (wd, .inl (cI, 16, .inl dp))] sz9) (some (.int v1)) "java/lang/IllegalArgumentException") 1 6 (va_A [(x, .inr (5, [.ref r, .ref h, .ref hz, .ref w, .ref b, .ref o])), (h, .inr (1, [.ref hk, .ref hn, .ref hu, .int (nI sz)])), (hk, .inl (cI, 50, .inl ks)), (hn, .inl (cI, 50, .inl ns)), (hu, .inl (cI, 200, .inl us)), (w, .inr (4, [.ref wd])), (wd, .inl (cI, 16, .inl dp))] sz9) := by
  refine xMet.ofW (cc := cX5_deep) (maxL := 3) (ret := (some .int)) (by decide) rfl ?_
  intro p e s m args below meth c s₁ Bd hml hv
  obtain ⟨⟨rfl, hsz9, hB, hP, hK, hD0, hT⟩, hX⟩ := hv
  have hx := Bd.exec
  have hb := Bd.bytes
  have hr := Bd.returns
  have hts := atoms_spec (ws := wsX5_deep) Bd.pre
  have hg : ∀ w ∈ lw_good, w.before _ s = true := fun w h => hts w (List.mem_cons_of_mem _ h)
  have hown : s.vm.findClass RX5 = some m.cls := findClass_of_methodNamed Bd.named
  have hlocks := Bd.notSynchronized
  subst hsz9
  have hD := hD0.self (sz := s.heap.size)
  generalize hAe : va_A [(x, .inr (5, [.ref r, .ref h, .ref hz, .ref w, .ref b, .ref o])), (h, .inr (1, [.ref hk, .ref hn, .ref hu, .int (nI sz)])), (hk, .inl (cI, 50, .inl ks)), (hn, .inl (cI, 50, .inl ns)), (hu, .inl (cI, 200, .inl us)), (w, .inr (4, [.ref wd])), (wd, .inl (cI, 16, .inl dp))] s.heap.size = A at hD ⊢
  have hA : ∀ q : Nat, s.heap.size ≤ q → A q := fun q h => by rw [← hAe]; exact Or.inr h
  have hAB : ∀ q, A q → B ≤ q := by rw [← hAe]; exact va_A.ge hD0 hB
  have hS : va_S A s.heap s.heap [] := va_S.rf
  have hP : va_P (dC, dI) vwCl [(x, .inr (5, [.ref r, .ref h, .ref hz, .ref w, .ref b, .ref o])), (h, .inr (1, [.ref hk, .ref hn, .ref hu, .int (nI sz)])), (hk, .inl (cI, 50, .inl ks)), (hn, .inl (cI, 50, .inl ns)), (hu, .inl (cI, 200, .inl us)), (w, .inr (4, [.ref wd])), (wd, .inl (cI, 16, .inl dp))] s.heap := hP
  have hl := lv_entry ([.ref x, .int p0, .int p1]) (n := 3) (Nat.le_of_ble_eq_true rfl)
  rw [lg_entry_eq]
  generalize (lg_sl ([.ref x, .int p0, .int p1]) ++ List.replicate (3 - (lg_sl ([.ref x, .int p0, .int p1])).length) Slot.unset).toArray = ls at hl ⊢
  have hl : lv_has ls 3 [(0, .ref x), (1, .int p0), (2, .int p1)] := hl
  refine lv_iload_n hx hb dX5_deep_0 rfl (lv_at hl 1 rfl) ?_
  refine go_R (r := (bI (k_isPoint p0))) (va_runS (As := [.int p0]) (rest := []) ⟨hx, hb, hml, hown, hg⟩ (kX5_isPoint l dC dI B cI cC cJ p0) (va_cwS 1 hg (gi_S w_476 w_376 w_2 w_377) rfl rfl rfl (by decide +kernel) ⟨Nat.le_of_ble_eq_true rfl, Nat.le_of_ble_eq_true rfl⟩) (pre_RS (hP.sub [] rfl) hK hT) rfl rfl hl.1 rfl (lv_room (Nat.le_of_ble_eq_true rfl)) dX5_deep_1 ⟨Nat.le_of_ble_eq_true rfl, Nat.le_of_ble_eq_true rfl⟩) ?_
  refine lv_if_eq (tgt := 14) hx hb dX5_deep_4 (by decide) (fun c_1 => ?_) (fun c_1 => ?_)
  · skip
    have c_1 := bI_eq0 c_1
    have hP9 := hP
    have hS9 := hS
    have h9 : k_deep ks us sz dp p0 p1 = (false, 0, dp) := by simp [k_deep, c_1]
    have h9 := hF.symm.trans h9
    cases h9
    exact x_thr (y := yX5_deep) hst hx hb hml hown hg Bd.named (hts _ List.mem_cons_self) hlocks hX hB hAB w_462 w_463 w_16 xi_o2 (by decide) (List.mem_of_getElem? (i := 4) rfl) dX5_deep_14 dX5_deep_17 dX5_deep_18 dX5_deep_20 dX5_deep_23 hl.1 (Nat.le_of_ble_eq_true rfl) (Nat.le_of_ble_eq_true rfl) (Nat.le_of_ble_eq_true rfl) (Nat.le_of_ble_eq_true rfl) rfl hP9 hS9
  · skip
    have c_1 := bI_ne0 c_1
    refine lv_iload_n hx hb dX5_deep_7 rfl (lv_at hl 2 rfl) ?_
    refine go_R (r := (bI (k_isPoint p1))) (va_runS (As := [.int p1]) (rest := []) ⟨hx, hb, hml, hown, hg⟩ (kX5_isPoint l dC dI B cI cC cJ p1) (va_cwS 1 hg (gi_S w_476 w_376 w_2 w_377) rfl rfl rfl (by decide +kernel) ⟨Nat.le_of_ble_eq_true rfl, Nat.le_of_ble_eq_true rfl⟩) (pre_RS (hP.sub [] rfl) hK hT) rfl rfl hl.1 rfl (lv_room (Nat.le_of_ble_eq_true rfl)) dX5_deep_8 ⟨Nat.le_of_ble_eq_true rfl, Nat.le_of_ble_eq_true rfl⟩) ?_
    refine lv_if_ne (tgt := 24) hx hb dX5_deep_11 (by decide) (fun c_2 => ?_) (fun c_2 => ?_)
    · skip
      have c_2 := bI_ne0 c_2
      refine lv_aload_n hx hb dX5_deep_24 rfl (lv_at hl 0 rfl) ?_
      refine va_get (D := (dC, dI)) (ci := 5) (v := .ref w) (C := RX5) (T := TX5) (N := 6) hx hb hg in_X5 hown hK hP 0 rfl rfl 3 (by decide) (hg _ w_106) (fun _ h9 => h9) rfl dX5_deep_25 ?_
      refine lv_aload_n hx hb dX5_deep_28 rfl (lv_at hl 0 rfl) ?_
      refine va_get (D := (dC, dI)) (ci := 5) (v := .ref h) (C := RX5) (T := TX5) (N := 6) hx hb hg in_X5 hown hK hP 0 rfl rfl 1 (by decide) (hg _ w_104) (fun _ h9 => h9) rfl dX5_deep_29 ?_
      refine lv_iconst (v := 0) hx hb dX5_deep_32 (by decide) ?_
      refine lv_iload_n hx hb dX5_deep_33 rfl (lv_at hl 1 rfl) ?_
      obtain ⟨dp1_3, hF_3⟩ : ∃ (dp1_3 : Nat → Int32), k_spread ks us sz 0 p0 dp = dp1_3 := ⟨_, rfl⟩
      refine go_M (r := none) (wc' := [(w, .inr (4, [.ref wd])), (wd, .inl (cI, 16, .inl dp1_3)), (h, .inr (1, [.ref hk, .ref hn, .ref hu, .int (nI sz)])), (hk, .inl (cI, 50, .inl ks)), (hn, .inl (cI, 50, .inl ns)), (hu, .inl (cI, 200, .inl us))]) (w2 := [(x, .inr (5, [.ref r, .ref h, .ref hz, .ref w, .ref b, .ref o])), (h, .inr (1, [.ref hk, .ref hn, .ref hu, .int (nI sz)])), (hk, .inl (cI, 50, .inl ks)), (hn, .inl (cI, 50, .inl ns)), (hu, .inl (cI, 200, .inl us)), (w, .inr (4, [.ref wd])), (wd, .inl (cI, 16, .inl dp1_3))]) [5, 6, 1, 2, 3, 4] (va_runV (As := [.ref h, .int 0, .int p0]) (rest := []) ⟨hx, hb, hml, hown, hg⟩ (kX4_spread l dC dI B cI cC cJ w wd dp h hk hn hu ks ns us sz 0 p0 dp1_3 (by omega) hF_3 _) (cwV 3 hg (gi_V w_477 w_361 w_362 w_5 w_363) rfl rfl rfl (by decide +kernel) ⟨Nat.le_of_ble_eq_true rfl, Nat.le_of_ble_eq_true rfl⟩) (pre_MV (va_recv hK hP (ci := 4) (q0 := 5) rfl rfl) (Nat.le_trans hB hS.1) (hP.sub [5, 6, 1, 2, 3, 4] rfl) hK ((hD.weaken (fun _ _ _ h => hAB _ h)).sub [5, 6, 1, 2, 3, 4] (by decide) rfl) hT) rfl rfl hl.1 rfl (lv_room (Nat.le_of_ble_eq_true rfl)) dX5_deep_34 ⟨Nat.le_of_ble_eq_true rfl, Nat.le_of_ble_eq_true rfl⟩) hP hD hS hA rfl (Nat.le_of_ble_eq_true rfl) rfl rfl (fun H locs hP hD hS => ?_)
      refine W.eq (g2 := F0 m 37 ls []) rfl ?_
      refine lv_aload_n hx hb dX5_deep_37 rfl (lv_at hl 0 rfl) ?_
      refine va_get (D := (dC, dI)) (ci := 5) (v := .ref w) (C := RX5) (T := TX5) (N := 6) hx hb hg in_X5 hown hK hP 0 rfl rfl 3 (by decide) (hg _ w_106) (fun _ h9 => h9) rfl dX5_deep_38 ?_
      refine lv_iload_n hx hb dX5_deep_41 rfl (lv_at hl 2 rfl) ?_
      refine go_R (r := k_depthAt dp1_3 p1) (va_runV (As := [.int p1]) (rest := []) ⟨hx, hb, hml, hown, hg⟩ (kX4_depthAt l dC dI B cI cC cJ w wd dp1_3 p1) (cwV 1 hg (gi_V w_478 w_395 w_396 w_5 w_397) rfl rfl rfl (by decide +kernel) ⟨Nat.le_of_ble_eq_true rfl, Nat.le_of_ble_eq_true rfl⟩) (pre_RV (va_recv hK hP (ci := 4) (q0 := 5) rfl rfl) (hP.sub [5, 6] rfl) hK (hT.kept (hS.mono hAB))) rfl rfl hl.1 rfl (lv_room (Nat.le_of_ble_eq_true rfl)) dX5_deep_42 ⟨Nat.le_of_ble_eq_true rfl, Nat.le_of_ble_eq_true rfl⟩) ?_
      have hP9 := hP
      have hS9 := hS
      have h9 : k_deep ks us sz dp p0 p1 = (true, k_depthAt dp1_3 p1, dp1_3) := by simp [k_deep, c_1, c_2, hF_3]
      have h9 := hF.symm.trans h9
      cases h9
      exact x_ret (Nat.zero_le _) (Nat.zero_le _) (W.iret hx hb hr (fun t ht hW => ⟨hS9.F ht, Or.inl ⟨rfl, rfl, by rw [ht]; exact hP9⟩⟩) hS9.2.2 dX5_deep_45)
    · skip
      have c_2 := bI_eq0 c_2
      have hP9 := hP
      have hS9 := hS
      have h9 : k_deep ks us sz dp p0 p1 = (false, 0, dp) := by simp [k_deep, c_1, c_2]
      have h9 := hF.symm.trans h9
      cases h9
      exact x_thr (y := yX5_deep) hst hx hb hml hown hg Bd.named (hts _ List.mem_cons_self) hlocks hX hB hAB w_462 w_463 w_16 xi_o2 (by decide) (List.mem_of_getElem? (i := 4) rfl) dX5_deep_14 dX5_deep_17 dX5_deep_18 dX5_deep_20 dX5_deep_23 hl.1 (Nat.le_of_ble_eq_true rfl) (Nat.le_of_ble_eq_true rfl) (Nat.le_of_ble_eq_true rfl) (Nat.le_of_ble_eq_true rfl) rfl hP9 hS9
set_option maxHeartbeats 4000000 in
set_option maxRecDepth 100000 in
theorem kX5_read (l : Launch) (dC : Nat → ClassId) (dI : Nat → Nat → Nat) (B : Nat) (cI cC cJ : ClassId) (x : Nat) (r : Nat) (h : Nat) (hz : Nat) (w : Nat) (b : Nat) (o : Nat) (rs : Nat) (hd : Nat) (sg : Nat → Int32) (len : Nat) (pl : Nat) (fn : Int32) (fp : Int32) (hkd : Nat) (hnd : Nat) (hud : Nat) (ksd : Nat → Int32) (nsd : Nat → Int32) (usd : Nat → Int32) (szd : Nat) (hk : Nat) (hn : Nat) (hu : Nat) (ks : Nat → Int32) (ns : Nat → Int32) (us : Nat → Int32) (sz : Nat) (wd : Nat) (dp : Nat → Int32) (be : Nat) (en : Nat → Int32) (bn : Nat) (os : Nat) (ot : Nat → Int32) (ol : Nat) (ok1 : Bool) (ks1 : Nat → Int32) (ns1 : Nat → Int32) (us1 : Nat → Int32) (sz1 : Nat) (pl1 : Nat) (fn1 : Int32) (fp1 : Int32) (dp1 : Nat → Int32) (en1 : Nat → Int32) (bn1 : Nat) (ot1 : Nat → Int32) (ol1 : Nat) (hlen : len ≤ 500) (hpl : pl ≤ 501) (hszd : szd ≤ 50) (hsz : sz ≤ 50) (hbn : bn ≤ 100) (hol : ol ≤ 500) (hF : k_readX sg len ksd nsd usd dp en bn ot ol = (ok1, ks1, ns1, us1, sz1, pl1, fn1, fp1, dp1, en1, bn1, ot1, ol1)) (hst : ∀ e : Env, l.admits e → e.platform.stackTraces = false) (sz9 : Nat) : xMet l yX5_read wsX5_read ({ frames := 6, cells := 1, slots := 6, locals := 142 }) (q_Xp (dC, dI) vwCl [.ref x] [(x, .inr (5, [.ref r, .ref h, .ref hz, .ref w, .ref b, .ref o])), (r, .inr (3, [.ref rs, .ref hd, .int (nI len), .int (nI pl), .int fn, .int fp])), (rs, .inl (cC, 500, .inl sg)), (hd, .inr (1, [.ref hkd, .ref hnd, .ref hud, .int (nI szd)])), (hkd, .inl (cI, 50, .inl ksd)), (hnd, .inl (cI, 50, .inl nsd)), (hud, .inl (cI, 200, .inl usd)), (h, .inr (1, [.ref hk, .ref hn, .ref hu, .int (nI sz)])), (hk, .inl (cI, 50, .inl ks)), (hn, .inl (cI, 50, .inl ns)), (hu, .inl (cI, 200, .inl us)), (w, .inr (4, [.ref wd])), (wd, .inl (cI, 16, .inl dp)), (b, .inr (0, [.ref be, .int (nI bn)])), (be, .inl (cI, 100, .inl en)), (o, .inr (2, [.ref os, .int (nI ol)])), (os, .inl (cC, 500, .inl ot))] [(cI, .int), (cC, .char), (cJ, .long)] B sz9) (xQ (dC, dI) vwCl ok1 [(x, .inr (5, [.ref r, .ref h, .ref hz, .ref w, .ref b, .ref o])), (r, .inr (3, [.ref rs, .ref hd, .int (nI 0), .int (nI pl1), .int fn1, .int fp1])), (rs, .inl (cC, 500, .inl sg)), (hd, .inr (1, [.ref hkd, .ref hnd, .ref hud, .int (nI sz1)])), (hkd, .inl (cI, 50, .inl ks1)), (hnd, .inl (cI, 50, .inl ns1)), (hud, .inl (cI, 200, .inl us1)), (h, .inr (1, [.ref hk, .ref hn, .ref hu, .int (nI sz1)])), (hk, .inl (cI, 50, .inl ks1)), (hn, .inl (cI, 50, .inl ns1)), (hu, .inl (cI, 200, .inl us1)), (w, .inr (4, [.ref wd])), (wd, .inl (cI, 16, .inl dp1)), (b, .inr (0, [.ref be, .int (nI bn1)])), (be, .inl (cI, 100, .inl en1)), (o, .inr (2, [.ref os, .int (nI ol1)])), (os, .inl (cC, 500, .inl ot1))] [(x, .inr (5, [.ref r, .ref h, .ref hz, .ref w, .ref b, .ref o])), (r, .inr (3, [.ref rs, .ref hd, .int (nI 0), .int (nI pl1), .int fn1, .int fp1])), (rs, .inl (cC, 500, .inl sg)), (hd, .inr (1, [.ref hkd, .ref hnd, .ref hud, .int (nI sz1)])), (hkd, .inl (cI, 50, .inl ks1)), (hnd, .inl (cI, 50, .inl ns1)), (hud, .inl (cI, 200, .inl us1)), (h, .inr (1, [.ref hk, .ref hn, .ref hu, .int (nI sz)])), (hk, .inl (cI, 50, .inl ks)), (hn, .inl (cI, 50, .inl ns)), (hu, .inl (cI, 200, .inl us)), (w, .inr (4, [.ref wd])), (wd, .inl (cI, 16, .inl dp)), (b, .inr (0, [.ref be, .int (nI bn)])), (be, .inl (cI, 100, .inl en)), (o, .inr (2, [.ref os, .int (nI ol)])), (os, .inl (cC, 500, .inl ot))] (va_A [(x, .inr (5, [.ref r, .ref h, .ref hz, .ref w, .ref b, .ref o])), (r, .inr (3, [.ref rs, .ref hd, .int (nI len), .int (nI pl), .int fn, .int fp])), (rs, .inl (cC, 500, .inl sg)), (hd, .inr (1, [.ref hkd, .ref hnd, .ref hud, .int (nI szd)])), (hkd, .inl (cI, 50, .inl ksd)), (hnd, .inl (cI, 50, .inl nsd)), (hud, .inl (cI, 200, .inl usd)), (h, .inr (1, [.ref hk, .ref hn, .ref hu, .int (nI sz)])), (hk, .inl (cI, 50, .inl ks)), (hn, .inl (cI, 50, .inl ns)), (hu, .inl (cI, 200, .inl us)), (w, .inr (4, [.ref wd])), (wd, .inl (cI, 16, .inl dp)), (b, .inr (0, [.ref be, .int (nI bn)])), (be, .inl (cI, 100, .inl en)), (o, .inr (2, [.ref os, .int (nI ol)])), (os, .inl (cC, 500, .inl ot))] sz9) (some (.int (nI sz1))) "java/lang/IllegalStateException") 1 6 (va_A [(x, .inr (5, [.ref r, .ref h, .ref hz, .ref w, .ref b, .ref o])), (r, .inr (3, [.ref rs, .ref hd, .int (nI len), .int (nI pl), .int fn, .int fp])), (rs, .inl (cC, 500, .inl sg)), (hd, .inr (1, [.ref hkd, .ref hnd, .ref hud, .int (nI szd)])), (hkd, .inl (cI, 50, .inl ksd)), (hnd, .inl (cI, 50, .inl nsd)), (hud, .inl (cI, 200, .inl usd)), (h, .inr (1, [.ref hk, .ref hn, .ref hu, .int (nI sz)])), (hk, .inl (cI, 50, .inl ks)), (hn, .inl (cI, 50, .inl ns)), (hu, .inl (cI, 200, .inl us)), (w, .inr (4, [.ref wd])), (wd, .inl (cI, 16, .inl dp)), (b, .inr (0, [.ref be, .int (nI bn)])), (be, .inl (cI, 100, .inl en)), (o, .inr (2, [.ref os, .int (nI ol)])), (os, .inl (cC, 500, .inl ot))] sz9) := by
  refine xMet.ofW (cc := cX5_read) (maxL := 1) (ret := (some .int)) (by decide) rfl ?_
  intro p e s m args below meth c s₁ Bd hml hv
  obtain ⟨⟨rfl, hsz9, hB, hP, hK, hD0, hT⟩, hX⟩ := hv
  have hx := Bd.exec
  have hb := Bd.bytes
  have hr := Bd.returns
  have hts := atoms_spec (ws := wsX5_read) Bd.pre
  have hg : ∀ w ∈ lw_good, w.before _ s = true := fun w h => hts w (List.mem_cons_of_mem _ h)
  have hown : s.vm.findClass RX5 = some m.cls := findClass_of_methodNamed Bd.named
  have hlocks := Bd.notSynchronized
  subst hsz9
  have hD := hD0.self (sz := s.heap.size)
  generalize hAe : va_A [(x, .inr (5, [.ref r, .ref h, .ref hz, .ref w, .ref b, .ref o])), (r, .inr (3, [.ref rs, .ref hd, .int (nI len), .int (nI pl), .int fn, .int fp])), (rs, .inl (cC, 500, .inl sg)), (hd, .inr (1, [.ref hkd, .ref hnd, .ref hud, .int (nI szd)])), (hkd, .inl (cI, 50, .inl ksd)), (hnd, .inl (cI, 50, .inl nsd)), (hud, .inl (cI, 200, .inl usd)), (h, .inr (1, [.ref hk, .ref hn, .ref hu, .int (nI sz)])), (hk, .inl (cI, 50, .inl ks)), (hn, .inl (cI, 50, .inl ns)), (hu, .inl (cI, 200, .inl us)), (w, .inr (4, [.ref wd])), (wd, .inl (cI, 16, .inl dp)), (b, .inr (0, [.ref be, .int (nI bn)])), (be, .inl (cI, 100, .inl en)), (o, .inr (2, [.ref os, .int (nI ol)])), (os, .inl (cC, 500, .inl ot))] s.heap.size = A at hD ⊢
  have hA : ∀ q : Nat, s.heap.size ≤ q → A q := fun q h => by rw [← hAe]; exact Or.inr h
  have hAB : ∀ q, A q → B ≤ q := by rw [← hAe]; exact va_A.ge hD0 hB
  have hS : va_S A s.heap s.heap [] := va_S.rf
  have hP : va_P (dC, dI) vwCl [(x, .inr (5, [.ref r, .ref h, .ref hz, .ref w, .ref b, .ref o])), (r, .inr (3, [.ref rs, .ref hd, .int (nI len), .int (nI pl), .int fn, .int fp])), (rs, .inl (cC, 500, .inl sg)), (hd, .inr (1, [.ref hkd, .ref hnd, .ref hud, .int (nI szd)])), (hkd, .inl (cI, 50, .inl ksd)), (hnd, .inl (cI, 50, .inl nsd)), (hud, .inl (cI, 200, .inl usd)), (h, .inr (1, [.ref hk, .ref hn, .ref hu, .int (nI sz)])), (hk, .inl (cI, 50, .inl ks)), (hn, .inl (cI, 50, .inl ns)), (hu, .inl (cI, 200, .inl us)), (w, .inr (4, [.ref wd])), (wd, .inl (cI, 16, .inl dp)), (b, .inr (0, [.ref be, .int (nI bn)])), (be, .inl (cI, 100, .inl en)), (o, .inr (2, [.ref os, .int (nI ol)])), (os, .inl (cC, 500, .inl ot))] s.heap := hP
  have hl := lv_entry ([.ref x]) (n := 1) (Nat.le_of_ble_eq_true rfl)
  rw [lg_entry_eq]
  generalize (lg_sl ([.ref x]) ++ List.replicate (1 - (lg_sl ([.ref x])).length) Slot.unset).toArray = ls at hl ⊢
  have hl : lv_has ls 1 [(0, .ref x)] := hl
  refine lv_aload_n hx hb dX5_read_0 rfl (lv_at hl 0 rfl) ?_
  refine va_get (D := (dC, dI)) (ci := 5) (v := .ref r) (C := RX5) (T := TX5) (N := 6) hx hb hg in_X5 hown hK hP 0 rfl rfl 0 (by decide) (hg _ w_103) (fun _ h9 => h9) rfl dX5_read_1 ?_
  obtain ⟨b1_1, ks1_1, ns1_1, us1_1, sz1_1, pl1_1, fn1_1, fp1_1, hF_1⟩ : ∃ (b1_1 : Bool) (ks1_1 : Nat → Int32) (ns1_1 : Nat → Int32) (us1_1 : Nat → Int32) (sz1_1 : Nat) (pl1_1 : Nat) (fn1_1 : Int32) (fp1_1 : Int32), k_readAll sg len ksd nsd usd = (b1_1, ks1_1, ns1_1, us1_1, sz1_1, pl1_1, fn1_1, fp1_1) := ⟨_, _, _, _, _, _, _, _, rfl⟩
  have hq_sz1_1 := k_readAll_ok sg len ksd nsd usd
  rw [hF_1] at hq_sz1_1
  obtain ⟨hq1_sz1_1, hq2_sz1_1⟩ := hq_sz1_1
  have hq1_sz1_1 : sz1_1 ≤ 50 := hq1_sz1_1
  have hq2_sz1_1 : pl1_1 ≤ len := hq2_sz1_1
  refine go_M (r := some (.int (bI b1_1))) (wc' := [(r, .inr (3, [.ref rs, .ref hd, .int (nI 0), .int (nI pl1_1), .int fn1_1, .int fp1_1])), (rs, .inl (cC, 500, .inl sg)), (hd, .inr (1, [.ref hkd, .ref hnd, .ref hud, .int (nI sz1_1)])), (hkd, .inl (cI, 50, .inl ks1_1)), (hnd, .inl (cI, 50, .inl ns1_1)), (hud, .inl (cI, 200, .inl us1_1))]) (w2 := [(x, .inr (5, [.ref r, .ref h, .ref hz, .ref w, .ref b, .ref o])), (r, .inr (3, [.ref rs, .ref hd, .int (nI 0), .int (nI pl1_1), .int fn1_1, .int fp1_1])), (rs, .inl (cC, 500, .inl sg)), (hd, .inr (1, [.ref hkd, .ref hnd, .ref hud, .int (nI sz1_1)])), (hkd, .inl (cI, 50, .inl ks1_1)), (hnd, .inl (cI, 50, .inl ns1_1)), (hud, .inl (cI, 200, .inl us1_1)), (h, .inr (1, [.ref hk, .ref hn, .ref hu, .int (nI sz)])), (hk, .inl (cI, 50, .inl ks)), (hn, .inl (cI, 50, .inl ns)), (hu, .inl (cI, 200, .inl us)), (w, .inr (4, [.ref wd])), (wd, .inl (cI, 16, .inl dp)), (b, .inr (0, [.ref be, .int (nI bn)])), (be, .inl (cI, 100, .inl en)), (o, .inr (2, [.ref os, .int (nI ol)])), (os, .inl (cC, 500, .inl ot))]) [1, 2, 3, 4, 5, 6] (va_runV (As := []) (rest := []) ⟨hx, hb, hml, hown, hg⟩ (kX3_readAll l dC dI B cI cC cJ r rs sg len pl fn fp hd hkd hnd hud ksd nsd usd szd b1_1 ks1_1 ns1_1 us1_1 sz1_1 pl1_1 fn1_1 fp1_1 (by omega) (by omega) (by omega) hF_1 _) (cwV 0 hg (gi_V w_239 w_240 w_241 w_3 w_242) rfl rfl rfl (by decide +kernel) ⟨Nat.le_of_ble_eq_true rfl, Nat.le_of_ble_eq_true rfl⟩) (pre_MV (va_recv hK hP (ci := 3) (q0 := 1) rfl rfl) (Nat.le_trans hB hS.1) (hP.sub [1, 2, 3, 4, 5, 6] rfl) hK ((hD.weaken (fun _ _ _ h => hAB _ h)).sub [1, 2, 3, 4, 5, 6] (by decide) rfl) hT) rfl rfl hl.1 rfl (lv_room (Nat.le_of_ble_eq_true rfl)) dX5_read_4 ⟨Nat.le_of_ble_eq_true rfl, Nat.le_of_ble_eq_true rfl⟩) hP hD hS hA rfl (Nat.le_of_ble_eq_true rfl) rfl rfl (fun H locs hP hD hS => ?_)
  refine W.eq (g2 := F0 m 7 ls [.int (bI b1_1)]) rfl ?_
  refine lv_if_ne (tgt := 20) hx hb dX5_read_7 (by decide) (fun c_2 => ?_) (fun c_2 => ?_)
  · skip
    have c_2 := bI_ne0 c_2
    refine lv_aload_n hx hb dX5_read_20 rfl (lv_at hl 0 rfl) ?_
    refine va_get (D := (dC, dI)) (ci := 5) (v := .ref h) (C := RX5) (T := TX5) (N := 6) hx hb hg in_X5 hown hK hP 0 rfl rfl 1 (by decide) (hg _ w_104) (fun _ h9 => h9) rfl dX5_read_21 ?_
    refine lv_aload_n hx hb dX5_read_24 rfl (lv_at hl 0 rfl) ?_
    refine va_get (D := (dC, dI)) (ci := 5) (v := .ref r) (C := RX5) (T := TX5) (N := 6) hx hb hg in_X5 hown hK hP 0 rfl rfl 0 (by decide) (hg _ w_103) (fun _ h9 => h9) rfl dX5_read_25 ?_
    refine go_RV (v := .ref hd) (va_runV (As := []) (rest := [.ref h]) ⟨hx, hb, hml, hown, hg⟩ (kX3_result l dC dI B cI cC cJ r rs hd sg 0 pl1_1 fn1_1 fp1_1 (by omega) (by omega)) (cwV 0 hg (gi_V w_352 w_353 w_354 w_3 w_355) rfl rfl rfl (by decide +kernel) ⟨Nat.le_of_ble_eq_true rfl, Nat.le_of_ble_eq_true rfl⟩) (pre_RV (va_recv hK hP (ci := 3) (q0 := 1) rfl rfl) (hP.sub [1, 2] rfl) hK (hT.kept (hS.mono hAB))) rfl rfl hl.1 rfl (lv_room (Nat.le_of_ble_eq_true rfl)) dX5_read_28 ⟨Nat.le_of_ble_eq_true rfl, Nat.le_of_ble_eq_true rfl⟩) ?_
    refine go_M (r := none) (wc' := [(h, .inr (1, [.ref hk, .ref hn, .ref hu, .int (nI sz1_1)])), (hk, .inl (cI, 50, .inl ks1_1)), (hn, .inl (cI, 50, .inl ns1_1)), (hu, .inl (cI, 200, .inl us1_1)), (hd, .inr (1, [.ref hkd, .ref hnd, .ref hud, .int (nI sz1_1)])), (hkd, .inl (cI, 50, .inl ks1_1)), (hnd, .inl (cI, 50, .inl ns1_1)), (hud, .inl (cI, 200, .inl us1_1))]) (w2 := [(x, .inr (5, [.ref r, .ref h, .ref hz, .ref w, .ref b, .ref o])), (r, .inr (3, [.ref rs, .ref hd, .int (nI 0), .int (nI pl1_1), .int fn1_1, .int fp1_1])), (rs, .inl (cC, 500, .inl sg)), (hd, .inr (1, [.ref hkd, .ref hnd, .ref hud, .int (nI sz1_1)])), (hkd, .inl (cI, 50, .inl ks1_1)), (hnd, .inl (cI, 50, .inl ns1_1)), (hud, .inl (cI, 200, .inl us1_1)), (h, .inr (1, [.ref hk, .ref hn, .ref hu, .int (nI sz1_1)])), (hk, .inl (cI, 50, .inl ks1_1)), (hn, .inl (cI, 50, .inl ns1_1)), (hu, .inl (cI, 200, .inl us1_1)), (w, .inr (4, [.ref wd])), (wd, .inl (cI, 16, .inl dp)), (b, .inr (0, [.ref be, .int (nI bn)])), (be, .inl (cI, 100, .inl en)), (o, .inr (2, [.ref os, .int (nI ol)])), (os, .inl (cC, 500, .inl ot))]) [7, 8, 9, 10, 3, 4, 5, 6] (va_runV (As := [.ref hd]) (rest := []) ⟨hx, hb, hml, hown, hg⟩ (kX1_copyFrom l dC dI B cI cC cJ h hk hn hu ks ns us sz hd hkd hnd hud ks1_1 ns1_1 us1_1 sz1_1 (by omega) (by omega) _) (cwV 1 hg (gi_V w_178 w_179 w_180 w_4 w_181) rfl rfl rfl (by decide +kernel) ⟨Nat.le_of_ble_eq_true rfl, Nat.le_of_ble_eq_true rfl⟩) (pre_MV (va_recv hK hP (ci := 1) (q0 := 7) rfl rfl) (Nat.le_trans hB hS.1) (hP.sub [7, 8, 9, 10, 3, 4, 5, 6] rfl) hK ((hD.weaken (fun _ _ _ h => hAB _ h)).sub [7, 8, 9, 10, 3, 4, 5, 6] (by decide) rfl) (hT.kept (hS.mono hAB))) rfl rfl hl.1 rfl (lv_room (Nat.le_of_ble_eq_true rfl)) dX5_read_31 ⟨Nat.le_of_ble_eq_true rfl, Nat.le_of_ble_eq_true rfl⟩) hP hD hS hA rfl (Nat.le_of_ble_eq_true rfl) rfl rfl (fun H locs hP hD hS => ?_)
    refine W.eq (g2 := F0 m 34 ls []) rfl ?_
    refine lv_aload_n hx hb dX5_read_34 rfl (lv_at hl 0 rfl) ?_
    refine va_get (D := (dC, dI)) (ci := 5) (v := .ref b) (C := RX5) (T := TX5) (N := 6) hx hb hg in_X5 hown hK hP 0 rfl rfl 4 (by decide) (hg _ w_107) (fun _ h9 => h9) rfl dX5_read_35 ?_
    refine lv_aload_n hx hb dX5_read_38 rfl (lv_at hl 0 rfl) ?_
    refine va_get (D := (dC, dI)) (ci := 5) (v := .ref h) (C := RX5) (T := TX5) (N := 6) hx hb hg in_X5 hown hK hP 0 rfl rfl 1 (by decide) (hg _ w_104) (fun _ h9 => h9) rfl dX5_read_39 ?_
    refine lv_aload_n hx hb dX5_read_42 rfl (lv_at hl 0 rfl) ?_
    refine va_get (D := (dC, dI)) (ci := 5) (v := .ref w) (C := RX5) (T := TX5) (N := 6) hx hb hg in_X5 hown hK hP 0 rfl rfl 3 (by decide) (hg _ w_106) (fun _ h9 => h9) rfl dX5_read_43 ?_
    obtain ⟨dp1_3, en1_3, bn1_3, hF_3⟩ : ∃ (dp1_3 : Nat → Int32) (en1_3 : Nat → Int32) (bn1_3 : Nat), k_judgeAll ks1_1 us1_1 sz1_1 dp en = (dp1_3, en1_3, bn1_3) := ⟨_, _, _, rfl⟩
    have hq_bn1_3 := k_judgeAll_le ks1_1 us1_1 sz1_1 dp en
    rw [hF_3] at hq_bn1_3
    have hq_bn1_3 : bn1_3 ≤ 100 := hq_bn1_3
    refine go_M (r := none) (wc' := [(b, .inr (0, [.ref be, .int (nI bn1_3)])), (be, .inl (cI, 100, .inl en1_3)), (h, .inr (1, [.ref hk, .ref hn, .ref hu, .int (nI sz1_1)])), (hk, .inl (cI, 50, .inl ks1_1)), (hn, .inl (cI, 50, .inl ns1_1)), (hu, .inl (cI, 200, .inl us1_1)), (w, .inr (4, [.ref wd])), (wd, .inl (cI, 16, .inl dp1_3))]) (w2 := [(x, .inr (5, [.ref r, .ref h, .ref hz, .ref w, .ref b, .ref o])), (r, .inr (3, [.ref rs, .ref hd, .int (nI 0), .int (nI pl1_1), .int fn1_1, .int fp1_1])), (rs, .inl (cC, 500, .inl sg)), (hd, .inr (1, [.ref hkd, .ref hnd, .ref hud, .int (nI sz1_1)])), (hkd, .inl (cI, 50, .inl ks1_1)), (hnd, .inl (cI, 50, .inl ns1_1)), (hud, .inl (cI, 200, .inl us1_1)), (h, .inr (1, [.ref hk, .ref hn, .ref hu, .int (nI sz1_1)])), (hk, .inl (cI, 50, .inl ks1_1)), (hn, .inl (cI, 50, .inl ns1_1)), (hu, .inl (cI, 200, .inl us1_1)), (w, .inr (4, [.ref wd])), (wd, .inl (cI, 16, .inl dp1_3)), (b, .inr (0, [.ref be, .int (nI bn1_3)])), (be, .inl (cI, 100, .inl en1_3)), (o, .inr (2, [.ref os, .int (nI ol)])), (os, .inl (cC, 500, .inl ot))]) [13, 14, 7, 8, 9, 10, 11, 12] (va_runV (As := [.ref h, .ref w]) (rest := []) ⟨hx, hb, hml, hown, hg⟩ (kX0_judge l dC dI B cI cC cJ b be en bn h hk hn hu ks1_1 ns1_1 us1_1 sz1_1 w wd dp dp1_3 en1_3 bn1_3 (by omega) (by omega) hF_3 _) (cwV 2 hg (gi_V w_356 w_357 w_358 w_6 w_359) rfl rfl rfl (by decide +kernel) ⟨Nat.le_of_ble_eq_true rfl, Nat.le_of_ble_eq_true rfl⟩) (pre_MV (va_recv hK hP (ci := 0) (q0 := 13) rfl rfl) (Nat.le_trans hB hS.1) (hP.sub [13, 14, 7, 8, 9, 10, 11, 12] rfl) hK ((hD.weaken (fun _ _ _ h => hAB _ h)).sub [13, 14, 7, 8, 9, 10, 11, 12] (by decide) rfl) (hT.kept (hS.mono hAB))) rfl rfl hl.1 rfl (lv_room (Nat.le_of_ble_eq_true rfl)) dX5_read_46 ⟨Nat.le_of_ble_eq_true rfl, Nat.le_of_ble_eq_true rfl⟩) hP hD hS hA rfl (Nat.le_of_ble_eq_true rfl) rfl rfl (fun H locs hP hD hS => ?_)
    refine W.eq (g2 := F0 m 49 ls []) rfl ?_
    refine lv_aload_n hx hb dX5_read_49 rfl (lv_at hl 0 rfl) ?_
    refine va_get (D := (dC, dI)) (ci := 5) (v := .ref o) (C := RX5) (T := TX5) (N := 6) hx hb hg in_X5 hown hK hP 0 rfl rfl 5 (by decide) (hg _ w_108) (fun _ h9 => h9) rfl dX5_read_50 ?_
    refine lv_aload_n hx hb dX5_read_53 rfl (lv_at hl 0 rfl) ?_
    refine va_get (D := (dC, dI)) (ci := 5) (v := .ref h) (C := RX5) (T := TX5) (N := 6) hx hb hg in_X5 hown hK hP 0 rfl rfl 1 (by decide) (hg _ w_104) (fun _ h9 => h9) rfl dX5_read_54 ?_
    obtain ⟨ot1_4, ol1_4, hF_4⟩ : ∃ (ot1_4 : Nat → Int32) (ol1_4 : Nat), k_write ks1_1 ns1_1 us1_1 sz1_1 ot = (ot1_4, ol1_4) := ⟨_, _, rfl⟩
    have hq_ol1_4 := k_write_le ks1_1 ns1_1 us1_1 sz1_1 ot (by omega)
    rw [hF_4] at hq_ol1_4
    have hq_ol1_4 : ol1_4 ≤ 500 := hq_ol1_4
    refine go_M (r := none) (wc' := [(o, .inr (2, [.ref os, .int (nI ol1_4)])), (os, .inl (cC, 500, .inl ot1_4)), (h, .inr (1, [.ref hk, .ref hn, .ref hu, .int (nI sz1_1)])), (hk, .inl (cI, 50, .inl ks1_1)), (hn, .inl (cI, 50, .inl ns1_1)), (hu, .inl (cI, 200, .inl us1_1))]) (w2 := [(x, .inr (5, [.ref r, .ref h, .ref hz, .ref w, .ref b, .ref o])), (r, .inr (3, [.ref rs, .ref hd, .int (nI 0), .int (nI pl1_1), .int fn1_1, .int fp1_1])), (rs, .inl (cC, 500, .inl sg)), (hd, .inr (1, [.ref hkd, .ref hnd, .ref hud, .int (nI sz1_1)])), (hkd, .inl (cI, 50, .inl ks1_1)), (hnd, .inl (cI, 50, .inl ns1_1)), (hud, .inl (cI, 200, .inl us1_1)), (h, .inr (1, [.ref hk, .ref hn, .ref hu, .int (nI sz1_1)])), (hk, .inl (cI, 50, .inl ks1_1)), (hn, .inl (cI, 50, .inl ns1_1)), (hu, .inl (cI, 200, .inl us1_1)), (w, .inr (4, [.ref wd])), (wd, .inl (cI, 16, .inl dp1_3)), (b, .inr (0, [.ref be, .int (nI bn1_3)])), (be, .inl (cI, 100, .inl en1_3)), (o, .inr (2, [.ref os, .int (nI ol1_4)])), (os, .inl (cC, 500, .inl ot1_4))]) [15, 16, 7, 8, 9, 10] (va_runV (As := [.ref h]) (rest := []) ⟨hx, hb, hml, hown, hg⟩ (kX2_write l dC dI B cI cC cJ o os ot ol h hk hn hu ks1_1 ns1_1 us1_1 sz1_1 ot1_4 ol1_4 (by omega) (by omega) hF_4 _) (cwV 1 hg (gi_V w_398 w_399 w_400 w_7 w_401) rfl rfl rfl (by decide +kernel) ⟨Nat.le_of_ble_eq_true rfl, Nat.le_of_ble_eq_true rfl⟩) (pre_MV (va_recv hK hP (ci := 2) (q0 := 15) rfl rfl) (Nat.le_trans hB hS.1) (hP.sub [15, 16, 7, 8, 9, 10] rfl) hK ((hD.weaken (fun _ _ _ h => hAB _ h)).sub [15, 16, 7, 8, 9, 10] (by decide) rfl) (hT.kept (hS.mono hAB))) rfl rfl hl.1 rfl (lv_room (Nat.le_of_ble_eq_true rfl)) dX5_read_57 ⟨Nat.le_of_ble_eq_true rfl, Nat.le_of_ble_eq_true rfl⟩) hP hD hS hA rfl (Nat.le_of_ble_eq_true rfl) rfl rfl (fun H locs hP hD hS => ?_)
    refine W.eq (g2 := F0 m 60 ls []) rfl ?_
    refine lv_aload_n hx hb dX5_read_60 rfl (lv_at hl 0 rfl) ?_
    refine va_get (D := (dC, dI)) (ci := 5) (v := .ref h) (C := RX5) (T := TX5) (N := 6) hx hb hg in_X5 hown hK hP 0 rfl rfl 1 (by decide) (hg _ w_104) (fun _ h9 => h9) rfl dX5_read_61 ?_
    refine go_R (r := (nI sz1_1)) (va_runV (As := []) (rest := []) ⟨hx, hb, hml, hown, hg⟩ (kX1_size l dC dI B cI cC cJ h hk hn hu ks1_1 ns1_1 us1_1 sz1_1 (by omega)) (cwV 0 hg (gi_V w_185 w_186 w_187 w_4 w_188) rfl rfl rfl (by decide +kernel) ⟨Nat.le_of_ble_eq_true rfl, Nat.le_of_ble_eq_true rfl⟩) (pre_RV (va_recv hK hP (ci := 1) (q0 := 7) rfl rfl) (hP.sub [7, 8, 9, 10] rfl) hK (hT.kept (hS.mono hAB))) rfl rfl hl.1 rfl (lv_room (Nat.le_of_ble_eq_true rfl)) dX5_read_64 ⟨Nat.le_of_ble_eq_true rfl, Nat.le_of_ble_eq_true rfl⟩) ?_
    have hP9 := hP
    have hS9 := hS
    have h9 : k_readX sg len ksd nsd usd dp en bn ot ol = (true, ks1_1, ns1_1, us1_1, sz1_1, pl1_1, fn1_1, fp1_1, dp1_3, en1_3, bn1_3, ot1_4, ol1_4) := by simp [k_readX, hF_1, c_2, hF_3, hF_4]
    have h9 := hF.symm.trans h9
    cases h9
    exact x_ret (Nat.zero_le _) (Nat.zero_le _) (W.iret hx hb hr (fun t ht hW => ⟨hS9.F ht, Or.inl ⟨rfl, rfl, by rw [ht]; exact hP9⟩⟩) hS9.2.2 dX5_read_67)
  · skip
    have c_2 := bI_eq0 c_2
    have hP9 := hP
    have hS9 := hS
    have h9 : k_readX sg len ksd nsd usd dp en bn ot ol = (false, ks1_1, ns1_1, us1_1, sz1_1, pl1_1, fn1_1, fp1_1, dp, en, bn, ot, ol) := by simp [k_readX, hF_1, c_2]
    have h9 := hF.symm.trans h9
    cases h9
    exact x_thr (y := yX5_read) hst hx hb hml hown hg Bd.named (hts _ List.mem_cons_self) hlocks hX hB hAB w_296 w_297 w_12 xi_o0 (by decide) (List.mem_of_getElem? (i := 0) rfl) dX5_read_10 dX5_read_13 dX5_read_14 dX5_read_16 dX5_read_19 hl.1 (Nat.le_of_ble_eq_true rfl) (Nat.le_of_ble_eq_true rfl) (Nat.le_of_ble_eq_true rfl) (Nat.le_of_ble_eq_true rfl) rfl hP9 hS9
