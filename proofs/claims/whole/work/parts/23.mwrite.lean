set_option maxHeartbeats 4000000 in
set_option maxRecDepth 100000 in
theorem kX6_refuse (l : Launch) (dC : Nat → ClassId) (dI : Nat → Nat → Nat) (B : Nat) (cI cC cJ : ClassId) (mo : Nat) (mx : Nat) (mt : Nat) (md : Nat) (mp : Nat) (tx : Nat → Int32) (td : Nat → Int32) (dp : Nat → Int32) (pr : Nat → Int32) (th : Int32) (fl : Int32) (fa : Int32) (sn : Nat) (pn : Nat) (kp : Nat) (cm : Nat) (p0 : Int32) (hsn : sn ≤ 500) (hpn : pn ≤ 50) (hkp : kp ≤ 50) (hcm : cm ≤ 50) (sz9 : Nat) : Met l yX6_refuse wsX6_refuse ({ frames := 0, cells := 0, slots := 0, locals := 0 }) (q_Mp (dC, dI) vwCl [.ref mo, .int p0] [(mo, .inr (6, [.int th, .ref mx, .int (nI sn), .int fl, .int fa, .ref mt, .int (nI pn), .int (nI kp), .int (nI cm), .ref md, .ref mp])), (mx, .inl (cI, 500, .inl tx)), (mt, .inl (cI, 900, .inl td)), (md, .inl (cI, 16, .inl dp)), (mp, .inl (cI, 16, .inl pr))] [(cI, .int), (cC, .char), (cJ, .long)] B sz9) (q_Mq (dC, dI) vwCl [(mo, .inr (6, [.int p0, .ref mx, .int (nI sn), .int fl, .int fa, .ref mt, .int (nI pn), .int (nI kp), .int (nI cm), .ref md, .ref mp])), (mx, .inl (cI, 500, .inl tx)), (mt, .inl (cI, 900, .inl td)), (md, .inl (cI, 16, .inl dp)), (mp, .inl (cI, 16, .inl pr))] (va_A [(mo, .inr (6, [.int th, .ref mx, .int (nI sn), .int fl, .int fa, .ref mt, .int (nI pn), .int (nI kp), .int (nI cm), .ref md, .ref mp])), (mx, .inl (cI, 500, .inl tx)), (mt, .inl (cI, 900, .inl td)), (md, .inl (cI, 16, .inl dp)), (mp, .inl (cI, 16, .inl pr))] sz9) (some (.int 0))) 0 0 (va_A [(mo, .inr (6, [.int th, .ref mx, .int (nI sn), .int fl, .int fa, .ref mt, .int (nI pn), .int (nI kp), .int (nI cm), .ref md, .ref mp])), (mx, .inl (cI, 500, .inl tx)), (mt, .inl (cI, 900, .inl td)), (md, .inl (cI, 16, .inl dp)), (mp, .inl (cI, 16, .inl pr))] sz9) := by
  refine Met.ofW (cc := cX6_refuse) (maxL := 2) (ret := (some .int)) (by decide) rfl ?_
  intro p e s m args below meth c s₁ Bd hml hv
  obtain ⟨rfl, hsz9, hB, hP, hK, hD0, hT⟩ := hv
  have hx := Bd.exec
  have hb := Bd.bytes
  have hr := Bd.returns
  have hts := atoms_spec (ws := wsX6_refuse) Bd.pre
  have hg : ∀ w ∈ lw_good, w.before _ s = true := fun w h => hts w (List.mem_cons_of_mem _ h)
  have hown : s.vm.findClass RX6 = some m.cls := findClass_of_methodNamed Bd.named
  have hlocks := Bd.notSynchronized
  subst hsz9
  have hD := hD0.self (sz := s.heap.size)
  generalize hAe : va_A [(mo, .inr (6, [.int th, .ref mx, .int (nI sn), .int fl, .int fa, .ref mt, .int (nI pn), .int (nI kp), .int (nI cm), .ref md, .ref mp])), (mx, .inl (cI, 500, .inl tx)), (mt, .inl (cI, 900, .inl td)), (md, .inl (cI, 16, .inl dp)), (mp, .inl (cI, 16, .inl pr))] s.heap.size = A at hD ⊢
  have hA : ∀ q : Nat, s.heap.size ≤ q → A q := fun q h => by rw [← hAe]; exact Or.inr h
  have hAB : ∀ q, A q → B ≤ q := by rw [← hAe]; exact va_A.ge hD0 hB
  have hS : va_S A s.heap s.heap [] := va_S.rf
  have hP : va_P (dC, dI) vwCl [(mo, .inr (6, [.int th, .ref mx, .int (nI sn), .int fl, .int fa, .ref mt, .int (nI pn), .int (nI kp), .int (nI cm), .ref md, .ref mp])), (mx, .inl (cI, 500, .inl tx)), (mt, .inl (cI, 900, .inl td)), (md, .inl (cI, 16, .inl dp)), (mp, .inl (cI, 16, .inl pr))] s.heap := hP
  have hl := lv_entry ([.ref mo, .int p0]) (n := 2) (Nat.le_of_ble_eq_true rfl)
  rw [lg_entry_eq]
  generalize (lg_sl ([.ref mo, .int p0]) ++ List.replicate (2 - (lg_sl ([.ref mo, .int p0])).length) Slot.unset).toArray = ls at hl ⊢
  have hl : lv_has ls 2 [(0, .ref mo), (1, .int p0)] := hl
  refine lv_aload_n hx hb dX6_refuse_0 rfl (lv_at hl 0 rfl) ?_
  refine lv_iload_n hx hb dX6_refuse_1 rfl (lv_at hl 1 rfl) ?_
  refine va_put (D := (dC, dI)) (ci := 6) (v := .int p0) (ty := .int) (C := RX6) (T := TX6) (N := 11) hx hb hg in_X6 tyX6 tyX6_ok nmX6_ok hown hK hP hD hS 0 rfl rfl 0 (by decide) (hg _ w_503) (fun _ h9 => h9) rfl (by decide +kernel) rfl rfl (Nat.le_of_ble_eq_true rfl) dX6_refuse_2 (fun H locs hP hD hS => ?_)
  have hP : va_P (dC, dI) vwCl [(mo, .inr (6, [.int p0, .ref mx, .int (nI sn), .int fl, .int fa, .ref mt, .int (nI pn), .int (nI kp), .int (nI cm), .ref md, .ref mp])), (mx, .inl (cI, 500, .inl tx)), (mt, .inl (cI, 900, .inl td)), (md, .inl (cI, 16, .inl dp)), (mp, .inl (cI, 16, .inl pr))] H := hP
  have hD : va_D A [(mo, .inr (6, [.int p0, .ref mx, .int (nI sn), .int fl, .int fa, .ref mt, .int (nI pn), .int (nI kp), .int (nI cm), .ref md, .ref mp])), (mx, .inl (cI, 500, .inl tx)), (mt, .inl (cI, 900, .inl td)), (md, .inl (cI, 16, .inl dp)), (mp, .inl (cI, 16, .inl pr))] := hD
  refine lv_iconst (v := 0) hx hb dX6_refuse_5 (by decide) ?_
  have hP9 := hP
  have hS9 := hS
  exact W.iret hx hb hr (fun t ht hW => ⟨rfl, by rw [ht]; exact hP9, hS9.F ht⟩) hS9.2.2 dX6_refuse_6
set_option maxHeartbeats 4000000 in
set_option maxRecDepth 100000 in
theorem kX6_fails (l : Launch) (dC : Nat → ClassId) (dI : Nat → Nat → Nat) (B : Nat) (cI cC cJ : ClassId) (mo : Nat) (mx : Nat) (mt : Nat) (md : Nat) (mp : Nat) (tx : Nat → Int32) (td : Nat → Int32) (dp : Nat → Int32) (pr : Nat → Int32) (th : Int32) (fl : Int32) (fa : Int32) (sn : Nat) (pn : Nat) (kp : Nat) (cm : Nat) (p0 : Int32) (p1 : Int32) (hsn : sn ≤ 500) (hpn : pn ≤ 50) (hkp : kp ≤ 50) (hcm : cm ≤ 50) (sz9 : Nat) : Met l yX6_fails wsX6_fails ({ frames := 0, cells := 0, slots := 0, locals := 0 }) (q_Mp (dC, dI) vwCl [.ref mo, .int p0, .int p1] [(mo, .inr (6, [.int th, .ref mx, .int (nI sn), .int fl, .int fa, .ref mt, .int (nI pn), .int (nI kp), .int (nI cm), .ref md, .ref mp])), (mx, .inl (cI, 500, .inl tx)), (mt, .inl (cI, 900, .inl td)), (md, .inl (cI, 16, .inl dp)), (mp, .inl (cI, 16, .inl pr))] [(cI, .int), (cC, .char), (cJ, .long)] B sz9) (q_Mq (dC, dI) vwCl [(mo, .inr (6, [.int th, .ref mx, .int (nI sn), .int p0, .int p1, .ref mt, .int (nI pn), .int (nI kp), .int (nI cm), .ref md, .ref mp])), (mx, .inl (cI, 500, .inl tx)), (mt, .inl (cI, 900, .inl td)), (md, .inl (cI, 16, .inl dp)), (mp, .inl (cI, 16, .inl pr))] (va_A [(mo, .inr (6, [.int th, .ref mx, .int (nI sn), .int fl, .int fa, .ref mt, .int (nI pn), .int (nI kp), .int (nI cm), .ref md, .ref mp])), (mx, .inl (cI, 500, .inl tx)), (mt, .inl (cI, 900, .inl td)), (md, .inl (cI, 16, .inl dp)), (mp, .inl (cI, 16, .inl pr))] sz9) (some (.int (-1)))) 0 0 (va_A [(mo, .inr (6, [.int th, .ref mx, .int (nI sn), .int fl, .int fa, .ref mt, .int (nI pn), .int (nI kp), .int (nI cm), .ref md, .ref mp])), (mx, .inl (cI, 500, .inl tx)), (mt, .inl (cI, 900, .inl td)), (md, .inl (cI, 16, .inl dp)), (mp, .inl (cI, 16, .inl pr))] sz9) := by
  refine Met.ofW (cc := cX6_fails) (maxL := 3) (ret := (some .int)) (by decide) rfl ?_
  intro p e s m args below meth c s₁ Bd hml hv
  obtain ⟨rfl, hsz9, hB, hP, hK, hD0, hT⟩ := hv
  have hx := Bd.exec
  have hb := Bd.bytes
  have hr := Bd.returns
  have hts := atoms_spec (ws := wsX6_fails) Bd.pre
  have hg : ∀ w ∈ lw_good, w.before _ s = true := fun w h => hts w (List.mem_cons_of_mem _ h)
  have hown : s.vm.findClass RX6 = some m.cls := findClass_of_methodNamed Bd.named
  have hlocks := Bd.notSynchronized
  subst hsz9
  have hD := hD0.self (sz := s.heap.size)
  generalize hAe : va_A [(mo, .inr (6, [.int th, .ref mx, .int (nI sn), .int fl, .int fa, .ref mt, .int (nI pn), .int (nI kp), .int (nI cm), .ref md, .ref mp])), (mx, .inl (cI, 500, .inl tx)), (mt, .inl (cI, 900, .inl td)), (md, .inl (cI, 16, .inl dp)), (mp, .inl (cI, 16, .inl pr))] s.heap.size = A at hD ⊢
  have hA : ∀ q : Nat, s.heap.size ≤ q → A q := fun q h => by rw [← hAe]; exact Or.inr h
  have hAB : ∀ q, A q → B ≤ q := by rw [← hAe]; exact va_A.ge hD0 hB
  have hS : va_S A s.heap s.heap [] := va_S.rf
  have hP : va_P (dC, dI) vwCl [(mo, .inr (6, [.int th, .ref mx, .int (nI sn), .int fl, .int fa, .ref mt, .int (nI pn), .int (nI kp), .int (nI cm), .ref md, .ref mp])), (mx, .inl (cI, 500, .inl tx)), (mt, .inl (cI, 900, .inl td)), (md, .inl (cI, 16, .inl dp)), (mp, .inl (cI, 16, .inl pr))] s.heap := hP
  have hl := lv_entry ([.ref mo, .int p0, .int p1]) (n := 3) (Nat.le_of_ble_eq_true rfl)
  rw [lg_entry_eq]
  generalize (lg_sl ([.ref mo, .int p0, .int p1]) ++ List.replicate (3 - (lg_sl ([.ref mo, .int p0, .int p1])).length) Slot.unset).toArray = ls at hl ⊢
  have hl : lv_has ls 3 [(0, .ref mo), (1, .int p0), (2, .int p1)] := hl
  refine lv_aload_n hx hb dX6_fails_0 rfl (lv_at hl 0 rfl) ?_
  refine lv_iload_n hx hb dX6_fails_1 rfl (lv_at hl 1 rfl) ?_
  refine va_put (D := (dC, dI)) (ci := 6) (v := .int p0) (ty := .int) (C := RX6) (T := TX6) (N := 11) hx hb hg in_X6 tyX6 tyX6_ok nmX6_ok hown hK hP hD hS 0 rfl rfl 3 (by decide) (hg _ w_506) (fun _ h9 => h9) rfl (by decide +kernel) rfl rfl (Nat.le_of_ble_eq_true rfl) dX6_fails_2 (fun H locs hP hD hS => ?_)
  have hP : va_P (dC, dI) vwCl [(mo, .inr (6, [.int th, .ref mx, .int (nI sn), .int p0, .int fa, .ref mt, .int (nI pn), .int (nI kp), .int (nI cm), .ref md, .ref mp])), (mx, .inl (cI, 500, .inl tx)), (mt, .inl (cI, 900, .inl td)), (md, .inl (cI, 16, .inl dp)), (mp, .inl (cI, 16, .inl pr))] H := hP
  have hD : va_D A [(mo, .inr (6, [.int th, .ref mx, .int (nI sn), .int p0, .int fa, .ref mt, .int (nI pn), .int (nI kp), .int (nI cm), .ref md, .ref mp])), (mx, .inl (cI, 500, .inl tx)), (mt, .inl (cI, 900, .inl td)), (md, .inl (cI, 16, .inl dp)), (mp, .inl (cI, 16, .inl pr))] := hD
  refine lv_aload_n hx hb dX6_fails_5 rfl (lv_at hl 0 rfl) ?_
  refine lv_iload_n hx hb dX6_fails_6 rfl (lv_at hl 2 rfl) ?_
  refine va_put (D := (dC, dI)) (ci := 6) (v := .int p1) (ty := .int) (C := RX6) (T := TX6) (N := 11) hx hb hg in_X6 tyX6 tyX6_ok nmX6_ok hown hK hP hD hS 0 rfl rfl 4 (by decide) (hg _ w_507) (fun _ h9 => h9) rfl (by decide +kernel) rfl rfl (Nat.le_of_ble_eq_true rfl) dX6_fails_7 (fun H locs hP hD hS => ?_)
  have hP : va_P (dC, dI) vwCl [(mo, .inr (6, [.int th, .ref mx, .int (nI sn), .int p0, .int p1, .ref mt, .int (nI pn), .int (nI kp), .int (nI cm), .ref md, .ref mp])), (mx, .inl (cI, 500, .inl tx)), (mt, .inl (cI, 900, .inl td)), (md, .inl (cI, 16, .inl dp)), (mp, .inl (cI, 16, .inl pr))] H := hP
  have hD : va_D A [(mo, .inr (6, [.int th, .ref mx, .int (nI sn), .int p0, .int p1, .ref mt, .int (nI pn), .int (nI kp), .int (nI cm), .ref md, .ref mp])), (mx, .inl (cI, 500, .inl tx)), (mt, .inl (cI, 900, .inl td)), (md, .inl (cI, 16, .inl dp)), (mp, .inl (cI, 16, .inl pr))] := hD
  refine lv_iconst (v := (-1)) hx hb dX6_fails_10 (by decide) ?_
  have hP9 := hP
  have hS9 := hS
  exact W.iret hx hb hr (fun t ht hW => ⟨rfl, by rw [ht]; exact hP9, hS9.F ht⟩) hS9.2.2 dX6_fails_11
set_option maxHeartbeats 4000000 in
set_option maxRecDepth 100000 in
theorem kX6_sign (l : Launch) (dC : Nat → ClassId) (dI : Nat → Nat → Nat) (B : Nat) (cI cC cJ : ClassId) (mo : Nat) (mx : Nat) (mt : Nat) (md : Nat) (mp : Nat) (tx : Nat → Int32) (td : Nat → Int32) (dp : Nat → Int32) (pr : Nat → Int32) (th : Int32) (fl : Int32) (fa : Int32) (sn : Nat) (pn : Nat) (kp : Nat) (cm : Nat) (p0 : Int32) (b1 : Bool) (tx1 : Nat → Int32) (sn1 : Nat) (hsn : sn ≤ 500) (hpn : pn ≤ 50) (hkp : kp ≤ 50) (hcm : cm ≤ 50) (hF : m_sign tx sn p0 = (b1, tx1, sn1)) (sz9 : Nat) : Met l yX6_sign wsX6_sign ({ frames := 1, cells := 0, slots := 0, locals := 22 }) (q_Mp (dC, dI) vwCl [.ref mo, .int p0] [(mo, .inr (6, [.int th, .ref mx, .int (nI sn), .int fl, .int fa, .ref mt, .int (nI pn), .int (nI kp), .int (nI cm), .ref md, .ref mp])), (mx, .inl (cI, 500, .inl tx)), (mt, .inl (cI, 900, .inl td)), (md, .inl (cI, 16, .inl dp)), (mp, .inl (cI, 16, .inl pr))] [(cI, .int), (cC, .char), (cJ, .long)] B sz9) (q_Mq (dC, dI) vwCl [(mo, .inr (6, [.int 0, .ref mx, .int (nI sn1), .int fl, .int fa, .ref mt, .int (nI pn), .int (nI kp), .int (nI cm), .ref md, .ref mp])), (mx, .inl (cI, 500, .inl tx1)), (mt, .inl (cI, 900, .inl td)), (md, .inl (cI, 16, .inl dp)), (mp, .inl (cI, 16, .inl pr))] (va_A [(mo, .inr (6, [.int th, .ref mx, .int (nI sn), .int fl, .int fa, .ref mt, .int (nI pn), .int (nI kp), .int (nI cm), .ref md, .ref mp])), (mx, .inl (cI, 500, .inl tx)), (mt, .inl (cI, 900, .inl td)), (md, .inl (cI, 16, .inl dp)), (mp, .inl (cI, 16, .inl pr))] sz9) (some (.int (bI b1)))) 0 0 (va_A [(mo, .inr (6, [.int th, .ref mx, .int (nI sn), .int fl, .int fa, .ref mt, .int (nI pn), .int (nI kp), .int (nI cm), .ref md, .ref mp])), (mx, .inl (cI, 500, .inl tx)), (mt, .inl (cI, 900, .inl td)), (md, .inl (cI, 16, .inl dp)), (mp, .inl (cI, 16, .inl pr))] sz9) := by
  refine Met.ofW (cc := cX6_sign) (maxL := 2) (ret := (some .boolean)) (by decide) rfl ?_
  intro p e s m args below meth c s₁ Bd hml hv
  obtain ⟨rfl, hsz9, hB, hP, hK, hD0, hT⟩ := hv
  have hx := Bd.exec
  have hb := Bd.bytes
  have hr := Bd.returns
  have hts := atoms_spec (ws := wsX6_sign) Bd.pre
  have hg : ∀ w ∈ lw_good, w.before _ s = true := fun w h => hts w (List.mem_cons_of_mem _ h)
  have hown : s.vm.findClass RX6 = some m.cls := findClass_of_methodNamed Bd.named
  have hlocks := Bd.notSynchronized
  subst hsz9
  have hD := hD0.self (sz := s.heap.size)
  generalize hAe : va_A [(mo, .inr (6, [.int th, .ref mx, .int (nI sn), .int fl, .int fa, .ref mt, .int (nI pn), .int (nI kp), .int (nI cm), .ref md, .ref mp])), (mx, .inl (cI, 500, .inl tx)), (mt, .inl (cI, 900, .inl td)), (md, .inl (cI, 16, .inl dp)), (mp, .inl (cI, 16, .inl pr))] s.heap.size = A at hD ⊢
  have hA : ∀ q : Nat, s.heap.size ≤ q → A q := fun q h => by rw [← hAe]; exact Or.inr h
  have hAB : ∀ q, A q → B ≤ q := by rw [← hAe]; exact va_A.ge hD0 hB
  have hS : va_S A s.heap s.heap [] := va_S.rf
  have hP : va_P (dC, dI) vwCl [(mo, .inr (6, [.int th, .ref mx, .int (nI sn), .int fl, .int fa, .ref mt, .int (nI pn), .int (nI kp), .int (nI cm), .ref md, .ref mp])), (mx, .inl (cI, 500, .inl tx)), (mt, .inl (cI, 900, .inl td)), (md, .inl (cI, 16, .inl dp)), (mp, .inl (cI, 16, .inl pr))] s.heap := hP
  have hl := lv_entry ([.ref mo, .int p0]) (n := 2) (Nat.le_of_ble_eq_true rfl)
  rw [lg_entry_eq]
  generalize (lg_sl ([.ref mo, .int p0]) ++ List.replicate (2 - (lg_sl ([.ref mo, .int p0])).length) Slot.unset).toArray = ls at hl ⊢
  have hl : lv_has ls 2 [(0, .ref mo), (1, .int p0)] := hl
  refine lv_aload_n hx hb dX6_sign_0 rfl (lv_at hl 0 rfl) ?_
  refine lv_iconst (v := 0) hx hb dX6_sign_1 (by decide) ?_
  refine va_put (D := (dC, dI)) (ci := 6) (v := .int 0) (ty := .int) (C := RX6) (T := TX6) (N := 11) hx hb hg in_X6 tyX6 tyX6_ok nmX6_ok hown hK hP hD hS 0 rfl rfl 0 (by decide) (hg _ w_503) (fun _ h9 => h9) rfl (by decide +kernel) rfl rfl (Nat.le_of_ble_eq_true rfl) dX6_sign_2 (fun H locs hP hD hS => ?_)
  have hP : va_P (dC, dI) vwCl [(mo, .inr (6, [.int 0, .ref mx, .int (nI sn), .int fl, .int fa, .ref mt, .int (nI pn), .int (nI kp), .int (nI cm), .ref md, .ref mp])), (mx, .inl (cI, 500, .inl tx)), (mt, .inl (cI, 900, .inl td)), (md, .inl (cI, 16, .inl dp)), (mp, .inl (cI, 16, .inl pr))] H := hP
  have hD : va_D A [(mo, .inr (6, [.int 0, .ref mx, .int (nI sn), .int fl, .int fa, .ref mt, .int (nI pn), .int (nI kp), .int (nI cm), .ref md, .ref mp])), (mx, .inl (cI, 500, .inl tx)), (mt, .inl (cI, 900, .inl td)), (md, .inl (cI, 16, .inl dp)), (mp, .inl (cI, 16, .inl pr))] := hD
  refine lv_iload_n hx hb dX6_sign_5 rfl (lv_at hl 1 rfl) ?_
  refine lv_bipush (v := 33) hx hb dX6_sign_6 (by decide) ?_
  refine lv_bipush (v := 126) hx hb dX6_sign_8 (by decide) ?_
  refine go_R (r := (bI (m_in p0 33 126))) (va_runS (As := [.int p0, .int 33, .int 126]) (rest := []) ⟨hx, hb, hml, hown, hg⟩ (kX6_in l dC dI B cI cC cJ p0 33 126) (va_cwS 3 hg (gi_S w_545 w_546 w_8 w_547) rfl rfl rfl (by decide +kernel) ⟨Nat.le_of_ble_eq_true rfl, Nat.le_of_ble_eq_true rfl⟩) (pre_RS (hP.sub [] rfl) hK (hT.kept (hS.mono hAB))) rfl rfl hl.1 rfl (lv_room (Nat.le_of_ble_eq_true rfl)) dX6_sign_10 ⟨Nat.le_of_ble_eq_true rfl, Nat.le_of_ble_eq_true rfl⟩) ?_
  refine lv_if_eq (tgt := 26) hx hb dX6_sign_13 (by decide) (fun c_1 => ?_) (fun c_1 => ?_)
  · skip
    have c_1 := bI_eq0 c_1
    refine lv_iconst (v := 0) hx hb dX6_sign_26 (by decide) ?_
    have hP9 := hP
    have hS9 := hS
    have h9 : m_sign tx sn p0 = (false, tx, sn) := by simp [m_sign, c_1]
    have h9 := hF.symm.trans h9
    cases h9
    exact W.zret (ty := .boolean) hx hb hr rfl (fun t ht hW => ⟨rfl, by rw [ht]; exact hP9, hS9.F ht⟩) hS9.2.2 dX6_sign_27
  · skip
    have c_1 := bI_ne0 c_1
    refine lv_aload_n hx hb dX6_sign_16 rfl (lv_at hl 0 rfl) ?_
    refine va_get (D := (dC, dI)) (ci := 6) (v := .int (nI sn)) (C := RX6) (T := TX6) (N := 11) hx hb hg in_X6 hown hK hP 0 rfl rfl 2 (by decide) (hg _ w_505) (fun _ h9 => h9) rfl dX6_sign_17 ?_
    refine lv_sipush (v := 500) hx hb dX6_sign_20 (by decide) ?_
    refine lv_icmp_ne (tgt := 28) hx hb dX6_sign_23 (by decide) (fun c_2 => ?_) (fun c_2 => ?_)
    · skip
      have c_2 := na_ne (a := sn) (b := 500) c_2 (by omega) (by omega)
      refine lv_aload_n hx hb dX6_sign_28 rfl (lv_at hl 0 rfl) ?_
      refine va_get (D := (dC, dI)) (ci := 6) (v := .ref mx) (C := RX6) (T := TX6) (N := 11) hx hb hg in_X6 hown hK hP 0 rfl rfl 1 (by decide) (hg _ w_504) (fun _ h9 => h9) rfl dX6_sign_29 ?_
      refine lv_aload_n hx hb dX6_sign_32 rfl (lv_at hl 0 rfl) ?_
      refine va_get (D := (dC, dI)) (ci := 6) (v := .int (nI sn)) (C := RX6) (T := TX6) (N := 11) hx hb hg in_X6 hown hK hP 0 rfl rfl 2 (by decide) (hg _ w_505) (fun _ h9 => h9) rfl dX6_sign_33 ?_
      refine lv_iload_n hx hb dX6_sign_36 rfl (lv_at hl 1 rfl) ?_
      refine x_iast (k := sn) hx hb hK hP hD hS 1 0 rfl rfl (by omega) (by decide) dX6_sign_37 (fun H locs hP hD hS => ?_)
      have hP : va_P (dC, dI) vwCl [(mo, .inr (6, [.int 0, .ref mx, .int (nI sn), .int fl, .int fa, .ref mt, .int (nI pn), .int (nI kp), .int (nI cm), .ref md, .ref mp])), (mx, .inl (cI, 500, .inl (upd tx sn p0))), (mt, .inl (cI, 900, .inl td)), (md, .inl (cI, 16, .inl dp)), (mp, .inl (cI, 16, .inl pr))] H := hP
      have hD : va_D A [(mo, .inr (6, [.int 0, .ref mx, .int (nI sn), .int fl, .int fa, .ref mt, .int (nI pn), .int (nI kp), .int (nI cm), .ref md, .ref mp])), (mx, .inl (cI, 500, .inl (upd tx sn p0))), (mt, .inl (cI, 900, .inl td)), (md, .inl (cI, 16, .inl dp)), (mp, .inl (cI, 16, .inl pr))] := hD
      refine lv_aload_n hx hb dX6_sign_38 rfl (lv_at hl 0 rfl) ?_
      refine lv_dup hx hb dX6_sign_39 rfl ?_
      refine va_get (D := (dC, dI)) (ci := 6) (v := .int (nI sn)) (C := RX6) (T := TX6) (N := 11) hx hb hg in_X6 hown hK hP 0 rfl rfl 2 (by decide) (hg _ w_505) (fun _ h9 => h9) rfl dX6_sign_40 ?_
      refine lv_iconst (v := 1) hx hb dX6_sign_43 (by decide) ?_
      refine lv_iadd hx hb dX6_sign_44 ?_
      refine top_eq (y := (nI (sn + 1))) (by exact nI_add _ _) ?_
      refine va_put (D := (dC, dI)) (ci := 6) (v := .int (nI (sn + 1))) (ty := .int) (C := RX6) (T := TX6) (N := 11) hx hb hg in_X6 tyX6 tyX6_ok nmX6_ok hown hK hP hD hS 0 rfl rfl 2 (by decide) (hg _ w_505) (fun _ h9 => h9) rfl (by decide +kernel) rfl rfl (Nat.le_of_ble_eq_true rfl) dX6_sign_45 (fun H locs hP hD hS => ?_)
      have hP : va_P (dC, dI) vwCl [(mo, .inr (6, [.int 0, .ref mx, .int (nI (sn + 1)), .int fl, .int fa, .ref mt, .int (nI pn), .int (nI kp), .int (nI cm), .ref md, .ref mp])), (mx, .inl (cI, 500, .inl (upd tx sn p0))), (mt, .inl (cI, 900, .inl td)), (md, .inl (cI, 16, .inl dp)), (mp, .inl (cI, 16, .inl pr))] H := hP
      have hD : va_D A [(mo, .inr (6, [.int 0, .ref mx, .int (nI (sn + 1)), .int fl, .int fa, .ref mt, .int (nI pn), .int (nI kp), .int (nI cm), .ref md, .ref mp])), (mx, .inl (cI, 500, .inl (upd tx sn p0))), (mt, .inl (cI, 900, .inl td)), (md, .inl (cI, 16, .inl dp)), (mp, .inl (cI, 16, .inl pr))] := hD
      refine lv_iconst (v := 1) hx hb dX6_sign_48 (by decide) ?_
      have hP9 := hP
      have hS9 := hS
      have h9 : m_sign tx sn p0 = (true, upd tx sn p0, sn + 1) := by simp [m_sign, c_1, c_2]
      have h9 := hF.symm.trans h9
      cases h9
      exact W.zret (ty := .boolean) hx hb hr rfl (fun t ht hW => ⟨rfl, by rw [ht]; exact hP9, hS9.F ht⟩) hS9.2.2 dX6_sign_49
    · skip
      have c_2 := na_eq (a := sn) (b := 500) c_2 (by omega) (by omega)
      refine lv_iconst (v := 0) hx hb dX6_sign_26 (by decide) ?_
      have hP9 := hP
      have hS9 := hS
      have h9 : m_sign tx sn p0 = (false, tx, sn) := by simp [m_sign, c_1, eq_true c_2]
      have h9 := hF.symm.trans h9
      cases h9
      exact W.zret (ty := .boolean) hx hb hr rfl (fun t ht hW => ⟨rfl, by rw [ht]; exact hP9, hS9.F ht⟩) hS9.2.2 dX6_sign_27
set_option maxHeartbeats 4000000 in
set_option maxRecDepth 100000 in
theorem kX6_readsNumber (l : Launch) (dC : Nat → ClassId) (dI : Nat → Nat → Nat) (B : Nat) (cI cC cJ : ClassId) (mo : Nat) (mx : Nat) (mt : Nat) (md : Nat) (mp : Nat) (tx : Nat → Int32) (td : Nat → Int32) (dp : Nat → Int32) (pr : Nat → Int32) (th : Int32) (fl : Int32) (fa : Int32) (sn : Nat) (pn : Nat) (kp : Nat) (cm : Nat) (q0 : Nat) (p1 : Int32) (p2 : Int32) (r1 : Option Nat) (td1 : Nat → Int32) (fl1 : Int32) (fa1 : Int32) (hsn : sn ≤ 500) (hpn : pn ≤ 50) (hkp : kp ≤ 50) (hcm : cm ≤ 50) (hq0 : q0 ≤ 501) (hc9 : cm < 50) (hi : m_hi p1) (hF : m_rdNum tx sn cm q0 p1 p2 td fl fa = (r1, td1, fl1, fa1)) (sz9 : Nat) : Met l yX6_readsNumber wsX6_readsNumber ({ frames := 3, cells := 0, slots := 0, locals := 69 }) (q_Mp (dC, dI) vwCl [.ref mo, .int (nI q0), .int p1, .int p2] [(mo, .inr (6, [.int th, .ref mx, .int (nI sn), .int fl, .int fa, .ref mt, .int (nI pn), .int (nI kp), .int (nI cm), .ref md, .ref mp])), (mx, .inl (cI, 500, .inl tx)), (mt, .inl (cI, 900, .inl td)), (md, .inl (cI, 16, .inl dp)), (mp, .inl (cI, 16, .inl pr))] [(cI, .int), (cC, .char), (cJ, .long)] B sz9) (q_Mq (dC, dI) vwCl [(mo, .inr (6, [.int th, .ref mx, .int (nI sn), .int fl1, .int fa1, .ref mt, .int (nI pn), .int (nI kp), .int (nI cm), .ref md, .ref mp])), (mx, .inl (cI, 500, .inl tx)), (mt, .inl (cI, 900, .inl td1)), (md, .inl (cI, 16, .inl dp)), (mp, .inl (cI, 16, .inl pr))] (va_A [(mo, .inr (6, [.int th, .ref mx, .int (nI sn), .int fl, .int fa, .ref mt, .int (nI pn), .int (nI kp), .int (nI cm), .ref md, .ref mp])), (mx, .inl (cI, 500, .inl tx)), (mt, .inl (cI, 900, .inl td)), (md, .inl (cI, 16, .inl dp)), (mp, .inl (cI, 16, .inl pr))] sz9) (some (.int (oI r1)))) 0 0 (va_A [(mo, .inr (6, [.int th, .ref mx, .int (nI sn), .int fl, .int fa, .ref mt, .int (nI pn), .int (nI kp), .int (nI cm), .ref md, .ref mp])), (mx, .inl (cI, 500, .inl tx)), (mt, .inl (cI, 900, .inl td)), (md, .inl (cI, 16, .inl dp)), (mp, .inl (cI, 16, .inl pr))] sz9) := by
  refine Met.ofW (cc := cX6_readsNumber) (maxL := 7) (ret := (some .int)) (by decide) rfl ?_
  intro p e s m args below meth c s₁ Bd hml hv
  obtain ⟨rfl, hsz9, hB, hP, hK, hD0, hT⟩ := hv
  have hx := Bd.exec
  have hb := Bd.bytes
  have hr := Bd.returns
  have hts := atoms_spec (ws := wsX6_readsNumber) Bd.pre
  have hg : ∀ w ∈ lw_good, w.before _ s = true := fun w h => hts w (List.mem_cons_of_mem _ h)
  have hown : s.vm.findClass RX6 = some m.cls := findClass_of_methodNamed Bd.named
  have hlocks := Bd.notSynchronized
  subst hsz9
  have hD := hD0.self (sz := s.heap.size)
  generalize hAe : va_A [(mo, .inr (6, [.int th, .ref mx, .int (nI sn), .int fl, .int fa, .ref mt, .int (nI pn), .int (nI kp), .int (nI cm), .ref md, .ref mp])), (mx, .inl (cI, 500, .inl tx)), (mt, .inl (cI, 900, .inl td)), (md, .inl (cI, 16, .inl dp)), (mp, .inl (cI, 16, .inl pr))] s.heap.size = A at hD ⊢
  have hA : ∀ q : Nat, s.heap.size ≤ q → A q := fun q h => by rw [← hAe]; exact Or.inr h
  have hAB : ∀ q, A q → B ≤ q := by rw [← hAe]; exact va_A.ge hD0 hB
  have hS : va_S A s.heap s.heap [] := va_S.rf
  have hP : va_P (dC, dI) vwCl [(mo, .inr (6, [.int th, .ref mx, .int (nI sn), .int fl, .int fa, .ref mt, .int (nI pn), .int (nI kp), .int (nI cm), .ref md, .ref mp])), (mx, .inl (cI, 500, .inl tx)), (mt, .inl (cI, 900, .inl td)), (md, .inl (cI, 16, .inl dp)), (mp, .inl (cI, 16, .inl pr))] s.heap := hP
  have hl := lv_entry ([.ref mo, .int (nI q0), .int p1, .int p2]) (n := 7) (Nat.le_of_ble_eq_true rfl)
  rw [lg_entry_eq]
  generalize (lg_sl ([.ref mo, .int (nI q0), .int p1, .int p2]) ++ List.replicate (7 - (lg_sl ([.ref mo, .int (nI q0), .int p1, .int p2])).length) Slot.unset).toArray = ls at hl ⊢
  have hl : lv_has ls 7 [(0, .ref mo), (1, .int (nI q0)), (2, .int p1), (3, .int p2)] := hl
  have hix := m_ix_le hi
  refine lv_aload_n hx hb dX6_readsNumber_0 rfl (lv_at hl 0 rfl) ?_
  refine lv_iload_n hx hb dX6_readsNumber_1 rfl (lv_at hl 1 rfl) ?_
  refine go_R (r := m_number tx sn q0) (va_runV (As := [.int (nI q0)]) (rest := []) ⟨hx, hb, hml, hown, hg⟩ (kX6_numberAt l dC dI B cI cC cJ mo mx mt md mp tx td dp pr th fl fa sn pn kp cm q0 (by omega) (by omega) (by omega) (by omega) (by omega)) (cwV 1 hg (gi_V w_567 w_568 w_699 w_8 w_569) rfl rfl rfl (by decide +kernel) ⟨Nat.le_of_ble_eq_true rfl, Nat.le_of_ble_eq_true rfl⟩) (pre_RV (va_recv hK hP (ci := 6) (q0 := 0) rfl rfl) (hP.sub [0, 1, 2, 3, 4] rfl) hK hT) rfl rfl hl.1 rfl (lv_room (Nat.le_of_ble_eq_true rfl)) dX6_readsNumber_2 ⟨Nat.le_of_ble_eq_true rfl, Nat.le_of_ble_eq_true rfl⟩) ?_
  refine lv_istore (lv' := [(4, .int (m_number tx sn q0)), (0, .ref mo), (1, .int (nI q0)), (2, .int p1), (3, .int p2)]) hx hb dX6_readsNumber_5 hl (by decide) rfl (fun ls hl => ?_)
  refine lv_iload hx hb dX6_readsNumber_7 (lv_at hl 0 rfl) ?_
  refine lv_if_ge (tgt := 19) hx hb dX6_readsNumber_9 (by decide) (fun c_1 => ?_) (fun c_1 => ?_)
  · skip
    refine lv_aload_n hx hb dX6_readsNumber_19 rfl (lv_at hl 1 rfl) ?_
    refine lv_iload_n hx hb dX6_readsNumber_20 rfl (lv_at hl 3 rfl) ?_
    refine lv_iload hx hb dX6_readsNumber_21 (lv_at hl 0 rfl) ?_
    refine go_R (r := m_wrong td cm p1 (m_number tx sn q0)) (va_runV (As := [.int p1, .int (m_number tx sn q0)]) (rest := []) ⟨hx, hb, hml, hown, hg⟩ (kX6_wrong l dC dI B cI cC cJ mo mx mt md mp tx td dp pr th fl fa sn pn kp cm p1 (m_number tx sn q0) (by omega) (by omega) (by omega) (by omega) (by omega)) (cwV 2 hg (gi_V w_576 w_577 w_701 w_8 w_578) rfl rfl rfl (by decide +kernel) ⟨Nat.le_of_ble_eq_true rfl, Nat.le_of_ble_eq_true rfl⟩) (pre_RV (va_recv hK hP (ci := 6) (q0 := 0) rfl rfl) (hP.sub [0, 1, 2, 3, 4] rfl) hK hT) rfl rfl hl.1 rfl (lv_room (Nat.le_of_ble_eq_true rfl)) dX6_readsNumber_23 ⟨Nat.le_of_ble_eq_true rfl, Nat.le_of_ble_eq_true rfl⟩) ?_
    refine lv_istore (lv' := [(5, .int (m_wrong td cm p1 (m_number tx sn q0))), (4, .int (m_number tx sn q0)), (0, .ref mo), (1, .int (nI q0)), (2, .int p1), (3, .int p2)]) hx hb dX6_readsNumber_26 hl (by decide) rfl (fun ls hl => ?_)
    refine lv_iload hx hb dX6_readsNumber_28 (lv_at hl 0 rfl) ?_
    refine lv_if_le (tgt := 41) hx hb dX6_readsNumber_30 (by decide) (fun c_2 => ?_) (fun c_2 => ?_)
    · skip
      refine lv_aload_n hx hb dX6_readsNumber_41 rfl (lv_at hl 2 rfl) ?_
      refine va_get (D := (dC, dI)) (ci := 6) (v := .ref mt) (C := RX6) (T := TX6) (N := 11) hx hb hg in_X6 hown hK hP 0 rfl rfl 5 (by decide) (hg _ w_508) (fun _ h9 => h9) rfl dX6_readsNumber_42 ?_
      refine lv_sipush (v := 600) hx hb dX6_readsNumber_45 (by decide) ?_
      refine lv_bipush (v := 6) hx hb dX6_readsNumber_48 (by decide) ?_
      refine lv_aload_n hx hb dX6_readsNumber_50 rfl (lv_at hl 2 rfl) ?_
      refine va_get (D := (dC, dI)) (ci := 6) (v := .int (nI cm)) (C := RX6) (T := TX6) (N := 11) hx hb hg in_X6 hown hK hP 0 rfl rfl 8 (by decide) (hg _ w_511) (fun _ h9 => h9) rfl dX6_readsNumber_51 ?_
      refine lv_imul hx hb dX6_readsNumber_54 ?_
      refine top_eq (y := (nI (6 * cm))) (by exact pk_mul _ _) ?_
      refine lv_iadd hx hb dX6_readsNumber_55 ?_
      refine top_eq (y := (nI (600 + (6 * cm)))) (by exact nI_add _ _) ?_
      refine lv_iconst (v := 2) hx hb dX6_readsNumber_56 (by decide) ?_
      refine lv_iadd hx hb dX6_readsNumber_57 ?_
      refine top_eq (y := (nI ((600 + (6 * cm)) + 2))) (by exact nI_add _ _) ?_
      refine lv_iload_n hx hb dX6_readsNumber_58 rfl (lv_at hl 4 rfl) ?_
      refine lv_iadd hx hb dX6_readsNumber_59 ?_
      refine top_eq (y := nI (600 + 6 * cm + m_ix p1)) (ix_add hi (600 + 6 * cm)) ?_
      refine lv_iload hx hb dX6_readsNumber_60 (lv_at hl 1 rfl) ?_
      refine x_iast (k := 600 + 6 * cm + m_ix p1) hx hb hK hP hD hS 2 0 rfl rfl (by omega) (by decide) dX6_readsNumber_62 (fun H locs hP hD hS => ?_)
      have hP : va_P (dC, dI) vwCl [(mo, .inr (6, [.int th, .ref mx, .int (nI sn), .int fl, .int fa, .ref mt, .int (nI pn), .int (nI kp), .int (nI cm), .ref md, .ref mp])), (mx, .inl (cI, 500, .inl tx)), (mt, .inl (cI, 900, .inl (upd td (600 + 6 * cm + m_ix p1) (m_number tx sn q0)))), (md, .inl (cI, 16, .inl dp)), (mp, .inl (cI, 16, .inl pr))] H := hP
      have hD : va_D A [(mo, .inr (6, [.int th, .ref mx, .int (nI sn), .int fl, .int fa, .ref mt, .int (nI pn), .int (nI kp), .int (nI cm), .ref md, .ref mp])), (mx, .inl (cI, 500, .inl tx)), (mt, .inl (cI, 900, .inl (upd td (600 + 6 * cm + m_ix p1) (m_number tx sn q0)))), (md, .inl (cI, 16, .inl dp)), (mp, .inl (cI, 16, .inl pr))] := hD
      refine lv_aload_n hx hb dX6_readsNumber_63 rfl (lv_at hl 2 rfl) ?_
      refine lv_iload_n hx hb dX6_readsNumber_64 rfl (lv_at hl 3 rfl) ?_
      refine lv_iconst (v := 1) hx hb dX6_readsNumber_65 (by decide) ?_
      refine lv_iadd hx hb dX6_readsNumber_66 ?_
      refine top_eq (y := (nI (q0 + 1))) (by exact nI_add _ _) ?_
      refine go_R (r := m_signAt tx sn (q0 + 1)) (va_runV (As := [.int (nI (q0 + 1))]) (rest := []) ⟨hx, hb, hml, hown, hg⟩ (kX6_signAt l dC dI B cI cC cJ mo mx mt md mp tx (upd td (600 + 6 * cm + m_ix p1) (m_number tx sn q0)) dp pr th fl fa sn pn kp cm (q0 + 1) (by omega) (by omega) (by omega) (by omega) (by omega)) (cwV 1 hg (gi_V w_570 w_571 w_700 w_8 w_572) rfl rfl rfl (by decide +kernel) ⟨Nat.le_of_ble_eq_true rfl, Nat.le_of_ble_eq_true rfl⟩) (pre_RV (va_recv hK hP (ci := 6) (q0 := 0) rfl rfl) (hP.sub [0, 1, 2, 3, 4] rfl) hK (hT.kept (hS.mono hAB))) rfl rfl hl.1 rfl (lv_room (Nat.le_of_ble_eq_true rfl)) dX6_readsNumber_67 ⟨Nat.le_of_ble_eq_true rfl, Nat.le_of_ble_eq_true rfl⟩) ?_
      refine go_R (r := (bI (m_isDigit (m_signAt tx sn (q0 + 1))))) (va_runS (As := [.int (m_signAt tx sn (q0 + 1))]) (rest := []) ⟨hx, hb, hml, hown, hg⟩ (kX6_isDigit l dC dI B cI cC cJ (m_signAt tx sn (q0 + 1))) (va_cwS 1 hg (gi_S w_573 w_574 w_8 w_575) rfl rfl rfl (by decide +kernel) ⟨Nat.le_of_ble_eq_true rfl, Nat.le_of_ble_eq_true rfl⟩) (pre_RS (hP.sub [] rfl) hK (hT.kept (hS.mono hAB))) rfl rfl hl.1 rfl (lv_room (Nat.le_of_ble_eq_true rfl)) dX6_readsNumber_70 ⟨Nat.le_of_ble_eq_true rfl, Nat.le_of_ble_eq_true rfl⟩) ?_
      refine lv_if_eq (tgt := 82) hx hb dX6_readsNumber_73 (by decide) (fun c_3 => ?_) (fun c_3 => ?_)
      · skip
        have c_3 := bI_eq0 c_3
        refine lv_iload_n hx hb dX6_readsNumber_82 rfl (lv_at hl 3 rfl) ?_
        refine lv_iconst (v := 1) hx hb dX6_readsNumber_83 (by decide) ?_
        refine lv_iadd hx hb dX6_readsNumber_84 ?_
        refine top_eq (y := (nI (q0 + 1))) (by exact nI_add _ _) ?_
        refine lv_istore (lv' := [(6, .int (nI (q0 + 1))), (5, .int (m_wrong td cm p1 (m_number tx sn q0))), (4, .int (m_number tx sn q0)), (0, .ref mo), (1, .int (nI q0)), (2, .int p1), (3, .int p2)]) hx hb dX6_readsNumber_85 hl (by decide) rfl (fun ls hl => ?_)
        refine lv_aload_n hx hb dX6_readsNumber_87 rfl (lv_at hl 3 rfl) ?_
        refine lv_iload hx hb dX6_readsNumber_88 (lv_at hl 0 rfl) ?_
        refine go_R (r := m_signAt tx sn (q0 + 1)) (va_runV (As := [.int (nI (q0 + 1))]) (rest := []) ⟨hx, hb, hml, hown, hg⟩ (kX6_signAt l dC dI B cI cC cJ mo mx mt md mp tx (upd td (600 + 6 * cm + m_ix p1) (m_number tx sn q0)) dp pr th fl fa sn pn kp cm (q0 + 1) (by omega) (by omega) (by omega) (by omega) (by omega)) (cwV 1 hg (gi_V w_570 w_571 w_700 w_8 w_572) rfl rfl rfl (by decide +kernel) ⟨Nat.le_of_ble_eq_true rfl, Nat.le_of_ble_eq_true rfl⟩) (pre_RV (va_recv hK hP (ci := 6) (q0 := 0) rfl rfl) (hP.sub [0, 1, 2, 3, 4] rfl) hK (hT.kept (hS.mono hAB))) rfl rfl hl.1 rfl (lv_room (Nat.le_of_ble_eq_true rfl)) dX6_readsNumber_90 ⟨Nat.le_of_ble_eq_true rfl, Nat.le_of_ble_eq_true rfl⟩) ?_
        refine lv_iload_n hx hb dX6_readsNumber_93 rfl (lv_at hl 6 rfl) ?_
        refine lv_icmp_ne (tgt := 104) hx hb dX6_readsNumber_94 (by decide) (fun c_4 => ?_) (fun c_4 => ?_)
        · skip
          refine lv_aload_n hx hb dX6_readsNumber_104 rfl (lv_at hl 3 rfl) ?_
          refine lv_iconst (v := 1) hx hb dX6_readsNumber_105 (by decide) ?_
          refine lv_iload hx hb dX6_readsNumber_106 (lv_at hl 0 rfl) ?_
          refine go_M (r := some (.int (-1))) (wc' := [(mo, .inr (6, [.int th, .ref mx, .int (nI sn), .int 1, .int (nI (q0 + 1)), .ref mt, .int (nI pn), .int (nI kp), .int (nI cm), .ref md, .ref mp])), (mx, .inl (cI, 500, .inl tx)), (mt, .inl (cI, 900, .inl (upd td (600 + 6 * cm + m_ix p1) (m_number tx sn q0)))), (md, .inl (cI, 16, .inl dp)), (mp, .inl (cI, 16, .inl pr))]) (w2 := [(mo, .inr (6, [.int th, .ref mx, .int (nI sn), .int 1, .int (nI (q0 + 1)), .ref mt, .int (nI pn), .int (nI kp), .int (nI cm), .ref md, .ref mp])), (mx, .inl (cI, 500, .inl tx)), (mt, .inl (cI, 900, .inl (upd td (600 + 6 * cm + m_ix p1) (m_number tx sn q0)))), (md, .inl (cI, 16, .inl dp)), (mp, .inl (cI, 16, .inl pr))]) [0, 1, 2, 3, 4] (va_runV (As := [.int 1, .int (nI (q0 + 1))]) (rest := []) ⟨hx, hb, hml, hown, hg⟩ (kX6_fails l dC dI B cI cC cJ mo mx mt md mp tx (upd td (600 + 6 * cm + m_ix p1) (m_number tx sn q0)) dp pr th fl fa sn pn kp cm 1 (nI (q0 + 1)) (by omega) (by omega) (by omega) (by omega) _) (cwV 2 hg (gi_V w_561 w_562 w_697 w_8 w_563) rfl rfl rfl (by decide +kernel) ⟨Nat.le_of_ble_eq_true rfl, Nat.le_of_ble_eq_true rfl⟩) (pre_MV (va_recv hK hP (ci := 6) (q0 := 0) rfl rfl) (Nat.le_trans hB hS.1) (hP.sub [0, 1, 2, 3, 4] rfl) hK ((hD.weaken (fun _ _ _ h => hAB _ h)).sub [0, 1, 2, 3, 4] (by decide) rfl) (hT.kept (hS.mono hAB))) rfl rfl hl.1 rfl (lv_room (Nat.le_of_ble_eq_true rfl)) dX6_readsNumber_108 ⟨Nat.le_of_ble_eq_true rfl, Nat.le_of_ble_eq_true rfl⟩) hP hD hS hA rfl (Nat.le_of_ble_eq_true rfl) rfl rfl (fun H locs hP hD hS => ?_)
          refine W.eq (g2 := F0 m 111 ls [.int (-1)]) rfl ?_
          have hP9 := hP
          have hS9 := hS
          have h9 : m_rdNum tx sn cm q0 p1 p2 td fl fa = (none, (upd td (600 + 6 * cm + m_ix p1) (m_number tx sn q0)), 1, (nI (q0 + 1))) := by simp [m_rdNum, m_after, c_1, c_2, c_3, c_4]
          have h9 := hF.symm.trans h9
          cases h9
          exact W.iret hx hb hr (fun t ht hW => ⟨rfl, by rw [ht]; exact hP9, hS9.F ht⟩) hS9.2.2 dX6_readsNumber_111
        · skip
          refine lv_iload hx hb dX6_readsNumber_97 (lv_at hl 0 rfl) ?_
          refine lv_iconst (v := 1) hx hb dX6_readsNumber_99 (by decide) ?_
          refine lv_iadd hx hb dX6_readsNumber_100 ?_
          refine top_eq (y := (nI ((q0 + 1) + 1))) (by exact nI_add _ _) ?_
          refine lv_goto (tgt := 111) hx hb dX6_readsNumber_101 (by decide) ?_
          have hP9 := hP
          have hS9 := hS
          have h9 : m_rdNum tx sn cm q0 p1 p2 td fl fa = ((some ((q0 + 1) + 1)), upd td (600 + 6 * cm + m_ix p1) (m_number tx sn q0), fl, fa) := by simp [m_rdNum, m_after, c_1, c_2, c_3, eq_true c_4]
          have h9 := hF.symm.trans h9
          cases h9
          exact W.iret hx hb hr (fun t ht hW => ⟨rfl, by rw [ht]; exact hP9, hS9.F ht⟩) hS9.2.2 dX6_readsNumber_111
      · skip
        have c_3 := bI_ne0 c_3
        refine lv_iload_n hx hb dX6_readsNumber_76 rfl (lv_at hl 3 rfl) ?_
        refine lv_iconst (v := 2) hx hb dX6_readsNumber_77 (by decide) ?_
        refine lv_iadd hx hb dX6_readsNumber_78 ?_
        refine top_eq (y := (nI (q0 + 2))) (by exact nI_add _ _) ?_
        refine lv_goto (tgt := 85) hx hb dX6_readsNumber_79 (by decide) ?_
        refine lv_istore (lv' := [(6, .int (nI (q0 + 2))), (5, .int (m_wrong td cm p1 (m_number tx sn q0))), (4, .int (m_number tx sn q0)), (0, .ref mo), (1, .int (nI q0)), (2, .int p1), (3, .int p2)]) hx hb dX6_readsNumber_85 hl (by decide) rfl (fun ls hl => ?_)
        refine lv_aload_n hx hb dX6_readsNumber_87 rfl (lv_at hl 3 rfl) ?_
        refine lv_iload hx hb dX6_readsNumber_88 (lv_at hl 0 rfl) ?_
        refine go_R (r := m_signAt tx sn (q0 + 2)) (va_runV (As := [.int (nI (q0 + 2))]) (rest := []) ⟨hx, hb, hml, hown, hg⟩ (kX6_signAt l dC dI B cI cC cJ mo mx mt md mp tx (upd td (600 + 6 * cm + m_ix p1) (m_number tx sn q0)) dp pr th fl fa sn pn kp cm (q0 + 2) (by omega) (by omega) (by omega) (by omega) (by omega)) (cwV 1 hg (gi_V w_570 w_571 w_700 w_8 w_572) rfl rfl rfl (by decide +kernel) ⟨Nat.le_of_ble_eq_true rfl, Nat.le_of_ble_eq_true rfl⟩) (pre_RV (va_recv hK hP (ci := 6) (q0 := 0) rfl rfl) (hP.sub [0, 1, 2, 3, 4] rfl) hK (hT.kept (hS.mono hAB))) rfl rfl hl.1 rfl (lv_room (Nat.le_of_ble_eq_true rfl)) dX6_readsNumber_90 ⟨Nat.le_of_ble_eq_true rfl, Nat.le_of_ble_eq_true rfl⟩) ?_
        refine lv_iload_n hx hb dX6_readsNumber_93 rfl (lv_at hl 6 rfl) ?_
        refine lv_icmp_ne (tgt := 104) hx hb dX6_readsNumber_94 (by decide) (fun c_5 => ?_) (fun c_5 => ?_)
        · skip
          refine lv_aload_n hx hb dX6_readsNumber_104 rfl (lv_at hl 3 rfl) ?_
          refine lv_iconst (v := 1) hx hb dX6_readsNumber_105 (by decide) ?_
          refine lv_iload hx hb dX6_readsNumber_106 (lv_at hl 0 rfl) ?_
          refine go_M (r := some (.int (-1))) (wc' := [(mo, .inr (6, [.int th, .ref mx, .int (nI sn), .int 1, .int (nI (q0 + 2)), .ref mt, .int (nI pn), .int (nI kp), .int (nI cm), .ref md, .ref mp])), (mx, .inl (cI, 500, .inl tx)), (mt, .inl (cI, 900, .inl (upd td (600 + 6 * cm + m_ix p1) (m_number tx sn q0)))), (md, .inl (cI, 16, .inl dp)), (mp, .inl (cI, 16, .inl pr))]) (w2 := [(mo, .inr (6, [.int th, .ref mx, .int (nI sn), .int 1, .int (nI (q0 + 2)), .ref mt, .int (nI pn), .int (nI kp), .int (nI cm), .ref md, .ref mp])), (mx, .inl (cI, 500, .inl tx)), (mt, .inl (cI, 900, .inl (upd td (600 + 6 * cm + m_ix p1) (m_number tx sn q0)))), (md, .inl (cI, 16, .inl dp)), (mp, .inl (cI, 16, .inl pr))]) [0, 1, 2, 3, 4] (va_runV (As := [.int 1, .int (nI (q0 + 2))]) (rest := []) ⟨hx, hb, hml, hown, hg⟩ (kX6_fails l dC dI B cI cC cJ mo mx mt md mp tx (upd td (600 + 6 * cm + m_ix p1) (m_number tx sn q0)) dp pr th fl fa sn pn kp cm 1 (nI (q0 + 2)) (by omega) (by omega) (by omega) (by omega) _) (cwV 2 hg (gi_V w_561 w_562 w_697 w_8 w_563) rfl rfl rfl (by decide +kernel) ⟨Nat.le_of_ble_eq_true rfl, Nat.le_of_ble_eq_true rfl⟩) (pre_MV (va_recv hK hP (ci := 6) (q0 := 0) rfl rfl) (Nat.le_trans hB hS.1) (hP.sub [0, 1, 2, 3, 4] rfl) hK ((hD.weaken (fun _ _ _ h => hAB _ h)).sub [0, 1, 2, 3, 4] (by decide) rfl) (hT.kept (hS.mono hAB))) rfl rfl hl.1 rfl (lv_room (Nat.le_of_ble_eq_true rfl)) dX6_readsNumber_108 ⟨Nat.le_of_ble_eq_true rfl, Nat.le_of_ble_eq_true rfl⟩) hP hD hS hA rfl (Nat.le_of_ble_eq_true rfl) rfl rfl (fun H locs hP hD hS => ?_)
          refine W.eq (g2 := F0 m 111 ls [.int (-1)]) rfl ?_
          have hP9 := hP
          have hS9 := hS
          have h9 : m_rdNum tx sn cm q0 p1 p2 td fl fa = (none, (upd td (600 + 6 * cm + m_ix p1) (m_number tx sn q0)), 1, (nI (q0 + 2))) := by simp [m_rdNum, m_after, c_1, c_2, c_3, c_5]
          have h9 := hF.symm.trans h9
          cases h9
          exact W.iret hx hb hr (fun t ht hW => ⟨rfl, by rw [ht]; exact hP9, hS9.F ht⟩) hS9.2.2 dX6_readsNumber_111
        · skip
          refine lv_iload hx hb dX6_readsNumber_97 (lv_at hl 0 rfl) ?_
          refine lv_iconst (v := 1) hx hb dX6_readsNumber_99 (by decide) ?_
          refine lv_iadd hx hb dX6_readsNumber_100 ?_
          refine top_eq (y := (nI ((q0 + 2) + 1))) (by exact nI_add _ _) ?_
          refine lv_goto (tgt := 111) hx hb dX6_readsNumber_101 (by decide) ?_
          have hP9 := hP
          have hS9 := hS
          have h9 : m_rdNum tx sn cm q0 p1 p2 td fl fa = ((some ((q0 + 2) + 1)), upd td (600 + 6 * cm + m_ix p1) (m_number tx sn q0), fl, fa) := by simp [m_rdNum, m_after, c_1, c_2, c_3, eq_true c_5]
          have h9 := hF.symm.trans h9
          cases h9
          exact W.iret hx hb hr (fun t ht hW => ⟨rfl, by rw [ht]; exact hP9, hS9.F ht⟩) hS9.2.2 dX6_readsNumber_111
    · skip
      refine lv_aload_n hx hb dX6_readsNumber_33 rfl (lv_at hl 2 rfl) ?_
      refine lv_iload hx hb dX6_readsNumber_34 (lv_at hl 0 rfl) ?_
      refine lv_iload_n hx hb dX6_readsNumber_36 rfl (lv_at hl 3 rfl) ?_
      refine go_M (r := some (.int (-1))) (wc' := [(mo, .inr (6, [.int th, .ref mx, .int (nI sn), .int (m_wrong td cm p1 (m_number tx sn q0)), .int (nI q0), .ref mt, .int (nI pn), .int (nI kp), .int (nI cm), .ref md, .ref mp])), (mx, .inl (cI, 500, .inl tx)), (mt, .inl (cI, 900, .inl td)), (md, .inl (cI, 16, .inl dp)), (mp, .inl (cI, 16, .inl pr))]) (w2 := [(mo, .inr (6, [.int th, .ref mx, .int (nI sn), .int (m_wrong td cm p1 (m_number tx sn q0)), .int (nI q0), .ref mt, .int (nI pn), .int (nI kp), .int (nI cm), .ref md, .ref mp])), (mx, .inl (cI, 500, .inl tx)), (mt, .inl (cI, 900, .inl td)), (md, .inl (cI, 16, .inl dp)), (mp, .inl (cI, 16, .inl pr))]) [0, 1, 2, 3, 4] (va_runV (As := [.int (m_wrong td cm p1 (m_number tx sn q0)), .int (nI q0)]) (rest := []) ⟨hx, hb, hml, hown, hg⟩ (kX6_fails l dC dI B cI cC cJ mo mx mt md mp tx td dp pr th fl fa sn pn kp cm (m_wrong td cm p1 (m_number tx sn q0)) (nI q0) (by omega) (by omega) (by omega) (by omega) _) (cwV 2 hg (gi_V w_561 w_562 w_697 w_8 w_563) rfl rfl rfl (by decide +kernel) ⟨Nat.le_of_ble_eq_true rfl, Nat.le_of_ble_eq_true rfl⟩) (pre_MV (va_recv hK hP (ci := 6) (q0 := 0) rfl rfl) (Nat.le_trans hB hS.1) (hP.sub [0, 1, 2, 3, 4] rfl) hK ((hD.weaken (fun _ _ _ h => hAB _ h)).sub [0, 1, 2, 3, 4] (by decide) rfl) hT) rfl rfl hl.1 rfl (lv_room (Nat.le_of_ble_eq_true rfl)) dX6_readsNumber_37 ⟨Nat.le_of_ble_eq_true rfl, Nat.le_of_ble_eq_true rfl⟩) hP hD hS hA rfl (Nat.le_of_ble_eq_true rfl) rfl rfl (fun H locs hP hD hS => ?_)
      refine W.eq (g2 := F0 m 40 ls [.int (-1)]) rfl ?_
      have hP9 := hP
      have hS9 := hS
      have h9 : m_rdNum tx sn cm q0 p1 p2 td fl fa = (none, td, (m_wrong td cm p1 (m_number tx sn q0)), (nI q0)) := by simp [m_rdNum, m_after, c_1, c_2]
      have h9 := hF.symm.trans h9
      cases h9
      exact W.iret hx hb hr (fun t ht hW => ⟨rfl, by rw [ht]; exact hP9, hS9.F ht⟩) hS9.2.2 dX6_readsNumber_40
  · skip
    refine lv_aload_n hx hb dX6_readsNumber_12 rfl (lv_at hl 1 rfl) ?_
    refine lv_iconst (v := 1) hx hb dX6_readsNumber_13 (by decide) ?_
    refine lv_iload_n hx hb dX6_readsNumber_14 rfl (lv_at hl 2 rfl) ?_
    refine go_M (r := some (.int (-1))) (wc' := [(mo, .inr (6, [.int th, .ref mx, .int (nI sn), .int 1, .int (nI q0), .ref mt, .int (nI pn), .int (nI kp), .int (nI cm), .ref md, .ref mp])), (mx, .inl (cI, 500, .inl tx)), (mt, .inl (cI, 900, .inl td)), (md, .inl (cI, 16, .inl dp)), (mp, .inl (cI, 16, .inl pr))]) (w2 := [(mo, .inr (6, [.int th, .ref mx, .int (nI sn), .int 1, .int (nI q0), .ref mt, .int (nI pn), .int (nI kp), .int (nI cm), .ref md, .ref mp])), (mx, .inl (cI, 500, .inl tx)), (mt, .inl (cI, 900, .inl td)), (md, .inl (cI, 16, .inl dp)), (mp, .inl (cI, 16, .inl pr))]) [0, 1, 2, 3, 4] (va_runV (As := [.int 1, .int (nI q0)]) (rest := []) ⟨hx, hb, hml, hown, hg⟩ (kX6_fails l dC dI B cI cC cJ mo mx mt md mp tx td dp pr th fl fa sn pn kp cm 1 (nI q0) (by omega) (by omega) (by omega) (by omega) _) (cwV 2 hg (gi_V w_561 w_562 w_697 w_8 w_563) rfl rfl rfl (by decide +kernel) ⟨Nat.le_of_ble_eq_true rfl, Nat.le_of_ble_eq_true rfl⟩) (pre_MV (va_recv hK hP (ci := 6) (q0 := 0) rfl rfl) (Nat.le_trans hB hS.1) (hP.sub [0, 1, 2, 3, 4] rfl) hK ((hD.weaken (fun _ _ _ h => hAB _ h)).sub [0, 1, 2, 3, 4] (by decide) rfl) hT) rfl rfl hl.1 rfl (lv_room (Nat.le_of_ble_eq_true rfl)) dX6_readsNumber_15 ⟨Nat.le_of_ble_eq_true rfl, Nat.le_of_ble_eq_true rfl⟩) hP hD hS hA rfl (Nat.le_of_ble_eq_true rfl) rfl rfl (fun H locs hP hD hS => ?_)
    refine W.eq (g2 := F0 m 18 ls [.int (-1)]) rfl ?_
    have hP9 := hP
    have hS9 := hS
    have h9 : m_rdNum tx sn cm q0 p1 p2 td fl fa = (none, td, 1, (nI q0)) := by simp [m_rdNum, m_after, c_1]
    have h9 := hF.symm.trans h9
    cases h9
    exact W.iret hx hb hr (fun t ht hW => ⟨rfl, by rw [ht]; exact hP9, hS9.F ht⟩) hS9.2.2 dX6_readsNumber_18
set_option maxHeartbeats 4000000 in
set_option maxRecDepth 100000 in
theorem kX6_readsRow (l : Launch) (dC : Nat → ClassId) (dI : Nat → Nat → Nat) (B : Nat) (cI cC cJ : ClassId) (mo : Nat) (mx : Nat) (mt : Nat) (md : Nat) (mp : Nat) (tx : Nat → Int32) (td : Nat → Int32) (dp : Nat → Int32) (pr : Nat → Int32) (th : Int32) (fl : Int32) (fa : Int32) (sn : Nat) (pn : Nat) (kp : Nat) (cm : Nat) (q0 : Nat) (r1 : Option Nat) (td1 : Nat → Int32) (fl1 : Int32) (fa1 : Int32) (hsn : sn ≤ 500) (hpn : pn ≤ 50) (hkp : kp ≤ 50) (hcm : cm ≤ 50) (hq0 : q0 < sn) (hF : m_rdRow tx sn cm q0 td fl fa = (r1, td1, fl1, fa1)) (sz9 : Nat) : Met l yX6_readsRow wsX6_readsRow ({ frames := 4, cells := 0, slots := 0, locals := 95 }) (q_Mp (dC, dI) vwCl [.ref mo, .int (nI q0)] [(mo, .inr (6, [.int th, .ref mx, .int (nI sn), .int fl, .int fa, .ref mt, .int (nI pn), .int (nI kp), .int (nI cm), .ref md, .ref mp])), (mx, .inl (cI, 500, .inl tx)), (mt, .inl (cI, 900, .inl td)), (md, .inl (cI, 16, .inl dp)), (mp, .inl (cI, 16, .inl pr))] [(cI, .int), (cC, .char), (cJ, .long)] B sz9) (q_Mq (dC, dI) vwCl [(mo, .inr (6, [.int th, .ref mx, .int (nI sn), .int fl1, .int fa1, .ref mt, .int (nI pn), .int (nI kp), .int (nI cm), .ref md, .ref mp])), (mx, .inl (cI, 500, .inl tx)), (mt, .inl (cI, 900, .inl td1)), (md, .inl (cI, 16, .inl dp)), (mp, .inl (cI, 16, .inl pr))] (va_A [(mo, .inr (6, [.int th, .ref mx, .int (nI sn), .int fl, .int fa, .ref mt, .int (nI pn), .int (nI kp), .int (nI cm), .ref md, .ref mp])), (mx, .inl (cI, 500, .inl tx)), (mt, .inl (cI, 900, .inl td)), (md, .inl (cI, 16, .inl dp)), (mp, .inl (cI, 16, .inl pr))] sz9) (some (.int (oI r1)))) 0 0 (va_A [(mo, .inr (6, [.int th, .ref mx, .int (nI sn), .int fl, .int fa, .ref mt, .int (nI pn), .int (nI kp), .int (nI cm), .ref md, .ref mp])), (mx, .inl (cI, 500, .inl tx)), (mt, .inl (cI, 900, .inl td)), (md, .inl (cI, 16, .inl dp)), (mp, .inl (cI, 16, .inl pr))] sz9) := by
  refine Met.ofW (cc := cX6_readsRow) (maxL := 6) (ret := (some .int)) (by decide) rfl ?_
  intro p e s m args below meth c s₁ Bd hml hv
  obtain ⟨rfl, hsz9, hB, hP, hK, hD0, hT⟩ := hv
  have hx := Bd.exec
  have hb := Bd.bytes
  have hr := Bd.returns
  have hts := atoms_spec (ws := wsX6_readsRow) Bd.pre
  have hg : ∀ w ∈ lw_good, w.before _ s = true := fun w h => hts w (List.mem_cons_of_mem _ h)
  have hown : s.vm.findClass RX6 = some m.cls := findClass_of_methodNamed Bd.named
  have hlocks := Bd.notSynchronized
  subst hsz9
  have hD := hD0.self (sz := s.heap.size)
  generalize hAe : va_A [(mo, .inr (6, [.int th, .ref mx, .int (nI sn), .int fl, .int fa, .ref mt, .int (nI pn), .int (nI kp), .int (nI cm), .ref md, .ref mp])), (mx, .inl (cI, 500, .inl tx)), (mt, .inl (cI, 900, .inl td)), (md, .inl (cI, 16, .inl dp)), (mp, .inl (cI, 16, .inl pr))] s.heap.size = A at hD ⊢
  have hA : ∀ q : Nat, s.heap.size ≤ q → A q := fun q h => by rw [← hAe]; exact Or.inr h
  have hAB : ∀ q, A q → B ≤ q := by rw [← hAe]; exact va_A.ge hD0 hB
  have hS : va_S A s.heap s.heap [] := va_S.rf
  have hP : va_P (dC, dI) vwCl [(mo, .inr (6, [.int th, .ref mx, .int (nI sn), .int fl, .int fa, .ref mt, .int (nI pn), .int (nI kp), .int (nI cm), .ref md, .ref mp])), (mx, .inl (cI, 500, .inl tx)), (mt, .inl (cI, 900, .inl td)), (md, .inl (cI, 16, .inl dp)), (mp, .inl (cI, 16, .inl pr))] s.heap := hP
  have hl := lv_entry ([.ref mo, .int (nI q0)]) (n := 6) (Nat.le_of_ble_eq_true rfl)
  rw [lg_entry_eq]
  generalize (lg_sl ([.ref mo, .int (nI q0)]) ++ List.replicate (6 - (lg_sl ([.ref mo, .int (nI q0)])).length) Slot.unset).toArray = ls at hl ⊢
  have hl : lv_has ls 6 [(0, .ref mo), (1, .int (nI q0))] := hl
  refine lv_aload_n hx hb dX6_readsRow_0 rfl (lv_at hl 0 rfl) ?_
  refine va_get (D := (dC, dI)) (ci := 6) (v := .ref mx) (C := RX6) (T := TX6) (N := 11) hx hb hg in_X6 hown hK hP 0 rfl rfl 1 (by decide) (hg _ w_504) (fun _ h9 => h9) rfl dX6_readsRow_1 ?_
  refine lv_iload_n hx hb dX6_readsRow_4 rfl (lv_at hl 1 rfl) ?_
  refine x_iald (k := q0) hx hb hK hP 1 0 rfl rfl (by omega) (by decide) dX6_readsRow_5 ?_
  refine go_R (r := (oI (m_kindF (tx q0) 0 none))) (va_runS (As := [.int (tx q0)]) (rest := []) ⟨hx, hb, hml, hown, hg⟩ (kX6_kindOf l dC dI B cI cC cJ (tx q0)) (va_cwS 1 hg (gi_S w_555 w_556 w_8 w_557) rfl rfl rfl (by decide +kernel) ⟨Nat.le_of_ble_eq_true rfl, Nat.le_of_ble_eq_true rfl⟩) (pre_RS (hP.sub [] rfl) hK hT) rfl rfl hl.1 rfl (lv_room (Nat.le_of_ble_eq_true rfl)) dX6_readsRow_6 ⟨Nat.le_of_ble_eq_true rfl, Nat.le_of_ble_eq_true rfl⟩) ?_
  generalize hE_1 : m_kindF (tx q0) 0 none = r_1
  have hb_r_1 : ∀ n, r_1 = some n → n < 6 := fun n h => m_kindF_lt (hE_1.trans h)
  refine lv_istore_n (lv' := [(2, .int (oI r_1)), (0, .ref mo), (1, .int (nI q0))]) hx hb dX6_readsRow_9 rfl hl (by decide) rfl (fun ls hl => ?_)
  refine lv_iload_n hx hb dX6_readsRow_10 rfl (lv_at hl 0 rfl) ?_
  refine lv_if_lt (tgt := 23) hx hb dX6_readsRow_11 (by decide) (fun c_2 => ?_) (fun c_2 => ?_)
  · skip
    obtain rfl : r_1 = none := oI_neg (c_2) hb_r_1 (by omega)
    refine lv_aload_n hx hb dX6_readsRow_23 rfl (lv_at hl 1 rfl) ?_
    refine lv_iload_n hx hb dX6_readsRow_24 rfl (lv_at hl 0 rfl) ?_
    refine lv_if_ge (tgt := 32) hx hb dX6_readsRow_25 (by decide) (fun c_3 => ?_) (fun c_3 => ?_)
    · skip
      exact absurd c_3 (by decide)
    · skip
      refine lv_iconst (v := 1) hx hb dX6_readsRow_28 (by decide) ?_
      refine lv_goto (tgt := 33) hx hb dX6_readsRow_29 (by decide) ?_
      refine lv_iload_n hx hb dX6_readsRow_33 rfl (lv_at hl 2 rfl) ?_
      refine go_M (r := some (.int (-1))) (wc' := [(mo, .inr (6, [.int th, .ref mx, .int (nI sn), .int 1, .int (nI q0), .ref mt, .int (nI pn), .int (nI kp), .int (nI cm), .ref md, .ref mp])), (mx, .inl (cI, 500, .inl tx)), (mt, .inl (cI, 900, .inl td)), (md, .inl (cI, 16, .inl dp)), (mp, .inl (cI, 16, .inl pr))]) (w2 := [(mo, .inr (6, [.int th, .ref mx, .int (nI sn), .int 1, .int (nI q0), .ref mt, .int (nI pn), .int (nI kp), .int (nI cm), .ref md, .ref mp])), (mx, .inl (cI, 500, .inl tx)), (mt, .inl (cI, 900, .inl td)), (md, .inl (cI, 16, .inl dp)), (mp, .inl (cI, 16, .inl pr))]) [0, 1, 2, 3, 4] (va_runV (As := [.int 1, .int (nI q0)]) (rest := []) ⟨hx, hb, hml, hown, hg⟩ (kX6_fails l dC dI B cI cC cJ mo mx mt md mp tx td dp pr th fl fa sn pn kp cm 1 (nI q0) (by omega) (by omega) (by omega) (by omega) _) (cwV 2 hg (gi_V w_561 w_562 w_697 w_8 w_563) rfl rfl rfl (by decide +kernel) ⟨Nat.le_of_ble_eq_true rfl, Nat.le_of_ble_eq_true rfl⟩) (pre_MV (va_recv hK hP (ci := 6) (q0 := 0) rfl rfl) (Nat.le_trans hB hS.1) (hP.sub [0, 1, 2, 3, 4] rfl) hK ((hD.weaken (fun _ _ _ h => hAB _ h)).sub [0, 1, 2, 3, 4] (by decide) rfl) hT) rfl rfl hl.1 rfl (lv_room (Nat.le_of_ble_eq_true rfl)) dX6_readsRow_34 ⟨Nat.le_of_ble_eq_true rfl, Nat.le_of_ble_eq_true rfl⟩) hP hD hS hA rfl (Nat.le_of_ble_eq_true rfl) rfl rfl (fun H locs hP hD hS => ?_)
      refine W.eq (g2 := F0 m 37 ls [.int (-1)]) rfl ?_
      have hP9 := hP
      have hS9 := hS
      have h9 : m_rdRow tx sn cm q0 td fl fa = (none, td, 1, (nI q0)) := by simp [m_rdRow, hE_1]
      have h9 := hF.symm.trans h9
      cases h9
      exact W.iret hx hb hr (fun t ht hW => ⟨rfl, by rw [ht]; exact hP9, hS9.F ht⟩) hS9.2.2 dX6_readsRow_37
  · skip
    obtain ⟨n_4, rfl⟩ : ∃ n, r_1 = some n := oI_some c_2
    have hn_4 := hb_r_1 _ rfl
    refine lv_aload_n hx hb dX6_readsRow_14 rfl (lv_at hl 1 rfl) ?_
    refine va_get (D := (dC, dI)) (ci := 6) (v := .int (nI cm)) (C := RX6) (T := TX6) (N := 11) hx hb hg in_X6 hown hK hP 0 rfl rfl 8 (by decide) (hg _ w_511) (fun _ h9 => h9) rfl dX6_readsRow_15 ?_
    refine lv_bipush (v := 50) hx hb dX6_readsRow_18 (by decide) ?_
    refine lv_icmp_ne (tgt := 38) hx hb dX6_readsRow_20 (by decide) (fun c_5 => ?_) (fun c_5 => ?_)
    · skip
      have c_5 := na_ne (a := cm) (b := 50) c_5 (by omega) (by omega)
      refine lv_aload_n hx hb dX6_readsRow_38 rfl (lv_at hl 1 rfl) ?_
      refine va_get (D := (dC, dI)) (ci := 6) (v := .ref mt) (C := RX6) (T := TX6) (N := 11) hx hb hg in_X6 hown hK hP 0 rfl rfl 5 (by decide) (hg _ w_508) (fun _ h9 => h9) rfl dX6_readsRow_39 ?_
      refine lv_sipush (v := 600) hx hb dX6_readsRow_42 (by decide) ?_
      refine lv_bipush (v := 6) hx hb dX6_readsRow_45 (by decide) ?_
      refine lv_aload_n hx hb dX6_readsRow_47 rfl (lv_at hl 1 rfl) ?_
      refine va_get (D := (dC, dI)) (ci := 6) (v := .int (nI cm)) (C := RX6) (T := TX6) (N := 11) hx hb hg in_X6 hown hK hP 0 rfl rfl 8 (by decide) (hg _ w_511) (fun _ h9 => h9) rfl dX6_readsRow_48 ?_
      refine lv_imul hx hb dX6_readsRow_51 ?_
      refine top_eq (y := (nI (6 * cm))) (by exact pk_mul _ _) ?_
      refine lv_iadd hx hb dX6_readsRow_52 ?_
      refine top_eq (y := (nI (600 + (6 * cm)))) (by exact nI_add _ _) ?_
      refine lv_iload_n hx hb dX6_readsRow_53 rfl (lv_at hl 0 rfl) ?_
      refine x_iast (k := 600 + (6 * cm)) hx hb hK hP hD hS 2 0 rfl rfl (by omega) (by decide) dX6_readsRow_54 (fun H locs hP hD hS => ?_)
      have hP : va_P (dC, dI) vwCl [(mo, .inr (6, [.int th, .ref mx, .int (nI sn), .int fl, .int fa, .ref mt, .int (nI pn), .int (nI kp), .int (nI cm), .ref md, .ref mp])), (mx, .inl (cI, 500, .inl tx)), (mt, .inl (cI, 900, .inl (upd td (600 + (6 * cm)) (nI n_4)))), (md, .inl (cI, 16, .inl dp)), (mp, .inl (cI, 16, .inl pr))] H := hP
      have hD : va_D A [(mo, .inr (6, [.int th, .ref mx, .int (nI sn), .int fl, .int fa, .ref mt, .int (nI pn), .int (nI kp), .int (nI cm), .ref md, .ref mp])), (mx, .inl (cI, 500, .inl tx)), (mt, .inl (cI, 900, .inl (upd td (600 + (6 * cm)) (nI n_4)))), (md, .inl (cI, 16, .inl dp)), (mp, .inl (cI, 16, .inl pr))] := hD
      refine lv_aload_n hx hb dX6_readsRow_55 rfl (lv_at hl 1 rfl) ?_
      refine lv_iload_n hx hb dX6_readsRow_56 rfl (lv_at hl 2 rfl) ?_
      refine lv_iconst (v := 1) hx hb dX6_readsRow_57 (by decide) ?_
      refine lv_iadd hx hb dX6_readsRow_58 ?_
      refine top_eq (y := (nI (q0 + 1))) (by exact nI_add _ _) ?_
      refine lv_iconst (v := (-1)) hx hb dX6_readsRow_59 (by decide) ?_
      refine lv_bipush (v := 61) hx hb dX6_readsRow_60 (by decide) ?_
      obtain ⟨r1_6, td1_6, fl1_6, fa1_6, hF_6⟩ : ∃ (r1_6 : Option Nat) (td1_6 : Nat → Int32) (fl1_6 : Int32) (fa1_6 : Int32), m_rdNum tx sn cm (q0 + 1) (-1) 61 (upd td (600 + (6 * cm)) (nI n_4)) fl fa = (r1_6, td1_6, fl1_6, fa1_6) := ⟨_, _, _, _, rfl⟩
      have hb_r1_6 : ∀ n, r1_6 = some n → n < 501 := fun n h => by have h3 := m_rdNum_le hF_6 (by decide) n h; omega
      refine go_M (r := some (.int (oI r1_6))) (wc' := [(mo, .inr (6, [.int th, .ref mx, .int (nI sn), .int fl1_6, .int fa1_6, .ref mt, .int (nI pn), .int (nI kp), .int (nI cm), .ref md, .ref mp])), (mx, .inl (cI, 500, .inl tx)), (mt, .inl (cI, 900, .inl td1_6)), (md, .inl (cI, 16, .inl dp)), (mp, .inl (cI, 16, .inl pr))]) (w2 := [(mo, .inr (6, [.int th, .ref mx, .int (nI sn), .int fl1_6, .int fa1_6, .ref mt, .int (nI pn), .int (nI kp), .int (nI cm), .ref md, .ref mp])), (mx, .inl (cI, 500, .inl tx)), (mt, .inl (cI, 900, .inl td1_6)), (md, .inl (cI, 16, .inl dp)), (mp, .inl (cI, 16, .inl pr))]) [0, 1, 2, 3, 4] (va_runV (As := [.int (nI (q0 + 1)), .int (-1), .int 61]) (rest := []) ⟨hx, hb, hml, hown, hg⟩ (kX6_readsNumber l dC dI B cI cC cJ mo mx mt md mp tx (upd td (600 + (6 * cm)) (nI n_4)) dp pr th fl fa sn pn kp cm (q0 + 1) (-1) 61 r1_6 td1_6 fl1_6 fa1_6 (by omega) (by omega) (by omega) (by omega) (by omega) (by omega) (Or.inl rfl) hF_6 _) (cwV 3 hg (gi_V w_564 w_565 w_698 w_8 w_566) rfl rfl rfl (by decide +kernel) ⟨Nat.le_of_ble_eq_true rfl, Nat.le_of_ble_eq_true rfl⟩) (pre_MV (va_recv hK hP (ci := 6) (q0 := 0) rfl rfl) (Nat.le_trans hB hS.1) (hP.sub [0, 1, 2, 3, 4] rfl) hK ((hD.weaken (fun _ _ _ h => hAB _ h)).sub [0, 1, 2, 3, 4] (by decide) rfl) (hT.kept (hS.mono hAB))) rfl rfl hl.1 rfl (lv_room (Nat.le_of_ble_eq_true rfl)) dX6_readsRow_62 ⟨Nat.le_of_ble_eq_true rfl, Nat.le_of_ble_eq_true rfl⟩) hP hD hS hA rfl (Nat.le_of_ble_eq_true rfl) rfl rfl (fun H locs hP hD hS => ?_)
      refine W.eq (g2 := F0 m 65 ls [.int (oI r1_6)]) rfl ?_
      refine lv_istore_n (lv' := [(3, .int (oI r1_6)), (2, .int (nI n_4)), (0, .ref mo), (1, .int (nI q0))]) hx hb dX6_readsRow_65 rfl hl (by decide) rfl (fun ls hl => ?_)
      refine lv_iload_n hx hb dX6_readsRow_66 rfl (lv_at hl 1 rfl) ?_
      refine go_R (r := (nI (m_nums (nI n_4)))) (va_runS (As := [.int (nI n_4)]) (rest := []) ⟨hx, hb, hml, hown, hg⟩ (kX6_numbersOf l dC dI B cI cC cJ (nI n_4)) (va_cwS 1 hg (gi_S w_585 w_586 w_8 w_587) rfl rfl rfl (by decide +kernel) ⟨Nat.le_of_ble_eq_true rfl, Nat.le_of_ble_eq_true rfl⟩) (pre_RS (hP.sub [] rfl) hK (hT.kept (hS.mono hAB))) rfl rfl hl.1 rfl (lv_room (Nat.le_of_ble_eq_true rfl)) dX6_readsRow_67 ⟨Nat.le_of_ble_eq_true rfl, Nat.le_of_ble_eq_true rfl⟩) ?_
      have hm4 := m_nums_le (nI n_4)
      refine lv_istore (lv' := [(4, .int (nI (m_nums (nI n_4)))), (3, .int (oI r1_6)), (2, .int (nI n_4)), (0, .ref mo), (1, .int (nI q0))]) hx hb dX6_readsRow_70 hl (by decide) rfl (fun ls hl => ?_)
      refine lv_iconst (v := 0) hx hb dX6_readsRow_72 (by decide) ?_
      refine lv_istore (lv' := [(5, .int 0), (4, .int (nI (m_nums (nI n_4)))), (3, .int (oI r1_6)), (2, .int (nI n_4)), (0, .ref mo), (1, .int (nI q0))]) hx hb dX6_readsRow_73 hl (by decide) rfl (fun ls hl => ?_)
      refine loop_M (σ := Nat × (Option Nat) × (Nat → Int32) × Int32 × Int32) (fun n x H locs ls => (m_nums (nI n_4)) - x.1 < n ∧ x.1 ≤ (m_nums (nI n_4)) ∧ (∀ n, x.2.1 = some n → n < 501) ∧ m_rdRow tx sn cm q0 td fl fa = m_rdNums tx sn cm (m_nums (nI n_4)) x.1 x.2.1 x.2.2.1 x.2.2.2.1 x.2.2.2.2 ∧ va_P (dC, dI) vwCl [(mo, .inr (6, [.int th, .ref mx, .int (nI sn), .int x.2.2.2.1, .int x.2.2.2.2, .ref mt, .int (nI pn), .int (nI kp), .int (nI cm), .ref md, .ref mp])), (mx, .inl (cI, 500, .inl tx)), (mt, .inl (cI, 900, .inl x.2.2.1)), (md, .inl (cI, 16, .inl dp)), (mp, .inl (cI, 16, .inl pr))] H ∧ va_D A [(mo, .inr (6, [.int th, .ref mx, .int (nI sn), .int x.2.2.2.1, .int x.2.2.2.2, .ref mt, .int (nI pn), .int (nI kp), .int (nI cm), .ref md, .ref mp])), (mx, .inl (cI, 500, .inl tx)), (mt, .inl (cI, 900, .inl x.2.2.1)), (md, .inl (cI, 16, .inl dp)), (mp, .inl (cI, 16, .inl pr))] ∧ va_S A s.heap H locs ∧ lv_has ls 6 [(0, .ref mo), (1, .int (nI q0)), (2, .int (nI n_4)), (3, .int (oI x.2.1)), (4, .int (nI (m_nums (nI n_4)))), (5, .int (nI x.1))]) (fun n x H locs ls ih_7 hI => ?_) (fun x H locs ls hI => ?_) (n := ((m_nums (nI n_4)) - 0) + 1) (x := (0, r1_6, td1_6, fl1_6, fa1_6)) ⟨(Nat.lt_succ_self _), (by first | omega | (dsimp only; omega) | (dsimp only; done)), hb_r1_6, (by simp [m_rdRow, hE_1, c_5, hF_6]), hP, hD, hS, lv_sub hl [4, 5, 3, 2, 1, 0] rfl⟩
      · skip
        obtain ⟨k, q, tdx, flx, fax⟩ := x
        obtain ⟨hfu, hk0, hb_q, he, hP, hD, hS, hl⟩ := hI
        have hfu : (m_nums (nI n_4)) - k < n + 1 := hfu
        have hk0 : k ≤ (m_nums (nI n_4)) := hk0
        have hb_q : ∀ n, q = some n → n < 501 := hb_q
        have he : m_rdRow tx sn cm q0 td fl fa = m_rdNums tx sn cm (m_nums (nI n_4)) k q tdx flx fax := he
        have hP : va_P (dC, dI) vwCl [(mo, .inr (6, [.int th, .ref mx, .int (nI sn), .int flx, .int fax, .ref mt, .int (nI pn), .int (nI kp), .int (nI cm), .ref md, .ref mp])), (mx, .inl (cI, 500, .inl tx)), (mt, .inl (cI, 900, .inl tdx)), (md, .inl (cI, 16, .inl dp)), (mp, .inl (cI, 16, .inl pr))] H := hP
        have hD : va_D A [(mo, .inr (6, [.int th, .ref mx, .int (nI sn), .int flx, .int fax, .ref mt, .int (nI pn), .int (nI kp), .int (nI cm), .ref md, .ref mp])), (mx, .inl (cI, 500, .inl tx)), (mt, .inl (cI, 900, .inl tdx)), (md, .inl (cI, 16, .inl dp)), (mp, .inl (cI, 16, .inl pr))] := hD
        have hl : lv_has ls 6 [(0, .ref mo), (1, .int (nI q0)), (2, .int (nI n_4)), (3, .int (oI q)), (4, .int (nI (m_nums (nI n_4)))), (5, .int (nI k))] := hl
        have hm4 := m_nums_le (nI n_4)
        refine lv_iload hx hb dX6_readsRow_75 (lv_at hl 5 rfl) ?_
        refine lv_iload hx hb dX6_readsRow_77 (lv_at hl 4 rfl) ?_
        refine lv_icmp_ge (tgt := 116) hx hb dX6_readsRow_79 (by decide) (fun c_8 => ?_) (fun c_8 => ?_)
        · skip
          have c_8 := na_le (a := m_nums (nI n_4)) (b := k) c_8 (by omega) (by omega)
          refine lv_iload hx hb dX6_readsRow_116 (lv_at hl 4 rfl) ?_
          refine lv_istore (lv' := [(5, .int (nI (m_nums (nI n_4)))), (0, .ref mo), (1, .int (nI q0)), (2, .int (nI n_4)), (3, .int (oI q)), (4, .int (nI (m_nums (nI n_4))))]) hx hb dX6_readsRow_118 hl (by decide) rfl (fun ls hl => ?_)
          refine loop_M (σ := Nat × (Nat → Int32)) (fun n x H locs ls => 4 - x.1 < n ∧ x.1 ≤ 4 ∧ m_rdRow tx sn cm q0 td fl fa = (q, m_zero cm x.1 x.2, flx, fax) ∧ va_P (dC, dI) vwCl [(mo, .inr (6, [.int th, .ref mx, .int (nI sn), .int flx, .int fax, .ref mt, .int (nI pn), .int (nI kp), .int (nI cm), .ref md, .ref mp])), (mx, .inl (cI, 500, .inl tx)), (mt, .inl (cI, 900, .inl x.2)), (md, .inl (cI, 16, .inl dp)), (mp, .inl (cI, 16, .inl pr))] H ∧ va_D A [(mo, .inr (6, [.int th, .ref mx, .int (nI sn), .int flx, .int fax, .ref mt, .int (nI pn), .int (nI kp), .int (nI cm), .ref md, .ref mp])), (mx, .inl (cI, 500, .inl tx)), (mt, .inl (cI, 900, .inl x.2)), (md, .inl (cI, 16, .inl dp)), (mp, .inl (cI, 16, .inl pr))] ∧ va_S A s.heap H locs ∧ lv_has ls 6 [(0, .ref mo), (1, .int (nI q0)), (2, .int (nI n_4)), (3, .int (oI q)), (4, .int (nI (m_nums (nI n_4)))), (5, .int (nI x.1))]) (fun n x H locs ls ih_9 hI => ?_) (fun x H locs ls hI => ?_) (n := (4 - (m_nums (nI n_4))) + 1) (x := (m_nums (nI n_4), tdx)) ⟨(Nat.lt_succ_self _), (by first | omega | (dsimp only; omega) | (dsimp only; done)), (by rw [he, m_rdNums.eq_def]; simp [c_8]), hP, hD, hS, lv_sub hl [1, 2, 3, 4, 5, 0] rfl⟩
          · skip
            obtain ⟨z, tdy⟩ := x
            obtain ⟨hfu, hz0, he2, hP, hD, hS, hl⟩ := hI
            have hfu : 4 - z < n + 1 := hfu
            have hz0 : z ≤ 4 := hz0
            have he2 : m_rdRow tx sn cm q0 td fl fa = (q, m_zero cm z tdy, flx, fax) := he2
            have hP : va_P (dC, dI) vwCl [(mo, .inr (6, [.int th, .ref mx, .int (nI sn), .int flx, .int fax, .ref mt, .int (nI pn), .int (nI kp), .int (nI cm), .ref md, .ref mp])), (mx, .inl (cI, 500, .inl tx)), (mt, .inl (cI, 900, .inl tdy)), (md, .inl (cI, 16, .inl dp)), (mp, .inl (cI, 16, .inl pr))] H := hP
            have hD : va_D A [(mo, .inr (6, [.int th, .ref mx, .int (nI sn), .int flx, .int fax, .ref mt, .int (nI pn), .int (nI kp), .int (nI cm), .ref md, .ref mp])), (mx, .inl (cI, 500, .inl tx)), (mt, .inl (cI, 900, .inl tdy)), (md, .inl (cI, 16, .inl dp)), (mp, .inl (cI, 16, .inl pr))] := hD
            have hl : lv_has ls 6 [(0, .ref mo), (1, .int (nI q0)), (2, .int (nI n_4)), (3, .int (oI q)), (4, .int (nI (m_nums (nI n_4)))), (5, .int (nI z))] := hl
            refine lv_iload hx hb dX6_readsRow_120 (lv_at hl 5 rfl) ?_
            refine lv_iconst (v := 4) hx hb dX6_readsRow_122 (by decide) ?_
            refine lv_icmp_ge (tgt := 154) hx hb dX6_readsRow_123 (by decide) (fun c_10 => ?_) (fun c_10 => ?_)
            · skip
              have c_10 := na_le (a := 4) (b := z) c_10 (by omega) (by omega)
              refine lv_iload_n hx hb dX6_readsRow_154 rfl (lv_at hl 3 rfl) ?_
              have hP9 := hP
              have hS9 := hS
              have h9 : m_rdRow tx sn cm q0 td fl fa = (q, tdy, flx, fax) := by rw [he2, m_zero]; simp [c_10]
              have h9 := hF.symm.trans h9
              cases h9
              exact W.iret hx hb hr (fun t ht hW => ⟨rfl, by rw [ht]; exact hP9, hS9.F ht⟩) hS9.2.2 dX6_readsRow_155
            · skip
              have c_10 := na_nle (a := 4) (b := z) c_10 (by omega) (by omega)
              refine lv_aload_n hx hb dX6_readsRow_126 rfl (lv_at hl 0 rfl) ?_
              refine va_get (D := (dC, dI)) (ci := 6) (v := .ref mt) (C := RX6) (T := TX6) (N := 11) hx hb hg in_X6 hown hK hP 0 rfl rfl 5 (by decide) (hg _ w_508) (fun _ h9 => h9) rfl dX6_readsRow_127 ?_
              refine lv_sipush (v := 600) hx hb dX6_readsRow_130 (by decide) ?_
              refine lv_bipush (v := 6) hx hb dX6_readsRow_133 (by decide) ?_
              refine lv_aload_n hx hb dX6_readsRow_135 rfl (lv_at hl 0 rfl) ?_
              refine va_get (D := (dC, dI)) (ci := 6) (v := .int (nI cm)) (C := RX6) (T := TX6) (N := 11) hx hb hg in_X6 hown hK hP 0 rfl rfl 8 (by decide) (hg _ w_511) (fun _ h9 => h9) rfl dX6_readsRow_136 ?_
              refine lv_imul hx hb dX6_readsRow_139 ?_
              refine top_eq (y := (nI (6 * cm))) (by exact pk_mul _ _) ?_
              refine lv_iadd hx hb dX6_readsRow_140 ?_
              refine top_eq (y := (nI (600 + (6 * cm)))) (by exact nI_add _ _) ?_
              refine lv_iconst (v := 2) hx hb dX6_readsRow_141 (by decide) ?_
              refine lv_iadd hx hb dX6_readsRow_142 ?_
              refine top_eq (y := (nI ((600 + (6 * cm)) + 2))) (by exact nI_add _ _) ?_
              refine lv_iload hx hb dX6_readsRow_143 (lv_at hl 5 rfl) ?_
              refine lv_iadd hx hb dX6_readsRow_145 ?_
              refine top_eq (y := (nI (((600 + (6 * cm)) + 2) + z))) (by exact nI_add _ _) ?_
              refine lv_iconst (v := 0) hx hb dX6_readsRow_146 (by decide) ?_
              refine x_iast (k := ((600 + (6 * cm)) + 2) + z) hx hb hK hP hD hS 2 0 rfl rfl (by omega) (by decide) dX6_readsRow_147 (fun H locs hP hD hS => ?_)
              have hP : va_P (dC, dI) vwCl [(mo, .inr (6, [.int th, .ref mx, .int (nI sn), .int flx, .int fax, .ref mt, .int (nI pn), .int (nI kp), .int (nI cm), .ref md, .ref mp])), (mx, .inl (cI, 500, .inl tx)), (mt, .inl (cI, 900, .inl (upd tdy (((600 + (6 * cm)) + 2) + z) 0))), (md, .inl (cI, 16, .inl dp)), (mp, .inl (cI, 16, .inl pr))] H := hP
              have hD : va_D A [(mo, .inr (6, [.int th, .ref mx, .int (nI sn), .int flx, .int fax, .ref mt, .int (nI pn), .int (nI kp), .int (nI cm), .ref md, .ref mp])), (mx, .inl (cI, 500, .inl tx)), (mt, .inl (cI, 900, .inl (upd tdy (((600 + (6 * cm)) + 2) + z) 0))), (md, .inl (cI, 16, .inl dp)), (mp, .inl (cI, 16, .inl pr))] := hD
              refine lv_iinc (v := (nI (z + 1))) (lv' := [(5, .int (nI (z + 1))), (0, .ref mo), (1, .int (nI q0)), (2, .int (nI n_4)), (3, .int (oI q)), (4, .int (nI (m_nums (nI n_4))))]) hx hb dX6_readsRow_148 hl (k := 5) rfl (by rw [← nI_add]; rfl) (by decide) rfl (fun ls hl => ?_)
              refine lv_goto (tgt := 120) hx hb dX6_readsRow_151 (by decide) ?_
              exact ih_9 (z + 1, upd tdy (((600 + (6 * cm)) + 2) + z) 0) _ _ _ ⟨(by first | omega | (dsimp only; omega) | (dsimp only; done)), (by first | omega | (dsimp only; omega) | (dsimp only; done)), (by (try dsimp only); rw [he2, m_zero]; simp [c_10]), hP, hD, hS, lv_sub hl [1, 2, 3, 4, 5, 0] rfl⟩
          · exact absurd hI.1 (Nat.not_lt_zero _)
        · skip
          have c_8 := na_nle (a := m_nums (nI n_4)) (b := k) c_8 (by omega) (by omega)
          refine lv_iload_n hx hb dX6_readsRow_82 rfl (lv_at hl 3 rfl) ?_
          refine lv_if_lt (tgt := 116) hx hb dX6_readsRow_83 (by decide) (fun c_11 => ?_) (fun c_11 => ?_)
          · skip
            obtain rfl : q = none := oI_neg (c_11) hb_q (by omega)
            refine lv_iload hx hb dX6_readsRow_116 (lv_at hl 4 rfl) ?_
            refine lv_istore (lv' := [(5, .int (nI (m_nums (nI n_4)))), (0, .ref mo), (1, .int (nI q0)), (2, .int (nI n_4)), (3, .int (-1)), (4, .int (nI (m_nums (nI n_4))))]) hx hb dX6_readsRow_118 hl (by decide) rfl (fun ls hl => ?_)
            refine loop_M (σ := Nat × (Nat → Int32)) (fun n x H locs ls => 4 - x.1 < n ∧ x.1 ≤ 4 ∧ m_rdRow tx sn cm q0 td fl fa = (none, m_zero cm x.1 x.2, flx, fax) ∧ va_P (dC, dI) vwCl [(mo, .inr (6, [.int th, .ref mx, .int (nI sn), .int flx, .int fax, .ref mt, .int (nI pn), .int (nI kp), .int (nI cm), .ref md, .ref mp])), (mx, .inl (cI, 500, .inl tx)), (mt, .inl (cI, 900, .inl x.2)), (md, .inl (cI, 16, .inl dp)), (mp, .inl (cI, 16, .inl pr))] H ∧ va_D A [(mo, .inr (6, [.int th, .ref mx, .int (nI sn), .int flx, .int fax, .ref mt, .int (nI pn), .int (nI kp), .int (nI cm), .ref md, .ref mp])), (mx, .inl (cI, 500, .inl tx)), (mt, .inl (cI, 900, .inl x.2)), (md, .inl (cI, 16, .inl dp)), (mp, .inl (cI, 16, .inl pr))] ∧ va_S A s.heap H locs ∧ lv_has ls 6 [(0, .ref mo), (1, .int (nI q0)), (2, .int (nI n_4)), (3, .int (-1)), (4, .int (nI (m_nums (nI n_4)))), (5, .int (nI x.1))]) (fun n x H locs ls ih_12 hI => ?_) (fun x H locs ls hI => ?_) (n := (4 - (m_nums (nI n_4))) + 1) (x := (m_nums (nI n_4), tdx)) ⟨(Nat.lt_succ_self _), (by first | omega | (dsimp only; omega) | (dsimp only; done)), (by rw [he, m_rdNums.eq_def]; simp [c_8]), hP, hD, hS, lv_sub hl [1, 2, 3, 4, 5, 0] rfl⟩
            · skip
              obtain ⟨z, tdy⟩ := x
              obtain ⟨hfu, hz0, he2, hP, hD, hS, hl⟩ := hI
              have hfu : 4 - z < n + 1 := hfu
              have hz0 : z ≤ 4 := hz0
              have he2 : m_rdRow tx sn cm q0 td fl fa = (none, m_zero cm z tdy, flx, fax) := he2
              have hP : va_P (dC, dI) vwCl [(mo, .inr (6, [.int th, .ref mx, .int (nI sn), .int flx, .int fax, .ref mt, .int (nI pn), .int (nI kp), .int (nI cm), .ref md, .ref mp])), (mx, .inl (cI, 500, .inl tx)), (mt, .inl (cI, 900, .inl tdy)), (md, .inl (cI, 16, .inl dp)), (mp, .inl (cI, 16, .inl pr))] H := hP
              have hD : va_D A [(mo, .inr (6, [.int th, .ref mx, .int (nI sn), .int flx, .int fax, .ref mt, .int (nI pn), .int (nI kp), .int (nI cm), .ref md, .ref mp])), (mx, .inl (cI, 500, .inl tx)), (mt, .inl (cI, 900, .inl tdy)), (md, .inl (cI, 16, .inl dp)), (mp, .inl (cI, 16, .inl pr))] := hD
              have hl : lv_has ls 6 [(0, .ref mo), (1, .int (nI q0)), (2, .int (nI n_4)), (3, .int (-1)), (4, .int (nI (m_nums (nI n_4)))), (5, .int (nI z))] := hl
              refine lv_iload hx hb dX6_readsRow_120 (lv_at hl 5 rfl) ?_
              refine lv_iconst (v := 4) hx hb dX6_readsRow_122 (by decide) ?_
              refine lv_icmp_ge (tgt := 154) hx hb dX6_readsRow_123 (by decide) (fun c_13 => ?_) (fun c_13 => ?_)
              · skip
                have c_13 := na_le (a := 4) (b := z) c_13 (by omega) (by omega)
                refine lv_iload_n hx hb dX6_readsRow_154 rfl (lv_at hl 3 rfl) ?_
                have hP9 := hP
                have hS9 := hS
                have h9 : m_rdRow tx sn cm q0 td fl fa = (none, tdy, flx, fax) := by rw [he2, m_zero]; simp [c_13]
                have h9 := hF.symm.trans h9
                cases h9
                exact W.iret hx hb hr (fun t ht hW => ⟨rfl, by rw [ht]; exact hP9, hS9.F ht⟩) hS9.2.2 dX6_readsRow_155
              · skip
                have c_13 := na_nle (a := 4) (b := z) c_13 (by omega) (by omega)
                refine lv_aload_n hx hb dX6_readsRow_126 rfl (lv_at hl 0 rfl) ?_
                refine va_get (D := (dC, dI)) (ci := 6) (v := .ref mt) (C := RX6) (T := TX6) (N := 11) hx hb hg in_X6 hown hK hP 0 rfl rfl 5 (by decide) (hg _ w_508) (fun _ h9 => h9) rfl dX6_readsRow_127 ?_
                refine lv_sipush (v := 600) hx hb dX6_readsRow_130 (by decide) ?_
                refine lv_bipush (v := 6) hx hb dX6_readsRow_133 (by decide) ?_
                refine lv_aload_n hx hb dX6_readsRow_135 rfl (lv_at hl 0 rfl) ?_
                refine va_get (D := (dC, dI)) (ci := 6) (v := .int (nI cm)) (C := RX6) (T := TX6) (N := 11) hx hb hg in_X6 hown hK hP 0 rfl rfl 8 (by decide) (hg _ w_511) (fun _ h9 => h9) rfl dX6_readsRow_136 ?_
                refine lv_imul hx hb dX6_readsRow_139 ?_
                refine top_eq (y := (nI (6 * cm))) (by exact pk_mul _ _) ?_
                refine lv_iadd hx hb dX6_readsRow_140 ?_
                refine top_eq (y := (nI (600 + (6 * cm)))) (by exact nI_add _ _) ?_
                refine lv_iconst (v := 2) hx hb dX6_readsRow_141 (by decide) ?_
                refine lv_iadd hx hb dX6_readsRow_142 ?_
                refine top_eq (y := (nI ((600 + (6 * cm)) + 2))) (by exact nI_add _ _) ?_
                refine lv_iload hx hb dX6_readsRow_143 (lv_at hl 5 rfl) ?_
                refine lv_iadd hx hb dX6_readsRow_145 ?_
                refine top_eq (y := (nI (((600 + (6 * cm)) + 2) + z))) (by exact nI_add _ _) ?_
                refine lv_iconst (v := 0) hx hb dX6_readsRow_146 (by decide) ?_
                refine x_iast (k := ((600 + (6 * cm)) + 2) + z) hx hb hK hP hD hS 2 0 rfl rfl (by omega) (by decide) dX6_readsRow_147 (fun H locs hP hD hS => ?_)
                have hP : va_P (dC, dI) vwCl [(mo, .inr (6, [.int th, .ref mx, .int (nI sn), .int flx, .int fax, .ref mt, .int (nI pn), .int (nI kp), .int (nI cm), .ref md, .ref mp])), (mx, .inl (cI, 500, .inl tx)), (mt, .inl (cI, 900, .inl (upd tdy (((600 + (6 * cm)) + 2) + z) 0))), (md, .inl (cI, 16, .inl dp)), (mp, .inl (cI, 16, .inl pr))] H := hP
                have hD : va_D A [(mo, .inr (6, [.int th, .ref mx, .int (nI sn), .int flx, .int fax, .ref mt, .int (nI pn), .int (nI kp), .int (nI cm), .ref md, .ref mp])), (mx, .inl (cI, 500, .inl tx)), (mt, .inl (cI, 900, .inl (upd tdy (((600 + (6 * cm)) + 2) + z) 0))), (md, .inl (cI, 16, .inl dp)), (mp, .inl (cI, 16, .inl pr))] := hD
                refine lv_iinc (v := (nI (z + 1))) (lv' := [(5, .int (nI (z + 1))), (0, .ref mo), (1, .int (nI q0)), (2, .int (nI n_4)), (3, .int (-1)), (4, .int (nI (m_nums (nI n_4))))]) hx hb dX6_readsRow_148 hl (k := 5) rfl (by rw [← nI_add]; rfl) (by decide) rfl (fun ls hl => ?_)
                refine lv_goto (tgt := 120) hx hb dX6_readsRow_151 (by decide) ?_
                exact ih_12 (z + 1, upd tdy (((600 + (6 * cm)) + 2) + z) 0) _ _ _ ⟨(by first | omega | (dsimp only; omega) | (dsimp only; done)), (by first | omega | (dsimp only; omega) | (dsimp only; done)), (by (try dsimp only); rw [he2, m_zero]; simp [c_13]), hP, hD, hS, lv_sub hl [1, 2, 3, 4, 5, 0] rfl⟩
            · exact absurd hI.1 (Nat.not_lt_zero _)
          · skip
            obtain ⟨n_14, rfl⟩ : ∃ n, q = some n := oI_some c_11
            have hn_14 := hb_q _ rfl
            refine lv_aload_n hx hb dX6_readsRow_86 rfl (lv_at hl 0 rfl) ?_
            refine lv_iload_n hx hb dX6_readsRow_87 rfl (lv_at hl 3 rfl) ?_
            refine lv_iload hx hb dX6_readsRow_88 (lv_at hl 5 rfl) ?_
            refine lv_iload hx hb dX6_readsRow_90 (lv_at hl 5 rfl) ?_
            refine lv_iload hx hb dX6_readsRow_92 (lv_at hl 4 rfl) ?_
            refine lv_iconst (v := 1) hx hb dX6_readsRow_94 (by decide) ?_
            refine lv_isub hx hb dX6_readsRow_95 ?_
            refine lv_icmp_ne (tgt := 104) hx hb dX6_readsRow_96 (by decide) (fun c_15 => ?_) (fun c_15 => ?_)
            · skip
              refine lv_bipush (v := 44) hx hb dX6_readsRow_104 (by decide) ?_
              obtain ⟨r1_16, td1_16, fl1_16, fa1_16, hF_16⟩ : ∃ (r1_16 : Option Nat) (td1_16 : Nat → Int32) (fl1_16 : Int32) (fa1_16 : Int32), m_rdNum tx sn cm n_14 (nI k) 44 tdx flx fax = (r1_16, td1_16, fl1_16, fa1_16) := ⟨_, _, _, _, rfl⟩
              have hb_r1_16 : ∀ n, r1_16 = some n → n < 501 := fun n h => by have h3 := m_rdNum_le hF_16 (by decide) n h; omega
              refine go_M (r := some (.int (oI r1_16))) (wc' := [(mo, .inr (6, [.int th, .ref mx, .int (nI sn), .int fl1_16, .int fa1_16, .ref mt, .int (nI pn), .int (nI kp), .int (nI cm), .ref md, .ref mp])), (mx, .inl (cI, 500, .inl tx)), (mt, .inl (cI, 900, .inl td1_16)), (md, .inl (cI, 16, .inl dp)), (mp, .inl (cI, 16, .inl pr))]) (w2 := [(mo, .inr (6, [.int th, .ref mx, .int (nI sn), .int fl1_16, .int fa1_16, .ref mt, .int (nI pn), .int (nI kp), .int (nI cm), .ref md, .ref mp])), (mx, .inl (cI, 500, .inl tx)), (mt, .inl (cI, 900, .inl td1_16)), (md, .inl (cI, 16, .inl dp)), (mp, .inl (cI, 16, .inl pr))]) [0, 1, 2, 3, 4] (va_runV (As := [.int (nI n_14), .int (nI k), .int 44]) (rest := []) ⟨hx, hb, hml, hown, hg⟩ (kX6_readsNumber l dC dI B cI cC cJ mo mx mt md mp tx tdx dp pr th flx fax sn pn kp cm n_14 (nI k) 44 r1_16 td1_16 fl1_16 fa1_16 (by omega) (by omega) (by omega) (by omega) (by omega) (by omega) (Or.inr ⟨k, by omega, rfl⟩) hF_16 _) (cwV 3 hg (gi_V w_564 w_565 w_698 w_8 w_566) rfl rfl rfl (by decide +kernel) ⟨Nat.le_of_ble_eq_true rfl, Nat.le_of_ble_eq_true rfl⟩) (pre_MV (va_recv hK hP (ci := 6) (q0 := 0) rfl rfl) (Nat.le_trans hB hS.1) (hP.sub [0, 1, 2, 3, 4] rfl) hK ((hD.weaken (fun _ _ _ h => hAB _ h)).sub [0, 1, 2, 3, 4] (by decide) rfl) (hT.kept (hS.mono hAB))) rfl rfl hl.1 rfl (lv_room (Nat.le_of_ble_eq_true rfl)) dX6_readsRow_106 ⟨Nat.le_of_ble_eq_true rfl, Nat.le_of_ble_eq_true rfl⟩) hP hD hS hA rfl (Nat.le_of_ble_eq_true rfl) rfl rfl (fun H locs hP hD hS => ?_)
              refine W.eq (g2 := F0 m 109 ls [.int (oI r1_16)]) rfl ?_
              refine lv_istore_n (lv' := [(3, .int (oI r1_16)), (0, .ref mo), (1, .int (nI q0)), (2, .int (nI n_4)), (4, .int (nI (m_nums (nI n_4)))), (5, .int (nI k))]) hx hb dX6_readsRow_109 rfl hl (by decide) rfl (fun ls hl => ?_)
              refine lv_iinc (v := (nI (k + 1))) (lv' := [(5, .int (nI (k + 1))), (3, .int (oI r1_16)), (0, .ref mo), (1, .int (nI q0)), (2, .int (nI n_4)), (4, .int (nI (m_nums (nI n_4))))]) hx hb dX6_readsRow_110 hl (k := 5) rfl (by rw [← nI_add]; rfl) (by decide) rfl (fun ls hl => ?_)
              refine lv_goto (tgt := 75) hx hb dX6_readsRow_113 (by decide) ?_
              exact ih_7 (k + 1, r1_16, td1_16, fl1_16, fa1_16) _ _ _ ⟨(by first | omega | (dsimp only; omega) | (dsimp only; done)), (by first | omega | (dsimp only; omega) | (dsimp only; done)), hb_r1_16, (by (try dsimp only); rw [he, m_rdNums.eq_def]; simp [c_8, c_15, hF_16]), hP, hD, hS, lv_sub hl [2, 3, 4, 1, 5, 0] rfl⟩
            · skip
              refine lv_bipush (v := 59) hx hb dX6_readsRow_99 (by decide) ?_
              refine lv_goto (tgt := 106) hx hb dX6_readsRow_101 (by decide) ?_
              obtain ⟨r1_17, td1_17, fl1_17, fa1_17, hF_17⟩ : ∃ (r1_17 : Option Nat) (td1_17 : Nat → Int32) (fl1_17 : Int32) (fa1_17 : Int32), m_rdNum tx sn cm n_14 (nI k) 59 tdx flx fax = (r1_17, td1_17, fl1_17, fa1_17) := ⟨_, _, _, _, rfl⟩
              have hb_r1_17 : ∀ n, r1_17 = some n → n < 501 := fun n h => by have h3 := m_rdNum_le hF_17 (by decide) n h; omega
              refine go_M (r := some (.int (oI r1_17))) (wc' := [(mo, .inr (6, [.int th, .ref mx, .int (nI sn), .int fl1_17, .int fa1_17, .ref mt, .int (nI pn), .int (nI kp), .int (nI cm), .ref md, .ref mp])), (mx, .inl (cI, 500, .inl tx)), (mt, .inl (cI, 900, .inl td1_17)), (md, .inl (cI, 16, .inl dp)), (mp, .inl (cI, 16, .inl pr))]) (w2 := [(mo, .inr (6, [.int th, .ref mx, .int (nI sn), .int fl1_17, .int fa1_17, .ref mt, .int (nI pn), .int (nI kp), .int (nI cm), .ref md, .ref mp])), (mx, .inl (cI, 500, .inl tx)), (mt, .inl (cI, 900, .inl td1_17)), (md, .inl (cI, 16, .inl dp)), (mp, .inl (cI, 16, .inl pr))]) [0, 1, 2, 3, 4] (va_runV (As := [.int (nI n_14), .int (nI k), .int 59]) (rest := []) ⟨hx, hb, hml, hown, hg⟩ (kX6_readsNumber l dC dI B cI cC cJ mo mx mt md mp tx tdx dp pr th flx fax sn pn kp cm n_14 (nI k) 59 r1_17 td1_17 fl1_17 fa1_17 (by omega) (by omega) (by omega) (by omega) (by omega) (by omega) (Or.inr ⟨k, by omega, rfl⟩) hF_17 _) (cwV 3 hg (gi_V w_564 w_565 w_698 w_8 w_566) rfl rfl rfl (by decide +kernel) ⟨Nat.le_of_ble_eq_true rfl, Nat.le_of_ble_eq_true rfl⟩) (pre_MV (va_recv hK hP (ci := 6) (q0 := 0) rfl rfl) (Nat.le_trans hB hS.1) (hP.sub [0, 1, 2, 3, 4] rfl) hK ((hD.weaken (fun _ _ _ h => hAB _ h)).sub [0, 1, 2, 3, 4] (by decide) rfl) (hT.kept (hS.mono hAB))) rfl rfl hl.1 rfl (lv_room (Nat.le_of_ble_eq_true rfl)) dX6_readsRow_106 ⟨Nat.le_of_ble_eq_true rfl, Nat.le_of_ble_eq_true rfl⟩) hP hD hS hA rfl (Nat.le_of_ble_eq_true rfl) rfl rfl (fun H locs hP hD hS => ?_)
              refine W.eq (g2 := F0 m 109 ls [.int (oI r1_17)]) rfl ?_
              refine lv_istore_n (lv' := [(3, .int (oI r1_17)), (0, .ref mo), (1, .int (nI q0)), (2, .int (nI n_4)), (4, .int (nI (m_nums (nI n_4)))), (5, .int (nI k))]) hx hb dX6_readsRow_109 rfl hl (by decide) rfl (fun ls hl => ?_)
              refine lv_iinc (v := (nI (k + 1))) (lv' := [(5, .int (nI (k + 1))), (3, .int (oI r1_17)), (0, .ref mo), (1, .int (nI q0)), (2, .int (nI n_4)), (4, .int (nI (m_nums (nI n_4))))]) hx hb dX6_readsRow_110 hl (k := 5) rfl (by rw [← nI_add]; rfl) (by decide) rfl (fun ls hl => ?_)
              refine lv_goto (tgt := 75) hx hb dX6_readsRow_113 (by decide) ?_
              exact ih_7 (k + 1, r1_17, td1_17, fl1_17, fa1_17) _ _ _ ⟨(by first | omega | (dsimp only; omega) | (dsimp only; done)), (by first | omega | (dsimp only; omega) | (dsimp only; done)), hb_r1_17, (by (try dsimp only); rw [he, m_rdNums.eq_def]; simp [c_8, eq_true c_15, hF_17]), hP, hD, hS, lv_sub hl [2, 3, 4, 1, 5, 0] rfl⟩
      · exact absurd hI.1 (Nat.not_lt_zero _)
    · skip
      have c_5 := na_eq (a := cm) (b := 50) c_5 (by omega) (by omega)
      refine lv_aload_n hx hb dX6_readsRow_23 rfl (lv_at hl 1 rfl) ?_
      refine lv_iload_n hx hb dX6_readsRow_24 rfl (lv_at hl 0 rfl) ?_
      refine lv_if_ge (tgt := 32) hx hb dX6_readsRow_25 (by decide) (fun c_18 => ?_) (fun c_18 => ?_)
      · skip
        have c_18 := na_le (a := 0) (b := n_4) c_18 (by omega) (by omega)
        refine lv_iconst (v := 5) hx hb dX6_readsRow_32 (by decide) ?_
        refine lv_iload_n hx hb dX6_readsRow_33 rfl (lv_at hl 2 rfl) ?_
        refine go_M (r := some (.int (-1))) (wc' := [(mo, .inr (6, [.int th, .ref mx, .int (nI sn), .int 5, .int (nI q0), .ref mt, .int (nI pn), .int (nI kp), .int (nI cm), .ref md, .ref mp])), (mx, .inl (cI, 500, .inl tx)), (mt, .inl (cI, 900, .inl td)), (md, .inl (cI, 16, .inl dp)), (mp, .inl (cI, 16, .inl pr))]) (w2 := [(mo, .inr (6, [.int th, .ref mx, .int (nI sn), .int 5, .int (nI q0), .ref mt, .int (nI pn), .int (nI kp), .int (nI cm), .ref md, .ref mp])), (mx, .inl (cI, 500, .inl tx)), (mt, .inl (cI, 900, .inl td)), (md, .inl (cI, 16, .inl dp)), (mp, .inl (cI, 16, .inl pr))]) [0, 1, 2, 3, 4] (va_runV (As := [.int 5, .int (nI q0)]) (rest := []) ⟨hx, hb, hml, hown, hg⟩ (kX6_fails l dC dI B cI cC cJ mo mx mt md mp tx td dp pr th fl fa sn pn kp cm 5 (nI q0) (by omega) (by omega) (by omega) (by omega) _) (cwV 2 hg (gi_V w_561 w_562 w_697 w_8 w_563) rfl rfl rfl (by decide +kernel) ⟨Nat.le_of_ble_eq_true rfl, Nat.le_of_ble_eq_true rfl⟩) (pre_MV (va_recv hK hP (ci := 6) (q0 := 0) rfl rfl) (Nat.le_trans hB hS.1) (hP.sub [0, 1, 2, 3, 4] rfl) hK ((hD.weaken (fun _ _ _ h => hAB _ h)).sub [0, 1, 2, 3, 4] (by decide) rfl) hT) rfl rfl hl.1 rfl (lv_room (Nat.le_of_ble_eq_true rfl)) dX6_readsRow_34 ⟨Nat.le_of_ble_eq_true rfl, Nat.le_of_ble_eq_true rfl⟩) hP hD hS hA rfl (Nat.le_of_ble_eq_true rfl) rfl rfl (fun H locs hP hD hS => ?_)
        refine W.eq (g2 := F0 m 37 ls [.int (-1)]) rfl ?_
        have hP9 := hP
        have hS9 := hS
        have h9 : m_rdRow tx sn cm q0 td fl fa = (none, td, 5, (nI q0)) := by simp [m_rdRow, hE_1, eq_true c_5, c_18]
        have h9 := hF.symm.trans h9
        cases h9
        exact W.iret hx hb hr (fun t ht hW => ⟨rfl, by rw [ht]; exact hP9, hS9.F ht⟩) hS9.2.2 dX6_readsRow_37
      · skip
        have c_18 := na_nle (a := 0) (b := n_4) c_18 (by omega) (by omega)
        exact absurd c_18 (Nat.not_lt_zero _)
set_option maxHeartbeats 4000000 in
set_option maxRecDepth 100000 in
theorem kX6_copies (l : Launch) (dC : Nat → ClassId) (dI : Nat → Nat → Nat) (B : Nat) (cI cC cJ : ClassId) (mo : Nat) (mx : Nat) (mt : Nat) (md : Nat) (mp : Nat) (tx : Nat → Int32) (td : Nat → Int32) (dp : Nat → Int32) (pr : Nat → Int32) (th : Int32) (fl : Int32) (fa : Int32) (sn : Nat) (pn : Nat) (kp : Nat) (cm : Nat) (q0 : Nat) (q1 : Nat) (q2 : Nat) (td1 : Nat → Int32) (hsn : sn ≤ 500) (hpn : pn ≤ 50) (hkp : kp ≤ 50) (hcm : cm ≤ 50) (hq0 : q0 + 6 * q2 ≤ 900) (hq1 : q1 + 6 * q2 ≤ 900) (hF : m_copy q0 q1 q2 0 td = td1) (sz9 : Nat) : Met l yX6_copies wsX6_copies ({ frames := 0, cells := 0, slots := 0, locals := 0 }) (q_Mp (dC, dI) vwCl [.ref mo, .int (nI q0), .int (nI q1), .int (nI q2)] [(mo, .inr (6, [.int th, .ref mx, .int (nI sn), .int fl, .int fa, .ref mt, .int (nI pn), .int (nI kp), .int (nI cm), .ref md, .ref mp])), (mx, .inl (cI, 500, .inl tx)), (mt, .inl (cI, 900, .inl td)), (md, .inl (cI, 16, .inl dp)), (mp, .inl (cI, 16, .inl pr))] [(cI, .int), (cC, .char), (cJ, .long)] B sz9) (q_Mq (dC, dI) vwCl [(mo, .inr (6, [.int th, .ref mx, .int (nI sn), .int fl, .int fa, .ref mt, .int (nI pn), .int (nI kp), .int (nI cm), .ref md, .ref mp])), (mx, .inl (cI, 500, .inl tx)), (mt, .inl (cI, 900, .inl td1)), (md, .inl (cI, 16, .inl dp)), (mp, .inl (cI, 16, .inl pr))] (va_A [(mo, .inr (6, [.int th, .ref mx, .int (nI sn), .int fl, .int fa, .ref mt, .int (nI pn), .int (nI kp), .int (nI cm), .ref md, .ref mp])), (mx, .inl (cI, 500, .inl tx)), (mt, .inl (cI, 900, .inl td)), (md, .inl (cI, 16, .inl dp)), (mp, .inl (cI, 16, .inl pr))] sz9) none) 0 0 (va_A [(mo, .inr (6, [.int th, .ref mx, .int (nI sn), .int fl, .int fa, .ref mt, .int (nI pn), .int (nI kp), .int (nI cm), .ref md, .ref mp])), (mx, .inl (cI, 500, .inl tx)), (mt, .inl (cI, 900, .inl td)), (md, .inl (cI, 16, .inl dp)), (mp, .inl (cI, 16, .inl pr))] sz9) := by
  refine Met.ofW (cc := cX6_copies) (maxL := 5) (ret := none) (by decide) rfl ?_
  intro p e s m args below meth c s₁ Bd hml hv
  obtain ⟨rfl, hsz9, hB, hP, hK, hD0, hT⟩ := hv
  have hx := Bd.exec
  have hb := Bd.bytes
  have hr := Bd.returns
  have hts := atoms_spec (ws := wsX6_copies) Bd.pre
  have hg : ∀ w ∈ lw_good, w.before _ s = true := fun w h => hts w (List.mem_cons_of_mem _ h)
  have hown : s.vm.findClass RX6 = some m.cls := findClass_of_methodNamed Bd.named
  have hlocks := Bd.notSynchronized
  subst hsz9
  have hD := hD0.self (sz := s.heap.size)
  generalize hAe : va_A [(mo, .inr (6, [.int th, .ref mx, .int (nI sn), .int fl, .int fa, .ref mt, .int (nI pn), .int (nI kp), .int (nI cm), .ref md, .ref mp])), (mx, .inl (cI, 500, .inl tx)), (mt, .inl (cI, 900, .inl td)), (md, .inl (cI, 16, .inl dp)), (mp, .inl (cI, 16, .inl pr))] s.heap.size = A at hD ⊢
  have hA : ∀ q : Nat, s.heap.size ≤ q → A q := fun q h => by rw [← hAe]; exact Or.inr h
  have hAB : ∀ q, A q → B ≤ q := by rw [← hAe]; exact va_A.ge hD0 hB
  have hS : va_S A s.heap s.heap [] := va_S.rf
  have hP : va_P (dC, dI) vwCl [(mo, .inr (6, [.int th, .ref mx, .int (nI sn), .int fl, .int fa, .ref mt, .int (nI pn), .int (nI kp), .int (nI cm), .ref md, .ref mp])), (mx, .inl (cI, 500, .inl tx)), (mt, .inl (cI, 900, .inl td)), (md, .inl (cI, 16, .inl dp)), (mp, .inl (cI, 16, .inl pr))] s.heap := hP
  have hl := lv_entry ([.ref mo, .int (nI q0), .int (nI q1), .int (nI q2)]) (n := 5) (Nat.le_of_ble_eq_true rfl)
  rw [lg_entry_eq]
  generalize (lg_sl ([.ref mo, .int (nI q0), .int (nI q1), .int (nI q2)]) ++ List.replicate (5 - (lg_sl ([.ref mo, .int (nI q0), .int (nI q1), .int (nI q2)])).length) Slot.unset).toArray = ls at hl ⊢
  have hl : lv_has ls 5 [(0, .ref mo), (1, .int (nI q0)), (2, .int (nI q1)), (3, .int (nI q2))] := hl
  refine lv_iconst (v := 0) hx hb dX6_copies_0 (by decide) ?_
  refine lv_istore (lv' := [(4, .int 0), (0, .ref mo), (1, .int (nI q0)), (2, .int (nI q1)), (3, .int (nI q2))]) hx hb dX6_copies_1 hl (by decide) rfl (fun ls hl => ?_)
  refine loop_M (σ := Nat × (Nat → Int32)) (fun n x H locs ls => 6 * q2 - x.1 < n ∧ x.1 ≤ 6 * q2 ∧ m_copy q0 q1 q2 0 td = m_copy q0 q1 q2 x.1 x.2 ∧ va_P (dC, dI) vwCl [(mo, .inr (6, [.int th, .ref mx, .int (nI sn), .int fl, .int fa, .ref mt, .int (nI pn), .int (nI kp), .int (nI cm), .ref md, .ref mp])), (mx, .inl (cI, 500, .inl tx)), (mt, .inl (cI, 900, .inl x.2)), (md, .inl (cI, 16, .inl dp)), (mp, .inl (cI, 16, .inl pr))] H ∧ va_D A [(mo, .inr (6, [.int th, .ref mx, .int (nI sn), .int fl, .int fa, .ref mt, .int (nI pn), .int (nI kp), .int (nI cm), .ref md, .ref mp])), (mx, .inl (cI, 500, .inl tx)), (mt, .inl (cI, 900, .inl x.2)), (md, .inl (cI, 16, .inl dp)), (mp, .inl (cI, 16, .inl pr))] ∧ va_S A s.heap H locs ∧ lv_has ls 5 [(0, .ref mo), (1, .int (nI q0)), (2, .int (nI q1)), (3, .int (nI q2)), (4, .int (nI x.1))]) (fun n x H locs ls ih_1 hI => ?_) (fun x H locs ls hI => ?_) (n := (6 * q2 - 0) + 1) (x := (0, td)) ⟨(Nat.lt_succ_self _), (by first | omega | (dsimp only; omega) | (dsimp only; done)), rfl, hP, hD, hS, lv_sub hl [1, 2, 3, 4, 0] rfl⟩
  · skip
    obtain ⟨k, tdx⟩ := x
    obtain ⟨hfu, hk0, he, hP, hD, hS, hl⟩ := hI
    have hfu : 6 * q2 - k < n + 1 := hfu
    have hk0 : k ≤ 6 * q2 := hk0
    have he : m_copy q0 q1 q2 0 td = m_copy q0 q1 q2 k tdx := he
    have hP : va_P (dC, dI) vwCl [(mo, .inr (6, [.int th, .ref mx, .int (nI sn), .int fl, .int fa, .ref mt, .int (nI pn), .int (nI kp), .int (nI cm), .ref md, .ref mp])), (mx, .inl (cI, 500, .inl tx)), (mt, .inl (cI, 900, .inl tdx)), (md, .inl (cI, 16, .inl dp)), (mp, .inl (cI, 16, .inl pr))] H := hP
    have hD : va_D A [(mo, .inr (6, [.int th, .ref mx, .int (nI sn), .int fl, .int fa, .ref mt, .int (nI pn), .int (nI kp), .int (nI cm), .ref md, .ref mp])), (mx, .inl (cI, 500, .inl tx)), (mt, .inl (cI, 900, .inl tdx)), (md, .inl (cI, 16, .inl dp)), (mp, .inl (cI, 16, .inl pr))] := hD
    have hl : lv_has ls 5 [(0, .ref mo), (1, .int (nI q0)), (2, .int (nI q1)), (3, .int (nI q2)), (4, .int (nI k))] := hl
    refine lv_iload hx hb dX6_copies_3 (lv_at hl 4 rfl) ?_
    refine lv_bipush (v := 6) hx hb dX6_copies_5 (by decide) ?_
    refine lv_iload_n hx hb dX6_copies_7 rfl (lv_at hl 3 rfl) ?_
    refine lv_imul hx hb dX6_copies_8 ?_
    refine top_eq (y := (nI (6 * q2))) (by exact pk_mul _ _) ?_
    refine lv_icmp_ge (tgt := 36) hx hb dX6_copies_9 (by decide) (fun c_2 => ?_) (fun c_2 => ?_)
    · skip
      have c_2 := na_le (a := 6 * q2) (b := k) c_2 (by omega) (by omega)
      have hP9 := hP
      have hS9 := hS
      have h9 : m_copy q0 q1 q2 0 td = tdx := by rw [he, m_copy]; simp [c_2]
      have h9 := hF.symm.trans h9
      cases h9
      exact W.vret hx hb hr (fun t ht hW => ⟨rfl, by rw [ht]; exact hP9, hS9.F ht⟩) hS9.2.2 dX6_copies_36
    · skip
      have c_2 := na_nle (a := 6 * q2) (b := k) c_2 (by omega) (by omega)
      refine lv_aload_n hx hb dX6_copies_12 rfl (lv_at hl 0 rfl) ?_
      refine va_get (D := (dC, dI)) (ci := 6) (v := .ref mt) (C := RX6) (T := TX6) (N := 11) hx hb hg in_X6 hown hK hP 0 rfl rfl 5 (by decide) (hg _ w_508) (fun _ h9 => h9) rfl dX6_copies_13 ?_
      refine lv_iload_n hx hb dX6_copies_16 rfl (lv_at hl 2 rfl) ?_
      refine lv_iload hx hb dX6_copies_17 (lv_at hl 4 rfl) ?_
      refine lv_iadd hx hb dX6_copies_19 ?_
      refine top_eq (y := (nI (q1 + k))) (by exact nI_add _ _) ?_
      refine lv_aload_n hx hb dX6_copies_20 rfl (lv_at hl 0 rfl) ?_
      refine va_get (D := (dC, dI)) (ci := 6) (v := .ref mt) (C := RX6) (T := TX6) (N := 11) hx hb hg in_X6 hown hK hP 0 rfl rfl 5 (by decide) (hg _ w_508) (fun _ h9 => h9) rfl dX6_copies_21 ?_
      refine lv_iload_n hx hb dX6_copies_24 rfl (lv_at hl 1 rfl) ?_
      refine lv_iload hx hb dX6_copies_25 (lv_at hl 4 rfl) ?_
      refine lv_iadd hx hb dX6_copies_27 ?_
      refine top_eq (y := (nI (q0 + k))) (by exact nI_add _ _) ?_
      refine x_iald (k := q0 + k) hx hb hK hP 2 0 rfl rfl (by omega) (by decide) dX6_copies_28 ?_
      refine x_iast (k := q1 + k) hx hb hK hP hD hS 2 0 rfl rfl (by omega) (by decide) dX6_copies_29 (fun H locs hP hD hS => ?_)
      have hP : va_P (dC, dI) vwCl [(mo, .inr (6, [.int th, .ref mx, .int (nI sn), .int fl, .int fa, .ref mt, .int (nI pn), .int (nI kp), .int (nI cm), .ref md, .ref mp])), (mx, .inl (cI, 500, .inl tx)), (mt, .inl (cI, 900, .inl (upd tdx (q1 + k) (tdx (q0 + k))))), (md, .inl (cI, 16, .inl dp)), (mp, .inl (cI, 16, .inl pr))] H := hP
      have hD : va_D A [(mo, .inr (6, [.int th, .ref mx, .int (nI sn), .int fl, .int fa, .ref mt, .int (nI pn), .int (nI kp), .int (nI cm), .ref md, .ref mp])), (mx, .inl (cI, 500, .inl tx)), (mt, .inl (cI, 900, .inl (upd tdx (q1 + k) (tdx (q0 + k))))), (md, .inl (cI, 16, .inl dp)), (mp, .inl (cI, 16, .inl pr))] := hD
      refine lv_iinc (v := (nI (k + 1))) (lv' := [(4, .int (nI (k + 1))), (0, .ref mo), (1, .int (nI q0)), (2, .int (nI q1)), (3, .int (nI q2))]) hx hb dX6_copies_30 hl (k := 4) rfl (by rw [← nI_add]; rfl) (by decide) rfl (fun ls hl => ?_)
      refine lv_goto (tgt := 3) hx hb dX6_copies_33 (by decide) ?_
      exact ih_1 (k + 1, upd tdx (q1 + k) (tdx (q0 + k))) _ _ _ ⟨(by first | omega | (dsimp only; omega) | (dsimp only; done)), (by first | omega | (dsimp only; omega) | (dsimp only; done)), (by (try dsimp only); rw [he, m_copy]; simp [c_2]), hP, hD, hS, lv_sub hl [1, 2, 3, 4, 0] rfl⟩
  · exact absurd hI.1 (Nat.not_lt_zero _)
set_option maxHeartbeats 4000000 in
set_option maxRecDepth 100000 in
theorem kX6_read (l : Launch) (dC : Nat → ClassId) (dI : Nat → Nat → Nat) (B : Nat) (cI cC cJ : ClassId) (mo : Nat) (mx : Nat) (mt : Nat) (md : Nat) (mp : Nat) (tx : Nat → Int32) (td : Nat → Int32) (dp : Nat → Int32) (pr : Nat → Int32) (th : Int32) (fl : Int32) (fa : Int32) (sn : Nat) (pn : Nat) (kp : Nat) (cm : Nat) (x1 : Int32) (th1 : Int32) (pn1 : Nat) (cm1 : Nat) (td1 : Nat → Int32) (fl1 : Int32) (fa1 : Int32) (hsn : sn ≤ 500) (hpn : pn ≤ 50) (hkp : kp ≤ 50) (hcm : cm ≤ 50) (hF : m_read tx sn td pn = (x1, th1, pn1, cm1, td1, fl1, fa1)) (sz9 : Nat) : Met l yX6_read wsX6_read ({ frames := 5, cells := 0, slots := 0, locals := 120 }) (q_Mp (dC, dI) vwCl [.ref mo] [(mo, .inr (6, [.int th, .ref mx, .int (nI sn), .int fl, .int fa, .ref mt, .int (nI pn), .int (nI kp), .int (nI cm), .ref md, .ref mp])), (mx, .inl (cI, 500, .inl tx)), (mt, .inl (cI, 900, .inl td)), (md, .inl (cI, 16, .inl dp)), (mp, .inl (cI, 16, .inl pr))] [(cI, .int), (cC, .char), (cJ, .long)] B sz9) (q_Mq (dC, dI) vwCl [(mo, .inr (6, [.int th1, .ref mx, .int (nI 0), .int fl1, .int fa1, .ref mt, .int (nI pn1), .int (nI kp), .int (nI cm1), .ref md, .ref mp])), (mx, .inl (cI, 500, .inl tx)), (mt, .inl (cI, 900, .inl td1)), (md, .inl (cI, 16, .inl dp)), (mp, .inl (cI, 16, .inl pr))] (va_A [(mo, .inr (6, [.int th, .ref mx, .int (nI sn), .int fl, .int fa, .ref mt, .int (nI pn), .int (nI kp), .int (nI cm), .ref md, .ref mp])), (mx, .inl (cI, 500, .inl tx)), (mt, .inl (cI, 900, .inl td)), (md, .inl (cI, 16, .inl dp)), (mp, .inl (cI, 16, .inl pr))] sz9) (some (.int x1))) 0 0 (va_A [(mo, .inr (6, [.int th, .ref mx, .int (nI sn), .int fl, .int fa, .ref mt, .int (nI pn), .int (nI kp), .int (nI cm), .ref md, .ref mp])), (mx, .inl (cI, 500, .inl tx)), (mt, .inl (cI, 900, .inl td)), (md, .inl (cI, 16, .inl dp)), (mp, .inl (cI, 16, .inl pr))] sz9) := by
  refine Met.ofW (cc := cX6_read) (maxL := 2) (ret := (some .int)) (by decide) rfl ?_
  intro p e s m args below meth c s₁ Bd hml hv
  obtain ⟨rfl, hsz9, hB, hP, hK, hD0, hT⟩ := hv
  have hx := Bd.exec
  have hb := Bd.bytes
  have hr := Bd.returns
  have hts := atoms_spec (ws := wsX6_read) Bd.pre
  have hg : ∀ w ∈ lw_good, w.before _ s = true := fun w h => hts w (List.mem_cons_of_mem _ h)
  have hown : s.vm.findClass RX6 = some m.cls := findClass_of_methodNamed Bd.named
  have hlocks := Bd.notSynchronized
  subst hsz9
  have hD := hD0.self (sz := s.heap.size)
  generalize hAe : va_A [(mo, .inr (6, [.int th, .ref mx, .int (nI sn), .int fl, .int fa, .ref mt, .int (nI pn), .int (nI kp), .int (nI cm), .ref md, .ref mp])), (mx, .inl (cI, 500, .inl tx)), (mt, .inl (cI, 900, .inl td)), (md, .inl (cI, 16, .inl dp)), (mp, .inl (cI, 16, .inl pr))] s.heap.size = A at hD ⊢
  have hA : ∀ q : Nat, s.heap.size ≤ q → A q := fun q h => by rw [← hAe]; exact Or.inr h
  have hAB : ∀ q, A q → B ≤ q := by rw [← hAe]; exact va_A.ge hD0 hB
  have hS : va_S A s.heap s.heap [] := va_S.rf
  have hP : va_P (dC, dI) vwCl [(mo, .inr (6, [.int th, .ref mx, .int (nI sn), .int fl, .int fa, .ref mt, .int (nI pn), .int (nI kp), .int (nI cm), .ref md, .ref mp])), (mx, .inl (cI, 500, .inl tx)), (mt, .inl (cI, 900, .inl td)), (md, .inl (cI, 16, .inl dp)), (mp, .inl (cI, 16, .inl pr))] s.heap := hP
  have hl := lv_entry ([.ref mo]) (n := 2) (Nat.le_of_ble_eq_true rfl)
  rw [lg_entry_eq]
  generalize (lg_sl ([.ref mo]) ++ List.replicate (2 - (lg_sl ([.ref mo])).length) Slot.unset).toArray = ls at hl ⊢
  have hl : lv_has ls 2 [(0, .ref mo)] := hl
  refine lv_aload_n hx hb dX6_read_0 rfl (lv_at hl 0 rfl) ?_
  refine lv_iconst (v := 0) hx hb dX6_read_1 (by decide) ?_
  refine va_put (D := (dC, dI)) (ci := 6) (v := .int 0) (ty := .int) (C := RX6) (T := TX6) (N := 11) hx hb hg in_X6 tyX6 tyX6_ok nmX6_ok hown hK hP hD hS 0 rfl rfl 3 (by decide) (hg _ w_506) (fun _ h9 => h9) rfl (by decide +kernel) rfl rfl (Nat.le_of_ble_eq_true rfl) dX6_read_2 (fun H locs hP hD hS => ?_)
  have hP : va_P (dC, dI) vwCl [(mo, .inr (6, [.int th, .ref mx, .int (nI sn), .int 0, .int fa, .ref mt, .int (nI pn), .int (nI kp), .int (nI cm), .ref md, .ref mp])), (mx, .inl (cI, 500, .inl tx)), (mt, .inl (cI, 900, .inl td)), (md, .inl (cI, 16, .inl dp)), (mp, .inl (cI, 16, .inl pr))] H := hP
  have hD : va_D A [(mo, .inr (6, [.int th, .ref mx, .int (nI sn), .int 0, .int fa, .ref mt, .int (nI pn), .int (nI kp), .int (nI cm), .ref md, .ref mp])), (mx, .inl (cI, 500, .inl tx)), (mt, .inl (cI, 900, .inl td)), (md, .inl (cI, 16, .inl dp)), (mp, .inl (cI, 16, .inl pr))] := hD
  refine lv_aload_n hx hb dX6_read_5 rfl (lv_at hl 0 rfl) ?_
  refine lv_iconst (v := (-1)) hx hb dX6_read_6 (by decide) ?_
  refine va_put (D := (dC, dI)) (ci := 6) (v := .int (-1)) (ty := .int) (C := RX6) (T := TX6) (N := 11) hx hb hg in_X6 tyX6 tyX6_ok nmX6_ok hown hK hP hD hS 0 rfl rfl 4 (by decide) (hg _ w_507) (fun _ h9 => h9) rfl (by decide +kernel) rfl rfl (Nat.le_of_ble_eq_true rfl) dX6_read_7 (fun H locs hP hD hS => ?_)
  have hP : va_P (dC, dI) vwCl [(mo, .inr (6, [.int th, .ref mx, .int (nI sn), .int 0, .int (-1), .ref mt, .int (nI pn), .int (nI kp), .int (nI cm), .ref md, .ref mp])), (mx, .inl (cI, 500, .inl tx)), (mt, .inl (cI, 900, .inl td)), (md, .inl (cI, 16, .inl dp)), (mp, .inl (cI, 16, .inl pr))] H := hP
  have hD : va_D A [(mo, .inr (6, [.int th, .ref mx, .int (nI sn), .int 0, .int (-1), .ref mt, .int (nI pn), .int (nI kp), .int (nI cm), .ref md, .ref mp])), (mx, .inl (cI, 500, .inl tx)), (mt, .inl (cI, 900, .inl td)), (md, .inl (cI, 16, .inl dp)), (mp, .inl (cI, 16, .inl pr))] := hD
  refine lv_aload_n hx hb dX6_read_10 rfl (lv_at hl 0 rfl) ?_
  refine lv_iconst (v := 0) hx hb dX6_read_11 (by decide) ?_
  refine va_put (D := (dC, dI)) (ci := 6) (v := .int 0) (ty := .int) (C := RX6) (T := TX6) (N := 11) hx hb hg in_X6 tyX6 tyX6_ok nmX6_ok hown hK hP hD hS 0 rfl rfl 8 (by decide) (hg _ w_511) (fun _ h9 => h9) rfl (by decide +kernel) rfl rfl (Nat.le_of_ble_eq_true rfl) dX6_read_12 (fun H locs hP hD hS => ?_)
  have hP : va_P (dC, dI) vwCl [(mo, .inr (6, [.int th, .ref mx, .int (nI sn), .int 0, .int (-1), .ref mt, .int (nI pn), .int (nI kp), .int 0, .ref md, .ref mp])), (mx, .inl (cI, 500, .inl tx)), (mt, .inl (cI, 900, .inl td)), (md, .inl (cI, 16, .inl dp)), (mp, .inl (cI, 16, .inl pr))] H := hP
  have hD : va_D A [(mo, .inr (6, [.int th, .ref mx, .int (nI sn), .int 0, .int (-1), .ref mt, .int (nI pn), .int (nI kp), .int 0, .ref md, .ref mp])), (mx, .inl (cI, 500, .inl tx)), (mt, .inl (cI, 900, .inl td)), (md, .inl (cI, 16, .inl dp)), (mp, .inl (cI, 16, .inl pr))] := hD
  refine lv_iconst (v := 0) hx hb dX6_read_15 (by decide) ?_
  refine lv_istore_n (lv' := [(1, .int 0), (0, .ref mo)]) hx hb dX6_read_16 rfl hl (by decide) rfl (fun ls hl => ?_)
  refine loop_M (σ := Nat × (Option Nat) × Nat × (Nat → Int32) × Int32 × Int32) (fun n x H locs ls => x.1 < n ∧ x.2.2.1 ≤ 50 ∧ (∀ n, x.2.1 = some n → n < 501) ∧ (∀ n, x.2.1 = some n → sn < x.1 + n) ∧ m_rows tx sn (sn + 1) (some 0) 0 td 0 (-1) = m_rows tx sn x.1 x.2.1 x.2.2.1 x.2.2.2.1 x.2.2.2.2.1 x.2.2.2.2.2 ∧ va_P (dC, dI) vwCl [(mo, .inr (6, [.int th, .ref mx, .int (nI sn), .int x.2.2.2.2.1, .int x.2.2.2.2.2, .ref mt, .int (nI pn), .int (nI kp), .int (nI x.2.2.1), .ref md, .ref mp])), (mx, .inl (cI, 500, .inl tx)), (mt, .inl (cI, 900, .inl x.2.2.2.1)), (md, .inl (cI, 16, .inl dp)), (mp, .inl (cI, 16, .inl pr))] H ∧ va_D A [(mo, .inr (6, [.int th, .ref mx, .int (nI sn), .int x.2.2.2.2.1, .int x.2.2.2.2.2, .ref mt, .int (nI pn), .int (nI kp), .int (nI x.2.2.1), .ref md, .ref mp])), (mx, .inl (cI, 500, .inl tx)), (mt, .inl (cI, 900, .inl x.2.2.2.1)), (md, .inl (cI, 16, .inl dp)), (mp, .inl (cI, 16, .inl pr))] ∧ va_S A s.heap H locs ∧ lv_has ls 2 [(0, .ref mo), (1, .int (oI x.2.1))]) (fun n x H locs ls ih_1 hI => ?_) (fun x H locs ls hI => ?_) (n := (sn + 1) + 1) (x := (sn + 1, (some 0), 0, td, 0, (-1))) ⟨(Nat.lt_succ_self _), (by first | omega | (dsimp only; omega) | (dsimp only; done)), (fun n h => by first | (cases h; done) | (cases h; omega)), (fun n h => by first | (cases h; done) | (cases h; omega)), rfl, hP, hD, hS, lv_sub hl [1, 0] rfl⟩
  · skip
    obtain ⟨f, q, cmx, tdx, flx, fax⟩ := x
    obtain ⟨hfu, hcx, hb_q, hff, he, hP, hD, hS, hl⟩ := hI
    have hfu : f < n + 1 := hfu
    have hcx : cmx ≤ 50 := hcx
    have hb_q : ∀ n, q = some n → n < 501 := hb_q
    have hff : ∀ n, q = some n → sn < f + n := hff
    have he : m_rows tx sn (sn + 1) (some 0) 0 td 0 (-1) = m_rows tx sn f q cmx tdx flx fax := he
    have hP : va_P (dC, dI) vwCl [(mo, .inr (6, [.int th, .ref mx, .int (nI sn), .int flx, .int fax, .ref mt, .int (nI pn), .int (nI kp), .int (nI cmx), .ref md, .ref mp])), (mx, .inl (cI, 500, .inl tx)), (mt, .inl (cI, 900, .inl tdx)), (md, .inl (cI, 16, .inl dp)), (mp, .inl (cI, 16, .inl pr))] H := hP
    have hD : va_D A [(mo, .inr (6, [.int th, .ref mx, .int (nI sn), .int flx, .int fax, .ref mt, .int (nI pn), .int (nI kp), .int (nI cmx), .ref md, .ref mp])), (mx, .inl (cI, 500, .inl tx)), (mt, .inl (cI, 900, .inl tdx)), (md, .inl (cI, 16, .inl dp)), (mp, .inl (cI, 16, .inl pr))] := hD
    have hl : lv_has ls 2 [(0, .ref mo), (1, .int (oI q))] := hl
    refine lv_iload_n hx hb dX6_read_17 rfl (lv_at hl 1 rfl) ?_
    refine lv_if_lt (tgt := 56) hx hb dX6_read_18 (by decide) (fun c_2 => ?_) (fun c_2 => ?_)
    · skip
      obtain rfl : q = none := oI_neg (c_2) hb_q (by omega)
      refine lv_aload_n hx hb dX6_read_56 rfl (lv_at hl 0 rfl) ?_
      refine lv_iconst (v := 0) hx hb dX6_read_57 (by decide) ?_
      refine va_put (D := (dC, dI)) (ci := 6) (v := .int 0) (ty := .int) (C := RX6) (T := TX6) (N := 11) hx hb hg in_X6 tyX6 tyX6_ok nmX6_ok hown hK hP hD hS 0 rfl rfl 2 (by decide) (hg _ w_505) (fun _ h9 => h9) rfl (by decide +kernel) rfl rfl (Nat.le_of_ble_eq_true rfl) dX6_read_58 (fun H locs hP hD hS => ?_)
      have hP : va_P (dC, dI) vwCl [(mo, .inr (6, [.int th, .ref mx, .int 0, .int flx, .int fax, .ref mt, .int (nI pn), .int (nI kp), .int (nI cmx), .ref md, .ref mp])), (mx, .inl (cI, 500, .inl tx)), (mt, .inl (cI, 900, .inl tdx)), (md, .inl (cI, 16, .inl dp)), (mp, .inl (cI, 16, .inl pr))] H := hP
      have hD : va_D A [(mo, .inr (6, [.int th, .ref mx, .int 0, .int flx, .int fax, .ref mt, .int (nI pn), .int (nI kp), .int (nI cmx), .ref md, .ref mp])), (mx, .inl (cI, 500, .inl tx)), (mt, .inl (cI, 900, .inl tdx)), (md, .inl (cI, 16, .inl dp)), (mp, .inl (cI, 16, .inl pr))] := hD
      refine lv_iload_n hx hb dX6_read_61 rfl (lv_at hl 1 rfl) ?_
      refine lv_if_ge (tgt := 71) hx hb dX6_read_62 (by decide) (fun c_3 => ?_) (fun c_3 => ?_)
      · skip
        exact absurd c_3 (by decide)
      · skip
        refine lv_aload_n hx hb dX6_read_65 rfl (lv_at hl 0 rfl) ?_
        refine lv_iconst (v := 1) hx hb dX6_read_66 (by decide) ?_
        refine go_M (r := some (.int 0)) (wc' := [(mo, .inr (6, [.int 1, .ref mx, .int (nI 0), .int flx, .int fax, .ref mt, .int (nI pn), .int (nI kp), .int (nI cmx), .ref md, .ref mp])), (mx, .inl (cI, 500, .inl tx)), (mt, .inl (cI, 900, .inl tdx)), (md, .inl (cI, 16, .inl dp)), (mp, .inl (cI, 16, .inl pr))]) (w2 := [(mo, .inr (6, [.int 1, .ref mx, .int (nI 0), .int flx, .int fax, .ref mt, .int (nI pn), .int (nI kp), .int (nI cmx), .ref md, .ref mp])), (mx, .inl (cI, 500, .inl tx)), (mt, .inl (cI, 900, .inl tdx)), (md, .inl (cI, 16, .inl dp)), (mp, .inl (cI, 16, .inl pr))]) [0, 1, 2, 3, 4] (va_runV (As := [.int 1]) (rest := []) ⟨hx, hb, hml, hown, hg⟩ (kX6_refuse l dC dI B cI cC cJ mo mx mt md mp tx tdx dp pr th flx fax 0 pn kp cmx 1 (by omega) (by omega) (by omega) (by omega) _) (cwV 1 hg (gi_V w_588 w_589 w_703 w_8 w_590) rfl rfl rfl (by decide +kernel) ⟨Nat.le_of_ble_eq_true rfl, Nat.le_of_ble_eq_true rfl⟩) (pre_MV (va_recv hK hP (ci := 6) (q0 := 0) rfl rfl) (Nat.le_trans hB hS.1) (hP.sub [0, 1, 2, 3, 4] rfl) hK ((hD.weaken (fun _ _ _ h => hAB _ h)).sub [0, 1, 2, 3, 4] (by decide) rfl) (hT.kept (hS.mono hAB))) rfl rfl hl.1 rfl (lv_room (Nat.le_of_ble_eq_true rfl)) dX6_read_67 ⟨Nat.le_of_ble_eq_true rfl, Nat.le_of_ble_eq_true rfl⟩) hP hD hS hA rfl (Nat.le_of_ble_eq_true rfl) rfl rfl (fun H locs hP hD hS => ?_)
        refine W.eq (g2 := F0 m 70 ls [.int 0]) rfl ?_
        have hP9 := hP
        have hS9 := hS
        have h9 : m_read tx sn td pn = (0, 1, pn, cmx, tdx, flx, fax) := by rw [m_read, he, m_rows_none]
        have h9 := hF.symm.trans h9
        cases h9
        exact W.iret hx hb hr (fun t ht hW => ⟨rfl, by rw [ht]; exact hP9, hS9.F ht⟩) hS9.2.2 dX6_read_70
    · skip
      obtain ⟨n_4, rfl⟩ : ∃ n, q = some n := oI_some c_2
      have hn_4 := hb_q _ rfl
      refine lv_iload_n hx hb dX6_read_21 rfl (lv_at hl 1 rfl) ?_
      refine lv_aload_n hx hb dX6_read_22 rfl (lv_at hl 0 rfl) ?_
      refine va_get (D := (dC, dI)) (ci := 6) (v := .int (nI sn)) (C := RX6) (T := TX6) (N := 11) hx hb hg in_X6 hown hK hP 0 rfl rfl 2 (by decide) (hg _ w_505) (fun _ h9 => h9) rfl dX6_read_23 ?_
      refine lv_icmp_ge (tgt := 56) hx hb dX6_read_26 (by decide) (fun c_5 => ?_) (fun c_5 => ?_)
      · skip
        have c_5 := na_le (a := sn) (b := n_4) c_5 (by omega) (by omega)
        refine lv_aload_n hx hb dX6_read_56 rfl (lv_at hl 0 rfl) ?_
        refine lv_iconst (v := 0) hx hb dX6_read_57 (by decide) ?_
        refine va_put (D := (dC, dI)) (ci := 6) (v := .int 0) (ty := .int) (C := RX6) (T := TX6) (N := 11) hx hb hg in_X6 tyX6 tyX6_ok nmX6_ok hown hK hP hD hS 0 rfl rfl 2 (by decide) (hg _ w_505) (fun _ h9 => h9) rfl (by decide +kernel) rfl rfl (Nat.le_of_ble_eq_true rfl) dX6_read_58 (fun H locs hP hD hS => ?_)
        have hP : va_P (dC, dI) vwCl [(mo, .inr (6, [.int th, .ref mx, .int 0, .int flx, .int fax, .ref mt, .int (nI pn), .int (nI kp), .int (nI cmx), .ref md, .ref mp])), (mx, .inl (cI, 500, .inl tx)), (mt, .inl (cI, 900, .inl tdx)), (md, .inl (cI, 16, .inl dp)), (mp, .inl (cI, 16, .inl pr))] H := hP
        have hD : va_D A [(mo, .inr (6, [.int th, .ref mx, .int 0, .int flx, .int fax, .ref mt, .int (nI pn), .int (nI kp), .int (nI cmx), .ref md, .ref mp])), (mx, .inl (cI, 500, .inl tx)), (mt, .inl (cI, 900, .inl tdx)), (md, .inl (cI, 16, .inl dp)), (mp, .inl (cI, 16, .inl pr))] := hD
        refine lv_iload_n hx hb dX6_read_61 rfl (lv_at hl 1 rfl) ?_
        refine lv_if_ge (tgt := 71) hx hb dX6_read_62 (by decide) (fun c_6 => ?_) (fun c_6 => ?_)
        · skip
          have c_6 := na_le (a := 0) (b := n_4) c_6 (by omega) (by omega)
          refine lv_aload_n hx hb dX6_read_71 rfl (lv_at hl 0 rfl) ?_
          refine lv_iconst (v := 0) hx hb dX6_read_72 (by decide) ?_
          refine va_put (D := (dC, dI)) (ci := 6) (v := .int 0) (ty := .int) (C := RX6) (T := TX6) (N := 11) hx hb hg in_X6 tyX6 tyX6_ok nmX6_ok hown hK hP hD hS 0 rfl rfl 0 (by decide) (hg _ w_503) (fun _ h9 => h9) rfl (by decide +kernel) rfl rfl (Nat.le_of_ble_eq_true rfl) dX6_read_73 (fun H locs hP hD hS => ?_)
          have hP : va_P (dC, dI) vwCl [(mo, .inr (6, [.int 0, .ref mx, .int 0, .int flx, .int fax, .ref mt, .int (nI pn), .int (nI kp), .int (nI cmx), .ref md, .ref mp])), (mx, .inl (cI, 500, .inl tx)), (mt, .inl (cI, 900, .inl tdx)), (md, .inl (cI, 16, .inl dp)), (mp, .inl (cI, 16, .inl pr))] H := hP
          have hD : va_D A [(mo, .inr (6, [.int 0, .ref mx, .int 0, .int flx, .int fax, .ref mt, .int (nI pn), .int (nI kp), .int (nI cmx), .ref md, .ref mp])), (mx, .inl (cI, 500, .inl tx)), (mt, .inl (cI, 900, .inl tdx)), (md, .inl (cI, 16, .inl dp)), (mp, .inl (cI, 16, .inl pr))] := hD
          refine lv_aload_n hx hb dX6_read_76 rfl (lv_at hl 0 rfl) ?_
          refine lv_aload_n hx hb dX6_read_77 rfl (lv_at hl 0 rfl) ?_
          refine va_get (D := (dC, dI)) (ci := 6) (v := .int (nI cmx)) (C := RX6) (T := TX6) (N := 11) hx hb hg in_X6 hown hK hP 0 rfl rfl 8 (by decide) (hg _ w_511) (fun _ h9 => h9) rfl dX6_read_78 ?_
          refine va_put (D := (dC, dI)) (ci := 6) (v := .int (nI cmx)) (ty := .int) (C := RX6) (T := TX6) (N := 11) hx hb hg in_X6 tyX6 tyX6_ok nmX6_ok hown hK hP hD hS 0 rfl rfl 6 (by decide) (hg _ w_509) (fun _ h9 => h9) rfl (by decide +kernel) rfl rfl (Nat.le_of_ble_eq_true rfl) dX6_read_81 (fun H locs hP hD hS => ?_)
          have hP : va_P (dC, dI) vwCl [(mo, .inr (6, [.int 0, .ref mx, .int 0, .int flx, .int fax, .ref mt, .int (nI cmx), .int (nI kp), .int (nI cmx), .ref md, .ref mp])), (mx, .inl (cI, 500, .inl tx)), (mt, .inl (cI, 900, .inl tdx)), (md, .inl (cI, 16, .inl dp)), (mp, .inl (cI, 16, .inl pr))] H := hP
          have hD : va_D A [(mo, .inr (6, [.int 0, .ref mx, .int 0, .int flx, .int fax, .ref mt, .int (nI cmx), .int (nI kp), .int (nI cmx), .ref md, .ref mp])), (mx, .inl (cI, 500, .inl tx)), (mt, .inl (cI, 900, .inl tdx)), (md, .inl (cI, 16, .inl dp)), (mp, .inl (cI, 16, .inl pr))] := hD
          refine lv_aload_n hx hb dX6_read_84 rfl (lv_at hl 0 rfl) ?_
          refine lv_sipush (v := 600) hx hb dX6_read_85 (by decide) ?_
          refine lv_iconst (v := 0) hx hb dX6_read_88 (by decide) ?_
          refine lv_aload_n hx hb dX6_read_89 rfl (lv_at hl 0 rfl) ?_
          refine va_get (D := (dC, dI)) (ci := 6) (v := .int (nI cmx)) (C := RX6) (T := TX6) (N := 11) hx hb hg in_X6 hown hK hP 0 rfl rfl 6 (by decide) (hg _ w_509) (fun _ h9 => h9) rfl dX6_read_90 ?_
          obtain ⟨td1_7, hF_7⟩ : ∃ (td1_7 : Nat → Int32), m_copy 600 0 cmx 0 tdx = td1_7 := ⟨_, rfl⟩
          refine go_M (r := none) (wc' := [(mo, .inr (6, [.int 0, .ref mx, .int (nI 0), .int flx, .int fax, .ref mt, .int (nI cmx), .int (nI kp), .int (nI cmx), .ref md, .ref mp])), (mx, .inl (cI, 500, .inl tx)), (mt, .inl (cI, 900, .inl td1_7)), (md, .inl (cI, 16, .inl dp)), (mp, .inl (cI, 16, .inl pr))]) (w2 := [(mo, .inr (6, [.int 0, .ref mx, .int (nI 0), .int flx, .int fax, .ref mt, .int (nI cmx), .int (nI kp), .int (nI cmx), .ref md, .ref mp])), (mx, .inl (cI, 500, .inl tx)), (mt, .inl (cI, 900, .inl td1_7)), (md, .inl (cI, 16, .inl dp)), (mp, .inl (cI, 16, .inl pr))]) [0, 1, 2, 3, 4] (va_runV (As := [.int 600, .int 0, .int (nI cmx)]) (rest := []) ⟨hx, hb, hml, hown, hg⟩ (kX6_copies l dC dI B cI cC cJ mo mx mt md mp tx tdx dp pr 0 flx fax 0 cmx kp cmx 600 0 cmx td1_7 (by omega) (by omega) (by omega) (by omega) (by omega) (by omega) hF_7 _) (cwV 3 hg (gi_V w_591 w_592 w_704 w_8 w_593) rfl rfl rfl (by decide +kernel) ⟨Nat.le_of_ble_eq_true rfl, Nat.le_of_ble_eq_true rfl⟩) (pre_MV (va_recv hK hP (ci := 6) (q0 := 0) rfl rfl) (Nat.le_trans hB hS.1) (hP.sub [0, 1, 2, 3, 4] rfl) hK ((hD.weaken (fun _ _ _ h => hAB _ h)).sub [0, 1, 2, 3, 4] (by decide) rfl) (hT.kept (hS.mono hAB))) rfl rfl hl.1 rfl (lv_room (Nat.le_of_ble_eq_true rfl)) dX6_read_93 ⟨Nat.le_of_ble_eq_true rfl, Nat.le_of_ble_eq_true rfl⟩) hP hD hS hA rfl (Nat.le_of_ble_eq_true rfl) rfl rfl (fun H locs hP hD hS => ?_)
          refine W.eq (g2 := F0 m 96 ls []) rfl ?_
          refine lv_aload_n hx hb dX6_read_96 rfl (lv_at hl 0 rfl) ?_
          refine va_get (D := (dC, dI)) (ci := 6) (v := .int (nI cmx)) (C := RX6) (T := TX6) (N := 11) hx hb hg in_X6 hown hK hP 0 rfl rfl 6 (by decide) (hg _ w_509) (fun _ h9 => h9) rfl dX6_read_97 ?_
          have hP9 := hP
          have hS9 := hS
          have h9 : m_read tx sn td pn = ((nI cmx), 0, cmx, cmx, td1_7, flx, fax) := by rw [m_read, he, m_rows_end _ _ _ _ _ _ _ _ c_5]; simp [hF_7]
          have h9 := hF.symm.trans h9
          cases h9
          exact W.iret hx hb hr (fun t ht hW => ⟨rfl, by rw [ht]; exact hP9, hS9.F ht⟩) hS9.2.2 dX6_read_100
        · skip
          have c_6 := na_nle (a := 0) (b := n_4) c_6 (by omega) (by omega)
          exact absurd c_6 (Nat.not_lt_zero _)
      · skip
        have c_5 := na_nle (a := sn) (b := n_4) c_5 (by omega) (by omega)
        obtain ⟨f9, rfl⟩ : ∃ f9, f = f9 + 1 := ⟨f - 1, by have h9 := hff _ rfl; omega⟩
        have hff9 := hff _ rfl
        refine lv_aload_n hx hb dX6_read_29 rfl (lv_at hl 0 rfl) ?_
        refine lv_iload_n hx hb dX6_read_30 rfl (lv_at hl 1 rfl) ?_
        obtain ⟨r1_8, td1_8, fl1_8, fa1_8, hF_8⟩ : ∃ (r1_8 : Option Nat) (td1_8 : Nat → Int32) (fl1_8 : Int32) (fa1_8 : Int32), m_rdRow tx sn cmx n_4 tdx flx fax = (r1_8, td1_8, fl1_8, fa1_8) := ⟨_, _, _, _, rfl⟩
        have hb_r1_8 : ∀ n, r1_8 = some n → n < 501 := fun n h => by have h3 := m_rdRow_le hF_8 n h; omega
        refine go_M (r := some (.int (oI r1_8))) (wc' := [(mo, .inr (6, [.int th, .ref mx, .int (nI sn), .int fl1_8, .int fa1_8, .ref mt, .int (nI pn), .int (nI kp), .int (nI cmx), .ref md, .ref mp])), (mx, .inl (cI, 500, .inl tx)), (mt, .inl (cI, 900, .inl td1_8)), (md, .inl (cI, 16, .inl dp)), (mp, .inl (cI, 16, .inl pr))]) (w2 := [(mo, .inr (6, [.int th, .ref mx, .int (nI sn), .int fl1_8, .int fa1_8, .ref mt, .int (nI pn), .int (nI kp), .int (nI cmx), .ref md, .ref mp])), (mx, .inl (cI, 500, .inl tx)), (mt, .inl (cI, 900, .inl td1_8)), (md, .inl (cI, 16, .inl dp)), (mp, .inl (cI, 16, .inl pr))]) [0, 1, 2, 3, 4] (va_runV (As := [.int (nI n_4)]) (rest := []) ⟨hx, hb, hml, hown, hg⟩ (kX6_readsRow l dC dI B cI cC cJ mo mx mt md mp tx tdx dp pr th flx fax sn pn kp cmx n_4 r1_8 td1_8 fl1_8 fa1_8 (by omega) (by omega) (by omega) (by omega) (by omega) hF_8 _) (cwV 1 hg (gi_V w_552 w_553 w_696 w_8 w_554) rfl rfl rfl (by decide +kernel) ⟨Nat.le_of_ble_eq_true rfl, Nat.le_of_ble_eq_true rfl⟩) (pre_MV (va_recv hK hP (ci := 6) (q0 := 0) rfl rfl) (Nat.le_trans hB hS.1) (hP.sub [0, 1, 2, 3, 4] rfl) hK ((hD.weaken (fun _ _ _ h => hAB _ h)).sub [0, 1, 2, 3, 4] (by decide) rfl) (hT.kept (hS.mono hAB))) rfl rfl hl.1 rfl (lv_room (Nat.le_of_ble_eq_true rfl)) dX6_read_31 ⟨Nat.le_of_ble_eq_true rfl, Nat.le_of_ble_eq_true rfl⟩) hP hD hS hA rfl (Nat.le_of_ble_eq_true rfl) rfl rfl (fun H locs hP hD hS => ?_)
        refine W.eq (g2 := F0 m 34 ls [.int (oI r1_8)]) rfl ?_
        have hl9 := m_rdRow_le hF_8
        refine lv_istore_n (lv' := [(1, .int (oI r1_8)), (0, .ref mo)]) hx hb dX6_read_34 rfl hl (by decide) rfl (fun ls hl => ?_)
        refine lv_aload_n hx hb dX6_read_35 rfl (lv_at hl 1 rfl) ?_
        refine lv_dup hx hb dX6_read_36 rfl ?_
        refine va_get (D := (dC, dI)) (ci := 6) (v := .int (nI cmx)) (C := RX6) (T := TX6) (N := 11) hx hb hg in_X6 hown hK hP 0 rfl rfl 8 (by decide) (hg _ w_511) (fun _ h9 => h9) rfl dX6_read_37 ?_
        refine lv_iload_n hx hb dX6_read_40 rfl (lv_at hl 0 rfl) ?_
        refine lv_if_lt (tgt := 48) hx hb dX6_read_41 (by decide) (fun c_9 => ?_) (fun c_9 => ?_)
        · skip
          obtain rfl : r1_8 = none := oI_neg (c_9) hb_r1_8 (by omega)
          refine lv_iconst (v := 0) hx hb dX6_read_48 (by decide) ?_
          refine lv_iadd hx hb dX6_read_49 ?_
          refine top_eq (y := (nI (cmx + 0))) (by exact nI_add _ _) ?_
          refine va_put (D := (dC, dI)) (ci := 6) (v := .int (nI (cmx + 0))) (ty := .int) (C := RX6) (T := TX6) (N := 11) hx hb hg in_X6 tyX6 tyX6_ok nmX6_ok hown hK hP hD hS 0 rfl rfl 8 (by decide) (hg _ w_511) (fun _ h9 => h9) rfl (by decide +kernel) rfl rfl (Nat.le_of_ble_eq_true rfl) dX6_read_50 (fun H locs hP hD hS => ?_)
          have hP : va_P (dC, dI) vwCl [(mo, .inr (6, [.int th, .ref mx, .int (nI sn), .int fl1_8, .int fa1_8, .ref mt, .int (nI pn), .int (nI kp), .int (nI (cmx + 0)), .ref md, .ref mp])), (mx, .inl (cI, 500, .inl tx)), (mt, .inl (cI, 900, .inl td1_8)), (md, .inl (cI, 16, .inl dp)), (mp, .inl (cI, 16, .inl pr))] H := hP
          have hD : va_D A [(mo, .inr (6, [.int th, .ref mx, .int (nI sn), .int fl1_8, .int fa1_8, .ref mt, .int (nI pn), .int (nI kp), .int (nI (cmx + 0)), .ref md, .ref mp])), (mx, .inl (cI, 500, .inl tx)), (mt, .inl (cI, 900, .inl td1_8)), (md, .inl (cI, 16, .inl dp)), (mp, .inl (cI, 16, .inl pr))] := hD
          refine lv_goto (tgt := 17) hx hb dX6_read_53 (by decide) ?_
          exact ih_1 (f9, none, cmx + 0, td1_8, fl1_8, fa1_8) _ _ _ ⟨(by first | omega | (dsimp only; omega) | (dsimp only; done)), (by first | omega | (dsimp only; omega) | (dsimp only; done)), (fun n h => by first | (cases h; done) | (cases h; omega)), (fun n h => by first | (cases h; done) | (cases h; omega)), (by (try dsimp only); rw [he, m_rows]; simp [c_5, hF_8]), hP, hD, hS, lv_sub hl [1, 0] rfl⟩
        · skip
          obtain ⟨n_10, rfl⟩ : ∃ n, r1_8 = some n := oI_some c_9
          have hn_10 := hb_r1_8 _ rfl
          have hl8 := hl9 _ rfl
          refine lv_iconst (v := 1) hx hb dX6_read_44 (by decide) ?_
          refine lv_goto (tgt := 49) hx hb dX6_read_45 (by decide) ?_
          refine lv_iadd hx hb dX6_read_49 ?_
          refine top_eq (y := (nI (cmx + 1))) (by exact nI_add _ _) ?_
          refine va_put (D := (dC, dI)) (ci := 6) (v := .int (nI (cmx + 1))) (ty := .int) (C := RX6) (T := TX6) (N := 11) hx hb hg in_X6 tyX6 tyX6_ok nmX6_ok hown hK hP hD hS 0 rfl rfl 8 (by decide) (hg _ w_511) (fun _ h9 => h9) rfl (by decide +kernel) rfl rfl (Nat.le_of_ble_eq_true rfl) dX6_read_50 (fun H locs hP hD hS => ?_)
          have hP : va_P (dC, dI) vwCl [(mo, .inr (6, [.int th, .ref mx, .int (nI sn), .int fl1_8, .int fa1_8, .ref mt, .int (nI pn), .int (nI kp), .int (nI (cmx + 1)), .ref md, .ref mp])), (mx, .inl (cI, 500, .inl tx)), (mt, .inl (cI, 900, .inl td1_8)), (md, .inl (cI, 16, .inl dp)), (mp, .inl (cI, 16, .inl pr))] H := hP
          have hD : va_D A [(mo, .inr (6, [.int th, .ref mx, .int (nI sn), .int fl1_8, .int fa1_8, .ref mt, .int (nI pn), .int (nI kp), .int (nI (cmx + 1)), .ref md, .ref mp])), (mx, .inl (cI, 500, .inl tx)), (mt, .inl (cI, 900, .inl td1_8)), (md, .inl (cI, 16, .inl dp)), (mp, .inl (cI, 16, .inl pr))] := hD
          refine lv_goto (tgt := 17) hx hb dX6_read_53 (by decide) ?_
          exact ih_1 (f9, (some n_10), cmx + 1, td1_8, fl1_8, fa1_8) _ _ _ ⟨(by first | omega | (dsimp only; omega) | (dsimp only; done)), (by first | omega | (dsimp only; omega) | (dsimp only; done)), (fun n h => by first | (cases h; done) | (cases h; omega)), (fun n h => by first | (cases h; done) | (cases h; omega)), (by (try dsimp only); rw [he, m_rows]; simp [c_5, hF_8]), hP, hD, hS, lv_sub hl [1, 0] rfl⟩
  · exact absurd hI.1 (Nat.not_lt_zero _)
set_option maxHeartbeats 4000000 in
set_option maxRecDepth 100000 in
theorem kX6_failure (l : Launch) (dC : Nat → ClassId) (dI : Nat → Nat → Nat) (B : Nat) (cI cC cJ : ClassId) (mo : Nat) (mx : Nat) (mt : Nat) (md : Nat) (mp : Nat) (tx : Nat → Int32) (td : Nat → Int32) (dp : Nat → Int32) (pr : Nat → Int32) (th : Int32) (fl : Int32) (fa : Int32) (sn : Nat) (pn : Nat) (kp : Nat) (cm : Nat) (p0 : Int32) (x1 : Int32) (hsn : sn ≤ 500) (hpn : pn ≤ 50) (hkp : kp ≤ 50) (hcm : cm ≤ 50) (hF : k_failure fl fa p0 = x1) (sz9 : Nat) : Met l yX6_failure wsX6_failure ({ frames := 0, cells := 0, slots := 0, locals := 0 }) (q_Mp (dC, dI) vwCl [.ref mo, .int p0] [(mo, .inr (6, [.int th, .ref mx, .int (nI sn), .int fl, .int fa, .ref mt, .int (nI pn), .int (nI kp), .int (nI cm), .ref md, .ref mp])), (mx, .inl (cI, 500, .inl tx)), (mt, .inl (cI, 900, .inl td)), (md, .inl (cI, 16, .inl dp)), (mp, .inl (cI, 16, .inl pr))] [(cI, .int), (cC, .char), (cJ, .long)] B sz9) (q_Mq (dC, dI) vwCl [(mo, .inr (6, [.int 0, .ref mx, .int (nI sn), .int fl, .int fa, .ref mt, .int (nI pn), .int (nI kp), .int (nI cm), .ref md, .ref mp])), (mx, .inl (cI, 500, .inl tx)), (mt, .inl (cI, 900, .inl td)), (md, .inl (cI, 16, .inl dp)), (mp, .inl (cI, 16, .inl pr))] (va_A [(mo, .inr (6, [.int th, .ref mx, .int (nI sn), .int fl, .int fa, .ref mt, .int (nI pn), .int (nI kp), .int (nI cm), .ref md, .ref mp])), (mx, .inl (cI, 500, .inl tx)), (mt, .inl (cI, 900, .inl td)), (md, .inl (cI, 16, .inl dp)), (mp, .inl (cI, 16, .inl pr))] sz9) (some (.int x1))) 0 0 (va_A [(mo, .inr (6, [.int th, .ref mx, .int (nI sn), .int fl, .int fa, .ref mt, .int (nI pn), .int (nI kp), .int (nI cm), .ref md, .ref mp])), (mx, .inl (cI, 500, .inl tx)), (mt, .inl (cI, 900, .inl td)), (md, .inl (cI, 16, .inl dp)), (mp, .inl (cI, 16, .inl pr))] sz9) := by
  refine Met.ofW (cc := cX6_failure) (maxL := 2) (ret := (some .int)) (by decide) rfl ?_
  intro p e s m args below meth c s₁ Bd hml hv
  obtain ⟨rfl, hsz9, hB, hP, hK, hD0, hT⟩ := hv
  have hx := Bd.exec
  have hb := Bd.bytes
  have hr := Bd.returns
  have hts := atoms_spec (ws := wsX6_failure) Bd.pre
  have hg : ∀ w ∈ lw_good, w.before _ s = true := fun w h => hts w (List.mem_cons_of_mem _ h)
  have hown : s.vm.findClass RX6 = some m.cls := findClass_of_methodNamed Bd.named
  have hlocks := Bd.notSynchronized
  subst hsz9
  have hD := hD0.self (sz := s.heap.size)
  generalize hAe : va_A [(mo, .inr (6, [.int th, .ref mx, .int (nI sn), .int fl, .int fa, .ref mt, .int (nI pn), .int (nI kp), .int (nI cm), .ref md, .ref mp])), (mx, .inl (cI, 500, .inl tx)), (mt, .inl (cI, 900, .inl td)), (md, .inl (cI, 16, .inl dp)), (mp, .inl (cI, 16, .inl pr))] s.heap.size = A at hD ⊢
  have hA : ∀ q : Nat, s.heap.size ≤ q → A q := fun q h => by rw [← hAe]; exact Or.inr h
  have hAB : ∀ q, A q → B ≤ q := by rw [← hAe]; exact va_A.ge hD0 hB
  have hS : va_S A s.heap s.heap [] := va_S.rf
  have hP : va_P (dC, dI) vwCl [(mo, .inr (6, [.int th, .ref mx, .int (nI sn), .int fl, .int fa, .ref mt, .int (nI pn), .int (nI kp), .int (nI cm), .ref md, .ref mp])), (mx, .inl (cI, 500, .inl tx)), (mt, .inl (cI, 900, .inl td)), (md, .inl (cI, 16, .inl dp)), (mp, .inl (cI, 16, .inl pr))] s.heap := hP
  have hl := lv_entry ([.ref mo, .int p0]) (n := 2) (Nat.le_of_ble_eq_true rfl)
  rw [lg_entry_eq]
  generalize (lg_sl ([.ref mo, .int p0]) ++ List.replicate (2 - (lg_sl ([.ref mo, .int p0])).length) Slot.unset).toArray = ls at hl ⊢
  have hl : lv_has ls 2 [(0, .ref mo), (1, .int p0)] := hl
  refine lv_aload_n hx hb dX6_failure_0 rfl (lv_at hl 0 rfl) ?_
  refine lv_iconst (v := 0) hx hb dX6_failure_1 (by decide) ?_
  refine va_put (D := (dC, dI)) (ci := 6) (v := .int 0) (ty := .int) (C := RX6) (T := TX6) (N := 11) hx hb hg in_X6 tyX6 tyX6_ok nmX6_ok hown hK hP hD hS 0 rfl rfl 0 (by decide) (hg _ w_503) (fun _ h9 => h9) rfl (by decide +kernel) rfl rfl (Nat.le_of_ble_eq_true rfl) dX6_failure_2 (fun H locs hP hD hS => ?_)
  have hP : va_P (dC, dI) vwCl [(mo, .inr (6, [.int 0, .ref mx, .int (nI sn), .int fl, .int fa, .ref mt, .int (nI pn), .int (nI kp), .int (nI cm), .ref md, .ref mp])), (mx, .inl (cI, 500, .inl tx)), (mt, .inl (cI, 900, .inl td)), (md, .inl (cI, 16, .inl dp)), (mp, .inl (cI, 16, .inl pr))] H := hP
  have hD : va_D A [(mo, .inr (6, [.int 0, .ref mx, .int (nI sn), .int fl, .int fa, .ref mt, .int (nI pn), .int (nI kp), .int (nI cm), .ref md, .ref mp])), (mx, .inl (cI, 500, .inl tx)), (mt, .inl (cI, 900, .inl td)), (md, .inl (cI, 16, .inl dp)), (mp, .inl (cI, 16, .inl pr))] := hD
  refine lv_iload_n hx hb dX6_failure_5 rfl (lv_at hl 1 rfl) ?_
  refine lv_if_ne (tgt := 16) hx hb dX6_failure_6 (by decide) (fun c_1 => ?_) (fun c_1 => ?_)
  · skip
    refine lv_iload_n hx hb dX6_failure_16 rfl (lv_at hl 1 rfl) ?_
    refine lv_iconst (v := 1) hx hb dX6_failure_17 (by decide) ?_
    refine lv_icmp_ne (tgt := 28) hx hb dX6_failure_18 (by decide) (fun c_2 => ?_) (fun c_2 => ?_)
    · skip
      refine lv_iconst (v := (-1)) hx hb dX6_failure_28 (by decide) ?_
      have hP9 := hP
      have hS9 := hS
      have h9 : k_failure fl fa p0 = (-1) := by simp [k_failure, c_1, c_2]
      have h9 := hF.symm.trans h9
      cases h9
      exact W.iret hx hb hr (fun t ht hW => ⟨rfl, by rw [ht]; exact hP9, hS9.F ht⟩) hS9.2.2 dX6_failure_29
    · skip
      refine lv_aload_n hx hb dX6_failure_21 rfl (lv_at hl 0 rfl) ?_
      refine va_get (D := (dC, dI)) (ci := 6) (v := .int fa) (C := RX6) (T := TX6) (N := 11) hx hb hg in_X6 hown hK hP 0 rfl rfl 4 (by decide) (hg _ w_507) (fun _ h9 => h9) rfl dX6_failure_22 ?_
      refine lv_goto (tgt := 29) hx hb dX6_failure_25 (by decide) ?_
      have hP9 := hP
      have hS9 := hS
      have h9 : k_failure fl fa p0 = fa := by simp [k_failure, c_1, eq_true c_2]
      have h9 := hF.symm.trans h9
      cases h9
      exact W.iret hx hb hr (fun t ht hW => ⟨rfl, by rw [ht]; exact hP9, hS9.F ht⟩) hS9.2.2 dX6_failure_29
  · skip
    refine lv_aload_n hx hb dX6_failure_9 rfl (lv_at hl 0 rfl) ?_
    refine va_get (D := (dC, dI)) (ci := 6) (v := .int fl) (C := RX6) (T := TX6) (N := 11) hx hb hg in_X6 hown hK hP 0 rfl rfl 3 (by decide) (hg _ w_506) (fun _ h9 => h9) rfl dX6_failure_10 ?_
    refine lv_goto (tgt := 29) hx hb dX6_failure_13 (by decide) ?_
    have hP9 := hP
    have hS9 := hS
    have h9 : k_failure fl fa p0 = fl := by simp [k_failure, eq_true c_1]
    have h9 := hF.symm.trans h9
    cases h9
    exact W.iret hx hb hr (fun t ht hW => ⟨rfl, by rw [ht]; exact hP9, hS9.F ht⟩) hS9.2.2 dX6_failure_29
set_option maxHeartbeats 4000000 in
set_option maxRecDepth 100000 in
theorem kX6_piece (l : Launch) (dC : Nat → ClassId) (dI : Nat → Nat → Nat) (B : Nat) (cI cC cJ : ClassId) (mo : Nat) (mx : Nat) (mt : Nat) (md : Nat) (mp : Nat) (tx : Nat → Int32) (td : Nat → Int32) (dp : Nat → Int32) (pr : Nat → Int32) (th : Int32) (fl : Int32) (fa : Int32) (sn : Nat) (pn : Nat) (kp : Nat) (cm : Nat) (p0 : Int32) (p1 : Int32) (x1 : Int32) (th1 : Int32) (hsn : sn ≤ 500) (hpn : pn ≤ 50) (hkp : kp ≤ 50) (hcm : cm ≤ 50) (hok : m_ok td pn) (hF : m_piece td pn p0 p1 = (x1, th1)) (sz9 : Nat) : Met l yX6_piece wsX6_piece ({ frames := 1, cells := 0, slots := 0, locals := 21 }) (q_Mp (dC, dI) vwCl [.ref mo, .int p0, .int p1] [(mo, .inr (6, [.int th, .ref mx, .int (nI sn), .int fl, .int fa, .ref mt, .int (nI pn), .int (nI kp), .int (nI cm), .ref md, .ref mp])), (mx, .inl (cI, 500, .inl tx)), (mt, .inl (cI, 900, .inl td)), (md, .inl (cI, 16, .inl dp)), (mp, .inl (cI, 16, .inl pr))] [(cI, .int), (cC, .char), (cJ, .long)] B sz9) (q_Mq (dC, dI) vwCl [(mo, .inr (6, [.int th1, .ref mx, .int (nI sn), .int fl, .int fa, .ref mt, .int (nI pn), .int (nI kp), .int (nI cm), .ref md, .ref mp])), (mx, .inl (cI, 500, .inl tx)), (mt, .inl (cI, 900, .inl td)), (md, .inl (cI, 16, .inl dp)), (mp, .inl (cI, 16, .inl pr))] (va_A [(mo, .inr (6, [.int th, .ref mx, .int (nI sn), .int fl, .int fa, .ref mt, .int (nI pn), .int (nI kp), .int (nI cm), .ref md, .ref mp])), (mx, .inl (cI, 500, .inl tx)), (mt, .inl (cI, 900, .inl td)), (md, .inl (cI, 16, .inl dp)), (mp, .inl (cI, 16, .inl pr))] sz9) (some (.int x1))) 0 0 (va_A [(mo, .inr (6, [.int th, .ref mx, .int (nI sn), .int fl, .int fa, .ref mt, .int (nI pn), .int (nI kp), .int (nI cm), .ref md, .ref mp])), (mx, .inl (cI, 500, .inl tx)), (mt, .inl (cI, 900, .inl td)), (md, .inl (cI, 16, .inl dp)), (mp, .inl (cI, 16, .inl pr))] sz9) := by
  refine Met.ofW (cc := cX6_piece) (maxL := 4) (ret := (some .int)) (by decide) rfl ?_
  intro p e s m args below meth c s₁ Bd hml hv
  obtain ⟨rfl, hsz9, hB, hP, hK, hD0, hT⟩ := hv
  have hx := Bd.exec
  have hb := Bd.bytes
  have hr := Bd.returns
  have hts := atoms_spec (ws := wsX6_piece) Bd.pre
  have hg : ∀ w ∈ lw_good, w.before _ s = true := fun w h => hts w (List.mem_cons_of_mem _ h)
  have hown : s.vm.findClass RX6 = some m.cls := findClass_of_methodNamed Bd.named
  have hlocks := Bd.notSynchronized
  subst hsz9
  have hD := hD0.self (sz := s.heap.size)
  generalize hAe : va_A [(mo, .inr (6, [.int th, .ref mx, .int (nI sn), .int fl, .int fa, .ref mt, .int (nI pn), .int (nI kp), .int (nI cm), .ref md, .ref mp])), (mx, .inl (cI, 500, .inl tx)), (mt, .inl (cI, 900, .inl td)), (md, .inl (cI, 16, .inl dp)), (mp, .inl (cI, 16, .inl pr))] s.heap.size = A at hD ⊢
  have hA : ∀ q : Nat, s.heap.size ≤ q → A q := fun q h => by rw [← hAe]; exact Or.inr h
  have hAB : ∀ q, A q → B ≤ q := by rw [← hAe]; exact va_A.ge hD0 hB
  have hS : va_S A s.heap s.heap [] := va_S.rf
  have hP : va_P (dC, dI) vwCl [(mo, .inr (6, [.int th, .ref mx, .int (nI sn), .int fl, .int fa, .ref mt, .int (nI pn), .int (nI kp), .int (nI cm), .ref md, .ref mp])), (mx, .inl (cI, 500, .inl tx)), (mt, .inl (cI, 900, .inl td)), (md, .inl (cI, 16, .inl dp)), (mp, .inl (cI, 16, .inl pr))] s.heap := hP
  have hl := lv_entry ([.ref mo, .int p0, .int p1]) (n := 4) (Nat.le_of_ble_eq_true rfl)
  rw [lg_entry_eq]
  generalize (lg_sl ([.ref mo, .int p0, .int p1]) ++ List.replicate (4 - (lg_sl ([.ref mo, .int p0, .int p1])).length) Slot.unset).toArray = ls at hl ⊢
  have hl : lv_has ls 4 [(0, .ref mo), (1, .int p0), (2, .int p1)] := hl
  refine lv_iload_n hx hb dX6_piece_0 rfl (lv_at hl 1 rfl) ?_
  refine lv_if_lt (tgt := 16) hx hb dX6_piece_1 (by decide) (fun c_1 => ?_) (fun c_1 => ?_)
  · skip
    refine lv_iconst (v := 0) hx hb dX6_piece_16 (by decide) ?_
    refine lv_istore_n (lv' := [(3, .int 0), (0, .ref mo), (1, .int p0), (2, .int p1)]) hx hb dX6_piece_17 rfl hl (by decide) rfl (fun ls hl => ?_)
    refine lv_iload_n hx hb dX6_piece_18 rfl (lv_at hl 0 rfl) ?_
    refine lv_if_eq (tgt := 52) hx hb dX6_piece_19 (by decide) (fun c_2 => ?_) (fun c_2 => ?_)
    · skip
      refine lv_aload_n hx hb dX6_piece_52 rfl (lv_at hl 1 rfl) ?_
      refine lv_iconst (v := 1) hx hb dX6_piece_53 (by decide) ?_
      refine go_M (r := some (.int 0)) (wc' := [(mo, .inr (6, [.int 1, .ref mx, .int (nI sn), .int fl, .int fa, .ref mt, .int (nI pn), .int (nI kp), .int (nI cm), .ref md, .ref mp])), (mx, .inl (cI, 500, .inl tx)), (mt, .inl (cI, 900, .inl td)), (md, .inl (cI, 16, .inl dp)), (mp, .inl (cI, 16, .inl pr))]) (w2 := [(mo, .inr (6, [.int 1, .ref mx, .int (nI sn), .int fl, .int fa, .ref mt, .int (nI pn), .int (nI kp), .int (nI cm), .ref md, .ref mp])), (mx, .inl (cI, 500, .inl tx)), (mt, .inl (cI, 900, .inl td)), (md, .inl (cI, 16, .inl dp)), (mp, .inl (cI, 16, .inl pr))]) [0, 1, 2, 3, 4] (va_runV (As := [.int 1]) (rest := []) ⟨hx, hb, hml, hown, hg⟩ (kX6_refuse l dC dI B cI cC cJ mo mx mt md mp tx td dp pr th fl fa sn pn kp cm 1 (by omega) (by omega) (by omega) (by omega) _) (cwV 1 hg (gi_V w_588 w_589 w_703 w_8 w_590) rfl rfl rfl (by decide +kernel) ⟨Nat.le_of_ble_eq_true rfl, Nat.le_of_ble_eq_true rfl⟩) (pre_MV (va_recv hK hP (ci := 6) (q0 := 0) rfl rfl) (Nat.le_trans hB hS.1) (hP.sub [0, 1, 2, 3, 4] rfl) hK ((hD.weaken (fun _ _ _ h => hAB _ h)).sub [0, 1, 2, 3, 4] (by decide) rfl) hT) rfl rfl hl.1 rfl (lv_room (Nat.le_of_ble_eq_true rfl)) dX6_piece_54 ⟨Nat.le_of_ble_eq_true rfl, Nat.le_of_ble_eq_true rfl⟩) hP hD hS hA rfl (Nat.le_of_ble_eq_true rfl) rfl rfl (fun H locs hP hD hS => ?_)
      refine W.eq (g2 := F0 m 57 ls [.int 0]) rfl ?_
      have hP9 := hP
      have hS9 := hS
      have h9 : m_piece td pn p0 p1 = (0, 1) := by simp [m_piece, c_1]
      have h9 := hF.symm.trans h9
      cases h9
      exact W.iret hx hb hr (fun t ht hW => ⟨rfl, by rw [ht]; exact hP9, hS9.F ht⟩) hS9.2.2 dX6_piece_57
    · skip
      exact absurd c_2 (by decide)
  · skip
    refine lv_iload_n hx hb dX6_piece_4 rfl (lv_at hl 1 rfl) ?_
    refine lv_aload_n hx hb dX6_piece_5 rfl (lv_at hl 0 rfl) ?_
    refine va_get (D := (dC, dI)) (ci := 6) (v := .int (nI pn)) (C := RX6) (T := TX6) (N := 11) hx hb hg in_X6 hown hK hP 0 rfl rfl 6 (by decide) (hg _ w_509) (fun _ h9 => h9) rfl dX6_piece_6 ?_
    refine lv_icmp_ge (tgt := 16) hx hb dX6_piece_9 (by decide) (fun c_3 => ?_) (fun c_3 => ?_)
    · skip
      refine lv_iconst (v := 0) hx hb dX6_piece_16 (by decide) ?_
      refine lv_istore_n (lv' := [(3, .int 0), (0, .ref mo), (1, .int p0), (2, .int p1)]) hx hb dX6_piece_17 rfl hl (by decide) rfl (fun ls hl => ?_)
      refine lv_iload_n hx hb dX6_piece_18 rfl (lv_at hl 0 rfl) ?_
      refine lv_if_eq (tgt := 52) hx hb dX6_piece_19 (by decide) (fun c_4 => ?_) (fun c_4 => ?_)
      · skip
        refine lv_aload_n hx hb dX6_piece_52 rfl (lv_at hl 1 rfl) ?_
        refine lv_iconst (v := 1) hx hb dX6_piece_53 (by decide) ?_
        refine go_M (r := some (.int 0)) (wc' := [(mo, .inr (6, [.int 1, .ref mx, .int (nI sn), .int fl, .int fa, .ref mt, .int (nI pn), .int (nI kp), .int (nI cm), .ref md, .ref mp])), (mx, .inl (cI, 500, .inl tx)), (mt, .inl (cI, 900, .inl td)), (md, .inl (cI, 16, .inl dp)), (mp, .inl (cI, 16, .inl pr))]) (w2 := [(mo, .inr (6, [.int 1, .ref mx, .int (nI sn), .int fl, .int fa, .ref mt, .int (nI pn), .int (nI kp), .int (nI cm), .ref md, .ref mp])), (mx, .inl (cI, 500, .inl tx)), (mt, .inl (cI, 900, .inl td)), (md, .inl (cI, 16, .inl dp)), (mp, .inl (cI, 16, .inl pr))]) [0, 1, 2, 3, 4] (va_runV (As := [.int 1]) (rest := []) ⟨hx, hb, hml, hown, hg⟩ (kX6_refuse l dC dI B cI cC cJ mo mx mt md mp tx td dp pr th fl fa sn pn kp cm 1 (by omega) (by omega) (by omega) (by omega) _) (cwV 1 hg (gi_V w_588 w_589 w_703 w_8 w_590) rfl rfl rfl (by decide +kernel) ⟨Nat.le_of_ble_eq_true rfl, Nat.le_of_ble_eq_true rfl⟩) (pre_MV (va_recv hK hP (ci := 6) (q0 := 0) rfl rfl) (Nat.le_trans hB hS.1) (hP.sub [0, 1, 2, 3, 4] rfl) hK ((hD.weaken (fun _ _ _ h => hAB _ h)).sub [0, 1, 2, 3, 4] (by decide) rfl) hT) rfl rfl hl.1 rfl (lv_room (Nat.le_of_ble_eq_true rfl)) dX6_piece_54 ⟨Nat.le_of_ble_eq_true rfl, Nat.le_of_ble_eq_true rfl⟩) hP hD hS hA rfl (Nat.le_of_ble_eq_true rfl) rfl rfl (fun H locs hP hD hS => ?_)
        refine W.eq (g2 := F0 m 57 ls [.int 0]) rfl ?_
        have hP9 := hP
        have hS9 := hS
        have h9 : m_piece td pn p0 p1 = (0, 1) := by simp [m_piece, c_1, c_3]
        have h9 := hF.symm.trans h9
        cases h9
        exact W.iret hx hb hr (fun t ht hW => ⟨rfl, by rw [ht]; exact hP9, hS9.F ht⟩) hS9.2.2 dX6_piece_57
      · skip
        exact absurd c_4 (by decide)
    · skip
      have hj9 := nat_of (n := pn) (by omega) c_1 c_3
      obtain ⟨j, hj, rfl⟩ := hj9
      have hcl := nI_clamp (n := j) (by omega)
      refine lv_iconst (v := 1) hx hb dX6_piece_12 (by decide) ?_
      refine lv_goto (tgt := 17) hx hb dX6_piece_13 (by decide) ?_
      refine lv_istore_n (lv' := [(3, .int 1), (0, .ref mo), (1, .int (nI j)), (2, .int p1)]) hx hb dX6_piece_17 rfl hl (by decide) rfl (fun ls hl => ?_)
      refine lv_iload_n hx hb dX6_piece_18 rfl (lv_at hl 0 rfl) ?_
      refine lv_if_eq (tgt := 52) hx hb dX6_piece_19 (by decide) (fun c_5 => ?_) (fun c_5 => ?_)
      · skip
        exact absurd c_5 (by decide)
      · skip
        refine lv_iload_n hx hb dX6_piece_22 rfl (lv_at hl 3 rfl) ?_
        refine lv_if_lt (tgt := 52) hx hb dX6_piece_23 (by decide) (fun c_6 => ?_) (fun c_6 => ?_)
        · skip
          refine lv_aload_n hx hb dX6_piece_52 rfl (lv_at hl 1 rfl) ?_
          refine lv_iconst (v := 1) hx hb dX6_piece_53 (by decide) ?_
          refine go_M (r := some (.int 0)) (wc' := [(mo, .inr (6, [.int 1, .ref mx, .int (nI sn), .int fl, .int fa, .ref mt, .int (nI pn), .int (nI kp), .int (nI cm), .ref md, .ref mp])), (mx, .inl (cI, 500, .inl tx)), (mt, .inl (cI, 900, .inl td)), (md, .inl (cI, 16, .inl dp)), (mp, .inl (cI, 16, .inl pr))]) (w2 := [(mo, .inr (6, [.int 1, .ref mx, .int (nI sn), .int fl, .int fa, .ref mt, .int (nI pn), .int (nI kp), .int (nI cm), .ref md, .ref mp])), (mx, .inl (cI, 500, .inl tx)), (mt, .inl (cI, 900, .inl td)), (md, .inl (cI, 16, .inl dp)), (mp, .inl (cI, 16, .inl pr))]) [0, 1, 2, 3, 4] (va_runV (As := [.int 1]) (rest := []) ⟨hx, hb, hml, hown, hg⟩ (kX6_refuse l dC dI B cI cC cJ mo mx mt md mp tx td dp pr th fl fa sn pn kp cm 1 (by omega) (by omega) (by omega) (by omega) _) (cwV 1 hg (gi_V w_588 w_589 w_703 w_8 w_590) rfl rfl rfl (by decide +kernel) ⟨Nat.le_of_ble_eq_true rfl, Nat.le_of_ble_eq_true rfl⟩) (pre_MV (va_recv hK hP (ci := 6) (q0 := 0) rfl rfl) (Nat.le_trans hB hS.1) (hP.sub [0, 1, 2, 3, 4] rfl) hK ((hD.weaken (fun _ _ _ h => hAB _ h)).sub [0, 1, 2, 3, 4] (by decide) rfl) hT) rfl rfl hl.1 rfl (lv_room (Nat.le_of_ble_eq_true rfl)) dX6_piece_54 ⟨Nat.le_of_ble_eq_true rfl, Nat.le_of_ble_eq_true rfl⟩) hP hD hS hA rfl (Nat.le_of_ble_eq_true rfl) rfl rfl (fun H locs hP hD hS => ?_)
          refine W.eq (g2 := F0 m 57 ls [.int 0]) rfl ?_
          have hP9 := hP
          have hS9 := hS
          have h9 : m_piece td pn (nI j) p1 = (0, 1) := by simp [m_piece, c_1, c_3, hcl, c_6]
          have h9 := hF.symm.trans h9
          cases h9
          exact W.iret hx hb hr (fun t ht hW => ⟨rfl, by rw [ht]; exact hP9, hS9.F ht⟩) hS9.2.2 dX6_piece_57
        · skip
          refine lv_iload_n hx hb dX6_piece_26 rfl (lv_at hl 3 rfl) ?_
          refine lv_iconst (v := 1) hx hb dX6_piece_27 (by decide) ?_
          refine lv_aload_n hx hb dX6_piece_28 rfl (lv_at hl 1 rfl) ?_
          refine va_get (D := (dC, dI)) (ci := 6) (v := .ref mt) (C := RX6) (T := TX6) (N := 11) hx hb hg in_X6 hown hK hP 0 rfl rfl 5 (by decide) (hg _ w_508) (fun _ h9 => h9) rfl dX6_piece_29 ?_
          refine lv_iload_n hx hb dX6_piece_32 rfl (lv_at hl 0 rfl) ?_
          refine lv_if_eq (tgt := 43) hx hb dX6_piece_33 (by decide) (fun c_7 => ?_) (fun c_7 => ?_)
          · skip
            exact absurd c_7 (by decide)
          · skip
            refine lv_bipush (v := 6) hx hb dX6_piece_36 (by decide) ?_
            refine lv_iload_n hx hb dX6_piece_38 rfl (lv_at hl 2 rfl) ?_
            refine lv_imul hx hb dX6_piece_39 ?_
            refine top_eq (y := (nI (6 * j))) (by exact pk_mul _ _) ?_
            refine lv_goto (tgt := 44) hx hb dX6_piece_40 (by decide) ?_
            refine x_iald (k := 6 * j) hx hb hK hP 2 0 rfl rfl (by omega) (by decide) dX6_piece_44 ?_
            refine go_R (r := (nI (m_nums (td (6 * j))))) (va_runS (As := [.int (td (6 * j))]) (rest := [.int 1, .int p1]) ⟨hx, hb, hml, hown, hg⟩ (kX6_numbersOf l dC dI B cI cC cJ (td (6 * j))) (va_cwS 1 hg (gi_S w_585 w_586 w_8 w_587) rfl rfl rfl (by decide +kernel) ⟨Nat.le_of_ble_eq_true rfl, Nat.le_of_ble_eq_true rfl⟩) (pre_RS (hP.sub [] rfl) hK hT) rfl rfl hl.1 rfl (lv_room (Nat.le_of_ble_eq_true rfl)) dX6_piece_45 ⟨Nat.le_of_ble_eq_true rfl, Nat.le_of_ble_eq_true rfl⟩) ?_
            refine lv_iadd hx hb dX6_piece_48 ?_
            refine top_eq (y := (nI (1 + (m_nums (td (6 * j)))))) (by exact nI_add _ _) ?_
            refine lv_icmp_le (tgt := 58) hx hb dX6_piece_49 (by decide) (fun c_8 => ?_) (fun c_8 => ?_)
            · skip
              have hM := m_nums_le (td (6 * j))
              have hw9 := nat_le (n := 1 + m_nums (td (6 * j))) (by omega) c_6 c_8
              obtain ⟨w9, hw, rfl⟩ := hw9
              have hcw := nI_clamp (n := w9) (by omega)
              refine lv_aload_n hx hb dX6_piece_58 rfl (lv_at hl 1 rfl) ?_
              refine lv_iconst (v := 0) hx hb dX6_piece_59 (by decide) ?_
              refine va_put (D := (dC, dI)) (ci := 6) (v := .int 0) (ty := .int) (C := RX6) (T := TX6) (N := 11) hx hb hg in_X6 tyX6 tyX6_ok nmX6_ok hown hK hP hD hS 0 rfl rfl 0 (by decide) (hg _ w_503) (fun _ h9 => h9) rfl (by decide +kernel) rfl rfl (Nat.le_of_ble_eq_true rfl) dX6_piece_60 (fun H locs hP hD hS => ?_)
              have hP : va_P (dC, dI) vwCl [(mo, .inr (6, [.int 0, .ref mx, .int (nI sn), .int fl, .int fa, .ref mt, .int (nI pn), .int (nI kp), .int (nI cm), .ref md, .ref mp])), (mx, .inl (cI, 500, .inl tx)), (mt, .inl (cI, 900, .inl td)), (md, .inl (cI, 16, .inl dp)), (mp, .inl (cI, 16, .inl pr))] H := hP
              have hD : va_D A [(mo, .inr (6, [.int 0, .ref mx, .int (nI sn), .int fl, .int fa, .ref mt, .int (nI pn), .int (nI kp), .int (nI cm), .ref md, .ref mp])), (mx, .inl (cI, 500, .inl tx)), (mt, .inl (cI, 900, .inl td)), (md, .inl (cI, 16, .inl dp)), (mp, .inl (cI, 16, .inl pr))] := hD
              refine lv_aload_n hx hb dX6_piece_63 rfl (lv_at hl 1 rfl) ?_
              refine va_get (D := (dC, dI)) (ci := 6) (v := .ref mt) (C := RX6) (T := TX6) (N := 11) hx hb hg in_X6 hown hK hP 0 rfl rfl 5 (by decide) (hg _ w_508) (fun _ h9 => h9) rfl dX6_piece_64 ?_
              refine lv_bipush (v := 6) hx hb dX6_piece_67 (by decide) ?_
              refine lv_iload_n hx hb dX6_piece_69 rfl (lv_at hl 2 rfl) ?_
              refine lv_imul hx hb dX6_piece_70 ?_
              refine top_eq (y := (nI (6 * j))) (by exact pk_mul _ _) ?_
              refine lv_iload_n hx hb dX6_piece_71 rfl (lv_at hl 3 rfl) ?_
              refine lv_iadd hx hb dX6_piece_72 ?_
              refine top_eq (y := (nI ((6 * j) + w9))) (by exact nI_add _ _) ?_
              refine x_iald (k := (6 * j) + w9) hx hb hK hP 2 0 rfl rfl (by omega) (by decide) dX6_piece_73 ?_
              have hP9 := hP
              have hS9 := hS
              have h9 : m_piece td pn (nI j) (nI w9) = (td ((6 * j) + w9), 0) := by simp [m_piece, c_1, c_3, hcl, c_6, c_8, hcw]
              have h9 := hF.symm.trans h9
              cases h9
              exact W.iret hx hb hr (fun t ht hW => ⟨rfl, by rw [ht]; exact hP9, hS9.F ht⟩) hS9.2.2 dX6_piece_74
            · skip
              refine lv_aload_n hx hb dX6_piece_52 rfl (lv_at hl 1 rfl) ?_
              refine lv_iconst (v := 1) hx hb dX6_piece_53 (by decide) ?_
              refine go_M (r := some (.int 0)) (wc' := [(mo, .inr (6, [.int 1, .ref mx, .int (nI sn), .int fl, .int fa, .ref mt, .int (nI pn), .int (nI kp), .int (nI cm), .ref md, .ref mp])), (mx, .inl (cI, 500, .inl tx)), (mt, .inl (cI, 900, .inl td)), (md, .inl (cI, 16, .inl dp)), (mp, .inl (cI, 16, .inl pr))]) (w2 := [(mo, .inr (6, [.int 1, .ref mx, .int (nI sn), .int fl, .int fa, .ref mt, .int (nI pn), .int (nI kp), .int (nI cm), .ref md, .ref mp])), (mx, .inl (cI, 500, .inl tx)), (mt, .inl (cI, 900, .inl td)), (md, .inl (cI, 16, .inl dp)), (mp, .inl (cI, 16, .inl pr))]) [0, 1, 2, 3, 4] (va_runV (As := [.int 1]) (rest := []) ⟨hx, hb, hml, hown, hg⟩ (kX6_refuse l dC dI B cI cC cJ mo mx mt md mp tx td dp pr th fl fa sn pn kp cm 1 (by omega) (by omega) (by omega) (by omega) _) (cwV 1 hg (gi_V w_588 w_589 w_703 w_8 w_590) rfl rfl rfl (by decide +kernel) ⟨Nat.le_of_ble_eq_true rfl, Nat.le_of_ble_eq_true rfl⟩) (pre_MV (va_recv hK hP (ci := 6) (q0 := 0) rfl rfl) (Nat.le_trans hB hS.1) (hP.sub [0, 1, 2, 3, 4] rfl) hK ((hD.weaken (fun _ _ _ h => hAB _ h)).sub [0, 1, 2, 3, 4] (by decide) rfl) hT) rfl rfl hl.1 rfl (lv_room (Nat.le_of_ble_eq_true rfl)) dX6_piece_54 ⟨Nat.le_of_ble_eq_true rfl, Nat.le_of_ble_eq_true rfl⟩) hP hD hS hA rfl (Nat.le_of_ble_eq_true rfl) rfl rfl (fun H locs hP hD hS => ?_)
              refine W.eq (g2 := F0 m 57 ls [.int 0]) rfl ?_
              have hP9 := hP
              have hS9 := hS
              have h9 : m_piece td pn (nI j) p1 = (0, 1) := by simp [m_piece, c_1, c_3, hcl, c_6, c_8]
              have h9 := hF.symm.trans h9
              cases h9
              exact W.iret hx hb hr (fun t ht hW => ⟨rfl, by rw [ht]; exact hP9, hS9.F ht⟩) hS9.2.2 dX6_piece_57
set_option maxHeartbeats 4000000 in
set_option maxRecDepth 100000 in
theorem kX6_find (l : Launch) (dC : Nat → ClassId) (dI : Nat → Nat → Nat) (B : Nat) (cI cC cJ : ClassId) (mo : Nat) (mx : Nat) (mt : Nat) (md : Nat) (mp : Nat) (tx : Nat → Int32) (td : Nat → Int32) (dp : Nat → Int32) (pr : Nat → Int32) (th : Int32) (fl : Int32) (fa : Int32) (sn : Nat) (pn : Nat) (kp : Nat) (cm : Nat) (p0 : Int32) (p1 : Int32) (r1 : Option Nat) (hsn : sn ≤ 500) (hpn : pn ≤ 50) (hkp : kp ≤ 50) (hcm : cm ≤ 50) (hF : m_find td 0 pn p0 p1 0 none = r1) (sz9 : Nat) : Met l yX6_find wsX6_find ({ frames := 1, cells := 0, slots := 0, locals := 26 }) (q_Mp (dC, dI) vwCl [.ref mo, .int p0, .int p1] [(mo, .inr (6, [.int th, .ref mx, .int (nI sn), .int fl, .int fa, .ref mt, .int (nI pn), .int (nI kp), .int (nI cm), .ref md, .ref mp])), (mx, .inl (cI, 500, .inl tx)), (mt, .inl (cI, 900, .inl td)), (md, .inl (cI, 16, .inl dp)), (mp, .inl (cI, 16, .inl pr))] [(cI, .int), (cC, .char), (cJ, .long)] B sz9) (q_Mq (dC, dI) vwCl [(mo, .inr (6, [.int 0, .ref mx, .int (nI sn), .int fl, .int fa, .ref mt, .int (nI pn), .int (nI kp), .int (nI cm), .ref md, .ref mp])), (mx, .inl (cI, 500, .inl tx)), (mt, .inl (cI, 900, .inl td)), (md, .inl (cI, 16, .inl dp)), (mp, .inl (cI, 16, .inl pr))] (va_A [(mo, .inr (6, [.int th, .ref mx, .int (nI sn), .int fl, .int fa, .ref mt, .int (nI pn), .int (nI kp), .int (nI cm), .ref md, .ref mp])), (mx, .inl (cI, 500, .inl tx)), (mt, .inl (cI, 900, .inl td)), (md, .inl (cI, 16, .inl dp)), (mp, .inl (cI, 16, .inl pr))] sz9) (some (.int (oI r1)))) 0 0 (va_A [(mo, .inr (6, [.int th, .ref mx, .int (nI sn), .int fl, .int fa, .ref mt, .int (nI pn), .int (nI kp), .int (nI cm), .ref md, .ref mp])), (mx, .inl (cI, 500, .inl tx)), (mt, .inl (cI, 900, .inl td)), (md, .inl (cI, 16, .inl dp)), (mp, .inl (cI, 16, .inl pr))] sz9) := by
  refine Met.ofW (cc := cX6_find) (maxL := 3) (ret := (some .int)) (by decide) rfl ?_
  intro p e s m args below meth c s₁ Bd hml hv
  obtain ⟨rfl, hsz9, hB, hP, hK, hD0, hT⟩ := hv
  have hx := Bd.exec
  have hb := Bd.bytes
  have hr := Bd.returns
  have hts := atoms_spec (ws := wsX6_find) Bd.pre
  have hg : ∀ w ∈ lw_good, w.before _ s = true := fun w h => hts w (List.mem_cons_of_mem _ h)
  have hown : s.vm.findClass RX6 = some m.cls := findClass_of_methodNamed Bd.named
  have hlocks := Bd.notSynchronized
  subst hsz9
  have hD := hD0.self (sz := s.heap.size)
  generalize hAe : va_A [(mo, .inr (6, [.int th, .ref mx, .int (nI sn), .int fl, .int fa, .ref mt, .int (nI pn), .int (nI kp), .int (nI cm), .ref md, .ref mp])), (mx, .inl (cI, 500, .inl tx)), (mt, .inl (cI, 900, .inl td)), (md, .inl (cI, 16, .inl dp)), (mp, .inl (cI, 16, .inl pr))] s.heap.size = A at hD ⊢
  have hA : ∀ q : Nat, s.heap.size ≤ q → A q := fun q h => by rw [← hAe]; exact Or.inr h
  have hAB : ∀ q, A q → B ≤ q := by rw [← hAe]; exact va_A.ge hD0 hB
  have hS : va_S A s.heap s.heap [] := va_S.rf
  have hP : va_P (dC, dI) vwCl [(mo, .inr (6, [.int th, .ref mx, .int (nI sn), .int fl, .int fa, .ref mt, .int (nI pn), .int (nI kp), .int (nI cm), .ref md, .ref mp])), (mx, .inl (cI, 500, .inl tx)), (mt, .inl (cI, 900, .inl td)), (md, .inl (cI, 16, .inl dp)), (mp, .inl (cI, 16, .inl pr))] s.heap := hP
  have hl := lv_entry ([.ref mo, .int p0, .int p1]) (n := 3) (Nat.le_of_ble_eq_true rfl)
  rw [lg_entry_eq]
  generalize (lg_sl ([.ref mo, .int p0, .int p1]) ++ List.replicate (3 - (lg_sl ([.ref mo, .int p0, .int p1])).length) Slot.unset).toArray = ls at hl ⊢
  have hl : lv_has ls 3 [(0, .ref mo), (1, .int p0), (2, .int p1)] := hl
  refine lv_aload_n hx hb dX6_find_0 rfl (lv_at hl 0 rfl) ?_
  refine lv_iconst (v := 0) hx hb dX6_find_1 (by decide) ?_
  refine va_put (D := (dC, dI)) (ci := 6) (v := .int 0) (ty := .int) (C := RX6) (T := TX6) (N := 11) hx hb hg in_X6 tyX6 tyX6_ok nmX6_ok hown hK hP hD hS 0 rfl rfl 0 (by decide) (hg _ w_503) (fun _ h9 => h9) rfl (by decide +kernel) rfl rfl (Nat.le_of_ble_eq_true rfl) dX6_find_2 (fun H locs hP hD hS => ?_)
  have hP : va_P (dC, dI) vwCl [(mo, .inr (6, [.int 0, .ref mx, .int (nI sn), .int fl, .int fa, .ref mt, .int (nI pn), .int (nI kp), .int (nI cm), .ref md, .ref mp])), (mx, .inl (cI, 500, .inl tx)), (mt, .inl (cI, 900, .inl td)), (md, .inl (cI, 16, .inl dp)), (mp, .inl (cI, 16, .inl pr))] H := hP
  have hD : va_D A [(mo, .inr (6, [.int 0, .ref mx, .int (nI sn), .int fl, .int fa, .ref mt, .int (nI pn), .int (nI kp), .int (nI cm), .ref md, .ref mp])), (mx, .inl (cI, 500, .inl tx)), (mt, .inl (cI, 900, .inl td)), (md, .inl (cI, 16, .inl dp)), (mp, .inl (cI, 16, .inl pr))] := hD
  refine lv_aload_n hx hb dX6_find_5 rfl (lv_at hl 0 rfl) ?_
  refine lv_iconst (v := 0) hx hb dX6_find_6 (by decide) ?_
  refine lv_aload_n hx hb dX6_find_7 rfl (lv_at hl 0 rfl) ?_
  refine va_get (D := (dC, dI)) (ci := 6) (v := .int (nI pn)) (C := RX6) (T := TX6) (N := 11) hx hb hg in_X6 hown hK hP 0 rfl rfl 6 (by decide) (hg _ w_509) (fun _ h9 => h9) rfl dX6_find_8 ?_
  refine lv_iload_n hx hb dX6_find_11 rfl (lv_at hl 1 rfl) ?_
  refine lv_iload_n hx hb dX6_find_12 rfl (lv_at hl 2 rfl) ?_
  refine go_R (r := (oI (m_find td 0 pn p0 p1 0 none))) (va_runV (As := [.int 0, .int (nI pn), .int p0, .int p1]) (rest := []) ⟨hx, hb, hml, hown, hg⟩ (kX6_findIn l dC dI B cI cC cJ mo mx mt md mp tx td dp pr 0 fl fa sn pn kp cm 0 pn p0 p1 (by omega) (by omega) (by omega) (by omega) (by omega)) (cwV 4 hg (gi_V w_579 w_580 w_702 w_8 w_581) rfl rfl rfl (by decide +kernel) ⟨Nat.le_of_ble_eq_true rfl, Nat.le_of_ble_eq_true rfl⟩) (pre_RV (va_recv hK hP (ci := 6) (q0 := 0) rfl rfl) (hP.sub [0, 1, 2, 3, 4] rfl) hK (hT.kept (hS.mono hAB))) rfl rfl hl.1 rfl (lv_room (Nat.le_of_ble_eq_true rfl)) dX6_find_13 ⟨Nat.le_of_ble_eq_true rfl, Nat.le_of_ble_eq_true rfl⟩) ?_
  generalize hE_1 : m_find td 0 pn p0 p1 0 none = r_1
  have hb_r_1 : ∀ n, r_1 = some n → n < pn := fun n h => m_find_lt (hE_1.trans h)
  have hP9 := hP
  have hS9 := hS
  have h9 : m_find td 0 pn p0 p1 0 none = r_1 := by simp [hE_1]
  have h9 := hF.symm.trans h9
  cases h9
  exact W.iret hx hb hr (fun t ht hW => ⟨rfl, by rw [ht]; exact hP9, hS9.F ht⟩) hS9.2.2 dX6_find_16
set_option maxHeartbeats 4000000 in
set_option maxRecDepth 100000 in
theorem kX6_goes (l : Launch) (dC : Nat → ClassId) (dI : Nat → Nat → Nat) (B : Nat) (cI cC cJ : ClassId) (mo : Nat) (mx : Nat) (mt : Nat) (md : Nat) (mp : Nat) (tx : Nat → Int32) (td : Nat → Int32) (dp : Nat → Int32) (pr : Nat → Int32) (th : Int32) (fl : Int32) (fa : Int32) (sn : Nat) (pn : Nat) (kp : Nat) (cm : Nat) (wy : Nat) (p1 : Int32) (dp1 : Nat → Int32) (hsn : sn ≤ 500) (hpn : pn ≤ 50) (hkp : kp ≤ 50) (hcm : cm ≤ 50) (hwy : wy ≤ 1) (hok : m_ok td pn) (hF : m_goes td pn wy p1 dp = dp1) (sz9 : Nat) : Met l yX6_goes wsX6_goes ({ frames := 1, cells := 0, slots := 0, locals := 21 }) (q_Mp (dC, dI) vwCl [.ref mo, .int (nI wy), .int p1] [(mo, .inr (6, [.int th, .ref mx, .int (nI sn), .int fl, .int fa, .ref mt, .int (nI pn), .int (nI kp), .int (nI cm), .ref md, .ref mp])), (mx, .inl (cI, 500, .inl tx)), (mt, .inl (cI, 900, .inl td)), (md, .inl (cI, 16, .inl dp)), (mp, .inl (cI, 16, .inl pr))] [(cI, .int), (cC, .char), (cJ, .long)] B sz9) (q_Mq (dC, dI) vwCl [(mo, .inr (6, [.int th, .ref mx, .int (nI sn), .int fl, .int fa, .ref mt, .int (nI pn), .int (nI kp), .int (nI cm), .ref md, .ref mp])), (mx, .inl (cI, 500, .inl tx)), (mt, .inl (cI, 900, .inl td)), (md, .inl (cI, 16, .inl dp1)), (mp, .inl (cI, 16, .inl pr))] (va_A [(mo, .inr (6, [.int th, .ref mx, .int (nI sn), .int fl, .int fa, .ref mt, .int (nI pn), .int (nI kp), .int (nI cm), .ref md, .ref mp])), (mx, .inl (cI, 500, .inl tx)), (mt, .inl (cI, 900, .inl td)), (md, .inl (cI, 16, .inl dp)), (mp, .inl (cI, 16, .inl pr))] sz9) none) 0 0 (va_A [(mo, .inr (6, [.int th, .ref mx, .int (nI sn), .int fl, .int fa, .ref mt, .int (nI pn), .int (nI kp), .int (nI cm), .ref md, .ref mp])), (mx, .inl (cI, 500, .inl tx)), (mt, .inl (cI, 900, .inl td)), (md, .inl (cI, 16, .inl dp)), (mp, .inl (cI, 16, .inl pr))] sz9) := by
  refine Met.ofW (cc := cX6_goes) (maxL := 9) (ret := none) (by decide) rfl ?_
  intro p e s m args below meth c s₁ Bd hml hv
  obtain ⟨rfl, hsz9, hB, hP, hK, hD0, hT⟩ := hv
  have hx := Bd.exec
  have hb := Bd.bytes
  have hr := Bd.returns
  have hts := atoms_spec (ws := wsX6_goes) Bd.pre
  have hg : ∀ w ∈ lw_good, w.before _ s = true := fun w h => hts w (List.mem_cons_of_mem _ h)
  have hown : s.vm.findClass RX6 = some m.cls := findClass_of_methodNamed Bd.named
  have hlocks := Bd.notSynchronized
  subst hsz9
  have hD := hD0.self (sz := s.heap.size)
  generalize hAe : va_A [(mo, .inr (6, [.int th, .ref mx, .int (nI sn), .int fl, .int fa, .ref mt, .int (nI pn), .int (nI kp), .int (nI cm), .ref md, .ref mp])), (mx, .inl (cI, 500, .inl tx)), (mt, .inl (cI, 900, .inl td)), (md, .inl (cI, 16, .inl dp)), (mp, .inl (cI, 16, .inl pr))] s.heap.size = A at hD ⊢
  have hA : ∀ q : Nat, s.heap.size ≤ q → A q := fun q h => by rw [← hAe]; exact Or.inr h
  have hAB : ∀ q, A q → B ≤ q := by rw [← hAe]; exact va_A.ge hD0 hB
  have hS : va_S A s.heap s.heap [] := va_S.rf
  have hP : va_P (dC, dI) vwCl [(mo, .inr (6, [.int th, .ref mx, .int (nI sn), .int fl, .int fa, .ref mt, .int (nI pn), .int (nI kp), .int (nI cm), .ref md, .ref mp])), (mx, .inl (cI, 500, .inl tx)), (mt, .inl (cI, 900, .inl td)), (md, .inl (cI, 16, .inl dp)), (mp, .inl (cI, 16, .inl pr))] s.heap := hP
  have hl := lv_entry ([.ref mo, .int (nI wy), .int p1]) (n := 9) (Nat.le_of_ble_eq_true rfl)
  rw [lg_entry_eq]
  generalize (lg_sl ([.ref mo, .int (nI wy), .int p1]) ++ List.replicate (9 - (lg_sl ([.ref mo, .int (nI wy), .int p1])).length) Slot.unset).toArray = ls at hl ⊢
  have hl : lv_has ls 9 [(0, .ref mo), (1, .int (nI wy)), (2, .int p1)] := hl
  rcases (show wy = 0 ∨ wy = 1 by omega) with rfl | rfl
  · skip
    have hl : lv_has ls 9 [(0, .ref mo), (1, .int 0), (2, .int p1)] := hl
    refine lv_iconst (v := 0) hx hb dX6_goes_0 (by decide) ?_
    refine lv_istore_n (lv' := [(3, .int 0), (0, .ref mo), (1, .int 0), (2, .int p1)]) hx hb dX6_goes_1 rfl hl (by decide) rfl (fun ls hl => ?_)
    refine loop_M (σ := Nat × (Nat → Int32)) (fun n x H locs ls => 16 - x.1 < n ∧ x.1 ≤ 16 ∧ m_goes td pn 0 p1 dp = m_rounds td pn 0 0 (k_init p1 x.1 x.2) ∧ va_P (dC, dI) vwCl [(mo, .inr (6, [.int th, .ref mx, .int (nI sn), .int fl, .int fa, .ref mt, .int (nI pn), .int (nI kp), .int (nI cm), .ref md, .ref mp])), (mx, .inl (cI, 500, .inl tx)), (mt, .inl (cI, 900, .inl td)), (md, .inl (cI, 16, .inl x.2)), (mp, .inl (cI, 16, .inl pr))] H ∧ va_D A [(mo, .inr (6, [.int th, .ref mx, .int (nI sn), .int fl, .int fa, .ref mt, .int (nI pn), .int (nI kp), .int (nI cm), .ref md, .ref mp])), (mx, .inl (cI, 500, .inl tx)), (mt, .inl (cI, 900, .inl td)), (md, .inl (cI, 16, .inl x.2)), (mp, .inl (cI, 16, .inl pr))] ∧ va_S A s.heap H locs ∧ lv_has ls 9 [(0, .ref mo), (1, .int 0), (2, .int p1), (3, .int (nI x.1))]) (fun n x H locs ls ih_1 hI => ?_) (fun x H locs ls hI => ?_) (n := (16 - 0) + 1) (x := (0, dp)) ⟨(Nat.lt_succ_self _), (by first | omega | (dsimp only; omega) | (dsimp only; done)), rfl, hP, hD, hS, lv_sub hl [1, 2, 3, 0] rfl⟩
    · skip
      obtain ⟨k, dpx⟩ := x
      obtain ⟨hfu, hk0, he, hP, hD, hS, hl⟩ := hI
      have hfu : 16 - k < n + 1 := hfu
      have hk0 : k ≤ 16 := hk0
      have he : m_goes td pn 0 p1 dp = m_rounds td pn 0 0 (k_init p1 k dpx) := he
      have hP : va_P (dC, dI) vwCl [(mo, .inr (6, [.int th, .ref mx, .int (nI sn), .int fl, .int fa, .ref mt, .int (nI pn), .int (nI kp), .int (nI cm), .ref md, .ref mp])), (mx, .inl (cI, 500, .inl tx)), (mt, .inl (cI, 900, .inl td)), (md, .inl (cI, 16, .inl dpx)), (mp, .inl (cI, 16, .inl pr))] H := hP
      have hD : va_D A [(mo, .inr (6, [.int th, .ref mx, .int (nI sn), .int fl, .int fa, .ref mt, .int (nI pn), .int (nI kp), .int (nI cm), .ref md, .ref mp])), (mx, .inl (cI, 500, .inl tx)), (mt, .inl (cI, 900, .inl td)), (md, .inl (cI, 16, .inl dpx)), (mp, .inl (cI, 16, .inl pr))] := hD
      have hl : lv_has ls 9 [(0, .ref mo), (1, .int 0), (2, .int p1), (3, .int (nI k))] := hl
      refine lv_iload_n hx hb dX6_goes_2 rfl (lv_at hl 3 rfl) ?_
      refine lv_bipush (v := 16) hx hb dX6_goes_3 (by decide) ?_
      refine lv_icmp_ge (tgt := 31) hx hb dX6_goes_5 (by decide) (fun c_2 => ?_) (fun c_2 => ?_)
      · skip
        have c_2 := na_le (a := 16) (b := k) c_2 (by omega) (by omega)
        refine lv_iconst (v := 0) hx hb dX6_goes_31 (by decide) ?_
        refine lv_istore_n (lv' := [(3, .int 0), (0, .ref mo), (1, .int 0), (2, .int p1)]) hx hb dX6_goes_32 rfl hl (by decide) rfl (fun ls hl => ?_)
        refine loop_M (σ := Nat × (Nat → Int32)) (fun n x H locs ls => 16 - x.1 < n ∧ x.1 ≤ 16 ∧ m_goes td pn 0 p1 dp = m_rounds td pn 0 x.1 x.2 ∧ va_P (dC, dI) vwCl [(mo, .inr (6, [.int th, .ref mx, .int (nI sn), .int fl, .int fa, .ref mt, .int (nI pn), .int (nI kp), .int (nI cm), .ref md, .ref mp])), (mx, .inl (cI, 500, .inl tx)), (mt, .inl (cI, 900, .inl td)), (md, .inl (cI, 16, .inl x.2)), (mp, .inl (cI, 16, .inl pr))] H ∧ va_D A [(mo, .inr (6, [.int th, .ref mx, .int (nI sn), .int fl, .int fa, .ref mt, .int (nI pn), .int (nI kp), .int (nI cm), .ref md, .ref mp])), (mx, .inl (cI, 500, .inl tx)), (mt, .inl (cI, 900, .inl td)), (md, .inl (cI, 16, .inl x.2)), (mp, .inl (cI, 16, .inl pr))] ∧ va_S A s.heap H locs ∧ lv_has ls 9 [(0, .ref mo), (1, .int 0), (2, .int p1), (3, .int (nI x.1))]) (fun n x H locs ls ih_3 hI => ?_) (fun x H locs ls hI => ?_) (n := (16 - 0) + 1) (x := (0, dpx)) ⟨(Nat.lt_succ_self _), (by first | omega | (dsimp only; omega) | (dsimp only; done)), (by rw [he, k_init]; simp [c_2]), hP, hD, hS, lv_sub hl [1, 2, 3, 0] rfl⟩
        · skip
          obtain ⟨rd, dpy⟩ := x
          obtain ⟨hfu, hr0, he, hP, hD, hS, hl⟩ := hI
          have hfu : 16 - rd < n + 1 := hfu
          have hr0 : rd ≤ 16 := hr0
          have he : m_goes td pn 0 p1 dp = m_rounds td pn 0 rd dpy := he
          have hP : va_P (dC, dI) vwCl [(mo, .inr (6, [.int th, .ref mx, .int (nI sn), .int fl, .int fa, .ref mt, .int (nI pn), .int (nI kp), .int (nI cm), .ref md, .ref mp])), (mx, .inl (cI, 500, .inl tx)), (mt, .inl (cI, 900, .inl td)), (md, .inl (cI, 16, .inl dpy)), (mp, .inl (cI, 16, .inl pr))] H := hP
          have hD : va_D A [(mo, .inr (6, [.int th, .ref mx, .int (nI sn), .int fl, .int fa, .ref mt, .int (nI pn), .int (nI kp), .int (nI cm), .ref md, .ref mp])), (mx, .inl (cI, 500, .inl tx)), (mt, .inl (cI, 900, .inl td)), (md, .inl (cI, 16, .inl dpy)), (mp, .inl (cI, 16, .inl pr))] := hD
          have hl : lv_has ls 9 [(0, .ref mo), (1, .int 0), (2, .int p1), (3, .int (nI rd))] := hl
          refine lv_iload_n hx hb dX6_goes_33 rfl (lv_at hl 3 rfl) ?_
          refine lv_bipush (v := 16) hx hb dX6_goes_34 (by decide) ?_
          refine lv_icmp_ge (tgt := 237) hx hb dX6_goes_36 (by decide) (fun c_4 => ?_) (fun c_4 => ?_)
          · skip
            have c_4 := na_le (a := 16) (b := rd) c_4 (by omega) (by omega)
            have hP9 := hP
            have hS9 := hS
            have h9 : m_goes td pn 0 p1 dp = dpy := by rw [he, m_rounds]; simp [c_4]
            have h9 := hF.symm.trans h9
            cases h9
            exact W.vret hx hb hr (fun t ht hW => ⟨rfl, by rw [ht]; exact hP9, hS9.F ht⟩) hS9.2.2 dX6_goes_237
          · skip
            have c_4 := na_nle (a := 16) (b := rd) c_4 (by omega) (by omega)
            refine lv_iconst (v := 0) hx hb dX6_goes_39 (by decide) ?_
            refine lv_istore (lv' := [(4, .int 0), (0, .ref mo), (1, .int 0), (2, .int p1), (3, .int (nI rd))]) hx hb dX6_goes_40 hl (by decide) rfl (fun ls hl => ?_)
            refine loop_M (σ := Nat × (Nat → Int32)) (fun n x H locs ls => 6 * pn - x.1 < n ∧ x.1 ≤ 6 * pn ∧ x.1 % 6 = 0 ∧ m_goes td pn 0 p1 dp = m_rounds td pn 0 (rd + 1) (m_round td pn 0 x.1 x.2) ∧ va_P (dC, dI) vwCl [(mo, .inr (6, [.int th, .ref mx, .int (nI sn), .int fl, .int fa, .ref mt, .int (nI pn), .int (nI kp), .int (nI cm), .ref md, .ref mp])), (mx, .inl (cI, 500, .inl tx)), (mt, .inl (cI, 900, .inl td)), (md, .inl (cI, 16, .inl x.2)), (mp, .inl (cI, 16, .inl pr))] H ∧ va_D A [(mo, .inr (6, [.int th, .ref mx, .int (nI sn), .int fl, .int fa, .ref mt, .int (nI pn), .int (nI kp), .int (nI cm), .ref md, .ref mp])), (mx, .inl (cI, 500, .inl tx)), (mt, .inl (cI, 900, .inl td)), (md, .inl (cI, 16, .inl x.2)), (mp, .inl (cI, 16, .inl pr))] ∧ va_S A s.heap H locs ∧ lv_has ls 9 [(0, .ref mo), (1, .int 0), (2, .int p1), (3, .int (nI rd)), (4, .int (nI x.1))]) (fun n x H locs ls ih_5 hI => ?_) (fun x H locs ls hI => ?_) (n := (6 * pn - 0) + 1) (x := (0, dpy)) ⟨(Nat.lt_succ_self _), (by first | omega | (dsimp only; omega) | (dsimp only; done)), (by first | omega | (dsimp only; omega) | (dsimp only; done)), (by rw [he, m_rounds]; simp [c_4]), hP, hD, hS, lv_sub hl [1, 2, 3, 4, 0] rfl⟩
            · skip
              obtain ⟨i, dpz⟩ := x
              obtain ⟨hfu, hi0, hi6, he3, hP, hD, hS, hl⟩ := hI
              have hfu : 6 * pn - i < n + 1 := hfu
              have hi0 : i ≤ 6 * pn := hi0
              have hi6 : i % 6 = 0 := hi6
              have he3 : m_goes td pn 0 p1 dp = m_rounds td pn 0 (rd + 1) (m_round td pn 0 i dpz) := he3
              have hP : va_P (dC, dI) vwCl [(mo, .inr (6, [.int th, .ref mx, .int (nI sn), .int fl, .int fa, .ref mt, .int (nI pn), .int (nI kp), .int (nI cm), .ref md, .ref mp])), (mx, .inl (cI, 500, .inl tx)), (mt, .inl (cI, 900, .inl td)), (md, .inl (cI, 16, .inl dpz)), (mp, .inl (cI, 16, .inl pr))] H := hP
              have hD : va_D A [(mo, .inr (6, [.int th, .ref mx, .int (nI sn), .int fl, .int fa, .ref mt, .int (nI pn), .int (nI kp), .int (nI cm), .ref md, .ref mp])), (mx, .inl (cI, 500, .inl tx)), (mt, .inl (cI, 900, .inl td)), (md, .inl (cI, 16, .inl dpz)), (mp, .inl (cI, 16, .inl pr))] := hD
              have hl : lv_has ls 9 [(0, .ref mo), (1, .int 0), (2, .int p1), (3, .int (nI rd)), (4, .int (nI i))] := hl
              refine lv_iload hx hb dX6_goes_42 (lv_at hl 4 rfl) ?_
              refine lv_bipush (v := 6) hx hb dX6_goes_44 (by decide) ?_
              refine lv_aload_n hx hb dX6_goes_46 rfl (lv_at hl 0 rfl) ?_
              refine va_get (D := (dC, dI)) (ci := 6) (v := .int (nI pn)) (C := RX6) (T := TX6) (N := 11) hx hb hg in_X6 hown hK hP 0 rfl rfl 6 (by decide) (hg _ w_509) (fun _ h9 => h9) rfl dX6_goes_47 ?_
              refine lv_imul hx hb dX6_goes_50 ?_
              refine top_eq (y := (nI (6 * pn))) (by exact pk_mul _ _) ?_
              refine lv_icmp_ge (tgt := 231) hx hb dX6_goes_51 (by decide) (fun c_6 => ?_) (fun c_6 => ?_)
              · skip
                have c_6 := na_le (a := 6 * pn) (b := i) c_6 (by omega) (by omega)
                refine lv_iinc (v := (nI (rd + 1))) (lv' := [(3, .int (nI (rd + 1))), (0, .ref mo), (1, .int 0), (2, .int p1), (4, .int (nI i))]) hx hb dX6_goes_231 hl (k := 3) rfl (by rw [← nI_add]; rfl) (by decide) rfl (fun ls hl => ?_)
                refine lv_goto (tgt := 33) hx hb dX6_goes_234 (by decide) ?_
                exact ih_3 (rd + 1, dpz) _ _ _ ⟨(by first | omega | (dsimp only; omega) | (dsimp only; done)), (by first | omega | (dsimp only; omega) | (dsimp only; done)), (by (try dsimp only); rw [he3, m_round]; simp [c_6]), hP, hD, hS, lv_sub hl [1, 2, 3, 0] rfl⟩
              · skip
                have c_6 := na_nle (a := 6 * pn) (b := i) c_6 (by omega) (by omega)
                have hr9 := ok_at hok hi6 c_6
                refine lv_aload_n hx hb dX6_goes_54 rfl (lv_at hl 0 rfl) ?_
                refine va_get (D := (dC, dI)) (ci := 6) (v := .ref mt) (C := RX6) (T := TX6) (N := 11) hx hb hg in_X6 hown hK hP 0 rfl rfl 5 (by decide) (hg _ w_508) (fun _ h9 => h9) rfl dX6_goes_55 ?_
                refine lv_iload hx hb dX6_goes_58 (lv_at hl 4 rfl) ?_
                refine lv_iconst (v := 2) hx hb dX6_goes_60 (by decide) ?_
                refine lv_iadd hx hb dX6_goes_61 ?_
                refine top_eq (y := (nI (i + 2))) (by exact nI_add _ _) ?_
                refine x_iald (k := i + 2) hx hb hK hP 2 0 rfl rfl (by omega) (by decide) dX6_goes_62 ?_
                refine lv_istore (lv' := [(5, .int (td (i + 2))), (0, .ref mo), (1, .int 0), (2, .int p1), (3, .int (nI rd)), (4, .int (nI i))]) hx hb dX6_goes_63 hl (by decide) rfl (fun ls hl => ?_)
                refine lv_aload_n hx hb dX6_goes_65 rfl (lv_at hl 1 rfl) ?_
                refine va_get (D := (dC, dI)) (ci := 6) (v := .ref mt) (C := RX6) (T := TX6) (N := 11) hx hb hg in_X6 hown hK hP 0 rfl rfl 5 (by decide) (hg _ w_508) (fun _ h9 => h9) rfl dX6_goes_66 ?_
                refine lv_iload hx hb dX6_goes_69 (lv_at hl 5 rfl) ?_
                refine lv_iconst (v := 3) hx hb dX6_goes_71 (by decide) ?_
                refine lv_iadd hx hb dX6_goes_72 ?_
                refine top_eq (y := (nI (i + 3))) (by exact nI_add _ _) ?_
                refine x_iald (k := i + 3) hx hb hK hP 2 0 rfl rfl (by omega) (by decide) dX6_goes_73 ?_
                refine lv_istore (lv' := [(6, .int (td (i + 3))), (5, .int (td (i + 2))), (0, .ref mo), (1, .int 0), (2, .int p1), (3, .int (nI rd)), (4, .int (nI i))]) hx hb dX6_goes_74 hl (by decide) rfl (fun ls hl => ?_)
                refine lv_aload_n hx hb dX6_goes_76 rfl (lv_at hl 2 rfl) ?_
                refine va_get (D := (dC, dI)) (ci := 6) (v := .ref mt) (C := RX6) (T := TX6) (N := 11) hx hb hg in_X6 hown hK hP 0 rfl rfl 5 (by decide) (hg _ w_508) (fun _ h9 => h9) rfl dX6_goes_77 ?_
                refine lv_iload hx hb dX6_goes_80 (lv_at hl 6 rfl) ?_
                refine x_iald (k := i) hx hb hK hP 2 0 rfl rfl (by omega) (by decide) dX6_goes_82 ?_
                refine lv_if_ne (tgt := 98) hx hb dX6_goes_83 (by decide) (fun c_7 => ?_) (fun c_7 => ?_)
                · skip
                  refine lv_bipush (v := 99) hx hb dX6_goes_98 (by decide) ?_
                  refine lv_istore (lv' := [(7, .int 99), (6, .int (td (i + 3))), (5, .int (td (i + 2))), (0, .ref mo), (1, .int 0), (2, .int p1), (3, .int (nI rd)), (4, .int (nI i))]) hx hb dX6_goes_100 hl (by decide) rfl (fun ls hl => ?_)
                  refine lv_aload_n hx hb dX6_goes_102 rfl (lv_at hl 3 rfl) ?_
                  refine va_get (D := (dC, dI)) (ci := 6) (v := .ref mt) (C := RX6) (T := TX6) (N := 11) hx hb hg in_X6 hown hK hP 0 rfl rfl 5 (by decide) (hg _ w_508) (fun _ h9 => h9) rfl dX6_goes_103 ?_
                  refine lv_iload hx hb dX6_goes_106 (lv_at hl 7 rfl) ?_
                  refine x_iald (k := i) hx hb hK hP 2 0 rfl rfl (by omega) (by decide) dX6_goes_108 ?_
                  refine lv_iload_n hx hb dX6_goes_109 rfl (lv_at hl 4 rfl) ?_
                  refine lv_if_ne (tgt := 117) hx hb dX6_goes_110 (by decide) (fun c_8 => ?_) (fun c_8 => ?_)
                  · skip
                    exact absurd c_8 (by decide)
                  · skip
                    refine lv_iconst (v := 0) hx hb dX6_goes_113 (by decide) ?_
                    refine lv_goto (tgt := 118) hx hb dX6_goes_114 (by decide) ?_
                    refine lv_icmp_ne (tgt := 225) hx hb dX6_goes_118 (by decide) (fun c_9 => ?_) (fun c_9 => ?_)
                    · skip
                      refine lv_iinc (v := (nI (i + 6))) (lv' := [(4, .int (nI (i + 6))), (7, .int 99), (6, .int (td (i + 3))), (5, .int (td (i + 2))), (0, .ref mo), (1, .int 0), (2, .int p1), (3, .int (nI rd))]) hx hb dX6_goes_225 hl (k := 7) rfl (by rw [← nI_add]; rfl) (by decide) rfl (fun ls hl => ?_)
                      refine lv_goto (tgt := 42) hx hb dX6_goes_228 (by decide) ?_
                      exact ih_5 (i + 6, dpz) _ _ _ ⟨(by first | omega | (dsimp only; omega) | (dsimp only; done)), (by first | omega | (dsimp only; omega) | (dsimp only; done)), (by first | omega | (dsimp only; omega) | (dsimp only; done)), (by (try dsimp only); rw [he3, m_round]; simp [m_along, m_up, m_pt, c_6, c_7]), hP, hD, hS, lv_sub hl [4, 5, 6, 7, 0] rfl⟩
                    · skip
                      exact absurd c_9 c_7
                · skip
                  refine lv_aload_n hx hb dX6_goes_86 rfl (lv_at hl 2 rfl) ?_
                  refine va_get (D := (dC, dI)) (ci := 6) (v := .ref mt) (C := RX6) (T := TX6) (N := 11) hx hb hg in_X6 hown hK hP 0 rfl rfl 5 (by decide) (hg _ w_508) (fun _ h9 => h9) rfl dX6_goes_87 ?_
                  refine lv_iload hx hb dX6_goes_90 (lv_at hl 6 rfl) ?_
                  refine lv_iconst (v := 5) hx hb dX6_goes_92 (by decide) ?_
                  refine lv_iadd hx hb dX6_goes_93 ?_
                  refine top_eq (y := (nI (i + 5))) (by exact nI_add _ _) ?_
                  refine x_iald (k := i + 5) hx hb hK hP 2 0 rfl rfl (by omega) (by decide) dX6_goes_94 ?_
                  refine lv_goto (tgt := 100) hx hb dX6_goes_95 (by decide) ?_
                  refine lv_istore (lv' := [(7, .int (td (i + 5))), (6, .int (td (i + 3))), (5, .int (td (i + 2))), (0, .ref mo), (1, .int 0), (2, .int p1), (3, .int (nI rd)), (4, .int (nI i))]) hx hb dX6_goes_100 hl (by decide) rfl (fun ls hl => ?_)
                  refine lv_aload_n hx hb dX6_goes_102 rfl (lv_at hl 3 rfl) ?_
                  refine va_get (D := (dC, dI)) (ci := 6) (v := .ref mt) (C := RX6) (T := TX6) (N := 11) hx hb hg in_X6 hown hK hP 0 rfl rfl 5 (by decide) (hg _ w_508) (fun _ h9 => h9) rfl dX6_goes_103 ?_
                  refine lv_iload hx hb dX6_goes_106 (lv_at hl 7 rfl) ?_
                  refine x_iald (k := i) hx hb hK hP 2 0 rfl rfl (by omega) (by decide) dX6_goes_108 ?_
                  refine lv_iload_n hx hb dX6_goes_109 rfl (lv_at hl 4 rfl) ?_
                  refine lv_if_ne (tgt := 117) hx hb dX6_goes_110 (by decide) (fun c_10 => ?_) (fun c_10 => ?_)
                  · skip
                    exact absurd c_10 (by decide)
                  · skip
                    refine lv_iconst (v := 0) hx hb dX6_goes_113 (by decide) ?_
                    refine lv_goto (tgt := 118) hx hb dX6_goes_114 (by decide) ?_
                    refine lv_icmp_ne (tgt := 225) hx hb dX6_goes_118 (by decide) (fun c_11 => ?_) (fun c_11 => ?_)
                    · skip
                      exact absurd c_7 c_11
                    · skip
                      refine lv_aload_n hx hb dX6_goes_121 rfl (lv_at hl 3 rfl) ?_
                      refine va_get (D := (dC, dI)) (ci := 6) (v := .ref md) (C := RX6) (T := TX6) (N := 11) hx hb hg in_X6 hown hK hP 0 rfl rfl 9 (by decide) (hg _ w_512) (fun _ h9 => h9) rfl dX6_goes_122 ?_
                      refine lv_iload hx hb dX6_goes_125 (lv_at hl 1 rfl) ?_
                      refine lv_aload_n hx hb dX6_goes_127 rfl (lv_at hl 3 rfl) ?_
                      refine va_get (D := (dC, dI)) (ci := 6) (v := .ref md) (C := RX6) (T := TX6) (N := 11) hx hb hg in_X6 hown hK hP 0 rfl rfl 9 (by decide) (hg _ w_512) (fun _ h9 => h9) rfl dX6_goes_128 ?_
                      refine lv_iload hx hb dX6_goes_131 (lv_at hl 2 rfl) ?_
                      refine va_iald (i := td (i + 2)) hx hb hK hP 3 0 rfl rfl (ok_in (hr9.2.2.2.2.2.2.1 c_7).1 (by decide)) dX6_goes_133 ?_
                      refine lv_iload hx hb dX6_goes_134 (lv_at hl 0 rfl) ?_
                      refine go_R (r := m_less (dpz (td (i + 2)).toNatClampNeg) (td (i + 5))) (va_runS (As := [.int (dpz (td (i + 2)).toNatClampNeg), .int (td (i + 5))]) (rest := [.int (td (i + 3)), .ref md]) ⟨hx, hb, hml, hown, hg⟩ (kX6_less l dC dI B cI cC cJ (dpz (td (i + 2)).toNatClampNeg) (td (i + 5))) (va_cwS 2 hg (gi_S w_616 w_617 w_8 w_618) rfl rfl rfl (by decide +kernel) ⟨Nat.le_of_ble_eq_true rfl, Nat.le_of_ble_eq_true rfl⟩) (pre_RS (hP.sub [] rfl) hK (hT.kept (hS.mono hAB))) rfl rfl hl.1 rfl (lv_room (Nat.le_of_ble_eq_true rfl)) dX6_goes_136 ⟨Nat.le_of_ble_eq_true rfl, Nat.le_of_ble_eq_true rfl⟩) ?_
                      refine lv_aload_n hx hb dX6_goes_139 rfl (lv_at hl 3 rfl) ?_
                      refine va_get (D := (dC, dI)) (ci := 6) (v := .ref md) (C := RX6) (T := TX6) (N := 11) hx hb hg in_X6 hown hK hP 0 rfl rfl 9 (by decide) (hg _ w_512) (fun _ h9 => h9) rfl dX6_goes_140 ?_
                      refine lv_iload hx hb dX6_goes_143 (lv_at hl 1 rfl) ?_
                      refine va_iald (i := td (i + 3)) hx hb hK hP 3 0 rfl rfl (ok_in (hr9.2.2.2.2.2.2.1 c_7).2 (by decide)) dX6_goes_145 ?_
                      refine lv_icmp_le (tgt := 164) hx hb dX6_goes_146 (by decide) (fun c_12 => ?_) (fun c_12 => ?_)
                      · skip
                        refine lv_aload_n hx hb dX6_goes_164 rfl (lv_at hl 3 rfl) ?_
                        refine va_get (D := (dC, dI)) (ci := 6) (v := .ref md) (C := RX6) (T := TX6) (N := 11) hx hb hg in_X6 hown hK hP 0 rfl rfl 9 (by decide) (hg _ w_512) (fun _ h9 => h9) rfl dX6_goes_165 ?_
                        refine lv_iload hx hb dX6_goes_168 (lv_at hl 1 rfl) ?_
                        refine va_iald (i := td (i + 3)) hx hb hK hP 3 0 rfl rfl (ok_in (hr9.2.2.2.2.2.2.1 c_7).2 (by decide)) dX6_goes_170 ?_
                        refine va_iast (i := td (i + 3)) hx hb hK hP hD hS 3 0 rfl rfl (ok_in (hr9.2.2.2.2.2.2.1 c_7).2 (by decide)) dX6_goes_171 (fun H locs hP hD hS => ?_)
                        have hP : va_P (dC, dI) vwCl [(mo, .inr (6, [.int th, .ref mx, .int (nI sn), .int fl, .int fa, .ref mt, .int (nI pn), .int (nI kp), .int (nI cm), .ref md, .ref mp])), (mx, .inl (cI, 500, .inl tx)), (mt, .inl (cI, 900, .inl td)), (md, .inl (cI, 16, .inl (upd dpz (td (i + 3)).toNatClampNeg (dpz (td (i + 3)).toNatClampNeg)))), (mp, .inl (cI, 16, .inl pr))] H := hP
                        have hD : va_D A [(mo, .inr (6, [.int th, .ref mx, .int (nI sn), .int fl, .int fa, .ref mt, .int (nI pn), .int (nI kp), .int (nI cm), .ref md, .ref mp])), (mx, .inl (cI, 500, .inl tx)), (mt, .inl (cI, 900, .inl td)), (md, .inl (cI, 16, .inl (upd dpz (td (i + 3)).toNatClampNeg (dpz (td (i + 3)).toNatClampNeg)))), (mp, .inl (cI, 16, .inl pr))] := hD
                        refine lv_iload_n hx hb dX6_goes_172 rfl (lv_at hl 4 rfl) ?_
                        refine lv_if_ne (tgt := 191) hx hb dX6_goes_173 (by decide) (fun c_13 => ?_) (fun c_13 => ?_)
                        · skip
                          exact absurd c_13 (by decide)
                        · skip
                          refine lv_aload_n hx hb dX6_goes_176 rfl (lv_at hl 3 rfl) ?_
                          refine va_get (D := (dC, dI)) (ci := 6) (v := .ref md) (C := RX6) (T := TX6) (N := 11) hx hb hg in_X6 hown hK hP 0 rfl rfl 9 (by decide) (hg _ w_512) (fun _ h9 => h9) rfl dX6_goes_177 ?_
                          refine lv_iload hx hb dX6_goes_180 (lv_at hl 1 rfl) ?_
                          refine va_iald (i := td (i + 3)) hx hb hK hP 3 0 rfl rfl (ok_in (hr9.2.2.2.2.2.2.1 c_7).2 (by decide)) dX6_goes_182 ?_
                          refine lv_iload hx hb dX6_goes_183 (lv_at hl 0 rfl) ?_
                          refine go_R (r := m_less ((upd dpz (td (i + 3)).toNatClampNeg (dpz (td (i + 3)).toNatClampNeg)) (td (i + 3)).toNatClampNeg) (td (i + 5))) (va_runS (As := [.int ((upd dpz (td (i + 3)).toNatClampNeg (dpz (td (i + 3)).toNatClampNeg)) (td (i + 3)).toNatClampNeg), .int (td (i + 5))]) (rest := []) ⟨hx, hb, hml, hown, hg⟩ (kX6_less l dC dI B cI cC cJ ((upd dpz (td (i + 3)).toNatClampNeg (dpz (td (i + 3)).toNatClampNeg)) (td (i + 3)).toNatClampNeg) (td (i + 5))) (va_cwS 2 hg (gi_S w_616 w_617 w_8 w_618) rfl rfl rfl (by decide +kernel) ⟨Nat.le_of_ble_eq_true rfl, Nat.le_of_ble_eq_true rfl⟩) (pre_RS (hP.sub [] rfl) hK (hT.kept (hS.mono hAB))) rfl rfl hl.1 rfl (lv_room (Nat.le_of_ble_eq_true rfl)) dX6_goes_185 ⟨Nat.le_of_ble_eq_true rfl, Nat.le_of_ble_eq_true rfl⟩) ?_
                          refine lv_goto (tgt := 192) hx hb dX6_goes_188 (by decide) ?_
                          refine lv_istore (lv' := [(8, .int (m_less ((upd dpz (td (i + 3)).toNatClampNeg (dpz (td (i + 3)).toNatClampNeg)) (td (i + 3)).toNatClampNeg) (td (i + 5)))), (7, .int (td (i + 5))), (6, .int (td (i + 3))), (5, .int (td (i + 2))), (0, .ref mo), (1, .int 0), (2, .int p1), (3, .int (nI rd)), (4, .int (nI i))]) hx hb dX6_goes_192 hl (by decide) rfl (fun ls hl => ?_)
                          refine lv_aload_n hx hb dX6_goes_194 rfl (lv_at hl 4 rfl) ?_
                          refine va_get (D := (dC, dI)) (ci := 6) (v := .ref md) (C := RX6) (T := TX6) (N := 11) hx hb hg in_X6 hown hK hP 0 rfl rfl 9 (by decide) (hg _ w_512) (fun _ h9 => h9) rfl dX6_goes_195 ?_
                          refine lv_iload hx hb dX6_goes_198 (lv_at hl 3 rfl) ?_
                          refine lv_iload hx hb dX6_goes_200 (lv_at hl 0 rfl) ?_
                          refine lv_aload_n hx hb dX6_goes_202 rfl (lv_at hl 4 rfl) ?_
                          refine va_get (D := (dC, dI)) (ci := 6) (v := .ref md) (C := RX6) (T := TX6) (N := 11) hx hb hg in_X6 hown hK hP 0 rfl rfl 9 (by decide) (hg _ w_512) (fun _ h9 => h9) rfl dX6_goes_203 ?_
                          refine lv_iload hx hb dX6_goes_206 (lv_at hl 3 rfl) ?_
                          refine va_iald (i := td (i + 2)) hx hb hK hP 3 0 rfl rfl (ok_in (hr9.2.2.2.2.2.2.1 c_7).1 (by decide)) dX6_goes_208 ?_
                          refine lv_icmp_le (tgt := 217) hx hb dX6_goes_209 (by decide) (fun c_14 => ?_) (fun c_14 => ?_)
                          · skip
                            refine lv_aload_n hx hb dX6_goes_217 rfl (lv_at hl 4 rfl) ?_
                            refine va_get (D := (dC, dI)) (ci := 6) (v := .ref md) (C := RX6) (T := TX6) (N := 11) hx hb hg in_X6 hown hK hP 0 rfl rfl 9 (by decide) (hg _ w_512) (fun _ h9 => h9) rfl dX6_goes_218 ?_
                            refine lv_iload hx hb dX6_goes_221 (lv_at hl 3 rfl) ?_
                            refine va_iald (i := td (i + 2)) hx hb hK hP 3 0 rfl rfl (ok_in (hr9.2.2.2.2.2.2.1 c_7).1 (by decide)) dX6_goes_223 ?_
                            refine va_iast (i := td (i + 2)) hx hb hK hP hD hS 3 0 rfl rfl (ok_in (hr9.2.2.2.2.2.2.1 c_7).1 (by decide)) dX6_goes_224 (fun H locs hP hD hS => ?_)
                            have hP : va_P (dC, dI) vwCl [(mo, .inr (6, [.int th, .ref mx, .int (nI sn), .int fl, .int fa, .ref mt, .int (nI pn), .int (nI kp), .int (nI cm), .ref md, .ref mp])), (mx, .inl (cI, 500, .inl tx)), (mt, .inl (cI, 900, .inl td)), (md, .inl (cI, 16, .inl (upd (upd dpz (td (i + 3)).toNatClampNeg (dpz (td (i + 3)).toNatClampNeg)) (td (i + 2)).toNatClampNeg ((upd dpz (td (i + 3)).toNatClampNeg (dpz (td (i + 3)).toNatClampNeg)) (td (i + 2)).toNatClampNeg)))), (mp, .inl (cI, 16, .inl pr))] H := hP
                            have hD : va_D A [(mo, .inr (6, [.int th, .ref mx, .int (nI sn), .int fl, .int fa, .ref mt, .int (nI pn), .int (nI kp), .int (nI cm), .ref md, .ref mp])), (mx, .inl (cI, 500, .inl tx)), (mt, .inl (cI, 900, .inl td)), (md, .inl (cI, 16, .inl (upd (upd dpz (td (i + 3)).toNatClampNeg (dpz (td (i + 3)).toNatClampNeg)) (td (i + 2)).toNatClampNeg ((upd dpz (td (i + 3)).toNatClampNeg (dpz (td (i + 3)).toNatClampNeg)) (td (i + 2)).toNatClampNeg)))), (mp, .inl (cI, 16, .inl pr))] := hD
                            refine lv_iinc (v := (nI (i + 6))) (lv' := [(4, .int (nI (i + 6))), (8, .int (m_less ((upd dpz (td (i + 3)).toNatClampNeg (dpz (td (i + 3)).toNatClampNeg)) (td (i + 3)).toNatClampNeg) (td (i + 5)))), (7, .int (td (i + 5))), (6, .int (td (i + 3))), (5, .int (td (i + 2))), (0, .ref mo), (1, .int 0), (2, .int p1), (3, .int (nI rd))]) hx hb dX6_goes_225 hl (k := 8) rfl (by rw [← nI_add]; rfl) (by decide) rfl (fun ls hl => ?_)
                            refine lv_goto (tgt := 42) hx hb dX6_goes_228 (by decide) ?_
                            exact ih_5 (i + 6, upd (upd dpz (td (i + 3)).toNatClampNeg (dpz (td (i + 3)).toNatClampNeg)) (td (i + 2)).toNatClampNeg ((upd dpz (td (i + 3)).toNatClampNeg (dpz (td (i + 3)).toNatClampNeg)) (td (i + 2)).toNatClampNeg)) _ _ _ ⟨(by first | omega | (dsimp only; omega) | (dsimp only; done)), (by first | omega | (dsimp only; omega) | (dsimp only; done)), (by first | omega | (dsimp only; omega) | (dsimp only; done)), (by (try dsimp only); rw [he3, m_round]; simp [m_along, m_up, m_pt, c_6, eq_true c_7, c_12, c_14]), hP, hD, hS, lv_sub hl [5, 6, 7, 8, 0] rfl⟩
                          · skip
                            refine lv_iload hx hb dX6_goes_212 (lv_at hl 0 rfl) ?_
                            refine lv_goto (tgt := 224) hx hb dX6_goes_214 (by decide) ?_
                            refine va_iast (i := td (i + 2)) hx hb hK hP hD hS 3 0 rfl rfl (ok_in (hr9.2.2.2.2.2.2.1 c_7).1 (by decide)) dX6_goes_224 (fun H locs hP hD hS => ?_)
                            have hP : va_P (dC, dI) vwCl [(mo, .inr (6, [.int th, .ref mx, .int (nI sn), .int fl, .int fa, .ref mt, .int (nI pn), .int (nI kp), .int (nI cm), .ref md, .ref mp])), (mx, .inl (cI, 500, .inl tx)), (mt, .inl (cI, 900, .inl td)), (md, .inl (cI, 16, .inl (upd (upd dpz (td (i + 3)).toNatClampNeg (dpz (td (i + 3)).toNatClampNeg)) (td (i + 2)).toNatClampNeg (m_less ((upd dpz (td (i + 3)).toNatClampNeg (dpz (td (i + 3)).toNatClampNeg)) (td (i + 3)).toNatClampNeg) (td (i + 5)))))), (mp, .inl (cI, 16, .inl pr))] H := hP
                            have hD : va_D A [(mo, .inr (6, [.int th, .ref mx, .int (nI sn), .int fl, .int fa, .ref mt, .int (nI pn), .int (nI kp), .int (nI cm), .ref md, .ref mp])), (mx, .inl (cI, 500, .inl tx)), (mt, .inl (cI, 900, .inl td)), (md, .inl (cI, 16, .inl (upd (upd dpz (td (i + 3)).toNatClampNeg (dpz (td (i + 3)).toNatClampNeg)) (td (i + 2)).toNatClampNeg (m_less ((upd dpz (td (i + 3)).toNatClampNeg (dpz (td (i + 3)).toNatClampNeg)) (td (i + 3)).toNatClampNeg) (td (i + 5)))))), (mp, .inl (cI, 16, .inl pr))] := hD
                            refine lv_iinc (v := (nI (i + 6))) (lv' := [(4, .int (nI (i + 6))), (8, .int (m_less ((upd dpz (td (i + 3)).toNatClampNeg (dpz (td (i + 3)).toNatClampNeg)) (td (i + 3)).toNatClampNeg) (td (i + 5)))), (7, .int (td (i + 5))), (6, .int (td (i + 3))), (5, .int (td (i + 2))), (0, .ref mo), (1, .int 0), (2, .int p1), (3, .int (nI rd))]) hx hb dX6_goes_225 hl (k := 8) rfl (by rw [← nI_add]; rfl) (by decide) rfl (fun ls hl => ?_)
                            refine lv_goto (tgt := 42) hx hb dX6_goes_228 (by decide) ?_
                            exact ih_5 (i + 6, upd (upd dpz (td (i + 3)).toNatClampNeg (dpz (td (i + 3)).toNatClampNeg)) (td (i + 2)).toNatClampNeg (m_less ((upd dpz (td (i + 3)).toNatClampNeg (dpz (td (i + 3)).toNatClampNeg)) (td (i + 3)).toNatClampNeg) (td (i + 5)))) _ _ _ ⟨(by first | omega | (dsimp only; omega) | (dsimp only; done)), (by first | omega | (dsimp only; omega) | (dsimp only; done)), (by first | omega | (dsimp only; omega) | (dsimp only; done)), (by (try dsimp only); rw [he3, m_round]; simp [m_along, m_up, m_pt, c_6, eq_true c_7, c_12, c_14]), hP, hD, hS, lv_sub hl [5, 6, 7, 8, 0] rfl⟩
                      · skip
                        refine lv_aload_n hx hb dX6_goes_149 rfl (lv_at hl 3 rfl) ?_
                        refine va_get (D := (dC, dI)) (ci := 6) (v := .ref md) (C := RX6) (T := TX6) (N := 11) hx hb hg in_X6 hown hK hP 0 rfl rfl 9 (by decide) (hg _ w_512) (fun _ h9 => h9) rfl dX6_goes_150 ?_
                        refine lv_iload hx hb dX6_goes_153 (lv_at hl 2 rfl) ?_
                        refine va_iald (i := td (i + 2)) hx hb hK hP 3 0 rfl rfl (ok_in (hr9.2.2.2.2.2.2.1 c_7).1 (by decide)) dX6_goes_155 ?_
                        refine lv_iload hx hb dX6_goes_156 (lv_at hl 0 rfl) ?_
                        refine go_R (r := m_less (dpz (td (i + 2)).toNatClampNeg) (td (i + 5))) (va_runS (As := [.int (dpz (td (i + 2)).toNatClampNeg), .int (td (i + 5))]) (rest := [.int (td (i + 3)), .ref md]) ⟨hx, hb, hml, hown, hg⟩ (kX6_less l dC dI B cI cC cJ (dpz (td (i + 2)).toNatClampNeg) (td (i + 5))) (va_cwS 2 hg (gi_S w_616 w_617 w_8 w_618) rfl rfl rfl (by decide +kernel) ⟨Nat.le_of_ble_eq_true rfl, Nat.le_of_ble_eq_true rfl⟩) (pre_RS (hP.sub [] rfl) hK (hT.kept (hS.mono hAB))) rfl rfl hl.1 rfl (lv_room (Nat.le_of_ble_eq_true rfl)) dX6_goes_158 ⟨Nat.le_of_ble_eq_true rfl, Nat.le_of_ble_eq_true rfl⟩) ?_
                        refine lv_goto (tgt := 171) hx hb dX6_goes_161 (by decide) ?_
                        refine va_iast (i := td (i + 3)) hx hb hK hP hD hS 3 0 rfl rfl (ok_in (hr9.2.2.2.2.2.2.1 c_7).2 (by decide)) dX6_goes_171 (fun H locs hP hD hS => ?_)
                        have hP : va_P (dC, dI) vwCl [(mo, .inr (6, [.int th, .ref mx, .int (nI sn), .int fl, .int fa, .ref mt, .int (nI pn), .int (nI kp), .int (nI cm), .ref md, .ref mp])), (mx, .inl (cI, 500, .inl tx)), (mt, .inl (cI, 900, .inl td)), (md, .inl (cI, 16, .inl (upd dpz (td (i + 3)).toNatClampNeg (m_less (dpz (td (i + 2)).toNatClampNeg) (td (i + 5)))))), (mp, .inl (cI, 16, .inl pr))] H := hP
                        have hD : va_D A [(mo, .inr (6, [.int th, .ref mx, .int (nI sn), .int fl, .int fa, .ref mt, .int (nI pn), .int (nI kp), .int (nI cm), .ref md, .ref mp])), (mx, .inl (cI, 500, .inl tx)), (mt, .inl (cI, 900, .inl td)), (md, .inl (cI, 16, .inl (upd dpz (td (i + 3)).toNatClampNeg (m_less (dpz (td (i + 2)).toNatClampNeg) (td (i + 5)))))), (mp, .inl (cI, 16, .inl pr))] := hD
                        refine lv_iload_n hx hb dX6_goes_172 rfl (lv_at hl 4 rfl) ?_
                        refine lv_if_ne (tgt := 191) hx hb dX6_goes_173 (by decide) (fun c_15 => ?_) (fun c_15 => ?_)
                        · skip
                          exact absurd c_15 (by decide)
                        · skip
                          refine lv_aload_n hx hb dX6_goes_176 rfl (lv_at hl 3 rfl) ?_
                          refine va_get (D := (dC, dI)) (ci := 6) (v := .ref md) (C := RX6) (T := TX6) (N := 11) hx hb hg in_X6 hown hK hP 0 rfl rfl 9 (by decide) (hg _ w_512) (fun _ h9 => h9) rfl dX6_goes_177 ?_
                          refine lv_iload hx hb dX6_goes_180 (lv_at hl 1 rfl) ?_
                          refine va_iald (i := td (i + 3)) hx hb hK hP 3 0 rfl rfl (ok_in (hr9.2.2.2.2.2.2.1 c_7).2 (by decide)) dX6_goes_182 ?_
                          refine lv_iload hx hb dX6_goes_183 (lv_at hl 0 rfl) ?_
                          refine go_R (r := m_less ((upd dpz (td (i + 3)).toNatClampNeg (m_less (dpz (td (i + 2)).toNatClampNeg) (td (i + 5)))) (td (i + 3)).toNatClampNeg) (td (i + 5))) (va_runS (As := [.int ((upd dpz (td (i + 3)).toNatClampNeg (m_less (dpz (td (i + 2)).toNatClampNeg) (td (i + 5)))) (td (i + 3)).toNatClampNeg), .int (td (i + 5))]) (rest := []) ⟨hx, hb, hml, hown, hg⟩ (kX6_less l dC dI B cI cC cJ ((upd dpz (td (i + 3)).toNatClampNeg (m_less (dpz (td (i + 2)).toNatClampNeg) (td (i + 5)))) (td (i + 3)).toNatClampNeg) (td (i + 5))) (va_cwS 2 hg (gi_S w_616 w_617 w_8 w_618) rfl rfl rfl (by decide +kernel) ⟨Nat.le_of_ble_eq_true rfl, Nat.le_of_ble_eq_true rfl⟩) (pre_RS (hP.sub [] rfl) hK (hT.kept (hS.mono hAB))) rfl rfl hl.1 rfl (lv_room (Nat.le_of_ble_eq_true rfl)) dX6_goes_185 ⟨Nat.le_of_ble_eq_true rfl, Nat.le_of_ble_eq_true rfl⟩) ?_
                          refine lv_goto (tgt := 192) hx hb dX6_goes_188 (by decide) ?_
                          refine lv_istore (lv' := [(8, .int (m_less ((upd dpz (td (i + 3)).toNatClampNeg (m_less (dpz (td (i + 2)).toNatClampNeg) (td (i + 5)))) (td (i + 3)).toNatClampNeg) (td (i + 5)))), (7, .int (td (i + 5))), (6, .int (td (i + 3))), (5, .int (td (i + 2))), (0, .ref mo), (1, .int 0), (2, .int p1), (3, .int (nI rd)), (4, .int (nI i))]) hx hb dX6_goes_192 hl (by decide) rfl (fun ls hl => ?_)
                          refine lv_aload_n hx hb dX6_goes_194 rfl (lv_at hl 4 rfl) ?_
                          refine va_get (D := (dC, dI)) (ci := 6) (v := .ref md) (C := RX6) (T := TX6) (N := 11) hx hb hg in_X6 hown hK hP 0 rfl rfl 9 (by decide) (hg _ w_512) (fun _ h9 => h9) rfl dX6_goes_195 ?_
                          refine lv_iload hx hb dX6_goes_198 (lv_at hl 3 rfl) ?_
                          refine lv_iload hx hb dX6_goes_200 (lv_at hl 0 rfl) ?_
                          refine lv_aload_n hx hb dX6_goes_202 rfl (lv_at hl 4 rfl) ?_
                          refine va_get (D := (dC, dI)) (ci := 6) (v := .ref md) (C := RX6) (T := TX6) (N := 11) hx hb hg in_X6 hown hK hP 0 rfl rfl 9 (by decide) (hg _ w_512) (fun _ h9 => h9) rfl dX6_goes_203 ?_
                          refine lv_iload hx hb dX6_goes_206 (lv_at hl 3 rfl) ?_
                          refine va_iald (i := td (i + 2)) hx hb hK hP 3 0 rfl rfl (ok_in (hr9.2.2.2.2.2.2.1 c_7).1 (by decide)) dX6_goes_208 ?_
                          refine lv_icmp_le (tgt := 217) hx hb dX6_goes_209 (by decide) (fun c_16 => ?_) (fun c_16 => ?_)
                          · skip
                            refine lv_aload_n hx hb dX6_goes_217 rfl (lv_at hl 4 rfl) ?_
                            refine va_get (D := (dC, dI)) (ci := 6) (v := .ref md) (C := RX6) (T := TX6) (N := 11) hx hb hg in_X6 hown hK hP 0 rfl rfl 9 (by decide) (hg _ w_512) (fun _ h9 => h9) rfl dX6_goes_218 ?_
                            refine lv_iload hx hb dX6_goes_221 (lv_at hl 3 rfl) ?_
                            refine va_iald (i := td (i + 2)) hx hb hK hP 3 0 rfl rfl (ok_in (hr9.2.2.2.2.2.2.1 c_7).1 (by decide)) dX6_goes_223 ?_
                            refine va_iast (i := td (i + 2)) hx hb hK hP hD hS 3 0 rfl rfl (ok_in (hr9.2.2.2.2.2.2.1 c_7).1 (by decide)) dX6_goes_224 (fun H locs hP hD hS => ?_)
                            have hP : va_P (dC, dI) vwCl [(mo, .inr (6, [.int th, .ref mx, .int (nI sn), .int fl, .int fa, .ref mt, .int (nI pn), .int (nI kp), .int (nI cm), .ref md, .ref mp])), (mx, .inl (cI, 500, .inl tx)), (mt, .inl (cI, 900, .inl td)), (md, .inl (cI, 16, .inl (upd (upd dpz (td (i + 3)).toNatClampNeg (m_less (dpz (td (i + 2)).toNatClampNeg) (td (i + 5)))) (td (i + 2)).toNatClampNeg ((upd dpz (td (i + 3)).toNatClampNeg (m_less (dpz (td (i + 2)).toNatClampNeg) (td (i + 5)))) (td (i + 2)).toNatClampNeg)))), (mp, .inl (cI, 16, .inl pr))] H := hP
                            have hD : va_D A [(mo, .inr (6, [.int th, .ref mx, .int (nI sn), .int fl, .int fa, .ref mt, .int (nI pn), .int (nI kp), .int (nI cm), .ref md, .ref mp])), (mx, .inl (cI, 500, .inl tx)), (mt, .inl (cI, 900, .inl td)), (md, .inl (cI, 16, .inl (upd (upd dpz (td (i + 3)).toNatClampNeg (m_less (dpz (td (i + 2)).toNatClampNeg) (td (i + 5)))) (td (i + 2)).toNatClampNeg ((upd dpz (td (i + 3)).toNatClampNeg (m_less (dpz (td (i + 2)).toNatClampNeg) (td (i + 5)))) (td (i + 2)).toNatClampNeg)))), (mp, .inl (cI, 16, .inl pr))] := hD
                            refine lv_iinc (v := (nI (i + 6))) (lv' := [(4, .int (nI (i + 6))), (8, .int (m_less ((upd dpz (td (i + 3)).toNatClampNeg (m_less (dpz (td (i + 2)).toNatClampNeg) (td (i + 5)))) (td (i + 3)).toNatClampNeg) (td (i + 5)))), (7, .int (td (i + 5))), (6, .int (td (i + 3))), (5, .int (td (i + 2))), (0, .ref mo), (1, .int 0), (2, .int p1), (3, .int (nI rd))]) hx hb dX6_goes_225 hl (k := 8) rfl (by rw [← nI_add]; rfl) (by decide) rfl (fun ls hl => ?_)
                            refine lv_goto (tgt := 42) hx hb dX6_goes_228 (by decide) ?_
                            exact ih_5 (i + 6, upd (upd dpz (td (i + 3)).toNatClampNeg (m_less (dpz (td (i + 2)).toNatClampNeg) (td (i + 5)))) (td (i + 2)).toNatClampNeg ((upd dpz (td (i + 3)).toNatClampNeg (m_less (dpz (td (i + 2)).toNatClampNeg) (td (i + 5)))) (td (i + 2)).toNatClampNeg)) _ _ _ ⟨(by first | omega | (dsimp only; omega) | (dsimp only; done)), (by first | omega | (dsimp only; omega) | (dsimp only; done)), (by first | omega | (dsimp only; omega) | (dsimp only; done)), (by (try dsimp only); rw [he3, m_round]; simp [m_along, m_up, m_pt, c_6, eq_true c_7, c_12, c_16]), hP, hD, hS, lv_sub hl [5, 6, 7, 8, 0] rfl⟩
                          · skip
                            refine lv_iload hx hb dX6_goes_212 (lv_at hl 0 rfl) ?_
                            refine lv_goto (tgt := 224) hx hb dX6_goes_214 (by decide) ?_
                            refine va_iast (i := td (i + 2)) hx hb hK hP hD hS 3 0 rfl rfl (ok_in (hr9.2.2.2.2.2.2.1 c_7).1 (by decide)) dX6_goes_224 (fun H locs hP hD hS => ?_)
                            have hP : va_P (dC, dI) vwCl [(mo, .inr (6, [.int th, .ref mx, .int (nI sn), .int fl, .int fa, .ref mt, .int (nI pn), .int (nI kp), .int (nI cm), .ref md, .ref mp])), (mx, .inl (cI, 500, .inl tx)), (mt, .inl (cI, 900, .inl td)), (md, .inl (cI, 16, .inl (upd (upd dpz (td (i + 3)).toNatClampNeg (m_less (dpz (td (i + 2)).toNatClampNeg) (td (i + 5)))) (td (i + 2)).toNatClampNeg (m_less ((upd dpz (td (i + 3)).toNatClampNeg (m_less (dpz (td (i + 2)).toNatClampNeg) (td (i + 5)))) (td (i + 3)).toNatClampNeg) (td (i + 5)))))), (mp, .inl (cI, 16, .inl pr))] H := hP
                            have hD : va_D A [(mo, .inr (6, [.int th, .ref mx, .int (nI sn), .int fl, .int fa, .ref mt, .int (nI pn), .int (nI kp), .int (nI cm), .ref md, .ref mp])), (mx, .inl (cI, 500, .inl tx)), (mt, .inl (cI, 900, .inl td)), (md, .inl (cI, 16, .inl (upd (upd dpz (td (i + 3)).toNatClampNeg (m_less (dpz (td (i + 2)).toNatClampNeg) (td (i + 5)))) (td (i + 2)).toNatClampNeg (m_less ((upd dpz (td (i + 3)).toNatClampNeg (m_less (dpz (td (i + 2)).toNatClampNeg) (td (i + 5)))) (td (i + 3)).toNatClampNeg) (td (i + 5)))))), (mp, .inl (cI, 16, .inl pr))] := hD
                            refine lv_iinc (v := (nI (i + 6))) (lv' := [(4, .int (nI (i + 6))), (8, .int (m_less ((upd dpz (td (i + 3)).toNatClampNeg (m_less (dpz (td (i + 2)).toNatClampNeg) (td (i + 5)))) (td (i + 3)).toNatClampNeg) (td (i + 5)))), (7, .int (td (i + 5))), (6, .int (td (i + 3))), (5, .int (td (i + 2))), (0, .ref mo), (1, .int 0), (2, .int p1), (3, .int (nI rd))]) hx hb dX6_goes_225 hl (k := 8) rfl (by rw [← nI_add]; rfl) (by decide) rfl (fun ls hl => ?_)
                            refine lv_goto (tgt := 42) hx hb dX6_goes_228 (by decide) ?_
                            exact ih_5 (i + 6, upd (upd dpz (td (i + 3)).toNatClampNeg (m_less (dpz (td (i + 2)).toNatClampNeg) (td (i + 5)))) (td (i + 2)).toNatClampNeg (m_less ((upd dpz (td (i + 3)).toNatClampNeg (m_less (dpz (td (i + 2)).toNatClampNeg) (td (i + 5)))) (td (i + 3)).toNatClampNeg) (td (i + 5)))) _ _ _ ⟨(by first | omega | (dsimp only; omega) | (dsimp only; done)), (by first | omega | (dsimp only; omega) | (dsimp only; done)), (by first | omega | (dsimp only; omega) | (dsimp only; done)), (by (try dsimp only); rw [he3, m_round]; simp [m_along, m_up, m_pt, c_6, eq_true c_7, c_12, c_16]), hP, hD, hS, lv_sub hl [5, 6, 7, 8, 0] rfl⟩
            · exact absurd hI.1 (Nat.not_lt_zero _)
        · exact absurd hI.1 (Nat.not_lt_zero _)
      · skip
        have c_2 := na_nle (a := 16) (b := k) c_2 (by omega) (by omega)
        refine lv_aload_n hx hb dX6_goes_8 rfl (lv_at hl 0 rfl) ?_
        refine va_get (D := (dC, dI)) (ci := 6) (v := .ref md) (C := RX6) (T := TX6) (N := 11) hx hb hg in_X6 hown hK hP 0 rfl rfl 9 (by decide) (hg _ w_512) (fun _ h9 => h9) rfl dX6_goes_9 ?_
        refine lv_iload_n hx hb dX6_goes_12 rfl (lv_at hl 3 rfl) ?_
        refine lv_iload_n hx hb dX6_goes_13 rfl (lv_at hl 3 rfl) ?_
        refine lv_iload_n hx hb dX6_goes_14 rfl (lv_at hl 2 rfl) ?_
        refine lv_icmp_ne (tgt := 23) hx hb dX6_goes_15 (by decide) (fun c_17 => ?_) (fun c_17 => ?_)
        · skip
          refine lv_iconst (v := 0) hx hb dX6_goes_23 (by decide) ?_
          refine x_iast (k := k) hx hb hK hP hD hS 3 0 rfl rfl (by omega) (by decide) dX6_goes_24 (fun H locs hP hD hS => ?_)
          have hP : va_P (dC, dI) vwCl [(mo, .inr (6, [.int th, .ref mx, .int (nI sn), .int fl, .int fa, .ref mt, .int (nI pn), .int (nI kp), .int (nI cm), .ref md, .ref mp])), (mx, .inl (cI, 500, .inl tx)), (mt, .inl (cI, 900, .inl td)), (md, .inl (cI, 16, .inl (upd dpx k 0))), (mp, .inl (cI, 16, .inl pr))] H := hP
          have hD : va_D A [(mo, .inr (6, [.int th, .ref mx, .int (nI sn), .int fl, .int fa, .ref mt, .int (nI pn), .int (nI kp), .int (nI cm), .ref md, .ref mp])), (mx, .inl (cI, 500, .inl tx)), (mt, .inl (cI, 900, .inl td)), (md, .inl (cI, 16, .inl (upd dpx k 0))), (mp, .inl (cI, 16, .inl pr))] := hD
          refine lv_iinc (v := (nI (k + 1))) (lv' := [(3, .int (nI (k + 1))), (0, .ref mo), (1, .int 0), (2, .int p1)]) hx hb dX6_goes_25 hl (k := 3) rfl (by rw [← nI_add]; rfl) (by decide) rfl (fun ls hl => ?_)
          refine lv_goto (tgt := 2) hx hb dX6_goes_28 (by decide) ?_
          exact ih_1 (k + 1, upd dpx k 0) _ _ _ ⟨(by first | omega | (dsimp only; omega) | (dsimp only; done)), (by first | omega | (dsimp only; omega) | (dsimp only; done)), (by (try dsimp only); rw [he, k_init]; simp [c_2, c_17]), hP, hD, hS, lv_sub hl [1, 2, 3, 0] rfl⟩
        · skip
          refine lv_bipush (v := 99) hx hb dX6_goes_18 (by decide) ?_
          refine lv_goto (tgt := 24) hx hb dX6_goes_20 (by decide) ?_
          refine x_iast (k := k) hx hb hK hP hD hS 3 0 rfl rfl (by omega) (by decide) dX6_goes_24 (fun H locs hP hD hS => ?_)
          have hP : va_P (dC, dI) vwCl [(mo, .inr (6, [.int th, .ref mx, .int (nI sn), .int fl, .int fa, .ref mt, .int (nI pn), .int (nI kp), .int (nI cm), .ref md, .ref mp])), (mx, .inl (cI, 500, .inl tx)), (mt, .inl (cI, 900, .inl td)), (md, .inl (cI, 16, .inl (upd dpx k 99))), (mp, .inl (cI, 16, .inl pr))] H := hP
          have hD : va_D A [(mo, .inr (6, [.int th, .ref mx, .int (nI sn), .int fl, .int fa, .ref mt, .int (nI pn), .int (nI kp), .int (nI cm), .ref md, .ref mp])), (mx, .inl (cI, 500, .inl tx)), (mt, .inl (cI, 900, .inl td)), (md, .inl (cI, 16, .inl (upd dpx k 99))), (mp, .inl (cI, 16, .inl pr))] := hD
          refine lv_iinc (v := (nI (k + 1))) (lv' := [(3, .int (nI (k + 1))), (0, .ref mo), (1, .int 0), (2, .int p1)]) hx hb dX6_goes_25 hl (k := 3) rfl (by rw [← nI_add]; rfl) (by decide) rfl (fun ls hl => ?_)
          refine lv_goto (tgt := 2) hx hb dX6_goes_28 (by decide) ?_
          exact ih_1 (k + 1, upd dpx k 99) _ _ _ ⟨(by first | omega | (dsimp only; omega) | (dsimp only; done)), (by first | omega | (dsimp only; omega) | (dsimp only; done)), (by (try dsimp only); rw [he, k_init]; simp [c_2, eq_true c_17]), hP, hD, hS, lv_sub hl [1, 2, 3, 0] rfl⟩
    · exact absurd hI.1 (Nat.not_lt_zero _)
  · skip
    have hl : lv_has ls 9 [(0, .ref mo), (1, .int 1), (2, .int p1)] := hl
    refine lv_iconst (v := 0) hx hb dX6_goes_0 (by decide) ?_
    refine lv_istore_n (lv' := [(3, .int 0), (0, .ref mo), (1, .int 1), (2, .int p1)]) hx hb dX6_goes_1 rfl hl (by decide) rfl (fun ls hl => ?_)
    refine loop_M (σ := Nat × (Nat → Int32)) (fun n x H locs ls => 16 - x.1 < n ∧ x.1 ≤ 16 ∧ m_goes td pn 1 p1 dp = m_rounds td pn 1 0 (k_init p1 x.1 x.2) ∧ va_P (dC, dI) vwCl [(mo, .inr (6, [.int th, .ref mx, .int (nI sn), .int fl, .int fa, .ref mt, .int (nI pn), .int (nI kp), .int (nI cm), .ref md, .ref mp])), (mx, .inl (cI, 500, .inl tx)), (mt, .inl (cI, 900, .inl td)), (md, .inl (cI, 16, .inl x.2)), (mp, .inl (cI, 16, .inl pr))] H ∧ va_D A [(mo, .inr (6, [.int th, .ref mx, .int (nI sn), .int fl, .int fa, .ref mt, .int (nI pn), .int (nI kp), .int (nI cm), .ref md, .ref mp])), (mx, .inl (cI, 500, .inl tx)), (mt, .inl (cI, 900, .inl td)), (md, .inl (cI, 16, .inl x.2)), (mp, .inl (cI, 16, .inl pr))] ∧ va_S A s.heap H locs ∧ lv_has ls 9 [(0, .ref mo), (1, .int 1), (2, .int p1), (3, .int (nI x.1))]) (fun n x H locs ls ih_18 hI => ?_) (fun x H locs ls hI => ?_) (n := (16 - 0) + 1) (x := (0, dp)) ⟨(Nat.lt_succ_self _), (by first | omega | (dsimp only; omega) | (dsimp only; done)), rfl, hP, hD, hS, lv_sub hl [1, 2, 3, 0] rfl⟩
    · skip
      obtain ⟨k, dpx⟩ := x
      obtain ⟨hfu, hk0, he, hP, hD, hS, hl⟩ := hI
      have hfu : 16 - k < n + 1 := hfu
      have hk0 : k ≤ 16 := hk0
      have he : m_goes td pn 1 p1 dp = m_rounds td pn 1 0 (k_init p1 k dpx) := he
      have hP : va_P (dC, dI) vwCl [(mo, .inr (6, [.int th, .ref mx, .int (nI sn), .int fl, .int fa, .ref mt, .int (nI pn), .int (nI kp), .int (nI cm), .ref md, .ref mp])), (mx, .inl (cI, 500, .inl tx)), (mt, .inl (cI, 900, .inl td)), (md, .inl (cI, 16, .inl dpx)), (mp, .inl (cI, 16, .inl pr))] H := hP
      have hD : va_D A [(mo, .inr (6, [.int th, .ref mx, .int (nI sn), .int fl, .int fa, .ref mt, .int (nI pn), .int (nI kp), .int (nI cm), .ref md, .ref mp])), (mx, .inl (cI, 500, .inl tx)), (mt, .inl (cI, 900, .inl td)), (md, .inl (cI, 16, .inl dpx)), (mp, .inl (cI, 16, .inl pr))] := hD
      have hl : lv_has ls 9 [(0, .ref mo), (1, .int 1), (2, .int p1), (3, .int (nI k))] := hl
      refine lv_iload_n hx hb dX6_goes_2 rfl (lv_at hl 3 rfl) ?_
      refine lv_bipush (v := 16) hx hb dX6_goes_3 (by decide) ?_
      refine lv_icmp_ge (tgt := 31) hx hb dX6_goes_5 (by decide) (fun c_19 => ?_) (fun c_19 => ?_)
      · skip
        have c_19 := na_le (a := 16) (b := k) c_19 (by omega) (by omega)
        refine lv_iconst (v := 0) hx hb dX6_goes_31 (by decide) ?_
        refine lv_istore_n (lv' := [(3, .int 0), (0, .ref mo), (1, .int 1), (2, .int p1)]) hx hb dX6_goes_32 rfl hl (by decide) rfl (fun ls hl => ?_)
        refine loop_M (σ := Nat × (Nat → Int32)) (fun n x H locs ls => 16 - x.1 < n ∧ x.1 ≤ 16 ∧ m_goes td pn 1 p1 dp = m_rounds td pn 1 x.1 x.2 ∧ va_P (dC, dI) vwCl [(mo, .inr (6, [.int th, .ref mx, .int (nI sn), .int fl, .int fa, .ref mt, .int (nI pn), .int (nI kp), .int (nI cm), .ref md, .ref mp])), (mx, .inl (cI, 500, .inl tx)), (mt, .inl (cI, 900, .inl td)), (md, .inl (cI, 16, .inl x.2)), (mp, .inl (cI, 16, .inl pr))] H ∧ va_D A [(mo, .inr (6, [.int th, .ref mx, .int (nI sn), .int fl, .int fa, .ref mt, .int (nI pn), .int (nI kp), .int (nI cm), .ref md, .ref mp])), (mx, .inl (cI, 500, .inl tx)), (mt, .inl (cI, 900, .inl td)), (md, .inl (cI, 16, .inl x.2)), (mp, .inl (cI, 16, .inl pr))] ∧ va_S A s.heap H locs ∧ lv_has ls 9 [(0, .ref mo), (1, .int 1), (2, .int p1), (3, .int (nI x.1))]) (fun n x H locs ls ih_20 hI => ?_) (fun x H locs ls hI => ?_) (n := (16 - 0) + 1) (x := (0, dpx)) ⟨(Nat.lt_succ_self _), (by first | omega | (dsimp only; omega) | (dsimp only; done)), (by rw [he, k_init]; simp [c_19]), hP, hD, hS, lv_sub hl [1, 2, 3, 0] rfl⟩
        · skip
          obtain ⟨rd, dpy⟩ := x
          obtain ⟨hfu, hr0, he, hP, hD, hS, hl⟩ := hI
          have hfu : 16 - rd < n + 1 := hfu
          have hr0 : rd ≤ 16 := hr0
          have he : m_goes td pn 1 p1 dp = m_rounds td pn 1 rd dpy := he
          have hP : va_P (dC, dI) vwCl [(mo, .inr (6, [.int th, .ref mx, .int (nI sn), .int fl, .int fa, .ref mt, .int (nI pn), .int (nI kp), .int (nI cm), .ref md, .ref mp])), (mx, .inl (cI, 500, .inl tx)), (mt, .inl (cI, 900, .inl td)), (md, .inl (cI, 16, .inl dpy)), (mp, .inl (cI, 16, .inl pr))] H := hP
          have hD : va_D A [(mo, .inr (6, [.int th, .ref mx, .int (nI sn), .int fl, .int fa, .ref mt, .int (nI pn), .int (nI kp), .int (nI cm), .ref md, .ref mp])), (mx, .inl (cI, 500, .inl tx)), (mt, .inl (cI, 900, .inl td)), (md, .inl (cI, 16, .inl dpy)), (mp, .inl (cI, 16, .inl pr))] := hD
          have hl : lv_has ls 9 [(0, .ref mo), (1, .int 1), (2, .int p1), (3, .int (nI rd))] := hl
          refine lv_iload_n hx hb dX6_goes_33 rfl (lv_at hl 3 rfl) ?_
          refine lv_bipush (v := 16) hx hb dX6_goes_34 (by decide) ?_
          refine lv_icmp_ge (tgt := 237) hx hb dX6_goes_36 (by decide) (fun c_21 => ?_) (fun c_21 => ?_)
          · skip
            have c_21 := na_le (a := 16) (b := rd) c_21 (by omega) (by omega)
            have hP9 := hP
            have hS9 := hS
            have h9 : m_goes td pn 1 p1 dp = dpy := by rw [he, m_rounds]; simp [c_21]
            have h9 := hF.symm.trans h9
            cases h9
            exact W.vret hx hb hr (fun t ht hW => ⟨rfl, by rw [ht]; exact hP9, hS9.F ht⟩) hS9.2.2 dX6_goes_237
          · skip
            have c_21 := na_nle (a := 16) (b := rd) c_21 (by omega) (by omega)
            refine lv_iconst (v := 0) hx hb dX6_goes_39 (by decide) ?_
            refine lv_istore (lv' := [(4, .int 0), (0, .ref mo), (1, .int 1), (2, .int p1), (3, .int (nI rd))]) hx hb dX6_goes_40 hl (by decide) rfl (fun ls hl => ?_)
            refine loop_M (σ := Nat × (Nat → Int32)) (fun n x H locs ls => 6 * pn - x.1 < n ∧ x.1 ≤ 6 * pn ∧ x.1 % 6 = 0 ∧ m_goes td pn 1 p1 dp = m_rounds td pn 1 (rd + 1) (m_round td pn 1 x.1 x.2) ∧ va_P (dC, dI) vwCl [(mo, .inr (6, [.int th, .ref mx, .int (nI sn), .int fl, .int fa, .ref mt, .int (nI pn), .int (nI kp), .int (nI cm), .ref md, .ref mp])), (mx, .inl (cI, 500, .inl tx)), (mt, .inl (cI, 900, .inl td)), (md, .inl (cI, 16, .inl x.2)), (mp, .inl (cI, 16, .inl pr))] H ∧ va_D A [(mo, .inr (6, [.int th, .ref mx, .int (nI sn), .int fl, .int fa, .ref mt, .int (nI pn), .int (nI kp), .int (nI cm), .ref md, .ref mp])), (mx, .inl (cI, 500, .inl tx)), (mt, .inl (cI, 900, .inl td)), (md, .inl (cI, 16, .inl x.2)), (mp, .inl (cI, 16, .inl pr))] ∧ va_S A s.heap H locs ∧ lv_has ls 9 [(0, .ref mo), (1, .int 1), (2, .int p1), (3, .int (nI rd)), (4, .int (nI x.1))]) (fun n x H locs ls ih_22 hI => ?_) (fun x H locs ls hI => ?_) (n := (6 * pn - 0) + 1) (x := (0, dpy)) ⟨(Nat.lt_succ_self _), (by first | omega | (dsimp only; omega) | (dsimp only; done)), (by first | omega | (dsimp only; omega) | (dsimp only; done)), (by rw [he, m_rounds]; simp [c_21]), hP, hD, hS, lv_sub hl [1, 2, 3, 4, 0] rfl⟩
            · skip
              obtain ⟨i, dpz⟩ := x
              obtain ⟨hfu, hi0, hi6, he3, hP, hD, hS, hl⟩ := hI
              have hfu : 6 * pn - i < n + 1 := hfu
              have hi0 : i ≤ 6 * pn := hi0
              have hi6 : i % 6 = 0 := hi6
              have he3 : m_goes td pn 1 p1 dp = m_rounds td pn 1 (rd + 1) (m_round td pn 1 i dpz) := he3
              have hP : va_P (dC, dI) vwCl [(mo, .inr (6, [.int th, .ref mx, .int (nI sn), .int fl, .int fa, .ref mt, .int (nI pn), .int (nI kp), .int (nI cm), .ref md, .ref mp])), (mx, .inl (cI, 500, .inl tx)), (mt, .inl (cI, 900, .inl td)), (md, .inl (cI, 16, .inl dpz)), (mp, .inl (cI, 16, .inl pr))] H := hP
              have hD : va_D A [(mo, .inr (6, [.int th, .ref mx, .int (nI sn), .int fl, .int fa, .ref mt, .int (nI pn), .int (nI kp), .int (nI cm), .ref md, .ref mp])), (mx, .inl (cI, 500, .inl tx)), (mt, .inl (cI, 900, .inl td)), (md, .inl (cI, 16, .inl dpz)), (mp, .inl (cI, 16, .inl pr))] := hD
              have hl : lv_has ls 9 [(0, .ref mo), (1, .int 1), (2, .int p1), (3, .int (nI rd)), (4, .int (nI i))] := hl
              refine lv_iload hx hb dX6_goes_42 (lv_at hl 4 rfl) ?_
              refine lv_bipush (v := 6) hx hb dX6_goes_44 (by decide) ?_
              refine lv_aload_n hx hb dX6_goes_46 rfl (lv_at hl 0 rfl) ?_
              refine va_get (D := (dC, dI)) (ci := 6) (v := .int (nI pn)) (C := RX6) (T := TX6) (N := 11) hx hb hg in_X6 hown hK hP 0 rfl rfl 6 (by decide) (hg _ w_509) (fun _ h9 => h9) rfl dX6_goes_47 ?_
              refine lv_imul hx hb dX6_goes_50 ?_
              refine top_eq (y := (nI (6 * pn))) (by exact pk_mul _ _) ?_
              refine lv_icmp_ge (tgt := 231) hx hb dX6_goes_51 (by decide) (fun c_23 => ?_) (fun c_23 => ?_)
              · skip
                have c_23 := na_le (a := 6 * pn) (b := i) c_23 (by omega) (by omega)
                refine lv_iinc (v := (nI (rd + 1))) (lv' := [(3, .int (nI (rd + 1))), (0, .ref mo), (1, .int 1), (2, .int p1), (4, .int (nI i))]) hx hb dX6_goes_231 hl (k := 3) rfl (by rw [← nI_add]; rfl) (by decide) rfl (fun ls hl => ?_)
                refine lv_goto (tgt := 33) hx hb dX6_goes_234 (by decide) ?_
                exact ih_20 (rd + 1, dpz) _ _ _ ⟨(by first | omega | (dsimp only; omega) | (dsimp only; done)), (by first | omega | (dsimp only; omega) | (dsimp only; done)), (by (try dsimp only); rw [he3, m_round]; simp [c_23]), hP, hD, hS, lv_sub hl [1, 2, 3, 0] rfl⟩
              · skip
                have c_23 := na_nle (a := 6 * pn) (b := i) c_23 (by omega) (by omega)
                have hr9 := ok_at hok hi6 c_23
                refine lv_aload_n hx hb dX6_goes_54 rfl (lv_at hl 0 rfl) ?_
                refine va_get (D := (dC, dI)) (ci := 6) (v := .ref mt) (C := RX6) (T := TX6) (N := 11) hx hb hg in_X6 hown hK hP 0 rfl rfl 5 (by decide) (hg _ w_508) (fun _ h9 => h9) rfl dX6_goes_55 ?_
                refine lv_iload hx hb dX6_goes_58 (lv_at hl 4 rfl) ?_
                refine lv_iconst (v := 2) hx hb dX6_goes_60 (by decide) ?_
                refine lv_iadd hx hb dX6_goes_61 ?_
                refine top_eq (y := (nI (i + 2))) (by exact nI_add _ _) ?_
                refine x_iald (k := i + 2) hx hb hK hP 2 0 rfl rfl (by omega) (by decide) dX6_goes_62 ?_
                refine lv_istore (lv' := [(5, .int (td (i + 2))), (0, .ref mo), (1, .int 1), (2, .int p1), (3, .int (nI rd)), (4, .int (nI i))]) hx hb dX6_goes_63 hl (by decide) rfl (fun ls hl => ?_)
                refine lv_aload_n hx hb dX6_goes_65 rfl (lv_at hl 1 rfl) ?_
                refine va_get (D := (dC, dI)) (ci := 6) (v := .ref mt) (C := RX6) (T := TX6) (N := 11) hx hb hg in_X6 hown hK hP 0 rfl rfl 5 (by decide) (hg _ w_508) (fun _ h9 => h9) rfl dX6_goes_66 ?_
                refine lv_iload hx hb dX6_goes_69 (lv_at hl 5 rfl) ?_
                refine lv_iconst (v := 3) hx hb dX6_goes_71 (by decide) ?_
                refine lv_iadd hx hb dX6_goes_72 ?_
                refine top_eq (y := (nI (i + 3))) (by exact nI_add _ _) ?_
                refine x_iald (k := i + 3) hx hb hK hP 2 0 rfl rfl (by omega) (by decide) dX6_goes_73 ?_
                refine lv_istore (lv' := [(6, .int (td (i + 3))), (5, .int (td (i + 2))), (0, .ref mo), (1, .int 1), (2, .int p1), (3, .int (nI rd)), (4, .int (nI i))]) hx hb dX6_goes_74 hl (by decide) rfl (fun ls hl => ?_)
                refine lv_aload_n hx hb dX6_goes_76 rfl (lv_at hl 2 rfl) ?_
                refine va_get (D := (dC, dI)) (ci := 6) (v := .ref mt) (C := RX6) (T := TX6) (N := 11) hx hb hg in_X6 hown hK hP 0 rfl rfl 5 (by decide) (hg _ w_508) (fun _ h9 => h9) rfl dX6_goes_77 ?_
                refine lv_iload hx hb dX6_goes_80 (lv_at hl 6 rfl) ?_
                refine x_iald (k := i) hx hb hK hP 2 0 rfl rfl (by omega) (by decide) dX6_goes_82 ?_
                refine lv_if_ne (tgt := 98) hx hb dX6_goes_83 (by decide) (fun c_24 => ?_) (fun c_24 => ?_)
                · skip
                  refine lv_bipush (v := 99) hx hb dX6_goes_98 (by decide) ?_
                  refine lv_istore (lv' := [(7, .int 99), (6, .int (td (i + 3))), (5, .int (td (i + 2))), (0, .ref mo), (1, .int 1), (2, .int p1), (3, .int (nI rd)), (4, .int (nI i))]) hx hb dX6_goes_100 hl (by decide) rfl (fun ls hl => ?_)
                  refine lv_aload_n hx hb dX6_goes_102 rfl (lv_at hl 3 rfl) ?_
                  refine va_get (D := (dC, dI)) (ci := 6) (v := .ref mt) (C := RX6) (T := TX6) (N := 11) hx hb hg in_X6 hown hK hP 0 rfl rfl 5 (by decide) (hg _ w_508) (fun _ h9 => h9) rfl dX6_goes_103 ?_
                  refine lv_iload hx hb dX6_goes_106 (lv_at hl 7 rfl) ?_
                  refine x_iald (k := i) hx hb hK hP 2 0 rfl rfl (by omega) (by decide) dX6_goes_108 ?_
                  refine lv_iload_n hx hb dX6_goes_109 rfl (lv_at hl 4 rfl) ?_
                  refine lv_if_ne (tgt := 117) hx hb dX6_goes_110 (by decide) (fun c_25 => ?_) (fun c_25 => ?_)
                  · skip
                    refine lv_iconst (v := 4) hx hb dX6_goes_117 (by decide) ?_
                    refine lv_icmp_ne (tgt := 225) hx hb dX6_goes_118 (by decide) (fun c_26 => ?_) (fun c_26 => ?_)
                    · skip
                      refine lv_iinc (v := (nI (i + 6))) (lv' := [(4, .int (nI (i + 6))), (7, .int 99), (6, .int (td (i + 3))), (5, .int (td (i + 2))), (0, .ref mo), (1, .int 1), (2, .int p1), (3, .int (nI rd))]) hx hb dX6_goes_225 hl (k := 7) rfl (by rw [← nI_add]; rfl) (by decide) rfl (fun ls hl => ?_)
                      refine lv_goto (tgt := 42) hx hb dX6_goes_228 (by decide) ?_
                      exact ih_22 (i + 6, dpz) _ _ _ ⟨(by first | omega | (dsimp only; omega) | (dsimp only; done)), (by first | omega | (dsimp only; omega) | (dsimp only; done)), (by first | omega | (dsimp only; omega) | (dsimp only; done)), (by (try dsimp only); rw [he3, m_round]; simp [m_along, m_up, m_pt, c_23, c_24, c_26]), hP, hD, hS, lv_sub hl [4, 5, 6, 7, 0] rfl⟩
                    · skip
                      refine lv_aload_n hx hb dX6_goes_121 rfl (lv_at hl 3 rfl) ?_
                      refine va_get (D := (dC, dI)) (ci := 6) (v := .ref md) (C := RX6) (T := TX6) (N := 11) hx hb hg in_X6 hown hK hP 0 rfl rfl 9 (by decide) (hg _ w_512) (fun _ h9 => h9) rfl dX6_goes_122 ?_
                      refine lv_iload hx hb dX6_goes_125 (lv_at hl 1 rfl) ?_
                      refine lv_aload_n hx hb dX6_goes_127 rfl (lv_at hl 3 rfl) ?_
                      refine va_get (D := (dC, dI)) (ci := 6) (v := .ref md) (C := RX6) (T := TX6) (N := 11) hx hb hg in_X6 hown hK hP 0 rfl rfl 9 (by decide) (hg _ w_512) (fun _ h9 => h9) rfl dX6_goes_128 ?_
                      refine lv_iload hx hb dX6_goes_131 (lv_at hl 2 rfl) ?_
                      refine va_iald (i := td (i + 2)) hx hb hK hP 3 0 rfl rfl (ok_in (hr9.2.2.2.2.2.2.2.1 c_26).1 (by decide)) dX6_goes_133 ?_
                      refine lv_iload hx hb dX6_goes_134 (lv_at hl 0 rfl) ?_
                      refine go_R (r := m_less (dpz (td (i + 2)).toNatClampNeg) 99) (va_runS (As := [.int (dpz (td (i + 2)).toNatClampNeg), .int 99]) (rest := [.int (td (i + 3)), .ref md]) ⟨hx, hb, hml, hown, hg⟩ (kX6_less l dC dI B cI cC cJ (dpz (td (i + 2)).toNatClampNeg) 99) (va_cwS 2 hg (gi_S w_616 w_617 w_8 w_618) rfl rfl rfl (by decide +kernel) ⟨Nat.le_of_ble_eq_true rfl, Nat.le_of_ble_eq_true rfl⟩) (pre_RS (hP.sub [] rfl) hK (hT.kept (hS.mono hAB))) rfl rfl hl.1 rfl (lv_room (Nat.le_of_ble_eq_true rfl)) dX6_goes_136 ⟨Nat.le_of_ble_eq_true rfl, Nat.le_of_ble_eq_true rfl⟩) ?_
                      refine lv_aload_n hx hb dX6_goes_139 rfl (lv_at hl 3 rfl) ?_
                      refine va_get (D := (dC, dI)) (ci := 6) (v := .ref md) (C := RX6) (T := TX6) (N := 11) hx hb hg in_X6 hown hK hP 0 rfl rfl 9 (by decide) (hg _ w_512) (fun _ h9 => h9) rfl dX6_goes_140 ?_
                      refine lv_iload hx hb dX6_goes_143 (lv_at hl 1 rfl) ?_
                      refine va_iald (i := td (i + 3)) hx hb hK hP 3 0 rfl rfl (ok_in (hr9.2.2.2.2.2.2.2.1 c_26).2 (by decide)) dX6_goes_145 ?_
                      refine lv_icmp_le (tgt := 164) hx hb dX6_goes_146 (by decide) (fun c_27 => ?_) (fun c_27 => ?_)
                      · skip
                        refine lv_aload_n hx hb dX6_goes_164 rfl (lv_at hl 3 rfl) ?_
                        refine va_get (D := (dC, dI)) (ci := 6) (v := .ref md) (C := RX6) (T := TX6) (N := 11) hx hb hg in_X6 hown hK hP 0 rfl rfl 9 (by decide) (hg _ w_512) (fun _ h9 => h9) rfl dX6_goes_165 ?_
                        refine lv_iload hx hb dX6_goes_168 (lv_at hl 1 rfl) ?_
                        refine va_iald (i := td (i + 3)) hx hb hK hP 3 0 rfl rfl (ok_in (hr9.2.2.2.2.2.2.2.1 c_26).2 (by decide)) dX6_goes_170 ?_
                        refine va_iast (i := td (i + 3)) hx hb hK hP hD hS 3 0 rfl rfl (ok_in (hr9.2.2.2.2.2.2.2.1 c_26).2 (by decide)) dX6_goes_171 (fun H locs hP hD hS => ?_)
                        have hP : va_P (dC, dI) vwCl [(mo, .inr (6, [.int th, .ref mx, .int (nI sn), .int fl, .int fa, .ref mt, .int (nI pn), .int (nI kp), .int (nI cm), .ref md, .ref mp])), (mx, .inl (cI, 500, .inl tx)), (mt, .inl (cI, 900, .inl td)), (md, .inl (cI, 16, .inl (upd dpz (td (i + 3)).toNatClampNeg (dpz (td (i + 3)).toNatClampNeg)))), (mp, .inl (cI, 16, .inl pr))] H := hP
                        have hD : va_D A [(mo, .inr (6, [.int th, .ref mx, .int (nI sn), .int fl, .int fa, .ref mt, .int (nI pn), .int (nI kp), .int (nI cm), .ref md, .ref mp])), (mx, .inl (cI, 500, .inl tx)), (mt, .inl (cI, 900, .inl td)), (md, .inl (cI, 16, .inl (upd dpz (td (i + 3)).toNatClampNeg (dpz (td (i + 3)).toNatClampNeg)))), (mp, .inl (cI, 16, .inl pr))] := hD
                        refine lv_iload_n hx hb dX6_goes_172 rfl (lv_at hl 4 rfl) ?_
                        refine lv_if_ne (tgt := 191) hx hb dX6_goes_173 (by decide) (fun c_28 => ?_) (fun c_28 => ?_)
                        · skip
                          refine lv_iconst (v := 0) hx hb dX6_goes_191 (by decide) ?_
                          refine lv_istore (lv' := [(8, .int 0), (7, .int 99), (6, .int (td (i + 3))), (5, .int (td (i + 2))), (0, .ref mo), (1, .int 1), (2, .int p1), (3, .int (nI rd)), (4, .int (nI i))]) hx hb dX6_goes_192 hl (by decide) rfl (fun ls hl => ?_)
                          refine lv_aload_n hx hb dX6_goes_194 rfl (lv_at hl 4 rfl) ?_
                          refine va_get (D := (dC, dI)) (ci := 6) (v := .ref md) (C := RX6) (T := TX6) (N := 11) hx hb hg in_X6 hown hK hP 0 rfl rfl 9 (by decide) (hg _ w_512) (fun _ h9 => h9) rfl dX6_goes_195 ?_
                          refine lv_iload hx hb dX6_goes_198 (lv_at hl 3 rfl) ?_
                          refine lv_iload hx hb dX6_goes_200 (lv_at hl 0 rfl) ?_
                          refine lv_aload_n hx hb dX6_goes_202 rfl (lv_at hl 4 rfl) ?_
                          refine va_get (D := (dC, dI)) (ci := 6) (v := .ref md) (C := RX6) (T := TX6) (N := 11) hx hb hg in_X6 hown hK hP 0 rfl rfl 9 (by decide) (hg _ w_512) (fun _ h9 => h9) rfl dX6_goes_203 ?_
                          refine lv_iload hx hb dX6_goes_206 (lv_at hl 3 rfl) ?_
                          refine va_iald (i := td (i + 2)) hx hb hK hP 3 0 rfl rfl (ok_in (hr9.2.2.2.2.2.2.2.1 c_26).1 (by decide)) dX6_goes_208 ?_
                          refine lv_icmp_le (tgt := 217) hx hb dX6_goes_209 (by decide) (fun c_29 => ?_) (fun c_29 => ?_)
                          · skip
                            refine lv_aload_n hx hb dX6_goes_217 rfl (lv_at hl 4 rfl) ?_
                            refine va_get (D := (dC, dI)) (ci := 6) (v := .ref md) (C := RX6) (T := TX6) (N := 11) hx hb hg in_X6 hown hK hP 0 rfl rfl 9 (by decide) (hg _ w_512) (fun _ h9 => h9) rfl dX6_goes_218 ?_
                            refine lv_iload hx hb dX6_goes_221 (lv_at hl 3 rfl) ?_
                            refine va_iald (i := td (i + 2)) hx hb hK hP 3 0 rfl rfl (ok_in (hr9.2.2.2.2.2.2.2.1 c_26).1 (by decide)) dX6_goes_223 ?_
                            refine va_iast (i := td (i + 2)) hx hb hK hP hD hS 3 0 rfl rfl (ok_in (hr9.2.2.2.2.2.2.2.1 c_26).1 (by decide)) dX6_goes_224 (fun H locs hP hD hS => ?_)
                            have hP : va_P (dC, dI) vwCl [(mo, .inr (6, [.int th, .ref mx, .int (nI sn), .int fl, .int fa, .ref mt, .int (nI pn), .int (nI kp), .int (nI cm), .ref md, .ref mp])), (mx, .inl (cI, 500, .inl tx)), (mt, .inl (cI, 900, .inl td)), (md, .inl (cI, 16, .inl (upd (upd dpz (td (i + 3)).toNatClampNeg (dpz (td (i + 3)).toNatClampNeg)) (td (i + 2)).toNatClampNeg ((upd dpz (td (i + 3)).toNatClampNeg (dpz (td (i + 3)).toNatClampNeg)) (td (i + 2)).toNatClampNeg)))), (mp, .inl (cI, 16, .inl pr))] H := hP
                            have hD : va_D A [(mo, .inr (6, [.int th, .ref mx, .int (nI sn), .int fl, .int fa, .ref mt, .int (nI pn), .int (nI kp), .int (nI cm), .ref md, .ref mp])), (mx, .inl (cI, 500, .inl tx)), (mt, .inl (cI, 900, .inl td)), (md, .inl (cI, 16, .inl (upd (upd dpz (td (i + 3)).toNatClampNeg (dpz (td (i + 3)).toNatClampNeg)) (td (i + 2)).toNatClampNeg ((upd dpz (td (i + 3)).toNatClampNeg (dpz (td (i + 3)).toNatClampNeg)) (td (i + 2)).toNatClampNeg)))), (mp, .inl (cI, 16, .inl pr))] := hD
                            refine lv_iinc (v := (nI (i + 6))) (lv' := [(4, .int (nI (i + 6))), (8, .int 0), (7, .int 99), (6, .int (td (i + 3))), (5, .int (td (i + 2))), (0, .ref mo), (1, .int 1), (2, .int p1), (3, .int (nI rd))]) hx hb dX6_goes_225 hl (k := 8) rfl (by rw [← nI_add]; rfl) (by decide) rfl (fun ls hl => ?_)
                            refine lv_goto (tgt := 42) hx hb dX6_goes_228 (by decide) ?_
                            exact ih_22 (i + 6, upd (upd dpz (td (i + 3)).toNatClampNeg (dpz (td (i + 3)).toNatClampNeg)) (td (i + 2)).toNatClampNeg ((upd dpz (td (i + 3)).toNatClampNeg (dpz (td (i + 3)).toNatClampNeg)) (td (i + 2)).toNatClampNeg)) _ _ _ ⟨(by first | omega | (dsimp only; omega) | (dsimp only; done)), (by first | omega | (dsimp only; omega) | (dsimp only; done)), (by first | omega | (dsimp only; omega) | (dsimp only; done)), (by (try dsimp only); rw [he3, m_round]; simp [m_along, m_up, m_pt, c_23, c_24, eq_true c_26, c_27, c_29]), hP, hD, hS, lv_sub hl [5, 6, 7, 8, 0] rfl⟩
                          · skip
                            refine lv_iload hx hb dX6_goes_212 (lv_at hl 0 rfl) ?_
                            refine lv_goto (tgt := 224) hx hb dX6_goes_214 (by decide) ?_
                            refine va_iast (i := td (i + 2)) hx hb hK hP hD hS 3 0 rfl rfl (ok_in (hr9.2.2.2.2.2.2.2.1 c_26).1 (by decide)) dX6_goes_224 (fun H locs hP hD hS => ?_)
                            have hP : va_P (dC, dI) vwCl [(mo, .inr (6, [.int th, .ref mx, .int (nI sn), .int fl, .int fa, .ref mt, .int (nI pn), .int (nI kp), .int (nI cm), .ref md, .ref mp])), (mx, .inl (cI, 500, .inl tx)), (mt, .inl (cI, 900, .inl td)), (md, .inl (cI, 16, .inl (upd (upd dpz (td (i + 3)).toNatClampNeg (dpz (td (i + 3)).toNatClampNeg)) (td (i + 2)).toNatClampNeg 0))), (mp, .inl (cI, 16, .inl pr))] H := hP
                            have hD : va_D A [(mo, .inr (6, [.int th, .ref mx, .int (nI sn), .int fl, .int fa, .ref mt, .int (nI pn), .int (nI kp), .int (nI cm), .ref md, .ref mp])), (mx, .inl (cI, 500, .inl tx)), (mt, .inl (cI, 900, .inl td)), (md, .inl (cI, 16, .inl (upd (upd dpz (td (i + 3)).toNatClampNeg (dpz (td (i + 3)).toNatClampNeg)) (td (i + 2)).toNatClampNeg 0))), (mp, .inl (cI, 16, .inl pr))] := hD
                            refine lv_iinc (v := (nI (i + 6))) (lv' := [(4, .int (nI (i + 6))), (8, .int 0), (7, .int 99), (6, .int (td (i + 3))), (5, .int (td (i + 2))), (0, .ref mo), (1, .int 1), (2, .int p1), (3, .int (nI rd))]) hx hb dX6_goes_225 hl (k := 8) rfl (by rw [← nI_add]; rfl) (by decide) rfl (fun ls hl => ?_)
                            refine lv_goto (tgt := 42) hx hb dX6_goes_228 (by decide) ?_
                            exact ih_22 (i + 6, upd (upd dpz (td (i + 3)).toNatClampNeg (dpz (td (i + 3)).toNatClampNeg)) (td (i + 2)).toNatClampNeg 0) _ _ _ ⟨(by first | omega | (dsimp only; omega) | (dsimp only; done)), (by first | omega | (dsimp only; omega) | (dsimp only; done)), (by first | omega | (dsimp only; omega) | (dsimp only; done)), (by (try dsimp only); rw [he3, m_round]; simp [m_along, m_up, m_pt, c_23, c_24, eq_true c_26, c_27, c_29]), hP, hD, hS, lv_sub hl [5, 6, 7, 8, 0] rfl⟩
                        · skip
                          exact absurd c_28 (by decide)
                      · skip
                        refine lv_aload_n hx hb dX6_goes_149 rfl (lv_at hl 3 rfl) ?_
                        refine va_get (D := (dC, dI)) (ci := 6) (v := .ref md) (C := RX6) (T := TX6) (N := 11) hx hb hg in_X6 hown hK hP 0 rfl rfl 9 (by decide) (hg _ w_512) (fun _ h9 => h9) rfl dX6_goes_150 ?_
                        refine lv_iload hx hb dX6_goes_153 (lv_at hl 2 rfl) ?_
                        refine va_iald (i := td (i + 2)) hx hb hK hP 3 0 rfl rfl (ok_in (hr9.2.2.2.2.2.2.2.1 c_26).1 (by decide)) dX6_goes_155 ?_
                        refine lv_iload hx hb dX6_goes_156 (lv_at hl 0 rfl) ?_
                        refine go_R (r := m_less (dpz (td (i + 2)).toNatClampNeg) 99) (va_runS (As := [.int (dpz (td (i + 2)).toNatClampNeg), .int 99]) (rest := [.int (td (i + 3)), .ref md]) ⟨hx, hb, hml, hown, hg⟩ (kX6_less l dC dI B cI cC cJ (dpz (td (i + 2)).toNatClampNeg) 99) (va_cwS 2 hg (gi_S w_616 w_617 w_8 w_618) rfl rfl rfl (by decide +kernel) ⟨Nat.le_of_ble_eq_true rfl, Nat.le_of_ble_eq_true rfl⟩) (pre_RS (hP.sub [] rfl) hK (hT.kept (hS.mono hAB))) rfl rfl hl.1 rfl (lv_room (Nat.le_of_ble_eq_true rfl)) dX6_goes_158 ⟨Nat.le_of_ble_eq_true rfl, Nat.le_of_ble_eq_true rfl⟩) ?_
                        refine lv_goto (tgt := 171) hx hb dX6_goes_161 (by decide) ?_
                        refine va_iast (i := td (i + 3)) hx hb hK hP hD hS 3 0 rfl rfl (ok_in (hr9.2.2.2.2.2.2.2.1 c_26).2 (by decide)) dX6_goes_171 (fun H locs hP hD hS => ?_)
                        have hP : va_P (dC, dI) vwCl [(mo, .inr (6, [.int th, .ref mx, .int (nI sn), .int fl, .int fa, .ref mt, .int (nI pn), .int (nI kp), .int (nI cm), .ref md, .ref mp])), (mx, .inl (cI, 500, .inl tx)), (mt, .inl (cI, 900, .inl td)), (md, .inl (cI, 16, .inl (upd dpz (td (i + 3)).toNatClampNeg (m_less (dpz (td (i + 2)).toNatClampNeg) 99)))), (mp, .inl (cI, 16, .inl pr))] H := hP
                        have hD : va_D A [(mo, .inr (6, [.int th, .ref mx, .int (nI sn), .int fl, .int fa, .ref mt, .int (nI pn), .int (nI kp), .int (nI cm), .ref md, .ref mp])), (mx, .inl (cI, 500, .inl tx)), (mt, .inl (cI, 900, .inl td)), (md, .inl (cI, 16, .inl (upd dpz (td (i + 3)).toNatClampNeg (m_less (dpz (td (i + 2)).toNatClampNeg) 99)))), (mp, .inl (cI, 16, .inl pr))] := hD
                        refine lv_iload_n hx hb dX6_goes_172 rfl (lv_at hl 4 rfl) ?_
                        refine lv_if_ne (tgt := 191) hx hb dX6_goes_173 (by decide) (fun c_30 => ?_) (fun c_30 => ?_)
                        · skip
                          refine lv_iconst (v := 0) hx hb dX6_goes_191 (by decide) ?_
                          refine lv_istore (lv' := [(8, .int 0), (7, .int 99), (6, .int (td (i + 3))), (5, .int (td (i + 2))), (0, .ref mo), (1, .int 1), (2, .int p1), (3, .int (nI rd)), (4, .int (nI i))]) hx hb dX6_goes_192 hl (by decide) rfl (fun ls hl => ?_)
                          refine lv_aload_n hx hb dX6_goes_194 rfl (lv_at hl 4 rfl) ?_
                          refine va_get (D := (dC, dI)) (ci := 6) (v := .ref md) (C := RX6) (T := TX6) (N := 11) hx hb hg in_X6 hown hK hP 0 rfl rfl 9 (by decide) (hg _ w_512) (fun _ h9 => h9) rfl dX6_goes_195 ?_
                          refine lv_iload hx hb dX6_goes_198 (lv_at hl 3 rfl) ?_
                          refine lv_iload hx hb dX6_goes_200 (lv_at hl 0 rfl) ?_
                          refine lv_aload_n hx hb dX6_goes_202 rfl (lv_at hl 4 rfl) ?_
                          refine va_get (D := (dC, dI)) (ci := 6) (v := .ref md) (C := RX6) (T := TX6) (N := 11) hx hb hg in_X6 hown hK hP 0 rfl rfl 9 (by decide) (hg _ w_512) (fun _ h9 => h9) rfl dX6_goes_203 ?_
                          refine lv_iload hx hb dX6_goes_206 (lv_at hl 3 rfl) ?_
                          refine va_iald (i := td (i + 2)) hx hb hK hP 3 0 rfl rfl (ok_in (hr9.2.2.2.2.2.2.2.1 c_26).1 (by decide)) dX6_goes_208 ?_
                          refine lv_icmp_le (tgt := 217) hx hb dX6_goes_209 (by decide) (fun c_31 => ?_) (fun c_31 => ?_)
                          · skip
                            refine lv_aload_n hx hb dX6_goes_217 rfl (lv_at hl 4 rfl) ?_
                            refine va_get (D := (dC, dI)) (ci := 6) (v := .ref md) (C := RX6) (T := TX6) (N := 11) hx hb hg in_X6 hown hK hP 0 rfl rfl 9 (by decide) (hg _ w_512) (fun _ h9 => h9) rfl dX6_goes_218 ?_
                            refine lv_iload hx hb dX6_goes_221 (lv_at hl 3 rfl) ?_
                            refine va_iald (i := td (i + 2)) hx hb hK hP 3 0 rfl rfl (ok_in (hr9.2.2.2.2.2.2.2.1 c_26).1 (by decide)) dX6_goes_223 ?_
                            refine va_iast (i := td (i + 2)) hx hb hK hP hD hS 3 0 rfl rfl (ok_in (hr9.2.2.2.2.2.2.2.1 c_26).1 (by decide)) dX6_goes_224 (fun H locs hP hD hS => ?_)
                            have hP : va_P (dC, dI) vwCl [(mo, .inr (6, [.int th, .ref mx, .int (nI sn), .int fl, .int fa, .ref mt, .int (nI pn), .int (nI kp), .int (nI cm), .ref md, .ref mp])), (mx, .inl (cI, 500, .inl tx)), (mt, .inl (cI, 900, .inl td)), (md, .inl (cI, 16, .inl (upd (upd dpz (td (i + 3)).toNatClampNeg (m_less (dpz (td (i + 2)).toNatClampNeg) 99)) (td (i + 2)).toNatClampNeg ((upd dpz (td (i + 3)).toNatClampNeg (m_less (dpz (td (i + 2)).toNatClampNeg) 99)) (td (i + 2)).toNatClampNeg)))), (mp, .inl (cI, 16, .inl pr))] H := hP
                            have hD : va_D A [(mo, .inr (6, [.int th, .ref mx, .int (nI sn), .int fl, .int fa, .ref mt, .int (nI pn), .int (nI kp), .int (nI cm), .ref md, .ref mp])), (mx, .inl (cI, 500, .inl tx)), (mt, .inl (cI, 900, .inl td)), (md, .inl (cI, 16, .inl (upd (upd dpz (td (i + 3)).toNatClampNeg (m_less (dpz (td (i + 2)).toNatClampNeg) 99)) (td (i + 2)).toNatClampNeg ((upd dpz (td (i + 3)).toNatClampNeg (m_less (dpz (td (i + 2)).toNatClampNeg) 99)) (td (i + 2)).toNatClampNeg)))), (mp, .inl (cI, 16, .inl pr))] := hD
                            refine lv_iinc (v := (nI (i + 6))) (lv' := [(4, .int (nI (i + 6))), (8, .int 0), (7, .int 99), (6, .int (td (i + 3))), (5, .int (td (i + 2))), (0, .ref mo), (1, .int 1), (2, .int p1), (3, .int (nI rd))]) hx hb dX6_goes_225 hl (k := 8) rfl (by rw [← nI_add]; rfl) (by decide) rfl (fun ls hl => ?_)
                            refine lv_goto (tgt := 42) hx hb dX6_goes_228 (by decide) ?_
                            exact ih_22 (i + 6, upd (upd dpz (td (i + 3)).toNatClampNeg (m_less (dpz (td (i + 2)).toNatClampNeg) 99)) (td (i + 2)).toNatClampNeg ((upd dpz (td (i + 3)).toNatClampNeg (m_less (dpz (td (i + 2)).toNatClampNeg) 99)) (td (i + 2)).toNatClampNeg)) _ _ _ ⟨(by first | omega | (dsimp only; omega) | (dsimp only; done)), (by first | omega | (dsimp only; omega) | (dsimp only; done)), (by first | omega | (dsimp only; omega) | (dsimp only; done)), (by (try dsimp only); rw [he3, m_round]; simp [m_along, m_up, m_pt, c_23, c_24, eq_true c_26, c_27, c_31]), hP, hD, hS, lv_sub hl [5, 6, 7, 8, 0] rfl⟩
                          · skip
                            refine lv_iload hx hb dX6_goes_212 (lv_at hl 0 rfl) ?_
                            refine lv_goto (tgt := 224) hx hb dX6_goes_214 (by decide) ?_
                            refine va_iast (i := td (i + 2)) hx hb hK hP hD hS 3 0 rfl rfl (ok_in (hr9.2.2.2.2.2.2.2.1 c_26).1 (by decide)) dX6_goes_224 (fun H locs hP hD hS => ?_)
                            have hP : va_P (dC, dI) vwCl [(mo, .inr (6, [.int th, .ref mx, .int (nI sn), .int fl, .int fa, .ref mt, .int (nI pn), .int (nI kp), .int (nI cm), .ref md, .ref mp])), (mx, .inl (cI, 500, .inl tx)), (mt, .inl (cI, 900, .inl td)), (md, .inl (cI, 16, .inl (upd (upd dpz (td (i + 3)).toNatClampNeg (m_less (dpz (td (i + 2)).toNatClampNeg) 99)) (td (i + 2)).toNatClampNeg 0))), (mp, .inl (cI, 16, .inl pr))] H := hP
                            have hD : va_D A [(mo, .inr (6, [.int th, .ref mx, .int (nI sn), .int fl, .int fa, .ref mt, .int (nI pn), .int (nI kp), .int (nI cm), .ref md, .ref mp])), (mx, .inl (cI, 500, .inl tx)), (mt, .inl (cI, 900, .inl td)), (md, .inl (cI, 16, .inl (upd (upd dpz (td (i + 3)).toNatClampNeg (m_less (dpz (td (i + 2)).toNatClampNeg) 99)) (td (i + 2)).toNatClampNeg 0))), (mp, .inl (cI, 16, .inl pr))] := hD
                            refine lv_iinc (v := (nI (i + 6))) (lv' := [(4, .int (nI (i + 6))), (8, .int 0), (7, .int 99), (6, .int (td (i + 3))), (5, .int (td (i + 2))), (0, .ref mo), (1, .int 1), (2, .int p1), (3, .int (nI rd))]) hx hb dX6_goes_225 hl (k := 8) rfl (by rw [← nI_add]; rfl) (by decide) rfl (fun ls hl => ?_)
                            refine lv_goto (tgt := 42) hx hb dX6_goes_228 (by decide) ?_
                            exact ih_22 (i + 6, upd (upd dpz (td (i + 3)).toNatClampNeg (m_less (dpz (td (i + 2)).toNatClampNeg) 99)) (td (i + 2)).toNatClampNeg 0) _ _ _ ⟨(by first | omega | (dsimp only; omega) | (dsimp only; done)), (by first | omega | (dsimp only; omega) | (dsimp only; done)), (by first | omega | (dsimp only; omega) | (dsimp only; done)), (by (try dsimp only); rw [he3, m_round]; simp [m_along, m_up, m_pt, c_23, c_24, eq_true c_26, c_27, c_31]), hP, hD, hS, lv_sub hl [5, 6, 7, 8, 0] rfl⟩
                        · skip
                          exact absurd c_30 (by decide)
                  · skip
                    exact absurd c_25 (by decide)
                · skip
                  refine lv_aload_n hx hb dX6_goes_86 rfl (lv_at hl 2 rfl) ?_
                  refine va_get (D := (dC, dI)) (ci := 6) (v := .ref mt) (C := RX6) (T := TX6) (N := 11) hx hb hg in_X6 hown hK hP 0 rfl rfl 5 (by decide) (hg _ w_508) (fun _ h9 => h9) rfl dX6_goes_87 ?_
                  refine lv_iload hx hb dX6_goes_90 (lv_at hl 6 rfl) ?_
                  refine lv_iconst (v := 5) hx hb dX6_goes_92 (by decide) ?_
                  refine lv_iadd hx hb dX6_goes_93 ?_
                  refine top_eq (y := (nI (i + 5))) (by exact nI_add _ _) ?_
                  refine x_iald (k := i + 5) hx hb hK hP 2 0 rfl rfl (by omega) (by decide) dX6_goes_94 ?_
                  refine lv_goto (tgt := 100) hx hb dX6_goes_95 (by decide) ?_
                  refine lv_istore (lv' := [(7, .int (td (i + 5))), (6, .int (td (i + 3))), (5, .int (td (i + 2))), (0, .ref mo), (1, .int 1), (2, .int p1), (3, .int (nI rd)), (4, .int (nI i))]) hx hb dX6_goes_100 hl (by decide) rfl (fun ls hl => ?_)
                  refine lv_aload_n hx hb dX6_goes_102 rfl (lv_at hl 3 rfl) ?_
                  refine va_get (D := (dC, dI)) (ci := 6) (v := .ref mt) (C := RX6) (T := TX6) (N := 11) hx hb hg in_X6 hown hK hP 0 rfl rfl 5 (by decide) (hg _ w_508) (fun _ h9 => h9) rfl dX6_goes_103 ?_
                  refine lv_iload hx hb dX6_goes_106 (lv_at hl 7 rfl) ?_
                  refine x_iald (k := i) hx hb hK hP 2 0 rfl rfl (by omega) (by decide) dX6_goes_108 ?_
                  refine lv_iload_n hx hb dX6_goes_109 rfl (lv_at hl 4 rfl) ?_
                  refine lv_if_ne (tgt := 117) hx hb dX6_goes_110 (by decide) (fun c_32 => ?_) (fun c_32 => ?_)
                  · skip
                    refine lv_iconst (v := 4) hx hb dX6_goes_117 (by decide) ?_
                    refine lv_icmp_ne (tgt := 225) hx hb dX6_goes_118 (by decide) (fun c_33 => ?_) (fun c_33 => ?_)
                    · skip
                      refine lv_iinc (v := (nI (i + 6))) (lv' := [(4, .int (nI (i + 6))), (7, .int (td (i + 5))), (6, .int (td (i + 3))), (5, .int (td (i + 2))), (0, .ref mo), (1, .int 1), (2, .int p1), (3, .int (nI rd))]) hx hb dX6_goes_225 hl (k := 7) rfl (by rw [← nI_add]; rfl) (by decide) rfl (fun ls hl => ?_)
                      refine lv_goto (tgt := 42) hx hb dX6_goes_228 (by decide) ?_
                      exact ih_22 (i + 6, dpz) _ _ _ ⟨(by first | omega | (dsimp only; omega) | (dsimp only; done)), (by first | omega | (dsimp only; omega) | (dsimp only; done)), (by first | omega | (dsimp only; omega) | (dsimp only; done)), (by (try dsimp only); rw [he3, m_round]; simp [m_along, m_up, m_pt, c_23, eq_true c_24, c_33]), hP, hD, hS, lv_sub hl [4, 5, 6, 7, 0] rfl⟩
                    · skip
                      exact absurd (c_24.symm.trans c_33) (by decide)
                  · skip
                    exact absurd c_32 (by decide)
            · exact absurd hI.1 (Nat.not_lt_zero _)
        · exact absurd hI.1 (Nat.not_lt_zero _)
      · skip
        have c_19 := na_nle (a := 16) (b := k) c_19 (by omega) (by omega)
        refine lv_aload_n hx hb dX6_goes_8 rfl (lv_at hl 0 rfl) ?_
        refine va_get (D := (dC, dI)) (ci := 6) (v := .ref md) (C := RX6) (T := TX6) (N := 11) hx hb hg in_X6 hown hK hP 0 rfl rfl 9 (by decide) (hg _ w_512) (fun _ h9 => h9) rfl dX6_goes_9 ?_
        refine lv_iload_n hx hb dX6_goes_12 rfl (lv_at hl 3 rfl) ?_
        refine lv_iload_n hx hb dX6_goes_13 rfl (lv_at hl 3 rfl) ?_
        refine lv_iload_n hx hb dX6_goes_14 rfl (lv_at hl 2 rfl) ?_
        refine lv_icmp_ne (tgt := 23) hx hb dX6_goes_15 (by decide) (fun c_34 => ?_) (fun c_34 => ?_)
        · skip
          refine lv_iconst (v := 0) hx hb dX6_goes_23 (by decide) ?_
          refine x_iast (k := k) hx hb hK hP hD hS 3 0 rfl rfl (by omega) (by decide) dX6_goes_24 (fun H locs hP hD hS => ?_)
          have hP : va_P (dC, dI) vwCl [(mo, .inr (6, [.int th, .ref mx, .int (nI sn), .int fl, .int fa, .ref mt, .int (nI pn), .int (nI kp), .int (nI cm), .ref md, .ref mp])), (mx, .inl (cI, 500, .inl tx)), (mt, .inl (cI, 900, .inl td)), (md, .inl (cI, 16, .inl (upd dpx k 0))), (mp, .inl (cI, 16, .inl pr))] H := hP
          have hD : va_D A [(mo, .inr (6, [.int th, .ref mx, .int (nI sn), .int fl, .int fa, .ref mt, .int (nI pn), .int (nI kp), .int (nI cm), .ref md, .ref mp])), (mx, .inl (cI, 500, .inl tx)), (mt, .inl (cI, 900, .inl td)), (md, .inl (cI, 16, .inl (upd dpx k 0))), (mp, .inl (cI, 16, .inl pr))] := hD
          refine lv_iinc (v := (nI (k + 1))) (lv' := [(3, .int (nI (k + 1))), (0, .ref mo), (1, .int 1), (2, .int p1)]) hx hb dX6_goes_25 hl (k := 3) rfl (by rw [← nI_add]; rfl) (by decide) rfl (fun ls hl => ?_)
          refine lv_goto (tgt := 2) hx hb dX6_goes_28 (by decide) ?_
          exact ih_18 (k + 1, upd dpx k 0) _ _ _ ⟨(by first | omega | (dsimp only; omega) | (dsimp only; done)), (by first | omega | (dsimp only; omega) | (dsimp only; done)), (by (try dsimp only); rw [he, k_init]; simp [c_19, c_34]), hP, hD, hS, lv_sub hl [1, 2, 3, 0] rfl⟩
        · skip
          refine lv_bipush (v := 99) hx hb dX6_goes_18 (by decide) ?_
          refine lv_goto (tgt := 24) hx hb dX6_goes_20 (by decide) ?_
          refine x_iast (k := k) hx hb hK hP hD hS 3 0 rfl rfl (by omega) (by decide) dX6_goes_24 (fun H locs hP hD hS => ?_)
          have hP : va_P (dC, dI) vwCl [(mo, .inr (6, [.int th, .ref mx, .int (nI sn), .int fl, .int fa, .ref mt, .int (nI pn), .int (nI kp), .int (nI cm), .ref md, .ref mp])), (mx, .inl (cI, 500, .inl tx)), (mt, .inl (cI, 900, .inl td)), (md, .inl (cI, 16, .inl (upd dpx k 99))), (mp, .inl (cI, 16, .inl pr))] H := hP
          have hD : va_D A [(mo, .inr (6, [.int th, .ref mx, .int (nI sn), .int fl, .int fa, .ref mt, .int (nI pn), .int (nI kp), .int (nI cm), .ref md, .ref mp])), (mx, .inl (cI, 500, .inl tx)), (mt, .inl (cI, 900, .inl td)), (md, .inl (cI, 16, .inl (upd dpx k 99))), (mp, .inl (cI, 16, .inl pr))] := hD
          refine lv_iinc (v := (nI (k + 1))) (lv' := [(3, .int (nI (k + 1))), (0, .ref mo), (1, .int 1), (2, .int p1)]) hx hb dX6_goes_25 hl (k := 3) rfl (by rw [← nI_add]; rfl) (by decide) rfl (fun ls hl => ?_)
          refine lv_goto (tgt := 2) hx hb dX6_goes_28 (by decide) ?_
          exact ih_18 (k + 1, upd dpx k 99) _ _ _ ⟨(by first | omega | (dsimp only; omega) | (dsimp only; done)), (by first | omega | (dsimp only; omega) | (dsimp only; done)), (by (try dsimp only); rw [he, k_init]; simp [c_19, eq_true c_34]), hP, hD, hS, lv_sub hl [1, 2, 3, 0] rfl⟩
    · exact absurd hI.1 (Nat.not_lt_zero _)
set_option maxHeartbeats 4000000 in
set_option maxRecDepth 100000 in
theorem kX6_reach (l : Launch) (dC : Nat → ClassId) (dI : Nat → Nat → Nat) (B : Nat) (cI cC cJ : ClassId) (mo : Nat) (mx : Nat) (mt : Nat) (md : Nat) (mp : Nat) (tx : Nat → Int32) (td : Nat → Int32) (dp : Nat → Int32) (pr : Nat → Int32) (th : Int32) (fl : Int32) (fa : Int32) (sn : Nat) (pn : Nat) (kp : Nat) (cm : Nat) (p0 : Int32) (p1 : Int32) (p2 : Int32) (x1 : Int32) (th1 : Int32) (dp1 : Nat → Int32) (hsn : sn ≤ 500) (hpn : pn ≤ 50) (hkp : kp ≤ 50) (hcm : cm ≤ 50) (hok : m_ok td pn) (hF : m_reach td pn dp p0 p1 p2 = (x1, th1, dp1)) (sz9 : Nat) : Met l yX6_reach wsX6_reach ({ frames := 2, cells := 0, slots := 0, locals := 49 }) (q_Mp (dC, dI) vwCl [.ref mo, .int p0, .int p1, .int p2] [(mo, .inr (6, [.int th, .ref mx, .int (nI sn), .int fl, .int fa, .ref mt, .int (nI pn), .int (nI kp), .int (nI cm), .ref md, .ref mp])), (mx, .inl (cI, 500, .inl tx)), (mt, .inl (cI, 900, .inl td)), (md, .inl (cI, 16, .inl dp)), (mp, .inl (cI, 16, .inl pr))] [(cI, .int), (cC, .char), (cJ, .long)] B sz9) (q_Mq (dC, dI) vwCl [(mo, .inr (6, [.int th1, .ref mx, .int (nI sn), .int fl, .int fa, .ref mt, .int (nI pn), .int (nI kp), .int (nI cm), .ref md, .ref mp])), (mx, .inl (cI, 500, .inl tx)), (mt, .inl (cI, 900, .inl td)), (md, .inl (cI, 16, .inl dp1)), (mp, .inl (cI, 16, .inl pr))] (va_A [(mo, .inr (6, [.int th, .ref mx, .int (nI sn), .int fl, .int fa, .ref mt, .int (nI pn), .int (nI kp), .int (nI cm), .ref md, .ref mp])), (mx, .inl (cI, 500, .inl tx)), (mt, .inl (cI, 900, .inl td)), (md, .inl (cI, 16, .inl dp)), (mp, .inl (cI, 16, .inl pr))] sz9) (some (.int x1))) 0 0 (va_A [(mo, .inr (6, [.int th, .ref mx, .int (nI sn), .int fl, .int fa, .ref mt, .int (nI pn), .int (nI kp), .int (nI cm), .ref md, .ref mp])), (mx, .inl (cI, 500, .inl tx)), (mt, .inl (cI, 900, .inl td)), (md, .inl (cI, 16, .inl dp)), (mp, .inl (cI, 16, .inl pr))] sz9) := by
  refine Met.ofW (cc := cX6_reach) (maxL := 4) (ret := (some .int)) (by decide) rfl ?_
  intro p e s m args below meth c s₁ Bd hml hv
  obtain ⟨rfl, hsz9, hB, hP, hK, hD0, hT⟩ := hv
  have hx := Bd.exec
  have hb := Bd.bytes
  have hr := Bd.returns
  have hts := atoms_spec (ws := wsX6_reach) Bd.pre
  have hg : ∀ w ∈ lw_good, w.before _ s = true := fun w h => hts w (List.mem_cons_of_mem _ h)
  have hown : s.vm.findClass RX6 = some m.cls := findClass_of_methodNamed Bd.named
  have hlocks := Bd.notSynchronized
  subst hsz9
  have hD := hD0.self (sz := s.heap.size)
  generalize hAe : va_A [(mo, .inr (6, [.int th, .ref mx, .int (nI sn), .int fl, .int fa, .ref mt, .int (nI pn), .int (nI kp), .int (nI cm), .ref md, .ref mp])), (mx, .inl (cI, 500, .inl tx)), (mt, .inl (cI, 900, .inl td)), (md, .inl (cI, 16, .inl dp)), (mp, .inl (cI, 16, .inl pr))] s.heap.size = A at hD ⊢
  have hA : ∀ q : Nat, s.heap.size ≤ q → A q := fun q h => by rw [← hAe]; exact Or.inr h
  have hAB : ∀ q, A q → B ≤ q := by rw [← hAe]; exact va_A.ge hD0 hB
  have hS : va_S A s.heap s.heap [] := va_S.rf
  have hP : va_P (dC, dI) vwCl [(mo, .inr (6, [.int th, .ref mx, .int (nI sn), .int fl, .int fa, .ref mt, .int (nI pn), .int (nI kp), .int (nI cm), .ref md, .ref mp])), (mx, .inl (cI, 500, .inl tx)), (mt, .inl (cI, 900, .inl td)), (md, .inl (cI, 16, .inl dp)), (mp, .inl (cI, 16, .inl pr))] s.heap := hP
  have hl := lv_entry ([.ref mo, .int p0, .int p1, .int p2]) (n := 4) (Nat.le_of_ble_eq_true rfl)
  rw [lg_entry_eq]
  generalize (lg_sl ([.ref mo, .int p0, .int p1, .int p2]) ++ List.replicate (4 - (lg_sl ([.ref mo, .int p0, .int p1, .int p2])).length) Slot.unset).toArray = ls at hl ⊢
  have hl : lv_has ls 4 [(0, .ref mo), (1, .int p0), (2, .int p1), (3, .int p2)] := hl
  refine lv_iload_n hx hb dX6_reach_0 rfl (lv_at hl 1 rfl) ?_
  refine lv_iconst (v := 0) hx hb dX6_reach_1 (by decide) ?_
  refine lv_iconst (v := 1) hx hb dX6_reach_2 (by decide) ?_
  refine go_R (r := (bI (m_in p0 0 1))) (va_runS (As := [.int p0, .int 0, .int 1]) (rest := []) ⟨hx, hb, hml, hown, hg⟩ (kX6_in l dC dI B cI cC cJ p0 0 1) (va_cwS 3 hg (gi_S w_545 w_546 w_8 w_547) rfl rfl rfl (by decide +kernel) ⟨Nat.le_of_ble_eq_true rfl, Nat.le_of_ble_eq_true rfl⟩) (pre_RS (hP.sub [] rfl) hK hT) rfl rfl hl.1 rfl (lv_room (Nat.le_of_ble_eq_true rfl)) dX6_reach_3 ⟨Nat.le_of_ble_eq_true rfl, Nat.le_of_ble_eq_true rfl⟩) ?_
  refine lv_if_eq (tgt := 23) hx hb dX6_reach_6 (by decide) (fun c_1 => ?_) (fun c_1 => ?_)
  · skip
    have c_1 := bI_eq0 c_1
    refine lv_aload_n hx hb dX6_reach_23 rfl (lv_at hl 0 rfl) ?_
    refine lv_iconst (v := 1) hx hb dX6_reach_24 (by decide) ?_
    refine go_M (r := some (.int 0)) (wc' := [(mo, .inr (6, [.int 1, .ref mx, .int (nI sn), .int fl, .int fa, .ref mt, .int (nI pn), .int (nI kp), .int (nI cm), .ref md, .ref mp])), (mx, .inl (cI, 500, .inl tx)), (mt, .inl (cI, 900, .inl td)), (md, .inl (cI, 16, .inl dp)), (mp, .inl (cI, 16, .inl pr))]) (w2 := [(mo, .inr (6, [.int 1, .ref mx, .int (nI sn), .int fl, .int fa, .ref mt, .int (nI pn), .int (nI kp), .int (nI cm), .ref md, .ref mp])), (mx, .inl (cI, 500, .inl tx)), (mt, .inl (cI, 900, .inl td)), (md, .inl (cI, 16, .inl dp)), (mp, .inl (cI, 16, .inl pr))]) [0, 1, 2, 3, 4] (va_runV (As := [.int 1]) (rest := []) ⟨hx, hb, hml, hown, hg⟩ (kX6_refuse l dC dI B cI cC cJ mo mx mt md mp tx td dp pr th fl fa sn pn kp cm 1 (by omega) (by omega) (by omega) (by omega) _) (cwV 1 hg (gi_V w_588 w_589 w_703 w_8 w_590) rfl rfl rfl (by decide +kernel) ⟨Nat.le_of_ble_eq_true rfl, Nat.le_of_ble_eq_true rfl⟩) (pre_MV (va_recv hK hP (ci := 6) (q0 := 0) rfl rfl) (Nat.le_trans hB hS.1) (hP.sub [0, 1, 2, 3, 4] rfl) hK ((hD.weaken (fun _ _ _ h => hAB _ h)).sub [0, 1, 2, 3, 4] (by decide) rfl) hT) rfl rfl hl.1 rfl (lv_room (Nat.le_of_ble_eq_true rfl)) dX6_reach_25 ⟨Nat.le_of_ble_eq_true rfl, Nat.le_of_ble_eq_true rfl⟩) hP hD hS hA rfl (Nat.le_of_ble_eq_true rfl) rfl rfl (fun H locs hP hD hS => ?_)
    refine W.eq (g2 := F0 m 28 ls [.int 0]) rfl ?_
    have hP9 := hP
    have hS9 := hS
    have h9 : m_reach td pn dp p0 p1 p2 = (0, 1, dp) := by simp [m_reach, c_1]
    have h9 := hF.symm.trans h9
    cases h9
    exact W.iret hx hb hr (fun t ht hW => ⟨rfl, by rw [ht]; exact hP9, hS9.F ht⟩) hS9.2.2 dX6_reach_28
  · skip
    have c_1 := bI_ne0 c_1
    refine lv_iload_n hx hb dX6_reach_9 rfl (lv_at hl 2 rfl) ?_
    refine go_R (r := (bI (k_isPoint p1))) (va_runS (As := [.int p1]) (rest := []) ⟨hx, hb, hml, hown, hg⟩ (kX6_isPoint l dC dI B cI cC cJ p1) (va_cwS 1 hg (gi_S w_610 w_611 w_8 w_612) rfl rfl rfl (by decide +kernel) ⟨Nat.le_of_ble_eq_true rfl, Nat.le_of_ble_eq_true rfl⟩) (pre_RS (hP.sub [] rfl) hK hT) rfl rfl hl.1 rfl (lv_room (Nat.le_of_ble_eq_true rfl)) dX6_reach_10 ⟨Nat.le_of_ble_eq_true rfl, Nat.le_of_ble_eq_true rfl⟩) ?_
    refine lv_if_eq (tgt := 23) hx hb dX6_reach_13 (by decide) (fun c_2 => ?_) (fun c_2 => ?_)
    · skip
      have c_2 := bI_eq0 c_2
      refine lv_aload_n hx hb dX6_reach_23 rfl (lv_at hl 0 rfl) ?_
      refine lv_iconst (v := 1) hx hb dX6_reach_24 (by decide) ?_
      refine go_M (r := some (.int 0)) (wc' := [(mo, .inr (6, [.int 1, .ref mx, .int (nI sn), .int fl, .int fa, .ref mt, .int (nI pn), .int (nI kp), .int (nI cm), .ref md, .ref mp])), (mx, .inl (cI, 500, .inl tx)), (mt, .inl (cI, 900, .inl td)), (md, .inl (cI, 16, .inl dp)), (mp, .inl (cI, 16, .inl pr))]) (w2 := [(mo, .inr (6, [.int 1, .ref mx, .int (nI sn), .int fl, .int fa, .ref mt, .int (nI pn), .int (nI kp), .int (nI cm), .ref md, .ref mp])), (mx, .inl (cI, 500, .inl tx)), (mt, .inl (cI, 900, .inl td)), (md, .inl (cI, 16, .inl dp)), (mp, .inl (cI, 16, .inl pr))]) [0, 1, 2, 3, 4] (va_runV (As := [.int 1]) (rest := []) ⟨hx, hb, hml, hown, hg⟩ (kX6_refuse l dC dI B cI cC cJ mo mx mt md mp tx td dp pr th fl fa sn pn kp cm 1 (by omega) (by omega) (by omega) (by omega) _) (cwV 1 hg (gi_V w_588 w_589 w_703 w_8 w_590) rfl rfl rfl (by decide +kernel) ⟨Nat.le_of_ble_eq_true rfl, Nat.le_of_ble_eq_true rfl⟩) (pre_MV (va_recv hK hP (ci := 6) (q0 := 0) rfl rfl) (Nat.le_trans hB hS.1) (hP.sub [0, 1, 2, 3, 4] rfl) hK ((hD.weaken (fun _ _ _ h => hAB _ h)).sub [0, 1, 2, 3, 4] (by decide) rfl) hT) rfl rfl hl.1 rfl (lv_room (Nat.le_of_ble_eq_true rfl)) dX6_reach_25 ⟨Nat.le_of_ble_eq_true rfl, Nat.le_of_ble_eq_true rfl⟩) hP hD hS hA rfl (Nat.le_of_ble_eq_true rfl) rfl rfl (fun H locs hP hD hS => ?_)
      refine W.eq (g2 := F0 m 28 ls [.int 0]) rfl ?_
      have hP9 := hP
      have hS9 := hS
      have h9 : m_reach td pn dp p0 p1 p2 = (0, 1, dp) := by simp [m_reach, c_1, c_2]
      have h9 := hF.symm.trans h9
      cases h9
      exact W.iret hx hb hr (fun t ht hW => ⟨rfl, by rw [ht]; exact hP9, hS9.F ht⟩) hS9.2.2 dX6_reach_28
    · skip
      have c_2 := bI_ne0 c_2
      refine lv_iload_n hx hb dX6_reach_16 rfl (lv_at hl 3 rfl) ?_
      refine go_R (r := (bI (k_isPoint p2))) (va_runS (As := [.int p2]) (rest := []) ⟨hx, hb, hml, hown, hg⟩ (kX6_isPoint l dC dI B cI cC cJ p2) (va_cwS 1 hg (gi_S w_610 w_611 w_8 w_612) rfl rfl rfl (by decide +kernel) ⟨Nat.le_of_ble_eq_true rfl, Nat.le_of_ble_eq_true rfl⟩) (pre_RS (hP.sub [] rfl) hK hT) rfl rfl hl.1 rfl (lv_room (Nat.le_of_ble_eq_true rfl)) dX6_reach_17 ⟨Nat.le_of_ble_eq_true rfl, Nat.le_of_ble_eq_true rfl⟩) ?_
      refine lv_if_ne (tgt := 29) hx hb dX6_reach_20 (by decide) (fun c_3 => ?_) (fun c_3 => ?_)
      · skip
        have c_3 := bI_ne0 c_3
        have hj9 := in01 c_1
        obtain ⟨j, hj, rfl⟩ := hj9
        have hcl := nI_clamp (n := j) (by omega)
        refine lv_aload_n hx hb dX6_reach_29 rfl (lv_at hl 0 rfl) ?_
        refine lv_iconst (v := 0) hx hb dX6_reach_30 (by decide) ?_
        refine va_put (D := (dC, dI)) (ci := 6) (v := .int 0) (ty := .int) (C := RX6) (T := TX6) (N := 11) hx hb hg in_X6 tyX6 tyX6_ok nmX6_ok hown hK hP hD hS 0 rfl rfl 0 (by decide) (hg _ w_503) (fun _ h9 => h9) rfl (by decide +kernel) rfl rfl (Nat.le_of_ble_eq_true rfl) dX6_reach_31 (fun H locs hP hD hS => ?_)
        have hP : va_P (dC, dI) vwCl [(mo, .inr (6, [.int 0, .ref mx, .int (nI sn), .int fl, .int fa, .ref mt, .int (nI pn), .int (nI kp), .int (nI cm), .ref md, .ref mp])), (mx, .inl (cI, 500, .inl tx)), (mt, .inl (cI, 900, .inl td)), (md, .inl (cI, 16, .inl dp)), (mp, .inl (cI, 16, .inl pr))] H := hP
        have hD : va_D A [(mo, .inr (6, [.int 0, .ref mx, .int (nI sn), .int fl, .int fa, .ref mt, .int (nI pn), .int (nI kp), .int (nI cm), .ref md, .ref mp])), (mx, .inl (cI, 500, .inl tx)), (mt, .inl (cI, 900, .inl td)), (md, .inl (cI, 16, .inl dp)), (mp, .inl (cI, 16, .inl pr))] := hD
        refine lv_aload_n hx hb dX6_reach_34 rfl (lv_at hl 0 rfl) ?_
        refine lv_iload_n hx hb dX6_reach_35 rfl (lv_at hl 1 rfl) ?_
        refine lv_iload_n hx hb dX6_reach_36 rfl (lv_at hl 2 rfl) ?_
        obtain ⟨dp1_4, hF_4⟩ : ∃ (dp1_4 : Nat → Int32), m_goes td pn j p1 dp = dp1_4 := ⟨_, rfl⟩
        refine go_M (r := none) (wc' := [(mo, .inr (6, [.int 0, .ref mx, .int (nI sn), .int fl, .int fa, .ref mt, .int (nI pn), .int (nI kp), .int (nI cm), .ref md, .ref mp])), (mx, .inl (cI, 500, .inl tx)), (mt, .inl (cI, 900, .inl td)), (md, .inl (cI, 16, .inl dp1_4)), (mp, .inl (cI, 16, .inl pr))]) (w2 := [(mo, .inr (6, [.int 0, .ref mx, .int (nI sn), .int fl, .int fa, .ref mt, .int (nI pn), .int (nI kp), .int (nI cm), .ref md, .ref mp])), (mx, .inl (cI, 500, .inl tx)), (mt, .inl (cI, 900, .inl td)), (md, .inl (cI, 16, .inl dp1_4)), (mp, .inl (cI, 16, .inl pr))]) [0, 1, 2, 3, 4] (va_runV (As := [.int (nI j), .int p1]) (rest := []) ⟨hx, hb, hml, hown, hg⟩ (kX6_goes l dC dI B cI cC cJ mo mx mt md mp tx td dp pr 0 fl fa sn pn kp cm j p1 dp1_4 (by omega) (by omega) (by omega) (by omega) (by omega) (by omega) hF_4 _) (cwV 2 hg (gi_V w_613 w_614 w_705 w_8 w_615) rfl rfl rfl (by decide +kernel) ⟨Nat.le_of_ble_eq_true rfl, Nat.le_of_ble_eq_true rfl⟩) (pre_MV (va_recv hK hP (ci := 6) (q0 := 0) rfl rfl) (Nat.le_trans hB hS.1) (hP.sub [0, 1, 2, 3, 4] rfl) hK ((hD.weaken (fun _ _ _ h => hAB _ h)).sub [0, 1, 2, 3, 4] (by decide) rfl) (hT.kept (hS.mono hAB))) rfl rfl hl.1 rfl (lv_room (Nat.le_of_ble_eq_true rfl)) dX6_reach_37 ⟨Nat.le_of_ble_eq_true rfl, Nat.le_of_ble_eq_true rfl⟩) hP hD hS hA rfl (Nat.le_of_ble_eq_true rfl) rfl rfl (fun H locs hP hD hS => ?_)
        refine W.eq (g2 := F0 m 40 ls []) rfl ?_
        refine lv_aload_n hx hb dX6_reach_40 rfl (lv_at hl 0 rfl) ?_
        refine va_get (D := (dC, dI)) (ci := 6) (v := .ref md) (C := RX6) (T := TX6) (N := 11) hx hb hg in_X6 hown hK hP 0 rfl rfl 9 (by decide) (hg _ w_512) (fun _ h9 => h9) rfl dX6_reach_41 ?_
        refine lv_iload_n hx hb dX6_reach_44 rfl (lv_at hl 3 rfl) ?_
        refine va_iald (i := p2) hx hb hK hP 3 0 rfl rfl (pt_in c_3) dX6_reach_45 ?_
        refine lv_if_le (tgt := 53) hx hb dX6_reach_46 (by decide) (fun c_5 => ?_) (fun c_5 => ?_)
        · skip
          refine lv_iconst (v := 0) hx hb dX6_reach_53 (by decide) ?_
          have hP9 := hP
          have hS9 := hS
          have h9 : m_reach td pn dp (nI j) p1 p2 = (0, 0, dp1_4) := by simp [m_reach, c_1, c_2, c_3, hcl, hF_4, c_5]
          have h9 := hF.symm.trans h9
          cases h9
          exact W.iret hx hb hr (fun t ht hW => ⟨rfl, by rw [ht]; exact hP9, hS9.F ht⟩) hS9.2.2 dX6_reach_54
        · skip
          refine lv_iconst (v := 1) hx hb dX6_reach_49 (by decide) ?_
          refine lv_goto (tgt := 54) hx hb dX6_reach_50 (by decide) ?_
          have hP9 := hP
          have hS9 := hS
          have h9 : m_reach td pn dp (nI j) p1 p2 = (1, 0, dp1_4) := by simp [m_reach, c_1, c_2, c_3, hcl, hF_4, c_5]
          have h9 := hF.symm.trans h9
          cases h9
          exact W.iret hx hb hr (fun t ht hW => ⟨rfl, by rw [ht]; exact hP9, hS9.F ht⟩) hS9.2.2 dX6_reach_54
      · skip
        have c_3 := bI_eq0 c_3
        refine lv_aload_n hx hb dX6_reach_23 rfl (lv_at hl 0 rfl) ?_
        refine lv_iconst (v := 1) hx hb dX6_reach_24 (by decide) ?_
        refine go_M (r := some (.int 0)) (wc' := [(mo, .inr (6, [.int 1, .ref mx, .int (nI sn), .int fl, .int fa, .ref mt, .int (nI pn), .int (nI kp), .int (nI cm), .ref md, .ref mp])), (mx, .inl (cI, 500, .inl tx)), (mt, .inl (cI, 900, .inl td)), (md, .inl (cI, 16, .inl dp)), (mp, .inl (cI, 16, .inl pr))]) (w2 := [(mo, .inr (6, [.int 1, .ref mx, .int (nI sn), .int fl, .int fa, .ref mt, .int (nI pn), .int (nI kp), .int (nI cm), .ref md, .ref mp])), (mx, .inl (cI, 500, .inl tx)), (mt, .inl (cI, 900, .inl td)), (md, .inl (cI, 16, .inl dp)), (mp, .inl (cI, 16, .inl pr))]) [0, 1, 2, 3, 4] (va_runV (As := [.int 1]) (rest := []) ⟨hx, hb, hml, hown, hg⟩ (kX6_refuse l dC dI B cI cC cJ mo mx mt md mp tx td dp pr th fl fa sn pn kp cm 1 (by omega) (by omega) (by omega) (by omega) _) (cwV 1 hg (gi_V w_588 w_589 w_703 w_8 w_590) rfl rfl rfl (by decide +kernel) ⟨Nat.le_of_ble_eq_true rfl, Nat.le_of_ble_eq_true rfl⟩) (pre_MV (va_recv hK hP (ci := 6) (q0 := 0) rfl rfl) (Nat.le_trans hB hS.1) (hP.sub [0, 1, 2, 3, 4] rfl) hK ((hD.weaken (fun _ _ _ h => hAB _ h)).sub [0, 1, 2, 3, 4] (by decide) rfl) hT) rfl rfl hl.1 rfl (lv_room (Nat.le_of_ble_eq_true rfl)) dX6_reach_25 ⟨Nat.le_of_ble_eq_true rfl, Nat.le_of_ble_eq_true rfl⟩) hP hD hS hA rfl (Nat.le_of_ble_eq_true rfl) rfl rfl (fun H locs hP hD hS => ?_)
        refine W.eq (g2 := F0 m 28 ls [.int 0]) rfl ?_
        have hP9 := hP
        have hS9 := hS
        have h9 : m_reach td pn dp p0 p1 p2 = (0, 1, dp) := by simp [m_reach, c_1, c_2, c_3]
        have h9 := hF.symm.trans h9
        cases h9
        exact W.iret hx hb hr (fun t ht hW => ⟨rfl, by rw [ht]; exact hP9, hS9.F ht⟩) hS9.2.2 dX6_reach_28
set_option maxHeartbeats 4000000 in
set_option maxRecDepth 100000 in
theorem kX6_deep (l : Launch) (dC : Nat → ClassId) (dI : Nat → Nat → Nat) (B : Nat) (cI cC cJ : ClassId) (mo : Nat) (mx : Nat) (mt : Nat) (md : Nat) (mp : Nat) (tx : Nat → Int32) (td : Nat → Int32) (dp : Nat → Int32) (pr : Nat → Int32) (th : Int32) (fl : Int32) (fa : Int32) (sn : Nat) (pn : Nat) (kp : Nat) (cm : Nat) (p0 : Int32) (p1 : Int32) (x1 : Int32) (th1 : Int32) (dp1 : Nat → Int32) (hsn : sn ≤ 500) (hpn : pn ≤ 50) (hkp : kp ≤ 50) (hcm : cm ≤ 50) (hok : m_ok td pn) (hF : m_deep td pn dp p0 p1 = (x1, th1, dp1)) (sz9 : Nat) : Met l yX6_deep wsX6_deep ({ frames := 2, cells := 0, slots := 0, locals := 49 }) (q_Mp (dC, dI) vwCl [.ref mo, .int p0, .int p1] [(mo, .inr (6, [.int th, .ref mx, .int (nI sn), .int fl, .int fa, .ref mt, .int (nI pn), .int (nI kp), .int (nI cm), .ref md, .ref mp])), (mx, .inl (cI, 500, .inl tx)), (mt, .inl (cI, 900, .inl td)), (md, .inl (cI, 16, .inl dp)), (mp, .inl (cI, 16, .inl pr))] [(cI, .int), (cC, .char), (cJ, .long)] B sz9) (q_Mq (dC, dI) vwCl [(mo, .inr (6, [.int th1, .ref mx, .int (nI sn), .int fl, .int fa, .ref mt, .int (nI pn), .int (nI kp), .int (nI cm), .ref md, .ref mp])), (mx, .inl (cI, 500, .inl tx)), (mt, .inl (cI, 900, .inl td)), (md, .inl (cI, 16, .inl dp1)), (mp, .inl (cI, 16, .inl pr))] (va_A [(mo, .inr (6, [.int th, .ref mx, .int (nI sn), .int fl, .int fa, .ref mt, .int (nI pn), .int (nI kp), .int (nI cm), .ref md, .ref mp])), (mx, .inl (cI, 500, .inl tx)), (mt, .inl (cI, 900, .inl td)), (md, .inl (cI, 16, .inl dp)), (mp, .inl (cI, 16, .inl pr))] sz9) (some (.int x1))) 0 0 (va_A [(mo, .inr (6, [.int th, .ref mx, .int (nI sn), .int fl, .int fa, .ref mt, .int (nI pn), .int (nI kp), .int (nI cm), .ref md, .ref mp])), (mx, .inl (cI, 500, .inl tx)), (mt, .inl (cI, 900, .inl td)), (md, .inl (cI, 16, .inl dp)), (mp, .inl (cI, 16, .inl pr))] sz9) := by
  refine Met.ofW (cc := cX6_deep) (maxL := 3) (ret := (some .int)) (by decide) rfl ?_
  intro p e s m args below meth c s₁ Bd hml hv
  obtain ⟨rfl, hsz9, hB, hP, hK, hD0, hT⟩ := hv
  have hx := Bd.exec
  have hb := Bd.bytes
  have hr := Bd.returns
  have hts := atoms_spec (ws := wsX6_deep) Bd.pre
  have hg : ∀ w ∈ lw_good, w.before _ s = true := fun w h => hts w (List.mem_cons_of_mem _ h)
  have hown : s.vm.findClass RX6 = some m.cls := findClass_of_methodNamed Bd.named
  have hlocks := Bd.notSynchronized
  subst hsz9
  have hD := hD0.self (sz := s.heap.size)
  generalize hAe : va_A [(mo, .inr (6, [.int th, .ref mx, .int (nI sn), .int fl, .int fa, .ref mt, .int (nI pn), .int (nI kp), .int (nI cm), .ref md, .ref mp])), (mx, .inl (cI, 500, .inl tx)), (mt, .inl (cI, 900, .inl td)), (md, .inl (cI, 16, .inl dp)), (mp, .inl (cI, 16, .inl pr))] s.heap.size = A at hD ⊢
  have hA : ∀ q : Nat, s.heap.size ≤ q → A q := fun q h => by rw [← hAe]; exact Or.inr h
  have hAB : ∀ q, A q → B ≤ q := by rw [← hAe]; exact va_A.ge hD0 hB
  have hS : va_S A s.heap s.heap [] := va_S.rf
  have hP : va_P (dC, dI) vwCl [(mo, .inr (6, [.int th, .ref mx, .int (nI sn), .int fl, .int fa, .ref mt, .int (nI pn), .int (nI kp), .int (nI cm), .ref md, .ref mp])), (mx, .inl (cI, 500, .inl tx)), (mt, .inl (cI, 900, .inl td)), (md, .inl (cI, 16, .inl dp)), (mp, .inl (cI, 16, .inl pr))] s.heap := hP
  have hl := lv_entry ([.ref mo, .int p0, .int p1]) (n := 3) (Nat.le_of_ble_eq_true rfl)
  rw [lg_entry_eq]
  generalize (lg_sl ([.ref mo, .int p0, .int p1]) ++ List.replicate (3 - (lg_sl ([.ref mo, .int p0, .int p1])).length) Slot.unset).toArray = ls at hl ⊢
  have hl : lv_has ls 3 [(0, .ref mo), (1, .int p0), (2, .int p1)] := hl
  refine lv_iload_n hx hb dX6_deep_0 rfl (lv_at hl 1 rfl) ?_
  refine go_R (r := (bI (k_isPoint p0))) (va_runS (As := [.int p0]) (rest := []) ⟨hx, hb, hml, hown, hg⟩ (kX6_isPoint l dC dI B cI cC cJ p0) (va_cwS 1 hg (gi_S w_610 w_611 w_8 w_612) rfl rfl rfl (by decide +kernel) ⟨Nat.le_of_ble_eq_true rfl, Nat.le_of_ble_eq_true rfl⟩) (pre_RS (hP.sub [] rfl) hK hT) rfl rfl hl.1 rfl (lv_room (Nat.le_of_ble_eq_true rfl)) dX6_deep_1 ⟨Nat.le_of_ble_eq_true rfl, Nat.le_of_ble_eq_true rfl⟩) ?_
  refine lv_if_eq (tgt := 14) hx hb dX6_deep_4 (by decide) (fun c_1 => ?_) (fun c_1 => ?_)
  · skip
    have c_1 := bI_eq0 c_1
    refine lv_aload_n hx hb dX6_deep_14 rfl (lv_at hl 0 rfl) ?_
    refine lv_iconst (v := 1) hx hb dX6_deep_15 (by decide) ?_
    refine go_M (r := some (.int 0)) (wc' := [(mo, .inr (6, [.int 1, .ref mx, .int (nI sn), .int fl, .int fa, .ref mt, .int (nI pn), .int (nI kp), .int (nI cm), .ref md, .ref mp])), (mx, .inl (cI, 500, .inl tx)), (mt, .inl (cI, 900, .inl td)), (md, .inl (cI, 16, .inl dp)), (mp, .inl (cI, 16, .inl pr))]) (w2 := [(mo, .inr (6, [.int 1, .ref mx, .int (nI sn), .int fl, .int fa, .ref mt, .int (nI pn), .int (nI kp), .int (nI cm), .ref md, .ref mp])), (mx, .inl (cI, 500, .inl tx)), (mt, .inl (cI, 900, .inl td)), (md, .inl (cI, 16, .inl dp)), (mp, .inl (cI, 16, .inl pr))]) [0, 1, 2, 3, 4] (va_runV (As := [.int 1]) (rest := []) ⟨hx, hb, hml, hown, hg⟩ (kX6_refuse l dC dI B cI cC cJ mo mx mt md mp tx td dp pr th fl fa sn pn kp cm 1 (by omega) (by omega) (by omega) (by omega) _) (cwV 1 hg (gi_V w_588 w_589 w_703 w_8 w_590) rfl rfl rfl (by decide +kernel) ⟨Nat.le_of_ble_eq_true rfl, Nat.le_of_ble_eq_true rfl⟩) (pre_MV (va_recv hK hP (ci := 6) (q0 := 0) rfl rfl) (Nat.le_trans hB hS.1) (hP.sub [0, 1, 2, 3, 4] rfl) hK ((hD.weaken (fun _ _ _ h => hAB _ h)).sub [0, 1, 2, 3, 4] (by decide) rfl) hT) rfl rfl hl.1 rfl (lv_room (Nat.le_of_ble_eq_true rfl)) dX6_deep_16 ⟨Nat.le_of_ble_eq_true rfl, Nat.le_of_ble_eq_true rfl⟩) hP hD hS hA rfl (Nat.le_of_ble_eq_true rfl) rfl rfl (fun H locs hP hD hS => ?_)
    refine W.eq (g2 := F0 m 19 ls [.int 0]) rfl ?_
    have hP9 := hP
    have hS9 := hS
    have h9 : m_deep td pn dp p0 p1 = (0, 1, dp) := by simp [m_deep, c_1]
    have h9 := hF.symm.trans h9
    cases h9
    exact W.iret hx hb hr (fun t ht hW => ⟨rfl, by rw [ht]; exact hP9, hS9.F ht⟩) hS9.2.2 dX6_deep_19
  · skip
    have c_1 := bI_ne0 c_1
    refine lv_iload_n hx hb dX6_deep_7 rfl (lv_at hl 2 rfl) ?_
    refine go_R (r := (bI (k_isPoint p1))) (va_runS (As := [.int p1]) (rest := []) ⟨hx, hb, hml, hown, hg⟩ (kX6_isPoint l dC dI B cI cC cJ p1) (va_cwS 1 hg (gi_S w_610 w_611 w_8 w_612) rfl rfl rfl (by decide +kernel) ⟨Nat.le_of_ble_eq_true rfl, Nat.le_of_ble_eq_true rfl⟩) (pre_RS (hP.sub [] rfl) hK hT) rfl rfl hl.1 rfl (lv_room (Nat.le_of_ble_eq_true rfl)) dX6_deep_8 ⟨Nat.le_of_ble_eq_true rfl, Nat.le_of_ble_eq_true rfl⟩) ?_
    refine lv_if_ne (tgt := 20) hx hb dX6_deep_11 (by decide) (fun c_2 => ?_) (fun c_2 => ?_)
    · skip
      have c_2 := bI_ne0 c_2
      refine lv_aload_n hx hb dX6_deep_20 rfl (lv_at hl 0 rfl) ?_
      refine lv_iconst (v := 0) hx hb dX6_deep_21 (by decide) ?_
      refine va_put (D := (dC, dI)) (ci := 6) (v := .int 0) (ty := .int) (C := RX6) (T := TX6) (N := 11) hx hb hg in_X6 tyX6 tyX6_ok nmX6_ok hown hK hP hD hS 0 rfl rfl 0 (by decide) (hg _ w_503) (fun _ h9 => h9) rfl (by decide +kernel) rfl rfl (Nat.le_of_ble_eq_true rfl) dX6_deep_22 (fun H locs hP hD hS => ?_)
      have hP : va_P (dC, dI) vwCl [(mo, .inr (6, [.int 0, .ref mx, .int (nI sn), .int fl, .int fa, .ref mt, .int (nI pn), .int (nI kp), .int (nI cm), .ref md, .ref mp])), (mx, .inl (cI, 500, .inl tx)), (mt, .inl (cI, 900, .inl td)), (md, .inl (cI, 16, .inl dp)), (mp, .inl (cI, 16, .inl pr))] H := hP
      have hD : va_D A [(mo, .inr (6, [.int 0, .ref mx, .int (nI sn), .int fl, .int fa, .ref mt, .int (nI pn), .int (nI kp), .int (nI cm), .ref md, .ref mp])), (mx, .inl (cI, 500, .inl tx)), (mt, .inl (cI, 900, .inl td)), (md, .inl (cI, 16, .inl dp)), (mp, .inl (cI, 16, .inl pr))] := hD
      refine lv_aload_n hx hb dX6_deep_25 rfl (lv_at hl 0 rfl) ?_
      refine lv_iconst (v := 0) hx hb dX6_deep_26 (by decide) ?_
      refine lv_iload_n hx hb dX6_deep_27 rfl (lv_at hl 1 rfl) ?_
      obtain ⟨dp1_3, hF_3⟩ : ∃ (dp1_3 : Nat → Int32), m_goes td pn 0 p0 dp = dp1_3 := ⟨_, rfl⟩
      refine go_M (r := none) (wc' := [(mo, .inr (6, [.int 0, .ref mx, .int (nI sn), .int fl, .int fa, .ref mt, .int (nI pn), .int (nI kp), .int (nI cm), .ref md, .ref mp])), (mx, .inl (cI, 500, .inl tx)), (mt, .inl (cI, 900, .inl td)), (md, .inl (cI, 16, .inl dp1_3)), (mp, .inl (cI, 16, .inl pr))]) (w2 := [(mo, .inr (6, [.int 0, .ref mx, .int (nI sn), .int fl, .int fa, .ref mt, .int (nI pn), .int (nI kp), .int (nI cm), .ref md, .ref mp])), (mx, .inl (cI, 500, .inl tx)), (mt, .inl (cI, 900, .inl td)), (md, .inl (cI, 16, .inl dp1_3)), (mp, .inl (cI, 16, .inl pr))]) [0, 1, 2, 3, 4] (va_runV (As := [.int 0, .int p0]) (rest := []) ⟨hx, hb, hml, hown, hg⟩ (kX6_goes l dC dI B cI cC cJ mo mx mt md mp tx td dp pr 0 fl fa sn pn kp cm 0 p0 dp1_3 (by omega) (by omega) (by omega) (by omega) (by omega) (by omega) hF_3 _) (cwV 2 hg (gi_V w_613 w_614 w_705 w_8 w_615) rfl rfl rfl (by decide +kernel) ⟨Nat.le_of_ble_eq_true rfl, Nat.le_of_ble_eq_true rfl⟩) (pre_MV (va_recv hK hP (ci := 6) (q0 := 0) rfl rfl) (Nat.le_trans hB hS.1) (hP.sub [0, 1, 2, 3, 4] rfl) hK ((hD.weaken (fun _ _ _ h => hAB _ h)).sub [0, 1, 2, 3, 4] (by decide) rfl) (hT.kept (hS.mono hAB))) rfl rfl hl.1 rfl (lv_room (Nat.le_of_ble_eq_true rfl)) dX6_deep_28 ⟨Nat.le_of_ble_eq_true rfl, Nat.le_of_ble_eq_true rfl⟩) hP hD hS hA rfl (Nat.le_of_ble_eq_true rfl) rfl rfl (fun H locs hP hD hS => ?_)
      refine W.eq (g2 := F0 m 31 ls []) rfl ?_
      refine lv_aload_n hx hb dX6_deep_31 rfl (lv_at hl 0 rfl) ?_
      refine va_get (D := (dC, dI)) (ci := 6) (v := .ref md) (C := RX6) (T := TX6) (N := 11) hx hb hg in_X6 hown hK hP 0 rfl rfl 9 (by decide) (hg _ w_512) (fun _ h9 => h9) rfl dX6_deep_32 ?_
      refine lv_iload_n hx hb dX6_deep_35 rfl (lv_at hl 2 rfl) ?_
      refine va_iald (i := p1) hx hb hK hP 3 0 rfl rfl (pt_in c_2) dX6_deep_36 ?_
      have hP9 := hP
      have hS9 := hS
      have h9 : m_deep td pn dp p0 p1 = (dp1_3 p1.toNatClampNeg, 0, dp1_3) := by simp [m_deep, c_1, c_2, hF_3]
      have h9 := hF.symm.trans h9
      cases h9
      exact W.iret hx hb hr (fun t ht hW => ⟨rfl, by rw [ht]; exact hP9, hS9.F ht⟩) hS9.2.2 dX6_deep_37
    · skip
      have c_2 := bI_eq0 c_2
      refine lv_aload_n hx hb dX6_deep_14 rfl (lv_at hl 0 rfl) ?_
      refine lv_iconst (v := 1) hx hb dX6_deep_15 (by decide) ?_
      refine go_M (r := some (.int 0)) (wc' := [(mo, .inr (6, [.int 1, .ref mx, .int (nI sn), .int fl, .int fa, .ref mt, .int (nI pn), .int (nI kp), .int (nI cm), .ref md, .ref mp])), (mx, .inl (cI, 500, .inl tx)), (mt, .inl (cI, 900, .inl td)), (md, .inl (cI, 16, .inl dp)), (mp, .inl (cI, 16, .inl pr))]) (w2 := [(mo, .inr (6, [.int 1, .ref mx, .int (nI sn), .int fl, .int fa, .ref mt, .int (nI pn), .int (nI kp), .int (nI cm), .ref md, .ref mp])), (mx, .inl (cI, 500, .inl tx)), (mt, .inl (cI, 900, .inl td)), (md, .inl (cI, 16, .inl dp)), (mp, .inl (cI, 16, .inl pr))]) [0, 1, 2, 3, 4] (va_runV (As := [.int 1]) (rest := []) ⟨hx, hb, hml, hown, hg⟩ (kX6_refuse l dC dI B cI cC cJ mo mx mt md mp tx td dp pr th fl fa sn pn kp cm 1 (by omega) (by omega) (by omega) (by omega) _) (cwV 1 hg (gi_V w_588 w_589 w_703 w_8 w_590) rfl rfl rfl (by decide +kernel) ⟨Nat.le_of_ble_eq_true rfl, Nat.le_of_ble_eq_true rfl⟩) (pre_MV (va_recv hK hP (ci := 6) (q0 := 0) rfl rfl) (Nat.le_trans hB hS.1) (hP.sub [0, 1, 2, 3, 4] rfl) hK ((hD.weaken (fun _ _ _ h => hAB _ h)).sub [0, 1, 2, 3, 4] (by decide) rfl) hT) rfl rfl hl.1 rfl (lv_room (Nat.le_of_ble_eq_true rfl)) dX6_deep_16 ⟨Nat.le_of_ble_eq_true rfl, Nat.le_of_ble_eq_true rfl⟩) hP hD hS hA rfl (Nat.le_of_ble_eq_true rfl) rfl rfl (fun H locs hP hD hS => ?_)
      refine W.eq (g2 := F0 m 19 ls [.int 0]) rfl ?_
      have hP9 := hP
      have hS9 := hS
      have h9 : m_deep td pn dp p0 p1 = (0, 1, dp) := by simp [m_deep, c_1, c_2]
      have h9 := hF.symm.trans h9
      cases h9
      exact W.iret hx hb hr (fun t ht hW => ⟨rfl, by rw [ht]; exact hP9, hS9.F ht⟩) hS9.2.2 dX6_deep_19
set_option maxHeartbeats 4000000 in
set_option maxRecDepth 100000 in
theorem kX6_badAt (l : Launch) (dC : Nat → ClassId) (dI : Nat → Nat → Nat) (B : Nat) (cI cC cJ : ClassId) (mo : Nat) (mx : Nat) (mt : Nat) (md : Nat) (mp : Nat) (tx : Nat → Int32) (td : Nat → Int32) (dp : Nat → Int32) (pr : Nat → Int32) (th : Int32) (fl : Int32) (fa : Int32) (sn : Nat) (pn : Nat) (kp : Nat) (cm : Nat) (p0 : Int32) (x1 : Int32) (dp1 : Nat → Int32) (hsn : sn ≤ 500) (hpn : pn ≤ 50) (hkp : kp ≤ 50) (hcm : cm ≤ 50) (hok : m_ok td pn) (hF : (m_badAt td pn dp p0, m_goes td pn 0 0 dp) = (x1, dp1)) (sz9 : Nat) : Met l yX6_badAt wsX6_badAt ({ frames := 2, cells := 0, slots := 0, locals := 49 }) (q_Mp (dC, dI) vwCl [.ref mo, .int p0] [(mo, .inr (6, [.int th, .ref mx, .int (nI sn), .int fl, .int fa, .ref mt, .int (nI pn), .int (nI kp), .int (nI cm), .ref md, .ref mp])), (mx, .inl (cI, 500, .inl tx)), (mt, .inl (cI, 900, .inl td)), (md, .inl (cI, 16, .inl dp)), (mp, .inl (cI, 16, .inl pr))] [(cI, .int), (cC, .char), (cJ, .long)] B sz9) (q_Mq (dC, dI) vwCl [(mo, .inr (6, [.int th, .ref mx, .int (nI sn), .int fl, .int fa, .ref mt, .int (nI pn), .int (nI kp), .int (nI cm), .ref md, .ref mp])), (mx, .inl (cI, 500, .inl tx)), (mt, .inl (cI, 900, .inl td)), (md, .inl (cI, 16, .inl dp1)), (mp, .inl (cI, 16, .inl pr))] (va_A [(mo, .inr (6, [.int th, .ref mx, .int (nI sn), .int fl, .int fa, .ref mt, .int (nI pn), .int (nI kp), .int (nI cm), .ref md, .ref mp])), (mx, .inl (cI, 500, .inl tx)), (mt, .inl (cI, 900, .inl td)), (md, .inl (cI, 16, .inl dp)), (mp, .inl (cI, 16, .inl pr))] sz9) (some (.int x1))) 0 0 (va_A [(mo, .inr (6, [.int th, .ref mx, .int (nI sn), .int fl, .int fa, .ref mt, .int (nI pn), .int (nI kp), .int (nI cm), .ref md, .ref mp])), (mx, .inl (cI, 500, .inl tx)), (mt, .inl (cI, 900, .inl td)), (md, .inl (cI, 16, .inl dp)), (mp, .inl (cI, 16, .inl pr))] sz9) := by
  refine Met.ofW (cc := cX6_badAt) (maxL := 6) (ret := (some .int)) (by decide) rfl ?_
  intro p e s m args below meth c s₁ Bd hml hv
  obtain ⟨rfl, hsz9, hB, hP, hK, hD0, hT⟩ := hv
  have hx := Bd.exec
  have hb := Bd.bytes
  have hr := Bd.returns
  have hts := atoms_spec (ws := wsX6_badAt) Bd.pre
  have hg : ∀ w ∈ lw_good, w.before _ s = true := fun w h => hts w (List.mem_cons_of_mem _ h)
  have hown : s.vm.findClass RX6 = some m.cls := findClass_of_methodNamed Bd.named
  have hlocks := Bd.notSynchronized
  subst hsz9
  have hD := hD0.self (sz := s.heap.size)
  generalize hAe : va_A [(mo, .inr (6, [.int th, .ref mx, .int (nI sn), .int fl, .int fa, .ref mt, .int (nI pn), .int (nI kp), .int (nI cm), .ref md, .ref mp])), (mx, .inl (cI, 500, .inl tx)), (mt, .inl (cI, 900, .inl td)), (md, .inl (cI, 16, .inl dp)), (mp, .inl (cI, 16, .inl pr))] s.heap.size = A at hD ⊢
  have hA : ∀ q : Nat, s.heap.size ≤ q → A q := fun q h => by rw [← hAe]; exact Or.inr h
  have hAB : ∀ q, A q → B ≤ q := by rw [← hAe]; exact va_A.ge hD0 hB
  have hS : va_S A s.heap s.heap [] := va_S.rf
  have hP : va_P (dC, dI) vwCl [(mo, .inr (6, [.int th, .ref mx, .int (nI sn), .int fl, .int fa, .ref mt, .int (nI pn), .int (nI kp), .int (nI cm), .ref md, .ref mp])), (mx, .inl (cI, 500, .inl tx)), (mt, .inl (cI, 900, .inl td)), (md, .inl (cI, 16, .inl dp)), (mp, .inl (cI, 16, .inl pr))] s.heap := hP
  have hl := lv_entry ([.ref mo, .int p0]) (n := 6) (Nat.le_of_ble_eq_true rfl)
  rw [lg_entry_eq]
  generalize (lg_sl ([.ref mo, .int p0]) ++ List.replicate (6 - (lg_sl ([.ref mo, .int p0])).length) Slot.unset).toArray = ls at hl ⊢
  have hl : lv_has ls 6 [(0, .ref mo), (1, .int p0)] := hl
  refine lv_aload_n hx hb dX6_badAt_0 rfl (lv_at hl 0 rfl) ?_
  refine lv_iconst (v := 0) hx hb dX6_badAt_1 (by decide) ?_
  refine lv_iconst (v := 0) hx hb dX6_badAt_2 (by decide) ?_
  obtain ⟨dp1_1, hF_1⟩ : ∃ (dp1_1 : Nat → Int32), m_goes td pn 0 0 dp = dp1_1 := ⟨_, rfl⟩
  refine go_M (r := none) (wc' := [(mo, .inr (6, [.int th, .ref mx, .int (nI sn), .int fl, .int fa, .ref mt, .int (nI pn), .int (nI kp), .int (nI cm), .ref md, .ref mp])), (mx, .inl (cI, 500, .inl tx)), (mt, .inl (cI, 900, .inl td)), (md, .inl (cI, 16, .inl dp1_1)), (mp, .inl (cI, 16, .inl pr))]) (w2 := [(mo, .inr (6, [.int th, .ref mx, .int (nI sn), .int fl, .int fa, .ref mt, .int (nI pn), .int (nI kp), .int (nI cm), .ref md, .ref mp])), (mx, .inl (cI, 500, .inl tx)), (mt, .inl (cI, 900, .inl td)), (md, .inl (cI, 16, .inl dp1_1)), (mp, .inl (cI, 16, .inl pr))]) [0, 1, 2, 3, 4] (va_runV (As := [.int 0, .int 0]) (rest := []) ⟨hx, hb, hml, hown, hg⟩ (kX6_goes l dC dI B cI cC cJ mo mx mt md mp tx td dp pr th fl fa sn pn kp cm 0 0 dp1_1 (by omega) (by omega) (by omega) (by omega) (by omega) (by omega) hF_1 _) (cwV 2 hg (gi_V w_613 w_614 w_705 w_8 w_615) rfl rfl rfl (by decide +kernel) ⟨Nat.le_of_ble_eq_true rfl, Nat.le_of_ble_eq_true rfl⟩) (pre_MV (va_recv hK hP (ci := 6) (q0 := 0) rfl rfl) (Nat.le_trans hB hS.1) (hP.sub [0, 1, 2, 3, 4] rfl) hK ((hD.weaken (fun _ _ _ h => hAB _ h)).sub [0, 1, 2, 3, 4] (by decide) rfl) hT) rfl rfl hl.1 rfl (lv_room (Nat.le_of_ble_eq_true rfl)) dX6_badAt_3 ⟨Nat.le_of_ble_eq_true rfl, Nat.le_of_ble_eq_true rfl⟩) hP hD hS hA rfl (Nat.le_of_ble_eq_true rfl) rfl rfl (fun H locs hP hD hS => ?_)
  refine W.eq (g2 := F0 m 6 ls []) rfl ?_
  refine lv_iload_n hx hb dX6_badAt_6 rfl (lv_at hl 1 rfl) ?_
  refine lv_istore_n (lv' := [(2, .int p0), (0, .ref mo), (1, .int p0)]) hx hb dX6_badAt_7 rfl hl (by decide) rfl (fun ls hl => ?_)
  refine lv_iconst (v := 0) hx hb dX6_badAt_8 (by decide) ?_
  refine lv_istore_n (lv' := [(3, .int 0), (2, .int p0), (0, .ref mo), (1, .int p0)]) hx hb dX6_badAt_9 rfl hl (by decide) rfl (fun ls hl => ?_)
  refine loop_M (σ := Nat × Int32) (fun n x H locs ls => 4 - x.1 < n ∧ x.1 ≤ 4 ∧ m_badAt td pn dp p0 = m_badOut td pn dp1_1 p0 x.1 x.2 ∧ va_P (dC, dI) vwCl [(mo, .inr (6, [.int th, .ref mx, .int (nI sn), .int fl, .int fa, .ref mt, .int (nI pn), .int (nI kp), .int (nI cm), .ref md, .ref mp])), (mx, .inl (cI, 500, .inl tx)), (mt, .inl (cI, 900, .inl td)), (md, .inl (cI, 16, .inl dp1_1)), (mp, .inl (cI, 16, .inl pr))] H ∧ va_D A [(mo, .inr (6, [.int th, .ref mx, .int (nI sn), .int fl, .int fa, .ref mt, .int (nI pn), .int (nI kp), .int (nI cm), .ref md, .ref mp])), (mx, .inl (cI, 500, .inl tx)), (mt, .inl (cI, 900, .inl td)), (md, .inl (cI, 16, .inl dp1_1)), (mp, .inl (cI, 16, .inl pr))] ∧ va_S A s.heap H locs ∧ lv_has ls 6 [(0, .ref mo), (1, .int p0), (2, .int x.2), (3, .int (nI x.1))]) (fun n x H locs ls ih_2 hI => ?_) (fun x H locs ls hI => ?_) (n := (4 - 0) + 1) (x := (0, p0)) ⟨(Nat.lt_succ_self _), (by first | omega | (dsimp only; omega) | (dsimp only; done)), (by rw [m_badAt, hF_1]), hP, hD, hS, lv_sub hl [2, 3, 1, 0] rfl⟩
  · skip
    obtain ⟨wh, lf⟩ := x
    obtain ⟨hfu, hw0, he, hP, hD, hS, hl⟩ := hI
    have hfu : 4 - wh < n + 1 := hfu
    have hw0 : wh ≤ 4 := hw0
    have he : m_badAt td pn dp p0 = m_badOut td pn dp1_1 p0 wh lf := he
    have hP : va_P (dC, dI) vwCl [(mo, .inr (6, [.int th, .ref mx, .int (nI sn), .int fl, .int fa, .ref mt, .int (nI pn), .int (nI kp), .int (nI cm), .ref md, .ref mp])), (mx, .inl (cI, 500, .inl tx)), (mt, .inl (cI, 900, .inl td)), (md, .inl (cI, 16, .inl dp1_1)), (mp, .inl (cI, 16, .inl pr))] H := hP
    have hD : va_D A [(mo, .inr (6, [.int th, .ref mx, .int (nI sn), .int fl, .int fa, .ref mt, .int (nI pn), .int (nI kp), .int (nI cm), .ref md, .ref mp])), (mx, .inl (cI, 500, .inl tx)), (mt, .inl (cI, 900, .inl td)), (md, .inl (cI, 16, .inl dp1_1)), (mp, .inl (cI, 16, .inl pr))] := hD
    have hl : lv_has ls 6 [(0, .ref mo), (1, .int p0), (2, .int lf), (3, .int (nI wh))] := hl
    refine lv_iload_n hx hb dX6_badAt_10 rfl (lv_at hl 3 rfl) ?_
    refine lv_iconst (v := 4) hx hb dX6_badAt_11 (by decide) ?_
    refine lv_icmp_ge (tgt := 78) hx hb dX6_badAt_12 (by decide) (fun c_3 => ?_) (fun c_3 => ?_)
    · skip
      have c_3 := na_le (a := 4) (b := wh) c_3 (by omega) (by omega)
      refine lv_iload_n hx hb dX6_badAt_78 rfl (lv_at hl 2 rfl) ?_
      refine lv_iload_n hx hb dX6_badAt_79 rfl (lv_at hl 1 rfl) ?_
      refine lv_isub hx hb dX6_badAt_80 ?_
      refine lv_iconst (v := 1) hx hb dX6_badAt_81 (by decide) ?_
      refine lv_isub hx hb dX6_badAt_82 ?_
      have hP9 := hP
      have hS9 := hS
      have h9 : (m_badAt td pn dp p0, m_goes td pn 0 0 dp) = ((lf - p0) - 1, dp1_1) := by rw [he, m_badOut]; simp [hF_1, c_3]
      have h9 := hF.symm.trans h9
      cases h9
      exact W.iret hx hb hr (fun t ht hW => ⟨rfl, by rw [ht]; exact hP9, hS9.F ht⟩) hS9.2.2 dX6_badAt_83
    · skip
      have c_3 := na_nle (a := 4) (b := wh) c_3 (by omega) (by omega)
      refine lv_iconst (v := 0) hx hb dX6_badAt_15 (by decide) ?_
      refine lv_istore (lv' := [(4, .int 0), (0, .ref mo), (1, .int p0), (2, .int lf), (3, .int (nI wh))]) hx hb dX6_badAt_16 hl (by decide) rfl (fun ls hl => ?_)
      refine loop_M (σ := Nat × Int32) (fun n x H locs ls => pn - x.1 < n ∧ x.1 ≤ pn ∧ m_badAt td pn dp p0 = (match m_badIn td pn dp1_1 wh x.1 x.2 with | (some r, _) => nI r | (none, l1) => m_badOut td pn dp1_1 p0 (wh + 1) l1) ∧ va_P (dC, dI) vwCl [(mo, .inr (6, [.int th, .ref mx, .int (nI sn), .int fl, .int fa, .ref mt, .int (nI pn), .int (nI kp), .int (nI cm), .ref md, .ref mp])), (mx, .inl (cI, 500, .inl tx)), (mt, .inl (cI, 900, .inl td)), (md, .inl (cI, 16, .inl dp1_1)), (mp, .inl (cI, 16, .inl pr))] H ∧ va_D A [(mo, .inr (6, [.int th, .ref mx, .int (nI sn), .int fl, .int fa, .ref mt, .int (nI pn), .int (nI kp), .int (nI cm), .ref md, .ref mp])), (mx, .inl (cI, 500, .inl tx)), (mt, .inl (cI, 900, .inl td)), (md, .inl (cI, 16, .inl dp1_1)), (mp, .inl (cI, 16, .inl pr))] ∧ va_S A s.heap H locs ∧ lv_has ls 6 [(0, .ref mo), (1, .int p0), (2, .int x.2), (3, .int (nI wh)), (4, .int (nI x.1))]) (fun n x H locs ls ih_4 hI => ?_) (fun x H locs ls hI => ?_) (n := (pn - 0) + 1) (x := (0, lf)) ⟨(Nat.lt_succ_self _), (by first | omega | (dsimp only; omega) | (dsimp only; done)), (by rw [he, m_badOut, if_pos c_3]; first | done | rfl), hP, hD, hS, lv_sub hl [1, 2, 3, 4, 0] rfl⟩
      · skip
        obtain ⟨k, lg⟩ := x
        obtain ⟨hfu, hk0, he2, hP, hD, hS, hl⟩ := hI
        have hfu : pn - k < n + 1 := hfu
        have hk0 : k ≤ pn := hk0
        have he2 : m_badAt td pn dp p0 = (match m_badIn td pn dp1_1 wh k lg with | (some r, _) => nI r | (none, l1) => m_badOut td pn dp1_1 p0 (wh + 1) l1) := he2
        have hP : va_P (dC, dI) vwCl [(mo, .inr (6, [.int th, .ref mx, .int (nI sn), .int fl, .int fa, .ref mt, .int (nI pn), .int (nI kp), .int (nI cm), .ref md, .ref mp])), (mx, .inl (cI, 500, .inl tx)), (mt, .inl (cI, 900, .inl td)), (md, .inl (cI, 16, .inl dp1_1)), (mp, .inl (cI, 16, .inl pr))] H := hP
        have hD : va_D A [(mo, .inr (6, [.int th, .ref mx, .int (nI sn), .int fl, .int fa, .ref mt, .int (nI pn), .int (nI kp), .int (nI cm), .ref md, .ref mp])), (mx, .inl (cI, 500, .inl tx)), (mt, .inl (cI, 900, .inl td)), (md, .inl (cI, 16, .inl dp1_1)), (mp, .inl (cI, 16, .inl pr))] := hD
        have hl : lv_has ls 6 [(0, .ref mo), (1, .int p0), (2, .int lg), (3, .int (nI wh)), (4, .int (nI k))] := hl
        refine lv_iload hx hb dX6_badAt_18 (lv_at hl 4 rfl) ?_
        refine lv_aload_n hx hb dX6_badAt_20 rfl (lv_at hl 0 rfl) ?_
        refine va_get (D := (dC, dI)) (ci := 6) (v := .int (nI pn)) (C := RX6) (T := TX6) (N := 11) hx hb hg in_X6 hown hK hP 0 rfl rfl 6 (by decide) (hg _ w_509) (fun _ h9 => h9) rfl dX6_badAt_21 ?_
        refine lv_icmp_ge (tgt := 72) hx hb dX6_badAt_24 (by decide) (fun c_5 => ?_) (fun c_5 => ?_)
        · skip
          have c_5 := na_le (a := pn) (b := k) c_5 (by omega) (by omega)
          refine lv_iinc (v := (nI (wh + 1))) (lv' := [(3, .int (nI (wh + 1))), (0, .ref mo), (1, .int p0), (2, .int lg), (4, .int (nI k))]) hx hb dX6_badAt_72 hl (k := 3) rfl (by rw [← nI_add]; rfl) (by decide) rfl (fun ls hl => ?_)
          refine lv_goto (tgt := 10) hx hb dX6_badAt_75 (by decide) ?_
          exact ih_2 (wh + 1, lg) _ _ _ ⟨(by first | omega | (dsimp only; omega) | (dsimp only; done)), (by first | omega | (dsimp only; omega) | (dsimp only; done)), (by (try dsimp only); rw [he2, m_badIn]; simp [c_5]), hP, hD, hS, lv_sub hl [1, 2, 3, 0] rfl⟩
        · skip
          have c_5 := na_nle (a := pn) (b := k) c_5 (by omega) (by omega)
          refine lv_aload_n hx hb dX6_badAt_27 rfl (lv_at hl 0 rfl) ?_
          refine lv_iload hx hb dX6_badAt_28 (lv_at hl 4 rfl) ?_
          refine lv_iload_n hx hb dX6_badAt_30 rfl (lv_at hl 3 rfl) ?_
          refine go_R (r := (bI (m_isBad td pn dp1_1 k wh))) (va_runV (As := [.int (nI k), .int (nI wh)]) (rest := []) ⟨hx, hb, hml, hown, hg⟩ (kX6_isBad l dC dI B cI cC cJ mo mx mt md mp tx td dp1_1 pr th fl fa sn pn kp cm k wh (by omega) (by omega) (by omega) (by omega) (by omega) (by omega) (by omega)) (cwV 2 hg (gi_V w_630 w_631 w_707 w_8 w_632) rfl rfl rfl (by decide +kernel) ⟨Nat.le_of_ble_eq_true rfl, Nat.le_of_ble_eq_true rfl⟩) (pre_RV (va_recv hK hP (ci := 6) (q0 := 0) rfl rfl) (hP.sub [0, 1, 2, 3, 4] rfl) hK (hT.kept (hS.mono hAB))) rfl rfl hl.1 rfl (lv_room (Nat.le_of_ble_eq_true rfl)) dX6_badAt_31 ⟨Nat.le_of_ble_eq_true rfl, Nat.le_of_ble_eq_true rfl⟩) ?_
          refine lv_istore (lv' := [(5, .int (bI (m_isBad td pn dp1_1 k wh))), (0, .ref mo), (1, .int p0), (2, .int lg), (3, .int (nI wh)), (4, .int (nI k))]) hx hb dX6_badAt_34 hl (by decide) rfl (fun ls hl => ?_)
          refine lv_iload hx hb dX6_badAt_36 (lv_at hl 0 rfl) ?_
          refine lv_if_eq (tgt := 53) hx hb dX6_badAt_38 (by decide) (fun c_6 => ?_) (fun c_6 => ?_)
          · skip
            have c_6 := bI_eq0 c_6
            refine lv_iload_n hx hb dX6_badAt_53 rfl (lv_at hl 3 rfl) ?_
            refine lv_iload hx hb dX6_badAt_54 (lv_at hl 0 rfl) ?_
            refine lv_if_eq (tgt := 63) hx hb dX6_badAt_56 (by decide) (fun c_7 => ?_) (fun c_7 => ?_)
            · skip
              have c_7 := bI_eq0 c_7
              refine lv_iconst (v := 0) hx hb dX6_badAt_63 (by decide) ?_
              refine lv_isub hx hb dX6_badAt_64 ?_
              refine lv_istore_n (lv' := [(2, .int (lg - 0)), (5, .int (bI (m_isBad td pn dp1_1 k wh))), (0, .ref mo), (1, .int p0), (3, .int (nI wh)), (4, .int (nI k))]) hx hb dX6_badAt_65 rfl hl (by decide) rfl (fun ls hl => ?_)
              refine lv_iinc (v := (nI (k + 1))) (lv' := [(4, .int (nI (k + 1))), (2, .int (lg - 0)), (5, .int (bI (m_isBad td pn dp1_1 k wh))), (0, .ref mo), (1, .int p0), (3, .int (nI wh))]) hx hb dX6_badAt_66 hl (k := 5) rfl (by rw [← nI_add]; rfl) (by decide) rfl (fun ls hl => ?_)
              refine lv_goto (tgt := 18) hx hb dX6_badAt_69 (by decide) ?_
              exact ih_4 (k + 1, lg - 0) _ _ _ ⟨(by first | omega | (dsimp only; omega) | (dsimp only; done)), (by first | omega | (dsimp only; omega) | (dsimp only; done)), (by (try dsimp only); rw [he2, m_badIn]; simp [c_5, c_6, c_7]), hP, hD, hS, lv_sub hl [3, 4, 1, 5, 0] rfl⟩
            · skip
              have c_7 := bI_ne0 c_7
              exact absurd (c_6.symm.trans c_7) (by decide)
          · skip
            have c_6 := bI_ne0 c_6
            refine lv_iload_n hx hb dX6_badAt_41 rfl (lv_at hl 3 rfl) ?_
            refine lv_if_ne (tgt := 53) hx hb dX6_badAt_42 (by decide) (fun c_8 => ?_) (fun c_8 => ?_)
            · skip
              refine lv_iload_n hx hb dX6_badAt_53 rfl (lv_at hl 3 rfl) ?_
              refine lv_iload hx hb dX6_badAt_54 (lv_at hl 0 rfl) ?_
              refine lv_if_eq (tgt := 63) hx hb dX6_badAt_56 (by decide) (fun c_9 => ?_) (fun c_9 => ?_)
              · skip
                have c_9 := bI_eq0 c_9
                exact absurd (c_6.symm.trans c_9) (by decide)
              · skip
                have c_9 := bI_ne0 c_9
                refine lv_iconst (v := 1) hx hb dX6_badAt_59 (by decide) ?_
                refine lv_goto (tgt := 64) hx hb dX6_badAt_60 (by decide) ?_
                refine lv_isub hx hb dX6_badAt_64 ?_
                refine lv_istore_n (lv' := [(2, .int (lg - 1)), (5, .int (bI (m_isBad td pn dp1_1 k wh))), (0, .ref mo), (1, .int p0), (3, .int (nI wh)), (4, .int (nI k))]) hx hb dX6_badAt_65 rfl hl (by decide) rfl (fun ls hl => ?_)
                refine lv_iinc (v := (nI (k + 1))) (lv' := [(4, .int (nI (k + 1))), (2, .int (lg - 1)), (5, .int (bI (m_isBad td pn dp1_1 k wh))), (0, .ref mo), (1, .int p0), (3, .int (nI wh))]) hx hb dX6_badAt_66 hl (k := 5) rfl (by rw [← nI_add]; rfl) (by decide) rfl (fun ls hl => ?_)
                refine lv_goto (tgt := 18) hx hb dX6_badAt_69 (by decide) ?_
                exact ih_4 (k + 1, lg - 1) _ _ _ ⟨(by first | omega | (dsimp only; omega) | (dsimp only; done)), (by first | omega | (dsimp only; omega) | (dsimp only; done)), (by (try dsimp only); rw [he2, m_badIn]; simp [c_5, c_6, c_8, c_9]), hP, hD, hS, lv_sub hl [3, 4, 1, 5, 0] rfl⟩
            · skip
              refine lv_bipush (v := 10) hx hb dX6_badAt_45 (by decide) ?_
              refine lv_iload hx hb dX6_badAt_47 (lv_at hl 5 rfl) ?_
              refine lv_imul hx hb dX6_badAt_49 ?_
              refine top_eq (y := (nI (10 * k))) (by exact pk_mul _ _) ?_
              refine lv_iload_n hx hb dX6_badAt_50 rfl (lv_at hl 4 rfl) ?_
              refine lv_iadd hx hb dX6_badAt_51 ?_
              refine top_eq (y := (nI ((10 * k) + wh))) (by exact nI_add _ _) ?_
              have hP9 := hP
              have hS9 := hS
              have h9 : (m_badAt td pn dp p0, m_goes td pn 0 0 dp) = ((nI ((10 * k) + wh)), dp1_1) := by rw [he2, m_badIn]; simp [hF_1, c_5, c_6, eq_true c_8]
              have h9 := hF.symm.trans h9
              cases h9
              exact W.iret hx hb hr (fun t ht hW => ⟨rfl, by rw [ht]; exact hP9, hS9.F ht⟩) hS9.2.2 dX6_badAt_52
      · exact absurd hI.1 (Nat.not_lt_zero _)
  · exact absurd hI.1 (Nat.not_lt_zero _)
set_option maxHeartbeats 4000000 in
set_option maxRecDepth 100000 in
theorem kX6_bad (l : Launch) (dC : Nat → ClassId) (dI : Nat → Nat → Nat) (B : Nat) (cI cC cJ : ClassId) (mo : Nat) (mx : Nat) (mt : Nat) (md : Nat) (mp : Nat) (tx : Nat → Int32) (td : Nat → Int32) (dp : Nat → Int32) (pr : Nat → Int32) (th : Int32) (fl : Int32) (fa : Int32) (sn : Nat) (pn : Nat) (kp : Nat) (cm : Nat) (x1 : Int32) (dp1 : Nat → Int32) (hsn : sn ≤ 500) (hpn : pn ≤ 50) (hkp : kp ≤ 50) (hcm : cm ≤ 50) (hok : m_ok td pn) (hF : (-1 - m_badAt td pn dp 1000, m_goes td pn 0 0 dp) = (x1, dp1)) (sz9 : Nat) : Met l yX6_bad wsX6_bad ({ frames := 3, cells := 0, slots := 0, locals := 74 }) (q_Mp (dC, dI) vwCl [.ref mo] [(mo, .inr (6, [.int th, .ref mx, .int (nI sn), .int fl, .int fa, .ref mt, .int (nI pn), .int (nI kp), .int (nI cm), .ref md, .ref mp])), (mx, .inl (cI, 500, .inl tx)), (mt, .inl (cI, 900, .inl td)), (md, .inl (cI, 16, .inl dp)), (mp, .inl (cI, 16, .inl pr))] [(cI, .int), (cC, .char), (cJ, .long)] B sz9) (q_Mq (dC, dI) vwCl [(mo, .inr (6, [.int 0, .ref mx, .int (nI sn), .int fl, .int fa, .ref mt, .int (nI pn), .int (nI kp), .int (nI cm), .ref md, .ref mp])), (mx, .inl (cI, 500, .inl tx)), (mt, .inl (cI, 900, .inl td)), (md, .inl (cI, 16, .inl dp1)), (mp, .inl (cI, 16, .inl pr))] (va_A [(mo, .inr (6, [.int th, .ref mx, .int (nI sn), .int fl, .int fa, .ref mt, .int (nI pn), .int (nI kp), .int (nI cm), .ref md, .ref mp])), (mx, .inl (cI, 500, .inl tx)), (mt, .inl (cI, 900, .inl td)), (md, .inl (cI, 16, .inl dp)), (mp, .inl (cI, 16, .inl pr))] sz9) (some (.int x1))) 0 0 (va_A [(mo, .inr (6, [.int th, .ref mx, .int (nI sn), .int fl, .int fa, .ref mt, .int (nI pn), .int (nI kp), .int (nI cm), .ref md, .ref mp])), (mx, .inl (cI, 500, .inl tx)), (mt, .inl (cI, 900, .inl td)), (md, .inl (cI, 16, .inl dp)), (mp, .inl (cI, 16, .inl pr))] sz9) := by
  refine Met.ofW (cc := cX6_bad) (maxL := 1) (ret := (some .int)) (by decide) rfl ?_
  intro p e s m args below meth c s₁ Bd hml hv
  obtain ⟨rfl, hsz9, hB, hP, hK, hD0, hT⟩ := hv
  have hx := Bd.exec
  have hb := Bd.bytes
  have hr := Bd.returns
  have hts := atoms_spec (ws := wsX6_bad) Bd.pre
  have hg : ∀ w ∈ lw_good, w.before _ s = true := fun w h => hts w (List.mem_cons_of_mem _ h)
  have hown : s.vm.findClass RX6 = some m.cls := findClass_of_methodNamed Bd.named
  have hlocks := Bd.notSynchronized
  subst hsz9
  have hD := hD0.self (sz := s.heap.size)
  generalize hAe : va_A [(mo, .inr (6, [.int th, .ref mx, .int (nI sn), .int fl, .int fa, .ref mt, .int (nI pn), .int (nI kp), .int (nI cm), .ref md, .ref mp])), (mx, .inl (cI, 500, .inl tx)), (mt, .inl (cI, 900, .inl td)), (md, .inl (cI, 16, .inl dp)), (mp, .inl (cI, 16, .inl pr))] s.heap.size = A at hD ⊢
  have hA : ∀ q : Nat, s.heap.size ≤ q → A q := fun q h => by rw [← hAe]; exact Or.inr h
  have hAB : ∀ q, A q → B ≤ q := by rw [← hAe]; exact va_A.ge hD0 hB
  have hS : va_S A s.heap s.heap [] := va_S.rf
  have hP : va_P (dC, dI) vwCl [(mo, .inr (6, [.int th, .ref mx, .int (nI sn), .int fl, .int fa, .ref mt, .int (nI pn), .int (nI kp), .int (nI cm), .ref md, .ref mp])), (mx, .inl (cI, 500, .inl tx)), (mt, .inl (cI, 900, .inl td)), (md, .inl (cI, 16, .inl dp)), (mp, .inl (cI, 16, .inl pr))] s.heap := hP
  have hl := lv_entry ([.ref mo]) (n := 1) (Nat.le_of_ble_eq_true rfl)
  rw [lg_entry_eq]
  generalize (lg_sl ([.ref mo]) ++ List.replicate (1 - (lg_sl ([.ref mo])).length) Slot.unset).toArray = ls at hl ⊢
  have hl : lv_has ls 1 [(0, .ref mo)] := hl
  refine lv_aload_n hx hb dX6_bad_0 rfl (lv_at hl 0 rfl) ?_
  refine lv_iconst (v := 0) hx hb dX6_bad_1 (by decide) ?_
  refine va_put (D := (dC, dI)) (ci := 6) (v := .int 0) (ty := .int) (C := RX6) (T := TX6) (N := 11) hx hb hg in_X6 tyX6 tyX6_ok nmX6_ok hown hK hP hD hS 0 rfl rfl 0 (by decide) (hg _ w_503) (fun _ h9 => h9) rfl (by decide +kernel) rfl rfl (Nat.le_of_ble_eq_true rfl) dX6_bad_2 (fun H locs hP hD hS => ?_)
  have hP : va_P (dC, dI) vwCl [(mo, .inr (6, [.int 0, .ref mx, .int (nI sn), .int fl, .int fa, .ref mt, .int (nI pn), .int (nI kp), .int (nI cm), .ref md, .ref mp])), (mx, .inl (cI, 500, .inl tx)), (mt, .inl (cI, 900, .inl td)), (md, .inl (cI, 16, .inl dp)), (mp, .inl (cI, 16, .inl pr))] H := hP
  have hD : va_D A [(mo, .inr (6, [.int 0, .ref mx, .int (nI sn), .int fl, .int fa, .ref mt, .int (nI pn), .int (nI kp), .int (nI cm), .ref md, .ref mp])), (mx, .inl (cI, 500, .inl tx)), (mt, .inl (cI, 900, .inl td)), (md, .inl (cI, 16, .inl dp)), (mp, .inl (cI, 16, .inl pr))] := hD
  refine lv_iconst (v := (-1)) hx hb dX6_bad_5 (by decide) ?_
  refine lv_aload_n hx hb dX6_bad_6 rfl (lv_at hl 0 rfl) ?_
  refine lv_sipush (v := 1000) hx hb dX6_bad_7 (by decide) ?_
  obtain ⟨x1_1, dp1_1, hF_1⟩ : ∃ (x1_1 : Int32) (dp1_1 : Nat → Int32), (m_badAt td pn dp 1000, m_goes td pn 0 0 dp) = (x1_1, dp1_1) := ⟨_, _, rfl⟩
  refine go_M (r := some (.int x1_1)) (wc' := [(mo, .inr (6, [.int 0, .ref mx, .int (nI sn), .int fl, .int fa, .ref mt, .int (nI pn), .int (nI kp), .int (nI cm), .ref md, .ref mp])), (mx, .inl (cI, 500, .inl tx)), (mt, .inl (cI, 900, .inl td)), (md, .inl (cI, 16, .inl dp1_1)), (mp, .inl (cI, 16, .inl pr))]) (w2 := [(mo, .inr (6, [.int 0, .ref mx, .int (nI sn), .int fl, .int fa, .ref mt, .int (nI pn), .int (nI kp), .int (nI cm), .ref md, .ref mp])), (mx, .inl (cI, 500, .inl tx)), (mt, .inl (cI, 900, .inl td)), (md, .inl (cI, 16, .inl dp1_1)), (mp, .inl (cI, 16, .inl pr))]) [0, 1, 2, 3, 4] (va_runV (As := [.int 1000]) (rest := [.int (-1)]) ⟨hx, hb, hml, hown, hg⟩ (kX6_badAt l dC dI B cI cC cJ mo mx mt md mp tx td dp pr 0 fl fa sn pn kp cm 1000 x1_1 dp1_1 (by omega) (by omega) (by omega) (by omega) (by omega) hF_1 _) (cwV 1 hg (gi_V w_627 w_628 w_706 w_8 w_629) rfl rfl rfl (by decide +kernel) ⟨Nat.le_of_ble_eq_true rfl, Nat.le_of_ble_eq_true rfl⟩) (pre_MV (va_recv hK hP (ci := 6) (q0 := 0) rfl rfl) (Nat.le_trans hB hS.1) (hP.sub [0, 1, 2, 3, 4] rfl) hK ((hD.weaken (fun _ _ _ h => hAB _ h)).sub [0, 1, 2, 3, 4] (by decide) rfl) (hT.kept (hS.mono hAB))) rfl rfl hl.1 rfl (lv_room (Nat.le_of_ble_eq_true rfl)) dX6_bad_10 ⟨Nat.le_of_ble_eq_true rfl, Nat.le_of_ble_eq_true rfl⟩) hP hD hS hA rfl (Nat.le_of_ble_eq_true rfl) rfl rfl (fun H locs hP hD hS => ?_)
  refine W.eq (g2 := F0 m 13 ls [.int x1_1, .int (-1)]) rfl ?_
  refine lv_isub hx hb dX6_bad_13 ?_
  have hP9 := hP
  have hS9 := hS
  have h9 : (-1 - m_badAt td pn dp 1000, m_goes td pn 0 0 dp) = ((-1) - x1_1, dp1_1) := by rw [Prod.mk.injEq] at hF_1; rw [hF_1.1, hF_1.2]
  have h9 := hF.symm.trans h9
  obtain ⟨rfl, rfl⟩ := Prod.mk.inj h9
  exact W.iret hx hb hr (fun t ht hW => ⟨rfl, by rw [ht]; exact hP9, hS9.F ht⟩) hS9.2.2 dX6_bad_14
set_option maxHeartbeats 4000000 in
set_option maxRecDepth 100000 in
theorem kX6_unjoined (l : Launch) (dC : Nat → ClassId) (dI : Nat → Nat → Nat) (B : Nat) (cI cC cJ : ClassId) (mo : Nat) (mx : Nat) (mt : Nat) (md : Nat) (mp : Nat) (tx : Nat → Int32) (td : Nat → Int32) (dp : Nat → Int32) (pr : Nat → Int32) (th : Int32) (fl : Int32) (fa : Int32) (sn : Nat) (pn : Nat) (kp : Nat) (cm : Nat) (p0 : Int32) (x1 : Int32) (dp1 : Nat → Int32) (hsn : sn ≤ 500) (hpn : pn ≤ 50) (hkp : kp ≤ 50) (hcm : cm ≤ 50) (hok : m_ok td pn) (hF : m_unj td pn dp p0 = (x1, dp1)) (sz9 : Nat) : Met l yX6_unjoined wsX6_unjoined ({ frames := 3, cells := 0, slots := 0, locals := 74 }) (q_Mp (dC, dI) vwCl [.ref mo, .int p0] [(mo, .inr (6, [.int th, .ref mx, .int (nI sn), .int fl, .int fa, .ref mt, .int (nI pn), .int (nI kp), .int (nI cm), .ref md, .ref mp])), (mx, .inl (cI, 500, .inl tx)), (mt, .inl (cI, 900, .inl td)), (md, .inl (cI, 16, .inl dp)), (mp, .inl (cI, 16, .inl pr))] [(cI, .int), (cC, .char), (cJ, .long)] B sz9) (q_Mq (dC, dI) vwCl [(mo, .inr (6, [.int 0, .ref mx, .int (nI sn), .int fl, .int fa, .ref mt, .int (nI pn), .int (nI kp), .int (nI cm), .ref md, .ref mp])), (mx, .inl (cI, 500, .inl tx)), (mt, .inl (cI, 900, .inl td)), (md, .inl (cI, 16, .inl dp1)), (mp, .inl (cI, 16, .inl pr))] (va_A [(mo, .inr (6, [.int th, .ref mx, .int (nI sn), .int fl, .int fa, .ref mt, .int (nI pn), .int (nI kp), .int (nI cm), .ref md, .ref mp])), (mx, .inl (cI, 500, .inl tx)), (mt, .inl (cI, 900, .inl td)), (md, .inl (cI, 16, .inl dp)), (mp, .inl (cI, 16, .inl pr))] sz9) (some (.int x1))) 0 0 (va_A [(mo, .inr (6, [.int th, .ref mx, .int (nI sn), .int fl, .int fa, .ref mt, .int (nI pn), .int (nI kp), .int (nI cm), .ref md, .ref mp])), (mx, .inl (cI, 500, .inl tx)), (mt, .inl (cI, 900, .inl td)), (md, .inl (cI, 16, .inl dp)), (mp, .inl (cI, 16, .inl pr))] sz9) := by
  refine Met.ofW (cc := cX6_unjoined) (maxL := 3) (ret := (some .int)) (by decide) rfl ?_
  intro p e s m args below meth c s₁ Bd hml hv
  obtain ⟨rfl, hsz9, hB, hP, hK, hD0, hT⟩ := hv
  have hx := Bd.exec
  have hb := Bd.bytes
  have hr := Bd.returns
  have hts := atoms_spec (ws := wsX6_unjoined) Bd.pre
  have hg : ∀ w ∈ lw_good, w.before _ s = true := fun w h => hts w (List.mem_cons_of_mem _ h)
  have hown : s.vm.findClass RX6 = some m.cls := findClass_of_methodNamed Bd.named
  have hlocks := Bd.notSynchronized
  subst hsz9
  have hD := hD0.self (sz := s.heap.size)
  generalize hAe : va_A [(mo, .inr (6, [.int th, .ref mx, .int (nI sn), .int fl, .int fa, .ref mt, .int (nI pn), .int (nI kp), .int (nI cm), .ref md, .ref mp])), (mx, .inl (cI, 500, .inl tx)), (mt, .inl (cI, 900, .inl td)), (md, .inl (cI, 16, .inl dp)), (mp, .inl (cI, 16, .inl pr))] s.heap.size = A at hD ⊢
  have hA : ∀ q : Nat, s.heap.size ≤ q → A q := fun q h => by rw [← hAe]; exact Or.inr h
  have hAB : ∀ q, A q → B ≤ q := by rw [← hAe]; exact va_A.ge hD0 hB
  have hS : va_S A s.heap s.heap [] := va_S.rf
  have hP : va_P (dC, dI) vwCl [(mo, .inr (6, [.int th, .ref mx, .int (nI sn), .int fl, .int fa, .ref mt, .int (nI pn), .int (nI kp), .int (nI cm), .ref md, .ref mp])), (mx, .inl (cI, 500, .inl tx)), (mt, .inl (cI, 900, .inl td)), (md, .inl (cI, 16, .inl dp)), (mp, .inl (cI, 16, .inl pr))] s.heap := hP
  have hl := lv_entry ([.ref mo, .int p0]) (n := 3) (Nat.le_of_ble_eq_true rfl)
  rw [lg_entry_eq]
  generalize (lg_sl ([.ref mo, .int p0]) ++ List.replicate (3 - (lg_sl ([.ref mo, .int p0])).length) Slot.unset).toArray = ls at hl ⊢
  have hl : lv_has ls 3 [(0, .ref mo), (1, .int p0)] := hl
  refine lv_aload_n hx hb dX6_unjoined_0 rfl (lv_at hl 0 rfl) ?_
  refine lv_iconst (v := 0) hx hb dX6_unjoined_1 (by decide) ?_
  refine va_put (D := (dC, dI)) (ci := 6) (v := .int 0) (ty := .int) (C := RX6) (T := TX6) (N := 11) hx hb hg in_X6 tyX6 tyX6_ok nmX6_ok hown hK hP hD hS 0 rfl rfl 0 (by decide) (hg _ w_503) (fun _ h9 => h9) rfl (by decide +kernel) rfl rfl (Nat.le_of_ble_eq_true rfl) dX6_unjoined_2 (fun H locs hP hD hS => ?_)
  have hP : va_P (dC, dI) vwCl [(mo, .inr (6, [.int 0, .ref mx, .int (nI sn), .int fl, .int fa, .ref mt, .int (nI pn), .int (nI kp), .int (nI cm), .ref md, .ref mp])), (mx, .inl (cI, 500, .inl tx)), (mt, .inl (cI, 900, .inl td)), (md, .inl (cI, 16, .inl dp)), (mp, .inl (cI, 16, .inl pr))] H := hP
  have hD : va_D A [(mo, .inr (6, [.int 0, .ref mx, .int (nI sn), .int fl, .int fa, .ref mt, .int (nI pn), .int (nI kp), .int (nI cm), .ref md, .ref mp])), (mx, .inl (cI, 500, .inl tx)), (mt, .inl (cI, 900, .inl td)), (md, .inl (cI, 16, .inl dp)), (mp, .inl (cI, 16, .inl pr))] := hD
  refine lv_iload_n hx hb dX6_unjoined_5 rfl (lv_at hl 1 rfl) ?_
  refine lv_if_ge (tgt := 13) hx hb dX6_unjoined_6 (by decide) (fun c_1 => ?_) (fun c_1 => ?_)
  · skip
    refine lv_aload_n hx hb dX6_unjoined_13 rfl (lv_at hl 0 rfl) ?_
    refine lv_iload_n hx hb dX6_unjoined_14 rfl (lv_at hl 1 rfl) ?_
    obtain ⟨x1_2, dp1_2, hF_2⟩ : ∃ (x1_2 : Int32) (dp1_2 : Nat → Int32), (m_badAt td pn dp p0, m_goes td pn 0 0 dp) = (x1_2, dp1_2) := ⟨_, _, rfl⟩
    refine go_M (r := some (.int x1_2)) (wc' := [(mo, .inr (6, [.int 0, .ref mx, .int (nI sn), .int fl, .int fa, .ref mt, .int (nI pn), .int (nI kp), .int (nI cm), .ref md, .ref mp])), (mx, .inl (cI, 500, .inl tx)), (mt, .inl (cI, 900, .inl td)), (md, .inl (cI, 16, .inl dp1_2)), (mp, .inl (cI, 16, .inl pr))]) (w2 := [(mo, .inr (6, [.int 0, .ref mx, .int (nI sn), .int fl, .int fa, .ref mt, .int (nI pn), .int (nI kp), .int (nI cm), .ref md, .ref mp])), (mx, .inl (cI, 500, .inl tx)), (mt, .inl (cI, 900, .inl td)), (md, .inl (cI, 16, .inl dp1_2)), (mp, .inl (cI, 16, .inl pr))]) [0, 1, 2, 3, 4] (va_runV (As := [.int p0]) (rest := []) ⟨hx, hb, hml, hown, hg⟩ (kX6_badAt l dC dI B cI cC cJ mo mx mt md mp tx td dp pr 0 fl fa sn pn kp cm p0 x1_2 dp1_2 (by omega) (by omega) (by omega) (by omega) (by omega) hF_2 _) (cwV 1 hg (gi_V w_627 w_628 w_706 w_8 w_629) rfl rfl rfl (by decide +kernel) ⟨Nat.le_of_ble_eq_true rfl, Nat.le_of_ble_eq_true rfl⟩) (pre_MV (va_recv hK hP (ci := 6) (q0 := 0) rfl rfl) (Nat.le_trans hB hS.1) (hP.sub [0, 1, 2, 3, 4] rfl) hK ((hD.weaken (fun _ _ _ h => hAB _ h)).sub [0, 1, 2, 3, 4] (by decide) rfl) (hT.kept (hS.mono hAB))) rfl rfl hl.1 rfl (lv_room (Nat.le_of_ble_eq_true rfl)) dX6_unjoined_15 ⟨Nat.le_of_ble_eq_true rfl, Nat.le_of_ble_eq_true rfl⟩) hP hD hS hA rfl (Nat.le_of_ble_eq_true rfl) rfl rfl (fun H locs hP hD hS => ?_)
    refine W.eq (g2 := F0 m 18 ls [.int x1_2]) rfl ?_
    refine lv_istore_n (lv' := [(2, .int x1_2), (0, .ref mo), (1, .int p0)]) hx hb dX6_unjoined_18 rfl hl (by decide) rfl (fun ls hl => ?_)
    refine lv_iload_n hx hb dX6_unjoined_19 rfl (lv_at hl 0 rfl) ?_
    refine lv_if_ge (tgt := 27) hx hb dX6_unjoined_20 (by decide) (fun c_3 => ?_) (fun c_3 => ?_)
    · skip
      refine lv_iload_n hx hb dX6_unjoined_27 rfl (lv_at hl 0 rfl) ?_
      have hP9 := hP
      have hS9 := hS
      have h9 : m_unj td pn dp p0 = (x1_2, dp1_2) := by rw [Prod.mk.injEq] at hF_2; simp [m_unj, hF_2.1, hF_2.2, c_1, c_3]
      have h9 := hF.symm.trans h9
      cases h9
      exact W.iret hx hb hr (fun t ht hW => ⟨rfl, by rw [ht]; exact hP9, hS9.F ht⟩) hS9.2.2 dX6_unjoined_28
    · skip
      refine lv_iconst (v := (-1)) hx hb dX6_unjoined_23 (by decide) ?_
      refine lv_goto (tgt := 28) hx hb dX6_unjoined_24 (by decide) ?_
      have hP9 := hP
      have hS9 := hS
      have h9 : m_unj td pn dp p0 = ((-1), dp1_2) := by rw [Prod.mk.injEq] at hF_2; simp [m_unj, hF_2.1, hF_2.2, c_1, c_3]
      have h9 := hF.symm.trans h9
      cases h9
      exact W.iret hx hb hr (fun t ht hW => ⟨rfl, by rw [ht]; exact hP9, hS9.F ht⟩) hS9.2.2 dX6_unjoined_28
  · skip
    refine lv_iconst (v := (-1)) hx hb dX6_unjoined_9 (by decide) ?_
    refine lv_goto (tgt := 18) hx hb dX6_unjoined_10 (by decide) ?_
    refine lv_istore_n (lv' := [(2, .int (-1)), (0, .ref mo), (1, .int p0)]) hx hb dX6_unjoined_18 rfl hl (by decide) rfl (fun ls hl => ?_)
    refine lv_iload_n hx hb dX6_unjoined_19 rfl (lv_at hl 0 rfl) ?_
    refine lv_if_ge (tgt := 27) hx hb dX6_unjoined_20 (by decide) (fun c_4 => ?_) (fun c_4 => ?_)
    · skip
      exact absurd c_4 (by decide)
    · skip
      refine lv_iconst (v := (-1)) hx hb dX6_unjoined_23 (by decide) ?_
      refine lv_goto (tgt := 28) hx hb dX6_unjoined_24 (by decide) ?_
      have hP9 := hP
      have hS9 := hS
      have h9 : m_unj td pn dp p0 = ((-1), dp) := by simp [m_unj, c_1]
      have h9 := hF.symm.trans h9
      cases h9
      exact W.iret hx hb hr (fun t ht hW => ⟨rfl, by rw [ht]; exact hP9, hS9.F ht⟩) hS9.2.2 dX6_unjoined_28
set_option maxHeartbeats 4000000 in
set_option maxRecDepth 100000 in
theorem kX6_puts (l : Launch) (dC : Nat → ClassId) (dI : Nat → Nat → Nat) (B : Nat) (cI cC cJ : ClassId) (mo : Nat) (mx : Nat) (mt : Nat) (md : Nat) (mp : Nat) (tx : Nat → Int32) (td : Nat → Int32) (dp : Nat → Int32) (pr : Nat → Int32) (th : Int32) (fl : Int32) (fa : Int32) (sn : Nat) (pn : Nat) (kp : Nat) (cm : Nat) (q0 : Nat) (p1 : Int32) (p2 : Int32) (pr1 : Nat → Int32) (n1 : Nat) (hsn : sn ≤ 500) (hpn : pn ≤ 50) (hkp : kp ≤ 50) (hcm : cm ≤ 50) (hq0 : q0 ≤ 13) (hF : m_puts pr q0 p1 p2 = (pr1, n1)) (sz9 : Nat) : Met l yX6_puts wsX6_puts ({ frames := 0, cells := 0, slots := 0, locals := 0 }) (q_Mp (dC, dI) vwCl [.ref mo, .int (nI q0), .int p1, .int p2] [(mo, .inr (6, [.int th, .ref mx, .int (nI sn), .int fl, .int fa, .ref mt, .int (nI pn), .int (nI kp), .int (nI cm), .ref md, .ref mp])), (mx, .inl (cI, 500, .inl tx)), (mt, .inl (cI, 900, .inl td)), (md, .inl (cI, 16, .inl dp)), (mp, .inl (cI, 16, .inl pr))] [(cI, .int), (cC, .char), (cJ, .long)] B sz9) (q_Mq (dC, dI) vwCl [(mo, .inr (6, [.int th, .ref mx, .int (nI sn), .int fl, .int fa, .ref mt, .int (nI pn), .int (nI kp), .int (nI cm), .ref md, .ref mp])), (mx, .inl (cI, 500, .inl tx)), (mt, .inl (cI, 900, .inl td)), (md, .inl (cI, 16, .inl dp)), (mp, .inl (cI, 16, .inl pr1))] (va_A [(mo, .inr (6, [.int th, .ref mx, .int (nI sn), .int fl, .int fa, .ref mt, .int (nI pn), .int (nI kp), .int (nI cm), .ref md, .ref mp])), (mx, .inl (cI, 500, .inl tx)), (mt, .inl (cI, 900, .inl td)), (md, .inl (cI, 16, .inl dp)), (mp, .inl (cI, 16, .inl pr))] sz9) (some (.int (nI n1)))) 0 0 (va_A [(mo, .inr (6, [.int th, .ref mx, .int (nI sn), .int fl, .int fa, .ref mt, .int (nI pn), .int (nI kp), .int (nI cm), .ref md, .ref mp])), (mx, .inl (cI, 500, .inl tx)), (mt, .inl (cI, 900, .inl td)), (md, .inl (cI, 16, .inl dp)), (mp, .inl (cI, 16, .inl pr))] sz9) := by
  refine Met.ofW (cc := cX6_puts) (maxL := 5) (ret := (some .int)) (by decide) rfl ?_
  intro p e s m args below meth c s₁ Bd hml hv
  obtain ⟨rfl, hsz9, hB, hP, hK, hD0, hT⟩ := hv
  have hx := Bd.exec
  have hb := Bd.bytes
  have hr := Bd.returns
  have hts := atoms_spec (ws := wsX6_puts) Bd.pre
  have hg : ∀ w ∈ lw_good, w.before _ s = true := fun w h => hts w (List.mem_cons_of_mem _ h)
  have hown : s.vm.findClass RX6 = some m.cls := findClass_of_methodNamed Bd.named
  have hlocks := Bd.notSynchronized
  subst hsz9
  have hD := hD0.self (sz := s.heap.size)
  generalize hAe : va_A [(mo, .inr (6, [.int th, .ref mx, .int (nI sn), .int fl, .int fa, .ref mt, .int (nI pn), .int (nI kp), .int (nI cm), .ref md, .ref mp])), (mx, .inl (cI, 500, .inl tx)), (mt, .inl (cI, 900, .inl td)), (md, .inl (cI, 16, .inl dp)), (mp, .inl (cI, 16, .inl pr))] s.heap.size = A at hD ⊢
  have hA : ∀ q : Nat, s.heap.size ≤ q → A q := fun q h => by rw [← hAe]; exact Or.inr h
  have hAB : ∀ q, A q → B ≤ q := by rw [← hAe]; exact va_A.ge hD0 hB
  have hS : va_S A s.heap s.heap [] := va_S.rf
  have hP : va_P (dC, dI) vwCl [(mo, .inr (6, [.int th, .ref mx, .int (nI sn), .int fl, .int fa, .ref mt, .int (nI pn), .int (nI kp), .int (nI cm), .ref md, .ref mp])), (mx, .inl (cI, 500, .inl tx)), (mt, .inl (cI, 900, .inl td)), (md, .inl (cI, 16, .inl dp)), (mp, .inl (cI, 16, .inl pr))] s.heap := hP
  have hl := lv_entry ([.ref mo, .int (nI q0), .int p1, .int p2]) (n := 5) (Nat.le_of_ble_eq_true rfl)
  rw [lg_entry_eq]
  generalize (lg_sl ([.ref mo, .int (nI q0), .int p1, .int p2]) ++ List.replicate (5 - (lg_sl ([.ref mo, .int (nI q0), .int p1, .int p2])).length) Slot.unset).toArray = ls at hl ⊢
  have hl : lv_has ls 5 [(0, .ref mo), (1, .int (nI q0)), (2, .int p1), (3, .int p2)] := hl
  refine lv_iload_n hx hb dX6_puts_0 rfl (lv_at hl 1 rfl) ?_
  refine lv_istore (lv' := [(4, .int (nI q0)), (0, .ref mo), (1, .int (nI q0)), (2, .int p1), (3, .int p2)]) hx hb dX6_puts_1 hl (by decide) rfl (fun ls hl => ?_)
  refine lv_iload_n hx hb dX6_puts_3 rfl (lv_at hl 3 rfl) ?_
  refine lv_bipush (v := 9) hx hb dX6_puts_4 (by decide) ?_
  refine lv_icmp_le (tgt := 26) hx hb dX6_puts_6 (by decide) (fun c_1 => ?_) (fun c_1 => ?_)
  · skip
    refine lv_aload_n hx hb dX6_puts_26 rfl (lv_at hl 1 rfl) ?_
    refine va_get (D := (dC, dI)) (ci := 6) (v := .ref mp) (C := RX6) (T := TX6) (N := 11) hx hb hg in_X6 hown hK hP 0 rfl rfl 10 (by decide) (hg _ w_513) (fun _ h9 => h9) rfl dX6_puts_27 ?_
    refine lv_iload hx hb dX6_puts_30 (lv_at hl 0 rfl) ?_
    refine lv_bipush (v := 48) hx hb dX6_puts_32 (by decide) ?_
    refine lv_iload_n hx hb dX6_puts_34 rfl (lv_at hl 3 rfl) ?_
    refine lv_bipush (v := 10) hx hb dX6_puts_35 (by decide) ?_
    refine lv_irem hx hb dX6_puts_37 (by decide) ?_
    refine lv_iadd hx hb dX6_puts_38 ?_
    refine x_iast (k := q0) hx hb hK hP hD hS 4 0 rfl rfl (by omega) (by decide) dX6_puts_39 (fun H locs hP hD hS => ?_)
    have hP : va_P (dC, dI) vwCl [(mo, .inr (6, [.int th, .ref mx, .int (nI sn), .int fl, .int fa, .ref mt, .int (nI pn), .int (nI kp), .int (nI cm), .ref md, .ref mp])), (mx, .inl (cI, 500, .inl tx)), (mt, .inl (cI, 900, .inl td)), (md, .inl (cI, 16, .inl dp)), (mp, .inl (cI, 16, .inl (upd pr q0 (48 + (p1 - p1 / 10 * 10)))))] H := hP
    have hD : va_D A [(mo, .inr (6, [.int th, .ref mx, .int (nI sn), .int fl, .int fa, .ref mt, .int (nI pn), .int (nI kp), .int (nI cm), .ref md, .ref mp])), (mx, .inl (cI, 500, .inl tx)), (mt, .inl (cI, 900, .inl td)), (md, .inl (cI, 16, .inl dp)), (mp, .inl (cI, 16, .inl (upd pr q0 (48 + (p1 - p1 / 10 * 10)))))] := hD
    refine lv_aload_n hx hb dX6_puts_40 rfl (lv_at hl 1 rfl) ?_
    refine va_get (D := (dC, dI)) (ci := 6) (v := .ref mp) (C := RX6) (T := TX6) (N := 11) hx hb hg in_X6 hown hK hP 0 rfl rfl 10 (by decide) (hg _ w_513) (fun _ h9 => h9) rfl dX6_puts_41 ?_
    refine lv_iload hx hb dX6_puts_44 (lv_at hl 0 rfl) ?_
    refine lv_iconst (v := 1) hx hb dX6_puts_46 (by decide) ?_
    refine lv_iadd hx hb dX6_puts_47 ?_
    refine top_eq (y := (nI (q0 + 1))) (by exact nI_add _ _) ?_
    refine lv_iload_n hx hb dX6_puts_48 rfl (lv_at hl 4 rfl) ?_
    refine x_iast (k := q0 + 1) hx hb hK hP hD hS 4 0 rfl rfl (by omega) (by decide) dX6_puts_49 (fun H locs hP hD hS => ?_)
    have hP : va_P (dC, dI) vwCl [(mo, .inr (6, [.int th, .ref mx, .int (nI sn), .int fl, .int fa, .ref mt, .int (nI pn), .int (nI kp), .int (nI cm), .ref md, .ref mp])), (mx, .inl (cI, 500, .inl tx)), (mt, .inl (cI, 900, .inl td)), (md, .inl (cI, 16, .inl dp)), (mp, .inl (cI, 16, .inl (upd (upd pr q0 (48 + (p1 - p1 / 10 * 10))) (q0 + 1) p2)))] H := hP
    have hD : va_D A [(mo, .inr (6, [.int th, .ref mx, .int (nI sn), .int fl, .int fa, .ref mt, .int (nI pn), .int (nI kp), .int (nI cm), .ref md, .ref mp])), (mx, .inl (cI, 500, .inl tx)), (mt, .inl (cI, 900, .inl td)), (md, .inl (cI, 16, .inl dp)), (mp, .inl (cI, 16, .inl (upd (upd pr q0 (48 + (p1 - p1 / 10 * 10))) (q0 + 1) p2)))] := hD
    refine lv_iload hx hb dX6_puts_50 (lv_at hl 0 rfl) ?_
    refine lv_iconst (v := 2) hx hb dX6_puts_52 (by decide) ?_
    refine lv_iadd hx hb dX6_puts_53 ?_
    refine top_eq (y := (nI (q0 + 2))) (by exact nI_add _ _) ?_
    have hP9 := hP
    have hS9 := hS
    have h9 : m_puts pr q0 p1 p2 = (upd (upd pr q0 (48 + (p1 - p1 / 10 * 10))) (q0 + 1) p2, q0 + 2) := by simp [m_puts, c_1]
    have h9 := hF.symm.trans h9
    cases h9
    exact W.iret hx hb hr (fun t ht hW => ⟨rfl, by rw [ht]; exact hP9, hS9.F ht⟩) hS9.2.2 dX6_puts_54
  · skip
    refine lv_aload_n hx hb dX6_puts_9 rfl (lv_at hl 1 rfl) ?_
    refine va_get (D := (dC, dI)) (ci := 6) (v := .ref mp) (C := RX6) (T := TX6) (N := 11) hx hb hg in_X6 hown hK hP 0 rfl rfl 10 (by decide) (hg _ w_513) (fun _ h9 => h9) rfl dX6_puts_10 ?_
    refine lv_iload hx hb dX6_puts_13 (lv_at hl 0 rfl) ?_
    refine lv_bipush (v := 48) hx hb dX6_puts_15 (by decide) ?_
    refine lv_iload_n hx hb dX6_puts_17 rfl (lv_at hl 3 rfl) ?_
    refine lv_bipush (v := 10) hx hb dX6_puts_18 (by decide) ?_
    refine lv_idiv hx hb dX6_puts_20 (by decide) ?_
    refine lv_iadd hx hb dX6_puts_21 ?_
    refine x_iast (k := q0) hx hb hK hP hD hS 4 0 rfl rfl (by omega) (by decide) dX6_puts_22 (fun H locs hP hD hS => ?_)
    have hP : va_P (dC, dI) vwCl [(mo, .inr (6, [.int th, .ref mx, .int (nI sn), .int fl, .int fa, .ref mt, .int (nI pn), .int (nI kp), .int (nI cm), .ref md, .ref mp])), (mx, .inl (cI, 500, .inl tx)), (mt, .inl (cI, 900, .inl td)), (md, .inl (cI, 16, .inl dp)), (mp, .inl (cI, 16, .inl (upd pr q0 (48 + (p1 / 10)))))] H := hP
    have hD : va_D A [(mo, .inr (6, [.int th, .ref mx, .int (nI sn), .int fl, .int fa, .ref mt, .int (nI pn), .int (nI kp), .int (nI cm), .ref md, .ref mp])), (mx, .inl (cI, 500, .inl tx)), (mt, .inl (cI, 900, .inl td)), (md, .inl (cI, 16, .inl dp)), (mp, .inl (cI, 16, .inl (upd pr q0 (48 + (p1 / 10)))))] := hD
    refine lv_iinc (v := (nI (q0 + 1))) (lv' := [(4, .int (nI (q0 + 1))), (0, .ref mo), (1, .int (nI q0)), (2, .int p1), (3, .int p2)]) hx hb dX6_puts_23 hl (k := 0) rfl (by rw [← nI_add]; rfl) (by decide) rfl (fun ls hl => ?_)
    refine lv_aload_n hx hb dX6_puts_26 rfl (lv_at hl 1 rfl) ?_
    refine va_get (D := (dC, dI)) (ci := 6) (v := .ref mp) (C := RX6) (T := TX6) (N := 11) hx hb hg in_X6 hown hK hP 0 rfl rfl 10 (by decide) (hg _ w_513) (fun _ h9 => h9) rfl dX6_puts_27 ?_
    refine lv_iload hx hb dX6_puts_30 (lv_at hl 0 rfl) ?_
    refine lv_bipush (v := 48) hx hb dX6_puts_32 (by decide) ?_
    refine lv_iload_n hx hb dX6_puts_34 rfl (lv_at hl 3 rfl) ?_
    refine lv_bipush (v := 10) hx hb dX6_puts_35 (by decide) ?_
    refine lv_irem hx hb dX6_puts_37 (by decide) ?_
    refine lv_iadd hx hb dX6_puts_38 ?_
    refine x_iast (k := q0 + 1) hx hb hK hP hD hS 4 0 rfl rfl (by omega) (by decide) dX6_puts_39 (fun H locs hP hD hS => ?_)
    have hP : va_P (dC, dI) vwCl [(mo, .inr (6, [.int th, .ref mx, .int (nI sn), .int fl, .int fa, .ref mt, .int (nI pn), .int (nI kp), .int (nI cm), .ref md, .ref mp])), (mx, .inl (cI, 500, .inl tx)), (mt, .inl (cI, 900, .inl td)), (md, .inl (cI, 16, .inl dp)), (mp, .inl (cI, 16, .inl (upd (upd pr q0 (48 + (p1 / 10))) (q0 + 1) (48 + (p1 - p1 / 10 * 10)))))] H := hP
    have hD : va_D A [(mo, .inr (6, [.int th, .ref mx, .int (nI sn), .int fl, .int fa, .ref mt, .int (nI pn), .int (nI kp), .int (nI cm), .ref md, .ref mp])), (mx, .inl (cI, 500, .inl tx)), (mt, .inl (cI, 900, .inl td)), (md, .inl (cI, 16, .inl dp)), (mp, .inl (cI, 16, .inl (upd (upd pr q0 (48 + (p1 / 10))) (q0 + 1) (48 + (p1 - p1 / 10 * 10)))))] := hD
    refine lv_aload_n hx hb dX6_puts_40 rfl (lv_at hl 1 rfl) ?_
    refine va_get (D := (dC, dI)) (ci := 6) (v := .ref mp) (C := RX6) (T := TX6) (N := 11) hx hb hg in_X6 hown hK hP 0 rfl rfl 10 (by decide) (hg _ w_513) (fun _ h9 => h9) rfl dX6_puts_41 ?_
    refine lv_iload hx hb dX6_puts_44 (lv_at hl 0 rfl) ?_
    refine lv_iconst (v := 1) hx hb dX6_puts_46 (by decide) ?_
    refine lv_iadd hx hb dX6_puts_47 ?_
    refine top_eq (y := (nI ((q0 + 1) + 1))) (by exact nI_add _ _) ?_
    refine lv_iload_n hx hb dX6_puts_48 rfl (lv_at hl 4 rfl) ?_
    refine x_iast (k := (q0 + 1) + 1) hx hb hK hP hD hS 4 0 rfl rfl (by omega) (by decide) dX6_puts_49 (fun H locs hP hD hS => ?_)
    have hP : va_P (dC, dI) vwCl [(mo, .inr (6, [.int th, .ref mx, .int (nI sn), .int fl, .int fa, .ref mt, .int (nI pn), .int (nI kp), .int (nI cm), .ref md, .ref mp])), (mx, .inl (cI, 500, .inl tx)), (mt, .inl (cI, 900, .inl td)), (md, .inl (cI, 16, .inl dp)), (mp, .inl (cI, 16, .inl (upd (upd (upd pr q0 (48 + (p1 / 10))) (q0 + 1) (48 + (p1 - p1 / 10 * 10))) ((q0 + 1) + 1) p2)))] H := hP
    have hD : va_D A [(mo, .inr (6, [.int th, .ref mx, .int (nI sn), .int fl, .int fa, .ref mt, .int (nI pn), .int (nI kp), .int (nI cm), .ref md, .ref mp])), (mx, .inl (cI, 500, .inl tx)), (mt, .inl (cI, 900, .inl td)), (md, .inl (cI, 16, .inl dp)), (mp, .inl (cI, 16, .inl (upd (upd (upd pr q0 (48 + (p1 / 10))) (q0 + 1) (48 + (p1 - p1 / 10 * 10))) ((q0 + 1) + 1) p2)))] := hD
    refine lv_iload hx hb dX6_puts_50 (lv_at hl 0 rfl) ?_
    refine lv_iconst (v := 2) hx hb dX6_puts_52 (by decide) ?_
    refine lv_iadd hx hb dX6_puts_53 ?_
    refine top_eq (y := (nI ((q0 + 1) + 2))) (by exact nI_add _ _) ?_
    have hP9 := hP
    have hS9 := hS
    have h9 : m_puts pr q0 p1 p2 = (upd (upd (upd pr q0 (48 + (p1 / 10))) (q0 + 1) (48 + (p1 - p1 / 10 * 10))) ((q0 + 1) + 1) p2, (q0 + 1) + 2) := by simp [m_puts, c_1]
    have h9 := hF.symm.trans h9
    cases h9
    exact W.iret hx hb hr (fun t ht hW => ⟨rfl, by rw [ht]; exact hP9, hS9.F ht⟩) hS9.2.2 dX6_puts_54
set_option maxHeartbeats 4000000 in
set_option maxRecDepth 100000 in
theorem kX6_prints (l : Launch) (dC : Nat → ClassId) (dI : Nat → Nat → Nat) (B : Nat) (cI cC cJ : ClassId) (mo : Nat) (mx : Nat) (mt : Nat) (md : Nat) (mp : Nat) (tx : Nat → Int32) (td : Nat → Int32) (dp : Nat → Int32) (pr : Nat → Int32) (th : Int32) (fl : Int32) (fa : Int32) (sn : Nat) (pn : Nat) (kp : Nat) (cm : Nat) (q0 : Nat) (pr1 : Nat → Int32) (n1 : Nat) (hsn : sn ≤ 500) (hpn : pn ≤ 50) (hkp : kp ≤ 50) (hcm : cm ≤ 50) (hq0 : q0 < 50) (hF : m_prints td q0 pr = (pr1, n1)) (sz9 : Nat) : Met l yX6_prints wsX6_prints ({ frames := 1, cells := 0, slots := 0, locals := 24 }) (q_Mp (dC, dI) vwCl [.ref mo, .int (nI q0)] [(mo, .inr (6, [.int th, .ref mx, .int (nI sn), .int fl, .int fa, .ref mt, .int (nI pn), .int (nI kp), .int (nI cm), .ref md, .ref mp])), (mx, .inl (cI, 500, .inl tx)), (mt, .inl (cI, 900, .inl td)), (md, .inl (cI, 16, .inl dp)), (mp, .inl (cI, 16, .inl pr))] [(cI, .int), (cC, .char), (cJ, .long)] B sz9) (q_Mq (dC, dI) vwCl [(mo, .inr (6, [.int th, .ref mx, .int (nI sn), .int fl, .int fa, .ref mt, .int (nI pn), .int (nI kp), .int (nI cm), .ref md, .ref mp])), (mx, .inl (cI, 500, .inl tx)), (mt, .inl (cI, 900, .inl td)), (md, .inl (cI, 16, .inl dp)), (mp, .inl (cI, 16, .inl pr1))] (va_A [(mo, .inr (6, [.int th, .ref mx, .int (nI sn), .int fl, .int fa, .ref mt, .int (nI pn), .int (nI kp), .int (nI cm), .ref md, .ref mp])), (mx, .inl (cI, 500, .inl tx)), (mt, .inl (cI, 900, .inl td)), (md, .inl (cI, 16, .inl dp)), (mp, .inl (cI, 16, .inl pr))] sz9) (some (.int (nI n1)))) 0 0 (va_A [(mo, .inr (6, [.int th, .ref mx, .int (nI sn), .int fl, .int fa, .ref mt, .int (nI pn), .int (nI kp), .int (nI cm), .ref md, .ref mp])), (mx, .inl (cI, 500, .inl tx)), (mt, .inl (cI, 900, .inl td)), (md, .inl (cI, 16, .inl dp)), (mp, .inl (cI, 16, .inl pr))] sz9) := by
  refine Met.ofW (cc := cX6_prints) (maxL := 6) (ret := (some .int)) (by decide) rfl ?_
  intro p e s m args below meth c s₁ Bd hml hv
  obtain ⟨rfl, hsz9, hB, hP, hK, hD0, hT⟩ := hv
  have hx := Bd.exec
  have hb := Bd.bytes
  have hr := Bd.returns
  have hts := atoms_spec (ws := wsX6_prints) Bd.pre
  have hg : ∀ w ∈ lw_good, w.before _ s = true := fun w h => hts w (List.mem_cons_of_mem _ h)
  have hown : s.vm.findClass RX6 = some m.cls := findClass_of_methodNamed Bd.named
  have hlocks := Bd.notSynchronized
  subst hsz9
  have hD := hD0.self (sz := s.heap.size)
  generalize hAe : va_A [(mo, .inr (6, [.int th, .ref mx, .int (nI sn), .int fl, .int fa, .ref mt, .int (nI pn), .int (nI kp), .int (nI cm), .ref md, .ref mp])), (mx, .inl (cI, 500, .inl tx)), (mt, .inl (cI, 900, .inl td)), (md, .inl (cI, 16, .inl dp)), (mp, .inl (cI, 16, .inl pr))] s.heap.size = A at hD ⊢
  have hA : ∀ q : Nat, s.heap.size ≤ q → A q := fun q h => by rw [← hAe]; exact Or.inr h
  have hAB : ∀ q, A q → B ≤ q := by rw [← hAe]; exact va_A.ge hD0 hB
  have hS : va_S A s.heap s.heap [] := va_S.rf
  have hP : va_P (dC, dI) vwCl [(mo, .inr (6, [.int th, .ref mx, .int (nI sn), .int fl, .int fa, .ref mt, .int (nI pn), .int (nI kp), .int (nI cm), .ref md, .ref mp])), (mx, .inl (cI, 500, .inl tx)), (mt, .inl (cI, 900, .inl td)), (md, .inl (cI, 16, .inl dp)), (mp, .inl (cI, 16, .inl pr))] s.heap := hP
  have hl := lv_entry ([.ref mo, .int (nI q0)]) (n := 6) (Nat.le_of_ble_eq_true rfl)
  rw [lg_entry_eq]
  generalize (lg_sl ([.ref mo, .int (nI q0)]) ++ List.replicate (6 - (lg_sl ([.ref mo, .int (nI q0)])).length) Slot.unset).toArray = ls at hl ⊢
  have hl : lv_has ls 6 [(0, .ref mo), (1, .int (nI q0))] := hl
  refine lv_aload_n hx hb dX6_prints_0 rfl (lv_at hl 0 rfl) ?_
  refine va_get (D := (dC, dI)) (ci := 6) (v := .ref mt) (C := RX6) (T := TX6) (N := 11) hx hb hg in_X6 hown hK hP 0 rfl rfl 5 (by decide) (hg _ w_508) (fun _ h9 => h9) rfl dX6_prints_1 ?_
  refine lv_bipush (v := 6) hx hb dX6_prints_4 (by decide) ?_
  refine lv_iload_n hx hb dX6_prints_6 rfl (lv_at hl 1 rfl) ?_
  refine lv_imul hx hb dX6_prints_7 ?_
  refine top_eq (y := (nI (6 * q0))) (by exact pk_mul _ _) ?_
  refine x_iald (k := 6 * q0) hx hb hK hP 2 0 rfl rfl (by omega) (by decide) dX6_prints_8 ?_
  refine lv_istore_n (lv' := [(2, .int (td (6 * q0))), (0, .ref mo), (1, .int (nI q0))]) hx hb dX6_prints_9 rfl hl (by decide) rfl (fun ls hl => ?_)
  refine lv_iload_n hx hb dX6_prints_10 rfl (lv_at hl 0 rfl) ?_
  refine go_R (r := (nI (m_nums (td (6 * q0))))) (va_runS (As := [.int (td (6 * q0))]) (rest := []) ⟨hx, hb, hml, hown, hg⟩ (kX6_numbersOf l dC dI B cI cC cJ (td (6 * q0))) (va_cwS 1 hg (gi_S w_585 w_586 w_8 w_587) rfl rfl rfl (by decide +kernel) ⟨Nat.le_of_ble_eq_true rfl, Nat.le_of_ble_eq_true rfl⟩) (pre_RS (hP.sub [] rfl) hK hT) rfl rfl hl.1 rfl (lv_room (Nat.le_of_ble_eq_true rfl)) dX6_prints_11 ⟨Nat.le_of_ble_eq_true rfl, Nat.le_of_ble_eq_true rfl⟩) ?_
  have hm4 := m_nums_le (td (6 * q0))
  refine lv_istore_n (lv' := [(3, .int (nI (m_nums (td (6 * q0))))), (2, .int (td (6 * q0))), (0, .ref mo), (1, .int (nI q0))]) hx hb dX6_prints_14 rfl hl (by decide) rfl (fun ls hl => ?_)
  refine lv_aload_n hx hb dX6_prints_15 rfl (lv_at hl 2 rfl) ?_
  refine va_get (D := (dC, dI)) (ci := 6) (v := .ref mp) (C := RX6) (T := TX6) (N := 11) hx hb hg in_X6 hown hK hP 0 rfl rfl 10 (by decide) (hg _ w_513) (fun _ h9 => h9) rfl dX6_prints_16 ?_
  refine lv_iconst (v := 0) hx hb dX6_prints_19 (by decide) ?_
  refine lv_iload_n hx hb dX6_prints_20 rfl (lv_at hl 1 rfl) ?_
  refine go_R (r := m_letter (td (6 * q0))) (va_runS (As := [.int (td (6 * q0))]) (rest := [.int 0, .ref mp]) ⟨hx, hb, hml, hown, hg⟩ (kX6_letterOf l dC dI B cI cC cJ (td (6 * q0))) (va_cwS 1 hg (gi_S w_558 w_559 w_8 w_560) rfl rfl rfl (by decide +kernel) ⟨Nat.le_of_ble_eq_true rfl, Nat.le_of_ble_eq_true rfl⟩) (pre_RS (hP.sub [] rfl) hK hT) rfl rfl hl.1 rfl (lv_room (Nat.le_of_ble_eq_true rfl)) dX6_prints_21 ⟨Nat.le_of_ble_eq_true rfl, Nat.le_of_ble_eq_true rfl⟩) ?_
  refine x_iast (k := 0) hx hb hK hP hD hS 4 0 rfl rfl (by omega) (by decide) dX6_prints_24 (fun H locs hP hD hS => ?_)
  have hP : va_P (dC, dI) vwCl [(mo, .inr (6, [.int th, .ref mx, .int (nI sn), .int fl, .int fa, .ref mt, .int (nI pn), .int (nI kp), .int (nI cm), .ref md, .ref mp])), (mx, .inl (cI, 500, .inl tx)), (mt, .inl (cI, 900, .inl td)), (md, .inl (cI, 16, .inl dp)), (mp, .inl (cI, 16, .inl (upd pr 0 (m_letter (td (6 * q0))))))] H := hP
  have hD : va_D A [(mo, .inr (6, [.int th, .ref mx, .int (nI sn), .int fl, .int fa, .ref mt, .int (nI pn), .int (nI kp), .int (nI cm), .ref md, .ref mp])), (mx, .inl (cI, 500, .inl tx)), (mt, .inl (cI, 900, .inl td)), (md, .inl (cI, 16, .inl dp)), (mp, .inl (cI, 16, .inl (upd pr 0 (m_letter (td (6 * q0))))))] := hD
  refine lv_aload_n hx hb dX6_prints_25 rfl (lv_at hl 2 rfl) ?_
  refine lv_iconst (v := 1) hx hb dX6_prints_26 (by decide) ?_
  refine lv_aload_n hx hb dX6_prints_27 rfl (lv_at hl 2 rfl) ?_
  refine va_get (D := (dC, dI)) (ci := 6) (v := .ref mt) (C := RX6) (T := TX6) (N := 11) hx hb hg in_X6 hown hK hP 0 rfl rfl 5 (by decide) (hg _ w_508) (fun _ h9 => h9) rfl dX6_prints_28 ?_
  refine lv_bipush (v := 6) hx hb dX6_prints_31 (by decide) ?_
  refine lv_iload_n hx hb dX6_prints_33 rfl (lv_at hl 3 rfl) ?_
  refine lv_imul hx hb dX6_prints_34 ?_
  refine top_eq (y := (nI (6 * q0))) (by exact pk_mul _ _) ?_
  refine lv_iconst (v := 1) hx hb dX6_prints_35 (by decide) ?_
  refine lv_iadd hx hb dX6_prints_36 ?_
  refine top_eq (y := (nI ((6 * q0) + 1))) (by exact nI_add _ _) ?_
  refine x_iald (k := (6 * q0) + 1) hx hb hK hP 2 0 rfl rfl (by omega) (by decide) dX6_prints_37 ?_
  refine lv_bipush (v := 61) hx hb dX6_prints_38 (by decide) ?_
  obtain ⟨pr1_1, n1_1, hF_1⟩ : ∃ (pr1_1 : Nat → Int32) (n1_1 : Nat), m_puts (upd pr 0 (m_letter (td (6 * q0)))) 1 (td ((6 * q0) + 1)) 61 = (pr1_1, n1_1) := ⟨_, _, rfl⟩
  have hq_n1_1 := m_puts_le (upd pr 0 (m_letter (td (6 * q0)))) 1 (td ((6 * q0) + 1)) 61
  rw [hF_1] at hq_n1_1
  have hq_n1_1 : n1_1 ≤ 1 + 3 := hq_n1_1
  refine go_M (r := some (.int (nI n1_1))) (wc' := [(mo, .inr (6, [.int th, .ref mx, .int (nI sn), .int fl, .int fa, .ref mt, .int (nI pn), .int (nI kp), .int (nI cm), .ref md, .ref mp])), (mx, .inl (cI, 500, .inl tx)), (mt, .inl (cI, 900, .inl td)), (md, .inl (cI, 16, .inl dp)), (mp, .inl (cI, 16, .inl pr1_1))]) (w2 := [(mo, .inr (6, [.int th, .ref mx, .int (nI sn), .int fl, .int fa, .ref mt, .int (nI pn), .int (nI kp), .int (nI cm), .ref md, .ref mp])), (mx, .inl (cI, 500, .inl tx)), (mt, .inl (cI, 900, .inl td)), (md, .inl (cI, 16, .inl dp)), (mp, .inl (cI, 16, .inl pr1_1))]) [0, 1, 2, 3, 4] (va_runV (As := [.int 1, .int (td ((6 * q0) + 1)), .int 61]) (rest := []) ⟨hx, hb, hml, hown, hg⟩ (kX6_puts l dC dI B cI cC cJ mo mx mt md mp tx td dp (upd pr 0 (m_letter (td (6 * q0)))) th fl fa sn pn kp cm 1 (td ((6 * q0) + 1)) 61 pr1_1 n1_1 (by omega) (by omega) (by omega) (by omega) (by omega) hF_1 _) (cwV 3 hg (gi_V w_650 w_651 w_711 w_8 w_652) rfl rfl rfl (by decide +kernel) ⟨Nat.le_of_ble_eq_true rfl, Nat.le_of_ble_eq_true rfl⟩) (pre_MV (va_recv hK hP (ci := 6) (q0 := 0) rfl rfl) (Nat.le_trans hB hS.1) (hP.sub [0, 1, 2, 3, 4] rfl) hK ((hD.weaken (fun _ _ _ h => hAB _ h)).sub [0, 1, 2, 3, 4] (by decide) rfl) (hT.kept (hS.mono hAB))) rfl rfl hl.1 rfl (lv_room (Nat.le_of_ble_eq_true rfl)) dX6_prints_40 ⟨Nat.le_of_ble_eq_true rfl, Nat.le_of_ble_eq_true rfl⟩) hP hD hS hA rfl (Nat.le_of_ble_eq_true rfl) rfl rfl (fun H locs hP hD hS => ?_)
  refine W.eq (g2 := F0 m 43 ls [.int (nI n1_1)]) rfl ?_
  refine lv_istore (lv' := [(4, .int (nI n1_1)), (3, .int (nI (m_nums (td (6 * q0))))), (2, .int (td (6 * q0))), (0, .ref mo), (1, .int (nI q0))]) hx hb dX6_prints_43 hl (by decide) rfl (fun ls hl => ?_)
  refine lv_iconst (v := 0) hx hb dX6_prints_45 (by decide) ?_
  refine lv_istore (lv' := [(5, .int 0), (4, .int (nI n1_1)), (3, .int (nI (m_nums (td (6 * q0))))), (2, .int (td (6 * q0))), (0, .ref mo), (1, .int (nI q0))]) hx hb dX6_prints_46 hl (by decide) rfl (fun ls hl => ?_)
  refine loop_M (σ := Nat × (Nat → Int32) × Nat) (fun n x H locs ls => (m_nums (td (6 * q0))) - x.1 < n ∧ x.1 ≤ (m_nums (td (6 * q0))) ∧ x.2.2 ≤ 4 + 3 * x.1 ∧ m_prints td q0 pr = m_prNums td q0 (m_nums (td (6 * q0))) x.1 x.2.1 x.2.2 ∧ va_P (dC, dI) vwCl [(mo, .inr (6, [.int th, .ref mx, .int (nI sn), .int fl, .int fa, .ref mt, .int (nI pn), .int (nI kp), .int (nI cm), .ref md, .ref mp])), (mx, .inl (cI, 500, .inl tx)), (mt, .inl (cI, 900, .inl td)), (md, .inl (cI, 16, .inl dp)), (mp, .inl (cI, 16, .inl x.2.1))] H ∧ va_D A [(mo, .inr (6, [.int th, .ref mx, .int (nI sn), .int fl, .int fa, .ref mt, .int (nI pn), .int (nI kp), .int (nI cm), .ref md, .ref mp])), (mx, .inl (cI, 500, .inl tx)), (mt, .inl (cI, 900, .inl td)), (md, .inl (cI, 16, .inl dp)), (mp, .inl (cI, 16, .inl x.2.1))] ∧ va_S A s.heap H locs ∧ lv_has ls 6 [(0, .ref mo), (1, .int (nI q0)), (2, .int (td (6 * q0))), (3, .int (nI (m_nums (td (6 * q0))))), (4, .int (nI x.2.2)), (5, .int (nI x.1))]) (fun n x H locs ls ih_2 hI => ?_) (fun x H locs ls hI => ?_) (n := ((m_nums (td (6 * q0))) - 0) + 1) (x := (0, pr1_1, n1_1)) ⟨(Nat.lt_succ_self _), (by first | omega | (dsimp only; omega) | (dsimp only; done)), (by first | omega | (dsimp only; omega) | (dsimp only; done)), (by simp [m_prints, hF_1]), hP, hD, hS, lv_sub hl [4, 5, 3, 2, 1, 0] rfl⟩
  · skip
    obtain ⟨k, prx, qx⟩ := x
    obtain ⟨hfu, hk0, hqx, he, hP, hD, hS, hl⟩ := hI
    have hfu : (m_nums (td (6 * q0))) - k < n + 1 := hfu
    have hk0 : k ≤ (m_nums (td (6 * q0))) := hk0
    have hqx : qx ≤ 4 + 3 * k := hqx
    have he : m_prints td q0 pr = m_prNums td q0 (m_nums (td (6 * q0))) k prx qx := he
    have hP : va_P (dC, dI) vwCl [(mo, .inr (6, [.int th, .ref mx, .int (nI sn), .int fl, .int fa, .ref mt, .int (nI pn), .int (nI kp), .int (nI cm), .ref md, .ref mp])), (mx, .inl (cI, 500, .inl tx)), (mt, .inl (cI, 900, .inl td)), (md, .inl (cI, 16, .inl dp)), (mp, .inl (cI, 16, .inl prx))] H := hP
    have hD : va_D A [(mo, .inr (6, [.int th, .ref mx, .int (nI sn), .int fl, .int fa, .ref mt, .int (nI pn), .int (nI kp), .int (nI cm), .ref md, .ref mp])), (mx, .inl (cI, 500, .inl tx)), (mt, .inl (cI, 900, .inl td)), (md, .inl (cI, 16, .inl dp)), (mp, .inl (cI, 16, .inl prx))] := hD
    have hl : lv_has ls 6 [(0, .ref mo), (1, .int (nI q0)), (2, .int (td (6 * q0))), (3, .int (nI (m_nums (td (6 * q0))))), (4, .int (nI qx)), (5, .int (nI k))] := hl
    have hm4 := m_nums_le (td (6 * q0))
    refine lv_iload hx hb dX6_prints_48 (lv_at hl 5 rfl) ?_
    refine lv_iload_n hx hb dX6_prints_50 rfl (lv_at hl 3 rfl) ?_
    refine lv_icmp_ge (tgt := 97) hx hb dX6_prints_51 (by decide) (fun c_3 => ?_) (fun c_3 => ?_)
    · skip
      have c_3 := na_le (a := m_nums (td (6 * q0))) (b := k) c_3 (by omega) (by omega)
      refine lv_iload hx hb dX6_prints_97 (lv_at hl 4 rfl) ?_
      have hP9 := hP
      have hS9 := hS
      have h9 : m_prints td q0 pr = (prx, qx) := by rw [he, m_prNums]; simp [c_3]
      have h9 := hF.symm.trans h9
      cases h9
      exact W.iret hx hb hr (fun t ht hW => ⟨rfl, by rw [ht]; exact hP9, hS9.F ht⟩) hS9.2.2 dX6_prints_99
    · skip
      have c_3 := na_nle (a := m_nums (td (6 * q0))) (b := k) c_3 (by omega) (by omega)
      refine lv_aload_n hx hb dX6_prints_54 rfl (lv_at hl 0 rfl) ?_
      refine lv_iload hx hb dX6_prints_55 (lv_at hl 4 rfl) ?_
      refine lv_aload_n hx hb dX6_prints_57 rfl (lv_at hl 0 rfl) ?_
      refine va_get (D := (dC, dI)) (ci := 6) (v := .ref mt) (C := RX6) (T := TX6) (N := 11) hx hb hg in_X6 hown hK hP 0 rfl rfl 5 (by decide) (hg _ w_508) (fun _ h9 => h9) rfl dX6_prints_58 ?_
      refine lv_bipush (v := 6) hx hb dX6_prints_61 (by decide) ?_
      refine lv_iload_n hx hb dX6_prints_63 rfl (lv_at hl 1 rfl) ?_
      refine lv_imul hx hb dX6_prints_64 ?_
      refine top_eq (y := (nI (6 * q0))) (by exact pk_mul _ _) ?_
      refine lv_iconst (v := 2) hx hb dX6_prints_65 (by decide) ?_
      refine lv_iadd hx hb dX6_prints_66 ?_
      refine top_eq (y := (nI ((6 * q0) + 2))) (by exact nI_add _ _) ?_
      refine lv_iload hx hb dX6_prints_67 (lv_at hl 5 rfl) ?_
      refine lv_iadd hx hb dX6_prints_69 ?_
      refine top_eq (y := (nI (((6 * q0) + 2) + k))) (by exact nI_add _ _) ?_
      refine x_iald (k := ((6 * q0) + 2) + k) hx hb hK hP 2 0 rfl rfl (by omega) (by decide) dX6_prints_70 ?_
      refine lv_iload hx hb dX6_prints_71 (lv_at hl 5 rfl) ?_
      refine lv_iload_n hx hb dX6_prints_73 rfl (lv_at hl 3 rfl) ?_
      refine lv_iconst (v := 1) hx hb dX6_prints_74 (by decide) ?_
      refine lv_isub hx hb dX6_prints_75 ?_
      refine lv_icmp_ne (tgt := 84) hx hb dX6_prints_76 (by decide) (fun c_4 => ?_) (fun c_4 => ?_)
      · skip
        refine lv_bipush (v := 44) hx hb dX6_prints_84 (by decide) ?_
        obtain ⟨pr1_5, n1_5, hF_5⟩ : ∃ (pr1_5 : Nat → Int32) (n1_5 : Nat), m_puts prx qx (td (((6 * q0) + 2) + k)) 44 = (pr1_5, n1_5) := ⟨_, _, rfl⟩
        have hq_n1_5 := m_puts_le prx qx (td (((6 * q0) + 2) + k)) 44
        rw [hF_5] at hq_n1_5
        have hq_n1_5 : n1_5 ≤ qx + 3 := hq_n1_5
        refine go_M (r := some (.int (nI n1_5))) (wc' := [(mo, .inr (6, [.int th, .ref mx, .int (nI sn), .int fl, .int fa, .ref mt, .int (nI pn), .int (nI kp), .int (nI cm), .ref md, .ref mp])), (mx, .inl (cI, 500, .inl tx)), (mt, .inl (cI, 900, .inl td)), (md, .inl (cI, 16, .inl dp)), (mp, .inl (cI, 16, .inl pr1_5))]) (w2 := [(mo, .inr (6, [.int th, .ref mx, .int (nI sn), .int fl, .int fa, .ref mt, .int (nI pn), .int (nI kp), .int (nI cm), .ref md, .ref mp])), (mx, .inl (cI, 500, .inl tx)), (mt, .inl (cI, 900, .inl td)), (md, .inl (cI, 16, .inl dp)), (mp, .inl (cI, 16, .inl pr1_5))]) [0, 1, 2, 3, 4] (va_runV (As := [.int (nI qx), .int (td (((6 * q0) + 2) + k)), .int 44]) (rest := []) ⟨hx, hb, hml, hown, hg⟩ (kX6_puts l dC dI B cI cC cJ mo mx mt md mp tx td dp prx th fl fa sn pn kp cm qx (td (((6 * q0) + 2) + k)) 44 pr1_5 n1_5 (by omega) (by omega) (by omega) (by omega) (by omega) hF_5 _) (cwV 3 hg (gi_V w_650 w_651 w_711 w_8 w_652) rfl rfl rfl (by decide +kernel) ⟨Nat.le_of_ble_eq_true rfl, Nat.le_of_ble_eq_true rfl⟩) (pre_MV (va_recv hK hP (ci := 6) (q0 := 0) rfl rfl) (Nat.le_trans hB hS.1) (hP.sub [0, 1, 2, 3, 4] rfl) hK ((hD.weaken (fun _ _ _ h => hAB _ h)).sub [0, 1, 2, 3, 4] (by decide) rfl) (hT.kept (hS.mono hAB))) rfl rfl hl.1 rfl (lv_room (Nat.le_of_ble_eq_true rfl)) dX6_prints_86 ⟨Nat.le_of_ble_eq_true rfl, Nat.le_of_ble_eq_true rfl⟩) hP hD hS hA rfl (Nat.le_of_ble_eq_true rfl) rfl rfl (fun H locs hP hD hS => ?_)
        refine W.eq (g2 := F0 m 89 ls [.int (nI n1_5)]) rfl ?_
        refine lv_istore (lv' := [(4, .int (nI n1_5)), (0, .ref mo), (1, .int (nI q0)), (2, .int (td (6 * q0))), (3, .int (nI (m_nums (td (6 * q0))))), (5, .int (nI k))]) hx hb dX6_prints_89 hl (by decide) rfl (fun ls hl => ?_)
        refine lv_iinc (v := (nI (k + 1))) (lv' := [(5, .int (nI (k + 1))), (4, .int (nI n1_5)), (0, .ref mo), (1, .int (nI q0)), (2, .int (td (6 * q0))), (3, .int (nI (m_nums (td (6 * q0)))))]) hx hb dX6_prints_91 hl (k := 5) rfl (by rw [← nI_add]; rfl) (by decide) rfl (fun ls hl => ?_)
        refine lv_goto (tgt := 48) hx hb dX6_prints_94 (by decide) ?_
        exact ih_2 (k + 1, pr1_5, n1_5) _ _ _ ⟨(by first | omega | (dsimp only; omega) | (dsimp only; done)), (by first | omega | (dsimp only; omega) | (dsimp only; done)), (by first | omega | (dsimp only; omega) | (dsimp only; done)), (by (try dsimp only); rw [he, m_prNums]; simp [c_3, c_4, hF_5]), hP, hD, hS, lv_sub hl [2, 3, 4, 5, 1, 0] rfl⟩
      · skip
        refine lv_bipush (v := 59) hx hb dX6_prints_79 (by decide) ?_
        refine lv_goto (tgt := 86) hx hb dX6_prints_81 (by decide) ?_
        obtain ⟨pr1_6, n1_6, hF_6⟩ : ∃ (pr1_6 : Nat → Int32) (n1_6 : Nat), m_puts prx qx (td (((6 * q0) + 2) + k)) 59 = (pr1_6, n1_6) := ⟨_, _, rfl⟩
        have hq_n1_6 := m_puts_le prx qx (td (((6 * q0) + 2) + k)) 59
        rw [hF_6] at hq_n1_6
        have hq_n1_6 : n1_6 ≤ qx + 3 := hq_n1_6
        refine go_M (r := some (.int (nI n1_6))) (wc' := [(mo, .inr (6, [.int th, .ref mx, .int (nI sn), .int fl, .int fa, .ref mt, .int (nI pn), .int (nI kp), .int (nI cm), .ref md, .ref mp])), (mx, .inl (cI, 500, .inl tx)), (mt, .inl (cI, 900, .inl td)), (md, .inl (cI, 16, .inl dp)), (mp, .inl (cI, 16, .inl pr1_6))]) (w2 := [(mo, .inr (6, [.int th, .ref mx, .int (nI sn), .int fl, .int fa, .ref mt, .int (nI pn), .int (nI kp), .int (nI cm), .ref md, .ref mp])), (mx, .inl (cI, 500, .inl tx)), (mt, .inl (cI, 900, .inl td)), (md, .inl (cI, 16, .inl dp)), (mp, .inl (cI, 16, .inl pr1_6))]) [0, 1, 2, 3, 4] (va_runV (As := [.int (nI qx), .int (td (((6 * q0) + 2) + k)), .int 59]) (rest := []) ⟨hx, hb, hml, hown, hg⟩ (kX6_puts l dC dI B cI cC cJ mo mx mt md mp tx td dp prx th fl fa sn pn kp cm qx (td (((6 * q0) + 2) + k)) 59 pr1_6 n1_6 (by omega) (by omega) (by omega) (by omega) (by omega) hF_6 _) (cwV 3 hg (gi_V w_650 w_651 w_711 w_8 w_652) rfl rfl rfl (by decide +kernel) ⟨Nat.le_of_ble_eq_true rfl, Nat.le_of_ble_eq_true rfl⟩) (pre_MV (va_recv hK hP (ci := 6) (q0 := 0) rfl rfl) (Nat.le_trans hB hS.1) (hP.sub [0, 1, 2, 3, 4] rfl) hK ((hD.weaken (fun _ _ _ h => hAB _ h)).sub [0, 1, 2, 3, 4] (by decide) rfl) (hT.kept (hS.mono hAB))) rfl rfl hl.1 rfl (lv_room (Nat.le_of_ble_eq_true rfl)) dX6_prints_86 ⟨Nat.le_of_ble_eq_true rfl, Nat.le_of_ble_eq_true rfl⟩) hP hD hS hA rfl (Nat.le_of_ble_eq_true rfl) rfl rfl (fun H locs hP hD hS => ?_)
        refine W.eq (g2 := F0 m 89 ls [.int (nI n1_6)]) rfl ?_
        refine lv_istore (lv' := [(4, .int (nI n1_6)), (0, .ref mo), (1, .int (nI q0)), (2, .int (td (6 * q0))), (3, .int (nI (m_nums (td (6 * q0))))), (5, .int (nI k))]) hx hb dX6_prints_89 hl (by decide) rfl (fun ls hl => ?_)
        refine lv_iinc (v := (nI (k + 1))) (lv' := [(5, .int (nI (k + 1))), (4, .int (nI n1_6)), (0, .ref mo), (1, .int (nI q0)), (2, .int (td (6 * q0))), (3, .int (nI (m_nums (td (6 * q0)))))]) hx hb dX6_prints_91 hl (k := 5) rfl (by rw [← nI_add]; rfl) (by decide) rfl (fun ls hl => ?_)
        refine lv_goto (tgt := 48) hx hb dX6_prints_94 (by decide) ?_
        exact ih_2 (k + 1, pr1_6, n1_6) _ _ _ ⟨(by first | omega | (dsimp only; omega) | (dsimp only; done)), (by first | omega | (dsimp only; omega) | (dsimp only; done)), (by first | omega | (dsimp only; omega) | (dsimp only; done)), (by (try dsimp only); rw [he, m_prNums]; simp [c_3, eq_true c_4, hF_6]), hP, hD, hS, lv_sub hl [2, 3, 4, 5, 1, 0] rfl⟩
  · exact absurd hI.1 (Nat.not_lt_zero _)
set_option maxHeartbeats 4000000 in
set_option maxRecDepth 100000 in
theorem kX6_length (l : Launch) (dC : Nat → ClassId) (dI : Nat → Nat → Nat) (B : Nat) (cI cC cJ : ClassId) (mo : Nat) (mx : Nat) (mt : Nat) (md : Nat) (mp : Nat) (tx : Nat → Int32) (td : Nat → Int32) (dp : Nat → Int32) (pr : Nat → Int32) (th : Int32) (fl : Int32) (fa : Int32) (sn : Nat) (pn : Nat) (kp : Nat) (cm : Nat) (pr1 : Nat → Int32) (n1 : Nat) (hsn : sn ≤ 500) (hpn : pn ≤ 50) (hkp : kp ≤ 50) (hcm : cm ≤ 50) (hF : m_length td pn 0 0 pr = (pr1, n1)) (sz9 : Nat) : Met l yX6_length wsX6_length ({ frames := 2, cells := 0, slots := 0, locals := 49 }) (q_Mp (dC, dI) vwCl [.ref mo] [(mo, .inr (6, [.int th, .ref mx, .int (nI sn), .int fl, .int fa, .ref mt, .int (nI pn), .int (nI kp), .int (nI cm), .ref md, .ref mp])), (mx, .inl (cI, 500, .inl tx)), (mt, .inl (cI, 900, .inl td)), (md, .inl (cI, 16, .inl dp)), (mp, .inl (cI, 16, .inl pr))] [(cI, .int), (cC, .char), (cJ, .long)] B sz9) (q_Mq (dC, dI) vwCl [(mo, .inr (6, [.int th, .ref mx, .int (nI sn), .int fl, .int fa, .ref mt, .int (nI pn), .int (nI kp), .int (nI cm), .ref md, .ref mp])), (mx, .inl (cI, 500, .inl tx)), (mt, .inl (cI, 900, .inl td)), (md, .inl (cI, 16, .inl dp)), (mp, .inl (cI, 16, .inl pr1))] (va_A [(mo, .inr (6, [.int th, .ref mx, .int (nI sn), .int fl, .int fa, .ref mt, .int (nI pn), .int (nI kp), .int (nI cm), .ref md, .ref mp])), (mx, .inl (cI, 500, .inl tx)), (mt, .inl (cI, 900, .inl td)), (md, .inl (cI, 16, .inl dp)), (mp, .inl (cI, 16, .inl pr))] sz9) (some (.int (nI n1)))) 0 0 (va_A [(mo, .inr (6, [.int th, .ref mx, .int (nI sn), .int fl, .int fa, .ref mt, .int (nI pn), .int (nI kp), .int (nI cm), .ref md, .ref mp])), (mx, .inl (cI, 500, .inl tx)), (mt, .inl (cI, 900, .inl td)), (md, .inl (cI, 16, .inl dp)), (mp, .inl (cI, 16, .inl pr))] sz9) := by
  refine Met.ofW (cc := cX6_length) (maxL := 3) (ret := (some .int)) (by decide) rfl ?_
  intro p e s m args below meth c s₁ Bd hml hv
  obtain ⟨rfl, hsz9, hB, hP, hK, hD0, hT⟩ := hv
  have hx := Bd.exec
  have hb := Bd.bytes
  have hr := Bd.returns
  have hts := atoms_spec (ws := wsX6_length) Bd.pre
  have hg : ∀ w ∈ lw_good, w.before _ s = true := fun w h => hts w (List.mem_cons_of_mem _ h)
  have hown : s.vm.findClass RX6 = some m.cls := findClass_of_methodNamed Bd.named
  have hlocks := Bd.notSynchronized
  subst hsz9
  have hD := hD0.self (sz := s.heap.size)
  generalize hAe : va_A [(mo, .inr (6, [.int th, .ref mx, .int (nI sn), .int fl, .int fa, .ref mt, .int (nI pn), .int (nI kp), .int (nI cm), .ref md, .ref mp])), (mx, .inl (cI, 500, .inl tx)), (mt, .inl (cI, 900, .inl td)), (md, .inl (cI, 16, .inl dp)), (mp, .inl (cI, 16, .inl pr))] s.heap.size = A at hD ⊢
  have hA : ∀ q : Nat, s.heap.size ≤ q → A q := fun q h => by rw [← hAe]; exact Or.inr h
  have hAB : ∀ q, A q → B ≤ q := by rw [← hAe]; exact va_A.ge hD0 hB
  have hS : va_S A s.heap s.heap [] := va_S.rf
  have hP : va_P (dC, dI) vwCl [(mo, .inr (6, [.int th, .ref mx, .int (nI sn), .int fl, .int fa, .ref mt, .int (nI pn), .int (nI kp), .int (nI cm), .ref md, .ref mp])), (mx, .inl (cI, 500, .inl tx)), (mt, .inl (cI, 900, .inl td)), (md, .inl (cI, 16, .inl dp)), (mp, .inl (cI, 16, .inl pr))] s.heap := hP
  have hl := lv_entry ([.ref mo]) (n := 3) (Nat.le_of_ble_eq_true rfl)
  rw [lg_entry_eq]
  generalize (lg_sl ([.ref mo]) ++ List.replicate (3 - (lg_sl ([.ref mo])).length) Slot.unset).toArray = ls at hl ⊢
  have hl : lv_has ls 3 [(0, .ref mo)] := hl
  refine lv_iconst (v := 0) hx hb dX6_length_0 (by decide) ?_
  refine lv_istore_n (lv' := [(1, .int 0), (0, .ref mo)]) hx hb dX6_length_1 rfl hl (by decide) rfl (fun ls hl => ?_)
  refine lv_iconst (v := 0) hx hb dX6_length_2 (by decide) ?_
  refine lv_istore_n (lv' := [(2, .int 0), (1, .int 0), (0, .ref mo)]) hx hb dX6_length_3 rfl hl (by decide) rfl (fun ls hl => ?_)
  refine loop_M (σ := Nat × Nat × (Nat → Int32)) (fun n x H locs ls => pn - x.1 < n ∧ x.1 ≤ pn ∧ x.2.1 ≤ 16 * x.1 ∧ m_length td pn 0 0 pr = m_length td pn x.1 x.2.1 x.2.2 ∧ va_P (dC, dI) vwCl [(mo, .inr (6, [.int th, .ref mx, .int (nI sn), .int fl, .int fa, .ref mt, .int (nI pn), .int (nI kp), .int (nI cm), .ref md, .ref mp])), (mx, .inl (cI, 500, .inl tx)), (mt, .inl (cI, 900, .inl td)), (md, .inl (cI, 16, .inl dp)), (mp, .inl (cI, 16, .inl x.2.2))] H ∧ va_D A [(mo, .inr (6, [.int th, .ref mx, .int (nI sn), .int fl, .int fa, .ref mt, .int (nI pn), .int (nI kp), .int (nI cm), .ref md, .ref mp])), (mx, .inl (cI, 500, .inl tx)), (mt, .inl (cI, 900, .inl td)), (md, .inl (cI, 16, .inl dp)), (mp, .inl (cI, 16, .inl x.2.2))] ∧ va_S A s.heap H locs ∧ lv_has ls 3 [(0, .ref mo), (1, .int (nI x.2.1)), (2, .int (nI x.1))]) (fun n x H locs ls ih_1 hI => ?_) (fun x H locs ls hI => ?_) (n := (pn - 0) + 1) (x := (0, 0, pr)) ⟨(Nat.lt_succ_self _), (by first | omega | (dsimp only; omega) | (dsimp only; done)), (by first | omega | (dsimp only; omega) | (dsimp only; done)), rfl, hP, hD, hS, lv_sub hl [2, 1, 0] rfl⟩
  · skip
    obtain ⟨i, nx, prx⟩ := x
    obtain ⟨hfu, hi0, hnx, he, hP, hD, hS, hl⟩ := hI
    have hfu : pn - i < n + 1 := hfu
    have hi0 : i ≤ pn := hi0
    have hnx : nx ≤ 16 * i := hnx
    have he : m_length td pn 0 0 pr = m_length td pn i nx prx := he
    have hP : va_P (dC, dI) vwCl [(mo, .inr (6, [.int th, .ref mx, .int (nI sn), .int fl, .int fa, .ref mt, .int (nI pn), .int (nI kp), .int (nI cm), .ref md, .ref mp])), (mx, .inl (cI, 500, .inl tx)), (mt, .inl (cI, 900, .inl td)), (md, .inl (cI, 16, .inl dp)), (mp, .inl (cI, 16, .inl prx))] H := hP
    have hD : va_D A [(mo, .inr (6, [.int th, .ref mx, .int (nI sn), .int fl, .int fa, .ref mt, .int (nI pn), .int (nI kp), .int (nI cm), .ref md, .ref mp])), (mx, .inl (cI, 500, .inl tx)), (mt, .inl (cI, 900, .inl td)), (md, .inl (cI, 16, .inl dp)), (mp, .inl (cI, 16, .inl prx))] := hD
    have hl : lv_has ls 3 [(0, .ref mo), (1, .int (nI nx)), (2, .int (nI i))] := hl
    refine lv_iload_n hx hb dX6_length_4 rfl (lv_at hl 2 rfl) ?_
    refine lv_aload_n hx hb dX6_length_5 rfl (lv_at hl 0 rfl) ?_
    refine va_get (D := (dC, dI)) (ci := 6) (v := .int (nI pn)) (C := RX6) (T := TX6) (N := 11) hx hb hg in_X6 hown hK hP 0 rfl rfl 6 (by decide) (hg _ w_509) (fun _ h9 => h9) rfl dX6_length_6 ?_
    refine lv_icmp_ge (tgt := 26) hx hb dX6_length_9 (by decide) (fun c_2 => ?_) (fun c_2 => ?_)
    · skip
      have c_2 := na_le (a := pn) (b := i) c_2 (by omega) (by omega)
      refine lv_iload_n hx hb dX6_length_26 rfl (lv_at hl 1 rfl) ?_
      have hP9 := hP
      have hS9 := hS
      have h9 : m_length td pn 0 0 pr = (prx, nx) := by rw [he, m_length]; simp [c_2]
      have h9 := hF.symm.trans h9
      cases h9
      exact W.iret hx hb hr (fun t ht hW => ⟨rfl, by rw [ht]; exact hP9, hS9.F ht⟩) hS9.2.2 dX6_length_27
    · skip
      have c_2 := na_nle (a := pn) (b := i) c_2 (by omega) (by omega)
      refine lv_iload_n hx hb dX6_length_12 rfl (lv_at hl 1 rfl) ?_
      refine lv_aload_n hx hb dX6_length_13 rfl (lv_at hl 0 rfl) ?_
      refine lv_iload_n hx hb dX6_length_14 rfl (lv_at hl 2 rfl) ?_
      obtain ⟨pr1_3, n1_3, hF_3⟩ : ∃ (pr1_3 : Nat → Int32) (n1_3 : Nat), m_prints td i prx = (pr1_3, n1_3) := ⟨_, _, rfl⟩
      have hq_n1_3 := m_prints_le td i prx
      rw [hF_3] at hq_n1_3
      have hq_n1_3 : n1_3 ≤ 16 := hq_n1_3
      refine go_M (r := some (.int (nI n1_3))) (wc' := [(mo, .inr (6, [.int th, .ref mx, .int (nI sn), .int fl, .int fa, .ref mt, .int (nI pn), .int (nI kp), .int (nI cm), .ref md, .ref mp])), (mx, .inl (cI, 500, .inl tx)), (mt, .inl (cI, 900, .inl td)), (md, .inl (cI, 16, .inl dp)), (mp, .inl (cI, 16, .inl pr1_3))]) (w2 := [(mo, .inr (6, [.int th, .ref mx, .int (nI sn), .int fl, .int fa, .ref mt, .int (nI pn), .int (nI kp), .int (nI cm), .ref md, .ref mp])), (mx, .inl (cI, 500, .inl tx)), (mt, .inl (cI, 900, .inl td)), (md, .inl (cI, 16, .inl dp)), (mp, .inl (cI, 16, .inl pr1_3))]) [0, 1, 2, 3, 4] (va_runV (As := [.int (nI i)]) (rest := [.int (nI nx)]) ⟨hx, hb, hml, hown, hg⟩ (kX6_prints l dC dI B cI cC cJ mo mx mt md mp tx td dp prx th fl fa sn pn kp cm i pr1_3 n1_3 (by omega) (by omega) (by omega) (by omega) (by omega) hF_3 _) (cwV 1 hg (gi_V w_647 w_648 w_710 w_8 w_649) rfl rfl rfl (by decide +kernel) ⟨Nat.le_of_ble_eq_true rfl, Nat.le_of_ble_eq_true rfl⟩) (pre_MV (va_recv hK hP (ci := 6) (q0 := 0) rfl rfl) (Nat.le_trans hB hS.1) (hP.sub [0, 1, 2, 3, 4] rfl) hK ((hD.weaken (fun _ _ _ h => hAB _ h)).sub [0, 1, 2, 3, 4] (by decide) rfl) (hT.kept (hS.mono hAB))) rfl rfl hl.1 rfl (lv_room (Nat.le_of_ble_eq_true rfl)) dX6_length_15 ⟨Nat.le_of_ble_eq_true rfl, Nat.le_of_ble_eq_true rfl⟩) hP hD hS hA rfl (Nat.le_of_ble_eq_true rfl) rfl rfl (fun H locs hP hD hS => ?_)
      refine W.eq (g2 := F0 m 18 ls [.int (nI n1_3), .int (nI nx)]) rfl ?_
      refine lv_iadd hx hb dX6_length_18 ?_
      refine top_eq (y := (nI (nx + n1_3))) (by exact nI_add _ _) ?_
      refine lv_istore_n (lv' := [(1, .int (nI (nx + n1_3))), (0, .ref mo), (2, .int (nI i))]) hx hb dX6_length_19 rfl hl (by decide) rfl (fun ls hl => ?_)
      refine lv_iinc (v := (nI (i + 1))) (lv' := [(2, .int (nI (i + 1))), (1, .int (nI (nx + n1_3))), (0, .ref mo)]) hx hb dX6_length_20 hl (k := 2) rfl (by rw [← nI_add]; rfl) (by decide) rfl (fun ls hl => ?_)
      refine lv_goto (tgt := 4) hx hb dX6_length_23 (by decide) ?_
      exact ih_1 (i + 1, nx + n1_3, pr1_3) _ _ _ ⟨(by first | omega | (dsimp only; omega) | (dsimp only; done)), (by first | omega | (dsimp only; omega) | (dsimp only; done)), (by first | omega | (dsimp only; omega) | (dsimp only; done)), (by (try dsimp only); rw [he, m_length]; simp [c_2, hF_3]), hP, hD, hS, lv_sub hl [2, 1, 0] rfl⟩
  · exact absurd hI.1 (Nat.not_lt_zero _)
set_option maxHeartbeats 4000000 in
set_option maxRecDepth 100000 in
theorem kX6_print (l : Launch) (dC : Nat → ClassId) (dI : Nat → Nat → Nat) (B : Nat) (cI cC cJ : ClassId) (mo : Nat) (mx : Nat) (mt : Nat) (md : Nat) (mp : Nat) (tx : Nat → Int32) (td : Nat → Int32) (dp : Nat → Int32) (pr : Nat → Int32) (th : Int32) (fl : Int32) (fa : Int32) (sn : Nat) (pn : Nat) (kp : Nat) (cm : Nat) (pr1 : Nat → Int32) (n1 : Nat) (hsn : sn ≤ 500) (hpn : pn ≤ 50) (hkp : kp ≤ 50) (hcm : cm ≤ 50) (hF : m_length td pn 0 0 pr = (pr1, n1)) (sz9 : Nat) : Met l yX6_print wsX6_print ({ frames := 3, cells := 0, slots := 0, locals := 71 }) (q_Mp (dC, dI) vwCl [.ref mo] [(mo, .inr (6, [.int th, .ref mx, .int (nI sn), .int fl, .int fa, .ref mt, .int (nI pn), .int (nI kp), .int (nI cm), .ref md, .ref mp])), (mx, .inl (cI, 500, .inl tx)), (mt, .inl (cI, 900, .inl td)), (md, .inl (cI, 16, .inl dp)), (mp, .inl (cI, 16, .inl pr))] [(cI, .int), (cC, .char), (cJ, .long)] B sz9) (q_Mq (dC, dI) vwCl [(mo, .inr (6, [.int 0, .ref mx, .int (nI sn), .int fl, .int fa, .ref mt, .int (nI pn), .int (nI kp), .int (nI cm), .ref md, .ref mp])), (mx, .inl (cI, 500, .inl tx)), (mt, .inl (cI, 900, .inl td)), (md, .inl (cI, 16, .inl dp)), (mp, .inl (cI, 16, .inl pr1))] (va_A [(mo, .inr (6, [.int th, .ref mx, .int (nI sn), .int fl, .int fa, .ref mt, .int (nI pn), .int (nI kp), .int (nI cm), .ref md, .ref mp])), (mx, .inl (cI, 500, .inl tx)), (mt, .inl (cI, 900, .inl td)), (md, .inl (cI, 16, .inl dp)), (mp, .inl (cI, 16, .inl pr))] sz9) (some (.int (nI n1)))) 0 0 (va_A [(mo, .inr (6, [.int th, .ref mx, .int (nI sn), .int fl, .int fa, .ref mt, .int (nI pn), .int (nI kp), .int (nI cm), .ref md, .ref mp])), (mx, .inl (cI, 500, .inl tx)), (mt, .inl (cI, 900, .inl td)), (md, .inl (cI, 16, .inl dp)), (mp, .inl (cI, 16, .inl pr))] sz9) := by
  refine Met.ofW (cc := cX6_print) (maxL := 1) (ret := (some .int)) (by decide) rfl ?_
  intro p e s m args below meth c s₁ Bd hml hv
  obtain ⟨rfl, hsz9, hB, hP, hK, hD0, hT⟩ := hv
  have hx := Bd.exec
  have hb := Bd.bytes
  have hr := Bd.returns
  have hts := atoms_spec (ws := wsX6_print) Bd.pre
  have hg : ∀ w ∈ lw_good, w.before _ s = true := fun w h => hts w (List.mem_cons_of_mem _ h)
  have hown : s.vm.findClass RX6 = some m.cls := findClass_of_methodNamed Bd.named
  have hlocks := Bd.notSynchronized
  subst hsz9
  have hD := hD0.self (sz := s.heap.size)
  generalize hAe : va_A [(mo, .inr (6, [.int th, .ref mx, .int (nI sn), .int fl, .int fa, .ref mt, .int (nI pn), .int (nI kp), .int (nI cm), .ref md, .ref mp])), (mx, .inl (cI, 500, .inl tx)), (mt, .inl (cI, 900, .inl td)), (md, .inl (cI, 16, .inl dp)), (mp, .inl (cI, 16, .inl pr))] s.heap.size = A at hD ⊢
  have hA : ∀ q : Nat, s.heap.size ≤ q → A q := fun q h => by rw [← hAe]; exact Or.inr h
  have hAB : ∀ q, A q → B ≤ q := by rw [← hAe]; exact va_A.ge hD0 hB
  have hS : va_S A s.heap s.heap [] := va_S.rf
  have hP : va_P (dC, dI) vwCl [(mo, .inr (6, [.int th, .ref mx, .int (nI sn), .int fl, .int fa, .ref mt, .int (nI pn), .int (nI kp), .int (nI cm), .ref md, .ref mp])), (mx, .inl (cI, 500, .inl tx)), (mt, .inl (cI, 900, .inl td)), (md, .inl (cI, 16, .inl dp)), (mp, .inl (cI, 16, .inl pr))] s.heap := hP
  have hl := lv_entry ([.ref mo]) (n := 1) (Nat.le_of_ble_eq_true rfl)
  rw [lg_entry_eq]
  generalize (lg_sl ([.ref mo]) ++ List.replicate (1 - (lg_sl ([.ref mo])).length) Slot.unset).toArray = ls at hl ⊢
  have hl : lv_has ls 1 [(0, .ref mo)] := hl
  refine lv_aload_n hx hb dX6_print_0 rfl (lv_at hl 0 rfl) ?_
  refine lv_iconst (v := 0) hx hb dX6_print_1 (by decide) ?_
  refine va_put (D := (dC, dI)) (ci := 6) (v := .int 0) (ty := .int) (C := RX6) (T := TX6) (N := 11) hx hb hg in_X6 tyX6 tyX6_ok nmX6_ok hown hK hP hD hS 0 rfl rfl 0 (by decide) (hg _ w_503) (fun _ h9 => h9) rfl (by decide +kernel) rfl rfl (Nat.le_of_ble_eq_true rfl) dX6_print_2 (fun H locs hP hD hS => ?_)
  have hP : va_P (dC, dI) vwCl [(mo, .inr (6, [.int 0, .ref mx, .int (nI sn), .int fl, .int fa, .ref mt, .int (nI pn), .int (nI kp), .int (nI cm), .ref md, .ref mp])), (mx, .inl (cI, 500, .inl tx)), (mt, .inl (cI, 900, .inl td)), (md, .inl (cI, 16, .inl dp)), (mp, .inl (cI, 16, .inl pr))] H := hP
  have hD : va_D A [(mo, .inr (6, [.int 0, .ref mx, .int (nI sn), .int fl, .int fa, .ref mt, .int (nI pn), .int (nI kp), .int (nI cm), .ref md, .ref mp])), (mx, .inl (cI, 500, .inl tx)), (mt, .inl (cI, 900, .inl td)), (md, .inl (cI, 16, .inl dp)), (mp, .inl (cI, 16, .inl pr))] := hD
  refine lv_aload_n hx hb dX6_print_5 rfl (lv_at hl 0 rfl) ?_
  obtain ⟨pr1_1, n1_1, hF_1⟩ : ∃ (pr1_1 : Nat → Int32) (n1_1 : Nat), m_length td pn 0 0 pr = (pr1_1, n1_1) := ⟨_, _, rfl⟩
  refine go_M (r := some (.int (nI n1_1))) (wc' := [(mo, .inr (6, [.int 0, .ref mx, .int (nI sn), .int fl, .int fa, .ref mt, .int (nI pn), .int (nI kp), .int (nI cm), .ref md, .ref mp])), (mx, .inl (cI, 500, .inl tx)), (mt, .inl (cI, 900, .inl td)), (md, .inl (cI, 16, .inl dp)), (mp, .inl (cI, 16, .inl pr1_1))]) (w2 := [(mo, .inr (6, [.int 0, .ref mx, .int (nI sn), .int fl, .int fa, .ref mt, .int (nI pn), .int (nI kp), .int (nI cm), .ref md, .ref mp])), (mx, .inl (cI, 500, .inl tx)), (mt, .inl (cI, 900, .inl td)), (md, .inl (cI, 16, .inl dp)), (mp, .inl (cI, 16, .inl pr1_1))]) [0, 1, 2, 3, 4] (va_runV (As := []) (rest := []) ⟨hx, hb, hml, hown, hg⟩ (kX6_length l dC dI B cI cC cJ mo mx mt md mp tx td dp pr 0 fl fa sn pn kp cm pr1_1 n1_1 (by omega) (by omega) (by omega) (by omega) hF_1 _) (cwV 0 hg (gi_V w_644 w_645 w_709 w_8 w_646) rfl rfl rfl (by decide +kernel) ⟨Nat.le_of_ble_eq_true rfl, Nat.le_of_ble_eq_true rfl⟩) (pre_MV (va_recv hK hP (ci := 6) (q0 := 0) rfl rfl) (Nat.le_trans hB hS.1) (hP.sub [0, 1, 2, 3, 4] rfl) hK ((hD.weaken (fun _ _ _ h => hAB _ h)).sub [0, 1, 2, 3, 4] (by decide) rfl) (hT.kept (hS.mono hAB))) rfl rfl hl.1 rfl (lv_room (Nat.le_of_ble_eq_true rfl)) dX6_print_6 ⟨Nat.le_of_ble_eq_true rfl, Nat.le_of_ble_eq_true rfl⟩) hP hD hS hA rfl (Nat.le_of_ble_eq_true rfl) rfl rfl (fun H locs hP hD hS => ?_)
  refine W.eq (g2 := F0 m 9 ls [.int (nI n1_1)]) rfl ?_
  have hP9 := hP
  have hS9 := hS
  have h9 : m_length td pn 0 0 pr = (pr1_1, n1_1) := by exact hF_1
  have h9 := hF.symm.trans h9
  cases h9
  exact W.iret hx hb hr (fun t ht hW => ⟨rfl, by rw [ht]; exact hP9, hS9.F ht⟩) hS9.2.2 dX6_print_9
set_option maxHeartbeats 4000000 in
set_option maxRecDepth 100000 in
theorem kX6_keep (l : Launch) (dC : Nat → ClassId) (dI : Nat → Nat → Nat) (B : Nat) (cI cC cJ : ClassId) (mo : Nat) (mx : Nat) (mt : Nat) (md : Nat) (mp : Nat) (tx : Nat → Int32) (td : Nat → Int32) (dp : Nat → Int32) (pr : Nat → Int32) (th : Int32) (fl : Int32) (fa : Int32) (sn : Nat) (pn : Nat) (kp : Nat) (cm : Nat) (td1 : Nat → Int32) (hsn : sn ≤ 500) (hpn : pn ≤ 50) (hkp : kp ≤ 50) (hcm : cm ≤ 50) (hF : m_copy 0 300 pn 0 td = td1) (sz9 : Nat) : Met l yX6_keep wsX6_keep ({ frames := 1, cells := 0, slots := 0, locals := 24 }) (q_Mp (dC, dI) vwCl [.ref mo] [(mo, .inr (6, [.int th, .ref mx, .int (nI sn), .int fl, .int fa, .ref mt, .int (nI pn), .int (nI kp), .int (nI cm), .ref md, .ref mp])), (mx, .inl (cI, 500, .inl tx)), (mt, .inl (cI, 900, .inl td)), (md, .inl (cI, 16, .inl dp)), (mp, .inl (cI, 16, .inl pr))] [(cI, .int), (cC, .char), (cJ, .long)] B sz9) (q_Mq (dC, dI) vwCl [(mo, .inr (6, [.int 0, .ref mx, .int (nI sn), .int fl, .int fa, .ref mt, .int (nI pn), .int (nI pn), .int (nI cm), .ref md, .ref mp])), (mx, .inl (cI, 500, .inl tx)), (mt, .inl (cI, 900, .inl td1)), (md, .inl (cI, 16, .inl dp)), (mp, .inl (cI, 16, .inl pr))] (va_A [(mo, .inr (6, [.int th, .ref mx, .int (nI sn), .int fl, .int fa, .ref mt, .int (nI pn), .int (nI kp), .int (nI cm), .ref md, .ref mp])), (mx, .inl (cI, 500, .inl tx)), (mt, .inl (cI, 900, .inl td)), (md, .inl (cI, 16, .inl dp)), (mp, .inl (cI, 16, .inl pr))] sz9) (some (.int (nI pn)))) 0 0 (va_A [(mo, .inr (6, [.int th, .ref mx, .int (nI sn), .int fl, .int fa, .ref mt, .int (nI pn), .int (nI kp), .int (nI cm), .ref md, .ref mp])), (mx, .inl (cI, 500, .inl tx)), (mt, .inl (cI, 900, .inl td)), (md, .inl (cI, 16, .inl dp)), (mp, .inl (cI, 16, .inl pr))] sz9) := by
  refine Met.ofW (cc := cX6_keep) (maxL := 1) (ret := (some .int)) (by decide) rfl ?_
  intro p e s m args below meth c s₁ Bd hml hv
  obtain ⟨rfl, hsz9, hB, hP, hK, hD0, hT⟩ := hv
  have hx := Bd.exec
  have hb := Bd.bytes
  have hr := Bd.returns
  have hts := atoms_spec (ws := wsX6_keep) Bd.pre
  have hg : ∀ w ∈ lw_good, w.before _ s = true := fun w h => hts w (List.mem_cons_of_mem _ h)
  have hown : s.vm.findClass RX6 = some m.cls := findClass_of_methodNamed Bd.named
  have hlocks := Bd.notSynchronized
  subst hsz9
  have hD := hD0.self (sz := s.heap.size)
  generalize hAe : va_A [(mo, .inr (6, [.int th, .ref mx, .int (nI sn), .int fl, .int fa, .ref mt, .int (nI pn), .int (nI kp), .int (nI cm), .ref md, .ref mp])), (mx, .inl (cI, 500, .inl tx)), (mt, .inl (cI, 900, .inl td)), (md, .inl (cI, 16, .inl dp)), (mp, .inl (cI, 16, .inl pr))] s.heap.size = A at hD ⊢
  have hA : ∀ q : Nat, s.heap.size ≤ q → A q := fun q h => by rw [← hAe]; exact Or.inr h
  have hAB : ∀ q, A q → B ≤ q := by rw [← hAe]; exact va_A.ge hD0 hB
  have hS : va_S A s.heap s.heap [] := va_S.rf
  have hP : va_P (dC, dI) vwCl [(mo, .inr (6, [.int th, .ref mx, .int (nI sn), .int fl, .int fa, .ref mt, .int (nI pn), .int (nI kp), .int (nI cm), .ref md, .ref mp])), (mx, .inl (cI, 500, .inl tx)), (mt, .inl (cI, 900, .inl td)), (md, .inl (cI, 16, .inl dp)), (mp, .inl (cI, 16, .inl pr))] s.heap := hP
  have hl := lv_entry ([.ref mo]) (n := 1) (Nat.le_of_ble_eq_true rfl)
  rw [lg_entry_eq]
  generalize (lg_sl ([.ref mo]) ++ List.replicate (1 - (lg_sl ([.ref mo])).length) Slot.unset).toArray = ls at hl ⊢
  have hl : lv_has ls 1 [(0, .ref mo)] := hl
  refine lv_aload_n hx hb dX6_keep_0 rfl (lv_at hl 0 rfl) ?_
  refine lv_iconst (v := 0) hx hb dX6_keep_1 (by decide) ?_
  refine va_put (D := (dC, dI)) (ci := 6) (v := .int 0) (ty := .int) (C := RX6) (T := TX6) (N := 11) hx hb hg in_X6 tyX6 tyX6_ok nmX6_ok hown hK hP hD hS 0 rfl rfl 0 (by decide) (hg _ w_503) (fun _ h9 => h9) rfl (by decide +kernel) rfl rfl (Nat.le_of_ble_eq_true rfl) dX6_keep_2 (fun H locs hP hD hS => ?_)
  have hP : va_P (dC, dI) vwCl [(mo, .inr (6, [.int 0, .ref mx, .int (nI sn), .int fl, .int fa, .ref mt, .int (nI pn), .int (nI kp), .int (nI cm), .ref md, .ref mp])), (mx, .inl (cI, 500, .inl tx)), (mt, .inl (cI, 900, .inl td)), (md, .inl (cI, 16, .inl dp)), (mp, .inl (cI, 16, .inl pr))] H := hP
  have hD : va_D A [(mo, .inr (6, [.int 0, .ref mx, .int (nI sn), .int fl, .int fa, .ref mt, .int (nI pn), .int (nI kp), .int (nI cm), .ref md, .ref mp])), (mx, .inl (cI, 500, .inl tx)), (mt, .inl (cI, 900, .inl td)), (md, .inl (cI, 16, .inl dp)), (mp, .inl (cI, 16, .inl pr))] := hD
  refine lv_aload_n hx hb dX6_keep_5 rfl (lv_at hl 0 rfl) ?_
  refine lv_aload_n hx hb dX6_keep_6 rfl (lv_at hl 0 rfl) ?_
  refine va_get (D := (dC, dI)) (ci := 6) (v := .int (nI pn)) (C := RX6) (T := TX6) (N := 11) hx hb hg in_X6 hown hK hP 0 rfl rfl 6 (by decide) (hg _ w_509) (fun _ h9 => h9) rfl dX6_keep_7 ?_
  refine va_put (D := (dC, dI)) (ci := 6) (v := .int (nI pn)) (ty := .int) (C := RX6) (T := TX6) (N := 11) hx hb hg in_X6 tyX6 tyX6_ok nmX6_ok hown hK hP hD hS 0 rfl rfl 7 (by decide) (hg _ w_510) (fun _ h9 => h9) rfl (by decide +kernel) rfl rfl (Nat.le_of_ble_eq_true rfl) dX6_keep_10 (fun H locs hP hD hS => ?_)
  have hP : va_P (dC, dI) vwCl [(mo, .inr (6, [.int 0, .ref mx, .int (nI sn), .int fl, .int fa, .ref mt, .int (nI pn), .int (nI pn), .int (nI cm), .ref md, .ref mp])), (mx, .inl (cI, 500, .inl tx)), (mt, .inl (cI, 900, .inl td)), (md, .inl (cI, 16, .inl dp)), (mp, .inl (cI, 16, .inl pr))] H := hP
  have hD : va_D A [(mo, .inr (6, [.int 0, .ref mx, .int (nI sn), .int fl, .int fa, .ref mt, .int (nI pn), .int (nI pn), .int (nI cm), .ref md, .ref mp])), (mx, .inl (cI, 500, .inl tx)), (mt, .inl (cI, 900, .inl td)), (md, .inl (cI, 16, .inl dp)), (mp, .inl (cI, 16, .inl pr))] := hD
  refine lv_aload_n hx hb dX6_keep_13 rfl (lv_at hl 0 rfl) ?_
  refine lv_iconst (v := 0) hx hb dX6_keep_14 (by decide) ?_
  refine lv_sipush (v := 300) hx hb dX6_keep_15 (by decide) ?_
  refine lv_aload_n hx hb dX6_keep_18 rfl (lv_at hl 0 rfl) ?_
  refine va_get (D := (dC, dI)) (ci := 6) (v := .int (nI pn)) (C := RX6) (T := TX6) (N := 11) hx hb hg in_X6 hown hK hP 0 rfl rfl 7 (by decide) (hg _ w_510) (fun _ h9 => h9) rfl dX6_keep_19 ?_
  obtain ⟨td1_1, hF_1⟩ : ∃ (td1_1 : Nat → Int32), m_copy 0 300 pn 0 td = td1_1 := ⟨_, rfl⟩
  refine go_M (r := none) (wc' := [(mo, .inr (6, [.int 0, .ref mx, .int (nI sn), .int fl, .int fa, .ref mt, .int (nI pn), .int (nI pn), .int (nI cm), .ref md, .ref mp])), (mx, .inl (cI, 500, .inl tx)), (mt, .inl (cI, 900, .inl td1_1)), (md, .inl (cI, 16, .inl dp)), (mp, .inl (cI, 16, .inl pr))]) (w2 := [(mo, .inr (6, [.int 0, .ref mx, .int (nI sn), .int fl, .int fa, .ref mt, .int (nI pn), .int (nI pn), .int (nI cm), .ref md, .ref mp])), (mx, .inl (cI, 500, .inl tx)), (mt, .inl (cI, 900, .inl td1_1)), (md, .inl (cI, 16, .inl dp)), (mp, .inl (cI, 16, .inl pr))]) [0, 1, 2, 3, 4] (va_runV (As := [.int 0, .int 300, .int (nI pn)]) (rest := []) ⟨hx, hb, hml, hown, hg⟩ (kX6_copies l dC dI B cI cC cJ mo mx mt md mp tx td dp pr 0 fl fa sn pn pn cm 0 300 pn td1_1 (by omega) (by omega) (by omega) (by omega) (by omega) (by omega) hF_1 _) (cwV 3 hg (gi_V w_591 w_592 w_704 w_8 w_593) rfl rfl rfl (by decide +kernel) ⟨Nat.le_of_ble_eq_true rfl, Nat.le_of_ble_eq_true rfl⟩) (pre_MV (va_recv hK hP (ci := 6) (q0 := 0) rfl rfl) (Nat.le_trans hB hS.1) (hP.sub [0, 1, 2, 3, 4] rfl) hK ((hD.weaken (fun _ _ _ h => hAB _ h)).sub [0, 1, 2, 3, 4] (by decide) rfl) (hT.kept (hS.mono hAB))) rfl rfl hl.1 rfl (lv_room (Nat.le_of_ble_eq_true rfl)) dX6_keep_22 ⟨Nat.le_of_ble_eq_true rfl, Nat.le_of_ble_eq_true rfl⟩) hP hD hS hA rfl (Nat.le_of_ble_eq_true rfl) rfl rfl (fun H locs hP hD hS => ?_)
  refine W.eq (g2 := F0 m 25 ls []) rfl ?_
  refine lv_aload_n hx hb dX6_keep_25 rfl (lv_at hl 0 rfl) ?_
  refine va_get (D := (dC, dI)) (ci := 6) (v := .int (nI pn)) (C := RX6) (T := TX6) (N := 11) hx hb hg in_X6 hown hK hP 0 rfl rfl 7 (by decide) (hg _ w_510) (fun _ h9 => h9) rfl dX6_keep_26 ?_
  have hP9 := hP
  have hS9 := hS
  have h9 : m_copy 0 300 pn 0 td = td1_1 := by exact hF_1
  have h9 := hF.symm.trans h9
  cases h9
  exact W.iret hx hb hr (fun t ht hW => ⟨rfl, by rw [ht]; exact hP9, hS9.F ht⟩) hS9.2.2 dX6_keep_29
set_option maxHeartbeats 4000000 in
set_option maxRecDepth 100000 in
theorem kX6_compare (l : Launch) (dC : Nat → ClassId) (dI : Nat → Nat → Nat) (B : Nat) (cI cC cJ : ClassId) (mo : Nat) (mx : Nat) (mt : Nat) (md : Nat) (mp : Nat) (tx : Nat → Int32) (td : Nat → Int32) (dp : Nat → Int32) (pr : Nat → Int32) (th : Int32) (fl : Int32) (fa : Int32) (sn : Nat) (pn : Nat) (kp : Nat) (cm : Nat) (x1 : Int32) (hsn : sn ≤ 500) (hpn : pn ≤ 50) (hkp : kp ≤ 50) (hcm : cm ≤ 50) (hF : m_compare td pn kp = x1) (sz9 : Nat) : Met l yX6_compare wsX6_compare ({ frames := 1, cells := 0, slots := 0, locals := 26 }) (q_Mp (dC, dI) vwCl [.ref mo] [(mo, .inr (6, [.int th, .ref mx, .int (nI sn), .int fl, .int fa, .ref mt, .int (nI pn), .int (nI kp), .int (nI cm), .ref md, .ref mp])), (mx, .inl (cI, 500, .inl tx)), (mt, .inl (cI, 900, .inl td)), (md, .inl (cI, 16, .inl dp)), (mp, .inl (cI, 16, .inl pr))] [(cI, .int), (cC, .char), (cJ, .long)] B sz9) (q_Mq (dC, dI) vwCl [(mo, .inr (6, [.int 0, .ref mx, .int (nI sn), .int fl, .int fa, .ref mt, .int (nI pn), .int (nI kp), .int (nI cm), .ref md, .ref mp])), (mx, .inl (cI, 500, .inl tx)), (mt, .inl (cI, 900, .inl td)), (md, .inl (cI, 16, .inl dp)), (mp, .inl (cI, 16, .inl pr))] (va_A [(mo, .inr (6, [.int th, .ref mx, .int (nI sn), .int fl, .int fa, .ref mt, .int (nI pn), .int (nI kp), .int (nI cm), .ref md, .ref mp])), (mx, .inl (cI, 500, .inl tx)), (mt, .inl (cI, 900, .inl td)), (md, .inl (cI, 16, .inl dp)), (mp, .inl (cI, 16, .inl pr))] sz9) (some (.int x1))) 0 0 (va_A [(mo, .inr (6, [.int th, .ref mx, .int (nI sn), .int fl, .int fa, .ref mt, .int (nI pn), .int (nI kp), .int (nI cm), .ref md, .ref mp])), (mx, .inl (cI, 500, .inl tx)), (mt, .inl (cI, 900, .inl td)), (md, .inl (cI, 16, .inl dp)), (mp, .inl (cI, 16, .inl pr))] sz9) := by
  refine Met.ofW (cc := cX6_compare) (maxL := 5) (ret := (some .int)) (by decide) rfl ?_
  intro p e s m args below meth c s₁ Bd hml hv
  obtain ⟨rfl, hsz9, hB, hP, hK, hD0, hT⟩ := hv
  have hx := Bd.exec
  have hb := Bd.bytes
  have hr := Bd.returns
  have hts := atoms_spec (ws := wsX6_compare) Bd.pre
  have hg : ∀ w ∈ lw_good, w.before _ s = true := fun w h => hts w (List.mem_cons_of_mem _ h)
  have hown : s.vm.findClass RX6 = some m.cls := findClass_of_methodNamed Bd.named
  have hlocks := Bd.notSynchronized
  subst hsz9
  have hD := hD0.self (sz := s.heap.size)
  generalize hAe : va_A [(mo, .inr (6, [.int th, .ref mx, .int (nI sn), .int fl, .int fa, .ref mt, .int (nI pn), .int (nI kp), .int (nI cm), .ref md, .ref mp])), (mx, .inl (cI, 500, .inl tx)), (mt, .inl (cI, 900, .inl td)), (md, .inl (cI, 16, .inl dp)), (mp, .inl (cI, 16, .inl pr))] s.heap.size = A at hD ⊢
  have hA : ∀ q : Nat, s.heap.size ≤ q → A q := fun q h => by rw [← hAe]; exact Or.inr h
  have hAB : ∀ q, A q → B ≤ q := by rw [← hAe]; exact va_A.ge hD0 hB
  have hS : va_S A s.heap s.heap [] := va_S.rf
  have hP : va_P (dC, dI) vwCl [(mo, .inr (6, [.int th, .ref mx, .int (nI sn), .int fl, .int fa, .ref mt, .int (nI pn), .int (nI kp), .int (nI cm), .ref md, .ref mp])), (mx, .inl (cI, 500, .inl tx)), (mt, .inl (cI, 900, .inl td)), (md, .inl (cI, 16, .inl dp)), (mp, .inl (cI, 16, .inl pr))] s.heap := hP
  have hl := lv_entry ([.ref mo]) (n := 5) (Nat.le_of_ble_eq_true rfl)
  rw [lg_entry_eq]
  generalize (lg_sl ([.ref mo]) ++ List.replicate (5 - (lg_sl ([.ref mo])).length) Slot.unset).toArray = ls at hl ⊢
  have hl : lv_has ls 5 [(0, .ref mo)] := hl
  refine lv_aload_n hx hb dX6_compare_0 rfl (lv_at hl 0 rfl) ?_
  refine lv_iconst (v := 0) hx hb dX6_compare_1 (by decide) ?_
  refine va_put (D := (dC, dI)) (ci := 6) (v := .int 0) (ty := .int) (C := RX6) (T := TX6) (N := 11) hx hb hg in_X6 tyX6 tyX6_ok nmX6_ok hown hK hP hD hS 0 rfl rfl 0 (by decide) (hg _ w_503) (fun _ h9 => h9) rfl (by decide +kernel) rfl rfl (Nat.le_of_ble_eq_true rfl) dX6_compare_2 (fun H locs hP hD hS => ?_)
  have hP : va_P (dC, dI) vwCl [(mo, .inr (6, [.int 0, .ref mx, .int (nI sn), .int fl, .int fa, .ref mt, .int (nI pn), .int (nI kp), .int (nI cm), .ref md, .ref mp])), (mx, .inl (cI, 500, .inl tx)), (mt, .inl (cI, 900, .inl td)), (md, .inl (cI, 16, .inl dp)), (mp, .inl (cI, 16, .inl pr))] H := hP
  have hD : va_D A [(mo, .inr (6, [.int 0, .ref mx, .int (nI sn), .int fl, .int fa, .ref mt, .int (nI pn), .int (nI kp), .int (nI cm), .ref md, .ref mp])), (mx, .inl (cI, 500, .inl tx)), (mt, .inl (cI, 900, .inl td)), (md, .inl (cI, 16, .inl dp)), (mp, .inl (cI, 16, .inl pr))] := hD
  refine lv_iconst (v := 0) hx hb dX6_compare_5 (by decide) ?_
  refine lv_istore_n (lv' := [(1, .int 0), (0, .ref mo)]) hx hb dX6_compare_6 rfl hl (by decide) rfl (fun ls hl => ?_)
  refine lv_iconst (v := 0) hx hb dX6_compare_7 (by decide) ?_
  refine lv_istore_n (lv' := [(2, .int 0), (1, .int 0), (0, .ref mo)]) hx hb dX6_compare_8 rfl hl (by decide) rfl (fun ls hl => ?_)
  refine lv_iconst (v := 0) hx hb dX6_compare_9 (by decide) ?_
  refine lv_istore_n (lv' := [(3, .int 0), (2, .int 0), (1, .int 0), (0, .ref mo)]) hx hb dX6_compare_10 rfl hl (by decide) rfl (fun ls hl => ?_)
  refine loop_M (σ := Nat × Nat × Nat) (fun n x H locs ls => pn - x.2.2 < n ∧ x.2.2 ≤ pn ∧ x.1 ≤ x.2.2 ∧ x.2.1 ≤ x.2.2 ∧ m_cmp td pn kp 0 0 0 = m_cmp td pn kp x.2.2 x.1 x.2.1 ∧ va_P (dC, dI) vwCl [(mo, .inr (6, [.int 0, .ref mx, .int (nI sn), .int fl, .int fa, .ref mt, .int (nI pn), .int (nI kp), .int (nI cm), .ref md, .ref mp])), (mx, .inl (cI, 500, .inl tx)), (mt, .inl (cI, 900, .inl td)), (md, .inl (cI, 16, .inl dp)), (mp, .inl (cI, 16, .inl pr))] H ∧ va_D A [(mo, .inr (6, [.int 0, .ref mx, .int (nI sn), .int fl, .int fa, .ref mt, .int (nI pn), .int (nI kp), .int (nI cm), .ref md, .ref mp])), (mx, .inl (cI, 500, .inl tx)), (mt, .inl (cI, 900, .inl td)), (md, .inl (cI, 16, .inl dp)), (mp, .inl (cI, 16, .inl pr))] ∧ va_S A s.heap H locs ∧ lv_has ls 5 [(0, .ref mo), (1, .int (nI x.1)), (2, .int (nI x.2.1)), (3, .int (nI x.2.2))]) (fun n x H locs ls ih_1 hI => ?_) (fun x H locs ls hI => ?_) (n := (pn - 0) + 1) (x := (0, 0, 0)) ⟨(Nat.lt_succ_self _), (by first | omega | (dsimp only; omega) | (dsimp only; done)), (by first | omega | (dsimp only; omega) | (dsimp only; done)), (by first | omega | (dsimp only; omega) | (dsimp only; done)), rfl, hP, hD, hS, lv_sub hl [3, 2, 1, 0] rfl⟩
  · skip
    obtain ⟨n9, b9, k⟩ := x
    obtain ⟨hfu, hk0, hn9, hb9, he, hP, hD, hS, hl⟩ := hI
    have hfu : pn - k < n + 1 := hfu
    have hk0 : k ≤ pn := hk0
    have hn9 : n9 ≤ k := hn9
    have hb9 : b9 ≤ k := hb9
    have he : m_cmp td pn kp 0 0 0 = m_cmp td pn kp k n9 b9 := he
    have hP : va_P (dC, dI) vwCl [(mo, .inr (6, [.int 0, .ref mx, .int (nI sn), .int fl, .int fa, .ref mt, .int (nI pn), .int (nI kp), .int (nI cm), .ref md, .ref mp])), (mx, .inl (cI, 500, .inl tx)), (mt, .inl (cI, 900, .inl td)), (md, .inl (cI, 16, .inl dp)), (mp, .inl (cI, 16, .inl pr))] H := hP
    have hD : va_D A [(mo, .inr (6, [.int 0, .ref mx, .int (nI sn), .int fl, .int fa, .ref mt, .int (nI pn), .int (nI kp), .int (nI cm), .ref md, .ref mp])), (mx, .inl (cI, 500, .inl tx)), (mt, .inl (cI, 900, .inl td)), (md, .inl (cI, 16, .inl dp)), (mp, .inl (cI, 16, .inl pr))] := hD
    have hl : lv_has ls 5 [(0, .ref mo), (1, .int (nI n9)), (2, .int (nI b9)), (3, .int (nI k))] := hl
    refine lv_iload_n hx hb dX6_compare_11 rfl (lv_at hl 3 rfl) ?_
    refine lv_aload_n hx hb dX6_compare_12 rfl (lv_at hl 0 rfl) ?_
    refine va_get (D := (dC, dI)) (ci := 6) (v := .int (nI pn)) (C := RX6) (T := TX6) (N := 11) hx hb hg in_X6 hown hK hP 0 rfl rfl 6 (by decide) (hg _ w_509) (fun _ h9 => h9) rfl dX6_compare_13 ?_
    refine lv_icmp_ge (tgt := 113) hx hb dX6_compare_16 (by decide) (fun c_2 => ?_) (fun c_2 => ?_)
    · skip
      have c_2 := na_le (a := pn) (b := k) c_2 (by omega) (by omega)
      refine lv_iload_n hx hb dX6_compare_113 rfl (lv_at hl 1 rfl) ?_
      refine lv_aload_n hx hb dX6_compare_114 rfl (lv_at hl 0 rfl) ?_
      refine va_get (D := (dC, dI)) (ci := 6) (v := .int (nI kp)) (C := RX6) (T := TX6) (N := 11) hx hb hg in_X6 hown hK hP 0 rfl rfl 7 (by decide) (hg _ w_510) (fun _ h9 => h9) rfl dX6_compare_115 ?_
      refine lv_iadd hx hb dX6_compare_118 ?_
      refine top_eq (y := (nI (n9 + kp))) (by exact nI_add _ _) ?_
      refine lv_iload_n hx hb dX6_compare_119 rfl (lv_at hl 2 rfl) ?_
      refine lv_isub hx hb dX6_compare_120 ?_
      have hP9 := hP
      have hS9 := hS
      have h9 : m_compare td pn kp = (nI (n9 + kp)) - (nI b9) := by rw [m_compare, he, m_cmp]; simp [c_2]
      have h9 := hF.symm.trans h9
      cases h9
      exact W.iret hx hb hr (fun t ht hW => ⟨rfl, by rw [ht]; exact hP9, hS9.F ht⟩) hS9.2.2 dX6_compare_121
    · skip
      have c_2 := na_nle (a := pn) (b := k) c_2 (by omega) (by omega)
      refine lv_aload_n hx hb dX6_compare_19 rfl (lv_at hl 0 rfl) ?_
      refine lv_sipush (v := 300) hx hb dX6_compare_20 (by decide) ?_
      refine lv_aload_n hx hb dX6_compare_23 rfl (lv_at hl 0 rfl) ?_
      refine va_get (D := (dC, dI)) (ci := 6) (v := .int (nI kp)) (C := RX6) (T := TX6) (N := 11) hx hb hg in_X6 hown hK hP 0 rfl rfl 7 (by decide) (hg _ w_510) (fun _ h9 => h9) rfl dX6_compare_24 ?_
      refine lv_aload_n hx hb dX6_compare_27 rfl (lv_at hl 0 rfl) ?_
      refine va_get (D := (dC, dI)) (ci := 6) (v := .ref mt) (C := RX6) (T := TX6) (N := 11) hx hb hg in_X6 hown hK hP 0 rfl rfl 5 (by decide) (hg _ w_508) (fun _ h9 => h9) rfl dX6_compare_28 ?_
      refine lv_bipush (v := 6) hx hb dX6_compare_31 (by decide) ?_
      refine lv_iload_n hx hb dX6_compare_33 rfl (lv_at hl 3 rfl) ?_
      refine lv_imul hx hb dX6_compare_34 ?_
      refine top_eq (y := (nI (6 * k))) (by exact pk_mul _ _) ?_
      refine x_iald (k := 6 * k) hx hb hK hP 2 0 rfl rfl (by omega) (by decide) dX6_compare_35 ?_
      refine lv_aload_n hx hb dX6_compare_36 rfl (lv_at hl 0 rfl) ?_
      refine va_get (D := (dC, dI)) (ci := 6) (v := .ref mt) (C := RX6) (T := TX6) (N := 11) hx hb hg in_X6 hown hK hP 0 rfl rfl 5 (by decide) (hg _ w_508) (fun _ h9 => h9) rfl dX6_compare_37 ?_
      refine lv_bipush (v := 6) hx hb dX6_compare_40 (by decide) ?_
      refine lv_iload_n hx hb dX6_compare_42 rfl (lv_at hl 3 rfl) ?_
      refine lv_imul hx hb dX6_compare_43 ?_
      refine top_eq (y := (nI (6 * k))) (by exact pk_mul _ _) ?_
      refine lv_iconst (v := 1) hx hb dX6_compare_44 (by decide) ?_
      refine lv_iadd hx hb dX6_compare_45 ?_
      refine top_eq (y := (nI ((6 * k) + 1))) (by exact nI_add _ _) ?_
      refine x_iald (k := (6 * k) + 1) hx hb hK hP 2 0 rfl rfl (by omega) (by decide) dX6_compare_46 ?_
      refine go_R (r := (oI (m_find td 300 kp (td (6 * k)) (td ((6 * k) + 1)) 0 none))) (va_runV (As := [.int 300, .int (nI kp), .int (td (6 * k)), .int (td ((6 * k) + 1))]) (rest := []) ⟨hx, hb, hml, hown, hg⟩ (kX6_findIn l dC dI B cI cC cJ mo mx mt md mp tx td dp pr 0 fl fa sn pn kp cm 300 kp (td (6 * k)) (td ((6 * k) + 1)) (by omega) (by omega) (by omega) (by omega) (by omega)) (cwV 4 hg (gi_V w_579 w_580 w_702 w_8 w_581) rfl rfl rfl (by decide +kernel) ⟨Nat.le_of_ble_eq_true rfl, Nat.le_of_ble_eq_true rfl⟩) (pre_RV (va_recv hK hP (ci := 6) (q0 := 0) rfl rfl) (hP.sub [0, 1, 2, 3, 4] rfl) hK (hT.kept (hS.mono hAB))) rfl rfl hl.1 rfl (lv_room (Nat.le_of_ble_eq_true rfl)) dX6_compare_47 ⟨Nat.le_of_ble_eq_true rfl, Nat.le_of_ble_eq_true rfl⟩) ?_
      generalize hE_3 : m_find td 300 kp (td (6 * k)) (td ((6 * k) + 1)) 0 none = r_3
      have hb_r_3 : ∀ n, r_3 = some n → n < kp := fun n h => m_find_lt (hE_3.trans h)
      refine lv_istore (lv' := [(4, .int (oI r_3)), (0, .ref mo), (1, .int (nI n9)), (2, .int (nI b9)), (3, .int (nI k))]) hx hb dX6_compare_50 hl (by decide) rfl (fun ls hl => ?_)
      refine lv_iload_n hx hb dX6_compare_52 rfl (lv_at hl 2 rfl) ?_
      refine lv_iload hx hb dX6_compare_53 (lv_at hl 0 rfl) ?_
      refine lv_if_lt (tgt := 87) hx hb dX6_compare_55 (by decide) (fun c_4 => ?_) (fun c_4 => ?_)
      · skip
        obtain rfl : r_3 = none := oI_neg (c_4) hb_r_3 (by omega)
        refine lv_iconst (v := 1) hx hb dX6_compare_87 (by decide) ?_
        refine lv_goto (tgt := 92) hx hb dX6_compare_88 (by decide) ?_
        refine lv_iadd hx hb dX6_compare_92 ?_
        refine top_eq (y := (nI (n9 + 1))) (by exact nI_add _ _) ?_
        refine lv_istore_n (lv' := [(1, .int (nI (n9 + 1))), (4, .int (-1)), (0, .ref mo), (2, .int (nI b9)), (3, .int (nI k))]) hx hb dX6_compare_93 rfl hl (by decide) rfl (fun ls hl => ?_)
        refine lv_iload_n hx hb dX6_compare_94 rfl (lv_at hl 3 rfl) ?_
        refine lv_iload hx hb dX6_compare_95 (lv_at hl 1 rfl) ?_
        refine lv_if_ge (tgt := 104) hx hb dX6_compare_97 (by decide) (fun c_5 => ?_) (fun c_5 => ?_)
        · skip
          exact absurd c_5 (by decide)
        · skip
          refine lv_iconst (v := 0) hx hb dX6_compare_100 (by decide) ?_
          refine lv_goto (tgt := 105) hx hb dX6_compare_101 (by decide) ?_
          refine lv_iadd hx hb dX6_compare_105 ?_
          refine top_eq (y := (nI (b9 + 0))) (by exact nI_add _ _) ?_
          refine lv_istore_n (lv' := [(2, .int (nI (b9 + 0))), (1, .int (nI (n9 + 1))), (4, .int (-1)), (0, .ref mo), (3, .int (nI k))]) hx hb dX6_compare_106 rfl hl (by decide) rfl (fun ls hl => ?_)
          refine lv_iinc (v := (nI (k + 1))) (lv' := [(3, .int (nI (k + 1))), (2, .int (nI (b9 + 0))), (1, .int (nI (n9 + 1))), (4, .int (-1)), (0, .ref mo)]) hx hb dX6_compare_107 hl (k := 4) rfl (by rw [← nI_add]; rfl) (by decide) rfl (fun ls hl => ?_)
          refine lv_goto (tgt := 11) hx hb dX6_compare_110 (by decide) ?_
          exact ih_1 (n9 + 1, b9 + 0, k + 1) _ _ _ ⟨(by first | omega | (dsimp only; omega) | (dsimp only; done)), (by first | omega | (dsimp only; omega) | (dsimp only; done)), (by first | omega | (dsimp only; omega) | (dsimp only; done)), (by first | omega | (dsimp only; omega) | (dsimp only; done)), (by (try dsimp only); rw [he, m_cmp]; simp [c_2, hE_3]), hP, hD, hS, lv_sub hl [4, 2, 1, 0] rfl⟩
      · skip
        obtain ⟨n_6, rfl⟩ : ∃ n, r_3 = some n := oI_some c_4
        have hn_6 := hb_r_3 _ rfl
        refine lv_aload_n hx hb dX6_compare_58 rfl (lv_at hl 1 rfl) ?_
        refine lv_bipush (v := 6) hx hb dX6_compare_59 (by decide) ?_
        refine lv_iload_n hx hb dX6_compare_61 rfl (lv_at hl 4 rfl) ?_
        refine lv_imul hx hb dX6_compare_62 ?_
        refine top_eq (y := (nI (6 * k))) (by exact pk_mul _ _) ?_
        refine lv_sipush (v := 300) hx hb dX6_compare_63 (by decide) ?_
        refine lv_bipush (v := 6) hx hb dX6_compare_66 (by decide) ?_
        refine lv_iload hx hb dX6_compare_68 (lv_at hl 0 rfl) ?_
        refine lv_if_ge (tgt := 77) hx hb dX6_compare_70 (by decide) (fun c_7 => ?_) (fun c_7 => ?_)
        · skip
          have c_7 := na_le (a := 0) (b := n_6) c_7 (by omega) (by omega)
          refine lv_iload hx hb dX6_compare_77 (lv_at hl 0 rfl) ?_
          refine lv_imul hx hb dX6_compare_79 ?_
          refine top_eq (y := (nI (6 * n_6))) (by exact pk_mul _ _) ?_
          refine lv_iadd hx hb dX6_compare_80 ?_
          refine top_eq (y := (nI (300 + (6 * n_6)))) (by exact nI_add _ _) ?_
          refine go_R (r := (bI (m_alike td (6 * k) (300 + (6 * n_6)) 0 true))) (va_runV (As := [.int (nI (6 * k)), .int (nI (300 + (6 * n_6)))]) (rest := [.int (nI n9)]) ⟨hx, hb, hml, hown, hg⟩ (kX6_isAlike l dC dI B cI cC cJ mo mx mt md mp tx td dp pr 0 fl fa sn pn kp cm (6 * k) (300 + (6 * n_6)) (by omega) (by omega) (by omega) (by omega) (by omega) (by omega)) (cwV 2 hg (gi_V w_668 w_669 w_713 w_8 w_670) rfl rfl rfl (by decide +kernel) ⟨Nat.le_of_ble_eq_true rfl, Nat.le_of_ble_eq_true rfl⟩) (pre_RV (va_recv hK hP (ci := 6) (q0 := 0) rfl rfl) (hP.sub [0, 1, 2, 3, 4] rfl) hK (hT.kept (hS.mono hAB))) rfl rfl hl.1 rfl (lv_room (Nat.le_of_ble_eq_true rfl)) dX6_compare_81 ⟨Nat.le_of_ble_eq_true rfl, Nat.le_of_ble_eq_true rfl⟩) ?_
          refine lv_if_ne (tgt := 91) hx hb dX6_compare_84 (by decide) (fun c_8 => ?_) (fun c_8 => ?_)
          · skip
            have c_8 := bI_ne0 c_8
            refine lv_iconst (v := 0) hx hb dX6_compare_91 (by decide) ?_
            refine lv_iadd hx hb dX6_compare_92 ?_
            refine top_eq (y := (nI (n9 + 0))) (by exact nI_add _ _) ?_
            refine lv_istore_n (lv' := [(1, .int (nI (n9 + 0))), (4, .int (nI n_6)), (0, .ref mo), (2, .int (nI b9)), (3, .int (nI k))]) hx hb dX6_compare_93 rfl hl (by decide) rfl (fun ls hl => ?_)
            refine lv_iload_n hx hb dX6_compare_94 rfl (lv_at hl 3 rfl) ?_
            refine lv_iload hx hb dX6_compare_95 (lv_at hl 1 rfl) ?_
            refine lv_if_ge (tgt := 104) hx hb dX6_compare_97 (by decide) (fun c_9 => ?_) (fun c_9 => ?_)
            · skip
              have c_9 := na_le (a := 0) (b := n_6) c_9 (by omega) (by omega)
              refine lv_iconst (v := 1) hx hb dX6_compare_104 (by decide) ?_
              refine lv_iadd hx hb dX6_compare_105 ?_
              refine top_eq (y := (nI (b9 + 1))) (by exact nI_add _ _) ?_
              refine lv_istore_n (lv' := [(2, .int (nI (b9 + 1))), (1, .int (nI (n9 + 0))), (4, .int (nI n_6)), (0, .ref mo), (3, .int (nI k))]) hx hb dX6_compare_106 rfl hl (by decide) rfl (fun ls hl => ?_)
              refine lv_iinc (v := (nI (k + 1))) (lv' := [(3, .int (nI (k + 1))), (2, .int (nI (b9 + 1))), (1, .int (nI (n9 + 0))), (4, .int (nI n_6)), (0, .ref mo)]) hx hb dX6_compare_107 hl (k := 4) rfl (by rw [← nI_add]; rfl) (by decide) rfl (fun ls hl => ?_)
              refine lv_goto (tgt := 11) hx hb dX6_compare_110 (by decide) ?_
              exact ih_1 (n9 + 0, b9 + 1, k + 1) _ _ _ ⟨(by first | omega | (dsimp only; omega) | (dsimp only; done)), (by first | omega | (dsimp only; omega) | (dsimp only; done)), (by first | omega | (dsimp only; omega) | (dsimp only; done)), (by first | omega | (dsimp only; omega) | (dsimp only; done)), (by (try dsimp only); rw [he, m_cmp]; simp [c_2, hE_3, c_7, c_8, c_9]), hP, hD, hS, lv_sub hl [4, 2, 1, 0] rfl⟩
            · skip
              have c_9 := na_nle (a := 0) (b := n_6) c_9 (by omega) (by omega)
              exact absurd c_9 (Nat.not_lt_zero _)
          · skip
            have c_8 := bI_eq0 c_8
            refine lv_iconst (v := 1) hx hb dX6_compare_87 (by decide) ?_
            refine lv_goto (tgt := 92) hx hb dX6_compare_88 (by decide) ?_
            refine lv_iadd hx hb dX6_compare_92 ?_
            refine top_eq (y := (nI (n9 + 1))) (by exact nI_add _ _) ?_
            refine lv_istore_n (lv' := [(1, .int (nI (n9 + 1))), (4, .int (nI n_6)), (0, .ref mo), (2, .int (nI b9)), (3, .int (nI k))]) hx hb dX6_compare_93 rfl hl (by decide) rfl (fun ls hl => ?_)
            refine lv_iload_n hx hb dX6_compare_94 rfl (lv_at hl 3 rfl) ?_
            refine lv_iload hx hb dX6_compare_95 (lv_at hl 1 rfl) ?_
            refine lv_if_ge (tgt := 104) hx hb dX6_compare_97 (by decide) (fun c_10 => ?_) (fun c_10 => ?_)
            · skip
              have c_10 := na_le (a := 0) (b := n_6) c_10 (by omega) (by omega)
              refine lv_iconst (v := 1) hx hb dX6_compare_104 (by decide) ?_
              refine lv_iadd hx hb dX6_compare_105 ?_
              refine top_eq (y := (nI (b9 + 1))) (by exact nI_add _ _) ?_
              refine lv_istore_n (lv' := [(2, .int (nI (b9 + 1))), (1, .int (nI (n9 + 1))), (4, .int (nI n_6)), (0, .ref mo), (3, .int (nI k))]) hx hb dX6_compare_106 rfl hl (by decide) rfl (fun ls hl => ?_)
              refine lv_iinc (v := (nI (k + 1))) (lv' := [(3, .int (nI (k + 1))), (2, .int (nI (b9 + 1))), (1, .int (nI (n9 + 1))), (4, .int (nI n_6)), (0, .ref mo)]) hx hb dX6_compare_107 hl (k := 4) rfl (by rw [← nI_add]; rfl) (by decide) rfl (fun ls hl => ?_)
              refine lv_goto (tgt := 11) hx hb dX6_compare_110 (by decide) ?_
              exact ih_1 (n9 + 1, b9 + 1, k + 1) _ _ _ ⟨(by first | omega | (dsimp only; omega) | (dsimp only; done)), (by first | omega | (dsimp only; omega) | (dsimp only; done)), (by first | omega | (dsimp only; omega) | (dsimp only; done)), (by first | omega | (dsimp only; omega) | (dsimp only; done)), (by (try dsimp only); rw [he, m_cmp]; simp [c_2, hE_3, c_7, c_8, c_10]), hP, hD, hS, lv_sub hl [4, 2, 1, 0] rfl⟩
            · skip
              have c_10 := na_nle (a := 0) (b := n_6) c_10 (by omega) (by omega)
              exact absurd c_10 (Nat.not_lt_zero _)
        · skip
          have c_7 := na_nle (a := 0) (b := n_6) c_7 (by omega) (by omega)
          exact absurd c_7 (Nat.not_lt_zero _)
  · exact absurd hI.1 (Nat.not_lt_zero _)
set_option maxHeartbeats 4000000 in
set_option maxRecDepth 100000 in
theorem kX6_count (l : Launch) (dC : Nat → ClassId) (dI : Nat → Nat → Nat) (B : Nat) (cI cC cJ : ClassId) (mo : Nat) (mx : Nat) (mt : Nat) (md : Nat) (mp : Nat) (tx : Nat → Int32) (td : Nat → Int32) (dp : Nat → Int32) (pr : Nat → Int32) (th : Int32) (fl : Int32) (fa : Int32) (sn : Nat) (pn : Nat) (kp : Nat) (cm : Nat) (p0 : Int32) (x1 : Int32) (hsn : sn ≤ 500) (hpn : pn ≤ 50) (hkp : kp ≤ 50) (hcm : cm ≤ 50) (hF : m_count td sn pn kp p0 = x1) (sz9 : Nat) : Met l yX6_count wsX6_count ({ frames := 0, cells := 0, slots := 0, locals := 0 }) (q_Mp (dC, dI) vwCl [.ref mo, .int p0] [(mo, .inr (6, [.int th, .ref mx, .int (nI sn), .int fl, .int fa, .ref mt, .int (nI pn), .int (nI kp), .int (nI cm), .ref md, .ref mp])), (mx, .inl (cI, 500, .inl tx)), (mt, .inl (cI, 900, .inl td)), (md, .inl (cI, 16, .inl dp)), (mp, .inl (cI, 16, .inl pr))] [(cI, .int), (cC, .char), (cJ, .long)] B sz9) (q_Mq (dC, dI) vwCl [(mo, .inr (6, [.int 0, .ref mx, .int (nI sn), .int fl, .int fa, .ref mt, .int (nI pn), .int (nI kp), .int (nI cm), .ref md, .ref mp])), (mx, .inl (cI, 500, .inl tx)), (mt, .inl (cI, 900, .inl td)), (md, .inl (cI, 16, .inl dp)), (mp, .inl (cI, 16, .inl pr))] (va_A [(mo, .inr (6, [.int th, .ref mx, .int (nI sn), .int fl, .int fa, .ref mt, .int (nI pn), .int (nI kp), .int (nI cm), .ref md, .ref mp])), (mx, .inl (cI, 500, .inl tx)), (mt, .inl (cI, 900, .inl td)), (md, .inl (cI, 16, .inl dp)), (mp, .inl (cI, 16, .inl pr))] sz9) (some (.int x1))) 0 0 (va_A [(mo, .inr (6, [.int th, .ref mx, .int (nI sn), .int fl, .int fa, .ref mt, .int (nI pn), .int (nI kp), .int (nI cm), .ref md, .ref mp])), (mx, .inl (cI, 500, .inl tx)), (mt, .inl (cI, 900, .inl td)), (md, .inl (cI, 16, .inl dp)), (mp, .inl (cI, 16, .inl pr))] sz9) := by
  refine Met.ofW (cc := cX6_count) (maxL := 4) (ret := (some .int)) (by decide) rfl ?_
  intro p e s m args below meth c s₁ Bd hml hv
  obtain ⟨rfl, hsz9, hB, hP, hK, hD0, hT⟩ := hv
  have hx := Bd.exec
  have hb := Bd.bytes
  have hr := Bd.returns
  have hts := atoms_spec (ws := wsX6_count) Bd.pre
  have hg : ∀ w ∈ lw_good, w.before _ s = true := fun w h => hts w (List.mem_cons_of_mem _ h)
  have hown : s.vm.findClass RX6 = some m.cls := findClass_of_methodNamed Bd.named
  have hlocks := Bd.notSynchronized
  subst hsz9
  have hD := hD0.self (sz := s.heap.size)
  generalize hAe : va_A [(mo, .inr (6, [.int th, .ref mx, .int (nI sn), .int fl, .int fa, .ref mt, .int (nI pn), .int (nI kp), .int (nI cm), .ref md, .ref mp])), (mx, .inl (cI, 500, .inl tx)), (mt, .inl (cI, 900, .inl td)), (md, .inl (cI, 16, .inl dp)), (mp, .inl (cI, 16, .inl pr))] s.heap.size = A at hD ⊢
  have hA : ∀ q : Nat, s.heap.size ≤ q → A q := fun q h => by rw [← hAe]; exact Or.inr h
  have hAB : ∀ q, A q → B ≤ q := by rw [← hAe]; exact va_A.ge hD0 hB
  have hS : va_S A s.heap s.heap [] := va_S.rf
  have hP : va_P (dC, dI) vwCl [(mo, .inr (6, [.int th, .ref mx, .int (nI sn), .int fl, .int fa, .ref mt, .int (nI pn), .int (nI kp), .int (nI cm), .ref md, .ref mp])), (mx, .inl (cI, 500, .inl tx)), (mt, .inl (cI, 900, .inl td)), (md, .inl (cI, 16, .inl dp)), (mp, .inl (cI, 16, .inl pr))] s.heap := hP
  have hl := lv_entry ([.ref mo, .int p0]) (n := 4) (Nat.le_of_ble_eq_true rfl)
  rw [lg_entry_eq]
  generalize (lg_sl ([.ref mo, .int p0]) ++ List.replicate (4 - (lg_sl ([.ref mo, .int p0])).length) Slot.unset).toArray = ls at hl ⊢
  have hl : lv_has ls 4 [(0, .ref mo), (1, .int p0)] := hl
  refine lv_aload_n hx hb dX6_count_0 rfl (lv_at hl 0 rfl) ?_
  refine lv_iconst (v := 0) hx hb dX6_count_1 (by decide) ?_
  refine va_put (D := (dC, dI)) (ci := 6) (v := .int 0) (ty := .int) (C := RX6) (T := TX6) (N := 11) hx hb hg in_X6 tyX6 tyX6_ok nmX6_ok hown hK hP hD hS 0 rfl rfl 0 (by decide) (hg _ w_503) (fun _ h9 => h9) rfl (by decide +kernel) rfl rfl (Nat.le_of_ble_eq_true rfl) dX6_count_2 (fun H locs hP hD hS => ?_)
  have hP : va_P (dC, dI) vwCl [(mo, .inr (6, [.int 0, .ref mx, .int (nI sn), .int fl, .int fa, .ref mt, .int (nI pn), .int (nI kp), .int (nI cm), .ref md, .ref mp])), (mx, .inl (cI, 500, .inl tx)), (mt, .inl (cI, 900, .inl td)), (md, .inl (cI, 16, .inl dp)), (mp, .inl (cI, 16, .inl pr))] H := hP
  have hD : va_D A [(mo, .inr (6, [.int 0, .ref mx, .int (nI sn), .int fl, .int fa, .ref mt, .int (nI pn), .int (nI kp), .int (nI cm), .ref md, .ref mp])), (mx, .inl (cI, 500, .inl tx)), (mt, .inl (cI, 900, .inl td)), (md, .inl (cI, 16, .inl dp)), (mp, .inl (cI, 16, .inl pr))] := hD
  refine lv_iload_n hx hb dX6_count_5 rfl (lv_at hl 1 rfl) ?_
  refine lv_bipush (v := 10) hx hb dX6_count_6 (by decide) ?_
  refine lv_icmp_lt (tgt := 65) hx hb dX6_count_8 (by decide) (fun c_1 => ?_) (fun c_1 => ?_)
  · skip
    refine lv_iload_n hx hb dX6_count_65 rfl (lv_at hl 1 rfl) ?_
    refine lv_if_ne (tgt := 76) hx hb dX6_count_66 (by decide) (fun c_2 => ?_) (fun c_2 => ?_)
    · skip
      refine lv_iload_n hx hb dX6_count_76 rfl (lv_at hl 1 rfl) ?_
      refine lv_iconst (v := 1) hx hb dX6_count_77 (by decide) ?_
      refine lv_icmp_ne (tgt := 88) hx hb dX6_count_78 (by decide) (fun c_3 => ?_) (fun c_3 => ?_)
      · skip
        refine lv_iload_n hx hb dX6_count_88 rfl (lv_at hl 1 rfl) ?_
        refine lv_iconst (v := 2) hx hb dX6_count_89 (by decide) ?_
        refine lv_icmp_ne (tgt := 100) hx hb dX6_count_90 (by decide) (fun c_4 => ?_) (fun c_4 => ?_)
        · skip
          refine lv_iconst (v := (-1)) hx hb dX6_count_100 (by decide) ?_
          have hP9 := hP
          have hS9 := hS
          have h9 : m_count td sn pn kp p0 = (-1) := by simp [m_count, c_1, c_2, c_3, c_4]
          have h9 := hF.symm.trans h9
          cases h9
          exact W.iret hx hb hr (fun t ht hW => ⟨rfl, by rw [ht]; exact hP9, hS9.F ht⟩) hS9.2.2 dX6_count_101
        · skip
          refine lv_aload_n hx hb dX6_count_93 rfl (lv_at hl 0 rfl) ?_
          refine va_get (D := (dC, dI)) (ci := 6) (v := .int (nI kp)) (C := RX6) (T := TX6) (N := 11) hx hb hg in_X6 hown hK hP 0 rfl rfl 7 (by decide) (hg _ w_510) (fun _ h9 => h9) rfl dX6_count_94 ?_
          refine lv_goto (tgt := 101) hx hb dX6_count_97 (by decide) ?_
          have hP9 := hP
          have hS9 := hS
          have h9 : m_count td sn pn kp p0 = (nI kp) := by simp [m_count, c_1, c_2, c_3, eq_true c_4]
          have h9 := hF.symm.trans h9
          cases h9
          exact W.iret hx hb hr (fun t ht hW => ⟨rfl, by rw [ht]; exact hP9, hS9.F ht⟩) hS9.2.2 dX6_count_101
      · skip
        refine lv_aload_n hx hb dX6_count_81 rfl (lv_at hl 0 rfl) ?_
        refine va_get (D := (dC, dI)) (ci := 6) (v := .int (nI pn)) (C := RX6) (T := TX6) (N := 11) hx hb hg in_X6 hown hK hP 0 rfl rfl 6 (by decide) (hg _ w_509) (fun _ h9 => h9) rfl dX6_count_82 ?_
        refine lv_goto (tgt := 101) hx hb dX6_count_85 (by decide) ?_
        have hP9 := hP
        have hS9 := hS
        have h9 : m_count td sn pn kp p0 = (nI pn) := by simp [m_count, c_1, c_2, eq_true c_3]
        have h9 := hF.symm.trans h9
        cases h9
        exact W.iret hx hb hr (fun t ht hW => ⟨rfl, by rw [ht]; exact hP9, hS9.F ht⟩) hS9.2.2 dX6_count_101
    · skip
      refine lv_aload_n hx hb dX6_count_69 rfl (lv_at hl 0 rfl) ?_
      refine va_get (D := (dC, dI)) (ci := 6) (v := .int (nI sn)) (C := RX6) (T := TX6) (N := 11) hx hb hg in_X6 hown hK hP 0 rfl rfl 2 (by decide) (hg _ w_505) (fun _ h9 => h9) rfl dX6_count_70 ?_
      refine lv_goto (tgt := 101) hx hb dX6_count_73 (by decide) ?_
      have hP9 := hP
      have hS9 := hS
      have h9 : m_count td sn pn kp p0 = (nI sn) := by simp [m_count, c_1, eq_true c_2]
      have h9 := hF.symm.trans h9
      cases h9
      exact W.iret hx hb hr (fun t ht hW => ⟨rfl, by rw [ht]; exact hP9, hS9.F ht⟩) hS9.2.2 dX6_count_101
  · skip
    refine lv_iconst (v := 0) hx hb dX6_count_11 (by decide) ?_
    refine lv_istore_n (lv' := [(2, .int 0), (0, .ref mo), (1, .int p0)]) hx hb dX6_count_12 rfl hl (by decide) rfl (fun ls hl => ?_)
    refine lv_iconst (v := 0) hx hb dX6_count_13 (by decide) ?_
    refine lv_istore_n (lv' := [(3, .int 0), (2, .int 0), (0, .ref mo), (1, .int p0)]) hx hb dX6_count_14 rfl hl (by decide) rfl (fun ls hl => ?_)
    refine loop_M (σ := Nat × Nat) (fun n x H locs ls => pn - x.2 < n ∧ x.2 ≤ pn ∧ x.1 ≤ x.2 ∧ m_cnt td pn (p0 - 10) 0 0 = m_cnt td pn (p0 - 10) x.2 x.1 ∧ va_P (dC, dI) vwCl [(mo, .inr (6, [.int 0, .ref mx, .int (nI sn), .int fl, .int fa, .ref mt, .int (nI pn), .int (nI kp), .int (nI cm), .ref md, .ref mp])), (mx, .inl (cI, 500, .inl tx)), (mt, .inl (cI, 900, .inl td)), (md, .inl (cI, 16, .inl dp)), (mp, .inl (cI, 16, .inl pr))] H ∧ va_D A [(mo, .inr (6, [.int 0, .ref mx, .int (nI sn), .int fl, .int fa, .ref mt, .int (nI pn), .int (nI kp), .int (nI cm), .ref md, .ref mp])), (mx, .inl (cI, 500, .inl tx)), (mt, .inl (cI, 900, .inl td)), (md, .inl (cI, 16, .inl dp)), (mp, .inl (cI, 16, .inl pr))] ∧ va_S A s.heap H locs ∧ lv_has ls 4 [(0, .ref mo), (1, .int p0), (2, .int (nI x.1)), (3, .int (nI x.2))]) (fun n x H locs ls ih_5 hI => ?_) (fun x H locs ls hI => ?_) (n := (pn - 0) + 1) (x := (0, 0)) ⟨(Nat.lt_succ_self _), (by first | omega | (dsimp only; omega) | (dsimp only; done)), (by first | omega | (dsimp only; omega) | (dsimp only; done)), rfl, hP, hD, hS, lv_sub hl [2, 3, 1, 0] rfl⟩
    · skip
      obtain ⟨n9, k⟩ := x
      obtain ⟨hfu, hk0, hn9, he, hP, hD, hS, hl⟩ := hI
      have hfu : pn - k < n + 1 := hfu
      have hk0 : k ≤ pn := hk0
      have hn9 : n9 ≤ k := hn9
      have he : m_cnt td pn (p0 - 10) 0 0 = m_cnt td pn (p0 - 10) k n9 := he
      have hP : va_P (dC, dI) vwCl [(mo, .inr (6, [.int 0, .ref mx, .int (nI sn), .int fl, .int fa, .ref mt, .int (nI pn), .int (nI kp), .int (nI cm), .ref md, .ref mp])), (mx, .inl (cI, 500, .inl tx)), (mt, .inl (cI, 900, .inl td)), (md, .inl (cI, 16, .inl dp)), (mp, .inl (cI, 16, .inl pr))] H := hP
      have hD : va_D A [(mo, .inr (6, [.int 0, .ref mx, .int (nI sn), .int fl, .int fa, .ref mt, .int (nI pn), .int (nI kp), .int (nI cm), .ref md, .ref mp])), (mx, .inl (cI, 500, .inl tx)), (mt, .inl (cI, 900, .inl td)), (md, .inl (cI, 16, .inl dp)), (mp, .inl (cI, 16, .inl pr))] := hD
      have hl : lv_has ls 4 [(0, .ref mo), (1, .int p0), (2, .int (nI n9)), (3, .int (nI k))] := hl
      refine lv_iload_n hx hb dX6_count_15 rfl (lv_at hl 3 rfl) ?_
      refine lv_aload_n hx hb dX6_count_16 rfl (lv_at hl 0 rfl) ?_
      refine va_get (D := (dC, dI)) (ci := 6) (v := .int (nI pn)) (C := RX6) (T := TX6) (N := 11) hx hb hg in_X6 hown hK hP 0 rfl rfl 6 (by decide) (hg _ w_509) (fun _ h9 => h9) rfl dX6_count_17 ?_
      refine lv_icmp_ge (tgt := 53) hx hb dX6_count_20 (by decide) (fun c_6 => ?_) (fun c_6 => ?_)
      · skip
        have c_6 := na_le (a := pn) (b := k) c_6 (by omega) (by omega)
        refine lv_iload_n hx hb dX6_count_53 rfl (lv_at hl 1 rfl) ?_
        refine lv_bipush (v := 16) hx hb dX6_count_54 (by decide) ?_
        refine lv_icmp_ge (tgt := 63) hx hb dX6_count_56 (by decide) (fun c_7 => ?_) (fun c_7 => ?_)
        · skip
          refine lv_iconst (v := (-1)) hx hb dX6_count_63 (by decide) ?_
          have hP9 := hP
          have hS9 := hS
          have h9 : m_count td sn pn kp p0 = (-1) := by rw [m_count, if_neg c_1, he, m_cnt]; simp [c_6, c_7]
          have h9 := hF.symm.trans h9
          cases h9
          exact W.iret hx hb hr (fun t ht hW => ⟨rfl, by rw [ht]; exact hP9, hS9.F ht⟩) hS9.2.2 dX6_count_64
        · skip
          refine lv_iload_n hx hb dX6_count_59 rfl (lv_at hl 2 rfl) ?_
          refine lv_goto (tgt := 64) hx hb dX6_count_60 (by decide) ?_
          have hP9 := hP
          have hS9 := hS
          have h9 : m_count td sn pn kp p0 = (nI n9) := by rw [m_count, if_neg c_1, he, m_cnt]; simp [c_6, c_7]
          have h9 := hF.symm.trans h9
          cases h9
          exact W.iret hx hb hr (fun t ht hW => ⟨rfl, by rw [ht]; exact hP9, hS9.F ht⟩) hS9.2.2 dX6_count_64
      · skip
        have c_6 := na_nle (a := pn) (b := k) c_6 (by omega) (by omega)
        refine lv_iload_n hx hb dX6_count_23 rfl (lv_at hl 2 rfl) ?_
        refine lv_aload_n hx hb dX6_count_24 rfl (lv_at hl 0 rfl) ?_
        refine va_get (D := (dC, dI)) (ci := 6) (v := .ref mt) (C := RX6) (T := TX6) (N := 11) hx hb hg in_X6 hown hK hP 0 rfl rfl 5 (by decide) (hg _ w_508) (fun _ h9 => h9) rfl dX6_count_25 ?_
        refine lv_bipush (v := 6) hx hb dX6_count_28 (by decide) ?_
        refine lv_iload_n hx hb dX6_count_30 rfl (lv_at hl 3 rfl) ?_
        refine lv_imul hx hb dX6_count_31 ?_
        refine top_eq (y := (nI (6 * k))) (by exact pk_mul _ _) ?_
        refine x_iald (k := 6 * k) hx hb hK hP 2 0 rfl rfl (by omega) (by decide) dX6_count_32 ?_
        refine lv_iload_n hx hb dX6_count_33 rfl (lv_at hl 1 rfl) ?_
        refine lv_bipush (v := 10) hx hb dX6_count_34 (by decide) ?_
        refine lv_isub hx hb dX6_count_36 ?_
        refine lv_icmp_ne (tgt := 44) hx hb dX6_count_37 (by decide) (fun c_8 => ?_) (fun c_8 => ?_)
        · skip
          refine lv_iconst (v := 0) hx hb dX6_count_44 (by decide) ?_
          refine lv_iadd hx hb dX6_count_45 ?_
          refine top_eq (y := (nI (n9 + 0))) (by exact nI_add _ _) ?_
          refine lv_istore_n (lv' := [(2, .int (nI (n9 + 0))), (0, .ref mo), (1, .int p0), (3, .int (nI k))]) hx hb dX6_count_46 rfl hl (by decide) rfl (fun ls hl => ?_)
          refine lv_iinc (v := (nI (k + 1))) (lv' := [(3, .int (nI (k + 1))), (2, .int (nI (n9 + 0))), (0, .ref mo), (1, .int p0)]) hx hb dX6_count_47 hl (k := 3) rfl (by rw [← nI_add]; rfl) (by decide) rfl (fun ls hl => ?_)
          refine lv_goto (tgt := 15) hx hb dX6_count_50 (by decide) ?_
          exact ih_5 (n9 + 0, k + 1) _ _ _ ⟨(by first | omega | (dsimp only; omega) | (dsimp only; done)), (by first | omega | (dsimp only; omega) | (dsimp only; done)), (by first | omega | (dsimp only; omega) | (dsimp only; done)), (by (try dsimp only); rw [he, m_cnt]; simp [c_6, c_8]), hP, hD, hS, lv_sub hl [2, 3, 1, 0] rfl⟩
        · skip
          refine lv_iconst (v := 1) hx hb dX6_count_40 (by decide) ?_
          refine lv_goto (tgt := 45) hx hb dX6_count_41 (by decide) ?_
          refine lv_iadd hx hb dX6_count_45 ?_
          refine top_eq (y := (nI (n9 + 1))) (by exact nI_add _ _) ?_
          refine lv_istore_n (lv' := [(2, .int (nI (n9 + 1))), (0, .ref mo), (1, .int p0), (3, .int (nI k))]) hx hb dX6_count_46 rfl hl (by decide) rfl (fun ls hl => ?_)
          refine lv_iinc (v := (nI (k + 1))) (lv' := [(3, .int (nI (k + 1))), (2, .int (nI (n9 + 1))), (0, .ref mo), (1, .int p0)]) hx hb dX6_count_47 hl (k := 3) rfl (by rw [← nI_add]; rfl) (by decide) rfl (fun ls hl => ?_)
          refine lv_goto (tgt := 15) hx hb dX6_count_50 (by decide) ?_
          exact ih_5 (n9 + 1, k + 1) _ _ _ ⟨(by first | omega | (dsimp only; omega) | (dsimp only; done)), (by first | omega | (dsimp only; omega) | (dsimp only; done)), (by first | omega | (dsimp only; omega) | (dsimp only; done)), (by (try dsimp only); rw [he, m_cnt]; simp [c_6, eq_true c_8]), hP, hD, hS, lv_sub hl [2, 3, 1, 0] rfl⟩
    · exact absurd hI.1 (Nat.not_lt_zero _)
