set_option maxHeartbeats 4000000 in
set_option maxRecDepth 100000 in
theorem kX6_init (l : Launch) (dC : Nat → ClassId) (dI : Nat → Nat → Nat) (B : Nat) (cI cC cJ : ClassId) (mo : Nat) (sz9 : Nat) : Met l yX6_init wsX6_init ({ frames := 1, cells := 4, slots := 1432, locals := 12 }) (q_Mp (dC, dI) vwCl [.ref mo] [(mo, .inr (6, [.int 0, .null, .int 0, .int 0, .int 0, .null, .int 0, .int 0, .int 0, .null, .null]))] [(cI, .int), (cC, .char), (cJ, .long)] B sz9) (va_Qv (fun _ : Nat × Nat × Nat × Nat => True) (fun x9 t => va_P (dC, dI) vwCl [(mo, .inr (6, [.int 0, .ref x9.1, .int (nI 0), .int 0, .int (-1), .ref x9.2.1, .int (nI 0), .int (nI 0), .int (nI 0), .ref x9.2.2.1, .ref x9.2.2.2])), (x9.1, .inl (cI, 500, .inl (fun _ => 0))), (x9.2.1, .inl (cI, 900, .inl (fun _ => 0))), (x9.2.2.1, .inl (cI, 16, .inl (fun _ => 0))), (x9.2.2.2, .inl (cI, 16, .inl (fun _ => 0)))] t.heap ∧ va_D (va_A [(mo, .inr (6, [.int 0, .null, .int 0, .int 0, .int 0, .null, .int 0, .int 0, .int 0, .null, .null]))] sz9) [(mo, .inr (6, [.int 0, .ref x9.1, .int (nI 0), .int 0, .int (-1), .ref x9.2.1, .int (nI 0), .int (nI 0), .int (nI 0), .ref x9.2.2.1, .ref x9.2.2.2])), (x9.1, .inl (cI, 500, .inl (fun _ => 0))), (x9.2.1, .inl (cI, 900, .inl (fun _ => 0))), (x9.2.2.1, .inl (cI, 16, .inl (fun _ => 0))), (x9.2.2.2, .inl (cI, 16, .inl (fun _ => 0)))]) (va_A [(mo, .inr (6, [.int 0, .null, .int 0, .int 0, .int 0, .null, .int 0, .int 0, .int 0, .null, .null]))] sz9)) 4 1432 (va_A [(mo, .inr (6, [.int 0, .null, .int 0, .int 0, .int 0, .null, .int 0, .int 0, .int 0, .null, .null]))] sz9) := by
  refine Met.ofW (cc := cX6_init) (maxL := 1) (ret := none) (by decide) rfl ?_
  intro p e s m args below meth c s₁ Bd hml hv
  obtain ⟨rfl, hsz9, hB, hP, hK, hD0, hT⟩ := hv
  have hx := Bd.exec
  have hb := Bd.bytes
  have hr := Bd.returns
  have hts := atoms_spec (ws := wsX6_init) Bd.pre
  have hg : ∀ w ∈ lw_good, w.before _ s = true := fun w h => hts w (List.mem_cons_of_mem _ h)
  have hown : s.vm.findClass RX6 = some m.cls := findClass_of_methodNamed Bd.named
  have hlocks := Bd.notSynchronized
  subst hsz9
  have hD := hD0.self (sz := s.heap.size)
  generalize hAe : va_A [(mo, .inr (6, [.int 0, .null, .int 0, .int 0, .int 0, .null, .int 0, .int 0, .int 0, .null, .null]))] s.heap.size = A at hD ⊢
  have hA : ∀ q : Nat, s.heap.size ≤ q → A q := fun q h => by rw [← hAe]; exact Or.inr h
  have hAB : ∀ q, A q → B ≤ q := by rw [← hAe]; exact va_A.ge hD0 hB
  have hS : va_S A s.heap s.heap [] := va_S.rf
  have hP : va_P (dC, dI) vwCl [(mo, .inr (6, [.int 0, .null, .int 0, .int 0, .int 0, .null, .int 0, .int 0, .int 0, .null, .null]))] s.heap := hP
  have hin : meth.name = "<init>" := (name_of_methodNamed Bd.named Bd.method).1
  have hl := lv_entry ([.ref mo]) (n := 1) (Nat.le_of_ble_eq_true rfl)
  rw [lg_entry_eq]
  generalize (lg_sl ([.ref mo]) ++ List.replicate (1 - (lg_sl ([.ref mo])).length) Slot.unset).toArray = ls at hl ⊢
  have hl : lv_has ls 1 [(0, .ref mo)] := hl
  refine lv_aload_n hx hb dX6_init_0 rfl (lv_at hl 0 rfl) ?_
  refine W.objInit hx hb hown (hg _ w_502) (hg _ w_23) (hg _ w_24) rfl (by rw [hml]; exact hl.1) rfl dX6_init_1 (Nat.le_of_ble_eq_true rfl) (Nat.le_of_ble_eq_true rfl) ?_
  refine W.eq (g2 := F0 m 4 ls []) rfl ?_
  refine lv_aload_n hx hb dX6_init_4 rfl (lv_at hl 0 rfl) ?_
  refine lv_sipush (v := 500) hx hb dX6_init_5 (by decide) ?_
  refine va_newa (atype := .int) (ty := .int) (n := 500) (N' := 500) (a0 := (500, .inl (fun _ => 0))) hx hb (hg _ w_49) rfl hK hP hD hS hA (fun cA => rfl) (by decide) (by decide) (by decide) (Nat.le_of_ble_eq_true rfl) (Nat.le_of_ble_eq_true rfl) dX6_init_8 (fun a_1 cA H hK9 hP hD hS => ?_)
  obtain rfl : cI = cA := arr_one (hK.2 0 _ rfl).2 (hK9.2 3 _ rfl).2
  have hP : va_P (dC, dI) vwCl [(mo, .inr (6, [.int 0, .null, .int 0, .int 0, .int 0, .null, .int 0, .int 0, .int 0, .null, .null])), (a_1, .inl (cI, 500, .inl (fun _ => 0)))] H := hP
  have hD : va_D A [(mo, .inr (6, [.int 0, .null, .int 0, .int 0, .int 0, .null, .int 0, .int 0, .int 0, .null, .null])), (a_1, .inl (cI, 500, .inl (fun _ => 0)))] := hD
  refine va_putF (D := (dC, dI)) (ci := 6) (v := .ref a_1) (ty := .array .int) (C := RX6) (T := TX6) (N := 11) hx hb hg in_X6 tyX6 tyX6_ok nmX6_ok hown hK hP hD hS 0 rfl rfl 1 (by decide) (hg _ w_504) (fun _ h9 => h9) rfl hin rfl (by decide +kernel) rfl rfl (Nat.le_of_ble_eq_true rfl) dX6_init_10 (fun H locs hP hD hS => ?_)
  have hP : va_P (dC, dI) vwCl [(mo, .inr (6, [.int 0, .ref a_1, .int 0, .int 0, .int 0, .null, .int 0, .int 0, .int 0, .null, .null])), (a_1, .inl (cI, 500, .inl (fun _ => 0)))] H := hP
  have hD : va_D A [(mo, .inr (6, [.int 0, .ref a_1, .int 0, .int 0, .int 0, .null, .int 0, .int 0, .int 0, .null, .null])), (a_1, .inl (cI, 500, .inl (fun _ => 0)))] := hD
  refine lv_aload_n hx hb dX6_init_13 rfl (lv_at hl 0 rfl) ?_
  refine lv_iconst (v := (-1)) hx hb dX6_init_14 (by decide) ?_
  refine va_put (D := (dC, dI)) (ci := 6) (v := .int (-1)) (ty := .int) (C := RX6) (T := TX6) (N := 11) hx hb hg in_X6 tyX6 tyX6_ok nmX6_ok hown hK hP hD hS 0 rfl rfl 4 (by decide) (hg _ w_507) (fun _ h9 => h9) rfl (by decide +kernel) rfl rfl (Nat.le_of_ble_eq_true rfl) dX6_init_15 (fun H locs hP hD hS => ?_)
  have hP : va_P (dC, dI) vwCl [(mo, .inr (6, [.int 0, .ref a_1, .int 0, .int 0, .int (-1), .null, .int 0, .int 0, .int 0, .null, .null])), (a_1, .inl (cI, 500, .inl (fun _ => 0)))] H := hP
  have hD : va_D A [(mo, .inr (6, [.int 0, .ref a_1, .int 0, .int 0, .int (-1), .null, .int 0, .int 0, .int 0, .null, .null])), (a_1, .inl (cI, 500, .inl (fun _ => 0)))] := hD
  refine lv_aload_n hx hb dX6_init_18 rfl (lv_at hl 0 rfl) ?_
  refine lv_sipush (v := 900) hx hb dX6_init_19 (by decide) ?_
  refine va_newa (atype := .int) (ty := .int) (n := 900) (N' := 900) (a0 := (900, .inl (fun _ => 0))) hx hb (hg _ w_49) rfl hK hP hD hS hA (fun cA => rfl) (by decide) (by decide) (by decide) (Nat.le_of_ble_eq_true rfl) (Nat.le_of_ble_eq_true rfl) dX6_init_22 (fun a_2 cA H hK9 hP hD hS => ?_)
  obtain rfl : cI = cA := arr_one (hK.2 0 _ rfl).2 (hK9.2 3 _ rfl).2
  have hP : va_P (dC, dI) vwCl [(mo, .inr (6, [.int 0, .ref a_1, .int 0, .int 0, .int (-1), .null, .int 0, .int 0, .int 0, .null, .null])), (a_1, .inl (cI, 500, .inl (fun _ => 0))), (a_2, .inl (cI, 900, .inl (fun _ => 0)))] H := hP
  have hD : va_D A [(mo, .inr (6, [.int 0, .ref a_1, .int 0, .int 0, .int (-1), .null, .int 0, .int 0, .int 0, .null, .null])), (a_1, .inl (cI, 500, .inl (fun _ => 0))), (a_2, .inl (cI, 900, .inl (fun _ => 0)))] := hD
  refine va_putF (D := (dC, dI)) (ci := 6) (v := .ref a_2) (ty := .array .int) (C := RX6) (T := TX6) (N := 11) hx hb hg in_X6 tyX6 tyX6_ok nmX6_ok hown hK hP hD hS 0 rfl rfl 5 (by decide) (hg _ w_508) (fun _ h9 => h9) rfl hin rfl (by decide +kernel) rfl rfl (Nat.le_of_ble_eq_true rfl) dX6_init_24 (fun H locs hP hD hS => ?_)
  have hP : va_P (dC, dI) vwCl [(mo, .inr (6, [.int 0, .ref a_1, .int 0, .int 0, .int (-1), .ref a_2, .int 0, .int 0, .int 0, .null, .null])), (a_1, .inl (cI, 500, .inl (fun _ => 0))), (a_2, .inl (cI, 900, .inl (fun _ => 0)))] H := hP
  have hD : va_D A [(mo, .inr (6, [.int 0, .ref a_1, .int 0, .int 0, .int (-1), .ref a_2, .int 0, .int 0, .int 0, .null, .null])), (a_1, .inl (cI, 500, .inl (fun _ => 0))), (a_2, .inl (cI, 900, .inl (fun _ => 0)))] := hD
  refine lv_aload_n hx hb dX6_init_27 rfl (lv_at hl 0 rfl) ?_
  refine lv_bipush (v := 16) hx hb dX6_init_28 (by decide) ?_
  refine va_newa (atype := .int) (ty := .int) (n := 16) (N' := 16) (a0 := (16, .inl (fun _ => 0))) hx hb (hg _ w_49) rfl hK hP hD hS hA (fun cA => rfl) (by decide) (by decide) (by decide) (Nat.le_of_ble_eq_true rfl) (Nat.le_of_ble_eq_true rfl) dX6_init_30 (fun a_3 cA H hK9 hP hD hS => ?_)
  obtain rfl : cI = cA := arr_one (hK.2 0 _ rfl).2 (hK9.2 3 _ rfl).2
  have hP : va_P (dC, dI) vwCl [(mo, .inr (6, [.int 0, .ref a_1, .int 0, .int 0, .int (-1), .ref a_2, .int 0, .int 0, .int 0, .null, .null])), (a_1, .inl (cI, 500, .inl (fun _ => 0))), (a_2, .inl (cI, 900, .inl (fun _ => 0))), (a_3, .inl (cI, 16, .inl (fun _ => 0)))] H := hP
  have hD : va_D A [(mo, .inr (6, [.int 0, .ref a_1, .int 0, .int 0, .int (-1), .ref a_2, .int 0, .int 0, .int 0, .null, .null])), (a_1, .inl (cI, 500, .inl (fun _ => 0))), (a_2, .inl (cI, 900, .inl (fun _ => 0))), (a_3, .inl (cI, 16, .inl (fun _ => 0)))] := hD
  refine va_putF (D := (dC, dI)) (ci := 6) (v := .ref a_3) (ty := .array .int) (C := RX6) (T := TX6) (N := 11) hx hb hg in_X6 tyX6 tyX6_ok nmX6_ok hown hK hP hD hS 0 rfl rfl 9 (by decide) (hg _ w_512) (fun _ h9 => h9) rfl hin rfl (by decide +kernel) rfl rfl (Nat.le_of_ble_eq_true rfl) dX6_init_32 (fun H locs hP hD hS => ?_)
  have hP : va_P (dC, dI) vwCl [(mo, .inr (6, [.int 0, .ref a_1, .int 0, .int 0, .int (-1), .ref a_2, .int 0, .int 0, .int 0, .ref a_3, .null])), (a_1, .inl (cI, 500, .inl (fun _ => 0))), (a_2, .inl (cI, 900, .inl (fun _ => 0))), (a_3, .inl (cI, 16, .inl (fun _ => 0)))] H := hP
  have hD : va_D A [(mo, .inr (6, [.int 0, .ref a_1, .int 0, .int 0, .int (-1), .ref a_2, .int 0, .int 0, .int 0, .ref a_3, .null])), (a_1, .inl (cI, 500, .inl (fun _ => 0))), (a_2, .inl (cI, 900, .inl (fun _ => 0))), (a_3, .inl (cI, 16, .inl (fun _ => 0)))] := hD
  refine lv_aload_n hx hb dX6_init_35 rfl (lv_at hl 0 rfl) ?_
  refine lv_bipush (v := 16) hx hb dX6_init_36 (by decide) ?_
  refine va_newa (atype := .int) (ty := .int) (n := 16) (N' := 16) (a0 := (16, .inl (fun _ => 0))) hx hb (hg _ w_49) rfl hK hP hD hS hA (fun cA => rfl) (by decide) (by decide) (by decide) (Nat.le_of_ble_eq_true rfl) (Nat.le_of_ble_eq_true rfl) dX6_init_38 (fun a_4 cA H hK9 hP hD hS => ?_)
  obtain rfl : cI = cA := arr_one (hK.2 0 _ rfl).2 (hK9.2 3 _ rfl).2
  have hP : va_P (dC, dI) vwCl [(mo, .inr (6, [.int 0, .ref a_1, .int 0, .int 0, .int (-1), .ref a_2, .int 0, .int 0, .int 0, .ref a_3, .null])), (a_1, .inl (cI, 500, .inl (fun _ => 0))), (a_2, .inl (cI, 900, .inl (fun _ => 0))), (a_3, .inl (cI, 16, .inl (fun _ => 0))), (a_4, .inl (cI, 16, .inl (fun _ => 0)))] H := hP
  have hD : va_D A [(mo, .inr (6, [.int 0, .ref a_1, .int 0, .int 0, .int (-1), .ref a_2, .int 0, .int 0, .int 0, .ref a_3, .null])), (a_1, .inl (cI, 500, .inl (fun _ => 0))), (a_2, .inl (cI, 900, .inl (fun _ => 0))), (a_3, .inl (cI, 16, .inl (fun _ => 0))), (a_4, .inl (cI, 16, .inl (fun _ => 0)))] := hD
  refine va_putF (D := (dC, dI)) (ci := 6) (v := .ref a_4) (ty := .array .int) (C := RX6) (T := TX6) (N := 11) hx hb hg in_X6 tyX6 tyX6_ok nmX6_ok hown hK hP hD hS 0 rfl rfl 10 (by decide) (hg _ w_513) (fun _ h9 => h9) rfl hin rfl (by decide +kernel) rfl rfl (Nat.le_of_ble_eq_true rfl) dX6_init_40 (fun H locs hP hD hS => ?_)
  have hP : va_P (dC, dI) vwCl [(mo, .inr (6, [.int 0, .ref a_1, .int 0, .int 0, .int (-1), .ref a_2, .int 0, .int 0, .int 0, .ref a_3, .ref a_4])), (a_1, .inl (cI, 500, .inl (fun _ => 0))), (a_2, .inl (cI, 900, .inl (fun _ => 0))), (a_3, .inl (cI, 16, .inl (fun _ => 0))), (a_4, .inl (cI, 16, .inl (fun _ => 0)))] H := hP
  have hD : va_D A [(mo, .inr (6, [.int 0, .ref a_1, .int 0, .int 0, .int (-1), .ref a_2, .int 0, .int 0, .int 0, .ref a_3, .ref a_4])), (a_1, .inl (cI, 500, .inl (fun _ => 0))), (a_2, .inl (cI, 900, .inl (fun _ => 0))), (a_3, .inl (cI, 16, .inl (fun _ => 0))), (a_4, .inl (cI, 16, .inl (fun _ => 0)))] := hD
  exact W.vret hx hb hr (fun t ht hW => ⟨⟨(a_1, a_2, a_3, a_4), rfl, trivial, by rw [ht]; exact hP.sub [0, 1, 2, 3, 4] rfl, hD.sub [0, 1, 2, 3, 4] (by decide) rfl⟩, hS.F ht⟩) hS.2.2 dX6_init_43
