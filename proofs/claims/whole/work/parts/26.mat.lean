set_option maxHeartbeats 4000000 in
set_option maxRecDepth 100000 in
theorem kX6_at (l : Launch) (dC : Nat → ClassId) (dI : Nat → Nat → Nat) (B : Nat) (cI cC cJ : ClassId) (mo : Nat) (mx : Nat) (mt : Nat) (md : Nat) (mp : Nat) (tx : Nat → Int32) (td : Nat → Int32) (dp : Nat → Int32) (pr : Nat → Int32) (th : Int32) (fl : Int32) (fa : Int32) (sn : Nat) (pn : Nat) (kp : Nat) (cm : Nat) (p0 : Int32) (x1 : Int32) (th1 : Int32) (pr1 : Nat → Int32) (hsn : sn ≤ 500) (hpn : pn ≤ 50) (hkp : kp ≤ 50) (hcm : cm ≤ 50) (hps : (m_length td pn 0 0 pr).2 ≤ m_psum td pn pn) (hF : m_at td pn pr p0 = (x1, th1, pr1)) (sz9 : Nat) : Met l yX6_at wsX6_at ({ frames := 3, cells := 0, slots := 0, locals := 71 }) (q_Mp (dC, dI) vwCl [.ref mo, .int p0] [(mo, .inr (6, [.int th, .ref mx, .int (nI sn), .int fl, .int fa, .ref mt, .int (nI pn), .int (nI kp), .int (nI cm), .ref md, .ref mp])), (mx, .inl (cI, 500, .inl tx)), (mt, .inl (cI, 900, .inl td)), (md, .inl (cI, 16, .inl dp)), (mp, .inl (cI, 16, .inl pr))] [(cI, .int), (cC, .char), (cJ, .long)] B sz9) (q_Mq (dC, dI) vwCl [(mo, .inr (6, [.int th1, .ref mx, .int (nI sn), .int fl, .int fa, .ref mt, .int (nI pn), .int (nI kp), .int (nI cm), .ref md, .ref mp])), (mx, .inl (cI, 500, .inl tx)), (mt, .inl (cI, 900, .inl td)), (md, .inl (cI, 16, .inl dp)), (mp, .inl (cI, 16, .inl pr1))] (va_A [(mo, .inr (6, [.int th, .ref mx, .int (nI sn), .int fl, .int fa, .ref mt, .int (nI pn), .int (nI kp), .int (nI cm), .ref md, .ref mp])), (mx, .inl (cI, 500, .inl tx)), (mt, .inl (cI, 900, .inl td)), (md, .inl (cI, 16, .inl dp)), (mp, .inl (cI, 16, .inl pr))] sz9) (some (.int x1))) 0 0 (va_A [(mo, .inr (6, [.int th, .ref mx, .int (nI sn), .int fl, .int fa, .ref mt, .int (nI pn), .int (nI kp), .int (nI cm), .ref md, .ref mp])), (mx, .inl (cI, 500, .inl tx)), (mt, .inl (cI, 900, .inl td)), (md, .inl (cI, 16, .inl dp)), (mp, .inl (cI, 16, .inl pr))] sz9) := by
  refine Met.ofW (cc := cX6_at) (maxL := 5) (ret := (some .int)) (by decide) rfl ?_
  intro p e s m args below meth c s₁ Bd hml hv
  obtain ⟨rfl, hsz9, hB, hP, hK, hD0, hT⟩ := hv
  have hx := Bd.exec
  have hb := Bd.bytes
  have hr := Bd.returns
  have hts := atoms_spec (ws := wsX6_at) Bd.pre
  have hg : ∀ w ∈ lw_good, w.before _ s = true := fun w h => hts w (List.mem_cons_of_mem _ h)
  have hown : s.vm.findClass RX6 = some m.cls := findClass_of_methodNamed Bd.named
  have hlocks := Bd.notSynchronized
  subst hsz9
  have hD := hD0.self (sz := s.heap.size)
  generalize hAe : va_A [(mo, .inr (6, [.int th, .ref mx, .int (nI sn), .int fl, .int fa, .ref mt, .int (nI pn), .int (nI kp), .int (nI cm), .ref md, .ref mp])), (mx, .inl (cI, 500, .inl tx)), (mt, .inl (cI, 900, .inl td)), (md, .inl (cI, 16, .inl dp)), (mp, .inl (cI, 16, .inl pr))] s.heap.size = A at hD ⊢
  have hA : ∀ q : Nat, s.heap.size ≤ q → A q := fun q h => by rw [← hAe]; exact Or.inr h
  have hAB : ∀ q, A q → B ≤ q := by rw [← hAe]; exact va_A.ge hD0 hB
  have hS : va_S A s.heap s.heap [] := va_S.rf
  have hP : va_P (dC, dI) vwCl [(mo, .inr (6, [.int th, .ref mx, .int (nI sn), .int fl, .int fa, .ref mt, .int (nI pn), .int (nI kp), .int (nI cm), .ref md, .ref mp])), (mx, .inl (cI, 500, .inl tx)), (mt, .inl (cI, 900, .inl td)), (md, .inl (cI, 16, .inl dp)), (mp, .inl (cI, 16, .inl pr))] s.heap := hP
  have hl := lv_entry ([.ref mo, .int p0]) (n := 5) (Nat.le_of_ble_eq_true rfl)
  rw [lg_entry_eq]
  generalize (lg_sl ([.ref mo, .int p0]) ++ List.replicate (5 - (lg_sl ([.ref mo, .int p0])).length) Slot.unset).toArray = ls at hl ⊢
  have hl : lv_has ls 5 [(0, .ref mo), (1, .int p0)] := hl
  refine lv_iload_n hx hb dX6_at_0 rfl (lv_at hl 1 rfl) ?_
  refine lv_if_lt (tgt := 12) hx hb dX6_at_1 (by decide) (fun c_1 => ?_) (fun c_1 => ?_)
  · skip
    refine lv_aload_n hx hb dX6_at_12 rfl (lv_at hl 0 rfl) ?_
    refine lv_iconst (v := 1) hx hb dX6_at_13 (by decide) ?_
    refine go_M (r := some (.int 0)) (wc' := [(mo, .inr (6, [.int 1, .ref mx, .int (nI sn), .int fl, .int fa, .ref mt, .int (nI pn), .int (nI kp), .int (nI cm), .ref md, .ref mp])), (mx, .inl (cI, 500, .inl tx)), (mt, .inl (cI, 900, .inl td)), (md, .inl (cI, 16, .inl dp)), (mp, .inl (cI, 16, .inl pr))]) (w2 := [(mo, .inr (6, [.int 1, .ref mx, .int (nI sn), .int fl, .int fa, .ref mt, .int (nI pn), .int (nI kp), .int (nI cm), .ref md, .ref mp])), (mx, .inl (cI, 500, .inl tx)), (mt, .inl (cI, 900, .inl td)), (md, .inl (cI, 16, .inl dp)), (mp, .inl (cI, 16, .inl pr))]) [0, 1, 2, 3, 4] (va_runV (As := [.int 1]) (rest := []) ⟨hx, hb, hml, hown, hg⟩ (kX6_refuse l dC dI B cI cC cJ mo mx mt md mp tx td dp pr th fl fa sn pn kp cm 1 (by omega) (by omega) (by omega) (by omega) _) (cwV 1 hg (gi_V w_588 w_589 w_703 w_8 w_590) rfl rfl rfl (by decide +kernel) ⟨Nat.le_of_ble_eq_true rfl, Nat.le_of_ble_eq_true rfl⟩) (pre_MV (va_recv hK hP (ci := 6) (q0 := 0) rfl rfl) (Nat.le_trans hB hS.1) (hP.sub [0, 1, 2, 3, 4] rfl) hK ((hD.weaken (fun _ _ _ h => hAB _ h)).sub [0, 1, 2, 3, 4] (by decide) rfl) hT) rfl rfl hl.1 rfl (lv_room (Nat.le_of_ble_eq_true rfl)) dX6_at_14 ⟨Nat.le_of_ble_eq_true rfl, Nat.le_of_ble_eq_true rfl⟩) hP hD hS hA rfl (Nat.le_of_ble_eq_true rfl) rfl rfl (fun H locs hP hD hS => ?_)
    refine W.eq (g2 := F0 m 17 ls [.int 0]) rfl ?_
    have hP9 := hP
    have hS9 := hS
    have h9 : m_at td pn pr p0 = (0, 1, pr) := by simp [m_at, c_1]
    have h9 := hF.symm.trans h9
    cases h9
    exact W.iret hx hb hr (fun t ht hW => ⟨rfl, by rw [ht]; exact hP9, hS9.F ht⟩) hS9.2.2 dX6_at_17
  · skip
    refine lv_iload_n hx hb dX6_at_4 rfl (lv_at hl 1 rfl) ?_
    refine lv_aload_n hx hb dX6_at_5 rfl (lv_at hl 0 rfl) ?_
    obtain ⟨pr1_2, n1_2, hF_2⟩ : ∃ (pr1_2 : Nat → Int32) (n1_2 : Nat), m_length td pn 0 0 pr = (pr1_2, n1_2) := ⟨_, _, rfl⟩
    have hq_n1_2 := m_length_le td pn pr
    rw [hF_2] at hq_n1_2
    have hq_n1_2 : n1_2 ≤ 16 * pn := hq_n1_2
    refine go_M (r := some (.int (nI n1_2))) (wc' := [(mo, .inr (6, [.int th, .ref mx, .int (nI sn), .int fl, .int fa, .ref mt, .int (nI pn), .int (nI kp), .int (nI cm), .ref md, .ref mp])), (mx, .inl (cI, 500, .inl tx)), (mt, .inl (cI, 900, .inl td)), (md, .inl (cI, 16, .inl dp)), (mp, .inl (cI, 16, .inl pr1_2))]) (w2 := [(mo, .inr (6, [.int th, .ref mx, .int (nI sn), .int fl, .int fa, .ref mt, .int (nI pn), .int (nI kp), .int (nI cm), .ref md, .ref mp])), (mx, .inl (cI, 500, .inl tx)), (mt, .inl (cI, 900, .inl td)), (md, .inl (cI, 16, .inl dp)), (mp, .inl (cI, 16, .inl pr1_2))]) [0, 1, 2, 3, 4] (va_runV (As := []) (rest := [.int p0]) ⟨hx, hb, hml, hown, hg⟩ (kX6_length l dC dI B cI cC cJ mo mx mt md mp tx td dp pr th fl fa sn pn kp cm pr1_2 n1_2 (by omega) (by omega) (by omega) (by omega) hF_2 _) (cwV 0 hg (gi_V w_644 w_645 w_709 w_8 w_646) rfl rfl rfl (by decide +kernel) ⟨Nat.le_of_ble_eq_true rfl, Nat.le_of_ble_eq_true rfl⟩) (pre_MV (va_recv hK hP (ci := 6) (q0 := 0) rfl rfl) (Nat.le_trans hB hS.1) (hP.sub [0, 1, 2, 3, 4] rfl) hK ((hD.weaken (fun _ _ _ h => hAB _ h)).sub [0, 1, 2, 3, 4] (by decide) rfl) hT) rfl rfl hl.1 rfl (lv_room (Nat.le_of_ble_eq_true rfl)) dX6_at_6 ⟨Nat.le_of_ble_eq_true rfl, Nat.le_of_ble_eq_true rfl⟩) hP hD hS hA rfl (Nat.le_of_ble_eq_true rfl) rfl rfl (fun H locs hP hD hS => ?_)
    refine W.eq (g2 := F0 m 9 ls [.int (nI n1_2), .int p0]) rfl ?_
    refine lv_icmp_lt (tgt := 18) hx hb dX6_at_9 (by decide) (fun c_3 => ?_) (fun c_3 => ?_)
    · skip
      have hps9 := hps
      rw [hF_2] at hps9
      have hps9 : n1_2 ≤ m_psum td pn pn := hps9
      have hj9 := nat_of (n := n1_2) (by omega) c_1 (lt_nle c_3)
      obtain ⟨j, hj, rfl⟩ := hj9
      have hcl := nI_clamp (n := j) (by omega)
      refine lv_aload_n hx hb dX6_at_18 rfl (lv_at hl 0 rfl) ?_
      refine lv_iconst (v := 0) hx hb dX6_at_19 (by decide) ?_
      refine va_put (D := (dC, dI)) (ci := 6) (v := .int 0) (ty := .int) (C := RX6) (T := TX6) (N := 11) hx hb hg in_X6 tyX6 tyX6_ok nmX6_ok hown hK hP hD hS 0 rfl rfl 0 (by decide) (hg _ w_503) (fun _ h9 => h9) rfl (by decide +kernel) rfl rfl (Nat.le_of_ble_eq_true rfl) dX6_at_20 (fun H locs hP hD hS => ?_)
      have hP : va_P (dC, dI) vwCl [(mo, .inr (6, [.int 0, .ref mx, .int (nI sn), .int fl, .int fa, .ref mt, .int (nI pn), .int (nI kp), .int (nI cm), .ref md, .ref mp])), (mx, .inl (cI, 500, .inl tx)), (mt, .inl (cI, 900, .inl td)), (md, .inl (cI, 16, .inl dp)), (mp, .inl (cI, 16, .inl pr1_2))] H := hP
      have hD : va_D A [(mo, .inr (6, [.int 0, .ref mx, .int (nI sn), .int fl, .int fa, .ref mt, .int (nI pn), .int (nI kp), .int (nI cm), .ref md, .ref mp])), (mx, .inl (cI, 500, .inl tx)), (mt, .inl (cI, 900, .inl td)), (md, .inl (cI, 16, .inl dp)), (mp, .inl (cI, 16, .inl pr1_2))] := hD
      refine lv_iload_n hx hb dX6_at_23 rfl (lv_at hl 1 rfl) ?_
      refine lv_istore_n (lv' := [(2, .int (nI j)), (0, .ref mo), (1, .int (nI j))]) hx hb dX6_at_24 rfl hl (by decide) rfl (fun ls hl => ?_)
      refine lv_iconst (v := 0) hx hb dX6_at_25 (by decide) ?_
      refine lv_istore_n (lv' := [(3, .int 0), (2, .int (nI j)), (0, .ref mo), (1, .int (nI j))]) hx hb dX6_at_26 rfl hl (by decide) rfl (fun ls hl => ?_)
      refine lv_aload_n hx hb dX6_at_27 rfl (lv_at hl 2 rfl) ?_
      refine lv_aload_n hx hb dX6_at_28 rfl (lv_at hl 2 rfl) ?_
      refine lv_iconst (v := 0) hx hb dX6_at_29 (by decide) ?_
      refine go_R (r := (nI (m_order td pn 0 0 0))) (va_runV (As := [.int 0]) (rest := [.ref mo]) ⟨hx, hb, hml, hown, hg⟩ (kX6_order l dC dI B cI cC cJ mo mx mt md mp tx td dp pr1_2 0 fl fa sn pn kp cm 0 (by omega) (by omega) (by omega) (by omega)) (cwV 1 hg (gi_V w_657 w_658 w_712 w_8 w_659) rfl rfl rfl (by decide +kernel) ⟨Nat.le_of_ble_eq_true rfl, Nat.le_of_ble_eq_true rfl⟩) (pre_RV (va_recv hK hP (ci := 6) (q0 := 0) rfl rfl) (hP.sub [0, 1, 2, 3, 4] rfl) hK (hT.kept (hS.mono hAB))) rfl rfl hl.1 rfl (lv_room (Nat.le_of_ble_eq_true rfl)) dX6_at_30 ⟨Nat.le_of_ble_eq_true rfl, Nat.le_of_ble_eq_true rfl⟩) ?_
      obtain ⟨pr1_4, n1_4, hF_4⟩ : ∃ (pr1_4 : Nat → Int32) (n1_4 : Nat), m_prints td (m_order td pn 0 0 0) pr1_2 = (pr1_4, n1_4) := ⟨_, _, rfl⟩
      have hq_n1_4 := m_prints_le td (m_order td pn 0 0 0) pr1_2
      rw [hF_4] at hq_n1_4
      have hq_n1_4 : n1_4 ≤ 16 := hq_n1_4
      refine go_M (r := some (.int (nI n1_4))) (wc' := [(mo, .inr (6, [.int 0, .ref mx, .int (nI sn), .int fl, .int fa, .ref mt, .int (nI pn), .int (nI kp), .int (nI cm), .ref md, .ref mp])), (mx, .inl (cI, 500, .inl tx)), (mt, .inl (cI, 900, .inl td)), (md, .inl (cI, 16, .inl dp)), (mp, .inl (cI, 16, .inl pr1_4))]) (w2 := [(mo, .inr (6, [.int 0, .ref mx, .int (nI sn), .int fl, .int fa, .ref mt, .int (nI pn), .int (nI kp), .int (nI cm), .ref md, .ref mp])), (mx, .inl (cI, 500, .inl tx)), (mt, .inl (cI, 900, .inl td)), (md, .inl (cI, 16, .inl dp)), (mp, .inl (cI, 16, .inl pr1_4))]) [0, 1, 2, 3, 4] (va_runV (As := [.int (nI (m_order td pn 0 0 0))]) (rest := []) ⟨hx, hb, hml, hown, hg⟩ (kX6_prints l dC dI B cI cC cJ mo mx mt md mp tx td dp pr1_2 0 fl fa sn pn kp cm (m_order td pn 0 0 0) pr1_4 n1_4 (by omega) (by omega) (by omega) (by omega) (m_order_lt td pn _ hpn) hF_4 _) (cwV 1 hg (gi_V w_647 w_648 w_710 w_8 w_649) rfl rfl rfl (by decide +kernel) ⟨Nat.le_of_ble_eq_true rfl, Nat.le_of_ble_eq_true rfl⟩) (pre_MV (va_recv hK hP (ci := 6) (q0 := 0) rfl rfl) (Nat.le_trans hB hS.1) (hP.sub [0, 1, 2, 3, 4] rfl) hK ((hD.weaken (fun _ _ _ h => hAB _ h)).sub [0, 1, 2, 3, 4] (by decide) rfl) (hT.kept (hS.mono hAB))) rfl rfl hl.1 rfl (lv_room (Nat.le_of_ble_eq_true rfl)) dX6_at_33 ⟨Nat.le_of_ble_eq_true rfl, Nat.le_of_ble_eq_true rfl⟩) hP hD hS hA rfl (Nat.le_of_ble_eq_true rfl) rfl rfl (fun H locs hP hD hS => ?_)
      refine W.eq (g2 := F0 m 36 ls [.int (nI n1_4)]) rfl ?_
      refine lv_istore (lv' := [(4, .int (nI n1_4)), (3, .int 0), (2, .int (nI j)), (0, .ref mo), (1, .int (nI j))]) hx hb dX6_at_36 hl (by decide) rfl (fun ls hl => ?_)
      refine loop_M (σ := Nat × Nat × Nat × Nat × (Nat → Int32)) (fun n x H locs ls => x.1 < n ∧ pn ≤ x.1 + x.2.2.1 ∧ x.2.1 ≤ j ∧ x.2.2.2.1 ≤ 16 ∧ x.2.2.1 ≤ 50 ∧ x.2.1 + m_psum td pn x.2.2.1 = j ∧ x.2.2.2.1 = m_len td (m_order td pn (nI x.2.2.1) 0 0) ∧ m_atF td pn (pn + 1) 0 j pr1_2 = (if x.2.1 < x.2.2.2.1 then (x.2.2.2.2 x.2.1, x.2.2.2.2) else m_atF td pn x.1 (x.2.2.1 + 1) (x.2.1 - x.2.2.2.1) x.2.2.2.2) ∧ va_P (dC, dI) vwCl [(mo, .inr (6, [.int 0, .ref mx, .int (nI sn), .int fl, .int fa, .ref mt, .int (nI pn), .int (nI kp), .int (nI cm), .ref md, .ref mp])), (mx, .inl (cI, 500, .inl tx)), (mt, .inl (cI, 900, .inl td)), (md, .inl (cI, 16, .inl dp)), (mp, .inl (cI, 16, .inl x.2.2.2.2))] H ∧ va_D A [(mo, .inr (6, [.int 0, .ref mx, .int (nI sn), .int fl, .int fa, .ref mt, .int (nI pn), .int (nI kp), .int (nI cm), .ref md, .ref mp])), (mx, .inl (cI, 500, .inl tx)), (mt, .inl (cI, 900, .inl td)), (md, .inl (cI, 16, .inl dp)), (mp, .inl (cI, 16, .inl x.2.2.2.2))] ∧ va_S A s.heap H locs ∧ lv_has ls 5 [(0, .ref mo), (1, .int (nI j)), (2, .int (nI x.2.1)), (3, .int (nI x.2.2.1)), (4, .int (nI x.2.2.2.1))]) (fun n x H locs ls ih_5 hI => ?_) (fun x H locs ls hI => ?_) (n := pn + 1) (x := (pn, j, 0, n1_4, pr1_4)) ⟨(Nat.lt_succ_self _), (by first | omega | (dsimp only; omega) | (dsimp only; done)), (by first | omega | (dsimp only; omega) | (dsimp only; done)), (by first | omega | (dsimp only; omega) | (dsimp only; done)), (by first | omega | (dsimp only; omega) | (dsimp only; done)), (show j + 0 = j from rfl), (by have h := m_prints_len td (m_order td pn 0 0 0) pr1_2; rw [hF_4] at h; exact h), (by simp [m_atF, nI_0, hF_4]), hP, hD, hS, lv_sub hl [3, 4, 2, 1, 0] rfl⟩
      · skip
        obtain ⟨f, lf, k, n9, prx⟩ := x
        obtain ⟨hfu, hkf, hlf, hn16, hk5, hsm, hn9, he, hP, hD, hS, hl⟩ := hI
        have hfu : f < n + 1 := hfu
        have hkf : pn ≤ f + k := hkf
        have hlf : lf ≤ j := hlf
        have hn16 : n9 ≤ 16 := hn16
        have hk5 : k ≤ 50 := hk5
        have hsm : lf + m_psum td pn k = j := hsm
        have hn9 : n9 = m_len td (m_order td pn (nI k) 0 0) := hn9
        have he : m_atF td pn (pn + 1) 0 j pr1_2 = (if lf < n9 then (prx lf, prx) else m_atF td pn f (k + 1) (lf - n9) prx) := he
        have hP : va_P (dC, dI) vwCl [(mo, .inr (6, [.int 0, .ref mx, .int (nI sn), .int fl, .int fa, .ref mt, .int (nI pn), .int (nI kp), .int (nI cm), .ref md, .ref mp])), (mx, .inl (cI, 500, .inl tx)), (mt, .inl (cI, 900, .inl td)), (md, .inl (cI, 16, .inl dp)), (mp, .inl (cI, 16, .inl prx))] H := hP
        have hD : va_D A [(mo, .inr (6, [.int 0, .ref mx, .int (nI sn), .int fl, .int fa, .ref mt, .int (nI pn), .int (nI kp), .int (nI cm), .ref md, .ref mp])), (mx, .inl (cI, 500, .inl tx)), (mt, .inl (cI, 900, .inl td)), (md, .inl (cI, 16, .inl dp)), (mp, .inl (cI, 16, .inl prx))] := hD
        have hl : lv_has ls 5 [(0, .ref mo), (1, .int (nI j)), (2, .int (nI lf)), (3, .int (nI k)), (4, .int (nI n9))] := hl
        refine lv_iload_n hx hb dX6_at_38 rfl (lv_at hl 2 rfl) ?_
        refine lv_iload hx hb dX6_at_39 (lv_at hl 4 rfl) ?_
        refine lv_icmp_lt (tgt := 66) hx hb dX6_at_41 (by decide) (fun c_6 => ?_) (fun c_6 => ?_)
        · skip
          have c_6 := na_lt (a := lf) (b := n9) c_6 (by omega) (by omega)
          refine lv_aload_n hx hb dX6_at_66 rfl (lv_at hl 0 rfl) ?_
          refine va_get (D := (dC, dI)) (ci := 6) (v := .ref mp) (C := RX6) (T := TX6) (N := 11) hx hb hg in_X6 hown hK hP 0 rfl rfl 10 (by decide) (hg _ w_513) (fun _ h9 => h9) rfl dX6_at_67 ?_
          refine lv_iload_n hx hb dX6_at_70 rfl (lv_at hl 2 rfl) ?_
          refine x_iald (k := lf) hx hb hK hP 4 0 rfl rfl (by omega) (by decide) dX6_at_71 ?_
          have hP9 := hP
          have hS9 := hS
          have h9 : m_at td pn pr (nI j) = (prx lf, 0, prx) := by rw [m_at, if_neg c_1, hF_2, if_pos c_3, hcl, he, if_pos c_6]
          have h9 := hF.symm.trans h9
          cases h9
          exact W.iret hx hb hr (fun t ht hW => ⟨rfl, by rw [ht]; exact hP9, hS9.F ht⟩) hS9.2.2 dX6_at_72
        · skip
          have c_6 := na_nlt (a := lf) (b := n9) c_6 (by omega) (by omega)
          have hk9 := m_psum_lt hsm hn9 c_6 (by omega)
          obtain ⟨f9, rfl⟩ : ∃ f9, f = f9 + 1 := ⟨f - 1, by omega⟩
          refine lv_iload_n hx hb dX6_at_44 rfl (lv_at hl 2 rfl) ?_
          refine lv_iload hx hb dX6_at_45 (lv_at hl 4 rfl) ?_
          refine lv_isub hx hb dX6_at_47 ?_
          refine top_eq (y := nI (lf - n9)) (pk_sub (Nat.le_of_not_lt c_6)) ?_
          refine lv_istore_n (lv' := [(2, .int (nI (lf - n9))), (0, .ref mo), (1, .int (nI j)), (3, .int (nI k)), (4, .int (nI n9))]) hx hb dX6_at_48 rfl hl (by decide) rfl (fun ls hl => ?_)
          refine lv_iinc (v := (nI (k + 1))) (lv' := [(3, .int (nI (k + 1))), (2, .int (nI (lf - n9))), (0, .ref mo), (1, .int (nI j)), (4, .int (nI n9))]) hx hb dX6_at_49 hl (k := 3) rfl (by rw [← nI_add]; rfl) (by decide) rfl (fun ls hl => ?_)
          refine lv_aload_n hx hb dX6_at_52 rfl (lv_at hl 2 rfl) ?_
          refine lv_aload_n hx hb dX6_at_53 rfl (lv_at hl 2 rfl) ?_
          refine lv_iload_n hx hb dX6_at_54 rfl (lv_at hl 0 rfl) ?_
          refine go_R (r := (nI (m_order td pn (nI (k + 1)) 0 0))) (va_runV (As := [.int (nI (k + 1))]) (rest := [.ref mo]) ⟨hx, hb, hml, hown, hg⟩ (kX6_order l dC dI B cI cC cJ mo mx mt md mp tx td dp prx 0 fl fa sn pn kp cm (nI (k + 1)) (by omega) (by omega) (by omega) (by omega)) (cwV 1 hg (gi_V w_657 w_658 w_712 w_8 w_659) rfl rfl rfl (by decide +kernel) ⟨Nat.le_of_ble_eq_true rfl, Nat.le_of_ble_eq_true rfl⟩) (pre_RV (va_recv hK hP (ci := 6) (q0 := 0) rfl rfl) (hP.sub [0, 1, 2, 3, 4] rfl) hK (hT.kept (hS.mono hAB))) rfl rfl hl.1 rfl (lv_room (Nat.le_of_ble_eq_true rfl)) dX6_at_55 ⟨Nat.le_of_ble_eq_true rfl, Nat.le_of_ble_eq_true rfl⟩) ?_
          obtain ⟨pr1_7, n1_7, hF_7⟩ : ∃ (pr1_7 : Nat → Int32) (n1_7 : Nat), m_prints td (m_order td pn (nI (k + 1)) 0 0) prx = (pr1_7, n1_7) := ⟨_, _, rfl⟩
          have hq_n1_7 := m_prints_le td (m_order td pn (nI (k + 1)) 0 0) prx
          rw [hF_7] at hq_n1_7
          have hq_n1_7 : n1_7 ≤ 16 := hq_n1_7
          refine go_M (r := some (.int (nI n1_7))) (wc' := [(mo, .inr (6, [.int 0, .ref mx, .int (nI sn), .int fl, .int fa, .ref mt, .int (nI pn), .int (nI kp), .int (nI cm), .ref md, .ref mp])), (mx, .inl (cI, 500, .inl tx)), (mt, .inl (cI, 900, .inl td)), (md, .inl (cI, 16, .inl dp)), (mp, .inl (cI, 16, .inl pr1_7))]) (w2 := [(mo, .inr (6, [.int 0, .ref mx, .int (nI sn), .int fl, .int fa, .ref mt, .int (nI pn), .int (nI kp), .int (nI cm), .ref md, .ref mp])), (mx, .inl (cI, 500, .inl tx)), (mt, .inl (cI, 900, .inl td)), (md, .inl (cI, 16, .inl dp)), (mp, .inl (cI, 16, .inl pr1_7))]) [0, 1, 2, 3, 4] (va_runV (As := [.int (nI (m_order td pn (nI (k + 1)) 0 0))]) (rest := []) ⟨hx, hb, hml, hown, hg⟩ (kX6_prints l dC dI B cI cC cJ mo mx mt md mp tx td dp prx 0 fl fa sn pn kp cm (m_order td pn (nI (k + 1)) 0 0) pr1_7 n1_7 (by omega) (by omega) (by omega) (by omega) (m_order_lt td pn _ hpn) hF_7 _) (cwV 1 hg (gi_V w_647 w_648 w_710 w_8 w_649) rfl rfl rfl (by decide +kernel) ⟨Nat.le_of_ble_eq_true rfl, Nat.le_of_ble_eq_true rfl⟩) (pre_MV (va_recv hK hP (ci := 6) (q0 := 0) rfl rfl) (Nat.le_trans hB hS.1) (hP.sub [0, 1, 2, 3, 4] rfl) hK ((hD.weaken (fun _ _ _ h => hAB _ h)).sub [0, 1, 2, 3, 4] (by decide) rfl) (hT.kept (hS.mono hAB))) rfl rfl hl.1 rfl (lv_room (Nat.le_of_ble_eq_true rfl)) dX6_at_58 ⟨Nat.le_of_ble_eq_true rfl, Nat.le_of_ble_eq_true rfl⟩) hP hD hS hA rfl (Nat.le_of_ble_eq_true rfl) rfl rfl (fun H locs hP hD hS => ?_)
          refine W.eq (g2 := F0 m 61 ls [.int (nI n1_7)]) rfl ?_
          refine lv_istore (lv' := [(4, .int (nI n1_7)), (3, .int (nI (k + 1))), (2, .int (nI (lf - n9))), (0, .ref mo), (1, .int (nI j))]) hx hb dX6_at_61 hl (by decide) rfl (fun ls hl => ?_)
          refine lv_goto (tgt := 38) hx hb dX6_at_63 (by decide) ?_
          exact ih_5 (f9, lf - n9, k + 1, n1_7, pr1_7) _ _ _ ⟨(by first | omega | (dsimp only; omega) | (dsimp only; done)), (by first | omega | (dsimp only; omega) | (dsimp only; done)), (by first | omega | (dsimp only; omega) | (dsimp only; done)), (by first | omega | (dsimp only; omega) | (dsimp only; done)), (by first | omega | (dsimp only; omega) | (dsimp only; done)), hk9.2, (by have h := m_prints_len td (m_order td pn (nI (k + 1)) 0 0) prx; rw [hF_7] at h; exact h), (by (try dsimp only); rw [he, if_neg c_6]; simp [m_atF, hF_7]), hP, hD, hS, lv_sub hl [3, 4, 2, 1, 0] rfl⟩
      · exact absurd hI.1 (Nat.not_lt_zero _)
    · skip
      refine lv_aload_n hx hb dX6_at_12 rfl (lv_at hl 0 rfl) ?_
      refine lv_iconst (v := 1) hx hb dX6_at_13 (by decide) ?_
      refine go_M (r := some (.int 0)) (wc' := [(mo, .inr (6, [.int 1, .ref mx, .int (nI sn), .int fl, .int fa, .ref mt, .int (nI pn), .int (nI kp), .int (nI cm), .ref md, .ref mp])), (mx, .inl (cI, 500, .inl tx)), (mt, .inl (cI, 900, .inl td)), (md, .inl (cI, 16, .inl dp)), (mp, .inl (cI, 16, .inl pr1_2))]) (w2 := [(mo, .inr (6, [.int 1, .ref mx, .int (nI sn), .int fl, .int fa, .ref mt, .int (nI pn), .int (nI kp), .int (nI cm), .ref md, .ref mp])), (mx, .inl (cI, 500, .inl tx)), (mt, .inl (cI, 900, .inl td)), (md, .inl (cI, 16, .inl dp)), (mp, .inl (cI, 16, .inl pr1_2))]) [0, 1, 2, 3, 4] (va_runV (As := [.int 1]) (rest := []) ⟨hx, hb, hml, hown, hg⟩ (kX6_refuse l dC dI B cI cC cJ mo mx mt md mp tx td dp pr1_2 th fl fa sn pn kp cm 1 (by omega) (by omega) (by omega) (by omega) _) (cwV 1 hg (gi_V w_588 w_589 w_703 w_8 w_590) rfl rfl rfl (by decide +kernel) ⟨Nat.le_of_ble_eq_true rfl, Nat.le_of_ble_eq_true rfl⟩) (pre_MV (va_recv hK hP (ci := 6) (q0 := 0) rfl rfl) (Nat.le_trans hB hS.1) (hP.sub [0, 1, 2, 3, 4] rfl) hK ((hD.weaken (fun _ _ _ h => hAB _ h)).sub [0, 1, 2, 3, 4] (by decide) rfl) (hT.kept (hS.mono hAB))) rfl rfl hl.1 rfl (lv_room (Nat.le_of_ble_eq_true rfl)) dX6_at_14 ⟨Nat.le_of_ble_eq_true rfl, Nat.le_of_ble_eq_true rfl⟩) hP hD hS hA rfl (Nat.le_of_ble_eq_true rfl) rfl rfl (fun H locs hP hD hS => ?_)
      refine W.eq (g2 := F0 m 17 ls [.int 0]) rfl ?_
      have hP9 := hP
      have hS9 := hS
      have h9 : m_at td pn pr p0 = (0, 1, pr1_2) := by simp [m_at, c_1, hF_2, c_3]
      have h9 := hF.symm.trans h9
      cases h9
      exact W.iret hx hb hr (fun t ht hW => ⟨rfl, by rw [ht]; exact hP9, hS9.F ht⟩) hS9.2.2 dX6_at_17
