set_option maxHeartbeats 4000000 in
set_option maxRecDepth 100000 in
theorem kL_read (l : Launch) (dC : Nat → ClassId) (dI : Nat → Nat → Nat) (B : Nat) (cI cC cJ : ClassId) (x : Nat) (r : Nat) (h : Nat) (hz : Nat) (w : Nat) (b : Nat) (o : Nat) (rs : Nat) (hd : Nat) (sg : Nat → Int32) (len : Nat) (pl : Nat) (fn : Int32) (fp : Int32) (hkd : Nat) (hnd : Nat) (hud : Nat) (ksd : Nat → Int32) (nsd : Nat → Int32) (usd : Nat → Int32) (szd : Nat) (hk : Nat) (hn : Nat) (hu : Nat) (ks : Nat → Int32) (ns : Nat → Int32) (us : Nat → Int32) (sz : Nat) (wd : Nat) (dp : Nat → Int32) (be : Nat) (en : Nat → Int32) (bn : Nat) (os : Nat) (ot : Nat → Int32) (ol : Nat) (jo : Nat) (fj : Nat → Int64) (ok1 : Bool) (ks1 : Nat → Int32) (ns1 : Nat → Int32) (us1 : Nat → Int32) (sz1 : Nat) (pl1 : Nat) (fn1 : Int32) (fp1 : Int32) (dp1 : Nat → Int32) (en1 : Nat → Int32) (bn1 : Nat) (ot1 : Nat → Int32) (ol1 : Nat) (hlen : len ≤ 500) (hpl : pl ≤ 501) (hszd : szd ≤ 50) (hsz : sz ≤ 50) (hbn : bn ≤ 100) (hol : ol ≤ 500) (hF : k_readX sg len ksd nsd usd dp en bn ot ol = (ok1, ks1, ns1, us1, sz1, pl1, fn1, fp1, dp1, en1, bn1, ot1, ol1)) (hst : ∀ e : Env, l.admits e → e.platform.stackTraces = false) (sz9 : Nat) : Met l yL_read wsL_read ({ frames := 7, cells := 1, slots := 6, locals := 162 }) (q_Xp (dC, dI) vwCl [.ref x, .ref jo] [(x, .inr (5, [.ref r, .ref h, .ref hz, .ref w, .ref b, .ref o])), (r, .inr (3, [.ref rs, .ref hd, .int (nI len), .int (nI pl), .int fn, .int fp])), (rs, .inl (cC, 500, .inl sg)), (hd, .inr (1, [.ref hkd, .ref hnd, .ref hud, .int (nI szd)])), (hkd, .inl (cI, 50, .inl ksd)), (hnd, .inl (cI, 50, .inl nsd)), (hud, .inl (cI, 200, .inl usd)), (h, .inr (1, [.ref hk, .ref hn, .ref hu, .int (nI sz)])), (hk, .inl (cI, 50, .inl ks)), (hn, .inl (cI, 50, .inl ns)), (hu, .inl (cI, 200, .inl us)), (w, .inr (4, [.ref wd])), (wd, .inl (cI, 16, .inl dp)), (b, .inr (0, [.ref be, .int (nI bn)])), (be, .inl (cI, 100, .inl en)), (o, .inr (2, [.ref os, .int (nI ol)])), (os, .inl (cC, 500, .inl ot)), (jo, .inl (cJ, 1, .inr (.inl fj)))] [(cI, .int), (cC, .char), (cJ, .long)] B sz9) (yQ (dC, dI) vwCl ok1 [(x, .inr (5, [.ref r, .ref h, .ref hz, .ref w, .ref b, .ref o])), (r, .inr (3, [.ref rs, .ref hd, .int (nI 0), .int (nI pl1), .int fn1, .int fp1])), (rs, .inl (cC, 500, .inl sg)), (hd, .inr (1, [.ref hkd, .ref hnd, .ref hud, .int (nI sz1)])), (hkd, .inl (cI, 50, .inl ks1)), (hnd, .inl (cI, 50, .inl ns1)), (hud, .inl (cI, 200, .inl us1)), (h, .inr (1, [.ref hk, .ref hn, .ref hu, .int (nI sz1)])), (hk, .inl (cI, 50, .inl ks1)), (hn, .inl (cI, 50, .inl ns1)), (hu, .inl (cI, 200, .inl us1)), (w, .inr (4, [.ref wd])), (wd, .inl (cI, 16, .inl dp1)), (b, .inr (0, [.ref be, .int (nI bn1)])), (be, .inl (cI, 100, .inl en1)), (o, .inr (2, [.ref os, .int (nI ol1)])), (os, .inl (cC, 500, .inl ot1)), (jo, .inl (cJ, 1, .inr (.inl (vp_updL fj 0 ((nI sz1)).toInt64))))] [(x, .inr (5, [.ref r, .ref h, .ref hz, .ref w, .ref b, .ref o])), (r, .inr (3, [.ref rs, .ref hd, .int (nI 0), .int (nI pl1), .int fn1, .int fp1])), (rs, .inl (cC, 500, .inl sg)), (hd, .inr (1, [.ref hkd, .ref hnd, .ref hud, .int (nI sz1)])), (hkd, .inl (cI, 50, .inl ks1)), (hnd, .inl (cI, 50, .inl ns1)), (hud, .inl (cI, 200, .inl us1)), (h, .inr (1, [.ref hk, .ref hn, .ref hu, .int (nI sz)])), (hk, .inl (cI, 50, .inl ks)), (hn, .inl (cI, 50, .inl ns)), (hu, .inl (cI, 200, .inl us)), (w, .inr (4, [.ref wd])), (wd, .inl (cI, 16, .inl dp)), (b, .inr (0, [.ref be, .int (nI bn)])), (be, .inl (cI, 100, .inl en)), (o, .inr (2, [.ref os, .int (nI ol)])), (os, .inl (cC, 500, .inl ot)), (jo, .inl (cJ, 1, .inr (.inl fj)))] (va_A [(x, .inr (5, [.ref r, .ref h, .ref hz, .ref w, .ref b, .ref o])), (r, .inr (3, [.ref rs, .ref hd, .int (nI len), .int (nI pl), .int fn, .int fp])), (rs, .inl (cC, 500, .inl sg)), (hd, .inr (1, [.ref hkd, .ref hnd, .ref hud, .int (nI szd)])), (hkd, .inl (cI, 50, .inl ksd)), (hnd, .inl (cI, 50, .inl nsd)), (hud, .inl (cI, 200, .inl usd)), (h, .inr (1, [.ref hk, .ref hn, .ref hu, .int (nI sz)])), (hk, .inl (cI, 50, .inl ks)), (hn, .inl (cI, 50, .inl ns)), (hu, .inl (cI, 200, .inl us)), (w, .inr (4, [.ref wd])), (wd, .inl (cI, 16, .inl dp)), (b, .inr (0, [.ref be, .int (nI bn)])), (be, .inl (cI, 100, .inl en)), (o, .inr (2, [.ref os, .int (nI ol)])), (os, .inl (cC, 500, .inl ot)), (jo, .inl (cJ, 1, .inr (.inl fj)))] sz9)) 1 6 (va_A [(x, .inr (5, [.ref r, .ref h, .ref hz, .ref w, .ref b, .ref o])), (r, .inr (3, [.ref rs, .ref hd, .int (nI len), .int (nI pl), .int fn, .int fp])), (rs, .inl (cC, 500, .inl sg)), (hd, .inr (1, [.ref hkd, .ref hnd, .ref hud, .int (nI szd)])), (hkd, .inl (cI, 50, .inl ksd)), (hnd, .inl (cI, 50, .inl nsd)), (hud, .inl (cI, 200, .inl usd)), (h, .inr (1, [.ref hk, .ref hn, .ref hu, .int (nI sz)])), (hk, .inl (cI, 50, .inl ks)), (hn, .inl (cI, 50, .inl ns)), (hu, .inl (cI, 200, .inl us)), (w, .inr (4, [.ref wd])), (wd, .inl (cI, 16, .inl dp)), (b, .inr (0, [.ref be, .int (nI bn)])), (be, .inl (cI, 100, .inl en)), (o, .inr (2, [.ref os, .int (nI ol)])), (os, .inl (cC, 500, .inl ot)), (jo, .inl (cJ, 1, .inr (.inl fj)))] sz9) := by
  refine va_MetW (cc := cL_read) (maxL := 3) (ret := (some .int)) (hh := hL_read) (by decide) rfl ?_
  intro p e s m args below meth c s₁ Bd hml hv
  obtain ⟨⟨rfl, hsz9, hB, hP, hK, hD0, hT⟩, hX⟩ := hv
  have hx := Bd.exec
  have hb := Bd.bytes
  have hr := Bd.returns
  have hts := atoms_spec (ws := wsL_read) Bd.pre
  have hg : ∀ w ∈ lw_good, w.before _ s = true := fun w h => hts w (List.mem_cons_of_mem _ h)
  have hown : s.vm.findClass RL = some m.cls := findClass_of_methodNamed Bd.named
  have hlocks := Bd.notSynchronized
  have htab := x_tab Bd (hts _ List.mem_cons_self)
  subst hsz9
  have hD := hD0.self (sz := s.heap.size)
  generalize hAe : va_A [(x, .inr (5, [.ref r, .ref h, .ref hz, .ref w, .ref b, .ref o])), (r, .inr (3, [.ref rs, .ref hd, .int (nI len), .int (nI pl), .int fn, .int fp])), (rs, .inl (cC, 500, .inl sg)), (hd, .inr (1, [.ref hkd, .ref hnd, .ref hud, .int (nI szd)])), (hkd, .inl (cI, 50, .inl ksd)), (hnd, .inl (cI, 50, .inl nsd)), (hud, .inl (cI, 200, .inl usd)), (h, .inr (1, [.ref hk, .ref hn, .ref hu, .int (nI sz)])), (hk, .inl (cI, 50, .inl ks)), (hn, .inl (cI, 50, .inl ns)), (hu, .inl (cI, 200, .inl us)), (w, .inr (4, [.ref wd])), (wd, .inl (cI, 16, .inl dp)), (b, .inr (0, [.ref be, .int (nI bn)])), (be, .inl (cI, 100, .inl en)), (o, .inr (2, [.ref os, .int (nI ol)])), (os, .inl (cC, 500, .inl ot)), (jo, .inl (cJ, 1, .inr (.inl fj)))] s.heap.size = A at hD ⊢
  have hA : ∀ q : Nat, s.heap.size ≤ q → A q := fun q h => by rw [← hAe]; exact Or.inr h
  have hAB : ∀ q, A q → B ≤ q := by rw [← hAe]; exact va_A.ge hD0 hB
  have hS : va_S A s.heap s.heap [] := va_S.rf
  have hP : va_P (dC, dI) vwCl [(x, .inr (5, [.ref r, .ref h, .ref hz, .ref w, .ref b, .ref o])), (r, .inr (3, [.ref rs, .ref hd, .int (nI len), .int (nI pl), .int fn, .int fp])), (rs, .inl (cC, 500, .inl sg)), (hd, .inr (1, [.ref hkd, .ref hnd, .ref hud, .int (nI szd)])), (hkd, .inl (cI, 50, .inl ksd)), (hnd, .inl (cI, 50, .inl nsd)), (hud, .inl (cI, 200, .inl usd)), (h, .inr (1, [.ref hk, .ref hn, .ref hu, .int (nI sz)])), (hk, .inl (cI, 50, .inl ks)), (hn, .inl (cI, 50, .inl ns)), (hu, .inl (cI, 200, .inl us)), (w, .inr (4, [.ref wd])), (wd, .inl (cI, 16, .inl dp)), (b, .inr (0, [.ref be, .int (nI bn)])), (be, .inl (cI, 100, .inl en)), (o, .inr (2, [.ref os, .int (nI ol)])), (os, .inl (cC, 500, .inl ot)), (jo, .inl (cJ, 1, .inr (.inl fj)))] s.heap := hP
  have hl := lv_entry ([.ref x, .ref jo]) (n := 3) (Nat.le_of_ble_eq_true rfl)
  rw [lg_entry_eq]
  generalize (lg_sl ([.ref x, .ref jo]) ++ List.replicate (3 - (lg_sl ([.ref x, .ref jo])).length) Slot.unset).toArray = ls at hl ⊢
  have hl : lv_has ls 3 [(0, .ref x), (1, .ref jo)] := hl
  refine lv_aload_n hx hb dL_read_0 rfl (lv_at hl 1 rfl) ?_
  refine lv_iconst (v := 0) hx hb dL_read_1 (by decide) ?_
  refine lv_aload_n hx hb dL_read_2 rfl (lv_at hl 0 rfl) ?_
  refine go_X (wc1 := [(x, .inr (5, [.ref r, .ref h, .ref hz, .ref w, .ref b, .ref o])), (r, .inr (3, [.ref rs, .ref hd, .int (nI 0), .int (nI pl1), .int fn1, .int fp1])), (rs, .inl (cC, 500, .inl sg)), (hd, .inr (1, [.ref hkd, .ref hnd, .ref hud, .int (nI sz1)])), (hkd, .inl (cI, 50, .inl ks1)), (hnd, .inl (cI, 50, .inl ns1)), (hud, .inl (cI, 200, .inl us1)), (h, .inr (1, [.ref hk, .ref hn, .ref hu, .int (nI sz1)])), (hk, .inl (cI, 50, .inl ks1)), (hn, .inl (cI, 50, .inl ns1)), (hu, .inl (cI, 200, .inl us1)), (w, .inr (4, [.ref wd])), (wd, .inl (cI, 16, .inl dp1)), (b, .inr (0, [.ref be, .int (nI bn1)])), (be, .inl (cI, 100, .inl en1)), (o, .inr (2, [.ref os, .int (nI ol1)])), (os, .inl (cC, 500, .inl ot1))]) (wc2 := [(x, .inr (5, [.ref r, .ref h, .ref hz, .ref w, .ref b, .ref o])), (r, .inr (3, [.ref rs, .ref hd, .int (nI 0), .int (nI pl1), .int fn1, .int fp1])), (rs, .inl (cC, 500, .inl sg)), (hd, .inr (1, [.ref hkd, .ref hnd, .ref hud, .int (nI sz1)])), (hkd, .inl (cI, 50, .inl ks1)), (hnd, .inl (cI, 50, .inl ns1)), (hud, .inl (cI, 200, .inl us1)), (h, .inr (1, [.ref hk, .ref hn, .ref hu, .int (nI sz)])), (hk, .inl (cI, 50, .inl ks)), (hn, .inl (cI, 50, .inl ns)), (hu, .inl (cI, 200, .inl us)), (w, .inr (4, [.ref wd])), (wd, .inl (cI, 16, .inl dp)), (b, .inr (0, [.ref be, .int (nI bn)])), (be, .inl (cI, 100, .inl en)), (o, .inr (2, [.ref os, .int (nI ol)])), (os, .inl (cC, 500, .inl ot))]) (w1 := [(x, .inr (5, [.ref r, .ref h, .ref hz, .ref w, .ref b, .ref o])), (r, .inr (3, [.ref rs, .ref hd, .int (nI 0), .int (nI pl1), .int fn1, .int fp1])), (rs, .inl (cC, 500, .inl sg)), (hd, .inr (1, [.ref hkd, .ref hnd, .ref hud, .int (nI sz1)])), (hkd, .inl (cI, 50, .inl ks1)), (hnd, .inl (cI, 50, .inl ns1)), (hud, .inl (cI, 200, .inl us1)), (h, .inr (1, [.ref hk, .ref hn, .ref hu, .int (nI sz1)])), (hk, .inl (cI, 50, .inl ks1)), (hn, .inl (cI, 50, .inl ns1)), (hu, .inl (cI, 200, .inl us1)), (w, .inr (4, [.ref wd])), (wd, .inl (cI, 16, .inl dp1)), (b, .inr (0, [.ref be, .int (nI bn1)])), (be, .inl (cI, 100, .inl en1)), (o, .inr (2, [.ref os, .int (nI ol1)])), (os, .inl (cC, 500, .inl ot1)), (jo, .inl (cJ, 1, .inr (.inl fj)))]) (w2 := [(x, .inr (5, [.ref r, .ref h, .ref hz, .ref w, .ref b, .ref o])), (r, .inr (3, [.ref rs, .ref hd, .int (nI 0), .int (nI pl1), .int fn1, .int fp1])), (rs, .inl (cC, 500, .inl sg)), (hd, .inr (1, [.ref hkd, .ref hnd, .ref hud, .int (nI sz1)])), (hkd, .inl (cI, 50, .inl ks1)), (hnd, .inl (cI, 50, .inl ns1)), (hud, .inl (cI, 200, .inl us1)), (h, .inr (1, [.ref hk, .ref hn, .ref hu, .int (nI sz)])), (hk, .inl (cI, 50, .inl ks)), (hn, .inl (cI, 50, .inl ns)), (hu, .inl (cI, 200, .inl us)), (w, .inr (4, [.ref wd])), (wd, .inl (cI, 16, .inl dp)), (b, .inr (0, [.ref be, .int (nI bn)])), (be, .inl (cI, 100, .inl en)), (o, .inr (2, [.ref os, .int (nI ol)])), (os, .inl (cC, 500, .inl ot)), (jo, .inl (cJ, 1, .inr (.inl fj)))]) [0, 1, 2, 3, 4, 5, 6, 7, 8, 9, 10, 11, 12, 13, 14, 15, 16] (x_runV (As := []) (rest := [.int 0, .ref jo]) ⟨hx, hb, hml, hown, hg⟩ (kX5_read l dC dI B cI cC cJ x r h hz w b o rs hd sg len pl fn fp hkd hnd hud ksd nsd usd szd hk hn hu ks ns us sz wd dp be en bn os ot ol ok1 ks1 ns1 us1 sz1 pl1 fn1 fp1 dp1 en1 bn1 ot1 ol1 hlen hpl hszd hsz hbn hol hF hst _) (cwV 0 hg (gi_V w_235 w_236 w_237 w_2 w_238) rfl rfl rfl (by decide +kernel) ⟨Nat.le_of_ble_eq_true rfl, Nat.le_of_ble_eq_true rfl⟩) (pre_XV (va_recv hK hP (ci := 5) (q0 := 0) rfl rfl) hB (hP.sub [0, 1, 2, 3, 4, 5, 6, 7, 8, 9, 10, 11, 12, 13, 14, 15, 16] rfl) hK ((hD.weaken (fun _ _ _ h => hAB _ h)).sub [0, 1, 2, 3, 4, 5, 6, 7, 8, 9, 10, 11, 12, 13, 14, 15, 16] (by decide) rfl) hT hX) rfl rfl hl.1 rfl (lv_room (Nat.le_of_ble_eq_true rfl)) dL_read_3 ⟨Nat.le_of_ble_eq_true rfl, Nat.le_of_ble_eq_true rfl⟩) htab hown (hg _ w_234) ⟨Nat.le_of_ble_eq_true rfl, Nat.le_of_ble_eq_true rfl⟩ (by decide) hP hD hS hA rfl (Nat.le_of_ble_eq_true rfl) rfl rfl (Nat.le_of_ble_eq_true rfl) rfl rfl (fun hok H locs hP hD hS => ?_) (fun hok H locs q9 hP hD hS => ?_)
  · refine W.eq (g2 := F0 m 6 ls [.int (nI sz1), .int 0, .ref jo]) rfl ?_
    refine lv_i2l (v := ((nI sz1)).toInt64) hx hb dL_read_6 rfl ?_
    refine va_last hx hb hK hP hD hS 17 2 rfl rfl (vp_in_nI (n := 0) (N := 1) (by decide) (by decide)) dL_read_7 (fun H locs hP hD hS => ?_)
    refine lv_goto (tgt := 14) hx hb dL_read_8 (by decide) ?_
    refine lv_iconst (v := 0) hx hb dL_read_14 (by decide) ?_
    have hP9 := hP
    have hS9 := hS
    exact W.iret hx hb hr (fun t ht hW => ⟨hS9.F ht, Or.inl ⟨hok, rfl, by rw [ht]; exact hP9⟩⟩) hS9.2.2 dL_read_15
  · refine lv_astore_n (lv' := (2, .ref q9) :: [(0, .ref x), (1, .ref jo)]) hx hb dL_read_11 rfl hl (by decide) rfl (fun ls hl => ?_)
    refine lv_iconst (v := 1) hx hb dL_read_12 (by decide) ?_
    have hP9 := hP
    have hS9 := hS
    exact W.iret hx hb hr (fun t ht hW => ⟨hS9.F ht, Or.inr ⟨hok, rfl, by rw [ht]; exact hP9⟩⟩) hS9.2.2 dL_read_13
set_option maxHeartbeats 4000000 in
set_option maxRecDepth 100000 in
theorem kL_piece (l : Launch) (dC : Nat → ClassId) (dI : Nat → Nat → Nat) (B : Nat) (cI cC cJ : ClassId) (x : Nat) (r : Nat) (h : Nat) (hz : Nat) (w : Nat) (b : Nat) (o : Nat) (hk : Nat) (hn : Nat) (hu : Nat) (ks : Nat → Int32) (ns : Nat → Int32) (us : Nat → Int32) (sz : Nat) (p0 : Int32) (p1 : Int32) (jo : Nat) (fj : Nat → Int64) (ok1 : Bool) (v1 : Int32) (hsz : sz ≤ 50) (hF : k_piece ks ns us sz p0 p1 = (ok1, v1)) (hst : ∀ e : Env, l.admits e → e.platform.stackTraces = false) (sz9 : Nat) : Met l yL_piece wsL_piece ({ frames := 7, cells := 1, slots := 6, locals := 105 }) (q_Xp (dC, dI) vwCl [.ref x, .int p0, .int p1, .ref jo] [(x, .inr (5, [.ref r, .ref h, .ref hz, .ref w, .ref b, .ref o])), (h, .inr (1, [.ref hk, .ref hn, .ref hu, .int (nI sz)])), (hk, .inl (cI, 50, .inl ks)), (hn, .inl (cI, 50, .inl ns)), (hu, .inl (cI, 200, .inl us)), (jo, .inl (cJ, 1, .inr (.inl fj)))] [(cI, .int), (cC, .char), (cJ, .long)] B sz9) (yQ (dC, dI) vwCl ok1 [(x, .inr (5, [.ref r, .ref h, .ref hz, .ref w, .ref b, .ref o])), (h, .inr (1, [.ref hk, .ref hn, .ref hu, .int (nI sz)])), (hk, .inl (cI, 50, .inl ks)), (hn, .inl (cI, 50, .inl ns)), (hu, .inl (cI, 200, .inl us)), (jo, .inl (cJ, 1, .inr (.inl (vp_updL fj 0 (v1).toInt64))))] [(x, .inr (5, [.ref r, .ref h, .ref hz, .ref w, .ref b, .ref o])), (h, .inr (1, [.ref hk, .ref hn, .ref hu, .int (nI sz)])), (hk, .inl (cI, 50, .inl ks)), (hn, .inl (cI, 50, .inl ns)), (hu, .inl (cI, 200, .inl us)), (jo, .inl (cJ, 1, .inr (.inl fj)))] (va_A [(x, .inr (5, [.ref r, .ref h, .ref hz, .ref w, .ref b, .ref o])), (h, .inr (1, [.ref hk, .ref hn, .ref hu, .int (nI sz)])), (hk, .inl (cI, 50, .inl ks)), (hn, .inl (cI, 50, .inl ns)), (hu, .inl (cI, 200, .inl us)), (jo, .inl (cJ, 1, .inr (.inl fj)))] sz9)) 1 6 (va_A [(x, .inr (5, [.ref r, .ref h, .ref hz, .ref w, .ref b, .ref o])), (h, .inr (1, [.ref hk, .ref hn, .ref hu, .int (nI sz)])), (hk, .inl (cI, 50, .inl ks)), (hn, .inl (cI, 50, .inl ns)), (hu, .inl (cI, 200, .inl us)), (jo, .inl (cJ, 1, .inr (.inl fj)))] sz9) := by
  refine va_MetW (cc := cL_piece) (maxL := 5) (ret := (some .int)) (hh := hL_piece) (by decide) rfl ?_
  intro p e s m args below meth c s₁ Bd hml hv
  obtain ⟨⟨rfl, hsz9, hB, hP, hK, hD0, hT⟩, hX⟩ := hv
  have hx := Bd.exec
  have hb := Bd.bytes
  have hr := Bd.returns
  have hts := atoms_spec (ws := wsL_piece) Bd.pre
  have hg : ∀ w ∈ lw_good, w.before _ s = true := fun w h => hts w (List.mem_cons_of_mem _ h)
  have hown : s.vm.findClass RL = some m.cls := findClass_of_methodNamed Bd.named
  have hlocks := Bd.notSynchronized
  have htab := x_tab Bd (hts _ List.mem_cons_self)
  subst hsz9
  have hD := hD0.self (sz := s.heap.size)
  generalize hAe : va_A [(x, .inr (5, [.ref r, .ref h, .ref hz, .ref w, .ref b, .ref o])), (h, .inr (1, [.ref hk, .ref hn, .ref hu, .int (nI sz)])), (hk, .inl (cI, 50, .inl ks)), (hn, .inl (cI, 50, .inl ns)), (hu, .inl (cI, 200, .inl us)), (jo, .inl (cJ, 1, .inr (.inl fj)))] s.heap.size = A at hD ⊢
  have hA : ∀ q : Nat, s.heap.size ≤ q → A q := fun q h => by rw [← hAe]; exact Or.inr h
  have hAB : ∀ q, A q → B ≤ q := by rw [← hAe]; exact va_A.ge hD0 hB
  have hS : va_S A s.heap s.heap [] := va_S.rf
  have hP : va_P (dC, dI) vwCl [(x, .inr (5, [.ref r, .ref h, .ref hz, .ref w, .ref b, .ref o])), (h, .inr (1, [.ref hk, .ref hn, .ref hu, .int (nI sz)])), (hk, .inl (cI, 50, .inl ks)), (hn, .inl (cI, 50, .inl ns)), (hu, .inl (cI, 200, .inl us)), (jo, .inl (cJ, 1, .inr (.inl fj)))] s.heap := hP
  have hl := lv_entry ([.ref x, .int p0, .int p1, .ref jo]) (n := 5) (Nat.le_of_ble_eq_true rfl)
  rw [lg_entry_eq]
  generalize (lg_sl ([.ref x, .int p0, .int p1, .ref jo]) ++ List.replicate (5 - (lg_sl ([.ref x, .int p0, .int p1, .ref jo])).length) Slot.unset).toArray = ls at hl ⊢
  have hl : lv_has ls 5 [(0, .ref x), (1, .int p0), (2, .int p1), (3, .ref jo)] := hl
  refine lv_aload_n hx hb dL_piece_0 rfl (lv_at hl 3 rfl) ?_
  refine lv_iconst (v := 0) hx hb dL_piece_1 (by decide) ?_
  refine lv_aload_n hx hb dL_piece_2 rfl (lv_at hl 0 rfl) ?_
  refine lv_iload_n hx hb dL_piece_3 rfl (lv_at hl 1 rfl) ?_
  refine lv_iload_n hx hb dL_piece_4 rfl (lv_at hl 2 rfl) ?_
  refine go_X (wc1 := [(x, .inr (5, [.ref r, .ref h, .ref hz, .ref w, .ref b, .ref o])), (h, .inr (1, [.ref hk, .ref hn, .ref hu, .int (nI sz)])), (hk, .inl (cI, 50, .inl ks)), (hn, .inl (cI, 50, .inl ns)), (hu, .inl (cI, 200, .inl us))]) (wc2 := [(x, .inr (5, [.ref r, .ref h, .ref hz, .ref w, .ref b, .ref o])), (h, .inr (1, [.ref hk, .ref hn, .ref hu, .int (nI sz)])), (hk, .inl (cI, 50, .inl ks)), (hn, .inl (cI, 50, .inl ns)), (hu, .inl (cI, 200, .inl us))]) (w1 := [(x, .inr (5, [.ref r, .ref h, .ref hz, .ref w, .ref b, .ref o])), (h, .inr (1, [.ref hk, .ref hn, .ref hu, .int (nI sz)])), (hk, .inl (cI, 50, .inl ks)), (hn, .inl (cI, 50, .inl ns)), (hu, .inl (cI, 200, .inl us)), (jo, .inl (cJ, 1, .inr (.inl fj)))]) (w2 := [(x, .inr (5, [.ref r, .ref h, .ref hz, .ref w, .ref b, .ref o])), (h, .inr (1, [.ref hk, .ref hn, .ref hu, .int (nI sz)])), (hk, .inl (cI, 50, .inl ks)), (hn, .inl (cI, 50, .inl ns)), (hu, .inl (cI, 200, .inl us)), (jo, .inl (cJ, 1, .inr (.inl fj)))]) [0, 1, 2, 3, 4] (x_runV (As := [.int p0, .int p1]) (rest := [.int 0, .ref jo]) ⟨hx, hb, hml, hown, hg⟩ (kX5_piece l dC dI B cI cC cJ x r h hz w b o hk hn hu ks ns us sz p0 p1 ok1 v1 hsz hF hst _) (cwV 2 hg (gi_V w_432 w_433 w_434 w_2 w_435) rfl rfl rfl (by decide +kernel) ⟨Nat.le_of_ble_eq_true rfl, Nat.le_of_ble_eq_true rfl⟩) (pre_XV (va_recv hK hP (ci := 5) (q0 := 0) rfl rfl) hB (hP.sub [0, 1, 2, 3, 4] rfl) hK ((hD.weaken (fun _ _ _ h => hAB _ h)).sub [0, 1, 2, 3, 4] (by decide) rfl) hT hX) rfl rfl hl.1 rfl (lv_room (Nat.le_of_ble_eq_true rfl)) dL_piece_5 ⟨Nat.le_of_ble_eq_true rfl, Nat.le_of_ble_eq_true rfl⟩) htab hown (hg _ w_431) ⟨Nat.le_of_ble_eq_true rfl, Nat.le_of_ble_eq_true rfl⟩ (by decide) hP hD hS hA rfl (Nat.le_of_ble_eq_true rfl) rfl rfl (Nat.le_of_ble_eq_true rfl) rfl rfl (fun hok H locs hP hD hS => ?_) (fun hok H locs q9 hP hD hS => ?_)
  · refine W.eq (g2 := F0 m 8 ls [.int v1, .int 0, .ref jo]) rfl ?_
    refine lv_i2l (v := (v1).toInt64) hx hb dL_piece_8 rfl ?_
    refine va_last hx hb hK hP hD hS 5 2 rfl rfl (vp_in_nI (n := 0) (N := 1) (by decide) (by decide)) dL_piece_9 (fun H locs hP hD hS => ?_)
    refine lv_goto (tgt := 17) hx hb dL_piece_10 (by decide) ?_
    refine lv_iconst (v := 0) hx hb dL_piece_17 (by decide) ?_
    have hP9 := hP
    have hS9 := hS
    exact W.iret hx hb hr (fun t ht hW => ⟨hS9.F ht, Or.inl ⟨hok, rfl, by rw [ht]; exact hP9⟩⟩) hS9.2.2 dL_piece_18
  · refine lv_astore (lv' := (4, .ref q9) :: [(0, .ref x), (1, .int p0), (2, .int p1), (3, .ref jo)]) hx hb dL_piece_13 hl (by decide) rfl (fun ls hl => ?_)
    refine lv_iconst (v := 1) hx hb dL_piece_15 (by decide) ?_
    have hP9 := hP
    have hS9 := hS
    exact W.iret hx hb hr (fun t ht hW => ⟨hS9.F ht, Or.inr ⟨hok, rfl, by rw [ht]; exact hP9⟩⟩) hS9.2.2 dL_piece_16
set_option maxHeartbeats 4000000 in
set_option maxRecDepth 100000 in
theorem kL_reach (l : Launch) (dC : Nat → ClassId) (dI : Nat → Nat → Nat) (B : Nat) (cI cC cJ : ClassId) (x : Nat) (r : Nat) (h : Nat) (hz : Nat) (w : Nat) (b : Nat) (o : Nat) (hk : Nat) (hn : Nat) (hu : Nat) (ks : Nat → Int32) (ns : Nat → Int32) (us : Nat → Int32) (sz : Nat) (wd : Nat) (dp : Nat → Int32) (p0 : Int32) (p1 : Int32) (p2 : Int32) (jo : Nat) (fj : Nat → Int64) (ok1 : Bool) (v1 : Int32) (dp1 : Nat → Int32) (hsz : sz ≤ 50) (hF : k_reach ks us sz dp p0 p1 p2 = (ok1, v1, dp1)) (hst : ∀ e : Env, l.admits e → e.platform.stackTraces = false) (sz9 : Nat) : Met l yL_reach wsL_reach ({ frames := 7, cells := 1, slots := 6, locals := 142 }) (q_Xp (dC, dI) vwCl [.ref x, .int p0, .int p1, .int p2, .ref jo] [(x, .inr (5, [.ref r, .ref h, .ref hz, .ref w, .ref b, .ref o])), (h, .inr (1, [.ref hk, .ref hn, .ref hu, .int (nI sz)])), (hk, .inl (cI, 50, .inl ks)), (hn, .inl (cI, 50, .inl ns)), (hu, .inl (cI, 200, .inl us)), (w, .inr (4, [.ref wd])), (wd, .inl (cI, 16, .inl dp)), (jo, .inl (cJ, 1, .inr (.inl fj)))] [(cI, .int), (cC, .char), (cJ, .long)] B sz9) (yQ (dC, dI) vwCl ok1 [(x, .inr (5, [.ref r, .ref h, .ref hz, .ref w, .ref b, .ref o])), (h, .inr (1, [.ref hk, .ref hn, .ref hu, .int (nI sz)])), (hk, .inl (cI, 50, .inl ks)), (hn, .inl (cI, 50, .inl ns)), (hu, .inl (cI, 200, .inl us)), (w, .inr (4, [.ref wd])), (wd, .inl (cI, 16, .inl dp1)), (jo, .inl (cJ, 1, .inr (.inl (vp_updL fj 0 (v1).toInt64))))] [(x, .inr (5, [.ref r, .ref h, .ref hz, .ref w, .ref b, .ref o])), (h, .inr (1, [.ref hk, .ref hn, .ref hu, .int (nI sz)])), (hk, .inl (cI, 50, .inl ks)), (hn, .inl (cI, 50, .inl ns)), (hu, .inl (cI, 200, .inl us)), (w, .inr (4, [.ref wd])), (wd, .inl (cI, 16, .inl dp)), (jo, .inl (cJ, 1, .inr (.inl fj)))] (va_A [(x, .inr (5, [.ref r, .ref h, .ref hz, .ref w, .ref b, .ref o])), (h, .inr (1, [.ref hk, .ref hn, .ref hu, .int (nI sz)])), (hk, .inl (cI, 50, .inl ks)), (hn, .inl (cI, 50, .inl ns)), (hu, .inl (cI, 200, .inl us)), (w, .inr (4, [.ref wd])), (wd, .inl (cI, 16, .inl dp)), (jo, .inl (cJ, 1, .inr (.inl fj)))] sz9)) 1 6 (va_A [(x, .inr (5, [.ref r, .ref h, .ref hz, .ref w, .ref b, .ref o])), (h, .inr (1, [.ref hk, .ref hn, .ref hu, .int (nI sz)])), (hk, .inl (cI, 50, .inl ks)), (hn, .inl (cI, 50, .inl ns)), (hu, .inl (cI, 200, .inl us)), (w, .inr (4, [.ref wd])), (wd, .inl (cI, 16, .inl dp)), (jo, .inl (cJ, 1, .inr (.inl fj)))] sz9) := by
  refine va_MetW (cc := cL_reach) (maxL := 6) (ret := (some .int)) (hh := hL_reach) (by decide) rfl ?_
  intro p e s m args below meth c s₁ Bd hml hv
  obtain ⟨⟨rfl, hsz9, hB, hP, hK, hD0, hT⟩, hX⟩ := hv
  have hx := Bd.exec
  have hb := Bd.bytes
  have hr := Bd.returns
  have hts := atoms_spec (ws := wsL_reach) Bd.pre
  have hg : ∀ w ∈ lw_good, w.before _ s = true := fun w h => hts w (List.mem_cons_of_mem _ h)
  have hown : s.vm.findClass RL = some m.cls := findClass_of_methodNamed Bd.named
  have hlocks := Bd.notSynchronized
  have htab := x_tab Bd (hts _ List.mem_cons_self)
  subst hsz9
  have hD := hD0.self (sz := s.heap.size)
  generalize hAe : va_A [(x, .inr (5, [.ref r, .ref h, .ref hz, .ref w, .ref b, .ref o])), (h, .inr (1, [.ref hk, .ref hn, .ref hu, .int (nI sz)])), (hk, .inl (cI, 50, .inl ks)), (hn, .inl (cI, 50, .inl ns)), (hu, .inl (cI, 200, .inl us)), (w, .inr (4, [.ref wd])), (wd, .inl (cI, 16, .inl dp)), (jo, .inl (cJ, 1, .inr (.inl fj)))] s.heap.size = A at hD ⊢
  have hA : ∀ q : Nat, s.heap.size ≤ q → A q := fun q h => by rw [← hAe]; exact Or.inr h
  have hAB : ∀ q, A q → B ≤ q := by rw [← hAe]; exact va_A.ge hD0 hB
  have hS : va_S A s.heap s.heap [] := va_S.rf
  have hP : va_P (dC, dI) vwCl [(x, .inr (5, [.ref r, .ref h, .ref hz, .ref w, .ref b, .ref o])), (h, .inr (1, [.ref hk, .ref hn, .ref hu, .int (nI sz)])), (hk, .inl (cI, 50, .inl ks)), (hn, .inl (cI, 50, .inl ns)), (hu, .inl (cI, 200, .inl us)), (w, .inr (4, [.ref wd])), (wd, .inl (cI, 16, .inl dp)), (jo, .inl (cJ, 1, .inr (.inl fj)))] s.heap := hP
  have hl := lv_entry ([.ref x, .int p0, .int p1, .int p2, .ref jo]) (n := 6) (Nat.le_of_ble_eq_true rfl)
  rw [lg_entry_eq]
  generalize (lg_sl ([.ref x, .int p0, .int p1, .int p2, .ref jo]) ++ List.replicate (6 - (lg_sl ([.ref x, .int p0, .int p1, .int p2, .ref jo])).length) Slot.unset).toArray = ls at hl ⊢
  have hl : lv_has ls 6 [(0, .ref x), (1, .int p0), (2, .int p1), (3, .int p2), (4, .ref jo)] := hl
  refine lv_aload hx hb dL_reach_0 (lv_at hl 4 rfl) ?_
  refine lv_iconst (v := 0) hx hb dL_reach_2 (by decide) ?_
  refine lv_aload_n hx hb dL_reach_3 rfl (lv_at hl 0 rfl) ?_
  refine lv_iload_n hx hb dL_reach_4 rfl (lv_at hl 1 rfl) ?_
  refine lv_iload_n hx hb dL_reach_5 rfl (lv_at hl 2 rfl) ?_
  refine lv_iload_n hx hb dL_reach_6 rfl (lv_at hl 3 rfl) ?_
  refine go_X (wc1 := [(x, .inr (5, [.ref r, .ref h, .ref hz, .ref w, .ref b, .ref o])), (h, .inr (1, [.ref hk, .ref hn, .ref hu, .int (nI sz)])), (hk, .inl (cI, 50, .inl ks)), (hn, .inl (cI, 50, .inl ns)), (hu, .inl (cI, 200, .inl us)), (w, .inr (4, [.ref wd])), (wd, .inl (cI, 16, .inl dp1))]) (wc2 := [(x, .inr (5, [.ref r, .ref h, .ref hz, .ref w, .ref b, .ref o])), (h, .inr (1, [.ref hk, .ref hn, .ref hu, .int (nI sz)])), (hk, .inl (cI, 50, .inl ks)), (hn, .inl (cI, 50, .inl ns)), (hu, .inl (cI, 200, .inl us)), (w, .inr (4, [.ref wd])), (wd, .inl (cI, 16, .inl dp))]) (w1 := [(x, .inr (5, [.ref r, .ref h, .ref hz, .ref w, .ref b, .ref o])), (h, .inr (1, [.ref hk, .ref hn, .ref hu, .int (nI sz)])), (hk, .inl (cI, 50, .inl ks)), (hn, .inl (cI, 50, .inl ns)), (hu, .inl (cI, 200, .inl us)), (w, .inr (4, [.ref wd])), (wd, .inl (cI, 16, .inl dp1)), (jo, .inl (cJ, 1, .inr (.inl fj)))]) (w2 := [(x, .inr (5, [.ref r, .ref h, .ref hz, .ref w, .ref b, .ref o])), (h, .inr (1, [.ref hk, .ref hn, .ref hu, .int (nI sz)])), (hk, .inl (cI, 50, .inl ks)), (hn, .inl (cI, 50, .inl ns)), (hu, .inl (cI, 200, .inl us)), (w, .inr (4, [.ref wd])), (wd, .inl (cI, 16, .inl dp)), (jo, .inl (cJ, 1, .inr (.inl fj)))]) [0, 1, 2, 3, 4, 5, 6] (x_runV (As := [.int p0, .int p1, .int p2]) (rest := [.int 0, .ref jo]) ⟨hx, hb, hml, hown, hg⟩ (kX5_reach l dC dI B cI cC cJ x r h hz w b o hk hn hu ks ns us sz wd dp p0 p1 p2 ok1 v1 dp1 hsz hF hst _) (cwV 3 hg (gi_V w_458 w_459 w_460 w_2 w_461) rfl rfl rfl (by decide +kernel) ⟨Nat.le_of_ble_eq_true rfl, Nat.le_of_ble_eq_true rfl⟩) (pre_XV (va_recv hK hP (ci := 5) (q0 := 0) rfl rfl) hB (hP.sub [0, 1, 2, 3, 4, 5, 6] rfl) hK ((hD.weaken (fun _ _ _ h => hAB _ h)).sub [0, 1, 2, 3, 4, 5, 6] (by decide) rfl) hT hX) rfl rfl hl.1 rfl (lv_room (Nat.le_of_ble_eq_true rfl)) dL_reach_7 ⟨Nat.le_of_ble_eq_true rfl, Nat.le_of_ble_eq_true rfl⟩) htab hown (hg _ w_457) ⟨Nat.le_of_ble_eq_true rfl, Nat.le_of_ble_eq_true rfl⟩ (by decide) hP hD hS hA rfl (Nat.le_of_ble_eq_true rfl) rfl rfl (Nat.le_of_ble_eq_true rfl) rfl rfl (fun hok H locs hP hD hS => ?_) (fun hok H locs q9 hP hD hS => ?_)
  · refine W.eq (g2 := F0 m 10 ls [.int v1, .int 0, .ref jo]) rfl ?_
    refine lv_i2l (v := (v1).toInt64) hx hb dL_reach_10 rfl ?_
    refine va_last hx hb hK hP hD hS 7 2 rfl rfl (vp_in_nI (n := 0) (N := 1) (by decide) (by decide)) dL_reach_11 (fun H locs hP hD hS => ?_)
    refine lv_goto (tgt := 19) hx hb dL_reach_12 (by decide) ?_
    refine lv_iconst (v := 0) hx hb dL_reach_19 (by decide) ?_
    have hP9 := hP
    have hS9 := hS
    exact W.iret hx hb hr (fun t ht hW => ⟨hS9.F ht, Or.inl ⟨hok, rfl, by rw [ht]; exact hP9⟩⟩) hS9.2.2 dL_reach_20
  · refine lv_astore (lv' := (5, .ref q9) :: [(0, .ref x), (1, .int p0), (2, .int p1), (3, .int p2), (4, .ref jo)]) hx hb dL_reach_15 hl (by decide) rfl (fun ls hl => ?_)
    refine lv_iconst (v := 1) hx hb dL_reach_17 (by decide) ?_
    have hP9 := hP
    have hS9 := hS
    exact W.iret hx hb hr (fun t ht hW => ⟨hS9.F ht, Or.inr ⟨hok, rfl, by rw [ht]; exact hP9⟩⟩) hS9.2.2 dL_reach_18
set_option maxHeartbeats 4000000 in
set_option maxRecDepth 100000 in
theorem kL_deep (l : Launch) (dC : Nat → ClassId) (dI : Nat → Nat → Nat) (B : Nat) (cI cC cJ : ClassId) (x : Nat) (r : Nat) (h : Nat) (hz : Nat) (w : Nat) (b : Nat) (o : Nat) (hk : Nat) (hn : Nat) (hu : Nat) (ks : Nat → Int32) (ns : Nat → Int32) (us : Nat → Int32) (sz : Nat) (wd : Nat) (dp : Nat → Int32) (p0 : Int32) (p1 : Int32) (jo : Nat) (fj : Nat → Int64) (ok1 : Bool) (v1 : Int32) (dp1 : Nat → Int32) (hsz : sz ≤ 50) (hF : k_deep ks us sz dp p0 p1 = (ok1, v1, dp1)) (hst : ∀ e : Env, l.admits e → e.platform.stackTraces = false) (sz9 : Nat) : Met l yL_deep wsL_deep ({ frames := 7, cells := 1, slots := 6, locals := 141 }) (q_Xp (dC, dI) vwCl [.ref x, .int p0, .int p1, .ref jo] [(x, .inr (5, [.ref r, .ref h, .ref hz, .ref w, .ref b, .ref o])), (h, .inr (1, [.ref hk, .ref hn, .ref hu, .int (nI sz)])), (hk, .inl (cI, 50, .inl ks)), (hn, .inl (cI, 50, .inl ns)), (hu, .inl (cI, 200, .inl us)), (w, .inr (4, [.ref wd])), (wd, .inl (cI, 16, .inl dp)), (jo, .inl (cJ, 1, .inr (.inl fj)))] [(cI, .int), (cC, .char), (cJ, .long)] B sz9) (yQ (dC, dI) vwCl ok1 [(x, .inr (5, [.ref r, .ref h, .ref hz, .ref w, .ref b, .ref o])), (h, .inr (1, [.ref hk, .ref hn, .ref hu, .int (nI sz)])), (hk, .inl (cI, 50, .inl ks)), (hn, .inl (cI, 50, .inl ns)), (hu, .inl (cI, 200, .inl us)), (w, .inr (4, [.ref wd])), (wd, .inl (cI, 16, .inl dp1)), (jo, .inl (cJ, 1, .inr (.inl (vp_updL fj 0 (v1).toInt64))))] [(x, .inr (5, [.ref r, .ref h, .ref hz, .ref w, .ref b, .ref o])), (h, .inr (1, [.ref hk, .ref hn, .ref hu, .int (nI sz)])), (hk, .inl (cI, 50, .inl ks)), (hn, .inl (cI, 50, .inl ns)), (hu, .inl (cI, 200, .inl us)), (w, .inr (4, [.ref wd])), (wd, .inl (cI, 16, .inl dp)), (jo, .inl (cJ, 1, .inr (.inl fj)))] (va_A [(x, .inr (5, [.ref r, .ref h, .ref hz, .ref w, .ref b, .ref o])), (h, .inr (1, [.ref hk, .ref hn, .ref hu, .int (nI sz)])), (hk, .inl (cI, 50, .inl ks)), (hn, .inl (cI, 50, .inl ns)), (hu, .inl (cI, 200, .inl us)), (w, .inr (4, [.ref wd])), (wd, .inl (cI, 16, .inl dp)), (jo, .inl (cJ, 1, .inr (.inl fj)))] sz9)) 1 6 (va_A [(x, .inr (5, [.ref r, .ref h, .ref hz, .ref w, .ref b, .ref o])), (h, .inr (1, [.ref hk, .ref hn, .ref hu, .int (nI sz)])), (hk, .inl (cI, 50, .inl ks)), (hn, .inl (cI, 50, .inl ns)), (hu, .inl (cI, 200, .inl us)), (w, .inr (4, [.ref wd])), (wd, .inl (cI, 16, .inl dp)), (jo, .inl (cJ, 1, .inr (.inl fj)))] sz9) := by
  refine va_MetW (cc := cL_deep) (maxL := 5) (ret := (some .int)) (hh := hL_deep) (by decide) rfl ?_
  intro p e s m args below meth c s₁ Bd hml hv
  obtain ⟨⟨rfl, hsz9, hB, hP, hK, hD0, hT⟩, hX⟩ := hv
  have hx := Bd.exec
  have hb := Bd.bytes
  have hr := Bd.returns
  have hts := atoms_spec (ws := wsL_deep) Bd.pre
  have hg : ∀ w ∈ lw_good, w.before _ s = true := fun w h => hts w (List.mem_cons_of_mem _ h)
  have hown : s.vm.findClass RL = some m.cls := findClass_of_methodNamed Bd.named
  have hlocks := Bd.notSynchronized
  have htab := x_tab Bd (hts _ List.mem_cons_self)
  subst hsz9
  have hD := hD0.self (sz := s.heap.size)
  generalize hAe : va_A [(x, .inr (5, [.ref r, .ref h, .ref hz, .ref w, .ref b, .ref o])), (h, .inr (1, [.ref hk, .ref hn, .ref hu, .int (nI sz)])), (hk, .inl (cI, 50, .inl ks)), (hn, .inl (cI, 50, .inl ns)), (hu, .inl (cI, 200, .inl us)), (w, .inr (4, [.ref wd])), (wd, .inl (cI, 16, .inl dp)), (jo, .inl (cJ, 1, .inr (.inl fj)))] s.heap.size = A at hD ⊢
  have hA : ∀ q : Nat, s.heap.size ≤ q → A q := fun q h => by rw [← hAe]; exact Or.inr h
  have hAB : ∀ q, A q → B ≤ q := by rw [← hAe]; exact va_A.ge hD0 hB
  have hS : va_S A s.heap s.heap [] := va_S.rf
  have hP : va_P (dC, dI) vwCl [(x, .inr (5, [.ref r, .ref h, .ref hz, .ref w, .ref b, .ref o])), (h, .inr (1, [.ref hk, .ref hn, .ref hu, .int (nI sz)])), (hk, .inl (cI, 50, .inl ks)), (hn, .inl (cI, 50, .inl ns)), (hu, .inl (cI, 200, .inl us)), (w, .inr (4, [.ref wd])), (wd, .inl (cI, 16, .inl dp)), (jo, .inl (cJ, 1, .inr (.inl fj)))] s.heap := hP
  have hl := lv_entry ([.ref x, .int p0, .int p1, .ref jo]) (n := 5) (Nat.le_of_ble_eq_true rfl)
  rw [lg_entry_eq]
  generalize (lg_sl ([.ref x, .int p0, .int p1, .ref jo]) ++ List.replicate (5 - (lg_sl ([.ref x, .int p0, .int p1, .ref jo])).length) Slot.unset).toArray = ls at hl ⊢
  have hl : lv_has ls 5 [(0, .ref x), (1, .int p0), (2, .int p1), (3, .ref jo)] := hl
  refine lv_aload_n hx hb dL_deep_0 rfl (lv_at hl 3 rfl) ?_
  refine lv_iconst (v := 0) hx hb dL_deep_1 (by decide) ?_
  refine lv_aload_n hx hb dL_deep_2 rfl (lv_at hl 0 rfl) ?_
  refine lv_iload_n hx hb dL_deep_3 rfl (lv_at hl 1 rfl) ?_
  refine lv_iload_n hx hb dL_deep_4 rfl (lv_at hl 2 rfl) ?_
  refine go_X (wc1 := [(x, .inr (5, [.ref r, .ref h, .ref hz, .ref w, .ref b, .ref o])), (h, .inr (1, [.ref hk, .ref hn, .ref hu, .int (nI sz)])), (hk, .inl (cI, 50, .inl ks)), (hn, .inl (cI, 50, .inl ns)), (hu, .inl (cI, 200, .inl us)), (w, .inr (4, [.ref wd])), (wd, .inl (cI, 16, .inl dp1))]) (wc2 := [(x, .inr (5, [.ref r, .ref h, .ref hz, .ref w, .ref b, .ref o])), (h, .inr (1, [.ref hk, .ref hn, .ref hu, .int (nI sz)])), (hk, .inl (cI, 50, .inl ks)), (hn, .inl (cI, 50, .inl ns)), (hu, .inl (cI, 200, .inl us)), (w, .inr (4, [.ref wd])), (wd, .inl (cI, 16, .inl dp))]) (w1 := [(x, .inr (5, [.ref r, .ref h, .ref hz, .ref w, .ref b, .ref o])), (h, .inr (1, [.ref hk, .ref hn, .ref hu, .int (nI sz)])), (hk, .inl (cI, 50, .inl ks)), (hn, .inl (cI, 50, .inl ns)), (hu, .inl (cI, 200, .inl us)), (w, .inr (4, [.ref wd])), (wd, .inl (cI, 16, .inl dp1)), (jo, .inl (cJ, 1, .inr (.inl fj)))]) (w2 := [(x, .inr (5, [.ref r, .ref h, .ref hz, .ref w, .ref b, .ref o])), (h, .inr (1, [.ref hk, .ref hn, .ref hu, .int (nI sz)])), (hk, .inl (cI, 50, .inl ks)), (hn, .inl (cI, 50, .inl ns)), (hu, .inl (cI, 200, .inl us)), (w, .inr (4, [.ref wd])), (wd, .inl (cI, 16, .inl dp)), (jo, .inl (cJ, 1, .inr (.inl fj)))]) [0, 1, 2, 3, 4, 5, 6] (x_runV (As := [.int p0, .int p1]) (rest := [.int 0, .ref jo]) ⟨hx, hb, hml, hown, hg⟩ (kX5_deep l dC dI B cI cC cJ x r h hz w b o hk hn hu ks ns us sz wd dp p0 p1 ok1 v1 dp1 hsz hF hst _) (cwV 2 hg (gi_V w_482 w_483 w_484 w_2 w_485) rfl rfl rfl (by decide +kernel) ⟨Nat.le_of_ble_eq_true rfl, Nat.le_of_ble_eq_true rfl⟩) (pre_XV (va_recv hK hP (ci := 5) (q0 := 0) rfl rfl) hB (hP.sub [0, 1, 2, 3, 4, 5, 6] rfl) hK ((hD.weaken (fun _ _ _ h => hAB _ h)).sub [0, 1, 2, 3, 4, 5, 6] (by decide) rfl) hT hX) rfl rfl hl.1 rfl (lv_room (Nat.le_of_ble_eq_true rfl)) dL_deep_5 ⟨Nat.le_of_ble_eq_true rfl, Nat.le_of_ble_eq_true rfl⟩) htab hown (hg _ w_457) ⟨Nat.le_of_ble_eq_true rfl, Nat.le_of_ble_eq_true rfl⟩ (by decide) hP hD hS hA rfl (Nat.le_of_ble_eq_true rfl) rfl rfl (Nat.le_of_ble_eq_true rfl) rfl rfl (fun hok H locs hP hD hS => ?_) (fun hok H locs q9 hP hD hS => ?_)
  · refine W.eq (g2 := F0 m 8 ls [.int v1, .int 0, .ref jo]) rfl ?_
    refine lv_i2l (v := (v1).toInt64) hx hb dL_deep_8 rfl ?_
    refine va_last hx hb hK hP hD hS 7 2 rfl rfl (vp_in_nI (n := 0) (N := 1) (by decide) (by decide)) dL_deep_9 (fun H locs hP hD hS => ?_)
    refine lv_goto (tgt := 17) hx hb dL_deep_10 (by decide) ?_
    refine lv_iconst (v := 0) hx hb dL_deep_17 (by decide) ?_
    have hP9 := hP
    have hS9 := hS
    exact W.iret hx hb hr (fun t ht hW => ⟨hS9.F ht, Or.inl ⟨hok, rfl, by rw [ht]; exact hP9⟩⟩) hS9.2.2 dL_deep_18
  · refine lv_astore (lv' := (4, .ref q9) :: [(0, .ref x), (1, .int p0), (2, .int p1), (3, .ref jo)]) hx hb dL_deep_13 hl (by decide) rfl (fun ls hl => ?_)
    refine lv_iconst (v := 1) hx hb dL_deep_15 (by decide) ?_
    have hP9 := hP
    have hS9 := hS
    exact W.iret hx hb hr (fun t ht hW => ⟨hS9.F ht, Or.inr ⟨hok, rfl, by rw [ht]; exact hP9⟩⟩) hS9.2.2 dL_deep_16
set_option maxHeartbeats 4000000 in
set_option maxRecDepth 100000 in
theorem kL_at (l : Launch) (dC : Nat → ClassId) (dI : Nat → Nat → Nat) (B : Nat) (cI cC cJ : ClassId) (x : Nat) (r : Nat) (h : Nat) (hz : Nat) (w : Nat) (b : Nat) (o : Nat) (os : Nat) (ot : Nat → Int32) (ol : Nat) (p0 : Int32) (jo : Nat) (fj : Nat → Int64) (ok1 : Bool) (v1 : Int32) (hol : ol ≤ 500) (hF : k_at ot ol p0 = (ok1, v1)) (hst : ∀ e : Env, l.admits e → e.platform.stackTraces = false) (sz9 : Nat) : Met l yL_at wsL_at ({ frames := 7, cells := 1, slots := 6, locals := 103 }) (q_Xp (dC, dI) vwCl [.ref x, .int p0, .ref jo] [(x, .inr (5, [.ref r, .ref h, .ref hz, .ref w, .ref b, .ref o])), (o, .inr (2, [.ref os, .int (nI ol)])), (os, .inl (cC, 500, .inl ot)), (jo, .inl (cJ, 1, .inr (.inl fj)))] [(cI, .int), (cC, .char), (cJ, .long)] B sz9) (yQ (dC, dI) vwCl ok1 [(x, .inr (5, [.ref r, .ref h, .ref hz, .ref w, .ref b, .ref o])), (o, .inr (2, [.ref os, .int (nI ol)])), (os, .inl (cC, 500, .inl ot)), (jo, .inl (cJ, 1, .inr (.inl (vp_updL fj 0 (v1).toInt64))))] [(x, .inr (5, [.ref r, .ref h, .ref hz, .ref w, .ref b, .ref o])), (o, .inr (2, [.ref os, .int (nI ol)])), (os, .inl (cC, 500, .inl ot)), (jo, .inl (cJ, 1, .inr (.inl fj)))] (va_A [(x, .inr (5, [.ref r, .ref h, .ref hz, .ref w, .ref b, .ref o])), (o, .inr (2, [.ref os, .int (nI ol)])), (os, .inl (cC, 500, .inl ot)), (jo, .inl (cJ, 1, .inr (.inl fj)))] sz9)) 1 6 (va_A [(x, .inr (5, [.ref r, .ref h, .ref hz, .ref w, .ref b, .ref o])), (o, .inr (2, [.ref os, .int (nI ol)])), (os, .inl (cC, 500, .inl ot)), (jo, .inl (cJ, 1, .inr (.inl fj)))] sz9) := by
  refine va_MetW (cc := cL_at) (maxL := 4) (ret := (some .int)) (hh := hL_at) (by decide) rfl ?_
  intro p e s m args below meth c s₁ Bd hml hv
  obtain ⟨⟨rfl, hsz9, hB, hP, hK, hD0, hT⟩, hX⟩ := hv
  have hx := Bd.exec
  have hb := Bd.bytes
  have hr := Bd.returns
  have hts := atoms_spec (ws := wsL_at) Bd.pre
  have hg : ∀ w ∈ lw_good, w.before _ s = true := fun w h => hts w (List.mem_cons_of_mem _ h)
  have hown : s.vm.findClass RL = some m.cls := findClass_of_methodNamed Bd.named
  have hlocks := Bd.notSynchronized
  have htab := x_tab Bd (hts _ List.mem_cons_self)
  subst hsz9
  have hD := hD0.self (sz := s.heap.size)
  generalize hAe : va_A [(x, .inr (5, [.ref r, .ref h, .ref hz, .ref w, .ref b, .ref o])), (o, .inr (2, [.ref os, .int (nI ol)])), (os, .inl (cC, 500, .inl ot)), (jo, .inl (cJ, 1, .inr (.inl fj)))] s.heap.size = A at hD ⊢
  have hA : ∀ q : Nat, s.heap.size ≤ q → A q := fun q h => by rw [← hAe]; exact Or.inr h
  have hAB : ∀ q, A q → B ≤ q := by rw [← hAe]; exact va_A.ge hD0 hB
  have hS : va_S A s.heap s.heap [] := va_S.rf
  have hP : va_P (dC, dI) vwCl [(x, .inr (5, [.ref r, .ref h, .ref hz, .ref w, .ref b, .ref o])), (o, .inr (2, [.ref os, .int (nI ol)])), (os, .inl (cC, 500, .inl ot)), (jo, .inl (cJ, 1, .inr (.inl fj)))] s.heap := hP
  have hl := lv_entry ([.ref x, .int p0, .ref jo]) (n := 4) (Nat.le_of_ble_eq_true rfl)
  rw [lg_entry_eq]
  generalize (lg_sl ([.ref x, .int p0, .ref jo]) ++ List.replicate (4 - (lg_sl ([.ref x, .int p0, .ref jo])).length) Slot.unset).toArray = ls at hl ⊢
  have hl : lv_has ls 4 [(0, .ref x), (1, .int p0), (2, .ref jo)] := hl
  refine lv_aload_n hx hb dL_at_0 rfl (lv_at hl 2 rfl) ?_
  refine lv_iconst (v := 0) hx hb dL_at_1 (by decide) ?_
  refine lv_aload_n hx hb dL_at_2 rfl (lv_at hl 0 rfl) ?_
  refine lv_iload_n hx hb dL_at_3 rfl (lv_at hl 1 rfl) ?_
  refine go_X (wc1 := [(x, .inr (5, [.ref r, .ref h, .ref hz, .ref w, .ref b, .ref o])), (o, .inr (2, [.ref os, .int (nI ol)])), (os, .inl (cC, 500, .inl ot))]) (wc2 := [(x, .inr (5, [.ref r, .ref h, .ref hz, .ref w, .ref b, .ref o])), (o, .inr (2, [.ref os, .int (nI ol)])), (os, .inl (cC, 500, .inl ot))]) (w1 := [(x, .inr (5, [.ref r, .ref h, .ref hz, .ref w, .ref b, .ref o])), (o, .inr (2, [.ref os, .int (nI ol)])), (os, .inl (cC, 500, .inl ot)), (jo, .inl (cJ, 1, .inr (.inl fj)))]) (w2 := [(x, .inr (5, [.ref r, .ref h, .ref hz, .ref w, .ref b, .ref o])), (o, .inr (2, [.ref os, .int (nI ol)])), (os, .inl (cC, 500, .inl ot)), (jo, .inl (cJ, 1, .inr (.inl fj)))]) [0, 1, 2] (x_runV (As := [.int p0]) (rest := [.int 0, .ref jo]) ⟨hx, hb, hml, hown, hg⟩ (kX5_at l dC dI B cI cC cJ x r h hz w b o os ot ol p0 ok1 v1 hol hF hst _) (cwV 1 hg (gi_V w_489 w_490 w_491 w_2 w_492) rfl rfl rfl (by decide +kernel) ⟨Nat.le_of_ble_eq_true rfl, Nat.le_of_ble_eq_true rfl⟩) (pre_XV (va_recv hK hP (ci := 5) (q0 := 0) rfl rfl) hB (hP.sub [0, 1, 2] rfl) hK ((hD.weaken (fun _ _ _ h => hAB _ h)).sub [0, 1, 2] (by decide) rfl) hT hX) rfl rfl hl.1 rfl (lv_room (Nat.le_of_ble_eq_true rfl)) dL_at_4 ⟨Nat.le_of_ble_eq_true rfl, Nat.le_of_ble_eq_true rfl⟩) htab hown (hg _ w_431) ⟨Nat.le_of_ble_eq_true rfl, Nat.le_of_ble_eq_true rfl⟩ (by decide) hP hD hS hA rfl (Nat.le_of_ble_eq_true rfl) rfl rfl (Nat.le_of_ble_eq_true rfl) rfl rfl (fun hok H locs hP hD hS => ?_) (fun hok H locs q9 hP hD hS => ?_)
  · refine W.eq (g2 := F0 m 7 ls [.int v1, .int 0, .ref jo]) rfl ?_
    refine lv_i2l (v := (v1).toInt64) hx hb dL_at_7 rfl ?_
    refine va_last hx hb hK hP hD hS 3 2 rfl rfl (vp_in_nI (n := 0) (N := 1) (by decide) (by decide)) dL_at_8 (fun H locs hP hD hS => ?_)
    refine lv_goto (tgt := 15) hx hb dL_at_9 (by decide) ?_
    refine lv_iconst (v := 0) hx hb dL_at_15 (by decide) ?_
    have hP9 := hP
    have hS9 := hS
    exact W.iret hx hb hr (fun t ht hW => ⟨hS9.F ht, Or.inl ⟨hok, rfl, by rw [ht]; exact hP9⟩⟩) hS9.2.2 dL_at_16
  · refine lv_astore_n (lv' := (3, .ref q9) :: [(0, .ref x), (1, .int p0), (2, .ref jo)]) hx hb dL_at_12 rfl hl (by decide) rfl (fun ls hl => ?_)
    refine lv_iconst (v := 1) hx hb dL_at_13 (by decide) ?_
    have hP9 := hP
    have hS9 := hS
    exact W.iret hx hb hr (fun t ht hW => ⟨hS9.F ht, Or.inr ⟨hok, rfl, by rw [ht]; exact hP9⟩⟩) hS9.2.2 dL_at_14
