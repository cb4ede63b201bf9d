/-! THE CLAIM OUT OF ONE WALK OF THE LAW'S BODY. Your part is whole_start (and what it stands on); all else here is the same for every law, but numbers. -/
def R_law : String := "HarbourTextLaw"
def lw_P (b : Addr) (xs : List Int32) (args : Array Value) (s : State) : Prop := args = #[.ref b] ∧ s.IntsAt b xs ∧ xs.length ≤ 2048 ∧ (Jvm.Cond.and given_1 narrow_1).before args s = true
def lw_Q (_ : Array Value) (s : State) (o : Outcome) (t : State) : Prop := o = .returned (some (.int 1)) ∧ Framed s o t [] 1058 11723
def lw_Z (below : List Frame) (a : Array Value) (s : State) : State → Prop := fun t => ∃ o, t.status = .running ∧ Ended t below o ∧ lw_Q a s o t
/-- the law's own end, with 1 on the stack, nothing written that was there before, its room as the claim has it -/
theorem lw_ret {p : Program} {l : Launch} {e : Env} {s : State} {m : MethodId} {below : List Frame} {meth : Method} {c : Code} {b : Nat} (hx : p.tables.exec = Jvm.exec) (hb : c.code = code) (hr : meth.sig.returnType = ret) (hlocks : meth.locks = false) {pc : Nat} {H : Heap} {ls : Array Slot} (hdg : decode code pc = .ok (.ireturn, 1)) : W p l e room_1 s m #[Value.ref b] below meth c H [] 1058 11723 (lw_Z below #[Value.ref b] s) (F0 m pc ls [.int 1]) := by
  intro T hT X
  obtain ⟨fs, hret, hrun, hended, hW, hframe⟩ := X.leave (v := some (.int 1)) (hlocks := hlocks) (fun h => by rw [hr] at h; cases h)
  have hmeth' : T.vm.method? m = some meth := X.method'
  refine ⟨T.setFrames fs, ?_, .returned (some (.int 1)), hrun, hended, rfl, ⟨_, rfl⟩, hW, hframe⟩
  jvm_step X.here [X.here.top, hx, hb, hdg, hmeth', hr, ret, narrow_b1]
  (try refine ⟨rfl, ?_⟩); (try refine ⟨rfl, ?_⟩)
  first | (intro acts; rw [hret _ acts rfl rfl rfl]) | rw [hret _ _ rfl rfl rfl]
  exact Steps.refl _
/-- what holds at the law's entry: the machine, the code, the tables' words (any of lw_tbl by 'hts w (by decide +kernel)'), the script of L ints xs at the cell b, what the Statement gives of the start (any of its parts by flat_of_before) -/
def lw_At (p : Program) (s : State) (m : MethodId) (meth : Method) (c : Code) (b L : Nat) (xs : Nat → Int32) : Prop :=
  p.tables.exec = Jvm.exec ∧ c.code = code ∧ meth.sig.returnType = ret ∧ c.maxLocals = 7 ∧ s.vm.findClass R_law = some m.cls ∧ (∀ w ∈ lw_tbl, w.before #[Value.ref b] s = true) ∧ va_X b L xs s s.heap ∧ b < s.heap.size ∧ meth.locks = false ∧ (Jvm.Cond.and given_1 narrow_1).before #[Value.ref b] s = true

/-! WHAT HOLDS AT THE LAW'S START -/
theorem ls_LETTERS {s : State} {b : Nat} (hts : ∀ w ∈ lw_tbl, w.before #[Value.ref b] s = true) (hgv : (Jvm.Cond.and given_1 narrow_1).before #[Value.ref b] s = true) : ∃ t : Nat, va_Z "HarbourText" "LETTERS" "[C" (.ref t) (fun q => s.heap.size ≤ q) s s.heap ∧ va_T .char t 6 (fun j => .int (k_tabL j)) (fun q => s.heap.size ≤ q) s s.heap := by
  have hs := flat_of_before _ hgv
  have hin : ∀ j, j < 6 → (Cond.eq (.elem (.static "HarbourText" "LETTERS" "[C") (.int (Int32.ofNat j))) (.int (k_tabL j))) ∈ flatC (Jvm.Cond.and given_1 narrow_1) := by decide +kernel
  obtain ⟨t, ht, hT⟩ := va_Tof (tm := .static "HarbourText" "LETTERS" "[C") (ty := .char) (N := 6) (f := fun j => .int (k_tabL j)) (A := fun q => s.heap.size ≤ q) (by decide) (hs _ (by decide +kernel)) (va_eqt (z := Int32.ofNat 6) (hs _ (by decide +kernel))) (fun j hj => va_eqt (hs _ (hin j hj))) (fun a ha => Nat.not_le.mpr ha)
  exact ⟨t, va_Zref (hts _ (List.mem_append_right _ (tb_2 (List.mem_of_getElem? (i := 29) rfl)))) (hts _ (List.mem_append_right _ (tb_1 (List.mem_of_getElem? (i := 1) rfl)))) ht (fun a ha => Nat.not_le.mpr ha), hT⟩
theorem ls_NUMBERS_OF_KIND {s : State} {b : Nat} (hts : ∀ w ∈ lw_tbl, w.before #[Value.ref b] s = true) (hgv : (Jvm.Cond.and given_1 narrow_1).before #[Value.ref b] s = true) : ∃ t : Nat, va_Z "HarbourText" "NUMBERS_OF_KIND" "[I" (.ref t) (fun q => s.heap.size ≤ q) s s.heap ∧ va_T .int t 6 (fun j => .int (nI (k_tabN j))) (fun q => s.heap.size ≤ q) s s.heap := by
  have hs := flat_of_before _ hgv
  have hin : ∀ j, j < 6 → (Cond.eq (.elem (.static "HarbourText" "NUMBERS_OF_KIND" "[I") (.int (Int32.ofNat j))) (.int (nI (k_tabN j)))) ∈ flatC (Jvm.Cond.and given_1 narrow_1) := by decide +kernel
  obtain ⟨t, ht, hT⟩ := va_Tof (tm := .static "HarbourText" "NUMBERS_OF_KIND" "[I") (ty := .int) (N := 6) (f := fun j => .int (nI (k_tabN j))) (A := fun q => s.heap.size ≤ q) (by decide) (hs _ (by decide +kernel)) (va_eqt (z := Int32.ofNat 6) (hs _ (by decide +kernel))) (fun j hj => va_eqt (hs _ (hin j hj))) (fun a ha => Nat.not_le.mpr ha)
  exact ⟨t, va_Zref (hts _ (List.mem_append_right _ (tb_1 (List.mem_of_getElem? (i := 222) rfl)))) (hts _ (List.mem_append_right _ (tb_1 (List.mem_of_getElem? (i := 1) rfl)))) ht (fun a ha => Nat.not_le.mpr ha), hT⟩
theorem ls_LEAST {s : State} {b : Nat} (hts : ∀ w ∈ lw_tbl, w.before #[Value.ref b] s = true) (hgv : (Jvm.Cond.and given_1 narrow_1).before #[Value.ref b] s = true) : ∃ t : Nat, va_Z "HarbourText" "LEAST" "[I" (.ref t) (fun q => s.heap.size ≤ q) s s.heap ∧ va_T .int t 24 (fun j => .int (k_tabA j)) (fun q => s.heap.size ≤ q) s s.heap := by
  have hs := flat_of_before _ hgv
  have hin : ∀ j, j < 24 → (Cond.eq (.elem (.static "HarbourText" "LEAST" "[I") (.int (Int32.ofNat j))) (.int (k_tabA j))) ∈ flatC (Jvm.Cond.and given_1 narrow_1) := by decide +kernel
  obtain ⟨t, ht, hT⟩ := va_Tof (tm := .static "HarbourText" "LEAST" "[I") (ty := .int) (N := 24) (f := fun j => .int (k_tabA j)) (A := fun q => s.heap.size ≤ q) (by decide) (hs _ (by decide +kernel)) (va_eqt (z := Int32.ofNat 24) (hs _ (by decide +kernel))) (fun j hj => va_eqt (hs _ (hin j hj))) (fun a ha => Nat.not_le.mpr ha)
  exact ⟨t, va_Zref (hts _ (List.mem_append_right _ (tb_2 (List.mem_of_getElem? (i := 74) rfl)))) (hts _ (List.mem_append_right _ (tb_1 (List.mem_of_getElem? (i := 1) rfl)))) ht (fun a ha => Nat.not_le.mpr ha), hT⟩
theorem ls_MOST {s : State} {b : Nat} (hts : ∀ w ∈ lw_tbl, w.before #[Value.ref b] s = true) (hgv : (Jvm.Cond.and given_1 narrow_1).before #[Value.ref b] s = true) : ∃ t : Nat, va_Z "HarbourText" "MOST" "[I" (.ref t) (fun q => s.heap.size ≤ q) s s.heap ∧ va_T .int t 24 (fun j => .int (k_tabZ j)) (fun q => s.heap.size ≤ q) s s.heap := by
  have hs := flat_of_before _ hgv
  have hin : ∀ j, j < 24 → (Cond.eq (.elem (.static "HarbourText" "MOST" "[I") (.int (Int32.ofNat j))) (.int (k_tabZ j))) ∈ flatC (Jvm.Cond.and given_1 narrow_1) := by decide +kernel
  obtain ⟨t, ht, hT⟩ := va_Tof (tm := .static "HarbourText" "MOST" "[I") (ty := .int) (N := 24) (f := fun j => .int (k_tabZ j)) (A := fun q => s.heap.size ≤ q) (by decide) (hs _ (by decide +kernel)) (va_eqt (z := Int32.ofNat 24) (hs _ (by decide +kernel))) (fun j hj => va_eqt (hs _ (hin j hj))) (fun a ha => Nat.not_le.mpr ha)
  exact ⟨t, va_Zref (hts _ (List.mem_append_right _ (tb_2 (List.mem_of_getElem? (i := 76) rfl)))) (hts _ (List.mem_append_right _ (tb_1 (List.mem_of_getElem? (i := 1) rfl)))) ht (fun a ha => Nat.not_le.mpr ha), hT⟩
theorem ls_N {s : State} {b : Nat} (hts : ∀ w ∈ lw_tbl, w.before #[Value.ref b] s = true) : st_N s := ⟨(List.forall_mem_cons.mpr ⟨va_Nw.of rfl (hts _ (List.mem_append_right _ (tb_1 (List.mem_of_getElem? (i := 26) rfl)))), (List.forall_mem_cons.mpr ⟨va_Nw.of rfl (hts _ (List.mem_append_right _ (tb_1 (List.mem_of_getElem? (i := 32) rfl)))), (List.forall_mem_cons.mpr ⟨va_Nw.of rfl (hts _ (List.mem_append_right _ (tb_1 (List.mem_of_getElem? (i := 71) rfl)))), (List.forall_mem_cons.mpr ⟨va_Nw.of rfl (hts _ (List.mem_append_right _ (tb_1 (List.mem_of_getElem? (i := 74) rfl)))), (List.forall_mem_cons.mpr ⟨va_Nw.of rfl (hts _ (List.mem_append_right _ (tb_1 (List.mem_of_getElem? (i := 84) rfl)))), (List.forall_mem_cons.mpr ⟨va_Nw.of rfl (hts _ (List.mem_append_right _ (tb_1 (List.mem_of_getElem? (i := 97) rfl)))), (List.forall_mem_cons.mpr ⟨va_Nw.of rfl (hts _ (List.mem_append_right _ (tb_1 (List.mem_of_getElem? (i := 215) rfl)))), (List.forall_mem_cons.mpr ⟨va_Nw.of rfl (hts _ (List.mem_append_right _ (tb_1 (List.mem_of_getElem? (i := 239) rfl)))), (List.forall_mem_cons.mpr ⟨va_Nw.of rfl (hts _ (List.mem_append_right _ (tb_2 (List.mem_of_getElem? (i := 60) rfl)))), (List.forall_mem_cons.mpr ⟨va_Nw.of rfl (hts _ (List.mem_append_right _ (tb_2 (List.mem_of_getElem? (i := 72) rfl)))), (List.forall_mem_cons.mpr ⟨va_Nw.of rfl (hts _ (List.mem_append_right _ (tb_2 (List.mem_of_getElem? (i := 178) rfl)))), (List.forall_mem_cons.mpr ⟨va_Nw.of rfl (hts _ (List.mem_append_right _ (tb_2 (List.mem_of_getElem? (i := 224) rfl)))), (List.forall_mem_cons.mpr ⟨va_Nw.of rfl (hts _ (List.mem_append_right _ (tb_2 (List.mem_of_getElem? (i := 235) rfl)))), (fun _ h => absurd h List.not_mem_nil)⟩)⟩)⟩)⟩)⟩)⟩)⟩)⟩)⟩)⟩)⟩)⟩)⟩), (List.forall_mem_cons.mpr ⟨va_Nw.of rfl (hts _ (List.mem_append_right _ (tb_2 (List.mem_of_getElem? (i := 28) rfl)))), (List.forall_mem_cons.mpr ⟨va_Nw.of rfl (hts _ (List.mem_append_right _ (tb_2 (List.mem_of_getElem? (i := 73) rfl)))), (List.forall_mem_cons.mpr ⟨va_Nw.of rfl (hts _ (List.mem_append_right _ (tb_2 (List.mem_of_getElem? (i := 75) rfl)))), (List.forall_mem_cons.mpr ⟨va_Nw.of rfl (hts _ (List.mem_append_right _ (tb_2 (List.mem_of_getElem? (i := 225) rfl)))), (fun _ h => absurd h List.not_mem_nil)⟩)⟩)⟩)⟩)⟩
theorem ls_B {s : State} {b : Nat} (hts : ∀ w ∈ lw_tbl, w.before #[Value.ref b] s = true) (hgv : (Jvm.Cond.and given_1 narrow_1).before #[Value.ref b] s = true) : st_B s.heap.size s s.heap := by
  obtain ⟨tL, zL, aL⟩ := ls_LETTERS hts hgv
  obtain ⟨tN, zN, aN⟩ := ls_NUMBERS_OF_KIND hts hgv
  obtain ⟨tA, zA, aA⟩ := ls_LEAST hts hgv
  obtain ⟨tZ, zZ, aZ⟩ := ls_MOST hts hgv
  exact ⟨⟨tL, tN, tA, tZ, zL, aL, zN, aN, zA, aA, zZ, aZ⟩, ls_N hts⟩
theorem xw_lay0 {s : State} {A : Array Value} {C n d : String} (h : (Cond.laysStatic C n d).before A s = true) : (Cond.laysStatic C n d).before #[] s = true := h
theorem xw_ref0 {s : State} {A : Array Value} {C n d : String} (h : (Cond.isRef (.static C n d)).before A s = true) : (Cond.isRef (.static C n d)).before #[] s = true := by
  simpa [Cond.before, Cond.holds, Cond.value, Term.eval] using h
theorem xw_str {s : State} {A : Array Value} {own tx : String} {k : Nat} (h1 : (Cond.stringRef own k tx).before A s = true) (h2 : (Cond.exactly (.string own k) "java/lang/String").before A s = true) : ∃ a, vk_R own k tx a s := by
  obtain ⟨a, -, -, -, ha, -⟩ := Cond.exactly_spec h2
  exact ⟨a, vk_R.of h1 ha⟩
theorem ls_X {s : State} {b : Nat} (hts : ∀ w ∈ lw_tbl, w.before #[Value.ref b] s = true) (hgv : (Jvm.Cond.and given_1 narrow_1).before #[Value.ref b] s = true) : st_X s.heap.size s s.heap := by
  have hs := flat_of_before _ hgv
  refine ⟨s, State.WarmedH.refl s, rfl, fun _ _ => rfl, ?_, ?_⟩
  · exact (List.forall_mem_cons.mpr ⟨va_tabs rfl rfl (hts _ (List.mem_append_right _ (tb_2 (List.mem_of_getElem? (i := 85) rfl)))), (List.forall_mem_cons.mpr ⟨va_tabs rfl rfl (hts _ (List.mem_append_right _ (tb_3 (List.mem_of_getElem? (i := 8) rfl)))), (List.forall_mem_cons.mpr ⟨va_tabs rfl rfl (hts _ (List.mem_append_right _ (tb_3 (List.mem_of_getElem? (i := 37) rfl)))), (List.forall_mem_cons.mpr ⟨va_tabs rfl rfl (hts _ (List.mem_append_right _ (tb_2 (List.mem_of_getElem? (i := 87) rfl)))), (List.forall_mem_cons.mpr ⟨va_tabs rfl rfl (hts _ (List.mem_append_right _ (tb_2 (List.mem_of_getElem? (i := 89) rfl)))), (List.forall_mem_cons.mpr ⟨va_tabs rfl rfl (hts _ (List.mem_append_right _ (tb_2 (List.mem_of_getElem? (i := 91) rfl)))), (List.forall_mem_cons.mpr ⟨(xw_lay0 (hts _ (List.mem_append_right _ (tb_2 (List.mem_of_getElem? (i := 110) rfl))))), (List.forall_mem_cons.mpr ⟨(xw_lay0 (hts _ (List.mem_append_right _ (tb_2 (List.mem_of_getElem? (i := 112) rfl))))), (List.forall_mem_cons.mpr ⟨(xw_ref0 (hs _ (by decide +kernel))), (List.forall_mem_cons.mpr ⟨(xw_ref0 (hs _ (by decide +kernel))), (List.forall_mem_cons.mpr ⟨va_tabs rfl rfl (hts _ (List.mem_append_right _ (tb_1 (List.mem_of_getElem? (i := 8) rfl)))), (fun _ h => absurd h List.not_mem_nil)⟩)⟩)⟩)⟩)⟩)⟩)⟩)⟩)⟩)⟩)⟩)
  · exact (List.forall_mem_cons.mpr ⟨xw_str (hts _ (List.mem_append_right _ (tb_2 (List.mem_of_getElem? (i := 124) rfl)))) (hs _ (by decide +kernel)), (List.forall_mem_cons.mpr ⟨xw_str (hts _ (List.mem_append_right _ (tb_3 (List.mem_of_getElem? (i := 15) rfl)))) (hs _ (by decide +kernel)), (List.forall_mem_cons.mpr ⟨xw_str (hts _ (List.mem_append_right _ (tb_3 (List.mem_of_getElem? (i := 24) rfl)))) (hs _ (by decide +kernel)), (List.forall_mem_cons.mpr ⟨xw_str (hts _ (List.mem_append_right _ (tb_3 (List.mem_of_getElem? (i := 44) rfl)))) (hs _ (by decide +kernel)), (List.forall_mem_cons.mpr ⟨xw_str (hts _ (List.mem_append_right _ (tb_3 (List.mem_of_getElem? (i := 52) rfl)))) (hs _ (by decide +kernel)), (List.forall_mem_cons.mpr ⟨xw_str (hts _ (List.mem_append_right _ (tb_3 (List.mem_of_getElem? (i := 69) rfl)))) (hs _ (by decide +kernel)), (fun _ h => absurd h List.not_mem_nil)⟩)⟩)⟩)⟩)⟩)⟩)
theorem ls_K {s : State} {b : Nat} (hg : ∀ w ∈ lw_good, w.before #[Value.ref b] s = true) : ∃ (dC : Nat → ClassId) (dI : Nat → Nat → Nat) (cI cC cJ : ClassId), va_K (dC, dI) vwCl [(cI, .int), (cC, .char), (cJ, .long)] s := by
  obtain ⟨c0, i0, k0⟩ := u_known (C := RX0) (T := TX0) (N := 2) (n := 2) hg in_X0 (hg _ w_80)
  obtain ⟨c1, i1, k1⟩ := u_known (C := RX1) (T := TX1) (N := 4) (n := 4) hg in_X1 (hg _ w_31)
  obtain ⟨c2, i2, k2⟩ := u_known (C := RX2) (T := TX2) (N := 2) (n := 2) hg in_X2 (hg _ w_92)
  obtain ⟨c3, i3, k3⟩ := u_known (C := RX3) (T := TX3) (N := 6) (n := 6) hg in_X3 (hg _ w_26)
  obtain ⟨c4, i4, k4⟩ := u_known (C := RX4) (T := TX4) (N := 1) (n := 1) hg in_X4 (hg _ w_71)
  obtain ⟨c5, i5, k5⟩ := u_known (C := RX5) (T := TX5) (N := 6) (n := 6) hg in_X5 (hg _ w_18)
  obtain ⟨c6, i6, k6⟩ := u_known (C := RX6) (T := TX6) (N := 11) (n := 11) hg in_X6 (hg _ w_498)
  obtain ⟨aI, qI, mI, fI, gI, hI⟩ := Cond.arrayClass_spec (hg _ w_49)
  obtain ⟨aC, qC, mC, fC, gC, hC⟩ := Cond.arrayClass_spec (hg _ w_48)
  obtain ⟨aJ, qJ, mJ, fJ, gJ, hJ⟩ := Cond.arrayClass_spec (hg _ w_675)
  refine ⟨fun k => if k = 0 then c0 else if k = 1 then c1 else if k = 2 then c2 else if k = 3 then c3 else if k = 4 then c4 else if k = 5 then c5 else c6, fun k => if k = 0 then i0 else if k = 1 then i1 else if k = 2 then i2 else if k = 3 then i3 else if k = 4 then i4 else if k = 5 then i5 else i6, aI, aC, aJ, ?_, ?_⟩
  · intro k q hq
    match k, hq with
    | 0, hq => cases hq; exact k0
    | 1, hq => cases hq; exact k1
    | 2, hq => cases hq; exact k2
    | 3, hq => cases hq; exact k3
    | 4, hq => cases hq; exact k4
    | 5, hq => cases hq; exact k5
    | 6, hq => cases hq; exact k6
    | k + 7, hq => simp [vwCl] at hq
  · intro k q hq
    match k, hq with
    | 0, hq => cases hq; exact ⟨fun n z => ⟨fun k h => (by cases h), qI, gI, mI, hI⟩, fI⟩
    | 1, hq => cases hq; exact ⟨fun n z => ⟨fun k h => (by cases h), qC, gC, mC, hC⟩, fC⟩
    | 2, hq => cases hq; exact ⟨fun n z => ⟨fun k h => (by cases h), qJ, gJ, mJ, hJ⟩, fJ⟩
    | k + 3, hq => simp at hq
