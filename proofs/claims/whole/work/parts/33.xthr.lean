/-! THE THROW ITSELF; the call that may throw, in worlds -/
def xQ (D : va_G) (cl : List vw_C) (ok : Bool) (ws1 ws2 : va_W) (A : Nat → Prop) (r : Option Value) (nm : String) : Array Value → State → Outcome → State → Prop := fun _ st o t =>
  va_F A st t ∧ ((ok = true ∧ o = .returned r ∧ va_P D cl ws1 t.heap) ∨ (ok = false ∧ va_P D cl ws2 t.heap ∧ ∃ (q : Addr) (ce : Cell), o = .threw q ∧ t.heap[q]? = some ce ∧ ce.vm = .none ∧ t.vm.findClass nm = some ce.cls))
section XT
variable {p : Program} {l : Launch} {e : Env} {R : Room} {s : State} {m : MethodId} {args : Array Value} {below : List Frame} {meth : Method} {c : Code} {H : Heap} {locs : List Loc} {cells slots : Nat} {Q : State → Prop}
variable {cc : ByteArray} {pc : Nat} {ls : Array Slot} {rest st0 : List Value} {D : va_G} {cl : List vw_C} {A A0 : Nat → Prop} {a : Nat} {tys : List (ClassId × FieldType)} {ws : va_W} {H0 : Heap}
theorem x_thr {B icl isx ic : Nat} {E tx : String} {y : MethodName} {maxL : Nat} {ret : Option FieldType} {ok : Bool} {ws1 : va_W} {r : Option Value} (hst : ∀ e : Env, l.admits e → e.platform.stackTraces = false)
    (hx : p.tables.exec = Jvm.exec) (hb : c.code = cc) (hml : c.maxLocals = maxL) (hown : s.vm.findClass "HarbourText" = some m.cls) (hg : ∀ w ∈ lw_good, w.before args s = true) (hnm : s.methodNamed? y = some m) (hcode : (Cond.code y cc maxL ret).before args s = true) (hlocks : meth.locks = false)
    (hX : st_X B s s.heap) (hB : B ≤ s.heap.size) (hAB : ∀ q, A q → B ≤ q) (hcl : Cond.classLink "HarbourText" icl E ∈ lw_good) (hins : Cond.instantiable E 6 ∈ lw_good) (hini : Cond.initialized E ∈ lw_good)
    (hall : ∀ w ∈ Bundle.ownAtoms "HarbourText" ic E xNames, xIn w) (hfit : Bundle.fit E = true) (hZ : (isx, tx) ∈ xStr)
    (d0 : decode cc pc = .ok (.new icl, 3)) (d3 : decode cc (pc + 3) = .ok (.dup, 1)) (d4 : decode cc (pc + 3 + 1) = .ok (.ldc isx, 2)) (d6 : decode cc (pc + 3 + 1 + 2) = .ok (.invokespecial ic, 3)) (d9 : decode cc (pc + 3 + 1 + 2 + 3) = .ok (.athrow, 1))
    (hls : ls.size = maxL) (hfr : 5 < R.frames) (hlo : 82 ≤ R.locals) (hce : cells + 1 ≤ R.cells) (hsl : slots + 6 ≤ R.slots)
    (hok : ok = false) (hP : va_P D cl ws H) (hS : va_S A s.heap H locs) :
    W p l e R s m args below meth c H locs cells slots (xMQ below (xQ D cl ok ws1 ws A r E) args s (cells + 1) (slots + 6) A) (F0 m pc ls []) := by
  refine x_again (by omega) (by omega) (fun s' hv hh hsm => ?_)
  have hW0 : s.WarmedH s'.vm := by rw [hv]; exact State.WarmedH.refl s
  have hg' : ∀ w ∈ lw_good, w.before args s' = true := fun w hw => word_at hW0 (gd_is hw) (hg w hw)
  have hX' : st_X B s' s'.heap := by
    rw [hh]
    exact (hX.kept hB (hS.mono hAB)).warm hW0
  have hown' : s'.vm.findClass "HarbourText" = some m.cls := by rw [hv]; exact hown
  obtain ⟨zq, hzq⟩ := hX'.str hZ
  refine W.newc hx hb hown' (hg' _ hcl) (hg' _ hins) (hg' _ hini) rfl d0 (show 0 + 1 ≤ R.cells - cells by omega) (show 0 + 6 ≤ R.slots - slots by omega) (fun cC kC h1 h2 h3 h4 => ?_)
  refine W.eq (g2 := F0 m (pc + 3) ls [.ref H.size]) rfl ?_
  refine lv_dup hx hb d3 rfl ?_
  refine va_ldcS hx hb hown' hzq d4 ?_
  intro T hT X
  have hword : ∀ w ∈ Bundle.ownAtoms "HarbourText" ic E xNames, w.before args s' = true := fun w hw => by
    rcases hall w hw with h | h
    · exact hg' w h
    · exact hX'.words w h
  have htab : ∀ x ∈ c.exceptionTable.toList, covers x (pc + 3 + 1 + 2 + 3) = false := by
    obtain ⟨meth', c', hm', hc', -, -, -, -, hempty, -⟩ := Cond.code_spec hnm hcode
    have e1 : meth' = meth := by
      have := X.method
      rw [hv, hm'] at this
      exact Option.some.inj this
    subst e1
    have e2 : c' = c := Option.some.inj (hc'.symm.trans X.code)
    subst e2
    have h0 : c'.exceptionTable.size = 0 := by simpa [Array.isEmpty] using hempty
    have h1 : c'.exceptionTable.toList = [] := List.eq_nil_of_length_eq_zero (by simpa using h0)
    intro y hy
    rw [h1] at hy
    cases hy
  obtain ⟨U, st, hrun, hend, hW, hsame, ce, hce9, hO⟩ := X.ctorThrowS hx (hst e X.admits) (own := "HarbourText") (cls := E) (names := xNames) (ic := ic) hown' hfit (by decide) hword (fun x h => by cases h) (a := H.size) h1 h2
    (by rw [hT]; exact Array.getElem?_push_size) (by rw [hh]; exact Nat.le_refl _) (msg := .ref zq) rfl (g := F0 m (pc + 3 + 1 + 2) ls [.ref zq, .ref H.size, .ref H.size]) rfl (hls.trans hml.symm) rfl rfl (rest := []) rfl (by rw [hb]; exact d6) (by rw [hb]; exact d9) htab
    (show 2 + 3 < R.frames by omega) (show 2 * 0 + 1 + (13 * (2 + 1) + 42) ≤ R.locals by omega) hlocks
  have hWU : s.WarmedH U.vm := State.WarmedH.trans hW0 hW
  have hkeep : ∀ q : Nat, q < H.size → U.heap[q]? = H[q]? := by
    intro q hq
    have := x_keeps hsame q (by rw [hh]; exact hq)
    rw [← hh]
    exact this
  have hsz : H.size ≤ U.heap.size := by
    have := hsame.2.1
    rw [hh] at this
    exact this
  refine ⟨U, st, .threw H.size, hrun, hend, ⟨⟨Nat.le_trans hS.1 hsz, fun q h1 h2 => (hkeep q (Nat.lt_of_lt_of_le h1 hS.1)).trans (hS.2.1 q h1 h2)⟩, Or.inr ⟨hok, fun k q hq => (hP k q hq).kept (hkeep q.1 (hP k q hq).lt), H.size, ce, rfl, hce9, hO.vm, ?_⟩⟩, locs, hWU, ?_, hS.2.2⟩
  · have h9 := hO.cls
    have e9 : U.vm.findClass E = s'.vm.findClass E := hW.alike.findClass E _
    rw [e9]
    exact h9
  · have := hsm U [] (0 + 1) (0 + 6) hsame
    rw [List.append_nil] at this
    exact this
theorem go_X {mc ms lo hi hpc ct : Nat} {b : Array Value} {wc wc1 wc2 w1 w2 : va_W} {r : Option Value} {ok : Bool} {nm own : String} (isC : List Nat) (hr : xRun p l e R s m args below meth c H locs cells slots mc ms (F0 m pc ls st0) rest (xQ D cl ok wc1 wc2 (va_A wc H.size) r nm b) (va_A wc H.size))
    (htab : c.exceptionTable.toList = tableOf [(lo, hi, hpc, ct)]) (hown : s.vm.findClass own = some m.cls) (hlink : (Cond.classLink own ct nm).before args s = true) (hcov : lo ≤ pc ∧ pc < hi) (hct : ct ≠ 0)
    (hP : va_P D cl ws H) (hD : va_D A0 ws) (hS : va_S A0 H0 H locs) (hA : ∀ q, H0.size ≤ q → A0 q) (hC : isC.map (fun i => ws[i]?) = wc.map some) (hlen1 : isC.length ≤ wc1.length) (h1 : w_put ws isC wc1 = w1) (hm1 : w1.map Prod.fst = ws.map Prod.fst) (hlen2 : isC.length ≤ wc2.length) (h2 : w_put ws isC wc2 = w2) (hm2 : w2.map Prod.fst = ws.map Prod.fst)
    (kk : ok = true → ∀ (H1 : Heap) (locs1 : List Loc), va_P D cl w1 H1 → va_D A0 w1 → va_S A0 H0 H1 locs1 → W p l e R s m args below meth c H1 locs1 (cells + mc) (slots + ms) Q (F0 m (pc + 3) ls (r.toList ++ rest)))
    (kx : ok = false → ∀ (H1 : Heap) (locs1 : List Loc) (q9 : Addr), va_P D cl w2 H1 → va_D A0 w2 → va_S A0 H0 H1 locs1 → W p l e R s m args below meth c H1 locs1 (cells + mc) (slots + ms) Q (F0 m hpc ls [.ref q9])) : W p l e R s m args below meth c H locs cells slots Q (F0 m pc ls st0) := by
  intro T hT X
  obtain ⟨o, st₀, t, T', L, hh0, X', hL, e1, e2, ⟨hF, hq⟩, hgo⟩ := hr T hT X
  obtain ⟨hk, hS1⟩ := put_S isC hD hS hA hC hh0 e1 hF hL
  rcases hq with ⟨hok, ho, hPt⟩ | ⟨hok, hPt, q, ce, ho, hce, hcv, hcls⟩
  · rcases hgo with ⟨v, hv, st⟩ | ⟨q, hv, -⟩
    · rw [hv] at ho
      cases ho
      obtain ⟨t2, a1, b1⟩ := kk hok T'.heap (locs ++ L) (put_P isC hP hD hC hlen1 h1 (by rw [e1]; exact hPt) hk) (hD.of_map hm1) hS1 T' rfl X'
      exact ⟨t2, st t2 a1, b1⟩
    · rw [hv] at ho
      cases ho
  · rcases hgo with ⟨v, hv, -⟩ | ⟨q', hv, st⟩
    · rw [hv] at ho
      cases ho
    · rw [hv] at ho
      cases ho
      have hcls' : s.vm.findClass nm = some ce.cls := by
        rw [← hcls, ← e2]
        exact (X'.warmed.alike.findClass nm _).symm
      obtain ⟨vm', X2, st2⟩ := x_caught X' (g := F0 m pc ls rest) htab hown hlink rfl hcov hct (q := q) (ce := ce) (by rw [e1]; exact hce) (by rw [hcv]; rfl) hcls'
      obtain ⟨t2, a1, b1⟩ := kx hok T'.heap (locs ++ L) q (put_P isC hP hD hC hlen2 h2 (by rw [e1]; exact hPt) hk) (hD.of_map hm2) hS1 (T'.setVm vm') rfl X2
      exact ⟨t2, st t2 (st2 t2 a1), b1⟩
end XT
