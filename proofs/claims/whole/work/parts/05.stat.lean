/-! STATIC TABLES of the class as its start leaves them; links across the nest -/
def nestM : List (String × Nat × MethodName) := [("HarbourText", 9, yX3_init), ("HarbourText$TextReader", 17, yX1_init), ("HarbourText", 18, yX1_init), ("HarbourText", 28, yX4_init), ("HarbourText", 35, yX0_init), ("HarbourText", 42, yX2_init), ("HarbourText$Harbour", 60, yX5_numbersOfKind), ("HarbourText$Harbour", 29, yX5_isKind), ("HarbourText$TextReader", 61, yX5_numbersOfKind), ("HarbourText$TextReader", 96, yX5_isKind), ("HarbourText$Ways", 15, yX5_isPoint), ("HarbourText$Printout", 39, yX5_isKind), ("HarbourText$Printout", 57, yX5_numbersOfKind)]
def nestF : List (String × Nat × String × String × String) := [("HarbourText$TextReader", 112, "HarbourText", "LETTERS", "[C"), ("HarbourText$TextReader", 99, "HarbourText", "LEAST", "[I"), ("HarbourText$TextReader", 103, "HarbourText", "MOST", "[I"), ("HarbourText$Printout", 43, "HarbourText", "LETTERS", "[C")]
def st_N (U : State) : Prop := (∀ q ∈ nestM, va_Nw (.methodLinkNest q.1 q.2.1 q.2.2 "HarbourText") U) ∧ ∀ q ∈ nestF, va_Nw (.fieldLinkNest q.1 q.2.1 q.2.2.1 q.2.2.2.1 q.2.2.2.2 "HarbourText") U
theorem st_N.same {u U : State} (h : u.vm = U.vm) (hN : st_N u) : st_N U := ⟨fun q hq => (hN.1 q hq).same rfl h, fun q hq => (hN.2 q hq).same rfl h⟩
theorem st_N.warm {s U : State} (hW : s.WarmedH U.vm) (hN : st_N s) : st_N U := ⟨fun q hq => (hN.1 q hq).warmM hW, fun q hq => (hN.2 q hq).warmF hW⟩
def st_T (B : Nat) (U : State) (H : Heap) : Prop := ∃ (tL tN tA tZ : Nat),
  va_Z "HarbourText" "LETTERS" "[C" (.ref tL) (fun q => B ≤ q) U H ∧ va_T .char tL 6 (fun j => .int (k_tabL j)) (fun q => B ≤ q) U H ∧
  va_Z "HarbourText" "NUMBERS_OF_KIND" "[I" (.ref tN) (fun q => B ≤ q) U H ∧ va_T .int tN 6 (fun j => .int (nI (k_tabN j))) (fun q => B ≤ q) U H ∧
  va_Z "HarbourText" "LEAST" "[I" (.ref tA) (fun q => B ≤ q) U H ∧ va_T .int tA 24 (fun j => .int (k_tabA j)) (fun q => B ≤ q) U H ∧
  va_Z "HarbourText" "MOST" "[I" (.ref tZ) (fun q => B ≤ q) U H ∧ va_T .int tZ 24 (fun j => .int (k_tabZ j)) (fun q => B ≤ q) U H
theorem st_T.moved {B : Nat} {u U : State} {H : Heap} (hvm : u.vm.Alike U.vm) (h : st_T B u H) : st_T B U H := by
  obtain ⟨tL, tN, tA, tZ, zL, aL, zN, aN, zA, aA, zZ, aZ⟩ := h
  exact ⟨tL, tN, tA, tZ, zL.moved hvm, aL.moved hvm, zN.moved hvm, aN.moved hvm, zA.moved hvm, aA.moved hvm, zZ.moved hvm, aZ.moved hvm⟩
theorem st_T.kept {B : Nat} {U : State} {H H1 : Heap} {locs : List Loc} (h : st_T B U H) (hS : va_S (fun q => B ≤ q) H H1 locs) : st_T B U H1 := by
  obtain ⟨tL, tN, tA, tZ, zL, aL, zN, aN, zA, aA, zZ, aZ⟩ := h
  exact ⟨tL, tN, tA, tZ, zL.kept hS.2.1, aL.kept hS.2.1, zN.kept hS.2.1, aN.kept hS.2.1, zA.kept hS.2.1, aA.kept hS.2.1, zZ.kept hS.2.1, aZ.kept hS.2.1⟩
def st_B (B : Nat) (U : State) (H : Heap) : Prop := st_T B U H ∧ st_N U
theorem st_B.warm {B : Nat} {s U : State} {H : Heap} (hW : s.WarmedH U.vm) (h : st_B B s H) : st_B B U H := ⟨h.1.moved hW.alike, h.2.warm hW⟩
theorem st_B.same {B : Nat} {u U : State} {H : Heap} (hv : u.vm = U.vm) (h : st_B B u H) : st_B B U H := ⟨h.1.moved (by rw [hv]; exact Vm.Alike.refl _), h.2.same hv⟩
theorem st_B.kept {B : Nat} {U : State} {H H1 : Heap} {locs : List Loc} (h : st_B B U H) (hS : va_S (fun q => B ≤ q) H H1 locs) : st_B B U H1 := ⟨h.1.kept hS, h.2⟩
theorem st_B.nM {B : Nat} {U : State} {H : Heap} (h : st_B B U H) {q : String × Nat × MethodName} (hq : q ∈ nestM) : va_Nw (.methodLinkNest q.1 q.2.1 q.2.2 "HarbourText") U := h.2.1 q hq
theorem st_B.nF {B : Nat} {U : State} {H : Heap} (h : st_B B U H) {q : String × Nat × String × String × String} (hq : q ∈ nestF) : va_Nw (.fieldLinkNest q.1 q.2.1 q.2.2.1 q.2.2.2.1 q.2.2.2.2 "HarbourText") U := h.2.2 q hq
/-! A CALL'S WORDS among the good ones -/
theorem gi_N {cw : Cond} (h5 : cw ∈ lw_good) : GoodIn lw_good (cw :: lw_good) := by
  intro w hw
  have h : w ∈ lw_good := by
    rcases List.mem_cons.mp hw with rfl | h
    · exact h5
    · exact h
  exact ⟨h, gd_is h⟩
theorem gi_V {own C : String} {idx : Nat} {y : MethodName} {cw : Cond} (h1 : Cond.methodLink own idx y ∈ lw_good) (h2 : Cond.instanceMethod y ∈ lw_good) (h3 : Cond.selects C y y ∈ lw_good) (h4 : Cond.initialized C ∈ lw_good) (h5 : cw ∈ lw_good) : GoodIn lw_good (wsV own idx C y (cw :: lw_good)) := by
  intro w hw
  unfold wsV at hw
  rcases List.mem_append.mp hw with h | h
  · have h : w ∈ lw_good := by
      simp only [List.mem_cons, List.not_mem_nil, or_false] at h
      rcases h with rfl | rfl | rfl | rfl
      · exact h1
      · exact h2
      · exact h3
      · exact h4
    exact ⟨h, gd_is h⟩
  · exact gi_N h5 w h
theorem gi_S {own : String} {idx : Nat} {y : MethodName} {cw : Cond} (h1 : Cond.methodLink own idx y ∈ lw_good) (h2 : Cond.static y ∈ lw_good) (h4 : Cond.initialized y.cls ∈ lw_good) (h5 : cw ∈ lw_good) : GoodIn lw_good (va_wsS own idx y (cw :: lw_good)) := by
  intro w hw
  unfold va_wsS at hw
  rcases List.mem_append.mp hw with h | h
  · have h : w ∈ lw_good := by
      simp only [List.mem_cons, List.not_mem_nil, or_false] at h
      rcases h with rfl | rfl | rfl
      · exact h1
      · exact h2
      · exact h4
    exact ⟨h, gd_is h⟩
  · exact gi_N h5 w h
