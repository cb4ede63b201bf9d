/-! MORE ROWS, AND BOUNDS -/
theorem rd_end {r v : Int32} {a : Array Value} {st t : State} (h : r = v) (ht : t.heap = st.heap) : QcRead r a st (.returned (some (.int v))) t := ⟨by rw [h], ht⟩
section CP
variable {p : Program} {l : Launch} {e : Env} {R : Room} {s : State} {m : MethodId} {args : Array Value} {below : List Frame} {meth : Method} {c : Code} {H : Heap} {locs : List Loc} {cells slots : Nat} {Q : State → Prop}
variable {cc : ByteArray} {pc : Nat} {ls : Array Slot} {rest : List Value} {A : Nat → Prop}
theorem top_eq {x y : Int32} (h : x = y) (k : W p l e R s m args below meth c H locs cells slots Q (F0 m pc ls (.int y :: rest))) : W p l e R s m args below meth c H locs cells slots Q (F0 m pc ls (.int x :: rest)) := by
  rw [h]
  exact k
theorem loop_R {σ : Type} {head : Nat} (Inv : Nat → σ → Array Slot → Prop) (step : ∀ (n : Nat) (x : σ) (ls : Array Slot), (∀ (x' : σ) (ls' : Array Slot), Inv n x' ls' → W p l e R s m args below meth c H locs cells slots Q (F0 m head ls' [])) → Inv (n + 1) x ls → W p l e R s m args below meth c H locs cells slots Q (F0 m head ls [])) (zero : ∀ (x : σ) (ls : Array Slot), Inv 0 x ls → False) {n : Nat} {x : σ} {ls : Array Slot} (h : Inv n x ls) : W p l e R s m args below meth c H locs cells slots Q (F0 m head ls []) := by
  induction n generalizing x ls with
  | zero => exact (zero x ls h).elim
  | succ n ih => exact step n x ls (fun x' ls' h' => ih h') h
theorem loop_M {σ : Type} {head : Nat} (Inv : Nat → σ → Heap → List Loc → Array Slot → Prop) (step : ∀ (n : Nat) (x : σ) (H : Heap) (locs : List Loc) (ls : Array Slot), (∀ (x' : σ) (H' : Heap) (locs' : List Loc) (ls' : Array Slot), Inv n x' H' locs' ls' → W p l e R s m args below meth c H' locs' cells slots Q (F0 m head ls' [])) → Inv (n + 1) x H locs ls → W p l e R s m args below meth c H locs cells slots Q (F0 m head ls [])) (zero : ∀ (x : σ) (H : Heap) (locs : List Loc) (ls : Array Slot), Inv 0 x H locs ls → False) {n : Nat} {x : σ} {H : Heap} {locs : List Loc} {ls : Array Slot} (h : Inv n x H locs ls) : W p l e R s m args below meth c H locs cells slots Q (F0 m head ls []) := by
  induction n generalizing x H locs ls with
  | zero => exact (zero x H locs ls h).elim
  | succ n ih => exact step n x H locs ls (fun x' H' locs' ls' h' => ih h') h
theorem x_ti {t N : Nat} {f : Nat → Value} (hexec : p.tables.exec = Jvm.exec) (hb : c.code = cc) (hT : va_T .int t N f A s s.heap) (hS : va_S A s.heap H locs) {k : Nat} (hk : k < N) (hN : N < 2 ^ 31) {v : Value} (hv : f k = v) (hdg : decode cc pc = .ok (.iaload, 1)) (kk : W p l e R s m args below meth c H locs cells slots Q (F0 m (pc + 1) ls (v :: rest))) : W p l e R s m args below meth c H locs cells slots Q (F0 m pc ls (.int (nI k) :: .ref t :: rest)) :=
  va_ti hexec hb hT hS (vp_in_nI hk hN) (by rw [nI_clamp (Nat.lt_trans hk hN)]; exact hv) hdg kk
theorem x_tc {t N : Nat} {f : Nat → Value} (hexec : p.tables.exec = Jvm.exec) (hb : c.code = cc) (hT : va_T .char t N f A s s.heap) (hS : va_S A s.heap H locs) {k : Nat} (hk : k < N) (hN : N < 2 ^ 31) {v : Value} (hv : f k = v) (hdg : decode cc pc = .ok (.caload, 1)) (kk : W p l e R s m args below meth c H locs cells slots Q (F0 m (pc + 1) ls (v :: rest))) : W p l e R s m args below meth c H locs cells slots Q (F0 m pc ls (.int (nI k) :: .ref t :: rest)) :=
  va_tc hexec hb hT hS (vp_in_nI hk hN) (by rw [nI_clamp (Nat.lt_trans hk hN)]; exact hv) hdg kk
end CP
theorem lt_nle {x y : Int32} (h : x < y) : ¬ y ≤ x := fun z => by
  rw [Int32.lt_iff_toInt_lt] at h
  rw [Int32.le_iff_toInt_le] at z
  omega
theorem nle_lt {x y : Int32} (h : ¬ y ≤ x) : x < y := by
  rw [Int32.lt_iff_toInt_lt]
  rw [Int32.le_iff_toInt_le] at h
  omega
theorem nat_of {i : Int32} {n : Nat} (hn : n < 2 ^ 31) (h1 : ¬ i < 0) (h2 : ¬ nI n ≤ i) : ∃ j, j < n ∧ i = nI j := by
  rcases pk_ix i hn with q | q | q
  · exact absurd q h1
  · exact absurd q h2
  · exact q
theorem ix_in {i : Int32} {sz n : Nat} (h1 : ¬ i < 0) (h2 : ¬ nI sz ≤ i) (h : sz ≤ n) (hn : n < 2 ^ 31) : vp_in i n := by
  obtain ⟨j, hj, rfl⟩ := nat_of (by omega) h1 h2
  exact vp_in_nI (by omega) hn
theorem lin4 (a b : Nat) : nI a * 4 + nI b = nI (a * 4 + b) := by
  rw [← nI_add, ← pk_mul]
  rfl
theorem ix_num {i w : Int32} {sz : Nat} (h1 : ¬ i < 0) (h2 : ¬ nI sz ≤ i) (h3 : ¬ w < 0) (h4 : w < 4) (hsz : sz ≤ 50) : vp_in (i * 4 + w) 200 := by
  obtain ⟨a, ha, rfl⟩ := nat_of (by omega) h1 h2
  obtain ⟨b, hb, rfl⟩ := nat_of (n := 4) (by decide) h3 (lt_nle h4)
  rw [lin4]
  exact vp_in_nI (by omega) (by decide)
theorem ix_set {w : Int32} {sz : Nat} (h1 : 0 < sz) (h3 : ¬ w < 0) (h4 : ¬ 4 ≤ w) (hsz : sz ≤ 50) : vp_in ((nI sz - 1) * 4 + w) 200 := by
  obtain ⟨b, hb, rfl⟩ := nat_of (n := 4) (by decide) h3 h4
  obtain ⟨a, rfl⟩ : ∃ a, sz = a + 1 := ⟨sz - 1, by omega⟩
  rw [nI_pred, lin4]
  exact vp_in_nI (by omega) (by decide)
theorem k_isKind_spec {k : Int32} (h : k_isKind k = true) : ¬ k < 0 ∧ ¬ nI 6 ≤ k := by
  unfold k_isKind at h
  split at h
  · cases h
  · rename_i h1
    split at h
    · cases h
    · rename_i h2
      exact ⟨h1, h2⟩
theorem k_isPoint_spec {k : Int32} (h : k_isPoint k = true) : ¬ k < 0 ∧ ¬ nI 16 ≤ k := by
  unfold k_isPoint at h
  split at h
  · cases h
  · rename_i h1
    split at h
    · cases h
    · rename_i h2
      exact ⟨h1, h2⟩
theorem kind_in {k : Int32} (h : k_isKind k = true) : vp_in k 6 := ix_in (k_isKind_spec h).1 (k_isKind_spec h).2 (Nat.le_refl 6) (by decide)
theorem pt_in {k : Int32} (h : k_isPoint k = true) : vp_in k 16 := ix_in (k_isPoint_spec h).1 (k_isPoint_spec h).2 (Nat.le_refl 16) (by decide)
theorem ix_tab {k w : Int32} (h : k_isKind k = true) (h3 : ¬ w < 0) (h4 : w < 4) : vp_in (k * 4 + w) 24 := by
  obtain ⟨a, ha, rfl⟩ := nat_of (n := 6) (by decide) (k_isKind_spec h).1 (k_isKind_spec h).2
  obtain ⟨b, hb, rfl⟩ := nat_of (n := 4) (by decide) h3 (lt_nle h4)
  rw [lin4]
  exact vp_in_nI (by omega) (by decide)
theorem k_tabN_le (j : Nat) : k_tabN j ≤ 4 := by
  unfold k_tabN
  match j with
  | 0 => decide
  | 1 => decide
  | 2 => decide
  | 3 => decide
  | 4 => decide
  | 5 => decide
  | j + 6 => simp
theorem k_nK_le (k : Int32) : k_nK k ≤ 4 := by
  unfold k_nK
  split
  · exact k_tabN_le _
  · decide
theorem k_isFull_lt {sz : Nat} (h : k_isFull sz = false) : sz < 50 := by
  unfold k_isFull at h
  split at h
  · assumption
  · cases h
theorem k_kindF_none : k_kindF (-1) 0 = -1 := by
  rw [k_kindF, if_pos (by decide), if_neg (by decide), k_kindF, if_pos (by decide), if_neg (by decide), k_kindF, if_pos (by decide), if_neg (by decide), k_kindF, if_pos (by decide), if_neg (by decide), k_kindF, if_pos (by decide), if_neg (by decide), k_kindF, if_pos (by decide), if_neg (by decide), k_kindF, if_neg (by decide)]
theorem k_kindF_lt {sg : Nat → Int32} {len pl : Nat} (h : ¬ k_kindF (k_sign sg len pl) 0 = -1) : pl < len := by
  by_cases hp : pl < len
  · exact hp
  · exact absurd (by rw [k_sign, if_neg hp]; exact k_kindF_none) h
theorem chr_small : ∀ j, j < 127 → vp_nar .char ((nI j).toUInt32 % 65536).toInt32 = nI j := by decide +kernel
theorem chr_keep {p : Int32} (h1 : ¬ p < 33) (h2 : ¬ 126 < p) : vp_nar .char (p.toUInt32 % 65536).toInt32 = p := by
  have h3 : ¬ p < 0 := fun z => h1 (by rw [Int32.lt_iff_toInt_lt] at z ⊢; exact Int.lt_trans z (by decide))
  have h4 : ¬ nI 127 ≤ p := fun z => h2 (by rw [Int32.le_iff_toInt_le] at z; rw [Int32.lt_iff_toInt_lt]; exact Int.lt_of_lt_of_le (by decide) z)
  obtain ⟨j, hj, rfl⟩ := nat_of (n := 127) (by decide) h3 h4
  exact chr_small j hj
theorem cpy_all {f g : Nat → Int32} {n j : Nat} {N : Int32} (hN : N.toNatClampNeg = n) (hj : j < n) : va_cpy f g (0 : Int32).toNatClampNeg (0 : Int32).toNatClampNeg N.toNatClampNeg j = f j := by
  rw [hN, show (0 : Int32).toNatClampNeg = 0 from rfl]
  unfold va_cpy
  rw [if_pos ⟨Nat.zero_le _, by omega⟩, show 0 + (j - 0) = j by omega]
theorem k_digit_lt {sg : Nat → Int32} {len pl : Nat} (h : ¬ k_digit sg len pl = -1) : pl < len := by
  by_cases hp : pl < len
  · exact hp
  · refine absurd ?_ h
    have e : k_sign sg len pl = -1 := by rw [k_sign, if_neg hp]
    rw [k_digit, e, if_pos (by decide)]
theorem k_readDigits_le (sg : Nat → Int32) (len pl : Nat) (h : pl ≤ len) : (k_readDigits sg len pl).2 ≤ len := by
  unfold k_readDigits
  split
  · exact h
  · rename_i h1
    have h1 := k_digit_lt h1
    split
    · show pl + 1 ≤ len
      omega
    · rename_i h2
      have h2 := k_digit_lt h2
      show pl + 1 + 1 ≤ len
      omega
theorem k_readSign_le (sg : Nat → Int32) (len : Nat) (want : Int32) (pl : Nat) (fn fp : Int32) (h : pl ≤ len) (hw : ¬ want = -1) : (k_readSign sg len want pl fn fp).2.1 ≤ len := by
  unfold k_readSign
  split
  · rename_i h1
    show pl + 1 ≤ len
    by_cases hp : pl < len
    · omega
    · rw [k_sign, if_neg hp] at h1
      exact absurd h1.symm hw
  · exact h
theorem k_begin_le (ks ns : Nat → Int32) (sz : Nat) (kind name : Int32) (h : sz ≤ 50) : (k_begin ks ns sz kind name).2.2 ≤ 50 := by
  unfold k_begin
  split
  · exact h
  · rename_i h1
    have h1 := k_isFull_lt (by simpa using h1)
    show sz + 1 ≤ 50
    omega
theorem k_readName_ok (sg : Nat → Int32) (len : Nat) (kind : Int32) (ks ns us : Nat → Int32) (sz pl : Nat) (fn fp : Int32) (h : sz ≤ 50) (hp : pl ≤ len) : (k_readName sg len kind ks ns us sz pl fn fp).2.2.2.2.1 ≤ 50 ∧ (k_readName sg len kind ks ns us sz pl fn fp).2.2.2.2.2.1 ≤ len := by
  have h1 := k_readDigits_le sg len pl hp
  unfold k_readName
  split
  · exact ⟨h, h1⟩
  · split
    · exact ⟨k_begin_le _ _ _ _ _ h, h1⟩
    · exact ⟨h, h1⟩
theorem k_readNumber_le (sg : Nat → Int32) (len : Nat) (kind w : Int32) (us : Nat → Int32) (sz pl : Nat) (fn fp : Int32) (hp : pl ≤ len) : (k_readNumber sg len kind w us sz pl fn fp).2.2.1 ≤ len := by
  have h1 := k_readDigits_le sg len pl hp
  unfold k_readNumber
  split
  · exact h1
  · split
    · exact h1
    · exact h1
theorem k_nums_le (sg : Nat → Int32) (len : Nat) (kind : Int32) (many sz : Nat) : ∀ (n w : Nat) (us : Nat → Int32) (pl : Nat) (fn fp : Int32), many - w = n → pl ≤ len → (k_nums sg len kind many w us sz pl fn fp).2.2.1 ≤ len := by
  intro n
  induction n with
  | zero =>
    intro w us pl fn fp hn hp
    rw [k_nums, if_neg (by omega)]
    exact hp
  | succ n ih =>
    intro w us pl fn fp hn hp
    rw [k_nums, if_pos (by omega)]
    have h1 := k_readNumber_le sg len kind (nI w) us sz pl fn fp hp
    rcases hF : k_readNumber sg len kind (nI w) us sz pl fn fp with ⟨b1, us1, pl1, fn1, fp1⟩
    rw [hF] at h1
    have h1 : pl1 ≤ len := h1
    cases b1 with
    | false => exact h1
    | true =>
      have h2 := k_readSign_le sg len (if w + 1 < many then 44 else 59) pl1 fn1 fp1 h1 (by split <;> decide)
      show (match k_readSign sg len (if w + 1 < many then 44 else 59) pl1 fn1 fp1 with
        | (true, pl2, fn2, fp2) => k_nums sg len kind many (w + 1) us1 sz pl2 fn2 fp2
        | (false, pl2, fn2, fp2) => (false, us1, pl2, fn2, fp2)).2.2.1 ≤ len
      rcases hG : k_readSign sg len (if w + 1 < many then 44 else 59) pl1 fn1 fp1 with ⟨b2, pl2, fn2, fp2⟩
      rw [hG] at h2
      have h2 : pl2 ≤ len := h2
      cases b2 with
      | false => exact h2
      | true => exact ih (w + 1) us1 pl2 fn2 fp2 (by omega) h2
theorem k_readRow_ok (sg : Nat → Int32) (len : Nat) (ks ns us : Nat → Int32) (sz pl : Nat) (fn fp : Int32) (h : sz ≤ 50) (hp : pl ≤ len) : (k_readRow sg len ks ns us sz pl fn fp).2.2.2.2.1 ≤ 50 ∧ (k_readRow sg len ks ns us sz pl fn fp).2.2.2.2.2.1 ≤ len := by
  unfold k_readRow
  split
  · exact ⟨h, hp⟩
  · rename_i h0
    have h0 := k_kindF_lt h0
    split
    · exact ⟨h, hp⟩
    · have h1 := k_readName_ok sg len (k_kindF (k_sign sg len pl) 0) ks ns us sz (pl + 1) fn fp h (by omega)
      rcases hF : k_readName sg len (k_kindF (k_sign sg len pl) 0) ks ns us sz (pl + 1) fn fp with ⟨b1, ks1, ns1, us1, sz1, pl1, fn1, fp1⟩
      rw [hF] at h1
      have h1 : sz1 ≤ 50 ∧ pl1 ≤ len := h1
      cases b1 with
      | false => exact h1
      | true =>
        have h2 := k_readSign_le sg len 61 pl1 fn1 fp1 h1.2 (by decide)
        show (match k_readSign sg len 61 pl1 fn1 fp1 with
          | (true, pl2, fn2, fp2) => k_rowEnd ks1 ns1 sz1 (k_nums sg len (k_kindF (k_sign sg len pl) 0) (k_nK (k_kindF (k_sign sg len pl) 0)) 0 us1 sz1 pl2 fn2 fp2)
          | (false, pl2, fn2, fp2) => (false, ks1, ns1, us1, sz1, pl2, fn2, fp2)).2.2.2.2.1 ≤ 50 ∧ (match k_readSign sg len 61 pl1 fn1 fp1 with
          | (true, pl2, fn2, fp2) => k_rowEnd ks1 ns1 sz1 (k_nums sg len (k_kindF (k_sign sg len pl) 0) (k_nK (k_kindF (k_sign sg len pl) 0)) 0 us1 sz1 pl2 fn2 fp2)
          | (false, pl2, fn2, fp2) => (false, ks1, ns1, us1, sz1, pl2, fn2, fp2)).2.2.2.2.2.1 ≤ len
        rcases hG : k_readSign sg len 61 pl1 fn1 fp1 with ⟨b2, pl2, fn2, fp2⟩
        rw [hG] at h2
        have h2 : pl2 ≤ len := h2
        cases b2 with
        | false => exact ⟨h1.1, h2⟩
        | true => exact ⟨h1.1, k_nums_le sg len _ _ sz1 _ 0 us1 pl2 fn2 fp2 rfl h2⟩
theorem k_addAll_ind (ks us : Nat → Int32) (sz : Nat) (dp : Nat → Int32) (reason : Nat) : ∀ (n k : Nat) (en : Nat → Int32) (bn : Nat), sz - k = n → bn ≤ 100 → (k_addAll ks us sz dp reason k en bn).2 ≤ 100 := by
  intro n
  induction n with
  | zero =>
    intro k en bn hn hb
    rw [k_addAll, if_neg (by omega)]
    exact hb
  | succ n ih =>
    intro k en bn hn hb
    rw [k_addAll, if_pos (by omega)]
    split
    · split
      · exact ih _ _ _ (by omega) (by omega)
      · exact ih _ _ _ (by omega) (by omega)
    · exact ih _ _ _ (by omega) (by omega)
theorem k_addAll_le (ks us : Nat → Int32) (sz : Nat) (dp : Nat → Int32) (reason k : Nat) (en : Nat → Int32) (bn : Nat) (h : bn ≤ 100) : (k_addAll ks us sz dp reason k en bn).2 ≤ 100 := k_addAll_ind ks us sz dp reason _ k en bn rfl h
theorem k_wSign_le (ot : Nat → Int32) (ol : Nat) (c : Int32) (h : ol ≤ 500) : (k_wSign ot ol c).2 ≤ 500 := by
  unfold k_wSign
  split
  · show ol + 1 ≤ 500
    omega
  · exact h
theorem k_wNum_le (ot : Nat → Int32) (ol : Nat) (x : Int32) (h : ol ≤ 500) : (k_wNum ot ol x).2 ≤ 500 := by
  unfold k_wNum
  split
  · exact k_wSign_le _ _ _ h
  · exact k_wSign_le _ _ _ (k_wSign_le _ _ _ h)
theorem k_wNums_ind (us : Nat → Int32) (sz : Nat) (i : Int32) (many : Nat) : ∀ (n w : Nat) (ot : Nat → Int32) (ol : Nat), many - w = n → ol ≤ 500 → (k_wNums us sz i many w ot ol).2 ≤ 500 := by
  intro n
  induction n with
  | zero =>
    intro w ot ol hn h
    rw [k_wNums, if_neg (by omega)]
    exact k_wSign_le _ _ _ h
  | succ n ih =>
    intro w ot ol hn h
    rw [k_wNums, if_pos (by omega)]
    exact ih _ _ _ (by omega) (k_wNum_le _ _ _ (k_wSign_le _ _ _ h))
theorem k_wRow_le (ks ns us : Nat → Int32) (sz : Nat) (i : Int32) (ot : Nat → Int32) (ol : Nat) (h : ol ≤ 500) : (k_wRow ks ns us sz i ot ol).2 ≤ 500 := by
  unfold k_wRow
  split
  · exact k_wNums_ind us sz i _ _ 0 _ _ rfl (k_wNum_le _ _ _ (k_wSign_le _ _ _ h))
  · exact h
theorem k_writeF_ind (ks ns us : Nat → Int32) (sz : Nat) : ∀ (n w : Nat) (rank : Int32) (ot : Nat → Int32) (ol : Nat), sz - w = n → ol ≤ 500 → (k_writeF ks ns us sz rank w ot ol).2 ≤ 500 := by
  intro n
  induction n with
  | zero =>
    intro w rank ot ol hn h
    rw [k_writeF, if_neg (by omega)]
    exact h
  | succ n ih =>
    intro w rank ot ol hn h
    rw [k_writeF, if_pos (by omega)]
    exact ih _ _ _ _ (by omega) (k_wRow_le _ _ _ _ _ _ _ h)
theorem k_write_le (ks ns us : Nat → Int32) (sz : Nat) (ot : Nat → Int32) (h : sz ≤ sz) : (k_write ks ns us sz ot).2 ≤ 500 := k_writeF_ind ks ns us sz _ 0 (-1) ot 0 rfl (by omega)
theorem sw3 (p : Int32) : p = 0 ∨ p = 1 ∨ p = 2 ∨ (¬ p = 0 ∧ ¬ p = 1 ∧ ¬ p = 2 ∧ (p.toInt < 0 ∨ 2 < p.toInt)) := by
  by_cases h0 : p = 0
  · exact Or.inl h0
  by_cases h1 : p = 1
  · exact Or.inr (Or.inl h1)
  by_cases h2 : p = 2
  · exact Or.inr (Or.inr (Or.inl h2))
  refine Or.inr (Or.inr (Or.inr ⟨h0, h1, h2, ?_⟩))
  have g0 : ¬ p.toInt = 0 := fun z => h0 (Int32.toInt_inj.mp (z.trans (by decide)))
  have g1 : ¬ p.toInt = 1 := fun z => h1 (Int32.toInt_inj.mp (z.trans (by decide)))
  have g2 : ¬ p.toInt = 2 := fun z => h2 (Int32.toInt_inj.mp (z.trans (by decide)))
  omega
theorem arr_one {α : Type} {o : Option α} {a b : α} (h1 : o = some a) (h2 : o = some b) : a = b := Option.some.inj (h1.symm.trans h2)
