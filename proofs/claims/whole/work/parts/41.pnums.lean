/-! A ROW'S NUMBERS, read by class and reference alike -/
def dg (x : Int32) : Nat := if x < 10 then 1 else 2
theorem dg_nI {v : Nat} (h : v < 100) : dg (nI v) = if v < 10 then 1 else 2 := by
  unfold dg
  by_cases h1 : v < 10
  · rw [if_pos h1, if_pos (show nI v < (10 : Int32) from nI_lt (a := v) (b := 10) h1 (by decide))]
  · rw [if_neg h1, if_neg (show ¬ nI v < (10 : Int32) from nI_nlt (a := v) (b := 10) (by omega) (by omega))]
def dsm (us : Nat → Int32) (b : Nat) : Nat → Nat
  | 0 => 0
  | n + 1 => dsm us b n + dg (us (b + n)) + 1
theorem dsm_eq {us us' : Nat → Int32} {b : Nat} : ∀ n, (∀ j, j < n → us' (b + j) = us (b + j)) → dsm us' b n = dsm us b n := by
  intro n
  induction n with
  | zero => intro _; rfl
  | succ n ih =>
    intro h
    show dsm us' b n + dg (us' (b + n)) + 1 = dsm us b n + dg (us (b + n)) + 1
    rw [ih (fun j hj => h j (by omega)), h n (by omega)]
def plen (ks ns us : Nat → Int32) (k : Nat) : Nat := 2 + dg (ns k) + dsm us (4 * k) (k_nK (ks k))
def psm (ks ns us : Nat → Int32) : Nat → Nat
  | 0 => 0
  | n + 1 => psm ks ns us n + plen ks ns us n
theorem psm_eq {ks ns us ks' ns' us' : Nat → Int32} : ∀ n, (∀ k, k < n → ks' k = ks k ∧ ns' k = ns k ∧ ∀ w, w < 4 → us' (4 * k + w) = us (4 * k + w)) → psm ks' ns' us' n = psm ks ns us n := by
  intro n
  induction n with
  | zero => intro _; rfl
  | succ n ih =>
    intro h
    show psm ks' ns' us' n + plen ks' ns' us' n = psm ks ns us n + plen ks ns us n
    obtain ⟨h1, h2, h3⟩ := h n (by omega)
    rw [ih (fun k hk => h k (by omega))]
    unfold plen
    rw [h1, h2, dsm_eq (us := us) (k_nK (ks n)) (fun j hj => h3 j (by have := k_nK_le (ks n); omega))]
theorem m_zero_at (cm : Nat) : ∀ m k (td : Nat → Int32) (j : Nat), 4 - k = m → k ≤ 4 → m_zero cm k td j = if 600 + 6 * cm + 2 + k ≤ j ∧ j < 600 + 6 * cm + 6 then 0 else td j := by
  intro m
  induction m with
  | zero =>
    intro k td j hm hk
    rw [m_zero, if_neg (by omega), if_neg (by omega)]
  | succ m ih =>
    intro k td j hm hk
    rw [m_zero, if_pos (by omega), ih (k + 1) _ j (by omega) (by omega)]
    by_cases h1 : j = 600 + 6 * cm + 2 + k
    · rw [if_neg (by omega), if_pos (by omega), h1]
      exact pk_us
    · rw [pk_un h1]
      by_cases h2 : 600 + 6 * cm + 2 + k ≤ j ∧ j < 600 + 6 * cm + 6
      · rw [if_pos (by omega), if_pos h2]
      · rw [if_neg (by omega), if_neg h2]
theorem judge_sim {us td : Nat → Int32} {sz a w v : Nat} (hsz : sz < 50) (ha : a < 6) (hw : w < k_nK (nI a)) (hv : v < 100) (ht : td (600 + 6 * sz) = nI a) (h1 : 1 ≤ w → td (600 + 6 * sz + 2) = us (4 * sz)) :
    k_judge us (sz + 1) (nI a) (nI w) (nI v) = m_wrong td sz (nI w) (nI v) ∧ (m_wrong td sz (nI w) (nI v) = 0 ∨ m_wrong td sz (nI w) (nI v) = 3 ∨ m_wrong td sz (nI w) (nI v) = 4) := by
  have hw4 : w < 4 := by have := k_nK_le (nI a); omega
  unfold k_judge m_wrong
  rw [if_pos (nI_pos' (by omega)), ht, ← range_sim a ha w hw v hv]
  by_cases hR : k_inRange (nI a) (nI w) (nI v) = true
  · rw [if_pos hR, if_pos hR]
    unfold m_twice
    rw [ht, nI_pred, show k_num us (sz + 1) (nI sz) 0 = us (4 * sz + 0) from k_num_at (w := 0) (by omega) (by omega) (by decide)]
    by_cases c1 : nI w = 1
    · have hw1 : w = 1 := (nI_eq (a := w) (b := 1) (by omega) (by decide)).mp c1
      have e := h1 (by omega)
      rw [e]
      by_cases c2 : nI a = 0 ∨ nI a = 4
      · by_cases c3 : us (4 * sz) = nI v
        · simp [c1, c2, c3]
        · have c3' : ¬ nI v = us (4 * sz) := fun z => c3 z.symm
          have c4 : ¬ nI a = 1 := by rcases c2 with z | z <;> rw [z] <;> decide
          simp [c1, c2, c3, c3', c4]
      · by_cases c4 : nI a = 1 ∧ nI v = 0
        · simp [c1, c2, c4]
        · simp [c1, c2, c4]
    · simp [c1]
  · rw [if_neg hR, if_neg hR]
    exact ⟨rfl, Or.inr (Or.inl rfl)⟩
theorem set_at {us : Nat → Int32} {sz w : Nat} (hsz : sz < 50) (hw : w < 4) (x : Int32) : k_setNumber us (sz + 1) (nI w) x = upd us (4 * sz + w) x := by
  rw [k_setNumber, if_pos (by omega), if_neg (nI_pos (by omega)), if_neg (show ¬ (4 : Int32) ≤ nI w from nI_ge (a := w) (b := 4) hw (by decide)), nI_pred, lin4, nI_clamp (by omega), Nat.mul_comm sz 4]
theorem ix_at {w : Nat} (hw : w < 4) : m_ix (nI w) = 2 + w := by
  rw [m_ix, if_neg (nI_m1 (by omega)), nI_clamp (by omega)]
theorem sep_sim {w many : Nat} (hw : w < many) (hm : many ≤ 4) : (if nI w = nI many - 1 then (59 : Int32) else 44) = if w + 1 < many then 44 else 59 := by
  obtain ⟨n, rfl⟩ : ∃ n, many = n + 1 := ⟨many - 1, by omega⟩
  rw [nI_pred]
  by_cases h : w = n
  · rw [if_pos (by rw [h]), if_neg (by omega)]
  · rw [if_neg (fun z => h ((nI_eq (by omega) (by omega)).mp z)), if_pos (by omega)]
theorem rdNums_none (tx : Nat → Int32) (sn cm many k : Nat) (td : Nat → Int32) (fl fa : Int32) : m_rdNums tx sn cm many k none td fl fa = (none, m_zero cm many td, fl, fa) := by
  rw [m_rdNums]
  split <;> rfl
theorem nums_sim (sg : Nat → Int32) (len sz : Nat) (hsz : sz < 50) {a : Nat} (ha : a < 6) (base : Nat) (fn fp : Int32) : ∀ m w (us td : Nat → Int32) (pl : Nat), k_nK (nI a) - w = m → w ≤ k_nK (nI a) → pl ≤ len → td (600 + 6 * sz) = nI a →
    (∀ v, v < w → td (600 + 6 * sz + 2 + v) = us (4 * sz + v) ∧ ∃ c, c < 100 ∧ us (4 * sz + v) = nI c ∧ k_inRange (nI a) (nI v) (nI c) = true) → base + dsm us (4 * sz) w ≤ pl →
    (∃ f p us' pl' td', k_nums sg len (nI a) (k_nK (nI a)) w us (sz + 1) pl fn fp = (false, us', pl', f, p) ∧ m_rdNums sg len sz (k_nK (nI a)) w (some pl) td fn fp = (none, td', f, p) ∧ ∀ j, j < 600 → td' j = td j) ∨
    (∃ us' td' pl', k_nums sg len (nI a) (k_nK (nI a)) w us (sz + 1) pl fn fp = (true, us', pl', fn, fp) ∧ m_rdNums sg len sz (k_nK (nI a)) w (some pl) td fn fp = (some pl', td', fn, fp) ∧ pl' ≤ len ∧ base + dsm us' (4 * sz) (k_nK (nI a)) ≤ pl' ∧ (∀ j, j < 4 * sz → us' j = us j) ∧ (∀ j, j < 600 + 6 * sz + 2 → td' j = td j) ∧
      (∀ v, v < 4 → td' (600 + 6 * sz + 2 + v) = if v < k_nK (nI a) then us' (4 * sz + v) else 0) ∧ ∀ v, v < k_nK (nI a) → ∃ c, c < 100 ∧ us' (4 * sz + v) = nI c ∧ k_inRange (nI a) (nI v) (nI c) = true) := by
  have h4 := k_nK_le (nI a)
  have hzo : ∀ (td : Nat → Int32) (j : Nat), j < 600 → m_zero sz (k_nK (nI a)) td j = td j := fun td j hj => by
    rw [m_zero_at sz _ _ _ _ rfl h4, if_neg (by omega)]
  intro m
  induction m with
  | zero =>
    intro w us td pl hm hw hpl ht hP hb
    have e : w = k_nK (nI a) := by omega
    subst e
    refine Or.inr ⟨us, m_zero sz (k_nK (nI a)) td, pl, ?_, ?_, hpl, hb, fun j _ => rfl, fun j hj => ?_, fun v hv => ?_, fun v hv => (hP v hv).2⟩
    · rw [k_nums, if_neg (by omega)]
    · rw [m_rdNums, if_neg (by omega)]
    · rw [m_zero_at sz _ _ _ _ rfl h4, if_neg (by omega)]
    · rw [m_zero_at sz _ _ _ _ rfl h4]
      by_cases h : v < k_nK (nI a)
      · rw [if_neg (by omega), if_pos h]
        exact (hP v h).1
      · rw [if_pos (by omega), if_neg h]
  | succ m ih =>
    intro w us td pl hm hw hpl ht hP hb
    have hwm : w < k_nK (nI a) := by omega
    have hw4 : w < 4 := by omega
    have uk : k_nums sg len (nI a) (k_nK (nI a)) w us (sz + 1) pl fn fp = (match k_readNumber sg len (nI a) (nI w) us (sz + 1) pl fn fp with
     | (true, us1, pl1, fn1, fp1) => (match k_readSign sg len (if w + 1 < k_nK (nI a) then 44 else 59) pl1 fn1 fp1 with
        | (true, pl2, fn2, fp2) => k_nums sg len (nI a) (k_nK (nI a)) (w + 1) us1 (sz + 1) pl2 fn2 fp2
        | (false, pl2, fn2, fp2) => (false, us1, pl2, fn2, fp2))
     | (false, us1, pl1, fn1, fp1) => (false, us1, pl1, fn1, fp1)) := by rw [k_nums, if_pos hwm]; rfl
    have um : m_rdNums sg len sz (k_nK (nI a)) w (some pl) td fn fp = (match m_rdNum sg len sz pl (nI w) (if w + 1 < k_nK (nI a) then 44 else 59) td fn fp with
      | (q1, td1, fl1, fa1) => m_rdNums sg len sz (k_nK (nI a)) (w + 1) q1 td1 fl1 fa1) := by rw [m_rdNums, if_pos hwm, sep_sim hwm h4]
    rw [uk, um]
    generalize hsep : (if w + 1 < k_nK (nI a) then (44 : Int32) else 59) = sep
    have hs1 : ¬ sep = -1 := by rw [← hsep]; split <;> decide
    have hs0 : ¬ sep = 0 := by rw [← hsep]; split <;> decide
    rcases num_sim sg len pl with ⟨n1, n2⟩ | ⟨v, hv, n1, n2, n3, n4⟩
    · refine Or.inl ⟨1, nI pl, us, pl, m_zero sz (k_nK (nI a)) td, ?_, ?_, hzo td⟩
      · rw [k_readNumber, n1, if_pos rfl]
      · rw [m_rdNum, n2, if_neg (by decide)]
        exact rdNums_none ..
    · have hj := judge_sim (us := us) (td := td) hsz ha hwm hv ht (fun h => by have := (hP 0 (by omega)).1; simpa using this)
      have hn1 : ¬ (nI v) = -1 := nI_m1 (by omega)
      by_cases hJ : m_wrong td sz (nI w) (nI v) = 0
      · have eR : k_readNumber sg len (nI a) (nI w) us (sz + 1) pl fn fp = (true, upd us (4 * sz + w) (nI v), m_after sg len pl, fn, fp) := by
          rw [k_readNumber, n1]
          show (if nI v = -1 then _ else if k_judge us (sz + 1) (nI a) (nI w) (nI v) = 0 then _ else _) = _
          rw [if_neg hn1, hj.1, if_pos hJ]
          show (true, k_setNumber us (sz + 1) (nI w) (nI v), m_after sg len pl, fn, fp) = _
          rw [set_at hsz hw4]
        rw [eR]
        show (_ : Prop) ∨ _
        rcases sign_sim sg len (m_after sg len pl) hs1 hs0 with ⟨s1, s2, s3⟩ | ⟨s1, s2⟩
        · have eS : k_readSign sg len sep (m_after sg len pl) fn fp = (true, m_after sg len pl + 1, fn, fp) := by rw [k_readSign, if_pos s1]
          have eM : m_rdNum sg len sz pl (nI w) sep td fn fp = (some (m_after sg len pl + 1), upd td (600 + 6 * sz + 2 + w) (nI v), fn, fp) := by
            rw [m_rdNum, n2, if_pos (nI_pos' (by omega)), hJ, if_pos (by decide), if_pos s2, ix_at hw4, ← Nat.add_assoc]
          rw [eM]
          dsimp only
          rw [eS]
          dsimp only
          have hP' : ∀ z, z < w + 1 → upd td (600 + 6 * sz + 2 + w) (nI v) (600 + 6 * sz + 2 + z) = upd us (4 * sz + w) (nI v) (4 * sz + z) ∧ ∃ c, c < 100 ∧ upd us (4 * sz + w) (nI v) (4 * sz + z) = nI c ∧ k_inRange (nI a) (nI z) (nI c) = true := by
            intro z hz
            by_cases hzw : z = w
            · subst hzw
              rw [pk_us, pk_us]
              refine ⟨rfl, v, hv, rfl, ?_⟩
              by_cases hR : k_inRange (nI a) (nI z) (nI v) = true
              · exact hR
              · exfalso
                have := hj.1
                rw [hJ, k_judge, if_neg hR] at this
                exact absurd this (by decide)
            · rw [pk_un (by omega), pk_un (by omega)]
              exact hP z (by omega)
          have hb' : base + dsm (upd us (4 * sz + w) (nI v)) (4 * sz) (w + 1) ≤ m_after sg len pl + 1 := by
            show base + (dsm (upd us (4 * sz + w) (nI v)) (4 * sz) w + dg (upd us (4 * sz + w) (nI v) (4 * sz + w)) + 1) ≤ _
            rw [dsm_eq (us := us) w (fun j hj => pk_un (by omega)), pk_us, dg_nI hv]
            omega
          rcases ih (w + 1) (upd us (4 * sz + w) (nI v)) (upd td (600 + 6 * sz + 2 + w) (nI v)) (m_after sg len pl + 1) (by omega) (by omega) (by omega) (by rw [pk_un (by omega)]; exact ht) hP' hb' with ⟨f, p, us', pl', td', r1, r2, r3⟩ | ⟨us', td', pl', r1, r2, r3, r4, r5, r6, r7⟩
          · refine Or.inl ⟨f, p, us', pl', td', r1, r2, fun j hj => ?_⟩
            rw [r3 j hj, pk_un (by omega)]
          · refine Or.inr ⟨us', td', pl', r1, r2, r3, r4, fun j hj => ?_, fun j hj => ?_, r7⟩
            · rw [r5 j hj, pk_un (by omega)]
            · rw [r6 j hj, pk_un (by omega)]
        · have eS : k_readSign sg len sep (m_after sg len pl) fn fp = (false, m_after sg len pl, 1, nI (m_after sg len pl)) := by rw [k_readSign, if_neg s1]
          have eM : m_rdNum sg len sz pl (nI w) sep td fn fp = (none, upd td (600 + 6 * sz + 2 + w) (nI v), 1, nI (m_after sg len pl)) := by
            rw [m_rdNum, n2, if_pos (nI_pos' (by omega)), hJ, if_pos (by decide), if_neg s2, ix_at hw4, ← Nat.add_assoc]
          rw [eM]
          dsimp only
          rw [eS]
          dsimp only
          refine Or.inl ⟨1, nI (m_after sg len pl), _, _, _, rfl, rdNums_none .., fun j hj => ?_⟩
          rw [hzo _ j hj, pk_un (by omega)]
      · have eR : k_readNumber sg len (nI a) (nI w) us (sz + 1) pl fn fp = (false, us, m_after sg len pl, m_wrong td sz (nI w) (nI v), nI pl) := by
          rw [k_readNumber, n1]
          show (if nI v = -1 then _ else if k_judge us (sz + 1) (nI a) (nI w) (nI v) = 0 then _ else _) = _
          rw [if_neg hn1, hj.1, if_neg hJ]
        have eM : m_rdNum sg len sz pl (nI w) sep td fn fp = (none, td, m_wrong td sz (nI w) (nI v), nI pl) := by
          rw [m_rdNum, n2, if_pos (nI_pos' (by omega)), if_neg]
          rcases hj.2 with z | z | z
          · exact absurd z hJ
          · rw [z]; decide
          · rw [z]; decide
        rw [eR, eM]
        dsimp only
        exact Or.inl ⟨_, _, _, _, _, rfl, rdNums_none .., hzo td⟩
