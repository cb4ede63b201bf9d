/-! ROWS, and the whole text, read by class and reference alike -/
theorem full_sim {sz : Nat} (h : sz ≤ 50) : (k_isFull sz = true ∧ sz = 50) ∨ (k_isFull sz = false ∧ sz < 50) := by
  unfold k_isFull
  by_cases h1 : sz < 50
  · exact Or.inr ⟨by rw [if_pos h1], h1⟩
  · exact Or.inl ⟨by rw [if_neg h1], by omega⟩
theorem row_sim (sg : Nat → Int32) (len : Nat) (fn fp : Int32) (ks ns us td : Nat → Int32) (sz pl : Nat) (hsz : sz ≤ 50) (hpl : pl < len) (hR : rowsAt ks ns us sz td 600) (hG : goodAt ks ns us sz) (hO : onceAt ks ns sz) (hS : psm ks ns us sz ≤ pl) :
    (∃ f p ks' ns' us' sz' pl' td', k_readRow sg len ks ns us sz pl fn fp = (false, ks', ns', us', sz', pl', f, p) ∧ m_rdRow sg len sz pl td fn fp = (none, td', f, p) ∧ ∀ j, j < 600 → td' j = td j) ∨
    (∃ ks' ns' us' td' pl', k_readRow sg len ks ns us sz pl fn fp = (true, ks', ns', us', sz + 1, pl', fn, fp) ∧ m_rdRow sg len sz pl td fn fp = (some pl', td', fn, fp) ∧ sz < 50 ∧ pl < pl' ∧ pl' ≤ len ∧ rowsAt ks' ns' us' (sz + 1) td' 600 ∧ goodAt ks' ns' us' (sz + 1) ∧ onceAt ks' ns' (sz + 1) ∧ psm ks' ns' us' (sz + 1) ≤ pl' ∧ ∀ j, j < 600 → td' j = td j) := by
  have es : k_sign sg len pl = sg pl := by rw [k_sign, if_pos hpl]
  rw [k_readRow, es, m_rdRow]
  rcases kind_sim (sg pl) with ⟨k1, k2⟩ | ⟨kd, hkd, k1, k2⟩
  · rw [if_pos k1, k2]
    exact Or.inl ⟨1, nI pl, ks, ns, us, sz, pl, td, rfl, rfl, fun _ _ => rfl⟩
  · rw [k1, if_neg (nI_m1 (by omega)), k2]
    dsimp only
    rcases full_sim hsz with ⟨f1, f2⟩ | ⟨f1, f2⟩
    · rw [if_pos f1, if_pos f2]
      exact Or.inl ⟨5, nI pl, ks, ns, us, sz, pl, td, rfl, rfl, fun _ _ => rfl⟩
    · rw [if_neg (by rw [f1]; decide), if_neg (by omega)]
      obtain ⟨hN1, hN2, hN3⟩ := nK_sim kd hkd
      have ho : ∀ (z : Nat → Int32) (j : Nat), j < 600 → m_zero sz (k_nK (nI kd)) z j = z j := fun z j hj => by
        rw [m_zero_at sz _ _ _ _ rfl hN3, if_neg (by omega)]
      rcases num_sim sg len (pl + 1) with ⟨n1, n2⟩ | ⟨v, hv, n1, n2, n3, n4⟩
      · have e1 : k_readName sg len (nI kd) ks ns us sz (pl + 1) fn fp = (false, ks, ns, us, sz, pl + 1, 1, nI (pl + 1)) := by
          rw [k_readName, n1, if_pos rfl]
        have e2 : m_rdNum sg len sz (pl + 1) (-1) 61 (upd td (600 + 6 * sz) (nI kd)) fn fp = (none, upd td (600 + 6 * sz) (nI kd), 1, nI (pl + 1)) := by
          rw [m_rdNum, n2, if_neg (by decide)]
        rw [e1, e2]
        dsimp only
        refine Or.inl ⟨_, _, _, _, _, _, _, _, rfl, rdNums_none .., fun j hj => ?_⟩
        rw [← hN1, ho _ j hj, pk_un (by omega)]
      · have hn1 : ¬ (nI v) = -1 := nI_m1 (by omega)
        have hrow : ∀ k, k < sz → upd td (600 + 6 * sz) (nI kd) (600 + 6 * k) = ks k ∧ upd td (600 + 6 * sz) (nI kd) (600 + 6 * k + 1) = ns k := fun k hk => by
          rw [pk_un (by omega), pk_un (by omega)]
          exact ⟨(hR k hk).1, (hR k hk).2.1⟩
        have ew : m_wrong (upd td (600 + 6 * sz) (nI kd)) sz (-1) (nI v) = if (m_find (upd td (600 + 6 * sz) (nI kd)) 600 sz (nI kd) (nI v) 0 none).isSome = true then 2 else 0 := by
          rw [m_wrong, if_neg (by decide), pk_us]
        rcases find_sim hrow hO (nI kd) (nI v) with ⟨g1, g2, g3⟩ | ⟨i, hi, gk, gn, g1, g2⟩
        · have hW : m_wrong (upd td (600 + 6 * sz) (nI kd)) sz (-1) (nI v) = 0 := by rw [ew, g2]; rfl
          have e1 : k_readName sg len (nI kd) ks ns us sz (pl + 1) fn fp = (true, upd ks sz (nI kd), upd ns sz (nI v), us, sz + 1, m_after sg len (pl + 1), fn, fp) := by
            rw [k_readName, n1]
            show (if nI v = -1 then _ else if k_indexOf ks ns (nI kd) (nI v) sz 0 = -1 then _ else _) = _
            rw [if_neg hn1, if_pos g1]
            have eb : k_begin ks ns sz (nI kd) (nI v) = (upd ks sz (nI kd), upd ns sz (nI v), sz + 1) := by rw [k_begin, if_neg (by rw [f1]; decide)]
            show (true, (k_begin ks ns sz (nI kd) (nI v)).1, (k_begin ks ns sz (nI kd) (nI v)).2.1, us, (k_begin ks ns sz (nI kd) (nI v)).2.2, m_after sg len (pl + 1), fn, fp) = _
            rw [eb]
          have ei : m_ix (-1) = 1 := by decide
          rw [e1]
          dsimp only
          rcases sign_sim sg len (m_after sg len (pl + 1)) (want := 61) (by decide) (by decide) with ⟨s1, s2, s3⟩ | ⟨s1, s2⟩
          · have eS : k_readSign sg len 61 (m_after sg len (pl + 1)) fn fp = (true, m_after sg len (pl + 1) + 1, fn, fp) := by rw [k_readSign, if_pos s1]
            have eM : m_rdNum sg len sz (pl + 1) (-1) 61 (upd td (600 + 6 * sz) (nI kd)) fn fp = (some (m_after sg len (pl + 1) + 1), upd (upd td (600 + 6 * sz) (nI kd)) (600 + 6 * sz + 1) (nI v), fn, fp) := by
              rw [m_rdNum, n2, if_pos (nI_pos' (by omega)), hW, if_pos (by decide), if_pos s2, ei]
            rw [eS, eM]
            dsimp only
            rw [← hN1]
            generalize hTD : upd (upd td (600 + 6 * sz) (nI kd)) (600 + 6 * sz + 1) (nI v) = td2
            have t0 : td2 (600 + 6 * sz) = nI kd := by rw [← hTD, pk_un (by omega), pk_us]
            have t1 : td2 (600 + 6 * sz + 1) = nI v := by rw [← hTD, pk_us]
            have t2 : ∀ j, j < 600 + 6 * sz → td2 j = td j := fun j hj => by rw [← hTD, pk_un (by omega), pk_un (by omega)]
            have hdg := dg_nI hv
            rcases nums_sim sg len sz f2 hkd (m_after sg len (pl + 1) + 1) fn fp _ 0 us td2 (m_after sg len (pl + 1) + 1) rfl (Nat.zero_le _) (by omega) t0 (fun z hz => absurd hz (Nat.not_lt_zero _)) (Nat.le_refl _) with ⟨f, p, us', pl', td', r1, r2, r3⟩ | ⟨us', td', pl', r1, r2, r3, r4, r5, r6, r7, r8⟩
            · rw [r1, r2]
              refine Or.inl ⟨f, p, _, _, _, _, _, td', rfl, rfl, fun j hj => ?_⟩
              rw [r3 j hj, t2 j (by omega)]
            · rw [r1, r2]
              have hk1 : ∀ k, k < sz → upd ks sz (nI kd) k = ks k ∧ upd ns sz (nI v) k = ns k ∧ ∀ w, w < 4 → us' (4 * k + w) = us (4 * k + w) := fun k hk => ⟨pk_un (by omega), pk_un (by omega), fun w hw => r5 _ (by omega)⟩
              refine Or.inr ⟨upd ks sz (nI kd), upd ns sz (nI v), us', td', pl', rfl, rfl, f2, ?_, r3, ?_, ?_, ?_, ?_, fun j hj => ?_⟩
              · omega
              · intro k hk
                by_cases hks : k = sz
                · subst hks
                  rw [pk_us, pk_us, r6 _ (by omega), r6 _ (by omega)]
                  exact ⟨t0, t1, r7⟩
                · obtain ⟨h1, h2, h3⟩ := hk1 k (by omega)
                  obtain ⟨h4, h5, h6⟩ := hR k (by omega)
                  rw [h1, h2, r6 _ (by omega), r6 _ (by omega), t2 _ (by omega), t2 _ (by omega)]
                  refine ⟨h4, h5, fun w hw => ?_⟩
                  rw [r6 _ (by omega), t2 _ (by omega), h3 w hw]
                  exact h6 w hw
              · intro k hk
                by_cases hks : k = sz
                · subst hks
                  rw [pk_us, pk_us]
                  exact ⟨⟨kd, hkd, rfl⟩, ⟨v, hv, rfl⟩, r8⟩
                · obtain ⟨h1, h2, h3⟩ := hk1 k (by omega)
                  obtain ⟨h4, h5, h6⟩ := hG k (by omega)
                  rw [h1, h2]
                  refine ⟨h4, h5, fun w hw => ?_⟩
                  rw [h3 w (by have := k_nK_le (ks k); omega)]
                  exact h6 w hw
              · intro i j hi hj hij hij2
                by_cases his : i = sz
                · by_cases hjs : j = sz
                  · omega
                  · exfalso
                    subst his
                    rw [pk_us, pk_un hjs] at hij hij2
                    exact g3 j (by omega) ⟨hij.symm, hij2.symm⟩
                · by_cases hjs : j = sz
                  · exfalso
                    subst hjs
                    rw [pk_us, pk_un his] at hij hij2
                    exact g3 i (by omega) ⟨hij, hij2⟩
                  · rw [pk_un his, pk_un hjs] at hij hij2
                    exact hO i j (by omega) (by omega) hij hij2
              · show psm (upd ks sz (nI kd)) (upd ns sz (nI v)) us' sz + plen (upd ks sz (nI kd)) (upd ns sz (nI v)) us' sz ≤ pl'
                rw [psm_eq (ks := ks) (ns := ns) (us := us) sz hk1]
                unfold plen
                rw [pk_us, pk_us, hdg]
                omega
              · rw [r6 j (by omega), t2 j (by omega)]
          · have eS : k_readSign sg len 61 (m_after sg len (pl + 1)) fn fp = (false, m_after sg len (pl + 1), 1, nI (m_after sg len (pl + 1))) := by rw [k_readSign, if_neg s1]
            have eM : m_rdNum sg len sz (pl + 1) (-1) 61 (upd td (600 + 6 * sz) (nI kd)) fn fp = (none, upd (upd td (600 + 6 * sz) (nI kd)) (600 + 6 * sz + 1) (nI v), 1, nI (m_after sg len (pl + 1))) := by
              rw [m_rdNum, n2, if_pos (nI_pos' (by omega)), hW, if_pos (by decide), if_neg s2, ei]
            rw [eS, eM]
            dsimp only
            refine Or.inl ⟨_, _, _, _, _, _, _, _, rfl, rdNums_none .., fun j hj => ?_⟩
            rw [← hN1, ho _ j hj, pk_un (by omega), pk_un (by omega)]
        · have hW : m_wrong (upd td (600 + 6 * sz) (nI kd)) sz (-1) (nI v) = 2 := by rw [ew, g2]; rfl
          have e1 : k_readName sg len (nI kd) ks ns us sz (pl + 1) fn fp = (false, ks, ns, us, sz, m_after sg len (pl + 1), 2, nI (pl + 1)) := by
            rw [k_readName, n1]
            show (if nI v = -1 then _ else if k_indexOf ks ns (nI kd) (nI v) sz 0 = -1 then _ else _) = _
            rw [if_neg hn1, if_neg (by rw [g1]; exact nI_m1 (by omega))]
          have e2 : m_rdNum sg len sz (pl + 1) (-1) 61 (upd td (600 + 6 * sz) (nI kd)) fn fp = (none, upd td (600 + 6 * sz) (nI kd), 2, nI (pl + 1)) := by
            rw [m_rdNum, n2, if_pos (nI_pos' (by omega)), hW, if_neg (by decide)]
          rw [e1, e2]
          dsimp only
          refine Or.inl ⟨_, _, _, _, _, _, _, _, rfl, rdNums_none .., fun j hj => ?_⟩
          rw [← hN1, ho _ j hj, pk_un (by omega)]
theorem rows_none (tx : Nat → Int32) (sn : Nat) (f cm : Nat) (td : Nat → Int32) (fl fa : Int32) : m_rows tx sn f none cm td fl fa = (none, cm, td, fl, fa) := by
  cases f <;> rfl
theorem rows_false (sg : Nat → Int32) (len row : Nat) (ks ns us : Nat → Int32) (sz pl : Nat) (fn fp : Int32) : k_rows sg len row false ks ns us sz pl fn fp = (false, ks, ns, us, sz, pl, fn, fp) := by
  rw [k_rows]
  split
  · rfl
  · rfl
theorem rows_sim (sg : Nat → Int32) (len : Nat) (fn fp : Int32) : ∀ f (ks ns us td : Nat → Int32) (sz pl : Nat), len - pl < f → sz ≤ 50 → pl ≤ len → rowsAt ks ns us sz td 600 → goodAt ks ns us sz → onceAt ks ns sz → psm ks ns us sz ≤ pl →
    (∃ fl fa ks' ns' us' sz' pl' cm td', k_rows sg len sz true ks ns us sz pl fn fp = (false, ks', ns', us', sz', pl', fl, fa) ∧ m_rows sg len f (some pl) sz td fn fp = (none, cm, td', fl, fa) ∧ cm ≤ 50 ∧ ∀ j, j < 600 → td' j = td j) ∨
    (∃ ks' ns' us' sz' pl' n' td', k_rows sg len sz true ks ns us sz pl fn fp = (true, ks', ns', us', sz', pl', fn, fp) ∧ m_rows sg len f (some pl) sz td fn fp = (some n', sz', td', fn, fp) ∧ sz' ≤ 50 ∧ rowsAt ks' ns' us' sz' td' 600 ∧ goodAt ks' ns' us' sz' ∧ onceAt ks' ns' sz' ∧ psm ks' ns' us' sz' ≤ len ∧ ∀ j, j < 600 → td' j = td j) := by
  intro f
  induction f with
  | zero => intro ks ns us td sz pl h; exact absurd h (Nat.not_lt_zero _)
  | succ f ih =>
    intro ks ns us td sz pl hf hsz hpl hR hG hO hS
    have uk : k_rows sg len sz true ks ns us sz pl fn fp = if pl < len then (match k_readRow sg len ks ns us sz pl fn fp with
     | (b, ks1, ns1, us1, sz1, pl1, fn1, fp1) => k_rows sg len (sz + 1) b ks1 ns1 us1 sz1 pl1 fn1 fp1) else (true, ks, ns, us, sz, pl, fn, fp) := by
      rw [k_rows, if_neg (by omega), if_neg (by decide)]
    have um : m_rows sg len (f + 1) (some pl) sz td fn fp = if pl < len then (match m_rdRow sg len sz pl td fn fp with
        | (none, td1, fl1, fa1) => m_rows sg len f none sz td1 fl1 fa1
        | (some n1, td1, fl1, fa1) => m_rows sg len f (some n1) (sz + 1) td1 fl1 fa1) else (some pl, sz, td, fn, fp) := rfl
    rw [uk, um]
    by_cases hp : pl < len
    · rw [if_pos hp, if_pos hp]
      rcases row_sim sg len fn fp ks ns us td sz pl hsz hp hR hG hO hS with ⟨f', p, ks', ns', us', sz', pl', td', r1, r2, r3⟩ | ⟨ks', ns', us', td', pl', r1, r2, r3, r4, r5, r6, r7, r8, r9, r10⟩
      · rw [r1, r2]
        dsimp only
        rw [rows_none, rows_false]
        exact Or.inl ⟨_, _, _, _, _, _, _, _, _, rfl, rfl, hsz, r3⟩
      · rw [r1, r2]
        dsimp only
        rcases ih ks' ns' us' td' (sz + 1) pl' (by omega) (by omega) r5 r6 r7 r8 r9 with ⟨fl, fa, ks2, ns2, us2, sz2, pl2, cm, td2, q1, q2, q3, q4⟩ | ⟨ks2, ns2, us2, sz2, pl2, n2, td2, q1, q2, q3, q4, q5, q6, q7, q8⟩
        · exact Or.inl ⟨fl, fa, ks2, ns2, us2, sz2, pl2, cm, td2, q1, q2, q3, fun j hj => (q4 j hj).trans (r10 j hj)⟩
        · exact Or.inr ⟨ks2, ns2, us2, sz2, pl2, n2, td2, q1, q2, q3, q4, q5, q6, q7, fun j hj => (q8 j hj).trans (r10 j hj)⟩
    · rw [if_neg hp, if_neg hp]
      exact Or.inr ⟨ks, ns, us, sz, pl, pl, td, rfl, rfl, hsz, hR, hG, hO, by omega, fun _ _ => rfl⟩
theorem copy_at (fr to n : Nat) (hd : to + 6 * n ≤ fr ∨ fr + 6 * n ≤ to) : ∀ m k (td : Nat → Int32) (j : Nat), 6 * n - k = m → k ≤ 6 * n → m_copy fr to n k td j = if to + k ≤ j ∧ j < to + 6 * n then td (fr + (j - to)) else td j := by
  intro m
  induction m with
  | zero =>
    intro k td j hm hk
    rw [m_copy, if_neg (by omega), if_neg (by omega)]
  | succ m ih =>
    intro k td j hm hk
    rw [m_copy, if_pos (by omega), ih (k + 1) _ j (by omega) (by omega)]
    by_cases h1 : j = to + k
    · rw [if_neg (by omega), if_pos (by omega), h1, pk_us]
      congr 1
      omega
    · by_cases h2 : to + k ≤ j ∧ j < to + 6 * n
      · rw [if_pos (by omega), if_pos h2, pk_un (by omega)]
      · rw [if_neg (by omega), if_neg h2, pk_un h1]
theorem rows_moved {ks ns us td td' : Nat → Int32} {n o o' : Nat} (h : rowsAt ks ns us n td o) (he : ∀ j, j < 6 * n → td' (o' + j) = td (o + j)) : rowsAt ks ns us n td' o' := by
  intro k hk
  obtain ⟨h1, h2, h3⟩ := h k hk
  refine ⟨by rw [he (6 * k) (by omega)]; exact h1, ?_, fun w hw => ?_⟩
  · rw [Nat.add_assoc, he (6 * k + 1) (by omega), ← Nat.add_assoc]; exact h2
  · rw [show o' + 6 * k + 2 + w = o' + (6 * k + 2 + w) by omega, he (6 * k + 2 + w) (by omega), show o + (6 * k + 2 + w) = o + 6 * k + 2 + w by omega]
    exact h3 w hw
/-- the whole text -/
theorem read_sim (sg : Nat → Int32) (len : Nat) (ksd nsd usd td : Nat → Int32) (pn : Nat) :
    (∃ fl fa ks' ns' us' sz' pl' cm td', k_readAll sg len ksd nsd usd = (false, ks', ns', us', sz', pl', fl, fa) ∧ m_read sg len td pn = (0, 1, pn, cm, td', fl, fa) ∧ cm ≤ 50 ∧ ∀ j, j < 600 → td' j = td j) ∨
    (∃ ks' ns' us' sz' pl' fl fa td', k_readAll sg len ksd nsd usd = (true, ks', ns', us', sz', pl', fl, fa) ∧ m_read sg len td pn = (nI sz', 0, sz', sz', td', fl, fa) ∧ sz' ≤ 50 ∧ rowsAt ks' ns' us' sz' td' 0 ∧ goodAt ks' ns' us' sz' ∧ onceAt ks' ns' sz' ∧ psm ks' ns' us' sz' ≤ len ∧ ∀ j, 300 ≤ j → j < 600 → td' j = td j) := by
  have h0 : ∀ k, k < 0 → False := fun k h => absurd h (Nat.not_lt_zero _)
  rcases rows_sim sg len 0 (-1) (len + 1) ksd nsd usd td 0 0 (by omega) (by omega) (by omega) (fun k hk => (h0 k hk).elim) (fun k hk => (h0 k hk).elim) (fun i j hi => (h0 i hi).elim) (Nat.le_refl _) with ⟨fl, fa, ks', ns', us', sz', pl', cm, td', r1, r2, r3, r4⟩ | ⟨ks', ns', us', sz', pl', n', td', r1, r2, r3, r4, r5, r6, r7, r8⟩
  · refine Or.inl ⟨fl, fa, ks', ns', us', sz', pl', cm, td', r1, ?_, r3, r4⟩
    rw [m_read, r2]
  · have hc := fun j => copy_at 600 0 sz' (Or.inl (by omega)) (6 * sz' - 0) 0 td' j rfl (by omega)
    refine Or.inr ⟨ks', ns', us', sz', pl', 0, -1, m_copy 600 0 sz' 0 td', r1, ?_, r3, ?_, r5, r6, r7, fun j h1 h2 => ?_⟩
    · rw [m_read, r2]
    · refine rows_moved r4 (fun j hj => ?_)
      rw [hc (0 + j), if_pos (by omega)]
      congr 1
      omega
    · rw [hc j, if_neg (by omega)]
      exact r8 j h2
