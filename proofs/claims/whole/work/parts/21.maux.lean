/-! AUXILIARIES for the reference -/
theorem le_nlt {x y : Int32} (h : x ≤ y) : ¬ y < x := fun z => by
  rw [Int32.lt_iff_toInt_lt] at z
  rw [Int32.le_iff_toInt_le] at h
  omega
theorem nge_lt {x y : Int32} (h : ¬ y ≤ x) : x < y := nle_lt h
theorem oI_some {r : Option Nat} (h : ¬ oI r < 0) : ∃ n, r = some n := by
  cases r with
  | none => exact absurd (by decide) h
  | some n => exact ⟨n, rfl⟩
theorem oI_neg {r : Option Nat} {b : Nat} (h : oI r < 0) (hb : ∀ n, r = some n → n < b) (hbb : b < 2 ^ 31) : r = none := by
  cases r with
  | none => rfl
  | some n => exact absurd h (nI_pos (Nat.lt_trans (hb n rfl) hbb))
theorem m_kindF_ind (c : Int32) : ∀ (n k : Nat) (f : Option Nat), 6 - k = n → (∀ j, f = some j → j < 6) → ∀ j, m_kindF c k f = some j → j < 6 := by
  intro n
  induction n with
  | zero => intro k f hn hf j hj; rw [m_kindF, if_neg (by omega)] at hj; exact hf j hj
  | succ n ih =>
    intro k f hn hf j hj
    rw [m_kindF, if_pos (by omega)] at hj
    split at hj
    · exact ih (k + 1) _ (by omega) (fun j h => by cases h; omega) j hj
    · exact ih (k + 1) _ (by omega) hf j hj
theorem m_kindF_lt {c : Int32} {n : Nat} (h : m_kindF c 0 none = some n) : n < 6 := m_kindF_ind c _ 0 none rfl (fun _ h => by cases h) n h
theorem m_find_ind (td : Nat → Int32) (first N : Nat) (kind name : Int32) : ∀ (n k : Nat) (f : Option Nat), N - k = n → (∀ j, f = some j → j < N) → ∀ j, m_find td first N kind name k f = some j → j < N := by
  intro n
  induction n with
  | zero => intro k f hn hf j hj; rw [m_find, if_neg (by omega)] at hj; exact hf j hj
  | succ n ih =>
    intro k f hn hf j hj
    rw [m_find, if_pos (by omega)] at hj
    split at hj
    · split at hj
      · exact ih (k + 1) _ (by omega) (fun j h => by cases h; omega) j hj
      · exact ih (k + 1) _ (by omega) hf j hj
    · exact ih (k + 1) _ (by omega) hf j hj
theorem m_find_lt {td : Nat → Int32} {first N : Nat} {kind name : Int32} {n : Nat} (h : m_find td first N kind name 0 none = some n) : n < N := m_find_ind td first N kind name _ 0 none rfl (fun _ h => by cases h) n h
theorem sw5 (p : Int32) : p = 0 ∨ p = 1 ∨ p = 2 ∨ p = 3 ∨ p = 4 ∨ (¬ p = 0 ∧ ¬ p = 1 ∧ ¬ p = 2 ∧ ¬ p = 3 ∧ ¬ p = 4 ∧ (p.toInt < 0 ∨ 4 < p.toInt)) := by
  by_cases h0 : p = 0
  · exact Or.inl h0
  by_cases h1 : p = 1
  · exact Or.inr (Or.inl h1)
  by_cases h2 : p = 2
  · exact Or.inr (Or.inr (Or.inl h2))
  by_cases h3 : p = 3
  · exact Or.inr (Or.inr (Or.inr (Or.inl h3)))
  by_cases h4 : p = 4
  · exact Or.inr (Or.inr (Or.inr (Or.inr (Or.inl h4))))
  refine Or.inr (Or.inr (Or.inr (Or.inr (Or.inr ⟨h0, h1, h2, h3, h4, ?_⟩))))
  have g0 : ¬ p.toInt = 0 := fun z => h0 (Int32.toInt_inj.mp (z.trans (by decide)))
  have g1 : ¬ p.toInt = 1 := fun z => h1 (Int32.toInt_inj.mp (z.trans (by decide)))
  have g2 : ¬ p.toInt = 2 := fun z => h2 (Int32.toInt_inj.mp (z.trans (by decide)))
  have g3 : ¬ p.toInt = 3 := fun z => h3 (Int32.toInt_inj.mp (z.trans (by decide)))
  have g4 : ¬ p.toInt = 4 := fun z => h4 (Int32.toInt_inj.mp (z.trans (by decide)))
  omega
theorem ok_in {x : Int32} {N : Nat} (h : ∃ a, a < N ∧ x = nI a) (hN : N < 2 ^ 31) : vp_in x N := by
  obtain ⟨a, ha, rfl⟩ := h
  exact vp_in_nI ha hN
theorem ok_2 {td : Nat → Int32} {i : Nat} (h : m_okr td i) (h2 : td i = 2) : vp_in (td (i + 2)) 16 := ok_in (h.2.2.2.2.2.2.2.2 h2) (by decide)
theorem m_nums_le (k : Int32) : m_nums k ≤ 4 := by
  unfold m_nums
  split
  · split <;> decide
  · decide
theorem m_nums_pos (k : Int32) : 0 < m_nums k := by
  unfold m_nums
  split
  · split <;> decide
  · decide
abbrev m_hi (i : Int32) : Prop := i = -1 ∨ ∃ j, j < 4 ∧ i = nI j
theorem m_ix_le {i : Int32} (h : m_hi i) : 1 ≤ m_ix i ∧ m_ix i ≤ 5 := by
  rcases h with rfl | ⟨j, hj, rfl⟩
  · decide
  · unfold m_ix
    split
    · omega
    · rw [nI_clamp (by omega)]
      omega
theorem nI_ne_m1 {j : Nat} (h : j < 2 ^ 31) : ¬ nI j = -1 := fun z => by
  have h1 := nI_pos h
  rw [z] at h1
  exact h1 (by decide)
theorem ix_add {i : Int32} (h : m_hi i) (a : Nat) : nI (a + 2) + i = nI (a + m_ix i) := by
  rcases h with rfl | ⟨j, hj, rfl⟩
  · rw [show m_ix (-1) = 1 from rfl, show a + 2 = (a + 1) + 1 from rfl, show nI (a + 1 + 1) + (-1) = nI (a + 1 + 1) - 1 from by rw [Int32.sub_eq_add_neg]]
    exact nI_pred (a + 1)
  · rw [nI_add]
    unfold m_ix
    rw [if_neg (nI_ne_m1 (by omega)), nI_clamp (by omega), Nat.add_assoc]
theorem m_sg_lt {tx : Nat → Int32} {sn q : Nat} {b : Int32} (h : m_signAt tx sn q = b) (hb : ¬ b = 0) : q < sn := by
  by_cases hq : q < sn
  · exact hq
  · rw [m_signAt, if_neg hq] at h
    exact absurd h.symm hb
theorem m_after_le (tx : Nat → Int32) (sn q : Nat) : q < m_after tx sn q ∧ m_after tx sn q ≤ q + 2 := by
  unfold m_after
  split <;> omega
theorem m_rdNum_le {tx : Nat → Int32} {sn cm q : Nat} {i b : Int32} {td : Nat → Int32} {fl fa : Int32} {r : Option Nat} {td1 : Nat → Int32} {fl1 fa1 : Int32} (hF : m_rdNum tx sn cm q i b td fl fa = (r, td1, fl1, fa1)) (hb : ¬ b = 0) : ∀ n, r = some n → q < n ∧ n ≤ sn := by
  intro n hn
  subst hn
  unfold m_rdNum at hF
  split at hF
  · split at hF
    · split at hF
      · rename_i h1
        have h2 := m_sg_lt h1 hb
        have h3 := m_after_le tx sn q
        cases hF
        omega
      · cases hF
    · cases hF
  · cases hF
theorem m_rdNums_le (tx : Nat → Int32) (sn cm many q0 : Nat) : ∀ (m k : Nat) (q : Option Nat) (td : Nat → Int32) (fl fa : Int32), many - k = m → (∀ n, q = some n → q0 < n ∧ n ≤ sn) → ∀ n, (m_rdNums tx sn cm many k q td fl fa).1 = some n → q0 < n ∧ n ≤ sn := by
  intro m
  induction m with
  | zero =>
    intro k q td fl fa hm hq n hn
    rw [m_rdNums.eq_def, if_neg (by omega)] at hn
    exact hq n hn
  | succ m ih =>
    intro k q td fl fa hm hq n hn
    rw [m_rdNums.eq_def, if_pos (by omega)] at hn
    cases q with
    | none => cases hn
    | some n0 =>
      have h0 := hq n0 rfl
      rcases hF : m_rdNum tx sn cm n0 (nI k) (if nI k = nI many - 1 then 59 else 44) td fl fa with ⟨q1, td1, fl1, fa1⟩
      have h1 := m_rdNum_le hF (by split <;> decide)
      simp only [hF] at hn
      refine ih (k + 1) q1 td1 fl1 fa1 (by omega) (fun n2 h2 => ?_) n hn
      have h3 := h1 n2 h2
      omega
theorem m_rdRow_le {tx : Nat → Int32} {sn cm q : Nat} {td : Nat → Int32} {fl fa : Int32} {r : Option Nat} {td1 : Nat → Int32} {fl1 fa1 : Int32} (hF : m_rdRow tx sn cm q td fl fa = (r, td1, fl1, fa1)) : ∀ n, r = some n → q < n ∧ n ≤ sn ∧ ¬ cm = 50 := by
  intro n hn
  subst hn
  unfold m_rdRow at hF
  split at hF
  · cases hF
  · split at hF
    · cases hF
    · rename_i hc
      rename_i kd hk
      rcases hG : m_rdNum tx sn cm (q + 1) (-1) 61 (upd td (600 + 6 * cm) (nI kd)) fl fa with ⟨q1, td2, fl2, fa2⟩
      simp only [hG] at hF
      have h1 := m_rdNum_le hG (by decide)
      have h2 := m_rdNums_le tx sn cm (m_nums (nI kd)) q _ 0 q1 td2 fl2 fa2 rfl (fun n2 h2 => by have h3 := h1 n2 h2; omega) n (by rw [hF])
      exact ⟨h2.1, h2.2, hc⟩
theorem m_rows_none (tx : Nat → Int32) (sn f cm : Nat) (td : Nat → Int32) (fl fa : Int32) : m_rows tx sn f none cm td fl fa = (none, cm, td, fl, fa) := by
  cases f <;> rfl
theorem m_rows_end (tx : Nat → Int32) (sn f n cm : Nat) (td : Nat → Int32) (fl fa : Int32) (h : ¬ n < sn) : m_rows tx sn f (some n) cm td fl fa = (some n, cm, td, fl, fa) := by
  cases f
  · rfl
  · rw [m_rows]
    simp [h]
theorem ok_at {td : Nat → Int32} {n i : Nat} (h : m_ok td n) (h6 : i % 6 = 0) (hi : i < 6 * n) : m_okr td i := by
  have h1 := h (i / 6) (by omega)
  rw [show 6 * (i / 6) = i by omega] at h1
  exact h1
theorem in01 {w : Int32} (h : m_in w 0 1 = true) : ∃ j, j ≤ 1 ∧ w = nI j := by
  unfold m_in at h
  split at h
  · cases h
  · rename_i h1
    split at h
    · cases h
    · rename_i h2
      obtain ⟨j, hj, rfl⟩ := nat_of (n := 2) (by decide) h1 (fun z => h2 (by rw [Int32.le_iff_toInt_le] at z; rw [Int32.lt_iff_toInt_lt]; exact Int.lt_of_lt_of_le (by decide) z))
      exact ⟨j, by omega, rfl⟩
theorem nat_le {x : Int32} {n : Nat} (hn : n + 1 < 2 ^ 31) (h1 : ¬ x < 0) (h2 : x ≤ nI n) : ∃ j, j ≤ n ∧ x = nI j := by
  obtain ⟨j, hj, rfl⟩ := nI_of h1
  exact ⟨j, (nI_leI hj (by omega)).mp h2, rfl⟩
theorem m_puts_le (pr : Nat → Int32) (q : Nat) (v c : Int32) : (m_puts pr q v c).2 ≤ q + 3 := by
  unfold m_puts
  split
  · show q + 2 ≤ q + 3
    omega
  · show q + 1 + 2 ≤ q + 3
    omega
theorem m_prNums_le (td : Nat → Int32) (i many : Nat) (hm : many ≤ 4) : ∀ (m k : Nat) (pr : Nat → Int32) (q : Nat), many - k = m → k ≤ many → q ≤ 4 + 3 * k → (m_prNums td i many k pr q).2 ≤ 16 := by
  intro m
  induction m with
  | zero =>
    intro k pr q hk hk2 hq
    rw [m_prNums, if_neg (by omega)]
    show q ≤ 16
    omega
  | succ m ih =>
    intro k pr q hk hk2 hq
    rw [m_prNums, if_pos (by omega)]
    have h1 := m_puts_le pr q (td (6 * i + 2 + k)) (if nI k = nI many - 1 then 59 else 44)
    rcases hF : m_puts pr q (td (6 * i + 2 + k)) (if nI k = nI many - 1 then 59 else 44) with ⟨pr1, q1⟩
    rw [hF] at h1
    have h1 : q1 ≤ q + 3 := h1
    exact ih (k + 1) pr1 q1 (by omega) (by omega) (by omega)
theorem m_prints_le (td : Nat → Int32) (i : Nat) (pr : Nat → Int32) : (m_prints td i pr).2 ≤ 16 := by
  unfold m_prints
  have h1 := m_puts_le (upd pr 0 (m_letter (td (6 * i)))) 1 (td (6 * i + 1)) 61
  rcases hF : m_puts (upd pr 0 (m_letter (td (6 * i)))) 1 (td (6 * i + 1)) 61 with ⟨pr1, q1⟩
  rw [hF] at h1
  have h1 : q1 ≤ 1 + 3 := h1
  exact m_prNums_le td i _ (m_nums_le _) _ 0 pr1 q1 rfl (Nat.zero_le _) (by omega)
