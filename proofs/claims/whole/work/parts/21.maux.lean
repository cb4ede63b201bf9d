/-! AUXILIARIES for the reference -/
theorem le_nlt {x y : Int32} (h : x ≤ y) : ¬ y < x := fun z => by
  rw [Int32.lt_iff_toInt_lt] at z
  rw [Int32.le_iff_toInt_le] at h
  omega
theorem nge_lt {x y : Int32} (h : ¬ y ≤ x) : x < y := nle_lt h
theorem oI_some {r : Option Nat} (h : ¬ oI r < 0) : ∃ n, r = some n := by
  cases r with
  | none => exact absurd (by decide) h
  | some n => exact ⟨n, rfl⟩
theorem oI_neg {r : Option Nat} {b : Nat} (h : oI r < 0) (hb : ∀ n, r = some n → n < b) (hbb : b < 2 ^ 31) : r = none := by
  cases r with
  | none => rfl
  | some n => exact absurd h (nI_pos (Nat.lt_trans (hb n rfl) hbb))
theorem m_kindF_ind (c : Int32) : ∀ (n k : Nat) (f : Option Nat), 6 - k = n → (∀ j, f = some j → j < 6) → ∀ j, m_kindF c k f = some j → j < 6 := by
  intro n
  induction n with
  | zero => intro k f hn hf j hj; rw [m_kindF, if_neg (by omega)] at hj; exact hf j hj
  | succ n ih =>
    intro k f hn hf j hj
    rw [m_kindF, if_pos (by omega)] at hj
    split at hj
    · exact ih (k + 1) _ (by omega) (fun j h => by cases h; omega) j hj
    · exact ih (k + 1) _ (by omega) hf j hj
theorem m_kindF_lt {c : Int32} {n : Nat} (h : m_kindF c 0 none = some n) : n < 6 := m_kindF_ind c _ 0 none rfl (fun _ h => by cases h) n h
theorem m_find_ind (td : Nat → Int32) (first N : Nat) (kind name : Int32) : ∀ (n k : Nat) (f : Option Nat), N - k = n → (∀ j, f = some j → j < N) → ∀ j, m_find td first N kind name k f = some j → j < N := by
  intro n
  induction n with
  | zero => intro k f hn hf j hj; rw [m_find, if_neg (by omega)] at hj; exact hf j hj
  | succ n ih =>
    intro k f hn hf j hj
    rw [m_find, if_pos (by omega)] at hj
    split at hj
    · split at hj
      · exact ih (k + 1) _ (by omega) (fun j h => by cases h; omega) j hj
      · exact ih (k + 1) _ (by omega) hf j hj
    · exact ih (k + 1) _ (by omega) hf j hj
theorem m_find_lt {td : Nat → Int32} {first N : Nat} {kind name : Int32} {n : Nat} (h : m_find td first N kind name 0 none = some n) : n < N := m_find_ind td first N kind name _ 0 none rfl (fun _ h => by cases h) n h
theorem sw5 (p : Int32) : p = 0 ∨ p = 1 ∨ p = 2 ∨ p = 3 ∨ p = 4 ∨ (¬ p = 0 ∧ ¬ p = 1 ∧ ¬ p = 2 ∧ ¬ p = 3 ∧ ¬ p = 4 ∧ (p.toInt < 0 ∨ 4 < p.toInt)) := by
  by_cases h0 : p = 0
  · exact Or.inl h0
  by_cases h1 : p = 1
  · exact Or.inr (Or.inl h1)
  by_cases h2 : p = 2
  · exact Or.inr (Or.inr (Or.inl h2))
  by_cases h3 : p = 3
  · exact Or.inr (Or.inr (Or.inr (Or.inl h3)))
  by_cases h4 : p = 4
  · exact Or.inr (Or.inr (Or.inr (Or.inr (Or.inl h4))))
  refine Or.inr (Or.inr (Or.inr (Or.inr (Or.inr ⟨h0, h1, h2, h3, h4, ?_⟩))))
  have g0 : ¬ p.toInt = 0 := fun z => h0 (Int32.toInt_inj.mp (z.trans (by decide)))
  have g1 : ¬ p.toInt = 1 := fun z => h1 (Int32.toInt_inj.mp (z.trans (by decide)))
  have g2 : ¬ p.toInt = 2 := fun z => h2 (Int32.toInt_inj.mp (z.trans (by decide)))
  have g3 : ¬ p.toInt = 3 := fun z => h3 (Int32.toInt_inj.mp (z.trans (by decide)))
  have g4 : ¬ p.toInt = 4 := fun z => h4 (Int32.toInt_inj.mp (z.trans (by decide)))
  omega
theorem ok_in {x : Int32} {N : Nat} (h : ∃ a, a < N ∧ x = nI a) (hN : N < 2 ^ 31) : vp_in x N := by
  obtain ⟨a, ha, rfl⟩ := h
  exact vp_in_nI ha hN
theorem ok_2 {td : Nat → Int32} {i : Nat} (h : m_okr td i) (h2 : td i = 2) : vp_in (td (i + 2)) 16 := ok_in (h.2.2.2.2.2.2.2.2 h2) (by decide)
