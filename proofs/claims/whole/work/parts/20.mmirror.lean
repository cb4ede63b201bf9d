/-! MIRRORS of the reference -/
def oI : Option Nat → Int32
  | none => -1
  | some n => nI n
def m_in (v a b : Int32) : Bool := if v < a then false else if b < v then false else true
def m_isDigit (c : Int32) : Bool := if c < 48 then false else if 57 < c then false else true
def m_letter (k : Int32) : Int32 := if k = 0 then 67 else if k = 1 then 76 else if k = 2 then 66 else if k = 3 then 89 else if k = 4 then 82 else 71
def m_kindF (c : Int32) (k : Nat) (f : Option Nat) : Option Nat := if k < 6 then (if m_letter (nI k) = c then m_kindF c (k + 1) (some k) else m_kindF c (k + 1) f) else f
termination_by 6 - k
def m_nums (k : Int32) : Nat := if 3 ≤ k then (if k = 5 then 1 else 2) else 4
def m_isRange (kind i v : Int32) : Bool :=
  if i = 0 ∨ (i = 1 ∧ (kind = 0 ∨ kind = 4)) then (if 16 ≤ v then false else true)
  else if kind = 0 then (if i = 2 then true else m_in v 1 30)
  else if kind = 1 then (if i = 1 then (if 5 ≤ v then false else true) else if i = 2 then (if v ≤ 0 then false else true) else m_in v 1 30)
  else if kind = 2 then (if i = 1 then (if v ≤ 0 then false else true) else if i = 2 then m_in v 1 30 else (if 10 ≤ v then false else true))
  else (if 51 ≤ v then false else true)
def m_sign (tx : Nat → Int32) (sn : Nat) (c : Int32) : Bool × (Nat → Int32) × Nat := if m_in c 33 126 = true then (if sn = 500 then (false, tx, sn) else (true, upd tx sn c, sn + 1)) else (false, tx, sn)
def m_signAt (tx : Nat → Int32) (sn q : Nat) : Int32 := if q < sn then tx q else 0
def m_number (tx : Nat → Int32) (sn q : Nat) : Int32 :=
  if m_isDigit (m_signAt tx sn q) = true then (if m_isDigit (m_signAt tx sn (q + 1)) = true then 10 * (m_signAt tx sn q - 48) + m_signAt tx sn (q + 1) - 48 else m_signAt tx sn q - 48) else -1
def m_find (td : Nat → Int32) (first n : Nat) (kind name : Int32) (k : Nat) (f : Option Nat) : Option Nat :=
  if k < n then (if td (first + 6 * k) = kind then (if td (first + 6 * k + 1) = name then m_find td first n kind name (k + 1) (some k) else m_find td first n kind name (k + 1) f) else m_find td first n kind name (k + 1) f) else f
termination_by n - k
def m_twice (td : Nat → Int32) (cm : Nat) (i v : Int32) : Bool := if i = 1 then (if td (600 + 6 * cm) = 0 ∨ td (600 + 6 * cm) = 4 then (if td (600 + 6 * cm + 2) = v then true else false) else false) else false
def m_wrong (td : Nat → Int32) (cm : Nat) (i v : Int32) : Int32 :=
  if 0 ≤ i then (if m_isRange (td (600 + 6 * cm)) i v = true then (if m_twice td cm i v = true then 3 else if td (600 + 6 * cm) = 1 ∧ i = 1 ∧ v = 0 then 4 else 0) else 3)
  else (if (m_find td 600 cm (td (600 + 6 * cm)) v 0 none).isSome = true then 2 else 0)
def m_ix (i : Int32) : Nat := if i = -1 then 1 else 2 + i.toNatClampNeg
def m_after (tx : Nat → Int32) (sn q : Nat) : Nat := if m_isDigit (m_signAt tx sn (q + 1)) = true then q + 2 else q + 1
def m_rdNum (tx : Nat → Int32) (sn cm q : Nat) (i behind : Int32) (td : Nat → Int32) (fl fa : Int32) : Option Nat × (Nat → Int32) × Int32 × Int32 :=
  if 0 ≤ m_number tx sn q then
    (if m_wrong td cm i (m_number tx sn q) ≤ 0 then
      (if m_signAt tx sn (m_after tx sn q) = behind then (some (m_after tx sn q + 1), upd td (600 + 6 * cm + m_ix i) (m_number tx sn q), fl, fa)
       else (none, upd td (600 + 6 * cm + m_ix i) (m_number tx sn q), 1, nI (m_after tx sn q)))
     else (none, td, m_wrong td cm i (m_number tx sn q), nI q))
  else (none, td, 1, nI q)
def m_zero (cm k : Nat) (td : Nat → Int32) : Nat → Int32 := if k < 4 then m_zero cm (k + 1) (upd td (600 + 6 * cm + 2 + k) 0) else td
termination_by 4 - k
def m_rdNums (tx : Nat → Int32) (sn cm many k : Nat) (q : Option Nat) (td : Nat → Int32) (fl fa : Int32) : Option Nat × (Nat → Int32) × Int32 × Int32 :=
  if k < many then (match q with
    | none => (none, m_zero cm many td, fl, fa)
    | some n => (match m_rdNum tx sn cm n (nI k) (if nI k = nI many - 1 then 59 else 44) td fl fa with
      | (q1, td1, fl1, fa1) => m_rdNums tx sn cm many (k + 1) q1 td1 fl1 fa1))
  else (q, m_zero cm many td, fl, fa)
termination_by many - k
def m_rdRow (tx : Nat → Int32) (sn cm q : Nat) (td : Nat → Int32) (fl fa : Int32) : Option Nat × (Nat → Int32) × Int32 × Int32 :=
  match m_kindF (tx q) 0 none with
  | none => (none, td, 1, nI q)
  | some kd => if cm = 50 then (none, td, 5, nI q) else
      (match m_rdNum tx sn cm (q + 1) (-1) 61 (upd td (600 + 6 * cm) (nI kd)) fl fa with
       | (q1, td1, fl1, fa1) => m_rdNums tx sn cm (m_nums (nI kd)) 0 q1 td1 fl1 fa1)
def m_rows (tx : Nat → Int32) (sn : Nat) : Nat → Option Nat → Nat → (Nat → Int32) → Int32 → Int32 → Option Nat × Nat × (Nat → Int32) × Int32 × Int32
  | 0, q, cm, td, fl, fa => (q, cm, td, fl, fa)
  | f + 1, q, cm, td, fl, fa => match q with
    | none => (none, cm, td, fl, fa)
    | some n => if n < sn then (match m_rdRow tx sn cm n td fl fa with
        | (none, td1, fl1, fa1) => m_rows tx sn f none cm td1 fl1 fa1
        | (some n1, td1, fl1, fa1) => m_rows tx sn f (some n1) (cm + 1) td1 fl1 fa1) else (some n, cm, td, fl, fa)
def m_copy (fr to n k : Nat) (td : Nat → Int32) : Nat → Int32 := if k < 6 * n then m_copy fr to n (k + 1) (upd td (to + k) (td (fr + k))) else td
termination_by 6 * n - k
def m_less (a b : Int32) : Int32 := if b ≤ a then b else a
def m_up (dp : Nat → Int32) (b : Nat) (x : Int32) : Nat → Int32 := if x ≤ dp b then upd dp b (dp b) else upd dp b x
def m_pt (td : Nat → Int32) (i : Nat) : Nat := (td i).toNatClampNeg
def m_along (td : Nat → Int32) (wy i : Nat) (dp : Nat → Int32) : Nat → Int32 :=
  if wy = 0 then (if td i = 0 then m_up (m_up dp (m_pt td (i + 3)) (m_less (dp (m_pt td (i + 2))) (td (i + 5)))) (m_pt td (i + 2)) (m_less (m_up dp (m_pt td (i + 3)) (m_less (dp (m_pt td (i + 2))) (td (i + 5))) (m_pt td (i + 3))) (td (i + 5))) else dp)
  else (if td i = 4 then m_up (m_up dp (m_pt td (i + 3)) (m_less (dp (m_pt td (i + 2))) 99)) (m_pt td (i + 2)) 0 else dp)
def m_round (td : Nat → Int32) (pn wy i : Nat) (dp : Nat → Int32) : Nat → Int32 := if i < 6 * pn then m_round td pn wy (i + 6) (m_along td wy i dp) else dp
termination_by 6 * pn - i
def m_rounds (td : Nat → Int32) (pn wy r : Nat) (dp : Nat → Int32) : Nat → Int32 := if r < 16 then m_rounds td pn wy (r + 1) (m_round td pn wy 0 dp) else dp
termination_by 16 - r
def m_goes (td : Nat → Int32) (pn wy : Nat) (fr : Int32) (dp : Nat → Int32) : Nat → Int32 := m_rounds td pn wy 0 (k_init fr 0 dp)
def m_touch (td : Nat → Int32) (pn : Nat) (kind pt : Int32) (i : Nat) (is : Bool) : Bool :=
  if i < 6 * pn then (if is = true then m_touch td pn kind pt (i + 6) true else if td i = kind then (if td (i + 2) = pt then m_touch td pn kind pt (i + 6) true else if td (i + 3) = pt then m_touch td pn kind pt (i + 6) true else m_touch td pn kind pt (i + 6) false) else m_touch td pn kind pt (i + 6) false) else is
termination_by 6 * pn - i
def m_isBad (td : Nat → Int32) (pn : Nat) (dp : Nat → Int32) (k wh : Nat) : Bool :=
  if wh = 0 then (if td (6 * k) = 1 ∨ td (6 * k) = 2 then !m_touch td pn 0 (td (6 * k + 2)) 0 false else false)
  else if wh = 1 then (if td (6 * k) = 3 ∨ td (6 * k) = 5 then !m_touch td pn 4 (td (6 * k + 2)) 0 false else false)
  else if wh = 2 then (if td (6 * k) = 0 then (if td (6 * k + 4) = 0 then true else false) else false)
  else (if td (6 * k) = 2 then (if td (6 * k + 4) ≤ dp (m_pt td (6 * k + 2)) then false else true) else false)
/-- the inner loop of badAt: an answer, or what is left -/
def m_badIn (td : Nat → Int32) (pn : Nat) (dp : Nat → Int32) (wh k : Nat) (left : Int32) : Option Nat × Int32 :=
  if k < pn then (if m_isBad td pn dp k wh = true then (if left = 0 then (some (10 * k + wh), left) else m_badIn td pn dp wh (k + 1) (left - 1)) else m_badIn td pn dp wh (k + 1) (left - 0)) else (none, left)
termination_by pn - k
def m_badOut (td : Nat → Int32) (pn : Nat) (dp : Nat → Int32) (i : Int32) (wh : Nat) (left : Int32) : Int32 :=
  if wh < 4 then (match m_badIn td pn dp wh 0 left with
    | (some r, _) => nI r
    | (none, left1) => m_badOut td pn dp i (wh + 1) left1) else left - i - 1
termination_by 4 - wh
def m_badAt (td : Nat → Int32) (pn : Nat) (dp : Nat → Int32) (i : Int32) : Int32 := m_badOut td pn (m_goes td pn 0 0 dp) i 0 i
def m_rank (td : Nat → Int32) (j : Nat) : Int32 := 100 * td (6 * j) + td (6 * j + 1)
def m_ahead (td : Nat → Int32) (pn i j a : Nat) : Nat := if j < pn then (if m_rank td i ≤ m_rank td j then m_ahead td pn i (j + 1) (a + 0) else m_ahead td pn i (j + 1) (a + 1)) else a
termination_by pn - j
def m_order (td : Nat → Int32) (pn : Nat) (k : Int32) (i f : Nat) : Nat := if i < pn then (if nI (m_ahead td pn i 0 0) = k then m_order td pn k (i + 1) i else m_order td pn k (i + 1) f) else f
termination_by pn - i
def m_puts (pr : Nat → Int32) (q : Nat) (v c : Int32) : (Nat → Int32) × Nat :=
  if v ≤ 9 then (upd (upd pr q (48 + (v - v / 10 * 10))) (q + 1) c, q + 2) else (upd (upd (upd pr q (48 + v / 10)) (q + 1) (48 + (v - v / 10 * 10))) (q + 1 + 1) c, q + 1 + 2)
def m_prNums (td : Nat → Int32) (i many k : Nat) (pr : Nat → Int32) (q : Nat) : (Nat → Int32) × Nat :=
  if k < many then (match m_puts pr q (td (6 * i + 2 + k)) (if nI k = nI many - 1 then 59 else 44) with | (pr1, q1) => m_prNums td i many (k + 1) pr1 q1) else (pr, q)
termination_by many - k
def m_prints (td : Nat → Int32) (i : Nat) (pr : Nat → Int32) : (Nat → Int32) × Nat :=
  match m_puts (upd pr 0 (m_letter (td (6 * i)))) 1 (td (6 * i + 1)) 61 with | (pr1, q1) => m_prNums td i (m_nums (td (6 * i))) 0 pr1 q1
def m_length (td : Nat → Int32) (pn i n : Nat) (pr : Nat → Int32) : (Nat → Int32) × Nat :=
  if i < pn then (match m_prints td i pr with | (pr1, q1) => m_length td pn (i + 1) (n + q1) pr1) else (pr, n)
termination_by pn - i
def m_alike (td : Nat → Int32) (a b k : Nat) (is : Bool) : Bool :=
  if k < 6 then (if is = false then m_alike td a b (k + 1) false else if td (a + k) = td (b + k) then m_alike td a b (k + 1) true else m_alike td a b (k + 1) false) else is
termination_by 6 - k
def m_cmp (td : Nat → Int32) (pn kp k n both : Nat) : Nat × Nat :=
  if k < pn then (match m_find td 300 kp (td (6 * k)) (td (6 * k + 1)) 0 none with
    | none => m_cmp td pn kp (k + 1) (n + 1) (both + 0)
    | some o => if m_alike td (6 * k) (300 + 6 * o) 0 true = true then m_cmp td pn kp (k + 1) (n + 0) (both + 1) else m_cmp td pn kp (k + 1) (n + 1) (both + 1)) else (n, both)
termination_by pn - k
def m_cnt (td : Nat → Int32) (pn : Nat) (x : Int32) (k n : Nat) : Nat := if k < pn then (if td (6 * k) = x then m_cnt td pn x (k + 1) (n + 1) else m_cnt td pn x (k + 1) (n + 0)) else n
termination_by pn - k
/-- what the pieces of the first n rows at told[0 ..) are, so that no array is left -/
def m_okr (td : Nat → Int32) (i : Nat) : Prop := (∃ a, a < 6 ∧ td i = nI a) ∧ (∃ a, a < 100 ∧ td (i + 1) = nI a) ∧ (∃ a, a < 100 ∧ td (i + 2) = nI a) ∧ (∃ a, a < 100 ∧ td (i + 3) = nI a) ∧ (∃ a, a < 100 ∧ td (i + 4) = nI a) ∧ (∃ a, a < 100 ∧ td (i + 5) = nI a) ∧
  (td i = 0 → (∃ a, a < 16 ∧ td (i + 2) = nI a) ∧ ∃ a, a < 16 ∧ td (i + 3) = nI a) ∧ (td i = 4 → (∃ a, a < 16 ∧ td (i + 2) = nI a) ∧ ∃ a, a < 16 ∧ td (i + 3) = nI a) ∧ (td i = 2 → ∃ a, a < 16 ∧ td (i + 2) = nI a)
def m_ok (td : Nat → Int32) (n : Nat) : Prop := ∀ k, k < n → m_okr td (6 * k)
def m_read (tx : Nat → Int32) (sn : Nat) (td : Nat → Int32) (pn : Nat) : Int32 × Int32 × Nat × Nat × (Nat → Int32) × Int32 × Int32 :=
  match m_rows tx sn (sn + 1) (some 0) 0 td 0 (-1) with
  | (none, cm1, td1, fl1, fa1) => (0, 1, pn, cm1, td1, fl1, fa1)
  | (some _, cm1, td1, fl1, fa1) => (nI cm1, 0, cm1, cm1, m_copy 600 0 cm1 0 td1, fl1, fa1)
def m_piece (td : Nat → Int32) (pn : Nat) (i w : Int32) : Int32 × Int32 :=
  if i < 0 then (0, 1) else if nI pn ≤ i then (0, 1) else if w < 0 then (0, 1) else if w ≤ nI (1 + m_nums (td (6 * i.toNatClampNeg))) then (td (6 * i.toNatClampNeg + w.toNatClampNeg), 0) else (0, 1)
def m_reach (td : Nat → Int32) (pn : Nat) (dp : Nat → Int32) (wy fr to : Int32) : Int32 × Int32 × (Nat → Int32) :=
  if m_in wy 0 1 = true then (if k_isPoint fr = true then (if k_isPoint to = true then (if m_goes td pn wy.toNatClampNeg fr dp to.toNatClampNeg ≤ 0 then 0 else 1, 0, m_goes td pn wy.toNatClampNeg fr dp) else (0, 1, dp)) else (0, 1, dp)) else (0, 1, dp)
def m_deep (td : Nat → Int32) (pn : Nat) (dp : Nat → Int32) (fr to : Int32) : Int32 × Int32 × (Nat → Int32) :=
  if k_isPoint fr = true then (if k_isPoint to = true then (m_goes td pn 0 fr dp to.toNatClampNeg, 0, m_goes td pn 0 fr dp) else (0, 1, dp)) else (0, 1, dp)
def m_unj (td : Nat → Int32) (pn : Nat) (dp : Nat → Int32) (i : Int32) : Int32 × (Nat → Int32) :=
  if 0 ≤ i then (if 0 ≤ m_badAt td pn dp i then (m_badAt td pn dp i, m_goes td pn 0 0 dp) else (-1, m_goes td pn 0 0 dp)) else (-1, dp)
def m_compare (td : Nat → Int32) (pn kp : Nat) : Int32 := nI ((m_cmp td pn kp 0 0 0).1 + kp) - nI (m_cmp td pn kp 0 0 0).2
def m_count (td : Nat → Int32) (sn pn kp : Nat) (w : Int32) : Int32 := if w < 10 then (if w = 0 then nI sn else if w = 1 then nI pn else if w = 2 then nI kp else -1) else (if 16 ≤ w then -1 else nI (m_cnt td pn (w - 10) 0 0))
