/-! MIRRORS: each method of the class as a function -/
def k_tabL : Nat → Int32 := fun j => ([67, 76, 66, 89, 82, 71] : List Int32).getD j 0
def k_tabN : Nat → Nat := fun j => ([4, 4, 4, 2, 2, 1] : List Nat).getD j 0
def k_tabA : Nat → Int32 := fun j => ([0, 0, 0, 1, 0, 0, 1, 1, 0, 1, 1, 0, 0, 0, 0, 0, 0, 0, 0, 0, 0, 0, 0, 0] : List Int32).getD j 0
def k_tabZ : Nat → Int32 := fun j => ([15, 15, 99, 30, 15, 4, 99, 30, 15, 99, 30, 9, 15, 50, 0, 0, 15, 15, 0, 0, 15, 0, 0, 0] : List Int32).getD j 0
def k_isPoint (p : Int32) : Bool := if p < 0 then false else if 16 ≤ p then false else true
def k_isKind (k : Int32) : Bool := if k < 0 then false else if 6 ≤ k then false else true
def k_nK (k : Int32) : Nat := if k_isKind k = true then k_tabN k.toNatClampNeg else 0
def k_isFull (sz : Nat) : Bool := if sz < 50 then false else true
def k_get (a : Nat → Int32) (sz : Nat) (i : Int32) : Int32 := if i < 0 then -1 else if nI sz ≤ i then -1 else a i.toNatClampNeg
def k_num (us : Nat → Int32) (sz : Nat) (i w : Int32) : Int32 := if i < 0 then -1 else if nI sz ≤ i then -1 else if w < 0 then -1 else if w < 4 then us (i * 4 + w).toNatClampNeg else -1
def k_indexOf (ks ns : Nat → Int32) (kind name : Int32) (sz k : Nat) : Int32 :=
  if k < sz then (if ks k = kind then (if ns k = name then nI k else k_indexOf ks ns kind name sz (k + 1)) else k_indexOf ks ns kind name sz (k + 1)) else -1
termination_by sz - k
def k_cnt (ks : Nat → Int32) (kind : Int32) (sz k f : Nat) : Nat :=
  if k < sz then (if ks k = kind then k_cnt ks kind sz (k + 1) (f + 1) else k_cnt ks kind sz (k + 1) f) else f
termination_by sz - k
def k_sizeOfKind (ks : Nat → Int32) (sz : Nat) (kind : Int32) : Int32 := if k_isKind kind = true then nI (k_cnt ks kind sz 0 0) else -1
def k_rank (ks ns : Nat → Int32) (sz : Nat) (i : Int32) : Int32 := k_get ks sz i * 100 + k_get ns sz i
def k_next (ks ns : Nat → Int32) (sz : Nat) (rank : Int32) (k : Nat) (nx : Int32) : Int32 :=
  if k < sz then (if k_rank ks ns sz (nI k) ≤ rank then k_next ks ns sz rank (k + 1) nx else if nx = -1 then k_next ks ns sz rank (k + 1) (nI k) else if k_rank ks ns sz nx ≤ k_rank ks ns sz (nI k) then k_next ks ns sz rank (k + 1) nx else k_next ks ns sz rank (k + 1) (nI k)) else nx
termination_by sz - k
def k_has (ks us : Nat → Int32) (sz : Nat) (kind pt : Int32) (k : Nat) : Bool :=
  if k < sz then (if ks k = kind then (if k_num us sz (nI k) 0 = pt then true else if k_num us sz (nI k) 1 = pt then true else k_has ks us sz kind pt (k + 1)) else k_has ks us sz kind pt (k + 1)) else false
termination_by sz - k
def k_same (us : Nat → Int32) (sz : Nat) (i : Int32) (us2 : Nat → Int32) (sz2 : Nat) (t : Int32) (many w : Nat) : Bool :=
  if w < many then (if k_num us sz i (nI w) = k_num us2 sz2 t (nI w) then k_same us sz i us2 sz2 t many (w + 1) else false) else true
termination_by many - w
def k_miss (ks ns : Nat → Int32) (sz : Nat) (ks2 ns2 : Nat → Int32) (sz2 k f : Nat) : Nat :=
  if k < sz then (if k_indexOf ks2 ns2 (ks k) (ns k) sz2 0 = -1 then k_miss ks ns sz ks2 ns2 sz2 (k + 1) (f + 1) else k_miss ks ns sz ks2 ns2 sz2 (k + 1) f) else f
termination_by sz - k
def k_chg (ks ns us : Nat → Int32) (sz : Nat) (ks2 ns2 us2 : Nat → Int32) (sz2 k f : Nat) : Nat :=
  if k < sz then (if k_indexOf ks2 ns2 (ks k) (ns k) sz2 0 = -1 then k_chg ks ns us sz ks2 ns2 us2 sz2 (k + 1) f else if k_same us sz (nI k) us2 sz2 (k_indexOf ks2 ns2 (ks k) (ns k) sz2 0) (k_nK (k_get ks sz (nI k))) 0 = true then k_chg ks ns us sz ks2 ns2 us2 sz2 (k + 1) f else k_chg ks ns us sz ks2 ns2 us2 sz2 (k + 1) (f + 1)) else f
termination_by sz - k
/-- begin, setNumber -/
def k_begin (ks ns : Nat → Int32) (sz : Nat) (kind name : Int32) : (Nat → Int32) × (Nat → Int32) × Nat := if k_isFull sz = true then (ks, ns, sz) else (upd ks sz kind, upd ns sz name, sz + 1)
def k_setNumber (us : Nat → Int32) (sz : Nat) (w x : Int32) : Nat → Int32 := if 0 < sz then (if w < 0 then us else if 4 ≤ w then us else upd us ((nI sz - 1) * 4 + w).toNatClampNeg x) else us
/-- the reader -/
def k_collect (sg : Nat → Int32) (len : Nat) (c : Int32) : Bool × (Nat → Int32) × Nat := if c < 33 then (false, sg, len) else if 126 < c then (false, sg, len) else if len < 500 then (true, upd sg len c, len + 1) else (false, sg, len)
def k_sign (sg : Nat → Int32) (len pl : Nat) : Int32 := if pl < len then sg pl else -1
def k_digit (sg : Nat → Int32) (len pl : Nat) : Int32 := if k_sign sg len pl < 48 then -1 else if 57 < k_sign sg len pl then -1 else k_sign sg len pl - 48
def k_kindF (g : Int32) (k : Nat) : Int32 := if k < 6 then (if k_tabL k = g then nI k else k_kindF g (k + 1)) else -1
termination_by 6 - k
def k_readDigits (sg : Nat → Int32) (len pl : Nat) : Int32 × Nat := if k_digit sg len pl = -1 then (-1, pl) else if k_digit sg len (pl + 1) = -1 then (k_digit sg len pl, pl + 1) else (10 * k_digit sg len pl + k_digit sg len (pl + 1), pl + 1 + 1)
def k_readSign (sg : Nat → Int32) (len : Nat) (want : Int32) (pl : Nat) (fn fp : Int32) : Bool × Nat × Int32 × Int32 := if k_sign sg len pl = want then (true, pl + 1, fn, fp) else (false, pl, 1, nI pl)
def k_inRange (kind w x : Int32) : Bool := if k_isKind kind = true then (if w < 0 then false else if w < 4 then (if x < k_tabA (kind * 4 + w).toNatClampNeg then false else if k_tabZ (kind * 4 + w).toNatClampNeg < x then false else true) else false) else false
def k_judge (us : Nat → Int32) (sz : Nat) (kind w x : Int32) : Int32 :=
  if k_inRange kind w x = true then (if (kind = 0 ∨ kind = 4) ∧ w = 1 ∧ x = k_num us sz (nI sz - 1) 0 then 3 else if kind = 1 ∧ w = 1 ∧ x = 0 then 4 else 0) else 3
abbrev k_RS : Type := (Nat → Int32) × (Nat → Int32) × (Nat → Int32) × Nat × Nat × Int32 × Int32
def k_readName (sg : Nat → Int32) (len : Nat) (kind : Int32) (ks ns us : Nat → Int32) (sz pl : Nat) (fn fp : Int32) : Bool × k_RS :=
  if (k_readDigits sg len pl).1 = -1 then (false, ks, ns, us, sz, (k_readDigits sg len pl).2, 1, nI (k_readDigits sg len pl).2)
  else if k_indexOf ks ns kind (k_readDigits sg len pl).1 sz 0 = -1 then (true, (k_begin ks ns sz kind (k_readDigits sg len pl).1).1, (k_begin ks ns sz kind (k_readDigits sg len pl).1).2.1, us, (k_begin ks ns sz kind (k_readDigits sg len pl).1).2.2, (k_readDigits sg len pl).2, fn, fp)
  else (false, ks, ns, us, sz, (k_readDigits sg len pl).2, 2, nI pl)
def k_readNumber (sg : Nat → Int32) (len : Nat) (kind w : Int32) (us : Nat → Int32) (sz pl : Nat) (fn fp : Int32) : Bool × (Nat → Int32) × Nat × Int32 × Int32 :=
  if (k_readDigits sg len pl).1 = -1 then (false, us, (k_readDigits sg len pl).2, 1, nI (k_readDigits sg len pl).2)
  else if k_judge us sz kind w (k_readDigits sg len pl).1 = 0 then (true, k_setNumber us sz w (k_readDigits sg len pl).1, (k_readDigits sg len pl).2, fn, fp)
  else (false, us, (k_readDigits sg len pl).2, k_judge us sz kind w (k_readDigits sg len pl).1, nI pl)
def k_nums (sg : Nat → Int32) (len : Nat) (kind : Int32) (many w : Nat) (us : Nat → Int32) (sz pl : Nat) (fn fp : Int32) : Bool × (Nat → Int32) × Nat × Int32 × Int32 :=
  if w < many then
    (match k_readNumber sg len kind (nI w) us sz pl fn fp with
     | (true, us1, pl1, fn1, fp1) => (match k_readSign sg len (if w + 1 < many then 44 else 59) pl1 fn1 fp1 with
        | (true, pl2, fn2, fp2) => k_nums sg len kind many (w + 1) us1 sz pl2 fn2 fp2
        | (false, pl2, fn2, fp2) => (false, us1, pl2, fn2, fp2))
     | (false, us1, pl1, fn1, fp1) => (false, us1, pl1, fn1, fp1))
  else (true, us, pl, fn, fp)
termination_by many - w
def k_rowEnd (ks ns : Nat → Int32) (sz : Nat) (t : Bool × (Nat → Int32) × Nat × Int32 × Int32) : Bool × k_RS := (t.1, ks, ns, t.2.1, sz, t.2.2.1, t.2.2.2.1, t.2.2.2.2)
def k_readRow (sg : Nat → Int32) (len : Nat) (ks ns us : Nat → Int32) (sz pl : Nat) (fn fp : Int32) : Bool × k_RS :=
  if k_kindF (k_sign sg len pl) 0 = -1 then (false, ks, ns, us, sz, pl, 1, nI pl)
  else if k_isFull sz = true then (false, ks, ns, us, sz, pl, 5, nI pl)
  else match k_readName sg len (k_kindF (k_sign sg len pl) 0) ks ns us sz (pl + 1) fn fp with
    | (true, ks1, ns1, us1, sz1, pl1, fn1, fp1) => (match k_readSign sg len 61 pl1 fn1 fp1 with
       | (true, pl2, fn2, fp2) => k_rowEnd ks1 ns1 sz1 (k_nums sg len (k_kindF (k_sign sg len pl) 0) (k_nK (k_kindF (k_sign sg len pl) 0)) 0 us1 sz1 pl2 fn2 fp2)
       | (false, pl2, fn2, fp2) => (false, ks1, ns1, us1, sz1, pl2, fn2, fp2))
    | (false, ks1, ns1, us1, sz1, pl1, fn1, fp1) => (false, ks1, ns1, us1, sz1, pl1, fn1, fp1)
def k_rows (sg : Nat → Int32) (len row : Nat) (right : Bool) (ks ns us : Nat → Int32) (sz pl : Nat) (fn fp : Int32) : Bool × k_RS :=
  if 50 < row then (right, ks, ns, us, sz, pl, fn, fp) else if right = false then (right, ks, ns, us, sz, pl, fn, fp) else if pl < len then
    (match k_readRow sg len ks ns us sz pl fn fp with
     | (b, ks1, ns1, us1, sz1, pl1, fn1, fp1) => k_rows sg len (row + 1) b ks1 ns1 us1 sz1 pl1 fn1 fp1)
  else (right, ks, ns, us, sz, pl, fn, fp)
termination_by 51 - row
def k_readAll (sg : Nat → Int32) (len : Nat) (ks ns us : Nat → Int32) : Bool × k_RS := k_rows sg len 0 true ks ns us 0 0 0 (-1)
/-- the ways -/
def k_depthAt (dp : Nat → Int32) (p : Int32) : Int32 := if k_isPoint p = true then dp p.toNatClampNeg else 0
def k_deepen (dp : Nat → Int32) (a b most : Int32) : Bool × (Nat → Int32) :=
  if k_isPoint a = true then (if k_isPoint b = true then (if dp b.toNatClampNeg < (if most < dp a.toNatClampNeg then most else dp a.toNatClampNeg) then (true, upd dp b.toNatClampNeg (if most < dp a.toNatClampNeg then most else dp a.toNatClampNeg)) else (false, dp)) else (false, dp)) else (false, dp)
def k_along (ks us : Nat → Int32) (sz : Nat) (i : Int32) (dp : Nat → Int32) : Bool × (Nat → Int32) :=
  if k_get ks sz i = 4 then k_deepen dp (k_num us sz i 0) (k_num us sz i 1) 99
  else match k_deepen dp (k_num us sz i 0) (k_num us sz i 1) (k_num us sz i 3) with
    | (true, dp1) => (true, dp1)
    | (false, dp1) => k_deepen dp1 (k_num us sz i 1) (k_num us sz i 0) (k_num us sz i 3)
def k_once (ks us : Nat → Int32) (sz : Nat) (kind : Int32) (k : Nat) (ch : Bool) (dp : Nat → Int32) : Bool × (Nat → Int32) :=
  if k < sz then (if k_get ks sz (nI k) = kind then (match k_along ks us sz (nI k) dp with
      | (true, dp1) => k_once ks us sz kind (k + 1) true dp1
      | (false, dp1) => k_once ks us sz kind (k + 1) ch dp1) else k_once ks us sz kind (k + 1) ch dp) else (ch, dp)
termination_by sz - k
def k_init (fr : Int32) (p : Nat) (dp : Nat → Int32) : Nat → Int32 := if p < 16 then k_init fr (p + 1) (upd dp p (if nI p = fr then 99 else 0)) else dp
termination_by 16 - p
def k_rounds (ks us : Nat → Int32) (sz : Nat) (kind : Int32) (r : Nat) (ch : Bool) (dp : Nat → Int32) : Nat → Int32 :=
  if r < 16 then (if ch = false then dp else match k_once ks us sz kind 0 false dp with | (b, dp1) => k_rounds ks us sz kind (r + 1) b dp1) else dp
termination_by 16 - r
def k_spread (ks us : Nat → Int32) (sz : Nat) (kind fr : Int32) (dp : Nat → Int32) : Nat → Int32 := k_rounds ks us sz kind 0 true (k_init fr 0 dp)
/-- the bad ones -/
def k_holds (ks us : Nat → Int32) (sz : Nat) (dp : Nat → Int32) (reason : Nat) (i : Int32) : Bool :=
  if reason = 0 then (if k_get ks sz i = 1 ∨ k_get ks sz i = 2 then !k_has ks us sz 0 (k_num us sz i 0) 0 else false)
  else if reason = 1 then (if k_get ks sz i = 3 ∨ k_get ks sz i = 5 then !k_has ks us sz 4 (k_num us sz i 0) 0 else false)
  else if reason = 2 then (if k_get ks sz i = 0 then (if k_num us sz i 2 = 0 then true else false) else false)
  else (if k_get ks sz i = 2 then (if k_num us sz i 2 ≤ k_depthAt dp (k_num us sz i 0) then false else true) else false)
def k_addAll (ks us : Nat → Int32) (sz : Nat) (dp : Nat → Int32) (reason k : Nat) (en : Nat → Int32) (bn : Nat) : (Nat → Int32) × Nat :=
  if k < sz then (if bn < 100 then (if k_holds ks us sz dp reason (nI k) = true then k_addAll ks us sz dp reason (k + 1) (upd en bn (nI (10 * k + reason))) (bn + 1) else k_addAll ks us sz dp reason (k + 1) en bn) else k_addAll ks us sz dp reason (k + 1) en bn) else (en, bn)
termination_by sz - k
def k_reasons (ks us : Nat → Int32) (sz : Nat) (dp : Nat → Int32) (reason : Nat) (en : Nat → Int32) (bn : Nat) : (Nat → Int32) × Nat :=
  if reason < 4 then (match k_addAll ks us sz dp reason 0 en bn with | (en1, bn1) => k_reasons ks us sz dp (reason + 1) en1 bn1) else (en, bn)
termination_by 4 - reason
def k_judgeAll (ks us : Nat → Int32) (sz : Nat) (dp en : Nat → Int32) : (Nat → Int32) × (Nat → Int32) × Nat :=
  (k_spread ks us sz 0 0 dp, k_reasons ks us sz (k_spread ks us sz 0 0 dp) 0 en 0)
/-- the printout -/
def k_wSign (ot : Nat → Int32) (ol : Nat) (c : Int32) : (Nat → Int32) × Nat := if ol < 500 then (upd ot ol (vp_nar .char c), ol + 1) else (ot, ol)
def k_chr (x : Int32) : Int32 := ((48 + x).toUInt32 % 65536).toInt32
def k_wNum (ot : Nat → Int32) (ol : Nat) (x : Int32) : (Nat → Int32) × Nat :=
  if x < 10 then k_wSign ot ol (k_chr (x - x / 10 * 10)) else match k_wSign ot ol (k_chr (x / 10)) with | (ot1, ol1) => k_wSign ot1 ol1 (k_chr (x - x / 10 * 10))
def k_wNums (us : Nat → Int32) (sz : Nat) (i : Int32) (many w : Nat) (ot : Nat → Int32) (ol : Nat) : (Nat → Int32) × Nat :=
  if w < many then (match k_wSign ot ol (if w = 0 then 61 else 44) with | (ot1, ol1) => (match k_wNum ot1 ol1 (k_num us sz i (nI w)) with | (ot2, ol2) => k_wNums us sz i many (w + 1) ot2 ol2)) else k_wSign ot ol 59
termination_by many - w
def k_wRow (ks ns us : Nat → Int32) (sz : Nat) (i : Int32) (ot : Nat → Int32) (ol : Nat) : (Nat → Int32) × Nat :=
  if k_isKind (k_get ks sz i) = true then (match k_wSign ot ol (k_tabL (k_get ks sz i).toNatClampNeg) with | (ot1, ol1) => (match k_wNum ot1 ol1 (k_get ns sz i) with | (ot2, ol2) => k_wNums us sz i (k_nK (k_get ks sz i)) 0 ot2 ol2)) else (ot, ol)
def k_writeF (ks ns us : Nat → Int32) (sz : Nat) (rank : Int32) (w : Nat) (ot : Nat → Int32) (ol : Nat) : (Nat → Int32) × Nat :=
  if w < sz then (match k_wRow ks ns us sz (k_next ks ns sz rank 0 (-1)) ot ol with | (ot1, ol1) => k_writeF ks ns us sz (k_rank ks ns sz (k_next ks ns sz rank 0 (-1))) (w + 1) ot1 ol1) else (ot, ol)
termination_by sz - w
def k_write (ks ns us : Nat → Int32) (sz : Nat) (ot : Nat → Int32) : (Nat → Int32) × Nat := k_writeF ks ns us sz (-1) 0 ot 0
/-- the face -/
def k_failure (fn fp p : Int32) : Int32 := if p = 0 then fn else if p = 1 then fp else -1
def k_compare (ks ns us : Nat → Int32) (sz : Nat) (ks2 ns2 us2 : Nat → Int32) (sz2 : Nat) : Nat := k_miss ks ns sz ks2 ns2 sz2 0 0 + k_miss ks2 ns2 sz2 ks ns sz 0 0 + k_chg ks ns us sz ks2 ns2 us2 sz2 0 0
def k_count (len sz sz2 : Nat) (ks : Nat → Int32) (p : Int32) : Int32 := if p = 0 then nI len else if p = 1 then nI sz else if p = 2 then nI sz2 else if 10 ≤ p then k_sizeOfKind ks sz (p - 10) else -1
