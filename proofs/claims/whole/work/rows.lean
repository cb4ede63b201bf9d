section
-- ===== PART A: goes FIRST, ahead of the names: the tables' words, and 'selects' of the private methods out of them =====
/-- a private method of a class that the tables say can be made, by its rows of tables_1 -/
def lw_okq (q : MethodName × Nat) : Prop := (q.1.cls ≠ "java/lang/invoke/MethodHandle" ∧ q.1.cls ≠ "java/lang/invoke/VarHandle") ∧ Cond.instantiable q.1.cls q.2 ∈ tables_1 ∧ Cond.privateMethod q.1 ∈ tables_1 ∧ Cond.instanceMethod q.1 ∈ tables_1
theorem lw_p0 : lw_okq (⟨"HarbourText$Harbour", "hasSameNumbers", "(ILHarbourText$Harbour;I)Z"⟩, 4) := ⟨⟨by decide +kernel, by decide +kernel⟩, List.mem_of_getElem? (i := 31) (by decide +kernel), List.mem_of_getElem? (i := 208) (by decide +kernel), List.mem_of_getElem? (i := 209) (by decide +kernel)⟩
theorem lw_p1 : lw_okq (⟨"HarbourText$TextReader", "readRow", "()Z"⟩, 6) := ⟨⟨by decide +kernel, by decide +kernel⟩, List.mem_of_getElem? (i := 25) (by decide +kernel), List.mem_of_getElem? (i := 257) (by decide +kernel), List.mem_of_getElem? (i := 258) (by decide +kernel)⟩
theorem lw_p2 : lw_okq (⟨"HarbourText$TextReader", "kindHere", "()I"⟩, 6) := ⟨⟨by decide +kernel, by decide +kernel⟩, List.mem_of_getElem? (i := 25) (by decide +kernel), List.mem_of_getElem? (i := 261) (by decide +kernel), List.mem_of_getElem? (i := 262) (by decide +kernel)⟩
theorem lw_p3 : lw_okq (⟨"HarbourText$TextReader", "signHere", "()I"⟩, 6) := ⟨⟨by decide +kernel, by decide +kernel⟩, List.mem_of_getElem? (i := 25) (by decide +kernel), List.mem_of_getElem? (i := 265) (by decide +kernel), List.mem_of_getElem? (i := 266) (by decide +kernel)⟩
theorem lw_p4 : lw_okq (⟨"HarbourText$TextReader", "fail", "(II)Z"⟩, 6) := ⟨⟨by decide +kernel, by decide +kernel⟩, List.mem_of_getElem? (i := 25) (by decide +kernel), List.mem_of_getElem? (i := 271) (by decide +kernel), List.mem_of_getElem? (i := 272) (by decide +kernel)⟩
theorem lw_p5 : lw_okq (⟨"HarbourText$TextReader", "readName", "(I)Z"⟩, 6) := ⟨⟨by decide +kernel, by decide +kernel⟩, List.mem_of_getElem? (i := 25) (by decide +kernel), List.mem_of_getElem? (i := 279) (by decide +kernel), List.mem_of_getElem? (i := 280) (by decide +kernel)⟩
theorem lw_p6 : lw_okq (⟨"HarbourText$TextReader", "readDigits", "()I"⟩, 6) := ⟨⟨by decide +kernel, by decide +kernel⟩, List.mem_of_getElem? (i := 25) (by decide +kernel), List.mem_of_getElem? (i := 283) (by decide +kernel), List.mem_of_getElem? (i := 284) (by decide +kernel)⟩
theorem lw_p7 : lw_okq (⟨"HarbourText$TextReader", "digitHere", "()I"⟩, 6) := ⟨⟨by decide +kernel, by decide +kernel⟩, List.mem_of_getElem? (i := 25) (by decide +kernel), List.mem_of_getElem? (i := 287) (by decide +kernel), List.mem_of_getElem? (i := 288) (by decide +kernel)⟩
theorem lw_p8 : lw_okq (⟨"HarbourText$TextReader", "readSign", "(C)Z"⟩, 6) := ⟨⟨by decide +kernel, by decide +kernel⟩, List.mem_of_getElem? (i := 25) (by decide +kernel), List.mem_of_getElem? (i := 297) (by decide +kernel), List.mem_of_getElem? (i := 298) (by decide +kernel)⟩
theorem lw_p9 : lw_okq (⟨"HarbourText$TextReader", "readNumber", "(II)Z"⟩, 6) := ⟨⟨by decide +kernel, by decide +kernel⟩, List.mem_of_getElem? (i := 25) (by decide +kernel), List.mem_of_getElem? (i := 302) (by decide +kernel), List.mem_of_getElem? (i := 303) (by decide +kernel)⟩
theorem lw_p10 : lw_okq (⟨"HarbourText$TextReader", "judgeNumber", "(III)I"⟩, 6) := ⟨⟨by decide +kernel, by decide +kernel⟩, List.mem_of_getElem? (i := 25) (by decide +kernel), List.mem_of_getElem? (i := 306) (by decide +kernel), List.mem_of_getElem? (i := 307) (by decide +kernel)⟩
theorem lw_p11 : lw_okq (⟨"java/lang/Throwable", "fillInStackTrace", "(I)Ljava/lang/Throwable;"⟩, 6) := ⟨⟨by decide +kernel, by decide +kernel⟩, List.mem_of_getElem? (i := 362) (by decide +kernel), List.mem_of_getElem? (i := 360) (by decide +kernel), List.mem_of_getElem? (i := 361) (by decide +kernel)⟩
theorem lw_p12 : lw_okq (⟨"HarbourText$Ways", "spreadOnce", "(LHarbourText$Harbour;I)Z"⟩, 1) := ⟨⟨by decide +kernel, by decide +kernel⟩, List.mem_of_getElem? (i := 73) (by decide +kernel), List.mem_of_getElem? (i := 404) (by decide +kernel), List.mem_of_getElem? (i := 405) (by decide +kernel)⟩
theorem lw_p13 : lw_okq (⟨"HarbourText$Ways", "spreadAlong", "(LHarbourText$Harbour;I)Z"⟩, 1) := ⟨⟨by decide +kernel, by decide +kernel⟩, List.mem_of_getElem? (i := 73) (by decide +kernel), List.mem_of_getElem? (i := 410) (by decide +kernel), List.mem_of_getElem? (i := 411) (by decide +kernel)⟩
theorem lw_p14 : lw_okq (⟨"HarbourText$Ways", "deepen", "(III)Z"⟩, 1) := ⟨⟨by decide +kernel, by decide +kernel⟩, List.mem_of_getElem? (i := 73) (by decide +kernel), List.mem_of_getElem? (i := 415) (by decide +kernel), List.mem_of_getElem? (i := 416) (by decide +kernel)⟩
theorem lw_p15 : lw_okq (⟨"HarbourText$BadList", "addAll", "(LHarbourText$Harbour;LHarbourText$Ways;I)V"⟩, 2) := ⟨⟨by decide +kernel, by decide +kernel⟩, List.mem_of_getElem? (i := 83) (by decide +kernel), List.mem_of_getElem? (i := 425) (by decide +kernel), List.mem_of_getElem? (i := 426) (by decide +kernel)⟩
def lw_privs_1 : List (MethodName × Nat) := [(⟨"HarbourText$Harbour", "hasSameNumbers", "(ILHarbourText$Harbour;I)Z"⟩, 4), (⟨"HarbourText$TextReader", "readRow", "()Z"⟩, 6), (⟨"HarbourText$TextReader", "kindHere", "()I"⟩, 6), (⟨"HarbourText$TextReader", "signHere", "()I"⟩, 6), (⟨"HarbourText$TextReader", "fail", "(II)Z"⟩, 6), (⟨"HarbourText$TextReader", "readName", "(I)Z"⟩, 6), (⟨"HarbourText$TextReader", "readDigits", "()I"⟩, 6), (⟨"HarbourText$TextReader", "digitHere", "()I"⟩, 6), (⟨"HarbourText$TextReader", "readSign", "(C)Z"⟩, 6), (⟨"HarbourText$TextReader", "readNumber", "(II)Z"⟩, 6), (⟨"HarbourText$TextReader", "judgeNumber", "(III)I"⟩, 6), (⟨"java/lang/Throwable", "fillInStackTrace", "(I)Ljava/lang/Throwable;"⟩, 6), (⟨"HarbourText$Ways", "spreadOnce", "(LHarbourText$Harbour;I)Z"⟩, 1), (⟨"HarbourText$Ways", "spreadAlong", "(LHarbourText$Harbour;I)Z"⟩, 1), (⟨"HarbourText$Ways", "deepen", "(III)Z"⟩, 1), (⟨"HarbourText$BadList", "addAll", "(LHarbourText$Harbour;LHarbourText$Ways;I)V"⟩, 2)]
theorem lw_r1 : ∀ q ∈ lw_privs_1, lw_okq q := List.forall_mem_cons.mpr ⟨lw_p0, List.forall_mem_cons.mpr ⟨lw_p1, List.forall_mem_cons.mpr ⟨lw_p2, List.forall_mem_cons.mpr ⟨lw_p3, List.forall_mem_cons.mpr ⟨lw_p4, List.forall_mem_cons.mpr ⟨lw_p5, List.forall_mem_cons.mpr ⟨lw_p6, List.forall_mem_cons.mpr ⟨lw_p7, List.forall_mem_cons.mpr ⟨lw_p8, List.forall_mem_cons.mpr ⟨lw_p9, List.forall_mem_cons.mpr ⟨lw_p10, List.forall_mem_cons.mpr ⟨lw_p11, List.forall_mem_cons.mpr ⟨lw_p12, List.forall_mem_cons.mpr ⟨lw_p13, List.forall_mem_cons.mpr ⟨lw_p14, List.forall_mem_cons.mpr ⟨lw_p15, fun _ h => absurd h List.not_mem_nil⟩⟩⟩⟩⟩⟩⟩⟩⟩⟩⟩⟩⟩⟩⟩⟩
theorem lw_p16 : lw_okq (⟨"HarbourText$Printout", "writeRow", "(LHarbourText$Harbour;I)V"⟩, 2) := ⟨⟨by decide +kernel, by decide +kernel⟩, List.mem_of_getElem? (i := 96) (by decide +kernel), List.mem_of_getElem? (i := 460) (by decide +kernel), List.mem_of_getElem? (i := 461) (by decide +kernel)⟩
theorem lw_p17 : lw_okq (⟨"HarbourText$Printout", "writeSign", "(C)V"⟩, 2) := ⟨⟨by decide +kernel, by decide +kernel⟩, List.mem_of_getElem? (i := 96) (by decide +kernel), List.mem_of_getElem? (i := 467) (by decide +kernel), List.mem_of_getElem? (i := 468) (by decide +kernel)⟩
theorem lw_p18 : lw_okq (⟨"HarbourText$Printout", "writeNumber", "(I)V"⟩, 2) := ⟨⟨by decide +kernel, by decide +kernel⟩, List.mem_of_getElem? (i := 96) (by decide +kernel), List.mem_of_getElem? (i := 472) (by decide +kernel), List.mem_of_getElem? (i := 473) (by decide +kernel)⟩
theorem lw_p19 : lw_okq (⟨"HarbourTextModel", "readsRow", "(I)I"⟩, 11) := ⟨⟨by decide +kernel, by decide +kernel⟩, List.mem_of_getElem? (i := 555) (by decide +kernel), List.mem_of_getElem? (i := 610) (by decide +kernel), List.mem_of_getElem? (i := 611) (by decide +kernel)⟩
theorem lw_p20 : lw_okq (⟨"HarbourTextModel", "fails", "(II)I"⟩, 11) := ⟨⟨by decide +kernel, by decide +kernel⟩, List.mem_of_getElem? (i := 555) (by decide +kernel), List.mem_of_getElem? (i := 620) (by decide +kernel), List.mem_of_getElem? (i := 621) (by decide +kernel)⟩
theorem lw_p21 : lw_okq (⟨"HarbourTextModel", "readsNumber", "(III)I"⟩, 11) := ⟨⟨by decide +kernel, by decide +kernel⟩, List.mem_of_getElem? (i := 555) (by decide +kernel), List.mem_of_getElem? (i := 624) (by decide +kernel), List.mem_of_getElem? (i := 625) (by decide +kernel)⟩
theorem lw_p22 : lw_okq (⟨"HarbourTextModel", "numberAt", "(I)I"⟩, 11) := ⟨⟨by decide +kernel, by decide +kernel⟩, List.mem_of_getElem? (i := 555) (by decide +kernel), List.mem_of_getElem? (i := 628) (by decide +kernel), List.mem_of_getElem? (i := 629) (by decide +kernel)⟩
theorem lw_p23 : lw_okq (⟨"HarbourTextModel", "signAt", "(I)I"⟩, 11) := ⟨⟨by decide +kernel, by decide +kernel⟩, List.mem_of_getElem? (i := 555) (by decide +kernel), List.mem_of_getElem? (i := 632) (by decide +kernel), List.mem_of_getElem? (i := 633) (by decide +kernel)⟩
theorem lw_p24 : lw_okq (⟨"HarbourTextModel", "wrong", "(II)I"⟩, 11) := ⟨⟨by decide +kernel, by decide +kernel⟩, List.mem_of_getElem? (i := 555) (by decide +kernel), List.mem_of_getElem? (i := 639) (by decide +kernel), List.mem_of_getElem? (i := 640) (by decide +kernel)⟩
theorem lw_p25 : lw_okq (⟨"HarbourTextModel", "findIn", "(IIII)I"⟩, 11) := ⟨⟨by decide +kernel, by decide +kernel⟩, List.mem_of_getElem? (i := 555) (by decide +kernel), List.mem_of_getElem? (i := 643) (by decide +kernel), List.mem_of_getElem? (i := 644) (by decide +kernel)⟩
theorem lw_p26 : lw_okq (⟨"HarbourTextModel", "refuse", "(I)I"⟩, 11) := ⟨⟨by decide +kernel, by decide +kernel⟩, List.mem_of_getElem? (i := 555) (by decide +kernel), List.mem_of_getElem? (i := 653) (by decide +kernel), List.mem_of_getElem? (i := 654) (by decide +kernel)⟩
theorem lw_p27 : lw_okq (⟨"HarbourTextModel", "copies", "(III)V"⟩, 11) := ⟨⟨by decide +kernel, by decide +kernel⟩, List.mem_of_getElem? (i := 555) (by decide +kernel), List.mem_of_getElem? (i := 657) (by decide +kernel), List.mem_of_getElem? (i := 658) (by decide +kernel)⟩
theorem lw_p28 : lw_okq (⟨"HarbourTextModel", "goes", "(II)V"⟩, 11) := ⟨⟨by decide +kernel, by decide +kernel⟩, List.mem_of_getElem? (i := 555) (by decide +kernel), List.mem_of_getElem? (i := 680) (by decide +kernel), List.mem_of_getElem? (i := 681) (by decide +kernel)⟩
theorem lw_p29 : lw_okq (⟨"HarbourTextModel", "badAt", "(I)I"⟩, 11) := ⟨⟨by decide +kernel, by decide +kernel⟩, List.mem_of_getElem? (i := 555) (by decide +kernel), List.mem_of_getElem? (i := 695) (by decide +kernel), List.mem_of_getElem? (i := 696) (by decide +kernel)⟩
theorem lw_p30 : lw_okq (⟨"HarbourTextModel", "isBad", "(II)Z"⟩, 11) := ⟨⟨by decide +kernel, by decide +kernel⟩, List.mem_of_getElem? (i := 555) (by decide +kernel), List.mem_of_getElem? (i := 699) (by decide +kernel), List.mem_of_getElem? (i := 700) (by decide +kernel)⟩
theorem lw_p31 : lw_okq (⟨"HarbourTextModel", "isTouched", "(II)Z"⟩, 11) := ⟨⟨by decide +kernel, by decide +kernel⟩, List.mem_of_getElem? (i := 555) (by decide +kernel), List.mem_of_getElem? (i := 703) (by decide +kernel), List.mem_of_getElem? (i := 704) (by decide +kernel)⟩
def lw_privs_2 : List (MethodName × Nat) := [(⟨"HarbourText$Printout", "writeRow", "(LHarbourText$Harbour;I)V"⟩, 2), (⟨"HarbourText$Printout", "writeSign", "(C)V"⟩, 2), (⟨"HarbourText$Printout", "writeNumber", "(I)V"⟩, 2), (⟨"HarbourTextModel", "readsRow", "(I)I"⟩, 11), (⟨"HarbourTextModel", "fails", "(II)I"⟩, 11), (⟨"HarbourTextModel", "readsNumber", "(III)I"⟩, 11), (⟨"HarbourTextModel", "numberAt", "(I)I"⟩, 11), (⟨"HarbourTextModel", "signAt", "(I)I"⟩, 11), (⟨"HarbourTextModel", "wrong", "(II)I"⟩, 11), (⟨"HarbourTextModel", "findIn", "(IIII)I"⟩, 11), (⟨"HarbourTextModel", "refuse", "(I)I"⟩, 11), (⟨"HarbourTextModel", "copies", "(III)V"⟩, 11), (⟨"HarbourTextModel", "goes", "(II)V"⟩, 11), (⟨"HarbourTextModel", "badAt", "(I)I"⟩, 11), (⟨"HarbourTextModel", "isBad", "(II)Z"⟩, 11), (⟨"HarbourTextModel", "isTouched", "(II)Z"⟩, 11)]
theorem lw_r2 : ∀ q ∈ lw_privs_2, lw_okq q := List.forall_mem_cons.mpr ⟨lw_p16, List.forall_mem_cons.mpr ⟨lw_p17, List.forall_mem_cons.mpr ⟨lw_p18, List.forall_mem_cons.mpr ⟨lw_p19, List.forall_mem_cons.mpr ⟨lw_p20, List.forall_mem_cons.mpr ⟨lw_p21, List.forall_mem_cons.mpr ⟨lw_p22, List.forall_mem_cons.mpr ⟨lw_p23, List.forall_mem_cons.mpr ⟨lw_p24, List.forall_mem_cons.mpr ⟨lw_p25, List.forall_mem_cons.mpr ⟨lw_p26, List.forall_mem_cons.mpr ⟨lw_p27, List.forall_mem_cons.mpr ⟨lw_p28, List.forall_mem_cons.mpr ⟨lw_p29, List.forall_mem_cons.mpr ⟨lw_p30, List.forall_mem_cons.mpr ⟨lw_p31, fun _ h => absurd h List.not_mem_nil⟩⟩⟩⟩⟩⟩⟩⟩⟩⟩⟩⟩⟩⟩⟩⟩
theorem lw_p32 : lw_okq (⟨"HarbourTextModel", "length", "()I"⟩, 11) := ⟨⟨by decide +kernel, by decide +kernel⟩, List.mem_of_getElem? (i := 555) (by decide +kernel), List.mem_of_getElem? (i := 715) (by decide +kernel), List.mem_of_getElem? (i := 716) (by decide +kernel)⟩
theorem lw_p33 : lw_okq (⟨"HarbourTextModel", "prints", "(I)I"⟩, 11) := ⟨⟨by decide +kernel, by decide +kernel⟩, List.mem_of_getElem? (i := 555) (by decide +kernel), List.mem_of_getElem? (i := 719) (by decide +kernel), List.mem_of_getElem? (i := 720) (by decide +kernel)⟩
theorem lw_p34 : lw_okq (⟨"HarbourTextModel", "puts", "(III)I"⟩, 11) := ⟨⟨by decide +kernel, by decide +kernel⟩, List.mem_of_getElem? (i := 555) (by decide +kernel), List.mem_of_getElem? (i := 723) (by decide +kernel), List.mem_of_getElem? (i := 724) (by decide +kernel)⟩
theorem lw_p35 : lw_okq (⟨"HarbourTextModel", "order", "(I)I"⟩, 11) := ⟨⟨by decide +kernel, by decide +kernel⟩, List.mem_of_getElem? (i := 555) (by decide +kernel), List.mem_of_getElem? (i := 731) (by decide +kernel), List.mem_of_getElem? (i := 732) (by decide +kernel)⟩
theorem lw_p36 : lw_okq (⟨"HarbourTextModel", "isAlike", "(II)Z"⟩, 11) := ⟨⟨by decide +kernel, by decide +kernel⟩, List.mem_of_getElem? (i := 555) (by decide +kernel), List.mem_of_getElem? (i := 743) (by decide +kernel), List.mem_of_getElem? (i := 744) (by decide +kernel)⟩
def lw_privs_3 : List (MethodName × Nat) := [(⟨"HarbourTextModel", "length", "()I"⟩, 11), (⟨"HarbourTextModel", "prints", "(I)I"⟩, 11), (⟨"HarbourTextModel", "puts", "(III)I"⟩, 11), (⟨"HarbourTextModel", "order", "(I)I"⟩, 11), (⟨"HarbourTextModel", "isAlike", "(II)Z"⟩, 11)]
theorem lw_r3 : ∀ q ∈ lw_privs_3, lw_okq q := List.forall_mem_cons.mpr ⟨lw_p32, List.forall_mem_cons.mpr ⟨lw_p33, List.forall_mem_cons.mpr ⟨lw_p34, List.forall_mem_cons.mpr ⟨lw_p35, List.forall_mem_cons.mpr ⟨lw_p36, fun _ h => absurd h List.not_mem_nil⟩⟩⟩⟩⟩
def lw_privs : List (MethodName × Nat) := lw_privs_1 ++ (lw_privs_2 ++ (lw_privs_3))
def lw_tbl : List Cond := k2_sels lw_privs ++ tables_1
theorem lw_privs_ok : ∀ q ∈ lw_privs, lw_okq q := by
  show ∀ q ∈ lw_privs_1 ++ (lw_privs_2 ++ (lw_privs_3)), lw_okq q
  exact List.forall_mem_append.mpr ⟨lw_r1, List.forall_mem_append.mpr ⟨lw_r2, lw_r3⟩⟩
end
section
def lw_good : List Cond := lw_tbl.filter goodWord
theorem gd_t {w : Cond} (h : w ∈ tables_1) (hg : goodWord w = true) : w ∈ lw_good := List.mem_filter.mpr ⟨List.mem_append_right _ h, hg⟩
theorem gd_s {w : Cond} (h : w ∈ k2_sels lw_privs) (hg : goodWord w = true) : w ∈ lw_good := List.mem_filter.mpr ⟨List.mem_append_left _ h, hg⟩
theorem gd_tbl {w : Cond} (h : w ∈ lw_good) : w ∈ lw_tbl := (List.mem_filter.mp h).1
theorem gd_is {w : Cond} (h : w ∈ lw_good) : (w.onTables && w.keeps) = true ∨ ∃ ty, w = .arrayClass ty := good_of_word (List.mem_filter.mp h).2
theorem tb_1 {w : Cond} (h : w ∈ tables_1_1) : w ∈ tables_1 := List.mem_append_left _ h
theorem tb_2 {w : Cond} (h : w ∈ tables_1_2) : w ∈ tables_1 := List.mem_append_right _ (List.mem_append_left _ h)
theorem tb_3 {w : Cond} (h : w ∈ tables_1_3) : w ∈ tables_1 := List.mem_append_right _ (List.mem_append_right _ (List.mem_append_left _ h))
theorem tb_4 {w : Cond} (h : w ∈ tables_1_4) : w ∈ tables_1 := List.mem_append_right _ (List.mem_append_right _ (List.mem_append_right _ h))
def RX0 : String := "HarbourText$BadList"
def TX0 : u_T := fun k => match k with
  | 0 => ("HarbourText$BadList", "entries", "[I", true)
  | _ => ("HarbourText$BadList", "size", "I", false)
def tyX0 : Nat → FieldType := fun k => match k with
  | 0 => .array .int
  | _ => .int
abbrev wsX00 : List Cond := u_ws RX0 TX0 2
theorem nmX0_ok : ∀ a, a < 2 → ∀ b, b < 2 → a ≠ b → (TX0 a).2.1 ≠ (TX0 b).2.1 := by decide +kernel
theorem tyX0_ok : ∀ k, k < 2 → parseFieldDescriptor (TX0 k).2.2.1 = some (tyX0 k) := by decide +kernel
def RX1 : String := "HarbourText$Harbour"
def TX1 : u_T := fun k => match k with
  | 0 => ("HarbourText$Harbour", "kinds", "[I", true)
  | 1 => ("HarbourText$Harbour", "names", "[I", true)
  | 2 => ("HarbourText$Harbour", "numbers", "[I", true)
  | _ => ("HarbourText$Harbour", "size", "I", false)
def tyX1 : Nat → FieldType := fun k => match k with
  | 0 => .array .int
  | 1 => .array .int
  | 2 => .array .int
  | _ => .int
abbrev wsX10 : List Cond := u_ws RX1 TX1 4
theorem nmX1_ok : ∀ a, a < 4 → ∀ b, b < 4 → a ≠ b → (TX1 a).2.1 ≠ (TX1 b).2.1 := by decide +kernel
theorem tyX1_ok : ∀ k, k < 4 → parseFieldDescriptor (TX1 k).2.2.1 = some (tyX1 k) := by decide +kernel
def RX2 : String := "HarbourText$Printout"
def TX2 : u_T := fun k => match k with
  | 0 => ("HarbourText$Printout", "signs", "[C", true)
  | _ => ("HarbourText$Printout", "length", "I", false)
def tyX2 : Nat → FieldType := fun k => match k with
  | 0 => .array .char
  | _ => .int
abbrev wsX20 : List Cond := u_ws RX2 TX2 2
theorem nmX2_ok : ∀ a, a < 2 → ∀ b, b < 2 → a ≠ b → (TX2 a).2.1 ≠ (TX2 b).2.1 := by decide +kernel
theorem tyX2_ok : ∀ k, k < 2 → parseFieldDescriptor (TX2 k).2.2.1 = some (tyX2 k) := by decide +kernel
def RX3 : String := "HarbourText$TextReader"
def TX3 : u_T := fun k => match k with
  | 0 => ("HarbourText$TextReader", "signs", "[C", true)
  | 1 => ("HarbourText$TextReader", "draft", "LHarbourText$Harbour;", true)
  | 2 => ("HarbourText$TextReader", "length", "I", false)
  | 3 => ("HarbourText$TextReader", "place", "I", false)
  | 4 => ("HarbourText$TextReader", "failureNumber", "I", false)
  | _ => ("HarbourText$TextReader", "failurePlace", "I", false)
def tyX3 : Nat → FieldType := fun k => match k with
  | 0 => .array .char
  | 1 => .object "HarbourText$Harbour"
  | 2 => .int
  | 3 => .int
  | 4 => .int
  | _ => .int
abbrev wsX30 : List Cond := u_ws RX3 TX3 6
theorem nmX3_ok : ∀ a, a < 6 → ∀ b, b < 6 → a ≠ b → (TX3 a).2.1 ≠ (TX3 b).2.1 := by decide +kernel
theorem tyX3_ok : ∀ k, k < 6 → parseFieldDescriptor (TX3 k).2.2.1 = some (tyX3 k) := by decide +kernel
def RX4 : String := "HarbourText$Ways"
def TX4 : u_T := fun k => match k with
  | _ => ("HarbourText$Ways", "depths", "[I", true)
def tyX4 : Nat → FieldType := fun k => match k with
  | _ => .array .int
abbrev wsX40 : List Cond := u_ws RX4 TX4 1
theorem nmX4_ok : ∀ a, a < 1 → ∀ b, b < 1 → a ≠ b → (TX4 a).2.1 ≠ (TX4 b).2.1 := by decide +kernel
theorem tyX4_ok : ∀ k, k < 1 → parseFieldDescriptor (TX4 k).2.2.1 = some (tyX4 k) := by decide +kernel
def RX5 : String := "HarbourText"
def TX5 : u_T := fun k => match k with
  | 0 => ("HarbourText", "reader", "LHarbourText$TextReader;", true)
  | 1 => ("HarbourText", "harbour", "LHarbourText$Harbour;", true)
  | 2 => ("HarbourText", "kept", "LHarbourText$Harbour;", true)
  | 3 => ("HarbourText", "ways", "LHarbourText$Ways;", true)
  | 4 => ("HarbourText", "badList", "LHarbourText$BadList;", true)
  | _ => ("HarbourText", "printout", "LHarbourText$Printout;", true)
def tyX5 : Nat → FieldType := fun k => match k with
  | 0 => .object "HarbourText$TextReader"
  | 1 => .object "HarbourText$Harbour"
  | 2 => .object "HarbourText$Harbour"
  | 3 => .object "HarbourText$Ways"
  | 4 => .object "HarbourText$BadList"
  | _ => .object "HarbourText$Printout"
abbrev wsX50 : List Cond := u_ws RX5 TX5 6
theorem nmX5_ok : ∀ a, a < 6 → ∀ b, b < 6 → a ≠ b → (TX5 a).2.1 ≠ (TX5 b).2.1 := by decide +kernel
theorem tyX5_ok : ∀ k, k < 6 → parseFieldDescriptor (TX5 k).2.2.1 = some (tyX5 k) := by decide +kernel
def RX6 : String := "HarbourTextModel"
def TX6 : u_T := fun k => match k with
  | 0 => ("HarbourTextModel", "thrown", "I", false)
  | 1 => ("HarbourTextModel", "text", "[I", true)
  | 2 => ("HarbourTextModel", "signs", "I", false)
  | 3 => ("HarbourTextModel", "failed", "I", false)
  | 4 => ("HarbourTextModel", "failedAt", "I", false)
  | 5 => ("HarbourTextModel", "told", "[I", true)
  | 6 => ("HarbourTextModel", "pieces", "I", false)
  | 7 => ("HarbourTextModel", "kept", "I", false)
  | 8 => ("HarbourTextModel", "coming", "I", false)
  | 9 => ("HarbourTextModel", "deepTo", "[I", true)
  | _ => ("HarbourTextModel", "printed", "[I", true)
def tyX6 : Nat → FieldType := fun k => match k with
  | 0 => .int
  | 1 => .array .int
  | 2 => .int
  | 3 => .int
  | 4 => .int
  | 5 => .array .int
  | 6 => .int
  | 7 => .int
  | 8 => .int
  | 9 => .array .int
  | _ => .array .int
abbrev wsX60 : List Cond := u_ws RX6 TX6 11
theorem nmX6_ok : ∀ a, a < 11 → ∀ b, b < 11 → a ≠ b → (TX6 a).2.1 ≠ (TX6 b).2.1 := by decide +kernel
theorem tyX6_ok : ∀ k, k < 11 → parseFieldDescriptor (TX6 k).2.2.1 = some (tyX6 k) := by decide +kernel
def RL : String := "HarbourTextLaw"
abbrev vwCl : List vw_C := [(RX0, TX0, 2), (RX1, TX1, 4), (RX2, TX2, 2), (RX3, TX3, 6), (RX4, TX4, 1), (RX5, TX5, 6), (RX6, TX6, 11)]
abbrev cX5_init : ByteArray := prog_1_method_1_code
def yX5_init : MethodName := ⟨RX5, "<init>", "()V"⟩
abbrev cX3_init : ByteArray := prog_5_method_1_code
def yX3_init : MethodName := ⟨RX3, "<init>", "()V"⟩
abbrev cX1_init : ByteArray := prog_3_method_1_code
def yX1_init : MethodName := ⟨RX1, "<init>", "()V"⟩
abbrev cX4_init : ByteArray := prog_6_method_1_code
def yX4_init : MethodName := ⟨RX4, "<init>", "()V"⟩
abbrev cX0_init : ByteArray := prog_2_method_1_code
def yX0_init : MethodName := ⟨RX0, "<init>", "()V"⟩
abbrev cX2_init : ByteArray := prog_4_method_1_code
def yX2_init : MethodName := ⟨RX2, "<init>", "()V"⟩
abbrev cX5_sign : ByteArray := prog_1_method_2_code
def yX5_sign : MethodName := ⟨RX5, "sign", "(I)Z"⟩
abbrev cX3_collect : ByteArray := prog_5_method_6_code
def yX3_collect : MethodName := ⟨RX3, "collect", "(I)Z"⟩
abbrev cX5_failure : ByteArray := prog_1_method_4_code
def yX5_failure : MethodName := ⟨RX5, "failure", "(I)I"⟩
abbrev cX3_failureNumber : ByteArray := prog_5_method_3_code
def yX3_failureNumber : MethodName := ⟨RX3, "failureNumber", "()I"⟩
abbrev cX3_failurePlace : ByteArray := prog_5_method_4_code
def yX3_failurePlace : MethodName := ⟨RX3, "failurePlace", "()I"⟩
abbrev cX5_find : ByteArray := prog_1_method_6_code
def yX5_find : MethodName := ⟨RX5, "find", "(II)I"⟩
abbrev cX1_indexOf : ByteArray := prog_3_method_10_code
def yX1_indexOf : MethodName := ⟨RX1, "indexOf", "(II)I"⟩
abbrev cX5_bad : ByteArray := prog_1_method_9_code
def yX5_bad : MethodName := ⟨RX5, "bad", "()I"⟩
abbrev cX0_size : ByteArray := prog_2_method_2_code
def yX0_size : MethodName := ⟨RX0, "size", "()I"⟩
abbrev cX5_unjoined : ByteArray := prog_1_method_10_code
def yX5_unjoined : MethodName := ⟨RX5, "unjoined", "(I)I"⟩
abbrev cX0_entry : ByteArray := prog_2_method_3_code
def yX0_entry : MethodName := ⟨RX0, "entry", "(I)I"⟩
abbrev cX5_print : ByteArray := prog_1_method_11_code
def yX5_print : MethodName := ⟨RX5, "print", "()I"⟩
abbrev cX2_length : ByteArray := prog_4_method_2_code
def yX2_length : MethodName := ⟨RX2, "length", "()I"⟩
abbrev cX5_keep : ByteArray := prog_1_method_13_code
def yX5_keep : MethodName := ⟨RX5, "keep", "()I"⟩
abbrev cX1_copyFrom : ByteArray := prog_3_method_15_code
def yX1_copyFrom : MethodName := ⟨RX1, "copyFrom", "(LHarbourText$Harbour;)V"⟩
abbrev cX1_size : ByteArray := prog_3_method_2_code
def yX1_size : MethodName := ⟨RX1, "size", "()I"⟩
abbrev cX5_compare : ByteArray := prog_1_method_14_code
def yX5_compare : MethodName := ⟨RX5, "compare", "()I"⟩
abbrev cX1_missingIn : ByteArray := prog_3_method_16_code
def yX1_missingIn : MethodName := ⟨RX1, "missingIn", "(LHarbourText$Harbour;)I"⟩
abbrev cX1_changedIn : ByteArray := prog_3_method_17_code
def yX1_changedIn : MethodName := ⟨RX1, "changedIn", "(LHarbourText$Harbour;)I"⟩
abbrev cX1_hasSameNumbers : ByteArray := prog_3_method_18_code
def yX1_hasSameNumbers : MethodName := ⟨RX1, "hasSameNumbers", "(ILHarbourText$Harbour;I)Z"⟩
abbrev cX1_kindOf : ByteArray := prog_3_method_7_code
def yX1_kindOf : MethodName := ⟨RX1, "kindOf", "(I)I"⟩
abbrev cX5_numbersOfKind : ByteArray := prog_1_method_18_code
def yX5_numbersOfKind : MethodName := ⟨RX5, "numbersOfKind", "(I)I"⟩
abbrev cX5_isKind : ByteArray := prog_1_method_17_code
def yX5_isKind : MethodName := ⟨RX5, "isKind", "(I)Z"⟩
abbrev cX1_numberOf : ByteArray := prog_3_method_9_code
def yX1_numberOf : MethodName := ⟨RX1, "numberOf", "(II)I"⟩
abbrev cX5_count : ByteArray := prog_1_method_15_code
def yX5_count : MethodName := ⟨RX5, "count", "(I)I"⟩
abbrev cX3_length : ByteArray := prog_5_method_2_code
def yX3_length : MethodName := ⟨RX3, "length", "()I"⟩
abbrev cX1_sizeOfKind : ByteArray := prog_3_method_11_code
def yX1_sizeOfKind : MethodName := ⟨RX1, "sizeOfKind", "(I)I"⟩
abbrev cL_read : ByteArray := method_3_code
def yL_read : MethodName := ⟨RL, "read", "(LHarbourText;[J)I"⟩
abbrev cX5_read : ByteArray := prog_1_method_3_code
def yX5_read : MethodName := ⟨RX5, "read", "()I"⟩
abbrev cX3_readAll : ByteArray := prog_5_method_7_code
def yX3_readAll : MethodName := ⟨RX3, "readAll", "()Z"⟩
abbrev cX1_clear : ByteArray := prog_3_method_4_code
def yX1_clear : MethodName := ⟨RX1, "clear", "()V"⟩
abbrev cX3_readRow : ByteArray := prog_5_method_8_code
def yX3_readRow : MethodName := ⟨RX3, "readRow", "()Z"⟩
abbrev cX3_kindHere : ByteArray := prog_5_method_16_code
def yX3_kindHere : MethodName := ⟨RX3, "kindHere", "()I"⟩
abbrev cX3_signHere : ByteArray := prog_5_method_17_code
def yX3_signHere : MethodName := ⟨RX3, "signHere", "()I"⟩
abbrev cX3_fail : ByteArray := prog_5_method_18_code
def yX3_fail : MethodName := ⟨RX3, "fail", "(II)Z"⟩
abbrev cX1_isFull : ByteArray := prog_3_method_3_code
def yX1_isFull : MethodName := ⟨RX1, "isFull", "()Z"⟩
abbrev cX3_readName : ByteArray := prog_5_method_9_code
def yX3_readName : MethodName := ⟨RX3, "readName", "(I)Z"⟩
abbrev cX3_readDigits : ByteArray := prog_5_method_14_code
def yX3_readDigits : MethodName := ⟨RX3, "readDigits", "()I"⟩
abbrev cX3_digitHere : ByteArray := prog_5_method_15_code
def yX3_digitHere : MethodName := ⟨RX3, "digitHere", "()I"⟩
abbrev cX1_begin : ByteArray := prog_3_method_5_code
def yX1_begin : MethodName := ⟨RX1, "begin", "(II)V"⟩
abbrev cX3_readSign : ByteArray := prog_5_method_13_code
def yX3_readSign : MethodName := ⟨RX3, "readSign", "(C)Z"⟩
abbrev cX3_readNumber : ByteArray := prog_5_method_10_code
def yX3_readNumber : MethodName := ⟨RX3, "readNumber", "(II)Z"⟩
abbrev cX3_judgeNumber : ByteArray := prog_5_method_11_code
def yX3_judgeNumber : MethodName := ⟨RX3, "judgeNumber", "(III)I"⟩
abbrev cX3_isInRange : ByteArray := prog_5_method_12_code
def yX3_isInRange : MethodName := ⟨RX3, "isInRange", "(III)Z"⟩
abbrev cX1_setNumber : ByteArray := prog_3_method_6_code
def yX1_setNumber : MethodName := ⟨RX1, "setNumber", "(II)V"⟩
abbrev cX3_result : ByteArray := prog_5_method_5_code
def yX3_result : MethodName := ⟨RX3, "result", "()LHarbourText$Harbour;"⟩
abbrev cX0_judge : ByteArray := prog_2_method_4_code
def yX0_judge : MethodName := ⟨RX0, "judge", "(LHarbourText$Harbour;LHarbourText$Ways;)V"⟩
abbrev cX4_spread : ByteArray := prog_6_method_3_code
def yX4_spread : MethodName := ⟨RX4, "spread", "(LHarbourText$Harbour;II)V"⟩
abbrev cX4_spreadOnce : ByteArray := prog_6_method_4_code
def yX4_spreadOnce : MethodName := ⟨RX4, "spreadOnce", "(LHarbourText$Harbour;I)Z"⟩
abbrev cX4_spreadAlong : ByteArray := prog_6_method_5_code
def yX4_spreadAlong : MethodName := ⟨RX4, "spreadAlong", "(LHarbourText$Harbour;I)Z"⟩
abbrev cX4_deepen : ByteArray := prog_6_method_6_code
def yX4_deepen : MethodName := ⟨RX4, "deepen", "(III)Z"⟩
abbrev cX5_isPoint : ByteArray := prog_1_method_16_code
def yX5_isPoint : MethodName := ⟨RX5, "isPoint", "(I)Z"⟩
abbrev cX0_addAll : ByteArray := prog_2_method_5_code
def yX0_addAll : MethodName := ⟨RX0, "addAll", "(LHarbourText$Harbour;LHarbourText$Ways;I)V"⟩
abbrev cX0_holds : ByteArray := prog_2_method_6_code
def yX0_holds : MethodName := ⟨RX0, "holds", "(LHarbourText$Harbour;LHarbourText$Ways;II)Z"⟩
abbrev cX1_hasPieceAt : ByteArray := prog_3_method_14_code
def yX1_hasPieceAt : MethodName := ⟨RX1, "hasPieceAt", "(II)Z"⟩
abbrev cX4_depthAt : ByteArray := prog_6_method_2_code
def yX4_depthAt : MethodName := ⟨RX4, "depthAt", "(I)I"⟩
abbrev cX2_write : ByteArray := prog_4_method_4_code
def yX2_write : MethodName := ⟨RX2, "write", "(LHarbourText$Harbour;)V"⟩
abbrev cX1_nextBehind : ByteArray := prog_3_method_13_code
def yX1_nextBehind : MethodName := ⟨RX1, "nextBehind", "(I)I"⟩
abbrev cX1_rankOf : ByteArray := prog_3_method_12_code
def yX1_rankOf : MethodName := ⟨RX1, "rankOf", "(I)I"⟩
abbrev cX1_nameOf : ByteArray := prog_3_method_8_code
def yX1_nameOf : MethodName := ⟨RX1, "nameOf", "(I)I"⟩
abbrev cX2_writeRow : ByteArray := prog_4_method_5_code
def yX2_writeRow : MethodName := ⟨RX2, "writeRow", "(LHarbourText$Harbour;I)V"⟩
abbrev cX2_writeSign : ByteArray := prog_4_method_7_code
def yX2_writeSign : MethodName := ⟨RX2, "writeSign", "(C)V"⟩
abbrev cX2_writeNumber : ByteArray := prog_4_method_6_code
def yX2_writeNumber : MethodName := ⟨RX2, "writeNumber", "(I)V"⟩
abbrev cL_piece : ByteArray := method_4_code
def yL_piece : MethodName := ⟨RL, "piece", "(LHarbourText;II[J)I"⟩
abbrev cX5_piece : ByteArray := prog_1_method_5_code
def yX5_piece : MethodName := ⟨RX5, "piece", "(II)I"⟩
abbrev cL_reach : ByteArray := method_5_code
def yL_reach : MethodName := ⟨RL, "reach", "(LHarbourText;III[J)I"⟩
abbrev cX5_reach : ByteArray := prog_1_method_7_code
def yX5_reach : MethodName := ⟨RX5, "reach", "(III)I"⟩
abbrev cL_deep : ByteArray := method_6_code
def yL_deep : MethodName := ⟨RL, "deep", "(LHarbourText;II[J)I"⟩
abbrev cX5_deep : ByteArray := prog_1_method_8_code
def yX5_deep : MethodName := ⟨RX5, "deep", "(II)I"⟩
abbrev cL_at : ByteArray := method_7_code
def yL_at : MethodName := ⟨RL, "at", "(LHarbourText;I[J)I"⟩
abbrev cX5_at : ByteArray := prog_1_method_12_code
def yX5_at : MethodName := ⟨RX5, "at", "(I)I"⟩
abbrev cX2_signAt : ByteArray := prog_4_method_3_code
def yX2_signAt : MethodName := ⟨RX2, "signAt", "(I)I"⟩
abbrev cX6_init : ByteArray := prog_8_method_1_code
def yX6_init : MethodName := ⟨RX6, "<init>", "()V"⟩
abbrev cX6_thrown : ByteArray := prog_8_method_2_code
def yX6_thrown : MethodName := ⟨RX6, "thrown", "()I"⟩
abbrev cX6_sign : ByteArray := prog_8_method_10_code
def yX6_sign : MethodName := ⟨RX6, "sign", "(I)Z"⟩
abbrev cX6_in : ByteArray := prog_8_method_4_code
def yX6_in : MethodName := ⟨RX6, "in", "(III)Z"⟩
abbrev cX6_read : ByteArray := prog_8_method_18_code
def yX6_read : MethodName := ⟨RX6, "read", "()I"⟩
abbrev cX6_readsRow : ByteArray := prog_8_method_17_code
def yX6_readsRow : MethodName := ⟨RX6, "readsRow", "(I)I"⟩
abbrev cX6_kindOf : ByteArray := prog_8_method_7_code
def yX6_kindOf : MethodName := ⟨RX6, "kindOf", "(I)I"⟩
abbrev cX6_letterOf : ByteArray := prog_8_method_6_code
def yX6_letterOf : MethodName := ⟨RX6, "letterOf", "(I)I"⟩
abbrev cX6_fails : ByteArray := prog_8_method_11_code
def yX6_fails : MethodName := ⟨RX6, "fails", "(II)I"⟩
abbrev cX6_readsNumber : ByteArray := prog_8_method_16_code
def yX6_readsNumber : MethodName := ⟨RX6, "readsNumber", "(III)I"⟩
abbrev cX6_numberAt : ByteArray := prog_8_method_13_code
def yX6_numberAt : MethodName := ⟨RX6, "numberAt", "(I)I"⟩
abbrev cX6_signAt : ByteArray := prog_8_method_12_code
def yX6_signAt : MethodName := ⟨RX6, "signAt", "(I)I"⟩
abbrev cX6_isDigit : ByteArray := prog_8_method_5_code
def yX6_isDigit : MethodName := ⟨RX6, "isDigit", "(I)Z"⟩
abbrev cX6_wrong : ByteArray := prog_8_method_15_code
def yX6_wrong : MethodName := ⟨RX6, "wrong", "(II)I"⟩
abbrev cX6_findIn : ByteArray := prog_8_method_14_code
def yX6_findIn : MethodName := ⟨RX6, "findIn", "(IIII)I"⟩
abbrev cX6_isRange : ByteArray := prog_8_method_9_code
def yX6_isRange : MethodName := ⟨RX6, "isRange", "(III)Z"⟩
abbrev cX6_numbersOf : ByteArray := prog_8_method_8_code
def yX6_numbersOf : MethodName := ⟨RX6, "numbersOf", "(I)I"⟩
abbrev cX6_refuse : ByteArray := prog_8_method_3_code
def yX6_refuse : MethodName := ⟨RX6, "refuse", "(I)I"⟩
abbrev cX6_copies : ByteArray := prog_8_method_19_code
def yX6_copies : MethodName := ⟨RX6, "copies", "(III)V"⟩
abbrev cX6_failure : ByteArray := prog_8_method_20_code
def yX6_failure : MethodName := ⟨RX6, "failure", "(I)I"⟩
abbrev cX6_piece : ByteArray := prog_8_method_21_code
def yX6_piece : MethodName := ⟨RX6, "piece", "(II)I"⟩
abbrev cX6_find : ByteArray := prog_8_method_22_code
def yX6_find : MethodName := ⟨RX6, "find", "(II)I"⟩
abbrev cX6_reach : ByteArray := prog_8_method_26_code
def yX6_reach : MethodName := ⟨RX6, "reach", "(III)I"⟩
abbrev cX6_isPoint : ByteArray := prog_8_method_25_code
def yX6_isPoint : MethodName := ⟨RX6, "isPoint", "(I)Z"⟩
abbrev cX6_goes : ByteArray := prog_8_method_24_code
def yX6_goes : MethodName := ⟨RX6, "goes", "(II)V"⟩
abbrev cX6_less : ByteArray := prog_8_method_23_code
def yX6_less : MethodName := ⟨RX6, "less", "(II)I"⟩
abbrev cX6_deep : ByteArray := prog_8_method_27_code
def yX6_deep : MethodName := ⟨RX6, "deep", "(II)I"⟩
abbrev cX6_bad : ByteArray := prog_8_method_31_code
def yX6_bad : MethodName := ⟨RX6, "bad", "()I"⟩
abbrev cX6_badAt : ByteArray := prog_8_method_30_code
def yX6_badAt : MethodName := ⟨RX6, "badAt", "(I)I"⟩
abbrev cX6_isBad : ByteArray := prog_8_method_29_code
def yX6_isBad : MethodName := ⟨RX6, "isBad", "(II)Z"⟩
abbrev cX6_isTouched : ByteArray := prog_8_method_28_code
def yX6_isTouched : MethodName := ⟨RX6, "isTouched", "(II)Z"⟩
abbrev cX6_unjoined : ByteArray := prog_8_method_32_code
def yX6_unjoined : MethodName := ⟨RX6, "unjoined", "(I)I"⟩
abbrev cX6_print : ByteArray := prog_8_method_37_code
def yX6_print : MethodName := ⟨RX6, "print", "()I"⟩
abbrev cX6_length : ByteArray := prog_8_method_36_code
def yX6_length : MethodName := ⟨RX6, "length", "()I"⟩
abbrev cX6_prints : ByteArray := prog_8_method_35_code
def yX6_prints : MethodName := ⟨RX6, "prints", "(I)I"⟩
abbrev cX6_puts : ByteArray := prog_8_method_34_code
def yX6_puts : MethodName := ⟨RX6, "puts", "(III)I"⟩
abbrev cX6_at : ByteArray := prog_8_method_38_code
def yX6_at : MethodName := ⟨RX6, "at", "(I)I"⟩
abbrev cX6_order : ByteArray := prog_8_method_33_code
def yX6_order : MethodName := ⟨RX6, "order", "(I)I"⟩
abbrev cX6_keep : ByteArray := prog_8_method_39_code
def yX6_keep : MethodName := ⟨RX6, "keep", "()I"⟩
abbrev cX6_compare : ByteArray := prog_8_method_41_code
def yX6_compare : MethodName := ⟨RX6, "compare", "()I"⟩
abbrev cX6_isAlike : ByteArray := prog_8_method_40_code
def yX6_isAlike : MethodName := ⟨RX6, "isAlike", "(II)Z"⟩
abbrev cX6_count : ByteArray := prog_8_method_42_code
def yX6_count : MethodName := ⟨RX6, "count", "(I)I"⟩
abbrev cL_law : ByteArray := code
def yL_law : MethodName := ⟨RL, "law", "([I)Z"⟩
theorem w_1 : (Jvm.Cond.initialized "HarbourTextLaw") ∈ lw_good := gd_t (tb_1 (List.mem_of_getElem? (i := 0) rfl)) rfl
theorem w_2 : (Jvm.Cond.initialized "HarbourText") ∈ lw_good := gd_t (tb_1 (List.mem_of_getElem? (i := 1) rfl)) rfl
theorem w_3 : (Jvm.Cond.initialized "HarbourText$TextReader") ∈ lw_good := gd_t (tb_1 (List.mem_of_getElem? (i := 2) rfl)) rfl
theorem w_4 : (Jvm.Cond.initialized "HarbourText$Harbour") ∈ lw_good := gd_t (tb_1 (List.mem_of_getElem? (i := 3) rfl)) rfl
theorem w_5 : (Jvm.Cond.initialized "HarbourText$Ways") ∈ lw_good := gd_t (tb_1 (List.mem_of_getElem? (i := 4) rfl)) rfl
theorem w_6 : (Jvm.Cond.initialized "HarbourText$BadList") ∈ lw_good := gd_t (tb_1 (List.mem_of_getElem? (i := 5) rfl)) rfl
theorem w_7 : (Jvm.Cond.initialized "HarbourText$Printout") ∈ lw_good := gd_t (tb_1 (List.mem_of_getElem? (i := 6) rfl)) rfl
theorem w_8 : (Jvm.Cond.initialized "HarbourTextModel") ∈ lw_good := gd_t (tb_1 (List.mem_of_getElem? (i := 7) rfl)) rfl
theorem w_9 : (Jvm.Cond.initialized "java/lang/Throwable") ∈ lw_good := gd_t (tb_1 (List.mem_of_getElem? (i := 8) rfl)) rfl
theorem w_10 : (Jvm.Cond.initialized "java/lang/Exception") ∈ lw_good := gd_t (tb_1 (List.mem_of_getElem? (i := 9) rfl)) rfl
theorem w_11 : (Jvm.Cond.initialized "java/lang/RuntimeException") ∈ lw_good := gd_t (tb_1 (List.mem_of_getElem? (i := 10) rfl)) rfl
theorem w_12 : (Jvm.Cond.initialized "java/lang/IllegalStateException") ∈ lw_good := gd_t (tb_1 (List.mem_of_getElem? (i := 11) rfl)) rfl
theorem w_13 : (Jvm.Cond.initialized "java/lang/System") ∈ lw_good := gd_t (tb_1 (List.mem_of_getElem? (i := 12) rfl)) rfl
theorem w_14 : (Jvm.Cond.initialized "java/lang/Math") ∈ lw_good := gd_t (tb_1 (List.mem_of_getElem? (i := 13) rfl)) rfl
theorem w_15 : (Jvm.Cond.initialized "java/lang/IndexOutOfBoundsException") ∈ lw_good := gd_t (tb_1 (List.mem_of_getElem? (i := 14) rfl)) rfl
theorem w_16 : (Jvm.Cond.initialized "java/lang/IllegalArgumentException") ∈ lw_good := gd_t (tb_1 (List.mem_of_getElem? (i := 15) rfl)) rfl
theorem w_17 : (Jvm.Cond.classLink "HarbourTextLaw" (8 : Nat) "HarbourText") ∈ lw_good := gd_t (tb_1 (List.mem_of_getElem? (i := 16) rfl)) rfl
theorem w_18 : (Jvm.Cond.instantiable "HarbourText" (6 : Nat)) ∈ lw_good := gd_t (tb_1 (List.mem_of_getElem? (i := 17) rfl)) rfl
theorem w_19 : (Jvm.Cond.methodLink "HarbourTextLaw" (34 : Nat) ({ cls := "HarbourText", name := "<init>", desc := "()V" } : Jvm.MethodName)) ∈ lw_good := gd_t (tb_1 (List.mem_of_getElem? (i := 18) rfl)) rfl
theorem w_20 : (Jvm.Cond.instanceMethod ({ cls := "HarbourText", name := "<init>", desc := "()V" } : Jvm.MethodName)) ∈ lw_good := gd_t (tb_1 (List.mem_of_getElem? (i := 19) rfl)) rfl
theorem w_21 : (Jvm.Cond.code ({ cls := "HarbourText", name := "<init>", desc := "()V" } : Jvm.MethodName) prog_1_method_1_code (1 : Nat) (Option.none : Option Jvm.ClassFile.FieldType)) ∈ lw_good := gd_t (tb_1 (List.mem_of_getElem? (i := 20) rfl)) rfl
theorem w_22 : (Jvm.Cond.methodLink "HarbourText" (1 : Nat) ({ cls := "java/lang/Object", name := "<init>", desc := "()V" } : Jvm.MethodName)) ∈ lw_good := gd_t (tb_1 (List.mem_of_getElem? (i := 21) rfl)) rfl
theorem w_23 : (Jvm.Cond.instanceMethod ({ cls := "java/lang/Object", name := "<init>", desc := "()V" } : Jvm.MethodName)) ∈ lw_good := gd_t (tb_1 (List.mem_of_getElem? (i := 22) rfl)) rfl
theorem w_24 : (Jvm.Cond.code ({ cls := "java/lang/Object", name := "<init>", desc := "()V" } : Jvm.MethodName) object_method_1_code (1 : Nat) (Option.none : Option Jvm.ClassFile.FieldType)) ∈ lw_good := gd_t (tb_1 (List.mem_of_getElem? (i := 23) rfl)) rfl
theorem w_25 : (Jvm.Cond.classLink "HarbourText" (7 : Nat) "HarbourText$TextReader") ∈ lw_good := gd_t (tb_1 (List.mem_of_getElem? (i := 24) rfl)) rfl
theorem w_26 : (Jvm.Cond.instantiable "HarbourText$TextReader" (6 : Nat)) ∈ lw_good := gd_t (tb_1 (List.mem_of_getElem? (i := 25) rfl)) rfl
theorem w_27 : (Jvm.Cond.instanceMethod ({ cls := "HarbourText$TextReader", name := "<init>", desc := "()V" } : Jvm.MethodName)) ∈ lw_good := gd_t (tb_1 (List.mem_of_getElem? (i := 27) rfl)) rfl
theorem w_28 : (Jvm.Cond.code ({ cls := "HarbourText$TextReader", name := "<init>", desc := "()V" } : Jvm.MethodName) prog_5_method_1_code (1 : Nat) (Option.none : Option Jvm.ClassFile.FieldType)) ∈ lw_good := gd_t (tb_1 (List.mem_of_getElem? (i := 28) rfl)) rfl
theorem w_29 : (Jvm.Cond.methodLink "HarbourText$TextReader" (3 : Nat) ({ cls := "java/lang/Object", name := "<init>", desc := "()V" } : Jvm.MethodName)) ∈ lw_good := gd_t (tb_1 (List.mem_of_getElem? (i := 29) rfl)) rfl
theorem w_30 : (Jvm.Cond.classLink "HarbourText$TextReader" (15 : Nat) "HarbourText$Harbour") ∈ lw_good := gd_t (tb_1 (List.mem_of_getElem? (i := 30) rfl)) rfl
theorem w_31 : (Jvm.Cond.instantiable "HarbourText$Harbour" (4 : Nat)) ∈ lw_good := gd_t (tb_1 (List.mem_of_getElem? (i := 31) rfl)) rfl
theorem w_32 : (Jvm.Cond.instanceMethod ({ cls := "HarbourText$Harbour", name := "<init>", desc := "()V" } : Jvm.MethodName)) ∈ lw_good := gd_t (tb_1 (List.mem_of_getElem? (i := 33) rfl)) rfl
theorem w_33 : (Jvm.Cond.code ({ cls := "HarbourText$Harbour", name := "<init>", desc := "()V" } : Jvm.MethodName) prog_3_method_1_code (1 : Nat) (Option.none : Option Jvm.ClassFile.FieldType)) ∈ lw_good := gd_t (tb_1 (List.mem_of_getElem? (i := 34) rfl)) rfl
theorem w_34 : (Jvm.Cond.methodLink "HarbourText$Harbour" (3 : Nat) ({ cls := "java/lang/Object", name := "<init>", desc := "()V" } : Jvm.MethodName)) ∈ lw_good := gd_t (tb_1 (List.mem_of_getElem? (i := 35) rfl)) rfl
theorem w_35 : (Jvm.Cond.fieldLink "HarbourText$Harbour" (9 : Nat) "HarbourText$Harbour" "kinds" "[I") ∈ lw_good := gd_t (tb_1 (List.mem_of_getElem? (i := 36) rfl)) rfl
theorem w_36 : (Jvm.Cond.fieldLink "HarbourText$Harbour" (15 : Nat) "HarbourText$Harbour" "names" "[I") ∈ lw_good := gd_t (tb_1 (List.mem_of_getElem? (i := 37) rfl)) rfl
theorem w_37 : (Jvm.Cond.fieldLink "HarbourText$Harbour" (18 : Nat) "HarbourText$Harbour" "numbers" "[I") ∈ lw_good := gd_t (tb_1 (List.mem_of_getElem? (i := 38) rfl)) rfl
theorem w_38 : (Jvm.Cond.fieldLink "HarbourText$Harbour" (21 : Nat) "HarbourText$Harbour" "size" "I") ∈ lw_good := gd_t (tb_1 (List.mem_of_getElem? (i := 39) rfl)) rfl
theorem w_39 : (Jvm.Cond.laysFinal "HarbourText$Harbour" "HarbourText$Harbour" "kinds" "[I") ∈ lw_good := gd_t (tb_1 (List.mem_of_getElem? (i := 40) rfl)) rfl
theorem w_40 : (Jvm.Cond.soleField "HarbourText$Harbour" "kinds") ∈ lw_good := gd_t (tb_1 (List.mem_of_getElem? (i := 41) rfl)) rfl
theorem w_41 : (Jvm.Cond.laysFinal "HarbourText$Harbour" "HarbourText$Harbour" "names" "[I") ∈ lw_good := gd_t (tb_1 (List.mem_of_getElem? (i := 42) rfl)) rfl
theorem w_42 : (Jvm.Cond.soleField "HarbourText$Harbour" "names") ∈ lw_good := gd_t (tb_1 (List.mem_of_getElem? (i := 43) rfl)) rfl
theorem w_43 : (Jvm.Cond.laysFinal "HarbourText$Harbour" "HarbourText$Harbour" "numbers" "[I") ∈ lw_good := gd_t (tb_1 (List.mem_of_getElem? (i := 44) rfl)) rfl
theorem w_44 : (Jvm.Cond.soleField "HarbourText$Harbour" "numbers") ∈ lw_good := gd_t (tb_1 (List.mem_of_getElem? (i := 45) rfl)) rfl
theorem w_45 : (Jvm.Cond.lays "HarbourText$Harbour" "HarbourText$Harbour" "size" "I") ∈ lw_good := gd_t (tb_1 (List.mem_of_getElem? (i := 46) rfl)) rfl
theorem w_46 : (Jvm.Cond.soleField "HarbourText$Harbour" "size") ∈ lw_good := gd_t (tb_1 (List.mem_of_getElem? (i := 47) rfl)) rfl
theorem w_47 : (Jvm.Cond.superclass "HarbourText$Harbour" "java/lang/Object") ∈ lw_good := gd_t (tb_1 (List.mem_of_getElem? (i := 48) rfl)) rfl
theorem w_48 : (Jvm.Cond.arrayClass Jvm.ClassFile.FieldType.char) ∈ lw_good := gd_t (tb_1 (List.mem_of_getElem? (i := 49) rfl)) rfl
theorem w_49 : (Jvm.Cond.arrayClass Jvm.ClassFile.FieldType.int) ∈ lw_good := gd_t (tb_1 (List.mem_of_getElem? (i := 50) rfl)) rfl
theorem w_50 : (Jvm.Cond.fieldLink "HarbourText$TextReader" (9 : Nat) "HarbourText$TextReader" "signs" "[C") ∈ lw_good := gd_t (tb_1 (List.mem_of_getElem? (i := 51) rfl)) rfl
theorem w_51 : (Jvm.Cond.fieldLink "HarbourText$TextReader" (18 : Nat) "HarbourText$TextReader" "draft" "LHarbourText$Harbour;") ∈ lw_good := gd_t (tb_1 (List.mem_of_getElem? (i := 52) rfl)) rfl
theorem w_52 : (Jvm.Cond.fieldLink "HarbourText$TextReader" (22 : Nat) "HarbourText$TextReader" "length" "I") ∈ lw_good := gd_t (tb_1 (List.mem_of_getElem? (i := 53) rfl)) rfl
theorem w_53 : (Jvm.Cond.fieldLink "HarbourText$TextReader" (26 : Nat) "HarbourText$TextReader" "place" "I") ∈ lw_good := gd_t (tb_1 (List.mem_of_getElem? (i := 54) rfl)) rfl
theorem w_54 : (Jvm.Cond.fieldLink "HarbourText$TextReader" (29 : Nat) "HarbourText$TextReader" "failureNumber" "I") ∈ lw_good := gd_t (tb_1 (List.mem_of_getElem? (i := 55) rfl)) rfl
theorem w_55 : (Jvm.Cond.fieldLink "HarbourText$TextReader" (32 : Nat) "HarbourText$TextReader" "failurePlace" "I") ∈ lw_good := gd_t (tb_1 (List.mem_of_getElem? (i := 56) rfl)) rfl
theorem w_56 : (Jvm.Cond.laysFinal "HarbourText$TextReader" "HarbourText$TextReader" "signs" "[C") ∈ lw_good := gd_t (tb_1 (List.mem_of_getElem? (i := 57) rfl)) rfl
theorem w_57 : (Jvm.Cond.soleField "HarbourText$TextReader" "signs") ∈ lw_good := gd_t (tb_1 (List.mem_of_getElem? (i := 58) rfl)) rfl
theorem w_58 : (Jvm.Cond.laysFinal "HarbourText$TextReader" "HarbourText$TextReader" "draft" "LHarbourText$Harbour;") ∈ lw_good := gd_t (tb_1 (List.mem_of_getElem? (i := 59) rfl)) rfl
theorem w_59 : (Jvm.Cond.soleField "HarbourText$TextReader" "draft") ∈ lw_good := gd_t (tb_1 (List.mem_of_getElem? (i := 60) rfl)) rfl
theorem w_60 : (Jvm.Cond.lays "HarbourText$TextReader" "HarbourText$TextReader" "length" "I") ∈ lw_good := gd_t (tb_1 (List.mem_of_getElem? (i := 61) rfl)) rfl
theorem w_61 : (Jvm.Cond.soleField "HarbourText$TextReader" "length") ∈ lw_good := gd_t (tb_1 (List.mem_of_getElem? (i := 62) rfl)) rfl
theorem w_62 : (Jvm.Cond.lays "HarbourText$TextReader" "HarbourText$TextReader" "place" "I") ∈ lw_good := gd_t (tb_1 (List.mem_of_getElem? (i := 63) rfl)) rfl
theorem w_63 : (Jvm.Cond.soleField "HarbourText$TextReader" "place") ∈ lw_good := gd_t (tb_1 (List.mem_of_getElem? (i := 64) rfl)) rfl
theorem w_64 : (Jvm.Cond.lays "HarbourText$TextReader" "HarbourText$TextReader" "failureNumber" "I") ∈ lw_good := gd_t (tb_1 (List.mem_of_getElem? (i := 65) rfl)) rfl
theorem w_65 : (Jvm.Cond.soleField "HarbourText$TextReader" "failureNumber") ∈ lw_good := gd_t (tb_1 (List.mem_of_getElem? (i := 66) rfl)) rfl
theorem w_66 : (Jvm.Cond.lays "HarbourText$TextReader" "HarbourText$TextReader" "failurePlace" "I") ∈ lw_good := gd_t (tb_1 (List.mem_of_getElem? (i := 67) rfl)) rfl
theorem w_67 : (Jvm.Cond.soleField "HarbourText$TextReader" "failurePlace") ∈ lw_good := gd_t (tb_1 (List.mem_of_getElem? (i := 68) rfl)) rfl
theorem w_68 : (Jvm.Cond.superclass "HarbourText$TextReader" "java/lang/Object") ∈ lw_good := gd_t (tb_1 (List.mem_of_getElem? (i := 69) rfl)) rfl
theorem w_69 : (Jvm.Cond.classLink "HarbourText" (16 : Nat) "HarbourText$Harbour") ∈ lw_good := gd_t (tb_1 (List.mem_of_getElem? (i := 70) rfl)) rfl
theorem w_70 : (Jvm.Cond.classLink "HarbourText" (26 : Nat) "HarbourText$Ways") ∈ lw_good := gd_t (tb_1 (List.mem_of_getElem? (i := 72) rfl)) rfl
theorem w_71 : (Jvm.Cond.instantiable "HarbourText$Ways" (1 : Nat)) ∈ lw_good := gd_t (tb_1 (List.mem_of_getElem? (i := 73) rfl)) rfl
theorem w_72 : (Jvm.Cond.instanceMethod ({ cls := "HarbourText$Ways", name := "<init>", desc := "()V" } : Jvm.MethodName)) ∈ lw_good := gd_t (tb_1 (List.mem_of_getElem? (i := 75) rfl)) rfl
theorem w_73 : (Jvm.Cond.code ({ cls := "HarbourText$Ways", name := "<init>", desc := "()V" } : Jvm.MethodName) prog_6_method_1_code (1 : Nat) (Option.none : Option Jvm.ClassFile.FieldType)) ∈ lw_good := gd_t (tb_1 (List.mem_of_getElem? (i := 76) rfl)) rfl
theorem w_74 : (Jvm.Cond.methodLink "HarbourText$Ways" (3 : Nat) ({ cls := "java/lang/Object", name := "<init>", desc := "()V" } : Jvm.MethodName)) ∈ lw_good := gd_t (tb_1 (List.mem_of_getElem? (i := 77) rfl)) rfl
theorem w_75 : (Jvm.Cond.fieldLink "HarbourText$Ways" (9 : Nat) "HarbourText$Ways" "depths" "[I") ∈ lw_good := gd_t (tb_1 (List.mem_of_getElem? (i := 78) rfl)) rfl
theorem w_76 : (Jvm.Cond.laysFinal "HarbourText$Ways" "HarbourText$Ways" "depths" "[I") ∈ lw_good := gd_t (tb_1 (List.mem_of_getElem? (i := 79) rfl)) rfl
theorem w_77 : (Jvm.Cond.soleField "HarbourText$Ways" "depths") ∈ lw_good := gd_t (tb_1 (List.mem_of_getElem? (i := 80) rfl)) rfl
theorem w_78 : (Jvm.Cond.superclass "HarbourText$Ways" "java/lang/Object") ∈ lw_good := gd_t (tb_1 (List.mem_of_getElem? (i := 81) rfl)) rfl
theorem w_79 : (Jvm.Cond.classLink "HarbourText" (33 : Nat) "HarbourText$BadList") ∈ lw_good := gd_t (tb_1 (List.mem_of_getElem? (i := 82) rfl)) rfl
theorem w_80 : (Jvm.Cond.instantiable "HarbourText$BadList" (2 : Nat)) ∈ lw_good := gd_t (tb_1 (List.mem_of_getElem? (i := 83) rfl)) rfl
theorem w_81 : (Jvm.Cond.instanceMethod ({ cls := "HarbourText$BadList", name := "<init>", desc := "()V" } : Jvm.MethodName)) ∈ lw_good := gd_t (tb_1 (List.mem_of_getElem? (i := 85) rfl)) rfl
theorem w_82 : (Jvm.Cond.code ({ cls := "HarbourText$BadList", name := "<init>", desc := "()V" } : Jvm.MethodName) prog_2_method_1_code (1 : Nat) (Option.none : Option Jvm.ClassFile.FieldType)) ∈ lw_good := gd_t (tb_1 (List.mem_of_getElem? (i := 86) rfl)) rfl
theorem w_83 : (Jvm.Cond.methodLink "HarbourText$BadList" (3 : Nat) ({ cls := "java/lang/Object", name := "<init>", desc := "()V" } : Jvm.MethodName)) ∈ lw_good := gd_t (tb_1 (List.mem_of_getElem? (i := 87) rfl)) rfl
theorem w_84 : (Jvm.Cond.fieldLink "HarbourText$BadList" (9 : Nat) "HarbourText$BadList" "entries" "[I") ∈ lw_good := gd_t (tb_1 (List.mem_of_getElem? (i := 88) rfl)) rfl
theorem w_85 : (Jvm.Cond.fieldLink "HarbourText$BadList" (15 : Nat) "HarbourText$BadList" "size" "I") ∈ lw_good := gd_t (tb_1 (List.mem_of_getElem? (i := 89) rfl)) rfl
theorem w_86 : (Jvm.Cond.laysFinal "HarbourText$BadList" "HarbourText$BadList" "entries" "[I") ∈ lw_good := gd_t (tb_1 (List.mem_of_getElem? (i := 90) rfl)) rfl
theorem w_87 : (Jvm.Cond.soleField "HarbourText$BadList" "entries") ∈ lw_good := gd_t (tb_1 (List.mem_of_getElem? (i := 91) rfl)) rfl
theorem w_88 : (Jvm.Cond.lays "HarbourText$BadList" "HarbourText$BadList" "size" "I") ∈ lw_good := gd_t (tb_1 (List.mem_of_getElem? (i := 92) rfl)) rfl
theorem w_89 : (Jvm.Cond.soleField "HarbourText$BadList" "size") ∈ lw_good := gd_t (tb_1 (List.mem_of_getElem? (i := 93) rfl)) rfl
theorem w_90 : (Jvm.Cond.superclass "HarbourText$BadList" "java/lang/Object") ∈ lw_good := gd_t (tb_1 (List.mem_of_getElem? (i := 94) rfl)) rfl
theorem w_91 : (Jvm.Cond.classLink "HarbourText" (40 : Nat) "HarbourText$Printout") ∈ lw_good := gd_t (tb_1 (List.mem_of_getElem? (i := 95) rfl)) rfl
theorem w_92 : (Jvm.Cond.instantiable "HarbourText$Printout" (2 : Nat)) ∈ lw_good := gd_t (tb_1 (List.mem_of_getElem? (i := 96) rfl)) rfl
theorem w_93 : (Jvm.Cond.instanceMethod ({ cls := "HarbourText$Printout", name := "<init>", desc := "()V" } : Jvm.MethodName)) ∈ lw_good := gd_t (tb_1 (List.mem_of_getElem? (i := 98) rfl)) rfl
theorem w_94 : (Jvm.Cond.code ({ cls := "HarbourText$Printout", name := "<init>", desc := "()V" } : Jvm.MethodName) prog_4_method_1_code (1 : Nat) (Option.none : Option Jvm.ClassFile.FieldType)) ∈ lw_good := gd_t (tb_1 (List.mem_of_getElem? (i := 99) rfl)) rfl
theorem w_95 : (Jvm.Cond.methodLink "HarbourText$Printout" (3 : Nat) ({ cls := "java/lang/Object", name := "<init>", desc := "()V" } : Jvm.MethodName)) ∈ lw_good := gd_t (tb_1 (List.mem_of_getElem? (i := 100) rfl)) rfl
theorem w_96 : (Jvm.Cond.fieldLink "HarbourText$Printout" (9 : Nat) "HarbourText$Printout" "signs" "[C") ∈ lw_good := gd_t (tb_1 (List.mem_of_getElem? (i := 101) rfl)) rfl
theorem w_97 : (Jvm.Cond.fieldLink "HarbourText$Printout" (15 : Nat) "HarbourText$Printout" "length" "I") ∈ lw_good := gd_t (tb_1 (List.mem_of_getElem? (i := 102) rfl)) rfl
theorem w_98 : (Jvm.Cond.laysFinal "HarbourText$Printout" "HarbourText$Printout" "signs" "[C") ∈ lw_good := gd_t (tb_1 (List.mem_of_getElem? (i := 103) rfl)) rfl
theorem w_99 : (Jvm.Cond.soleField "HarbourText$Printout" "signs") ∈ lw_good := gd_t (tb_1 (List.mem_of_getElem? (i := 104) rfl)) rfl
theorem w_100 : (Jvm.Cond.lays "HarbourText$Printout" "HarbourText$Printout" "length" "I") ∈ lw_good := gd_t (tb_1 (List.mem_of_getElem? (i := 105) rfl)) rfl
theorem w_101 : (Jvm.Cond.soleField "HarbourText$Printout" "length") ∈ lw_good := gd_t (tb_1 (List.mem_of_getElem? (i := 106) rfl)) rfl
theorem w_102 : (Jvm.Cond.superclass "HarbourText$Printout" "java/lang/Object") ∈ lw_good := gd_t (tb_1 (List.mem_of_getElem? (i := 107) rfl)) rfl
theorem w_103 : (Jvm.Cond.fieldLink "HarbourText" (10 : Nat) "HarbourText" "reader" "LHarbourText$TextReader;") ∈ lw_good := gd_t (tb_1 (List.mem_of_getElem? (i := 108) rfl)) rfl
theorem w_104 : (Jvm.Cond.fieldLink "HarbourText" (19 : Nat) "HarbourText" "harbour" "LHarbourText$Harbour;") ∈ lw_good := gd_t (tb_1 (List.mem_of_getElem? (i := 109) rfl)) rfl
theorem w_105 : (Jvm.Cond.fieldLink "HarbourText" (23 : Nat) "HarbourText" "kept" "LHarbourText$Harbour;") ∈ lw_good := gd_t (tb_1 (List.mem_of_getElem? (i := 110) rfl)) rfl
theorem w_106 : (Jvm.Cond.fieldLink "HarbourText" (29 : Nat) "HarbourText" "ways" "LHarbourText$Ways;") ∈ lw_good := gd_t (tb_1 (List.mem_of_getElem? (i := 111) rfl)) rfl
theorem w_107 : (Jvm.Cond.fieldLink "HarbourText" (36 : Nat) "HarbourText" "badList" "LHarbourText$BadList;") ∈ lw_good := gd_t (tb_1 (List.mem_of_getElem? (i := 112) rfl)) rfl
theorem w_108 : (Jvm.Cond.fieldLink "HarbourText" (43 : Nat) "HarbourText" "printout" "LHarbourText$Printout;") ∈ lw_good := gd_t (tb_1 (List.mem_of_getElem? (i := 113) rfl)) rfl
theorem w_109 : (Jvm.Cond.laysFinal "HarbourText" "HarbourText" "reader" "LHarbourText$TextReader;") ∈ lw_good := gd_t (tb_1 (List.mem_of_getElem? (i := 114) rfl)) rfl
theorem w_110 : (Jvm.Cond.soleField "HarbourText" "reader") ∈ lw_good := gd_t (tb_1 (List.mem_of_getElem? (i := 115) rfl)) rfl
theorem w_111 : (Jvm.Cond.laysFinal "HarbourText" "HarbourText" "harbour" "LHarbourText$Harbour;") ∈ lw_good := gd_t (tb_1 (List.mem_of_getElem? (i := 116) rfl)) rfl
theorem w_112 : (Jvm.Cond.soleField "HarbourText" "harbour") ∈ lw_good := gd_t (tb_1 (List.mem_of_getElem? (i := 117) rfl)) rfl
theorem w_113 : (Jvm.Cond.laysFinal "HarbourText" "HarbourText" "kept" "LHarbourText$Harbour;") ∈ lw_good := gd_t (tb_1 (List.mem_of_getElem? (i := 118) rfl)) rfl
theorem w_114 : (Jvm.Cond.soleField "HarbourText" "kept") ∈ lw_good := gd_t (tb_1 (List.mem_of_getElem? (i := 119) rfl)) rfl
theorem w_115 : (Jvm.Cond.laysFinal "HarbourText" "HarbourText" "ways" "LHarbourText$Ways;") ∈ lw_good := gd_t (tb_1 (List.mem_of_getElem? (i := 120) rfl)) rfl
theorem w_116 : (Jvm.Cond.soleField "HarbourText" "ways") ∈ lw_good := gd_t (tb_1 (List.mem_of_getElem? (i := 121) rfl)) rfl
theorem w_117 : (Jvm.Cond.laysFinal "HarbourText" "HarbourText" "badList" "LHarbourText$BadList;") ∈ lw_good := gd_t (tb_1 (List.mem_of_getElem? (i := 122) rfl)) rfl
theorem w_118 : (Jvm.Cond.soleField "HarbourText" "badList") ∈ lw_good := gd_t (tb_1 (List.mem_of_getElem? (i := 123) rfl)) rfl
theorem w_119 : (Jvm.Cond.laysFinal "HarbourText" "HarbourText" "printout" "LHarbourText$Printout;") ∈ lw_good := gd_t (tb_1 (List.mem_of_getElem? (i := 124) rfl)) rfl
theorem w_120 : (Jvm.Cond.soleField "HarbourText" "printout") ∈ lw_good := gd_t (tb_1 (List.mem_of_getElem? (i := 125) rfl)) rfl
theorem w_121 : (Jvm.Cond.superclass "HarbourText" "java/lang/Object") ∈ lw_good := gd_t (tb_1 (List.mem_of_getElem? (i := 126) rfl)) rfl
theorem w_122 : (Jvm.Cond.methodLink "HarbourTextLaw" (38 : Nat) ({ cls := "HarbourText", name := "sign", desc := "(I)Z" } : Jvm.MethodName)) ∈ lw_good := gd_t (tb_1 (List.mem_of_getElem? (i := 127) rfl)) rfl
theorem w_123 : (Jvm.Cond.instanceMethod ({ cls := "HarbourText", name := "sign", desc := "(I)Z" } : Jvm.MethodName)) ∈ lw_good := gd_t (tb_1 (List.mem_of_getElem? (i := 128) rfl)) rfl
theorem w_124 : (Jvm.Cond.selects "HarbourText" ({ cls := "HarbourText", name := "sign", desc := "(I)Z" } : Jvm.MethodName) ({ cls := "HarbourText", name := "sign", desc := "(I)Z" } : Jvm.MethodName)) ∈ lw_good := gd_t (tb_1 (List.mem_of_getElem? (i := 129) rfl)) rfl
theorem w_125 : (Jvm.Cond.code ({ cls := "HarbourText", name := "sign", desc := "(I)Z" } : Jvm.MethodName) prog_1_method_2_code (2 : Nat) (Option.some Jvm.ClassFile.FieldType.boolean)) ∈ lw_good := gd_t (tb_1 (List.mem_of_getElem? (i := 130) rfl)) rfl
theorem w_126 : (Jvm.Cond.methodLink "HarbourText" (47 : Nat) ({ cls := "HarbourText$TextReader", name := "collect", desc := "(I)Z" } : Jvm.MethodName)) ∈ lw_good := gd_t (tb_1 (List.mem_of_getElem? (i := 131) rfl)) rfl
theorem w_127 : (Jvm.Cond.instanceMethod ({ cls := "HarbourText$TextReader", name := "collect", desc := "(I)Z" } : Jvm.MethodName)) ∈ lw_good := gd_t (tb_1 (List.mem_of_getElem? (i := 132) rfl)) rfl
theorem w_128 : (Jvm.Cond.selects "HarbourText$TextReader" ({ cls := "HarbourText$TextReader", name := "collect", desc := "(I)Z" } : Jvm.MethodName) ({ cls := "HarbourText$TextReader", name := "collect", desc := "(I)Z" } : Jvm.MethodName)) ∈ lw_good := gd_t (tb_1 (List.mem_of_getElem? (i := 133) rfl)) rfl
theorem w_129 : (Jvm.Cond.code ({ cls := "HarbourText$TextReader", name := "collect", desc := "(I)Z" } : Jvm.MethodName) prog_5_method_6_code (2 : Nat) (Option.some Jvm.ClassFile.FieldType.boolean)) ∈ lw_good := gd_t (tb_1 (List.mem_of_getElem? (i := 134) rfl)) rfl
theorem w_130 : (Jvm.Cond.methodLink "HarbourTextLaw" (52 : Nat) ({ cls := "HarbourText", name := "failure", desc := "(I)I" } : Jvm.MethodName)) ∈ lw_good := gd_t (tb_1 (List.mem_of_getElem? (i := 135) rfl)) rfl
theorem w_131 : (Jvm.Cond.instanceMethod ({ cls := "HarbourText", name := "failure", desc := "(I)I" } : Jvm.MethodName)) ∈ lw_good := gd_t (tb_1 (List.mem_of_getElem? (i := 136) rfl)) rfl
theorem w_132 : (Jvm.Cond.selects "HarbourText" ({ cls := "HarbourText", name := "failure", desc := "(I)I" } : Jvm.MethodName) ({ cls := "HarbourText", name := "failure", desc := "(I)I" } : Jvm.MethodName)) ∈ lw_good := gd_t (tb_1 (List.mem_of_getElem? (i := 137) rfl)) rfl
theorem w_133 : (Jvm.Cond.code ({ cls := "HarbourText", name := "failure", desc := "(I)I" } : Jvm.MethodName) prog_1_method_4_code (2 : Nat) (Option.some Jvm.ClassFile.FieldType.int)) ∈ lw_good := gd_t (tb_1 (List.mem_of_getElem? (i := 138) rfl)) rfl
theorem w_134 : (Jvm.Cond.methodLink "HarbourText" (81 : Nat) ({ cls := "HarbourText$TextReader", name := "failureNumber", desc := "()I" } : Jvm.MethodName)) ∈ lw_good := gd_t (tb_1 (List.mem_of_getElem? (i := 139) rfl)) rfl
theorem w_135 : (Jvm.Cond.instanceMethod ({ cls := "HarbourText$TextReader", name := "failureNumber", desc := "()I" } : Jvm.MethodName)) ∈ lw_good := gd_t (tb_1 (List.mem_of_getElem? (i := 140) rfl)) rfl
theorem w_136 : (Jvm.Cond.selects "HarbourText$TextReader" ({ cls := "HarbourText$TextReader", name := "failureNumber", desc := "()I" } : Jvm.MethodName) ({ cls := "HarbourText$TextReader", name := "failureNumber", desc := "()I" } : Jvm.MethodName)) ∈ lw_good := gd_t (tb_1 (List.mem_of_getElem? (i := 141) rfl)) rfl
theorem w_137 : (Jvm.Cond.code ({ cls := "HarbourText$TextReader", name := "failureNumber", desc := "()I" } : Jvm.MethodName) prog_5_method_3_code (1 : Nat) (Option.some Jvm.ClassFile.FieldType.int)) ∈ lw_good := gd_t (tb_1 (List.mem_of_getElem? (i := 142) rfl)) rfl
theorem w_138 : (Jvm.Cond.methodLink "HarbourText" (84 : Nat) ({ cls := "HarbourText$TextReader", name := "failurePlace", desc := "()I" } : Jvm.MethodName)) ∈ lw_good := gd_t (tb_1 (List.mem_of_getElem? (i := 143) rfl)) rfl
theorem w_139 : (Jvm.Cond.instanceMethod ({ cls := "HarbourText$TextReader", name := "failurePlace", desc := "()I" } : Jvm.MethodName)) ∈ lw_good := gd_t (tb_1 (List.mem_of_getElem? (i := 144) rfl)) rfl
theorem w_140 : (Jvm.Cond.selects "HarbourText$TextReader" ({ cls := "HarbourText$TextReader", name := "failurePlace", desc := "()I" } : Jvm.MethodName) ({ cls := "HarbourText$TextReader", name := "failurePlace", desc := "()I" } : Jvm.MethodName)) ∈ lw_good := gd_t (tb_1 (List.mem_of_getElem? (i := 145) rfl)) rfl
theorem w_141 : (Jvm.Cond.code ({ cls := "HarbourText$TextReader", name := "failurePlace", desc := "()I" } : Jvm.MethodName) prog_5_method_4_code (1 : Nat) (Option.some Jvm.ClassFile.FieldType.int)) ∈ lw_good := gd_t (tb_1 (List.mem_of_getElem? (i := 146) rfl)) rfl
theorem w_142 : (Jvm.Cond.methodLink "HarbourTextLaw" (60 : Nat) ({ cls := "HarbourText", name := "find", desc := "(II)I" } : Jvm.MethodName)) ∈ lw_good := gd_t (tb_1 (List.mem_of_getElem? (i := 147) rfl)) rfl
theorem w_143 : (Jvm.Cond.instanceMethod ({ cls := "HarbourText", name := "find", desc := "(II)I" } : Jvm.MethodName)) ∈ lw_good := gd_t (tb_1 (List.mem_of_getElem? (i := 148) rfl)) rfl
theorem w_144 : (Jvm.Cond.selects "HarbourText" ({ cls := "HarbourText", name := "find", desc := "(II)I" } : Jvm.MethodName) ({ cls := "HarbourText", name := "find", desc := "(II)I" } : Jvm.MethodName)) ∈ lw_good := gd_t (tb_1 (List.mem_of_getElem? (i := 149) rfl)) rfl
theorem w_145 : (Jvm.Cond.code ({ cls := "HarbourText", name := "find", desc := "(II)I" } : Jvm.MethodName) prog_1_method_6_code (3 : Nat) (Option.some Jvm.ClassFile.FieldType.int)) ∈ lw_good := gd_t (tb_1 (List.mem_of_getElem? (i := 150) rfl)) rfl
theorem w_146 : (Jvm.Cond.methodLink "HarbourText" (108 : Nat) ({ cls := "HarbourText$Harbour", name := "indexOf", desc := "(II)I" } : Jvm.MethodName)) ∈ lw_good := gd_t (tb_1 (List.mem_of_getElem? (i := 151) rfl)) rfl
theorem w_147 : (Jvm.Cond.instanceMethod ({ cls := "HarbourText$Harbour", name := "indexOf", desc := "(II)I" } : Jvm.MethodName)) ∈ lw_good := gd_t (tb_1 (List.mem_of_getElem? (i := 152) rfl)) rfl
theorem w_148 : (Jvm.Cond.selects "HarbourText$Harbour" ({ cls := "HarbourText$Harbour", name := "indexOf", desc := "(II)I" } : Jvm.MethodName) ({ cls := "HarbourText$Harbour", name := "indexOf", desc := "(II)I" } : Jvm.MethodName)) ∈ lw_good := gd_t (tb_1 (List.mem_of_getElem? (i := 153) rfl)) rfl
theorem w_149 : (Jvm.Cond.code ({ cls := "HarbourText$Harbour", name := "indexOf", desc := "(II)I" } : Jvm.MethodName) prog_3_method_10_code (4 : Nat) (Option.some Jvm.ClassFile.FieldType.int)) ∈ lw_good := gd_t (tb_1 (List.mem_of_getElem? (i := 154) rfl)) rfl
theorem w_150 : (Jvm.Cond.methodLink "HarbourTextLaw" (71 : Nat) ({ cls := "HarbourText", name := "bad", desc := "()I" } : Jvm.MethodName)) ∈ lw_good := gd_t (tb_1 (List.mem_of_getElem? (i := 155) rfl)) rfl
theorem w_151 : (Jvm.Cond.instanceMethod ({ cls := "HarbourText", name := "bad", desc := "()I" } : Jvm.MethodName)) ∈ lw_good := gd_t (tb_1 (List.mem_of_getElem? (i := 156) rfl)) rfl
theorem w_152 : (Jvm.Cond.selects "HarbourText" ({ cls := "HarbourText", name := "bad", desc := "()I" } : Jvm.MethodName) ({ cls := "HarbourText", name := "bad", desc := "()I" } : Jvm.MethodName)) ∈ lw_good := gd_t (tb_1 (List.mem_of_getElem? (i := 157) rfl)) rfl
theorem w_153 : (Jvm.Cond.code ({ cls := "HarbourText", name := "bad", desc := "()I" } : Jvm.MethodName) prog_1_method_9_code (1 : Nat) (Option.some Jvm.ClassFile.FieldType.int)) ∈ lw_good := gd_t (tb_1 (List.mem_of_getElem? (i := 158) rfl)) rfl
theorem w_154 : (Jvm.Cond.methodLink "HarbourText" (128 : Nat) ({ cls := "HarbourText$BadList", name := "size", desc := "()I" } : Jvm.MethodName)) ∈ lw_good := gd_t (tb_1 (List.mem_of_getElem? (i := 159) rfl)) rfl
theorem w_155 : (Jvm.Cond.instanceMethod ({ cls := "HarbourText$BadList", name := "size", desc := "()I" } : Jvm.MethodName)) ∈ lw_good := gd_t (tb_1 (List.mem_of_getElem? (i := 160) rfl)) rfl
theorem w_156 : (Jvm.Cond.selects "HarbourText$BadList" ({ cls := "HarbourText$BadList", name := "size", desc := "()I" } : Jvm.MethodName) ({ cls := "HarbourText$BadList", name := "size", desc := "()I" } : Jvm.MethodName)) ∈ lw_good := gd_t (tb_1 (List.mem_of_getElem? (i := 161) rfl)) rfl
theorem w_157 : (Jvm.Cond.code ({ cls := "HarbourText$BadList", name := "size", desc := "()I" } : Jvm.MethodName) prog_2_method_2_code (1 : Nat) (Option.some Jvm.ClassFile.FieldType.int)) ∈ lw_good := gd_t (tb_1 (List.mem_of_getElem? (i := 162) rfl)) rfl
theorem w_158 : (Jvm.Cond.methodLink "HarbourTextLaw" (75 : Nat) ({ cls := "HarbourText", name := "unjoined", desc := "(I)I" } : Jvm.MethodName)) ∈ lw_good := gd_t (tb_1 (List.mem_of_getElem? (i := 163) rfl)) rfl
theorem w_159 : (Jvm.Cond.instanceMethod ({ cls := "HarbourText", name := "unjoined", desc := "(I)I" } : Jvm.MethodName)) ∈ lw_good := gd_t (tb_1 (List.mem_of_getElem? (i := 164) rfl)) rfl
theorem w_160 : (Jvm.Cond.selects "HarbourText" ({ cls := "HarbourText", name := "unjoined", desc := "(I)I" } : Jvm.MethodName) ({ cls := "HarbourText", name := "unjoined", desc := "(I)I" } : Jvm.MethodName)) ∈ lw_good := gd_t (tb_1 (List.mem_of_getElem? (i := 165) rfl)) rfl
theorem w_161 : (Jvm.Cond.code ({ cls := "HarbourText", name := "unjoined", desc := "(I)I" } : Jvm.MethodName) prog_1_method_10_code (2 : Nat) (Option.some Jvm.ClassFile.FieldType.int)) ∈ lw_good := gd_t (tb_1 (List.mem_of_getElem? (i := 166) rfl)) rfl
theorem w_162 : (Jvm.Cond.methodLink "HarbourText" (129 : Nat) ({ cls := "HarbourText$BadList", name := "entry", desc := "(I)I" } : Jvm.MethodName)) ∈ lw_good := gd_t (tb_1 (List.mem_of_getElem? (i := 167) rfl)) rfl
theorem w_163 : (Jvm.Cond.instanceMethod ({ cls := "HarbourText$BadList", name := "entry", desc := "(I)I" } : Jvm.MethodName)) ∈ lw_good := gd_t (tb_1 (List.mem_of_getElem? (i := 168) rfl)) rfl
theorem w_164 : (Jvm.Cond.selects "HarbourText$BadList" ({ cls := "HarbourText$BadList", name := "entry", desc := "(I)I" } : Jvm.MethodName) ({ cls := "HarbourText$BadList", name := "entry", desc := "(I)I" } : Jvm.MethodName)) ∈ lw_good := gd_t (tb_1 (List.mem_of_getElem? (i := 169) rfl)) rfl
theorem w_165 : (Jvm.Cond.code ({ cls := "HarbourText$BadList", name := "entry", desc := "(I)I" } : Jvm.MethodName) prog_2_method_3_code (2 : Nat) (Option.some Jvm.ClassFile.FieldType.int)) ∈ lw_good := gd_t (tb_1 (List.mem_of_getElem? (i := 170) rfl)) rfl
theorem w_166 : (Jvm.Cond.methodLink "HarbourTextLaw" (79 : Nat) ({ cls := "HarbourText", name := "print", desc := "()I" } : Jvm.MethodName)) ∈ lw_good := gd_t (tb_1 (List.mem_of_getElem? (i := 171) rfl)) rfl
theorem w_167 : (Jvm.Cond.instanceMethod ({ cls := "HarbourText", name := "print", desc := "()I" } : Jvm.MethodName)) ∈ lw_good := gd_t (tb_1 (List.mem_of_getElem? (i := 172) rfl)) rfl
theorem w_168 : (Jvm.Cond.selects "HarbourText" ({ cls := "HarbourText", name := "print", desc := "()I" } : Jvm.MethodName) ({ cls := "HarbourText", name := "print", desc := "()I" } : Jvm.MethodName)) ∈ lw_good := gd_t (tb_1 (List.mem_of_getElem? (i := 173) rfl)) rfl
theorem w_169 : (Jvm.Cond.code ({ cls := "HarbourText", name := "print", desc := "()I" } : Jvm.MethodName) prog_1_method_11_code (1 : Nat) (Option.some Jvm.ClassFile.FieldType.int)) ∈ lw_good := gd_t (tb_1 (List.mem_of_getElem? (i := 174) rfl)) rfl
theorem w_170 : (Jvm.Cond.methodLink "HarbourText" (132 : Nat) ({ cls := "HarbourText$Printout", name := "length", desc := "()I" } : Jvm.MethodName)) ∈ lw_good := gd_t (tb_1 (List.mem_of_getElem? (i := 175) rfl)) rfl
theorem w_171 : (Jvm.Cond.instanceMethod ({ cls := "HarbourText$Printout", name := "length", desc := "()I" } : Jvm.MethodName)) ∈ lw_good := gd_t (tb_1 (List.mem_of_getElem? (i := 176) rfl)) rfl
theorem w_172 : (Jvm.Cond.selects "HarbourText$Printout" ({ cls := "HarbourText$Printout", name := "length", desc := "()I" } : Jvm.MethodName) ({ cls := "HarbourText$Printout", name := "length", desc := "()I" } : Jvm.MethodName)) ∈ lw_good := gd_t (tb_1 (List.mem_of_getElem? (i := 177) rfl)) rfl
theorem w_173 : (Jvm.Cond.code ({ cls := "HarbourText$Printout", name := "length", desc := "()I" } : Jvm.MethodName) prog_4_method_2_code (1 : Nat) (Option.some Jvm.ClassFile.FieldType.int)) ∈ lw_good := gd_t (tb_1 (List.mem_of_getElem? (i := 178) rfl)) rfl
theorem w_174 : (Jvm.Cond.methodLink "HarbourTextLaw" (87 : Nat) ({ cls := "HarbourText", name := "keep", desc := "()I" } : Jvm.MethodName)) ∈ lw_good := gd_t (tb_1 (List.mem_of_getElem? (i := 179) rfl)) rfl
theorem w_175 : (Jvm.Cond.instanceMethod ({ cls := "HarbourText", name := "keep", desc := "()I" } : Jvm.MethodName)) ∈ lw_good := gd_t (tb_1 (List.mem_of_getElem? (i := 180) rfl)) rfl
theorem w_176 : (Jvm.Cond.selects "HarbourText" ({ cls := "HarbourText", name := "keep", desc := "()I" } : Jvm.MethodName) ({ cls := "HarbourText", name := "keep", desc := "()I" } : Jvm.MethodName)) ∈ lw_good := gd_t (tb_1 (List.mem_of_getElem? (i := 181) rfl)) rfl
theorem w_177 : (Jvm.Cond.code ({ cls := "HarbourText", name := "keep", desc := "()I" } : Jvm.MethodName) prog_1_method_13_code (1 : Nat) (Option.some Jvm.ClassFile.FieldType.int)) ∈ lw_good := gd_t (tb_1 (List.mem_of_getElem? (i := 182) rfl)) rfl
theorem w_178 : (Jvm.Cond.methodLink "HarbourText" (66 : Nat) ({ cls := "HarbourText$Harbour", name := "copyFrom", desc := "(LHarbourText$Harbour;)V" } : Jvm.MethodName)) ∈ lw_good := gd_t (tb_1 (List.mem_of_getElem? (i := 183) rfl)) rfl
theorem w_179 : (Jvm.Cond.instanceMethod ({ cls := "HarbourText$Harbour", name := "copyFrom", desc := "(LHarbourText$Harbour;)V" } : Jvm.MethodName)) ∈ lw_good := gd_t (tb_1 (List.mem_of_getElem? (i := 184) rfl)) rfl
theorem w_180 : (Jvm.Cond.selects "HarbourText$Harbour" ({ cls := "HarbourText$Harbour", name := "copyFrom", desc := "(LHarbourText$Harbour;)V" } : Jvm.MethodName) ({ cls := "HarbourText$Harbour", name := "copyFrom", desc := "(LHarbourText$Harbour;)V" } : Jvm.MethodName)) ∈ lw_good := gd_t (tb_1 (List.mem_of_getElem? (i := 185) rfl)) rfl
theorem w_181 : (Jvm.Cond.code ({ cls := "HarbourText$Harbour", name := "copyFrom", desc := "(LHarbourText$Harbour;)V" } : Jvm.MethodName) prog_3_method_15_code (2 : Nat) (Option.none : Option Jvm.ClassFile.FieldType)) ∈ lw_good := gd_t (tb_1 (List.mem_of_getElem? (i := 186) rfl)) rfl
theorem w_182 : (Jvm.Cond.methodLink "HarbourText$Harbour" (47 : Nat) ({ cls := "java/lang/System", name := "arraycopy", desc := "(Ljava/lang/Object;ILjava/lang/Object;II)V" } : Jvm.MethodName)) ∈ lw_good := gd_t (tb_1 (List.mem_of_getElem? (i := 187) rfl)) rfl
theorem w_183 : (Jvm.Cond.static ({ cls := "java/lang/System", name := "arraycopy", desc := "(Ljava/lang/Object;ILjava/lang/Object;II)V" } : Jvm.MethodName)) ∈ lw_good := gd_t (tb_1 (List.mem_of_getElem? (i := 188) rfl)) rfl
theorem w_184 : (Jvm.Cond.native ({ cls := "java/lang/System", name := "arraycopy", desc := "(Ljava/lang/Object;ILjava/lang/Object;II)V" } : Jvm.MethodName)) ∈ lw_good := gd_t (tb_1 (List.mem_of_getElem? (i := 189) rfl)) rfl
theorem w_185 : (Jvm.Cond.methodLink "HarbourText" (77 : Nat) ({ cls := "HarbourText$Harbour", name := "size", desc := "()I" } : Jvm.MethodName)) ∈ lw_good := gd_t (tb_1 (List.mem_of_getElem? (i := 190) rfl)) rfl
theorem w_186 : (Jvm.Cond.instanceMethod ({ cls := "HarbourText$Harbour", name := "size", desc := "()I" } : Jvm.MethodName)) ∈ lw_good := gd_t (tb_1 (List.mem_of_getElem? (i := 191) rfl)) rfl
theorem w_187 : (Jvm.Cond.selects "HarbourText$Harbour" ({ cls := "HarbourText$Harbour", name := "size", desc := "()I" } : Jvm.MethodName) ({ cls := "HarbourText$Harbour", name := "size", desc := "()I" } : Jvm.MethodName)) ∈ lw_good := gd_t (tb_1 (List.mem_of_getElem? (i := 192) rfl)) rfl
theorem w_188 : (Jvm.Cond.code ({ cls := "HarbourText$Harbour", name := "size", desc := "()I" } : Jvm.MethodName) prog_3_method_2_code (1 : Nat) (Option.some Jvm.ClassFile.FieldType.int)) ∈ lw_good := gd_t (tb_1 (List.mem_of_getElem? (i := 193) rfl)) rfl
theorem w_189 : (Jvm.Cond.methodLink "HarbourTextLaw" (91 : Nat) ({ cls := "HarbourText", name := "compare", desc := "()I" } : Jvm.MethodName)) ∈ lw_good := gd_t (tb_1 (List.mem_of_getElem? (i := 194) rfl)) rfl
theorem w_190 : (Jvm.Cond.instanceMethod ({ cls := "HarbourText", name := "compare", desc := "()I" } : Jvm.MethodName)) ∈ lw_good := gd_t (tb_1 (List.mem_of_getElem? (i := 195) rfl)) rfl
theorem w_191 : (Jvm.Cond.selects "HarbourText" ({ cls := "HarbourText", name := "compare", desc := "()I" } : Jvm.MethodName) ({ cls := "HarbourText", name := "compare", desc := "()I" } : Jvm.MethodName)) ∈ lw_good := gd_t (tb_1 (List.mem_of_getElem? (i := 196) rfl)) rfl
theorem w_192 : (Jvm.Cond.code ({ cls := "HarbourText", name := "compare", desc := "()I" } : Jvm.MethodName) prog_1_method_14_code (1 : Nat) (Option.some Jvm.ClassFile.FieldType.int)) ∈ lw_good := gd_t (tb_1 (List.mem_of_getElem? (i := 197) rfl)) rfl
theorem w_193 : (Jvm.Cond.methodLink "HarbourText" (140 : Nat) ({ cls := "HarbourText$Harbour", name := "missingIn", desc := "(LHarbourText$Harbour;)I" } : Jvm.MethodName)) ∈ lw_good := gd_t (tb_1 (List.mem_of_getElem? (i := 198) rfl)) rfl
theorem w_194 : (Jvm.Cond.instanceMethod ({ cls := "HarbourText$Harbour", name := "missingIn", desc := "(LHarbourText$Harbour;)I" } : Jvm.MethodName)) ∈ lw_good := gd_t (tb_1 (List.mem_of_getElem? (i := 199) rfl)) rfl
theorem w_195 : (Jvm.Cond.selects "HarbourText$Harbour" ({ cls := "HarbourText$Harbour", name := "missingIn", desc := "(LHarbourText$Harbour;)I" } : Jvm.MethodName) ({ cls := "HarbourText$Harbour", name := "missingIn", desc := "(LHarbourText$Harbour;)I" } : Jvm.MethodName)) ∈ lw_good := gd_t (tb_1 (List.mem_of_getElem? (i := 200) rfl)) rfl
theorem w_196 : (Jvm.Cond.code ({ cls := "HarbourText$Harbour", name := "missingIn", desc := "(LHarbourText$Harbour;)I" } : Jvm.MethodName) prog_3_method_16_code (4 : Nat) (Option.some Jvm.ClassFile.FieldType.int)) ∈ lw_good := gd_t (tb_1 (List.mem_of_getElem? (i := 201) rfl)) rfl
theorem w_197 : (Jvm.Cond.methodLink "HarbourText$Harbour" (53 : Nat) ({ cls := "HarbourText$Harbour", name := "indexOf", desc := "(II)I" } : Jvm.MethodName)) ∈ lw_good := gd_t (tb_1 (List.mem_of_getElem? (i := 202) rfl)) rfl
theorem w_198 : (Jvm.Cond.methodLink "HarbourText" (144 : Nat) ({ cls := "HarbourText$Harbour", name := "changedIn", desc := "(LHarbourText$Harbour;)I" } : Jvm.MethodName)) ∈ lw_good := gd_t (tb_1 (List.mem_of_getElem? (i := 203) rfl)) rfl
theorem w_199 : (Jvm.Cond.instanceMethod ({ cls := "HarbourText$Harbour", name := "changedIn", desc := "(LHarbourText$Harbour;)I" } : Jvm.MethodName)) ∈ lw_good := gd_t (tb_1 (List.mem_of_getElem? (i := 204) rfl)) rfl
theorem w_200 : (Jvm.Cond.selects "HarbourText$Harbour" ({ cls := "HarbourText$Harbour", name := "changedIn", desc := "(LHarbourText$Harbour;)I" } : Jvm.MethodName) ({ cls := "HarbourText$Harbour", name := "changedIn", desc := "(LHarbourText$Harbour;)I" } : Jvm.MethodName)) ∈ lw_good := gd_t (tb_1 (List.mem_of_getElem? (i := 205) rfl)) rfl
theorem w_201 : (Jvm.Cond.code ({ cls := "HarbourText$Harbour", name := "changedIn", desc := "(LHarbourText$Harbour;)I" } : Jvm.MethodName) prog_3_method_17_code (5 : Nat) (Option.some Jvm.ClassFile.FieldType.int)) ∈ lw_good := gd_t (tb_1 (List.mem_of_getElem? (i := 206) rfl)) rfl
theorem w_202 : (Jvm.Cond.methodLink "HarbourText$Harbour" (56 : Nat) ({ cls := "HarbourText$Harbour", name := "hasSameNumbers", desc := "(ILHarbourText$Harbour;I)Z" } : Jvm.MethodName)) ∈ lw_good := gd_t (tb_1 (List.mem_of_getElem? (i := 207) rfl)) rfl
theorem w_203 : (Jvm.Cond.instanceMethod ({ cls := "HarbourText$Harbour", name := "hasSameNumbers", desc := "(ILHarbourText$Harbour;I)Z" } : Jvm.MethodName)) ∈ lw_good := gd_t (tb_1 (List.mem_of_getElem? (i := 209) rfl)) rfl
theorem w_204 : (Jvm.Cond.code ({ cls := "HarbourText$Harbour", name := "hasSameNumbers", desc := "(ILHarbourText$Harbour;I)Z" } : Jvm.MethodName) prog_3_method_18_code (6 : Nat) (Option.some Jvm.ClassFile.FieldType.boolean)) ∈ lw_good := gd_t (tb_1 (List.mem_of_getElem? (i := 210) rfl)) rfl
theorem w_205 : (Jvm.Cond.methodLink "HarbourText$Harbour" (33 : Nat) ({ cls := "HarbourText$Harbour", name := "kindOf", desc := "(I)I" } : Jvm.MethodName)) ∈ lw_good := gd_t (tb_1 (List.mem_of_getElem? (i := 211) rfl)) rfl
theorem w_206 : (Jvm.Cond.instanceMethod ({ cls := "HarbourText$Harbour", name := "kindOf", desc := "(I)I" } : Jvm.MethodName)) ∈ lw_good := gd_t (tb_1 (List.mem_of_getElem? (i := 212) rfl)) rfl
theorem w_207 : (Jvm.Cond.selects "HarbourText$Harbour" ({ cls := "HarbourText$Harbour", name := "kindOf", desc := "(I)I" } : Jvm.MethodName) ({ cls := "HarbourText$Harbour", name := "kindOf", desc := "(I)I" } : Jvm.MethodName)) ∈ lw_good := gd_t (tb_1 (List.mem_of_getElem? (i := 213) rfl)) rfl
theorem w_208 : (Jvm.Cond.code ({ cls := "HarbourText$Harbour", name := "kindOf", desc := "(I)I" } : Jvm.MethodName) prog_3_method_7_code (2 : Nat) (Option.some Jvm.ClassFile.FieldType.int)) ∈ lw_good := gd_t (tb_1 (List.mem_of_getElem? (i := 214) rfl)) rfl
theorem w_209 : (Jvm.Cond.static ({ cls := "HarbourText", name := "numbersOfKind", desc := "(I)I" } : Jvm.MethodName)) ∈ lw_good := gd_t (tb_1 (List.mem_of_getElem? (i := 216) rfl)) rfl
theorem w_210 : (Jvm.Cond.code ({ cls := "HarbourText", name := "numbersOfKind", desc := "(I)I" } : Jvm.MethodName) prog_1_method_18_code (1 : Nat) (Option.some Jvm.ClassFile.FieldType.int)) ∈ lw_good := gd_t (tb_1 (List.mem_of_getElem? (i := 217) rfl)) rfl
theorem w_211 : (Jvm.Cond.methodLink "HarbourText" (151 : Nat) ({ cls := "HarbourText", name := "isKind", desc := "(I)Z" } : Jvm.MethodName)) ∈ lw_good := gd_t (tb_1 (List.mem_of_getElem? (i := 218) rfl)) rfl
theorem w_212 : (Jvm.Cond.static ({ cls := "HarbourText", name := "isKind", desc := "(I)Z" } : Jvm.MethodName)) ∈ lw_good := gd_t (tb_1 (List.mem_of_getElem? (i := 219) rfl)) rfl
theorem w_213 : (Jvm.Cond.code ({ cls := "HarbourText", name := "isKind", desc := "(I)Z" } : Jvm.MethodName) prog_1_method_17_code (1 : Nat) (Option.some Jvm.ClassFile.FieldType.boolean)) ∈ lw_good := gd_t (tb_1 (List.mem_of_getElem? (i := 220) rfl)) rfl
theorem w_214 : (Jvm.Cond.fieldLink "HarbourText" (154 : Nat) "HarbourText" "NUMBERS_OF_KIND" "[I") ∈ lw_good := gd_t (tb_1 (List.mem_of_getElem? (i := 221) rfl)) rfl
theorem w_215 : (Jvm.Cond.methodLink "HarbourText$Harbour" (43 : Nat) ({ cls := "HarbourText$Harbour", name := "numberOf", desc := "(II)I" } : Jvm.MethodName)) ∈ lw_good := gd_t (tb_1 (List.mem_of_getElem? (i := 223) rfl)) rfl
theorem w_216 : (Jvm.Cond.instanceMethod ({ cls := "HarbourText$Harbour", name := "numberOf", desc := "(II)I" } : Jvm.MethodName)) ∈ lw_good := gd_t (tb_1 (List.mem_of_getElem? (i := 224) rfl)) rfl
theorem w_217 : (Jvm.Cond.selects "HarbourText$Harbour" ({ cls := "HarbourText$Harbour", name := "numberOf", desc := "(II)I" } : Jvm.MethodName) ({ cls := "HarbourText$Harbour", name := "numberOf", desc := "(II)I" } : Jvm.MethodName)) ∈ lw_good := gd_t (tb_1 (List.mem_of_getElem? (i := 225) rfl)) rfl
theorem w_218 : (Jvm.Cond.code ({ cls := "HarbourText$Harbour", name := "numberOf", desc := "(II)I" } : Jvm.MethodName) prog_3_method_9_code (3 : Nat) (Option.some Jvm.ClassFile.FieldType.int)) ∈ lw_good := gd_t (tb_1 (List.mem_of_getElem? (i := 226) rfl)) rfl
theorem w_219 : (Jvm.Cond.methodLink "HarbourTextLaw" (95 : Nat) ({ cls := "HarbourText", name := "count", desc := "(I)I" } : Jvm.MethodName)) ∈ lw_good := gd_t (tb_1 (List.mem_of_getElem? (i := 227) rfl)) rfl
theorem w_220 : (Jvm.Cond.instanceMethod ({ cls := "HarbourText", name := "count", desc := "(I)I" } : Jvm.MethodName)) ∈ lw_good := gd_t (tb_1 (List.mem_of_getElem? (i := 228) rfl)) rfl
theorem w_221 : (Jvm.Cond.selects "HarbourText" ({ cls := "HarbourText", name := "count", desc := "(I)I" } : Jvm.MethodName) ({ cls := "HarbourText", name := "count", desc := "(I)I" } : Jvm.MethodName)) ∈ lw_good := gd_t (tb_1 (List.mem_of_getElem? (i := 229) rfl)) rfl
theorem w_222 : (Jvm.Cond.code ({ cls := "HarbourText", name := "count", desc := "(I)I" } : Jvm.MethodName) prog_1_method_15_code (2 : Nat) (Option.some Jvm.ClassFile.FieldType.int)) ∈ lw_good := gd_t (tb_1 (List.mem_of_getElem? (i := 230) rfl)) rfl
theorem w_223 : (Jvm.Cond.methodLink "HarbourText" (147 : Nat) ({ cls := "HarbourText$TextReader", name := "length", desc := "()I" } : Jvm.MethodName)) ∈ lw_good := gd_t (tb_1 (List.mem_of_getElem? (i := 231) rfl)) rfl
theorem w_224 : (Jvm.Cond.instanceMethod ({ cls := "HarbourText$TextReader", name := "length", desc := "()I" } : Jvm.MethodName)) ∈ lw_good := gd_t (tb_1 (List.mem_of_getElem? (i := 232) rfl)) rfl
theorem w_225 : (Jvm.Cond.selects "HarbourText$TextReader" ({ cls := "HarbourText$TextReader", name := "length", desc := "()I" } : Jvm.MethodName) ({ cls := "HarbourText$TextReader", name := "length", desc := "()I" } : Jvm.MethodName)) ∈ lw_good := gd_t (tb_1 (List.mem_of_getElem? (i := 233) rfl)) rfl
theorem w_226 : (Jvm.Cond.code ({ cls := "HarbourText$TextReader", name := "length", desc := "()I" } : Jvm.MethodName) prog_5_method_2_code (1 : Nat) (Option.some Jvm.ClassFile.FieldType.int)) ∈ lw_good := gd_t (tb_1 (List.mem_of_getElem? (i := 234) rfl)) rfl
theorem w_227 : (Jvm.Cond.methodLink "HarbourText" (148 : Nat) ({ cls := "HarbourText$Harbour", name := "sizeOfKind", desc := "(I)I" } : Jvm.MethodName)) ∈ lw_good := gd_t (tb_1 (List.mem_of_getElem? (i := 235) rfl)) rfl
theorem w_228 : (Jvm.Cond.instanceMethod ({ cls := "HarbourText$Harbour", name := "sizeOfKind", desc := "(I)I" } : Jvm.MethodName)) ∈ lw_good := gd_t (tb_1 (List.mem_of_getElem? (i := 236) rfl)) rfl
theorem w_229 : (Jvm.Cond.selects "HarbourText$Harbour" ({ cls := "HarbourText$Harbour", name := "sizeOfKind", desc := "(I)I" } : Jvm.MethodName) ({ cls := "HarbourText$Harbour", name := "sizeOfKind", desc := "(I)I" } : Jvm.MethodName)) ∈ lw_good := gd_t (tb_1 (List.mem_of_getElem? (i := 237) rfl)) rfl
theorem w_230 : (Jvm.Cond.code ({ cls := "HarbourText$Harbour", name := "sizeOfKind", desc := "(I)I" } : Jvm.MethodName) prog_3_method_11_code (4 : Nat) (Option.some Jvm.ClassFile.FieldType.int)) ∈ lw_good := gd_t (tb_1 (List.mem_of_getElem? (i := 238) rfl)) rfl
theorem w_231 : (Jvm.Cond.methodLink "HarbourTextLaw" (43 : Nat) ({ cls := "HarbourTextLaw", name := "read", desc := "(LHarbourText;[J)I" } : Jvm.MethodName)) ∈ lw_good := gd_t (tb_2 (List.mem_of_getElem? (i := 0) rfl)) rfl
theorem w_232 : (Jvm.Cond.static ({ cls := "HarbourTextLaw", name := "read", desc := "(LHarbourText;[J)I" } : Jvm.MethodName)) ∈ lw_good := gd_t (tb_2 (List.mem_of_getElem? (i := 1) rfl)) rfl
theorem w_233 : (Jvm.Cond.codeWith ({ cls := "HarbourTextLaw", name := "read", desc := "(LHarbourText;[J)I" } : Jvm.MethodName) method_3_code (3 : Nat) (Option.some Jvm.ClassFile.FieldType.int) [((0 : Nat), (8 : Nat), (11 : Nat), (13 : Nat))]) ∈ lw_good := gd_t (tb_2 (List.mem_of_getElem? (i := 2) rfl)) rfl
theorem w_234 : (Jvm.Cond.classLink "HarbourTextLaw" (13 : Nat) "java/lang/IllegalStateException") ∈ lw_good := gd_t (tb_2 (List.mem_of_getElem? (i := 3) rfl)) rfl
theorem w_235 : (Jvm.Cond.methodLink "HarbourTextLaw" (7 : Nat) ({ cls := "HarbourText", name := "read", desc := "()I" } : Jvm.MethodName)) ∈ lw_good := gd_t (tb_2 (List.mem_of_getElem? (i := 4) rfl)) rfl
theorem w_236 : (Jvm.Cond.instanceMethod ({ cls := "HarbourText", name := "read", desc := "()I" } : Jvm.MethodName)) ∈ lw_good := gd_t (tb_2 (List.mem_of_getElem? (i := 5) rfl)) rfl
theorem w_237 : (Jvm.Cond.selects "HarbourText" ({ cls := "HarbourText", name := "read", desc := "()I" } : Jvm.MethodName) ({ cls := "HarbourText", name := "read", desc := "()I" } : Jvm.MethodName)) ∈ lw_good := gd_t (tb_2 (List.mem_of_getElem? (i := 6) rfl)) rfl
theorem w_238 : (Jvm.Cond.code ({ cls := "HarbourText", name := "read", desc := "()I" } : Jvm.MethodName) prog_1_method_3_code (1 : Nat) (Option.some Jvm.ClassFile.FieldType.int)) ∈ lw_good := gd_t (tb_2 (List.mem_of_getElem? (i := 7) rfl)) rfl
theorem w_239 : (Jvm.Cond.methodLink "HarbourText" (51 : Nat) ({ cls := "HarbourText$TextReader", name := "readAll", desc := "()Z" } : Jvm.MethodName)) ∈ lw_good := gd_t (tb_2 (List.mem_of_getElem? (i := 8) rfl)) rfl
theorem w_240 : (Jvm.Cond.instanceMethod ({ cls := "HarbourText$TextReader", name := "readAll", desc := "()Z" } : Jvm.MethodName)) ∈ lw_good := gd_t (tb_2 (List.mem_of_getElem? (i := 9) rfl)) rfl
theorem w_241 : (Jvm.Cond.selects "HarbourText$TextReader" ({ cls := "HarbourText$TextReader", name := "readAll", desc := "()Z" } : Jvm.MethodName) ({ cls := "HarbourText$TextReader", name := "readAll", desc := "()Z" } : Jvm.MethodName)) ∈ lw_good := gd_t (tb_2 (List.mem_of_getElem? (i := 10) rfl)) rfl
theorem w_242 : (Jvm.Cond.code ({ cls := "HarbourText$TextReader", name := "readAll", desc := "()Z" } : Jvm.MethodName) prog_5_method_7_code (3 : Nat) (Option.some Jvm.ClassFile.FieldType.boolean)) ∈ lw_good := gd_t (tb_2 (List.mem_of_getElem? (i := 11) rfl)) rfl
theorem w_243 : (Jvm.Cond.methodLink "HarbourText$TextReader" (35 : Nat) ({ cls := "HarbourText$Harbour", name := "clear", desc := "()V" } : Jvm.MethodName)) ∈ lw_good := gd_t (tb_2 (List.mem_of_getElem? (i := 12) rfl)) rfl
theorem w_244 : (Jvm.Cond.instanceMethod ({ cls := "HarbourText$Harbour", name := "clear", desc := "()V" } : Jvm.MethodName)) ∈ lw_good := gd_t (tb_2 (List.mem_of_getElem? (i := 13) rfl)) rfl
theorem w_245 : (Jvm.Cond.selects "HarbourText$Harbour" ({ cls := "HarbourText$Harbour", name := "clear", desc := "()V" } : Jvm.MethodName) ({ cls := "HarbourText$Harbour", name := "clear", desc := "()V" } : Jvm.MethodName)) ∈ lw_good := gd_t (tb_2 (List.mem_of_getElem? (i := 14) rfl)) rfl
theorem w_246 : (Jvm.Cond.code ({ cls := "HarbourText$Harbour", name := "clear", desc := "()V" } : Jvm.MethodName) prog_3_method_4_code (1 : Nat) (Option.none : Option Jvm.ClassFile.FieldType)) ∈ lw_good := gd_t (tb_2 (List.mem_of_getElem? (i := 15) rfl)) rfl
theorem w_247 : (Jvm.Cond.methodLink "HarbourText$TextReader" (38 : Nat) ({ cls := "HarbourText$TextReader", name := "readRow", desc := "()Z" } : Jvm.MethodName)) ∈ lw_good := gd_t (tb_2 (List.mem_of_getElem? (i := 16) rfl)) rfl
theorem w_248 : (Jvm.Cond.instanceMethod ({ cls := "HarbourText$TextReader", name := "readRow", desc := "()Z" } : Jvm.MethodName)) ∈ lw_good := gd_t (tb_2 (List.mem_of_getElem? (i := 18) rfl)) rfl
theorem w_249 : (Jvm.Cond.code ({ cls := "HarbourText$TextReader", name := "readRow", desc := "()Z" } : Jvm.MethodName) prog_5_method_8_code (4 : Nat) (Option.some Jvm.ClassFile.FieldType.boolean)) ∈ lw_good := gd_t (tb_2 (List.mem_of_getElem? (i := 19) rfl)) rfl
theorem w_250 : (Jvm.Cond.methodLink "HarbourText$TextReader" (42 : Nat) ({ cls := "HarbourText$TextReader", name := "kindHere", desc := "()I" } : Jvm.MethodName)) ∈ lw_good := gd_t (tb_2 (List.mem_of_getElem? (i := 20) rfl)) rfl
theorem w_251 : (Jvm.Cond.instanceMethod ({ cls := "HarbourText$TextReader", name := "kindHere", desc := "()I" } : Jvm.MethodName)) ∈ lw_good := gd_t (tb_2 (List.mem_of_getElem? (i := 22) rfl)) rfl
theorem w_252 : (Jvm.Cond.code ({ cls := "HarbourText$TextReader", name := "kindHere", desc := "()I" } : Jvm.MethodName) prog_5_method_16_code (3 : Nat) (Option.some Jvm.ClassFile.FieldType.int)) ∈ lw_good := gd_t (tb_2 (List.mem_of_getElem? (i := 23) rfl)) rfl
theorem w_253 : (Jvm.Cond.methodLink "HarbourText$TextReader" (106 : Nat) ({ cls := "HarbourText$TextReader", name := "signHere", desc := "()I" } : Jvm.MethodName)) ∈ lw_good := gd_t (tb_2 (List.mem_of_getElem? (i := 24) rfl)) rfl
theorem w_254 : (Jvm.Cond.instanceMethod ({ cls := "HarbourText$TextReader", name := "signHere", desc := "()I" } : Jvm.MethodName)) ∈ lw_good := gd_t (tb_2 (List.mem_of_getElem? (i := 26) rfl)) rfl
theorem w_255 : (Jvm.Cond.code ({ cls := "HarbourText$TextReader", name := "signHere", desc := "()I" } : Jvm.MethodName) prog_5_method_17_code (1 : Nat) (Option.some Jvm.ClassFile.FieldType.int)) ∈ lw_good := gd_t (tb_2 (List.mem_of_getElem? (i := 27) rfl)) rfl
theorem w_256 : (Jvm.Cond.methodLink "HarbourText$TextReader" (46 : Nat) ({ cls := "HarbourText$TextReader", name := "fail", desc := "(II)Z" } : Jvm.MethodName)) ∈ lw_good := gd_t (tb_2 (List.mem_of_getElem? (i := 30) rfl)) rfl
theorem w_257 : (Jvm.Cond.instanceMethod ({ cls := "HarbourText$TextReader", name := "fail", desc := "(II)Z" } : Jvm.MethodName)) ∈ lw_good := gd_t (tb_2 (List.mem_of_getElem? (i := 32) rfl)) rfl
theorem w_258 : (Jvm.Cond.code ({ cls := "HarbourText$TextReader", name := "fail", desc := "(II)Z" } : Jvm.MethodName) prog_5_method_18_code (3 : Nat) (Option.some Jvm.ClassFile.FieldType.boolean)) ∈ lw_good := gd_t (tb_2 (List.mem_of_getElem? (i := 33) rfl)) rfl
theorem w_259 : (Jvm.Cond.methodLink "HarbourText$TextReader" (50 : Nat) ({ cls := "HarbourText$Harbour", name := "isFull", desc := "()Z" } : Jvm.MethodName)) ∈ lw_good := gd_t (tb_2 (List.mem_of_getElem? (i := 34) rfl)) rfl
theorem w_260 : (Jvm.Cond.instanceMethod ({ cls := "HarbourText$Harbour", name := "isFull", desc := "()Z" } : Jvm.MethodName)) ∈ lw_good := gd_t (tb_2 (List.mem_of_getElem? (i := 35) rfl)) rfl
theorem w_261 : (Jvm.Cond.selects "HarbourText$Harbour" ({ cls := "HarbourText$Harbour", name := "isFull", desc := "()Z" } : Jvm.MethodName) ({ cls := "HarbourText$Harbour", name := "isFull", desc := "()Z" } : Jvm.MethodName)) ∈ lw_good := gd_t (tb_2 (List.mem_of_getElem? (i := 36) rfl)) rfl
theorem w_262 : (Jvm.Cond.code ({ cls := "HarbourText$Harbour", name := "isFull", desc := "()Z" } : Jvm.MethodName) prog_3_method_3_code (1 : Nat) (Option.some Jvm.ClassFile.FieldType.boolean)) ∈ lw_good := gd_t (tb_2 (List.mem_of_getElem? (i := 37) rfl)) rfl
theorem w_263 : (Jvm.Cond.methodLink "HarbourText$TextReader" (53 : Nat) ({ cls := "HarbourText$TextReader", name := "readName", desc := "(I)Z" } : Jvm.MethodName)) ∈ lw_good := gd_t (tb_2 (List.mem_of_getElem? (i := 38) rfl)) rfl
theorem w_264 : (Jvm.Cond.instanceMethod ({ cls := "HarbourText$TextReader", name := "readName", desc := "(I)Z" } : Jvm.MethodName)) ∈ lw_good := gd_t (tb_2 (List.mem_of_getElem? (i := 40) rfl)) rfl
theorem w_265 : (Jvm.Cond.code ({ cls := "HarbourText$TextReader", name := "readName", desc := "(I)Z" } : Jvm.MethodName) prog_5_method_9_code (4 : Nat) (Option.some Jvm.ClassFile.FieldType.boolean)) ∈ lw_good := gd_t (tb_2 (List.mem_of_getElem? (i := 41) rfl)) rfl
theorem w_266 : (Jvm.Cond.methodLink "HarbourText$TextReader" (68 : Nat) ({ cls := "HarbourText$TextReader", name := "readDigits", desc := "()I" } : Jvm.MethodName)) ∈ lw_good := gd_t (tb_2 (List.mem_of_getElem? (i := 42) rfl)) rfl
theorem w_267 : (Jvm.Cond.instanceMethod ({ cls := "HarbourText$TextReader", name := "readDigits", desc := "()I" } : Jvm.MethodName)) ∈ lw_good := gd_t (tb_2 (List.mem_of_getElem? (i := 44) rfl)) rfl
theorem w_268 : (Jvm.Cond.code ({ cls := "HarbourText$TextReader", name := "readDigits", desc := "()I" } : Jvm.MethodName) prog_5_method_14_code (3 : Nat) (Option.some Jvm.ClassFile.FieldType.int)) ∈ lw_good := gd_t (tb_2 (List.mem_of_getElem? (i := 45) rfl)) rfl
theorem w_269 : (Jvm.Cond.methodLink "HarbourText$TextReader" (109 : Nat) ({ cls := "HarbourText$TextReader", name := "digitHere", desc := "()I" } : Jvm.MethodName)) ∈ lw_good := gd_t (tb_2 (List.mem_of_getElem? (i := 46) rfl)) rfl
theorem w_270 : (Jvm.Cond.instanceMethod ({ cls := "HarbourText$TextReader", name := "digitHere", desc := "()I" } : Jvm.MethodName)) ∈ lw_good := gd_t (tb_2 (List.mem_of_getElem? (i := 48) rfl)) rfl
theorem w_271 : (Jvm.Cond.code ({ cls := "HarbourText$TextReader", name := "digitHere", desc := "()I" } : Jvm.MethodName) prog_5_method_15_code (2 : Nat) (Option.some Jvm.ClassFile.FieldType.int)) ∈ lw_good := gd_t (tb_2 (List.mem_of_getElem? (i := 49) rfl)) rfl
theorem w_272 : (Jvm.Cond.methodLink "HarbourText$TextReader" (71 : Nat) ({ cls := "HarbourText$Harbour", name := "indexOf", desc := "(II)I" } : Jvm.MethodName)) ∈ lw_good := gd_t (tb_2 (List.mem_of_getElem? (i := 50) rfl)) rfl
theorem w_273 : (Jvm.Cond.methodLink "HarbourText$TextReader" (75 : Nat) ({ cls := "HarbourText$Harbour", name := "begin", desc := "(II)V" } : Jvm.MethodName)) ∈ lw_good := gd_t (tb_2 (List.mem_of_getElem? (i := 51) rfl)) rfl
theorem w_274 : (Jvm.Cond.instanceMethod ({ cls := "HarbourText$Harbour", name := "begin", desc := "(II)V" } : Jvm.MethodName)) ∈ lw_good := gd_t (tb_2 (List.mem_of_getElem? (i := 52) rfl)) rfl
theorem w_275 : (Jvm.Cond.selects "HarbourText$Harbour" ({ cls := "HarbourText$Harbour", name := "begin", desc := "(II)V" } : Jvm.MethodName) ({ cls := "HarbourText$Harbour", name := "begin", desc := "(II)V" } : Jvm.MethodName)) ∈ lw_good := gd_t (tb_2 (List.mem_of_getElem? (i := 53) rfl)) rfl
theorem w_276 : (Jvm.Cond.code ({ cls := "HarbourText$Harbour", name := "begin", desc := "(II)V" } : Jvm.MethodName) prog_3_method_5_code (3 : Nat) (Option.none : Option Jvm.ClassFile.FieldType)) ∈ lw_good := gd_t (tb_2 (List.mem_of_getElem? (i := 54) rfl)) rfl
theorem w_277 : (Jvm.Cond.methodLink "HarbourText$Harbour" (25 : Nat) ({ cls := "HarbourText$Harbour", name := "isFull", desc := "()Z" } : Jvm.MethodName)) ∈ lw_good := gd_t (tb_2 (List.mem_of_getElem? (i := 55) rfl)) rfl
theorem w_278 : (Jvm.Cond.methodLink "HarbourText$TextReader" (57 : Nat) ({ cls := "HarbourText$TextReader", name := "readSign", desc := "(C)Z" } : Jvm.MethodName)) ∈ lw_good := gd_t (tb_2 (List.mem_of_getElem? (i := 56) rfl)) rfl
theorem w_279 : (Jvm.Cond.instanceMethod ({ cls := "HarbourText$TextReader", name := "readSign", desc := "(C)Z" } : Jvm.MethodName)) ∈ lw_good := gd_t (tb_2 (List.mem_of_getElem? (i := 58) rfl)) rfl
theorem w_280 : (Jvm.Cond.code ({ cls := "HarbourText$TextReader", name := "readSign", desc := "(C)Z" } : Jvm.MethodName) prog_5_method_13_code (2 : Nat) (Option.some Jvm.ClassFile.FieldType.boolean)) ∈ lw_good := gd_t (tb_2 (List.mem_of_getElem? (i := 59) rfl)) rfl
theorem w_281 : (Jvm.Cond.methodLink "HarbourText$TextReader" (65 : Nat) ({ cls := "HarbourText$TextReader", name := "readNumber", desc := "(II)Z" } : Jvm.MethodName)) ∈ lw_good := gd_t (tb_2 (List.mem_of_getElem? (i := 61) rfl)) rfl
theorem w_282 : (Jvm.Cond.instanceMethod ({ cls := "HarbourText$TextReader", name := "readNumber", desc := "(II)Z" } : Jvm.MethodName)) ∈ lw_good := gd_t (tb_2 (List.mem_of_getElem? (i := 63) rfl)) rfl
theorem w_283 : (Jvm.Cond.code ({ cls := "HarbourText$TextReader", name := "readNumber", desc := "(II)Z" } : Jvm.MethodName) prog_5_method_10_code (6 : Nat) (Option.some Jvm.ClassFile.FieldType.boolean)) ∈ lw_good := gd_t (tb_2 (List.mem_of_getElem? (i := 64) rfl)) rfl
theorem w_284 : (Jvm.Cond.methodLink "HarbourText$TextReader" (79 : Nat) ({ cls := "HarbourText$TextReader", name := "judgeNumber", desc := "(III)I" } : Jvm.MethodName)) ∈ lw_good := gd_t (tb_2 (List.mem_of_getElem? (i := 65) rfl)) rfl
theorem w_285 : (Jvm.Cond.instanceMethod ({ cls := "HarbourText$TextReader", name := "judgeNumber", desc := "(III)I" } : Jvm.MethodName)) ∈ lw_good := gd_t (tb_2 (List.mem_of_getElem? (i := 67) rfl)) rfl
theorem w_286 : (Jvm.Cond.code ({ cls := "HarbourText$TextReader", name := "judgeNumber", desc := "(III)I" } : Jvm.MethodName) prog_5_method_11_code (4 : Nat) (Option.some Jvm.ClassFile.FieldType.int)) ∈ lw_good := gd_t (tb_2 (List.mem_of_getElem? (i := 68) rfl)) rfl
theorem w_287 : (Jvm.Cond.methodLink "HarbourText$TextReader" (86 : Nat) ({ cls := "HarbourText$TextReader", name := "isInRange", desc := "(III)Z" } : Jvm.MethodName)) ∈ lw_good := gd_t (tb_2 (List.mem_of_getElem? (i := 69) rfl)) rfl
theorem w_288 : (Jvm.Cond.static ({ cls := "HarbourText$TextReader", name := "isInRange", desc := "(III)Z" } : Jvm.MethodName)) ∈ lw_good := gd_t (tb_2 (List.mem_of_getElem? (i := 70) rfl)) rfl
theorem w_289 : (Jvm.Cond.code ({ cls := "HarbourText$TextReader", name := "isInRange", desc := "(III)Z" } : Jvm.MethodName) prog_5_method_12_code (4 : Nat) (Option.some Jvm.ClassFile.FieldType.boolean)) ∈ lw_good := gd_t (tb_2 (List.mem_of_getElem? (i := 71) rfl)) rfl
theorem w_290 : (Jvm.Cond.methodLink "HarbourText$TextReader" (90 : Nat) ({ cls := "HarbourText$Harbour", name := "size", desc := "()I" } : Jvm.MethodName)) ∈ lw_good := gd_t (tb_2 (List.mem_of_getElem? (i := 77) rfl)) rfl
theorem w_291 : (Jvm.Cond.methodLink "HarbourText$TextReader" (93 : Nat) ({ cls := "HarbourText$Harbour", name := "numberOf", desc := "(II)I" } : Jvm.MethodName)) ∈ lw_good := gd_t (tb_2 (List.mem_of_getElem? (i := 78) rfl)) rfl
theorem w_292 : (Jvm.Cond.methodLink "HarbourText$TextReader" (83 : Nat) ({ cls := "HarbourText$Harbour", name := "setNumber", desc := "(II)V" } : Jvm.MethodName)) ∈ lw_good := gd_t (tb_2 (List.mem_of_getElem? (i := 79) rfl)) rfl
theorem w_293 : (Jvm.Cond.instanceMethod ({ cls := "HarbourText$Harbour", name := "setNumber", desc := "(II)V" } : Jvm.MethodName)) ∈ lw_good := gd_t (tb_2 (List.mem_of_getElem? (i := 80) rfl)) rfl
theorem w_294 : (Jvm.Cond.selects "HarbourText$Harbour" ({ cls := "HarbourText$Harbour", name := "setNumber", desc := "(II)V" } : Jvm.MethodName) ({ cls := "HarbourText$Harbour", name := "setNumber", desc := "(II)V" } : Jvm.MethodName)) ∈ lw_good := gd_t (tb_2 (List.mem_of_getElem? (i := 81) rfl)) rfl
theorem w_295 : (Jvm.Cond.code ({ cls := "HarbourText$Harbour", name := "setNumber", desc := "(II)V" } : Jvm.MethodName) prog_3_method_6_code (3 : Nat) (Option.none : Option Jvm.ClassFile.FieldType)) ∈ lw_good := gd_t (tb_2 (List.mem_of_getElem? (i := 82) rfl)) rfl
theorem w_296 : (Jvm.Cond.classLink "HarbourText" (55 : Nat) "java/lang/IllegalStateException") ∈ lw_good := gd_t (tb_2 (List.mem_of_getElem? (i := 83) rfl)) rfl
theorem w_297 : (Jvm.Cond.instantiable "java/lang/IllegalStateException" (6 : Nat)) ∈ lw_good := gd_t (tb_2 (List.mem_of_getElem? (i := 84) rfl)) rfl
theorem w_298 : (Jvm.Cond.selects "java/lang/IllegalStateException" ({ cls := "java/lang/Throwable", name := "fillInStackTrace", desc := "(I)Ljava/lang/Throwable;" } : Jvm.MethodName) ({ cls := "java/lang/Throwable", name := "fillInStackTrace", desc := "(I)Ljava/lang/Throwable;" } : Jvm.MethodName)) ∈ lw_good := gd_t (tb_2 (List.mem_of_getElem? (i := 92) rfl)) rfl
theorem w_299 : (Jvm.Cond.selects "java/lang/IllegalStateException" ({ cls := "java/lang/Throwable", name := "fillInStackTrace", desc := "()Ljava/lang/Throwable;" } : Jvm.MethodName) ({ cls := "java/lang/Throwable", name := "fillInStackTrace", desc := "()Ljava/lang/Throwable;" } : Jvm.MethodName)) ∈ lw_good := gd_t (tb_2 (List.mem_of_getElem? (i := 93) rfl)) rfl
theorem w_300 : (Jvm.Cond.lays "java/lang/IllegalStateException" "java/lang/Throwable" "cause" "Ljava/lang/Throwable;") ∈ lw_good := gd_t (tb_2 (List.mem_of_getElem? (i := 94) rfl)) rfl
theorem w_301 : (Jvm.Cond.lays "java/lang/Throwable" "java/lang/Throwable" "cause" "Ljava/lang/Throwable;") ∈ lw_good := gd_t (tb_2 (List.mem_of_getElem? (i := 95) rfl)) rfl
theorem w_302 : (Jvm.Cond.lays "java/lang/IllegalStateException" "java/lang/Throwable" "stackTrace" "[Ljava/lang/StackTraceElement;") ∈ lw_good := gd_t (tb_2 (List.mem_of_getElem? (i := 96) rfl)) rfl
theorem w_303 : (Jvm.Cond.lays "java/lang/Throwable" "java/lang/Throwable" "stackTrace" "[Ljava/lang/StackTraceElement;") ∈ lw_good := gd_t (tb_2 (List.mem_of_getElem? (i := 97) rfl)) rfl
theorem w_304 : (Jvm.Cond.lays "java/lang/IllegalStateException" "java/lang/Throwable" "suppressedExceptions" "Ljava/util/List;") ∈ lw_good := gd_t (tb_2 (List.mem_of_getElem? (i := 98) rfl)) rfl
theorem w_305 : (Jvm.Cond.lays "java/lang/Throwable" "java/lang/Throwable" "suppressedExceptions" "Ljava/util/List;") ∈ lw_good := gd_t (tb_2 (List.mem_of_getElem? (i := 99) rfl)) rfl
theorem w_306 : (Jvm.Cond.lays "java/lang/IllegalStateException" "java/lang/Throwable" "detailMessage" "Ljava/lang/String;") ∈ lw_good := gd_t (tb_2 (List.mem_of_getElem? (i := 100) rfl)) rfl
theorem w_307 : (Jvm.Cond.lays "java/lang/Throwable" "java/lang/Throwable" "detailMessage" "Ljava/lang/String;") ∈ lw_good := gd_t (tb_2 (List.mem_of_getElem? (i := 101) rfl)) rfl
theorem w_308 : (Jvm.Cond.lays "java/lang/IllegalStateException" "java/lang/Throwable" "backtrace" "Ljava/lang/Object;") ∈ lw_good := gd_t (tb_2 (List.mem_of_getElem? (i := 102) rfl)) rfl
theorem w_309 : (Jvm.Cond.lays "java/lang/Throwable" "java/lang/Throwable" "backtrace" "Ljava/lang/Object;") ∈ lw_good := gd_t (tb_2 (List.mem_of_getElem? (i := 103) rfl)) rfl
theorem w_310 : (Jvm.Cond.fieldLink "java/lang/Throwable" (198 : Nat) "java/lang/Throwable" "backtrace" "Ljava/lang/Object;") ∈ lw_good := gd_t (tb_2 (List.mem_of_getElem? (i := 104) rfl)) rfl
theorem w_311 : (Jvm.Cond.superclass "java/lang/Throwable" "java/lang/Object") ∈ lw_good := gd_t (tb_2 (List.mem_of_getElem? (i := 105) rfl)) rfl
theorem w_312 : (Jvm.Cond.instanceMethod ({ cls := "java/lang/Throwable", name := "<init>", desc := "()V" } : Jvm.MethodName)) ∈ lw_good := gd_t (tb_2 (List.mem_of_getElem? (i := 106) rfl)) rfl
theorem w_313 : (Jvm.Cond.code ({ cls := "java/lang/Throwable", name := "<init>", desc := "()V" } : Jvm.MethodName) prog_17_method_1_code (1 : Nat) (Option.none : Option Jvm.ClassFile.FieldType)) ∈ lw_good := gd_t (tb_2 (List.mem_of_getElem? (i := 107) rfl)) rfl
theorem w_314 : (Jvm.Cond.methodLink "java/lang/Throwable" (1 : Nat) ({ cls := "java/lang/Object", name := "<init>", desc := "()V" } : Jvm.MethodName)) ∈ lw_good := gd_t (tb_2 (List.mem_of_getElem? (i := 108) rfl)) rfl
theorem w_315 : (Jvm.Cond.fieldLink "java/lang/Throwable" (13 : Nat) "java/lang/Throwable" "UNASSIGNED_STACK" "[Ljava/lang/StackTraceElement;") ∈ lw_good := gd_t (tb_2 (List.mem_of_getElem? (i := 109) rfl)) rfl
theorem w_316 : (Jvm.Cond.fieldLink "java/lang/Throwable" (20 : Nat) "java/lang/Throwable" "SUPPRESSED_SENTINEL" "Ljava/util/List;") ∈ lw_good := gd_t (tb_2 (List.mem_of_getElem? (i := 111) rfl)) rfl
theorem w_317 : (Jvm.Cond.methodLink "java/lang/Throwable" (27 : Nat) ({ cls := "java/lang/Throwable", name := "fillInStackTrace", desc := "()Ljava/lang/Throwable;" } : Jvm.MethodName)) ∈ lw_good := gd_t (tb_2 (List.mem_of_getElem? (i := 113) rfl)) rfl
theorem w_318 : (Jvm.Cond.instanceMethod ({ cls := "java/lang/Throwable", name := "fillInStackTrace", desc := "()Ljava/lang/Throwable;" } : Jvm.MethodName)) ∈ lw_good := gd_t (tb_2 (List.mem_of_getElem? (i := 114) rfl)) rfl
theorem w_319 : (Jvm.Cond.sameMethod "java/lang/Throwable" "java/lang/Throwable" "fillInStackTrace" "()Ljava/lang/Throwable;") ∈ lw_good := gd_t (tb_2 (List.mem_of_getElem? (i := 115) rfl)) rfl
theorem w_320 : (Jvm.Cond.selects "java/lang/IllegalArgumentException" ({ cls := "java/lang/Throwable", name := "fillInStackTrace", desc := "()Ljava/lang/Throwable;" } : Jvm.MethodName) ({ cls := "java/lang/Throwable", name := "fillInStackTrace", desc := "()Ljava/lang/Throwable;" } : Jvm.MethodName)) ∈ lw_good := gd_t (tb_2 (List.mem_of_getElem? (i := 116) rfl)) rfl
theorem w_321 : (Jvm.Cond.selects "java/lang/IndexOutOfBoundsException" ({ cls := "java/lang/Throwable", name := "fillInStackTrace", desc := "()Ljava/lang/Throwable;" } : Jvm.MethodName) ({ cls := "java/lang/Throwable", name := "fillInStackTrace", desc := "()Ljava/lang/Throwable;" } : Jvm.MethodName)) ∈ lw_good := gd_t (tb_2 (List.mem_of_getElem? (i := 117) rfl)) rfl
theorem w_322 : (Jvm.Cond.codeSync ({ cls := "java/lang/Throwable", name := "fillInStackTrace", desc := "()Ljava/lang/Throwable;" } : Jvm.MethodName) prog_17_method_18_code (1 : Nat) (Option.some (Jvm.ClassFile.FieldType.object "java/lang/Throwable"))) ∈ lw_good := gd_t (tb_2 (List.mem_of_getElem? (i := 118) rfl)) rfl
theorem w_323 : (Jvm.Cond.methodLink "java/lang/Throwable" (202 : Nat) ({ cls := "java/lang/Throwable", name := "fillInStackTrace", desc := "(I)Ljava/lang/Throwable;" } : Jvm.MethodName)) ∈ lw_good := gd_t (tb_2 (List.mem_of_getElem? (i := 119) rfl)) rfl
theorem w_324 : (Jvm.Cond.instanceMethod ({ cls := "java/lang/Throwable", name := "fillInStackTrace", desc := "(I)Ljava/lang/Throwable;" } : Jvm.MethodName)) ∈ lw_good := gd_t (tb_2 (List.mem_of_getElem? (i := 121) rfl)) rfl
theorem w_325 : (Jvm.Cond.instantiable "java/lang/Throwable" (6 : Nat)) ∈ lw_good := gd_t (tb_2 (List.mem_of_getElem? (i := 122) rfl)) rfl
theorem w_326 : (Jvm.Cond.native ({ cls := "java/lang/Throwable", name := "fillInStackTrace", desc := "(I)Ljava/lang/Throwable;" } : Jvm.MethodName)) ∈ lw_good := gd_t (tb_2 (List.mem_of_getElem? (i := 123) rfl)) rfl
theorem w_327 : (Jvm.Cond.methodLink "HarbourText" (59 : Nat) ({ cls := "java/lang/IllegalStateException", name := "<init>", desc := "(Ljava/lang/String;)V" } : Jvm.MethodName)) ∈ lw_good := gd_t (tb_2 (List.mem_of_getElem? (i := 125) rfl)) rfl
theorem w_328 : (Jvm.Cond.instanceMethod ({ cls := "java/lang/IllegalStateException", name := "<init>", desc := "(Ljava/lang/String;)V" } : Jvm.MethodName)) ∈ lw_good := gd_t (tb_2 (List.mem_of_getElem? (i := 126) rfl)) rfl
theorem w_329 : (Jvm.Cond.code ({ cls := "java/lang/IllegalStateException", name := "<init>", desc := "(Ljava/lang/String;)V" } : Jvm.MethodName) prog_11_method_2_code (2 : Nat) (Option.none : Option Jvm.ClassFile.FieldType)) ∈ lw_good := gd_t (tb_2 (List.mem_of_getElem? (i := 127) rfl)) rfl
theorem w_330 : (Jvm.Cond.methodLink "java/lang/IllegalStateException" (7 : Nat) ({ cls := "java/lang/RuntimeException", name := "<init>", desc := "(Ljava/lang/String;)V" } : Jvm.MethodName)) ∈ lw_good := gd_t (tb_2 (List.mem_of_getElem? (i := 128) rfl)) rfl
theorem w_331 : (Jvm.Cond.instanceMethod ({ cls := "java/lang/RuntimeException", name := "<init>", desc := "(Ljava/lang/String;)V" } : Jvm.MethodName)) ∈ lw_good := gd_t (tb_2 (List.mem_of_getElem? (i := 129) rfl)) rfl
theorem w_332 : (Jvm.Cond.code ({ cls := "java/lang/RuntimeException", name := "<init>", desc := "(Ljava/lang/String;)V" } : Jvm.MethodName) prog_14_method_2_code (2 : Nat) (Option.none : Option Jvm.ClassFile.FieldType)) ∈ lw_good := gd_t (tb_2 (List.mem_of_getElem? (i := 130) rfl)) rfl
theorem w_333 : (Jvm.Cond.methodLink "java/lang/RuntimeException" (7 : Nat) ({ cls := "java/lang/Exception", name := "<init>", desc := "(Ljava/lang/String;)V" } : Jvm.MethodName)) ∈ lw_good := gd_t (tb_2 (List.mem_of_getElem? (i := 131) rfl)) rfl
theorem w_334 : (Jvm.Cond.instanceMethod ({ cls := "java/lang/Exception", name := "<init>", desc := "(Ljava/lang/String;)V" } : Jvm.MethodName)) ∈ lw_good := gd_t (tb_2 (List.mem_of_getElem? (i := 132) rfl)) rfl
theorem w_335 : (Jvm.Cond.code ({ cls := "java/lang/Exception", name := "<init>", desc := "(Ljava/lang/String;)V" } : Jvm.MethodName) prog_9_method_2_code (2 : Nat) (Option.none : Option Jvm.ClassFile.FieldType)) ∈ lw_good := gd_t (tb_2 (List.mem_of_getElem? (i := 133) rfl)) rfl
theorem w_336 : (Jvm.Cond.methodLink "java/lang/Exception" (7 : Nat) ({ cls := "java/lang/Throwable", name := "<init>", desc := "(Ljava/lang/String;)V" } : Jvm.MethodName)) ∈ lw_good := gd_t (tb_2 (List.mem_of_getElem? (i := 134) rfl)) rfl
theorem w_337 : (Jvm.Cond.instanceMethod ({ cls := "java/lang/Throwable", name := "<init>", desc := "(Ljava/lang/String;)V" } : Jvm.MethodName)) ∈ lw_good := gd_t (tb_2 (List.mem_of_getElem? (i := 135) rfl)) rfl
theorem w_338 : (Jvm.Cond.code ({ cls := "java/lang/Throwable", name := "<init>", desc := "(Ljava/lang/String;)V" } : Jvm.MethodName) prog_17_method_2_code (2 : Nat) (Option.none : Option Jvm.ClassFile.FieldType)) ∈ lw_good := gd_t (tb_2 (List.mem_of_getElem? (i := 136) rfl)) rfl
theorem w_339 : (Jvm.Cond.fieldLink "java/lang/Throwable" (31 : Nat) "java/lang/Throwable" "detailMessage" "Ljava/lang/String;") ∈ lw_good := gd_t (tb_2 (List.mem_of_getElem? (i := 138) rfl)) rfl
theorem w_340 : (Jvm.Cond.fieldLink "java/lang/Throwable" (7 : Nat) "java/lang/Throwable" "cause" "Ljava/lang/Throwable;") ∈ lw_good := gd_t (tb_2 (List.mem_of_getElem? (i := 139) rfl)) rfl
theorem w_341 : (Jvm.Cond.fieldLink "java/lang/Throwable" (17 : Nat) "java/lang/Throwable" "stackTrace" "[Ljava/lang/StackTraceElement;") ∈ lw_good := gd_t (tb_2 (List.mem_of_getElem? (i := 140) rfl)) rfl
theorem w_342 : (Jvm.Cond.fieldLink "java/lang/Throwable" (24 : Nat) "java/lang/Throwable" "suppressedExceptions" "Ljava/util/List;") ∈ lw_good := gd_t (tb_2 (List.mem_of_getElem? (i := 141) rfl)) rfl
theorem w_343 : (Jvm.Cond.soleField "java/lang/Throwable" "backtrace") ∈ lw_good := gd_t (tb_2 (List.mem_of_getElem? (i := 142) rfl)) rfl
theorem w_344 : (Jvm.Cond.soleField "java/lang/Throwable" "detailMessage") ∈ lw_good := gd_t (tb_2 (List.mem_of_getElem? (i := 143) rfl)) rfl
theorem w_345 : (Jvm.Cond.soleField "java/lang/Throwable" "cause") ∈ lw_good := gd_t (tb_2 (List.mem_of_getElem? (i := 144) rfl)) rfl
theorem w_346 : (Jvm.Cond.soleField "java/lang/Throwable" "stackTrace") ∈ lw_good := gd_t (tb_2 (List.mem_of_getElem? (i := 145) rfl)) rfl
theorem w_347 : (Jvm.Cond.lays "java/lang/IllegalStateException" "java/lang/Throwable" "depth" "I") ∈ lw_good := gd_t (tb_2 (List.mem_of_getElem? (i := 146) rfl)) rfl
theorem w_348 : (Jvm.Cond.soleField "java/lang/Throwable" "depth") ∈ lw_good := gd_t (tb_2 (List.mem_of_getElem? (i := 147) rfl)) rfl
theorem w_349 : (Jvm.Cond.soleField "java/lang/Throwable" "suppressedExceptions") ∈ lw_good := gd_t (tb_2 (List.mem_of_getElem? (i := 148) rfl)) rfl
theorem w_350 : (Jvm.Cond.superclass "java/lang/IllegalStateException" "java/lang/RuntimeException") ∈ lw_good := gd_t (tb_2 (List.mem_of_getElem? (i := 149) rfl)) rfl
theorem w_351 : (Jvm.Cond.arrayClass Jvm.ClassFile.FieldType.byte) ∈ lw_good := gd_t (tb_2 (List.mem_of_getElem? (i := 150) rfl)) rfl
theorem w_352 : (Jvm.Cond.methodLink "HarbourText" (62 : Nat) ({ cls := "HarbourText$TextReader", name := "result", desc := "()LHarbourText$Harbour;" } : Jvm.MethodName)) ∈ lw_good := gd_t (tb_2 (List.mem_of_getElem? (i := 151) rfl)) rfl
theorem w_353 : (Jvm.Cond.instanceMethod ({ cls := "HarbourText$TextReader", name := "result", desc := "()LHarbourText$Harbour;" } : Jvm.MethodName)) ∈ lw_good := gd_t (tb_2 (List.mem_of_getElem? (i := 152) rfl)) rfl
theorem w_354 : (Jvm.Cond.selects "HarbourText$TextReader" ({ cls := "HarbourText$TextReader", name := "result", desc := "()LHarbourText$Harbour;" } : Jvm.MethodName) ({ cls := "HarbourText$TextReader", name := "result", desc := "()LHarbourText$Harbour;" } : Jvm.MethodName)) ∈ lw_good := gd_t (tb_2 (List.mem_of_getElem? (i := 153) rfl)) rfl
theorem w_355 : (Jvm.Cond.code ({ cls := "HarbourText$TextReader", name := "result", desc := "()LHarbourText$Harbour;" } : Jvm.MethodName) prog_5_method_5_code (1 : Nat) (Option.some (Jvm.ClassFile.FieldType.object "HarbourText$Harbour"))) ∈ lw_good := gd_t (tb_2 (List.mem_of_getElem? (i := 154) rfl)) rfl
theorem w_356 : (Jvm.Cond.methodLink "HarbourText" (70 : Nat) ({ cls := "HarbourText$BadList", name := "judge", desc := "(LHarbourText$Harbour;LHarbourText$Ways;)V" } : Jvm.MethodName)) ∈ lw_good := gd_t (tb_2 (List.mem_of_getElem? (i := 155) rfl)) rfl
theorem w_357 : (Jvm.Cond.instanceMethod ({ cls := "HarbourText$BadList", name := "judge", desc := "(LHarbourText$Harbour;LHarbourText$Ways;)V" } : Jvm.MethodName)) ∈ lw_good := gd_t (tb_2 (List.mem_of_getElem? (i := 156) rfl)) rfl
theorem w_358 : (Jvm.Cond.selects "HarbourText$BadList" ({ cls := "HarbourText$BadList", name := "judge", desc := "(LHarbourText$Harbour;LHarbourText$Ways;)V" } : Jvm.MethodName) ({ cls := "HarbourText$BadList", name := "judge", desc := "(LHarbourText$Harbour;LHarbourText$Ways;)V" } : Jvm.MethodName)) ∈ lw_good := gd_t (tb_2 (List.mem_of_getElem? (i := 157) rfl)) rfl
theorem w_359 : (Jvm.Cond.code ({ cls := "HarbourText$BadList", name := "judge", desc := "(LHarbourText$Harbour;LHarbourText$Ways;)V" } : Jvm.MethodName) prog_2_method_4_code (4 : Nat) (Option.none : Option Jvm.ClassFile.FieldType)) ∈ lw_good := gd_t (tb_2 (List.mem_of_getElem? (i := 158) rfl)) rfl
theorem w_360 : (Jvm.Cond.methodLink "HarbourText$BadList" (19 : Nat) ({ cls := "HarbourText$Ways", name := "spread", desc := "(LHarbourText$Harbour;II)V" } : Jvm.MethodName)) ∈ lw_good := gd_t (tb_2 (List.mem_of_getElem? (i := 159) rfl)) rfl
theorem w_361 : (Jvm.Cond.instanceMethod ({ cls := "HarbourText$Ways", name := "spread", desc := "(LHarbourText$Harbour;II)V" } : Jvm.MethodName)) ∈ lw_good := gd_t (tb_2 (List.mem_of_getElem? (i := 160) rfl)) rfl
theorem w_362 : (Jvm.Cond.selects "HarbourText$Ways" ({ cls := "HarbourText$Ways", name := "spread", desc := "(LHarbourText$Harbour;II)V" } : Jvm.MethodName) ({ cls := "HarbourText$Ways", name := "spread", desc := "(LHarbourText$Harbour;II)V" } : Jvm.MethodName)) ∈ lw_good := gd_t (tb_2 (List.mem_of_getElem? (i := 161) rfl)) rfl
theorem w_363 : (Jvm.Cond.code ({ cls := "HarbourText$Ways", name := "spread", desc := "(LHarbourText$Harbour;II)V" } : Jvm.MethodName) prog_6_method_3_code (6 : Nat) (Option.none : Option Jvm.ClassFile.FieldType)) ∈ lw_good := gd_t (tb_2 (List.mem_of_getElem? (i := 162) rfl)) rfl
theorem w_364 : (Jvm.Cond.methodLink "HarbourText$Ways" (19 : Nat) ({ cls := "HarbourText$Ways", name := "spreadOnce", desc := "(LHarbourText$Harbour;I)Z" } : Jvm.MethodName)) ∈ lw_good := gd_t (tb_2 (List.mem_of_getElem? (i := 163) rfl)) rfl
theorem w_365 : (Jvm.Cond.instanceMethod ({ cls := "HarbourText$Ways", name := "spreadOnce", desc := "(LHarbourText$Harbour;I)Z" } : Jvm.MethodName)) ∈ lw_good := gd_t (tb_2 (List.mem_of_getElem? (i := 165) rfl)) rfl
theorem w_366 : (Jvm.Cond.code ({ cls := "HarbourText$Ways", name := "spreadOnce", desc := "(LHarbourText$Harbour;I)Z" } : Jvm.MethodName) prog_6_method_4_code (6 : Nat) (Option.some Jvm.ClassFile.FieldType.boolean)) ∈ lw_good := gd_t (tb_2 (List.mem_of_getElem? (i := 166) rfl)) rfl
theorem w_367 : (Jvm.Cond.methodLink "HarbourText$Ways" (23 : Nat) ({ cls := "HarbourText$Harbour", name := "size", desc := "()I" } : Jvm.MethodName)) ∈ lw_good := gd_t (tb_2 (List.mem_of_getElem? (i := 167) rfl)) rfl
theorem w_368 : (Jvm.Cond.methodLink "HarbourText$Ways" (29 : Nat) ({ cls := "HarbourText$Harbour", name := "kindOf", desc := "(I)I" } : Jvm.MethodName)) ∈ lw_good := gd_t (tb_2 (List.mem_of_getElem? (i := 168) rfl)) rfl
theorem w_369 : (Jvm.Cond.methodLink "HarbourText$Ways" (33 : Nat) ({ cls := "HarbourText$Ways", name := "spreadAlong", desc := "(LHarbourText$Harbour;I)Z" } : Jvm.MethodName)) ∈ lw_good := gd_t (tb_2 (List.mem_of_getElem? (i := 169) rfl)) rfl
theorem w_370 : (Jvm.Cond.instanceMethod ({ cls := "HarbourText$Ways", name := "spreadAlong", desc := "(LHarbourText$Harbour;I)Z" } : Jvm.MethodName)) ∈ lw_good := gd_t (tb_2 (List.mem_of_getElem? (i := 171) rfl)) rfl
theorem w_371 : (Jvm.Cond.code ({ cls := "HarbourText$Ways", name := "spreadAlong", desc := "(LHarbourText$Harbour;I)Z" } : Jvm.MethodName) prog_6_method_5_code (6 : Nat) (Option.some Jvm.ClassFile.FieldType.boolean)) ∈ lw_good := gd_t (tb_2 (List.mem_of_getElem? (i := 172) rfl)) rfl
theorem w_372 : (Jvm.Cond.methodLink "HarbourText$Ways" (36 : Nat) ({ cls := "HarbourText$Harbour", name := "numberOf", desc := "(II)I" } : Jvm.MethodName)) ∈ lw_good := gd_t (tb_2 (List.mem_of_getElem? (i := 173) rfl)) rfl
theorem w_373 : (Jvm.Cond.methodLink "HarbourText$Ways" (40 : Nat) ({ cls := "HarbourText$Ways", name := "deepen", desc := "(III)Z" } : Jvm.MethodName)) ∈ lw_good := gd_t (tb_2 (List.mem_of_getElem? (i := 174) rfl)) rfl
theorem w_374 : (Jvm.Cond.instanceMethod ({ cls := "HarbourText$Ways", name := "deepen", desc := "(III)Z" } : Jvm.MethodName)) ∈ lw_good := gd_t (tb_2 (List.mem_of_getElem? (i := 176) rfl)) rfl
theorem w_375 : (Jvm.Cond.code ({ cls := "HarbourText$Ways", name := "deepen", desc := "(III)Z" } : Jvm.MethodName) prog_6_method_6_code (5 : Nat) (Option.some Jvm.ClassFile.FieldType.boolean)) ∈ lw_good := gd_t (tb_2 (List.mem_of_getElem? (i := 177) rfl)) rfl
theorem w_376 : (Jvm.Cond.static ({ cls := "HarbourText", name := "isPoint", desc := "(I)Z" } : Jvm.MethodName)) ∈ lw_good := gd_t (tb_2 (List.mem_of_getElem? (i := 179) rfl)) rfl
theorem w_377 : (Jvm.Cond.code ({ cls := "HarbourText", name := "isPoint", desc := "(I)Z" } : Jvm.MethodName) prog_1_method_16_code (1 : Nat) (Option.some Jvm.ClassFile.FieldType.boolean)) ∈ lw_good := gd_t (tb_2 (List.mem_of_getElem? (i := 180) rfl)) rfl
theorem w_378 : (Jvm.Cond.methodLink "HarbourText$Ways" (44 : Nat) ({ cls := "java/lang/Math", name := "min", desc := "(II)I" } : Jvm.MethodName)) ∈ lw_good := gd_t (tb_2 (List.mem_of_getElem? (i := 181) rfl)) rfl
theorem w_379 : (Jvm.Cond.static ({ cls := "java/lang/Math", name := "min", desc := "(II)I" } : Jvm.MethodName)) ∈ lw_good := gd_t (tb_2 (List.mem_of_getElem? (i := 182) rfl)) rfl
theorem w_380 : (Jvm.Cond.code ({ cls := "java/lang/Math", name := "min", desc := "(II)I" } : Jvm.MethodName) prog_13_method_69_code (2 : Nat) (Option.some Jvm.ClassFile.FieldType.int)) ∈ lw_good := gd_t (tb_2 (List.mem_of_getElem? (i := 183) rfl)) rfl
theorem w_381 : (Jvm.Cond.methodLink "HarbourText$BadList" (25 : Nat) ({ cls := "HarbourText$BadList", name := "addAll", desc := "(LHarbourText$Harbour;LHarbourText$Ways;I)V" } : Jvm.MethodName)) ∈ lw_good := gd_t (tb_2 (List.mem_of_getElem? (i := 184) rfl)) rfl
theorem w_382 : (Jvm.Cond.instanceMethod ({ cls := "HarbourText$BadList", name := "addAll", desc := "(LHarbourText$Harbour;LHarbourText$Ways;I)V" } : Jvm.MethodName)) ∈ lw_good := gd_t (tb_2 (List.mem_of_getElem? (i := 186) rfl)) rfl
theorem w_383 : (Jvm.Cond.code ({ cls := "HarbourText$BadList", name := "addAll", desc := "(LHarbourText$Harbour;LHarbourText$Ways;I)V" } : Jvm.MethodName) prog_2_method_5_code (6 : Nat) (Option.none : Option Jvm.ClassFile.FieldType)) ∈ lw_good := gd_t (tb_2 (List.mem_of_getElem? (i := 187) rfl)) rfl
theorem w_384 : (Jvm.Cond.methodLink "HarbourText$BadList" (29 : Nat) ({ cls := "HarbourText$Harbour", name := "size", desc := "()I" } : Jvm.MethodName)) ∈ lw_good := gd_t (tb_2 (List.mem_of_getElem? (i := 188) rfl)) rfl
theorem w_385 : (Jvm.Cond.methodLink "HarbourText$BadList" (34 : Nat) ({ cls := "HarbourText$BadList", name := "holds", desc := "(LHarbourText$Harbour;LHarbourText$Ways;II)Z" } : Jvm.MethodName)) ∈ lw_good := gd_t (tb_2 (List.mem_of_getElem? (i := 189) rfl)) rfl
theorem w_386 : (Jvm.Cond.static ({ cls := "HarbourText$BadList", name := "holds", desc := "(LHarbourText$Harbour;LHarbourText$Ways;II)Z" } : Jvm.MethodName)) ∈ lw_good := gd_t (tb_2 (List.mem_of_getElem? (i := 190) rfl)) rfl
theorem w_387 : (Jvm.Cond.code ({ cls := "HarbourText$BadList", name := "holds", desc := "(LHarbourText$Harbour;LHarbourText$Ways;II)Z" } : Jvm.MethodName) prog_2_method_6_code (6 : Nat) (Option.some Jvm.ClassFile.FieldType.boolean)) ∈ lw_good := gd_t (tb_2 (List.mem_of_getElem? (i := 191) rfl)) rfl
theorem w_388 : (Jvm.Cond.methodLink "HarbourText$BadList" (38 : Nat) ({ cls := "HarbourText$Harbour", name := "kindOf", desc := "(I)I" } : Jvm.MethodName)) ∈ lw_good := gd_t (tb_2 (List.mem_of_getElem? (i := 192) rfl)) rfl
theorem w_389 : (Jvm.Cond.methodLink "HarbourText$BadList" (42 : Nat) ({ cls := "HarbourText$Harbour", name := "numberOf", desc := "(II)I" } : Jvm.MethodName)) ∈ lw_good := gd_t (tb_2 (List.mem_of_getElem? (i := 193) rfl)) rfl
theorem w_390 : (Jvm.Cond.methodLink "HarbourText$BadList" (46 : Nat) ({ cls := "HarbourText$Harbour", name := "hasPieceAt", desc := "(II)Z" } : Jvm.MethodName)) ∈ lw_good := gd_t (tb_2 (List.mem_of_getElem? (i := 194) rfl)) rfl
theorem w_391 : (Jvm.Cond.instanceMethod ({ cls := "HarbourText$Harbour", name := "hasPieceAt", desc := "(II)Z" } : Jvm.MethodName)) ∈ lw_good := gd_t (tb_2 (List.mem_of_getElem? (i := 195) rfl)) rfl
theorem w_392 : (Jvm.Cond.selects "HarbourText$Harbour" ({ cls := "HarbourText$Harbour", name := "hasPieceAt", desc := "(II)Z" } : Jvm.MethodName) ({ cls := "HarbourText$Harbour", name := "hasPieceAt", desc := "(II)Z" } : Jvm.MethodName)) ∈ lw_good := gd_t (tb_2 (List.mem_of_getElem? (i := 196) rfl)) rfl
theorem w_393 : (Jvm.Cond.code ({ cls := "HarbourText$Harbour", name := "hasPieceAt", desc := "(II)Z" } : Jvm.MethodName) prog_3_method_14_code (4 : Nat) (Option.some Jvm.ClassFile.FieldType.boolean)) ∈ lw_good := gd_t (tb_2 (List.mem_of_getElem? (i := 197) rfl)) rfl
theorem w_394 : (Jvm.Cond.methodLink "HarbourText$BadList" (50 : Nat) ({ cls := "HarbourText$Ways", name := "depthAt", desc := "(I)I" } : Jvm.MethodName)) ∈ lw_good := gd_t (tb_2 (List.mem_of_getElem? (i := 198) rfl)) rfl
theorem w_395 : (Jvm.Cond.instanceMethod ({ cls := "HarbourText$Ways", name := "depthAt", desc := "(I)I" } : Jvm.MethodName)) ∈ lw_good := gd_t (tb_2 (List.mem_of_getElem? (i := 199) rfl)) rfl
theorem w_396 : (Jvm.Cond.selects "HarbourText$Ways" ({ cls := "HarbourText$Ways", name := "depthAt", desc := "(I)I" } : Jvm.MethodName) ({ cls := "HarbourText$Ways", name := "depthAt", desc := "(I)I" } : Jvm.MethodName)) ∈ lw_good := gd_t (tb_2 (List.mem_of_getElem? (i := 200) rfl)) rfl
theorem w_397 : (Jvm.Cond.code ({ cls := "HarbourText$Ways", name := "depthAt", desc := "(I)I" } : Jvm.MethodName) prog_6_method_2_code (2 : Nat) (Option.some Jvm.ClassFile.FieldType.int)) ∈ lw_good := gd_t (tb_2 (List.mem_of_getElem? (i := 201) rfl)) rfl
theorem w_398 : (Jvm.Cond.methodLink "HarbourText" (74 : Nat) ({ cls := "HarbourText$Printout", name := "write", desc := "(LHarbourText$Harbour;)V" } : Jvm.MethodName)) ∈ lw_good := gd_t (tb_2 (List.mem_of_getElem? (i := 202) rfl)) rfl
theorem w_399 : (Jvm.Cond.instanceMethod ({ cls := "HarbourText$Printout", name := "write", desc := "(LHarbourText$Harbour;)V" } : Jvm.MethodName)) ∈ lw_good := gd_t (tb_2 (List.mem_of_getElem? (i := 203) rfl)) rfl
theorem w_400 : (Jvm.Cond.selects "HarbourText$Printout" ({ cls := "HarbourText$Printout", name := "write", desc := "(LHarbourText$Harbour;)V" } : Jvm.MethodName) ({ cls := "HarbourText$Printout", name := "write", desc := "(LHarbourText$Harbour;)V" } : Jvm.MethodName)) ∈ lw_good := gd_t (tb_2 (List.mem_of_getElem? (i := 204) rfl)) rfl
theorem w_401 : (Jvm.Cond.code ({ cls := "HarbourText$Printout", name := "write", desc := "(LHarbourText$Harbour;)V" } : Jvm.MethodName) prog_4_method_4_code (6 : Nat) (Option.none : Option Jvm.ClassFile.FieldType)) ∈ lw_good := gd_t (tb_2 (List.mem_of_getElem? (i := 205) rfl)) rfl
theorem w_402 : (Jvm.Cond.methodLink "HarbourText$Printout" (19 : Nat) ({ cls := "HarbourText$Harbour", name := "size", desc := "()I" } : Jvm.MethodName)) ∈ lw_good := gd_t (tb_2 (List.mem_of_getElem? (i := 206) rfl)) rfl
theorem w_403 : (Jvm.Cond.methodLink "HarbourText$Printout" (25 : Nat) ({ cls := "HarbourText$Harbour", name := "nextBehind", desc := "(I)I" } : Jvm.MethodName)) ∈ lw_good := gd_t (tb_2 (List.mem_of_getElem? (i := 207) rfl)) rfl
theorem w_404 : (Jvm.Cond.instanceMethod ({ cls := "HarbourText$Harbour", name := "nextBehind", desc := "(I)I" } : Jvm.MethodName)) ∈ lw_good := gd_t (tb_2 (List.mem_of_getElem? (i := 208) rfl)) rfl
theorem w_405 : (Jvm.Cond.selects "HarbourText$Harbour" ({ cls := "HarbourText$Harbour", name := "nextBehind", desc := "(I)I" } : Jvm.MethodName) ({ cls := "HarbourText$Harbour", name := "nextBehind", desc := "(I)I" } : Jvm.MethodName)) ∈ lw_good := gd_t (tb_2 (List.mem_of_getElem? (i := 209) rfl)) rfl
theorem w_406 : (Jvm.Cond.code ({ cls := "HarbourText$Harbour", name := "nextBehind", desc := "(I)I" } : Jvm.MethodName) prog_3_method_13_code (4 : Nat) (Option.some Jvm.ClassFile.FieldType.int)) ∈ lw_good := gd_t (tb_2 (List.mem_of_getElem? (i := 210) rfl)) rfl
theorem w_407 : (Jvm.Cond.methodLink "HarbourText$Harbour" (40 : Nat) ({ cls := "HarbourText$Harbour", name := "rankOf", desc := "(I)I" } : Jvm.MethodName)) ∈ lw_good := gd_t (tb_2 (List.mem_of_getElem? (i := 211) rfl)) rfl
theorem w_408 : (Jvm.Cond.instanceMethod ({ cls := "HarbourText$Harbour", name := "rankOf", desc := "(I)I" } : Jvm.MethodName)) ∈ lw_good := gd_t (tb_2 (List.mem_of_getElem? (i := 212) rfl)) rfl
theorem w_409 : (Jvm.Cond.selects "HarbourText$Harbour" ({ cls := "HarbourText$Harbour", name := "rankOf", desc := "(I)I" } : Jvm.MethodName) ({ cls := "HarbourText$Harbour", name := "rankOf", desc := "(I)I" } : Jvm.MethodName)) ∈ lw_good := gd_t (tb_2 (List.mem_of_getElem? (i := 213) rfl)) rfl
theorem w_410 : (Jvm.Cond.code ({ cls := "HarbourText$Harbour", name := "rankOf", desc := "(I)I" } : Jvm.MethodName) prog_3_method_12_code (2 : Nat) (Option.some Jvm.ClassFile.FieldType.int)) ∈ lw_good := gd_t (tb_2 (List.mem_of_getElem? (i := 214) rfl)) rfl
theorem w_411 : (Jvm.Cond.methodLink "HarbourText$Harbour" (37 : Nat) ({ cls := "HarbourText$Harbour", name := "nameOf", desc := "(I)I" } : Jvm.MethodName)) ∈ lw_good := gd_t (tb_2 (List.mem_of_getElem? (i := 215) rfl)) rfl
theorem w_412 : (Jvm.Cond.instanceMethod ({ cls := "HarbourText$Harbour", name := "nameOf", desc := "(I)I" } : Jvm.MethodName)) ∈ lw_good := gd_t (tb_2 (List.mem_of_getElem? (i := 216) rfl)) rfl
theorem w_413 : (Jvm.Cond.selects "HarbourText$Harbour" ({ cls := "HarbourText$Harbour", name := "nameOf", desc := "(I)I" } : Jvm.MethodName) ({ cls := "HarbourText$Harbour", name := "nameOf", desc := "(I)I" } : Jvm.MethodName)) ∈ lw_good := gd_t (tb_2 (List.mem_of_getElem? (i := 217) rfl)) rfl
theorem w_414 : (Jvm.Cond.code ({ cls := "HarbourText$Harbour", name := "nameOf", desc := "(I)I" } : Jvm.MethodName) prog_3_method_8_code (2 : Nat) (Option.some Jvm.ClassFile.FieldType.int)) ∈ lw_good := gd_t (tb_2 (List.mem_of_getElem? (i := 218) rfl)) rfl
theorem w_415 : (Jvm.Cond.methodLink "HarbourText$Printout" (29 : Nat) ({ cls := "HarbourText$Printout", name := "writeRow", desc := "(LHarbourText$Harbour;I)V" } : Jvm.MethodName)) ∈ lw_good := gd_t (tb_2 (List.mem_of_getElem? (i := 219) rfl)) rfl
theorem w_416 : (Jvm.Cond.instanceMethod ({ cls := "HarbourText$Printout", name := "writeRow", desc := "(LHarbourText$Harbour;I)V" } : Jvm.MethodName)) ∈ lw_good := gd_t (tb_2 (List.mem_of_getElem? (i := 221) rfl)) rfl
theorem w_417 : (Jvm.Cond.code ({ cls := "HarbourText$Printout", name := "writeRow", desc := "(LHarbourText$Harbour;I)V" } : Jvm.MethodName) prog_4_method_5_code (6 : Nat) (Option.none : Option Jvm.ClassFile.FieldType)) ∈ lw_good := gd_t (tb_2 (List.mem_of_getElem? (i := 222) rfl)) rfl
theorem w_418 : (Jvm.Cond.methodLink "HarbourText$Printout" (36 : Nat) ({ cls := "HarbourText$Harbour", name := "kindOf", desc := "(I)I" } : Jvm.MethodName)) ∈ lw_good := gd_t (tb_2 (List.mem_of_getElem? (i := 223) rfl)) rfl
theorem w_419 : (Jvm.Cond.methodLink "HarbourText$Printout" (46 : Nat) ({ cls := "HarbourText$Printout", name := "writeSign", desc := "(C)V" } : Jvm.MethodName)) ∈ lw_good := gd_t (tb_2 (List.mem_of_getElem? (i := 226) rfl)) rfl
theorem w_420 : (Jvm.Cond.instanceMethod ({ cls := "HarbourText$Printout", name := "writeSign", desc := "(C)V" } : Jvm.MethodName)) ∈ lw_good := gd_t (tb_2 (List.mem_of_getElem? (i := 228) rfl)) rfl
theorem w_421 : (Jvm.Cond.code ({ cls := "HarbourText$Printout", name := "writeSign", desc := "(C)V" } : Jvm.MethodName) prog_4_method_7_code (2 : Nat) (Option.none : Option Jvm.ClassFile.FieldType)) ∈ lw_good := gd_t (tb_2 (List.mem_of_getElem? (i := 229) rfl)) rfl
theorem w_422 : (Jvm.Cond.methodLink "HarbourText$Printout" (50 : Nat) ({ cls := "HarbourText$Harbour", name := "nameOf", desc := "(I)I" } : Jvm.MethodName)) ∈ lw_good := gd_t (tb_2 (List.mem_of_getElem? (i := 230) rfl)) rfl
theorem w_423 : (Jvm.Cond.methodLink "HarbourText$Printout" (53 : Nat) ({ cls := "HarbourText$Printout", name := "writeNumber", desc := "(I)V" } : Jvm.MethodName)) ∈ lw_good := gd_t (tb_2 (List.mem_of_getElem? (i := 231) rfl)) rfl
theorem w_424 : (Jvm.Cond.instanceMethod ({ cls := "HarbourText$Printout", name := "writeNumber", desc := "(I)V" } : Jvm.MethodName)) ∈ lw_good := gd_t (tb_2 (List.mem_of_getElem? (i := 233) rfl)) rfl
theorem w_425 : (Jvm.Cond.code ({ cls := "HarbourText$Printout", name := "writeNumber", desc := "(I)V" } : Jvm.MethodName) prog_4_method_6_code (2 : Nat) (Option.none : Option Jvm.ClassFile.FieldType)) ∈ lw_good := gd_t (tb_2 (List.mem_of_getElem? (i := 234) rfl)) rfl
theorem w_426 : (Jvm.Cond.methodLink "HarbourText$Printout" (60 : Nat) ({ cls := "HarbourText$Harbour", name := "numberOf", desc := "(II)I" } : Jvm.MethodName)) ∈ lw_good := gd_t (tb_2 (List.mem_of_getElem? (i := 236) rfl)) rfl
theorem w_427 : (Jvm.Cond.methodLink "HarbourText$Printout" (33 : Nat) ({ cls := "HarbourText$Harbour", name := "rankOf", desc := "(I)I" } : Jvm.MethodName)) ∈ lw_good := gd_t (tb_2 (List.mem_of_getElem? (i := 237) rfl)) rfl
theorem w_428 : (Jvm.Cond.methodLink "HarbourTextLaw" (56 : Nat) ({ cls := "HarbourTextLaw", name := "piece", desc := "(LHarbourText;II[J)I" } : Jvm.MethodName)) ∈ lw_good := gd_t (tb_2 (List.mem_of_getElem? (i := 238) rfl)) rfl
theorem w_429 : (Jvm.Cond.static ({ cls := "HarbourTextLaw", name := "piece", desc := "(LHarbourText;II[J)I" } : Jvm.MethodName)) ∈ lw_good := gd_t (tb_2 (List.mem_of_getElem? (i := 239) rfl)) rfl
theorem w_430 : (Jvm.Cond.codeWith ({ cls := "HarbourTextLaw", name := "piece", desc := "(LHarbourText;II[J)I" } : Jvm.MethodName) method_4_code (5 : Nat) (Option.some Jvm.ClassFile.FieldType.int) [((0 : Nat), (10 : Nat), (13 : Nat), (19 : Nat))]) ∈ lw_good := gd_t (tb_3 (List.mem_of_getElem? (i := 0) rfl)) rfl
theorem w_431 : (Jvm.Cond.classLink "HarbourTextLaw" (19 : Nat) "java/lang/IndexOutOfBoundsException") ∈ lw_good := gd_t (tb_3 (List.mem_of_getElem? (i := 1) rfl)) rfl
theorem w_432 : (Jvm.Cond.methodLink "HarbourTextLaw" (15 : Nat) ({ cls := "HarbourText", name := "piece", desc := "(II)I" } : Jvm.MethodName)) ∈ lw_good := gd_t (tb_3 (List.mem_of_getElem? (i := 2) rfl)) rfl
theorem w_433 : (Jvm.Cond.instanceMethod ({ cls := "HarbourText", name := "piece", desc := "(II)I" } : Jvm.MethodName)) ∈ lw_good := gd_t (tb_3 (List.mem_of_getElem? (i := 3) rfl)) rfl
theorem w_434 : (Jvm.Cond.selects "HarbourText" ({ cls := "HarbourText", name := "piece", desc := "(II)I" } : Jvm.MethodName) ({ cls := "HarbourText", name := "piece", desc := "(II)I" } : Jvm.MethodName)) ∈ lw_good := gd_t (tb_3 (List.mem_of_getElem? (i := 4) rfl)) rfl
theorem w_435 : (Jvm.Cond.code ({ cls := "HarbourText", name := "piece", desc := "(II)I" } : Jvm.MethodName) prog_1_method_5_code (4 : Nat) (Option.some Jvm.ClassFile.FieldType.int)) ∈ lw_good := gd_t (tb_3 (List.mem_of_getElem? (i := 5) rfl)) rfl
theorem w_436 : (Jvm.Cond.classLink "HarbourText" (87 : Nat) "java/lang/IndexOutOfBoundsException") ∈ lw_good := gd_t (tb_3 (List.mem_of_getElem? (i := 6) rfl)) rfl
theorem w_437 : (Jvm.Cond.instantiable "java/lang/IndexOutOfBoundsException" (6 : Nat)) ∈ lw_good := gd_t (tb_3 (List.mem_of_getElem? (i := 7) rfl)) rfl
theorem w_438 : (Jvm.Cond.selects "java/lang/IndexOutOfBoundsException" ({ cls := "java/lang/Throwable", name := "fillInStackTrace", desc := "(I)Ljava/lang/Throwable;" } : Jvm.MethodName) ({ cls := "java/lang/Throwable", name := "fillInStackTrace", desc := "(I)Ljava/lang/Throwable;" } : Jvm.MethodName)) ∈ lw_good := gd_t (tb_3 (List.mem_of_getElem? (i := 9) rfl)) rfl
theorem w_439 : (Jvm.Cond.lays "java/lang/IndexOutOfBoundsException" "java/lang/Throwable" "cause" "Ljava/lang/Throwable;") ∈ lw_good := gd_t (tb_3 (List.mem_of_getElem? (i := 10) rfl)) rfl
theorem w_440 : (Jvm.Cond.lays "java/lang/IndexOutOfBoundsException" "java/lang/Throwable" "stackTrace" "[Ljava/lang/StackTraceElement;") ∈ lw_good := gd_t (tb_3 (List.mem_of_getElem? (i := 11) rfl)) rfl
theorem w_441 : (Jvm.Cond.lays "java/lang/IndexOutOfBoundsException" "java/lang/Throwable" "suppressedExceptions" "Ljava/util/List;") ∈ lw_good := gd_t (tb_3 (List.mem_of_getElem? (i := 12) rfl)) rfl
theorem w_442 : (Jvm.Cond.lays "java/lang/IndexOutOfBoundsException" "java/lang/Throwable" "detailMessage" "Ljava/lang/String;") ∈ lw_good := gd_t (tb_3 (List.mem_of_getElem? (i := 13) rfl)) rfl
theorem w_443 : (Jvm.Cond.lays "java/lang/IndexOutOfBoundsException" "java/lang/Throwable" "backtrace" "Ljava/lang/Object;") ∈ lw_good := gd_t (tb_3 (List.mem_of_getElem? (i := 14) rfl)) rfl
theorem w_444 : (Jvm.Cond.methodLink "HarbourText" (91 : Nat) ({ cls := "java/lang/IndexOutOfBoundsException", name := "<init>", desc := "(Ljava/lang/String;)V" } : Jvm.MethodName)) ∈ lw_good := gd_t (tb_3 (List.mem_of_getElem? (i := 16) rfl)) rfl
theorem w_445 : (Jvm.Cond.instanceMethod ({ cls := "java/lang/IndexOutOfBoundsException", name := "<init>", desc := "(Ljava/lang/String;)V" } : Jvm.MethodName)) ∈ lw_good := gd_t (tb_3 (List.mem_of_getElem? (i := 17) rfl)) rfl
theorem w_446 : (Jvm.Cond.code ({ cls := "java/lang/IndexOutOfBoundsException", name := "<init>", desc := "(Ljava/lang/String;)V" } : Jvm.MethodName) prog_12_method_2_code (2 : Nat) (Option.none : Option Jvm.ClassFile.FieldType)) ∈ lw_good := gd_t (tb_3 (List.mem_of_getElem? (i := 18) rfl)) rfl
theorem w_447 : (Jvm.Cond.methodLink "java/lang/IndexOutOfBoundsException" (7 : Nat) ({ cls := "java/lang/RuntimeException", name := "<init>", desc := "(Ljava/lang/String;)V" } : Jvm.MethodName)) ∈ lw_good := gd_t (tb_3 (List.mem_of_getElem? (i := 19) rfl)) rfl
theorem w_448 : (Jvm.Cond.lays "java/lang/IndexOutOfBoundsException" "java/lang/Throwable" "depth" "I") ∈ lw_good := gd_t (tb_3 (List.mem_of_getElem? (i := 20) rfl)) rfl
theorem w_449 : (Jvm.Cond.superclass "java/lang/IndexOutOfBoundsException" "java/lang/RuntimeException") ∈ lw_good := gd_t (tb_3 (List.mem_of_getElem? (i := 21) rfl)) rfl
theorem w_450 : (Jvm.Cond.methodLink "HarbourText" (92 : Nat) ({ cls := "HarbourText$Harbour", name := "kindOf", desc := "(I)I" } : Jvm.MethodName)) ∈ lw_good := gd_t (tb_3 (List.mem_of_getElem? (i := 22) rfl)) rfl
theorem w_451 : (Jvm.Cond.methodLink "HarbourText" (96 : Nat) ({ cls := "HarbourText", name := "numbersOfKind", desc := "(I)I" } : Jvm.MethodName)) ∈ lw_good := gd_t (tb_3 (List.mem_of_getElem? (i := 23) rfl)) rfl
theorem w_452 : (Jvm.Cond.methodLink "HarbourText" (101 : Nat) ({ cls := "HarbourText$Harbour", name := "nameOf", desc := "(I)I" } : Jvm.MethodName)) ∈ lw_good := gd_t (tb_3 (List.mem_of_getElem? (i := 25) rfl)) rfl
theorem w_453 : (Jvm.Cond.methodLink "HarbourText" (104 : Nat) ({ cls := "HarbourText$Harbour", name := "numberOf", desc := "(II)I" } : Jvm.MethodName)) ∈ lw_good := gd_t (tb_3 (List.mem_of_getElem? (i := 26) rfl)) rfl
theorem w_454 : (Jvm.Cond.methodLink "HarbourTextLaw" (64 : Nat) ({ cls := "HarbourTextLaw", name := "reach", desc := "(LHarbourText;III[J)I" } : Jvm.MethodName)) ∈ lw_good := gd_t (tb_3 (List.mem_of_getElem? (i := 27) rfl)) rfl
theorem w_455 : (Jvm.Cond.static ({ cls := "HarbourTextLaw", name := "reach", desc := "(LHarbourText;III[J)I" } : Jvm.MethodName)) ∈ lw_good := gd_t (tb_3 (List.mem_of_getElem? (i := 28) rfl)) rfl
theorem w_456 : (Jvm.Cond.codeWith ({ cls := "HarbourTextLaw", name := "reach", desc := "(LHarbourText;III[J)I" } : Jvm.MethodName) method_5_code (6 : Nat) (Option.some Jvm.ClassFile.FieldType.int) [((0 : Nat), (12 : Nat), (15 : Nat), (25 : Nat))]) ∈ lw_good := gd_t (tb_3 (List.mem_of_getElem? (i := 29) rfl)) rfl
theorem w_457 : (Jvm.Cond.classLink "HarbourTextLaw" (25 : Nat) "java/lang/IllegalArgumentException") ∈ lw_good := gd_t (tb_3 (List.mem_of_getElem? (i := 30) rfl)) rfl
theorem w_458 : (Jvm.Cond.methodLink "HarbourTextLaw" (21 : Nat) ({ cls := "HarbourText", name := "reach", desc := "(III)I" } : Jvm.MethodName)) ∈ lw_good := gd_t (tb_3 (List.mem_of_getElem? (i := 31) rfl)) rfl
theorem w_459 : (Jvm.Cond.instanceMethod ({ cls := "HarbourText", name := "reach", desc := "(III)I" } : Jvm.MethodName)) ∈ lw_good := gd_t (tb_3 (List.mem_of_getElem? (i := 32) rfl)) rfl
theorem w_460 : (Jvm.Cond.selects "HarbourText" ({ cls := "HarbourText", name := "reach", desc := "(III)I" } : Jvm.MethodName) ({ cls := "HarbourText", name := "reach", desc := "(III)I" } : Jvm.MethodName)) ∈ lw_good := gd_t (tb_3 (List.mem_of_getElem? (i := 33) rfl)) rfl
theorem w_461 : (Jvm.Cond.code ({ cls := "HarbourText", name := "reach", desc := "(III)I" } : Jvm.MethodName) prog_1_method_7_code (4 : Nat) (Option.some Jvm.ClassFile.FieldType.int)) ∈ lw_good := gd_t (tb_3 (List.mem_of_getElem? (i := 34) rfl)) rfl
theorem w_462 : (Jvm.Cond.classLink "HarbourText" (111 : Nat) "java/lang/IllegalArgumentException") ∈ lw_good := gd_t (tb_3 (List.mem_of_getElem? (i := 35) rfl)) rfl
theorem w_463 : (Jvm.Cond.instantiable "java/lang/IllegalArgumentException" (6 : Nat)) ∈ lw_good := gd_t (tb_3 (List.mem_of_getElem? (i := 36) rfl)) rfl
theorem w_464 : (Jvm.Cond.selects "java/lang/IllegalArgumentException" ({ cls := "java/lang/Throwable", name := "fillInStackTrace", desc := "(I)Ljava/lang/Throwable;" } : Jvm.MethodName) ({ cls := "java/lang/Throwable", name := "fillInStackTrace", desc := "(I)Ljava/lang/Throwable;" } : Jvm.MethodName)) ∈ lw_good := gd_t (tb_3 (List.mem_of_getElem? (i := 38) rfl)) rfl
theorem w_465 : (Jvm.Cond.lays "java/lang/IllegalArgumentException" "java/lang/Throwable" "cause" "Ljava/lang/Throwable;") ∈ lw_good := gd_t (tb_3 (List.mem_of_getElem? (i := 39) rfl)) rfl
theorem w_466 : (Jvm.Cond.lays "java/lang/IllegalArgumentException" "java/lang/Throwable" "stackTrace" "[Ljava/lang/StackTraceElement;") ∈ lw_good := gd_t (tb_3 (List.mem_of_getElem? (i := 40) rfl)) rfl
theorem w_467 : (Jvm.Cond.lays "java/lang/IllegalArgumentException" "java/lang/Throwable" "suppressedExceptions" "Ljava/util/List;") ∈ lw_good := gd_t (tb_3 (List.mem_of_getElem? (i := 41) rfl)) rfl
theorem w_468 : (Jvm.Cond.lays "java/lang/IllegalArgumentException" "java/lang/Throwable" "detailMessage" "Ljava/lang/String;") ∈ lw_good := gd_t (tb_3 (List.mem_of_getElem? (i := 42) rfl)) rfl
theorem w_469 : (Jvm.Cond.lays "java/lang/IllegalArgumentException" "java/lang/Throwable" "backtrace" "Ljava/lang/Object;") ∈ lw_good := gd_t (tb_3 (List.mem_of_getElem? (i := 43) rfl)) rfl
theorem w_470 : (Jvm.Cond.methodLink "HarbourText" (115 : Nat) ({ cls := "java/lang/IllegalArgumentException", name := "<init>", desc := "(Ljava/lang/String;)V" } : Jvm.MethodName)) ∈ lw_good := gd_t (tb_3 (List.mem_of_getElem? (i := 45) rfl)) rfl
theorem w_471 : (Jvm.Cond.instanceMethod ({ cls := "java/lang/IllegalArgumentException", name := "<init>", desc := "(Ljava/lang/String;)V" } : Jvm.MethodName)) ∈ lw_good := gd_t (tb_3 (List.mem_of_getElem? (i := 46) rfl)) rfl
theorem w_472 : (Jvm.Cond.code ({ cls := "java/lang/IllegalArgumentException", name := "<init>", desc := "(Ljava/lang/String;)V" } : Jvm.MethodName) prog_10_method_2_code (2 : Nat) (Option.none : Option Jvm.ClassFile.FieldType)) ∈ lw_good := gd_t (tb_3 (List.mem_of_getElem? (i := 47) rfl)) rfl
theorem w_473 : (Jvm.Cond.methodLink "java/lang/IllegalArgumentException" (7 : Nat) ({ cls := "java/lang/RuntimeException", name := "<init>", desc := "(Ljava/lang/String;)V" } : Jvm.MethodName)) ∈ lw_good := gd_t (tb_3 (List.mem_of_getElem? (i := 48) rfl)) rfl
theorem w_474 : (Jvm.Cond.lays "java/lang/IllegalArgumentException" "java/lang/Throwable" "depth" "I") ∈ lw_good := gd_t (tb_3 (List.mem_of_getElem? (i := 49) rfl)) rfl
theorem w_475 : (Jvm.Cond.superclass "java/lang/IllegalArgumentException" "java/lang/RuntimeException") ∈ lw_good := gd_t (tb_3 (List.mem_of_getElem? (i := 50) rfl)) rfl
theorem w_476 : (Jvm.Cond.methodLink "HarbourText" (116 : Nat) ({ cls := "HarbourText", name := "isPoint", desc := "(I)Z" } : Jvm.MethodName)) ∈ lw_good := gd_t (tb_3 (List.mem_of_getElem? (i := 51) rfl)) rfl
theorem w_477 : (Jvm.Cond.methodLink "HarbourText" (121 : Nat) ({ cls := "HarbourText$Ways", name := "spread", desc := "(LHarbourText$Harbour;II)V" } : Jvm.MethodName)) ∈ lw_good := gd_t (tb_3 (List.mem_of_getElem? (i := 53) rfl)) rfl
theorem w_478 : (Jvm.Cond.methodLink "HarbourText" (125 : Nat) ({ cls := "HarbourText$Ways", name := "depthAt", desc := "(I)I" } : Jvm.MethodName)) ∈ lw_good := gd_t (tb_3 (List.mem_of_getElem? (i := 54) rfl)) rfl
theorem w_479 : (Jvm.Cond.methodLink "HarbourTextLaw" (68 : Nat) ({ cls := "HarbourTextLaw", name := "deep", desc := "(LHarbourText;II[J)I" } : Jvm.MethodName)) ∈ lw_good := gd_t (tb_3 (List.mem_of_getElem? (i := 55) rfl)) rfl
theorem w_480 : (Jvm.Cond.static ({ cls := "HarbourTextLaw", name := "deep", desc := "(LHarbourText;II[J)I" } : Jvm.MethodName)) ∈ lw_good := gd_t (tb_3 (List.mem_of_getElem? (i := 56) rfl)) rfl
theorem w_481 : (Jvm.Cond.codeWith ({ cls := "HarbourTextLaw", name := "deep", desc := "(LHarbourText;II[J)I" } : Jvm.MethodName) method_6_code (5 : Nat) (Option.some Jvm.ClassFile.FieldType.int) [((0 : Nat), (10 : Nat), (13 : Nat), (25 : Nat))]) ∈ lw_good := gd_t (tb_3 (List.mem_of_getElem? (i := 57) rfl)) rfl
theorem w_482 : (Jvm.Cond.methodLink "HarbourTextLaw" (27 : Nat) ({ cls := "HarbourText", name := "deep", desc := "(II)I" } : Jvm.MethodName)) ∈ lw_good := gd_t (tb_3 (List.mem_of_getElem? (i := 58) rfl)) rfl
theorem w_483 : (Jvm.Cond.instanceMethod ({ cls := "HarbourText", name := "deep", desc := "(II)I" } : Jvm.MethodName)) ∈ lw_good := gd_t (tb_3 (List.mem_of_getElem? (i := 59) rfl)) rfl
theorem w_484 : (Jvm.Cond.selects "HarbourText" ({ cls := "HarbourText", name := "deep", desc := "(II)I" } : Jvm.MethodName) ({ cls := "HarbourText", name := "deep", desc := "(II)I" } : Jvm.MethodName)) ∈ lw_good := gd_t (tb_3 (List.mem_of_getElem? (i := 60) rfl)) rfl
theorem w_485 : (Jvm.Cond.code ({ cls := "HarbourText", name := "deep", desc := "(II)I" } : Jvm.MethodName) prog_1_method_8_code (3 : Nat) (Option.some Jvm.ClassFile.FieldType.int)) ∈ lw_good := gd_t (tb_3 (List.mem_of_getElem? (i := 61) rfl)) rfl
theorem w_486 : (Jvm.Cond.methodLink "HarbourTextLaw" (83 : Nat) ({ cls := "HarbourTextLaw", name := "at", desc := "(LHarbourText;I[J)I" } : Jvm.MethodName)) ∈ lw_good := gd_t (tb_3 (List.mem_of_getElem? (i := 62) rfl)) rfl
theorem w_487 : (Jvm.Cond.static ({ cls := "HarbourTextLaw", name := "at", desc := "(LHarbourText;I[J)I" } : Jvm.MethodName)) ∈ lw_good := gd_t (tb_3 (List.mem_of_getElem? (i := 63) rfl)) rfl
theorem w_488 : (Jvm.Cond.codeWith ({ cls := "HarbourTextLaw", name := "at", desc := "(LHarbourText;I[J)I" } : Jvm.MethodName) method_7_code (4 : Nat) (Option.some Jvm.ClassFile.FieldType.int) [((0 : Nat), (9 : Nat), (12 : Nat), (19 : Nat))]) ∈ lw_good := gd_t (tb_3 (List.mem_of_getElem? (i := 64) rfl)) rfl
theorem w_489 : (Jvm.Cond.methodLink "HarbourTextLaw" (30 : Nat) ({ cls := "HarbourText", name := "at", desc := "(I)I" } : Jvm.MethodName)) ∈ lw_good := gd_t (tb_3 (List.mem_of_getElem? (i := 65) rfl)) rfl
theorem w_490 : (Jvm.Cond.instanceMethod ({ cls := "HarbourText", name := "at", desc := "(I)I" } : Jvm.MethodName)) ∈ lw_good := gd_t (tb_3 (List.mem_of_getElem? (i := 66) rfl)) rfl
theorem w_491 : (Jvm.Cond.selects "HarbourText" ({ cls := "HarbourText", name := "at", desc := "(I)I" } : Jvm.MethodName) ({ cls := "HarbourText", name := "at", desc := "(I)I" } : Jvm.MethodName)) ∈ lw_good := gd_t (tb_3 (List.mem_of_getElem? (i := 67) rfl)) rfl
theorem w_492 : (Jvm.Cond.code ({ cls := "HarbourText", name := "at", desc := "(I)I" } : Jvm.MethodName) prog_1_method_12_code (2 : Nat) (Option.some Jvm.ClassFile.FieldType.int)) ∈ lw_good := gd_t (tb_3 (List.mem_of_getElem? (i := 68) rfl)) rfl
theorem w_493 : (Jvm.Cond.methodLink "HarbourText" (137 : Nat) ({ cls := "HarbourText$Printout", name := "signAt", desc := "(I)I" } : Jvm.MethodName)) ∈ lw_good := gd_t (tb_3 (List.mem_of_getElem? (i := 70) rfl)) rfl
theorem w_494 : (Jvm.Cond.instanceMethod ({ cls := "HarbourText$Printout", name := "signAt", desc := "(I)I" } : Jvm.MethodName)) ∈ lw_good := gd_t (tb_3 (List.mem_of_getElem? (i := 71) rfl)) rfl
theorem w_495 : (Jvm.Cond.selects "HarbourText$Printout" ({ cls := "HarbourText$Printout", name := "signAt", desc := "(I)I" } : Jvm.MethodName) ({ cls := "HarbourText$Printout", name := "signAt", desc := "(I)I" } : Jvm.MethodName)) ∈ lw_good := gd_t (tb_3 (List.mem_of_getElem? (i := 72) rfl)) rfl
theorem w_496 : (Jvm.Cond.code ({ cls := "HarbourText$Printout", name := "signAt", desc := "(I)I" } : Jvm.MethodName) prog_4_method_3_code (2 : Nat) (Option.some Jvm.ClassFile.FieldType.int)) ∈ lw_good := gd_t (tb_3 (List.mem_of_getElem? (i := 73) rfl)) rfl
theorem w_497 : (Jvm.Cond.classLink "HarbourTextLaw" (35 : Nat) "HarbourTextModel") ∈ lw_good := gd_t (tb_3 (List.mem_of_getElem? (i := 74) rfl)) rfl
theorem w_498 : (Jvm.Cond.instantiable "HarbourTextModel" (11 : Nat)) ∈ lw_good := gd_t (tb_3 (List.mem_of_getElem? (i := 75) rfl)) rfl
theorem w_499 : (Jvm.Cond.methodLink "HarbourTextLaw" (37 : Nat) ({ cls := "HarbourTextModel", name := "<init>", desc := "()V" } : Jvm.MethodName)) ∈ lw_good := gd_t (tb_3 (List.mem_of_getElem? (i := 76) rfl)) rfl
theorem w_500 : (Jvm.Cond.instanceMethod ({ cls := "HarbourTextModel", name := "<init>", desc := "()V" } : Jvm.MethodName)) ∈ lw_good := gd_t (tb_3 (List.mem_of_getElem? (i := 77) rfl)) rfl
theorem w_501 : (Jvm.Cond.code ({ cls := "HarbourTextModel", name := "<init>", desc := "()V" } : Jvm.MethodName) prog_8_method_1_code (1 : Nat) (Option.none : Option Jvm.ClassFile.FieldType)) ∈ lw_good := gd_t (tb_3 (List.mem_of_getElem? (i := 78) rfl)) rfl
theorem w_502 : (Jvm.Cond.methodLink "HarbourTextModel" (1 : Nat) ({ cls := "java/lang/Object", name := "<init>", desc := "()V" } : Jvm.MethodName)) ∈ lw_good := gd_t (tb_3 (List.mem_of_getElem? (i := 79) rfl)) rfl
theorem w_503 : (Jvm.Cond.fieldLink "HarbourTextModel" (26 : Nat) "HarbourTextModel" "thrown" "I") ∈ lw_good := gd_t (tb_3 (List.mem_of_getElem? (i := 80) rfl)) rfl
theorem w_504 : (Jvm.Cond.fieldLink "HarbourTextModel" (7 : Nat) "HarbourTextModel" "text" "[I") ∈ lw_good := gd_t (tb_3 (List.mem_of_getElem? (i := 81) rfl)) rfl
theorem w_505 : (Jvm.Cond.fieldLink "HarbourTextModel" (37 : Nat) "HarbourTextModel" "signs" "I") ∈ lw_good := gd_t (tb_3 (List.mem_of_getElem? (i := 82) rfl)) rfl
theorem w_506 : (Jvm.Cond.fieldLink "HarbourTextModel" (40 : Nat) "HarbourTextModel" "failed" "I") ∈ lw_good := gd_t (tb_3 (List.mem_of_getElem? (i := 83) rfl)) rfl
theorem w_507 : (Jvm.Cond.fieldLink "HarbourTextModel" (13 : Nat) "HarbourTextModel" "failedAt" "I") ∈ lw_good := gd_t (tb_3 (List.mem_of_getElem? (i := 84) rfl)) rfl
theorem w_508 : (Jvm.Cond.fieldLink "HarbourTextModel" (17 : Nat) "HarbourTextModel" "told" "[I") ∈ lw_good := gd_t (tb_3 (List.mem_of_getElem? (i := 85) rfl)) rfl
theorem w_509 : (Jvm.Cond.fieldLink "HarbourTextModel" (86 : Nat) "HarbourTextModel" "pieces" "I") ∈ lw_good := gd_t (tb_3 (List.mem_of_getElem? (i := 86) rfl)) rfl
theorem w_510 : (Jvm.Cond.fieldLink "HarbourTextModel" (126 : Nat) "HarbourTextModel" "kept" "I") ∈ lw_good := gd_t (tb_3 (List.mem_of_getElem? (i := 87) rfl)) rfl
theorem w_511 : (Jvm.Cond.fieldLink "HarbourTextModel" (50 : Nat) "HarbourTextModel" "coming" "I") ∈ lw_good := gd_t (tb_3 (List.mem_of_getElem? (i := 88) rfl)) rfl
theorem w_512 : (Jvm.Cond.fieldLink "HarbourTextModel" (20 : Nat) "HarbourTextModel" "deepTo" "[I") ∈ lw_good := gd_t (tb_3 (List.mem_of_getElem? (i := 89) rfl)) rfl
theorem w_513 : (Jvm.Cond.fieldLink "HarbourTextModel" (23 : Nat) "HarbourTextModel" "printed" "[I") ∈ lw_good := gd_t (tb_3 (List.mem_of_getElem? (i := 90) rfl)) rfl
theorem w_514 : (Jvm.Cond.lays "HarbourTextModel" "HarbourTextModel" "thrown" "I") ∈ lw_good := gd_t (tb_3 (List.mem_of_getElem? (i := 91) rfl)) rfl
theorem w_515 : (Jvm.Cond.soleField "HarbourTextModel" "thrown") ∈ lw_good := gd_t (tb_3 (List.mem_of_getElem? (i := 92) rfl)) rfl
theorem w_516 : (Jvm.Cond.laysFinal "HarbourTextModel" "HarbourTextModel" "text" "[I") ∈ lw_good := gd_t (tb_3 (List.mem_of_getElem? (i := 93) rfl)) rfl
theorem w_517 : (Jvm.Cond.soleField "HarbourTextModel" "text") ∈ lw_good := gd_t (tb_3 (List.mem_of_getElem? (i := 94) rfl)) rfl
theorem w_518 : (Jvm.Cond.lays "HarbourTextModel" "HarbourTextModel" "signs" "I") ∈ lw_good := gd_t (tb_3 (List.mem_of_getElem? (i := 95) rfl)) rfl
theorem w_519 : (Jvm.Cond.soleField "HarbourTextModel" "signs") ∈ lw_good := gd_t (tb_3 (List.mem_of_getElem? (i := 96) rfl)) rfl
theorem w_520 : (Jvm.Cond.lays "HarbourTextModel" "HarbourTextModel" "failed" "I") ∈ lw_good := gd_t (tb_3 (List.mem_of_getElem? (i := 97) rfl)) rfl
theorem w_521 : (Jvm.Cond.soleField "HarbourTextModel" "failed") ∈ lw_good := gd_t (tb_3 (List.mem_of_getElem? (i := 98) rfl)) rfl
theorem w_522 : (Jvm.Cond.lays "HarbourTextModel" "HarbourTextModel" "failedAt" "I") ∈ lw_good := gd_t (tb_3 (List.mem_of_getElem? (i := 99) rfl)) rfl
theorem w_523 : (Jvm.Cond.soleField "HarbourTextModel" "failedAt") ∈ lw_good := gd_t (tb_3 (List.mem_of_getElem? (i := 100) rfl)) rfl
theorem w_524 : (Jvm.Cond.laysFinal "HarbourTextModel" "HarbourTextModel" "told" "[I") ∈ lw_good := gd_t (tb_3 (List.mem_of_getElem? (i := 101) rfl)) rfl
theorem w_525 : (Jvm.Cond.soleField "HarbourTextModel" "told") ∈ lw_good := gd_t (tb_3 (List.mem_of_getElem? (i := 102) rfl)) rfl
theorem w_526 : (Jvm.Cond.lays "HarbourTextModel" "HarbourTextModel" "pieces" "I") ∈ lw_good := gd_t (tb_3 (List.mem_of_getElem? (i := 103) rfl)) rfl
theorem w_527 : (Jvm.Cond.soleField "HarbourTextModel" "pieces") ∈ lw_good := gd_t (tb_3 (List.mem_of_getElem? (i := 104) rfl)) rfl
theorem w_528 : (Jvm.Cond.lays "HarbourTextModel" "HarbourTextModel" "kept" "I") ∈ lw_good := gd_t (tb_3 (List.mem_of_getElem? (i := 105) rfl)) rfl
theorem w_529 : (Jvm.Cond.soleField "HarbourTextModel" "kept") ∈ lw_good := gd_t (tb_3 (List.mem_of_getElem? (i := 106) rfl)) rfl
theorem w_530 : (Jvm.Cond.lays "HarbourTextModel" "HarbourTextModel" "coming" "I") ∈ lw_good := gd_t (tb_3 (List.mem_of_getElem? (i := 107) rfl)) rfl
theorem w_531 : (Jvm.Cond.soleField "HarbourTextModel" "coming") ∈ lw_good := gd_t (tb_3 (List.mem_of_getElem? (i := 108) rfl)) rfl
theorem w_532 : (Jvm.Cond.laysFinal "HarbourTextModel" "HarbourTextModel" "deepTo" "[I") ∈ lw_good := gd_t (tb_3 (List.mem_of_getElem? (i := 109) rfl)) rfl
theorem w_533 : (Jvm.Cond.soleField "HarbourTextModel" "deepTo") ∈ lw_good := gd_t (tb_3 (List.mem_of_getElem? (i := 110) rfl)) rfl
theorem w_534 : (Jvm.Cond.laysFinal "HarbourTextModel" "HarbourTextModel" "printed" "[I") ∈ lw_good := gd_t (tb_3 (List.mem_of_getElem? (i := 111) rfl)) rfl
theorem w_535 : (Jvm.Cond.soleField "HarbourTextModel" "printed") ∈ lw_good := gd_t (tb_3 (List.mem_of_getElem? (i := 112) rfl)) rfl
theorem w_536 : (Jvm.Cond.superclass "HarbourTextModel" "java/lang/Object") ∈ lw_good := gd_t (tb_3 (List.mem_of_getElem? (i := 113) rfl)) rfl
theorem w_537 : (Jvm.Cond.methodLink "HarbourTextLaw" (49 : Nat) ({ cls := "HarbourTextModel", name := "thrown", desc := "()I" } : Jvm.MethodName)) ∈ lw_good := gd_t (tb_3 (List.mem_of_getElem? (i := 114) rfl)) rfl
theorem w_538 : (Jvm.Cond.instanceMethod ({ cls := "HarbourTextModel", name := "thrown", desc := "()I" } : Jvm.MethodName)) ∈ lw_good := gd_t (tb_3 (List.mem_of_getElem? (i := 115) rfl)) rfl
theorem w_539 : (Jvm.Cond.selects "HarbourTextModel" ({ cls := "HarbourTextModel", name := "thrown", desc := "()I" } : Jvm.MethodName) ({ cls := "HarbourTextModel", name := "thrown", desc := "()I" } : Jvm.MethodName)) ∈ lw_good := gd_t (tb_3 (List.mem_of_getElem? (i := 116) rfl)) rfl
theorem w_540 : (Jvm.Cond.code ({ cls := "HarbourTextModel", name := "thrown", desc := "()I" } : Jvm.MethodName) prog_8_method_2_code (1 : Nat) (Option.some Jvm.ClassFile.FieldType.int)) ∈ lw_good := gd_t (tb_3 (List.mem_of_getElem? (i := 117) rfl)) rfl
theorem w_541 : (Jvm.Cond.methodLink "HarbourTextLaw" (42 : Nat) ({ cls := "HarbourTextModel", name := "sign", desc := "(I)Z" } : Jvm.MethodName)) ∈ lw_good := gd_t (tb_3 (List.mem_of_getElem? (i := 118) rfl)) rfl
theorem w_542 : (Jvm.Cond.instanceMethod ({ cls := "HarbourTextModel", name := "sign", desc := "(I)Z" } : Jvm.MethodName)) ∈ lw_good := gd_t (tb_3 (List.mem_of_getElem? (i := 119) rfl)) rfl
theorem w_543 : (Jvm.Cond.selects "HarbourTextModel" ({ cls := "HarbourTextModel", name := "sign", desc := "(I)Z" } : Jvm.MethodName) ({ cls := "HarbourTextModel", name := "sign", desc := "(I)Z" } : Jvm.MethodName)) ∈ lw_good := gd_t (tb_3 (List.mem_of_getElem? (i := 120) rfl)) rfl
theorem w_544 : (Jvm.Cond.code ({ cls := "HarbourTextModel", name := "sign", desc := "(I)Z" } : Jvm.MethodName) prog_8_method_10_code (2 : Nat) (Option.some Jvm.ClassFile.FieldType.boolean)) ∈ lw_good := gd_t (tb_3 (List.mem_of_getElem? (i := 121) rfl)) rfl
theorem w_545 : (Jvm.Cond.methodLink "HarbourTextModel" (33 : Nat) ({ cls := "HarbourTextModel", name := "in", desc := "(III)Z" } : Jvm.MethodName)) ∈ lw_good := gd_t (tb_3 (List.mem_of_getElem? (i := 122) rfl)) rfl
theorem w_546 : (Jvm.Cond.static ({ cls := "HarbourTextModel", name := "in", desc := "(III)Z" } : Jvm.MethodName)) ∈ lw_good := gd_t (tb_3 (List.mem_of_getElem? (i := 123) rfl)) rfl
theorem w_547 : (Jvm.Cond.code ({ cls := "HarbourTextModel", name := "in", desc := "(III)Z" } : Jvm.MethodName) prog_8_method_4_code (3 : Nat) (Option.some Jvm.ClassFile.FieldType.boolean)) ∈ lw_good := gd_t (tb_3 (List.mem_of_getElem? (i := 124) rfl)) rfl
theorem w_548 : (Jvm.Cond.methodLink "HarbourTextLaw" (48 : Nat) ({ cls := "HarbourTextModel", name := "read", desc := "()I" } : Jvm.MethodName)) ∈ lw_good := gd_t (tb_3 (List.mem_of_getElem? (i := 125) rfl)) rfl
theorem w_549 : (Jvm.Cond.instanceMethod ({ cls := "HarbourTextModel", name := "read", desc := "()I" } : Jvm.MethodName)) ∈ lw_good := gd_t (tb_3 (List.mem_of_getElem? (i := 126) rfl)) rfl
theorem w_550 : (Jvm.Cond.selects "HarbourTextModel" ({ cls := "HarbourTextModel", name := "read", desc := "()I" } : Jvm.MethodName) ({ cls := "HarbourTextModel", name := "read", desc := "()I" } : Jvm.MethodName)) ∈ lw_good := gd_t (tb_3 (List.mem_of_getElem? (i := 127) rfl)) rfl
theorem w_551 : (Jvm.Cond.code ({ cls := "HarbourTextModel", name := "read", desc := "()I" } : Jvm.MethodName) prog_8_method_18_code (2 : Nat) (Option.some Jvm.ClassFile.FieldType.int)) ∈ lw_good := gd_t (tb_3 (List.mem_of_getElem? (i := 128) rfl)) rfl
theorem w_552 : (Jvm.Cond.methodLink "HarbourTextModel" (80 : Nat) ({ cls := "HarbourTextModel", name := "readsRow", desc := "(I)I" } : Jvm.MethodName)) ∈ lw_good := gd_t (tb_3 (List.mem_of_getElem? (i := 129) rfl)) rfl
theorem w_553 : (Jvm.Cond.instanceMethod ({ cls := "HarbourTextModel", name := "readsRow", desc := "(I)I" } : Jvm.MethodName)) ∈ lw_good := gd_t (tb_3 (List.mem_of_getElem? (i := 131) rfl)) rfl
theorem w_554 : (Jvm.Cond.code ({ cls := "HarbourTextModel", name := "readsRow", desc := "(I)I" } : Jvm.MethodName) prog_8_method_17_code (6 : Nat) (Option.some Jvm.ClassFile.FieldType.int)) ∈ lw_good := gd_t (tb_3 (List.mem_of_getElem? (i := 132) rfl)) rfl
theorem w_555 : (Jvm.Cond.methodLink "HarbourTextModel" (70 : Nat) ({ cls := "HarbourTextModel", name := "kindOf", desc := "(I)I" } : Jvm.MethodName)) ∈ lw_good := gd_t (tb_3 (List.mem_of_getElem? (i := 133) rfl)) rfl
theorem w_556 : (Jvm.Cond.static ({ cls := "HarbourTextModel", name := "kindOf", desc := "(I)I" } : Jvm.MethodName)) ∈ lw_good := gd_t (tb_3 (List.mem_of_getElem? (i := 134) rfl)) rfl
theorem w_557 : (Jvm.Cond.code ({ cls := "HarbourTextModel", name := "kindOf", desc := "(I)I" } : Jvm.MethodName) prog_8_method_7_code (3 : Nat) (Option.some Jvm.ClassFile.FieldType.int)) ∈ lw_good := gd_t (tb_3 (List.mem_of_getElem? (i := 135) rfl)) rfl
theorem w_558 : (Jvm.Cond.methodLink "HarbourTextModel" (29 : Nat) ({ cls := "HarbourTextModel", name := "letterOf", desc := "(I)I" } : Jvm.MethodName)) ∈ lw_good := gd_t (tb_3 (List.mem_of_getElem? (i := 136) rfl)) rfl
theorem w_559 : (Jvm.Cond.static ({ cls := "HarbourTextModel", name := "letterOf", desc := "(I)I" } : Jvm.MethodName)) ∈ lw_good := gd_t (tb_3 (List.mem_of_getElem? (i := 137) rfl)) rfl
theorem w_560 : (Jvm.Cond.code ({ cls := "HarbourTextModel", name := "letterOf", desc := "(I)I" } : Jvm.MethodName) prog_8_method_6_code (1 : Nat) (Option.some Jvm.ClassFile.FieldType.int)) ∈ lw_good := gd_t (tb_3 (List.mem_of_getElem? (i := 138) rfl)) rfl
theorem w_561 : (Jvm.Cond.methodLink "HarbourTextModel" (63 : Nat) ({ cls := "HarbourTextModel", name := "fails", desc := "(II)I" } : Jvm.MethodName)) ∈ lw_good := gd_t (tb_3 (List.mem_of_getElem? (i := 139) rfl)) rfl
theorem w_562 : (Jvm.Cond.instanceMethod ({ cls := "HarbourTextModel", name := "fails", desc := "(II)I" } : Jvm.MethodName)) ∈ lw_good := gd_t (tb_3 (List.mem_of_getElem? (i := 141) rfl)) rfl
theorem w_563 : (Jvm.Cond.code ({ cls := "HarbourTextModel", name := "fails", desc := "(II)I" } : Jvm.MethodName) prog_8_method_11_code (3 : Nat) (Option.some Jvm.ClassFile.FieldType.int)) ∈ lw_good := gd_t (tb_3 (List.mem_of_getElem? (i := 142) rfl)) rfl
theorem w_564 : (Jvm.Cond.methodLink "HarbourTextModel" (73 : Nat) ({ cls := "HarbourTextModel", name := "readsNumber", desc := "(III)I" } : Jvm.MethodName)) ∈ lw_good := gd_t (tb_3 (List.mem_of_getElem? (i := 143) rfl)) rfl
theorem w_565 : (Jvm.Cond.instanceMethod ({ cls := "HarbourTextModel", name := "readsNumber", desc := "(III)I" } : Jvm.MethodName)) ∈ lw_good := gd_t (tb_3 (List.mem_of_getElem? (i := 145) rfl)) rfl
theorem w_566 : (Jvm.Cond.code ({ cls := "HarbourTextModel", name := "readsNumber", desc := "(III)I" } : Jvm.MethodName) prog_8_method_16_code (7 : Nat) (Option.some Jvm.ClassFile.FieldType.int)) ∈ lw_good := gd_t (tb_3 (List.mem_of_getElem? (i := 146) rfl)) rfl
theorem w_567 : (Jvm.Cond.methodLink "HarbourTextModel" (60 : Nat) ({ cls := "HarbourTextModel", name := "numberAt", desc := "(I)I" } : Jvm.MethodName)) ∈ lw_good := gd_t (tb_3 (List.mem_of_getElem? (i := 147) rfl)) rfl
theorem w_568 : (Jvm.Cond.instanceMethod ({ cls := "HarbourTextModel", name := "numberAt", desc := "(I)I" } : Jvm.MethodName)) ∈ lw_good := gd_t (tb_3 (List.mem_of_getElem? (i := 149) rfl)) rfl
theorem w_569 : (Jvm.Cond.code ({ cls := "HarbourTextModel", name := "numberAt", desc := "(I)I" } : Jvm.MethodName) prog_8_method_13_code (4 : Nat) (Option.some Jvm.ClassFile.FieldType.int)) ∈ lw_good := gd_t (tb_3 (List.mem_of_getElem? (i := 150) rfl)) rfl
theorem w_570 : (Jvm.Cond.methodLink "HarbourTextModel" (43 : Nat) ({ cls := "HarbourTextModel", name := "signAt", desc := "(I)I" } : Jvm.MethodName)) ∈ lw_good := gd_t (tb_3 (List.mem_of_getElem? (i := 151) rfl)) rfl
theorem w_571 : (Jvm.Cond.instanceMethod ({ cls := "HarbourTextModel", name := "signAt", desc := "(I)I" } : Jvm.MethodName)) ∈ lw_good := gd_t (tb_3 (List.mem_of_getElem? (i := 153) rfl)) rfl
theorem w_572 : (Jvm.Cond.code ({ cls := "HarbourTextModel", name := "signAt", desc := "(I)I" } : Jvm.MethodName) prog_8_method_12_code (2 : Nat) (Option.some Jvm.ClassFile.FieldType.int)) ∈ lw_good := gd_t (tb_3 (List.mem_of_getElem? (i := 154) rfl)) rfl
theorem w_573 : (Jvm.Cond.methodLink "HarbourTextModel" (46 : Nat) ({ cls := "HarbourTextModel", name := "isDigit", desc := "(I)Z" } : Jvm.MethodName)) ∈ lw_good := gd_t (tb_3 (List.mem_of_getElem? (i := 155) rfl)) rfl
theorem w_574 : (Jvm.Cond.static ({ cls := "HarbourTextModel", name := "isDigit", desc := "(I)Z" } : Jvm.MethodName)) ∈ lw_good := gd_t (tb_3 (List.mem_of_getElem? (i := 156) rfl)) rfl
theorem w_575 : (Jvm.Cond.code ({ cls := "HarbourTextModel", name := "isDigit", desc := "(I)Z" } : Jvm.MethodName) prog_8_method_5_code (1 : Nat) (Option.some Jvm.ClassFile.FieldType.boolean)) ∈ lw_good := gd_t (tb_3 (List.mem_of_getElem? (i := 157) rfl)) rfl
theorem w_576 : (Jvm.Cond.methodLink "HarbourTextModel" (67 : Nat) ({ cls := "HarbourTextModel", name := "wrong", desc := "(II)I" } : Jvm.MethodName)) ∈ lw_good := gd_t (tb_3 (List.mem_of_getElem? (i := 158) rfl)) rfl
theorem w_577 : (Jvm.Cond.instanceMethod ({ cls := "HarbourTextModel", name := "wrong", desc := "(II)I" } : Jvm.MethodName)) ∈ lw_good := gd_t (tb_3 (List.mem_of_getElem? (i := 160) rfl)) rfl
theorem w_578 : (Jvm.Cond.code ({ cls := "HarbourTextModel", name := "wrong", desc := "(II)I" } : Jvm.MethodName) prog_8_method_15_code (6 : Nat) (Option.some Jvm.ClassFile.FieldType.int)) ∈ lw_good := gd_t (tb_3 (List.mem_of_getElem? (i := 161) rfl)) rfl
theorem w_579 : (Jvm.Cond.methodLink "HarbourTextModel" (53 : Nat) ({ cls := "HarbourTextModel", name := "findIn", desc := "(IIII)I" } : Jvm.MethodName)) ∈ lw_good := gd_t (tb_3 (List.mem_of_getElem? (i := 162) rfl)) rfl
theorem w_580 : (Jvm.Cond.instanceMethod ({ cls := "HarbourTextModel", name := "findIn", desc := "(IIII)I" } : Jvm.MethodName)) ∈ lw_good := gd_t (tb_3 (List.mem_of_getElem? (i := 164) rfl)) rfl
theorem w_581 : (Jvm.Cond.code ({ cls := "HarbourTextModel", name := "findIn", desc := "(IIII)I" } : Jvm.MethodName) prog_8_method_14_code (7 : Nat) (Option.some Jvm.ClassFile.FieldType.int)) ∈ lw_good := gd_t (tb_3 (List.mem_of_getElem? (i := 165) rfl)) rfl
theorem w_582 : (Jvm.Cond.methodLink "HarbourTextModel" (57 : Nat) ({ cls := "HarbourTextModel", name := "isRange", desc := "(III)Z" } : Jvm.MethodName)) ∈ lw_good := gd_t (tb_3 (List.mem_of_getElem? (i := 166) rfl)) rfl
theorem w_583 : (Jvm.Cond.static ({ cls := "HarbourTextModel", name := "isRange", desc := "(III)Z" } : Jvm.MethodName)) ∈ lw_good := gd_t (tb_3 (List.mem_of_getElem? (i := 167) rfl)) rfl
theorem w_584 : (Jvm.Cond.code ({ cls := "HarbourTextModel", name := "isRange", desc := "(III)Z" } : Jvm.MethodName) prog_8_method_9_code (3 : Nat) (Option.some Jvm.ClassFile.FieldType.boolean)) ∈ lw_good := gd_t (tb_3 (List.mem_of_getElem? (i := 168) rfl)) rfl
theorem w_585 : (Jvm.Cond.methodLink "HarbourTextModel" (77 : Nat) ({ cls := "HarbourTextModel", name := "numbersOf", desc := "(I)I" } : Jvm.MethodName)) ∈ lw_good := gd_t (tb_3 (List.mem_of_getElem? (i := 169) rfl)) rfl
theorem w_586 : (Jvm.Cond.static ({ cls := "HarbourTextModel", name := "numbersOf", desc := "(I)I" } : Jvm.MethodName)) ∈ lw_good := gd_t (tb_3 (List.mem_of_getElem? (i := 170) rfl)) rfl
theorem w_587 : (Jvm.Cond.code ({ cls := "HarbourTextModel", name := "numbersOf", desc := "(I)I" } : Jvm.MethodName) prog_8_method_8_code (1 : Nat) (Option.some Jvm.ClassFile.FieldType.int)) ∈ lw_good := gd_t (tb_3 (List.mem_of_getElem? (i := 171) rfl)) rfl
theorem w_588 : (Jvm.Cond.methodLink "HarbourTextModel" (83 : Nat) ({ cls := "HarbourTextModel", name := "refuse", desc := "(I)I" } : Jvm.MethodName)) ∈ lw_good := gd_t (tb_3 (List.mem_of_getElem? (i := 172) rfl)) rfl
theorem w_589 : (Jvm.Cond.instanceMethod ({ cls := "HarbourTextModel", name := "refuse", desc := "(I)I" } : Jvm.MethodName)) ∈ lw_good := gd_t (tb_3 (List.mem_of_getElem? (i := 174) rfl)) rfl
theorem w_590 : (Jvm.Cond.code ({ cls := "HarbourTextModel", name := "refuse", desc := "(I)I" } : Jvm.MethodName) prog_8_method_3_code (2 : Nat) (Option.some Jvm.ClassFile.FieldType.int)) ∈ lw_good := gd_t (tb_3 (List.mem_of_getElem? (i := 175) rfl)) rfl
theorem w_591 : (Jvm.Cond.methodLink "HarbourTextModel" (89 : Nat) ({ cls := "HarbourTextModel", name := "copies", desc := "(III)V" } : Jvm.MethodName)) ∈ lw_good := gd_t (tb_3 (List.mem_of_getElem? (i := 176) rfl)) rfl
theorem w_592 : (Jvm.Cond.instanceMethod ({ cls := "HarbourTextModel", name := "copies", desc := "(III)V" } : Jvm.MethodName)) ∈ lw_good := gd_t (tb_3 (List.mem_of_getElem? (i := 178) rfl)) rfl
theorem w_593 : (Jvm.Cond.code ({ cls := "HarbourTextModel", name := "copies", desc := "(III)V" } : Jvm.MethodName) prog_8_method_19_code (5 : Nat) (Option.none : Option Jvm.ClassFile.FieldType)) ∈ lw_good := gd_t (tb_3 (List.mem_of_getElem? (i := 179) rfl)) rfl
theorem w_594 : (Jvm.Cond.methodLink "HarbourTextLaw" (55 : Nat) ({ cls := "HarbourTextModel", name := "failure", desc := "(I)I" } : Jvm.MethodName)) ∈ lw_good := gd_t (tb_3 (List.mem_of_getElem? (i := 180) rfl)) rfl
theorem w_595 : (Jvm.Cond.instanceMethod ({ cls := "HarbourTextModel", name := "failure", desc := "(I)I" } : Jvm.MethodName)) ∈ lw_good := gd_t (tb_3 (List.mem_of_getElem? (i := 181) rfl)) rfl
theorem w_596 : (Jvm.Cond.selects "HarbourTextModel" ({ cls := "HarbourTextModel", name := "failure", desc := "(I)I" } : Jvm.MethodName) ({ cls := "HarbourTextModel", name := "failure", desc := "(I)I" } : Jvm.MethodName)) ∈ lw_good := gd_t (tb_3 (List.mem_of_getElem? (i := 182) rfl)) rfl
theorem w_597 : (Jvm.Cond.code ({ cls := "HarbourTextModel", name := "failure", desc := "(I)I" } : Jvm.MethodName) prog_8_method_20_code (2 : Nat) (Option.some Jvm.ClassFile.FieldType.int)) ∈ lw_good := gd_t (tb_3 (List.mem_of_getElem? (i := 183) rfl)) rfl
theorem w_598 : (Jvm.Cond.methodLink "HarbourTextLaw" (59 : Nat) ({ cls := "HarbourTextModel", name := "piece", desc := "(II)I" } : Jvm.MethodName)) ∈ lw_good := gd_t (tb_3 (List.mem_of_getElem? (i := 184) rfl)) rfl
theorem w_599 : (Jvm.Cond.instanceMethod ({ cls := "HarbourTextModel", name := "piece", desc := "(II)I" } : Jvm.MethodName)) ∈ lw_good := gd_t (tb_3 (List.mem_of_getElem? (i := 185) rfl)) rfl
theorem w_600 : (Jvm.Cond.selects "HarbourTextModel" ({ cls := "HarbourTextModel", name := "piece", desc := "(II)I" } : Jvm.MethodName) ({ cls := "HarbourTextModel", name := "piece", desc := "(II)I" } : Jvm.MethodName)) ∈ lw_good := gd_t (tb_3 (List.mem_of_getElem? (i := 186) rfl)) rfl
theorem w_601 : (Jvm.Cond.code ({ cls := "HarbourTextModel", name := "piece", desc := "(II)I" } : Jvm.MethodName) prog_8_method_21_code (4 : Nat) (Option.some Jvm.ClassFile.FieldType.int)) ∈ lw_good := gd_t (tb_3 (List.mem_of_getElem? (i := 187) rfl)) rfl
theorem w_602 : (Jvm.Cond.methodLink "HarbourTextLaw" (63 : Nat) ({ cls := "HarbourTextModel", name := "find", desc := "(II)I" } : Jvm.MethodName)) ∈ lw_good := gd_t (tb_3 (List.mem_of_getElem? (i := 188) rfl)) rfl
theorem w_603 : (Jvm.Cond.instanceMethod ({ cls := "HarbourTextModel", name := "find", desc := "(II)I" } : Jvm.MethodName)) ∈ lw_good := gd_t (tb_3 (List.mem_of_getElem? (i := 189) rfl)) rfl
theorem w_604 : (Jvm.Cond.selects "HarbourTextModel" ({ cls := "HarbourTextModel", name := "find", desc := "(II)I" } : Jvm.MethodName) ({ cls := "HarbourTextModel", name := "find", desc := "(II)I" } : Jvm.MethodName)) ∈ lw_good := gd_t (tb_3 (List.mem_of_getElem? (i := 190) rfl)) rfl
theorem w_605 : (Jvm.Cond.code ({ cls := "HarbourTextModel", name := "find", desc := "(II)I" } : Jvm.MethodName) prog_8_method_22_code (3 : Nat) (Option.some Jvm.ClassFile.FieldType.int)) ∈ lw_good := gd_t (tb_3 (List.mem_of_getElem? (i := 191) rfl)) rfl
theorem w_606 : (Jvm.Cond.methodLink "HarbourTextLaw" (67 : Nat) ({ cls := "HarbourTextModel", name := "reach", desc := "(III)I" } : Jvm.MethodName)) ∈ lw_good := gd_t (tb_3 (List.mem_of_getElem? (i := 192) rfl)) rfl
theorem w_607 : (Jvm.Cond.instanceMethod ({ cls := "HarbourTextModel", name := "reach", desc := "(III)I" } : Jvm.MethodName)) ∈ lw_good := gd_t (tb_3 (List.mem_of_getElem? (i := 193) rfl)) rfl
theorem w_608 : (Jvm.Cond.selects "HarbourTextModel" ({ cls := "HarbourTextModel", name := "reach", desc := "(III)I" } : Jvm.MethodName) ({ cls := "HarbourTextModel", name := "reach", desc := "(III)I" } : Jvm.MethodName)) ∈ lw_good := gd_t (tb_3 (List.mem_of_getElem? (i := 194) rfl)) rfl
theorem w_609 : (Jvm.Cond.code ({ cls := "HarbourTextModel", name := "reach", desc := "(III)I" } : Jvm.MethodName) prog_8_method_26_code (4 : Nat) (Option.some Jvm.ClassFile.FieldType.int)) ∈ lw_good := gd_t (tb_3 (List.mem_of_getElem? (i := 195) rfl)) rfl
theorem w_610 : (Jvm.Cond.methodLink "HarbourTextModel" (96 : Nat) ({ cls := "HarbourTextModel", name := "isPoint", desc := "(I)Z" } : Jvm.MethodName)) ∈ lw_good := gd_t (tb_3 (List.mem_of_getElem? (i := 196) rfl)) rfl
theorem w_611 : (Jvm.Cond.static ({ cls := "HarbourTextModel", name := "isPoint", desc := "(I)Z" } : Jvm.MethodName)) ∈ lw_good := gd_t (tb_3 (List.mem_of_getElem? (i := 197) rfl)) rfl
theorem w_612 : (Jvm.Cond.code ({ cls := "HarbourTextModel", name := "isPoint", desc := "(I)Z" } : Jvm.MethodName) prog_8_method_25_code (1 : Nat) (Option.some Jvm.ClassFile.FieldType.boolean)) ∈ lw_good := gd_t (tb_3 (List.mem_of_getElem? (i := 198) rfl)) rfl
theorem w_613 : (Jvm.Cond.methodLink "HarbourTextModel" (99 : Nat) ({ cls := "HarbourTextModel", name := "goes", desc := "(II)V" } : Jvm.MethodName)) ∈ lw_good := gd_t (tb_3 (List.mem_of_getElem? (i := 199) rfl)) rfl
theorem w_614 : (Jvm.Cond.instanceMethod ({ cls := "HarbourTextModel", name := "goes", desc := "(II)V" } : Jvm.MethodName)) ∈ lw_good := gd_t (tb_3 (List.mem_of_getElem? (i := 201) rfl)) rfl
theorem w_615 : (Jvm.Cond.code ({ cls := "HarbourTextModel", name := "goes", desc := "(II)V" } : Jvm.MethodName) prog_8_method_24_code (9 : Nat) (Option.none : Option Jvm.ClassFile.FieldType)) ∈ lw_good := gd_t (tb_3 (List.mem_of_getElem? (i := 202) rfl)) rfl
theorem w_616 : (Jvm.Cond.methodLink "HarbourTextModel" (93 : Nat) ({ cls := "HarbourTextModel", name := "less", desc := "(II)I" } : Jvm.MethodName)) ∈ lw_good := gd_t (tb_3 (List.mem_of_getElem? (i := 203) rfl)) rfl
theorem w_617 : (Jvm.Cond.static ({ cls := "HarbourTextModel", name := "less", desc := "(II)I" } : Jvm.MethodName)) ∈ lw_good := gd_t (tb_3 (List.mem_of_getElem? (i := 204) rfl)) rfl
theorem w_618 : (Jvm.Cond.code ({ cls := "HarbourTextModel", name := "less", desc := "(II)I" } : Jvm.MethodName) prog_8_method_23_code (2 : Nat) (Option.some Jvm.ClassFile.FieldType.int)) ∈ lw_good := gd_t (tb_3 (List.mem_of_getElem? (i := 205) rfl)) rfl
theorem w_619 : (Jvm.Cond.methodLink "HarbourTextLaw" (70 : Nat) ({ cls := "HarbourTextModel", name := "deep", desc := "(II)I" } : Jvm.MethodName)) ∈ lw_good := gd_t (tb_3 (List.mem_of_getElem? (i := 206) rfl)) rfl
theorem w_620 : (Jvm.Cond.instanceMethod ({ cls := "HarbourTextModel", name := "deep", desc := "(II)I" } : Jvm.MethodName)) ∈ lw_good := gd_t (tb_3 (List.mem_of_getElem? (i := 207) rfl)) rfl
theorem w_621 : (Jvm.Cond.selects "HarbourTextModel" ({ cls := "HarbourTextModel", name := "deep", desc := "(II)I" } : Jvm.MethodName) ({ cls := "HarbourTextModel", name := "deep", desc := "(II)I" } : Jvm.MethodName)) ∈ lw_good := gd_t (tb_3 (List.mem_of_getElem? (i := 208) rfl)) rfl
theorem w_622 : (Jvm.Cond.code ({ cls := "HarbourTextModel", name := "deep", desc := "(II)I" } : Jvm.MethodName) prog_8_method_27_code (3 : Nat) (Option.some Jvm.ClassFile.FieldType.int)) ∈ lw_good := gd_t (tb_3 (List.mem_of_getElem? (i := 209) rfl)) rfl
theorem w_623 : (Jvm.Cond.methodLink "HarbourTextLaw" (74 : Nat) ({ cls := "HarbourTextModel", name := "bad", desc := "()I" } : Jvm.MethodName)) ∈ lw_good := gd_t (tb_3 (List.mem_of_getElem? (i := 210) rfl)) rfl
theorem w_624 : (Jvm.Cond.instanceMethod ({ cls := "HarbourTextModel", name := "bad", desc := "()I" } : Jvm.MethodName)) ∈ lw_good := gd_t (tb_3 (List.mem_of_getElem? (i := 211) rfl)) rfl
theorem w_625 : (Jvm.Cond.selects "HarbourTextModel" ({ cls := "HarbourTextModel", name := "bad", desc := "()I" } : Jvm.MethodName) ({ cls := "HarbourTextModel", name := "bad", desc := "()I" } : Jvm.MethodName)) ∈ lw_good := gd_t (tb_3 (List.mem_of_getElem? (i := 212) rfl)) rfl
theorem w_626 : (Jvm.Cond.code ({ cls := "HarbourTextModel", name := "bad", desc := "()I" } : Jvm.MethodName) prog_8_method_31_code (1 : Nat) (Option.some Jvm.ClassFile.FieldType.int)) ∈ lw_good := gd_t (tb_3 (List.mem_of_getElem? (i := 213) rfl)) rfl
theorem w_627 : (Jvm.Cond.methodLink "HarbourTextModel" (110 : Nat) ({ cls := "HarbourTextModel", name := "badAt", desc := "(I)I" } : Jvm.MethodName)) ∈ lw_good := gd_t (tb_3 (List.mem_of_getElem? (i := 214) rfl)) rfl
theorem w_628 : (Jvm.Cond.instanceMethod ({ cls := "HarbourTextModel", name := "badAt", desc := "(I)I" } : Jvm.MethodName)) ∈ lw_good := gd_t (tb_3 (List.mem_of_getElem? (i := 216) rfl)) rfl
theorem w_629 : (Jvm.Cond.code ({ cls := "HarbourTextModel", name := "badAt", desc := "(I)I" } : Jvm.MethodName) prog_8_method_30_code (6 : Nat) (Option.some Jvm.ClassFile.FieldType.int)) ∈ lw_good := gd_t (tb_3 (List.mem_of_getElem? (i := 217) rfl)) rfl
theorem w_630 : (Jvm.Cond.methodLink "HarbourTextModel" (107 : Nat) ({ cls := "HarbourTextModel", name := "isBad", desc := "(II)Z" } : Jvm.MethodName)) ∈ lw_good := gd_t (tb_3 (List.mem_of_getElem? (i := 218) rfl)) rfl
theorem w_631 : (Jvm.Cond.instanceMethod ({ cls := "HarbourTextModel", name := "isBad", desc := "(II)Z" } : Jvm.MethodName)) ∈ lw_good := gd_t (tb_3 (List.mem_of_getElem? (i := 220) rfl)) rfl
theorem w_632 : (Jvm.Cond.code ({ cls := "HarbourTextModel", name := "isBad", desc := "(II)Z" } : Jvm.MethodName) prog_8_method_29_code (5 : Nat) (Option.some Jvm.ClassFile.FieldType.boolean)) ∈ lw_good := gd_t (tb_3 (List.mem_of_getElem? (i := 221) rfl)) rfl
theorem w_633 : (Jvm.Cond.methodLink "HarbourTextModel" (103 : Nat) ({ cls := "HarbourTextModel", name := "isTouched", desc := "(II)Z" } : Jvm.MethodName)) ∈ lw_good := gd_t (tb_3 (List.mem_of_getElem? (i := 222) rfl)) rfl
theorem w_634 : (Jvm.Cond.instanceMethod ({ cls := "HarbourTextModel", name := "isTouched", desc := "(II)Z" } : Jvm.MethodName)) ∈ lw_good := gd_t (tb_3 (List.mem_of_getElem? (i := 224) rfl)) rfl
theorem w_635 : (Jvm.Cond.code ({ cls := "HarbourTextModel", name := "isTouched", desc := "(II)Z" } : Jvm.MethodName) prog_8_method_28_code (5 : Nat) (Option.some Jvm.ClassFile.FieldType.boolean)) ∈ lw_good := gd_t (tb_3 (List.mem_of_getElem? (i := 225) rfl)) rfl
theorem w_636 : (Jvm.Cond.methodLink "HarbourTextLaw" (78 : Nat) ({ cls := "HarbourTextModel", name := "unjoined", desc := "(I)I" } : Jvm.MethodName)) ∈ lw_good := gd_t (tb_3 (List.mem_of_getElem? (i := 226) rfl)) rfl
theorem w_637 : (Jvm.Cond.instanceMethod ({ cls := "HarbourTextModel", name := "unjoined", desc := "(I)I" } : Jvm.MethodName)) ∈ lw_good := gd_t (tb_3 (List.mem_of_getElem? (i := 227) rfl)) rfl
theorem w_638 : (Jvm.Cond.selects "HarbourTextModel" ({ cls := "HarbourTextModel", name := "unjoined", desc := "(I)I" } : Jvm.MethodName) ({ cls := "HarbourTextModel", name := "unjoined", desc := "(I)I" } : Jvm.MethodName)) ∈ lw_good := gd_t (tb_3 (List.mem_of_getElem? (i := 228) rfl)) rfl
theorem w_639 : (Jvm.Cond.code ({ cls := "HarbourTextModel", name := "unjoined", desc := "(I)I" } : Jvm.MethodName) prog_8_method_32_code (3 : Nat) (Option.some Jvm.ClassFile.FieldType.int)) ∈ lw_good := gd_t (tb_3 (List.mem_of_getElem? (i := 229) rfl)) rfl
theorem w_640 : (Jvm.Cond.methodLink "HarbourTextLaw" (82 : Nat) ({ cls := "HarbourTextModel", name := "print", desc := "()I" } : Jvm.MethodName)) ∈ lw_good := gd_t (tb_3 (List.mem_of_getElem? (i := 230) rfl)) rfl
theorem w_641 : (Jvm.Cond.instanceMethod ({ cls := "HarbourTextModel", name := "print", desc := "()I" } : Jvm.MethodName)) ∈ lw_good := gd_t (tb_3 (List.mem_of_getElem? (i := 231) rfl)) rfl
theorem w_642 : (Jvm.Cond.selects "HarbourTextModel" ({ cls := "HarbourTextModel", name := "print", desc := "()I" } : Jvm.MethodName) ({ cls := "HarbourTextModel", name := "print", desc := "()I" } : Jvm.MethodName)) ∈ lw_good := gd_t (tb_3 (List.mem_of_getElem? (i := 232) rfl)) rfl
theorem w_643 : (Jvm.Cond.code ({ cls := "HarbourTextModel", name := "print", desc := "()I" } : Jvm.MethodName) prog_8_method_37_code (1 : Nat) (Option.some Jvm.ClassFile.FieldType.int)) ∈ lw_good := gd_t (tb_3 (List.mem_of_getElem? (i := 233) rfl)) rfl
theorem w_644 : (Jvm.Cond.methodLink "HarbourTextModel" (119 : Nat) ({ cls := "HarbourTextModel", name := "length", desc := "()I" } : Jvm.MethodName)) ∈ lw_good := gd_t (tb_3 (List.mem_of_getElem? (i := 234) rfl)) rfl
theorem w_645 : (Jvm.Cond.instanceMethod ({ cls := "HarbourTextModel", name := "length", desc := "()I" } : Jvm.MethodName)) ∈ lw_good := gd_t (tb_3 (List.mem_of_getElem? (i := 236) rfl)) rfl
theorem w_646 : (Jvm.Cond.code ({ cls := "HarbourTextModel", name := "length", desc := "()I" } : Jvm.MethodName) prog_8_method_36_code (3 : Nat) (Option.some Jvm.ClassFile.FieldType.int)) ∈ lw_good := gd_t (tb_3 (List.mem_of_getElem? (i := 237) rfl)) rfl
theorem w_647 : (Jvm.Cond.methodLink "HarbourTextModel" (116 : Nat) ({ cls := "HarbourTextModel", name := "prints", desc := "(I)I" } : Jvm.MethodName)) ∈ lw_good := gd_t (tb_3 (List.mem_of_getElem? (i := 238) rfl)) rfl
theorem w_648 : (Jvm.Cond.instanceMethod ({ cls := "HarbourTextModel", name := "prints", desc := "(I)I" } : Jvm.MethodName)) ∈ lw_good := gd_t (tb_4 (List.mem_of_getElem? (i := 0) rfl)) rfl
theorem w_649 : (Jvm.Cond.code ({ cls := "HarbourTextModel", name := "prints", desc := "(I)I" } : Jvm.MethodName) prog_8_method_35_code (6 : Nat) (Option.some Jvm.ClassFile.FieldType.int)) ∈ lw_good := gd_t (tb_4 (List.mem_of_getElem? (i := 1) rfl)) rfl
theorem w_650 : (Jvm.Cond.methodLink "HarbourTextModel" (113 : Nat) ({ cls := "HarbourTextModel", name := "puts", desc := "(III)I" } : Jvm.MethodName)) ∈ lw_good := gd_t (tb_4 (List.mem_of_getElem? (i := 2) rfl)) rfl
theorem w_651 : (Jvm.Cond.instanceMethod ({ cls := "HarbourTextModel", name := "puts", desc := "(III)I" } : Jvm.MethodName)) ∈ lw_good := gd_t (tb_4 (List.mem_of_getElem? (i := 4) rfl)) rfl
theorem w_652 : (Jvm.Cond.code ({ cls := "HarbourTextModel", name := "puts", desc := "(III)I" } : Jvm.MethodName) prog_8_method_34_code (5 : Nat) (Option.some Jvm.ClassFile.FieldType.int)) ∈ lw_good := gd_t (tb_4 (List.mem_of_getElem? (i := 5) rfl)) rfl
theorem w_653 : (Jvm.Cond.methodLink "HarbourTextLaw" (86 : Nat) ({ cls := "HarbourTextModel", name := "at", desc := "(I)I" } : Jvm.MethodName)) ∈ lw_good := gd_t (tb_4 (List.mem_of_getElem? (i := 6) rfl)) rfl
theorem w_654 : (Jvm.Cond.instanceMethod ({ cls := "HarbourTextModel", name := "at", desc := "(I)I" } : Jvm.MethodName)) ∈ lw_good := gd_t (tb_4 (List.mem_of_getElem? (i := 7) rfl)) rfl
theorem w_655 : (Jvm.Cond.selects "HarbourTextModel" ({ cls := "HarbourTextModel", name := "at", desc := "(I)I" } : Jvm.MethodName) ({ cls := "HarbourTextModel", name := "at", desc := "(I)I" } : Jvm.MethodName)) ∈ lw_good := gd_t (tb_4 (List.mem_of_getElem? (i := 8) rfl)) rfl
theorem w_656 : (Jvm.Cond.code ({ cls := "HarbourTextModel", name := "at", desc := "(I)I" } : Jvm.MethodName) prog_8_method_38_code (5 : Nat) (Option.some Jvm.ClassFile.FieldType.int)) ∈ lw_good := gd_t (tb_4 (List.mem_of_getElem? (i := 9) rfl)) rfl
theorem w_657 : (Jvm.Cond.methodLink "HarbourTextModel" (123 : Nat) ({ cls := "HarbourTextModel", name := "order", desc := "(I)I" } : Jvm.MethodName)) ∈ lw_good := gd_t (tb_4 (List.mem_of_getElem? (i := 10) rfl)) rfl
theorem w_658 : (Jvm.Cond.instanceMethod ({ cls := "HarbourTextModel", name := "order", desc := "(I)I" } : Jvm.MethodName)) ∈ lw_good := gd_t (tb_4 (List.mem_of_getElem? (i := 12) rfl)) rfl
theorem w_659 : (Jvm.Cond.code ({ cls := "HarbourTextModel", name := "order", desc := "(I)I" } : Jvm.MethodName) prog_8_method_33_code (7 : Nat) (Option.some Jvm.ClassFile.FieldType.int)) ∈ lw_good := gd_t (tb_4 (List.mem_of_getElem? (i := 13) rfl)) rfl
theorem w_660 : (Jvm.Cond.methodLink "HarbourTextLaw" (90 : Nat) ({ cls := "HarbourTextModel", name := "keep", desc := "()I" } : Jvm.MethodName)) ∈ lw_good := gd_t (tb_4 (List.mem_of_getElem? (i := 14) rfl)) rfl
theorem w_661 : (Jvm.Cond.instanceMethod ({ cls := "HarbourTextModel", name := "keep", desc := "()I" } : Jvm.MethodName)) ∈ lw_good := gd_t (tb_4 (List.mem_of_getElem? (i := 15) rfl)) rfl
theorem w_662 : (Jvm.Cond.selects "HarbourTextModel" ({ cls := "HarbourTextModel", name := "keep", desc := "()I" } : Jvm.MethodName) ({ cls := "HarbourTextModel", name := "keep", desc := "()I" } : Jvm.MethodName)) ∈ lw_good := gd_t (tb_4 (List.mem_of_getElem? (i := 16) rfl)) rfl
theorem w_663 : (Jvm.Cond.code ({ cls := "HarbourTextModel", name := "keep", desc := "()I" } : Jvm.MethodName) prog_8_method_39_code (1 : Nat) (Option.some Jvm.ClassFile.FieldType.int)) ∈ lw_good := gd_t (tb_4 (List.mem_of_getElem? (i := 17) rfl)) rfl
theorem w_664 : (Jvm.Cond.methodLink "HarbourTextLaw" (94 : Nat) ({ cls := "HarbourTextModel", name := "compare", desc := "()I" } : Jvm.MethodName)) ∈ lw_good := gd_t (tb_4 (List.mem_of_getElem? (i := 18) rfl)) rfl
theorem w_665 : (Jvm.Cond.instanceMethod ({ cls := "HarbourTextModel", name := "compare", desc := "()I" } : Jvm.MethodName)) ∈ lw_good := gd_t (tb_4 (List.mem_of_getElem? (i := 19) rfl)) rfl
theorem w_666 : (Jvm.Cond.selects "HarbourTextModel" ({ cls := "HarbourTextModel", name := "compare", desc := "()I" } : Jvm.MethodName) ({ cls := "HarbourTextModel", name := "compare", desc := "()I" } : Jvm.MethodName)) ∈ lw_good := gd_t (tb_4 (List.mem_of_getElem? (i := 20) rfl)) rfl
theorem w_667 : (Jvm.Cond.code ({ cls := "HarbourTextModel", name := "compare", desc := "()I" } : Jvm.MethodName) prog_8_method_41_code (5 : Nat) (Option.some Jvm.ClassFile.FieldType.int)) ∈ lw_good := gd_t (tb_4 (List.mem_of_getElem? (i := 21) rfl)) rfl
theorem w_668 : (Jvm.Cond.methodLink "HarbourTextModel" (129 : Nat) ({ cls := "HarbourTextModel", name := "isAlike", desc := "(II)Z" } : Jvm.MethodName)) ∈ lw_good := gd_t (tb_4 (List.mem_of_getElem? (i := 22) rfl)) rfl
theorem w_669 : (Jvm.Cond.instanceMethod ({ cls := "HarbourTextModel", name := "isAlike", desc := "(II)Z" } : Jvm.MethodName)) ∈ lw_good := gd_t (tb_4 (List.mem_of_getElem? (i := 24) rfl)) rfl
theorem w_670 : (Jvm.Cond.code ({ cls := "HarbourTextModel", name := "isAlike", desc := "(II)Z" } : Jvm.MethodName) prog_8_method_40_code (5 : Nat) (Option.some Jvm.ClassFile.FieldType.boolean)) ∈ lw_good := gd_t (tb_4 (List.mem_of_getElem? (i := 25) rfl)) rfl
theorem w_671 : (Jvm.Cond.methodLink "HarbourTextLaw" (98 : Nat) ({ cls := "HarbourTextModel", name := "count", desc := "(I)I" } : Jvm.MethodName)) ∈ lw_good := gd_t (tb_4 (List.mem_of_getElem? (i := 26) rfl)) rfl
theorem w_672 : (Jvm.Cond.instanceMethod ({ cls := "HarbourTextModel", name := "count", desc := "(I)I" } : Jvm.MethodName)) ∈ lw_good := gd_t (tb_4 (List.mem_of_getElem? (i := 27) rfl)) rfl
theorem w_673 : (Jvm.Cond.selects "HarbourTextModel" ({ cls := "HarbourTextModel", name := "count", desc := "(I)I" } : Jvm.MethodName) ({ cls := "HarbourTextModel", name := "count", desc := "(I)I" } : Jvm.MethodName)) ∈ lw_good := gd_t (tb_4 (List.mem_of_getElem? (i := 28) rfl)) rfl
theorem w_674 : (Jvm.Cond.code ({ cls := "HarbourTextModel", name := "count", desc := "(I)I" } : Jvm.MethodName) prog_8_method_42_code (4 : Nat) (Option.some Jvm.ClassFile.FieldType.int)) ∈ lw_good := gd_t (tb_4 (List.mem_of_getElem? (i := 29) rfl)) rfl
theorem w_675 : (Jvm.Cond.arrayClass Jvm.ClassFile.FieldType.long) ∈ lw_good := gd_t (tb_4 (List.mem_of_getElem? (i := 30) rfl)) rfl
theorem w_676 : (Jvm.Cond.sameMethod "java/lang/Throwable" "java/lang/Throwable" "fillInStackTrace" "(I)Ljava/lang/Throwable;") ∈ lw_good := gd_t (tb_4 (List.mem_of_getElem? (i := 31) rfl)) rfl
theorem w_677 : Cond.selects "HarbourText$Harbour" ({ cls := "HarbourText$Harbour", name := "hasSameNumbers", desc := "(ILHarbourText$Harbour;I)Z" } : Jvm.MethodName) ({ cls := "HarbourText$Harbour", name := "hasSameNumbers", desc := "(ILHarbourText$Harbour;I)Z" } : Jvm.MethodName) ∈ lw_good := gd_s (List.mem_map.mpr ⟨_, List.mem_append_left _ (List.mem_of_getElem? (i := 0) rfl), rfl⟩) rfl
theorem w_678 : Cond.selects "HarbourText$TextReader" ({ cls := "HarbourText$TextReader", name := "readRow", desc := "()Z" } : Jvm.MethodName) ({ cls := "HarbourText$TextReader", name := "readRow", desc := "()Z" } : Jvm.MethodName) ∈ lw_good := gd_s (List.mem_map.mpr ⟨_, List.mem_append_left _ (List.mem_of_getElem? (i := 1) rfl), rfl⟩) rfl
theorem w_679 : Cond.selects "HarbourText$TextReader" ({ cls := "HarbourText$TextReader", name := "kindHere", desc := "()I" } : Jvm.MethodName) ({ cls := "HarbourText$TextReader", name := "kindHere", desc := "()I" } : Jvm.MethodName) ∈ lw_good := gd_s (List.mem_map.mpr ⟨_, List.mem_append_left _ (List.mem_of_getElem? (i := 2) rfl), rfl⟩) rfl
theorem w_680 : Cond.selects "HarbourText$TextReader" ({ cls := "HarbourText$TextReader", name := "signHere", desc := "()I" } : Jvm.MethodName) ({ cls := "HarbourText$TextReader", name := "signHere", desc := "()I" } : Jvm.MethodName) ∈ lw_good := gd_s (List.mem_map.mpr ⟨_, List.mem_append_left _ (List.mem_of_getElem? (i := 3) rfl), rfl⟩) rfl
theorem w_681 : Cond.selects "HarbourText$TextReader" ({ cls := "HarbourText$TextReader", name := "fail", desc := "(II)Z" } : Jvm.MethodName) ({ cls := "HarbourText$TextReader", name := "fail", desc := "(II)Z" } : Jvm.MethodName) ∈ lw_good := gd_s (List.mem_map.mpr ⟨_, List.mem_append_left _ (List.mem_of_getElem? (i := 4) rfl), rfl⟩) rfl
theorem w_682 : Cond.selects "HarbourText$TextReader" ({ cls := "HarbourText$TextReader", name := "readName", desc := "(I)Z" } : Jvm.MethodName) ({ cls := "HarbourText$TextReader", name := "readName", desc := "(I)Z" } : Jvm.MethodName) ∈ lw_good := gd_s (List.mem_map.mpr ⟨_, List.mem_append_left _ (List.mem_of_getElem? (i := 5) rfl), rfl⟩) rfl
theorem w_683 : Cond.selects "HarbourText$TextReader" ({ cls := "HarbourText$TextReader", name := "readDigits", desc := "()I" } : Jvm.MethodName) ({ cls := "HarbourText$TextReader", name := "readDigits", desc := "()I" } : Jvm.MethodName) ∈ lw_good := gd_s (List.mem_map.mpr ⟨_, List.mem_append_left _ (List.mem_of_getElem? (i := 6) rfl), rfl⟩) rfl
theorem w_684 : Cond.selects "HarbourText$TextReader" ({ cls := "HarbourText$TextReader", name := "digitHere", desc := "()I" } : Jvm.MethodName) ({ cls := "HarbourText$TextReader", name := "digitHere", desc := "()I" } : Jvm.MethodName) ∈ lw_good := gd_s (List.mem_map.mpr ⟨_, List.mem_append_left _ (List.mem_of_getElem? (i := 7) rfl), rfl⟩) rfl
theorem w_685 : Cond.selects "HarbourText$TextReader" ({ cls := "HarbourText$TextReader", name := "readSign", desc := "(C)Z" } : Jvm.MethodName) ({ cls := "HarbourText$TextReader", name := "readSign", desc := "(C)Z" } : Jvm.MethodName) ∈ lw_good := gd_s (List.mem_map.mpr ⟨_, List.mem_append_left _ (List.mem_of_getElem? (i := 8) rfl), rfl⟩) rfl
theorem w_686 : Cond.selects "HarbourText$TextReader" ({ cls := "HarbourText$TextReader", name := "readNumber", desc := "(II)Z" } : Jvm.MethodName) ({ cls := "HarbourText$TextReader", name := "readNumber", desc := "(II)Z" } : Jvm.MethodName) ∈ lw_good := gd_s (List.mem_map.mpr ⟨_, List.mem_append_left _ (List.mem_of_getElem? (i := 9) rfl), rfl⟩) rfl
theorem w_687 : Cond.selects "HarbourText$TextReader" ({ cls := "HarbourText$TextReader", name := "judgeNumber", desc := "(III)I" } : Jvm.MethodName) ({ cls := "HarbourText$TextReader", name := "judgeNumber", desc := "(III)I" } : Jvm.MethodName) ∈ lw_good := gd_s (List.mem_map.mpr ⟨_, List.mem_append_left _ (List.mem_of_getElem? (i := 10) rfl), rfl⟩) rfl
theorem w_688 : Cond.selects "java/lang/Throwable" ({ cls := "java/lang/Throwable", name := "fillInStackTrace", desc := "(I)Ljava/lang/Throwable;" } : Jvm.MethodName) ({ cls := "java/lang/Throwable", name := "fillInStackTrace", desc := "(I)Ljava/lang/Throwable;" } : Jvm.MethodName) ∈ lw_good := gd_s (List.mem_map.mpr ⟨_, List.mem_append_left _ (List.mem_of_getElem? (i := 11) rfl), rfl⟩) rfl
theorem w_689 : Cond.selects "HarbourText$Ways" ({ cls := "HarbourText$Ways", name := "spreadOnce", desc := "(LHarbourText$Harbour;I)Z" } : Jvm.MethodName) ({ cls := "HarbourText$Ways", name := "spreadOnce", desc := "(LHarbourText$Harbour;I)Z" } : Jvm.MethodName) ∈ lw_good := gd_s (List.mem_map.mpr ⟨_, List.mem_append_left _ (List.mem_of_getElem? (i := 12) rfl), rfl⟩) rfl
theorem w_690 : Cond.selects "HarbourText$Ways" ({ cls := "HarbourText$Ways", name := "spreadAlong", desc := "(LHarbourText$Harbour;I)Z" } : Jvm.MethodName) ({ cls := "HarbourText$Ways", name := "spreadAlong", desc := "(LHarbourText$Harbour;I)Z" } : Jvm.MethodName) ∈ lw_good := gd_s (List.mem_map.mpr ⟨_, List.mem_append_left _ (List.mem_of_getElem? (i := 13) rfl), rfl⟩) rfl
theorem w_691 : Cond.selects "HarbourText$Ways" ({ cls := "HarbourText$Ways", name := "deepen", desc := "(III)Z" } : Jvm.MethodName) ({ cls := "HarbourText$Ways", name := "deepen", desc := "(III)Z" } : Jvm.MethodName) ∈ lw_good := gd_s (List.mem_map.mpr ⟨_, List.mem_append_left _ (List.mem_of_getElem? (i := 14) rfl), rfl⟩) rfl
theorem w_692 : Cond.selects "HarbourText$BadList" ({ cls := "HarbourText$BadList", name := "addAll", desc := "(LHarbourText$Harbour;LHarbourText$Ways;I)V" } : Jvm.MethodName) ({ cls := "HarbourText$BadList", name := "addAll", desc := "(LHarbourText$Harbour;LHarbourText$Ways;I)V" } : Jvm.MethodName) ∈ lw_good := gd_s (List.mem_map.mpr ⟨_, List.mem_append_left _ (List.mem_of_getElem? (i := 15) rfl), rfl⟩) rfl
theorem w_693 : Cond.selects "HarbourText$Printout" ({ cls := "HarbourText$Printout", name := "writeRow", desc := "(LHarbourText$Harbour;I)V" } : Jvm.MethodName) ({ cls := "HarbourText$Printout", name := "writeRow", desc := "(LHarbourText$Harbour;I)V" } : Jvm.MethodName) ∈ lw_good := gd_s (List.mem_map.mpr ⟨_, List.mem_append_right _ (List.mem_append_left _ (List.mem_of_getElem? (i := 0) rfl)), rfl⟩) rfl
theorem w_694 : Cond.selects "HarbourText$Printout" ({ cls := "HarbourText$Printout", name := "writeSign", desc := "(C)V" } : Jvm.MethodName) ({ cls := "HarbourText$Printout", name := "writeSign", desc := "(C)V" } : Jvm.MethodName) ∈ lw_good := gd_s (List.mem_map.mpr ⟨_, List.mem_append_right _ (List.mem_append_left _ (List.mem_of_getElem? (i := 1) rfl)), rfl⟩) rfl
theorem w_695 : Cond.selects "HarbourText$Printout" ({ cls := "HarbourText$Printout", name := "writeNumber", desc := "(I)V" } : Jvm.MethodName) ({ cls := "HarbourText$Printout", name := "writeNumber", desc := "(I)V" } : Jvm.MethodName) ∈ lw_good := gd_s (List.mem_map.mpr ⟨_, List.mem_append_right _ (List.mem_append_left _ (List.mem_of_getElem? (i := 2) rfl)), rfl⟩) rfl
theorem w_696 : Cond.selects "HarbourTextModel" ({ cls := "HarbourTextModel", name := "readsRow", desc := "(I)I" } : Jvm.MethodName) ({ cls := "HarbourTextModel", name := "readsRow", desc := "(I)I" } : Jvm.MethodName) ∈ lw_good := gd_s (List.mem_map.mpr ⟨_, List.mem_append_right _ (List.mem_append_left _ (List.mem_of_getElem? (i := 3) rfl)), rfl⟩) rfl
theorem w_697 : Cond.selects "HarbourTextModel" ({ cls := "HarbourTextModel", name := "fails", desc := "(II)I" } : Jvm.MethodName) ({ cls := "HarbourTextModel", name := "fails", desc := "(II)I" } : Jvm.MethodName) ∈ lw_good := gd_s (List.mem_map.mpr ⟨_, List.mem_append_right _ (List.mem_append_left _ (List.mem_of_getElem? (i := 4) rfl)), rfl⟩) rfl
theorem w_698 : Cond.selects "HarbourTextModel" ({ cls := "HarbourTextModel", name := "readsNumber", desc := "(III)I" } : Jvm.MethodName) ({ cls := "HarbourTextModel", name := "readsNumber", desc := "(III)I" } : Jvm.MethodName) ∈ lw_good := gd_s (List.mem_map.mpr ⟨_, List.mem_append_right _ (List.mem_append_left _ (List.mem_of_getElem? (i := 5) rfl)), rfl⟩) rfl
theorem w_699 : Cond.selects "HarbourTextModel" ({ cls := "HarbourTextModel", name := "numberAt", desc := "(I)I" } : Jvm.MethodName) ({ cls := "HarbourTextModel", name := "numberAt", desc := "(I)I" } : Jvm.MethodName) ∈ lw_good := gd_s (List.mem_map.mpr ⟨_, List.mem_append_right _ (List.mem_append_left _ (List.mem_of_getElem? (i := 6) rfl)), rfl⟩) rfl
theorem w_700 : Cond.selects "HarbourTextModel" ({ cls := "HarbourTextModel", name := "signAt", desc := "(I)I" } : Jvm.MethodName) ({ cls := "HarbourTextModel", name := "signAt", desc := "(I)I" } : Jvm.MethodName) ∈ lw_good := gd_s (List.mem_map.mpr ⟨_, List.mem_append_right _ (List.mem_append_left _ (List.mem_of_getElem? (i := 7) rfl)), rfl⟩) rfl
theorem w_701 : Cond.selects "HarbourTextModel" ({ cls := "HarbourTextModel", name := "wrong", desc := "(II)I" } : Jvm.MethodName) ({ cls := "HarbourTextModel", name := "wrong", desc := "(II)I" } : Jvm.MethodName) ∈ lw_good := gd_s (List.mem_map.mpr ⟨_, List.mem_append_right _ (List.mem_append_left _ (List.mem_of_getElem? (i := 8) rfl)), rfl⟩) rfl
theorem w_702 : Cond.selects "HarbourTextModel" ({ cls := "HarbourTextModel", name := "findIn", desc := "(IIII)I" } : Jvm.MethodName) ({ cls := "HarbourTextModel", name := "findIn", desc := "(IIII)I" } : Jvm.MethodName) ∈ lw_good := gd_s (List.mem_map.mpr ⟨_, List.mem_append_right _ (List.mem_append_left _ (List.mem_of_getElem? (i := 9) rfl)), rfl⟩) rfl
theorem w_703 : Cond.selects "HarbourTextModel" ({ cls := "HarbourTextModel", name := "refuse", desc := "(I)I" } : Jvm.MethodName) ({ cls := "HarbourTextModel", name := "refuse", desc := "(I)I" } : Jvm.MethodName) ∈ lw_good := gd_s (List.mem_map.mpr ⟨_, List.mem_append_right _ (List.mem_append_left _ (List.mem_of_getElem? (i := 10) rfl)), rfl⟩) rfl
theorem w_704 : Cond.selects "HarbourTextModel" ({ cls := "HarbourTextModel", name := "copies", desc := "(III)V" } : Jvm.MethodName) ({ cls := "HarbourTextModel", name := "copies", desc := "(III)V" } : Jvm.MethodName) ∈ lw_good := gd_s (List.mem_map.mpr ⟨_, List.mem_append_right _ (List.mem_append_left _ (List.mem_of_getElem? (i := 11) rfl)), rfl⟩) rfl
theorem w_705 : Cond.selects "HarbourTextModel" ({ cls := "HarbourTextModel", name := "goes", desc := "(II)V" } : Jvm.MethodName) ({ cls := "HarbourTextModel", name := "goes", desc := "(II)V" } : Jvm.MethodName) ∈ lw_good := gd_s (List.mem_map.mpr ⟨_, List.mem_append_right _ (List.mem_append_left _ (List.mem_of_getElem? (i := 12) rfl)), rfl⟩) rfl
theorem w_706 : Cond.selects "HarbourTextModel" ({ cls := "HarbourTextModel", name := "badAt", desc := "(I)I" } : Jvm.MethodName) ({ cls := "HarbourTextModel", name := "badAt", desc := "(I)I" } : Jvm.MethodName) ∈ lw_good := gd_s (List.mem_map.mpr ⟨_, List.mem_append_right _ (List.mem_append_left _ (List.mem_of_getElem? (i := 13) rfl)), rfl⟩) rfl
theorem w_707 : Cond.selects "HarbourTextModel" ({ cls := "HarbourTextModel", name := "isBad", desc := "(II)Z" } : Jvm.MethodName) ({ cls := "HarbourTextModel", name := "isBad", desc := "(II)Z" } : Jvm.MethodName) ∈ lw_good := gd_s (List.mem_map.mpr ⟨_, List.mem_append_right _ (List.mem_append_left _ (List.mem_of_getElem? (i := 14) rfl)), rfl⟩) rfl
theorem w_708 : Cond.selects "HarbourTextModel" ({ cls := "HarbourTextModel", name := "isTouched", desc := "(II)Z" } : Jvm.MethodName) ({ cls := "HarbourTextModel", name := "isTouched", desc := "(II)Z" } : Jvm.MethodName) ∈ lw_good := gd_s (List.mem_map.mpr ⟨_, List.mem_append_right _ (List.mem_append_left _ (List.mem_of_getElem? (i := 15) rfl)), rfl⟩) rfl
theorem w_709 : Cond.selects "HarbourTextModel" ({ cls := "HarbourTextModel", name := "length", desc := "()I" } : Jvm.MethodName) ({ cls := "HarbourTextModel", name := "length", desc := "()I" } : Jvm.MethodName) ∈ lw_good := gd_s (List.mem_map.mpr ⟨_, List.mem_append_right _ (List.mem_append_right _ (List.mem_of_getElem? (i := 0) rfl)), rfl⟩) rfl
theorem w_710 : Cond.selects "HarbourTextModel" ({ cls := "HarbourTextModel", name := "prints", desc := "(I)I" } : Jvm.MethodName) ({ cls := "HarbourTextModel", name := "prints", desc := "(I)I" } : Jvm.MethodName) ∈ lw_good := gd_s (List.mem_map.mpr ⟨_, List.mem_append_right _ (List.mem_append_right _ (List.mem_of_getElem? (i := 1) rfl)), rfl⟩) rfl
theorem w_711 : Cond.selects "HarbourTextModel" ({ cls := "HarbourTextModel", name := "puts", desc := "(III)I" } : Jvm.MethodName) ({ cls := "HarbourTextModel", name := "puts", desc := "(III)I" } : Jvm.MethodName) ∈ lw_good := gd_s (List.mem_map.mpr ⟨_, List.mem_append_right _ (List.mem_append_right _ (List.mem_of_getElem? (i := 2) rfl)), rfl⟩) rfl
theorem w_712 : Cond.selects "HarbourTextModel" ({ cls := "HarbourTextModel", name := "order", desc := "(I)I" } : Jvm.MethodName) ({ cls := "HarbourTextModel", name := "order", desc := "(I)I" } : Jvm.MethodName) ∈ lw_good := gd_s (List.mem_map.mpr ⟨_, List.mem_append_right _ (List.mem_append_right _ (List.mem_of_getElem? (i := 3) rfl)), rfl⟩) rfl
theorem w_713 : Cond.selects "HarbourTextModel" ({ cls := "HarbourTextModel", name := "isAlike", desc := "(II)Z" } : Jvm.MethodName) ({ cls := "HarbourTextModel", name := "isAlike", desc := "(II)Z" } : Jvm.MethodName) ∈ lw_good := gd_s (List.mem_map.mpr ⟨_, List.mem_append_right _ (List.mem_append_right _ (List.mem_of_getElem? (i := 4) rfl)), rfl⟩) rfl
theorem in_X0 : ∀ w ∈ wsX00, w ∈ lw_good := by
  intro w h
  obtain ⟨k, hk, rfl⟩ := List.mem_map.mp h
  have hk := List.mem_range.mp hk
  rcases (show k = 0 ∨ k = 1 by omega) with rfl | rfl
  · exact w_86
  · exact w_88
theorem in_X1 : ∀ w ∈ wsX10, w ∈ lw_good := by
  intro w h
  obtain ⟨k, hk, rfl⟩ := List.mem_map.mp h
  have hk := List.mem_range.mp hk
  rcases (show k = 0 ∨ k = 1 ∨ k = 2 ∨ k = 3 by omega) with rfl | rfl | rfl | rfl
  · exact w_39
  · exact w_41
  · exact w_43
  · exact w_45
theorem in_X2 : ∀ w ∈ wsX20, w ∈ lw_good := by
  intro w h
  obtain ⟨k, hk, rfl⟩ := List.mem_map.mp h
  have hk := List.mem_range.mp hk
  rcases (show k = 0 ∨ k = 1 by omega) with rfl | rfl
  · exact w_98
  · exact w_100
theorem in_X3 : ∀ w ∈ wsX30, w ∈ lw_good := by
  intro w h
  obtain ⟨k, hk, rfl⟩ := List.mem_map.mp h
  have hk := List.mem_range.mp hk
  rcases (show k = 0 ∨ k = 1 ∨ k = 2 ∨ k = 3 ∨ k = 4 ∨ k = 5 by omega) with rfl | rfl | rfl | rfl | rfl | rfl
  · exact w_56
  · exact w_58
  · exact w_60
  · exact w_62
  · exact w_64
  · exact w_66
theorem in_X4 : ∀ w ∈ wsX40, w ∈ lw_good := by
  intro w h
  obtain ⟨k, hk, rfl⟩ := List.mem_map.mp h
  have hk := List.mem_range.mp hk
  rcases (show k = 0 by omega) with rfl
  · exact w_76
theorem in_X5 : ∀ w ∈ wsX50, w ∈ lw_good := by
  intro w h
  obtain ⟨k, hk, rfl⟩ := List.mem_map.mp h
  have hk := List.mem_range.mp hk
  rcases (show k = 0 ∨ k = 1 ∨ k = 2 ∨ k = 3 ∨ k = 4 ∨ k = 5 by omega) with rfl | rfl | rfl | rfl | rfl | rfl
  · exact w_109
  · exact w_111
  · exact w_113
  · exact w_115
  · exact w_117
  · exact w_119
theorem in_X6 : ∀ w ∈ wsX60, w ∈ lw_good := by
  intro w h
  obtain ⟨k, hk, rfl⟩ := List.mem_map.mp h
  have hk := List.mem_range.mp hk
  rcases (show k = 0 ∨ k = 1 ∨ k = 2 ∨ k = 3 ∨ k = 4 ∨ k = 5 ∨ k = 6 ∨ k = 7 ∨ k = 8 ∨ k = 9 ∨ k = 10 by omega) with rfl | rfl | rfl | rfl | rfl | rfl | rfl | rfl | rfl | rfl | rfl
  · exact w_514
  · exact w_516
  · exact w_518
  · exact w_520
  · exact w_522
  · exact w_524
  · exact w_526
  · exact w_528
  · exact w_530
  · exact w_532
  · exact w_534
def wsX5_init : List Cond := .code yX5_init cX5_init 1 none :: lw_good
def wsX3_init : List Cond := .code yX3_init cX3_init 1 none :: lw_good
def wsX1_init : List Cond := .code yX1_init cX1_init 1 none :: lw_good
def wsX4_init : List Cond := .code yX4_init cX4_init 1 none :: lw_good
def wsX0_init : List Cond := .code yX0_init cX0_init 1 none :: lw_good
def wsX2_init : List Cond := .code yX2_init cX2_init 1 none :: lw_good
def wsX5_sign : List Cond := .code yX5_sign cX5_sign 2 (some .boolean) :: lw_good
def wsX3_collect : List Cond := .code yX3_collect cX3_collect 2 (some .boolean) :: lw_good
def wsX5_failure : List Cond := .code yX5_failure cX5_failure 2 (some .int) :: lw_good
def wsX3_failureNumber : List Cond := .code yX3_failureNumber cX3_failureNumber 1 (some .int) :: lw_good
def wsX3_failurePlace : List Cond := .code yX3_failurePlace cX3_failurePlace 1 (some .int) :: lw_good
def wsX5_find : List Cond := .code yX5_find cX5_find 3 (some .int) :: lw_good
def wsX1_indexOf : List Cond := .code yX1_indexOf cX1_indexOf 4 (some .int) :: lw_good
def wsX5_bad : List Cond := .code yX5_bad cX5_bad 1 (some .int) :: lw_good
def wsX0_size : List Cond := .code yX0_size cX0_size 1 (some .int) :: lw_good
def wsX5_unjoined : List Cond := .code yX5_unjoined cX5_unjoined 2 (some .int) :: lw_good
def wsX0_entry : List Cond := .code yX0_entry cX0_entry 2 (some .int) :: lw_good
def wsX5_print : List Cond := .code yX5_print cX5_print 1 (some .int) :: lw_good
def wsX2_length : List Cond := .code yX2_length cX2_length 1 (some .int) :: lw_good
def wsX5_keep : List Cond := .code yX5_keep cX5_keep 1 (some .int) :: lw_good
def wsX1_copyFrom : List Cond := .code yX1_copyFrom cX1_copyFrom 2 none :: lw_good
def wsX1_size : List Cond := .code yX1_size cX1_size 1 (some .int) :: lw_good
def wsX5_compare : List Cond := .code yX5_compare cX5_compare 1 (some .int) :: lw_good
def wsX1_missingIn : List Cond := .code yX1_missingIn cX1_missingIn 4 (some .int) :: lw_good
def wsX1_changedIn : List Cond := .code yX1_changedIn cX1_changedIn 5 (some .int) :: lw_good
def wsX1_hasSameNumbers : List Cond := .code yX1_hasSameNumbers cX1_hasSameNumbers 6 (some .boolean) :: lw_good
def wsX1_kindOf : List Cond := .code yX1_kindOf cX1_kindOf 2 (some .int) :: lw_good
def wsX5_numbersOfKind : List Cond := .code yX5_numbersOfKind cX5_numbersOfKind 1 (some .int) :: lw_good
def wsX5_isKind : List Cond := .code yX5_isKind cX5_isKind 1 (some .boolean) :: lw_good
def wsX1_numberOf : List Cond := .code yX1_numberOf cX1_numberOf 3 (some .int) :: lw_good
def wsX5_count : List Cond := .code yX5_count cX5_count 2 (some .int) :: lw_good
def wsX3_length : List Cond := .code yX3_length cX3_length 1 (some .int) :: lw_good
def wsX1_sizeOfKind : List Cond := .code yX1_sizeOfKind cX1_sizeOfKind 4 (some .int) :: lw_good
abbrev hL_read : List (Nat × Nat × Nat × Nat) := [(0, 8, 11, 13)]
def wsL_read : List Cond := .codeWith yL_read cL_read 3 (some .int) hL_read :: lw_good
def wsX5_read : List Cond := .code yX5_read cX5_read 1 (some .int) :: lw_good
def wsX3_readAll : List Cond := .code yX3_readAll cX3_readAll 3 (some .boolean) :: lw_good
def wsX1_clear : List Cond := .code yX1_clear cX1_clear 1 none :: lw_good
def wsX3_readRow : List Cond := .code yX3_readRow cX3_readRow 4 (some .boolean) :: lw_good
def wsX3_kindHere : List Cond := .code yX3_kindHere cX3_kindHere 3 (some .int) :: lw_good
def wsX3_signHere : List Cond := .code yX3_signHere cX3_signHere 1 (some .int) :: lw_good
def wsX3_fail : List Cond := .code yX3_fail cX3_fail 3 (some .boolean) :: lw_good
def wsX1_isFull : List Cond := .code yX1_isFull cX1_isFull 1 (some .boolean) :: lw_good
def wsX3_readName : List Cond := .code yX3_readName cX3_readName 4 (some .boolean) :: lw_good
def wsX3_readDigits : List Cond := .code yX3_readDigits cX3_readDigits 3 (some .int) :: lw_good
def wsX3_digitHere : List Cond := .code yX3_digitHere cX3_digitHere 2 (some .int) :: lw_good
def wsX1_begin : List Cond := .code yX1_begin cX1_begin 3 none :: lw_good
def wsX3_readSign : List Cond := .code yX3_readSign cX3_readSign 2 (some .boolean) :: lw_good
def wsX3_readNumber : List Cond := .code yX3_readNumber cX3_readNumber 6 (some .boolean) :: lw_good
def wsX3_judgeNumber : List Cond := .code yX3_judgeNumber cX3_judgeNumber 4 (some .int) :: lw_good
def wsX3_isInRange : List Cond := .code yX3_isInRange cX3_isInRange 4 (some .boolean) :: lw_good
def wsX1_setNumber : List Cond := .code yX1_setNumber cX1_setNumber 3 none :: lw_good
def wsX3_result : List Cond := .code yX3_result cX3_result 1 (some (.object "HarbourText$Harbour")) :: lw_good
def wsX0_judge : List Cond := .code yX0_judge cX0_judge 4 none :: lw_good
def wsX4_spread : List Cond := .code yX4_spread cX4_spread 6 none :: lw_good
def wsX4_spreadOnce : List Cond := .code yX4_spreadOnce cX4_spreadOnce 6 (some .boolean) :: lw_good
def wsX4_spreadAlong : List Cond := .code yX4_spreadAlong cX4_spreadAlong 6 (some .boolean) :: lw_good
def wsX4_deepen : List Cond := .code yX4_deepen cX4_deepen 5 (some .boolean) :: lw_good
def wsX5_isPoint : List Cond := .code yX5_isPoint cX5_isPoint 1 (some .boolean) :: lw_good
def wsX0_addAll : List Cond := .code yX0_addAll cX0_addAll 6 none :: lw_good
def wsX0_holds : List Cond := .code yX0_holds cX0_holds 6 (some .boolean) :: lw_good
def wsX1_hasPieceAt : List Cond := .code yX1_hasPieceAt cX1_hasPieceAt 4 (some .boolean) :: lw_good
def wsX4_depthAt : List Cond := .code yX4_depthAt cX4_depthAt 2 (some .int) :: lw_good
def wsX2_write : List Cond := .code yX2_write cX2_write 6 none :: lw_good
def wsX1_nextBehind : List Cond := .code yX1_nextBehind cX1_nextBehind 4 (some .int) :: lw_good
def wsX1_rankOf : List Cond := .code yX1_rankOf cX1_rankOf 2 (some .int) :: lw_good
def wsX1_nameOf : List Cond := .code yX1_nameOf cX1_nameOf 2 (some .int) :: lw_good
def wsX2_writeRow : List Cond := .code yX2_writeRow cX2_writeRow 6 none :: lw_good
def wsX2_writeSign : List Cond := .code yX2_writeSign cX2_writeSign 2 none :: lw_good
def wsX2_writeNumber : List Cond := .code yX2_writeNumber cX2_writeNumber 2 none :: lw_good
abbrev hL_piece : List (Nat × Nat × Nat × Nat) := [(0, 10, 13, 19)]
def wsL_piece : List Cond := .codeWith yL_piece cL_piece 5 (some .int) hL_piece :: lw_good
def wsX5_piece : List Cond := .code yX5_piece cX5_piece 4 (some .int) :: lw_good
abbrev hL_reach : List (Nat × Nat × Nat × Nat) := [(0, 12, 15, 25)]
def wsL_reach : List Cond := .codeWith yL_reach cL_reach 6 (some .int) hL_reach :: lw_good
def wsX5_reach : List Cond := .code yX5_reach cX5_reach 4 (some .int) :: lw_good
abbrev hL_deep : List (Nat × Nat × Nat × Nat) := [(0, 10, 13, 25)]
def wsL_deep : List Cond := .codeWith yL_deep cL_deep 5 (some .int) hL_deep :: lw_good
def wsX5_deep : List Cond := .code yX5_deep cX5_deep 3 (some .int) :: lw_good
abbrev hL_at : List (Nat × Nat × Nat × Nat) := [(0, 9, 12, 19)]
def wsL_at : List Cond := .codeWith yL_at cL_at 4 (some .int) hL_at :: lw_good
def wsX5_at : List Cond := .code yX5_at cX5_at 2 (some .int) :: lw_good
def wsX2_signAt : List Cond := .code yX2_signAt cX2_signAt 2 (some .int) :: lw_good
def wsX6_init : List Cond := .code yX6_init cX6_init 1 none :: lw_good
def wsX6_thrown : List Cond := .code yX6_thrown cX6_thrown 1 (some .int) :: lw_good
def wsX6_sign : List Cond := .code yX6_sign cX6_sign 2 (some .boolean) :: lw_good
def wsX6_in : List Cond := .code yX6_in cX6_in 3 (some .boolean) :: lw_good
def wsX6_read : List Cond := .code yX6_read cX6_read 2 (some .int) :: lw_good
def wsX6_readsRow : List Cond := .code yX6_readsRow cX6_readsRow 6 (some .int) :: lw_good
def wsX6_kindOf : List Cond := .code yX6_kindOf cX6_kindOf 3 (some .int) :: lw_good
def wsX6_letterOf : List Cond := .code yX6_letterOf cX6_letterOf 1 (some .int) :: lw_good
def wsX6_fails : List Cond := .code yX6_fails cX6_fails 3 (some .int) :: lw_good
def wsX6_readsNumber : List Cond := .code yX6_readsNumber cX6_readsNumber 7 (some .int) :: lw_good
def wsX6_numberAt : List Cond := .code yX6_numberAt cX6_numberAt 4 (some .int) :: lw_good
def wsX6_signAt : List Cond := .code yX6_signAt cX6_signAt 2 (some .int) :: lw_good
def wsX6_isDigit : List Cond := .code yX6_isDigit cX6_isDigit 1 (some .boolean) :: lw_good
def wsX6_wrong : List Cond := .code yX6_wrong cX6_wrong 6 (some .int) :: lw_good
def wsX6_findIn : List Cond := .code yX6_findIn cX6_findIn 7 (some .int) :: lw_good
def wsX6_isRange : List Cond := .code yX6_isRange cX6_isRange 3 (some .boolean) :: lw_good
def wsX6_numbersOf : List Cond := .code yX6_numbersOf cX6_numbersOf 1 (some .int) :: lw_good
def wsX6_refuse : List Cond := .code yX6_refuse cX6_refuse 2 (some .int) :: lw_good
def wsX6_copies : List Cond := .code yX6_copies cX6_copies 5 none :: lw_good
def wsX6_failure : List Cond := .code yX6_failure cX6_failure 2 (some .int) :: lw_good
def wsX6_piece : List Cond := .code yX6_piece cX6_piece 4 (some .int) :: lw_good
def wsX6_find : List Cond := .code yX6_find cX6_find 3 (some .int) :: lw_good
def wsX6_reach : List Cond := .code yX6_reach cX6_reach 4 (some .int) :: lw_good
def wsX6_isPoint : List Cond := .code yX6_isPoint cX6_isPoint 1 (some .boolean) :: lw_good
def wsX6_goes : List Cond := .code yX6_goes cX6_goes 9 none :: lw_good
def wsX6_less : List Cond := .code yX6_less cX6_less 2 (some .int) :: lw_good
def wsX6_deep : List Cond := .code yX6_deep cX6_deep 3 (some .int) :: lw_good
def wsX6_bad : List Cond := .code yX6_bad cX6_bad 1 (some .int) :: lw_good
def wsX6_badAt : List Cond := .code yX6_badAt cX6_badAt 6 (some .int) :: lw_good
def wsX6_isBad : List Cond := .code yX6_isBad cX6_isBad 5 (some .boolean) :: lw_good
def wsX6_isTouched : List Cond := .code yX6_isTouched cX6_isTouched 5 (some .boolean) :: lw_good
def wsX6_unjoined : List Cond := .code yX6_unjoined cX6_unjoined 3 (some .int) :: lw_good
def wsX6_print : List Cond := .code yX6_print cX6_print 1 (some .int) :: lw_good
def wsX6_length : List Cond := .code yX6_length cX6_length 3 (some .int) :: lw_good
def wsX6_prints : List Cond := .code yX6_prints cX6_prints 6 (some .int) :: lw_good
def wsX6_puts : List Cond := .code yX6_puts cX6_puts 5 (some .int) :: lw_good
def wsX6_at : List Cond := .code yX6_at cX6_at 5 (some .int) :: lw_good
def wsX6_order : List Cond := .code yX6_order cX6_order 7 (some .int) :: lw_good
def wsX6_keep : List Cond := .code yX6_keep cX6_keep 1 (some .int) :: lw_good
def wsX6_compare : List Cond := .code yX6_compare cX6_compare 5 (some .int) :: lw_good
def wsX6_isAlike : List Cond := .code yX6_isAlike cX6_isAlike 5 (some .boolean) :: lw_good
def wsX6_count : List Cond := .code yX6_count cX6_count 4 (some .int) :: lw_good
end
section
theorem dX5_init_0 : decode cX5_init 0 = .ok (.aload_n 0, 1) := by decide +kernel
theorem dX5_init_1 : decode cX5_init 1 = .ok (.invokespecial 1, 3) := by decide +kernel
theorem dX5_init_4 : decode cX5_init 4 = .ok (.aload_n 0, 1) := by decide +kernel
theorem dX5_init_5 : decode cX5_init 5 = .ok (.new 7, 3) := by decide +kernel
theorem dX5_init_8 : decode cX5_init 8 = .ok (.dup, 1) := by decide +kernel
theorem dX5_init_9 : decode cX5_init 9 = .ok (.invokespecial 9, 3) := by decide +kernel
theorem dX5_init_12 : decode cX5_init 12 = .ok (.putfield 10, 3) := by decide +kernel
theorem dX5_init_15 : decode cX5_init 15 = .ok (.aload_n 0, 1) := by decide +kernel
theorem dX5_init_16 : decode cX5_init 16 = .ok (.new 16, 3) := by decide +kernel
theorem dX5_init_19 : decode cX5_init 19 = .ok (.dup, 1) := by decide +kernel
theorem dX5_init_20 : decode cX5_init 20 = .ok (.invokespecial 18, 3) := by decide +kernel
theorem dX5_init_23 : decode cX5_init 23 = .ok (.putfield 19, 3) := by decide +kernel
theorem dX5_init_26 : decode cX5_init 26 = .ok (.aload_n 0, 1) := by decide +kernel
theorem dX5_init_27 : decode cX5_init 27 = .ok (.new 16, 3) := by decide +kernel
theorem dX5_init_30 : decode cX5_init 30 = .ok (.dup, 1) := by decide +kernel
theorem dX5_init_31 : decode cX5_init 31 = .ok (.invokespecial 18, 3) := by decide +kernel
theorem dX5_init_34 : decode cX5_init 34 = .ok (.putfield 23, 3) := by decide +kernel
theorem dX5_init_37 : decode cX5_init 37 = .ok (.aload_n 0, 1) := by decide +kernel
theorem dX5_init_38 : decode cX5_init 38 = .ok (.new 26, 3) := by decide +kernel
theorem dX5_init_41 : decode cX5_init 41 = .ok (.dup, 1) := by decide +kernel
theorem dX5_init_42 : decode cX5_init 42 = .ok (.invokespecial 28, 3) := by decide +kernel
theorem dX5_init_45 : decode cX5_init 45 = .ok (.putfield 29, 3) := by decide +kernel
theorem dX5_init_48 : decode cX5_init 48 = .ok (.aload_n 0, 1) := by decide +kernel
theorem dX5_init_49 : decode cX5_init 49 = .ok (.new 33, 3) := by decide +kernel
theorem dX5_init_52 : decode cX5_init 52 = .ok (.dup, 1) := by decide +kernel
theorem dX5_init_53 : decode cX5_init 53 = .ok (.invokespecial 35, 3) := by decide +kernel
theorem dX5_init_56 : decode cX5_init 56 = .ok (.putfield 36, 3) := by decide +kernel
theorem dX5_init_59 : decode cX5_init 59 = .ok (.aload_n 0, 1) := by decide +kernel
theorem dX5_init_60 : decode cX5_init 60 = .ok (.new 40, 3) := by decide +kernel
theorem dX5_init_63 : decode cX5_init 63 = .ok (.dup, 1) := by decide +kernel
theorem dX5_init_64 : decode cX5_init 64 = .ok (.invokespecial 42, 3) := by decide +kernel
theorem dX5_init_67 : decode cX5_init 67 = .ok (.putfield 43, 3) := by decide +kernel
theorem dX5_init_70 : decode cX5_init 70 = .ok (.return_, 1) := by decide +kernel
theorem dX3_init_0 : decode cX3_init 0 = .ok (.aload_n 0, 1) := by decide +kernel
theorem dX3_init_1 : decode cX3_init 1 = .ok (.invokespecial 3, 3) := by decide +kernel
theorem dX3_init_4 : decode cX3_init 4 = .ok (.aload_n 0, 1) := by decide +kernel
theorem dX3_init_5 : decode cX3_init 5 = .ok (.sipush 500, 3) := by decide +kernel
theorem dX3_init_8 : decode cX3_init 8 = .ok (.newarray .char, 2) := by decide +kernel
theorem dX3_init_10 : decode cX3_init 10 = .ok (.putfield 9, 3) := by decide +kernel
theorem dX3_init_13 : decode cX3_init 13 = .ok (.aload_n 0, 1) := by decide +kernel
theorem dX3_init_14 : decode cX3_init 14 = .ok (.new 15, 3) := by decide +kernel
theorem dX3_init_17 : decode cX3_init 17 = .ok (.dup, 1) := by decide +kernel
theorem dX3_init_18 : decode cX3_init 18 = .ok (.invokespecial 17, 3) := by decide +kernel
theorem dX3_init_21 : decode cX3_init 21 = .ok (.putfield 18, 3) := by decide +kernel
theorem dX3_init_24 : decode cX3_init 24 = .ok (.aload_n 0, 1) := by decide +kernel
theorem dX3_init_25 : decode cX3_init 25 = .ok (.iconst 0, 1) := by decide +kernel
theorem dX3_init_26 : decode cX3_init 26 = .ok (.putfield 22, 3) := by decide +kernel
theorem dX3_init_29 : decode cX3_init 29 = .ok (.aload_n 0, 1) := by decide +kernel
theorem dX3_init_30 : decode cX3_init 30 = .ok (.iconst 0, 1) := by decide +kernel
theorem dX3_init_31 : decode cX3_init 31 = .ok (.putfield 26, 3) := by decide +kernel
theorem dX3_init_34 : decode cX3_init 34 = .ok (.aload_n 0, 1) := by decide +kernel
theorem dX3_init_35 : decode cX3_init 35 = .ok (.iconst 0, 1) := by decide +kernel
theorem dX3_init_36 : decode cX3_init 36 = .ok (.putfield 29, 3) := by decide +kernel
theorem dX3_init_39 : decode cX3_init 39 = .ok (.aload_n 0, 1) := by decide +kernel
theorem dX3_init_40 : decode cX3_init 40 = .ok (.iconst (-1), 1) := by decide +kernel
theorem dX3_init_41 : decode cX3_init 41 = .ok (.putfield 32, 3) := by decide +kernel
theorem dX3_init_44 : decode cX3_init 44 = .ok (.return_, 1) := by decide +kernel
theorem dX1_init_0 : decode cX1_init 0 = .ok (.aload_n 0, 1) := by decide +kernel
theorem dX1_init_1 : decode cX1_init 1 = .ok (.invokespecial 3, 3) := by decide +kernel
theorem dX1_init_4 : decode cX1_init 4 = .ok (.aload_n 0, 1) := by decide +kernel
theorem dX1_init_5 : decode cX1_init 5 = .ok (.bipush 50, 2) := by decide +kernel
theorem dX1_init_7 : decode cX1_init 7 = .ok (.newarray .int, 2) := by decide +kernel
theorem dX1_init_9 : decode cX1_init 9 = .ok (.putfield 9, 3) := by decide +kernel
theorem dX1_init_12 : decode cX1_init 12 = .ok (.aload_n 0, 1) := by decide +kernel
theorem dX1_init_13 : decode cX1_init 13 = .ok (.bipush 50, 2) := by decide +kernel
theorem dX1_init_15 : decode cX1_init 15 = .ok (.newarray .int, 2) := by decide +kernel
theorem dX1_init_17 : decode cX1_init 17 = .ok (.putfield 15, 3) := by decide +kernel
theorem dX1_init_20 : decode cX1_init 20 = .ok (.aload_n 0, 1) := by decide +kernel
theorem dX1_init_21 : decode cX1_init 21 = .ok (.sipush 200, 3) := by decide +kernel
theorem dX1_init_24 : decode cX1_init 24 = .ok (.newarray .int, 2) := by decide +kernel
theorem dX1_init_26 : decode cX1_init 26 = .ok (.putfield 18, 3) := by decide +kernel
theorem dX1_init_29 : decode cX1_init 29 = .ok (.aload_n 0, 1) := by decide +kernel
theorem dX1_init_30 : decode cX1_init 30 = .ok (.iconst 0, 1) := by decide +kernel
theorem dX1_init_31 : decode cX1_init 31 = .ok (.putfield 21, 3) := by decide +kernel
theorem dX1_init_34 : decode cX1_init 34 = .ok (.return_, 1) := by decide +kernel
theorem dX4_init_0 : decode cX4_init 0 = .ok (.aload_n 0, 1) := by decide +kernel
theorem dX4_init_1 : decode cX4_init 1 = .ok (.invokespecial 3, 3) := by decide +kernel
theorem dX4_init_4 : decode cX4_init 4 = .ok (.aload_n 0, 1) := by decide +kernel
theorem dX4_init_5 : decode cX4_init 5 = .ok (.bipush 16, 2) := by decide +kernel
theorem dX4_init_7 : decode cX4_init 7 = .ok (.newarray .int, 2) := by decide +kernel
theorem dX4_init_9 : decode cX4_init 9 = .ok (.putfield 9, 3) := by decide +kernel
theorem dX4_init_12 : decode cX4_init 12 = .ok (.return_, 1) := by decide +kernel
theorem dX0_init_0 : decode cX0_init 0 = .ok (.aload_n 0, 1) := by decide +kernel
theorem dX0_init_1 : decode cX0_init 1 = .ok (.invokespecial 3, 3) := by decide +kernel
theorem dX0_init_4 : decode cX0_init 4 = .ok (.aload_n 0, 1) := by decide +kernel
theorem dX0_init_5 : decode cX0_init 5 = .ok (.bipush 100, 2) := by decide +kernel
theorem dX0_init_7 : decode cX0_init 7 = .ok (.newarray .int, 2) := by decide +kernel
theorem dX0_init_9 : decode cX0_init 9 = .ok (.putfield 9, 3) := by decide +kernel
theorem dX0_init_12 : decode cX0_init 12 = .ok (.aload_n 0, 1) := by decide +kernel
theorem dX0_init_13 : decode cX0_init 13 = .ok (.iconst 0, 1) := by decide +kernel
theorem dX0_init_14 : decode cX0_init 14 = .ok (.putfield 15, 3) := by decide +kernel
theorem dX0_init_17 : decode cX0_init 17 = .ok (.return_, 1) := by decide +kernel
theorem dX2_init_0 : decode cX2_init 0 = .ok (.aload_n 0, 1) := by decide +kernel
theorem dX2_init_1 : decode cX2_init 1 = .ok (.invokespecial 3, 3) := by decide +kernel
theorem dX2_init_4 : decode cX2_init 4 = .ok (.aload_n 0, 1) := by decide +kernel
theorem dX2_init_5 : decode cX2_init 5 = .ok (.sipush 500, 3) := by decide +kernel
theorem dX2_init_8 : decode cX2_init 8 = .ok (.newarray .char, 2) := by decide +kernel
theorem dX2_init_10 : decode cX2_init 10 = .ok (.putfield 9, 3) := by decide +kernel
theorem dX2_init_13 : decode cX2_init 13 = .ok (.aload_n 0, 1) := by decide +kernel
theorem dX2_init_14 : decode cX2_init 14 = .ok (.iconst 0, 1) := by decide +kernel
theorem dX2_init_15 : decode cX2_init 15 = .ok (.putfield 15, 3) := by decide +kernel
theorem dX2_init_18 : decode cX2_init 18 = .ok (.return_, 1) := by decide +kernel
theorem dX5_sign_0 : decode cX5_sign 0 = .ok (.aload_n 0, 1) := by decide +kernel
theorem dX5_sign_1 : decode cX5_sign 1 = .ok (.getfield 10, 3) := by decide +kernel
theorem dX5_sign_4 : decode cX5_sign 4 = .ok (.iload_n 1, 1) := by decide +kernel
theorem dX5_sign_5 : decode cX5_sign 5 = .ok (.invokevirtual 47, 3) := by decide +kernel
theorem dX5_sign_8 : decode cX5_sign 8 = .ok (.ireturn, 1) := by decide +kernel
theorem dX3_collect_0 : decode cX3_collect 0 = .ok (.iload_n 1, 1) := by decide +kernel
theorem dX3_collect_1 : decode cX3_collect 1 = .ok (.bipush 33, 2) := by decide +kernel
theorem dX3_collect_3 : decode cX3_collect 3 = .ok (.if_icmp .lt 19, 3) := by decide +kernel
theorem dX3_collect_6 : decode cX3_collect 6 = .ok (.iload_n 1, 1) := by decide +kernel
theorem dX3_collect_7 : decode cX3_collect 7 = .ok (.bipush 126, 2) := by decide +kernel
theorem dX3_collect_9 : decode cX3_collect 9 = .ok (.if_icmp .gt 13, 3) := by decide +kernel
theorem dX3_collect_12 : decode cX3_collect 12 = .ok (.aload_n 0, 1) := by decide +kernel
theorem dX3_collect_13 : decode cX3_collect 13 = .ok (.getfield 22, 3) := by decide +kernel
theorem dX3_collect_16 : decode cX3_collect 16 = .ok (.sipush 500, 3) := by decide +kernel
theorem dX3_collect_19 : decode cX3_collect 19 = .ok (.if_icmp .lt 5, 3) := by decide +kernel
theorem dX3_collect_22 : decode cX3_collect 22 = .ok (.iconst 0, 1) := by decide +kernel
theorem dX3_collect_23 : decode cX3_collect 23 = .ok (.ireturn, 1) := by decide +kernel
theorem dX3_collect_24 : decode cX3_collect 24 = .ok (.aload_n 0, 1) := by decide +kernel
theorem dX3_collect_25 : decode cX3_collect 25 = .ok (.getfield 9, 3) := by decide +kernel
theorem dX3_collect_28 : decode cX3_collect 28 = .ok (.aload_n 0, 1) := by decide +kernel
theorem dX3_collect_29 : decode cX3_collect 29 = .ok (.getfield 22, 3) := by decide +kernel
theorem dX3_collect_32 : decode cX3_collect 32 = .ok (.iload_n 1, 1) := by decide +kernel
theorem dX3_collect_33 : decode cX3_collect 33 = .ok (.i2c, 1) := by decide +kernel
theorem dX3_collect_34 : decode cX3_collect 34 = .ok (.castore, 1) := by decide +kernel
theorem dX3_collect_35 : decode cX3_collect 35 = .ok (.aload_n 0, 1) := by decide +kernel
theorem dX3_collect_36 : decode cX3_collect 36 = .ok (.dup, 1) := by decide +kernel
theorem dX3_collect_37 : decode cX3_collect 37 = .ok (.getfield 22, 3) := by decide +kernel
theorem dX3_collect_40 : decode cX3_collect 40 = .ok (.iconst 1, 1) := by decide +kernel
theorem dX3_collect_41 : decode cX3_collect 41 = .ok (.iadd, 1) := by decide +kernel
theorem dX3_collect_42 : decode cX3_collect 42 = .ok (.putfield 22, 3) := by decide +kernel
theorem dX3_collect_45 : decode cX3_collect 45 = .ok (.iconst 1, 1) := by decide +kernel
theorem dX3_collect_46 : decode cX3_collect 46 = .ok (.ireturn, 1) := by decide +kernel
theorem dX5_failure_0 : decode cX5_failure 0 = .ok (.iload_n 1, 1) := by decide +kernel
theorem dX5_failure_1 : decode cX5_failure 1 = .ok (.ifCond .ne 11, 3) := by decide +kernel
theorem dX5_failure_4 : decode cX5_failure 4 = .ok (.aload_n 0, 1) := by decide +kernel
theorem dX5_failure_5 : decode cX5_failure 5 = .ok (.getfield 10, 3) := by decide +kernel
theorem dX5_failure_8 : decode cX5_failure 8 = .ok (.invokevirtual 81, 3) := by decide +kernel
theorem dX5_failure_11 : decode cX5_failure 11 = .ok (.ireturn, 1) := by decide +kernel
theorem dX5_failure_12 : decode cX5_failure 12 = .ok (.iload_n 1, 1) := by decide +kernel
theorem dX5_failure_13 : decode cX5_failure 13 = .ok (.iconst 1, 1) := by decide +kernel
theorem dX5_failure_14 : decode cX5_failure 14 = .ok (.if_icmp .ne 13, 3) := by decide +kernel
theorem dX5_failure_17 : decode cX5_failure 17 = .ok (.aload_n 0, 1) := by decide +kernel
theorem dX5_failure_18 : decode cX5_failure 18 = .ok (.getfield 10, 3) := by decide +kernel
theorem dX5_failure_21 : decode cX5_failure 21 = .ok (.invokevirtual 84, 3) := by decide +kernel
theorem dX5_failure_24 : decode cX5_failure 24 = .ok (.goto 4, 3) := by decide +kernel
theorem dX5_failure_27 : decode cX5_failure 27 = .ok (.iconst (-1), 1) := by decide +kernel
theorem dX5_failure_28 : decode cX5_failure 28 = .ok (.ireturn, 1) := by decide +kernel
theorem dX3_failureNumber_0 : decode cX3_failureNumber 0 = .ok (.aload_n 0, 1) := by decide +kernel
theorem dX3_failureNumber_1 : decode cX3_failureNumber 1 = .ok (.getfield 29, 3) := by decide +kernel
theorem dX3_failureNumber_4 : decode cX3_failureNumber 4 = .ok (.ireturn, 1) := by decide +kernel
theorem dX3_failurePlace_0 : decode cX3_failurePlace 0 = .ok (.aload_n 0, 1) := by decide +kernel
theorem dX3_failurePlace_1 : decode cX3_failurePlace 1 = .ok (.getfield 32, 3) := by decide +kernel
theorem dX3_failurePlace_4 : decode cX3_failurePlace 4 = .ok (.ireturn, 1) := by decide +kernel
theorem dX5_find_0 : decode cX5_find 0 = .ok (.aload_n 0, 1) := by decide +kernel
theorem dX5_find_1 : decode cX5_find 1 = .ok (.getfield 19, 3) := by decide +kernel
theorem dX5_find_4 : decode cX5_find 4 = .ok (.iload_n 1, 1) := by decide +kernel
theorem dX5_find_5 : decode cX5_find 5 = .ok (.iload_n 2, 1) := by decide +kernel
theorem dX5_find_6 : decode cX5_find 6 = .ok (.invokevirtual 108, 3) := by decide +kernel
theorem dX5_find_9 : decode cX5_find 9 = .ok (.ireturn, 1) := by decide +kernel
theorem dX1_indexOf_0 : decode cX1_indexOf 0 = .ok (.iconst 0, 1) := by decide +kernel
theorem dX1_indexOf_1 : decode cX1_indexOf 1 = .ok (.istore_n 3, 1) := by decide +kernel
theorem dX1_indexOf_2 : decode cX1_indexOf 2 = .ok (.iload_n 3, 1) := by decide +kernel
theorem dX1_indexOf_3 : decode cX1_indexOf 3 = .ok (.aload_n 0, 1) := by decide +kernel
theorem dX1_indexOf_4 : decode cX1_indexOf 4 = .ok (.getfield 21, 3) := by decide +kernel
theorem dX1_indexOf_7 : decode cX1_indexOf 7 = .ok (.if_icmp .ge 31, 3) := by decide +kernel
theorem dX1_indexOf_10 : decode cX1_indexOf 10 = .ok (.aload_n 0, 1) := by decide +kernel
theorem dX1_indexOf_11 : decode cX1_indexOf 11 = .ok (.getfield 9, 3) := by decide +kernel
theorem dX1_indexOf_14 : decode cX1_indexOf 14 = .ok (.iload_n 3, 1) := by decide +kernel
theorem dX1_indexOf_15 : decode cX1_indexOf 15 = .ok (.iaload, 1) := by decide +kernel
theorem dX1_indexOf_16 : decode cX1_indexOf 16 = .ok (.iload_n 1, 1) := by decide +kernel
theorem dX1_indexOf_17 : decode cX1_indexOf 17 = .ok (.if_icmp .ne 15, 3) := by decide +kernel
theorem dX1_indexOf_20 : decode cX1_indexOf 20 = .ok (.aload_n 0, 1) := by decide +kernel
theorem dX1_indexOf_21 : decode cX1_indexOf 21 = .ok (.getfield 15, 3) := by decide +kernel
theorem dX1_indexOf_24 : decode cX1_indexOf 24 = .ok (.iload_n 3, 1) := by decide +kernel
theorem dX1_indexOf_25 : decode cX1_indexOf 25 = .ok (.iaload, 1) := by decide +kernel
theorem dX1_indexOf_26 : decode cX1_indexOf 26 = .ok (.iload_n 2, 1) := by decide +kernel
theorem dX1_indexOf_27 : decode cX1_indexOf 27 = .ok (.if_icmp .ne 5, 3) := by decide +kernel
theorem dX1_indexOf_30 : decode cX1_indexOf 30 = .ok (.iload_n 3, 1) := by decide +kernel
theorem dX1_indexOf_31 : decode cX1_indexOf 31 = .ok (.ireturn, 1) := by decide +kernel
theorem dX1_indexOf_32 : decode cX1_indexOf 32 = .ok (.iinc 3 1, 3) := by decide +kernel
theorem dX1_indexOf_35 : decode cX1_indexOf 35 = .ok (.goto (-33), 3) := by decide +kernel
theorem dX1_indexOf_38 : decode cX1_indexOf 38 = .ok (.iconst (-1), 1) := by decide +kernel
theorem dX1_indexOf_39 : decode cX1_indexOf 39 = .ok (.ireturn, 1) := by decide +kernel
theorem dX5_bad_0 : decode cX5_bad 0 = .ok (.aload_n 0, 1) := by decide +kernel
theorem dX5_bad_1 : decode cX5_bad 1 = .ok (.getfield 36, 3) := by decide +kernel
theorem dX5_bad_4 : decode cX5_bad 4 = .ok (.invokevirtual 128, 3) := by decide +kernel
theorem dX5_bad_7 : decode cX5_bad 7 = .ok (.ireturn, 1) := by decide +kernel
theorem dX0_size_0 : decode cX0_size 0 = .ok (.aload_n 0, 1) := by decide +kernel
theorem dX0_size_1 : decode cX0_size 1 = .ok (.getfield 15, 3) := by decide +kernel
theorem dX0_size_4 : decode cX0_size 4 = .ok (.ireturn, 1) := by decide +kernel
theorem dX5_unjoined_0 : decode cX5_unjoined 0 = .ok (.aload_n 0, 1) := by decide +kernel
theorem dX5_unjoined_1 : decode cX5_unjoined 1 = .ok (.getfield 36, 3) := by decide +kernel
theorem dX5_unjoined_4 : decode cX5_unjoined 4 = .ok (.iload_n 1, 1) := by decide +kernel
theorem dX5_unjoined_5 : decode cX5_unjoined 5 = .ok (.invokevirtual 129, 3) := by decide +kernel
theorem dX5_unjoined_8 : decode cX5_unjoined 8 = .ok (.ireturn, 1) := by decide +kernel
theorem dX0_entry_0 : decode cX0_entry 0 = .ok (.iload_n 1, 1) := by decide +kernel
theorem dX0_entry_1 : decode cX0_entry 1 = .ok (.ifCond .lt 20, 3) := by decide +kernel
theorem dX0_entry_4 : decode cX0_entry 4 = .ok (.iload_n 1, 1) := by decide +kernel
theorem dX0_entry_5 : decode cX0_entry 5 = .ok (.aload_n 0, 1) := by decide +kernel
theorem dX0_entry_6 : decode cX0_entry 6 = .ok (.getfield 15, 3) := by decide +kernel
theorem dX0_entry_9 : decode cX0_entry 9 = .ok (.if_icmp .ge 12, 3) := by decide +kernel
theorem dX0_entry_12 : decode cX0_entry 12 = .ok (.aload_n 0, 1) := by decide +kernel
theorem dX0_entry_13 : decode cX0_entry 13 = .ok (.getfield 9, 3) := by decide +kernel
theorem dX0_entry_16 : decode cX0_entry 16 = .ok (.iload_n 1, 1) := by decide +kernel
theorem dX0_entry_17 : decode cX0_entry 17 = .ok (.iaload, 1) := by decide +kernel
theorem dX0_entry_18 : decode cX0_entry 18 = .ok (.goto 4, 3) := by decide +kernel
theorem dX0_entry_21 : decode cX0_entry 21 = .ok (.iconst (-1), 1) := by decide +kernel
theorem dX0_entry_22 : decode cX0_entry 22 = .ok (.ireturn, 1) := by decide +kernel
theorem dX5_print_0 : decode cX5_print 0 = .ok (.aload_n 0, 1) := by decide +kernel
theorem dX5_print_1 : decode cX5_print 1 = .ok (.getfield 43, 3) := by decide +kernel
theorem dX5_print_4 : decode cX5_print 4 = .ok (.invokevirtual 132, 3) := by decide +kernel
theorem dX5_print_7 : decode cX5_print 7 = .ok (.ireturn, 1) := by decide +kernel
theorem dX2_length_0 : decode cX2_length 0 = .ok (.aload_n 0, 1) := by decide +kernel
theorem dX2_length_1 : decode cX2_length 1 = .ok (.getfield 15, 3) := by decide +kernel
theorem dX2_length_4 : decode cX2_length 4 = .ok (.ireturn, 1) := by decide +kernel
theorem dX5_keep_0 : decode cX5_keep 0 = .ok (.aload_n 0, 1) := by decide +kernel
theorem dX5_keep_1 : decode cX5_keep 1 = .ok (.getfield 23, 3) := by decide +kernel
theorem dX5_keep_4 : decode cX5_keep 4 = .ok (.aload_n 0, 1) := by decide +kernel
theorem dX5_keep_5 : decode cX5_keep 5 = .ok (.getfield 19, 3) := by decide +kernel
theorem dX5_keep_8 : decode cX5_keep 8 = .ok (.invokevirtual 66, 3) := by decide +kernel
theorem dX5_keep_11 : decode cX5_keep 11 = .ok (.aload_n 0, 1) := by decide +kernel
theorem dX5_keep_12 : decode cX5_keep 12 = .ok (.getfield 23, 3) := by decide +kernel
theorem dX5_keep_15 : decode cX5_keep 15 = .ok (.invokevirtual 77, 3) := by decide +kernel
theorem dX5_keep_18 : decode cX5_keep 18 = .ok (.ireturn, 1) := by decide +kernel
theorem dX1_copyFrom_0 : decode cX1_copyFrom 0 = .ok (.aload_n 0, 1) := by decide +kernel
theorem dX1_copyFrom_1 : decode cX1_copyFrom 1 = .ok (.aload_n 1, 1) := by decide +kernel
theorem dX1_copyFrom_2 : decode cX1_copyFrom 2 = .ok (.getfield 21, 3) := by decide +kernel
theorem dX1_copyFrom_5 : decode cX1_copyFrom 5 = .ok (.putfield 21, 3) := by decide +kernel
theorem dX1_copyFrom_8 : decode cX1_copyFrom 8 = .ok (.aload_n 1, 1) := by decide +kernel
theorem dX1_copyFrom_9 : decode cX1_copyFrom 9 = .ok (.getfield 9, 3) := by decide +kernel
theorem dX1_copyFrom_12 : decode cX1_copyFrom 12 = .ok (.iconst 0, 1) := by decide +kernel
theorem dX1_copyFrom_13 : decode cX1_copyFrom 13 = .ok (.aload_n 0, 1) := by decide +kernel
theorem dX1_copyFrom_14 : decode cX1_copyFrom 14 = .ok (.getfield 9, 3) := by decide +kernel
theorem dX1_copyFrom_17 : decode cX1_copyFrom 17 = .ok (.iconst 0, 1) := by decide +kernel
theorem dX1_copyFrom_18 : decode cX1_copyFrom 18 = .ok (.bipush 50, 2) := by decide +kernel
theorem dX1_copyFrom_20 : decode cX1_copyFrom 20 = .ok (.invokestatic 47, 3) := by decide +kernel
theorem dX1_copyFrom_23 : decode cX1_copyFrom 23 = .ok (.aload_n 1, 1) := by decide +kernel
theorem dX1_copyFrom_24 : decode cX1_copyFrom 24 = .ok (.getfield 15, 3) := by decide +kernel
theorem dX1_copyFrom_27 : decode cX1_copyFrom 27 = .ok (.iconst 0, 1) := by decide +kernel
theorem dX1_copyFrom_28 : decode cX1_copyFrom 28 = .ok (.aload_n 0, 1) := by decide +kernel
theorem dX1_copyFrom_29 : decode cX1_copyFrom 29 = .ok (.getfield 15, 3) := by decide +kernel
theorem dX1_copyFrom_32 : decode cX1_copyFrom 32 = .ok (.iconst 0, 1) := by decide +kernel
theorem dX1_copyFrom_33 : decode cX1_copyFrom 33 = .ok (.bipush 50, 2) := by decide +kernel
theorem dX1_copyFrom_35 : decode cX1_copyFrom 35 = .ok (.invokestatic 47, 3) := by decide +kernel
theorem dX1_copyFrom_38 : decode cX1_copyFrom 38 = .ok (.aload_n 1, 1) := by decide +kernel
theorem dX1_copyFrom_39 : decode cX1_copyFrom 39 = .ok (.getfield 18, 3) := by decide +kernel
theorem dX1_copyFrom_42 : decode cX1_copyFrom 42 = .ok (.iconst 0, 1) := by decide +kernel
theorem dX1_copyFrom_43 : decode cX1_copyFrom 43 = .ok (.aload_n 0, 1) := by decide +kernel
theorem dX1_copyFrom_44 : decode cX1_copyFrom 44 = .ok (.getfield 18, 3) := by decide +kernel
theorem dX1_copyFrom_47 : decode cX1_copyFrom 47 = .ok (.iconst 0, 1) := by decide +kernel
theorem dX1_copyFrom_48 : decode cX1_copyFrom 48 = .ok (.sipush 200, 3) := by decide +kernel
theorem dX1_copyFrom_51 : decode cX1_copyFrom 51 = .ok (.invokestatic 47, 3) := by decide +kernel
theorem dX1_copyFrom_54 : decode cX1_copyFrom 54 = .ok (.return_, 1) := by decide +kernel
theorem dX1_size_0 : decode cX1_size 0 = .ok (.aload_n 0, 1) := by decide +kernel
theorem dX1_size_1 : decode cX1_size 1 = .ok (.getfield 21, 3) := by decide +kernel
theorem dX1_size_4 : decode cX1_size 4 = .ok (.ireturn, 1) := by decide +kernel
theorem dX5_compare_0 : decode cX5_compare 0 = .ok (.aload_n 0, 1) := by decide +kernel
theorem dX5_compare_1 : decode cX5_compare 1 = .ok (.getfield 19, 3) := by decide +kernel
theorem dX5_compare_4 : decode cX5_compare 4 = .ok (.aload_n 0, 1) := by decide +kernel
theorem dX5_compare_5 : decode cX5_compare 5 = .ok (.getfield 23, 3) := by decide +kernel
theorem dX5_compare_8 : decode cX5_compare 8 = .ok (.invokevirtual 140, 3) := by decide +kernel
theorem dX5_compare_11 : decode cX5_compare 11 = .ok (.aload_n 0, 1) := by decide +kernel
theorem dX5_compare_12 : decode cX5_compare 12 = .ok (.getfield 23, 3) := by decide +kernel
theorem dX5_compare_15 : decode cX5_compare 15 = .ok (.aload_n 0, 1) := by decide +kernel
theorem dX5_compare_16 : decode cX5_compare 16 = .ok (.getfield 19, 3) := by decide +kernel
theorem dX5_compare_19 : decode cX5_compare 19 = .ok (.invokevirtual 140, 3) := by decide +kernel
theorem dX5_compare_22 : decode cX5_compare 22 = .ok (.iadd, 1) := by decide +kernel
theorem dX5_compare_23 : decode cX5_compare 23 = .ok (.aload_n 0, 1) := by decide +kernel
theorem dX5_compare_24 : decode cX5_compare 24 = .ok (.getfield 19, 3) := by decide +kernel
theorem dX5_compare_27 : decode cX5_compare 27 = .ok (.aload_n 0, 1) := by decide +kernel
theorem dX5_compare_28 : decode cX5_compare 28 = .ok (.getfield 23, 3) := by decide +kernel
theorem dX5_compare_31 : decode cX5_compare 31 = .ok (.invokevirtual 144, 3) := by decide +kernel
theorem dX5_compare_34 : decode cX5_compare 34 = .ok (.iadd, 1) := by decide +kernel
theorem dX5_compare_35 : decode cX5_compare 35 = .ok (.ireturn, 1) := by decide +kernel
theorem dX1_missingIn_0 : decode cX1_missingIn 0 = .ok (.iconst 0, 1) := by decide +kernel
theorem dX1_missingIn_1 : decode cX1_missingIn 1 = .ok (.istore_n 2, 1) := by decide +kernel
theorem dX1_missingIn_2 : decode cX1_missingIn 2 = .ok (.iconst 0, 1) := by decide +kernel
theorem dX1_missingIn_3 : decode cX1_missingIn 3 = .ok (.istore_n 3, 1) := by decide +kernel
theorem dX1_missingIn_4 : decode cX1_missingIn 4 = .ok (.iload_n 3, 1) := by decide +kernel
theorem dX1_missingIn_5 : decode cX1_missingIn 5 = .ok (.aload_n 0, 1) := by decide +kernel
theorem dX1_missingIn_6 : decode cX1_missingIn 6 = .ok (.getfield 21, 3) := by decide +kernel
theorem dX1_missingIn_9 : decode cX1_missingIn 9 = .ok (.if_icmp .ge 32, 3) := by decide +kernel
theorem dX1_missingIn_12 : decode cX1_missingIn 12 = .ok (.aload_n 1, 1) := by decide +kernel
theorem dX1_missingIn_13 : decode cX1_missingIn 13 = .ok (.aload_n 0, 1) := by decide +kernel
theorem dX1_missingIn_14 : decode cX1_missingIn 14 = .ok (.getfield 9, 3) := by decide +kernel
theorem dX1_missingIn_17 : decode cX1_missingIn 17 = .ok (.iload_n 3, 1) := by decide +kernel
theorem dX1_missingIn_18 : decode cX1_missingIn 18 = .ok (.iaload, 1) := by decide +kernel
theorem dX1_missingIn_19 : decode cX1_missingIn 19 = .ok (.aload_n 0, 1) := by decide +kernel
theorem dX1_missingIn_20 : decode cX1_missingIn 20 = .ok (.getfield 15, 3) := by decide +kernel
theorem dX1_missingIn_23 : decode cX1_missingIn 23 = .ok (.iload_n 3, 1) := by decide +kernel
theorem dX1_missingIn_24 : decode cX1_missingIn 24 = .ok (.iaload, 1) := by decide +kernel
theorem dX1_missingIn_25 : decode cX1_missingIn 25 = .ok (.invokevirtual 53, 3) := by decide +kernel
theorem dX1_missingIn_28 : decode cX1_missingIn 28 = .ok (.iconst (-1), 1) := by decide +kernel
theorem dX1_missingIn_29 : decode cX1_missingIn 29 = .ok (.if_icmp .ne 6, 3) := by decide +kernel
theorem dX1_missingIn_32 : decode cX1_missingIn 32 = .ok (.iinc 2 1, 3) := by decide +kernel
theorem dX1_missingIn_35 : decode cX1_missingIn 35 = .ok (.iinc 3 1, 3) := by decide +kernel
theorem dX1_missingIn_38 : decode cX1_missingIn 38 = .ok (.goto (-34), 3) := by decide +kernel
theorem dX1_missingIn_41 : decode cX1_missingIn 41 = .ok (.iload_n 2, 1) := by decide +kernel
theorem dX1_missingIn_42 : decode cX1_missingIn 42 = .ok (.ireturn, 1) := by decide +kernel
theorem dX1_changedIn_0 : decode cX1_changedIn 0 = .ok (.iconst 0, 1) := by decide +kernel
theorem dX1_changedIn_1 : decode cX1_changedIn 1 = .ok (.istore_n 2, 1) := by decide +kernel
theorem dX1_changedIn_2 : decode cX1_changedIn 2 = .ok (.iconst 0, 1) := by decide +kernel
theorem dX1_changedIn_3 : decode cX1_changedIn 3 = .ok (.istore_n 3, 1) := by decide +kernel
theorem dX1_changedIn_4 : decode cX1_changedIn 4 = .ok (.iload_n 3, 1) := by decide +kernel
theorem dX1_changedIn_5 : decode cX1_changedIn 5 = .ok (.aload_n 0, 1) := by decide +kernel
theorem dX1_changedIn_6 : decode cX1_changedIn 6 = .ok (.getfield 21, 3) := by decide +kernel
theorem dX1_changedIn_9 : decode cX1_changedIn 9 = .ok (.if_icmp .ge 47, 3) := by decide +kernel
theorem dX1_changedIn_12 : decode cX1_changedIn 12 = .ok (.aload_n 1, 1) := by decide +kernel
theorem dX1_changedIn_13 : decode cX1_changedIn 13 = .ok (.aload_n 0, 1) := by decide +kernel
theorem dX1_changedIn_14 : decode cX1_changedIn 14 = .ok (.getfield 9, 3) := by decide +kernel
theorem dX1_changedIn_17 : decode cX1_changedIn 17 = .ok (.iload_n 3, 1) := by decide +kernel
theorem dX1_changedIn_18 : decode cX1_changedIn 18 = .ok (.iaload, 1) := by decide +kernel
theorem dX1_changedIn_19 : decode cX1_changedIn 19 = .ok (.aload_n 0, 1) := by decide +kernel
theorem dX1_changedIn_20 : decode cX1_changedIn 20 = .ok (.getfield 15, 3) := by decide +kernel
theorem dX1_changedIn_23 : decode cX1_changedIn 23 = .ok (.iload_n 3, 1) := by decide +kernel
theorem dX1_changedIn_24 : decode cX1_changedIn 24 = .ok (.iaload, 1) := by decide +kernel
theorem dX1_changedIn_25 : decode cX1_changedIn 25 = .ok (.invokevirtual 53, 3) := by decide +kernel
theorem dX1_changedIn_28 : decode cX1_changedIn 28 = .ok (.istore 4, 2) := by decide +kernel
theorem dX1_changedIn_30 : decode cX1_changedIn 30 = .ok (.iload 4, 2) := by decide +kernel
theorem dX1_changedIn_32 : decode cX1_changedIn 32 = .ok (.iconst (-1), 1) := by decide +kernel
theorem dX1_changedIn_33 : decode cX1_changedIn 33 = .ok (.if_icmp .eq 17, 3) := by decide +kernel
theorem dX1_changedIn_36 : decode cX1_changedIn 36 = .ok (.aload_n 0, 1) := by decide +kernel
theorem dX1_changedIn_37 : decode cX1_changedIn 37 = .ok (.iload_n 3, 1) := by decide +kernel
theorem dX1_changedIn_38 : decode cX1_changedIn 38 = .ok (.aload_n 1, 1) := by decide +kernel
theorem dX1_changedIn_39 : decode cX1_changedIn 39 = .ok (.iload 4, 2) := by decide +kernel
theorem dX1_changedIn_41 : decode cX1_changedIn 41 = .ok (.invokevirtual 56, 3) := by decide +kernel
theorem dX1_changedIn_44 : decode cX1_changedIn 44 = .ok (.ifCond .ne 6, 3) := by decide +kernel
theorem dX1_changedIn_47 : decode cX1_changedIn 47 = .ok (.iinc 2 1, 3) := by decide +kernel
theorem dX1_changedIn_50 : decode cX1_changedIn 50 = .ok (.iinc 3 1, 3) := by decide +kernel
theorem dX1_changedIn_53 : decode cX1_changedIn 53 = .ok (.goto (-49), 3) := by decide +kernel
theorem dX1_changedIn_56 : decode cX1_changedIn 56 = .ok (.iload_n 2, 1) := by decide +kernel
theorem dX1_changedIn_57 : decode cX1_changedIn 57 = .ok (.ireturn, 1) := by decide +kernel
theorem dX1_hasSameNumbers_0 : decode cX1_hasSameNumbers 0 = .ok (.aload_n 0, 1) := by decide +kernel
theorem dX1_hasSameNumbers_1 : decode cX1_hasSameNumbers 1 = .ok (.iload_n 1, 1) := by decide +kernel
theorem dX1_hasSameNumbers_2 : decode cX1_hasSameNumbers 2 = .ok (.invokevirtual 33, 3) := by decide +kernel
theorem dX1_hasSameNumbers_5 : decode cX1_hasSameNumbers 5 = .ok (.invokestatic 60, 3) := by decide +kernel
theorem dX1_hasSameNumbers_8 : decode cX1_hasSameNumbers 8 = .ok (.istore 4, 2) := by decide +kernel
theorem dX1_hasSameNumbers_10 : decode cX1_hasSameNumbers 10 = .ok (.iconst 0, 1) := by decide +kernel
theorem dX1_hasSameNumbers_11 : decode cX1_hasSameNumbers 11 = .ok (.istore 5, 2) := by decide +kernel
theorem dX1_hasSameNumbers_13 : decode cX1_hasSameNumbers 13 = .ok (.iload 5, 2) := by decide +kernel
theorem dX1_hasSameNumbers_15 : decode cX1_hasSameNumbers 15 = .ok (.iload 4, 2) := by decide +kernel
theorem dX1_hasSameNumbers_17 : decode cX1_hasSameNumbers 17 = .ok (.if_icmp .ge 28, 3) := by decide +kernel
theorem dX1_hasSameNumbers_20 : decode cX1_hasSameNumbers 20 = .ok (.aload_n 0, 1) := by decide +kernel
theorem dX1_hasSameNumbers_21 : decode cX1_hasSameNumbers 21 = .ok (.iload_n 1, 1) := by decide +kernel
theorem dX1_hasSameNumbers_22 : decode cX1_hasSameNumbers 22 = .ok (.iload 5, 2) := by decide +kernel
theorem dX1_hasSameNumbers_24 : decode cX1_hasSameNumbers 24 = .ok (.invokevirtual 43, 3) := by decide +kernel
theorem dX1_hasSameNumbers_27 : decode cX1_hasSameNumbers 27 = .ok (.aload_n 2, 1) := by decide +kernel
theorem dX1_hasSameNumbers_28 : decode cX1_hasSameNumbers 28 = .ok (.iload_n 3, 1) := by decide +kernel
theorem dX1_hasSameNumbers_29 : decode cX1_hasSameNumbers 29 = .ok (.iload 5, 2) := by decide +kernel
theorem dX1_hasSameNumbers_31 : decode cX1_hasSameNumbers 31 = .ok (.invokevirtual 43, 3) := by decide +kernel
theorem dX1_hasSameNumbers_34 : decode cX1_hasSameNumbers 34 = .ok (.if_icmp .eq 5, 3) := by decide +kernel
theorem dX1_hasSameNumbers_37 : decode cX1_hasSameNumbers 37 = .ok (.iconst 0, 1) := by decide +kernel
theorem dX1_hasSameNumbers_38 : decode cX1_hasSameNumbers 38 = .ok (.ireturn, 1) := by decide +kernel
theorem dX1_hasSameNumbers_39 : decode cX1_hasSameNumbers 39 = .ok (.iinc 5 1, 3) := by decide +kernel
theorem dX1_hasSameNumbers_42 : decode cX1_hasSameNumbers 42 = .ok (.goto (-29), 3) := by decide +kernel
theorem dX1_hasSameNumbers_45 : decode cX1_hasSameNumbers 45 = .ok (.iconst 1, 1) := by decide +kernel
theorem dX1_hasSameNumbers_46 : decode cX1_hasSameNumbers 46 = .ok (.ireturn, 1) := by decide +kernel
theorem dX1_kindOf_0 : decode cX1_kindOf 0 = .ok (.iload_n 1, 1) := by decide +kernel
theorem dX1_kindOf_1 : decode cX1_kindOf 1 = .ok (.ifCond .lt 20, 3) := by decide +kernel
theorem dX1_kindOf_4 : decode cX1_kindOf 4 = .ok (.iload_n 1, 1) := by decide +kernel
theorem dX1_kindOf_5 : decode cX1_kindOf 5 = .ok (.aload_n 0, 1) := by decide +kernel
theorem dX1_kindOf_6 : decode cX1_kindOf 6 = .ok (.getfield 21, 3) := by decide +kernel
theorem dX1_kindOf_9 : decode cX1_kindOf 9 = .ok (.if_icmp .ge 12, 3) := by decide +kernel
theorem dX1_kindOf_12 : decode cX1_kindOf 12 = .ok (.aload_n 0, 1) := by decide +kernel
theorem dX1_kindOf_13 : decode cX1_kindOf 13 = .ok (.getfield 9, 3) := by decide +kernel
theorem dX1_kindOf_16 : decode cX1_kindOf 16 = .ok (.iload_n 1, 1) := by decide +kernel
theorem dX1_kindOf_17 : decode cX1_kindOf 17 = .ok (.iaload, 1) := by decide +kernel
theorem dX1_kindOf_18 : decode cX1_kindOf 18 = .ok (.goto 4, 3) := by decide +kernel
theorem dX1_kindOf_21 : decode cX1_kindOf 21 = .ok (.iconst (-1), 1) := by decide +kernel
theorem dX1_kindOf_22 : decode cX1_kindOf 22 = .ok (.ireturn, 1) := by decide +kernel
theorem dX5_numbersOfKind_0 : decode cX5_numbersOfKind 0 = .ok (.iload_n 0, 1) := by decide +kernel
theorem dX5_numbersOfKind_1 : decode cX5_numbersOfKind 1 = .ok (.invokestatic 151, 3) := by decide +kernel
theorem dX5_numbersOfKind_4 : decode cX5_numbersOfKind 4 = .ok (.ifCond .eq 11, 3) := by decide +kernel
theorem dX5_numbersOfKind_7 : decode cX5_numbersOfKind 7 = .ok (.getstatic 154, 3) := by decide +kernel
theorem dX5_numbersOfKind_10 : decode cX5_numbersOfKind 10 = .ok (.iload_n 0, 1) := by decide +kernel
theorem dX5_numbersOfKind_11 : decode cX5_numbersOfKind 11 = .ok (.iaload, 1) := by decide +kernel
theorem dX5_numbersOfKind_12 : decode cX5_numbersOfKind 12 = .ok (.goto 4, 3) := by decide +kernel
theorem dX5_numbersOfKind_15 : decode cX5_numbersOfKind 15 = .ok (.iconst 0, 1) := by decide +kernel
theorem dX5_numbersOfKind_16 : decode cX5_numbersOfKind 16 = .ok (.ireturn, 1) := by decide +kernel
theorem dX5_isKind_0 : decode cX5_isKind 0 = .ok (.iload_n 0, 1) := by decide +kernel
theorem dX5_isKind_1 : decode cX5_isKind 1 = .ok (.ifCond .lt 13, 3) := by decide +kernel
theorem dX5_isKind_4 : decode cX5_isKind 4 = .ok (.iload_n 0, 1) := by decide +kernel
theorem dX5_isKind_5 : decode cX5_isKind 5 = .ok (.bipush 6, 2) := by decide +kernel
theorem dX5_isKind_7 : decode cX5_isKind 7 = .ok (.if_icmp .ge 7, 3) := by decide +kernel
theorem dX5_isKind_10 : decode cX5_isKind 10 = .ok (.iconst 1, 1) := by decide +kernel
theorem dX5_isKind_11 : decode cX5_isKind 11 = .ok (.goto 4, 3) := by decide +kernel
theorem dX5_isKind_14 : decode cX5_isKind 14 = .ok (.iconst 0, 1) := by decide +kernel
theorem dX5_isKind_15 : decode cX5_isKind 15 = .ok (.ireturn, 1) := by decide +kernel
theorem dX1_numberOf_0 : decode cX1_numberOf 0 = .ok (.iload_n 1, 1) := by decide +kernel
theorem dX1_numberOf_1 : decode cX1_numberOf 1 = .ok (.ifCond .lt 20, 3) := by decide +kernel
theorem dX1_numberOf_4 : decode cX1_numberOf 4 = .ok (.iload_n 1, 1) := by decide +kernel
theorem dX1_numberOf_5 : decode cX1_numberOf 5 = .ok (.aload_n 0, 1) := by decide +kernel
theorem dX1_numberOf_6 : decode cX1_numberOf 6 = .ok (.getfield 21, 3) := by decide +kernel
theorem dX1_numberOf_9 : decode cX1_numberOf 9 = .ok (.if_icmp .ge 12, 3) := by decide +kernel
theorem dX1_numberOf_12 : decode cX1_numberOf 12 = .ok (.iload_n 2, 1) := by decide +kernel
theorem dX1_numberOf_13 : decode cX1_numberOf 13 = .ok (.ifCond .lt 8, 3) := by decide +kernel
theorem dX1_numberOf_16 : decode cX1_numberOf 16 = .ok (.iload_n 2, 1) := by decide +kernel
theorem dX1_numberOf_17 : decode cX1_numberOf 17 = .ok (.iconst 4, 1) := by decide +kernel
theorem dX1_numberOf_18 : decode cX1_numberOf 18 = .ok (.if_icmp .lt 5, 3) := by decide +kernel
theorem dX1_numberOf_21 : decode cX1_numberOf 21 = .ok (.iconst (-1), 1) := by decide +kernel
theorem dX1_numberOf_22 : decode cX1_numberOf 22 = .ok (.ireturn, 1) := by decide +kernel
theorem dX1_numberOf_23 : decode cX1_numberOf 23 = .ok (.aload_n 0, 1) := by decide +kernel
theorem dX1_numberOf_24 : decode cX1_numberOf 24 = .ok (.getfield 18, 3) := by decide +kernel
theorem dX1_numberOf_27 : decode cX1_numberOf 27 = .ok (.iload_n 1, 1) := by decide +kernel
theorem dX1_numberOf_28 : decode cX1_numberOf 28 = .ok (.iconst 4, 1) := by decide +kernel
theorem dX1_numberOf_29 : decode cX1_numberOf 29 = .ok (.imul, 1) := by decide +kernel
theorem dX1_numberOf_30 : decode cX1_numberOf 30 = .ok (.iload_n 2, 1) := by decide +kernel
theorem dX1_numberOf_31 : decode cX1_numberOf 31 = .ok (.iadd, 1) := by decide +kernel
theorem dX1_numberOf_32 : decode cX1_numberOf 32 = .ok (.iaload, 1) := by decide +kernel
theorem dX1_numberOf_33 : decode cX1_numberOf 33 = .ok (.ireturn, 1) := by decide +kernel
theorem dX5_count_0 : decode cX5_count 0 = .ok (.iload_n 1, 1) := by decide +kernel
theorem dX5_count_1 : decode cX5_count 1 = .ok (.tableswitch 51 0 2 #[27, 35, 43], 27) := by decide +kernel
theorem dX5_count_28 : decode cX5_count 28 = .ok (.aload_n 0, 1) := by decide +kernel
theorem dX5_count_29 : decode cX5_count 29 = .ok (.getfield 10, 3) := by decide +kernel
theorem dX5_count_32 : decode cX5_count 32 = .ok (.invokevirtual 147, 3) := by decide +kernel
theorem dX5_count_35 : decode cX5_count 35 = .ok (.ireturn, 1) := by decide +kernel
theorem dX5_count_36 : decode cX5_count 36 = .ok (.aload_n 0, 1) := by decide +kernel
theorem dX5_count_37 : decode cX5_count 37 = .ok (.getfield 19, 3) := by decide +kernel
theorem dX5_count_40 : decode cX5_count 40 = .ok (.invokevirtual 77, 3) := by decide +kernel
theorem dX5_count_43 : decode cX5_count 43 = .ok (.ireturn, 1) := by decide +kernel
theorem dX5_count_44 : decode cX5_count 44 = .ok (.aload_n 0, 1) := by decide +kernel
theorem dX5_count_45 : decode cX5_count 45 = .ok (.getfield 23, 3) := by decide +kernel
theorem dX5_count_48 : decode cX5_count 48 = .ok (.invokevirtual 77, 3) := by decide +kernel
theorem dX5_count_51 : decode cX5_count 51 = .ok (.ireturn, 1) := by decide +kernel
theorem dX5_count_52 : decode cX5_count 52 = .ok (.iload_n 1, 1) := by decide +kernel
theorem dX5_count_53 : decode cX5_count 53 = .ok (.bipush 10, 2) := by decide +kernel
theorem dX5_count_55 : decode cX5_count 55 = .ok (.if_icmp .ge 7, 3) := by decide +kernel
theorem dX5_count_58 : decode cX5_count 58 = .ok (.iconst (-1), 1) := by decide +kernel
theorem dX5_count_59 : decode cX5_count 59 = .ok (.goto 14, 3) := by decide +kernel
theorem dX5_count_62 : decode cX5_count 62 = .ok (.aload_n 0, 1) := by decide +kernel
theorem dX5_count_63 : decode cX5_count 63 = .ok (.getfield 19, 3) := by decide +kernel
theorem dX5_count_66 : decode cX5_count 66 = .ok (.iload_n 1, 1) := by decide +kernel
theorem dX5_count_67 : decode cX5_count 67 = .ok (.bipush 10, 2) := by decide +kernel
theorem dX5_count_69 : decode cX5_count 69 = .ok (.isub, 1) := by decide +kernel
theorem dX5_count_70 : decode cX5_count 70 = .ok (.invokevirtual 148, 3) := by decide +kernel
theorem dX5_count_73 : decode cX5_count 73 = .ok (.ireturn, 1) := by decide +kernel
theorem dX3_length_0 : decode cX3_length 0 = .ok (.aload_n 0, 1) := by decide +kernel
theorem dX3_length_1 : decode cX3_length 1 = .ok (.getfield 22, 3) := by decide +kernel
theorem dX3_length_4 : decode cX3_length 4 = .ok (.ireturn, 1) := by decide +kernel
theorem dX1_sizeOfKind_0 : decode cX1_sizeOfKind 0 = .ok (.iload_n 1, 1) := by decide +kernel
theorem dX1_sizeOfKind_1 : decode cX1_sizeOfKind 1 = .ok (.invokestatic 29, 3) := by decide +kernel
theorem dX1_sizeOfKind_4 : decode cX1_sizeOfKind 4 = .ok (.ifCond .ne 5, 3) := by decide +kernel
theorem dX1_sizeOfKind_7 : decode cX1_sizeOfKind 7 = .ok (.iconst (-1), 1) := by decide +kernel
theorem dX1_sizeOfKind_8 : decode cX1_sizeOfKind 8 = .ok (.ireturn, 1) := by decide +kernel
theorem dX1_sizeOfKind_9 : decode cX1_sizeOfKind 9 = .ok (.iconst 0, 1) := by decide +kernel
theorem dX1_sizeOfKind_10 : decode cX1_sizeOfKind 10 = .ok (.istore_n 2, 1) := by decide +kernel
theorem dX1_sizeOfKind_11 : decode cX1_sizeOfKind 11 = .ok (.iconst 0, 1) := by decide +kernel
theorem dX1_sizeOfKind_12 : decode cX1_sizeOfKind 12 = .ok (.istore_n 3, 1) := by decide +kernel
theorem dX1_sizeOfKind_13 : decode cX1_sizeOfKind 13 = .ok (.iload_n 3, 1) := by decide +kernel
theorem dX1_sizeOfKind_14 : decode cX1_sizeOfKind 14 = .ok (.aload_n 0, 1) := by decide +kernel
theorem dX1_sizeOfKind_15 : decode cX1_sizeOfKind 15 = .ok (.getfield 21, 3) := by decide +kernel
theorem dX1_sizeOfKind_18 : decode cX1_sizeOfKind 18 = .ok (.if_icmp .ge 22, 3) := by decide +kernel
theorem dX1_sizeOfKind_21 : decode cX1_sizeOfKind 21 = .ok (.aload_n 0, 1) := by decide +kernel
theorem dX1_sizeOfKind_22 : decode cX1_sizeOfKind 22 = .ok (.getfield 9, 3) := by decide +kernel
theorem dX1_sizeOfKind_25 : decode cX1_sizeOfKind 25 = .ok (.iload_n 3, 1) := by decide +kernel
theorem dX1_sizeOfKind_26 : decode cX1_sizeOfKind 26 = .ok (.iaload, 1) := by decide +kernel
theorem dX1_sizeOfKind_27 : decode cX1_sizeOfKind 27 = .ok (.iload_n 1, 1) := by decide +kernel
theorem dX1_sizeOfKind_28 : decode cX1_sizeOfKind 28 = .ok (.if_icmp .ne 6, 3) := by decide +kernel
theorem dX1_sizeOfKind_31 : decode cX1_sizeOfKind 31 = .ok (.iinc 2 1, 3) := by decide +kernel
theorem dX1_sizeOfKind_34 : decode cX1_sizeOfKind 34 = .ok (.iinc 3 1, 3) := by decide +kernel
theorem dX1_sizeOfKind_37 : decode cX1_sizeOfKind 37 = .ok (.goto (-24), 3) := by decide +kernel
theorem dX1_sizeOfKind_40 : decode cX1_sizeOfKind 40 = .ok (.iload_n 2, 1) := by decide +kernel
theorem dX1_sizeOfKind_41 : decode cX1_sizeOfKind 41 = .ok (.ireturn, 1) := by decide +kernel
theorem dL_read_0 : decode cL_read 0 = .ok (.aload_n 1, 1) := by decide +kernel
theorem dL_read_1 : decode cL_read 1 = .ok (.iconst 0, 1) := by decide +kernel
theorem dL_read_2 : decode cL_read 2 = .ok (.aload_n 0, 1) := by decide +kernel
theorem dL_read_3 : decode cL_read 3 = .ok (.invokevirtual 7, 3) := by decide +kernel
theorem dL_read_6 : decode cL_read 6 = .ok (.i2l, 1) := by decide +kernel
theorem dL_read_7 : decode cL_read 7 = .ok (.lastore, 1) := by decide +kernel
theorem dL_read_8 : decode cL_read 8 = .ok (.goto 6, 3) := by decide +kernel
theorem dL_read_11 : decode cL_read 11 = .ok (.astore_n 2, 1) := by decide +kernel
theorem dL_read_12 : decode cL_read 12 = .ok (.iconst 1, 1) := by decide +kernel
theorem dL_read_13 : decode cL_read 13 = .ok (.ireturn, 1) := by decide +kernel
theorem dL_read_14 : decode cL_read 14 = .ok (.iconst 0, 1) := by decide +kernel
theorem dL_read_15 : decode cL_read 15 = .ok (.ireturn, 1) := by decide +kernel
theorem dX5_read_0 : decode cX5_read 0 = .ok (.aload_n 0, 1) := by decide +kernel
theorem dX5_read_1 : decode cX5_read 1 = .ok (.getfield 10, 3) := by decide +kernel
theorem dX5_read_4 : decode cX5_read 4 = .ok (.invokevirtual 51, 3) := by decide +kernel
theorem dX5_read_7 : decode cX5_read 7 = .ok (.ifCond .ne 13, 3) := by decide +kernel
theorem dX5_read_10 : decode cX5_read 10 = .ok (.new 55, 3) := by decide +kernel
theorem dX5_read_13 : decode cX5_read 13 = .ok (.dup, 1) := by decide +kernel
theorem dX5_read_14 : decode cX5_read 14 = .ok (.ldc 57, 2) := by decide +kernel
theorem dX5_read_16 : decode cX5_read 16 = .ok (.invokespecial 59, 3) := by decide +kernel
theorem dX5_read_19 : decode cX5_read 19 = .ok (.athrow, 1) := by decide +kernel
theorem dX5_read_20 : decode cX5_read 20 = .ok (.aload_n 0, 1) := by decide +kernel
theorem dX5_read_21 : decode cX5_read 21 = .ok (.getfield 19, 3) := by decide +kernel
theorem dX5_read_24 : decode cX5_read 24 = .ok (.aload_n 0, 1) := by decide +kernel
theorem dX5_read_25 : decode cX5_read 25 = .ok (.getfield 10, 3) := by decide +kernel
theorem dX5_read_28 : decode cX5_read 28 = .ok (.invokevirtual 62, 3) := by decide +kernel
theorem dX5_read_31 : decode cX5_read 31 = .ok (.invokevirtual 66, 3) := by decide +kernel
theorem dX5_read_34 : decode cX5_read 34 = .ok (.aload_n 0, 1) := by decide +kernel
theorem dX5_read_35 : decode cX5_read 35 = .ok (.getfield 36, 3) := by decide +kernel
theorem dX5_read_38 : decode cX5_read 38 = .ok (.aload_n 0, 1) := by decide +kernel
theorem dX5_read_39 : decode cX5_read 39 = .ok (.getfield 19, 3) := by decide +kernel
theorem dX5_read_42 : decode cX5_read 42 = .ok (.aload_n 0, 1) := by decide +kernel
theorem dX5_read_43 : decode cX5_read 43 = .ok (.getfield 29, 3) := by decide +kernel
theorem dX5_read_46 : decode cX5_read 46 = .ok (.invokevirtual 70, 3) := by decide +kernel
theorem dX5_read_49 : decode cX5_read 49 = .ok (.aload_n 0, 1) := by decide +kernel
theorem dX5_read_50 : decode cX5_read 50 = .ok (.getfield 43, 3) := by decide +kernel
theorem dX5_read_53 : decode cX5_read 53 = .ok (.aload_n 0, 1) := by decide +kernel
theorem dX5_read_54 : decode cX5_read 54 = .ok (.getfield 19, 3) := by decide +kernel
theorem dX5_read_57 : decode cX5_read 57 = .ok (.invokevirtual 74, 3) := by decide +kernel
theorem dX5_read_60 : decode cX5_read 60 = .ok (.aload_n 0, 1) := by decide +kernel
theorem dX5_read_61 : decode cX5_read 61 = .ok (.getfield 19, 3) := by decide +kernel
theorem dX5_read_64 : decode cX5_read 64 = .ok (.invokevirtual 77, 3) := by decide +kernel
theorem dX5_read_67 : decode cX5_read 67 = .ok (.ireturn, 1) := by decide +kernel
theorem dX3_readAll_0 : decode cX3_readAll 0 = .ok (.aload_n 0, 1) := by decide +kernel
theorem dX3_readAll_1 : decode cX3_readAll 1 = .ok (.getfield 18, 3) := by decide +kernel
theorem dX3_readAll_4 : decode cX3_readAll 4 = .ok (.invokevirtual 35, 3) := by decide +kernel
theorem dX3_readAll_7 : decode cX3_readAll 7 = .ok (.aload_n 0, 1) := by decide +kernel
theorem dX3_readAll_8 : decode cX3_readAll 8 = .ok (.iconst 0, 1) := by decide +kernel
theorem dX3_readAll_9 : decode cX3_readAll 9 = .ok (.putfield 26, 3) := by decide +kernel
theorem dX3_readAll_12 : decode cX3_readAll 12 = .ok (.aload_n 0, 1) := by decide +kernel
theorem dX3_readAll_13 : decode cX3_readAll 13 = .ok (.iconst 0, 1) := by decide +kernel
theorem dX3_readAll_14 : decode cX3_readAll 14 = .ok (.putfield 29, 3) := by decide +kernel
theorem dX3_readAll_17 : decode cX3_readAll 17 = .ok (.aload_n 0, 1) := by decide +kernel
theorem dX3_readAll_18 : decode cX3_readAll 18 = .ok (.iconst (-1), 1) := by decide +kernel
theorem dX3_readAll_19 : decode cX3_readAll 19 = .ok (.putfield 32, 3) := by decide +kernel
theorem dX3_readAll_22 : decode cX3_readAll 22 = .ok (.iconst 1, 1) := by decide +kernel
theorem dX3_readAll_23 : decode cX3_readAll 23 = .ok (.istore_n 1, 1) := by decide +kernel
theorem dX3_readAll_24 : decode cX3_readAll 24 = .ok (.iconst 0, 1) := by decide +kernel
theorem dX3_readAll_25 : decode cX3_readAll 25 = .ok (.istore_n 2, 1) := by decide +kernel
theorem dX3_readAll_26 : decode cX3_readAll 26 = .ok (.iload_n 2, 1) := by decide +kernel
theorem dX3_readAll_27 : decode cX3_readAll 27 = .ok (.bipush 50, 2) := by decide +kernel
theorem dX3_readAll_29 : decode cX3_readAll 29 = .ok (.if_icmp .gt 29, 3) := by decide +kernel
theorem dX3_readAll_32 : decode cX3_readAll 32 = .ok (.iload_n 1, 1) := by decide +kernel
theorem dX3_readAll_33 : decode cX3_readAll 33 = .ok (.ifCond .eq 25, 3) := by decide +kernel
theorem dX3_readAll_36 : decode cX3_readAll 36 = .ok (.aload_n 0, 1) := by decide +kernel
theorem dX3_readAll_37 : decode cX3_readAll 37 = .ok (.getfield 26, 3) := by decide +kernel
theorem dX3_readAll_40 : decode cX3_readAll 40 = .ok (.aload_n 0, 1) := by decide +kernel
theorem dX3_readAll_41 : decode cX3_readAll 41 = .ok (.getfield 22, 3) := by decide +kernel
theorem dX3_readAll_44 : decode cX3_readAll 44 = .ok (.if_icmp .ge 14, 3) := by decide +kernel
theorem dX3_readAll_47 : decode cX3_readAll 47 = .ok (.aload_n 0, 1) := by decide +kernel
theorem dX3_readAll_48 : decode cX3_readAll 48 = .ok (.invokevirtual 38, 3) := by decide +kernel
theorem dX3_readAll_51 : decode cX3_readAll 51 = .ok (.istore_n 1, 1) := by decide +kernel
theorem dX3_readAll_52 : decode cX3_readAll 52 = .ok (.iinc 2 1, 3) := by decide +kernel
theorem dX3_readAll_55 : decode cX3_readAll 55 = .ok (.goto (-29), 3) := by decide +kernel
theorem dX3_readAll_58 : decode cX3_readAll 58 = .ok (.aload_n 0, 1) := by decide +kernel
theorem dX3_readAll_59 : decode cX3_readAll 59 = .ok (.iconst 0, 1) := by decide +kernel
theorem dX3_readAll_60 : decode cX3_readAll 60 = .ok (.putfield 22, 3) := by decide +kernel
theorem dX3_readAll_63 : decode cX3_readAll 63 = .ok (.iload_n 1, 1) := by decide +kernel
theorem dX3_readAll_64 : decode cX3_readAll 64 = .ok (.ireturn, 1) := by decide +kernel
theorem dX1_clear_0 : decode cX1_clear 0 = .ok (.aload_n 0, 1) := by decide +kernel
theorem dX1_clear_1 : decode cX1_clear 1 = .ok (.iconst 0, 1) := by decide +kernel
theorem dX1_clear_2 : decode cX1_clear 2 = .ok (.putfield 21, 3) := by decide +kernel
theorem dX1_clear_5 : decode cX1_clear 5 = .ok (.return_, 1) := by decide +kernel
theorem dX3_readRow_0 : decode cX3_readRow 0 = .ok (.aload_n 0, 1) := by decide +kernel
theorem dX3_readRow_1 : decode cX3_readRow 1 = .ok (.invokevirtual 42, 3) := by decide +kernel
theorem dX3_readRow_4 : decode cX3_readRow 4 = .ok (.istore_n 1, 1) := by decide +kernel
theorem dX3_readRow_5 : decode cX3_readRow 5 = .ok (.iload_n 1, 1) := by decide +kernel
theorem dX3_readRow_6 : decode cX3_readRow 6 = .ok (.iconst (-1), 1) := by decide +kernel
theorem dX3_readRow_7 : decode cX3_readRow 7 = .ok (.if_icmp .ne 13, 3) := by decide +kernel
theorem dX3_readRow_10 : decode cX3_readRow 10 = .ok (.aload_n 0, 1) := by decide +kernel
theorem dX3_readRow_11 : decode cX3_readRow 11 = .ok (.iconst 1, 1) := by decide +kernel
theorem dX3_readRow_12 : decode cX3_readRow 12 = .ok (.aload_n 0, 1) := by decide +kernel
theorem dX3_readRow_13 : decode cX3_readRow 13 = .ok (.getfield 26, 3) := by decide +kernel
theorem dX3_readRow_16 : decode cX3_readRow 16 = .ok (.invokevirtual 46, 3) := by decide +kernel
theorem dX3_readRow_19 : decode cX3_readRow 19 = .ok (.ireturn, 1) := by decide +kernel
theorem dX3_readRow_20 : decode cX3_readRow 20 = .ok (.aload_n 0, 1) := by decide +kernel
theorem dX3_readRow_21 : decode cX3_readRow 21 = .ok (.getfield 18, 3) := by decide +kernel
theorem dX3_readRow_24 : decode cX3_readRow 24 = .ok (.invokevirtual 50, 3) := by decide +kernel
theorem dX3_readRow_27 : decode cX3_readRow 27 = .ok (.ifCond .eq 13, 3) := by decide +kernel
theorem dX3_readRow_30 : decode cX3_readRow 30 = .ok (.aload_n 0, 1) := by decide +kernel
theorem dX3_readRow_31 : decode cX3_readRow 31 = .ok (.iconst 5, 1) := by decide +kernel
theorem dX3_readRow_32 : decode cX3_readRow 32 = .ok (.aload_n 0, 1) := by decide +kernel
theorem dX3_readRow_33 : decode cX3_readRow 33 = .ok (.getfield 26, 3) := by decide +kernel
theorem dX3_readRow_36 : decode cX3_readRow 36 = .ok (.invokevirtual 46, 3) := by decide +kernel
theorem dX3_readRow_39 : decode cX3_readRow 39 = .ok (.ireturn, 1) := by decide +kernel
theorem dX3_readRow_40 : decode cX3_readRow 40 = .ok (.aload_n 0, 1) := by decide +kernel
theorem dX3_readRow_41 : decode cX3_readRow 41 = .ok (.dup, 1) := by decide +kernel
theorem dX3_readRow_42 : decode cX3_readRow 42 = .ok (.getfield 26, 3) := by decide +kernel
theorem dX3_readRow_45 : decode cX3_readRow 45 = .ok (.iconst 1, 1) := by decide +kernel
theorem dX3_readRow_46 : decode cX3_readRow 46 = .ok (.iadd, 1) := by decide +kernel
theorem dX3_readRow_47 : decode cX3_readRow 47 = .ok (.putfield 26, 3) := by decide +kernel
theorem dX3_readRow_50 : decode cX3_readRow 50 = .ok (.aload_n 0, 1) := by decide +kernel
theorem dX3_readRow_51 : decode cX3_readRow 51 = .ok (.iload_n 1, 1) := by decide +kernel
theorem dX3_readRow_52 : decode cX3_readRow 52 = .ok (.invokevirtual 53, 3) := by decide +kernel
theorem dX3_readRow_55 : decode cX3_readRow 55 = .ok (.ifCond .eq 12, 3) := by decide +kernel
theorem dX3_readRow_58 : decode cX3_readRow 58 = .ok (.aload_n 0, 1) := by decide +kernel
theorem dX3_readRow_59 : decode cX3_readRow 59 = .ok (.bipush 61, 2) := by decide +kernel
theorem dX3_readRow_61 : decode cX3_readRow 61 = .ok (.invokevirtual 57, 3) := by decide +kernel
theorem dX3_readRow_64 : decode cX3_readRow 64 = .ok (.ifCond .ne 5, 3) := by decide +kernel
theorem dX3_readRow_67 : decode cX3_readRow 67 = .ok (.iconst 0, 1) := by decide +kernel
theorem dX3_readRow_68 : decode cX3_readRow 68 = .ok (.ireturn, 1) := by decide +kernel
theorem dX3_readRow_69 : decode cX3_readRow 69 = .ok (.iload_n 1, 1) := by decide +kernel
theorem dX3_readRow_70 : decode cX3_readRow 70 = .ok (.invokestatic 61, 3) := by decide +kernel
theorem dX3_readRow_73 : decode cX3_readRow 73 = .ok (.istore_n 2, 1) := by decide +kernel
theorem dX3_readRow_74 : decode cX3_readRow 74 = .ok (.iconst 0, 1) := by decide +kernel
theorem dX3_readRow_75 : decode cX3_readRow 75 = .ok (.istore_n 3, 1) := by decide +kernel
theorem dX3_readRow_76 : decode cX3_readRow 76 = .ok (.iload_n 3, 1) := by decide +kernel
theorem dX3_readRow_77 : decode cX3_readRow 77 = .ok (.iload_n 2, 1) := by decide +kernel
theorem dX3_readRow_78 : decode cX3_readRow 78 = .ok (.if_icmp .ge 41, 3) := by decide +kernel
theorem dX3_readRow_81 : decode cX3_readRow 81 = .ok (.aload_n 0, 1) := by decide +kernel
theorem dX3_readRow_82 : decode cX3_readRow 82 = .ok (.iload_n 1, 1) := by decide +kernel
theorem dX3_readRow_83 : decode cX3_readRow 83 = .ok (.iload_n 3, 1) := by decide +kernel
theorem dX3_readRow_84 : decode cX3_readRow 84 = .ok (.invokevirtual 65, 3) := by decide +kernel
theorem dX3_readRow_87 : decode cX3_readRow 87 = .ok (.ifCond .eq 24, 3) := by decide +kernel
theorem dX3_readRow_90 : decode cX3_readRow 90 = .ok (.aload_n 0, 1) := by decide +kernel
end
section
theorem dX3_readRow_91 : decode cX3_readRow 91 = .ok (.iload_n 3, 1) := by decide +kernel
theorem dX3_readRow_92 : decode cX3_readRow 92 = .ok (.iconst 1, 1) := by decide +kernel
theorem dX3_readRow_93 : decode cX3_readRow 93 = .ok (.iadd, 1) := by decide +kernel
theorem dX3_readRow_94 : decode cX3_readRow 94 = .ok (.iload_n 2, 1) := by decide +kernel
theorem dX3_readRow_95 : decode cX3_readRow 95 = .ok (.if_icmp .ge 8, 3) := by decide +kernel
theorem dX3_readRow_98 : decode cX3_readRow 98 = .ok (.bipush 44, 2) := by decide +kernel
theorem dX3_readRow_100 : decode cX3_readRow 100 = .ok (.goto 5, 3) := by decide +kernel
theorem dX3_readRow_103 : decode cX3_readRow 103 = .ok (.bipush 59, 2) := by decide +kernel
theorem dX3_readRow_105 : decode cX3_readRow 105 = .ok (.invokevirtual 57, 3) := by decide +kernel
theorem dX3_readRow_108 : decode cX3_readRow 108 = .ok (.ifCond .ne 5, 3) := by decide +kernel
theorem dX3_readRow_111 : decode cX3_readRow 111 = .ok (.iconst 0, 1) := by decide +kernel
theorem dX3_readRow_112 : decode cX3_readRow 112 = .ok (.ireturn, 1) := by decide +kernel
theorem dX3_readRow_113 : decode cX3_readRow 113 = .ok (.iinc 3 1, 3) := by decide +kernel
theorem dX3_readRow_116 : decode cX3_readRow 116 = .ok (.goto (-40), 3) := by decide +kernel
theorem dX3_readRow_119 : decode cX3_readRow 119 = .ok (.iconst 1, 1) := by decide +kernel
theorem dX3_readRow_120 : decode cX3_readRow 120 = .ok (.ireturn, 1) := by decide +kernel
theorem dX3_kindHere_0 : decode cX3_kindHere 0 = .ok (.aload_n 0, 1) := by decide +kernel
theorem dX3_kindHere_1 : decode cX3_kindHere 1 = .ok (.invokevirtual 106, 3) := by decide +kernel
theorem dX3_kindHere_4 : decode cX3_kindHere 4 = .ok (.istore_n 1, 1) := by decide +kernel
theorem dX3_kindHere_5 : decode cX3_kindHere 5 = .ok (.iconst 0, 1) := by decide +kernel
theorem dX3_kindHere_6 : decode cX3_kindHere 6 = .ok (.istore_n 2, 1) := by decide +kernel
theorem dX3_kindHere_7 : decode cX3_kindHere 7 = .ok (.iload_n 2, 1) := by decide +kernel
theorem dX3_kindHere_8 : decode cX3_kindHere 8 = .ok (.bipush 6, 2) := by decide +kernel
theorem dX3_kindHere_10 : decode cX3_kindHere 10 = .ok (.if_icmp .ge 20, 3) := by decide +kernel
theorem dX3_kindHere_13 : decode cX3_kindHere 13 = .ok (.getstatic 112, 3) := by decide +kernel
theorem dX3_kindHere_16 : decode cX3_kindHere 16 = .ok (.iload_n 2, 1) := by decide +kernel
theorem dX3_kindHere_17 : decode cX3_kindHere 17 = .ok (.caload, 1) := by decide +kernel
theorem dX3_kindHere_18 : decode cX3_kindHere 18 = .ok (.iload_n 1, 1) := by decide +kernel
theorem dX3_kindHere_19 : decode cX3_kindHere 19 = .ok (.if_icmp .ne 5, 3) := by decide +kernel
theorem dX3_kindHere_22 : decode cX3_kindHere 22 = .ok (.iload_n 2, 1) := by decide +kernel
theorem dX3_kindHere_23 : decode cX3_kindHere 23 = .ok (.ireturn, 1) := by decide +kernel
theorem dX3_kindHere_24 : decode cX3_kindHere 24 = .ok (.iinc 2 1, 3) := by decide +kernel
theorem dX3_kindHere_27 : decode cX3_kindHere 27 = .ok (.goto (-20), 3) := by decide +kernel
theorem dX3_kindHere_30 : decode cX3_kindHere 30 = .ok (.iconst (-1), 1) := by decide +kernel
theorem dX3_kindHere_31 : decode cX3_kindHere 31 = .ok (.ireturn, 1) := by decide +kernel
theorem dX3_signHere_0 : decode cX3_signHere 0 = .ok (.aload_n 0, 1) := by decide +kernel
theorem dX3_signHere_1 : decode cX3_signHere 1 = .ok (.getfield 26, 3) := by decide +kernel
theorem dX3_signHere_4 : decode cX3_signHere 4 = .ok (.ifCond .lt 26, 3) := by decide +kernel
theorem dX3_signHere_7 : decode cX3_signHere 7 = .ok (.aload_n 0, 1) := by decide +kernel
theorem dX3_signHere_8 : decode cX3_signHere 8 = .ok (.getfield 26, 3) := by decide +kernel
theorem dX3_signHere_11 : decode cX3_signHere 11 = .ok (.aload_n 0, 1) := by decide +kernel
theorem dX3_signHere_12 : decode cX3_signHere 12 = .ok (.getfield 22, 3) := by decide +kernel
theorem dX3_signHere_15 : decode cX3_signHere 15 = .ok (.if_icmp .ge 15, 3) := by decide +kernel
theorem dX3_signHere_18 : decode cX3_signHere 18 = .ok (.aload_n 0, 1) := by decide +kernel
theorem dX3_signHere_19 : decode cX3_signHere 19 = .ok (.getfield 9, 3) := by decide +kernel
theorem dX3_signHere_22 : decode cX3_signHere 22 = .ok (.aload_n 0, 1) := by decide +kernel
theorem dX3_signHere_23 : decode cX3_signHere 23 = .ok (.getfield 26, 3) := by decide +kernel
theorem dX3_signHere_26 : decode cX3_signHere 26 = .ok (.caload, 1) := by decide +kernel
theorem dX3_signHere_27 : decode cX3_signHere 27 = .ok (.goto 4, 3) := by decide +kernel
theorem dX3_signHere_30 : decode cX3_signHere 30 = .ok (.iconst (-1), 1) := by decide +kernel
theorem dX3_signHere_31 : decode cX3_signHere 31 = .ok (.ireturn, 1) := by decide +kernel
theorem dX3_fail_0 : decode cX3_fail 0 = .ok (.aload_n 0, 1) := by decide +kernel
theorem dX3_fail_1 : decode cX3_fail 1 = .ok (.iload_n 1, 1) := by decide +kernel
theorem dX3_fail_2 : decode cX3_fail 2 = .ok (.putfield 29, 3) := by decide +kernel
theorem dX3_fail_5 : decode cX3_fail 5 = .ok (.aload_n 0, 1) := by decide +kernel
theorem dX3_fail_6 : decode cX3_fail 6 = .ok (.iload_n 2, 1) := by decide +kernel
theorem dX3_fail_7 : decode cX3_fail 7 = .ok (.putfield 32, 3) := by decide +kernel
theorem dX3_fail_10 : decode cX3_fail 10 = .ok (.iconst 0, 1) := by decide +kernel
theorem dX3_fail_11 : decode cX3_fail 11 = .ok (.ireturn, 1) := by decide +kernel
theorem dX1_isFull_0 : decode cX1_isFull 0 = .ok (.aload_n 0, 1) := by decide +kernel
theorem dX1_isFull_1 : decode cX1_isFull 1 = .ok (.getfield 21, 3) := by decide +kernel
theorem dX1_isFull_4 : decode cX1_isFull 4 = .ok (.bipush 50, 2) := by decide +kernel
theorem dX1_isFull_6 : decode cX1_isFull 6 = .ok (.if_icmp .lt 7, 3) := by decide +kernel
theorem dX1_isFull_9 : decode cX1_isFull 9 = .ok (.iconst 1, 1) := by decide +kernel
theorem dX1_isFull_10 : decode cX1_isFull 10 = .ok (.goto 4, 3) := by decide +kernel
theorem dX1_isFull_13 : decode cX1_isFull 13 = .ok (.iconst 0, 1) := by decide +kernel
theorem dX1_isFull_14 : decode cX1_isFull 14 = .ok (.ireturn, 1) := by decide +kernel
theorem dX3_readName_0 : decode cX3_readName 0 = .ok (.aload_n 0, 1) := by decide +kernel
theorem dX3_readName_1 : decode cX3_readName 1 = .ok (.getfield 26, 3) := by decide +kernel
theorem dX3_readName_4 : decode cX3_readName 4 = .ok (.istore_n 2, 1) := by decide +kernel
theorem dX3_readName_5 : decode cX3_readName 5 = .ok (.aload_n 0, 1) := by decide +kernel
theorem dX3_readName_6 : decode cX3_readName 6 = .ok (.invokevirtual 68, 3) := by decide +kernel
theorem dX3_readName_9 : decode cX3_readName 9 = .ok (.istore_n 3, 1) := by decide +kernel
theorem dX3_readName_10 : decode cX3_readName 10 = .ok (.iload_n 3, 1) := by decide +kernel
theorem dX3_readName_11 : decode cX3_readName 11 = .ok (.iconst (-1), 1) := by decide +kernel
theorem dX3_readName_12 : decode cX3_readName 12 = .ok (.if_icmp .ne 13, 3) := by decide +kernel
theorem dX3_readName_15 : decode cX3_readName 15 = .ok (.aload_n 0, 1) := by decide +kernel
theorem dX3_readName_16 : decode cX3_readName 16 = .ok (.iconst 1, 1) := by decide +kernel
theorem dX3_readName_17 : decode cX3_readName 17 = .ok (.aload_n 0, 1) := by decide +kernel
theorem dX3_readName_18 : decode cX3_readName 18 = .ok (.getfield 26, 3) := by decide +kernel
theorem dX3_readName_21 : decode cX3_readName 21 = .ok (.invokevirtual 46, 3) := by decide +kernel
theorem dX3_readName_24 : decode cX3_readName 24 = .ok (.ireturn, 1) := by decide +kernel
theorem dX3_readName_25 : decode cX3_readName 25 = .ok (.aload_n 0, 1) := by decide +kernel
theorem dX3_readName_26 : decode cX3_readName 26 = .ok (.getfield 18, 3) := by decide +kernel
theorem dX3_readName_29 : decode cX3_readName 29 = .ok (.iload_n 1, 1) := by decide +kernel
theorem dX3_readName_30 : decode cX3_readName 30 = .ok (.iload_n 3, 1) := by decide +kernel
theorem dX3_readName_31 : decode cX3_readName 31 = .ok (.invokevirtual 71, 3) := by decide +kernel
theorem dX3_readName_34 : decode cX3_readName 34 = .ok (.iconst (-1), 1) := by decide +kernel
theorem dX3_readName_35 : decode cX3_readName 35 = .ok (.if_icmp .eq 10, 3) := by decide +kernel
theorem dX3_readName_38 : decode cX3_readName 38 = .ok (.aload_n 0, 1) := by decide +kernel
theorem dX3_readName_39 : decode cX3_readName 39 = .ok (.iconst 2, 1) := by decide +kernel
theorem dX3_readName_40 : decode cX3_readName 40 = .ok (.iload_n 2, 1) := by decide +kernel
theorem dX3_readName_41 : decode cX3_readName 41 = .ok (.invokevirtual 46, 3) := by decide +kernel
theorem dX3_readName_44 : decode cX3_readName 44 = .ok (.ireturn, 1) := by decide +kernel
theorem dX3_readName_45 : decode cX3_readName 45 = .ok (.aload_n 0, 1) := by decide +kernel
theorem dX3_readName_46 : decode cX3_readName 46 = .ok (.getfield 18, 3) := by decide +kernel
theorem dX3_readName_49 : decode cX3_readName 49 = .ok (.iload_n 1, 1) := by decide +kernel
theorem dX3_readName_50 : decode cX3_readName 50 = .ok (.iload_n 3, 1) := by decide +kernel
theorem dX3_readName_51 : decode cX3_readName 51 = .ok (.invokevirtual 75, 3) := by decide +kernel
theorem dX3_readName_54 : decode cX3_readName 54 = .ok (.iconst 1, 1) := by decide +kernel
theorem dX3_readName_55 : decode cX3_readName 55 = .ok (.ireturn, 1) := by decide +kernel
theorem dX3_readDigits_0 : decode cX3_readDigits 0 = .ok (.aload_n 0, 1) := by decide +kernel
theorem dX3_readDigits_1 : decode cX3_readDigits 1 = .ok (.invokevirtual 109, 3) := by decide +kernel
theorem dX3_readDigits_4 : decode cX3_readDigits 4 = .ok (.istore_n 1, 1) := by decide +kernel
theorem dX3_readDigits_5 : decode cX3_readDigits 5 = .ok (.iload_n 1, 1) := by decide +kernel
theorem dX3_readDigits_6 : decode cX3_readDigits 6 = .ok (.iconst (-1), 1) := by decide +kernel
theorem dX3_readDigits_7 : decode cX3_readDigits 7 = .ok (.if_icmp .ne 5, 3) := by decide +kernel
theorem dX3_readDigits_10 : decode cX3_readDigits 10 = .ok (.iconst (-1), 1) := by decide +kernel
theorem dX3_readDigits_11 : decode cX3_readDigits 11 = .ok (.ireturn, 1) := by decide +kernel
theorem dX3_readDigits_12 : decode cX3_readDigits 12 = .ok (.aload_n 0, 1) := by decide +kernel
theorem dX3_readDigits_13 : decode cX3_readDigits 13 = .ok (.dup, 1) := by decide +kernel
theorem dX3_readDigits_14 : decode cX3_readDigits 14 = .ok (.getfield 26, 3) := by decide +kernel
theorem dX3_readDigits_17 : decode cX3_readDigits 17 = .ok (.iconst 1, 1) := by decide +kernel
theorem dX3_readDigits_18 : decode cX3_readDigits 18 = .ok (.iadd, 1) := by decide +kernel
theorem dX3_readDigits_19 : decode cX3_readDigits 19 = .ok (.putfield 26, 3) := by decide +kernel
theorem dX3_readDigits_22 : decode cX3_readDigits 22 = .ok (.aload_n 0, 1) := by decide +kernel
theorem dX3_readDigits_23 : decode cX3_readDigits 23 = .ok (.invokevirtual 109, 3) := by decide +kernel
theorem dX3_readDigits_26 : decode cX3_readDigits 26 = .ok (.istore_n 2, 1) := by decide +kernel
theorem dX3_readDigits_27 : decode cX3_readDigits 27 = .ok (.iload_n 2, 1) := by decide +kernel
theorem dX3_readDigits_28 : decode cX3_readDigits 28 = .ok (.iconst (-1), 1) := by decide +kernel
theorem dX3_readDigits_29 : decode cX3_readDigits 29 = .ok (.if_icmp .ne 5, 3) := by decide +kernel
theorem dX3_readDigits_32 : decode cX3_readDigits 32 = .ok (.iload_n 1, 1) := by decide +kernel
theorem dX3_readDigits_33 : decode cX3_readDigits 33 = .ok (.ireturn, 1) := by decide +kernel
theorem dX3_readDigits_34 : decode cX3_readDigits 34 = .ok (.aload_n 0, 1) := by decide +kernel
theorem dX3_readDigits_35 : decode cX3_readDigits 35 = .ok (.dup, 1) := by decide +kernel
theorem dX3_readDigits_36 : decode cX3_readDigits 36 = .ok (.getfield 26, 3) := by decide +kernel
theorem dX3_readDigits_39 : decode cX3_readDigits 39 = .ok (.iconst 1, 1) := by decide +kernel
theorem dX3_readDigits_40 : decode cX3_readDigits 40 = .ok (.iadd, 1) := by decide +kernel
theorem dX3_readDigits_41 : decode cX3_readDigits 41 = .ok (.putfield 26, 3) := by decide +kernel
theorem dX3_readDigits_44 : decode cX3_readDigits 44 = .ok (.bipush 10, 2) := by decide +kernel
theorem dX3_readDigits_46 : decode cX3_readDigits 46 = .ok (.iload_n 1, 1) := by decide +kernel
theorem dX3_readDigits_47 : decode cX3_readDigits 47 = .ok (.imul, 1) := by decide +kernel
theorem dX3_readDigits_48 : decode cX3_readDigits 48 = .ok (.iload_n 2, 1) := by decide +kernel
theorem dX3_readDigits_49 : decode cX3_readDigits 49 = .ok (.iadd, 1) := by decide +kernel
theorem dX3_readDigits_50 : decode cX3_readDigits 50 = .ok (.ireturn, 1) := by decide +kernel
theorem dX3_digitHere_0 : decode cX3_digitHere 0 = .ok (.aload_n 0, 1) := by decide +kernel
theorem dX3_digitHere_1 : decode cX3_digitHere 1 = .ok (.invokevirtual 106, 3) := by decide +kernel
theorem dX3_digitHere_4 : decode cX3_digitHere 4 = .ok (.istore_n 1, 1) := by decide +kernel
theorem dX3_digitHere_5 : decode cX3_digitHere 5 = .ok (.iload_n 1, 1) := by decide +kernel
theorem dX3_digitHere_6 : decode cX3_digitHere 6 = .ok (.bipush 48, 2) := by decide +kernel
theorem dX3_digitHere_8 : decode cX3_digitHere 8 = .ok (.if_icmp .lt 16, 3) := by decide +kernel
theorem dX3_digitHere_11 : decode cX3_digitHere 11 = .ok (.iload_n 1, 1) := by decide +kernel
theorem dX3_digitHere_12 : decode cX3_digitHere 12 = .ok (.bipush 57, 2) := by decide +kernel
theorem dX3_digitHere_14 : decode cX3_digitHere 14 = .ok (.if_icmp .gt 10, 3) := by decide +kernel
theorem dX3_digitHere_17 : decode cX3_digitHere 17 = .ok (.iload_n 1, 1) := by decide +kernel
theorem dX3_digitHere_18 : decode cX3_digitHere 18 = .ok (.bipush 48, 2) := by decide +kernel
theorem dX3_digitHere_20 : decode cX3_digitHere 20 = .ok (.isub, 1) := by decide +kernel
theorem dX3_digitHere_21 : decode cX3_digitHere 21 = .ok (.goto 4, 3) := by decide +kernel
theorem dX3_digitHere_24 : decode cX3_digitHere 24 = .ok (.iconst (-1), 1) := by decide +kernel
theorem dX3_digitHere_25 : decode cX3_digitHere 25 = .ok (.ireturn, 1) := by decide +kernel
theorem dX1_begin_0 : decode cX1_begin 0 = .ok (.aload_n 0, 1) := by decide +kernel
theorem dX1_begin_1 : decode cX1_begin 1 = .ok (.invokevirtual 25, 3) := by decide +kernel
theorem dX1_begin_4 : decode cX1_begin 4 = .ok (.ifCond .ne 33, 3) := by decide +kernel
theorem dX1_begin_7 : decode cX1_begin 7 = .ok (.aload_n 0, 1) := by decide +kernel
theorem dX1_begin_8 : decode cX1_begin 8 = .ok (.getfield 9, 3) := by decide +kernel
theorem dX1_begin_11 : decode cX1_begin 11 = .ok (.aload_n 0, 1) := by decide +kernel
theorem dX1_begin_12 : decode cX1_begin 12 = .ok (.getfield 21, 3) := by decide +kernel
theorem dX1_begin_15 : decode cX1_begin 15 = .ok (.iload_n 1, 1) := by decide +kernel
theorem dX1_begin_16 : decode cX1_begin 16 = .ok (.iastore, 1) := by decide +kernel
theorem dX1_begin_17 : decode cX1_begin 17 = .ok (.aload_n 0, 1) := by decide +kernel
theorem dX1_begin_18 : decode cX1_begin 18 = .ok (.getfield 15, 3) := by decide +kernel
theorem dX1_begin_21 : decode cX1_begin 21 = .ok (.aload_n 0, 1) := by decide +kernel
theorem dX1_begin_22 : decode cX1_begin 22 = .ok (.getfield 21, 3) := by decide +kernel
theorem dX1_begin_25 : decode cX1_begin 25 = .ok (.iload_n 2, 1) := by decide +kernel
theorem dX1_begin_26 : decode cX1_begin 26 = .ok (.iastore, 1) := by decide +kernel
theorem dX1_begin_27 : decode cX1_begin 27 = .ok (.aload_n 0, 1) := by decide +kernel
theorem dX1_begin_28 : decode cX1_begin 28 = .ok (.dup, 1) := by decide +kernel
theorem dX1_begin_29 : decode cX1_begin 29 = .ok (.getfield 21, 3) := by decide +kernel
theorem dX1_begin_32 : decode cX1_begin 32 = .ok (.iconst 1, 1) := by decide +kernel
theorem dX1_begin_33 : decode cX1_begin 33 = .ok (.iadd, 1) := by decide +kernel
theorem dX1_begin_34 : decode cX1_begin 34 = .ok (.putfield 21, 3) := by decide +kernel
theorem dX1_begin_37 : decode cX1_begin 37 = .ok (.return_, 1) := by decide +kernel
theorem dX3_readSign_0 : decode cX3_readSign 0 = .ok (.aload_n 0, 1) := by decide +kernel
theorem dX3_readSign_1 : decode cX3_readSign 1 = .ok (.invokevirtual 106, 3) := by decide +kernel
theorem dX3_readSign_4 : decode cX3_readSign 4 = .ok (.iload_n 1, 1) := by decide +kernel
theorem dX3_readSign_5 : decode cX3_readSign 5 = .ok (.if_icmp .eq 13, 3) := by decide +kernel
theorem dX3_readSign_8 : decode cX3_readSign 8 = .ok (.aload_n 0, 1) := by decide +kernel
theorem dX3_readSign_9 : decode cX3_readSign 9 = .ok (.iconst 1, 1) := by decide +kernel
theorem dX3_readSign_10 : decode cX3_readSign 10 = .ok (.aload_n 0, 1) := by decide +kernel
theorem dX3_readSign_11 : decode cX3_readSign 11 = .ok (.getfield 26, 3) := by decide +kernel
theorem dX3_readSign_14 : decode cX3_readSign 14 = .ok (.invokevirtual 46, 3) := by decide +kernel
theorem dX3_readSign_17 : decode cX3_readSign 17 = .ok (.ireturn, 1) := by decide +kernel
theorem dX3_readSign_18 : decode cX3_readSign 18 = .ok (.aload_n 0, 1) := by decide +kernel
theorem dX3_readSign_19 : decode cX3_readSign 19 = .ok (.dup, 1) := by decide +kernel
theorem dX3_readSign_20 : decode cX3_readSign 20 = .ok (.getfield 26, 3) := by decide +kernel
theorem dX3_readSign_23 : decode cX3_readSign 23 = .ok (.iconst 1, 1) := by decide +kernel
theorem dX3_readSign_24 : decode cX3_readSign 24 = .ok (.iadd, 1) := by decide +kernel
theorem dX3_readSign_25 : decode cX3_readSign 25 = .ok (.putfield 26, 3) := by decide +kernel
theorem dX3_readSign_28 : decode cX3_readSign 28 = .ok (.iconst 1, 1) := by decide +kernel
theorem dX3_readSign_29 : decode cX3_readSign 29 = .ok (.ireturn, 1) := by decide +kernel
theorem dX3_readNumber_0 : decode cX3_readNumber 0 = .ok (.aload_n 0, 1) := by decide +kernel
theorem dX3_readNumber_1 : decode cX3_readNumber 1 = .ok (.getfield 26, 3) := by decide +kernel
theorem dX3_readNumber_4 : decode cX3_readNumber 4 = .ok (.istore_n 3, 1) := by decide +kernel
theorem dX3_readNumber_5 : decode cX3_readNumber 5 = .ok (.aload_n 0, 1) := by decide +kernel
theorem dX3_readNumber_6 : decode cX3_readNumber 6 = .ok (.invokevirtual 68, 3) := by decide +kernel
theorem dX3_readNumber_9 : decode cX3_readNumber 9 = .ok (.istore 4, 2) := by decide +kernel
theorem dX3_readNumber_11 : decode cX3_readNumber 11 = .ok (.iload 4, 2) := by decide +kernel
theorem dX3_readNumber_13 : decode cX3_readNumber 13 = .ok (.iconst (-1), 1) := by decide +kernel
theorem dX3_readNumber_14 : decode cX3_readNumber 14 = .ok (.if_icmp .ne 13, 3) := by decide +kernel
theorem dX3_readNumber_17 : decode cX3_readNumber 17 = .ok (.aload_n 0, 1) := by decide +kernel
theorem dX3_readNumber_18 : decode cX3_readNumber 18 = .ok (.iconst 1, 1) := by decide +kernel
theorem dX3_readNumber_19 : decode cX3_readNumber 19 = .ok (.aload_n 0, 1) := by decide +kernel
theorem dX3_readNumber_20 : decode cX3_readNumber 20 = .ok (.getfield 26, 3) := by decide +kernel
theorem dX3_readNumber_23 : decode cX3_readNumber 23 = .ok (.invokevirtual 46, 3) := by decide +kernel
theorem dX3_readNumber_26 : decode cX3_readNumber 26 = .ok (.ireturn, 1) := by decide +kernel
theorem dX3_readNumber_27 : decode cX3_readNumber 27 = .ok (.aload_n 0, 1) := by decide +kernel
theorem dX3_readNumber_28 : decode cX3_readNumber 28 = .ok (.iload_n 1, 1) := by decide +kernel
theorem dX3_readNumber_29 : decode cX3_readNumber 29 = .ok (.iload_n 2, 1) := by decide +kernel
theorem dX3_readNumber_30 : decode cX3_readNumber 30 = .ok (.iload 4, 2) := by decide +kernel
theorem dX3_readNumber_32 : decode cX3_readNumber 32 = .ok (.invokevirtual 79, 3) := by decide +kernel
theorem dX3_readNumber_35 : decode cX3_readNumber 35 = .ok (.istore 5, 2) := by decide +kernel
theorem dX3_readNumber_37 : decode cX3_readNumber 37 = .ok (.iload 5, 2) := by decide +kernel
theorem dX3_readNumber_39 : decode cX3_readNumber 39 = .ok (.ifCond .eq 11, 3) := by decide +kernel
theorem dX3_readNumber_42 : decode cX3_readNumber 42 = .ok (.aload_n 0, 1) := by decide +kernel
theorem dX3_readNumber_43 : decode cX3_readNumber 43 = .ok (.iload 5, 2) := by decide +kernel
theorem dX3_readNumber_45 : decode cX3_readNumber 45 = .ok (.iload_n 3, 1) := by decide +kernel
theorem dX3_readNumber_46 : decode cX3_readNumber 46 = .ok (.invokevirtual 46, 3) := by decide +kernel
theorem dX3_readNumber_49 : decode cX3_readNumber 49 = .ok (.ireturn, 1) := by decide +kernel
theorem dX3_readNumber_50 : decode cX3_readNumber 50 = .ok (.aload_n 0, 1) := by decide +kernel
theorem dX3_readNumber_51 : decode cX3_readNumber 51 = .ok (.getfield 18, 3) := by decide +kernel
theorem dX3_readNumber_54 : decode cX3_readNumber 54 = .ok (.iload_n 2, 1) := by decide +kernel
theorem dX3_readNumber_55 : decode cX3_readNumber 55 = .ok (.iload 4, 2) := by decide +kernel
theorem dX3_readNumber_57 : decode cX3_readNumber 57 = .ok (.invokevirtual 83, 3) := by decide +kernel
theorem dX3_readNumber_60 : decode cX3_readNumber 60 = .ok (.iconst 1, 1) := by decide +kernel
theorem dX3_readNumber_61 : decode cX3_readNumber 61 = .ok (.ireturn, 1) := by decide +kernel
theorem dX3_judgeNumber_0 : decode cX3_judgeNumber 0 = .ok (.iload_n 1, 1) := by decide +kernel
theorem dX3_judgeNumber_1 : decode cX3_judgeNumber 1 = .ok (.iload_n 2, 1) := by decide +kernel
theorem dX3_judgeNumber_2 : decode cX3_judgeNumber 2 = .ok (.iload_n 3, 1) := by decide +kernel
theorem dX3_judgeNumber_3 : decode cX3_judgeNumber 3 = .ok (.invokestatic 86, 3) := by decide +kernel
theorem dX3_judgeNumber_6 : decode cX3_judgeNumber 6 = .ok (.ifCond .ne 5, 3) := by decide +kernel
theorem dX3_judgeNumber_9 : decode cX3_judgeNumber 9 = .ok (.iconst 3, 1) := by decide +kernel
theorem dX3_judgeNumber_10 : decode cX3_judgeNumber 10 = .ok (.ireturn, 1) := by decide +kernel
theorem dX3_judgeNumber_11 : decode cX3_judgeNumber 11 = .ok (.iload_n 1, 1) := by decide +kernel
theorem dX3_judgeNumber_12 : decode cX3_judgeNumber 12 = .ok (.ifCond .eq 8, 3) := by decide +kernel
theorem dX3_judgeNumber_15 : decode cX3_judgeNumber 15 = .ok (.iload_n 1, 1) := by decide +kernel
theorem dX3_judgeNumber_16 : decode cX3_judgeNumber 16 = .ok (.iconst 4, 1) := by decide +kernel
theorem dX3_judgeNumber_17 : decode cX3_judgeNumber 17 = .ok (.if_icmp .ne 31, 3) := by decide +kernel
theorem dX3_judgeNumber_20 : decode cX3_judgeNumber 20 = .ok (.iload_n 2, 1) := by decide +kernel
theorem dX3_judgeNumber_21 : decode cX3_judgeNumber 21 = .ok (.iconst 1, 1) := by decide +kernel
theorem dX3_judgeNumber_22 : decode cX3_judgeNumber 22 = .ok (.if_icmp .ne 26, 3) := by decide +kernel
theorem dX3_judgeNumber_25 : decode cX3_judgeNumber 25 = .ok (.iload_n 3, 1) := by decide +kernel
theorem dX3_judgeNumber_26 : decode cX3_judgeNumber 26 = .ok (.aload_n 0, 1) := by decide +kernel
theorem dX3_judgeNumber_27 : decode cX3_judgeNumber 27 = .ok (.getfield 18, 3) := by decide +kernel
theorem dX3_judgeNumber_30 : decode cX3_judgeNumber 30 = .ok (.aload_n 0, 1) := by decide +kernel
theorem dX3_judgeNumber_31 : decode cX3_judgeNumber 31 = .ok (.getfield 18, 3) := by decide +kernel
theorem dX3_judgeNumber_34 : decode cX3_judgeNumber 34 = .ok (.invokevirtual 90, 3) := by decide +kernel
theorem dX3_judgeNumber_37 : decode cX3_judgeNumber 37 = .ok (.iconst 1, 1) := by decide +kernel
theorem dX3_judgeNumber_38 : decode cX3_judgeNumber 38 = .ok (.isub, 1) := by decide +kernel
theorem dX3_judgeNumber_39 : decode cX3_judgeNumber 39 = .ok (.iconst 0, 1) := by decide +kernel
theorem dX3_judgeNumber_40 : decode cX3_judgeNumber 40 = .ok (.invokevirtual 93, 3) := by decide +kernel
theorem dX3_judgeNumber_43 : decode cX3_judgeNumber 43 = .ok (.if_icmp .ne 5, 3) := by decide +kernel
theorem dX3_judgeNumber_46 : decode cX3_judgeNumber 46 = .ok (.iconst 3, 1) := by decide +kernel
theorem dX3_judgeNumber_47 : decode cX3_judgeNumber 47 = .ok (.ireturn, 1) := by decide +kernel
theorem dX3_judgeNumber_48 : decode cX3_judgeNumber 48 = .ok (.iload_n 1, 1) := by decide +kernel
theorem dX3_judgeNumber_49 : decode cX3_judgeNumber 49 = .ok (.iconst 1, 1) := by decide +kernel
theorem dX3_judgeNumber_50 : decode cX3_judgeNumber 50 = .ok (.if_icmp .ne 14, 3) := by decide +kernel
theorem dX3_judgeNumber_53 : decode cX3_judgeNumber 53 = .ok (.iload_n 2, 1) := by decide +kernel
theorem dX3_judgeNumber_54 : decode cX3_judgeNumber 54 = .ok (.iconst 1, 1) := by decide +kernel
theorem dX3_judgeNumber_55 : decode cX3_judgeNumber 55 = .ok (.if_icmp .ne 9, 3) := by decide +kernel
theorem dX3_judgeNumber_58 : decode cX3_judgeNumber 58 = .ok (.iload_n 3, 1) := by decide +kernel
theorem dX3_judgeNumber_59 : decode cX3_judgeNumber 59 = .ok (.ifCond .ne 5, 3) := by decide +kernel
theorem dX3_judgeNumber_62 : decode cX3_judgeNumber 62 = .ok (.iconst 4, 1) := by decide +kernel
theorem dX3_judgeNumber_63 : decode cX3_judgeNumber 63 = .ok (.ireturn, 1) := by decide +kernel
theorem dX3_judgeNumber_64 : decode cX3_judgeNumber 64 = .ok (.iconst 0, 1) := by decide +kernel
theorem dX3_judgeNumber_65 : decode cX3_judgeNumber 65 = .ok (.ireturn, 1) := by decide +kernel
theorem dX3_isInRange_0 : decode cX3_isInRange 0 = .ok (.iload_n 0, 1) := by decide +kernel
theorem dX3_isInRange_1 : decode cX3_isInRange 1 = .ok (.invokestatic 96, 3) := by decide +kernel
theorem dX3_isInRange_4 : decode cX3_isInRange 4 = .ok (.ifCond .eq 12, 3) := by decide +kernel
theorem dX3_isInRange_7 : decode cX3_isInRange 7 = .ok (.iload_n 1, 1) := by decide +kernel
theorem dX3_isInRange_8 : decode cX3_isInRange 8 = .ok (.ifCond .lt 8, 3) := by decide +kernel
theorem dX3_isInRange_11 : decode cX3_isInRange 11 = .ok (.iload_n 1, 1) := by decide +kernel
theorem dX3_isInRange_12 : decode cX3_isInRange 12 = .ok (.iconst 4, 1) := by decide +kernel
theorem dX3_isInRange_13 : decode cX3_isInRange 13 = .ok (.if_icmp .lt 5, 3) := by decide +kernel
theorem dX3_isInRange_16 : decode cX3_isInRange 16 = .ok (.iconst 0, 1) := by decide +kernel
theorem dX3_isInRange_17 : decode cX3_isInRange 17 = .ok (.ireturn, 1) := by decide +kernel
theorem dX3_isInRange_18 : decode cX3_isInRange 18 = .ok (.iload_n 0, 1) := by decide +kernel
theorem dX3_isInRange_19 : decode cX3_isInRange 19 = .ok (.iconst 4, 1) := by decide +kernel
theorem dX3_isInRange_20 : decode cX3_isInRange 20 = .ok (.imul, 1) := by decide +kernel
theorem dX3_isInRange_21 : decode cX3_isInRange 21 = .ok (.iload_n 1, 1) := by decide +kernel
theorem dX3_isInRange_22 : decode cX3_isInRange 22 = .ok (.iadd, 1) := by decide +kernel
theorem dX3_isInRange_23 : decode cX3_isInRange 23 = .ok (.istore_n 3, 1) := by decide +kernel
theorem dX3_isInRange_24 : decode cX3_isInRange 24 = .ok (.iload_n 2, 1) := by decide +kernel
theorem dX3_isInRange_25 : decode cX3_isInRange 25 = .ok (.getstatic 99, 3) := by decide +kernel
theorem dX3_isInRange_28 : decode cX3_isInRange 28 = .ok (.iload_n 3, 1) := by decide +kernel
theorem dX3_isInRange_29 : decode cX3_isInRange 29 = .ok (.iaload, 1) := by decide +kernel
theorem dX3_isInRange_30 : decode cX3_isInRange 30 = .ok (.if_icmp .lt 16, 3) := by decide +kernel
theorem dX3_isInRange_33 : decode cX3_isInRange 33 = .ok (.iload_n 2, 1) := by decide +kernel
theorem dX3_isInRange_34 : decode cX3_isInRange 34 = .ok (.getstatic 103, 3) := by decide +kernel
theorem dX3_isInRange_37 : decode cX3_isInRange 37 = .ok (.iload_n 3, 1) := by decide +kernel
theorem dX3_isInRange_38 : decode cX3_isInRange 38 = .ok (.iaload, 1) := by decide +kernel
theorem dX3_isInRange_39 : decode cX3_isInRange 39 = .ok (.if_icmp .gt 7, 3) := by decide +kernel
theorem dX3_isInRange_42 : decode cX3_isInRange 42 = .ok (.iconst 1, 1) := by decide +kernel
theorem dX3_isInRange_43 : decode cX3_isInRange 43 = .ok (.goto 4, 3) := by decide +kernel
theorem dX3_isInRange_46 : decode cX3_isInRange 46 = .ok (.iconst 0, 1) := by decide +kernel
theorem dX3_isInRange_47 : decode cX3_isInRange 47 = .ok (.ireturn, 1) := by decide +kernel
theorem dX1_setNumber_0 : decode cX1_setNumber 0 = .ok (.aload_n 0, 1) := by decide +kernel
theorem dX1_setNumber_1 : decode cX1_setNumber 1 = .ok (.getfield 21, 3) := by decide +kernel
theorem dX1_setNumber_4 : decode cX1_setNumber 4 = .ok (.ifCond .le 28, 3) := by decide +kernel
theorem dX1_setNumber_7 : decode cX1_setNumber 7 = .ok (.iload_n 1, 1) := by decide +kernel
theorem dX1_setNumber_8 : decode cX1_setNumber 8 = .ok (.ifCond .lt 24, 3) := by decide +kernel
theorem dX1_setNumber_11 : decode cX1_setNumber 11 = .ok (.iload_n 1, 1) := by decide +kernel
theorem dX1_setNumber_12 : decode cX1_setNumber 12 = .ok (.iconst 4, 1) := by decide +kernel
theorem dX1_setNumber_13 : decode cX1_setNumber 13 = .ok (.if_icmp .ge 19, 3) := by decide +kernel
theorem dX1_setNumber_16 : decode cX1_setNumber 16 = .ok (.aload_n 0, 1) := by decide +kernel
theorem dX1_setNumber_17 : decode cX1_setNumber 17 = .ok (.getfield 18, 3) := by decide +kernel
theorem dX1_setNumber_20 : decode cX1_setNumber 20 = .ok (.aload_n 0, 1) := by decide +kernel
theorem dX1_setNumber_21 : decode cX1_setNumber 21 = .ok (.getfield 21, 3) := by decide +kernel
theorem dX1_setNumber_24 : decode cX1_setNumber 24 = .ok (.iconst 1, 1) := by decide +kernel
theorem dX1_setNumber_25 : decode cX1_setNumber 25 = .ok (.isub, 1) := by decide +kernel
theorem dX1_setNumber_26 : decode cX1_setNumber 26 = .ok (.iconst 4, 1) := by decide +kernel
theorem dX1_setNumber_27 : decode cX1_setNumber 27 = .ok (.imul, 1) := by decide +kernel
theorem dX1_setNumber_28 : decode cX1_setNumber 28 = .ok (.iload_n 1, 1) := by decide +kernel
theorem dX1_setNumber_29 : decode cX1_setNumber 29 = .ok (.iadd, 1) := by decide +kernel
theorem dX1_setNumber_30 : decode cX1_setNumber 30 = .ok (.iload_n 2, 1) := by decide +kernel
theorem dX1_setNumber_31 : decode cX1_setNumber 31 = .ok (.iastore, 1) := by decide +kernel
theorem dX1_setNumber_32 : decode cX1_setNumber 32 = .ok (.return_, 1) := by decide +kernel
theorem dX3_result_0 : decode cX3_result 0 = .ok (.aload_n 0, 1) := by decide +kernel
theorem dX3_result_1 : decode cX3_result 1 = .ok (.getfield 18, 3) := by decide +kernel
theorem dX3_result_4 : decode cX3_result 4 = .ok (.areturn, 1) := by decide +kernel
theorem dX0_judge_0 : decode cX0_judge 0 = .ok (.aload_n 0, 1) := by decide +kernel
theorem dX0_judge_1 : decode cX0_judge 1 = .ok (.iconst 0, 1) := by decide +kernel
theorem dX0_judge_2 : decode cX0_judge 2 = .ok (.putfield 15, 3) := by decide +kernel
theorem dX0_judge_5 : decode cX0_judge 5 = .ok (.aload_n 2, 1) := by decide +kernel
theorem dX0_judge_6 : decode cX0_judge 6 = .ok (.aload_n 1, 1) := by decide +kernel
theorem dX0_judge_7 : decode cX0_judge 7 = .ok (.iconst 0, 1) := by decide +kernel
theorem dX0_judge_8 : decode cX0_judge 8 = .ok (.iconst 0, 1) := by decide +kernel
theorem dX0_judge_9 : decode cX0_judge 9 = .ok (.invokevirtual 19, 3) := by decide +kernel
theorem dX0_judge_12 : decode cX0_judge 12 = .ok (.iconst 0, 1) := by decide +kernel
theorem dX0_judge_13 : decode cX0_judge 13 = .ok (.istore_n 3, 1) := by decide +kernel
theorem dX0_judge_14 : decode cX0_judge 14 = .ok (.iload_n 3, 1) := by decide +kernel
theorem dX0_judge_15 : decode cX0_judge 15 = .ok (.iconst 3, 1) := by decide +kernel
theorem dX0_judge_16 : decode cX0_judge 16 = .ok (.if_icmp .gt 16, 3) := by decide +kernel
theorem dX0_judge_19 : decode cX0_judge 19 = .ok (.aload_n 0, 1) := by decide +kernel
theorem dX0_judge_20 : decode cX0_judge 20 = .ok (.aload_n 1, 1) := by decide +kernel
theorem dX0_judge_21 : decode cX0_judge 21 = .ok (.aload_n 2, 1) := by decide +kernel
theorem dX0_judge_22 : decode cX0_judge 22 = .ok (.iload_n 3, 1) := by decide +kernel
theorem dX0_judge_23 : decode cX0_judge 23 = .ok (.invokevirtual 25, 3) := by decide +kernel
theorem dX0_judge_26 : decode cX0_judge 26 = .ok (.iinc 3 1, 3) := by decide +kernel
theorem dX0_judge_29 : decode cX0_judge 29 = .ok (.goto (-15), 3) := by decide +kernel
theorem dX0_judge_32 : decode cX0_judge 32 = .ok (.return_, 1) := by decide +kernel
theorem dX4_spread_0 : decode cX4_spread 0 = .ok (.iconst 0, 1) := by decide +kernel
theorem dX4_spread_1 : decode cX4_spread 1 = .ok (.istore 4, 2) := by decide +kernel
theorem dX4_spread_3 : decode cX4_spread 3 = .ok (.iload 4, 2) := by decide +kernel
theorem dX4_spread_5 : decode cX4_spread 5 = .ok (.bipush 16, 2) := by decide +kernel
theorem dX4_spread_7 : decode cX4_spread 7 = .ok (.if_icmp .ge 28, 3) := by decide +kernel
theorem dX4_spread_10 : decode cX4_spread 10 = .ok (.aload_n 0, 1) := by decide +kernel
theorem dX4_spread_11 : decode cX4_spread 11 = .ok (.getfield 9, 3) := by decide +kernel
theorem dX4_spread_14 : decode cX4_spread 14 = .ok (.iload 4, 2) := by decide +kernel
theorem dX4_spread_16 : decode cX4_spread 16 = .ok (.iload 4, 2) := by decide +kernel
theorem dX4_spread_18 : decode cX4_spread 18 = .ok (.iload_n 3, 1) := by decide +kernel
theorem dX4_spread_19 : decode cX4_spread 19 = .ok (.if_icmp .ne 8, 3) := by decide +kernel
theorem dX4_spread_22 : decode cX4_spread 22 = .ok (.bipush 99, 2) := by decide +kernel
theorem dX4_spread_24 : decode cX4_spread 24 = .ok (.goto 4, 3) := by decide +kernel
theorem dX4_spread_27 : decode cX4_spread 27 = .ok (.iconst 0, 1) := by decide +kernel
theorem dX4_spread_28 : decode cX4_spread 28 = .ok (.iastore, 1) := by decide +kernel
theorem dX4_spread_29 : decode cX4_spread 29 = .ok (.iinc 4 1, 3) := by decide +kernel
theorem dX4_spread_32 : decode cX4_spread 32 = .ok (.goto (-29), 3) := by decide +kernel
theorem dX4_spread_35 : decode cX4_spread 35 = .ok (.iconst 1, 1) := by decide +kernel
theorem dX4_spread_36 : decode cX4_spread 36 = .ok (.istore 4, 2) := by decide +kernel
theorem dX4_spread_38 : decode cX4_spread 38 = .ok (.iconst 0, 1) := by decide +kernel
theorem dX4_spread_39 : decode cX4_spread 39 = .ok (.istore 5, 2) := by decide +kernel
theorem dX4_spread_41 : decode cX4_spread 41 = .ok (.iload 5, 2) := by decide +kernel
theorem dX4_spread_43 : decode cX4_spread 43 = .ok (.bipush 16, 2) := by decide +kernel
theorem dX4_spread_45 : decode cX4_spread 45 = .ok (.if_icmp .ge 22, 3) := by decide +kernel
theorem dX4_spread_48 : decode cX4_spread 48 = .ok (.iload 4, 2) := by decide +kernel
theorem dX4_spread_50 : decode cX4_spread 50 = .ok (.ifCond .eq 17, 3) := by decide +kernel
theorem dX4_spread_53 : decode cX4_spread 53 = .ok (.aload_n 0, 1) := by decide +kernel
theorem dX4_spread_54 : decode cX4_spread 54 = .ok (.aload_n 1, 1) := by decide +kernel
theorem dX4_spread_55 : decode cX4_spread 55 = .ok (.iload_n 2, 1) := by decide +kernel
theorem dX4_spread_56 : decode cX4_spread 56 = .ok (.invokevirtual 19, 3) := by decide +kernel
theorem dX4_spread_59 : decode cX4_spread 59 = .ok (.istore 4, 2) := by decide +kernel
theorem dX4_spread_61 : decode cX4_spread 61 = .ok (.iinc 5 1, 3) := by decide +kernel
theorem dX4_spread_64 : decode cX4_spread 64 = .ok (.goto (-23), 3) := by decide +kernel
theorem dX4_spread_67 : decode cX4_spread 67 = .ok (.return_, 1) := by decide +kernel
theorem dX4_spreadOnce_0 : decode cX4_spreadOnce 0 = .ok (.iconst 0, 1) := by decide +kernel
theorem dX4_spreadOnce_1 : decode cX4_spreadOnce 1 = .ok (.istore_n 3, 1) := by decide +kernel
theorem dX4_spreadOnce_2 : decode cX4_spreadOnce 2 = .ok (.aload_n 1, 1) := by decide +kernel
theorem dX4_spreadOnce_3 : decode cX4_spreadOnce 3 = .ok (.invokevirtual 23, 3) := by decide +kernel
theorem dX4_spreadOnce_6 : decode cX4_spreadOnce 6 = .ok (.istore 4, 2) := by decide +kernel
theorem dX4_spreadOnce_8 : decode cX4_spreadOnce 8 = .ok (.iconst 0, 1) := by decide +kernel
theorem dX4_spreadOnce_9 : decode cX4_spreadOnce 9 = .ok (.istore 5, 2) := by decide +kernel
theorem dX4_spreadOnce_11 : decode cX4_spreadOnce 11 = .ok (.iload 5, 2) := by decide +kernel
theorem dX4_spreadOnce_13 : decode cX4_spreadOnce 13 = .ok (.iload 4, 2) := by decide +kernel
theorem dX4_spreadOnce_15 : decode cX4_spreadOnce 15 = .ok (.if_icmp .ge 31, 3) := by decide +kernel
theorem dX4_spreadOnce_18 : decode cX4_spreadOnce 18 = .ok (.aload_n 1, 1) := by decide +kernel
theorem dX4_spreadOnce_19 : decode cX4_spreadOnce 19 = .ok (.iload 5, 2) := by decide +kernel
theorem dX4_spreadOnce_21 : decode cX4_spreadOnce 21 = .ok (.invokevirtual 29, 3) := by decide +kernel
theorem dX4_spreadOnce_24 : decode cX4_spreadOnce 24 = .ok (.iload_n 2, 1) := by decide +kernel
theorem dX4_spreadOnce_25 : decode cX4_spreadOnce 25 = .ok (.if_icmp .ne 15, 3) := by decide +kernel
theorem dX4_spreadOnce_28 : decode cX4_spreadOnce 28 = .ok (.aload_n 0, 1) := by decide +kernel
theorem dX4_spreadOnce_29 : decode cX4_spreadOnce 29 = .ok (.aload_n 1, 1) := by decide +kernel
theorem dX4_spreadOnce_30 : decode cX4_spreadOnce 30 = .ok (.iload 5, 2) := by decide +kernel
theorem dX4_spreadOnce_32 : decode cX4_spreadOnce 32 = .ok (.invokevirtual 33, 3) := by decide +kernel
theorem dX4_spreadOnce_35 : decode cX4_spreadOnce 35 = .ok (.ifCond .eq 5, 3) := by decide +kernel
theorem dX4_spreadOnce_38 : decode cX4_spreadOnce 38 = .ok (.iconst 1, 1) := by decide +kernel
theorem dX4_spreadOnce_39 : decode cX4_spreadOnce 39 = .ok (.istore_n 3, 1) := by decide +kernel
theorem dX4_spreadOnce_40 : decode cX4_spreadOnce 40 = .ok (.iinc 5 1, 3) := by decide +kernel
theorem dX4_spreadOnce_43 : decode cX4_spreadOnce 43 = .ok (.goto (-32), 3) := by decide +kernel
theorem dX4_spreadOnce_46 : decode cX4_spreadOnce 46 = .ok (.iload_n 3, 1) := by decide +kernel
theorem dX4_spreadOnce_47 : decode cX4_spreadOnce 47 = .ok (.ireturn, 1) := by decide +kernel
theorem dX4_spreadAlong_0 : decode cX4_spreadAlong 0 = .ok (.aload_n 1, 1) := by decide +kernel
theorem dX4_spreadAlong_1 : decode cX4_spreadAlong 1 = .ok (.iload_n 2, 1) := by decide +kernel
theorem dX4_spreadAlong_2 : decode cX4_spreadAlong 2 = .ok (.iconst 0, 1) := by decide +kernel
theorem dX4_spreadAlong_3 : decode cX4_spreadAlong 3 = .ok (.invokevirtual 36, 3) := by decide +kernel
theorem dX4_spreadAlong_6 : decode cX4_spreadAlong 6 = .ok (.istore_n 3, 1) := by decide +kernel
theorem dX4_spreadAlong_7 : decode cX4_spreadAlong 7 = .ok (.aload_n 1, 1) := by decide +kernel
theorem dX4_spreadAlong_8 : decode cX4_spreadAlong 8 = .ok (.iload_n 2, 1) := by decide +kernel
theorem dX4_spreadAlong_9 : decode cX4_spreadAlong 9 = .ok (.iconst 1, 1) := by decide +kernel
theorem dX4_spreadAlong_10 : decode cX4_spreadAlong 10 = .ok (.invokevirtual 36, 3) := by decide +kernel
theorem dX4_spreadAlong_13 : decode cX4_spreadAlong 13 = .ok (.istore 4, 2) := by decide +kernel
theorem dX4_spreadAlong_15 : decode cX4_spreadAlong 15 = .ok (.aload_n 1, 1) := by decide +kernel
theorem dX4_spreadAlong_16 : decode cX4_spreadAlong 16 = .ok (.iload_n 2, 1) := by decide +kernel
theorem dX4_spreadAlong_17 : decode cX4_spreadAlong 17 = .ok (.invokevirtual 29, 3) := by decide +kernel
theorem dX4_spreadAlong_20 : decode cX4_spreadAlong 20 = .ok (.iconst 4, 1) := by decide +kernel
theorem dX4_spreadAlong_21 : decode cX4_spreadAlong 21 = .ok (.if_icmp .ne 13, 3) := by decide +kernel
theorem dX4_spreadAlong_24 : decode cX4_spreadAlong 24 = .ok (.aload_n 0, 1) := by decide +kernel
theorem dX4_spreadAlong_25 : decode cX4_spreadAlong 25 = .ok (.iload_n 3, 1) := by decide +kernel
theorem dX4_spreadAlong_26 : decode cX4_spreadAlong 26 = .ok (.iload 4, 2) := by decide +kernel
theorem dX4_spreadAlong_28 : decode cX4_spreadAlong 28 = .ok (.bipush 99, 2) := by decide +kernel
theorem dX4_spreadAlong_30 : decode cX4_spreadAlong 30 = .ok (.invokevirtual 40, 3) := by decide +kernel
theorem dX4_spreadAlong_33 : decode cX4_spreadAlong 33 = .ok (.ireturn, 1) := by decide +kernel
theorem dX4_spreadAlong_34 : decode cX4_spreadAlong 34 = .ok (.aload_n 1, 1) := by decide +kernel
theorem dX4_spreadAlong_35 : decode cX4_spreadAlong 35 = .ok (.iload_n 2, 1) := by decide +kernel
theorem dX4_spreadAlong_36 : decode cX4_spreadAlong 36 = .ok (.iconst 3, 1) := by decide +kernel
theorem dX4_spreadAlong_37 : decode cX4_spreadAlong 37 = .ok (.invokevirtual 36, 3) := by decide +kernel
theorem dX4_spreadAlong_40 : decode cX4_spreadAlong 40 = .ok (.istore 5, 2) := by decide +kernel
theorem dX4_spreadAlong_42 : decode cX4_spreadAlong 42 = .ok (.aload_n 0, 1) := by decide +kernel
theorem dX4_spreadAlong_43 : decode cX4_spreadAlong 43 = .ok (.iload_n 3, 1) := by decide +kernel
theorem dX4_spreadAlong_44 : decode cX4_spreadAlong 44 = .ok (.iload 4, 2) := by decide +kernel
theorem dX4_spreadAlong_46 : decode cX4_spreadAlong 46 = .ok (.iload 5, 2) := by decide +kernel
theorem dX4_spreadAlong_48 : decode cX4_spreadAlong 48 = .ok (.invokevirtual 40, 3) := by decide +kernel
theorem dX4_spreadAlong_51 : decode cX4_spreadAlong 51 = .ok (.ifCond .ne 15, 3) := by decide +kernel
theorem dX4_spreadAlong_54 : decode cX4_spreadAlong 54 = .ok (.aload_n 0, 1) := by decide +kernel
theorem dX4_spreadAlong_55 : decode cX4_spreadAlong 55 = .ok (.iload 4, 2) := by decide +kernel
theorem dX4_spreadAlong_57 : decode cX4_spreadAlong 57 = .ok (.iload_n 3, 1) := by decide +kernel
theorem dX4_spreadAlong_58 : decode cX4_spreadAlong 58 = .ok (.iload 5, 2) := by decide +kernel
theorem dX4_spreadAlong_60 : decode cX4_spreadAlong 60 = .ok (.invokevirtual 40, 3) := by decide +kernel
theorem dX4_spreadAlong_63 : decode cX4_spreadAlong 63 = .ok (.ifCond .eq 7, 3) := by decide +kernel
theorem dX4_spreadAlong_66 : decode cX4_spreadAlong 66 = .ok (.iconst 1, 1) := by decide +kernel
theorem dX4_spreadAlong_67 : decode cX4_spreadAlong 67 = .ok (.goto 4, 3) := by decide +kernel
theorem dX4_spreadAlong_70 : decode cX4_spreadAlong 70 = .ok (.iconst 0, 1) := by decide +kernel
theorem dX4_spreadAlong_71 : decode cX4_spreadAlong 71 = .ok (.ireturn, 1) := by decide +kernel
theorem dX4_deepen_0 : decode cX4_deepen 0 = .ok (.iload_n 1, 1) := by decide +kernel
theorem dX4_deepen_1 : decode cX4_deepen 1 = .ok (.invokestatic 15, 3) := by decide +kernel
theorem dX4_deepen_4 : decode cX4_deepen 4 = .ok (.ifCond .eq 10, 3) := by decide +kernel
theorem dX4_deepen_7 : decode cX4_deepen 7 = .ok (.iload_n 2, 1) := by decide +kernel
theorem dX4_deepen_8 : decode cX4_deepen 8 = .ok (.invokestatic 15, 3) := by decide +kernel
theorem dX4_deepen_11 : decode cX4_deepen 11 = .ok (.ifCond .ne 5, 3) := by decide +kernel
theorem dX4_deepen_14 : decode cX4_deepen 14 = .ok (.iconst 0, 1) := by decide +kernel
theorem dX4_deepen_15 : decode cX4_deepen 15 = .ok (.ireturn, 1) := by decide +kernel
theorem dX4_deepen_16 : decode cX4_deepen 16 = .ok (.aload_n 0, 1) := by decide +kernel
theorem dX4_deepen_17 : decode cX4_deepen 17 = .ok (.getfield 9, 3) := by decide +kernel
theorem dX4_deepen_20 : decode cX4_deepen 20 = .ok (.iload_n 1, 1) := by decide +kernel
theorem dX4_deepen_21 : decode cX4_deepen 21 = .ok (.iaload, 1) := by decide +kernel
theorem dX4_deepen_22 : decode cX4_deepen 22 = .ok (.iload_n 3, 1) := by decide +kernel
theorem dX4_deepen_23 : decode cX4_deepen 23 = .ok (.invokestatic 44, 3) := by decide +kernel
theorem dX4_deepen_26 : decode cX4_deepen 26 = .ok (.istore 4, 2) := by decide +kernel
theorem dX4_deepen_28 : decode cX4_deepen 28 = .ok (.iload 4, 2) := by decide +kernel
theorem dX4_deepen_30 : decode cX4_deepen 30 = .ok (.aload_n 0, 1) := by decide +kernel
theorem dX4_deepen_31 : decode cX4_deepen 31 = .ok (.getfield 9, 3) := by decide +kernel
theorem dX4_deepen_34 : decode cX4_deepen 34 = .ok (.iload_n 2, 1) := by decide +kernel
theorem dX4_deepen_35 : decode cX4_deepen 35 = .ok (.iaload, 1) := by decide +kernel
theorem dX4_deepen_36 : decode cX4_deepen 36 = .ok (.if_icmp .gt 5, 3) := by decide +kernel
theorem dX4_deepen_39 : decode cX4_deepen 39 = .ok (.iconst 0, 1) := by decide +kernel
theorem dX4_deepen_40 : decode cX4_deepen 40 = .ok (.ireturn, 1) := by decide +kernel
theorem dX4_deepen_41 : decode cX4_deepen 41 = .ok (.aload_n 0, 1) := by decide +kernel
theorem dX4_deepen_42 : decode cX4_deepen 42 = .ok (.getfield 9, 3) := by decide +kernel
theorem dX4_deepen_45 : decode cX4_deepen 45 = .ok (.iload_n 2, 1) := by decide +kernel
theorem dX4_deepen_46 : decode cX4_deepen 46 = .ok (.iload 4, 2) := by decide +kernel
theorem dX4_deepen_48 : decode cX4_deepen 48 = .ok (.iastore, 1) := by decide +kernel
theorem dX4_deepen_49 : decode cX4_deepen 49 = .ok (.iconst 1, 1) := by decide +kernel
theorem dX4_deepen_50 : decode cX4_deepen 50 = .ok (.ireturn, 1) := by decide +kernel
theorem dX5_isPoint_0 : decode cX5_isPoint 0 = .ok (.iload_n 0, 1) := by decide +kernel
theorem dX5_isPoint_1 : decode cX5_isPoint 1 = .ok (.ifCond .lt 13, 3) := by decide +kernel
theorem dX5_isPoint_4 : decode cX5_isPoint 4 = .ok (.iload_n 0, 1) := by decide +kernel
theorem dX5_isPoint_5 : decode cX5_isPoint 5 = .ok (.bipush 16, 2) := by decide +kernel
theorem dX5_isPoint_7 : decode cX5_isPoint 7 = .ok (.if_icmp .ge 7, 3) := by decide +kernel
theorem dX5_isPoint_10 : decode cX5_isPoint 10 = .ok (.iconst 1, 1) := by decide +kernel
theorem dX5_isPoint_11 : decode cX5_isPoint 11 = .ok (.goto 4, 3) := by decide +kernel
theorem dX5_isPoint_14 : decode cX5_isPoint 14 = .ok (.iconst 0, 1) := by decide +kernel
theorem dX5_isPoint_15 : decode cX5_isPoint 15 = .ok (.ireturn, 1) := by decide +kernel
theorem dX0_addAll_0 : decode cX0_addAll 0 = .ok (.aload_n 1, 1) := by decide +kernel
theorem dX0_addAll_1 : decode cX0_addAll 1 = .ok (.invokevirtual 29, 3) := by decide +kernel
theorem dX0_addAll_4 : decode cX0_addAll 4 = .ok (.istore 4, 2) := by decide +kernel
theorem dX0_addAll_6 : decode cX0_addAll 6 = .ok (.iconst 0, 1) := by decide +kernel
theorem dX0_addAll_7 : decode cX0_addAll 7 = .ok (.istore 5, 2) := by decide +kernel
theorem dX0_addAll_9 : decode cX0_addAll 9 = .ok (.iload 5, 2) := by decide +kernel
theorem dX0_addAll_11 : decode cX0_addAll 11 = .ok (.iload 4, 2) := by decide +kernel
theorem dX0_addAll_13 : decode cX0_addAll 13 = .ok (.if_icmp .ge 58, 3) := by decide +kernel
theorem dX0_addAll_16 : decode cX0_addAll 16 = .ok (.aload_n 0, 1) := by decide +kernel
theorem dX0_addAll_17 : decode cX0_addAll 17 = .ok (.getfield 15, 3) := by decide +kernel
theorem dX0_addAll_20 : decode cX0_addAll 20 = .ok (.aload_n 0, 1) := by decide +kernel
theorem dX0_addAll_21 : decode cX0_addAll 21 = .ok (.getfield 9, 3) := by decide +kernel
theorem dX0_addAll_24 : decode cX0_addAll 24 = .ok (.arraylength, 1) := by decide +kernel
theorem dX0_addAll_25 : decode cX0_addAll 25 = .ok (.if_icmp .ge 40, 3) := by decide +kernel
theorem dX0_addAll_28 : decode cX0_addAll 28 = .ok (.aload_n 1, 1) := by decide +kernel
theorem dX0_addAll_29 : decode cX0_addAll 29 = .ok (.aload_n 2, 1) := by decide +kernel
theorem dX0_addAll_30 : decode cX0_addAll 30 = .ok (.iload_n 3, 1) := by decide +kernel
theorem dX0_addAll_31 : decode cX0_addAll 31 = .ok (.iload 5, 2) := by decide +kernel
theorem dX0_addAll_33 : decode cX0_addAll 33 = .ok (.invokestatic 34, 3) := by decide +kernel
theorem dX0_addAll_36 : decode cX0_addAll 36 = .ok (.ifCond .eq 29, 3) := by decide +kernel
theorem dX0_addAll_39 : decode cX0_addAll 39 = .ok (.aload_n 0, 1) := by decide +kernel
theorem dX0_addAll_40 : decode cX0_addAll 40 = .ok (.getfield 9, 3) := by decide +kernel
theorem dX0_addAll_43 : decode cX0_addAll 43 = .ok (.aload_n 0, 1) := by decide +kernel
theorem dX0_addAll_44 : decode cX0_addAll 44 = .ok (.getfield 15, 3) := by decide +kernel
theorem dX0_addAll_47 : decode cX0_addAll 47 = .ok (.bipush 10, 2) := by decide +kernel
theorem dX0_addAll_49 : decode cX0_addAll 49 = .ok (.iload 5, 2) := by decide +kernel
theorem dX0_addAll_51 : decode cX0_addAll 51 = .ok (.imul, 1) := by decide +kernel
theorem dX0_addAll_52 : decode cX0_addAll 52 = .ok (.iload_n 3, 1) := by decide +kernel
theorem dX0_addAll_53 : decode cX0_addAll 53 = .ok (.iadd, 1) := by decide +kernel
theorem dX0_addAll_54 : decode cX0_addAll 54 = .ok (.iastore, 1) := by decide +kernel
theorem dX0_addAll_55 : decode cX0_addAll 55 = .ok (.aload_n 0, 1) := by decide +kernel
theorem dX0_addAll_56 : decode cX0_addAll 56 = .ok (.dup, 1) := by decide +kernel
theorem dX0_addAll_57 : decode cX0_addAll 57 = .ok (.getfield 15, 3) := by decide +kernel
theorem dX0_addAll_60 : decode cX0_addAll 60 = .ok (.iconst 1, 1) := by decide +kernel
theorem dX0_addAll_61 : decode cX0_addAll 61 = .ok (.iadd, 1) := by decide +kernel
theorem dX0_addAll_62 : decode cX0_addAll 62 = .ok (.putfield 15, 3) := by decide +kernel
theorem dX0_addAll_65 : decode cX0_addAll 65 = .ok (.iinc 5 1, 3) := by decide +kernel
theorem dX0_addAll_68 : decode cX0_addAll 68 = .ok (.goto (-59), 3) := by decide +kernel
theorem dX0_addAll_71 : decode cX0_addAll 71 = .ok (.return_, 1) := by decide +kernel
theorem dX0_holds_0 : decode cX0_holds 0 = .ok (.aload_n 0, 1) := by decide +kernel
theorem dX0_holds_1 : decode cX0_holds 1 = .ok (.iload_n 3, 1) := by decide +kernel
theorem dX0_holds_2 : decode cX0_holds 2 = .ok (.invokevirtual 38, 3) := by decide +kernel
theorem dX0_holds_5 : decode cX0_holds 5 = .ok (.istore 4, 2) := by decide +kernel
theorem dX0_holds_7 : decode cX0_holds 7 = .ok (.aload_n 0, 1) := by decide +kernel
theorem dX0_holds_8 : decode cX0_holds 8 = .ok (.iload_n 3, 1) := by decide +kernel
theorem dX0_holds_9 : decode cX0_holds 9 = .ok (.iconst 0, 1) := by decide +kernel
theorem dX0_holds_10 : decode cX0_holds 10 = .ok (.invokevirtual 42, 3) := by decide +kernel
theorem dX0_holds_13 : decode cX0_holds 13 = .ok (.istore 5, 2) := by decide +kernel
theorem dX0_holds_15 : decode cX0_holds 15 = .ok (.iload_n 2, 1) := by decide +kernel
theorem dX0_holds_16 : decode cX0_holds 16 = .ok (.tableswitch 135 0 3 #[32, 60, 88, 108], 32) := by decide +kernel
theorem dX0_holds_48 : decode cX0_holds 48 = .ok (.iload 4, 2) := by decide +kernel
theorem dX0_holds_50 : decode cX0_holds 50 = .ok (.iconst 1, 1) := by decide +kernel
theorem dX0_holds_51 : decode cX0_holds 51 = .ok (.if_icmp .eq 9, 3) := by decide +kernel
theorem dX0_holds_54 : decode cX0_holds 54 = .ok (.iload 4, 2) := by decide +kernel
theorem dX0_holds_56 : decode cX0_holds 56 = .ok (.iconst 2, 1) := by decide +kernel
theorem dX0_holds_57 : decode cX0_holds 57 = .ok (.if_icmp .ne 17, 3) := by decide +kernel
theorem dX0_holds_60 : decode cX0_holds 60 = .ok (.aload_n 0, 1) := by decide +kernel
theorem dX0_holds_61 : decode cX0_holds 61 = .ok (.iconst 0, 1) := by decide +kernel
theorem dX0_holds_62 : decode cX0_holds 62 = .ok (.iload 5, 2) := by decide +kernel
theorem dX0_holds_64 : decode cX0_holds 64 = .ok (.invokevirtual 46, 3) := by decide +kernel
theorem dX0_holds_67 : decode cX0_holds 67 = .ok (.ifCond .ne 7, 3) := by decide +kernel
theorem dX0_holds_70 : decode cX0_holds 70 = .ok (.iconst 1, 1) := by decide +kernel
theorem dX0_holds_71 : decode cX0_holds 71 = .ok (.goto 4, 3) := by decide +kernel
theorem dX0_holds_74 : decode cX0_holds 74 = .ok (.iconst 0, 1) := by decide +kernel
theorem dX0_holds_75 : decode cX0_holds 75 = .ok (.ireturn, 1) := by decide +kernel
theorem dX0_holds_76 : decode cX0_holds 76 = .ok (.iload 4, 2) := by decide +kernel
theorem dX0_holds_78 : decode cX0_holds 78 = .ok (.iconst 3, 1) := by decide +kernel
theorem dX0_holds_79 : decode cX0_holds 79 = .ok (.if_icmp .eq 9, 3) := by decide +kernel
theorem dX0_holds_82 : decode cX0_holds 82 = .ok (.iload 4, 2) := by decide +kernel
theorem dX0_holds_84 : decode cX0_holds 84 = .ok (.iconst 5, 1) := by decide +kernel
theorem dX0_holds_85 : decode cX0_holds 85 = .ok (.if_icmp .ne 17, 3) := by decide +kernel
theorem dX0_holds_88 : decode cX0_holds 88 = .ok (.aload_n 0, 1) := by decide +kernel
theorem dX0_holds_89 : decode cX0_holds 89 = .ok (.iconst 4, 1) := by decide +kernel
theorem dX0_holds_90 : decode cX0_holds 90 = .ok (.iload 5, 2) := by decide +kernel
theorem dX0_holds_92 : decode cX0_holds 92 = .ok (.invokevirtual 46, 3) := by decide +kernel
theorem dX0_holds_95 : decode cX0_holds 95 = .ok (.ifCond .ne 7, 3) := by decide +kernel
theorem dX0_holds_98 : decode cX0_holds 98 = .ok (.iconst 1, 1) := by decide +kernel
theorem dX0_holds_99 : decode cX0_holds 99 = .ok (.goto 4, 3) := by decide +kernel
theorem dX0_holds_102 : decode cX0_holds 102 = .ok (.iconst 0, 1) := by decide +kernel
theorem dX0_holds_103 : decode cX0_holds 103 = .ok (.ireturn, 1) := by decide +kernel
theorem dX0_holds_104 : decode cX0_holds 104 = .ok (.iload 4, 2) := by decide +kernel
theorem dX0_holds_106 : decode cX0_holds 106 = .ok (.ifCond .ne 16, 3) := by decide +kernel
theorem dX0_holds_109 : decode cX0_holds 109 = .ok (.aload_n 0, 1) := by decide +kernel
theorem dX0_holds_110 : decode cX0_holds 110 = .ok (.iload_n 3, 1) := by decide +kernel
theorem dX0_holds_111 : decode cX0_holds 111 = .ok (.iconst 2, 1) := by decide +kernel
theorem dX0_holds_112 : decode cX0_holds 112 = .ok (.invokevirtual 42, 3) := by decide +kernel
theorem dX0_holds_115 : decode cX0_holds 115 = .ok (.ifCond .ne 7, 3) := by decide +kernel
theorem dX0_holds_118 : decode cX0_holds 118 = .ok (.iconst 1, 1) := by decide +kernel
theorem dX0_holds_119 : decode cX0_holds 119 = .ok (.goto 4, 3) := by decide +kernel
theorem dX0_holds_122 : decode cX0_holds 122 = .ok (.iconst 0, 1) := by decide +kernel
theorem dX0_holds_123 : decode cX0_holds 123 = .ok (.ireturn, 1) := by decide +kernel
theorem dX0_holds_124 : decode cX0_holds 124 = .ok (.iload 4, 2) := by decide +kernel
theorem dX0_holds_126 : decode cX0_holds 126 = .ok (.iconst 2, 1) := by decide +kernel
theorem dX0_holds_127 : decode cX0_holds 127 = .ok (.if_icmp .ne 22, 3) := by decide +kernel
theorem dX0_holds_130 : decode cX0_holds 130 = .ok (.aload_n 0, 1) := by decide +kernel
theorem dX0_holds_131 : decode cX0_holds 131 = .ok (.iload_n 3, 1) := by decide +kernel
theorem dX0_holds_132 : decode cX0_holds 132 = .ok (.iconst 2, 1) := by decide +kernel
theorem dX0_holds_133 : decode cX0_holds 133 = .ok (.invokevirtual 42, 3) := by decide +kernel
theorem dX0_holds_136 : decode cX0_holds 136 = .ok (.aload_n 1, 1) := by decide +kernel
theorem dX0_holds_137 : decode cX0_holds 137 = .ok (.iload 5, 2) := by decide +kernel
theorem dX0_holds_139 : decode cX0_holds 139 = .ok (.invokevirtual 50, 3) := by decide +kernel
theorem dX0_holds_142 : decode cX0_holds 142 = .ok (.if_icmp .le 7, 3) := by decide +kernel
theorem dX0_holds_145 : decode cX0_holds 145 = .ok (.iconst 1, 1) := by decide +kernel
theorem dX0_holds_146 : decode cX0_holds 146 = .ok (.goto 4, 3) := by decide +kernel
theorem dX0_holds_149 : decode cX0_holds 149 = .ok (.iconst 0, 1) := by decide +kernel
theorem dX0_holds_150 : decode cX0_holds 150 = .ok (.ireturn, 1) := by decide +kernel
theorem dX0_holds_151 : decode cX0_holds 151 = .ok (.iconst 0, 1) := by decide +kernel
theorem dX0_holds_152 : decode cX0_holds 152 = .ok (.ireturn, 1) := by decide +kernel
theorem dX1_hasPieceAt_0 : decode cX1_hasPieceAt 0 = .ok (.iconst 0, 1) := by decide +kernel
theorem dX1_hasPieceAt_1 : decode cX1_hasPieceAt 1 = .ok (.istore_n 3, 1) := by decide +kernel
theorem dX1_hasPieceAt_2 : decode cX1_hasPieceAt 2 = .ok (.iload_n 3, 1) := by decide +kernel
theorem dX1_hasPieceAt_3 : decode cX1_hasPieceAt 3 = .ok (.aload_n 0, 1) := by decide +kernel
theorem dX1_hasPieceAt_4 : decode cX1_hasPieceAt 4 = .ok (.getfield 21, 3) := by decide +kernel
theorem dX1_hasPieceAt_7 : decode cX1_hasPieceAt 7 = .ok (.if_icmp .ge 41, 3) := by decide +kernel
theorem dX1_hasPieceAt_10 : decode cX1_hasPieceAt 10 = .ok (.aload_n 0, 1) := by decide +kernel
theorem dX1_hasPieceAt_11 : decode cX1_hasPieceAt 11 = .ok (.getfield 9, 3) := by decide +kernel
theorem dX1_hasPieceAt_14 : decode cX1_hasPieceAt 14 = .ok (.iload_n 3, 1) := by decide +kernel
theorem dX1_hasPieceAt_15 : decode cX1_hasPieceAt 15 = .ok (.iaload, 1) := by decide +kernel
theorem dX1_hasPieceAt_16 : decode cX1_hasPieceAt 16 = .ok (.iload_n 1, 1) := by decide +kernel
end
section
theorem dX1_hasPieceAt_17 : decode cX1_hasPieceAt 17 = .ok (.if_icmp .ne 25, 3) := by decide +kernel
theorem dX1_hasPieceAt_20 : decode cX1_hasPieceAt 20 = .ok (.aload_n 0, 1) := by decide +kernel
theorem dX1_hasPieceAt_21 : decode cX1_hasPieceAt 21 = .ok (.iload_n 3, 1) := by decide +kernel
theorem dX1_hasPieceAt_22 : decode cX1_hasPieceAt 22 = .ok (.iconst 0, 1) := by decide +kernel
theorem dX1_hasPieceAt_23 : decode cX1_hasPieceAt 23 = .ok (.invokevirtual 43, 3) := by decide +kernel
theorem dX1_hasPieceAt_26 : decode cX1_hasPieceAt 26 = .ok (.iload_n 2, 1) := by decide +kernel
theorem dX1_hasPieceAt_27 : decode cX1_hasPieceAt 27 = .ok (.if_icmp .eq 13, 3) := by decide +kernel
theorem dX1_hasPieceAt_30 : decode cX1_hasPieceAt 30 = .ok (.aload_n 0, 1) := by decide +kernel
theorem dX1_hasPieceAt_31 : decode cX1_hasPieceAt 31 = .ok (.iload_n 3, 1) := by decide +kernel
theorem dX1_hasPieceAt_32 : decode cX1_hasPieceAt 32 = .ok (.iconst 1, 1) := by decide +kernel
theorem dX1_hasPieceAt_33 : decode cX1_hasPieceAt 33 = .ok (.invokevirtual 43, 3) := by decide +kernel
theorem dX1_hasPieceAt_36 : decode cX1_hasPieceAt 36 = .ok (.iload_n 2, 1) := by decide +kernel
theorem dX1_hasPieceAt_37 : decode cX1_hasPieceAt 37 = .ok (.if_icmp .ne 5, 3) := by decide +kernel
theorem dX1_hasPieceAt_40 : decode cX1_hasPieceAt 40 = .ok (.iconst 1, 1) := by decide +kernel
theorem dX1_hasPieceAt_41 : decode cX1_hasPieceAt 41 = .ok (.ireturn, 1) := by decide +kernel
theorem dX1_hasPieceAt_42 : decode cX1_hasPieceAt 42 = .ok (.iinc 3 1, 3) := by decide +kernel
theorem dX1_hasPieceAt_45 : decode cX1_hasPieceAt 45 = .ok (.goto (-43), 3) := by decide +kernel
theorem dX1_hasPieceAt_48 : decode cX1_hasPieceAt 48 = .ok (.iconst 0, 1) := by decide +kernel
theorem dX1_hasPieceAt_49 : decode cX1_hasPieceAt 49 = .ok (.ireturn, 1) := by decide +kernel
theorem dX4_depthAt_0 : decode cX4_depthAt 0 = .ok (.iload_n 1, 1) := by decide +kernel
theorem dX4_depthAt_1 : decode cX4_depthAt 1 = .ok (.invokestatic 15, 3) := by decide +kernel
theorem dX4_depthAt_4 : decode cX4_depthAt 4 = .ok (.ifCond .eq 12, 3) := by decide +kernel
theorem dX4_depthAt_7 : decode cX4_depthAt 7 = .ok (.aload_n 0, 1) := by decide +kernel
theorem dX4_depthAt_8 : decode cX4_depthAt 8 = .ok (.getfield 9, 3) := by decide +kernel
theorem dX4_depthAt_11 : decode cX4_depthAt 11 = .ok (.iload_n 1, 1) := by decide +kernel
theorem dX4_depthAt_12 : decode cX4_depthAt 12 = .ok (.iaload, 1) := by decide +kernel
theorem dX4_depthAt_13 : decode cX4_depthAt 13 = .ok (.goto 4, 3) := by decide +kernel
theorem dX4_depthAt_16 : decode cX4_depthAt 16 = .ok (.iconst 0, 1) := by decide +kernel
theorem dX4_depthAt_17 : decode cX4_depthAt 17 = .ok (.ireturn, 1) := by decide +kernel
theorem dX2_write_0 : decode cX2_write 0 = .ok (.aload_n 0, 1) := by decide +kernel
theorem dX2_write_1 : decode cX2_write 1 = .ok (.iconst 0, 1) := by decide +kernel
theorem dX2_write_2 : decode cX2_write 2 = .ok (.putfield 15, 3) := by decide +kernel
theorem dX2_write_5 : decode cX2_write 5 = .ok (.iconst (-1), 1) := by decide +kernel
theorem dX2_write_6 : decode cX2_write 6 = .ok (.istore_n 2, 1) := by decide +kernel
theorem dX2_write_7 : decode cX2_write 7 = .ok (.aload_n 1, 1) := by decide +kernel
theorem dX2_write_8 : decode cX2_write 8 = .ok (.invokevirtual 19, 3) := by decide +kernel
theorem dX2_write_11 : decode cX2_write 11 = .ok (.istore_n 3, 1) := by decide +kernel
theorem dX2_write_12 : decode cX2_write 12 = .ok (.iconst 0, 1) := by decide +kernel
theorem dX2_write_13 : decode cX2_write 13 = .ok (.istore 4, 2) := by decide +kernel
theorem dX2_write_15 : decode cX2_write 15 = .ok (.iload 4, 2) := by decide +kernel
theorem dX2_write_17 : decode cX2_write 17 = .ok (.iload_n 3, 1) := by decide +kernel
theorem dX2_write_18 : decode cX2_write 18 = .ok (.if_icmp .ge 30, 3) := by decide +kernel
theorem dX2_write_21 : decode cX2_write 21 = .ok (.aload_n 1, 1) := by decide +kernel
theorem dX2_write_22 : decode cX2_write 22 = .ok (.iload_n 2, 1) := by decide +kernel
theorem dX2_write_23 : decode cX2_write 23 = .ok (.invokevirtual 25, 3) := by decide +kernel
theorem dX2_write_26 : decode cX2_write 26 = .ok (.istore 5, 2) := by decide +kernel
theorem dX2_write_28 : decode cX2_write 28 = .ok (.aload_n 0, 1) := by decide +kernel
theorem dX2_write_29 : decode cX2_write 29 = .ok (.aload_n 1, 1) := by decide +kernel
theorem dX2_write_30 : decode cX2_write 30 = .ok (.iload 5, 2) := by decide +kernel
theorem dX2_write_32 : decode cX2_write 32 = .ok (.invokevirtual 29, 3) := by decide +kernel
theorem dX2_write_35 : decode cX2_write 35 = .ok (.aload_n 1, 1) := by decide +kernel
theorem dX2_write_36 : decode cX2_write 36 = .ok (.iload 5, 2) := by decide +kernel
theorem dX2_write_38 : decode cX2_write 38 = .ok (.invokevirtual 33, 3) := by decide +kernel
theorem dX2_write_41 : decode cX2_write 41 = .ok (.istore_n 2, 1) := by decide +kernel
theorem dX2_write_42 : decode cX2_write 42 = .ok (.iinc 4 1, 3) := by decide +kernel
theorem dX2_write_45 : decode cX2_write 45 = .ok (.goto (-30), 3) := by decide +kernel
theorem dX2_write_48 : decode cX2_write 48 = .ok (.return_, 1) := by decide +kernel
theorem dX1_nextBehind_0 : decode cX1_nextBehind 0 = .ok (.iconst (-1), 1) := by decide +kernel
theorem dX1_nextBehind_1 : decode cX1_nextBehind 1 = .ok (.istore_n 2, 1) := by decide +kernel
theorem dX1_nextBehind_2 : decode cX1_nextBehind 2 = .ok (.iconst 0, 1) := by decide +kernel
theorem dX1_nextBehind_3 : decode cX1_nextBehind 3 = .ok (.istore_n 3, 1) := by decide +kernel
theorem dX1_nextBehind_4 : decode cX1_nextBehind 4 = .ok (.iload_n 3, 1) := by decide +kernel
theorem dX1_nextBehind_5 : decode cX1_nextBehind 5 = .ok (.aload_n 0, 1) := by decide +kernel
theorem dX1_nextBehind_6 : decode cX1_nextBehind 6 = .ok (.getfield 21, 3) := by decide +kernel
theorem dX1_nextBehind_9 : decode cX1_nextBehind 9 = .ok (.if_icmp .ge 38, 3) := by decide +kernel
theorem dX1_nextBehind_12 : decode cX1_nextBehind 12 = .ok (.aload_n 0, 1) := by decide +kernel
theorem dX1_nextBehind_13 : decode cX1_nextBehind 13 = .ok (.iload_n 3, 1) := by decide +kernel
theorem dX1_nextBehind_14 : decode cX1_nextBehind 14 = .ok (.invokevirtual 40, 3) := by decide +kernel
theorem dX1_nextBehind_17 : decode cX1_nextBehind 17 = .ok (.iload_n 1, 1) := by decide +kernel
theorem dX1_nextBehind_18 : decode cX1_nextBehind 18 = .ok (.if_icmp .le 23, 3) := by decide +kernel
theorem dX1_nextBehind_21 : decode cX1_nextBehind 21 = .ok (.iload_n 2, 1) := by decide +kernel
theorem dX1_nextBehind_22 : decode cX1_nextBehind 22 = .ok (.iconst (-1), 1) := by decide +kernel
theorem dX1_nextBehind_23 : decode cX1_nextBehind 23 = .ok (.if_icmp .eq 16, 3) := by decide +kernel
theorem dX1_nextBehind_26 : decode cX1_nextBehind 26 = .ok (.aload_n 0, 1) := by decide +kernel
theorem dX1_nextBehind_27 : decode cX1_nextBehind 27 = .ok (.iload_n 3, 1) := by decide +kernel
theorem dX1_nextBehind_28 : decode cX1_nextBehind 28 = .ok (.invokevirtual 40, 3) := by decide +kernel
theorem dX1_nextBehind_31 : decode cX1_nextBehind 31 = .ok (.aload_n 0, 1) := by decide +kernel
theorem dX1_nextBehind_32 : decode cX1_nextBehind 32 = .ok (.iload_n 2, 1) := by decide +kernel
theorem dX1_nextBehind_33 : decode cX1_nextBehind 33 = .ok (.invokevirtual 40, 3) := by decide +kernel
theorem dX1_nextBehind_36 : decode cX1_nextBehind 36 = .ok (.if_icmp .ge 5, 3) := by decide +kernel
theorem dX1_nextBehind_39 : decode cX1_nextBehind 39 = .ok (.iload_n 3, 1) := by decide +kernel
theorem dX1_nextBehind_40 : decode cX1_nextBehind 40 = .ok (.istore_n 2, 1) := by decide +kernel
theorem dX1_nextBehind_41 : decode cX1_nextBehind 41 = .ok (.iinc 3 1, 3) := by decide +kernel
theorem dX1_nextBehind_44 : decode cX1_nextBehind 44 = .ok (.goto (-40), 3) := by decide +kernel
theorem dX1_nextBehind_47 : decode cX1_nextBehind 47 = .ok (.iload_n 2, 1) := by decide +kernel
theorem dX1_nextBehind_48 : decode cX1_nextBehind 48 = .ok (.ireturn, 1) := by decide +kernel
theorem dX1_rankOf_0 : decode cX1_rankOf 0 = .ok (.aload_n 0, 1) := by decide +kernel
theorem dX1_rankOf_1 : decode cX1_rankOf 1 = .ok (.iload_n 1, 1) := by decide +kernel
theorem dX1_rankOf_2 : decode cX1_rankOf 2 = .ok (.invokevirtual 33, 3) := by decide +kernel
theorem dX1_rankOf_5 : decode cX1_rankOf 5 = .ok (.bipush 100, 2) := by decide +kernel
theorem dX1_rankOf_7 : decode cX1_rankOf 7 = .ok (.imul, 1) := by decide +kernel
theorem dX1_rankOf_8 : decode cX1_rankOf 8 = .ok (.aload_n 0, 1) := by decide +kernel
theorem dX1_rankOf_9 : decode cX1_rankOf 9 = .ok (.iload_n 1, 1) := by decide +kernel
theorem dX1_rankOf_10 : decode cX1_rankOf 10 = .ok (.invokevirtual 37, 3) := by decide +kernel
theorem dX1_rankOf_13 : decode cX1_rankOf 13 = .ok (.iadd, 1) := by decide +kernel
theorem dX1_rankOf_14 : decode cX1_rankOf 14 = .ok (.ireturn, 1) := by decide +kernel
theorem dX1_nameOf_0 : decode cX1_nameOf 0 = .ok (.iload_n 1, 1) := by decide +kernel
theorem dX1_nameOf_1 : decode cX1_nameOf 1 = .ok (.ifCond .lt 20, 3) := by decide +kernel
theorem dX1_nameOf_4 : decode cX1_nameOf 4 = .ok (.iload_n 1, 1) := by decide +kernel
theorem dX1_nameOf_5 : decode cX1_nameOf 5 = .ok (.aload_n 0, 1) := by decide +kernel
theorem dX1_nameOf_6 : decode cX1_nameOf 6 = .ok (.getfield 21, 3) := by decide +kernel
theorem dX1_nameOf_9 : decode cX1_nameOf 9 = .ok (.if_icmp .ge 12, 3) := by decide +kernel
theorem dX1_nameOf_12 : decode cX1_nameOf 12 = .ok (.aload_n 0, 1) := by decide +kernel
theorem dX1_nameOf_13 : decode cX1_nameOf 13 = .ok (.getfield 15, 3) := by decide +kernel
theorem dX1_nameOf_16 : decode cX1_nameOf 16 = .ok (.iload_n 1, 1) := by decide +kernel
theorem dX1_nameOf_17 : decode cX1_nameOf 17 = .ok (.iaload, 1) := by decide +kernel
theorem dX1_nameOf_18 : decode cX1_nameOf 18 = .ok (.goto 4, 3) := by decide +kernel
theorem dX1_nameOf_21 : decode cX1_nameOf 21 = .ok (.iconst (-1), 1) := by decide +kernel
theorem dX1_nameOf_22 : decode cX1_nameOf 22 = .ok (.ireturn, 1) := by decide +kernel
theorem dX2_writeRow_0 : decode cX2_writeRow 0 = .ok (.aload_n 1, 1) := by decide +kernel
theorem dX2_writeRow_1 : decode cX2_writeRow 1 = .ok (.iload_n 2, 1) := by decide +kernel
theorem dX2_writeRow_2 : decode cX2_writeRow 2 = .ok (.invokevirtual 36, 3) := by decide +kernel
theorem dX2_writeRow_5 : decode cX2_writeRow 5 = .ok (.istore_n 3, 1) := by decide +kernel
theorem dX2_writeRow_6 : decode cX2_writeRow 6 = .ok (.iload_n 3, 1) := by decide +kernel
theorem dX2_writeRow_7 : decode cX2_writeRow 7 = .ok (.invokestatic 39, 3) := by decide +kernel
theorem dX2_writeRow_10 : decode cX2_writeRow 10 = .ok (.ifCond .ne 4, 3) := by decide +kernel
theorem dX2_writeRow_13 : decode cX2_writeRow 13 = .ok (.return_, 1) := by decide +kernel
theorem dX2_writeRow_14 : decode cX2_writeRow 14 = .ok (.aload_n 0, 1) := by decide +kernel
theorem dX2_writeRow_15 : decode cX2_writeRow 15 = .ok (.getstatic 43, 3) := by decide +kernel
theorem dX2_writeRow_18 : decode cX2_writeRow 18 = .ok (.iload_n 3, 1) := by decide +kernel
theorem dX2_writeRow_19 : decode cX2_writeRow 19 = .ok (.caload, 1) := by decide +kernel
theorem dX2_writeRow_20 : decode cX2_writeRow 20 = .ok (.invokevirtual 46, 3) := by decide +kernel
theorem dX2_writeRow_23 : decode cX2_writeRow 23 = .ok (.aload_n 0, 1) := by decide +kernel
theorem dX2_writeRow_24 : decode cX2_writeRow 24 = .ok (.aload_n 1, 1) := by decide +kernel
theorem dX2_writeRow_25 : decode cX2_writeRow 25 = .ok (.iload_n 2, 1) := by decide +kernel
theorem dX2_writeRow_26 : decode cX2_writeRow 26 = .ok (.invokevirtual 50, 3) := by decide +kernel
theorem dX2_writeRow_29 : decode cX2_writeRow 29 = .ok (.invokevirtual 53, 3) := by decide +kernel
theorem dX2_writeRow_32 : decode cX2_writeRow 32 = .ok (.iload_n 3, 1) := by decide +kernel
theorem dX2_writeRow_33 : decode cX2_writeRow 33 = .ok (.invokestatic 57, 3) := by decide +kernel
theorem dX2_writeRow_36 : decode cX2_writeRow 36 = .ok (.istore 4, 2) := by decide +kernel
theorem dX2_writeRow_38 : decode cX2_writeRow 38 = .ok (.iconst 0, 1) := by decide +kernel
theorem dX2_writeRow_39 : decode cX2_writeRow 39 = .ok (.istore 5, 2) := by decide +kernel
theorem dX2_writeRow_41 : decode cX2_writeRow 41 = .ok (.iload 5, 2) := by decide +kernel
theorem dX2_writeRow_43 : decode cX2_writeRow 43 = .ok (.iload 4, 2) := by decide +kernel
theorem dX2_writeRow_45 : decode cX2_writeRow 45 = .ok (.if_icmp .ge 36, 3) := by decide +kernel
theorem dX2_writeRow_48 : decode cX2_writeRow 48 = .ok (.aload_n 0, 1) := by decide +kernel
theorem dX2_writeRow_49 : decode cX2_writeRow 49 = .ok (.iload 5, 2) := by decide +kernel
theorem dX2_writeRow_51 : decode cX2_writeRow 51 = .ok (.ifCond .ne 8, 3) := by decide +kernel
theorem dX2_writeRow_54 : decode cX2_writeRow 54 = .ok (.bipush 61, 2) := by decide +kernel
theorem dX2_writeRow_56 : decode cX2_writeRow 56 = .ok (.goto 5, 3) := by decide +kernel
theorem dX2_writeRow_59 : decode cX2_writeRow 59 = .ok (.bipush 44, 2) := by decide +kernel
theorem dX2_writeRow_61 : decode cX2_writeRow 61 = .ok (.invokevirtual 46, 3) := by decide +kernel
theorem dX2_writeRow_64 : decode cX2_writeRow 64 = .ok (.aload_n 0, 1) := by decide +kernel
theorem dX2_writeRow_65 : decode cX2_writeRow 65 = .ok (.aload_n 1, 1) := by decide +kernel
theorem dX2_writeRow_66 : decode cX2_writeRow 66 = .ok (.iload_n 2, 1) := by decide +kernel
theorem dX2_writeRow_67 : decode cX2_writeRow 67 = .ok (.iload 5, 2) := by decide +kernel
theorem dX2_writeRow_69 : decode cX2_writeRow 69 = .ok (.invokevirtual 60, 3) := by decide +kernel
theorem dX2_writeRow_72 : decode cX2_writeRow 72 = .ok (.invokevirtual 53, 3) := by decide +kernel
theorem dX2_writeRow_75 : decode cX2_writeRow 75 = .ok (.iinc 5 1, 3) := by decide +kernel
theorem dX2_writeRow_78 : decode cX2_writeRow 78 = .ok (.goto (-37), 3) := by decide +kernel
theorem dX2_writeRow_81 : decode cX2_writeRow 81 = .ok (.aload_n 0, 1) := by decide +kernel
theorem dX2_writeRow_82 : decode cX2_writeRow 82 = .ok (.bipush 59, 2) := by decide +kernel
theorem dX2_writeRow_84 : decode cX2_writeRow 84 = .ok (.invokevirtual 46, 3) := by decide +kernel
theorem dX2_writeRow_87 : decode cX2_writeRow 87 = .ok (.return_, 1) := by decide +kernel
theorem dX2_writeSign_0 : decode cX2_writeSign 0 = .ok (.aload_n 0, 1) := by decide +kernel
theorem dX2_writeSign_1 : decode cX2_writeSign 1 = .ok (.getfield 15, 3) := by decide +kernel
theorem dX2_writeSign_4 : decode cX2_writeSign 4 = .ok (.sipush 500, 3) := by decide +kernel
theorem dX2_writeSign_7 : decode cX2_writeSign 7 = .ok (.if_icmp .ge 23, 3) := by decide +kernel
theorem dX2_writeSign_10 : decode cX2_writeSign 10 = .ok (.aload_n 0, 1) := by decide +kernel
theorem dX2_writeSign_11 : decode cX2_writeSign 11 = .ok (.getfield 9, 3) := by decide +kernel
theorem dX2_writeSign_14 : decode cX2_writeSign 14 = .ok (.aload_n 0, 1) := by decide +kernel
theorem dX2_writeSign_15 : decode cX2_writeSign 15 = .ok (.getfield 15, 3) := by decide +kernel
theorem dX2_writeSign_18 : decode cX2_writeSign 18 = .ok (.iload_n 1, 1) := by decide +kernel
theorem dX2_writeSign_19 : decode cX2_writeSign 19 = .ok (.castore, 1) := by decide +kernel
theorem dX2_writeSign_20 : decode cX2_writeSign 20 = .ok (.aload_n 0, 1) := by decide +kernel
theorem dX2_writeSign_21 : decode cX2_writeSign 21 = .ok (.dup, 1) := by decide +kernel
theorem dX2_writeSign_22 : decode cX2_writeSign 22 = .ok (.getfield 15, 3) := by decide +kernel
theorem dX2_writeSign_25 : decode cX2_writeSign 25 = .ok (.iconst 1, 1) := by decide +kernel
theorem dX2_writeSign_26 : decode cX2_writeSign 26 = .ok (.iadd, 1) := by decide +kernel
theorem dX2_writeSign_27 : decode cX2_writeSign 27 = .ok (.putfield 15, 3) := by decide +kernel
theorem dX2_writeSign_30 : decode cX2_writeSign 30 = .ok (.return_, 1) := by decide +kernel
theorem dX2_writeNumber_0 : decode cX2_writeNumber 0 = .ok (.iload_n 1, 1) := by decide +kernel
theorem dX2_writeNumber_1 : decode cX2_writeNumber 1 = .ok (.bipush 10, 2) := by decide +kernel
theorem dX2_writeNumber_3 : decode cX2_writeNumber 3 = .ok (.if_icmp .lt 15, 3) := by decide +kernel
theorem dX2_writeNumber_6 : decode cX2_writeNumber 6 = .ok (.aload_n 0, 1) := by decide +kernel
theorem dX2_writeNumber_7 : decode cX2_writeNumber 7 = .ok (.bipush 48, 2) := by decide +kernel
theorem dX2_writeNumber_9 : decode cX2_writeNumber 9 = .ok (.iload_n 1, 1) := by decide +kernel
theorem dX2_writeNumber_10 : decode cX2_writeNumber 10 = .ok (.bipush 10, 2) := by decide +kernel
theorem dX2_writeNumber_12 : decode cX2_writeNumber 12 = .ok (.idiv, 1) := by decide +kernel
theorem dX2_writeNumber_13 : decode cX2_writeNumber 13 = .ok (.iadd, 1) := by decide +kernel
theorem dX2_writeNumber_14 : decode cX2_writeNumber 14 = .ok (.i2c, 1) := by decide +kernel
theorem dX2_writeNumber_15 : decode cX2_writeNumber 15 = .ok (.invokevirtual 46, 3) := by decide +kernel
theorem dX2_writeNumber_18 : decode cX2_writeNumber 18 = .ok (.aload_n 0, 1) := by decide +kernel
theorem dX2_writeNumber_19 : decode cX2_writeNumber 19 = .ok (.bipush 48, 2) := by decide +kernel
theorem dX2_writeNumber_21 : decode cX2_writeNumber 21 = .ok (.iload_n 1, 1) := by decide +kernel
theorem dX2_writeNumber_22 : decode cX2_writeNumber 22 = .ok (.bipush 10, 2) := by decide +kernel
theorem dX2_writeNumber_24 : decode cX2_writeNumber 24 = .ok (.irem, 1) := by decide +kernel
theorem dX2_writeNumber_25 : decode cX2_writeNumber 25 = .ok (.iadd, 1) := by decide +kernel
theorem dX2_writeNumber_26 : decode cX2_writeNumber 26 = .ok (.i2c, 1) := by decide +kernel
theorem dX2_writeNumber_27 : decode cX2_writeNumber 27 = .ok (.invokevirtual 46, 3) := by decide +kernel
theorem dX2_writeNumber_30 : decode cX2_writeNumber 30 = .ok (.return_, 1) := by decide +kernel
theorem dL_piece_0 : decode cL_piece 0 = .ok (.aload_n 3, 1) := by decide +kernel
theorem dL_piece_1 : decode cL_piece 1 = .ok (.iconst 0, 1) := by decide +kernel
theorem dL_piece_2 : decode cL_piece 2 = .ok (.aload_n 0, 1) := by decide +kernel
theorem dL_piece_3 : decode cL_piece 3 = .ok (.iload_n 1, 1) := by decide +kernel
theorem dL_piece_4 : decode cL_piece 4 = .ok (.iload_n 2, 1) := by decide +kernel
theorem dL_piece_5 : decode cL_piece 5 = .ok (.invokevirtual 15, 3) := by decide +kernel
theorem dL_piece_8 : decode cL_piece 8 = .ok (.i2l, 1) := by decide +kernel
theorem dL_piece_9 : decode cL_piece 9 = .ok (.lastore, 1) := by decide +kernel
theorem dL_piece_10 : decode cL_piece 10 = .ok (.goto 7, 3) := by decide +kernel
theorem dL_piece_13 : decode cL_piece 13 = .ok (.astore 4, 2) := by decide +kernel
theorem dL_piece_15 : decode cL_piece 15 = .ok (.iconst 1, 1) := by decide +kernel
theorem dL_piece_16 : decode cL_piece 16 = .ok (.ireturn, 1) := by decide +kernel
theorem dL_piece_17 : decode cL_piece 17 = .ok (.iconst 0, 1) := by decide +kernel
theorem dL_piece_18 : decode cL_piece 18 = .ok (.ireturn, 1) := by decide +kernel
theorem dX5_piece_0 : decode cX5_piece 0 = .ok (.iload_n 1, 1) := by decide +kernel
theorem dX5_piece_1 : decode cX5_piece 1 = .ok (.ifCond .lt 14, 3) := by decide +kernel
theorem dX5_piece_4 : decode cX5_piece 4 = .ok (.iload_n 1, 1) := by decide +kernel
theorem dX5_piece_5 : decode cX5_piece 5 = .ok (.aload_n 0, 1) := by decide +kernel
theorem dX5_piece_6 : decode cX5_piece 6 = .ok (.getfield 19, 3) := by decide +kernel
theorem dX5_piece_9 : decode cX5_piece 9 = .ok (.invokevirtual 77, 3) := by decide +kernel
theorem dX5_piece_12 : decode cX5_piece 12 = .ok (.if_icmp .lt 13, 3) := by decide +kernel
theorem dX5_piece_15 : decode cX5_piece 15 = .ok (.new 87, 3) := by decide +kernel
theorem dX5_piece_18 : decode cX5_piece 18 = .ok (.dup, 1) := by decide +kernel
theorem dX5_piece_19 : decode cX5_piece 19 = .ok (.ldc 89, 2) := by decide +kernel
theorem dX5_piece_21 : decode cX5_piece 21 = .ok (.invokespecial 91, 3) := by decide +kernel
theorem dX5_piece_24 : decode cX5_piece 24 = .ok (.athrow, 1) := by decide +kernel
theorem dX5_piece_25 : decode cX5_piece 25 = .ok (.aload_n 0, 1) := by decide +kernel
theorem dX5_piece_26 : decode cX5_piece 26 = .ok (.getfield 19, 3) := by decide +kernel
theorem dX5_piece_29 : decode cX5_piece 29 = .ok (.iload_n 1, 1) := by decide +kernel
theorem dX5_piece_30 : decode cX5_piece 30 = .ok (.invokevirtual 92, 3) := by decide +kernel
theorem dX5_piece_33 : decode cX5_piece 33 = .ok (.istore_n 3, 1) := by decide +kernel
theorem dX5_piece_34 : decode cX5_piece 34 = .ok (.iload_n 2, 1) := by decide +kernel
theorem dX5_piece_35 : decode cX5_piece 35 = .ok (.ifCond .lt 13, 3) := by decide +kernel
theorem dX5_piece_38 : decode cX5_piece 38 = .ok (.iload_n 2, 1) := by decide +kernel
theorem dX5_piece_39 : decode cX5_piece 39 = .ok (.iconst 2, 1) := by decide +kernel
theorem dX5_piece_40 : decode cX5_piece 40 = .ok (.iload_n 3, 1) := by decide +kernel
theorem dX5_piece_41 : decode cX5_piece 41 = .ok (.invokestatic 96, 3) := by decide +kernel
theorem dX5_piece_44 : decode cX5_piece 44 = .ok (.iadd, 1) := by decide +kernel
theorem dX5_piece_45 : decode cX5_piece 45 = .ok (.if_icmp .lt 13, 3) := by decide +kernel
theorem dX5_piece_48 : decode cX5_piece 48 = .ok (.new 87, 3) := by decide +kernel
theorem dX5_piece_51 : decode cX5_piece 51 = .ok (.dup, 1) := by decide +kernel
theorem dX5_piece_52 : decode cX5_piece 52 = .ok (.ldc 99, 2) := by decide +kernel
theorem dX5_piece_54 : decode cX5_piece 54 = .ok (.invokespecial 91, 3) := by decide +kernel
theorem dX5_piece_57 : decode cX5_piece 57 = .ok (.athrow, 1) := by decide +kernel
theorem dX5_piece_58 : decode cX5_piece 58 = .ok (.iload_n 2, 1) := by decide +kernel
theorem dX5_piece_59 : decode cX5_piece 59 = .ok (.ifCond .ne 5, 3) := by decide +kernel
theorem dX5_piece_62 : decode cX5_piece 62 = .ok (.iload_n 3, 1) := by decide +kernel
theorem dX5_piece_63 : decode cX5_piece 63 = .ok (.ireturn, 1) := by decide +kernel
theorem dX5_piece_64 : decode cX5_piece 64 = .ok (.iload_n 2, 1) := by decide +kernel
theorem dX5_piece_65 : decode cX5_piece 65 = .ok (.iconst 1, 1) := by decide +kernel
theorem dX5_piece_66 : decode cX5_piece 66 = .ok (.if_icmp .ne 14, 3) := by decide +kernel
theorem dX5_piece_69 : decode cX5_piece 69 = .ok (.aload_n 0, 1) := by decide +kernel
theorem dX5_piece_70 : decode cX5_piece 70 = .ok (.getfield 19, 3) := by decide +kernel
theorem dX5_piece_73 : decode cX5_piece 73 = .ok (.iload_n 1, 1) := by decide +kernel
theorem dX5_piece_74 : decode cX5_piece 74 = .ok (.invokevirtual 101, 3) := by decide +kernel
theorem dX5_piece_77 : decode cX5_piece 77 = .ok (.goto 14, 3) := by decide +kernel
theorem dX5_piece_80 : decode cX5_piece 80 = .ok (.aload_n 0, 1) := by decide +kernel
theorem dX5_piece_81 : decode cX5_piece 81 = .ok (.getfield 19, 3) := by decide +kernel
theorem dX5_piece_84 : decode cX5_piece 84 = .ok (.iload_n 1, 1) := by decide +kernel
theorem dX5_piece_85 : decode cX5_piece 85 = .ok (.iload_n 2, 1) := by decide +kernel
theorem dX5_piece_86 : decode cX5_piece 86 = .ok (.iconst 2, 1) := by decide +kernel
theorem dX5_piece_87 : decode cX5_piece 87 = .ok (.isub, 1) := by decide +kernel
theorem dX5_piece_88 : decode cX5_piece 88 = .ok (.invokevirtual 104, 3) := by decide +kernel
theorem dX5_piece_91 : decode cX5_piece 91 = .ok (.ireturn, 1) := by decide +kernel
theorem dL_reach_0 : decode cL_reach 0 = .ok (.aload 4, 2) := by decide +kernel
theorem dL_reach_2 : decode cL_reach 2 = .ok (.iconst 0, 1) := by decide +kernel
theorem dL_reach_3 : decode cL_reach 3 = .ok (.aload_n 0, 1) := by decide +kernel
theorem dL_reach_4 : decode cL_reach 4 = .ok (.iload_n 1, 1) := by decide +kernel
theorem dL_reach_5 : decode cL_reach 5 = .ok (.iload_n 2, 1) := by decide +kernel
theorem dL_reach_6 : decode cL_reach 6 = .ok (.iload_n 3, 1) := by decide +kernel
theorem dL_reach_7 : decode cL_reach 7 = .ok (.invokevirtual 21, 3) := by decide +kernel
theorem dL_reach_10 : decode cL_reach 10 = .ok (.i2l, 1) := by decide +kernel
theorem dL_reach_11 : decode cL_reach 11 = .ok (.lastore, 1) := by decide +kernel
theorem dL_reach_12 : decode cL_reach 12 = .ok (.goto 7, 3) := by decide +kernel
theorem dL_reach_15 : decode cL_reach 15 = .ok (.astore 5, 2) := by decide +kernel
theorem dL_reach_17 : decode cL_reach 17 = .ok (.iconst 1, 1) := by decide +kernel
theorem dL_reach_18 : decode cL_reach 18 = .ok (.ireturn, 1) := by decide +kernel
theorem dL_reach_19 : decode cL_reach 19 = .ok (.iconst 0, 1) := by decide +kernel
theorem dL_reach_20 : decode cL_reach 20 = .ok (.ireturn, 1) := by decide +kernel
theorem dX5_reach_0 : decode cX5_reach 0 = .ok (.iload_n 1, 1) := by decide +kernel
theorem dX5_reach_1 : decode cX5_reach 1 = .ok (.ifCond .eq 18, 3) := by decide +kernel
theorem dX5_reach_4 : decode cX5_reach 4 = .ok (.iload_n 1, 1) := by decide +kernel
theorem dX5_reach_5 : decode cX5_reach 5 = .ok (.iconst 1, 1) := by decide +kernel
theorem dX5_reach_6 : decode cX5_reach 6 = .ok (.if_icmp .eq 13, 3) := by decide +kernel
theorem dX5_reach_9 : decode cX5_reach 9 = .ok (.new 111, 3) := by decide +kernel
theorem dX5_reach_12 : decode cX5_reach 12 = .ok (.dup, 1) := by decide +kernel
theorem dX5_reach_13 : decode cX5_reach 13 = .ok (.ldc 113, 2) := by decide +kernel
theorem dX5_reach_15 : decode cX5_reach 15 = .ok (.invokespecial 115, 3) := by decide +kernel
theorem dX5_reach_18 : decode cX5_reach 18 = .ok (.athrow, 1) := by decide +kernel
theorem dX5_reach_19 : decode cX5_reach 19 = .ok (.iload_n 2, 1) := by decide +kernel
theorem dX5_reach_20 : decode cX5_reach 20 = .ok (.invokestatic 116, 3) := by decide +kernel
theorem dX5_reach_23 : decode cX5_reach 23 = .ok (.ifCond .eq 10, 3) := by decide +kernel
theorem dX5_reach_26 : decode cX5_reach 26 = .ok (.iload_n 3, 1) := by decide +kernel
theorem dX5_reach_27 : decode cX5_reach 27 = .ok (.invokestatic 116, 3) := by decide +kernel
theorem dX5_reach_30 : decode cX5_reach 30 = .ok (.ifCond .ne 13, 3) := by decide +kernel
theorem dX5_reach_33 : decode cX5_reach 33 = .ok (.new 111, 3) := by decide +kernel
theorem dX5_reach_36 : decode cX5_reach 36 = .ok (.dup, 1) := by decide +kernel
theorem dX5_reach_37 : decode cX5_reach 37 = .ok (.ldc 119, 2) := by decide +kernel
theorem dX5_reach_39 : decode cX5_reach 39 = .ok (.invokespecial 115, 3) := by decide +kernel
theorem dX5_reach_42 : decode cX5_reach 42 = .ok (.athrow, 1) := by decide +kernel
theorem dX5_reach_43 : decode cX5_reach 43 = .ok (.aload_n 0, 1) := by decide +kernel
theorem dX5_reach_44 : decode cX5_reach 44 = .ok (.getfield 29, 3) := by decide +kernel
theorem dX5_reach_47 : decode cX5_reach 47 = .ok (.aload_n 0, 1) := by decide +kernel
theorem dX5_reach_48 : decode cX5_reach 48 = .ok (.getfield 19, 3) := by decide +kernel
theorem dX5_reach_51 : decode cX5_reach 51 = .ok (.iload_n 1, 1) := by decide +kernel
theorem dX5_reach_52 : decode cX5_reach 52 = .ok (.ifCond .ne 7, 3) := by decide +kernel
theorem dX5_reach_55 : decode cX5_reach 55 = .ok (.iconst 0, 1) := by decide +kernel
theorem dX5_reach_56 : decode cX5_reach 56 = .ok (.goto 4, 3) := by decide +kernel
theorem dX5_reach_59 : decode cX5_reach 59 = .ok (.iconst 4, 1) := by decide +kernel
theorem dX5_reach_60 : decode cX5_reach 60 = .ok (.iload_n 2, 1) := by decide +kernel
theorem dX5_reach_61 : decode cX5_reach 61 = .ok (.invokevirtual 121, 3) := by decide +kernel
theorem dX5_reach_64 : decode cX5_reach 64 = .ok (.aload_n 0, 1) := by decide +kernel
theorem dX5_reach_65 : decode cX5_reach 65 = .ok (.getfield 29, 3) := by decide +kernel
theorem dX5_reach_68 : decode cX5_reach 68 = .ok (.iload_n 3, 1) := by decide +kernel
theorem dX5_reach_69 : decode cX5_reach 69 = .ok (.invokevirtual 125, 3) := by decide +kernel
theorem dX5_reach_72 : decode cX5_reach 72 = .ok (.ifCond .le 7, 3) := by decide +kernel
theorem dX5_reach_75 : decode cX5_reach 75 = .ok (.iconst 1, 1) := by decide +kernel
theorem dX5_reach_76 : decode cX5_reach 76 = .ok (.goto 4, 3) := by decide +kernel
theorem dX5_reach_79 : decode cX5_reach 79 = .ok (.iconst 0, 1) := by decide +kernel
theorem dX5_reach_80 : decode cX5_reach 80 = .ok (.ireturn, 1) := by decide +kernel
theorem dL_deep_0 : decode cL_deep 0 = .ok (.aload_n 3, 1) := by decide +kernel
theorem dL_deep_1 : decode cL_deep 1 = .ok (.iconst 0, 1) := by decide +kernel
theorem dL_deep_2 : decode cL_deep 2 = .ok (.aload_n 0, 1) := by decide +kernel
theorem dL_deep_3 : decode cL_deep 3 = .ok (.iload_n 1, 1) := by decide +kernel
theorem dL_deep_4 : decode cL_deep 4 = .ok (.iload_n 2, 1) := by decide +kernel
theorem dL_deep_5 : decode cL_deep 5 = .ok (.invokevirtual 27, 3) := by decide +kernel
theorem dL_deep_8 : decode cL_deep 8 = .ok (.i2l, 1) := by decide +kernel
theorem dL_deep_9 : decode cL_deep 9 = .ok (.lastore, 1) := by decide +kernel
theorem dL_deep_10 : decode cL_deep 10 = .ok (.goto 7, 3) := by decide +kernel
theorem dL_deep_13 : decode cL_deep 13 = .ok (.astore 4, 2) := by decide +kernel
theorem dL_deep_15 : decode cL_deep 15 = .ok (.iconst 1, 1) := by decide +kernel
theorem dL_deep_16 : decode cL_deep 16 = .ok (.ireturn, 1) := by decide +kernel
theorem dL_deep_17 : decode cL_deep 17 = .ok (.iconst 0, 1) := by decide +kernel
theorem dL_deep_18 : decode cL_deep 18 = .ok (.ireturn, 1) := by decide +kernel
theorem dX5_deep_0 : decode cX5_deep 0 = .ok (.iload_n 1, 1) := by decide +kernel
theorem dX5_deep_1 : decode cX5_deep 1 = .ok (.invokestatic 116, 3) := by decide +kernel
theorem dX5_deep_4 : decode cX5_deep 4 = .ok (.ifCond .eq 10, 3) := by decide +kernel
theorem dX5_deep_7 : decode cX5_deep 7 = .ok (.iload_n 2, 1) := by decide +kernel
theorem dX5_deep_8 : decode cX5_deep 8 = .ok (.invokestatic 116, 3) := by decide +kernel
theorem dX5_deep_11 : decode cX5_deep 11 = .ok (.ifCond .ne 13, 3) := by decide +kernel
theorem dX5_deep_14 : decode cX5_deep 14 = .ok (.new 111, 3) := by decide +kernel
theorem dX5_deep_17 : decode cX5_deep 17 = .ok (.dup, 1) := by decide +kernel
theorem dX5_deep_18 : decode cX5_deep 18 = .ok (.ldc 119, 2) := by decide +kernel
theorem dX5_deep_20 : decode cX5_deep 20 = .ok (.invokespecial 115, 3) := by decide +kernel
theorem dX5_deep_23 : decode cX5_deep 23 = .ok (.athrow, 1) := by decide +kernel
theorem dX5_deep_24 : decode cX5_deep 24 = .ok (.aload_n 0, 1) := by decide +kernel
theorem dX5_deep_25 : decode cX5_deep 25 = .ok (.getfield 29, 3) := by decide +kernel
theorem dX5_deep_28 : decode cX5_deep 28 = .ok (.aload_n 0, 1) := by decide +kernel
theorem dX5_deep_29 : decode cX5_deep 29 = .ok (.getfield 19, 3) := by decide +kernel
theorem dX5_deep_32 : decode cX5_deep 32 = .ok (.iconst 0, 1) := by decide +kernel
theorem dX5_deep_33 : decode cX5_deep 33 = .ok (.iload_n 1, 1) := by decide +kernel
theorem dX5_deep_34 : decode cX5_deep 34 = .ok (.invokevirtual 121, 3) := by decide +kernel
theorem dX5_deep_37 : decode cX5_deep 37 = .ok (.aload_n 0, 1) := by decide +kernel
theorem dX5_deep_38 : decode cX5_deep 38 = .ok (.getfield 29, 3) := by decide +kernel
theorem dX5_deep_41 : decode cX5_deep 41 = .ok (.iload_n 2, 1) := by decide +kernel
theorem dX5_deep_42 : decode cX5_deep 42 = .ok (.invokevirtual 125, 3) := by decide +kernel
theorem dX5_deep_45 : decode cX5_deep 45 = .ok (.ireturn, 1) := by decide +kernel
theorem dL_at_0 : decode cL_at 0 = .ok (.aload_n 2, 1) := by decide +kernel
theorem dL_at_1 : decode cL_at 1 = .ok (.iconst 0, 1) := by decide +kernel
theorem dL_at_2 : decode cL_at 2 = .ok (.aload_n 0, 1) := by decide +kernel
theorem dL_at_3 : decode cL_at 3 = .ok (.iload_n 1, 1) := by decide +kernel
theorem dL_at_4 : decode cL_at 4 = .ok (.invokevirtual 30, 3) := by decide +kernel
theorem dL_at_7 : decode cL_at 7 = .ok (.i2l, 1) := by decide +kernel
theorem dL_at_8 : decode cL_at 8 = .ok (.lastore, 1) := by decide +kernel
theorem dL_at_9 : decode cL_at 9 = .ok (.goto 6, 3) := by decide +kernel
theorem dL_at_12 : decode cL_at 12 = .ok (.astore_n 3, 1) := by decide +kernel
theorem dL_at_13 : decode cL_at 13 = .ok (.iconst 1, 1) := by decide +kernel
theorem dL_at_14 : decode cL_at 14 = .ok (.ireturn, 1) := by decide +kernel
theorem dL_at_15 : decode cL_at 15 = .ok (.iconst 0, 1) := by decide +kernel
theorem dL_at_16 : decode cL_at 16 = .ok (.ireturn, 1) := by decide +kernel
theorem dX5_at_0 : decode cX5_at 0 = .ok (.iload_n 1, 1) := by decide +kernel
theorem dX5_at_1 : decode cX5_at 1 = .ok (.ifCond .lt 14, 3) := by decide +kernel
theorem dX5_at_4 : decode cX5_at 4 = .ok (.iload_n 1, 1) := by decide +kernel
theorem dX5_at_5 : decode cX5_at 5 = .ok (.aload_n 0, 1) := by decide +kernel
theorem dX5_at_6 : decode cX5_at 6 = .ok (.getfield 43, 3) := by decide +kernel
theorem dX5_at_9 : decode cX5_at 9 = .ok (.invokevirtual 132, 3) := by decide +kernel
theorem dX5_at_12 : decode cX5_at 12 = .ok (.if_icmp .lt 13, 3) := by decide +kernel
theorem dX5_at_15 : decode cX5_at 15 = .ok (.new 87, 3) := by decide +kernel
theorem dX5_at_18 : decode cX5_at 18 = .ok (.dup, 1) := by decide +kernel
theorem dX5_at_19 : decode cX5_at 19 = .ok (.ldc 135, 2) := by decide +kernel
theorem dX5_at_21 : decode cX5_at 21 = .ok (.invokespecial 91, 3) := by decide +kernel
theorem dX5_at_24 : decode cX5_at 24 = .ok (.athrow, 1) := by decide +kernel
theorem dX5_at_25 : decode cX5_at 25 = .ok (.aload_n 0, 1) := by decide +kernel
theorem dX5_at_26 : decode cX5_at 26 = .ok (.getfield 43, 3) := by decide +kernel
theorem dX5_at_29 : decode cX5_at 29 = .ok (.iload_n 1, 1) := by decide +kernel
theorem dX5_at_30 : decode cX5_at 30 = .ok (.invokevirtual 137, 3) := by decide +kernel
theorem dX5_at_33 : decode cX5_at 33 = .ok (.ireturn, 1) := by decide +kernel
theorem dX2_signAt_0 : decode cX2_signAt 0 = .ok (.iload_n 1, 1) := by decide +kernel
theorem dX2_signAt_1 : decode cX2_signAt 1 = .ok (.ifCond .lt 20, 3) := by decide +kernel
theorem dX2_signAt_4 : decode cX2_signAt 4 = .ok (.iload_n 1, 1) := by decide +kernel
theorem dX2_signAt_5 : decode cX2_signAt 5 = .ok (.aload_n 0, 1) := by decide +kernel
theorem dX2_signAt_6 : decode cX2_signAt 6 = .ok (.getfield 15, 3) := by decide +kernel
theorem dX2_signAt_9 : decode cX2_signAt 9 = .ok (.if_icmp .ge 12, 3) := by decide +kernel
theorem dX2_signAt_12 : decode cX2_signAt 12 = .ok (.aload_n 0, 1) := by decide +kernel
theorem dX2_signAt_13 : decode cX2_signAt 13 = .ok (.getfield 9, 3) := by decide +kernel
theorem dX2_signAt_16 : decode cX2_signAt 16 = .ok (.iload_n 1, 1) := by decide +kernel
theorem dX2_signAt_17 : decode cX2_signAt 17 = .ok (.caload, 1) := by decide +kernel
theorem dX2_signAt_18 : decode cX2_signAt 18 = .ok (.goto 4, 3) := by decide +kernel
theorem dX2_signAt_21 : decode cX2_signAt 21 = .ok (.iconst (-1), 1) := by decide +kernel
theorem dX2_signAt_22 : decode cX2_signAt 22 = .ok (.ireturn, 1) := by decide +kernel
theorem dX6_init_0 : decode cX6_init 0 = .ok (.aload_n 0, 1) := by decide +kernel
theorem dX6_init_1 : decode cX6_init 1 = .ok (.invokespecial 1, 3) := by decide +kernel
theorem dX6_init_4 : decode cX6_init 4 = .ok (.aload_n 0, 1) := by decide +kernel
theorem dX6_init_5 : decode cX6_init 5 = .ok (.sipush 500, 3) := by decide +kernel
theorem dX6_init_8 : decode cX6_init 8 = .ok (.newarray .int, 2) := by decide +kernel
theorem dX6_init_10 : decode cX6_init 10 = .ok (.putfield 7, 3) := by decide +kernel
theorem dX6_init_13 : decode cX6_init 13 = .ok (.aload_n 0, 1) := by decide +kernel
theorem dX6_init_14 : decode cX6_init 14 = .ok (.iconst (-1), 1) := by decide +kernel
theorem dX6_init_15 : decode cX6_init 15 = .ok (.putfield 13, 3) := by decide +kernel
theorem dX6_init_18 : decode cX6_init 18 = .ok (.aload_n 0, 1) := by decide +kernel
theorem dX6_init_19 : decode cX6_init 19 = .ok (.sipush 900, 3) := by decide +kernel
theorem dX6_init_22 : decode cX6_init 22 = .ok (.newarray .int, 2) := by decide +kernel
theorem dX6_init_24 : decode cX6_init 24 = .ok (.putfield 17, 3) := by decide +kernel
theorem dX6_init_27 : decode cX6_init 27 = .ok (.aload_n 0, 1) := by decide +kernel
theorem dX6_init_28 : decode cX6_init 28 = .ok (.bipush 16, 2) := by decide +kernel
theorem dX6_init_30 : decode cX6_init 30 = .ok (.newarray .int, 2) := by decide +kernel
theorem dX6_init_32 : decode cX6_init 32 = .ok (.putfield 20, 3) := by decide +kernel
theorem dX6_init_35 : decode cX6_init 35 = .ok (.aload_n 0, 1) := by decide +kernel
theorem dX6_init_36 : decode cX6_init 36 = .ok (.bipush 16, 2) := by decide +kernel
theorem dX6_init_38 : decode cX6_init 38 = .ok (.newarray .int, 2) := by decide +kernel
theorem dX6_init_40 : decode cX6_init 40 = .ok (.putfield 23, 3) := by decide +kernel
theorem dX6_init_43 : decode cX6_init 43 = .ok (.return_, 1) := by decide +kernel
theorem dX6_thrown_0 : decode cX6_thrown 0 = .ok (.aload_n 0, 1) := by decide +kernel
theorem dX6_thrown_1 : decode cX6_thrown 1 = .ok (.getfield 26, 3) := by decide +kernel
theorem dX6_thrown_4 : decode cX6_thrown 4 = .ok (.ireturn, 1) := by decide +kernel
theorem dX6_sign_0 : decode cX6_sign 0 = .ok (.aload_n 0, 1) := by decide +kernel
theorem dX6_sign_1 : decode cX6_sign 1 = .ok (.iconst 0, 1) := by decide +kernel
theorem dX6_sign_2 : decode cX6_sign 2 = .ok (.putfield 26, 3) := by decide +kernel
theorem dX6_sign_5 : decode cX6_sign 5 = .ok (.iload_n 1, 1) := by decide +kernel
theorem dX6_sign_6 : decode cX6_sign 6 = .ok (.bipush 33, 2) := by decide +kernel
theorem dX6_sign_8 : decode cX6_sign 8 = .ok (.bipush 126, 2) := by decide +kernel
theorem dX6_sign_10 : decode cX6_sign 10 = .ok (.invokestatic 33, 3) := by decide +kernel
theorem dX6_sign_13 : decode cX6_sign 13 = .ok (.ifCond .eq 13, 3) := by decide +kernel
theorem dX6_sign_16 : decode cX6_sign 16 = .ok (.aload_n 0, 1) := by decide +kernel
theorem dX6_sign_17 : decode cX6_sign 17 = .ok (.getfield 37, 3) := by decide +kernel
theorem dX6_sign_20 : decode cX6_sign 20 = .ok (.sipush 500, 3) := by decide +kernel
theorem dX6_sign_23 : decode cX6_sign 23 = .ok (.if_icmp .ne 5, 3) := by decide +kernel
theorem dX6_sign_26 : decode cX6_sign 26 = .ok (.iconst 0, 1) := by decide +kernel
theorem dX6_sign_27 : decode cX6_sign 27 = .ok (.ireturn, 1) := by decide +kernel
theorem dX6_sign_28 : decode cX6_sign 28 = .ok (.aload_n 0, 1) := by decide +kernel
theorem dX6_sign_29 : decode cX6_sign 29 = .ok (.getfield 7, 3) := by decide +kernel
theorem dX6_sign_32 : decode cX6_sign 32 = .ok (.aload_n 0, 1) := by decide +kernel
theorem dX6_sign_33 : decode cX6_sign 33 = .ok (.getfield 37, 3) := by decide +kernel
theorem dX6_sign_36 : decode cX6_sign 36 = .ok (.iload_n 1, 1) := by decide +kernel
theorem dX6_sign_37 : decode cX6_sign 37 = .ok (.iastore, 1) := by decide +kernel
theorem dX6_sign_38 : decode cX6_sign 38 = .ok (.aload_n 0, 1) := by decide +kernel
theorem dX6_sign_39 : decode cX6_sign 39 = .ok (.dup, 1) := by decide +kernel
theorem dX6_sign_40 : decode cX6_sign 40 = .ok (.getfield 37, 3) := by decide +kernel
theorem dX6_sign_43 : decode cX6_sign 43 = .ok (.iconst 1, 1) := by decide +kernel
theorem dX6_sign_44 : decode cX6_sign 44 = .ok (.iadd, 1) := by decide +kernel
theorem dX6_sign_45 : decode cX6_sign 45 = .ok (.putfield 37, 3) := by decide +kernel
theorem dX6_sign_48 : decode cX6_sign 48 = .ok (.iconst 1, 1) := by decide +kernel
theorem dX6_sign_49 : decode cX6_sign 49 = .ok (.ireturn, 1) := by decide +kernel
theorem dX6_in_0 : decode cX6_in 0 = .ok (.iload_n 0, 1) := by decide +kernel
theorem dX6_in_1 : decode cX6_in 1 = .ok (.iload_n 1, 1) := by decide +kernel
theorem dX6_in_2 : decode cX6_in 2 = .ok (.if_icmp .lt 12, 3) := by decide +kernel
theorem dX6_in_5 : decode cX6_in 5 = .ok (.iload_n 0, 1) := by decide +kernel
theorem dX6_in_6 : decode cX6_in 6 = .ok (.iload_n 2, 1) := by decide +kernel
theorem dX6_in_7 : decode cX6_in 7 = .ok (.if_icmp .gt 7, 3) := by decide +kernel
theorem dX6_in_10 : decode cX6_in 10 = .ok (.iconst 1, 1) := by decide +kernel
theorem dX6_in_11 : decode cX6_in 11 = .ok (.goto 4, 3) := by decide +kernel
theorem dX6_in_14 : decode cX6_in 14 = .ok (.iconst 0, 1) := by decide +kernel
theorem dX6_in_15 : decode cX6_in 15 = .ok (.ireturn, 1) := by decide +kernel
theorem dX6_read_0 : decode cX6_read 0 = .ok (.aload_n 0, 1) := by decide +kernel
theorem dX6_read_1 : decode cX6_read 1 = .ok (.iconst 0, 1) := by decide +kernel
theorem dX6_read_2 : decode cX6_read 2 = .ok (.putfield 40, 3) := by decide +kernel
theorem dX6_read_5 : decode cX6_read 5 = .ok (.aload_n 0, 1) := by decide +kernel
theorem dX6_read_6 : decode cX6_read 6 = .ok (.iconst (-1), 1) := by decide +kernel
theorem dX6_read_7 : decode cX6_read 7 = .ok (.putfield 13, 3) := by decide +kernel
theorem dX6_read_10 : decode cX6_read 10 = .ok (.aload_n 0, 1) := by decide +kernel
theorem dX6_read_11 : decode cX6_read 11 = .ok (.iconst 0, 1) := by decide +kernel
theorem dX6_read_12 : decode cX6_read 12 = .ok (.putfield 50, 3) := by decide +kernel
theorem dX6_read_15 : decode cX6_read 15 = .ok (.iconst 0, 1) := by decide +kernel
theorem dX6_read_16 : decode cX6_read 16 = .ok (.istore_n 1, 1) := by decide +kernel
theorem dX6_read_17 : decode cX6_read 17 = .ok (.iload_n 1, 1) := by decide +kernel
theorem dX6_read_18 : decode cX6_read 18 = .ok (.ifCond .lt 38, 3) := by decide +kernel
theorem dX6_read_21 : decode cX6_read 21 = .ok (.iload_n 1, 1) := by decide +kernel
theorem dX6_read_22 : decode cX6_read 22 = .ok (.aload_n 0, 1) := by decide +kernel
theorem dX6_read_23 : decode cX6_read 23 = .ok (.getfield 37, 3) := by decide +kernel
theorem dX6_read_26 : decode cX6_read 26 = .ok (.if_icmp .ge 30, 3) := by decide +kernel
theorem dX6_read_29 : decode cX6_read 29 = .ok (.aload_n 0, 1) := by decide +kernel
theorem dX6_read_30 : decode cX6_read 30 = .ok (.iload_n 1, 1) := by decide +kernel
theorem dX6_read_31 : decode cX6_read 31 = .ok (.invokevirtual 80, 3) := by decide +kernel
theorem dX6_read_34 : decode cX6_read 34 = .ok (.istore_n 1, 1) := by decide +kernel
theorem dX6_read_35 : decode cX6_read 35 = .ok (.aload_n 0, 1) := by decide +kernel
theorem dX6_read_36 : decode cX6_read 36 = .ok (.dup, 1) := by decide +kernel
theorem dX6_read_37 : decode cX6_read 37 = .ok (.getfield 50, 3) := by decide +kernel
theorem dX6_read_40 : decode cX6_read 40 = .ok (.iload_n 1, 1) := by decide +kernel
theorem dX6_read_41 : decode cX6_read 41 = .ok (.ifCond .lt 7, 3) := by decide +kernel
theorem dX6_read_44 : decode cX6_read 44 = .ok (.iconst 1, 1) := by decide +kernel
theorem dX6_read_45 : decode cX6_read 45 = .ok (.goto 4, 3) := by decide +kernel
theorem dX6_read_48 : decode cX6_read 48 = .ok (.iconst 0, 1) := by decide +kernel
theorem dX6_read_49 : decode cX6_read 49 = .ok (.iadd, 1) := by decide +kernel
theorem dX6_read_50 : decode cX6_read 50 = .ok (.putfield 50, 3) := by decide +kernel
theorem dX6_read_53 : decode cX6_read 53 = .ok (.goto (-36), 3) := by decide +kernel
theorem dX6_read_56 : decode cX6_read 56 = .ok (.aload_n 0, 1) := by decide +kernel
theorem dX6_read_57 : decode cX6_read 57 = .ok (.iconst 0, 1) := by decide +kernel
theorem dX6_read_58 : decode cX6_read 58 = .ok (.putfield 37, 3) := by decide +kernel
theorem dX6_read_61 : decode cX6_read 61 = .ok (.iload_n 1, 1) := by decide +kernel
theorem dX6_read_62 : decode cX6_read 62 = .ok (.ifCond .ge 9, 3) := by decide +kernel
theorem dX6_read_65 : decode cX6_read 65 = .ok (.aload_n 0, 1) := by decide +kernel
theorem dX6_read_66 : decode cX6_read 66 = .ok (.iconst 1, 1) := by decide +kernel
theorem dX6_read_67 : decode cX6_read 67 = .ok (.invokevirtual 83, 3) := by decide +kernel
theorem dX6_read_70 : decode cX6_read 70 = .ok (.ireturn, 1) := by decide +kernel
theorem dX6_read_71 : decode cX6_read 71 = .ok (.aload_n 0, 1) := by decide +kernel
theorem dX6_read_72 : decode cX6_read 72 = .ok (.iconst 0, 1) := by decide +kernel
theorem dX6_read_73 : decode cX6_read 73 = .ok (.putfield 26, 3) := by decide +kernel
theorem dX6_read_76 : decode cX6_read 76 = .ok (.aload_n 0, 1) := by decide +kernel
theorem dX6_read_77 : decode cX6_read 77 = .ok (.aload_n 0, 1) := by decide +kernel
theorem dX6_read_78 : decode cX6_read 78 = .ok (.getfield 50, 3) := by decide +kernel
theorem dX6_read_81 : decode cX6_read 81 = .ok (.putfield 86, 3) := by decide +kernel
theorem dX6_read_84 : decode cX6_read 84 = .ok (.aload_n 0, 1) := by decide +kernel
theorem dX6_read_85 : decode cX6_read 85 = .ok (.sipush 600, 3) := by decide +kernel
theorem dX6_read_88 : decode cX6_read 88 = .ok (.iconst 0, 1) := by decide +kernel
theorem dX6_read_89 : decode cX6_read 89 = .ok (.aload_n 0, 1) := by decide +kernel
theorem dX6_read_90 : decode cX6_read 90 = .ok (.getfield 86, 3) := by decide +kernel
theorem dX6_read_93 : decode cX6_read 93 = .ok (.invokevirtual 89, 3) := by decide +kernel
theorem dX6_read_96 : decode cX6_read 96 = .ok (.aload_n 0, 1) := by decide +kernel
theorem dX6_read_97 : decode cX6_read 97 = .ok (.getfield 86, 3) := by decide +kernel
theorem dX6_read_100 : decode cX6_read 100 = .ok (.ireturn, 1) := by decide +kernel
theorem dX6_readsRow_0 : decode cX6_readsRow 0 = .ok (.aload_n 0, 1) := by decide +kernel
theorem dX6_readsRow_1 : decode cX6_readsRow 1 = .ok (.getfield 7, 3) := by decide +kernel
theorem dX6_readsRow_4 : decode cX6_readsRow 4 = .ok (.iload_n 1, 1) := by decide +kernel
theorem dX6_readsRow_5 : decode cX6_readsRow 5 = .ok (.iaload, 1) := by decide +kernel
theorem dX6_readsRow_6 : decode cX6_readsRow 6 = .ok (.invokestatic 70, 3) := by decide +kernel
theorem dX6_readsRow_9 : decode cX6_readsRow 9 = .ok (.istore_n 2, 1) := by decide +kernel
theorem dX6_readsRow_10 : decode cX6_readsRow 10 = .ok (.iload_n 2, 1) := by decide +kernel
theorem dX6_readsRow_11 : decode cX6_readsRow 11 = .ok (.ifCond .lt 12, 3) := by decide +kernel
theorem dX6_readsRow_14 : decode cX6_readsRow 14 = .ok (.aload_n 0, 1) := by decide +kernel
theorem dX6_readsRow_15 : decode cX6_readsRow 15 = .ok (.getfield 50, 3) := by decide +kernel
theorem dX6_readsRow_18 : decode cX6_readsRow 18 = .ok (.bipush 50, 2) := by decide +kernel
theorem dX6_readsRow_20 : decode cX6_readsRow 20 = .ok (.if_icmp .ne 18, 3) := by decide +kernel
theorem dX6_readsRow_23 : decode cX6_readsRow 23 = .ok (.aload_n 0, 1) := by decide +kernel
theorem dX6_readsRow_24 : decode cX6_readsRow 24 = .ok (.iload_n 2, 1) := by decide +kernel
theorem dX6_readsRow_25 : decode cX6_readsRow 25 = .ok (.ifCond .ge 7, 3) := by decide +kernel
theorem dX6_readsRow_28 : decode cX6_readsRow 28 = .ok (.iconst 1, 1) := by decide +kernel
theorem dX6_readsRow_29 : decode cX6_readsRow 29 = .ok (.goto 4, 3) := by decide +kernel
theorem dX6_readsRow_32 : decode cX6_readsRow 32 = .ok (.iconst 5, 1) := by decide +kernel
theorem dX6_readsRow_33 : decode cX6_readsRow 33 = .ok (.iload_n 1, 1) := by decide +kernel
theorem dX6_readsRow_34 : decode cX6_readsRow 34 = .ok (.invokevirtual 63, 3) := by decide +kernel
theorem dX6_readsRow_37 : decode cX6_readsRow 37 = .ok (.ireturn, 1) := by decide +kernel
theorem dX6_readsRow_38 : decode cX6_readsRow 38 = .ok (.aload_n 0, 1) := by decide +kernel
theorem dX6_readsRow_39 : decode cX6_readsRow 39 = .ok (.getfield 17, 3) := by decide +kernel
theorem dX6_readsRow_42 : decode cX6_readsRow 42 = .ok (.sipush 600, 3) := by decide +kernel
theorem dX6_readsRow_45 : decode cX6_readsRow 45 = .ok (.bipush 6, 2) := by decide +kernel
theorem dX6_readsRow_47 : decode cX6_readsRow 47 = .ok (.aload_n 0, 1) := by decide +kernel
theorem dX6_readsRow_48 : decode cX6_readsRow 48 = .ok (.getfield 50, 3) := by decide +kernel
theorem dX6_readsRow_51 : decode cX6_readsRow 51 = .ok (.imul, 1) := by decide +kernel
theorem dX6_readsRow_52 : decode cX6_readsRow 52 = .ok (.iadd, 1) := by decide +kernel
theorem dX6_readsRow_53 : decode cX6_readsRow 53 = .ok (.iload_n 2, 1) := by decide +kernel
theorem dX6_readsRow_54 : decode cX6_readsRow 54 = .ok (.iastore, 1) := by decide +kernel
theorem dX6_readsRow_55 : decode cX6_readsRow 55 = .ok (.aload_n 0, 1) := by decide +kernel
theorem dX6_readsRow_56 : decode cX6_readsRow 56 = .ok (.iload_n 1, 1) := by decide +kernel
theorem dX6_readsRow_57 : decode cX6_readsRow 57 = .ok (.iconst 1, 1) := by decide +kernel
theorem dX6_readsRow_58 : decode cX6_readsRow 58 = .ok (.iadd, 1) := by decide +kernel
theorem dX6_readsRow_59 : decode cX6_readsRow 59 = .ok (.iconst (-1), 1) := by decide +kernel
theorem dX6_readsRow_60 : decode cX6_readsRow 60 = .ok (.bipush 61, 2) := by decide +kernel
theorem dX6_readsRow_62 : decode cX6_readsRow 62 = .ok (.invokevirtual 73, 3) := by decide +kernel
theorem dX6_readsRow_65 : decode cX6_readsRow 65 = .ok (.istore_n 3, 1) := by decide +kernel
theorem dX6_readsRow_66 : decode cX6_readsRow 66 = .ok (.iload_n 2, 1) := by decide +kernel
theorem dX6_readsRow_67 : decode cX6_readsRow 67 = .ok (.invokestatic 77, 3) := by decide +kernel
theorem dX6_readsRow_70 : decode cX6_readsRow 70 = .ok (.istore 4, 2) := by decide +kernel
theorem dX6_readsRow_72 : decode cX6_readsRow 72 = .ok (.iconst 0, 1) := by decide +kernel
theorem dX6_readsRow_73 : decode cX6_readsRow 73 = .ok (.istore 5, 2) := by decide +kernel
theorem dX6_readsRow_75 : decode cX6_readsRow 75 = .ok (.iload 5, 2) := by decide +kernel
theorem dX6_readsRow_77 : decode cX6_readsRow 77 = .ok (.iload 4, 2) := by decide +kernel
theorem dX6_readsRow_79 : decode cX6_readsRow 79 = .ok (.if_icmp .ge 37, 3) := by decide +kernel
theorem dX6_readsRow_82 : decode cX6_readsRow 82 = .ok (.iload_n 3, 1) := by decide +kernel
theorem dX6_readsRow_83 : decode cX6_readsRow 83 = .ok (.ifCond .lt 33, 3) := by decide +kernel
theorem dX6_readsRow_86 : decode cX6_readsRow 86 = .ok (.aload_n 0, 1) := by decide +kernel
theorem dX6_readsRow_87 : decode cX6_readsRow 87 = .ok (.iload_n 3, 1) := by decide +kernel
theorem dX6_readsRow_88 : decode cX6_readsRow 88 = .ok (.iload 5, 2) := by decide +kernel
theorem dX6_readsRow_90 : decode cX6_readsRow 90 = .ok (.iload 5, 2) := by decide +kernel
theorem dX6_readsRow_92 : decode cX6_readsRow 92 = .ok (.iload 4, 2) := by decide +kernel
theorem dX6_readsRow_94 : decode cX6_readsRow 94 = .ok (.iconst 1, 1) := by decide +kernel
theorem dX6_readsRow_95 : decode cX6_readsRow 95 = .ok (.isub, 1) := by decide +kernel
theorem dX6_readsRow_96 : decode cX6_readsRow 96 = .ok (.if_icmp .ne 8, 3) := by decide +kernel
theorem dX6_readsRow_99 : decode cX6_readsRow 99 = .ok (.bipush 59, 2) := by decide +kernel
theorem dX6_readsRow_101 : decode cX6_readsRow 101 = .ok (.goto 5, 3) := by decide +kernel
theorem dX6_readsRow_104 : decode cX6_readsRow 104 = .ok (.bipush 44, 2) := by decide +kernel
theorem dX6_readsRow_106 : decode cX6_readsRow 106 = .ok (.invokevirtual 73, 3) := by decide +kernel
theorem dX6_readsRow_109 : decode cX6_readsRow 109 = .ok (.istore_n 3, 1) := by decide +kernel
theorem dX6_readsRow_110 : decode cX6_readsRow 110 = .ok (.iinc 5 1, 3) := by decide +kernel
theorem dX6_readsRow_113 : decode cX6_readsRow 113 = .ok (.goto (-38), 3) := by decide +kernel
theorem dX6_readsRow_116 : decode cX6_readsRow 116 = .ok (.iload 4, 2) := by decide +kernel
theorem dX6_readsRow_118 : decode cX6_readsRow 118 = .ok (.istore 5, 2) := by decide +kernel
theorem dX6_readsRow_120 : decode cX6_readsRow 120 = .ok (.iload 5, 2) := by decide +kernel
theorem dX6_readsRow_122 : decode cX6_readsRow 122 = .ok (.iconst 4, 1) := by decide +kernel
theorem dX6_readsRow_123 : decode cX6_readsRow 123 = .ok (.if_icmp .ge 31, 3) := by decide +kernel
theorem dX6_readsRow_126 : decode cX6_readsRow 126 = .ok (.aload_n 0, 1) := by decide +kernel
theorem dX6_readsRow_127 : decode cX6_readsRow 127 = .ok (.getfield 17, 3) := by decide +kernel
theorem dX6_readsRow_130 : decode cX6_readsRow 130 = .ok (.sipush 600, 3) := by decide +kernel
theorem dX6_readsRow_133 : decode cX6_readsRow 133 = .ok (.bipush 6, 2) := by decide +kernel
theorem dX6_readsRow_135 : decode cX6_readsRow 135 = .ok (.aload_n 0, 1) := by decide +kernel
theorem dX6_readsRow_136 : decode cX6_readsRow 136 = .ok (.getfield 50, 3) := by decide +kernel
theorem dX6_readsRow_139 : decode cX6_readsRow 139 = .ok (.imul, 1) := by decide +kernel
theorem dX6_readsRow_140 : decode cX6_readsRow 140 = .ok (.iadd, 1) := by decide +kernel
theorem dX6_readsRow_141 : decode cX6_readsRow 141 = .ok (.iconst 2, 1) := by decide +kernel
theorem dX6_readsRow_142 : decode cX6_readsRow 142 = .ok (.iadd, 1) := by decide +kernel
theorem dX6_readsRow_143 : decode cX6_readsRow 143 = .ok (.iload 5, 2) := by decide +kernel
theorem dX6_readsRow_145 : decode cX6_readsRow 145 = .ok (.iadd, 1) := by decide +kernel
theorem dX6_readsRow_146 : decode cX6_readsRow 146 = .ok (.iconst 0, 1) := by decide +kernel
theorem dX6_readsRow_147 : decode cX6_readsRow 147 = .ok (.iastore, 1) := by decide +kernel
theorem dX6_readsRow_148 : decode cX6_readsRow 148 = .ok (.iinc 5 1, 3) := by decide +kernel
theorem dX6_readsRow_151 : decode cX6_readsRow 151 = .ok (.goto (-31), 3) := by decide +kernel
theorem dX6_readsRow_154 : decode cX6_readsRow 154 = .ok (.iload_n 3, 1) := by decide +kernel
theorem dX6_readsRow_155 : decode cX6_readsRow 155 = .ok (.ireturn, 1) := by decide +kernel
theorem dX6_kindOf_0 : decode cX6_kindOf 0 = .ok (.iconst (-1), 1) := by decide +kernel
theorem dX6_kindOf_1 : decode cX6_kindOf 1 = .ok (.istore_n 1, 1) := by decide +kernel
end
section
theorem dX6_kindOf_2 : decode cX6_kindOf 2 = .ok (.iconst 0, 1) := by decide +kernel
theorem dX6_kindOf_3 : decode cX6_kindOf 3 = .ok (.istore_n 2, 1) := by decide +kernel
theorem dX6_kindOf_4 : decode cX6_kindOf 4 = .ok (.iload_n 2, 1) := by decide +kernel
theorem dX6_kindOf_5 : decode cX6_kindOf 5 = .ok (.bipush 6, 2) := by decide +kernel
theorem dX6_kindOf_7 : decode cX6_kindOf 7 = .ok (.if_icmp .ge 23, 3) := by decide +kernel
theorem dX6_kindOf_10 : decode cX6_kindOf 10 = .ok (.iload_n 2, 1) := by decide +kernel
theorem dX6_kindOf_11 : decode cX6_kindOf 11 = .ok (.invokestatic 29, 3) := by decide +kernel
theorem dX6_kindOf_14 : decode cX6_kindOf 14 = .ok (.iload_n 0, 1) := by decide +kernel
theorem dX6_kindOf_15 : decode cX6_kindOf 15 = .ok (.if_icmp .ne 7, 3) := by decide +kernel
theorem dX6_kindOf_18 : decode cX6_kindOf 18 = .ok (.iload_n 2, 1) := by decide +kernel
theorem dX6_kindOf_19 : decode cX6_kindOf 19 = .ok (.goto 4, 3) := by decide +kernel
theorem dX6_kindOf_22 : decode cX6_kindOf 22 = .ok (.iload_n 1, 1) := by decide +kernel
theorem dX6_kindOf_23 : decode cX6_kindOf 23 = .ok (.istore_n 1, 1) := by decide +kernel
theorem dX6_kindOf_24 : decode cX6_kindOf 24 = .ok (.iinc 2 1, 3) := by decide +kernel
theorem dX6_kindOf_27 : decode cX6_kindOf 27 = .ok (.goto (-23), 3) := by decide +kernel
theorem dX6_kindOf_30 : decode cX6_kindOf 30 = .ok (.iload_n 1, 1) := by decide +kernel
theorem dX6_kindOf_31 : decode cX6_kindOf 31 = .ok (.ireturn, 1) := by decide +kernel
theorem dX6_letterOf_0 : decode cX6_letterOf 0 = .ok (.iload_n 0, 1) := by decide +kernel
theorem dX6_letterOf_1 : decode cX6_letterOf 1 = .ok (.tableswitch 50 0 4 #[35, 38, 41, 44, 47], 35) := by decide +kernel
theorem dX6_letterOf_36 : decode cX6_letterOf 36 = .ok (.bipush 67, 2) := by decide +kernel
theorem dX6_letterOf_38 : decode cX6_letterOf 38 = .ok (.ireturn, 1) := by decide +kernel
theorem dX6_letterOf_39 : decode cX6_letterOf 39 = .ok (.bipush 76, 2) := by decide +kernel
theorem dX6_letterOf_41 : decode cX6_letterOf 41 = .ok (.ireturn, 1) := by decide +kernel
theorem dX6_letterOf_42 : decode cX6_letterOf 42 = .ok (.bipush 66, 2) := by decide +kernel
theorem dX6_letterOf_44 : decode cX6_letterOf 44 = .ok (.ireturn, 1) := by decide +kernel
theorem dX6_letterOf_45 : decode cX6_letterOf 45 = .ok (.bipush 89, 2) := by decide +kernel
theorem dX6_letterOf_47 : decode cX6_letterOf 47 = .ok (.ireturn, 1) := by decide +kernel
theorem dX6_letterOf_48 : decode cX6_letterOf 48 = .ok (.bipush 82, 2) := by decide +kernel
theorem dX6_letterOf_50 : decode cX6_letterOf 50 = .ok (.ireturn, 1) := by decide +kernel
theorem dX6_letterOf_51 : decode cX6_letterOf 51 = .ok (.bipush 71, 2) := by decide +kernel
theorem dX6_letterOf_53 : decode cX6_letterOf 53 = .ok (.ireturn, 1) := by decide +kernel
theorem dX6_fails_0 : decode cX6_fails 0 = .ok (.aload_n 0, 1) := by decide +kernel
theorem dX6_fails_1 : decode cX6_fails 1 = .ok (.iload_n 1, 1) := by decide +kernel
theorem dX6_fails_2 : decode cX6_fails 2 = .ok (.putfield 40, 3) := by decide +kernel
theorem dX6_fails_5 : decode cX6_fails 5 = .ok (.aload_n 0, 1) := by decide +kernel
theorem dX6_fails_6 : decode cX6_fails 6 = .ok (.iload_n 2, 1) := by decide +kernel
theorem dX6_fails_7 : decode cX6_fails 7 = .ok (.putfield 13, 3) := by decide +kernel
theorem dX6_fails_10 : decode cX6_fails 10 = .ok (.iconst (-1), 1) := by decide +kernel
theorem dX6_fails_11 : decode cX6_fails 11 = .ok (.ireturn, 1) := by decide +kernel
theorem dX6_readsNumber_0 : decode cX6_readsNumber 0 = .ok (.aload_n 0, 1) := by decide +kernel
theorem dX6_readsNumber_1 : decode cX6_readsNumber 1 = .ok (.iload_n 1, 1) := by decide +kernel
theorem dX6_readsNumber_2 : decode cX6_readsNumber 2 = .ok (.invokevirtual 60, 3) := by decide +kernel
theorem dX6_readsNumber_5 : decode cX6_readsNumber 5 = .ok (.istore 4, 2) := by decide +kernel
theorem dX6_readsNumber_7 : decode cX6_readsNumber 7 = .ok (.iload 4, 2) := by decide +kernel
theorem dX6_readsNumber_9 : decode cX6_readsNumber 9 = .ok (.ifCond .ge 10, 3) := by decide +kernel
theorem dX6_readsNumber_12 : decode cX6_readsNumber 12 = .ok (.aload_n 0, 1) := by decide +kernel
theorem dX6_readsNumber_13 : decode cX6_readsNumber 13 = .ok (.iconst 1, 1) := by decide +kernel
theorem dX6_readsNumber_14 : decode cX6_readsNumber 14 = .ok (.iload_n 1, 1) := by decide +kernel
theorem dX6_readsNumber_15 : decode cX6_readsNumber 15 = .ok (.invokevirtual 63, 3) := by decide +kernel
theorem dX6_readsNumber_18 : decode cX6_readsNumber 18 = .ok (.ireturn, 1) := by decide +kernel
theorem dX6_readsNumber_19 : decode cX6_readsNumber 19 = .ok (.aload_n 0, 1) := by decide +kernel
theorem dX6_readsNumber_20 : decode cX6_readsNumber 20 = .ok (.iload_n 2, 1) := by decide +kernel
theorem dX6_readsNumber_21 : decode cX6_readsNumber 21 = .ok (.iload 4, 2) := by decide +kernel
theorem dX6_readsNumber_23 : decode cX6_readsNumber 23 = .ok (.invokevirtual 67, 3) := by decide +kernel
theorem dX6_readsNumber_26 : decode cX6_readsNumber 26 = .ok (.istore 5, 2) := by decide +kernel
theorem dX6_readsNumber_28 : decode cX6_readsNumber 28 = .ok (.iload 5, 2) := by decide +kernel
theorem dX6_readsNumber_30 : decode cX6_readsNumber 30 = .ok (.ifCond .le 11, 3) := by decide +kernel
theorem dX6_readsNumber_33 : decode cX6_readsNumber 33 = .ok (.aload_n 0, 1) := by decide +kernel
theorem dX6_readsNumber_34 : decode cX6_readsNumber 34 = .ok (.iload 5, 2) := by decide +kernel
theorem dX6_readsNumber_36 : decode cX6_readsNumber 36 = .ok (.iload_n 1, 1) := by decide +kernel
theorem dX6_readsNumber_37 : decode cX6_readsNumber 37 = .ok (.invokevirtual 63, 3) := by decide +kernel
theorem dX6_readsNumber_40 : decode cX6_readsNumber 40 = .ok (.ireturn, 1) := by decide +kernel
theorem dX6_readsNumber_41 : decode cX6_readsNumber 41 = .ok (.aload_n 0, 1) := by decide +kernel
theorem dX6_readsNumber_42 : decode cX6_readsNumber 42 = .ok (.getfield 17, 3) := by decide +kernel
theorem dX6_readsNumber_45 : decode cX6_readsNumber 45 = .ok (.sipush 600, 3) := by decide +kernel
theorem dX6_readsNumber_48 : decode cX6_readsNumber 48 = .ok (.bipush 6, 2) := by decide +kernel
theorem dX6_readsNumber_50 : decode cX6_readsNumber 50 = .ok (.aload_n 0, 1) := by decide +kernel
theorem dX6_readsNumber_51 : decode cX6_readsNumber 51 = .ok (.getfield 50, 3) := by decide +kernel
theorem dX6_readsNumber_54 : decode cX6_readsNumber 54 = .ok (.imul, 1) := by decide +kernel
theorem dX6_readsNumber_55 : decode cX6_readsNumber 55 = .ok (.iadd, 1) := by decide +kernel
theorem dX6_readsNumber_56 : decode cX6_readsNumber 56 = .ok (.iconst 2, 1) := by decide +kernel
theorem dX6_readsNumber_57 : decode cX6_readsNumber 57 = .ok (.iadd, 1) := by decide +kernel
theorem dX6_readsNumber_58 : decode cX6_readsNumber 58 = .ok (.iload_n 2, 1) := by decide +kernel
theorem dX6_readsNumber_59 : decode cX6_readsNumber 59 = .ok (.iadd, 1) := by decide +kernel
theorem dX6_readsNumber_60 : decode cX6_readsNumber 60 = .ok (.iload 4, 2) := by decide +kernel
theorem dX6_readsNumber_62 : decode cX6_readsNumber 62 = .ok (.iastore, 1) := by decide +kernel
theorem dX6_readsNumber_63 : decode cX6_readsNumber 63 = .ok (.aload_n 0, 1) := by decide +kernel
theorem dX6_readsNumber_64 : decode cX6_readsNumber 64 = .ok (.iload_n 1, 1) := by decide +kernel
theorem dX6_readsNumber_65 : decode cX6_readsNumber 65 = .ok (.iconst 1, 1) := by decide +kernel
theorem dX6_readsNumber_66 : decode cX6_readsNumber 66 = .ok (.iadd, 1) := by decide +kernel
theorem dX6_readsNumber_67 : decode cX6_readsNumber 67 = .ok (.invokevirtual 43, 3) := by decide +kernel
theorem dX6_readsNumber_70 : decode cX6_readsNumber 70 = .ok (.invokestatic 46, 3) := by decide +kernel
theorem dX6_readsNumber_73 : decode cX6_readsNumber 73 = .ok (.ifCond .eq 9, 3) := by decide +kernel
theorem dX6_readsNumber_76 : decode cX6_readsNumber 76 = .ok (.iload_n 1, 1) := by decide +kernel
theorem dX6_readsNumber_77 : decode cX6_readsNumber 77 = .ok (.iconst 2, 1) := by decide +kernel
theorem dX6_readsNumber_78 : decode cX6_readsNumber 78 = .ok (.iadd, 1) := by decide +kernel
theorem dX6_readsNumber_79 : decode cX6_readsNumber 79 = .ok (.goto 6, 3) := by decide +kernel
theorem dX6_readsNumber_82 : decode cX6_readsNumber 82 = .ok (.iload_n 1, 1) := by decide +kernel
theorem dX6_readsNumber_83 : decode cX6_readsNumber 83 = .ok (.iconst 1, 1) := by decide +kernel
theorem dX6_readsNumber_84 : decode cX6_readsNumber 84 = .ok (.iadd, 1) := by decide +kernel
theorem dX6_readsNumber_85 : decode cX6_readsNumber 85 = .ok (.istore 6, 2) := by decide +kernel
theorem dX6_readsNumber_87 : decode cX6_readsNumber 87 = .ok (.aload_n 0, 1) := by decide +kernel
theorem dX6_readsNumber_88 : decode cX6_readsNumber 88 = .ok (.iload 6, 2) := by decide +kernel
theorem dX6_readsNumber_90 : decode cX6_readsNumber 90 = .ok (.invokevirtual 43, 3) := by decide +kernel
theorem dX6_readsNumber_93 : decode cX6_readsNumber 93 = .ok (.iload_n 3, 1) := by decide +kernel
theorem dX6_readsNumber_94 : decode cX6_readsNumber 94 = .ok (.if_icmp .ne 10, 3) := by decide +kernel
theorem dX6_readsNumber_97 : decode cX6_readsNumber 97 = .ok (.iload 6, 2) := by decide +kernel
theorem dX6_readsNumber_99 : decode cX6_readsNumber 99 = .ok (.iconst 1, 1) := by decide +kernel
theorem dX6_readsNumber_100 : decode cX6_readsNumber 100 = .ok (.iadd, 1) := by decide +kernel
theorem dX6_readsNumber_101 : decode cX6_readsNumber 101 = .ok (.goto 10, 3) := by decide +kernel
theorem dX6_readsNumber_104 : decode cX6_readsNumber 104 = .ok (.aload_n 0, 1) := by decide +kernel
theorem dX6_readsNumber_105 : decode cX6_readsNumber 105 = .ok (.iconst 1, 1) := by decide +kernel
theorem dX6_readsNumber_106 : decode cX6_readsNumber 106 = .ok (.iload 6, 2) := by decide +kernel
theorem dX6_readsNumber_108 : decode cX6_readsNumber 108 = .ok (.invokevirtual 63, 3) := by decide +kernel
theorem dX6_readsNumber_111 : decode cX6_readsNumber 111 = .ok (.ireturn, 1) := by decide +kernel
theorem dX6_numberAt_0 : decode cX6_numberAt 0 = .ok (.aload_n 0, 1) := by decide +kernel
theorem dX6_numberAt_1 : decode cX6_numberAt 1 = .ok (.iload_n 1, 1) := by decide +kernel
theorem dX6_numberAt_2 : decode cX6_numberAt 2 = .ok (.invokevirtual 43, 3) := by decide +kernel
theorem dX6_numberAt_5 : decode cX6_numberAt 5 = .ok (.istore_n 2, 1) := by decide +kernel
theorem dX6_numberAt_6 : decode cX6_numberAt 6 = .ok (.aload_n 0, 1) := by decide +kernel
theorem dX6_numberAt_7 : decode cX6_numberAt 7 = .ok (.iload_n 1, 1) := by decide +kernel
theorem dX6_numberAt_8 : decode cX6_numberAt 8 = .ok (.iconst 1, 1) := by decide +kernel
theorem dX6_numberAt_9 : decode cX6_numberAt 9 = .ok (.iadd, 1) := by decide +kernel
theorem dX6_numberAt_10 : decode cX6_numberAt 10 = .ok (.invokevirtual 43, 3) := by decide +kernel
theorem dX6_numberAt_13 : decode cX6_numberAt 13 = .ok (.istore_n 3, 1) := by decide +kernel
theorem dX6_numberAt_14 : decode cX6_numberAt 14 = .ok (.iload_n 2, 1) := by decide +kernel
theorem dX6_numberAt_15 : decode cX6_numberAt 15 = .ok (.invokestatic 46, 3) := by decide +kernel
theorem dX6_numberAt_18 : decode cX6_numberAt 18 = .ok (.ifCond .ne 7, 3) := by decide +kernel
theorem dX6_numberAt_21 : decode cX6_numberAt 21 = .ok (.iconst (-1), 1) := by decide +kernel
theorem dX6_numberAt_22 : decode cX6_numberAt 22 = .ok (.goto 29, 3) := by decide +kernel
theorem dX6_numberAt_25 : decode cX6_numberAt 25 = .ok (.iload_n 3, 1) := by decide +kernel
theorem dX6_numberAt_26 : decode cX6_numberAt 26 = .ok (.invokestatic 46, 3) := by decide +kernel
theorem dX6_numberAt_29 : decode cX6_numberAt 29 = .ok (.ifCond .eq 18, 3) := by decide +kernel
theorem dX6_numberAt_32 : decode cX6_numberAt 32 = .ok (.bipush 10, 2) := by decide +kernel
theorem dX6_numberAt_34 : decode cX6_numberAt 34 = .ok (.iload_n 2, 1) := by decide +kernel
theorem dX6_numberAt_35 : decode cX6_numberAt 35 = .ok (.bipush 48, 2) := by decide +kernel
theorem dX6_numberAt_37 : decode cX6_numberAt 37 = .ok (.isub, 1) := by decide +kernel
theorem dX6_numberAt_38 : decode cX6_numberAt 38 = .ok (.imul, 1) := by decide +kernel
theorem dX6_numberAt_39 : decode cX6_numberAt 39 = .ok (.iload_n 3, 1) := by decide +kernel
theorem dX6_numberAt_40 : decode cX6_numberAt 40 = .ok (.iadd, 1) := by decide +kernel
theorem dX6_numberAt_41 : decode cX6_numberAt 41 = .ok (.bipush 48, 2) := by decide +kernel
theorem dX6_numberAt_43 : decode cX6_numberAt 43 = .ok (.isub, 1) := by decide +kernel
theorem dX6_numberAt_44 : decode cX6_numberAt 44 = .ok (.goto 7, 3) := by decide +kernel
theorem dX6_numberAt_47 : decode cX6_numberAt 47 = .ok (.iload_n 2, 1) := by decide +kernel
theorem dX6_numberAt_48 : decode cX6_numberAt 48 = .ok (.bipush 48, 2) := by decide +kernel
theorem dX6_numberAt_50 : decode cX6_numberAt 50 = .ok (.isub, 1) := by decide +kernel
theorem dX6_numberAt_51 : decode cX6_numberAt 51 = .ok (.ireturn, 1) := by decide +kernel
theorem dX6_signAt_0 : decode cX6_signAt 0 = .ok (.iload_n 1, 1) := by decide +kernel
theorem dX6_signAt_1 : decode cX6_signAt 1 = .ok (.aload_n 0, 1) := by decide +kernel
theorem dX6_signAt_2 : decode cX6_signAt 2 = .ok (.getfield 37, 3) := by decide +kernel
theorem dX6_signAt_5 : decode cX6_signAt 5 = .ok (.if_icmp .ge 12, 3) := by decide +kernel
theorem dX6_signAt_8 : decode cX6_signAt 8 = .ok (.aload_n 0, 1) := by decide +kernel
theorem dX6_signAt_9 : decode cX6_signAt 9 = .ok (.getfield 7, 3) := by decide +kernel
theorem dX6_signAt_12 : decode cX6_signAt 12 = .ok (.iload_n 1, 1) := by decide +kernel
theorem dX6_signAt_13 : decode cX6_signAt 13 = .ok (.iaload, 1) := by decide +kernel
theorem dX6_signAt_14 : decode cX6_signAt 14 = .ok (.goto 4, 3) := by decide +kernel
theorem dX6_signAt_17 : decode cX6_signAt 17 = .ok (.iconst 0, 1) := by decide +kernel
theorem dX6_signAt_18 : decode cX6_signAt 18 = .ok (.ireturn, 1) := by decide +kernel
theorem dX6_isDigit_0 : decode cX6_isDigit 0 = .ok (.iload_n 0, 1) := by decide +kernel
theorem dX6_isDigit_1 : decode cX6_isDigit 1 = .ok (.bipush 48, 2) := by decide +kernel
theorem dX6_isDigit_3 : decode cX6_isDigit 3 = .ok (.if_icmp .lt 13, 3) := by decide +kernel
theorem dX6_isDigit_6 : decode cX6_isDigit 6 = .ok (.iload_n 0, 1) := by decide +kernel
theorem dX6_isDigit_7 : decode cX6_isDigit 7 = .ok (.bipush 57, 2) := by decide +kernel
theorem dX6_isDigit_9 : decode cX6_isDigit 9 = .ok (.if_icmp .gt 7, 3) := by decide +kernel
theorem dX6_isDigit_12 : decode cX6_isDigit 12 = .ok (.iconst 1, 1) := by decide +kernel
theorem dX6_isDigit_13 : decode cX6_isDigit 13 = .ok (.goto 4, 3) := by decide +kernel
theorem dX6_isDigit_16 : decode cX6_isDigit 16 = .ok (.iconst 0, 1) := by decide +kernel
theorem dX6_isDigit_17 : decode cX6_isDigit 17 = .ok (.ireturn, 1) := by decide +kernel
theorem dX6_wrong_0 : decode cX6_wrong 0 = .ok (.sipush 600, 3) := by decide +kernel
theorem dX6_wrong_3 : decode cX6_wrong 3 = .ok (.bipush 6, 2) := by decide +kernel
theorem dX6_wrong_5 : decode cX6_wrong 5 = .ok (.aload_n 0, 1) := by decide +kernel
theorem dX6_wrong_6 : decode cX6_wrong 6 = .ok (.getfield 50, 3) := by decide +kernel
theorem dX6_wrong_9 : decode cX6_wrong 9 = .ok (.imul, 1) := by decide +kernel
theorem dX6_wrong_10 : decode cX6_wrong 10 = .ok (.iadd, 1) := by decide +kernel
theorem dX6_wrong_11 : decode cX6_wrong 11 = .ok (.istore_n 3, 1) := by decide +kernel
theorem dX6_wrong_12 : decode cX6_wrong 12 = .ok (.aload_n 0, 1) := by decide +kernel
theorem dX6_wrong_13 : decode cX6_wrong 13 = .ok (.getfield 17, 3) := by decide +kernel
theorem dX6_wrong_16 : decode cX6_wrong 16 = .ok (.iload_n 3, 1) := by decide +kernel
theorem dX6_wrong_17 : decode cX6_wrong 17 = .ok (.iaload, 1) := by decide +kernel
theorem dX6_wrong_18 : decode cX6_wrong 18 = .ok (.istore 4, 2) := by decide +kernel
theorem dX6_wrong_20 : decode cX6_wrong 20 = .ok (.iload_n 1, 1) := by decide +kernel
theorem dX6_wrong_21 : decode cX6_wrong 21 = .ok (.ifCond .ge 26, 3) := by decide +kernel
theorem dX6_wrong_24 : decode cX6_wrong 24 = .ok (.aload_n 0, 1) := by decide +kernel
theorem dX6_wrong_25 : decode cX6_wrong 25 = .ok (.sipush 600, 3) := by decide +kernel
theorem dX6_wrong_28 : decode cX6_wrong 28 = .ok (.aload_n 0, 1) := by decide +kernel
theorem dX6_wrong_29 : decode cX6_wrong 29 = .ok (.getfield 50, 3) := by decide +kernel
theorem dX6_wrong_32 : decode cX6_wrong 32 = .ok (.iload 4, 2) := by decide +kernel
theorem dX6_wrong_34 : decode cX6_wrong 34 = .ok (.iload_n 2, 1) := by decide +kernel
theorem dX6_wrong_35 : decode cX6_wrong 35 = .ok (.invokevirtual 53, 3) := by decide +kernel
theorem dX6_wrong_38 : decode cX6_wrong 38 = .ok (.ifCond .lt 7, 3) := by decide +kernel
theorem dX6_wrong_41 : decode cX6_wrong 41 = .ok (.iconst 2, 1) := by decide +kernel
theorem dX6_wrong_42 : decode cX6_wrong 42 = .ok (.goto 4, 3) := by decide +kernel
theorem dX6_wrong_45 : decode cX6_wrong 45 = .ok (.iconst 0, 1) := by decide +kernel
theorem dX6_wrong_46 : decode cX6_wrong 46 = .ok (.ireturn, 1) := by decide +kernel
theorem dX6_wrong_47 : decode cX6_wrong 47 = .ok (.iload_n 1, 1) := by decide +kernel
theorem dX6_wrong_48 : decode cX6_wrong 48 = .ok (.iconst 1, 1) := by decide +kernel
theorem dX6_wrong_49 : decode cX6_wrong 49 = .ok (.if_icmp .ne 30, 3) := by decide +kernel
theorem dX6_wrong_52 : decode cX6_wrong 52 = .ok (.iload 4, 2) := by decide +kernel
theorem dX6_wrong_54 : decode cX6_wrong 54 = .ok (.ifCond .eq 9, 3) := by decide +kernel
theorem dX6_wrong_57 : decode cX6_wrong 57 = .ok (.iload 4, 2) := by decide +kernel
theorem dX6_wrong_59 : decode cX6_wrong 59 = .ok (.iconst 4, 1) := by decide +kernel
theorem dX6_wrong_60 : decode cX6_wrong 60 = .ok (.if_icmp .ne 19, 3) := by decide +kernel
theorem dX6_wrong_63 : decode cX6_wrong 63 = .ok (.aload_n 0, 1) := by decide +kernel
theorem dX6_wrong_64 : decode cX6_wrong 64 = .ok (.getfield 17, 3) := by decide +kernel
theorem dX6_wrong_67 : decode cX6_wrong 67 = .ok (.iload_n 3, 1) := by decide +kernel
theorem dX6_wrong_68 : decode cX6_wrong 68 = .ok (.iconst 2, 1) := by decide +kernel
theorem dX6_wrong_69 : decode cX6_wrong 69 = .ok (.iadd, 1) := by decide +kernel
theorem dX6_wrong_70 : decode cX6_wrong 70 = .ok (.iaload, 1) := by decide +kernel
theorem dX6_wrong_71 : decode cX6_wrong 71 = .ok (.iload_n 2, 1) := by decide +kernel
theorem dX6_wrong_72 : decode cX6_wrong 72 = .ok (.if_icmp .ne 7, 3) := by decide +kernel
theorem dX6_wrong_75 : decode cX6_wrong 75 = .ok (.iconst 1, 1) := by decide +kernel
theorem dX6_wrong_76 : decode cX6_wrong 76 = .ok (.goto 4, 3) := by decide +kernel
theorem dX6_wrong_79 : decode cX6_wrong 79 = .ok (.iconst 0, 1) := by decide +kernel
theorem dX6_wrong_80 : decode cX6_wrong 80 = .ok (.istore 5, 2) := by decide +kernel
theorem dX6_wrong_82 : decode cX6_wrong 82 = .ok (.iload 4, 2) := by decide +kernel
theorem dX6_wrong_84 : decode cX6_wrong 84 = .ok (.iload_n 1, 1) := by decide +kernel
theorem dX6_wrong_85 : decode cX6_wrong 85 = .ok (.iload_n 2, 1) := by decide +kernel
theorem dX6_wrong_86 : decode cX6_wrong 86 = .ok (.invokestatic 57, 3) := by decide +kernel
theorem dX6_wrong_89 : decode cX6_wrong 89 = .ok (.ifCond .eq 8, 3) := by decide +kernel
theorem dX6_wrong_92 : decode cX6_wrong 92 = .ok (.iload 5, 2) := by decide +kernel
theorem dX6_wrong_94 : decode cX6_wrong 94 = .ok (.ifCond .eq 7, 3) := by decide +kernel
theorem dX6_wrong_97 : decode cX6_wrong 97 = .ok (.iconst 3, 1) := by decide +kernel
theorem dX6_wrong_98 : decode cX6_wrong 98 = .ok (.goto 23, 3) := by decide +kernel
theorem dX6_wrong_101 : decode cX6_wrong 101 = .ok (.iload 4, 2) := by decide +kernel
theorem dX6_wrong_103 : decode cX6_wrong 103 = .ok (.iconst 1, 1) := by decide +kernel
theorem dX6_wrong_104 : decode cX6_wrong 104 = .ok (.if_icmp .ne 16, 3) := by decide +kernel
theorem dX6_wrong_107 : decode cX6_wrong 107 = .ok (.iload_n 1, 1) := by decide +kernel
theorem dX6_wrong_108 : decode cX6_wrong 108 = .ok (.iconst 1, 1) := by decide +kernel
theorem dX6_wrong_109 : decode cX6_wrong 109 = .ok (.if_icmp .ne 11, 3) := by decide +kernel
theorem dX6_wrong_112 : decode cX6_wrong 112 = .ok (.iload_n 2, 1) := by decide +kernel
theorem dX6_wrong_113 : decode cX6_wrong 113 = .ok (.ifCond .ne 7, 3) := by decide +kernel
theorem dX6_wrong_116 : decode cX6_wrong 116 = .ok (.iconst 4, 1) := by decide +kernel
theorem dX6_wrong_117 : decode cX6_wrong 117 = .ok (.goto 4, 3) := by decide +kernel
theorem dX6_wrong_120 : decode cX6_wrong 120 = .ok (.iconst 0, 1) := by decide +kernel
theorem dX6_wrong_121 : decode cX6_wrong 121 = .ok (.ireturn, 1) := by decide +kernel
theorem dX6_findIn_0 : decode cX6_findIn 0 = .ok (.iconst (-1), 1) := by decide +kernel
theorem dX6_findIn_1 : decode cX6_findIn 1 = .ok (.istore 5, 2) := by decide +kernel
theorem dX6_findIn_3 : decode cX6_findIn 3 = .ok (.iconst 0, 1) := by decide +kernel
theorem dX6_findIn_4 : decode cX6_findIn 4 = .ok (.istore 6, 2) := by decide +kernel
theorem dX6_findIn_6 : decode cX6_findIn 6 = .ok (.iload 6, 2) := by decide +kernel
theorem dX6_findIn_8 : decode cX6_findIn 8 = .ok (.iload_n 2, 1) := by decide +kernel
theorem dX6_findIn_9 : decode cX6_findIn 9 = .ok (.if_icmp .ge 53, 3) := by decide +kernel
theorem dX6_findIn_12 : decode cX6_findIn 12 = .ok (.aload_n 0, 1) := by decide +kernel
theorem dX6_findIn_13 : decode cX6_findIn 13 = .ok (.getfield 17, 3) := by decide +kernel
theorem dX6_findIn_16 : decode cX6_findIn 16 = .ok (.iload_n 1, 1) := by decide +kernel
theorem dX6_findIn_17 : decode cX6_findIn 17 = .ok (.bipush 6, 2) := by decide +kernel
theorem dX6_findIn_19 : decode cX6_findIn 19 = .ok (.iload 6, 2) := by decide +kernel
theorem dX6_findIn_21 : decode cX6_findIn 21 = .ok (.imul, 1) := by decide +kernel
theorem dX6_findIn_22 : decode cX6_findIn 22 = .ok (.iadd, 1) := by decide +kernel
theorem dX6_findIn_23 : decode cX6_findIn 23 = .ok (.iaload, 1) := by decide +kernel
theorem dX6_findIn_24 : decode cX6_findIn 24 = .ok (.iload_n 3, 1) := by decide +kernel
theorem dX6_findIn_25 : decode cX6_findIn 25 = .ok (.if_icmp .ne 27, 3) := by decide +kernel
theorem dX6_findIn_28 : decode cX6_findIn 28 = .ok (.aload_n 0, 1) := by decide +kernel
theorem dX6_findIn_29 : decode cX6_findIn 29 = .ok (.getfield 17, 3) := by decide +kernel
theorem dX6_findIn_32 : decode cX6_findIn 32 = .ok (.iload_n 1, 1) := by decide +kernel
theorem dX6_findIn_33 : decode cX6_findIn 33 = .ok (.bipush 6, 2) := by decide +kernel
theorem dX6_findIn_35 : decode cX6_findIn 35 = .ok (.iload 6, 2) := by decide +kernel
theorem dX6_findIn_37 : decode cX6_findIn 37 = .ok (.imul, 1) := by decide +kernel
theorem dX6_findIn_38 : decode cX6_findIn 38 = .ok (.iadd, 1) := by decide +kernel
theorem dX6_findIn_39 : decode cX6_findIn 39 = .ok (.iconst 1, 1) := by decide +kernel
theorem dX6_findIn_40 : decode cX6_findIn 40 = .ok (.iadd, 1) := by decide +kernel
theorem dX6_findIn_41 : decode cX6_findIn 41 = .ok (.iaload, 1) := by decide +kernel
theorem dX6_findIn_42 : decode cX6_findIn 42 = .ok (.iload 4, 2) := by decide +kernel
theorem dX6_findIn_44 : decode cX6_findIn 44 = .ok (.if_icmp .ne 8, 3) := by decide +kernel
theorem dX6_findIn_47 : decode cX6_findIn 47 = .ok (.iload 6, 2) := by decide +kernel
theorem dX6_findIn_49 : decode cX6_findIn 49 = .ok (.goto 5, 3) := by decide +kernel
theorem dX6_findIn_52 : decode cX6_findIn 52 = .ok (.iload 5, 2) := by decide +kernel
theorem dX6_findIn_54 : decode cX6_findIn 54 = .ok (.istore 5, 2) := by decide +kernel
theorem dX6_findIn_56 : decode cX6_findIn 56 = .ok (.iinc 6 1, 3) := by decide +kernel
theorem dX6_findIn_59 : decode cX6_findIn 59 = .ok (.goto (-53), 3) := by decide +kernel
theorem dX6_findIn_62 : decode cX6_findIn 62 = .ok (.iload 5, 2) := by decide +kernel
theorem dX6_findIn_64 : decode cX6_findIn 64 = .ok (.ireturn, 1) := by decide +kernel
theorem dX6_isRange_0 : decode cX6_isRange 0 = .ok (.iload_n 1, 1) := by decide +kernel
theorem dX6_isRange_1 : decode cX6_isRange 1 = .ok (.ifCond .eq 17, 3) := by decide +kernel
theorem dX6_isRange_4 : decode cX6_isRange 4 = .ok (.iload_n 1, 1) := by decide +kernel
theorem dX6_isRange_5 : decode cX6_isRange 5 = .ok (.iconst 1, 1) := by decide +kernel
theorem dX6_isRange_6 : decode cX6_isRange 6 = .ok (.if_icmp .ne 24, 3) := by decide +kernel
theorem dX6_isRange_9 : decode cX6_isRange 9 = .ok (.iload_n 0, 1) := by decide +kernel
theorem dX6_isRange_10 : decode cX6_isRange 10 = .ok (.ifCond .eq 8, 3) := by decide +kernel
theorem dX6_isRange_13 : decode cX6_isRange 13 = .ok (.iload_n 0, 1) := by decide +kernel
theorem dX6_isRange_14 : decode cX6_isRange 14 = .ok (.iconst 4, 1) := by decide +kernel
theorem dX6_isRange_15 : decode cX6_isRange 15 = .ok (.if_icmp .ne 15, 3) := by decide +kernel
theorem dX6_isRange_18 : decode cX6_isRange 18 = .ok (.iload_n 2, 1) := by decide +kernel
theorem dX6_isRange_19 : decode cX6_isRange 19 = .ok (.bipush 16, 2) := by decide +kernel
theorem dX6_isRange_21 : decode cX6_isRange 21 = .ok (.if_icmp .ge 7, 3) := by decide +kernel
theorem dX6_isRange_24 : decode cX6_isRange 24 = .ok (.iconst 1, 1) := by decide +kernel
theorem dX6_isRange_25 : decode cX6_isRange 25 = .ok (.goto 4, 3) := by decide +kernel
theorem dX6_isRange_28 : decode cX6_isRange 28 = .ok (.iconst 0, 1) := by decide +kernel
theorem dX6_isRange_29 : decode cX6_isRange 29 = .ok (.ireturn, 1) := by decide +kernel
theorem dX6_isRange_30 : decode cX6_isRange 30 = .ok (.iload_n 0, 1) := by decide +kernel
theorem dX6_isRange_31 : decode cX6_isRange 31 = .ok (.tableswitch 133 0 2 #[25, 46, 89], 25) := by decide +kernel
theorem dX6_isRange_56 : decode cX6_isRange 56 = .ok (.iload_n 1, 1) := by decide +kernel
theorem dX6_isRange_57 : decode cX6_isRange 57 = .ok (.iconst 2, 1) := by decide +kernel
theorem dX6_isRange_58 : decode cX6_isRange 58 = .ok (.if_icmp .eq 13, 3) := by decide +kernel
theorem dX6_isRange_61 : decode cX6_isRange 61 = .ok (.iload_n 2, 1) := by decide +kernel
theorem dX6_isRange_62 : decode cX6_isRange 62 = .ok (.iconst 1, 1) := by decide +kernel
theorem dX6_isRange_63 : decode cX6_isRange 63 = .ok (.bipush 30, 2) := by decide +kernel
theorem dX6_isRange_65 : decode cX6_isRange 65 = .ok (.invokestatic 33, 3) := by decide +kernel
theorem dX6_isRange_68 : decode cX6_isRange 68 = .ok (.ifCond .eq 7, 3) := by decide +kernel
theorem dX6_isRange_71 : decode cX6_isRange 71 = .ok (.iconst 1, 1) := by decide +kernel
theorem dX6_isRange_72 : decode cX6_isRange 72 = .ok (.goto 4, 3) := by decide +kernel
theorem dX6_isRange_75 : decode cX6_isRange 75 = .ok (.iconst 0, 1) := by decide +kernel
theorem dX6_isRange_76 : decode cX6_isRange 76 = .ok (.ireturn, 1) := by decide +kernel
theorem dX6_isRange_77 : decode cX6_isRange 77 = .ok (.iload_n 1, 1) := by decide +kernel
theorem dX6_isRange_78 : decode cX6_isRange 78 = .ok (.iconst 1, 1) := by decide +kernel
theorem dX6_isRange_79 : decode cX6_isRange 79 = .ok (.if_icmp .ne 16, 3) := by decide +kernel
theorem dX6_isRange_82 : decode cX6_isRange 82 = .ok (.iload_n 2, 1) := by decide +kernel
theorem dX6_isRange_83 : decode cX6_isRange 83 = .ok (.iconst 5, 1) := by decide +kernel
theorem dX6_isRange_84 : decode cX6_isRange 84 = .ok (.if_icmp .ge 7, 3) := by decide +kernel
theorem dX6_isRange_87 : decode cX6_isRange 87 = .ok (.iconst 1, 1) := by decide +kernel
theorem dX6_isRange_88 : decode cX6_isRange 88 = .ok (.goto 31, 3) := by decide +kernel
theorem dX6_isRange_91 : decode cX6_isRange 91 = .ok (.iconst 0, 1) := by decide +kernel
theorem dX6_isRange_92 : decode cX6_isRange 92 = .ok (.goto 27, 3) := by decide +kernel
theorem dX6_isRange_95 : decode cX6_isRange 95 = .ok (.iload_n 1, 1) := by decide +kernel
theorem dX6_isRange_96 : decode cX6_isRange 96 = .ok (.iconst 2, 1) := by decide +kernel
theorem dX6_isRange_97 : decode cX6_isRange 97 = .ok (.if_icmp .ne 15, 3) := by decide +kernel
theorem dX6_isRange_100 : decode cX6_isRange 100 = .ok (.iload_n 2, 1) := by decide +kernel
theorem dX6_isRange_101 : decode cX6_isRange 101 = .ok (.ifCond .le 7, 3) := by decide +kernel
theorem dX6_isRange_104 : decode cX6_isRange 104 = .ok (.iconst 1, 1) := by decide +kernel
theorem dX6_isRange_105 : decode cX6_isRange 105 = .ok (.goto 14, 3) := by decide +kernel
theorem dX6_isRange_108 : decode cX6_isRange 108 = .ok (.iconst 0, 1) := by decide +kernel
theorem dX6_isRange_109 : decode cX6_isRange 109 = .ok (.goto 10, 3) := by decide +kernel
theorem dX6_isRange_112 : decode cX6_isRange 112 = .ok (.iload_n 2, 1) := by decide +kernel
theorem dX6_isRange_113 : decode cX6_isRange 113 = .ok (.iconst 1, 1) := by decide +kernel
theorem dX6_isRange_114 : decode cX6_isRange 114 = .ok (.bipush 30, 2) := by decide +kernel
theorem dX6_isRange_116 : decode cX6_isRange 116 = .ok (.invokestatic 33, 3) := by decide +kernel
theorem dX6_isRange_119 : decode cX6_isRange 119 = .ok (.ireturn, 1) := by decide +kernel
theorem dX6_isRange_120 : decode cX6_isRange 120 = .ok (.iload_n 1, 1) := by decide +kernel
theorem dX6_isRange_121 : decode cX6_isRange 121 = .ok (.iconst 1, 1) := by decide +kernel
theorem dX6_isRange_122 : decode cX6_isRange 122 = .ok (.if_icmp .ne 15, 3) := by decide +kernel
theorem dX6_isRange_125 : decode cX6_isRange 125 = .ok (.iload_n 2, 1) := by decide +kernel
theorem dX6_isRange_126 : decode cX6_isRange 126 = .ok (.ifCond .le 7, 3) := by decide +kernel
theorem dX6_isRange_129 : decode cX6_isRange 129 = .ok (.iconst 1, 1) := by decide +kernel
theorem dX6_isRange_130 : decode cX6_isRange 130 = .ok (.goto 33, 3) := by decide +kernel
theorem dX6_isRange_133 : decode cX6_isRange 133 = .ok (.iconst 0, 1) := by decide +kernel
theorem dX6_isRange_134 : decode cX6_isRange 134 = .ok (.goto 29, 3) := by decide +kernel
theorem dX6_isRange_137 : decode cX6_isRange 137 = .ok (.iload_n 1, 1) := by decide +kernel
theorem dX6_isRange_138 : decode cX6_isRange 138 = .ok (.iconst 2, 1) := by decide +kernel
theorem dX6_isRange_139 : decode cX6_isRange 139 = .ok (.if_icmp .ne 13, 3) := by decide +kernel
theorem dX6_isRange_142 : decode cX6_isRange 142 = .ok (.iload_n 2, 1) := by decide +kernel
theorem dX6_isRange_143 : decode cX6_isRange 143 = .ok (.iconst 1, 1) := by decide +kernel
theorem dX6_isRange_144 : decode cX6_isRange 144 = .ok (.bipush 30, 2) := by decide +kernel
theorem dX6_isRange_146 : decode cX6_isRange 146 = .ok (.invokestatic 33, 3) := by decide +kernel
theorem dX6_isRange_149 : decode cX6_isRange 149 = .ok (.goto 14, 3) := by decide +kernel
theorem dX6_isRange_152 : decode cX6_isRange 152 = .ok (.iload_n 2, 1) := by decide +kernel
theorem dX6_isRange_153 : decode cX6_isRange 153 = .ok (.bipush 10, 2) := by decide +kernel
theorem dX6_isRange_155 : decode cX6_isRange 155 = .ok (.if_icmp .ge 7, 3) := by decide +kernel
theorem dX6_isRange_158 : decode cX6_isRange 158 = .ok (.iconst 1, 1) := by decide +kernel
theorem dX6_isRange_159 : decode cX6_isRange 159 = .ok (.goto 4, 3) := by decide +kernel
theorem dX6_isRange_162 : decode cX6_isRange 162 = .ok (.iconst 0, 1) := by decide +kernel
theorem dX6_isRange_163 : decode cX6_isRange 163 = .ok (.ireturn, 1) := by decide +kernel
theorem dX6_isRange_164 : decode cX6_isRange 164 = .ok (.iload_n 2, 1) := by decide +kernel
theorem dX6_isRange_165 : decode cX6_isRange 165 = .ok (.bipush 51, 2) := by decide +kernel
theorem dX6_isRange_167 : decode cX6_isRange 167 = .ok (.if_icmp .ge 7, 3) := by decide +kernel
theorem dX6_isRange_170 : decode cX6_isRange 170 = .ok (.iconst 1, 1) := by decide +kernel
theorem dX6_isRange_171 : decode cX6_isRange 171 = .ok (.goto 4, 3) := by decide +kernel
theorem dX6_isRange_174 : decode cX6_isRange 174 = .ok (.iconst 0, 1) := by decide +kernel
theorem dX6_isRange_175 : decode cX6_isRange 175 = .ok (.ireturn, 1) := by decide +kernel
theorem dX6_numbersOf_0 : decode cX6_numbersOf 0 = .ok (.iload_n 0, 1) := by decide +kernel
theorem dX6_numbersOf_1 : decode cX6_numbersOf 1 = .ok (.iconst 3, 1) := by decide +kernel
theorem dX6_numbersOf_2 : decode cX6_numbersOf 2 = .ok (.if_icmp .ge 7, 3) := by decide +kernel
theorem dX6_numbersOf_5 : decode cX6_numbersOf 5 = .ok (.iconst 4, 1) := by decide +kernel
theorem dX6_numbersOf_6 : decode cX6_numbersOf 6 = .ok (.goto 13, 3) := by decide +kernel
theorem dX6_numbersOf_9 : decode cX6_numbersOf 9 = .ok (.iload_n 0, 1) := by decide +kernel
theorem dX6_numbersOf_10 : decode cX6_numbersOf 10 = .ok (.iconst 5, 1) := by decide +kernel
theorem dX6_numbersOf_11 : decode cX6_numbersOf 11 = .ok (.if_icmp .ne 7, 3) := by decide +kernel
theorem dX6_numbersOf_14 : decode cX6_numbersOf 14 = .ok (.iconst 1, 1) := by decide +kernel
theorem dX6_numbersOf_15 : decode cX6_numbersOf 15 = .ok (.goto 4, 3) := by decide +kernel
theorem dX6_numbersOf_18 : decode cX6_numbersOf 18 = .ok (.iconst 2, 1) := by decide +kernel
theorem dX6_numbersOf_19 : decode cX6_numbersOf 19 = .ok (.ireturn, 1) := by decide +kernel
theorem dX6_refuse_0 : decode cX6_refuse 0 = .ok (.aload_n 0, 1) := by decide +kernel
theorem dX6_refuse_1 : decode cX6_refuse 1 = .ok (.iload_n 1, 1) := by decide +kernel
theorem dX6_refuse_2 : decode cX6_refuse 2 = .ok (.putfield 26, 3) := by decide +kernel
theorem dX6_refuse_5 : decode cX6_refuse 5 = .ok (.iconst 0, 1) := by decide +kernel
theorem dX6_refuse_6 : decode cX6_refuse 6 = .ok (.ireturn, 1) := by decide +kernel
theorem dX6_copies_0 : decode cX6_copies 0 = .ok (.iconst 0, 1) := by decide +kernel
theorem dX6_copies_1 : decode cX6_copies 1 = .ok (.istore 4, 2) := by decide +kernel
theorem dX6_copies_3 : decode cX6_copies 3 = .ok (.iload 4, 2) := by decide +kernel
theorem dX6_copies_5 : decode cX6_copies 5 = .ok (.bipush 6, 2) := by decide +kernel
theorem dX6_copies_7 : decode cX6_copies 7 = .ok (.iload_n 3, 1) := by decide +kernel
theorem dX6_copies_8 : decode cX6_copies 8 = .ok (.imul, 1) := by decide +kernel
theorem dX6_copies_9 : decode cX6_copies 9 = .ok (.if_icmp .ge 27, 3) := by decide +kernel
theorem dX6_copies_12 : decode cX6_copies 12 = .ok (.aload_n 0, 1) := by decide +kernel
theorem dX6_copies_13 : decode cX6_copies 13 = .ok (.getfield 17, 3) := by decide +kernel
theorem dX6_copies_16 : decode cX6_copies 16 = .ok (.iload_n 2, 1) := by decide +kernel
theorem dX6_copies_17 : decode cX6_copies 17 = .ok (.iload 4, 2) := by decide +kernel
theorem dX6_copies_19 : decode cX6_copies 19 = .ok (.iadd, 1) := by decide +kernel
theorem dX6_copies_20 : decode cX6_copies 20 = .ok (.aload_n 0, 1) := by decide +kernel
theorem dX6_copies_21 : decode cX6_copies 21 = .ok (.getfield 17, 3) := by decide +kernel
theorem dX6_copies_24 : decode cX6_copies 24 = .ok (.iload_n 1, 1) := by decide +kernel
theorem dX6_copies_25 : decode cX6_copies 25 = .ok (.iload 4, 2) := by decide +kernel
theorem dX6_copies_27 : decode cX6_copies 27 = .ok (.iadd, 1) := by decide +kernel
theorem dX6_copies_28 : decode cX6_copies 28 = .ok (.iaload, 1) := by decide +kernel
theorem dX6_copies_29 : decode cX6_copies 29 = .ok (.iastore, 1) := by decide +kernel
theorem dX6_copies_30 : decode cX6_copies 30 = .ok (.iinc 4 1, 3) := by decide +kernel
theorem dX6_copies_33 : decode cX6_copies 33 = .ok (.goto (-30), 3) := by decide +kernel
theorem dX6_copies_36 : decode cX6_copies 36 = .ok (.return_, 1) := by decide +kernel
theorem dX6_failure_0 : decode cX6_failure 0 = .ok (.aload_n 0, 1) := by decide +kernel
theorem dX6_failure_1 : decode cX6_failure 1 = .ok (.iconst 0, 1) := by decide +kernel
theorem dX6_failure_2 : decode cX6_failure 2 = .ok (.putfield 26, 3) := by decide +kernel
theorem dX6_failure_5 : decode cX6_failure 5 = .ok (.iload_n 1, 1) := by decide +kernel
theorem dX6_failure_6 : decode cX6_failure 6 = .ok (.ifCond .ne 10, 3) := by decide +kernel
theorem dX6_failure_9 : decode cX6_failure 9 = .ok (.aload_n 0, 1) := by decide +kernel
theorem dX6_failure_10 : decode cX6_failure 10 = .ok (.getfield 40, 3) := by decide +kernel
theorem dX6_failure_13 : decode cX6_failure 13 = .ok (.goto 16, 3) := by decide +kernel
theorem dX6_failure_16 : decode cX6_failure 16 = .ok (.iload_n 1, 1) := by decide +kernel
theorem dX6_failure_17 : decode cX6_failure 17 = .ok (.iconst 1, 1) := by decide +kernel
theorem dX6_failure_18 : decode cX6_failure 18 = .ok (.if_icmp .ne 10, 3) := by decide +kernel
theorem dX6_failure_21 : decode cX6_failure 21 = .ok (.aload_n 0, 1) := by decide +kernel
theorem dX6_failure_22 : decode cX6_failure 22 = .ok (.getfield 13, 3) := by decide +kernel
theorem dX6_failure_25 : decode cX6_failure 25 = .ok (.goto 4, 3) := by decide +kernel
theorem dX6_failure_28 : decode cX6_failure 28 = .ok (.iconst (-1), 1) := by decide +kernel
theorem dX6_failure_29 : decode cX6_failure 29 = .ok (.ireturn, 1) := by decide +kernel
theorem dX6_piece_0 : decode cX6_piece 0 = .ok (.iload_n 1, 1) := by decide +kernel
theorem dX6_piece_1 : decode cX6_piece 1 = .ok (.ifCond .lt 15, 3) := by decide +kernel
theorem dX6_piece_4 : decode cX6_piece 4 = .ok (.iload_n 1, 1) := by decide +kernel
theorem dX6_piece_5 : decode cX6_piece 5 = .ok (.aload_n 0, 1) := by decide +kernel
theorem dX6_piece_6 : decode cX6_piece 6 = .ok (.getfield 86, 3) := by decide +kernel
theorem dX6_piece_9 : decode cX6_piece 9 = .ok (.if_icmp .ge 7, 3) := by decide +kernel
theorem dX6_piece_12 : decode cX6_piece 12 = .ok (.iconst 1, 1) := by decide +kernel
theorem dX6_piece_13 : decode cX6_piece 13 = .ok (.goto 4, 3) := by decide +kernel
theorem dX6_piece_16 : decode cX6_piece 16 = .ok (.iconst 0, 1) := by decide +kernel
theorem dX6_piece_17 : decode cX6_piece 17 = .ok (.istore_n 3, 1) := by decide +kernel
theorem dX6_piece_18 : decode cX6_piece 18 = .ok (.iload_n 3, 1) := by decide +kernel
theorem dX6_piece_19 : decode cX6_piece 19 = .ok (.ifCond .eq 33, 3) := by decide +kernel
theorem dX6_piece_22 : decode cX6_piece 22 = .ok (.iload_n 2, 1) := by decide +kernel
theorem dX6_piece_23 : decode cX6_piece 23 = .ok (.ifCond .lt 29, 3) := by decide +kernel
theorem dX6_piece_26 : decode cX6_piece 26 = .ok (.iload_n 2, 1) := by decide +kernel
theorem dX6_piece_27 : decode cX6_piece 27 = .ok (.iconst 1, 1) := by decide +kernel
theorem dX6_piece_28 : decode cX6_piece 28 = .ok (.aload_n 0, 1) := by decide +kernel
theorem dX6_piece_29 : decode cX6_piece 29 = .ok (.getfield 17, 3) := by decide +kernel
theorem dX6_piece_32 : decode cX6_piece 32 = .ok (.iload_n 3, 1) := by decide +kernel
theorem dX6_piece_33 : decode cX6_piece 33 = .ok (.ifCond .eq 10, 3) := by decide +kernel
theorem dX6_piece_36 : decode cX6_piece 36 = .ok (.bipush 6, 2) := by decide +kernel
theorem dX6_piece_38 : decode cX6_piece 38 = .ok (.iload_n 1, 1) := by decide +kernel
theorem dX6_piece_39 : decode cX6_piece 39 = .ok (.imul, 1) := by decide +kernel
theorem dX6_piece_40 : decode cX6_piece 40 = .ok (.goto 4, 3) := by decide +kernel
theorem dX6_piece_43 : decode cX6_piece 43 = .ok (.iconst 0, 1) := by decide +kernel
theorem dX6_piece_44 : decode cX6_piece 44 = .ok (.iaload, 1) := by decide +kernel
theorem dX6_piece_45 : decode cX6_piece 45 = .ok (.invokestatic 77, 3) := by decide +kernel
theorem dX6_piece_48 : decode cX6_piece 48 = .ok (.iadd, 1) := by decide +kernel
theorem dX6_piece_49 : decode cX6_piece 49 = .ok (.if_icmp .le 9, 3) := by decide +kernel
theorem dX6_piece_52 : decode cX6_piece 52 = .ok (.aload_n 0, 1) := by decide +kernel
theorem dX6_piece_53 : decode cX6_piece 53 = .ok (.iconst 1, 1) := by decide +kernel
theorem dX6_piece_54 : decode cX6_piece 54 = .ok (.invokevirtual 83, 3) := by decide +kernel
theorem dX6_piece_57 : decode cX6_piece 57 = .ok (.ireturn, 1) := by decide +kernel
theorem dX6_piece_58 : decode cX6_piece 58 = .ok (.aload_n 0, 1) := by decide +kernel
theorem dX6_piece_59 : decode cX6_piece 59 = .ok (.iconst 0, 1) := by decide +kernel
theorem dX6_piece_60 : decode cX6_piece 60 = .ok (.putfield 26, 3) := by decide +kernel
theorem dX6_piece_63 : decode cX6_piece 63 = .ok (.aload_n 0, 1) := by decide +kernel
theorem dX6_piece_64 : decode cX6_piece 64 = .ok (.getfield 17, 3) := by decide +kernel
theorem dX6_piece_67 : decode cX6_piece 67 = .ok (.bipush 6, 2) := by decide +kernel
theorem dX6_piece_69 : decode cX6_piece 69 = .ok (.iload_n 1, 1) := by decide +kernel
theorem dX6_piece_70 : decode cX6_piece 70 = .ok (.imul, 1) := by decide +kernel
theorem dX6_piece_71 : decode cX6_piece 71 = .ok (.iload_n 2, 1) := by decide +kernel
theorem dX6_piece_72 : decode cX6_piece 72 = .ok (.iadd, 1) := by decide +kernel
theorem dX6_piece_73 : decode cX6_piece 73 = .ok (.iaload, 1) := by decide +kernel
theorem dX6_piece_74 : decode cX6_piece 74 = .ok (.ireturn, 1) := by decide +kernel
theorem dX6_find_0 : decode cX6_find 0 = .ok (.aload_n 0, 1) := by decide +kernel
theorem dX6_find_1 : decode cX6_find 1 = .ok (.iconst 0, 1) := by decide +kernel
theorem dX6_find_2 : decode cX6_find 2 = .ok (.putfield 26, 3) := by decide +kernel
theorem dX6_find_5 : decode cX6_find 5 = .ok (.aload_n 0, 1) := by decide +kernel
theorem dX6_find_6 : decode cX6_find 6 = .ok (.iconst 0, 1) := by decide +kernel
theorem dX6_find_7 : decode cX6_find 7 = .ok (.aload_n 0, 1) := by decide +kernel
theorem dX6_find_8 : decode cX6_find 8 = .ok (.getfield 86, 3) := by decide +kernel
theorem dX6_find_11 : decode cX6_find 11 = .ok (.iload_n 1, 1) := by decide +kernel
theorem dX6_find_12 : decode cX6_find 12 = .ok (.iload_n 2, 1) := by decide +kernel
theorem dX6_find_13 : decode cX6_find 13 = .ok (.invokevirtual 53, 3) := by decide +kernel
theorem dX6_find_16 : decode cX6_find 16 = .ok (.ireturn, 1) := by decide +kernel
theorem dX6_reach_0 : decode cX6_reach 0 = .ok (.iload_n 1, 1) := by decide +kernel
theorem dX6_reach_1 : decode cX6_reach 1 = .ok (.iconst 0, 1) := by decide +kernel
theorem dX6_reach_2 : decode cX6_reach 2 = .ok (.iconst 1, 1) := by decide +kernel
theorem dX6_reach_3 : decode cX6_reach 3 = .ok (.invokestatic 33, 3) := by decide +kernel
theorem dX6_reach_6 : decode cX6_reach 6 = .ok (.ifCond .eq 17, 3) := by decide +kernel
theorem dX6_reach_9 : decode cX6_reach 9 = .ok (.iload_n 2, 1) := by decide +kernel
theorem dX6_reach_10 : decode cX6_reach 10 = .ok (.invokestatic 96, 3) := by decide +kernel
theorem dX6_reach_13 : decode cX6_reach 13 = .ok (.ifCond .eq 10, 3) := by decide +kernel
theorem dX6_reach_16 : decode cX6_reach 16 = .ok (.iload_n 3, 1) := by decide +kernel
theorem dX6_reach_17 : decode cX6_reach 17 = .ok (.invokestatic 96, 3) := by decide +kernel
theorem dX6_reach_20 : decode cX6_reach 20 = .ok (.ifCond .ne 9, 3) := by decide +kernel
theorem dX6_reach_23 : decode cX6_reach 23 = .ok (.aload_n 0, 1) := by decide +kernel
theorem dX6_reach_24 : decode cX6_reach 24 = .ok (.iconst 1, 1) := by decide +kernel
theorem dX6_reach_25 : decode cX6_reach 25 = .ok (.invokevirtual 83, 3) := by decide +kernel
theorem dX6_reach_28 : decode cX6_reach 28 = .ok (.ireturn, 1) := by decide +kernel
theorem dX6_reach_29 : decode cX6_reach 29 = .ok (.aload_n 0, 1) := by decide +kernel
theorem dX6_reach_30 : decode cX6_reach 30 = .ok (.iconst 0, 1) := by decide +kernel
theorem dX6_reach_31 : decode cX6_reach 31 = .ok (.putfield 26, 3) := by decide +kernel
theorem dX6_reach_34 : decode cX6_reach 34 = .ok (.aload_n 0, 1) := by decide +kernel
theorem dX6_reach_35 : decode cX6_reach 35 = .ok (.iload_n 1, 1) := by decide +kernel
theorem dX6_reach_36 : decode cX6_reach 36 = .ok (.iload_n 2, 1) := by decide +kernel
theorem dX6_reach_37 : decode cX6_reach 37 = .ok (.invokevirtual 99, 3) := by decide +kernel
theorem dX6_reach_40 : decode cX6_reach 40 = .ok (.aload_n 0, 1) := by decide +kernel
theorem dX6_reach_41 : decode cX6_reach 41 = .ok (.getfield 20, 3) := by decide +kernel
theorem dX6_reach_44 : decode cX6_reach 44 = .ok (.iload_n 3, 1) := by decide +kernel
theorem dX6_reach_45 : decode cX6_reach 45 = .ok (.iaload, 1) := by decide +kernel
theorem dX6_reach_46 : decode cX6_reach 46 = .ok (.ifCond .le 7, 3) := by decide +kernel
theorem dX6_reach_49 : decode cX6_reach 49 = .ok (.iconst 1, 1) := by decide +kernel
theorem dX6_reach_50 : decode cX6_reach 50 = .ok (.goto 4, 3) := by decide +kernel
theorem dX6_reach_53 : decode cX6_reach 53 = .ok (.iconst 0, 1) := by decide +kernel
theorem dX6_reach_54 : decode cX6_reach 54 = .ok (.ireturn, 1) := by decide +kernel
theorem dX6_isPoint_0 : decode cX6_isPoint 0 = .ok (.iload_n 0, 1) := by decide +kernel
theorem dX6_isPoint_1 : decode cX6_isPoint 1 = .ok (.ifCond .lt 13, 3) := by decide +kernel
theorem dX6_isPoint_4 : decode cX6_isPoint 4 = .ok (.iload_n 0, 1) := by decide +kernel
theorem dX6_isPoint_5 : decode cX6_isPoint 5 = .ok (.bipush 16, 2) := by decide +kernel
theorem dX6_isPoint_7 : decode cX6_isPoint 7 = .ok (.if_icmp .ge 7, 3) := by decide +kernel
theorem dX6_isPoint_10 : decode cX6_isPoint 10 = .ok (.iconst 1, 1) := by decide +kernel
theorem dX6_isPoint_11 : decode cX6_isPoint 11 = .ok (.goto 4, 3) := by decide +kernel
theorem dX6_isPoint_14 : decode cX6_isPoint 14 = .ok (.iconst 0, 1) := by decide +kernel
theorem dX6_isPoint_15 : decode cX6_isPoint 15 = .ok (.ireturn, 1) := by decide +kernel
theorem dX6_goes_0 : decode cX6_goes 0 = .ok (.iconst 0, 1) := by decide +kernel
theorem dX6_goes_1 : decode cX6_goes 1 = .ok (.istore_n 3, 1) := by decide +kernel
theorem dX6_goes_2 : decode cX6_goes 2 = .ok (.iload_n 3, 1) := by decide +kernel
theorem dX6_goes_3 : decode cX6_goes 3 = .ok (.bipush 16, 2) := by decide +kernel
theorem dX6_goes_5 : decode cX6_goes 5 = .ok (.if_icmp .ge 26, 3) := by decide +kernel
theorem dX6_goes_8 : decode cX6_goes 8 = .ok (.aload_n 0, 1) := by decide +kernel
theorem dX6_goes_9 : decode cX6_goes 9 = .ok (.getfield 20, 3) := by decide +kernel
theorem dX6_goes_12 : decode cX6_goes 12 = .ok (.iload_n 3, 1) := by decide +kernel
theorem dX6_goes_13 : decode cX6_goes 13 = .ok (.iload_n 3, 1) := by decide +kernel
theorem dX6_goes_14 : decode cX6_goes 14 = .ok (.iload_n 2, 1) := by decide +kernel
theorem dX6_goes_15 : decode cX6_goes 15 = .ok (.if_icmp .ne 8, 3) := by decide +kernel
theorem dX6_goes_18 : decode cX6_goes 18 = .ok (.bipush 99, 2) := by decide +kernel
theorem dX6_goes_20 : decode cX6_goes 20 = .ok (.goto 4, 3) := by decide +kernel
theorem dX6_goes_23 : decode cX6_goes 23 = .ok (.iconst 0, 1) := by decide +kernel
theorem dX6_goes_24 : decode cX6_goes 24 = .ok (.iastore, 1) := by decide +kernel
theorem dX6_goes_25 : decode cX6_goes 25 = .ok (.iinc 3 1, 3) := by decide +kernel
theorem dX6_goes_28 : decode cX6_goes 28 = .ok (.goto (-26), 3) := by decide +kernel
theorem dX6_goes_31 : decode cX6_goes 31 = .ok (.iconst 0, 1) := by decide +kernel
theorem dX6_goes_32 : decode cX6_goes 32 = .ok (.istore_n 3, 1) := by decide +kernel
theorem dX6_goes_33 : decode cX6_goes 33 = .ok (.iload_n 3, 1) := by decide +kernel
theorem dX6_goes_34 : decode cX6_goes 34 = .ok (.bipush 16, 2) := by decide +kernel
theorem dX6_goes_36 : decode cX6_goes 36 = .ok (.if_icmp .ge 201, 3) := by decide +kernel
theorem dX6_goes_39 : decode cX6_goes 39 = .ok (.iconst 0, 1) := by decide +kernel
theorem dX6_goes_40 : decode cX6_goes 40 = .ok (.istore 4, 2) := by decide +kernel
theorem dX6_goes_42 : decode cX6_goes 42 = .ok (.iload 4, 2) := by decide +kernel
theorem dX6_goes_44 : decode cX6_goes 44 = .ok (.bipush 6, 2) := by decide +kernel
theorem dX6_goes_46 : decode cX6_goes 46 = .ok (.aload_n 0, 1) := by decide +kernel
theorem dX6_goes_47 : decode cX6_goes 47 = .ok (.getfield 86, 3) := by decide +kernel
theorem dX6_goes_50 : decode cX6_goes 50 = .ok (.imul, 1) := by decide +kernel
theorem dX6_goes_51 : decode cX6_goes 51 = .ok (.if_icmp .ge 180, 3) := by decide +kernel
theorem dX6_goes_54 : decode cX6_goes 54 = .ok (.aload_n 0, 1) := by decide +kernel
theorem dX6_goes_55 : decode cX6_goes 55 = .ok (.getfield 17, 3) := by decide +kernel
theorem dX6_goes_58 : decode cX6_goes 58 = .ok (.iload 4, 2) := by decide +kernel
theorem dX6_goes_60 : decode cX6_goes 60 = .ok (.iconst 2, 1) := by decide +kernel
theorem dX6_goes_61 : decode cX6_goes 61 = .ok (.iadd, 1) := by decide +kernel
theorem dX6_goes_62 : decode cX6_goes 62 = .ok (.iaload, 1) := by decide +kernel
theorem dX6_goes_63 : decode cX6_goes 63 = .ok (.istore 5, 2) := by decide +kernel
theorem dX6_goes_65 : decode cX6_goes 65 = .ok (.aload_n 0, 1) := by decide +kernel
theorem dX6_goes_66 : decode cX6_goes 66 = .ok (.getfield 17, 3) := by decide +kernel
theorem dX6_goes_69 : decode cX6_goes 69 = .ok (.iload 4, 2) := by decide +kernel
theorem dX6_goes_71 : decode cX6_goes 71 = .ok (.iconst 3, 1) := by decide +kernel
theorem dX6_goes_72 : decode cX6_goes 72 = .ok (.iadd, 1) := by decide +kernel
theorem dX6_goes_73 : decode cX6_goes 73 = .ok (.iaload, 1) := by decide +kernel
theorem dX6_goes_74 : decode cX6_goes 74 = .ok (.istore 6, 2) := by decide +kernel
theorem dX6_goes_76 : decode cX6_goes 76 = .ok (.aload_n 0, 1) := by decide +kernel
theorem dX6_goes_77 : decode cX6_goes 77 = .ok (.getfield 17, 3) := by decide +kernel
theorem dX6_goes_80 : decode cX6_goes 80 = .ok (.iload 4, 2) := by decide +kernel
theorem dX6_goes_82 : decode cX6_goes 82 = .ok (.iaload, 1) := by decide +kernel
theorem dX6_goes_83 : decode cX6_goes 83 = .ok (.ifCond .ne 15, 3) := by decide +kernel
theorem dX6_goes_86 : decode cX6_goes 86 = .ok (.aload_n 0, 1) := by decide +kernel
theorem dX6_goes_87 : decode cX6_goes 87 = .ok (.getfield 17, 3) := by decide +kernel
theorem dX6_goes_90 : decode cX6_goes 90 = .ok (.iload 4, 2) := by decide +kernel
theorem dX6_goes_92 : decode cX6_goes 92 = .ok (.iconst 5, 1) := by decide +kernel
theorem dX6_goes_93 : decode cX6_goes 93 = .ok (.iadd, 1) := by decide +kernel
theorem dX6_goes_94 : decode cX6_goes 94 = .ok (.iaload, 1) := by decide +kernel
theorem dX6_goes_95 : decode cX6_goes 95 = .ok (.goto 5, 3) := by decide +kernel
theorem dX6_goes_98 : decode cX6_goes 98 = .ok (.bipush 99, 2) := by decide +kernel
theorem dX6_goes_100 : decode cX6_goes 100 = .ok (.istore 7, 2) := by decide +kernel
theorem dX6_goes_102 : decode cX6_goes 102 = .ok (.aload_n 0, 1) := by decide +kernel
theorem dX6_goes_103 : decode cX6_goes 103 = .ok (.getfield 17, 3) := by decide +kernel
theorem dX6_goes_106 : decode cX6_goes 106 = .ok (.iload 4, 2) := by decide +kernel
theorem dX6_goes_108 : decode cX6_goes 108 = .ok (.iaload, 1) := by decide +kernel
theorem dX6_goes_109 : decode cX6_goes 109 = .ok (.iload_n 1, 1) := by decide +kernel
theorem dX6_goes_110 : decode cX6_goes 110 = .ok (.ifCond .ne 7, 3) := by decide +kernel
theorem dX6_goes_113 : decode cX6_goes 113 = .ok (.iconst 0, 1) := by decide +kernel
theorem dX6_goes_114 : decode cX6_goes 114 = .ok (.goto 4, 3) := by decide +kernel
theorem dX6_goes_117 : decode cX6_goes 117 = .ok (.iconst 4, 1) := by decide +kernel
theorem dX6_goes_118 : decode cX6_goes 118 = .ok (.if_icmp .ne 107, 3) := by decide +kernel
theorem dX6_goes_121 : decode cX6_goes 121 = .ok (.aload_n 0, 1) := by decide +kernel
theorem dX6_goes_122 : decode cX6_goes 122 = .ok (.getfield 20, 3) := by decide +kernel
theorem dX6_goes_125 : decode cX6_goes 125 = .ok (.iload 6, 2) := by decide +kernel
theorem dX6_goes_127 : decode cX6_goes 127 = .ok (.aload_n 0, 1) := by decide +kernel
theorem dX6_goes_128 : decode cX6_goes 128 = .ok (.getfield 20, 3) := by decide +kernel
theorem dX6_goes_131 : decode cX6_goes 131 = .ok (.iload 5, 2) := by decide +kernel
theorem dX6_goes_133 : decode cX6_goes 133 = .ok (.iaload, 1) := by decide +kernel
theorem dX6_goes_134 : decode cX6_goes 134 = .ok (.iload 7, 2) := by decide +kernel
theorem dX6_goes_136 : decode cX6_goes 136 = .ok (.invokestatic 93, 3) := by decide +kernel
theorem dX6_goes_139 : decode cX6_goes 139 = .ok (.aload_n 0, 1) := by decide +kernel
theorem dX6_goes_140 : decode cX6_goes 140 = .ok (.getfield 20, 3) := by decide +kernel
theorem dX6_goes_143 : decode cX6_goes 143 = .ok (.iload 6, 2) := by decide +kernel
theorem dX6_goes_145 : decode cX6_goes 145 = .ok (.iaload, 1) := by decide +kernel
theorem dX6_goes_146 : decode cX6_goes 146 = .ok (.if_icmp .le 18, 3) := by decide +kernel
theorem dX6_goes_149 : decode cX6_goes 149 = .ok (.aload_n 0, 1) := by decide +kernel
theorem dX6_goes_150 : decode cX6_goes 150 = .ok (.getfield 20, 3) := by decide +kernel
theorem dX6_goes_153 : decode cX6_goes 153 = .ok (.iload 5, 2) := by decide +kernel
theorem dX6_goes_155 : decode cX6_goes 155 = .ok (.iaload, 1) := by decide +kernel
theorem dX6_goes_156 : decode cX6_goes 156 = .ok (.iload 7, 2) := by decide +kernel
theorem dX6_goes_158 : decode cX6_goes 158 = .ok (.invokestatic 93, 3) := by decide +kernel
theorem dX6_goes_161 : decode cX6_goes 161 = .ok (.goto 10, 3) := by decide +kernel
theorem dX6_goes_164 : decode cX6_goes 164 = .ok (.aload_n 0, 1) := by decide +kernel
theorem dX6_goes_165 : decode cX6_goes 165 = .ok (.getfield 20, 3) := by decide +kernel
theorem dX6_goes_168 : decode cX6_goes 168 = .ok (.iload 6, 2) := by decide +kernel
theorem dX6_goes_170 : decode cX6_goes 170 = .ok (.iaload, 1) := by decide +kernel
theorem dX6_goes_171 : decode cX6_goes 171 = .ok (.iastore, 1) := by decide +kernel
theorem dX6_goes_172 : decode cX6_goes 172 = .ok (.iload_n 1, 1) := by decide +kernel
theorem dX6_goes_173 : decode cX6_goes 173 = .ok (.ifCond .ne 18, 3) := by decide +kernel
theorem dX6_goes_176 : decode cX6_goes 176 = .ok (.aload_n 0, 1) := by decide +kernel
theorem dX6_goes_177 : decode cX6_goes 177 = .ok (.getfield 20, 3) := by decide +kernel
theorem dX6_goes_180 : decode cX6_goes 180 = .ok (.iload 6, 2) := by decide +kernel
theorem dX6_goes_182 : decode cX6_goes 182 = .ok (.iaload, 1) := by decide +kernel
theorem dX6_goes_183 : decode cX6_goes 183 = .ok (.iload 7, 2) := by decide +kernel
end
section
theorem dX6_goes_185 : decode cX6_goes 185 = .ok (.invokestatic 93, 3) := by decide +kernel
theorem dX6_goes_188 : decode cX6_goes 188 = .ok (.goto 4, 3) := by decide +kernel
theorem dX6_goes_191 : decode cX6_goes 191 = .ok (.iconst 0, 1) := by decide +kernel
theorem dX6_goes_192 : decode cX6_goes 192 = .ok (.istore 8, 2) := by decide +kernel
theorem dX6_goes_194 : decode cX6_goes 194 = .ok (.aload_n 0, 1) := by decide +kernel
theorem dX6_goes_195 : decode cX6_goes 195 = .ok (.getfield 20, 3) := by decide +kernel
theorem dX6_goes_198 : decode cX6_goes 198 = .ok (.iload 5, 2) := by decide +kernel
theorem dX6_goes_200 : decode cX6_goes 200 = .ok (.iload 8, 2) := by decide +kernel
theorem dX6_goes_202 : decode cX6_goes 202 = .ok (.aload_n 0, 1) := by decide +kernel
theorem dX6_goes_203 : decode cX6_goes 203 = .ok (.getfield 20, 3) := by decide +kernel
theorem dX6_goes_206 : decode cX6_goes 206 = .ok (.iload 5, 2) := by decide +kernel
theorem dX6_goes_208 : decode cX6_goes 208 = .ok (.iaload, 1) := by decide +kernel
theorem dX6_goes_209 : decode cX6_goes 209 = .ok (.if_icmp .le 8, 3) := by decide +kernel
theorem dX6_goes_212 : decode cX6_goes 212 = .ok (.iload 8, 2) := by decide +kernel
theorem dX6_goes_214 : decode cX6_goes 214 = .ok (.goto 10, 3) := by decide +kernel
theorem dX6_goes_217 : decode cX6_goes 217 = .ok (.aload_n 0, 1) := by decide +kernel
theorem dX6_goes_218 : decode cX6_goes 218 = .ok (.getfield 20, 3) := by decide +kernel
theorem dX6_goes_221 : decode cX6_goes 221 = .ok (.iload 5, 2) := by decide +kernel
theorem dX6_goes_223 : decode cX6_goes 223 = .ok (.iaload, 1) := by decide +kernel
theorem dX6_goes_224 : decode cX6_goes 224 = .ok (.iastore, 1) := by decide +kernel
theorem dX6_goes_225 : decode cX6_goes 225 = .ok (.iinc 4 6, 3) := by decide +kernel
theorem dX6_goes_228 : decode cX6_goes 228 = .ok (.goto (-186), 3) := by decide +kernel
theorem dX6_goes_231 : decode cX6_goes 231 = .ok (.iinc 3 1, 3) := by decide +kernel
theorem dX6_goes_234 : decode cX6_goes 234 = .ok (.goto (-201), 3) := by decide +kernel
theorem dX6_goes_237 : decode cX6_goes 237 = .ok (.return_, 1) := by decide +kernel
theorem dX6_less_0 : decode cX6_less 0 = .ok (.iload_n 0, 1) := by decide +kernel
theorem dX6_less_1 : decode cX6_less 1 = .ok (.iload_n 1, 1) := by decide +kernel
theorem dX6_less_2 : decode cX6_less 2 = .ok (.if_icmp .ge 7, 3) := by decide +kernel
theorem dX6_less_5 : decode cX6_less 5 = .ok (.iload_n 0, 1) := by decide +kernel
theorem dX6_less_6 : decode cX6_less 6 = .ok (.goto 4, 3) := by decide +kernel
theorem dX6_less_9 : decode cX6_less 9 = .ok (.iload_n 1, 1) := by decide +kernel
theorem dX6_less_10 : decode cX6_less 10 = .ok (.ireturn, 1) := by decide +kernel
theorem dX6_deep_0 : decode cX6_deep 0 = .ok (.iload_n 1, 1) := by decide +kernel
theorem dX6_deep_1 : decode cX6_deep 1 = .ok (.invokestatic 96, 3) := by decide +kernel
theorem dX6_deep_4 : decode cX6_deep 4 = .ok (.ifCond .eq 10, 3) := by decide +kernel
theorem dX6_deep_7 : decode cX6_deep 7 = .ok (.iload_n 2, 1) := by decide +kernel
theorem dX6_deep_8 : decode cX6_deep 8 = .ok (.invokestatic 96, 3) := by decide +kernel
theorem dX6_deep_11 : decode cX6_deep 11 = .ok (.ifCond .ne 9, 3) := by decide +kernel
theorem dX6_deep_14 : decode cX6_deep 14 = .ok (.aload_n 0, 1) := by decide +kernel
theorem dX6_deep_15 : decode cX6_deep 15 = .ok (.iconst 1, 1) := by decide +kernel
theorem dX6_deep_16 : decode cX6_deep 16 = .ok (.invokevirtual 83, 3) := by decide +kernel
theorem dX6_deep_19 : decode cX6_deep 19 = .ok (.ireturn, 1) := by decide +kernel
theorem dX6_deep_20 : decode cX6_deep 20 = .ok (.aload_n 0, 1) := by decide +kernel
theorem dX6_deep_21 : decode cX6_deep 21 = .ok (.iconst 0, 1) := by decide +kernel
theorem dX6_deep_22 : decode cX6_deep 22 = .ok (.putfield 26, 3) := by decide +kernel
theorem dX6_deep_25 : decode cX6_deep 25 = .ok (.aload_n 0, 1) := by decide +kernel
theorem dX6_deep_26 : decode cX6_deep 26 = .ok (.iconst 0, 1) := by decide +kernel
theorem dX6_deep_27 : decode cX6_deep 27 = .ok (.iload_n 1, 1) := by decide +kernel
theorem dX6_deep_28 : decode cX6_deep 28 = .ok (.invokevirtual 99, 3) := by decide +kernel
theorem dX6_deep_31 : decode cX6_deep 31 = .ok (.aload_n 0, 1) := by decide +kernel
theorem dX6_deep_32 : decode cX6_deep 32 = .ok (.getfield 20, 3) := by decide +kernel
theorem dX6_deep_35 : decode cX6_deep 35 = .ok (.iload_n 2, 1) := by decide +kernel
theorem dX6_deep_36 : decode cX6_deep 36 = .ok (.iaload, 1) := by decide +kernel
theorem dX6_deep_37 : decode cX6_deep 37 = .ok (.ireturn, 1) := by decide +kernel
theorem dX6_bad_0 : decode cX6_bad 0 = .ok (.aload_n 0, 1) := by decide +kernel
theorem dX6_bad_1 : decode cX6_bad 1 = .ok (.iconst 0, 1) := by decide +kernel
theorem dX6_bad_2 : decode cX6_bad 2 = .ok (.putfield 26, 3) := by decide +kernel
theorem dX6_bad_5 : decode cX6_bad 5 = .ok (.iconst (-1), 1) := by decide +kernel
theorem dX6_bad_6 : decode cX6_bad 6 = .ok (.aload_n 0, 1) := by decide +kernel
theorem dX6_bad_7 : decode cX6_bad 7 = .ok (.sipush 1000, 3) := by decide +kernel
theorem dX6_bad_10 : decode cX6_bad 10 = .ok (.invokevirtual 110, 3) := by decide +kernel
theorem dX6_bad_13 : decode cX6_bad 13 = .ok (.isub, 1) := by decide +kernel
theorem dX6_bad_14 : decode cX6_bad 14 = .ok (.ireturn, 1) := by decide +kernel
theorem dX6_badAt_0 : decode cX6_badAt 0 = .ok (.aload_n 0, 1) := by decide +kernel
theorem dX6_badAt_1 : decode cX6_badAt 1 = .ok (.iconst 0, 1) := by decide +kernel
theorem dX6_badAt_2 : decode cX6_badAt 2 = .ok (.iconst 0, 1) := by decide +kernel
theorem dX6_badAt_3 : decode cX6_badAt 3 = .ok (.invokevirtual 99, 3) := by decide +kernel
theorem dX6_badAt_6 : decode cX6_badAt 6 = .ok (.iload_n 1, 1) := by decide +kernel
theorem dX6_badAt_7 : decode cX6_badAt 7 = .ok (.istore_n 2, 1) := by decide +kernel
theorem dX6_badAt_8 : decode cX6_badAt 8 = .ok (.iconst 0, 1) := by decide +kernel
theorem dX6_badAt_9 : decode cX6_badAt 9 = .ok (.istore_n 3, 1) := by decide +kernel
theorem dX6_badAt_10 : decode cX6_badAt 10 = .ok (.iload_n 3, 1) := by decide +kernel
theorem dX6_badAt_11 : decode cX6_badAt 11 = .ok (.iconst 4, 1) := by decide +kernel
theorem dX6_badAt_12 : decode cX6_badAt 12 = .ok (.if_icmp .ge 66, 3) := by decide +kernel
theorem dX6_badAt_15 : decode cX6_badAt 15 = .ok (.iconst 0, 1) := by decide +kernel
theorem dX6_badAt_16 : decode cX6_badAt 16 = .ok (.istore 4, 2) := by decide +kernel
theorem dX6_badAt_18 : decode cX6_badAt 18 = .ok (.iload 4, 2) := by decide +kernel
theorem dX6_badAt_20 : decode cX6_badAt 20 = .ok (.aload_n 0, 1) := by decide +kernel
theorem dX6_badAt_21 : decode cX6_badAt 21 = .ok (.getfield 86, 3) := by decide +kernel
theorem dX6_badAt_24 : decode cX6_badAt 24 = .ok (.if_icmp .ge 48, 3) := by decide +kernel
theorem dX6_badAt_27 : decode cX6_badAt 27 = .ok (.aload_n 0, 1) := by decide +kernel
theorem dX6_badAt_28 : decode cX6_badAt 28 = .ok (.iload 4, 2) := by decide +kernel
theorem dX6_badAt_30 : decode cX6_badAt 30 = .ok (.iload_n 3, 1) := by decide +kernel
theorem dX6_badAt_31 : decode cX6_badAt 31 = .ok (.invokevirtual 107, 3) := by decide +kernel
theorem dX6_badAt_34 : decode cX6_badAt 34 = .ok (.istore 5, 2) := by decide +kernel
theorem dX6_badAt_36 : decode cX6_badAt 36 = .ok (.iload 5, 2) := by decide +kernel
theorem dX6_badAt_38 : decode cX6_badAt 38 = .ok (.ifCond .eq 15, 3) := by decide +kernel
theorem dX6_badAt_41 : decode cX6_badAt 41 = .ok (.iload_n 2, 1) := by decide +kernel
theorem dX6_badAt_42 : decode cX6_badAt 42 = .ok (.ifCond .ne 11, 3) := by decide +kernel
theorem dX6_badAt_45 : decode cX6_badAt 45 = .ok (.bipush 10, 2) := by decide +kernel
theorem dX6_badAt_47 : decode cX6_badAt 47 = .ok (.iload 4, 2) := by decide +kernel
theorem dX6_badAt_49 : decode cX6_badAt 49 = .ok (.imul, 1) := by decide +kernel
theorem dX6_badAt_50 : decode cX6_badAt 50 = .ok (.iload_n 3, 1) := by decide +kernel
theorem dX6_badAt_51 : decode cX6_badAt 51 = .ok (.iadd, 1) := by decide +kernel
theorem dX6_badAt_52 : decode cX6_badAt 52 = .ok (.ireturn, 1) := by decide +kernel
theorem dX6_badAt_53 : decode cX6_badAt 53 = .ok (.iload_n 2, 1) := by decide +kernel
theorem dX6_badAt_54 : decode cX6_badAt 54 = .ok (.iload 5, 2) := by decide +kernel
theorem dX6_badAt_56 : decode cX6_badAt 56 = .ok (.ifCond .eq 7, 3) := by decide +kernel
theorem dX6_badAt_59 : decode cX6_badAt 59 = .ok (.iconst 1, 1) := by decide +kernel
theorem dX6_badAt_60 : decode cX6_badAt 60 = .ok (.goto 4, 3) := by decide +kernel
theorem dX6_badAt_63 : decode cX6_badAt 63 = .ok (.iconst 0, 1) := by decide +kernel
theorem dX6_badAt_64 : decode cX6_badAt 64 = .ok (.isub, 1) := by decide +kernel
theorem dX6_badAt_65 : decode cX6_badAt 65 = .ok (.istore_n 2, 1) := by decide +kernel
theorem dX6_badAt_66 : decode cX6_badAt 66 = .ok (.iinc 4 1, 3) := by decide +kernel
theorem dX6_badAt_69 : decode cX6_badAt 69 = .ok (.goto (-51), 3) := by decide +kernel
theorem dX6_badAt_72 : decode cX6_badAt 72 = .ok (.iinc 3 1, 3) := by decide +kernel
theorem dX6_badAt_75 : decode cX6_badAt 75 = .ok (.goto (-65), 3) := by decide +kernel
theorem dX6_badAt_78 : decode cX6_badAt 78 = .ok (.iload_n 2, 1) := by decide +kernel
theorem dX6_badAt_79 : decode cX6_badAt 79 = .ok (.iload_n 1, 1) := by decide +kernel
theorem dX6_badAt_80 : decode cX6_badAt 80 = .ok (.isub, 1) := by decide +kernel
theorem dX6_badAt_81 : decode cX6_badAt 81 = .ok (.iconst 1, 1) := by decide +kernel
theorem dX6_badAt_82 : decode cX6_badAt 82 = .ok (.isub, 1) := by decide +kernel
theorem dX6_badAt_83 : decode cX6_badAt 83 = .ok (.ireturn, 1) := by decide +kernel
theorem dX6_isBad_0 : decode cX6_isBad 0 = .ok (.aload_n 0, 1) := by decide +kernel
theorem dX6_isBad_1 : decode cX6_isBad 1 = .ok (.getfield 17, 3) := by decide +kernel
theorem dX6_isBad_4 : decode cX6_isBad 4 = .ok (.bipush 6, 2) := by decide +kernel
theorem dX6_isBad_6 : decode cX6_isBad 6 = .ok (.iload_n 1, 1) := by decide +kernel
theorem dX6_isBad_7 : decode cX6_isBad 7 = .ok (.imul, 1) := by decide +kernel
theorem dX6_isBad_8 : decode cX6_isBad 8 = .ok (.iaload, 1) := by decide +kernel
theorem dX6_isBad_9 : decode cX6_isBad 9 = .ok (.istore_n 3, 1) := by decide +kernel
theorem dX6_isBad_10 : decode cX6_isBad 10 = .ok (.aload_n 0, 1) := by decide +kernel
theorem dX6_isBad_11 : decode cX6_isBad 11 = .ok (.getfield 17, 3) := by decide +kernel
theorem dX6_isBad_14 : decode cX6_isBad 14 = .ok (.bipush 6, 2) := by decide +kernel
theorem dX6_isBad_16 : decode cX6_isBad 16 = .ok (.iload_n 1, 1) := by decide +kernel
theorem dX6_isBad_17 : decode cX6_isBad 17 = .ok (.imul, 1) := by decide +kernel
theorem dX6_isBad_18 : decode cX6_isBad 18 = .ok (.iconst 2, 1) := by decide +kernel
theorem dX6_isBad_19 : decode cX6_isBad 19 = .ok (.iadd, 1) := by decide +kernel
theorem dX6_isBad_20 : decode cX6_isBad 20 = .ok (.iaload, 1) := by decide +kernel
theorem dX6_isBad_21 : decode cX6_isBad 21 = .ok (.istore 4, 2) := by decide +kernel
theorem dX6_isBad_23 : decode cX6_isBad 23 = .ok (.iload_n 2, 1) := by decide +kernel
theorem dX6_isBad_24 : decode cX6_isBad 24 = .ok (.tableswitch 104 0 2 #[28, 54, 80], 28) := by decide +kernel
theorem dX6_isBad_52 : decode cX6_isBad 52 = .ok (.iload_n 3, 1) := by decide +kernel
theorem dX6_isBad_53 : decode cX6_isBad 53 = .ok (.iconst 1, 1) := by decide +kernel
theorem dX6_isBad_54 : decode cX6_isBad 54 = .ok (.if_icmp .eq 8, 3) := by decide +kernel
theorem dX6_isBad_57 : decode cX6_isBad 57 = .ok (.iload_n 3, 1) := by decide +kernel
theorem dX6_isBad_58 : decode cX6_isBad 58 = .ok (.iconst 2, 1) := by decide +kernel
theorem dX6_isBad_59 : decode cX6_isBad 59 = .ok (.if_icmp .ne 17, 3) := by decide +kernel
theorem dX6_isBad_62 : decode cX6_isBad 62 = .ok (.aload_n 0, 1) := by decide +kernel
theorem dX6_isBad_63 : decode cX6_isBad 63 = .ok (.iconst 0, 1) := by decide +kernel
theorem dX6_isBad_64 : decode cX6_isBad 64 = .ok (.iload 4, 2) := by decide +kernel
theorem dX6_isBad_66 : decode cX6_isBad 66 = .ok (.invokevirtual 103, 3) := by decide +kernel
theorem dX6_isBad_69 : decode cX6_isBad 69 = .ok (.ifCond .ne 7, 3) := by decide +kernel
theorem dX6_isBad_72 : decode cX6_isBad 72 = .ok (.iconst 1, 1) := by decide +kernel
theorem dX6_isBad_73 : decode cX6_isBad 73 = .ok (.goto 4, 3) := by decide +kernel
theorem dX6_isBad_76 : decode cX6_isBad 76 = .ok (.iconst 0, 1) := by decide +kernel
theorem dX6_isBad_77 : decode cX6_isBad 77 = .ok (.ireturn, 1) := by decide +kernel
theorem dX6_isBad_78 : decode cX6_isBad 78 = .ok (.iload_n 3, 1) := by decide +kernel
theorem dX6_isBad_79 : decode cX6_isBad 79 = .ok (.iconst 3, 1) := by decide +kernel
theorem dX6_isBad_80 : decode cX6_isBad 80 = .ok (.if_icmp .eq 8, 3) := by decide +kernel
theorem dX6_isBad_83 : decode cX6_isBad 83 = .ok (.iload_n 3, 1) := by decide +kernel
theorem dX6_isBad_84 : decode cX6_isBad 84 = .ok (.iconst 5, 1) := by decide +kernel
theorem dX6_isBad_85 : decode cX6_isBad 85 = .ok (.if_icmp .ne 17, 3) := by decide +kernel
theorem dX6_isBad_88 : decode cX6_isBad 88 = .ok (.aload_n 0, 1) := by decide +kernel
theorem dX6_isBad_89 : decode cX6_isBad 89 = .ok (.iconst 4, 1) := by decide +kernel
theorem dX6_isBad_90 : decode cX6_isBad 90 = .ok (.iload 4, 2) := by decide +kernel
theorem dX6_isBad_92 : decode cX6_isBad 92 = .ok (.invokevirtual 103, 3) := by decide +kernel
theorem dX6_isBad_95 : decode cX6_isBad 95 = .ok (.ifCond .ne 7, 3) := by decide +kernel
theorem dX6_isBad_98 : decode cX6_isBad 98 = .ok (.iconst 1, 1) := by decide +kernel
theorem dX6_isBad_99 : decode cX6_isBad 99 = .ok (.goto 4, 3) := by decide +kernel
theorem dX6_isBad_102 : decode cX6_isBad 102 = .ok (.iconst 0, 1) := by decide +kernel
theorem dX6_isBad_103 : decode cX6_isBad 103 = .ok (.ireturn, 1) := by decide +kernel
theorem dX6_isBad_104 : decode cX6_isBad 104 = .ok (.iload_n 3, 1) := by decide +kernel
theorem dX6_isBad_105 : decode cX6_isBad 105 = .ok (.ifCond .ne 21, 3) := by decide +kernel
theorem dX6_isBad_108 : decode cX6_isBad 108 = .ok (.aload_n 0, 1) := by decide +kernel
theorem dX6_isBad_109 : decode cX6_isBad 109 = .ok (.getfield 17, 3) := by decide +kernel
theorem dX6_isBad_112 : decode cX6_isBad 112 = .ok (.bipush 6, 2) := by decide +kernel
theorem dX6_isBad_114 : decode cX6_isBad 114 = .ok (.iload_n 1, 1) := by decide +kernel
theorem dX6_isBad_115 : decode cX6_isBad 115 = .ok (.imul, 1) := by decide +kernel
theorem dX6_isBad_116 : decode cX6_isBad 116 = .ok (.iconst 4, 1) := by decide +kernel
theorem dX6_isBad_117 : decode cX6_isBad 117 = .ok (.iadd, 1) := by decide +kernel
theorem dX6_isBad_118 : decode cX6_isBad 118 = .ok (.iaload, 1) := by decide +kernel
theorem dX6_isBad_119 : decode cX6_isBad 119 = .ok (.ifCond .ne 7, 3) := by decide +kernel
theorem dX6_isBad_122 : decode cX6_isBad 122 = .ok (.iconst 1, 1) := by decide +kernel
theorem dX6_isBad_123 : decode cX6_isBad 123 = .ok (.goto 4, 3) := by decide +kernel
theorem dX6_isBad_126 : decode cX6_isBad 126 = .ok (.iconst 0, 1) := by decide +kernel
theorem dX6_isBad_127 : decode cX6_isBad 127 = .ok (.ireturn, 1) := by decide +kernel
theorem dX6_isBad_128 : decode cX6_isBad 128 = .ok (.iload_n 3, 1) := by decide +kernel
theorem dX6_isBad_129 : decode cX6_isBad 129 = .ok (.iconst 2, 1) := by decide +kernel
theorem dX6_isBad_130 : decode cX6_isBad 130 = .ok (.if_icmp .ne 28, 3) := by decide +kernel
theorem dX6_isBad_133 : decode cX6_isBad 133 = .ok (.aload_n 0, 1) := by decide +kernel
theorem dX6_isBad_134 : decode cX6_isBad 134 = .ok (.getfield 17, 3) := by decide +kernel
theorem dX6_isBad_137 : decode cX6_isBad 137 = .ok (.bipush 6, 2) := by decide +kernel
theorem dX6_isBad_139 : decode cX6_isBad 139 = .ok (.iload_n 1, 1) := by decide +kernel
theorem dX6_isBad_140 : decode cX6_isBad 140 = .ok (.imul, 1) := by decide +kernel
theorem dX6_isBad_141 : decode cX6_isBad 141 = .ok (.iconst 4, 1) := by decide +kernel
theorem dX6_isBad_142 : decode cX6_isBad 142 = .ok (.iadd, 1) := by decide +kernel
theorem dX6_isBad_143 : decode cX6_isBad 143 = .ok (.iaload, 1) := by decide +kernel
theorem dX6_isBad_144 : decode cX6_isBad 144 = .ok (.aload_n 0, 1) := by decide +kernel
theorem dX6_isBad_145 : decode cX6_isBad 145 = .ok (.getfield 20, 3) := by decide +kernel
theorem dX6_isBad_148 : decode cX6_isBad 148 = .ok (.iload 4, 2) := by decide +kernel
theorem dX6_isBad_150 : decode cX6_isBad 150 = .ok (.iaload, 1) := by decide +kernel
theorem dX6_isBad_151 : decode cX6_isBad 151 = .ok (.if_icmp .le 7, 3) := by decide +kernel
theorem dX6_isBad_154 : decode cX6_isBad 154 = .ok (.iconst 1, 1) := by decide +kernel
theorem dX6_isBad_155 : decode cX6_isBad 155 = .ok (.goto 4, 3) := by decide +kernel
theorem dX6_isBad_158 : decode cX6_isBad 158 = .ok (.iconst 0, 1) := by decide +kernel
theorem dX6_isBad_159 : decode cX6_isBad 159 = .ok (.ireturn, 1) := by decide +kernel
theorem dX6_isTouched_0 : decode cX6_isTouched 0 = .ok (.iconst 0, 1) := by decide +kernel
theorem dX6_isTouched_1 : decode cX6_isTouched 1 = .ok (.istore_n 3, 1) := by decide +kernel
theorem dX6_isTouched_2 : decode cX6_isTouched 2 = .ok (.iconst 0, 1) := by decide +kernel
theorem dX6_isTouched_3 : decode cX6_isTouched 3 = .ok (.istore 4, 2) := by decide +kernel
theorem dX6_isTouched_5 : decode cX6_isTouched 5 = .ok (.iload 4, 2) := by decide +kernel
theorem dX6_isTouched_7 : decode cX6_isTouched 7 = .ok (.bipush 6, 2) := by decide +kernel
theorem dX6_isTouched_9 : decode cX6_isTouched 9 = .ok (.aload_n 0, 1) := by decide +kernel
theorem dX6_isTouched_10 : decode cX6_isTouched 10 = .ok (.getfield 86, 3) := by decide +kernel
theorem dX6_isTouched_13 : decode cX6_isTouched 13 = .ok (.imul, 1) := by decide +kernel
theorem dX6_isTouched_14 : decode cX6_isTouched 14 = .ok (.if_icmp .ge 56, 3) := by decide +kernel
theorem dX6_isTouched_17 : decode cX6_isTouched 17 = .ok (.iload_n 3, 1) := by decide +kernel
theorem dX6_isTouched_18 : decode cX6_isTouched 18 = .ok (.ifCond .ne 40, 3) := by decide +kernel
theorem dX6_isTouched_21 : decode cX6_isTouched 21 = .ok (.aload_n 0, 1) := by decide +kernel
theorem dX6_isTouched_22 : decode cX6_isTouched 22 = .ok (.getfield 17, 3) := by decide +kernel
theorem dX6_isTouched_25 : decode cX6_isTouched 25 = .ok (.iload 4, 2) := by decide +kernel
theorem dX6_isTouched_27 : decode cX6_isTouched 27 = .ok (.iaload, 1) := by decide +kernel
theorem dX6_isTouched_28 : decode cX6_isTouched 28 = .ok (.iload_n 1, 1) := by decide +kernel
theorem dX6_isTouched_29 : decode cX6_isTouched 29 = .ok (.if_icmp .ne 33, 3) := by decide +kernel
theorem dX6_isTouched_32 : decode cX6_isTouched 32 = .ok (.aload_n 0, 1) := by decide +kernel
theorem dX6_isTouched_33 : decode cX6_isTouched 33 = .ok (.getfield 17, 3) := by decide +kernel
theorem dX6_isTouched_36 : decode cX6_isTouched 36 = .ok (.iload 4, 2) := by decide +kernel
theorem dX6_isTouched_38 : decode cX6_isTouched 38 = .ok (.iconst 2, 1) := by decide +kernel
theorem dX6_isTouched_39 : decode cX6_isTouched 39 = .ok (.iadd, 1) := by decide +kernel
theorem dX6_isTouched_40 : decode cX6_isTouched 40 = .ok (.iaload, 1) := by decide +kernel
theorem dX6_isTouched_41 : decode cX6_isTouched 41 = .ok (.iload_n 2, 1) := by decide +kernel
theorem dX6_isTouched_42 : decode cX6_isTouched 42 = .ok (.if_icmp .eq 16, 3) := by decide +kernel
theorem dX6_isTouched_45 : decode cX6_isTouched 45 = .ok (.aload_n 0, 1) := by decide +kernel
theorem dX6_isTouched_46 : decode cX6_isTouched 46 = .ok (.getfield 17, 3) := by decide +kernel
theorem dX6_isTouched_49 : decode cX6_isTouched 49 = .ok (.iload 4, 2) := by decide +kernel
theorem dX6_isTouched_51 : decode cX6_isTouched 51 = .ok (.iconst 3, 1) := by decide +kernel
theorem dX6_isTouched_52 : decode cX6_isTouched 52 = .ok (.iadd, 1) := by decide +kernel
theorem dX6_isTouched_53 : decode cX6_isTouched 53 = .ok (.iaload, 1) := by decide +kernel
theorem dX6_isTouched_54 : decode cX6_isTouched 54 = .ok (.iload_n 2, 1) := by decide +kernel
theorem dX6_isTouched_55 : decode cX6_isTouched 55 = .ok (.if_icmp .ne 7, 3) := by decide +kernel
theorem dX6_isTouched_58 : decode cX6_isTouched 58 = .ok (.iconst 1, 1) := by decide +kernel
theorem dX6_isTouched_59 : decode cX6_isTouched 59 = .ok (.goto 4, 3) := by decide +kernel
theorem dX6_isTouched_62 : decode cX6_isTouched 62 = .ok (.iconst 0, 1) := by decide +kernel
theorem dX6_isTouched_63 : decode cX6_isTouched 63 = .ok (.istore_n 3, 1) := by decide +kernel
theorem dX6_isTouched_64 : decode cX6_isTouched 64 = .ok (.iinc 4 6, 3) := by decide +kernel
theorem dX6_isTouched_67 : decode cX6_isTouched 67 = .ok (.goto (-62), 3) := by decide +kernel
theorem dX6_isTouched_70 : decode cX6_isTouched 70 = .ok (.iload_n 3, 1) := by decide +kernel
theorem dX6_isTouched_71 : decode cX6_isTouched 71 = .ok (.ireturn, 1) := by decide +kernel
theorem dX6_unjoined_0 : decode cX6_unjoined 0 = .ok (.aload_n 0, 1) := by decide +kernel
theorem dX6_unjoined_1 : decode cX6_unjoined 1 = .ok (.iconst 0, 1) := by decide +kernel
theorem dX6_unjoined_2 : decode cX6_unjoined 2 = .ok (.putfield 26, 3) := by decide +kernel
theorem dX6_unjoined_5 : decode cX6_unjoined 5 = .ok (.iload_n 1, 1) := by decide +kernel
theorem dX6_unjoined_6 : decode cX6_unjoined 6 = .ok (.ifCond .ge 7, 3) := by decide +kernel
theorem dX6_unjoined_9 : decode cX6_unjoined 9 = .ok (.iconst (-1), 1) := by decide +kernel
theorem dX6_unjoined_10 : decode cX6_unjoined 10 = .ok (.goto 8, 3) := by decide +kernel
theorem dX6_unjoined_13 : decode cX6_unjoined 13 = .ok (.aload_n 0, 1) := by decide +kernel
theorem dX6_unjoined_14 : decode cX6_unjoined 14 = .ok (.iload_n 1, 1) := by decide +kernel
theorem dX6_unjoined_15 : decode cX6_unjoined 15 = .ok (.invokevirtual 110, 3) := by decide +kernel
theorem dX6_unjoined_18 : decode cX6_unjoined 18 = .ok (.istore_n 2, 1) := by decide +kernel
theorem dX6_unjoined_19 : decode cX6_unjoined 19 = .ok (.iload_n 2, 1) := by decide +kernel
theorem dX6_unjoined_20 : decode cX6_unjoined 20 = .ok (.ifCond .ge 7, 3) := by decide +kernel
theorem dX6_unjoined_23 : decode cX6_unjoined 23 = .ok (.iconst (-1), 1) := by decide +kernel
theorem dX6_unjoined_24 : decode cX6_unjoined 24 = .ok (.goto 4, 3) := by decide +kernel
theorem dX6_unjoined_27 : decode cX6_unjoined 27 = .ok (.iload_n 2, 1) := by decide +kernel
theorem dX6_unjoined_28 : decode cX6_unjoined 28 = .ok (.ireturn, 1) := by decide +kernel
theorem dX6_print_0 : decode cX6_print 0 = .ok (.aload_n 0, 1) := by decide +kernel
theorem dX6_print_1 : decode cX6_print 1 = .ok (.iconst 0, 1) := by decide +kernel
theorem dX6_print_2 : decode cX6_print 2 = .ok (.putfield 26, 3) := by decide +kernel
theorem dX6_print_5 : decode cX6_print 5 = .ok (.aload_n 0, 1) := by decide +kernel
theorem dX6_print_6 : decode cX6_print 6 = .ok (.invokevirtual 119, 3) := by decide +kernel
theorem dX6_print_9 : decode cX6_print 9 = .ok (.ireturn, 1) := by decide +kernel
theorem dX6_length_0 : decode cX6_length 0 = .ok (.iconst 0, 1) := by decide +kernel
theorem dX6_length_1 : decode cX6_length 1 = .ok (.istore_n 1, 1) := by decide +kernel
theorem dX6_length_2 : decode cX6_length 2 = .ok (.iconst 0, 1) := by decide +kernel
theorem dX6_length_3 : decode cX6_length 3 = .ok (.istore_n 2, 1) := by decide +kernel
theorem dX6_length_4 : decode cX6_length 4 = .ok (.iload_n 2, 1) := by decide +kernel
theorem dX6_length_5 : decode cX6_length 5 = .ok (.aload_n 0, 1) := by decide +kernel
theorem dX6_length_6 : decode cX6_length 6 = .ok (.getfield 86, 3) := by decide +kernel
theorem dX6_length_9 : decode cX6_length 9 = .ok (.if_icmp .ge 17, 3) := by decide +kernel
theorem dX6_length_12 : decode cX6_length 12 = .ok (.iload_n 1, 1) := by decide +kernel
theorem dX6_length_13 : decode cX6_length 13 = .ok (.aload_n 0, 1) := by decide +kernel
theorem dX6_length_14 : decode cX6_length 14 = .ok (.iload_n 2, 1) := by decide +kernel
theorem dX6_length_15 : decode cX6_length 15 = .ok (.invokevirtual 116, 3) := by decide +kernel
theorem dX6_length_18 : decode cX6_length 18 = .ok (.iadd, 1) := by decide +kernel
theorem dX6_length_19 : decode cX6_length 19 = .ok (.istore_n 1, 1) := by decide +kernel
theorem dX6_length_20 : decode cX6_length 20 = .ok (.iinc 2 1, 3) := by decide +kernel
theorem dX6_length_23 : decode cX6_length 23 = .ok (.goto (-19), 3) := by decide +kernel
theorem dX6_length_26 : decode cX6_length 26 = .ok (.iload_n 1, 1) := by decide +kernel
theorem dX6_length_27 : decode cX6_length 27 = .ok (.ireturn, 1) := by decide +kernel
theorem dX6_prints_0 : decode cX6_prints 0 = .ok (.aload_n 0, 1) := by decide +kernel
theorem dX6_prints_1 : decode cX6_prints 1 = .ok (.getfield 17, 3) := by decide +kernel
theorem dX6_prints_4 : decode cX6_prints 4 = .ok (.bipush 6, 2) := by decide +kernel
theorem dX6_prints_6 : decode cX6_prints 6 = .ok (.iload_n 1, 1) := by decide +kernel
theorem dX6_prints_7 : decode cX6_prints 7 = .ok (.imul, 1) := by decide +kernel
theorem dX6_prints_8 : decode cX6_prints 8 = .ok (.iaload, 1) := by decide +kernel
theorem dX6_prints_9 : decode cX6_prints 9 = .ok (.istore_n 2, 1) := by decide +kernel
theorem dX6_prints_10 : decode cX6_prints 10 = .ok (.iload_n 2, 1) := by decide +kernel
theorem dX6_prints_11 : decode cX6_prints 11 = .ok (.invokestatic 77, 3) := by decide +kernel
theorem dX6_prints_14 : decode cX6_prints 14 = .ok (.istore_n 3, 1) := by decide +kernel
theorem dX6_prints_15 : decode cX6_prints 15 = .ok (.aload_n 0, 1) := by decide +kernel
theorem dX6_prints_16 : decode cX6_prints 16 = .ok (.getfield 23, 3) := by decide +kernel
theorem dX6_prints_19 : decode cX6_prints 19 = .ok (.iconst 0, 1) := by decide +kernel
theorem dX6_prints_20 : decode cX6_prints 20 = .ok (.iload_n 2, 1) := by decide +kernel
theorem dX6_prints_21 : decode cX6_prints 21 = .ok (.invokestatic 29, 3) := by decide +kernel
theorem dX6_prints_24 : decode cX6_prints 24 = .ok (.iastore, 1) := by decide +kernel
theorem dX6_prints_25 : decode cX6_prints 25 = .ok (.aload_n 0, 1) := by decide +kernel
theorem dX6_prints_26 : decode cX6_prints 26 = .ok (.iconst 1, 1) := by decide +kernel
theorem dX6_prints_27 : decode cX6_prints 27 = .ok (.aload_n 0, 1) := by decide +kernel
theorem dX6_prints_28 : decode cX6_prints 28 = .ok (.getfield 17, 3) := by decide +kernel
theorem dX6_prints_31 : decode cX6_prints 31 = .ok (.bipush 6, 2) := by decide +kernel
theorem dX6_prints_33 : decode cX6_prints 33 = .ok (.iload_n 1, 1) := by decide +kernel
theorem dX6_prints_34 : decode cX6_prints 34 = .ok (.imul, 1) := by decide +kernel
theorem dX6_prints_35 : decode cX6_prints 35 = .ok (.iconst 1, 1) := by decide +kernel
theorem dX6_prints_36 : decode cX6_prints 36 = .ok (.iadd, 1) := by decide +kernel
theorem dX6_prints_37 : decode cX6_prints 37 = .ok (.iaload, 1) := by decide +kernel
theorem dX6_prints_38 : decode cX6_prints 38 = .ok (.bipush 61, 2) := by decide +kernel
theorem dX6_prints_40 : decode cX6_prints 40 = .ok (.invokevirtual 113, 3) := by decide +kernel
theorem dX6_prints_43 : decode cX6_prints 43 = .ok (.istore 4, 2) := by decide +kernel
theorem dX6_prints_45 : decode cX6_prints 45 = .ok (.iconst 0, 1) := by decide +kernel
theorem dX6_prints_46 : decode cX6_prints 46 = .ok (.istore 5, 2) := by decide +kernel
theorem dX6_prints_48 : decode cX6_prints 48 = .ok (.iload 5, 2) := by decide +kernel
theorem dX6_prints_50 : decode cX6_prints 50 = .ok (.iload_n 3, 1) := by decide +kernel
theorem dX6_prints_51 : decode cX6_prints 51 = .ok (.if_icmp .ge 46, 3) := by decide +kernel
theorem dX6_prints_54 : decode cX6_prints 54 = .ok (.aload_n 0, 1) := by decide +kernel
theorem dX6_prints_55 : decode cX6_prints 55 = .ok (.iload 4, 2) := by decide +kernel
theorem dX6_prints_57 : decode cX6_prints 57 = .ok (.aload_n 0, 1) := by decide +kernel
theorem dX6_prints_58 : decode cX6_prints 58 = .ok (.getfield 17, 3) := by decide +kernel
theorem dX6_prints_61 : decode cX6_prints 61 = .ok (.bipush 6, 2) := by decide +kernel
theorem dX6_prints_63 : decode cX6_prints 63 = .ok (.iload_n 1, 1) := by decide +kernel
theorem dX6_prints_64 : decode cX6_prints 64 = .ok (.imul, 1) := by decide +kernel
theorem dX6_prints_65 : decode cX6_prints 65 = .ok (.iconst 2, 1) := by decide +kernel
theorem dX6_prints_66 : decode cX6_prints 66 = .ok (.iadd, 1) := by decide +kernel
theorem dX6_prints_67 : decode cX6_prints 67 = .ok (.iload 5, 2) := by decide +kernel
theorem dX6_prints_69 : decode cX6_prints 69 = .ok (.iadd, 1) := by decide +kernel
theorem dX6_prints_70 : decode cX6_prints 70 = .ok (.iaload, 1) := by decide +kernel
theorem dX6_prints_71 : decode cX6_prints 71 = .ok (.iload 5, 2) := by decide +kernel
theorem dX6_prints_73 : decode cX6_prints 73 = .ok (.iload_n 3, 1) := by decide +kernel
theorem dX6_prints_74 : decode cX6_prints 74 = .ok (.iconst 1, 1) := by decide +kernel
theorem dX6_prints_75 : decode cX6_prints 75 = .ok (.isub, 1) := by decide +kernel
theorem dX6_prints_76 : decode cX6_prints 76 = .ok (.if_icmp .ne 8, 3) := by decide +kernel
theorem dX6_prints_79 : decode cX6_prints 79 = .ok (.bipush 59, 2) := by decide +kernel
theorem dX6_prints_81 : decode cX6_prints 81 = .ok (.goto 5, 3) := by decide +kernel
theorem dX6_prints_84 : decode cX6_prints 84 = .ok (.bipush 44, 2) := by decide +kernel
theorem dX6_prints_86 : decode cX6_prints 86 = .ok (.invokevirtual 113, 3) := by decide +kernel
theorem dX6_prints_89 : decode cX6_prints 89 = .ok (.istore 4, 2) := by decide +kernel
theorem dX6_prints_91 : decode cX6_prints 91 = .ok (.iinc 5 1, 3) := by decide +kernel
theorem dX6_prints_94 : decode cX6_prints 94 = .ok (.goto (-46), 3) := by decide +kernel
theorem dX6_prints_97 : decode cX6_prints 97 = .ok (.iload 4, 2) := by decide +kernel
theorem dX6_prints_99 : decode cX6_prints 99 = .ok (.ireturn, 1) := by decide +kernel
theorem dX6_puts_0 : decode cX6_puts 0 = .ok (.iload_n 1, 1) := by decide +kernel
theorem dX6_puts_1 : decode cX6_puts 1 = .ok (.istore 4, 2) := by decide +kernel
theorem dX6_puts_3 : decode cX6_puts 3 = .ok (.iload_n 2, 1) := by decide +kernel
theorem dX6_puts_4 : decode cX6_puts 4 = .ok (.bipush 9, 2) := by decide +kernel
theorem dX6_puts_6 : decode cX6_puts 6 = .ok (.if_icmp .le 20, 3) := by decide +kernel
theorem dX6_puts_9 : decode cX6_puts 9 = .ok (.aload_n 0, 1) := by decide +kernel
theorem dX6_puts_10 : decode cX6_puts 10 = .ok (.getfield 23, 3) := by decide +kernel
theorem dX6_puts_13 : decode cX6_puts 13 = .ok (.iload 4, 2) := by decide +kernel
theorem dX6_puts_15 : decode cX6_puts 15 = .ok (.bipush 48, 2) := by decide +kernel
theorem dX6_puts_17 : decode cX6_puts 17 = .ok (.iload_n 2, 1) := by decide +kernel
theorem dX6_puts_18 : decode cX6_puts 18 = .ok (.bipush 10, 2) := by decide +kernel
theorem dX6_puts_20 : decode cX6_puts 20 = .ok (.idiv, 1) := by decide +kernel
theorem dX6_puts_21 : decode cX6_puts 21 = .ok (.iadd, 1) := by decide +kernel
theorem dX6_puts_22 : decode cX6_puts 22 = .ok (.iastore, 1) := by decide +kernel
theorem dX6_puts_23 : decode cX6_puts 23 = .ok (.iinc 4 1, 3) := by decide +kernel
theorem dX6_puts_26 : decode cX6_puts 26 = .ok (.aload_n 0, 1) := by decide +kernel
theorem dX6_puts_27 : decode cX6_puts 27 = .ok (.getfield 23, 3) := by decide +kernel
theorem dX6_puts_30 : decode cX6_puts 30 = .ok (.iload 4, 2) := by decide +kernel
theorem dX6_puts_32 : decode cX6_puts 32 = .ok (.bipush 48, 2) := by decide +kernel
theorem dX6_puts_34 : decode cX6_puts 34 = .ok (.iload_n 2, 1) := by decide +kernel
theorem dX6_puts_35 : decode cX6_puts 35 = .ok (.bipush 10, 2) := by decide +kernel
theorem dX6_puts_37 : decode cX6_puts 37 = .ok (.irem, 1) := by decide +kernel
theorem dX6_puts_38 : decode cX6_puts 38 = .ok (.iadd, 1) := by decide +kernel
theorem dX6_puts_39 : decode cX6_puts 39 = .ok (.iastore, 1) := by decide +kernel
theorem dX6_puts_40 : decode cX6_puts 40 = .ok (.aload_n 0, 1) := by decide +kernel
theorem dX6_puts_41 : decode cX6_puts 41 = .ok (.getfield 23, 3) := by decide +kernel
theorem dX6_puts_44 : decode cX6_puts 44 = .ok (.iload 4, 2) := by decide +kernel
theorem dX6_puts_46 : decode cX6_puts 46 = .ok (.iconst 1, 1) := by decide +kernel
theorem dX6_puts_47 : decode cX6_puts 47 = .ok (.iadd, 1) := by decide +kernel
theorem dX6_puts_48 : decode cX6_puts 48 = .ok (.iload_n 3, 1) := by decide +kernel
theorem dX6_puts_49 : decode cX6_puts 49 = .ok (.iastore, 1) := by decide +kernel
theorem dX6_puts_50 : decode cX6_puts 50 = .ok (.iload 4, 2) := by decide +kernel
theorem dX6_puts_52 : decode cX6_puts 52 = .ok (.iconst 2, 1) := by decide +kernel
theorem dX6_puts_53 : decode cX6_puts 53 = .ok (.iadd, 1) := by decide +kernel
theorem dX6_puts_54 : decode cX6_puts 54 = .ok (.ireturn, 1) := by decide +kernel
theorem dX6_at_0 : decode cX6_at 0 = .ok (.iload_n 1, 1) := by decide +kernel
theorem dX6_at_1 : decode cX6_at 1 = .ok (.ifCond .lt 11, 3) := by decide +kernel
theorem dX6_at_4 : decode cX6_at 4 = .ok (.iload_n 1, 1) := by decide +kernel
theorem dX6_at_5 : decode cX6_at 5 = .ok (.aload_n 0, 1) := by decide +kernel
theorem dX6_at_6 : decode cX6_at 6 = .ok (.invokevirtual 119, 3) := by decide +kernel
theorem dX6_at_9 : decode cX6_at 9 = .ok (.if_icmp .lt 9, 3) := by decide +kernel
theorem dX6_at_12 : decode cX6_at 12 = .ok (.aload_n 0, 1) := by decide +kernel
theorem dX6_at_13 : decode cX6_at 13 = .ok (.iconst 1, 1) := by decide +kernel
theorem dX6_at_14 : decode cX6_at 14 = .ok (.invokevirtual 83, 3) := by decide +kernel
theorem dX6_at_17 : decode cX6_at 17 = .ok (.ireturn, 1) := by decide +kernel
theorem dX6_at_18 : decode cX6_at 18 = .ok (.aload_n 0, 1) := by decide +kernel
theorem dX6_at_19 : decode cX6_at 19 = .ok (.iconst 0, 1) := by decide +kernel
theorem dX6_at_20 : decode cX6_at 20 = .ok (.putfield 26, 3) := by decide +kernel
theorem dX6_at_23 : decode cX6_at 23 = .ok (.iload_n 1, 1) := by decide +kernel
theorem dX6_at_24 : decode cX6_at 24 = .ok (.istore_n 2, 1) := by decide +kernel
theorem dX6_at_25 : decode cX6_at 25 = .ok (.iconst 0, 1) := by decide +kernel
theorem dX6_at_26 : decode cX6_at 26 = .ok (.istore_n 3, 1) := by decide +kernel
theorem dX6_at_27 : decode cX6_at 27 = .ok (.aload_n 0, 1) := by decide +kernel
theorem dX6_at_28 : decode cX6_at 28 = .ok (.aload_n 0, 1) := by decide +kernel
theorem dX6_at_29 : decode cX6_at 29 = .ok (.iconst 0, 1) := by decide +kernel
theorem dX6_at_30 : decode cX6_at 30 = .ok (.invokevirtual 123, 3) := by decide +kernel
theorem dX6_at_33 : decode cX6_at 33 = .ok (.invokevirtual 116, 3) := by decide +kernel
theorem dX6_at_36 : decode cX6_at 36 = .ok (.istore 4, 2) := by decide +kernel
theorem dX6_at_38 : decode cX6_at 38 = .ok (.iload_n 2, 1) := by decide +kernel
theorem dX6_at_39 : decode cX6_at 39 = .ok (.iload 4, 2) := by decide +kernel
theorem dX6_at_41 : decode cX6_at 41 = .ok (.if_icmp .lt 25, 3) := by decide +kernel
theorem dX6_at_44 : decode cX6_at 44 = .ok (.iload_n 2, 1) := by decide +kernel
theorem dX6_at_45 : decode cX6_at 45 = .ok (.iload 4, 2) := by decide +kernel
theorem dX6_at_47 : decode cX6_at 47 = .ok (.isub, 1) := by decide +kernel
theorem dX6_at_48 : decode cX6_at 48 = .ok (.istore_n 2, 1) := by decide +kernel
theorem dX6_at_49 : decode cX6_at 49 = .ok (.iinc 3 1, 3) := by decide +kernel
theorem dX6_at_52 : decode cX6_at 52 = .ok (.aload_n 0, 1) := by decide +kernel
theorem dX6_at_53 : decode cX6_at 53 = .ok (.aload_n 0, 1) := by decide +kernel
theorem dX6_at_54 : decode cX6_at 54 = .ok (.iload_n 3, 1) := by decide +kernel
theorem dX6_at_55 : decode cX6_at 55 = .ok (.invokevirtual 123, 3) := by decide +kernel
theorem dX6_at_58 : decode cX6_at 58 = .ok (.invokevirtual 116, 3) := by decide +kernel
theorem dX6_at_61 : decode cX6_at 61 = .ok (.istore 4, 2) := by decide +kernel
theorem dX6_at_63 : decode cX6_at 63 = .ok (.goto (-25), 3) := by decide +kernel
theorem dX6_at_66 : decode cX6_at 66 = .ok (.aload_n 0, 1) := by decide +kernel
theorem dX6_at_67 : decode cX6_at 67 = .ok (.getfield 23, 3) := by decide +kernel
theorem dX6_at_70 : decode cX6_at 70 = .ok (.iload_n 2, 1) := by decide +kernel
theorem dX6_at_71 : decode cX6_at 71 = .ok (.iaload, 1) := by decide +kernel
theorem dX6_at_72 : decode cX6_at 72 = .ok (.ireturn, 1) := by decide +kernel
theorem dX6_order_0 : decode cX6_order 0 = .ok (.iconst 0, 1) := by decide +kernel
theorem dX6_order_1 : decode cX6_order 1 = .ok (.istore_n 2, 1) := by decide +kernel
theorem dX6_order_2 : decode cX6_order 2 = .ok (.iconst 0, 1) := by decide +kernel
theorem dX6_order_3 : decode cX6_order 3 = .ok (.istore_n 3, 1) := by decide +kernel
theorem dX6_order_4 : decode cX6_order 4 = .ok (.iload_n 3, 1) := by decide +kernel
theorem dX6_order_5 : decode cX6_order 5 = .ok (.aload_n 0, 1) := by decide +kernel
theorem dX6_order_6 : decode cX6_order 6 = .ok (.getfield 86, 3) := by decide +kernel
theorem dX6_order_9 : decode cX6_order 9 = .ok (.if_icmp .ge 109, 3) := by decide +kernel
theorem dX6_order_12 : decode cX6_order 12 = .ok (.iconst 0, 1) := by decide +kernel
theorem dX6_order_13 : decode cX6_order 13 = .ok (.istore 4, 2) := by decide +kernel
theorem dX6_order_15 : decode cX6_order 15 = .ok (.iconst 0, 1) := by decide +kernel
theorem dX6_order_16 : decode cX6_order 16 = .ok (.istore 5, 2) := by decide +kernel
theorem dX6_order_18 : decode cX6_order 18 = .ok (.iload 5, 2) := by decide +kernel
theorem dX6_order_20 : decode cX6_order 20 = .ok (.aload_n 0, 1) := by decide +kernel
theorem dX6_order_21 : decode cX6_order 21 = .ok (.getfield 86, 3) := by decide +kernel
theorem dX6_order_24 : decode cX6_order 24 = .ok (.if_icmp .ge 76, 3) := by decide +kernel
theorem dX6_order_27 : decode cX6_order 27 = .ok (.bipush 100, 2) := by decide +kernel
theorem dX6_order_29 : decode cX6_order 29 = .ok (.aload_n 0, 1) := by decide +kernel
theorem dX6_order_30 : decode cX6_order 30 = .ok (.getfield 17, 3) := by decide +kernel
theorem dX6_order_33 : decode cX6_order 33 = .ok (.bipush 6, 2) := by decide +kernel
theorem dX6_order_35 : decode cX6_order 35 = .ok (.iload 5, 2) := by decide +kernel
theorem dX6_order_37 : decode cX6_order 37 = .ok (.imul, 1) := by decide +kernel
theorem dX6_order_38 : decode cX6_order 38 = .ok (.iaload, 1) := by decide +kernel
theorem dX6_order_39 : decode cX6_order 39 = .ok (.imul, 1) := by decide +kernel
theorem dX6_order_40 : decode cX6_order 40 = .ok (.aload_n 0, 1) := by decide +kernel
theorem dX6_order_41 : decode cX6_order 41 = .ok (.getfield 17, 3) := by decide +kernel
theorem dX6_order_44 : decode cX6_order 44 = .ok (.bipush 6, 2) := by decide +kernel
theorem dX6_order_46 : decode cX6_order 46 = .ok (.iload 5, 2) := by decide +kernel
theorem dX6_order_48 : decode cX6_order 48 = .ok (.imul, 1) := by decide +kernel
theorem dX6_order_49 : decode cX6_order 49 = .ok (.iconst 1, 1) := by decide +kernel
theorem dX6_order_50 : decode cX6_order 50 = .ok (.iadd, 1) := by decide +kernel
theorem dX6_order_51 : decode cX6_order 51 = .ok (.iaload, 1) := by decide +kernel
theorem dX6_order_52 : decode cX6_order 52 = .ok (.iadd, 1) := by decide +kernel
theorem dX6_order_53 : decode cX6_order 53 = .ok (.istore 6, 2) := by decide +kernel
theorem dX6_order_55 : decode cX6_order 55 = .ok (.iload 4, 2) := by decide +kernel
theorem dX6_order_57 : decode cX6_order 57 = .ok (.iload 6, 2) := by decide +kernel
theorem dX6_order_59 : decode cX6_order 59 = .ok (.bipush 100, 2) := by decide +kernel
theorem dX6_order_61 : decode cX6_order 61 = .ok (.aload_n 0, 1) := by decide +kernel
theorem dX6_order_62 : decode cX6_order 62 = .ok (.getfield 17, 3) := by decide +kernel
theorem dX6_order_65 : decode cX6_order 65 = .ok (.bipush 6, 2) := by decide +kernel
theorem dX6_order_67 : decode cX6_order 67 = .ok (.iload_n 3, 1) := by decide +kernel
theorem dX6_order_68 : decode cX6_order 68 = .ok (.imul, 1) := by decide +kernel
theorem dX6_order_69 : decode cX6_order 69 = .ok (.iaload, 1) := by decide +kernel
theorem dX6_order_70 : decode cX6_order 70 = .ok (.imul, 1) := by decide +kernel
theorem dX6_order_71 : decode cX6_order 71 = .ok (.aload_n 0, 1) := by decide +kernel
theorem dX6_order_72 : decode cX6_order 72 = .ok (.getfield 17, 3) := by decide +kernel
theorem dX6_order_75 : decode cX6_order 75 = .ok (.bipush 6, 2) := by decide +kernel
theorem dX6_order_77 : decode cX6_order 77 = .ok (.iload_n 3, 1) := by decide +kernel
theorem dX6_order_78 : decode cX6_order 78 = .ok (.imul, 1) := by decide +kernel
theorem dX6_order_79 : decode cX6_order 79 = .ok (.iconst 1, 1) := by decide +kernel
theorem dX6_order_80 : decode cX6_order 80 = .ok (.iadd, 1) := by decide +kernel
theorem dX6_order_81 : decode cX6_order 81 = .ok (.iaload, 1) := by decide +kernel
theorem dX6_order_82 : decode cX6_order 82 = .ok (.iadd, 1) := by decide +kernel
theorem dX6_order_83 : decode cX6_order 83 = .ok (.if_icmp .ge 7, 3) := by decide +kernel
theorem dX6_order_86 : decode cX6_order 86 = .ok (.iconst 1, 1) := by decide +kernel
theorem dX6_order_87 : decode cX6_order 87 = .ok (.goto 4, 3) := by decide +kernel
theorem dX6_order_90 : decode cX6_order 90 = .ok (.iconst 0, 1) := by decide +kernel
theorem dX6_order_91 : decode cX6_order 91 = .ok (.iadd, 1) := by decide +kernel
theorem dX6_order_92 : decode cX6_order 92 = .ok (.istore 4, 2) := by decide +kernel
theorem dX6_order_94 : decode cX6_order 94 = .ok (.iinc 5 1, 3) := by decide +kernel
theorem dX6_order_97 : decode cX6_order 97 = .ok (.goto (-79), 3) := by decide +kernel
theorem dX6_order_100 : decode cX6_order 100 = .ok (.iload 4, 2) := by decide +kernel
theorem dX6_order_102 : decode cX6_order 102 = .ok (.iload_n 1, 1) := by decide +kernel
theorem dX6_order_103 : decode cX6_order 103 = .ok (.if_icmp .ne 7, 3) := by decide +kernel
theorem dX6_order_106 : decode cX6_order 106 = .ok (.iload_n 3, 1) := by decide +kernel
theorem dX6_order_107 : decode cX6_order 107 = .ok (.goto 4, 3) := by decide +kernel
theorem dX6_order_110 : decode cX6_order 110 = .ok (.iload_n 2, 1) := by decide +kernel
theorem dX6_order_111 : decode cX6_order 111 = .ok (.istore_n 2, 1) := by decide +kernel
theorem dX6_order_112 : decode cX6_order 112 = .ok (.iinc 3 1, 3) := by decide +kernel
theorem dX6_order_115 : decode cX6_order 115 = .ok (.goto (-111), 3) := by decide +kernel
theorem dX6_order_118 : decode cX6_order 118 = .ok (.iload_n 2, 1) := by decide +kernel
theorem dX6_order_119 : decode cX6_order 119 = .ok (.ireturn, 1) := by decide +kernel
theorem dX6_keep_0 : decode cX6_keep 0 = .ok (.aload_n 0, 1) := by decide +kernel
theorem dX6_keep_1 : decode cX6_keep 1 = .ok (.iconst 0, 1) := by decide +kernel
theorem dX6_keep_2 : decode cX6_keep 2 = .ok (.putfield 26, 3) := by decide +kernel
theorem dX6_keep_5 : decode cX6_keep 5 = .ok (.aload_n 0, 1) := by decide +kernel
theorem dX6_keep_6 : decode cX6_keep 6 = .ok (.aload_n 0, 1) := by decide +kernel
theorem dX6_keep_7 : decode cX6_keep 7 = .ok (.getfield 86, 3) := by decide +kernel
theorem dX6_keep_10 : decode cX6_keep 10 = .ok (.putfield 126, 3) := by decide +kernel
theorem dX6_keep_13 : decode cX6_keep 13 = .ok (.aload_n 0, 1) := by decide +kernel
theorem dX6_keep_14 : decode cX6_keep 14 = .ok (.iconst 0, 1) := by decide +kernel
theorem dX6_keep_15 : decode cX6_keep 15 = .ok (.sipush 300, 3) := by decide +kernel
theorem dX6_keep_18 : decode cX6_keep 18 = .ok (.aload_n 0, 1) := by decide +kernel
theorem dX6_keep_19 : decode cX6_keep 19 = .ok (.getfield 126, 3) := by decide +kernel
theorem dX6_keep_22 : decode cX6_keep 22 = .ok (.invokevirtual 89, 3) := by decide +kernel
theorem dX6_keep_25 : decode cX6_keep 25 = .ok (.aload_n 0, 1) := by decide +kernel
theorem dX6_keep_26 : decode cX6_keep 26 = .ok (.getfield 126, 3) := by decide +kernel
theorem dX6_keep_29 : decode cX6_keep 29 = .ok (.ireturn, 1) := by decide +kernel
theorem dX6_compare_0 : decode cX6_compare 0 = .ok (.aload_n 0, 1) := by decide +kernel
theorem dX6_compare_1 : decode cX6_compare 1 = .ok (.iconst 0, 1) := by decide +kernel
theorem dX6_compare_2 : decode cX6_compare 2 = .ok (.putfield 26, 3) := by decide +kernel
theorem dX6_compare_5 : decode cX6_compare 5 = .ok (.iconst 0, 1) := by decide +kernel
theorem dX6_compare_6 : decode cX6_compare 6 = .ok (.istore_n 1, 1) := by decide +kernel
theorem dX6_compare_7 : decode cX6_compare 7 = .ok (.iconst 0, 1) := by decide +kernel
theorem dX6_compare_8 : decode cX6_compare 8 = .ok (.istore_n 2, 1) := by decide +kernel
theorem dX6_compare_9 : decode cX6_compare 9 = .ok (.iconst 0, 1) := by decide +kernel
theorem dX6_compare_10 : decode cX6_compare 10 = .ok (.istore_n 3, 1) := by decide +kernel
theorem dX6_compare_11 : decode cX6_compare 11 = .ok (.iload_n 3, 1) := by decide +kernel
theorem dX6_compare_12 : decode cX6_compare 12 = .ok (.aload_n 0, 1) := by decide +kernel
theorem dX6_compare_13 : decode cX6_compare 13 = .ok (.getfield 86, 3) := by decide +kernel
theorem dX6_compare_16 : decode cX6_compare 16 = .ok (.if_icmp .ge 97, 3) := by decide +kernel
theorem dX6_compare_19 : decode cX6_compare 19 = .ok (.aload_n 0, 1) := by decide +kernel
theorem dX6_compare_20 : decode cX6_compare 20 = .ok (.sipush 300, 3) := by decide +kernel
theorem dX6_compare_23 : decode cX6_compare 23 = .ok (.aload_n 0, 1) := by decide +kernel
theorem dX6_compare_24 : decode cX6_compare 24 = .ok (.getfield 126, 3) := by decide +kernel
theorem dX6_compare_27 : decode cX6_compare 27 = .ok (.aload_n 0, 1) := by decide +kernel
theorem dX6_compare_28 : decode cX6_compare 28 = .ok (.getfield 17, 3) := by decide +kernel
theorem dX6_compare_31 : decode cX6_compare 31 = .ok (.bipush 6, 2) := by decide +kernel
theorem dX6_compare_33 : decode cX6_compare 33 = .ok (.iload_n 3, 1) := by decide +kernel
theorem dX6_compare_34 : decode cX6_compare 34 = .ok (.imul, 1) := by decide +kernel
theorem dX6_compare_35 : decode cX6_compare 35 = .ok (.iaload, 1) := by decide +kernel
theorem dX6_compare_36 : decode cX6_compare 36 = .ok (.aload_n 0, 1) := by decide +kernel
theorem dX6_compare_37 : decode cX6_compare 37 = .ok (.getfield 17, 3) := by decide +kernel
theorem dX6_compare_40 : decode cX6_compare 40 = .ok (.bipush 6, 2) := by decide +kernel
theorem dX6_compare_42 : decode cX6_compare 42 = .ok (.iload_n 3, 1) := by decide +kernel
theorem dX6_compare_43 : decode cX6_compare 43 = .ok (.imul, 1) := by decide +kernel
theorem dX6_compare_44 : decode cX6_compare 44 = .ok (.iconst 1, 1) := by decide +kernel
theorem dX6_compare_45 : decode cX6_compare 45 = .ok (.iadd, 1) := by decide +kernel
theorem dX6_compare_46 : decode cX6_compare 46 = .ok (.iaload, 1) := by decide +kernel
theorem dX6_compare_47 : decode cX6_compare 47 = .ok (.invokevirtual 53, 3) := by decide +kernel
theorem dX6_compare_50 : decode cX6_compare 50 = .ok (.istore 4, 2) := by decide +kernel
theorem dX6_compare_52 : decode cX6_compare 52 = .ok (.iload_n 1, 1) := by decide +kernel
theorem dX6_compare_53 : decode cX6_compare 53 = .ok (.iload 4, 2) := by decide +kernel
theorem dX6_compare_55 : decode cX6_compare 55 = .ok (.ifCond .lt 32, 3) := by decide +kernel
theorem dX6_compare_58 : decode cX6_compare 58 = .ok (.aload_n 0, 1) := by decide +kernel
theorem dX6_compare_59 : decode cX6_compare 59 = .ok (.bipush 6, 2) := by decide +kernel
theorem dX6_compare_61 : decode cX6_compare 61 = .ok (.iload_n 3, 1) := by decide +kernel
theorem dX6_compare_62 : decode cX6_compare 62 = .ok (.imul, 1) := by decide +kernel
theorem dX6_compare_63 : decode cX6_compare 63 = .ok (.sipush 300, 3) := by decide +kernel
theorem dX6_compare_66 : decode cX6_compare 66 = .ok (.bipush 6, 2) := by decide +kernel
theorem dX6_compare_68 : decode cX6_compare 68 = .ok (.iload 4, 2) := by decide +kernel
theorem dX6_compare_70 : decode cX6_compare 70 = .ok (.ifCond .ge 7, 3) := by decide +kernel
theorem dX6_compare_73 : decode cX6_compare 73 = .ok (.iconst 0, 1) := by decide +kernel
theorem dX6_compare_74 : decode cX6_compare 74 = .ok (.goto 5, 3) := by decide +kernel
theorem dX6_compare_77 : decode cX6_compare 77 = .ok (.iload 4, 2) := by decide +kernel
theorem dX6_compare_79 : decode cX6_compare 79 = .ok (.imul, 1) := by decide +kernel
theorem dX6_compare_80 : decode cX6_compare 80 = .ok (.iadd, 1) := by decide +kernel
theorem dX6_compare_81 : decode cX6_compare 81 = .ok (.invokevirtual 129, 3) := by decide +kernel
theorem dX6_compare_84 : decode cX6_compare 84 = .ok (.ifCond .ne 7, 3) := by decide +kernel
theorem dX6_compare_87 : decode cX6_compare 87 = .ok (.iconst 1, 1) := by decide +kernel
theorem dX6_compare_88 : decode cX6_compare 88 = .ok (.goto 4, 3) := by decide +kernel
theorem dX6_compare_91 : decode cX6_compare 91 = .ok (.iconst 0, 1) := by decide +kernel
theorem dX6_compare_92 : decode cX6_compare 92 = .ok (.iadd, 1) := by decide +kernel
theorem dX6_compare_93 : decode cX6_compare 93 = .ok (.istore_n 1, 1) := by decide +kernel
theorem dX6_compare_94 : decode cX6_compare 94 = .ok (.iload_n 2, 1) := by decide +kernel
theorem dX6_compare_95 : decode cX6_compare 95 = .ok (.iload 4, 2) := by decide +kernel
theorem dX6_compare_97 : decode cX6_compare 97 = .ok (.ifCond .ge 7, 3) := by decide +kernel
theorem dX6_compare_100 : decode cX6_compare 100 = .ok (.iconst 0, 1) := by decide +kernel
theorem dX6_compare_101 : decode cX6_compare 101 = .ok (.goto 4, 3) := by decide +kernel
theorem dX6_compare_104 : decode cX6_compare 104 = .ok (.iconst 1, 1) := by decide +kernel
theorem dX6_compare_105 : decode cX6_compare 105 = .ok (.iadd, 1) := by decide +kernel
theorem dX6_compare_106 : decode cX6_compare 106 = .ok (.istore_n 2, 1) := by decide +kernel
theorem dX6_compare_107 : decode cX6_compare 107 = .ok (.iinc 3 1, 3) := by decide +kernel
theorem dX6_compare_110 : decode cX6_compare 110 = .ok (.goto (-99), 3) := by decide +kernel
theorem dX6_compare_113 : decode cX6_compare 113 = .ok (.iload_n 1, 1) := by decide +kernel
theorem dX6_compare_114 : decode cX6_compare 114 = .ok (.aload_n 0, 1) := by decide +kernel
theorem dX6_compare_115 : decode cX6_compare 115 = .ok (.getfield 126, 3) := by decide +kernel
theorem dX6_compare_118 : decode cX6_compare 118 = .ok (.iadd, 1) := by decide +kernel
theorem dX6_compare_119 : decode cX6_compare 119 = .ok (.iload_n 2, 1) := by decide +kernel
theorem dX6_compare_120 : decode cX6_compare 120 = .ok (.isub, 1) := by decide +kernel
theorem dX6_compare_121 : decode cX6_compare 121 = .ok (.ireturn, 1) := by decide +kernel
theorem dX6_isAlike_0 : decode cX6_isAlike 0 = .ok (.iconst 1, 1) := by decide +kernel
theorem dX6_isAlike_1 : decode cX6_isAlike 1 = .ok (.istore_n 3, 1) := by decide +kernel
theorem dX6_isAlike_2 : decode cX6_isAlike 2 = .ok (.iconst 0, 1) := by decide +kernel
theorem dX6_isAlike_3 : decode cX6_isAlike 3 = .ok (.istore 4, 2) := by decide +kernel
theorem dX6_isAlike_5 : decode cX6_isAlike 5 = .ok (.iload 4, 2) := by decide +kernel
theorem dX6_isAlike_7 : decode cX6_isAlike 7 = .ok (.bipush 6, 2) := by decide +kernel
theorem dX6_isAlike_9 : decode cX6_isAlike 9 = .ok (.if_icmp .ge 40, 3) := by decide +kernel
theorem dX6_isAlike_12 : decode cX6_isAlike 12 = .ok (.iload_n 3, 1) := by decide +kernel
theorem dX6_isAlike_13 : decode cX6_isAlike 13 = .ok (.ifCond .eq 28, 3) := by decide +kernel
theorem dX6_isAlike_16 : decode cX6_isAlike 16 = .ok (.aload_n 0, 1) := by decide +kernel
theorem dX6_isAlike_17 : decode cX6_isAlike 17 = .ok (.getfield 17, 3) := by decide +kernel
theorem dX6_isAlike_20 : decode cX6_isAlike 20 = .ok (.iload_n 1, 1) := by decide +kernel
theorem dX6_isAlike_21 : decode cX6_isAlike 21 = .ok (.iload 4, 2) := by decide +kernel
theorem dX6_isAlike_23 : decode cX6_isAlike 23 = .ok (.iadd, 1) := by decide +kernel
theorem dX6_isAlike_24 : decode cX6_isAlike 24 = .ok (.iaload, 1) := by decide +kernel
theorem dX6_isAlike_25 : decode cX6_isAlike 25 = .ok (.aload_n 0, 1) := by decide +kernel
theorem dX6_isAlike_26 : decode cX6_isAlike 26 = .ok (.getfield 17, 3) := by decide +kernel
theorem dX6_isAlike_29 : decode cX6_isAlike 29 = .ok (.iload_n 2, 1) := by decide +kernel
theorem dX6_isAlike_30 : decode cX6_isAlike 30 = .ok (.iload 4, 2) := by decide +kernel
theorem dX6_isAlike_32 : decode cX6_isAlike 32 = .ok (.iadd, 1) := by decide +kernel
theorem dX6_isAlike_33 : decode cX6_isAlike 33 = .ok (.iaload, 1) := by decide +kernel
theorem dX6_isAlike_34 : decode cX6_isAlike 34 = .ok (.if_icmp .ne 7, 3) := by decide +kernel
end
section
theorem dX6_isAlike_37 : decode cX6_isAlike 37 = .ok (.iconst 1, 1) := by decide +kernel
theorem dX6_isAlike_38 : decode cX6_isAlike 38 = .ok (.goto 4, 3) := by decide +kernel
theorem dX6_isAlike_41 : decode cX6_isAlike 41 = .ok (.iconst 0, 1) := by decide +kernel
theorem dX6_isAlike_42 : decode cX6_isAlike 42 = .ok (.istore_n 3, 1) := by decide +kernel
theorem dX6_isAlike_43 : decode cX6_isAlike 43 = .ok (.iinc 4 1, 3) := by decide +kernel
theorem dX6_isAlike_46 : decode cX6_isAlike 46 = .ok (.goto (-41), 3) := by decide +kernel
theorem dX6_isAlike_49 : decode cX6_isAlike 49 = .ok (.iload_n 3, 1) := by decide +kernel
theorem dX6_isAlike_50 : decode cX6_isAlike 50 = .ok (.ireturn, 1) := by decide +kernel
theorem dX6_count_0 : decode cX6_count 0 = .ok (.aload_n 0, 1) := by decide +kernel
theorem dX6_count_1 : decode cX6_count 1 = .ok (.iconst 0, 1) := by decide +kernel
theorem dX6_count_2 : decode cX6_count 2 = .ok (.putfield 26, 3) := by decide +kernel
theorem dX6_count_5 : decode cX6_count 5 = .ok (.iload_n 1, 1) := by decide +kernel
theorem dX6_count_6 : decode cX6_count 6 = .ok (.bipush 10, 2) := by decide +kernel
theorem dX6_count_8 : decode cX6_count 8 = .ok (.if_icmp .lt 57, 3) := by decide +kernel
theorem dX6_count_11 : decode cX6_count 11 = .ok (.iconst 0, 1) := by decide +kernel
theorem dX6_count_12 : decode cX6_count 12 = .ok (.istore_n 2, 1) := by decide +kernel
theorem dX6_count_13 : decode cX6_count 13 = .ok (.iconst 0, 1) := by decide +kernel
theorem dX6_count_14 : decode cX6_count 14 = .ok (.istore_n 3, 1) := by decide +kernel
theorem dX6_count_15 : decode cX6_count 15 = .ok (.iload_n 3, 1) := by decide +kernel
theorem dX6_count_16 : decode cX6_count 16 = .ok (.aload_n 0, 1) := by decide +kernel
theorem dX6_count_17 : decode cX6_count 17 = .ok (.getfield 86, 3) := by decide +kernel
theorem dX6_count_20 : decode cX6_count 20 = .ok (.if_icmp .ge 33, 3) := by decide +kernel
theorem dX6_count_23 : decode cX6_count 23 = .ok (.iload_n 2, 1) := by decide +kernel
theorem dX6_count_24 : decode cX6_count 24 = .ok (.aload_n 0, 1) := by decide +kernel
theorem dX6_count_25 : decode cX6_count 25 = .ok (.getfield 17, 3) := by decide +kernel
theorem dX6_count_28 : decode cX6_count 28 = .ok (.bipush 6, 2) := by decide +kernel
theorem dX6_count_30 : decode cX6_count 30 = .ok (.iload_n 3, 1) := by decide +kernel
theorem dX6_count_31 : decode cX6_count 31 = .ok (.imul, 1) := by decide +kernel
theorem dX6_count_32 : decode cX6_count 32 = .ok (.iaload, 1) := by decide +kernel
theorem dX6_count_33 : decode cX6_count 33 = .ok (.iload_n 1, 1) := by decide +kernel
theorem dX6_count_34 : decode cX6_count 34 = .ok (.bipush 10, 2) := by decide +kernel
theorem dX6_count_36 : decode cX6_count 36 = .ok (.isub, 1) := by decide +kernel
theorem dX6_count_37 : decode cX6_count 37 = .ok (.if_icmp .ne 7, 3) := by decide +kernel
theorem dX6_count_40 : decode cX6_count 40 = .ok (.iconst 1, 1) := by decide +kernel
theorem dX6_count_41 : decode cX6_count 41 = .ok (.goto 4, 3) := by decide +kernel
theorem dX6_count_44 : decode cX6_count 44 = .ok (.iconst 0, 1) := by decide +kernel
theorem dX6_count_45 : decode cX6_count 45 = .ok (.iadd, 1) := by decide +kernel
theorem dX6_count_46 : decode cX6_count 46 = .ok (.istore_n 2, 1) := by decide +kernel
theorem dX6_count_47 : decode cX6_count 47 = .ok (.iinc 3 1, 3) := by decide +kernel
theorem dX6_count_50 : decode cX6_count 50 = .ok (.goto (-35), 3) := by decide +kernel
theorem dX6_count_53 : decode cX6_count 53 = .ok (.iload_n 1, 1) := by decide +kernel
theorem dX6_count_54 : decode cX6_count 54 = .ok (.bipush 16, 2) := by decide +kernel
theorem dX6_count_56 : decode cX6_count 56 = .ok (.if_icmp .ge 7, 3) := by decide +kernel
theorem dX6_count_59 : decode cX6_count 59 = .ok (.iload_n 2, 1) := by decide +kernel
theorem dX6_count_60 : decode cX6_count 60 = .ok (.goto 4, 3) := by decide +kernel
theorem dX6_count_63 : decode cX6_count 63 = .ok (.iconst (-1), 1) := by decide +kernel
theorem dX6_count_64 : decode cX6_count 64 = .ok (.ireturn, 1) := by decide +kernel
theorem dX6_count_65 : decode cX6_count 65 = .ok (.iload_n 1, 1) := by decide +kernel
theorem dX6_count_66 : decode cX6_count 66 = .ok (.ifCond .ne 10, 3) := by decide +kernel
theorem dX6_count_69 : decode cX6_count 69 = .ok (.aload_n 0, 1) := by decide +kernel
theorem dX6_count_70 : decode cX6_count 70 = .ok (.getfield 37, 3) := by decide +kernel
theorem dX6_count_73 : decode cX6_count 73 = .ok (.goto 28, 3) := by decide +kernel
theorem dX6_count_76 : decode cX6_count 76 = .ok (.iload_n 1, 1) := by decide +kernel
theorem dX6_count_77 : decode cX6_count 77 = .ok (.iconst 1, 1) := by decide +kernel
theorem dX6_count_78 : decode cX6_count 78 = .ok (.if_icmp .ne 10, 3) := by decide +kernel
theorem dX6_count_81 : decode cX6_count 81 = .ok (.aload_n 0, 1) := by decide +kernel
theorem dX6_count_82 : decode cX6_count 82 = .ok (.getfield 86, 3) := by decide +kernel
theorem dX6_count_85 : decode cX6_count 85 = .ok (.goto 16, 3) := by decide +kernel
theorem dX6_count_88 : decode cX6_count 88 = .ok (.iload_n 1, 1) := by decide +kernel
theorem dX6_count_89 : decode cX6_count 89 = .ok (.iconst 2, 1) := by decide +kernel
theorem dX6_count_90 : decode cX6_count 90 = .ok (.if_icmp .ne 10, 3) := by decide +kernel
theorem dX6_count_93 : decode cX6_count 93 = .ok (.aload_n 0, 1) := by decide +kernel
theorem dX6_count_94 : decode cX6_count 94 = .ok (.getfield 126, 3) := by decide +kernel
theorem dX6_count_97 : decode cX6_count 97 = .ok (.goto 4, 3) := by decide +kernel
theorem dX6_count_100 : decode cX6_count 100 = .ok (.iconst (-1), 1) := by decide +kernel
theorem dX6_count_101 : decode cX6_count 101 = .ok (.ireturn, 1) := by decide +kernel
theorem dL_law_0 : decode cL_law 0 = .ok (.new 8, 3) := by decide +kernel
theorem dL_law_3 : decode cL_law 3 = .ok (.dup, 1) := by decide +kernel
theorem dL_law_4 : decode cL_law 4 = .ok (.invokespecial 34, 3) := by decide +kernel
theorem dL_law_7 : decode cL_law 7 = .ok (.astore_n 1, 1) := by decide +kernel
theorem dL_law_8 : decode cL_law 8 = .ok (.new 35, 3) := by decide +kernel
theorem dL_law_11 : decode cL_law 11 = .ok (.dup, 1) := by decide +kernel
theorem dL_law_12 : decode cL_law 12 = .ok (.invokespecial 37, 3) := by decide +kernel
theorem dL_law_15 : decode cL_law 15 = .ok (.astore_n 2, 1) := by decide +kernel
theorem dL_law_16 : decode cL_law 16 = .ok (.iconst 1, 1) := by decide +kernel
theorem dL_law_17 : decode cL_law 17 = .ok (.newarray .long, 2) := by decide +kernel
theorem dL_law_19 : decode cL_law 19 = .ok (.astore_n 3, 1) := by decide +kernel
theorem dL_law_20 : decode cL_law 20 = .ok (.iconst 0, 1) := by decide +kernel
theorem dL_law_21 : decode cL_law 21 = .ok (.istore 4, 2) := by decide +kernel
theorem dL_law_23 : decode cL_law 23 = .ok (.iload 4, 2) := by decide +kernel
theorem dL_law_25 : decode cL_law 25 = .ok (.aload_n 0, 1) := by decide +kernel
theorem dL_law_26 : decode cL_law 26 = .ok (.arraylength, 1) := by decide +kernel
theorem dL_law_27 : decode cL_law 27 = .ok (.iconst 4, 1) := by decide +kernel
theorem dL_law_28 : decode cL_law 28 = .ok (.isub, 1) := by decide +kernel
theorem dL_law_29 : decode cL_law 29 = .ok (.if_icmp .gt 590, 3) := by decide +kernel
theorem dL_law_32 : decode cL_law 32 = .ok (.aload_n 0, 1) := by decide +kernel
theorem dL_law_33 : decode cL_law 33 = .ok (.iload 4, 2) := by decide +kernel
theorem dL_law_35 : decode cL_law 35 = .ok (.iaload, 1) := by decide +kernel
theorem dL_law_36 : decode cL_law 36 = .ok (.bipush 15, 2) := by decide +kernel
theorem dL_law_38 : decode cL_law 38 = .ok (.iand, 1) := by decide +kernel
theorem dL_law_39 : decode cL_law 39 = .ok (.tableswitch 574 0 13 #[69, 94, 138, 163, 231, 268, 348, 416, 429, 454, 467, 523, 536, 549], 69) := by decide +kernel
theorem dL_law_108 : decode cL_law 108 = .ok (.aload_n 1, 1) := by decide +kernel
theorem dL_law_109 : decode cL_law 109 = .ok (.aload_n 0, 1) := by decide +kernel
theorem dL_law_110 : decode cL_law 110 = .ok (.iload 4, 2) := by decide +kernel
theorem dL_law_112 : decode cL_law 112 = .ok (.iconst 1, 1) := by decide +kernel
theorem dL_law_113 : decode cL_law 113 = .ok (.iadd, 1) := by decide +kernel
theorem dL_law_114 : decode cL_law 114 = .ok (.iaload, 1) := by decide +kernel
theorem dL_law_115 : decode cL_law 115 = .ok (.invokevirtual 38, 3) := by decide +kernel
theorem dL_law_118 : decode cL_law 118 = .ok (.aload_n 2, 1) := by decide +kernel
theorem dL_law_119 : decode cL_law 119 = .ok (.aload_n 0, 1) := by decide +kernel
theorem dL_law_120 : decode cL_law 120 = .ok (.iload 4, 2) := by decide +kernel
theorem dL_law_122 : decode cL_law 122 = .ok (.iconst 1, 1) := by decide +kernel
theorem dL_law_123 : decode cL_law 123 = .ok (.iadd, 1) := by decide +kernel
theorem dL_law_124 : decode cL_law 124 = .ok (.iaload, 1) := by decide +kernel
theorem dL_law_125 : decode cL_law 125 = .ok (.invokevirtual 42, 3) := by decide +kernel
theorem dL_law_128 : decode cL_law 128 = .ok (.if_icmp .eq 485, 3) := by decide +kernel
theorem dL_law_131 : decode cL_law 131 = .ok (.iconst 0, 1) := by decide +kernel
theorem dL_law_132 : decode cL_law 132 = .ok (.ireturn, 1) := by decide +kernel
theorem dL_law_133 : decode cL_law 133 = .ok (.aload_n 1, 1) := by decide +kernel
theorem dL_law_134 : decode cL_law 134 = .ok (.aload_n 3, 1) := by decide +kernel
theorem dL_law_135 : decode cL_law 135 = .ok (.invokestatic 43, 3) := by decide +kernel
theorem dL_law_138 : decode cL_law 138 = .ok (.istore 5, 2) := by decide +kernel
theorem dL_law_140 : decode cL_law 140 = .ok (.aload_n 2, 1) := by decide +kernel
theorem dL_law_141 : decode cL_law 141 = .ok (.invokevirtual 48, 3) := by decide +kernel
theorem dL_law_144 : decode cL_law 144 = .ok (.istore 6, 2) := by decide +kernel
theorem dL_law_146 : decode cL_law 146 = .ok (.aload_n 2, 1) := by decide +kernel
theorem dL_law_147 : decode cL_law 147 = .ok (.invokevirtual 49, 3) := by decide +kernel
theorem dL_law_150 : decode cL_law 150 = .ok (.iload 5, 2) := by decide +kernel
theorem dL_law_152 : decode cL_law 152 = .ok (.if_icmp .eq 5, 3) := by decide +kernel
theorem dL_law_155 : decode cL_law 155 = .ok (.iconst 0, 1) := by decide +kernel
theorem dL_law_156 : decode cL_law 156 = .ok (.ireturn, 1) := by decide +kernel
theorem dL_law_157 : decode cL_law 157 = .ok (.iload 5, 2) := by decide +kernel
theorem dL_law_159 : decode cL_law 159 = .ok (.ifCond .ne 15, 3) := by decide +kernel
theorem dL_law_162 : decode cL_law 162 = .ok (.aload_n 3, 1) := by decide +kernel
theorem dL_law_163 : decode cL_law 163 = .ok (.iconst 0, 1) := by decide +kernel
theorem dL_law_164 : decode cL_law 164 = .ok (.laload, 1) := by decide +kernel
theorem dL_law_165 : decode cL_law 165 = .ok (.iload 6, 2) := by decide +kernel
theorem dL_law_167 : decode cL_law 167 = .ok (.i2l, 1) := by decide +kernel
theorem dL_law_168 : decode cL_law 168 = .ok (.lcmp, 1) := by decide +kernel
theorem dL_law_169 : decode cL_law 169 = .ok (.ifCond .eq 5, 3) := by decide +kernel
theorem dL_law_172 : decode cL_law 172 = .ok (.iconst 0, 1) := by decide +kernel
theorem dL_law_173 : decode cL_law 173 = .ok (.ireturn, 1) := by decide +kernel
theorem dL_law_174 : decode cL_law 174 = .ok (.goto 439, 3) := by decide +kernel
theorem dL_law_177 : decode cL_law 177 = .ok (.aload_n 1, 1) := by decide +kernel
theorem dL_law_178 : decode cL_law 178 = .ok (.aload_n 0, 1) := by decide +kernel
theorem dL_law_179 : decode cL_law 179 = .ok (.iload 4, 2) := by decide +kernel
theorem dL_law_181 : decode cL_law 181 = .ok (.iconst 1, 1) := by decide +kernel
theorem dL_law_182 : decode cL_law 182 = .ok (.iadd, 1) := by decide +kernel
theorem dL_law_183 : decode cL_law 183 = .ok (.iaload, 1) := by decide +kernel
theorem dL_law_184 : decode cL_law 184 = .ok (.invokevirtual 52, 3) := by decide +kernel
theorem dL_law_187 : decode cL_law 187 = .ok (.aload_n 2, 1) := by decide +kernel
theorem dL_law_188 : decode cL_law 188 = .ok (.aload_n 0, 1) := by decide +kernel
theorem dL_law_189 : decode cL_law 189 = .ok (.iload 4, 2) := by decide +kernel
theorem dL_law_191 : decode cL_law 191 = .ok (.iconst 1, 1) := by decide +kernel
theorem dL_law_192 : decode cL_law 192 = .ok (.iadd, 1) := by decide +kernel
theorem dL_law_193 : decode cL_law 193 = .ok (.iaload, 1) := by decide +kernel
theorem dL_law_194 : decode cL_law 194 = .ok (.invokevirtual 55, 3) := by decide +kernel
theorem dL_law_197 : decode cL_law 197 = .ok (.if_icmp .eq 416, 3) := by decide +kernel
theorem dL_law_200 : decode cL_law 200 = .ok (.iconst 0, 1) := by decide +kernel
theorem dL_law_201 : decode cL_law 201 = .ok (.ireturn, 1) := by decide +kernel
theorem dL_law_202 : decode cL_law 202 = .ok (.aload_n 1, 1) := by decide +kernel
theorem dL_law_203 : decode cL_law 203 = .ok (.aload_n 0, 1) := by decide +kernel
theorem dL_law_204 : decode cL_law 204 = .ok (.iload 4, 2) := by decide +kernel
theorem dL_law_206 : decode cL_law 206 = .ok (.iconst 1, 1) := by decide +kernel
theorem dL_law_207 : decode cL_law 207 = .ok (.iadd, 1) := by decide +kernel
theorem dL_law_208 : decode cL_law 208 = .ok (.iaload, 1) := by decide +kernel
theorem dL_law_209 : decode cL_law 209 = .ok (.aload_n 0, 1) := by decide +kernel
theorem dL_law_210 : decode cL_law 210 = .ok (.iload 4, 2) := by decide +kernel
theorem dL_law_212 : decode cL_law 212 = .ok (.iconst 2, 1) := by decide +kernel
theorem dL_law_213 : decode cL_law 213 = .ok (.iadd, 1) := by decide +kernel
theorem dL_law_214 : decode cL_law 214 = .ok (.iaload, 1) := by decide +kernel
theorem dL_law_215 : decode cL_law 215 = .ok (.aload_n 3, 1) := by decide +kernel
theorem dL_law_216 : decode cL_law 216 = .ok (.invokestatic 56, 3) := by decide +kernel
theorem dL_law_219 : decode cL_law 219 = .ok (.istore 5, 2) := by decide +kernel
theorem dL_law_221 : decode cL_law 221 = .ok (.aload_n 2, 1) := by decide +kernel
theorem dL_law_222 : decode cL_law 222 = .ok (.aload_n 0, 1) := by decide +kernel
theorem dL_law_223 : decode cL_law 223 = .ok (.iload 4, 2) := by decide +kernel
theorem dL_law_225 : decode cL_law 225 = .ok (.iconst 1, 1) := by decide +kernel
theorem dL_law_226 : decode cL_law 226 = .ok (.iadd, 1) := by decide +kernel
theorem dL_law_227 : decode cL_law 227 = .ok (.iaload, 1) := by decide +kernel
theorem dL_law_228 : decode cL_law 228 = .ok (.aload_n 0, 1) := by decide +kernel
theorem dL_law_229 : decode cL_law 229 = .ok (.iload 4, 2) := by decide +kernel
theorem dL_law_231 : decode cL_law 231 = .ok (.iconst 2, 1) := by decide +kernel
theorem dL_law_232 : decode cL_law 232 = .ok (.iadd, 1) := by decide +kernel
theorem dL_law_233 : decode cL_law 233 = .ok (.iaload, 1) := by decide +kernel
theorem dL_law_234 : decode cL_law 234 = .ok (.invokevirtual 59, 3) := by decide +kernel
theorem dL_law_237 : decode cL_law 237 = .ok (.istore 6, 2) := by decide +kernel
theorem dL_law_239 : decode cL_law 239 = .ok (.aload_n 2, 1) := by decide +kernel
theorem dL_law_240 : decode cL_law 240 = .ok (.invokevirtual 49, 3) := by decide +kernel
theorem dL_law_243 : decode cL_law 243 = .ok (.iload 5, 2) := by decide +kernel
theorem dL_law_245 : decode cL_law 245 = .ok (.if_icmp .eq 5, 3) := by decide +kernel
theorem dL_law_248 : decode cL_law 248 = .ok (.iconst 0, 1) := by decide +kernel
theorem dL_law_249 : decode cL_law 249 = .ok (.ireturn, 1) := by decide +kernel
theorem dL_law_250 : decode cL_law 250 = .ok (.iload 5, 2) := by decide +kernel
theorem dL_law_252 : decode cL_law 252 = .ok (.ifCond .ne 15, 3) := by decide +kernel
theorem dL_law_255 : decode cL_law 255 = .ok (.aload_n 3, 1) := by decide +kernel
theorem dL_law_256 : decode cL_law 256 = .ok (.iconst 0, 1) := by decide +kernel
theorem dL_law_257 : decode cL_law 257 = .ok (.laload, 1) := by decide +kernel
theorem dL_law_258 : decode cL_law 258 = .ok (.iload 6, 2) := by decide +kernel
theorem dL_law_260 : decode cL_law 260 = .ok (.i2l, 1) := by decide +kernel
theorem dL_law_261 : decode cL_law 261 = .ok (.lcmp, 1) := by decide +kernel
theorem dL_law_262 : decode cL_law 262 = .ok (.ifCond .eq 5, 3) := by decide +kernel
theorem dL_law_265 : decode cL_law 265 = .ok (.iconst 0, 1) := by decide +kernel
theorem dL_law_266 : decode cL_law 266 = .ok (.ireturn, 1) := by decide +kernel
theorem dL_law_267 : decode cL_law 267 = .ok (.goto 346, 3) := by decide +kernel
theorem dL_law_270 : decode cL_law 270 = .ok (.aload_n 1, 1) := by decide +kernel
theorem dL_law_271 : decode cL_law 271 = .ok (.aload_n 0, 1) := by decide +kernel
theorem dL_law_272 : decode cL_law 272 = .ok (.iload 4, 2) := by decide +kernel
theorem dL_law_274 : decode cL_law 274 = .ok (.iconst 1, 1) := by decide +kernel
theorem dL_law_275 : decode cL_law 275 = .ok (.iadd, 1) := by decide +kernel
theorem dL_law_276 : decode cL_law 276 = .ok (.iaload, 1) := by decide +kernel
theorem dL_law_277 : decode cL_law 277 = .ok (.aload_n 0, 1) := by decide +kernel
theorem dL_law_278 : decode cL_law 278 = .ok (.iload 4, 2) := by decide +kernel
theorem dL_law_280 : decode cL_law 280 = .ok (.iconst 2, 1) := by decide +kernel
theorem dL_law_281 : decode cL_law 281 = .ok (.iadd, 1) := by decide +kernel
theorem dL_law_282 : decode cL_law 282 = .ok (.iaload, 1) := by decide +kernel
theorem dL_law_283 : decode cL_law 283 = .ok (.invokevirtual 60, 3) := by decide +kernel
theorem dL_law_286 : decode cL_law 286 = .ok (.aload_n 2, 1) := by decide +kernel
theorem dL_law_287 : decode cL_law 287 = .ok (.aload_n 0, 1) := by decide +kernel
theorem dL_law_288 : decode cL_law 288 = .ok (.iload 4, 2) := by decide +kernel
theorem dL_law_290 : decode cL_law 290 = .ok (.iconst 1, 1) := by decide +kernel
theorem dL_law_291 : decode cL_law 291 = .ok (.iadd, 1) := by decide +kernel
theorem dL_law_292 : decode cL_law 292 = .ok (.iaload, 1) := by decide +kernel
theorem dL_law_293 : decode cL_law 293 = .ok (.aload_n 0, 1) := by decide +kernel
theorem dL_law_294 : decode cL_law 294 = .ok (.iload 4, 2) := by decide +kernel
theorem dL_law_296 : decode cL_law 296 = .ok (.iconst 2, 1) := by decide +kernel
theorem dL_law_297 : decode cL_law 297 = .ok (.iadd, 1) := by decide +kernel
theorem dL_law_298 : decode cL_law 298 = .ok (.iaload, 1) := by decide +kernel
theorem dL_law_299 : decode cL_law 299 = .ok (.invokevirtual 63, 3) := by decide +kernel
theorem dL_law_302 : decode cL_law 302 = .ok (.if_icmp .eq 311, 3) := by decide +kernel
theorem dL_law_305 : decode cL_law 305 = .ok (.iconst 0, 1) := by decide +kernel
theorem dL_law_306 : decode cL_law 306 = .ok (.ireturn, 1) := by decide +kernel
theorem dL_law_307 : decode cL_law 307 = .ok (.aload_n 1, 1) := by decide +kernel
theorem dL_law_308 : decode cL_law 308 = .ok (.aload_n 0, 1) := by decide +kernel
theorem dL_law_309 : decode cL_law 309 = .ok (.iload 4, 2) := by decide +kernel
theorem dL_law_311 : decode cL_law 311 = .ok (.iconst 1, 1) := by decide +kernel
theorem dL_law_312 : decode cL_law 312 = .ok (.iadd, 1) := by decide +kernel
theorem dL_law_313 : decode cL_law 313 = .ok (.iaload, 1) := by decide +kernel
theorem dL_law_314 : decode cL_law 314 = .ok (.aload_n 0, 1) := by decide +kernel
theorem dL_law_315 : decode cL_law 315 = .ok (.iload 4, 2) := by decide +kernel
theorem dL_law_317 : decode cL_law 317 = .ok (.iconst 2, 1) := by decide +kernel
theorem dL_law_318 : decode cL_law 318 = .ok (.iadd, 1) := by decide +kernel
theorem dL_law_319 : decode cL_law 319 = .ok (.iaload, 1) := by decide +kernel
theorem dL_law_320 : decode cL_law 320 = .ok (.aload_n 0, 1) := by decide +kernel
theorem dL_law_321 : decode cL_law 321 = .ok (.iload 4, 2) := by decide +kernel
theorem dL_law_323 : decode cL_law 323 = .ok (.iconst 3, 1) := by decide +kernel
theorem dL_law_324 : decode cL_law 324 = .ok (.iadd, 1) := by decide +kernel
theorem dL_law_325 : decode cL_law 325 = .ok (.iaload, 1) := by decide +kernel
theorem dL_law_326 : decode cL_law 326 = .ok (.aload_n 3, 1) := by decide +kernel
theorem dL_law_327 : decode cL_law 327 = .ok (.invokestatic 64, 3) := by decide +kernel
theorem dL_law_330 : decode cL_law 330 = .ok (.istore 5, 2) := by decide +kernel
theorem dL_law_332 : decode cL_law 332 = .ok (.aload_n 2, 1) := by decide +kernel
theorem dL_law_333 : decode cL_law 333 = .ok (.aload_n 0, 1) := by decide +kernel
theorem dL_law_334 : decode cL_law 334 = .ok (.iload 4, 2) := by decide +kernel
theorem dL_law_336 : decode cL_law 336 = .ok (.iconst 1, 1) := by decide +kernel
theorem dL_law_337 : decode cL_law 337 = .ok (.iadd, 1) := by decide +kernel
theorem dL_law_338 : decode cL_law 338 = .ok (.iaload, 1) := by decide +kernel
theorem dL_law_339 : decode cL_law 339 = .ok (.aload_n 0, 1) := by decide +kernel
theorem dL_law_340 : decode cL_law 340 = .ok (.iload 4, 2) := by decide +kernel
theorem dL_law_342 : decode cL_law 342 = .ok (.iconst 2, 1) := by decide +kernel
theorem dL_law_343 : decode cL_law 343 = .ok (.iadd, 1) := by decide +kernel
theorem dL_law_344 : decode cL_law 344 = .ok (.iaload, 1) := by decide +kernel
theorem dL_law_345 : decode cL_law 345 = .ok (.aload_n 0, 1) := by decide +kernel
theorem dL_law_346 : decode cL_law 346 = .ok (.iload 4, 2) := by decide +kernel
theorem dL_law_348 : decode cL_law 348 = .ok (.iconst 3, 1) := by decide +kernel
theorem dL_law_349 : decode cL_law 349 = .ok (.iadd, 1) := by decide +kernel
theorem dL_law_350 : decode cL_law 350 = .ok (.iaload, 1) := by decide +kernel
theorem dL_law_351 : decode cL_law 351 = .ok (.invokevirtual 67, 3) := by decide +kernel
theorem dL_law_354 : decode cL_law 354 = .ok (.istore 6, 2) := by decide +kernel
theorem dL_law_356 : decode cL_law 356 = .ok (.aload_n 2, 1) := by decide +kernel
theorem dL_law_357 : decode cL_law 357 = .ok (.invokevirtual 49, 3) := by decide +kernel
theorem dL_law_360 : decode cL_law 360 = .ok (.iload 5, 2) := by decide +kernel
theorem dL_law_362 : decode cL_law 362 = .ok (.if_icmp .eq 5, 3) := by decide +kernel
theorem dL_law_365 : decode cL_law 365 = .ok (.iconst 0, 1) := by decide +kernel
theorem dL_law_366 : decode cL_law 366 = .ok (.ireturn, 1) := by decide +kernel
theorem dL_law_367 : decode cL_law 367 = .ok (.iload 5, 2) := by decide +kernel
theorem dL_law_369 : decode cL_law 369 = .ok (.ifCond .ne 15, 3) := by decide +kernel
theorem dL_law_372 : decode cL_law 372 = .ok (.aload_n 3, 1) := by decide +kernel
theorem dL_law_373 : decode cL_law 373 = .ok (.iconst 0, 1) := by decide +kernel
theorem dL_law_374 : decode cL_law 374 = .ok (.laload, 1) := by decide +kernel
theorem dL_law_375 : decode cL_law 375 = .ok (.iload 6, 2) := by decide +kernel
theorem dL_law_377 : decode cL_law 377 = .ok (.i2l, 1) := by decide +kernel
theorem dL_law_378 : decode cL_law 378 = .ok (.lcmp, 1) := by decide +kernel
theorem dL_law_379 : decode cL_law 379 = .ok (.ifCond .eq 5, 3) := by decide +kernel
theorem dL_law_382 : decode cL_law 382 = .ok (.iconst 0, 1) := by decide +kernel
theorem dL_law_383 : decode cL_law 383 = .ok (.ireturn, 1) := by decide +kernel
theorem dL_law_384 : decode cL_law 384 = .ok (.goto 229, 3) := by decide +kernel
theorem dL_law_387 : decode cL_law 387 = .ok (.aload_n 1, 1) := by decide +kernel
theorem dL_law_388 : decode cL_law 388 = .ok (.aload_n 0, 1) := by decide +kernel
theorem dL_law_389 : decode cL_law 389 = .ok (.iload 4, 2) := by decide +kernel
theorem dL_law_391 : decode cL_law 391 = .ok (.iconst 1, 1) := by decide +kernel
theorem dL_law_392 : decode cL_law 392 = .ok (.iadd, 1) := by decide +kernel
theorem dL_law_393 : decode cL_law 393 = .ok (.iaload, 1) := by decide +kernel
theorem dL_law_394 : decode cL_law 394 = .ok (.aload_n 0, 1) := by decide +kernel
theorem dL_law_395 : decode cL_law 395 = .ok (.iload 4, 2) := by decide +kernel
theorem dL_law_397 : decode cL_law 397 = .ok (.iconst 2, 1) := by decide +kernel
theorem dL_law_398 : decode cL_law 398 = .ok (.iadd, 1) := by decide +kernel
theorem dL_law_399 : decode cL_law 399 = .ok (.iaload, 1) := by decide +kernel
theorem dL_law_400 : decode cL_law 400 = .ok (.aload_n 3, 1) := by decide +kernel
theorem dL_law_401 : decode cL_law 401 = .ok (.invokestatic 68, 3) := by decide +kernel
theorem dL_law_404 : decode cL_law 404 = .ok (.istore 5, 2) := by decide +kernel
theorem dL_law_406 : decode cL_law 406 = .ok (.aload_n 2, 1) := by decide +kernel
theorem dL_law_407 : decode cL_law 407 = .ok (.aload_n 0, 1) := by decide +kernel
theorem dL_law_408 : decode cL_law 408 = .ok (.iload 4, 2) := by decide +kernel
theorem dL_law_410 : decode cL_law 410 = .ok (.iconst 1, 1) := by decide +kernel
theorem dL_law_411 : decode cL_law 411 = .ok (.iadd, 1) := by decide +kernel
theorem dL_law_412 : decode cL_law 412 = .ok (.iaload, 1) := by decide +kernel
theorem dL_law_413 : decode cL_law 413 = .ok (.aload_n 0, 1) := by decide +kernel
theorem dL_law_414 : decode cL_law 414 = .ok (.iload 4, 2) := by decide +kernel
theorem dL_law_416 : decode cL_law 416 = .ok (.iconst 2, 1) := by decide +kernel
theorem dL_law_417 : decode cL_law 417 = .ok (.iadd, 1) := by decide +kernel
theorem dL_law_418 : decode cL_law 418 = .ok (.iaload, 1) := by decide +kernel
theorem dL_law_419 : decode cL_law 419 = .ok (.invokevirtual 70, 3) := by decide +kernel
theorem dL_law_422 : decode cL_law 422 = .ok (.istore 6, 2) := by decide +kernel
theorem dL_law_424 : decode cL_law 424 = .ok (.aload_n 2, 1) := by decide +kernel
theorem dL_law_425 : decode cL_law 425 = .ok (.invokevirtual 49, 3) := by decide +kernel
theorem dL_law_428 : decode cL_law 428 = .ok (.iload 5, 2) := by decide +kernel
theorem dL_law_430 : decode cL_law 430 = .ok (.if_icmp .eq 5, 3) := by decide +kernel
theorem dL_law_433 : decode cL_law 433 = .ok (.iconst 0, 1) := by decide +kernel
theorem dL_law_434 : decode cL_law 434 = .ok (.ireturn, 1) := by decide +kernel
theorem dL_law_435 : decode cL_law 435 = .ok (.iload 5, 2) := by decide +kernel
theorem dL_law_437 : decode cL_law 437 = .ok (.ifCond .ne 15, 3) := by decide +kernel
theorem dL_law_440 : decode cL_law 440 = .ok (.aload_n 3, 1) := by decide +kernel
theorem dL_law_441 : decode cL_law 441 = .ok (.iconst 0, 1) := by decide +kernel
theorem dL_law_442 : decode cL_law 442 = .ok (.laload, 1) := by decide +kernel
theorem dL_law_443 : decode cL_law 443 = .ok (.iload 6, 2) := by decide +kernel
theorem dL_law_445 : decode cL_law 445 = .ok (.i2l, 1) := by decide +kernel
theorem dL_law_446 : decode cL_law 446 = .ok (.lcmp, 1) := by decide +kernel
theorem dL_law_447 : decode cL_law 447 = .ok (.ifCond .eq 5, 3) := by decide +kernel
theorem dL_law_450 : decode cL_law 450 = .ok (.iconst 0, 1) := by decide +kernel
theorem dL_law_451 : decode cL_law 451 = .ok (.ireturn, 1) := by decide +kernel
theorem dL_law_452 : decode cL_law 452 = .ok (.goto 161, 3) := by decide +kernel
theorem dL_law_455 : decode cL_law 455 = .ok (.aload_n 1, 1) := by decide +kernel
theorem dL_law_456 : decode cL_law 456 = .ok (.invokevirtual 71, 3) := by decide +kernel
theorem dL_law_459 : decode cL_law 459 = .ok (.aload_n 2, 1) := by decide +kernel
theorem dL_law_460 : decode cL_law 460 = .ok (.invokevirtual 74, 3) := by decide +kernel
theorem dL_law_463 : decode cL_law 463 = .ok (.if_icmp .eq 150, 3) := by decide +kernel
theorem dL_law_466 : decode cL_law 466 = .ok (.iconst 0, 1) := by decide +kernel
theorem dL_law_467 : decode cL_law 467 = .ok (.ireturn, 1) := by decide +kernel
theorem dL_law_468 : decode cL_law 468 = .ok (.aload_n 1, 1) := by decide +kernel
theorem dL_law_469 : decode cL_law 469 = .ok (.aload_n 0, 1) := by decide +kernel
theorem dL_law_470 : decode cL_law 470 = .ok (.iload 4, 2) := by decide +kernel
theorem dL_law_472 : decode cL_law 472 = .ok (.iconst 1, 1) := by decide +kernel
theorem dL_law_473 : decode cL_law 473 = .ok (.iadd, 1) := by decide +kernel
theorem dL_law_474 : decode cL_law 474 = .ok (.iaload, 1) := by decide +kernel
theorem dL_law_475 : decode cL_law 475 = .ok (.invokevirtual 75, 3) := by decide +kernel
theorem dL_law_478 : decode cL_law 478 = .ok (.aload_n 2, 1) := by decide +kernel
theorem dL_law_479 : decode cL_law 479 = .ok (.aload_n 0, 1) := by decide +kernel
theorem dL_law_480 : decode cL_law 480 = .ok (.iload 4, 2) := by decide +kernel
theorem dL_law_482 : decode cL_law 482 = .ok (.iconst 1, 1) := by decide +kernel
theorem dL_law_483 : decode cL_law 483 = .ok (.iadd, 1) := by decide +kernel
theorem dL_law_484 : decode cL_law 484 = .ok (.iaload, 1) := by decide +kernel
theorem dL_law_485 : decode cL_law 485 = .ok (.invokevirtual 78, 3) := by decide +kernel
theorem dL_law_488 : decode cL_law 488 = .ok (.if_icmp .eq 125, 3) := by decide +kernel
theorem dL_law_491 : decode cL_law 491 = .ok (.iconst 0, 1) := by decide +kernel
theorem dL_law_492 : decode cL_law 492 = .ok (.ireturn, 1) := by decide +kernel
theorem dL_law_493 : decode cL_law 493 = .ok (.aload_n 1, 1) := by decide +kernel
theorem dL_law_494 : decode cL_law 494 = .ok (.invokevirtual 79, 3) := by decide +kernel
theorem dL_law_497 : decode cL_law 497 = .ok (.aload_n 2, 1) := by decide +kernel
theorem dL_law_498 : decode cL_law 498 = .ok (.invokevirtual 82, 3) := by decide +kernel
theorem dL_law_501 : decode cL_law 501 = .ok (.if_icmp .eq 112, 3) := by decide +kernel
theorem dL_law_504 : decode cL_law 504 = .ok (.iconst 0, 1) := by decide +kernel
theorem dL_law_505 : decode cL_law 505 = .ok (.ireturn, 1) := by decide +kernel
theorem dL_law_506 : decode cL_law 506 = .ok (.aload_n 1, 1) := by decide +kernel
theorem dL_law_507 : decode cL_law 507 = .ok (.aload_n 0, 1) := by decide +kernel
theorem dL_law_508 : decode cL_law 508 = .ok (.iload 4, 2) := by decide +kernel
theorem dL_law_510 : decode cL_law 510 = .ok (.iconst 1, 1) := by decide +kernel
theorem dL_law_511 : decode cL_law 511 = .ok (.iadd, 1) := by decide +kernel
theorem dL_law_512 : decode cL_law 512 = .ok (.iaload, 1) := by decide +kernel
theorem dL_law_513 : decode cL_law 513 = .ok (.aload_n 3, 1) := by decide +kernel
theorem dL_law_514 : decode cL_law 514 = .ok (.invokestatic 83, 3) := by decide +kernel
theorem dL_law_517 : decode cL_law 517 = .ok (.istore 5, 2) := by decide +kernel
theorem dL_law_519 : decode cL_law 519 = .ok (.aload_n 2, 1) := by decide +kernel
theorem dL_law_520 : decode cL_law 520 = .ok (.aload_n 0, 1) := by decide +kernel
theorem dL_law_521 : decode cL_law 521 = .ok (.iload 4, 2) := by decide +kernel
theorem dL_law_523 : decode cL_law 523 = .ok (.iconst 1, 1) := by decide +kernel
theorem dL_law_524 : decode cL_law 524 = .ok (.iadd, 1) := by decide +kernel
theorem dL_law_525 : decode cL_law 525 = .ok (.iaload, 1) := by decide +kernel
theorem dL_law_526 : decode cL_law 526 = .ok (.invokevirtual 86, 3) := by decide +kernel
theorem dL_law_529 : decode cL_law 529 = .ok (.istore 6, 2) := by decide +kernel
theorem dL_law_531 : decode cL_law 531 = .ok (.aload_n 2, 1) := by decide +kernel
theorem dL_law_532 : decode cL_law 532 = .ok (.invokevirtual 49, 3) := by decide +kernel
theorem dL_law_535 : decode cL_law 535 = .ok (.iload 5, 2) := by decide +kernel
theorem dL_law_537 : decode cL_law 537 = .ok (.if_icmp .eq 5, 3) := by decide +kernel
theorem dL_law_540 : decode cL_law 540 = .ok (.iconst 0, 1) := by decide +kernel
theorem dL_law_541 : decode cL_law 541 = .ok (.ireturn, 1) := by decide +kernel
theorem dL_law_542 : decode cL_law 542 = .ok (.iload 5, 2) := by decide +kernel
theorem dL_law_544 : decode cL_law 544 = .ok (.ifCond .ne 15, 3) := by decide +kernel
theorem dL_law_547 : decode cL_law 547 = .ok (.aload_n 3, 1) := by decide +kernel
theorem dL_law_548 : decode cL_law 548 = .ok (.iconst 0, 1) := by decide +kernel
theorem dL_law_549 : decode cL_law 549 = .ok (.laload, 1) := by decide +kernel
theorem dL_law_550 : decode cL_law 550 = .ok (.iload 6, 2) := by decide +kernel
theorem dL_law_552 : decode cL_law 552 = .ok (.i2l, 1) := by decide +kernel
theorem dL_law_553 : decode cL_law 553 = .ok (.lcmp, 1) := by decide +kernel
theorem dL_law_554 : decode cL_law 554 = .ok (.ifCond .eq 5, 3) := by decide +kernel
theorem dL_law_557 : decode cL_law 557 = .ok (.iconst 0, 1) := by decide +kernel
theorem dL_law_558 : decode cL_law 558 = .ok (.ireturn, 1) := by decide +kernel
theorem dL_law_559 : decode cL_law 559 = .ok (.goto 54, 3) := by decide +kernel
theorem dL_law_562 : decode cL_law 562 = .ok (.aload_n 1, 1) := by decide +kernel
theorem dL_law_563 : decode cL_law 563 = .ok (.invokevirtual 87, 3) := by decide +kernel
theorem dL_law_566 : decode cL_law 566 = .ok (.aload_n 2, 1) := by decide +kernel
theorem dL_law_567 : decode cL_law 567 = .ok (.invokevirtual 90, 3) := by decide +kernel
theorem dL_law_570 : decode cL_law 570 = .ok (.if_icmp .eq 43, 3) := by decide +kernel
theorem dL_law_573 : decode cL_law 573 = .ok (.iconst 0, 1) := by decide +kernel
theorem dL_law_574 : decode cL_law 574 = .ok (.ireturn, 1) := by decide +kernel
theorem dL_law_575 : decode cL_law 575 = .ok (.aload_n 1, 1) := by decide +kernel
theorem dL_law_576 : decode cL_law 576 = .ok (.invokevirtual 91, 3) := by decide +kernel
theorem dL_law_579 : decode cL_law 579 = .ok (.aload_n 2, 1) := by decide +kernel
theorem dL_law_580 : decode cL_law 580 = .ok (.invokevirtual 94, 3) := by decide +kernel
theorem dL_law_583 : decode cL_law 583 = .ok (.if_icmp .eq 30, 3) := by decide +kernel
theorem dL_law_586 : decode cL_law 586 = .ok (.iconst 0, 1) := by decide +kernel
theorem dL_law_587 : decode cL_law 587 = .ok (.ireturn, 1) := by decide +kernel
theorem dL_law_588 : decode cL_law 588 = .ok (.aload_n 1, 1) := by decide +kernel
theorem dL_law_589 : decode cL_law 589 = .ok (.aload_n 0, 1) := by decide +kernel
theorem dL_law_590 : decode cL_law 590 = .ok (.iload 4, 2) := by decide +kernel
theorem dL_law_592 : decode cL_law 592 = .ok (.iconst 1, 1) := by decide +kernel
theorem dL_law_593 : decode cL_law 593 = .ok (.iadd, 1) := by decide +kernel
theorem dL_law_594 : decode cL_law 594 = .ok (.iaload, 1) := by decide +kernel
theorem dL_law_595 : decode cL_law 595 = .ok (.invokevirtual 95, 3) := by decide +kernel
theorem dL_law_598 : decode cL_law 598 = .ok (.aload_n 2, 1) := by decide +kernel
theorem dL_law_599 : decode cL_law 599 = .ok (.aload_n 0, 1) := by decide +kernel
theorem dL_law_600 : decode cL_law 600 = .ok (.iload 4, 2) := by decide +kernel
theorem dL_law_602 : decode cL_law 602 = .ok (.iconst 1, 1) := by decide +kernel
theorem dL_law_603 : decode cL_law 603 = .ok (.iadd, 1) := by decide +kernel
theorem dL_law_604 : decode cL_law 604 = .ok (.iaload, 1) := by decide +kernel
theorem dL_law_605 : decode cL_law 605 = .ok (.invokevirtual 98, 3) := by decide +kernel
theorem dL_law_608 : decode cL_law 608 = .ok (.if_icmp .eq 5, 3) := by decide +kernel
theorem dL_law_611 : decode cL_law 611 = .ok (.iconst 0, 1) := by decide +kernel
theorem dL_law_612 : decode cL_law 612 = .ok (.ireturn, 1) := by decide +kernel
theorem dL_law_613 : decode cL_law 613 = .ok (.iinc 4 4, 3) := by decide +kernel
theorem dL_law_616 : decode cL_law 616 = .ok (.goto (-593), 3) := by decide +kernel
theorem dL_law_619 : decode cL_law 619 = .ok (.iconst 1, 1) := by decide +kernel
theorem dL_law_620 : decode cL_law 620 = .ok (.ireturn, 1) := by decide +kernel
end
section
/-! MIRRORS: each method of the class as a function -/
def k_tabL : Nat → Int32 := fun j => ([67, 76, 66, 89, 82, 71] : List Int32).getD j 0
def k_tabN : Nat → Nat := fun j => ([4, 4, 4, 2, 2, 1] : List Nat).getD j 0
def k_tabA : Nat → Int32 := fun j => ([0, 0, 0, 1, 0, 0, 1, 1, 0, 1, 1, 0, 0, 0, 0, 0, 0, 0, 0, 0, 0, 0, 0, 0] : List Int32).getD j 0
def k_tabZ : Nat → Int32 := fun j => ([15, 15, 99, 30, 15, 4, 99, 30, 15, 99, 30, 9, 15, 50, 0, 0, 15, 15, 0, 0, 15, 0, 0, 0] : List Int32).getD j 0
def k_isPoint (p : Int32) : Bool := if p < 0 then false else if 16 ≤ p then false else true
def k_isKind (k : Int32) : Bool := if k < 0 then false else if 6 ≤ k then false else true
def k_nK (k : Int32) : Nat := if k_isKind k = true then k_tabN k.toNatClampNeg else 0
def k_isFull (sz : Nat) : Bool := if sz < 50 then false else true
def k_get (a : Nat → Int32) (sz : Nat) (i : Int32) : Int32 := if i < 0 then -1 else if nI sz ≤ i then -1 else a i.toNatClampNeg
def k_num (us : Nat → Int32) (sz : Nat) (i w : Int32) : Int32 := if i < 0 then -1 else if nI sz ≤ i then -1 else if w < 0 then -1 else if w < 4 then us (i * 4 + w).toNatClampNeg else -1
def k_indexOf (ks ns : Nat → Int32) (kind name : Int32) (sz k : Nat) : Int32 :=
  if k < sz then (if ks k = kind then (if ns k = name then nI k else k_indexOf ks ns kind name sz (k + 1)) else k_indexOf ks ns kind name sz (k + 1)) else -1
termination_by sz - k
def k_cnt (ks : Nat → Int32) (kind : Int32) (sz k f : Nat) : Nat :=
  if k < sz then (if ks k = kind then k_cnt ks kind sz (k + 1) (f + 1) else k_cnt ks kind sz (k + 1) f) else f
termination_by sz - k
def k_sizeOfKind (ks : Nat → Int32) (sz : Nat) (kind : Int32) : Int32 := if k_isKind kind = true then nI (k_cnt ks kind sz 0 0) else -1
def k_rank (ks ns : Nat → Int32) (sz : Nat) (i : Int32) : Int32 := k_get ks sz i * 100 + k_get ns sz i
def k_next (ks ns : Nat → Int32) (sz : Nat) (rank : Int32) (k : Nat) (nx : Int32) : Int32 :=
  if k < sz then (if k_rank ks ns sz (nI k) ≤ rank then k_next ks ns sz rank (k + 1) nx else if nx = -1 then k_next ks ns sz rank (k + 1) (nI k) else if k_rank ks ns sz nx ≤ k_rank ks ns sz (nI k) then k_next ks ns sz rank (k + 1) nx else k_next ks ns sz rank (k + 1) (nI k)) else nx
termination_by sz - k
def k_has (ks us : Nat → Int32) (sz : Nat) (kind pt : Int32) (k : Nat) : Bool :=
  if k < sz then (if ks k = kind then (if k_num us sz (nI k) 0 = pt then true else if k_num us sz (nI k) 1 = pt then true else k_has ks us sz kind pt (k + 1)) else k_has ks us sz kind pt (k + 1)) else false
termination_by sz - k
def k_same (us : Nat → Int32) (sz : Nat) (i : Int32) (us2 : Nat → Int32) (sz2 : Nat) (t : Int32) (many w : Nat) : Bool :=
  if w < many then (if k_num us sz i (nI w) = k_num us2 sz2 t (nI w) then k_same us sz i us2 sz2 t many (w + 1) else false) else true
termination_by many - w
def k_miss (ks ns : Nat → Int32) (sz : Nat) (ks2 ns2 : Nat → Int32) (sz2 k f : Nat) : Nat :=
  if k < sz then (if k_indexOf ks2 ns2 (ks k) (ns k) sz2 0 = -1 then k_miss ks ns sz ks2 ns2 sz2 (k + 1) (f + 1) else k_miss ks ns sz ks2 ns2 sz2 (k + 1) f) else f
termination_by sz - k
def k_chg (ks ns us : Nat → Int32) (sz : Nat) (ks2 ns2 us2 : Nat → Int32) (sz2 k f : Nat) : Nat :=
  if k < sz then (if k_indexOf ks2 ns2 (ks k) (ns k) sz2 0 = -1 then k_chg ks ns us sz ks2 ns2 us2 sz2 (k + 1) f else if k_same us sz (nI k) us2 sz2 (k_indexOf ks2 ns2 (ks k) (ns k) sz2 0) (k_nK (k_get ks sz (nI k))) 0 = true then k_chg ks ns us sz ks2 ns2 us2 sz2 (k + 1) f else k_chg ks ns us sz ks2 ns2 us2 sz2 (k + 1) (f + 1)) else f
termination_by sz - k
/-- begin, setNumber -/
def k_begin (ks ns : Nat → Int32) (sz : Nat) (kind name : Int32) : (Nat → Int32) × (Nat → Int32) × Nat := if k_isFull sz = true then (ks, ns, sz) else (upd ks sz kind, upd ns sz name, sz + 1)
def k_setNumber (us : Nat → Int32) (sz : Nat) (w x : Int32) : Nat → Int32 := if 0 < sz then (if w < 0 then us else if 4 ≤ w then us else upd us ((nI sz - 1) * 4 + w).toNatClampNeg x) else us
/-- the reader -/
def k_collect (sg : Nat → Int32) (len : Nat) (c : Int32) : Bool × (Nat → Int32) × Nat := if c < 33 then (false, sg, len) else if 126 < c then (false, sg, len) else if len < 500 then (true, upd sg len c, len + 1) else (false, sg, len)
def k_sign (sg : Nat → Int32) (len pl : Nat) : Int32 := if pl < len then sg pl else -1
def k_digit (sg : Nat → Int32) (len pl : Nat) : Int32 := if k_sign sg len pl < 48 then -1 else if 57 < k_sign sg len pl then -1 else k_sign sg len pl - 48
def k_kindF (g : Int32) (k : Nat) : Int32 := if k < 6 then (if k_tabL k = g then nI k else k_kindF g (k + 1)) else -1
termination_by 6 - k
def k_readDigits (sg : Nat → Int32) (len pl : Nat) : Int32 × Nat := if k_digit sg len pl = -1 then (-1, pl) else if k_digit sg len (pl + 1) = -1 then (k_digit sg len pl, pl + 1) else (10 * k_digit sg len pl + k_digit sg len (pl + 1), pl + 1 + 1)
def k_readSign (sg : Nat → Int32) (len : Nat) (want : Int32) (pl : Nat) (fn fp : Int32) : Bool × Nat × Int32 × Int32 := if k_sign sg len pl = want then (true, pl + 1, fn, fp) else (false, pl, 1, nI pl)
def k_inRange (kind w x : Int32) : Bool := if k_isKind kind = true then (if w < 0 then false else if w < 4 then (if x < k_tabA (kind * 4 + w).toNatClampNeg then false else if k_tabZ (kind * 4 + w).toNatClampNeg < x then false else true) else false) else false
def k_judge (us : Nat → Int32) (sz : Nat) (kind w x : Int32) : Int32 :=
  if k_inRange kind w x = true then (if (kind = 0 ∨ kind = 4) ∧ w = 1 ∧ x = k_num us sz (nI sz - 1) 0 then 3 else if kind = 1 ∧ w = 1 ∧ x = 0 then 4 else 0) else 3
abbrev k_RS : Type := (Nat → Int32) × (Nat → Int32) × (Nat → Int32) × Nat × Nat × Int32 × Int32
def k_readName (sg : Nat → Int32) (len : Nat) (kind : Int32) (ks ns us : Nat → Int32) (sz pl : Nat) (fn fp : Int32) : Bool × k_RS :=
  if (k_readDigits sg len pl).1 = -1 then (false, ks, ns, us, sz, (k_readDigits sg len pl).2, 1, nI (k_readDigits sg len pl).2)
  else if k_indexOf ks ns kind (k_readDigits sg len pl).1 sz 0 = -1 then (true, (k_begin ks ns sz kind (k_readDigits sg len pl).1).1, (k_begin ks ns sz kind (k_readDigits sg len pl).1).2.1, us, (k_begin ks ns sz kind (k_readDigits sg len pl).1).2.2, (k_readDigits sg len pl).2, fn, fp)
  else (false, ks, ns, us, sz, (k_readDigits sg len pl).2, 2, nI pl)
def k_readNumber (sg : Nat → Int32) (len : Nat) (kind w : Int32) (us : Nat → Int32) (sz pl : Nat) (fn fp : Int32) : Bool × (Nat → Int32) × Nat × Int32 × Int32 :=
  if (k_readDigits sg len pl).1 = -1 then (false, us, (k_readDigits sg len pl).2, 1, nI (k_readDigits sg len pl).2)
  else if k_judge us sz kind w (k_readDigits sg len pl).1 = 0 then (true, k_setNumber us sz w (k_readDigits sg len pl).1, (k_readDigits sg len pl).2, fn, fp)
  else (false, us, (k_readDigits sg len pl).2, k_judge us sz kind w (k_readDigits sg len pl).1, nI pl)
def k_nums (sg : Nat → Int32) (len : Nat) (kind : Int32) (many w : Nat) (us : Nat → Int32) (sz pl : Nat) (fn fp : Int32) : Bool × (Nat → Int32) × Nat × Int32 × Int32 :=
  if w < many then
    (match k_readNumber sg len kind (nI w) us sz pl fn fp with
     | (true, us1, pl1, fn1, fp1) => (match k_readSign sg len (if w + 1 < many then 44 else 59) pl1 fn1 fp1 with
        | (true, pl2, fn2, fp2) => k_nums sg len kind many (w + 1) us1 sz pl2 fn2 fp2
        | (false, pl2, fn2, fp2) => (false, us1, pl2, fn2, fp2))
     | (false, us1, pl1, fn1, fp1) => (false, us1, pl1, fn1, fp1))
  else (true, us, pl, fn, fp)
termination_by many - w
def k_rowEnd (ks ns : Nat → Int32) (sz : Nat) (t : Bool × (Nat → Int32) × Nat × Int32 × Int32) : Bool × k_RS := (t.1, ks, ns, t.2.1, sz, t.2.2.1, t.2.2.2.1, t.2.2.2.2)
def k_readRow (sg : Nat → Int32) (len : Nat) (ks ns us : Nat → Int32) (sz pl : Nat) (fn fp : Int32) : Bool × k_RS :=
  if k_kindF (k_sign sg len pl) 0 = -1 then (false, ks, ns, us, sz, pl, 1, nI pl)
  else if k_isFull sz = true then (false, ks, ns, us, sz, pl, 5, nI pl)
  else match k_readName sg len (k_kindF (k_sign sg len pl) 0) ks ns us sz (pl + 1) fn fp with
    | (true, ks1, ns1, us1, sz1, pl1, fn1, fp1) => (match k_readSign sg len 61 pl1 fn1 fp1 with
       | (true, pl2, fn2, fp2) => k_rowEnd ks1 ns1 sz1 (k_nums sg len (k_kindF (k_sign sg len pl) 0) (k_nK (k_kindF (k_sign sg len pl) 0)) 0 us1 sz1 pl2 fn2 fp2)
       | (false, pl2, fn2, fp2) => (false, ks1, ns1, us1, sz1, pl2, fn2, fp2))
    | (false, ks1, ns1, us1, sz1, pl1, fn1, fp1) => (false, ks1, ns1, us1, sz1, pl1, fn1, fp1)
def k_rows (sg : Nat → Int32) (len row : Nat) (right : Bool) (ks ns us : Nat → Int32) (sz pl : Nat) (fn fp : Int32) : Bool × k_RS :=
  if 50 < row then (right, ks, ns, us, sz, pl, fn, fp) else if right = false then (right, ks, ns, us, sz, pl, fn, fp) else if pl < len then
    (match k_readRow sg len ks ns us sz pl fn fp with
     | (b, ks1, ns1, us1, sz1, pl1, fn1, fp1) => k_rows sg len (row + 1) b ks1 ns1 us1 sz1 pl1 fn1 fp1)
  else (right, ks, ns, us, sz, pl, fn, fp)
termination_by 51 - row
def k_readAll (sg : Nat → Int32) (len : Nat) (ks ns us : Nat → Int32) : Bool × k_RS := k_rows sg len 0 true ks ns us 0 0 0 (-1)
/-- the ways -/
def k_depthAt (dp : Nat → Int32) (p : Int32) : Int32 := if k_isPoint p = true then dp p.toNatClampNeg else 0
def k_deepen (dp : Nat → Int32) (a b most : Int32) : Bool × (Nat → Int32) :=
  if k_isPoint a = true then (if k_isPoint b = true then (if dp b.toNatClampNeg < (if most < dp a.toNatClampNeg then most else dp a.toNatClampNeg) then (true, upd dp b.toNatClampNeg (if most < dp a.toNatClampNeg then most else dp a.toNatClampNeg)) else (false, dp)) else (false, dp)) else (false, dp)
def k_along (ks us : Nat → Int32) (sz : Nat) (i : Int32) (dp : Nat → Int32) : Bool × (Nat → Int32) :=
  if k_get ks sz i = 4 then k_deepen dp (k_num us sz i 0) (k_num us sz i 1) 99
  else match k_deepen dp (k_num us sz i 0) (k_num us sz i 1) (k_num us sz i 3) with
    | (true, dp1) => (true, dp1)
    | (false, dp1) => k_deepen dp1 (k_num us sz i 1) (k_num us sz i 0) (k_num us sz i 3)
def k_once (ks us : Nat → Int32) (sz : Nat) (kind : Int32) (k : Nat) (ch : Bool) (dp : Nat → Int32) : Bool × (Nat → Int32) :=
  if k < sz then (if k_get ks sz (nI k) = kind then (match k_along ks us sz (nI k) dp with
      | (true, dp1) => k_once ks us sz kind (k + 1) true dp1
      | (false, dp1) => k_once ks us sz kind (k + 1) ch dp1) else k_once ks us sz kind (k + 1) ch dp) else (ch, dp)
termination_by sz - k
def k_init (fr : Int32) (p : Nat) (dp : Nat → Int32) : Nat → Int32 := if p < 16 then k_init fr (p + 1) (upd dp p (if nI p = fr then 99 else 0)) else dp
termination_by 16 - p
def k_rounds (ks us : Nat → Int32) (sz : Nat) (kind : Int32) (r : Nat) (ch : Bool) (dp : Nat → Int32) : Nat → Int32 :=
  if r < 16 then (if ch = false then dp else match k_once ks us sz kind 0 false dp with | (b, dp1) => k_rounds ks us sz kind (r + 1) b dp1) else dp
termination_by 16 - r
def k_spread (ks us : Nat → Int32) (sz : Nat) (kind fr : Int32) (dp : Nat → Int32) : Nat → Int32 := k_rounds ks us sz kind 0 true (k_init fr 0 dp)
/-- the bad ones -/
def k_holds (ks us : Nat → Int32) (sz : Nat) (dp : Nat → Int32) (reason : Nat) (i : Int32) : Bool :=
  if reason = 0 then (if k_get ks sz i = 1 ∨ k_get ks sz i = 2 then !k_has ks us sz 0 (k_num us sz i 0) 0 else false)
  else if reason = 1 then (if k_get ks sz i = 3 ∨ k_get ks sz i = 5 then !k_has ks us sz 4 (k_num us sz i 0) 0 else false)
  else if reason = 2 then (if k_get ks sz i = 0 then (if k_num us sz i 2 = 0 then true else false) else false)
  else (if k_get ks sz i = 2 then (if k_num us sz i 2 ≤ k_depthAt dp (k_num us sz i 0) then false else true) else false)
def k_addAll (ks us : Nat → Int32) (sz : Nat) (dp : Nat → Int32) (reason k : Nat) (en : Nat → Int32) (bn : Nat) : (Nat → Int32) × Nat :=
  if k < sz then (if bn < 100 then (if k_holds ks us sz dp reason (nI k) = true then k_addAll ks us sz dp reason (k + 1) (upd en bn (nI (10 * k + reason))) (bn + 1) else k_addAll ks us sz dp reason (k + 1) en bn) else k_addAll ks us sz dp reason (k + 1) en bn) else (en, bn)
termination_by sz - k
def k_reasons (ks us : Nat → Int32) (sz : Nat) (dp : Nat → Int32) (reason : Nat) (en : Nat → Int32) (bn : Nat) : (Nat → Int32) × Nat :=
  if reason < 4 then (match k_addAll ks us sz dp reason 0 en bn with | (en1, bn1) => k_reasons ks us sz dp (reason + 1) en1 bn1) else (en, bn)
termination_by 4 - reason
def k_judgeAll (ks us : Nat → Int32) (sz : Nat) (dp en : Nat → Int32) : (Nat → Int32) × (Nat → Int32) × Nat :=
  (k_spread ks us sz 0 0 dp, k_reasons ks us sz (k_spread ks us sz 0 0 dp) 0 en 0)
/-- the printout -/
def k_wSign (ot : Nat → Int32) (ol : Nat) (c : Int32) : (Nat → Int32) × Nat := if ol < 500 then (upd ot ol (vp_nar .char c), ol + 1) else (ot, ol)
def k_chr (x : Int32) : Int32 := ((48 + x).toUInt32 % 65536).toInt32
def k_wNum (ot : Nat → Int32) (ol : Nat) (x : Int32) : (Nat → Int32) × Nat :=
  if x < 10 then k_wSign ot ol (k_chr (x - x / 10 * 10)) else match k_wSign ot ol (k_chr (x / 10)) with | (ot1, ol1) => k_wSign ot1 ol1 (k_chr (x - x / 10 * 10))
def k_wNums (us : Nat → Int32) (sz : Nat) (i : Int32) (many w : Nat) (ot : Nat → Int32) (ol : Nat) : (Nat → Int32) × Nat :=
  if w < many then (match k_wSign ot ol (if w = 0 then 61 else 44) with | (ot1, ol1) => (match k_wNum ot1 ol1 (k_num us sz i (nI w)) with | (ot2, ol2) => k_wNums us sz i many (w + 1) ot2 ol2)) else k_wSign ot ol 59
termination_by many - w
def k_wRow (ks ns us : Nat → Int32) (sz : Nat) (i : Int32) (ot : Nat → Int32) (ol : Nat) : (Nat → Int32) × Nat :=
  if k_isKind (k_get ks sz i) = true then (match k_wSign ot ol (k_tabL (k_get ks sz i).toNatClampNeg) with | (ot1, ol1) => (match k_wNum ot1 ol1 (k_get ns sz i) with | (ot2, ol2) => k_wNums us sz i (k_nK (k_get ks sz i)) 0 ot2 ol2)) else (ot, ol)
def k_writeF (ks ns us : Nat → Int32) (sz : Nat) (rank : Int32) (w : Nat) (ot : Nat → Int32) (ol : Nat) : (Nat → Int32) × Nat :=
  if w < sz then (match k_wRow ks ns us sz (k_next ks ns sz rank 0 (-1)) ot ol with | (ot1, ol1) => k_writeF ks ns us sz (k_rank ks ns sz (k_next ks ns sz rank 0 (-1))) (w + 1) ot1 ol1) else (ot, ol)
termination_by sz - w
def k_write (ks ns us : Nat → Int32) (sz : Nat) (ot : Nat → Int32) : (Nat → Int32) × Nat := k_writeF ks ns us sz (-1) 0 ot 0
/-- the face -/
def k_failure (fn fp p : Int32) : Int32 := if p = 0 then fn else if p = 1 then fp else -1
def k_compare (ks ns us : Nat → Int32) (sz : Nat) (ks2 ns2 us2 : Nat → Int32) (sz2 : Nat) : Nat := k_miss ks ns sz ks2 ns2 sz2 0 0 + k_miss ks2 ns2 sz2 ks ns sz 0 0 + k_chg ks ns us sz ks2 ns2 us2 sz2 0 0
def k_count (len sz sz2 : Nat) (ks : Nat → Int32) (p : Int32) : Int32 := if p = 0 then nI len else if p = 1 then nI sz else if p = 2 then nI sz2 else if 10 ≤ p then k_sizeOfKind ks sz (p - 10) else -1
end
section
/-! STATIC TABLES of the class as its start leaves them; links across the nest -/
def nestM : List (String × Nat × MethodName) := [("HarbourText", 9, yX3_init), ("HarbourText$TextReader", 17, yX1_init), ("HarbourText", 18, yX1_init), ("HarbourText", 28, yX4_init), ("HarbourText", 35, yX0_init), ("HarbourText", 42, yX2_init), ("HarbourText$Harbour", 60, yX5_numbersOfKind), ("HarbourText$Harbour", 29, yX5_isKind), ("HarbourText$TextReader", 61, yX5_numbersOfKind), ("HarbourText$TextReader", 96, yX5_isKind), ("HarbourText$Ways", 15, yX5_isPoint), ("HarbourText$Printout", 39, yX5_isKind), ("HarbourText$Printout", 57, yX5_numbersOfKind)]
def nestF : List (String × Nat × String × String × String) := [("HarbourText$TextReader", 112, "HarbourText", "LETTERS", "[C"), ("HarbourText$TextReader", 99, "HarbourText", "LEAST", "[I"), ("HarbourText$TextReader", 103, "HarbourText", "MOST", "[I"), ("HarbourText$Printout", 43, "HarbourText", "LETTERS", "[C")]
def st_N (U : State) : Prop := (∀ q ∈ nestM, va_Nw (.methodLinkNest q.1 q.2.1 q.2.2 "HarbourText") U) ∧ ∀ q ∈ nestF, va_Nw (.fieldLinkNest q.1 q.2.1 q.2.2.1 q.2.2.2.1 q.2.2.2.2 "HarbourText") U
theorem st_N.same {u U : State} (h : u.vm = U.vm) (hN : st_N u) : st_N U := ⟨fun q hq => (hN.1 q hq).same rfl h, fun q hq => (hN.2 q hq).same rfl h⟩
theorem st_N.warm {s U : State} (hW : s.WarmedH U.vm) (hN : st_N s) : st_N U := ⟨fun q hq => (hN.1 q hq).warmM hW, fun q hq => (hN.2 q hq).warmF hW⟩
def st_T (B : Nat) (U : State) (H : Heap) : Prop := ∃ (tL tN tA tZ : Nat),
  va_Z "HarbourText" "LETTERS" "[C" (.ref tL) (fun q => B ≤ q) U H ∧ va_T .char tL 6 (fun j => .int (k_tabL j)) (fun q => B ≤ q) U H ∧
  va_Z "HarbourText" "NUMBERS_OF_KIND" "[I" (.ref tN) (fun q => B ≤ q) U H ∧ va_T .int tN 6 (fun j => .int (nI (k_tabN j))) (fun q => B ≤ q) U H ∧
  va_Z "HarbourText" "LEAST" "[I" (.ref tA) (fun q => B ≤ q) U H ∧ va_T .int tA 24 (fun j => .int (k_tabA j)) (fun q => B ≤ q) U H ∧
  va_Z "HarbourText" "MOST" "[I" (.ref tZ) (fun q => B ≤ q) U H ∧ va_T .int tZ 24 (fun j => .int (k_tabZ j)) (fun q => B ≤ q) U H
theorem st_T.moved {B : Nat} {u U : State} {H : Heap} (hvm : u.vm.Alike U.vm) (h : st_T B u H) : st_T B U H := by
  obtain ⟨tL, tN, tA, tZ, zL, aL, zN, aN, zA, aA, zZ, aZ⟩ := h
  exact ⟨tL, tN, tA, tZ, zL.moved hvm, aL.moved hvm, zN.moved hvm, aN.moved hvm, zA.moved hvm, aA.moved hvm, zZ.moved hvm, aZ.moved hvm⟩
theorem st_T.kept {B : Nat} {U : State} {H H1 : Heap} {locs : List Loc} (h : st_T B U H) (hS : va_S (fun q => B ≤ q) H H1 locs) : st_T B U H1 := by
  obtain ⟨tL, tN, tA, tZ, zL, aL, zN, aN, zA, aA, zZ, aZ⟩ := h
  exact ⟨tL, tN, tA, tZ, zL.kept hS.2.1, aL.kept hS.2.1, zN.kept hS.2.1, aN.kept hS.2.1, zA.kept hS.2.1, aA.kept hS.2.1, zZ.kept hS.2.1, aZ.kept hS.2.1⟩
def st_B (B : Nat) (U : State) (H : Heap) : Prop := st_T B U H ∧ st_N U
theorem st_B.warm {B : Nat} {s U : State} {H : Heap} (hW : s.WarmedH U.vm) (h : st_B B s H) : st_B B U H := ⟨h.1.moved hW.alike, h.2.warm hW⟩
theorem st_B.same {B : Nat} {u U : State} {H : Heap} (hv : u.vm = U.vm) (h : st_B B u H) : st_B B U H := ⟨h.1.moved (by rw [hv]; exact Vm.Alike.refl _), h.2.same hv⟩
theorem st_B.kept {B : Nat} {U : State} {H H1 : Heap} {locs : List Loc} (h : st_B B U H) (hS : va_S (fun q => B ≤ q) H H1 locs) : st_B B U H1 := ⟨h.1.kept hS, h.2⟩
theorem st_B.nM {B : Nat} {U : State} {H : Heap} (h : st_B B U H) {q : String × Nat × MethodName} (hq : q ∈ nestM) : va_Nw (.methodLinkNest q.1 q.2.1 q.2.2 "HarbourText") U := h.2.1 q hq
theorem st_B.nF {B : Nat} {U : State} {H : Heap} (h : st_B B U H) {q : String × Nat × String × String × String} (hq : q ∈ nestF) : va_Nw (.fieldLinkNest q.1 q.2.1 q.2.2.1 q.2.2.2.1 q.2.2.2.2 "HarbourText") U := h.2.2 q hq
/-! A CALL'S WORDS among the good ones -/
theorem gi_N {cw : Cond} (h5 : cw ∈ lw_good) : GoodIn lw_good (cw :: lw_good) := by
  intro w hw
  have h : w ∈ lw_good := by
    rcases List.mem_cons.mp hw with rfl | h
    · exact h5
    · exact h
  exact ⟨h, gd_is h⟩
theorem gi_V {own C : String} {idx : Nat} {y : MethodName} {cw : Cond} (h1 : Cond.methodLink own idx y ∈ lw_good) (h2 : Cond.instanceMethod y ∈ lw_good) (h3 : Cond.selects C y y ∈ lw_good) (h4 : Cond.initialized C ∈ lw_good) (h5 : cw ∈ lw_good) : GoodIn lw_good (wsV own idx C y (cw :: lw_good)) := by
  intro w hw
  unfold wsV at hw
  rcases List.mem_append.mp hw with h | h
  · have h : w ∈ lw_good := by
      simp only [List.mem_cons, List.not_mem_nil, or_false] at h
      rcases h with rfl | rfl | rfl | rfl
      · exact h1
      · exact h2
      · exact h3
      · exact h4
    exact ⟨h, gd_is h⟩
  · exact gi_N h5 w h
theorem gi_S {own : String} {idx : Nat} {y : MethodName} {cw : Cond} (h1 : Cond.methodLink own idx y ∈ lw_good) (h2 : Cond.static y ∈ lw_good) (h4 : Cond.initialized y.cls ∈ lw_good) (h5 : cw ∈ lw_good) : GoodIn lw_good (va_wsS own idx y (cw :: lw_good)) := by
  intro w hw
  unfold va_wsS at hw
  rcases List.mem_append.mp hw with h | h
  · have h : w ∈ lw_good := by
      simp only [List.mem_cons, List.not_mem_nil, or_false] at h
      rcases h with rfl | rfl | rfl
      · exact h1
      · exact h2
      · exact h4
    exact ⟨h, gd_is h⟩
  · exact gi_N h5 w h
end
section
/-! COMBINATORS: two standard forms of a contract (a reader, a writer), their calls; arrays read and written at a Nat place -/
def bI (b : Bool) : Int32 := if b then 1 else 0
theorem bI_eq0 {b : Bool} (h : bI b = 0) : b = false := by
  cases b
  · rfl
  · exact absurd h (by decide)
theorem bI_ne0 {b : Bool} (h : ¬ bI b = 0) : b = true := by
  cases b
  · exact absurd rfl h
  · rfl
theorem bI_nar (b : Bool) : narrow .boolean (.int (bI b)) = .int (bI b) := by cases b <;> rfl
theorem bI_1 {b : Bool} (h : b = true) : (1 : Int32) = bI b := by rw [h]; rfl
theorem bI_0 {b : Bool} (h : b = false) : (0 : Int32) = bI b := by rw [h]; rfl
theorem na_lt {a b : Nat} (h : nI a < nI b) (ha : a < 2 ^ 31) (hb : b < 2 ^ 31) : a < b := (nI_ltI ha hb).mp h
theorem na_nlt {a b : Nat} (h : ¬ nI a < nI b) (ha : a < 2 ^ 31) (hb : b < 2 ^ 31) : ¬ a < b := fun z => h ((nI_ltI ha hb).mpr z)
theorem na_le {a b : Nat} (h : nI a ≤ nI b) (ha : a < 2 ^ 31) (hb : b < 2 ^ 31) : ¬ b < a := Nat.not_lt.mpr ((nI_leI ha hb).mp h)
theorem na_nle {a b : Nat} (h : ¬ nI a ≤ nI b) (ha : a < 2 ^ 31) (hb : b < 2 ^ 31) : b < a := Nat.lt_of_not_le (fun z => h ((nI_leI ha hb).mpr z))
theorem na_eq {a b : Nat} (h : nI a = nI b) (ha : a < 2 ^ 31) (hb : b < 2 ^ 31) : a = b := (nI_eq ha hb).mp h
theorem na_ne {a b : Nat} (h : ¬ nI a = nI b) (ha : a < 2 ^ 31) (hb : b < 2 ^ 31) : ¬ a = b := fun z => h ((nI_eq ha hb).mpr z)
theorem va_S.mono {A B : Nat → Prop} {H0 H : Heap} {locs : List Loc} (h : va_S A H0 H locs) (hAB : ∀ q, A q → B q) : va_S B H0 H locs :=
  ⟨h.1, fun q h1 h2 => h.2.1 q h1 (fun z => h2 (hAB q z)), fun l hl => hAB _ (h.2.2 l hl)⟩
theorem va_A.ge {ws : va_W} {sz B : Nat} (hD : va_D (fun q => B ≤ q) ws) (hB : B ≤ sz) : ∀ q, va_A ws sz q → B ≤ q := by
  intro q h
  rcases h with ⟨k, e, h⟩ | h
  · exact hD.2 k (q, e) h
  · exact Nat.le_trans hB h
theorem va_D.of_map {A : Nat → Prop} {ws w2 : va_W} (hD : va_D A ws) (hm : w2.map Prod.fst = ws.map Prod.fst) : va_D A w2 := by
  have at' : ∀ (k : Nat) (q : Nat × va_E), w2[k]? = some q → ∃ q', ws[k]? = some q' ∧ q'.1 = q.1 := by
    intro k q hq
    have h1 : (w2.map Prod.fst)[k]? = some q.1 := by rw [List.getElem?_map, hq]; rfl
    rw [hm, List.getElem?_map] at h1
    cases h2 : ws[k]? with
    | none => rw [h2] at h1; cases h1
    | some q' => rw [h2] at h1; exact ⟨q', rfl, Option.some.inj h1⟩
  refine ⟨fun i j x y hx hy hxy => ?_, fun k q hq => ?_⟩
  · obtain ⟨x', hx', ex⟩ := at' i x hx
    obtain ⟨y', hy', ey⟩ := at' j y hy
    exact hD.1 i j x' y' hx' hy' (by rw [ex, ey, hxy])
  · obtain ⟨q', hq', eq⟩ := at' k q hq
    rw [← eq]
    exact hD.2 k q' hq'
/-- the cells at the places is, replaced -/
def w_put : va_W → List Nat → va_W → va_W
  | ws, i :: is, q :: qs => w_put (ws.set i q) is qs
  | ws, _, _ => ws
theorem w_put_get : ∀ (is : List Nat) (qs ws : va_W) (k : Nat) (x : Nat × va_E), (w_put ws is qs)[k]? = some x → (∃ j : Nat, qs[j]? = some x) ∨ (k ∉ is ∧ ws[k]? = some x) ∨ (qs.length < is.length) := by
  intro is
  induction is with
  | nil =>
    intro qs ws k x h
    refine Or.inr (Or.inl ⟨List.not_mem_nil, ?_⟩)
    cases qs <;> exact h
  | cons i is ih =>
    intro qs ws k x h
    cases qs with
    | nil => exact Or.inr (Or.inr (by simp))
    | cons q qs =>
      rcases ih qs (ws.set i q) k x h with ⟨j, hj⟩ | ⟨hk, hx⟩ | hlen
      · exact Or.inl ⟨j + 1, hj⟩
      · by_cases hki : i = k
        · subst hki
          rw [List.getElem?_set] at hx
          simp only [if_true] at hx
          split at hx
          · exact Or.inl ⟨0, hx⟩
          · cases hx
        · rw [List.getElem?_set, if_neg hki] at hx
          exact Or.inr (Or.inl ⟨fun z => by rcases List.mem_cons.mp z with z | z; exact hki z.symm; exact hk z, hx⟩)
      · exact Or.inr (Or.inr (by simp only [List.length_cons]; omega))
section CO
variable {p : Program} {l : Launch} {e : Env} {R : Room} {s : State} {m : MethodId} {args : Array Value} {below : List Frame} {meth : Method} {c : Code} {H : Heap} {locs : List Loc} {cells slots : Nat} {Q : State → Prop}
variable {cc : ByteArray} {pc : Nat} {ls : Array Slot} {rest st0 : List Value} {D : va_G} {cl : List vw_C} {A A0 : Nat → Prop} {a : Nat} {tys : List (ClassId × FieldType)} {ws : va_W} {H0 : Heap}
/-- a reader's start -/
def q_Rd (D : va_G) (cl : List vw_C) (av : List Value) (ws : va_W) (tys : List (ClassId × FieldType)) (B : Nat) : Array Value → State → Prop := fun v U => v = av.toArray ∧ va_P D cl ws U.heap ∧ va_K D cl tys U ∧ st_B B U U.heap
theorem q_Rd.blind {av : List Value} {B : Nat} : FrameBlind (q_Rd D cl av ws tys B) := fun a U g mk h => ⟨h.1, h.2.1, va_K.moved (u := U) (U := U.calling g mk a) (Vm.Alike.refl U.vm) h.2.2.1, st_B.same (u := U) (U := U.calling g mk a) rfl h.2.2.2⟩
theorem pre_RV {b : Addr} {As : List Value} {B : Nat} {C : String} (hrecv : ∃ cellB : Cell, H[b]? = some cellB ∧ cellB.vm.isStatics = false ∧ s.vm.findClass C = some cellB.cls) (hP : va_P D cl ws H) (hK : va_K D cl tys s) (hT : st_B B s H) : PreV s H C b (q_Rd D cl (.ref b :: As) ws tys B) As :=
  ⟨q_Rd.blind, hrecv, fun U hU hW => ⟨rfl, by rw [hU]; exact hP, va_K.moved hW.alike hK, by rw [hU]; exact st_B.warm hW hT⟩⟩
theorem pre_RS {As : List Value} {B : Nat} (hP : va_P D cl ws H) (hK : va_K D cl tys s) (hT : st_B B s H) : PreS s H (q_Rd D cl As ws tys B) As :=
  ⟨q_Rd.blind, fun U hU hW => ⟨rfl, by rw [hU]; exact hP, va_K.moved hW.alike hK, by rw [hU]; exact st_B.warm hW hT⟩⟩
/-- a writer's start and end: its cells at the same places, with other contents -/
def q_Mp (D : va_G) (cl : List vw_C) (av : List Value) (ws : va_W) (tys : List (ClassId × FieldType)) (B sz : Nat) : Array Value → State → Prop := fun v U => v = av.toArray ∧ U.heap.size = sz ∧ B ≤ sz ∧ va_P D cl ws U.heap ∧ va_K D cl tys U ∧ va_D (fun q => B ≤ q) ws ∧ st_B B U U.heap
def q_Mq (D : va_G) (cl : List vw_C) (ws' : va_W) (A : Nat → Prop) (r : Option Value) : Array Value → State → Outcome → State → Prop := fun _ st o t => o = .returned r ∧ va_P D cl ws' t.heap ∧ va_F A st t
theorem q_Mp.blind {av : List Value} {B sz : Nat} : FrameBlind (q_Mp D cl av ws tys B sz) := fun a U g mk h => ⟨h.1, h.2.1, h.2.2.1, h.2.2.2.1, va_K.moved (u := U) (U := U.calling g mk a) (Vm.Alike.refl U.vm) h.2.2.2.2.1, h.2.2.2.2.2.1, st_B.same (u := U) (U := U.calling g mk a) rfl h.2.2.2.2.2.2⟩
theorem pre_MV {b : Addr} {As : List Value} {B : Nat} {C : String} (hrecv : ∃ cellB : Cell, H[b]? = some cellB ∧ cellB.vm.isStatics = false ∧ s.vm.findClass C = some cellB.cls) (hB : B ≤ H.size) (hP : va_P D cl ws H) (hK : va_K D cl tys s) (hD : va_D (fun q => B ≤ q) ws) (hT : st_B B s H) : PreV s H C b (q_Mp D cl (.ref b :: As) ws tys B H.size) As :=
  ⟨q_Mp.blind, hrecv, fun U hU hW => ⟨rfl, by rw [hU], hB, by rw [hU]; exact hP, va_K.moved hW.alike hK, hD, by rw [hU]; exact st_B.warm hW hT⟩⟩
theorem pre_MS {As : List Value} {B : Nat} (hB : B ≤ H.size) (hP : va_P D cl ws H) (hK : va_K D cl tys s) (hD : va_D (fun q => B ≤ q) ws) (hT : st_B B s H) : PreS s H (q_Mp D cl As ws tys B H.size) As :=
  ⟨q_Mp.blind, fun U hU hW => ⟨rfl, by rw [hU], hB, by rw [hU]; exact hP, va_K.moved hW.alike hK, hD, by rw [hU]; exact st_B.warm hW hT⟩⟩
/-- behind a reader's call -/
theorem go_R {b : Array Value} {r : Int32} (hr : va_Run p l e R s m args below meth c H locs cells slots 0 0 (F0 m pc ls st0) rest (QcRead r b) (fun _ => False)) (kk : W p l e R s m args below meth c H locs cells slots Q (F0 m (pc + 3) ls (.int r :: rest))) : W p l e R s m args below meth c H locs cells slots Q (F0 m pc ls st0) :=
  W.callR hr.run kk
theorem go_RV {b : Array Value} {v : Value} (hr : va_Run p l e R s m args below meth c H locs cells slots 0 0 (F0 m pc ls st0) rest (k2_QcV v b) (fun _ => False)) (kk : W p l e R s m args below meth c H locs cells slots Q (F0 m (pc + 3) ls (v :: rest))) : W p l e R s m args below meth c H locs cells slots Q (F0 m pc ls st0) := by
  intro T hT X
  obtain ⟨v', st₀, t, T', L, h0, X', hL, e1, -, ⟨hv, hh⟩, st⟩ := hr T hT X
  cases hv
  obtain ⟨t2, a1, b1⟩ := kk T' (by rw [e1, hh, h0]) (Stand.forget X' (fun q h => (hL q h).elim))
  exact ⟨t2, st t2 a1, b1⟩
/-- the caller's world behind a writer's work on the cells at the places isC -/
theorem put_P {H1 : Heap} {wc wc' w2 : va_W} (isC : List Nat) (hP : va_P D cl ws H) (hD : va_D A0 ws) (hC : isC.map (fun i => ws[i]?) = wc.map some) (hlen : isC.length ≤ wc'.length) (h2 : w_put ws isC wc' = w2) (hPt : va_P D cl wc' H1) (hk : ∀ q : Nat, q < H.size → ¬ va_A wc H.size q → H1[q]? = H[q]?) : va_P D cl w2 H1 := by
  have atC : ∀ (k : Nat) (q : Nat × va_E), wc[k]? = some q → ∃ i, isC[k]? = some i ∧ ws[i]? = some q := by
    intro k q hq
    have h1 : (isC.map (fun i => ws[i]?))[k]? = some (some q) := by rw [hC, List.getElem?_map, hq]; rfl
    rw [List.getElem?_map] at h1
    cases hi : isC[k]? with
    | none => rw [hi] at h1; cases h1
    | some i => rw [hi] at h1; exact ⟨i, rfl, Option.some.inj h1⟩
  intro k x hx
  rw [← h2] at hx
  rcases w_put_get isC wc' ws k x hx with ⟨j, hj⟩ | ⟨hki, hxw⟩ | hl
  · exact hPt j x hj
  · have hlt := (hP k x hxw).lt
    refine (hP k x hxw).kept ?_
    refine hk x.1 hlt (fun z => ?_)
    rcases z with ⟨k2, e2, h⟩ | h
    · obtain ⟨i, h3, h4⟩ := atC k2 (x.1, e2) h
      have hik := hD.1 k i x (x.1, e2) hxw h4 rfl
      subst hik
      exact hki (List.mem_of_getElem? h3)
    · omega
  · omega
theorem put_S {st t T' : State} {L : List Loc} {wc : va_W} (isC : List Nat) (hD : va_D A0 ws) (hS : va_S A0 H0 H locs) (hA : ∀ q, H0.size ≤ q → A0 q) (hC : isC.map (fun i => ws[i]?) = wc.map some) (h0 : st.heap = H) (e1 : T'.heap = t.heap) (hF : va_F (va_A wc H.size) st t) (hL : ∀ q ∈ L, va_A wc H.size q.base) : (∀ q : Nat, q < H.size → ¬ va_A wc H.size q → T'.heap[q]? = H[q]?) ∧ va_S A0 H0 T'.heap (locs ++ L) := by
  have hFc : ∀ q, va_A wc H.size q → A0 q := va_free hD hS hA isC hC
  obtain ⟨hz, hk⟩ := hF
  rw [h0] at hz hk
  refine ⟨fun q h1 h2 => by rw [e1]; exact hk q h1 h2, Nat.le_trans hS.1 (by rw [e1]; exact hz), fun q h1 h2 => by rw [e1, hk q (Nat.lt_of_lt_of_le h1 hS.1) (fun z => h2 (hFc q z))]; exact hS.2.1 q h1 h2, fun q hq => ?_⟩
  rcases List.mem_append.mp hq with h | h
  · exact hS.2.2 q h
  · exact hFc _ (hL q h)
/-- behind a writer's call -/
theorem go_M {mc ms : Nat} {b : Array Value} {wc wc' w2 : va_W} {r : Option Value} (isC : List Nat) (hr : va_Run p l e R s m args below meth c H locs cells slots mc ms (F0 m pc ls st0) rest (q_Mq D cl wc' (va_A wc H.size) r b) (va_A wc H.size))
    (hP : va_P D cl ws H) (hD : va_D A0 ws) (hS : va_S A0 H0 H locs) (hA : ∀ q, H0.size ≤ q → A0 q) (hC : isC.map (fun i => ws[i]?) = wc.map some) (hlen : isC.length ≤ wc'.length) (h2 : w_put ws isC wc' = w2) (hm : w2.map Prod.fst = ws.map Prod.fst)
    (kk : ∀ (H1 : Heap) (locs1 : List Loc), va_P D cl w2 H1 → va_D A0 w2 → va_S A0 H0 H1 locs1 → W p l e R s m args below meth c H1 locs1 (cells + mc) (slots + ms) Q (F0 m (pc + 3) ls (r.toList ++ rest))) : W p l e R s m args below meth c H locs cells slots Q (F0 m pc ls st0) := by
  intro T hT X
  obtain ⟨v', st₀, t, T', L, h0, X', hL, e1, -, ⟨hv, hPt, hF⟩, st⟩ := hr T hT X
  cases hv
  obtain ⟨hk, hS1⟩ := put_S isC hD hS hA hC h0 e1 hF hL
  obtain ⟨t2, a1, b1⟩ := kk T'.heap (locs ++ L) (put_P isC hP hD hC hlen h2 (by rw [e1]; exact hPt) hk) (hD.of_map hm) hS1 T' rfl X'
  exact ⟨t2, st t2 a1, b1⟩
/-- arrays at a Nat place -/
theorem x_iald (hexec : p.tables.exec = Jvm.exec) (hb : c.code = cc) (hK : va_K D cl tys s) (hP : va_P D cl ws H) (q0 t0 : Nat) {cA : ClassId} {n : Nat} {f : Nat → Int32} (ha : ws[q0]? = some (a, .inl (cA, n, .inl f))) (ht : tys[t0]? = some (cA, .int)) {k : Nat} (hk : k < n) (hn : n < 2 ^ 31) (hdg : decode cc pc = .ok (.iaload, 1))
    (kk : W p l e R s m args below meth c H locs cells slots Q (F0 m (pc + 1) ls (.int (f k) :: rest))) : W p l e R s m args below meth c H locs cells slots Q (F0 m pc ls (.int (nI k) :: .ref a :: rest)) :=
  va_iald hexec hb hK hP q0 t0 ha ht (vp_in_nI hk hn) hdg (by rw [nI_clamp (Nat.lt_trans hk hn)]; exact kk)
theorem x_cald (hexec : p.tables.exec = Jvm.exec) (hb : c.code = cc) (hK : va_K D cl tys s) (hP : va_P D cl ws H) (q0 t0 : Nat) {cA : ClassId} {n : Nat} {f : Nat → Int32} (ha : ws[q0]? = some (a, .inl (cA, n, .inl f))) (ht : tys[t0]? = some (cA, .char)) {k : Nat} (hk : k < n) (hn : n < 2 ^ 31) (hdg : decode cc pc = .ok (.caload, 1))
    (kk : W p l e R s m args below meth c H locs cells slots Q (F0 m (pc + 1) ls (.int (f k) :: rest))) : W p l e R s m args below meth c H locs cells slots Q (F0 m pc ls (.int (nI k) :: .ref a :: rest)) :=
  va_cald hexec hb hK hP q0 t0 ha ht (vp_in_nI hk hn) hdg (by rw [nI_clamp (Nat.lt_trans hk hn)]; exact kk)
theorem x_iast (hexec : p.tables.exec = Jvm.exec) (hb : c.code = cc) (hK : va_K D cl tys s) (hP : va_P D cl ws H) (hD : va_D A ws) (hS : va_S A H0 H locs) (q0 t0 : Nat) {cA : ClassId} {n : Nat} {f : Nat → Int32} (ha : ws[q0]? = some (a, .inl (cA, n, .inl f))) (ht : tys[t0]? = some (cA, .int)) {k : Nat} {x : Int32} (hk : k < n) (hn : n < 2 ^ 31) (hdg : decode cc pc = .ok (.iastore, 1))
    (kk : ∀ (H1 : Heap) (locs1 : List Loc), va_P D cl (ws.set q0 (a, .inl (cA, n, .inl (upd f k x)))) H1 → va_D A (ws.set q0 (a, .inl (cA, n, .inl (upd f k x)))) → va_S A H0 H1 locs1 → W p l e R s m args below meth c H1 locs1 cells slots Q (F0 m (pc + 1) ls rest)) : W p l e R s m args below meth c H locs cells slots Q (F0 m pc ls (.int x :: .int (nI k) :: .ref a :: rest)) :=
  va_iast hexec hb hK hP hD hS q0 t0 ha ht (vp_in_nI hk hn) hdg (by rw [nI_clamp (Nat.lt_trans hk hn)]; exact kk)
theorem x_cast (hexec : p.tables.exec = Jvm.exec) (hb : c.code = cc) (hK : va_K D cl tys s) (hP : va_P D cl ws H) (hD : va_D A ws) (hS : va_S A H0 H locs) (q0 t0 : Nat) {cA : ClassId} {n : Nat} {f : Nat → Int32} (ha : ws[q0]? = some (a, .inl (cA, n, .inl f))) (ht : tys[t0]? = some (cA, .char)) {k : Nat} {x v : Int32} (hv : vp_nar .char x = v) (hk : k < n) (hn : n < 2 ^ 31) (hdg : decode cc pc = .ok (.castore, 1))
    (kk : ∀ (H1 : Heap) (locs1 : List Loc), va_P D cl (ws.set q0 (a, .inl (cA, n, .inl (upd f k v)))) H1 → va_D A (ws.set q0 (a, .inl (cA, n, .inl (upd f k v)))) → va_S A H0 H1 locs1 → W p l e R s m args below meth c H1 locs1 cells slots Q (F0 m (pc + 1) ls rest)) : W p l e R s m args below meth c H locs cells slots Q (F0 m pc ls (.int x :: .int (nI k) :: .ref a :: rest)) := by
  subst hv
  exact va_cast hexec hb hK hP hD hS q0 t0 ha ht (vp_in_nI hk hn) hdg (by rw [nI_clamp (Nat.lt_trans hk hn)]; exact kk)
/-- the same contents up to the length are the same array -/
theorem va_P.congrA {q0 : Nat} {cA : ClassId} {n : Nat} {f g : Nat → Int32} (hP : va_P D cl ws H) (ha : ws[q0]? = some (a, .inl (cA, n, .inl f))) (hfg : ∀ j, j < n → f j = g j) : va_P D cl (ws.set q0 (a, .inl (cA, n, .inl g))) H := by
  intro k x hx
  by_cases hk : q0 = k
  · subst hk
    have hlt : q0 < ws.length := (List.getElem?_eq_some_iff.mp ha).1
    rw [List.getElem?_set, if_pos rfl, if_pos hlt] at hx
    cases Option.some.inj hx
    have h1 : H[a]? = some (vp_cell cA (n, .inl f)) := hP q0 _ ha
    show H[a]? = some (vp_cell cA (n, .inl g))
    rw [h1, vp_cell_i, vp_cell_i]
    refine congrArg some ?_
    unfold arrV
    refine congrArg (fun z => ({ cls := cA, slots := z, vm := .none } : Cell)) ?_
    refine congrArg Array.ofFn ?_
    funext j
    show Value.int (f j.val) = Value.int (g j.val)
    rw [hfg j.val j.isLt]
  · rw [List.getElem?_set, if_neg hk] at hx
    exact hP k x hx
end CO
end
section
/-! MORE ROWS, AND BOUNDS -/
theorem rd_end {r v : Int32} {a : Array Value} {st t : State} (h : r = v) (ht : t.heap = st.heap) : QcRead r a st (.returned (some (.int v))) t := ⟨by rw [h], ht⟩
section CP
variable {p : Program} {l : Launch} {e : Env} {R : Room} {s : State} {m : MethodId} {args : Array Value} {below : List Frame} {meth : Method} {c : Code} {H : Heap} {locs : List Loc} {cells slots : Nat} {Q : State → Prop}
variable {cc : ByteArray} {pc : Nat} {ls : Array Slot} {rest : List Value} {A : Nat → Prop}
theorem top_eq {x y : Int32} (h : x = y) (k : W p l e R s m args below meth c H locs cells slots Q (F0 m pc ls (.int y :: rest))) : W p l e R s m args below meth c H locs cells slots Q (F0 m pc ls (.int x :: rest)) := by
  rw [h]
  exact k
theorem loop_R {σ : Type} {head : Nat} (Inv : Nat → σ → Array Slot → Prop) (step : ∀ (n : Nat) (x : σ) (ls : Array Slot), (∀ (x' : σ) (ls' : Array Slot), Inv n x' ls' → W p l e R s m args below meth c H locs cells slots Q (F0 m head ls' [])) → Inv (n + 1) x ls → W p l e R s m args below meth c H locs cells slots Q (F0 m head ls [])) (zero : ∀ (x : σ) (ls : Array Slot), Inv 0 x ls → False) {n : Nat} {x : σ} {ls : Array Slot} (h : Inv n x ls) : W p l e R s m args below meth c H locs cells slots Q (F0 m head ls []) := by
  induction n generalizing x ls with
  | zero => exact (zero x ls h).elim
  | succ n ih => exact step n x ls (fun x' ls' h' => ih h') h
theorem loop_M {σ : Type} {head : Nat} (Inv : Nat → σ → Heap → List Loc → Array Slot → Prop) (step : ∀ (n : Nat) (x : σ) (H : Heap) (locs : List Loc) (ls : Array Slot), (∀ (x' : σ) (H' : Heap) (locs' : List Loc) (ls' : Array Slot), Inv n x' H' locs' ls' → W p l e R s m args below meth c H' locs' cells slots Q (F0 m head ls' [])) → Inv (n + 1) x H locs ls → W p l e R s m args below meth c H locs cells slots Q (F0 m head ls [])) (zero : ∀ (x : σ) (H : Heap) (locs : List Loc) (ls : Array Slot), Inv 0 x H locs ls → False) {n : Nat} {x : σ} {H : Heap} {locs : List Loc} {ls : Array Slot} (h : Inv n x H locs ls) : W p l e R s m args below meth c H locs cells slots Q (F0 m head ls []) := by
  induction n generalizing x H locs ls with
  | zero => exact (zero x H locs ls h).elim
  | succ n ih => exact step n x H locs ls (fun x' H' locs' ls' h' => ih h') h
theorem x_ti {t N : Nat} {f : Nat → Value} (hexec : p.tables.exec = Jvm.exec) (hb : c.code = cc) (hT : va_T .int t N f A s s.heap) (hS : va_S A s.heap H locs) {k : Nat} (hk : k < N) (hN : N < 2 ^ 31) {v : Value} (hv : f k = v) (hdg : decode cc pc = .ok (.iaload, 1)) (kk : W p l e R s m args below meth c H locs cells slots Q (F0 m (pc + 1) ls (v :: rest))) : W p l e R s m args below meth c H locs cells slots Q (F0 m pc ls (.int (nI k) :: .ref t :: rest)) :=
  va_ti hexec hb hT hS (vp_in_nI hk hN) (by rw [nI_clamp (Nat.lt_trans hk hN)]; exact hv) hdg kk
theorem x_tc {t N : Nat} {f : Nat → Value} (hexec : p.tables.exec = Jvm.exec) (hb : c.code = cc) (hT : va_T .char t N f A s s.heap) (hS : va_S A s.heap H locs) {k : Nat} (hk : k < N) (hN : N < 2 ^ 31) {v : Value} (hv : f k = v) (hdg : decode cc pc = .ok (.caload, 1)) (kk : W p l e R s m args below meth c H locs cells slots Q (F0 m (pc + 1) ls (v :: rest))) : W p l e R s m args below meth c H locs cells slots Q (F0 m pc ls (.int (nI k) :: .ref t :: rest)) :=
  va_tc hexec hb hT hS (vp_in_nI hk hN) (by rw [nI_clamp (Nat.lt_trans hk hN)]; exact hv) hdg kk
end CP
theorem lt_nle {x y : Int32} (h : x < y) : ¬ y ≤ x := fun z => by
  rw [Int32.lt_iff_toInt_lt] at h
  rw [Int32.le_iff_toInt_le] at z
  omega
theorem nle_lt {x y : Int32} (h : ¬ y ≤ x) : x < y := by
  rw [Int32.lt_iff_toInt_lt]
  rw [Int32.le_iff_toInt_le] at h
  omega
theorem nat_of {i : Int32} {n : Nat} (hn : n < 2 ^ 31) (h1 : ¬ i < 0) (h2 : ¬ nI n ≤ i) : ∃ j, j < n ∧ i = nI j := by
  rcases pk_ix i hn with q | q | q
  · exact absurd q h1
  · exact absurd q h2
  · exact q
theorem ix_in {i : Int32} {sz n : Nat} (h1 : ¬ i < 0) (h2 : ¬ nI sz ≤ i) (h : sz ≤ n) (hn : n < 2 ^ 31) : vp_in i n := by
  obtain ⟨j, hj, rfl⟩ := nat_of (by omega) h1 h2
  exact vp_in_nI (by omega) hn
theorem lin4 (a b : Nat) : nI a * 4 + nI b = nI (a * 4 + b) := by
  rw [← nI_add, ← pk_mul]
  rfl
theorem ix_num {i w : Int32} {sz : Nat} (h1 : ¬ i < 0) (h2 : ¬ nI sz ≤ i) (h3 : ¬ w < 0) (h4 : w < 4) (hsz : sz ≤ 50) : vp_in (i * 4 + w) 200 := by
  obtain ⟨a, ha, rfl⟩ := nat_of (by omega) h1 h2
  obtain ⟨b, hb, rfl⟩ := nat_of (n := 4) (by decide) h3 (lt_nle h4)
  rw [lin4]
  exact vp_in_nI (by omega) (by decide)
theorem ix_set {w : Int32} {sz : Nat} (h1 : 0 < sz) (h3 : ¬ w < 0) (h4 : ¬ 4 ≤ w) (hsz : sz ≤ 50) : vp_in ((nI sz - 1) * 4 + w) 200 := by
  obtain ⟨b, hb, rfl⟩ := nat_of (n := 4) (by decide) h3 h4
  obtain ⟨a, rfl⟩ : ∃ a, sz = a + 1 := ⟨sz - 1, by omega⟩
  rw [nI_pred, lin4]
  exact vp_in_nI (by omega) (by decide)
theorem k_isKind_spec {k : Int32} (h : k_isKind k = true) : ¬ k < 0 ∧ ¬ nI 6 ≤ k := by
  unfold k_isKind at h
  split at h
  · cases h
  · rename_i h1
    split at h
    · cases h
    · rename_i h2
      exact ⟨h1, h2⟩
theorem k_isPoint_spec {k : Int32} (h : k_isPoint k = true) : ¬ k < 0 ∧ ¬ nI 16 ≤ k := by
  unfold k_isPoint at h
  split at h
  · cases h
  · rename_i h1
    split at h
    · cases h
    · rename_i h2
      exact ⟨h1, h2⟩
theorem kind_in {k : Int32} (h : k_isKind k = true) : vp_in k 6 := ix_in (k_isKind_spec h).1 (k_isKind_spec h).2 (Nat.le_refl 6) (by decide)
theorem pt_in {k : Int32} (h : k_isPoint k = true) : vp_in k 16 := ix_in (k_isPoint_spec h).1 (k_isPoint_spec h).2 (Nat.le_refl 16) (by decide)
theorem ix_tab {k w : Int32} (h : k_isKind k = true) (h3 : ¬ w < 0) (h4 : w < 4) : vp_in (k * 4 + w) 24 := by
  obtain ⟨a, ha, rfl⟩ := nat_of (n := 6) (by decide) (k_isKind_spec h).1 (k_isKind_spec h).2
  obtain ⟨b, hb, rfl⟩ := nat_of (n := 4) (by decide) h3 (lt_nle h4)
  rw [lin4]
  exact vp_in_nI (by omega) (by decide)
theorem k_tabN_le (j : Nat) : k_tabN j ≤ 4 := by
  unfold k_tabN
  match j with
  | 0 => decide
  | 1 => decide
  | 2 => decide
  | 3 => decide
  | 4 => decide
  | 5 => decide
  | j + 6 => simp
theorem k_nK_le (k : Int32) : k_nK k ≤ 4 := by
  unfold k_nK
  split
  · exact k_tabN_le _
  · decide
theorem k_isFull_lt {sz : Nat} (h : k_isFull sz = false) : sz < 50 := by
  unfold k_isFull at h
  split at h
  · assumption
  · cases h
theorem k_kindF_none : k_kindF (-1) 0 = -1 := by
  rw [k_kindF, if_pos (by decide), if_neg (by decide), k_kindF, if_pos (by decide), if_neg (by decide), k_kindF, if_pos (by decide), if_neg (by decide), k_kindF, if_pos (by decide), if_neg (by decide), k_kindF, if_pos (by decide), if_neg (by decide), k_kindF, if_pos (by decide), if_neg (by decide), k_kindF, if_neg (by decide)]
theorem k_kindF_lt {sg : Nat → Int32} {len pl : Nat} (h : ¬ k_kindF (k_sign sg len pl) 0 = -1) : pl < len := by
  by_cases hp : pl < len
  · exact hp
  · exact absurd (by rw [k_sign, if_neg hp]; exact k_kindF_none) h
theorem chr_small : ∀ j, j < 127 → vp_nar .char ((nI j).toUInt32 % 65536).toInt32 = nI j := by decide +kernel
theorem chr_keep {p : Int32} (h1 : ¬ p < 33) (h2 : ¬ 126 < p) : vp_nar .char (p.toUInt32 % 65536).toInt32 = p := by
  have h3 : ¬ p < 0 := fun z => h1 (by rw [Int32.lt_iff_toInt_lt] at z ⊢; exact Int.lt_trans z (by decide))
  have h4 : ¬ nI 127 ≤ p := fun z => h2 (by rw [Int32.le_iff_toInt_le] at z; rw [Int32.lt_iff_toInt_lt]; exact Int.lt_of_lt_of_le (by decide) z)
  obtain ⟨j, hj, rfl⟩ := nat_of (n := 127) (by decide) h3 h4
  exact chr_small j hj
theorem cpy_all {f g : Nat → Int32} {n j : Nat} {N : Int32} (hN : N.toNatClampNeg = n) (hj : j < n) : va_cpy f g (0 : Int32).toNatClampNeg (0 : Int32).toNatClampNeg N.toNatClampNeg j = f j := by
  rw [hN, show (0 : Int32).toNatClampNeg = 0 from rfl]
  unfold va_cpy
  rw [if_pos ⟨Nat.zero_le _, by omega⟩, show 0 + (j - 0) = j by omega]
theorem k_digit_lt {sg : Nat → Int32} {len pl : Nat} (h : ¬ k_digit sg len pl = -1) : pl < len := by
  by_cases hp : pl < len
  · exact hp
  · refine absurd ?_ h
    have e : k_sign sg len pl = -1 := by rw [k_sign, if_neg hp]
    rw [k_digit, e, if_pos (by decide)]
theorem k_readDigits_le (sg : Nat → Int32) (len pl : Nat) (h : pl ≤ len) : (k_readDigits sg len pl).2 ≤ len := by
  unfold k_readDigits
  split
  · exact h
  · rename_i h1
    have h1 := k_digit_lt h1
    split
    · show pl + 1 ≤ len
      omega
    · rename_i h2
      have h2 := k_digit_lt h2
      show pl + 1 + 1 ≤ len
      omega
theorem k_readSign_le (sg : Nat → Int32) (len : Nat) (want : Int32) (pl : Nat) (fn fp : Int32) (h : pl ≤ len) (hw : ¬ want = -1) : (k_readSign sg len want pl fn fp).2.1 ≤ len := by
  unfold k_readSign
  split
  · rename_i h1
    show pl + 1 ≤ len
    by_cases hp : pl < len
    · omega
    · rw [k_sign, if_neg hp] at h1
      exact absurd h1.symm hw
  · exact h
theorem k_begin_le (ks ns : Nat → Int32) (sz : Nat) (kind name : Int32) (h : sz ≤ 50) : (k_begin ks ns sz kind name).2.2 ≤ 50 := by
  unfold k_begin
  split
  · exact h
  · rename_i h1
    have h1 := k_isFull_lt (by simpa using h1)
    show sz + 1 ≤ 50
    omega
theorem k_readName_ok (sg : Nat → Int32) (len : Nat) (kind : Int32) (ks ns us : Nat → Int32) (sz pl : Nat) (fn fp : Int32) (h : sz ≤ 50) (hp : pl ≤ len) : (k_readName sg len kind ks ns us sz pl fn fp).2.2.2.2.1 ≤ 50 ∧ (k_readName sg len kind ks ns us sz pl fn fp).2.2.2.2.2.1 ≤ len := by
  have h1 := k_readDigits_le sg len pl hp
  unfold k_readName
  split
  · exact ⟨h, h1⟩
  · split
    · exact ⟨k_begin_le _ _ _ _ _ h, h1⟩
    · exact ⟨h, h1⟩
theorem k_readNumber_le (sg : Nat → Int32) (len : Nat) (kind w : Int32) (us : Nat → Int32) (sz pl : Nat) (fn fp : Int32) (hp : pl ≤ len) : (k_readNumber sg len kind w us sz pl fn fp).2.2.1 ≤ len := by
  have h1 := k_readDigits_le sg len pl hp
  unfold k_readNumber
  split
  · exact h1
  · split
    · exact h1
    · exact h1
theorem k_nums_le (sg : Nat → Int32) (len : Nat) (kind : Int32) (many sz : Nat) : ∀ (n w : Nat) (us : Nat → Int32) (pl : Nat) (fn fp : Int32), many - w = n → pl ≤ len → (k_nums sg len kind many w us sz pl fn fp).2.2.1 ≤ len := by
  intro n
  induction n with
  | zero =>
    intro w us pl fn fp hn hp
    rw [k_nums, if_neg (by omega)]
    exact hp
  | succ n ih =>
    intro w us pl fn fp hn hp
    rw [k_nums, if_pos (by omega)]
    have h1 := k_readNumber_le sg len kind (nI w) us sz pl fn fp hp
    rcases hF : k_readNumber sg len kind (nI w) us sz pl fn fp with ⟨b1, us1, pl1, fn1, fp1⟩
    rw [hF] at h1
    have h1 : pl1 ≤ len := h1
    cases b1 with
    | false => exact h1
    | true =>
      have h2 := k_readSign_le sg len (if w + 1 < many then 44 else 59) pl1 fn1 fp1 h1 (by split <;> decide)
      show (match k_readSign sg len (if w + 1 < many then 44 else 59) pl1 fn1 fp1 with
        | (true, pl2, fn2, fp2) => k_nums sg len kind many (w + 1) us1 sz pl2 fn2 fp2
        | (false, pl2, fn2, fp2) => (false, us1, pl2, fn2, fp2)).2.2.1 ≤ len
      rcases hG : k_readSign sg len (if w + 1 < many then 44 else 59) pl1 fn1 fp1 with ⟨b2, pl2, fn2, fp2⟩
      rw [hG] at h2
      have h2 : pl2 ≤ len := h2
      cases b2 with
      | false => exact h2
      | true => exact ih (w + 1) us1 pl2 fn2 fp2 (by omega) h2
theorem k_readRow_ok (sg : Nat → Int32) (len : Nat) (ks ns us : Nat → Int32) (sz pl : Nat) (fn fp : Int32) (h : sz ≤ 50) (hp : pl ≤ len) : (k_readRow sg len ks ns us sz pl fn fp).2.2.2.2.1 ≤ 50 ∧ (k_readRow sg len ks ns us sz pl fn fp).2.2.2.2.2.1 ≤ len := by
  unfold k_readRow
  split
  · exact ⟨h, hp⟩
  · rename_i h0
    have h0 := k_kindF_lt h0
    split
    · exact ⟨h, hp⟩
    · have h1 := k_readName_ok sg len (k_kindF (k_sign sg len pl) 0) ks ns us sz (pl + 1) fn fp h (by omega)
      rcases hF : k_readName sg len (k_kindF (k_sign sg len pl) 0) ks ns us sz (pl + 1) fn fp with ⟨b1, ks1, ns1, us1, sz1, pl1, fn1, fp1⟩
      rw [hF] at h1
      have h1 : sz1 ≤ 50 ∧ pl1 ≤ len := h1
      cases b1 with
      | false => exact h1
      | true =>
        have h2 := k_readSign_le sg len 61 pl1 fn1 fp1 h1.2 (by decide)
        show (match k_readSign sg len 61 pl1 fn1 fp1 with
          | (true, pl2, fn2, fp2) => k_rowEnd ks1 ns1 sz1 (k_nums sg len (k_kindF (k_sign sg len pl) 0) (k_nK (k_kindF (k_sign sg len pl) 0)) 0 us1 sz1 pl2 fn2 fp2)
          | (false, pl2, fn2, fp2) => (false, ks1, ns1, us1, sz1, pl2, fn2, fp2)).2.2.2.2.1 ≤ 50 ∧ (match k_readSign sg len 61 pl1 fn1 fp1 with
          | (true, pl2, fn2, fp2) => k_rowEnd ks1 ns1 sz1 (k_nums sg len (k_kindF (k_sign sg len pl) 0) (k_nK (k_kindF (k_sign sg len pl) 0)) 0 us1 sz1 pl2 fn2 fp2)
          | (false, pl2, fn2, fp2) => (false, ks1, ns1, us1, sz1, pl2, fn2, fp2)).2.2.2.2.2.1 ≤ len
        rcases hG : k_readSign sg len 61 pl1 fn1 fp1 with ⟨b2, pl2, fn2, fp2⟩
        rw [hG] at h2
        have h2 : pl2 ≤ len := h2
        cases b2 with
        | false => exact ⟨h1.1, h2⟩
        | true => exact ⟨h1.1, k_nums_le sg len _ _ sz1 _ 0 us1 pl2 fn2 fp2 rfl h2⟩
theorem k_addAll_ind (ks us : Nat → Int32) (sz : Nat) (dp : Nat → Int32) (reason : Nat) : ∀ (n k : Nat) (en : Nat → Int32) (bn : Nat), sz - k = n → bn ≤ 100 → (k_addAll ks us sz dp reason k en bn).2 ≤ 100 := by
  intro n
  induction n with
  | zero =>
    intro k en bn hn hb
    rw [k_addAll, if_neg (by omega)]
    exact hb
  | succ n ih =>
    intro k en bn hn hb
    rw [k_addAll, if_pos (by omega)]
    split
    · split
      · exact ih _ _ _ (by omega) (by omega)
      · exact ih _ _ _ (by omega) (by omega)
    · exact ih _ _ _ (by omega) (by omega)
theorem k_addAll_le (ks us : Nat → Int32) (sz : Nat) (dp : Nat → Int32) (reason k : Nat) (en : Nat → Int32) (bn : Nat) (h : bn ≤ 100) : (k_addAll ks us sz dp reason k en bn).2 ≤ 100 := k_addAll_ind ks us sz dp reason _ k en bn rfl h
theorem k_wSign_le (ot : Nat → Int32) (ol : Nat) (c : Int32) (h : ol ≤ 500) : (k_wSign ot ol c).2 ≤ 500 := by
  unfold k_wSign
  split
  · show ol + 1 ≤ 500
    omega
  · exact h
theorem k_wNum_le (ot : Nat → Int32) (ol : Nat) (x : Int32) (h : ol ≤ 500) : (k_wNum ot ol x).2 ≤ 500 := by
  unfold k_wNum
  split
  · exact k_wSign_le _ _ _ h
  · exact k_wSign_le _ _ _ (k_wSign_le _ _ _ h)
theorem k_wNums_ind (us : Nat → Int32) (sz : Nat) (i : Int32) (many : Nat) : ∀ (n w : Nat) (ot : Nat → Int32) (ol : Nat), many - w = n → ol ≤ 500 → (k_wNums us sz i many w ot ol).2 ≤ 500 := by
  intro n
  induction n with
  | zero =>
    intro w ot ol hn h
    rw [k_wNums, if_neg (by omega)]
    exact k_wSign_le _ _ _ h
  | succ n ih =>
    intro w ot ol hn h
    rw [k_wNums, if_pos (by omega)]
    exact ih _ _ _ (by omega) (k_wNum_le _ _ _ (k_wSign_le _ _ _ h))
theorem k_wRow_le (ks ns us : Nat → Int32) (sz : Nat) (i : Int32) (ot : Nat → Int32) (ol : Nat) (h : ol ≤ 500) : (k_wRow ks ns us sz i ot ol).2 ≤ 500 := by
  unfold k_wRow
  split
  · exact k_wNums_ind us sz i _ _ 0 _ _ rfl (k_wNum_le _ _ _ (k_wSign_le _ _ _ h))
  · exact h
theorem k_writeF_ind (ks ns us : Nat → Int32) (sz : Nat) : ∀ (n w : Nat) (rank : Int32) (ot : Nat → Int32) (ol : Nat), sz - w = n → ol ≤ 500 → (k_writeF ks ns us sz rank w ot ol).2 ≤ 500 := by
  intro n
  induction n with
  | zero =>
    intro w rank ot ol hn h
    rw [k_writeF, if_neg (by omega)]
    exact h
  | succ n ih =>
    intro w rank ot ol hn h
    rw [k_writeF, if_pos (by omega)]
    exact ih _ _ _ _ (by omega) (k_wRow_le _ _ _ _ _ _ _ h)
theorem k_write_le (ks ns us : Nat → Int32) (sz : Nat) (ot : Nat → Int32) (h : sz ≤ sz) : (k_write ks ns us sz ot).2 ≤ 500 := k_writeF_ind ks ns us sz _ 0 (-1) ot 0 rfl (by omega)
theorem sw3 (p : Int32) : p = 0 ∨ p = 1 ∨ p = 2 ∨ (¬ p = 0 ∧ ¬ p = 1 ∧ ¬ p = 2 ∧ (p.toInt < 0 ∨ 2 < p.toInt)) := by
  by_cases h0 : p = 0
  · exact Or.inl h0
  by_cases h1 : p = 1
  · exact Or.inr (Or.inl h1)
  by_cases h2 : p = 2
  · exact Or.inr (Or.inr (Or.inl h2))
  refine Or.inr (Or.inr (Or.inr ⟨h0, h1, h2, ?_⟩))
  have g0 : ¬ p.toInt = 0 := fun z => h0 (Int32.toInt_inj.mp (z.trans (by decide)))
  have g1 : ¬ p.toInt = 1 := fun z => h1 (Int32.toInt_inj.mp (z.trans (by decide)))
  have g2 : ¬ p.toInt = 2 := fun z => h2 (Int32.toInt_inj.mp (z.trans (by decide)))
  omega
theorem arr_one {α : Type} {o : Option α} {a b : α} (h1 : o = some a) (h2 : o = some b) : a = b := Option.some.inj (h1.symm.trans h2)
end
section
set_option maxHeartbeats 4000000 in
set_option maxRecDepth 100000 in
theorem kX5_isPoint (l : Launch) (dC : Nat → ClassId) (dI : Nat → Nat → Nat) (B : Nat) (cI cC cJ : ClassId) (p0 : Int32) : Met l yX5_isPoint wsX5_isPoint ({ frames := 0, cells := 0, slots := 0, locals := 0 }) (q_Rd (dC, dI) vwCl [.int p0] [] [(cI, .int), (cC, .char), (cJ, .long)] B) (QcRead (bI (k_isPoint p0))) 0 0 (fun _ => False) := by
  refine Met.ofW (cc := cX5_isPoint) (maxL := 1) (ret := (some .boolean)) (by decide) rfl ?_
  intro p e s m args below meth c s₁ Bd hml hv
  obtain ⟨rfl, hP, hK, hT⟩ := hv
  have hx := Bd.exec
  have hb := Bd.bytes
  have hr := Bd.returns
  have hts := atoms_spec (ws := wsX5_isPoint) Bd.pre
  have hg : ∀ w ∈ lw_good, w.before _ s = true := fun w h => hts w (List.mem_cons_of_mem _ h)
  have hown : s.vm.findClass RX5 = some m.cls := findClass_of_methodNamed Bd.named
  have hlocks := Bd.notSynchronized
  have hSB : va_S (fun q => B ≤ q) s.heap s.heap [] := va_S.rf
  have hP : va_P (dC, dI) vwCl [] s.heap := hP
  have hl := lv_entry ([.int p0]) (n := 1) (Nat.le_of_ble_eq_true rfl)
  rw [lg_entry_eq]
  generalize (lg_sl ([.int p0]) ++ List.replicate (1 - (lg_sl ([.int p0])).length) Slot.unset).toArray = ls at hl ⊢
  have hl : lv_has ls 1 [(0, .int p0)] := hl
  refine lv_iload_n hx hb dX5_isPoint_0 rfl (lv_at hl 0 rfl) ?_
  refine lv_if_lt (tgt := 14) hx hb dX5_isPoint_1 (by decide) (fun c_1 => ?_) (fun c_1 => ?_)
  · skip
    refine lv_iconst (v := 0) hx hb dX5_isPoint_14 (by decide) ?_
    exact W.zret (v := 0) (ty := .boolean) hx hb hr rfl (fun t ht hW => rd_end (bI_0 (by simp [k_isPoint, c_1])).symm ht) (fun q h => by cases h) dX5_isPoint_15
  · skip
    refine lv_iload_n hx hb dX5_isPoint_4 rfl (lv_at hl 0 rfl) ?_
    refine lv_bipush (v := 16) hx hb dX5_isPoint_5 (by decide) ?_
    refine lv_icmp_ge (tgt := 14) hx hb dX5_isPoint_7 (by decide) (fun c_2 => ?_) (fun c_2 => ?_)
    · skip
      refine lv_iconst (v := 0) hx hb dX5_isPoint_14 (by decide) ?_
      exact W.zret (v := 0) (ty := .boolean) hx hb hr rfl (fun t ht hW => rd_end (bI_0 (by simp [k_isPoint, c_1, c_2])).symm ht) (fun q h => by cases h) dX5_isPoint_15
    · skip
      refine lv_iconst (v := 1) hx hb dX5_isPoint_10 (by decide) ?_
      refine lv_goto (tgt := 15) hx hb dX5_isPoint_11 (by decide) ?_
      exact W.zret (v := 1) (ty := .boolean) hx hb hr rfl (fun t ht hW => rd_end (bI_1 (by simp [k_isPoint, c_1, c_2])).symm ht) (fun q h => by cases h) dX5_isPoint_15
set_option maxHeartbeats 4000000 in
set_option maxRecDepth 100000 in
theorem kX5_isKind (l : Launch) (dC : Nat → ClassId) (dI : Nat → Nat → Nat) (B : Nat) (cI cC cJ : ClassId) (p0 : Int32) : Met l yX5_isKind wsX5_isKind ({ frames := 0, cells := 0, slots := 0, locals := 0 }) (q_Rd (dC, dI) vwCl [.int p0] [] [(cI, .int), (cC, .char), (cJ, .long)] B) (QcRead (bI (k_isKind p0))) 0 0 (fun _ => False) := by
  refine Met.ofW (cc := cX5_isKind) (maxL := 1) (ret := (some .boolean)) (by decide) rfl ?_
  intro p e s m args below meth c s₁ Bd hml hv
  obtain ⟨rfl, hP, hK, hT⟩ := hv
  have hx := Bd.exec
  have hb := Bd.bytes
  have hr := Bd.returns
  have hts := atoms_spec (ws := wsX5_isKind) Bd.pre
  have hg : ∀ w ∈ lw_good, w.before _ s = true := fun w h => hts w (List.mem_cons_of_mem _ h)
  have hown : s.vm.findClass RX5 = some m.cls := findClass_of_methodNamed Bd.named
  have hlocks := Bd.notSynchronized
  have hSB : va_S (fun q => B ≤ q) s.heap s.heap [] := va_S.rf
  have hP : va_P (dC, dI) vwCl [] s.heap := hP
  have hl := lv_entry ([.int p0]) (n := 1) (Nat.le_of_ble_eq_true rfl)
  rw [lg_entry_eq]
  generalize (lg_sl ([.int p0]) ++ List.replicate (1 - (lg_sl ([.int p0])).length) Slot.unset).toArray = ls at hl ⊢
  have hl : lv_has ls 1 [(0, .int p0)] := hl
  refine lv_iload_n hx hb dX5_isKind_0 rfl (lv_at hl 0 rfl) ?_
  refine lv_if_lt (tgt := 14) hx hb dX5_isKind_1 (by decide) (fun c_1 => ?_) (fun c_1 => ?_)
  · skip
    refine lv_iconst (v := 0) hx hb dX5_isKind_14 (by decide) ?_
    exact W.zret (v := 0) (ty := .boolean) hx hb hr rfl (fun t ht hW => rd_end (bI_0 (by simp [k_isKind, c_1])).symm ht) (fun q h => by cases h) dX5_isKind_15
  · skip
    refine lv_iload_n hx hb dX5_isKind_4 rfl (lv_at hl 0 rfl) ?_
    refine lv_bipush (v := 6) hx hb dX5_isKind_5 (by decide) ?_
    refine lv_icmp_ge (tgt := 14) hx hb dX5_isKind_7 (by decide) (fun c_2 => ?_) (fun c_2 => ?_)
    · skip
      refine lv_iconst (v := 0) hx hb dX5_isKind_14 (by decide) ?_
      exact W.zret (v := 0) (ty := .boolean) hx hb hr rfl (fun t ht hW => rd_end (bI_0 (by simp [k_isKind, c_1, c_2])).symm ht) (fun q h => by cases h) dX5_isKind_15
    · skip
      refine lv_iconst (v := 1) hx hb dX5_isKind_10 (by decide) ?_
      refine lv_goto (tgt := 15) hx hb dX5_isKind_11 (by decide) ?_
      exact W.zret (v := 1) (ty := .boolean) hx hb hr rfl (fun t ht hW => rd_end (bI_1 (by simp [k_isKind, c_1, c_2])).symm ht) (fun q h => by cases h) dX5_isKind_15
set_option maxHeartbeats 4000000 in
set_option maxRecDepth 100000 in
theorem kX5_numbersOfKind (l : Launch) (dC : Nat → ClassId) (dI : Nat → Nat → Nat) (B : Nat) (cI cC cJ : ClassId) (p0 : Int32) : Met l yX5_numbersOfKind wsX5_numbersOfKind ({ frames := 1, cells := 0, slots := 0, locals := 20 }) (q_Rd (dC, dI) vwCl [.int p0] [] [(cI, .int), (cC, .char), (cJ, .long)] B) (QcRead (nI (k_nK p0))) 0 0 (fun _ => False) := by
  refine Met.ofW (cc := cX5_numbersOfKind) (maxL := 1) (ret := (some .int)) (by decide) rfl ?_
  intro p e s m args below meth c s₁ Bd hml hv
  obtain ⟨rfl, hP, hK, hT⟩ := hv
  have hx := Bd.exec
  have hb := Bd.bytes
  have hr := Bd.returns
  have hts := atoms_spec (ws := wsX5_numbersOfKind) Bd.pre
  have hg : ∀ w ∈ lw_good, w.before _ s = true := fun w h => hts w (List.mem_cons_of_mem _ h)
  have hown : s.vm.findClass RX5 = some m.cls := findClass_of_methodNamed Bd.named
  have hlocks := Bd.notSynchronized
  have hSB : va_S (fun q => B ≤ q) s.heap s.heap [] := va_S.rf
  have hP : va_P (dC, dI) vwCl [] s.heap := hP
  have hT9 := hT.1
  obtain ⟨tL, tN, tA, tZ, zL, aL, zN, aN, zA, aA, zZ, aZ⟩ := hT9
  have hl := lv_entry ([.int p0]) (n := 1) (Nat.le_of_ble_eq_true rfl)
  rw [lg_entry_eq]
  generalize (lg_sl ([.int p0]) ++ List.replicate (1 - (lg_sl ([.int p0])).length) Slot.unset).toArray = ls at hl ⊢
  have hl : lv_has ls 1 [(0, .int p0)] := hl
  refine lv_iload_n hx hb dX5_numbersOfKind_0 rfl (lv_at hl 0 rfl) ?_
  refine go_R (r := (bI (k_isKind p0))) (va_runS (As := [.int p0]) (rest := []) ⟨hx, hb, hml, hown, hg⟩ (kX5_isKind l dC dI B cI cC cJ p0) (va_cwS 1 hg (gi_S w_211 w_212 w_2 w_213) rfl rfl rfl (by decide +kernel) ⟨Nat.le_of_ble_eq_true rfl, Nat.le_of_ble_eq_true rfl⟩) (pre_RS (hP.sub [] rfl) hK hT) rfl rfl hl.1 rfl (lv_room (Nat.le_of_ble_eq_true rfl)) dX5_numbersOfKind_1 ⟨Nat.le_of_ble_eq_true rfl, Nat.le_of_ble_eq_true rfl⟩) ?_
  refine lv_if_eq (tgt := 15) hx hb dX5_numbersOfKind_4 (by decide) (fun c_1 => ?_) (fun c_1 => ?_)
  · skip
    have c_1 := bI_eq0 c_1
    refine lv_iconst (v := 0) hx hb dX5_numbersOfKind_15 (by decide) ?_
    exact W.iret (v := 0) hx hb hr (fun t ht hW => rd_end (by simp [k_nK, nI_0, c_1]) ht) (fun q h => by cases h) dX5_numbersOfKind_16
  · skip
    have c_1 := bI_ne0 c_1
    refine va_gets hx hb zN hSB hown (hg _ w_214) (fun _ h9 => h9) dX5_numbersOfKind_7 ?_
    refine lv_iload_n hx hb dX5_numbersOfKind_10 rfl (lv_at hl 0 rfl) ?_
    refine va_ti (i := p0) (v := .int (nI (k_tabN p0.toNatClampNeg))) hx hb aN hSB (kind_in c_1) rfl dX5_numbersOfKind_11 ?_
    refine lv_goto (tgt := 16) hx hb dX5_numbersOfKind_12 (by decide) ?_
    exact W.iret (v := (nI (k_tabN p0.toNatClampNeg))) hx hb hr (fun t ht hW => rd_end (by simp [k_nK, nI_0, c_1]) ht) (fun q h => by cases h) dX5_numbersOfKind_16
set_option maxHeartbeats 4000000 in
set_option maxRecDepth 100000 in
theorem kX1_size (l : Launch) (dC : Nat → ClassId) (dI : Nat → Nat → Nat) (B : Nat) (cI cC cJ : ClassId) (h : Nat) (hk : Nat) (hn : Nat) (hu : Nat) (ks : Nat → Int32) (ns : Nat → Int32) (us : Nat → Int32) (sz : Nat) (hsz : sz ≤ 50) : Met l yX1_size wsX1_size ({ frames := 0, cells := 0, slots := 0, locals := 0 }) (q_Rd (dC, dI) vwCl [.ref h] [(h, .inr (1, [.ref hk, .ref hn, .ref hu, .int (nI sz)])), (hk, .inl (cI, 50, .inl ks)), (hn, .inl (cI, 50, .inl ns)), (hu, .inl (cI, 200, .inl us))] [(cI, .int), (cC, .char), (cJ, .long)] B) (QcRead (nI sz)) 0 0 (fun _ => False) := by
  refine Met.ofW (cc := cX1_size) (maxL := 1) (ret := (some .int)) (by decide) rfl ?_
  intro p e s m args below meth c s₁ Bd hml hv
  obtain ⟨rfl, hP, hK, hT⟩ := hv
  have hx := Bd.exec
  have hb := Bd.bytes
  have hr := Bd.returns
  have hts := atoms_spec (ws := wsX1_size) Bd.pre
  have hg : ∀ w ∈ lw_good, w.before _ s = true := fun w h => hts w (List.mem_cons_of_mem _ h)
  have hown : s.vm.findClass RX1 = some m.cls := findClass_of_methodNamed Bd.named
  have hlocks := Bd.notSynchronized
  have hSB : va_S (fun q => B ≤ q) s.heap s.heap [] := va_S.rf
  have hP : va_P (dC, dI) vwCl [(h, .inr (1, [.ref hk, .ref hn, .ref hu, .int (nI sz)])), (hk, .inl (cI, 50, .inl ks)), (hn, .inl (cI, 50, .inl ns)), (hu, .inl (cI, 200, .inl us))] s.heap := hP
  have hl := lv_entry ([.ref h]) (n := 1) (Nat.le_of_ble_eq_true rfl)
  rw [lg_entry_eq]
  generalize (lg_sl ([.ref h]) ++ List.replicate (1 - (lg_sl ([.ref h])).length) Slot.unset).toArray = ls at hl ⊢
  have hl : lv_has ls 1 [(0, .ref h)] := hl
  refine lv_aload_n hx hb dX1_size_0 rfl (lv_at hl 0 rfl) ?_
  refine va_get (D := (dC, dI)) (ci := 1) (v := .int (nI sz)) (C := RX1) (T := TX1) (N := 4) hx hb hg in_X1 hown hK hP 0 rfl rfl 3 (by decide) (hg _ w_38) (fun _ h9 => h9) rfl dX1_size_1 ?_
  exact W.iret (v := (nI sz)) hx hb hr (fun t ht hW => rd_end rfl ht) (fun q h => by cases h) dX1_size_4
set_option maxHeartbeats 4000000 in
set_option maxRecDepth 100000 in
theorem kX1_isFull (l : Launch) (dC : Nat → ClassId) (dI : Nat → Nat → Nat) (B : Nat) (cI cC cJ : ClassId) (h : Nat) (hk : Nat) (hn : Nat) (hu : Nat) (ks : Nat → Int32) (ns : Nat → Int32) (us : Nat → Int32) (sz : Nat) (hsz : sz ≤ 50) : Met l yX1_isFull wsX1_isFull ({ frames := 0, cells := 0, slots := 0, locals := 0 }) (q_Rd (dC, dI) vwCl [.ref h] [(h, .inr (1, [.ref hk, .ref hn, .ref hu, .int (nI sz)])), (hk, .inl (cI, 50, .inl ks)), (hn, .inl (cI, 50, .inl ns)), (hu, .inl (cI, 200, .inl us))] [(cI, .int), (cC, .char), (cJ, .long)] B) (QcRead (bI (k_isFull sz))) 0 0 (fun _ => False) := by
  refine Met.ofW (cc := cX1_isFull) (maxL := 1) (ret := (some .boolean)) (by decide) rfl ?_
  intro p e s m args below meth c s₁ Bd hml hv
  obtain ⟨rfl, hP, hK, hT⟩ := hv
  have hx := Bd.exec
  have hb := Bd.bytes
  have hr := Bd.returns
  have hts := atoms_spec (ws := wsX1_isFull) Bd.pre
  have hg : ∀ w ∈ lw_good, w.before _ s = true := fun w h => hts w (List.mem_cons_of_mem _ h)
  have hown : s.vm.findClass RX1 = some m.cls := findClass_of_methodNamed Bd.named
  have hlocks := Bd.notSynchronized
  have hSB : va_S (fun q => B ≤ q) s.heap s.heap [] := va_S.rf
  have hP : va_P (dC, dI) vwCl [(h, .inr (1, [.ref hk, .ref hn, .ref hu, .int (nI sz)])), (hk, .inl (cI, 50, .inl ks)), (hn, .inl (cI, 50, .inl ns)), (hu, .inl (cI, 200, .inl us))] s.heap := hP
  have hl := lv_entry ([.ref h]) (n := 1) (Nat.le_of_ble_eq_true rfl)
  rw [lg_entry_eq]
  generalize (lg_sl ([.ref h]) ++ List.replicate (1 - (lg_sl ([.ref h])).length) Slot.unset).toArray = ls at hl ⊢
  have hl : lv_has ls 1 [(0, .ref h)] := hl
  refine lv_aload_n hx hb dX1_isFull_0 rfl (lv_at hl 0 rfl) ?_
  refine va_get (D := (dC, dI)) (ci := 1) (v := .int (nI sz)) (C := RX1) (T := TX1) (N := 4) hx hb hg in_X1 hown hK hP 0 rfl rfl 3 (by decide) (hg _ w_38) (fun _ h9 => h9) rfl dX1_isFull_1 ?_
  refine lv_bipush (v := 50) hx hb dX1_isFull_4 (by decide) ?_
  refine lv_icmp_lt (tgt := 13) hx hb dX1_isFull_6 (by decide) (fun c_1 => ?_) (fun c_1 => ?_)
  · skip
    have c_1 := na_lt (a := sz) (b := 50) c_1 (by omega) (by omega)
    refine lv_iconst (v := 0) hx hb dX1_isFull_13 (by decide) ?_
    exact W.zret (v := 0) (ty := .boolean) hx hb hr rfl (fun t ht hW => rd_end (bI_0 (by simp [k_isFull, c_1])).symm ht) (fun q h => by cases h) dX1_isFull_14
  · skip
    have c_1 := na_nlt (a := sz) (b := 50) c_1 (by omega) (by omega)
    refine lv_iconst (v := 1) hx hb dX1_isFull_9 (by decide) ?_
    refine lv_goto (tgt := 14) hx hb dX1_isFull_10 (by decide) ?_
    exact W.zret (v := 1) (ty := .boolean) hx hb hr rfl (fun t ht hW => rd_end (bI_1 (by simp [k_isFull, c_1])).symm ht) (fun q h => by cases h) dX1_isFull_14
set_option maxHeartbeats 4000000 in
set_option maxRecDepth 100000 in
theorem kX1_kindOf (l : Launch) (dC : Nat → ClassId) (dI : Nat → Nat → Nat) (B : Nat) (cI cC cJ : ClassId) (h : Nat) (hk : Nat) (hn : Nat) (hu : Nat) (ks : Nat → Int32) (ns : Nat → Int32) (us : Nat → Int32) (sz : Nat) (p0 : Int32) (hsz : sz ≤ 50) : Met l yX1_kindOf wsX1_kindOf ({ frames := 0, cells := 0, slots := 0, locals := 0 }) (q_Rd (dC, dI) vwCl [.ref h, .int p0] [(h, .inr (1, [.ref hk, .ref hn, .ref hu, .int (nI sz)])), (hk, .inl (cI, 50, .inl ks)), (hn, .inl (cI, 50, .inl ns)), (hu, .inl (cI, 200, .inl us))] [(cI, .int), (cC, .char), (cJ, .long)] B) (QcRead (k_get ks sz p0)) 0 0 (fun _ => False) := by
  refine Met.ofW (cc := cX1_kindOf) (maxL := 2) (ret := (some .int)) (by decide) rfl ?_
  intro p e s m args below meth c s₁ Bd hml hv
  obtain ⟨rfl, hP, hK, hT⟩ := hv
  have hx := Bd.exec
  have hb := Bd.bytes
  have hr := Bd.returns
  have hts := atoms_spec (ws := wsX1_kindOf) Bd.pre
  have hg : ∀ w ∈ lw_good, w.before _ s = true := fun w h => hts w (List.mem_cons_of_mem _ h)
  have hown : s.vm.findClass RX1 = some m.cls := findClass_of_methodNamed Bd.named
  have hlocks := Bd.notSynchronized
  have hSB : va_S (fun q => B ≤ q) s.heap s.heap [] := va_S.rf
  have hP : va_P (dC, dI) vwCl [(h, .inr (1, [.ref hk, .ref hn, .ref hu, .int (nI sz)])), (hk, .inl (cI, 50, .inl ks)), (hn, .inl (cI, 50, .inl ns)), (hu, .inl (cI, 200, .inl us))] s.heap := hP
  have hl := lv_entry ([.ref h, .int p0]) (n := 2) (Nat.le_of_ble_eq_true rfl)
  rw [lg_entry_eq]
  generalize (lg_sl ([.ref h, .int p0]) ++ List.replicate (2 - (lg_sl ([.ref h, .int p0])).length) Slot.unset).toArray = ls at hl ⊢
  have hl : lv_has ls 2 [(0, .ref h), (1, .int p0)] := hl
  refine lv_iload_n hx hb dX1_kindOf_0 rfl (lv_at hl 1 rfl) ?_
  refine lv_if_lt (tgt := 21) hx hb dX1_kindOf_1 (by decide) (fun c_1 => ?_) (fun c_1 => ?_)
  · skip
    refine lv_iconst (v := (-1)) hx hb dX1_kindOf_21 (by decide) ?_
    exact W.iret (v := (-1)) hx hb hr (fun t ht hW => rd_end (by simp [k_get, c_1]) ht) (fun q h => by cases h) dX1_kindOf_22
  · skip
    refine lv_iload_n hx hb dX1_kindOf_4 rfl (lv_at hl 1 rfl) ?_
    refine lv_aload_n hx hb dX1_kindOf_5 rfl (lv_at hl 0 rfl) ?_
    refine va_get (D := (dC, dI)) (ci := 1) (v := .int (nI sz)) (C := RX1) (T := TX1) (N := 4) hx hb hg in_X1 hown hK hP 0 rfl rfl 3 (by decide) (hg _ w_38) (fun _ h9 => h9) rfl dX1_kindOf_6 ?_
    refine lv_icmp_ge (tgt := 21) hx hb dX1_kindOf_9 (by decide) (fun c_2 => ?_) (fun c_2 => ?_)
    · skip
      refine lv_iconst (v := (-1)) hx hb dX1_kindOf_21 (by decide) ?_
      exact W.iret (v := (-1)) hx hb hr (fun t ht hW => rd_end (by simp [k_get, c_1, c_2]) ht) (fun q h => by cases h) dX1_kindOf_22
    · skip
      refine lv_aload_n hx hb dX1_kindOf_12 rfl (lv_at hl 0 rfl) ?_
      refine va_get (D := (dC, dI)) (ci := 1) (v := .ref hk) (C := RX1) (T := TX1) (N := 4) hx hb hg in_X1 hown hK hP 0 rfl rfl 0 (by decide) (hg _ w_35) (fun _ h9 => h9) rfl dX1_kindOf_13 ?_
      refine lv_iload_n hx hb dX1_kindOf_16 rfl (lv_at hl 1 rfl) ?_
      refine va_iald (i := p0) hx hb hK hP 1 0 rfl rfl (ix_in c_1 c_2 hsz (by decide)) dX1_kindOf_17 ?_
      refine lv_goto (tgt := 22) hx hb dX1_kindOf_18 (by decide) ?_
      exact W.iret (v := ks p0.toNatClampNeg) hx hb hr (fun t ht hW => rd_end (by simp [k_get, c_1, c_2]) ht) (fun q h => by cases h) dX1_kindOf_22
set_option maxHeartbeats 4000000 in
set_option maxRecDepth 100000 in
theorem kX1_nameOf (l : Launch) (dC : Nat → ClassId) (dI : Nat → Nat → Nat) (B : Nat) (cI cC cJ : ClassId) (h : Nat) (hk : Nat) (hn : Nat) (hu : Nat) (ks : Nat → Int32) (ns : Nat → Int32) (us : Nat → Int32) (sz : Nat) (p0 : Int32) (hsz : sz ≤ 50) : Met l yX1_nameOf wsX1_nameOf ({ frames := 0, cells := 0, slots := 0, locals := 0 }) (q_Rd (dC, dI) vwCl [.ref h, .int p0] [(h, .inr (1, [.ref hk, .ref hn, .ref hu, .int (nI sz)])), (hk, .inl (cI, 50, .inl ks)), (hn, .inl (cI, 50, .inl ns)), (hu, .inl (cI, 200, .inl us))] [(cI, .int), (cC, .char), (cJ, .long)] B) (QcRead (k_get ns sz p0)) 0 0 (fun _ => False) := by
  refine Met.ofW (cc := cX1_nameOf) (maxL := 2) (ret := (some .int)) (by decide) rfl ?_
  intro p e s m args below meth c s₁ Bd hml hv
  obtain ⟨rfl, hP, hK, hT⟩ := hv
  have hx := Bd.exec
  have hb := Bd.bytes
  have hr := Bd.returns
  have hts := atoms_spec (ws := wsX1_nameOf) Bd.pre
  have hg : ∀ w ∈ lw_good, w.before _ s = true := fun w h => hts w (List.mem_cons_of_mem _ h)
  have hown : s.vm.findClass RX1 = some m.cls := findClass_of_methodNamed Bd.named
  have hlocks := Bd.notSynchronized
  have hSB : va_S (fun q => B ≤ q) s.heap s.heap [] := va_S.rf
  have hP : va_P (dC, dI) vwCl [(h, .inr (1, [.ref hk, .ref hn, .ref hu, .int (nI sz)])), (hk, .inl (cI, 50, .inl ks)), (hn, .inl (cI, 50, .inl ns)), (hu, .inl (cI, 200, .inl us))] s.heap := hP
  have hl := lv_entry ([.ref h, .int p0]) (n := 2) (Nat.le_of_ble_eq_true rfl)
  rw [lg_entry_eq]
  generalize (lg_sl ([.ref h, .int p0]) ++ List.replicate (2 - (lg_sl ([.ref h, .int p0])).length) Slot.unset).toArray = ls at hl ⊢
  have hl : lv_has ls 2 [(0, .ref h), (1, .int p0)] := hl
  refine lv_iload_n hx hb dX1_nameOf_0 rfl (lv_at hl 1 rfl) ?_
  refine lv_if_lt (tgt := 21) hx hb dX1_nameOf_1 (by decide) (fun c_1 => ?_) (fun c_1 => ?_)
  · skip
    refine lv_iconst (v := (-1)) hx hb dX1_nameOf_21 (by decide) ?_
    exact W.iret (v := (-1)) hx hb hr (fun t ht hW => rd_end (by simp [k_get, c_1]) ht) (fun q h => by cases h) dX1_nameOf_22
  · skip
    refine lv_iload_n hx hb dX1_nameOf_4 rfl (lv_at hl 1 rfl) ?_
    refine lv_aload_n hx hb dX1_nameOf_5 rfl (lv_at hl 0 rfl) ?_
    refine va_get (D := (dC, dI)) (ci := 1) (v := .int (nI sz)) (C := RX1) (T := TX1) (N := 4) hx hb hg in_X1 hown hK hP 0 rfl rfl 3 (by decide) (hg _ w_38) (fun _ h9 => h9) rfl dX1_nameOf_6 ?_
    refine lv_icmp_ge (tgt := 21) hx hb dX1_nameOf_9 (by decide) (fun c_2 => ?_) (fun c_2 => ?_)
    · skip
      refine lv_iconst (v := (-1)) hx hb dX1_nameOf_21 (by decide) ?_
      exact W.iret (v := (-1)) hx hb hr (fun t ht hW => rd_end (by simp [k_get, c_1, c_2]) ht) (fun q h => by cases h) dX1_nameOf_22
    · skip
      refine lv_aload_n hx hb dX1_nameOf_12 rfl (lv_at hl 0 rfl) ?_
      refine va_get (D := (dC, dI)) (ci := 1) (v := .ref hn) (C := RX1) (T := TX1) (N := 4) hx hb hg in_X1 hown hK hP 0 rfl rfl 1 (by decide) (hg _ w_36) (fun _ h9 => h9) rfl dX1_nameOf_13 ?_
      refine lv_iload_n hx hb dX1_nameOf_16 rfl (lv_at hl 1 rfl) ?_
      refine va_iald (i := p0) hx hb hK hP 2 0 rfl rfl (ix_in c_1 c_2 hsz (by decide)) dX1_nameOf_17 ?_
      refine lv_goto (tgt := 22) hx hb dX1_nameOf_18 (by decide) ?_
      exact W.iret (v := ns p0.toNatClampNeg) hx hb hr (fun t ht hW => rd_end (by simp [k_get, c_1, c_2]) ht) (fun q h => by cases h) dX1_nameOf_22
set_option maxHeartbeats 4000000 in
set_option maxRecDepth 100000 in
theorem kX1_numberOf (l : Launch) (dC : Nat → ClassId) (dI : Nat → Nat → Nat) (B : Nat) (cI cC cJ : ClassId) (h : Nat) (hk : Nat) (hn : Nat) (hu : Nat) (ks : Nat → Int32) (ns : Nat → Int32) (us : Nat → Int32) (sz : Nat) (p0 : Int32) (p1 : Int32) (hsz : sz ≤ 50) : Met l yX1_numberOf wsX1_numberOf ({ frames := 0, cells := 0, slots := 0, locals := 0 }) (q_Rd (dC, dI) vwCl [.ref h, .int p0, .int p1] [(h, .inr (1, [.ref hk, .ref hn, .ref hu, .int (nI sz)])), (hk, .inl (cI, 50, .inl ks)), (hn, .inl (cI, 50, .inl ns)), (hu, .inl (cI, 200, .inl us))] [(cI, .int), (cC, .char), (cJ, .long)] B) (QcRead (k_num us sz p0 p1)) 0 0 (fun _ => False) := by
  refine Met.ofW (cc := cX1_numberOf) (maxL := 3) (ret := (some .int)) (by decide) rfl ?_
  intro p e s m args below meth c s₁ Bd hml hv
  obtain ⟨rfl, hP, hK, hT⟩ := hv
  have hx := Bd.exec
  have hb := Bd.bytes
  have hr := Bd.returns
  have hts := atoms_spec (ws := wsX1_numberOf) Bd.pre
  have hg : ∀ w ∈ lw_good, w.before _ s = true := fun w h => hts w (List.mem_cons_of_mem _ h)
  have hown : s.vm.findClass RX1 = some m.cls := findClass_of_methodNamed Bd.named
  have hlocks := Bd.notSynchronized
  have hSB : va_S (fun q => B ≤ q) s.heap s.heap [] := va_S.rf
  have hP : va_P (dC, dI) vwCl [(h, .inr (1, [.ref hk, .ref hn, .ref hu, .int (nI sz)])), (hk, .inl (cI, 50, .inl ks)), (hn, .inl (cI, 50, .inl ns)), (hu, .inl (cI, 200, .inl us))] s.heap := hP
  have hl := lv_entry ([.ref h, .int p0, .int p1]) (n := 3) (Nat.le_of_ble_eq_true rfl)
  rw [lg_entry_eq]
  generalize (lg_sl ([.ref h, .int p0, .int p1]) ++ List.replicate (3 - (lg_sl ([.ref h, .int p0, .int p1])).length) Slot.unset).toArray = ls at hl ⊢
  have hl : lv_has ls 3 [(0, .ref h), (1, .int p0), (2, .int p1)] := hl
  refine lv_iload_n hx hb dX1_numberOf_0 rfl (lv_at hl 1 rfl) ?_
  refine lv_if_lt (tgt := 21) hx hb dX1_numberOf_1 (by decide) (fun c_1 => ?_) (fun c_1 => ?_)
  · skip
    refine lv_iconst (v := (-1)) hx hb dX1_numberOf_21 (by decide) ?_
    exact W.iret (v := (-1)) hx hb hr (fun t ht hW => rd_end (by simp [k_num, c_1]) ht) (fun q h => by cases h) dX1_numberOf_22
  · skip
    refine lv_iload_n hx hb dX1_numberOf_4 rfl (lv_at hl 1 rfl) ?_
    refine lv_aload_n hx hb dX1_numberOf_5 rfl (lv_at hl 0 rfl) ?_
    refine va_get (D := (dC, dI)) (ci := 1) (v := .int (nI sz)) (C := RX1) (T := TX1) (N := 4) hx hb hg in_X1 hown hK hP 0 rfl rfl 3 (by decide) (hg _ w_38) (fun _ h9 => h9) rfl dX1_numberOf_6 ?_
    refine lv_icmp_ge (tgt := 21) hx hb dX1_numberOf_9 (by decide) (fun c_2 => ?_) (fun c_2 => ?_)
    · skip
      refine lv_iconst (v := (-1)) hx hb dX1_numberOf_21 (by decide) ?_
      exact W.iret (v := (-1)) hx hb hr (fun t ht hW => rd_end (by simp [k_num, c_1, c_2]) ht) (fun q h => by cases h) dX1_numberOf_22
    · skip
      refine lv_iload_n hx hb dX1_numberOf_12 rfl (lv_at hl 2 rfl) ?_
      refine lv_if_lt (tgt := 21) hx hb dX1_numberOf_13 (by decide) (fun c_3 => ?_) (fun c_3 => ?_)
      · skip
        refine lv_iconst (v := (-1)) hx hb dX1_numberOf_21 (by decide) ?_
        exact W.iret (v := (-1)) hx hb hr (fun t ht hW => rd_end (by simp [k_num, c_1, c_2, c_3]) ht) (fun q h => by cases h) dX1_numberOf_22
      · skip
        refine lv_iload_n hx hb dX1_numberOf_16 rfl (lv_at hl 2 rfl) ?_
        refine lv_iconst (v := 4) hx hb dX1_numberOf_17 (by decide) ?_
        refine lv_icmp_lt (tgt := 23) hx hb dX1_numberOf_18 (by decide) (fun c_4 => ?_) (fun c_4 => ?_)
        · skip
          refine lv_aload_n hx hb dX1_numberOf_23 rfl (lv_at hl 0 rfl) ?_
          refine va_get (D := (dC, dI)) (ci := 1) (v := .ref hu) (C := RX1) (T := TX1) (N := 4) hx hb hg in_X1 hown hK hP 0 rfl rfl 2 (by decide) (hg _ w_37) (fun _ h9 => h9) rfl dX1_numberOf_24 ?_
          refine lv_iload_n hx hb dX1_numberOf_27 rfl (lv_at hl 1 rfl) ?_
          refine lv_iconst (v := 4) hx hb dX1_numberOf_28 (by decide) ?_
          refine lv_imul hx hb dX1_numberOf_29 ?_
          refine lv_iload_n hx hb dX1_numberOf_30 rfl (lv_at hl 2 rfl) ?_
          refine lv_iadd hx hb dX1_numberOf_31 ?_
          refine va_iald (i := (p0 * 4) + p1) hx hb hK hP 3 0 rfl rfl (ix_num c_1 c_2 c_3 c_4 hsz) dX1_numberOf_32 ?_
          exact W.iret (v := us ((p0 * 4) + p1).toNatClampNeg) hx hb hr (fun t ht hW => rd_end (by simp [k_num, c_1, c_2, c_3, c_4]) ht) (fun q h => by cases h) dX1_numberOf_33
        · skip
          refine lv_iconst (v := (-1)) hx hb dX1_numberOf_21 (by decide) ?_
          exact W.iret (v := (-1)) hx hb hr (fun t ht hW => rd_end (by simp [k_num, c_1, c_2, c_3, c_4]) ht) (fun q h => by cases h) dX1_numberOf_22
set_option maxHeartbeats 4000000 in
set_option maxRecDepth 100000 in
theorem kX1_indexOf (l : Launch) (dC : Nat → ClassId) (dI : Nat → Nat → Nat) (B : Nat) (cI cC cJ : ClassId) (h : Nat) (hk : Nat) (hn : Nat) (hu : Nat) (ks : Nat → Int32) (ns : Nat → Int32) (us : Nat → Int32) (sz : Nat) (p0 : Int32) (p1 : Int32) (hsz : sz ≤ 50) : Met l yX1_indexOf wsX1_indexOf ({ frames := 0, cells := 0, slots := 0, locals := 0 }) (q_Rd (dC, dI) vwCl [.ref h, .int p0, .int p1] [(h, .inr (1, [.ref hk, .ref hn, .ref hu, .int (nI sz)])), (hk, .inl (cI, 50, .inl ks)), (hn, .inl (cI, 50, .inl ns)), (hu, .inl (cI, 200, .inl us))] [(cI, .int), (cC, .char), (cJ, .long)] B) (QcRead (k_indexOf ks ns p0 p1 sz 0)) 0 0 (fun _ => False) := by
  refine Met.ofW (cc := cX1_indexOf) (maxL := 4) (ret := (some .int)) (by decide) rfl ?_
  intro p e s m args below meth c s₁ Bd hml hv
  obtain ⟨rfl, hP, hK, hT⟩ := hv
  have hx := Bd.exec
  have hb := Bd.bytes
  have hr := Bd.returns
  have hts := atoms_spec (ws := wsX1_indexOf) Bd.pre
  have hg : ∀ w ∈ lw_good, w.before _ s = true := fun w h => hts w (List.mem_cons_of_mem _ h)
  have hown : s.vm.findClass RX1 = some m.cls := findClass_of_methodNamed Bd.named
  have hlocks := Bd.notSynchronized
  have hSB : va_S (fun q => B ≤ q) s.heap s.heap [] := va_S.rf
  have hP : va_P (dC, dI) vwCl [(h, .inr (1, [.ref hk, .ref hn, .ref hu, .int (nI sz)])), (hk, .inl (cI, 50, .inl ks)), (hn, .inl (cI, 50, .inl ns)), (hu, .inl (cI, 200, .inl us))] s.heap := hP
  have hl := lv_entry ([.ref h, .int p0, .int p1]) (n := 4) (Nat.le_of_ble_eq_true rfl)
  rw [lg_entry_eq]
  generalize (lg_sl ([.ref h, .int p0, .int p1]) ++ List.replicate (4 - (lg_sl ([.ref h, .int p0, .int p1])).length) Slot.unset).toArray = ls at hl ⊢
  have hl : lv_has ls 4 [(0, .ref h), (1, .int p0), (2, .int p1)] := hl
  refine lv_iconst (v := 0) hx hb dX1_indexOf_0 (by decide) ?_
  refine lv_istore_n (lv' := [(3, .int 0), (0, .ref h), (1, .int p0), (2, .int p1)]) hx hb dX1_indexOf_1 rfl hl (by decide) rfl (fun ls hl => ?_)
  refine loop_R (σ := Nat) (fun n x ls => sz - x < n ∧ x ≤ sz ∧ k_indexOf ks ns p0 p1 sz 0 = k_indexOf ks ns p0 p1 sz x ∧ lv_has ls 4 [(0, .ref h), (1, .int p0), (2, .int p1), (3, .int (nI x))]) (fun n x ls ih_1 hI => ?_) (fun x ls hI => ?_) (n := (sz - 0) + 1) (x := 0) ⟨(Nat.lt_succ_self _), (by (try dsimp only); omega), rfl, lv_sub hl [1, 2, 3, 0] rfl⟩
  · skip
    obtain ⟨k, rfl⟩ : ∃ z, z = x := ⟨x, rfl⟩
    obtain ⟨hfu, hk0, he, hl⟩ := hI
    have hfu : sz - k < n + 1 := hfu
    have hk0 : k ≤ sz := hk0
    have he : k_indexOf ks ns p0 p1 sz 0 = k_indexOf ks ns p0 p1 sz k := he
    have hl : lv_has ls 4 [(0, .ref h), (1, .int p0), (2, .int p1), (3, .int (nI k))] := hl
    refine lv_iload_n hx hb dX1_indexOf_2 rfl (lv_at hl 3 rfl) ?_
    refine lv_aload_n hx hb dX1_indexOf_3 rfl (lv_at hl 0 rfl) ?_
    refine va_get (D := (dC, dI)) (ci := 1) (v := .int (nI sz)) (C := RX1) (T := TX1) (N := 4) hx hb hg in_X1 hown hK hP 0 rfl rfl 3 (by decide) (hg _ w_38) (fun _ h9 => h9) rfl dX1_indexOf_4 ?_
    refine lv_icmp_ge (tgt := 38) hx hb dX1_indexOf_7 (by decide) (fun c_2 => ?_) (fun c_2 => ?_)
    · skip
      have c_2 := na_le (a := sz) (b := k) c_2 (by omega) (by omega)
      refine lv_iconst (v := (-1)) hx hb dX1_indexOf_38 (by decide) ?_
      exact W.iret (v := (-1)) hx hb hr (fun t ht hW => rd_end (by rw [he]; rw [k_indexOf]; simp [c_2]) ht) (fun q h => by cases h) dX1_indexOf_39
    · skip
      have c_2 := na_nle (a := sz) (b := k) c_2 (by omega) (by omega)
      refine lv_aload_n hx hb dX1_indexOf_10 rfl (lv_at hl 0 rfl) ?_
      refine va_get (D := (dC, dI)) (ci := 1) (v := .ref hk) (C := RX1) (T := TX1) (N := 4) hx hb hg in_X1 hown hK hP 0 rfl rfl 0 (by decide) (hg _ w_35) (fun _ h9 => h9) rfl dX1_indexOf_11 ?_
      refine lv_iload_n hx hb dX1_indexOf_14 rfl (lv_at hl 3 rfl) ?_
      refine x_iald (k := k) hx hb hK hP 1 0 rfl rfl (by omega) (by decide) dX1_indexOf_15 ?_
      refine lv_iload_n hx hb dX1_indexOf_16 rfl (lv_at hl 1 rfl) ?_
      refine lv_icmp_ne (tgt := 32) hx hb dX1_indexOf_17 (by decide) (fun c_3 => ?_) (fun c_3 => ?_)
      · skip
        refine lv_iinc (v := (nI (k + 1))) (lv' := [(3, .int (nI (k + 1))), (0, .ref h), (1, .int p0), (2, .int p1)]) hx hb dX1_indexOf_32 hl (k := 3) rfl (by rw [← nI_add]; rfl) (by decide) rfl (fun ls hl => ?_)
        refine lv_goto (tgt := 2) hx hb dX1_indexOf_35 (by decide) ?_
        exact ih_1 (k + 1) _ ⟨(by (try dsimp only); omega), (by (try dsimp only); omega), (by (try dsimp only); rw [he, k_indexOf]; simp [c_2, c_3]), lv_sub hl [1, 2, 3, 0] rfl⟩
      · skip
        refine lv_aload_n hx hb dX1_indexOf_20 rfl (lv_at hl 0 rfl) ?_
        refine va_get (D := (dC, dI)) (ci := 1) (v := .ref hn) (C := RX1) (T := TX1) (N := 4) hx hb hg in_X1 hown hK hP 0 rfl rfl 1 (by decide) (hg _ w_36) (fun _ h9 => h9) rfl dX1_indexOf_21 ?_
        refine lv_iload_n hx hb dX1_indexOf_24 rfl (lv_at hl 3 rfl) ?_
        refine x_iald (k := k) hx hb hK hP 2 0 rfl rfl (by omega) (by decide) dX1_indexOf_25 ?_
        refine lv_iload_n hx hb dX1_indexOf_26 rfl (lv_at hl 2 rfl) ?_
        refine lv_icmp_ne (tgt := 32) hx hb dX1_indexOf_27 (by decide) (fun c_4 => ?_) (fun c_4 => ?_)
        · skip
          refine lv_iinc (v := (nI (k + 1))) (lv' := [(3, .int (nI (k + 1))), (0, .ref h), (1, .int p0), (2, .int p1)]) hx hb dX1_indexOf_32 hl (k := 3) rfl (by rw [← nI_add]; rfl) (by decide) rfl (fun ls hl => ?_)
          refine lv_goto (tgt := 2) hx hb dX1_indexOf_35 (by decide) ?_
          exact ih_1 (k + 1) _ ⟨(by (try dsimp only); omega), (by (try dsimp only); omega), (by (try dsimp only); rw [he, k_indexOf]; simp [c_2, c_3, c_4]), lv_sub hl [1, 2, 3, 0] rfl⟩
        · skip
          refine lv_iload_n hx hb dX1_indexOf_30 rfl (lv_at hl 3 rfl) ?_
          exact W.iret (v := (nI k)) hx hb hr (fun t ht hW => rd_end (by rw [he]; rw [k_indexOf]; simp [c_2, c_3, c_4]) ht) (fun q h => by cases h) dX1_indexOf_31
  · exact absurd hI.1 (Nat.not_lt_zero _)
set_option maxHeartbeats 4000000 in
set_option maxRecDepth 100000 in
theorem kX1_sizeOfKind (l : Launch) (dC : Nat → ClassId) (dI : Nat → Nat → Nat) (B : Nat) (cI cC cJ : ClassId) (h : Nat) (hk : Nat) (hn : Nat) (hu : Nat) (ks : Nat → Int32) (ns : Nat → Int32) (us : Nat → Int32) (sz : Nat) (p0 : Int32) (hsz : sz ≤ 50) : Met l yX1_sizeOfKind wsX1_sizeOfKind ({ frames := 1, cells := 0, slots := 0, locals := 20 }) (q_Rd (dC, dI) vwCl [.ref h, .int p0] [(h, .inr (1, [.ref hk, .ref hn, .ref hu, .int (nI sz)])), (hk, .inl (cI, 50, .inl ks)), (hn, .inl (cI, 50, .inl ns)), (hu, .inl (cI, 200, .inl us))] [(cI, .int), (cC, .char), (cJ, .long)] B) (QcRead (k_sizeOfKind ks sz p0)) 0 0 (fun _ => False) := by
  refine Met.ofW (cc := cX1_sizeOfKind) (maxL := 4) (ret := (some .int)) (by decide) rfl ?_
  intro p e s m args below meth c s₁ Bd hml hv
  obtain ⟨rfl, hP, hK, hT⟩ := hv
  have hx := Bd.exec
  have hb := Bd.bytes
  have hr := Bd.returns
  have hts := atoms_spec (ws := wsX1_sizeOfKind) Bd.pre
  have hg : ∀ w ∈ lw_good, w.before _ s = true := fun w h => hts w (List.mem_cons_of_mem _ h)
  have hown : s.vm.findClass RX1 = some m.cls := findClass_of_methodNamed Bd.named
  have hlocks := Bd.notSynchronized
  have hSB : va_S (fun q => B ≤ q) s.heap s.heap [] := va_S.rf
  have hP : va_P (dC, dI) vwCl [(h, .inr (1, [.ref hk, .ref hn, .ref hu, .int (nI sz)])), (hk, .inl (cI, 50, .inl ks)), (hn, .inl (cI, 50, .inl ns)), (hu, .inl (cI, 200, .inl us))] s.heap := hP
  have hl := lv_entry ([.ref h, .int p0]) (n := 4) (Nat.le_of_ble_eq_true rfl)
  rw [lg_entry_eq]
  generalize (lg_sl ([.ref h, .int p0]) ++ List.replicate (4 - (lg_sl ([.ref h, .int p0])).length) Slot.unset).toArray = ls at hl ⊢
  have hl : lv_has ls 4 [(0, .ref h), (1, .int p0)] := hl
  refine lv_iload_n hx hb dX1_sizeOfKind_0 rfl (lv_at hl 1 rfl) ?_
  refine go_R (r := (bI (k_isKind p0))) (va_runSN (As := [.int p0]) (rest := []) ⟨hx, hb, hml, hown, hg⟩ (kX5_isKind l dC dI B cI cC cJ p0) ⟨va_cnB 1 hg (gi_N w_213) rfl rfl rfl (st_B.nM hT (q := ("HarbourText$Harbour", 29, yX5_isKind)) (List.mem_of_getElem? (i := 7) rfl)) (hg _ w_2) (by decide +kernel) ⟨Nat.le_of_ble_eq_true rfl, Nat.le_of_ble_eq_true rfl⟩, hg _ w_212, trivial⟩ (pre_RS (hP.sub [] rfl) hK hT) rfl rfl hl.1 rfl (lv_room (Nat.le_of_ble_eq_true rfl)) dX1_sizeOfKind_1 ⟨Nat.le_of_ble_eq_true rfl, Nat.le_of_ble_eq_true rfl⟩) ?_
  refine lv_if_ne (tgt := 9) hx hb dX1_sizeOfKind_4 (by decide) (fun c_1 => ?_) (fun c_1 => ?_)
  · skip
    have c_1 := bI_ne0 c_1
    refine lv_iconst (v := 0) hx hb dX1_sizeOfKind_9 (by decide) ?_
    refine lv_istore_n (lv' := [(2, .int 0), (0, .ref h), (1, .int p0)]) hx hb dX1_sizeOfKind_10 rfl hl (by decide) rfl (fun ls hl => ?_)
    refine lv_iconst (v := 0) hx hb dX1_sizeOfKind_11 (by decide) ?_
    refine lv_istore_n (lv' := [(3, .int 0), (2, .int 0), (0, .ref h), (1, .int p0)]) hx hb dX1_sizeOfKind_12 rfl hl (by decide) rfl (fun ls hl => ?_)
    refine loop_R (σ := Nat × Nat) (fun n x ls => sz - x.1 < n ∧ x.1 ≤ sz ∧ x.2 ≤ x.1 ∧ k_sizeOfKind ks sz p0 = nI (k_cnt ks p0 sz x.1 x.2) ∧ lv_has ls 4 [(0, .ref h), (1, .int p0), (2, .int (nI x.2)), (3, .int (nI x.1))]) (fun n x ls ih_2 hI => ?_) (fun x ls hI => ?_) (n := (sz - 0) + 1) (x := (0, 0)) ⟨(Nat.lt_succ_self _), (by (try dsimp only); omega), (by (try dsimp only); omega), (by simp [k_sizeOfKind, c_1]), lv_sub hl [2, 3, 1, 0] rfl⟩
    · skip
      obtain ⟨k, f⟩ := x
      obtain ⟨hfu, hk0, hf0, he, hl⟩ := hI
      have hfu : sz - k < n + 1 := hfu
      have hk0 : k ≤ sz := hk0
      have hf0 : f ≤ k := hf0
      have he : k_sizeOfKind ks sz p0 = nI (k_cnt ks p0 sz k f) := he
      have hl : lv_has ls 4 [(0, .ref h), (1, .int p0), (2, .int (nI f)), (3, .int (nI k))] := hl
      refine lv_iload_n hx hb dX1_sizeOfKind_13 rfl (lv_at hl 3 rfl) ?_
      refine lv_aload_n hx hb dX1_sizeOfKind_14 rfl (lv_at hl 0 rfl) ?_
      refine va_get (D := (dC, dI)) (ci := 1) (v := .int (nI sz)) (C := RX1) (T := TX1) (N := 4) hx hb hg in_X1 hown hK hP 0 rfl rfl 3 (by decide) (hg _ w_38) (fun _ h9 => h9) rfl dX1_sizeOfKind_15 ?_
      refine lv_icmp_ge (tgt := 40) hx hb dX1_sizeOfKind_18 (by decide) (fun c_3 => ?_) (fun c_3 => ?_)
      · skip
        have c_3 := na_le (a := sz) (b := k) c_3 (by omega) (by omega)
        refine lv_iload_n hx hb dX1_sizeOfKind_40 rfl (lv_at hl 2 rfl) ?_
        exact W.iret (v := (nI f)) hx hb hr (fun t ht hW => rd_end (by (try dsimp only); rw [he, k_cnt]; simp [c_3]) ht) (fun q h => by cases h) dX1_sizeOfKind_41
      · skip
        have c_3 := na_nle (a := sz) (b := k) c_3 (by omega) (by omega)
        refine lv_aload_n hx hb dX1_sizeOfKind_21 rfl (lv_at hl 0 rfl) ?_
        refine va_get (D := (dC, dI)) (ci := 1) (v := .ref hk) (C := RX1) (T := TX1) (N := 4) hx hb hg in_X1 hown hK hP 0 rfl rfl 0 (by decide) (hg _ w_35) (fun _ h9 => h9) rfl dX1_sizeOfKind_22 ?_
        refine lv_iload_n hx hb dX1_sizeOfKind_25 rfl (lv_at hl 3 rfl) ?_
        refine x_iald (k := k) hx hb hK hP 1 0 rfl rfl (by omega) (by decide) dX1_sizeOfKind_26 ?_
        refine lv_iload_n hx hb dX1_sizeOfKind_27 rfl (lv_at hl 1 rfl) ?_
        refine lv_icmp_ne (tgt := 34) hx hb dX1_sizeOfKind_28 (by decide) (fun c_4 => ?_) (fun c_4 => ?_)
        · skip
          refine lv_iinc (v := (nI (k + 1))) (lv' := [(3, .int (nI (k + 1))), (0, .ref h), (1, .int p0), (2, .int (nI f))]) hx hb dX1_sizeOfKind_34 hl (k := 3) rfl (by rw [← nI_add]; rfl) (by decide) rfl (fun ls hl => ?_)
          refine lv_goto (tgt := 13) hx hb dX1_sizeOfKind_37 (by decide) ?_
          exact ih_2 (k + 1, f) _ ⟨(by (try dsimp only); omega), (by (try dsimp only); omega), (by (try dsimp only); omega), (by (try dsimp only); rw [he, k_cnt]; simp [c_3, c_4]), lv_sub hl [1, 2, 3, 0] rfl⟩
        · skip
          refine lv_iinc (v := (nI (f + 1))) (lv' := [(2, .int (nI (f + 1))), (0, .ref h), (1, .int p0), (3, .int (nI k))]) hx hb dX1_sizeOfKind_31 hl (k := 2) rfl (by rw [← nI_add]; rfl) (by decide) rfl (fun ls hl => ?_)
          refine lv_iinc (v := (nI (k + 1))) (lv' := [(3, .int (nI (k + 1))), (2, .int (nI (f + 1))), (0, .ref h), (1, .int p0)]) hx hb dX1_sizeOfKind_34 hl (k := 3) rfl (by rw [← nI_add]; rfl) (by decide) rfl (fun ls hl => ?_)
          refine lv_goto (tgt := 13) hx hb dX1_sizeOfKind_37 (by decide) ?_
          exact ih_2 (k + 1, f + 1) _ ⟨(by (try dsimp only); omega), (by (try dsimp only); omega), (by (try dsimp only); omega), (by (try dsimp only); rw [he, k_cnt]; simp [c_3, c_4]), lv_sub hl [2, 3, 1, 0] rfl⟩
    · exact absurd hI.1 (Nat.not_lt_zero _)
  · skip
    have c_1 := bI_eq0 c_1
    refine lv_iconst (v := (-1)) hx hb dX1_sizeOfKind_7 (by decide) ?_
    exact W.iret (v := (-1)) hx hb hr (fun t ht hW => rd_end (by simp [k_sizeOfKind, c_1]) ht) (fun q h => by cases h) dX1_sizeOfKind_8
set_option maxHeartbeats 4000000 in
set_option maxRecDepth 100000 in
theorem kX1_rankOf (l : Launch) (dC : Nat → ClassId) (dI : Nat → Nat → Nat) (B : Nat) (cI cC cJ : ClassId) (h : Nat) (hk : Nat) (hn : Nat) (hu : Nat) (ks : Nat → Int32) (ns : Nat → Int32) (us : Nat → Int32) (sz : Nat) (p0 : Int32) (hsz : sz ≤ 50) : Met l yX1_rankOf wsX1_rankOf ({ frames := 1, cells := 0, slots := 0, locals := 21 }) (q_Rd (dC, dI) vwCl [.ref h, .int p0] [(h, .inr (1, [.ref hk, .ref hn, .ref hu, .int (nI sz)])), (hk, .inl (cI, 50, .inl ks)), (hn, .inl (cI, 50, .inl ns)), (hu, .inl (cI, 200, .inl us))] [(cI, .int), (cC, .char), (cJ, .long)] B) (QcRead (k_rank ks ns sz p0)) 0 0 (fun _ => False) := by
  refine Met.ofW (cc := cX1_rankOf) (maxL := 2) (ret := (some .int)) (by decide) rfl ?_
  intro p e s m args below meth c s₁ Bd hml hv
  obtain ⟨rfl, hP, hK, hT⟩ := hv
  have hx := Bd.exec
  have hb := Bd.bytes
  have hr := Bd.returns
  have hts := atoms_spec (ws := wsX1_rankOf) Bd.pre
  have hg : ∀ w ∈ lw_good, w.before _ s = true := fun w h => hts w (List.mem_cons_of_mem _ h)
  have hown : s.vm.findClass RX1 = some m.cls := findClass_of_methodNamed Bd.named
  have hlocks := Bd.notSynchronized
  have hSB : va_S (fun q => B ≤ q) s.heap s.heap [] := va_S.rf
  have hP : va_P (dC, dI) vwCl [(h, .inr (1, [.ref hk, .ref hn, .ref hu, .int (nI sz)])), (hk, .inl (cI, 50, .inl ks)), (hn, .inl (cI, 50, .inl ns)), (hu, .inl (cI, 200, .inl us))] s.heap := hP
  have hl := lv_entry ([.ref h, .int p0]) (n := 2) (Nat.le_of_ble_eq_true rfl)
  rw [lg_entry_eq]
  generalize (lg_sl ([.ref h, .int p0]) ++ List.replicate (2 - (lg_sl ([.ref h, .int p0])).length) Slot.unset).toArray = ls at hl ⊢
  have hl : lv_has ls 2 [(0, .ref h), (1, .int p0)] := hl
  refine lv_aload_n hx hb dX1_rankOf_0 rfl (lv_at hl 0 rfl) ?_
  refine lv_iload_n hx hb dX1_rankOf_1 rfl (lv_at hl 1 rfl) ?_
  refine go_R (r := k_get ks sz p0) (va_runV (As := [.int p0]) (rest := []) ⟨hx, hb, hml, hown, hg⟩ (kX1_kindOf l dC dI B cI cC cJ h hk hn hu ks ns us sz p0 (by omega)) (cwV 1 hg (gi_V w_205 w_206 w_207 w_4 w_208) rfl rfl rfl (by decide +kernel) ⟨Nat.le_of_ble_eq_true rfl, Nat.le_of_ble_eq_true rfl⟩) (pre_RV (va_recv hK hP (ci := 1) (q0 := 0) rfl rfl) (hP.sub [0, 1, 2, 3] rfl) hK hT) rfl rfl hl.1 rfl (lv_room (Nat.le_of_ble_eq_true rfl)) dX1_rankOf_2 ⟨Nat.le_of_ble_eq_true rfl, Nat.le_of_ble_eq_true rfl⟩) ?_
  refine lv_bipush (v := 100) hx hb dX1_rankOf_5 (by decide) ?_
  refine lv_imul hx hb dX1_rankOf_7 ?_
  refine lv_aload_n hx hb dX1_rankOf_8 rfl (lv_at hl 0 rfl) ?_
  refine lv_iload_n hx hb dX1_rankOf_9 rfl (lv_at hl 1 rfl) ?_
  refine go_R (r := k_get ns sz p0) (va_runV (As := [.int p0]) (rest := [.int ((k_get ks sz p0) * 100)]) ⟨hx, hb, hml, hown, hg⟩ (kX1_nameOf l dC dI B cI cC cJ h hk hn hu ks ns us sz p0 (by omega)) (cwV 1 hg (gi_V w_411 w_412 w_413 w_4 w_414) rfl rfl rfl (by decide +kernel) ⟨Nat.le_of_ble_eq_true rfl, Nat.le_of_ble_eq_true rfl⟩) (pre_RV (va_recv hK hP (ci := 1) (q0 := 0) rfl rfl) (hP.sub [0, 1, 2, 3] rfl) hK hT) rfl rfl hl.1 rfl (lv_room (Nat.le_of_ble_eq_true rfl)) dX1_rankOf_10 ⟨Nat.le_of_ble_eq_true rfl, Nat.le_of_ble_eq_true rfl⟩) ?_
  refine lv_iadd hx hb dX1_rankOf_13 ?_
  exact W.iret (v := ((k_get ks sz p0) * 100) + (k_get ns sz p0)) hx hb hr (fun t ht hW => rd_end rfl ht) (fun q h => by cases h) dX1_rankOf_14
set_option maxHeartbeats 4000000 in
set_option maxRecDepth 100000 in
theorem kX1_nextBehind (l : Launch) (dC : Nat → ClassId) (dI : Nat → Nat → Nat) (B : Nat) (cI cC cJ : ClassId) (h : Nat) (hk : Nat) (hn : Nat) (hu : Nat) (ks : Nat → Int32) (ns : Nat → Int32) (us : Nat → Int32) (sz : Nat) (p0 : Int32) (hsz : sz ≤ 50) : Met l yX1_nextBehind wsX1_nextBehind ({ frames := 2, cells := 0, slots := 0, locals := 42 }) (q_Rd (dC, dI) vwCl [.ref h, .int p0] [(h, .inr (1, [.ref hk, .ref hn, .ref hu, .int (nI sz)])), (hk, .inl (cI, 50, .inl ks)), (hn, .inl (cI, 50, .inl ns)), (hu, .inl (cI, 200, .inl us))] [(cI, .int), (cC, .char), (cJ, .long)] B) (QcRead (k_next ks ns sz p0 0 (-1))) 0 0 (fun _ => False) := by
  refine Met.ofW (cc := cX1_nextBehind) (maxL := 4) (ret := (some .int)) (by decide) rfl ?_
  intro p e s m args below meth c s₁ Bd hml hv
  obtain ⟨rfl, hP, hK, hT⟩ := hv
  have hx := Bd.exec
  have hb := Bd.bytes
  have hr := Bd.returns
  have hts := atoms_spec (ws := wsX1_nextBehind) Bd.pre
  have hg : ∀ w ∈ lw_good, w.before _ s = true := fun w h => hts w (List.mem_cons_of_mem _ h)
  have hown : s.vm.findClass RX1 = some m.cls := findClass_of_methodNamed Bd.named
  have hlocks := Bd.notSynchronized
  have hSB : va_S (fun q => B ≤ q) s.heap s.heap [] := va_S.rf
  have hP : va_P (dC, dI) vwCl [(h, .inr (1, [.ref hk, .ref hn, .ref hu, .int (nI sz)])), (hk, .inl (cI, 50, .inl ks)), (hn, .inl (cI, 50, .inl ns)), (hu, .inl (cI, 200, .inl us))] s.heap := hP
  have hl := lv_entry ([.ref h, .int p0]) (n := 4) (Nat.le_of_ble_eq_true rfl)
  rw [lg_entry_eq]
  generalize (lg_sl ([.ref h, .int p0]) ++ List.replicate (4 - (lg_sl ([.ref h, .int p0])).length) Slot.unset).toArray = ls at hl ⊢
  have hl : lv_has ls 4 [(0, .ref h), (1, .int p0)] := hl
  refine lv_iconst (v := (-1)) hx hb dX1_nextBehind_0 (by decide) ?_
  refine lv_istore_n (lv' := [(2, .int (-1)), (0, .ref h), (1, .int p0)]) hx hb dX1_nextBehind_1 rfl hl (by decide) rfl (fun ls hl => ?_)
  refine lv_iconst (v := 0) hx hb dX1_nextBehind_2 (by decide) ?_
  refine lv_istore_n (lv' := [(3, .int 0), (2, .int (-1)), (0, .ref h), (1, .int p0)]) hx hb dX1_nextBehind_3 rfl hl (by decide) rfl (fun ls hl => ?_)
  refine loop_R (σ := Nat × Int32) (fun n x ls => sz - x.1 < n ∧ x.1 ≤ sz ∧ k_next ks ns sz p0 0 (-1) = k_next ks ns sz p0 x.1 x.2 ∧ lv_has ls 4 [(0, .ref h), (1, .int p0), (2, .int x.2), (3, .int (nI x.1))]) (fun n x ls ih_1 hI => ?_) (fun x ls hI => ?_) (n := (sz - 0) + 1) (x := (0, (-1))) ⟨(Nat.lt_succ_self _), (by (try dsimp only); omega), rfl, lv_sub hl [2, 3, 1, 0] rfl⟩
  · skip
    obtain ⟨k, nx⟩ := x
    obtain ⟨hfu, hk0, he, hl⟩ := hI
    have hfu : sz - k < n + 1 := hfu
    have hk0 : k ≤ sz := hk0
    have he : k_next ks ns sz p0 0 (-1) = k_next ks ns sz p0 k nx := he
    have hl : lv_has ls 4 [(0, .ref h), (1, .int p0), (2, .int nx), (3, .int (nI k))] := hl
    refine lv_iload_n hx hb dX1_nextBehind_4 rfl (lv_at hl 3 rfl) ?_
    refine lv_aload_n hx hb dX1_nextBehind_5 rfl (lv_at hl 0 rfl) ?_
    refine va_get (D := (dC, dI)) (ci := 1) (v := .int (nI sz)) (C := RX1) (T := TX1) (N := 4) hx hb hg in_X1 hown hK hP 0 rfl rfl 3 (by decide) (hg _ w_38) (fun _ h9 => h9) rfl dX1_nextBehind_6 ?_
    refine lv_icmp_ge (tgt := 47) hx hb dX1_nextBehind_9 (by decide) (fun c_2 => ?_) (fun c_2 => ?_)
    · skip
      have c_2 := na_le (a := sz) (b := k) c_2 (by omega) (by omega)
      refine lv_iload_n hx hb dX1_nextBehind_47 rfl (lv_at hl 2 rfl) ?_
      exact W.iret (v := nx) hx hb hr (fun t ht hW => rd_end (by rw [he]; rw [k_next]; simp [c_2]) ht) (fun q h => by cases h) dX1_nextBehind_48
    · skip
      have c_2 := na_nle (a := sz) (b := k) c_2 (by omega) (by omega)
      refine lv_aload_n hx hb dX1_nextBehind_12 rfl (lv_at hl 0 rfl) ?_
      refine lv_iload_n hx hb dX1_nextBehind_13 rfl (lv_at hl 3 rfl) ?_
      refine go_R (r := k_rank ks ns sz (nI k)) (va_runV (As := [.int (nI k)]) (rest := []) ⟨hx, hb, hml, hown, hg⟩ (kX1_rankOf l dC dI B cI cC cJ h hk hn hu ks ns us sz (nI k) (by omega)) (cwV 1 hg (gi_V w_407 w_408 w_409 w_4 w_410) rfl rfl rfl (by decide +kernel) ⟨Nat.le_of_ble_eq_true rfl, Nat.le_of_ble_eq_true rfl⟩) (pre_RV (va_recv hK hP (ci := 1) (q0 := 0) rfl rfl) (hP.sub [0, 1, 2, 3] rfl) hK hT) rfl rfl hl.1 rfl (lv_room (Nat.le_of_ble_eq_true rfl)) dX1_nextBehind_14 ⟨Nat.le_of_ble_eq_true rfl, Nat.le_of_ble_eq_true rfl⟩) ?_
      refine lv_iload_n hx hb dX1_nextBehind_17 rfl (lv_at hl 1 rfl) ?_
      refine lv_icmp_le (tgt := 41) hx hb dX1_nextBehind_18 (by decide) (fun c_3 => ?_) (fun c_3 => ?_)
      · skip
        refine lv_iinc (v := (nI (k + 1))) (lv' := [(3, .int (nI (k + 1))), (0, .ref h), (1, .int p0), (2, .int nx)]) hx hb dX1_nextBehind_41 hl (k := 3) rfl (by rw [← nI_add]; rfl) (by decide) rfl (fun ls hl => ?_)
        refine lv_goto (tgt := 4) hx hb dX1_nextBehind_44 (by decide) ?_
        exact ih_1 (k + 1, nx) _ ⟨(by (try dsimp only); omega), (by (try dsimp only); omega), (by (try dsimp only); rw [he, k_next]; simp [c_2, c_3]), lv_sub hl [1, 2, 3, 0] rfl⟩
      · skip
        refine lv_iload_n hx hb dX1_nextBehind_21 rfl (lv_at hl 2 rfl) ?_
        refine lv_iconst (v := (-1)) hx hb dX1_nextBehind_22 (by decide) ?_
        refine lv_icmp_eq (tgt := 39) hx hb dX1_nextBehind_23 (by decide) (fun c_4 => ?_) (fun c_4 => ?_)
        · skip
          refine lv_iload_n hx hb dX1_nextBehind_39 rfl (lv_at hl 3 rfl) ?_
          refine lv_istore_n (lv' := [(2, .int (nI k)), (0, .ref h), (1, .int p0), (3, .int (nI k))]) hx hb dX1_nextBehind_40 rfl hl (by decide) rfl (fun ls hl => ?_)
          refine lv_iinc (v := (nI (k + 1))) (lv' := [(3, .int (nI (k + 1))), (2, .int (nI k)), (0, .ref h), (1, .int p0)]) hx hb dX1_nextBehind_41 hl (k := 3) rfl (by rw [← nI_add]; rfl) (by decide) rfl (fun ls hl => ?_)
          refine lv_goto (tgt := 4) hx hb dX1_nextBehind_44 (by decide) ?_
          exact ih_1 (k + 1, (nI k)) _ ⟨(by (try dsimp only); omega), (by (try dsimp only); omega), (by (try dsimp only); rw [he, k_next]; simp [c_2, c_3, c_4]), lv_sub hl [2, 3, 1, 0] rfl⟩
        · skip
          refine lv_aload_n hx hb dX1_nextBehind_26 rfl (lv_at hl 0 rfl) ?_
          refine lv_iload_n hx hb dX1_nextBehind_27 rfl (lv_at hl 3 rfl) ?_
          refine go_R (r := k_rank ks ns sz (nI k)) (va_runV (As := [.int (nI k)]) (rest := []) ⟨hx, hb, hml, hown, hg⟩ (kX1_rankOf l dC dI B cI cC cJ h hk hn hu ks ns us sz (nI k) (by omega)) (cwV 1 hg (gi_V w_407 w_408 w_409 w_4 w_410) rfl rfl rfl (by decide +kernel) ⟨Nat.le_of_ble_eq_true rfl, Nat.le_of_ble_eq_true rfl⟩) (pre_RV (va_recv hK hP (ci := 1) (q0 := 0) rfl rfl) (hP.sub [0, 1, 2, 3] rfl) hK hT) rfl rfl hl.1 rfl (lv_room (Nat.le_of_ble_eq_true rfl)) dX1_nextBehind_28 ⟨Nat.le_of_ble_eq_true rfl, Nat.le_of_ble_eq_true rfl⟩) ?_
          refine lv_aload_n hx hb dX1_nextBehind_31 rfl (lv_at hl 0 rfl) ?_
          refine lv_iload_n hx hb dX1_nextBehind_32 rfl (lv_at hl 2 rfl) ?_
          refine go_R (r := k_rank ks ns sz nx) (va_runV (As := [.int nx]) (rest := [.int (k_rank ks ns sz (nI k))]) ⟨hx, hb, hml, hown, hg⟩ (kX1_rankOf l dC dI B cI cC cJ h hk hn hu ks ns us sz nx (by omega)) (cwV 1 hg (gi_V w_407 w_408 w_409 w_4 w_410) rfl rfl rfl (by decide +kernel) ⟨Nat.le_of_ble_eq_true rfl, Nat.le_of_ble_eq_true rfl⟩) (pre_RV (va_recv hK hP (ci := 1) (q0 := 0) rfl rfl) (hP.sub [0, 1, 2, 3] rfl) hK hT) rfl rfl hl.1 rfl (lv_room (Nat.le_of_ble_eq_true rfl)) dX1_nextBehind_33 ⟨Nat.le_of_ble_eq_true rfl, Nat.le_of_ble_eq_true rfl⟩) ?_
          refine lv_icmp_ge (tgt := 41) hx hb dX1_nextBehind_36 (by decide) (fun c_5 => ?_) (fun c_5 => ?_)
          · skip
            refine lv_iinc (v := (nI (k + 1))) (lv' := [(3, .int (nI (k + 1))), (0, .ref h), (1, .int p0), (2, .int nx)]) hx hb dX1_nextBehind_41 hl (k := 3) rfl (by rw [← nI_add]; rfl) (by decide) rfl (fun ls hl => ?_)
            refine lv_goto (tgt := 4) hx hb dX1_nextBehind_44 (by decide) ?_
            exact ih_1 (k + 1, nx) _ ⟨(by (try dsimp only); omega), (by (try dsimp only); omega), (by (try dsimp only); rw [he, k_next]; simp [c_2, c_3, c_4, c_5]), lv_sub hl [1, 2, 3, 0] rfl⟩
          · skip
            refine lv_iload_n hx hb dX1_nextBehind_39 rfl (lv_at hl 3 rfl) ?_
            refine lv_istore_n (lv' := [(2, .int (nI k)), (0, .ref h), (1, .int p0), (3, .int (nI k))]) hx hb dX1_nextBehind_40 rfl hl (by decide) rfl (fun ls hl => ?_)
            refine lv_iinc (v := (nI (k + 1))) (lv' := [(3, .int (nI (k + 1))), (2, .int (nI k)), (0, .ref h), (1, .int p0)]) hx hb dX1_nextBehind_41 hl (k := 3) rfl (by rw [← nI_add]; rfl) (by decide) rfl (fun ls hl => ?_)
            refine lv_goto (tgt := 4) hx hb dX1_nextBehind_44 (by decide) ?_
            exact ih_1 (k + 1, (nI k)) _ ⟨(by (try dsimp only); omega), (by (try dsimp only); omega), (by (try dsimp only); rw [he, k_next]; simp [c_2, c_3, c_4, c_5]), lv_sub hl [2, 3, 1, 0] rfl⟩
  · exact absurd hI.1 (Nat.not_lt_zero _)
set_option maxHeartbeats 4000000 in
set_option maxRecDepth 100000 in
theorem kX1_hasPieceAt (l : Launch) (dC : Nat → ClassId) (dI : Nat → Nat → Nat) (B : Nat) (cI cC cJ : ClassId) (h : Nat) (hk : Nat) (hn : Nat) (hu : Nat) (ks : Nat → Int32) (ns : Nat → Int32) (us : Nat → Int32) (sz : Nat) (p0 : Int32) (p1 : Int32) (hsz : sz ≤ 50) : Met l yX1_hasPieceAt wsX1_hasPieceAt ({ frames := 1, cells := 0, slots := 0, locals := 22 }) (q_Rd (dC, dI) vwCl [.ref h, .int p0, .int p1] [(h, .inr (1, [.ref hk, .ref hn, .ref hu, .int (nI sz)])), (hk, .inl (cI, 50, .inl ks)), (hn, .inl (cI, 50, .inl ns)), (hu, .inl (cI, 200, .inl us))] [(cI, .int), (cC, .char), (cJ, .long)] B) (QcRead (bI (k_has ks us sz p0 p1 0))) 0 0 (fun _ => False) := by
  refine Met.ofW (cc := cX1_hasPieceAt) (maxL := 4) (ret := (some .boolean)) (by decide) rfl ?_
  intro p e s m args below meth c s₁ Bd hml hv
  obtain ⟨rfl, hP, hK, hT⟩ := hv
  have hx := Bd.exec
  have hb := Bd.bytes
  have hr := Bd.returns
  have hts := atoms_spec (ws := wsX1_hasPieceAt) Bd.pre
  have hg : ∀ w ∈ lw_good, w.before _ s = true := fun w h => hts w (List.mem_cons_of_mem _ h)
  have hown : s.vm.findClass RX1 = some m.cls := findClass_of_methodNamed Bd.named
  have hlocks := Bd.notSynchronized
  have hSB : va_S (fun q => B ≤ q) s.heap s.heap [] := va_S.rf
  have hP : va_P (dC, dI) vwCl [(h, .inr (1, [.ref hk, .ref hn, .ref hu, .int (nI sz)])), (hk, .inl (cI, 50, .inl ks)), (hn, .inl (cI, 50, .inl ns)), (hu, .inl (cI, 200, .inl us))] s.heap := hP
  have hl := lv_entry ([.ref h, .int p0, .int p1]) (n := 4) (Nat.le_of_ble_eq_true rfl)
  rw [lg_entry_eq]
  generalize (lg_sl ([.ref h, .int p0, .int p1]) ++ List.replicate (4 - (lg_sl ([.ref h, .int p0, .int p1])).length) Slot.unset).toArray = ls at hl ⊢
  have hl : lv_has ls 4 [(0, .ref h), (1, .int p0), (2, .int p1)] := hl
  refine lv_iconst (v := 0) hx hb dX1_hasPieceAt_0 (by decide) ?_
  refine lv_istore_n (lv' := [(3, .int 0), (0, .ref h), (1, .int p0), (2, .int p1)]) hx hb dX1_hasPieceAt_1 rfl hl (by decide) rfl (fun ls hl => ?_)
  refine loop_R (σ := Nat) (fun n x ls => sz - x < n ∧ x ≤ sz ∧ k_has ks us sz p0 p1 0 = k_has ks us sz p0 p1 x ∧ lv_has ls 4 [(0, .ref h), (1, .int p0), (2, .int p1), (3, .int (nI x))]) (fun n x ls ih_1 hI => ?_) (fun x ls hI => ?_) (n := (sz - 0) + 1) (x := 0) ⟨(Nat.lt_succ_self _), (by (try dsimp only); omega), rfl, lv_sub hl [1, 2, 3, 0] rfl⟩
  · skip
    obtain ⟨k, rfl⟩ : ∃ z, z = x := ⟨x, rfl⟩
    obtain ⟨hfu, hk0, he, hl⟩ := hI
    have hfu : sz - k < n + 1 := hfu
    have hk0 : k ≤ sz := hk0
    have he : k_has ks us sz p0 p1 0 = k_has ks us sz p0 p1 k := he
    have hl : lv_has ls 4 [(0, .ref h), (1, .int p0), (2, .int p1), (3, .int (nI k))] := hl
    refine lv_iload_n hx hb dX1_hasPieceAt_2 rfl (lv_at hl 3 rfl) ?_
    refine lv_aload_n hx hb dX1_hasPieceAt_3 rfl (lv_at hl 0 rfl) ?_
    refine va_get (D := (dC, dI)) (ci := 1) (v := .int (nI sz)) (C := RX1) (T := TX1) (N := 4) hx hb hg in_X1 hown hK hP 0 rfl rfl 3 (by decide) (hg _ w_38) (fun _ h9 => h9) rfl dX1_hasPieceAt_4 ?_
    refine lv_icmp_ge (tgt := 48) hx hb dX1_hasPieceAt_7 (by decide) (fun c_2 => ?_) (fun c_2 => ?_)
    · skip
      have c_2 := na_le (a := sz) (b := k) c_2 (by omega) (by omega)
      refine lv_iconst (v := 0) hx hb dX1_hasPieceAt_48 (by decide) ?_
      exact W.zret (v := 0) (ty := .boolean) hx hb hr rfl (fun t ht hW => rd_end (bI_0 (by rw [he]; rw [k_has]; simp [c_2])).symm ht) (fun q h => by cases h) dX1_hasPieceAt_49
    · skip
      have c_2 := na_nle (a := sz) (b := k) c_2 (by omega) (by omega)
      refine lv_aload_n hx hb dX1_hasPieceAt_10 rfl (lv_at hl 0 rfl) ?_
      refine va_get (D := (dC, dI)) (ci := 1) (v := .ref hk) (C := RX1) (T := TX1) (N := 4) hx hb hg in_X1 hown hK hP 0 rfl rfl 0 (by decide) (hg _ w_35) (fun _ h9 => h9) rfl dX1_hasPieceAt_11 ?_
      refine lv_iload_n hx hb dX1_hasPieceAt_14 rfl (lv_at hl 3 rfl) ?_
      refine x_iald (k := k) hx hb hK hP 1 0 rfl rfl (by omega) (by decide) dX1_hasPieceAt_15 ?_
      refine lv_iload_n hx hb dX1_hasPieceAt_16 rfl (lv_at hl 1 rfl) ?_
      refine lv_icmp_ne (tgt := 42) hx hb dX1_hasPieceAt_17 (by decide) (fun c_3 => ?_) (fun c_3 => ?_)
      · skip
        refine lv_iinc (v := (nI (k + 1))) (lv' := [(3, .int (nI (k + 1))), (0, .ref h), (1, .int p0), (2, .int p1)]) hx hb dX1_hasPieceAt_42 hl (k := 3) rfl (by rw [← nI_add]; rfl) (by decide) rfl (fun ls hl => ?_)
        refine lv_goto (tgt := 2) hx hb dX1_hasPieceAt_45 (by decide) ?_
        exact ih_1 (k + 1) _ ⟨(by (try dsimp only); omega), (by (try dsimp only); omega), (by (try dsimp only); rw [he, k_has]; simp [c_2, c_3]), lv_sub hl [1, 2, 3, 0] rfl⟩
      · skip
        refine lv_aload_n hx hb dX1_hasPieceAt_20 rfl (lv_at hl 0 rfl) ?_
        refine lv_iload_n hx hb dX1_hasPieceAt_21 rfl (lv_at hl 3 rfl) ?_
        refine lv_iconst (v := 0) hx hb dX1_hasPieceAt_22 (by decide) ?_
        refine go_R (r := k_num us sz (nI k) 0) (va_runV (As := [.int (nI k), .int 0]) (rest := []) ⟨hx, hb, hml, hown, hg⟩ (kX1_numberOf l dC dI B cI cC cJ h hk hn hu ks ns us sz (nI k) 0 (by omega)) (cwV 2 hg (gi_V w_215 w_216 w_217 w_4 w_218) rfl rfl rfl (by decide +kernel) ⟨Nat.le_of_ble_eq_true rfl, Nat.le_of_ble_eq_true rfl⟩) (pre_RV (va_recv hK hP (ci := 1) (q0 := 0) rfl rfl) (hP.sub [0, 1, 2, 3] rfl) hK hT) rfl rfl hl.1 rfl (lv_room (Nat.le_of_ble_eq_true rfl)) dX1_hasPieceAt_23 ⟨Nat.le_of_ble_eq_true rfl, Nat.le_of_ble_eq_true rfl⟩) ?_
        refine lv_iload_n hx hb dX1_hasPieceAt_26 rfl (lv_at hl 2 rfl) ?_
        refine lv_icmp_eq (tgt := 40) hx hb dX1_hasPieceAt_27 (by decide) (fun c_4 => ?_) (fun c_4 => ?_)
        · skip
          refine lv_iconst (v := 1) hx hb dX1_hasPieceAt_40 (by decide) ?_
          exact W.zret (v := 1) (ty := .boolean) hx hb hr rfl (fun t ht hW => rd_end (bI_1 (by rw [he]; rw [k_has]; simp [c_2, c_3, c_4])).symm ht) (fun q h => by cases h) dX1_hasPieceAt_41
        · skip
          refine lv_aload_n hx hb dX1_hasPieceAt_30 rfl (lv_at hl 0 rfl) ?_
          refine lv_iload_n hx hb dX1_hasPieceAt_31 rfl (lv_at hl 3 rfl) ?_
          refine lv_iconst (v := 1) hx hb dX1_hasPieceAt_32 (by decide) ?_
          refine go_R (r := k_num us sz (nI k) 1) (va_runV (As := [.int (nI k), .int 1]) (rest := []) ⟨hx, hb, hml, hown, hg⟩ (kX1_numberOf l dC dI B cI cC cJ h hk hn hu ks ns us sz (nI k) 1 (by omega)) (cwV 2 hg (gi_V w_215 w_216 w_217 w_4 w_218) rfl rfl rfl (by decide +kernel) ⟨Nat.le_of_ble_eq_true rfl, Nat.le_of_ble_eq_true rfl⟩) (pre_RV (va_recv hK hP (ci := 1) (q0 := 0) rfl rfl) (hP.sub [0, 1, 2, 3] rfl) hK hT) rfl rfl hl.1 rfl (lv_room (Nat.le_of_ble_eq_true rfl)) dX1_hasPieceAt_33 ⟨Nat.le_of_ble_eq_true rfl, Nat.le_of_ble_eq_true rfl⟩) ?_
          refine lv_iload_n hx hb dX1_hasPieceAt_36 rfl (lv_at hl 2 rfl) ?_
          refine lv_icmp_ne (tgt := 42) hx hb dX1_hasPieceAt_37 (by decide) (fun c_5 => ?_) (fun c_5 => ?_)
          · skip
            refine lv_iinc (v := (nI (k + 1))) (lv' := [(3, .int (nI (k + 1))), (0, .ref h), (1, .int p0), (2, .int p1)]) hx hb dX1_hasPieceAt_42 hl (k := 3) rfl (by rw [← nI_add]; rfl) (by decide) rfl (fun ls hl => ?_)
            refine lv_goto (tgt := 2) hx hb dX1_hasPieceAt_45 (by decide) ?_
            exact ih_1 (k + 1) _ ⟨(by (try dsimp only); omega), (by (try dsimp only); omega), (by (try dsimp only); rw [he, k_has]; simp [c_2, c_3, c_4, c_5]), lv_sub hl [1, 2, 3, 0] rfl⟩
          · skip
            refine lv_iconst (v := 1) hx hb dX1_hasPieceAt_40 (by decide) ?_
            exact W.zret (v := 1) (ty := .boolean) hx hb hr rfl (fun t ht hW => rd_end (bI_1 (by rw [he]; rw [k_has]; simp [c_2, c_3, c_4, c_5])).symm ht) (fun q h => by cases h) dX1_hasPieceAt_41
  · exact absurd hI.1 (Nat.not_lt_zero _)
set_option maxHeartbeats 4000000 in
set_option maxRecDepth 100000 in
theorem kX1_hasSameNumbers (l : Launch) (dC : Nat → ClassId) (dI : Nat → Nat → Nat) (B : Nat) (cI cC cJ : ClassId) (h : Nat) (hk : Nat) (hn : Nat) (hu : Nat) (ks : Nat → Int32) (ns : Nat → Int32) (us : Nat → Int32) (sz : Nat) (h2 : Nat) (hk2 : Nat) (hn2 : Nat) (hu2 : Nat) (ks2 : Nat → Int32) (ns2 : Nat → Int32) (us2 : Nat → Int32) (sz2 : Nat) (p0 : Int32) (p2 : Int32) (hsz : sz ≤ 50) (hsz2 : sz2 ≤ 50) : Met l yX1_hasSameNumbers wsX1_hasSameNumbers ({ frames := 2, cells := 0, slots := 0, locals := 40 }) (q_Rd (dC, dI) vwCl [.ref h, .int p0, .ref h2, .int p2] [(h, .inr (1, [.ref hk, .ref hn, .ref hu, .int (nI sz)])), (hk, .inl (cI, 50, .inl ks)), (hn, .inl (cI, 50, .inl ns)), (hu, .inl (cI, 200, .inl us)), (h2, .inr (1, [.ref hk2, .ref hn2, .ref hu2, .int (nI sz2)])), (hk2, .inl (cI, 50, .inl ks2)), (hn2, .inl (cI, 50, .inl ns2)), (hu2, .inl (cI, 200, .inl us2))] [(cI, .int), (cC, .char), (cJ, .long)] B) (QcRead (bI (k_same us sz p0 us2 sz2 p2 (k_nK (k_get ks sz p0)) 0))) 0 0 (fun _ => False) := by
  refine Met.ofW (cc := cX1_hasSameNumbers) (maxL := 6) (ret := (some .boolean)) (by decide) rfl ?_
  intro p e s m args below meth c s₁ Bd hml hv
  obtain ⟨rfl, hP, hK, hT⟩ := hv
  have hx := Bd.exec
  have hb := Bd.bytes
  have hr := Bd.returns
  have hts := atoms_spec (ws := wsX1_hasSameNumbers) Bd.pre
  have hg : ∀ w ∈ lw_good, w.before _ s = true := fun w h => hts w (List.mem_cons_of_mem _ h)
  have hown : s.vm.findClass RX1 = some m.cls := findClass_of_methodNamed Bd.named
  have hlocks := Bd.notSynchronized
  have hSB : va_S (fun q => B ≤ q) s.heap s.heap [] := va_S.rf
  have hP : va_P (dC, dI) vwCl [(h, .inr (1, [.ref hk, .ref hn, .ref hu, .int (nI sz)])), (hk, .inl (cI, 50, .inl ks)), (hn, .inl (cI, 50, .inl ns)), (hu, .inl (cI, 200, .inl us)), (h2, .inr (1, [.ref hk2, .ref hn2, .ref hu2, .int (nI sz2)])), (hk2, .inl (cI, 50, .inl ks2)), (hn2, .inl (cI, 50, .inl ns2)), (hu2, .inl (cI, 200, .inl us2))] s.heap := hP
  have hl := lv_entry ([.ref h, .int p0, .ref h2, .int p2]) (n := 6) (Nat.le_of_ble_eq_true rfl)
  rw [lg_entry_eq]
  generalize (lg_sl ([.ref h, .int p0, .ref h2, .int p2]) ++ List.replicate (6 - (lg_sl ([.ref h, .int p0, .ref h2, .int p2])).length) Slot.unset).toArray = ls at hl ⊢
  have hl : lv_has ls 6 [(0, .ref h), (1, .int p0), (2, .ref h2), (3, .int p2)] := hl
  refine lv_aload_n hx hb dX1_hasSameNumbers_0 rfl (lv_at hl 0 rfl) ?_
  refine lv_iload_n hx hb dX1_hasSameNumbers_1 rfl (lv_at hl 1 rfl) ?_
  refine go_R (r := k_get ks sz p0) (va_runV (As := [.int p0]) (rest := []) ⟨hx, hb, hml, hown, hg⟩ (kX1_kindOf l dC dI B cI cC cJ h hk hn hu ks ns us sz p0 (by omega)) (cwV 1 hg (gi_V w_205 w_206 w_207 w_4 w_208) rfl rfl rfl (by decide +kernel) ⟨Nat.le_of_ble_eq_true rfl, Nat.le_of_ble_eq_true rfl⟩) (pre_RV (va_recv hK hP (ci := 1) (q0 := 0) rfl rfl) (hP.sub [0, 1, 2, 3] rfl) hK hT) rfl rfl hl.1 rfl (lv_room (Nat.le_of_ble_eq_true rfl)) dX1_hasSameNumbers_2 ⟨Nat.le_of_ble_eq_true rfl, Nat.le_of_ble_eq_true rfl⟩) ?_
  refine go_R (r := (nI (k_nK (k_get ks sz p0)))) (va_runSN (As := [.int (k_get ks sz p0)]) (rest := []) ⟨hx, hb, hml, hown, hg⟩ (kX5_numbersOfKind l dC dI B cI cC cJ (k_get ks sz p0)) ⟨va_cnB 1 hg (gi_N w_210) rfl rfl rfl (st_B.nM hT (q := ("HarbourText$Harbour", 60, yX5_numbersOfKind)) (List.mem_of_getElem? (i := 6) rfl)) (hg _ w_2) (by decide +kernel) ⟨Nat.le_of_ble_eq_true rfl, Nat.le_of_ble_eq_true rfl⟩, hg _ w_209, trivial⟩ (pre_RS (hP.sub [] rfl) hK hT) rfl rfl hl.1 rfl (lv_room (Nat.le_of_ble_eq_true rfl)) dX1_hasSameNumbers_5 ⟨Nat.le_of_ble_eq_true rfl, Nat.le_of_ble_eq_true rfl⟩) ?_
  have hm4 := k_nK_le (k_get ks sz p0)
  refine lv_istore (lv' := [(4, .int (nI (k_nK (k_get ks sz p0)))), (0, .ref h), (1, .int p0), (2, .ref h2), (3, .int p2)]) hx hb dX1_hasSameNumbers_8 hl (by decide) rfl (fun ls hl => ?_)
  refine lv_iconst (v := 0) hx hb dX1_hasSameNumbers_10 (by decide) ?_
  refine lv_istore (lv' := [(5, .int 0), (4, .int (nI (k_nK (k_get ks sz p0)))), (0, .ref h), (1, .int p0), (2, .ref h2), (3, .int p2)]) hx hb dX1_hasSameNumbers_11 hl (by decide) rfl (fun ls hl => ?_)
  refine loop_R (σ := Nat) (fun n x ls => k_nK (k_get ks sz p0) - x < n ∧ x ≤ k_nK (k_get ks sz p0) ∧ k_same us sz p0 us2 sz2 p2 (k_nK (k_get ks sz p0)) 0 = k_same us sz p0 us2 sz2 p2 (k_nK (k_get ks sz p0)) x ∧ lv_has ls 6 [(0, .ref h), (1, .int p0), (2, .ref h2), (3, .int p2), (4, .int (nI (k_nK (k_get ks sz p0)))), (5, .int (nI x))]) (fun n x ls ih_1 hI => ?_) (fun x ls hI => ?_) (n := (k_nK (k_get ks sz p0) - 0) + 1) (x := 0) ⟨(Nat.lt_succ_self _), (by (try dsimp only); omega), rfl, lv_sub hl [2, 3, 4, 5, 1, 0] rfl⟩
  · skip
    obtain ⟨k, rfl⟩ : ∃ z, z = x := ⟨x, rfl⟩
    obtain ⟨hfu, hk0, he, hl⟩ := hI
    have hfu : k_nK (k_get ks sz p0) - k < n + 1 := hfu
    have hk0 : k ≤ k_nK (k_get ks sz p0) := hk0
    have he : k_same us sz p0 us2 sz2 p2 (k_nK (k_get ks sz p0)) 0 = k_same us sz p0 us2 sz2 p2 (k_nK (k_get ks sz p0)) k := he
    have hl : lv_has ls 6 [(0, .ref h), (1, .int p0), (2, .ref h2), (3, .int p2), (4, .int (nI (k_nK (k_get ks sz p0)))), (5, .int (nI k))] := hl
    have hm4 := k_nK_le (k_get ks sz p0)
    refine lv_iload hx hb dX1_hasSameNumbers_13 (lv_at hl 5 rfl) ?_
    refine lv_iload hx hb dX1_hasSameNumbers_15 (lv_at hl 4 rfl) ?_
    refine lv_icmp_ge (tgt := 45) hx hb dX1_hasSameNumbers_17 (by decide) (fun c_2 => ?_) (fun c_2 => ?_)
    · skip
      have c_2 := na_le (a := k_nK (k_get ks sz p0)) (b := k) c_2 (by omega) (by omega)
      refine lv_iconst (v := 1) hx hb dX1_hasSameNumbers_45 (by decide) ?_
      exact W.zret (v := 1) (ty := .boolean) hx hb hr rfl (fun t ht hW => rd_end (bI_1 (by rw [he]; rw [k_same]; simp [c_2])).symm ht) (fun q h => by cases h) dX1_hasSameNumbers_46
    · skip
      have c_2 := na_nle (a := k_nK (k_get ks sz p0)) (b := k) c_2 (by omega) (by omega)
      refine lv_aload_n hx hb dX1_hasSameNumbers_20 rfl (lv_at hl 0 rfl) ?_
      refine lv_iload_n hx hb dX1_hasSameNumbers_21 rfl (lv_at hl 1 rfl) ?_
      refine lv_iload hx hb dX1_hasSameNumbers_22 (lv_at hl 5 rfl) ?_
      refine go_R (r := k_num us sz p0 (nI k)) (va_runV (As := [.int p0, .int (nI k)]) (rest := []) ⟨hx, hb, hml, hown, hg⟩ (kX1_numberOf l dC dI B cI cC cJ h hk hn hu ks ns us sz p0 (nI k) (by omega)) (cwV 2 hg (gi_V w_215 w_216 w_217 w_4 w_218) rfl rfl rfl (by decide +kernel) ⟨Nat.le_of_ble_eq_true rfl, Nat.le_of_ble_eq_true rfl⟩) (pre_RV (va_recv hK hP (ci := 1) (q0 := 0) rfl rfl) (hP.sub [0, 1, 2, 3] rfl) hK hT) rfl rfl hl.1 rfl (lv_room (Nat.le_of_ble_eq_true rfl)) dX1_hasSameNumbers_24 ⟨Nat.le_of_ble_eq_true rfl, Nat.le_of_ble_eq_true rfl⟩) ?_
      refine lv_aload_n hx hb dX1_hasSameNumbers_27 rfl (lv_at hl 2 rfl) ?_
      refine lv_iload_n hx hb dX1_hasSameNumbers_28 rfl (lv_at hl 3 rfl) ?_
      refine lv_iload hx hb dX1_hasSameNumbers_29 (lv_at hl 5 rfl) ?_
      refine go_R (r := k_num us2 sz2 p2 (nI k)) (va_runV (As := [.int p2, .int (nI k)]) (rest := [.int (k_num us sz p0 (nI k))]) ⟨hx, hb, hml, hown, hg⟩ (kX1_numberOf l dC dI B cI cC cJ h2 hk2 hn2 hu2 ks2 ns2 us2 sz2 p2 (nI k) (by omega)) (cwV 2 hg (gi_V w_215 w_216 w_217 w_4 w_218) rfl rfl rfl (by decide +kernel) ⟨Nat.le_of_ble_eq_true rfl, Nat.le_of_ble_eq_true rfl⟩) (pre_RV (va_recv hK hP (ci := 1) (q0 := 4) rfl rfl) (hP.sub [4, 5, 6, 7] rfl) hK hT) rfl rfl hl.1 rfl (lv_room (Nat.le_of_ble_eq_true rfl)) dX1_hasSameNumbers_31 ⟨Nat.le_of_ble_eq_true rfl, Nat.le_of_ble_eq_true rfl⟩) ?_
      refine lv_icmp_eq (tgt := 39) hx hb dX1_hasSameNumbers_34 (by decide) (fun c_3 => ?_) (fun c_3 => ?_)
      · skip
        refine lv_iinc (v := (nI (k + 1))) (lv' := [(5, .int (nI (k + 1))), (0, .ref h), (1, .int p0), (2, .ref h2), (3, .int p2), (4, .int (nI (k_nK (k_get ks sz p0))))]) hx hb dX1_hasSameNumbers_39 hl (k := 5) rfl (by rw [← nI_add]; rfl) (by decide) rfl (fun ls hl => ?_)
        refine lv_goto (tgt := 13) hx hb dX1_hasSameNumbers_42 (by decide) ?_
        exact ih_1 (k + 1) _ ⟨(by (try dsimp only); omega), (by (try dsimp only); omega), (by (try dsimp only); rw [he, k_same]; simp [c_2, c_3]), lv_sub hl [1, 2, 3, 4, 5, 0] rfl⟩
      · skip
        refine lv_iconst (v := 0) hx hb dX1_hasSameNumbers_37 (by decide) ?_
        exact W.zret (v := 0) (ty := .boolean) hx hb hr rfl (fun t ht hW => rd_end (bI_0 (by rw [he]; rw [k_same]; simp [c_2, c_3])).symm ht) (fun q h => by cases h) dX1_hasSameNumbers_38
  · exact absurd hI.1 (Nat.not_lt_zero _)
set_option maxHeartbeats 4000000 in
set_option maxRecDepth 100000 in
theorem kX1_missingIn (l : Launch) (dC : Nat → ClassId) (dI : Nat → Nat → Nat) (B : Nat) (cI cC cJ : ClassId) (h : Nat) (hk : Nat) (hn : Nat) (hu : Nat) (ks : Nat → Int32) (ns : Nat → Int32) (us : Nat → Int32) (sz : Nat) (h2 : Nat) (hk2 : Nat) (hn2 : Nat) (hu2 : Nat) (ks2 : Nat → Int32) (ns2 : Nat → Int32) (us2 : Nat → Int32) (sz2 : Nat) (hsz : sz ≤ 50) (hsz2 : sz2 ≤ 50) : Met l yX1_missingIn wsX1_missingIn ({ frames := 1, cells := 0, slots := 0, locals := 23 }) (q_Rd (dC, dI) vwCl [.ref h, .ref h2] [(h, .inr (1, [.ref hk, .ref hn, .ref hu, .int (nI sz)])), (hk, .inl (cI, 50, .inl ks)), (hn, .inl (cI, 50, .inl ns)), (hu, .inl (cI, 200, .inl us)), (h2, .inr (1, [.ref hk2, .ref hn2, .ref hu2, .int (nI sz2)])), (hk2, .inl (cI, 50, .inl ks2)), (hn2, .inl (cI, 50, .inl ns2)), (hu2, .inl (cI, 200, .inl us2))] [(cI, .int), (cC, .char), (cJ, .long)] B) (QcRead (nI (k_miss ks ns sz ks2 ns2 sz2 0 0))) 0 0 (fun _ => False) := by
  refine Met.ofW (cc := cX1_missingIn) (maxL := 4) (ret := (some .int)) (by decide) rfl ?_
  intro p e s m args below meth c s₁ Bd hml hv
  obtain ⟨rfl, hP, hK, hT⟩ := hv
  have hx := Bd.exec
  have hb := Bd.bytes
  have hr := Bd.returns
  have hts := atoms_spec (ws := wsX1_missingIn) Bd.pre
  have hg : ∀ w ∈ lw_good, w.before _ s = true := fun w h => hts w (List.mem_cons_of_mem _ h)
  have hown : s.vm.findClass RX1 = some m.cls := findClass_of_methodNamed Bd.named
  have hlocks := Bd.notSynchronized
  have hSB : va_S (fun q => B ≤ q) s.heap s.heap [] := va_S.rf
  have hP : va_P (dC, dI) vwCl [(h, .inr (1, [.ref hk, .ref hn, .ref hu, .int (nI sz)])), (hk, .inl (cI, 50, .inl ks)), (hn, .inl (cI, 50, .inl ns)), (hu, .inl (cI, 200, .inl us)), (h2, .inr (1, [.ref hk2, .ref hn2, .ref hu2, .int (nI sz2)])), (hk2, .inl (cI, 50, .inl ks2)), (hn2, .inl (cI, 50, .inl ns2)), (hu2, .inl (cI, 200, .inl us2))] s.heap := hP
  have hl := lv_entry ([.ref h, .ref h2]) (n := 4) (Nat.le_of_ble_eq_true rfl)
  rw [lg_entry_eq]
  generalize (lg_sl ([.ref h, .ref h2]) ++ List.replicate (4 - (lg_sl ([.ref h, .ref h2])).length) Slot.unset).toArray = ls at hl ⊢
  have hl : lv_has ls 4 [(0, .ref h), (1, .ref h2)] := hl
  refine lv_iconst (v := 0) hx hb dX1_missingIn_0 (by decide) ?_
  refine lv_istore_n (lv' := [(2, .int 0), (0, .ref h), (1, .ref h2)]) hx hb dX1_missingIn_1 rfl hl (by decide) rfl (fun ls hl => ?_)
  refine lv_iconst (v := 0) hx hb dX1_missingIn_2 (by decide) ?_
  refine lv_istore_n (lv' := [(3, .int 0), (2, .int 0), (0, .ref h), (1, .ref h2)]) hx hb dX1_missingIn_3 rfl hl (by decide) rfl (fun ls hl => ?_)
  refine loop_R (σ := Nat × Nat) (fun n x ls => sz - x.1 < n ∧ x.1 ≤ sz ∧ x.2 ≤ x.1 ∧ k_miss ks ns sz ks2 ns2 sz2 0 0 = k_miss ks ns sz ks2 ns2 sz2 x.1 x.2 ∧ lv_has ls 4 [(0, .ref h), (1, .ref h2), (2, .int (nI x.2)), (3, .int (nI x.1))]) (fun n x ls ih_1 hI => ?_) (fun x ls hI => ?_) (n := (sz - 0) + 1) (x := (0, 0)) ⟨(Nat.lt_succ_self _), (by (try dsimp only); omega), (by (try dsimp only); omega), rfl, lv_sub hl [2, 3, 1, 0] rfl⟩
  · skip
    obtain ⟨k, f⟩ := x
    obtain ⟨hfu, hk0, hf0, he, hl⟩ := hI
    have hfu : sz - k < n + 1 := hfu
    have hk0 : k ≤ sz := hk0
    have hf0 : f ≤ k := hf0
    have he : k_miss ks ns sz ks2 ns2 sz2 0 0 = k_miss ks ns sz ks2 ns2 sz2 k f := he
    have hl : lv_has ls 4 [(0, .ref h), (1, .ref h2), (2, .int (nI f)), (3, .int (nI k))] := hl
    refine lv_iload_n hx hb dX1_missingIn_4 rfl (lv_at hl 3 rfl) ?_
    refine lv_aload_n hx hb dX1_missingIn_5 rfl (lv_at hl 0 rfl) ?_
    refine va_get (D := (dC, dI)) (ci := 1) (v := .int (nI sz)) (C := RX1) (T := TX1) (N := 4) hx hb hg in_X1 hown hK hP 0 rfl rfl 3 (by decide) (hg _ w_38) (fun _ h9 => h9) rfl dX1_missingIn_6 ?_
    refine lv_icmp_ge (tgt := 41) hx hb dX1_missingIn_9 (by decide) (fun c_2 => ?_) (fun c_2 => ?_)
    · skip
      have c_2 := na_le (a := sz) (b := k) c_2 (by omega) (by omega)
      refine lv_iload_n hx hb dX1_missingIn_41 rfl (lv_at hl 2 rfl) ?_
      exact W.iret (v := (nI f)) hx hb hr (fun t ht hW => rd_end (by rw [he]; rw [k_miss]; simp [c_2]) ht) (fun q h => by cases h) dX1_missingIn_42
    · skip
      have c_2 := na_nle (a := sz) (b := k) c_2 (by omega) (by omega)
      refine lv_aload_n hx hb dX1_missingIn_12 rfl (lv_at hl 1 rfl) ?_
      refine lv_aload_n hx hb dX1_missingIn_13 rfl (lv_at hl 0 rfl) ?_
      refine va_get (D := (dC, dI)) (ci := 1) (v := .ref hk) (C := RX1) (T := TX1) (N := 4) hx hb hg in_X1 hown hK hP 0 rfl rfl 0 (by decide) (hg _ w_35) (fun _ h9 => h9) rfl dX1_missingIn_14 ?_
      refine lv_iload_n hx hb dX1_missingIn_17 rfl (lv_at hl 3 rfl) ?_
      refine x_iald (k := k) hx hb hK hP 1 0 rfl rfl (by omega) (by decide) dX1_missingIn_18 ?_
      refine lv_aload_n hx hb dX1_missingIn_19 rfl (lv_at hl 0 rfl) ?_
      refine va_get (D := (dC, dI)) (ci := 1) (v := .ref hn) (C := RX1) (T := TX1) (N := 4) hx hb hg in_X1 hown hK hP 0 rfl rfl 1 (by decide) (hg _ w_36) (fun _ h9 => h9) rfl dX1_missingIn_20 ?_
      refine lv_iload_n hx hb dX1_missingIn_23 rfl (lv_at hl 3 rfl) ?_
      refine x_iald (k := k) hx hb hK hP 2 0 rfl rfl (by omega) (by decide) dX1_missingIn_24 ?_
      refine go_R (r := k_indexOf ks2 ns2 (ks k) (ns k) sz2 0) (va_runV (As := [.int (ks k), .int (ns k)]) (rest := []) ⟨hx, hb, hml, hown, hg⟩ (kX1_indexOf l dC dI B cI cC cJ h2 hk2 hn2 hu2 ks2 ns2 us2 sz2 (ks k) (ns k) (by omega)) (cwV 2 hg (gi_V w_197 w_147 w_148 w_4 w_149) rfl rfl rfl (by decide +kernel) ⟨Nat.le_of_ble_eq_true rfl, Nat.le_of_ble_eq_true rfl⟩) (pre_RV (va_recv hK hP (ci := 1) (q0 := 4) rfl rfl) (hP.sub [4, 5, 6, 7] rfl) hK hT) rfl rfl hl.1 rfl (lv_room (Nat.le_of_ble_eq_true rfl)) dX1_missingIn_25 ⟨Nat.le_of_ble_eq_true rfl, Nat.le_of_ble_eq_true rfl⟩) ?_
      refine lv_iconst (v := (-1)) hx hb dX1_missingIn_28 (by decide) ?_
      refine lv_icmp_ne (tgt := 35) hx hb dX1_missingIn_29 (by decide) (fun c_3 => ?_) (fun c_3 => ?_)
      · skip
        refine lv_iinc (v := (nI (k + 1))) (lv' := [(3, .int (nI (k + 1))), (0, .ref h), (1, .ref h2), (2, .int (nI f))]) hx hb dX1_missingIn_35 hl (k := 3) rfl (by rw [← nI_add]; rfl) (by decide) rfl (fun ls hl => ?_)
        refine lv_goto (tgt := 4) hx hb dX1_missingIn_38 (by decide) ?_
        exact ih_1 (k + 1, f) _ ⟨(by (try dsimp only); omega), (by (try dsimp only); omega), (by (try dsimp only); omega), (by (try dsimp only); rw [he, k_miss]; simp [c_2, c_3]), lv_sub hl [1, 2, 3, 0] rfl⟩
      · skip
        refine lv_iinc (v := (nI (f + 1))) (lv' := [(2, .int (nI (f + 1))), (0, .ref h), (1, .ref h2), (3, .int (nI k))]) hx hb dX1_missingIn_32 hl (k := 2) rfl (by rw [← nI_add]; rfl) (by decide) rfl (fun ls hl => ?_)
        refine lv_iinc (v := (nI (k + 1))) (lv' := [(3, .int (nI (k + 1))), (2, .int (nI (f + 1))), (0, .ref h), (1, .ref h2)]) hx hb dX1_missingIn_35 hl (k := 3) rfl (by rw [← nI_add]; rfl) (by decide) rfl (fun ls hl => ?_)
        refine lv_goto (tgt := 4) hx hb dX1_missingIn_38 (by decide) ?_
        exact ih_1 (k + 1, f + 1) _ ⟨(by (try dsimp only); omega), (by (try dsimp only); omega), (by (try dsimp only); omega), (by (try dsimp only); rw [he, k_miss]; simp [c_2, c_3]), lv_sub hl [2, 3, 1, 0] rfl⟩
  · exact absurd hI.1 (Nat.not_lt_zero _)
set_option maxHeartbeats 4000000 in
set_option maxRecDepth 100000 in
theorem kX1_changedIn (l : Launch) (dC : Nat → ClassId) (dI : Nat → Nat → Nat) (B : Nat) (cI cC cJ : ClassId) (h : Nat) (hk : Nat) (hn : Nat) (hu : Nat) (ks : Nat → Int32) (ns : Nat → Int32) (us : Nat → Int32) (sz : Nat) (h2 : Nat) (hk2 : Nat) (hn2 : Nat) (hu2 : Nat) (ks2 : Nat → Int32) (ns2 : Nat → Int32) (us2 : Nat → Int32) (sz2 : Nat) (hsz : sz ≤ 50) (hsz2 : sz2 ≤ 50) : Met l yX1_changedIn wsX1_changedIn ({ frames := 3, cells := 0, slots := 0, locals := 65 }) (q_Rd (dC, dI) vwCl [.ref h, .ref h2] [(h, .inr (1, [.ref hk, .ref hn, .ref hu, .int (nI sz)])), (hk, .inl (cI, 50, .inl ks)), (hn, .inl (cI, 50, .inl ns)), (hu, .inl (cI, 200, .inl us)), (h2, .inr (1, [.ref hk2, .ref hn2, .ref hu2, .int (nI sz2)])), (hk2, .inl (cI, 50, .inl ks2)), (hn2, .inl (cI, 50, .inl ns2)), (hu2, .inl (cI, 200, .inl us2))] [(cI, .int), (cC, .char), (cJ, .long)] B) (QcRead (nI (k_chg ks ns us sz ks2 ns2 us2 sz2 0 0))) 0 0 (fun _ => False) := by
  refine Met.ofW (cc := cX1_changedIn) (maxL := 5) (ret := (some .int)) (by decide) rfl ?_
  intro p e s m args below meth c s₁ Bd hml hv
  obtain ⟨rfl, hP, hK, hT⟩ := hv
  have hx := Bd.exec
  have hb := Bd.bytes
  have hr := Bd.returns
  have hts := atoms_spec (ws := wsX1_changedIn) Bd.pre
  have hg : ∀ w ∈ lw_good, w.before _ s = true := fun w h => hts w (List.mem_cons_of_mem _ h)
  have hown : s.vm.findClass RX1 = some m.cls := findClass_of_methodNamed Bd.named
  have hlocks := Bd.notSynchronized
  have hSB : va_S (fun q => B ≤ q) s.heap s.heap [] := va_S.rf
  have hP : va_P (dC, dI) vwCl [(h, .inr (1, [.ref hk, .ref hn, .ref hu, .int (nI sz)])), (hk, .inl (cI, 50, .inl ks)), (hn, .inl (cI, 50, .inl ns)), (hu, .inl (cI, 200, .inl us)), (h2, .inr (1, [.ref hk2, .ref hn2, .ref hu2, .int (nI sz2)])), (hk2, .inl (cI, 50, .inl ks2)), (hn2, .inl (cI, 50, .inl ns2)), (hu2, .inl (cI, 200, .inl us2))] s.heap := hP
  have hl := lv_entry ([.ref h, .ref h2]) (n := 5) (Nat.le_of_ble_eq_true rfl)
  rw [lg_entry_eq]
  generalize (lg_sl ([.ref h, .ref h2]) ++ List.replicate (5 - (lg_sl ([.ref h, .ref h2])).length) Slot.unset).toArray = ls at hl ⊢
  have hl : lv_has ls 5 [(0, .ref h), (1, .ref h2)] := hl
  refine lv_iconst (v := 0) hx hb dX1_changedIn_0 (by decide) ?_
  refine lv_istore_n (lv' := [(2, .int 0), (0, .ref h), (1, .ref h2)]) hx hb dX1_changedIn_1 rfl hl (by decide) rfl (fun ls hl => ?_)
  refine lv_iconst (v := 0) hx hb dX1_changedIn_2 (by decide) ?_
  refine lv_istore_n (lv' := [(3, .int 0), (2, .int 0), (0, .ref h), (1, .ref h2)]) hx hb dX1_changedIn_3 rfl hl (by decide) rfl (fun ls hl => ?_)
  refine loop_R (σ := Nat × Nat) (fun n x ls => sz - x.1 < n ∧ x.1 ≤ sz ∧ x.2 ≤ x.1 ∧ k_chg ks ns us sz ks2 ns2 us2 sz2 0 0 = k_chg ks ns us sz ks2 ns2 us2 sz2 x.1 x.2 ∧ lv_has ls 5 [(0, .ref h), (1, .ref h2), (2, .int (nI x.2)), (3, .int (nI x.1))]) (fun n x ls ih_1 hI => ?_) (fun x ls hI => ?_) (n := (sz - 0) + 1) (x := (0, 0)) ⟨(Nat.lt_succ_self _), (by (try dsimp only); omega), (by (try dsimp only); omega), rfl, lv_sub hl [2, 3, 1, 0] rfl⟩
  · skip
    obtain ⟨k, f⟩ := x
    obtain ⟨hfu, hk0, hf0, he, hl⟩ := hI
    have hfu : sz - k < n + 1 := hfu
    have hk0 : k ≤ sz := hk0
    have hf0 : f ≤ k := hf0
    have he : k_chg ks ns us sz ks2 ns2 us2 sz2 0 0 = k_chg ks ns us sz ks2 ns2 us2 sz2 k f := he
    have hl : lv_has ls 5 [(0, .ref h), (1, .ref h2), (2, .int (nI f)), (3, .int (nI k))] := hl
    refine lv_iload_n hx hb dX1_changedIn_4 rfl (lv_at hl 3 rfl) ?_
    refine lv_aload_n hx hb dX1_changedIn_5 rfl (lv_at hl 0 rfl) ?_
    refine va_get (D := (dC, dI)) (ci := 1) (v := .int (nI sz)) (C := RX1) (T := TX1) (N := 4) hx hb hg in_X1 hown hK hP 0 rfl rfl 3 (by decide) (hg _ w_38) (fun _ h9 => h9) rfl dX1_changedIn_6 ?_
    refine lv_icmp_ge (tgt := 56) hx hb dX1_changedIn_9 (by decide) (fun c_2 => ?_) (fun c_2 => ?_)
    · skip
      have c_2 := na_le (a := sz) (b := k) c_2 (by omega) (by omega)
      refine lv_iload_n hx hb dX1_changedIn_56 rfl (lv_at hl 2 rfl) ?_
      exact W.iret (v := (nI f)) hx hb hr (fun t ht hW => rd_end (by rw [he]; rw [k_chg]; simp [c_2]) ht) (fun q h => by cases h) dX1_changedIn_57
    · skip
      have c_2 := na_nle (a := sz) (b := k) c_2 (by omega) (by omega)
      refine lv_aload_n hx hb dX1_changedIn_12 rfl (lv_at hl 1 rfl) ?_
      refine lv_aload_n hx hb dX1_changedIn_13 rfl (lv_at hl 0 rfl) ?_
      refine va_get (D := (dC, dI)) (ci := 1) (v := .ref hk) (C := RX1) (T := TX1) (N := 4) hx hb hg in_X1 hown hK hP 0 rfl rfl 0 (by decide) (hg _ w_35) (fun _ h9 => h9) rfl dX1_changedIn_14 ?_
      refine lv_iload_n hx hb dX1_changedIn_17 rfl (lv_at hl 3 rfl) ?_
      refine x_iald (k := k) hx hb hK hP 1 0 rfl rfl (by omega) (by decide) dX1_changedIn_18 ?_
      refine lv_aload_n hx hb dX1_changedIn_19 rfl (lv_at hl 0 rfl) ?_
      refine va_get (D := (dC, dI)) (ci := 1) (v := .ref hn) (C := RX1) (T := TX1) (N := 4) hx hb hg in_X1 hown hK hP 0 rfl rfl 1 (by decide) (hg _ w_36) (fun _ h9 => h9) rfl dX1_changedIn_20 ?_
      refine lv_iload_n hx hb dX1_changedIn_23 rfl (lv_at hl 3 rfl) ?_
      refine x_iald (k := k) hx hb hK hP 2 0 rfl rfl (by omega) (by decide) dX1_changedIn_24 ?_
      refine go_R (r := k_indexOf ks2 ns2 (ks k) (ns k) sz2 0) (va_runV (As := [.int (ks k), .int (ns k)]) (rest := []) ⟨hx, hb, hml, hown, hg⟩ (kX1_indexOf l dC dI B cI cC cJ h2 hk2 hn2 hu2 ks2 ns2 us2 sz2 (ks k) (ns k) (by omega)) (cwV 2 hg (gi_V w_197 w_147 w_148 w_4 w_149) rfl rfl rfl (by decide +kernel) ⟨Nat.le_of_ble_eq_true rfl, Nat.le_of_ble_eq_true rfl⟩) (pre_RV (va_recv hK hP (ci := 1) (q0 := 4) rfl rfl) (hP.sub [4, 5, 6, 7] rfl) hK hT) rfl rfl hl.1 rfl (lv_room (Nat.le_of_ble_eq_true rfl)) dX1_changedIn_25 ⟨Nat.le_of_ble_eq_true rfl, Nat.le_of_ble_eq_true rfl⟩) ?_
      refine lv_istore (lv' := [(4, .int (k_indexOf ks2 ns2 (ks k) (ns k) sz2 0)), (0, .ref h), (1, .ref h2), (2, .int (nI f)), (3, .int (nI k))]) hx hb dX1_changedIn_28 hl (by decide) rfl (fun ls hl => ?_)
      refine lv_iload hx hb dX1_changedIn_30 (lv_at hl 0 rfl) ?_
      refine lv_iconst (v := (-1)) hx hb dX1_changedIn_32 (by decide) ?_
      refine lv_icmp_eq (tgt := 50) hx hb dX1_changedIn_33 (by decide) (fun c_3 => ?_) (fun c_3 => ?_)
      · skip
        refine lv_iinc (v := (nI (k + 1))) (lv' := [(3, .int (nI (k + 1))), (4, .int (k_indexOf ks2 ns2 (ks k) (ns k) sz2 0)), (0, .ref h), (1, .ref h2), (2, .int (nI f))]) hx hb dX1_changedIn_50 hl (k := 4) rfl (by rw [← nI_add]; rfl) (by decide) rfl (fun ls hl => ?_)
        refine lv_goto (tgt := 4) hx hb dX1_changedIn_53 (by decide) ?_
        exact ih_1 (k + 1, f) _ ⟨(by (try dsimp only); omega), (by (try dsimp only); omega), (by (try dsimp only); omega), (by (try dsimp only); rw [he, k_chg]; simp [c_2, c_3]), lv_sub hl [2, 3, 4, 0] rfl⟩
      · skip
        refine lv_aload_n hx hb dX1_changedIn_36 rfl (lv_at hl 1 rfl) ?_
        refine lv_iload_n hx hb dX1_changedIn_37 rfl (lv_at hl 4 rfl) ?_
        refine lv_aload_n hx hb dX1_changedIn_38 rfl (lv_at hl 2 rfl) ?_
        refine lv_iload hx hb dX1_changedIn_39 (lv_at hl 0 rfl) ?_
        refine go_R (r := (bI (k_same us sz (nI k) us2 sz2 (k_indexOf ks2 ns2 (ks k) (ns k) sz2 0) (k_nK (k_get ks sz (nI k))) 0))) (va_runV (As := [.int (nI k), .ref h2, .int (k_indexOf ks2 ns2 (ks k) (ns k) sz2 0)]) (rest := []) ⟨hx, hb, hml, hown, hg⟩ (kX1_hasSameNumbers l dC dI B cI cC cJ h hk hn hu ks ns us sz h2 hk2 hn2 hu2 ks2 ns2 us2 sz2 (nI k) (k_indexOf ks2 ns2 (ks k) (ns k) sz2 0) (by omega) (by omega)) (cwV 3 hg (gi_V w_202 w_203 w_677 w_4 w_204) rfl rfl rfl (by decide +kernel) ⟨Nat.le_of_ble_eq_true rfl, Nat.le_of_ble_eq_true rfl⟩) (pre_RV (va_recv hK hP (ci := 1) (q0 := 0) rfl rfl) (hP.sub [0, 1, 2, 3, 4, 5, 6, 7] rfl) hK hT) rfl rfl hl.1 rfl (lv_room (Nat.le_of_ble_eq_true rfl)) dX1_changedIn_41 ⟨Nat.le_of_ble_eq_true rfl, Nat.le_of_ble_eq_true rfl⟩) ?_
        refine lv_if_ne (tgt := 50) hx hb dX1_changedIn_44 (by decide) (fun c_4 => ?_) (fun c_4 => ?_)
        · skip
          have c_4 := bI_ne0 c_4
          refine lv_iinc (v := (nI (k + 1))) (lv' := [(3, .int (nI (k + 1))), (4, .int (k_indexOf ks2 ns2 (ks k) (ns k) sz2 0)), (0, .ref h), (1, .ref h2), (2, .int (nI f))]) hx hb dX1_changedIn_50 hl (k := 4) rfl (by rw [← nI_add]; rfl) (by decide) rfl (fun ls hl => ?_)
          refine lv_goto (tgt := 4) hx hb dX1_changedIn_53 (by decide) ?_
          exact ih_1 (k + 1, f) _ ⟨(by (try dsimp only); omega), (by (try dsimp only); omega), (by (try dsimp only); omega), (by (try dsimp only); rw [he, k_chg]; simp [c_2, c_3, c_4]), lv_sub hl [2, 3, 4, 0] rfl⟩
        · skip
          have c_4 := bI_eq0 c_4
          refine lv_iinc (v := (nI (f + 1))) (lv' := [(2, .int (nI (f + 1))), (4, .int (k_indexOf ks2 ns2 (ks k) (ns k) sz2 0)), (0, .ref h), (1, .ref h2), (3, .int (nI k))]) hx hb dX1_changedIn_47 hl (k := 3) rfl (by rw [← nI_add]; rfl) (by decide) rfl (fun ls hl => ?_)
          refine lv_iinc (v := (nI (k + 1))) (lv' := [(3, .int (nI (k + 1))), (2, .int (nI (f + 1))), (4, .int (k_indexOf ks2 ns2 (ks k) (ns k) sz2 0)), (0, .ref h), (1, .ref h2)]) hx hb dX1_changedIn_50 hl (k := 4) rfl (by rw [← nI_add]; rfl) (by decide) rfl (fun ls hl => ?_)
          refine lv_goto (tgt := 4) hx hb dX1_changedIn_53 (by decide) ?_
          exact ih_1 (k + 1, f + 1) _ ⟨(by (try dsimp only); omega), (by (try dsimp only); omega), (by (try dsimp only); omega), (by (try dsimp only); rw [he, k_chg]; simp [c_2, c_3, c_4]), lv_sub hl [3, 4, 1, 0] rfl⟩
  · exact absurd hI.1 (Nat.not_lt_zero _)
end
section
set_option maxHeartbeats 4000000 in
set_option maxRecDepth 100000 in
theorem kX1_clear (l : Launch) (dC : Nat → ClassId) (dI : Nat → Nat → Nat) (B : Nat) (cI cC cJ : ClassId) (h : Nat) (hk : Nat) (hn : Nat) (hu : Nat) (ks : Nat → Int32) (ns : Nat → Int32) (us : Nat → Int32) (sz : Nat) (hsz : sz ≤ 50) (sz9 : Nat) : Met l yX1_clear wsX1_clear ({ frames := 0, cells := 0, slots := 0, locals := 0 }) (q_Mp (dC, dI) vwCl [.ref h] [(h, .inr (1, [.ref hk, .ref hn, .ref hu, .int (nI sz)])), (hk, .inl (cI, 50, .inl ks)), (hn, .inl (cI, 50, .inl ns)), (hu, .inl (cI, 200, .inl us))] [(cI, .int), (cC, .char), (cJ, .long)] B sz9) (q_Mq (dC, dI) vwCl [(h, .inr (1, [.ref hk, .ref hn, .ref hu, .int (nI 0)])), (hk, .inl (cI, 50, .inl ks)), (hn, .inl (cI, 50, .inl ns)), (hu, .inl (cI, 200, .inl us))] (va_A [(h, .inr (1, [.ref hk, .ref hn, .ref hu, .int (nI sz)])), (hk, .inl (cI, 50, .inl ks)), (hn, .inl (cI, 50, .inl ns)), (hu, .inl (cI, 200, .inl us))] sz9) none) 0 0 (va_A [(h, .inr (1, [.ref hk, .ref hn, .ref hu, .int (nI sz)])), (hk, .inl (cI, 50, .inl ks)), (hn, .inl (cI, 50, .inl ns)), (hu, .inl (cI, 200, .inl us))] sz9) := by
  refine Met.ofW (cc := cX1_clear) (maxL := 1) (ret := none) (by decide) rfl ?_
  intro p e s m args below meth c s₁ Bd hml hv
  obtain ⟨rfl, hsz9, hB, hP, hK, hD0, hT⟩ := hv
  have hx := Bd.exec
  have hb := Bd.bytes
  have hr := Bd.returns
  have hts := atoms_spec (ws := wsX1_clear) Bd.pre
  have hg : ∀ w ∈ lw_good, w.before _ s = true := fun w h => hts w (List.mem_cons_of_mem _ h)
  have hown : s.vm.findClass RX1 = some m.cls := findClass_of_methodNamed Bd.named
  have hlocks := Bd.notSynchronized
  subst hsz9
  have hD := hD0.self (sz := s.heap.size)
  generalize hAe : va_A [(h, .inr (1, [.ref hk, .ref hn, .ref hu, .int (nI sz)])), (hk, .inl (cI, 50, .inl ks)), (hn, .inl (cI, 50, .inl ns)), (hu, .inl (cI, 200, .inl us))] s.heap.size = A at hD ⊢
  have hA : ∀ q : Nat, s.heap.size ≤ q → A q := fun q h => by rw [← hAe]; exact Or.inr h
  have hAB : ∀ q, A q → B ≤ q := by rw [← hAe]; exact va_A.ge hD0 hB
  have hS : va_S A s.heap s.heap [] := va_S.rf
  have hP : va_P (dC, dI) vwCl [(h, .inr (1, [.ref hk, .ref hn, .ref hu, .int (nI sz)])), (hk, .inl (cI, 50, .inl ks)), (hn, .inl (cI, 50, .inl ns)), (hu, .inl (cI, 200, .inl us))] s.heap := hP
  have hl := lv_entry ([.ref h]) (n := 1) (Nat.le_of_ble_eq_true rfl)
  rw [lg_entry_eq]
  generalize (lg_sl ([.ref h]) ++ List.replicate (1 - (lg_sl ([.ref h])).length) Slot.unset).toArray = ls at hl ⊢
  have hl : lv_has ls 1 [(0, .ref h)] := hl
  refine lv_aload_n hx hb dX1_clear_0 rfl (lv_at hl 0 rfl) ?_
  refine lv_iconst (v := 0) hx hb dX1_clear_1 (by decide) ?_
  refine va_put (D := (dC, dI)) (ci := 1) (v := .int 0) (ty := .int) (C := RX1) (T := TX1) (N := 4) hx hb hg in_X1 tyX1 tyX1_ok nmX1_ok hown hK hP hD hS 0 rfl rfl 3 (by decide) (hg _ w_38) (fun _ h9 => h9) rfl (by decide +kernel) rfl rfl (Nat.le_of_ble_eq_true rfl) dX1_clear_2 (fun H locs hP hD hS => ?_)
  have hP : va_P (dC, dI) vwCl [(h, .inr (1, [.ref hk, .ref hn, .ref hu, .int 0])), (hk, .inl (cI, 50, .inl ks)), (hn, .inl (cI, 50, .inl ns)), (hu, .inl (cI, 200, .inl us))] H := hP
  have hD : va_D A [(h, .inr (1, [.ref hk, .ref hn, .ref hu, .int 0])), (hk, .inl (cI, 50, .inl ks)), (hn, .inl (cI, 50, .inl ns)), (hu, .inl (cI, 200, .inl us))] := hD
  have hP9 := hP
  have hS9 := hS
  exact W.vret hx hb hr (fun t ht hW => ⟨rfl, by rw [ht]; exact hP9, hS9.F ht⟩) hS9.2.2 dX1_clear_5
set_option maxHeartbeats 4000000 in
set_option maxRecDepth 100000 in
theorem kX1_begin (l : Launch) (dC : Nat → ClassId) (dI : Nat → Nat → Nat) (B : Nat) (cI cC cJ : ClassId) (h : Nat) (hk : Nat) (hn : Nat) (hu : Nat) (ks : Nat → Int32) (ns : Nat → Int32) (us : Nat → Int32) (sz : Nat) (p0 : Int32) (p1 : Int32) (ks1 : Nat → Int32) (ns1 : Nat → Int32) (sz1 : Nat) (hsz : sz ≤ 50) (hF : k_begin ks ns sz p0 p1 = (ks1, ns1, sz1)) (sz9 : Nat) : Met l yX1_begin wsX1_begin ({ frames := 1, cells := 0, slots := 0, locals := 20 }) (q_Mp (dC, dI) vwCl [.ref h, .int p0, .int p1] [(h, .inr (1, [.ref hk, .ref hn, .ref hu, .int (nI sz)])), (hk, .inl (cI, 50, .inl ks)), (hn, .inl (cI, 50, .inl ns)), (hu, .inl (cI, 200, .inl us))] [(cI, .int), (cC, .char), (cJ, .long)] B sz9) (q_Mq (dC, dI) vwCl [(h, .inr (1, [.ref hk, .ref hn, .ref hu, .int (nI sz1)])), (hk, .inl (cI, 50, .inl ks1)), (hn, .inl (cI, 50, .inl ns1)), (hu, .inl (cI, 200, .inl us))] (va_A [(h, .inr (1, [.ref hk, .ref hn, .ref hu, .int (nI sz)])), (hk, .inl (cI, 50, .inl ks)), (hn, .inl (cI, 50, .inl ns)), (hu, .inl (cI, 200, .inl us))] sz9) none) 0 0 (va_A [(h, .inr (1, [.ref hk, .ref hn, .ref hu, .int (nI sz)])), (hk, .inl (cI, 50, .inl ks)), (hn, .inl (cI, 50, .inl ns)), (hu, .inl (cI, 200, .inl us))] sz9) := by
  refine Met.ofW (cc := cX1_begin) (maxL := 3) (ret := none) (by decide) rfl ?_
  intro p e s m args below meth c s₁ Bd hml hv
  obtain ⟨rfl, hsz9, hB, hP, hK, hD0, hT⟩ := hv
  have hx := Bd.exec
  have hb := Bd.bytes
  have hr := Bd.returns
  have hts := atoms_spec (ws := wsX1_begin) Bd.pre
  have hg : ∀ w ∈ lw_good, w.before _ s = true := fun w h => hts w (List.mem_cons_of_mem _ h)
  have hown : s.vm.findClass RX1 = some m.cls := findClass_of_methodNamed Bd.named
  have hlocks := Bd.notSynchronized
  subst hsz9
  have hD := hD0.self (sz := s.heap.size)
  generalize hAe : va_A [(h, .inr (1, [.ref hk, .ref hn, .ref hu, .int (nI sz)])), (hk, .inl (cI, 50, .inl ks)), (hn, .inl (cI, 50, .inl ns)), (hu, .inl (cI, 200, .inl us))] s.heap.size = A at hD ⊢
  have hA : ∀ q : Nat, s.heap.size ≤ q → A q := fun q h => by rw [← hAe]; exact Or.inr h
  have hAB : ∀ q, A q → B ≤ q := by rw [← hAe]; exact va_A.ge hD0 hB
  have hS : va_S A s.heap s.heap [] := va_S.rf
  have hP : va_P (dC, dI) vwCl [(h, .inr (1, [.ref hk, .ref hn, .ref hu, .int (nI sz)])), (hk, .inl (cI, 50, .inl ks)), (hn, .inl (cI, 50, .inl ns)), (hu, .inl (cI, 200, .inl us))] s.heap := hP
  have hl := lv_entry ([.ref h, .int p0, .int p1]) (n := 3) (Nat.le_of_ble_eq_true rfl)
  rw [lg_entry_eq]
  generalize (lg_sl ([.ref h, .int p0, .int p1]) ++ List.replicate (3 - (lg_sl ([.ref h, .int p0, .int p1])).length) Slot.unset).toArray = ls at hl ⊢
  have hl : lv_has ls 3 [(0, .ref h), (1, .int p0), (2, .int p1)] := hl
  refine lv_aload_n hx hb dX1_begin_0 rfl (lv_at hl 0 rfl) ?_
  refine go_R (r := (bI (k_isFull sz))) (va_runV (As := []) (rest := []) ⟨hx, hb, hml, hown, hg⟩ (kX1_isFull l dC dI B cI cC cJ h hk hn hu ks ns us sz (by omega)) (cwV 0 hg (gi_V w_277 w_260 w_261 w_4 w_262) rfl rfl rfl (by decide +kernel) ⟨Nat.le_of_ble_eq_true rfl, Nat.le_of_ble_eq_true rfl⟩) (pre_RV (va_recv hK hP (ci := 1) (q0 := 0) rfl rfl) (hP.sub [0, 1, 2, 3] rfl) hK hT) rfl rfl hl.1 rfl (lv_room (Nat.le_of_ble_eq_true rfl)) dX1_begin_1 ⟨Nat.le_of_ble_eq_true rfl, Nat.le_of_ble_eq_true rfl⟩) ?_
  refine lv_if_ne (tgt := 37) hx hb dX1_begin_4 (by decide) (fun c_1 => ?_) (fun c_1 => ?_)
  · skip
    have c_1 := bI_ne0 c_1
    have hP9 := hP
    have hS9 := hS
    have h9 : k_begin ks ns sz p0 p1 = (ks, ns, sz) := by simp [k_begin, c_1]
    have h9 := hF.symm.trans h9
    cases h9
    exact W.vret hx hb hr (fun t ht hW => ⟨rfl, by rw [ht]; exact hP9, hS9.F ht⟩) hS9.2.2 dX1_begin_37
  · skip
    have c_1 := bI_eq0 c_1
    have hfl := k_isFull_lt c_1
    refine lv_aload_n hx hb dX1_begin_7 rfl (lv_at hl 0 rfl) ?_
    refine va_get (D := (dC, dI)) (ci := 1) (v := .ref hk) (C := RX1) (T := TX1) (N := 4) hx hb hg in_X1 hown hK hP 0 rfl rfl 0 (by decide) (hg _ w_35) (fun _ h9 => h9) rfl dX1_begin_8 ?_
    refine lv_aload_n hx hb dX1_begin_11 rfl (lv_at hl 0 rfl) ?_
    refine va_get (D := (dC, dI)) (ci := 1) (v := .int (nI sz)) (C := RX1) (T := TX1) (N := 4) hx hb hg in_X1 hown hK hP 0 rfl rfl 3 (by decide) (hg _ w_38) (fun _ h9 => h9) rfl dX1_begin_12 ?_
    refine lv_iload_n hx hb dX1_begin_15 rfl (lv_at hl 1 rfl) ?_
    refine x_iast (k := sz) hx hb hK hP hD hS 1 0 rfl rfl (by omega) (by decide) dX1_begin_16 (fun H locs hP hD hS => ?_)
    have hP : va_P (dC, dI) vwCl [(h, .inr (1, [.ref hk, .ref hn, .ref hu, .int (nI sz)])), (hk, .inl (cI, 50, .inl (upd ks sz p0))), (hn, .inl (cI, 50, .inl ns)), (hu, .inl (cI, 200, .inl us))] H := hP
    have hD : va_D A [(h, .inr (1, [.ref hk, .ref hn, .ref hu, .int (nI sz)])), (hk, .inl (cI, 50, .inl (upd ks sz p0))), (hn, .inl (cI, 50, .inl ns)), (hu, .inl (cI, 200, .inl us))] := hD
    refine lv_aload_n hx hb dX1_begin_17 rfl (lv_at hl 0 rfl) ?_
    refine va_get (D := (dC, dI)) (ci := 1) (v := .ref hn) (C := RX1) (T := TX1) (N := 4) hx hb hg in_X1 hown hK hP 0 rfl rfl 1 (by decide) (hg _ w_36) (fun _ h9 => h9) rfl dX1_begin_18 ?_
    refine lv_aload_n hx hb dX1_begin_21 rfl (lv_at hl 0 rfl) ?_
    refine va_get (D := (dC, dI)) (ci := 1) (v := .int (nI sz)) (C := RX1) (T := TX1) (N := 4) hx hb hg in_X1 hown hK hP 0 rfl rfl 3 (by decide) (hg _ w_38) (fun _ h9 => h9) rfl dX1_begin_22 ?_
    refine lv_iload_n hx hb dX1_begin_25 rfl (lv_at hl 2 rfl) ?_
    refine x_iast (k := sz) hx hb hK hP hD hS 2 0 rfl rfl (by omega) (by decide) dX1_begin_26 (fun H locs hP hD hS => ?_)
    have hP : va_P (dC, dI) vwCl [(h, .inr (1, [.ref hk, .ref hn, .ref hu, .int (nI sz)])), (hk, .inl (cI, 50, .inl (upd ks sz p0))), (hn, .inl (cI, 50, .inl (upd ns sz p1))), (hu, .inl (cI, 200, .inl us))] H := hP
    have hD : va_D A [(h, .inr (1, [.ref hk, .ref hn, .ref hu, .int (nI sz)])), (hk, .inl (cI, 50, .inl (upd ks sz p0))), (hn, .inl (cI, 50, .inl (upd ns sz p1))), (hu, .inl (cI, 200, .inl us))] := hD
    refine lv_aload_n hx hb dX1_begin_27 rfl (lv_at hl 0 rfl) ?_
    refine lv_dup hx hb dX1_begin_28 rfl ?_
    refine va_get (D := (dC, dI)) (ci := 1) (v := .int (nI sz)) (C := RX1) (T := TX1) (N := 4) hx hb hg in_X1 hown hK hP 0 rfl rfl 3 (by decide) (hg _ w_38) (fun _ h9 => h9) rfl dX1_begin_29 ?_
    refine lv_iconst (v := 1) hx hb dX1_begin_32 (by decide) ?_
    refine lv_iadd hx hb dX1_begin_33 ?_
    refine top_eq (y := (nI (sz + 1))) (by exact nI_add _ _) ?_
    refine va_put (D := (dC, dI)) (ci := 1) (v := .int (nI (sz + 1))) (ty := .int) (C := RX1) (T := TX1) (N := 4) hx hb hg in_X1 tyX1 tyX1_ok nmX1_ok hown hK hP hD hS 0 rfl rfl 3 (by decide) (hg _ w_38) (fun _ h9 => h9) rfl (by decide +kernel) rfl rfl (Nat.le_of_ble_eq_true rfl) dX1_begin_34 (fun H locs hP hD hS => ?_)
    have hP : va_P (dC, dI) vwCl [(h, .inr (1, [.ref hk, .ref hn, .ref hu, .int (nI (sz + 1))])), (hk, .inl (cI, 50, .inl (upd ks sz p0))), (hn, .inl (cI, 50, .inl (upd ns sz p1))), (hu, .inl (cI, 200, .inl us))] H := hP
    have hD : va_D A [(h, .inr (1, [.ref hk, .ref hn, .ref hu, .int (nI (sz + 1))])), (hk, .inl (cI, 50, .inl (upd ks sz p0))), (hn, .inl (cI, 50, .inl (upd ns sz p1))), (hu, .inl (cI, 200, .inl us))] := hD
    have hP9 := hP
    have hS9 := hS
    have h9 : k_begin ks ns sz p0 p1 = (upd ks sz p0, upd ns sz p1, sz + 1) := by simp [k_begin, c_1]
    have h9 := hF.symm.trans h9
    cases h9
    exact W.vret hx hb hr (fun t ht hW => ⟨rfl, by rw [ht]; exact hP9, hS9.F ht⟩) hS9.2.2 dX1_begin_37
set_option maxHeartbeats 4000000 in
set_option maxRecDepth 100000 in
theorem kX1_setNumber (l : Launch) (dC : Nat → ClassId) (dI : Nat → Nat → Nat) (B : Nat) (cI cC cJ : ClassId) (h : Nat) (hk : Nat) (hn : Nat) (hu : Nat) (ks : Nat → Int32) (ns : Nat → Int32) (us : Nat → Int32) (sz : Nat) (p0 : Int32) (p1 : Int32) (us1 : Nat → Int32) (hsz : sz ≤ 50) (hF : k_setNumber us sz p0 p1 = us1) (sz9 : Nat) : Met l yX1_setNumber wsX1_setNumber ({ frames := 0, cells := 0, slots := 0, locals := 0 }) (q_Mp (dC, dI) vwCl [.ref h, .int p0, .int p1] [(h, .inr (1, [.ref hk, .ref hn, .ref hu, .int (nI sz)])), (hk, .inl (cI, 50, .inl ks)), (hn, .inl (cI, 50, .inl ns)), (hu, .inl (cI, 200, .inl us))] [(cI, .int), (cC, .char), (cJ, .long)] B sz9) (q_Mq (dC, dI) vwCl [(h, .inr (1, [.ref hk, .ref hn, .ref hu, .int (nI sz)])), (hk, .inl (cI, 50, .inl ks)), (hn, .inl (cI, 50, .inl ns)), (hu, .inl (cI, 200, .inl us1))] (va_A [(h, .inr (1, [.ref hk, .ref hn, .ref hu, .int (nI sz)])), (hk, .inl (cI, 50, .inl ks)), (hn, .inl (cI, 50, .inl ns)), (hu, .inl (cI, 200, .inl us))] sz9) none) 0 0 (va_A [(h, .inr (1, [.ref hk, .ref hn, .ref hu, .int (nI sz)])), (hk, .inl (cI, 50, .inl ks)), (hn, .inl (cI, 50, .inl ns)), (hu, .inl (cI, 200, .inl us))] sz9) := by
  refine Met.ofW (cc := cX1_setNumber) (maxL := 3) (ret := none) (by decide) rfl ?_
  intro p e s m args below meth c s₁ Bd hml hv
  obtain ⟨rfl, hsz9, hB, hP, hK, hD0, hT⟩ := hv
  have hx := Bd.exec
  have hb := Bd.bytes
  have hr := Bd.returns
  have hts := atoms_spec (ws := wsX1_setNumber) Bd.pre
  have hg : ∀ w ∈ lw_good, w.before _ s = true := fun w h => hts w (List.mem_cons_of_mem _ h)
  have hown : s.vm.findClass RX1 = some m.cls := findClass_of_methodNamed Bd.named
  have hlocks := Bd.notSynchronized
  subst hsz9
  have hD := hD0.self (sz := s.heap.size)
  generalize hAe : va_A [(h, .inr (1, [.ref hk, .ref hn, .ref hu, .int (nI sz)])), (hk, .inl (cI, 50, .inl ks)), (hn, .inl (cI, 50, .inl ns)), (hu, .inl (cI, 200, .inl us))] s.heap.size = A at hD ⊢
  have hA : ∀ q : Nat, s.heap.size ≤ q → A q := fun q h => by rw [← hAe]; exact Or.inr h
  have hAB : ∀ q, A q → B ≤ q := by rw [← hAe]; exact va_A.ge hD0 hB
  have hS : va_S A s.heap s.heap [] := va_S.rf
  have hP : va_P (dC, dI) vwCl [(h, .inr (1, [.ref hk, .ref hn, .ref hu, .int (nI sz)])), (hk, .inl (cI, 50, .inl ks)), (hn, .inl (cI, 50, .inl ns)), (hu, .inl (cI, 200, .inl us))] s.heap := hP
  have hl := lv_entry ([.ref h, .int p0, .int p1]) (n := 3) (Nat.le_of_ble_eq_true rfl)
  rw [lg_entry_eq]
  generalize (lg_sl ([.ref h, .int p0, .int p1]) ++ List.replicate (3 - (lg_sl ([.ref h, .int p0, .int p1])).length) Slot.unset).toArray = ls at hl ⊢
  have hl : lv_has ls 3 [(0, .ref h), (1, .int p0), (2, .int p1)] := hl
  refine lv_aload_n hx hb dX1_setNumber_0 rfl (lv_at hl 0 rfl) ?_
  refine va_get (D := (dC, dI)) (ci := 1) (v := .int (nI sz)) (C := RX1) (T := TX1) (N := 4) hx hb hg in_X1 hown hK hP 0 rfl rfl 3 (by decide) (hg _ w_38) (fun _ h9 => h9) rfl dX1_setNumber_1 ?_
  refine lv_if_le (tgt := 32) hx hb dX1_setNumber_4 (by decide) (fun c_1 => ?_) (fun c_1 => ?_)
  · skip
    have c_1 := na_le (a := sz) (b := 0) c_1 (by omega) (by omega)
    have hP9 := hP
    have hS9 := hS
    have h9 : k_setNumber us sz p0 p1 = us := by simp [k_setNumber, c_1]
    have h9 := hF.symm.trans h9
    cases h9
    exact W.vret hx hb hr (fun t ht hW => ⟨rfl, by rw [ht]; exact hP9, hS9.F ht⟩) hS9.2.2 dX1_setNumber_32
  · skip
    have c_1 := na_nle (a := sz) (b := 0) c_1 (by omega) (by omega)
    refine lv_iload_n hx hb dX1_setNumber_7 rfl (lv_at hl 1 rfl) ?_
    refine lv_if_lt (tgt := 32) hx hb dX1_setNumber_8 (by decide) (fun c_2 => ?_) (fun c_2 => ?_)
    · skip
      have hP9 := hP
      have hS9 := hS
      have h9 : k_setNumber us sz p0 p1 = us := by simp [k_setNumber, c_1, c_2]
      have h9 := hF.symm.trans h9
      cases h9
      exact W.vret hx hb hr (fun t ht hW => ⟨rfl, by rw [ht]; exact hP9, hS9.F ht⟩) hS9.2.2 dX1_setNumber_32
    · skip
      refine lv_iload_n hx hb dX1_setNumber_11 rfl (lv_at hl 1 rfl) ?_
      refine lv_iconst (v := 4) hx hb dX1_setNumber_12 (by decide) ?_
      refine lv_icmp_ge (tgt := 32) hx hb dX1_setNumber_13 (by decide) (fun c_3 => ?_) (fun c_3 => ?_)
      · skip
        have hP9 := hP
        have hS9 := hS
        have h9 : k_setNumber us sz p0 p1 = us := by simp [k_setNumber, c_1, c_2, c_3]
        have h9 := hF.symm.trans h9
        cases h9
        exact W.vret hx hb hr (fun t ht hW => ⟨rfl, by rw [ht]; exact hP9, hS9.F ht⟩) hS9.2.2 dX1_setNumber_32
      · skip
        refine lv_aload_n hx hb dX1_setNumber_16 rfl (lv_at hl 0 rfl) ?_
        refine va_get (D := (dC, dI)) (ci := 1) (v := .ref hu) (C := RX1) (T := TX1) (N := 4) hx hb hg in_X1 hown hK hP 0 rfl rfl 2 (by decide) (hg _ w_37) (fun _ h9 => h9) rfl dX1_setNumber_17 ?_
        refine lv_aload_n hx hb dX1_setNumber_20 rfl (lv_at hl 0 rfl) ?_
        refine va_get (D := (dC, dI)) (ci := 1) (v := .int (nI sz)) (C := RX1) (T := TX1) (N := 4) hx hb hg in_X1 hown hK hP 0 rfl rfl 3 (by decide) (hg _ w_38) (fun _ h9 => h9) rfl dX1_setNumber_21 ?_
        refine lv_iconst (v := 1) hx hb dX1_setNumber_24 (by decide) ?_
        refine lv_isub hx hb dX1_setNumber_25 ?_
        refine lv_iconst (v := 4) hx hb dX1_setNumber_26 (by decide) ?_
        refine lv_imul hx hb dX1_setNumber_27 ?_
        refine lv_iload_n hx hb dX1_setNumber_28 rfl (lv_at hl 1 rfl) ?_
        refine lv_iadd hx hb dX1_setNumber_29 ?_
        refine lv_iload_n hx hb dX1_setNumber_30 rfl (lv_at hl 2 rfl) ?_
        refine va_iast (i := (((nI sz) - 1) * 4) + p0) hx hb hK hP hD hS 3 0 rfl rfl (ix_set c_1 c_2 c_3 hsz) dX1_setNumber_31 (fun H locs hP hD hS => ?_)
        have hP : va_P (dC, dI) vwCl [(h, .inr (1, [.ref hk, .ref hn, .ref hu, .int (nI sz)])), (hk, .inl (cI, 50, .inl ks)), (hn, .inl (cI, 50, .inl ns)), (hu, .inl (cI, 200, .inl (upd us ((((nI sz) - 1) * 4) + p0).toNatClampNeg p1)))] H := hP
        have hD : va_D A [(h, .inr (1, [.ref hk, .ref hn, .ref hu, .int (nI sz)])), (hk, .inl (cI, 50, .inl ks)), (hn, .inl (cI, 50, .inl ns)), (hu, .inl (cI, 200, .inl (upd us ((((nI sz) - 1) * 4) + p0).toNatClampNeg p1)))] := hD
        have hP9 := hP
        have hS9 := hS
        have h9 : k_setNumber us sz p0 p1 = upd us ((((nI sz) - 1) * 4) + p0).toNatClampNeg p1 := by simp [k_setNumber, c_1, c_2, c_3]
        have h9 := hF.symm.trans h9
        cases h9
        exact W.vret hx hb hr (fun t ht hW => ⟨rfl, by rw [ht]; exact hP9, hS9.F ht⟩) hS9.2.2 dX1_setNumber_32
set_option maxHeartbeats 4000000 in
set_option maxRecDepth 100000 in
theorem kX1_copyFrom (l : Launch) (dC : Nat → ClassId) (dI : Nat → Nat → Nat) (B : Nat) (cI cC cJ : ClassId) (h : Nat) (hk : Nat) (hn : Nat) (hu : Nat) (ks : Nat → Int32) (ns : Nat → Int32) (us : Nat → Int32) (sz : Nat) (h2 : Nat) (hk2 : Nat) (hn2 : Nat) (hu2 : Nat) (ks2 : Nat → Int32) (ns2 : Nat → Int32) (us2 : Nat → Int32) (sz2 : Nat) (hsz : sz ≤ 50) (hsz2 : sz2 ≤ 50) (sz9 : Nat) : Met l yX1_copyFrom wsX1_copyFrom ({ frames := 1, cells := 0, slots := 0, locals := 60 }) (q_Mp (dC, dI) vwCl [.ref h, .ref h2] [(h, .inr (1, [.ref hk, .ref hn, .ref hu, .int (nI sz)])), (hk, .inl (cI, 50, .inl ks)), (hn, .inl (cI, 50, .inl ns)), (hu, .inl (cI, 200, .inl us)), (h2, .inr (1, [.ref hk2, .ref hn2, .ref hu2, .int (nI sz2)])), (hk2, .inl (cI, 50, .inl ks2)), (hn2, .inl (cI, 50, .inl ns2)), (hu2, .inl (cI, 200, .inl us2))] [(cI, .int), (cC, .char), (cJ, .long)] B sz9) (q_Mq (dC, dI) vwCl [(h, .inr (1, [.ref hk, .ref hn, .ref hu, .int (nI sz2)])), (hk, .inl (cI, 50, .inl ks2)), (hn, .inl (cI, 50, .inl ns2)), (hu, .inl (cI, 200, .inl us2)), (h2, .inr (1, [.ref hk2, .ref hn2, .ref hu2, .int (nI sz2)])), (hk2, .inl (cI, 50, .inl ks2)), (hn2, .inl (cI, 50, .inl ns2)), (hu2, .inl (cI, 200, .inl us2))] (va_A [(h, .inr (1, [.ref hk, .ref hn, .ref hu, .int (nI sz)])), (hk, .inl (cI, 50, .inl ks)), (hn, .inl (cI, 50, .inl ns)), (hu, .inl (cI, 200, .inl us)), (h2, .inr (1, [.ref hk2, .ref hn2, .ref hu2, .int (nI sz2)])), (hk2, .inl (cI, 50, .inl ks2)), (hn2, .inl (cI, 50, .inl ns2)), (hu2, .inl (cI, 200, .inl us2))] sz9) none) 0 0 (va_A [(h, .inr (1, [.ref hk, .ref hn, .ref hu, .int (nI sz)])), (hk, .inl (cI, 50, .inl ks)), (hn, .inl (cI, 50, .inl ns)), (hu, .inl (cI, 200, .inl us)), (h2, .inr (1, [.ref hk2, .ref hn2, .ref hu2, .int (nI sz2)])), (hk2, .inl (cI, 50, .inl ks2)), (hn2, .inl (cI, 50, .inl ns2)), (hu2, .inl (cI, 200, .inl us2))] sz9) := by
  refine Met.ofW (cc := cX1_copyFrom) (maxL := 2) (ret := none) (by decide) rfl ?_
  intro p e s m args below meth c s₁ Bd hml hv
  obtain ⟨rfl, hsz9, hB, hP, hK, hD0, hT⟩ := hv
  have hx := Bd.exec
  have hb := Bd.bytes
  have hr := Bd.returns
  have hts := atoms_spec (ws := wsX1_copyFrom) Bd.pre
  have hg : ∀ w ∈ lw_good, w.before _ s = true := fun w h => hts w (List.mem_cons_of_mem _ h)
  have hown : s.vm.findClass RX1 = some m.cls := findClass_of_methodNamed Bd.named
  have hlocks := Bd.notSynchronized
  subst hsz9
  have hD := hD0.self (sz := s.heap.size)
  generalize hAe : va_A [(h, .inr (1, [.ref hk, .ref hn, .ref hu, .int (nI sz)])), (hk, .inl (cI, 50, .inl ks)), (hn, .inl (cI, 50, .inl ns)), (hu, .inl (cI, 200, .inl us)), (h2, .inr (1, [.ref hk2, .ref hn2, .ref hu2, .int (nI sz2)])), (hk2, .inl (cI, 50, .inl ks2)), (hn2, .inl (cI, 50, .inl ns2)), (hu2, .inl (cI, 200, .inl us2))] s.heap.size = A at hD ⊢
  have hA : ∀ q : Nat, s.heap.size ≤ q → A q := fun q h => by rw [← hAe]; exact Or.inr h
  have hAB : ∀ q, A q → B ≤ q := by rw [← hAe]; exact va_A.ge hD0 hB
  have hS : va_S A s.heap s.heap [] := va_S.rf
  have hP : va_P (dC, dI) vwCl [(h, .inr (1, [.ref hk, .ref hn, .ref hu, .int (nI sz)])), (hk, .inl (cI, 50, .inl ks)), (hn, .inl (cI, 50, .inl ns)), (hu, .inl (cI, 200, .inl us)), (h2, .inr (1, [.ref hk2, .ref hn2, .ref hu2, .int (nI sz2)])), (hk2, .inl (cI, 50, .inl ks2)), (hn2, .inl (cI, 50, .inl ns2)), (hu2, .inl (cI, 200, .inl us2))] s.heap := hP
  have hl := lv_entry ([.ref h, .ref h2]) (n := 2) (Nat.le_of_ble_eq_true rfl)
  rw [lg_entry_eq]
  generalize (lg_sl ([.ref h, .ref h2]) ++ List.replicate (2 - (lg_sl ([.ref h, .ref h2])).length) Slot.unset).toArray = ls at hl ⊢
  have hl : lv_has ls 2 [(0, .ref h), (1, .ref h2)] := hl
  refine lv_aload_n hx hb dX1_copyFrom_0 rfl (lv_at hl 0 rfl) ?_
  refine lv_aload_n hx hb dX1_copyFrom_1 rfl (lv_at hl 1 rfl) ?_
  refine va_get (D := (dC, dI)) (ci := 1) (v := .int (nI sz2)) (C := RX1) (T := TX1) (N := 4) hx hb hg in_X1 hown hK hP 4 rfl rfl 3 (by decide) (hg _ w_38) (fun _ h9 => h9) rfl dX1_copyFrom_2 ?_
  refine va_put (D := (dC, dI)) (ci := 1) (v := .int (nI sz2)) (ty := .int) (C := RX1) (T := TX1) (N := 4) hx hb hg in_X1 tyX1 tyX1_ok nmX1_ok hown hK hP hD hS 0 rfl rfl 3 (by decide) (hg _ w_38) (fun _ h9 => h9) rfl (by decide +kernel) rfl rfl (Nat.le_of_ble_eq_true rfl) dX1_copyFrom_5 (fun H locs hP hD hS => ?_)
  have hP : va_P (dC, dI) vwCl [(h, .inr (1, [.ref hk, .ref hn, .ref hu, .int (nI sz2)])), (hk, .inl (cI, 50, .inl ks)), (hn, .inl (cI, 50, .inl ns)), (hu, .inl (cI, 200, .inl us)), (h2, .inr (1, [.ref hk2, .ref hn2, .ref hu2, .int (nI sz2)])), (hk2, .inl (cI, 50, .inl ks2)), (hn2, .inl (cI, 50, .inl ns2)), (hu2, .inl (cI, 200, .inl us2))] H := hP
  have hD : va_D A [(h, .inr (1, [.ref hk, .ref hn, .ref hu, .int (nI sz2)])), (hk, .inl (cI, 50, .inl ks)), (hn, .inl (cI, 50, .inl ns)), (hu, .inl (cI, 200, .inl us)), (h2, .inr (1, [.ref hk2, .ref hn2, .ref hu2, .int (nI sz2)])), (hk2, .inl (cI, 50, .inl ks2)), (hn2, .inl (cI, 50, .inl ns2)), (hu2, .inl (cI, 200, .inl us2))] := hD
  refine lv_aload_n hx hb dX1_copyFrom_8 rfl (lv_at hl 1 rfl) ?_
  refine va_get (D := (dC, dI)) (ci := 1) (v := .ref hk2) (C := RX1) (T := TX1) (N := 4) hx hb hg in_X1 hown hK hP 4 rfl rfl 0 (by decide) (hg _ w_35) (fun _ h9 => h9) rfl dX1_copyFrom_9 ?_
  refine lv_iconst (v := 0) hx hb dX1_copyFrom_12 (by decide) ?_
  refine lv_aload_n hx hb dX1_copyFrom_13 rfl (lv_at hl 0 rfl) ?_
  refine va_get (D := (dC, dI)) (ci := 1) (v := .ref hk) (C := RX1) (T := TX1) (N := 4) hx hb hg in_X1 hown hK hP 0 rfl rfl 0 (by decide) (hg _ w_35) (fun _ h9 => h9) rfl dX1_copyFrom_14 ?_
  refine lv_iconst (v := 0) hx hb dX1_copyFrom_17 (by decide) ?_
  refine lv_bipush (v := 50) hx hb dX1_copyFrom_18 (by decide) ?_
  refine va_copyi (ty := .int) hx hb (hml.trans hl.1.symm) hown (hg _ w_182) (hg _ w_184) (hg _ w_183) (hg _ w_13) hK hP hD hS 5 1 0 0 rfl rfl rfl rfl rfl (by decide) (by decide) (by decide) (by decide) (by decide) (fun _ _ => rfl) (Nat.le_of_ble_eq_true rfl) (Nat.le_of_ble_eq_true rfl) dX1_copyFrom_20 (fun H locs hP hD hS => ?_)
  have hP := hP.congrA (q0 := 1) (g := ks2) rfl (fun j hj => cpy_all (N := 50) (n := 50) (by decide) hj)
  have hP : va_P (dC, dI) vwCl [(h, .inr (1, [.ref hk, .ref hn, .ref hu, .int (nI sz2)])), (hk, .inl (cI, 50, .inl ks2)), (hn, .inl (cI, 50, .inl ns)), (hu, .inl (cI, 200, .inl us)), (h2, .inr (1, [.ref hk2, .ref hn2, .ref hu2, .int (nI sz2)])), (hk2, .inl (cI, 50, .inl ks2)), (hn2, .inl (cI, 50, .inl ns2)), (hu2, .inl (cI, 200, .inl us2))] H := hP
  have hD : va_D A [(h, .inr (1, [.ref hk, .ref hn, .ref hu, .int (nI sz2)])), (hk, .inl (cI, 50, .inl ks2)), (hn, .inl (cI, 50, .inl ns)), (hu, .inl (cI, 200, .inl us)), (h2, .inr (1, [.ref hk2, .ref hn2, .ref hu2, .int (nI sz2)])), (hk2, .inl (cI, 50, .inl ks2)), (hn2, .inl (cI, 50, .inl ns2)), (hu2, .inl (cI, 200, .inl us2))] := hD.of_map rfl
  refine lv_aload_n hx hb dX1_copyFrom_23 rfl (lv_at hl 1 rfl) ?_
  refine va_get (D := (dC, dI)) (ci := 1) (v := .ref hn2) (C := RX1) (T := TX1) (N := 4) hx hb hg in_X1 hown hK hP 4 rfl rfl 1 (by decide) (hg _ w_36) (fun _ h9 => h9) rfl dX1_copyFrom_24 ?_
  refine lv_iconst (v := 0) hx hb dX1_copyFrom_27 (by decide) ?_
  refine lv_aload_n hx hb dX1_copyFrom_28 rfl (lv_at hl 0 rfl) ?_
  refine va_get (D := (dC, dI)) (ci := 1) (v := .ref hn) (C := RX1) (T := TX1) (N := 4) hx hb hg in_X1 hown hK hP 0 rfl rfl 1 (by decide) (hg _ w_36) (fun _ h9 => h9) rfl dX1_copyFrom_29 ?_
  refine lv_iconst (v := 0) hx hb dX1_copyFrom_32 (by decide) ?_
  refine lv_bipush (v := 50) hx hb dX1_copyFrom_33 (by decide) ?_
  refine va_copyi (ty := .int) hx hb (hml.trans hl.1.symm) hown (hg _ w_182) (hg _ w_184) (hg _ w_183) (hg _ w_13) hK hP hD hS 6 2 0 0 rfl rfl rfl rfl rfl (by decide) (by decide) (by decide) (by decide) (by decide) (fun _ _ => rfl) (Nat.le_of_ble_eq_true rfl) (Nat.le_of_ble_eq_true rfl) dX1_copyFrom_35 (fun H locs hP hD hS => ?_)
  have hP := hP.congrA (q0 := 2) (g := ns2) rfl (fun j hj => cpy_all (N := 50) (n := 50) (by decide) hj)
  have hP : va_P (dC, dI) vwCl [(h, .inr (1, [.ref hk, .ref hn, .ref hu, .int (nI sz2)])), (hk, .inl (cI, 50, .inl ks2)), (hn, .inl (cI, 50, .inl ns2)), (hu, .inl (cI, 200, .inl us)), (h2, .inr (1, [.ref hk2, .ref hn2, .ref hu2, .int (nI sz2)])), (hk2, .inl (cI, 50, .inl ks2)), (hn2, .inl (cI, 50, .inl ns2)), (hu2, .inl (cI, 200, .inl us2))] H := hP
  have hD : va_D A [(h, .inr (1, [.ref hk, .ref hn, .ref hu, .int (nI sz2)])), (hk, .inl (cI, 50, .inl ks2)), (hn, .inl (cI, 50, .inl ns2)), (hu, .inl (cI, 200, .inl us)), (h2, .inr (1, [.ref hk2, .ref hn2, .ref hu2, .int (nI sz2)])), (hk2, .inl (cI, 50, .inl ks2)), (hn2, .inl (cI, 50, .inl ns2)), (hu2, .inl (cI, 200, .inl us2))] := hD.of_map rfl
  refine lv_aload_n hx hb dX1_copyFrom_38 rfl (lv_at hl 1 rfl) ?_
  refine va_get (D := (dC, dI)) (ci := 1) (v := .ref hu2) (C := RX1) (T := TX1) (N := 4) hx hb hg in_X1 hown hK hP 4 rfl rfl 2 (by decide) (hg _ w_37) (fun _ h9 => h9) rfl dX1_copyFrom_39 ?_
  refine lv_iconst (v := 0) hx hb dX1_copyFrom_42 (by decide) ?_
  refine lv_aload_n hx hb dX1_copyFrom_43 rfl (lv_at hl 0 rfl) ?_
  refine va_get (D := (dC, dI)) (ci := 1) (v := .ref hu) (C := RX1) (T := TX1) (N := 4) hx hb hg in_X1 hown hK hP 0 rfl rfl 2 (by decide) (hg _ w_37) (fun _ h9 => h9) rfl dX1_copyFrom_44 ?_
  refine lv_iconst (v := 0) hx hb dX1_copyFrom_47 (by decide) ?_
  refine lv_sipush (v := 200) hx hb dX1_copyFrom_48 (by decide) ?_
  refine va_copyi (ty := .int) hx hb (hml.trans hl.1.symm) hown (hg _ w_182) (hg _ w_184) (hg _ w_183) (hg _ w_13) hK hP hD hS 7 3 0 0 rfl rfl rfl rfl rfl (by decide) (by decide) (by decide) (by decide) (by decide) (fun _ _ => rfl) (Nat.le_of_ble_eq_true rfl) (Nat.le_of_ble_eq_true rfl) dX1_copyFrom_51 (fun H locs hP hD hS => ?_)
  have hP := hP.congrA (q0 := 3) (g := us2) rfl (fun j hj => cpy_all (N := 200) (n := 200) (by decide) hj)
  have hP : va_P (dC, dI) vwCl [(h, .inr (1, [.ref hk, .ref hn, .ref hu, .int (nI sz2)])), (hk, .inl (cI, 50, .inl ks2)), (hn, .inl (cI, 50, .inl ns2)), (hu, .inl (cI, 200, .inl us2)), (h2, .inr (1, [.ref hk2, .ref hn2, .ref hu2, .int (nI sz2)])), (hk2, .inl (cI, 50, .inl ks2)), (hn2, .inl (cI, 50, .inl ns2)), (hu2, .inl (cI, 200, .inl us2))] H := hP
  have hD : va_D A [(h, .inr (1, [.ref hk, .ref hn, .ref hu, .int (nI sz2)])), (hk, .inl (cI, 50, .inl ks2)), (hn, .inl (cI, 50, .inl ns2)), (hu, .inl (cI, 200, .inl us2)), (h2, .inr (1, [.ref hk2, .ref hn2, .ref hu2, .int (nI sz2)])), (hk2, .inl (cI, 50, .inl ks2)), (hn2, .inl (cI, 50, .inl ns2)), (hu2, .inl (cI, 200, .inl us2))] := hD.of_map rfl
  have hP9 := hP
  have hS9 := hS
  exact W.vret hx hb hr (fun t ht hW => ⟨rfl, by rw [ht]; exact hP9, hS9.F ht⟩) hS9.2.2 dX1_copyFrom_54
end
section
set_option maxHeartbeats 4000000 in
set_option maxRecDepth 100000 in
theorem kX3_length (l : Launch) (dC : Nat → ClassId) (dI : Nat → Nat → Nat) (B : Nat) (cI cC cJ : ClassId) (r : Nat) (rs : Nat) (h : Nat) (sg : Nat → Int32) (len : Nat) (pl : Nat) (fn : Int32) (fp : Int32) (hlen : len ≤ 500) (hpl : pl ≤ 501) : Met l yX3_length wsX3_length ({ frames := 0, cells := 0, slots := 0, locals := 0 }) (q_Rd (dC, dI) vwCl [.ref r] [(r, .inr (3, [.ref rs, .ref h, .int (nI len), .int (nI pl), .int fn, .int fp])), (rs, .inl (cC, 500, .inl sg))] [(cI, .int), (cC, .char), (cJ, .long)] B) (QcRead (nI len)) 0 0 (fun _ => False) := by
  refine Met.ofW (cc := cX3_length) (maxL := 1) (ret := (some .int)) (by decide) rfl ?_
  intro p e s m args below meth c s₁ Bd hml hv
  obtain ⟨rfl, hP, hK, hT⟩ := hv
  have hx := Bd.exec
  have hb := Bd.bytes
  have hr := Bd.returns
  have hts := atoms_spec (ws := wsX3_length) Bd.pre
  have hg : ∀ w ∈ lw_good, w.before _ s = true := fun w h => hts w (List.mem_cons_of_mem _ h)
  have hown : s.vm.findClass RX3 = some m.cls := findClass_of_methodNamed Bd.named
  have hlocks := Bd.notSynchronized
  have hSB : va_S (fun q => B ≤ q) s.heap s.heap [] := va_S.rf
  have hP : va_P (dC, dI) vwCl [(r, .inr (3, [.ref rs, .ref h, .int (nI len), .int (nI pl), .int fn, .int fp])), (rs, .inl (cC, 500, .inl sg))] s.heap := hP
  have hl := lv_entry ([.ref r]) (n := 1) (Nat.le_of_ble_eq_true rfl)
  rw [lg_entry_eq]
  generalize (lg_sl ([.ref r]) ++ List.replicate (1 - (lg_sl ([.ref r])).length) Slot.unset).toArray = ls at hl ⊢
  have hl : lv_has ls 1 [(0, .ref r)] := hl
  refine lv_aload_n hx hb dX3_length_0 rfl (lv_at hl 0 rfl) ?_
  refine va_get (D := (dC, dI)) (ci := 3) (v := .int (nI len)) (C := RX3) (T := TX3) (N := 6) hx hb hg in_X3 hown hK hP 0 rfl rfl 2 (by decide) (hg _ w_52) (fun _ h9 => h9) rfl dX3_length_1 ?_
  exact W.iret (v := (nI len)) hx hb hr (fun t ht hW => rd_end rfl ht) (fun q h => by cases h) dX3_length_4
set_option maxHeartbeats 4000000 in
set_option maxRecDepth 100000 in
theorem kX3_failureNumber (l : Launch) (dC : Nat → ClassId) (dI : Nat → Nat → Nat) (B : Nat) (cI cC cJ : ClassId) (r : Nat) (rs : Nat) (h : Nat) (sg : Nat → Int32) (len : Nat) (pl : Nat) (fn : Int32) (fp : Int32) (hlen : len ≤ 500) (hpl : pl ≤ 501) : Met l yX3_failureNumber wsX3_failureNumber ({ frames := 0, cells := 0, slots := 0, locals := 0 }) (q_Rd (dC, dI) vwCl [.ref r] [(r, .inr (3, [.ref rs, .ref h, .int (nI len), .int (nI pl), .int fn, .int fp])), (rs, .inl (cC, 500, .inl sg))] [(cI, .int), (cC, .char), (cJ, .long)] B) (QcRead fn) 0 0 (fun _ => False) := by
  refine Met.ofW (cc := cX3_failureNumber) (maxL := 1) (ret := (some .int)) (by decide) rfl ?_
  intro p e s m args below meth c s₁ Bd hml hv
  obtain ⟨rfl, hP, hK, hT⟩ := hv
  have hx := Bd.exec
  have hb := Bd.bytes
  have hr := Bd.returns
  have hts := atoms_spec (ws := wsX3_failureNumber) Bd.pre
  have hg : ∀ w ∈ lw_good, w.before _ s = true := fun w h => hts w (List.mem_cons_of_mem _ h)
  have hown : s.vm.findClass RX3 = some m.cls := findClass_of_methodNamed Bd.named
  have hlocks := Bd.notSynchronized
  have hSB : va_S (fun q => B ≤ q) s.heap s.heap [] := va_S.rf
  have hP : va_P (dC, dI) vwCl [(r, .inr (3, [.ref rs, .ref h, .int (nI len), .int (nI pl), .int fn, .int fp])), (rs, .inl (cC, 500, .inl sg))] s.heap := hP
  have hl := lv_entry ([.ref r]) (n := 1) (Nat.le_of_ble_eq_true rfl)
  rw [lg_entry_eq]
  generalize (lg_sl ([.ref r]) ++ List.replicate (1 - (lg_sl ([.ref r])).length) Slot.unset).toArray = ls at hl ⊢
  have hl : lv_has ls 1 [(0, .ref r)] := hl
  refine lv_aload_n hx hb dX3_failureNumber_0 rfl (lv_at hl 0 rfl) ?_
  refine va_get (D := (dC, dI)) (ci := 3) (v := .int fn) (C := RX3) (T := TX3) (N := 6) hx hb hg in_X3 hown hK hP 0 rfl rfl 4 (by decide) (hg _ w_54) (fun _ h9 => h9) rfl dX3_failureNumber_1 ?_
  exact W.iret (v := fn) hx hb hr (fun t ht hW => rd_end rfl ht) (fun q h => by cases h) dX3_failureNumber_4
set_option maxHeartbeats 4000000 in
set_option maxRecDepth 100000 in
theorem kX3_failurePlace (l : Launch) (dC : Nat → ClassId) (dI : Nat → Nat → Nat) (B : Nat) (cI cC cJ : ClassId) (r : Nat) (rs : Nat) (h : Nat) (sg : Nat → Int32) (len : Nat) (pl : Nat) (fn : Int32) (fp : Int32) (hlen : len ≤ 500) (hpl : pl ≤ 501) : Met l yX3_failurePlace wsX3_failurePlace ({ frames := 0, cells := 0, slots := 0, locals := 0 }) (q_Rd (dC, dI) vwCl [.ref r] [(r, .inr (3, [.ref rs, .ref h, .int (nI len), .int (nI pl), .int fn, .int fp])), (rs, .inl (cC, 500, .inl sg))] [(cI, .int), (cC, .char), (cJ, .long)] B) (QcRead fp) 0 0 (fun _ => False) := by
  refine Met.ofW (cc := cX3_failurePlace) (maxL := 1) (ret := (some .int)) (by decide) rfl ?_
  intro p e s m args below meth c s₁ Bd hml hv
  obtain ⟨rfl, hP, hK, hT⟩ := hv
  have hx := Bd.exec
  have hb := Bd.bytes
  have hr := Bd.returns
  have hts := atoms_spec (ws := wsX3_failurePlace) Bd.pre
  have hg : ∀ w ∈ lw_good, w.before _ s = true := fun w h => hts w (List.mem_cons_of_mem _ h)
  have hown : s.vm.findClass RX3 = some m.cls := findClass_of_methodNamed Bd.named
  have hlocks := Bd.notSynchronized
  have hSB : va_S (fun q => B ≤ q) s.heap s.heap [] := va_S.rf
  have hP : va_P (dC, dI) vwCl [(r, .inr (3, [.ref rs, .ref h, .int (nI len), .int (nI pl), .int fn, .int fp])), (rs, .inl (cC, 500, .inl sg))] s.heap := hP
  have hl := lv_entry ([.ref r]) (n := 1) (Nat.le_of_ble_eq_true rfl)
  rw [lg_entry_eq]
  generalize (lg_sl ([.ref r]) ++ List.replicate (1 - (lg_sl ([.ref r])).length) Slot.unset).toArray = ls at hl ⊢
  have hl : lv_has ls 1 [(0, .ref r)] := hl
  refine lv_aload_n hx hb dX3_failurePlace_0 rfl (lv_at hl 0 rfl) ?_
  refine va_get (D := (dC, dI)) (ci := 3) (v := .int fp) (C := RX3) (T := TX3) (N := 6) hx hb hg in_X3 hown hK hP 0 rfl rfl 5 (by decide) (hg _ w_55) (fun _ h9 => h9) rfl dX3_failurePlace_1 ?_
  exact W.iret (v := fp) hx hb hr (fun t ht hW => rd_end rfl ht) (fun q h => by cases h) dX3_failurePlace_4
set_option maxHeartbeats 4000000 in
set_option maxRecDepth 100000 in
theorem kX3_result (l : Launch) (dC : Nat → ClassId) (dI : Nat → Nat → Nat) (B : Nat) (cI cC cJ : ClassId) (r : Nat) (rs : Nat) (h : Nat) (sg : Nat → Int32) (len : Nat) (pl : Nat) (fn : Int32) (fp : Int32) (hlen : len ≤ 500) (hpl : pl ≤ 501) : Met l yX3_result wsX3_result ({ frames := 0, cells := 0, slots := 0, locals := 0 }) (q_Rd (dC, dI) vwCl [.ref r] [(r, .inr (3, [.ref rs, .ref h, .int (nI len), .int (nI pl), .int fn, .int fp])), (rs, .inl (cC, 500, .inl sg))] [(cI, .int), (cC, .char), (cJ, .long)] B) (k2_QcV (.ref h)) 0 0 (fun _ => False) := by
  refine Met.ofW (cc := cX3_result) (maxL := 1) (ret := (some (.object "HarbourText$Harbour"))) (by decide) rfl ?_
  intro p e s m args below meth c s₁ Bd hml hv
  obtain ⟨rfl, hP, hK, hT⟩ := hv
  have hx := Bd.exec
  have hb := Bd.bytes
  have hr := Bd.returns
  have hts := atoms_spec (ws := wsX3_result) Bd.pre
  have hg : ∀ w ∈ lw_good, w.before _ s = true := fun w h => hts w (List.mem_cons_of_mem _ h)
  have hown : s.vm.findClass RX3 = some m.cls := findClass_of_methodNamed Bd.named
  have hlocks := Bd.notSynchronized
  have hSB : va_S (fun q => B ≤ q) s.heap s.heap [] := va_S.rf
  have hP : va_P (dC, dI) vwCl [(r, .inr (3, [.ref rs, .ref h, .int (nI len), .int (nI pl), .int fn, .int fp])), (rs, .inl (cC, 500, .inl sg))] s.heap := hP
  have hl := lv_entry ([.ref r]) (n := 1) (Nat.le_of_ble_eq_true rfl)
  rw [lg_entry_eq]
  generalize (lg_sl ([.ref r]) ++ List.replicate (1 - (lg_sl ([.ref r])).length) Slot.unset).toArray = ls at hl ⊢
  have hl : lv_has ls 1 [(0, .ref r)] := hl
  refine lv_aload_n hx hb dX3_result_0 rfl (lv_at hl 0 rfl) ?_
  refine va_get (D := (dC, dI)) (ci := 3) (v := .ref h) (C := RX3) (T := TX3) (N := 6) hx hb hg in_X3 hown hK hP 0 rfl rfl 1 (by decide) (hg _ w_51) (fun _ h9 => h9) rfl dX3_result_1 ?_
  exact W.aret hx hb hr (Or.inl ⟨_, rfl⟩) (Or.inr ⟨_, rfl⟩) (fun t ht hW => ⟨rfl, ht⟩) (fun q h => by cases h) dX3_result_4
set_option maxHeartbeats 4000000 in
set_option maxRecDepth 100000 in
theorem kX3_signHere (l : Launch) (dC : Nat → ClassId) (dI : Nat → Nat → Nat) (B : Nat) (cI cC cJ : ClassId) (r : Nat) (rs : Nat) (h : Nat) (sg : Nat → Int32) (len : Nat) (pl : Nat) (fn : Int32) (fp : Int32) (hlen : len ≤ 500) (hpl : pl ≤ 501) : Met l yX3_signHere wsX3_signHere ({ frames := 0, cells := 0, slots := 0, locals := 0 }) (q_Rd (dC, dI) vwCl [.ref r] [(r, .inr (3, [.ref rs, .ref h, .int (nI len), .int (nI pl), .int fn, .int fp])), (rs, .inl (cC, 500, .inl sg))] [(cI, .int), (cC, .char), (cJ, .long)] B) (QcRead (k_sign sg len pl)) 0 0 (fun _ => False) := by
  refine Met.ofW (cc := cX3_signHere) (maxL := 1) (ret := (some .int)) (by decide) rfl ?_
  intro p e s m args below meth c s₁ Bd hml hv
  obtain ⟨rfl, hP, hK, hT⟩ := hv
  have hx := Bd.exec
  have hb := Bd.bytes
  have hr := Bd.returns
  have hts := atoms_spec (ws := wsX3_signHere) Bd.pre
  have hg : ∀ w ∈ lw_good, w.before _ s = true := fun w h => hts w (List.mem_cons_of_mem _ h)
  have hown : s.vm.findClass RX3 = some m.cls := findClass_of_methodNamed Bd.named
  have hlocks := Bd.notSynchronized
  have hSB : va_S (fun q => B ≤ q) s.heap s.heap [] := va_S.rf
  have hP : va_P (dC, dI) vwCl [(r, .inr (3, [.ref rs, .ref h, .int (nI len), .int (nI pl), .int fn, .int fp])), (rs, .inl (cC, 500, .inl sg))] s.heap := hP
  have hl := lv_entry ([.ref r]) (n := 1) (Nat.le_of_ble_eq_true rfl)
  rw [lg_entry_eq]
  generalize (lg_sl ([.ref r]) ++ List.replicate (1 - (lg_sl ([.ref r])).length) Slot.unset).toArray = ls at hl ⊢
  have hl : lv_has ls 1 [(0, .ref r)] := hl
  refine lv_aload_n hx hb dX3_signHere_0 rfl (lv_at hl 0 rfl) ?_
  refine va_get (D := (dC, dI)) (ci := 3) (v := .int (nI pl)) (C := RX3) (T := TX3) (N := 6) hx hb hg in_X3 hown hK hP 0 rfl rfl 3 (by decide) (hg _ w_53) (fun _ h9 => h9) rfl dX3_signHere_1 ?_
  refine lv_if_lt (tgt := 30) hx hb dX3_signHere_4 (by decide) (fun c_1 => ?_) (fun c_1 => ?_)
  · skip
    have c_1 := na_lt (a := pl) (b := 0) c_1 (by omega) (by omega)
    exact absurd c_1 (Nat.not_lt_zero _)
  · skip
    have c_1 := na_nlt (a := pl) (b := 0) c_1 (by omega) (by omega)
    refine lv_aload_n hx hb dX3_signHere_7 rfl (lv_at hl 0 rfl) ?_
    refine va_get (D := (dC, dI)) (ci := 3) (v := .int (nI pl)) (C := RX3) (T := TX3) (N := 6) hx hb hg in_X3 hown hK hP 0 rfl rfl 3 (by decide) (hg _ w_53) (fun _ h9 => h9) rfl dX3_signHere_8 ?_
    refine lv_aload_n hx hb dX3_signHere_11 rfl (lv_at hl 0 rfl) ?_
    refine va_get (D := (dC, dI)) (ci := 3) (v := .int (nI len)) (C := RX3) (T := TX3) (N := 6) hx hb hg in_X3 hown hK hP 0 rfl rfl 2 (by decide) (hg _ w_52) (fun _ h9 => h9) rfl dX3_signHere_12 ?_
    refine lv_icmp_ge (tgt := 30) hx hb dX3_signHere_15 (by decide) (fun c_2 => ?_) (fun c_2 => ?_)
    · skip
      have c_2 := na_le (a := len) (b := pl) c_2 (by omega) (by omega)
      refine lv_iconst (v := (-1)) hx hb dX3_signHere_30 (by decide) ?_
      exact W.iret (v := (-1)) hx hb hr (fun t ht hW => rd_end (by simp [k_sign, c_1, c_2]) ht) (fun q h => by cases h) dX3_signHere_31
    · skip
      have c_2 := na_nle (a := len) (b := pl) c_2 (by omega) (by omega)
      refine lv_aload_n hx hb dX3_signHere_18 rfl (lv_at hl 0 rfl) ?_
      refine va_get (D := (dC, dI)) (ci := 3) (v := .ref rs) (C := RX3) (T := TX3) (N := 6) hx hb hg in_X3 hown hK hP 0 rfl rfl 0 (by decide) (hg _ w_50) (fun _ h9 => h9) rfl dX3_signHere_19 ?_
      refine lv_aload_n hx hb dX3_signHere_22 rfl (lv_at hl 0 rfl) ?_
      refine va_get (D := (dC, dI)) (ci := 3) (v := .int (nI pl)) (C := RX3) (T := TX3) (N := 6) hx hb hg in_X3 hown hK hP 0 rfl rfl 3 (by decide) (hg _ w_53) (fun _ h9 => h9) rfl dX3_signHere_23 ?_
      refine x_cald (k := pl) hx hb hK hP 1 1 rfl rfl (by omega) (by decide) dX3_signHere_26 ?_
      refine lv_goto (tgt := 31) hx hb dX3_signHere_27 (by decide) ?_
      exact W.iret (v := sg pl) hx hb hr (fun t ht hW => rd_end (by simp [k_sign, c_1, c_2]) ht) (fun q h => by cases h) dX3_signHere_31
set_option maxHeartbeats 4000000 in
set_option maxRecDepth 100000 in
theorem kX3_digitHere (l : Launch) (dC : Nat → ClassId) (dI : Nat → Nat → Nat) (B : Nat) (cI cC cJ : ClassId) (r : Nat) (rs : Nat) (h : Nat) (sg : Nat → Int32) (len : Nat) (pl : Nat) (fn : Int32) (fp : Int32) (hlen : len ≤ 500) (hpl : pl ≤ 501) : Met l yX3_digitHere wsX3_digitHere ({ frames := 1, cells := 0, slots := 0, locals := 20 }) (q_Rd (dC, dI) vwCl [.ref r] [(r, .inr (3, [.ref rs, .ref h, .int (nI len), .int (nI pl), .int fn, .int fp])), (rs, .inl (cC, 500, .inl sg))] [(cI, .int), (cC, .char), (cJ, .long)] B) (QcRead (k_digit sg len pl)) 0 0 (fun _ => False) := by
  refine Met.ofW (cc := cX3_digitHere) (maxL := 2) (ret := (some .int)) (by decide) rfl ?_
  intro p e s m args below meth c s₁ Bd hml hv
  obtain ⟨rfl, hP, hK, hT⟩ := hv
  have hx := Bd.exec
  have hb := Bd.bytes
  have hr := Bd.returns
  have hts := atoms_spec (ws := wsX3_digitHere) Bd.pre
  have hg : ∀ w ∈ lw_good, w.before _ s = true := fun w h => hts w (List.mem_cons_of_mem _ h)
  have hown : s.vm.findClass RX3 = some m.cls := findClass_of_methodNamed Bd.named
  have hlocks := Bd.notSynchronized
  have hSB : va_S (fun q => B ≤ q) s.heap s.heap [] := va_S.rf
  have hP : va_P (dC, dI) vwCl [(r, .inr (3, [.ref rs, .ref h, .int (nI len), .int (nI pl), .int fn, .int fp])), (rs, .inl (cC, 500, .inl sg))] s.heap := hP
  have hl := lv_entry ([.ref r]) (n := 2) (Nat.le_of_ble_eq_true rfl)
  rw [lg_entry_eq]
  generalize (lg_sl ([.ref r]) ++ List.replicate (2 - (lg_sl ([.ref r])).length) Slot.unset).toArray = ls at hl ⊢
  have hl : lv_has ls 2 [(0, .ref r)] := hl
  refine lv_aload_n hx hb dX3_digitHere_0 rfl (lv_at hl 0 rfl) ?_
  refine go_R (r := k_sign sg len pl) (va_runV (As := []) (rest := []) ⟨hx, hb, hml, hown, hg⟩ (kX3_signHere l dC dI B cI cC cJ r rs h sg len pl fn fp (by omega) (by omega)) (cwV 0 hg (gi_V w_253 w_254 w_680 w_3 w_255) rfl rfl rfl (by decide +kernel) ⟨Nat.le_of_ble_eq_true rfl, Nat.le_of_ble_eq_true rfl⟩) (pre_RV (va_recv hK hP (ci := 3) (q0 := 0) rfl rfl) (hP.sub [0, 1] rfl) hK hT) rfl rfl hl.1 rfl (lv_room (Nat.le_of_ble_eq_true rfl)) dX3_digitHere_1 ⟨Nat.le_of_ble_eq_true rfl, Nat.le_of_ble_eq_true rfl⟩) ?_
  refine lv_istore_n (lv' := [(1, .int (k_sign sg len pl)), (0, .ref r)]) hx hb dX3_digitHere_4 rfl hl (by decide) rfl (fun ls hl => ?_)
  refine lv_iload_n hx hb dX3_digitHere_5 rfl (lv_at hl 0 rfl) ?_
  refine lv_bipush (v := 48) hx hb dX3_digitHere_6 (by decide) ?_
  refine lv_icmp_lt (tgt := 24) hx hb dX3_digitHere_8 (by decide) (fun c_1 => ?_) (fun c_1 => ?_)
  · skip
    refine lv_iconst (v := (-1)) hx hb dX3_digitHere_24 (by decide) ?_
    exact W.iret (v := (-1)) hx hb hr (fun t ht hW => rd_end (by simp [k_digit, c_1]) ht) (fun q h => by cases h) dX3_digitHere_25
  · skip
    refine lv_iload_n hx hb dX3_digitHere_11 rfl (lv_at hl 0 rfl) ?_
    refine lv_bipush (v := 57) hx hb dX3_digitHere_12 (by decide) ?_
    refine lv_icmp_gt (tgt := 24) hx hb dX3_digitHere_14 (by decide) (fun c_2 => ?_) (fun c_2 => ?_)
    · skip
      refine lv_iconst (v := (-1)) hx hb dX3_digitHere_24 (by decide) ?_
      exact W.iret (v := (-1)) hx hb hr (fun t ht hW => rd_end (by simp [k_digit, c_1, c_2]) ht) (fun q h => by cases h) dX3_digitHere_25
    · skip
      refine lv_iload_n hx hb dX3_digitHere_17 rfl (lv_at hl 0 rfl) ?_
      refine lv_bipush (v := 48) hx hb dX3_digitHere_18 (by decide) ?_
      refine lv_isub hx hb dX3_digitHere_20 ?_
      refine lv_goto (tgt := 25) hx hb dX3_digitHere_21 (by decide) ?_
      exact W.iret (v := (k_sign sg len pl) - 48) hx hb hr (fun t ht hW => rd_end (by simp [k_digit, c_1, c_2]) ht) (fun q h => by cases h) dX3_digitHere_25
set_option maxHeartbeats 4000000 in
set_option maxRecDepth 100000 in
theorem kX3_kindHere (l : Launch) (dC : Nat → ClassId) (dI : Nat → Nat → Nat) (B : Nat) (cI cC cJ : ClassId) (r : Nat) (rs : Nat) (h : Nat) (sg : Nat → Int32) (len : Nat) (pl : Nat) (fn : Int32) (fp : Int32) (hlen : len ≤ 500) (hpl : pl ≤ 501) : Met l yX3_kindHere wsX3_kindHere ({ frames := 1, cells := 0, slots := 0, locals := 20 }) (q_Rd (dC, dI) vwCl [.ref r] [(r, .inr (3, [.ref rs, .ref h, .int (nI len), .int (nI pl), .int fn, .int fp])), (rs, .inl (cC, 500, .inl sg))] [(cI, .int), (cC, .char), (cJ, .long)] B) (QcRead (k_kindF (k_sign sg len pl) 0)) 0 0 (fun _ => False) := by
  refine Met.ofW (cc := cX3_kindHere) (maxL := 3) (ret := (some .int)) (by decide) rfl ?_
  intro p e s m args below meth c s₁ Bd hml hv
  obtain ⟨rfl, hP, hK, hT⟩ := hv
  have hx := Bd.exec
  have hb := Bd.bytes
  have hr := Bd.returns
  have hts := atoms_spec (ws := wsX3_kindHere) Bd.pre
  have hg : ∀ w ∈ lw_good, w.before _ s = true := fun w h => hts w (List.mem_cons_of_mem _ h)
  have hown : s.vm.findClass RX3 = some m.cls := findClass_of_methodNamed Bd.named
  have hlocks := Bd.notSynchronized
  have hSB : va_S (fun q => B ≤ q) s.heap s.heap [] := va_S.rf
  have hP : va_P (dC, dI) vwCl [(r, .inr (3, [.ref rs, .ref h, .int (nI len), .int (nI pl), .int fn, .int fp])), (rs, .inl (cC, 500, .inl sg))] s.heap := hP
  have hT9 := hT.1
  obtain ⟨tL, tN, tA, tZ, zL, aL, zN, aN, zA, aA, zZ, aZ⟩ := hT9
  have hl := lv_entry ([.ref r]) (n := 3) (Nat.le_of_ble_eq_true rfl)
  rw [lg_entry_eq]
  generalize (lg_sl ([.ref r]) ++ List.replicate (3 - (lg_sl ([.ref r])).length) Slot.unset).toArray = ls at hl ⊢
  have hl : lv_has ls 3 [(0, .ref r)] := hl
  refine lv_aload_n hx hb dX3_kindHere_0 rfl (lv_at hl 0 rfl) ?_
  refine go_R (r := k_sign sg len pl) (va_runV (As := []) (rest := []) ⟨hx, hb, hml, hown, hg⟩ (kX3_signHere l dC dI B cI cC cJ r rs h sg len pl fn fp (by omega) (by omega)) (cwV 0 hg (gi_V w_253 w_254 w_680 w_3 w_255) rfl rfl rfl (by decide +kernel) ⟨Nat.le_of_ble_eq_true rfl, Nat.le_of_ble_eq_true rfl⟩) (pre_RV (va_recv hK hP (ci := 3) (q0 := 0) rfl rfl) (hP.sub [0, 1] rfl) hK hT) rfl rfl hl.1 rfl (lv_room (Nat.le_of_ble_eq_true rfl)) dX3_kindHere_1 ⟨Nat.le_of_ble_eq_true rfl, Nat.le_of_ble_eq_true rfl⟩) ?_
  refine lv_istore_n (lv' := [(1, .int (k_sign sg len pl)), (0, .ref r)]) hx hb dX3_kindHere_4 rfl hl (by decide) rfl (fun ls hl => ?_)
  refine lv_iconst (v := 0) hx hb dX3_kindHere_5 (by decide) ?_
  refine lv_istore_n (lv' := [(2, .int 0), (1, .int (k_sign sg len pl)), (0, .ref r)]) hx hb dX3_kindHere_6 rfl hl (by decide) rfl (fun ls hl => ?_)
  refine loop_R (σ := Nat) (fun n x ls => 6 - x < n ∧ x ≤ 6 ∧ k_kindF (k_sign sg len pl) 0 = k_kindF (k_sign sg len pl) x ∧ lv_has ls 3 [(0, .ref r), (1, .int (k_sign sg len pl)), (2, .int (nI x))]) (fun n x ls ih_1 hI => ?_) (fun x ls hI => ?_) (n := (6 - 0) + 1) (x := 0) ⟨(Nat.lt_succ_self _), (by (try dsimp only); omega), rfl, lv_sub hl [2, 1, 0] rfl⟩
  · skip
    obtain ⟨k, rfl⟩ : ∃ z, z = x := ⟨x, rfl⟩
    obtain ⟨hfu, hk0, he, hl⟩ := hI
    have hfu : 6 - k < n + 1 := hfu
    have hk0 : k ≤ 6 := hk0
    have he : k_kindF (k_sign sg len pl) 0 = k_kindF (k_sign sg len pl) k := he
    have hl : lv_has ls 3 [(0, .ref r), (1, .int (k_sign sg len pl)), (2, .int (nI k))] := hl
    refine lv_iload_n hx hb dX3_kindHere_7 rfl (lv_at hl 2 rfl) ?_
    refine lv_bipush (v := 6) hx hb dX3_kindHere_8 (by decide) ?_
    refine lv_icmp_ge (tgt := 30) hx hb dX3_kindHere_10 (by decide) (fun c_2 => ?_) (fun c_2 => ?_)
    · skip
      have c_2 := na_le (a := 6) (b := k) c_2 (by omega) (by omega)
      refine lv_iconst (v := (-1)) hx hb dX3_kindHere_30 (by decide) ?_
      exact W.iret (v := (-1)) hx hb hr (fun t ht hW => rd_end (by rw [he]; rw [k_kindF]; simp [c_2]) ht) (fun q h => by cases h) dX3_kindHere_31
    · skip
      have c_2 := na_nle (a := 6) (b := k) c_2 (by omega) (by omega)
      refine va_getsN hx hb zL hSB hown ((st_B.nF hT (q := ("HarbourText$TextReader", 112, "HarbourText", "LETTERS", "[C")) (List.mem_of_getElem? (i := 0) rfl)).use rfl) (fun _ h9 => h9) dX3_kindHere_13 ?_
      refine lv_iload_n hx hb dX3_kindHere_16 rfl (lv_at hl 2 rfl) ?_
      refine x_tc (k := k) (v := .int (k_tabL k)) hx hb aL hSB (by omega) (by decide) rfl dX3_kindHere_17 ?_
      refine lv_iload_n hx hb dX3_kindHere_18 rfl (lv_at hl 1 rfl) ?_
      refine lv_icmp_ne (tgt := 24) hx hb dX3_kindHere_19 (by decide) (fun c_3 => ?_) (fun c_3 => ?_)
      · skip
        refine lv_iinc (v := (nI (k + 1))) (lv' := [(2, .int (nI (k + 1))), (0, .ref r), (1, .int (k_sign sg len pl))]) hx hb dX3_kindHere_24 hl (k := 2) rfl (by rw [← nI_add]; rfl) (by decide) rfl (fun ls hl => ?_)
        refine lv_goto (tgt := 7) hx hb dX3_kindHere_27 (by decide) ?_
        exact ih_1 (k + 1) _ ⟨(by (try dsimp only); omega), (by (try dsimp only); omega), (by (try dsimp only); rw [he, k_kindF]; simp [c_2, c_3]), lv_sub hl [1, 2, 0] rfl⟩
      · skip
        refine lv_iload_n hx hb dX3_kindHere_22 rfl (lv_at hl 2 rfl) ?_
        exact W.iret (v := (nI k)) hx hb hr (fun t ht hW => rd_end (by rw [he]; rw [k_kindF]; simp [c_2, c_3]) ht) (fun q h => by cases h) dX3_kindHere_23
  · exact absurd hI.1 (Nat.not_lt_zero _)
set_option maxHeartbeats 4000000 in
set_option maxRecDepth 100000 in
theorem kX3_isInRange (l : Launch) (dC : Nat → ClassId) (dI : Nat → Nat → Nat) (B : Nat) (cI cC cJ : ClassId) (p0 : Int32) (p1 : Int32) (p2 : Int32) : Met l yX3_isInRange wsX3_isInRange ({ frames := 1, cells := 0, slots := 0, locals := 20 }) (q_Rd (dC, dI) vwCl [.int p0, .int p1, .int p2] [] [(cI, .int), (cC, .char), (cJ, .long)] B) (QcRead (bI (k_inRange p0 p1 p2))) 0 0 (fun _ => False) := by
  refine Met.ofW (cc := cX3_isInRange) (maxL := 4) (ret := (some .boolean)) (by decide) rfl ?_
  intro p e s m args below meth c s₁ Bd hml hv
  obtain ⟨rfl, hP, hK, hT⟩ := hv
  have hx := Bd.exec
  have hb := Bd.bytes
  have hr := Bd.returns
  have hts := atoms_spec (ws := wsX3_isInRange) Bd.pre
  have hg : ∀ w ∈ lw_good, w.before _ s = true := fun w h => hts w (List.mem_cons_of_mem _ h)
  have hown : s.vm.findClass RX3 = some m.cls := findClass_of_methodNamed Bd.named
  have hlocks := Bd.notSynchronized
  have hSB : va_S (fun q => B ≤ q) s.heap s.heap [] := va_S.rf
  have hP : va_P (dC, dI) vwCl [] s.heap := hP
  have hT9 := hT.1
  obtain ⟨tL, tN, tA, tZ, zL, aL, zN, aN, zA, aA, zZ, aZ⟩ := hT9
  have hl := lv_entry ([.int p0, .int p1, .int p2]) (n := 4) (Nat.le_of_ble_eq_true rfl)
  rw [lg_entry_eq]
  generalize (lg_sl ([.int p0, .int p1, .int p2]) ++ List.replicate (4 - (lg_sl ([.int p0, .int p1, .int p2])).length) Slot.unset).toArray = ls at hl ⊢
  have hl : lv_has ls 4 [(0, .int p0), (1, .int p1), (2, .int p2)] := hl
  refine lv_iload_n hx hb dX3_isInRange_0 rfl (lv_at hl 0 rfl) ?_
  refine go_R (r := (bI (k_isKind p0))) (va_runSN (As := [.int p0]) (rest := []) ⟨hx, hb, hml, hown, hg⟩ (kX5_isKind l dC dI B cI cC cJ p0) ⟨va_cnB 1 hg (gi_N w_213) rfl rfl rfl (st_B.nM hT (q := ("HarbourText$TextReader", 96, yX5_isKind)) (List.mem_of_getElem? (i := 9) rfl)) (hg _ w_2) (by decide +kernel) ⟨Nat.le_of_ble_eq_true rfl, Nat.le_of_ble_eq_true rfl⟩, hg _ w_212, trivial⟩ (pre_RS (hP.sub [] rfl) hK hT) rfl rfl hl.1 rfl (lv_room (Nat.le_of_ble_eq_true rfl)) dX3_isInRange_1 ⟨Nat.le_of_ble_eq_true rfl, Nat.le_of_ble_eq_true rfl⟩) ?_
  refine lv_if_eq (tgt := 16) hx hb dX3_isInRange_4 (by decide) (fun c_1 => ?_) (fun c_1 => ?_)
  · skip
    have c_1 := bI_eq0 c_1
    refine lv_iconst (v := 0) hx hb dX3_isInRange_16 (by decide) ?_
    exact W.zret (v := 0) (ty := .boolean) hx hb hr rfl (fun t ht hW => rd_end (bI_0 (by simp [k_inRange, c_1])).symm ht) (fun q h => by cases h) dX3_isInRange_17
  · skip
    have c_1 := bI_ne0 c_1
    refine lv_iload_n hx hb dX3_isInRange_7 rfl (lv_at hl 1 rfl) ?_
    refine lv_if_lt (tgt := 16) hx hb dX3_isInRange_8 (by decide) (fun c_2 => ?_) (fun c_2 => ?_)
    · skip
      refine lv_iconst (v := 0) hx hb dX3_isInRange_16 (by decide) ?_
      exact W.zret (v := 0) (ty := .boolean) hx hb hr rfl (fun t ht hW => rd_end (bI_0 (by simp [k_inRange, c_1, c_2])).symm ht) (fun q h => by cases h) dX3_isInRange_17
    · skip
      refine lv_iload_n hx hb dX3_isInRange_11 rfl (lv_at hl 1 rfl) ?_
      refine lv_iconst (v := 4) hx hb dX3_isInRange_12 (by decide) ?_
      refine lv_icmp_lt (tgt := 18) hx hb dX3_isInRange_13 (by decide) (fun c_3 => ?_) (fun c_3 => ?_)
      · skip
        refine lv_iload_n hx hb dX3_isInRange_18 rfl (lv_at hl 0 rfl) ?_
        refine lv_iconst (v := 4) hx hb dX3_isInRange_19 (by decide) ?_
        refine lv_imul hx hb dX3_isInRange_20 ?_
        refine lv_iload_n hx hb dX3_isInRange_21 rfl (lv_at hl 1 rfl) ?_
        refine lv_iadd hx hb dX3_isInRange_22 ?_
        refine lv_istore_n (lv' := [(3, .int ((p0 * 4) + p1)), (0, .int p0), (1, .int p1), (2, .int p2)]) hx hb dX3_isInRange_23 rfl hl (by decide) rfl (fun ls hl => ?_)
        refine lv_iload_n hx hb dX3_isInRange_24 rfl (lv_at hl 3 rfl) ?_
        refine va_getsN hx hb zA hSB hown ((st_B.nF hT (q := ("HarbourText$TextReader", 99, "HarbourText", "LEAST", "[I")) (List.mem_of_getElem? (i := 1) rfl)).use rfl) (fun _ h9 => h9) dX3_isInRange_25 ?_
        refine lv_iload_n hx hb dX3_isInRange_28 rfl (lv_at hl 0 rfl) ?_
        refine va_ti (i := (p0 * 4) + p1) (v := .int (k_tabA ((p0 * 4) + p1).toNatClampNeg)) hx hb aA hSB (ix_tab c_1 c_2 c_3) rfl dX3_isInRange_29 ?_
        refine lv_icmp_lt (tgt := 46) hx hb dX3_isInRange_30 (by decide) (fun c_4 => ?_) (fun c_4 => ?_)
        · skip
          refine lv_iconst (v := 0) hx hb dX3_isInRange_46 (by decide) ?_
          exact W.zret (v := 0) (ty := .boolean) hx hb hr rfl (fun t ht hW => rd_end (bI_0 (by simp [k_inRange, c_1, c_2, c_3, c_4])).symm ht) (fun q h => by cases h) dX3_isInRange_47
        · skip
          refine lv_iload_n hx hb dX3_isInRange_33 rfl (lv_at hl 3 rfl) ?_
          refine va_getsN hx hb zZ hSB hown ((st_B.nF hT (q := ("HarbourText$TextReader", 103, "HarbourText", "MOST", "[I")) (List.mem_of_getElem? (i := 2) rfl)).use rfl) (fun _ h9 => h9) dX3_isInRange_34 ?_
          refine lv_iload_n hx hb dX3_isInRange_37 rfl (lv_at hl 0 rfl) ?_
          refine va_ti (i := (p0 * 4) + p1) (v := .int (k_tabZ ((p0 * 4) + p1).toNatClampNeg)) hx hb aZ hSB (ix_tab c_1 c_2 c_3) rfl dX3_isInRange_38 ?_
          refine lv_icmp_gt (tgt := 46) hx hb dX3_isInRange_39 (by decide) (fun c_5 => ?_) (fun c_5 => ?_)
          · skip
            refine lv_iconst (v := 0) hx hb dX3_isInRange_46 (by decide) ?_
            exact W.zret (v := 0) (ty := .boolean) hx hb hr rfl (fun t ht hW => rd_end (bI_0 (by simp [k_inRange, c_1, c_2, c_3, c_4, c_5])).symm ht) (fun q h => by cases h) dX3_isInRange_47
          · skip
            refine lv_iconst (v := 1) hx hb dX3_isInRange_42 (by decide) ?_
            refine lv_goto (tgt := 47) hx hb dX3_isInRange_43 (by decide) ?_
            exact W.zret (v := 1) (ty := .boolean) hx hb hr rfl (fun t ht hW => rd_end (bI_1 (by simp [k_inRange, c_1, c_2, c_3, c_4, c_5])).symm ht) (fun q h => by cases h) dX3_isInRange_47
      · skip
        refine lv_iconst (v := 0) hx hb dX3_isInRange_16 (by decide) ?_
        exact W.zret (v := 0) (ty := .boolean) hx hb hr rfl (fun t ht hW => rd_end (bI_0 (by simp [k_inRange, c_1, c_2, c_3])).symm ht) (fun q h => by cases h) dX3_isInRange_17
set_option maxHeartbeats 4000000 in
set_option maxRecDepth 100000 in
theorem kX3_judgeNumber (l : Launch) (dC : Nat → ClassId) (dI : Nat → Nat → Nat) (B : Nat) (cI cC cJ : ClassId) (r : Nat) (rs : Nat) (sg : Nat → Int32) (len : Nat) (pl : Nat) (fn : Int32) (fp : Int32) (h : Nat) (hk : Nat) (hn : Nat) (hu : Nat) (ks : Nat → Int32) (ns : Nat → Int32) (us : Nat → Int32) (sz : Nat) (p0 : Int32) (p1 : Int32) (p2 : Int32) (hlen : len ≤ 500) (hpl : pl ≤ 501) (hsz : sz ≤ 50) : Met l yX3_judgeNumber wsX3_judgeNumber ({ frames := 2, cells := 0, slots := 0, locals := 43 }) (q_Rd (dC, dI) vwCl [.ref r, .int p0, .int p1, .int p2] [(r, .inr (3, [.ref rs, .ref h, .int (nI len), .int (nI pl), .int fn, .int fp])), (rs, .inl (cC, 500, .inl sg)), (h, .inr (1, [.ref hk, .ref hn, .ref hu, .int (nI sz)])), (hk, .inl (cI, 50, .inl ks)), (hn, .inl (cI, 50, .inl ns)), (hu, .inl (cI, 200, .inl us))] [(cI, .int), (cC, .char), (cJ, .long)] B) (QcRead (k_judge us sz p0 p1 p2)) 0 0 (fun _ => False) := by
  refine Met.ofW (cc := cX3_judgeNumber) (maxL := 4) (ret := (some .int)) (by decide) rfl ?_
  intro p e s m args below meth c s₁ Bd hml hv
  obtain ⟨rfl, hP, hK, hT⟩ := hv
  have hx := Bd.exec
  have hb := Bd.bytes
  have hr := Bd.returns
  have hts := atoms_spec (ws := wsX3_judgeNumber) Bd.pre
  have hg : ∀ w ∈ lw_good, w.before _ s = true := fun w h => hts w (List.mem_cons_of_mem _ h)
  have hown : s.vm.findClass RX3 = some m.cls := findClass_of_methodNamed Bd.named
  have hlocks := Bd.notSynchronized
  have hSB : va_S (fun q => B ≤ q) s.heap s.heap [] := va_S.rf
  have hP : va_P (dC, dI) vwCl [(r, .inr (3, [.ref rs, .ref h, .int (nI len), .int (nI pl), .int fn, .int fp])), (rs, .inl (cC, 500, .inl sg)), (h, .inr (1, [.ref hk, .ref hn, .ref hu, .int (nI sz)])), (hk, .inl (cI, 50, .inl ks)), (hn, .inl (cI, 50, .inl ns)), (hu, .inl (cI, 200, .inl us))] s.heap := hP
  have hl := lv_entry ([.ref r, .int p0, .int p1, .int p2]) (n := 4) (Nat.le_of_ble_eq_true rfl)
  rw [lg_entry_eq]
  generalize (lg_sl ([.ref r, .int p0, .int p1, .int p2]) ++ List.replicate (4 - (lg_sl ([.ref r, .int p0, .int p1, .int p2])).length) Slot.unset).toArray = ls at hl ⊢
  have hl : lv_has ls 4 [(0, .ref r), (1, .int p0), (2, .int p1), (3, .int p2)] := hl
  refine lv_iload_n hx hb dX3_judgeNumber_0 rfl (lv_at hl 1 rfl) ?_
  refine lv_iload_n hx hb dX3_judgeNumber_1 rfl (lv_at hl 2 rfl) ?_
  refine lv_iload_n hx hb dX3_judgeNumber_2 rfl (lv_at hl 3 rfl) ?_
  refine go_R (r := (bI (k_inRange p0 p1 p2))) (va_runS (As := [.int p0, .int p1, .int p2]) (rest := []) ⟨hx, hb, hml, hown, hg⟩ (kX3_isInRange l dC dI B cI cC cJ p0 p1 p2) (va_cwS 3 hg (gi_S w_287 w_288 w_3 w_289) rfl rfl rfl (by decide +kernel) ⟨Nat.le_of_ble_eq_true rfl, Nat.le_of_ble_eq_true rfl⟩) (pre_RS (hP.sub [] rfl) hK hT) rfl rfl hl.1 rfl (lv_room (Nat.le_of_ble_eq_true rfl)) dX3_judgeNumber_3 ⟨Nat.le_of_ble_eq_true rfl, Nat.le_of_ble_eq_true rfl⟩) ?_
  refine lv_if_ne (tgt := 11) hx hb dX3_judgeNumber_6 (by decide) (fun c_1 => ?_) (fun c_1 => ?_)
  · skip
    have c_1 := bI_ne0 c_1
    refine lv_iload_n hx hb dX3_judgeNumber_11 rfl (lv_at hl 1 rfl) ?_
    refine lv_if_eq (tgt := 20) hx hb dX3_judgeNumber_12 (by decide) (fun c_2 => ?_) (fun c_2 => ?_)
    · skip
      refine lv_iload_n hx hb dX3_judgeNumber_20 rfl (lv_at hl 2 rfl) ?_
      refine lv_iconst (v := 1) hx hb dX3_judgeNumber_21 (by decide) ?_
      refine lv_icmp_ne (tgt := 48) hx hb dX3_judgeNumber_22 (by decide) (fun c_3 => ?_) (fun c_3 => ?_)
      · skip
        refine lv_iload_n hx hb dX3_judgeNumber_48 rfl (lv_at hl 1 rfl) ?_
        refine lv_iconst (v := 1) hx hb dX3_judgeNumber_49 (by decide) ?_
        refine lv_icmp_ne (tgt := 64) hx hb dX3_judgeNumber_50 (by decide) (fun c_4 => ?_) (fun c_4 => ?_)
        · skip
          refine lv_iconst (v := 0) hx hb dX3_judgeNumber_64 (by decide) ?_
          exact W.iret (v := 0) hx hb hr (fun t ht hW => rd_end (by rw [k_judge, if_pos c_1]; first | (simp [c_2, c_3, c_4]; done) | (exfalso; simp_all; done) | simp_all) ht) (fun q h => by cases h) dX3_judgeNumber_65
        · skip
          refine lv_iload_n hx hb dX3_judgeNumber_53 rfl (lv_at hl 2 rfl) ?_
          refine lv_iconst (v := 1) hx hb dX3_judgeNumber_54 (by decide) ?_
          refine lv_icmp_ne (tgt := 64) hx hb dX3_judgeNumber_55 (by decide) (fun c_5 => ?_) (fun c_5 => ?_)
          · skip
            refine lv_iconst (v := 0) hx hb dX3_judgeNumber_64 (by decide) ?_
            exact W.iret (v := 0) hx hb hr (fun t ht hW => rd_end (by rw [k_judge, if_pos c_1]; first | (simp [c_2, c_3, c_4, c_5]; done) | (exfalso; simp_all; done) | simp_all) ht) (fun q h => by cases h) dX3_judgeNumber_65
          · skip
            refine lv_iload_n hx hb dX3_judgeNumber_58 rfl (lv_at hl 3 rfl) ?_
            refine lv_if_ne (tgt := 64) hx hb dX3_judgeNumber_59 (by decide) (fun c_6 => ?_) (fun c_6 => ?_)
            · skip
              refine lv_iconst (v := 0) hx hb dX3_judgeNumber_64 (by decide) ?_
              exact W.iret (v := 0) hx hb hr (fun t ht hW => rd_end (by rw [k_judge, if_pos c_1]; first | (simp [c_2, c_3, c_4, c_5, c_6]; done) | (exfalso; simp_all; done) | simp_all) ht) (fun q h => by cases h) dX3_judgeNumber_65
            · skip
              refine lv_iconst (v := 4) hx hb dX3_judgeNumber_62 (by decide) ?_
              exact W.iret (v := 4) hx hb hr (fun t ht hW => rd_end (by rw [k_judge, if_pos c_1]; first | (simp [c_2, c_3, c_4, c_5, c_6]; done) | (exfalso; simp_all; done) | simp_all) ht) (fun q h => by cases h) dX3_judgeNumber_63
      · skip
        refine lv_iload_n hx hb dX3_judgeNumber_25 rfl (lv_at hl 3 rfl) ?_
        refine lv_aload_n hx hb dX3_judgeNumber_26 rfl (lv_at hl 0 rfl) ?_
        refine va_get (D := (dC, dI)) (ci := 3) (v := .ref h) (C := RX3) (T := TX3) (N := 6) hx hb hg in_X3 hown hK hP 0 rfl rfl 1 (by decide) (hg _ w_51) (fun _ h9 => h9) rfl dX3_judgeNumber_27 ?_
        refine lv_aload_n hx hb dX3_judgeNumber_30 rfl (lv_at hl 0 rfl) ?_
        refine va_get (D := (dC, dI)) (ci := 3) (v := .ref h) (C := RX3) (T := TX3) (N := 6) hx hb hg in_X3 hown hK hP 0 rfl rfl 1 (by decide) (hg _ w_51) (fun _ h9 => h9) rfl dX3_judgeNumber_31 ?_
        refine go_R (r := (nI sz)) (va_runV (As := []) (rest := [.ref h, .int p2]) ⟨hx, hb, hml, hown, hg⟩ (kX1_size l dC dI B cI cC cJ h hk hn hu ks ns us sz (by omega)) (cwV 0 hg (gi_V w_290 w_186 w_187 w_4 w_188) rfl rfl rfl (by decide +kernel) ⟨Nat.le_of_ble_eq_true rfl, Nat.le_of_ble_eq_true rfl⟩) (pre_RV (va_recv hK hP (ci := 1) (q0 := 2) rfl rfl) (hP.sub [2, 3, 4, 5] rfl) hK hT) rfl rfl hl.1 rfl (lv_room (Nat.le_of_ble_eq_true rfl)) dX3_judgeNumber_34 ⟨Nat.le_of_ble_eq_true rfl, Nat.le_of_ble_eq_true rfl⟩) ?_
        refine lv_iconst (v := 1) hx hb dX3_judgeNumber_37 (by decide) ?_
        refine lv_isub hx hb dX3_judgeNumber_38 ?_
        refine lv_iconst (v := 0) hx hb dX3_judgeNumber_39 (by decide) ?_
        refine go_R (r := k_num us sz ((nI sz) - 1) 0) (va_runV (As := [.int ((nI sz) - 1), .int 0]) (rest := [.int p2]) ⟨hx, hb, hml, hown, hg⟩ (kX1_numberOf l dC dI B cI cC cJ h hk hn hu ks ns us sz ((nI sz) - 1) 0 (by omega)) (cwV 2 hg (gi_V w_291 w_216 w_217 w_4 w_218) rfl rfl rfl (by decide +kernel) ⟨Nat.le_of_ble_eq_true rfl, Nat.le_of_ble_eq_true rfl⟩) (pre_RV (va_recv hK hP (ci := 1) (q0 := 2) rfl rfl) (hP.sub [2, 3, 4, 5] rfl) hK hT) rfl rfl hl.1 rfl (lv_room (Nat.le_of_ble_eq_true rfl)) dX3_judgeNumber_40 ⟨Nat.le_of_ble_eq_true rfl, Nat.le_of_ble_eq_true rfl⟩) ?_
        refine lv_icmp_ne (tgt := 48) hx hb dX3_judgeNumber_43 (by decide) (fun c_7 => ?_) (fun c_7 => ?_)
        · skip
          refine lv_iload_n hx hb dX3_judgeNumber_48 rfl (lv_at hl 1 rfl) ?_
          refine lv_iconst (v := 1) hx hb dX3_judgeNumber_49 (by decide) ?_
          refine lv_icmp_ne (tgt := 64) hx hb dX3_judgeNumber_50 (by decide) (fun c_8 => ?_) (fun c_8 => ?_)
          · skip
            refine lv_iconst (v := 0) hx hb dX3_judgeNumber_64 (by decide) ?_
            exact W.iret (v := 0) hx hb hr (fun t ht hW => rd_end (by rw [k_judge, if_pos c_1]; first | (simp [c_2, c_3, c_7, c_8]; done) | (exfalso; simp_all; done) | simp_all) ht) (fun q h => by cases h) dX3_judgeNumber_65
          · skip
            refine lv_iload_n hx hb dX3_judgeNumber_53 rfl (lv_at hl 2 rfl) ?_
            refine lv_iconst (v := 1) hx hb dX3_judgeNumber_54 (by decide) ?_
            refine lv_icmp_ne (tgt := 64) hx hb dX3_judgeNumber_55 (by decide) (fun c_9 => ?_) (fun c_9 => ?_)
            · skip
              refine lv_iconst (v := 0) hx hb dX3_judgeNumber_64 (by decide) ?_
              exact W.iret (v := 0) hx hb hr (fun t ht hW => rd_end (by rw [k_judge, if_pos c_1]; first | (simp [c_2, c_3, c_7, c_8, c_9]; done) | (exfalso; simp_all; done) | simp_all) ht) (fun q h => by cases h) dX3_judgeNumber_65
            · skip
              refine lv_iload_n hx hb dX3_judgeNumber_58 rfl (lv_at hl 3 rfl) ?_
              refine lv_if_ne (tgt := 64) hx hb dX3_judgeNumber_59 (by decide) (fun c_10 => ?_) (fun c_10 => ?_)
              · skip
                refine lv_iconst (v := 0) hx hb dX3_judgeNumber_64 (by decide) ?_
                exact W.iret (v := 0) hx hb hr (fun t ht hW => rd_end (by rw [k_judge, if_pos c_1]; first | (simp [c_2, c_3, c_7, c_8, c_9, c_10]; done) | (exfalso; simp_all; done) | simp_all) ht) (fun q h => by cases h) dX3_judgeNumber_65
              · skip
                refine lv_iconst (v := 4) hx hb dX3_judgeNumber_62 (by decide) ?_
                exact W.iret (v := 4) hx hb hr (fun t ht hW => rd_end (by rw [k_judge, if_pos c_1]; first | (simp [c_2, c_3, c_7, c_8, c_9, c_10]; done) | (exfalso; simp_all; done) | simp_all) ht) (fun q h => by cases h) dX3_judgeNumber_63
        · skip
          refine lv_iconst (v := 3) hx hb dX3_judgeNumber_46 (by decide) ?_
          exact W.iret (v := 3) hx hb hr (fun t ht hW => rd_end (by rw [k_judge, if_pos c_1]; first | (simp [c_2, c_3, c_7]; done) | (exfalso; simp_all; done) | simp_all) ht) (fun q h => by cases h) dX3_judgeNumber_47
    · skip
      refine lv_iload_n hx hb dX3_judgeNumber_15 rfl (lv_at hl 1 rfl) ?_
      refine lv_iconst (v := 4) hx hb dX3_judgeNumber_16 (by decide) ?_
      refine lv_icmp_ne (tgt := 48) hx hb dX3_judgeNumber_17 (by decide) (fun c_11 => ?_) (fun c_11 => ?_)
      · skip
        refine lv_iload_n hx hb dX3_judgeNumber_48 rfl (lv_at hl 1 rfl) ?_
        refine lv_iconst (v := 1) hx hb dX3_judgeNumber_49 (by decide) ?_
        refine lv_icmp_ne (tgt := 64) hx hb dX3_judgeNumber_50 (by decide) (fun c_12 => ?_) (fun c_12 => ?_)
        · skip
          refine lv_iconst (v := 0) hx hb dX3_judgeNumber_64 (by decide) ?_
          exact W.iret (v := 0) hx hb hr (fun t ht hW => rd_end (by rw [k_judge, if_pos c_1]; first | (simp [c_2, c_11, c_12]; done) | (exfalso; simp_all; done) | simp_all) ht) (fun q h => by cases h) dX3_judgeNumber_65
        · skip
          refine lv_iload_n hx hb dX3_judgeNumber_53 rfl (lv_at hl 2 rfl) ?_
          refine lv_iconst (v := 1) hx hb dX3_judgeNumber_54 (by decide) ?_
          refine lv_icmp_ne (tgt := 64) hx hb dX3_judgeNumber_55 (by decide) (fun c_13 => ?_) (fun c_13 => ?_)
          · skip
            refine lv_iconst (v := 0) hx hb dX3_judgeNumber_64 (by decide) ?_
            exact W.iret (v := 0) hx hb hr (fun t ht hW => rd_end (by rw [k_judge, if_pos c_1]; first | (simp [c_2, c_11, c_12, c_13]; done) | (exfalso; simp_all; done) | simp_all) ht) (fun q h => by cases h) dX3_judgeNumber_65
          · skip
            refine lv_iload_n hx hb dX3_judgeNumber_58 rfl (lv_at hl 3 rfl) ?_
            refine lv_if_ne (tgt := 64) hx hb dX3_judgeNumber_59 (by decide) (fun c_14 => ?_) (fun c_14 => ?_)
            · skip
              refine lv_iconst (v := 0) hx hb dX3_judgeNumber_64 (by decide) ?_
              exact W.iret (v := 0) hx hb hr (fun t ht hW => rd_end (by rw [k_judge, if_pos c_1]; first | (simp [c_2, c_11, c_12, c_13, c_14]; done) | (exfalso; simp_all; done) | simp_all) ht) (fun q h => by cases h) dX3_judgeNumber_65
            · skip
              refine lv_iconst (v := 4) hx hb dX3_judgeNumber_62 (by decide) ?_
              exact W.iret (v := 4) hx hb hr (fun t ht hW => rd_end (by rw [k_judge, if_pos c_1]; first | (simp [c_2, c_11, c_12, c_13, c_14]; done) | (exfalso; simp_all; done) | simp_all) ht) (fun q h => by cases h) dX3_judgeNumber_63
      · skip
        refine lv_iload_n hx hb dX3_judgeNumber_20 rfl (lv_at hl 2 rfl) ?_
        refine lv_iconst (v := 1) hx hb dX3_judgeNumber_21 (by decide) ?_
        refine lv_icmp_ne (tgt := 48) hx hb dX3_judgeNumber_22 (by decide) (fun c_15 => ?_) (fun c_15 => ?_)
        · skip
          refine lv_iload_n hx hb dX3_judgeNumber_48 rfl (lv_at hl 1 rfl) ?_
          refine lv_iconst (v := 1) hx hb dX3_judgeNumber_49 (by decide) ?_
          refine lv_icmp_ne (tgt := 64) hx hb dX3_judgeNumber_50 (by decide) (fun c_16 => ?_) (fun c_16 => ?_)
          · skip
            refine lv_iconst (v := 0) hx hb dX3_judgeNumber_64 (by decide) ?_
            exact W.iret (v := 0) hx hb hr (fun t ht hW => rd_end (by rw [k_judge, if_pos c_1]; first | (simp [c_2, c_11, c_15, c_16]; done) | (exfalso; simp_all; done) | simp_all) ht) (fun q h => by cases h) dX3_judgeNumber_65
          · skip
            refine lv_iload_n hx hb dX3_judgeNumber_53 rfl (lv_at hl 2 rfl) ?_
            refine lv_iconst (v := 1) hx hb dX3_judgeNumber_54 (by decide) ?_
            refine lv_icmp_ne (tgt := 64) hx hb dX3_judgeNumber_55 (by decide) (fun c_17 => ?_) (fun c_17 => ?_)
            · skip
              refine lv_iconst (v := 0) hx hb dX3_judgeNumber_64 (by decide) ?_
              exact W.iret (v := 0) hx hb hr (fun t ht hW => rd_end (by rw [k_judge, if_pos c_1]; first | (simp [c_2, c_11, c_15, c_16, c_17]; done) | (exfalso; simp_all; done) | simp_all) ht) (fun q h => by cases h) dX3_judgeNumber_65
            · skip
              refine lv_iload_n hx hb dX3_judgeNumber_58 rfl (lv_at hl 3 rfl) ?_
              refine lv_if_ne (tgt := 64) hx hb dX3_judgeNumber_59 (by decide) (fun c_18 => ?_) (fun c_18 => ?_)
              · skip
                refine lv_iconst (v := 0) hx hb dX3_judgeNumber_64 (by decide) ?_
                exact W.iret (v := 0) hx hb hr (fun t ht hW => rd_end (by rw [k_judge, if_pos c_1]; first | (simp [c_2, c_11, c_15, c_16, c_17, c_18]; done) | (exfalso; simp_all; done) | simp_all) ht) (fun q h => by cases h) dX3_judgeNumber_65
              · skip
                refine lv_iconst (v := 4) hx hb dX3_judgeNumber_62 (by decide) ?_
                exact W.iret (v := 4) hx hb hr (fun t ht hW => rd_end (by rw [k_judge, if_pos c_1]; first | (simp [c_2, c_11, c_15, c_16, c_17, c_18]; done) | (exfalso; simp_all; done) | simp_all) ht) (fun q h => by cases h) dX3_judgeNumber_63
        · skip
          refine lv_iload_n hx hb dX3_judgeNumber_25 rfl (lv_at hl 3 rfl) ?_
          refine lv_aload_n hx hb dX3_judgeNumber_26 rfl (lv_at hl 0 rfl) ?_
          refine va_get (D := (dC, dI)) (ci := 3) (v := .ref h) (C := RX3) (T := TX3) (N := 6) hx hb hg in_X3 hown hK hP 0 rfl rfl 1 (by decide) (hg _ w_51) (fun _ h9 => h9) rfl dX3_judgeNumber_27 ?_
          refine lv_aload_n hx hb dX3_judgeNumber_30 rfl (lv_at hl 0 rfl) ?_
          refine va_get (D := (dC, dI)) (ci := 3) (v := .ref h) (C := RX3) (T := TX3) (N := 6) hx hb hg in_X3 hown hK hP 0 rfl rfl 1 (by decide) (hg _ w_51) (fun _ h9 => h9) rfl dX3_judgeNumber_31 ?_
          refine go_R (r := (nI sz)) (va_runV (As := []) (rest := [.ref h, .int p2]) ⟨hx, hb, hml, hown, hg⟩ (kX1_size l dC dI B cI cC cJ h hk hn hu ks ns us sz (by omega)) (cwV 0 hg (gi_V w_290 w_186 w_187 w_4 w_188) rfl rfl rfl (by decide +kernel) ⟨Nat.le_of_ble_eq_true rfl, Nat.le_of_ble_eq_true rfl⟩) (pre_RV (va_recv hK hP (ci := 1) (q0 := 2) rfl rfl) (hP.sub [2, 3, 4, 5] rfl) hK hT) rfl rfl hl.1 rfl (lv_room (Nat.le_of_ble_eq_true rfl)) dX3_judgeNumber_34 ⟨Nat.le_of_ble_eq_true rfl, Nat.le_of_ble_eq_true rfl⟩) ?_
          refine lv_iconst (v := 1) hx hb dX3_judgeNumber_37 (by decide) ?_
          refine lv_isub hx hb dX3_judgeNumber_38 ?_
          refine lv_iconst (v := 0) hx hb dX3_judgeNumber_39 (by decide) ?_
          refine go_R (r := k_num us sz ((nI sz) - 1) 0) (va_runV (As := [.int ((nI sz) - 1), .int 0]) (rest := [.int p2]) ⟨hx, hb, hml, hown, hg⟩ (kX1_numberOf l dC dI B cI cC cJ h hk hn hu ks ns us sz ((nI sz) - 1) 0 (by omega)) (cwV 2 hg (gi_V w_291 w_216 w_217 w_4 w_218) rfl rfl rfl (by decide +kernel) ⟨Nat.le_of_ble_eq_true rfl, Nat.le_of_ble_eq_true rfl⟩) (pre_RV (va_recv hK hP (ci := 1) (q0 := 2) rfl rfl) (hP.sub [2, 3, 4, 5] rfl) hK hT) rfl rfl hl.1 rfl (lv_room (Nat.le_of_ble_eq_true rfl)) dX3_judgeNumber_40 ⟨Nat.le_of_ble_eq_true rfl, Nat.le_of_ble_eq_true rfl⟩) ?_
          refine lv_icmp_ne (tgt := 48) hx hb dX3_judgeNumber_43 (by decide) (fun c_19 => ?_) (fun c_19 => ?_)
          · skip
            refine lv_iload_n hx hb dX3_judgeNumber_48 rfl (lv_at hl 1 rfl) ?_
            refine lv_iconst (v := 1) hx hb dX3_judgeNumber_49 (by decide) ?_
            refine lv_icmp_ne (tgt := 64) hx hb dX3_judgeNumber_50 (by decide) (fun c_20 => ?_) (fun c_20 => ?_)
            · skip
              refine lv_iconst (v := 0) hx hb dX3_judgeNumber_64 (by decide) ?_
              exact W.iret (v := 0) hx hb hr (fun t ht hW => rd_end (by rw [k_judge, if_pos c_1]; first | (simp [c_2, c_11, c_15, c_19, c_20]; done) | (exfalso; simp_all; done) | simp_all) ht) (fun q h => by cases h) dX3_judgeNumber_65
            · skip
              refine lv_iload_n hx hb dX3_judgeNumber_53 rfl (lv_at hl 2 rfl) ?_
              refine lv_iconst (v := 1) hx hb dX3_judgeNumber_54 (by decide) ?_
              refine lv_icmp_ne (tgt := 64) hx hb dX3_judgeNumber_55 (by decide) (fun c_21 => ?_) (fun c_21 => ?_)
              · skip
                refine lv_iconst (v := 0) hx hb dX3_judgeNumber_64 (by decide) ?_
                exact W.iret (v := 0) hx hb hr (fun t ht hW => rd_end (by rw [k_judge, if_pos c_1]; first | (simp [c_2, c_11, c_15, c_19, c_20, c_21]; done) | (exfalso; simp_all; done) | simp_all) ht) (fun q h => by cases h) dX3_judgeNumber_65
              · skip
                refine lv_iload_n hx hb dX3_judgeNumber_58 rfl (lv_at hl 3 rfl) ?_
                refine lv_if_ne (tgt := 64) hx hb dX3_judgeNumber_59 (by decide) (fun c_22 => ?_) (fun c_22 => ?_)
                · skip
                  refine lv_iconst (v := 0) hx hb dX3_judgeNumber_64 (by decide) ?_
                  exact W.iret (v := 0) hx hb hr (fun t ht hW => rd_end (by rw [k_judge, if_pos c_1]; first | (simp [c_2, c_11, c_15, c_19, c_20, c_21, c_22]; done) | (exfalso; simp_all; done) | simp_all) ht) (fun q h => by cases h) dX3_judgeNumber_65
                · skip
                  refine lv_iconst (v := 4) hx hb dX3_judgeNumber_62 (by decide) ?_
                  exact W.iret (v := 4) hx hb hr (fun t ht hW => rd_end (by rw [k_judge, if_pos c_1]; first | (simp [c_2, c_11, c_15, c_19, c_20, c_21, c_22]; done) | (exfalso; simp_all; done) | simp_all) ht) (fun q h => by cases h) dX3_judgeNumber_63
          · skip
            refine lv_iconst (v := 3) hx hb dX3_judgeNumber_46 (by decide) ?_
            exact W.iret (v := 3) hx hb hr (fun t ht hW => rd_end (by rw [k_judge, if_pos c_1]; first | (simp [c_2, c_11, c_15, c_19]; done) | (exfalso; simp_all; done) | simp_all) ht) (fun q h => by cases h) dX3_judgeNumber_47
  · skip
    have c_1 := bI_eq0 c_1
    refine lv_iconst (v := 3) hx hb dX3_judgeNumber_9 (by decide) ?_
    exact W.iret (v := 3) hx hb hr (fun t ht hW => rd_end (by simp [k_judge, c_1]) ht) (fun q h => by cases h) dX3_judgeNumber_10
end
section
set_option maxHeartbeats 4000000 in
set_option maxRecDepth 100000 in
theorem kX3_collect (l : Launch) (dC : Nat → ClassId) (dI : Nat → Nat → Nat) (B : Nat) (cI cC cJ : ClassId) (r : Nat) (rs : Nat) (h : Nat) (sg : Nat → Int32) (len : Nat) (pl : Nat) (fn : Int32) (fp : Int32) (p0 : Int32) (b1 : Bool) (sg1 : Nat → Int32) (len1 : Nat) (hlen : len ≤ 500) (hF : k_collect sg len p0 = (b1, sg1, len1)) (sz9 : Nat) : Met l yX3_collect wsX3_collect ({ frames := 0, cells := 0, slots := 0, locals := 0 }) (q_Mp (dC, dI) vwCl [.ref r, .int p0] [(r, .inr (3, [.ref rs, .ref h, .int (nI len), .int (nI pl), .int fn, .int fp])), (rs, .inl (cC, 500, .inl sg))] [(cI, .int), (cC, .char), (cJ, .long)] B sz9) (q_Mq (dC, dI) vwCl [(r, .inr (3, [.ref rs, .ref h, .int (nI len1), .int (nI pl), .int fn, .int fp])), (rs, .inl (cC, 500, .inl sg1))] (va_A [(r, .inr (3, [.ref rs, .ref h, .int (nI len), .int (nI pl), .int fn, .int fp])), (rs, .inl (cC, 500, .inl sg))] sz9) (some (.int (bI b1)))) 0 0 (va_A [(r, .inr (3, [.ref rs, .ref h, .int (nI len), .int (nI pl), .int fn, .int fp])), (rs, .inl (cC, 500, .inl sg))] sz9) := by
  refine Met.ofW (cc := cX3_collect) (maxL := 2) (ret := (some .boolean)) (by decide) rfl ?_
  intro p e s m args below meth c s₁ Bd hml hv
  obtain ⟨rfl, hsz9, hB, hP, hK, hD0, hT⟩ := hv
  have hx := Bd.exec
  have hb := Bd.bytes
  have hr := Bd.returns
  have hts := atoms_spec (ws := wsX3_collect) Bd.pre
  have hg : ∀ w ∈ lw_good, w.before _ s = true := fun w h => hts w (List.mem_cons_of_mem _ h)
  have hown : s.vm.findClass RX3 = some m.cls := findClass_of_methodNamed Bd.named
  have hlocks := Bd.notSynchronized
  subst hsz9
  have hD := hD0.self (sz := s.heap.size)
  generalize hAe : va_A [(r, .inr (3, [.ref rs, .ref h, .int (nI len), .int (nI pl), .int fn, .int fp])), (rs, .inl (cC, 500, .inl sg))] s.heap.size = A at hD ⊢
  have hA : ∀ q : Nat, s.heap.size ≤ q → A q := fun q h => by rw [← hAe]; exact Or.inr h
  have hAB : ∀ q, A q → B ≤ q := by rw [← hAe]; exact va_A.ge hD0 hB
  have hS : va_S A s.heap s.heap [] := va_S.rf
  have hP : va_P (dC, dI) vwCl [(r, .inr (3, [.ref rs, .ref h, .int (nI len), .int (nI pl), .int fn, .int fp])), (rs, .inl (cC, 500, .inl sg))] s.heap := hP
  have hl := lv_entry ([.ref r, .int p0]) (n := 2) (Nat.le_of_ble_eq_true rfl)
  rw [lg_entry_eq]
  generalize (lg_sl ([.ref r, .int p0]) ++ List.replicate (2 - (lg_sl ([.ref r, .int p0])).length) Slot.unset).toArray = ls at hl ⊢
  have hl : lv_has ls 2 [(0, .ref r), (1, .int p0)] := hl
  refine lv_iload_n hx hb dX3_collect_0 rfl (lv_at hl 1 rfl) ?_
  refine lv_bipush (v := 33) hx hb dX3_collect_1 (by decide) ?_
  refine lv_icmp_lt (tgt := 22) hx hb dX3_collect_3 (by decide) (fun c_1 => ?_) (fun c_1 => ?_)
  · skip
    refine lv_iconst (v := 0) hx hb dX3_collect_22 (by decide) ?_
    have hP9 := hP
    have hS9 := hS
    have h9 : k_collect sg len p0 = (false, sg, len) := by simp [k_collect, c_1]
    have h9 := hF.symm.trans h9
    cases h9
    exact W.zret (ty := .boolean) hx hb hr rfl (fun t ht hW => ⟨rfl, by rw [ht]; exact hP9, hS9.F ht⟩) hS9.2.2 dX3_collect_23
  · skip
    refine lv_iload_n hx hb dX3_collect_6 rfl (lv_at hl 1 rfl) ?_
    refine lv_bipush (v := 126) hx hb dX3_collect_7 (by decide) ?_
    refine lv_icmp_gt (tgt := 22) hx hb dX3_collect_9 (by decide) (fun c_2 => ?_) (fun c_2 => ?_)
    · skip
      refine lv_iconst (v := 0) hx hb dX3_collect_22 (by decide) ?_
      have hP9 := hP
      have hS9 := hS
      have h9 : k_collect sg len p0 = (false, sg, len) := by simp [k_collect, c_1, c_2]
      have h9 := hF.symm.trans h9
      cases h9
      exact W.zret (ty := .boolean) hx hb hr rfl (fun t ht hW => ⟨rfl, by rw [ht]; exact hP9, hS9.F ht⟩) hS9.2.2 dX3_collect_23
    · skip
      refine lv_aload_n hx hb dX3_collect_12 rfl (lv_at hl 0 rfl) ?_
      refine va_get (D := (dC, dI)) (ci := 3) (v := .int (nI len)) (C := RX3) (T := TX3) (N := 6) hx hb hg in_X3 hown hK hP 0 rfl rfl 2 (by decide) (hg _ w_52) (fun _ h9 => h9) rfl dX3_collect_13 ?_
      refine lv_sipush (v := 500) hx hb dX3_collect_16 (by decide) ?_
      refine lv_icmp_lt (tgt := 24) hx hb dX3_collect_19 (by decide) (fun c_3 => ?_) (fun c_3 => ?_)
      · skip
        have c_3 := na_lt (a := len) (b := 500) c_3 (by omega) (by omega)
        refine lv_aload_n hx hb dX3_collect_24 rfl (lv_at hl 0 rfl) ?_
        refine va_get (D := (dC, dI)) (ci := 3) (v := .ref rs) (C := RX3) (T := TX3) (N := 6) hx hb hg in_X3 hown hK hP 0 rfl rfl 0 (by decide) (hg _ w_50) (fun _ h9 => h9) rfl dX3_collect_25 ?_
        refine lv_aload_n hx hb dX3_collect_28 rfl (lv_at hl 0 rfl) ?_
        refine va_get (D := (dC, dI)) (ci := 3) (v := .int (nI len)) (C := RX3) (T := TX3) (N := 6) hx hb hg in_X3 hown hK hP 0 rfl rfl 2 (by decide) (hg _ w_52) (fun _ h9 => h9) rfl dX3_collect_29 ?_
        refine lv_iload_n hx hb dX3_collect_32 rfl (lv_at hl 1 rfl) ?_
        refine lv_i2c (v := (p0.toUInt32 % 65536).toInt32) hx hb dX3_collect_33 rfl ?_
        refine x_cast (k := len) (v := p0) hx hb hK hP hD hS 1 1 rfl rfl (chr_keep c_1 c_2) (by omega) (by decide) dX3_collect_34 (fun H locs hP hD hS => ?_)
        have hP : va_P (dC, dI) vwCl [(r, .inr (3, [.ref rs, .ref h, .int (nI len), .int (nI pl), .int fn, .int fp])), (rs, .inl (cC, 500, .inl (upd sg len p0)))] H := hP
        have hD : va_D A [(r, .inr (3, [.ref rs, .ref h, .int (nI len), .int (nI pl), .int fn, .int fp])), (rs, .inl (cC, 500, .inl (upd sg len p0)))] := hD
        refine lv_aload_n hx hb dX3_collect_35 rfl (lv_at hl 0 rfl) ?_
        refine lv_dup hx hb dX3_collect_36 rfl ?_
        refine va_get (D := (dC, dI)) (ci := 3) (v := .int (nI len)) (C := RX3) (T := TX3) (N := 6) hx hb hg in_X3 hown hK hP 0 rfl rfl 2 (by decide) (hg _ w_52) (fun _ h9 => h9) rfl dX3_collect_37 ?_
        refine lv_iconst (v := 1) hx hb dX3_collect_40 (by decide) ?_
        refine lv_iadd hx hb dX3_collect_41 ?_
        refine top_eq (y := (nI (len + 1))) (by exact nI_add _ _) ?_
        refine va_put (D := (dC, dI)) (ci := 3) (v := .int (nI (len + 1))) (ty := .int) (C := RX3) (T := TX3) (N := 6) hx hb hg in_X3 tyX3 tyX3_ok nmX3_ok hown hK hP hD hS 0 rfl rfl 2 (by decide) (hg _ w_52) (fun _ h9 => h9) rfl (by decide +kernel) rfl rfl (Nat.le_of_ble_eq_true rfl) dX3_collect_42 (fun H locs hP hD hS => ?_)
        have hP : va_P (dC, dI) vwCl [(r, .inr (3, [.ref rs, .ref h, .int (nI (len + 1)), .int (nI pl), .int fn, .int fp])), (rs, .inl (cC, 500, .inl (upd sg len p0)))] H := hP
        have hD : va_D A [(r, .inr (3, [.ref rs, .ref h, .int (nI (len + 1)), .int (nI pl), .int fn, .int fp])), (rs, .inl (cC, 500, .inl (upd sg len p0)))] := hD
        refine lv_iconst (v := 1) hx hb dX3_collect_45 (by decide) ?_
        have hP9 := hP
        have hS9 := hS
        have h9 : k_collect sg len p0 = (true, upd sg len p0, len + 1) := by simp [k_collect, c_1, c_2, c_3]
        have h9 := hF.symm.trans h9
        cases h9
        exact W.zret (ty := .boolean) hx hb hr rfl (fun t ht hW => ⟨rfl, by rw [ht]; exact hP9, hS9.F ht⟩) hS9.2.2 dX3_collect_46
      · skip
        have c_3 := na_nlt (a := len) (b := 500) c_3 (by omega) (by omega)
        refine lv_iconst (v := 0) hx hb dX3_collect_22 (by decide) ?_
        have hP9 := hP
        have hS9 := hS
        have h9 : k_collect sg len p0 = (false, sg, len) := by simp [k_collect, c_1, c_2, c_3]
        have h9 := hF.symm.trans h9
        cases h9
        exact W.zret (ty := .boolean) hx hb hr rfl (fun t ht hW => ⟨rfl, by rw [ht]; exact hP9, hS9.F ht⟩) hS9.2.2 dX3_collect_23
set_option maxHeartbeats 4000000 in
set_option maxRecDepth 100000 in
theorem kX3_fail (l : Launch) (dC : Nat → ClassId) (dI : Nat → Nat → Nat) (B : Nat) (cI cC cJ : ClassId) (r : Nat) (rs : Nat) (h : Nat) (sg : Nat → Int32) (len : Nat) (pl : Nat) (fn : Int32) (fp : Int32) (p0 : Int32) (p1 : Int32) (sz9 : Nat) : Met l yX3_fail wsX3_fail ({ frames := 0, cells := 0, slots := 0, locals := 0 }) (q_Mp (dC, dI) vwCl [.ref r, .int p0, .int p1] [(r, .inr (3, [.ref rs, .ref h, .int (nI len), .int (nI pl), .int fn, .int fp])), (rs, .inl (cC, 500, .inl sg))] [(cI, .int), (cC, .char), (cJ, .long)] B sz9) (q_Mq (dC, dI) vwCl [(r, .inr (3, [.ref rs, .ref h, .int (nI len), .int (nI pl), .int p0, .int p1])), (rs, .inl (cC, 500, .inl sg))] (va_A [(r, .inr (3, [.ref rs, .ref h, .int (nI len), .int (nI pl), .int fn, .int fp])), (rs, .inl (cC, 500, .inl sg))] sz9) (some (.int (bI false)))) 0 0 (va_A [(r, .inr (3, [.ref rs, .ref h, .int (nI len), .int (nI pl), .int fn, .int fp])), (rs, .inl (cC, 500, .inl sg))] sz9) := by
  refine Met.ofW (cc := cX3_fail) (maxL := 3) (ret := (some .boolean)) (by decide) rfl ?_
  intro p e s m args below meth c s₁ Bd hml hv
  obtain ⟨rfl, hsz9, hB, hP, hK, hD0, hT⟩ := hv
  have hx := Bd.exec
  have hb := Bd.bytes
  have hr := Bd.returns
  have hts := atoms_spec (ws := wsX3_fail) Bd.pre
  have hg : ∀ w ∈ lw_good, w.before _ s = true := fun w h => hts w (List.mem_cons_of_mem _ h)
  have hown : s.vm.findClass RX3 = some m.cls := findClass_of_methodNamed Bd.named
  have hlocks := Bd.notSynchronized
  subst hsz9
  have hD := hD0.self (sz := s.heap.size)
  generalize hAe : va_A [(r, .inr (3, [.ref rs, .ref h, .int (nI len), .int (nI pl), .int fn, .int fp])), (rs, .inl (cC, 500, .inl sg))] s.heap.size = A at hD ⊢
  have hA : ∀ q : Nat, s.heap.size ≤ q → A q := fun q h => by rw [← hAe]; exact Or.inr h
  have hAB : ∀ q, A q → B ≤ q := by rw [← hAe]; exact va_A.ge hD0 hB
  have hS : va_S A s.heap s.heap [] := va_S.rf
  have hP : va_P (dC, dI) vwCl [(r, .inr (3, [.ref rs, .ref h, .int (nI len), .int (nI pl), .int fn, .int fp])), (rs, .inl (cC, 500, .inl sg))] s.heap := hP
  have hl := lv_entry ([.ref r, .int p0, .int p1]) (n := 3) (Nat.le_of_ble_eq_true rfl)
  rw [lg_entry_eq]
  generalize (lg_sl ([.ref r, .int p0, .int p1]) ++ List.replicate (3 - (lg_sl ([.ref r, .int p0, .int p1])).length) Slot.unset).toArray = ls at hl ⊢
  have hl : lv_has ls 3 [(0, .ref r), (1, .int p0), (2, .int p1)] := hl
  refine lv_aload_n hx hb dX3_fail_0 rfl (lv_at hl 0 rfl) ?_
  refine lv_iload_n hx hb dX3_fail_1 rfl (lv_at hl 1 rfl) ?_
  refine va_put (D := (dC, dI)) (ci := 3) (v := .int p0) (ty := .int) (C := RX3) (T := TX3) (N := 6) hx hb hg in_X3 tyX3 tyX3_ok nmX3_ok hown hK hP hD hS 0 rfl rfl 4 (by decide) (hg _ w_54) (fun _ h9 => h9) rfl (by decide +kernel) rfl rfl (Nat.le_of_ble_eq_true rfl) dX3_fail_2 (fun H locs hP hD hS => ?_)
  have hP : va_P (dC, dI) vwCl [(r, .inr (3, [.ref rs, .ref h, .int (nI len), .int (nI pl), .int p0, .int fp])), (rs, .inl (cC, 500, .inl sg))] H := hP
  have hD : va_D A [(r, .inr (3, [.ref rs, .ref h, .int (nI len), .int (nI pl), .int p0, .int fp])), (rs, .inl (cC, 500, .inl sg))] := hD
  refine lv_aload_n hx hb dX3_fail_5 rfl (lv_at hl 0 rfl) ?_
  refine lv_iload_n hx hb dX3_fail_6 rfl (lv_at hl 2 rfl) ?_
  refine va_put (D := (dC, dI)) (ci := 3) (v := .int p1) (ty := .int) (C := RX3) (T := TX3) (N := 6) hx hb hg in_X3 tyX3 tyX3_ok nmX3_ok hown hK hP hD hS 0 rfl rfl 5 (by decide) (hg _ w_55) (fun _ h9 => h9) rfl (by decide +kernel) rfl rfl (Nat.le_of_ble_eq_true rfl) dX3_fail_7 (fun H locs hP hD hS => ?_)
  have hP : va_P (dC, dI) vwCl [(r, .inr (3, [.ref rs, .ref h, .int (nI len), .int (nI pl), .int p0, .int p1])), (rs, .inl (cC, 500, .inl sg))] H := hP
  have hD : va_D A [(r, .inr (3, [.ref rs, .ref h, .int (nI len), .int (nI pl), .int p0, .int p1])), (rs, .inl (cC, 500, .inl sg))] := hD
  refine lv_iconst (v := 0) hx hb dX3_fail_10 (by decide) ?_
  have hP9 := hP
  have hS9 := hS
  exact W.zret (ty := .boolean) hx hb hr rfl (fun t ht hW => ⟨rfl, by rw [ht]; exact hP9, hS9.F ht⟩) hS9.2.2 dX3_fail_11
set_option maxHeartbeats 4000000 in
set_option maxRecDepth 100000 in
theorem kX3_readDigits (l : Launch) (dC : Nat → ClassId) (dI : Nat → Nat → Nat) (B : Nat) (cI cC cJ : ClassId) (r : Nat) (rs : Nat) (h : Nat) (sg : Nat → Int32) (len : Nat) (pl : Nat) (fn : Int32) (fp : Int32) (x1 : Int32) (pl1 : Nat) (hlen : len ≤ 500) (hpl : pl ≤ len) (hF : k_readDigits sg len pl = (x1, pl1)) (sz9 : Nat) : Met l yX3_readDigits wsX3_readDigits ({ frames := 2, cells := 0, slots := 0, locals := 41 }) (q_Mp (dC, dI) vwCl [.ref r] [(r, .inr (3, [.ref rs, .ref h, .int (nI len), .int (nI pl), .int fn, .int fp])), (rs, .inl (cC, 500, .inl sg))] [(cI, .int), (cC, .char), (cJ, .long)] B sz9) (q_Mq (dC, dI) vwCl [(r, .inr (3, [.ref rs, .ref h, .int (nI len), .int (nI pl1), .int fn, .int fp])), (rs, .inl (cC, 500, .inl sg))] (va_A [(r, .inr (3, [.ref rs, .ref h, .int (nI len), .int (nI pl), .int fn, .int fp])), (rs, .inl (cC, 500, .inl sg))] sz9) (some (.int x1))) 0 0 (va_A [(r, .inr (3, [.ref rs, .ref h, .int (nI len), .int (nI pl), .int fn, .int fp])), (rs, .inl (cC, 500, .inl sg))] sz9) := by
  refine Met.ofW (cc := cX3_readDigits) (maxL := 3) (ret := (some .int)) (by decide) rfl ?_
  intro p e s m args below meth c s₁ Bd hml hv
  obtain ⟨rfl, hsz9, hB, hP, hK, hD0, hT⟩ := hv
  have hx := Bd.exec
  have hb := Bd.bytes
  have hr := Bd.returns
  have hts := atoms_spec (ws := wsX3_readDigits) Bd.pre
  have hg : ∀ w ∈ lw_good, w.before _ s = true := fun w h => hts w (List.mem_cons_of_mem _ h)
  have hown : s.vm.findClass RX3 = some m.cls := findClass_of_methodNamed Bd.named
  have hlocks := Bd.notSynchronized
  subst hsz9
  have hD := hD0.self (sz := s.heap.size)
  generalize hAe : va_A [(r, .inr (3, [.ref rs, .ref h, .int (nI len), .int (nI pl), .int fn, .int fp])), (rs, .inl (cC, 500, .inl sg))] s.heap.size = A at hD ⊢
  have hA : ∀ q : Nat, s.heap.size ≤ q → A q := fun q h => by rw [← hAe]; exact Or.inr h
  have hAB : ∀ q, A q → B ≤ q := by rw [← hAe]; exact va_A.ge hD0 hB
  have hS : va_S A s.heap s.heap [] := va_S.rf
  have hP : va_P (dC, dI) vwCl [(r, .inr (3, [.ref rs, .ref h, .int (nI len), .int (nI pl), .int fn, .int fp])), (rs, .inl (cC, 500, .inl sg))] s.heap := hP
  have hl := lv_entry ([.ref r]) (n := 3) (Nat.le_of_ble_eq_true rfl)
  rw [lg_entry_eq]
  generalize (lg_sl ([.ref r]) ++ List.replicate (3 - (lg_sl ([.ref r])).length) Slot.unset).toArray = ls at hl ⊢
  have hl : lv_has ls 3 [(0, .ref r)] := hl
  refine lv_aload_n hx hb dX3_readDigits_0 rfl (lv_at hl 0 rfl) ?_
  refine go_R (r := k_digit sg len pl) (va_runV (As := []) (rest := []) ⟨hx, hb, hml, hown, hg⟩ (kX3_digitHere l dC dI B cI cC cJ r rs h sg len pl fn fp (by omega) (by omega)) (cwV 0 hg (gi_V w_269 w_270 w_684 w_3 w_271) rfl rfl rfl (by decide +kernel) ⟨Nat.le_of_ble_eq_true rfl, Nat.le_of_ble_eq_true rfl⟩) (pre_RV (va_recv hK hP (ci := 3) (q0 := 0) rfl rfl) (hP.sub [0, 1] rfl) hK hT) rfl rfl hl.1 rfl (lv_room (Nat.le_of_ble_eq_true rfl)) dX3_readDigits_1 ⟨Nat.le_of_ble_eq_true rfl, Nat.le_of_ble_eq_true rfl⟩) ?_
  refine lv_istore_n (lv' := [(1, .int (k_digit sg len pl)), (0, .ref r)]) hx hb dX3_readDigits_4 rfl hl (by decide) rfl (fun ls hl => ?_)
  refine lv_iload_n hx hb dX3_readDigits_5 rfl (lv_at hl 0 rfl) ?_
  refine lv_iconst (v := (-1)) hx hb dX3_readDigits_6 (by decide) ?_
  refine lv_icmp_ne (tgt := 12) hx hb dX3_readDigits_7 (by decide) (fun c_1 => ?_) (fun c_1 => ?_)
  · skip
    refine lv_aload_n hx hb dX3_readDigits_12 rfl (lv_at hl 1 rfl) ?_
    refine lv_dup hx hb dX3_readDigits_13 rfl ?_
    refine va_get (D := (dC, dI)) (ci := 3) (v := .int (nI pl)) (C := RX3) (T := TX3) (N := 6) hx hb hg in_X3 hown hK hP 0 rfl rfl 3 (by decide) (hg _ w_53) (fun _ h9 => h9) rfl dX3_readDigits_14 ?_
    refine lv_iconst (v := 1) hx hb dX3_readDigits_17 (by decide) ?_
    refine lv_iadd hx hb dX3_readDigits_18 ?_
    refine top_eq (y := (nI (pl + 1))) (by exact nI_add _ _) ?_
    refine va_put (D := (dC, dI)) (ci := 3) (v := .int (nI (pl + 1))) (ty := .int) (C := RX3) (T := TX3) (N := 6) hx hb hg in_X3 tyX3 tyX3_ok nmX3_ok hown hK hP hD hS 0 rfl rfl 3 (by decide) (hg _ w_53) (fun _ h9 => h9) rfl (by decide +kernel) rfl rfl (Nat.le_of_ble_eq_true rfl) dX3_readDigits_19 (fun H locs hP hD hS => ?_)
    have hP : va_P (dC, dI) vwCl [(r, .inr (3, [.ref rs, .ref h, .int (nI len), .int (nI (pl + 1)), .int fn, .int fp])), (rs, .inl (cC, 500, .inl sg))] H := hP
    have hD : va_D A [(r, .inr (3, [.ref rs, .ref h, .int (nI len), .int (nI (pl + 1)), .int fn, .int fp])), (rs, .inl (cC, 500, .inl sg))] := hD
    refine lv_aload_n hx hb dX3_readDigits_22 rfl (lv_at hl 1 rfl) ?_
    refine go_R (r := k_digit sg len (pl + 1)) (va_runV (As := []) (rest := []) ⟨hx, hb, hml, hown, hg⟩ (kX3_digitHere l dC dI B cI cC cJ r rs h sg len (pl + 1) fn fp (by omega) (by omega)) (cwV 0 hg (gi_V w_269 w_270 w_684 w_3 w_271) rfl rfl rfl (by decide +kernel) ⟨Nat.le_of_ble_eq_true rfl, Nat.le_of_ble_eq_true rfl⟩) (pre_RV (va_recv hK hP (ci := 3) (q0 := 0) rfl rfl) (hP.sub [0, 1] rfl) hK (hT.kept (hS.mono hAB))) rfl rfl hl.1 rfl (lv_room (Nat.le_of_ble_eq_true rfl)) dX3_readDigits_23 ⟨Nat.le_of_ble_eq_true rfl, Nat.le_of_ble_eq_true rfl⟩) ?_
    refine lv_istore_n (lv' := [(2, .int (k_digit sg len (pl + 1))), (1, .int (k_digit sg len pl)), (0, .ref r)]) hx hb dX3_readDigits_26 rfl hl (by decide) rfl (fun ls hl => ?_)
    refine lv_iload_n hx hb dX3_readDigits_27 rfl (lv_at hl 0 rfl) ?_
    refine lv_iconst (v := (-1)) hx hb dX3_readDigits_28 (by decide) ?_
    refine lv_icmp_ne (tgt := 34) hx hb dX3_readDigits_29 (by decide) (fun c_2 => ?_) (fun c_2 => ?_)
    · skip
      refine lv_aload_n hx hb dX3_readDigits_34 rfl (lv_at hl 2 rfl) ?_
      refine lv_dup hx hb dX3_readDigits_35 rfl ?_
      refine va_get (D := (dC, dI)) (ci := 3) (v := .int (nI (pl + 1))) (C := RX3) (T := TX3) (N := 6) hx hb hg in_X3 hown hK hP 0 rfl rfl 3 (by decide) (hg _ w_53) (fun _ h9 => h9) rfl dX3_readDigits_36 ?_
      refine lv_iconst (v := 1) hx hb dX3_readDigits_39 (by decide) ?_
      refine lv_iadd hx hb dX3_readDigits_40 ?_
      refine top_eq (y := (nI ((pl + 1) + 1))) (by exact nI_add _ _) ?_
      refine va_put (D := (dC, dI)) (ci := 3) (v := .int (nI ((pl + 1) + 1))) (ty := .int) (C := RX3) (T := TX3) (N := 6) hx hb hg in_X3 tyX3 tyX3_ok nmX3_ok hown hK hP hD hS 0 rfl rfl 3 (by decide) (hg _ w_53) (fun _ h9 => h9) rfl (by decide +kernel) rfl rfl (Nat.le_of_ble_eq_true rfl) dX3_readDigits_41 (fun H locs hP hD hS => ?_)
      have hP : va_P (dC, dI) vwCl [(r, .inr (3, [.ref rs, .ref h, .int (nI len), .int (nI ((pl + 1) + 1)), .int fn, .int fp])), (rs, .inl (cC, 500, .inl sg))] H := hP
      have hD : va_D A [(r, .inr (3, [.ref rs, .ref h, .int (nI len), .int (nI ((pl + 1) + 1)), .int fn, .int fp])), (rs, .inl (cC, 500, .inl sg))] := hD
      refine lv_bipush (v := 10) hx hb dX3_readDigits_44 (by decide) ?_
      refine lv_iload_n hx hb dX3_readDigits_46 rfl (lv_at hl 1 rfl) ?_
      refine lv_imul hx hb dX3_readDigits_47 ?_
      refine lv_iload_n hx hb dX3_readDigits_48 rfl (lv_at hl 0 rfl) ?_
      refine lv_iadd hx hb dX3_readDigits_49 ?_
      have hP9 := hP
      have hS9 := hS
      have h9 : k_readDigits sg len pl = ((10 * (k_digit sg len pl)) + (k_digit sg len (pl + 1)), (pl + 1) + 1) := by simp [k_readDigits, c_1, c_2]
      have h9 := hF.symm.trans h9
      cases h9
      exact W.iret hx hb hr (fun t ht hW => ⟨rfl, by rw [ht]; exact hP9, hS9.F ht⟩) hS9.2.2 dX3_readDigits_50
    · skip
      refine lv_iload_n hx hb dX3_readDigits_32 rfl (lv_at hl 1 rfl) ?_
      have hP9 := hP
      have hS9 := hS
      have h9 : k_readDigits sg len pl = (k_digit sg len pl, pl + 1) := by simp [k_readDigits, c_1, c_2]
      have h9 := hF.symm.trans h9
      cases h9
      exact W.iret hx hb hr (fun t ht hW => ⟨rfl, by rw [ht]; exact hP9, hS9.F ht⟩) hS9.2.2 dX3_readDigits_33
  · skip
    refine lv_iconst (v := (-1)) hx hb dX3_readDigits_10 (by decide) ?_
    have hP9 := hP
    have hS9 := hS
    have h9 : k_readDigits sg len pl = ((-1), pl) := by simp [k_readDigits, c_1]
    have h9 := hF.symm.trans h9
    cases h9
    exact W.iret hx hb hr (fun t ht hW => ⟨rfl, by rw [ht]; exact hP9, hS9.F ht⟩) hS9.2.2 dX3_readDigits_11
set_option maxHeartbeats 4000000 in
set_option maxRecDepth 100000 in
theorem kX3_readSign (l : Launch) (dC : Nat → ClassId) (dI : Nat → Nat → Nat) (B : Nat) (cI cC cJ : ClassId) (r : Nat) (rs : Nat) (h : Nat) (sg : Nat → Int32) (len : Nat) (pl : Nat) (fn : Int32) (fp : Int32) (p0 : Int32) (b1 : Bool) (pl1 : Nat) (fn1 : Int32) (fp1 : Int32) (hlen : len ≤ 500) (hpl : pl ≤ len) (hF : k_readSign sg len p0 pl fn fp = (b1, pl1, fn1, fp1)) (sz9 : Nat) : Met l yX3_readSign wsX3_readSign ({ frames := 1, cells := 0, slots := 0, locals := 22 }) (q_Mp (dC, dI) vwCl [.ref r, .int p0] [(r, .inr (3, [.ref rs, .ref h, .int (nI len), .int (nI pl), .int fn, .int fp])), (rs, .inl (cC, 500, .inl sg))] [(cI, .int), (cC, .char), (cJ, .long)] B sz9) (q_Mq (dC, dI) vwCl [(r, .inr (3, [.ref rs, .ref h, .int (nI len), .int (nI pl1), .int fn1, .int fp1])), (rs, .inl (cC, 500, .inl sg))] (va_A [(r, .inr (3, [.ref rs, .ref h, .int (nI len), .int (nI pl), .int fn, .int fp])), (rs, .inl (cC, 500, .inl sg))] sz9) (some (.int (bI b1)))) 0 0 (va_A [(r, .inr (3, [.ref rs, .ref h, .int (nI len), .int (nI pl), .int fn, .int fp])), (rs, .inl (cC, 500, .inl sg))] sz9) := by
  refine Met.ofW (cc := cX3_readSign) (maxL := 2) (ret := (some .boolean)) (by decide) rfl ?_
  intro p e s m args below meth c s₁ Bd hml hv
  obtain ⟨rfl, hsz9, hB, hP, hK, hD0, hT⟩ := hv
  have hx := Bd.exec
  have hb := Bd.bytes
  have hr := Bd.returns
  have hts := atoms_spec (ws := wsX3_readSign) Bd.pre
  have hg : ∀ w ∈ lw_good, w.before _ s = true := fun w h => hts w (List.mem_cons_of_mem _ h)
  have hown : s.vm.findClass RX3 = some m.cls := findClass_of_methodNamed Bd.named
  have hlocks := Bd.notSynchronized
  subst hsz9
  have hD := hD0.self (sz := s.heap.size)
  generalize hAe : va_A [(r, .inr (3, [.ref rs, .ref h, .int (nI len), .int (nI pl), .int fn, .int fp])), (rs, .inl (cC, 500, .inl sg))] s.heap.size = A at hD ⊢
  have hA : ∀ q : Nat, s.heap.size ≤ q → A q := fun q h => by rw [← hAe]; exact Or.inr h
  have hAB : ∀ q, A q → B ≤ q := by rw [← hAe]; exact va_A.ge hD0 hB
  have hS : va_S A s.heap s.heap [] := va_S.rf
  have hP : va_P (dC, dI) vwCl [(r, .inr (3, [.ref rs, .ref h, .int (nI len), .int (nI pl), .int fn, .int fp])), (rs, .inl (cC, 500, .inl sg))] s.heap := hP
  have hl := lv_entry ([.ref r, .int p0]) (n := 2) (Nat.le_of_ble_eq_true rfl)
  rw [lg_entry_eq]
  generalize (lg_sl ([.ref r, .int p0]) ++ List.replicate (2 - (lg_sl ([.ref r, .int p0])).length) Slot.unset).toArray = ls at hl ⊢
  have hl : lv_has ls 2 [(0, .ref r), (1, .int p0)] := hl
  refine lv_aload_n hx hb dX3_readSign_0 rfl (lv_at hl 0 rfl) ?_
  refine go_R (r := k_sign sg len pl) (va_runV (As := []) (rest := []) ⟨hx, hb, hml, hown, hg⟩ (kX3_signHere l dC dI B cI cC cJ r rs h sg len pl fn fp (by omega) (by omega)) (cwV 0 hg (gi_V w_253 w_254 w_680 w_3 w_255) rfl rfl rfl (by decide +kernel) ⟨Nat.le_of_ble_eq_true rfl, Nat.le_of_ble_eq_true rfl⟩) (pre_RV (va_recv hK hP (ci := 3) (q0 := 0) rfl rfl) (hP.sub [0, 1] rfl) hK hT) rfl rfl hl.1 rfl (lv_room (Nat.le_of_ble_eq_true rfl)) dX3_readSign_1 ⟨Nat.le_of_ble_eq_true rfl, Nat.le_of_ble_eq_true rfl⟩) ?_
  refine lv_iload_n hx hb dX3_readSign_4 rfl (lv_at hl 1 rfl) ?_
  refine lv_icmp_eq (tgt := 18) hx hb dX3_readSign_5 (by decide) (fun c_1 => ?_) (fun c_1 => ?_)
  · skip
    refine lv_aload_n hx hb dX3_readSign_18 rfl (lv_at hl 0 rfl) ?_
    refine lv_dup hx hb dX3_readSign_19 rfl ?_
    refine va_get (D := (dC, dI)) (ci := 3) (v := .int (nI pl)) (C := RX3) (T := TX3) (N := 6) hx hb hg in_X3 hown hK hP 0 rfl rfl 3 (by decide) (hg _ w_53) (fun _ h9 => h9) rfl dX3_readSign_20 ?_
    refine lv_iconst (v := 1) hx hb dX3_readSign_23 (by decide) ?_
    refine lv_iadd hx hb dX3_readSign_24 ?_
    refine top_eq (y := (nI (pl + 1))) (by exact nI_add _ _) ?_
    refine va_put (D := (dC, dI)) (ci := 3) (v := .int (nI (pl + 1))) (ty := .int) (C := RX3) (T := TX3) (N := 6) hx hb hg in_X3 tyX3 tyX3_ok nmX3_ok hown hK hP hD hS 0 rfl rfl 3 (by decide) (hg _ w_53) (fun _ h9 => h9) rfl (by decide +kernel) rfl rfl (Nat.le_of_ble_eq_true rfl) dX3_readSign_25 (fun H locs hP hD hS => ?_)
    have hP : va_P (dC, dI) vwCl [(r, .inr (3, [.ref rs, .ref h, .int (nI len), .int (nI (pl + 1)), .int fn, .int fp])), (rs, .inl (cC, 500, .inl sg))] H := hP
    have hD : va_D A [(r, .inr (3, [.ref rs, .ref h, .int (nI len), .int (nI (pl + 1)), .int fn, .int fp])), (rs, .inl (cC, 500, .inl sg))] := hD
    refine lv_iconst (v := 1) hx hb dX3_readSign_28 (by decide) ?_
    have hP9 := hP
    have hS9 := hS
    have h9 : k_readSign sg len p0 pl fn fp = (true, pl + 1, fn, fp) := by simp [k_readSign, c_1]
    have h9 := hF.symm.trans h9
    cases h9
    exact W.zret (ty := .boolean) hx hb hr rfl (fun t ht hW => ⟨rfl, by rw [ht]; exact hP9, hS9.F ht⟩) hS9.2.2 dX3_readSign_29
  · skip
    refine lv_aload_n hx hb dX3_readSign_8 rfl (lv_at hl 0 rfl) ?_
    refine lv_iconst (v := 1) hx hb dX3_readSign_9 (by decide) ?_
    refine lv_aload_n hx hb dX3_readSign_10 rfl (lv_at hl 0 rfl) ?_
    refine va_get (D := (dC, dI)) (ci := 3) (v := .int (nI pl)) (C := RX3) (T := TX3) (N := 6) hx hb hg in_X3 hown hK hP 0 rfl rfl 3 (by decide) (hg _ w_53) (fun _ h9 => h9) rfl dX3_readSign_11 ?_
    refine go_M (r := some (.int (bI false))) (wc' := [(r, .inr (3, [.ref rs, .ref h, .int (nI len), .int (nI pl), .int 1, .int (nI pl)])), (rs, .inl (cC, 500, .inl sg))]) (w2 := [(r, .inr (3, [.ref rs, .ref h, .int (nI len), .int (nI pl), .int 1, .int (nI pl)])), (rs, .inl (cC, 500, .inl sg))]) [0, 1] (va_runV (As := [.int 1, .int (nI pl)]) (rest := []) ⟨hx, hb, hml, hown, hg⟩ (kX3_fail l dC dI B cI cC cJ r rs h sg len pl fn fp 1 (nI pl) _) (cwV 2 hg (gi_V w_256 w_257 w_681 w_3 w_258) rfl rfl rfl (by decide +kernel) ⟨Nat.le_of_ble_eq_true rfl, Nat.le_of_ble_eq_true rfl⟩) (pre_MV (va_recv hK hP (ci := 3) (q0 := 0) rfl rfl) (Nat.le_trans hB hS.1) (hP.sub [0, 1] rfl) hK ((hD.weaken (fun _ _ _ h => hAB _ h)).sub [0, 1] (by decide) rfl) hT) rfl rfl hl.1 rfl (lv_room (Nat.le_of_ble_eq_true rfl)) dX3_readSign_14 ⟨Nat.le_of_ble_eq_true rfl, Nat.le_of_ble_eq_true rfl⟩) hP hD hS hA rfl (Nat.le_of_ble_eq_true rfl) rfl rfl (fun H locs hP hD hS => ?_)
    refine W.eq (g2 := F0 m 17 ls [.int (bI false)]) rfl ?_
    have hP9 := hP
    have hS9 := hS
    have h9 : k_readSign sg len p0 pl fn fp = (false, pl, 1, (nI pl)) := by simp [k_readSign, c_1]
    have h9 := hF.symm.trans h9
    cases h9
    exact W.zret (ty := .boolean) hx hb hr (bI_nar _) (fun t ht hW => ⟨rfl, by rw [ht]; exact hP9, hS9.F ht⟩) hS9.2.2 dX3_readSign_17
set_option maxHeartbeats 4000000 in
set_option maxRecDepth 100000 in
theorem kX3_readName (l : Launch) (dC : Nat → ClassId) (dI : Nat → Nat → Nat) (B : Nat) (cI cC cJ : ClassId) (r : Nat) (rs : Nat) (sg : Nat → Int32) (len : Nat) (pl : Nat) (fn : Int32) (fp : Int32) (h : Nat) (hk : Nat) (hn : Nat) (hu : Nat) (ks : Nat → Int32) (ns : Nat → Int32) (us : Nat → Int32) (sz : Nat) (p0 : Int32) (b1 : Bool) (ks1 : Nat → Int32) (ns1 : Nat → Int32) (us1 : Nat → Int32) (sz1 : Nat) (pl1 : Nat) (fn1 : Int32) (fp1 : Int32) (hlen : len ≤ 500) (hpl : pl ≤ len) (hsz : sz ≤ 50) (hF : k_readName sg len p0 ks ns us sz pl fn fp = (b1, ks1, ns1, us1, sz1, pl1, fn1, fp1)) (sz9 : Nat) : Met l yX3_readName wsX3_readName ({ frames := 3, cells := 0, slots := 0, locals := 63 }) (q_Mp (dC, dI) vwCl [.ref r, .int p0] [(r, .inr (3, [.ref rs, .ref h, .int (nI len), .int (nI pl), .int fn, .int fp])), (rs, .inl (cC, 500, .inl sg)), (h, .inr (1, [.ref hk, .ref hn, .ref hu, .int (nI sz)])), (hk, .inl (cI, 50, .inl ks)), (hn, .inl (cI, 50, .inl ns)), (hu, .inl (cI, 200, .inl us))] [(cI, .int), (cC, .char), (cJ, .long)] B sz9) (q_Mq (dC, dI) vwCl [(r, .inr (3, [.ref rs, .ref h, .int (nI len), .int (nI pl1), .int fn1, .int fp1])), (rs, .inl (cC, 500, .inl sg)), (h, .inr (1, [.ref hk, .ref hn, .ref hu, .int (nI sz1)])), (hk, .inl (cI, 50, .inl ks1)), (hn, .inl (cI, 50, .inl ns1)), (hu, .inl (cI, 200, .inl us1))] (va_A [(r, .inr (3, [.ref rs, .ref h, .int (nI len), .int (nI pl), .int fn, .int fp])), (rs, .inl (cC, 500, .inl sg)), (h, .inr (1, [.ref hk, .ref hn, .ref hu, .int (nI sz)])), (hk, .inl (cI, 50, .inl ks)), (hn, .inl (cI, 50, .inl ns)), (hu, .inl (cI, 200, .inl us))] sz9) (some (.int (bI b1)))) 0 0 (va_A [(r, .inr (3, [.ref rs, .ref h, .int (nI len), .int (nI pl), .int fn, .int fp])), (rs, .inl (cC, 500, .inl sg)), (h, .inr (1, [.ref hk, .ref hn, .ref hu, .int (nI sz)])), (hk, .inl (cI, 50, .inl ks)), (hn, .inl (cI, 50, .inl ns)), (hu, .inl (cI, 200, .inl us))] sz9) := by
  refine Met.ofW (cc := cX3_readName) (maxL := 4) (ret := (some .boolean)) (by decide) rfl ?_
  intro p e s m args below meth c s₁ Bd hml hv
  obtain ⟨rfl, hsz9, hB, hP, hK, hD0, hT⟩ := hv
  have hx := Bd.exec
  have hb := Bd.bytes
  have hr := Bd.returns
  have hts := atoms_spec (ws := wsX3_readName) Bd.pre
  have hg : ∀ w ∈ lw_good, w.before _ s = true := fun w h => hts w (List.mem_cons_of_mem _ h)
  have hown : s.vm.findClass RX3 = some m.cls := findClass_of_methodNamed Bd.named
  have hlocks := Bd.notSynchronized
  subst hsz9
  have hD := hD0.self (sz := s.heap.size)
  generalize hAe : va_A [(r, .inr (3, [.ref rs, .ref h, .int (nI len), .int (nI pl), .int fn, .int fp])), (rs, .inl (cC, 500, .inl sg)), (h, .inr (1, [.ref hk, .ref hn, .ref hu, .int (nI sz)])), (hk, .inl (cI, 50, .inl ks)), (hn, .inl (cI, 50, .inl ns)), (hu, .inl (cI, 200, .inl us))] s.heap.size = A at hD ⊢
  have hA : ∀ q : Nat, s.heap.size ≤ q → A q := fun q h => by rw [← hAe]; exact Or.inr h
  have hAB : ∀ q, A q → B ≤ q := by rw [← hAe]; exact va_A.ge hD0 hB
  have hS : va_S A s.heap s.heap [] := va_S.rf
  have hP : va_P (dC, dI) vwCl [(r, .inr (3, [.ref rs, .ref h, .int (nI len), .int (nI pl), .int fn, .int fp])), (rs, .inl (cC, 500, .inl sg)), (h, .inr (1, [.ref hk, .ref hn, .ref hu, .int (nI sz)])), (hk, .inl (cI, 50, .inl ks)), (hn, .inl (cI, 50, .inl ns)), (hu, .inl (cI, 200, .inl us))] s.heap := hP
  have hl := lv_entry ([.ref r, .int p0]) (n := 4) (Nat.le_of_ble_eq_true rfl)
  rw [lg_entry_eq]
  generalize (lg_sl ([.ref r, .int p0]) ++ List.replicate (4 - (lg_sl ([.ref r, .int p0])).length) Slot.unset).toArray = ls at hl ⊢
  have hl : lv_has ls 4 [(0, .ref r), (1, .int p0)] := hl
  refine lv_aload_n hx hb dX3_readName_0 rfl (lv_at hl 0 rfl) ?_
  refine va_get (D := (dC, dI)) (ci := 3) (v := .int (nI pl)) (C := RX3) (T := TX3) (N := 6) hx hb hg in_X3 hown hK hP 0 rfl rfl 3 (by decide) (hg _ w_53) (fun _ h9 => h9) rfl dX3_readName_1 ?_
  refine lv_istore_n (lv' := [(2, .int (nI pl)), (0, .ref r), (1, .int p0)]) hx hb dX3_readName_4 rfl hl (by decide) rfl (fun ls hl => ?_)
  refine lv_aload_n hx hb dX3_readName_5 rfl (lv_at hl 1 rfl) ?_
  obtain ⟨x1_1, pl1_1, hF_1⟩ : ∃ (x1_1 : Int32) (pl1_1 : Nat), k_readDigits sg len pl = (x1_1, pl1_1) := ⟨_, _, rfl⟩
  have hq_pl1_1 := k_readDigits_le sg len pl (by omega)
  rw [hF_1] at hq_pl1_1
  have hq_pl1_1 : pl1_1 ≤ len := hq_pl1_1
  refine go_M (r := some (.int x1_1)) (wc' := [(r, .inr (3, [.ref rs, .ref h, .int (nI len), .int (nI pl1_1), .int fn, .int fp])), (rs, .inl (cC, 500, .inl sg))]) (w2 := [(r, .inr (3, [.ref rs, .ref h, .int (nI len), .int (nI pl1_1), .int fn, .int fp])), (rs, .inl (cC, 500, .inl sg)), (h, .inr (1, [.ref hk, .ref hn, .ref hu, .int (nI sz)])), (hk, .inl (cI, 50, .inl ks)), (hn, .inl (cI, 50, .inl ns)), (hu, .inl (cI, 200, .inl us))]) [0, 1] (va_runV (As := []) (rest := []) ⟨hx, hb, hml, hown, hg⟩ (kX3_readDigits l dC dI B cI cC cJ r rs h sg len pl fn fp x1_1 pl1_1 (by omega) (by omega) hF_1 _) (cwV 0 hg (gi_V w_266 w_267 w_683 w_3 w_268) rfl rfl rfl (by decide +kernel) ⟨Nat.le_of_ble_eq_true rfl, Nat.le_of_ble_eq_true rfl⟩) (pre_MV (va_recv hK hP (ci := 3) (q0 := 0) rfl rfl) (Nat.le_trans hB hS.1) (hP.sub [0, 1] rfl) hK ((hD.weaken (fun _ _ _ h => hAB _ h)).sub [0, 1] (by decide) rfl) hT) rfl rfl hl.1 rfl (lv_room (Nat.le_of_ble_eq_true rfl)) dX3_readName_6 ⟨Nat.le_of_ble_eq_true rfl, Nat.le_of_ble_eq_true rfl⟩) hP hD hS hA rfl (Nat.le_of_ble_eq_true rfl) rfl rfl (fun H locs hP hD hS => ?_)
  refine W.eq (g2 := F0 m 9 ls [.int x1_1]) rfl ?_
  refine lv_istore_n (lv' := [(3, .int x1_1), (2, .int (nI pl)), (0, .ref r), (1, .int p0)]) hx hb dX3_readName_9 rfl hl (by decide) rfl (fun ls hl => ?_)
  refine lv_iload_n hx hb dX3_readName_10 rfl (lv_at hl 0 rfl) ?_
  refine lv_iconst (v := (-1)) hx hb dX3_readName_11 (by decide) ?_
  refine lv_icmp_ne (tgt := 25) hx hb dX3_readName_12 (by decide) (fun c_2 => ?_) (fun c_2 => ?_)
  · skip
    refine lv_aload_n hx hb dX3_readName_25 rfl (lv_at hl 2 rfl) ?_
    refine va_get (D := (dC, dI)) (ci := 3) (v := .ref h) (C := RX3) (T := TX3) (N := 6) hx hb hg in_X3 hown hK hP 0 rfl rfl 1 (by decide) (hg _ w_51) (fun _ h9 => h9) rfl dX3_readName_26 ?_
    refine lv_iload_n hx hb dX3_readName_29 rfl (lv_at hl 3 rfl) ?_
    refine lv_iload_n hx hb dX3_readName_30 rfl (lv_at hl 0 rfl) ?_
    refine go_R (r := k_indexOf ks ns p0 x1_1 sz 0) (va_runV (As := [.int p0, .int x1_1]) (rest := []) ⟨hx, hb, hml, hown, hg⟩ (kX1_indexOf l dC dI B cI cC cJ h hk hn hu ks ns us sz p0 x1_1 (by omega)) (cwV 2 hg (gi_V w_272 w_147 w_148 w_4 w_149) rfl rfl rfl (by decide +kernel) ⟨Nat.le_of_ble_eq_true rfl, Nat.le_of_ble_eq_true rfl⟩) (pre_RV (va_recv hK hP (ci := 1) (q0 := 2) rfl rfl) (hP.sub [2, 3, 4, 5] rfl) hK (hT.kept (hS.mono hAB))) rfl rfl hl.1 rfl (lv_room (Nat.le_of_ble_eq_true rfl)) dX3_readName_31 ⟨Nat.le_of_ble_eq_true rfl, Nat.le_of_ble_eq_true rfl⟩) ?_
    refine lv_iconst (v := (-1)) hx hb dX3_readName_34 (by decide) ?_
    refine lv_icmp_eq (tgt := 45) hx hb dX3_readName_35 (by decide) (fun c_3 => ?_) (fun c_3 => ?_)
    · skip
      refine lv_aload_n hx hb dX3_readName_45 rfl (lv_at hl 2 rfl) ?_
      refine va_get (D := (dC, dI)) (ci := 3) (v := .ref h) (C := RX3) (T := TX3) (N := 6) hx hb hg in_X3 hown hK hP 0 rfl rfl 1 (by decide) (hg _ w_51) (fun _ h9 => h9) rfl dX3_readName_46 ?_
      refine lv_iload_n hx hb dX3_readName_49 rfl (lv_at hl 3 rfl) ?_
      refine lv_iload_n hx hb dX3_readName_50 rfl (lv_at hl 0 rfl) ?_
      obtain ⟨ks1_4, ns1_4, sz1_4, hF_4⟩ : ∃ (ks1_4 : Nat → Int32) (ns1_4 : Nat → Int32) (sz1_4 : Nat), k_begin ks ns sz p0 x1_1 = (ks1_4, ns1_4, sz1_4) := ⟨_, _, _, rfl⟩
      refine go_M (r := none) (wc' := [(h, .inr (1, [.ref hk, .ref hn, .ref hu, .int (nI sz1_4)])), (hk, .inl (cI, 50, .inl ks1_4)), (hn, .inl (cI, 50, .inl ns1_4)), (hu, .inl (cI, 200, .inl us))]) (w2 := [(r, .inr (3, [.ref rs, .ref h, .int (nI len), .int (nI pl1_1), .int fn, .int fp])), (rs, .inl (cC, 500, .inl sg)), (h, .inr (1, [.ref hk, .ref hn, .ref hu, .int (nI sz1_4)])), (hk, .inl (cI, 50, .inl ks1_4)), (hn, .inl (cI, 50, .inl ns1_4)), (hu, .inl (cI, 200, .inl us))]) [2, 3, 4, 5] (va_runV (As := [.int p0, .int x1_1]) (rest := []) ⟨hx, hb, hml, hown, hg⟩ (kX1_begin l dC dI B cI cC cJ h hk hn hu ks ns us sz p0 x1_1 ks1_4 ns1_4 sz1_4 (by omega) hF_4 _) (cwV 2 hg (gi_V w_273 w_274 w_275 w_4 w_276) rfl rfl rfl (by decide +kernel) ⟨Nat.le_of_ble_eq_true rfl, Nat.le_of_ble_eq_true rfl⟩) (pre_MV (va_recv hK hP (ci := 1) (q0 := 2) rfl rfl) (Nat.le_trans hB hS.1) (hP.sub [2, 3, 4, 5] rfl) hK ((hD.weaken (fun _ _ _ h => hAB _ h)).sub [2, 3, 4, 5] (by decide) rfl) (hT.kept (hS.mono hAB))) rfl rfl hl.1 rfl (lv_room (Nat.le_of_ble_eq_true rfl)) dX3_readName_51 ⟨Nat.le_of_ble_eq_true rfl, Nat.le_of_ble_eq_true rfl⟩) hP hD hS hA rfl (Nat.le_of_ble_eq_true rfl) rfl rfl (fun H locs hP hD hS => ?_)
      refine W.eq (g2 := F0 m 54 ls []) rfl ?_
      refine lv_iconst (v := 1) hx hb dX3_readName_54 (by decide) ?_
      have hP9 := hP
      have hS9 := hS
      have h9 : k_readName sg len p0 ks ns us sz pl fn fp = (true, ks1_4, ns1_4, us, sz1_4, pl1_1, fn, fp) := by simp [k_readName, hF_1, c_2, c_3, hF_4]
      have h9 := hF.symm.trans h9
      cases h9
      exact W.zret (ty := .boolean) hx hb hr rfl (fun t ht hW => ⟨rfl, by rw [ht]; exact hP9, hS9.F ht⟩) hS9.2.2 dX3_readName_55
    · skip
      refine lv_aload_n hx hb dX3_readName_38 rfl (lv_at hl 2 rfl) ?_
      refine lv_iconst (v := 2) hx hb dX3_readName_39 (by decide) ?_
      refine lv_iload_n hx hb dX3_readName_40 rfl (lv_at hl 1 rfl) ?_
      refine go_M (r := some (.int (bI false))) (wc' := [(r, .inr (3, [.ref rs, .ref h, .int (nI len), .int (nI pl1_1), .int 2, .int (nI pl)])), (rs, .inl (cC, 500, .inl sg))]) (w2 := [(r, .inr (3, [.ref rs, .ref h, .int (nI len), .int (nI pl1_1), .int 2, .int (nI pl)])), (rs, .inl (cC, 500, .inl sg)), (h, .inr (1, [.ref hk, .ref hn, .ref hu, .int (nI sz)])), (hk, .inl (cI, 50, .inl ks)), (hn, .inl (cI, 50, .inl ns)), (hu, .inl (cI, 200, .inl us))]) [0, 1] (va_runV (As := [.int 2, .int (nI pl)]) (rest := []) ⟨hx, hb, hml, hown, hg⟩ (kX3_fail l dC dI B cI cC cJ r rs h sg len pl1_1 fn fp 2 (nI pl) _) (cwV 2 hg (gi_V w_256 w_257 w_681 w_3 w_258) rfl rfl rfl (by decide +kernel) ⟨Nat.le_of_ble_eq_true rfl, Nat.le_of_ble_eq_true rfl⟩) (pre_MV (va_recv hK hP (ci := 3) (q0 := 0) rfl rfl) (Nat.le_trans hB hS.1) (hP.sub [0, 1] rfl) hK ((hD.weaken (fun _ _ _ h => hAB _ h)).sub [0, 1] (by decide) rfl) (hT.kept (hS.mono hAB))) rfl rfl hl.1 rfl (lv_room (Nat.le_of_ble_eq_true rfl)) dX3_readName_41 ⟨Nat.le_of_ble_eq_true rfl, Nat.le_of_ble_eq_true rfl⟩) hP hD hS hA rfl (Nat.le_of_ble_eq_true rfl) rfl rfl (fun H locs hP hD hS => ?_)
      refine W.eq (g2 := F0 m 44 ls [.int (bI false)]) rfl ?_
      have hP9 := hP
      have hS9 := hS
      have h9 : k_readName sg len p0 ks ns us sz pl fn fp = (false, ks, ns, us, sz, pl1_1, 2, (nI pl)) := by simp [k_readName, hF_1, c_2, c_3]
      have h9 := hF.symm.trans h9
      cases h9
      exact W.zret (ty := .boolean) hx hb hr (bI_nar _) (fun t ht hW => ⟨rfl, by rw [ht]; exact hP9, hS9.F ht⟩) hS9.2.2 dX3_readName_44
  · skip
    refine lv_aload_n hx hb dX3_readName_15 rfl (lv_at hl 2 rfl) ?_
    refine lv_iconst (v := 1) hx hb dX3_readName_16 (by decide) ?_
    refine lv_aload_n hx hb dX3_readName_17 rfl (lv_at hl 2 rfl) ?_
    refine va_get (D := (dC, dI)) (ci := 3) (v := .int (nI pl1_1)) (C := RX3) (T := TX3) (N := 6) hx hb hg in_X3 hown hK hP 0 rfl rfl 3 (by decide) (hg _ w_53) (fun _ h9 => h9) rfl dX3_readName_18 ?_
    refine go_M (r := some (.int (bI false))) (wc' := [(r, .inr (3, [.ref rs, .ref h, .int (nI len), .int (nI pl1_1), .int 1, .int (nI pl1_1)])), (rs, .inl (cC, 500, .inl sg))]) (w2 := [(r, .inr (3, [.ref rs, .ref h, .int (nI len), .int (nI pl1_1), .int 1, .int (nI pl1_1)])), (rs, .inl (cC, 500, .inl sg)), (h, .inr (1, [.ref hk, .ref hn, .ref hu, .int (nI sz)])), (hk, .inl (cI, 50, .inl ks)), (hn, .inl (cI, 50, .inl ns)), (hu, .inl (cI, 200, .inl us))]) [0, 1] (va_runV (As := [.int 1, .int (nI pl1_1)]) (rest := []) ⟨hx, hb, hml, hown, hg⟩ (kX3_fail l dC dI B cI cC cJ r rs h sg len pl1_1 fn fp 1 (nI pl1_1) _) (cwV 2 hg (gi_V w_256 w_257 w_681 w_3 w_258) rfl rfl rfl (by decide +kernel) ⟨Nat.le_of_ble_eq_true rfl, Nat.le_of_ble_eq_true rfl⟩) (pre_MV (va_recv hK hP (ci := 3) (q0 := 0) rfl rfl) (Nat.le_trans hB hS.1) (hP.sub [0, 1] rfl) hK ((hD.weaken (fun _ _ _ h => hAB _ h)).sub [0, 1] (by decide) rfl) (hT.kept (hS.mono hAB))) rfl rfl hl.1 rfl (lv_room (Nat.le_of_ble_eq_true rfl)) dX3_readName_21 ⟨Nat.le_of_ble_eq_true rfl, Nat.le_of_ble_eq_true rfl⟩) hP hD hS hA rfl (Nat.le_of_ble_eq_true rfl) rfl rfl (fun H locs hP hD hS => ?_)
    refine W.eq (g2 := F0 m 24 ls [.int (bI false)]) rfl ?_
    have hP9 := hP
    have hS9 := hS
    have h9 : k_readName sg len p0 ks ns us sz pl fn fp = (false, ks, ns, us, sz, pl1_1, 1, (nI pl1_1)) := by simp [k_readName, hF_1, c_2]
    have h9 := hF.symm.trans h9
    cases h9
    exact W.zret (ty := .boolean) hx hb hr (bI_nar _) (fun t ht hW => ⟨rfl, by rw [ht]; exact hP9, hS9.F ht⟩) hS9.2.2 dX3_readName_24
set_option maxHeartbeats 4000000 in
set_option maxRecDepth 100000 in
theorem kX3_readNumber (l : Launch) (dC : Nat → ClassId) (dI : Nat → Nat → Nat) (B : Nat) (cI cC cJ : ClassId) (r : Nat) (rs : Nat) (sg : Nat → Int32) (len : Nat) (pl : Nat) (fn : Int32) (fp : Int32) (h : Nat) (hk : Nat) (hn : Nat) (hu : Nat) (ks : Nat → Int32) (ns : Nat → Int32) (us : Nat → Int32) (sz : Nat) (p0 : Int32) (p1 : Int32) (b1 : Bool) (us1 : Nat → Int32) (pl1 : Nat) (fn1 : Int32) (fp1 : Int32) (hlen : len ≤ 500) (hpl : pl ≤ len) (hsz : sz ≤ 50) (hF : k_readNumber sg len p0 p1 us sz pl fn fp = (b1, us1, pl1, fn1, fp1)) (sz9 : Nat) : Met l yX3_readNumber wsX3_readNumber ({ frames := 3, cells := 0, slots := 0, locals := 66 }) (q_Mp (dC, dI) vwCl [.ref r, .int p0, .int p1] [(r, .inr (3, [.ref rs, .ref h, .int (nI len), .int (nI pl), .int fn, .int fp])), (rs, .inl (cC, 500, .inl sg)), (h, .inr (1, [.ref hk, .ref hn, .ref hu, .int (nI sz)])), (hk, .inl (cI, 50, .inl ks)), (hn, .inl (cI, 50, .inl ns)), (hu, .inl (cI, 200, .inl us))] [(cI, .int), (cC, .char), (cJ, .long)] B sz9) (q_Mq (dC, dI) vwCl [(r, .inr (3, [.ref rs, .ref h, .int (nI len), .int (nI pl1), .int fn1, .int fp1])), (rs, .inl (cC, 500, .inl sg)), (h, .inr (1, [.ref hk, .ref hn, .ref hu, .int (nI sz)])), (hk, .inl (cI, 50, .inl ks)), (hn, .inl (cI, 50, .inl ns)), (hu, .inl (cI, 200, .inl us1))] (va_A [(r, .inr (3, [.ref rs, .ref h, .int (nI len), .int (nI pl), .int fn, .int fp])), (rs, .inl (cC, 500, .inl sg)), (h, .inr (1, [.ref hk, .ref hn, .ref hu, .int (nI sz)])), (hk, .inl (cI, 50, .inl ks)), (hn, .inl (cI, 50, .inl ns)), (hu, .inl (cI, 200, .inl us))] sz9) (some (.int (bI b1)))) 0 0 (va_A [(r, .inr (3, [.ref rs, .ref h, .int (nI len), .int (nI pl), .int fn, .int fp])), (rs, .inl (cC, 500, .inl sg)), (h, .inr (1, [.ref hk, .ref hn, .ref hu, .int (nI sz)])), (hk, .inl (cI, 50, .inl ks)), (hn, .inl (cI, 50, .inl ns)), (hu, .inl (cI, 200, .inl us))] sz9) := by
  refine Met.ofW (cc := cX3_readNumber) (maxL := 6) (ret := (some .boolean)) (by decide) rfl ?_
  intro p e s m args below meth c s₁ Bd hml hv
  obtain ⟨rfl, hsz9, hB, hP, hK, hD0, hT⟩ := hv
  have hx := Bd.exec
  have hb := Bd.bytes
  have hr := Bd.returns
  have hts := atoms_spec (ws := wsX3_readNumber) Bd.pre
  have hg : ∀ w ∈ lw_good, w.before _ s = true := fun w h => hts w (List.mem_cons_of_mem _ h)
  have hown : s.vm.findClass RX3 = some m.cls := findClass_of_methodNamed Bd.named
  have hlocks := Bd.notSynchronized
  subst hsz9
  have hD := hD0.self (sz := s.heap.size)
  generalize hAe : va_A [(r, .inr (3, [.ref rs, .ref h, .int (nI len), .int (nI pl), .int fn, .int fp])), (rs, .inl (cC, 500, .inl sg)), (h, .inr (1, [.ref hk, .ref hn, .ref hu, .int (nI sz)])), (hk, .inl (cI, 50, .inl ks)), (hn, .inl (cI, 50, .inl ns)), (hu, .inl (cI, 200, .inl us))] s.heap.size = A at hD ⊢
  have hA : ∀ q : Nat, s.heap.size ≤ q → A q := fun q h => by rw [← hAe]; exact Or.inr h
  have hAB : ∀ q, A q → B ≤ q := by rw [← hAe]; exact va_A.ge hD0 hB
  have hS : va_S A s.heap s.heap [] := va_S.rf
  have hP : va_P (dC, dI) vwCl [(r, .inr (3, [.ref rs, .ref h, .int (nI len), .int (nI pl), .int fn, .int fp])), (rs, .inl (cC, 500, .inl sg)), (h, .inr (1, [.ref hk, .ref hn, .ref hu, .int (nI sz)])), (hk, .inl (cI, 50, .inl ks)), (hn, .inl (cI, 50, .inl ns)), (hu, .inl (cI, 200, .inl us))] s.heap := hP
  have hl := lv_entry ([.ref r, .int p0, .int p1]) (n := 6) (Nat.le_of_ble_eq_true rfl)
  rw [lg_entry_eq]
  generalize (lg_sl ([.ref r, .int p0, .int p1]) ++ List.replicate (6 - (lg_sl ([.ref r, .int p0, .int p1])).length) Slot.unset).toArray = ls at hl ⊢
  have hl : lv_has ls 6 [(0, .ref r), (1, .int p0), (2, .int p1)] := hl
  refine lv_aload_n hx hb dX3_readNumber_0 rfl (lv_at hl 0 rfl) ?_
  refine va_get (D := (dC, dI)) (ci := 3) (v := .int (nI pl)) (C := RX3) (T := TX3) (N := 6) hx hb hg in_X3 hown hK hP 0 rfl rfl 3 (by decide) (hg _ w_53) (fun _ h9 => h9) rfl dX3_readNumber_1 ?_
  refine lv_istore_n (lv' := [(3, .int (nI pl)), (0, .ref r), (1, .int p0), (2, .int p1)]) hx hb dX3_readNumber_4 rfl hl (by decide) rfl (fun ls hl => ?_)
  refine lv_aload_n hx hb dX3_readNumber_5 rfl (lv_at hl 1 rfl) ?_
  obtain ⟨x1_1, pl1_1, hF_1⟩ : ∃ (x1_1 : Int32) (pl1_1 : Nat), k_readDigits sg len pl = (x1_1, pl1_1) := ⟨_, _, rfl⟩
  have hq_pl1_1 := k_readDigits_le sg len pl (by omega)
  rw [hF_1] at hq_pl1_1
  have hq_pl1_1 : pl1_1 ≤ len := hq_pl1_1
  refine go_M (r := some (.int x1_1)) (wc' := [(r, .inr (3, [.ref rs, .ref h, .int (nI len), .int (nI pl1_1), .int fn, .int fp])), (rs, .inl (cC, 500, .inl sg))]) (w2 := [(r, .inr (3, [.ref rs, .ref h, .int (nI len), .int (nI pl1_1), .int fn, .int fp])), (rs, .inl (cC, 500, .inl sg)), (h, .inr (1, [.ref hk, .ref hn, .ref hu, .int (nI sz)])), (hk, .inl (cI, 50, .inl ks)), (hn, .inl (cI, 50, .inl ns)), (hu, .inl (cI, 200, .inl us))]) [0, 1] (va_runV (As := []) (rest := []) ⟨hx, hb, hml, hown, hg⟩ (kX3_readDigits l dC dI B cI cC cJ r rs h sg len pl fn fp x1_1 pl1_1 (by omega) (by omega) hF_1 _) (cwV 0 hg (gi_V w_266 w_267 w_683 w_3 w_268) rfl rfl rfl (by decide +kernel) ⟨Nat.le_of_ble_eq_true rfl, Nat.le_of_ble_eq_true rfl⟩) (pre_MV (va_recv hK hP (ci := 3) (q0 := 0) rfl rfl) (Nat.le_trans hB hS.1) (hP.sub [0, 1] rfl) hK ((hD.weaken (fun _ _ _ h => hAB _ h)).sub [0, 1] (by decide) rfl) hT) rfl rfl hl.1 rfl (lv_room (Nat.le_of_ble_eq_true rfl)) dX3_readNumber_6 ⟨Nat.le_of_ble_eq_true rfl, Nat.le_of_ble_eq_true rfl⟩) hP hD hS hA rfl (Nat.le_of_ble_eq_true rfl) rfl rfl (fun H locs hP hD hS => ?_)
  refine W.eq (g2 := F0 m 9 ls [.int x1_1]) rfl ?_
  refine lv_istore (lv' := [(4, .int x1_1), (3, .int (nI pl)), (0, .ref r), (1, .int p0), (2, .int p1)]) hx hb dX3_readNumber_9 hl (by decide) rfl (fun ls hl => ?_)
  refine lv_iload hx hb dX3_readNumber_11 (lv_at hl 0 rfl) ?_
  refine lv_iconst (v := (-1)) hx hb dX3_readNumber_13 (by decide) ?_
  refine lv_icmp_ne (tgt := 27) hx hb dX3_readNumber_14 (by decide) (fun c_2 => ?_) (fun c_2 => ?_)
  · skip
    refine lv_aload_n hx hb dX3_readNumber_27 rfl (lv_at hl 2 rfl) ?_
    refine lv_iload_n hx hb dX3_readNumber_28 rfl (lv_at hl 3 rfl) ?_
    refine lv_iload_n hx hb dX3_readNumber_29 rfl (lv_at hl 4 rfl) ?_
    refine lv_iload hx hb dX3_readNumber_30 (lv_at hl 0 rfl) ?_
    refine go_R (r := k_judge us sz p0 p1 x1_1) (va_runV (As := [.int p0, .int p1, .int x1_1]) (rest := []) ⟨hx, hb, hml, hown, hg⟩ (kX3_judgeNumber l dC dI B cI cC cJ r rs sg len pl1_1 fn fp h hk hn hu ks ns us sz p0 p1 x1_1 (by omega) (by omega) (by omega)) (cwV 3 hg (gi_V w_284 w_285 w_687 w_3 w_286) rfl rfl rfl (by decide +kernel) ⟨Nat.le_of_ble_eq_true rfl, Nat.le_of_ble_eq_true rfl⟩) (pre_RV (va_recv hK hP (ci := 3) (q0 := 0) rfl rfl) (hP.sub [0, 1, 2, 3, 4, 5] rfl) hK (hT.kept (hS.mono hAB))) rfl rfl hl.1 rfl (lv_room (Nat.le_of_ble_eq_true rfl)) dX3_readNumber_32 ⟨Nat.le_of_ble_eq_true rfl, Nat.le_of_ble_eq_true rfl⟩) ?_
    refine lv_istore (lv' := [(5, .int (k_judge us sz p0 p1 x1_1)), (4, .int x1_1), (3, .int (nI pl)), (0, .ref r), (1, .int p0), (2, .int p1)]) hx hb dX3_readNumber_35 hl (by decide) rfl (fun ls hl => ?_)
    refine lv_iload hx hb dX3_readNumber_37 (lv_at hl 0 rfl) ?_
    refine lv_if_eq (tgt := 50) hx hb dX3_readNumber_39 (by decide) (fun c_3 => ?_) (fun c_3 => ?_)
    · skip
      refine lv_aload_n hx hb dX3_readNumber_50 rfl (lv_at hl 3 rfl) ?_
      refine va_get (D := (dC, dI)) (ci := 3) (v := .ref h) (C := RX3) (T := TX3) (N := 6) hx hb hg in_X3 hown hK hP 0 rfl rfl 1 (by decide) (hg _ w_51) (fun _ h9 => h9) rfl dX3_readNumber_51 ?_
      refine lv_iload_n hx hb dX3_readNumber_54 rfl (lv_at hl 5 rfl) ?_
      refine lv_iload hx hb dX3_readNumber_55 (lv_at hl 1 rfl) ?_
      obtain ⟨us1_4, hF_4⟩ : ∃ (us1_4 : Nat → Int32), k_setNumber us sz p1 x1_1 = us1_4 := ⟨_, rfl⟩
      refine go_M (r := none) (wc' := [(h, .inr (1, [.ref hk, .ref hn, .ref hu, .int (nI sz)])), (hk, .inl (cI, 50, .inl ks)), (hn, .inl (cI, 50, .inl ns)), (hu, .inl (cI, 200, .inl us1_4))]) (w2 := [(r, .inr (3, [.ref rs, .ref h, .int (nI len), .int (nI pl1_1), .int fn, .int fp])), (rs, .inl (cC, 500, .inl sg)), (h, .inr (1, [.ref hk, .ref hn, .ref hu, .int (nI sz)])), (hk, .inl (cI, 50, .inl ks)), (hn, .inl (cI, 50, .inl ns)), (hu, .inl (cI, 200, .inl us1_4))]) [2, 3, 4, 5] (va_runV (As := [.int p1, .int x1_1]) (rest := []) ⟨hx, hb, hml, hown, hg⟩ (kX1_setNumber l dC dI B cI cC cJ h hk hn hu ks ns us sz p1 x1_1 us1_4 (by omega) hF_4 _) (cwV 2 hg (gi_V w_292 w_293 w_294 w_4 w_295) rfl rfl rfl (by decide +kernel) ⟨Nat.le_of_ble_eq_true rfl, Nat.le_of_ble_eq_true rfl⟩) (pre_MV (va_recv hK hP (ci := 1) (q0 := 2) rfl rfl) (Nat.le_trans hB hS.1) (hP.sub [2, 3, 4, 5] rfl) hK ((hD.weaken (fun _ _ _ h => hAB _ h)).sub [2, 3, 4, 5] (by decide) rfl) (hT.kept (hS.mono hAB))) rfl rfl hl.1 rfl (lv_room (Nat.le_of_ble_eq_true rfl)) dX3_readNumber_57 ⟨Nat.le_of_ble_eq_true rfl, Nat.le_of_ble_eq_true rfl⟩) hP hD hS hA rfl (Nat.le_of_ble_eq_true rfl) rfl rfl (fun H locs hP hD hS => ?_)
      refine W.eq (g2 := F0 m 60 ls []) rfl ?_
      refine lv_iconst (v := 1) hx hb dX3_readNumber_60 (by decide) ?_
      have hP9 := hP
      have hS9 := hS
      have h9 : k_readNumber sg len p0 p1 us sz pl fn fp = (true, us1_4, pl1_1, fn, fp) := by simp [k_readNumber, hF_1, c_2, c_3, hF_4]
      have h9 := hF.symm.trans h9
      cases h9
      exact W.zret (ty := .boolean) hx hb hr rfl (fun t ht hW => ⟨rfl, by rw [ht]; exact hP9, hS9.F ht⟩) hS9.2.2 dX3_readNumber_61
    · skip
      refine lv_aload_n hx hb dX3_readNumber_42 rfl (lv_at hl 3 rfl) ?_
      refine lv_iload hx hb dX3_readNumber_43 (lv_at hl 0 rfl) ?_
      refine lv_iload_n hx hb dX3_readNumber_45 rfl (lv_at hl 2 rfl) ?_
      refine go_M (r := some (.int (bI false))) (wc' := [(r, .inr (3, [.ref rs, .ref h, .int (nI len), .int (nI pl1_1), .int (k_judge us sz p0 p1 x1_1), .int (nI pl)])), (rs, .inl (cC, 500, .inl sg))]) (w2 := [(r, .inr (3, [.ref rs, .ref h, .int (nI len), .int (nI pl1_1), .int (k_judge us sz p0 p1 x1_1), .int (nI pl)])), (rs, .inl (cC, 500, .inl sg)), (h, .inr (1, [.ref hk, .ref hn, .ref hu, .int (nI sz)])), (hk, .inl (cI, 50, .inl ks)), (hn, .inl (cI, 50, .inl ns)), (hu, .inl (cI, 200, .inl us))]) [0, 1] (va_runV (As := [.int (k_judge us sz p0 p1 x1_1), .int (nI pl)]) (rest := []) ⟨hx, hb, hml, hown, hg⟩ (kX3_fail l dC dI B cI cC cJ r rs h sg len pl1_1 fn fp (k_judge us sz p0 p1 x1_1) (nI pl) _) (cwV 2 hg (gi_V w_256 w_257 w_681 w_3 w_258) rfl rfl rfl (by decide +kernel) ⟨Nat.le_of_ble_eq_true rfl, Nat.le_of_ble_eq_true rfl⟩) (pre_MV (va_recv hK hP (ci := 3) (q0 := 0) rfl rfl) (Nat.le_trans hB hS.1) (hP.sub [0, 1] rfl) hK ((hD.weaken (fun _ _ _ h => hAB _ h)).sub [0, 1] (by decide) rfl) (hT.kept (hS.mono hAB))) rfl rfl hl.1 rfl (lv_room (Nat.le_of_ble_eq_true rfl)) dX3_readNumber_46 ⟨Nat.le_of_ble_eq_true rfl, Nat.le_of_ble_eq_true rfl⟩) hP hD hS hA rfl (Nat.le_of_ble_eq_true rfl) rfl rfl (fun H locs hP hD hS => ?_)
      refine W.eq (g2 := F0 m 49 ls [.int (bI false)]) rfl ?_
      have hP9 := hP
      have hS9 := hS
      have h9 : k_readNumber sg len p0 p1 us sz pl fn fp = (false, us, pl1_1, (k_judge us sz p0 p1 x1_1), (nI pl)) := by simp [k_readNumber, hF_1, c_2, c_3]
      have h9 := hF.symm.trans h9
      cases h9
      exact W.zret (ty := .boolean) hx hb hr (bI_nar _) (fun t ht hW => ⟨rfl, by rw [ht]; exact hP9, hS9.F ht⟩) hS9.2.2 dX3_readNumber_49
  · skip
    refine lv_aload_n hx hb dX3_readNumber_17 rfl (lv_at hl 2 rfl) ?_
    refine lv_iconst (v := 1) hx hb dX3_readNumber_18 (by decide) ?_
    refine lv_aload_n hx hb dX3_readNumber_19 rfl (lv_at hl 2 rfl) ?_
    refine va_get (D := (dC, dI)) (ci := 3) (v := .int (nI pl1_1)) (C := RX3) (T := TX3) (N := 6) hx hb hg in_X3 hown hK hP 0 rfl rfl 3 (by decide) (hg _ w_53) (fun _ h9 => h9) rfl dX3_readNumber_20 ?_
    refine go_M (r := some (.int (bI false))) (wc' := [(r, .inr (3, [.ref rs, .ref h, .int (nI len), .int (nI pl1_1), .int 1, .int (nI pl1_1)])), (rs, .inl (cC, 500, .inl sg))]) (w2 := [(r, .inr (3, [.ref rs, .ref h, .int (nI len), .int (nI pl1_1), .int 1, .int (nI pl1_1)])), (rs, .inl (cC, 500, .inl sg)), (h, .inr (1, [.ref hk, .ref hn, .ref hu, .int (nI sz)])), (hk, .inl (cI, 50, .inl ks)), (hn, .inl (cI, 50, .inl ns)), (hu, .inl (cI, 200, .inl us))]) [0, 1] (va_runV (As := [.int 1, .int (nI pl1_1)]) (rest := []) ⟨hx, hb, hml, hown, hg⟩ (kX3_fail l dC dI B cI cC cJ r rs h sg len pl1_1 fn fp 1 (nI pl1_1) _) (cwV 2 hg (gi_V w_256 w_257 w_681 w_3 w_258) rfl rfl rfl (by decide +kernel) ⟨Nat.le_of_ble_eq_true rfl, Nat.le_of_ble_eq_true rfl⟩) (pre_MV (va_recv hK hP (ci := 3) (q0 := 0) rfl rfl) (Nat.le_trans hB hS.1) (hP.sub [0, 1] rfl) hK ((hD.weaken (fun _ _ _ h => hAB _ h)).sub [0, 1] (by decide) rfl) (hT.kept (hS.mono hAB))) rfl rfl hl.1 rfl (lv_room (Nat.le_of_ble_eq_true rfl)) dX3_readNumber_23 ⟨Nat.le_of_ble_eq_true rfl, Nat.le_of_ble_eq_true rfl⟩) hP hD hS hA rfl (Nat.le_of_ble_eq_true rfl) rfl rfl (fun H locs hP hD hS => ?_)
    refine W.eq (g2 := F0 m 26 ls [.int (bI false)]) rfl ?_
    have hP9 := hP
    have hS9 := hS
    have h9 : k_readNumber sg len p0 p1 us sz pl fn fp = (false, us, pl1_1, 1, (nI pl1_1)) := by simp [k_readNumber, hF_1, c_2]
    have h9 := hF.symm.trans h9
    cases h9
    exact W.zret (ty := .boolean) hx hb hr (bI_nar _) (fun t ht hW => ⟨rfl, by rw [ht]; exact hP9, hS9.F ht⟩) hS9.2.2 dX3_readNumber_26
set_option maxHeartbeats 4000000 in
set_option maxRecDepth 100000 in
theorem kX3_readRow (l : Launch) (dC : Nat → ClassId) (dI : Nat → Nat → Nat) (B : Nat) (cI cC cJ : ClassId) (r : Nat) (rs : Nat) (sg : Nat → Int32) (len : Nat) (pl : Nat) (fn : Int32) (fp : Int32) (h : Nat) (hk : Nat) (hn : Nat) (hu : Nat) (ks : Nat → Int32) (ns : Nat → Int32) (us : Nat → Int32) (sz : Nat) (b1 : Bool) (ks1 : Nat → Int32) (ns1 : Nat → Int32) (us1 : Nat → Int32) (sz1 : Nat) (pl1 : Nat) (fn1 : Int32) (fp1 : Int32) (hlen : len ≤ 500) (hpl : pl ≤ len) (hsz : sz ≤ 50) (hF : k_readRow sg len ks ns us sz pl fn fp = (b1, ks1, ns1, us1, sz1, pl1, fn1, fp1)) (sz9 : Nat) : Met l yX3_readRow wsX3_readRow ({ frames := 4, cells := 0, slots := 0, locals := 91 }) (q_Mp (dC, dI) vwCl [.ref r] [(r, .inr (3, [.ref rs, .ref h, .int (nI len), .int (nI pl), .int fn, .int fp])), (rs, .inl (cC, 500, .inl sg)), (h, .inr (1, [.ref hk, .ref hn, .ref hu, .int (nI sz)])), (hk, .inl (cI, 50, .inl ks)), (hn, .inl (cI, 50, .inl ns)), (hu, .inl (cI, 200, .inl us))] [(cI, .int), (cC, .char), (cJ, .long)] B sz9) (q_Mq (dC, dI) vwCl [(r, .inr (3, [.ref rs, .ref h, .int (nI len), .int (nI pl1), .int fn1, .int fp1])), (rs, .inl (cC, 500, .inl sg)), (h, .inr (1, [.ref hk, .ref hn, .ref hu, .int (nI sz1)])), (hk, .inl (cI, 50, .inl ks1)), (hn, .inl (cI, 50, .inl ns1)), (hu, .inl (cI, 200, .inl us1))] (va_A [(r, .inr (3, [.ref rs, .ref h, .int (nI len), .int (nI pl), .int fn, .int fp])), (rs, .inl (cC, 500, .inl sg)), (h, .inr (1, [.ref hk, .ref hn, .ref hu, .int (nI sz)])), (hk, .inl (cI, 50, .inl ks)), (hn, .inl (cI, 50, .inl ns)), (hu, .inl (cI, 200, .inl us))] sz9) (some (.int (bI b1)))) 0 0 (va_A [(r, .inr (3, [.ref rs, .ref h, .int (nI len), .int (nI pl), .int fn, .int fp])), (rs, .inl (cC, 500, .inl sg)), (h, .inr (1, [.ref hk, .ref hn, .ref hu, .int (nI sz)])), (hk, .inl (cI, 50, .inl ks)), (hn, .inl (cI, 50, .inl ns)), (hu, .inl (cI, 200, .inl us))] sz9) := by
  refine Met.ofW (cc := cX3_readRow) (maxL := 4) (ret := (some .boolean)) (by decide) rfl ?_
  intro p e s m args below meth c s₁ Bd hml hv
  obtain ⟨rfl, hsz9, hB, hP, hK, hD0, hT⟩ := hv
  have hx := Bd.exec
  have hb := Bd.bytes
  have hr := Bd.returns
  have hts := atoms_spec (ws := wsX3_readRow) Bd.pre
  have hg : ∀ w ∈ lw_good, w.before _ s = true := fun w h => hts w (List.mem_cons_of_mem _ h)
  have hown : s.vm.findClass RX3 = some m.cls := findClass_of_methodNamed Bd.named
  have hlocks := Bd.notSynchronized
  subst hsz9
  have hD := hD0.self (sz := s.heap.size)
  generalize hAe : va_A [(r, .inr (3, [.ref rs, .ref h, .int (nI len), .int (nI pl), .int fn, .int fp])), (rs, .inl (cC, 500, .inl sg)), (h, .inr (1, [.ref hk, .ref hn, .ref hu, .int (nI sz)])), (hk, .inl (cI, 50, .inl ks)), (hn, .inl (cI, 50, .inl ns)), (hu, .inl (cI, 200, .inl us))] s.heap.size = A at hD ⊢
  have hA : ∀ q : Nat, s.heap.size ≤ q → A q := fun q h => by rw [← hAe]; exact Or.inr h
  have hAB : ∀ q, A q → B ≤ q := by rw [← hAe]; exact va_A.ge hD0 hB
  have hS : va_S A s.heap s.heap [] := va_S.rf
  have hP : va_P (dC, dI) vwCl [(r, .inr (3, [.ref rs, .ref h, .int (nI len), .int (nI pl), .int fn, .int fp])), (rs, .inl (cC, 500, .inl sg)), (h, .inr (1, [.ref hk, .ref hn, .ref hu, .int (nI sz)])), (hk, .inl (cI, 50, .inl ks)), (hn, .inl (cI, 50, .inl ns)), (hu, .inl (cI, 200, .inl us))] s.heap := hP
  have hl := lv_entry ([.ref r]) (n := 4) (Nat.le_of_ble_eq_true rfl)
  rw [lg_entry_eq]
  generalize (lg_sl ([.ref r]) ++ List.replicate (4 - (lg_sl ([.ref r])).length) Slot.unset).toArray = ls at hl ⊢
  have hl : lv_has ls 4 [(0, .ref r)] := hl
  refine lv_aload_n hx hb dX3_readRow_0 rfl (lv_at hl 0 rfl) ?_
  refine go_R (r := k_kindF (k_sign sg len pl) 0) (va_runV (As := []) (rest := []) ⟨hx, hb, hml, hown, hg⟩ (kX3_kindHere l dC dI B cI cC cJ r rs h sg len pl fn fp (by omega) (by omega)) (cwV 0 hg (gi_V w_250 w_251 w_679 w_3 w_252) rfl rfl rfl (by decide +kernel) ⟨Nat.le_of_ble_eq_true rfl, Nat.le_of_ble_eq_true rfl⟩) (pre_RV (va_recv hK hP (ci := 3) (q0 := 0) rfl rfl) (hP.sub [0, 1] rfl) hK hT) rfl rfl hl.1 rfl (lv_room (Nat.le_of_ble_eq_true rfl)) dX3_readRow_1 ⟨Nat.le_of_ble_eq_true rfl, Nat.le_of_ble_eq_true rfl⟩) ?_
  refine lv_istore_n (lv' := [(1, .int (k_kindF (k_sign sg len pl) 0)), (0, .ref r)]) hx hb dX3_readRow_4 rfl hl (by decide) rfl (fun ls hl => ?_)
  refine lv_iload_n hx hb dX3_readRow_5 rfl (lv_at hl 0 rfl) ?_
  refine lv_iconst (v := (-1)) hx hb dX3_readRow_6 (by decide) ?_
  refine lv_icmp_ne (tgt := 20) hx hb dX3_readRow_7 (by decide) (fun c_1 => ?_) (fun c_1 => ?_)
  · skip
    refine lv_aload_n hx hb dX3_readRow_20 rfl (lv_at hl 1 rfl) ?_
    refine va_get (D := (dC, dI)) (ci := 3) (v := .ref h) (C := RX3) (T := TX3) (N := 6) hx hb hg in_X3 hown hK hP 0 rfl rfl 1 (by decide) (hg _ w_51) (fun _ h9 => h9) rfl dX3_readRow_21 ?_
    refine go_R (r := (bI (k_isFull sz))) (va_runV (As := []) (rest := []) ⟨hx, hb, hml, hown, hg⟩ (kX1_isFull l dC dI B cI cC cJ h hk hn hu ks ns us sz (by omega)) (cwV 0 hg (gi_V w_259 w_260 w_261 w_4 w_262) rfl rfl rfl (by decide +kernel) ⟨Nat.le_of_ble_eq_true rfl, Nat.le_of_ble_eq_true rfl⟩) (pre_RV (va_recv hK hP (ci := 1) (q0 := 2) rfl rfl) (hP.sub [2, 3, 4, 5] rfl) hK hT) rfl rfl hl.1 rfl (lv_room (Nat.le_of_ble_eq_true rfl)) dX3_readRow_24 ⟨Nat.le_of_ble_eq_true rfl, Nat.le_of_ble_eq_true rfl⟩) ?_
    refine lv_if_eq (tgt := 40) hx hb dX3_readRow_27 (by decide) (fun c_2 => ?_) (fun c_2 => ?_)
    · skip
      have c_2 := bI_eq0 c_2
      have hfl := k_isFull_lt c_2
      have hpl1 := k_kindF_lt c_1
      refine lv_aload_n hx hb dX3_readRow_40 rfl (lv_at hl 1 rfl) ?_
      refine lv_dup hx hb dX3_readRow_41 rfl ?_
      refine va_get (D := (dC, dI)) (ci := 3) (v := .int (nI pl)) (C := RX3) (T := TX3) (N := 6) hx hb hg in_X3 hown hK hP 0 rfl rfl 3 (by decide) (hg _ w_53) (fun _ h9 => h9) rfl dX3_readRow_42 ?_
      refine lv_iconst (v := 1) hx hb dX3_readRow_45 (by decide) ?_
      refine lv_iadd hx hb dX3_readRow_46 ?_
      refine top_eq (y := (nI (pl + 1))) (by exact nI_add _ _) ?_
      refine va_put (D := (dC, dI)) (ci := 3) (v := .int (nI (pl + 1))) (ty := .int) (C := RX3) (T := TX3) (N := 6) hx hb hg in_X3 tyX3 tyX3_ok nmX3_ok hown hK hP hD hS 0 rfl rfl 3 (by decide) (hg _ w_53) (fun _ h9 => h9) rfl (by decide +kernel) rfl rfl (Nat.le_of_ble_eq_true rfl) dX3_readRow_47 (fun H locs hP hD hS => ?_)
      have hP : va_P (dC, dI) vwCl [(r, .inr (3, [.ref rs, .ref h, .int (nI len), .int (nI (pl + 1)), .int fn, .int fp])), (rs, .inl (cC, 500, .inl sg)), (h, .inr (1, [.ref hk, .ref hn, .ref hu, .int (nI sz)])), (hk, .inl (cI, 50, .inl ks)), (hn, .inl (cI, 50, .inl ns)), (hu, .inl (cI, 200, .inl us))] H := hP
      have hD : va_D A [(r, .inr (3, [.ref rs, .ref h, .int (nI len), .int (nI (pl + 1)), .int fn, .int fp])), (rs, .inl (cC, 500, .inl sg)), (h, .inr (1, [.ref hk, .ref hn, .ref hu, .int (nI sz)])), (hk, .inl (cI, 50, .inl ks)), (hn, .inl (cI, 50, .inl ns)), (hu, .inl (cI, 200, .inl us))] := hD
      refine lv_aload_n hx hb dX3_readRow_50 rfl (lv_at hl 1 rfl) ?_
      refine lv_iload_n hx hb dX3_readRow_51 rfl (lv_at hl 0 rfl) ?_
      obtain ⟨b1_3, ks1_3, ns1_3, us1_3, sz1_3, pl1_3, fn1_3, fp1_3, hF_3⟩ : ∃ (b1_3 : Bool) (ks1_3 : Nat → Int32) (ns1_3 : Nat → Int32) (us1_3 : Nat → Int32) (sz1_3 : Nat) (pl1_3 : Nat) (fn1_3 : Int32) (fp1_3 : Int32), k_readName sg len (k_kindF (k_sign sg len pl) 0) ks ns us sz (pl + 1) fn fp = (b1_3, ks1_3, ns1_3, us1_3, sz1_3, pl1_3, fn1_3, fp1_3) := ⟨_, _, _, _, _, _, _, _, rfl⟩
      have hq_pl1_3 := k_readName_ok sg len (k_kindF (k_sign sg len pl) 0) ks ns us sz (pl + 1) fn fp (by omega) (by omega)
      rw [hF_3] at hq_pl1_3
      have hq_pl1_3 : sz1_3 ≤ 50 ∧ pl1_3 ≤ len := hq_pl1_3
      obtain ⟨hs_pl1_3, hq_pl1_3⟩ := hq_pl1_3
      refine go_M (r := some (.int (bI b1_3))) (wc' := [(r, .inr (3, [.ref rs, .ref h, .int (nI len), .int (nI pl1_3), .int fn1_3, .int fp1_3])), (rs, .inl (cC, 500, .inl sg)), (h, .inr (1, [.ref hk, .ref hn, .ref hu, .int (nI sz1_3)])), (hk, .inl (cI, 50, .inl ks1_3)), (hn, .inl (cI, 50, .inl ns1_3)), (hu, .inl (cI, 200, .inl us1_3))]) (w2 := [(r, .inr (3, [.ref rs, .ref h, .int (nI len), .int (nI pl1_3), .int fn1_3, .int fp1_3])), (rs, .inl (cC, 500, .inl sg)), (h, .inr (1, [.ref hk, .ref hn, .ref hu, .int (nI sz1_3)])), (hk, .inl (cI, 50, .inl ks1_3)), (hn, .inl (cI, 50, .inl ns1_3)), (hu, .inl (cI, 200, .inl us1_3))]) [0, 1, 2, 3, 4, 5] (va_runV (As := [.int (k_kindF (k_sign sg len pl) 0)]) (rest := []) ⟨hx, hb, hml, hown, hg⟩ (kX3_readName l dC dI B cI cC cJ r rs sg len (pl + 1) fn fp h hk hn hu ks ns us sz (k_kindF (k_sign sg len pl) 0) b1_3 ks1_3 ns1_3 us1_3 sz1_3 pl1_3 fn1_3 fp1_3 (by omega) (by omega) (by omega) hF_3 _) (cwV 1 hg (gi_V w_263 w_264 w_682 w_3 w_265) rfl rfl rfl (by decide +kernel) ⟨Nat.le_of_ble_eq_true rfl, Nat.le_of_ble_eq_true rfl⟩) (pre_MV (va_recv hK hP (ci := 3) (q0 := 0) rfl rfl) (Nat.le_trans hB hS.1) (hP.sub [0, 1, 2, 3, 4, 5] rfl) hK ((hD.weaken (fun _ _ _ h => hAB _ h)).sub [0, 1, 2, 3, 4, 5] (by decide) rfl) (hT.kept (hS.mono hAB))) rfl rfl hl.1 rfl (lv_room (Nat.le_of_ble_eq_true rfl)) dX3_readRow_52 ⟨Nat.le_of_ble_eq_true rfl, Nat.le_of_ble_eq_true rfl⟩) hP hD hS hA rfl (Nat.le_of_ble_eq_true rfl) rfl rfl (fun H locs hP hD hS => ?_)
      refine W.eq (g2 := F0 m 55 ls [.int (bI b1_3)]) rfl ?_
      refine lv_if_eq (tgt := 67) hx hb dX3_readRow_55 (by decide) (fun c_4 => ?_) (fun c_4 => ?_)
      · skip
        have c_4 := bI_eq0 c_4
        refine lv_iconst (v := 0) hx hb dX3_readRow_67 (by decide) ?_
        have hP9 := hP
        have hS9 := hS
        have h9 : k_readRow sg len ks ns us sz pl fn fp = (false, ks1_3, ns1_3, us1_3, sz1_3, pl1_3, fn1_3, fp1_3) := by simp [k_readRow, c_1, c_2, hF_3, c_4]
        have h9 := hF.symm.trans h9
        cases h9
        exact W.zret (ty := .boolean) hx hb hr rfl (fun t ht hW => ⟨rfl, by rw [ht]; exact hP9, hS9.F ht⟩) hS9.2.2 dX3_readRow_68
      · skip
        have c_4 := bI_ne0 c_4
        refine lv_aload_n hx hb dX3_readRow_58 rfl (lv_at hl 1 rfl) ?_
        refine lv_bipush (v := 61) hx hb dX3_readRow_59 (by decide) ?_
        obtain ⟨b1_5, pl1_5, fn1_5, fp1_5, hF_5⟩ : ∃ (b1_5 : Bool) (pl1_5 : Nat) (fn1_5 : Int32) (fp1_5 : Int32), k_readSign sg len 61 pl1_3 fn1_3 fp1_3 = (b1_5, pl1_5, fn1_5, fp1_5) := ⟨_, _, _, _, rfl⟩
        have hq_pl1_5 := k_readSign_le sg len 61 pl1_3 fn1_3 fp1_3 (by omega) (by decide)
        rw [hF_5] at hq_pl1_5
        have hq_pl1_5 : pl1_5 ≤ len := hq_pl1_5
        refine go_M (r := some (.int (bI b1_5))) (wc' := [(r, .inr (3, [.ref rs, .ref h, .int (nI len), .int (nI pl1_5), .int fn1_5, .int fp1_5])), (rs, .inl (cC, 500, .inl sg))]) (w2 := [(r, .inr (3, [.ref rs, .ref h, .int (nI len), .int (nI pl1_5), .int fn1_5, .int fp1_5])), (rs, .inl (cC, 500, .inl sg)), (h, .inr (1, [.ref hk, .ref hn, .ref hu, .int (nI sz1_3)])), (hk, .inl (cI, 50, .inl ks1_3)), (hn, .inl (cI, 50, .inl ns1_3)), (hu, .inl (cI, 200, .inl us1_3))]) [0, 1] (va_runV (As := [.int 61]) (rest := []) ⟨hx, hb, hml, hown, hg⟩ (kX3_readSign l dC dI B cI cC cJ r rs h sg len pl1_3 fn1_3 fp1_3 61 b1_5 pl1_5 fn1_5 fp1_5 (by omega) (by omega) hF_5 _) (cwV 1 hg (gi_V w_278 w_279 w_685 w_3 w_280) rfl rfl rfl (by decide +kernel) ⟨Nat.le_of_ble_eq_true rfl, Nat.le_of_ble_eq_true rfl⟩) (pre_MV (va_recv hK hP (ci := 3) (q0 := 0) rfl rfl) (Nat.le_trans hB hS.1) (hP.sub [0, 1] rfl) hK ((hD.weaken (fun _ _ _ h => hAB _ h)).sub [0, 1] (by decide) rfl) (hT.kept (hS.mono hAB))) rfl rfl hl.1 rfl (lv_room (Nat.le_of_ble_eq_true rfl)) dX3_readRow_61 ⟨Nat.le_of_ble_eq_true rfl, Nat.le_of_ble_eq_true rfl⟩) hP hD hS hA rfl (Nat.le_of_ble_eq_true rfl) rfl rfl (fun H locs hP hD hS => ?_)
        refine W.eq (g2 := F0 m 64 ls [.int (bI b1_5)]) rfl ?_
        refine lv_if_ne (tgt := 69) hx hb dX3_readRow_64 (by decide) (fun c_6 => ?_) (fun c_6 => ?_)
        · skip
          have c_6 := bI_ne0 c_6
          refine lv_iload_n hx hb dX3_readRow_69 rfl (lv_at hl 0 rfl) ?_
          refine go_R (r := (nI (k_nK (k_kindF (k_sign sg len pl) 0)))) (va_runSN (As := [.int (k_kindF (k_sign sg len pl) 0)]) (rest := []) ⟨hx, hb, hml, hown, hg⟩ (kX5_numbersOfKind l dC dI B cI cC cJ (k_kindF (k_sign sg len pl) 0)) ⟨va_cnB 1 hg (gi_N w_210) rfl rfl rfl (st_B.nM hT (q := ("HarbourText$TextReader", 61, yX5_numbersOfKind)) (List.mem_of_getElem? (i := 8) rfl)) (hg _ w_2) (by decide +kernel) ⟨Nat.le_of_ble_eq_true rfl, Nat.le_of_ble_eq_true rfl⟩, hg _ w_209, trivial⟩ (pre_RS (hP.sub [] rfl) hK (hT.kept (hS.mono hAB))) rfl rfl hl.1 rfl (lv_room (Nat.le_of_ble_eq_true rfl)) dX3_readRow_70 ⟨Nat.le_of_ble_eq_true rfl, Nat.le_of_ble_eq_true rfl⟩) ?_
          have hm4 := k_nK_le (k_kindF (k_sign sg len pl) 0)
          refine lv_istore_n (lv' := [(2, .int (nI (k_nK (k_kindF (k_sign sg len pl) 0)))), (1, .int (k_kindF (k_sign sg len pl) 0)), (0, .ref r)]) hx hb dX3_readRow_73 rfl hl (by decide) rfl (fun ls hl => ?_)
          refine lv_iconst (v := 0) hx hb dX3_readRow_74 (by decide) ?_
          refine lv_istore_n (lv' := [(3, .int 0), (2, .int (nI (k_nK (k_kindF (k_sign sg len pl) 0)))), (1, .int (k_kindF (k_sign sg len pl) 0)), (0, .ref r)]) hx hb dX3_readRow_75 rfl hl (by decide) rfl (fun ls hl => ?_)
          refine loop_M (σ := Nat × (Nat → Int32) × Nat × Int32 × Int32) (fun n x H locs ls => k_nK (k_kindF (k_sign sg len pl) 0) - x.1 < n ∧ x.1 ≤ k_nK (k_kindF (k_sign sg len pl) 0) ∧ x.2.2.1 ≤ len ∧ k_readRow sg len ks ns us sz pl fn fp = k_rowEnd ks1_3 ns1_3 sz1_3 (k_nums sg len (k_kindF (k_sign sg len pl) 0) (k_nK (k_kindF (k_sign sg len pl) 0)) x.1 x.2.1 sz1_3 x.2.2.1 x.2.2.2.1 x.2.2.2.2) ∧ va_P (dC, dI) vwCl [(r, .inr (3, [.ref rs, .ref h, .int (nI len), .int (nI x.2.2.1), .int x.2.2.2.1, .int x.2.2.2.2])), (rs, .inl (cC, 500, .inl sg)), (h, .inr (1, [.ref hk, .ref hn, .ref hu, .int (nI sz1_3)])), (hk, .inl (cI, 50, .inl ks1_3)), (hn, .inl (cI, 50, .inl ns1_3)), (hu, .inl (cI, 200, .inl x.2.1))] H ∧ va_D A [(r, .inr (3, [.ref rs, .ref h, .int (nI len), .int (nI x.2.2.1), .int x.2.2.2.1, .int x.2.2.2.2])), (rs, .inl (cC, 500, .inl sg)), (h, .inr (1, [.ref hk, .ref hn, .ref hu, .int (nI sz1_3)])), (hk, .inl (cI, 50, .inl ks1_3)), (hn, .inl (cI, 50, .inl ns1_3)), (hu, .inl (cI, 200, .inl x.2.1))] ∧ va_S A s.heap H locs ∧ lv_has ls 4 [(0, .ref r), (1, .int (k_kindF (k_sign sg len pl) 0)), (2, .int (nI (k_nK (k_kindF (k_sign sg len pl) 0)))), (3, .int (nI x.1))]) (fun n x H locs ls ih_7 hI => ?_) (fun x H locs ls hI => ?_) (n := (k_nK (k_kindF (k_sign sg len pl) 0) - 0) + 1) (x := (0, us1_3, pl1_5, fn1_5, fp1_5)) ⟨(Nat.lt_succ_self _), (by (try dsimp only); omega), (by (try dsimp only); omega), (by simp [k_readRow, c_1, c_2, hF_3, c_4, hF_5, c_6]), hP, hD, hS, lv_sub hl [3, 2, 1, 0] rfl⟩
          · skip
            obtain ⟨k, usx, plx, fnx, fpx⟩ := x
            obtain ⟨hfu, hk0, hpx, he, hP, hD, hS, hl⟩ := hI
            have hfu : k_nK (k_kindF (k_sign sg len pl) 0) - k < n + 1 := hfu
            have hk0 : k ≤ k_nK (k_kindF (k_sign sg len pl) 0) := hk0
            have hpx : plx ≤ len := hpx
            have he : k_readRow sg len ks ns us sz pl fn fp = k_rowEnd ks1_3 ns1_3 sz1_3 (k_nums sg len (k_kindF (k_sign sg len pl) 0) (k_nK (k_kindF (k_sign sg len pl) 0)) k usx sz1_3 plx fnx fpx) := he
            have hP : va_P (dC, dI) vwCl [(r, .inr (3, [.ref rs, .ref h, .int (nI len), .int (nI plx), .int fnx, .int fpx])), (rs, .inl (cC, 500, .inl sg)), (h, .inr (1, [.ref hk, .ref hn, .ref hu, .int (nI sz1_3)])), (hk, .inl (cI, 50, .inl ks1_3)), (hn, .inl (cI, 50, .inl ns1_3)), (hu, .inl (cI, 200, .inl usx))] H := hP
            have hD : va_D A [(r, .inr (3, [.ref rs, .ref h, .int (nI len), .int (nI plx), .int fnx, .int fpx])), (rs, .inl (cC, 500, .inl sg)), (h, .inr (1, [.ref hk, .ref hn, .ref hu, .int (nI sz1_3)])), (hk, .inl (cI, 50, .inl ks1_3)), (hn, .inl (cI, 50, .inl ns1_3)), (hu, .inl (cI, 200, .inl usx))] := hD
            have hl : lv_has ls 4 [(0, .ref r), (1, .int (k_kindF (k_sign sg len pl) 0)), (2, .int (nI (k_nK (k_kindF (k_sign sg len pl) 0)))), (3, .int (nI k))] := hl
            have hm4 := k_nK_le (k_kindF (k_sign sg len pl) 0)
            refine lv_iload_n hx hb dX3_readRow_76 rfl (lv_at hl 3 rfl) ?_
            refine lv_iload_n hx hb dX3_readRow_77 rfl (lv_at hl 2 rfl) ?_
            refine lv_icmp_ge (tgt := 119) hx hb dX3_readRow_78 (by decide) (fun c_8 => ?_) (fun c_8 => ?_)
            · skip
              have c_8 := na_le (a := k_nK (k_kindF (k_sign sg len pl) 0)) (b := k) c_8 (by omega) (by omega)
              refine lv_iconst (v := 1) hx hb dX3_readRow_119 (by decide) ?_
              have hP9 := hP
              have hS9 := hS
              have h9 : k_readRow sg len ks ns us sz pl fn fp = (true, ks1_3, ns1_3, usx, sz1_3, plx, fnx, fpx) := by rw [he, k_nums]; simp [k_rowEnd, c_8]
              have h9 := hF.symm.trans h9
              cases h9
              exact W.zret (ty := .boolean) hx hb hr rfl (fun t ht hW => ⟨rfl, by rw [ht]; exact hP9, hS9.F ht⟩) hS9.2.2 dX3_readRow_120
            · skip
              have c_8 := na_nle (a := k_nK (k_kindF (k_sign sg len pl) 0)) (b := k) c_8 (by omega) (by omega)
              refine lv_aload_n hx hb dX3_readRow_81 rfl (lv_at hl 0 rfl) ?_
              refine lv_iload_n hx hb dX3_readRow_82 rfl (lv_at hl 1 rfl) ?_
              refine lv_iload_n hx hb dX3_readRow_83 rfl (lv_at hl 3 rfl) ?_
              obtain ⟨b1_9, us1_9, pl1_9, fn1_9, fp1_9, hF_9⟩ : ∃ (b1_9 : Bool) (us1_9 : Nat → Int32) (pl1_9 : Nat) (fn1_9 : Int32) (fp1_9 : Int32), k_readNumber sg len (k_kindF (k_sign sg len pl) 0) (nI k) usx sz1_3 plx fnx fpx = (b1_9, us1_9, pl1_9, fn1_9, fp1_9) := ⟨_, _, _, _, _, rfl⟩
              have hq_pl1_9 := k_readNumber_le sg len (k_kindF (k_sign sg len pl) 0) (nI k) usx sz1_3 plx fnx fpx (by omega)
              rw [hF_9] at hq_pl1_9
              have hq_pl1_9 : pl1_9 ≤ len := hq_pl1_9
              refine go_M (r := some (.int (bI b1_9))) (wc' := [(r, .inr (3, [.ref rs, .ref h, .int (nI len), .int (nI pl1_9), .int fn1_9, .int fp1_9])), (rs, .inl (cC, 500, .inl sg)), (h, .inr (1, [.ref hk, .ref hn, .ref hu, .int (nI sz1_3)])), (hk, .inl (cI, 50, .inl ks1_3)), (hn, .inl (cI, 50, .inl ns1_3)), (hu, .inl (cI, 200, .inl us1_9))]) (w2 := [(r, .inr (3, [.ref rs, .ref h, .int (nI len), .int (nI pl1_9), .int fn1_9, .int fp1_9])), (rs, .inl (cC, 500, .inl sg)), (h, .inr (1, [.ref hk, .ref hn, .ref hu, .int (nI sz1_3)])), (hk, .inl (cI, 50, .inl ks1_3)), (hn, .inl (cI, 50, .inl ns1_3)), (hu, .inl (cI, 200, .inl us1_9))]) [0, 1, 2, 3, 4, 5] (va_runV (As := [.int (k_kindF (k_sign sg len pl) 0), .int (nI k)]) (rest := []) ⟨hx, hb, hml, hown, hg⟩ (kX3_readNumber l dC dI B cI cC cJ r rs sg len plx fnx fpx h hk hn hu ks1_3 ns1_3 usx sz1_3 (k_kindF (k_sign sg len pl) 0) (nI k) b1_9 us1_9 pl1_9 fn1_9 fp1_9 (by omega) (by omega) (by omega) hF_9 _) (cwV 2 hg (gi_V w_281 w_282 w_686 w_3 w_283) rfl rfl rfl (by decide +kernel) ⟨Nat.le_of_ble_eq_true rfl, Nat.le_of_ble_eq_true rfl⟩) (pre_MV (va_recv hK hP (ci := 3) (q0 := 0) rfl rfl) (Nat.le_trans hB hS.1) (hP.sub [0, 1, 2, 3, 4, 5] rfl) hK ((hD.weaken (fun _ _ _ h => hAB _ h)).sub [0, 1, 2, 3, 4, 5] (by decide) rfl) (hT.kept (hS.mono hAB))) rfl rfl hl.1 rfl (lv_room (Nat.le_of_ble_eq_true rfl)) dX3_readRow_84 ⟨Nat.le_of_ble_eq_true rfl, Nat.le_of_ble_eq_true rfl⟩) hP hD hS hA rfl (Nat.le_of_ble_eq_true rfl) rfl rfl (fun H locs hP hD hS => ?_)
              refine W.eq (g2 := F0 m 87 ls [.int (bI b1_9)]) rfl ?_
              refine lv_if_eq (tgt := 111) hx hb dX3_readRow_87 (by decide) (fun c_10 => ?_) (fun c_10 => ?_)
              · skip
                have c_10 := bI_eq0 c_10
                refine lv_iconst (v := 0) hx hb dX3_readRow_111 (by decide) ?_
                have hP9 := hP
                have hS9 := hS
                have h9 : k_readRow sg len ks ns us sz pl fn fp = (false, ks1_3, ns1_3, us1_9, sz1_3, pl1_9, fn1_9, fp1_9) := by rw [he, k_nums]; simp [k_rowEnd, c_8, hF_9, c_10]
                have h9 := hF.symm.trans h9
                cases h9
                exact W.zret (ty := .boolean) hx hb hr rfl (fun t ht hW => ⟨rfl, by rw [ht]; exact hP9, hS9.F ht⟩) hS9.2.2 dX3_readRow_112
              · skip
                have c_10 := bI_ne0 c_10
                refine lv_aload_n hx hb dX3_readRow_90 rfl (lv_at hl 0 rfl) ?_
                refine lv_iload_n hx hb dX3_readRow_91 rfl (lv_at hl 3 rfl) ?_
                refine lv_iconst (v := 1) hx hb dX3_readRow_92 (by decide) ?_
                refine lv_iadd hx hb dX3_readRow_93 ?_
                refine top_eq (y := (nI (k + 1))) (by exact nI_add _ _) ?_
                refine lv_iload_n hx hb dX3_readRow_94 rfl (lv_at hl 2 rfl) ?_
                refine lv_icmp_ge (tgt := 103) hx hb dX3_readRow_95 (by decide) (fun c_11 => ?_) (fun c_11 => ?_)
                · skip
                  have c_11 := na_le (a := k_nK (k_kindF (k_sign sg len pl) 0)) (b := k + 1) c_11 (by omega) (by omega)
                  refine lv_bipush (v := 59) hx hb dX3_readRow_103 (by decide) ?_
                  obtain ⟨b1_12, pl1_12, fn1_12, fp1_12, hF_12⟩ : ∃ (b1_12 : Bool) (pl1_12 : Nat) (fn1_12 : Int32) (fp1_12 : Int32), k_readSign sg len 59 pl1_9 fn1_9 fp1_9 = (b1_12, pl1_12, fn1_12, fp1_12) := ⟨_, _, _, _, rfl⟩
                  have hq_pl1_12 := k_readSign_le sg len 59 pl1_9 fn1_9 fp1_9 (by omega) (by decide)
                  rw [hF_12] at hq_pl1_12
                  have hq_pl1_12 : pl1_12 ≤ len := hq_pl1_12
                  refine go_M (r := some (.int (bI b1_12))) (wc' := [(r, .inr (3, [.ref rs, .ref h, .int (nI len), .int (nI pl1_12), .int fn1_12, .int fp1_12])), (rs, .inl (cC, 500, .inl sg))]) (w2 := [(r, .inr (3, [.ref rs, .ref h, .int (nI len), .int (nI pl1_12), .int fn1_12, .int fp1_12])), (rs, .inl (cC, 500, .inl sg)), (h, .inr (1, [.ref hk, .ref hn, .ref hu, .int (nI sz1_3)])), (hk, .inl (cI, 50, .inl ks1_3)), (hn, .inl (cI, 50, .inl ns1_3)), (hu, .inl (cI, 200, .inl us1_9))]) [0, 1] (va_runV (As := [.int 59]) (rest := []) ⟨hx, hb, hml, hown, hg⟩ (kX3_readSign l dC dI B cI cC cJ r rs h sg len pl1_9 fn1_9 fp1_9 59 b1_12 pl1_12 fn1_12 fp1_12 (by omega) (by omega) hF_12 _) (cwV 1 hg (gi_V w_278 w_279 w_685 w_3 w_280) rfl rfl rfl (by decide +kernel) ⟨Nat.le_of_ble_eq_true rfl, Nat.le_of_ble_eq_true rfl⟩) (pre_MV (va_recv hK hP (ci := 3) (q0 := 0) rfl rfl) (Nat.le_trans hB hS.1) (hP.sub [0, 1] rfl) hK ((hD.weaken (fun _ _ _ h => hAB _ h)).sub [0, 1] (by decide) rfl) (hT.kept (hS.mono hAB))) rfl rfl hl.1 rfl (lv_room (Nat.le_of_ble_eq_true rfl)) dX3_readRow_105 ⟨Nat.le_of_ble_eq_true rfl, Nat.le_of_ble_eq_true rfl⟩) hP hD hS hA rfl (Nat.le_of_ble_eq_true rfl) rfl rfl (fun H locs hP hD hS => ?_)
                  refine W.eq (g2 := F0 m 108 ls [.int (bI b1_12)]) rfl ?_
                  refine lv_if_ne (tgt := 113) hx hb dX3_readRow_108 (by decide) (fun c_13 => ?_) (fun c_13 => ?_)
                  · skip
                    have c_13 := bI_ne0 c_13
                    refine lv_iinc (v := (nI (k + 1))) (lv' := [(3, .int (nI (k + 1))), (0, .ref r), (1, .int (k_kindF (k_sign sg len pl) 0)), (2, .int (nI (k_nK (k_kindF (k_sign sg len pl) 0))))]) hx hb dX3_readRow_113 hl (k := 3) rfl (by rw [← nI_add]; rfl) (by decide) rfl (fun ls hl => ?_)
                    refine lv_goto (tgt := 76) hx hb dX3_readRow_116 (by decide) ?_
                    exact ih_7 (k + 1, us1_9, pl1_12, fn1_12, fp1_12) _ _ _ ⟨(by (try dsimp only); omega), (by (try dsimp only); omega), (by (try dsimp only); omega), (by (try dsimp only); rw [he, k_nums]; simp [c_8, hF_9, c_10, c_11, hF_12, c_13]), hP, hD, hS, lv_sub hl [1, 2, 3, 0] rfl⟩
                  · skip
                    have c_13 := bI_eq0 c_13
                    refine lv_iconst (v := 0) hx hb dX3_readRow_111 (by decide) ?_
                    have hP9 := hP
                    have hS9 := hS
                    have h9 : k_readRow sg len ks ns us sz pl fn fp = (false, ks1_3, ns1_3, us1_9, sz1_3, pl1_12, fn1_12, fp1_12) := by rw [he, k_nums]; simp [k_rowEnd, c_8, hF_9, c_10, c_11, hF_12, c_13]
                    have h9 := hF.symm.trans h9
                    cases h9
                    exact W.zret (ty := .boolean) hx hb hr rfl (fun t ht hW => ⟨rfl, by rw [ht]; exact hP9, hS9.F ht⟩) hS9.2.2 dX3_readRow_112
                · skip
                  have c_11 := na_nle (a := k_nK (k_kindF (k_sign sg len pl) 0)) (b := k + 1) c_11 (by omega) (by omega)
                  refine lv_bipush (v := 44) hx hb dX3_readRow_98 (by decide) ?_
                  refine lv_goto (tgt := 105) hx hb dX3_readRow_100 (by decide) ?_
                  obtain ⟨b1_14, pl1_14, fn1_14, fp1_14, hF_14⟩ : ∃ (b1_14 : Bool) (pl1_14 : Nat) (fn1_14 : Int32) (fp1_14 : Int32), k_readSign sg len 44 pl1_9 fn1_9 fp1_9 = (b1_14, pl1_14, fn1_14, fp1_14) := ⟨_, _, _, _, rfl⟩
                  have hq_pl1_14 := k_readSign_le sg len 44 pl1_9 fn1_9 fp1_9 (by omega) (by decide)
                  rw [hF_14] at hq_pl1_14
                  have hq_pl1_14 : pl1_14 ≤ len := hq_pl1_14
                  refine go_M (r := some (.int (bI b1_14))) (wc' := [(r, .inr (3, [.ref rs, .ref h, .int (nI len), .int (nI pl1_14), .int fn1_14, .int fp1_14])), (rs, .inl (cC, 500, .inl sg))]) (w2 := [(r, .inr (3, [.ref rs, .ref h, .int (nI len), .int (nI pl1_14), .int fn1_14, .int fp1_14])), (rs, .inl (cC, 500, .inl sg)), (h, .inr (1, [.ref hk, .ref hn, .ref hu, .int (nI sz1_3)])), (hk, .inl (cI, 50, .inl ks1_3)), (hn, .inl (cI, 50, .inl ns1_3)), (hu, .inl (cI, 200, .inl us1_9))]) [0, 1] (va_runV (As := [.int 44]) (rest := []) ⟨hx, hb, hml, hown, hg⟩ (kX3_readSign l dC dI B cI cC cJ r rs h sg len pl1_9 fn1_9 fp1_9 44 b1_14 pl1_14 fn1_14 fp1_14 (by omega) (by omega) hF_14 _) (cwV 1 hg (gi_V w_278 w_279 w_685 w_3 w_280) rfl rfl rfl (by decide +kernel) ⟨Nat.le_of_ble_eq_true rfl, Nat.le_of_ble_eq_true rfl⟩) (pre_MV (va_recv hK hP (ci := 3) (q0 := 0) rfl rfl) (Nat.le_trans hB hS.1) (hP.sub [0, 1] rfl) hK ((hD.weaken (fun _ _ _ h => hAB _ h)).sub [0, 1] (by decide) rfl) (hT.kept (hS.mono hAB))) rfl rfl hl.1 rfl (lv_room (Nat.le_of_ble_eq_true rfl)) dX3_readRow_105 ⟨Nat.le_of_ble_eq_true rfl, Nat.le_of_ble_eq_true rfl⟩) hP hD hS hA rfl (Nat.le_of_ble_eq_true rfl) rfl rfl (fun H locs hP hD hS => ?_)
                  refine W.eq (g2 := F0 m 108 ls [.int (bI b1_14)]) rfl ?_
                  refine lv_if_ne (tgt := 113) hx hb dX3_readRow_108 (by decide) (fun c_15 => ?_) (fun c_15 => ?_)
                  · skip
                    have c_15 := bI_ne0 c_15
                    refine lv_iinc (v := (nI (k + 1))) (lv' := [(3, .int (nI (k + 1))), (0, .ref r), (1, .int (k_kindF (k_sign sg len pl) 0)), (2, .int (nI (k_nK (k_kindF (k_sign sg len pl) 0))))]) hx hb dX3_readRow_113 hl (k := 3) rfl (by rw [← nI_add]; rfl) (by decide) rfl (fun ls hl => ?_)
                    refine lv_goto (tgt := 76) hx hb dX3_readRow_116 (by decide) ?_
                    exact ih_7 (k + 1, us1_9, pl1_14, fn1_14, fp1_14) _ _ _ ⟨(by (try dsimp only); omega), (by (try dsimp only); omega), (by (try dsimp only); omega), (by (try dsimp only); rw [he, k_nums]; simp [c_8, hF_9, c_10, c_11, hF_14, c_15]), hP, hD, hS, lv_sub hl [1, 2, 3, 0] rfl⟩
                  · skip
                    have c_15 := bI_eq0 c_15
                    refine lv_iconst (v := 0) hx hb dX3_readRow_111 (by decide) ?_
                    have hP9 := hP
                    have hS9 := hS
                    have h9 : k_readRow sg len ks ns us sz pl fn fp = (false, ks1_3, ns1_3, us1_9, sz1_3, pl1_14, fn1_14, fp1_14) := by rw [he, k_nums]; simp [k_rowEnd, c_8, hF_9, c_10, c_11, hF_14, c_15]
                    have h9 := hF.symm.trans h9
                    cases h9
                    exact W.zret (ty := .boolean) hx hb hr rfl (fun t ht hW => ⟨rfl, by rw [ht]; exact hP9, hS9.F ht⟩) hS9.2.2 dX3_readRow_112
          · exact absurd hI.1 (Nat.not_lt_zero _)
        · skip
          have c_6 := bI_eq0 c_6
          refine lv_iconst (v := 0) hx hb dX3_readRow_67 (by decide) ?_
          have hP9 := hP
          have hS9 := hS
          have h9 : k_readRow sg len ks ns us sz pl fn fp = (false, ks1_3, ns1_3, us1_3, sz1_3, pl1_5, fn1_5, fp1_5) := by simp [k_readRow, c_1, c_2, hF_3, c_4, hF_5, c_6]
          have h9 := hF.symm.trans h9
          cases h9
          exact W.zret (ty := .boolean) hx hb hr rfl (fun t ht hW => ⟨rfl, by rw [ht]; exact hP9, hS9.F ht⟩) hS9.2.2 dX3_readRow_68
    · skip
      have c_2 := bI_ne0 c_2
      refine lv_aload_n hx hb dX3_readRow_30 rfl (lv_at hl 1 rfl) ?_
      refine lv_iconst (v := 5) hx hb dX3_readRow_31 (by decide) ?_
      refine lv_aload_n hx hb dX3_readRow_32 rfl (lv_at hl 1 rfl) ?_
      refine va_get (D := (dC, dI)) (ci := 3) (v := .int (nI pl)) (C := RX3) (T := TX3) (N := 6) hx hb hg in_X3 hown hK hP 0 rfl rfl 3 (by decide) (hg _ w_53) (fun _ h9 => h9) rfl dX3_readRow_33 ?_
      refine go_M (r := some (.int (bI false))) (wc' := [(r, .inr (3, [.ref rs, .ref h, .int (nI len), .int (nI pl), .int 5, .int (nI pl)])), (rs, .inl (cC, 500, .inl sg))]) (w2 := [(r, .inr (3, [.ref rs, .ref h, .int (nI len), .int (nI pl), .int 5, .int (nI pl)])), (rs, .inl (cC, 500, .inl sg)), (h, .inr (1, [.ref hk, .ref hn, .ref hu, .int (nI sz)])), (hk, .inl (cI, 50, .inl ks)), (hn, .inl (cI, 50, .inl ns)), (hu, .inl (cI, 200, .inl us))]) [0, 1] (va_runV (As := [.int 5, .int (nI pl)]) (rest := []) ⟨hx, hb, hml, hown, hg⟩ (kX3_fail l dC dI B cI cC cJ r rs h sg len pl fn fp 5 (nI pl) _) (cwV 2 hg (gi_V w_256 w_257 w_681 w_3 w_258) rfl rfl rfl (by decide +kernel) ⟨Nat.le_of_ble_eq_true rfl, Nat.le_of_ble_eq_true rfl⟩) (pre_MV (va_recv hK hP (ci := 3) (q0 := 0) rfl rfl) (Nat.le_trans hB hS.1) (hP.sub [0, 1] rfl) hK ((hD.weaken (fun _ _ _ h => hAB _ h)).sub [0, 1] (by decide) rfl) hT) rfl rfl hl.1 rfl (lv_room (Nat.le_of_ble_eq_true rfl)) dX3_readRow_36 ⟨Nat.le_of_ble_eq_true rfl, Nat.le_of_ble_eq_true rfl⟩) hP hD hS hA rfl (Nat.le_of_ble_eq_true rfl) rfl rfl (fun H locs hP hD hS => ?_)
      refine W.eq (g2 := F0 m 39 ls [.int (bI false)]) rfl ?_
      have hP9 := hP
      have hS9 := hS
      have h9 : k_readRow sg len ks ns us sz pl fn fp = (false, ks, ns, us, sz, pl, 5, (nI pl)) := by simp [k_readRow, c_1, c_2]
      have h9 := hF.symm.trans h9
      cases h9
      exact W.zret (ty := .boolean) hx hb hr (bI_nar _) (fun t ht hW => ⟨rfl, by rw [ht]; exact hP9, hS9.F ht⟩) hS9.2.2 dX3_readRow_39
  · skip
    refine lv_aload_n hx hb dX3_readRow_10 rfl (lv_at hl 1 rfl) ?_
    refine lv_iconst (v := 1) hx hb dX3_readRow_11 (by decide) ?_
    refine lv_aload_n hx hb dX3_readRow_12 rfl (lv_at hl 1 rfl) ?_
    refine va_get (D := (dC, dI)) (ci := 3) (v := .int (nI pl)) (C := RX3) (T := TX3) (N := 6) hx hb hg in_X3 hown hK hP 0 rfl rfl 3 (by decide) (hg _ w_53) (fun _ h9 => h9) rfl dX3_readRow_13 ?_
    refine go_M (r := some (.int (bI false))) (wc' := [(r, .inr (3, [.ref rs, .ref h, .int (nI len), .int (nI pl), .int 1, .int (nI pl)])), (rs, .inl (cC, 500, .inl sg))]) (w2 := [(r, .inr (3, [.ref rs, .ref h, .int (nI len), .int (nI pl), .int 1, .int (nI pl)])), (rs, .inl (cC, 500, .inl sg)), (h, .inr (1, [.ref hk, .ref hn, .ref hu, .int (nI sz)])), (hk, .inl (cI, 50, .inl ks)), (hn, .inl (cI, 50, .inl ns)), (hu, .inl (cI, 200, .inl us))]) [0, 1] (va_runV (As := [.int 1, .int (nI pl)]) (rest := []) ⟨hx, hb, hml, hown, hg⟩ (kX3_fail l dC dI B cI cC cJ r rs h sg len pl fn fp 1 (nI pl) _) (cwV 2 hg (gi_V w_256 w_257 w_681 w_3 w_258) rfl rfl rfl (by decide +kernel) ⟨Nat.le_of_ble_eq_true rfl, Nat.le_of_ble_eq_true rfl⟩) (pre_MV (va_recv hK hP (ci := 3) (q0 := 0) rfl rfl) (Nat.le_trans hB hS.1) (hP.sub [0, 1] rfl) hK ((hD.weaken (fun _ _ _ h => hAB _ h)).sub [0, 1] (by decide) rfl) hT) rfl rfl hl.1 rfl (lv_room (Nat.le_of_ble_eq_true rfl)) dX3_readRow_16 ⟨Nat.le_of_ble_eq_true rfl, Nat.le_of_ble_eq_true rfl⟩) hP hD hS hA rfl (Nat.le_of_ble_eq_true rfl) rfl rfl (fun H locs hP hD hS => ?_)
    refine W.eq (g2 := F0 m 19 ls [.int (bI false)]) rfl ?_
    have hP9 := hP
    have hS9 := hS
    have h9 : k_readRow sg len ks ns us sz pl fn fp = (false, ks, ns, us, sz, pl, 1, (nI pl)) := by simp [k_readRow, c_1]
    have h9 := hF.symm.trans h9
    cases h9
    exact W.zret (ty := .boolean) hx hb hr (bI_nar _) (fun t ht hW => ⟨rfl, by rw [ht]; exact hP9, hS9.F ht⟩) hS9.2.2 dX3_readRow_19
set_option maxHeartbeats 4000000 in
set_option maxRecDepth 100000 in
theorem kX3_readAll (l : Launch) (dC : Nat → ClassId) (dI : Nat → Nat → Nat) (B : Nat) (cI cC cJ : ClassId) (r : Nat) (rs : Nat) (sg : Nat → Int32) (len : Nat) (pl : Nat) (fn : Int32) (fp : Int32) (h : Nat) (hk : Nat) (hn : Nat) (hu : Nat) (ks : Nat → Int32) (ns : Nat → Int32) (us : Nat → Int32) (sz : Nat) (b1 : Bool) (ks1 : Nat → Int32) (ns1 : Nat → Int32) (us1 : Nat → Int32) (sz1 : Nat) (pl1 : Nat) (fn1 : Int32) (fp1 : Int32) (hlen : len ≤ 500) (hpl : pl ≤ len) (hsz : sz ≤ 50) (hF : k_readAll sg len ks ns us = (b1, ks1, ns1, us1, sz1, pl1, fn1, fp1)) (sz9 : Nat) : Met l yX3_readAll wsX3_readAll ({ frames := 5, cells := 0, slots := 0, locals := 114 }) (q_Mp (dC, dI) vwCl [.ref r] [(r, .inr (3, [.ref rs, .ref h, .int (nI len), .int (nI pl), .int fn, .int fp])), (rs, .inl (cC, 500, .inl sg)), (h, .inr (1, [.ref hk, .ref hn, .ref hu, .int (nI sz)])), (hk, .inl (cI, 50, .inl ks)), (hn, .inl (cI, 50, .inl ns)), (hu, .inl (cI, 200, .inl us))] [(cI, .int), (cC, .char), (cJ, .long)] B sz9) (q_Mq (dC, dI) vwCl [(r, .inr (3, [.ref rs, .ref h, .int (nI 0), .int (nI pl1), .int fn1, .int fp1])), (rs, .inl (cC, 500, .inl sg)), (h, .inr (1, [.ref hk, .ref hn, .ref hu, .int (nI sz1)])), (hk, .inl (cI, 50, .inl ks1)), (hn, .inl (cI, 50, .inl ns1)), (hu, .inl (cI, 200, .inl us1))] (va_A [(r, .inr (3, [.ref rs, .ref h, .int (nI len), .int (nI pl), .int fn, .int fp])), (rs, .inl (cC, 500, .inl sg)), (h, .inr (1, [.ref hk, .ref hn, .ref hu, .int (nI sz)])), (hk, .inl (cI, 50, .inl ks)), (hn, .inl (cI, 50, .inl ns)), (hu, .inl (cI, 200, .inl us))] sz9) (some (.int (bI b1)))) 0 0 (va_A [(r, .inr (3, [.ref rs, .ref h, .int (nI len), .int (nI pl), .int fn, .int fp])), (rs, .inl (cC, 500, .inl sg)), (h, .inr (1, [.ref hk, .ref hn, .ref hu, .int (nI sz)])), (hk, .inl (cI, 50, .inl ks)), (hn, .inl (cI, 50, .inl ns)), (hu, .inl (cI, 200, .inl us))] sz9) := by
  refine Met.ofW (cc := cX3_readAll) (maxL := 3) (ret := (some .boolean)) (by decide) rfl ?_
  intro p e s m args below meth c s₁ Bd hml hv
  obtain ⟨rfl, hsz9, hB, hP, hK, hD0, hT⟩ := hv
  have hx := Bd.exec
  have hb := Bd.bytes
  have hr := Bd.returns
  have hts := atoms_spec (ws := wsX3_readAll) Bd.pre
  have hg : ∀ w ∈ lw_good, w.before _ s = true := fun w h => hts w (List.mem_cons_of_mem _ h)
  have hown : s.vm.findClass RX3 = some m.cls := findClass_of_methodNamed Bd.named
  have hlocks := Bd.notSynchronized
  subst hsz9
  have hD := hD0.self (sz := s.heap.size)
  generalize hAe : va_A [(r, .inr (3, [.ref rs, .ref h, .int (nI len), .int (nI pl), .int fn, .int fp])), (rs, .inl (cC, 500, .inl sg)), (h, .inr (1, [.ref hk, .ref hn, .ref hu, .int (nI sz)])), (hk, .inl (cI, 50, .inl ks)), (hn, .inl (cI, 50, .inl ns)), (hu, .inl (cI, 200, .inl us))] s.heap.size = A at hD ⊢
  have hA : ∀ q : Nat, s.heap.size ≤ q → A q := fun q h => by rw [← hAe]; exact Or.inr h
  have hAB : ∀ q, A q → B ≤ q := by rw [← hAe]; exact va_A.ge hD0 hB
  have hS : va_S A s.heap s.heap [] := va_S.rf
  have hP : va_P (dC, dI) vwCl [(r, .inr (3, [.ref rs, .ref h, .int (nI len), .int (nI pl), .int fn, .int fp])), (rs, .inl (cC, 500, .inl sg)), (h, .inr (1, [.ref hk, .ref hn, .ref hu, .int (nI sz)])), (hk, .inl (cI, 50, .inl ks)), (hn, .inl (cI, 50, .inl ns)), (hu, .inl (cI, 200, .inl us))] s.heap := hP
  have hl := lv_entry ([.ref r]) (n := 3) (Nat.le_of_ble_eq_true rfl)
  rw [lg_entry_eq]
  generalize (lg_sl ([.ref r]) ++ List.replicate (3 - (lg_sl ([.ref r])).length) Slot.unset).toArray = ls at hl ⊢
  have hl : lv_has ls 3 [(0, .ref r)] := hl
  refine lv_aload_n hx hb dX3_readAll_0 rfl (lv_at hl 0 rfl) ?_
  refine va_get (D := (dC, dI)) (ci := 3) (v := .ref h) (C := RX3) (T := TX3) (N := 6) hx hb hg in_X3 hown hK hP 0 rfl rfl 1 (by decide) (hg _ w_51) (fun _ h9 => h9) rfl dX3_readAll_1 ?_
  refine go_M (r := none) (wc' := [(h, .inr (1, [.ref hk, .ref hn, .ref hu, .int (nI 0)])), (hk, .inl (cI, 50, .inl ks)), (hn, .inl (cI, 50, .inl ns)), (hu, .inl (cI, 200, .inl us))]) (w2 := [(r, .inr (3, [.ref rs, .ref h, .int (nI len), .int (nI pl), .int fn, .int fp])), (rs, .inl (cC, 500, .inl sg)), (h, .inr (1, [.ref hk, .ref hn, .ref hu, .int (nI 0)])), (hk, .inl (cI, 50, .inl ks)), (hn, .inl (cI, 50, .inl ns)), (hu, .inl (cI, 200, .inl us))]) [2, 3, 4, 5] (va_runV (As := []) (rest := []) ⟨hx, hb, hml, hown, hg⟩ (kX1_clear l dC dI B cI cC cJ h hk hn hu ks ns us sz (by omega) _) (cwV 0 hg (gi_V w_243 w_244 w_245 w_4 w_246) rfl rfl rfl (by decide +kernel) ⟨Nat.le_of_ble_eq_true rfl, Nat.le_of_ble_eq_true rfl⟩) (pre_MV (va_recv hK hP (ci := 1) (q0 := 2) rfl rfl) (Nat.le_trans hB hS.1) (hP.sub [2, 3, 4, 5] rfl) hK ((hD.weaken (fun _ _ _ h => hAB _ h)).sub [2, 3, 4, 5] (by decide) rfl) hT) rfl rfl hl.1 rfl (lv_room (Nat.le_of_ble_eq_true rfl)) dX3_readAll_4 ⟨Nat.le_of_ble_eq_true rfl, Nat.le_of_ble_eq_true rfl⟩) hP hD hS hA rfl (Nat.le_of_ble_eq_true rfl) rfl rfl (fun H locs hP hD hS => ?_)
  refine W.eq (g2 := F0 m 7 ls []) rfl ?_
  refine lv_aload_n hx hb dX3_readAll_7 rfl (lv_at hl 0 rfl) ?_
  refine lv_iconst (v := 0) hx hb dX3_readAll_8 (by decide) ?_
  refine va_put (D := (dC, dI)) (ci := 3) (v := .int 0) (ty := .int) (C := RX3) (T := TX3) (N := 6) hx hb hg in_X3 tyX3 tyX3_ok nmX3_ok hown hK hP hD hS 0 rfl rfl 3 (by decide) (hg _ w_53) (fun _ h9 => h9) rfl (by decide +kernel) rfl rfl (Nat.le_of_ble_eq_true rfl) dX3_readAll_9 (fun H locs hP hD hS => ?_)
  have hP : va_P (dC, dI) vwCl [(r, .inr (3, [.ref rs, .ref h, .int (nI len), .int 0, .int fn, .int fp])), (rs, .inl (cC, 500, .inl sg)), (h, .inr (1, [.ref hk, .ref hn, .ref hu, .int (nI 0)])), (hk, .inl (cI, 50, .inl ks)), (hn, .inl (cI, 50, .inl ns)), (hu, .inl (cI, 200, .inl us))] H := hP
  have hD : va_D A [(r, .inr (3, [.ref rs, .ref h, .int (nI len), .int 0, .int fn, .int fp])), (rs, .inl (cC, 500, .inl sg)), (h, .inr (1, [.ref hk, .ref hn, .ref hu, .int (nI 0)])), (hk, .inl (cI, 50, .inl ks)), (hn, .inl (cI, 50, .inl ns)), (hu, .inl (cI, 200, .inl us))] := hD
  refine lv_aload_n hx hb dX3_readAll_12 rfl (lv_at hl 0 rfl) ?_
  refine lv_iconst (v := 0) hx hb dX3_readAll_13 (by decide) ?_
  refine va_put (D := (dC, dI)) (ci := 3) (v := .int 0) (ty := .int) (C := RX3) (T := TX3) (N := 6) hx hb hg in_X3 tyX3 tyX3_ok nmX3_ok hown hK hP hD hS 0 rfl rfl 4 (by decide) (hg _ w_54) (fun _ h9 => h9) rfl (by decide +kernel) rfl rfl (Nat.le_of_ble_eq_true rfl) dX3_readAll_14 (fun H locs hP hD hS => ?_)
  have hP : va_P (dC, dI) vwCl [(r, .inr (3, [.ref rs, .ref h, .int (nI len), .int 0, .int 0, .int fp])), (rs, .inl (cC, 500, .inl sg)), (h, .inr (1, [.ref hk, .ref hn, .ref hu, .int (nI 0)])), (hk, .inl (cI, 50, .inl ks)), (hn, .inl (cI, 50, .inl ns)), (hu, .inl (cI, 200, .inl us))] H := hP
  have hD : va_D A [(r, .inr (3, [.ref rs, .ref h, .int (nI len), .int 0, .int 0, .int fp])), (rs, .inl (cC, 500, .inl sg)), (h, .inr (1, [.ref hk, .ref hn, .ref hu, .int (nI 0)])), (hk, .inl (cI, 50, .inl ks)), (hn, .inl (cI, 50, .inl ns)), (hu, .inl (cI, 200, .inl us))] := hD
  refine lv_aload_n hx hb dX3_readAll_17 rfl (lv_at hl 0 rfl) ?_
  refine lv_iconst (v := (-1)) hx hb dX3_readAll_18 (by decide) ?_
  refine va_put (D := (dC, dI)) (ci := 3) (v := .int (-1)) (ty := .int) (C := RX3) (T := TX3) (N := 6) hx hb hg in_X3 tyX3 tyX3_ok nmX3_ok hown hK hP hD hS 0 rfl rfl 5 (by decide) (hg _ w_55) (fun _ h9 => h9) rfl (by decide +kernel) rfl rfl (Nat.le_of_ble_eq_true rfl) dX3_readAll_19 (fun H locs hP hD hS => ?_)
  have hP : va_P (dC, dI) vwCl [(r, .inr (3, [.ref rs, .ref h, .int (nI len), .int 0, .int 0, .int (-1)])), (rs, .inl (cC, 500, .inl sg)), (h, .inr (1, [.ref hk, .ref hn, .ref hu, .int (nI 0)])), (hk, .inl (cI, 50, .inl ks)), (hn, .inl (cI, 50, .inl ns)), (hu, .inl (cI, 200, .inl us))] H := hP
  have hD : va_D A [(r, .inr (3, [.ref rs, .ref h, .int (nI len), .int 0, .int 0, .int (-1)])), (rs, .inl (cC, 500, .inl sg)), (h, .inr (1, [.ref hk, .ref hn, .ref hu, .int (nI 0)])), (hk, .inl (cI, 50, .inl ks)), (hn, .inl (cI, 50, .inl ns)), (hu, .inl (cI, 200, .inl us))] := hD
  refine lv_iconst (v := 1) hx hb dX3_readAll_22 (by decide) ?_
  refine lv_istore_n (lv' := [(1, .int 1), (0, .ref r)]) hx hb dX3_readAll_23 rfl hl (by decide) rfl (fun ls hl => ?_)
  refine lv_iconst (v := 0) hx hb dX3_readAll_24 (by decide) ?_
  refine lv_istore_n (lv' := [(2, .int 0), (1, .int 1), (0, .ref r)]) hx hb dX3_readAll_25 rfl hl (by decide) rfl (fun ls hl => ?_)
  refine loop_M (σ := Nat × Bool × (Nat → Int32) × (Nat → Int32) × (Nat → Int32) × Nat × Nat × Int32 × Int32) (fun n x H locs ls => 51 - x.1 < n ∧ x.1 ≤ 51 ∧ x.2.2.2.2.2.1 ≤ 50 ∧ x.2.2.2.2.2.2.1 ≤ len ∧ k_readAll sg len ks ns us = k_rows sg len x.1 x.2.1 x.2.2.1 x.2.2.2.1 x.2.2.2.2.1 x.2.2.2.2.2.1 x.2.2.2.2.2.2.1 x.2.2.2.2.2.2.2.1 x.2.2.2.2.2.2.2.2 ∧ va_P (dC, dI) vwCl [(r, .inr (3, [.ref rs, .ref h, .int (nI len), .int (nI x.2.2.2.2.2.2.1), .int x.2.2.2.2.2.2.2.1, .int x.2.2.2.2.2.2.2.2])), (rs, .inl (cC, 500, .inl sg)), (h, .inr (1, [.ref hk, .ref hn, .ref hu, .int (nI x.2.2.2.2.2.1)])), (hk, .inl (cI, 50, .inl x.2.2.1)), (hn, .inl (cI, 50, .inl x.2.2.2.1)), (hu, .inl (cI, 200, .inl x.2.2.2.2.1))] H ∧ va_D A [(r, .inr (3, [.ref rs, .ref h, .int (nI len), .int (nI x.2.2.2.2.2.2.1), .int x.2.2.2.2.2.2.2.1, .int x.2.2.2.2.2.2.2.2])), (rs, .inl (cC, 500, .inl sg)), (h, .inr (1, [.ref hk, .ref hn, .ref hu, .int (nI x.2.2.2.2.2.1)])), (hk, .inl (cI, 50, .inl x.2.2.1)), (hn, .inl (cI, 50, .inl x.2.2.2.1)), (hu, .inl (cI, 200, .inl x.2.2.2.2.1))] ∧ va_S A s.heap H locs ∧ lv_has ls 3 [(0, .ref r), (1, .int (bI x.2.1)), (2, .int (nI x.1))]) (fun n x H locs ls ih_1 hI => ?_) (fun x H locs ls hI => ?_) (n := (51 - 0) + 1) (x := (0, true, ks, ns, us, 0, 0, 0, (-1))) ⟨(Nat.lt_succ_self _), (by (try dsimp only); omega), (by (try dsimp only); omega), (by (try dsimp only); omega), rfl, hP, hD, hS, lv_sub hl [2, 1, 0] rfl⟩
  · skip
    obtain ⟨row, rt, ksx, nsx, usx, szx, plx, fnx, fpx⟩ := x
    obtain ⟨hfu, hrw, hsx, hpx, he, hP, hD, hS, hl⟩ := hI
    have hfu : 51 - row < n + 1 := hfu
    have hrw : row ≤ 51 := hrw
    have hsx : szx ≤ 50 := hsx
    have hpx : plx ≤ len := hpx
    have he : k_readAll sg len ks ns us = k_rows sg len row rt ksx nsx usx szx plx fnx fpx := he
    have hP : va_P (dC, dI) vwCl [(r, .inr (3, [.ref rs, .ref h, .int (nI len), .int (nI plx), .int fnx, .int fpx])), (rs, .inl (cC, 500, .inl sg)), (h, .inr (1, [.ref hk, .ref hn, .ref hu, .int (nI szx)])), (hk, .inl (cI, 50, .inl ksx)), (hn, .inl (cI, 50, .inl nsx)), (hu, .inl (cI, 200, .inl usx))] H := hP
    have hD : va_D A [(r, .inr (3, [.ref rs, .ref h, .int (nI len), .int (nI plx), .int fnx, .int fpx])), (rs, .inl (cC, 500, .inl sg)), (h, .inr (1, [.ref hk, .ref hn, .ref hu, .int (nI szx)])), (hk, .inl (cI, 50, .inl ksx)), (hn, .inl (cI, 50, .inl nsx)), (hu, .inl (cI, 200, .inl usx))] := hD
    have hl : lv_has ls 3 [(0, .ref r), (1, .int (bI rt)), (2, .int (nI row))] := hl
    refine lv_iload_n hx hb dX3_readAll_26 rfl (lv_at hl 2 rfl) ?_
    refine lv_bipush (v := 50) hx hb dX3_readAll_27 (by decide) ?_
    refine lv_icmp_gt (tgt := 58) hx hb dX3_readAll_29 (by decide) (fun c_2 => ?_) (fun c_2 => ?_)
    · skip
      have c_2 := na_lt (a := 50) (b := row) c_2 (by omega) (by omega)
      refine lv_aload_n hx hb dX3_readAll_58 rfl (lv_at hl 0 rfl) ?_
      refine lv_iconst (v := 0) hx hb dX3_readAll_59 (by decide) ?_
      refine va_put (D := (dC, dI)) (ci := 3) (v := .int 0) (ty := .int) (C := RX3) (T := TX3) (N := 6) hx hb hg in_X3 tyX3 tyX3_ok nmX3_ok hown hK hP hD hS 0 rfl rfl 2 (by decide) (hg _ w_52) (fun _ h9 => h9) rfl (by decide +kernel) rfl rfl (Nat.le_of_ble_eq_true rfl) dX3_readAll_60 (fun H locs hP hD hS => ?_)
      have hP : va_P (dC, dI) vwCl [(r, .inr (3, [.ref rs, .ref h, .int 0, .int (nI plx), .int fnx, .int fpx])), (rs, .inl (cC, 500, .inl sg)), (h, .inr (1, [.ref hk, .ref hn, .ref hu, .int (nI szx)])), (hk, .inl (cI, 50, .inl ksx)), (hn, .inl (cI, 50, .inl nsx)), (hu, .inl (cI, 200, .inl usx))] H := hP
      have hD : va_D A [(r, .inr (3, [.ref rs, .ref h, .int 0, .int (nI plx), .int fnx, .int fpx])), (rs, .inl (cC, 500, .inl sg)), (h, .inr (1, [.ref hk, .ref hn, .ref hu, .int (nI szx)])), (hk, .inl (cI, 50, .inl ksx)), (hn, .inl (cI, 50, .inl nsx)), (hu, .inl (cI, 200, .inl usx))] := hD
      refine lv_iload_n hx hb dX3_readAll_63 rfl (lv_at hl 1 rfl) ?_
      have hP9 := hP
      have hS9 := hS
      have h9 : k_readAll sg len ks ns us = (rt, ksx, nsx, usx, szx, plx, fnx, fpx) := by rw [he, k_rows]; simp [c_2]
      have h9 := hF.symm.trans h9
      cases h9
      exact W.zret (ty := .boolean) hx hb hr (bI_nar _) (fun t ht hW => ⟨rfl, by rw [ht]; exact hP9, hS9.F ht⟩) hS9.2.2 dX3_readAll_64
    · skip
      have c_2 := na_nlt (a := 50) (b := row) c_2 (by omega) (by omega)
      refine lv_iload_n hx hb dX3_readAll_32 rfl (lv_at hl 1 rfl) ?_
      refine lv_if_eq (tgt := 58) hx hb dX3_readAll_33 (by decide) (fun c_3 => ?_) (fun c_3 => ?_)
      · skip
        have c_3 := bI_eq0 c_3
        refine lv_aload_n hx hb dX3_readAll_58 rfl (lv_at hl 0 rfl) ?_
        refine lv_iconst (v := 0) hx hb dX3_readAll_59 (by decide) ?_
        refine va_put (D := (dC, dI)) (ci := 3) (v := .int 0) (ty := .int) (C := RX3) (T := TX3) (N := 6) hx hb hg in_X3 tyX3 tyX3_ok nmX3_ok hown hK hP hD hS 0 rfl rfl 2 (by decide) (hg _ w_52) (fun _ h9 => h9) rfl (by decide +kernel) rfl rfl (Nat.le_of_ble_eq_true rfl) dX3_readAll_60 (fun H locs hP hD hS => ?_)
        have hP : va_P (dC, dI) vwCl [(r, .inr (3, [.ref rs, .ref h, .int 0, .int (nI plx), .int fnx, .int fpx])), (rs, .inl (cC, 500, .inl sg)), (h, .inr (1, [.ref hk, .ref hn, .ref hu, .int (nI szx)])), (hk, .inl (cI, 50, .inl ksx)), (hn, .inl (cI, 50, .inl nsx)), (hu, .inl (cI, 200, .inl usx))] H := hP
        have hD : va_D A [(r, .inr (3, [.ref rs, .ref h, .int 0, .int (nI plx), .int fnx, .int fpx])), (rs, .inl (cC, 500, .inl sg)), (h, .inr (1, [.ref hk, .ref hn, .ref hu, .int (nI szx)])), (hk, .inl (cI, 50, .inl ksx)), (hn, .inl (cI, 50, .inl nsx)), (hu, .inl (cI, 200, .inl usx))] := hD
        refine lv_iload_n hx hb dX3_readAll_63 rfl (lv_at hl 1 rfl) ?_
        have hP9 := hP
        have hS9 := hS
        have h9 : k_readAll sg len ks ns us = (rt, ksx, nsx, usx, szx, plx, fnx, fpx) := by rw [he, k_rows]; simp [c_2, c_3]
        have h9 := hF.symm.trans h9
        cases h9
        exact W.zret (ty := .boolean) hx hb hr (bI_nar _) (fun t ht hW => ⟨rfl, by rw [ht]; exact hP9, hS9.F ht⟩) hS9.2.2 dX3_readAll_64
      · skip
        have c_3 := bI_ne0 c_3
        refine lv_aload_n hx hb dX3_readAll_36 rfl (lv_at hl 0 rfl) ?_
        refine va_get (D := (dC, dI)) (ci := 3) (v := .int (nI plx)) (C := RX3) (T := TX3) (N := 6) hx hb hg in_X3 hown hK hP 0 rfl rfl 3 (by decide) (hg _ w_53) (fun _ h9 => h9) rfl dX3_readAll_37 ?_
        refine lv_aload_n hx hb dX3_readAll_40 rfl (lv_at hl 0 rfl) ?_
        refine va_get (D := (dC, dI)) (ci := 3) (v := .int (nI len)) (C := RX3) (T := TX3) (N := 6) hx hb hg in_X3 hown hK hP 0 rfl rfl 2 (by decide) (hg _ w_52) (fun _ h9 => h9) rfl dX3_readAll_41 ?_
        refine lv_icmp_ge (tgt := 58) hx hb dX3_readAll_44 (by decide) (fun c_4 => ?_) (fun c_4 => ?_)
        · skip
          have c_4 := na_le (a := len) (b := plx) c_4 (by omega) (by omega)
          refine lv_aload_n hx hb dX3_readAll_58 rfl (lv_at hl 0 rfl) ?_
          refine lv_iconst (v := 0) hx hb dX3_readAll_59 (by decide) ?_
          refine va_put (D := (dC, dI)) (ci := 3) (v := .int 0) (ty := .int) (C := RX3) (T := TX3) (N := 6) hx hb hg in_X3 tyX3 tyX3_ok nmX3_ok hown hK hP hD hS 0 rfl rfl 2 (by decide) (hg _ w_52) (fun _ h9 => h9) rfl (by decide +kernel) rfl rfl (Nat.le_of_ble_eq_true rfl) dX3_readAll_60 (fun H locs hP hD hS => ?_)
          have hP : va_P (dC, dI) vwCl [(r, .inr (3, [.ref rs, .ref h, .int 0, .int (nI plx), .int fnx, .int fpx])), (rs, .inl (cC, 500, .inl sg)), (h, .inr (1, [.ref hk, .ref hn, .ref hu, .int (nI szx)])), (hk, .inl (cI, 50, .inl ksx)), (hn, .inl (cI, 50, .inl nsx)), (hu, .inl (cI, 200, .inl usx))] H := hP
          have hD : va_D A [(r, .inr (3, [.ref rs, .ref h, .int 0, .int (nI plx), .int fnx, .int fpx])), (rs, .inl (cC, 500, .inl sg)), (h, .inr (1, [.ref hk, .ref hn, .ref hu, .int (nI szx)])), (hk, .inl (cI, 50, .inl ksx)), (hn, .inl (cI, 50, .inl nsx)), (hu, .inl (cI, 200, .inl usx))] := hD
          refine lv_iload_n hx hb dX3_readAll_63 rfl (lv_at hl 1 rfl) ?_
          have hP9 := hP
          have hS9 := hS
          have h9 : k_readAll sg len ks ns us = (rt, ksx, nsx, usx, szx, plx, fnx, fpx) := by rw [he, k_rows]; simp [c_2, c_3, c_4]
          have h9 := hF.symm.trans h9
          cases h9
          exact W.zret (ty := .boolean) hx hb hr (bI_nar _) (fun t ht hW => ⟨rfl, by rw [ht]; exact hP9, hS9.F ht⟩) hS9.2.2 dX3_readAll_64
        · skip
          have c_4 := na_nle (a := len) (b := plx) c_4 (by omega) (by omega)
          refine lv_aload_n hx hb dX3_readAll_47 rfl (lv_at hl 0 rfl) ?_
          obtain ⟨b1_5, ks1_5, ns1_5, us1_5, sz1_5, pl1_5, fn1_5, fp1_5, hF_5⟩ : ∃ (b1_5 : Bool) (ks1_5 : Nat → Int32) (ns1_5 : Nat → Int32) (us1_5 : Nat → Int32) (sz1_5 : Nat) (pl1_5 : Nat) (fn1_5 : Int32) (fp1_5 : Int32), k_readRow sg len ksx nsx usx szx plx fnx fpx = (b1_5, ks1_5, ns1_5, us1_5, sz1_5, pl1_5, fn1_5, fp1_5) := ⟨_, _, _, _, _, _, _, _, rfl⟩
          have hq_pl1_5 := k_readRow_ok sg len ksx nsx usx szx plx fnx fpx (by omega) (by omega)
          rw [hF_5] at hq_pl1_5
          have hq_pl1_5 : sz1_5 ≤ 50 ∧ pl1_5 ≤ len := hq_pl1_5
          obtain ⟨hs_pl1_5, hq_pl1_5⟩ := hq_pl1_5
          refine go_M (r := some (.int (bI b1_5))) (wc' := [(r, .inr (3, [.ref rs, .ref h, .int (nI len), .int (nI pl1_5), .int fn1_5, .int fp1_5])), (rs, .inl (cC, 500, .inl sg)), (h, .inr (1, [.ref hk, .ref hn, .ref hu, .int (nI sz1_5)])), (hk, .inl (cI, 50, .inl ks1_5)), (hn, .inl (cI, 50, .inl ns1_5)), (hu, .inl (cI, 200, .inl us1_5))]) (w2 := [(r, .inr (3, [.ref rs, .ref h, .int (nI len), .int (nI pl1_5), .int fn1_5, .int fp1_5])), (rs, .inl (cC, 500, .inl sg)), (h, .inr (1, [.ref hk, .ref hn, .ref hu, .int (nI sz1_5)])), (hk, .inl (cI, 50, .inl ks1_5)), (hn, .inl (cI, 50, .inl ns1_5)), (hu, .inl (cI, 200, .inl us1_5))]) [0, 1, 2, 3, 4, 5] (va_runV (As := []) (rest := []) ⟨hx, hb, hml, hown, hg⟩ (kX3_readRow l dC dI B cI cC cJ r rs sg len plx fnx fpx h hk hn hu ksx nsx usx szx b1_5 ks1_5 ns1_5 us1_5 sz1_5 pl1_5 fn1_5 fp1_5 (by omega) (by omega) (by omega) hF_5 _) (cwV 0 hg (gi_V w_247 w_248 w_678 w_3 w_249) rfl rfl rfl (by decide +kernel) ⟨Nat.le_of_ble_eq_true rfl, Nat.le_of_ble_eq_true rfl⟩) (pre_MV (va_recv hK hP (ci := 3) (q0 := 0) rfl rfl) (Nat.le_trans hB hS.1) (hP.sub [0, 1, 2, 3, 4, 5] rfl) hK ((hD.weaken (fun _ _ _ h => hAB _ h)).sub [0, 1, 2, 3, 4, 5] (by decide) rfl) (hT.kept (hS.mono hAB))) rfl rfl hl.1 rfl (lv_room (Nat.le_of_ble_eq_true rfl)) dX3_readAll_48 ⟨Nat.le_of_ble_eq_true rfl, Nat.le_of_ble_eq_true rfl⟩) hP hD hS hA rfl (Nat.le_of_ble_eq_true rfl) rfl rfl (fun H locs hP hD hS => ?_)
          refine W.eq (g2 := F0 m 51 ls [.int (bI b1_5)]) rfl ?_
          refine lv_istore_n (lv' := [(1, .int (bI b1_5)), (0, .ref r), (2, .int (nI row))]) hx hb dX3_readAll_51 rfl hl (by decide) rfl (fun ls hl => ?_)
          refine lv_iinc (v := (nI (row + 1))) (lv' := [(2, .int (nI (row + 1))), (1, .int (bI b1_5)), (0, .ref r)]) hx hb dX3_readAll_52 hl (k := 2) rfl (by rw [← nI_add]; rfl) (by decide) rfl (fun ls hl => ?_)
          refine lv_goto (tgt := 26) hx hb dX3_readAll_55 (by decide) ?_
          exact ih_1 (row + 1, b1_5, ks1_5, ns1_5, us1_5, sz1_5, pl1_5, fn1_5, fp1_5) _ _ _ ⟨(by (try dsimp only); omega), (by (try dsimp only); omega), (by (try dsimp only); omega), (by (try dsimp only); omega), (by (try dsimp only); rw [he, k_rows]; simp [c_2, c_3, c_4, hF_5]), hP, hD, hS, lv_sub hl [2, 1, 0] rfl⟩
  · exact absurd hI.1 (Nat.not_lt_zero _)
end
section
set_option maxHeartbeats 4000000 in
set_option maxRecDepth 100000 in
theorem kX4_depthAt (l : Launch) (dC : Nat → ClassId) (dI : Nat → Nat → Nat) (B : Nat) (cI cC cJ : ClassId) (w : Nat) (wd : Nat) (dp : Nat → Int32) (p0 : Int32) : Met l yX4_depthAt wsX4_depthAt ({ frames := 1, cells := 0, slots := 0, locals := 20 }) (q_Rd (dC, dI) vwCl [.ref w, .int p0] [(w, .inr (4, [.ref wd])), (wd, .inl (cI, 16, .inl dp))] [(cI, .int), (cC, .char), (cJ, .long)] B) (QcRead (k_depthAt dp p0)) 0 0 (fun _ => False) := by
  refine Met.ofW (cc := cX4_depthAt) (maxL := 2) (ret := (some .int)) (by decide) rfl ?_
  intro p e s m args below meth c s₁ Bd hml hv
  obtain ⟨rfl, hP, hK, hT⟩ := hv
  have hx := Bd.exec
  have hb := Bd.bytes
  have hr := Bd.returns
  have hts := atoms_spec (ws := wsX4_depthAt) Bd.pre
  have hg : ∀ w ∈ lw_good, w.before _ s = true := fun w h => hts w (List.mem_cons_of_mem _ h)
  have hown : s.vm.findClass RX4 = some m.cls := findClass_of_methodNamed Bd.named
  have hlocks := Bd.notSynchronized
  have hSB : va_S (fun q => B ≤ q) s.heap s.heap [] := va_S.rf
  have hP : va_P (dC, dI) vwCl [(w, .inr (4, [.ref wd])), (wd, .inl (cI, 16, .inl dp))] s.heap := hP
  have hl := lv_entry ([.ref w, .int p0]) (n := 2) (Nat.le_of_ble_eq_true rfl)
  rw [lg_entry_eq]
  generalize (lg_sl ([.ref w, .int p0]) ++ List.replicate (2 - (lg_sl ([.ref w, .int p0])).length) Slot.unset).toArray = ls at hl ⊢
  have hl : lv_has ls 2 [(0, .ref w), (1, .int p0)] := hl
  refine lv_iload_n hx hb dX4_depthAt_0 rfl (lv_at hl 1 rfl) ?_
  refine go_R (r := (bI (k_isPoint p0))) (va_runSN (As := [.int p0]) (rest := []) ⟨hx, hb, hml, hown, hg⟩ (kX5_isPoint l dC dI B cI cC cJ p0) ⟨va_cnB 1 hg (gi_N w_377) rfl rfl rfl (st_B.nM hT (q := ("HarbourText$Ways", 15, yX5_isPoint)) (List.mem_of_getElem? (i := 10) rfl)) (hg _ w_2) (by decide +kernel) ⟨Nat.le_of_ble_eq_true rfl, Nat.le_of_ble_eq_true rfl⟩, hg _ w_376, trivial⟩ (pre_RS (hP.sub [] rfl) hK hT) rfl rfl hl.1 rfl (lv_room (Nat.le_of_ble_eq_true rfl)) dX4_depthAt_1 ⟨Nat.le_of_ble_eq_true rfl, Nat.le_of_ble_eq_true rfl⟩) ?_
  refine lv_if_eq (tgt := 16) hx hb dX4_depthAt_4 (by decide) (fun c_1 => ?_) (fun c_1 => ?_)
  · skip
    have c_1 := bI_eq0 c_1
    refine lv_iconst (v := 0) hx hb dX4_depthAt_16 (by decide) ?_
    exact W.iret (v := 0) hx hb hr (fun t ht hW => rd_end (by simp [k_depthAt, c_1]) ht) (fun q h => by cases h) dX4_depthAt_17
  · skip
    have c_1 := bI_ne0 c_1
    refine lv_aload_n hx hb dX4_depthAt_7 rfl (lv_at hl 0 rfl) ?_
    refine va_get (D := (dC, dI)) (ci := 4) (v := .ref wd) (C := RX4) (T := TX4) (N := 1) hx hb hg in_X4 hown hK hP 0 rfl rfl 0 (by decide) (hg _ w_75) (fun _ h9 => h9) rfl dX4_depthAt_8 ?_
    refine lv_iload_n hx hb dX4_depthAt_11 rfl (lv_at hl 1 rfl) ?_
    refine va_iald (i := p0) hx hb hK hP 1 0 rfl rfl (pt_in c_1) dX4_depthAt_12 ?_
    refine lv_goto (tgt := 17) hx hb dX4_depthAt_13 (by decide) ?_
    exact W.iret (v := dp p0.toNatClampNeg) hx hb hr (fun t ht hW => rd_end (by simp [k_depthAt, c_1]) ht) (fun q h => by cases h) dX4_depthAt_17
set_option maxHeartbeats 4000000 in
set_option maxRecDepth 100000 in
theorem kX4_deepen (l : Launch) (dC : Nat → ClassId) (dI : Nat → Nat → Nat) (B : Nat) (cI cC cJ : ClassId) (w : Nat) (wd : Nat) (dp : Nat → Int32) (p0 : Int32) (p1 : Int32) (p2 : Int32) (b1 : Bool) (dp1 : Nat → Int32) (hF : k_deepen dp p0 p1 p2 = (b1, dp1)) (sz9 : Nat) : Met l yX4_deepen wsX4_deepen ({ frames := 1, cells := 0, slots := 0, locals := 20 }) (q_Mp (dC, dI) vwCl [.ref w, .int p0, .int p1, .int p2] [(w, .inr (4, [.ref wd])), (wd, .inl (cI, 16, .inl dp))] [(cI, .int), (cC, .char), (cJ, .long)] B sz9) (q_Mq (dC, dI) vwCl [(w, .inr (4, [.ref wd])), (wd, .inl (cI, 16, .inl dp1))] (va_A [(w, .inr (4, [.ref wd])), (wd, .inl (cI, 16, .inl dp))] sz9) (some (.int (bI b1)))) 0 0 (va_A [(w, .inr (4, [.ref wd])), (wd, .inl (cI, 16, .inl dp))] sz9) := by
  refine Met.ofW (cc := cX4_deepen) (maxL := 5) (ret := (some .boolean)) (by decide) rfl ?_
  intro p e s m args below meth c s₁ Bd hml hv
  obtain ⟨rfl, hsz9, hB, hP, hK, hD0, hT⟩ := hv
  have hx := Bd.exec
  have hb := Bd.bytes
  have hr := Bd.returns
  have hts := atoms_spec (ws := wsX4_deepen) Bd.pre
  have hg : ∀ w ∈ lw_good, w.before _ s = true := fun w h => hts w (List.mem_cons_of_mem _ h)
  have hown : s.vm.findClass RX4 = some m.cls := findClass_of_methodNamed Bd.named
  have hlocks := Bd.notSynchronized
  subst hsz9
  have hD := hD0.self (sz := s.heap.size)
  generalize hAe : va_A [(w, .inr (4, [.ref wd])), (wd, .inl (cI, 16, .inl dp))] s.heap.size = A at hD ⊢
  have hA : ∀ q : Nat, s.heap.size ≤ q → A q := fun q h => by rw [← hAe]; exact Or.inr h
  have hAB : ∀ q, A q → B ≤ q := by rw [← hAe]; exact va_A.ge hD0 hB
  have hS : va_S A s.heap s.heap [] := va_S.rf
  have hP : va_P (dC, dI) vwCl [(w, .inr (4, [.ref wd])), (wd, .inl (cI, 16, .inl dp))] s.heap := hP
  have hl := lv_entry ([.ref w, .int p0, .int p1, .int p2]) (n := 5) (Nat.le_of_ble_eq_true rfl)
  rw [lg_entry_eq]
  generalize (lg_sl ([.ref w, .int p0, .int p1, .int p2]) ++ List.replicate (5 - (lg_sl ([.ref w, .int p0, .int p1, .int p2])).length) Slot.unset).toArray = ls at hl ⊢
  have hl : lv_has ls 5 [(0, .ref w), (1, .int p0), (2, .int p1), (3, .int p2)] := hl
  refine lv_iload_n hx hb dX4_deepen_0 rfl (lv_at hl 1 rfl) ?_
  refine go_R (r := (bI (k_isPoint p0))) (va_runSN (As := [.int p0]) (rest := []) ⟨hx, hb, hml, hown, hg⟩ (kX5_isPoint l dC dI B cI cC cJ p0) ⟨va_cnB 1 hg (gi_N w_377) rfl rfl rfl (st_B.nM hT (q := ("HarbourText$Ways", 15, yX5_isPoint)) (List.mem_of_getElem? (i := 10) rfl)) (hg _ w_2) (by decide +kernel) ⟨Nat.le_of_ble_eq_true rfl, Nat.le_of_ble_eq_true rfl⟩, hg _ w_376, trivial⟩ (pre_RS (hP.sub [] rfl) hK hT) rfl rfl hl.1 rfl (lv_room (Nat.le_of_ble_eq_true rfl)) dX4_deepen_1 ⟨Nat.le_of_ble_eq_true rfl, Nat.le_of_ble_eq_true rfl⟩) ?_
  refine lv_if_eq (tgt := 14) hx hb dX4_deepen_4 (by decide) (fun c_1 => ?_) (fun c_1 => ?_)
  · skip
    have c_1 := bI_eq0 c_1
    refine lv_iconst (v := 0) hx hb dX4_deepen_14 (by decide) ?_
    have hP9 := hP
    have hS9 := hS
    have h9 : k_deepen dp p0 p1 p2 = (false, dp) := by simp [k_deepen, c_1]
    have h9 := hF.symm.trans h9
    cases h9
    exact W.zret (ty := .boolean) hx hb hr rfl (fun t ht hW => ⟨rfl, by rw [ht]; exact hP9, hS9.F ht⟩) hS9.2.2 dX4_deepen_15
  · skip
    have c_1 := bI_ne0 c_1
    refine lv_iload_n hx hb dX4_deepen_7 rfl (lv_at hl 2 rfl) ?_
    refine go_R (r := (bI (k_isPoint p1))) (va_runSN (As := [.int p1]) (rest := []) ⟨hx, hb, hml, hown, hg⟩ (kX5_isPoint l dC dI B cI cC cJ p1) ⟨va_cnB 1 hg (gi_N w_377) rfl rfl rfl (st_B.nM hT (q := ("HarbourText$Ways", 15, yX5_isPoint)) (List.mem_of_getElem? (i := 10) rfl)) (hg _ w_2) (by decide +kernel) ⟨Nat.le_of_ble_eq_true rfl, Nat.le_of_ble_eq_true rfl⟩, hg _ w_376, trivial⟩ (pre_RS (hP.sub [] rfl) hK hT) rfl rfl hl.1 rfl (lv_room (Nat.le_of_ble_eq_true rfl)) dX4_deepen_8 ⟨Nat.le_of_ble_eq_true rfl, Nat.le_of_ble_eq_true rfl⟩) ?_
    refine lv_if_ne (tgt := 16) hx hb dX4_deepen_11 (by decide) (fun c_2 => ?_) (fun c_2 => ?_)
    · skip
      have c_2 := bI_ne0 c_2
      refine lv_aload_n hx hb dX4_deepen_16 rfl (lv_at hl 0 rfl) ?_
      refine va_get (D := (dC, dI)) (ci := 4) (v := .ref wd) (C := RX4) (T := TX4) (N := 1) hx hb hg in_X4 hown hK hP 0 rfl rfl 0 (by decide) (hg _ w_75) (fun _ h9 => h9) rfl dX4_deepen_17 ?_
      refine lv_iload_n hx hb dX4_deepen_20 rfl (lv_at hl 1 rfl) ?_
      refine va_iald (i := p0) hx hb hK hP 1 0 rfl rfl (pt_in c_1) dX4_deepen_21 ?_
      refine lv_iload_n hx hb dX4_deepen_22 rfl (lv_at hl 3 rfl) ?_
      refine va_mmin hx hb (hml.trans hl.1.symm) hown (hg _ w_378) (hg _ w_379) (hg _ w_14) (hg _ w_380) (Nat.le_of_ble_eq_true rfl) (Nat.le_of_ble_eq_true rfl) (Nat.zero_le _) (Nat.zero_le _) dX4_deepen_23 ?_
      refine lv_istore (lv' := [(4, .int (if p2 < dp p0.toNatClampNeg then p2 else dp p0.toNatClampNeg)), (0, .ref w), (1, .int p0), (2, .int p1), (3, .int p2)]) hx hb dX4_deepen_26 hl (by decide) rfl (fun ls hl => ?_)
      refine lv_iload hx hb dX4_deepen_28 (lv_at hl 0 rfl) ?_
      refine lv_aload_n hx hb dX4_deepen_30 rfl (lv_at hl 1 rfl) ?_
      refine va_get (D := (dC, dI)) (ci := 4) (v := .ref wd) (C := RX4) (T := TX4) (N := 1) hx hb hg in_X4 hown hK hP 0 rfl rfl 0 (by decide) (hg _ w_75) (fun _ h9 => h9) rfl dX4_deepen_31 ?_
      refine lv_iload_n hx hb dX4_deepen_34 rfl (lv_at hl 3 rfl) ?_
      refine va_iald (i := p1) hx hb hK hP 1 0 rfl rfl (pt_in c_2) dX4_deepen_35 ?_
      refine lv_icmp_gt (tgt := 41) hx hb dX4_deepen_36 (by decide) (fun c_3 => ?_) (fun c_3 => ?_)
      · skip
        refine lv_aload_n hx hb dX4_deepen_41 rfl (lv_at hl 1 rfl) ?_
        refine va_get (D := (dC, dI)) (ci := 4) (v := .ref wd) (C := RX4) (T := TX4) (N := 1) hx hb hg in_X4 hown hK hP 0 rfl rfl 0 (by decide) (hg _ w_75) (fun _ h9 => h9) rfl dX4_deepen_42 ?_
        refine lv_iload_n hx hb dX4_deepen_45 rfl (lv_at hl 3 rfl) ?_
        refine lv_iload hx hb dX4_deepen_46 (lv_at hl 0 rfl) ?_
        refine va_iast (i := p1) hx hb hK hP hD hS 1 0 rfl rfl (pt_in c_2) dX4_deepen_48 (fun H locs hP hD hS => ?_)
        have hP : va_P (dC, dI) vwCl [(w, .inr (4, [.ref wd])), (wd, .inl (cI, 16, .inl (upd dp p1.toNatClampNeg (if p2 < dp p0.toNatClampNeg then p2 else dp p0.toNatClampNeg))))] H := hP
        have hD : va_D A [(w, .inr (4, [.ref wd])), (wd, .inl (cI, 16, .inl (upd dp p1.toNatClampNeg (if p2 < dp p0.toNatClampNeg then p2 else dp p0.toNatClampNeg))))] := hD
        refine lv_iconst (v := 1) hx hb dX4_deepen_49 (by decide) ?_
        have hP9 := hP
        have hS9 := hS
        have h9 : k_deepen dp p0 p1 p2 = (true, upd dp p1.toNatClampNeg (if p2 < dp p0.toNatClampNeg then p2 else dp p0.toNatClampNeg)) := by simp [k_deepen, c_1, c_2, c_3]
        have h9 := hF.symm.trans h9
        cases h9
        exact W.zret (ty := .boolean) hx hb hr rfl (fun t ht hW => ⟨rfl, by rw [ht]; exact hP9, hS9.F ht⟩) hS9.2.2 dX4_deepen_50
      · skip
        refine lv_iconst (v := 0) hx hb dX4_deepen_39 (by decide) ?_
        have hP9 := hP
        have hS9 := hS
        have h9 : k_deepen dp p0 p1 p2 = (false, dp) := by simp [k_deepen, c_1, c_2, c_3]
        have h9 := hF.symm.trans h9
        cases h9
        exact W.zret (ty := .boolean) hx hb hr rfl (fun t ht hW => ⟨rfl, by rw [ht]; exact hP9, hS9.F ht⟩) hS9.2.2 dX4_deepen_40
    · skip
      have c_2 := bI_eq0 c_2
      refine lv_iconst (v := 0) hx hb dX4_deepen_14 (by decide) ?_
      have hP9 := hP
      have hS9 := hS
      have h9 : k_deepen dp p0 p1 p2 = (false, dp) := by simp [k_deepen, c_1, c_2]
      have h9 := hF.symm.trans h9
      cases h9
      exact W.zret (ty := .boolean) hx hb hr rfl (fun t ht hW => ⟨rfl, by rw [ht]; exact hP9, hS9.F ht⟩) hS9.2.2 dX4_deepen_15
set_option maxHeartbeats 4000000 in
set_option maxRecDepth 100000 in
theorem kX4_spreadAlong (l : Launch) (dC : Nat → ClassId) (dI : Nat → Nat → Nat) (B : Nat) (cI cC cJ : ClassId) (w : Nat) (wd : Nat) (dp : Nat → Int32) (h : Nat) (hk : Nat) (hn : Nat) (hu : Nat) (ks : Nat → Int32) (ns : Nat → Int32) (us : Nat → Int32) (sz : Nat) (p1 : Int32) (b1 : Bool) (dp1 : Nat → Int32) (hsz : sz ≤ 50) (hF : k_along ks us sz p1 dp = (b1, dp1)) (sz9 : Nat) : Met l yX4_spreadAlong wsX4_spreadAlong ({ frames := 2, cells := 0, slots := 0, locals := 44 }) (q_Mp (dC, dI) vwCl [.ref w, .ref h, .int p1] [(w, .inr (4, [.ref wd])), (wd, .inl (cI, 16, .inl dp)), (h, .inr (1, [.ref hk, .ref hn, .ref hu, .int (nI sz)])), (hk, .inl (cI, 50, .inl ks)), (hn, .inl (cI, 50, .inl ns)), (hu, .inl (cI, 200, .inl us))] [(cI, .int), (cC, .char), (cJ, .long)] B sz9) (q_Mq (dC, dI) vwCl [(w, .inr (4, [.ref wd])), (wd, .inl (cI, 16, .inl dp1)), (h, .inr (1, [.ref hk, .ref hn, .ref hu, .int (nI sz)])), (hk, .inl (cI, 50, .inl ks)), (hn, .inl (cI, 50, .inl ns)), (hu, .inl (cI, 200, .inl us))] (va_A [(w, .inr (4, [.ref wd])), (wd, .inl (cI, 16, .inl dp)), (h, .inr (1, [.ref hk, .ref hn, .ref hu, .int (nI sz)])), (hk, .inl (cI, 50, .inl ks)), (hn, .inl (cI, 50, .inl ns)), (hu, .inl (cI, 200, .inl us))] sz9) (some (.int (bI b1)))) 0 0 (va_A [(w, .inr (4, [.ref wd])), (wd, .inl (cI, 16, .inl dp)), (h, .inr (1, [.ref hk, .ref hn, .ref hu, .int (nI sz)])), (hk, .inl (cI, 50, .inl ks)), (hn, .inl (cI, 50, .inl ns)), (hu, .inl (cI, 200, .inl us))] sz9) := by
  refine Met.ofW (cc := cX4_spreadAlong) (maxL := 6) (ret := (some .boolean)) (by decide) rfl ?_
  intro p e s m args below meth c s₁ Bd hml hv
  obtain ⟨rfl, hsz9, hB, hP, hK, hD0, hT⟩ := hv
  have hx := Bd.exec
  have hb := Bd.bytes
  have hr := Bd.returns
  have hts := atoms_spec (ws := wsX4_spreadAlong) Bd.pre
  have hg : ∀ w ∈ lw_good, w.before _ s = true := fun w h => hts w (List.mem_cons_of_mem _ h)
  have hown : s.vm.findClass RX4 = some m.cls := findClass_of_methodNamed Bd.named
  have hlocks := Bd.notSynchronized
  subst hsz9
  have hD := hD0.self (sz := s.heap.size)
  generalize hAe : va_A [(w, .inr (4, [.ref wd])), (wd, .inl (cI, 16, .inl dp)), (h, .inr (1, [.ref hk, .ref hn, .ref hu, .int (nI sz)])), (hk, .inl (cI, 50, .inl ks)), (hn, .inl (cI, 50, .inl ns)), (hu, .inl (cI, 200, .inl us))] s.heap.size = A at hD ⊢
  have hA : ∀ q : Nat, s.heap.size ≤ q → A q := fun q h => by rw [← hAe]; exact Or.inr h
  have hAB : ∀ q, A q → B ≤ q := by rw [← hAe]; exact va_A.ge hD0 hB
  have hS : va_S A s.heap s.heap [] := va_S.rf
  have hP : va_P (dC, dI) vwCl [(w, .inr (4, [.ref wd])), (wd, .inl (cI, 16, .inl dp)), (h, .inr (1, [.ref hk, .ref hn, .ref hu, .int (nI sz)])), (hk, .inl (cI, 50, .inl ks)), (hn, .inl (cI, 50, .inl ns)), (hu, .inl (cI, 200, .inl us))] s.heap := hP
  have hl := lv_entry ([.ref w, .ref h, .int p1]) (n := 6) (Nat.le_of_ble_eq_true rfl)
  rw [lg_entry_eq]
  generalize (lg_sl ([.ref w, .ref h, .int p1]) ++ List.replicate (6 - (lg_sl ([.ref w, .ref h, .int p1])).length) Slot.unset).toArray = ls at hl ⊢
  have hl : lv_has ls 6 [(0, .ref w), (1, .ref h), (2, .int p1)] := hl
  refine lv_aload_n hx hb dX4_spreadAlong_0 rfl (lv_at hl 1 rfl) ?_
  refine lv_iload_n hx hb dX4_spreadAlong_1 rfl (lv_at hl 2 rfl) ?_
  refine lv_iconst (v := 0) hx hb dX4_spreadAlong_2 (by decide) ?_
  refine go_R (r := k_num us sz p1 0) (va_runV (As := [.int p1, .int 0]) (rest := []) ⟨hx, hb, hml, hown, hg⟩ (kX1_numberOf l dC dI B cI cC cJ h hk hn hu ks ns us sz p1 0 (by omega)) (cwV 2 hg (gi_V w_372 w_216 w_217 w_4 w_218) rfl rfl rfl (by decide +kernel) ⟨Nat.le_of_ble_eq_true rfl, Nat.le_of_ble_eq_true rfl⟩) (pre_RV (va_recv hK hP (ci := 1) (q0 := 2) rfl rfl) (hP.sub [2, 3, 4, 5] rfl) hK hT) rfl rfl hl.1 rfl (lv_room (Nat.le_of_ble_eq_true rfl)) dX4_spreadAlong_3 ⟨Nat.le_of_ble_eq_true rfl, Nat.le_of_ble_eq_true rfl⟩) ?_
  refine lv_istore_n (lv' := [(3, .int (k_num us sz p1 0)), (0, .ref w), (1, .ref h), (2, .int p1)]) hx hb dX4_spreadAlong_6 rfl hl (by decide) rfl (fun ls hl => ?_)
  refine lv_aload_n hx hb dX4_spreadAlong_7 rfl (lv_at hl 2 rfl) ?_
  refine lv_iload_n hx hb dX4_spreadAlong_8 rfl (lv_at hl 3 rfl) ?_
  refine lv_iconst (v := 1) hx hb dX4_spreadAlong_9 (by decide) ?_
  refine go_R (r := k_num us sz p1 1) (va_runV (As := [.int p1, .int 1]) (rest := []) ⟨hx, hb, hml, hown, hg⟩ (kX1_numberOf l dC dI B cI cC cJ h hk hn hu ks ns us sz p1 1 (by omega)) (cwV 2 hg (gi_V w_372 w_216 w_217 w_4 w_218) rfl rfl rfl (by decide +kernel) ⟨Nat.le_of_ble_eq_true rfl, Nat.le_of_ble_eq_true rfl⟩) (pre_RV (va_recv hK hP (ci := 1) (q0 := 2) rfl rfl) (hP.sub [2, 3, 4, 5] rfl) hK hT) rfl rfl hl.1 rfl (lv_room (Nat.le_of_ble_eq_true rfl)) dX4_spreadAlong_10 ⟨Nat.le_of_ble_eq_true rfl, Nat.le_of_ble_eq_true rfl⟩) ?_
  refine lv_istore (lv' := [(4, .int (k_num us sz p1 1)), (3, .int (k_num us sz p1 0)), (0, .ref w), (1, .ref h), (2, .int p1)]) hx hb dX4_spreadAlong_13 hl (by decide) rfl (fun ls hl => ?_)
  refine lv_aload_n hx hb dX4_spreadAlong_15 rfl (lv_at hl 3 rfl) ?_
  refine lv_iload_n hx hb dX4_spreadAlong_16 rfl (lv_at hl 4 rfl) ?_
  refine go_R (r := k_get ks sz p1) (va_runV (As := [.int p1]) (rest := []) ⟨hx, hb, hml, hown, hg⟩ (kX1_kindOf l dC dI B cI cC cJ h hk hn hu ks ns us sz p1 (by omega)) (cwV 1 hg (gi_V w_368 w_206 w_207 w_4 w_208) rfl rfl rfl (by decide +kernel) ⟨Nat.le_of_ble_eq_true rfl, Nat.le_of_ble_eq_true rfl⟩) (pre_RV (va_recv hK hP (ci := 1) (q0 := 2) rfl rfl) (hP.sub [2, 3, 4, 5] rfl) hK hT) rfl rfl hl.1 rfl (lv_room (Nat.le_of_ble_eq_true rfl)) dX4_spreadAlong_17 ⟨Nat.le_of_ble_eq_true rfl, Nat.le_of_ble_eq_true rfl⟩) ?_
  refine lv_iconst (v := 4) hx hb dX4_spreadAlong_20 (by decide) ?_
  refine lv_icmp_ne (tgt := 34) hx hb dX4_spreadAlong_21 (by decide) (fun c_1 => ?_) (fun c_1 => ?_)
  · skip
    refine lv_aload_n hx hb dX4_spreadAlong_34 rfl (lv_at hl 3 rfl) ?_
    refine lv_iload_n hx hb dX4_spreadAlong_35 rfl (lv_at hl 4 rfl) ?_
    refine lv_iconst (v := 3) hx hb dX4_spreadAlong_36 (by decide) ?_
    refine go_R (r := k_num us sz p1 3) (va_runV (As := [.int p1, .int 3]) (rest := []) ⟨hx, hb, hml, hown, hg⟩ (kX1_numberOf l dC dI B cI cC cJ h hk hn hu ks ns us sz p1 3 (by omega)) (cwV 2 hg (gi_V w_372 w_216 w_217 w_4 w_218) rfl rfl rfl (by decide +kernel) ⟨Nat.le_of_ble_eq_true rfl, Nat.le_of_ble_eq_true rfl⟩) (pre_RV (va_recv hK hP (ci := 1) (q0 := 2) rfl rfl) (hP.sub [2, 3, 4, 5] rfl) hK hT) rfl rfl hl.1 rfl (lv_room (Nat.le_of_ble_eq_true rfl)) dX4_spreadAlong_37 ⟨Nat.le_of_ble_eq_true rfl, Nat.le_of_ble_eq_true rfl⟩) ?_
    refine lv_istore (lv' := [(5, .int (k_num us sz p1 3)), (4, .int (k_num us sz p1 1)), (3, .int (k_num us sz p1 0)), (0, .ref w), (1, .ref h), (2, .int p1)]) hx hb dX4_spreadAlong_40 hl (by decide) rfl (fun ls hl => ?_)
    refine lv_aload_n hx hb dX4_spreadAlong_42 rfl (lv_at hl 3 rfl) ?_
    refine lv_iload_n hx hb dX4_spreadAlong_43 rfl (lv_at hl 2 rfl) ?_
    refine lv_iload hx hb dX4_spreadAlong_44 (lv_at hl 1 rfl) ?_
    refine lv_iload hx hb dX4_spreadAlong_46 (lv_at hl 0 rfl) ?_
    obtain ⟨b1_2, dp1_2, hF_2⟩ : ∃ (b1_2 : Bool) (dp1_2 : Nat → Int32), k_deepen dp (k_num us sz p1 0) (k_num us sz p1 1) (k_num us sz p1 3) = (b1_2, dp1_2) := ⟨_, _, rfl⟩
    refine go_M (r := some (.int (bI b1_2))) (wc' := [(w, .inr (4, [.ref wd])), (wd, .inl (cI, 16, .inl dp1_2))]) (w2 := [(w, .inr (4, [.ref wd])), (wd, .inl (cI, 16, .inl dp1_2)), (h, .inr (1, [.ref hk, .ref hn, .ref hu, .int (nI sz)])), (hk, .inl (cI, 50, .inl ks)), (hn, .inl (cI, 50, .inl ns)), (hu, .inl (cI, 200, .inl us))]) [0, 1] (va_runV (As := [.int (k_num us sz p1 0), .int (k_num us sz p1 1), .int (k_num us sz p1 3)]) (rest := []) ⟨hx, hb, hml, hown, hg⟩ (kX4_deepen l dC dI B cI cC cJ w wd dp (k_num us sz p1 0) (k_num us sz p1 1) (k_num us sz p1 3) b1_2 dp1_2 hF_2 _) (cwV 3 hg (gi_V w_373 w_374 w_691 w_5 w_375) rfl rfl rfl (by decide +kernel) ⟨Nat.le_of_ble_eq_true rfl, Nat.le_of_ble_eq_true rfl⟩) (pre_MV (va_recv hK hP (ci := 4) (q0 := 0) rfl rfl) (Nat.le_trans hB hS.1) (hP.sub [0, 1] rfl) hK ((hD.weaken (fun _ _ _ h => hAB _ h)).sub [0, 1] (by decide) rfl) hT) rfl rfl hl.1 rfl (lv_room (Nat.le_of_ble_eq_true rfl)) dX4_spreadAlong_48 ⟨Nat.le_of_ble_eq_true rfl, Nat.le_of_ble_eq_true rfl⟩) hP hD hS hA rfl (Nat.le_of_ble_eq_true rfl) rfl rfl (fun H locs hP hD hS => ?_)
    refine W.eq (g2 := F0 m 51 ls [.int (bI b1_2)]) rfl ?_
    refine lv_if_ne (tgt := 66) hx hb dX4_spreadAlong_51 (by decide) (fun c_3 => ?_) (fun c_3 => ?_)
    · skip
      have c_3 := bI_ne0 c_3
      refine lv_iconst (v := 1) hx hb dX4_spreadAlong_66 (by decide) ?_
      refine lv_goto (tgt := 71) hx hb dX4_spreadAlong_67 (by decide) ?_
      have hP9 := hP
      have hS9 := hS
      have h9 : k_along ks us sz p1 dp = (true, dp1_2) := by simp [k_along, c_1, hF_2, c_3]
      have h9 := hF.symm.trans h9
      cases h9
      exact W.zret (ty := .boolean) hx hb hr rfl (fun t ht hW => ⟨rfl, by rw [ht]; exact hP9, hS9.F ht⟩) hS9.2.2 dX4_spreadAlong_71
    · skip
      have c_3 := bI_eq0 c_3
      refine lv_aload_n hx hb dX4_spreadAlong_54 rfl (lv_at hl 3 rfl) ?_
      refine lv_iload hx hb dX4_spreadAlong_55 (lv_at hl 1 rfl) ?_
      refine lv_iload_n hx hb dX4_spreadAlong_57 rfl (lv_at hl 2 rfl) ?_
      refine lv_iload hx hb dX4_spreadAlong_58 (lv_at hl 0 rfl) ?_
      obtain ⟨b1_4, dp1_4, hF_4⟩ : ∃ (b1_4 : Bool) (dp1_4 : Nat → Int32), k_deepen dp1_2 (k_num us sz p1 1) (k_num us sz p1 0) (k_num us sz p1 3) = (b1_4, dp1_4) := ⟨_, _, rfl⟩
      refine go_M (r := some (.int (bI b1_4))) (wc' := [(w, .inr (4, [.ref wd])), (wd, .inl (cI, 16, .inl dp1_4))]) (w2 := [(w, .inr (4, [.ref wd])), (wd, .inl (cI, 16, .inl dp1_4)), (h, .inr (1, [.ref hk, .ref hn, .ref hu, .int (nI sz)])), (hk, .inl (cI, 50, .inl ks)), (hn, .inl (cI, 50, .inl ns)), (hu, .inl (cI, 200, .inl us))]) [0, 1] (va_runV (As := [.int (k_num us sz p1 1), .int (k_num us sz p1 0), .int (k_num us sz p1 3)]) (rest := []) ⟨hx, hb, hml, hown, hg⟩ (kX4_deepen l dC dI B cI cC cJ w wd dp1_2 (k_num us sz p1 1) (k_num us sz p1 0) (k_num us sz p1 3) b1_4 dp1_4 hF_4 _) (cwV 3 hg (gi_V w_373 w_374 w_691 w_5 w_375) rfl rfl rfl (by decide +kernel) ⟨Nat.le_of_ble_eq_true rfl, Nat.le_of_ble_eq_true rfl⟩) (pre_MV (va_recv hK hP (ci := 4) (q0 := 0) rfl rfl) (Nat.le_trans hB hS.1) (hP.sub [0, 1] rfl) hK ((hD.weaken (fun _ _ _ h => hAB _ h)).sub [0, 1] (by decide) rfl) (hT.kept (hS.mono hAB))) rfl rfl hl.1 rfl (lv_room (Nat.le_of_ble_eq_true rfl)) dX4_spreadAlong_60 ⟨Nat.le_of_ble_eq_true rfl, Nat.le_of_ble_eq_true rfl⟩) hP hD hS hA rfl (Nat.le_of_ble_eq_true rfl) rfl rfl (fun H locs hP hD hS => ?_)
      refine W.eq (g2 := F0 m 63 ls [.int (bI b1_4)]) rfl ?_
      refine lv_if_eq (tgt := 70) hx hb dX4_spreadAlong_63 (by decide) (fun c_5 => ?_) (fun c_5 => ?_)
      · skip
        have c_5 := bI_eq0 c_5
        refine lv_iconst (v := 0) hx hb dX4_spreadAlong_70 (by decide) ?_
        have hP9 := hP
        have hS9 := hS
        have h9 : k_along ks us sz p1 dp = (false, dp1_4) := by simp [k_along, c_1, hF_2, c_3, hF_4, c_5]
        have h9 := hF.symm.trans h9
        cases h9
        exact W.zret (ty := .boolean) hx hb hr rfl (fun t ht hW => ⟨rfl, by rw [ht]; exact hP9, hS9.F ht⟩) hS9.2.2 dX4_spreadAlong_71
      · skip
        have c_5 := bI_ne0 c_5
        refine lv_iconst (v := 1) hx hb dX4_spreadAlong_66 (by decide) ?_
        refine lv_goto (tgt := 71) hx hb dX4_spreadAlong_67 (by decide) ?_
        have hP9 := hP
        have hS9 := hS
        have h9 : k_along ks us sz p1 dp = (true, dp1_4) := by simp [k_along, c_1, hF_2, c_3, hF_4, c_5]
        have h9 := hF.symm.trans h9
        cases h9
        exact W.zret (ty := .boolean) hx hb hr rfl (fun t ht hW => ⟨rfl, by rw [ht]; exact hP9, hS9.F ht⟩) hS9.2.2 dX4_spreadAlong_71
  · skip
    refine lv_aload_n hx hb dX4_spreadAlong_24 rfl (lv_at hl 2 rfl) ?_
    refine lv_iload_n hx hb dX4_spreadAlong_25 rfl (lv_at hl 1 rfl) ?_
    refine lv_iload hx hb dX4_spreadAlong_26 (lv_at hl 0 rfl) ?_
    refine lv_bipush (v := 99) hx hb dX4_spreadAlong_28 (by decide) ?_
    obtain ⟨b1_6, dp1_6, hF_6⟩ : ∃ (b1_6 : Bool) (dp1_6 : Nat → Int32), k_deepen dp (k_num us sz p1 0) (k_num us sz p1 1) 99 = (b1_6, dp1_6) := ⟨_, _, rfl⟩
    refine go_M (r := some (.int (bI b1_6))) (wc' := [(w, .inr (4, [.ref wd])), (wd, .inl (cI, 16, .inl dp1_6))]) (w2 := [(w, .inr (4, [.ref wd])), (wd, .inl (cI, 16, .inl dp1_6)), (h, .inr (1, [.ref hk, .ref hn, .ref hu, .int (nI sz)])), (hk, .inl (cI, 50, .inl ks)), (hn, .inl (cI, 50, .inl ns)), (hu, .inl (cI, 200, .inl us))]) [0, 1] (va_runV (As := [.int (k_num us sz p1 0), .int (k_num us sz p1 1), .int 99]) (rest := []) ⟨hx, hb, hml, hown, hg⟩ (kX4_deepen l dC dI B cI cC cJ w wd dp (k_num us sz p1 0) (k_num us sz p1 1) 99 b1_6 dp1_6 hF_6 _) (cwV 3 hg (gi_V w_373 w_374 w_691 w_5 w_375) rfl rfl rfl (by decide +kernel) ⟨Nat.le_of_ble_eq_true rfl, Nat.le_of_ble_eq_true rfl⟩) (pre_MV (va_recv hK hP (ci := 4) (q0 := 0) rfl rfl) (Nat.le_trans hB hS.1) (hP.sub [0, 1] rfl) hK ((hD.weaken (fun _ _ _ h => hAB _ h)).sub [0, 1] (by decide) rfl) hT) rfl rfl hl.1 rfl (lv_room (Nat.le_of_ble_eq_true rfl)) dX4_spreadAlong_30 ⟨Nat.le_of_ble_eq_true rfl, Nat.le_of_ble_eq_true rfl⟩) hP hD hS hA rfl (Nat.le_of_ble_eq_true rfl) rfl rfl (fun H locs hP hD hS => ?_)
    refine W.eq (g2 := F0 m 33 ls [.int (bI b1_6)]) rfl ?_
    have hP9 := hP
    have hS9 := hS
    have h9 : k_along ks us sz p1 dp = (b1_6, dp1_6) := by simp [k_along, c_1, hF_6]
    have h9 := hF.symm.trans h9
    cases h9
    exact W.zret (ty := .boolean) hx hb hr (bI_nar _) (fun t ht hW => ⟨rfl, by rw [ht]; exact hP9, hS9.F ht⟩) hS9.2.2 dX4_spreadAlong_33
set_option maxHeartbeats 4000000 in
set_option maxRecDepth 100000 in
theorem kX4_spreadOnce (l : Launch) (dC : Nat → ClassId) (dI : Nat → Nat → Nat) (B : Nat) (cI cC cJ : ClassId) (w : Nat) (wd : Nat) (dp : Nat → Int32) (h : Nat) (hk : Nat) (hn : Nat) (hu : Nat) (ks : Nat → Int32) (ns : Nat → Int32) (us : Nat → Int32) (sz : Nat) (p1 : Int32) (b1 : Bool) (dp1 : Nat → Int32) (hsz : sz ≤ 50) (hF : k_once ks us sz p1 0 false dp = (b1, dp1)) (sz9 : Nat) : Met l yX4_spreadOnce wsX4_spreadOnce ({ frames := 3, cells := 0, slots := 0, locals := 69 }) (q_Mp (dC, dI) vwCl [.ref w, .ref h, .int p1] [(w, .inr (4, [.ref wd])), (wd, .inl (cI, 16, .inl dp)), (h, .inr (1, [.ref hk, .ref hn, .ref hu, .int (nI sz)])), (hk, .inl (cI, 50, .inl ks)), (hn, .inl (cI, 50, .inl ns)), (hu, .inl (cI, 200, .inl us))] [(cI, .int), (cC, .char), (cJ, .long)] B sz9) (q_Mq (dC, dI) vwCl [(w, .inr (4, [.ref wd])), (wd, .inl (cI, 16, .inl dp1)), (h, .inr (1, [.ref hk, .ref hn, .ref hu, .int (nI sz)])), (hk, .inl (cI, 50, .inl ks)), (hn, .inl (cI, 50, .inl ns)), (hu, .inl (cI, 200, .inl us))] (va_A [(w, .inr (4, [.ref wd])), (wd, .inl (cI, 16, .inl dp)), (h, .inr (1, [.ref hk, .ref hn, .ref hu, .int (nI sz)])), (hk, .inl (cI, 50, .inl ks)), (hn, .inl (cI, 50, .inl ns)), (hu, .inl (cI, 200, .inl us))] sz9) (some (.int (bI b1)))) 0 0 (va_A [(w, .inr (4, [.ref wd])), (wd, .inl (cI, 16, .inl dp)), (h, .inr (1, [.ref hk, .ref hn, .ref hu, .int (nI sz)])), (hk, .inl (cI, 50, .inl ks)), (hn, .inl (cI, 50, .inl ns)), (hu, .inl (cI, 200, .inl us))] sz9) := by
  refine Met.ofW (cc := cX4_spreadOnce) (maxL := 6) (ret := (some .boolean)) (by decide) rfl ?_
  intro p e s m args below meth c s₁ Bd hml hv
  obtain ⟨rfl, hsz9, hB, hP, hK, hD0, hT⟩ := hv
  have hx := Bd.exec
  have hb := Bd.bytes
  have hr := Bd.returns
  have hts := atoms_spec (ws := wsX4_spreadOnce) Bd.pre
  have hg : ∀ w ∈ lw_good, w.before _ s = true := fun w h => hts w (List.mem_cons_of_mem _ h)
  have hown : s.vm.findClass RX4 = some m.cls := findClass_of_methodNamed Bd.named
  have hlocks := Bd.notSynchronized
  subst hsz9
  have hD := hD0.self (sz := s.heap.size)
  generalize hAe : va_A [(w, .inr (4, [.ref wd])), (wd, .inl (cI, 16, .inl dp)), (h, .inr (1, [.ref hk, .ref hn, .ref hu, .int (nI sz)])), (hk, .inl (cI, 50, .inl ks)), (hn, .inl (cI, 50, .inl ns)), (hu, .inl (cI, 200, .inl us))] s.heap.size = A at hD ⊢
  have hA : ∀ q : Nat, s.heap.size ≤ q → A q := fun q h => by rw [← hAe]; exact Or.inr h
  have hAB : ∀ q, A q → B ≤ q := by rw [← hAe]; exact va_A.ge hD0 hB
  have hS : va_S A s.heap s.heap [] := va_S.rf
  have hP : va_P (dC, dI) vwCl [(w, .inr (4, [.ref wd])), (wd, .inl (cI, 16, .inl dp)), (h, .inr (1, [.ref hk, .ref hn, .ref hu, .int (nI sz)])), (hk, .inl (cI, 50, .inl ks)), (hn, .inl (cI, 50, .inl ns)), (hu, .inl (cI, 200, .inl us))] s.heap := hP
  have hl := lv_entry ([.ref w, .ref h, .int p1]) (n := 6) (Nat.le_of_ble_eq_true rfl)
  rw [lg_entry_eq]
  generalize (lg_sl ([.ref w, .ref h, .int p1]) ++ List.replicate (6 - (lg_sl ([.ref w, .ref h, .int p1])).length) Slot.unset).toArray = ls at hl ⊢
  have hl : lv_has ls 6 [(0, .ref w), (1, .ref h), (2, .int p1)] := hl
  refine lv_iconst (v := 0) hx hb dX4_spreadOnce_0 (by decide) ?_
  refine lv_istore_n (lv' := [(3, .int 0), (0, .ref w), (1, .ref h), (2, .int p1)]) hx hb dX4_spreadOnce_1 rfl hl (by decide) rfl (fun ls hl => ?_)
  refine lv_aload_n hx hb dX4_spreadOnce_2 rfl (lv_at hl 2 rfl) ?_
  refine go_R (r := (nI sz)) (va_runV (As := []) (rest := []) ⟨hx, hb, hml, hown, hg⟩ (kX1_size l dC dI B cI cC cJ h hk hn hu ks ns us sz (by omega)) (cwV 0 hg (gi_V w_367 w_186 w_187 w_4 w_188) rfl rfl rfl (by decide +kernel) ⟨Nat.le_of_ble_eq_true rfl, Nat.le_of_ble_eq_true rfl⟩) (pre_RV (va_recv hK hP (ci := 1) (q0 := 2) rfl rfl) (hP.sub [2, 3, 4, 5] rfl) hK hT) rfl rfl hl.1 rfl (lv_room (Nat.le_of_ble_eq_true rfl)) dX4_spreadOnce_3 ⟨Nat.le_of_ble_eq_true rfl, Nat.le_of_ble_eq_true rfl⟩) ?_
  refine lv_istore (lv' := [(4, .int (nI sz)), (3, .int 0), (0, .ref w), (1, .ref h), (2, .int p1)]) hx hb dX4_spreadOnce_6 hl (by decide) rfl (fun ls hl => ?_)
  refine lv_iconst (v := 0) hx hb dX4_spreadOnce_8 (by decide) ?_
  refine lv_istore (lv' := [(5, .int 0), (4, .int (nI sz)), (3, .int 0), (0, .ref w), (1, .ref h), (2, .int p1)]) hx hb dX4_spreadOnce_9 hl (by decide) rfl (fun ls hl => ?_)
  refine loop_M (σ := Nat × Bool × (Nat → Int32)) (fun n x H locs ls => sz - x.1 < n ∧ x.1 ≤ sz ∧ k_once ks us sz p1 0 false dp = k_once ks us sz p1 x.1 x.2.1 x.2.2 ∧ va_P (dC, dI) vwCl [(w, .inr (4, [.ref wd])), (wd, .inl (cI, 16, .inl x.2.2)), (h, .inr (1, [.ref hk, .ref hn, .ref hu, .int (nI sz)])), (hk, .inl (cI, 50, .inl ks)), (hn, .inl (cI, 50, .inl ns)), (hu, .inl (cI, 200, .inl us))] H ∧ va_D A [(w, .inr (4, [.ref wd])), (wd, .inl (cI, 16, .inl x.2.2)), (h, .inr (1, [.ref hk, .ref hn, .ref hu, .int (nI sz)])), (hk, .inl (cI, 50, .inl ks)), (hn, .inl (cI, 50, .inl ns)), (hu, .inl (cI, 200, .inl us))] ∧ va_S A s.heap H locs ∧ lv_has ls 6 [(0, .ref w), (1, .ref h), (2, .int p1), (3, .int (bI x.2.1)), (4, .int (nI sz)), (5, .int (nI x.1))]) (fun n x H locs ls ih_1 hI => ?_) (fun x H locs ls hI => ?_) (n := (sz - 0) + 1) (x := (0, false, dp)) ⟨(Nat.lt_succ_self _), (by (try dsimp only); omega), rfl, hP, hD, hS, lv_sub hl [3, 4, 5, 2, 1, 0] rfl⟩
  · skip
    obtain ⟨k, ch, dpx⟩ := x
    obtain ⟨hfu, hk0, he, hP, hD, hS, hl⟩ := hI
    have hfu : sz - k < n + 1 := hfu
    have hk0 : k ≤ sz := hk0
    have he : k_once ks us sz p1 0 false dp = k_once ks us sz p1 k ch dpx := he
    have hP : va_P (dC, dI) vwCl [(w, .inr (4, [.ref wd])), (wd, .inl (cI, 16, .inl dpx)), (h, .inr (1, [.ref hk, .ref hn, .ref hu, .int (nI sz)])), (hk, .inl (cI, 50, .inl ks)), (hn, .inl (cI, 50, .inl ns)), (hu, .inl (cI, 200, .inl us))] H := hP
    have hD : va_D A [(w, .inr (4, [.ref wd])), (wd, .inl (cI, 16, .inl dpx)), (h, .inr (1, [.ref hk, .ref hn, .ref hu, .int (nI sz)])), (hk, .inl (cI, 50, .inl ks)), (hn, .inl (cI, 50, .inl ns)), (hu, .inl (cI, 200, .inl us))] := hD
    have hl : lv_has ls 6 [(0, .ref w), (1, .ref h), (2, .int p1), (3, .int (bI ch)), (4, .int (nI sz)), (5, .int (nI k))] := hl
    refine lv_iload hx hb dX4_spreadOnce_11 (lv_at hl 5 rfl) ?_
    refine lv_iload hx hb dX4_spreadOnce_13 (lv_at hl 4 rfl) ?_
    refine lv_icmp_ge (tgt := 46) hx hb dX4_spreadOnce_15 (by decide) (fun c_2 => ?_) (fun c_2 => ?_)
    · skip
      have c_2 := na_le (a := sz) (b := k) c_2 (by omega) (by omega)
      refine lv_iload_n hx hb dX4_spreadOnce_46 rfl (lv_at hl 3 rfl) ?_
      have hP9 := hP
      have hS9 := hS
      have h9 : k_once ks us sz p1 0 false dp = (ch, dpx) := by rw [he, k_once]; simp [c_2]
      have h9 := hF.symm.trans h9
      cases h9
      exact W.zret (ty := .boolean) hx hb hr (bI_nar _) (fun t ht hW => ⟨rfl, by rw [ht]; exact hP9, hS9.F ht⟩) hS9.2.2 dX4_spreadOnce_47
    · skip
      have c_2 := na_nle (a := sz) (b := k) c_2 (by omega) (by omega)
      refine lv_aload_n hx hb dX4_spreadOnce_18 rfl (lv_at hl 1 rfl) ?_
      refine lv_iload hx hb dX4_spreadOnce_19 (lv_at hl 5 rfl) ?_
      refine go_R (r := k_get ks sz (nI k)) (va_runV (As := [.int (nI k)]) (rest := []) ⟨hx, hb, hml, hown, hg⟩ (kX1_kindOf l dC dI B cI cC cJ h hk hn hu ks ns us sz (nI k) (by omega)) (cwV 1 hg (gi_V w_368 w_206 w_207 w_4 w_208) rfl rfl rfl (by decide +kernel) ⟨Nat.le_of_ble_eq_true rfl, Nat.le_of_ble_eq_true rfl⟩) (pre_RV (va_recv hK hP (ci := 1) (q0 := 2) rfl rfl) (hP.sub [2, 3, 4, 5] rfl) hK (hT.kept (hS.mono hAB))) rfl rfl hl.1 rfl (lv_room (Nat.le_of_ble_eq_true rfl)) dX4_spreadOnce_21 ⟨Nat.le_of_ble_eq_true rfl, Nat.le_of_ble_eq_true rfl⟩) ?_
      refine lv_iload_n hx hb dX4_spreadOnce_24 rfl (lv_at hl 2 rfl) ?_
      refine lv_icmp_ne (tgt := 40) hx hb dX4_spreadOnce_25 (by decide) (fun c_3 => ?_) (fun c_3 => ?_)
      · skip
        refine lv_iinc (v := (nI (k + 1))) (lv' := [(5, .int (nI (k + 1))), (0, .ref w), (1, .ref h), (2, .int p1), (3, .int (bI ch)), (4, .int (nI sz))]) hx hb dX4_spreadOnce_40 hl (k := 5) rfl (by rw [← nI_add]; rfl) (by decide) rfl (fun ls hl => ?_)
        refine lv_goto (tgt := 11) hx hb dX4_spreadOnce_43 (by decide) ?_
        exact ih_1 (k + 1, ch, dpx) _ _ _ ⟨(by (try dsimp only); omega), (by (try dsimp only); omega), (by (try dsimp only); rw [he, k_once]; simp [c_2, c_3]), hP, hD, hS, lv_sub hl [1, 2, 3, 4, 5, 0] rfl⟩
      · skip
        refine lv_aload_n hx hb dX4_spreadOnce_28 rfl (lv_at hl 0 rfl) ?_
        refine lv_aload_n hx hb dX4_spreadOnce_29 rfl (lv_at hl 1 rfl) ?_
        refine lv_iload hx hb dX4_spreadOnce_30 (lv_at hl 5 rfl) ?_
        obtain ⟨b1_4, dp1_4, hF_4⟩ : ∃ (b1_4 : Bool) (dp1_4 : Nat → Int32), k_along ks us sz (nI k) dpx = (b1_4, dp1_4) := ⟨_, _, rfl⟩
        refine go_M (r := some (.int (bI b1_4))) (wc' := [(w, .inr (4, [.ref wd])), (wd, .inl (cI, 16, .inl dp1_4)), (h, .inr (1, [.ref hk, .ref hn, .ref hu, .int (nI sz)])), (hk, .inl (cI, 50, .inl ks)), (hn, .inl (cI, 50, .inl ns)), (hu, .inl (cI, 200, .inl us))]) (w2 := [(w, .inr (4, [.ref wd])), (wd, .inl (cI, 16, .inl dp1_4)), (h, .inr (1, [.ref hk, .ref hn, .ref hu, .int (nI sz)])), (hk, .inl (cI, 50, .inl ks)), (hn, .inl (cI, 50, .inl ns)), (hu, .inl (cI, 200, .inl us))]) [0, 1, 2, 3, 4, 5] (va_runV (As := [.ref h, .int (nI k)]) (rest := []) ⟨hx, hb, hml, hown, hg⟩ (kX4_spreadAlong l dC dI B cI cC cJ w wd dpx h hk hn hu ks ns us sz (nI k) b1_4 dp1_4 (by omega) hF_4 _) (cwV 2 hg (gi_V w_369 w_370 w_690 w_5 w_371) rfl rfl rfl (by decide +kernel) ⟨Nat.le_of_ble_eq_true rfl, Nat.le_of_ble_eq_true rfl⟩) (pre_MV (va_recv hK hP (ci := 4) (q0 := 0) rfl rfl) (Nat.le_trans hB hS.1) (hP.sub [0, 1, 2, 3, 4, 5] rfl) hK ((hD.weaken (fun _ _ _ h => hAB _ h)).sub [0, 1, 2, 3, 4, 5] (by decide) rfl) (hT.kept (hS.mono hAB))) rfl rfl hl.1 rfl (lv_room (Nat.le_of_ble_eq_true rfl)) dX4_spreadOnce_32 ⟨Nat.le_of_ble_eq_true rfl, Nat.le_of_ble_eq_true rfl⟩) hP hD hS hA rfl (Nat.le_of_ble_eq_true rfl) rfl rfl (fun H locs hP hD hS => ?_)
        refine W.eq (g2 := F0 m 35 ls [.int (bI b1_4)]) rfl ?_
        refine lv_if_eq (tgt := 40) hx hb dX4_spreadOnce_35 (by decide) (fun c_5 => ?_) (fun c_5 => ?_)
        · skip
          have c_5 := bI_eq0 c_5
          refine lv_iinc (v := (nI (k + 1))) (lv' := [(5, .int (nI (k + 1))), (0, .ref w), (1, .ref h), (2, .int p1), (3, .int (bI ch)), (4, .int (nI sz))]) hx hb dX4_spreadOnce_40 hl (k := 5) rfl (by rw [← nI_add]; rfl) (by decide) rfl (fun ls hl => ?_)
          refine lv_goto (tgt := 11) hx hb dX4_spreadOnce_43 (by decide) ?_
          exact ih_1 (k + 1, ch, dp1_4) _ _ _ ⟨(by (try dsimp only); omega), (by (try dsimp only); omega), (by (try dsimp only); rw [he, k_once]; simp [c_2, c_3, hF_4, c_5]), hP, hD, hS, lv_sub hl [1, 2, 3, 4, 5, 0] rfl⟩
        · skip
          have c_5 := bI_ne0 c_5
          refine lv_iconst (v := 1) hx hb dX4_spreadOnce_38 (by decide) ?_
          refine lv_istore_n (lv' := [(3, .int 1), (0, .ref w), (1, .ref h), (2, .int p1), (4, .int (nI sz)), (5, .int (nI k))]) hx hb dX4_spreadOnce_39 rfl hl (by decide) rfl (fun ls hl => ?_)
          refine lv_iinc (v := (nI (k + 1))) (lv' := [(5, .int (nI (k + 1))), (3, .int 1), (0, .ref w), (1, .ref h), (2, .int p1), (4, .int (nI sz))]) hx hb dX4_spreadOnce_40 hl (k := 5) rfl (by rw [← nI_add]; rfl) (by decide) rfl (fun ls hl => ?_)
          refine lv_goto (tgt := 11) hx hb dX4_spreadOnce_43 (by decide) ?_
          exact ih_1 (k + 1, true, dp1_4) _ _ _ ⟨(by (try dsimp only); omega), (by (try dsimp only); omega), (by (try dsimp only); rw [he, k_once]; simp [c_2, c_3, hF_4, c_5]), hP, hD, hS, lv_sub hl [2, 3, 4, 1, 5, 0] rfl⟩
  · exact absurd hI.1 (Nat.not_lt_zero _)
set_option maxHeartbeats 4000000 in
set_option maxRecDepth 100000 in
theorem kX4_spread (l : Launch) (dC : Nat → ClassId) (dI : Nat → Nat → Nat) (B : Nat) (cI cC cJ : ClassId) (w : Nat) (wd : Nat) (dp : Nat → Int32) (h : Nat) (hk : Nat) (hn : Nat) (hu : Nat) (ks : Nat → Int32) (ns : Nat → Int32) (us : Nat → Int32) (sz : Nat) (p1 : Int32) (p2 : Int32) (dp1 : Nat → Int32) (hsz : sz ≤ 50) (hF : k_spread ks us sz p1 p2 dp = dp1) (sz9 : Nat) : Met l yX4_spread wsX4_spread ({ frames := 4, cells := 0, slots := 0, locals := 94 }) (q_Mp (dC, dI) vwCl [.ref w, .ref h, .int p1, .int p2] [(w, .inr (4, [.ref wd])), (wd, .inl (cI, 16, .inl dp)), (h, .inr (1, [.ref hk, .ref hn, .ref hu, .int (nI sz)])), (hk, .inl (cI, 50, .inl ks)), (hn, .inl (cI, 50, .inl ns)), (hu, .inl (cI, 200, .inl us))] [(cI, .int), (cC, .char), (cJ, .long)] B sz9) (q_Mq (dC, dI) vwCl [(w, .inr (4, [.ref wd])), (wd, .inl (cI, 16, .inl dp1)), (h, .inr (1, [.ref hk, .ref hn, .ref hu, .int (nI sz)])), (hk, .inl (cI, 50, .inl ks)), (hn, .inl (cI, 50, .inl ns)), (hu, .inl (cI, 200, .inl us))] (va_A [(w, .inr (4, [.ref wd])), (wd, .inl (cI, 16, .inl dp)), (h, .inr (1, [.ref hk, .ref hn, .ref hu, .int (nI sz)])), (hk, .inl (cI, 50, .inl ks)), (hn, .inl (cI, 50, .inl ns)), (hu, .inl (cI, 200, .inl us))] sz9) none) 0 0 (va_A [(w, .inr (4, [.ref wd])), (wd, .inl (cI, 16, .inl dp)), (h, .inr (1, [.ref hk, .ref hn, .ref hu, .int (nI sz)])), (hk, .inl (cI, 50, .inl ks)), (hn, .inl (cI, 50, .inl ns)), (hu, .inl (cI, 200, .inl us))] sz9) := by
  refine Met.ofW (cc := cX4_spread) (maxL := 6) (ret := none) (by decide) rfl ?_
  intro p e s m args below meth c s₁ Bd hml hv
  obtain ⟨rfl, hsz9, hB, hP, hK, hD0, hT⟩ := hv
  have hx := Bd.exec
  have hb := Bd.bytes
  have hr := Bd.returns
  have hts := atoms_spec (ws := wsX4_spread) Bd.pre
  have hg : ∀ w ∈ lw_good, w.before _ s = true := fun w h => hts w (List.mem_cons_of_mem _ h)
  have hown : s.vm.findClass RX4 = some m.cls := findClass_of_methodNamed Bd.named
  have hlocks := Bd.notSynchronized
  subst hsz9
  have hD := hD0.self (sz := s.heap.size)
  generalize hAe : va_A [(w, .inr (4, [.ref wd])), (wd, .inl (cI, 16, .inl dp)), (h, .inr (1, [.ref hk, .ref hn, .ref hu, .int (nI sz)])), (hk, .inl (cI, 50, .inl ks)), (hn, .inl (cI, 50, .inl ns)), (hu, .inl (cI, 200, .inl us))] s.heap.size = A at hD ⊢
  have hA : ∀ q : Nat, s.heap.size ≤ q → A q := fun q h => by rw [← hAe]; exact Or.inr h
  have hAB : ∀ q, A q → B ≤ q := by rw [← hAe]; exact va_A.ge hD0 hB
  have hS : va_S A s.heap s.heap [] := va_S.rf
  have hP : va_P (dC, dI) vwCl [(w, .inr (4, [.ref wd])), (wd, .inl (cI, 16, .inl dp)), (h, .inr (1, [.ref hk, .ref hn, .ref hu, .int (nI sz)])), (hk, .inl (cI, 50, .inl ks)), (hn, .inl (cI, 50, .inl ns)), (hu, .inl (cI, 200, .inl us))] s.heap := hP
  have hl := lv_entry ([.ref w, .ref h, .int p1, .int p2]) (n := 6) (Nat.le_of_ble_eq_true rfl)
  rw [lg_entry_eq]
  generalize (lg_sl ([.ref w, .ref h, .int p1, .int p2]) ++ List.replicate (6 - (lg_sl ([.ref w, .ref h, .int p1, .int p2])).length) Slot.unset).toArray = ls at hl ⊢
  have hl : lv_has ls 6 [(0, .ref w), (1, .ref h), (2, .int p1), (3, .int p2)] := hl
  refine lv_iconst (v := 0) hx hb dX4_spread_0 (by decide) ?_
  refine lv_istore (lv' := [(4, .int 0), (0, .ref w), (1, .ref h), (2, .int p1), (3, .int p2)]) hx hb dX4_spread_1 hl (by decide) rfl (fun ls hl => ?_)
  refine loop_M (σ := Nat × (Nat → Int32)) (fun n x H locs ls => 16 - x.1 < n ∧ x.1 ≤ 16 ∧ k_spread ks us sz p1 p2 dp = k_rounds ks us sz p1 0 true (k_init p2 x.1 x.2) ∧ va_P (dC, dI) vwCl [(w, .inr (4, [.ref wd])), (wd, .inl (cI, 16, .inl x.2)), (h, .inr (1, [.ref hk, .ref hn, .ref hu, .int (nI sz)])), (hk, .inl (cI, 50, .inl ks)), (hn, .inl (cI, 50, .inl ns)), (hu, .inl (cI, 200, .inl us))] H ∧ va_D A [(w, .inr (4, [.ref wd])), (wd, .inl (cI, 16, .inl x.2)), (h, .inr (1, [.ref hk, .ref hn, .ref hu, .int (nI sz)])), (hk, .inl (cI, 50, .inl ks)), (hn, .inl (cI, 50, .inl ns)), (hu, .inl (cI, 200, .inl us))] ∧ va_S A s.heap H locs ∧ lv_has ls 6 [(0, .ref w), (1, .ref h), (2, .int p1), (3, .int p2), (4, .int (nI x.1))]) (fun n x H locs ls ih_1 hI => ?_) (fun x H locs ls hI => ?_) (n := (16 - 0) + 1) (x := (0, dp)) ⟨(Nat.lt_succ_self _), (by (try dsimp only); omega), rfl, hP, hD, hS, lv_sub hl [1, 2, 3, 4, 0] rfl⟩
  · skip
    obtain ⟨k, dpx⟩ := x
    obtain ⟨hfu, hk0, he, hP, hD, hS, hl⟩ := hI
    have hfu : 16 - k < n + 1 := hfu
    have hk0 : k ≤ 16 := hk0
    have he : k_spread ks us sz p1 p2 dp = k_rounds ks us sz p1 0 true (k_init p2 k dpx) := he
    have hP : va_P (dC, dI) vwCl [(w, .inr (4, [.ref wd])), (wd, .inl (cI, 16, .inl dpx)), (h, .inr (1, [.ref hk, .ref hn, .ref hu, .int (nI sz)])), (hk, .inl (cI, 50, .inl ks)), (hn, .inl (cI, 50, .inl ns)), (hu, .inl (cI, 200, .inl us))] H := hP
    have hD : va_D A [(w, .inr (4, [.ref wd])), (wd, .inl (cI, 16, .inl dpx)), (h, .inr (1, [.ref hk, .ref hn, .ref hu, .int (nI sz)])), (hk, .inl (cI, 50, .inl ks)), (hn, .inl (cI, 50, .inl ns)), (hu, .inl (cI, 200, .inl us))] := hD
    have hl : lv_has ls 6 [(0, .ref w), (1, .ref h), (2, .int p1), (3, .int p2), (4, .int (nI k))] := hl
    refine lv_iload hx hb dX4_spread_3 (lv_at hl 4 rfl) ?_
    refine lv_bipush (v := 16) hx hb dX4_spread_5 (by decide) ?_
    refine lv_icmp_ge (tgt := 35) hx hb dX4_spread_7 (by decide) (fun c_2 => ?_) (fun c_2 => ?_)
    · skip
      have c_2 := na_le (a := 16) (b := k) c_2 (by omega) (by omega)
      refine lv_iconst (v := 1) hx hb dX4_spread_35 (by decide) ?_
      refine lv_istore (lv' := [(4, .int 1), (0, .ref w), (1, .ref h), (2, .int p1), (3, .int p2)]) hx hb dX4_spread_36 hl (by decide) rfl (fun ls hl => ?_)
      refine lv_iconst (v := 0) hx hb dX4_spread_38 (by decide) ?_
      refine lv_istore (lv' := [(5, .int 0), (4, .int 1), (0, .ref w), (1, .ref h), (2, .int p1), (3, .int p2)]) hx hb dX4_spread_39 hl (by decide) rfl (fun ls hl => ?_)
      refine loop_M (σ := Nat × Bool × (Nat → Int32)) (fun n x H locs ls => 16 - x.1 < n ∧ x.1 ≤ 16 ∧ k_spread ks us sz p1 p2 dp = k_rounds ks us sz p1 x.1 x.2.1 x.2.2 ∧ va_P (dC, dI) vwCl [(w, .inr (4, [.ref wd])), (wd, .inl (cI, 16, .inl x.2.2)), (h, .inr (1, [.ref hk, .ref hn, .ref hu, .int (nI sz)])), (hk, .inl (cI, 50, .inl ks)), (hn, .inl (cI, 50, .inl ns)), (hu, .inl (cI, 200, .inl us))] H ∧ va_D A [(w, .inr (4, [.ref wd])), (wd, .inl (cI, 16, .inl x.2.2)), (h, .inr (1, [.ref hk, .ref hn, .ref hu, .int (nI sz)])), (hk, .inl (cI, 50, .inl ks)), (hn, .inl (cI, 50, .inl ns)), (hu, .inl (cI, 200, .inl us))] ∧ va_S A s.heap H locs ∧ lv_has ls 6 [(0, .ref w), (1, .ref h), (2, .int p1), (3, .int p2), (4, .int (bI x.2.1)), (5, .int (nI x.1))]) (fun n x H locs ls ih_3 hI => ?_) (fun x H locs ls hI => ?_) (n := (16 - 0) + 1) (x := (0, true, dpx)) ⟨(Nat.lt_succ_self _), (by (try dsimp only); omega), (by (try dsimp only); rw [he, k_init]; simp [c_2]), hP, hD, hS, lv_sub hl [2, 3, 4, 5, 1, 0] rfl⟩
      · skip
        obtain ⟨rd, ch, dpy⟩ := x
        obtain ⟨hfu, hrd, he, hP, hD, hS, hl⟩ := hI
        have hfu : 16 - rd < n + 1 := hfu
        have hrd : rd ≤ 16 := hrd
        have he : k_spread ks us sz p1 p2 dp = k_rounds ks us sz p1 rd ch dpy := he
        have hP : va_P (dC, dI) vwCl [(w, .inr (4, [.ref wd])), (wd, .inl (cI, 16, .inl dpy)), (h, .inr (1, [.ref hk, .ref hn, .ref hu, .int (nI sz)])), (hk, .inl (cI, 50, .inl ks)), (hn, .inl (cI, 50, .inl ns)), (hu, .inl (cI, 200, .inl us))] H := hP
        have hD : va_D A [(w, .inr (4, [.ref wd])), (wd, .inl (cI, 16, .inl dpy)), (h, .inr (1, [.ref hk, .ref hn, .ref hu, .int (nI sz)])), (hk, .inl (cI, 50, .inl ks)), (hn, .inl (cI, 50, .inl ns)), (hu, .inl (cI, 200, .inl us))] := hD
        have hl : lv_has ls 6 [(0, .ref w), (1, .ref h), (2, .int p1), (3, .int p2), (4, .int (bI ch)), (5, .int (nI rd))] := hl
        refine lv_iload hx hb dX4_spread_41 (lv_at hl 5 rfl) ?_
        refine lv_bipush (v := 16) hx hb dX4_spread_43 (by decide) ?_
        refine lv_icmp_ge (tgt := 67) hx hb dX4_spread_45 (by decide) (fun c_4 => ?_) (fun c_4 => ?_)
        · skip
          have c_4 := na_le (a := 16) (b := rd) c_4 (by omega) (by omega)
          have hP9 := hP
          have hS9 := hS
          have h9 : k_spread ks us sz p1 p2 dp = dpy := by rw [he, k_rounds]; simp [c_4]
          have h9 := hF.symm.trans h9
          cases h9
          exact W.vret hx hb hr (fun t ht hW => ⟨rfl, by rw [ht]; exact hP9, hS9.F ht⟩) hS9.2.2 dX4_spread_67
        · skip
          have c_4 := na_nle (a := 16) (b := rd) c_4 (by omega) (by omega)
          refine lv_iload hx hb dX4_spread_48 (lv_at hl 4 rfl) ?_
          refine lv_if_eq (tgt := 67) hx hb dX4_spread_50 (by decide) (fun c_5 => ?_) (fun c_5 => ?_)
          · skip
            have c_5 := bI_eq0 c_5
            have hP9 := hP
            have hS9 := hS
            have h9 : k_spread ks us sz p1 p2 dp = dpy := by rw [he, k_rounds]; simp [c_4, c_5]
            have h9 := hF.symm.trans h9
            cases h9
            exact W.vret hx hb hr (fun t ht hW => ⟨rfl, by rw [ht]; exact hP9, hS9.F ht⟩) hS9.2.2 dX4_spread_67
          · skip
            have c_5 := bI_ne0 c_5
            refine lv_aload_n hx hb dX4_spread_53 rfl (lv_at hl 0 rfl) ?_
            refine lv_aload_n hx hb dX4_spread_54 rfl (lv_at hl 1 rfl) ?_
            refine lv_iload_n hx hb dX4_spread_55 rfl (lv_at hl 2 rfl) ?_
            obtain ⟨b1_6, dp1_6, hF_6⟩ : ∃ (b1_6 : Bool) (dp1_6 : Nat → Int32), k_once ks us sz p1 0 false dpy = (b1_6, dp1_6) := ⟨_, _, rfl⟩
            refine go_M (r := some (.int (bI b1_6))) (wc' := [(w, .inr (4, [.ref wd])), (wd, .inl (cI, 16, .inl dp1_6)), (h, .inr (1, [.ref hk, .ref hn, .ref hu, .int (nI sz)])), (hk, .inl (cI, 50, .inl ks)), (hn, .inl (cI, 50, .inl ns)), (hu, .inl (cI, 200, .inl us))]) (w2 := [(w, .inr (4, [.ref wd])), (wd, .inl (cI, 16, .inl dp1_6)), (h, .inr (1, [.ref hk, .ref hn, .ref hu, .int (nI sz)])), (hk, .inl (cI, 50, .inl ks)), (hn, .inl (cI, 50, .inl ns)), (hu, .inl (cI, 200, .inl us))]) [0, 1, 2, 3, 4, 5] (va_runV (As := [.ref h, .int p1]) (rest := []) ⟨hx, hb, hml, hown, hg⟩ (kX4_spreadOnce l dC dI B cI cC cJ w wd dpy h hk hn hu ks ns us sz p1 b1_6 dp1_6 (by omega) hF_6 _) (cwV 2 hg (gi_V w_364 w_365 w_689 w_5 w_366) rfl rfl rfl (by decide +kernel) ⟨Nat.le_of_ble_eq_true rfl, Nat.le_of_ble_eq_true rfl⟩) (pre_MV (va_recv hK hP (ci := 4) (q0 := 0) rfl rfl) (Nat.le_trans hB hS.1) (hP.sub [0, 1, 2, 3, 4, 5] rfl) hK ((hD.weaken (fun _ _ _ h => hAB _ h)).sub [0, 1, 2, 3, 4, 5] (by decide) rfl) (hT.kept (hS.mono hAB))) rfl rfl hl.1 rfl (lv_room (Nat.le_of_ble_eq_true rfl)) dX4_spread_56 ⟨Nat.le_of_ble_eq_true rfl, Nat.le_of_ble_eq_true rfl⟩) hP hD hS hA rfl (Nat.le_of_ble_eq_true rfl) rfl rfl (fun H locs hP hD hS => ?_)
            refine W.eq (g2 := F0 m 59 ls [.int (bI b1_6)]) rfl ?_
            refine lv_istore (lv' := [(4, .int (bI b1_6)), (0, .ref w), (1, .ref h), (2, .int p1), (3, .int p2), (5, .int (nI rd))]) hx hb dX4_spread_59 hl (by decide) rfl (fun ls hl => ?_)
            refine lv_iinc (v := (nI (rd + 1))) (lv' := [(5, .int (nI (rd + 1))), (4, .int (bI b1_6)), (0, .ref w), (1, .ref h), (2, .int p1), (3, .int p2)]) hx hb dX4_spread_61 hl (k := 5) rfl (by rw [← nI_add]; rfl) (by decide) rfl (fun ls hl => ?_)
            refine lv_goto (tgt := 41) hx hb dX4_spread_64 (by decide) ?_
            exact ih_3 (rd + 1, b1_6, dp1_6) _ _ _ ⟨(by (try dsimp only); omega), (by (try dsimp only); omega), (by (try dsimp only); rw [he, k_rounds]; simp [c_4, c_5, hF_6]), hP, hD, hS, lv_sub hl [2, 3, 4, 5, 1, 0] rfl⟩
      · exact absurd hI.1 (Nat.not_lt_zero _)
    · skip
      have c_2 := na_nle (a := 16) (b := k) c_2 (by omega) (by omega)
      refine lv_aload_n hx hb dX4_spread_10 rfl (lv_at hl 0 rfl) ?_
      refine va_get (D := (dC, dI)) (ci := 4) (v := .ref wd) (C := RX4) (T := TX4) (N := 1) hx hb hg in_X4 hown hK hP 0 rfl rfl 0 (by decide) (hg _ w_75) (fun _ h9 => h9) rfl dX4_spread_11 ?_
      refine lv_iload hx hb dX4_spread_14 (lv_at hl 4 rfl) ?_
      refine lv_iload hx hb dX4_spread_16 (lv_at hl 4 rfl) ?_
      refine lv_iload_n hx hb dX4_spread_18 rfl (lv_at hl 3 rfl) ?_
      refine lv_icmp_ne (tgt := 27) hx hb dX4_spread_19 (by decide) (fun c_7 => ?_) (fun c_7 => ?_)
      · skip
        refine lv_iconst (v := 0) hx hb dX4_spread_27 (by decide) ?_
        refine x_iast (k := k) hx hb hK hP hD hS 1 0 rfl rfl (by omega) (by decide) dX4_spread_28 (fun H locs hP hD hS => ?_)
        have hP : va_P (dC, dI) vwCl [(w, .inr (4, [.ref wd])), (wd, .inl (cI, 16, .inl (upd dpx k 0))), (h, .inr (1, [.ref hk, .ref hn, .ref hu, .int (nI sz)])), (hk, .inl (cI, 50, .inl ks)), (hn, .inl (cI, 50, .inl ns)), (hu, .inl (cI, 200, .inl us))] H := hP
        have hD : va_D A [(w, .inr (4, [.ref wd])), (wd, .inl (cI, 16, .inl (upd dpx k 0))), (h, .inr (1, [.ref hk, .ref hn, .ref hu, .int (nI sz)])), (hk, .inl (cI, 50, .inl ks)), (hn, .inl (cI, 50, .inl ns)), (hu, .inl (cI, 200, .inl us))] := hD
        refine lv_iinc (v := (nI (k + 1))) (lv' := [(4, .int (nI (k + 1))), (0, .ref w), (1, .ref h), (2, .int p1), (3, .int p2)]) hx hb dX4_spread_29 hl (k := 4) rfl (by rw [← nI_add]; rfl) (by decide) rfl (fun ls hl => ?_)
        refine lv_goto (tgt := 3) hx hb dX4_spread_32 (by decide) ?_
        exact ih_1 (k + 1, upd dpx k 0) _ _ _ ⟨(by (try dsimp only); omega), (by (try dsimp only); omega), (by (try dsimp only); rw [he, k_init]; simp [c_2, c_7]), hP, hD, hS, lv_sub hl [1, 2, 3, 4, 0] rfl⟩
      · skip
        refine lv_bipush (v := 99) hx hb dX4_spread_22 (by decide) ?_
        refine lv_goto (tgt := 28) hx hb dX4_spread_24 (by decide) ?_
        refine x_iast (k := k) hx hb hK hP hD hS 1 0 rfl rfl (by omega) (by decide) dX4_spread_28 (fun H locs hP hD hS => ?_)
        have hP : va_P (dC, dI) vwCl [(w, .inr (4, [.ref wd])), (wd, .inl (cI, 16, .inl (upd dpx k 99))), (h, .inr (1, [.ref hk, .ref hn, .ref hu, .int (nI sz)])), (hk, .inl (cI, 50, .inl ks)), (hn, .inl (cI, 50, .inl ns)), (hu, .inl (cI, 200, .inl us))] H := hP
        have hD : va_D A [(w, .inr (4, [.ref wd])), (wd, .inl (cI, 16, .inl (upd dpx k 99))), (h, .inr (1, [.ref hk, .ref hn, .ref hu, .int (nI sz)])), (hk, .inl (cI, 50, .inl ks)), (hn, .inl (cI, 50, .inl ns)), (hu, .inl (cI, 200, .inl us))] := hD
        refine lv_iinc (v := (nI (k + 1))) (lv' := [(4, .int (nI (k + 1))), (0, .ref w), (1, .ref h), (2, .int p1), (3, .int p2)]) hx hb dX4_spread_29 hl (k := 4) rfl (by rw [← nI_add]; rfl) (by decide) rfl (fun ls hl => ?_)
        refine lv_goto (tgt := 3) hx hb dX4_spread_32 (by decide) ?_
        exact ih_1 (k + 1, upd dpx k 99) _ _ _ ⟨(by (try dsimp only); omega), (by (try dsimp only); omega), (by (try dsimp only); rw [he, k_init]; simp [c_2, c_7]), hP, hD, hS, lv_sub hl [1, 2, 3, 4, 0] rfl⟩
  · exact absurd hI.1 (Nat.not_lt_zero _)
end
