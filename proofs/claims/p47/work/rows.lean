section
/-- a private method of a class that the tables say can be made, by its rows of tables_1 -/
def lw_okq (q : MethodName × Nat) : Prop := (q.1.cls ≠ "java/lang/invoke/MethodHandle" ∧ q.1.cls ≠ "java/lang/invoke/VarHandle") ∧ Cond.instantiable q.1.cls q.2 ∈ tables_1 ∧ Cond.privateMethod q.1 ∈ tables_1 ∧ Cond.instanceMethod q.1 ∈ tables_1
theorem lw_p0 : lw_okq (⟨"FameAhead$Land", "shorten", "([III)V"⟩, 9) := ⟨⟨by decide +kernel, by decide +kernel⟩, List.mem_of_getElem? (i := 33) (by decide +kernel), List.mem_of_getElem? (i := 402) (by decide +kernel), List.mem_of_getElem? (i := 403) (by decide +kernel)⟩
theorem lw_p1 : lw_okq (⟨"FameAhead$Land", "join", "([I)V"⟩, 9) := ⟨⟨by decide +kernel, by decide +kernel⟩, List.mem_of_getElem? (i := 33) (by decide +kernel), List.mem_of_getElem? (i := 409) (by decide +kernel), List.mem_of_getElem? (i := 410) (by decide +kernel)⟩
theorem lw_p2 : lw_okq (⟨"FameAhead", "arePair", "(I)Z"⟩, 10) := ⟨⟨by decide +kernel, by decide +kernel⟩, List.mem_of_getElem? (i := 25) (by decide +kernel), List.mem_of_getElem? (i := 417) (by decide +kernel), List.mem_of_getElem? (i := 418) (by decide +kernel)⟩
theorem lw_p3 : lw_okq (⟨"FameAhead", "isMarkOfOne", "(I)Z"⟩, 10) := ⟨⟨by decide +kernel, by decide +kernel⟩, List.mem_of_getElem? (i := 25) (by decide +kernel), List.mem_of_getElem? (i := 433) (by decide +kernel), List.mem_of_getElem? (i := 434) (by decide +kernel)⟩
theorem lw_p4 : lw_okq (⟨"FameAhead", "isOne", "(I)Z"⟩, 10) := ⟨⟨by decide +kernel, by decide +kernel⟩, List.mem_of_getElem? (i := 25) (by decide +kernel), List.mem_of_getElem? (i := 437) (by decide +kernel), List.mem_of_getElem? (i := 438) (by decide +kernel)⟩
theorem lw_p5 : lw_okq (⟨"FameAhead", "isTownAndHour", "(I)Z"⟩, 10) := ⟨⟨by decide +kernel, by decide +kernel⟩, List.mem_of_getElem? (i := 25) (by decide +kernel), List.mem_of_getElem? (i := 441) (by decide +kernel), List.mem_of_getElem? (i := 442) (by decide +kernel)⟩
theorem lw_p6 : lw_okq (⟨"FameAhead", "isWeight", "(I)Z"⟩, 10) := ⟨⟨by decide +kernel, by decide +kernel⟩, List.mem_of_getElem? (i := 25) (by decide +kernel), List.mem_of_getElem? (i := 445) (by decide +kernel), List.mem_of_getElem? (i := 446) (by decide +kernel)⟩
theorem lw_p7 : lw_okq (⟨"FameAhead$Ledger", "write", "(IIIII)V"⟩, 6) := ⟨⟨by decide +kernel, by decide +kernel⟩, List.mem_of_getElem? (i := 76) (by decide +kernel), List.mem_of_getElem? (i := 453) (by decide +kernel), List.mem_of_getElem? (i := 454) (by decide +kernel)⟩
theorem lw_p8 : lw_okq (⟨"FameAhead", "isMendable", "(II)Z"⟩, 10) := ⟨⟨by decide +kernel, by decide +kernel⟩, List.mem_of_getElem? (i := 25) (by decide +kernel), List.mem_of_getElem? (i := 461) (by decide +kernel), List.mem_of_getElem? (i := 462) (by decide +kernel)⟩
theorem lw_p9 : lw_okq (⟨"FameAhead", "numberOf", "(II)I"⟩, 10) := ⟨⟨by decide +kernel, by decide +kernel⟩, List.mem_of_getElem? (i := 25) (by decide +kernel), List.mem_of_getElem? (i := 474) (by decide +kernel), List.mem_of_getElem? (i := 475) (by decide +kernel)⟩
theorem lw_p10 : lw_okq (⟨"FameAhead", "fixedNumberOf", "(II)I"⟩, 10) := ⟨⟨by decide +kernel, by decide +kernel⟩, List.mem_of_getElem? (i := 25) (by decide +kernel), List.mem_of_getElem? (i := 478) (by decide +kernel), List.mem_of_getElem? (i := 479) (by decide +kernel)⟩
theorem lw_p11 : lw_okq (⟨"FameAhead$Changes", "dropOldest", "()V"⟩, 6) := ⟨⟨by decide +kernel, by decide +kernel⟩, List.mem_of_getElem? (i := 235) (by decide +kernel), List.mem_of_getElem? (i := 486) (by decide +kernel), List.mem_of_getElem? (i := 487) (by decide +kernel)⟩
theorem lw_p12 : lw_okq (⟨"FameAhead", "assign", "(III)V"⟩, 10) := ⟨⟨by decide +kernel, by decide +kernel⟩, List.mem_of_getElem? (i := 25) (by decide +kernel), List.mem_of_getElem? (i := 493) (by decide +kernel), List.mem_of_getElem? (i := 494) (by decide +kernel)⟩
theorem lw_p13 : lw_okq (⟨"FameAhead$Reader", "readLine", "()V"⟩, 5) := ⟨⟨by decide +kernel, by decide +kernel⟩, List.mem_of_getElem? (i := 135) (by decide +kernel), List.mem_of_getElem? (i := 522) (by decide +kernel), List.mem_of_getElem? (i := 523) (by decide +kernel)⟩
theorem lw_p14 : lw_okq (⟨"FameAhead$Reader", "readE", "(I)V"⟩, 5) := ⟨⟨by decide +kernel, by decide +kernel⟩, List.mem_of_getElem? (i := 135) (by decide +kernel), List.mem_of_getElem? (i := 526) (by decide +kernel), List.mem_of_getElem? (i := 527) (by decide +kernel)⟩
theorem lw_p15 : lw_okq (⟨"FameAhead$Reader", "readA", "(I)V"⟩, 5) := ⟨⟨by decide +kernel, by decide +kernel⟩, List.mem_of_getElem? (i := 135) (by decide +kernel), List.mem_of_getElem? (i := 530) (by decide +kernel), List.mem_of_getElem? (i := 531) (by decide +kernel)⟩
def lw_privs_1 : List (MethodName × Nat) := [(⟨"FameAhead$Land", "shorten", "([III)V"⟩, 9), (⟨"FameAhead$Land", "join", "([I)V"⟩, 9), (⟨"FameAhead", "arePair", "(I)Z"⟩, 10), (⟨"FameAhead", "isMarkOfOne", "(I)Z"⟩, 10), (⟨"FameAhead", "isOne", "(I)Z"⟩, 10), (⟨"FameAhead", "isTownAndHour", "(I)Z"⟩, 10), (⟨"FameAhead", "isWeight", "(I)Z"⟩, 10), (⟨"FameAhead$Ledger", "write", "(IIIII)V"⟩, 6), (⟨"FameAhead", "isMendable", "(II)Z"⟩, 10), (⟨"FameAhead", "numberOf", "(II)I"⟩, 10), (⟨"FameAhead", "fixedNumberOf", "(II)I"⟩, 10), (⟨"FameAhead$Changes", "dropOldest", "()V"⟩, 6), (⟨"FameAhead", "assign", "(III)V"⟩, 10), (⟨"FameAhead$Reader", "readLine", "()V"⟩, 5), (⟨"FameAhead$Reader", "readE", "(I)V"⟩, 5), (⟨"FameAhead$Reader", "readA", "(I)V"⟩, 5)]
theorem lw_r1 : ∀ q ∈ lw_privs_1, lw_okq q := List.forall_mem_cons.mpr ⟨lw_p0, List.forall_mem_cons.mpr ⟨lw_p1, List.forall_mem_cons.mpr ⟨lw_p2, List.forall_mem_cons.mpr ⟨lw_p3, List.forall_mem_cons.mpr ⟨lw_p4, List.forall_mem_cons.mpr ⟨lw_p5, List.forall_mem_cons.mpr ⟨lw_p6, List.forall_mem_cons.mpr ⟨lw_p7, List.forall_mem_cons.mpr ⟨lw_p8, List.forall_mem_cons.mpr ⟨lw_p9, List.forall_mem_cons.mpr ⟨lw_p10, List.forall_mem_cons.mpr ⟨lw_p11, List.forall_mem_cons.mpr ⟨lw_p12, List.forall_mem_cons.mpr ⟨lw_p13, List.forall_mem_cons.mpr ⟨lw_p14, List.forall_mem_cons.mpr ⟨lw_p15, fun _ h => absurd h List.not_mem_nil⟩⟩⟩⟩⟩⟩⟩⟩⟩⟩⟩⟩⟩⟩⟩⟩
theorem lw_p16 : lw_okq (⟨"FameAhead$Reader", "readB", "(I)V"⟩, 5) := ⟨⟨by decide +kernel, by decide +kernel⟩, List.mem_of_getElem? (i := 135) (by decide +kernel), List.mem_of_getElem? (i := 534) (by decide +kernel), List.mem_of_getElem? (i := 535) (by decide +kernel)⟩
theorem lw_p17 : lw_okq (⟨"FameAhead$Reader", "readS", "(I)V"⟩, 5) := ⟨⟨by decide +kernel, by decide +kernel⟩, List.mem_of_getElem? (i := 135) (by decide +kernel), List.mem_of_getElem? (i := 538) (by decide +kernel), List.mem_of_getElem? (i := 539) (by decide +kernel)⟩
theorem lw_p18 : lw_okq (⟨"FameAhead$Reader", "readP", "(I)V"⟩, 5) := ⟨⟨by decide +kernel, by decide +kernel⟩, List.mem_of_getElem? (i := 135) (by decide +kernel), List.mem_of_getElem? (i := 542) (by decide +kernel), List.mem_of_getElem? (i := 543) (by decide +kernel)⟩
theorem lw_p19 : lw_okq (⟨"FameAhead$Reader", "readO", "(I)V"⟩, 5) := ⟨⟨by decide +kernel, by decide +kernel⟩, List.mem_of_getElem? (i := 135) (by decide +kernel), List.mem_of_getElem? (i := 546) (by decide +kernel), List.mem_of_getElem? (i := 547) (by decide +kernel)⟩
theorem lw_p20 : lw_okq (⟨"FameAhead$Reader", "letterHere", "()I"⟩, 5) := ⟨⟨by decide +kernel, by decide +kernel⟩, List.mem_of_getElem? (i := 135) (by decide +kernel), List.mem_of_getElem? (i := 550) (by decide +kernel), List.mem_of_getElem? (i := 551) (by decide +kernel)⟩
theorem lw_p21 : lw_okq (⟨"FameAhead$Reader", "readNumber", "()V"⟩, 5) := ⟨⟨by decide +kernel, by decide +kernel⟩, List.mem_of_getElem? (i := 135) (by decide +kernel), List.mem_of_getElem? (i := 557) (by decide +kernel), List.mem_of_getElem? (i := 558) (by decide +kernel)⟩
theorem lw_p22 : lw_okq (⟨"FameAhead$Reader", "goesOnWith", "(I)Z"⟩, 5) := ⟨⟨by decide +kernel, by decide +kernel⟩, List.mem_of_getElem? (i := 135) (by decide +kernel), List.mem_of_getElem? (i := 565) (by decide +kernel), List.mem_of_getElem? (i := 566) (by decide +kernel)⟩
theorem lw_p23 : lw_okq (⟨"FameAhead$Reader", "nextOf", "(III)I"⟩, 5) := ⟨⟨by decide +kernel, by decide +kernel⟩, List.mem_of_getElem? (i := 135) (by decide +kernel), List.mem_of_getElem? (i := 569) (by decide +kernel), List.mem_of_getElem? (i := 570) (by decide +kernel)⟩
theorem lw_p24 : lw_okq (⟨"FameAhead$Reader", "passed", "(I)I"⟩, 5) := ⟨⟨by decide +kernel, by decide +kernel⟩, List.mem_of_getElem? (i := 135) (by decide +kernel), List.mem_of_getElem? (i := 573) (by decide +kernel), List.mem_of_getElem? (i := 574) (by decide +kernel)⟩
theorem lw_p25 : lw_okq (⟨"FameAhead$Law", "run", "()I"⟩, 5) := ⟨⟨by decide +kernel, by decide +kernel⟩, List.mem_of_getElem? (i := 113) (by decide +kernel), List.mem_of_getElem? (i := 627) (by decide +kernel), List.mem_of_getElem? (i := 628) (by decide +kernel)⟩
theorem lw_p26 : lw_okq (⟨"FameAhead$Tidings", "raise", "(II)V"⟩, 10) := ⟨⟨by decide +kernel, by decide +kernel⟩, List.mem_of_getElem? (i := 161) (by decide +kernel), List.mem_of_getElem? (i := 654) (by decide +kernel), List.mem_of_getElem? (i := 655) (by decide +kernel)⟩
theorem lw_p27 : lw_okq (⟨"FameAhead", "isHour", "(I)Z"⟩, 10) := ⟨⟨by decide +kernel, by decide +kernel⟩, List.mem_of_getElem? (i := 25) (by decide +kernel), List.mem_of_getElem? (i := 682) (by decide +kernel), List.mem_of_getElem? (i := 683) (by decide +kernel)⟩
theorem lw_p28 : lw_okq (⟨"FameAhead", "bestTown", "(II)I"⟩, 10) := ⟨⟨by decide +kernel, by decide +kernel⟩, List.mem_of_getElem? (i := 25) (by decide +kernel), List.mem_of_getElem? (i := 686) (by decide +kernel), List.mem_of_getElem? (i := 687) (by decide +kernel)⟩
theorem lw_p29 : lw_okq (⟨"FameAhead", "townsWhere", "(IIZ)I"⟩, 10) := ⟨⟨by decide +kernel, by decide +kernel⟩, List.mem_of_getElem? (i := 25) (by decide +kernel), List.mem_of_getElem? (i := 690) (by decide +kernel), List.mem_of_getElem? (i := 691) (by decide +kernel)⟩
theorem lw_p30 : lw_okq (⟨"FameAhead", "isUnsaid", "(III)Z"⟩, 10) := ⟨⟨by decide +kernel, by decide +kernel⟩, List.mem_of_getElem? (i := 25) (by decide +kernel), List.mem_of_getElem? (i := 698) (by decide +kernel), List.mem_of_getElem? (i := 699) (by decide +kernel)⟩
theorem lw_p31 : lw_okq (⟨"FameAhead$Seeker", "explore", "(IIIII)V"⟩, 8) := ⟨⟨by decide +kernel, by decide +kernel⟩, List.mem_of_getElem? (i := 203) (by decide +kernel), List.mem_of_getElem? (i := 712) (by decide +kernel), List.mem_of_getElem? (i := 713) (by decide +kernel)⟩
def lw_privs_2 : List (MethodName × Nat) := [(⟨"FameAhead$Reader", "readB", "(I)V"⟩, 5), (⟨"FameAhead$Reader", "readS", "(I)V"⟩, 5), (⟨"FameAhead$Reader", "readP", "(I)V"⟩, 5), (⟨"FameAhead$Reader", "readO", "(I)V"⟩, 5), (⟨"FameAhead$Reader", "letterHere", "()I"⟩, 5), (⟨"FameAhead$Reader", "readNumber", "()V"⟩, 5), (⟨"FameAhead$Reader", "goesOnWith", "(I)Z"⟩, 5), (⟨"FameAhead$Reader", "nextOf", "(III)I"⟩, 5), (⟨"FameAhead$Reader", "passed", "(I)I"⟩, 5), (⟨"FameAhead$Law", "run", "()I"⟩, 5), (⟨"FameAhead$Tidings", "raise", "(II)V"⟩, 10), (⟨"FameAhead", "isHour", "(I)Z"⟩, 10), (⟨"FameAhead", "bestTown", "(II)I"⟩, 10), (⟨"FameAhead", "townsWhere", "(IIZ)I"⟩, 10), (⟨"FameAhead", "isUnsaid", "(III)Z"⟩, 10), (⟨"FameAhead$Seeker", "explore", "(IIIII)V"⟩, 8)]
theorem lw_r2 : ∀ q ∈ lw_privs_2, lw_okq q := List.forall_mem_cons.mpr ⟨lw_p16, List.forall_mem_cons.mpr ⟨lw_p17, List.forall_mem_cons.mpr ⟨lw_p18, List.forall_mem_cons.mpr ⟨lw_p19, List.forall_mem_cons.mpr ⟨lw_p20, List.forall_mem_cons.mpr ⟨lw_p21, List.forall_mem_cons.mpr ⟨lw_p22, List.forall_mem_cons.mpr ⟨lw_p23, List.forall_mem_cons.mpr ⟨lw_p24, List.forall_mem_cons.mpr ⟨lw_p25, List.forall_mem_cons.mpr ⟨lw_p26, List.forall_mem_cons.mpr ⟨lw_p27, List.forall_mem_cons.mpr ⟨lw_p28, List.forall_mem_cons.mpr ⟨lw_p29, List.forall_mem_cons.mpr ⟨lw_p30, List.forall_mem_cons.mpr ⟨lw_p31, fun _ h => absurd h List.not_mem_nil⟩⟩⟩⟩⟩⟩⟩⟩⟩⟩⟩⟩⟩⟩⟩⟩
theorem lw_p32 : lw_okq (⟨"FameAhead$Seeker", "compare", "(III)V"⟩, 8) := ⟨⟨by decide +kernel, by decide +kernel⟩, List.mem_of_getElem? (i := 203) (by decide +kernel), List.mem_of_getElem? (i := 716) (by decide +kernel), List.mem_of_getElem? (i := 717) (by decide +kernel)⟩
theorem lw_p33 : lw_okq (⟨"FameAhead", "arrestsSomewhere", "(II)Z"⟩, 10) := ⟨⟨by decide +kernel, by decide +kernel⟩, List.mem_of_getElem? (i := 25) (by decide +kernel), List.mem_of_getElem? (i := 750) (by decide +kernel), List.mem_of_getElem? (i := 751) (by decide +kernel)⟩
theorem lw_p34 : lw_okq (⟨"FameAhead", "mixed", "(IIII)I"⟩, 10) := ⟨⟨by decide +kernel, by decide +kernel⟩, List.mem_of_getElem? (i := 25) (by decide +kernel), List.mem_of_getElem? (i := 765) (by decide +kernel), List.mem_of_getElem? (i := 766) (by decide +kernel)⟩
theorem lw_p35 : lw_okq (⟨"FameAhead", "refusalOfSeen", "(III)I"⟩, 10) := ⟨⟨by decide +kernel, by decide +kernel⟩, List.mem_of_getElem? (i := 25) (by decide +kernel), List.mem_of_getElem? (i := 773) (by decide +kernel), List.mem_of_getElem? (i := 774) (by decide +kernel)⟩
theorem lw_p36 : lw_okq (⟨"FameAhead", "firstUnlike", "(I)I"⟩, 10) := ⟨⟨by decide +kernel, by decide +kernel⟩, List.mem_of_getElem? (i := 25) (by decide +kernel), List.mem_of_getElem? (i := 793) (by decide +kernel), List.mem_of_getElem? (i := 794) (by decide +kernel)⟩
theorem lw_p37 : lw_okq (⟨"FameAhead", "isAsSeen", "(II)Z"⟩, 10) := ⟨⟨by decide +kernel, by decide +kernel⟩, List.mem_of_getElem? (i := 25) (by decide +kernel), List.mem_of_getElem? (i := 813) (by decide +kernel), List.mem_of_getElem? (i := 814) (by decide +kernel)⟩
theorem lw_p38 : lw_okq (⟨"FameAhead", "refusalOfPlace", "(II)I"⟩, 10) := ⟨⟨by decide +kernel, by decide +kernel⟩, List.mem_of_getElem? (i := 25) (by decide +kernel), List.mem_of_getElem? (i := 917) (by decide +kernel), List.mem_of_getElem? (i := 918) (by decide +kernel)⟩
theorem lw_p39 : lw_okq (⟨"FameAhead", "isVolume", "(I)Z"⟩, 10) := ⟨⟨by decide +kernel, by decide +kernel⟩, List.mem_of_getElem? (i := 25) (by decide +kernel), List.mem_of_getElem? (i := 1248) (by decide +kernel), List.mem_of_getElem? (i := 1249) (by decide +kernel)⟩
def lw_privs_3 : List (MethodName × Nat) := [(⟨"FameAhead$Seeker", "compare", "(III)V"⟩, 8), (⟨"FameAhead", "arrestsSomewhere", "(II)Z"⟩, 10), (⟨"FameAhead", "mixed", "(IIII)I"⟩, 10), (⟨"FameAhead", "refusalOfSeen", "(III)I"⟩, 10), (⟨"FameAhead", "firstUnlike", "(I)I"⟩, 10), (⟨"FameAhead", "isAsSeen", "(II)Z"⟩, 10), (⟨"FameAhead", "refusalOfPlace", "(II)I"⟩, 10), (⟨"FameAhead", "isVolume", "(I)Z"⟩, 10)]
theorem lw_r3 : ∀ q ∈ lw_privs_3, lw_okq q := List.forall_mem_cons.mpr ⟨lw_p32, List.forall_mem_cons.mpr ⟨lw_p33, List.forall_mem_cons.mpr ⟨lw_p34, List.forall_mem_cons.mpr ⟨lw_p35, List.forall_mem_cons.mpr ⟨lw_p36, List.forall_mem_cons.mpr ⟨lw_p37, List.forall_mem_cons.mpr ⟨lw_p38, List.forall_mem_cons.mpr ⟨lw_p39, fun _ h => absurd h List.not_mem_nil⟩⟩⟩⟩⟩⟩⟩⟩
def lw_privs : List (MethodName × Nat) := lw_privs_1 ++ (lw_privs_2 ++ (lw_privs_3))
def lw_tbl : List Cond := k2_sels lw_privs ++ tables_1
theorem lw_privs_ok : ∀ q ∈ lw_privs, lw_okq q := by
  show ∀ q ∈ lw_privs_1 ++ (lw_privs_2 ++ (lw_privs_3)), lw_okq q
  exact List.forall_mem_append.mpr ⟨lw_r1, List.forall_mem_append.mpr ⟨lw_r2, lw_r3⟩⟩
end
section
def RX0 : String := "FameAhead$Changes"
def TX0 : u_T := fun k => match k with
  | 0 => ("FameAhead$Changes", "number", "[I", true)
  | 1 => ("FameAhead$Changes", "what", "[I", true)
  | 2 => ("FameAhead$Changes", "before", "[I", true)
  | 3 => ("FameAhead$Changes", "after", "[I", true)
  | 4 => ("FameAhead$Changes", "done", "I", false)
  | _ => ("FameAhead$Changes", "known", "I", false)
def tyX0 : Nat → FieldType := fun k => match k with
  | 0 => .array .int
  | 1 => .array .int
  | 2 => .array .int
  | 3 => .array .int
  | 4 => .int
  | _ => .int
abbrev wsX00 : List Cond := u_ws RX0 TX0 6
theorem nmX0 : ∀ a, a < 6 → ∀ b, b < 6 → a ≠ b → (TX0 a).2.1 ≠ (TX0 b).2.1 := by decide +kernel
theorem tyX0_ok : ∀ k, k < 6 → parseFieldDescriptor (TX0 k).2.2.1 = some (tyX0 k) := by decide +kernel
abbrev cX0_init : ByteArray := prog_2_method_1_code
def yX0_init : MethodName := ⟨RX0, "<init>", "()V"⟩
abbrev cX0_add : ByteArray := prog_2_method_2_code
def yX0_add : MethodName := ⟨RX0, "add", "(IIII)V"⟩
abbrev cX0_dropOldest : ByteArray := prog_2_method_3_code
def yX0_dropOldest : MethodName := ⟨RX0, "dropOldest", "()V"⟩
abbrev cX0_stepBack : ByteArray := prog_2_method_4_code
def yX0_stepBack : MethodName := ⟨RX0, "stepBack", "()I"⟩
def RX1 : String := "FameAhead$Journey"
def TX1 : u_T := fun k => match k with
  | 0 => ("FameAhead$Journey", "place", "[I", true)
  | 1 => ("FameAhead$Journey", "now", "I", false)
  | 2 => ("FameAhead$Journey", "roadsWalked", "I", false)
  | 3 => ("FameAhead$Journey", "hoursWalked", "I", false)
  | 4 => ("FameAhead$Journey", "arrests", "I", false)
  | 5 => ("FameAhead$Journey", "deedsDone", "I", false)
  | 6 => ("FameAhead$Journey", "hasImage", "Z", false)
  | 7 => ("FameAhead$Journey", "imageOfPlace", "[I", true)
  | _ => ("FameAhead$Journey", "imageOfNumbers", "[I", true)
def tyX1 : Nat → FieldType := fun k => match k with
  | 0 => .array .int
  | 1 => .int
  | 2 => .int
  | 3 => .int
  | 4 => .int
  | 5 => .int
  | 6 => .boolean
  | 7 => .array .int
  | _ => .array .int
abbrev wsX10 : List Cond := u_ws RX1 TX1 9
theorem nmX1 : ∀ a, a < 9 → ∀ b, b < 9 → a ≠ b → (TX1 a).2.1 ≠ (TX1 b).2.1 := by decide +kernel
theorem tyX1_ok : ∀ k, k < 9 → parseFieldDescriptor (TX1 k).2.2.1 = some (tyX1 k) := by decide +kernel
abbrev cX1_init : ByteArray := prog_3_method_1_code
def yX1_init : MethodName := ⟨RX1, "<init>", "()V"⟩
abbrev cX1_go : ByteArray := prog_3_method_2_code
def yX1_go : MethodName := ⟨RX1, "go", "(III)V"⟩
abbrev cX1_keepImage : ByteArray := prog_3_method_3_code
def yX1_keepImage : MethodName := ⟨RX1, "keepImage", "()V"⟩
abbrev cX1_layBack : ByteArray := prog_3_method_4_code
def yX1_layBack : MethodName := ⟨RX1, "layBack", "()V"⟩
def RX2 : String := "FameAhead$Land"
def TX2 : u_T := fun k => match k with
  | 0 => ("FameAhead$Land", "deafness", "[I", true)
  | 1 => ("FameAhead$Land", "length", "[I", true)
  | 2 => ("FameAhead$Land", "carted", "[I", true)
  | 3 => ("FameAhead$Land", "oneEnd", "[I", true)
  | 4 => ("FameAhead$Land", "otherEnd", "[I", true)
  | 5 => ("FameAhead$Land", "feet", "[I", true)
  | 6 => ("FameAhead$Land", "carters", "[I", true)
  | 7 => ("FameAhead$Land", "towns", "I", false)
  | _ => ("FameAhead$Land", "roads", "I", false)
def tyX2 : Nat → FieldType := fun k => match k with
  | 0 => .array .int
  | 1 => .array .int
  | 2 => .array .int
  | 3 => .array .int
  | 4 => .array .int
  | 5 => .array .int
  | 6 => .array .int
  | 7 => .int
  | _ => .int
abbrev wsX20 : List Cond := u_ws RX2 TX2 9
theorem nmX2 : ∀ a, a < 9 → ∀ b, b < 9 → a ≠ b → (TX2 a).2.1 ≠ (TX2 b).2.1 := by decide +kernel
theorem tyX2_ok : ∀ k, k < 9 → parseFieldDescriptor (TX2 k).2.2.1 = some (tyX2 k) := by decide +kernel
abbrev cX2_init : ByteArray := prog_4_method_1_code
def yX2_init : MethodName := ⟨RX2, "<init>", "()V"⟩
abbrev cX2_isTown : ByteArray := prog_4_method_2_code
def yX2_isTown : MethodName := ⟨RX2, "isTown", "(I)Z"⟩
abbrev cX2_isRoad : ByteArray := prog_4_method_3_code
def yX2_isRoad : MethodName := ⟨RX2, "isRoad", "(I)Z"⟩
abbrev cX2_addTown : ByteArray := prog_4_method_4_code
def yX2_addTown : MethodName := ⟨RX2, "addTown", "(I)I"⟩
abbrev cX2_addRoad : ByteArray := prog_4_method_5_code
def yX2_addRoad : MethodName := ⟨RX2, "addRoad", "(III)I"⟩
abbrev cX2_acrossFrom : ByteArray := prog_4_method_6_code
def yX2_acrossFrom : MethodName := ⟨RX2, "acrossFrom", "(II)I"⟩
abbrev cX2_hoursByFeet : ByteArray := prog_4_method_7_code
def yX2_hoursByFeet : MethodName := ⟨RX2, "hoursByFeet", "(II)I"⟩
abbrev cX2_hoursByCarters : ByteArray := prog_4_method_8_code
def yX2_hoursByCarters : MethodName := ⟨RX2, "hoursByCarters", "(II)I"⟩
abbrev cX2_roadsByCarters : ByteArray := prog_4_method_9_code
def yX2_roadsByCarters : MethodName := ⟨RX2, "roadsByCarters", "(II)I"⟩
abbrev cX2_isCartedTo : ByteArray := prog_4_method_10_code
def yX2_isCartedTo : MethodName := ⟨RX2, "isCartedTo", "(III)Z"⟩
abbrev cX2_measure : ByteArray := prog_4_method_11_code
def yX2_measure : MethodName := ⟨RX2, "measure", "()V"⟩
abbrev cX2_shorten : ByteArray := prog_4_method_12_code
def yX2_shorten : MethodName := ⟨RX2, "shorten", "([III)V"⟩
abbrev cX2_join : ByteArray := prog_4_method_13_code
def yX2_join : MethodName := ⟨RX2, "join", "([I)V"⟩
def RX3 : String := "FameAhead$Law"
def TX3 : u_T := fun k => match k with
  | 0 => ("FameAhead$Law", "steps", "[I", true)
  | 1 => ("FameAhead$Law", "operands", "[I", true)
  | 2 => ("FameAhead$Law", "stack", "[I", true)
  | 3 => ("FameAhead$Law", "names", "[I", true)
  | _ => ("FameAhead$Law", "length", "I", false)
def tyX3 : Nat → FieldType := fun k => match k with
  | 0 => .array .int
  | 1 => .array .int
  | 2 => .array .int
  | 3 => .array .int
  | _ => .int
abbrev wsX30 : List Cond := u_ws RX3 TX3 5
theorem nmX3 : ∀ a, a < 5 → ∀ b, b < 5 → a ≠ b → (TX3 a).2.1 ≠ (TX3 b).2.1 := by decide +kernel
theorem tyX3_ok : ∀ k, k < 5 → parseFieldDescriptor (TX3 k).2.2.1 = some (tyX3 k) := by decide +kernel
abbrev cX3_init : ByteArray := prog_5_method_1_code
def yX3_init : MethodName := ⟨RX3, "<init>", "()V"⟩
abbrev cX3_clear : ByteArray := prog_5_method_2_code
def yX3_clear : MethodName := ⟨RX3, "clear", "()V"⟩
abbrev cX3_add : ByteArray := prog_5_method_3_code
def yX3_add : MethodName := ⟨RX3, "add", "(II)I"⟩
abbrev cX3_leadHere : ByteArray := prog_5_method_4_code
def yX3_leadHere : MethodName := ⟨RX3, "leadHere", "(I)V"⟩
abbrev cX3_become : ByteArray := prog_5_method_5_code
def yX3_become : MethodName := ⟨RX3, "become", "(LFameAhead$Law;)V"⟩
abbrev cX3_volume : ByteArray := prog_5_method_6_code
def yX3_volume : MethodName := ⟨RX3, "volume", "(IIIIII)I"⟩
abbrev cX3_run : ByteArray := prog_5_method_7_code
def yX3_run : MethodName := ⟨RX3, "run", "()I"⟩
abbrev cX3_joined : ByteArray := prog_5_method_8_code
def yX3_joined : MethodName := ⟨RX3, "joined", "(III)I"⟩
def RX4 : String := "FameAhead$Ledger"
def TX4 : u_T := fun k => match k with
  | 0 => ("FameAhead$Ledger", "who", "[I", true)
  | 1 => ("FameAhead$Ledger", "place", "[I", true)
  | 2 => ("FameAhead$Ledger", "hour", "[I", true)
  | 3 => ("FameAhead$Ledger", "mark", "[I", true)
  | 4 => ("FameAhead$Ledger", "weight", "[I", true)
  | _ => ("FameAhead$Ledger", "size", "I", false)
def tyX4 : Nat → FieldType := fun k => match k with
  | 0 => .array .int
  | 1 => .array .int
  | 2 => .array .int
  | 3 => .array .int
  | 4 => .array .int
  | _ => .int
abbrev wsX40 : List Cond := u_ws RX4 TX4 6
theorem nmX4 : ∀ a, a < 6 → ∀ b, b < 6 → a ≠ b → (TX4 a).2.1 ≠ (TX4 b).2.1 := by decide +kernel
theorem tyX4_ok : ∀ k, k < 6 → parseFieldDescriptor (TX4 k).2.2.1 = some (tyX4 k) := by decide +kernel
abbrev cX4_init : ByteArray := prog_6_method_1_code
def yX4_init : MethodName := ⟨RX4, "<init>", "()V"⟩
abbrev cX4_isDeed : ByteArray := prog_6_method_2_code
def yX4_isDeed : MethodName := ⟨RX4, "isDeed", "(I)Z"⟩
abbrev cX4_enter : ByteArray := prog_6_method_3_code
def yX4_enter : MethodName := ⟨RX4, "enter", "(IIIII)I"⟩
abbrev cX4_write : ByteArray := prog_6_method_5_code
def yX4_write : MethodName := ⟨RX4, "write", "(IIIII)V"⟩
def RX5 : String := "FameAhead$Reader"
def TX5 : u_T := fun k => match k with
  | 0 => ("FameAhead$Reader", "draft", "LFameAhead$Law;", true)
  | 1 => ("FameAhead$Reader", "tape", "[I", true)
  | 2 => ("FameAhead$Reader", "length", "I", false)
  | 3 => ("FameAhead$Reader", "at", "I", false)
  | _ => ("FameAhead$Reader", "faulty", "Z", false)
def tyX5 : Nat → FieldType := fun k => match k with
  | 0 => .object "FameAhead$Law"
  | 1 => .array .int
  | 2 => .int
  | 3 => .int
  | _ => .boolean
abbrev wsX50 : List Cond := u_ws RX5 TX5 5
theorem nmX5 : ∀ a, a < 5 → ∀ b, b < 5 → a ≠ b → (TX5 a).2.1 ≠ (TX5 b).2.1 := by decide +kernel
theorem tyX5_ok : ∀ k, k < 5 → parseFieldDescriptor (TX5 k).2.2.1 = some (tyX5 k) := by decide +kernel
abbrev cX5_init : ByteArray := prog_7_method_1_code
def yX5_init : MethodName := ⟨RX5, "<init>", "()V"⟩
abbrev cX5_take : ByteArray := prog_7_method_2_code
def yX5_take : MethodName := ⟨RX5, "take", "(I)I"⟩
abbrev cX5_clear : ByteArray := prog_7_method_3_code
def yX5_clear : MethodName := ⟨RX5, "clear", "()V"⟩
abbrev cX5_readText : ByteArray := prog_7_method_4_code
def yX5_readText : MethodName := ⟨RX5, "readText", "()I"⟩
abbrev cX5_readLine : ByteArray := prog_7_method_5_code
def yX5_readLine : MethodName := ⟨RX5, "readLine", "()V"⟩
abbrev cX5_readE : ByteArray := prog_7_method_6_code
def yX5_readE : MethodName := ⟨RX5, "readE", "(I)V"⟩
abbrev cX5_readA : ByteArray := prog_7_method_7_code
def yX5_readA : MethodName := ⟨RX5, "readA", "(I)V"⟩
abbrev cX5_readB : ByteArray := prog_7_method_8_code
def yX5_readB : MethodName := ⟨RX5, "readB", "(I)V"⟩
abbrev cX5_readS : ByteArray := prog_7_method_9_code
def yX5_readS : MethodName := ⟨RX5, "readS", "(I)V"⟩
abbrev cX5_readP : ByteArray := prog_7_method_10_code
def yX5_readP : MethodName := ⟨RX5, "readP", "(I)V"⟩
abbrev cX5_readO : ByteArray := prog_7_method_11_code
def yX5_readO : MethodName := ⟨RX5, "readO", "(I)V"⟩
abbrev cX5_readNumber : ByteArray := prog_7_method_12_code
def yX5_readNumber : MethodName := ⟨RX5, "readNumber", "()V"⟩
abbrev cX5_letterHere : ByteArray := prog_7_method_13_code
def yX5_letterHere : MethodName := ⟨RX5, "letterHere", "()I"⟩
abbrev cX5_goesOnWith : ByteArray := prog_7_method_14_code
def yX5_goesOnWith : MethodName := ⟨RX5, "goesOnWith", "(I)Z"⟩
abbrev cX5_nextOf : ByteArray := prog_7_method_15_code
def yX5_nextOf : MethodName := ⟨RX5, "nextOf", "(III)I"⟩
abbrev cX5_passed : ByteArray := prog_7_method_16_code
def yX5_passed : MethodName := ⟨RX5, "passed", "(I)I"⟩
abbrev cX5_nameOf : ByteArray := prog_7_method_17_code
def yX5_nameOf : MethodName := ⟨RX5, "nameOf", "(I)I"⟩
def RX6 : String := "FameAhead$Seeker"
def TX6 : u_T := fun k => match k with
  | 0 => ("FameAhead$Seeker", "land", "LFameAhead$Land;", true)
  | 1 => ("FameAhead$Seeker", "tidings", "LFameAhead$Tidings;", true)
  | 2 => ("FameAhead$Seeker", "receptions", "[I", true)
  | 3 => ("FameAhead$Seeker", "one", "I", false)
  | 4 => ("FameAhead$Seeker", "start", "I", false)
  | 5 => ("FameAhead$Seeker", "bestSum", "I", false)
  | 6 => ("FameAhead$Seeker", "bestRoads", "I", false)
  | _ => ("FameAhead$Seeker", "bestTowns", "I", false)
def tyX6 : Nat → FieldType := fun k => match k with
  | 0 => .object "FameAhead$Land"
  | 1 => .object "FameAhead$Tidings"
  | 2 => .array .int
  | 3 => .int
  | 4 => .int
  | 5 => .int
  | 6 => .int
  | _ => .int
abbrev wsX60 : List Cond := u_ws RX6 TX6 8
theorem nmX6 : ∀ a, a < 8 → ∀ b, b < 8 → a ≠ b → (TX6 a).2.1 ≠ (TX6 b).2.1 := by decide +kernel
theorem tyX6_ok : ∀ k, k < 8 → parseFieldDescriptor (TX6 k).2.2.1 = some (tyX6 k) := by decide +kernel
abbrev cX6_init : ByteArray := prog_8_method_1_code
def yX6_init : MethodName := ⟨RX6, "<init>", "(LFameAhead$Land;LFameAhead$Tidings;)V"⟩
abbrev cX6_seek : ByteArray := prog_8_method_2_code
def yX6_seek : MethodName := ⟨RX6, "seek", "(III)V"⟩
abbrev cX6_townAt : ByteArray := prog_8_method_3_code
def yX6_townAt : MethodName := ⟨RX6, "townAt", "(I)I"⟩
abbrev cX6_explore : ByteArray := prog_8_method_4_code
def yX6_explore : MethodName := ⟨RX6, "explore", "(IIIII)V"⟩
abbrev cX6_compare : ByteArray := prog_8_method_5_code
def yX6_compare : MethodName := ⟨RX6, "compare", "(III)V"⟩
def RX7 : String := "FameAhead$Shelves"
def TX7 : u_T := fun k => match k with
  | 0 => ("FameAhead$Shelves", "holding", "[I", true)
  | 1 => ("FameAhead$Shelves", "word", "[I", true)
  | 2 => ("FameAhead$Shelves", "sort", "[I", true)
  | 3 => ("FameAhead$Shelves", "size", "[I", true)
  | _ => ("FameAhead$Shelves", "places", "[J", true)
def tyX7 : Nat → FieldType := fun k => match k with
  | 0 => .array .int
  | 1 => .array .int
  | 2 => .array .int
  | 3 => .array .int
  | _ => .array .long
abbrev wsX70 : List Cond := u_ws RX7 TX7 5
theorem nmX7 : ∀ a, a < 5 → ∀ b, b < 5 → a ≠ b → (TX7 a).2.1 ≠ (TX7 b).2.1 := by decide +kernel
theorem tyX7_ok : ∀ k, k < 5 → parseFieldDescriptor (TX7 k).2.2.1 = some (tyX7 k) := by decide +kernel
abbrev cX7_init : ByteArray := prog_9_method_1_code
def yX7_init : MethodName := ⟨RX7, "<init>", "()V"⟩
abbrev cX7_isShelf : ByteArray := prog_9_method_2_code
def yX7_isShelf : MethodName := ⟨RX7, "isShelf", "(I)Z"⟩
abbrev cX7_isEmpty : ByteArray := prog_9_method_3_code
def yX7_isEmpty : MethodName := ⟨RX7, "isEmpty", "(I)Z"⟩
abbrev cX7_isRow : ByteArray := prog_9_method_4_code
def yX7_isRow : MethodName := ⟨RX7, "isRow", "(I)Z"⟩
abbrev cX7_holdsRow : ByteArray := prog_9_method_5_code
def yX7_holdsRow : MethodName := ⟨RX7, "holdsRow", "(II)Z"⟩
abbrev cX7_hasPlaces : ByteArray := prog_9_method_6_code
def yX7_hasPlaces : MethodName := ⟨RX7, "hasPlaces", "(III)Z"⟩
abbrev cX7_setRow : ByteArray := prog_9_method_8_code
def yX7_setRow : MethodName := ⟨RX7, "setRow", "(III)V"⟩
abbrev cX7_get : ByteArray := prog_9_method_9_code
def yX7_get : MethodName := ⟨RX7, "get", "(II)J"⟩
abbrev cX7_set : ByteArray := prog_9_method_10_code
def yX7_set : MethodName := ⟨RX7, "set", "(IIJ)V"⟩
abbrev cX7_lowestBits : ByteArray := prog_9_method_12_code
def yX7_lowestBits : MethodName := ⟨RX7, "lowestBits", "(IJ)J"⟩
def RX8 : String := "FameAhead$Tidings"
def TX8 : u_T := fun k => match k with
  | 0 => ("FameAhead$Tidings", "land", "LFameAhead$Land;", true)
  | 1 => ("FameAhead$Tidings", "ledger", "LFameAhead$Ledger;", true)
  | 2 => ("FameAhead$Tidings", "ruling", "LFameAhead$Law;", true)
  | 3 => ("FameAhead$Tidings", "worth", "[I", true)
  | 4 => ("FameAhead$Tidings", "voices", "[I", true)
  | 5 => ("FameAhead$Tidings", "others", "[I", true)
  | 6 => ("FameAhead$Tidings", "volumes", "[I", true)
  | 7 => ("FameAhead$Tidings", "chances", "[J", true)
  | 8 => ("FameAhead$Tidings", "arrest", "I", false)
  | _ => ("FameAhead$Tidings", "garble", "I", false)
def tyX8 : Nat → FieldType := fun k => match k with
  | 0 => .object "FameAhead$Land"
  | 1 => .object "FameAhead$Ledger"
  | 2 => .object "FameAhead$Law"
  | 3 => .array .int
  | 4 => .array .int
  | 5 => .array .int
  | 6 => .array .int
  | 7 => .array .long
  | 8 => .int
  | _ => .int
abbrev wsX80 : List Cond := u_ws RX8 TX8 10
theorem nmX8 : ∀ a, a < 10 → ∀ b, b < 10 → a ≠ b → (TX8 a).2.1 ≠ (TX8 b).2.1 := by decide +kernel
theorem tyX8_ok : ∀ k, k < 10 → parseFieldDescriptor (TX8 k).2.2.1 = some (tyX8 k) := by decide +kernel
abbrev cX8_init : ByteArray := prog_10_method_1_code
def yX8_init : MethodName := ⟨RX8, "<init>", "(LFameAhead$Land;LFameAhead$Ledger;LFameAhead$Law;)V"⟩
abbrev cX8_hourHeard : ByteArray := prog_10_method_2_code
def yX8_hourHeard : MethodName := ⟨RX8, "hourHeard", "(II)I"⟩
abbrev cX8_loudness : ByteArray := prog_10_method_3_code
def yX8_loudness : MethodName := ⟨RX8, "loudness", "(IIII)I"⟩
abbrev cX8_loudestOf : ByteArray := prog_10_method_4_code
def yX8_loudestOf : MethodName := ⟨RX8, "loudestOf", "(III)I"⟩
abbrev cX8_listen : ByteArray := prog_10_method_5_code
def yX8_listen : MethodName := ⟨RX8, "listen", "(IIII)V"⟩
abbrev cX8_weigh : ByteArray := prog_10_method_6_code
def yX8_weigh : MethodName := ⟨RX8, "weigh", "(III)I"⟩
abbrev cX8_listenToSet : ByteArray := prog_10_method_7_code
def yX8_listenToSet : MethodName := ⟨RX8, "listenToSet", "(I)V"⟩
abbrev cX8_raise : ByteArray := prog_10_method_8_code
def yX8_raise : MethodName := ⟨RX8, "raise", "(II)V"⟩
abbrev cX8_reception : ByteArray := prog_10_method_9_code
def yX8_reception : MethodName := ⟨RX8, "reception", "()I"⟩
abbrev cX8_isArrested : ByteArray := prog_10_method_10_code
def yX8_isArrested : MethodName := ⟨RX8, "isArrested", "()Z"⟩
abbrev cX8_arrestsAt : ByteArray := prog_10_method_11_code
def yX8_arrestsAt : MethodName := ⟨RX8, "arrestsAt", "(I)Z"⟩
abbrev cX8_marksSaid : ByteArray := prog_10_method_12_code
def yX8_marksSaid : MethodName := ⟨RX8, "marksSaid", "()I"⟩
abbrev cX8_loudestMark : ByteArray := prog_10_method_13_code
def yX8_loudestMark : MethodName := ⟨RX8, "loudestMark", "()I"⟩
abbrev cX8_marksAlike : ByteArray := prog_10_method_14_code
def yX8_marksAlike : MethodName := ⟨RX8, "marksAlike", "(IIII)I"⟩
abbrev cX8_chancesUnchanged : ByteArray := prog_10_method_15_code
def yX8_chancesUnchanged : MethodName := ⟨RX8, "chancesUnchanged", "(I)J"⟩
def RX9 : String := "FameAhead$Words"
def TX9 : u_T := fun k => match k with
  | 0 => ("FameAhead$Words", "kinds", "[I", true)
  | 1 => ("FameAhead$Words", "traced", "[I", true)
  | 2 => ("FameAhead$Words", "bodies", "I", false)
  | 3 => ("FameAhead$Words", "ran", "I", false)
  | 4 => ("FameAhead$Words", "word", "I", false)
  | _ => ("FameAhead$Words", "kind", "I", false)
def tyX9 : Nat → FieldType := fun k => match k with
  | 0 => .array .int
  | 1 => .array .int
  | 2 => .int
  | 3 => .int
  | 4 => .int
  | _ => .int
abbrev wsX90 : List Cond := u_ws RX9 TX9 6
theorem nmX9 : ∀ a, a < 6 → ∀ b, b < 6 → a ≠ b → (TX9 a).2.1 ≠ (TX9 b).2.1 := by decide +kernel
theorem tyX9_ok : ∀ k, k < 6 → parseFieldDescriptor (TX9 k).2.2.1 = some (tyX9 k) := by decide +kernel
abbrev cX9_init : ByteArray := prog_11_method_1_code
def yX9_init : MethodName := ⟨RX9, "<init>", "()V"⟩
abbrev cX9_isKind : ByteArray := prog_11_method_2_code
def yX9_isKind : MethodName := ⟨RX9, "isKind", "(I)Z"⟩
abbrev cX9_add : ByteArray := prog_11_method_4_code
def yX9_add : MethodName := ⟨RX9, "add", "(I)I"⟩
def RX10 : String := "FameAhead"
def TX10 : u_T := fun k => match k with
  | 0 => ("FameAhead", "land", "LFameAhead$Land;", true)
  | 1 => ("FameAhead", "ledger", "LFameAhead$Ledger;", true)
  | 2 => ("FameAhead", "ruling", "LFameAhead$Law;", true)
  | 3 => ("FameAhead", "reader", "LFameAhead$Reader;", true)
  | 4 => ("FameAhead", "tidings", "LFameAhead$Tidings;", true)
  | 5 => ("FameAhead", "seeker", "LFameAhead$Seeker;", true)
  | 6 => ("FameAhead", "changes", "LFameAhead$Changes;", true)
  | 7 => ("FameAhead", "journey", "LFameAhead$Journey;", true)
  | 8 => ("FameAhead", "words", "LFameAhead$Words;", true)
  | _ => ("FameAhead", "shelves", "LFameAhead$Shelves;", true)
def tyX10 : Nat → FieldType := fun k => match k with
  | 0 => .object "FameAhead$Land"
  | 1 => .object "FameAhead$Ledger"
  | 2 => .object "FameAhead$Law"
  | 3 => .object "FameAhead$Reader"
  | 4 => .object "FameAhead$Tidings"
  | 5 => .object "FameAhead$Seeker"
  | 6 => .object "FameAhead$Changes"
  | 7 => .object "FameAhead$Journey"
  | 8 => .object "FameAhead$Words"
  | _ => .object "FameAhead$Shelves"
abbrev wsX100 : List Cond := u_ws RX10 TX10 10
theorem nmX10 : ∀ a, a < 10 → ∀ b, b < 10 → a ≠ b → (TX10 a).2.1 ≠ (TX10 b).2.1 := by decide +kernel
theorem tyX10_ok : ∀ k, k < 10 → parseFieldDescriptor (TX10 k).2.2.1 = some (tyX10 k) := by decide +kernel
abbrev cX10_init : ByteArray := prog_1_method_1_code
def yX10_init : MethodName := ⟨RX10, "<init>", "()V"⟩
abbrev cX10_town : ByteArray := prog_1_method_2_code
def yX10_town : MethodName := ⟨RX10, "town", "(I)I"⟩
abbrev cX10_road : ByteArray := prog_1_method_3_code
def yX10_road : MethodName := ⟨RX10, "road", "(II)I"⟩
abbrev cX10_deed : ByteArray := prog_1_method_4_code
def yX10_deed : MethodName := ⟨RX10, "deed", "(III)I"⟩
abbrev cX10_mend : ByteArray := prog_1_method_6_code
def yX10_mend : MethodName := ⟨RX10, "mend", "(III)I"⟩
abbrev cX10_of : ByteArray := prog_1_method_7_code
def yX10_of : MethodName := ⟨RX10, "of", "(II)I"⟩
abbrev cX10_feed : ByteArray := prog_1_method_8_code
def yX10_feed : MethodName := ⟨RX10, "feed", "(I)I"⟩
abbrev cX10_law : ByteArray := prog_1_method_9_code
def yX10_law : MethodName := ⟨RX10, "law", "()I"⟩
abbrev cX10_way : ByteArray := prog_1_method_10_code
def yX10_way : MethodName := ⟨RX10, "way", "(II)I"⟩
abbrev cX10_heard : ByteArray := prog_1_method_11_code
def yX10_heard : MethodName := ⟨RX10, "heard", "(II)I"⟩
abbrev cX10_loud : ByteArray := prog_1_method_12_code
def yX10_loud : MethodName := ⟨RX10, "loud", "(II)I"⟩
abbrev cX10_said : ByteArray := prog_1_method_13_code
def yX10_said : MethodName := ⟨RX10, "said", "(II)I"⟩
abbrev cX10_received : ByteArray := prog_1_method_14_code
def yX10_received : MethodName := ⟨RX10, "received", "(III)I"⟩
abbrev cX10_atHour : ByteArray := prog_1_method_15_code
def yX10_atHour : MethodName := ⟨RX10, "atHour", "(III)I"⟩
abbrev cX10_home : ByteArray := prog_1_method_16_code
def yX10_home : MethodName := ⟨RX10, "home", "(III)I"⟩
abbrev cX10_route : ByteArray := prog_1_method_17_code
def yX10_route : MethodName := ⟨RX10, "route", "(III)I"⟩
abbrev cX10_cut : ByteArray := prog_1_method_20_code
def yX10_cut : MethodName := ⟨RX10, "cut", "(III)I"⟩
abbrev cX10_free : ByteArray := prog_1_method_21_code
def yX10_free : MethodName := ⟨RX10, "free", "(III)I"⟩
abbrev cX10_alike : ByteArray := prog_1_method_22_code
def yX10_alike : MethodName := ⟨RX10, "alike", "(III)I"⟩
abbrev cX10_judge : ByteArray := prog_1_method_23_code
def yX10_judge : MethodName := ⟨RX10, "judge", "(III)I"⟩
abbrev cX10_which : ByteArray := prog_1_method_24_code
def yX10_which : MethodName := ⟨RX10, "which", "(IIII)I"⟩
abbrev cX10_first : ByteArray := prog_1_method_25_code
def yX10_first : MethodName := ⟨RX10, "first", "(III)I"⟩
abbrev cX10_news : ByteArray := prog_1_method_26_code
def yX10_news : MethodName := ⟨RX10, "news", "(II)I"⟩
abbrev cX10_garbled : ByteArray := prog_1_method_27_code
def yX10_garbled : MethodName := ⟨RX10, "garbled", "(III)J"⟩
abbrev cX10_walk : ByteArray := prog_1_method_29_code
def yX10_walk : MethodName := ⟨RX10, "walk", "(II)I"⟩
abbrev cX10_does : ByteArray := prog_1_method_30_code
def yX10_does : MethodName := ⟨RX10, "does", "(II)I"⟩
abbrev cX10_led : ByteArray := prog_1_method_31_code
def yX10_led : MethodName := ⟨RX10, "led", "(I)I"⟩
abbrev cX10_image : ByteArray := prog_1_method_32_code
def yX10_image : MethodName := ⟨RX10, "image", "()I"⟩
abbrev cX10_back : ByteArray := prog_1_method_33_code
def yX10_back : MethodName := ⟨RX10, "back", "()I"⟩
abbrev cX10_undo : ByteArray := prog_1_method_34_code
def yX10_undo : MethodName := ⟨RX10, "undo", "()I"⟩
abbrev cX10_body : ByteArray := prog_1_method_36_code
def yX10_body : MethodName := ⟨RX10, "body", "(I)I"⟩
abbrev cX10_row : ByteArray := prog_1_method_40_code
def yX10_row : MethodName := ⟨RX10, "row", "(III)I"⟩
abbrev cX10_put : ByteArray := prog_1_method_41_code
def yX10_put : MethodName := ⟨RX10, "put", "(IIJ)I"⟩
abbrev cX10_count : ByteArray := prog_1_method_45_code
def yX10_count : MethodName := ⟨RX10, "count", "(I)I"⟩
abbrev cX10_isOne : ByteArray := prog_1_method_46_code
def yX10_isOne : MethodName := ⟨RX10, "isOne", "(I)Z"⟩
abbrev cX10_isHour : ByteArray := prog_1_method_47_code
def yX10_isHour : MethodName := ⟨RX10, "isHour", "(I)Z"⟩
abbrev cX10_isWeight : ByteArray := prog_1_method_48_code
def yX10_isWeight : MethodName := ⟨RX10, "isWeight", "(I)Z"⟩
abbrev cX10_isVolume : ByteArray := prog_1_method_49_code
def yX10_isVolume : MethodName := ⟨RX10, "isVolume", "(I)Z"⟩
abbrev cX10_isMarkOfOne : ByteArray := prog_1_method_50_code
def yX10_isMarkOfOne : MethodName := ⟨RX10, "isMarkOfOne", "(I)Z"⟩
abbrev cX10_isTownAndHour : ByteArray := prog_1_method_51_code
def yX10_isTownAndHour : MethodName := ⟨RX10, "isTownAndHour", "(I)Z"⟩
abbrev cX10_arePair : ByteArray := prog_1_method_52_code
def yX10_arePair : MethodName := ⟨RX10, "arePair", "(I)Z"⟩
abbrev cX10_isMendable : ByteArray := prog_1_method_53_code
def yX10_isMendable : MethodName := ⟨RX10, "isMendable", "(II)Z"⟩
abbrev cX10_numberOf : ByteArray := prog_1_method_54_code
def yX10_numberOf : MethodName := ⟨RX10, "numberOf", "(II)I"⟩
abbrev cX10_fixedNumberOf : ByteArray := prog_1_method_55_code
def yX10_fixedNumberOf : MethodName := ⟨RX10, "fixedNumberOf", "(II)I"⟩
abbrev cX10_assign : ByteArray := prog_1_method_56_code
def yX10_assign : MethodName := ⟨RX10, "assign", "(III)V"⟩
abbrev cX10_isUnsaid : ByteArray := prog_1_method_58_code
def yX10_isUnsaid : MethodName := ⟨RX10, "isUnsaid", "(III)Z"⟩
abbrev cX10_townsWhere : ByteArray := prog_1_method_59_code
def yX10_townsWhere : MethodName := ⟨RX10, "townsWhere", "(IIZ)I"⟩
abbrev cX10_bestTown : ByteArray := prog_1_method_60_code
def yX10_bestTown : MethodName := ⟨RX10, "bestTown", "(II)I"⟩
abbrev cX10_arrestsSomewhere : ByteArray := prog_1_method_61_code
def yX10_arrestsSomewhere : MethodName := ⟨RX10, "arrestsSomewhere", "(II)Z"⟩
abbrev cX10_mixed : ByteArray := prog_1_method_62_code
def yX10_mixed : MethodName := ⟨RX10, "mixed", "(IIII)I"⟩
abbrev cX10_refusalOfSeen : ByteArray := prog_1_method_63_code
def yX10_refusalOfSeen : MethodName := ⟨RX10, "refusalOfSeen", "(III)I"⟩
abbrev cX10_firstUnlike : ByteArray := prog_1_method_64_code
def yX10_firstUnlike : MethodName := ⟨RX10, "firstUnlike", "(I)I"⟩
abbrev cX10_isAsSeen : ByteArray := prog_1_method_65_code
def yX10_isAsSeen : MethodName := ⟨RX10, "isAsSeen", "(II)Z"⟩
abbrev cX10_commonDivisor : ByteArray := prog_1_method_66_code
def yX10_commonDivisor : MethodName := ⟨RX10, "commonDivisor", "(JJ)J"⟩
abbrev cX10_refusalOfPlace : ByteArray := prog_1_method_67_code
def yX10_refusalOfPlace : MethodName := ⟨RX10, "refusalOfPlace", "(II)I"⟩
def RX11 : String := "FameAheadModel"
def TX11 : u_T := fun k => match k with
  | _ => ("", "", "", false)
def tyX11 : Nat → FieldType := fun k => match k with
  | _ => .int
abbrev wsX110 : List Cond := u_ws RX11 TX11 0
theorem nmX11 : ∀ a, a < 0 → ∀ b, b < 0 → a ≠ b → (TX11 a).2.1 ≠ (TX11 b).2.1 := by decide +kernel
theorem tyX11_ok : ∀ k, k < 0 → parseFieldDescriptor (TX11 k).2.2.1 = some (tyX11 k) := by decide +kernel
def RJ5 : String := "java/lang/AbstractStringBuilder"
def TJ5 : u_T := fun k => match k with
  | _ => ("", "", "", false)
def tyJ5 : Nat → FieldType := fun k => match k with
  | _ => .int
abbrev wsJ50 : List Cond := u_ws RJ5 TJ5 0
theorem nmJ5 : ∀ a, a < 0 → ∀ b, b < 0 → a ≠ b → (TJ5 a).2.1 ≠ (TJ5 b).2.1 := by decide +kernel
theorem tyJ5_ok : ∀ k, k < 0 → parseFieldDescriptor (TJ5 k).2.2.1 = some (tyJ5 k) := by decide +kernel
abbrev cJ5_init_d00df : ByteArray := prog_14_method_2_code
def yJ5_init_d00df : MethodName := ⟨RJ5, "<init>", "(I)V"⟩
abbrev cJ5_length_8abf5 : ByteArray := prog_14_method_6_code
def yJ5_length_8abf5 : MethodName := ⟨RJ5, "length", "()I"⟩
abbrev cJ5_ensureCapacityInternal_d00df : ByteArray := prog_14_method_9_code
def yJ5_ensureCapacityInternal_d00df : MethodName := ⟨RJ5, "ensureCapacityInternal", "(I)V"⟩
abbrev cJ5_newCapacity_0f7a4 : ByteArray := prog_14_method_10_code
def yJ5_newCapacity_0f7a4 : MethodName := ⟨RJ5, "newCapacity", "(I)I"⟩
abbrev cJ5_inflate_da8c8 : ByteArray := prog_14_method_11_code
def yJ5_inflate_da8c8 : MethodName := ⟨RJ5, "inflate", "()V"⟩
abbrev cJ5_append_cf1ce : ByteArray := prog_14_method_22_code
def yJ5_append_cf1ce : MethodName := ⟨RJ5, "append", "(Ljava/lang/String;)Ljava/lang/AbstractStringBuilder;"⟩
abbrev cJ5_appendNull_278bc : ByteArray := prog_14_method_26_code
def yJ5_appendNull_278bc : MethodName := ⟨RJ5, "appendNull", "()Ljava/lang/AbstractStringBuilder;"⟩
abbrev cJ5_append_3fe6f : ByteArray := prog_14_method_31_code
def yJ5_append_3fe6f : MethodName := ⟨RJ5, "append", "(C)Ljava/lang/AbstractStringBuilder;"⟩
abbrev cJ5_append_c97b9 : ByteArray := prog_14_method_32_code
def yJ5_append_c97b9 : MethodName := ⟨RJ5, "append", "(I)Ljava/lang/AbstractStringBuilder;"⟩
abbrev cJ5_getValue_6d5f1 : ByteArray := prog_14_method_64_code
def yJ5_getValue_6d5f1 : MethodName := ⟨RJ5, "getValue", "()[B"⟩
abbrev cJ5_isLatin1_aae02 : ByteArray := prog_14_method_68_code
def yJ5_isLatin1_aae02 : MethodName := ⟨RJ5, "isLatin1", "()Z"⟩
abbrev cJ5_inflateIfNeededFor_a7421 : ByteArray := prog_14_method_71_code
def yJ5_inflateIfNeededFor_a7421 : MethodName := ⟨RJ5, "inflateIfNeededFor", "(Ljava/lang/String;)V"⟩
abbrev cJ5_putStringAt_47b60 : ByteArray := prog_14_method_73_code
def yJ5_putStringAt_47b60 : MethodName := ⟨RJ5, "putStringAt", "(ILjava/lang/String;)V"⟩
def RJ6 : String := "java/lang/Integer"
def TJ6 : u_T := fun k => match k with
  | _ => ("", "", "", false)
def tyJ6 : Nat → FieldType := fun k => match k with
  | _ => .int
abbrev wsJ60 : List Cond := u_ws RJ6 TJ6 0
theorem nmJ6 : ∀ a, a < 0 → ∀ b, b < 0 → a ≠ b → (TJ6 a).2.1 ≠ (TJ6 b).2.1 := by decide +kernel
theorem tyJ6_ok : ∀ k, k < 0 → parseFieldDescriptor (TJ6 k).2.2.1 = some (tyJ6 k) := by decide +kernel
abbrev cJ6_getChars_ba4f3 : ByteArray := prog_16_method_12_code
def yJ6_getChars_ba4f3 : MethodName := ⟨RJ6, "getChars", "(II[B)I"⟩
abbrev cJ6_stringSize_0f7a4 : ByteArray := prog_16_method_13_code
def yJ6_stringSize_0f7a4 : MethodName := ⟨RJ6, "stringSize", "(I)I"⟩
abbrev cJ6_bitCount_0f7a4 : ByteArray := prog_16_method_49_code
def yJ6_bitCount_0f7a4 : MethodName := ⟨RJ6, "bitCount", "(I)I"⟩
def RJ9 : String := "java/lang/Math"
def TJ9 : u_T := fun k => match k with
  | _ => ("", "", "", false)
def tyJ9 : Nat → FieldType := fun k => match k with
  | _ => .int
abbrev wsJ90 : List Cond := u_ws RJ9 TJ9 0
theorem nmJ9 : ∀ a, a < 0 → ∀ b, b < 0 → a ≠ b → (TJ9 a).2.1 ≠ (TJ9 b).2.1 := by decide +kernel
theorem tyJ9_ok : ∀ k, k < 0 → parseFieldDescriptor (TJ9 k).2.2.1 = some (tyJ9 k) := by decide +kernel
abbrev cJ9_max_7cf53 : ByteArray := prog_17_method_65_code
def yJ9_max_7cf53 : MethodName := ⟨RJ9, "max", "(II)I"⟩
abbrev cJ9_min_7cf53 : ByteArray := prog_17_method_69_code
def yJ9_min_7cf53 : MethodName := ⟨RJ9, "min", "(II)I"⟩
def RJ0 : String := "java/lang/String"
def TJ0 : u_T := fun k => match k with
  | 0 => ("java/lang/String", "value", "[B", true)
  | 1 => ("java/lang/String", "coder", "B", true)
  | 2 => ("java/lang/String", "hash", "I", false)
  | _ => ("java/lang/String", "hashIsZero", "Z", false)
def tyJ0 : Nat → FieldType := fun k => match k with
  | 0 => .array .byte
  | 1 => .byte
  | 2 => .int
  | _ => .boolean
abbrev wsJ00 : List Cond := u_ws RJ0 TJ0 4
theorem nmJ0 : ∀ a, a < 4 → ∀ b, b < 4 → a ≠ b → (TJ0 a).2.1 ≠ (TJ0 b).2.1 := by decide +kernel
theorem tyJ0_ok : ∀ k, k < 4 → parseFieldDescriptor (TJ0 k).2.2.1 = some (tyJ0 k) := by decide +kernel
abbrev cJ0_init_81219 : ByteArray := prog_19_method_53_code
def yJ0_init_81219 : MethodName := ⟨RJ0, "<init>", "(Ljava/lang/StringBuilder;)V"⟩
abbrev cJ0_length_8abf5 : ByteArray := prog_19_method_54_code
def yJ0_length_8abf5 : MethodName := ⟨RJ0, "length", "()I"⟩
abbrev cJ0_charAt_5068e : ByteArray := prog_19_method_56_code
def yJ0_charAt_5068e : MethodName := ⟨RJ0, "charAt", "(I)C"⟩
abbrev cJ0_getBytes_840e7 : ByteArray := prog_19_method_147_code
def yJ0_getBytes_840e7 : MethodName := ⟨RJ0, "getBytes", "([BIB)V"⟩
abbrev cJ0_init_db425 : ByteArray := prog_19_method_150_code
def yJ0_init_db425 : MethodName := ⟨RJ0, "<init>", "(Ljava/lang/AbstractStringBuilder;Ljava/lang/Void;)V"⟩
abbrev cJ0_coder_7d493 : ByteArray := prog_19_method_152_code
def yJ0_coder_7d493 : MethodName := ⟨RJ0, "coder", "()B"⟩
abbrev cJ0_isLatin1_aae02 : ByteArray := prog_19_method_154_code
def yJ0_isLatin1_aae02 : MethodName := ⟨RJ0, "isLatin1", "()Z"⟩
abbrev cJ0_checkIndex_df160 : ByteArray := prog_19_method_155_code
def yJ0_checkIndex_df160 : MethodName := ⟨RJ0, "checkIndex", "(II)V"⟩
abbrev cJ0_checkBoundsOffCount_cabcc : ByteArray := prog_19_method_157_code
def yJ0_checkBoundsOffCount_cabcc : MethodName := ⟨RJ0, "checkBoundsOffCount", "(III)I"⟩
abbrev cJ0_checkBoundsBeginEnd_23922 : ByteArray := prog_19_method_158_code
def yJ0_checkBoundsBeginEnd_23922 : MethodName := ⟨RJ0, "checkBoundsBeginEnd", "(III)V"⟩
def RJ4 : String := "java/lang/StringBuilder"
def TJ4 : u_T := fun k => match k with
  | 0 => ("java/lang/AbstractStringBuilder", "value", "[B", false)
  | 1 => ("java/lang/AbstractStringBuilder", "coder", "B", false)
  | 2 => ("java/lang/AbstractStringBuilder", "maybeLatin1", "Z", false)
  | _ => ("java/lang/AbstractStringBuilder", "count", "I", false)
def tyJ4 : Nat → FieldType := fun k => match k with
  | 0 => .array .byte
  | 1 => .byte
  | 2 => .boolean
  | _ => .int
abbrev wsJ40 : List Cond := u_ws RJ4 TJ4 4
theorem nmJ4 : ∀ a, a < 4 → ∀ b, b < 4 → a ≠ b → (TJ4 a).2.1 ≠ (TJ4 b).2.1 := by decide +kernel
theorem tyJ4_ok : ∀ k, k < 4 → parseFieldDescriptor (TJ4 k).2.2.1 = some (tyJ4 k) := by decide +kernel
abbrev cJ4_init_da8c8 : ByteArray := prog_20_method_1_code
def yJ4_init_da8c8 : MethodName := ⟨RJ4, "<init>", "()V"⟩
abbrev cJ4_append_15ec4 : ByteArray := prog_20_method_7_code
def yJ4_append_15ec4 : MethodName := ⟨RJ4, "append", "(Ljava/lang/String;)Ljava/lang/StringBuilder;"⟩
abbrev cJ4_append_cf468 : ByteArray := prog_20_method_14_code
def yJ4_append_cf468 : MethodName := ⟨RJ4, "append", "(C)Ljava/lang/StringBuilder;"⟩
abbrev cJ4_append_bf812 : ByteArray := prog_20_method_15_code
def yJ4_append_bf812 : MethodName := ⟨RJ4, "append", "(I)Ljava/lang/StringBuilder;"⟩
abbrev cJ4_toString_0e30d : ByteArray := prog_20_method_42_code
def yJ4_toString_0e30d : MethodName := ⟨RJ4, "toString", "()Ljava/lang/String;"⟩
abbrev cJ4_length_8abf5 : ByteArray := prog_20_method_93_code
def yJ4_length_8abf5 : MethodName := ⟨RJ4, "length", "()I"⟩
def RJ1 : String := "java/lang/StringLatin1"
def TJ1 : u_T := fun k => match k with
  | _ => ("", "", "", false)
def tyJ1 : Nat → FieldType := fun k => match k with
  | _ => .int
abbrev wsJ10 : List Cond := u_ws RJ1 TJ1 0
theorem nmJ1 : ∀ a, a < 0 → ∀ b, b < 0 → a ≠ b → (TJ1 a).2.1 ≠ (TJ1 b).2.1 := by decide +kernel
theorem tyJ1_ok : ∀ k, k < 0 → parseFieldDescriptor (TJ1 k).2.2.1 = some (tyJ1 k) := by decide +kernel
abbrev cJ1_charAt_3b067 : ByteArray := prog_21_method_2_code
def yJ1_charAt_3b067 : MethodName := ⟨RJ1, "charAt", "([BI)C"⟩
abbrev cJ1_canEncode_fc78d : ByteArray := prog_21_method_3_code
def yJ1_canEncode_fc78d : MethodName := ⟨RJ1, "canEncode", "(C)Z"⟩
abbrev cJ1_inflate_0e8fd : ByteArray := prog_21_method_50_code
def yJ1_inflate_0e8fd : MethodName := ⟨RJ1, "inflate", "([BI[BII)V"⟩
def RJ2 : String := "java/lang/StringUTF16"
def TJ2 : u_T := fun k => match k with
  | _ => ("", "", "", false)
def tyJ2 : Nat → FieldType := fun k => match k with
  | _ => .int
abbrev wsJ20 : List Cond := u_ws RJ2 TJ2 0
theorem nmJ2 : ∀ a, a < 0 → ∀ b, b < 0 → a ≠ b → (TJ2 a).2.1 ≠ (TJ2 b).2.1 := by decide +kernel
theorem tyJ2_ok : ∀ k, k < 0 → parseFieldDescriptor (TJ2 k).2.2.1 = some (tyJ2 k) := by decide +kernel
abbrev cJ2_newBytesFor_77867 : ByteArray := prog_22_method_2_code
def yJ2_newBytesFor_77867 : MethodName := ⟨RJ2, "newBytesFor", "(I)[B"⟩
abbrev cJ2_newBytesLength_0f7a4 : ByteArray := prog_22_method_3_code
def yJ2_newBytesLength_0f7a4 : MethodName := ⟨RJ2, "newBytesLength", "(I)I"⟩
abbrev cJ2_putChar_b72d1 : ByteArray := prog_22_method_4_code
def yJ2_putChar_b72d1 : MethodName := ⟨RJ2, "putChar", "([BII)V"⟩
abbrev cJ2_getChar_3b067 : ByteArray := prog_22_method_5_code
def yJ2_getChar_3b067 : MethodName := ⟨RJ2, "getChar", "([BI)C"⟩
abbrev cJ2_length_9d52b : ByteArray := prog_22_method_6_code
def yJ2_length_9d52b : MethodName := ⟨RJ2, "length", "([B)I"⟩
abbrev cJ2_coderFromArrayLen_85cad : ByteArray := prog_22_method_15_code
def yJ2_coderFromArrayLen_85cad : MethodName := ⟨RJ2, "coderFromArrayLen", "([BI)B"⟩
abbrev cJ2_compress_39247 : ByteArray := prog_22_method_17_code
def yJ2_compress_39247 : MethodName := ⟨RJ2, "compress", "([BII)[B"⟩
abbrev cJ2_compress_5af95 : ByteArray := prog_22_method_22_code
def yJ2_compress_5af95 : MethodName := ⟨RJ2, "compress", "([BI[BII)I"⟩
abbrev cJ2_putCharSB_b72d1 : ByteArray := prog_22_method_71_code
def yJ2_putCharSB_b72d1 : MethodName := ⟨RJ2, "putCharSB", "([BII)V"⟩
abbrev cJ2_getChars_46870 : ByteArray := prog_22_method_77_code
def yJ2_getChars_46870 : MethodName := ⟨RJ2, "getChars", "(III[B)I"⟩
abbrev cJ2_putCharsAt_cd4e5 : ByteArray := prog_22_method_81_code
def yJ2_putCharsAt_cd4e5 : MethodName := ⟨RJ2, "putCharsAt", "([BICCCC)I"⟩
abbrev cJ2_charAt_3b067 : ByteArray := prog_22_method_83_code
def yJ2_charAt_3b067 : MethodName := ⟨RJ2, "charAt", "([BI)C"⟩
abbrev cJ2_inflate_0e8fd : ByteArray := prog_22_method_86_code
def yJ2_inflate_0e8fd : MethodName := ⟨RJ2, "inflate", "([BI[BII)V"⟩
abbrev cJ2_getChars_ba4f3 : ByteArray := prog_22_method_89_code
def yJ2_getChars_ba4f3 : MethodName := ⟨RJ2, "getChars", "(II[B)I"⟩
abbrev cJ2_checkIndex_2214a : ByteArray := prog_22_method_91_code
def yJ2_checkIndex_2214a : MethodName := ⟨RJ2, "checkIndex", "(I[B)V"⟩
abbrev cJ2_checkBoundsBeginEnd_d044e : ByteArray := prog_22_method_93_code
def yJ2_checkBoundsBeginEnd_d044e : MethodName := ⟨RJ2, "checkBoundsBeginEnd", "(II[B)V"⟩
abbrev cJ2_checkBoundsOffCount_d044e : ByteArray := prog_22_method_94_code
def yJ2_checkBoundsOffCount_d044e : MethodName := ⟨RJ2, "checkBoundsOffCount", "(II[B)V"⟩
def RJ10 : String := "java/lang/System"
def TJ10 : u_T := fun k => match k with
  | _ => ("", "", "", false)
def tyJ10 : Nat → FieldType := fun k => match k with
  | _ => .int
abbrev wsJ100 : List Cond := u_ws RJ10 TJ10 0
theorem nmJ10 : ∀ a, a < 0 → ∀ b, b < 0 → a ≠ b → (TJ10 a).2.1 ≠ (TJ10 b).2.1 := by decide +kernel
theorem tyJ10_ok : ∀ k, k < 0 → parseFieldDescriptor (TJ10 k).2.2.1 = some (tyJ10 k) := by decide +kernel
def RJ7 : String := "java/util/Arrays"
def TJ7 : u_T := fun k => match k with
  | _ => ("", "", "", false)
def tyJ7 : Nat → FieldType := fun k => match k with
  | _ => .int
abbrev wsJ70 : List Cond := u_ws RJ7 TJ7 0
theorem nmJ7 : ∀ a, a < 0 → ∀ b, b < 0 → a ≠ b → (TJ7 a).2.1 ≠ (TJ7 b).2.1 := by decide +kernel
theorem tyJ7_ok : ∀ k, k < 0 → parseFieldDescriptor (TJ7 k).2.2.1 = some (tyJ7 k) := by decide +kernel
abbrev cJ7_rangeCheck_23922 : ByteArray := prog_24_method_30_code
def yJ7_rangeCheck_23922 : MethodName := ⟨RJ7, "rangeCheck", "(III)V"⟩
abbrev cJ7_fill_d0a16 : ByteArray := prog_24_method_101_code
def yJ7_fill_d0a16 : MethodName := ⟨RJ7, "fill", "([JJ)V"⟩
abbrev cJ7_fill_bad5a : ByteArray := prog_24_method_102_code
def yJ7_fill_bad5a : MethodName := ⟨RJ7, "fill", "([JIIJ)V"⟩
abbrev cJ7_fill_53178 : ByteArray := prog_24_method_103_code
def yJ7_fill_53178 : MethodName := ⟨RJ7, "fill", "([II)V"⟩
abbrev cJ7_copyOf_9075b : ByteArray := prog_24_method_121_code
def yJ7_copyOf_9075b : MethodName := ⟨RJ7, "copyOf", "([BI)[B"⟩
abbrev cJ7_checkLength_df160 : ByteArray := prog_24_method_131_code
def yJ7_checkLength_df160 : MethodName := ⟨RJ7, "checkLength", "(II)V"⟩
abbrev cJ7_copyOfRange_39247 : ByteArray := prog_24_method_132_code
def yJ7_copyOfRange_39247 : MethodName := ⟨RJ7, "copyOfRange", "([BII)[B"⟩
abbrev cJ7_copyOfRangeByte_39247 : ByteArray := prog_24_method_133_code
def yJ7_copyOfRangeByte_39247 : MethodName := ⟨RJ7, "copyOfRangeByte", "([BII)[B"⟩
def RJ8 : String := "jdk/internal/util/ArraysSupport"
def TJ8 : u_T := fun k => match k with
  | _ => ("", "", "", false)
def tyJ8 : Nat → FieldType := fun k => match k with
  | _ => .int
abbrev wsJ80 : List Cond := u_ws RJ8 TJ8 0
theorem nmJ8 : ∀ a, a < 0 → ∀ b, b < 0 → a ≠ b → (TJ8 a).2.1 ≠ (TJ8 b).2.1 := by decide +kernel
theorem tyJ8_ok : ∀ k, k < 0 → parseFieldDescriptor (TJ8 k).2.2.1 = some (tyJ8 k) := by decide +kernel
abbrev cJ8_newLength_cabcc : ByteArray := prog_25_method_27_code
def yJ8_newLength_cabcc : MethodName := ⟨RJ8, "newLength", "(III)I"⟩
abbrev cJ8_hugeLength_7cf53 : ByteArray := prog_25_method_28_code
def yJ8_hugeLength_7cf53 : MethodName := ⟨RJ8, "hugeLength", "(II)I"⟩
def RJ3 : String := "jdk/internal/util/Preconditions"
def TJ3 : u_T := fun k => match k with
  | _ => ("", "", "", false)
def tyJ3 : Nat → FieldType := fun k => match k with
  | _ => .int
abbrev wsJ30 : List Cond := u_ws RJ3 TJ3 0
theorem nmJ3 : ∀ a, a < 0 → ∀ b, b < 0 → a ≠ b → (TJ3 a).2.1 ≠ (TJ3 b).2.1 := by decide +kernel
theorem tyJ3_ok : ∀ k, k < 0 → parseFieldDescriptor (TJ3 k).2.2.1 = some (tyJ3 k) := by decide +kernel
abbrev cJ3_checkIndex_8e157 : ByteArray := prog_26_method_11_code
def yJ3_checkIndex_8e157 : MethodName := ⟨RJ3, "checkIndex", "(IILjava/util/function/BiFunction;)I"⟩
abbrev cJ3_checkFromToIndex_8c36e : ByteArray := prog_26_method_12_code
def yJ3_checkFromToIndex_8c36e : MethodName := ⟨RJ3, "checkFromToIndex", "(IIILjava/util/function/BiFunction;)I"⟩
abbrev cJ3_checkFromIndexSize_8c36e : ByteArray := prog_26_method_13_code
def yJ3_checkFromIndexSize_8c36e : MethodName := ⟨RJ3, "checkFromIndexSize", "(IIILjava/util/function/BiFunction;)I"⟩
def RL : String := "FameAheadLaw"
abbrev cL_at : ByteArray := method_2_code
def yL_at : MethodName := ⟨RL, "at", "([II)I"⟩
abbrev cL_some : ByteArray := method_3_code
def yL_some : MethodName := ⟨RL, "some", "(II)I"⟩
abbrev cL_one : ByteArray := method_4_code
def yL_one : MethodName := ⟨RL, "one", "(I)Ljava/lang/String;"⟩
abbrev cL_says : ByteArray := method_5_code
def yL_says : MethodName := ⟨RL, "says", "(II)Ljava/lang/String;"⟩
abbrev cL_text : ByteArray := method_6_code
def yL_text : MethodName := ⟨RL, "text", "([II)Ljava/lang/String;"⟩
abbrev cL_world : ByteArray := method_7_code
def yL_world : MethodName := ⟨RL, "world", "(LFameAhead;[I[ILjava/lang/String;)V"⟩
abbrev cL_told : ByteArray := method_8_code
def yL_told : MethodName := ⟨RL, "told", "(LFameAhead;)J"⟩
abbrev cL_law : ByteArray := code
def yL_law : MethodName := ⟨RL, "law", "([I)Z"⟩
abbrev vwCl : List vw_C := [(RJ0, TJ0, 4), (RJ4, TJ4, 4), (RX0, TX0, 6), (RX1, TX1, 9), (RX2, TX2, 9), (RX3, TX3, 5), (RX4, TX4, 6), (RX5, TX5, 5), (RX6, TX6, 8), (RX7, TX7, 5), (RX8, TX8, 10), (RX9, TX9, 6), (RX10, TX10, 10)]
end
section
/-! ===== instructions by their bytes ===== -/
def fd_b1 (c : ByteArray) (p : Nat) : Nat := if h : p < c.size then c[p].toNat else 256
theorem fd_u1 {c : ByteArray} {p b : Nat} (h : fd_b1 c p = b) (hb : b < 256) : (Jvm.ClassFile.Reader.u1 : Jvm.ClassFile.Decoder Nat) c p = .ok (b, p + 1) := by
  unfold fd_b1 at h
  by_cases hp : p < c.size
  · rw [dif_pos hp] at h
    subst h
    show (dite (p < c.size) _ _ : Jvm.ClassFile.Decoder Nat) c p = _
    rw [dif_pos hp]
    rfl
  · rw [dif_neg hp] at h
    exact absurd hb (by omega)
theorem fd_bnd {α β : Type} {m : Jvm.ClassFile.Decoder α} {f : α → Jvm.ClassFile.Decoder β} {c : ByteArray} {p q : Nat} {a : α} (h : m c p = .ok (a, q)) : (m >>= f) c p = f a c q := by
  show (m c p >>= fun x => f x.1 c x.2) = _
  rw [h]
  rfl
theorem fd_map {α β : Type} {m : Jvm.ClassFile.Decoder α} {f : α → β} {c : ByteArray} {p q : Nat} {a : α} (h : m c p = .ok (a, q)) : (f <$> m) c p = .ok (f a, q) := by
  show (Functor.map (fun x => (f x.1, x.2)) (m c p)) = _
  rw [h]
  rfl
theorem fd_dec1 {c : ByteArray} {pc b s n : Nat} {i : Instr} (h : fd_b1 c pc = b) (hb : b < 256) (F : Nat → Jvm.ClassFile.Decoder Instr) (hF : Jvm.ClassFile.Decoder.instr pc = (Jvm.ClassFile.Reader.u1 >>= F)) (hr : F b c (pc + 1) = .ok (i, s)) (hn : s = pc + n) : decode c pc = .ok (i, n) := by
  have e : Jvm.ClassFile.Decoder.instr pc c pc = .ok (i, s) := by
    rw [hF, fd_bnd (fd_u1 h hb)]
    exact hr
  show (Jvm.ClassFile.Decoder.instr pc c pc >>= fun x => pure (x.1, x.2 - pc)) = _
  rw [e, hn]
  show Except.ok (i, pc + n - pc) = _
  rw [Nat.add_sub_cancel_left]
def fd_w2 (b : Nat → Nat) (p : Nat) : Nat := if b p < 256 ∧ b (p + 1) < 256 then b p * 256 + b (p + 1) else 70000
theorem fd_u2 {c : ByteArray} {p b : Nat} (h : fd_w2 (fd_b1 c) p = b) (hb : b < 65536) : (Jvm.ClassFile.Reader.u2 : Jvm.ClassFile.Decoder Nat) c p = .ok (b, p + 2) := by
  unfold fd_w2 at h
  by_cases hp : fd_b1 c p < 256 ∧ fd_b1 c (p + 1) < 256
  · rw [if_pos hp] at h
    subst h
    exact (fd_bnd (m := Jvm.ClassFile.Reader.u1) (fd_u1 rfl hp.1)).trans ((fd_bnd (m := Jvm.ClassFile.Reader.u1) (fd_u1 rfl hp.2)).trans rfl)
  · rw [if_neg hp] at h
    exact absurd hb (by omega)
def fd_s1 (b : Nat → Nat) (p : Nat) : Int := Jvm.ClassFile.Reader.signed 8 (b p)
def fd_s2 (b : Nat → Nat) (p : Nat) : Int := Jvm.ClassFile.Reader.signed 16 (fd_w2 b p)
theorem fd_rs1 {c : ByteArray} {p : Nat} {x : Int} (h : fd_s1 (fd_b1 c) p = x) (hb : fd_b1 c p < 256) : (Jvm.ClassFile.Reader.s1 : Jvm.ClassFile.Decoder Int) c p = .ok (x, p + 1) := by
  rw [← h]
  exact fd_map (fd_u1 rfl hb)
theorem fd_rs2 {c : ByteArray} {p : Nat} {x : Int} (h : fd_s2 (fd_b1 c) p = x) (hb : fd_w2 (fd_b1 c) p < 65536) : (Jvm.ClassFile.Reader.s2 : Jvm.ClassFile.Decoder Int) c p = .ok (x, p + 2) := by
  rw [← h]
  exact fd_map (fd_u2 rfl hb)
def fd_o0 (b : Nat → Nat) (k len n : Nat) : Bool := Nat.beq (b 0) k && Nat.beq len n
def fd_o1 (b : Nat → Nat) (k len x : Nat) : Bool := Nat.beq (b 0) k && Nat.beq len 2 && Nat.beq (b 1) x && Nat.blt x 256
def fd_o2 (b : Nat → Nat) (k len x : Nat) : Bool := Nat.beq (b 0) k && Nat.beq len 3 && Nat.beq (fd_w2 b 1) x && Nat.blt x 65536
def fd_oS (b : Nat → Nat) (k len : Nat) (x : Int) : Bool := Nat.beq (b 0) k && Nat.beq len 2 && decide (fd_s1 b 1 = x) && Nat.blt (b 1) 256
def fd_oT (b : Nat → Nat) (k len : Nat) (x : Int) : Bool := Nat.beq (b 0) k && Nat.beq len 3 && decide (fd_s2 b 1 = x) && Nat.blt (fd_w2 b 1) 65536
def fd_oI (b : Nat → Nat) (len n : Nat) (x : Int) : Bool := Nat.beq (b 0) 132 && Nat.beq len 3 && Nat.beq (b 1) n && Nat.blt n 256 && decide (fd_s1 b 2 = x) && Nat.blt (b 2) 256
theorem fd_bq {a b : Nat} (h : Nat.beq a b = true) : a = b := Nat.eq_of_beq_eq_true h
theorem fd_bl {a b : Nat} (h : Nat.blt a b = true) : a < b := by simpa [Nat.blt_eq] using h
theorem fd_e0 {c : ByteArray} {pc k len n : Nat} {i : Instr} (h : fd_o0 (fun z => fd_b1 c (pc + z)) k len n = true) (hk : k < 256) (F : Nat → Jvm.ClassFile.Decoder Instr) (hF : Jvm.ClassFile.Decoder.instr pc = (Jvm.ClassFile.Reader.u1 >>= F)) (hn : n = 1) (hr : F k = (Pure.pure i : Jvm.ClassFile.Decoder Instr)) : decode c pc = .ok (i, len) := by
  unfold fd_o0 at h
  rw [Bool.and_eq_true] at h
  rw [fd_bq h.2]
  exact fd_dec1 (fd_bq h.1) hk F hF (by rw [hr]; rfl) (by rw [hn])
theorem fd_e1 {c : ByteArray} {pc k len x : Nat} {i : Nat → Instr} (h : fd_o1 (fun z => fd_b1 c (pc + z)) k len x = true) (hk : k < 256) (F : Nat → Jvm.ClassFile.Decoder Instr) (hF : Jvm.ClassFile.Decoder.instr pc = (Jvm.ClassFile.Reader.u1 >>= F)) (hr : F k = (Jvm.ClassFile.Reader.u1 >>= fun z => pure (i z))) : decode c pc = .ok (i x, len) := by
  unfold fd_o1 at h
  simp only [Bool.and_eq_true] at h
  rw [fd_bq h.1.1.2]
  exact fd_dec1 (fd_bq h.1.1.1) hk F hF (by rw [hr, fd_bnd (fd_u1 (fd_bq h.1.2) (fd_bl h.2))]; rfl) rfl
theorem fd_e2 {c : ByteArray} {pc k len x : Nat} {i : Nat → Instr} (h : fd_o2 (fun z => fd_b1 c (pc + z)) k len x = true) (hk : k < 256) (F : Nat → Jvm.ClassFile.Decoder Instr) (hF : Jvm.ClassFile.Decoder.instr pc = (Jvm.ClassFile.Reader.u1 >>= F)) (hr : F k = (Jvm.ClassFile.Reader.u2 >>= fun z => pure (i z))) : decode c pc = .ok (i x, len) := by
  unfold fd_o2 at h
  simp only [Bool.and_eq_true] at h
  rw [fd_bq h.1.1.2]
  exact fd_dec1 (fd_bq h.1.1.1) hk F hF (by rw [hr, fd_bnd (fd_u2 (fd_bq h.1.2) (fd_bl h.2))]; rfl) rfl
theorem fd_eS {c : ByteArray} {pc k len : Nat} {x : Int} {i : Int → Instr} (h : fd_oS (fun z => fd_b1 c (pc + z)) k len x = true) (hk : k < 256) (F : Nat → Jvm.ClassFile.Decoder Instr) (hF : Jvm.ClassFile.Decoder.instr pc = (Jvm.ClassFile.Reader.u1 >>= F)) (hr : F k = (Jvm.ClassFile.Reader.s1 >>= fun z => pure (i z))) : decode c pc = .ok (i x, len) := by
  unfold fd_oS at h
  simp only [Bool.and_eq_true] at h
  rw [fd_bq h.1.1.2]
  exact fd_dec1 (fd_bq h.1.1.1) hk F hF (by rw [hr, fd_bnd (fd_rs1 (of_decide_eq_true h.1.2) (fd_bl h.2))]; rfl) rfl
theorem fd_eT {c : ByteArray} {pc k len : Nat} {x : Int} {i : Int → Instr} (h : fd_oT (fun z => fd_b1 c (pc + z)) k len x = true) (hk : k < 256) (F : Nat → Jvm.ClassFile.Decoder Instr) (hF : Jvm.ClassFile.Decoder.instr pc = (Jvm.ClassFile.Reader.u1 >>= F)) (hr : F k = (Jvm.ClassFile.Reader.s2 >>= fun z => pure (i z))) : decode c pc = .ok (i x, len) := by
  unfold fd_oT at h
  simp only [Bool.and_eq_true] at h
  rw [fd_bq h.1.1.2]
  exact fd_dec1 (fd_bq h.1.1.1) hk F hF (by rw [hr, fd_bnd (fd_rs2 (of_decide_eq_true h.1.2) (fd_bl h.2))]; rfl) rfl
theorem fd_eI {c : ByteArray} {pc len n : Nat} {x : Int} (h : fd_oI (fun z => fd_b1 c (pc + z)) len n x = true) (F : Nat → Jvm.ClassFile.Decoder Instr) (hF : Jvm.ClassFile.Decoder.instr pc = (Jvm.ClassFile.Reader.u1 >>= F)) (hr : F 132 = (Jvm.ClassFile.Reader.u1 >>= fun z => Jvm.ClassFile.Reader.s1 >>= fun y => pure (.iinc z y))) : decode c pc = .ok (.iinc n x, len) := by
  unfold fd_oI at h
  simp only [Bool.and_eq_true] at h
  rw [fd_bq h.1.1.1.1.2]
  exact fd_dec1 (fd_bq h.1.1.1.1.1) (by decide) F hF (by rw [hr, fd_bnd (fd_u1 (fd_bq h.1.1.1.2) (fd_bl h.1.1.2)), fd_bnd (fd_rs1 (of_decide_eq_true h.1.2) (fd_bl h.2))]; rfl) rfl
def fd_dq (c : ByteArray) (pc : Nat) (b : Nat → Nat) (ins : Instr) (len : Nat) : Bool := match ins with
  | .aload_n n => fd_o0 b (42 + n.val) len 1
  | .iload_n n => fd_o0 b (26 + n.val) len 1
  | .lload_n n => fd_o0 b (30 + n.val) len 1
  | .istore_n n => fd_o0 b (59 + n.val) len 1
  | .lstore_n n => fd_o0 b (63 + n.val) len 1
  | .astore_n n => fd_o0 b (75 + n.val) len 1
  | .lconst n => fd_o0 b (9 + n.val) len 1
  | .arraylength => fd_o0 b 190 len 1
  | .athrow => fd_o0 b 191 len 1
  | .dup => fd_o0 b 89 len 1
  | .dup2 => fd_o0 b 92 len 1
  | .dup_x1 => fd_o0 b 90 len 1
  | .i2b => fd_o0 b 145 len 1
  | .i2l => fd_o0 b 133 len 1
  | .i2s => fd_o0 b 147 len 1
  | .iadd => fd_o0 b 96 len 1
  | .iaload => fd_o0 b 46 len 1
  | .iand => fd_o0 b 126 len 1
  | .iastore => fd_o0 b 79 len 1
  | .idiv => fd_o0 b 108 len 1
  | .imul => fd_o0 b 104 len 1
  | .ineg => fd_o0 b 116 len 1
  | .ior => fd_o0 b 128 len 1
  | .irem => fd_o0 b 112 len 1
  | .ireturn => fd_o0 b 172 len 1
  | .ishl => fd_o0 b 120 len 1
  | .ishr => fd_o0 b 122 len 1
  | .isub => fd_o0 b 100 len 1
  | .iushr => fd_o0 b 124 len 1
  | .ixor => fd_o0 b 130 len 1
  | .l2i => fd_o0 b 136 len 1
  | .ladd => fd_o0 b 97 len 1
  | .laload => fd_o0 b 47 len 1
  | .land => fd_o0 b 127 len 1
  | .lastore => fd_o0 b 80 len 1
  | .lcmp => fd_o0 b 148 len 1
  | .ldiv => fd_o0 b 109 len 1
  | .lmul => fd_o0 b 105 len 1
  | .lor => fd_o0 b 129 len 1
  | .lrem => fd_o0 b 113 len 1
  | .lreturn => fd_o0 b 173 len 1
  | .lshl => fd_o0 b 121 len 1
  | .pop => fd_o0 b 87 len 1
  | .pop2 => fd_o0 b 88 len 1
  | .return_ => fd_o0 b 177 len 1
  | .iload x => fd_o1 b 21 len x
  | .istore x => fd_o1 b 54 len x
  | .lload x => fd_o1 b 22 len x
  | .lstore x => fd_o1 b 55 len x
  | .ldc x => fd_o1 b 18 len x
  | .getfield x => fd_o2 b 180 len x
  | .putfield x => fd_o2 b 181 len x
  | .getstatic x => fd_o2 b 178 len x
  | .invokespecial x => fd_o2 b 183 len x
  | .invokestatic x => fd_o2 b 184 len x
  | .invokevirtual x => fd_o2 b 182 len x
  | .ldc_w x => fd_o2 b 19 len x
  | .ldc2_w x => fd_o2 b 20 len x
  | .new x => fd_o2 b 187 len x
  | .bipush x => fd_oS b 16 len x
  | .sipush x => fd_oT b 17 len x
  | .goto x => fd_oT b 167 len x
  | .iinc n x => fd_oI b len n x
  | .ifCond .eq x => fd_oT b 153 len x
  | .if_icmp .eq x => fd_oT b 159 len x
  | .ifCond .ne x => fd_oT b 154 len x
  | .if_icmp .ne x => fd_oT b 160 len x
  | .ifCond .lt x => fd_oT b 155 len x
  | .if_icmp .lt x => fd_oT b 161 len x
  | .ifCond .ge x => fd_oT b 156 len x
  | .if_icmp .ge x => fd_oT b 162 len x
  | .ifCond .gt x => fd_oT b 157 len x
  | .if_icmp .gt x => fd_oT b 163 len x
  | .ifCond .le x => fd_oT b 158 len x
  | .if_icmp .le x => fd_oT b 164 len x
  | ins => decide (decode c pc = .ok (ins, len))
theorem fd_dq_0 {c : ByteArray} {pc len : Nat} {n : Fin 4} (h : fd_o0 (fun z => fd_b1 c (pc + z)) (42 + n.val) len 1 = true) : decode c pc = .ok (.aload_n n, len) := by
  match n, h with
    | ⟨0, _⟩, h => exact fd_e0 (k := 42) h (by decide) _ rfl rfl rfl
    | ⟨1, _⟩, h => exact fd_e0 (k := 43) h (by decide) _ rfl rfl rfl
    | ⟨2, _⟩, h => exact fd_e0 (k := 44) h (by decide) _ rfl rfl rfl
    | ⟨3, _⟩, h => exact fd_e0 (k := 45) h (by decide) _ rfl rfl rfl
theorem fd_dq_1 {c : ByteArray} {pc len : Nat} {n : Fin 4} (h : fd_o0 (fun z => fd_b1 c (pc + z)) (26 + n.val) len 1 = true) : decode c pc = .ok (.iload_n n, len) := by
  match n, h with
    | ⟨0, _⟩, h => exact fd_e0 (k := 26) h (by decide) _ rfl rfl rfl
    | ⟨1, _⟩, h => exact fd_e0 (k := 27) h (by decide) _ rfl rfl rfl
    | ⟨2, _⟩, h => exact fd_e0 (k := 28) h (by decide) _ rfl rfl rfl
    | ⟨3, _⟩, h => exact fd_e0 (k := 29) h (by decide) _ rfl rfl rfl
theorem fd_dq_2 {c : ByteArray} {pc len : Nat} {n : Fin 4} (h : fd_o0 (fun z => fd_b1 c (pc + z)) (30 + n.val) len 1 = true) : decode c pc = .ok (.lload_n n, len) := by
  match n, h with
    | ⟨0, _⟩, h => exact fd_e0 (k := 30) h (by decide) _ rfl rfl rfl
    | ⟨1, _⟩, h => exact fd_e0 (k := 31) h (by decide) _ rfl rfl rfl
    | ⟨2, _⟩, h => exact fd_e0 (k := 32) h (by decide) _ rfl rfl rfl
    | ⟨3, _⟩, h => exact fd_e0 (k := 33) h (by decide) _ rfl rfl rfl
theorem fd_dq_3 {c : ByteArray} {pc len : Nat} {n : Fin 4} (h : fd_o0 (fun z => fd_b1 c (pc + z)) (59 + n.val) len 1 = true) : decode c pc = .ok (.istore_n n, len) := by
  match n, h with
    | ⟨0, _⟩, h => exact fd_e0 (k := 59) h (by decide) _ rfl rfl rfl
    | ⟨1, _⟩, h => exact fd_e0 (k := 60) h (by decide) _ rfl rfl rfl
    | ⟨2, _⟩, h => exact fd_e0 (k := 61) h (by decide) _ rfl rfl rfl
    | ⟨3, _⟩, h => exact fd_e0 (k := 62) h (by decide) _ rfl rfl rfl
theorem fd_dq_4 {c : ByteArray} {pc len : Nat} {n : Fin 4} (h : fd_o0 (fun z => fd_b1 c (pc + z)) (63 + n.val) len 1 = true) : decode c pc = .ok (.lstore_n n, len) := by
  match n, h with
    | ⟨0, _⟩, h => exact fd_e0 (k := 63) h (by decide) _ rfl rfl rfl
    | ⟨1, _⟩, h => exact fd_e0 (k := 64) h (by decide) _ rfl rfl rfl
    | ⟨2, _⟩, h => exact fd_e0 (k := 65) h (by decide) _ rfl rfl rfl
    | ⟨3, _⟩, h => exact fd_e0 (k := 66) h (by decide) _ rfl rfl rfl
theorem fd_dq_5 {c : ByteArray} {pc len : Nat} {n : Fin 4} (h : fd_o0 (fun z => fd_b1 c (pc + z)) (75 + n.val) len 1 = true) : decode c pc = .ok (.astore_n n, len) := by
  match n, h with
    | ⟨0, _⟩, h => exact fd_e0 (k := 75) h (by decide) _ rfl rfl rfl
    | ⟨1, _⟩, h => exact fd_e0 (k := 76) h (by decide) _ rfl rfl rfl
    | ⟨2, _⟩, h => exact fd_e0 (k := 77) h (by decide) _ rfl rfl rfl
    | ⟨3, _⟩, h => exact fd_e0 (k := 78) h (by decide) _ rfl rfl rfl
theorem fd_dq_6 {c : ByteArray} {pc len : Nat} {n : Fin 2} (h : fd_o0 (fun z => fd_b1 c (pc + z)) (9 + n.val) len 1 = true) : decode c pc = .ok (.lconst n, len) := by
  match n, h with
    | ⟨0, _⟩, h => exact fd_e0 (k := 9) h (by decide) _ rfl rfl rfl
    | ⟨1, _⟩, h => exact fd_e0 (k := 10) h (by decide) _ rfl rfl rfl
theorem fd_dq_7 {c : ByteArray} {pc len : Nat} (h : fd_o0 (fun z => fd_b1 c (pc + z)) 190 len 1 = true) : decode c pc = .ok (.arraylength, len) := by
  exact fd_e0 h (by decide) _ rfl rfl rfl
theorem fd_dq_8 {c : ByteArray} {pc len : Nat} (h : fd_o0 (fun z => fd_b1 c (pc + z)) 191 len 1 = true) : decode c pc = .ok (.athrow, len) := by
  exact fd_e0 h (by decide) _ rfl rfl rfl
theorem fd_dq_9 {c : ByteArray} {pc len : Nat} (h : fd_o0 (fun z => fd_b1 c (pc + z)) 89 len 1 = true) : decode c pc = .ok (.dup, len) := by
  exact fd_e0 h (by decide) _ rfl rfl rfl
theorem fd_dq_10 {c : ByteArray} {pc len : Nat} (h : fd_o0 (fun z => fd_b1 c (pc + z)) 92 len 1 = true) : decode c pc = .ok (.dup2, len) := by
  exact fd_e0 h (by decide) _ rfl rfl rfl
theorem fd_dq_11 {c : ByteArray} {pc len : Nat} (h : fd_o0 (fun z => fd_b1 c (pc + z)) 90 len 1 = true) : decode c pc = .ok (.dup_x1, len) := by
  exact fd_e0 h (by decide) _ rfl rfl rfl
theorem fd_dq_12 {c : ByteArray} {pc len : Nat} (h : fd_o0 (fun z => fd_b1 c (pc + z)) 145 len 1 = true) : decode c pc = .ok (.i2b, len) := by
  exact fd_e0 h (by decide) _ rfl rfl rfl
theorem fd_dq_13 {c : ByteArray} {pc len : Nat} (h : fd_o0 (fun z => fd_b1 c (pc + z)) 133 len 1 = true) : decode c pc = .ok (.i2l, len) := by
  exact fd_e0 h (by decide) _ rfl rfl rfl
theorem fd_dq_14 {c : ByteArray} {pc len : Nat} (h : fd_o0 (fun z => fd_b1 c (pc + z)) 147 len 1 = true) : decode c pc = .ok (.i2s, len) := by
  exact fd_e0 h (by decide) _ rfl rfl rfl
theorem fd_dq_15 {c : ByteArray} {pc len : Nat} (h : fd_o0 (fun z => fd_b1 c (pc + z)) 96 len 1 = true) : decode c pc = .ok (.iadd, len) := by
  exact fd_e0 h (by decide) _ rfl rfl rfl
theorem fd_dq_16 {c : ByteArray} {pc len : Nat} (h : fd_o0 (fun z => fd_b1 c (pc + z)) 46 len 1 = true) : decode c pc = .ok (.iaload, len) := by
  exact fd_e0 h (by decide) _ rfl rfl rfl
theorem fd_dq_17 {c : ByteArray} {pc len : Nat} (h : fd_o0 (fun z => fd_b1 c (pc + z)) 126 len 1 = true) : decode c pc = .ok (.iand, len) := by
  exact fd_e0 h (by decide) _ rfl rfl rfl
theorem fd_dq_18 {c : ByteArray} {pc len : Nat} (h : fd_o0 (fun z => fd_b1 c (pc + z)) 79 len 1 = true) : decode c pc = .ok (.iastore, len) := by
  exact fd_e0 h (by decide) _ rfl rfl rfl
theorem fd_dq_19 {c : ByteArray} {pc len : Nat} (h : fd_o0 (fun z => fd_b1 c (pc + z)) 108 len 1 = true) : decode c pc = .ok (.idiv, len) := by
  exact fd_e0 h (by decide) _ rfl rfl rfl
theorem fd_dq_20 {c : ByteArray} {pc len : Nat} (h : fd_o0 (fun z => fd_b1 c (pc + z)) 104 len 1 = true) : decode c pc = .ok (.imul, len) := by
  exact fd_e0 h (by decide) _ rfl rfl rfl
theorem fd_dq_21 {c : ByteArray} {pc len : Nat} (h : fd_o0 (fun z => fd_b1 c (pc + z)) 116 len 1 = true) : decode c pc = .ok (.ineg, len) := by
  exact fd_e0 h (by decide) _ rfl rfl rfl
theorem fd_dq_22 {c : ByteArray} {pc len : Nat} (h : fd_o0 (fun z => fd_b1 c (pc + z)) 128 len 1 = true) : decode c pc = .ok (.ior, len) := by
  exact fd_e0 h (by decide) _ rfl rfl rfl
theorem fd_dq_23 {c : ByteArray} {pc len : Nat} (h : fd_o0 (fun z => fd_b1 c (pc + z)) 112 len 1 = true) : decode c pc = .ok (.irem, len) := by
  exact fd_e0 h (by decide) _ rfl rfl rfl
theorem fd_dq_24 {c : ByteArray} {pc len : Nat} (h : fd_o0 (fun z => fd_b1 c (pc + z)) 172 len 1 = true) : decode c pc = .ok (.ireturn, len) := by
  exact fd_e0 h (by decide) _ rfl rfl rfl
theorem fd_dq_25 {c : ByteArray} {pc len : Nat} (h : fd_o0 (fun z => fd_b1 c (pc + z)) 120 len 1 = true) : decode c pc = .ok (.ishl, len) := by
  exact fd_e0 h (by decide) _ rfl rfl rfl
theorem fd_dq_26 {c : ByteArray} {pc len : Nat} (h : fd_o0 (fun z => fd_b1 c (pc + z)) 122 len 1 = true) : decode c pc = .ok (.ishr, len) := by
  exact fd_e0 h (by decide) _ rfl rfl rfl
theorem fd_dq_27 {c : ByteArray} {pc len : Nat} (h : fd_o0 (fun z => fd_b1 c (pc + z)) 100 len 1 = true) : decode c pc = .ok (.isub, len) := by
  exact fd_e0 h (by decide) _ rfl rfl rfl
theorem fd_dq_28 {c : ByteArray} {pc len : Nat} (h : fd_o0 (fun z => fd_b1 c (pc + z)) 124 len 1 = true) : decode c pc = .ok (.iushr, len) := by
  exact fd_e0 h (by decide) _ rfl rfl rfl
theorem fd_dq_29 {c : ByteArray} {pc len : Nat} (h : fd_o0 (fun z => fd_b1 c (pc + z)) 130 len 1 = true) : decode c pc = .ok (.ixor, len) := by
  exact fd_e0 h (by decide) _ rfl rfl rfl
theorem fd_dq_30 {c : ByteArray} {pc len : Nat} (h : fd_o0 (fun z => fd_b1 c (pc + z)) 136 len 1 = true) : decode c pc = .ok (.l2i, len) := by
  exact fd_e0 h (by decide) _ rfl rfl rfl
theorem fd_dq_31 {c : ByteArray} {pc len : Nat} (h : fd_o0 (fun z => fd_b1 c (pc + z)) 97 len 1 = true) : decode c pc = .ok (.ladd, len) := by
  exact fd_e0 h (by decide) _ rfl rfl rfl
theorem fd_dq_32 {c : ByteArray} {pc len : Nat} (h : fd_o0 (fun z => fd_b1 c (pc + z)) 47 len 1 = true) : decode c pc = .ok (.laload, len) := by
  exact fd_e0 h (by decide) _ rfl rfl rfl
theorem fd_dq_33 {c : ByteArray} {pc len : Nat} (h : fd_o0 (fun z => fd_b1 c (pc + z)) 127 len 1 = true) : decode c pc = .ok (.land, len) := by
  exact fd_e0 h (by decide) _ rfl rfl rfl
theorem fd_dq_34 {c : ByteArray} {pc len : Nat} (h : fd_o0 (fun z => fd_b1 c (pc + z)) 80 len 1 = true) : decode c pc = .ok (.lastore, len) := by
  exact fd_e0 h (by decide) _ rfl rfl rfl
theorem fd_dq_35 {c : ByteArray} {pc len : Nat} (h : fd_o0 (fun z => fd_b1 c (pc + z)) 148 len 1 = true) : decode c pc = .ok (.lcmp, len) := by
  exact fd_e0 h (by decide) _ rfl rfl rfl
theorem fd_dq_36 {c : ByteArray} {pc len : Nat} (h : fd_o0 (fun z => fd_b1 c (pc + z)) 109 len 1 = true) : decode c pc = .ok (.ldiv, len) := by
  exact fd_e0 h (by decide) _ rfl rfl rfl
theorem fd_dq_37 {c : ByteArray} {pc len : Nat} (h : fd_o0 (fun z => fd_b1 c (pc + z)) 105 len 1 = true) : decode c pc = .ok (.lmul, len) := by
  exact fd_e0 h (by decide) _ rfl rfl rfl
theorem fd_dq_38 {c : ByteArray} {pc len : Nat} (h : fd_o0 (fun z => fd_b1 c (pc + z)) 129 len 1 = true) : decode c pc = .ok (.lor, len) := by
  exact fd_e0 h (by decide) _ rfl rfl rfl
theorem fd_dq_39 {c : ByteArray} {pc len : Nat} (h : fd_o0 (fun z => fd_b1 c (pc + z)) 113 len 1 = true) : decode c pc = .ok (.lrem, len) := by
  exact fd_e0 h (by decide) _ rfl rfl rfl
theorem fd_dq_40 {c : ByteArray} {pc len : Nat} (h : fd_o0 (fun z => fd_b1 c (pc + z)) 173 len 1 = true) : decode c pc = .ok (.lreturn, len) := by
  exact fd_e0 h (by decide) _ rfl rfl rfl
theorem fd_dq_41 {c : ByteArray} {pc len : Nat} (h : fd_o0 (fun z => fd_b1 c (pc + z)) 121 len 1 = true) : decode c pc = .ok (.lshl, len) := by
  exact fd_e0 h (by decide) _ rfl rfl rfl
theorem fd_dq_42 {c : ByteArray} {pc len : Nat} (h : fd_o0 (fun z => fd_b1 c (pc + z)) 87 len 1 = true) : decode c pc = .ok (.pop, len) := by
  exact fd_e0 h (by decide) _ rfl rfl rfl
theorem fd_dq_43 {c : ByteArray} {pc len : Nat} (h : fd_o0 (fun z => fd_b1 c (pc + z)) 88 len 1 = true) : decode c pc = .ok (.pop2, len) := by
  exact fd_e0 h (by decide) _ rfl rfl rfl
theorem fd_dq_44 {c : ByteArray} {pc len : Nat} (h : fd_o0 (fun z => fd_b1 c (pc + z)) 177 len 1 = true) : decode c pc = .ok (.return_, len) := by
  exact fd_e0 h (by decide) _ rfl rfl rfl
theorem fd_dq_45 {c : ByteArray} {pc len : Nat} {x : Nat} (h : fd_o1 (fun z => fd_b1 c (pc + z)) 21 len x = true) : decode c pc = .ok (.iload x, len) := by
  exact fd_e1 (i := fun z => .iload z) h (by decide) _ rfl rfl
theorem fd_dq_46 {c : ByteArray} {pc len : Nat} {x : Nat} (h : fd_o1 (fun z => fd_b1 c (pc + z)) 54 len x = true) : decode c pc = .ok (.istore x, len) := by
  exact fd_e1 (i := fun z => .istore z) h (by decide) _ rfl rfl
theorem fd_dq_47 {c : ByteArray} {pc len : Nat} {x : Nat} (h : fd_o1 (fun z => fd_b1 c (pc + z)) 22 len x = true) : decode c pc = .ok (.lload x, len) := by
  exact fd_e1 (i := fun z => .lload z) h (by decide) _ rfl rfl
theorem fd_dq_48 {c : ByteArray} {pc len : Nat} {x : Nat} (h : fd_o1 (fun z => fd_b1 c (pc + z)) 55 len x = true) : decode c pc = .ok (.lstore x, len) := by
  exact fd_e1 (i := fun z => .lstore z) h (by decide) _ rfl rfl
theorem fd_dq_49 {c : ByteArray} {pc len : Nat} {x : Nat} (h : fd_o1 (fun z => fd_b1 c (pc + z)) 18 len x = true) : decode c pc = .ok (.ldc x, len) := by
  exact fd_e1 (i := fun z => .ldc z) h (by decide) _ rfl rfl
theorem fd_dq_50 {c : ByteArray} {pc len : Nat} {x : Nat} (h : fd_o2 (fun z => fd_b1 c (pc + z)) 180 len x = true) : decode c pc = .ok (.getfield x, len) := by
  exact fd_e2 (i := fun z => .getfield z) h (by decide) _ rfl rfl
theorem fd_dq_51 {c : ByteArray} {pc len : Nat} {x : Nat} (h : fd_o2 (fun z => fd_b1 c (pc + z)) 181 len x = true) : decode c pc = .ok (.putfield x, len) := by
  exact fd_e2 (i := fun z => .putfield z) h (by decide) _ rfl rfl
theorem fd_dq_52 {c : ByteArray} {pc len : Nat} {x : Nat} (h : fd_o2 (fun z => fd_b1 c (pc + z)) 178 len x = true) : decode c pc = .ok (.getstatic x, len) := by
  exact fd_e2 (i := fun z => .getstatic z) h (by decide) _ rfl rfl
theorem fd_dq_53 {c : ByteArray} {pc len : Nat} {x : Nat} (h : fd_o2 (fun z => fd_b1 c (pc + z)) 183 len x = true) : decode c pc = .ok (.invokespecial x, len) := by
  exact fd_e2 (i := fun z => .invokespecial z) h (by decide) _ rfl rfl
theorem fd_dq_54 {c : ByteArray} {pc len : Nat} {x : Nat} (h : fd_o2 (fun z => fd_b1 c (pc + z)) 184 len x = true) : decode c pc = .ok (.invokestatic x, len) := by
  exact fd_e2 (i := fun z => .invokestatic z) h (by decide) _ rfl rfl
theorem fd_dq_55 {c : ByteArray} {pc len : Nat} {x : Nat} (h : fd_o2 (fun z => fd_b1 c (pc + z)) 182 len x = true) : decode c pc = .ok (.invokevirtual x, len) := by
  exact fd_e2 (i := fun z => .invokevirtual z) h (by decide) _ rfl rfl
theorem fd_dq_56 {c : ByteArray} {pc len : Nat} {x : Nat} (h : fd_o2 (fun z => fd_b1 c (pc + z)) 19 len x = true) : decode c pc = .ok (.ldc_w x, len) := by
  exact fd_e2 (i := fun z => .ldc_w z) h (by decide) _ rfl rfl
theorem fd_dq_57 {c : ByteArray} {pc len : Nat} {x : Nat} (h : fd_o2 (fun z => fd_b1 c (pc + z)) 20 len x = true) : decode c pc = .ok (.ldc2_w x, len) := by
  exact fd_e2 (i := fun z => .ldc2_w z) h (by decide) _ rfl rfl
theorem fd_dq_58 {c : ByteArray} {pc len : Nat} {x : Nat} (h : fd_o2 (fun z => fd_b1 c (pc + z)) 187 len x = true) : decode c pc = .ok (.new x, len) := by
  exact fd_e2 (i := fun z => .new z) h (by decide) _ rfl rfl
theorem fd_dq_59 {c : ByteArray} {pc len : Nat} {x : Int} (h : fd_oS (fun z => fd_b1 c (pc + z)) 16 len x = true) : decode c pc = .ok (.bipush x, len) := by
  exact fd_eS (i := fun z => .bipush z) h (by decide) _ rfl rfl
theorem fd_dq_60 {c : ByteArray} {pc len : Nat} {x : Int} (h : fd_oT (fun z => fd_b1 c (pc + z)) 17 len x = true) : decode c pc = .ok (.sipush x, len) := by
  exact fd_eT (i := fun z => .sipush z) h (by decide) _ rfl rfl
theorem fd_dq_61 {c : ByteArray} {pc len : Nat} {x : Int} (h : fd_oT (fun z => fd_b1 c (pc + z)) 167 len x = true) : decode c pc = .ok (.goto x, len) := by
  exact fd_eT (i := fun z => .goto z) h (by decide) _ rfl rfl
theorem fd_dq_62 {c : ByteArray} {pc len : Nat} {n : Nat} {x : Int} (h : fd_oI (fun z => fd_b1 c (pc + z)) len n x = true) : decode c pc = .ok (.iinc n x, len) := by
  exact fd_eI h _ rfl rfl
theorem fd_dq_63 {c : ByteArray} {pc len : Nat} {x : Int} (h : fd_oT (fun z => fd_b1 c (pc + z)) 153 len x = true) : decode c pc = .ok (.ifCond .eq x, len) := by
  exact fd_eT (i := fun z => .ifCond .eq z) h (by decide) _ rfl rfl
theorem fd_dq_64 {c : ByteArray} {pc len : Nat} {x : Int} (h : fd_oT (fun z => fd_b1 c (pc + z)) 159 len x = true) : decode c pc = .ok (.if_icmp .eq x, len) := by
  exact fd_eT (i := fun z => .if_icmp .eq z) h (by decide) _ rfl rfl
theorem fd_dq_65 {c : ByteArray} {pc len : Nat} {x : Int} (h : fd_oT (fun z => fd_b1 c (pc + z)) 154 len x = true) : decode c pc = .ok (.ifCond .ne x, len) := by
  exact fd_eT (i := fun z => .ifCond .ne z) h (by decide) _ rfl rfl
theorem fd_dq_66 {c : ByteArray} {pc len : Nat} {x : Int} (h : fd_oT (fun z => fd_b1 c (pc + z)) 160 len x = true) : decode c pc = .ok (.if_icmp .ne x, len) := by
  exact fd_eT (i := fun z => .if_icmp .ne z) h (by decide) _ rfl rfl
theorem fd_dq_67 {c : ByteArray} {pc len : Nat} {x : Int} (h : fd_oT (fun z => fd_b1 c (pc + z)) 155 len x = true) : decode c pc = .ok (.ifCond .lt x, len) := by
  exact fd_eT (i := fun z => .ifCond .lt z) h (by decide) _ rfl rfl
theorem fd_dq_68 {c : ByteArray} {pc len : Nat} {x : Int} (h : fd_oT (fun z => fd_b1 c (pc + z)) 161 len x = true) : decode c pc = .ok (.if_icmp .lt x, len) := by
  exact fd_eT (i := fun z => .if_icmp .lt z) h (by decide) _ rfl rfl
theorem fd_dq_69 {c : ByteArray} {pc len : Nat} {x : Int} (h : fd_oT (fun z => fd_b1 c (pc + z)) 156 len x = true) : decode c pc = .ok (.ifCond .ge x, len) := by
  exact fd_eT (i := fun z => .ifCond .ge z) h (by decide) _ rfl rfl
theorem fd_dq_70 {c : ByteArray} {pc len : Nat} {x : Int} (h : fd_oT (fun z => fd_b1 c (pc + z)) 162 len x = true) : decode c pc = .ok (.if_icmp .ge x, len) := by
  exact fd_eT (i := fun z => .if_icmp .ge z) h (by decide) _ rfl rfl
theorem fd_dq_71 {c : ByteArray} {pc len : Nat} {x : Int} (h : fd_oT (fun z => fd_b1 c (pc + z)) 157 len x = true) : decode c pc = .ok (.ifCond .gt x, len) := by
  exact fd_eT (i := fun z => .ifCond .gt z) h (by decide) _ rfl rfl
theorem fd_dq_72 {c : ByteArray} {pc len : Nat} {x : Int} (h : fd_oT (fun z => fd_b1 c (pc + z)) 163 len x = true) : decode c pc = .ok (.if_icmp .gt x, len) := by
  exact fd_eT (i := fun z => .if_icmp .gt z) h (by decide) _ rfl rfl
theorem fd_dq_73 {c : ByteArray} {pc len : Nat} {x : Int} (h : fd_oT (fun z => fd_b1 c (pc + z)) 158 len x = true) : decode c pc = .ok (.ifCond .le x, len) := by
  exact fd_eT (i := fun z => .ifCond .le z) h (by decide) _ rfl rfl
theorem fd_dq_74 {c : ByteArray} {pc len : Nat} {x : Int} (h : fd_oT (fun z => fd_b1 c (pc + z)) 164 len x = true) : decode c pc = .ok (.if_icmp .le x, len) := by
  exact fd_eT (i := fun z => .if_icmp .le z) h (by decide) _ rfl rfl
theorem fd_dq_ok {c : ByteArray} {pc : Nat} {b : Nat → Nat} {ins : Instr} {len : Nat} (hb : ∀ z, b z = fd_b1 c (pc + z)) (h : fd_dq c pc b ins len = true) : decode c pc = .ok (ins, len) := by
  obtain rfl : b = (fun z => fd_b1 c (pc + z)) := funext hb
  unfold fd_dq at h
  split at h
  · exact fd_dq_0 h
  · exact fd_dq_1 h
  · exact fd_dq_2 h
  · exact fd_dq_3 h
  · exact fd_dq_4 h
  · exact fd_dq_5 h
  · exact fd_dq_6 h
  · exact fd_dq_7 h
  · exact fd_dq_8 h
  · exact fd_dq_9 h
  · exact fd_dq_10 h
  · exact fd_dq_11 h
  · exact fd_dq_12 h
  · exact fd_dq_13 h
  · exact fd_dq_14 h
  · exact fd_dq_15 h
  · exact fd_dq_16 h
  · exact fd_dq_17 h
  · exact fd_dq_18 h
  · exact fd_dq_19 h
  · exact fd_dq_20 h
  · exact fd_dq_21 h
  · exact fd_dq_22 h
  · exact fd_dq_23 h
  · exact fd_dq_24 h
  · exact fd_dq_25 h
  · exact fd_dq_26 h
  · exact fd_dq_27 h
  · exact fd_dq_28 h
  · exact fd_dq_29 h
  · exact fd_dq_30 h
  · exact fd_dq_31 h
  · exact fd_dq_32 h
  · exact fd_dq_33 h
  · exact fd_dq_34 h
  · exact fd_dq_35 h
  · exact fd_dq_36 h
  · exact fd_dq_37 h
  · exact fd_dq_38 h
  · exact fd_dq_39 h
  · exact fd_dq_40 h
  · exact fd_dq_41 h
  · exact fd_dq_42 h
  · exact fd_dq_43 h
  · exact fd_dq_44 h
  · exact fd_dq_45 h
  · exact fd_dq_46 h
  · exact fd_dq_47 h
  · exact fd_dq_48 h
  · exact fd_dq_49 h
  · exact fd_dq_50 h
  · exact fd_dq_51 h
  · exact fd_dq_52 h
  · exact fd_dq_53 h
  · exact fd_dq_54 h
  · exact fd_dq_55 h
  · exact fd_dq_56 h
  · exact fd_dq_57 h
  · exact fd_dq_58 h
  · exact fd_dq_59 h
  · exact fd_dq_60 h
  · exact fd_dq_61 h
  · exact fd_dq_62 h
  · exact fd_dq_63 h
  · exact fd_dq_64 h
  · exact fd_dq_65 h
  · exact fd_dq_66 h
  · exact fd_dq_67 h
  · exact fd_dq_68 h
  · exact fd_dq_69 h
  · exact fd_dq_70 h
  · exact fd_dq_71 h
  · exact fd_dq_72 h
  · exact fd_dq_73 h
  · exact fd_dq_74 h
  · exact of_decide_eq_true h
def fd_n (c : ByteArray) : List Nat := c.data.toList.map UInt8.toNat
def fd_nth : List Nat → Nat → Nat
  | [], _ => 256
  | a :: _, 0 => a
  | _ :: l, k + 1 => fd_nth l k
theorem fd_nth_eq : ∀ (l : List Nat) (k : Nat), fd_nth l k = (l[k]?).getD 256
  | [], k => by simp [fd_nth]
  | a :: l, 0 => by simp [fd_nth]
  | a :: l, k + 1 => by simp [fd_nth, fd_nth_eq l k]
theorem fd_n_b1 (c : ByteArray) (p : Nat) : fd_nth (fd_n c) p = fd_b1 c p := by
  rw [fd_nth_eq]
  unfold fd_n fd_b1
  rw [List.getElem?_map]
  by_cases h : p < c.size
  · have h2 : p < c.data.toList.length := h
    rw [dif_pos h, List.getElem?_eq_getElem h2]
    rfl
  · have h2 : ¬ p < c.data.toList.length := h
    rw [dif_neg h, List.getElem?_eq_none (by omega)]
    rfl
def fd_drop : List Nat → Nat → List Nat
  | l, 0 => l
  | [], _ => []
  | _ :: l, k + 1 => fd_drop l k
theorem fd_drop_nth : ∀ (k : Nat) (l : List Nat) (z : Nat), fd_nth (fd_drop l k) z = fd_nth l (k + z)
  | 0, l, z => by
    rw [Nat.zero_add]
    cases l <;> rfl
  | k + 1, [], z => by
    rw [show k + 1 + z = (k + z) + 1 by omega]
    rfl
  | k + 1, a :: l, z => by
    rw [show k + 1 + z = (k + z) + 1 by omega]
    exact fd_drop_nth k l z
abbrev fd_I : Type := Nat × Instr × Nat × Nat × Nat × Nat
def fd_wk (c : ByteArray) : List Nat → Nat → List fd_I → Bool
  | _, _, [] => true
  | l, p, q :: r => Nat.ble p q.1 && (fd_dq c q.1 (fd_nth (fd_drop l (q.1 - p))) q.2.1 q.2.2.1 && fd_wk c (fd_drop l (q.1 - p)) q.1 r)
theorem fd_wk_ok {c : ByteArray} : ∀ (r : List fd_I) (l : List Nat) (p : Nat), (∀ z, fd_nth l z = fd_b1 c (p + z)) → fd_wk c l p r = true → ∀ q ∈ r, decode c q.1 = .ok (q.2.1, q.2.2.1)
  | [], _, _, _, _, q, hq => by cases hq
  | a :: r, l, p, hl, h, q, hq => by
    unfold fd_wk at h
    simp only [Bool.and_eq_true] at h
    have hp : p ≤ a.1 := Nat.le_of_ble_eq_true h.1
    have hl2 : ∀ z, fd_nth (fd_drop l (a.1 - p)) z = fd_b1 c (a.1 + z) := fun z => by
      rw [fd_drop_nth, hl]
      congr 1
      omega
    rcases List.mem_cons.mp hq with e | e
    · rw [e]
      exact fd_dq_ok hl2 h.2.1
    · exact fd_wk_ok r _ _ hl2 h.2.2 q e
end
section
/-! ===== numbers ===== -/
def fz_w (z : Int) : Int := Int.bmod z 4294967296
def fz_wl (z : Int) : Int := Int.bmod z 18446744073709551616
theorem fz_w_b (x : Int) : -2147483648 ≤ fz_w x ∧ fz_w x < 2147483648 := by
  have h1 := Int.le_bmod (x := x) (m := 4294967296) (by decide)
  have h2 := Int.bmod_lt (x := x) (m := 4294967296) (by decide)
  unfold fz_w
  omega
theorem fz_wl_b (x : Int) : -9223372036854775808 ≤ fz_wl x ∧ fz_wl x < 9223372036854775808 := by
  have h1 := Int.le_bmod (x := x) (m := 18446744073709551616) (by decide)
  have h2 := Int.bmod_lt (x := x) (m := 18446744073709551616) (by decide)
  unfold fz_wl
  omega
theorem fz_w_id {x : Int} (h1 : -2147483648 ≤ x) (h2 : x < 2147483648) : fz_w x = x := Int.bmod_eq_of_le (by omega) (by omega)
theorem fz_wl_id {x : Int} (h1 : -9223372036854775808 ≤ x) (h2 : x < 9223372036854775808) : fz_wl x = x := Int.bmod_eq_of_le (by omega) (by omega)
theorem fz_td {x y : Int} (h : 0 ≤ x) : Int.tdiv x y = x / y := Int.tdiv_eq_ediv_of_nonneg h
theorem fz_tm {x y : Int} (h : 0 ≤ x) : Int.tmod x y = x % y := Int.tmod_eq_emod_of_nonneg h
theorem fz_t32 {x : Int} (h : -2147483648 ≤ x ∧ x < 2147483648) : (Int32.ofInt x).toInt = x := Int32.toInt_ofInt_of_le h.1 h.2
theorem fz_t64 {x : Int} (h : -9223372036854775808 ≤ x ∧ x < 9223372036854775808) : (Int64.ofInt x).toInt = x := Int64.toInt_ofInt_of_le h.1 h.2
theorem fz_o32 (x : Int) : Int32.ofInt (fz_w x) = Int32.ofInt x := by
  apply Int32.toInt_inj.mp
  simp [fz_w, Int32.toInt_ofInt]
theorem fz_o64 (x : Int) : Int64.ofInt (fz_wl x) = Int64.ofInt x := by
  apply Int64.toInt_inj.mp
  simp [fz_wl, Int64.toInt_ofInt]
theorem fz_e_add (x y : Int) : Int32.ofInt x + Int32.ofInt y = Int32.ofInt (fz_w (x + y)) := by
  apply Int32.toInt_inj.mp
  simp [fz_w, Int32.toInt_add, Int32.toInt_ofInt]
theorem fz_e_sub (x y : Int) : Int32.ofInt x - Int32.ofInt y = Int32.ofInt (fz_w (x - y)) := by
  apply Int32.toInt_inj.mp
  simp [fz_w, Int32.toInt_sub, Int32.toInt_ofInt]
theorem fz_e_mul (x y : Int) : Int32.ofInt x * Int32.ofInt y = Int32.ofInt (fz_w (x * y)) := by
  apply Int32.toInt_inj.mp
  simp [fz_w, Int32.toInt_mul, Int32.toInt_ofInt]
theorem fz_e_neg (x : Int) : - Int32.ofInt x = Int32.ofInt (fz_w (- x)) := by
  apply Int32.toInt_inj.mp
  simp [fz_w, Int32.toInt_neg, Int32.toInt_ofInt]
theorem fz_e_addl (x y : Int) : Int64.ofInt x + Int64.ofInt y = Int64.ofInt (fz_wl (x + y)) := by
  apply Int64.toInt_inj.mp
  simp [fz_wl, Int64.toInt_add, Int64.toInt_ofInt]
theorem fz_e_mull (x y : Int) : Int64.ofInt x * Int64.ofInt y = Int64.ofInt (fz_wl (x * y)) := by
  apply Int64.toInt_inj.mp
  simp [fz_wl, Int64.toInt_mul, Int64.toInt_ofInt]
theorem fz_e_div {x y : Int} (hx : -2147483648 ≤ x ∧ x < 2147483648) (hy : -2147483648 ≤ y ∧ y < 2147483648) : Int32.ofInt x / Int32.ofInt y = Int32.ofInt (fz_w (Int.tdiv x y)) := by
  apply Int32.toInt_inj.mp
  rw [Int32.toInt_div, fz_t32 hx, fz_t32 hy, fz_t32 (fz_w_b _)]
  rfl
theorem fz_e_divl {x y : Int} (hx : -9223372036854775808 ≤ x ∧ x < 9223372036854775808) (hy : -9223372036854775808 ≤ y ∧ y < 9223372036854775808) : Int64.ofInt x / Int64.ofInt y = Int64.ofInt (fz_wl (Int.tdiv x y)) := by
  apply Int64.toInt_inj.mp
  rw [Int64.toInt_div, fz_t64 hx, fz_t64 hy, fz_t64 (fz_wl_b _)]
  rfl
theorem fz_e_rem {x y : Int} (hx : -2147483648 ≤ x ∧ x < 2147483648) (hy : -2147483648 ≤ y ∧ y < 2147483648) : Int32.ofInt x - Int32.ofInt x / Int32.ofInt y * Int32.ofInt y = Int32.ofInt (fz_w (Int.tmod x y)) := by
  have e1 : Int32.ofInt (fz_w (Int.tdiv x y)) * Int32.ofInt y = Int32.ofInt (fz_w (Int.tdiv x y * y)) := by
    rw [fz_o32, fz_e_mul]
  rw [fz_e_div hx hy, e1, fz_e_sub, fz_o32, fz_o32]
  apply Int32.toInt_inj.mp
  simp only [fz_w, Int32.toInt_ofInt]
  rw [Int.tmod_def, Int.mul_comm y]
  rw [Int.sub_bmod_bmod]
theorem fz_e_reml {x y : Int} (hx : -9223372036854775808 ≤ x ∧ x < 9223372036854775808) (hy : -9223372036854775808 ≤ y ∧ y < 9223372036854775808) : Int64.ofInt x - Int64.ofInt x / Int64.ofInt y * Int64.ofInt y = Int64.ofInt (fz_wl (Int.tmod x y)) := by
  have e1 : Int64.ofInt (fz_wl (Int.tdiv x y)) * Int64.ofInt y = Int64.ofInt (fz_wl (Int.tdiv x y * y)) := by
    rw [fz_o64, fz_e_mull]
  have e2 : ∀ u v : Int, Int64.ofInt u - Int64.ofInt v = Int64.ofInt (fz_wl (u - v)) := fun u v => by
    apply Int64.toInt_inj.mp
    simp [fz_wl, Int64.toInt_sub, Int64.toInt_ofInt]
  rw [fz_e_divl hx hy, e1, e2, fz_o64, fz_o64]
  apply Int64.toInt_inj.mp
  simp only [fz_wl, Int64.toInt_ofInt]
  rw [Int.tmod_def, Int.mul_comm y]
  rw [Int.sub_bmod_bmod]
theorem fz_lt {x y : Int} (hx : -2147483648 ≤ x ∧ x < 2147483648) (hy : -2147483648 ≤ y ∧ y < 2147483648) : Int32.ofInt x < Int32.ofInt y ↔ x < y := by
  rw [Int32.lt_iff_toInt_lt, fz_t32 hx, fz_t32 hy]
theorem fz_le {x y : Int} (hx : -2147483648 ≤ x ∧ x < 2147483648) (hy : -2147483648 ≤ y ∧ y < 2147483648) : Int32.ofInt x ≤ Int32.ofInt y ↔ x ≤ y := by
  rw [Int32.le_iff_toInt_le, fz_t32 hx, fz_t32 hy]
theorem fz_eq {x y : Int} (hx : -2147483648 ≤ x ∧ x < 2147483648) (hy : -2147483648 ≤ y ∧ y < 2147483648) : Int32.ofInt x = Int32.ofInt y ↔ x = y := by
  rw [← Int32.toInt_inj, fz_t32 hx, fz_t32 hy]
theorem fz_ltl {x y : Int} (hx : -9223372036854775808 ≤ x ∧ x < 9223372036854775808) (hy : -9223372036854775808 ≤ y ∧ y < 9223372036854775808) : Int64.ofInt x < Int64.ofInt y ↔ x < y := by
  rw [Int64.lt_iff_toInt_lt, fz_t64 hx, fz_t64 hy]
theorem fz_eql {x y : Int} (hx : -9223372036854775808 ≤ x ∧ x < 9223372036854775808) (hy : -9223372036854775808 ≤ y ∧ y < 9223372036854775808) : Int64.ofInt x = Int64.ofInt y ↔ x = y := by
  rw [← Int64.toInt_inj, fz_t64 hx, fz_t64 hy]
theorem fz_ix {x : Int} (h : 0 ≤ x) (h2 : x < 2147483648) : (Int32.ofInt x).toNatClampNeg = x.toNat := by
  show (Int32.ofInt x).toInt.toNat = _
  rw [fz_t32 ⟨by omega, h2⟩]
theorem fz_in {x : Int} {n : Nat} (h : 0 ≤ x) (h2 : x < n) (h3 : x < 2147483648) : vp_in (Int32.ofInt x) n := by
  rw [vp_in_iff, fz_t32 ⟨by omega, h3⟩]
  exact ⟨h, h2⟩
/-- bits -/
def fz_and (x y : Int) : Int := (Int32.ofInt x &&& Int32.ofInt y).toInt
def fz_or (x y : Int) : Int := (Int32.ofInt x ||| Int32.ofInt y).toInt
def fz_xor (x y : Int) : Int := (Int32.ofInt x ^^^ Int32.ofInt y).toInt
def fz_shl (x y : Int) : Int := (Int32.ofInt x <<< (Int32.ofInt y &&& 31)).toInt
def fz_shr (x y : Int) : Int := (Int32.ofInt x >>> (Int32.ofInt y &&& 31)).toInt
def fz_ush (x y : Int) : Int := ((Int32.ofInt x).toUInt32 >>> ((Int32.ofInt y).toUInt32 &&& Int32.toUInt32 31)).toInt32.toInt
def fz_andl (x y : Int) : Int := (Int64.ofInt x &&& Int64.ofInt y).toInt
def fz_orl (x y : Int) : Int := (Int64.ofInt x ||| Int64.ofInt y).toInt
def fz_shll (x y : Int) : Int := (Int64.ofInt x <<< ((Int32.ofInt y).toInt64 &&& 63)).toInt
theorem fz_b32 (v : Int32) : -2147483648 ≤ v.toInt ∧ v.toInt < 2147483648 := ⟨by have := Int32.le_toInt v; omega, by have := Int32.toInt_lt v; omega⟩
theorem fz_b64 (v : Int64) : -9223372036854775808 ≤ v.toInt ∧ v.toInt < 9223372036854775808 := ⟨by have := Int64.le_toInt v; omega, by have := Int64.toInt_lt v; omega⟩
theorem fz_r32 (v : Int32) : Int32.ofInt v.toInt = v := Int32.ofInt_toInt v
theorem fz_r64 (v : Int64) : Int64.ofInt v.toInt = v := Int64.ofInt_toInt v
theorem fz_e_i2l {x : Int} (hx : -2147483648 ≤ x ∧ x < 2147483648) : (Int32.ofInt x).toInt64 = Int64.ofInt x := by
  apply Int64.toInt_inj.mp
  rw [Int32.toInt_toInt64, fz_t32 hx, fz_t64 ⟨by omega, by omega⟩]
theorem fz_e_l2i (x : Int) : (Int64.ofInt x).toInt32 = Int32.ofInt (fz_w x) := by
  apply Int32.toInt_inj.mp
  rw [Int64.toInt_toInt32, Int64.toInt_ofInt, fz_o32, Int32.toInt_ofInt]
  show (x.bmod 18446744073709551616).bmod 4294967296 = x.bmod 4294967296
  exact Int.bmod_bmod_of_dvd (by decide)
def fz_i2b (x : Int) : Int := Int.bmod x 256
def fz_i2s (x : Int) : Int := Int.bmod x 65536
theorem fz_e_i2b (x : Int) : (Int32.ofInt x).toInt8.toInt32 = Int32.ofInt (fz_i2b x) := by
  apply Int32.toInt_inj.mp
  rw [fz_t32 (x := fz_i2b x) (by have := Int.le_bmod (x := x) (m := 256) (by decide); have := Int.bmod_lt (x := x) (m := 256) (by decide); unfold fz_i2b; omega)]
  simp [fz_i2b, Int32.toInt_ofInt]
theorem fz_e_i2s (x : Int) : (Int32.ofInt x).toInt16.toInt32 = Int32.ofInt (fz_i2s x) := by
  apply Int32.toInt_inj.mp
  rw [fz_t32 (x := fz_i2s x) (by have := Int.le_bmod (x := x) (m := 65536) (by decide); have := Int.bmod_lt (x := x) (m := 65536) (by decide); unfold fz_i2s; omega)]
  simp [fz_i2s, Int32.toInt_ofInt]
theorem fz_i2b_b (x : Int) : -128 ≤ fz_i2b x ∧ fz_i2b x < 128 := by
  have h1 := Int.le_bmod (x := x) (m := 256) (by decide)
  have h2 := Int.bmod_lt (x := x) (m := 256) (by decide)
  unfold fz_i2b
  omega
theorem fz_i2s_b (x : Int) : -32768 ≤ fz_i2s x ∧ fz_i2s x < 32768 := by
  have h1 := Int.le_bmod (x := x) (m := 65536) (by decide)
  have h2 := Int.bmod_lt (x := x) (m := 65536) (by decide)
  unfold fz_i2s
  omega
def fz_cmp (x y : Int) : Int := if y < x then 1 else if x = y then 0 else -1
theorem fz_e_cmp {x y : Int} (hx : -9223372036854775808 ≤ x ∧ x < 9223372036854775808) (hy : -9223372036854775808 ≤ y ∧ y < 9223372036854775808) : lg_cmp (Int64.ofInt x) (Int64.ofInt y) = Int32.ofInt (fz_cmp x y) := by
  unfold lg_cmp fz_cmp
  simp only [fz_ltl hy hx, fz_eql hx hy]
  split
  · rfl
  · split <;> rfl
/-- which private method a StringBuilder selects -/
def st_pm : List (String × String) := [("ensureCapacityInternal", "(I)V"), ("newCapacity", "(I)I"), ("putStringAt", "(ILjava/lang/String;)V"), ("inflateIfNeededFor", "(Ljava/lang/String;)V")]
def st_sels : List Cond := st_pm.map (fun q => Cond.selects "java/lang/StringBuilder" ⟨"java/lang/AbstractStringBuilder", q.1, q.2⟩ ⟨"java/lang/AbstractStringBuilder", q.1, q.2⟩)
def fz_tb : List Cond := st_sels ++ lw_tbl.filter goodWord
end
section
def fz_shs : List (Nat × Nat × Nat) := [(0, 12, 10), (0, 4, 9), (1, 0, 8), (1, 0, 12), (1, 0, 12), (1, 0, 12), (1, 0, 12), (1, 0, 64), (1, 0, 64), (0, 6, 6), (1, 0, 11), (1, 0, 11), (1, 0, 11), (1, 0, 11), (1, 0, 11), (0, 5, 5), (1, 0, 128), (1, 0, 128), (1, 0, 128), (1, 0, 6), (0, 7, 5), (0, 5, 5), (1, 0, 128), (1, 0, 128), (1, 0, 128), (1, 0, 6), (1, 0, 120), (0, 10, 10), (1, 0, 5), (1, 0, 5), (1, 0, 5), (1, 0, 10), (2, 0, 5), (0, 8, 8), (1, 0, 776), (0, 2, 6), (1, 0, 40), (1, 0, 40), (1, 0, 40), (1, 0, 40), (0, 3, 9), (1, 0, 4), (1, 0, 4), (1, 0, 5), (0, 11, 6), (1, 0, 50), (1, 0, 24), (0, 9, 5), (1, 0, 6), (1, 0, 6), (1, 0, 6), (1, 0, 6), (2, 0, 360), (1, 0, 40)]
def fz_rfs : List (List Nat) := [[2, 10, 16, 21, 28, 34, 36, 41, 45, 48], [3, 4, 5, 6, 7, 8, 9, 0, 0], [], [], [], [], [], [], [], [11, 12, 13, 14, 15, 0], [], [], [], [], [], [17, 18, 19, 20, 0], [], [], [], [], [22, 27, 0, 0, 0], [23, 24, 25, 26, 0], [], [], [], [], [], [2, 10, 16, 29, 30, 31, 32, 33, 0, 0], [], [], [], [], [], [2, 28, 35, 0, 0, 0, 0, 0], [], [37, 38, 39, 40, 0, 0], [], [], [], [], [42, 0, 0, 0, 0, 0, 0, 43, 44], [], [], [], [46, 47, 0, 0, 0, 0], [], [], [49, 50, 51, 52, 53], [], [], [], [], [], []]
def fz_sts : List (String × String × String × Nat) := [("FameAhead", "LEAST", "[I", 201), ("FameAhead", "MOST", "[I", 202)]
def fz_ms : List MethodName := [yJ0_charAt_5068e, yJ0_checkBoundsBeginEnd_23922, yJ0_checkBoundsOffCount_cabcc, yJ0_checkIndex_df160, yJ0_coder_7d493, yJ0_getBytes_840e7, yJ0_init_81219, yJ0_init_db425, yJ0_isLatin1_aae02, yJ0_length_8abf5, yJ1_canEncode_fc78d, yJ1_charAt_3b067, yJ1_inflate_0e8fd, yJ2_charAt_3b067, yJ2_checkBoundsBeginEnd_d044e, yJ2_checkBoundsOffCount_d044e, yJ2_checkIndex_2214a, yJ2_coderFromArrayLen_85cad, yJ2_compress_39247, yJ2_compress_5af95, yJ2_getChar_3b067, yJ2_getChars_46870, yJ2_getChars_ba4f3, yJ2_inflate_0e8fd, yJ2_length_9d52b, yJ2_newBytesFor_77867, yJ2_newBytesLength_0f7a4, yJ2_putCharSB_b72d1, yJ2_putChar_b72d1, yJ2_putCharsAt_cd4e5, yJ3_checkFromIndexSize_8c36e, yJ3_checkFromToIndex_8c36e, yJ3_checkIndex_8e157, yJ4_append_15ec4, yJ4_append_bf812, yJ4_append_cf468, yJ4_init_da8c8, yJ4_length_8abf5, yJ4_toString_0e30d, yJ5_appendNull_278bc, yJ5_append_3fe6f, yJ5_append_c97b9, yJ5_append_cf1ce, yJ5_ensureCapacityInternal_d00df, yJ5_getValue_6d5f1, yJ5_inflateIfNeededFor_a7421, yJ5_inflate_da8c8, yJ5_init_d00df, yJ5_isLatin1_aae02, yJ5_length_8abf5, yJ5_newCapacity_0f7a4, yJ5_putStringAt_47b60, yJ6_bitCount_0f7a4, yJ6_getChars_ba4f3, yJ6_stringSize_0f7a4, yJ7_checkLength_df160, yJ7_copyOfRangeByte_39247, yJ7_copyOfRange_39247, yJ7_copyOf_9075b, yJ7_fill_53178, yJ7_fill_bad5a, yJ7_fill_d0a16, yJ7_rangeCheck_23922, yJ8_hugeLength_7cf53, yJ8_newLength_cabcc, yJ9_max_7cf53, yJ9_min_7cf53, yL_at, yL_law, yL_one, yL_says, yL_some, yL_text, yL_told, yL_world, yX0_add, yX0_dropOldest, yX0_init, yX0_stepBack, yX10_alike, yX10_arePair, yX10_arrestsSomewhere, yX10_assign, yX10_atHour, yX10_back, yX10_bestTown, yX10_body, yX10_commonDivisor, yX10_count, yX10_cut, yX10_deed, yX10_does, yX10_feed, yX10_first, yX10_firstUnlike, yX10_fixedNumberOf, yX10_free, yX10_garbled, yX10_heard, yX10_home, yX10_image, yX10_init, yX10_isAsSeen, yX10_isHour, yX10_isMarkOfOne, yX10_isMendable, yX10_isOne, yX10_isTownAndHour, yX10_isUnsaid, yX10_isVolume, yX10_isWeight, yX10_judge, yX10_law, yX10_led, yX10_loud, yX10_mend, yX10_mixed, yX10_news, yX10_numberOf, yX10_of, yX10_put, yX10_received, yX10_refusalOfPlace, yX10_refusalOfSeen, yX10_road, yX10_route, yX10_row, yX10_said, yX10_town, yX10_townsWhere, yX10_undo, yX10_walk, yX10_way, yX10_which, yX1_go, yX1_init, yX1_keepImage, yX1_layBack, yX2_acrossFrom, yX2_addRoad, yX2_addTown, yX2_hoursByCarters, yX2_hoursByFeet, yX2_init, yX2_isCartedTo, yX2_isRoad, yX2_isTown, yX2_join, yX2_measure, yX2_roadsByCarters, yX2_shorten, yX3_add, yX3_become, yX3_clear, yX3_init, yX3_joined, yX3_leadHere, yX3_run, yX3_volume, yX4_enter, yX4_init, yX4_isDeed, yX4_write, yX5_clear, yX5_goesOnWith, yX5_init, yX5_letterHere, yX5_nameOf, yX5_nextOf, yX5_passed, yX5_readA, yX5_readB, yX5_readE, yX5_readLine, yX5_readNumber, yX5_readO, yX5_readP, yX5_readS, yX5_readText, yX5_take, yX6_compare, yX6_explore, yX6_init, yX6_seek, yX6_townAt, yX7_get, yX7_hasPlaces, yX7_holdsRow, yX7_init, yX7_isEmpty, yX7_isRow, yX7_isShelf, yX7_lowestBits, yX7_set, yX7_setRow, yX8_arrestsAt, yX8_chancesUnchanged, yX8_hourHeard, yX8_init, yX8_isArrested, yX8_listen, yX8_listenToSet, yX8_loudestMark, yX8_loudestOf, yX8_loudness, yX8_marksAlike, yX8_marksSaid, yX8_raise, yX8_reception, yX8_weigh, yX9_add, yX9_init, yX9_isKind, ⟨"java/lang/System", "arraycopy", "(Ljava/lang/Object;ILjava/lang/Object;II)V"⟩]
def fz_clx : List (List Nat) := [[5223, 5225, 5227, 5229], [5004, 5006, 5008, 5010], [2010, 2012, 2014, 2016, 2018, 2020], [2045, 2047, 2049, 2051, 2053, 2055, 2057, 2059, 2061], [1055, 1057, 1059, 1061, 1063, 1065, 1067, 1069, 1071], [1123, 1125, 1127, 1129, 1131], [1099, 1101, 1103, 1105, 1107, 1109], [1149, 1151, 1153, 1155, 1157], [1217, 1219, 1221, 1223, 1225, 1227, 1229, 1231], [2099, 2101, 2103, 2105, 2107], [1180, 1182, 1184, 1186, 1188, 1190, 1192, 1194, 1196, 1198], [2075, 2077, 2079, 2081, 2083, 2085], [2120, 2122, 2124, 2126, 2128, 2130, 2132, 2134, 2136, 2138]]
end
section
/-! ===== what is read and never written: strings, tables of bytes, constants, the script ===== -/
def fz_isN : Cond → Bool
  | .methodLinkNest _ _ _ _ => true
  | _ => false
def fz_nw : List Cond := lw_tbl.filter fz_isN
def fz_nN (s : State) : Prop := ∀ w ∈ fz_nw, va_Nw w s
theorem fz_nN_warm {s U : State} (hW : s.WarmedH U.vm) (h : fz_nN s) : fz_nN U := by
  intro w hw
  have h1 := h w hw
  have h2 := (List.mem_filter.mp hw).2
  unfold fz_isN at h2
  split at h2
  · exact va_Nw.warmM hW h1
  · cases h2
theorem fz_nN_vm {u U : State} (e : u.vm = U.vm) (h : fz_nN u) : fz_nN U := by
  intro w hw
  have h1 := h w hw
  have h2 := (List.mem_filter.mp hw).2
  unfold fz_isN at h2
  split at h2
  · exact va_Nw.same rfl e h1
  · cases h2
/-- a string that nobody writes: its cell, its bytes' cell, its length -/
def ss_S (r q n : Nat) (A : Nat → Prop) (U : State) (H : Heap) : Prop :=
  ∃ f : Nat → Int32, va_O "java/lang/String" r A U H ∧ va_OF "java/lang/String" "coder" "B" (.int 0) r A U H ∧ va_OF "java/lang/String" "value" "[B" (.ref q) r A U H ∧ va_T .byte q n (fun j => .int (f j)) A U H ∧ sb_Fit f ∧ n < 100000
theorem ss_S.moved {r q n : Nat} {A : Nat → Prop} {u U : State} {H : Heap} (hvm : u.vm.Alike U.vm) (h : ss_S r q n A u H) : ss_S r q n A U H := by
  obtain ⟨f, h1, h2, h3, h4, h5⟩ := h
  exact ⟨f, va_O.moved hvm h1, va_OF.moved hvm h2, va_OF.moved hvm h3, va_T.moved hvm h4, h5⟩
theorem ss_S.kept {r q n : Nat} {A : Nat → Prop} {U : State} {H H1 : Heap} (h : ss_S r q n A U H) (hq : ∀ a : Nat, a < H.size → ¬ A a → H1[a]? = H[a]?) : ss_S r q n A U H1 := by
  obtain ⟨f, h1, h2, h3, h4, h5⟩ := h
  exact ⟨f, h1.kept hq, h2.kept hq, h3.kept hq, h4.kept hq, h5⟩
theorem ss_S.narrow {r q n : Nat} {A B : Nat → Prop} {U : State} {H : Heap} (h : ss_S r q n A U H) (hAB : ∀ q, B q → A q) : ss_S r q n B U H := by
  obtain ⟨f, h1, h2, h3, h4, h5⟩ := h
  exact ⟨f, h1.narrow hAB, h2.narrow hAB, h3.narrow hAB, h4.narrow hAB, h5⟩
/-- a table of bytes behind a static field -/
def ss_Y (C n : String) (t N : Nat) (A : Nat → Prop) (U : State) (H : Heap) : Prop := ∃ f : Nat → Int32, va_Z C n "[B" (.ref t) A U H ∧ va_T .byte t N (fun j => .int (f j)) A U H ∧ sb_Fit f
/-- the statics that are read -/
def ss_G (tO tT : Nat) (A : Nat → Prop) (U : State) (H : Heap) : Prop :=
  va_Z "java/lang/String" "COMPACT_STRINGS" "Z" (.int 1) A U H ∧ (∃ v, va_Z "jdk/internal/util/Preconditions" "SIOOBE_FORMATTER" "Ljava/util/function/BiFunction;" (.ref v) A U H) ∧ ss_Y "java/lang/Integer" "DigitOnes" tO 100 A U H ∧ ss_Y "java/lang/Integer" "DigitTens" tT 100 A U H
theorem ss_Y.moved {C n : String} {t N : Nat} {A : Nat → Prop} {u U : State} {H : Heap} (hvm : u.vm.Alike U.vm) (h : ss_Y C n t N A u H) : ss_Y C n t N A U H := by
  obtain ⟨f, h1, h2, h3⟩ := h
  exact ⟨f, h1.moved hvm, va_T.moved hvm h2, h3⟩
theorem ss_Y.kept {C n : String} {t N : Nat} {A : Nat → Prop} {U : State} {H H1 : Heap} (h : ss_Y C n t N A U H) (hq : ∀ a : Nat, a < H.size → ¬ A a → H1[a]? = H[a]?) : ss_Y C n t N A U H1 := by
  obtain ⟨f, h1, h2, h3⟩ := h
  exact ⟨f, h1.kept hq, h2.kept hq, h3⟩
theorem ss_Y.narrow {C n : String} {t N : Nat} {A B : Nat → Prop} {U : State} {H : Heap} (h : ss_Y C n t N A U H) (hAB : ∀ q, B q → A q) : ss_Y C n t N B U H := by
  obtain ⟨f, h1, h2, h3⟩ := h
  exact ⟨f, h1.narrow hAB, h2.narrow hAB, h3⟩
theorem ss_G.moved {tO tT : Nat} {A : Nat → Prop} {u U : State} {H : Heap} (hvm : u.vm.Alike U.vm) (h : ss_G tO tT A u H) : ss_G tO tT A U H := by
  obtain ⟨h1, ⟨v, h2⟩, h3, h4⟩ := h
  exact ⟨h1.moved hvm, ⟨v, h2.moved hvm⟩, h3.moved hvm, h4.moved hvm⟩
theorem ss_G.kept {tO tT : Nat} {A : Nat → Prop} {U : State} {H H1 : Heap} (h : ss_G tO tT A U H) (hq : ∀ a : Nat, a < H.size → ¬ A a → H1[a]? = H[a]?) : ss_G tO tT A U H1 := by
  obtain ⟨h1, ⟨v, h2⟩, h3, h4⟩ := h
  exact ⟨h1.kept hq, ⟨v, h2.kept hq⟩, h3.kept hq, h4.kept hq⟩
theorem ss_G.narrow {tO tT : Nat} {A B : Nat → Prop} {U : State} {H : Heap} (h : ss_G tO tT A U H) (hAB : ∀ q, B q → A q) : ss_G tO tT B U H := by
  obtain ⟨h1, ⟨v, h2⟩, h3, h4⟩ := h
  exact ⟨h1.narrow hAB, ⟨v, h2.narrow hAB⟩, h3.narrow hAB, h4.narrow hAB⟩
/-- strings; the law's constants (entry, text, cell); the two tables of digits; the script: cell, length, numbers; tables of ints behind static fields (class, field, cell, length, numbers) -/
abbrev st_Xt : Type := List (Nat × Nat × Nat) × List (Nat × String × Nat) × (Nat × Nat) × Nat × Nat × (Nat → Int32) × List (String × String × Nat × Nat × (Nat → Int))
def st_IT (q : String × String × Nat × Nat × (Nat → Int)) (A : Nat → Prop) (U : State) (H : Heap) : Prop := va_Z q.1 q.2.1 "[I" (.ref q.2.2.1) A U H ∧ va_T .int q.2.2.1 q.2.2.2.1 (fun j => .int (Int32.ofInt (q.2.2.2.2 j))) A U H
def st_ok (X : st_Xt) (A : Nat → Prop) (U : State) (H : Heap) : Prop := ss_G X.2.2.1.1 X.2.2.1.2 A U H ∧ (∀ q ∈ X.1, ss_S q.1 q.2.1 q.2.2 A U H) ∧ (∀ q ∈ X.2.1, vk_R "FameAheadLaw" q.1 q.2.1 q.2.2 U) ∧ va_T .int X.2.2.2.1 X.2.2.2.2.1 (fun j => .int (X.2.2.2.2.2.1 j)) A U H ∧ ∀ q ∈ X.2.2.2.2.2.2, st_IT q A U H
theorem st_ok.warm {X : st_Xt} {A : Nat → Prop} {s U : State} {H : Heap} (hW : s.WarmedH U.vm) (h : st_ok X A s H) : st_ok X A U H :=
  ⟨h.1.moved hW.alike, fun q hq => (h.2.1 q hq).moved hW.alike, fun q hq => (h.2.2.1 q hq).warm hW, va_T.moved hW.alike h.2.2.2.1, fun q hq => ⟨(h.2.2.2.2 q hq).1.moved hW.alike, va_T.moved hW.alike (h.2.2.2.2 q hq).2⟩⟩
theorem st_ok.same {X : st_Xt} {A : Nat → Prop} {u U : State} {H : Heap} (e : U.vm = u.vm) (h : st_ok X A u H) : st_ok X A U H := by
  have hal : u.vm.Alike U.vm := by rw [e]; exact Vm.Alike.refl u.vm
  exact ⟨h.1.moved hal, fun q hq => (h.2.1 q hq).moved hal, fun q hq => (h.2.2.1 q hq).same e, va_T.moved hal h.2.2.2.1, fun q hq => ⟨(h.2.2.2.2 q hq).1.moved hal, va_T.moved hal (h.2.2.2.2 q hq).2⟩⟩
theorem st_ok.kept {X : st_Xt} {A : Nat → Prop} {U : State} {H H1 : Heap} (h : st_ok X A U H) (hq : ∀ a : Nat, a < H.size → ¬ A a → H1[a]? = H[a]?) : st_ok X A U H1 :=
  ⟨h.1.kept hq, fun q hq2 => (h.2.1 q hq2).kept hq, h.2.2.1, h.2.2.2.1.kept hq, fun q hq2 => ⟨(h.2.2.2.2 q hq2).1.kept hq, (h.2.2.2.2 q hq2).2.kept hq⟩⟩
theorem st_ok.narrow {X : st_Xt} {A B : Nat → Prop} {U : State} {H : Heap} (h : st_ok X A U H) (hAB : ∀ q, B q → A q) : st_ok X B U H :=
  ⟨h.1.narrow hAB, fun q hq2 => (h.2.1 q hq2).narrow hAB, h.2.2.1, h.2.2.2.1.narrow hAB, fun q hq2 => ⟨(h.2.2.2.2 q hq2).1.narrow hAB, (h.2.2.2.2 q hq2).2.narrow hAB⟩⟩
def st_nN (s : State) : Prop := fz_nN s ∧ va_Nw (.castable "[B" "java/lang/Cloneable") s
theorem st_nN_warm {s U : State} (hW : s.WarmedH U.vm) (h : st_nN s) : st_nN U := ⟨fz_nN_warm hW h.1, va_Nw.warmC hW h.2⟩
theorem st_nN_vm {u U : State} (e : u.vm = U.vm) (h : st_nN u) : st_nN U := ⟨fz_nN_vm e h.1, va_Nw.same rfl e h.2⟩
theorem ss_S.wide {r q n : Nat} {A : Nat → Prop} {U : State} {H : Heap} (h : ss_S r q n A U H) : ss_S r q n (fun x => A x ∨ H.size ≤ x) U H := by
  obtain ⟨f, ⟨c1, a1, a2, a3, a4⟩, ⟨cf, k, i, fd, c2, b1, b2, b3, b4, b5, b6⟩, ⟨cf', k', i', fd', c3, d1, d2, d3, d4, d5, d6⟩, ⟨c4, e1, e2, e3, e4, e5, e6, e7⟩, h5, h6⟩ := h
  have g1 := (Array.getElem?_eq_some_iff.mp a1).1
  have g2 := (Array.getElem?_eq_some_iff.mp e1).1
  exact ⟨f, ⟨c1, a1, a2, a3, fun z => z.elim a4 (fun z => by omega)⟩, ⟨cf, k, i, fd, c2, b1, b2, b3, b4, b5, fun z => z.elim b6 (fun z => by omega)⟩, ⟨cf', k', i', fd', c3, d1, d2, d3, d4, d5, fun z => z.elim d6 (fun z => by omega)⟩, ⟨c4, e1, e2, e3, e4, e5, e6, fun z => z.elim e7 (fun z => by omega)⟩, h5, h6⟩
theorem st_Zw {C n d : String} {v : Value} {A : Nat → Prop} {U : State} {H : Heap} (h : va_Z C n d v A U H) : va_Z C n d v (fun x => A x ∨ H.size ≤ x) U H := by
  obtain ⟨cf, kf, fi, f, a, cell, h1, h2, h3, h4, h5, h6, h7, h8⟩ := h
  have g1 := (Array.getElem?_eq_some_iff.mp h5).1
  exact ⟨cf, kf, fi, f, a, cell, h1, h2, h3, h4, h5, h6, h7, fun z => z.elim h8 (fun z => by omega)⟩
theorem st_Twd {ty : FieldType} {t N : Nat} {f : Nat → Value} {A : Nat → Prop} {U : State} {H : Heap} (h : va_T ty t N f A U H) : va_T ty t N f (fun x => A x ∨ H.size ≤ x) U H := by
  obtain ⟨c4, e1, e2, e3, e4, e5, e6, e7⟩ := h
  have g2 := (Array.getElem?_eq_some_iff.mp e1).1
  exact ⟨c4, e1, e2, e3, e4, e5, e6, fun z => z.elim e7 (fun z => by omega)⟩
theorem st_ok.wide {X : st_Xt} {A : Nat → Prop} {U : State} {H : Heap} (h : st_ok X A U H) : st_ok X (fun x => A x ∨ H.size ≤ x) U H := by
  obtain ⟨⟨h1, ⟨v, h2⟩, ⟨f3, h3, h4, h5⟩, ⟨f6, h6, h7, h8⟩⟩, h9, h10, h11, h12⟩ := h
  exact ⟨⟨st_Zw h1, ⟨v, st_Zw h2⟩, ⟨f3, st_Zw h3, st_Twd h4, h5⟩, ⟨f6, st_Zw h6, st_Twd h7, h8⟩⟩, fun q hq => (h9 q hq).wide, h10, st_Twd h11, fun q hq => ⟨st_Zw (h12 q hq).1, st_Twd (h12 q hq).2⟩⟩
end
section
/-! ===== a machine of whole numbers over a heap of a fixed shape; each rule is proved from the kit's row ===== -/
/-- a value: a number of 32 bits, a number of 64 bits, a cell by its place -/
abbrev fz_V : Type := Int ⊕ Int ⊕ Nat
abbrev fz_i (x : Int) : fz_V := Sum.inl x
abbrev fz_l (x : Int) : fz_V := Sum.inr (Sum.inl x)
abbrev fz_r (o : Nat) : fz_V := Sum.inr (Sum.inr o)
abbrev fz_H : Type := Nat → Nat → Int
abbrev fz_I : Type := Nat × Instr × Nat × Nat × Nat × Nat
/-- a method: its name, code, number of locals, what it returns, its instructions: (pc, instruction, length, three numbers that say where it leads) -/
abbrev fz_M : Type := MethodName × ByteArray × Nat × Option FieldType × List fz_I
def fz_nth {α : Type} : List α → Nat → Option α
  | [], _ => none
  | a :: _, 0 => some a
  | _ :: l, n + 1 => fz_nth l n
theorem fz_nth_eq {α : Type} : ∀ (l : List α) (n : Nat), fz_nth l n = l[n]?
  | [], n => by simp [fz_nth]
  | a :: l, 0 => by simp [fz_nth]
  | a :: l, n + 1 => by simp [fz_nth, fz_nth_eq l n]
def fz_at : List fz_I → Nat → Option (Instr × Nat × Nat × Nat × Nat)
  | [], _ => none
  | q :: l, pc => bif Nat.beq q.1 pc then some q.2 else fz_at l pc
theorem fz_at_mem : ∀ {l : List fz_I} {pc : Nat} {v : Instr × Nat × Nat × Nat × Nat}, fz_at l pc = some v → (pc, v) ∈ l
  | [], pc, v, h => by simp [fz_at] at h
  | q :: l, pc, v, h => by
    unfold fz_at at h
    cases hb : Nat.beq q.1 pc with
    | true =>
      rw [hb] at h
      have e := Nat.eq_of_beq_eq_true hb
      simp only [cond_true] at h
      cases h
      subst e
      exact List.mem_cons_self
    | false =>
      rw [hb] at h
      exact List.mem_cons_of_mem _ (fz_at_mem h)
def fz_lk : List (Nat × fz_V) → Nat → Option fz_V
  | [], _ => none
  | q :: l, i => bif Nat.beq q.1 i then some q.2 else fz_lk l i
theorem fz_lk_mem : ∀ {l : List (Nat × fz_V)} {i : Nat} {v : fz_V}, fz_lk l i = some v → (i, v) ∈ l
  | [], i, v, h => by simp [fz_lk] at h
  | q :: l, i, v, h => by
    unfold fz_lk at h
    cases hb : Nat.beq q.1 i with
    | true =>
      rw [hb] at h
      have e := Nat.eq_of_beq_eq_true hb
      simp only [cond_true] at h
      cases h
      subst e
      exact List.mem_cons_self
    | false =>
      rw [hb] at h
      exact List.mem_cons_of_mem _ (fz_lk_mem h)
/-- the shape: (0, class, fields), (1, 0, length) ints, (2, 0, length) longs; which fields hold which cell (its place and one) -/
def fz_sh (i : Nat) : Nat × Nat × Nat := (fz_nth fz_shs i).getD (9, 0, 0)
def fz_rf (o s : Nat) : Nat := ((fz_nth fz_rfs o).bind (fun l => fz_nth l s)).getD 0
def fz_N : Nat := fz_shs.length
def fz_up (h : fz_H) (c i : Nat) (x : Int) : fz_H := fun d j => if d = c ∧ j = i then x else h d j
def fz_cp (h : fz_H) (a i b j n : Nat) : fz_H := fun d k => if d = b ∧ j ≤ k ∧ k < j + n then h a (i + (k - j)) else h d k
def fz_okx (c : Nat) (x : Int) : Prop := if (fz_sh c).1 = 2 then -9223372036854775808 ≤ x ∧ x < 9223372036854775808 else -2147483648 ≤ x ∧ x < 2147483648
def fz_nh (h : fz_H) : Prop := ∀ c i, fz_okx c (h c i)
def fz_nv (v : fz_V) : Prop := match v with
  | .inl x => -2147483648 ≤ x ∧ x < 2147483648
  | .inr (.inl x) => -9223372036854775808 ≤ x ∧ x < 9223372036854775808
  | .inr (.inr _) => True
def fz_cv (ad : Nat → Nat) (v : fz_V) : Value := match v with
  | .inl x => .int (Int32.ofInt x)
  | .inr (.inl x) => .long (Int64.ofInt x)
  | .inr (.inr o) => .ref (ad o)
def fz_cat (v : fz_V) : Nat := match v with
  | .inr (.inl _) => 2
  | _ => 1
theorem fz_cat_cv (ad : Nat → Nat) (v : fz_V) : (fz_cv ad v).category = fz_cat v := by
  rcases v with x | x | x <;> rfl
/-- where things are: classes, slots, the two classes of arrays, the cells -/
abbrev fz_E : Type := (Nat → ClassId) × (Nat → Nat → Nat) × ClassId × ClassId × (Nat → Nat) × (Nat → Nat → Int)
abbrev fz_ad (E : fz_E) : Nat → Nat := E.2.2.2.2.1
abbrev fz_tc (E : fz_E) : Nat → Nat → Int := E.2.2.2.2.2
def fz_fv (ad : Nat → Nat) (h : fz_H) (o s : Nat) : Value := match fz_rf o s with
  | 0 => .int (Int32.ofInt (h o s))
  | t + 1 => .ref (ad t)
def fz_ce (E : fz_E) (h : fz_H) (i : Nat) : va_E :=
  if (fz_sh i).1 = 0 then .inr ((fz_sh i).2.1, (List.range (fz_sh i).2.2).map (fz_fv (fz_ad E) h i))
  else if (fz_sh i).1 = 1 then .inl (E.2.2.1, (fz_sh i).2.2, .inl (fun j => Int32.ofInt (h i j)))
  else .inl (E.2.2.2.1, (fz_sh i).2.2, .inr (.inl (fun j => Int64.ofInt (h i j))))
def fz_ws (E : fz_E) (h : fz_H) : va_W := (List.range fz_N).map (fun i => (fz_ad E i, fz_ce E h i))
def fz_A (E : fz_E) : Nat → Prop := fun q => ∃ i, i < fz_N ∧ q = fz_ad E i
theorem fz_ws_at (E : fz_E) (h : fz_H) {i : Nat} (hi : i < fz_N) : (fz_ws E h)[i]? = some (fz_ad E i, fz_ce E h i) := by
  simp [fz_ws, hi]
/-- the string that is handed on (its cell 205, its bytes' 206, its length at 205, 100000), the tables of digits 207, 208, the script 200 -/
def fz_X (E : fz_E) : st_Xt := ([(fz_ad E 205, fz_ad E 206, (fz_tc E 205 100000).toNat)], [], (fz_ad E 207, fz_ad E 208), fz_ad E 200, (fz_tc E 200 100000).toNat, (fun j => Int32.ofInt (fz_tc E 200 j)), [])
/-- the tables that nobody writes: their lengths stand at place 100000 -/
def fz_St (E : fz_E) (U : State) : Prop :=
  (∀ id, 200 ≤ id → id < 203 → va_T .int (fz_ad E id) (fz_tc E id 100000).toNat (fun j => .int (Int32.ofInt (fz_tc E id j))) (fz_A E) U U.heap) ∧
  (∀ q ∈ fz_sts, va_Z q.1 q.2.1 q.2.2.1 (.ref (fz_ad E q.2.2.2)) (fz_A E) U U.heap) ∧ st_ok (fz_X E) (fz_A E) U U.heap ∧ st_nN U
abbrev fz_dA (E : fz_E) : va_G := (E.1, E.2.1)
abbrev fz_ty (E : fz_E) : List (ClassId × FieldType) := [(E.2.2.1, .int), (E.2.2.2.1, .long)]
def fz_Wd (E : fz_E) (h : fz_H) (s : State) (H : Heap) (locs : List Loc) : Prop :=
  va_P (fz_dA E) vwCl (fz_ws E h) H ∧ va_D (fz_A E) (fz_ws E h) ∧ va_S (fz_A E) s.heap H locs ∧ fz_nh h ∧ ∀ id, 200 ≤ id → h id = fz_tc E id
def fz_Cx (d : Nat) (M : fz_M) (E : fz_E) (p : Program) (R : Room) (s : State) (m : MethodId) (args : Array Value) (meth : Method) (c : Code) (cells slots : Nat) : Prop :=
  p.tables.exec = Jvm.exec ∧ c.code = M.2.1 ∧ meth.sig.returnType = M.2.2.2.1 ∧ c.maxLocals = M.2.2.1 ∧ s.vm.findClass M.1.cls = some m.cls ∧ (∀ w ∈ fz_tb, w.before args s = true) ∧ meth.locks = false ∧ d ≤ R.frames ∧ d * 64 ≤ R.locals ∧ va_K (fz_dA E) vwCl (fz_ty E) s ∧ cells ≤ R.cells ∧ slots ≤ R.slots ∧ fz_St E s
def fz_rok (ret : Option FieldType) (r : Option fz_V) : Prop := match ret, r with
  | none, none => True
  | some .int, some (.inl x) => -2147483648 ≤ x ∧ x < 2147483648
  | some .boolean, some (.inl x) => x = 0 ∨ x = 1
  | some .long, some (.inr (.inl x)) => -9223372036854775808 ≤ x ∧ x < 9223372036854775808
  | _, _ => False
def fz_dr (b : ByteArray) (pc : Nat) (r : Option fz_V) : Prop := match r with
  | none => decode b pc = .ok (.return_, 1)
  | some (.inl _) => decode b pc = .ok (.ireturn, 1)
  | some (.inr (.inl _)) => decode b pc = .ok (.lreturn, 1)
  | _ => False
/-- from here the method comes to its end, with Q of the heap and the answer -/
def fz_R (d : Nat) (M : fz_M) (pc : Nat) (ls : List (Nat × fz_V)) (st : List fz_V) (h : fz_H) (Q : fz_H → Option fz_V → Prop) : Prop :=
  ∀ (E : fz_E) (p : Program) (l : Launch) (e : Env) (R : Room) (s : State) (m : MethodId) (args : Array Value) (below : List Frame) (meth : Method) (c : Code) (cells slots : Nat) (Qf : State → Prop),
    fz_Cx d M E p R s m args meth c cells slots →
    (∀ (h' : fz_H) (r : Option fz_V) (pc' : Nat) (lsc : Array Slot) (H : Heap) (locs : List Loc), Q h' r → fz_rok M.2.2.2.1 r → fz_dr M.2.1 pc' r → fz_Wd E h' s H locs →
      W p l e R s m args below meth c H locs cells slots Qf (F0 m pc' lsc (r.toList.map (fz_cv (fz_ad E))))) →
    ∀ (H : Heap) (locs : List Loc) (lsc : Array Slot), fz_Wd E h s H locs → (∀ v ∈ st, fz_nv v) → (∀ q ∈ ls, fz_nv q.2) → lv_has lsc M.2.2.1 (ls.map (fun q => (q.1, fz_cv (fz_ad E) q.2))) →
      W p l e R s m args below meth c H locs cells slots Qf (F0 m pc lsc (st.map (fz_cv (fz_ad E))))
/-- a word of the tables by its place: 1000 times the list, and the place in it -/
def fz_wl0 (k : Nat) : List Cond := match k with
  | 0 => k2_sels lw_privs
  | 1 => tables_1_1
  | 2 => tables_1_2
  | 3 => tables_1_3
  | 4 => tables_1_4
  | 5 => tables_1_5
  | 6 => tables_1_6
  | _ => []
def fz_wa (n : Nat) : Option Cond := fz_nth (fz_wl0 (n / 1000)) (n % 1000)
theorem fz_has {n : Nat} {w : Cond} (h : fz_wa n = some w) (hg : goodWord w = true) : w ∈ fz_tb := by
  refine List.mem_append_right _ (List.mem_filter.mpr ⟨?_, hg⟩)
  unfold fz_wa at h
  rw [fz_nth_eq] at h
  have hm := List.mem_of_getElem? h
  show w ∈ k2_sels lw_privs ++ (tables_1_1 ++ (tables_1_2 ++ (tables_1_3 ++ (tables_1_4 ++ (tables_1_5 ++ tables_1_6)))))
  simp only [List.mem_append]
  unfold fz_wl0 at hm
  split at hm
  · exact Or.inl hm
  · exact Or.inr (Or.inl hm)
  · exact Or.inr (Or.inr (Or.inl hm))
  · exact Or.inr (Or.inr (Or.inr (Or.inl hm)))
  · exact Or.inr (Or.inr (Or.inr (Or.inr (Or.inl hm))))
  · exact Or.inr (Or.inr (Or.inr (Or.inr (Or.inr (Or.inl hm)))))
  · exact Or.inr (Or.inr (Or.inr (Or.inr (Or.inr (Or.inr hm)))))
  · cases hm
def fz_isF (w : Option Cond) (own : String) (idx : Nat) (r n d : String) : Bool := match w with
  | some (.fieldLink a b c e f) => decide (b = idx) && decide (a = own) && decide (c = r) && decide (e = n) && decide (f = d)
  | _ => false
def fz_isM (w : Option Cond) (own : String) (idx : Nat) (y : MethodName) : Bool := match w with
  | some (.methodLink a b c) => decide (b = idx) && decide (a = own) && decide (c.cls = y.cls) && decide (c.name = y.name) && decide (c.desc = y.desc)
  | _ => false
theorem fz_isF_spec {n : Nat} {own : String} {idx : Nat} {r nm d : String} (h : fz_isF (fz_wa n) own idx r nm d = true) : Cond.fieldLink own idx r nm d ∈ fz_tb := by
  cases hw : fz_wa n with
  | none => rw [hw] at h; cases h
  | some w =>
    rw [hw] at h
    unfold fz_isF at h
    split at h
    · next e =>
      simp only [Bool.and_eq_true, decide_eq_true_eq] at h
      obtain ⟨⟨⟨⟨h1, h2⟩, h3⟩, h4⟩, h5⟩ := h
      subst h1 h2 h3 h4 h5
      cases e
      exact fz_has hw rfl
    · cases h
theorem fz_isM_spec {n : Nat} {own : String} {idx : Nat} {y : MethodName} (h : fz_isM (fz_wa n) own idx y = true) : Cond.methodLink own idx y ∈ fz_tb := by
  cases hw : fz_wa n with
  | none => rw [hw] at h; cases h
  | some w =>
    rw [hw] at h
    unfold fz_isM at h
    split at h
    · next c e =>
      simp only [Bool.and_eq_true, decide_eq_true_eq] at h
      obtain ⟨⟨⟨⟨h1, h2⟩, h3⟩, h4⟩, h5⟩ := h
      have hy : c = y := by
        cases c; cases y
        simp only at h3 h4 h5
        subst h3 h4 h5
        rfl
      subst h1 h2 hy
      cases e
      exact fz_has hw rfl
    · cases h
/-- what is asked of an instruction's numbers -/
def fz_okI (M : fz_M) (q : fz_I) : Bool := decide (decode M.2.1 q.1 = .ok (q.2.1, q.2.2.1)) &&
  match q.2.1 with
  | .getfield idx => match fz_nth vwCl q.2.2.2.2.1 with
    | some (_, T, N) => decide (q.2.2.2.1 < N) && fz_isF (fz_wa q.2.2.2.2.2) M.1.cls idx (T q.2.2.2.1).1 (T q.2.2.2.1).2.1 (T q.2.2.2.1).2.2.1
    | none => false
  | .putfield idx => match fz_nth vwCl q.2.2.2.2.1 with
    | some (_, T, N) => decide (q.2.2.2.1 < N) && fz_isF (fz_wa q.2.2.2.2.2) M.1.cls idx (T q.2.2.2.1).1 (T q.2.2.2.1).2.1 (T q.2.2.2.1).2.2.1 && !(T q.2.2.2.1).2.2.2
    | none => false
  | .invokevirtual idx => match fz_nth fz_ms q.2.2.2.2.1 with
    | some y => fz_isM (fz_wa q.2.2.2.1) M.1.cls idx y
    | none => false
  | .invokestatic idx => match fz_nth fz_ms q.2.2.2.2.1 with
    | some y => fz_isM (fz_wa q.2.2.2.1) M.1.cls idx y
    | none => false
  | .getstatic idx => match fz_nth fz_sts q.2.2.2.2.1 with
    | some (C, n, d, id) => decide (q.2.2.2.1 = id) && fz_isF (fz_wa q.2.2.2.2.2) M.1.cls idx C n d
    | none => false
  | _ => true
def fz_okM (M : fz_M) : Bool := M.2.2.2.2.all (fz_okI M)
def fz_lkI (M : fz_M) (q : fz_I) : Bool := match q.2.1 with
  | .getfield idx => match fz_nth vwCl q.2.2.2.2.1 with
    | some (_, T, N) => decide (q.2.2.2.1 < N) && fz_isF (fz_wa q.2.2.2.2.2) M.1.cls idx (T q.2.2.2.1).1 (T q.2.2.2.1).2.1 (T q.2.2.2.1).2.2.1
    | none => false
  | .putfield idx => match fz_nth vwCl q.2.2.2.2.1 with
    | some (_, T, N) => decide (q.2.2.2.1 < N) && fz_isF (fz_wa q.2.2.2.2.2) M.1.cls idx (T q.2.2.2.1).1 (T q.2.2.2.1).2.1 (T q.2.2.2.1).2.2.1 && !(T q.2.2.2.1).2.2.2
    | none => false
  | .invokevirtual idx => match fz_nth fz_ms q.2.2.2.2.1 with
    | some y => fz_isM (fz_wa q.2.2.2.1) M.1.cls idx y
    | none => false
  | .invokestatic idx => match fz_nth fz_ms q.2.2.2.2.1 with
    | some y => fz_isM (fz_wa q.2.2.2.1) M.1.cls idx y
    | none => false
  | .getstatic idx => match fz_nth fz_sts q.2.2.2.2.1 with
    | some (C, n, d, id) => decide (q.2.2.2.1 = id) && fz_isF (fz_wa q.2.2.2.2.2) M.1.cls idx C n d
    | none => false
  | _ => true
theorem fz_okM_in {M : fz_M} (h1 : fd_wk M.2.1 (fd_n M.2.1) 0 M.2.2.2.2 = true) (h2 : M.2.2.2.2.all (fz_lkI M) = true) : fz_okM M = true := List.all_eq_true.mpr (fun q hq => by
  have a := fd_wk_ok _ _ 0 (fun z => by rw [fd_n_b1, Nat.zero_add]) h1 q hq
  have b := List.all_eq_true.mp h2 q hq
  show (decide (decode M.2.1 q.1 = .ok (q.2.1, q.2.2.1)) && fz_lkI M q) = true
  rw [decide_eq_true a, b]
  rfl)
theorem fz_dec {M : fz_M} (hM : fz_okM M = true) {pc : Nat} {v : Instr × Nat × Nat × Nat × Nat} (h : fz_at M.2.2.2.2 pc = some v) : decode M.2.1 pc = .ok (v.1, v.2.1) := by
  have h1 := List.all_eq_true.mp hM _ (fz_at_mem h)
  unfold fz_okI at h1
  rw [Bool.and_eq_true] at h1
  exact of_decide_eq_true h1.1
theorem fz_pure {d : Nat} {M : fz_M} {pc pc' : Nat} {ls : List (Nat × fz_V)} {st st' : List fz_V} {h : fz_H} {Q : fz_H → Option fz_V → Prop}
    (hn : (∀ v ∈ st, fz_nv v) → ∀ v ∈ st', fz_nv v)
    (hw : ∀ (E : fz_E) (p : Program) (l : Launch) (e : Env) (R : Room) (s : State) (m : MethodId) (args : Array Value) (below : List Frame) (meth : Method) (c : Code) (cells slots : Nat) (Qf : State → Prop) (H : Heap) (locs : List Loc) (lsc : Array Slot),
      p.tables.exec = Jvm.exec → c.code = M.2.1 → (∀ v ∈ st, fz_nv v) → W p l e R s m args below meth c H locs cells slots Qf (F0 m pc' lsc (st'.map (fz_cv (fz_ad E)))) → W p l e R s m args below meth c H locs cells slots Qf (F0 m pc lsc (st.map (fz_cv (fz_ad E)))))
    (k : fz_R d M pc' ls st' h Q) : fz_R d M pc ls st h Q := by
  intro E p l e R s m args below meth c cells slots Qf C hend H locs lsc hW hs hl hh
  exact hw E p l e R s m args below meth c cells slots Qf H locs lsc C.1 C.2.1 hs (k E p l e R s m args below meth c cells slots Qf C hend H locs lsc hW (hn hs) hl hh)
end
section
/-! ===== rules ===== -/
theorem fz_n0 {st : List fz_V} {r : fz_V} (hr : fz_nv r) (hs : ∀ q ∈ st, fz_nv q) : ∀ q ∈ r :: st, fz_nv q := fun q hq => (List.mem_cons.mp hq).elim (fun z => z ▸ hr) (hs q)
theorem fz_n1 {st : List fz_V} {u r : fz_V} (hr : fz_nv r) (hs : ∀ q ∈ u :: st, fz_nv q) : ∀ q ∈ r :: st, fz_nv q := fz_n0 hr (fun q hq => hs q (List.mem_cons_of_mem _ hq))
theorem fz_n2 {st : List fz_V} {u v r : fz_V} (hr : fz_nv r) (hs : ∀ q ∈ u :: v :: st, fz_nv q) : ∀ q ∈ r :: st, fz_nv q := fz_n1 hr (fun q hq => hs q (List.mem_cons_of_mem _ hq))
theorem fz_h1 {st : List fz_V} {u : fz_V} (hs : ∀ q ∈ u :: st, fz_nv q) : fz_nv u := hs _ List.mem_cons_self
theorem fz_h2 {st : List fz_V} {u v : fz_V} (hs : ∀ q ∈ u :: v :: st, fz_nv q) : fz_nv v := hs _ (List.mem_cons_of_mem _ List.mem_cons_self)
theorem fz_tl {st : List fz_V} {u : fz_V} (hs : ∀ q ∈ u :: st, fz_nv q) : ∀ q ∈ st, fz_nv q := fun q hq => hs q (List.mem_cons_of_mem _ hq)
theorem fz_e_i8 {n : Int} (h : -128 ≤ n ∧ n < 128) : (Int8.ofInt n).toInt32 = Int32.ofInt n := by
  apply Int32.toInt_inj.mp
  rw [Int8.toInt_toInt32, Int8.toInt_ofInt_of_le h.1 h.2, fz_t32 ⟨by omega, by omega⟩]
theorem fz_e_i16 {n : Int} (h : -32768 ≤ n ∧ n < 32768) : (Int16.ofInt n).toInt32 = Int32.ofInt n := by
  apply Int32.toInt_inj.mp
  rw [Int16.toInt_toInt32, Int16.toInt_ofInt_of_le h.1 h.2, fz_t32 ⟨by omega, by omega⟩]
theorem fz_e_0 : (0 : Int32) = Int32.ofInt 0 := rfl
section FZ
variable {d : Nat} {M : fz_M} {pc a b w : Nat} {ls : List (Nat × fz_V)} {st : List fz_V} {h : fz_H} {Q : fz_H → Option fz_V → Prop}
theorem fz_iconst {n : Int} (hn : -128 ≤ n ∧ n < 128) (hM : fz_okM M = true) (hc : fz_at M.2.2.2.2 pc = some (.iconst n, 1, a, b, w)) (k : fz_R d M (pc + 1) ls (fz_i n :: st) h Q) : fz_R d M pc ls st h Q :=
  fz_pure (fun hs => fz_n0 (show fz_nv (fz_i n) from ⟨by omega, by omega⟩) hs) (fun E p l e R s m args below meth c cells slots Qf H locs lsc hx hb hs kk => lv_iconst hx hb (fz_dec hM hc) rfl kk) k
theorem fz_bipush {n : Int} (hn : -128 ≤ n ∧ n < 128) (hM : fz_okM M = true) (hc : fz_at M.2.2.2.2 pc = some (.bipush n, 2, a, b, w)) (k : fz_R d M (pc + 2) ls (fz_i n :: st) h Q) : fz_R d M pc ls st h Q :=
  fz_pure (fun hs => fz_n0 (show fz_nv (fz_i n) from ⟨by omega, by omega⟩) hs) (fun E p l e R s m args below meth c cells slots Qf H locs lsc hx hb hs kk => lv_bipush hx hb (fz_dec hM hc) (fz_e_i8 hn) kk) k
theorem fz_sipush {n : Int} (hn : -32768 ≤ n ∧ n < 32768) (hM : fz_okM M = true) (hc : fz_at M.2.2.2.2 pc = some (.sipush n, 3, a, b, w)) (k : fz_R d M (pc + 3) ls (fz_i n :: st) h Q) : fz_R d M pc ls st h Q :=
  fz_pure (fun hs => fz_n0 (show fz_nv (fz_i n) from ⟨by omega, by omega⟩) hs) (fun E p l e R s m args below meth c cells slots Qf H locs lsc hx hb hs kk => lv_sipush hx hb (fz_dec hM hc) (fz_e_i16 hn) kk) k
theorem fz_lconst {n : Fin 2} {x : Int} (hn : -128 ≤ x ∧ x < 128) (hv : Int64.ofNat (n : Nat) = Int64.ofInt x) (hM : fz_okM M = true) (hc : fz_at M.2.2.2.2 pc = some (.lconst n, 1, a, b, w)) (k : fz_R d M (pc + 1) ls (fz_l x :: st) h Q) : fz_R d M pc ls st h Q :=
  fz_pure (fun hs => fz_n0 (show fz_nv (fz_l x) from ⟨by omega, by omega⟩) hs) (fun E p l e R s m args below meth c cells slots Qf H locs lsc hx hb hs kk => lv_lconst hx hb (fz_dec hM hc) hv kk) k
theorem fz_iadd {x y : Int} (hM : fz_okM M = true) (hc : fz_at M.2.2.2.2 pc = some (.iadd, 1, a, b, w)) (k : fz_R d M (pc + 1) ls (fz_i (fz_w (x + y)) :: st) h Q) : fz_R d M pc ls (fz_i y :: fz_i x :: st) h Q := by
  refine fz_pure (fun hs => fz_n2 (show fz_nv (fz_i _) from fz_w_b _) hs) (fun E p l e R s m args below meth c cells slots Qf H locs lsc hx hb hs kk => ?_) k
  show W p l e R s m args below meth c H locs cells slots Qf (F0 m pc lsc (.int (Int32.ofInt y) :: .int (Int32.ofInt x) :: st.map (fz_cv (fz_ad E))))
  have hy1 : -2147483648 ≤ y ∧ y < 2147483648 := fz_h1 hs
  have hx1 : -2147483648 ≤ x ∧ x < 2147483648 := fz_h2 hs
  refine lv_iadd hx hb (fz_dec hM hc) ?_
  rw [fz_e_add]
  exact kk
theorem fz_isub {x y : Int} (hM : fz_okM M = true) (hc : fz_at M.2.2.2.2 pc = some (.isub, 1, a, b, w)) (k : fz_R d M (pc + 1) ls (fz_i (fz_w (x - y)) :: st) h Q) : fz_R d M pc ls (fz_i y :: fz_i x :: st) h Q := by
  refine fz_pure (fun hs => fz_n2 (show fz_nv (fz_i _) from fz_w_b _) hs) (fun E p l e R s m args below meth c cells slots Qf H locs lsc hx hb hs kk => ?_) k
  show W p l e R s m args below meth c H locs cells slots Qf (F0 m pc lsc (.int (Int32.ofInt y) :: .int (Int32.ofInt x) :: st.map (fz_cv (fz_ad E))))
  have hy1 : -2147483648 ≤ y ∧ y < 2147483648 := fz_h1 hs
  have hx1 : -2147483648 ≤ x ∧ x < 2147483648 := fz_h2 hs
  refine lv_isub hx hb (fz_dec hM hc) ?_
  rw [fz_e_sub]
  exact kk
theorem fz_imul {x y : Int} (hM : fz_okM M = true) (hc : fz_at M.2.2.2.2 pc = some (.imul, 1, a, b, w)) (k : fz_R d M (pc + 1) ls (fz_i (fz_w (x * y)) :: st) h Q) : fz_R d M pc ls (fz_i y :: fz_i x :: st) h Q := by
  refine fz_pure (fun hs => fz_n2 (show fz_nv (fz_i _) from fz_w_b _) hs) (fun E p l e R s m args below meth c cells slots Qf H locs lsc hx hb hs kk => ?_) k
  show W p l e R s m args below meth c H locs cells slots Qf (F0 m pc lsc (.int (Int32.ofInt y) :: .int (Int32.ofInt x) :: st.map (fz_cv (fz_ad E))))
  have hy1 : -2147483648 ≤ y ∧ y < 2147483648 := fz_h1 hs
  have hx1 : -2147483648 ≤ x ∧ x < 2147483648 := fz_h2 hs
  refine lv_imul hx hb (fz_dec hM hc) ?_
  rw [fz_e_mul]
  exact kk
theorem fz_idiv {x y : Int} (hne : ¬ y = 0) (hM : fz_okM M = true) (hc : fz_at M.2.2.2.2 pc = some (.idiv, 1, a, b, w)) (k : fz_R d M (pc + 1) ls (fz_i (fz_w (Int.tdiv x y)) :: st) h Q) : fz_R d M pc ls (fz_i y :: fz_i x :: st) h Q := by
  refine fz_pure (fun hs => fz_n2 (show fz_nv (fz_i _) from fz_w_b _) hs) (fun E p l e R s m args below meth c cells slots Qf H locs lsc hx hb hs kk => ?_) k
  show W p l e R s m args below meth c H locs cells slots Qf (F0 m pc lsc (.int (Int32.ofInt y) :: .int (Int32.ofInt x) :: st.map (fz_cv (fz_ad E))))
  have hy1 : -2147483648 ≤ y ∧ y < 2147483648 := fz_h1 hs
  have hx1 : -2147483648 ≤ x ∧ x < 2147483648 := fz_h2 hs
  refine lv_idiv hx hb (fz_dec hM hc) (fun z => hne ((fz_eq hy1 ⟨by omega, by omega⟩).mp (z.trans fz_e_0))) ?_
  rw [fz_e_div hx1 hy1]
  exact kk
theorem fz_irem {x y : Int} (hne : ¬ y = 0) (hM : fz_okM M = true) (hc : fz_at M.2.2.2.2 pc = some (.irem, 1, a, b, w)) (k : fz_R d M (pc + 1) ls (fz_i (fz_w (Int.tmod x y)) :: st) h Q) : fz_R d M pc ls (fz_i y :: fz_i x :: st) h Q := by
  refine fz_pure (fun hs => fz_n2 (show fz_nv (fz_i _) from fz_w_b _) hs) (fun E p l e R s m args below meth c cells slots Qf H locs lsc hx hb hs kk => ?_) k
  show W p l e R s m args below meth c H locs cells slots Qf (F0 m pc lsc (.int (Int32.ofInt y) :: .int (Int32.ofInt x) :: st.map (fz_cv (fz_ad E))))
  have hy1 : -2147483648 ≤ y ∧ y < 2147483648 := fz_h1 hs
  have hx1 : -2147483648 ≤ x ∧ x < 2147483648 := fz_h2 hs
  refine lv_irem hx hb (fz_dec hM hc) (fun z => hne ((fz_eq hy1 ⟨by omega, by omega⟩).mp (z.trans fz_e_0))) ?_
  rw [fz_e_rem hx1 hy1]
  exact kk
theorem fz_iand {x y : Int} (hM : fz_okM M = true) (hc : fz_at M.2.2.2.2 pc = some (.iand, 1, a, b, w)) (k : fz_R d M (pc + 1) ls (fz_i (fz_and x y) :: st) h Q) : fz_R d M pc ls (fz_i y :: fz_i x :: st) h Q := by
  refine fz_pure (fun hs => fz_n2 (show fz_nv (fz_i _) from fz_b32 _) hs) (fun E p l e R s m args below meth c cells slots Qf H locs lsc hx hb hs kk => ?_) k
  show W p l e R s m args below meth c H locs cells slots Qf (F0 m pc lsc (.int (Int32.ofInt y) :: .int (Int32.ofInt x) :: st.map (fz_cv (fz_ad E))))
  have hy1 : -2147483648 ≤ y ∧ y < 2147483648 := fz_h1 hs
  have hx1 : -2147483648 ≤ x ∧ x < 2147483648 := fz_h2 hs
  refine lv_iand hx hb (fz_dec hM hc) ?_
  rw [show Int32.ofInt x &&& Int32.ofInt y = Int32.ofInt (fz_and x y) from (fz_r32 _).symm]
  exact kk
theorem fz_ior {x y : Int} (hM : fz_okM M = true) (hc : fz_at M.2.2.2.2 pc = some (.ior, 1, a, b, w)) (k : fz_R d M (pc + 1) ls (fz_i (fz_or x y) :: st) h Q) : fz_R d M pc ls (fz_i y :: fz_i x :: st) h Q := by
  refine fz_pure (fun hs => fz_n2 (show fz_nv (fz_i _) from fz_b32 _) hs) (fun E p l e R s m args below meth c cells slots Qf H locs lsc hx hb hs kk => ?_) k
  show W p l e R s m args below meth c H locs cells slots Qf (F0 m pc lsc (.int (Int32.ofInt y) :: .int (Int32.ofInt x) :: st.map (fz_cv (fz_ad E))))
  have hy1 : -2147483648 ≤ y ∧ y < 2147483648 := fz_h1 hs
  have hx1 : -2147483648 ≤ x ∧ x < 2147483648 := fz_h2 hs
  refine lv_ior hx hb (fz_dec hM hc) ?_
  rw [show Int32.ofInt x ||| Int32.ofInt y = Int32.ofInt (fz_or x y) from (fz_r32 _).symm]
  exact kk
theorem fz_ixor {x y : Int} (hM : fz_okM M = true) (hc : fz_at M.2.2.2.2 pc = some (.ixor, 1, a, b, w)) (k : fz_R d M (pc + 1) ls (fz_i (fz_xor x y) :: st) h Q) : fz_R d M pc ls (fz_i y :: fz_i x :: st) h Q := by
  refine fz_pure (fun hs => fz_n2 (show fz_nv (fz_i _) from fz_b32 _) hs) (fun E p l e R s m args below meth c cells slots Qf H locs lsc hx hb hs kk => ?_) k
  show W p l e R s m args below meth c H locs cells slots Qf (F0 m pc lsc (.int (Int32.ofInt y) :: .int (Int32.ofInt x) :: st.map (fz_cv (fz_ad E))))
  have hy1 : -2147483648 ≤ y ∧ y < 2147483648 := fz_h1 hs
  have hx1 : -2147483648 ≤ x ∧ x < 2147483648 := fz_h2 hs
  refine lv_ixor hx hb (fz_dec hM hc) ?_
  rw [show Int32.ofInt x ^^^ Int32.ofInt y = Int32.ofInt (fz_xor x y) from (fz_r32 _).symm]
  exact kk
theorem fz_ishl {x y : Int} (hM : fz_okM M = true) (hc : fz_at M.2.2.2.2 pc = some (.ishl, 1, a, b, w)) (k : fz_R d M (pc + 1) ls (fz_i (fz_shl x y) :: st) h Q) : fz_R d M pc ls (fz_i y :: fz_i x :: st) h Q := by
  refine fz_pure (fun hs => fz_n2 (show fz_nv (fz_i _) from fz_b32 _) hs) (fun E p l e R s m args below meth c cells slots Qf H locs lsc hx hb hs kk => ?_) k
  show W p l e R s m args below meth c H locs cells slots Qf (F0 m pc lsc (.int (Int32.ofInt y) :: .int (Int32.ofInt x) :: st.map (fz_cv (fz_ad E))))
  have hy1 : -2147483648 ≤ y ∧ y < 2147483648 := fz_h1 hs
  have hx1 : -2147483648 ≤ x ∧ x < 2147483648 := fz_h2 hs
  refine lv_ishl hx hb (fz_dec hM hc) ?_
  rw [show Int32.ofInt x <<< (Int32.ofInt y &&& 31) = Int32.ofInt (fz_shl x y) from (fz_r32 _).symm]
  exact kk
theorem fz_ishr {x y : Int} (hM : fz_okM M = true) (hc : fz_at M.2.2.2.2 pc = some (.ishr, 1, a, b, w)) (k : fz_R d M (pc + 1) ls (fz_i (fz_shr x y) :: st) h Q) : fz_R d M pc ls (fz_i y :: fz_i x :: st) h Q := by
  refine fz_pure (fun hs => fz_n2 (show fz_nv (fz_i _) from fz_b32 _) hs) (fun E p l e R s m args below meth c cells slots Qf H locs lsc hx hb hs kk => ?_) k
  show W p l e R s m args below meth c H locs cells slots Qf (F0 m pc lsc (.int (Int32.ofInt y) :: .int (Int32.ofInt x) :: st.map (fz_cv (fz_ad E))))
  have hy1 : -2147483648 ≤ y ∧ y < 2147483648 := fz_h1 hs
  have hx1 : -2147483648 ≤ x ∧ x < 2147483648 := fz_h2 hs
  refine lv_ishr hx hb (fz_dec hM hc) ?_
  rw [show Int32.ofInt x >>> (Int32.ofInt y &&& 31) = Int32.ofInt (fz_shr x y) from (fz_r32 _).symm]
  exact kk
theorem fz_iushr {x y : Int} (hM : fz_okM M = true) (hc : fz_at M.2.2.2.2 pc = some (.iushr, 1, a, b, w)) (k : fz_R d M (pc + 1) ls (fz_i (fz_ush x y) :: st) h Q) : fz_R d M pc ls (fz_i y :: fz_i x :: st) h Q := by
  refine fz_pure (fun hs => fz_n2 (show fz_nv (fz_i _) from fz_b32 _) hs) (fun E p l e R s m args below meth c cells slots Qf H locs lsc hx hb hs kk => ?_) k
  show W p l e R s m args below meth c H locs cells slots Qf (F0 m pc lsc (.int (Int32.ofInt y) :: .int (Int32.ofInt x) :: st.map (fz_cv (fz_ad E))))
  have hy1 : -2147483648 ≤ y ∧ y < 2147483648 := fz_h1 hs
  have hx1 : -2147483648 ≤ x ∧ x < 2147483648 := fz_h2 hs
  refine lv_iushr hx hb (fz_dec hM hc) rfl ?_
  rw [show ((Int32.ofInt x).toUInt32 >>> ((Int32.ofInt y).toUInt32 &&& Int32.toUInt32 31)).toInt32 = Int32.ofInt (fz_ush x y) from (fz_r32 _).symm]
  exact kk
theorem fz_ladd {x y : Int} (hM : fz_okM M = true) (hc : fz_at M.2.2.2.2 pc = some (.ladd, 1, a, b, w)) (k : fz_R d M (pc + 1) ls (fz_l (fz_wl (x + y)) :: st) h Q) : fz_R d M pc ls (fz_l y :: fz_l x :: st) h Q := by
  refine fz_pure (fun hs => fz_n2 (show fz_nv (fz_l _) from fz_wl_b _) hs) (fun E p l e R s m args below meth c cells slots Qf H locs lsc hx hb hs kk => ?_) k
  show W p l e R s m args below meth c H locs cells slots Qf (F0 m pc lsc (.long (Int64.ofInt y) :: .long (Int64.ofInt x) :: st.map (fz_cv (fz_ad E))))
  have hy1 : -9223372036854775808 ≤ y ∧ y < 9223372036854775808 := fz_h1 hs
  have hx1 : -9223372036854775808 ≤ x ∧ x < 9223372036854775808 := fz_h2 hs
  refine lv_ladd hx hb (fz_dec hM hc) ?_
  rw [fz_e_addl]
  exact kk
theorem fz_lmul {x y : Int} (hM : fz_okM M = true) (hc : fz_at M.2.2.2.2 pc = some (.lmul, 1, a, b, w)) (k : fz_R d M (pc + 1) ls (fz_l (fz_wl (x * y)) :: st) h Q) : fz_R d M pc ls (fz_l y :: fz_l x :: st) h Q := by
  refine fz_pure (fun hs => fz_n2 (show fz_nv (fz_l _) from fz_wl_b _) hs) (fun E p l e R s m args below meth c cells slots Qf H locs lsc hx hb hs kk => ?_) k
  show W p l e R s m args below meth c H locs cells slots Qf (F0 m pc lsc (.long (Int64.ofInt y) :: .long (Int64.ofInt x) :: st.map (fz_cv (fz_ad E))))
  have hy1 : -9223372036854775808 ≤ y ∧ y < 9223372036854775808 := fz_h1 hs
  have hx1 : -9223372036854775808 ≤ x ∧ x < 9223372036854775808 := fz_h2 hs
  refine lv_lmul hx hb (fz_dec hM hc) ?_
  rw [fz_e_mull]
  exact kk
theorem fz_ldiv {x y : Int} (hne : ¬ y = 0) (hM : fz_okM M = true) (hc : fz_at M.2.2.2.2 pc = some (.ldiv, 1, a, b, w)) (k : fz_R d M (pc + 1) ls (fz_l (fz_wl (Int.tdiv x y)) :: st) h Q) : fz_R d M pc ls (fz_l y :: fz_l x :: st) h Q := by
  refine fz_pure (fun hs => fz_n2 (show fz_nv (fz_l _) from fz_wl_b _) hs) (fun E p l e R s m args below meth c cells slots Qf H locs lsc hx hb hs kk => ?_) k
  show W p l e R s m args below meth c H locs cells slots Qf (F0 m pc lsc (.long (Int64.ofInt y) :: .long (Int64.ofInt x) :: st.map (fz_cv (fz_ad E))))
  have hy1 : -9223372036854775808 ≤ y ∧ y < 9223372036854775808 := fz_h1 hs
  have hx1 : -9223372036854775808 ≤ x ∧ x < 9223372036854775808 := fz_h2 hs
  refine lv_ldiv hx hb (fz_dec hM hc) (fun z => hne ((fz_eql hy1 ⟨by omega, by omega⟩).mp (z.trans (show (0 : Int64) = Int64.ofInt 0 from rfl)))) ?_
  rw [fz_e_divl hx1 hy1]
  exact kk
theorem fz_lrem {x y : Int} (hne : ¬ y = 0) (hM : fz_okM M = true) (hc : fz_at M.2.2.2.2 pc = some (.lrem, 1, a, b, w)) (k : fz_R d M (pc + 1) ls (fz_l (fz_wl (Int.tmod x y)) :: st) h Q) : fz_R d M pc ls (fz_l y :: fz_l x :: st) h Q := by
  refine fz_pure (fun hs => fz_n2 (show fz_nv (fz_l _) from fz_wl_b _) hs) (fun E p l e R s m args below meth c cells slots Qf H locs lsc hx hb hs kk => ?_) k
  show W p l e R s m args below meth c H locs cells slots Qf (F0 m pc lsc (.long (Int64.ofInt y) :: .long (Int64.ofInt x) :: st.map (fz_cv (fz_ad E))))
  have hy1 : -9223372036854775808 ≤ y ∧ y < 9223372036854775808 := fz_h1 hs
  have hx1 : -9223372036854775808 ≤ x ∧ x < 9223372036854775808 := fz_h2 hs
  refine lv_lrem hx hb (fz_dec hM hc) (fun z => hne ((fz_eql hy1 ⟨by omega, by omega⟩).mp (z.trans (show (0 : Int64) = Int64.ofInt 0 from rfl)))) ?_
  rw [fz_e_reml hx1 hy1]
  exact kk
theorem fz_land {x y : Int} (hM : fz_okM M = true) (hc : fz_at M.2.2.2.2 pc = some (.land, 1, a, b, w)) (k : fz_R d M (pc + 1) ls (fz_l (fz_andl x y) :: st) h Q) : fz_R d M pc ls (fz_l y :: fz_l x :: st) h Q := by
  refine fz_pure (fun hs => fz_n2 (show fz_nv (fz_l _) from fz_b64 _) hs) (fun E p l e R s m args below meth c cells slots Qf H locs lsc hx hb hs kk => ?_) k
  show W p l e R s m args below meth c H locs cells slots Qf (F0 m pc lsc (.long (Int64.ofInt y) :: .long (Int64.ofInt x) :: st.map (fz_cv (fz_ad E))))
  have hy1 : -9223372036854775808 ≤ y ∧ y < 9223372036854775808 := fz_h1 hs
  have hx1 : -9223372036854775808 ≤ x ∧ x < 9223372036854775808 := fz_h2 hs
  refine lv_land hx hb (fz_dec hM hc) ?_
  rw [show Int64.ofInt x &&& Int64.ofInt y = Int64.ofInt (fz_andl x y) from (fz_r64 _).symm]
  exact kk
theorem fz_lor {x y : Int} (hM : fz_okM M = true) (hc : fz_at M.2.2.2.2 pc = some (.lor, 1, a, b, w)) (k : fz_R d M (pc + 1) ls (fz_l (fz_orl x y) :: st) h Q) : fz_R d M pc ls (fz_l y :: fz_l x :: st) h Q := by
  refine fz_pure (fun hs => fz_n2 (show fz_nv (fz_l _) from fz_b64 _) hs) (fun E p l e R s m args below meth c cells slots Qf H locs lsc hx hb hs kk => ?_) k
  show W p l e R s m args below meth c H locs cells slots Qf (F0 m pc lsc (.long (Int64.ofInt y) :: .long (Int64.ofInt x) :: st.map (fz_cv (fz_ad E))))
  have hy1 : -9223372036854775808 ≤ y ∧ y < 9223372036854775808 := fz_h1 hs
  have hx1 : -9223372036854775808 ≤ x ∧ x < 9223372036854775808 := fz_h2 hs
  refine lv_lor hx hb (fz_dec hM hc) ?_
  rw [show Int64.ofInt x ||| Int64.ofInt y = Int64.ofInt (fz_orl x y) from (fz_r64 _).symm]
  exact kk
theorem fz_lshl {x y : Int} (hM : fz_okM M = true) (hc : fz_at M.2.2.2.2 pc = some (.lshl, 1, a, b, w)) (k : fz_R d M (pc + 1) ls (fz_l (fz_shll x y) :: st) h Q) : fz_R d M pc ls (fz_i y :: fz_l x :: st) h Q := by
  refine fz_pure (fun hs => fz_n2 (show fz_nv (fz_l _) from fz_b64 _) hs) (fun E p l e R s m args below meth c cells slots Qf H locs lsc hx hb hs kk => ?_) k
  show W p l e R s m args below meth c H locs cells slots Qf (F0 m pc lsc (.int (Int32.ofInt y) :: .long (Int64.ofInt x) :: st.map (fz_cv (fz_ad E))))
  refine lv_lshl hx hb (fz_dec hM hc) (v := Int64.ofInt (fz_shll x y)) (fz_r64 _).symm ?_
  exact kk
theorem fz_lcmp {x y : Int} (hM : fz_okM M = true) (hc : fz_at M.2.2.2.2 pc = some (.lcmp, 1, a, b, w)) (k : fz_R d M (pc + 1) ls (fz_i (fz_cmp x y) :: st) h Q) : fz_R d M pc ls (fz_l y :: fz_l x :: st) h Q := by
  refine fz_pure (fun hs => fz_n2 (show fz_nv (fz_i _) from by unfold fz_cmp; constructor <;> (split <;> (try split) <;> omega)) hs) (fun E p l e R s m args below meth c cells slots Qf H locs lsc hx hb hs kk => ?_) k
  show W p l e R s m args below meth c H locs cells slots Qf (F0 m pc lsc (.long (Int64.ofInt y) :: .long (Int64.ofInt x) :: st.map (fz_cv (fz_ad E))))
  refine W.lcmp hx hb (fz_dec hM hc) ?_
  rw [fz_e_cmp (fz_h2 hs : fz_nv (fz_l x)) (fz_h1 hs : fz_nv (fz_l y))]
  exact kk
theorem fz_ineg {x : Int} (hM : fz_okM M = true) (hc : fz_at M.2.2.2.2 pc = some (.ineg, 1, a, b, w)) (k : fz_R d M (pc + 1) ls (fz_i (fz_w (- x)) :: st) h Q) : fz_R d M pc ls (fz_i x :: st) h Q := by
  refine fz_pure (fun hs => fz_n1 (show fz_nv (fz_i _) from fz_w_b _) hs) (fun E p l e R s m args below meth c cells slots Qf H locs lsc hx hb hs kk => ?_) k
  show W p l e R s m args below meth c H locs cells slots Qf (F0 m pc lsc (.int (Int32.ofInt x) :: st.map (fz_cv (fz_ad E))))
  have hx1 : fz_nv (fz_i x) := fz_h1 hs
  refine lv_ineg hx hb (fz_dec hM hc) ?_
  rw [fz_e_neg]
  exact kk
theorem fz_i2l {x : Int} (hM : fz_okM M = true) (hc : fz_at M.2.2.2.2 pc = some (.i2l, 1, a, b, w)) (k : fz_R d M (pc + 1) ls (fz_l (x) :: st) h Q) : fz_R d M pc ls (fz_i x :: st) h Q := by
  refine fz_pure (fun hs => fz_n1 (show fz_nv (fz_l _) from (by have : -2147483648 ≤ x ∧ x < 2147483648 := fz_h1 hs; exact ⟨by omega, by omega⟩)) hs) (fun E p l e R s m args below meth c cells slots Qf H locs lsc hx hb hs kk => ?_) k
  show W p l e R s m args below meth c H locs cells slots Qf (F0 m pc lsc (.int (Int32.ofInt x) :: st.map (fz_cv (fz_ad E))))
  have hx1 : fz_nv (fz_i x) := fz_h1 hs
  exact lv_i2l hx hb (fz_dec hM hc) (fz_e_i2l hx1) kk
theorem fz_l2i {x : Int} (hM : fz_okM M = true) (hc : fz_at M.2.2.2.2 pc = some (.l2i, 1, a, b, w)) (k : fz_R d M (pc + 1) ls (fz_i (fz_w x) :: st) h Q) : fz_R d M pc ls (fz_l x :: st) h Q := by
  refine fz_pure (fun hs => fz_n1 (show fz_nv (fz_i _) from fz_w_b _) hs) (fun E p l e R s m args below meth c cells slots Qf H locs lsc hx hb hs kk => ?_) k
  show W p l e R s m args below meth c H locs cells slots Qf (F0 m pc lsc (.long (Int64.ofInt x) :: st.map (fz_cv (fz_ad E))))
  have hx1 : fz_nv (fz_l x) := fz_h1 hs
  exact lv_l2i hx hb (fz_dec hM hc) (fz_e_l2i x) kk
theorem fz_ci2b {x : Int} (hM : fz_okM M = true) (hc : fz_at M.2.2.2.2 pc = some (.i2b, 1, a, b, w)) (k : fz_R d M (pc + 1) ls (fz_i (fz_i2b x) :: st) h Q) : fz_R d M pc ls (fz_i x :: st) h Q := by
  refine fz_pure (fun hs => fz_n1 (show fz_nv (fz_i _) from (by have := fz_i2b_b x; exact ⟨by omega, by omega⟩)) hs) (fun E p l e R s m args below meth c cells slots Qf H locs lsc hx hb hs kk => ?_) k
  show W p l e R s m args below meth c H locs cells slots Qf (F0 m pc lsc (.int (Int32.ofInt x) :: st.map (fz_cv (fz_ad E))))
  have hx1 : fz_nv (fz_i x) := fz_h1 hs
  exact lv_i2b hx hb (fz_dec hM hc) (fz_e_i2b x) kk
theorem fz_ci2s {x : Int} (hM : fz_okM M = true) (hc : fz_at M.2.2.2.2 pc = some (.i2s, 1, a, b, w)) (k : fz_R d M (pc + 1) ls (fz_i (fz_i2s x) :: st) h Q) : fz_R d M pc ls (fz_i x :: st) h Q := by
  refine fz_pure (fun hs => fz_n1 (show fz_nv (fz_i _) from (by have := fz_i2s_b x; exact ⟨by omega, by omega⟩)) hs) (fun E p l e R s m args below meth c cells slots Qf H locs lsc hx hb hs kk => ?_) k
  show W p l e R s m args below meth c H locs cells slots Qf (F0 m pc lsc (.int (Int32.ofInt x) :: st.map (fz_cv (fz_ad E))))
  have hx1 : fz_nv (fz_i x) := fz_h1 hs
  exact lv_i2s hx hb (fz_dec hM hc) (fz_e_i2s x) kk
theorem fz_c1 {E : fz_E} {v : fz_V} (hv : fz_cat v = 1) : (fz_cv (fz_ad E) v).category = 1 := by rw [fz_cat_cv, hv]
theorem fz_dup {u : fz_V} (hu : fz_cat u = 1) (hM : fz_okM M = true) (hc : fz_at M.2.2.2.2 pc = some (.dup, 1, a, b, w)) (k : fz_R d M (pc + 1) ls (u :: u :: st) h Q) : fz_R d M pc ls (u :: st) h Q :=
  fz_pure (fun hs => fz_n0 (fz_h1 hs) hs) (fun E p l e R s m args below meth c cells slots Qf H locs lsc hx hb hs kk => lv_dup hx hb (fz_dec hM hc) (fz_c1 hu) kk) k
theorem fz_pop {u : fz_V} (hu : fz_cat u = 1) (hM : fz_okM M = true) (hc : fz_at M.2.2.2.2 pc = some (.pop, 1, a, b, w)) (k : fz_R d M (pc + 1) ls st h Q) : fz_R d M pc ls (u :: st) h Q :=
  fz_pure (fun hs => fz_tl hs) (fun E p l e R s m args below meth c cells slots Qf H locs lsc hx hb hs kk => lv_pop hx hb (fz_dec hM hc) (fz_c1 hu) kk) k
theorem fz_pop2 {x : Int} (hM : fz_okM M = true) (hc : fz_at M.2.2.2.2 pc = some (.pop2, 1, a, b, w)) (k : fz_R d M (pc + 1) ls st h Q) : fz_R d M pc ls (fz_l x :: st) h Q :=
  fz_pure (fun hs => fz_tl hs) (fun E p l e R s m args below meth c cells slots Qf H locs lsc hx hb hs kk => lv_pop2_2 hx hb (fz_dec hM hc) rfl kk) k
theorem fz_dup_x1 {u v : fz_V} (hu : fz_cat u = 1) (hv : fz_cat v = 1) (hM : fz_okM M = true) (hc : fz_at M.2.2.2.2 pc = some (.dup_x1, 1, a, b, w)) (k : fz_R d M (pc + 1) ls (u :: v :: u :: st) h Q) : fz_R d M pc ls (u :: v :: st) h Q :=
  fz_pure (fun hs => fz_n0 (fz_h1 hs) (fz_n0 (fz_h2 hs) (fz_n2 (fz_h1 hs) hs))) (fun E p l e R s m args below meth c cells slots Qf H locs lsc hx hb hs kk => lv_dup_x1 hx hb (fz_dec hM hc) (fz_c1 hu) (fz_c1 hv) kk) k
theorem fz_dup2 {u v : fz_V} (hu : fz_cat u = 1) (hv : fz_cat v = 1) (hM : fz_okM M = true) (hc : fz_at M.2.2.2.2 pc = some (.dup2, 1, a, b, w)) (k : fz_R d M (pc + 1) ls (u :: v :: u :: v :: st) h Q) : fz_R d M pc ls (u :: v :: st) h Q :=
  fz_pure (fun hs => fz_n0 (fz_h1 hs) (fz_n0 (fz_h2 hs) hs)) (fun E p l e R s m args below meth c cells slots Qf H locs lsc hx hb hs kk => lv_dup2_11 hx hb (fz_dec hM hc) (fz_c1 hu) (fz_c1 hv) kk) k
theorem fz_goto {off : Int} {tgt : Nat} (hM : fz_okM M = true) (hc : fz_at M.2.2.2.2 pc = some (.goto off, 3, a, b, w)) (ht : (pc : Int) + off = (tgt : Int)) (k : fz_R d M tgt ls st h Q) : fz_R d M pc ls st h Q :=
  fz_pure id (fun E p l e R s m args below meth c cells slots Qf H locs lsc hx hb hs kk => lv_goto hx hb (fz_dec hM hc) ht kk) k
theorem fz_br {c1 : Prop} {pc1 pc2 : Nat} {st' : List fz_V} (hn : (∀ v ∈ st, fz_nv v) → ∀ v ∈ st', fz_nv v)
    (hw : ∀ (E : fz_E) (p : Program) (l : Launch) (e : Env) (R : Room) (s : State) (m : MethodId) (args : Array Value) (below : List Frame) (meth : Method) (c : Code) (cells slots : Nat) (Qf : State → Prop) (H : Heap) (locs : List Loc) (lsc : Array Slot),
      p.tables.exec = Jvm.exec → c.code = M.2.1 → (∀ v ∈ st, fz_nv v) → (c1 → W p l e R s m args below meth c H locs cells slots Qf (F0 m pc1 lsc (st'.map (fz_cv (fz_ad E))))) → (¬ c1 → W p l e R s m args below meth c H locs cells slots Qf (F0 m pc2 lsc (st'.map (fz_cv (fz_ad E))))) → W p l e R s m args below meth c H locs cells slots Qf (F0 m pc lsc (st.map (fz_cv (fz_ad E)))))
    (k1 : c1 → fz_R d M pc1 ls st' h Q) (k2 : ¬ c1 → fz_R d M pc2 ls st' h Q) : fz_R d M pc ls st h Q := by
  intro E p l e R s m args below meth c cells slots Qf C hend H locs lsc hW hs hl hh
  exact hw E p l e R s m args below meth c cells slots Qf H locs lsc C.1 C.2.1 hs (fun z => k1 z E p l e R s m args below meth c cells slots Qf C hend H locs lsc hW (hn hs) hl hh) (fun z => k2 z E p l e R s m args below meth c cells slots Qf C hend H locs lsc hW (hn hs) hl hh)
theorem fz_z0 : -2147483648 ≤ (0 : Int) ∧ (0 : Int) < 2147483648 := ⟨by decide, by decide⟩
theorem fz_icmp_eq {x y : Int} {off : Int} {tgt : Nat} (hM : fz_okM M = true) (hc : fz_at M.2.2.2.2 pc = some (.if_icmp .eq off, 3, a, b, w)) (ht : (pc : Int) + off = (tgt : Int)) (k1 : x = y → fz_R d M tgt ls st h Q) (k2 : ¬ (x = y) → fz_R d M (pc + 3) ls st h Q) : fz_R d M pc ls (fz_i y :: fz_i x :: st) h Q := by
  refine fz_br (fun hs => fz_tl (fz_tl hs)) (fun E p l e R s m args below meth c cells slots Qf H locs lsc hx hb hs kk kk2 => ?_) k1 k2
  show W p l e R s m args below meth c H locs cells slots Qf (F0 m pc lsc (.int (Int32.ofInt y) :: .int (Int32.ofInt x) :: st.map (fz_cv (fz_ad E))))
  have hy1 : -2147483648 ≤ y ∧ y < 2147483648 := fz_h1 hs
  have hx1 : -2147483648 ≤ x ∧ x < 2147483648 := fz_h2 hs
  exact lv_icmp_eq hx hb (fz_dec hM hc) ht (fun z => kk ((fz_eq hx1 hy1).mp z)) (fun z => kk2 (fun q => z ((fz_eq hx1 hy1).mpr q)))
theorem fz_if_eq {x : Int} {off : Int} {tgt : Nat} (hM : fz_okM M = true) (hc : fz_at M.2.2.2.2 pc = some (.ifCond .eq off, 3, a, b, w)) (ht : (pc : Int) + off = (tgt : Int)) (k1 : x = 0 → fz_R d M tgt ls st h Q) (k2 : ¬ (x = 0) → fz_R d M (pc + 3) ls st h Q) : fz_R d M pc ls (fz_i x :: st) h Q := by
  refine fz_br (fun hs => fz_tl hs) (fun E p l e R s m args below meth c cells slots Qf H locs lsc hx hb hs kk kk2 => ?_) k1 k2
  show W p l e R s m args below meth c H locs cells slots Qf (F0 m pc lsc (.int (Int32.ofInt x) :: st.map (fz_cv (fz_ad E))))
  have hx1 : -2147483648 ≤ x ∧ x < 2147483648 := fz_h1 hs
  exact lv_if_eq hx hb (fz_dec hM hc) ht (fun z => kk ((fz_eq hx1 fz_z0).mp z)) (fun z => kk2 (fun q => z ((fz_eq hx1 fz_z0).mpr q)))
theorem fz_icmp_ne {x y : Int} {off : Int} {tgt : Nat} (hM : fz_okM M = true) (hc : fz_at M.2.2.2.2 pc = some (.if_icmp .ne off, 3, a, b, w)) (ht : (pc : Int) + off = (tgt : Int)) (k1 : ¬ x = y → fz_R d M tgt ls st h Q) (k2 : x = y → fz_R d M (pc + 3) ls st h Q) : fz_R d M pc ls (fz_i y :: fz_i x :: st) h Q := by
  refine fz_br (fun hs => fz_tl (fz_tl hs)) (fun E p l e R s m args below meth c cells slots Qf H locs lsc hx hb hs kk kk2 => ?_) k2 k1
  show W p l e R s m args below meth c H locs cells slots Qf (F0 m pc lsc (.int (Int32.ofInt y) :: .int (Int32.ofInt x) :: st.map (fz_cv (fz_ad E))))
  have hy1 : -2147483648 ≤ y ∧ y < 2147483648 := fz_h1 hs
  have hx1 : -2147483648 ≤ x ∧ x < 2147483648 := fz_h2 hs
  exact lv_icmp_ne hx hb (fz_dec hM hc) ht (fun z => kk2 (fun q => z ((fz_eq hx1 hy1).mpr q))) (fun z => kk ((fz_eq hx1 hy1).mp z))
theorem fz_if_ne {x : Int} {off : Int} {tgt : Nat} (hM : fz_okM M = true) (hc : fz_at M.2.2.2.2 pc = some (.ifCond .ne off, 3, a, b, w)) (ht : (pc : Int) + off = (tgt : Int)) (k1 : ¬ x = 0 → fz_R d M tgt ls st h Q) (k2 : x = 0 → fz_R d M (pc + 3) ls st h Q) : fz_R d M pc ls (fz_i x :: st) h Q := by
  refine fz_br (fun hs => fz_tl hs) (fun E p l e R s m args below meth c cells slots Qf H locs lsc hx hb hs kk kk2 => ?_) k2 k1
  show W p l e R s m args below meth c H locs cells slots Qf (F0 m pc lsc (.int (Int32.ofInt x) :: st.map (fz_cv (fz_ad E))))
  have hx1 : -2147483648 ≤ x ∧ x < 2147483648 := fz_h1 hs
  exact lv_if_ne hx hb (fz_dec hM hc) ht (fun z => kk2 (fun q => z ((fz_eq hx1 fz_z0).mpr q))) (fun z => kk ((fz_eq hx1 fz_z0).mp z))
theorem fz_icmp_lt {x y : Int} {off : Int} {tgt : Nat} (hM : fz_okM M = true) (hc : fz_at M.2.2.2.2 pc = some (.if_icmp .lt off, 3, a, b, w)) (ht : (pc : Int) + off = (tgt : Int)) (k1 : x < y → fz_R d M tgt ls st h Q) (k2 : ¬ (x < y) → fz_R d M (pc + 3) ls st h Q) : fz_R d M pc ls (fz_i y :: fz_i x :: st) h Q := by
  refine fz_br (fun hs => fz_tl (fz_tl hs)) (fun E p l e R s m args below meth c cells slots Qf H locs lsc hx hb hs kk kk2 => ?_) k1 k2
  show W p l e R s m args below meth c H locs cells slots Qf (F0 m pc lsc (.int (Int32.ofInt y) :: .int (Int32.ofInt x) :: st.map (fz_cv (fz_ad E))))
  have hy1 : -2147483648 ≤ y ∧ y < 2147483648 := fz_h1 hs
  have hx1 : -2147483648 ≤ x ∧ x < 2147483648 := fz_h2 hs
  exact lv_icmp_lt hx hb (fz_dec hM hc) ht (fun z => kk ((fz_lt hx1 hy1).mp z)) (fun z => kk2 (fun q => z ((fz_lt hx1 hy1).mpr q)))
theorem fz_if_lt {x : Int} {off : Int} {tgt : Nat} (hM : fz_okM M = true) (hc : fz_at M.2.2.2.2 pc = some (.ifCond .lt off, 3, a, b, w)) (ht : (pc : Int) + off = (tgt : Int)) (k1 : x < 0 → fz_R d M tgt ls st h Q) (k2 : ¬ (x < 0) → fz_R d M (pc + 3) ls st h Q) : fz_R d M pc ls (fz_i x :: st) h Q := by
  refine fz_br (fun hs => fz_tl hs) (fun E p l e R s m args below meth c cells slots Qf H locs lsc hx hb hs kk kk2 => ?_) k1 k2
  show W p l e R s m args below meth c H locs cells slots Qf (F0 m pc lsc (.int (Int32.ofInt x) :: st.map (fz_cv (fz_ad E))))
  have hx1 : -2147483648 ≤ x ∧ x < 2147483648 := fz_h1 hs
  exact lv_if_lt hx hb (fz_dec hM hc) ht (fun z => kk ((fz_lt hx1 fz_z0).mp z)) (fun z => kk2 (fun q => z ((fz_lt hx1 fz_z0).mpr q)))
theorem fz_icmp_ge {x y : Int} {off : Int} {tgt : Nat} (hM : fz_okM M = true) (hc : fz_at M.2.2.2.2 pc = some (.if_icmp .ge off, 3, a, b, w)) (ht : (pc : Int) + off = (tgt : Int)) (k1 : y ≤ x → fz_R d M tgt ls st h Q) (k2 : ¬ (y ≤ x) → fz_R d M (pc + 3) ls st h Q) : fz_R d M pc ls (fz_i y :: fz_i x :: st) h Q := by
  refine fz_br (fun hs => fz_tl (fz_tl hs)) (fun E p l e R s m args below meth c cells slots Qf H locs lsc hx hb hs kk kk2 => ?_) k1 k2
  show W p l e R s m args below meth c H locs cells slots Qf (F0 m pc lsc (.int (Int32.ofInt y) :: .int (Int32.ofInt x) :: st.map (fz_cv (fz_ad E))))
  have hy1 : -2147483648 ≤ y ∧ y < 2147483648 := fz_h1 hs
  have hx1 : -2147483648 ≤ x ∧ x < 2147483648 := fz_h2 hs
  exact lv_icmp_ge hx hb (fz_dec hM hc) ht (fun z => kk ((fz_le hy1 hx1).mp z)) (fun z => kk2 (fun q => z ((fz_le hy1 hx1).mpr q)))
theorem fz_if_ge {x : Int} {off : Int} {tgt : Nat} (hM : fz_okM M = true) (hc : fz_at M.2.2.2.2 pc = some (.ifCond .ge off, 3, a, b, w)) (ht : (pc : Int) + off = (tgt : Int)) (k1 : 0 ≤ x → fz_R d M tgt ls st h Q) (k2 : ¬ (0 ≤ x) → fz_R d M (pc + 3) ls st h Q) : fz_R d M pc ls (fz_i x :: st) h Q := by
  refine fz_br (fun hs => fz_tl hs) (fun E p l e R s m args below meth c cells slots Qf H locs lsc hx hb hs kk kk2 => ?_) k1 k2
  show W p l e R s m args below meth c H locs cells slots Qf (F0 m pc lsc (.int (Int32.ofInt x) :: st.map (fz_cv (fz_ad E))))
  have hx1 : -2147483648 ≤ x ∧ x < 2147483648 := fz_h1 hs
  exact lv_if_ge hx hb (fz_dec hM hc) ht (fun z => kk ((fz_le fz_z0 hx1).mp z)) (fun z => kk2 (fun q => z ((fz_le fz_z0 hx1).mpr q)))
theorem fz_icmp_gt {x y : Int} {off : Int} {tgt : Nat} (hM : fz_okM M = true) (hc : fz_at M.2.2.2.2 pc = some (.if_icmp .gt off, 3, a, b, w)) (ht : (pc : Int) + off = (tgt : Int)) (k1 : y < x → fz_R d M tgt ls st h Q) (k2 : ¬ (y < x) → fz_R d M (pc + 3) ls st h Q) : fz_R d M pc ls (fz_i y :: fz_i x :: st) h Q := by
  refine fz_br (fun hs => fz_tl (fz_tl hs)) (fun E p l e R s m args below meth c cells slots Qf H locs lsc hx hb hs kk kk2 => ?_) k1 k2
  show W p l e R s m args below meth c H locs cells slots Qf (F0 m pc lsc (.int (Int32.ofInt y) :: .int (Int32.ofInt x) :: st.map (fz_cv (fz_ad E))))
  have hy1 : -2147483648 ≤ y ∧ y < 2147483648 := fz_h1 hs
  have hx1 : -2147483648 ≤ x ∧ x < 2147483648 := fz_h2 hs
  exact lv_icmp_gt hx hb (fz_dec hM hc) ht (fun z => kk ((fz_lt hy1 hx1).mp z)) (fun z => kk2 (fun q => z ((fz_lt hy1 hx1).mpr q)))
theorem fz_if_gt {x : Int} {off : Int} {tgt : Nat} (hM : fz_okM M = true) (hc : fz_at M.2.2.2.2 pc = some (.ifCond .gt off, 3, a, b, w)) (ht : (pc : Int) + off = (tgt : Int)) (k1 : 0 < x → fz_R d M tgt ls st h Q) (k2 : ¬ (0 < x) → fz_R d M (pc + 3) ls st h Q) : fz_R d M pc ls (fz_i x :: st) h Q := by
  refine fz_br (fun hs => fz_tl hs) (fun E p l e R s m args below meth c cells slots Qf H locs lsc hx hb hs kk kk2 => ?_) k1 k2
  show W p l e R s m args below meth c H locs cells slots Qf (F0 m pc lsc (.int (Int32.ofInt x) :: st.map (fz_cv (fz_ad E))))
  have hx1 : -2147483648 ≤ x ∧ x < 2147483648 := fz_h1 hs
  exact lv_if_gt hx hb (fz_dec hM hc) ht (fun z => kk ((fz_lt fz_z0 hx1).mp z)) (fun z => kk2 (fun q => z ((fz_lt fz_z0 hx1).mpr q)))
theorem fz_icmp_le {x y : Int} {off : Int} {tgt : Nat} (hM : fz_okM M = true) (hc : fz_at M.2.2.2.2 pc = some (.if_icmp .le off, 3, a, b, w)) (ht : (pc : Int) + off = (tgt : Int)) (k1 : x ≤ y → fz_R d M tgt ls st h Q) (k2 : ¬ (x ≤ y) → fz_R d M (pc + 3) ls st h Q) : fz_R d M pc ls (fz_i y :: fz_i x :: st) h Q := by
  refine fz_br (fun hs => fz_tl (fz_tl hs)) (fun E p l e R s m args below meth c cells slots Qf H locs lsc hx hb hs kk kk2 => ?_) k1 k2
  show W p l e R s m args below meth c H locs cells slots Qf (F0 m pc lsc (.int (Int32.ofInt y) :: .int (Int32.ofInt x) :: st.map (fz_cv (fz_ad E))))
  have hy1 : -2147483648 ≤ y ∧ y < 2147483648 := fz_h1 hs
  have hx1 : -2147483648 ≤ x ∧ x < 2147483648 := fz_h2 hs
  exact lv_icmp_le hx hb (fz_dec hM hc) ht (fun z => kk ((fz_le hx1 hy1).mp z)) (fun z => kk2 (fun q => z ((fz_le hx1 hy1).mpr q)))
theorem fz_if_le {x : Int} {off : Int} {tgt : Nat} (hM : fz_okM M = true) (hc : fz_at M.2.2.2.2 pc = some (.ifCond .le off, 3, a, b, w)) (ht : (pc : Int) + off = (tgt : Int)) (k1 : x ≤ 0 → fz_R d M tgt ls st h Q) (k2 : ¬ (x ≤ 0) → fz_R d M (pc + 3) ls st h Q) : fz_R d M pc ls (fz_i x :: st) h Q := by
  refine fz_br (fun hs => fz_tl hs) (fun E p l e R s m args below meth c cells slots Qf H locs lsc hx hb hs kk kk2 => ?_) k1 k2
  show W p l e R s m args below meth c H locs cells slots Qf (F0 m pc lsc (.int (Int32.ofInt x) :: st.map (fz_cv (fz_ad E))))
  have hx1 : -2147483648 ≤ x ∧ x < 2147483648 := fz_h1 hs
  exact lv_if_le hx hb (fz_dec hM hc) ht (fun z => kk ((fz_le hx1 fz_z0).mp z)) (fun z => kk2 (fun q => z ((fz_le hx1 fz_z0).mpr q)))
theorem fz_tswO {x : Int} {dflt lo hi : Int} {offs : Array Int} {len : Nat} {tgt : Nat} (hM : fz_okM M = true) (hc : fz_at M.2.2.2.2 pc = some (.tableswitch dflt lo hi offs, len, a, b, w)) (hq : x < lo ∨ hi < x) (ht : (pc : Int) + dflt = (tgt : Int)) (k : fz_R d M tgt ls st h Q) : fz_R d M pc ls (fz_i x :: st) h Q := by
  refine fz_pure (fun hs => fz_tl hs) (fun E p l e R s m args below meth c cells slots Qf H locs lsc hx hb hs kk => ?_) k
  have hx1 : -2147483648 ≤ x ∧ x < 2147483648 := fz_h1 hs
  refine lv_tableOut (x := Int32.ofInt x) hx hb (fz_dec hM hc) ?_ ht kk
  rw [fz_t32 hx1]
  exact hq
theorem fz_tswI {x : Int} {dflt lo hi : Int} {offs : Array Int} {len : Nat} {off : Int} {tgt : Nat} (hM : fz_okM M = true) (hc : fz_at M.2.2.2.2 pc = some (.tableswitch dflt lo hi offs, len, a, b, w)) (h1 : ¬ x < lo) (h2 : ¬ hi < x) (ho : offs[(x - lo).toNat]? = some off) (ht : (pc : Int) + off = (tgt : Int)) (k : fz_R d M tgt ls st h Q) : fz_R d M pc ls (fz_i x :: st) h Q := by
  refine fz_pure (fun hs => fz_tl hs) (fun E p l e R s m args below meth c cells slots Qf H locs lsc hx hb hs kk => ?_) k
  have hx1 : -2147483648 ≤ x ∧ x < 2147483648 := fz_h1 hs
  have e1 := fz_t32 hx1
  exact lv_tableIn (x := Int32.ofInt x) hx hb (fz_dec hM hc) (by rw [e1]; exact h1) (by rw [e1]; exact h2) (by rw [e1]; exact ho) ht kk
theorem fz_lsw {x : Int} {dflt : Int} {ps : Array (Int × Int)} {len : Nat} {off : Int} {tgt : Nat} (hM : fz_okM M = true) (hc : fz_at M.2.2.2.2 pc = some (.lookupswitch dflt ps, len, a, b, w)) (hp : (ps.toList.zip (ps.toList.drop 1)).all (fun (a, next) => a.1 < next.1) = true) (ho : Op.lookupswitch.offset ps.toList dflt x = off) (ht : (pc : Int) + off = (tgt : Int)) (k : fz_R d M tgt ls st h Q) : fz_R d M pc ls (fz_i x :: st) h Q := by
  refine fz_pure (fun hs => fz_tl hs) (fun E p l e R s m args below meth c cells slots Qf H locs lsc hx hb hs kk => ?_) k
  have hx1 : -2147483648 ≤ x ∧ x < 2147483648 := fz_h1 hs
  have e1 := fz_t32 hx1
  exact lv_lookup (x := Int32.ofInt x) hx hb (fz_dec hM hc) hp (by rw [e1]; exact ho) ht kk
theorem fz_osw {x a o dd : Int} {r : List (Int × Int)} (h : ¬ x = a) : Op.lookupswitch.offset ((a, o) :: r) dd x = Op.lookupswitch.offset r dd x := by
  rw [Op.lookupswitch.offset_cons, if_neg]
  intro q
  exact h q.symm
theorem fz_osy {x a o dd : Int} {r : List (Int × Int)} (h : x = a) : Op.lookupswitch.offset ((a, o) :: r) dd x = o := by
  rw [Op.lookupswitch.offset_cons, if_pos]
  exact h.symm
end FZ
end
section
/-! ===== rules: locals, fields, arrays, calls, ends ===== -/
theorem fz_tb_all : ∀ w ∈ fz_tb, goodWord w = true := fun w h => (List.mem_append.mp h).elim (fun z => by obtain ⟨q, -, rfl⟩ := List.mem_map.mp z; rfl) (fun z => (List.mem_filter.mp z).2)
theorem fz_cl_all : ((List.range 13).all fun ci => match fz_nth vwCl ci with
  | some (C, T, N) => (List.range N).all (fun k => decide (fz_wa ((fz_nth ((fz_nth fz_clx ci).getD []) k).getD 0) = some (u_lay C T k)) && goodWord (u_lay C T k))
  | none => true) = true := by decide +kernel
theorem fz_cl_in {ci : Nat} {C : String} {T : u_T} {N : Nat} (h : fz_nth vwCl ci = some (C, T, N)) : ∀ w ∈ u_ws C T N, w ∈ fz_tb := by
  have hl : ci < 13 := by
    rw [fz_nth_eq] at h
    have := (List.getElem?_eq_some_iff.mp h).1
    have e : vwCl.length = 13 := rfl
    omega
  have h1 := List.all_eq_true.mp fz_cl_all ci (List.mem_range.mpr hl)
  rw [h] at h1
  intro w hw
  obtain ⟨k, hk, rfl⟩ := List.mem_map.mp hw
  have h2 := List.all_eq_true.mp h1 k hk
  rw [Bool.and_eq_true] at h2
  exact fz_has (of_decide_eq_true h2.1) h2.2
theorem fz_cl_ty {ci : Nat} {C : String} {T : u_T} {N : Nat} (h : fz_nth vwCl ci = some (C, T, N)) : ∃ ty : Nat → FieldType, ∀ k, k < N → parseFieldDescriptor (T k).2.2.1 = some (ty k) := by
  rw [fz_nth_eq] at h
  have hl : ci < vwCl.length := (List.getElem?_eq_some_iff.mp h).1
  rcases (show ci = 0 ∨ ci = 1 ∨ ci = 2 ∨ ci = 3 ∨ ci = 4 ∨ ci = 5 ∨ ci = 6 ∨ ci = 7 ∨ ci = 8 ∨ ci = 9 ∨ ci = 10 ∨ ci = 11 ∨ ci = 12 from (by have : vwCl.length = 13 := rfl; omega)) with rfl | rfl | rfl | rfl | rfl | rfl | rfl | rfl | rfl | rfl | rfl | rfl | rfl
  · cases h; exact ⟨_, tyJ0_ok⟩
  · cases h; exact ⟨_, tyJ4_ok⟩
  · cases h; exact ⟨_, tyX0_ok⟩
  · cases h; exact ⟨_, tyX1_ok⟩
  · cases h; exact ⟨_, tyX2_ok⟩
  · cases h; exact ⟨_, tyX3_ok⟩
  · cases h; exact ⟨_, tyX4_ok⟩
  · cases h; exact ⟨_, tyX5_ok⟩
  · cases h; exact ⟨_, tyX6_ok⟩
  · cases h; exact ⟨_, tyX7_ok⟩
  · cases h; exact ⟨_, tyX8_ok⟩
  · cases h; exact ⟨_, tyX9_ok⟩
  · cases h; exact ⟨_, tyX10_ok⟩
theorem fz_cl_nm {ci : Nat} {C : String} {T : u_T} {N : Nat} (h : fz_nth vwCl ci = some (C, T, N)) : ∀ a, a < N → ∀ b, b < N → a ≠ b → (T a).2.1 ≠ (T b).2.1 := by
  rw [fz_nth_eq] at h
  have hl : ci < vwCl.length := (List.getElem?_eq_some_iff.mp h).1
  rcases (show ci = 0 ∨ ci = 1 ∨ ci = 2 ∨ ci = 3 ∨ ci = 4 ∨ ci = 5 ∨ ci = 6 ∨ ci = 7 ∨ ci = 8 ∨ ci = 9 ∨ ci = 10 ∨ ci = 11 ∨ ci = 12 from (by have : vwCl.length = 13 := rfl; omega)) with rfl | rfl | rfl | rfl | rfl | rfl | rfl | rfl | rfl | rfl | rfl | rfl | rfl
  · cases h; exact nmJ0
  · cases h; exact nmJ4
  · cases h; exact nmX0
  · cases h; exact nmX1
  · cases h; exact nmX2
  · cases h; exact nmX3
  · cases h; exact nmX4
  · cases h; exact nmX5
  · cases h; exact nmX6
  · cases h; exact nmX7
  · cases h; exact nmX8
  · cases h; exact nmX9
  · cases h; exact nmX10
theorem fz_N_200 : fz_N ≤ 200 := by decide +kernel
theorem fz_sh_lt {o : Nat} {q : Nat × Nat × Nat} (h : fz_sh o = q) (hq : q.1 ≠ 9) : o < fz_N := by
  unfold fz_sh at h
  rw [fz_nth_eq] at h
  cases hg : fz_shs[o]? with
  | none =>
    rw [hg] at h
    simp at h
    subst h
    exact absurd rfl hq
  | some v => exact (List.getElem?_eq_some_iff.mp hg).1
theorem fz_up_ne {h : fz_H} {c k : Nat} {x : Int} {i : Nat} (hi : i ≠ c) : fz_up h c k x i = h i := by
  funext j
  simp [fz_up, hi]
theorem fz_ce_eq {E : fz_E} {h h' : fz_H} {i : Nat} (e : h' i = h i) : fz_ce E h' i = fz_ce E h i := by
  have e1 : fz_fv (fz_ad E) h' i = fz_fv (fz_ad E) h i := by
    funext s
    unfold fz_fv
    rw [e]
  unfold fz_ce
  rw [e1, e]
theorem fz_ws_up {E : fz_E} {h h' : fz_H} {c : Nat} (he : ∀ i, i ≠ c → h' i = h i) : fz_ws E h' = (fz_ws E h).set c (fz_ad E c, fz_ce E h' c) := by
  apply List.ext_getElem?
  intro i
  by_cases hi : i = c
  · subst hi
    by_cases hl : i < fz_N
    · rw [List.getElem?_set_self (by simpa [fz_ws] using hl), fz_ws_at E h' hl]
    · rw [List.getElem?_eq_none (by simpa [fz_ws] using hl), List.getElem?_eq_none (by simpa [fz_ws] using hl)]
  · rw [List.getElem?_set_ne (Ne.symm hi)]
    simp only [fz_ws, List.getElem?_map]
    by_cases hl : i < fz_N
    · simp [hl, fz_ce_eq (E := E) (he i hi)]
    · simp [hl]
theorem fz_nh_up {h : fz_H} {c k : Nat} {x : Int} (hn : fz_nh h) (hx : fz_okx c x) : fz_nh (fz_up h c k x) := by
  intro d j
  unfold fz_up
  split
  · next e => rw [e.1]; exact hx
  · exact hn d j
theorem fz_ht_up {E : fz_E} {h : fz_H} {c k : Nat} {x : Int} (hc : c < fz_N) (ht : ∀ id, 200 ≤ id → h id = fz_tc E id) : ∀ id, 200 ≤ id → fz_up h c k x id = fz_tc E id := by
  intro id hid
  rw [fz_up_ne (by have := fz_N_200; omega)]
  exact ht id hid
/-- an object's field: its class, the place, what the table of references says -/
def fz_fo (o ci sl t : Nat) : Bool := Nat.beq (fz_sh o).1 0 && Nat.beq (fz_sh o).2.1 ci && Nat.blt sl (fz_sh o).2.2 && Nat.beq (fz_rf o sl) t
theorem fz_fo_spec {o ci sl t : Nat} (h : fz_fo o ci sl t = true) : (fz_sh o).1 = 0 ∧ (fz_sh o).2.1 = ci ∧ sl < (fz_sh o).2.2 ∧ fz_rf o sl = t ∧ o < fz_N := by
  unfold fz_fo at h
  simp only [Bool.and_eq_true] at h
  have h1 := Nat.eq_of_beq_eq_true h.1.1.1
  exact ⟨h1, Nat.eq_of_beq_eq_true h.1.1.2, by simpa [Nat.blt_eq] using h.1.2, Nat.eq_of_beq_eq_true h.2, fz_sh_lt (q := fz_sh o) rfl (by rw [h1]; decide)⟩
section FZ
variable {d : Nat} {M : fz_M} {pc a b w : Nat} {ls ls' : List (Nat × fz_V)} {st : List fz_V} {h : fz_H} {Q : fz_H → Option fz_V → Prop}
theorem fz_knowh (k : fz_nh h → fz_R d M pc ls st h Q) : fz_R d M pc ls st h Q := by
  intro E p l e R s m args below meth c cells slots Qf C hend H locs lsc hW hs hl hh
  exact k hW.2.2.2.1 E p l e R s m args below meth c cells slots Qf C hend H locs lsc hW hs hl hh
theorem fz_knowl (k : (∀ q ∈ ls, fz_nv q.2) → fz_R d M pc ls st h Q) : fz_R d M pc ls st h Q := by
  intro E p l e R s m args below meth c cells slots Qf C hend H locs lsc hW hs hl hh
  exact k hl E p l e R s m args below meth c cells slots Qf C hend H locs lsc hW hs hl hh
theorem fz_knows (k : (∀ v ∈ st, fz_nv v) → fz_R d M pc ls st h Q) : fz_R d M pc ls st h Q := by
  intro E p l e R s m args below meth c cells slots Qf C hend H locs lsc hW hs hl hh
  exact k hs E p l e R s m args below meth c cells slots Qf C hend H locs lsc hW hs hl hh
theorem fz_post {Q' : fz_H → Option fz_V → Prop} (k : fz_R d M pc ls st h Q') (hq : ∀ h' r, Q' h' r → Q h' r) : fz_R d M pc ls st h Q := by
  intro E p l e R s m args below meth c cells slots Qf C hend H locs lsc hW hs hl hh
  exact k E p l e R s m args below meth c cells slots Qf C (fun h' r pc' lsc H locs hq' => hend h' r pc' lsc H locs (hq h' r hq')) H locs lsc hW hs hl hh
/-- fewer locals -/
theorem fz_sub (hl : ∀ q ∈ ls', q ∈ ls) (k : fz_R d M pc ls' st h Q) : fz_R d M pc ls st h Q := by
  intro E p l e R s m args below meth c cells slots Qf C hend H locs lsc hW hs hn hh
  refine k E p l e R s m args below meth c cells slots Qf C hend H locs lsc hW hs (fun q hq => hn q (hl q hq)) ⟨hh.1, hh.2.1, fun q hq => ?_⟩
  obtain ⟨q0, h1, rfl⟩ := List.mem_map.mp hq
  exact hh.2.2 _ (List.mem_map.mpr ⟨q0, hl q0 h1, rfl⟩)
theorem fz_deeper {d' : Nat} (hd : d' ≤ d) (k : fz_R d' M pc ls st h Q) : fz_R d M pc ls st h Q := by
  intro E p l e R s m args below meth c cells slots Qf C hend H locs lsc hW hs hn hh
  obtain ⟨c1, c2, c3, c4, c5, c6, c7, c8, c9, c10⟩ := C
  exact k E p l e R s m args below meth c cells slots Qf ⟨c1, c2, c3, c4, c5, c6, c7, by omega, by omega, c10⟩ hend H locs lsc hW hs hn hh
theorem fz_load {i : Nat} {v : fz_V} {n : Nat} (hv : fz_lk ls i = some v)
    (hw : ∀ (E : fz_E) (p : Program) (l : Launch) (e : Env) (R : Room) (s : State) (m : MethodId) (args : Array Value) (below : List Frame) (meth : Method) (c : Code) (cells slots : Nat) (Qf : State → Prop) (H : Heap) (locs : List Loc) (lsc : Array Slot),
      p.tables.exec = Jvm.exec → c.code = M.2.1 → lsc[i]? = some (.val (fz_cv (fz_ad E) v)) → W p l e R s m args below meth c H locs cells slots Qf (F0 m (pc + n) lsc (fz_cv (fz_ad E) v :: st.map (fz_cv (fz_ad E)))) → W p l e R s m args below meth c H locs cells slots Qf (F0 m pc lsc (st.map (fz_cv (fz_ad E)))))
    (k : fz_R d M (pc + n) ls (v :: st) h Q) : fz_R d M pc ls st h Q := by
  intro E p l e R s m args below meth c cells slots Qf C hend H locs lsc hW hs hn hh
  have hm := fz_lk_mem hv
  exact hw E p l e R s m args below meth c cells slots Qf H locs lsc C.1 C.2.1 (hh.2.2 _ (List.mem_map.mpr ⟨_, hm, rfl⟩)) (k E p l e R s m args below meth c cells slots Qf C hend H locs lsc hW (fz_n0 (hn _ hm) hs) hn hh)
theorem fz_iload_n {n : Fin 4} {x : Int} (hM : fz_okM M = true) (hc : fz_at M.2.2.2.2 pc = some (.iload_n n, 1, a, b, w)) (hv : fz_lk ls (n : Nat) = some (fz_i x)) (k : fz_R d M (pc + 1) ls (fz_i x :: st) h Q) : fz_R d M pc ls st h Q :=
  fz_load hv (fun E p l e R s m args below meth c cells slots Qf H locs lsc hx hb hs kk => lv_iload_n hx hb (fz_dec hM hc) rfl hs kk) k
theorem fz_iload {i : Nat} {x : Int} (hM : fz_okM M = true) (hc : fz_at M.2.2.2.2 pc = some (.iload i, 2, a, b, w)) (hv : fz_lk ls i = some (fz_i x)) (k : fz_R d M (pc + 2) ls (fz_i x :: st) h Q) : fz_R d M pc ls st h Q :=
  fz_load hv (fun E p l e R s m args below meth c cells slots Qf H locs lsc hx hb hs kk => lv_iload hx hb (fz_dec hM hc) hs kk) k
theorem fz_lload_n {n : Fin 4} {x : Int} (hM : fz_okM M = true) (hc : fz_at M.2.2.2.2 pc = some (.lload_n n, 1, a, b, w)) (hv : fz_lk ls (n : Nat) = some (fz_l x)) (k : fz_R d M (pc + 1) ls (fz_l x :: st) h Q) : fz_R d M pc ls st h Q :=
  fz_load hv (fun E p l e R s m args below meth c cells slots Qf H locs lsc hx hb hs kk => lv_lload_n hx hb (fz_dec hM hc) rfl hs kk) k
theorem fz_lload {i : Nat} {x : Int} (hM : fz_okM M = true) (hc : fz_at M.2.2.2.2 pc = some (.lload i, 2, a, b, w)) (hv : fz_lk ls i = some (fz_l x)) (k : fz_R d M (pc + 2) ls (fz_l x :: st) h Q) : fz_R d M pc ls st h Q :=
  fz_load hv (fun E p l e R s m args below meth c cells slots Qf H locs lsc hx hb hs kk => lv_lload hx hb (fz_dec hM hc) hs kk) k
theorem fz_aload_n {n : Fin 4} {x : Nat} (hM : fz_okM M = true) (hc : fz_at M.2.2.2.2 pc = some (.aload_n n, 1, a, b, w)) (hv : fz_lk ls (n : Nat) = some (fz_r x)) (k : fz_R d M (pc + 1) ls (fz_r x :: st) h Q) : fz_R d M pc ls st h Q :=
  fz_load hv (fun E p l e R s m args below meth c cells slots Qf H locs lsc hx hb hs kk => lv_aload_n hx hb (fz_dec hM hc) rfl hs kk) k
theorem fz_aload {i : Nat} {x : Nat} (hM : fz_okM M = true) (hc : fz_at M.2.2.2.2 pc = some (.aload i, 2, a, b, w)) (hv : fz_lk ls i = some (fz_r x)) (k : fz_R d M (pc + 2) ls (fz_r x :: st) h Q) : fz_R d M pc ls st h Q :=
  fz_load hv (fun E p l e R s m args below meth c cells slots Qf H locs lsc hx hb hs kk => lv_aload hx hb (fz_dec hM hc) hs kk) k
def fz_s1 (i : Nat) (ls : List (Nat × fz_V)) : List (Nat × fz_V) := ls.filter (fun q => !(q.1 == i) && !(q.1 + 1 == i && fz_cat q.2 == 2))
def fz_s2 (i : Nat) (ls : List (Nat × fz_V)) : List (Nat × fz_V) := ls.filter (fun q => !(q.1 == i) && (!(q.1 == i + 1) && !(q.1 + 1 == i && fz_cat q.2 == 2)))
theorem fz_s1_map (E : fz_E) (i : Nat) (ls : List (Nat × fz_V)) : (ls.map (fun q => (q.1, fz_cv (fz_ad E) q.2))).filter (fun q => !(q.1 == i) && !(q.1 + 1 == i && q.2.category == 2)) = (fz_s1 i ls).map (fun q => (q.1, fz_cv (fz_ad E) q.2)) := by
  unfold fz_s1
  rw [List.filter_map]
  congr 2
  funext q
  simp [Function.comp, fz_cat_cv]
theorem fz_s2_map (E : fz_E) (i : Nat) (ls : List (Nat × fz_V)) : (ls.map (fun q => (q.1, fz_cv (fz_ad E) q.2))).filter (fun q => !(q.1 == i) && (!(q.1 == i + 1) && !(q.1 + 1 == i && q.2.category == 2))) = (fz_s2 i ls).map (fun q => (q.1, fz_cv (fz_ad E) q.2)) := by
  unfold fz_s2
  rw [List.filter_map]
  congr 2
  funext q
  simp [Function.comp, fz_cat_cv]
theorem fz_store {i n : Nat} {v : fz_V} (hsub : ∀ q ∈ ls', q ∈ ls ∨ q = (i, v))
    (hw : ∀ (E : fz_E) (p : Program) (l : Launch) (e : Env) (R : Room) (s : State) (m : MethodId) (args : Array Value) (below : List Frame) (meth : Method) (c : Code) (cells slots : Nat) (Qf : State → Prop) (H : Heap) (locs : List Loc) (lsc : Array Slot),
      p.tables.exec = Jvm.exec → c.code = M.2.1 → lv_has lsc M.2.2.1 (ls.map (fun q => (q.1, fz_cv (fz_ad E) q.2))) →
      (∀ lsc : Array Slot, lv_has lsc M.2.2.1 (ls'.map (fun q => (q.1, fz_cv (fz_ad E) q.2))) → W p l e R s m args below meth c H locs cells slots Qf (F0 m (pc + n) lsc (st.map (fz_cv (fz_ad E))))) →
      W p l e R s m args below meth c H locs cells slots Qf (F0 m pc lsc (fz_cv (fz_ad E) v :: st.map (fz_cv (fz_ad E)))))
    (k : fz_R d M (pc + n) ls' st h Q) : fz_R d M pc ls (v :: st) h Q := by
  intro E p l e R s m args below meth c cells slots Qf C hend H locs lsc hW hs hn hh
  refine hw E p l e R s m args below meth c cells slots Qf H locs lsc C.1 C.2.1 hh (fun lsc hh => k E p l e R s m args below meth c cells slots Qf C hend H locs lsc hW (fz_tl hs) (fun q hq => ?_) hh)
  rcases hsub q hq with h1 | h1
  · exact hn q h1
  · rw [h1]; exact fz_h1 hs
theorem fz_s1_sub {i : Nat} {v : fz_V} (hl : (i, v) :: fz_s1 i ls = ls') : ∀ q ∈ ls', q ∈ ls ∨ q = (i, v) := by
  subst hl
  intro q hq
  rcases List.mem_cons.mp hq with h1 | h1
  · exact Or.inr h1
  · exact Or.inl (List.mem_filter.mp h1).1
theorem fz_s2_sub {i : Nat} {v : fz_V} (hl : (i, v) :: fz_s2 i ls = ls') : ∀ q ∈ ls', q ∈ ls ∨ q = (i, v) := by
  subst hl
  intro q hq
  rcases List.mem_cons.mp hq with h1 | h1
  · exact Or.inr h1
  · exact Or.inl (List.mem_filter.mp h1).1
theorem fz_istore_n {n : Fin 4} {x : Int} (hM : fz_okM M = true) (hc : fz_at M.2.2.2.2 pc = some (.istore_n n, 1, a, b, w)) (hi : (n : Nat) < M.2.2.1) (hl : ((n : Nat), fz_i x) :: fz_s1 (n : Nat) ls = ls') (k : fz_R d M (pc + 1) ls' st h Q) : fz_R d M pc ls (fz_i x :: st) h Q :=
  fz_store (fz_s1_sub hl) (fun E p l e R s m args below meth c cells slots Qf H locs lsc hx hb hh kk => lv_istore_n hx hb (fz_dec hM hc) rfl hh hi (by rw [fz_s1_map, ← hl]; rfl) kk) k
theorem fz_istore {i : Nat} {x : Int} (hM : fz_okM M = true) (hc : fz_at M.2.2.2.2 pc = some (.istore i, 2, a, b, w)) (hi : i < M.2.2.1) (hl : (i, fz_i x) :: fz_s1 i ls = ls') (k : fz_R d M (pc + 2) ls' st h Q) : fz_R d M pc ls (fz_i x :: st) h Q :=
  fz_store (fz_s1_sub hl) (fun E p l e R s m args below meth c cells slots Qf H locs lsc hx hb hh kk => lv_istore hx hb (fz_dec hM hc) hh hi (by rw [fz_s1_map, ← hl]; rfl) kk) k
theorem fz_lstore_n {n : Fin 4} {x : Int} (hM : fz_okM M = true) (hc : fz_at M.2.2.2.2 pc = some (.lstore_n n, 1, a, b, w)) (hi : (n : Nat) + 1 < M.2.2.1) (hl : ((n : Nat), fz_l x) :: fz_s2 (n : Nat) ls = ls') (k : fz_R d M (pc + 1) ls' st h Q) : fz_R d M pc ls (fz_l x :: st) h Q :=
  fz_store (fz_s2_sub hl) (fun E p l e R s m args below meth c cells slots Qf H locs lsc hx hb hh kk => lv_lstore_n hx hb (fz_dec hM hc) rfl hh hi (by rw [fz_s2_map, ← hl]; rfl) kk) k
theorem fz_lstore {i : Nat} {x : Int} (hM : fz_okM M = true) (hc : fz_at M.2.2.2.2 pc = some (.lstore i, 2, a, b, w)) (hi : i + 1 < M.2.2.1) (hl : (i, fz_l x) :: fz_s2 i ls = ls') (k : fz_R d M (pc + 2) ls' st h Q) : fz_R d M pc ls (fz_l x :: st) h Q :=
  fz_store (fz_s2_sub hl) (fun E p l e R s m args below meth c cells slots Qf H locs lsc hx hb hh kk => lv_lstore hx hb (fz_dec hM hc) hh hi (by rw [fz_s2_map, ← hl]; rfl) kk) k
theorem fz_iinc {i : Nat} {n x : Int} (hM : fz_okM M = true) (hc : fz_at M.2.2.2.2 pc = some (.iinc i n, 3, a, b, w)) (hi : i < M.2.2.1) (hv : fz_lk ls i = some (fz_i x)) (hl : (i, fz_i (fz_w (x + n))) :: fz_s1 i ls = ls') (k : fz_R d M (pc + 3) ls' st h Q) : fz_R d M pc ls st h Q := by
  intro E p l e R s m args below meth c cells slots Qf C hend H locs lsc hW hs hn hh
  have hm := fz_lk_mem hv
  obtain ⟨j, hj⟩ := List.getElem?_of_mem hm
  refine lv_iinc (lv' := ls'.map (fun q => (q.1, fz_cv (fz_ad E) q.2))) (v := Int32.ofInt (fz_w (x + n))) (k := j) (x := Int32.ofInt x) C.1 C.2.1 (fz_dec hM hc) hh (by rw [List.getElem?_map, hj]; rfl) (fz_e_add x n) hi (by rw [fz_s1_map, ← hl]; rfl) (fun lsc hh => ?_)
  refine k E p l e R s m args below meth c cells slots Qf C hend H locs lsc hW hs (fun q hq => ?_) hh
  rcases fz_s1_sub hl q hq with h1 | h1
  · exact hn q h1
  · rw [h1]; exact fz_w_b _
/-- memory -/
theorem fz_get0 {o ci sl t idx : Nat} (hM : fz_okM M = true) (hc : fz_at M.2.2.2.2 pc = some (.getfield idx, 3, sl, ci, w)) (ho : fz_fo o ci sl t = true) {v : fz_V} (hv : ∀ ad : Nat → Nat, fz_fv ad h o sl = fz_cv ad v) (hn : fz_nh h → fz_nv v) (k : fz_R d M (pc + 3) ls (v :: st) h Q) : fz_R d M pc ls (fz_r o :: st) h Q := by
  intro E p l e R s m args below meth c cells slots Qf C hend H locs lsc hW hs hl hh
  obtain ⟨h1, h2, h3, h4, h5⟩ := fz_fo_spec ho
  have hq := List.all_eq_true.mp hM _ (fz_at_mem hc)
  unfold fz_okI at hq
  rw [Bool.and_eq_true] at hq
  have hq2 := hq.2
  dsimp only at hq2
  cases hcl : fz_nth vwCl ci with
  | none => rw [hcl] at hq2; cases hq2
  | some z =>
    obtain ⟨Cn, T, N⟩ := z
    rw [hcl] at hq2
    simp only [Bool.and_eq_true, decide_eq_true_eq] at hq2
    have hts := C.2.2.2.2.2.1
    have hK := C.2.2.2.2.2.2.2.2.2.1
    have hat := fz_ws_at E h h5
    rw [show fz_ce E h o = .inr (ci, (List.range (fz_sh o).2.2).map (fz_fv (fz_ad E) h o)) by unfold fz_ce; rw [if_pos h1, h2]] at hat
    refine va_get (D := fz_dA E) (ci := ci) (v := fz_cv (fz_ad E) v) (C := Cn) (T := T) (N := N) C.1 C.2.1 hts (fz_cl_in hcl) C.2.2.2.2.1 hK hW.1 o hat (by rw [← fz_nth_eq]; exact hcl) sl hq2.1 (hts _ (fz_isF_spec hq2.2)) (fun _ h9 => h9) ?_ (fz_dec hM hc) ?_
    · rw [← hv]
      simp [h3]
    · exact k E p l e R s m args below meth c cells slots Qf C hend H locs lsc hW (fz_n1 (hn hW.2.2.2.1) hs) hl hh
theorem fz_getI {o ci sl idx : Nat} (hM : fz_okM M = true) (hc : fz_at M.2.2.2.2 pc = some (.getfield idx, 3, sl, ci, w)) (ho : fz_fo o ci sl 0 = true) (k : fz_R d M (pc + 3) ls (fz_i (h o sl) :: st) h Q) : fz_R d M pc ls (fz_r o :: st) h Q := by
  obtain ⟨h1, h2, h3, h4, h5⟩ := fz_fo_spec ho
  refine fz_get0 hM hc ho (fun ad => ?_) (fun hn => ?_) k
  · unfold fz_fv
    rw [h4]
    rfl
  · have := hn o sl
    unfold fz_okx at this
    rw [h1, if_neg (by decide)] at this
    exact this
theorem fz_getR {o ci sl t idx : Nat} (hM : fz_okM M = true) (hc : fz_at M.2.2.2.2 pc = some (.getfield idx, 3, sl, ci, w)) (ho : fz_fo o ci sl (t + 1) = true) (k : fz_R d M (pc + 3) ls (fz_r t :: st) h Q) : fz_R d M pc ls (fz_r o :: st) h Q := by
  obtain ⟨h1, h2, h3, h4, h5⟩ := fz_fo_spec ho
  refine fz_get0 (v := fz_r t) hM hc ho (fun ad => ?_) (fun hn => trivial) k
  unfold fz_fv
  rw [h4]
  rfl
def fz_ds (ci sl : Nat) : String := match fz_nth vwCl ci with
  | some (_, T, _) => (T sl).2.2.1
  | none => ""
theorem fz_put0 {o ci sl idx : Nat} {x : Int} {ty : FieldType} (hM : fz_okM M = true) (hc : fz_at M.2.2.2.2 pc = some (.putfield idx, 3, sl, ci, w)) (ho : fz_fo o ci sl 0 = true) (hd : parseFieldDescriptor (fz_ds ci sl) = some ty) (hnar : narrow ty (.int (Int32.ofInt x)) = .int (Int32.ofInt x)) (hfit : fits ty (.int (Int32.ofInt x)) = true) (k : fz_R d M (pc + 3) ls st (fz_up h o sl x) Q) : fz_R d M pc ls (fz_i x :: fz_r o :: st) h Q := by
  intro E p l e R s m args below meth c cells slots Qf C hend H locs lsc hW hs hl hh
  obtain ⟨h1, h2, h3, h4, h5⟩ := fz_fo_spec ho
  have hq := List.all_eq_true.mp hM _ (fz_at_mem hc)
  unfold fz_okI at hq
  rw [Bool.and_eq_true] at hq
  have hq2 := hq.2
  dsimp only at hq2
  cases hcl : fz_nth vwCl ci with
  | none => rw [hcl] at hq2; cases hq2
  | some z =>
    obtain ⟨Cn, T, N⟩ := z
    rw [hcl] at hq2
    simp only [Bool.and_eq_true, decide_eq_true_eq, Bool.not_eq_true'] at hq2
    have hts := C.2.2.2.2.2.1
    have hK := C.2.2.2.2.2.2.2.2.2.1
    have hat := fz_ws_at E h h5
    rw [show fz_ce E h o = .inr (ci, (List.range (fz_sh o).2.2).map (fz_fv (fz_ad E) h o)) by unfold fz_ce; rw [if_pos h1, h2]] at hat
    obtain ⟨ty0, hty⟩ := fz_cl_ty hcl
    have hd' : parseFieldDescriptor (T sl).2.2.1 = some ty := by
      have : fz_ds ci sl = (T sl).2.2.1 := by unfold fz_ds; rw [hcl]
      rw [← this]; exact hd
    show W p l e R s m args below meth c H locs cells slots Qf (F0 m pc lsc (.int (Int32.ofInt x) :: .ref (fz_ad E o) :: st.map (fz_cv (fz_ad E))))
    refine va_put (D := fz_dA E) (ci := ci) (v := .int (Int32.ofInt x)) (ty := ty) (C := Cn) (T := T) (N := N) C.1 C.2.1 hts (fz_cl_in hcl) ty0 hty (fz_cl_nm hcl) C.2.2.2.2.1 hK hW.1 hW.2.1 hW.2.2.1 o hat (by rw [← fz_nth_eq]; exact hcl) sl hq2.1.1 (hts _ (fz_isF_spec hq2.1.2)) (fun _ h9 => h9) hq2.2 hd' hnar hfit (by simpa using h3) (fz_dec hM hc) (fun H1 locs1 hP hD hS => ?_)
    have hws : (fz_ws E h).set o (fz_ad E o, .inr (ci, ((List.range (fz_sh o).2.2).map (fz_fv (fz_ad E) h o)).set sl (.int (Int32.ofInt x)))) = fz_ws E (fz_up h o sl x) := by
      rw [fz_ws_up (h := h) (h' := fz_up h o sl x) (c := o) (fun i hi => fz_up_ne hi)]
      congr 2
      unfold fz_ce
      rw [if_pos h1, h2]
      congr 2
      apply List.ext_getElem?
      intro j
      by_cases hj : j = sl
      · subst hj
        rw [List.getElem?_set_self (by simpa using h3)]
        simp [h3, fz_fv, h4, fz_up]
      · rw [List.getElem?_set_ne (Ne.symm hj)]
        simp only [List.getElem?_map]
        by_cases hl : j < (fz_sh o).2.2
        · simp [hl, fz_fv, fz_up, hj]
        · simp [hl]
    rw [hws] at hP hD
    refine k E p l e R s m args below meth c cells slots Qf C hend H1 locs1 lsc ⟨hP, hD, hS, fz_nh_up hW.2.2.2.1 ?_, fz_ht_up h5 hW.2.2.2.2⟩ (fz_tl (fz_tl hs)) hl hh
    unfold fz_okx
    rw [h1, if_neg (by decide)]
    exact (fz_h1 hs : fz_nv (fz_i x))
theorem fz_putI {o ci sl idx : Nat} {x : Int} (hM : fz_okM M = true) (hc : fz_at M.2.2.2.2 pc = some (.putfield idx, 3, sl, ci, w)) (ho : fz_fo o ci sl 0 = true) (hd : fz_ds ci sl = "I") (k : fz_R d M (pc + 3) ls st (fz_up h o sl x) Q) : fz_R d M pc ls (fz_i x :: fz_r o :: st) h Q :=
  fz_put0 (ty := .int) hM hc ho (by rw [hd]; decide +kernel) rfl rfl k
theorem fz_putZ {o ci sl idx : Nat} {x : Int} (hM : fz_okM M = true) (hc : fz_at M.2.2.2.2 pc = some (.putfield idx, 3, sl, ci, w)) (ho : fz_fo o ci sl 0 = true) (hd : fz_ds ci sl = "Z") (hx : x = 0 ∨ x = 1) (k : fz_R d M (pc + 3) ls st (fz_up h o sl x) Q) : fz_R d M pc ls (fz_i x :: fz_r o :: st) h Q :=
  fz_put0 (ty := .boolean) hM hc ho (by rw [hd]; decide +kernel) (by rcases hx with rfl | rfl <;> decide) (by rcases hx with rfl | rfl <;> decide) k
end FZ
end
section
/-! ===== rules: arrays, tables, copies ===== -/
theorem fz_nh_i {h : fz_H} {o j : Nat} (hn : fz_nh h) (h1 : (fz_sh o).1 ≠ 2) : -2147483648 ≤ h o j ∧ h o j < 2147483648 := by
  have := hn o j
  unfold fz_okx at this
  rw [if_neg h1] at this
  exact this
theorem fz_nh_l {h : fz_H} {o j : Nat} (hn : fz_nh h) (h1 : (fz_sh o).1 = 2) : -9223372036854775808 ≤ h o j ∧ h o j < 9223372036854775808 := by
  have := hn o j
  unfold fz_okx at this
  rw [if_pos h1] at this
  exact this
theorem fz_ce_i {E : fz_E} {h : fz_H} {o z n : Nat} (hs : fz_sh o = (1, z, n)) : fz_ce E h o = .inl (E.2.2.1, n, .inl (fun j => Int32.ofInt (h o j))) := by
  unfold fz_ce
  rw [hs, if_neg (show ¬ (1 : Nat) = 0 by decide), if_pos rfl]
theorem fz_ce_l {E : fz_E} {h : fz_H} {o z n : Nat} (hs : fz_sh o = (2, z, n)) : fz_ce E h o = .inl (E.2.2.2.1, n, .inr (.inl (fun j => Int64.ofInt (h o j)))) := by
  unfold fz_ce
  rw [hs, if_neg (show ¬ (2 : Nat) = 0 by decide), if_neg (show ¬ (2 : Nat) = 1 by decide)]
section FZ
variable {d : Nat} {M : fz_M} {pc a b w : Nat} {ls ls' : List (Nat × fz_V)} {st : List fz_V} {h : fz_H} {Q : fz_H → Option fz_V → Prop}
theorem fz_iald {o z n : Nat} {x : Int} (hM : fz_okM M = true) (hc : fz_at M.2.2.2.2 pc = some (.iaload, 1, a, b, w)) (ho : fz_sh o = (1, z, n)) (h0 : 0 ≤ x) (h1 : x < n) (k : fz_R d M (pc + 1) ls (fz_i (h o x.toNat) :: st) h Q) : fz_R d M pc ls (fz_i x :: fz_r o :: st) h Q := by
  intro E p l e R s m args below meth c cells slots Qf C hend H locs lsc hW hs hl hh
  have hlt : o < fz_N := fz_sh_lt ho (show (1 : Nat) ≠ 9 by decide)
  have hx1 : -2147483648 ≤ x ∧ x < 2147483648 := fz_h1 hs
  have hat := fz_ws_at E h hlt
  rw [fz_ce_i ho] at hat
  have hK := C.2.2.2.2.2.2.2.2.2.1
  show W p l e R s m args below meth c H locs cells slots Qf (F0 m pc lsc (.int (Int32.ofInt x) :: .ref (fz_ad E o) :: st.map (fz_cv (fz_ad E))))
  refine va_iald C.1 C.2.1 hK hW.1 o 0 hat rfl (fz_in h0 h1 hx1.2) (fz_dec hM hc) ?_
  rw [fz_ix h0 hx1.2]
  exact k E p l e R s m args below meth c cells slots Qf C hend H locs lsc hW (fz_n2 (show fz_nv (fz_i _) from fz_nh_i hW.2.2.2.1 (by rw [ho]; show (1 : Nat) ≠ 2; decide)) hs) hl hh
theorem fz_lald {o z n : Nat} {x : Int} (hM : fz_okM M = true) (hc : fz_at M.2.2.2.2 pc = some (.laload, 1, a, b, w)) (ho : fz_sh o = (2, z, n)) (h0 : 0 ≤ x) (h1 : x < n) (k : fz_R d M (pc + 1) ls (fz_l (h o x.toNat) :: st) h Q) : fz_R d M pc ls (fz_i x :: fz_r o :: st) h Q := by
  intro E p l e R s m args below meth c cells slots Qf C hend H locs lsc hW hs hl hh
  have hlt : o < fz_N := fz_sh_lt ho (show (2 : Nat) ≠ 9 by decide)
  have hx1 : -2147483648 ≤ x ∧ x < 2147483648 := fz_h1 hs
  have hat := fz_ws_at E h hlt
  rw [fz_ce_l ho] at hat
  have hK := C.2.2.2.2.2.2.2.2.2.1
  show W p l e R s m args below meth c H locs cells slots Qf (F0 m pc lsc (.int (Int32.ofInt x) :: .ref (fz_ad E o) :: st.map (fz_cv (fz_ad E))))
  refine va_lald C.1 C.2.1 hK hW.1 o 1 hat rfl (fz_in h0 h1 hx1.2) (fz_dec hM hc) ?_
  rw [fz_ix h0 hx1.2]
  exact k E p l e R s m args below meth c cells slots Qf C hend H locs lsc hW (fz_n2 (show fz_nv (fz_l _) from fz_nh_l hW.2.2.2.1 (by rw [ho])) hs) hl hh
theorem fz_iast {o z n : Nat} {x v : Int} (hM : fz_okM M = true) (hc : fz_at M.2.2.2.2 pc = some (.iastore, 1, a, b, w)) (ho : fz_sh o = (1, z, n)) (h0 : 0 ≤ x) (h1 : x < n) (k : fz_R d M (pc + 1) ls st (fz_up h o x.toNat v) Q) : fz_R d M pc ls (fz_i v :: fz_i x :: fz_r o :: st) h Q := by
  intro E p l e R s m args below meth c cells slots Qf C hend H locs lsc hW hs hl hh
  have hlt : o < fz_N := fz_sh_lt ho (show (1 : Nat) ≠ 9 by decide)
  have hx1 : -2147483648 ≤ x ∧ x < 2147483648 := fz_h2 hs
  have hat := fz_ws_at E h hlt
  rw [fz_ce_i ho] at hat
  have hK := C.2.2.2.2.2.2.2.2.2.1
  show W p l e R s m args below meth c H locs cells slots Qf (F0 m pc lsc (.int (Int32.ofInt v) :: .int (Int32.ofInt x) :: .ref (fz_ad E o) :: st.map (fz_cv (fz_ad E))))
  refine va_iast C.1 C.2.1 hK hW.1 hW.2.1 hW.2.2.1 o 0 hat rfl (fz_in h0 h1 hx1.2) (fz_dec hM hc) (fun H1 locs1 hP hD hS => ?_)
  have hws : (fz_ws E h).set o (fz_ad E o, .inl (E.2.2.1, n, .inl (upd (fun j => Int32.ofInt (h o j)) (Int32.ofInt x).toNatClampNeg (Int32.ofInt v)))) = fz_ws E (fz_up h o x.toNat v) := by
    rw [fz_ws_up (h := h) (h' := fz_up h o x.toNat v) (c := o) (fun i hi => fz_up_ne hi), fz_ce_i ho, fz_ix h0 hx1.2]
    congr 6
    funext j
    by_cases hj : j = x.toNat
    · simp [upd, fz_up, hj]
    · simp [upd, fz_up, hj]
  rw [hws] at hP hD
  refine k E p l e R s m args below meth c cells slots Qf C hend H1 locs1 lsc ⟨hP, hD, hS, fz_nh_up hW.2.2.2.1 ?_, fz_ht_up hlt hW.2.2.2.2⟩ (fz_tl (fz_tl (fz_tl hs))) hl hh
  unfold fz_okx
  rw [ho, if_neg (show ¬ (1 : Nat) = 2 by decide)]
  exact (fz_h1 hs : fz_nv (fz_i v))
theorem fz_last {o z n : Nat} {x v : Int} (hM : fz_okM M = true) (hc : fz_at M.2.2.2.2 pc = some (.lastore, 1, a, b, w)) (ho : fz_sh o = (2, z, n)) (h0 : 0 ≤ x) (h1 : x < n) (k : fz_R d M (pc + 1) ls st (fz_up h o x.toNat v) Q) : fz_R d M pc ls (fz_l v :: fz_i x :: fz_r o :: st) h Q := by
  intro E p l e R s m args below meth c cells slots Qf C hend H locs lsc hW hs hl hh
  have hlt : o < fz_N := fz_sh_lt ho (show (2 : Nat) ≠ 9 by decide)
  have hx1 : -2147483648 ≤ x ∧ x < 2147483648 := fz_h2 hs
  have hat := fz_ws_at E h hlt
  rw [fz_ce_l ho] at hat
  have hK := C.2.2.2.2.2.2.2.2.2.1
  show W p l e R s m args below meth c H locs cells slots Qf (F0 m pc lsc (.long (Int64.ofInt v) :: .int (Int32.ofInt x) :: .ref (fz_ad E o) :: st.map (fz_cv (fz_ad E))))
  refine va_last C.1 C.2.1 hK hW.1 hW.2.1 hW.2.2.1 o 1 hat rfl (fz_in h0 h1 hx1.2) (fz_dec hM hc) (fun H1 locs1 hP hD hS => ?_)
  have hws : (fz_ws E h).set o (fz_ad E o, .inl (E.2.2.2.1, n, .inr (.inl (vp_updL (fun j => Int64.ofInt (h o j)) (Int32.ofInt x).toNatClampNeg (Int64.ofInt v))))) = fz_ws E (fz_up h o x.toNat v) := by
    rw [fz_ws_up (h := h) (h' := fz_up h o x.toNat v) (c := o) (fun i hi => fz_up_ne hi), fz_ce_l ho, fz_ix h0 hx1.2]
    congr 7
    funext j
    by_cases hj : j = x.toNat
    · simp [vp_updL, fz_up, hj]
    · simp [vp_updL, fz_up, hj]
  rw [hws] at hP hD
  refine k E p l e R s m args below meth c cells slots Qf C hend H1 locs1 lsc ⟨hP, hD, hS, fz_nh_up hW.2.2.2.1 ?_, fz_ht_up hlt hW.2.2.2.2⟩ (fz_tl (fz_tl (fz_tl hs))) hl hh
  unfold fz_okx
  rw [ho, if_pos rfl]
  exact (fz_h1 hs : fz_nv (fz_l v))
theorem fz_alen {o z n kd : Nat} (hM : fz_okM M = true) (hc : fz_at M.2.2.2.2 pc = some (.arraylength, 1, a, b, w)) (ho : fz_sh o = (kd, z, n)) (hk : kd = 1 ∨ kd = 2) (hn : n < 2147483648) (k : fz_R d M (pc + 1) ls (fz_i (n : Int) :: st) h Q) : fz_R d M pc ls (fz_r o :: st) h Q := by
  intro E p l e R s m args below meth c cells slots Qf C hend H locs lsc hW hs hl hh
  have hlt : o < fz_N := fz_sh_lt ho (show kd ≠ 9 by omega)
  have hat := fz_ws_at E h hlt
  have hK := C.2.2.2.2.2.2.2.2.2.1
  show W p l e R s m args below meth c H locs cells slots Qf (F0 m pc lsc (.ref (fz_ad E o) :: st.map (fz_cv (fz_ad E))))
  have e1 : Int32.ofNat n = Int32.ofInt (n : Int) := rfl
  have kk := k E p l e R s m args below meth c cells slots Qf C hend H locs lsc hW (fz_n1 (show fz_nv (fz_i (n : Int)) from ⟨by omega, by omega⟩) hs) hl hh
  rcases hk with rfl | rfl
  · rw [fz_ce_i ho] at hat
    exact va_alen C.1 C.2.1 hK hW.1 o 0 hat rfl e1 (fz_dec hM hc) kk
  · rw [fz_ce_l ho] at hat
    exact va_alen C.1 C.2.1 hK hW.1 o 1 hat rfl e1 (fz_dec hM hc) kk
theorem fz_tald {o : Nat} {x : Int} (hM : fz_okM M = true) (hc : fz_at M.2.2.2.2 pc = some (.iaload, 1, a, b, w)) (ho : 200 ≤ o ∧ o < 203) (h0 : 0 ≤ x) (h1 : x < h o 100000) (k : fz_R d M (pc + 1) ls (fz_i (h o x.toNat) :: st) h Q) : fz_R d M pc ls (fz_i x :: fz_r o :: st) h Q := by
  intro E p l e R s m args below meth c cells slots Qf C hend H locs lsc hW hs hl hh
  have hx1 : -2147483648 ≤ x ∧ x < 2147483648 := fz_h1 hs
  have hT := C.2.2.2.2.2.2.2.2.2.2.2.2.1 o ho.1 ho.2
  have ht := hW.2.2.2.2 o ho.1
  show W p l e R s m args below meth c H locs cells slots Qf (F0 m pc lsc (.int (Int32.ofInt x) :: .ref (fz_ad E o) :: st.map (fz_cv (fz_ad E))))
  refine va_ti C.1 C.2.1 hT hW.2.2.1 (fz_in h0 (by rw [← ht]; omega) hx1.2) (v := .int (Int32.ofInt (h o x.toNat))) (by rw [fz_ix h0 hx1.2, ht]) (fz_dec hM hc) ?_
  refine k E p l e R s m args below meth c cells slots Qf C hend H locs lsc hW (fz_n2 (show fz_nv (fz_i _) from fz_nh_i hW.2.2.2.1 ?_) hs) hl hh
  intro h2
  have := fz_sh_lt (o := o) (q := fz_sh o) rfl (by rw [h2]; decide)
  have := fz_N_200
  omega
theorem fz_tlen {o : Nat} (hM : fz_okM M = true) (hc : fz_at M.2.2.2.2 pc = some (.arraylength, 1, a, b, w)) (ho : 200 ≤ o ∧ o < 203) (h0 : 0 ≤ h o 100000) (k : fz_R d M (pc + 1) ls (fz_i (h o 100000) :: st) h Q) : fz_R d M pc ls (fz_r o :: st) h Q := by
  intro E p l e R s m args below meth c cells slots Qf C hend H locs lsc hW hs hl hh
  have hT := C.2.2.2.2.2.2.2.2.2.2.2.2.1 o ho.1 ho.2
  have ht := hW.2.2.2.2 o ho.1
  show W p l e R s m args below meth c H locs cells slots Qf (F0 m pc lsc (.ref (fz_ad E o) :: st.map (fz_cv (fz_ad E))))
  refine va_tlen C.1 C.2.1 hT hW.2.2.1 (v := Int32.ofInt (h o 100000)) ?_ (fz_dec hM hc) ?_
  · rw [← ht]
    show Int32.ofInt ((h o 100000).toNat : Int) = _
    rw [Int.toNat_of_nonneg h0]
  refine k E p l e R s m args below meth c cells slots Qf C hend H locs lsc hW (fz_n1 (show fz_nv (fz_i _) from fz_nh_i hW.2.2.2.1 ?_) hs) hl hh
  intro h2
  have := fz_sh_lt (o := o) (q := fz_sh o) rfl (by rw [h2]; decide)
  have := fz_N_200
  omega
theorem fz_gets {sx id idx : Nat} (hM : fz_okM M = true) (hc : fz_at M.2.2.2.2 pc = some (.getstatic idx, 3, id, sx, w)) (k : fz_R d M (pc + 3) ls (fz_r id :: st) h Q) : fz_R d M pc ls st h Q := by
  intro E p l e R s m args below meth c cells slots Qf C hend H locs lsc hW hs hl hh
  have hq := List.all_eq_true.mp hM _ (fz_at_mem hc)
  unfold fz_okI at hq
  rw [Bool.and_eq_true] at hq
  have hq2 := hq.2
  dsimp only at hq2
  cases hcl : fz_nth fz_sts sx with
  | none => rw [hcl] at hq2; cases hq2
  | some z =>
    obtain ⟨Cn, nn, dd, i0⟩ := z
    rw [hcl] at hq2
    simp only [Bool.and_eq_true, decide_eq_true_eq] at hq2
    have hm : (Cn, nn, dd, i0) ∈ fz_sts := by
      rw [fz_nth_eq] at hcl
      exact List.mem_of_getElem? hcl
    have hZ := C.2.2.2.2.2.2.2.2.2.2.2.2.2.1 _ hm
    have hts := C.2.2.2.2.2.1
    refine va_gets (v := .ref (fz_ad E i0)) C.1 C.2.1 hZ hW.2.2.1 C.2.2.2.2.1 (hts _ (fz_isF_spec hq2.2)) (fun _ h9 => h9) (fz_dec hM hc) ?_
    rw [← hq2.1]
    exact k E p l e R s m args below meth c cells slots Qf C hend H locs lsc hW (fz_n0 (show fz_nv (fz_r id) from trivial) hs) hl hh
theorem fz_ldc {idx : Nat} {v : Int32} {x : Int} (hM : fz_okM M = true) (hc : fz_at M.2.2.2.2 pc = some (.ldc idx, 2, a, b, w)) (hv : fz_wa a = some (.constant M.1.cls idx v)) (hx : v.toInt = x) (k : fz_R d M (pc + 2) ls (fz_i x :: st) h Q) : fz_R d M pc ls st h Q := by
  intro E p l e R s m args below meth c cells slots Qf C hend H locs lsc hW hs hl hh
  subst hx
  have hts := C.2.2.2.2.2.1
  refine lv_ldc C.1 C.2.1 C.2.2.2.2.1 (hts _ (fz_has hv rfl)) (fz_dec hM hc) ?_
  have kk := k E p l e R s m args below meth c cells slots Qf C hend H locs lsc hW (fz_n0 (show fz_nv (fz_i _) from fz_b32 v) hs) hl hh
  simp only [List.map_cons, fz_cv, fz_r32] at kk
  exact kk
theorem fz_ldcw {idx : Nat} {v : Int32} {x : Int} (hM : fz_okM M = true) (hc : fz_at M.2.2.2.2 pc = some (.ldc_w idx, 3, a, b, w)) (hv : fz_wa a = some (.constant M.1.cls idx v)) (hx : v.toInt = x) (k : fz_R d M (pc + 3) ls (fz_i x :: st) h Q) : fz_R d M pc ls st h Q := by
  intro E p l e R s m args below meth c cells slots Qf C hend H locs lsc hW hs hl hh
  subst hx
  have hts := C.2.2.2.2.2.1
  refine lv_ldcw C.1 C.2.1 C.2.2.2.2.1 (hts _ (fz_has hv rfl)) (fz_dec hM hc) ?_
  have kk := k E p l e R s m args below meth c cells slots Qf C hend H locs lsc hW (fz_n0 (show fz_nv (fz_i _) from fz_b32 v) hs) hl hh
  simp only [List.map_cons, fz_cv, fz_r32] at kk
  exact kk
theorem fz_ldc2 {idx : Nat} {v : Int64} {x : Int} (hM : fz_okM M = true) (hc : fz_at M.2.2.2.2 pc = some (.ldc2_w idx, 3, a, b, w)) (hv : fz_wa a = some (.constantLong M.1.cls idx v)) (hx : v.toInt = x) (k : fz_R d M (pc + 3) ls (fz_l x :: st) h Q) : fz_R d M pc ls st h Q := by
  intro E p l e R s m args below meth c cells slots Qf C hend H locs lsc hW hs hl hh
  subst hx
  have hts := C.2.2.2.2.2.1
  refine lv_ldc2 C.1 C.2.1 C.2.2.2.2.1 (hts _ (fz_has hv rfl)) (fz_dec hM hc) ?_
  have kk := k E p l e R s m args below meth c cells slots Qf C hend H locs lsc hW (fz_n0 (show fz_nv (fz_l _) from fz_b64 v) hs) hl hh
  simp only [List.map_cons, fz_cv, fz_r64] at kk
  exact kk
/-- ends -/
theorem fz_iret {x : Int} (hM : fz_okM M = true) (hc : fz_at M.2.2.2.2 pc = some (.ireturn, 1, a, b, w)) (hr : M.2.2.2.1 = some .int) (k : -2147483648 ≤ x ∧ x < 2147483648 → Q h (some (fz_i x))) : fz_R d M pc ls [fz_i x] h Q := by
  intro E p l e R s m args below meth c cells slots Qf C hend H locs lsc hW hs hl hh
  have hx1 : -2147483648 ≤ x ∧ x < 2147483648 := fz_h1 hs
  exact hend h (some (fz_i x)) pc lsc H locs (k hx1) (by rw [hr]; exact hx1) (fz_dec hM hc) hW
theorem fz_zret {x : Int} (hM : fz_okM M = true) (hc : fz_at M.2.2.2.2 pc = some (.ireturn, 1, a, b, w)) (hr : M.2.2.2.1 = some .boolean) (hx : x = 0 ∨ x = 1) (k : Q h (some (fz_i x))) : fz_R d M pc ls [fz_i x] h Q := by
  intro E p l e R s m args below meth c cells slots Qf C hend H locs lsc hW hs hl hh
  exact hend h (some (fz_i x)) pc lsc H locs k (by rw [hr]; exact hx) (fz_dec hM hc) hW
theorem fz_lret {x : Int} (hM : fz_okM M = true) (hc : fz_at M.2.2.2.2 pc = some (.lreturn, 1, a, b, w)) (hr : M.2.2.2.1 = some .long) (k : -9223372036854775808 ≤ x ∧ x < 9223372036854775808 → Q h (some (fz_l x))) : fz_R d M pc ls [fz_l x] h Q := by
  intro E p l e R s m args below meth c cells slots Qf C hend H locs lsc hW hs hl hh
  have hx1 : -9223372036854775808 ≤ x ∧ x < 9223372036854775808 := fz_h1 hs
  exact hend h (some (fz_l x)) pc lsc H locs (k hx1) (by rw [hr]; exact hx1) (fz_dec hM hc) hW
theorem fz_vret (hM : fz_okM M = true) (hc : fz_at M.2.2.2.2 pc = some (.return_, 1, a, b, w)) (hr : M.2.2.2.1 = none) (k : Q h none) : fz_R d M pc ls [] h Q := by
  intro E p l e R s m args below meth c cells slots Qf C hend H locs lsc hW hs hl hh
  exact hend h none pc lsc H locs k (by rw [hr]; trivial) (fz_dec hM hc) hW
end FZ
end
section
/-! ===== rules: calls ===== -/
def fz_en : Nat → List fz_V → List (Nat × fz_V)
  | _, [] => []
  | i, v :: vs => (i, v) :: fz_en (if fz_cat v = 2 then i + 2 else i + 1) vs
theorem fz_en_map (E : fz_E) : ∀ (vs : List fz_V) (i : Nat), lv_args i (vs.map (fz_cv (fz_ad E))) = (fz_en i vs).map (fun q => (q.1, fz_cv (fz_ad E) q.2))
  | [], i => rfl
  | v :: vs, i => by
    simp only [List.map_cons, lv_args, fz_en, fz_cat_cv]
    rw [fz_en_map E vs]
theorem fz_en_mem {vs : List fz_V} : ∀ {i : Nat} {q : Nat × fz_V}, q ∈ fz_en i vs → q.2 ∈ vs := by
  induction vs with
  | nil => intro i q h; cases h
  | cons v vs ih =>
    intro i q h
    rcases List.mem_cons.mp h with h | h
    · rw [h]; exact List.mem_cons_self
    · exact List.mem_cons_of_mem _ (ih h)
theorem fz_sl_len (E : fz_E) : ∀ (vs : List fz_V), (lg_sl (vs.map (fz_cv (fz_ad E)))).length = (vs.map fz_cat).sum
  | [] => rfl
  | v :: vs => by
    have ih := fz_sl_len E vs
    unfold lg_sl at ih ⊢
    simp only [List.map_cons, List.flatMap_cons, List.length_append, List.sum_cons, ih, fz_cat_cv]
    rcases v with x | x | x <;> simp [fz_cat]
/-- what is asked of a method that is called: nargs of the descriptor, an instance method or not -/
def fz_vM (M : fz_M) (n : Nat) (stat : Bool) : Prop :=
  plainName M.1.cls = true ∧ M.1.cls ≠ "java/lang/invoke/MethodHandle" ∧ M.1.cls ≠ "java/lang/invoke/VarHandle" ∧ (parseMethodDescriptor M.1.desc).map (fun q => q.parameters.length) = some n ∧
  Cond.code M.1 M.2.1 M.2.2.1 M.2.2.2.1 ∈ fz_tb ∧ Cond.initialized M.1.cls ∈ fz_tb ∧
  (if stat = true then Cond.static M.1 ∈ fz_tb else Cond.instanceMethod M.1 ∈ fz_tb ∧ Cond.selects M.1.cls M.1 M.1 ∈ fz_tb) ∧ M.2.2.1 ≤ 40
theorem fz_vS {M : fz_M} {n : Nat} (i1 i2 i3 : Nat) (h1 : (plainName M.1.cls && decide (M.1.cls ≠ "java/lang/invoke/MethodHandle") && decide (M.1.cls ≠ "java/lang/invoke/VarHandle") && decide ((parseMethodDescriptor M.1.desc).map (fun q => q.parameters.length) = some n) && decide (M.2.2.1 ≤ 40)) = true)
    (h2 : fz_wa i1 = some (Cond.code M.1 M.2.1 M.2.2.1 M.2.2.2.1)) (h3 : fz_wa i2 = some (Cond.initialized M.1.cls)) (h4 : fz_wa i3 = some (Cond.static M.1)) : fz_vM M n true := by
  simp only [Bool.and_eq_true, decide_eq_true_eq] at h1
  exact ⟨h1.1.1.1.1, h1.1.1.1.2, h1.1.1.2, h1.1.2, fz_has h2 rfl, fz_has h3 rfl, by rw [if_pos rfl]; exact fz_has h4 rfl, h1.2⟩
theorem fz_vI {M : fz_M} {n : Nat} (i1 i2 i3 i4 : Nat) (h1 : (plainName M.1.cls && decide (M.1.cls ≠ "java/lang/invoke/MethodHandle") && decide (M.1.cls ≠ "java/lang/invoke/VarHandle") && decide ((parseMethodDescriptor M.1.desc).map (fun q => q.parameters.length) = some n) && decide (M.2.2.1 ≤ 40)) = true)
    (h2 : fz_wa i1 = some (Cond.code M.1 M.2.1 M.2.2.1 M.2.2.2.1)) (h3 : fz_wa i2 = some (Cond.initialized M.1.cls)) (h4 : fz_wa i3 = some (Cond.instanceMethod M.1)) (h5 : fz_wa i4 = some (Cond.selects M.1.cls M.1 M.1)) : fz_vM M n false := by
  simp only [Bool.and_eq_true, decide_eq_true_eq] at h1
  exact ⟨h1.1.1.1.1, h1.1.1.1.2, h1.1.1.2, h1.1.2, fz_has h2 rfl, fz_has h3 rfl, by rw [if_neg (by decide)]; exact ⟨fz_has h4 rfl, fz_has h5 rfl⟩, h1.2⟩
def fz_pc (C : String) : Bool := plainName C && decide (C ≠ "java/lang/invoke/MethodHandle") && decide (C ≠ "java/lang/invoke/VarHandle")
def fz_pd (d : String) (n : Nat) : Bool := decide ((parseMethodDescriptor d).map (fun q => q.parameters.length) = some n)
theorem fz_vS2 {M : fz_M} {n : Nat} (i1 i2 i3 : Nat) (hc : fz_pc M.1.cls = true) (hd : fz_pd M.1.desc n = true) (hl : decide (M.2.2.1 ≤ 40) = true)
    (h2 : fz_wa i1 = some (Cond.code M.1 M.2.1 M.2.2.1 M.2.2.2.1)) (h3 : fz_wa i2 = some (Cond.initialized M.1.cls)) (h4 : fz_wa i3 = some (Cond.static M.1)) : fz_vM M n true :=
  fz_vS i1 i2 i3 (by show (fz_pc M.1.cls && fz_pd M.1.desc n && decide (M.2.2.1 ≤ 40)) = true; rw [hc, hd, hl]; rfl) h2 h3 h4
theorem fz_vI2 {M : fz_M} {n : Nat} (i1 i2 i3 i4 : Nat) (hc : fz_pc M.1.cls = true) (hd : fz_pd M.1.desc n = true) (hl : decide (M.2.2.1 ≤ 40) = true)
    (h2 : fz_wa i1 = some (Cond.code M.1 M.2.1 M.2.2.1 M.2.2.2.1)) (h3 : fz_wa i2 = some (Cond.initialized M.1.cls)) (h4 : fz_wa i3 = some (Cond.instanceMethod M.1)) (h5 : fz_wa i4 = some (Cond.selects M.1.cls M.1 M.1)) : fz_vM M n false :=
  fz_vI i1 i2 i3 i4 (by show (fz_pc M.1.cls && fz_pd M.1.desc n && decide (M.2.2.1 ≤ 40)) = true; rw [hc, hd, hl]; rfl) h2 h3 h4 h5
abbrev fz_wd (M : fz_M) : List Cond := Cond.code M.1 M.2.1 M.2.2.1 M.2.2.2.1 :: fz_tb
def fz_rm (d : Nat) : Room := { frames := d, cells := 0, slots := 0, locals := d * 64 }
def fz_Pc (E : fz_E) (h : fz_H) (U : State) : Prop := va_P (fz_dA E) vwCl (fz_ws E h) U.heap ∧ va_K (fz_dA E) vwCl (fz_ty E) U ∧ va_D (fz_A E) (fz_ws E h) ∧ fz_nh h ∧ (∀ id, 200 ≤ id → h id = fz_tc E id) ∧ fz_St E U
def fz_Qc (E : fz_E) (ret : Option FieldType) (Q : fz_H → Option fz_V → Prop) : Array Value → State → Outcome → State → Prop := fun _ st oc t =>
  (∃ (h : fz_H) (r : Option fz_V), oc = .returned (r.map (fz_cv (fz_ad E))) ∧ Q h r ∧ fz_rok ret r ∧ va_P (fz_dA E) vwCl (fz_ws E h) t.heap ∧ va_D (fz_A E) (fz_ws E h) ∧ fz_nh h ∧ (∀ id, 200 ≤ id → h id = fz_tc E id)) ∧ va_F (fz_A E) st t
theorem fz_St_moved {E : fz_E} {s U : State} {H : Heap} {locs : List Loc} (hW9 : s.WarmedH U.vm) (hS : va_S (fz_A E) s.heap H locs) (hU : U.heap = H) (h : fz_St E s) : fz_St E U := by
  have hvm := hW9.alike
  have key : ∀ a : Nat, a < s.heap.size → ¬ fz_A E a → U.heap[a]? = s.heap[a]? := fun a h1 h2 => by rw [hU]; exact hS.2.1 a h1 h2
  exact ⟨fun id h1 h2 => ((h.1 id h1 h2).moved hvm).kept key, fun q hq => ((h.2.1 q hq).moved hvm).kept key, st_ok.kept (h.2.2.1.warm hW9) key, st_nN_warm hW9 h.2.2.2⟩
theorem fz_blind {E : fz_E} {h : fz_H} {vs : List Value} : FrameBlind (va_Pc vs (fz_Pc E h)) := by
  intro a U g mk hp
  obtain ⟨h1, h2, h3, h4, h5, h6, h7⟩ := hp
  have hal : U.vm.Alike (U.calling g mk a).vm := Vm.Alike.refl U.vm
  refine ⟨h1, h2, va_K.moved hal h3, h4, h5, h6, ?_⟩
  exact ⟨fun id z1 z2 => (h7.1 id z1 z2).moved hal, fun q hq => (h7.2.1 q hq).moved hal, st_ok.same (u := U) (U := U.calling g mk a) rfl h7.2.2.1, st_nN_vm (u := U) (U := U.calling g mk a) rfl h7.2.2.2⟩
theorem fz_met {d : Nat} {M : fz_M} {n : Nat} {stat : Bool} {vs : List fz_V} {h : fz_H} {Q : fz_H → Option fz_V → Prop} (hv : fz_vM M n stat) (hL : (vs.map fz_cat).sum ≤ M.2.2.1) (hn : ∀ v ∈ vs, fz_nv v) (hR : fz_R d M 0 (fz_en 0 vs) [] h Q) (E : fz_E) (l : Launch) :
    Met l M.1 (fz_wd M) (fz_rm d) (va_Pc (vs.map (fz_cv (fz_ad E))) (fz_Pc E h)) (fz_Qc E M.2.2.2.1 Q) 0 0 (fz_A E) := by
  obtain ⟨v1, v2, v3, v4, v5, v6, v7, v8⟩ := hv
  refine Met.ofW (cc := M.2.1) (maxL := M.2.2.1) (ret := M.2.2.2.1) v1 rfl ?_
  intro p e s m args below meth c s₁ B hml hpc
  obtain ⟨rfl, hP, hK, hD, hnh, hht, hSt⟩ := hpc
  have hts := atoms_spec (ws := fz_wd M) B.pre
  have hl := lv_entry (vs.map (fz_cv (fz_ad E))) (n := M.2.2.1) (by rw [fz_sl_len]; exact hL)
  rw [lg_entry_eq]
  generalize (lg_sl (vs.map (fz_cv (fz_ad E))) ++ List.replicate (M.2.2.1 - (lg_sl (vs.map (fz_cv (fz_ad E)))).length) Slot.unset).toArray = lsc at hl ⊢
  rw [fz_en_map] at hl
  have hlocks := B.notSynchronized
  have C : fz_Cx d M E p (headSpec (fz_wd M) (fz_rm d)).room s m ((vs.map (fz_cv (fz_ad E))).toArray) meth c 0 0 :=
    ⟨B.exec, B.bytes, B.returns, hml, findClass_of_methodNamed B.named, fun w hw => hts w (List.mem_cons_of_mem _ hw), hlocks, Nat.le_refl _, Nat.le_refl _, hK, Nat.le_refl _, Nat.le_refl _, hSt⟩
  refine hR E p l e _ s m _ below meth c 0 0 _ C ?_ s.heap [] lsc ⟨hP, hD, va_S.rf, hnh, hht⟩ (fun _ z => by cases z) (fun q hq => hn _ (fz_en_mem hq)) hl
  intro h' r pc' lsc' H locs hQ hrok hdr hW
  obtain ⟨w1, w2, w3, w4, w5⟩ := hW
  have fin : ∀ t : State, t.heap = H → s.WarmedH t.vm → fz_Qc E M.2.2.2.1 Q ((vs.map (fz_cv (fz_ad E))).toArray) s (.returned (r.map (fz_cv (fz_ad E)))) t := by
    intro t ht _
    exact ⟨⟨h', r, rfl, hQ, hrok, by rw [ht]; exact w1, w2, w4, w5⟩, w3.F ht⟩
  have hr : meth.sig.returnType = M.2.2.2.1 := B.returns
  rcases r with _ | x | x | x
  · have hret : M.2.2.2.1 = none := by
      cases hq : M.2.2.2.1 with
      | none => rfl
      | some ty => rw [hq] at hrok; cases ty <;> exact hrok.elim
    exact W.vret C.1 C.2.1 (by rw [hr]; exact hret) fin w3.2.2 hdr
  · cases hq : M.2.2.2.1 with
    | none => rw [hq] at hrok; exact hrok.elim
    | some ty =>
      rw [hq] at hrok
      have hnar : narrow ty (.int (Int32.ofInt x)) = .int (Int32.ofInt x) := by
        cases ty <;> first | exact hrok.elim | rfl | (rcases hrok with rfl | rfl <;> decide)
      rw [hq] at fin
      exact W.zret (ty := ty) C.1 C.2.1 (by rw [hr]; exact hq) hnar fin w3.2.2 hdr
  · have hret : M.2.2.2.1 = some .long := by
      cases hq : M.2.2.2.1 with
      | none => rw [hq] at hrok; exact hrok.elim
      | some ty => rw [hq] at hrok; cases ty <;> first | exact hrok.elim | rfl
    exact W.lret C.1 C.2.1 (by rw [hr]; exact hret) fin w3.2.2 hdr
  · exact hdr.elim
theorem fz_good (M : fz_M) (h : Cond.code M.1 M.2.1 M.2.2.1 M.2.2.2.1 ∈ fz_tb) (ws : List Cond) (hw : ∀ w ∈ ws, w ∈ fz_tb) : GoodIn fz_tb (ws ++ fz_wd M) := by
  intro w hw2
  have hm : w ∈ fz_tb := by
    rcases List.mem_append.mp hw2 with h1 | h1
    · exact hw w h1
    · rcases List.mem_cons.mp h1 with h2 | h2
      · rw [h2]; exact h
      · exact h2
  exact ⟨hm, good_of_word (fz_tb_all w hm)⟩
section FZ
variable {d : Nat} {M : fz_M} {pc a b w : Nat} {ls ls' : List (Nat × fz_V)} {st : List fz_V} {h : fz_H} {Q : fz_H → Option fz_V → Prop}
theorem fz_goon {E : fz_E} {p : Program} {l : Launch} {e : Env} {R : Room} {s : State} {m : MethodId} {args : Array Value} {below : List Frame} {meth : Method} {c : Code} {cells slots : Nat} {Qf : State → Prop} {H : Heap} {locs : List Loc} {lsc : Array Slot} {S : List Value} {ret : Option FieldType} {Q' : fz_H → Option fz_V → Prop} {aa : Array Value}
    (C : fz_Cx d M E p R s m args meth c cells slots)
    (hend : ∀ (h' : fz_H) (r : Option fz_V) (pc' : Nat) (lsc : Array Slot) (H : Heap) (locs : List Loc), Q h' r → fz_rok M.2.2.2.1 r → fz_dr M.2.1 pc' r → fz_Wd E h' s H locs → W p l e R s m args below meth c H locs cells slots Qf (F0 m pc' lsc (r.toList.map (fz_cv (fz_ad E)))))
    (hrun : va_Run p l e R s m args below meth c H locs cells slots 0 0 (F0 m pc lsc S) (st.map (fz_cv (fz_ad E))) (fz_Qc E ret Q' aa) (fz_A E))
    (hS : va_S (fz_A E) s.heap H locs) (hs : ∀ v ∈ st, fz_nv v) (hl : ∀ q ∈ ls, fz_nv q.2) (hh : lv_has lsc M.2.2.1 (ls.map (fun q => (q.1, fz_cv (fz_ad E) q.2))))
    (k : ∀ h' r, Q' h' r → fz_rok ret r → fz_R d M (pc + 3) ls (r.toList ++ st) h' Q) : W p l e R s m args below meth c H locs cells slots Qf (F0 m pc lsc S) := by
  intro T hT X
  obtain ⟨v, st₀, t, T', L, h0, X', hL, e1, e2, ⟨⟨h', r, hv, hq, hrok, hP, hD, hnh, hht⟩, hz, hk⟩, st1⟩ := hrun T hT X
  cases hv
  rw [h0] at hz hk
  have hS' : va_S (fz_A E) s.heap T'.heap (locs ++ L) :=
    ⟨Nat.le_trans hS.1 (by rw [e1]; exact hz), fun q h1 h2 => by rw [e1, hk q (Nat.lt_of_lt_of_le h1 hS.1) h2]; exact hS.2.1 q h1 h2, fun q hq => by
      rcases List.mem_append.mp hq with h1 | h1
      · exact hS.2.2 q h1
      · exact hL q h1⟩
  have hnr : ∀ v ∈ r.toList ++ st, fz_nv v := by
    intro v hv
    rcases List.mem_append.mp hv with h1 | h1
    · cases r with
      | none => cases h1
      | some x =>
        have : v = x := by simpa using h1
        subst this
        cases ret with
        | none => exact hrok.elim
        | some ty =>
          rcases v with y | y | y
          · cases ty <;> first | exact hrok.elim | exact hrok | (rcases hrok with rfl | rfl <;> exact ⟨by decide, by decide⟩)
          · cases ty <;> first | exact hrok.elim | exact hrok
          · trivial
    · exact hs v h1
  have kk := k h' r hq hrok E p l e R s m args below meth c cells slots Qf C hend T'.heap (locs ++ L) lsc ⟨by rw [e1]; exact hP, hD, hS', hnh, hht⟩ hnr hl hh
  obtain ⟨t2, a1, b1⟩ := kk T' rfl X'
  refine ⟨t2, st1 t2 ?_, b1⟩
  have e3 : (Option.map (fz_cv (fz_ad E)) r).toList ++ st.map (fz_cv (fz_ad E)) = (r.toList ++ st).map (fz_cv (fz_ad E)) := by
    cases r <;> simp
  show Steps p.tables e below (T'.setTop { method := m, pc := pc + 3, locals := lsc, stack := (Option.map (fz_cv (fz_ad E)) r).toList ++ st.map (fz_cv (fz_ad E)), locked := none }) t2
  rw [e3]
  exact a1
theorem fz_callV {d' : Nat} {M' : fz_M} {n o ci nf idx : Nat} {As S : List fz_V} {Q' : fz_H → Option fz_V → Prop} (hM : fz_okM M = true) (hc : fz_at M.2.2.2.2 pc = some (.invokevirtual idx, 3, a, b, w)) (hb2 : fz_nth fz_ms b = some M'.1) (hv : fz_vM M' n false)
    (ho : fz_sh o = (0, ci, nf)) (hci : (fz_nth vwCl ci).map (fun q => q.1) = some M'.1.cls) (hn : As.length = n) (hst : S = As.reverse ++ fz_r o :: st) (hL : ((fz_r o :: As).map fz_cat).sum ≤ M'.2.2.1) (hcap : (st.map fz_cat).sum ≤ 8) (hd : d' + 1 ≤ d)
    (hR : fz_R d' M' 0 (fz_en 0 (fz_r o :: As)) [] h Q') (k : ∀ h' r, Q' h' r → fz_rok M'.2.2.2.1 r → fz_R d M (pc + 3) ls (r.toList ++ st) h' Q) : fz_R d M pc ls S h Q := by
  subst hst
  intro E p l e R s m args below meth c cells slots Qf C hend H locs lsc hW hs hl hh
  have hq := List.all_eq_true.mp hM _ (fz_at_mem hc)
  unfold fz_okI at hq
  rw [Bool.and_eq_true] at hq
  have hq2 := hq.2
  dsimp only at hq2
  rw [hb2] at hq2
  have hml := fz_isM_spec hq2
  have hvv := hv
  obtain ⟨v1, v2, v3, v4, v5, v6, v79, v8⟩ := hvv
  rw [if_neg (by decide)] at v79
  obtain ⟨v7, v9⟩ := v79
  have hsA : ∀ v ∈ fz_r o :: As, fz_nv v := by
    intro v hv
    refine hs v ?_
    rcases List.mem_cons.mp hv with h1 | h1
    · rw [h1]; simp
    · simp [h1]
  have hsR : ∀ v ∈ st, fz_nv v := fun v hv => hs v (by simp [hv])
  have hMet := fz_met (d := d') (M := M') hv hL hsA hR E l
  have hts := C.2.2.2.2.2.1
  have hK := C.2.2.2.2.2.2.2.2.2.1
  have hlt : o < fz_N := fz_sh_lt ho (show (0 : Nat) ≠ 9 by decide)
  have hat := fz_ws_at E h hlt
  rw [show fz_ce E h o = .inr (ci, (List.range nf).map (fz_fv (fz_ad E) h o)) by unfold fz_ce; rw [ho, if_pos rfl]] at hat
  obtain ⟨z, hz1, hz2⟩ := Option.map_eq_some_iff.mp hci
  rw [fz_nth_eq] at hz1
  have hrecv := va_recv hK hW.1 hz1 hat
  rw [hz2] at hrecv
  have hgood : GoodIn fz_tb (wsV M.1.cls idx M'.1.cls M'.1 (fz_wd M')) := fz_good M' v5 _ (by
    intro x hx
    simp only [List.mem_cons, List.not_mem_nil, or_false] at hx
    rcases hx with rfl | rfl | rfl | rfl
    · exact hml
    · exact v7
    · exact v9
    · exact v6)
  have hroom : (fz_rm d').frames + 1 ≤ R.frames ∧ 8 + (M'.2.2.1 + 11) + (fz_rm d').locals ≤ R.locals := by
    have := C.2.2.2.2.2.2.2.1
    have := C.2.2.2.2.2.2.2.2.1
    constructor
    · show d' + 1 ≤ R.frames; omega
    · show 8 + (M'.2.2.1 + 11) + d' * 64 ≤ R.locals
      omega
  have hcw := cwV (R := R) n hts hgood rfl (rm := fz_rm d') (mc := 0) (ms := 0) rfl rfl ⟨rfl, v2, v3, v4⟩ hroom
  have e0 : (As.reverse ++ fz_r o :: st).map (fz_cv (fz_ad E)) = (As.map (fz_cv (fz_ad E))).reverse ++ Value.ref (fz_ad E o) :: st.map (fz_cv (fz_ad E)) := by
    simp [fz_cv]
  rw [e0]
  have hrun := va_runV (cells := cells) (slots := slots) (e := e) (below := below) (meth := meth) (locs := locs) (H := H) (b := fz_ad E o) (As := As.map (fz_cv (fz_ad E))) (rest := st.map (fz_cv (fz_ad E))) (g := F0 m pc lsc ((As.map (fz_cv (fz_ad E))).reverse ++ Value.ref (fz_ad E o) :: st.map (fz_cv (fz_ad E)))) ⟨C.1, C.2.1, C.2.2.2.1, C.2.2.2.2.1, hts⟩ hMet hcw
    ⟨fz_blind, hrecv, fun U hU hWm => ⟨by simp [fz_cv], by rw [hU]; exact hW.1, va_K.moved hWm.alike hK, hW.2.1, hW.2.2.2.1, hW.2.2.2.2, fz_St_moved hWm hW.2.2.1 hU C.2.2.2.2.2.2.2.2.2.2.2.2⟩⟩ rfl (by rw [List.length_map]; exact hn) hh.1 rfl
    (lv_room (by rw [List.map_map, show ((fun v => Value.category v) ∘ fz_cv (fz_ad E)) = fz_cat from funext (fun v => fz_cat_cv _ v)]; exact hcap)) (fz_dec hM hc) ⟨C.2.2.2.2.2.2.2.2.2.2.1, C.2.2.2.2.2.2.2.2.2.2.2.1⟩
  exact fz_goon C hend hrun hW.2.2.1 hsR hl hh k
theorem fz_callS {d' : Nat} {M' : fz_M} {n idx : Nat} {As S : List fz_V} {Q' : fz_H → Option fz_V → Prop} (hM : fz_okM M = true) (hc : fz_at M.2.2.2.2 pc = some (.invokestatic idx, 3, a, b, w)) (hb2 : fz_nth fz_ms b = some M'.1) (hv : fz_vM M' n true)
    (hn : As.length = n) (hst : S = As.reverse ++ st) (hL : (As.map fz_cat).sum ≤ M'.2.2.1) (hcap : (st.map fz_cat).sum ≤ 8) (hd : d' + 1 ≤ d)
    (hR : fz_R d' M' 0 (fz_en 0 As) [] h Q') (k : ∀ h' r, Q' h' r → fz_rok M'.2.2.2.1 r → fz_R d M (pc + 3) ls (r.toList ++ st) h' Q) : fz_R d M pc ls S h Q := by
  subst hst
  intro E p l e R s m args below meth c cells slots Qf C hend H locs lsc hW hs hl hh
  have hq := List.all_eq_true.mp hM _ (fz_at_mem hc)
  unfold fz_okI at hq
  rw [Bool.and_eq_true] at hq
  have hq2 := hq.2
  dsimp only at hq2
  rw [hb2] at hq2
  have hml := fz_isM_spec hq2
  have hvv := hv
  obtain ⟨v1, v2, v3, v4, v5, v6, v7, v8⟩ := hvv
  rw [if_pos rfl] at v7
  have hsA : ∀ v ∈ As, fz_nv v := fun v hv => hs v (by simp [hv])
  have hsR : ∀ v ∈ st, fz_nv v := fun v hv => hs v (by simp [hv])
  have hMet := fz_met (d := d') (M := M') hv hL hsA hR E l
  have hts := C.2.2.2.2.2.1
  have hK := C.2.2.2.2.2.2.2.2.2.1
  have hgood : GoodIn fz_tb (va_wsS M.1.cls idx M'.1 (fz_wd M')) := fz_good M' v5 _ (by
    intro x hx
    simp only [List.mem_cons, List.not_mem_nil, or_false] at hx
    rcases hx with rfl | rfl | rfl
    · exact hml
    · exact v7
    · exact v6)
  have hroom : (fz_rm d').frames + 1 ≤ R.frames ∧ 8 + (M'.2.2.1 + 11) + (fz_rm d').locals ≤ R.locals := by
    have := C.2.2.2.2.2.2.2.1
    have := C.2.2.2.2.2.2.2.2.1
    constructor
    · show d' + 1 ≤ R.frames; omega
    · show 8 + (M'.2.2.1 + 11) + d' * 64 ≤ R.locals
      omega
  have hcw := va_cwS (R := R) n hts hgood rfl (rm := fz_rm d') (mc := 0) (ms := 0) rfl rfl ⟨v2, v3, v4⟩ hroom
  have e0 : (As.reverse ++ st).map (fz_cv (fz_ad E)) = (As.map (fz_cv (fz_ad E))).reverse ++ st.map (fz_cv (fz_ad E)) := by
    simp
  rw [e0]
  have hrun := va_runS (cells := cells) (slots := slots) (e := e) (below := below) (meth := meth) (locs := locs) (H := H) (As := As.map (fz_cv (fz_ad E))) (rest := st.map (fz_cv (fz_ad E))) (g := F0 m pc lsc ((As.map (fz_cv (fz_ad E))).reverse ++ st.map (fz_cv (fz_ad E)))) ⟨C.1, C.2.1, C.2.2.2.1, C.2.2.2.2.1, hts⟩ hMet hcw
    ⟨fz_blind, fun U hU hWm => ⟨rfl, by rw [hU]; exact hW.1, va_K.moved hWm.alike hK, hW.2.1, hW.2.2.2.1, hW.2.2.2.2, fz_St_moved hWm hW.2.2.1 hU C.2.2.2.2.2.2.2.2.2.2.2.2⟩⟩ rfl (by rw [List.length_map]; exact hn) hh.1 rfl
    (lv_room (by rw [List.map_map, show ((fun v => Value.category v) ∘ fz_cv (fz_ad E)) = fz_cat from funext (fun v => fz_cat_cv _ v)]; exact hcap)) (fz_dec hM hc) ⟨C.2.2.2.2.2.2.2.2.2.2.1, C.2.2.2.2.2.2.2.2.2.2.2.1⟩
  exact fz_goon C hend hrun hW.2.2.1 hsR hl hh k
end FZ
end
section
/-! ===== making: a machine for constructors, over a world that grows ===== -/
theorem fz_has0 {n : Nat} {w : Cond} (h : fz_wa n = some w) : w ∈ lw_tbl := by
  unfold fz_wa at h
  rw [fz_nth_eq] at h
  have hm := List.mem_of_getElem? h
  show w ∈ k2_sels lw_privs ++ (tables_1_1 ++ (tables_1_2 ++ (tables_1_3 ++ (tables_1_4 ++ (tables_1_5 ++ tables_1_6)))))
  simp only [List.mem_append]
  unfold fz_wl0 at hm
  split at hm
  · exact Or.inl hm
  · exact Or.inr (Or.inl hm)
  · exact Or.inr (Or.inr (Or.inl hm))
  · exact Or.inr (Or.inr (Or.inr (Or.inl hm)))
  · exact Or.inr (Or.inr (Or.inr (Or.inr (Or.inl hm))))
  · exact Or.inr (Or.inr (Or.inr (Or.inr (Or.inr (Or.inl hm)))))
  · exact Or.inr (Or.inr (Or.inr (Or.inr (Or.inr (Or.inr hm)))))
  · cases hm
theorem fz_hasN {n : Nat} {w : Cond} (h : fz_wa n = some w) (hg : fz_isN w = true) : w ∈ fz_nw := List.mem_filter.mpr ⟨fz_has0 h, hg⟩
theorem fz_nN_of {A : Array Value} {s : State} (h : ∀ w ∈ lw_tbl, w.before A s = true) : fz_nN s := by
  intro w hw
  have h1 := h w (List.mem_filter.mp hw).1
  have h2 := (List.mem_filter.mp hw).2
  unfold fz_isN at h2
  split at h2
  · exact va_Nw.of rfl h1
  · cases h2
def fz_okK (M : fz_M) : Bool := M.2.2.2.2.all (fun q => decide (decode M.2.1 q.1 = .ok (q.2.1, q.2.2.1)))
theorem fz_okK_in {M : fz_M} (h1 : fd_wk M.2.1 (fd_n M.2.1) 0 M.2.2.2.2 = true) : fz_okK M = true := List.all_eq_true.mpr (fun q hq => decide_eq_true (fd_wk_ok _ _ 0 (fun z => by rw [fd_n_b1, Nat.zero_add]) h1 q hq))
theorem fz_dk {M : fz_M} (hM : fz_okK M = true) {pc : Nat} {v : Instr × Nat × Nat × Nat × Nat} (h : fz_at M.2.2.2.2 pc = some v) : decode M.2.1 pc = .ok (v.1, v.2.1) := by
  have h1 : decide (decode M.2.1 (pc, v).1 = .ok ((pc, v).2.1, (pc, v).2.2.1)) = true := List.all_eq_true.mp hM _ (fz_at_mem h)
  exact of_decide_eq_true h1
abbrev fz_BE : Type := va_G × ClassId × ClassId
def fz_Bx (D : fz_BE) (d NC NS : Nat) (M : fz_M) (p : Program) (R : Room) (s : State) (m : MethodId) (args : Array Value) (meth : Method) (c : Code) : Prop :=
  p.tables.exec = Jvm.exec ∧ c.code = M.2.1 ∧ meth.sig.returnType = M.2.2.2.1 ∧ c.maxLocals = M.2.2.1 ∧ s.vm.findClass M.1.cls = some m.cls ∧ (∀ w ∈ fz_tb, w.before args s = true) ∧ meth.locks = false ∧ (M.1.name = "<init>" → meth.name = "<init>") ∧ d ≤ R.frames ∧ d * 64 ≤ R.locals ∧ NC ≤ R.cells ∧ NS ≤ R.slots ∧ va_K D.1 vwCl [(D.2.1, .int), (D.2.2, .long)] s ∧ fz_nN s
/-- what holds of the world at the end; and, of the law alone, at its loop's head -/
abbrev fz_BQ : Type := (va_W → Prop) × (va_W → Array Slot → Prop)
abbrev fz_q (Q : va_W → Prop) : fz_BQ := (Q, fun _ _ => False)
/-- from here the constructor ends, with Q of its world; nc cells and ns slots have been made so far, NC and NS at the most -/
def fz_B (D : fz_BE) (d NC NS : Nat) (M : fz_M) (pc : Nat) (ls : List (Nat × Value)) (st : List Value) (ws : va_W) (nc ns : Nat) (Q : fz_BQ) : Prop :=
  ∀ (p : Program) (l : Launch) (e : Env) (R : Room) (s : State) (m : MethodId) (args : Array Value) (below : List Frame) (meth : Method) (c : Code) (Qf : State → Prop) (A : Nat → Prop) (H0 : Heap),
    fz_Bx D d NC NS M p R s m args meth c → (∀ q, H0.size ≤ q → A q) →
    (∀ (ws' : va_W) (pc' : Nat) (lsc : Array Slot) (H : Heap) (locs : List Loc), Q.1 ws' → decode M.2.1 pc' = .ok (.return_, 1) → va_P D.1 vwCl ws' H → va_D A ws' → va_S A H0 H locs → W p l e R s m args below meth c H locs NC NS Qf (F0 m pc' lsc [])) →
    (∀ (ws' : va_W) (lsc : Array Slot) (H : Heap) (locs : List Loc), Q.2 ws' lsc → va_P D.1 vwCl ws' H → va_D A ws' → va_S A H0 H locs → W p l e R s m args below meth c H locs NC NS Qf (F0 m 18 lsc [])) →
    ∀ (H : Heap) (locs : List Loc) (lsc : Array Slot), va_P D.1 vwCl ws H → va_D A ws → va_S A H0 H locs → lv_has lsc M.2.2.1 ls → W p l e R s m args below meth c H locs nc ns Qf (F0 m pc lsc st)
theorem fz_tI : (Cond.arrayClass FieldType.int) ∈ fz_tb := fz_has (n := 1074) rfl rfl
theorem fz_tJ : (Cond.arrayClass FieldType.long) ∈ fz_tb := fz_has (n := 1201) rfl rfl
theorem fz_tOi : (Cond.instanceMethod Lib.objectInit) ∈ fz_tb := fz_has (n := 1030) rfl rfl
theorem fz_tOc : (Cond.code Lib.objectInit ⟨#[0xb1]⟩ 1 none) ∈ fz_tb := fz_has (n := 1031) rfl rfl
section FB
variable {D : fz_BE} {d NC NS : Nat} {M : fz_M} {pc a b w : Nat} {ls ls' : List (Nat × Value)} {st : List Value} {ws ws' : va_W} {nc ns : Nat} {Q : fz_BQ}
theorem fz_bp {pc' : Nat} {st' : List Value}
    (hw : ∀ (p : Program) (l : Launch) (e : Env) (R : Room) (s : State) (m : MethodId) (args : Array Value) (below : List Frame) (meth : Method) (c : Code) (Qf : State → Prop) (H : Heap) (locs : List Loc) (lsc : Array Slot), p.tables.exec = Jvm.exec → c.code = M.2.1 → lv_has lsc M.2.2.1 ls → W p l e R s m args below meth c H locs nc ns Qf (F0 m pc' lsc st') → W p l e R s m args below meth c H locs nc ns Qf (F0 m pc lsc st))
    (k : fz_B D d NC NS M pc' ls st' ws nc ns Q) : fz_B D d NC NS M pc ls st ws nc ns Q := by
  intro p l e R s m args below meth c Qf A H0 C hA hend hx2 H locs lsc hP hD hS hl
  exact hw p l e R s m args below meth c Qf H locs lsc C.1 C.2.1 hl (k p l e R s m args below meth c Qf A H0 C hA hend hx2 H locs lsc hP hD hS hl)
theorem fz_b_ws (e : ws = ws') (k : fz_B D d NC NS M pc ls st ws' nc ns Q) : fz_B D d NC NS M pc ls st ws nc ns Q := by rw [e]; exact k
theorem fz_b_sz {nc' ns' : Nat} (e1 : nc = nc') (e2 : ns = ns') (k : fz_B D d NC NS M pc ls st ws nc' ns' Q) : fz_B D d NC NS M pc ls st ws nc ns Q := by rw [e1, e2]; exact k
theorem fz_b_aload_n {n : Fin 4} {x : Nat} (k : Nat) (hM : fz_okK M = true) (hc : fz_at M.2.2.2.2 pc = some (.aload_n n, 1, a, b, w)) (hv : ls[k]? = some ((n : Nat), .ref x)) (kk : fz_B D d NC NS M (pc + 1) ls (.ref x :: st) ws nc ns Q) : fz_B D d NC NS M pc ls st ws nc ns Q :=
  fz_bp (fun p l e R s m args below meth c Qf H locs lsc hx hb hl z => lv_aload_n hx hb (fz_dk hM hc) rfl (lv_at hl k hv) z) kk
theorem fz_b_iload_n {n : Fin 4} {x : Int32} (k : Nat) (hM : fz_okK M = true) (hc : fz_at M.2.2.2.2 pc = some (.iload_n n, 1, a, b, w)) (hv : ls[k]? = some ((n : Nat), .int x)) (kk : fz_B D d NC NS M (pc + 1) ls (.int x :: st) ws nc ns Q) : fz_B D d NC NS M pc ls st ws nc ns Q :=
  fz_bp (fun p l e R s m args below meth c Qf H locs lsc hx hb hl z => lv_iload_n hx hb (fz_dk hM hc) rfl (lv_at hl k hv) z) kk
theorem fz_b_iconst {n : Int} (hM : fz_okK M = true) (hc : fz_at M.2.2.2.2 pc = some (.iconst n, 1, a, b, w)) (kk : fz_B D d NC NS M (pc + 1) ls (.int (Int32.ofInt n) :: st) ws nc ns Q) : fz_B D d NC NS M pc ls st ws nc ns Q :=
  fz_bp (fun p l e R s m args below meth c Qf H locs lsc hx hb hl z => lv_iconst hx hb (fz_dk hM hc) rfl z) kk
theorem fz_b_bipush {n : Int} (hn : -128 ≤ n ∧ n < 128) (hM : fz_okK M = true) (hc : fz_at M.2.2.2.2 pc = some (.bipush n, 2, a, b, w)) (kk : fz_B D d NC NS M (pc + 2) ls (.int (Int32.ofInt n) :: st) ws nc ns Q) : fz_B D d NC NS M pc ls st ws nc ns Q :=
  fz_bp (fun p l e R s m args below meth c Qf H locs lsc hx hb hl z => lv_bipush hx hb (fz_dk hM hc) (fz_e_i8 hn) z) kk
theorem fz_b_sipush {n : Int} (hn : -32768 ≤ n ∧ n < 32768) (hM : fz_okK M = true) (hc : fz_at M.2.2.2.2 pc = some (.sipush n, 3, a, b, w)) (kk : fz_B D d NC NS M (pc + 3) ls (.int (Int32.ofInt n) :: st) ws nc ns Q) : fz_B D d NC NS M pc ls st ws nc ns Q :=
  fz_bp (fun p l e R s m args below meth c Qf H locs lsc hx hb hl z => lv_sipush hx hb (fz_dk hM hc) (fz_e_i16 hn) z) kk
theorem fz_b_dup {v : Value} (hv : v.category = 1) (hM : fz_okK M = true) (hc : fz_at M.2.2.2.2 pc = some (.dup, 1, a, b, w)) (kk : fz_B D d NC NS M (pc + 1) ls (v :: v :: st) ws nc ns Q) : fz_B D d NC NS M pc ls (v :: st) ws nc ns Q :=
  fz_bp (fun p l e R s m args below meth c Qf H locs lsc hx hb hl z => lv_dup hx hb (fz_dk hM hc) hv z) kk
theorem fz_b_goto {off : Int} {tgt : Nat} (hM : fz_okK M = true) (hc : fz_at M.2.2.2.2 pc = some (.goto off, 3, a, b, w)) (ht : (pc : Int) + off = (tgt : Int)) (kk : fz_B D d NC NS M tgt ls st ws nc ns Q) : fz_B D d NC NS M pc ls st ws nc ns Q :=
  fz_bp (fun p l e R s m args below meth c Qf H locs lsc hx hb hl z => lv_goto hx hb (fz_dk hM hc) ht z) kk
theorem fz_b_geT {x y : Int32} {off : Int} {tgt : Nat} (hM : fz_okK M = true) (hc : fz_at M.2.2.2.2 pc = some (.if_icmp .ge off, 3, a, b, w)) (ht : (pc : Int) + off = (tgt : Int)) (h : y ≤ x) (kk : fz_B D d NC NS M tgt ls st ws nc ns Q) : fz_B D d NC NS M pc ls (.int y :: .int x :: st) ws nc ns Q :=
  fz_bp (fun p l e R s m args below meth c Qf H locs lsc hx hb hl z => lv_icmp_ge hx hb (fz_dk hM hc) ht (fun _ => z) (fun q => absurd h q)) kk
theorem fz_b_geF {x y : Int32} {off : Int} {tgt : Nat} (hM : fz_okK M = true) (hc : fz_at M.2.2.2.2 pc = some (.if_icmp .ge off, 3, a, b, w)) (ht : (pc : Int) + off = (tgt : Int)) (h : ¬ y ≤ x) (kk : fz_B D d NC NS M (pc + 3) ls st ws nc ns Q) : fz_B D d NC NS M pc ls (.int y :: .int x :: st) ws nc ns Q :=
  fz_bp (fun p l e R s m args below meth c Qf H locs lsc hx hb hl z => lv_icmp_ge hx hb (fz_dk hM hc) ht (fun q => absurd q h) (fun _ => z)) kk
theorem fz_b_neT {x y : Int32} {off : Int} {tgt : Nat} (hM : fz_okK M = true) (hc : fz_at M.2.2.2.2 pc = some (.if_icmp .ne off, 3, a, b, w)) (ht : (pc : Int) + off = (tgt : Int)) (h : ¬ x = y) (kk : fz_B D d NC NS M tgt ls st ws nc ns Q) : fz_B D d NC NS M pc ls (.int y :: .int x :: st) ws nc ns Q :=
  fz_bp (fun p l e R s m args below meth c Qf H locs lsc hx hb hl z => lv_icmp_ne hx hb (fz_dk hM hc) ht (fun _ => z) (fun q => absurd q h)) kk
theorem fz_b_neF {x y : Int32} {off : Int} {tgt : Nat} (hM : fz_okK M = true) (hc : fz_at M.2.2.2.2 pc = some (.if_icmp .ne off, 3, a, b, w)) (ht : (pc : Int) + off = (tgt : Int)) (h : x = y) (kk : fz_B D d NC NS M (pc + 3) ls st ws nc ns Q) : fz_B D d NC NS M pc ls (.int y :: .int x :: st) ws nc ns Q :=
  fz_bp (fun p l e R s m args below meth c Qf H locs lsc hx hb hl z => lv_icmp_ne hx hb (fz_dk hM hc) ht (fun q => absurd h q) (fun _ => z)) kk
theorem fz_b_istore_n {n : Fin 4} {x : Int32} (hM : fz_okK M = true) (hc : fz_at M.2.2.2.2 pc = some (.istore_n n, 1, a, b, w)) (hn : (n : Nat) < M.2.2.1) (hl : ((n : Nat), Value.int x) :: ls.filter (fun q => !(q.1 == (n : Nat)) && !(q.1 + 1 == (n : Nat) && q.2.category == 2)) = ls') (kk : fz_B D d NC NS M (pc + 1) ls' st ws nc ns Q) : fz_B D d NC NS M pc ls (.int x :: st) ws nc ns Q := by
  intro p l e R s m args below meth c Qf A H0 C hA hend hx2 H locs lsc hP hD hS hh
  exact lv_istore_n C.1 C.2.1 (fz_dk hM hc) rfl hh hn hl (fun lsc2 h2 => kk p l e R s m args below meth c Qf A H0 C hA hend hx2 H locs lsc2 hP hD hS h2)
theorem fz_b_iinc {i k : Nat} {n : Int} {x v : Int32} (hM : fz_okK M = true) (hc : fz_at M.2.2.2.2 pc = some (.iinc i n, 3, a, b, w)) (hk : ls[k]? = some (i, .int x)) (hv : x + Int32.ofInt n = v) (hn : i < M.2.2.1) (hl : (i, Value.int v) :: ls.filter (fun q => !(q.1 == i) && !(q.1 + 1 == i && q.2.category == 2)) = ls') (kk : fz_B D d NC NS M (pc + 3) ls' st ws nc ns Q) : fz_B D d NC NS M pc ls st ws nc ns Q := by
  intro p l e R s m args below meth c Qf A H0 C hA hend hx2 H locs lsc hP hD hS hh
  exact lv_iinc C.1 C.2.1 (fz_dk hM hc) hh hk hv hn hl (fun lsc2 h2 => kk p l e R s m args below meth c Qf A H0 C hA hend hx2 H locs lsc2 hP hD hS h2)
theorem fz_b_obj {x idx : Nat} (hM : fz_okK M = true) (hc : fz_at M.2.2.2.2 pc = some (.invokespecial idx, 3, a, b, w)) (hlk : Cond.methodLink M.1.cls idx Lib.objectInit ∈ fz_tb) (hcap : (st.map fun v => v.category).sum ≤ 8) (hd : 1 ≤ d) (kk : fz_B D d NC NS M (pc + 3) ls st ws nc ns Q) : fz_B D d NC NS M pc ls (.ref x :: st) ws nc ns Q := by
  intro p l e R s m args below meth c Qf A H0 C hA hend hx2 H locs lsc hP hD hS hh
  have hts := C.2.2.2.2.2.1
  have r1 := C.2.2.2.2.2.2.2.2.1
  have r2 := C.2.2.2.2.2.2.2.2.2.1
  have hc8 := lv_room (m := m) (pc := pc) (ls := lsc) (rest := (.ref x :: st)) hcap
  exact W.objInit C.1 C.2.1 C.2.2.2.2.1 (hts _ hlk) (hts _ fz_tOi) (hts _ fz_tOc) rfl (by rw [C.2.2.2.1]; exact hh.1) rfl (fz_dk hM hc) (by omega) (by omega) (kk p l e R s m args below meth c Qf A H0 C hA hend hx2 H locs lsc hP hD hS hh)
theorem fz_b_new {ci idx N : Nat} {Cn : String} {T : u_T} (ty : Nat → FieldType) (fs : List Value) (hM : fz_okK M = true) (hc : fz_at M.2.2.2.2 pc = some (.new idx, 3, a, b, w)) (hcl : fz_nth vwCl ci = some (Cn, T, N)) (hty : ∀ k, k < N → parseFieldDescriptor (T k).2.2.1 = some (ty k))
    (h1 : Cond.classLink M.1.cls idx Cn ∈ fz_tb) (h2 : Cond.instantiable Cn N ∈ fz_tb) (h3 : Cond.initialized Cn ∈ fz_tb) (hfs : (List.range N).map (fun j => defaultValue (ty j)) = fs) (hn1 : nc + 1 ≤ NC) (hn2 : ns + N ≤ NS)
    (kk : ∀ q : Nat, fz_B D d NC NS M (pc + 3) ls (.ref q :: st) (ws ++ [(q, .inr (ci, fs))]) (nc + 1) (ns + N) Q) : fz_B D d NC NS M pc ls st ws nc ns Q := by
  intro p l e R s m args below meth c Qf A H0 C hA hend hx2 H locs lsc hP hD hS hh
  have hts := C.2.2.2.2.2.1
  have r3 := C.2.2.2.2.2.2.2.2.2.2.1
  have r4 := C.2.2.2.2.2.2.2.2.2.2.2.1
  have hK := C.2.2.2.2.2.2.2.2.2.2.2.2.1
  refine va_new (ci := ci) (fs := fs) (C := Cn) (T := T) (N := N) C.1 C.2.1 hts (fz_cl_in hcl) ty hty C.2.2.2.2.1 (hts _ h1) (hts _ h2) (hts _ h3) hK hP hD hS hA (by rw [← fz_nth_eq]; exact hcl) (fun j hj => ?_) (by omega) (by omega) (fz_dk hM hc) (fun q H1 hP1 hD1 hS1 => kk q p l e R s m args below meth c Qf A H0 C hA hend hx2 H1 locs lsc hP1 hD1 hS1 hh)
  rw [← hfs]
  unfold vp_V
  simp [List.getD, hj]
theorem fz_b_newI {n : Int} {N : Nat} (hM : fz_okK M = true) (hc : fz_at M.2.2.2.2 pc = some (.newarray .int, 2, a, b, w)) (hn : 0 ≤ n ∧ n < 100000) (hN : n.toNat = N) (hn1 : nc + 1 ≤ NC) (hn2 : ns + N ≤ NS)
    (kk : ∀ q : Nat, fz_B D d NC NS M (pc + 2) ls (.ref q :: st) (ws ++ [(q, .inl (D.2.1, N, .inl (fun _ => Int32.ofInt 0)))]) (nc + 1) (ns + N) Q) : fz_B D d NC NS M pc ls (.int (Int32.ofInt n) :: st) ws nc ns Q := by
  intro p l e R s m args below meth c Qf A H0 C hA hend hx2 H locs lsc hP hD hS hh
  have hts := C.2.2.2.2.2.1
  have r3 := C.2.2.2.2.2.2.2.2.2.2.1
  have r4 := C.2.2.2.2.2.2.2.2.2.2.2.1
  have hK := C.2.2.2.2.2.2.2.2.2.2.2.2.1
  have hx1 : -2147483648 ≤ n ∧ n < 2147483648 := ⟨by omega, by omega⟩
  refine va_newa (atype := .int) (a0 := (N, .inl (fun _ => Int32.ofInt 0))) (N' := N) (ty := .int) C.1 C.2.1 (hts _ fz_tI) rfl hK hP hD hS hA (fun cA => rfl) (fun z => by rw [Int32.lt_iff_toInt_lt, fz_t32 hx1] at z; exact absurd z (by show ¬ n < 0; omega)) (by rw [fz_ix hn.1 hx1.2]; exact hN) (by show N * 4 ≤ 536870912; omega) (by omega) (by omega) (fz_dk hM hc) (fun q cA H1 hK1 hP1 hD1 hS1 => ?_)
  have e1 : s.vm.findClass ("[" ++ FieldType.int.toString) = some cA := (hK1.2 2 (cA, .int) rfl).2
  have e2 : s.vm.findClass ("[" ++ FieldType.int.toString) = some D.2.1 := (hK.2 0 (D.2.1, .int) rfl).2
  have e3 : cA = D.2.1 := Option.some.inj (e1.symm.trans e2)
  subst e3
  exact kk q p l e R s m args below meth c Qf A H0 C hA hend hx2 H1 locs lsc hP1 hD1 hS1 hh
theorem fz_b_newJ {n : Int} {N : Nat} (hM : fz_okK M = true) (hc : fz_at M.2.2.2.2 pc = some (.newarray .long, 2, a, b, w)) (hn : 0 ≤ n ∧ n < 100000) (hN : n.toNat = N) (hn1 : nc + 1 ≤ NC) (hn2 : ns + N ≤ NS)
    (kk : ∀ q : Nat, fz_B D d NC NS M (pc + 2) ls (.ref q :: st) (ws ++ [(q, .inl (D.2.2, N, .inr (.inl (fun _ => Int64.ofInt 0))))]) (nc + 1) (ns + N) Q) : fz_B D d NC NS M pc ls (.int (Int32.ofInt n) :: st) ws nc ns Q := by
  intro p l e R s m args below meth c Qf A H0 C hA hend hx2 H locs lsc hP hD hS hh
  have hts := C.2.2.2.2.2.1
  have r3 := C.2.2.2.2.2.2.2.2.2.2.1
  have r4 := C.2.2.2.2.2.2.2.2.2.2.2.1
  have hK := C.2.2.2.2.2.2.2.2.2.2.2.2.1
  have hx1 : -2147483648 ≤ n ∧ n < 2147483648 := ⟨by omega, by omega⟩
  refine va_newa (atype := .long) (a0 := (N, .inr (.inl (fun _ => Int64.ofInt 0)))) (N' := N) (ty := .long) C.1 C.2.1 (hts _ fz_tJ) rfl hK hP hD hS hA (fun cA => rfl) (fun z => by rw [Int32.lt_iff_toInt_lt, fz_t32 hx1] at z; exact absurd z (by show ¬ n < 0; omega)) (by rw [fz_ix hn.1 hx1.2]; exact hN) (by show N * 8 ≤ 536870912; omega) (by omega) (by omega) (fz_dk hM hc) (fun q cA H1 hK1 hP1 hD1 hS1 => ?_)
  have e1 : s.vm.findClass ("[" ++ FieldType.long.toString) = some cA := (hK1.2 2 (cA, .long) rfl).2
  have e2 : s.vm.findClass ("[" ++ FieldType.long.toString) = some D.2.2 := (hK.2 1 (D.2.2, .long) rfl).2
  have e3 : cA = D.2.2 := Option.some.inj (e1.symm.trans e2)
  subst e3
  exact kk q p l e R s m args below meth c Qf A H0 C hA hend hx2 H1 locs lsc hP1 hD1 hS1 hh
theorem fz_b_put {x idx ci N q0 k : Nat} {Cn : String} {T : u_T} {v : Value} {fs : List Value} {ty : FieldType} (hM : fz_okK M = true) (hc : fz_at M.2.2.2.2 pc = some (.putfield idx, 3, a, b, w)) (hcl : fz_nth vwCl ci = some (Cn, T, N)) (he : ws[q0]? = some (x, .inr (ci, fs))) (hk : k < N) (hlk : Cond.fieldLink M.1.cls idx (T k).1 (T k).2.1 (T k).2.2.1 ∈ fz_tb) (hdc : (T k).1 = M.1.cls) (hi : M.1.name = "<init>") (hd : parseFieldDescriptor (T k).2.2.1 = some ty) (hn : narrow ty v = v) (hfit : fits ty v = true) (hl : k < fs.length)
    (kk : fz_B D d NC NS M (pc + 3) ls st (ws.set q0 (x, .inr (ci, fs.set k v))) nc ns Q) : fz_B D d NC NS M pc ls (v :: .ref x :: st) ws nc ns Q := by
  intro p l e R s m args below meth c Qf A H0 C hA hend hx2 H locs lsc hP hD hS hh
  have hts := C.2.2.2.2.2.1
  have hK := C.2.2.2.2.2.2.2.2.2.2.2.2.1
  obtain ⟨ty0, hty⟩ := fz_cl_ty hcl
  cases hfin : (T k).2.2.2 with
  | true => exact va_putF (D := D.1) (ci := ci) (v := v) (ty := ty) (C := Cn) (T := T) (N := N) C.1 C.2.1 hts (fz_cl_in hcl) ty0 hty (fz_cl_nm hcl) C.2.2.2.2.1 hK hP hD hS q0 he (by rw [← fz_nth_eq]; exact hcl) k hk (hts _ hlk) (fun _ h9 => h9) hfin (C.2.2.2.2.2.2.2.1 hi) hdc hd hn hfit hl (fz_dk hM hc) (fun H1 locs1 hP1 hD1 hS1 => kk p l e R s m args below meth c Qf A H0 C hA hend hx2 H1 locs1 lsc hP1 hD1 hS1 hh)
  | false => exact va_put (D := D.1) (ci := ci) (v := v) (ty := ty) (C := Cn) (T := T) (N := N) C.1 C.2.1 hts (fz_cl_in hcl) ty0 hty (fz_cl_nm hcl) C.2.2.2.2.1 hK hP hD hS q0 he (by rw [← fz_nth_eq]; exact hcl) k hk (hts _ hlk) (fun _ h9 => h9) hfin hd hn hfit hl (fz_dk hM hc) (fun H1 locs1 hP1 hD1 hS1 => kk p l e R s m args below meth c Qf A H0 C hA hend hx2 H1 locs1 lsc hP1 hD1 hS1 hh)
theorem fz_b_get {x idx ci N q0 k : Nat} {Cn : String} {T : u_T} {v : Value} {fs : List Value} (hM : fz_okK M = true) (hc : fz_at M.2.2.2.2 pc = some (.getfield idx, 3, a, b, w)) (hcl : fz_nth vwCl ci = some (Cn, T, N)) (he : ws[q0]? = some (x, .inr (ci, fs))) (hk : k < N) (hlk : Cond.fieldLink M.1.cls idx (T k).1 (T k).2.1 (T k).2.2.1 ∈ fz_tb) (hv : fs[k]? = some v)
    (kk : fz_B D d NC NS M (pc + 3) ls (v :: st) ws nc ns Q) : fz_B D d NC NS M pc ls (.ref x :: st) ws nc ns Q := by
  intro p l e R s m args below meth c Qf A H0 C hA hend hx2 H locs lsc hP hD hS hh
  have hts := C.2.2.2.2.2.1
  have hK := C.2.2.2.2.2.2.2.2.2.2.2.2.1
  exact va_get (D := D.1) (ci := ci) (v := v) (C := Cn) (T := T) (N := N) C.1 C.2.1 hts (fz_cl_in hcl) C.2.2.2.2.1 hK hP q0 he (by rw [← fz_nth_eq]; exact hcl) k hk (hts _ hlk) (fun _ h9 => h9) hv (fz_dk hM hc) (kk p l e R s m args below meth c Qf A H0 C hA hend hx2 H locs lsc hP hD hS hh)
theorem fz_b_iast {x q0 N : Nat} {i v : Int} {f : Nat → Int32} (hM : fz_okK M = true) (hc : fz_at M.2.2.2.2 pc = some (.iastore, 1, a, b, w)) (he : ws[q0]? = some (x, .inl (D.2.1, N, .inl f))) (hi : 0 ≤ i ∧ i < N) (hi2 : i < 100000)
    (kk : fz_B D d NC NS M (pc + 1) ls st (ws.set q0 (x, .inl (D.2.1, N, .inl (upd f i.toNat (Int32.ofInt v))))) nc ns Q) : fz_B D d NC NS M pc ls (.int (Int32.ofInt v) :: .int (Int32.ofInt i) :: .ref x :: st) ws nc ns Q := by
  intro p l e R s m args below meth c Qf A H0 C hA hend hx2 H locs lsc hP hD hS hh
  have hK := C.2.2.2.2.2.2.2.2.2.2.2.2.1
  refine va_iast C.1 C.2.1 hK hP hD hS q0 0 he rfl (fz_in hi.1 hi.2 (by omega)) (fz_dk hM hc) (fun H1 locs1 hP1 hD1 hS1 => ?_)
  rw [fz_ix hi.1 (by omega)] at hP1 hD1
  exact kk p l e R s m args below meth c Qf A H0 C hA hend hx2 H1 locs1 lsc hP1 hD1 hS1 hh
theorem fz_b_ret (hM : fz_okK M = true) (hc : fz_at M.2.2.2.2 pc = some (.return_, 1, a, b, w)) (h1 : nc ≤ NC) (h2 : ns ≤ NS) (hq : Q.1 ws) : fz_B D d NC NS M pc ls [] ws nc ns Q := by
  intro p l e R s m args below meth c Qf A H0 C hA hend hx2 H locs lsc hP hD hS hh
  exact W.widen h1 h2 (hend ws pc lsc H locs hq (fz_dk hM hc) hP hD hS)
end FB
theorem fz_b_x18 {D : fz_BE} {d NC NS : Nat} {M : fz_M} {ls : List (Nat × Value)} {ws : va_W} {nc ns : Nat} {Q : fz_BQ} (h1 : nc ≤ NC) (h2 : ns ≤ NS) (hq : ∀ lsc, lv_has lsc M.2.2.1 ls → Q.2 ws lsc) : fz_B D d NC NS M 18 ls [] ws nc ns Q := by
  intro p l e R s m args below meth c Qf A H0 C hA hend hx2 H locs lsc hP hD hS hh
  exact W.widen h1 h2 (hx2 ws lsc H locs (hq lsc hh) hP hD hS)
/-- a constructor's contract -/
def fz_Bp (D : fz_BE) (q : Nat) (e : va_E) (sz : Nat) (U : State) : Prop := U.heap.size = sz ∧ va_P D.1 vwCl [(q, e)] U.heap ∧ va_K D.1 vwCl [(D.2.1, .int), (D.2.2, .long)] U ∧ va_D (fun _ => True) [(q, e)] ∧ fz_nN U
def fz_rB (d NC NS : Nat) : Room := { frames := d, cells := NC, slots := NS, locals := d * 64 }
theorem fz_bmet {D : fz_BE} {d NC NS : Nat} {M : fz_M} {vs : List Value} {q : Nat} {e : va_E} {Q : va_W → Prop} (hpl : plainName M.1.cls = true) (hret : M.2.2.2.1 = none) (hnm : M.1.name = "<init>") (hL : (lg_sl (.ref q :: vs)).length ≤ M.2.2.1)
    (hB : fz_B D d NC NS M 0 (lv_args 0 (.ref q :: vs)) [] [(q, e)] 0 0 (fz_q Q)) (sz : Nat) (l : Launch) :
    Met l M.1 (fz_wd M) (fz_rB d NC NS) (va_Pc (.ref q :: vs) (fz_Bp D q e sz)) (va_Qv (fun ws1 : va_W => Q ws1) (fun ws1 t => va_P D.1 vwCl ws1 t.heap ∧ va_D (va_A [(q, e)] sz) ws1) (va_A [(q, e)] sz)) NC NS (va_A [(q, e)] sz) := by
  refine Met.ofW (cc := M.2.1) (maxL := M.2.2.1) (ret := M.2.2.2.1) hpl rfl ?_
  intro p e2 s m args below meth c s₁ B hml hpc
  obtain ⟨rfl, hsz, hP, hK, hD0, hN⟩ := hpc
  subst hsz
  have hts := atoms_spec (ws := fz_wd M) B.pre
  have hl := lv_entry (.ref q :: vs) (n := M.2.2.1) hL
  rw [lg_entry_eq]
  generalize (lg_sl (.ref q :: vs) ++ List.replicate (M.2.2.1 - (lg_sl (.ref q :: vs)).length) Slot.unset).toArray = lsc at hl ⊢
  have hlocks := B.notSynchronized
  have hin : M.1.name = "<init>" → meth.name = "<init>" := fun h => (name_of_methodNamed B.named B.method).1.trans h
  have hr : meth.sig.returnType = none := by rw [B.returns]; exact hret
  have C : fz_Bx D d NC NS M p (headSpec (fz_wd M) (fz_rB d NC NS)).room s m ((.ref q :: vs : List Value).toArray) meth c :=
    ⟨B.exec, B.bytes, B.returns, hml, findClass_of_methodNamed B.named, fun w hw => hts w (List.mem_cons_of_mem _ hw), hlocks, hin, Nat.le_refl _, Nat.le_refl _, Nat.le_refl _, Nat.le_refl _, hK, hN⟩
  refine hB p l e2 _ s m _ below meth c _ (va_A [(q, e)] s.heap.size) s.heap C (fun x h => Or.inr h) ?_ (fun _ _ _ _ z => z.elim) s.heap [] lsc hP hD0.self va_S.rf hl
  intro ws' pc' lsc' H locs hQ hdr hP' hD' hS'
  exact W.vret C.1 C.2.1 hr (fun t ht hW => ⟨⟨ws', rfl, hQ, by rw [ht]; exact hP', hD'⟩, hS'.F ht⟩) hS'.2.2 hdr
theorem fz_Bp_blind {D : fz_BE} {q sz : Nat} {e : va_E} {vs : List Value} : FrameBlind (va_Pc vs (fz_Bp D q e sz)) := by
  intro a U g mk hp
  obtain ⟨h1, h2, h3, h4, h5, h6⟩ := hp
  exact ⟨h1, h2, h3, va_K.moved (u := U) (U := U.calling g mk a) (Vm.Alike.refl U.vm) h4, h5, fz_nN_vm (u := U) (U := U.calling g mk a) rfl h6⟩
theorem fz_nd_range' : ∀ (n s : Nat), va_nd (List.range' s n) = true
  | 0, _ => rfl
  | n + 1, s => by
    show va_nd (s :: List.range' (s + 1) n) = true
    unfold va_nd
    rw [fz_nd_range' n (s + 1), Bool.and_true, decide_eq_true_eq]
    intro h
    have := (List.mem_range'_1.mp h).1
    omega
theorem fz_map_range (l : va_W) (r : va_W) : (List.range' 0 l.length).map (fun i => (l ++ r)[i]?) = l.map some := by
  apply List.ext_getElem?
  intro i
  simp only [List.getElem?_map]
  by_cases h : i < l.length
  · rw [List.getElem?_range' (by omega)]
    rw [Nat.zero_add, Nat.one_mul, Option.map_some, List.getElem?_append_left h, List.getElem?_eq_getElem h]
    rfl
  · have h1 : (List.range' 0 l.length)[i]? = none := by simp; omega
    have h2 : l[i]? = none := by simp; omega
    rw [h1, h2]
    rfl
section FB
variable {D : fz_BE} {d NC NS : Nat} {M : fz_M} {pc a b w : Nat} {ls ls' : List (Nat × Value)} {st : List Value} {ws ws' : va_W} {nc ns : Nat} {Q : fz_BQ}
/-- a constructor is called for the cell that was made last -/
theorem fz_b_call {d' NC' NS' : Nat} {M' : fz_M} {n idx q : Nat} {As S : List Value} {e : va_E} {Q' : va_W → Prop} {host : String} {nest : Bool} (hM : fz_okK M = true) (hc : fz_at M.2.2.2.2 pc = some (.invokespecial idx, 3, a, b, w))
    (hlk : if nest = true then Cond.methodLinkNest M.1.cls idx M'.1 host ∈ fz_nw else Cond.methodLink M.1.cls idx M'.1 ∈ fz_tb) (h1 : Cond.code M'.1 M'.2.1 M'.2.2.1 M'.2.2.2.1 ∈ fz_tb) (h2 : Cond.initialized M'.1.cls ∈ fz_tb) (h3 : Cond.instanceMethod M'.1 ∈ fz_tb)
    (hpl : (plainName M'.1.cls && decide (M'.1.cls ≠ "java/lang/invoke/MethodHandle") && decide (M'.1.cls ≠ "java/lang/invoke/VarHandle") && decide ((parseMethodDescriptor M'.1.desc).map (fun q => q.parameters.length) = some n) && decide (M'.2.2.1 ≤ 40)) = true) (hret : M'.2.2.2.1 = none) (hnm : M'.1.name = "<init>") (hn : As.length = n) (hS : S = As.reverse ++ .ref q :: st) (hcap : (st.map fun v => v.category).sum ≤ 8) (hL : (lg_sl (.ref q :: As)).length ≤ M'.2.2.1) (hd : d' + 1 ≤ d) (hw : ws' = ws ++ [(q, e)]) (hn1 : nc + NC' ≤ NC) (hn2 : ns + NS' ≤ NS)
    (hB : fz_B D d' NC' NS' M' 0 (lv_args 0 (.ref q :: As)) [] [(q, e)] 0 0 (fz_q Q')) (kk : ∀ ws1, Q' ws1 → fz_B D d NC NS M (pc + 3) ls st (ws ++ ws1) (nc + NC') (ns + NS') Q) : fz_B D d NC NS M pc ls S ws' nc ns Q := by
  subst hS hw
  simp only [Bool.and_eq_true, decide_eq_true_eq] at hpl
  intro p l e2 R s m args below meth c Qf A H0 C hA hend hx2 H locs lsc hP hD hSt hh
  have hts := C.2.2.2.2.2.1
  have r1 := C.2.2.2.2.2.2.2.2.1
  have r2 := C.2.2.2.2.2.2.2.2.2.1
  have r3 := C.2.2.2.2.2.2.2.2.2.2.1
  have r4 := C.2.2.2.2.2.2.2.2.2.2.2.1
  have hK := C.2.2.2.2.2.2.2.2.2.2.2.2.1
  have hN := C.2.2.2.2.2.2.2.2.2.2.2.2.2
  have hMet := fz_bmet (D := D) hpl.1.1.1.1 hret hnm hL hB H.size l
  have hat : (ws ++ [(q, e)])[ws.length]? = some (q, e) := by simp
  have hC1 : [ws.length].map (fun i => (ws ++ [(q, e)])[i]?) = [(q, e)].map some := by simp
  have hPc : va_P D.1 vwCl [(q, e)] H := hP.sub [ws.length] (by simp)
  have hDc : va_D A [(q, e)] := hD.sub [ws.length] (by simp [va_nd]) hC1
  have hFc := va_free (wc := [(q, e)]) hD hSt hA [ws.length] hC1
  have hgood : GoodIn fz_tb (fz_wd M') := by
    have := fz_good M' h1 [] (fun _ z => by cases z)
    exact this
  have hroom : (fz_rB d' NC' NS').frames + 1 ≤ R.frames ∧ 8 + (M'.2.2.1 + 11) + (fz_rB d' NC' NS').locals ≤ R.locals := by
    constructor
    · show d' + 1 ≤ R.frames; omega
    · show 8 + (M'.2.2.1 + 11) + d' * 64 ≤ R.locals
      omega
  have hpre : PreS s H (va_Pc (.ref q :: As) (fz_Bp D q e H.size)) (.ref q :: As) := ⟨fz_Bp_blind, fun U hU hWm => ⟨rfl, by rw [hU], by rw [hU]; exact hPc, va_K.moved hWm.alike hK, hDc.weaken (fun _ _ _ _ => trivial), fz_nN_warm hWm hN⟩⟩
  have hfix : CallFix p m c M.2.1 M.2.2.1 s args fz_tb M.1.cls := ⟨C.1, C.2.1, C.2.2.2.1, C.2.2.2.2.1, hts⟩
  have hwd : fz_wd M' = Cond.code M'.1 M'.2.1 M'.2.2.1 none :: fz_tb := by rw [← hret]
  have hrun : va_Run p l e2 R s m args below meth c H locs nc ns NC' NS' (F0 m pc lsc (As.reverse ++ .ref q :: st)) st (va_Qv (fun ws1 : va_W => Q' ws1) (fun ws1 t => va_P D.1 vwCl ws1 t.heap ∧ va_D (va_A [(q, e)] H.size) ws1) (va_A [(q, e)] H.size) (Value.ref q :: As).toArray) (va_A [(q, e)] H.size) := by
    cases nest with
    | true =>
      rw [if_pos rfl] at hlk
      exact va_runIN (host := host) hfix hMet ⟨va_cnB n hts hgood hwd rfl rfl (hN _ hlk) (hts _ h2) ⟨hpl.1.1.1.2, hpl.1.1.2, hpl.1.2⟩ hroom, hnm, hts _ h3⟩ hpre rfl hn hh.1 rfl (lv_room hcap) (fz_dk hM hc) ⟨by omega, by omega⟩
    | false =>
      rw [if_neg (by decide)] at hlk
      exact va_runI hfix hMet (cwI n hts hgood hwd rfl rfl (hts _ h2) (hts _ hlk) (hts _ h3) hnm ⟨hpl.1.1.1.2, hpl.1.1.2, hpl.1.2⟩ hroom) hpre rfl hn hh.1 rfl (lv_room hcap) (fz_dk hM hc) ⟨by omega, by omega⟩
  refine va_callv hrun hSt (fun x _ h => hFc x h) hFc (fun ws1 t H1 locs1 ht hvm hq hB1 hz1 hk1 hS1 => ?_)
  obtain ⟨hP1, hD1⟩ := hB1
  rw [ht] at hP1
  obtain ⟨hPj, hDj⟩ := va_join (wr := ws) (w1 := ws1) hP hD [ws.length] (List.range' 0 ws.length) hC1 (fz_map_range ws _) (fz_nd_range' _ _) (fun i hi z => by
    have h5 := (List.mem_range'_1.mp hi).2
    have h6 : i = ws.length := by simpa using z
    omega) hk1 hFc hP1 hD1
  exact kk ws1 hq p l e2 R s m args below meth c Qf A H0 C hA hend hx2 H1 locs1 lsc hPj hDj hS1 hh
end FB
end
section
/-! ===== texts: a machine for methods over a world that grows, beside strings that nobody writes ===== -/
abbrev st_tb : List Cond := fz_tb
theorem st_has {n : Nat} {w : Cond} (h : fz_wa n = some w) (hg : goodWord w = true) : w ∈ st_tb := fz_has h hg
theorem st_hasS (k : Nat) {q : String × String} (h : st_pm[k]? = some q) : Cond.selects "java/lang/StringBuilder" ⟨"java/lang/AbstractStringBuilder", q.1, q.2⟩ ⟨"java/lang/AbstractStringBuilder", q.1, q.2⟩ ∈ st_tb := List.mem_append_left _ (List.mem_map.mpr ⟨q, List.mem_of_getElem? h, rfl⟩)
theorem st_cl_in {ci N : Nat} {C : String} {T : u_T} (h : fz_nth vwCl ci = some (C, T, N)) : ∀ w ∈ u_ws C T N, w ∈ st_tb := fz_cl_in h
abbrev st_wd (M : fz_M) : List Cond := fz_wd M
theorem st_good (M : fz_M) (h : Cond.code M.1 M.2.1 M.2.2.1 M.2.2.2.1 ∈ st_tb) (ws : List Cond) (hw : ∀ w ∈ ws, w ∈ st_tb) : GoodIn st_tb (ws ++ st_wd M) := fz_good M h ws hw
abbrev st_D : Type := va_G × ClassId × ClassId × ClassId
abbrev st_ty (D : st_D) : List (ClassId × FieldType) := [(D.2.1, .int), (D.2.2.1, .long), (D.2.2.2, .byte)]
def st_Bx (D : st_D) (d NC NS : Nat) (M : fz_M) (p : Program) (R : Room) (s : State) (m : MethodId) (args : Array Value) (meth : Method) (c : Code) : Prop :=
  p.tables.exec = Jvm.exec ∧ c.code = M.2.1 ∧ meth.sig.returnType = M.2.2.2.1 ∧ c.maxLocals = M.2.2.1 ∧ s.vm.findClass M.1.cls = some m.cls ∧ (∀ w ∈ st_tb, w.before args s = true) ∧ meth.locks = false ∧ (M.1.name = "<init>" → meth.name = "<init>") ∧ d ≤ R.frames ∧ d * 64 ≤ R.locals ∧ NC ≤ R.cells ∧ NS ≤ R.slots ∧ va_K D.1 vwCl (st_ty D) s ∧ st_nN s
/-- how the method ends -/
def st_dr (M : fz_M) (pc : Nat) (v : Option Value) : Prop := match v with
  | none => M.2.2.2.1 = none ∧ decode M.2.1 pc = .ok (.return_, 1)
  | some (.int x) => decode M.2.1 pc = .ok (.ireturn, 1) ∧ ∃ ty, M.2.2.2.1 = some ty ∧ narrow ty (.int x) = .int x
  | some (.ref _) => decode M.2.1 pc = .ok (.areturn, 1) ∧ ∃ ty, M.2.2.2.1 = some ty ∧ ((∃ n, ty = .object n) ∨ ∃ t, ty = .array t)
  | _ => False
def st_R (D : st_D) (X : st_Xt) (d NC NS : Nat) (M : fz_M) (pc : Nat) (ls : List (Nat × Value)) (st : List Value) (ws : va_W) (nc ns : Nat) (Q : va_W → Option Value → Prop) : Prop :=
  ∀ (p : Program) (l : Launch) (e : Env) (R : Room) (s : State) (m : MethodId) (args : Array Value) (below : List Frame) (meth : Method) (c : Code) (Qf : State → Prop) (A : Nat → Prop),
    st_Bx D d NC NS M p R s m args meth c → (∀ q : Nat, s.heap.size ≤ q → A q) → st_ok X A s s.heap →
    (∀ (ws' : va_W) (v : Option Value) (pc' : Nat) (lsc : Array Slot) (H : Heap) (locs : List Loc), Q ws' v → st_dr M pc' v → va_P D.1 vwCl ws' H → va_D A ws' → va_S A s.heap H locs → W p l e R s m args below meth c H locs NC NS Qf (F0 m pc' lsc v.toList)) →
    ∀ (H : Heap) (locs : List Loc) (lsc : Array Slot), va_P D.1 vwCl ws H → va_D A ws → va_S A s.heap H locs → lv_has lsc M.2.2.1 ls → W p l e R s m args below meth c H locs nc ns Qf (F0 m pc lsc st)
theorem st_tI : (Cond.arrayClass FieldType.int) ∈ st_tb := st_has (n := 1074) rfl rfl
theorem st_tB : (Cond.arrayClass FieldType.byte) ∈ st_tb := st_has (n := 5013) rfl rfl
theorem st_ac1 : (Cond.native arraycopyName) ∈ st_tb := st_has (n := 3011) rfl rfl
theorem st_ac2 : (Cond.static arraycopyName) ∈ st_tb := st_has (n := 3010) rfl rfl
theorem st_ac3 : (Cond.initialized "java/lang/System") ∈ st_tb := st_has (n := 1012) rfl rfl
theorem st_nfw : nativeFrameWords "java/lang/System" "arraycopy" 5 ≤ 40 := by decide +kernel
theorem st_x1 : (Cond.static Lib.Math.max.name) ∈ st_tb := st_has (n := 3144) rfl rfl
theorem st_x2 : (Cond.code Lib.Math.max.name Lib.Math.max.code 2 (some .int)) ∈ st_tb := st_has (n := 3145) rfl rfl
theorem st_i1 : (Cond.static Lib.Math.min.name) ∈ st_tb := st_has (n := 2166) rfl rfl
theorem st_i2 : (Cond.code Lib.Math.min.name Lib.Math.min.code 2 (some .int)) ∈ st_tb := st_has (n := 2167) rfl rfl
theorem st_m0 : (Cond.initialized "java/lang/Math") ∈ st_tb := st_has (n := 1014) rfl rfl
theorem st_nr_int (x : Int32) : narrow .int (.int x) = .int x := rfl
theorem st_nr_boolean {x : Int} (h : x = 0 ∨ x = 1) : narrow .boolean (.int (Int32.ofInt x)) = .int (Int32.ofInt x) := by rcases h with rfl | rfl <;> decide
theorem st_nr_byte {x : Int} (h : x = 0) : narrow .byte (.int (Int32.ofInt x)) = .int (Int32.ofInt x) := by subst h; decide
theorem st_nr_char {x : Int} (h : 0 ≤ x ∧ x < 65536) : narrow .char (.int (Int32.ofInt x)) = .int (Int32.ofInt x) := by
  obtain ⟨n, rfl⟩ := Int.eq_ofNat_of_zero_le h.1
  exact (pk_charN (q := n) (by omega)).1
theorem st_and_m {x y : Int} (h0 : 0 ≤ y) (h1 : y < 2147483648) : 0 ≤ fz_and x y ∧ fz_and x y ≤ y := by
  obtain ⟨n, rfl⟩ := Int.eq_ofNat_of_zero_le h0
  have e : fz_and x (n : Int) = (BitVec.ofInt 32 x &&& BitVec.ofInt 32 (n : Int)).toInt := rfl
  have e2 : (BitVec.ofInt 32 x &&& BitVec.ofInt 32 (n : Int)).toNat ≤ n := by
    rw [BitVec.toNat_and]
    refine Nat.le_trans Nat.and_le_right ?_
    rw [BitVec.toNat_ofInt]
    omega
  rw [e, BitVec.toInt_eq_toNat_of_lt (by omega)]
  omega
theorem st_k1 : (Cond.sameMethod "[B" "java/lang/Object" "clone" "()Ljava/lang/Object;") ∈ st_tb := st_has (n := 5046) rfl rfl
theorem st_k2 : (Cond.native ⟨"java/lang/Object", "clone", "()Ljava/lang/Object;"⟩) ∈ st_tb := st_has (n := 5047) rfl rfl
theorem st_k3 : (Cond.instanceMethod ⟨"java/lang/Object", "clone", "()Ljava/lang/Object;"⟩) ∈ st_tb := st_has (n := 5048) rfl rfl
theorem st_k4 : (Cond.selects "[B" ⟨"[B", "clone", "()Ljava/lang/Object;"⟩ ⟨"java/lang/Object", "clone", "()Ljava/lang/Object;"⟩) ∈ st_tb := st_has (n := 5049) rfl rfl
theorem st_z0 : (-2147483648 : Int) ≤ 0 ∧ (0 : Int) < 2147483648 := ⟨by decide, by decide⟩
theorem st_nn {x : Int} (h0 : 0 ≤ x) (h1 : x < 2147483648) : ¬ Int32.ofInt x < 0 := by
  rw [Int32.lt_iff_toInt_lt, fz_t32 ⟨by omega, h1⟩]
  show ¬ x < 0
  omega
theorem st_fitN (x : Int32) : fits .byte (.int (vp_nar .byte x)) = true := pk_fb x
theorem st_e_i2c {x : Int} (h : 0 ≤ x ∧ x < 65536) : ((Int32.ofInt x).toUInt32 % 65536).toInt32 = Int32.ofInt x := by
  obtain ⟨n, rfl⟩ := Int.eq_ofNat_of_zero_le h.1
  have h9 := (pk_charN (q := n) (by omega)).1
  exact Value.int.inj h9
theorem st_fm {f : Nat → Option (Nat × va_E)} : ∀ {is : List Nat} {w : va_W}, is.map f = w.map some → is.filterMap f = w
  | [], [], _ => rfl
  | [], _ :: _, h => by cases h
  | _ :: _, [], h => by cases h
  | i :: is, x :: w, h => by
    simp only [List.map_cons, List.cons.injEq] at h
    rw [List.filterMap_cons_some h.1, st_fm h.2]
section ST
variable {D : st_D} {X : st_Xt} {d NC NS : Nat} {M : fz_M} {pc a b w : Nat} {ls ls' : List (Nat × Value)} {st st' : List Value} {ws ws' : va_W} {nc ns : Nat} {Q : va_W → Option Value → Prop}
theorem st_pure {pc' : Nat}
    (hw : ∀ (p : Program) (l : Launch) (e : Env) (R : Room) (s : State) (m : MethodId) (args : Array Value) (below : List Frame) (meth : Method) (c : Code) (Qf : State → Prop) (H : Heap) (locs : List Loc) (lsc : Array Slot), p.tables.exec = Jvm.exec → c.code = M.2.1 → lv_has lsc M.2.2.1 ls → W p l e R s m args below meth c H locs nc ns Qf (F0 m pc' lsc st') → W p l e R s m args below meth c H locs nc ns Qf (F0 m pc lsc st))
    (k : st_R D X d NC NS M pc' ls st' ws nc ns Q) : st_R D X d NC NS M pc ls st ws nc ns Q := by
  intro p l e R s m args below meth c Qf A C hA hX hend H locs lsc hP hD hS hl
  exact hw p l e R s m args below meth c Qf H locs lsc C.1 C.2.1 hl (k p l e R s m args below meth c Qf A C hA hX hend H locs lsc hP hD hS hl)
theorem st_br {pc1 pc2 : Nat} {c1 : Prop}
    (hw : ∀ (p : Program) (l : Launch) (e : Env) (R : Room) (s : State) (m : MethodId) (args : Array Value) (below : List Frame) (meth : Method) (c : Code) (Qf : State → Prop) (H : Heap) (locs : List Loc) (lsc : Array Slot), p.tables.exec = Jvm.exec → c.code = M.2.1 → (c1 → W p l e R s m args below meth c H locs nc ns Qf (F0 m pc1 lsc st')) → (¬ c1 → W p l e R s m args below meth c H locs nc ns Qf (F0 m pc2 lsc st')) → W p l e R s m args below meth c H locs nc ns Qf (F0 m pc lsc st))
    (k1 : c1 → st_R D X d NC NS M pc1 ls st' ws nc ns Q) (k2 : ¬ c1 → st_R D X d NC NS M pc2 ls st' ws nc ns Q) : st_R D X d NC NS M pc ls st ws nc ns Q := by
  intro p l e R s m args below meth c Qf A C hA hX hend H locs lsc hP hD hS hl
  exact hw p l e R s m args below meth c Qf H locs lsc C.1 C.2.1 (fun z => k1 z p l e R s m args below meth c Qf A C hA hX hend H locs lsc hP hD hS hl) (fun z => k2 z p l e R s m args below meth c Qf A C hA hX hend H locs lsc hP hD hS hl)
theorem st_ws (e : ws = ws') (k : st_R D X d NC NS M pc ls st ws' nc ns Q) : st_R D X d NC NS M pc ls st ws nc ns Q := by rw [e]; exact k
theorem st_st (e : st = st') (k : st_R D X d NC NS M pc ls st' ws nc ns Q) : st_R D X d NC NS M pc ls st ws nc ns Q := by rw [e]; exact k
theorem st_sz {nc' ns' : Nat} (e1 : nc ≤ nc') (e2 : ns ≤ ns') (k : st_R D X d NC NS M pc ls st ws nc' ns' Q) : st_R D X d NC NS M pc ls st ws nc ns Q := by
  intro p l e R s m args below meth c Qf A C hA hX hend H locs lsc hP hD hS hl
  exact W.widen e1 e2 (k p l e R s m args below meth c Qf A C hA hX hend H locs lsc hP hD hS hl)
theorem st_aload_n {n : Fin 4} {x : Nat} (k : Nat) (hM : fz_okK M = true) (hc : fz_at M.2.2.2.2 pc = some (.aload_n n, 1, a, b, w)) (hv : ls[k]? = some ((n : Nat), .ref x)) (kk : st_R D X d NC NS M (pc + 1) ls (.ref x :: st) ws nc ns Q) : st_R D X d NC NS M pc ls st ws nc ns Q :=
  st_pure (fun p l e R s m args below meth c Qf H locs lsc hx hb hl z => lv_aload_n hx hb (fz_dk hM hc) rfl (lv_at hl k hv) z) kk
theorem st_aload {i x : Nat} (k : Nat) (hM : fz_okK M = true) (hc : fz_at M.2.2.2.2 pc = some (.aload i, 2, a, b, w)) (hv : ls[k]? = some (i, .ref x)) (kk : st_R D X d NC NS M (pc + 2) ls (.ref x :: st) ws nc ns Q) : st_R D X d NC NS M pc ls st ws nc ns Q :=
  st_pure (fun p l e R s m args below meth c Qf H locs lsc hx hb hl z => lv_aload hx hb (fz_dk hM hc) (lv_at hl k hv) z) kk
theorem st_iload_n {n : Fin 4} {x : Int32} (k : Nat) (hM : fz_okK M = true) (hc : fz_at M.2.2.2.2 pc = some (.iload_n n, 1, a, b, w)) (hv : ls[k]? = some ((n : Nat), .int x)) (kk : st_R D X d NC NS M (pc + 1) ls (.int x :: st) ws nc ns Q) : st_R D X d NC NS M pc ls st ws nc ns Q :=
  st_pure (fun p l e R s m args below meth c Qf H locs lsc hx hb hl z => lv_iload_n hx hb (fz_dk hM hc) rfl (lv_at hl k hv) z) kk
theorem st_iload {i : Nat} {x : Int32} (k : Nat) (hM : fz_okK M = true) (hc : fz_at M.2.2.2.2 pc = some (.iload i, 2, a, b, w)) (hv : ls[k]? = some (i, .int x)) (kk : st_R D X d NC NS M (pc + 2) ls (.int x :: st) ws nc ns Q) : st_R D X d NC NS M pc ls st ws nc ns Q :=
  st_pure (fun p l e R s m args below meth c Qf H locs lsc hx hb hl z => lv_iload hx hb (fz_dk hM hc) (lv_at hl k hv) z) kk
theorem st_iconst {n : Int} (hM : fz_okK M = true) (hc : fz_at M.2.2.2.2 pc = some (.iconst n, 1, a, b, w)) (kk : st_R D X d NC NS M (pc + 1) ls (.int (Int32.ofInt n) :: st) ws nc ns Q) : st_R D X d NC NS M pc ls st ws nc ns Q :=
  st_pure (fun p l e R s m args below meth c Qf H locs lsc hx hb hl z => lv_iconst hx hb (fz_dk hM hc) rfl z) kk
theorem st_bipush {n : Int} (hn : -128 ≤ n ∧ n < 128) (hM : fz_okK M = true) (hc : fz_at M.2.2.2.2 pc = some (.bipush n, 2, a, b, w)) (kk : st_R D X d NC NS M (pc + 2) ls (.int (Int32.ofInt n) :: st) ws nc ns Q) : st_R D X d NC NS M pc ls st ws nc ns Q :=
  st_pure (fun p l e R s m args below meth c Qf H locs lsc hx hb hl z => lv_bipush hx hb (fz_dk hM hc) (fz_e_i8 hn) z) kk
theorem st_sipush {n : Int} (hn : -32768 ≤ n ∧ n < 32768) (hM : fz_okK M = true) (hc : fz_at M.2.2.2.2 pc = some (.sipush n, 3, a, b, w)) (kk : st_R D X d NC NS M (pc + 3) ls (.int (Int32.ofInt n) :: st) ws nc ns Q) : st_R D X d NC NS M pc ls st ws nc ns Q :=
  st_pure (fun p l e R s m args below meth c Qf H locs lsc hx hb hl z => lv_sipush hx hb (fz_dk hM hc) (fz_e_i16 hn) z) kk
theorem st_dup {v : Value} (hv : v.category = 1) (hM : fz_okK M = true) (hc : fz_at M.2.2.2.2 pc = some (.dup, 1, a, b, w)) (kk : st_R D X d NC NS M (pc + 1) ls (v :: v :: st) ws nc ns Q) : st_R D X d NC NS M pc ls (v :: st) ws nc ns Q :=
  st_pure (fun p l e R s m args below meth c Qf H locs lsc hx hb hl z => lv_dup hx hb (fz_dk hM hc) hv z) kk
theorem st_pop {v : Value} (hv : v.category = 1) (hM : fz_okK M = true) (hc : fz_at M.2.2.2.2 pc = some (.pop, 1, a, b, w)) (kk : st_R D X d NC NS M (pc + 1) ls st ws nc ns Q) : st_R D X d NC NS M pc ls (v :: st) ws nc ns Q :=
  st_pure (fun p l e R s m args below meth c Qf H locs lsc hx hb hl z => lv_pop hx hb (fz_dk hM hc) hv z) kk
theorem st_dup_x1 {v u : Value} (hv : v.category = 1) (hu : u.category = 1) (hM : fz_okK M = true) (hc : fz_at M.2.2.2.2 pc = some (.dup_x1, 1, a, b, w)) (kk : st_R D X d NC NS M (pc + 1) ls (v :: u :: v :: st) ws nc ns Q) : st_R D X d NC NS M pc ls (v :: u :: st) ws nc ns Q :=
  st_pure (fun p l e R s m args below meth c Qf H locs lsc hx hb hl z => lv_dup_x1 hx hb (fz_dk hM hc) hv hu z) kk
theorem st_goto {off : Int} {tgt : Nat} (hM : fz_okK M = true) (hc : fz_at M.2.2.2.2 pc = some (.goto off, 3, a, b, w)) (ht : (pc : Int) + off = (tgt : Int)) (kk : st_R D X d NC NS M tgt ls st ws nc ns Q) : st_R D X d NC NS M pc ls st ws nc ns Q :=
  st_pure (fun p l e R s m args below meth c Qf H locs lsc hx hb hl z => lv_goto hx hb (fz_dk hM hc) ht z) kk
theorem st_ifnonnull {x : Nat} {off : Int} {tgt : Nat} (hM : fz_okK M = true) (hc : fz_at M.2.2.2.2 pc = some (.ifnonnull off, 3, a, b, w)) (ht : (pc : Int) + off = (tgt : Int)) (kk : st_R D X d NC NS M tgt ls st ws nc ns Q) : st_R D X d NC NS M pc ls (.ref x :: st) ws nc ns Q :=
  st_pure (fun p l e R s m args below meth c Qf H locs lsc hx hb hl z => lv_ifnonnull hx hb (fz_dk hM hc) ht z) kk
theorem st_iadd {x y z : Int} (hz : fz_w (x + y) = z) (hM : fz_okK M = true) (hc : fz_at M.2.2.2.2 pc = some (.iadd, 1, a, b, w)) (kk : st_R D X d NC NS M (pc + 1) ls (.int (Int32.ofInt z) :: st) ws nc ns Q) : st_R D X d NC NS M pc ls (.int (Int32.ofInt y) :: .int (Int32.ofInt x) :: st) ws nc ns Q :=
  st_pure (fun p l e R s m args below meth c Qf H locs lsc hx hb hl q => lv_iadd hx hb (fz_dk hM hc) (by rw [fz_e_add, hz]; exact q)) kk
theorem st_isub {x y z : Int} (hz : fz_w (x - y) = z) (hM : fz_okK M = true) (hc : fz_at M.2.2.2.2 pc = some (.isub, 1, a, b, w)) (kk : st_R D X d NC NS M (pc + 1) ls (.int (Int32.ofInt z) :: st) ws nc ns Q) : st_R D X d NC NS M pc ls (.int (Int32.ofInt y) :: .int (Int32.ofInt x) :: st) ws nc ns Q :=
  st_pure (fun p l e R s m args below meth c Qf H locs lsc hx hb hl q => lv_isub hx hb (fz_dk hM hc) (by rw [fz_e_sub, hz]; exact q)) kk
theorem st_imul {x y z : Int} (hz : fz_w (x * y) = z) (hM : fz_okK M = true) (hc : fz_at M.2.2.2.2 pc = some (.imul, 1, a, b, w)) (kk : st_R D X d NC NS M (pc + 1) ls (.int (Int32.ofInt z) :: st) ws nc ns Q) : st_R D X d NC NS M pc ls (.int (Int32.ofInt y) :: .int (Int32.ofInt x) :: st) ws nc ns Q :=
  st_pure (fun p l e R s m args below meth c Qf H locs lsc hx hb hl q => lv_imul hx hb (fz_dk hM hc) (by rw [fz_e_mul, hz]; exact q)) kk
theorem st_ineg {x z : Int} (hz : fz_w (- x) = z) (hM : fz_okK M = true) (hc : fz_at M.2.2.2.2 pc = some (.ineg, 1, a, b, w)) (kk : st_R D X d NC NS M (pc + 1) ls (.int (Int32.ofInt z) :: st) ws nc ns Q) : st_R D X d NC NS M pc ls (.int (Int32.ofInt x) :: st) ws nc ns Q :=
  st_pure (fun p l e R s m args below meth c Qf H locs lsc hx hb hl q => lv_ineg hx hb (fz_dk hM hc) (by rw [fz_e_neg, hz]; exact q)) kk
theorem st_irem {x y z : Int} (hx1 : -2147483648 ≤ x ∧ x < 2147483648) (hy1 : -2147483648 ≤ y ∧ y < 2147483648) (hne : ¬ y = 0) (hz : fz_w (Int.tmod x y) = z) (hM : fz_okK M = true) (hc : fz_at M.2.2.2.2 pc = some (.irem, 1, a, b, w)) (kk : st_R D X d NC NS M (pc + 1) ls (.int (Int32.ofInt z) :: st) ws nc ns Q) : st_R D X d NC NS M pc ls (.int (Int32.ofInt y) :: .int (Int32.ofInt x) :: st) ws nc ns Q :=
  st_pure (fun p l e R s m args below meth c Qf H locs lsc hx hb hl q => lv_irem hx hb (fz_dk hM hc) (fun z => hne ((fz_eq hy1 ⟨by omega, by omega⟩).mp (z.trans fz_e_0))) (by rw [fz_e_rem hx1 hy1, hz]; exact q)) kk
theorem st_ishl0 {x : Int} (hM : fz_okK M = true) (hc : fz_at M.2.2.2.2 pc = some (.ishl, 1, a, b, w)) (kk : st_R D X d NC NS M (pc + 1) ls (.int (Int32.ofInt x) :: st) ws nc ns Q) : st_R D X d NC NS M pc ls (.int (Int32.ofInt 0) :: .int (Int32.ofInt x) :: st) ws nc ns Q :=
  st_pure (fun p l e R s m args below meth c Qf H locs lsc hx hb hl q => lv_ishl hx hb (fz_dk hM hc) (by rw [show Int32.ofInt x <<< (Int32.ofInt 0 &&& 31) = Int32.ofInt x from sb_shl0 _]; exact q)) kk
theorem st_ishr0 {x : Int} (hM : fz_okK M = true) (hc : fz_at M.2.2.2.2 pc = some (.ishr, 1, a, b, w)) (kk : st_R D X d NC NS M (pc + 1) ls (.int (Int32.ofInt x) :: st) ws nc ns Q) : st_R D X d NC NS M pc ls (.int (Int32.ofInt 0) :: .int (Int32.ofInt x) :: st) ws nc ns Q :=
  st_pure (fun p l e R s m args below meth c Qf H locs lsc hx hb hl q => lv_ishr hx hb (fz_dk hM hc) (by rw [show Int32.ofInt x >>> (Int32.ofInt 0 &&& 31) = Int32.ofInt x from sb_shr0 _]; exact q)) kk
theorem st_ishr {x y : Int} (hM : fz_okK M = true) (hc : fz_at M.2.2.2.2 pc = some (.ishr, 1, a, b, w)) (kk : ∀ z : Int, -2147483648 ≤ z ∧ z < 2147483648 → st_R D X d NC NS M (pc + 1) ls (.int (Int32.ofInt z) :: st) ws nc ns Q) : st_R D X d NC NS M pc ls (.int (Int32.ofInt y) :: .int (Int32.ofInt x) :: st) ws nc ns Q :=
  st_pure (fun p l e R s m args below meth c Qf H locs lsc hx hb hl q => lv_ishr hx hb (fz_dk hM hc) (by rw [show Int32.ofInt x >>> (Int32.ofInt y &&& 31) = Int32.ofInt (Int32.ofInt x >>> (Int32.ofInt y &&& 31)).toInt from (fz_r32 _).symm]; exact q)) (kk _ (fz_b32 _))
theorem st_iand {x y : Int} (hM : fz_okK M = true) (hc : fz_at M.2.2.2.2 pc = some (.iand, 1, a, b, w)) (kk : ∀ z : Int, z = fz_and x y → st_R D X d NC NS M (pc + 1) ls (.int (Int32.ofInt z) :: st) ws nc ns Q) : st_R D X d NC NS M pc ls (.int (Int32.ofInt y) :: .int (Int32.ofInt x) :: st) ws nc ns Q :=
  st_pure (fun p l e R s m args below meth c Qf H locs lsc hx hb hl q => lv_iand hx hb (fz_dk hM hc) (by rw [show Int32.ofInt x &&& Int32.ofInt y = Int32.ofInt (fz_and x y) from (fz_r32 _).symm]; exact q)) (kk _ rfl)
theorem st_i2b {x : Int} (hM : fz_okK M = true) (hc : fz_at M.2.2.2.2 pc = some (.i2b, 1, a, b, w)) (kk : st_R D X d NC NS M (pc + 1) ls (.int (Int32.ofInt (fz_i2b x)) :: st) ws nc ns Q) : st_R D X d NC NS M pc ls (.int (Int32.ofInt x) :: st) ws nc ns Q :=
  st_pure (fun p l e R s m args below meth c Qf H locs lsc hx hb hl q => lv_i2b hx hb (fz_dk hM hc) (fz_e_i2b x) q) kk
theorem st_i2c {x : Int} (hx1 : 0 ≤ x ∧ x < 65536) (hM : fz_okK M = true) (hc : fz_at M.2.2.2.2 pc = some (.i2c, 1, a, b, w)) (kk : st_R D X d NC NS M (pc + 1) ls (.int (Int32.ofInt x) :: st) ws nc ns Q) : st_R D X d NC NS M pc ls (.int (Int32.ofInt x) :: st) ws nc ns Q :=
  st_pure (fun p l e R s m args below meth c Qf H locs lsc hx hb hl q => lv_i2c hx hb (fz_dk hM hc) (st_e_i2c hx1) q) kk
theorem st_istore_n {n : Fin 4} {x : Int32} (hM : fz_okK M = true) (hc : fz_at M.2.2.2.2 pc = some (.istore_n n, 1, a, b, w)) (hn : (n : Nat) < M.2.2.1) (hl : ((n : Nat), Value.int x) :: ls.filter (fun q => !(q.1 == (n : Nat)) && !(q.1 + 1 == (n : Nat) && q.2.category == 2)) = ls') (kk : st_R D X d NC NS M (pc + 1) ls' st ws nc ns Q) : st_R D X d NC NS M pc ls (.int x :: st) ws nc ns Q := by
  intro p l e R s m args below meth c Qf A C hA hX hend H locs lsc hP hD hS hh
  exact lv_istore_n C.1 C.2.1 (fz_dk hM hc) rfl hh hn hl (fun lsc2 h2 => kk p l e R s m args below meth c Qf A C hA hX hend H locs lsc2 hP hD hS h2)
theorem st_istore {i : Nat} {x : Int32} (hM : fz_okK M = true) (hc : fz_at M.2.2.2.2 pc = some (.istore i, 2, a, b, w)) (hn : i < M.2.2.1) (hl : (i, Value.int x) :: ls.filter (fun q => !(q.1 == i) && !(q.1 + 1 == i && q.2.category == 2)) = ls') (kk : st_R D X d NC NS M (pc + 2) ls' st ws nc ns Q) : st_R D X d NC NS M pc ls (.int x :: st) ws nc ns Q := by
  intro p l e R s m args below meth c Qf A C hA hX hend H locs lsc hP hD hS hh
  exact lv_istore C.1 C.2.1 (fz_dk hM hc) hh hn hl (fun lsc2 h2 => kk p l e R s m args below meth c Qf A C hA hX hend H locs lsc2 hP hD hS h2)
theorem st_astore_n {n : Fin 4} {x : Nat} (hM : fz_okK M = true) (hc : fz_at M.2.2.2.2 pc = some (.astore_n n, 1, a, b, w)) (hn : (n : Nat) < M.2.2.1) (hl : ((n : Nat), Value.ref x) :: ls.filter (fun q => !(q.1 == (n : Nat)) && !(q.1 + 1 == (n : Nat) && q.2.category == 2)) = ls') (kk : st_R D X d NC NS M (pc + 1) ls' st ws nc ns Q) : st_R D X d NC NS M pc ls (.ref x :: st) ws nc ns Q := by
  intro p l e R s m args below meth c Qf A C hA hX hend H locs lsc hP hD hS hh
  exact lv_astore_n C.1 C.2.1 (fz_dk hM hc) rfl hh hn hl (fun lsc2 h2 => kk p l e R s m args below meth c Qf A C hA hX hend H locs lsc2 hP hD hS h2)
theorem st_astore {i x : Nat} (hM : fz_okK M = true) (hc : fz_at M.2.2.2.2 pc = some (.astore i, 2, a, b, w)) (hn : i < M.2.2.1) (hl : (i, Value.ref x) :: ls.filter (fun q => !(q.1 == i) && !(q.1 + 1 == i && q.2.category == 2)) = ls') (kk : st_R D X d NC NS M (pc + 2) ls' st ws nc ns Q) : st_R D X d NC NS M pc ls (.ref x :: st) ws nc ns Q := by
  intro p l e R s m args below meth c Qf A C hA hX hend H locs lsc hP hD hS hh
  exact lv_astore C.1 C.2.1 (fz_dk hM hc) hh hn hl (fun lsc2 h2 => kk p l e R s m args below meth c Qf A C hA hX hend H locs lsc2 hP hD hS h2)
theorem st_iinc {i k : Nat} {n x z : Int} (hz : fz_w (x + n) = z) (hM : fz_okK M = true) (hc : fz_at M.2.2.2.2 pc = some (.iinc i n, 3, a, b, w)) (hk : ls[k]? = some (i, .int (Int32.ofInt x))) (hn : i < M.2.2.1) (hl : (i, Value.int (Int32.ofInt z)) :: ls.filter (fun q => !(q.1 == i) && !(q.1 + 1 == i && q.2.category == 2)) = ls') (kk : st_R D X d NC NS M (pc + 3) ls' st ws nc ns Q) : st_R D X d NC NS M pc ls st ws nc ns Q := by
  intro p l e R s m args below meth c Qf A C hA hX hend H locs lsc hP hD hS hh
  exact lv_iinc C.1 C.2.1 (fz_dk hM hc) hh hk (by rw [fz_e_add, hz]) hn hl (fun lsc2 h2 => kk p l e R s m args below meth c Qf A C hA hX hend H locs lsc2 hP hD hS h2)
theorem st_icmp_lt {x y : Int} {off : Int} {tgt : Nat} (hx1 : -2147483648 ≤ x ∧ x < 2147483648) (hy1 : -2147483648 ≤ y ∧ y < 2147483648) (hM : fz_okK M = true) (hc : fz_at M.2.2.2.2 pc = some (.if_icmp .lt off, 3, a, b, w)) (ht : (pc : Int) + off = (tgt : Int)) (k1 : x < y → st_R D X d NC NS M tgt ls st ws nc ns Q) (k2 : ¬ (x < y) → st_R D X d NC NS M (pc + 3) ls st ws nc ns Q) : st_R D X d NC NS M pc ls (.int (Int32.ofInt y) :: .int (Int32.ofInt x) :: st) ws nc ns Q :=
  st_br (fun p l e R s m args below meth c Qf H locs lsc hx hb k1 k2 => lv_icmp_lt hx hb (fz_dk hM hc) ht (fun z => k1 ((fz_lt hx1 hy1).mp z)) (fun z => k2 (fun q => z ((fz_lt hx1 hy1).mpr q)))) k1 k2
theorem st_icmp_ge {x y : Int} {off : Int} {tgt : Nat} (hx1 : -2147483648 ≤ x ∧ x < 2147483648) (hy1 : -2147483648 ≤ y ∧ y < 2147483648) (hM : fz_okK M = true) (hc : fz_at M.2.2.2.2 pc = some (.if_icmp .ge off, 3, a, b, w)) (ht : (pc : Int) + off = (tgt : Int)) (k1 : y ≤ x → st_R D X d NC NS M tgt ls st ws nc ns Q) (k2 : ¬ (y ≤ x) → st_R D X d NC NS M (pc + 3) ls st ws nc ns Q) : st_R D X d NC NS M pc ls (.int (Int32.ofInt y) :: .int (Int32.ofInt x) :: st) ws nc ns Q :=
  st_br (fun p l e R s m args below meth c Qf H locs lsc hx hb k1 k2 => lv_icmp_ge hx hb (fz_dk hM hc) ht (fun z => k1 ((fz_le hy1 hx1).mp z)) (fun z => k2 (fun q => z ((fz_le hy1 hx1).mpr q)))) k1 k2
theorem st_icmp_gt {x y : Int} {off : Int} {tgt : Nat} (hx1 : -2147483648 ≤ x ∧ x < 2147483648) (hy1 : -2147483648 ≤ y ∧ y < 2147483648) (hM : fz_okK M = true) (hc : fz_at M.2.2.2.2 pc = some (.if_icmp .gt off, 3, a, b, w)) (ht : (pc : Int) + off = (tgt : Int)) (k1 : y < x → st_R D X d NC NS M tgt ls st ws nc ns Q) (k2 : ¬ (y < x) → st_R D X d NC NS M (pc + 3) ls st ws nc ns Q) : st_R D X d NC NS M pc ls (.int (Int32.ofInt y) :: .int (Int32.ofInt x) :: st) ws nc ns Q :=
  st_br (fun p l e R s m args below meth c Qf H locs lsc hx hb k1 k2 => lv_icmp_gt hx hb (fz_dk hM hc) ht (fun z => k1 ((fz_lt hy1 hx1).mp z)) (fun z => k2 (fun q => z ((fz_lt hy1 hx1).mpr q)))) k1 k2
theorem st_icmp_le {x y : Int} {off : Int} {tgt : Nat} (hx1 : -2147483648 ≤ x ∧ x < 2147483648) (hy1 : -2147483648 ≤ y ∧ y < 2147483648) (hM : fz_okK M = true) (hc : fz_at M.2.2.2.2 pc = some (.if_icmp .le off, 3, a, b, w)) (ht : (pc : Int) + off = (tgt : Int)) (k1 : x ≤ y → st_R D X d NC NS M tgt ls st ws nc ns Q) (k2 : ¬ (x ≤ y) → st_R D X d NC NS M (pc + 3) ls st ws nc ns Q) : st_R D X d NC NS M pc ls (.int (Int32.ofInt y) :: .int (Int32.ofInt x) :: st) ws nc ns Q :=
  st_br (fun p l e R s m args below meth c Qf H locs lsc hx hb k1 k2 => lv_icmp_le hx hb (fz_dk hM hc) ht (fun z => k1 ((fz_le hx1 hy1).mp z)) (fun z => k2 (fun q => z ((fz_le hx1 hy1).mpr q)))) k1 k2
theorem st_icmp_eq {x y : Int} {off : Int} {tgt : Nat} (hx1 : -2147483648 ≤ x ∧ x < 2147483648) (hy1 : -2147483648 ≤ y ∧ y < 2147483648) (hM : fz_okK M = true) (hc : fz_at M.2.2.2.2 pc = some (.if_icmp .eq off, 3, a, b, w)) (ht : (pc : Int) + off = (tgt : Int)) (k1 : x = y → st_R D X d NC NS M tgt ls st ws nc ns Q) (k2 : ¬ (x = y) → st_R D X d NC NS M (pc + 3) ls st ws nc ns Q) : st_R D X d NC NS M pc ls (.int (Int32.ofInt y) :: .int (Int32.ofInt x) :: st) ws nc ns Q :=
  st_br (fun p l e R s m args below meth c Qf H locs lsc hx hb k1 k2 => lv_icmp_eq hx hb (fz_dk hM hc) ht (fun z => k1 ((fz_eq hx1 hy1).mp z)) (fun z => k2 (fun q => z ((fz_eq hx1 hy1).mpr q)))) k1 k2
theorem st_icmp_ne {x y : Int} {off : Int} {tgt : Nat} (hx1 : -2147483648 ≤ x ∧ x < 2147483648) (hy1 : -2147483648 ≤ y ∧ y < 2147483648) (hM : fz_okK M = true) (hc : fz_at M.2.2.2.2 pc = some (.if_icmp .ne off, 3, a, b, w)) (ht : (pc : Int) + off = (tgt : Int)) (k1 : ¬ x = y → st_R D X d NC NS M tgt ls st ws nc ns Q) (k2 : ¬ (¬ x = y) → st_R D X d NC NS M (pc + 3) ls st ws nc ns Q) : st_R D X d NC NS M pc ls (.int (Int32.ofInt y) :: .int (Int32.ofInt x) :: st) ws nc ns Q :=
  st_br (fun p l e R s m args below meth c Qf H locs lsc hx hb k1 k2 => lv_icmp_ne hx hb (fz_dk hM hc) ht (fun z => k1 (fun q => z ((fz_eq hx1 hy1).mpr q))) (fun z => k2 (fun q => q ((fz_eq hx1 hy1).mp z)))) k1 k2
theorem st_if_lt {x : Int} {off : Int} {tgt : Nat} (hx1 : -2147483648 ≤ x ∧ x < 2147483648) (hM : fz_okK M = true) (hc : fz_at M.2.2.2.2 pc = some (.ifCond .lt off, 3, a, b, w)) (ht : (pc : Int) + off = (tgt : Int)) (k1 : x < 0 → st_R D X d NC NS M tgt ls st ws nc ns Q) (k2 : ¬ (x < 0) → st_R D X d NC NS M (pc + 3) ls st ws nc ns Q) : st_R D X d NC NS M pc ls (.int (Int32.ofInt x) :: st) ws nc ns Q :=
  st_br (fun p l e R s m args below meth c Qf H locs lsc hx hb k1 k2 => lv_if_lt hx hb (fz_dk hM hc) ht (fun z => k1 ((fz_lt hx1 st_z0).mp z)) (fun z => k2 (fun q => z ((fz_lt hx1 st_z0).mpr q)))) k1 k2
theorem st_if_ge {x : Int} {off : Int} {tgt : Nat} (hx1 : -2147483648 ≤ x ∧ x < 2147483648) (hM : fz_okK M = true) (hc : fz_at M.2.2.2.2 pc = some (.ifCond .ge off, 3, a, b, w)) (ht : (pc : Int) + off = (tgt : Int)) (k1 : 0 ≤ x → st_R D X d NC NS M tgt ls st ws nc ns Q) (k2 : ¬ (0 ≤ x) → st_R D X d NC NS M (pc + 3) ls st ws nc ns Q) : st_R D X d NC NS M pc ls (.int (Int32.ofInt x) :: st) ws nc ns Q :=
  st_br (fun p l e R s m args below meth c Qf H locs lsc hx hb k1 k2 => lv_if_ge hx hb (fz_dk hM hc) ht (fun z => k1 ((fz_le st_z0 hx1).mp z)) (fun z => k2 (fun q => z ((fz_le st_z0 hx1).mpr q)))) k1 k2
theorem st_if_gt {x : Int} {off : Int} {tgt : Nat} (hx1 : -2147483648 ≤ x ∧ x < 2147483648) (hM : fz_okK M = true) (hc : fz_at M.2.2.2.2 pc = some (.ifCond .gt off, 3, a, b, w)) (ht : (pc : Int) + off = (tgt : Int)) (k1 : 0 < x → st_R D X d NC NS M tgt ls st ws nc ns Q) (k2 : ¬ (0 < x) → st_R D X d NC NS M (pc + 3) ls st ws nc ns Q) : st_R D X d NC NS M pc ls (.int (Int32.ofInt x) :: st) ws nc ns Q :=
  st_br (fun p l e R s m args below meth c Qf H locs lsc hx hb k1 k2 => lv_if_gt hx hb (fz_dk hM hc) ht (fun z => k1 ((fz_lt st_z0 hx1).mp z)) (fun z => k2 (fun q => z ((fz_lt st_z0 hx1).mpr q)))) k1 k2
theorem st_if_le {x : Int} {off : Int} {tgt : Nat} (hx1 : -2147483648 ≤ x ∧ x < 2147483648) (hM : fz_okK M = true) (hc : fz_at M.2.2.2.2 pc = some (.ifCond .le off, 3, a, b, w)) (ht : (pc : Int) + off = (tgt : Int)) (k1 : x ≤ 0 → st_R D X d NC NS M tgt ls st ws nc ns Q) (k2 : ¬ (x ≤ 0) → st_R D X d NC NS M (pc + 3) ls st ws nc ns Q) : st_R D X d NC NS M pc ls (.int (Int32.ofInt x) :: st) ws nc ns Q :=
  st_br (fun p l e R s m args below meth c Qf H locs lsc hx hb k1 k2 => lv_if_le hx hb (fz_dk hM hc) ht (fun z => k1 ((fz_le hx1 st_z0).mp z)) (fun z => k2 (fun q => z ((fz_le hx1 st_z0).mpr q)))) k1 k2
theorem st_if_eq {x : Int} {off : Int} {tgt : Nat} (hx1 : -2147483648 ≤ x ∧ x < 2147483648) (hM : fz_okK M = true) (hc : fz_at M.2.2.2.2 pc = some (.ifCond .eq off, 3, a, b, w)) (ht : (pc : Int) + off = (tgt : Int)) (k1 : x = 0 → st_R D X d NC NS M tgt ls st ws nc ns Q) (k2 : ¬ (x = 0) → st_R D X d NC NS M (pc + 3) ls st ws nc ns Q) : st_R D X d NC NS M pc ls (.int (Int32.ofInt x) :: st) ws nc ns Q :=
  st_br (fun p l e R s m args below meth c Qf H locs lsc hx hb k1 k2 => lv_if_eq hx hb (fz_dk hM hc) ht (fun z => k1 ((fz_eq hx1 st_z0).mp z)) (fun z => k2 (fun q => z ((fz_eq hx1 st_z0).mpr q)))) k1 k2
theorem st_if_ne {x : Int} {off : Int} {tgt : Nat} (hx1 : -2147483648 ≤ x ∧ x < 2147483648) (hM : fz_okK M = true) (hc : fz_at M.2.2.2.2 pc = some (.ifCond .ne off, 3, a, b, w)) (ht : (pc : Int) + off = (tgt : Int)) (k1 : ¬ x = 0 → st_R D X d NC NS M tgt ls st ws nc ns Q) (k2 : ¬ (¬ x = 0) → st_R D X d NC NS M (pc + 3) ls st ws nc ns Q) : st_R D X d NC NS M pc ls (.int (Int32.ofInt x) :: st) ws nc ns Q :=
  st_br (fun p l e R s m args below meth c Qf H locs lsc hx hb k1 k2 => lv_if_ne hx hb (fz_dk hM hc) ht (fun z => k1 (fun q => z ((fz_eq hx1 st_z0).mpr q))) (fun z => k2 (fun q => q ((fz_eq hx1 st_z0).mp z)))) k1 k2
theorem st_ldcS {idx q : Nat} {tx : String} (hown : M.1.cls = "FameAheadLaw") (hq : (idx, tx, q) ∈ X.2.1) (hM : fz_okK M = true) (hc : fz_at M.2.2.2.2 pc = some (.ldc idx, 2, a, b, w)) (kk : st_R D X d NC NS M (pc + 2) ls (.ref q :: st) ws nc ns Q) : st_R D X d NC NS M pc ls st ws nc ns Q := by
  intro p l e R s m args below meth c Qf A C hA hX hend H locs lsc hP hD hS hh
  have h1 := C.2.2.2.2.1
  rw [hown] at h1
  exact va_ldcS C.1 C.2.1 h1 (hX.2.2.1 _ hq) (fz_dk hM hc) (kk p l e R s m args below meth c Qf A C hA hX hend H locs lsc hP hD hS hh)
theorem st_ldc {idx : Nat} {v : Int} (hk : Cond.constant M.1.cls idx (Int32.ofInt v) ∈ st_tb) (hM : fz_okK M = true) (hc : fz_at M.2.2.2.2 pc = some (.ldc idx, 2, a, b, w)) (kk : st_R D X d NC NS M (pc + 2) ls (.int (Int32.ofInt v) :: st) ws nc ns Q) : st_R D X d NC NS M pc ls st ws nc ns Q := by
  intro p l e R s m args below meth c Qf A C hA hX hend H locs lsc hP hD hS hh
  exact lv_ldc C.1 C.2.1 C.2.2.2.2.1 (C.2.2.2.2.2.1 _ hk) (fz_dk hM hc) (kk p l e R s m args below meth c Qf A C hA hX hend H locs lsc hP hD hS hh)
theorem st_compact {idx : Nat} (hk : Cond.fieldLink M.1.cls idx "java/lang/String" "COMPACT_STRINGS" "Z" ∈ st_tb) (hM : fz_okK M = true) (hc : fz_at M.2.2.2.2 pc = some (.getstatic idx, 3, a, b, w)) (kk : st_R D X d NC NS M (pc + 3) ls (.int (Int32.ofInt 1) :: st) ws nc ns Q) : st_R D X d NC NS M pc ls st ws nc ns Q := by
  intro p l e R s m args below meth c Qf A C hA hX hend H locs lsc hP hD hS hh
  exact va_gets C.1 C.2.1 hX.1.1 hS C.2.2.2.2.1 (C.2.2.2.2.2.1 _ hk) (fun _ z => z) (fz_dk hM hc) (kk p l e R s m args below meth c Qf A C hA hX hend H locs lsc hP hD hS hh)
theorem st_formatter {idx : Nat} (hk : Cond.fieldLink M.1.cls idx "jdk/internal/util/Preconditions" "SIOOBE_FORMATTER" "Ljava/util/function/BiFunction;" ∈ st_tb) (hM : fz_okK M = true) (hc : fz_at M.2.2.2.2 pc = some (.getstatic idx, 3, a, b, w)) (kk : ∀ q : Nat, st_R D X d NC NS M (pc + 3) ls (.ref q :: st) ws nc ns Q) : st_R D X d NC NS M pc ls st ws nc ns Q := by
  intro p l e R s m args below meth c Qf A C hA hX hend H locs lsc hP hD hS hh
  obtain ⟨v, hv⟩ := hX.1.2.1
  exact va_gets C.1 C.2.1 hv hS C.2.2.2.2.1 (C.2.2.2.2.2.1 _ hk) (fun _ z => z) (fz_dk hM hc) (kk v p l e R s m args below meth c Qf A C hA hX hend H locs lsc hP hD hS hh)
/-- the tables of digits -/
theorem st_getY {idx q : Nat} {n : String} (hn : (n = "DigitOnes" ∧ q = X.2.2.1.1) ∨ (n = "DigitTens" ∧ q = X.2.2.1.2)) (hk : Cond.fieldLink M.1.cls idx "java/lang/Integer" n "[B" ∈ st_tb) (hM : fz_okK M = true) (hc : fz_at M.2.2.2.2 pc = some (.getstatic idx, 3, a, b, w)) (kk : st_R D X d NC NS M (pc + 3) ls (.ref q :: st) ws nc ns Q) : st_R D X d NC NS M pc ls st ws nc ns Q := by
  intro p l e R s m args below meth c Qf A C hA hX hend H locs lsc hP hD hS hh
  rcases hn with ⟨rfl, rfl⟩ | ⟨rfl, rfl⟩
  · obtain ⟨f, h1, h2, h3⟩ := hX.1.2.2.1
    exact va_gets C.1 C.2.1 h1 hS C.2.2.2.2.1 (C.2.2.2.2.2.1 _ hk) (fun _ z => z) (fz_dk hM hc) (kk p l e R s m args below meth c Qf A C hA hX hend H locs lsc hP hD hS hh)
  · obtain ⟨f, h1, h2, h3⟩ := hX.1.2.2.2
    exact va_gets C.1 C.2.1 h1 hS C.2.2.2.2.1 (C.2.2.2.2.2.1 _ hk) (fun _ z => z) (fz_dk hM hc) (kk p l e R s m args below meth c Qf A C hA hX hend H locs lsc hP hD hS hh)
theorem st_baldY {q : Nat} {y : Int} (hq : q = X.2.2.1.1 ∨ q = X.2.2.1.2) (hy : 0 ≤ y ∧ y < 100) (hM : fz_okK M = true) (hc : fz_at M.2.2.2.2 pc = some (.baload, 1, a, b, w)) (kk : ∀ z : Int, fits .byte (.int (Int32.ofInt z)) = true → st_R D X d NC NS M (pc + 1) ls (.int (Int32.ofInt z) :: st) ws nc ns Q) : st_R D X d NC NS M pc ls (.int (Int32.ofInt y) :: .ref q :: st) ws nc ns Q := by
  intro p l e R s m args below meth c Qf A C hA hX hend H locs lsc hP hD hS hh
  have hT : ∃ f : Nat → Int32, va_T .byte q 100 (fun j => .int (f j)) A s s.heap ∧ sb_Fit f := by
    rcases hq with rfl | rfl
    · obtain ⟨f, h1, h2, h3⟩ := hX.1.2.2.1; exact ⟨f, h2, h3⟩
    · obtain ⟨f, h1, h2, h3⟩ := hX.1.2.2.2; exact ⟨f, h2, h3⟩
  obtain ⟨f, h2, h3⟩ := hT
  refine va_tb C.1 C.2.1 h2 hS (fz_in hy.1 (by omega) (by omega)) (v := .int (Int32.ofInt (f (Int32.ofInt y).toNatClampNeg).toInt)) (by rw [fz_r32]) (fz_dk hM hc) ?_
  exact kk _ (by rw [fz_r32]; exact h3 _) p l e R s m args below meth c Qf A C hA hX hend H locs lsc hP hD hS hh
/-- strings that nobody writes: coder, value, value.length, a byte -/
theorem st_scoder {idx r q n : Nat} (hr : (r, q, n) ∈ X.1) (hk : Cond.fieldLink M.1.cls idx "java/lang/String" "coder" "B" ∈ st_tb) (hM : fz_okK M = true) (hc : fz_at M.2.2.2.2 pc = some (.getfield idx, 3, a, b, w)) (kk : st_R D X d NC NS M (pc + 3) ls (.int (Int32.ofInt 0) :: st) ws nc ns Q) : st_R D X d NC NS M pc ls (.ref r :: st) ws nc ns Q := by
  intro p l e R s m args below meth c Qf A C hA hX hend H locs lsc hP hD hS hh
  obtain ⟨f, h1, h2, h3, h4, h5, h6⟩ := hX.2.1 _ hr
  exact vk_getf C.1 C.2.1 h2 hS C.2.2.2.2.1 (C.2.2.2.2.2.1 _ hk) (fun _ z => z) (fz_dk hM hc) (kk p l e R s m args below meth c Qf A C hA hX hend H locs lsc hP hD hS hh)
theorem st_sval {idx r q n : Nat} (hr : (r, q, n) ∈ X.1) (hk : Cond.fieldLink M.1.cls idx "java/lang/String" "value" "[B" ∈ st_tb) (hM : fz_okK M = true) (hc : fz_at M.2.2.2.2 pc = some (.getfield idx, 3, a, b, w)) (kk : st_R D X d NC NS M (pc + 3) ls (.ref q :: st) ws nc ns Q) : st_R D X d NC NS M pc ls (.ref r :: st) ws nc ns Q := by
  intro p l e R s m args below meth c Qf A C hA hX hend H locs lsc hP hD hS hh
  obtain ⟨f, h1, h2, h3, h4, h5, h6⟩ := hX.2.1 _ hr
  exact vk_getf C.1 C.2.1 h3 hS C.2.2.2.2.1 (C.2.2.2.2.2.1 _ hk) (fun _ z => z) (fz_dk hM hc) (kk p l e R s m args below meth c Qf A C hA hX hend H locs lsc hP hD hS hh)
theorem st_slen {r q n : Nat} (hr : (r, q, n) ∈ X.1) (hM : fz_okK M = true) (hc : fz_at M.2.2.2.2 pc = some (.arraylength, 1, a, b, w)) (kk : n < 100000 → st_R D X d NC NS M (pc + 1) ls (.int (Int32.ofInt (n : Int)) :: st) ws nc ns Q) : st_R D X d NC NS M pc ls (.ref q :: st) ws nc ns Q := by
  intro p l e R s m args below meth c Qf A C hA hX hend H locs lsc hP hD hS hh
  obtain ⟨f, h1, h2, h3, h4, h5, h6⟩ := hX.2.1 _ hr
  exact va_tlen C.1 C.2.1 h4 hS (v := Int32.ofInt (n : Int)) rfl (fz_dk hM hc) (kk h6 p l e R s m args below meth c Qf A C hA hX hend H locs lsc hP hD hS hh)
theorem st_sbald {r q n : Nat} {y : Int} (hr : (r, q, n) ∈ X.1) (hy : 0 ≤ y ∧ y < n) (hM : fz_okK M = true) (hc : fz_at M.2.2.2.2 pc = some (.baload, 1, a, b, w)) (kk : ∀ z : Int, st_R D X d NC NS M (pc + 1) ls (.int (Int32.ofInt z) :: st) ws nc ns Q) : st_R D X d NC NS M pc ls (.int (Int32.ofInt y) :: .ref q :: st) ws nc ns Q := by
  intro p l e R s m args below meth c Qf A C hA hX hend H locs lsc hP hD hS hh
  obtain ⟨f, h1, h2, h3, h4, h5, h6⟩ := hX.2.1 _ hr
  have h7 : n < 100000 := h6
  refine va_tb C.1 C.2.1 h4 hS (fz_in hy.1 hy.2 (by omega)) (v := .int (Int32.ofInt (f (Int32.ofInt y).toNatClampNeg).toInt)) (by rw [fz_r32]) (fz_dk hM hc) ?_
  exact kk _ p l e R s m args below meth c Qf A C hA hX hend H locs lsc hP hD hS hh
/-- the script -/
theorem st_xlen {q : Nat} (hq : q = X.2.2.2.1) (hM : fz_okK M = true) (hc : fz_at M.2.2.2.2 pc = some (.arraylength, 1, a, b, w)) (kk : st_R D X d NC NS M (pc + 1) ls (.int (Int32.ofInt (X.2.2.2.2.1 : Int)) :: st) ws nc ns Q) : st_R D X d NC NS M pc ls (.ref q :: st) ws nc ns Q := by
  intro p l e R s m args below meth c Qf A C hA hX hend H locs lsc hP hD hS hh
  subst hq
  exact va_tlen C.1 C.2.1 hX.2.2.2.1 hS (v := Int32.ofInt (X.2.2.2.2.1 : Int)) rfl (fz_dk hM hc) (kk p l e R s m args below meth c Qf A C hA hX hend H locs lsc hP hD hS hh)
theorem st_xald {q : Nat} {y : Int} (hq : q = X.2.2.2.1) (hy : 0 ≤ y ∧ y < X.2.2.2.2.1) (hy2 : y < 100000) (hM : fz_okK M = true) (hc : fz_at M.2.2.2.2 pc = some (.iaload, 1, a, b, w)) (kk : ∀ z : Int, -2147483648 ≤ z ∧ z < 2147483648 → st_R D X d NC NS M (pc + 1) ls (.int (Int32.ofInt z) :: st) ws nc ns Q) : st_R D X d NC NS M pc ls (.int (Int32.ofInt y) :: .ref q :: st) ws nc ns Q := by
  intro p l e R s m args below meth c Qf A C hA hX hend H locs lsc hP hD hS hh
  subst hq
  refine va_ti C.1 C.2.1 hX.2.2.2.1 hS (fz_in hy.1 hy.2 (by omega)) (v := .int (Int32.ofInt (X.2.2.2.2.2.1 (Int32.ofInt y).toNatClampNeg).toInt)) (by rw [fz_r32]) (fz_dk hM hc) ?_
  exact kk _ (fz_b32 _) p l e R s m args below meth c Qf A C hA hX hend H locs lsc hP hD hS hh
/-- the world's cells -/
theorem st_obj {x idx : Nat} (hM : fz_okK M = true) (hc : fz_at M.2.2.2.2 pc = some (.invokespecial idx, 3, a, b, w)) (hlk : Cond.methodLink M.1.cls idx Lib.objectInit ∈ st_tb) (hcap : (st.map fun v => v.category).sum ≤ 8) (hd : 1 ≤ d) (kk : st_R D X d NC NS M (pc + 3) ls st ws nc ns Q) : st_R D X d NC NS M pc ls (.ref x :: st) ws nc ns Q := by
  intro p l e R s m args below meth c Qf A C hA hX hend H locs lsc hP hD hS hh
  have hts := C.2.2.2.2.2.1
  have r1 := C.2.2.2.2.2.2.2.2.1
  have r2 := C.2.2.2.2.2.2.2.2.2.1
  have hc8 := lv_room (m := m) (pc := pc) (ls := lsc) (rest := (.ref x :: st)) hcap
  exact W.objInit C.1 C.2.1 C.2.2.2.2.1 (hts _ hlk) (hts _ fz_tOi) (hts _ fz_tOc) rfl (by rw [C.2.2.2.1]; exact hh.1) rfl (fz_dk hM hc) (by omega) (by omega) (kk p l e R s m args below meth c Qf A C hA hX hend H locs lsc hP hD hS hh)
theorem st_new {ci idx N : Nat} {Cn : String} {T : u_T} (ty : Nat → FieldType) (fs : List Value) (hM : fz_okK M = true) (hc : fz_at M.2.2.2.2 pc = some (.new idx, 3, a, b, w)) (hcl : fz_nth vwCl ci = some (Cn, T, N)) (hty : ∀ k, k < N → parseFieldDescriptor (T k).2.2.1 = some (ty k))
    (h1 : Cond.classLink M.1.cls idx Cn ∈ st_tb) (h2 : Cond.instantiable Cn N ∈ st_tb) (h3 : Cond.initialized Cn ∈ st_tb) (hfs : (List.range N).map (fun j => defaultValue (ty j)) = fs) (hn1 : nc + 1 ≤ NC) (hn2 : ns + N ≤ NS)
    (kk : ∀ q : Nat, st_R D X d NC NS M (pc + 3) ls (.ref q :: st) (ws ++ [(q, .inr (ci, fs))]) (nc + 1) (ns + N) Q) : st_R D X d NC NS M pc ls st ws nc ns Q := by
  intro p l e R s m args below meth c Qf A C hA hX hend H locs lsc hP hD hS hh
  have hts := C.2.2.2.2.2.1
  have r3 := C.2.2.2.2.2.2.2.2.2.2.1
  have r4 := C.2.2.2.2.2.2.2.2.2.2.2.1
  have hK := C.2.2.2.2.2.2.2.2.2.2.2.2.1
  refine va_new (ci := ci) (fs := fs) (C := Cn) (T := T) (N := N) C.1 C.2.1 hts (st_cl_in hcl) ty hty C.2.2.2.2.1 (hts _ h1) (hts _ h2) (hts _ h3) hK hP hD hS hA (by rw [← fz_nth_eq]; exact hcl) (fun j hj => ?_) (by omega) (by omega) (fz_dk hM hc) (fun q H1 hP1 hD1 hS1 => kk q p l e R s m args below meth c Qf A C hA hX hend H1 locs lsc hP1 hD1 hS1 hh)
  rw [← hfs]
  unfold vp_V
  simp [List.getD, hj]
theorem st_newB {n : Int} {N : Nat} (hM : fz_okK M = true) (hc : fz_at M.2.2.2.2 pc = some (.newarray .byte, 2, a, b, w)) (hn : 0 ≤ n ∧ n < 100000) (hN : n.toNat = N) (hn1 : nc + 1 ≤ NC) (hn2 : ns + N ≤ NS)
    (kk : ∀ q : Nat, st_R D X d NC NS M (pc + 2) ls (.ref q :: st) (ws ++ [(q, .inl (D.2.2.2, N, .inl (fun _ => 0)))]) (nc + 1) (ns + N) Q) : st_R D X d NC NS M pc ls (.int (Int32.ofInt n) :: st) ws nc ns Q := by
  intro p l e R s m args below meth c Qf A C hA hX hend H locs lsc hP hD hS hh
  have hts := C.2.2.2.2.2.1
  have r3 := C.2.2.2.2.2.2.2.2.2.2.1
  have r4 := C.2.2.2.2.2.2.2.2.2.2.2.1
  have hK := C.2.2.2.2.2.2.2.2.2.2.2.2.1
  have hx1 : -2147483648 ≤ n ∧ n < 2147483648 := ⟨by omega, by omega⟩
  refine va_newa (atype := .byte) (a0 := (N, .inl (fun _ => 0))) (N' := N) (ty := .byte) C.1 C.2.1 (hts _ st_tB) rfl hK hP hD hS hA (fun cA => rfl) (fun z => by rw [Int32.lt_iff_toInt_lt, fz_t32 hx1] at z; exact absurd z (by show ¬ n < 0; omega)) (by rw [fz_ix hn.1 hx1.2]; exact hN) (by show N * 1 ≤ 536870912; omega) (by omega) (by omega) (fz_dk hM hc) (fun q cA H1 hK1 hP1 hD1 hS1 => ?_)
  have e1 : s.vm.findClass ("[" ++ FieldType.byte.toString) = some cA := (hK1.2 3 (cA, .byte) rfl).2
  have e2 : s.vm.findClass ("[" ++ FieldType.byte.toString) = some D.2.2.2 := (hK.2 2 (D.2.2.2, .byte) rfl).2
  have e3 : cA = D.2.2.2 := Option.some.inj (e1.symm.trans e2)
  subst e3
  exact kk q p l e R s m args below meth c Qf A C hA hX hend H1 locs lsc hP1 hD1 hS1 hh
theorem st_put {x idx ci N q0 k : Nat} {Cn : String} {T : u_T} {v : Value} {fs : List Value} {ty : FieldType} (hM : fz_okK M = true) (hc : fz_at M.2.2.2.2 pc = some (.putfield idx, 3, a, b, w)) (hcl : fz_nth vwCl ci = some (Cn, T, N)) (he : ws[q0]? = some (x, .inr (ci, fs))) (hk : k < N) (hlk : Cond.fieldLink M.1.cls idx (T k).1 (T k).2.1 (T k).2.2.1 ∈ st_tb) (hfin : (T k).2.2.2 = false ∨ ((T k).2.2.2 = true ∧ (T k).1 = M.1.cls ∧ M.1.name = "<init>")) (hd : parseFieldDescriptor (T k).2.2.1 = some ty) (hn : narrow ty v = v) (hfit : fits ty v = true) (hl : k < fs.length)
    (kk : st_R D X d NC NS M (pc + 3) ls st (ws.set q0 (x, .inr (ci, fs.set k v))) nc ns Q) : st_R D X d NC NS M pc ls (v :: .ref x :: st) ws nc ns Q := by
  intro p l e R s m args below meth c Qf A C hA hX hend H locs lsc hP hD hS hh
  have hts := C.2.2.2.2.2.1
  have hK := C.2.2.2.2.2.2.2.2.2.2.2.2.1
  obtain ⟨ty0, hty⟩ := fz_cl_ty hcl
  rcases hfin with hfin | ⟨hfin, hdc, hi⟩
  · exact va_put (D := D.1) (ci := ci) (v := v) (ty := ty) (C := Cn) (T := T) (N := N) C.1 C.2.1 hts (st_cl_in hcl) ty0 hty (fz_cl_nm hcl) C.2.2.2.2.1 hK hP hD hS q0 he (by rw [← fz_nth_eq]; exact hcl) k hk (hts _ hlk) (fun _ h9 => h9) hfin hd hn hfit hl (fz_dk hM hc) (fun H1 locs1 hP1 hD1 hS1 => kk p l e R s m args below meth c Qf A C hA hX hend H1 locs1 lsc hP1 hD1 hS1 hh)
  · exact va_putF (D := D.1) (ci := ci) (v := v) (ty := ty) (C := Cn) (T := T) (N := N) C.1 C.2.1 hts (st_cl_in hcl) ty0 hty (fz_cl_nm hcl) C.2.2.2.2.1 hK hP hD hS q0 he (by rw [← fz_nth_eq]; exact hcl) k hk (hts _ hlk) (fun _ h9 => h9) hfin (C.2.2.2.2.2.2.2.1 hi) hdc hd hn hfit hl (fz_dk hM hc) (fun H1 locs1 hP1 hD1 hS1 => kk p l e R s m args below meth c Qf A C hA hX hend H1 locs1 lsc hP1 hD1 hS1 hh)
theorem st_get {x idx ci N q0 k : Nat} {Cn : String} {T : u_T} {v : Value} {fs : List Value} (hM : fz_okK M = true) (hc : fz_at M.2.2.2.2 pc = some (.getfield idx, 3, a, b, w)) (hcl : fz_nth vwCl ci = some (Cn, T, N)) (he : ws[q0]? = some (x, .inr (ci, fs))) (hk : k < N) (hlk : Cond.fieldLink M.1.cls idx (T k).1 (T k).2.1 (T k).2.2.1 ∈ st_tb) (hv : fs[k]? = some v)
    (kk : st_R D X d NC NS M (pc + 3) ls (v :: st) ws nc ns Q) : st_R D X d NC NS M pc ls (.ref x :: st) ws nc ns Q := by
  intro p l e R s m args below meth c Qf A C hA hX hend H locs lsc hP hD hS hh
  have hts := C.2.2.2.2.2.1
  have hK := C.2.2.2.2.2.2.2.2.2.2.2.2.1
  exact va_get (D := D.1) (ci := ci) (v := v) (C := Cn) (T := T) (N := N) C.1 C.2.1 hts (st_cl_in hcl) C.2.2.2.2.1 hK hP q0 he (by rw [← fz_nth_eq]; exact hcl) k hk (hts _ hlk) (fun _ h9 => h9) hv (fz_dk hM hc) (kk p l e R s m args below meth c Qf A C hA hX hend H locs lsc hP hD hS hh)
theorem st_alen {x q0 N : Nat} {f : Nat → Int32} (hM : fz_okK M = true) (hc : fz_at M.2.2.2.2 pc = some (.arraylength, 1, a, b, w)) (he : ws[q0]? = some (x, .inl (D.2.2.2, N, .inl f))) (kk : st_R D X d NC NS M (pc + 1) ls (.int (Int32.ofInt (N : Int)) :: st) ws nc ns Q) : st_R D X d NC NS M pc ls (.ref x :: st) ws nc ns Q := by
  intro p l e R s m args below meth c Qf A C hA hX hend H locs lsc hP hD hS hh
  have hK := C.2.2.2.2.2.2.2.2.2.2.2.2.1
  exact va_alen C.1 C.2.1 hK hP q0 2 he (ty := .byte) rfl (v := Int32.ofInt (N : Int)) rfl (fz_dk hM hc) (kk p l e R s m args below meth c Qf A C hA hX hend H locs lsc hP hD hS hh)
theorem st_bast {x q0 N : Nat} {i v : Int} {f : Nat → Int32} (hM : fz_okK M = true) (hc : fz_at M.2.2.2.2 pc = some (.bastore, 1, a, b, w)) (he : ws[q0]? = some (x, .inl (D.2.2.2, N, .inl f))) (hi : 0 ≤ i ∧ i < N) (hi2 : i < 100000) (hf : sb_Fit f)
    (kk : ∀ f' : Nat → Int32, sb_Fit f' → st_R D X d NC NS M (pc + 1) ls st (ws.set q0 (x, .inl (D.2.2.2, N, .inl f'))) nc ns Q) : st_R D X d NC NS M pc ls (.int (Int32.ofInt v) :: .int (Int32.ofInt i) :: .ref x :: st) ws nc ns Q := by
  intro p l e R s m args below meth c Qf A C hA hX hend H locs lsc hP hD hS hh
  have hK := C.2.2.2.2.2.2.2.2.2.2.2.2.1
  refine va_bast C.1 C.2.1 hK hP hD hS q0 2 he rfl (fz_in hi.1 hi.2 (by omega)) (fz_dk hM hc) (fun H1 locs1 hP1 hD1 hS1 => ?_)
  exact kk _ (sb_fitU hf (st_fitN _)) p l e R s m args below meth c Qf A C hA hX hend H1 locs1 lsc hP1 hD1 hS1 hh
theorem st_acW {idx x x0 q0 q1 n0 n1 : Nat} {sp dp n : Int} {f g : Nat → Int32} (hM : fz_okK M = true) (hc : fz_at M.2.2.2.2 pc = some (.invokestatic idx, 3, a, b, w)) (hlk : Cond.methodLink M.1.cls idx arraycopyName ∈ st_tb) (he0 : ws[q0]? = some (x0, .inl (D.2.2.2, n0, .inl f))) (he1 : ws[q1]? = some (x, .inl (D.2.2.2, n1, .inl g))) (hf : sb_Fit f) (hg : sb_Fit g)
    (h1 : 0 ≤ sp) (h2 : 0 ≤ dp) (h3 : 0 ≤ n) (h4 : sp + n ≤ n0) (h5 : dp + n ≤ n1) (h6 : sp < 100000 ∧ dp < 100000 ∧ n < 100000) (hd : 1 ≤ d) (hcap : (st.map fun v => v.category).sum ≤ 8)
    (kk : ∀ g' : Nat → Int32, sb_Fit g' → st_R D X d NC NS M (pc + 3) ls st (ws.set q1 (x, .inl (D.2.2.2, n1, .inl g'))) nc ns Q) : st_R D X d NC NS M pc ls (.int (Int32.ofInt n) :: .int (Int32.ofInt dp) :: .ref x :: .int (Int32.ofInt sp) :: .ref x0 :: st) ws nc ns Q := by
  intro p l e R s m args below meth c Qf A C hA hX hend H locs lsc hP hD hS hh
  have hK := C.2.2.2.2.2.2.2.2.2.2.2.2.1
  have hts := C.2.2.2.2.2.1
  have r1 := C.2.2.2.2.2.2.2.2.1
  have r2 := C.2.2.2.2.2.2.2.2.2.1
  have hnf := st_nfw
  refine va_copyi C.1 C.2.1 (C.2.2.2.1.trans hh.1.symm) C.2.2.2.2.1 (hts _ hlk) (hts _ st_ac1) (hts _ st_ac2) (hts _ st_ac3) hK hP hD hS q0 q1 2 2 (ty := .byte) he0 he1 rfl rfl rfl (st_nn h1 (by omega)) (st_nn h2 (by omega)) (st_nn h3 (by omega)) (by rw [fz_ix h1 (by omega), fz_ix h3 (by omega)]; omega) (by rw [fz_ix h2 (by omega), fz_ix h3 (by omega)]; omega) (fun i _ => hf _) (by omega) (by omega) (fz_dk hM hc) (fun H1 locs1 hP1 hD1 hS1 => ?_)
  exact kk _ (sb_fitC hf hg) p l e R s m args below meth c Qf A C hA hX hend H1 locs1 lsc hP1 hD1 hS1 hh
theorem st_acS {idx x r q q1 n0 n1 : Nat} {sp dp n : Int} {g : Nat → Int32} (hM : fz_okK M = true) (hc : fz_at M.2.2.2.2 pc = some (.invokestatic idx, 3, a, b, w)) (hlk : Cond.methodLink M.1.cls idx arraycopyName ∈ st_tb) (hr : (r, q, n0) ∈ X.1) (he1 : ws[q1]? = some (x, .inl (D.2.2.2, n1, .inl g))) (hg : sb_Fit g)
    (h1 : 0 ≤ sp) (h2 : 0 ≤ dp) (h3 : 0 ≤ n) (h4 : sp + n ≤ n0) (h5 : dp + n ≤ n1) (h6 : sp < 100000 ∧ dp < 100000 ∧ n < 100000) (hd : 1 ≤ d) (hcap : (st.map fun v => v.category).sum ≤ 8)
    (kk : ∀ g' : Nat → Int32, sb_Fit g' → st_R D X d NC NS M (pc + 3) ls st (ws.set q1 (x, .inl (D.2.2.2, n1, .inl g'))) nc ns Q) : st_R D X d NC NS M pc ls (.int (Int32.ofInt n) :: .int (Int32.ofInt dp) :: .ref x :: .int (Int32.ofInt sp) :: .ref q :: st) ws nc ns Q := by
  intro p l e R s m args below meth c Qf A C hA hX hend H locs lsc hP hD hS hh
  have hK := C.2.2.2.2.2.2.2.2.2.2.2.2.1
  have hts := C.2.2.2.2.2.1
  have r1 := C.2.2.2.2.2.2.2.2.1
  have r2 := C.2.2.2.2.2.2.2.2.2.1
  have hnf := st_nfw
  obtain ⟨f, s1, s2, s3, s4, s5, s6⟩ := hX.2.1 _ hr
  refine vk_copyt C.1 C.2.1 (C.2.2.2.1.trans hh.1.symm) C.2.2.2.2.1 (hts _ hlk) (hts _ st_ac1) (hts _ st_ac2) (hts _ st_ac3) hK hP hD hS s4 q1 2 he1 rfl (st_nn h1 (by omega)) (st_nn h2 (by omega)) (st_nn h3 (by omega)) (by rw [fz_ix h1 (by omega), fz_ix h3 (by omega)]; show _ ≤ n0; omega) (by rw [fz_ix h2 (by omega), fz_ix h3 (by omega)]; omega) (fun i _ => s5 _) (by omega) (by omega) (fz_dk hM hc) (fun H1 locs1 hP1 hD1 hS1 => ?_)
  exact kk _ (sb_fitC s5 hg) p l e R s m args below meth c Qf A C hA hX hend H1 locs1 lsc hP1 hD1 hS1 hh
theorem st_null (hM : fz_okK M = true) (hc : fz_at M.2.2.2.2 pc = some (.aconst_null, 1, a, b, w)) (kk : st_R D X d NC NS M (pc + 1) ls (.null :: st) ws nc ns Q) : st_R D X d NC NS M pc ls st ws nc ns Q :=
  st_pure (fun p l e R s m args below meth c Qf H locs lsc hx hb hl z => lv_null hx hb (fz_dk hM hc) z) kk
theorem st_mmax {idx : Nat} {x y : Int} (hx1 : -2147483648 ≤ x ∧ x < 2147483648) (hy1 : -2147483648 ≤ y ∧ y < 2147483648) (hlk : Cond.methodLink M.1.cls idx Lib.Math.max.name ∈ st_tb) (hM : fz_okK M = true) (hc : fz_at M.2.2.2.2 pc = some (.invokestatic idx, 3, a, b, w)) (hd : 1 ≤ d) (hcap : (st.map fun v => v.category).sum ≤ 8) (hnc : nc ≤ NC) (hns : ns ≤ NS)
    (kk : ∀ z : Int, z = max x y → st_R D X d NC NS M (pc + 3) ls (.int (Int32.ofInt z) :: st) ws nc ns Q) : st_R D X d NC NS M pc ls (.int (Int32.ofInt y) :: .int (Int32.ofInt x) :: st) ws nc ns Q := by
  intro p l e R s m args below meth c Qf A C hA hX hend H locs lsc hP hD hS hh
  have hts := C.2.2.2.2.2.1
  have r1 := C.2.2.2.2.2.2.2.2.1
  have r2 := C.2.2.2.2.2.2.2.2.2.1
  have r3 := C.2.2.2.2.2.2.2.2.2.2.1
  have r4 := C.2.2.2.2.2.2.2.2.2.2.2.1
  refine va_mmax C.1 C.2.1 (C.2.2.2.1.trans hh.1.symm) C.2.2.2.2.1 (hts _ hlk) (hts _ st_x1) (hts _ st_m0) (hts _ st_x2) (by omega) (by omega) (by omega) (by omega) (fz_dk hM hc) ?_
  have e1 : (if Int32.ofInt x < Int32.ofInt y then Int32.ofInt y else Int32.ofInt x) = Int32.ofInt (max x y) := by
    by_cases hq : x < y
    · rw [if_pos ((fz_lt hx1 hy1).mpr hq), show max x y = y by omega]
    · rw [if_neg (fun z => hq ((fz_lt hx1 hy1).mp z)), show max x y = x by omega]
  rw [e1]
  exact kk _ rfl p l e R s m args below meth c Qf A C hA hX hend H locs lsc hP hD hS hh
theorem st_mmin {idx : Nat} {x y : Int} (hx1 : -2147483648 ≤ x ∧ x < 2147483648) (hy1 : -2147483648 ≤ y ∧ y < 2147483648) (hlk : Cond.methodLink M.1.cls idx Lib.Math.min.name ∈ st_tb) (hM : fz_okK M = true) (hc : fz_at M.2.2.2.2 pc = some (.invokestatic idx, 3, a, b, w)) (hd : 1 ≤ d) (hcap : (st.map fun v => v.category).sum ≤ 8) (hnc : nc ≤ NC) (hns : ns ≤ NS)
    (kk : ∀ z : Int, z = min x y → st_R D X d NC NS M (pc + 3) ls (.int (Int32.ofInt z) :: st) ws nc ns Q) : st_R D X d NC NS M pc ls (.int (Int32.ofInt y) :: .int (Int32.ofInt x) :: st) ws nc ns Q := by
  intro p l e R s m args below meth c Qf A C hA hX hend H locs lsc hP hD hS hh
  have hts := C.2.2.2.2.2.1
  have r1 := C.2.2.2.2.2.2.2.2.1
  have r2 := C.2.2.2.2.2.2.2.2.2.1
  have r3 := C.2.2.2.2.2.2.2.2.2.2.1
  have r4 := C.2.2.2.2.2.2.2.2.2.2.2.1
  refine va_mmin C.1 C.2.1 (C.2.2.2.1.trans hh.1.symm) C.2.2.2.2.1 (hts _ hlk) (hts _ st_i1) (hts _ st_m0) (hts _ st_i2) (by omega) (by omega) (by omega) (by omega) (fz_dk hM hc) ?_
  have e1 : (if Int32.ofInt y < Int32.ofInt x then Int32.ofInt y else Int32.ofInt x) = Int32.ofInt (min x y) := by
    by_cases hq : y < x
    · rw [if_pos ((fz_lt hy1 hx1).mpr hq), show min x y = y by omega]
    · rw [if_neg (fun z => hq ((fz_lt hy1 hx1).mp z)), show min x y = x by omega]
  rw [e1]
  exact kk _ rfl p l e R s m args below meth c Qf A C hA hX hend H locs lsc hP hD hS hh
theorem st_clone {idx x q0 N : Nat} {f : Nat → Int32} (hM : fz_okK M = true) (hc : fz_at M.2.2.2.2 pc = some (.invokevirtual idx, 3, a, b, w)) (hlk : Cond.methodLink M.1.cls idx ⟨"[B", "clone", "()Ljava/lang/Object;"⟩ ∈ st_tb) (he : ws[q0]? = some (x, .inl (D.2.2.2, N, .inl f))) (hf : sb_Fit f) (hd : 1 ≤ d) (hcap : (st.map fun v => v.category).sum ≤ 8) (hn1 : nc + 1 ≤ NC) (hn2 : ns + N ≤ NS)
    (kk : ∀ q : Nat, st_R D X d NC NS M (pc + 3) ls (.ref q :: st) (ws ++ [(q, .inl (D.2.2.2, N, .inl f))]) (nc + 1) (ns + N) Q) : st_R D X d NC NS M pc ls (.ref x :: st) ws nc ns Q := by
  intro p l e R s m args below meth c Qf A C hA hX hend H locs lsc hP hD hS hh
  have hK := C.2.2.2.2.2.2.2.2.2.2.2.2.1
  have hts := C.2.2.2.2.2.1
  have r1 := C.2.2.2.2.2.2.2.2.1
  have r2 := C.2.2.2.2.2.2.2.2.2.1
  have r3 := C.2.2.2.2.2.2.2.2.2.2.1
  have r4 := C.2.2.2.2.2.2.2.2.2.2.2.1
  have hN := C.2.2.2.2.2.2.2.2.2.2.2.2.2
  have hnm : s.vm.findClass "[B" = some D.2.2.2 := (hK.2 2 (D.2.2.2, .byte) rfl).2
  refine va_clone C.1 C.2.1 (C.2.2.2.1.trans hh.1.symm) C.2.2.2.2.1 (hts _ hlk) (hts _ st_k1) (hts _ st_k2) (hts _ st_k3) (hts _ st_k4) hN.2 hK hP hD hS hA q0 2 he (ty := .byte) rfl hnm (fun i v hv => ?_) (by omega) (by omega) (by omega) (by show _ + N ≤ _; omega) (fz_dk hM hc) (fun q H1 hK1 hP1 hD1 hS1 => kk q p l e R s m args below meth c Qf A C hA hX hend H1 locs lsc hP1 hD1 hS1 hh)
  have hv2 : (arrV D.2.2.2 N (fun j => .int (f j))).slots[i]? = some v := hv
  by_cases hi : i < N
  · rw [arrV_read _ _ hi] at hv2
    cases hv2
    exact hf i
  · rw [Array.getElem?_eq_none (by rw [arrV_size]; omega)] at hv2
    cases hv2
theorem st_castB {idx x q0 N : Nat} {f : Nat → Int32} (hM : fz_okK M = true) (hc : fz_at M.2.2.2.2 pc = some (.checkcast idx, 3, a, b, w)) (hlk : Cond.classLink M.1.cls idx "[B" ∈ st_tb) (he : ws[q0]? = some (x, .inl (D.2.2.2, N, .inl f)))
    (kk : st_R D X d NC NS M (pc + 3) ls (.ref x :: st) ws nc ns Q) : st_R D X d NC NS M pc ls (.ref x :: st) ws nc ns Q := by
  intro p l e R s m args below meth c Qf A C hA hX hend H locs lsc hP hD hS hh
  have hK := C.2.2.2.2.2.2.2.2.2.2.2.2.1
  have hts := C.2.2.2.2.2.1
  have hnm : s.vm.findClass "[B" = some D.2.2.2 := (hK.2 2 (D.2.2.2, .byte) rfl).2
  exact va_castA C.1 C.2.1 C.2.2.2.2.1 (hts _ hlk) hP q0 he hnm (fz_dk hM hc) (kk p l e R s m args below meth c Qf A C hA hX hend H locs lsc hP hD hS hh)
theorem st_sub (is : List Nat) (hs : is.map (fun i => ws[i]?) = ws'.map some) (hn : va_nd is = true) (k : st_R D X d NC NS M pc ls st ws' nc ns Q) : st_R D X d NC NS M pc ls st ws nc ns Q := by
  intro p l e R s m args below meth c Qf A C hA hX hend H locs lsc hP hD hS hl
  exact k p l e R s m args below meth c Qf A C hA hX hend H locs lsc (hP.sub is (st_fm hs)) (hD.sub is hn hs) hS hl
theorem st_ret (hM : fz_okK M = true) (hc : fz_at M.2.2.2.2 pc = some (.return_, 1, a, b, w)) (hr : M.2.2.2.1 = none) (h1 : nc ≤ NC) (h2 : ns ≤ NS) (hq : Q ws none) : st_R D X d NC NS M pc ls [] ws nc ns Q := by
  intro p l e R s m args below meth c Qf A C hA hX hend H locs lsc hP hD hS hh
  exact W.widen h1 h2 (hend ws none pc lsc H locs hq ⟨hr, fz_dk hM hc⟩ hP hD hS)
theorem st_areturn {x : Nat} {ty : FieldType} (hM : fz_okK M = true) (hc : fz_at M.2.2.2.2 pc = some (.areturn, 1, a, b, w)) (hr : M.2.2.2.1 = some ty) (hk : (∃ n, ty = .object n) ∨ ∃ t, ty = .array t) (h1 : nc ≤ NC) (h2 : ns ≤ NS) (hq : Q ws (some (.ref x))) : st_R D X d NC NS M pc ls [.ref x] ws nc ns Q := by
  intro p l e R s m args below meth c Qf A C hA hX hend H locs lsc hP hD hS hh
  exact W.widen h1 h2 (hend ws (some (.ref x)) pc lsc H locs hq ⟨fz_dk hM hc, ty, hr, hk⟩ hP hD hS)
theorem st_ireturn {x : Int32} {ty : FieldType} (hM : fz_okK M = true) (hc : fz_at M.2.2.2.2 pc = some (.ireturn, 1, a, b, w)) (hr : M.2.2.2.1 = some ty) (hk : narrow ty (.int x) = .int x) (h1 : nc ≤ NC) (h2 : ns ≤ NS) (hq : Q ws (some (.int x))) : st_R D X d NC NS M pc ls [.int x] ws nc ns Q := by
  intro p l e R s m args below meth c Qf A C hA hX hend H locs lsc hP hD hS hh
  exact W.widen h1 h2 (hend ws (some (.int x)) pc lsc H locs hq ⟨fz_dk hM hc, ty, hr, hk⟩ hP hD hS)
end ST
end
section
/-! ===== texts: contracts, calls ===== -/
def st_Pc (D : st_D) (X : st_Xt) (ws : va_W) (sz : Nat) (U : State) : Prop := U.heap.size = sz ∧ va_P D.1 vwCl ws U.heap ∧ va_K D.1 vwCl (st_ty D) U ∧ va_D (va_A ws sz) ws ∧ st_nN U ∧ st_ok X (va_A ws sz) U U.heap
def st_Qc (D : st_D) (ws : va_W) (sz : Nat) (Q : va_W → Option Value → Prop) : Array Value → State → Outcome → State → Prop := fun _ st oc t =>
  (∃ (ws1 : va_W) (v : Option Value), oc = .returned v ∧ Q ws1 v ∧ va_P D.1 vwCl ws1 t.heap ∧ va_D (va_A ws sz) ws1) ∧ va_F (va_A ws sz) st t
theorem st_blind {D : st_D} {X : st_Xt} {ws : va_W} {sz : Nat} {vs : List Value} : FrameBlind (va_Pc vs (st_Pc D X ws sz)) := by
  intro a U g mk hp
  obtain ⟨h1, h2, h3, h4, h5, h6, h7⟩ := hp
  exact ⟨h1, h2, h3, va_K.moved (u := U) (U := U.calling g mk a) (Vm.Alike.refl U.vm) h4, h5, st_nN_vm (u := U) (U := U.calling g mk a) rfl h6, st_ok.same (u := U) (U := U.calling g mk a) rfl h7⟩
theorem st_met {D : st_D} {X : st_Xt} {d NC NS : Nat} {M : fz_M} {vs : List Value} {ws : va_W} {Q : va_W → Option Value → Prop} (hpl : plainName M.1.cls = true) (hL : (lg_sl vs).length ≤ M.2.2.1)
    (hB : st_R D X d NC NS M 0 (lv_args 0 vs) [] ws 0 0 Q) (sz : Nat) (l : Launch) :
    Met l M.1 (st_wd M) (fz_rB d NC NS) (va_Pc vs (st_Pc D X ws sz)) (st_Qc D ws sz Q) NC NS (va_A ws sz) := by
  refine Met.ofW (cc := M.2.1) (maxL := M.2.2.1) (ret := M.2.2.2.1) hpl rfl ?_
  intro p e2 s m args below meth c s₁ B hml hpc
  obtain ⟨rfl, hsz, hP, hK, hD0, hN, hX⟩ := hpc
  subst hsz
  have hts := atoms_spec (ws := st_wd M) B.pre
  have hl := lv_entry vs (n := M.2.2.1) hL
  rw [lg_entry_eq]
  generalize (lg_sl vs ++ List.replicate (M.2.2.1 - (lg_sl vs).length) Slot.unset).toArray = lsc at hl ⊢
  have hlocks := B.notSynchronized
  have hin : M.1.name = "<init>" → meth.name = "<init>" := fun h => (name_of_methodNamed B.named B.method).1.trans h
  have hr : meth.sig.returnType = M.2.2.2.1 := B.returns
  have C : st_Bx D d NC NS M p (headSpec (st_wd M) (fz_rB d NC NS)).room s m (vs.toArray) meth c :=
    ⟨B.exec, B.bytes, B.returns, hml, findClass_of_methodNamed B.named, fun w hw => hts w (List.mem_cons_of_mem _ hw), hlocks, hin, Nat.le_refl _, Nat.le_refl _, Nat.le_refl _, Nat.le_refl _, hK, hN⟩
  refine hB p l e2 _ s m _ below meth c _ (va_A ws s.heap.size) C (fun x h => Or.inr h) hX ?_ s.heap [] lsc hP hD0 va_S.rf hl
  intro ws' v pc' lsc' H locs hQ hdr hP' hD' hS'
  have fin : ∀ t : State, t.heap = H → s.WarmedH t.vm → st_Qc D ws s.heap.size Q (vs.toArray) s (.returned v) t := fun t ht _ => ⟨⟨ws', v, rfl, hQ, by rw [ht]; exact hP', hD'⟩, hS'.F ht⟩
  match v, hdr, fin with
  | none, hdr, fin => exact W.vret C.1 C.2.1 (hr.trans hdr.1) fin hS'.2.2 hdr.2
  | some (.int x), hdr, fin =>
    obtain ⟨h1, ty, h2, h3⟩ := hdr
    exact W.zret C.1 C.2.1 (hr.trans h2) h3 fin hS'.2.2 h1
  | some (.ref x), hdr, fin =>
    obtain ⟨h1, ty, h2, h3⟩ := hdr
    exact W.aret C.1 C.2.1 (hr.trans h2) h3 (Or.inr ⟨x, rfl⟩) fin hS'.2.2 h1
/-- a field of a cell of the world, seen by those who don't write it -/
theorem st_OF {D : st_D} {s : State} {args : Array Value} {H : Heap} {ws : va_W} {A : Nat → Prop} {tys : List (ClassId × FieldType)} {x q0 ci N k : Nat} {Cn : String} {T : u_T} {fs : List Value} {v : Value} (hts : ∀ w ∈ st_tb, w.before args s = true) (hK : va_K D.1 vwCl tys s) (hP : va_P D.1 vwCl ws H) (hcl : fz_nth vwCl ci = some (Cn, T, N)) (he : ws[q0]? = some (x, .inr (ci, fs))) (hk : k < N) (hv : fs[k]? = some v) (hA : ¬ A x) :
    va_OF (T k).1 (T k).2.1 (T k).2.2.1 v x A s H := by
  obtain ⟨r, h1, cell, q1, q2, q3, q4⟩ := hP q0 _ he
  have hr : r = (Cn, T, N) := Option.some.inj (h1.symm.trans ((fz_nth_eq _ _).symm.trans hcl))
  subst hr
  obtain ⟨hS, hfc, kC, hkC, hkind⟩ := hK.1 ci _ ((fz_nth_eq _ _).symm.trans hcl)
  obtain ⟨cf, kf, fi, f, hi, hsl⟩ := hS k hk
  refine ⟨cf, kf, fi, f, cell, hi, (u_facts hfc hkC (u_lays hts (st_cl_in hcl) hk) hi).1, q1, (by rw [q3]; exact fun h => (by cases h)), ?_, hA⟩
  rw [hsl, q4 k hk]
  simp [vp_V, hv]
theorem st_Tw {D : st_D} {s : State} {H : Heap} {ws : va_W} {A : Nat → Prop} {q j n : Nat} {f : Nat → Int32} (hK : va_K D.1 vwCl (st_ty D) s) (hP : va_P D.1 vwCl ws H) (he : ws[j]? = some (q, .inl (D.2.2.2, n, .inl f))) (hA : ¬ A q) : va_T .byte q n (fun j => .int (f j)) A s H := by
  refine ⟨vp_cell D.2.2.2 (n, .inl f), hP j _ he, (hK.2 2 (D.2.2.2, .byte) rfl).1 n (fun j => .int (f j)), fun h => (by cases h), ?_, ?_, fun i hi => ?_, hA⟩
  · show n ≤ (arrV _ _ _).slots.size
    rw [arrV_size]
    exact Nat.le_refl n
  · show (arrV _ _ _).slots.size.toInt32 = _
    rw [arrV_size]
  · show (arrV _ _ _).slots[_]? = _
    rw [arrV_read _ _ hi]
theorem st_ltH {D : va_G} {cl : List vw_C} {ws : va_W} {H : Heap} (hP : va_P D cl ws H) {i x : Nat} {e : va_E} (he : ws[i]? = some (x, e)) : x < H.size := by
  have h := hP i _ he
  rcases e with a | o
  · exact (Array.getElem?_eq_some_iff.mp h).1
  · obtain ⟨r, -, cell, q1, -⟩ := h
    exact (Array.getElem?_eq_some_iff.mp q1).1
theorem st_out {D : va_G} {cl : List vw_C} {ws wc : va_W} {A : Nat → Prop} {H : Heap} (hP : va_P D cl ws H) (hD : va_D A ws) {isC : List Nat} (hC : isC.map (fun i => ws[i]?) = wc.map some) {i x : Nat} {e : va_E} (he : ws[i]? = some (x, e)) (hi : i ∉ isC) : ¬ va_A wc H.size x := by
  rintro (⟨k, e', hk⟩ | h)
  · have h1 : (wc.map some)[k]? = some (some (x, e')) := by rw [List.getElem?_map, hk]; rfl
    rw [← hC, List.getElem?_map] at h1
    obtain ⟨i', h2, h3⟩ := Option.map_eq_some_iff.mp h1
    have h4 : i' = i := hD.1 i' i _ _ h3 he rfl
    exact hi (h4 ▸ List.mem_of_getElem? h2)
  · exact absurd (st_ltH hP he) (by omega)
/-- the strings that a callee sees: the caller's, or such as lie in its world and aren't handed over -/
def st_vis (D : st_D) (X X' : st_Xt) (ws : va_W) (isC : List Nat) : Prop := X'.2 = X.2 ∧ ∀ q ∈ X'.1, q ∈ X.1 ∨ ∃ (i j : Nat) (y z : Int32) (f : Nat → Int32), ws[i]? = some (q.1, .inr (0, [.ref q.2.1, .int 0, .int y, .int z])) ∧ ws[j]? = some (q.2.1, .inl (D.2.2.2, q.2.2, .inl f)) ∧ sb_Fit f ∧ q.2.2 < 100000 ∧ i ∉ isC ∧ j ∉ isC
theorem st_see {D : st_D} {X X' : st_Xt} {s U : State} {args : Array Value} {H : Heap} {locs : List Loc} {ws wc : va_W} {A : Nat → Prop} {isC : List Nat} (hts : ∀ w ∈ st_tb, w.before args s = true) (hK : va_K D.1 vwCl (st_ty D) s) (hX : st_ok X A s s.heap) (hP : va_P D.1 vwCl ws H) (hD : va_D A ws) (hS : va_S A s.heap H locs) (hA : ∀ q : Nat, s.heap.size ≤ q → A q) (hC : isC.map (fun i => ws[i]?) = wc.map some) (hv : st_vis D X X' ws isC) (hU : U.heap = H) (hW : s.WarmedH U.vm) : st_ok X' (va_A wc H.size) U U.heap := by
  have hF := va_free hD hS hA isC hC
  have h0 : st_ok X (va_A wc H.size) s H := (hX.kept hS.2.1).narrow hF
  rw [hU]
  refine st_ok.warm hW ⟨by rw [hv.1]; exact h0.1, fun q hq => ?_, by rw [hv.1]; exact h0.2.2.1, by rw [hv.1]; exact h0.2.2.2.1, by rw [hv.1]; exact h0.2.2.2.2⟩
  rcases hv.2 q hq with h1 | ⟨i, j, y, z, f, e1, e2, hf, hn, hi, hj⟩
  · exact h0.2.1 q h1
  · have o1 := st_out hP hD hC e1 hi
    have o2 := st_out hP hD hC e2 hj
    obtain ⟨cell, g1, g2, g3⟩ := va_recv hK hP (ci := 0) (q := (RJ0, TJ0, 4)) rfl e1
    exact ⟨f, ⟨cell, g1, g2, g3, o1⟩, st_OF (k := 1) hts hK hP (ci := 0) (Cn := RJ0) (T := TJ0) (N := 4) rfl e1 (by decide) rfl o1, st_OF (k := 0) hts hK hP (ci := 0) (Cn := RJ0) (T := TJ0) (N := 4) rfl e1 (by decide) rfl o1, st_Tw hK hP e2 o2, hf, hn⟩
def st_rv (X : st_Xt) (ws : va_W) (Cn : String) (x : Nat) : Prop := (∃ (i ci : Nat) (fs : List Value) (T : u_T) (N : Nat), ws[i]? = some (x, .inr (ci, fs)) ∧ fz_nth vwCl ci = some (Cn, T, N)) ∨ (Cn = "java/lang/String" ∧ ∃ q n, (x, q, n) ∈ X.1)
theorem st_recv {D : st_D} {X : st_Xt} {s : State} {H : Heap} {locs : List Loc} {ws : va_W} {A : Nat → Prop} {Cn : String} {x : Nat} (hK : va_K D.1 vwCl (st_ty D) s) (hX : st_ok X A s s.heap) (hP : va_P D.1 vwCl ws H) (hS : va_S A s.heap H locs) (h : st_rv X ws Cn x) : ∃ cell : Cell, H[x]? = some cell ∧ cell.vm.isStatics = false ∧ s.vm.findClass Cn = some cell.cls := by
  rcases h with ⟨i, ci, fs, T, N, h1, h2⟩ | ⟨rfl, q, n, h1⟩
  · exact va_recv hK hP (q := (Cn, T, N)) ((fz_nth_eq _ _).symm.trans h2) h1
  · obtain ⟨f, g1, -⟩ := hX.2.1 _ h1
    exact va_Orecv g1 hS
section STC
variable {D : st_D} {X : st_Xt} {d NC NS : Nat} {M : fz_M} {pc a b w : Nat} {ls ls' : List (Nat × Value)} {st st' : List Value} {ws ws' : va_W} {nc ns : Nat} {Q : va_W → Option Value → Prop}
variable {p : Program} {l : Launch} {e : Env} {R : Room} {s : State} {m : MethodId} {args : Array Value} {below : List Frame} {meth : Method} {c : Code} {Qf : State → Prop} {A : Nat → Prop} {H : Heap} {locs : List Loc} {lsc : Array Slot}
theorem st_goon {NC' NS' : Nat} {S : List Value} {wc wr : va_W} {Q' : va_W → Option Value → Prop} {aa : Array Value} (isC isR : List Nat) (C : st_Bx D d NC NS M p R s m args meth c) (hA : ∀ q : Nat, s.heap.size ≤ q → A q) (hX : st_ok X A s s.heap)
    (hend : ∀ (ws' : va_W) (v : Option Value) (pc' : Nat) (lsc : Array Slot) (H : Heap) (locs : List Loc), Q ws' v → st_dr M pc' v → va_P D.1 vwCl ws' H → va_D A ws' → va_S A s.heap H locs → W p l e R s m args below meth c H locs NC NS Qf (F0 m pc' lsc v.toList))
    (hP : va_P D.1 vwCl ws H) (hD : va_D A ws) (hS : va_S A s.heap H locs) (hh : lv_has lsc M.2.2.1 ls) (hC : isC.map (fun i => ws[i]?) = wc.map some) (hR : isR.map (fun i => ws[i]?) = wr.map some) (hn : va_nd isR = true) (hdis : ∀ i ∈ isR, i ∉ isC)
    (hrun : va_Run p l e R s m args below meth c H locs nc ns NC' NS' (F0 m pc lsc S) st (st_Qc D wc H.size Q' aa) (va_A wc H.size))
    (k : ∀ ws1 v, Q' ws1 v → st_R D X d NC NS M (pc + 3) ls (v.toList ++ st) (wr ++ ws1) (nc + NC') (ns + NS') Q) : W p l e R s m args below meth c H locs nc ns Qf (F0 m pc lsc S) := by
  have hF := va_free hD hS hA isC hC
  intro T hT Y
  obtain ⟨v, st₀, t, T', L, h0, Y', hL, e1, e2, ⟨⟨ws1, v1, hv, hq, hP1, hD1⟩, hz, hk⟩, st1⟩ := hrun T hT Y
  cases hv
  rw [h0] at hz hk
  have hS' : va_S A s.heap T'.heap (locs ++ L) :=
    ⟨Nat.le_trans hS.1 (by rw [e1]; exact hz), fun q h1 h2 => by rw [e1, hk q (Nat.lt_of_lt_of_le h1 hS.1) (fun z => h2 (hF q z))]; exact hS.2.1 q h1 h2, fun q hq => by
      rcases List.mem_append.mp hq with h1 | h1
      · exact hS.2.2 q h1
      · exact hF _ (hL q h1)⟩
  rw [← e1] at hP1 hk
  obtain ⟨hPj, hDj⟩ := va_join (wr := wr) (w1 := ws1) hP hD isC isR hC hR hn hdis hk hF hP1 hD1
  obtain ⟨t2, a1, b1⟩ := k ws1 v hq p l e R s m args below meth c Qf A C hA hX hend T'.heap (locs ++ L) lsc hPj hDj hS' hh T' rfl Y'
  exact ⟨t2, st1 t2 a1, b1⟩
end STC
section ST
variable {D : st_D} {X X' : st_Xt} {d NC NS : Nat} {M : fz_M} {pc a b w : Nat} {ls ls' : List (Nat × Value)} {st st' : List Value} {ws ws' : va_W} {nc ns : Nat} {Q : va_W → Option Value → Prop}
def st_ow (M' : fz_M) (n : Nat) : Bool := plainName M'.1.cls && decide (M'.1.cls ≠ "java/lang/invoke/MethodHandle") && decide (M'.1.cls ≠ "java/lang/invoke/VarHandle") && decide ((parseMethodDescriptor M'.1.desc).map (fun q => q.parameters.length) = some n) && decide (M'.2.2.1 ≤ 40)
theorem st_ow_s {M' : fz_M} {n : Nat} (h : st_ow M' n = true) : plainName M'.1.cls = true ∧ M'.1.cls ≠ "java/lang/invoke/MethodHandle" ∧ M'.1.cls ≠ "java/lang/invoke/VarHandle" ∧ (parseMethodDescriptor M'.1.desc).map (fun q => q.parameters.length) = some n ∧ M'.2.2.1 ≤ 40 := by
  unfold st_ow at h
  simp only [Bool.and_eq_true, decide_eq_true_eq] at h
  exact ⟨h.1.1.1.1, h.1.1.1.2, h.1.1.2, h.1.2, h.2⟩
theorem st_rooms {d' NC' NS' : Nat} {M' : fz_M} {R : Room} (h1 : d ≤ R.frames) (h2 : d * 64 ≤ R.locals) (hd : d' + 1 ≤ d) (h3 : M'.2.2.1 ≤ 40) : (fz_rB d' NC' NS').frames + 1 ≤ R.frames ∧ 8 + (M'.2.2.1 + 11) + (fz_rB d' NC' NS').locals ≤ R.locals := by
  constructor
  · show d' + 1 ≤ R.frames; omega
  · show 8 + (M'.2.2.1 + 11) + d' * 64 ≤ R.locals
    omega
theorem st_callS {d' NC' NS' : Nat} {M' : fz_M} {n idx : Nat} {As S : List Value} {wc wr : va_W} {Q' : va_W → Option Value → Prop} (isC isR : List Nat) (hM : fz_okK M = true) (hc : fz_at M.2.2.2.2 pc = some (.invokestatic idx, 3, a, b, w))
    (hlk : Cond.methodLink M.1.cls idx M'.1 ∈ st_tb) (h1 : Cond.code M'.1 M'.2.1 M'.2.2.1 M'.2.2.2.1 ∈ st_tb) (h2 : Cond.initialized M'.1.cls ∈ st_tb) (h3 : Cond.static M'.1 ∈ st_tb) (hpl : st_ow M' n = true)
    (hn : As.length = n) (hS : S = As.reverse ++ st) (hcap : (st.map fun v => v.category).sum ≤ 8) (hL : (lg_sl As).length ≤ M'.2.2.1) (hd : d' + 1 ≤ d) (hnc : nc + NC' ≤ NC) (hns : ns + NS' ≤ NS)
    (hC : isC.map (fun i => ws[i]?) = wc.map some) (hR : isR.map (fun i => ws[i]?) = wr.map some) (hnd : va_nd isR = true) (hnc2 : va_nd isC = true) (hdis : ∀ i ∈ isR, i ∉ isC) (hv : st_vis D X X' ws isC)
    (hB : st_R D X' d' NC' NS' M' 0 (lv_args 0 As) [] wc 0 0 Q') (k : ∀ ws1 v, Q' ws1 v → st_R D X d NC NS M (pc + 3) ls (v.toList ++ st) (wr ++ ws1) (nc + NC') (ns + NS') Q) : st_R D X d NC NS M pc ls S ws nc ns Q := by
  subst hS
  obtain ⟨p1, p2, p3, p4, p5⟩ := st_ow_s hpl
  intro p l e R s m args below meth c Qf A C hA hX hend H locs lsc hP hD hSt hh
  have hts := C.2.2.2.2.2.1
  have r1 := C.2.2.2.2.2.2.2.2.1
  have r2 := C.2.2.2.2.2.2.2.2.2.1
  have r3 := C.2.2.2.2.2.2.2.2.2.2.1
  have r4 := C.2.2.2.2.2.2.2.2.2.2.2.1
  have hK := C.2.2.2.2.2.2.2.2.2.2.2.2.1
  have hN := C.2.2.2.2.2.2.2.2.2.2.2.2.2
  have hPc := hP.sub isC (st_fm hC)
  have hDc := (hD.sub isC hnc2 hC).self (sz := H.size)
  have hgood : GoodIn st_tb (va_wsS M.1.cls idx M'.1 (st_wd M')) := st_good M' h1 _ (by
    intro x hx
    simp only [List.mem_cons, List.not_mem_nil, or_false] at hx
    rcases hx with rfl | rfl | rfl
    · exact hlk
    · exact h3
    · exact h2)
  have hcw := va_cwS (R := R) n hts hgood rfl (rm := fz_rB d' NC' NS') (mc := NC') (ms := NS') rfl rfl ⟨p2, p3, p4⟩ (st_rooms r1 r2 hd p5)
  have hrun := va_runS (cells := nc) (slots := ns) (e := e) (below := below) (meth := meth) (locs := locs) (H := H) (As := As) (rest := st) (g := F0 m pc lsc (As.reverse ++ st)) ⟨C.1, C.2.1, C.2.2.2.1, C.2.2.2.2.1, hts⟩ (st_met p1 hL hB H.size l) hcw
    ⟨st_blind, fun U hU hWm => ⟨rfl, by rw [hU], by rw [hU]; exact hPc, va_K.moved hWm.alike hK, hDc, st_nN_warm hWm hN, st_see hts hK hX hP hD hSt hA hC hv hU hWm⟩⟩ rfl hn hh.1 rfl (lv_room hcap) (fz_dk hM hc) ⟨by omega, by omega⟩
  exact st_goon isC isR C hA hX hend hP hD hSt hh hC hR hnd hdis hrun k
theorem st_callI {d' NC' NS' : Nat} {M' : fz_M} {n idx x : Nat} {As S : List Value} {wc wr : va_W} {Q' : va_W → Option Value → Prop} (isC isR : List Nat) (hM : fz_okK M = true) (hc : fz_at M.2.2.2.2 pc = some (.invokespecial idx, 3, a, b, w))
    (hlk : Cond.methodLink M.1.cls idx M'.1 ∈ st_tb) (h1 : Cond.code M'.1 M'.2.1 M'.2.2.1 M'.2.2.2.1 ∈ st_tb) (h2 : Cond.initialized M'.1.cls ∈ st_tb) (h3 : Cond.instanceMethod M'.1 ∈ st_tb) (hpl : st_ow M' n = true) (hret : M'.2.2.2.1 = none) (hnm : M'.1.name = "<init>")
    (hn : As.length = n) (hS : S = As.reverse ++ .ref x :: st) (hcap : (st.map fun v => v.category).sum ≤ 8) (hL : (lg_sl (.ref x :: As)).length ≤ M'.2.2.1) (hd : d' + 1 ≤ d) (hnc : nc + NC' ≤ NC) (hns : ns + NS' ≤ NS)
    (hC : isC.map (fun i => ws[i]?) = wc.map some) (hR : isR.map (fun i => ws[i]?) = wr.map some) (hnd : va_nd isR = true) (hnc2 : va_nd isC = true) (hdis : ∀ i ∈ isR, i ∉ isC) (hv : st_vis D X X' ws isC)
    (hB : st_R D X' d' NC' NS' M' 0 (lv_args 0 (.ref x :: As)) [] wc 0 0 Q') (k : ∀ ws1 v, Q' ws1 v → st_R D X d NC NS M (pc + 3) ls (v.toList ++ st) (wr ++ ws1) (nc + NC') (ns + NS') Q) : st_R D X d NC NS M pc ls S ws nc ns Q := by
  subst hS
  obtain ⟨p1, p2, p3, p4, p5⟩ := st_ow_s hpl
  intro p l e R s m args below meth c Qf A C hA hX hend H locs lsc hP hD hSt hh
  have hts := C.2.2.2.2.2.1
  have r1 := C.2.2.2.2.2.2.2.2.1
  have r2 := C.2.2.2.2.2.2.2.2.2.1
  have r3 := C.2.2.2.2.2.2.2.2.2.2.1
  have r4 := C.2.2.2.2.2.2.2.2.2.2.2.1
  have hK := C.2.2.2.2.2.2.2.2.2.2.2.2.1
  have hN := C.2.2.2.2.2.2.2.2.2.2.2.2.2
  have hPc := hP.sub isC (st_fm hC)
  have hDc := (hD.sub isC hnc2 hC).self (sz := H.size)
  have hgood : GoodIn st_tb (st_wd M') := by
    have := st_good M' h1 [] (fun _ z => by cases z)
    exact this
  have hwd : st_wd M' = Cond.code M'.1 M'.2.1 M'.2.2.1 none :: st_tb := by rw [← hret]
  have hrun := va_runI (cells := nc) (slots := ns) (e := e) (below := below) (meth := meth) (locs := locs) (H := H) (b := x) (As := As) (rest := st) (g := F0 m pc lsc (As.reverse ++ .ref x :: st)) ⟨C.1, C.2.1, C.2.2.2.1, C.2.2.2.2.1, hts⟩ (st_met p1 hL hB H.size l) (cwI n hts hgood hwd rfl rfl (hts _ h2) (hts _ hlk) (hts _ h3) hnm ⟨p2, p3, p4⟩ (st_rooms r1 r2 hd p5))
    ⟨st_blind, fun U hU hWm => ⟨rfl, by rw [hU], by rw [hU]; exact hPc, va_K.moved hWm.alike hK, hDc, st_nN_warm hWm hN, st_see hts hK hX hP hD hSt hA hC hv hU hWm⟩⟩ rfl hn hh.1 rfl (lv_room hcap) (fz_dk hM hc) ⟨by omega, by omega⟩
  exact st_goon isC isR C hA hX hend hP hD hSt hh hC hR hnd hdis hrun k
/-- a method that the receiver's class declares, or one that it inherits, or a private one of a class above it -/
def st_sel (M : fz_M) (idx : Nat) (Cn : String) (M' : fz_M) : Prop := Cond.methodLink M.1.cls idx M'.1 ∈ st_tb ∧ Cond.instanceMethod M'.1 ∈ st_tb ∧ Cond.initialized M'.1.cls ∈ st_tb ∧ ((Cn = M'.1.cls ∧ Cond.selects M'.1.cls M'.1 M'.1 ∈ st_tb) ∨ (Cond.sameMethod M'.1.cls M'.1.cls M'.1.name M'.1.desc ∈ st_tb ∧ Cond.selects Cn M'.1 M'.1 ∈ st_tb))
theorem st_selP {y y2 : MethodName} {Cn : String} {s : State} {args : Array Value} {n : Nat} (hy : y.cls ≠ "java/lang/invoke/MethodHandle" ∧ y.cls ≠ "java/lang/invoke/VarHandle")
    (hins : (Cond.instantiable Cn n).before args s = true) (hpriv : (Cond.privateMethod y).before args s = true) (hinst : (Cond.instanceMethod y).before args s = true) (hy2 : y2.cls = y.cls) (hsel2 : (Cond.selects Cn y2 y2).before args s = true) :
    (Cond.selects Cn y y).before args s = true := by
  obtain ⟨c, k, hc, hk, -, hniab, -, -⟩ := Cond.instantiable_spec hins
  obtain ⟨mk, methM, hnamed, hmethM, -, -⟩ := Cond.instanceMethod_spec hinst
  have hfound : s.methodFound? y.cls y.name y.desc = some mk := State.methodFound?_of_named hnamed hy
  have hsel : selectMethod {} s.vm c mk = .method mk := selectMethod_private hmethM (Cond.privateMethod_at hpriv mk methM hnamed hmethM)
  obtain ⟨c2, r2, m2, -, -, q3, -, kP, hkP, hkPi⟩ := Cond.selects_spec hsel2
  have hm2 : mk.cls = m2.cls := Option.some.inj ((findClass_of_methodNamed hnamed).symm.trans (by rw [← hy2]; exact findClass_of_methodNamed q3))
  rw [← hm2] at hkP
  simp only [Cond.before, Cond.holds, Cond.value, hc, hfound, hnamed, hsel, hkP]
  simp
  exact hkPi
theorem st_callV {d' NC' NS' : Nat} {M' : fz_M} {n idx x : Nat} {Cn : String} {As S : List Value} {wc wr : va_W} {Q' : va_W → Option Value → Prop} (isC isR : List Nat) (hM : fz_okK M = true) (hc : fz_at M.2.2.2.2 pc = some (.invokevirtual idx, 3, a, b, w))
    (hsl : st_sel M idx Cn M') (h1 : Cond.code M'.1 M'.2.1 M'.2.2.1 M'.2.2.2.1 ∈ st_tb) (hpl : st_ow M' n = true) (hrv : st_rv X ws Cn x)
    (hn : As.length = n) (hS : S = As.reverse ++ .ref x :: st) (hcap : (st.map fun v => v.category).sum ≤ 8) (hL : (lg_sl (.ref x :: As)).length ≤ M'.2.2.1) (hd : d' + 1 ≤ d) (hnc : nc + NC' ≤ NC) (hns : ns + NS' ≤ NS)
    (hC : isC.map (fun i => ws[i]?) = wc.map some) (hR : isR.map (fun i => ws[i]?) = wr.map some) (hnd : va_nd isR = true) (hnc2 : va_nd isC = true) (hdis : ∀ i ∈ isR, i ∉ isC) (hv : st_vis D X X' ws isC)
    (hB : st_R D X' d' NC' NS' M' 0 (lv_args 0 (.ref x :: As)) [] wc 0 0 Q') (k : ∀ ws1 v, Q' ws1 v → st_R D X d NC NS M (pc + 3) ls (v.toList ++ st) (wr ++ ws1) (nc + NC') (ns + NS') Q) : st_R D X d NC NS M pc ls S ws nc ns Q := by
  subst hS
  obtain ⟨p1, p2, p3, p4, p5⟩ := st_ow_s hpl
  obtain ⟨l1, l2, l3, l4⟩ := hsl
  intro p l e R s m args below meth c Qf A C hA hX hend H locs lsc hP hD hSt hh
  have hts := C.2.2.2.2.2.1
  have r1 := C.2.2.2.2.2.2.2.2.1
  have r2 := C.2.2.2.2.2.2.2.2.2.1
  have r3 := C.2.2.2.2.2.2.2.2.2.2.1
  have r4 := C.2.2.2.2.2.2.2.2.2.2.2.1
  have hK := C.2.2.2.2.2.2.2.2.2.2.2.2.1
  have hN := C.2.2.2.2.2.2.2.2.2.2.2.2.2
  have hPc := hP.sub isC (st_fm hC)
  have hDc := (hD.sub isC hnc2 hC).self (sz := H.size)
  have hrecv := st_recv hK hX hP hSt hrv
  have hpre : PreV s H Cn x (va_Pc (.ref x :: As) (st_Pc D X' wc H.size)) As := ⟨st_blind, hrecv, fun U hU hWm => ⟨rfl, by rw [hU], by rw [hU]; exact hPc, va_K.moved hWm.alike hK, hDc, st_nN_warm hWm hN, st_see hts hK hX hP hD hSt hA hC hv hU hWm⟩⟩
  have hfix : CallFix p m c M.2.1 M.2.2.1 s args st_tb M.1.cls := ⟨C.1, C.2.1, C.2.2.2.1, C.2.2.2.2.1, hts⟩
  have hmet := st_met p1 hL hB H.size l
  have hrooms := st_rooms (NC' := NC') (NS' := NS') (M' := M') r1 r2 hd p5
  have hrun : va_Run p l e R s m args below meth c H locs nc ns NC' NS' (F0 m pc lsc (As.reverse ++ .ref x :: st)) st (st_Qc D wc H.size Q' (Value.ref x :: As).toArray) (va_A wc H.size) := by
    rcases l4 with ⟨rfl, l5⟩ | ⟨l5, l6⟩
    · have hgood : GoodIn st_tb (wsV M.1.cls idx M'.1.cls M'.1 (st_wd M')) := st_good M' h1 _ (by
        intro y hy
        simp only [List.mem_cons, List.not_mem_nil, or_false] at hy
        rcases hy with rfl | rfl | rfl | rfl
        · exact l1
        · exact l2
        · exact l5
        · exact l3)
      have hcw := cwV (R := R) n hts hgood rfl (rm := fz_rB d' NC' NS') (mc := NC') (ms := NS') rfl rfl ⟨rfl, p2, p3, p4⟩ hrooms
      exact va_runV hfix hmet hcw hpre rfl hn hh.1 rfl (lv_room hcap) (fz_dk hM hc) ⟨by omega, by omega⟩
    · have hgood := st_good M' h1 [] (fun _ z => by cases z)
      have cw : va_CU R s args M.1.cls Cn M'.1.cls idx M'.1 M'.1 M'.2.1 M'.2.2.1 M'.2.2.2.1 (st_wd M') (fz_rB d' NC' NS') NC' NS' n :=
        ⟨⟨rfl, rfl, hrooms.1, hrooms.2, pay_in hts hgood, List.mem_cons_self⟩, hts _ h1, hts _ l3, ⟨p2, p3⟩, fun sig h => by
          rw [h] at p4
          exact (Option.some.inj p4).symm, hts _ l1, hts _ l5, va_Decl.of (hts _ l2) (hts _ h1), (hts _ l6), hts _ l2⟩
      exact va_runU hfix hmet cw hpre rfl hn hh.1 rfl (lv_room hcap) (fz_dk hM hc) ⟨by omega, by omega⟩
  exact st_goon isC isR C hA hX hend hP hD hSt hh hC hR hnd hdis hrun k
theorem st_callO {Mx : fz_M} {d' NC' NS' : Nat} {M' : fz_M} {n idx x : Nat} {Cn : String} {As S : List Value} {wc wr : va_W} {Q' : va_W → Option Value → Prop} (isC isR : List Nat) (hM : fz_okK M = true) (hc : fz_at M.2.2.2.2 pc = some (.invokevirtual idx, 3, a, b, w))
    (l1 : Cond.methodLink M.1.cls idx Mx.1 ∈ st_tb) (l2 : Cond.sameMethod Mx.1.cls Mx.1.cls Mx.1.name Mx.1.desc ∈ st_tb) (l3 : Cond.instanceMethod Mx.1 ∈ st_tb) (l4 : Cond.selects Cn Mx.1 M'.1 ∈ st_tb) (l5 : Cond.instanceMethod M'.1 ∈ st_tb) (l6 : Cond.initialized M'.1.cls ∈ st_tb) (h0 : Cond.code Mx.1 Mx.2.1 Mx.2.2.1 Mx.2.2.2.1 ∈ st_tb) (hplx : st_ow Mx n = true) (h1 : Cond.code M'.1 M'.2.1 M'.2.2.1 M'.2.2.2.1 ∈ st_tb) (hpl : st_ow M' n = true) (hrv : st_rv X ws Cn x)
    (hn : As.length = n) (hS : S = As.reverse ++ .ref x :: st) (hcap : (st.map fun v => v.category).sum ≤ 8) (hL : (lg_sl (.ref x :: As)).length ≤ M'.2.2.1) (hd : d' + 1 ≤ d) (hnc : nc + NC' ≤ NC) (hns : ns + NS' ≤ NS)
    (hC : isC.map (fun i => ws[i]?) = wc.map some) (hR : isR.map (fun i => ws[i]?) = wr.map some) (hnd : va_nd isR = true) (hnc2 : va_nd isC = true) (hdis : ∀ i ∈ isR, i ∉ isC) (hv : st_vis D X X' ws isC)
    (hB : st_R D X' d' NC' NS' M' 0 (lv_args 0 (.ref x :: As)) [] wc 0 0 Q') (k : ∀ ws1 v, Q' ws1 v → st_R D X d NC NS M (pc + 3) ls (v.toList ++ st) (wr ++ ws1) (nc + NC') (ns + NS') Q) : st_R D X d NC NS M pc ls S ws nc ns Q := by
  subst hS
  obtain ⟨p1, p2, p3, p4, p5⟩ := st_ow_s hpl
  obtain ⟨x1, x2, x3, x4, x5⟩ := st_ow_s hplx
  intro p l e R s m args below meth c Qf A C hA hX hend H locs lsc hP hD hSt hh
  have hts := C.2.2.2.2.2.1
  have r1 := C.2.2.2.2.2.2.2.2.1
  have r2 := C.2.2.2.2.2.2.2.2.2.1
  have r3 := C.2.2.2.2.2.2.2.2.2.2.1
  have r4 := C.2.2.2.2.2.2.2.2.2.2.2.1
  have hK := C.2.2.2.2.2.2.2.2.2.2.2.2.1
  have hN := C.2.2.2.2.2.2.2.2.2.2.2.2.2
  have hPc := hP.sub isC (st_fm hC)
  have hDc := (hD.sub isC hnc2 hC).self (sz := H.size)
  have hrecv := st_recv hK hX hP hSt hrv
  have hpre : PreV s H Cn x (va_Pc (.ref x :: As) (st_Pc D X' wc H.size)) As := ⟨st_blind, hrecv, fun U hU hWm => ⟨rfl, by rw [hU], by rw [hU]; exact hPc, va_K.moved hWm.alike hK, hDc, st_nN_warm hWm hN, st_see hts hK hX hP hD hSt hA hC hv hU hWm⟩⟩
  have hfix : CallFix p m c M.2.1 M.2.2.1 s args st_tb M.1.cls := ⟨C.1, C.2.1, C.2.2.2.1, C.2.2.2.2.1, hts⟩
  have hmet := st_met p1 hL hB H.size l
  have hrooms := st_rooms (NC' := NC') (NS' := NS') (M' := M') r1 r2 hd p5
  have hrun : va_Run p l e R s m args below meth c H locs nc ns NC' NS' (F0 m pc lsc (As.reverse ++ .ref x :: st)) st (st_Qc D wc H.size Q' (Value.ref x :: As).toArray) (va_A wc H.size) := by
    have hgood := st_good M' h1 [Cond.methodLink M.1.cls idx Mx.1, Cond.sameMethod Mx.1.cls Mx.1.cls Mx.1.name Mx.1.desc, Cond.instanceMethod Mx.1, Cond.selects Cn Mx.1 M'.1, Cond.instanceMethod M'.1, Cond.initialized M'.1.cls] (by
      intro y hy
      simp only [List.mem_cons, List.not_mem_nil, or_false] at hy
      rcases hy with rfl | rfl | rfl | rfl | rfl | rfl
      · exact l1
      · exact l2
      · exact l3
      · exact l4
      · exact l5
      · exact l6)
    have cw := va_cwO (R := R) (own := M.1.cls) (C := Cn) (owner := Mx.1.cls) (index := idx) (x := Mx.1) (y := M'.1) n hts hgood rfl (rm := fz_rB d' NC' NS') (mc := NC') (ms := NS') rfl rfl h0 ⟨x2, x3, x4⟩ hrooms
    exact va_runU hfix hmet cw hpre rfl hn hh.1 rfl (lv_room hcap) (fz_dk hM hc) ⟨by omega, by omega⟩
  exact st_goon isC isR C hA hX hend hP hD hSt hh hC hR hnd hdis hrun k
/-- super.method(..) -/
theorem st_callSU {d' NC' NS' : Nat} {M' : fz_M} {n idx x : Nat} {Cn : String} {As S : List Value} {wc wr : va_W} {Q' : va_W → Option Value → Prop} {ci N q0 : Nat} {T : u_T} {fs : List Value} (isC isR : List Nat) (hM : fz_okK M = true) (hc : fz_at M.2.2.2.2 pc = some (.invokespecial idx, 3, a, b, w))
    (l1 : Cond.methodLink M.1.cls idx M'.1 ∈ st_tb) (l2 : Cond.sameMethod M'.1.cls M'.1.cls M'.1.name M'.1.desc ∈ st_tb) (l3 : Cond.superclass M.1.cls M'.1.cls ∈ st_tb) (l4 : Cond.instanceMethod M'.1 ∈ st_tb) (l5 : Cond.initialized M'.1.cls ∈ st_tb) (h1 : Cond.code M'.1 M'.2.1 M'.2.2.1 M'.2.2.2.1 ∈ st_tb) (hpl : st_ow M' n = true) (hno : M'.1.name ≠ "<init>") (he : ws[q0]? = some (x, .inr (ci, fs))) (hcl : fz_nth vwCl ci = some (Cn, T, N))
    (hn : As.length = n) (hS : S = As.reverse ++ .ref x :: st) (hcap : (st.map fun v => v.category).sum ≤ 8) (hL : (lg_sl (.ref x :: As)).length ≤ M'.2.2.1) (hd : d' + 1 ≤ d) (hnc : nc + NC' ≤ NC) (hns : ns + NS' ≤ NS)
    (hC : isC.map (fun i => ws[i]?) = wc.map some) (hR : isR.map (fun i => ws[i]?) = wr.map some) (hnd : va_nd isR = true) (hnc2 : va_nd isC = true) (hdis : ∀ i ∈ isR, i ∉ isC) (hv : st_vis D X X' ws isC)
    (hB : st_R D X' d' NC' NS' M' 0 (lv_args 0 (.ref x :: As)) [] wc 0 0 Q') (k : ∀ ws1 v, Q' ws1 v → st_R D X d NC NS M (pc + 3) ls (v.toList ++ st) (wr ++ ws1) (nc + NC') (ns + NS') Q) : st_R D X d NC NS M pc ls S ws nc ns Q := by
  subst hS
  obtain ⟨p1, p2, p3, p4, p5⟩ := st_ow_s hpl
  intro p l e R s m args below meth c Qf A C hA hX hend H locs lsc hP hD hSt hh
  have hts := C.2.2.2.2.2.1
  have r1 := C.2.2.2.2.2.2.2.2.1
  have r2 := C.2.2.2.2.2.2.2.2.2.1
  have r3 := C.2.2.2.2.2.2.2.2.2.2.1
  have r4 := C.2.2.2.2.2.2.2.2.2.2.2.1
  have hK := C.2.2.2.2.2.2.2.2.2.2.2.2.1
  have hN := C.2.2.2.2.2.2.2.2.2.2.2.2.2
  have hPc := hP.sub isC (st_fm hC)
  have hDc := (hD.sub isC hnc2 hC).self (sz := H.size)
  have hcl2 : vwCl[ci]? = some (Cn, T, N) := (fz_nth_eq _ _).symm.trans hcl
  have hrecv := va_recv hK hP hcl2 he
  have hgood := st_good M' h1 [Cond.methodLink M.1.cls idx M'.1, Cond.sameMethod M'.1.cls M'.1.cls M'.1.name M'.1.desc, Cond.superclass M.1.cls M'.1.cls, Cond.instanceMethod M'.1, Cond.initialized M'.1.cls] (by
    intro y hy
    simp only [List.mem_cons, List.not_mem_nil, or_false] at hy
    rcases hy with rfl | rfl | rfl | rfl | rfl
    · exact l1
    · exact l2
    · exact l3
    · exact l4
    · exact l5)
  have cw := va_cwSU (R := R) (own := M.1.cls) (index := idx) n hts hgood rfl (rm := fz_rB d' NC' NS') (mc := NC') (ms := NS') rfl rfl ⟨hno, p4⟩ (st_rooms r1 r2 hd p5)
  have hrun := va_runSU (C := Cn) (cells := nc) (slots := ns) (e := e) (below := below) (meth := meth) (locs := locs) (H := H) (b := x) (As := As) (rest := st) (g := F0 m pc lsc (As.reverse ++ .ref x :: st)) (hK.1 ci _ hcl2).2 ⟨C.1, C.2.1, C.2.2.2.1, C.2.2.2.2.1, hts⟩ (st_met p1 hL hB H.size l) cw
    ⟨st_blind, hrecv, fun U hU hWm => ⟨rfl, by rw [hU], by rw [hU]; exact hPc, va_K.moved hWm.alike hK, hDc, st_nN_warm hWm hN, st_see hts hK hX hP hD hSt hA hC hv hU hWm⟩⟩ rfl hn hh.1 rfl (lv_room hcap) (fz_dk hM hc) ⟨by omega, by omega⟩
  exact st_goon isC isR C hA hX hend hP hD hSt hh hC hR hnd hdis hrun k
end ST
end
section
/-! ===== texts: the walks ===== -/
def mtJ5_init_d00df : fz_M := (yJ5_init_d00df, prog_14_method_2_code, 2, none, [(0, .aload_n 0, 1, 0, 0, 0), (1, .invokespecial 3, 3, 0, 0, 0), (4, .getstatic 18, 3, 0, 0, 0), (7, .ifCond .eq 18, 3, 0, 0, 0), (10, .aload_n 0, 1, 0, 0, 0), (11, .iload_n 1, 1, 0, 0, 0), (12, .newarray .byte, 2, 0, 0, 0), (14, .putfield 15, 3, 0, 0, 0), (17, .aload_n 0, 1, 0, 0, 0), (18, .iconst 0, 1, 0, 0, 0), (19, .putfield 22, 3, 0, 0, 0), (22, .goto 16, 3, 0, 0, 0), (25, .aload_n 0, 1, 0, 0, 0), (26, .iload_n 1, 1, 0, 0, 0), (27, .invokestatic 26, 3, 0, 0, 0), (30, .putfield 15, 3, 0, 0, 0), (33, .aload_n 0, 1, 0, 0, 0), (34, .iconst 1, 1, 0, 0, 0), (35, .putfield 22, 3, 0, 0, 0), (38, .return_, 1, 0, 0, 0)])
set_option maxRecDepth 100000 in
theorem ktJ5_init_d00df : fz_okK mtJ5_init_d00df = true := fz_okK_in (by decide +kernel)
set_option maxHeartbeats 4000000 in
set_option maxRecDepth 100000 in
theorem tt_asbInit (D : st_D) (X : st_Xt) (b : Nat) : st_R D ([], X.2) 2 1 16 mtJ5_init_d00df 0 (lv_args 0 [.ref b, .int (Int32.ofInt (16))]) [] [(b, .inr (1, [.null, .int (Int32.ofInt (0)), .int (Int32.ofInt (0)), .int (Int32.ofInt (0))]))] 0 0 (fun ws v => v = none ∧ ∃ (q : Nat) (f : Nat → Int32), sb_Fit f ∧ ws = [(b, .inr (1, [.ref q, .int (Int32.ofInt (0)), .int (Int32.ofInt (0)), .int (Int32.ofInt (0))])), (q, .inl (D.2.2.2, 16, .inl f))]) := by
  show st_R D ([], X.2) 2 1 16 mtJ5_init_d00df 0 [(0, .ref b), (1, .int (Int32.ofInt (16)))] [] _ 0 0 _
  refine st_aload_n 0 ktJ5_init_d00df rfl rfl ?_
  refine st_obj ktJ5_init_d00df rfl (st_has (n := 4230) rfl rfl) (Nat.le_of_ble_eq_true rfl) (by decide) ?_
  refine st_compact (st_has (n := 4231) rfl rfl) ktJ5_init_d00df rfl ?_
  refine st_if_eq (tgt := 25) ⟨by omega, by omega⟩ ktJ5_init_d00df rfl (by decide) (fun c1 => False.elim (by omega)) (fun c1 => ?_)
  refine st_aload_n 0 ktJ5_init_d00df rfl rfl ?_
  refine st_iload_n 1 ktJ5_init_d00df rfl rfl ?_
  refine st_newB (N := (16 : Int).toNat) ktJ5_init_d00df rfl (by omega) rfl (by omega) (by omega) (fun q2 => ?_)
  refine st_ws (ws' := [(b, .inr (1, [.null, .int (Int32.ofInt (0)), .int (Int32.ofInt (0)), .int (Int32.ofInt (0))])), (q2, .inl (D.2.2.2, (16 : Int).toNat, .inl (fun _ => 0)))]) rfl ?_
  refine st_put (ci := 1) (q0 := 0) (k := 0) (ty := tyJ4 0) ktJ5_init_d00df rfl rfl rfl (by decide) (st_has (n := 5000) rfl rfl) (Or.inl rfl) (tyJ4_ok 0 (by decide)) rfl rfl (Nat.le_of_ble_eq_true rfl) ?_
  refine st_ws (ws' := [(b, .inr (1, [.ref q2, .int (Int32.ofInt (0)), .int (Int32.ofInt (0)), .int (Int32.ofInt (0))])), (q2, .inl (D.2.2.2, (16 : Int).toNat, .inl (fun _ => 0)))]) rfl ?_
  refine st_aload_n 0 ktJ5_init_d00df rfl rfl ?_
  refine st_iconst ktJ5_init_d00df rfl ?_
  refine st_put (ci := 1) (q0 := 0) (k := 1) (ty := tyJ4 1) ktJ5_init_d00df rfl rfl rfl (by decide) (st_has (n := 5001) rfl rfl) (Or.inl rfl) (tyJ4_ok 1 (by decide)) rfl (by decide) (Nat.le_of_ble_eq_true rfl) ?_
  refine st_ws (ws' := [(b, .inr (1, [.ref q2, .int (Int32.ofInt (0)), .int (Int32.ofInt (0)), .int (Int32.ofInt (0))])), (q2, .inl (D.2.2.2, (16 : Int).toNat, .inl (fun _ => 0)))]) rfl ?_
  refine st_goto (tgt := 38) ktJ5_init_d00df rfl (by decide) ?_
  exact st_ret ktJ5_init_d00df rfl rfl (by omega) (by omega) ⟨rfl, _, _, sb_fit0, rfl⟩
def mtJ4_init_da8c8 : fz_M := (yJ4_init_da8c8, prog_20_method_1_code, 1, none, [(0, .aload_n 0, 1, 0, 0, 0), (1, .bipush 16, 2, 0, 0, 0), (3, .invokespecial 1, 3, 0, 0, 0), (6, .return_, 1, 0, 0, 0)])
set_option maxRecDepth 100000 in
theorem ktJ4_init_da8c8 : fz_okK mtJ4_init_da8c8 = true := fz_okK_in (by decide +kernel)
set_option maxHeartbeats 4000000 in
set_option maxRecDepth 100000 in
theorem tt_sbInit (D : st_D) (X : st_Xt) (b : Nat) : st_R D ([], X.2) 3 1 16 mtJ4_init_da8c8 0 (lv_args 0 [.ref b]) [] [(b, .inr (1, [.null, .int (Int32.ofInt (0)), .int (Int32.ofInt (0)), .int (Int32.ofInt (0))]))] 0 0 (fun ws v => v = none ∧ ∃ (q : Nat) (f : Nat → Int32), sb_Fit f ∧ ws = [(b, .inr (1, [.ref q, .int (Int32.ofInt (0)), .int (Int32.ofInt (0)), .int (Int32.ofInt (0))])), (q, .inl (D.2.2.2, 16, .inl f))]) := by
  show st_R D ([], X.2) 3 1 16 mtJ4_init_da8c8 0 [(0, .ref b)] [] _ 0 0 _
  refine st_aload_n 0 ktJ4_init_da8c8 rfl rfl ?_
  refine st_bipush ⟨by decide, by decide⟩ ktJ4_init_da8c8 rfl ?_
  refine st_callI (x := b) (X' := ([], X.2)) (d' := 2) (NC' := 1) (NS' := 16) (M' := mtJ5_init_d00df) (n := 1) (As := [.int (Int32.ofInt (16))]) (st := []) (wc := [(b, .inr (1, [.null, .int (Int32.ofInt (0)), .int (Int32.ofInt (0)), .int (Int32.ofInt (0))]))]) (wr := []) [0] [] ktJ4_init_da8c8 rfl (st_has (n := 4227) rfl rfl) (st_has (n := 4229) rfl rfl) (st_has (n := 1017) rfl rfl) (st_has (n := 4228) rfl rfl) (by decide +kernel) rfl rfl rfl rfl (Nat.le_of_ble_eq_true rfl) (Nat.le_of_ble_eq_true rfl) (by decide) (by omega) (by omega) rfl rfl (by decide) (by decide) (by decide) ⟨rfl, fun q hq => by cases hq⟩ (tt_asbInit D X b) (fun ws1 v hq => ?_)
  obtain ⟨rfl, q1, f2, hf2, rfl⟩ := hq
  refine st_st (st' := []) rfl ?_
  refine st_ws (ws' := [(b, .inr (1, [.ref q1, .int (Int32.ofInt (0)), .int (Int32.ofInt (0)), .int (Int32.ofInt (0))])), (q1, .inl (D.2.2.2, 16, .inl f2))]) rfl ?_
  exact st_ret ktJ4_init_da8c8 rfl rfl (by omega) (by omega) ⟨rfl, _, _, hf2, rfl⟩
def mtJ5_isLatin1_aae02 : fz_M := (yJ5_isLatin1_aae02, prog_14_method_68_code, 1, (some .boolean), [(0, .getstatic 18, 3, 0, 0, 0), (3, .ifCond .eq 14, 3, 0, 0, 0), (6, .aload_n 0, 1, 0, 0, 0), (7, .getfield 22, 3, 0, 0, 0), (10, .ifCond .ne 7, 3, 0, 0, 0), (13, .iconst 1, 1, 0, 0, 0), (14, .goto 4, 3, 0, 0, 0), (17, .iconst 0, 1, 0, 0, 0), (18, .ireturn, 1, 0, 0, 0)])
set_option maxRecDepth 100000 in
theorem ktJ5_isLatin1_aae02 : fz_okK mtJ5_isLatin1_aae02 = true := fz_okK_in (by decide +kernel)
set_option maxHeartbeats 4000000 in
set_option maxRecDepth 100000 in
theorem tt_asbLatin (D : st_D) (X : st_Xt) (b q : Nat) (c : Int) : st_R D ([], X.2) 1 0 0 mtJ5_isLatin1_aae02 0 (lv_args 0 [.ref b]) [] [(b, .inr (1, [.ref q, .int (Int32.ofInt (0)), .int (Int32.ofInt (0)), .int (Int32.ofInt (c))]))] 0 0 (fun ws v => v = some (.int (Int32.ofInt (1))) ∧ ws = [(b, .inr (1, [.ref q, .int (Int32.ofInt (0)), .int (Int32.ofInt (0)), .int (Int32.ofInt (c))]))]) := by
  show st_R D ([], X.2) 1 0 0 mtJ5_isLatin1_aae02 0 [(0, .ref b)] [] _ 0 0 _
  refine st_compact (st_has (n := 4231) rfl rfl) ktJ5_isLatin1_aae02 rfl ?_
  refine st_if_eq (tgt := 17) ⟨by omega, by omega⟩ ktJ5_isLatin1_aae02 rfl (by decide) (fun c1 => False.elim (by omega)) (fun c1 => ?_)
  refine st_aload_n 0 ktJ5_isLatin1_aae02 rfl rfl ?_
  refine st_get (ci := 1) (q0 := 0) (k := 1) (v := .int (Int32.ofInt (0))) ktJ5_isLatin1_aae02 rfl rfl rfl (by decide) (st_has (n := 5001) rfl rfl) rfl ?_
  refine st_if_ne (tgt := 17) ⟨by omega, by omega⟩ ktJ5_isLatin1_aae02 rfl (by decide) (fun c2 => False.elim (by omega)) (fun c2 => ?_)
  refine st_iconst ktJ5_isLatin1_aae02 rfl ?_
  refine st_goto (tgt := 18) ktJ5_isLatin1_aae02 rfl (by decide) ?_
  exact st_ireturn (ty := .boolean) ktJ5_isLatin1_aae02 rfl rfl (st_nr_boolean (by omega)) (by omega) (by omega) ⟨rfl, rfl⟩
def mtJ0_isLatin1_aae02 : fz_M := (yJ0_isLatin1_aae02, prog_19_method_154_code, 1, (some .boolean), [(0, .getstatic 38, 3, 0, 0, 0), (3, .ifCond .eq 14, 3, 0, 0, 0), (6, .aload_n 0, 1, 0, 0, 0), (7, .getfield 15, 3, 0, 0, 0), (10, .ifCond .ne 7, 3, 0, 0, 0), (13, .iconst 1, 1, 0, 0, 0), (14, .goto 4, 3, 0, 0, 0), (17, .iconst 0, 1, 0, 0, 0), (18, .ireturn, 1, 0, 0, 0)])
set_option maxRecDepth 100000 in
theorem ktJ0_isLatin1_aae02 : fz_okK mtJ0_isLatin1_aae02 = true := fz_okK_in (by decide +kernel)
set_option maxHeartbeats 4000000 in
set_option maxRecDepth 100000 in
theorem tt_strLatin (D : st_D) (X : st_Xt) (r q n : Nat) : st_R D ([(r, q, n)], X.2) 1 0 0 mtJ0_isLatin1_aae02 0 (lv_args 0 [.ref r]) [] [] 0 0 (fun ws v => v = some (.int (Int32.ofInt (1))) ∧ ws = []) := by
  show st_R D ([(r, q, n)], X.2) 1 0 0 mtJ0_isLatin1_aae02 0 [(0, .ref r)] [] _ 0 0 _
  refine st_compact (st_has (n := 5093) rfl rfl) ktJ0_isLatin1_aae02 rfl ?_
  refine st_if_eq (tgt := 17) ⟨by omega, by omega⟩ ktJ0_isLatin1_aae02 rfl (by decide) (fun c1 => False.elim (by omega)) (fun c1 => ?_)
  refine st_aload_n 0 ktJ0_isLatin1_aae02 rfl rfl ?_
  refine st_scoder (q := q) (n := n) (by simp) (st_has (n := 5222) rfl rfl) ktJ0_isLatin1_aae02 rfl ?_
  refine st_if_ne (tgt := 17) ⟨by omega, by omega⟩ ktJ0_isLatin1_aae02 rfl (by decide) (fun c2 => False.elim (by omega)) (fun c2 => ?_)
  refine st_iconst ktJ0_isLatin1_aae02 rfl ?_
  refine st_goto (tgt := 18) ktJ0_isLatin1_aae02 rfl (by decide) ?_
  exact st_ireturn (ty := .boolean) ktJ0_isLatin1_aae02 rfl rfl (st_nr_boolean (by omega)) (by omega) (by omega) ⟨rfl, rfl⟩
def mtJ0_coder_7d493 : fz_M := (yJ0_coder_7d493, prog_19_method_152_code, 1, (some .byte), [(0, .getstatic 38, 3, 0, 0, 0), (3, .ifCond .eq 10, 3, 0, 0, 0), (6, .aload_n 0, 1, 0, 0, 0), (7, .getfield 15, 3, 0, 0, 0), (10, .goto 4, 3, 0, 0, 0), (13, .iconst 1, 1, 0, 0, 0), (14, .ireturn, 1, 0, 0, 0)])
set_option maxRecDepth 100000 in
theorem ktJ0_coder_7d493 : fz_okK mtJ0_coder_7d493 = true := fz_okK_in (by decide +kernel)
set_option maxHeartbeats 4000000 in
set_option maxRecDepth 100000 in
theorem tt_strCoder (D : st_D) (X : st_Xt) (r q n : Nat) : st_R D ([(r, q, n)], X.2) 1 0 0 mtJ0_coder_7d493 0 (lv_args 0 [.ref r]) [] [] 0 0 (fun ws v => v = some (.int (Int32.ofInt (0))) ∧ ws = []) := by
  show st_R D ([(r, q, n)], X.2) 1 0 0 mtJ0_coder_7d493 0 [(0, .ref r)] [] _ 0 0 _
  refine st_compact (st_has (n := 5093) rfl rfl) ktJ0_coder_7d493 rfl ?_
  refine st_if_eq (tgt := 13) ⟨by omega, by omega⟩ ktJ0_coder_7d493 rfl (by decide) (fun c1 => False.elim (by omega)) (fun c1 => ?_)
  refine st_aload_n 0 ktJ0_coder_7d493 rfl rfl ?_
  refine st_scoder (q := q) (n := n) (by simp) (st_has (n := 5222) rfl rfl) ktJ0_coder_7d493 rfl ?_
  refine st_goto (tgt := 14) ktJ0_coder_7d493 rfl (by decide) ?_
  exact st_ireturn (ty := .byte) ktJ0_coder_7d493 rfl rfl (st_nr_byte (by omega)) (by omega) (by omega) ⟨rfl, rfl⟩
def mtJ0_length_8abf5 : fz_M := (yJ0_length_8abf5, prog_19_method_54_code, 1, (some .int), [(0, .aload_n 0, 1, 0, 0, 0), (1, .getfield 9, 3, 0, 0, 0), (4, .arraylength, 1, 0, 0, 0), (5, .aload_n 0, 1, 0, 0, 0), (6, .invokevirtual 335, 3, 0, 0, 0), (9, .ishr, 1, 0, 0, 0), (10, .ireturn, 1, 0, 0, 0)])
set_option maxRecDepth 100000 in
theorem ktJ0_length_8abf5 : fz_okK mtJ0_length_8abf5 = true := fz_okK_in (by decide +kernel)
set_option maxHeartbeats 4000000 in
set_option maxRecDepth 100000 in
theorem tt_strLen (D : st_D) (X : st_Xt) (r q n : Nat) : st_R D ([(r, q, n)], X.2) 2 0 0 mtJ0_length_8abf5 0 (lv_args 0 [.ref r]) [] [] 0 0 (fun ws v => v = some (.int (Int32.ofInt ((n : Int)))) ∧ ws = []) := by
  show st_R D ([(r, q, n)], X.2) 2 0 0 mtJ0_length_8abf5 0 [(0, .ref r)] [] _ 0 0 _
  refine st_aload_n 0 ktJ0_length_8abf5 rfl rfl ?_
  refine st_sval (q := q) (n := n) (by simp) (st_has (n := 5221) rfl rfl) ktJ0_length_8abf5 rfl ?_
  refine st_slen (r := r) (q := q) (n := n) (by simp) ktJ0_length_8abf5 rfl (fun h1 => ?_)
  refine st_aload_n 0 ktJ0_length_8abf5 rfl rfl ?_
  refine st_callV (x := r) (Cn := "java/lang/String") (X' := ([(r, q, n)], X.2)) (d' := 1) (NC' := 0) (NS' := 0) (M' := mtJ0_coder_7d493) (n := 0) (As := []) (st := [.int (Int32.ofInt ((n : Int)))]) (wc := []) (wr := []) [] [] ktJ0_length_8abf5 rfl ⟨(st_has (n := 5089) rfl rfl), (st_has (n := 5090) rfl rfl), (st_has (n := 1019) rfl rfl), Or.inl ⟨rfl, (st_has (n := 5091) rfl rfl)⟩⟩ (st_has (n := 5092) rfl rfl) (by decide +kernel) (Or.inr ⟨rfl, q, n, by simp⟩) rfl rfl (Nat.le_of_ble_eq_true rfl) (Nat.le_of_ble_eq_true rfl) (by decide) (by omega) (by omega) rfl rfl (by decide) (by decide) (by decide) ⟨rfl, fun q hq => (by simp only [List.mem_cons, List.not_mem_nil, or_false] at hq; subst hq; exact Or.inl (by simp))⟩ (tt_strCoder D X r q (n)) (fun ws1 v hq => ?_)
  obtain ⟨rfl, rfl⟩ := hq
  refine st_st (st' := [.int (Int32.ofInt (0)), .int (Int32.ofInt ((n : Int)))]) rfl ?_
  refine st_ws (ws' := []) rfl ?_
  refine st_ishr0 ktJ0_length_8abf5 rfl ?_
  exact st_ireturn (ty := .int) ktJ0_length_8abf5 rfl rfl rfl (by omega) (by omega) ⟨rfl, rfl⟩
def mtJ3_checkIndex_8e157 : fz_M := (yJ3_checkIndex_8e157, prog_26_method_11_code, 3, (some .int), [(0, .iload_n 0, 1, 0, 0, 0), (1, .ifCond .lt 8, 3, 0, 0, 0), (4, .iload_n 0, 1, 0, 0, 0), (5, .iload_n 1, 1, 0, 0, 0), (6, .if_icmp .lt 10, 3, 0, 0, 0), (9, .aload_n 2, 1, 0, 0, 0), (10, .iload_n 0, 1, 0, 0, 0), (11, .iload_n 1, 1, 0, 0, 0), (12, .invokestatic 95, 3, 0, 0, 0), (15, .athrow, 1, 0, 0, 0), (16, .iload_n 0, 1, 0, 0, 0), (17, .ireturn, 1, 0, 0, 0)])
set_option maxRecDepth 100000 in
theorem ktJ3_checkIndex_8e157 : fz_okK mtJ3_checkIndex_8e157 = true := fz_okK_in (by decide +kernel)
set_option maxHeartbeats 4000000 in
set_option maxRecDepth 100000 in
theorem tt_pre (D : st_D) (X : st_Xt) (i : Int) (n fm : Nat) (h : 0 ≤ i ∧ i < n) (hn : n < 100000) : st_R D ([], X.2) 1 0 0 mtJ3_checkIndex_8e157 0 (lv_args 0 [.int (Int32.ofInt (i)), .int (Int32.ofInt ((n : Int))), .ref fm]) [] [] 0 0 (fun ws v => v = some (.int (Int32.ofInt (i))) ∧ ws = []) := by
  show st_R D ([], X.2) 1 0 0 mtJ3_checkIndex_8e157 0 [(0, .int (Int32.ofInt (i))), (1, .int (Int32.ofInt ((n : Int)))), (2, .ref fm)] [] _ 0 0 _
  refine st_iload_n 0 ktJ3_checkIndex_8e157 rfl rfl ?_
  refine st_if_lt (tgt := 9) ⟨by omega, by omega⟩ ktJ3_checkIndex_8e157 rfl (by decide) (fun c1 => False.elim (by omega)) (fun c1 => ?_)
  refine st_iload_n 0 ktJ3_checkIndex_8e157 rfl rfl ?_
  refine st_iload_n 1 ktJ3_checkIndex_8e157 rfl rfl ?_
  refine st_icmp_lt (tgt := 16) ⟨by omega, by omega⟩ ⟨by omega, by omega⟩ ktJ3_checkIndex_8e157 rfl (by decide) (fun c2 => ?_) (fun c2 => False.elim (by omega))
  refine st_iload_n 0 ktJ3_checkIndex_8e157 rfl rfl ?_
  exact st_ireturn (ty := .int) ktJ3_checkIndex_8e157 rfl rfl rfl (by omega) (by omega) ⟨rfl, rfl⟩
def mtJ0_checkIndex_df160 : fz_M := (yJ0_checkIndex_df160, prog_19_method_155_code, 2, none, [(0, .iload_n 0, 1, 0, 0, 0), (1, .iload_n 1, 1, 0, 0, 0), (2, .getstatic 1053, 3, 0, 0, 0), (5, .invokestatic 1059, 3, 0, 0, 0), (8, .pop, 1, 0, 0, 0), (9, .return_, 1, 0, 0, 0)])
set_option maxRecDepth 100000 in
theorem ktJ0_checkIndex_df160 : fz_okK mtJ0_checkIndex_df160 = true := fz_okK_in (by decide +kernel)
set_option maxHeartbeats 4000000 in
set_option maxRecDepth 100000 in
theorem tt_chk (D : st_D) (X : st_Xt) (i : Int) (n : Nat) (h : 0 ≤ i ∧ i < n) (hn : n < 100000) : st_R D ([], X.2) 2 0 0 mtJ0_checkIndex_df160 0 (lv_args 0 [.int (Int32.ofInt (i)), .int (Int32.ofInt ((n : Int)))]) [] [] 0 0 (fun ws v => v = none ∧ ws = []) := by
  show st_R D ([], X.2) 2 0 0 mtJ0_checkIndex_df160 0 [(0, .int (Int32.ofInt (i))), (1, .int (Int32.ofInt ((n : Int))))] [] _ 0 0 _
  refine st_iload_n 0 ktJ0_checkIndex_df160 rfl rfl ?_
  refine st_iload_n 1 ktJ0_checkIndex_df160 rfl rfl ?_
  refine st_formatter (st_has (n := 5071) rfl rfl) ktJ0_checkIndex_df160 rfl (fun q1 => ?_)
  refine st_callS (X' := ([], X.2)) (d' := 1) (NC' := 0) (NS' := 0) (M' := mtJ3_checkIndex_8e157) (n := 3) (As := [.int (Int32.ofInt (i)), .int (Int32.ofInt ((n : Int))), .ref q1]) (st := []) (wc := []) (wr := []) [] [] ktJ0_checkIndex_df160 rfl (st_has (n := 5149) rfl rfl) (st_has (n := 5151) rfl rfl) (st_has (n := 1022) rfl rfl) (st_has (n := 5150) rfl rfl) (by decide +kernel) rfl rfl (Nat.le_of_ble_eq_true rfl) (Nat.le_of_ble_eq_true rfl) (by decide) (by omega) (by omega) rfl rfl (by decide) (by decide) (by decide) ⟨rfl, fun q hq => by cases hq⟩ (tt_pre D X (i) (n) q1 (by omega) (by omega)) (fun ws1 v hq => ?_)
  obtain ⟨rfl, rfl⟩ := hq
  refine st_st (st' := [.int (Int32.ofInt (i))]) rfl ?_
  refine st_ws (ws' := []) rfl ?_
  refine st_pop rfl ktJ0_checkIndex_df160 rfl ?_
  exact st_ret ktJ0_checkIndex_df160 rfl rfl (by omega) (by omega) ⟨rfl, rfl⟩
def mtJ1_charAt_3b067 : fz_M := (yJ1_charAt_3b067, prog_21_method_2_code, 2, (some .char), [(0, .iload_n 1, 1, 0, 0, 0), (1, .aload_n 0, 1, 0, 0, 0), (2, .arraylength, 1, 0, 0, 0), (3, .invokestatic 9, 3, 0, 0, 0), (6, .aload_n 0, 1, 0, 0, 0), (7, .iload_n 1, 1, 0, 0, 0), (8, .baload, 1, 0, 0, 0), (9, .sipush 255, 3, 0, 0, 0), (12, .iand, 1, 0, 0, 0), (13, .i2c, 1, 0, 0, 0), (14, .ireturn, 1, 0, 0, 0)])
set_option maxRecDepth 100000 in
theorem ktJ1_charAt_3b067 : fz_okK mtJ1_charAt_3b067 = true := fz_okK_in (by decide +kernel)
set_option maxHeartbeats 4000000 in
set_option maxRecDepth 100000 in
theorem tt_l1At (D : st_D) (X : st_Xt) (r q n : Nat) (i : Int) (h : 0 ≤ i ∧ i < n) : st_R D ([(r, q, n)], X.2) 3 0 0 mtJ1_charAt_3b067 0 (lv_args 0 [.ref q, .int (Int32.ofInt (i))]) [] [] 0 0 (fun ws v => ∃ z : Int, (0 ≤ z ∧ z ≤ 255) ∧ v = some (.int (Int32.ofInt (z))) ∧ ws = []) := by
  show st_R D ([(r, q, n)], X.2) 3 0 0 mtJ1_charAt_3b067 0 [(0, .ref q), (1, .int (Int32.ofInt (i)))] [] _ 0 0 _
  refine st_iload_n 1 ktJ1_charAt_3b067 rfl rfl ?_
  refine st_aload_n 0 ktJ1_charAt_3b067 rfl rfl ?_
  refine st_slen (r := r) (q := q) (n := n) (by simp) ktJ1_charAt_3b067 rfl (fun h1 => ?_)
  refine st_callS (X' := ([], X.2)) (d' := 2) (NC' := 0) (NS' := 0) (M' := mtJ0_checkIndex_df160) (n := 2) (As := [.int (Int32.ofInt (i)), .int (Int32.ofInt ((n : Int)))]) (st := []) (wc := []) (wr := []) [] [] ktJ1_charAt_3b067 rfl (st_has (n := 5146) rfl rfl) (st_has (n := 5148) rfl rfl) (st_has (n := 1019) rfl rfl) (st_has (n := 5147) rfl rfl) (by decide +kernel) rfl rfl (Nat.le_of_ble_eq_true rfl) (Nat.le_of_ble_eq_true rfl) (by decide) (by omega) (by omega) rfl rfl (by decide) (by decide) (by decide) ⟨rfl, fun q hq => by cases hq⟩ (tt_chk D X (i) (n) (by omega) (by omega)) (fun ws1 v hq => ?_)
  obtain ⟨rfl, rfl⟩ := hq
  refine st_st (st' := []) rfl ?_
  refine st_ws (ws' := []) rfl ?_
  refine st_aload_n 0 ktJ1_charAt_3b067 rfl rfl ?_
  refine st_iload_n 1 ktJ1_charAt_3b067 rfl rfl ?_
  refine st_sbald (r := r) (n := n) (by simp) (by omega) ktJ1_charAt_3b067 rfl (fun z2 => ?_)
  refine st_sipush ⟨by decide, by decide⟩ ktJ1_charAt_3b067 rfl ?_
  refine st_iand ktJ1_charAt_3b067 rfl (fun z3 ez3 => ?_)
  have hz3 : 0 ≤ z3 ∧ z3 ≤ 255 := by rw [ez3]; exact st_and_m (by decide) (by decide)
  refine st_i2c (by omega) ktJ1_charAt_3b067 rfl ?_
  exact st_ireturn (ty := .char) ktJ1_charAt_3b067 rfl rfl (st_nr_char (by omega)) (by omega) (by omega) ⟨z3, hz3, rfl, rfl⟩
def mtJ0_charAt_5068e : fz_M := (yJ0_charAt_5068e, prog_19_method_56_code, 2, (some .char), [(0, .aload_n 0, 1, 0, 0, 0), (1, .invokevirtual 492, 3, 0, 0, 0), (4, .ifCond .eq 12, 3, 0, 0, 0), (7, .aload_n 0, 1, 0, 0, 0), (8, .getfield 9, 3, 0, 0, 0), (11, .iload_n 1, 1, 0, 0, 0), (12, .invokestatic 495, 3, 0, 0, 0), (15, .ireturn, 1, 0, 0, 0), (16, .aload_n 0, 1, 0, 0, 0), (17, .getfield 9, 3, 0, 0, 0), (20, .iload_n 1, 1, 0, 0, 0), (21, .invokestatic 498, 3, 0, 0, 0), (24, .ireturn, 1, 0, 0, 0)])
set_option maxRecDepth 100000 in
theorem ktJ0_charAt_5068e : fz_okK mtJ0_charAt_5068e = true := fz_okK_in (by decide +kernel)
set_option maxHeartbeats 4000000 in
set_option maxRecDepth 100000 in
theorem tt_strAt (D : st_D) (X : st_Xt) (r q n : Nat) (i : Int) (h : 0 ≤ i ∧ i < n) : st_R D ([(r, q, n)], X.2) 4 0 0 mtJ0_charAt_5068e 0 (lv_args 0 [.ref r, .int (Int32.ofInt (i))]) [] [] 0 0 (fun ws v => ∃ z : Int, (0 ≤ z ∧ z ≤ 255) ∧ v = some (.int (Int32.ofInt (z))) ∧ ws = []) := by
  show st_R D ([(r, q, n)], X.2) 4 0 0 mtJ0_charAt_5068e 0 [(0, .ref r), (1, .int (Int32.ofInt (i)))] [] _ 0 0 _
  refine st_aload_n 0 ktJ0_charAt_5068e rfl rfl ?_
  refine st_callV (x := r) (Cn := "java/lang/String") (X' := ([(r, q, n)], X.2)) (d' := 1) (NC' := 0) (NS' := 0) (M' := mtJ0_isLatin1_aae02) (n := 0) (As := []) (st := []) (wc := []) (wr := []) [] [] ktJ0_charAt_5068e rfl ⟨(st_has (n := 5139) rfl rfl), (st_has (n := 5140) rfl rfl), (st_has (n := 1019) rfl rfl), Or.inl ⟨rfl, (st_has (n := 5141) rfl rfl)⟩⟩ (st_has (n := 5142) rfl rfl) (by decide +kernel) (Or.inr ⟨rfl, q, n, by simp⟩) rfl rfl (Nat.le_of_ble_eq_true rfl) (Nat.le_of_ble_eq_true rfl) (by decide) (by omega) (by omega) rfl rfl (by decide) (by decide) (by decide) ⟨rfl, fun q hq => (by simp only [List.mem_cons, List.not_mem_nil, or_false] at hq; subst hq; exact Or.inl (by simp))⟩ (tt_strLatin D X r q (n)) (fun ws1 v hq => ?_)
  obtain ⟨rfl, rfl⟩ := hq
  refine st_st (st' := [.int (Int32.ofInt (1))]) rfl ?_
  refine st_ws (ws' := []) rfl ?_
  refine st_if_eq (tgt := 16) ⟨by omega, by omega⟩ ktJ0_charAt_5068e rfl (by decide) (fun c1 => False.elim (by omega)) (fun c1 => ?_)
  refine st_aload_n 0 ktJ0_charAt_5068e rfl rfl ?_
  refine st_sval (q := q) (n := n) (by simp) (st_has (n := 5221) rfl rfl) ktJ0_charAt_5068e rfl ?_
  refine st_iload_n 1 ktJ0_charAt_5068e rfl rfl ?_
  refine st_callS (X' := ([(r, q, n)], X.2)) (d' := 3) (NC' := 0) (NS' := 0) (M' := mtJ1_charAt_3b067) (n := 2) (As := [.ref q, .int (Int32.ofInt (i))]) (st := []) (wc := []) (wr := []) [] [] ktJ0_charAt_5068e rfl (st_has (n := 5143) rfl rfl) (st_has (n := 5145) rfl rfl) (st_has (n := 1023) rfl rfl) (st_has (n := 5144) rfl rfl) (by decide +kernel) rfl rfl (Nat.le_of_ble_eq_true rfl) (Nat.le_of_ble_eq_true rfl) (by decide) (by omega) (by omega) rfl rfl (by decide) (by decide) (by decide) ⟨rfl, fun q hq => (by simp only [List.mem_cons, List.not_mem_nil, or_false] at hq; subst hq; exact Or.inl (by simp))⟩ (tt_l1At D X r q (n) (i) (by omega)) (fun ws1 v hq => ?_)
  obtain ⟨z2, hz2, rfl, rfl⟩ := hq
  refine st_st (st' := [.int (Int32.ofInt (z2))]) rfl ?_
  refine st_ws (ws' := []) rfl ?_
  exact st_ireturn (ty := .char) ktJ0_charAt_5068e rfl rfl (st_nr_char (by omega)) (by omega) (by omega) ⟨z2, hz2, rfl, rfl⟩
def mtJ8_newLength_cabcc : fz_M := (yJ8_newLength_cabcc, prog_25_method_27_code, 4, (some .int), [(0, .iload_n 0, 1, 0, 0, 0), (1, .iload_n 1, 1, 0, 0, 0), (2, .iload_n 2, 1, 0, 0, 0), (3, .invokestatic 194, 3, 0, 0, 0), (6, .iadd, 1, 0, 0, 0), (7, .istore_n 3, 1, 0, 0, 0), (8, .iconst 0, 1, 0, 0, 0), (9, .iload_n 3, 1, 0, 0, 0), (10, .if_icmp .ge 11, 3, 0, 0, 0), (13, .iload_n 3, 1, 0, 0, 0), (14, .ldc 200, 2, 0, 0, 0), (16, .if_icmp .gt 5, 3, 0, 0, 0), (19, .iload_n 3, 1, 0, 0, 0), (20, .ireturn, 1, 0, 0, 0), (21, .iload_n 0, 1, 0, 0, 0), (22, .iload_n 1, 1, 0, 0, 0), (23, .invokestatic 201, 3, 0, 0, 0), (26, .ireturn, 1, 0, 0, 0)])
set_option maxRecDepth 100000 in
theorem ktJ8_newLength_cabcc : fz_okK mtJ8_newLength_cabcc = true := fz_okK_in (by decide +kernel)
set_option maxHeartbeats 4000000 in
set_option maxRecDepth 100000 in
theorem tt_newLen (D : st_D) (X : st_Xt) (o g p : Int) (h : 0 ≤ o ∧ o ≤ 1000 ∧ 0 < g ∧ g ≤ 1000 ∧ 0 < p ∧ p ≤ 1002) : st_R D ([], X.2) 1 0 0 mtJ8_newLength_cabcc 0 (lv_args 0 [.int (Int32.ofInt (o)), .int (Int32.ofInt (g)), .int (Int32.ofInt (p))]) [] [] 0 0 (fun ws v => v = some (.int (Int32.ofInt ((o + max g p)))) ∧ ws = []) := by
  show st_R D ([], X.2) 1 0 0 mtJ8_newLength_cabcc 0 [(0, .int (Int32.ofInt (o))), (1, .int (Int32.ofInt (g))), (2, .int (Int32.ofInt (p)))] [] _ 0 0 _
  refine st_iload_n 0 ktJ8_newLength_cabcc rfl rfl ?_
  refine st_iload_n 1 ktJ8_newLength_cabcc rfl rfl ?_
  refine st_iload_n 2 ktJ8_newLength_cabcc rfl rfl ?_
  refine st_mmax ⟨by omega, by omega⟩ ⟨by omega, by omega⟩ (st_has (n := 5036) rfl rfl) ktJ8_newLength_cabcc rfl (by decide) (Nat.le_of_ble_eq_true rfl) (by omega) (by omega) (fun z1 hz1 => ?_)
  refine st_iadd (z := (o + z1)) (fz_w_id (by omega) (by omega)) ktJ8_newLength_cabcc rfl ?_
  refine st_istore_n (ls' := [(3, .int (Int32.ofInt ((o + z1)))), (0, .int (Int32.ofInt (o))), (1, .int (Int32.ofInt (g))), (2, .int (Int32.ofInt (p)))]) ktJ8_newLength_cabcc rfl (by decide) rfl ?_
  refine st_iconst ktJ8_newLength_cabcc rfl ?_
  refine st_iload_n 0 ktJ8_newLength_cabcc rfl rfl ?_
  refine st_icmp_ge (tgt := 21) ⟨by omega, by omega⟩ ⟨by omega, by omega⟩ ktJ8_newLength_cabcc rfl (by decide) (fun c2 => False.elim (by omega)) (fun c2 => ?_)
  refine st_iload_n 0 ktJ8_newLength_cabcc rfl rfl ?_
  refine st_ldc (v := 2147483639) (st_has (n := 5037) rfl rfl) ktJ8_newLength_cabcc rfl ?_
  refine st_icmp_gt (tgt := 21) ⟨by omega, by omega⟩ ⟨by omega, by omega⟩ ktJ8_newLength_cabcc rfl (by decide) (fun c3 => False.elim (by omega)) (fun c3 => ?_)
  refine st_iload_n 0 ktJ8_newLength_cabcc rfl rfl ?_
  exact st_ireturn (ty := .int) ktJ8_newLength_cabcc rfl rfl rfl (by omega) (by omega) ⟨by rw [hz1], rfl⟩
def mtJ5_newCapacity_0f7a4 : fz_M := (yJ5_newCapacity_0f7a4, prog_14_method_10_code, 6, (some .int), [(0, .aload_n 0, 1, 0, 0, 0), (1, .getfield 15, 3, 0, 0, 0), (4, .arraylength, 1, 0, 0, 0), (5, .istore_n 2, 1, 0, 0, 0), (6, .iload_n 1, 1, 0, 0, 0), (7, .aload_n 0, 1, 0, 0, 0), (8, .getfield 22, 3, 0, 0, 0), (11, .ishl, 1, 0, 0, 0), (12, .istore_n 3, 1, 0, 0, 0), (13, .iload_n 3, 1, 0, 0, 0), (14, .iload_n 2, 1, 0, 0, 0), (15, .isub, 1, 0, 0, 0), (16, .istore 4, 2, 0, 0, 0), (18, .iload_n 2, 1, 0, 0, 0), (19, .iload 4, 2, 0, 0, 0), (21, .iload_n 2, 1, 0, 0, 0), (22, .iconst 2, 1, 0, 0, 0), (23, .aload_n 0, 1, 0, 0, 0), (24, .getfield 22, 3, 0, 0, 0), (27, .ishl, 1, 0, 0, 0), (28, .iadd, 1, 0, 0, 0), (29, .invokestatic 114, 3, 0, 0, 0), (32, .istore 5, 2, 0, 0, 0), (34, .iload 5, 2, 0, 0, 0), (36, .ldc 39, 2, 0, 0, 0), (38, .if_icmp .ne 13, 3, 0, 0, 0), (41, .new 120, 3, 0, 0, 0), (44, .dup, 1, 0, 0, 0), (45, .ldc 122, 2, 0, 0, 0), (47, .invokespecial 124, 3, 0, 0, 0), (50, .athrow, 1, 0, 0, 0), (51, .iload 5, 2, 0, 0, 0), (53, .aload_n 0, 1, 0, 0, 0), (54, .getfield 22, 3, 0, 0, 0), (57, .ishr, 1, 0, 0, 0), (58, .ireturn, 1, 0, 0, 0)])
set_option maxRecDepth 100000 in
theorem ktJ5_newCapacity_0f7a4 : fz_okK mtJ5_newCapacity_0f7a4 = true := fz_okK_in (by decide +kernel)
set_option maxHeartbeats 4000000 in
set_option maxRecDepth 100000 in
theorem tt_newCap (D : st_D) (X : st_Xt) (b q n : Nat) (c m : Int) (f : Nat → Int32) (h : (n : Int) < m ∧ m ≤ 1000) : st_R D ([], X.2) 2 0 0 mtJ5_newCapacity_0f7a4 0 (lv_args 0 [.ref b, .int (Int32.ofInt (m))]) [] [(b, .inr (1, [.ref q, .int (Int32.ofInt (0)), .int (Int32.ofInt (0)), .int (Int32.ofInt (c))])), (q, .inl (D.2.2.2, n, .inl f))] 0 0 (fun ws v => (∃ w : Int, (m ≤ w ∧ w ≤ 2002) ∧ v = some (.int (Int32.ofInt (w)))) ∧ ws = [(b, .inr (1, [.ref q, .int (Int32.ofInt (0)), .int (Int32.ofInt (0)), .int (Int32.ofInt (c))])), (q, .inl (D.2.2.2, n, .inl f))]) := by
  show st_R D ([], X.2) 2 0 0 mtJ5_newCapacity_0f7a4 0 [(0, .ref b), (1, .int (Int32.ofInt (m)))] [] _ 0 0 _
  refine st_aload_n 0 ktJ5_newCapacity_0f7a4 rfl rfl ?_
  refine st_get (ci := 1) (q0 := 0) (k := 0) (v := .ref q) ktJ5_newCapacity_0f7a4 rfl rfl rfl (by decide) (st_has (n := 5000) rfl rfl) rfl ?_
  refine st_alen (q0 := 1) ktJ5_newCapacity_0f7a4 rfl rfl ?_
  refine st_istore_n (ls' := [(2, .int (Int32.ofInt ((n : Int)))), (0, .ref b), (1, .int (Int32.ofInt (m)))]) ktJ5_newCapacity_0f7a4 rfl (by decide) rfl ?_
  refine st_iload_n 2 ktJ5_newCapacity_0f7a4 rfl rfl ?_
  refine st_aload_n 1 ktJ5_newCapacity_0f7a4 rfl rfl ?_
  refine st_get (ci := 1) (q0 := 0) (k := 1) (v := .int (Int32.ofInt (0))) ktJ5_newCapacity_0f7a4 rfl rfl rfl (by decide) (st_has (n := 5001) rfl rfl) rfl ?_
  refine st_ishl0 ktJ5_newCapacity_0f7a4 rfl ?_
  refine st_istore_n (ls' := [(3, .int (Int32.ofInt (m))), (2, .int (Int32.ofInt ((n : Int)))), (0, .ref b), (1, .int (Int32.ofInt (m)))]) ktJ5_newCapacity_0f7a4 rfl (by decide) rfl ?_
  refine st_iload_n 0 ktJ5_newCapacity_0f7a4 rfl rfl ?_
  refine st_iload_n 1 ktJ5_newCapacity_0f7a4 rfl rfl ?_
  refine st_isub (z := (m - (n : Int))) (fz_w_id (by omega) (by omega)) ktJ5_newCapacity_0f7a4 rfl ?_
  refine st_istore (ls' := [(4, .int (Int32.ofInt ((m - (n : Int))))), (3, .int (Int32.ofInt (m))), (2, .int (Int32.ofInt ((n : Int)))), (0, .ref b), (1, .int (Int32.ofInt (m)))]) ktJ5_newCapacity_0f7a4 rfl (by decide) rfl ?_
  refine st_iload_n 2 ktJ5_newCapacity_0f7a4 rfl rfl ?_
  refine st_iload 0 ktJ5_newCapacity_0f7a4 rfl rfl ?_
  refine st_iload_n 2 ktJ5_newCapacity_0f7a4 rfl rfl ?_
  refine st_iconst ktJ5_newCapacity_0f7a4 rfl ?_
  refine st_aload_n 3 ktJ5_newCapacity_0f7a4 rfl rfl ?_
  refine st_get (ci := 1) (q0 := 0) (k := 1) (v := .int (Int32.ofInt (0))) ktJ5_newCapacity_0f7a4 rfl rfl rfl (by decide) (st_has (n := 5001) rfl rfl) rfl ?_
  refine st_ishl0 ktJ5_newCapacity_0f7a4 rfl ?_
  refine st_iadd (z := ((n : Int) + 2)) (fz_w_id (by omega) (by omega)) ktJ5_newCapacity_0f7a4 rfl ?_
  refine st_callS (X' := ([], X.2)) (d' := 1) (NC' := 0) (NS' := 0) (M' := mtJ8_newLength_cabcc) (n := 3) (As := [.int (Int32.ofInt ((n : Int))), .int (Int32.ofInt ((m - (n : Int)))), .int (Int32.ofInt (((n : Int) + 2)))]) (st := []) (wc := []) (wr := [(b, .inr (1, [.ref q, .int (Int32.ofInt (0)), .int (Int32.ofInt (0)), .int (Int32.ofInt (c))])), (q, .inl (D.2.2.2, n, .inl f))]) [] [0, 1] ktJ5_newCapacity_0f7a4 rfl (st_has (n := 5033) rfl rfl) (st_has (n := 5035) rfl rfl) (st_has (n := 1021) rfl rfl) (st_has (n := 5034) rfl rfl) (by decide +kernel) rfl rfl (Nat.le_of_ble_eq_true rfl) (Nat.le_of_ble_eq_true rfl) (by decide) (by omega) (by omega) rfl rfl (by decide) (by decide) (by decide) ⟨rfl, fun q hq => by cases hq⟩ (tt_newLen D X ((n : Int)) ((m - (n : Int))) (((n : Int) + 2)) (by omega)) (fun ws1 v hq => ?_)
  obtain ⟨rfl, rfl⟩ := hq
  refine st_st (st' := [.int (Int32.ofInt (((n : Int) + max (m - (n : Int)) ((n : Int) + 2))))]) rfl ?_
  refine st_ws (ws' := [(b, .inr (1, [.ref q, .int (Int32.ofInt (0)), .int (Int32.ofInt (0)), .int (Int32.ofInt (c))])), (q, .inl (D.2.2.2, n, .inl f))]) rfl ?_
  refine st_istore (ls' := [(5, .int (Int32.ofInt (((n : Int) + max (m - (n : Int)) ((n : Int) + 2))))), (4, .int (Int32.ofInt ((m - (n : Int))))), (3, .int (Int32.ofInt (m))), (2, .int (Int32.ofInt ((n : Int)))), (0, .ref b), (1, .int (Int32.ofInt (m)))]) ktJ5_newCapacity_0f7a4 rfl (by decide) rfl ?_
  refine st_iload 0 ktJ5_newCapacity_0f7a4 rfl rfl ?_
  refine st_ldc (v := 2147483647) (st_has (n := 5041) rfl rfl) ktJ5_newCapacity_0f7a4 rfl ?_
  refine st_icmp_ne (tgt := 51) ⟨by omega, by omega⟩ ⟨by omega, by omega⟩ ktJ5_newCapacity_0f7a4 rfl (by decide) (fun c1 => ?_) (fun c1 => False.elim (by omega))
  refine st_iload 0 ktJ5_newCapacity_0f7a4 rfl rfl ?_
  refine st_aload_n 4 ktJ5_newCapacity_0f7a4 rfl rfl ?_
  refine st_get (ci := 1) (q0 := 0) (k := 1) (v := .int (Int32.ofInt (0))) ktJ5_newCapacity_0f7a4 rfl rfl rfl (by decide) (st_has (n := 5001) rfl rfl) rfl ?_
  refine st_ishr0 ktJ5_newCapacity_0f7a4 rfl ?_
  exact st_ireturn (ty := .int) ktJ5_newCapacity_0f7a4 rfl rfl rfl (by omega) (by omega) ⟨⟨_, ⟨by omega, by omega⟩, rfl⟩, rfl⟩
def mtJ7_copyOf_9075b : fz_M := (yJ7_copyOf_9075b, prog_24_method_121_code, 3, (some (.array .byte)), [(0, .iload_n 1, 1, 0, 0, 0), (1, .aload_n 0, 1, 0, 0, 0), (2, .arraylength, 1, 0, 0, 0), (3, .if_icmp .ne 11, 3, 0, 0, 0), (6, .aload_n 0, 1, 0, 0, 0), (7, .invokevirtual 310, 3, 0, 0, 0), (10, .checkcast 311, 3, 0, 0, 0), (13, .areturn, 1, 0, 0, 0), (14, .iload_n 1, 1, 0, 0, 0), (15, .newarray .byte, 2, 0, 0, 0), (17, .astore_n 2, 1, 0, 0, 0), (18, .aload_n 0, 1, 0, 0, 0), (19, .iconst 0, 1, 0, 0, 0), (20, .aload_n 2, 1, 0, 0, 0), (21, .iconst 0, 1, 0, 0, 0), (22, .aload_n 0, 1, 0, 0, 0), (23, .arraylength, 1, 0, 0, 0), (24, .iload_n 1, 1, 0, 0, 0), (25, .invokestatic 304, 3, 0, 0, 0), (28, .invokestatic 150, 3, 0, 0, 0), (31, .aload_n 2, 1, 0, 0, 0), (32, .areturn, 1, 0, 0, 0)])
set_option maxRecDepth 100000 in
theorem ktJ7_copyOf_9075b : fz_okK mtJ7_copyOf_9075b = true := fz_okK_in (by decide +kernel)
set_option maxHeartbeats 4000000 in
set_option maxRecDepth 100000 in
theorem tt_copyOf (D : st_D) (X : st_Xt) (q n : Nat) (f : Nat → Int32) (m : Int) (hf : sb_Fit f) (h : (n : Int) < m ∧ m ≤ 2002) : st_R D ([], X.2) 2 1 2002 mtJ7_copyOf_9075b 0 (lv_args 0 [.ref q, .int (Int32.ofInt (m))]) [] [(q, .inl (D.2.2.2, n, .inl f))] 0 0 (fun ws v => ∃ (q2 : Nat) (f2 : Nat → Int32), sb_Fit f2 ∧ v = some (.ref q2) ∧ ws = [(q, .inl (D.2.2.2, n, .inl f)), (q2, .inl (D.2.2.2, m.toNat, .inl f2))]) := by
  show st_R D ([], X.2) 2 1 2002 mtJ7_copyOf_9075b 0 [(0, .ref q), (1, .int (Int32.ofInt (m)))] [] _ 0 0 _
  refine st_iload_n 1 ktJ7_copyOf_9075b rfl rfl ?_
  refine st_aload_n 0 ktJ7_copyOf_9075b rfl rfl ?_
  refine st_alen (q0 := 0) ktJ7_copyOf_9075b rfl rfl ?_
  refine st_icmp_ne (tgt := 14) ⟨by omega, by omega⟩ ⟨by omega, by omega⟩ ktJ7_copyOf_9075b rfl (by decide) (fun c1 => ?_) (fun c1 => False.elim (by omega))
  refine st_iload_n 1 ktJ7_copyOf_9075b rfl rfl ?_
  refine st_newB (N := (m : Int).toNat) ktJ7_copyOf_9075b rfl (by omega) rfl (by omega) (by omega) (fun q2 => ?_)
  refine st_ws (ws' := [(q, .inl (D.2.2.2, n, .inl f)), (q2, .inl (D.2.2.2, (m : Int).toNat, .inl (fun _ => 0)))]) rfl ?_
  refine st_astore_n (ls' := [(2, .ref q2), (0, .ref q), (1, .int (Int32.ofInt (m)))]) ktJ7_copyOf_9075b rfl (by decide) rfl ?_
  refine st_aload_n 1 ktJ7_copyOf_9075b rfl rfl ?_
  refine st_iconst ktJ7_copyOf_9075b rfl ?_
  refine st_aload_n 0 ktJ7_copyOf_9075b rfl rfl ?_
  refine st_iconst ktJ7_copyOf_9075b rfl ?_
  refine st_aload_n 1 ktJ7_copyOf_9075b rfl rfl ?_
  refine st_alen (q0 := 0) ktJ7_copyOf_9075b rfl rfl ?_
  refine st_iload_n 2 ktJ7_copyOf_9075b rfl rfl ?_
  refine st_mmin ⟨by omega, by omega⟩ ⟨by omega, by omega⟩ (st_has (n := 5052) rfl rfl) ktJ7_copyOf_9075b rfl (by decide) (Nat.le_of_ble_eq_true rfl) (by omega) (by omega) (fun z3 hz3 => ?_)
  refine st_acW (q0 := 0) (q1 := 1) ktJ7_copyOf_9075b rfl (st_has (n := 5053) rfl rfl) rfl rfl hf sb_fit0 (by omega) (by omega) (by omega) (by omega) (by omega) ⟨by omega, by omega, by omega⟩ (by decide) (Nat.le_of_ble_eq_true rfl) (fun f4 hf4 => ?_)
  refine st_ws (ws' := [(q, .inl (D.2.2.2, n, .inl f)), (q2, .inl (D.2.2.2, (m : Int).toNat, .inl f4))]) rfl ?_
  refine st_aload_n 0 ktJ7_copyOf_9075b rfl rfl ?_
  exact st_areturn (ty := (.array .byte)) ktJ7_copyOf_9075b rfl rfl (Or.inr ⟨_, rfl⟩) (by omega) (by omega) ⟨_, _, hf4, rfl, rfl⟩
def mtJ5_ensureCapacityInternal_d00df : fz_M := (yJ5_ensureCapacityInternal_d00df, prog_14_method_9_code, 3, none, [(0, .aload_n 0, 1, 0, 0, 0), (1, .getfield 15, 3, 0, 0, 0), (4, .arraylength, 1, 0, 0, 0), (5, .aload_n 0, 1, 0, 0, 0), (6, .getfield 22, 3, 0, 0, 0), (9, .ishr, 1, 0, 0, 0), (10, .istore_n 2, 1, 0, 0, 0), (11, .iload_n 1, 1, 0, 0, 0), (12, .iload_n 2, 1, 0, 0, 0), (13, .isub, 1, 0, 0, 0), (14, .ifCond .le 24, 3, 0, 0, 0), (17, .aload_n 0, 1, 0, 0, 0), (18, .aload_n 0, 1, 0, 0, 0), (19, .getfield 15, 3, 0, 0, 0), (22, .aload_n 0, 1, 0, 0, 0), (23, .iload_n 1, 1, 0, 0, 0), (24, .invokevirtual 104, 3, 0, 0, 0), (27, .aload_n 0, 1, 0, 0, 0), (28, .getfield 22, 3, 0, 0, 0), (31, .ishl, 1, 0, 0, 0), (32, .invokestatic 108, 3, 0, 0, 0), (35, .putfield 15, 3, 0, 0, 0), (38, .return_, 1, 0, 0, 0)])
set_option maxRecDepth 100000 in
theorem ktJ5_ensureCapacityInternal_d00df : fz_okK mtJ5_ensureCapacityInternal_d00df = true := fz_okK_in (by decide +kernel)
set_option maxHeartbeats 4000000 in
set_option maxRecDepth 100000 in
theorem tt_ensure (D : st_D) (X : st_Xt) (b q n : Nat) (c m : Int) (f : Nat → Int32) (hf : sb_Fit f) (h : c ≤ n ∧ n ≤ 2002 ∧ 0 ≤ m ∧ m ≤ 1000) : st_R D ([], X.2) 3 1 2002 mtJ5_ensureCapacityInternal_d00df 0 (lv_args 0 [.ref b, .int (Int32.ofInt (m))]) [] [(b, .inr (1, [.ref q, .int (Int32.ofInt (0)), .int (Int32.ofInt (0)), .int (Int32.ofInt (c))])), (q, .inl (D.2.2.2, n, .inl f))] 0 0 (fun ws v => ∃ (q2 n2 : Nat) (f2 : Nat → Int32), sb_Fit f2 ∧ ((m ≤ n2 ∧ n2 ≤ 2002) ∧ c ≤ n2) ∧ v = none ∧ ws = [(b, .inr (1, [.ref q2, .int (Int32.ofInt (0)), .int (Int32.ofInt (0)), .int (Int32.ofInt (c))])), (q2, .inl (D.2.2.2, n2, .inl f2))]) := by
  show st_R D ([], X.2) 3 1 2002 mtJ5_ensureCapacityInternal_d00df 0 [(0, .ref b), (1, .int (Int32.ofInt (m)))] [] _ 0 0 _
  refine st_aload_n 0 ktJ5_ensureCapacityInternal_d00df rfl rfl ?_
  refine st_get (ci := 1) (q0 := 0) (k := 0) (v := .ref q) ktJ5_ensureCapacityInternal_d00df rfl rfl rfl (by decide) (st_has (n := 5000) rfl rfl) rfl ?_
  refine st_alen (q0 := 1) ktJ5_ensureCapacityInternal_d00df rfl rfl ?_
  refine st_aload_n 0 ktJ5_ensureCapacityInternal_d00df rfl rfl ?_
  refine st_get (ci := 1) (q0 := 0) (k := 1) (v := .int (Int32.ofInt (0))) ktJ5_ensureCapacityInternal_d00df rfl rfl rfl (by decide) (st_has (n := 5001) rfl rfl) rfl ?_
  refine st_ishr0 ktJ5_ensureCapacityInternal_d00df rfl ?_
  refine st_istore_n (ls' := [(2, .int (Int32.ofInt ((n : Int)))), (0, .ref b), (1, .int (Int32.ofInt (m)))]) ktJ5_ensureCapacityInternal_d00df rfl (by decide) rfl ?_
  refine st_iload_n 2 ktJ5_ensureCapacityInternal_d00df rfl rfl ?_
  refine st_iload_n 0 ktJ5_ensureCapacityInternal_d00df rfl rfl ?_
  refine st_isub (z := (m - (n : Int))) (fz_w_id (by omega) (by omega)) ktJ5_ensureCapacityInternal_d00df rfl ?_
  refine st_if_le (tgt := 38) ⟨by omega, by omega⟩ ktJ5_ensureCapacityInternal_d00df rfl (by decide) (fun c1 => ?_) (fun c1 => ?_)
  · exact st_ret ktJ5_ensureCapacityInternal_d00df rfl rfl (by omega) (by omega) ⟨_, _, _, hf, ⟨⟨by omega, by omega⟩, by omega⟩, rfl, rfl⟩
  · refine st_aload_n 1 ktJ5_ensureCapacityInternal_d00df rfl rfl ?_
    refine st_aload_n 1 ktJ5_ensureCapacityInternal_d00df rfl rfl ?_
    refine st_get (ci := 1) (q0 := 0) (k := 0) (v := .ref q) ktJ5_ensureCapacityInternal_d00df rfl rfl rfl (by decide) (st_has (n := 5000) rfl rfl) rfl ?_
    refine st_aload_n 1 ktJ5_ensureCapacityInternal_d00df rfl rfl ?_
    refine st_iload_n 2 ktJ5_ensureCapacityInternal_d00df rfl rfl ?_
    refine st_callV (x := b) (Cn := "java/lang/StringBuilder") (X' := ([], X.2)) (d' := 2) (NC' := 0) (NS' := 0) (M' := mtJ5_newCapacity_0f7a4) (n := 1) (As := [.int (Int32.ofInt (m))]) (st := [.ref q, .ref b]) (wc := [(b, .inr (1, [.ref q, .int (Int32.ofInt (0)), .int (Int32.ofInt (0)), .int (Int32.ofInt (c))])), (q, .inl (D.2.2.2, n, .inl f))]) (wr := []) [0, 1] [] ktJ5_ensureCapacityInternal_d00df rfl ⟨(st_has (n := 5029) rfl rfl), (st_has (n := 5031) rfl rfl), (st_has (n := 1017) rfl rfl), Or.inr ⟨(st_has (n := 6056) rfl rfl), st_hasS 1 rfl⟩⟩ (st_has (n := 5032) rfl rfl) (by decide +kernel) (Or.inl ⟨0, 1, _, _, _, rfl, rfl⟩) rfl rfl (Nat.le_of_ble_eq_true rfl) (Nat.le_of_ble_eq_true rfl) (by decide) (by omega) (by omega) rfl rfl (by decide) (by decide) (by decide) ⟨rfl, fun q hq => by cases hq⟩ (tt_newCap D X b q (n) (c) (m) f (by omega)) (fun ws1 v hq => ?_)
    obtain ⟨⟨w2, hw2, rfl⟩, rfl⟩ := hq
    refine st_st (st' := [.int (Int32.ofInt (w2)), .ref q, .ref b]) rfl ?_
    refine st_ws (ws' := [(b, .inr (1, [.ref q, .int (Int32.ofInt (0)), .int (Int32.ofInt (0)), .int (Int32.ofInt (c))])), (q, .inl (D.2.2.2, n, .inl f))]) rfl ?_
    refine st_aload_n 1 ktJ5_ensureCapacityInternal_d00df rfl rfl ?_
    refine st_get (ci := 1) (q0 := 0) (k := 1) (v := .int (Int32.ofInt (0))) ktJ5_ensureCapacityInternal_d00df rfl rfl rfl (by decide) (st_has (n := 5001) rfl rfl) rfl ?_
    refine st_ishl0 ktJ5_ensureCapacityInternal_d00df rfl ?_
    refine st_callS (X' := ([], X.2)) (d' := 2) (NC' := 1) (NS' := 2002) (M' := mtJ7_copyOf_9075b) (n := 2) (As := [.ref q, .int (Int32.ofInt (w2))]) (st := [.ref b]) (wc := [(q, .inl (D.2.2.2, n, .inl f))]) (wr := [(b, .inr (1, [.ref q, .int (Int32.ofInt (0)), .int (Int32.ofInt (0)), .int (Int32.ofInt (c))]))]) [1] [0] ktJ5_ensureCapacityInternal_d00df rfl (st_has (n := 5042) rfl rfl) (st_has (n := 5044) rfl rfl) (st_has (n := 1013) rfl rfl) (st_has (n := 5043) rfl rfl) (by decide +kernel) rfl rfl (Nat.le_of_ble_eq_true rfl) (Nat.le_of_ble_eq_true rfl) (by decide) (by omega) (by omega) rfl rfl (by decide) (by decide) (by decide) ⟨rfl, fun q hq => by cases hq⟩ (tt_copyOf D X q (n) f (w2) hf (by omega)) (fun ws1 v hq => ?_)
    obtain ⟨q3, f4, hf4, rfl, rfl⟩ := hq
    refine st_st (st' := [.ref q3, .ref b]) rfl ?_
    refine st_ws (ws' := [(b, .inr (1, [.ref q, .int (Int32.ofInt (0)), .int (Int32.ofInt (0)), .int (Int32.ofInt (c))])), (q, .inl (D.2.2.2, n, .inl f)), (q3, .inl (D.2.2.2, (w2).toNat, .inl f4))]) rfl ?_
    refine st_put (ci := 1) (q0 := 0) (k := 0) (ty := tyJ4 0) ktJ5_ensureCapacityInternal_d00df rfl rfl rfl (by decide) (st_has (n := 5000) rfl rfl) (Or.inl rfl) (tyJ4_ok 0 (by decide)) rfl rfl (Nat.le_of_ble_eq_true rfl) ?_
    refine st_ws (ws' := [(b, .inr (1, [.ref q3, .int (Int32.ofInt (0)), .int (Int32.ofInt (0)), .int (Int32.ofInt (c))])), (q, .inl (D.2.2.2, n, .inl f)), (q3, .inl (D.2.2.2, (w2).toNat, .inl f4))]) rfl ?_
    refine st_sub (ws' := [(b, .inr (1, [.ref q3, .int (Int32.ofInt (0)), .int (Int32.ofInt (0)), .int (Int32.ofInt (c))])), (q3, .inl (D.2.2.2, (w2).toNat, .inl f4))]) [0, 2] rfl (by decide) ?_
    exact st_ret ktJ5_ensureCapacityInternal_d00df rfl rfl (by omega) (by omega) ⟨_, _, _, hf4, ⟨⟨by omega, by omega⟩, by omega⟩, rfl, rfl⟩
def mtJ5_inflateIfNeededFor_a7421 : fz_M := (yJ5_inflateIfNeededFor_a7421, prog_14_method_71_code, 2, none, [(0, .getstatic 18, 3, 0, 0, 0), (3, .ifCond .eq 18, 3, 0, 0, 0), (6, .aload_n 0, 1, 0, 0, 0), (7, .getfield 22, 3, 0, 0, 0), (10, .aload_n 1, 1, 0, 0, 0), (11, .invokevirtual 40, 3, 0, 0, 0), (14, .if_icmp .eq 7, 3, 0, 0, 0), (17, .aload_n 0, 1, 0, 0, 0), (18, .invokevirtual 195, 3, 0, 0, 0), (21, .return_, 1, 0, 0, 0)])
set_option maxRecDepth 100000 in
theorem ktJ5_inflateIfNeededFor_a7421 : fz_okK mtJ5_inflateIfNeededFor_a7421 = true := fz_okK_in (by decide +kernel)
set_option maxHeartbeats 4000000 in
set_option maxRecDepth 100000 in
theorem tt_infl (D : st_D) (X : st_Xt) (b q : Nat) (c : Int) (r u k : Nat) : st_R D ([(r, u, k)], X.2) 2 0 0 mtJ5_inflateIfNeededFor_a7421 0 (lv_args 0 [.ref b, .ref r]) [] [(b, .inr (1, [.ref q, .int (Int32.ofInt (0)), .int (Int32.ofInt (0)), .int (Int32.ofInt (c))]))] 0 0 (fun ws v => v = none ∧ ws = [(b, .inr (1, [.ref q, .int (Int32.ofInt (0)), .int (Int32.ofInt (0)), .int (Int32.ofInt (c))]))]) := by
  show st_R D ([(r, u, k)], X.2) 2 0 0 mtJ5_inflateIfNeededFor_a7421 0 [(0, .ref b), (1, .ref r)] [] _ 0 0 _
  refine st_compact (st_has (n := 4231) rfl rfl) ktJ5_inflateIfNeededFor_a7421 rfl ?_
  refine st_if_eq (tgt := 21) ⟨by omega, by omega⟩ ktJ5_inflateIfNeededFor_a7421 rfl (by decide) (fun c1 => False.elim (by omega)) (fun c1 => ?_)
  refine st_aload_n 0 ktJ5_inflateIfNeededFor_a7421 rfl rfl ?_
  refine st_get (ci := 1) (q0 := 0) (k := 1) (v := .int (Int32.ofInt (0))) ktJ5_inflateIfNeededFor_a7421 rfl rfl rfl (by decide) (st_has (n := 5001) rfl rfl) rfl ?_
  refine st_aload_n 1 ktJ5_inflateIfNeededFor_a7421 rfl rfl ?_
  refine st_callV (x := r) (Cn := "java/lang/String") (X' := ([(r, u, k)], X.2)) (d' := 1) (NC' := 0) (NS' := 0) (M' := mtJ0_coder_7d493) (n := 0) (As := []) (st := [.int (Int32.ofInt (0))]) (wc := []) (wr := [(b, .inr (1, [.ref q, .int (Int32.ofInt (0)), .int (Int32.ofInt (0)), .int (Int32.ofInt (c))]))]) [] [0] ktJ5_inflateIfNeededFor_a7421 rfl ⟨(st_has (n := 5102) rfl rfl), (st_has (n := 5090) rfl rfl), (st_has (n := 1019) rfl rfl), Or.inl ⟨rfl, (st_has (n := 5091) rfl rfl)⟩⟩ (st_has (n := 5092) rfl rfl) (by decide +kernel) (Or.inr ⟨rfl, u, k, by simp⟩) rfl rfl (Nat.le_of_ble_eq_true rfl) (Nat.le_of_ble_eq_true rfl) (by decide) (by omega) (by omega) rfl rfl (by decide) (by decide) (by decide) ⟨rfl, fun q hq => (by simp only [List.mem_cons, List.not_mem_nil, or_false] at hq; subst hq; exact Or.inl (by simp))⟩ (tt_strCoder D X r u (k)) (fun ws1 v hq => ?_)
  obtain ⟨rfl, rfl⟩ := hq
  refine st_st (st' := [.int (Int32.ofInt (0)), .int (Int32.ofInt (0))]) rfl ?_
  refine st_ws (ws' := [(b, .inr (1, [.ref q, .int (Int32.ofInt (0)), .int (Int32.ofInt (0)), .int (Int32.ofInt (c))]))]) rfl ?_
  refine st_icmp_eq (tgt := 21) ⟨by omega, by omega⟩ ⟨by omega, by omega⟩ ktJ5_inflateIfNeededFor_a7421 rfl (by decide) (fun c2 => ?_) (fun c2 => False.elim (by omega))
  exact st_ret ktJ5_inflateIfNeededFor_a7421 rfl rfl (by omega) (by omega) ⟨rfl, rfl⟩
def mtJ0_getBytes_840e7 : fz_M := (yJ0_getBytes_840e7, prog_19_method_147_code, 4, none, [(0, .aload_n 0, 1, 0, 0, 0), (1, .invokevirtual 335, 3, 0, 0, 0), (4, .iload_n 3, 1, 0, 0, 0), (5, .if_icmp .ne 23, 3, 0, 0, 0), (8, .aload_n 0, 1, 0, 0, 0), (9, .getfield 9, 3, 0, 0, 0), (12, .iconst 0, 1, 0, 0, 0), (13, .aload_n 1, 1, 0, 0, 0), (14, .iload_n 2, 1, 0, 0, 0), (15, .iload_n 3, 1, 0, 0, 0), (16, .ishl, 1, 0, 0, 0), (17, .aload_n 0, 1, 0, 0, 0), (18, .getfield 9, 3, 0, 0, 0), (21, .arraylength, 1, 0, 0, 0), (22, .invokestatic 212, 3, 0, 0, 0), (25, .goto 18, 3, 0, 0, 0), (28, .aload_n 0, 1, 0, 0, 0), (29, .getfield 9, 3, 0, 0, 0), (32, .iconst 0, 1, 0, 0, 0), (33, .aload_n 1, 1, 0, 0, 0), (34, .iload_n 2, 1, 0, 0, 0), (35, .aload_n 0, 1, 0, 0, 0), (36, .getfield 9, 3, 0, 0, 0), (39, .arraylength, 1, 0, 0, 0), (40, .invokestatic 106, 3, 0, 0, 0), (43, .return_, 1, 0, 0, 0)])
set_option maxRecDepth 100000 in
theorem ktJ0_getBytes_840e7 : fz_okK mtJ0_getBytes_840e7 = true := fz_okK_in (by decide +kernel)
set_option maxHeartbeats 4000000 in
set_option maxRecDepth 100000 in
theorem tt_getB (D : st_D) (X : st_Xt) (r u k q n : Nat) (i : Int) (f : Nat → Int32) (hf : sb_Fit f) (h : 0 ≤ i ∧ i + k ≤ n ∧ n ≤ 2002) : st_R D ([(r, u, k)], X.2) 2 0 0 mtJ0_getBytes_840e7 0 (lv_args 0 [.ref r, .ref q, .int (Int32.ofInt (i)), .int (Int32.ofInt (0))]) [] [(q, .inl (D.2.2.2, n, .inl f))] 0 0 (fun ws v => ∃ f2 : Nat → Int32, sb_Fit f2 ∧ v = none ∧ ws = [(q, .inl (D.2.2.2, n, .inl f2))]) := by
  show st_R D ([(r, u, k)], X.2) 2 0 0 mtJ0_getBytes_840e7 0 [(0, .ref r), (1, .ref q), (2, .int (Int32.ofInt (i))), (3, .int (Int32.ofInt (0)))] [] _ 0 0 _
  refine st_aload_n 0 ktJ0_getBytes_840e7 rfl rfl ?_
  refine st_callV (x := r) (Cn := "java/lang/String") (X' := ([(r, u, k)], X.2)) (d' := 1) (NC' := 0) (NS' := 0) (M' := mtJ0_coder_7d493) (n := 0) (As := []) (st := []) (wc := []) (wr := [(q, .inl (D.2.2.2, n, .inl f))]) [] [0] ktJ0_getBytes_840e7 rfl ⟨(st_has (n := 5089) rfl rfl), (st_has (n := 5090) rfl rfl), (st_has (n := 1019) rfl rfl), Or.inl ⟨rfl, (st_has (n := 5091) rfl rfl)⟩⟩ (st_has (n := 5092) rfl rfl) (by decide +kernel) (Or.inr ⟨rfl, u, k, by simp⟩) rfl rfl (Nat.le_of_ble_eq_true rfl) (Nat.le_of_ble_eq_true rfl) (by decide) (by omega) (by omega) rfl rfl (by decide) (by decide) (by decide) ⟨rfl, fun q hq => (by simp only [List.mem_cons, List.not_mem_nil, or_false] at hq; subst hq; exact Or.inl (by simp))⟩ (tt_strCoder D X r u (k)) (fun ws1 v hq => ?_)
  obtain ⟨rfl, rfl⟩ := hq
  refine st_st (st' := [.int (Int32.ofInt (0))]) rfl ?_
  refine st_ws (ws' := [(q, .inl (D.2.2.2, n, .inl f))]) rfl ?_
  refine st_iload_n 3 ktJ0_getBytes_840e7 rfl rfl ?_
  refine st_icmp_ne (tgt := 28) ⟨by omega, by omega⟩ ⟨by omega, by omega⟩ ktJ0_getBytes_840e7 rfl (by decide) (fun c1 => False.elim (by omega)) (fun c1 => ?_)
  refine st_aload_n 0 ktJ0_getBytes_840e7 rfl rfl ?_
  refine st_sval (q := u) (n := k) (by simp) (st_has (n := 5221) rfl rfl) ktJ0_getBytes_840e7 rfl ?_
  refine st_iconst ktJ0_getBytes_840e7 rfl ?_
  refine st_aload_n 1 ktJ0_getBytes_840e7 rfl rfl ?_
  refine st_iload_n 2 ktJ0_getBytes_840e7 rfl rfl ?_
  refine st_iload_n 3 ktJ0_getBytes_840e7 rfl rfl ?_
  refine st_ishl0 ktJ0_getBytes_840e7 rfl ?_
  refine st_aload_n 0 ktJ0_getBytes_840e7 rfl rfl ?_
  refine st_sval (q := u) (n := k) (by simp) (st_has (n := 5221) rfl rfl) ktJ0_getBytes_840e7 rfl ?_
  refine st_slen (r := r) (q := u) (n := k) (by simp) ktJ0_getBytes_840e7 rfl (fun h2 => ?_)
  refine st_acS (r := r) (n0 := k) (q1 := 0) ktJ0_getBytes_840e7 rfl (st_has (n := 5126) rfl rfl) (by simp) rfl hf (by omega) (by omega) (by omega) (by omega) (by omega) ⟨by omega, by omega, by omega⟩ (by decide) (Nat.le_of_ble_eq_true rfl) (fun f3 hf3 => ?_)
  refine st_ws (ws' := [(q, .inl (D.2.2.2, n, .inl f3))]) rfl ?_
  refine st_goto (tgt := 43) ktJ0_getBytes_840e7 rfl (by decide) ?_
  exact st_ret ktJ0_getBytes_840e7 rfl rfl (by omega) (by omega) ⟨_, hf3, rfl, rfl⟩
def mtJ5_putStringAt_47b60 : fz_M := (yJ5_putStringAt_47b60, prog_14_method_73_code, 3, none, [(0, .aload_n 0, 1, 0, 0, 0), (1, .aload_n 2, 1, 0, 0, 0), (2, .invokevirtual 397, 3, 0, 0, 0), (5, .aload_n 2, 1, 0, 0, 0), (6, .aload_n 0, 1, 0, 0, 0), (7, .getfield 15, 3, 0, 0, 0), (10, .iload_n 1, 1, 0, 0, 0), (11, .aload_n 0, 1, 0, 0, 0), (12, .getfield 22, 3, 0, 0, 0), (15, .invokevirtual 399, 3, 0, 0, 0), (18, .return_, 1, 0, 0, 0)])
set_option maxRecDepth 100000 in
theorem ktJ5_putStringAt_47b60 : fz_okK mtJ5_putStringAt_47b60 = true := fz_okK_in (by decide +kernel)
set_option maxHeartbeats 4000000 in
set_option maxRecDepth 100000 in
theorem tt_putS (D : st_D) (X : st_Xt) (b q n : Nat) (c i : Int) (r u k : Nat) (f : Nat → Int32) (hf : sb_Fit f) (h : 0 ≤ i ∧ i + k ≤ n ∧ n ≤ 2002) : st_R D ([(r, u, k)], X.2) 3 0 0 mtJ5_putStringAt_47b60 0 (lv_args 0 [.ref b, .int (Int32.ofInt (i)), .ref r]) [] [(b, .inr (1, [.ref q, .int (Int32.ofInt (0)), .int (Int32.ofInt (0)), .int (Int32.ofInt (c))])), (q, .inl (D.2.2.2, n, .inl f))] 0 0 (fun ws v => ∃ f2 : Nat → Int32, sb_Fit f2 ∧ v = none ∧ ws = [(b, .inr (1, [.ref q, .int (Int32.ofInt (0)), .int (Int32.ofInt (0)), .int (Int32.ofInt (c))])), (q, .inl (D.2.2.2, n, .inl f2))]) := by
  show st_R D ([(r, u, k)], X.2) 3 0 0 mtJ5_putStringAt_47b60 0 [(0, .ref b), (1, .int (Int32.ofInt (i))), (2, .ref r)] [] _ 0 0 _
  refine st_aload_n 0 ktJ5_putStringAt_47b60 rfl rfl ?_
  refine st_aload_n 2 ktJ5_putStringAt_47b60 rfl rfl ?_
  refine st_callV (x := b) (Cn := "java/lang/StringBuilder") (X' := ([(r, u, k)], X.2)) (d' := 2) (NC' := 0) (NS' := 0) (M' := mtJ5_inflateIfNeededFor_a7421) (n := 1) (As := [.ref r]) (st := []) (wc := [(b, .inr (1, [.ref q, .int (Int32.ofInt (0)), .int (Int32.ofInt (0)), .int (Int32.ofInt (c))]))]) (wr := [(q, .inl (D.2.2.2, n, .inl f))]) [0] [1] ktJ5_putStringAt_47b60 rfl ⟨(st_has (n := 5098) rfl rfl), (st_has (n := 5100) rfl rfl), (st_has (n := 1017) rfl rfl), Or.inr ⟨(st_has (n := 6058) rfl rfl), st_hasS 3 rfl⟩⟩ (st_has (n := 5101) rfl rfl) (by decide +kernel) (Or.inl ⟨0, 1, _, _, _, rfl, rfl⟩) rfl rfl (Nat.le_of_ble_eq_true rfl) (Nat.le_of_ble_eq_true rfl) (by decide) (by omega) (by omega) rfl rfl (by decide) (by decide) (by decide) ⟨rfl, fun q hq => (by simp only [List.mem_cons, List.not_mem_nil, or_false] at hq; subst hq; exact Or.inl (by simp))⟩ (tt_infl D X b q (c) r u (k)) (fun ws1 v hq => ?_)
  obtain ⟨rfl, rfl⟩ := hq
  refine st_st (st' := []) rfl ?_
  refine st_ws (ws' := [(q, .inl (D.2.2.2, n, .inl f)), (b, .inr (1, [.ref q, .int (Int32.ofInt (0)), .int (Int32.ofInt (0)), .int (Int32.ofInt (c))]))]) rfl ?_
  refine st_aload_n 2 ktJ5_putStringAt_47b60 rfl rfl ?_
  refine st_aload_n 0 ktJ5_putStringAt_47b60 rfl rfl ?_
  refine st_get (ci := 1) (q0 := 1) (k := 0) (v := .ref q) ktJ5_putStringAt_47b60 rfl rfl rfl (by decide) (st_has (n := 5000) rfl rfl) rfl ?_
  refine st_iload_n 1 ktJ5_putStringAt_47b60 rfl rfl ?_
  refine st_aload_n 0 ktJ5_putStringAt_47b60 rfl rfl ?_
  refine st_get (ci := 1) (q0 := 1) (k := 1) (v := .int (Int32.ofInt (0))) ktJ5_putStringAt_47b60 rfl rfl rfl (by decide) (st_has (n := 5001) rfl rfl) rfl ?_
  refine st_callV (x := r) (Cn := "java/lang/String") (X' := ([(r, u, k)], X.2)) (d' := 2) (NC' := 0) (NS' := 0) (M' := mtJ0_getBytes_840e7) (n := 3) (As := [.ref q, .int (Int32.ofInt (i)), .int (Int32.ofInt (0))]) (st := []) (wc := [(q, .inl (D.2.2.2, n, .inl f))]) (wr := [(b, .inr (1, [.ref q, .int (Int32.ofInt (0)), .int (Int32.ofInt (0)), .int (Int32.ofInt (c))]))]) [0] [1] ktJ5_putStringAt_47b60 rfl ⟨(st_has (n := 5122) rfl rfl), (st_has (n := 5123) rfl rfl), (st_has (n := 1019) rfl rfl), Or.inl ⟨rfl, (st_has (n := 5124) rfl rfl)⟩⟩ (st_has (n := 5125) rfl rfl) (by decide +kernel) (Or.inr ⟨rfl, u, k, by simp⟩) rfl rfl (Nat.le_of_ble_eq_true rfl) (Nat.le_of_ble_eq_true rfl) (by decide) (by omega) (by omega) rfl rfl (by decide) (by decide) (by decide) ⟨rfl, fun q hq => (by simp only [List.mem_cons, List.not_mem_nil, or_false] at hq; subst hq; exact Or.inl (by simp))⟩ (tt_getB D X r u (k) q (n) (i) f hf (by omega)) (fun ws1 v hq => ?_)
  obtain ⟨f1, hf1, rfl, rfl⟩ := hq
  refine st_st (st' := []) rfl ?_
  refine st_ws (ws' := [(b, .inr (1, [.ref q, .int (Int32.ofInt (0)), .int (Int32.ofInt (0)), .int (Int32.ofInt (c))])), (q, .inl (D.2.2.2, n, .inl f1))]) rfl ?_
  exact st_ret ktJ5_putStringAt_47b60 rfl rfl (by omega) (by omega) ⟨_, hf1, rfl, rfl⟩
def mtJ5_append_cf1ce : fz_M := (yJ5_append_cf1ce, prog_14_method_22_code, 3, (some (.object "java/lang/AbstractStringBuilder")), [(0, .aload_n 1, 1, 0, 0, 0), (1, .ifnonnull 8, 3, 0, 0, 0), (4, .aload_n 0, 1, 0, 0, 0), (5, .invokevirtual 204, 3, 0, 0, 0), (8, .areturn, 1, 0, 0, 0), (9, .aload_n 1, 1, 0, 0, 0), (10, .invokevirtual 32, 3, 0, 0, 0), (13, .istore_n 2, 1, 0, 0, 0), (14, .aload_n 0, 1, 0, 0, 0), (15, .aload_n 0, 1, 0, 0, 0), (16, .getfield 79, 3, 0, 0, 0), (19, .iload_n 2, 1, 0, 0, 0), (20, .iadd, 1, 0, 0, 0), (21, .invokevirtual 100, 3, 0, 0, 0), (24, .aload_n 0, 1, 0, 0, 0), (25, .aload_n 0, 1, 0, 0, 0), (26, .getfield 79, 3, 0, 0, 0), (29, .aload_n 1, 1, 0, 0, 0), (30, .invokevirtual 208, 3, 0, 0, 0), (33, .aload_n 0, 1, 0, 0, 0), (34, .dup, 1, 0, 0, 0), (35, .getfield 79, 3, 0, 0, 0), (38, .iload_n 2, 1, 0, 0, 0), (39, .iadd, 1, 0, 0, 0), (40, .putfield 79, 3, 0, 0, 0), (43, .aload_n 0, 1, 0, 0, 0), (44, .areturn, 1, 0, 0, 0)])
set_option maxRecDepth 100000 in
theorem ktJ5_append_cf1ce : fz_okK mtJ5_append_cf1ce = true := fz_okK_in (by decide +kernel)
set_option maxHeartbeats 4000000 in
set_option maxRecDepth 100000 in
theorem tt_app4S (D : st_D) (X : st_Xt) (b q n : Nat) (c : Int) (r u k : Nat) (f : Nat → Int32) (hk : k ≤ 1000) (hf : sb_Fit f) (h : 0 ≤ c ∧ c ≤ n ∧ n ≤ 2002 ∧ c + k ≤ 1000) : st_R D ([(r, u, k)], X.2) 4 1 2002 mtJ5_append_cf1ce 0 (lv_args 0 [.ref b, .ref r]) [] [(b, .inr (1, [.ref q, .int (Int32.ofInt (0)), .int (Int32.ofInt (0)), .int (Int32.ofInt (c))])), (q, .inl (D.2.2.2, n, .inl f))] 0 0 (fun ws v => ∃ (q2 n2 : Nat) (f2 : Nat → Int32), sb_Fit f2 ∧ ((c + (k : Int)) ≤ n2 ∧ n2 ≤ 2002) ∧ v = some (.ref b) ∧ ws = [(b, .inr (1, [.ref q2, .int (Int32.ofInt (0)), .int (Int32.ofInt (0)), .int (Int32.ofInt ((c + (k : Int))))])), (q2, .inl (D.2.2.2, n2, .inl f2))]) := by
  show st_R D ([(r, u, k)], X.2) 4 1 2002 mtJ5_append_cf1ce 0 [(0, .ref b), (1, .ref r)] [] _ 0 0 _
  refine st_aload_n 1 ktJ5_append_cf1ce rfl rfl ?_
  refine st_ifnonnull (tgt := 9) ktJ5_append_cf1ce rfl (by decide) ?_
  refine st_aload_n 1 ktJ5_append_cf1ce rfl rfl ?_
  refine st_callV (x := r) (Cn := "java/lang/String") (X' := ([(r, u, k)], X.2)) (d' := 2) (NC' := 0) (NS' := 0) (M' := mtJ0_length_8abf5) (n := 0) (As := []) (st := []) (wc := []) (wr := [(b, .inr (1, [.ref q, .int (Int32.ofInt (0)), .int (Int32.ofInt (0)), .int (Int32.ofInt (c))])), (q, .inl (D.2.2.2, n, .inl f))]) [] [0, 1] ktJ5_append_cf1ce rfl ⟨(st_has (n := 5085) rfl rfl), (st_has (n := 5086) rfl rfl), (st_has (n := 1019) rfl rfl), Or.inl ⟨rfl, (st_has (n := 5087) rfl rfl)⟩⟩ (st_has (n := 5088) rfl rfl) (by decide +kernel) (Or.inr ⟨rfl, u, k, by simp⟩) rfl rfl (Nat.le_of_ble_eq_true rfl) (Nat.le_of_ble_eq_true rfl) (by decide) (by omega) (by omega) rfl rfl (by decide) (by decide) (by decide) ⟨rfl, fun q hq => (by simp only [List.mem_cons, List.not_mem_nil, or_false] at hq; subst hq; exact Or.inl (by simp))⟩ (tt_strLen D X r u (k)) (fun ws1 v hq => ?_)
  obtain ⟨rfl, rfl⟩ := hq
  refine st_st (st' := [.int (Int32.ofInt ((k : Int)))]) rfl ?_
  refine st_ws (ws' := [(b, .inr (1, [.ref q, .int (Int32.ofInt (0)), .int (Int32.ofInt (0)), .int (Int32.ofInt (c))])), (q, .inl (D.2.2.2, n, .inl f))]) rfl ?_
  refine st_istore_n (ls' := [(2, .int (Int32.ofInt ((k : Int)))), (0, .ref b), (1, .ref r)]) ktJ5_append_cf1ce rfl (by decide) rfl ?_
  refine st_aload_n 1 ktJ5_append_cf1ce rfl rfl ?_
  refine st_aload_n 1 ktJ5_append_cf1ce rfl rfl ?_
  refine st_get (ci := 1) (q0 := 0) (k := 3) (v := .int (Int32.ofInt (c))) ktJ5_append_cf1ce rfl rfl rfl (by decide) (st_has (n := 5003) rfl rfl) rfl ?_
  refine st_iload_n 0 ktJ5_append_cf1ce rfl rfl ?_
  refine st_iadd (z := (c + (k : Int))) (fz_w_id (by omega) (by omega)) ktJ5_append_cf1ce rfl ?_
  refine st_callV (x := b) (Cn := "java/lang/StringBuilder") (X' := ([], X.2)) (d' := 3) (NC' := 1) (NS' := 2002) (M' := mtJ5_ensureCapacityInternal_d00df) (n := 1) (As := [.int (Int32.ofInt ((c + (k : Int))))]) (st := []) (wc := [(b, .inr (1, [.ref q, .int (Int32.ofInt (0)), .int (Int32.ofInt (0)), .int (Int32.ofInt (c))])), (q, .inl (D.2.2.2, n, .inl f))]) (wr := []) [0, 1] [] ktJ5_append_cf1ce rfl ⟨(st_has (n := 5025) rfl rfl), (st_has (n := 5027) rfl rfl), (st_has (n := 1017) rfl rfl), Or.inr ⟨(st_has (n := 6055) rfl rfl), st_hasS 0 rfl⟩⟩ (st_has (n := 5028) rfl rfl) (by decide +kernel) (Or.inl ⟨0, 1, _, _, _, rfl, rfl⟩) rfl rfl (Nat.le_of_ble_eq_true rfl) (Nat.le_of_ble_eq_true rfl) (by decide) (by omega) (by omega) rfl rfl (by decide) (by decide) (by decide) ⟨rfl, fun q hq => by cases hq⟩ (tt_ensure D X b q (n) (c) ((c + (k : Int))) f hf (by omega)) (fun ws1 v hq => ?_)
  obtain ⟨q1, n2, f3, hf3, hn2, rfl, rfl⟩ := hq
  refine st_st (st' := []) rfl ?_
  refine st_ws (ws' := [(b, .inr (1, [.ref q1, .int (Int32.ofInt (0)), .int (Int32.ofInt (0)), .int (Int32.ofInt (c))])), (q1, .inl (D.2.2.2, n2, .inl f3))]) rfl ?_
  refine st_aload_n 1 ktJ5_append_cf1ce rfl rfl ?_
  refine st_aload_n 1 ktJ5_append_cf1ce rfl rfl ?_
  refine st_get (ci := 1) (q0 := 0) (k := 3) (v := .int (Int32.ofInt (c))) ktJ5_append_cf1ce rfl rfl rfl (by decide) (st_has (n := 5003) rfl rfl) rfl ?_
  refine st_aload_n 2 ktJ5_append_cf1ce rfl rfl ?_
  refine st_callV (x := b) (Cn := "java/lang/StringBuilder") (X' := ([(r, u, k)], X.2)) (d' := 3) (NC' := 0) (NS' := 0) (M' := mtJ5_putStringAt_47b60) (n := 2) (As := [.int (Int32.ofInt (c)), .ref r]) (st := []) (wc := [(b, .inr (1, [.ref q1, .int (Int32.ofInt (0)), .int (Int32.ofInt (0)), .int (Int32.ofInt (c))])), (q1, .inl (D.2.2.2, n2, .inl f3))]) (wr := []) [0, 1] [] ktJ5_append_cf1ce rfl ⟨(st_has (n := 5094) rfl rfl), (st_has (n := 5096) rfl rfl), (st_has (n := 1017) rfl rfl), Or.inr ⟨(st_has (n := 6057) rfl rfl), st_hasS 2 rfl⟩⟩ (st_has (n := 5097) rfl rfl) (by decide +kernel) (Or.inl ⟨0, 1, _, _, _, rfl, rfl⟩) rfl rfl (Nat.le_of_ble_eq_true rfl) (Nat.le_of_ble_eq_true rfl) (by decide) (by omega) (by omega) rfl rfl (by decide) (by decide) (by decide) ⟨rfl, fun q hq => (by simp only [List.mem_cons, List.not_mem_nil, or_false] at hq; subst hq; exact Or.inl (by simp))⟩ (tt_putS D X b q1 (n2) (c) (c) r u (k) f3 hf3 (by omega)) (fun ws1 v hq => ?_)
  obtain ⟨f4, hf4, rfl, rfl⟩ := hq
  refine st_st (st' := []) rfl ?_
  refine st_ws (ws' := [(b, .inr (1, [.ref q1, .int (Int32.ofInt (0)), .int (Int32.ofInt (0)), .int (Int32.ofInt (c))])), (q1, .inl (D.2.2.2, n2, .inl f4))]) rfl ?_
  refine st_aload_n 1 ktJ5_append_cf1ce rfl rfl ?_
  refine st_dup rfl ktJ5_append_cf1ce rfl ?_
  refine st_get (ci := 1) (q0 := 0) (k := 3) (v := .int (Int32.ofInt (c))) ktJ5_append_cf1ce rfl rfl rfl (by decide) (st_has (n := 5003) rfl rfl) rfl ?_
  refine st_iload_n 0 ktJ5_append_cf1ce rfl rfl ?_
  refine st_iadd (z := (c + (k : Int))) (fz_w_id (by omega) (by omega)) ktJ5_append_cf1ce rfl ?_
  refine st_put (ci := 1) (q0 := 0) (k := 3) (ty := tyJ4 3) ktJ5_append_cf1ce rfl rfl rfl (by decide) (st_has (n := 5003) rfl rfl) (Or.inl rfl) (tyJ4_ok 3 (by decide)) rfl rfl (Nat.le_of_ble_eq_true rfl) ?_
  refine st_ws (ws' := [(b, .inr (1, [.ref q1, .int (Int32.ofInt (0)), .int (Int32.ofInt (0)), .int (Int32.ofInt ((c + (k : Int))))])), (q1, .inl (D.2.2.2, n2, .inl f4))]) rfl ?_
  refine st_aload_n 1 ktJ5_append_cf1ce rfl rfl ?_
  exact st_areturn (ty := (.object "java/lang/AbstractStringBuilder")) ktJ5_append_cf1ce rfl rfl (Or.inl ⟨_, rfl⟩) (by omega) (by omega) ⟨_, _, _, hf4, ⟨by omega, by omega⟩, rfl, rfl⟩
def mtJ4_append_15ec4 : fz_M := (yJ4_append_15ec4, prog_20_method_7_code, 2, (some (.object "java/lang/StringBuilder")), [(0, .aload_n 0, 1, 0, 0, 0), (1, .aload_n 1, 1, 0, 0, 0), (2, .invokespecial 29, 3, 0, 0, 0), (5, .pop, 1, 0, 0, 0), (6, .aload_n 0, 1, 0, 0, 0), (7, .areturn, 1, 0, 0, 0)])
set_option maxRecDepth 100000 in
theorem ktJ4_append_15ec4 : fz_okK mtJ4_append_15ec4 = true := fz_okK_in (by decide +kernel)
set_option maxHeartbeats 4000000 in
set_option maxRecDepth 100000 in
theorem tt_app5S (D : st_D) (X : st_Xt) (b q n : Nat) (c : Int) (r u k : Nat) (f : Nat → Int32) (hk : k ≤ 1000) (hf : sb_Fit f) (h : 0 ≤ c ∧ c ≤ n ∧ n ≤ 2002 ∧ c + k ≤ 1000) : st_R D ([(r, u, k)], X.2) 5 1 2002 mtJ4_append_15ec4 0 (lv_args 0 [.ref b, .ref r]) [] [(b, .inr (1, [.ref q, .int (Int32.ofInt (0)), .int (Int32.ofInt (0)), .int (Int32.ofInt (c))])), (q, .inl (D.2.2.2, n, .inl f))] 0 0 (fun ws v => ∃ (q2 n2 : Nat) (f2 : Nat → Int32), sb_Fit f2 ∧ ((c + (k : Int)) ≤ n2 ∧ n2 ≤ 2002) ∧ v = some (.ref b) ∧ ws = [(b, .inr (1, [.ref q2, .int (Int32.ofInt (0)), .int (Int32.ofInt (0)), .int (Int32.ofInt ((c + (k : Int))))])), (q2, .inl (D.2.2.2, n2, .inl f2))]) := by
  show st_R D ([(r, u, k)], X.2) 5 1 2002 mtJ4_append_15ec4 0 [(0, .ref b), (1, .ref r)] [] _ 0 0 _
  refine st_aload_n 0 ktJ4_append_15ec4 rfl rfl ?_
  refine st_aload_n 1 ktJ4_append_15ec4 rfl rfl ?_
  refine st_callSU (x := b) (ci := 1) (q0 := 0) (X' := ([(r, u, k)], X.2)) (d' := 4) (NC' := 1) (NS' := 2002) (M' := mtJ5_append_cf1ce) (n := 1) (As := [.ref r]) (st := []) (wc := [(b, .inr (1, [.ref q, .int (Int32.ofInt (0)), .int (Int32.ofInt (0)), .int (Int32.ofInt (c))])), (q, .inl (D.2.2.2, n, .inl f))]) (wr := []) [0, 1] [] ktJ4_append_15ec4 rfl (st_has (n := 5018) rfl rfl) (st_has (n := 6053) rfl rfl) (st_has (n := 5012) rfl rfl) (st_has (n := 5019) rfl rfl) (st_has (n := 1017) rfl rfl) (st_has (n := 5020) rfl rfl) (by decide +kernel) (by decide) rfl rfl rfl rfl (Nat.le_of_ble_eq_true rfl) (Nat.le_of_ble_eq_true rfl) (by decide) (by omega) (by omega) rfl rfl (by decide) (by decide) (by decide) ⟨rfl, fun q hq => (by simp only [List.mem_cons, List.not_mem_nil, or_false] at hq; subst hq; exact Or.inl (by simp))⟩ (tt_app4S D X b q (n) (c) r u (k) f (by omega) hf (by omega)) (fun ws1 v hq => ?_)
  obtain ⟨q1, n2, f3, hf3, hn2, rfl, rfl⟩ := hq
  refine st_st (st' := [.ref b]) rfl ?_
  refine st_ws (ws' := [(b, .inr (1, [.ref q1, .int (Int32.ofInt (0)), .int (Int32.ofInt (0)), .int (Int32.ofInt ((c + (k : Int))))])), (q1, .inl (D.2.2.2, n2, .inl f3))]) rfl ?_
  refine st_pop rfl ktJ4_append_15ec4 rfl ?_
  refine st_aload_n 0 ktJ4_append_15ec4 rfl rfl ?_
  exact st_areturn (ty := (.object "java/lang/StringBuilder")) ktJ4_append_15ec4 rfl rfl (Or.inl ⟨_, rfl⟩) (by omega) (by omega) ⟨_, _, _, hf3, ⟨by omega, by omega⟩, rfl, rfl⟩
def mtJ1_canEncode_fc78d : fz_M := (yJ1_canEncode_fc78d, prog_21_method_3_code, 1, (some .boolean), [(0, .iload_n 0, 1, 0, 0, 0), (1, .sipush 255, 3, 0, 0, 0), (4, .if_icmp .gt 7, 3, 0, 0, 0), (7, .iconst 1, 1, 0, 0, 0), (8, .goto 4, 3, 0, 0, 0), (11, .iconst 0, 1, 0, 0, 0), (12, .ireturn, 1, 0, 0, 0)])
set_option maxRecDepth 100000 in
theorem ktJ1_canEncode_fc78d : fz_okK mtJ1_canEncode_fc78d = true := fz_okK_in (by decide +kernel)
set_option maxHeartbeats 4000000 in
set_option maxRecDepth 100000 in
theorem tt_can (D : st_D) (X : st_Xt) (x : Int) (h : 0 ≤ x ∧ x ≤ 255) : st_R D ([], X.2) 1 0 0 mtJ1_canEncode_fc78d 0 (lv_args 0 [.int (Int32.ofInt (x))]) [] [] 0 0 (fun ws v => v = some (.int (Int32.ofInt (1))) ∧ ws = []) := by
  show st_R D ([], X.2) 1 0 0 mtJ1_canEncode_fc78d 0 [(0, .int (Int32.ofInt (x)))] [] _ 0 0 _
  refine st_iload_n 0 ktJ1_canEncode_fc78d rfl rfl ?_
  refine st_sipush ⟨by decide, by decide⟩ ktJ1_canEncode_fc78d rfl ?_
  refine st_icmp_gt (tgt := 11) ⟨by omega, by omega⟩ ⟨by omega, by omega⟩ ktJ1_canEncode_fc78d rfl (by decide) (fun c1 => False.elim (by omega)) (fun c1 => ?_)
  refine st_iconst ktJ1_canEncode_fc78d rfl ?_
  refine st_goto (tgt := 12) ktJ1_canEncode_fc78d rfl (by decide) ?_
  exact st_ireturn (ty := .boolean) ktJ1_canEncode_fc78d rfl rfl (st_nr_boolean (by omega)) (by omega) (by omega) ⟨rfl, rfl⟩
def mtJ5_append_3fe6f : fz_M := (yJ5_append_3fe6f, prog_14_method_31_code, 2, (some (.object "java/lang/AbstractStringBuilder")), [(0, .aload_n 0, 1, 0, 0, 0), (1, .aload_n 0, 1, 0, 0, 0), (2, .getfield 79, 3, 0, 0, 0), (5, .iconst 1, 1, 0, 0, 0), (6, .iadd, 1, 0, 0, 0), (7, .invokevirtual 100, 3, 0, 0, 0), (10, .aload_n 0, 1, 0, 0, 0), (11, .invokevirtual 83, 3, 0, 0, 0), (14, .ifCond .eq 31, 3, 0, 0, 0), (17, .iload_n 1, 1, 0, 0, 0), (18, .invokestatic 191, 3, 0, 0, 0), (21, .ifCond .eq 24, 3, 0, 0, 0), (24, .aload_n 0, 1, 0, 0, 0), (25, .getfield 15, 3, 0, 0, 0), (28, .aload_n 0, 1, 0, 0, 0), (29, .dup, 1, 0, 0, 0), (30, .getfield 79, 3, 0, 0, 0), (33, .dup_x1, 1, 0, 0, 0), (34, .iconst 1, 1, 0, 0, 0), (35, .iadd, 1, 0, 0, 0), (36, .putfield 79, 3, 0, 0, 0), (39, .iload_n 1, 1, 0, 0, 0), (40, .i2b, 1, 0, 0, 0), (41, .bastore, 1, 0, 0, 0), (42, .goto 33, 3, 0, 0, 0), (45, .aload_n 0, 1, 0, 0, 0), (46, .invokevirtual 83, 3, 0, 0, 0), (49, .ifCond .eq 7, 3, 0, 0, 0), (52, .aload_n 0, 1, 0, 0, 0), (53, .invokevirtual 195, 3, 0, 0, 0), (56, .aload_n 0, 1, 0, 0, 0), (57, .getfield 15, 3, 0, 0, 0), (60, .aload_n 0, 1, 0, 0, 0), (61, .dup, 1, 0, 0, 0), (62, .getfield 79, 3, 0, 0, 0), (65, .dup_x1, 1, 0, 0, 0), (66, .iconst 1, 1, 0, 0, 0), (67, .iadd, 1, 0, 0, 0), (68, .putfield 79, 3, 0, 0, 0), (71, .iload_n 1, 1, 0, 0, 0), (72, .invokestatic 197, 3, 0, 0, 0), (75, .aload_n 0, 1, 0, 0, 0), (76, .areturn, 1, 0, 0, 0)])
set_option maxRecDepth 100000 in
theorem ktJ5_append_3fe6f : fz_okK mtJ5_append_3fe6f = true := fz_okK_in (by decide +kernel)
set_option maxHeartbeats 4000000 in
set_option maxRecDepth 100000 in
theorem tt_app4C (D : st_D) (X : st_Xt) (b q n : Nat) (c x : Int) (f : Nat → Int32) (hx : 0 ≤ x ∧ x ≤ 255) (hf : sb_Fit f) (h : 0 ≤ c ∧ c ≤ n ∧ n ≤ 2002 ∧ c + 1 ≤ 1000) : st_R D ([], X.2) 4 1 2002 mtJ5_append_3fe6f 0 (lv_args 0 [.ref b, .int (Int32.ofInt (x))]) [] [(b, .inr (1, [.ref q, .int (Int32.ofInt (0)), .int (Int32.ofInt (0)), .int (Int32.ofInt (c))])), (q, .inl (D.2.2.2, n, .inl f))] 0 0 (fun ws v => ∃ (q2 n2 : Nat) (f2 : Nat → Int32), sb_Fit f2 ∧ ((c + 1) ≤ n2 ∧ n2 ≤ 2002) ∧ v = some (.ref b) ∧ ws = [(b, .inr (1, [.ref q2, .int (Int32.ofInt (0)), .int (Int32.ofInt (0)), .int (Int32.ofInt ((c + 1)))])), (q2, .inl (D.2.2.2, n2, .inl f2))]) := by
  show st_R D ([], X.2) 4 1 2002 mtJ5_append_3fe6f 0 [(0, .ref b), (1, .int (Int32.ofInt (x)))] [] _ 0 0 _
  refine st_aload_n 0 ktJ5_append_3fe6f rfl rfl ?_
  refine st_aload_n 0 ktJ5_append_3fe6f rfl rfl ?_
  refine st_get (ci := 1) (q0 := 0) (k := 3) (v := .int (Int32.ofInt (c))) ktJ5_append_3fe6f rfl rfl rfl (by decide) (st_has (n := 5003) rfl rfl) rfl ?_
  refine st_iconst ktJ5_append_3fe6f rfl ?_
  refine st_iadd (z := (c + 1)) (fz_w_id (by omega) (by omega)) ktJ5_append_3fe6f rfl ?_
  refine st_callV (x := b) (Cn := "java/lang/StringBuilder") (X' := ([], X.2)) (d' := 3) (NC' := 1) (NS' := 2002) (M' := mtJ5_ensureCapacityInternal_d00df) (n := 1) (As := [.int (Int32.ofInt ((c + 1)))]) (st := []) (wc := [(b, .inr (1, [.ref q, .int (Int32.ofInt (0)), .int (Int32.ofInt (0)), .int (Int32.ofInt (c))])), (q, .inl (D.2.2.2, n, .inl f))]) (wr := []) [0, 1] [] ktJ5_append_3fe6f rfl ⟨(st_has (n := 5025) rfl rfl), (st_has (n := 5027) rfl rfl), (st_has (n := 1017) rfl rfl), Or.inr ⟨(st_has (n := 6055) rfl rfl), st_hasS 0 rfl⟩⟩ (st_has (n := 5028) rfl rfl) (by decide +kernel) (Or.inl ⟨0, 1, _, _, _, rfl, rfl⟩) rfl rfl (Nat.le_of_ble_eq_true rfl) (Nat.le_of_ble_eq_true rfl) (by decide) (by omega) (by omega) rfl rfl (by decide) (by decide) (by decide) ⟨rfl, fun q hq => by cases hq⟩ (tt_ensure D X b q (n) (c) ((c + 1)) f hf (by omega)) (fun ws1 v hq => ?_)
  obtain ⟨q1, n2, f3, hf3, hn2, rfl, rfl⟩ := hq
  refine st_st (st' := []) rfl ?_
  refine st_ws (ws' := [(b, .inr (1, [.ref q1, .int (Int32.ofInt (0)), .int (Int32.ofInt (0)), .int (Int32.ofInt (c))])), (q1, .inl (D.2.2.2, n2, .inl f3))]) rfl ?_
  refine st_aload_n 0 ktJ5_append_3fe6f rfl rfl ?_
  refine st_callV (x := b) (Cn := "java/lang/StringBuilder") (X' := ([], X.2)) (d' := 1) (NC' := 0) (NS' := 0) (M' := mtJ5_isLatin1_aae02) (n := 0) (As := []) (st := []) (wc := [(b, .inr (1, [.ref q1, .int (Int32.ofInt (0)), .int (Int32.ofInt (0)), .int (Int32.ofInt (c))]))]) (wr := [(q1, .inl (D.2.2.2, n2, .inl f3))]) [0] [1] ktJ5_append_3fe6f rfl ⟨(st_has (n := 5054) rfl rfl), (st_has (n := 5055) rfl rfl), (st_has (n := 1017) rfl rfl), Or.inr ⟨(st_has (n := 5056) rfl rfl), (st_has (n := 5057) rfl rfl)⟩⟩ (st_has (n := 5058) rfl rfl) (by decide +kernel) (Or.inl ⟨0, 1, _, _, _, rfl, rfl⟩) rfl rfl (Nat.le_of_ble_eq_true rfl) (Nat.le_of_ble_eq_true rfl) (by decide) (by omega) (by omega) rfl rfl (by decide) (by decide) (by decide) ⟨rfl, fun q hq => by cases hq⟩ (tt_asbLatin D X b q1 (c)) (fun ws1 v hq => ?_)
  obtain ⟨rfl, rfl⟩ := hq
  refine st_st (st' := [.int (Int32.ofInt (1))]) rfl ?_
  refine st_ws (ws' := [(q1, .inl (D.2.2.2, n2, .inl f3)), (b, .inr (1, [.ref q1, .int (Int32.ofInt (0)), .int (Int32.ofInt (0)), .int (Int32.ofInt (c))]))]) rfl ?_
  refine st_if_eq (tgt := 45) ⟨by omega, by omega⟩ ktJ5_append_3fe6f rfl (by decide) (fun c4 => False.elim (by omega)) (fun c4 => ?_)
  refine st_iload_n 1 ktJ5_append_3fe6f rfl rfl ?_
  refine st_callS (X' := ([], X.2)) (d' := 1) (NC' := 0) (NS' := 0) (M' := mtJ1_canEncode_fc78d) (n := 1) (As := [.int (Int32.ofInt (x))]) (st := []) (wc := []) (wr := [(q1, .inl (D.2.2.2, n2, .inl f3)), (b, .inr (1, [.ref q1, .int (Int32.ofInt (0)), .int (Int32.ofInt (0)), .int (Int32.ofInt (c))]))]) [] [0, 1] ktJ5_append_3fe6f rfl (st_has (n := 5169) rfl rfl) (st_has (n := 5171) rfl rfl) (st_has (n := 1023) rfl rfl) (st_has (n := 5170) rfl rfl) (by decide +kernel) rfl rfl (Nat.le_of_ble_eq_true rfl) (Nat.le_of_ble_eq_true rfl) (by decide) (by omega) (by omega) rfl rfl (by decide) (by decide) (by decide) ⟨rfl, fun q hq => by cases hq⟩ (tt_can D X (x) (by omega)) (fun ws1 v hq => ?_)
  obtain ⟨rfl, rfl⟩ := hq
  refine st_st (st' := [.int (Int32.ofInt (1))]) rfl ?_
  refine st_ws (ws' := [(q1, .inl (D.2.2.2, n2, .inl f3)), (b, .inr (1, [.ref q1, .int (Int32.ofInt (0)), .int (Int32.ofInt (0)), .int (Int32.ofInt (c))]))]) rfl ?_
  refine st_if_eq (tgt := 45) ⟨by omega, by omega⟩ ktJ5_append_3fe6f rfl (by decide) (fun c5 => False.elim (by omega)) (fun c5 => ?_)
  refine st_aload_n 0 ktJ5_append_3fe6f rfl rfl ?_
  refine st_get (ci := 1) (q0 := 1) (k := 0) (v := .ref q1) ktJ5_append_3fe6f rfl rfl rfl (by decide) (st_has (n := 5000) rfl rfl) rfl ?_
  refine st_aload_n 0 ktJ5_append_3fe6f rfl rfl ?_
  refine st_dup rfl ktJ5_append_3fe6f rfl ?_
  refine st_get (ci := 1) (q0 := 1) (k := 3) (v := .int (Int32.ofInt (c))) ktJ5_append_3fe6f rfl rfl rfl (by decide) (st_has (n := 5003) rfl rfl) rfl ?_
  refine st_dup_x1 rfl rfl ktJ5_append_3fe6f rfl ?_
  refine st_iconst ktJ5_append_3fe6f rfl ?_
  refine st_iadd (z := (c + 1)) (fz_w_id (by omega) (by omega)) ktJ5_append_3fe6f rfl ?_
  refine st_put (ci := 1) (q0 := 1) (k := 3) (ty := tyJ4 3) ktJ5_append_3fe6f rfl rfl rfl (by decide) (st_has (n := 5003) rfl rfl) (Or.inl rfl) (tyJ4_ok 3 (by decide)) rfl rfl (Nat.le_of_ble_eq_true rfl) ?_
  refine st_ws (ws' := [(q1, .inl (D.2.2.2, n2, .inl f3)), (b, .inr (1, [.ref q1, .int (Int32.ofInt (0)), .int (Int32.ofInt (0)), .int (Int32.ofInt ((c + 1)))]))]) rfl ?_
  refine st_iload_n 1 ktJ5_append_3fe6f rfl rfl ?_
  refine st_i2b ktJ5_append_3fe6f rfl ?_
  refine st_bast (q0 := 0) ktJ5_append_3fe6f rfl rfl (by omega) (by omega) hf3 (fun f6 hf6 => ?_)
  refine st_ws (ws' := [(q1, .inl (D.2.2.2, n2, .inl f6)), (b, .inr (1, [.ref q1, .int (Int32.ofInt (0)), .int (Int32.ofInt (0)), .int (Int32.ofInt ((c + 1)))]))]) rfl ?_
  refine st_goto (tgt := 75) ktJ5_append_3fe6f rfl (by decide) ?_
  refine st_aload_n 0 ktJ5_append_3fe6f rfl rfl ?_
  refine st_sub (ws' := [(b, .inr (1, [.ref q1, .int (Int32.ofInt (0)), .int (Int32.ofInt (0)), .int (Int32.ofInt ((c + 1)))])), (q1, .inl (D.2.2.2, n2, .inl f6))]) [1, 0] rfl (by decide) ?_
  exact st_areturn (ty := (.object "java/lang/AbstractStringBuilder")) ktJ5_append_3fe6f rfl rfl (Or.inl ⟨_, rfl⟩) (by omega) (by omega) ⟨_, _, _, hf6, ⟨by omega, by omega⟩, rfl, rfl⟩
def mtJ4_append_cf468 : fz_M := (yJ4_append_cf468, prog_20_method_14_code, 2, (some (.object "java/lang/StringBuilder")), [(0, .aload_n 0, 1, 0, 0, 0), (1, .iload_n 1, 1, 0, 0, 0), (2, .invokespecial 50, 3, 0, 0, 0), (5, .pop, 1, 0, 0, 0), (6, .aload_n 0, 1, 0, 0, 0), (7, .areturn, 1, 0, 0, 0)])
set_option maxRecDepth 100000 in
theorem ktJ4_append_cf468 : fz_okK mtJ4_append_cf468 = true := fz_okK_in (by decide +kernel)
set_option maxHeartbeats 4000000 in
set_option maxRecDepth 100000 in
theorem tt_app5C (D : st_D) (X : st_Xt) (b q n : Nat) (c x : Int) (f : Nat → Int32) (hx : 0 ≤ x ∧ x ≤ 255) (hf : sb_Fit f) (h : 0 ≤ c ∧ c ≤ n ∧ n ≤ 2002 ∧ c + 1 ≤ 1000) : st_R D ([], X.2) 5 1 2002 mtJ4_append_cf468 0 (lv_args 0 [.ref b, .int (Int32.ofInt (x))]) [] [(b, .inr (1, [.ref q, .int (Int32.ofInt (0)), .int (Int32.ofInt (0)), .int (Int32.ofInt (c))])), (q, .inl (D.2.2.2, n, .inl f))] 0 0 (fun ws v => ∃ (q2 n2 : Nat) (f2 : Nat → Int32), sb_Fit f2 ∧ ((c + 1) ≤ n2 ∧ n2 ≤ 2002) ∧ v = some (.ref b) ∧ ws = [(b, .inr (1, [.ref q2, .int (Int32.ofInt (0)), .int (Int32.ofInt (0)), .int (Int32.ofInt ((c + 1)))])), (q2, .inl (D.2.2.2, n2, .inl f2))]) := by
  show st_R D ([], X.2) 5 1 2002 mtJ4_append_cf468 0 [(0, .ref b), (1, .int (Int32.ofInt (x)))] [] _ 0 0 _
  refine st_aload_n 0 ktJ4_append_cf468 rfl rfl ?_
  refine st_iload_n 1 ktJ4_append_cf468 rfl rfl ?_
  refine st_callSU (x := b) (ci := 1) (q0 := 0) (X' := ([], X.2)) (d' := 4) (NC' := 1) (NS' := 2002) (M' := mtJ5_append_3fe6f) (n := 1) (As := [.int (Int32.ofInt (x))]) (st := []) (wc := [(b, .inr (1, [.ref q, .int (Int32.ofInt (0)), .int (Int32.ofInt (0)), .int (Int32.ofInt (c))])), (q, .inl (D.2.2.2, n, .inl f))]) (wr := []) [0, 1] [] ktJ4_append_cf468 rfl (st_has (n := 5166) rfl rfl) (st_has (n := 6060) rfl rfl) (st_has (n := 5012) rfl rfl) (st_has (n := 5167) rfl rfl) (st_has (n := 1017) rfl rfl) (st_has (n := 5168) rfl rfl) (by decide +kernel) (by decide) rfl rfl rfl rfl (Nat.le_of_ble_eq_true rfl) (Nat.le_of_ble_eq_true rfl) (by decide) (by omega) (by omega) rfl rfl (by decide) (by decide) (by decide) ⟨rfl, fun q hq => by cases hq⟩ (tt_app4C D X b q (n) (c) (x) f (by omega) hf (by omega)) (fun ws1 v hq => ?_)
  obtain ⟨q1, n2, f3, hf3, hn2, rfl, rfl⟩ := hq
  refine st_st (st' := [.ref b]) rfl ?_
  refine st_ws (ws' := [(b, .inr (1, [.ref q1, .int (Int32.ofInt (0)), .int (Int32.ofInt (0)), .int (Int32.ofInt ((c + 1)))])), (q1, .inl (D.2.2.2, n2, .inl f3))]) rfl ?_
  refine st_pop rfl ktJ4_append_cf468 rfl ?_
  refine st_aload_n 0 ktJ4_append_cf468 rfl rfl ?_
  exact st_areturn (ty := (.object "java/lang/StringBuilder")) ktJ4_append_cf468 rfl rfl (Or.inl ⟨_, rfl⟩) (by omega) (by omega) ⟨_, _, _, hf3, ⟨by omega, by omega⟩, rfl, rfl⟩
def mtJ6_stringSize_0f7a4 : fz_M := (yJ6_stringSize_0f7a4, prog_16_method_13_code, 4, (some .int), [(0, .iconst 1, 1, 0, 0, 0), (1, .istore_n 1, 1, 0, 0, 0), (2, .iload_n 0, 1, 0, 0, 0), (3, .ifCond .lt 8, 3, 0, 0, 0), (6, .iconst 0, 1, 0, 0, 0), (7, .istore_n 1, 1, 0, 0, 0), (8, .iload_n 0, 1, 0, 0, 0), (9, .ineg, 1, 0, 0, 0), (10, .istore_n 0, 1, 0, 0, 0), (11, .bipush (-10), 2, 0, 0, 0), (13, .istore_n 2, 1, 0, 0, 0), (14, .iconst 1, 1, 0, 0, 0), (15, .istore_n 3, 1, 0, 0, 0), (16, .iload_n 3, 1, 0, 0, 0), (17, .bipush 10, 2, 0, 0, 0), (19, .if_icmp .ge 23, 3, 0, 0, 0), (22, .iload_n 0, 1, 0, 0, 0), (23, .iload_n 2, 1, 0, 0, 0), (24, .if_icmp .le 7, 3, 0, 0, 0), (27, .iload_n 3, 1, 0, 0, 0), (28, .iload_n 1, 1, 0, 0, 0), (29, .iadd, 1, 0, 0, 0), (30, .ireturn, 1, 0, 0, 0), (31, .bipush 10, 2, 0, 0, 0), (33, .iload_n 2, 1, 0, 0, 0), (34, .imul, 1, 0, 0, 0), (35, .istore_n 2, 1, 0, 0, 0), (36, .iinc 3 1, 3, 0, 0, 0), (39, .goto (-23), 3, 0, 0, 0), (42, .bipush 10, 2, 0, 0, 0), (44, .iload_n 1, 1, 0, 0, 0), (45, .iadd, 1, 0, 0, 0), (46, .ireturn, 1, 0, 0, 0)])
set_option maxRecDepth 100000 in
theorem ktJ6_stringSize_0f7a4 : fz_okK mtJ6_stringSize_0f7a4 = true := fz_okK_in (by decide +kernel)
set_option maxHeartbeats 4000000 in
set_option maxRecDepth 100000 in
theorem tt_size (D : st_D) (X : st_Xt) (x : Int) (h : 0 ≤ x ∧ x < 30) : st_R D ([], X.2) 1 0 0 mtJ6_stringSize_0f7a4 0 (lv_args 0 [.int (Int32.ofInt (x))]) [] [] 0 0 (fun ws v => ∃ z : Int, (1 ≤ z ∧ z ≤ 2 ∧ (10 ≤ x → z = 2)) ∧ v = some (.int (Int32.ofInt (z))) ∧ ws = []) := by
  show st_R D ([], X.2) 1 0 0 mtJ6_stringSize_0f7a4 0 [(0, .int (Int32.ofInt (x)))] [] _ 0 0 _
  refine st_iconst ktJ6_stringSize_0f7a4 rfl ?_
  refine st_istore_n (ls' := [(1, .int (Int32.ofInt (1))), (0, .int (Int32.ofInt (x)))]) ktJ6_stringSize_0f7a4 rfl (by decide) rfl ?_
  refine st_iload_n 1 ktJ6_stringSize_0f7a4 rfl rfl ?_
  refine st_if_lt (tgt := 11) ⟨by omega, by omega⟩ ktJ6_stringSize_0f7a4 rfl (by decide) (fun c1 => False.elim (by omega)) (fun c1 => ?_)
  refine st_iconst ktJ6_stringSize_0f7a4 rfl ?_
  refine st_istore_n (ls' := [(1, .int (Int32.ofInt (0))), (0, .int (Int32.ofInt (x)))]) ktJ6_stringSize_0f7a4 rfl (by decide) rfl ?_
  refine st_iload_n 1 ktJ6_stringSize_0f7a4 rfl rfl ?_
  refine st_ineg (z := (- x)) (fz_w_id (by omega) (by omega)) ktJ6_stringSize_0f7a4 rfl ?_
  refine st_istore_n (ls' := [(0, .int (Int32.ofInt ((- x)))), (1, .int (Int32.ofInt (0)))]) ktJ6_stringSize_0f7a4 rfl (by decide) rfl ?_
  refine st_bipush ⟨by decide, by decide⟩ ktJ6_stringSize_0f7a4 rfl ?_
  refine st_istore_n (ls' := [(2, .int (Int32.ofInt ((-10)))), (0, .int (Int32.ofInt ((- x)))), (1, .int (Int32.ofInt (0)))]) ktJ6_stringSize_0f7a4 rfl (by decide) rfl ?_
  refine st_iconst ktJ6_stringSize_0f7a4 rfl ?_
  refine st_istore_n (ls' := [(3, .int (Int32.ofInt (1))), (2, .int (Int32.ofInt ((-10)))), (0, .int (Int32.ofInt ((- x)))), (1, .int (Int32.ofInt (0)))]) ktJ6_stringSize_0f7a4 rfl (by decide) rfl ?_
  refine st_iload_n 0 ktJ6_stringSize_0f7a4 rfl rfl ?_
  refine st_bipush ⟨by decide, by decide⟩ ktJ6_stringSize_0f7a4 rfl ?_
  refine st_icmp_ge (tgt := 42) ⟨by omega, by omega⟩ ⟨by omega, by omega⟩ ktJ6_stringSize_0f7a4 rfl (by decide) (fun c2 => False.elim (by omega)) (fun c2 => ?_)
  refine st_iload_n 2 ktJ6_stringSize_0f7a4 rfl rfl ?_
  refine st_iload_n 1 ktJ6_stringSize_0f7a4 rfl rfl ?_
  refine st_icmp_le (tgt := 31) ⟨by omega, by omega⟩ ⟨by omega, by omega⟩ ktJ6_stringSize_0f7a4 rfl (by decide) (fun c3 => ?_) (fun c3 => ?_)
  · refine st_bipush ⟨by decide, by decide⟩ ktJ6_stringSize_0f7a4 rfl ?_
    refine st_iload_n 1 ktJ6_stringSize_0f7a4 rfl rfl ?_
    refine st_imul (z := (10 * (-10))) (fz_w_id (by omega) (by omega)) ktJ6_stringSize_0f7a4 rfl ?_
    refine st_istore_n (ls' := [(2, .int (Int32.ofInt ((10 * (-10))))), (3, .int (Int32.ofInt (1))), (0, .int (Int32.ofInt ((- x)))), (1, .int (Int32.ofInt (0)))]) ktJ6_stringSize_0f7a4 rfl (by decide) rfl ?_
    refine st_iinc (k := 1) (z := (1 + 1)) (ls' := [(3, .int (Int32.ofInt ((1 + 1)))), (2, .int (Int32.ofInt ((10 * (-10))))), (0, .int (Int32.ofInt ((- x)))), (1, .int (Int32.ofInt (0)))]) (fz_w_id (by omega) (by omega)) ktJ6_stringSize_0f7a4 rfl rfl (by decide) rfl ?_
    refine st_goto (tgt := 16) ktJ6_stringSize_0f7a4 rfl (by decide) ?_
    refine st_iload_n 0 ktJ6_stringSize_0f7a4 rfl rfl ?_
    refine st_bipush ⟨by decide, by decide⟩ ktJ6_stringSize_0f7a4 rfl ?_
    refine st_icmp_ge (tgt := 42) ⟨by omega, by omega⟩ ⟨by omega, by omega⟩ ktJ6_stringSize_0f7a4 rfl (by decide) (fun c4 => False.elim (by omega)) (fun c4 => ?_)
    refine st_iload_n 2 ktJ6_stringSize_0f7a4 rfl rfl ?_
    refine st_iload_n 1 ktJ6_stringSize_0f7a4 rfl rfl ?_
    refine st_icmp_le (tgt := 31) ⟨by omega, by omega⟩ ⟨by omega, by omega⟩ ktJ6_stringSize_0f7a4 rfl (by decide) (fun c5 => False.elim (by omega)) (fun c5 => ?_)
    refine st_iload_n 0 ktJ6_stringSize_0f7a4 rfl rfl ?_
    refine st_iload_n 3 ktJ6_stringSize_0f7a4 rfl rfl ?_
    refine st_iadd (z := ((1 + 1) + 0)) (fz_w_id (by omega) (by omega)) ktJ6_stringSize_0f7a4 rfl ?_
    exact st_ireturn (ty := .int) ktJ6_stringSize_0f7a4 rfl rfl rfl (by omega) (by omega) ⟨_, ⟨by omega, by omega, fun _ => by omega⟩, rfl, rfl⟩
  · refine st_iload_n 0 ktJ6_stringSize_0f7a4 rfl rfl ?_
    refine st_iload_n 3 ktJ6_stringSize_0f7a4 rfl rfl ?_
    refine st_iadd (z := (1 + 0)) (fz_w_id (by omega) (by omega)) ktJ6_stringSize_0f7a4 rfl ?_
    exact st_ireturn (ty := .int) ktJ6_stringSize_0f7a4 rfl rfl rfl (by omega) (by omega) ⟨_, ⟨by omega, by omega, fun _ => by omega⟩, rfl, rfl⟩
def mtJ6_getChars_ba4f3 : fz_M := (yJ6_getChars_ba4f3, prog_16_method_12_code, 7, (some .int), [(0, .iload_n 1, 1, 0, 0, 0), (1, .istore 5, 2, 0, 0, 0), (3, .iload_n 0, 1, 0, 0, 0), (4, .ifCond .ge 7, 3, 0, 0, 0), (7, .iconst 1, 1, 0, 0, 0), (8, .goto 4, 3, 0, 0, 0), (11, .iconst 0, 1, 0, 0, 0), (12, .istore 6, 2, 0, 0, 0), (14, .iload 6, 2, 0, 0, 0), (16, .ifCond .ne 6, 3, 0, 0, 0), (19, .iload_n 0, 1, 0, 0, 0), (20, .ineg, 1, 0, 0, 0), (21, .istore_n 0, 1, 0, 0, 0), (22, .iload_n 0, 1, 0, 0, 0), (23, .bipush (-100), 2, 0, 0, 0), (25, .if_icmp .gt 47, 3, 0, 0, 0), (28, .iload_n 0, 1, 0, 0, 0), (29, .bipush 100, 2, 0, 0, 0), (31, .idiv, 1, 0, 0, 0), (32, .istore_n 3, 1, 0, 0, 0), (33, .iload_n 3, 1, 0, 0, 0), (34, .bipush 100, 2, 0, 0, 0), (36, .imul, 1, 0, 0, 0), (37, .iload_n 0, 1, 0, 0, 0), (38, .isub, 1, 0, 0, 0), (39, .istore 4, 2, 0, 0, 0), (41, .iload_n 3, 1, 0, 0, 0), (42, .istore_n 0, 1, 0, 0, 0), (43, .aload_n 2, 1, 0, 0, 0), (44, .iinc 5 (-1), 3, 0, 0, 0), (47, .iload 5, 2, 0, 0, 0), (49, .getstatic 83, 3, 0, 0, 0), (52, .iload 4, 2, 0, 0, 0), (54, .baload, 1, 0, 0, 0), (55, .bastore, 1, 0, 0, 0), (56, .aload_n 2, 1, 0, 0, 0), (57, .iinc 5 (-1), 3, 0, 0, 0), (60, .iload 5, 2, 0, 0, 0), (62, .getstatic 87, 3, 0, 0, 0), (65, .iload 4, 2, 0, 0, 0), (67, .baload, 1, 0, 0, 0), (68, .bastore, 1, 0, 0, 0), (69, .goto (-47), 3, 0, 0, 0), (72, .aload_n 2, 1, 0, 0, 0), (73, .iinc 5 (-1), 3, 0, 0, 0), (76, .iload 5, 2, 0, 0, 0), (78, .getstatic 83, 3, 0, 0, 0), (81, .iload_n 0, 1, 0, 0, 0), (82, .ineg, 1, 0, 0, 0), (83, .baload, 1, 0, 0, 0), (84, .bastore, 1, 0, 0, 0), (85, .iload_n 0, 1, 0, 0, 0), (86, .bipush (-9), 2, 0, 0, 0), (88, .if_icmp .ge 16, 3, 0, 0, 0), (91, .aload_n 2, 1, 0, 0, 0), (92, .iinc 5 (-1), 3, 0, 0, 0), (95, .iload 5, 2, 0, 0, 0), (97, .getstatic 87, 3, 0, 0, 0), (100, .iload_n 0, 1, 0, 0, 0), (101, .ineg, 1, 0, 0, 0), (102, .baload, 1, 0, 0, 0), (103, .bastore, 1, 0, 0, 0), (104, .iload 6, 2, 0, 0, 0), (106, .ifCond .eq 12, 3, 0, 0, 0), (109, .aload_n 2, 1, 0, 0, 0), (110, .iinc 5 (-1), 3, 0, 0, 0), (113, .iload 5, 2, 0, 0, 0), (115, .bipush 45, 2, 0, 0, 0), (117, .bastore, 1, 0, 0, 0), (118, .iload 5, 2, 0, 0, 0), (120, .ireturn, 1, 0, 0, 0)])
set_option maxRecDepth 100000 in
theorem ktJ6_getChars_ba4f3 : fz_okK mtJ6_getChars_ba4f3 = true := fz_okK_in (by decide +kernel)
set_option maxHeartbeats 4000000 in
set_option maxRecDepth 100000 in
theorem tt_gc (D : st_D) (X : st_Xt) (x i : Int) (q n : Nat) (f : Nat → Int32) (hf : sb_Fit f) (h : 0 ≤ x ∧ x < 30 ∧ 1 ≤ i ∧ (10 ≤ x → 2 ≤ i) ∧ i ≤ n ∧ n ≤ 2002) : st_R D ([], X.2) 1 0 0 mtJ6_getChars_ba4f3 0 (lv_args 0 [.int (Int32.ofInt (x)), .int (Int32.ofInt (i)), .ref q]) [] [(q, .inl (D.2.2.2, n, .inl f))] 0 0 (fun ws v => ∃ (z : Int) (f2 : Nat → Int32), sb_Fit f2 ∧ v = some (.int (Int32.ofInt (z))) ∧ ws = [(q, .inl (D.2.2.2, n, .inl f2))]) := by
  show st_R D ([], X.2) 1 0 0 mtJ6_getChars_ba4f3 0 [(0, .int (Int32.ofInt (x))), (1, .int (Int32.ofInt (i))), (2, .ref q)] [] _ 0 0 _
  refine st_iload_n 1 ktJ6_getChars_ba4f3 rfl rfl ?_
  refine st_istore (ls' := [(5, .int (Int32.ofInt (i))), (0, .int (Int32.ofInt (x))), (1, .int (Int32.ofInt (i))), (2, .ref q)]) ktJ6_getChars_ba4f3 rfl (by decide) rfl ?_
  refine st_iload_n 1 ktJ6_getChars_ba4f3 rfl rfl ?_
  refine st_if_ge (tgt := 11) ⟨by omega, by omega⟩ ktJ6_getChars_ba4f3 rfl (by decide) (fun c1 => ?_) (fun c1 => False.elim (by omega))
  refine st_iconst ktJ6_getChars_ba4f3 rfl ?_
  refine st_istore (ls' := [(6, .int (Int32.ofInt (0))), (5, .int (Int32.ofInt (i))), (0, .int (Int32.ofInt (x))), (1, .int (Int32.ofInt (i))), (2, .ref q)]) ktJ6_getChars_ba4f3 rfl (by decide) rfl ?_
  refine st_iload 0 ktJ6_getChars_ba4f3 rfl rfl ?_
  refine st_if_ne (tgt := 22) ⟨by omega, by omega⟩ ktJ6_getChars_ba4f3 rfl (by decide) (fun c2 => False.elim (by omega)) (fun c2 => ?_)
  refine st_iload_n 2 ktJ6_getChars_ba4f3 rfl rfl ?_
  refine st_ineg (z := (- x)) (fz_w_id (by omega) (by omega)) ktJ6_getChars_ba4f3 rfl ?_
  refine st_istore_n (ls' := [(0, .int (Int32.ofInt ((- x)))), (6, .int (Int32.ofInt (0))), (5, .int (Int32.ofInt (i))), (1, .int (Int32.ofInt (i))), (2, .ref q)]) ktJ6_getChars_ba4f3 rfl (by decide) rfl ?_
  refine st_iload_n 0 ktJ6_getChars_ba4f3 rfl rfl ?_
  refine st_bipush ⟨by decide, by decide⟩ ktJ6_getChars_ba4f3 rfl ?_
  refine st_icmp_gt (tgt := 72) ⟨by omega, by omega⟩ ⟨by omega, by omega⟩ ktJ6_getChars_ba4f3 rfl (by decide) (fun c3 => ?_) (fun c3 => False.elim (by omega))
  refine st_aload_n 4 ktJ6_getChars_ba4f3 rfl rfl ?_
  refine st_iinc (k := 2) (z := (i + (-1))) (ls' := [(5, .int (Int32.ofInt ((i + (-1))))), (0, .int (Int32.ofInt ((- x)))), (6, .int (Int32.ofInt (0))), (1, .int (Int32.ofInt (i))), (2, .ref q)]) (fz_w_id (by omega) (by omega)) ktJ6_getChars_ba4f3 rfl rfl (by decide) rfl ?_
  refine st_iload 0 ktJ6_getChars_ba4f3 rfl rfl ?_
  refine st_getY (n := "DigitOnes") (q := X.2.2.1.1) (Or.inl ⟨rfl, rfl⟩) (st_has (n := 6005) rfl rfl) ktJ6_getChars_ba4f3 rfl ?_
  refine st_iload_n 1 ktJ6_getChars_ba4f3 rfl rfl ?_
  refine st_ineg (z := (- (- x))) (fz_w_id (by omega) (by omega)) ktJ6_getChars_ba4f3 rfl ?_
  refine st_baldY (Or.inl rfl) (by omega) ktJ6_getChars_ba4f3 rfl (fun z4 fz4 => ?_)
  refine st_bast (q0 := 0) ktJ6_getChars_ba4f3 rfl rfl (by omega) (by omega) hf (fun f5 hf5 => ?_)
  refine st_ws (ws' := [(q, .inl (D.2.2.2, n, .inl f5))]) rfl ?_
  refine st_iload_n 1 ktJ6_getChars_ba4f3 rfl rfl ?_
  refine st_bipush ⟨by decide, by decide⟩ ktJ6_getChars_ba4f3 rfl ?_
  refine st_icmp_ge (tgt := 104) ⟨by omega, by omega⟩ ⟨by omega, by omega⟩ ktJ6_getChars_ba4f3 rfl (by decide) (fun c6 => ?_) (fun c6 => ?_)
  · refine st_iload 2 ktJ6_getChars_ba4f3 rfl rfl ?_
    refine st_if_eq (tgt := 118) ⟨by omega, by omega⟩ ktJ6_getChars_ba4f3 rfl (by decide) (fun c7 => ?_) (fun c7 => False.elim (by omega))
    refine st_iload 0 ktJ6_getChars_ba4f3 rfl rfl ?_
    exact st_ireturn (ty := .int) ktJ6_getChars_ba4f3 rfl rfl rfl (by omega) (by omega) ⟨_, _, hf5, rfl, rfl⟩
  · refine st_aload_n 4 ktJ6_getChars_ba4f3 rfl rfl ?_
    refine st_iinc (k := 0) (z := ((i + (-1)) + (-1))) (ls' := [(5, .int (Int32.ofInt (((i + (-1)) + (-1))))), (0, .int (Int32.ofInt ((- x)))), (6, .int (Int32.ofInt (0))), (1, .int (Int32.ofInt (i))), (2, .ref q)]) (fz_w_id (by omega) (by omega)) ktJ6_getChars_ba4f3 rfl rfl (by decide) rfl ?_
    refine st_iload 0 ktJ6_getChars_ba4f3 rfl rfl ?_
    refine st_getY (n := "DigitTens") (q := X.2.2.1.2) (Or.inr ⟨rfl, rfl⟩) (st_has (n := 6007) rfl rfl) ktJ6_getChars_ba4f3 rfl ?_
    refine st_iload_n 1 ktJ6_getChars_ba4f3 rfl rfl ?_
    refine st_ineg (z := (- (- x))) (fz_w_id (by omega) (by omega)) ktJ6_getChars_ba4f3 rfl ?_
    refine st_baldY (Or.inr rfl) (by omega) ktJ6_getChars_ba4f3 rfl (fun z8 fz8 => ?_)
    refine st_bast (q0 := 0) ktJ6_getChars_ba4f3 rfl rfl (by omega) (by omega) hf5 (fun f9 hf9 => ?_)
    refine st_ws (ws' := [(q, .inl (D.2.2.2, n, .inl f9))]) rfl ?_
    refine st_iload 2 ktJ6_getChars_ba4f3 rfl rfl ?_
    refine st_if_eq (tgt := 118) ⟨by omega, by omega⟩ ktJ6_getChars_ba4f3 rfl (by decide) (fun c10 => ?_) (fun c10 => False.elim (by omega))
    refine st_iload 0 ktJ6_getChars_ba4f3 rfl rfl ?_
    exact st_ireturn (ty := .int) ktJ6_getChars_ba4f3 rfl rfl rfl (by omega) (by omega) ⟨_, _, hf9, rfl, rfl⟩
def mtJ5_append_c97b9 : fz_M := (yJ5_append_c97b9, prog_14_method_32_code, 4, (some (.object "java/lang/AbstractStringBuilder")), [(0, .aload_n 0, 1, 0, 0, 0), (1, .getfield 79, 3, 0, 0, 0), (4, .istore_n 2, 1, 0, 0, 0), (5, .iload_n 2, 1, 0, 0, 0), (6, .iload_n 1, 1, 0, 0, 0), (7, .invokestatic 245, 3, 0, 0, 0), (10, .iadd, 1, 0, 0, 0), (11, .istore_n 3, 1, 0, 0, 0), (12, .aload_n 0, 1, 0, 0, 0), (13, .iload_n 3, 1, 0, 0, 0), (14, .invokevirtual 100, 3, 0, 0, 0), (17, .aload_n 0, 1, 0, 0, 0), (18, .invokevirtual 83, 3, 0, 0, 0), (21, .ifCond .eq 16, 3, 0, 0, 0), (24, .iload_n 1, 1, 0, 0, 0), (25, .iload_n 3, 1, 0, 0, 0), (26, .aload_n 0, 1, 0, 0, 0), (27, .getfield 15, 3, 0, 0, 0), (30, .invokestatic 248, 3, 0, 0, 0), (33, .pop, 1, 0, 0, 0), (34, .goto 14, 3, 0, 0, 0), (37, .iload_n 1, 1, 0, 0, 0), (38, .iload_n 2, 1, 0, 0, 0), (39, .iload_n 3, 1, 0, 0, 0), (40, .aload_n 0, 1, 0, 0, 0), (41, .getfield 15, 3, 0, 0, 0), (44, .invokestatic 251, 3, 0, 0, 0), (47, .pop, 1, 0, 0, 0), (48, .aload_n 0, 1, 0, 0, 0), (49, .iload_n 3, 1, 0, 0, 0), (50, .putfield 79, 3, 0, 0, 0), (53, .aload_n 0, 1, 0, 0, 0), (54, .areturn, 1, 0, 0, 0)])
set_option maxRecDepth 100000 in
theorem ktJ5_append_c97b9 : fz_okK mtJ5_append_c97b9 = true := fz_okK_in (by decide +kernel)
set_option maxHeartbeats 4000000 in
set_option maxRecDepth 100000 in
theorem tt_app4I (D : st_D) (X : st_Xt) (b q n : Nat) (c x : Int) (f : Nat → Int32) (hx : 0 ≤ x ∧ x < 30) (hf : sb_Fit f) (h : 0 ≤ c ∧ c ≤ n ∧ n ≤ 2002 ∧ c + 2 ≤ 1000) : st_R D ([], X.2) 4 1 2002 mtJ5_append_c97b9 0 (lv_args 0 [.ref b, .int (Int32.ofInt (x))]) [] [(b, .inr (1, [.ref q, .int (Int32.ofInt (0)), .int (Int32.ofInt (0)), .int (Int32.ofInt (c))])), (q, .inl (D.2.2.2, n, .inl f))] 0 0 (fun ws v => ∃ (q2 n2 : Nat) (c2 : Int) (f2 : Nat → Int32), sb_Fit f2 ∧ (c2 ≤ n2 ∧ n2 ≤ 2002 ∧ c ≤ c2 ∧ c2 ≤ c + 2) ∧ v = some (.ref b) ∧ ws = [(b, .inr (1, [.ref q2, .int (Int32.ofInt (0)), .int (Int32.ofInt (0)), .int (Int32.ofInt (c2))])), (q2, .inl (D.2.2.2, n2, .inl f2))]) := by
  show st_R D ([], X.2) 4 1 2002 mtJ5_append_c97b9 0 [(0, .ref b), (1, .int (Int32.ofInt (x)))] [] _ 0 0 _
  refine st_aload_n 0 ktJ5_append_c97b9 rfl rfl ?_
  refine st_get (ci := 1) (q0 := 0) (k := 3) (v := .int (Int32.ofInt (c))) ktJ5_append_c97b9 rfl rfl rfl (by decide) (st_has (n := 5003) rfl rfl) rfl ?_
  refine st_istore_n (ls' := [(2, .int (Int32.ofInt (c))), (0, .ref b), (1, .int (Int32.ofInt (x)))]) ktJ5_append_c97b9 rfl (by decide) rfl ?_
  refine st_iload_n 0 ktJ5_append_c97b9 rfl rfl ?_
  refine st_iload_n 2 ktJ5_append_c97b9 rfl rfl ?_
  refine st_callS (X' := ([], X.2)) (d' := 1) (NC' := 0) (NS' := 0) (M' := mtJ6_stringSize_0f7a4) (n := 1) (As := [.int (Int32.ofInt (x))]) (st := [.int (Int32.ofInt (c))]) (wc := []) (wr := [(b, .inr (1, [.ref q, .int (Int32.ofInt (0)), .int (Int32.ofInt (0)), .int (Int32.ofInt (c))])), (q, .inl (D.2.2.2, n, .inl f))]) [] [0, 1] ktJ5_append_c97b9 rfl (st_has (n := 5239) rfl rfl) (st_has (n := 6001) rfl rfl) (st_has (n := 1016) rfl rfl) (st_has (n := 6000) rfl rfl) (by decide +kernel) rfl rfl (Nat.le_of_ble_eq_true rfl) (Nat.le_of_ble_eq_true rfl) (by decide) (by omega) (by omega) rfl rfl (by decide) (by decide) (by decide) ⟨rfl, fun q hq => by cases hq⟩ (tt_size D X (x) (by omega)) (fun ws1 v hq => ?_)
  obtain ⟨z1, hz1, rfl, rfl⟩ := hq
  refine st_st (st' := [.int (Int32.ofInt (z1)), .int (Int32.ofInt (c))]) rfl ?_
  refine st_ws (ws' := [(b, .inr (1, [.ref q, .int (Int32.ofInt (0)), .int (Int32.ofInt (0)), .int (Int32.ofInt (c))])), (q, .inl (D.2.2.2, n, .inl f))]) rfl ?_
  refine st_iadd (z := (c + z1)) (fz_w_id (by omega) (by omega)) ktJ5_append_c97b9 rfl ?_
  refine st_istore_n (ls' := [(3, .int (Int32.ofInt ((c + z1)))), (2, .int (Int32.ofInt (c))), (0, .ref b), (1, .int (Int32.ofInt (x)))]) ktJ5_append_c97b9 rfl (by decide) rfl ?_
  refine st_aload_n 2 ktJ5_append_c97b9 rfl rfl ?_
  refine st_iload_n 0 ktJ5_append_c97b9 rfl rfl ?_
  refine st_callV (x := b) (Cn := "java/lang/StringBuilder") (X' := ([], X.2)) (d' := 3) (NC' := 1) (NS' := 2002) (M' := mtJ5_ensureCapacityInternal_d00df) (n := 1) (As := [.int (Int32.ofInt ((c + z1)))]) (st := []) (wc := [(b, .inr (1, [.ref q, .int (Int32.ofInt (0)), .int (Int32.ofInt (0)), .int (Int32.ofInt (c))])), (q, .inl (D.2.2.2, n, .inl f))]) (wr := []) [0, 1] [] ktJ5_append_c97b9 rfl ⟨(st_has (n := 5025) rfl rfl), (st_has (n := 5027) rfl rfl), (st_has (n := 1017) rfl rfl), Or.inr ⟨(st_has (n := 6055) rfl rfl), st_hasS 0 rfl⟩⟩ (st_has (n := 5028) rfl rfl) (by decide +kernel) (Or.inl ⟨0, 1, _, _, _, rfl, rfl⟩) rfl rfl (Nat.le_of_ble_eq_true rfl) (Nat.le_of_ble_eq_true rfl) (by decide) (by omega) (by omega) rfl rfl (by decide) (by decide) (by decide) ⟨rfl, fun q hq => by cases hq⟩ (tt_ensure D X b q (n) (c) ((c + z1)) f hf (by omega)) (fun ws1 v hq => ?_)
  obtain ⟨q2, n3, f4, hf4, hn3, rfl, rfl⟩ := hq
  refine st_st (st' := []) rfl ?_
  refine st_ws (ws' := [(b, .inr (1, [.ref q2, .int (Int32.ofInt (0)), .int (Int32.ofInt (0)), .int (Int32.ofInt (c))])), (q2, .inl (D.2.2.2, n3, .inl f4))]) rfl ?_
  refine st_aload_n 2 ktJ5_append_c97b9 rfl rfl ?_
  refine st_callV (x := b) (Cn := "java/lang/StringBuilder") (X' := ([], X.2)) (d' := 1) (NC' := 0) (NS' := 0) (M' := mtJ5_isLatin1_aae02) (n := 0) (As := []) (st := []) (wc := [(b, .inr (1, [.ref q2, .int (Int32.ofInt (0)), .int (Int32.ofInt (0)), .int (Int32.ofInt (c))]))]) (wr := [(q2, .inl (D.2.2.2, n3, .inl f4))]) [0] [1] ktJ5_append_c97b9 rfl ⟨(st_has (n := 5054) rfl rfl), (st_has (n := 5055) rfl rfl), (st_has (n := 1017) rfl rfl), Or.inr ⟨(st_has (n := 5056) rfl rfl), (st_has (n := 5057) rfl rfl)⟩⟩ (st_has (n := 5058) rfl rfl) (by decide +kernel) (Or.inl ⟨0, 1, _, _, _, rfl, rfl⟩) rfl rfl (Nat.le_of_ble_eq_true rfl) (Nat.le_of_ble_eq_true rfl) (by decide) (by omega) (by omega) rfl rfl (by decide) (by decide) (by decide) ⟨rfl, fun q hq => by cases hq⟩ (tt_asbLatin D X b q2 (c)) (fun ws1 v hq => ?_)
  obtain ⟨rfl, rfl⟩ := hq
  refine st_st (st' := [.int (Int32.ofInt (1))]) rfl ?_
  refine st_ws (ws' := [(q2, .inl (D.2.2.2, n3, .inl f4)), (b, .inr (1, [.ref q2, .int (Int32.ofInt (0)), .int (Int32.ofInt (0)), .int (Int32.ofInt (c))]))]) rfl ?_
  refine st_if_eq (tgt := 37) ⟨by omega, by omega⟩ ktJ5_append_c97b9 rfl (by decide) (fun c5 => False.elim (by omega)) (fun c5 => ?_)
  refine st_iload_n 3 ktJ5_append_c97b9 rfl rfl ?_
  refine st_iload_n 0 ktJ5_append_c97b9 rfl rfl ?_
  refine st_aload_n 2 ktJ5_append_c97b9 rfl rfl ?_
  refine st_get (ci := 1) (q0 := 1) (k := 0) (v := .ref q2) ktJ5_append_c97b9 rfl rfl rfl (by decide) (st_has (n := 5000) rfl rfl) rfl ?_
  refine st_callS (X' := ([], X.2)) (d' := 1) (NC' := 0) (NS' := 0) (M' := mtJ6_getChars_ba4f3) (n := 3) (As := [.int (Int32.ofInt (x)), .int (Int32.ofInt ((c + z1))), .ref q2]) (st := []) (wc := [(q2, .inl (D.2.2.2, n3, .inl f4))]) (wr := [(b, .inr (1, [.ref q2, .int (Int32.ofInt (0)), .int (Int32.ofInt (0)), .int (Int32.ofInt (c))]))]) [0] [1] ktJ5_append_c97b9 rfl (st_has (n := 6002) rfl rfl) (st_has (n := 6004) rfl rfl) (st_has (n := 1016) rfl rfl) (st_has (n := 6003) rfl rfl) (by decide +kernel) rfl rfl (Nat.le_of_ble_eq_true rfl) (Nat.le_of_ble_eq_true rfl) (by decide) (by omega) (by omega) rfl rfl (by decide) (by decide) (by decide) ⟨rfl, fun q hq => by cases hq⟩ (tt_gc D X (x) ((c + z1)) q2 (n3) f4 hf4 (by omega)) (fun ws1 v hq => ?_)
  obtain ⟨z6, f7, hf7, rfl, rfl⟩ := hq
  refine st_st (st' := [.int (Int32.ofInt (z6))]) rfl ?_
  refine st_ws (ws' := [(b, .inr (1, [.ref q2, .int (Int32.ofInt (0)), .int (Int32.ofInt (0)), .int (Int32.ofInt (c))])), (q2, .inl (D.2.2.2, n3, .inl f7))]) rfl ?_
  refine st_pop rfl ktJ5_append_c97b9 rfl ?_
  refine st_goto (tgt := 48) ktJ5_append_c97b9 rfl (by decide) ?_
  refine st_aload_n 2 ktJ5_append_c97b9 rfl rfl ?_
  refine st_iload_n 0 ktJ5_append_c97b9 rfl rfl ?_
  refine st_put (ci := 1) (q0 := 0) (k := 3) (ty := tyJ4 3) ktJ5_append_c97b9 rfl rfl rfl (by decide) (st_has (n := 5003) rfl rfl) (Or.inl rfl) (tyJ4_ok 3 (by decide)) rfl rfl (Nat.le_of_ble_eq_true rfl) ?_
  refine st_ws (ws' := [(b, .inr (1, [.ref q2, .int (Int32.ofInt (0)), .int (Int32.ofInt (0)), .int (Int32.ofInt ((c + z1)))])), (q2, .inl (D.2.2.2, n3, .inl f7))]) rfl ?_
  refine st_aload_n 2 ktJ5_append_c97b9 rfl rfl ?_
  exact st_areturn (ty := (.object "java/lang/AbstractStringBuilder")) ktJ5_append_c97b9 rfl rfl (Or.inl ⟨_, rfl⟩) (by omega) (by omega) ⟨_, _, _, _, hf7, ⟨by omega, by omega, by omega, by omega⟩, rfl, rfl⟩
def mtJ4_append_bf812 : fz_M := (yJ4_append_bf812, prog_20_method_15_code, 2, (some (.object "java/lang/StringBuilder")), [(0, .aload_n 0, 1, 0, 0, 0), (1, .iload_n 1, 1, 0, 0, 0), (2, .invokespecial 53, 3, 0, 0, 0), (5, .pop, 1, 0, 0, 0), (6, .aload_n 0, 1, 0, 0, 0), (7, .areturn, 1, 0, 0, 0)])
set_option maxRecDepth 100000 in
theorem ktJ4_append_bf812 : fz_okK mtJ4_append_bf812 = true := fz_okK_in (by decide +kernel)
set_option maxHeartbeats 4000000 in
set_option maxRecDepth 100000 in
theorem tt_app5I (D : st_D) (X : st_Xt) (b q n : Nat) (c x : Int) (f : Nat → Int32) (hx : 0 ≤ x ∧ x < 30) (hf : sb_Fit f) (h : 0 ≤ c ∧ c ≤ n ∧ n ≤ 2002 ∧ c + 2 ≤ 1000) : st_R D ([], X.2) 5 1 2002 mtJ4_append_bf812 0 (lv_args 0 [.ref b, .int (Int32.ofInt (x))]) [] [(b, .inr (1, [.ref q, .int (Int32.ofInt (0)), .int (Int32.ofInt (0)), .int (Int32.ofInt (c))])), (q, .inl (D.2.2.2, n, .inl f))] 0 0 (fun ws v => ∃ (q2 n2 : Nat) (c2 : Int) (f2 : Nat → Int32), sb_Fit f2 ∧ (c2 ≤ n2 ∧ n2 ≤ 2002 ∧ c ≤ c2 ∧ c2 ≤ c + 2) ∧ v = some (.ref b) ∧ ws = [(b, .inr (1, [.ref q2, .int (Int32.ofInt (0)), .int (Int32.ofInt (0)), .int (Int32.ofInt (c2))])), (q2, .inl (D.2.2.2, n2, .inl f2))]) := by
  show st_R D ([], X.2) 5 1 2002 mtJ4_append_bf812 0 [(0, .ref b), (1, .int (Int32.ofInt (x)))] [] _ 0 0 _
  refine st_aload_n 0 ktJ4_append_bf812 rfl rfl ?_
  refine st_iload_n 1 ktJ4_append_bf812 rfl rfl ?_
  refine st_callSU (x := b) (ci := 1) (q0 := 0) (X' := ([], X.2)) (d' := 4) (NC' := 1) (NS' := 2002) (M' := mtJ5_append_c97b9) (n := 1) (As := [.int (Int32.ofInt (x))]) (st := []) (wc := [(b, .inr (1, [.ref q, .int (Int32.ofInt (0)), .int (Int32.ofInt (0)), .int (Int32.ofInt (c))])), (q, .inl (D.2.2.2, n, .inl f))]) (wr := []) [0, 1] [] ktJ4_append_bf812 rfl (st_has (n := 5236) rfl rfl) (st_has (n := 6061) rfl rfl) (st_has (n := 5012) rfl rfl) (st_has (n := 5237) rfl rfl) (st_has (n := 1017) rfl rfl) (st_has (n := 5238) rfl rfl) (by decide +kernel) (by decide) rfl rfl rfl rfl (Nat.le_of_ble_eq_true rfl) (Nat.le_of_ble_eq_true rfl) (by decide) (by omega) (by omega) rfl rfl (by decide) (by decide) (by decide) ⟨rfl, fun q hq => by cases hq⟩ (tt_app4I D X b q (n) (c) (x) f (by omega) hf (by omega)) (fun ws1 v hq => ?_)
  obtain ⟨q1, n2, c4, f3, hf3, hn2, rfl, rfl⟩ := hq
  refine st_st (st' := [.ref b]) rfl ?_
  refine st_ws (ws' := [(b, .inr (1, [.ref q1, .int (Int32.ofInt (0)), .int (Int32.ofInt (0)), .int (Int32.ofInt (c4))])), (q1, .inl (D.2.2.2, n2, .inl f3))]) rfl ?_
  refine st_pop rfl ktJ4_append_bf812 rfl ?_
  refine st_aload_n 0 ktJ4_append_bf812 rfl rfl ?_
  exact st_areturn (ty := (.object "java/lang/StringBuilder")) ktJ4_append_bf812 rfl rfl (Or.inl ⟨_, rfl⟩) (by omega) (by omega) ⟨_, _, _, _, hf3, ⟨by omega, by omega, by omega, by omega⟩, rfl, rfl⟩
def mtJ5_getValue_6d5f1 : fz_M := (yJ5_getValue_6d5f1, prog_14_method_64_code, 1, (some (.array .byte)), [(0, .aload_n 0, 1, 0, 0, 0), (1, .getfield 15, 3, 0, 0, 0), (4, .areturn, 1, 0, 0, 0)])
set_option maxRecDepth 100000 in
theorem ktJ5_getValue_6d5f1 : fz_okK mtJ5_getValue_6d5f1 = true := fz_okK_in (by decide +kernel)
set_option maxHeartbeats 4000000 in
set_option maxRecDepth 100000 in
theorem tt_getV (D : st_D) (X : st_Xt) (b q : Nat) (c : Int) : st_R D ([], X.2) 1 0 0 mtJ5_getValue_6d5f1 0 (lv_args 0 [.ref b]) [] [(b, .inr (1, [.ref q, .int (Int32.ofInt (0)), .int (Int32.ofInt (0)), .int (Int32.ofInt (c))]))] 0 0 (fun ws v => v = some (.ref q) ∧ ws = [(b, .inr (1, [.ref q, .int (Int32.ofInt (0)), .int (Int32.ofInt (0)), .int (Int32.ofInt (c))]))]) := by
  show st_R D ([], X.2) 1 0 0 mtJ5_getValue_6d5f1 0 [(0, .ref b)] [] _ 0 0 _
  refine st_aload_n 0 ktJ5_getValue_6d5f1 rfl rfl ?_
  refine st_get (ci := 1) (q0 := 0) (k := 0) (v := .ref q) ktJ5_getValue_6d5f1 rfl rfl rfl (by decide) (st_has (n := 5000) rfl rfl) rfl ?_
  exact st_areturn (ty := (.array .byte)) ktJ5_getValue_6d5f1 rfl rfl (Or.inr ⟨_, rfl⟩) (by omega) (by omega) ⟨rfl, rfl⟩
def mtJ5_length_8abf5 : fz_M := (yJ5_length_8abf5, prog_14_method_6_code, 1, (some .int), [(0, .aload_n 0, 1, 0, 0, 0), (1, .getfield 79, 3, 0, 0, 0), (4, .ireturn, 1, 0, 0, 0)])
set_option maxRecDepth 100000 in
theorem ktJ5_length_8abf5 : fz_okK mtJ5_length_8abf5 = true := fz_okK_in (by decide +kernel)
set_option maxHeartbeats 4000000 in
set_option maxRecDepth 100000 in
theorem tt_asbLen (D : st_D) (X : st_Xt) (b q : Nat) (c : Int) : st_R D ([], X.2) 1 0 0 mtJ5_length_8abf5 0 (lv_args 0 [.ref b]) [] [(b, .inr (1, [.ref q, .int (Int32.ofInt (0)), .int (Int32.ofInt (0)), .int (Int32.ofInt (c))]))] 0 0 (fun ws v => v = some (.int (Int32.ofInt (c))) ∧ ws = [(b, .inr (1, [.ref q, .int (Int32.ofInt (0)), .int (Int32.ofInt (0)), .int (Int32.ofInt (c))]))]) := by
  show st_R D ([], X.2) 1 0 0 mtJ5_length_8abf5 0 [(0, .ref b)] [] _ 0 0 _
  refine st_aload_n 0 ktJ5_length_8abf5 rfl rfl ?_
  refine st_get (ci := 1) (q0 := 0) (k := 3) (v := .int (Int32.ofInt (c))) ktJ5_length_8abf5 rfl rfl rfl (by decide) (st_has (n := 5003) rfl rfl) rfl ?_
  exact st_ireturn (ty := .int) ktJ5_length_8abf5 rfl rfl rfl (by omega) (by omega) ⟨rfl, rfl⟩
def mtJ4_length_8abf5 : fz_M := (yJ4_length_8abf5, prog_20_method_93_code, 1, (some .int), [(0, .aload_n 0, 1, 0, 0, 0), (1, .invokespecial 343, 3, 0, 0, 0), (4, .ireturn, 1, 0, 0, 0)])
set_option maxRecDepth 100000 in
theorem ktJ4_length_8abf5 : fz_okK mtJ4_length_8abf5 = true := fz_okK_in (by decide +kernel)
set_option maxHeartbeats 4000000 in
set_option maxRecDepth 100000 in
theorem tt_sbLen (D : st_D) (X : st_Xt) (b q : Nat) (c : Int) : st_R D ([], X.2) 2 0 0 mtJ4_length_8abf5 0 (lv_args 0 [.ref b]) [] [(b, .inr (1, [.ref q, .int (Int32.ofInt (0)), .int (Int32.ofInt (0)), .int (Int32.ofInt (c))]))] 0 0 (fun ws v => v = some (.int (Int32.ofInt (c))) ∧ ws = [(b, .inr (1, [.ref q, .int (Int32.ofInt (0)), .int (Int32.ofInt (0)), .int (Int32.ofInt (c))]))]) := by
  show st_R D ([], X.2) 2 0 0 mtJ4_length_8abf5 0 [(0, .ref b)] [] _ 0 0 _
  refine st_aload_n 0 ktJ4_length_8abf5 rfl rfl ?_
  refine st_callSU (x := b) (ci := 1) (q0 := 0) (X' := ([], X.2)) (d' := 1) (NC' := 0) (NS' := 0) (M' := mtJ5_length_8abf5) (n := 0) (As := []) (st := []) (wc := [(b, .inr (1, [.ref q, .int (Int32.ofInt (0)), .int (Int32.ofInt (0)), .int (Int32.ofInt (c))]))]) (wr := []) [0] [] ktJ4_length_8abf5 rfl (st_has (n := 5199) rfl rfl) (st_has (n := 5195) rfl rfl) (st_has (n := 5012) rfl rfl) (st_has (n := 5194) rfl rfl) (st_has (n := 1017) rfl rfl) (st_has (n := 5200) rfl rfl) (by decide +kernel) (by decide) rfl rfl rfl rfl (Nat.le_of_ble_eq_true rfl) (Nat.le_of_ble_eq_true rfl) (by decide) (by omega) (by omega) rfl rfl (by decide) (by decide) (by decide) ⟨rfl, fun q hq => by cases hq⟩ (tt_asbLen D X b q (c)) (fun ws1 v hq => ?_)
  obtain ⟨rfl, rfl⟩ := hq
  refine st_st (st' := [.int (Int32.ofInt (c))]) rfl ?_
  refine st_ws (ws' := [(b, .inr (1, [.ref q, .int (Int32.ofInt (0)), .int (Int32.ofInt (0)), .int (Int32.ofInt (c))]))]) rfl ?_
  exact st_ireturn (ty := .int) ktJ4_length_8abf5 rfl rfl rfl (by omega) (by omega) ⟨rfl, rfl⟩
def mtJ7_checkLength_df160 : fz_M := (yJ7_checkLength_df160, prog_24_method_131_code, 2, none, [(0, .iload_n 1, 1, 0, 0, 0), (1, .iload_n 0, 1, 0, 0, 0), (2, .if_icmp .ge 35, 3, 0, 0, 0), (5, .new 43, 3, 0, 0, 0), (8, .dup, 1, 0, 0, 0), (9, .new 45, 3, 0, 0, 0), (12, .dup, 1, 0, 0, 0), (13, .invokespecial 47, 3, 0, 0, 0), (16, .iload_n 0, 1, 0, 0, 0), (17, .invokevirtual 54, 3, 0, 0, 0), (20, .ldc_w 337, 3, 0, 0, 0), (23, .invokevirtual 50, 3, 0, 0, 0), (26, .iload_n 1, 1, 0, 0, 0), (27, .invokevirtual 54, 3, 0, 0, 0), (30, .invokevirtual 61, 3, 0, 0, 0), (33, .invokespecial 65, 3, 0, 0, 0), (36, .athrow, 1, 0, 0, 0), (37, .return_, 1, 0, 0, 0)])
set_option maxRecDepth 100000 in
theorem ktJ7_checkLength_df160 : fz_okK mtJ7_checkLength_df160 = true := fz_okK_in (by decide +kernel)
set_option maxHeartbeats 4000000 in
set_option maxRecDepth 100000 in
theorem tt_ckl (D : st_D) (X : st_Xt) (x y : Int) (h : 0 ≤ x ∧ x ≤ y ∧ y ≤ 2002) : st_R D ([], X.2) 1 0 0 mtJ7_checkLength_df160 0 (lv_args 0 [.int (Int32.ofInt (x)), .int (Int32.ofInt (y))]) [] [] 0 0 (fun ws v => v = none ∧ ws = []) := by
  show st_R D ([], X.2) 1 0 0 mtJ7_checkLength_df160 0 [(0, .int (Int32.ofInt (x))), (1, .int (Int32.ofInt (y)))] [] _ 0 0 _
  refine st_iload_n 1 ktJ7_checkLength_df160 rfl rfl ?_
  refine st_iload_n 0 ktJ7_checkLength_df160 rfl rfl ?_
  refine st_icmp_ge (tgt := 37) ⟨by omega, by omega⟩ ⟨by omega, by omega⟩ ktJ7_checkLength_df160 rfl (by decide) (fun c1 => ?_) (fun c1 => False.elim (by omega))
  exact st_ret ktJ7_checkLength_df160 rfl rfl (by omega) (by omega) ⟨rfl, rfl⟩
def mtJ7_copyOfRangeByte_39247 : fz_M := (yJ7_copyOfRangeByte_39247, prog_24_method_133_code, 5, (some (.array .byte)), [(0, .iload_n 1, 1, 0, 0, 0), (1, .iload_n 2, 1, 0, 0, 0), (2, .invokestatic 343, 3, 0, 0, 0), (5, .iload_n 2, 1, 0, 0, 0), (6, .iload_n 1, 1, 0, 0, 0), (7, .isub, 1, 0, 0, 0), (8, .istore_n 3, 1, 0, 0, 0), (9, .iload_n 3, 1, 0, 0, 0), (10, .newarray .byte, 2, 0, 0, 0), (12, .astore 4, 2, 0, 0, 0), (14, .aload_n 0, 1, 0, 0, 0), (15, .iload_n 1, 1, 0, 0, 0), (16, .aload 4, 2, 0, 0, 0), (18, .iconst 0, 1, 0, 0, 0), (19, .aload_n 0, 1, 0, 0, 0), (20, .arraylength, 1, 0, 0, 0), (21, .iload_n 1, 1, 0, 0, 0), (22, .isub, 1, 0, 0, 0), (23, .iload_n 3, 1, 0, 0, 0), (24, .invokestatic 304, 3, 0, 0, 0), (27, .invokestatic 150, 3, 0, 0, 0), (30, .aload 4, 2, 0, 0, 0), (32, .areturn, 1, 0, 0, 0)])
set_option maxRecDepth 100000 in
theorem ktJ7_copyOfRangeByte_39247 : fz_okK mtJ7_copyOfRangeByte_39247 = true := fz_okK_in (by decide +kernel)
set_option maxHeartbeats 4000000 in
set_option maxRecDepth 100000 in
theorem tt_corB (D : st_D) (X : st_Xt) (q n : Nat) (m : Int) (f : Nat → Int32) (hf : sb_Fit f) (h : 0 ≤ m ∧ m ≤ n ∧ n ≤ 2002) : st_R D ([], X.2) 2 1 2002 mtJ7_copyOfRangeByte_39247 0 (lv_args 0 [.ref q, .int (Int32.ofInt (0)), .int (Int32.ofInt (m))]) [] [(q, .inl (D.2.2.2, n, .inl f))] 0 0 (fun ws v => ∃ (q2 n2 : Nat) (f2 : Nat → Int32), sb_Fit f2 ∧ (n2 : Int) = m ∧ v = some (.ref q2) ∧ ws = [(q, .inl (D.2.2.2, n, .inl f)), (q2, .inl (D.2.2.2, n2, .inl f2))]) := by
  show st_R D ([], X.2) 2 1 2002 mtJ7_copyOfRangeByte_39247 0 [(0, .ref q), (1, .int (Int32.ofInt (0))), (2, .int (Int32.ofInt (m)))] [] _ 0 0 _
  refine st_iload_n 1 ktJ7_copyOfRangeByte_39247 rfl rfl ?_
  refine st_iload_n 2 ktJ7_copyOfRangeByte_39247 rfl rfl ?_
  refine st_callS (X' := ([], X.2)) (d' := 1) (NC' := 0) (NS' := 0) (M' := mtJ7_checkLength_df160) (n := 2) (As := [.int (Int32.ofInt (0)), .int (Int32.ofInt (m))]) (st := []) (wc := []) (wr := [(q, .inl (D.2.2.2, n, .inl f))]) [] [0] ktJ7_copyOfRangeByte_39247 rfl (st_has (n := 5208) rfl rfl) (st_has (n := 5210) rfl rfl) (st_has (n := 1013) rfl rfl) (st_has (n := 5209) rfl rfl) (by decide +kernel) rfl rfl (Nat.le_of_ble_eq_true rfl) (Nat.le_of_ble_eq_true rfl) (by decide) (by omega) (by omega) rfl rfl (by decide) (by decide) (by decide) ⟨rfl, fun q hq => by cases hq⟩ (tt_ckl D X (0) (m) (by omega)) (fun ws1 v hq => ?_)
  obtain ⟨rfl, rfl⟩ := hq
  refine st_st (st' := []) rfl ?_
  refine st_ws (ws' := [(q, .inl (D.2.2.2, n, .inl f))]) rfl ?_
  refine st_iload_n 2 ktJ7_copyOfRangeByte_39247 rfl rfl ?_
  refine st_iload_n 1 ktJ7_copyOfRangeByte_39247 rfl rfl ?_
  refine st_isub (z := (m - 0)) (fz_w_id (by omega) (by omega)) ktJ7_copyOfRangeByte_39247 rfl ?_
  refine st_istore_n (ls' := [(3, .int (Int32.ofInt ((m - 0)))), (0, .ref q), (1, .int (Int32.ofInt (0))), (2, .int (Int32.ofInt (m)))]) ktJ7_copyOfRangeByte_39247 rfl (by decide) rfl ?_
  refine st_iload_n 0 ktJ7_copyOfRangeByte_39247 rfl rfl ?_
  refine st_newB (N := ((m - 0) : Int).toNat) ktJ7_copyOfRangeByte_39247 rfl (by omega) rfl (by omega) (by omega) (fun q1 => ?_)
  refine st_ws (ws' := [(q, .inl (D.2.2.2, n, .inl f)), (q1, .inl (D.2.2.2, ((m - 0) : Int).toNat, .inl (fun _ => 0)))]) rfl ?_
  refine st_astore (ls' := [(4, .ref q1), (3, .int (Int32.ofInt ((m - 0)))), (0, .ref q), (1, .int (Int32.ofInt (0))), (2, .int (Int32.ofInt (m)))]) ktJ7_copyOfRangeByte_39247 rfl (by decide) rfl ?_
  refine st_aload_n 2 ktJ7_copyOfRangeByte_39247 rfl rfl ?_
  refine st_iload_n 3 ktJ7_copyOfRangeByte_39247 rfl rfl ?_
  refine st_aload 0 ktJ7_copyOfRangeByte_39247 rfl rfl ?_
  refine st_iconst ktJ7_copyOfRangeByte_39247 rfl ?_
  refine st_aload_n 2 ktJ7_copyOfRangeByte_39247 rfl rfl ?_
  refine st_alen (q0 := 0) ktJ7_copyOfRangeByte_39247 rfl rfl ?_
  refine st_iload_n 3 ktJ7_copyOfRangeByte_39247 rfl rfl ?_
  refine st_isub (z := ((n : Int) - 0)) (fz_w_id (by omega) (by omega)) ktJ7_copyOfRangeByte_39247 rfl ?_
  refine st_iload_n 1 ktJ7_copyOfRangeByte_39247 rfl rfl ?_
  refine st_mmin ⟨by omega, by omega⟩ ⟨by omega, by omega⟩ (st_has (n := 5052) rfl rfl) ktJ7_copyOfRangeByte_39247 rfl (by decide) (Nat.le_of_ble_eq_true rfl) (by omega) (by omega) (fun z2 hz2 => ?_)
  refine st_acW (q0 := 0) (q1 := 1) ktJ7_copyOfRangeByte_39247 rfl (st_has (n := 5053) rfl rfl) rfl rfl hf sb_fit0 (by omega) (by omega) (by omega) (by omega) (by omega) ⟨by omega, by omega, by omega⟩ (by decide) (Nat.le_of_ble_eq_true rfl) (fun f3 hf3 => ?_)
  refine st_ws (ws' := [(q, .inl (D.2.2.2, n, .inl f)), (q1, .inl (D.2.2.2, ((m - 0) : Int).toNat, .inl f3))]) rfl ?_
  refine st_aload 0 ktJ7_copyOfRangeByte_39247 rfl rfl ?_
  exact st_areturn (ty := (.array .byte)) ktJ7_copyOfRangeByte_39247 rfl rfl (Or.inr ⟨_, rfl⟩) (by omega) (by omega) ⟨_, _, _, hf3, by omega, rfl, rfl⟩
def mtJ7_copyOfRange_39247 : fz_M := (yJ7_copyOfRange_39247, prog_24_method_132_code, 3, (some (.array .byte)), [(0, .iload_n 1, 1, 0, 0, 0), (1, .ifCond .ne 9, 3, 0, 0, 0), (4, .iload_n 2, 1, 0, 0, 0), (5, .aload_n 0, 1, 0, 0, 0), (6, .arraylength, 1, 0, 0, 0), (7, .if_icmp .eq 10, 3, 0, 0, 0), (10, .aload_n 0, 1, 0, 0, 0), (11, .iload_n 1, 1, 0, 0, 0), (12, .iload_n 2, 1, 0, 0, 0), (13, .invokestatic 339, 3, 0, 0, 0), (16, .areturn, 1, 0, 0, 0), (17, .aload_n 0, 1, 0, 0, 0), (18, .invokevirtual 310, 3, 0, 0, 0), (21, .checkcast 311, 3, 0, 0, 0), (24, .areturn, 1, 0, 0, 0)])
set_option maxRecDepth 100000 in
theorem ktJ7_copyOfRange_39247 : fz_okK mtJ7_copyOfRange_39247 = true := fz_okK_in (by decide +kernel)
set_option maxHeartbeats 4000000 in
set_option maxRecDepth 100000 in
theorem tt_cor (D : st_D) (X : st_Xt) (q n : Nat) (m : Int) (f : Nat → Int32) (hf : sb_Fit f) (h : 0 ≤ m ∧ m ≤ n ∧ n ≤ 2002) : st_R D ([], X.2) 3 1 2002 mtJ7_copyOfRange_39247 0 (lv_args 0 [.ref q, .int (Int32.ofInt (0)), .int (Int32.ofInt (m))]) [] [(q, .inl (D.2.2.2, n, .inl f))] 0 0 (fun ws v => ∃ (q2 n2 : Nat) (f2 : Nat → Int32), sb_Fit f2 ∧ (n2 : Int) = m ∧ v = some (.ref q2) ∧ ws = [(q, .inl (D.2.2.2, n, .inl f)), (q2, .inl (D.2.2.2, n2, .inl f2))]) := by
  show st_R D ([], X.2) 3 1 2002 mtJ7_copyOfRange_39247 0 [(0, .ref q), (1, .int (Int32.ofInt (0))), (2, .int (Int32.ofInt (m)))] [] _ 0 0 _
  refine st_iload_n 1 ktJ7_copyOfRange_39247 rfl rfl ?_
  refine st_if_ne (tgt := 10) ⟨by omega, by omega⟩ ktJ7_copyOfRange_39247 rfl (by decide) (fun c1 => False.elim (by omega)) (fun c1 => ?_)
  refine st_iload_n 2 ktJ7_copyOfRange_39247 rfl rfl ?_
  refine st_aload_n 0 ktJ7_copyOfRange_39247 rfl rfl ?_
  refine st_alen (q0 := 0) ktJ7_copyOfRange_39247 rfl rfl ?_
  refine st_icmp_eq (tgt := 17) ⟨by omega, by omega⟩ ⟨by omega, by omega⟩ ktJ7_copyOfRange_39247 rfl (by decide) (fun c2 => ?_) (fun c2 => ?_)
  · refine st_aload_n 0 ktJ7_copyOfRange_39247 rfl rfl ?_
    refine st_clone (q0 := 0) ktJ7_copyOfRange_39247 rfl (st_has (n := 5045) rfl rfl) rfl hf (by decide) (Nat.le_of_ble_eq_true rfl) (by omega) (by omega) (fun q3 => ?_)
    refine st_ws (ws' := [(q, .inl (D.2.2.2, n, .inl f)), (q3, .inl (D.2.2.2, n, .inl f))]) rfl ?_
    refine st_castB (q0 := 1) ktJ7_copyOfRange_39247 rfl (st_has (n := 5051) rfl rfl) rfl ?_
    exact st_areturn (ty := (.array .byte)) ktJ7_copyOfRange_39247 rfl rfl (Or.inr ⟨_, rfl⟩) (by omega) (by omega) ⟨_, _, _, hf, by omega, rfl, rfl⟩
  · refine st_aload_n 0 ktJ7_copyOfRange_39247 rfl rfl ?_
    refine st_iload_n 1 ktJ7_copyOfRange_39247 rfl rfl ?_
    refine st_iload_n 2 ktJ7_copyOfRange_39247 rfl rfl ?_
    refine st_callS (X' := ([], X.2)) (d' := 2) (NC' := 1) (NS' := 2002) (M' := mtJ7_copyOfRangeByte_39247) (n := 3) (As := [.ref q, .int (Int32.ofInt (0)), .int (Int32.ofInt (m))]) (st := []) (wc := [(q, .inl (D.2.2.2, n, .inl f))]) (wr := []) [0] [] ktJ7_copyOfRange_39247 rfl (st_has (n := 5205) rfl rfl) (st_has (n := 5207) rfl rfl) (st_has (n := 1013) rfl rfl) (st_has (n := 5206) rfl rfl) (by decide +kernel) rfl rfl (Nat.le_of_ble_eq_true rfl) (Nat.le_of_ble_eq_true rfl) (by decide) (by omega) (by omega) rfl rfl (by decide) (by decide) (by decide) ⟨rfl, fun q hq => by cases hq⟩ (tt_corB D X q (n) (m) f hf (by omega)) (fun ws1 v hq => ?_)
    obtain ⟨q4, n5, f6, hf6, hn5, rfl, rfl⟩ := hq
    refine st_st (st' := [.ref q4]) rfl ?_
    refine st_ws (ws' := [(q, .inl (D.2.2.2, n, .inl f)), (q4, .inl (D.2.2.2, n5, .inl f6))]) rfl ?_
    exact st_areturn (ty := (.array .byte)) ktJ7_copyOfRange_39247 rfl rfl (Or.inr ⟨_, rfl⟩) (by omega) (by omega) ⟨_, _, _, hf6, by omega, rfl, rfl⟩
def mtJ0_init_db425 : fz_M := (yJ0_init_db425, prog_19_method_150_code, 5, none, [(0, .aload_n 0, 1, 0, 0, 0), (1, .invokespecial 1, 3, 0, 0, 0), (4, .aload_n 1, 1, 0, 0, 0), (5, .invokevirtual 552, 3, 0, 0, 0), (8, .astore_n 3, 1, 0, 0, 0), (9, .aload_n 1, 1, 0, 0, 0), (10, .invokevirtual 549, 3, 0, 0, 0), (13, .istore 4, 2, 0, 0, 0), (15, .aload_n 1, 1, 0, 0, 0), (16, .invokevirtual 1047, 3, 0, 0, 0), (19, .ifCond .eq 22, 3, 0, 0, 0), (22, .aload_n 0, 1, 0, 0, 0), (23, .iconst 0, 1, 0, 0, 0), (24, .putfield 15, 3, 0, 0, 0), (27, .aload_n 0, 1, 0, 0, 0), (28, .aload_n 3, 1, 0, 0, 0), (29, .iconst 0, 1, 0, 0, 0), (30, .iload 4, 2, 0, 0, 0), (32, .invokestatic 54, 3, 0, 0, 0), (35, .putfield 9, 3, 0, 0, 0), (38, .goto 59, 3, 0, 0, 0), (41, .getstatic 38, 3, 0, 0, 0), (44, .ifCond .eq 35, 3, 0, 0, 0), (47, .aload_n 1, 1, 0, 0, 0), (48, .getfield 1048, 3, 0, 0, 0), (51, .ifCond .eq 28, 3, 0, 0, 0), (54, .aload_n 0, 1, 0, 0, 0), (55, .aload_n 3, 1, 0, 0, 0), (56, .iconst 0, 1, 0, 0, 0), (57, .iload 4, 2, 0, 0, 0), (59, .invokestatic 1051, 3, 0, 0, 0), (62, .putfield 9, 3, 0, 0, 0), (65, .aload_n 0, 1, 0, 0, 0), (66, .aload_n 0, 1, 0, 0, 0), (67, .getfield 9, 3, 0, 0, 0), (70, .iload 4, 2, 0, 0, 0), (72, .invokestatic 47, 3, 0, 0, 0), (75, .putfield 15, 3, 0, 0, 0), (78, .return_, 1, 0, 0, 0), (79, .aload_n 0, 1, 0, 0, 0), (80, .iconst 1, 1, 0, 0, 0), (81, .putfield 15, 3, 0, 0, 0), (84, .aload_n 0, 1, 0, 0, 0), (85, .aload_n 3, 1, 0, 0, 0), (86, .iconst 0, 1, 0, 0, 0), (87, .iload 4, 2, 0, 0, 0), (89, .iconst 1, 1, 0, 0, 0), (90, .ishl, 1, 0, 0, 0), (91, .invokestatic 54, 3, 0, 0, 0), (94, .putfield 9, 3, 0, 0, 0), (97, .return_, 1, 0, 0, 0)])
set_option maxRecDepth 100000 in
theorem ktJ0_init_db425 : fz_okK mtJ0_init_db425 = true := fz_okK_in (by decide +kernel)
set_option maxHeartbeats 4000000 in
set_option maxRecDepth 100000 in
theorem tt_str2 (D : st_D) (X : st_Xt) (r b q n : Nat) (c : Int) (f : Nat → Int32) (hf : sb_Fit f) (h : 0 ≤ c ∧ c ≤ n ∧ n ≤ 2002) : st_R D ([], X.2) 4 1 2002 mtJ0_init_db425 0 (lv_args 0 [.ref r, .ref b, .null]) [] [(r, .inr (0, [.null, .int (Int32.ofInt (0)), .int (Int32.ofInt (0)), .int (Int32.ofInt (0))])), (b, .inr (1, [.ref q, .int (Int32.ofInt (0)), .int (Int32.ofInt (0)), .int (Int32.ofInt (c))])), (q, .inl (D.2.2.2, n, .inl f))] 0 0 (fun ws v => ∃ (u k : Nat) (g : Nat → Int32), sb_Fit g ∧ (k : Int) = c ∧ v = none ∧ ws = [(r, .inr (0, [.ref u, .int (Int32.ofInt (0)), .int (Int32.ofInt (0)), .int (Int32.ofInt (0))])), (u, .inl (D.2.2.2, k, .inl g)), (b, .inr (1, [.ref q, .int (Int32.ofInt (0)), .int (Int32.ofInt (0)), .int (Int32.ofInt (c))])), (q, .inl (D.2.2.2, n, .inl f))]) := by
  show st_R D ([], X.2) 4 1 2002 mtJ0_init_db425 0 [(0, .ref r), (1, .ref b), (2, .null)] [] _ 0 0 _
  refine st_aload_n 0 ktJ0_init_db425 rfl rfl ?_
  refine st_obj ktJ0_init_db425 rfl (st_has (n := 5187) rfl rfl) (Nat.le_of_ble_eq_true rfl) (by decide) ?_
  refine st_aload_n 1 ktJ0_init_db425 rfl rfl ?_
  refine st_callV (x := b) (Cn := "java/lang/StringBuilder") (X' := ([], X.2)) (d' := 1) (NC' := 0) (NS' := 0) (M' := mtJ5_getValue_6d5f1) (n := 0) (As := []) (st := []) (wc := [(b, .inr (1, [.ref q, .int (Int32.ofInt (0)), .int (Int32.ofInt (0)), .int (Int32.ofInt (c))]))]) (wr := [(r, .inr (0, [.null, .int (Int32.ofInt (0)), .int (Int32.ofInt (0)), .int (Int32.ofInt (0))])), (q, .inl (D.2.2.2, n, .inl f))]) [1] [0, 2] ktJ0_init_db425 rfl ⟨(st_has (n := 5188) rfl rfl), (st_has (n := 5189) rfl rfl), (st_has (n := 1017) rfl rfl), Or.inr ⟨(st_has (n := 5190) rfl rfl), (st_has (n := 5191) rfl rfl)⟩⟩ (st_has (n := 5192) rfl rfl) (by decide +kernel) (Or.inl ⟨1, 1, _, _, _, rfl, rfl⟩) rfl rfl (Nat.le_of_ble_eq_true rfl) (Nat.le_of_ble_eq_true rfl) (by decide) (by omega) (by omega) rfl rfl (by decide) (by decide) (by decide) ⟨rfl, fun q hq => by cases hq⟩ (tt_getV D X b q (c)) (fun ws1 v hq => ?_)
  obtain ⟨rfl, rfl⟩ := hq
  refine st_st (st' := [.ref q]) rfl ?_
  refine st_ws (ws' := [(r, .inr (0, [.null, .int (Int32.ofInt (0)), .int (Int32.ofInt (0)), .int (Int32.ofInt (0))])), (q, .inl (D.2.2.2, n, .inl f)), (b, .inr (1, [.ref q, .int (Int32.ofInt (0)), .int (Int32.ofInt (0)), .int (Int32.ofInt (c))]))]) rfl ?_
  refine st_astore_n (ls' := [(3, .ref q), (0, .ref r), (1, .ref b), (2, .null)]) ktJ0_init_db425 rfl (by decide) rfl ?_
  refine st_aload_n 2 ktJ0_init_db425 rfl rfl ?_
  refine st_callO (Mx := mtJ5_length_8abf5) (x := b) (Cn := "java/lang/StringBuilder") (X' := ([], X.2)) (d' := 2) (NC' := 0) (NS' := 0) (M' := mtJ4_length_8abf5) (n := 0) (As := []) (st := []) (wc := [(b, .inr (1, [.ref q, .int (Int32.ofInt (0)), .int (Int32.ofInt (0)), .int (Int32.ofInt (c))]))]) (wr := [(r, .inr (0, [.null, .int (Int32.ofInt (0)), .int (Int32.ofInt (0)), .int (Int32.ofInt (0))])), (q, .inl (D.2.2.2, n, .inl f))]) [2] [0, 1] ktJ0_init_db425 rfl (st_has (n := 5193) rfl rfl) (st_has (n := 5195) rfl rfl) (st_has (n := 5194) rfl rfl) (st_has (n := 5196) rfl rfl) (st_has (n := 5197) rfl rfl) (st_has (n := 1018) rfl rfl) (st_has (n := 5200) rfl rfl) (by decide +kernel) (st_has (n := 5198) rfl rfl) (by decide +kernel) (Or.inl ⟨2, 1, _, _, _, rfl, rfl⟩) rfl rfl (Nat.le_of_ble_eq_true rfl) (Nat.le_of_ble_eq_true rfl) (by decide) (by omega) (by omega) rfl rfl (by decide) (by decide) (by decide) ⟨rfl, fun q hq => by cases hq⟩ (tt_sbLen D X b q (c)) (fun ws1 v hq => ?_)
  obtain ⟨rfl, rfl⟩ := hq
  refine st_st (st' := [.int (Int32.ofInt (c))]) rfl ?_
  refine st_ws (ws' := [(r, .inr (0, [.null, .int (Int32.ofInt (0)), .int (Int32.ofInt (0)), .int (Int32.ofInt (0))])), (q, .inl (D.2.2.2, n, .inl f)), (b, .inr (1, [.ref q, .int (Int32.ofInt (0)), .int (Int32.ofInt (0)), .int (Int32.ofInt (c))]))]) rfl ?_
  refine st_istore (ls' := [(4, .int (Int32.ofInt (c))), (3, .ref q), (0, .ref r), (1, .ref b), (2, .null)]) ktJ0_init_db425 rfl (by decide) rfl ?_
  refine st_aload_n 3 ktJ0_init_db425 rfl rfl ?_
  refine st_callV (x := b) (Cn := "java/lang/StringBuilder") (X' := ([], X.2)) (d' := 1) (NC' := 0) (NS' := 0) (M' := mtJ5_isLatin1_aae02) (n := 0) (As := []) (st := []) (wc := [(b, .inr (1, [.ref q, .int (Int32.ofInt (0)), .int (Int32.ofInt (0)), .int (Int32.ofInt (c))]))]) (wr := [(r, .inr (0, [.null, .int (Int32.ofInt (0)), .int (Int32.ofInt (0)), .int (Int32.ofInt (0))])), (q, .inl (D.2.2.2, n, .inl f))]) [2] [0, 1] ktJ0_init_db425 rfl ⟨(st_has (n := 5201) rfl rfl), (st_has (n := 5055) rfl rfl), (st_has (n := 1017) rfl rfl), Or.inr ⟨(st_has (n := 5056) rfl rfl), (st_has (n := 5057) rfl rfl)⟩⟩ (st_has (n := 5058) rfl rfl) (by decide +kernel) (Or.inl ⟨2, 1, _, _, _, rfl, rfl⟩) rfl rfl (Nat.le_of_ble_eq_true rfl) (Nat.le_of_ble_eq_true rfl) (by decide) (by omega) (by omega) rfl rfl (by decide) (by decide) (by decide) ⟨rfl, fun q hq => by cases hq⟩ (tt_asbLatin D X b q (c)) (fun ws1 v hq => ?_)
  obtain ⟨rfl, rfl⟩ := hq
  refine st_st (st' := [.int (Int32.ofInt (1))]) rfl ?_
  refine st_ws (ws' := [(r, .inr (0, [.null, .int (Int32.ofInt (0)), .int (Int32.ofInt (0)), .int (Int32.ofInt (0))])), (q, .inl (D.2.2.2, n, .inl f)), (b, .inr (1, [.ref q, .int (Int32.ofInt (0)), .int (Int32.ofInt (0)), .int (Int32.ofInt (c))]))]) rfl ?_
  refine st_if_eq (tgt := 41) ⟨by omega, by omega⟩ ktJ0_init_db425 rfl (by decide) (fun c1 => False.elim (by omega)) (fun c1 => ?_)
  refine st_aload_n 2 ktJ0_init_db425 rfl rfl ?_
  refine st_iconst ktJ0_init_db425 rfl ?_
  refine st_put (ci := 0) (q0 := 0) (k := 1) (ty := tyJ0 1) ktJ0_init_db425 rfl rfl rfl (by decide) (st_has (n := 5222) rfl rfl) (Or.inr ⟨rfl, rfl, rfl⟩) (tyJ0_ok 1 (by decide)) rfl (by decide) (Nat.le_of_ble_eq_true rfl) ?_
  refine st_ws (ws' := [(r, .inr (0, [.null, .int (Int32.ofInt (0)), .int (Int32.ofInt (0)), .int (Int32.ofInt (0))])), (q, .inl (D.2.2.2, n, .inl f)), (b, .inr (1, [.ref q, .int (Int32.ofInt (0)), .int (Int32.ofInt (0)), .int (Int32.ofInt (c))]))]) rfl ?_
  refine st_aload_n 2 ktJ0_init_db425 rfl rfl ?_
  refine st_aload_n 1 ktJ0_init_db425 rfl rfl ?_
  refine st_iconst ktJ0_init_db425 rfl ?_
  refine st_iload 0 ktJ0_init_db425 rfl rfl ?_
  refine st_callS (X' := ([], X.2)) (d' := 3) (NC' := 1) (NS' := 2002) (M' := mtJ7_copyOfRange_39247) (n := 3) (As := [.ref q, .int (Int32.ofInt (0)), .int (Int32.ofInt (c))]) (st := [.ref r]) (wc := [(q, .inl (D.2.2.2, n, .inl f))]) (wr := [(r, .inr (0, [.null, .int (Int32.ofInt (0)), .int (Int32.ofInt (0)), .int (Int32.ofInt (0))])), (b, .inr (1, [.ref q, .int (Int32.ofInt (0)), .int (Int32.ofInt (0)), .int (Int32.ofInt (c))]))]) [1] [0, 2] ktJ0_init_db425 rfl (st_has (n := 5202) rfl rfl) (st_has (n := 5204) rfl rfl) (st_has (n := 1013) rfl rfl) (st_has (n := 5203) rfl rfl) (by decide +kernel) rfl rfl (Nat.le_of_ble_eq_true rfl) (Nat.le_of_ble_eq_true rfl) (by decide) (by omega) (by omega) rfl rfl (by decide) (by decide) (by decide) ⟨rfl, fun q hq => by cases hq⟩ (tt_cor D X q (n) (c) f hf (by omega)) (fun ws1 v hq => ?_)
  obtain ⟨q2, n3, f4, hf4, hn3, rfl, rfl⟩ := hq
  refine st_st (st' := [.ref q2, .ref r]) rfl ?_
  refine st_ws (ws' := [(r, .inr (0, [.null, .int (Int32.ofInt (0)), .int (Int32.ofInt (0)), .int (Int32.ofInt (0))])), (b, .inr (1, [.ref q, .int (Int32.ofInt (0)), .int (Int32.ofInt (0)), .int (Int32.ofInt (c))])), (q, .inl (D.2.2.2, n, .inl f)), (q2, .inl (D.2.2.2, n3, .inl f4))]) rfl ?_
  refine st_put (ci := 0) (q0 := 0) (k := 0) (ty := tyJ0 0) ktJ0_init_db425 rfl rfl rfl (by decide) (st_has (n := 5221) rfl rfl) (Or.inr ⟨rfl, rfl, rfl⟩) (tyJ0_ok 0 (by decide)) rfl rfl (Nat.le_of_ble_eq_true rfl) ?_
  refine st_ws (ws' := [(r, .inr (0, [.ref q2, .int (Int32.ofInt (0)), .int (Int32.ofInt (0)), .int (Int32.ofInt (0))])), (b, .inr (1, [.ref q, .int (Int32.ofInt (0)), .int (Int32.ofInt (0)), .int (Int32.ofInt (c))])), (q, .inl (D.2.2.2, n, .inl f)), (q2, .inl (D.2.2.2, n3, .inl f4))]) rfl ?_
  refine st_goto (tgt := 97) ktJ0_init_db425 rfl (by decide) ?_
  refine st_sub (ws' := [(r, .inr (0, [.ref q2, .int (Int32.ofInt (0)), .int (Int32.ofInt (0)), .int (Int32.ofInt (0))])), (q2, .inl (D.2.2.2, n3, .inl f4)), (b, .inr (1, [.ref q, .int (Int32.ofInt (0)), .int (Int32.ofInt (0)), .int (Int32.ofInt (c))])), (q, .inl (D.2.2.2, n, .inl f))]) [0, 3, 1, 2] rfl (by decide) ?_
  exact st_ret ktJ0_init_db425 rfl rfl (by omega) (by omega) ⟨_, _, _, hf4, by omega, rfl, rfl⟩
def mtJ0_init_81219 : fz_M := (yJ0_init_81219, prog_19_method_53_code, 2, none, [(0, .aload_n 0, 1, 0, 0, 0), (1, .aload_n 1, 1, 0, 0, 0), (2, .aconst_null, 1, 0, 0, 0), (3, .invokespecial 489, 3, 0, 0, 0), (6, .return_, 1, 0, 0, 0)])
set_option maxRecDepth 100000 in
theorem ktJ0_init_81219 : fz_okK mtJ0_init_81219 = true := fz_okK_in (by decide +kernel)
set_option maxHeartbeats 4000000 in
set_option maxRecDepth 100000 in
theorem tt_str1 (D : st_D) (X : st_Xt) (r b q n : Nat) (c : Int) (f : Nat → Int32) (hf : sb_Fit f) (h : 0 ≤ c ∧ c ≤ n ∧ n ≤ 2002) : st_R D ([], X.2) 5 1 2002 mtJ0_init_81219 0 (lv_args 0 [.ref r, .ref b]) [] [(r, .inr (0, [.null, .int (Int32.ofInt (0)), .int (Int32.ofInt (0)), .int (Int32.ofInt (0))])), (b, .inr (1, [.ref q, .int (Int32.ofInt (0)), .int (Int32.ofInt (0)), .int (Int32.ofInt (c))])), (q, .inl (D.2.2.2, n, .inl f))] 0 0 (fun ws v => ∃ (u k : Nat) (g : Nat → Int32), sb_Fit g ∧ (k : Int) = c ∧ v = none ∧ ws = [(r, .inr (0, [.ref u, .int (Int32.ofInt (0)), .int (Int32.ofInt (0)), .int (Int32.ofInt (0))])), (u, .inl (D.2.2.2, k, .inl g)), (b, .inr (1, [.ref q, .int (Int32.ofInt (0)), .int (Int32.ofInt (0)), .int (Int32.ofInt (c))])), (q, .inl (D.2.2.2, n, .inl f))]) := by
  show st_R D ([], X.2) 5 1 2002 mtJ0_init_81219 0 [(0, .ref r), (1, .ref b)] [] _ 0 0 _
  refine st_aload_n 0 ktJ0_init_81219 rfl rfl ?_
  refine st_aload_n 1 ktJ0_init_81219 rfl rfl ?_
  refine st_null ktJ0_init_81219 rfl ?_
  refine st_callI (x := r) (X' := ([], X.2)) (d' := 4) (NC' := 1) (NS' := 2002) (M' := mtJ0_init_db425) (n := 2) (As := [.ref b, .null]) (st := []) (wc := [(r, .inr (0, [.null, .int (Int32.ofInt (0)), .int (Int32.ofInt (0)), .int (Int32.ofInt (0))])), (b, .inr (1, [.ref q, .int (Int32.ofInt (0)), .int (Int32.ofInt (0)), .int (Int32.ofInt (c))])), (q, .inl (D.2.2.2, n, .inl f))]) (wr := []) [0, 1, 2] [] ktJ0_init_81219 rfl (st_has (n := 5184) rfl rfl) (st_has (n := 5186) rfl rfl) (st_has (n := 1019) rfl rfl) (st_has (n := 5185) rfl rfl) (by decide +kernel) rfl rfl rfl rfl (Nat.le_of_ble_eq_true rfl) (Nat.le_of_ble_eq_true rfl) (by decide) (by omega) (by omega) rfl rfl (by decide) (by decide) (by decide) ⟨rfl, fun q hq => by cases hq⟩ (tt_str2 D X r b q (n) (c) f hf (by omega)) (fun ws1 v hq => ?_)
  obtain ⟨u1, k2, g3, hg3, hk2, rfl, rfl⟩ := hq
  refine st_st (st' := []) rfl ?_
  refine st_ws (ws' := [(r, .inr (0, [.ref u1, .int (Int32.ofInt (0)), .int (Int32.ofInt (0)), .int (Int32.ofInt (0))])), (u1, .inl (D.2.2.2, k2, .inl g3)), (b, .inr (1, [.ref q, .int (Int32.ofInt (0)), .int (Int32.ofInt (0)), .int (Int32.ofInt (c))])), (q, .inl (D.2.2.2, n, .inl f))]) rfl ?_
  exact st_ret ktJ0_init_81219 rfl rfl (by omega) (by omega) ⟨_, _, _, hg3, by omega, rfl, rfl⟩
def mtJ4_toString_0e30d : fz_M := (yJ4_toString_0e30d, prog_20_method_42_code, 1, (some (.object "java/lang/String")), [(0, .new 18, 3, 0, 0, 0), (3, .dup, 1, 0, 0, 0), (4, .aload_n 0, 1, 0, 0, 0), (5, .invokespecial 137, 3, 0, 0, 0), (8, .areturn, 1, 0, 0, 0)])
set_option maxRecDepth 100000 in
theorem ktJ4_toString_0e30d : fz_okK mtJ4_toString_0e30d = true := fz_okK_in (by decide +kernel)
set_option maxHeartbeats 4000000 in
set_option maxRecDepth 100000 in
theorem tt_toS (D : st_D) (X : st_Xt) (b q n : Nat) (c : Int) (f : Nat → Int32) (hf : sb_Fit f) (h : 0 ≤ c ∧ c ≤ n ∧ n ≤ 2002) : st_R D ([], X.2) 6 2 2006 mtJ4_toString_0e30d 0 (lv_args 0 [.ref b]) [] [(b, .inr (1, [.ref q, .int (Int32.ofInt (0)), .int (Int32.ofInt (0)), .int (Int32.ofInt (c))])), (q, .inl (D.2.2.2, n, .inl f))] 0 0 (fun ws v => ∃ (r u k : Nat) (g : Nat → Int32), sb_Fit g ∧ (k : Int) = c ∧ v = some (.ref r) ∧ ws = [(r, .inr (0, [.ref u, .int (Int32.ofInt (0)), .int (Int32.ofInt (0)), .int (Int32.ofInt (0))])), (u, .inl (D.2.2.2, k, .inl g))]) := by
  show st_R D ([], X.2) 6 2 2006 mtJ4_toString_0e30d 0 [(0, .ref b)] [] _ 0 0 _
  refine st_new (ci := 0) tyJ0 [.null, .int (Int32.ofInt (0)), .int (Int32.ofInt (0)), .int (Int32.ofInt (0))] ktJ4_toString_0e30d rfl rfl tyJ0_ok (st_has (n := 5179) rfl rfl) (st_has (n := 5180) rfl rfl) (st_has (n := 1019) rfl rfl) rfl (by omega) (by omega) (fun q1 => ?_)
  refine st_ws (ws' := [(b, .inr (1, [.ref q, .int (Int32.ofInt (0)), .int (Int32.ofInt (0)), .int (Int32.ofInt (c))])), (q, .inl (D.2.2.2, n, .inl f)), (q1, .inr (0, [.null, .int (Int32.ofInt (0)), .int (Int32.ofInt (0)), .int (Int32.ofInt (0))]))]) rfl ?_
  refine st_dup rfl ktJ4_toString_0e30d rfl ?_
  refine st_aload_n 0 ktJ4_toString_0e30d rfl rfl ?_
  refine st_callI (x := q1) (X' := ([], X.2)) (d' := 5) (NC' := 1) (NS' := 2002) (M' := mtJ0_init_81219) (n := 1) (As := [.ref b]) (st := [.ref q1]) (wc := [(q1, .inr (0, [.null, .int (Int32.ofInt (0)), .int (Int32.ofInt (0)), .int (Int32.ofInt (0))])), (b, .inr (1, [.ref q, .int (Int32.ofInt (0)), .int (Int32.ofInt (0)), .int (Int32.ofInt (c))])), (q, .inl (D.2.2.2, n, .inl f))]) (wr := []) [2, 0, 1] [] ktJ4_toString_0e30d rfl (st_has (n := 5181) rfl rfl) (st_has (n := 5183) rfl rfl) (st_has (n := 1019) rfl rfl) (st_has (n := 5182) rfl rfl) (by decide +kernel) rfl rfl rfl rfl (Nat.le_of_ble_eq_true rfl) (Nat.le_of_ble_eq_true rfl) (by decide) (by omega) (by omega) rfl rfl (by decide) (by decide) (by decide) ⟨rfl, fun q hq => by cases hq⟩ (tt_str1 D X q1 b q (n) (c) f hf (by omega)) (fun ws1 v hq => ?_)
  obtain ⟨u2, k3, g4, hg4, hk3, rfl, rfl⟩ := hq
  refine st_st (st' := [.ref q1]) rfl ?_
  refine st_ws (ws' := [(q1, .inr (0, [.ref u2, .int (Int32.ofInt (0)), .int (Int32.ofInt (0)), .int (Int32.ofInt (0))])), (u2, .inl (D.2.2.2, k3, .inl g4)), (b, .inr (1, [.ref q, .int (Int32.ofInt (0)), .int (Int32.ofInt (0)), .int (Int32.ofInt (c))])), (q, .inl (D.2.2.2, n, .inl f))]) rfl ?_
  refine st_sub (ws' := [(q1, .inr (0, [.ref u2, .int (Int32.ofInt (0)), .int (Int32.ofInt (0)), .int (Int32.ofInt (0))])), (u2, .inl (D.2.2.2, k3, .inl g4))]) [0, 1] rfl (by decide) ?_
  exact st_areturn (ty := (.object "java/lang/String")) ktJ4_toString_0e30d rfl rfl (Or.inl ⟨_, rfl⟩) (by omega) (by omega) ⟨_, _, _, _, hg4, by omega, rfl, rfl⟩
end
section
/-! ===== texts: the law's own ===== -/
def kl (ca : Nat → Nat) : List (Nat × String × Nat) := [(16, "", ca 0), (22, "wadmtp", ca 1), (40, "!", ca 2), (42, "-", ca 3), (48, "+-*/%|&<=>", ca 4), (50, "(", ca 5), (52, ")*", ca 6), (54, "+20", ca 7), (56, "!(", ca 8), (58, "<", ca 9), (60, "|", ca 10), (62, "=3)*30+9", ca 11), (72, "?", ca 12), (74, ";", ca 13), (76, "9*w-a/5-d", ca 14), (82, "m=1?7*w-a;w>5?50-a;9", ca 15)]
def kss (ca cv : Nat → Nat) : List (Nat × Nat × Nat) := [(ca 0, cv 0, 0), (ca 1, cv 1, 6), (ca 2, cv 2, 1), (ca 3, cv 3, 1), (ca 4, cv 4, 10), (ca 5, cv 5, 1), (ca 6, cv 6, 2), (ca 7, cv 7, 3), (ca 8, cv 8, 2), (ca 9, cv 9, 1), (ca 10, cv 10, 1), (ca 11, cv 11, 8), (ca 12, cv 12, 1), (ca 13, cv 13, 1), (ca 14, cv 14, 9), (ca 15, cv 15, 20)]
theorem st_tm {x n : Int} (h : 0 < n) : - n < Int.tmod x n ∧ Int.tmod x n < n := by
  have h1 := Int.tmod_lt_of_pos x h
  have h2 := Int.tmod_lt_of_pos (-x) h
  rw [Int.neg_tmod] at h2
  omega
def mtL_some : fz_M := (yL_some, method_3_code, 3, (some .int), [(0, .iload_n 0, 1, 0, 0, 0), (1, .iload_n 1, 1, 0, 0, 0), (2, .irem, 1, 0, 0, 0), (3, .istore_n 2, 1, 0, 0, 0), (4, .iload_n 2, 1, 0, 0, 0), (5, .ifCond .ge 9, 3, 0, 0, 0), (8, .iload_n 2, 1, 0, 0, 0), (9, .iload_n 1, 1, 0, 0, 0), (10, .iadd, 1, 0, 0, 0), (11, .goto 4, 3, 0, 0, 0), (14, .iload_n 2, 1, 0, 0, 0), (15, .ireturn, 1, 0, 0, 0)])
set_option maxRecDepth 100000 in
theorem ktL_some : fz_okK mtL_some = true := fz_okK_in (by decide +kernel)
set_option maxHeartbeats 4000000 in
set_option maxRecDepth 100000 in
theorem tt_some (D : st_D) (X : st_Xt) (x n : Int) (hx : -2147483648 ≤ x ∧ x < 2147483648) (hn : 1 ≤ n ∧ n ≤ 1000) : st_R D ([], X.2) 1 0 0 mtL_some 0 (lv_args 0 [.int (Int32.ofInt (x)), .int (Int32.ofInt (n))]) [] [] 0 0 (fun ws v => ∃ z : Int, (0 ≤ z ∧ z < n) ∧ v = some (.int (Int32.ofInt (z))) ∧ ws = []) := by
  show st_R D ([], X.2) 1 0 0 mtL_some 0 [(0, .int (Int32.ofInt (x))), (1, .int (Int32.ofInt (n)))] [] _ 0 0 _
  refine st_iload_n 0 ktL_some rfl rfl ?_
  refine st_iload_n 1 ktL_some rfl rfl ?_
  obtain ⟨z1, ez1⟩ : ∃ z : Int, z = Int.tmod (x) (n) := ⟨_, rfl⟩
  have hz1 := st_tm (x := x) (n := n) (by omega)
  rw [← ez1] at hz1
  refine st_irem (z := z1) ⟨by omega, by omega⟩ ⟨by omega, by omega⟩ (by omega) (by rw [← ez1]; exact fz_w_id (by omega) (by omega)) ktL_some rfl ?_
  refine st_istore_n (ls' := [(2, .int (Int32.ofInt (z1))), (0, .int (Int32.ofInt (x))), (1, .int (Int32.ofInt (n)))]) ktL_some rfl (by decide) rfl ?_
  refine st_iload_n 0 ktL_some rfl rfl ?_
  refine st_if_ge (tgt := 14) ⟨by omega, by omega⟩ ktL_some rfl (by decide) (fun c2 => ?_) (fun c2 => ?_)
  · refine st_iload_n 0 ktL_some rfl rfl ?_
    exact st_ireturn (ty := .int) ktL_some rfl rfl rfl (by omega) (by omega) ⟨_, ⟨by omega, by omega⟩, rfl, rfl⟩
  · refine st_iload_n 0 ktL_some rfl rfl ?_
    refine st_iload_n 2 ktL_some rfl rfl ?_
    refine st_iadd (z := (z1 + n)) (fz_w_id (by omega) (by omega)) ktL_some rfl ?_
    refine st_goto (tgt := 15) ktL_some rfl (by decide) ?_
    exact st_ireturn (ty := .int) ktL_some rfl rfl rfl (by omega) (by omega) ⟨_, ⟨by omega, by omega⟩, rfl, rfl⟩
def mtL_at : fz_M := (yL_at, method_2_code, 2, (some .int), [(0, .iload_n 1, 1, 0, 0, 0), (1, .aload_n 0, 1, 0, 0, 0), (2, .arraylength, 1, 0, 0, 0), (3, .if_icmp .ge 9, 3, 0, 0, 0), (6, .aload_n 0, 1, 0, 0, 0), (7, .iload_n 1, 1, 0, 0, 0), (8, .iaload, 1, 0, 0, 0), (9, .goto 4, 3, 0, 0, 0), (12, .iconst 0, 1, 0, 0, 0), (13, .ireturn, 1, 0, 0, 0)])
set_option maxRecDepth 100000 in
theorem ktL_at : fz_okK mtL_at = true := fz_okK_in (by decide +kernel)
set_option maxHeartbeats 4000000 in
set_option maxRecDepth 100000 in
theorem tt_at (D : st_D) (X : st_Xt) (k : Int) (hk : 0 ≤ k ∧ k ≤ 1000) (hL : X.2.2.2.2.1 ≤ 3072) : st_R D ([], X.2) 1 0 0 mtL_at 0 (lv_args 0 [.ref X.2.2.2.1, .int (Int32.ofInt (k))]) [] [] 0 0 (fun ws v => ∃ z : Int, (-2147483648 ≤ z ∧ z < 2147483648) ∧ v = some (.int (Int32.ofInt (z))) ∧ ws = []) := by
  show st_R D ([], X.2) 1 0 0 mtL_at 0 [(0, .ref X.2.2.2.1), (1, .int (Int32.ofInt (k)))] [] _ 0 0 _
  refine st_iload_n 1 ktL_at rfl rfl ?_
  refine st_aload_n 0 ktL_at rfl rfl ?_
  refine st_xlen rfl ktL_at rfl ?_
  refine st_st (st' := [.int (Int32.ofInt ((X.2.2.2.2.1 : Int))), .int (Int32.ofInt (k))]) rfl ?_
  refine st_icmp_ge (tgt := 12) ⟨by omega, by omega⟩ ⟨by omega, by omega⟩ ktL_at rfl (by decide) (fun c1 => ?_) (fun c1 => ?_)
  · refine st_iconst ktL_at rfl ?_
    exact st_ireturn (ty := .int) ktL_at rfl rfl rfl (by omega) (by omega) ⟨_, ⟨by omega, by omega⟩, rfl, rfl⟩
  · refine st_aload_n 0 ktL_at rfl rfl ?_
    refine st_iload_n 1 ktL_at rfl rfl ?_
    refine st_xald rfl (by show _ ∧ _ < ((X.2.2.2.2.1 : Nat) : Int); omega) (by omega) ktL_at rfl (fun z2 hz2 => ?_)
    refine st_goto (tgt := 13) ktL_at rfl (by decide) ?_
    exact st_ireturn (ty := .int) ktL_at rfl rfl rfl (by omega) (by omega) ⟨_, ⟨by omega, by omega⟩, rfl, rfl⟩
def mtL_one : fz_M := (yL_one, method_4_code, 2, (some (.object "java/lang/String")), [(0, .iload_n 0, 1, 0, 0, 0), (1, .bipush 9, 2, 0, 0, 0), (3, .invokestatic 7, 3, 0, 0, 0), (6, .istore_n 1, 1, 0, 0, 0), (7, .iload_n 1, 1, 0, 0, 0), (8, .bipush 6, 2, 0, 0, 0), (10, .if_icmp .ge 30, 3, 0, 0, 0), (13, .new 13, 3, 0, 0, 0), (16, .dup, 1, 0, 0, 0), (17, .invokespecial 15, 3, 0, 0, 0), (20, .ldc 16, 2, 0, 0, 0), (22, .invokevirtual 18, 3, 0, 0, 0), (25, .ldc 22, 2, 0, 0, 0), (27, .iload_n 1, 1, 0, 0, 0), (28, .invokevirtual 24, 3, 0, 0, 0), (31, .invokevirtual 30, 3, 0, 0, 0), (34, .invokevirtual 33, 3, 0, 0, 0), (37, .goto 109, 3, 0, 0, 0), (40, .iload_n 1, 1, 0, 0, 0), (41, .bipush 6, 2, 0, 0, 0), (43, .if_icmp .ne 32, 3, 0, 0, 0), (46, .new 13, 3, 0, 0, 0), (49, .dup, 1, 0, 0, 0), (50, .invokespecial 15, 3, 0, 0, 0), (53, .ldc 16, 2, 0, 0, 0), (55, .invokevirtual 18, 3, 0, 0, 0), (58, .iload_n 0, 1, 0, 0, 0), (59, .iconst 4, 1, 0, 0, 0), (60, .ishr, 1, 0, 0, 0), (61, .bipush 30, 2, 0, 0, 0), (63, .invokestatic 7, 3, 0, 0, 0), (66, .invokevirtual 37, 3, 0, 0, 0), (69, .invokevirtual 33, 3, 0, 0, 0), (72, .goto 74, 3, 0, 0, 0), (75, .iload_n 1, 1, 0, 0, 0), (76, .bipush 7, 2, 0, 0, 0), (78, .if_icmp .ne 37, 3, 0, 0, 0), (81, .new 13, 3, 0, 0, 0), (84, .dup, 1, 0, 0, 0), (85, .invokespecial 15, 3, 0, 0, 0), (88, .ldc 40, 2, 0, 0, 0), (90, .invokevirtual 18, 3, 0, 0, 0), (93, .ldc 22, 2, 0, 0, 0), (95, .iload_n 0, 1, 0, 0, 0), (96, .iconst 4, 1, 0, 0, 0), (97, .ishr, 1, 0, 0, 0), (98, .bipush 6, 2, 0, 0, 0), (100, .invokestatic 7, 3, 0, 0, 0), (103, .invokevirtual 24, 3, 0, 0, 0), (106, .invokevirtual 30, 3, 0, 0, 0), (109, .invokevirtual 33, 3, 0, 0, 0), (112, .goto 34, 3, 0, 0, 0), (115, .new 13, 3, 0, 0, 0), (118, .dup, 1, 0, 0, 0), (119, .invokespecial 15, 3, 0, 0, 0), (122, .ldc 42, 2, 0, 0, 0), (124, .invokevirtual 18, 3, 0, 0, 0), (127, .ldc 22, 2, 0, 0, 0), (129, .iload_n 0, 1, 0, 0, 0), (130, .iconst 4, 1, 0, 0, 0), (131, .ishr, 1, 0, 0, 0), (132, .bipush 6, 2, 0, 0, 0), (134, .invokestatic 7, 3, 0, 0, 0), (137, .invokevirtual 24, 3, 0, 0, 0), (140, .invokevirtual 30, 3, 0, 0, 0), (143, .invokevirtual 33, 3, 0, 0, 0), (146, .areturn, 1, 0, 0, 0)])
set_option maxRecDepth 100000 in
theorem ktL_one : fz_okK mtL_one = true := fz_okK_in (by decide +kernel)
set_option maxHeartbeats 4000000 in
set_option maxRecDepth 100000 in
theorem tt_one (D : st_D) (X : st_Xt) (ca cv : Nat → Nat) (hX : X.2.1 = kl ca) (x : Int) (hx : -2147483648 ≤ x ∧ x < 2147483648) : st_R D (kss ca cv, X.2) 7 7 6100 mtL_one 0 (lv_args 0 [.int (Int32.ofInt (x))]) [] [] 0 0 (fun ws v => ∃ (r u k : Nat) (g : Nat → Int32), sb_Fit g ∧ k ≤ 2 ∧ v = some (.ref r) ∧ ws = [(r, .inr (0, [.ref u, .int (Int32.ofInt (0)), .int (Int32.ofInt (0)), .int (Int32.ofInt (0))])), (u, .inl (D.2.2.2, k, .inl g))]) := by
  show st_R D (kss ca cv, X.2) 7 7 6100 mtL_one 0 [(0, .int (Int32.ofInt (x)))] [] _ 0 0 _
  refine st_iload_n 0 ktL_one rfl rfl ?_
  refine st_bipush ⟨by decide, by decide⟩ ktL_one rfl ?_
  refine st_callS (X' := ([], X.2)) (d' := 1) (NC' := 0) (NS' := 0) (M' := mtL_some) (n := 2) (As := [.int (Int32.ofInt (x)), .int (Int32.ofInt (9))]) (st := []) (wc := []) (wr := []) [] [] ktL_one rfl (st_has (n := 4215) rfl rfl) (st_has (n := 4217) rfl rfl) (st_has (n := 1000) rfl rfl) (st_has (n := 4216) rfl rfl) (by decide +kernel) rfl rfl (Nat.le_of_ble_eq_true rfl) (Nat.le_of_ble_eq_true rfl) (by decide) (by omega) (by omega) rfl rfl (by decide) (by decide) (by decide) ⟨rfl, fun q hq => by cases hq⟩ (tt_some D X (x) (9) ⟨by omega, by omega⟩ ⟨by omega, by omega⟩) (fun ws1 v hq => ?_)
  obtain ⟨z1, hz1, rfl, rfl⟩ := hq
  refine st_st (st' := [.int (Int32.ofInt (z1))]) rfl ?_
  refine st_ws (ws' := []) rfl ?_
  refine st_istore_n (ls' := [(1, .int (Int32.ofInt (z1))), (0, .int (Int32.ofInt (x)))]) ktL_one rfl (by decide) rfl ?_
  refine st_iload_n 0 ktL_one rfl rfl ?_
  refine st_bipush ⟨by decide, by decide⟩ ktL_one rfl ?_
  refine st_icmp_ge (tgt := 40) ⟨by omega, by omega⟩ ⟨by omega, by omega⟩ ktL_one rfl (by decide) (fun c2 => ?_) (fun c2 => ?_)
  · refine st_iload_n 0 ktL_one rfl rfl ?_
    refine st_bipush ⟨by decide, by decide⟩ ktL_one rfl ?_
    refine st_icmp_ne (tgt := 75) ⟨by omega, by omega⟩ ⟨by omega, by omega⟩ ktL_one rfl (by decide) (fun c3 => ?_) (fun c3 => ?_)
    · refine st_iload_n 0 ktL_one rfl rfl ?_
      refine st_bipush ⟨by decide, by decide⟩ ktL_one rfl ?_
      refine st_icmp_ne (tgt := 115) ⟨by omega, by omega⟩ ⟨by omega, by omega⟩ ktL_one rfl (by decide) (fun c4 => ?_) (fun c4 => ?_)
      · refine st_new (ci := 1) tyJ4 [.null, .int (Int32.ofInt (0)), .int (Int32.ofInt (0)), .int (Int32.ofInt (0))] ktL_one rfl rfl tyJ4_ok (st_has (n := 4222) rfl rfl) (st_has (n := 4223) rfl rfl) (st_has (n := 1018) rfl rfl) rfl (by omega) (by omega) (fun q5 => ?_)
        refine st_ws (ws' := [(q5, .inr (1, [.null, .int (Int32.ofInt (0)), .int (Int32.ofInt (0)), .int (Int32.ofInt (0))]))]) rfl ?_
        refine st_dup rfl ktL_one rfl ?_
        refine st_callI (x := q5) (X' := ([], X.2)) (d' := 3) (NC' := 1) (NS' := 16) (M' := mtJ4_init_da8c8) (n := 0) (As := []) (st := [.ref q5]) (wc := [(q5, .inr (1, [.null, .int (Int32.ofInt (0)), .int (Int32.ofInt (0)), .int (Int32.ofInt (0))]))]) (wr := []) [0] [] ktL_one rfl (st_has (n := 4224) rfl rfl) (st_has (n := 4226) rfl rfl) (st_has (n := 1018) rfl rfl) (st_has (n := 4225) rfl rfl) (by decide +kernel) rfl rfl rfl rfl (Nat.le_of_ble_eq_true rfl) (Nat.le_of_ble_eq_true rfl) (by decide) (by omega) (by omega) rfl rfl (by decide) (by decide) (by decide) ⟨rfl, fun q hq => by cases hq⟩ (tt_sbInit D X q5) (fun ws1 v hq => ?_)
        obtain ⟨rfl, q6, f7, hf7, rfl⟩ := hq
        refine st_st (st' := [.ref q5]) rfl ?_
        refine st_ws (ws' := [(q5, .inr (1, [.ref q6, .int (Int32.ofInt (0)), .int (Int32.ofInt (0)), .int (Int32.ofInt (0))])), (q6, .inl (D.2.2.2, 16, .inl f7))]) rfl ?_
        refine st_ldcS (tx := "-") (q := (ca 3)) rfl (by show _ ∈ X.2.1; rw [hX]; simp [kl]) ktL_one rfl ?_
        refine st_callV (x := q5) (Cn := "java/lang/StringBuilder") (X' := ([((ca 3), (cv 3), 1)], X.2)) (d' := 5) (NC' := 1) (NS' := 2002) (M' := mtJ4_append_15ec4) (n := 1) (As := [.ref (ca 3)]) (st := []) (wc := [(q5, .inr (1, [.ref q6, .int (Int32.ofInt (0)), .int (Int32.ofInt (0)), .int (Int32.ofInt (0))])), (q6, .inl (D.2.2.2, 16, .inl f7))]) (wr := []) [0, 1] [] ktL_one rfl ⟨(st_has (n := 5014) rfl rfl), (st_has (n := 5015) rfl rfl), (st_has (n := 1018) rfl rfl), Or.inl ⟨rfl, (st_has (n := 5016) rfl rfl)⟩⟩ (st_has (n := 5017) rfl rfl) (by decide +kernel) (Or.inl ⟨0, 1, _, _, _, rfl, rfl⟩) rfl rfl (Nat.le_of_ble_eq_true rfl) (Nat.le_of_ble_eq_true rfl) (by decide) (by omega) (by omega) rfl rfl (by decide) (by decide) (by decide) ⟨rfl, fun q hq => (by simp only [List.mem_cons, List.not_mem_nil, or_false] at hq; subst hq; exact Or.inl (by simp [kss]))⟩ (tt_app5S D X q5 q6 (16) (0) (ca 3) (cv 3) (1) f7 (by omega) hf7 (by omega)) (fun ws1 v hq => ?_)
        obtain ⟨q8, n9, f10, hf10, hn9, rfl, rfl⟩ := hq
        refine st_st (st' := [.ref q5]) rfl ?_
        refine st_ws (ws' := [(q5, .inr (1, [.ref q8, .int (Int32.ofInt (0)), .int (Int32.ofInt (0)), .int (Int32.ofInt ((0 + (1 : Int))))])), (q8, .inl (D.2.2.2, n9, .inl f10))]) rfl ?_
        refine st_ldcS (tx := "wadmtp") (q := (ca 1)) rfl (by show _ ∈ X.2.1; rw [hX]; simp [kl]) ktL_one rfl ?_
        refine st_iload_n 1 ktL_one rfl rfl ?_
        refine st_iconst ktL_one rfl ?_
        refine st_ishr ktL_one rfl (fun z11 hz11 => ?_)
        refine st_bipush ⟨by decide, by decide⟩ ktL_one rfl ?_
        refine st_callS (X' := ([], X.2)) (d' := 1) (NC' := 0) (NS' := 0) (M' := mtL_some) (n := 2) (As := [.int (Int32.ofInt (z11)), .int (Int32.ofInt (6))]) (st := [.ref (ca 1), .ref q5]) (wc := []) (wr := [(q5, .inr (1, [.ref q8, .int (Int32.ofInt (0)), .int (Int32.ofInt (0)), .int (Int32.ofInt ((0 + (1 : Int))))])), (q8, .inl (D.2.2.2, n9, .inl f10))]) [] [0, 1] ktL_one rfl (st_has (n := 4215) rfl rfl) (st_has (n := 4217) rfl rfl) (st_has (n := 1000) rfl rfl) (st_has (n := 4216) rfl rfl) (by decide +kernel) rfl rfl (Nat.le_of_ble_eq_true rfl) (Nat.le_of_ble_eq_true rfl) (by decide) (by omega) (by omega) rfl rfl (by decide) (by decide) (by decide) ⟨rfl, fun q hq => by cases hq⟩ (tt_some D X (z11) (6) ⟨by omega, by omega⟩ ⟨by omega, by omega⟩) (fun ws1 v hq => ?_)
        obtain ⟨z12, hz12, rfl, rfl⟩ := hq
        refine st_st (st' := [.int (Int32.ofInt (z12)), .ref (ca 1), .ref q5]) rfl ?_
        refine st_ws (ws' := [(q5, .inr (1, [.ref q8, .int (Int32.ofInt (0)), .int (Int32.ofInt (0)), .int (Int32.ofInt ((0 + (1 : Int))))])), (q8, .inl (D.2.2.2, n9, .inl f10))]) rfl ?_
        refine st_callV (x := (ca 1)) (Cn := "java/lang/String") (X' := ([((ca 1), (cv 1), 6)], X.2)) (d' := 4) (NC' := 0) (NS' := 0) (M' := mtJ0_charAt_5068e) (n := 1) (As := [.int (Int32.ofInt (z12))]) (st := [.ref q5]) (wc := []) (wr := [(q5, .inr (1, [.ref q8, .int (Int32.ofInt (0)), .int (Int32.ofInt (0)), .int (Int32.ofInt ((0 + (1 : Int))))])), (q8, .inl (D.2.2.2, n9, .inl f10))]) [] [0, 1] ktL_one rfl ⟨(st_has (n := 5135) rfl rfl), (st_has (n := 5136) rfl rfl), (st_has (n := 1019) rfl rfl), Or.inl ⟨rfl, (st_has (n := 5137) rfl rfl)⟩⟩ (st_has (n := 5138) rfl rfl) (by decide +kernel) (Or.inr ⟨rfl, (cv 1), 6, by simp [kss]⟩) rfl rfl (Nat.le_of_ble_eq_true rfl) (Nat.le_of_ble_eq_true rfl) (by decide) (by omega) (by omega) rfl rfl (by decide) (by decide) (by decide) ⟨rfl, fun q hq => (by simp only [List.mem_cons, List.not_mem_nil, or_false] at hq; subst hq; exact Or.inl (by simp [kss]))⟩ (tt_strAt D X (ca 1) (cv 1) (6) (z12) (by omega)) (fun ws1 v hq => ?_)
        obtain ⟨z13, hz13, rfl, rfl⟩ := hq
        refine st_st (st' := [.int (Int32.ofInt (z13)), .ref q5]) rfl ?_
        refine st_ws (ws' := [(q5, .inr (1, [.ref q8, .int (Int32.ofInt (0)), .int (Int32.ofInt (0)), .int (Int32.ofInt ((0 + (1 : Int))))])), (q8, .inl (D.2.2.2, n9, .inl f10))]) rfl ?_
        refine st_callV (x := q5) (Cn := "java/lang/StringBuilder") (X' := ([], X.2)) (d' := 5) (NC' := 1) (NS' := 2002) (M' := mtJ4_append_cf468) (n := 1) (As := [.int (Int32.ofInt (z13))]) (st := []) (wc := [(q5, .inr (1, [.ref q8, .int (Int32.ofInt (0)), .int (Int32.ofInt (0)), .int (Int32.ofInt ((0 + (1 : Int))))])), (q8, .inl (D.2.2.2, n9, .inl f10))]) (wr := []) [0, 1] [] ktL_one rfl ⟨(st_has (n := 5162) rfl rfl), (st_has (n := 5163) rfl rfl), (st_has (n := 1018) rfl rfl), Or.inl ⟨rfl, (st_has (n := 5164) rfl rfl)⟩⟩ (st_has (n := 5165) rfl rfl) (by decide +kernel) (Or.inl ⟨0, 1, _, _, _, rfl, rfl⟩) rfl rfl (Nat.le_of_ble_eq_true rfl) (Nat.le_of_ble_eq_true rfl) (by decide) (by omega) (by omega) rfl rfl (by decide) (by decide) (by decide) ⟨rfl, fun q hq => by cases hq⟩ (tt_app5C D X q5 q8 (n9) ((0 + (1 : Int))) (z13) f10 (by omega) hf10 (by omega)) (fun ws1 v hq => ?_)
        obtain ⟨q14, n15, f16, hf16, hn15, rfl, rfl⟩ := hq
        refine st_st (st' := [.ref q5]) rfl ?_
        refine st_ws (ws' := [(q5, .inr (1, [.ref q14, .int (Int32.ofInt (0)), .int (Int32.ofInt (0)), .int (Int32.ofInt (((0 + (1 : Int)) + 1)))])), (q14, .inl (D.2.2.2, n15, .inl f16))]) rfl ?_
        refine st_callV (x := q5) (Cn := "java/lang/StringBuilder") (X' := ([], X.2)) (d' := 6) (NC' := 2) (NS' := 2006) (M' := mtJ4_toString_0e30d) (n := 0) (As := []) (st := []) (wc := [(q5, .inr (1, [.ref q14, .int (Int32.ofInt (0)), .int (Int32.ofInt (0)), .int (Int32.ofInt (((0 + (1 : Int)) + 1)))])), (q14, .inl (D.2.2.2, n15, .inl f16))]) (wr := []) [0, 1] [] ktL_one rfl ⟨(st_has (n := 5175) rfl rfl), (st_has (n := 5176) rfl rfl), (st_has (n := 1018) rfl rfl), Or.inl ⟨rfl, (st_has (n := 5177) rfl rfl)⟩⟩ (st_has (n := 5178) rfl rfl) (by decide +kernel) (Or.inl ⟨0, 1, _, _, _, rfl, rfl⟩) rfl rfl (Nat.le_of_ble_eq_true rfl) (Nat.le_of_ble_eq_true rfl) (by decide) (by omega) (by omega) rfl rfl (by decide) (by decide) (by decide) ⟨rfl, fun q hq => by cases hq⟩ (tt_toS D X q5 q14 (n15) (((0 + (1 : Int)) + 1)) f16 hf16 (by omega)) (fun ws1 v hq => ?_)
        obtain ⟨r17, u18, k19, g20, hg20, hk19, rfl, rfl⟩ := hq
        refine st_st (st' := [.ref r17]) rfl ?_
        refine st_ws (ws' := [(r17, .inr (0, [.ref u18, .int (Int32.ofInt (0)), .int (Int32.ofInt (0)), .int (Int32.ofInt (0))])), (u18, .inl (D.2.2.2, k19, .inl g20))]) rfl ?_
        exact st_areturn (ty := (.object "java/lang/String")) ktL_one rfl rfl (Or.inl ⟨_, rfl⟩) (by omega) (by omega) ⟨_, _, _, _, hg20, by omega, rfl, rfl⟩
      · refine st_new (ci := 1) tyJ4 [.null, .int (Int32.ofInt (0)), .int (Int32.ofInt (0)), .int (Int32.ofInt (0))] ktL_one rfl rfl tyJ4_ok (st_has (n := 4222) rfl rfl) (st_has (n := 4223) rfl rfl) (st_has (n := 1018) rfl rfl) rfl (by omega) (by omega) (fun q21 => ?_)
        refine st_ws (ws' := [(q21, .inr (1, [.null, .int (Int32.ofInt (0)), .int (Int32.ofInt (0)), .int (Int32.ofInt (0))]))]) rfl ?_
        refine st_dup rfl ktL_one rfl ?_
        refine st_callI (x := q21) (X' := ([], X.2)) (d' := 3) (NC' := 1) (NS' := 16) (M' := mtJ4_init_da8c8) (n := 0) (As := []) (st := [.ref q21]) (wc := [(q21, .inr (1, [.null, .int (Int32.ofInt (0)), .int (Int32.ofInt (0)), .int (Int32.ofInt (0))]))]) (wr := []) [0] [] ktL_one rfl (st_has (n := 4224) rfl rfl) (st_has (n := 4226) rfl rfl) (st_has (n := 1018) rfl rfl) (st_has (n := 4225) rfl rfl) (by decide +kernel) rfl rfl rfl rfl (Nat.le_of_ble_eq_true rfl) (Nat.le_of_ble_eq_true rfl) (by decide) (by omega) (by omega) rfl rfl (by decide) (by decide) (by decide) ⟨rfl, fun q hq => by cases hq⟩ (tt_sbInit D X q21) (fun ws1 v hq => ?_)
        obtain ⟨rfl, q22, f23, hf23, rfl⟩ := hq
        refine st_st (st' := [.ref q21]) rfl ?_
        refine st_ws (ws' := [(q21, .inr (1, [.ref q22, .int (Int32.ofInt (0)), .int (Int32.ofInt (0)), .int (Int32.ofInt (0))])), (q22, .inl (D.2.2.2, 16, .inl f23))]) rfl ?_
        refine st_ldcS (tx := "!") (q := (ca 2)) rfl (by show _ ∈ X.2.1; rw [hX]; simp [kl]) ktL_one rfl ?_
        refine st_callV (x := q21) (Cn := "java/lang/StringBuilder") (X' := ([((ca 2), (cv 2), 1)], X.2)) (d' := 5) (NC' := 1) (NS' := 2002) (M' := mtJ4_append_15ec4) (n := 1) (As := [.ref (ca 2)]) (st := []) (wc := [(q21, .inr (1, [.ref q22, .int (Int32.ofInt (0)), .int (Int32.ofInt (0)), .int (Int32.ofInt (0))])), (q22, .inl (D.2.2.2, 16, .inl f23))]) (wr := []) [0, 1] [] ktL_one rfl ⟨(st_has (n := 5014) rfl rfl), (st_has (n := 5015) rfl rfl), (st_has (n := 1018) rfl rfl), Or.inl ⟨rfl, (st_has (n := 5016) rfl rfl)⟩⟩ (st_has (n := 5017) rfl rfl) (by decide +kernel) (Or.inl ⟨0, 1, _, _, _, rfl, rfl⟩) rfl rfl (Nat.le_of_ble_eq_true rfl) (Nat.le_of_ble_eq_true rfl) (by decide) (by omega) (by omega) rfl rfl (by decide) (by decide) (by decide) ⟨rfl, fun q hq => (by simp only [List.mem_cons, List.not_mem_nil, or_false] at hq; subst hq; exact Or.inl (by simp [kss]))⟩ (tt_app5S D X q21 q22 (16) (0) (ca 2) (cv 2) (1) f23 (by omega) hf23 (by omega)) (fun ws1 v hq => ?_)
        obtain ⟨q24, n25, f26, hf26, hn25, rfl, rfl⟩ := hq
        refine st_st (st' := [.ref q21]) rfl ?_
        refine st_ws (ws' := [(q21, .inr (1, [.ref q24, .int (Int32.ofInt (0)), .int (Int32.ofInt (0)), .int (Int32.ofInt ((0 + (1 : Int))))])), (q24, .inl (D.2.2.2, n25, .inl f26))]) rfl ?_
        refine st_ldcS (tx := "wadmtp") (q := (ca 1)) rfl (by show _ ∈ X.2.1; rw [hX]; simp [kl]) ktL_one rfl ?_
        refine st_iload_n 1 ktL_one rfl rfl ?_
        refine st_iconst ktL_one rfl ?_
        refine st_ishr ktL_one rfl (fun z27 hz27 => ?_)
        refine st_bipush ⟨by decide, by decide⟩ ktL_one rfl ?_
        refine st_callS (X' := ([], X.2)) (d' := 1) (NC' := 0) (NS' := 0) (M' := mtL_some) (n := 2) (As := [.int (Int32.ofInt (z27)), .int (Int32.ofInt (6))]) (st := [.ref (ca 1), .ref q21]) (wc := []) (wr := [(q21, .inr (1, [.ref q24, .int (Int32.ofInt (0)), .int (Int32.ofInt (0)), .int (Int32.ofInt ((0 + (1 : Int))))])), (q24, .inl (D.2.2.2, n25, .inl f26))]) [] [0, 1] ktL_one rfl (st_has (n := 4215) rfl rfl) (st_has (n := 4217) rfl rfl) (st_has (n := 1000) rfl rfl) (st_has (n := 4216) rfl rfl) (by decide +kernel) rfl rfl (Nat.le_of_ble_eq_true rfl) (Nat.le_of_ble_eq_true rfl) (by decide) (by omega) (by omega) rfl rfl (by decide) (by decide) (by decide) ⟨rfl, fun q hq => by cases hq⟩ (tt_some D X (z27) (6) ⟨by omega, by omega⟩ ⟨by omega, by omega⟩) (fun ws1 v hq => ?_)
        obtain ⟨z28, hz28, rfl, rfl⟩ := hq
        refine st_st (st' := [.int (Int32.ofInt (z28)), .ref (ca 1), .ref q21]) rfl ?_
        refine st_ws (ws' := [(q21, .inr (1, [.ref q24, .int (Int32.ofInt (0)), .int (Int32.ofInt (0)), .int (Int32.ofInt ((0 + (1 : Int))))])), (q24, .inl (D.2.2.2, n25, .inl f26))]) rfl ?_
        refine st_callV (x := (ca 1)) (Cn := "java/lang/String") (X' := ([((ca 1), (cv 1), 6)], X.2)) (d' := 4) (NC' := 0) (NS' := 0) (M' := mtJ0_charAt_5068e) (n := 1) (As := [.int (Int32.ofInt (z28))]) (st := [.ref q21]) (wc := []) (wr := [(q21, .inr (1, [.ref q24, .int (Int32.ofInt (0)), .int (Int32.ofInt (0)), .int (Int32.ofInt ((0 + (1 : Int))))])), (q24, .inl (D.2.2.2, n25, .inl f26))]) [] [0, 1] ktL_one rfl ⟨(st_has (n := 5135) rfl rfl), (st_has (n := 5136) rfl rfl), (st_has (n := 1019) rfl rfl), Or.inl ⟨rfl, (st_has (n := 5137) rfl rfl)⟩⟩ (st_has (n := 5138) rfl rfl) (by decide +kernel) (Or.inr ⟨rfl, (cv 1), 6, by simp [kss]⟩) rfl rfl (Nat.le_of_ble_eq_true rfl) (Nat.le_of_ble_eq_true rfl) (by decide) (by omega) (by omega) rfl rfl (by decide) (by decide) (by decide) ⟨rfl, fun q hq => (by simp only [List.mem_cons, List.not_mem_nil, or_false] at hq; subst hq; exact Or.inl (by simp [kss]))⟩ (tt_strAt D X (ca 1) (cv 1) (6) (z28) (by omega)) (fun ws1 v hq => ?_)
        obtain ⟨z29, hz29, rfl, rfl⟩ := hq
        refine st_st (st' := [.int (Int32.ofInt (z29)), .ref q21]) rfl ?_
        refine st_ws (ws' := [(q21, .inr (1, [.ref q24, .int (Int32.ofInt (0)), .int (Int32.ofInt (0)), .int (Int32.ofInt ((0 + (1 : Int))))])), (q24, .inl (D.2.2.2, n25, .inl f26))]) rfl ?_
        refine st_callV (x := q21) (Cn := "java/lang/StringBuilder") (X' := ([], X.2)) (d' := 5) (NC' := 1) (NS' := 2002) (M' := mtJ4_append_cf468) (n := 1) (As := [.int (Int32.ofInt (z29))]) (st := []) (wc := [(q21, .inr (1, [.ref q24, .int (Int32.ofInt (0)), .int (Int32.ofInt (0)), .int (Int32.ofInt ((0 + (1 : Int))))])), (q24, .inl (D.2.2.2, n25, .inl f26))]) (wr := []) [0, 1] [] ktL_one rfl ⟨(st_has (n := 5162) rfl rfl), (st_has (n := 5163) rfl rfl), (st_has (n := 1018) rfl rfl), Or.inl ⟨rfl, (st_has (n := 5164) rfl rfl)⟩⟩ (st_has (n := 5165) rfl rfl) (by decide +kernel) (Or.inl ⟨0, 1, _, _, _, rfl, rfl⟩) rfl rfl (Nat.le_of_ble_eq_true rfl) (Nat.le_of_ble_eq_true rfl) (by decide) (by omega) (by omega) rfl rfl (by decide) (by decide) (by decide) ⟨rfl, fun q hq => by cases hq⟩ (tt_app5C D X q21 q24 (n25) ((0 + (1 : Int))) (z29) f26 (by omega) hf26 (by omega)) (fun ws1 v hq => ?_)
        obtain ⟨q30, n31, f32, hf32, hn31, rfl, rfl⟩ := hq
        refine st_st (st' := [.ref q21]) rfl ?_
        refine st_ws (ws' := [(q21, .inr (1, [.ref q30, .int (Int32.ofInt (0)), .int (Int32.ofInt (0)), .int (Int32.ofInt (((0 + (1 : Int)) + 1)))])), (q30, .inl (D.2.2.2, n31, .inl f32))]) rfl ?_
        refine st_callV (x := q21) (Cn := "java/lang/StringBuilder") (X' := ([], X.2)) (d' := 6) (NC' := 2) (NS' := 2006) (M' := mtJ4_toString_0e30d) (n := 0) (As := []) (st := []) (wc := [(q21, .inr (1, [.ref q30, .int (Int32.ofInt (0)), .int (Int32.ofInt (0)), .int (Int32.ofInt (((0 + (1 : Int)) + 1)))])), (q30, .inl (D.2.2.2, n31, .inl f32))]) (wr := []) [0, 1] [] ktL_one rfl ⟨(st_has (n := 5175) rfl rfl), (st_has (n := 5176) rfl rfl), (st_has (n := 1018) rfl rfl), Or.inl ⟨rfl, (st_has (n := 5177) rfl rfl)⟩⟩ (st_has (n := 5178) rfl rfl) (by decide +kernel) (Or.inl ⟨0, 1, _, _, _, rfl, rfl⟩) rfl rfl (Nat.le_of_ble_eq_true rfl) (Nat.le_of_ble_eq_true rfl) (by decide) (by omega) (by omega) rfl rfl (by decide) (by decide) (by decide) ⟨rfl, fun q hq => by cases hq⟩ (tt_toS D X q21 q30 (n31) (((0 + (1 : Int)) + 1)) f32 hf32 (by omega)) (fun ws1 v hq => ?_)
        obtain ⟨r33, u34, k35, g36, hg36, hk35, rfl, rfl⟩ := hq
        refine st_st (st' := [.ref r33]) rfl ?_
        refine st_ws (ws' := [(r33, .inr (0, [.ref u34, .int (Int32.ofInt (0)), .int (Int32.ofInt (0)), .int (Int32.ofInt (0))])), (u34, .inl (D.2.2.2, k35, .inl g36))]) rfl ?_
        refine st_goto (tgt := 146) ktL_one rfl (by decide) ?_
        exact st_areturn (ty := (.object "java/lang/String")) ktL_one rfl rfl (Or.inl ⟨_, rfl⟩) (by omega) (by omega) ⟨_, _, _, _, hg36, by omega, rfl, rfl⟩
    · refine st_new (ci := 1) tyJ4 [.null, .int (Int32.ofInt (0)), .int (Int32.ofInt (0)), .int (Int32.ofInt (0))] ktL_one rfl rfl tyJ4_ok (st_has (n := 4222) rfl rfl) (st_has (n := 4223) rfl rfl) (st_has (n := 1018) rfl rfl) rfl (by omega) (by omega) (fun q37 => ?_)
      refine st_ws (ws' := [(q37, .inr (1, [.null, .int (Int32.ofInt (0)), .int (Int32.ofInt (0)), .int (Int32.ofInt (0))]))]) rfl ?_
      refine st_dup rfl ktL_one rfl ?_
      refine st_callI (x := q37) (X' := ([], X.2)) (d' := 3) (NC' := 1) (NS' := 16) (M' := mtJ4_init_da8c8) (n := 0) (As := []) (st := [.ref q37]) (wc := [(q37, .inr (1, [.null, .int (Int32.ofInt (0)), .int (Int32.ofInt (0)), .int (Int32.ofInt (0))]))]) (wr := []) [0] [] ktL_one rfl (st_has (n := 4224) rfl rfl) (st_has (n := 4226) rfl rfl) (st_has (n := 1018) rfl rfl) (st_has (n := 4225) rfl rfl) (by decide +kernel) rfl rfl rfl rfl (Nat.le_of_ble_eq_true rfl) (Nat.le_of_ble_eq_true rfl) (by decide) (by omega) (by omega) rfl rfl (by decide) (by decide) (by decide) ⟨rfl, fun q hq => by cases hq⟩ (tt_sbInit D X q37) (fun ws1 v hq => ?_)
      obtain ⟨rfl, q38, f39, hf39, rfl⟩ := hq
      refine st_st (st' := [.ref q37]) rfl ?_
      refine st_ws (ws' := [(q37, .inr (1, [.ref q38, .int (Int32.ofInt (0)), .int (Int32.ofInt (0)), .int (Int32.ofInt (0))])), (q38, .inl (D.2.2.2, 16, .inl f39))]) rfl ?_
      refine st_ldcS (tx := "") (q := (ca 0)) rfl (by show _ ∈ X.2.1; rw [hX]; simp [kl]) ktL_one rfl ?_
      refine st_callV (x := q37) (Cn := "java/lang/StringBuilder") (X' := ([((ca 0), (cv 0), 0)], X.2)) (d' := 5) (NC' := 1) (NS' := 2002) (M' := mtJ4_append_15ec4) (n := 1) (As := [.ref (ca 0)]) (st := []) (wc := [(q37, .inr (1, [.ref q38, .int (Int32.ofInt (0)), .int (Int32.ofInt (0)), .int (Int32.ofInt (0))])), (q38, .inl (D.2.2.2, 16, .inl f39))]) (wr := []) [0, 1] [] ktL_one rfl ⟨(st_has (n := 5014) rfl rfl), (st_has (n := 5015) rfl rfl), (st_has (n := 1018) rfl rfl), Or.inl ⟨rfl, (st_has (n := 5016) rfl rfl)⟩⟩ (st_has (n := 5017) rfl rfl) (by decide +kernel) (Or.inl ⟨0, 1, _, _, _, rfl, rfl⟩) rfl rfl (Nat.le_of_ble_eq_true rfl) (Nat.le_of_ble_eq_true rfl) (by decide) (by omega) (by omega) rfl rfl (by decide) (by decide) (by decide) ⟨rfl, fun q hq => (by simp only [List.mem_cons, List.not_mem_nil, or_false] at hq; subst hq; exact Or.inl (by simp [kss]))⟩ (tt_app5S D X q37 q38 (16) (0) (ca 0) (cv 0) (0) f39 (by omega) hf39 (by omega)) (fun ws1 v hq => ?_)
      obtain ⟨q40, n41, f42, hf42, hn41, rfl, rfl⟩ := hq
      refine st_st (st' := [.ref q37]) rfl ?_
      refine st_ws (ws' := [(q37, .inr (1, [.ref q40, .int (Int32.ofInt (0)), .int (Int32.ofInt (0)), .int (Int32.ofInt ((0 + (0 : Int))))])), (q40, .inl (D.2.2.2, n41, .inl f42))]) rfl ?_
      refine st_iload_n 1 ktL_one rfl rfl ?_
      refine st_iconst ktL_one rfl ?_
      refine st_ishr ktL_one rfl (fun z43 hz43 => ?_)
      refine st_bipush ⟨by decide, by decide⟩ ktL_one rfl ?_
      refine st_callS (X' := ([], X.2)) (d' := 1) (NC' := 0) (NS' := 0) (M' := mtL_some) (n := 2) (As := [.int (Int32.ofInt (z43)), .int (Int32.ofInt (30))]) (st := [.ref q37]) (wc := []) (wr := [(q37, .inr (1, [.ref q40, .int (Int32.ofInt (0)), .int (Int32.ofInt (0)), .int (Int32.ofInt ((0 + (0 : Int))))])), (q40, .inl (D.2.2.2, n41, .inl f42))]) [] [0, 1] ktL_one rfl (st_has (n := 4215) rfl rfl) (st_has (n := 4217) rfl rfl) (st_has (n := 1000) rfl rfl) (st_has (n := 4216) rfl rfl) (by decide +kernel) rfl rfl (Nat.le_of_ble_eq_true rfl) (Nat.le_of_ble_eq_true rfl) (by decide) (by omega) (by omega) rfl rfl (by decide) (by decide) (by decide) ⟨rfl, fun q hq => by cases hq⟩ (tt_some D X (z43) (30) ⟨by omega, by omega⟩ ⟨by omega, by omega⟩) (fun ws1 v hq => ?_)
      obtain ⟨z44, hz44, rfl, rfl⟩ := hq
      refine st_st (st' := [.int (Int32.ofInt (z44)), .ref q37]) rfl ?_
      refine st_ws (ws' := [(q37, .inr (1, [.ref q40, .int (Int32.ofInt (0)), .int (Int32.ofInt (0)), .int (Int32.ofInt ((0 + (0 : Int))))])), (q40, .inl (D.2.2.2, n41, .inl f42))]) rfl ?_
      refine st_callV (x := q37) (Cn := "java/lang/StringBuilder") (X' := ([], X.2)) (d' := 5) (NC' := 1) (NS' := 2002) (M' := mtJ4_append_bf812) (n := 1) (As := [.int (Int32.ofInt (z44))]) (st := []) (wc := [(q37, .inr (1, [.ref q40, .int (Int32.ofInt (0)), .int (Int32.ofInt (0)), .int (Int32.ofInt ((0 + (0 : Int))))])), (q40, .inl (D.2.2.2, n41, .inl f42))]) (wr := []) [0, 1] [] ktL_one rfl ⟨(st_has (n := 5232) rfl rfl), (st_has (n := 5233) rfl rfl), (st_has (n := 1018) rfl rfl), Or.inl ⟨rfl, (st_has (n := 5234) rfl rfl)⟩⟩ (st_has (n := 5235) rfl rfl) (by decide +kernel) (Or.inl ⟨0, 1, _, _, _, rfl, rfl⟩) rfl rfl (Nat.le_of_ble_eq_true rfl) (Nat.le_of_ble_eq_true rfl) (by decide) (by omega) (by omega) rfl rfl (by decide) (by decide) (by decide) ⟨rfl, fun q hq => by cases hq⟩ (tt_app5I D X q37 q40 (n41) ((0 + (0 : Int))) (z44) f42 (by omega) hf42 (by omega)) (fun ws1 v hq => ?_)
      obtain ⟨q45, n46, c48, f47, hf47, hn46, rfl, rfl⟩ := hq
      refine st_st (st' := [.ref q37]) rfl ?_
      refine st_ws (ws' := [(q37, .inr (1, [.ref q45, .int (Int32.ofInt (0)), .int (Int32.ofInt (0)), .int (Int32.ofInt (c48))])), (q45, .inl (D.2.2.2, n46, .inl f47))]) rfl ?_
      refine st_callV (x := q37) (Cn := "java/lang/StringBuilder") (X' := ([], X.2)) (d' := 6) (NC' := 2) (NS' := 2006) (M' := mtJ4_toString_0e30d) (n := 0) (As := []) (st := []) (wc := [(q37, .inr (1, [.ref q45, .int (Int32.ofInt (0)), .int (Int32.ofInt (0)), .int (Int32.ofInt (c48))])), (q45, .inl (D.2.2.2, n46, .inl f47))]) (wr := []) [0, 1] [] ktL_one rfl ⟨(st_has (n := 5175) rfl rfl), (st_has (n := 5176) rfl rfl), (st_has (n := 1018) rfl rfl), Or.inl ⟨rfl, (st_has (n := 5177) rfl rfl)⟩⟩ (st_has (n := 5178) rfl rfl) (by decide +kernel) (Or.inl ⟨0, 1, _, _, _, rfl, rfl⟩) rfl rfl (Nat.le_of_ble_eq_true rfl) (Nat.le_of_ble_eq_true rfl) (by decide) (by omega) (by omega) rfl rfl (by decide) (by decide) (by decide) ⟨rfl, fun q hq => by cases hq⟩ (tt_toS D X q37 q45 (n46) (c48) f47 hf47 (by omega)) (fun ws1 v hq => ?_)
      obtain ⟨r49, u50, k51, g52, hg52, hk51, rfl, rfl⟩ := hq
      refine st_st (st' := [.ref r49]) rfl ?_
      refine st_ws (ws' := [(r49, .inr (0, [.ref u50, .int (Int32.ofInt (0)), .int (Int32.ofInt (0)), .int (Int32.ofInt (0))])), (u50, .inl (D.2.2.2, k51, .inl g52))]) rfl ?_
      refine st_goto (tgt := 146) ktL_one rfl (by decide) ?_
      exact st_areturn (ty := (.object "java/lang/String")) ktL_one rfl rfl (Or.inl ⟨_, rfl⟩) (by omega) (by omega) ⟨_, _, _, _, hg52, by omega, rfl, rfl⟩
  · refine st_new (ci := 1) tyJ4 [.null, .int (Int32.ofInt (0)), .int (Int32.ofInt (0)), .int (Int32.ofInt (0))] ktL_one rfl rfl tyJ4_ok (st_has (n := 4222) rfl rfl) (st_has (n := 4223) rfl rfl) (st_has (n := 1018) rfl rfl) rfl (by omega) (by omega) (fun q53 => ?_)
    refine st_ws (ws' := [(q53, .inr (1, [.null, .int (Int32.ofInt (0)), .int (Int32.ofInt (0)), .int (Int32.ofInt (0))]))]) rfl ?_
    refine st_dup rfl ktL_one rfl ?_
    refine st_callI (x := q53) (X' := ([], X.2)) (d' := 3) (NC' := 1) (NS' := 16) (M' := mtJ4_init_da8c8) (n := 0) (As := []) (st := [.ref q53]) (wc := [(q53, .inr (1, [.null, .int (Int32.ofInt (0)), .int (Int32.ofInt (0)), .int (Int32.ofInt (0))]))]) (wr := []) [0] [] ktL_one rfl (st_has (n := 4224) rfl rfl) (st_has (n := 4226) rfl rfl) (st_has (n := 1018) rfl rfl) (st_has (n := 4225) rfl rfl) (by decide +kernel) rfl rfl rfl rfl (Nat.le_of_ble_eq_true rfl) (Nat.le_of_ble_eq_true rfl) (by decide) (by omega) (by omega) rfl rfl (by decide) (by decide) (by decide) ⟨rfl, fun q hq => by cases hq⟩ (tt_sbInit D X q53) (fun ws1 v hq => ?_)
    obtain ⟨rfl, q54, f55, hf55, rfl⟩ := hq
    refine st_st (st' := [.ref q53]) rfl ?_
    refine st_ws (ws' := [(q53, .inr (1, [.ref q54, .int (Int32.ofInt (0)), .int (Int32.ofInt (0)), .int (Int32.ofInt (0))])), (q54, .inl (D.2.2.2, 16, .inl f55))]) rfl ?_
    refine st_ldcS (tx := "") (q := (ca 0)) rfl (by show _ ∈ X.2.1; rw [hX]; simp [kl]) ktL_one rfl ?_
    refine st_callV (x := q53) (Cn := "java/lang/StringBuilder") (X' := ([((ca 0), (cv 0), 0)], X.2)) (d' := 5) (NC' := 1) (NS' := 2002) (M' := mtJ4_append_15ec4) (n := 1) (As := [.ref (ca 0)]) (st := []) (wc := [(q53, .inr (1, [.ref q54, .int (Int32.ofInt (0)), .int (Int32.ofInt (0)), .int (Int32.ofInt (0))])), (q54, .inl (D.2.2.2, 16, .inl f55))]) (wr := []) [0, 1] [] ktL_one rfl ⟨(st_has (n := 5014) rfl rfl), (st_has (n := 5015) rfl rfl), (st_has (n := 1018) rfl rfl), Or.inl ⟨rfl, (st_has (n := 5016) rfl rfl)⟩⟩ (st_has (n := 5017) rfl rfl) (by decide +kernel) (Or.inl ⟨0, 1, _, _, _, rfl, rfl⟩) rfl rfl (Nat.le_of_ble_eq_true rfl) (Nat.le_of_ble_eq_true rfl) (by decide) (by omega) (by omega) rfl rfl (by decide) (by decide) (by decide) ⟨rfl, fun q hq => (by simp only [List.mem_cons, List.not_mem_nil, or_false] at hq; subst hq; exact Or.inl (by simp [kss]))⟩ (tt_app5S D X q53 q54 (16) (0) (ca 0) (cv 0) (0) f55 (by omega) hf55 (by omega)) (fun ws1 v hq => ?_)
    obtain ⟨q56, n57, f58, hf58, hn57, rfl, rfl⟩ := hq
    refine st_st (st' := [.ref q53]) rfl ?_
    refine st_ws (ws' := [(q53, .inr (1, [.ref q56, .int (Int32.ofInt (0)), .int (Int32.ofInt (0)), .int (Int32.ofInt ((0 + (0 : Int))))])), (q56, .inl (D.2.2.2, n57, .inl f58))]) rfl ?_
    refine st_ldcS (tx := "wadmtp") (q := (ca 1)) rfl (by show _ ∈ X.2.1; rw [hX]; simp [kl]) ktL_one rfl ?_
    refine st_iload_n 0 ktL_one rfl rfl ?_
    refine st_callV (x := (ca 1)) (Cn := "java/lang/String") (X' := ([((ca 1), (cv 1), 6)], X.2)) (d' := 4) (NC' := 0) (NS' := 0) (M' := mtJ0_charAt_5068e) (n := 1) (As := [.int (Int32.ofInt (z1))]) (st := [.ref q53]) (wc := []) (wr := [(q53, .inr (1, [.ref q56, .int (Int32.ofInt (0)), .int (Int32.ofInt (0)), .int (Int32.ofInt ((0 + (0 : Int))))])), (q56, .inl (D.2.2.2, n57, .inl f58))]) [] [0, 1] ktL_one rfl ⟨(st_has (n := 5135) rfl rfl), (st_has (n := 5136) rfl rfl), (st_has (n := 1019) rfl rfl), Or.inl ⟨rfl, (st_has (n := 5137) rfl rfl)⟩⟩ (st_has (n := 5138) rfl rfl) (by decide +kernel) (Or.inr ⟨rfl, (cv 1), 6, by simp [kss]⟩) rfl rfl (Nat.le_of_ble_eq_true rfl) (Nat.le_of_ble_eq_true rfl) (by decide) (by omega) (by omega) rfl rfl (by decide) (by decide) (by decide) ⟨rfl, fun q hq => (by simp only [List.mem_cons, List.not_mem_nil, or_false] at hq; subst hq; exact Or.inl (by simp [kss]))⟩ (tt_strAt D X (ca 1) (cv 1) (6) (z1) (by omega)) (fun ws1 v hq => ?_)
    obtain ⟨z59, hz59, rfl, rfl⟩ := hq
    refine st_st (st' := [.int (Int32.ofInt (z59)), .ref q53]) rfl ?_
    refine st_ws (ws' := [(q53, .inr (1, [.ref q56, .int (Int32.ofInt (0)), .int (Int32.ofInt (0)), .int (Int32.ofInt ((0 + (0 : Int))))])), (q56, .inl (D.2.2.2, n57, .inl f58))]) rfl ?_
    refine st_callV (x := q53) (Cn := "java/lang/StringBuilder") (X' := ([], X.2)) (d' := 5) (NC' := 1) (NS' := 2002) (M' := mtJ4_append_cf468) (n := 1) (As := [.int (Int32.ofInt (z59))]) (st := []) (wc := [(q53, .inr (1, [.ref q56, .int (Int32.ofInt (0)), .int (Int32.ofInt (0)), .int (Int32.ofInt ((0 + (0 : Int))))])), (q56, .inl (D.2.2.2, n57, .inl f58))]) (wr := []) [0, 1] [] ktL_one rfl ⟨(st_has (n := 5162) rfl rfl), (st_has (n := 5163) rfl rfl), (st_has (n := 1018) rfl rfl), Or.inl ⟨rfl, (st_has (n := 5164) rfl rfl)⟩⟩ (st_has (n := 5165) rfl rfl) (by decide +kernel) (Or.inl ⟨0, 1, _, _, _, rfl, rfl⟩) rfl rfl (Nat.le_of_ble_eq_true rfl) (Nat.le_of_ble_eq_true rfl) (by decide) (by omega) (by omega) rfl rfl (by decide) (by decide) (by decide) ⟨rfl, fun q hq => by cases hq⟩ (tt_app5C D X q53 q56 (n57) ((0 + (0 : Int))) (z59) f58 (by omega) hf58 (by omega)) (fun ws1 v hq => ?_)
    obtain ⟨q60, n61, f62, hf62, hn61, rfl, rfl⟩ := hq
    refine st_st (st' := [.ref q53]) rfl ?_
    refine st_ws (ws' := [(q53, .inr (1, [.ref q60, .int (Int32.ofInt (0)), .int (Int32.ofInt (0)), .int (Int32.ofInt (((0 + (0 : Int)) + 1)))])), (q60, .inl (D.2.2.2, n61, .inl f62))]) rfl ?_
    refine st_callV (x := q53) (Cn := "java/lang/StringBuilder") (X' := ([], X.2)) (d' := 6) (NC' := 2) (NS' := 2006) (M' := mtJ4_toString_0e30d) (n := 0) (As := []) (st := []) (wc := [(q53, .inr (1, [.ref q60, .int (Int32.ofInt (0)), .int (Int32.ofInt (0)), .int (Int32.ofInt (((0 + (0 : Int)) + 1)))])), (q60, .inl (D.2.2.2, n61, .inl f62))]) (wr := []) [0, 1] [] ktL_one rfl ⟨(st_has (n := 5175) rfl rfl), (st_has (n := 5176) rfl rfl), (st_has (n := 1018) rfl rfl), Or.inl ⟨rfl, (st_has (n := 5177) rfl rfl)⟩⟩ (st_has (n := 5178) rfl rfl) (by decide +kernel) (Or.inl ⟨0, 1, _, _, _, rfl, rfl⟩) rfl rfl (Nat.le_of_ble_eq_true rfl) (Nat.le_of_ble_eq_true rfl) (by decide) (by omega) (by omega) rfl rfl (by decide) (by decide) (by decide) ⟨rfl, fun q hq => by cases hq⟩ (tt_toS D X q53 q60 (n61) (((0 + (0 : Int)) + 1)) f62 hf62 (by omega)) (fun ws1 v hq => ?_)
    obtain ⟨r63, u64, k65, g66, hg66, hk65, rfl, rfl⟩ := hq
    refine st_st (st' := [.ref r63]) rfl ?_
    refine st_ws (ws' := [(r63, .inr (0, [.ref u64, .int (Int32.ofInt (0)), .int (Int32.ofInt (0)), .int (Int32.ofInt (0))])), (u64, .inl (D.2.2.2, k65, .inl g66))]) rfl ?_
    refine st_goto (tgt := 146) ktL_one rfl (by decide) ?_
    exact st_areturn (ty := (.object "java/lang/String")) ktL_one rfl rfl (Or.inl ⟨_, rfl⟩) (by omega) (by omega) ⟨_, _, _, _, hg66, by omega, rfl, rfl⟩
def mtL_says : fz_M := (yL_says, method_5_code, 5, (some (.object "java/lang/String")), [(0, .iload_n 0, 1, 0, 0, 0), (1, .invokestatic 44, 3, 0, 0, 0), (4, .astore_n 2, 1, 0, 0, 0), (5, .iload_n 1, 1, 0, 0, 0), (6, .invokestatic 44, 3, 0, 0, 0), (9, .astore_n 3, 1, 0, 0, 0), (10, .iload_n 0, 1, 0, 0, 0), (11, .bipush 8, 2, 0, 0, 0), (13, .ishr, 1, 0, 0, 0), (14, .bipush 11, 2, 0, 0, 0), (16, .invokestatic 7, 3, 0, 0, 0), (19, .istore 4, 2, 0, 0, 0), (21, .iload 4, 2, 0, 0, 0), (23, .ifCond .ne 7, 3, 0, 0, 0), (26, .aload_n 2, 1, 0, 0, 0), (27, .goto 152, 3, 0, 0, 0), (30, .iload 4, 2, 0, 0, 0), (32, .bipush 9, 2, 0, 0, 0), (34, .if_icmp .ge 41, 3, 0, 0, 0), (37, .new 13, 3, 0, 0, 0), (40, .dup, 1, 0, 0, 0), (41, .invokespecial 15, 3, 0, 0, 0), (44, .aload_n 2, 1, 0, 0, 0), (45, .invokevirtual 18, 3, 0, 0, 0), (48, .ldc 48, 2, 0, 0, 0), (50, .iload_n 0, 1, 0, 0, 0), (51, .bipush 12, 2, 0, 0, 0), (53, .ishr, 1, 0, 0, 0), (54, .bipush 10, 2, 0, 0, 0), (56, .invokestatic 7, 3, 0, 0, 0), (59, .invokevirtual 24, 3, 0, 0, 0), (62, .invokevirtual 30, 3, 0, 0, 0), (65, .aload_n 3, 1, 0, 0, 0), (66, .invokevirtual 18, 3, 0, 0, 0), (69, .invokevirtual 33, 3, 0, 0, 0), (72, .goto 107, 3, 0, 0, 0), (75, .iload 4, 2, 0, 0, 0), (77, .bipush 9, 2, 0, 0, 0), (79, .if_icmp .ne 53, 3, 0, 0, 0), (82, .new 13, 3, 0, 0, 0), (85, .dup, 1, 0, 0, 0), (86, .invokespecial 15, 3, 0, 0, 0), (89, .ldc 50, 2, 0, 0, 0), (91, .invokevirtual 18, 3, 0, 0, 0), (94, .aload_n 2, 1, 0, 0, 0), (95, .invokevirtual 18, 3, 0, 0, 0), (98, .ldc 42, 2, 0, 0, 0), (100, .invokevirtual 18, 3, 0, 0, 0), (103, .aload_n 3, 1, 0, 0, 0), (104, .invokevirtual 18, 3, 0, 0, 0), (107, .ldc 52, 2, 0, 0, 0), (109, .invokevirtual 18, 3, 0, 0, 0), (112, .iload_n 0, 1, 0, 0, 0), (113, .iconst 3, 1, 0, 0, 0), (114, .ishr, 1, 0, 0, 0), (115, .invokestatic 44, 3, 0, 0, 0), (118, .invokevirtual 18, 3, 0, 0, 0), (121, .ldc 54, 2, 0, 0, 0), (123, .invokevirtual 18, 3, 0, 0, 0), (126, .invokevirtual 33, 3, 0, 0, 0), (129, .goto 50, 3, 0, 0, 0), (132, .new 13, 3, 0, 0, 0), (135, .dup, 1, 0, 0, 0), (136, .invokespecial 15, 3, 0, 0, 0), (139, .ldc 56, 2, 0, 0, 0), (141, .invokevirtual 18, 3, 0, 0, 0), (144, .aload_n 2, 1, 0, 0, 0), (145, .invokevirtual 18, 3, 0, 0, 0), (148, .ldc 58, 2, 0, 0, 0), (150, .invokevirtual 18, 3, 0, 0, 0), (153, .aload_n 3, 1, 0, 0, 0), (154, .invokevirtual 18, 3, 0, 0, 0), (157, .ldc 60, 2, 0, 0, 0), (159, .invokevirtual 18, 3, 0, 0, 0), (162, .iload_n 1, 1, 0, 0, 0), (163, .iconst 3, 1, 0, 0, 0), (164, .ishr, 1, 0, 0, 0), (165, .invokestatic 44, 3, 0, 0, 0), (168, .invokevirtual 18, 3, 0, 0, 0), (171, .ldc 62, 2, 0, 0, 0), (173, .invokevirtual 18, 3, 0, 0, 0), (176, .invokevirtual 33, 3, 0, 0, 0), (179, .areturn, 1, 0, 0, 0)])
set_option maxRecDepth 100000 in
theorem ktL_says : fz_okK mtL_says = true := fz_okK_in (by decide +kernel)
set_option maxHeartbeats 4000000 in
set_option maxRecDepth 100000 in
theorem tt_says (D : st_D) (X : st_Xt) (ca cv : Nat → Nat) (hX : X.2.1 = kl ca) (x y : Int) (hx : -2147483648 ≤ x ∧ x < 2147483648) (hy : -2147483648 ≤ y ∧ y < 2147483648) : st_R D (kss ca cv, X.2) 8 40 40000 mtL_says 0 (lv_args 0 [.int (Int32.ofInt (x)), .int (Int32.ofInt (y))]) [] [] 0 0 (fun ws v => ∃ (r u k : Nat) (g : Nat → Int32), sb_Fit g ∧ k ≤ 30 ∧ v = some (.ref r) ∧ ws = [(r, .inr (0, [.ref u, .int (Int32.ofInt (0)), .int (Int32.ofInt (0)), .int (Int32.ofInt (0))])), (u, .inl (D.2.2.2, k, .inl g))]) := by
  show st_R D (kss ca cv, X.2) 8 40 40000 mtL_says 0 [(0, .int (Int32.ofInt (x))), (1, .int (Int32.ofInt (y)))] [] _ 0 0 _
  refine st_iload_n 0 ktL_says rfl rfl ?_
  refine st_callS (X' := (kss ca cv, X.2)) (d' := 7) (NC' := 7) (NS' := 6100) (M' := mtL_one) (n := 1) (As := [.int (Int32.ofInt (x))]) (st := []) (wc := []) (wr := []) [] [] ktL_says rfl (st_has (n := 5131) rfl rfl) (st_has (n := 5133) rfl rfl) (st_has (n := 1000) rfl rfl) (st_has (n := 5132) rfl rfl) (by decide +kernel) rfl rfl (Nat.le_of_ble_eq_true rfl) (Nat.le_of_ble_eq_true rfl) (by decide) (by omega) (by omega) rfl rfl (by decide) (by decide) (by decide) ⟨rfl, fun q hq => Or.inl hq⟩ (tt_one D X ca cv hX (x) ⟨by omega, by omega⟩) (fun ws1 v hq => ?_)
  obtain ⟨r1, u2, k3, g4, hg4, hk3, rfl, rfl⟩ := hq
  refine st_st (st' := [.ref r1]) rfl ?_
  refine st_ws (ws' := [(r1, .inr (0, [.ref u2, .int (Int32.ofInt (0)), .int (Int32.ofInt (0)), .int (Int32.ofInt (0))])), (u2, .inl (D.2.2.2, k3, .inl g4))]) rfl ?_
  refine st_astore_n (ls' := [(2, .ref r1), (0, .int (Int32.ofInt (x))), (1, .int (Int32.ofInt (y)))]) ktL_says rfl (by decide) rfl ?_
  refine st_iload_n 2 ktL_says rfl rfl ?_
  refine st_callS (X' := (kss ca cv, X.2)) (d' := 7) (NC' := 7) (NS' := 6100) (M' := mtL_one) (n := 1) (As := [.int (Int32.ofInt (y))]) (st := []) (wc := []) (wr := [(r1, .inr (0, [.ref u2, .int (Int32.ofInt (0)), .int (Int32.ofInt (0)), .int (Int32.ofInt (0))])), (u2, .inl (D.2.2.2, k3, .inl g4))]) [] [0, 1] ktL_says rfl (st_has (n := 5131) rfl rfl) (st_has (n := 5133) rfl rfl) (st_has (n := 1000) rfl rfl) (st_has (n := 5132) rfl rfl) (by decide +kernel) rfl rfl (Nat.le_of_ble_eq_true rfl) (Nat.le_of_ble_eq_true rfl) (by decide) (by omega) (by omega) rfl rfl (by decide) (by decide) (by decide) ⟨rfl, fun q hq => Or.inl hq⟩ (tt_one D X ca cv hX (y) ⟨by omega, by omega⟩) (fun ws1 v hq => ?_)
  obtain ⟨r5, u6, k7, g8, hg8, hk7, rfl, rfl⟩ := hq
  refine st_st (st' := [.ref r5]) rfl ?_
  refine st_ws (ws' := [(r1, .inr (0, [.ref u2, .int (Int32.ofInt (0)), .int (Int32.ofInt (0)), .int (Int32.ofInt (0))])), (u2, .inl (D.2.2.2, k3, .inl g4)), (r5, .inr (0, [.ref u6, .int (Int32.ofInt (0)), .int (Int32.ofInt (0)), .int (Int32.ofInt (0))])), (u6, .inl (D.2.2.2, k7, .inl g8))]) rfl ?_
  refine st_astore_n (ls' := [(3, .ref r5), (2, .ref r1), (0, .int (Int32.ofInt (x))), (1, .int (Int32.ofInt (y)))]) ktL_says rfl (by decide) rfl ?_
  refine st_iload_n 2 ktL_says rfl rfl ?_
  refine st_bipush ⟨by decide, by decide⟩ ktL_says rfl ?_
  refine st_ishr ktL_says rfl (fun z9 hz9 => ?_)
  refine st_bipush ⟨by decide, by decide⟩ ktL_says rfl ?_
  refine st_callS (X' := ([], X.2)) (d' := 1) (NC' := 0) (NS' := 0) (M' := mtL_some) (n := 2) (As := [.int (Int32.ofInt (z9)), .int (Int32.ofInt (11))]) (st := []) (wc := []) (wr := [(r1, .inr (0, [.ref u2, .int (Int32.ofInt (0)), .int (Int32.ofInt (0)), .int (Int32.ofInt (0))])), (u2, .inl (D.2.2.2, k3, .inl g4)), (r5, .inr (0, [.ref u6, .int (Int32.ofInt (0)), .int (Int32.ofInt (0)), .int (Int32.ofInt (0))])), (u6, .inl (D.2.2.2, k7, .inl g8))]) [] [0, 1, 2, 3] ktL_says rfl (st_has (n := 4215) rfl rfl) (st_has (n := 4217) rfl rfl) (st_has (n := 1000) rfl rfl) (st_has (n := 4216) rfl rfl) (by decide +kernel) rfl rfl (Nat.le_of_ble_eq_true rfl) (Nat.le_of_ble_eq_true rfl) (by decide) (by omega) (by omega) rfl rfl (by decide) (by decide) (by decide) ⟨rfl, fun q hq => by cases hq⟩ (tt_some D X (z9) (11) ⟨by omega, by omega⟩ ⟨by omega, by omega⟩) (fun ws1 v hq => ?_)
  obtain ⟨z10, hz10, rfl, rfl⟩ := hq
  refine st_st (st' := [.int (Int32.ofInt (z10))]) rfl ?_
  refine st_ws (ws' := [(r1, .inr (0, [.ref u2, .int (Int32.ofInt (0)), .int (Int32.ofInt (0)), .int (Int32.ofInt (0))])), (u2, .inl (D.2.2.2, k3, .inl g4)), (r5, .inr (0, [.ref u6, .int (Int32.ofInt (0)), .int (Int32.ofInt (0)), .int (Int32.ofInt (0))])), (u6, .inl (D.2.2.2, k7, .inl g8))]) rfl ?_
  refine st_istore (ls' := [(4, .int (Int32.ofInt (z10))), (3, .ref r5), (2, .ref r1), (0, .int (Int32.ofInt (x))), (1, .int (Int32.ofInt (y)))]) ktL_says rfl (by decide) rfl ?_
  refine st_iload 0 ktL_says rfl rfl ?_
  refine st_if_ne (tgt := 30) ⟨by omega, by omega⟩ ktL_says rfl (by decide) (fun c11 => ?_) (fun c11 => ?_)
  · refine st_iload 0 ktL_says rfl rfl ?_
    refine st_bipush ⟨by decide, by decide⟩ ktL_says rfl ?_
    refine st_icmp_ge (tgt := 75) ⟨by omega, by omega⟩ ⟨by omega, by omega⟩ ktL_says rfl (by decide) (fun c12 => ?_) (fun c12 => ?_)
    · refine st_iload 0 ktL_says rfl rfl ?_
      refine st_bipush ⟨by decide, by decide⟩ ktL_says rfl ?_
      refine st_icmp_ne (tgt := 132) ⟨by omega, by omega⟩ ⟨by omega, by omega⟩ ktL_says rfl (by decide) (fun c13 => ?_) (fun c13 => ?_)
      · refine st_new (ci := 1) tyJ4 [.null, .int (Int32.ofInt (0)), .int (Int32.ofInt (0)), .int (Int32.ofInt (0))] ktL_says rfl rfl tyJ4_ok (st_has (n := 4222) rfl rfl) (st_has (n := 4223) rfl rfl) (st_has (n := 1018) rfl rfl) rfl (by omega) (by omega) (fun q14 => ?_)
        refine st_ws (ws' := [(r1, .inr (0, [.ref u2, .int (Int32.ofInt (0)), .int (Int32.ofInt (0)), .int (Int32.ofInt (0))])), (u2, .inl (D.2.2.2, k3, .inl g4)), (r5, .inr (0, [.ref u6, .int (Int32.ofInt (0)), .int (Int32.ofInt (0)), .int (Int32.ofInt (0))])), (u6, .inl (D.2.2.2, k7, .inl g8)), (q14, .inr (1, [.null, .int (Int32.ofInt (0)), .int (Int32.ofInt (0)), .int (Int32.ofInt (0))]))]) rfl ?_
        refine st_dup rfl ktL_says rfl ?_
        refine st_callI (x := q14) (X' := ([], X.2)) (d' := 3) (NC' := 1) (NS' := 16) (M' := mtJ4_init_da8c8) (n := 0) (As := []) (st := [.ref q14]) (wc := [(q14, .inr (1, [.null, .int (Int32.ofInt (0)), .int (Int32.ofInt (0)), .int (Int32.ofInt (0))]))]) (wr := [(r1, .inr (0, [.ref u2, .int (Int32.ofInt (0)), .int (Int32.ofInt (0)), .int (Int32.ofInt (0))])), (u2, .inl (D.2.2.2, k3, .inl g4)), (r5, .inr (0, [.ref u6, .int (Int32.ofInt (0)), .int (Int32.ofInt (0)), .int (Int32.ofInt (0))])), (u6, .inl (D.2.2.2, k7, .inl g8))]) [4] [0, 1, 2, 3] ktL_says rfl (st_has (n := 4224) rfl rfl) (st_has (n := 4226) rfl rfl) (st_has (n := 1018) rfl rfl) (st_has (n := 4225) rfl rfl) (by decide +kernel) rfl rfl rfl rfl (Nat.le_of_ble_eq_true rfl) (Nat.le_of_ble_eq_true rfl) (by decide) (by omega) (by omega) rfl rfl (by decide) (by decide) (by decide) ⟨rfl, fun q hq => by cases hq⟩ (tt_sbInit D X q14) (fun ws1 v hq => ?_)
        obtain ⟨rfl, q15, f16, hf16, rfl⟩ := hq
        refine st_st (st' := [.ref q14]) rfl ?_
        refine st_ws (ws' := [(r1, .inr (0, [.ref u2, .int (Int32.ofInt (0)), .int (Int32.ofInt (0)), .int (Int32.ofInt (0))])), (u2, .inl (D.2.2.2, k3, .inl g4)), (r5, .inr (0, [.ref u6, .int (Int32.ofInt (0)), .int (Int32.ofInt (0)), .int (Int32.ofInt (0))])), (u6, .inl (D.2.2.2, k7, .inl g8)), (q14, .inr (1, [.ref q15, .int (Int32.ofInt (0)), .int (Int32.ofInt (0)), .int (Int32.ofInt (0))])), (q15, .inl (D.2.2.2, 16, .inl f16))]) rfl ?_
        refine st_ldcS (tx := "!(") (q := (ca 8)) rfl (by show _ ∈ X.2.1; rw [hX]; simp [kl]) ktL_says rfl ?_
        refine st_callV (x := q14) (Cn := "java/lang/StringBuilder") (X' := ([((ca 8), (cv 8), 2)], X.2)) (d' := 5) (NC' := 1) (NS' := 2002) (M' := mtJ4_append_15ec4) (n := 1) (As := [.ref (ca 8)]) (st := []) (wc := [(q14, .inr (1, [.ref q15, .int (Int32.ofInt (0)), .int (Int32.ofInt (0)), .int (Int32.ofInt (0))])), (q15, .inl (D.2.2.2, 16, .inl f16))]) (wr := [(r1, .inr (0, [.ref u2, .int (Int32.ofInt (0)), .int (Int32.ofInt (0)), .int (Int32.ofInt (0))])), (u2, .inl (D.2.2.2, k3, .inl g4)), (r5, .inr (0, [.ref u6, .int (Int32.ofInt (0)), .int (Int32.ofInt (0)), .int (Int32.ofInt (0))])), (u6, .inl (D.2.2.2, k7, .inl g8))]) [4, 5] [0, 1, 2, 3] ktL_says rfl ⟨(st_has (n := 5014) rfl rfl), (st_has (n := 5015) rfl rfl), (st_has (n := 1018) rfl rfl), Or.inl ⟨rfl, (st_has (n := 5016) rfl rfl)⟩⟩ (st_has (n := 5017) rfl rfl) (by decide +kernel) (Or.inl ⟨4, 1, _, _, _, rfl, rfl⟩) rfl rfl (Nat.le_of_ble_eq_true rfl) (Nat.le_of_ble_eq_true rfl) (by decide) (by omega) (by omega) rfl rfl (by decide) (by decide) (by decide) ⟨rfl, fun q hq => (by simp only [List.mem_cons, List.not_mem_nil, or_false] at hq; subst hq; exact Or.inl (by simp [kss]))⟩ (tt_app5S D X q14 q15 (16) (0) (ca 8) (cv 8) (2) f16 (by omega) hf16 (by omega)) (fun ws1 v hq => ?_)
        obtain ⟨q17, n18, f19, hf19, hn18, rfl, rfl⟩ := hq
        refine st_st (st' := [.ref q14]) rfl ?_
        refine st_ws (ws' := [(r1, .inr (0, [.ref u2, .int (Int32.ofInt (0)), .int (Int32.ofInt (0)), .int (Int32.ofInt (0))])), (u2, .inl (D.2.2.2, k3, .inl g4)), (r5, .inr (0, [.ref u6, .int (Int32.ofInt (0)), .int (Int32.ofInt (0)), .int (Int32.ofInt (0))])), (u6, .inl (D.2.2.2, k7, .inl g8)), (q14, .inr (1, [.ref q17, .int (Int32.ofInt (0)), .int (Int32.ofInt (0)), .int (Int32.ofInt ((0 + (2 : Int))))])), (q17, .inl (D.2.2.2, n18, .inl f19))]) rfl ?_
        refine st_aload_n 2 ktL_says rfl rfl ?_
        refine st_callV (x := q14) (Cn := "java/lang/StringBuilder") (X' := ([(r1, u2, k3)], X.2)) (d' := 5) (NC' := 1) (NS' := 2002) (M' := mtJ4_append_15ec4) (n := 1) (As := [.ref r1]) (st := []) (wc := [(q14, .inr (1, [.ref q17, .int (Int32.ofInt (0)), .int (Int32.ofInt (0)), .int (Int32.ofInt ((0 + (2 : Int))))])), (q17, .inl (D.2.2.2, n18, .inl f19))]) (wr := [(r1, .inr (0, [.ref u2, .int (Int32.ofInt (0)), .int (Int32.ofInt (0)), .int (Int32.ofInt (0))])), (u2, .inl (D.2.2.2, k3, .inl g4)), (r5, .inr (0, [.ref u6, .int (Int32.ofInt (0)), .int (Int32.ofInt (0)), .int (Int32.ofInt (0))])), (u6, .inl (D.2.2.2, k7, .inl g8))]) [4, 5] [0, 1, 2, 3] ktL_says rfl ⟨(st_has (n := 5014) rfl rfl), (st_has (n := 5015) rfl rfl), (st_has (n := 1018) rfl rfl), Or.inl ⟨rfl, (st_has (n := 5016) rfl rfl)⟩⟩ (st_has (n := 5017) rfl rfl) (by decide +kernel) (Or.inl ⟨4, 1, _, _, _, rfl, rfl⟩) rfl rfl (Nat.le_of_ble_eq_true rfl) (Nat.le_of_ble_eq_true rfl) (by decide) (by omega) (by omega) rfl rfl (by decide) (by decide) (by decide) ⟨rfl, fun q hq => (by simp only [List.mem_cons, List.not_mem_nil, or_false] at hq; subst hq; exact Or.inr ⟨0, 1, _, _, _, rfl, rfl, hg4, (show (k3 : Nat) < 100000 by omega), by decide, by decide⟩)⟩ (tt_app5S D X q14 q17 (n18) ((0 + (2 : Int))) r1 u2 (k3) f19 (by omega) hf19 (by omega)) (fun ws1 v hq => ?_)
        obtain ⟨q20, n21, f22, hf22, hn21, rfl, rfl⟩ := hq
        refine st_st (st' := [.ref q14]) rfl ?_
        refine st_ws (ws' := [(r1, .inr (0, [.ref u2, .int (Int32.ofInt (0)), .int (Int32.ofInt (0)), .int (Int32.ofInt (0))])), (u2, .inl (D.2.2.2, k3, .inl g4)), (r5, .inr (0, [.ref u6, .int (Int32.ofInt (0)), .int (Int32.ofInt (0)), .int (Int32.ofInt (0))])), (u6, .inl (D.2.2.2, k7, .inl g8)), (q14, .inr (1, [.ref q20, .int (Int32.ofInt (0)), .int (Int32.ofInt (0)), .int (Int32.ofInt (((0 + (2 : Int)) + (k3 : Int))))])), (q20, .inl (D.2.2.2, n21, .inl f22))]) rfl ?_
        refine st_ldcS (tx := "<") (q := (ca 9)) rfl (by show _ ∈ X.2.1; rw [hX]; simp [kl]) ktL_says rfl ?_
        refine st_callV (x := q14) (Cn := "java/lang/StringBuilder") (X' := ([((ca 9), (cv 9), 1)], X.2)) (d' := 5) (NC' := 1) (NS' := 2002) (M' := mtJ4_append_15ec4) (n := 1) (As := [.ref (ca 9)]) (st := []) (wc := [(q14, .inr (1, [.ref q20, .int (Int32.ofInt (0)), .int (Int32.ofInt (0)), .int (Int32.ofInt (((0 + (2 : Int)) + (k3 : Int))))])), (q20, .inl (D.2.2.2, n21, .inl f22))]) (wr := [(r1, .inr (0, [.ref u2, .int (Int32.ofInt (0)), .int (Int32.ofInt (0)), .int (Int32.ofInt (0))])), (u2, .inl (D.2.2.2, k3, .inl g4)), (r5, .inr (0, [.ref u6, .int (Int32.ofInt (0)), .int (Int32.ofInt (0)), .int (Int32.ofInt (0))])), (u6, .inl (D.2.2.2, k7, .inl g8))]) [4, 5] [0, 1, 2, 3] ktL_says rfl ⟨(st_has (n := 5014) rfl rfl), (st_has (n := 5015) rfl rfl), (st_has (n := 1018) rfl rfl), Or.inl ⟨rfl, (st_has (n := 5016) rfl rfl)⟩⟩ (st_has (n := 5017) rfl rfl) (by decide +kernel) (Or.inl ⟨4, 1, _, _, _, rfl, rfl⟩) rfl rfl (Nat.le_of_ble_eq_true rfl) (Nat.le_of_ble_eq_true rfl) (by decide) (by omega) (by omega) rfl rfl (by decide) (by decide) (by decide) ⟨rfl, fun q hq => (by simp only [List.mem_cons, List.not_mem_nil, or_false] at hq; subst hq; exact Or.inl (by simp [kss]))⟩ (tt_app5S D X q14 q20 (n21) (((0 + (2 : Int)) + (k3 : Int))) (ca 9) (cv 9) (1) f22 (by omega) hf22 (by omega)) (fun ws1 v hq => ?_)
        obtain ⟨q23, n24, f25, hf25, hn24, rfl, rfl⟩ := hq
        refine st_st (st' := [.ref q14]) rfl ?_
        refine st_ws (ws' := [(r1, .inr (0, [.ref u2, .int (Int32.ofInt (0)), .int (Int32.ofInt (0)), .int (Int32.ofInt (0))])), (u2, .inl (D.2.2.2, k3, .inl g4)), (r5, .inr (0, [.ref u6, .int (Int32.ofInt (0)), .int (Int32.ofInt (0)), .int (Int32.ofInt (0))])), (u6, .inl (D.2.2.2, k7, .inl g8)), (q14, .inr (1, [.ref q23, .int (Int32.ofInt (0)), .int (Int32.ofInt (0)), .int (Int32.ofInt ((((0 + (2 : Int)) + (k3 : Int)) + (1 : Int))))])), (q23, .inl (D.2.2.2, n24, .inl f25))]) rfl ?_
        refine st_aload_n 1 ktL_says rfl rfl ?_
        refine st_callV (x := q14) (Cn := "java/lang/StringBuilder") (X' := ([(r5, u6, k7)], X.2)) (d' := 5) (NC' := 1) (NS' := 2002) (M' := mtJ4_append_15ec4) (n := 1) (As := [.ref r5]) (st := []) (wc := [(q14, .inr (1, [.ref q23, .int (Int32.ofInt (0)), .int (Int32.ofInt (0)), .int (Int32.ofInt ((((0 + (2 : Int)) + (k3 : Int)) + (1 : Int))))])), (q23, .inl (D.2.2.2, n24, .inl f25))]) (wr := [(r1, .inr (0, [.ref u2, .int (Int32.ofInt (0)), .int (Int32.ofInt (0)), .int (Int32.ofInt (0))])), (u2, .inl (D.2.2.2, k3, .inl g4)), (r5, .inr (0, [.ref u6, .int (Int32.ofInt (0)), .int (Int32.ofInt (0)), .int (Int32.ofInt (0))])), (u6, .inl (D.2.2.2, k7, .inl g8))]) [4, 5] [0, 1, 2, 3] ktL_says rfl ⟨(st_has (n := 5014) rfl rfl), (st_has (n := 5015) rfl rfl), (st_has (n := 1018) rfl rfl), Or.inl ⟨rfl, (st_has (n := 5016) rfl rfl)⟩⟩ (st_has (n := 5017) rfl rfl) (by decide +kernel) (Or.inl ⟨4, 1, _, _, _, rfl, rfl⟩) rfl rfl (Nat.le_of_ble_eq_true rfl) (Nat.le_of_ble_eq_true rfl) (by decide) (by omega) (by omega) rfl rfl (by decide) (by decide) (by decide) ⟨rfl, fun q hq => (by simp only [List.mem_cons, List.not_mem_nil, or_false] at hq; subst hq; exact Or.inr ⟨2, 3, _, _, _, rfl, rfl, hg8, (show (k7 : Nat) < 100000 by omega), by decide, by decide⟩)⟩ (tt_app5S D X q14 q23 (n24) ((((0 + (2 : Int)) + (k3 : Int)) + (1 : Int))) r5 u6 (k7) f25 (by omega) hf25 (by omega)) (fun ws1 v hq => ?_)
        obtain ⟨q26, n27, f28, hf28, hn27, rfl, rfl⟩ := hq
        refine st_st (st' := [.ref q14]) rfl ?_
        refine st_ws (ws' := [(r1, .inr (0, [.ref u2, .int (Int32.ofInt (0)), .int (Int32.ofInt (0)), .int (Int32.ofInt (0))])), (u2, .inl (D.2.2.2, k3, .inl g4)), (r5, .inr (0, [.ref u6, .int (Int32.ofInt (0)), .int (Int32.ofInt (0)), .int (Int32.ofInt (0))])), (u6, .inl (D.2.2.2, k7, .inl g8)), (q14, .inr (1, [.ref q26, .int (Int32.ofInt (0)), .int (Int32.ofInt (0)), .int (Int32.ofInt (((((0 + (2 : Int)) + (k3 : Int)) + (1 : Int)) + (k7 : Int))))])), (q26, .inl (D.2.2.2, n27, .inl f28))]) rfl ?_
        refine st_ldcS (tx := "|") (q := (ca 10)) rfl (by show _ ∈ X.2.1; rw [hX]; simp [kl]) ktL_says rfl ?_
        refine st_callV (x := q14) (Cn := "java/lang/StringBuilder") (X' := ([((ca 10), (cv 10), 1)], X.2)) (d' := 5) (NC' := 1) (NS' := 2002) (M' := mtJ4_append_15ec4) (n := 1) (As := [.ref (ca 10)]) (st := []) (wc := [(q14, .inr (1, [.ref q26, .int (Int32.ofInt (0)), .int (Int32.ofInt (0)), .int (Int32.ofInt (((((0 + (2 : Int)) + (k3 : Int)) + (1 : Int)) + (k7 : Int))))])), (q26, .inl (D.2.2.2, n27, .inl f28))]) (wr := [(r1, .inr (0, [.ref u2, .int (Int32.ofInt (0)), .int (Int32.ofInt (0)), .int (Int32.ofInt (0))])), (u2, .inl (D.2.2.2, k3, .inl g4)), (r5, .inr (0, [.ref u6, .int (Int32.ofInt (0)), .int (Int32.ofInt (0)), .int (Int32.ofInt (0))])), (u6, .inl (D.2.2.2, k7, .inl g8))]) [4, 5] [0, 1, 2, 3] ktL_says rfl ⟨(st_has (n := 5014) rfl rfl), (st_has (n := 5015) rfl rfl), (st_has (n := 1018) rfl rfl), Or.inl ⟨rfl, (st_has (n := 5016) rfl rfl)⟩⟩ (st_has (n := 5017) rfl rfl) (by decide +kernel) (Or.inl ⟨4, 1, _, _, _, rfl, rfl⟩) rfl rfl (Nat.le_of_ble_eq_true rfl) (Nat.le_of_ble_eq_true rfl) (by decide) (by omega) (by omega) rfl rfl (by decide) (by decide) (by decide) ⟨rfl, fun q hq => (by simp only [List.mem_cons, List.not_mem_nil, or_false] at hq; subst hq; exact Or.inl (by simp [kss]))⟩ (tt_app5S D X q14 q26 (n27) (((((0 + (2 : Int)) + (k3 : Int)) + (1 : Int)) + (k7 : Int))) (ca 10) (cv 10) (1) f28 (by omega) hf28 (by omega)) (fun ws1 v hq => ?_)
        obtain ⟨q29, n30, f31, hf31, hn30, rfl, rfl⟩ := hq
        refine st_st (st' := [.ref q14]) rfl ?_
        refine st_ws (ws' := [(r1, .inr (0, [.ref u2, .int (Int32.ofInt (0)), .int (Int32.ofInt (0)), .int (Int32.ofInt (0))])), (u2, .inl (D.2.2.2, k3, .inl g4)), (r5, .inr (0, [.ref u6, .int (Int32.ofInt (0)), .int (Int32.ofInt (0)), .int (Int32.ofInt (0))])), (u6, .inl (D.2.2.2, k7, .inl g8)), (q14, .inr (1, [.ref q29, .int (Int32.ofInt (0)), .int (Int32.ofInt (0)), .int (Int32.ofInt ((((((0 + (2 : Int)) + (k3 : Int)) + (1 : Int)) + (k7 : Int)) + (1 : Int))))])), (q29, .inl (D.2.2.2, n30, .inl f31))]) rfl ?_
        refine st_iload_n 4 ktL_says rfl rfl ?_
        refine st_iconst ktL_says rfl ?_
        refine st_ishr ktL_says rfl (fun z32 hz32 => ?_)
        refine st_callS (X' := (kss ca cv, X.2)) (d' := 7) (NC' := 7) (NS' := 6100) (M' := mtL_one) (n := 1) (As := [.int (Int32.ofInt (z32))]) (st := [.ref q14]) (wc := []) (wr := [(r1, .inr (0, [.ref u2, .int (Int32.ofInt (0)), .int (Int32.ofInt (0)), .int (Int32.ofInt (0))])), (u2, .inl (D.2.2.2, k3, .inl g4)), (r5, .inr (0, [.ref u6, .int (Int32.ofInt (0)), .int (Int32.ofInt (0)), .int (Int32.ofInt (0))])), (u6, .inl (D.2.2.2, k7, .inl g8)), (q14, .inr (1, [.ref q29, .int (Int32.ofInt (0)), .int (Int32.ofInt (0)), .int (Int32.ofInt ((((((0 + (2 : Int)) + (k3 : Int)) + (1 : Int)) + (k7 : Int)) + (1 : Int))))])), (q29, .inl (D.2.2.2, n30, .inl f31))]) [] [0, 1, 2, 3, 4, 5] ktL_says rfl (st_has (n := 5131) rfl rfl) (st_has (n := 5133) rfl rfl) (st_has (n := 1000) rfl rfl) (st_has (n := 5132) rfl rfl) (by decide +kernel) rfl rfl (Nat.le_of_ble_eq_true rfl) (Nat.le_of_ble_eq_true rfl) (by decide) (by omega) (by omega) rfl rfl (by decide) (by decide) (by decide) ⟨rfl, fun q hq => Or.inl hq⟩ (tt_one D X ca cv hX (z32) ⟨by omega, by omega⟩) (fun ws1 v hq => ?_)
        obtain ⟨r33, u34, k35, g36, hg36, hk35, rfl, rfl⟩ := hq
        refine st_st (st' := [.ref r33, .ref q14]) rfl ?_
        refine st_ws (ws' := [(r1, .inr (0, [.ref u2, .int (Int32.ofInt (0)), .int (Int32.ofInt (0)), .int (Int32.ofInt (0))])), (u2, .inl (D.2.2.2, k3, .inl g4)), (r5, .inr (0, [.ref u6, .int (Int32.ofInt (0)), .int (Int32.ofInt (0)), .int (Int32.ofInt (0))])), (u6, .inl (D.2.2.2, k7, .inl g8)), (q14, .inr (1, [.ref q29, .int (Int32.ofInt (0)), .int (Int32.ofInt (0)), .int (Int32.ofInt ((((((0 + (2 : Int)) + (k3 : Int)) + (1 : Int)) + (k7 : Int)) + (1 : Int))))])), (q29, .inl (D.2.2.2, n30, .inl f31)), (r33, .inr (0, [.ref u34, .int (Int32.ofInt (0)), .int (Int32.ofInt (0)), .int (Int32.ofInt (0))])), (u34, .inl (D.2.2.2, k35, .inl g36))]) rfl ?_
        refine st_callV (x := q14) (Cn := "java/lang/StringBuilder") (X' := ([(r33, u34, k35)], X.2)) (d' := 5) (NC' := 1) (NS' := 2002) (M' := mtJ4_append_15ec4) (n := 1) (As := [.ref r33]) (st := []) (wc := [(q14, .inr (1, [.ref q29, .int (Int32.ofInt (0)), .int (Int32.ofInt (0)), .int (Int32.ofInt ((((((0 + (2 : Int)) + (k3 : Int)) + (1 : Int)) + (k7 : Int)) + (1 : Int))))])), (q29, .inl (D.2.2.2, n30, .inl f31))]) (wr := [(r1, .inr (0, [.ref u2, .int (Int32.ofInt (0)), .int (Int32.ofInt (0)), .int (Int32.ofInt (0))])), (u2, .inl (D.2.2.2, k3, .inl g4)), (r5, .inr (0, [.ref u6, .int (Int32.ofInt (0)), .int (Int32.ofInt (0)), .int (Int32.ofInt (0))])), (u6, .inl (D.2.2.2, k7, .inl g8)), (r33, .inr (0, [.ref u34, .int (Int32.ofInt (0)), .int (Int32.ofInt (0)), .int (Int32.ofInt (0))])), (u34, .inl (D.2.2.2, k35, .inl g36))]) [4, 5] [0, 1, 2, 3, 6, 7] ktL_says rfl ⟨(st_has (n := 5014) rfl rfl), (st_has (n := 5015) rfl rfl), (st_has (n := 1018) rfl rfl), Or.inl ⟨rfl, (st_has (n := 5016) rfl rfl)⟩⟩ (st_has (n := 5017) rfl rfl) (by decide +kernel) (Or.inl ⟨4, 1, _, _, _, rfl, rfl⟩) rfl rfl (Nat.le_of_ble_eq_true rfl) (Nat.le_of_ble_eq_true rfl) (by decide) (by omega) (by omega) rfl rfl (by decide) (by decide) (by decide) ⟨rfl, fun q hq => (by simp only [List.mem_cons, List.not_mem_nil, or_false] at hq; subst hq; exact Or.inr ⟨6, 7, _, _, _, rfl, rfl, hg36, (show (k35 : Nat) < 100000 by omega), by decide, by decide⟩)⟩ (tt_app5S D X q14 q29 (n30) ((((((0 + (2 : Int)) + (k3 : Int)) + (1 : Int)) + (k7 : Int)) + (1 : Int))) r33 u34 (k35) f31 (by omega) hf31 (by omega)) (fun ws1 v hq => ?_)
        obtain ⟨q37, n38, f39, hf39, hn38, rfl, rfl⟩ := hq
        refine st_st (st' := [.ref q14]) rfl ?_
        refine st_ws (ws' := [(r1, .inr (0, [.ref u2, .int (Int32.ofInt (0)), .int (Int32.ofInt (0)), .int (Int32.ofInt (0))])), (u2, .inl (D.2.2.2, k3, .inl g4)), (r5, .inr (0, [.ref u6, .int (Int32.ofInt (0)), .int (Int32.ofInt (0)), .int (Int32.ofInt (0))])), (u6, .inl (D.2.2.2, k7, .inl g8)), (r33, .inr (0, [.ref u34, .int (Int32.ofInt (0)), .int (Int32.ofInt (0)), .int (Int32.ofInt (0))])), (u34, .inl (D.2.2.2, k35, .inl g36)), (q14, .inr (1, [.ref q37, .int (Int32.ofInt (0)), .int (Int32.ofInt (0)), .int (Int32.ofInt (((((((0 + (2 : Int)) + (k3 : Int)) + (1 : Int)) + (k7 : Int)) + (1 : Int)) + (k35 : Int))))])), (q37, .inl (D.2.2.2, n38, .inl f39))]) rfl ?_
        refine st_ldcS (tx := "=3)*30+9") (q := (ca 11)) rfl (by show _ ∈ X.2.1; rw [hX]; simp [kl]) ktL_says rfl ?_
        refine st_callV (x := q14) (Cn := "java/lang/StringBuilder") (X' := ([((ca 11), (cv 11), 8)], X.2)) (d' := 5) (NC' := 1) (NS' := 2002) (M' := mtJ4_append_15ec4) (n := 1) (As := [.ref (ca 11)]) (st := []) (wc := [(q14, .inr (1, [.ref q37, .int (Int32.ofInt (0)), .int (Int32.ofInt (0)), .int (Int32.ofInt (((((((0 + (2 : Int)) + (k3 : Int)) + (1 : Int)) + (k7 : Int)) + (1 : Int)) + (k35 : Int))))])), (q37, .inl (D.2.2.2, n38, .inl f39))]) (wr := [(r1, .inr (0, [.ref u2, .int (Int32.ofInt (0)), .int (Int32.ofInt (0)), .int (Int32.ofInt (0))])), (u2, .inl (D.2.2.2, k3, .inl g4)), (r5, .inr (0, [.ref u6, .int (Int32.ofInt (0)), .int (Int32.ofInt (0)), .int (Int32.ofInt (0))])), (u6, .inl (D.2.2.2, k7, .inl g8)), (r33, .inr (0, [.ref u34, .int (Int32.ofInt (0)), .int (Int32.ofInt (0)), .int (Int32.ofInt (0))])), (u34, .inl (D.2.2.2, k35, .inl g36))]) [6, 7] [0, 1, 2, 3, 4, 5] ktL_says rfl ⟨(st_has (n := 5014) rfl rfl), (st_has (n := 5015) rfl rfl), (st_has (n := 1018) rfl rfl), Or.inl ⟨rfl, (st_has (n := 5016) rfl rfl)⟩⟩ (st_has (n := 5017) rfl rfl) (by decide +kernel) (Or.inl ⟨6, 1, _, _, _, rfl, rfl⟩) rfl rfl (Nat.le_of_ble_eq_true rfl) (Nat.le_of_ble_eq_true rfl) (by decide) (by omega) (by omega) rfl rfl (by decide) (by decide) (by decide) ⟨rfl, fun q hq => (by simp only [List.mem_cons, List.not_mem_nil, or_false] at hq; subst hq; exact Or.inl (by simp [kss]))⟩ (tt_app5S D X q14 q37 (n38) (((((((0 + (2 : Int)) + (k3 : Int)) + (1 : Int)) + (k7 : Int)) + (1 : Int)) + (k35 : Int))) (ca 11) (cv 11) (8) f39 (by omega) hf39 (by omega)) (fun ws1 v hq => ?_)
        obtain ⟨q40, n41, f42, hf42, hn41, rfl, rfl⟩ := hq
        refine st_st (st' := [.ref q14]) rfl ?_
        refine st_ws (ws' := [(r1, .inr (0, [.ref u2, .int (Int32.ofInt (0)), .int (Int32.ofInt (0)), .int (Int32.ofInt (0))])), (u2, .inl (D.2.2.2, k3, .inl g4)), (r5, .inr (0, [.ref u6, .int (Int32.ofInt (0)), .int (Int32.ofInt (0)), .int (Int32.ofInt (0))])), (u6, .inl (D.2.2.2, k7, .inl g8)), (r33, .inr (0, [.ref u34, .int (Int32.ofInt (0)), .int (Int32.ofInt (0)), .int (Int32.ofInt (0))])), (u34, .inl (D.2.2.2, k35, .inl g36)), (q14, .inr (1, [.ref q40, .int (Int32.ofInt (0)), .int (Int32.ofInt (0)), .int (Int32.ofInt ((((((((0 + (2 : Int)) + (k3 : Int)) + (1 : Int)) + (k7 : Int)) + (1 : Int)) + (k35 : Int)) + (8 : Int))))])), (q40, .inl (D.2.2.2, n41, .inl f42))]) rfl ?_
        refine st_callV (x := q14) (Cn := "java/lang/StringBuilder") (X' := ([], X.2)) (d' := 6) (NC' := 2) (NS' := 2006) (M' := mtJ4_toString_0e30d) (n := 0) (As := []) (st := []) (wc := [(q14, .inr (1, [.ref q40, .int (Int32.ofInt (0)), .int (Int32.ofInt (0)), .int (Int32.ofInt ((((((((0 + (2 : Int)) + (k3 : Int)) + (1 : Int)) + (k7 : Int)) + (1 : Int)) + (k35 : Int)) + (8 : Int))))])), (q40, .inl (D.2.2.2, n41, .inl f42))]) (wr := [(r1, .inr (0, [.ref u2, .int (Int32.ofInt (0)), .int (Int32.ofInt (0)), .int (Int32.ofInt (0))])), (u2, .inl (D.2.2.2, k3, .inl g4)), (r5, .inr (0, [.ref u6, .int (Int32.ofInt (0)), .int (Int32.ofInt (0)), .int (Int32.ofInt (0))])), (u6, .inl (D.2.2.2, k7, .inl g8)), (r33, .inr (0, [.ref u34, .int (Int32.ofInt (0)), .int (Int32.ofInt (0)), .int (Int32.ofInt (0))])), (u34, .inl (D.2.2.2, k35, .inl g36))]) [6, 7] [0, 1, 2, 3, 4, 5] ktL_says rfl ⟨(st_has (n := 5175) rfl rfl), (st_has (n := 5176) rfl rfl), (st_has (n := 1018) rfl rfl), Or.inl ⟨rfl, (st_has (n := 5177) rfl rfl)⟩⟩ (st_has (n := 5178) rfl rfl) (by decide +kernel) (Or.inl ⟨6, 1, _, _, _, rfl, rfl⟩) rfl rfl (Nat.le_of_ble_eq_true rfl) (Nat.le_of_ble_eq_true rfl) (by decide) (by omega) (by omega) rfl rfl (by decide) (by decide) (by decide) ⟨rfl, fun q hq => by cases hq⟩ (tt_toS D X q14 q40 (n41) ((((((((0 + (2 : Int)) + (k3 : Int)) + (1 : Int)) + (k7 : Int)) + (1 : Int)) + (k35 : Int)) + (8 : Int))) f42 hf42 (by omega)) (fun ws1 v hq => ?_)
        obtain ⟨r43, u44, k45, g46, hg46, hk45, rfl, rfl⟩ := hq
        refine st_st (st' := [.ref r43]) rfl ?_
        refine st_ws (ws' := [(r1, .inr (0, [.ref u2, .int (Int32.ofInt (0)), .int (Int32.ofInt (0)), .int (Int32.ofInt (0))])), (u2, .inl (D.2.2.2, k3, .inl g4)), (r5, .inr (0, [.ref u6, .int (Int32.ofInt (0)), .int (Int32.ofInt (0)), .int (Int32.ofInt (0))])), (u6, .inl (D.2.2.2, k7, .inl g8)), (r33, .inr (0, [.ref u34, .int (Int32.ofInt (0)), .int (Int32.ofInt (0)), .int (Int32.ofInt (0))])), (u34, .inl (D.2.2.2, k35, .inl g36)), (r43, .inr (0, [.ref u44, .int (Int32.ofInt (0)), .int (Int32.ofInt (0)), .int (Int32.ofInt (0))])), (u44, .inl (D.2.2.2, k45, .inl g46))]) rfl ?_
        refine st_sub (ws' := [(r43, .inr (0, [.ref u44, .int (Int32.ofInt (0)), .int (Int32.ofInt (0)), .int (Int32.ofInt (0))])), (u44, .inl (D.2.2.2, k45, .inl g46))]) [6, 7] rfl (by decide) ?_
        exact st_areturn (ty := (.object "java/lang/String")) ktL_says rfl rfl (Or.inl ⟨_, rfl⟩) (by omega) (by omega) ⟨_, _, _, _, hg46, by omega, rfl, rfl⟩
      · refine st_new (ci := 1) tyJ4 [.null, .int (Int32.ofInt (0)), .int (Int32.ofInt (0)), .int (Int32.ofInt (0))] ktL_says rfl rfl tyJ4_ok (st_has (n := 4222) rfl rfl) (st_has (n := 4223) rfl rfl) (st_has (n := 1018) rfl rfl) rfl (by omega) (by omega) (fun q47 => ?_)
        refine st_ws (ws' := [(r1, .inr (0, [.ref u2, .int (Int32.ofInt (0)), .int (Int32.ofInt (0)), .int (Int32.ofInt (0))])), (u2, .inl (D.2.2.2, k3, .inl g4)), (r5, .inr (0, [.ref u6, .int (Int32.ofInt (0)), .int (Int32.ofInt (0)), .int (Int32.ofInt (0))])), (u6, .inl (D.2.2.2, k7, .inl g8)), (q47, .inr (1, [.null, .int (Int32.ofInt (0)), .int (Int32.ofInt (0)), .int (Int32.ofInt (0))]))]) rfl ?_
        refine st_dup rfl ktL_says rfl ?_
        refine st_callI (x := q47) (X' := ([], X.2)) (d' := 3) (NC' := 1) (NS' := 16) (M' := mtJ4_init_da8c8) (n := 0) (As := []) (st := [.ref q47]) (wc := [(q47, .inr (1, [.null, .int (Int32.ofInt (0)), .int (Int32.ofInt (0)), .int (Int32.ofInt (0))]))]) (wr := [(r1, .inr (0, [.ref u2, .int (Int32.ofInt (0)), .int (Int32.ofInt (0)), .int (Int32.ofInt (0))])), (u2, .inl (D.2.2.2, k3, .inl g4)), (r5, .inr (0, [.ref u6, .int (Int32.ofInt (0)), .int (Int32.ofInt (0)), .int (Int32.ofInt (0))])), (u6, .inl (D.2.2.2, k7, .inl g8))]) [4] [0, 1, 2, 3] ktL_says rfl (st_has (n := 4224) rfl rfl) (st_has (n := 4226) rfl rfl) (st_has (n := 1018) rfl rfl) (st_has (n := 4225) rfl rfl) (by decide +kernel) rfl rfl rfl rfl (Nat.le_of_ble_eq_true rfl) (Nat.le_of_ble_eq_true rfl) (by decide) (by omega) (by omega) rfl rfl (by decide) (by decide) (by decide) ⟨rfl, fun q hq => by cases hq⟩ (tt_sbInit D X q47) (fun ws1 v hq => ?_)
        obtain ⟨rfl, q48, f49, hf49, rfl⟩ := hq
        refine st_st (st' := [.ref q47]) rfl ?_
        refine st_ws (ws' := [(r1, .inr (0, [.ref u2, .int (Int32.ofInt (0)), .int (Int32.ofInt (0)), .int (Int32.ofInt (0))])), (u2, .inl (D.2.2.2, k3, .inl g4)), (r5, .inr (0, [.ref u6, .int (Int32.ofInt (0)), .int (Int32.ofInt (0)), .int (Int32.ofInt (0))])), (u6, .inl (D.2.2.2, k7, .inl g8)), (q47, .inr (1, [.ref q48, .int (Int32.ofInt (0)), .int (Int32.ofInt (0)), .int (Int32.ofInt (0))])), (q48, .inl (D.2.2.2, 16, .inl f49))]) rfl ?_
        refine st_ldcS (tx := "(") (q := (ca 5)) rfl (by show _ ∈ X.2.1; rw [hX]; simp [kl]) ktL_says rfl ?_
        refine st_callV (x := q47) (Cn := "java/lang/StringBuilder") (X' := ([((ca 5), (cv 5), 1)], X.2)) (d' := 5) (NC' := 1) (NS' := 2002) (M' := mtJ4_append_15ec4) (n := 1) (As := [.ref (ca 5)]) (st := []) (wc := [(q47, .inr (1, [.ref q48, .int (Int32.ofInt (0)), .int (Int32.ofInt (0)), .int (Int32.ofInt (0))])), (q48, .inl (D.2.2.2, 16, .inl f49))]) (wr := [(r1, .inr (0, [.ref u2, .int (Int32.ofInt (0)), .int (Int32.ofInt (0)), .int (Int32.ofInt (0))])), (u2, .inl (D.2.2.2, k3, .inl g4)), (r5, .inr (0, [.ref u6, .int (Int32.ofInt (0)), .int (Int32.ofInt (0)), .int (Int32.ofInt (0))])), (u6, .inl (D.2.2.2, k7, .inl g8))]) [4, 5] [0, 1, 2, 3] ktL_says rfl ⟨(st_has (n := 5014) rfl rfl), (st_has (n := 5015) rfl rfl), (st_has (n := 1018) rfl rfl), Or.inl ⟨rfl, (st_has (n := 5016) rfl rfl)⟩⟩ (st_has (n := 5017) rfl rfl) (by decide +kernel) (Or.inl ⟨4, 1, _, _, _, rfl, rfl⟩) rfl rfl (Nat.le_of_ble_eq_true rfl) (Nat.le_of_ble_eq_true rfl) (by decide) (by omega) (by omega) rfl rfl (by decide) (by decide) (by decide) ⟨rfl, fun q hq => (by simp only [List.mem_cons, List.not_mem_nil, or_false] at hq; subst hq; exact Or.inl (by simp [kss]))⟩ (tt_app5S D X q47 q48 (16) (0) (ca 5) (cv 5) (1) f49 (by omega) hf49 (by omega)) (fun ws1 v hq => ?_)
        obtain ⟨q50, n51, f52, hf52, hn51, rfl, rfl⟩ := hq
        refine st_st (st' := [.ref q47]) rfl ?_
        refine st_ws (ws' := [(r1, .inr (0, [.ref u2, .int (Int32.ofInt (0)), .int (Int32.ofInt (0)), .int (Int32.ofInt (0))])), (u2, .inl (D.2.2.2, k3, .inl g4)), (r5, .inr (0, [.ref u6, .int (Int32.ofInt (0)), .int (Int32.ofInt (0)), .int (Int32.ofInt (0))])), (u6, .inl (D.2.2.2, k7, .inl g8)), (q47, .inr (1, [.ref q50, .int (Int32.ofInt (0)), .int (Int32.ofInt (0)), .int (Int32.ofInt ((0 + (1 : Int))))])), (q50, .inl (D.2.2.2, n51, .inl f52))]) rfl ?_
        refine st_aload_n 2 ktL_says rfl rfl ?_
        refine st_callV (x := q47) (Cn := "java/lang/StringBuilder") (X' := ([(r1, u2, k3)], X.2)) (d' := 5) (NC' := 1) (NS' := 2002) (M' := mtJ4_append_15ec4) (n := 1) (As := [.ref r1]) (st := []) (wc := [(q47, .inr (1, [.ref q50, .int (Int32.ofInt (0)), .int (Int32.ofInt (0)), .int (Int32.ofInt ((0 + (1 : Int))))])), (q50, .inl (D.2.2.2, n51, .inl f52))]) (wr := [(r1, .inr (0, [.ref u2, .int (Int32.ofInt (0)), .int (Int32.ofInt (0)), .int (Int32.ofInt (0))])), (u2, .inl (D.2.2.2, k3, .inl g4)), (r5, .inr (0, [.ref u6, .int (Int32.ofInt (0)), .int (Int32.ofInt (0)), .int (Int32.ofInt (0))])), (u6, .inl (D.2.2.2, k7, .inl g8))]) [4, 5] [0, 1, 2, 3] ktL_says rfl ⟨(st_has (n := 5014) rfl rfl), (st_has (n := 5015) rfl rfl), (st_has (n := 1018) rfl rfl), Or.inl ⟨rfl, (st_has (n := 5016) rfl rfl)⟩⟩ (st_has (n := 5017) rfl rfl) (by decide +kernel) (Or.inl ⟨4, 1, _, _, _, rfl, rfl⟩) rfl rfl (Nat.le_of_ble_eq_true rfl) (Nat.le_of_ble_eq_true rfl) (by decide) (by omega) (by omega) rfl rfl (by decide) (by decide) (by decide) ⟨rfl, fun q hq => (by simp only [List.mem_cons, List.not_mem_nil, or_false] at hq; subst hq; exact Or.inr ⟨0, 1, _, _, _, rfl, rfl, hg4, (show (k3 : Nat) < 100000 by omega), by decide, by decide⟩)⟩ (tt_app5S D X q47 q50 (n51) ((0 + (1 : Int))) r1 u2 (k3) f52 (by omega) hf52 (by omega)) (fun ws1 v hq => ?_)
        obtain ⟨q53, n54, f55, hf55, hn54, rfl, rfl⟩ := hq
        refine st_st (st' := [.ref q47]) rfl ?_
        refine st_ws (ws' := [(r1, .inr (0, [.ref u2, .int (Int32.ofInt (0)), .int (Int32.ofInt (0)), .int (Int32.ofInt (0))])), (u2, .inl (D.2.2.2, k3, .inl g4)), (r5, .inr (0, [.ref u6, .int (Int32.ofInt (0)), .int (Int32.ofInt (0)), .int (Int32.ofInt (0))])), (u6, .inl (D.2.2.2, k7, .inl g8)), (q47, .inr (1, [.ref q53, .int (Int32.ofInt (0)), .int (Int32.ofInt (0)), .int (Int32.ofInt (((0 + (1 : Int)) + (k3 : Int))))])), (q53, .inl (D.2.2.2, n54, .inl f55))]) rfl ?_
        refine st_ldcS (tx := "-") (q := (ca 3)) rfl (by show _ ∈ X.2.1; rw [hX]; simp [kl]) ktL_says rfl ?_
        refine st_callV (x := q47) (Cn := "java/lang/StringBuilder") (X' := ([((ca 3), (cv 3), 1)], X.2)) (d' := 5) (NC' := 1) (NS' := 2002) (M' := mtJ4_append_15ec4) (n := 1) (As := [.ref (ca 3)]) (st := []) (wc := [(q47, .inr (1, [.ref q53, .int (Int32.ofInt (0)), .int (Int32.ofInt (0)), .int (Int32.ofInt (((0 + (1 : Int)) + (k3 : Int))))])), (q53, .inl (D.2.2.2, n54, .inl f55))]) (wr := [(r1, .inr (0, [.ref u2, .int (Int32.ofInt (0)), .int (Int32.ofInt (0)), .int (Int32.ofInt (0))])), (u2, .inl (D.2.2.2, k3, .inl g4)), (r5, .inr (0, [.ref u6, .int (Int32.ofInt (0)), .int (Int32.ofInt (0)), .int (Int32.ofInt (0))])), (u6, .inl (D.2.2.2, k7, .inl g8))]) [4, 5] [0, 1, 2, 3] ktL_says rfl ⟨(st_has (n := 5014) rfl rfl), (st_has (n := 5015) rfl rfl), (st_has (n := 1018) rfl rfl), Or.inl ⟨rfl, (st_has (n := 5016) rfl rfl)⟩⟩ (st_has (n := 5017) rfl rfl) (by decide +kernel) (Or.inl ⟨4, 1, _, _, _, rfl, rfl⟩) rfl rfl (Nat.le_of_ble_eq_true rfl) (Nat.le_of_ble_eq_true rfl) (by decide) (by omega) (by omega) rfl rfl (by decide) (by decide) (by decide) ⟨rfl, fun q hq => (by simp only [List.mem_cons, List.not_mem_nil, or_false] at hq; subst hq; exact Or.inl (by simp [kss]))⟩ (tt_app5S D X q47 q53 (n54) (((0 + (1 : Int)) + (k3 : Int))) (ca 3) (cv 3) (1) f55 (by omega) hf55 (by omega)) (fun ws1 v hq => ?_)
        obtain ⟨q56, n57, f58, hf58, hn57, rfl, rfl⟩ := hq
        refine st_st (st' := [.ref q47]) rfl ?_
        refine st_ws (ws' := [(r1, .inr (0, [.ref u2, .int (Int32.ofInt (0)), .int (Int32.ofInt (0)), .int (Int32.ofInt (0))])), (u2, .inl (D.2.2.2, k3, .inl g4)), (r5, .inr (0, [.ref u6, .int (Int32.ofInt (0)), .int (Int32.ofInt (0)), .int (Int32.ofInt (0))])), (u6, .inl (D.2.2.2, k7, .inl g8)), (q47, .inr (1, [.ref q56, .int (Int32.ofInt (0)), .int (Int32.ofInt (0)), .int (Int32.ofInt ((((0 + (1 : Int)) + (k3 : Int)) + (1 : Int))))])), (q56, .inl (D.2.2.2, n57, .inl f58))]) rfl ?_
        refine st_aload_n 1 ktL_says rfl rfl ?_
        refine st_callV (x := q47) (Cn := "java/lang/StringBuilder") (X' := ([(r5, u6, k7)], X.2)) (d' := 5) (NC' := 1) (NS' := 2002) (M' := mtJ4_append_15ec4) (n := 1) (As := [.ref r5]) (st := []) (wc := [(q47, .inr (1, [.ref q56, .int (Int32.ofInt (0)), .int (Int32.ofInt (0)), .int (Int32.ofInt ((((0 + (1 : Int)) + (k3 : Int)) + (1 : Int))))])), (q56, .inl (D.2.2.2, n57, .inl f58))]) (wr := [(r1, .inr (0, [.ref u2, .int (Int32.ofInt (0)), .int (Int32.ofInt (0)), .int (Int32.ofInt (0))])), (u2, .inl (D.2.2.2, k3, .inl g4)), (r5, .inr (0, [.ref u6, .int (Int32.ofInt (0)), .int (Int32.ofInt (0)), .int (Int32.ofInt (0))])), (u6, .inl (D.2.2.2, k7, .inl g8))]) [4, 5] [0, 1, 2, 3] ktL_says rfl ⟨(st_has (n := 5014) rfl rfl), (st_has (n := 5015) rfl rfl), (st_has (n := 1018) rfl rfl), Or.inl ⟨rfl, (st_has (n := 5016) rfl rfl)⟩⟩ (st_has (n := 5017) rfl rfl) (by decide +kernel) (Or.inl ⟨4, 1, _, _, _, rfl, rfl⟩) rfl rfl (Nat.le_of_ble_eq_true rfl) (Nat.le_of_ble_eq_true rfl) (by decide) (by omega) (by omega) rfl rfl (by decide) (by decide) (by decide) ⟨rfl, fun q hq => (by simp only [List.mem_cons, List.not_mem_nil, or_false] at hq; subst hq; exact Or.inr ⟨2, 3, _, _, _, rfl, rfl, hg8, (show (k7 : Nat) < 100000 by omega), by decide, by decide⟩)⟩ (tt_app5S D X q47 q56 (n57) ((((0 + (1 : Int)) + (k3 : Int)) + (1 : Int))) r5 u6 (k7) f58 (by omega) hf58 (by omega)) (fun ws1 v hq => ?_)
        obtain ⟨q59, n60, f61, hf61, hn60, rfl, rfl⟩ := hq
        refine st_st (st' := [.ref q47]) rfl ?_
        refine st_ws (ws' := [(r1, .inr (0, [.ref u2, .int (Int32.ofInt (0)), .int (Int32.ofInt (0)), .int (Int32.ofInt (0))])), (u2, .inl (D.2.2.2, k3, .inl g4)), (r5, .inr (0, [.ref u6, .int (Int32.ofInt (0)), .int (Int32.ofInt (0)), .int (Int32.ofInt (0))])), (u6, .inl (D.2.2.2, k7, .inl g8)), (q47, .inr (1, [.ref q59, .int (Int32.ofInt (0)), .int (Int32.ofInt (0)), .int (Int32.ofInt (((((0 + (1 : Int)) + (k3 : Int)) + (1 : Int)) + (k7 : Int))))])), (q59, .inl (D.2.2.2, n60, .inl f61))]) rfl ?_
        refine st_ldcS (tx := ")*") (q := (ca 6)) rfl (by show _ ∈ X.2.1; rw [hX]; simp [kl]) ktL_says rfl ?_
        refine st_callV (x := q47) (Cn := "java/lang/StringBuilder") (X' := ([((ca 6), (cv 6), 2)], X.2)) (d' := 5) (NC' := 1) (NS' := 2002) (M' := mtJ4_append_15ec4) (n := 1) (As := [.ref (ca 6)]) (st := []) (wc := [(q47, .inr (1, [.ref q59, .int (Int32.ofInt (0)), .int (Int32.ofInt (0)), .int (Int32.ofInt (((((0 + (1 : Int)) + (k3 : Int)) + (1 : Int)) + (k7 : Int))))])), (q59, .inl (D.2.2.2, n60, .inl f61))]) (wr := [(r1, .inr (0, [.ref u2, .int (Int32.ofInt (0)), .int (Int32.ofInt (0)), .int (Int32.ofInt (0))])), (u2, .inl (D.2.2.2, k3, .inl g4)), (r5, .inr (0, [.ref u6, .int (Int32.ofInt (0)), .int (Int32.ofInt (0)), .int (Int32.ofInt (0))])), (u6, .inl (D.2.2.2, k7, .inl g8))]) [4, 5] [0, 1, 2, 3] ktL_says rfl ⟨(st_has (n := 5014) rfl rfl), (st_has (n := 5015) rfl rfl), (st_has (n := 1018) rfl rfl), Or.inl ⟨rfl, (st_has (n := 5016) rfl rfl)⟩⟩ (st_has (n := 5017) rfl rfl) (by decide +kernel) (Or.inl ⟨4, 1, _, _, _, rfl, rfl⟩) rfl rfl (Nat.le_of_ble_eq_true rfl) (Nat.le_of_ble_eq_true rfl) (by decide) (by omega) (by omega) rfl rfl (by decide) (by decide) (by decide) ⟨rfl, fun q hq => (by simp only [List.mem_cons, List.not_mem_nil, or_false] at hq; subst hq; exact Or.inl (by simp [kss]))⟩ (tt_app5S D X q47 q59 (n60) (((((0 + (1 : Int)) + (k3 : Int)) + (1 : Int)) + (k7 : Int))) (ca 6) (cv 6) (2) f61 (by omega) hf61 (by omega)) (fun ws1 v hq => ?_)
        obtain ⟨q62, n63, f64, hf64, hn63, rfl, rfl⟩ := hq
        refine st_st (st' := [.ref q47]) rfl ?_
        refine st_ws (ws' := [(r1, .inr (0, [.ref u2, .int (Int32.ofInt (0)), .int (Int32.ofInt (0)), .int (Int32.ofInt (0))])), (u2, .inl (D.2.2.2, k3, .inl g4)), (r5, .inr (0, [.ref u6, .int (Int32.ofInt (0)), .int (Int32.ofInt (0)), .int (Int32.ofInt (0))])), (u6, .inl (D.2.2.2, k7, .inl g8)), (q47, .inr (1, [.ref q62, .int (Int32.ofInt (0)), .int (Int32.ofInt (0)), .int (Int32.ofInt ((((((0 + (1 : Int)) + (k3 : Int)) + (1 : Int)) + (k7 : Int)) + (2 : Int))))])), (q62, .inl (D.2.2.2, n63, .inl f64))]) rfl ?_
        refine st_iload_n 3 ktL_says rfl rfl ?_
        refine st_iconst ktL_says rfl ?_
        refine st_ishr ktL_says rfl (fun z65 hz65 => ?_)
        refine st_callS (X' := (kss ca cv, X.2)) (d' := 7) (NC' := 7) (NS' := 6100) (M' := mtL_one) (n := 1) (As := [.int (Int32.ofInt (z65))]) (st := [.ref q47]) (wc := []) (wr := [(r1, .inr (0, [.ref u2, .int (Int32.ofInt (0)), .int (Int32.ofInt (0)), .int (Int32.ofInt (0))])), (u2, .inl (D.2.2.2, k3, .inl g4)), (r5, .inr (0, [.ref u6, .int (Int32.ofInt (0)), .int (Int32.ofInt (0)), .int (Int32.ofInt (0))])), (u6, .inl (D.2.2.2, k7, .inl g8)), (q47, .inr (1, [.ref q62, .int (Int32.ofInt (0)), .int (Int32.ofInt (0)), .int (Int32.ofInt ((((((0 + (1 : Int)) + (k3 : Int)) + (1 : Int)) + (k7 : Int)) + (2 : Int))))])), (q62, .inl (D.2.2.2, n63, .inl f64))]) [] [0, 1, 2, 3, 4, 5] ktL_says rfl (st_has (n := 5131) rfl rfl) (st_has (n := 5133) rfl rfl) (st_has (n := 1000) rfl rfl) (st_has (n := 5132) rfl rfl) (by decide +kernel) rfl rfl (Nat.le_of_ble_eq_true rfl) (Nat.le_of_ble_eq_true rfl) (by decide) (by omega) (by omega) rfl rfl (by decide) (by decide) (by decide) ⟨rfl, fun q hq => Or.inl hq⟩ (tt_one D X ca cv hX (z65) ⟨by omega, by omega⟩) (fun ws1 v hq => ?_)
        obtain ⟨r66, u67, k68, g69, hg69, hk68, rfl, rfl⟩ := hq
        refine st_st (st' := [.ref r66, .ref q47]) rfl ?_
        refine st_ws (ws' := [(r1, .inr (0, [.ref u2, .int (Int32.ofInt (0)), .int (Int32.ofInt (0)), .int (Int32.ofInt (0))])), (u2, .inl (D.2.2.2, k3, .inl g4)), (r5, .inr (0, [.ref u6, .int (Int32.ofInt (0)), .int (Int32.ofInt (0)), .int (Int32.ofInt (0))])), (u6, .inl (D.2.2.2, k7, .inl g8)), (q47, .inr (1, [.ref q62, .int (Int32.ofInt (0)), .int (Int32.ofInt (0)), .int (Int32.ofInt ((((((0 + (1 : Int)) + (k3 : Int)) + (1 : Int)) + (k7 : Int)) + (2 : Int))))])), (q62, .inl (D.2.2.2, n63, .inl f64)), (r66, .inr (0, [.ref u67, .int (Int32.ofInt (0)), .int (Int32.ofInt (0)), .int (Int32.ofInt (0))])), (u67, .inl (D.2.2.2, k68, .inl g69))]) rfl ?_
        refine st_callV (x := q47) (Cn := "java/lang/StringBuilder") (X' := ([(r66, u67, k68)], X.2)) (d' := 5) (NC' := 1) (NS' := 2002) (M' := mtJ4_append_15ec4) (n := 1) (As := [.ref r66]) (st := []) (wc := [(q47, .inr (1, [.ref q62, .int (Int32.ofInt (0)), .int (Int32.ofInt (0)), .int (Int32.ofInt ((((((0 + (1 : Int)) + (k3 : Int)) + (1 : Int)) + (k7 : Int)) + (2 : Int))))])), (q62, .inl (D.2.2.2, n63, .inl f64))]) (wr := [(r1, .inr (0, [.ref u2, .int (Int32.ofInt (0)), .int (Int32.ofInt (0)), .int (Int32.ofInt (0))])), (u2, .inl (D.2.2.2, k3, .inl g4)), (r5, .inr (0, [.ref u6, .int (Int32.ofInt (0)), .int (Int32.ofInt (0)), .int (Int32.ofInt (0))])), (u6, .inl (D.2.2.2, k7, .inl g8)), (r66, .inr (0, [.ref u67, .int (Int32.ofInt (0)), .int (Int32.ofInt (0)), .int (Int32.ofInt (0))])), (u67, .inl (D.2.2.2, k68, .inl g69))]) [4, 5] [0, 1, 2, 3, 6, 7] ktL_says rfl ⟨(st_has (n := 5014) rfl rfl), (st_has (n := 5015) rfl rfl), (st_has (n := 1018) rfl rfl), Or.inl ⟨rfl, (st_has (n := 5016) rfl rfl)⟩⟩ (st_has (n := 5017) rfl rfl) (by decide +kernel) (Or.inl ⟨4, 1, _, _, _, rfl, rfl⟩) rfl rfl (Nat.le_of_ble_eq_true rfl) (Nat.le_of_ble_eq_true rfl) (by decide) (by omega) (by omega) rfl rfl (by decide) (by decide) (by decide) ⟨rfl, fun q hq => (by simp only [List.mem_cons, List.not_mem_nil, or_false] at hq; subst hq; exact Or.inr ⟨6, 7, _, _, _, rfl, rfl, hg69, (show (k68 : Nat) < 100000 by omega), by decide, by decide⟩)⟩ (tt_app5S D X q47 q62 (n63) ((((((0 + (1 : Int)) + (k3 : Int)) + (1 : Int)) + (k7 : Int)) + (2 : Int))) r66 u67 (k68) f64 (by omega) hf64 (by omega)) (fun ws1 v hq => ?_)
        obtain ⟨q70, n71, f72, hf72, hn71, rfl, rfl⟩ := hq
        refine st_st (st' := [.ref q47]) rfl ?_
        refine st_ws (ws' := [(r1, .inr (0, [.ref u2, .int (Int32.ofInt (0)), .int (Int32.ofInt (0)), .int (Int32.ofInt (0))])), (u2, .inl (D.2.2.2, k3, .inl g4)), (r5, .inr (0, [.ref u6, .int (Int32.ofInt (0)), .int (Int32.ofInt (0)), .int (Int32.ofInt (0))])), (u6, .inl (D.2.2.2, k7, .inl g8)), (r66, .inr (0, [.ref u67, .int (Int32.ofInt (0)), .int (Int32.ofInt (0)), .int (Int32.ofInt (0))])), (u67, .inl (D.2.2.2, k68, .inl g69)), (q47, .inr (1, [.ref q70, .int (Int32.ofInt (0)), .int (Int32.ofInt (0)), .int (Int32.ofInt (((((((0 + (1 : Int)) + (k3 : Int)) + (1 : Int)) + (k7 : Int)) + (2 : Int)) + (k68 : Int))))])), (q70, .inl (D.2.2.2, n71, .inl f72))]) rfl ?_
        refine st_ldcS (tx := "+20") (q := (ca 7)) rfl (by show _ ∈ X.2.1; rw [hX]; simp [kl]) ktL_says rfl ?_
        refine st_callV (x := q47) (Cn := "java/lang/StringBuilder") (X' := ([((ca 7), (cv 7), 3)], X.2)) (d' := 5) (NC' := 1) (NS' := 2002) (M' := mtJ4_append_15ec4) (n := 1) (As := [.ref (ca 7)]) (st := []) (wc := [(q47, .inr (1, [.ref q70, .int (Int32.ofInt (0)), .int (Int32.ofInt (0)), .int (Int32.ofInt (((((((0 + (1 : Int)) + (k3 : Int)) + (1 : Int)) + (k7 : Int)) + (2 : Int)) + (k68 : Int))))])), (q70, .inl (D.2.2.2, n71, .inl f72))]) (wr := [(r1, .inr (0, [.ref u2, .int (Int32.ofInt (0)), .int (Int32.ofInt (0)), .int (Int32.ofInt (0))])), (u2, .inl (D.2.2.2, k3, .inl g4)), (r5, .inr (0, [.ref u6, .int (Int32.ofInt (0)), .int (Int32.ofInt (0)), .int (Int32.ofInt (0))])), (u6, .inl (D.2.2.2, k7, .inl g8)), (r66, .inr (0, [.ref u67, .int (Int32.ofInt (0)), .int (Int32.ofInt (0)), .int (Int32.ofInt (0))])), (u67, .inl (D.2.2.2, k68, .inl g69))]) [6, 7] [0, 1, 2, 3, 4, 5] ktL_says rfl ⟨(st_has (n := 5014) rfl rfl), (st_has (n := 5015) rfl rfl), (st_has (n := 1018) rfl rfl), Or.inl ⟨rfl, (st_has (n := 5016) rfl rfl)⟩⟩ (st_has (n := 5017) rfl rfl) (by decide +kernel) (Or.inl ⟨6, 1, _, _, _, rfl, rfl⟩) rfl rfl (Nat.le_of_ble_eq_true rfl) (Nat.le_of_ble_eq_true rfl) (by decide) (by omega) (by omega) rfl rfl (by decide) (by decide) (by decide) ⟨rfl, fun q hq => (by simp only [List.mem_cons, List.not_mem_nil, or_false] at hq; subst hq; exact Or.inl (by simp [kss]))⟩ (tt_app5S D X q47 q70 (n71) (((((((0 + (1 : Int)) + (k3 : Int)) + (1 : Int)) + (k7 : Int)) + (2 : Int)) + (k68 : Int))) (ca 7) (cv 7) (3) f72 (by omega) hf72 (by omega)) (fun ws1 v hq => ?_)
        obtain ⟨q73, n74, f75, hf75, hn74, rfl, rfl⟩ := hq
        refine st_st (st' := [.ref q47]) rfl ?_
        refine st_ws (ws' := [(r1, .inr (0, [.ref u2, .int (Int32.ofInt (0)), .int (Int32.ofInt (0)), .int (Int32.ofInt (0))])), (u2, .inl (D.2.2.2, k3, .inl g4)), (r5, .inr (0, [.ref u6, .int (Int32.ofInt (0)), .int (Int32.ofInt (0)), .int (Int32.ofInt (0))])), (u6, .inl (D.2.2.2, k7, .inl g8)), (r66, .inr (0, [.ref u67, .int (Int32.ofInt (0)), .int (Int32.ofInt (0)), .int (Int32.ofInt (0))])), (u67, .inl (D.2.2.2, k68, .inl g69)), (q47, .inr (1, [.ref q73, .int (Int32.ofInt (0)), .int (Int32.ofInt (0)), .int (Int32.ofInt ((((((((0 + (1 : Int)) + (k3 : Int)) + (1 : Int)) + (k7 : Int)) + (2 : Int)) + (k68 : Int)) + (3 : Int))))])), (q73, .inl (D.2.2.2, n74, .inl f75))]) rfl ?_
        refine st_callV (x := q47) (Cn := "java/lang/StringBuilder") (X' := ([], X.2)) (d' := 6) (NC' := 2) (NS' := 2006) (M' := mtJ4_toString_0e30d) (n := 0) (As := []) (st := []) (wc := [(q47, .inr (1, [.ref q73, .int (Int32.ofInt (0)), .int (Int32.ofInt (0)), .int (Int32.ofInt ((((((((0 + (1 : Int)) + (k3 : Int)) + (1 : Int)) + (k7 : Int)) + (2 : Int)) + (k68 : Int)) + (3 : Int))))])), (q73, .inl (D.2.2.2, n74, .inl f75))]) (wr := [(r1, .inr (0, [.ref u2, .int (Int32.ofInt (0)), .int (Int32.ofInt (0)), .int (Int32.ofInt (0))])), (u2, .inl (D.2.2.2, k3, .inl g4)), (r5, .inr (0, [.ref u6, .int (Int32.ofInt (0)), .int (Int32.ofInt (0)), .int (Int32.ofInt (0))])), (u6, .inl (D.2.2.2, k7, .inl g8)), (r66, .inr (0, [.ref u67, .int (Int32.ofInt (0)), .int (Int32.ofInt (0)), .int (Int32.ofInt (0))])), (u67, .inl (D.2.2.2, k68, .inl g69))]) [6, 7] [0, 1, 2, 3, 4, 5] ktL_says rfl ⟨(st_has (n := 5175) rfl rfl), (st_has (n := 5176) rfl rfl), (st_has (n := 1018) rfl rfl), Or.inl ⟨rfl, (st_has (n := 5177) rfl rfl)⟩⟩ (st_has (n := 5178) rfl rfl) (by decide +kernel) (Or.inl ⟨6, 1, _, _, _, rfl, rfl⟩) rfl rfl (Nat.le_of_ble_eq_true rfl) (Nat.le_of_ble_eq_true rfl) (by decide) (by omega) (by omega) rfl rfl (by decide) (by decide) (by decide) ⟨rfl, fun q hq => by cases hq⟩ (tt_toS D X q47 q73 (n74) ((((((((0 + (1 : Int)) + (k3 : Int)) + (1 : Int)) + (k7 : Int)) + (2 : Int)) + (k68 : Int)) + (3 : Int))) f75 hf75 (by omega)) (fun ws1 v hq => ?_)
        obtain ⟨r76, u77, k78, g79, hg79, hk78, rfl, rfl⟩ := hq
        refine st_st (st' := [.ref r76]) rfl ?_
        refine st_ws (ws' := [(r1, .inr (0, [.ref u2, .int (Int32.ofInt (0)), .int (Int32.ofInt (0)), .int (Int32.ofInt (0))])), (u2, .inl (D.2.2.2, k3, .inl g4)), (r5, .inr (0, [.ref u6, .int (Int32.ofInt (0)), .int (Int32.ofInt (0)), .int (Int32.ofInt (0))])), (u6, .inl (D.2.2.2, k7, .inl g8)), (r66, .inr (0, [.ref u67, .int (Int32.ofInt (0)), .int (Int32.ofInt (0)), .int (Int32.ofInt (0))])), (u67, .inl (D.2.2.2, k68, .inl g69)), (r76, .inr (0, [.ref u77, .int (Int32.ofInt (0)), .int (Int32.ofInt (0)), .int (Int32.ofInt (0))])), (u77, .inl (D.2.2.2, k78, .inl g79))]) rfl ?_
        refine st_goto (tgt := 179) ktL_says rfl (by decide) ?_
        refine st_sub (ws' := [(r76, .inr (0, [.ref u77, .int (Int32.ofInt (0)), .int (Int32.ofInt (0)), .int (Int32.ofInt (0))])), (u77, .inl (D.2.2.2, k78, .inl g79))]) [6, 7] rfl (by decide) ?_
        exact st_areturn (ty := (.object "java/lang/String")) ktL_says rfl rfl (Or.inl ⟨_, rfl⟩) (by omega) (by omega) ⟨_, _, _, _, hg79, by omega, rfl, rfl⟩
    · refine st_new (ci := 1) tyJ4 [.null, .int (Int32.ofInt (0)), .int (Int32.ofInt (0)), .int (Int32.ofInt (0))] ktL_says rfl rfl tyJ4_ok (st_has (n := 4222) rfl rfl) (st_has (n := 4223) rfl rfl) (st_has (n := 1018) rfl rfl) rfl (by omega) (by omega) (fun q80 => ?_)
      refine st_ws (ws' := [(r1, .inr (0, [.ref u2, .int (Int32.ofInt (0)), .int (Int32.ofInt (0)), .int (Int32.ofInt (0))])), (u2, .inl (D.2.2.2, k3, .inl g4)), (r5, .inr (0, [.ref u6, .int (Int32.ofInt (0)), .int (Int32.ofInt (0)), .int (Int32.ofInt (0))])), (u6, .inl (D.2.2.2, k7, .inl g8)), (q80, .inr (1, [.null, .int (Int32.ofInt (0)), .int (Int32.ofInt (0)), .int (Int32.ofInt (0))]))]) rfl ?_
      refine st_dup rfl ktL_says rfl ?_
      refine st_callI (x := q80) (X' := ([], X.2)) (d' := 3) (NC' := 1) (NS' := 16) (M' := mtJ4_init_da8c8) (n := 0) (As := []) (st := [.ref q80]) (wc := [(q80, .inr (1, [.null, .int (Int32.ofInt (0)), .int (Int32.ofInt (0)), .int (Int32.ofInt (0))]))]) (wr := [(r1, .inr (0, [.ref u2, .int (Int32.ofInt (0)), .int (Int32.ofInt (0)), .int (Int32.ofInt (0))])), (u2, .inl (D.2.2.2, k3, .inl g4)), (r5, .inr (0, [.ref u6, .int (Int32.ofInt (0)), .int (Int32.ofInt (0)), .int (Int32.ofInt (0))])), (u6, .inl (D.2.2.2, k7, .inl g8))]) [4] [0, 1, 2, 3] ktL_says rfl (st_has (n := 4224) rfl rfl) (st_has (n := 4226) rfl rfl) (st_has (n := 1018) rfl rfl) (st_has (n := 4225) rfl rfl) (by decide +kernel) rfl rfl rfl rfl (Nat.le_of_ble_eq_true rfl) (Nat.le_of_ble_eq_true rfl) (by decide) (by omega) (by omega) rfl rfl (by decide) (by decide) (by decide) ⟨rfl, fun q hq => by cases hq⟩ (tt_sbInit D X q80) (fun ws1 v hq => ?_)
      obtain ⟨rfl, q81, f82, hf82, rfl⟩ := hq
      refine st_st (st' := [.ref q80]) rfl ?_
      refine st_ws (ws' := [(r1, .inr (0, [.ref u2, .int (Int32.ofInt (0)), .int (Int32.ofInt (0)), .int (Int32.ofInt (0))])), (u2, .inl (D.2.2.2, k3, .inl g4)), (r5, .inr (0, [.ref u6, .int (Int32.ofInt (0)), .int (Int32.ofInt (0)), .int (Int32.ofInt (0))])), (u6, .inl (D.2.2.2, k7, .inl g8)), (q80, .inr (1, [.ref q81, .int (Int32.ofInt (0)), .int (Int32.ofInt (0)), .int (Int32.ofInt (0))])), (q81, .inl (D.2.2.2, 16, .inl f82))]) rfl ?_
      refine st_aload_n 2 ktL_says rfl rfl ?_
      refine st_callV (x := q80) (Cn := "java/lang/StringBuilder") (X' := ([(r1, u2, k3)], X.2)) (d' := 5) (NC' := 1) (NS' := 2002) (M' := mtJ4_append_15ec4) (n := 1) (As := [.ref r1]) (st := []) (wc := [(q80, .inr (1, [.ref q81, .int (Int32.ofInt (0)), .int (Int32.ofInt (0)), .int (Int32.ofInt (0))])), (q81, .inl (D.2.2.2, 16, .inl f82))]) (wr := [(r1, .inr (0, [.ref u2, .int (Int32.ofInt (0)), .int (Int32.ofInt (0)), .int (Int32.ofInt (0))])), (u2, .inl (D.2.2.2, k3, .inl g4)), (r5, .inr (0, [.ref u6, .int (Int32.ofInt (0)), .int (Int32.ofInt (0)), .int (Int32.ofInt (0))])), (u6, .inl (D.2.2.2, k7, .inl g8))]) [4, 5] [0, 1, 2, 3] ktL_says rfl ⟨(st_has (n := 5014) rfl rfl), (st_has (n := 5015) rfl rfl), (st_has (n := 1018) rfl rfl), Or.inl ⟨rfl, (st_has (n := 5016) rfl rfl)⟩⟩ (st_has (n := 5017) rfl rfl) (by decide +kernel) (Or.inl ⟨4, 1, _, _, _, rfl, rfl⟩) rfl rfl (Nat.le_of_ble_eq_true rfl) (Nat.le_of_ble_eq_true rfl) (by decide) (by omega) (by omega) rfl rfl (by decide) (by decide) (by decide) ⟨rfl, fun q hq => (by simp only [List.mem_cons, List.not_mem_nil, or_false] at hq; subst hq; exact Or.inr ⟨0, 1, _, _, _, rfl, rfl, hg4, (show (k3 : Nat) < 100000 by omega), by decide, by decide⟩)⟩ (tt_app5S D X q80 q81 (16) (0) r1 u2 (k3) f82 (by omega) hf82 (by omega)) (fun ws1 v hq => ?_)
      obtain ⟨q83, n84, f85, hf85, hn84, rfl, rfl⟩ := hq
      refine st_st (st' := [.ref q80]) rfl ?_
      refine st_ws (ws' := [(r1, .inr (0, [.ref u2, .int (Int32.ofInt (0)), .int (Int32.ofInt (0)), .int (Int32.ofInt (0))])), (u2, .inl (D.2.2.2, k3, .inl g4)), (r5, .inr (0, [.ref u6, .int (Int32.ofInt (0)), .int (Int32.ofInt (0)), .int (Int32.ofInt (0))])), (u6, .inl (D.2.2.2, k7, .inl g8)), (q80, .inr (1, [.ref q83, .int (Int32.ofInt (0)), .int (Int32.ofInt (0)), .int (Int32.ofInt ((0 + (k3 : Int))))])), (q83, .inl (D.2.2.2, n84, .inl f85))]) rfl ?_
      refine st_ldcS (tx := "+-*/%|&<=>") (q := (ca 4)) rfl (by show _ ∈ X.2.1; rw [hX]; simp [kl]) ktL_says rfl ?_
      refine st_iload_n 3 ktL_says rfl rfl ?_
      refine st_bipush ⟨by decide, by decide⟩ ktL_says rfl ?_
      refine st_ishr ktL_says rfl (fun z86 hz86 => ?_)
      refine st_bipush ⟨by decide, by decide⟩ ktL_says rfl ?_
      refine st_callS (X' := ([], X.2)) (d' := 1) (NC' := 0) (NS' := 0) (M' := mtL_some) (n := 2) (As := [.int (Int32.ofInt (z86)), .int (Int32.ofInt (10))]) (st := [.ref (ca 4), .ref q80]) (wc := []) (wr := [(r1, .inr (0, [.ref u2, .int (Int32.ofInt (0)), .int (Int32.ofInt (0)), .int (Int32.ofInt (0))])), (u2, .inl (D.2.2.2, k3, .inl g4)), (r5, .inr (0, [.ref u6, .int (Int32.ofInt (0)), .int (Int32.ofInt (0)), .int (Int32.ofInt (0))])), (u6, .inl (D.2.2.2, k7, .inl g8)), (q80, .inr (1, [.ref q83, .int (Int32.ofInt (0)), .int (Int32.ofInt (0)), .int (Int32.ofInt ((0 + (k3 : Int))))])), (q83, .inl (D.2.2.2, n84, .inl f85))]) [] [0, 1, 2, 3, 4, 5] ktL_says rfl (st_has (n := 4215) rfl rfl) (st_has (n := 4217) rfl rfl) (st_has (n := 1000) rfl rfl) (st_has (n := 4216) rfl rfl) (by decide +kernel) rfl rfl (Nat.le_of_ble_eq_true rfl) (Nat.le_of_ble_eq_true rfl) (by decide) (by omega) (by omega) rfl rfl (by decide) (by decide) (by decide) ⟨rfl, fun q hq => by cases hq⟩ (tt_some D X (z86) (10) ⟨by omega, by omega⟩ ⟨by omega, by omega⟩) (fun ws1 v hq => ?_)
      obtain ⟨z87, hz87, rfl, rfl⟩ := hq
      refine st_st (st' := [.int (Int32.ofInt (z87)), .ref (ca 4), .ref q80]) rfl ?_
      refine st_ws (ws' := [(r1, .inr (0, [.ref u2, .int (Int32.ofInt (0)), .int (Int32.ofInt (0)), .int (Int32.ofInt (0))])), (u2, .inl (D.2.2.2, k3, .inl g4)), (r5, .inr (0, [.ref u6, .int (Int32.ofInt (0)), .int (Int32.ofInt (0)), .int (Int32.ofInt (0))])), (u6, .inl (D.2.2.2, k7, .inl g8)), (q80, .inr (1, [.ref q83, .int (Int32.ofInt (0)), .int (Int32.ofInt (0)), .int (Int32.ofInt ((0 + (k3 : Int))))])), (q83, .inl (D.2.2.2, n84, .inl f85))]) rfl ?_
      refine st_callV (x := (ca 4)) (Cn := "java/lang/String") (X' := ([((ca 4), (cv 4), 10)], X.2)) (d' := 4) (NC' := 0) (NS' := 0) (M' := mtJ0_charAt_5068e) (n := 1) (As := [.int (Int32.ofInt (z87))]) (st := [.ref q80]) (wc := []) (wr := [(r1, .inr (0, [.ref u2, .int (Int32.ofInt (0)), .int (Int32.ofInt (0)), .int (Int32.ofInt (0))])), (u2, .inl (D.2.2.2, k3, .inl g4)), (r5, .inr (0, [.ref u6, .int (Int32.ofInt (0)), .int (Int32.ofInt (0)), .int (Int32.ofInt (0))])), (u6, .inl (D.2.2.2, k7, .inl g8)), (q80, .inr (1, [.ref q83, .int (Int32.ofInt (0)), .int (Int32.ofInt (0)), .int (Int32.ofInt ((0 + (k3 : Int))))])), (q83, .inl (D.2.2.2, n84, .inl f85))]) [] [0, 1, 2, 3, 4, 5] ktL_says rfl ⟨(st_has (n := 5135) rfl rfl), (st_has (n := 5136) rfl rfl), (st_has (n := 1019) rfl rfl), Or.inl ⟨rfl, (st_has (n := 5137) rfl rfl)⟩⟩ (st_has (n := 5138) rfl rfl) (by decide +kernel) (Or.inr ⟨rfl, (cv 4), 10, by simp [kss]⟩) rfl rfl (Nat.le_of_ble_eq_true rfl) (Nat.le_of_ble_eq_true rfl) (by decide) (by omega) (by omega) rfl rfl (by decide) (by decide) (by decide) ⟨rfl, fun q hq => (by simp only [List.mem_cons, List.not_mem_nil, or_false] at hq; subst hq; exact Or.inl (by simp [kss]))⟩ (tt_strAt D X (ca 4) (cv 4) (10) (z87) (by omega)) (fun ws1 v hq => ?_)
      obtain ⟨z88, hz88, rfl, rfl⟩ := hq
      refine st_st (st' := [.int (Int32.ofInt (z88)), .ref q80]) rfl ?_
      refine st_ws (ws' := [(r1, .inr (0, [.ref u2, .int (Int32.ofInt (0)), .int (Int32.ofInt (0)), .int (Int32.ofInt (0))])), (u2, .inl (D.2.2.2, k3, .inl g4)), (r5, .inr (0, [.ref u6, .int (Int32.ofInt (0)), .int (Int32.ofInt (0)), .int (Int32.ofInt (0))])), (u6, .inl (D.2.2.2, k7, .inl g8)), (q80, .inr (1, [.ref q83, .int (Int32.ofInt (0)), .int (Int32.ofInt (0)), .int (Int32.ofInt ((0 + (k3 : Int))))])), (q83, .inl (D.2.2.2, n84, .inl f85))]) rfl ?_
      refine st_callV (x := q80) (Cn := "java/lang/StringBuilder") (X' := ([], X.2)) (d' := 5) (NC' := 1) (NS' := 2002) (M' := mtJ4_append_cf468) (n := 1) (As := [.int (Int32.ofInt (z88))]) (st := []) (wc := [(q80, .inr (1, [.ref q83, .int (Int32.ofInt (0)), .int (Int32.ofInt (0)), .int (Int32.ofInt ((0 + (k3 : Int))))])), (q83, .inl (D.2.2.2, n84, .inl f85))]) (wr := [(r1, .inr (0, [.ref u2, .int (Int32.ofInt (0)), .int (Int32.ofInt (0)), .int (Int32.ofInt (0))])), (u2, .inl (D.2.2.2, k3, .inl g4)), (r5, .inr (0, [.ref u6, .int (Int32.ofInt (0)), .int (Int32.ofInt (0)), .int (Int32.ofInt (0))])), (u6, .inl (D.2.2.2, k7, .inl g8))]) [4, 5] [0, 1, 2, 3] ktL_says rfl ⟨(st_has (n := 5162) rfl rfl), (st_has (n := 5163) rfl rfl), (st_has (n := 1018) rfl rfl), Or.inl ⟨rfl, (st_has (n := 5164) rfl rfl)⟩⟩ (st_has (n := 5165) rfl rfl) (by decide +kernel) (Or.inl ⟨4, 1, _, _, _, rfl, rfl⟩) rfl rfl (Nat.le_of_ble_eq_true rfl) (Nat.le_of_ble_eq_true rfl) (by decide) (by omega) (by omega) rfl rfl (by decide) (by decide) (by decide) ⟨rfl, fun q hq => by cases hq⟩ (tt_app5C D X q80 q83 (n84) ((0 + (k3 : Int))) (z88) f85 (by omega) hf85 (by omega)) (fun ws1 v hq => ?_)
      obtain ⟨q89, n90, f91, hf91, hn90, rfl, rfl⟩ := hq
      refine st_st (st' := [.ref q80]) rfl ?_
      refine st_ws (ws' := [(r1, .inr (0, [.ref u2, .int (Int32.ofInt (0)), .int (Int32.ofInt (0)), .int (Int32.ofInt (0))])), (u2, .inl (D.2.2.2, k3, .inl g4)), (r5, .inr (0, [.ref u6, .int (Int32.ofInt (0)), .int (Int32.ofInt (0)), .int (Int32.ofInt (0))])), (u6, .inl (D.2.2.2, k7, .inl g8)), (q80, .inr (1, [.ref q89, .int (Int32.ofInt (0)), .int (Int32.ofInt (0)), .int (Int32.ofInt (((0 + (k3 : Int)) + 1)))])), (q89, .inl (D.2.2.2, n90, .inl f91))]) rfl ?_
      refine st_aload_n 1 ktL_says rfl rfl ?_
      refine st_callV (x := q80) (Cn := "java/lang/StringBuilder") (X' := ([(r5, u6, k7)], X.2)) (d' := 5) (NC' := 1) (NS' := 2002) (M' := mtJ4_append_15ec4) (n := 1) (As := [.ref r5]) (st := []) (wc := [(q80, .inr (1, [.ref q89, .int (Int32.ofInt (0)), .int (Int32.ofInt (0)), .int (Int32.ofInt (((0 + (k3 : Int)) + 1)))])), (q89, .inl (D.2.2.2, n90, .inl f91))]) (wr := [(r1, .inr (0, [.ref u2, .int (Int32.ofInt (0)), .int (Int32.ofInt (0)), .int (Int32.ofInt (0))])), (u2, .inl (D.2.2.2, k3, .inl g4)), (r5, .inr (0, [.ref u6, .int (Int32.ofInt (0)), .int (Int32.ofInt (0)), .int (Int32.ofInt (0))])), (u6, .inl (D.2.2.2, k7, .inl g8))]) [4, 5] [0, 1, 2, 3] ktL_says rfl ⟨(st_has (n := 5014) rfl rfl), (st_has (n := 5015) rfl rfl), (st_has (n := 1018) rfl rfl), Or.inl ⟨rfl, (st_has (n := 5016) rfl rfl)⟩⟩ (st_has (n := 5017) rfl rfl) (by decide +kernel) (Or.inl ⟨4, 1, _, _, _, rfl, rfl⟩) rfl rfl (Nat.le_of_ble_eq_true rfl) (Nat.le_of_ble_eq_true rfl) (by decide) (by omega) (by omega) rfl rfl (by decide) (by decide) (by decide) ⟨rfl, fun q hq => (by simp only [List.mem_cons, List.not_mem_nil, or_false] at hq; subst hq; exact Or.inr ⟨2, 3, _, _, _, rfl, rfl, hg8, (show (k7 : Nat) < 100000 by omega), by decide, by decide⟩)⟩ (tt_app5S D X q80 q89 (n90) (((0 + (k3 : Int)) + 1)) r5 u6 (k7) f91 (by omega) hf91 (by omega)) (fun ws1 v hq => ?_)
      obtain ⟨q92, n93, f94, hf94, hn93, rfl, rfl⟩ := hq
      refine st_st (st' := [.ref q80]) rfl ?_
      refine st_ws (ws' := [(r1, .inr (0, [.ref u2, .int (Int32.ofInt (0)), .int (Int32.ofInt (0)), .int (Int32.ofInt (0))])), (u2, .inl (D.2.2.2, k3, .inl g4)), (r5, .inr (0, [.ref u6, .int (Int32.ofInt (0)), .int (Int32.ofInt (0)), .int (Int32.ofInt (0))])), (u6, .inl (D.2.2.2, k7, .inl g8)), (q80, .inr (1, [.ref q92, .int (Int32.ofInt (0)), .int (Int32.ofInt (0)), .int (Int32.ofInt ((((0 + (k3 : Int)) + 1) + (k7 : Int))))])), (q92, .inl (D.2.2.2, n93, .inl f94))]) rfl ?_
      refine st_callV (x := q80) (Cn := "java/lang/StringBuilder") (X' := ([], X.2)) (d' := 6) (NC' := 2) (NS' := 2006) (M' := mtJ4_toString_0e30d) (n := 0) (As := []) (st := []) (wc := [(q80, .inr (1, [.ref q92, .int (Int32.ofInt (0)), .int (Int32.ofInt (0)), .int (Int32.ofInt ((((0 + (k3 : Int)) + 1) + (k7 : Int))))])), (q92, .inl (D.2.2.2, n93, .inl f94))]) (wr := [(r1, .inr (0, [.ref u2, .int (Int32.ofInt (0)), .int (Int32.ofInt (0)), .int (Int32.ofInt (0))])), (u2, .inl (D.2.2.2, k3, .inl g4)), (r5, .inr (0, [.ref u6, .int (Int32.ofInt (0)), .int (Int32.ofInt (0)), .int (Int32.ofInt (0))])), (u6, .inl (D.2.2.2, k7, .inl g8))]) [4, 5] [0, 1, 2, 3] ktL_says rfl ⟨(st_has (n := 5175) rfl rfl), (st_has (n := 5176) rfl rfl), (st_has (n := 1018) rfl rfl), Or.inl ⟨rfl, (st_has (n := 5177) rfl rfl)⟩⟩ (st_has (n := 5178) rfl rfl) (by decide +kernel) (Or.inl ⟨4, 1, _, _, _, rfl, rfl⟩) rfl rfl (Nat.le_of_ble_eq_true rfl) (Nat.le_of_ble_eq_true rfl) (by decide) (by omega) (by omega) rfl rfl (by decide) (by decide) (by decide) ⟨rfl, fun q hq => by cases hq⟩ (tt_toS D X q80 q92 (n93) ((((0 + (k3 : Int)) + 1) + (k7 : Int))) f94 hf94 (by omega)) (fun ws1 v hq => ?_)
      obtain ⟨r95, u96, k97, g98, hg98, hk97, rfl, rfl⟩ := hq
      refine st_st (st' := [.ref r95]) rfl ?_
      refine st_ws (ws' := [(r1, .inr (0, [.ref u2, .int (Int32.ofInt (0)), .int (Int32.ofInt (0)), .int (Int32.ofInt (0))])), (u2, .inl (D.2.2.2, k3, .inl g4)), (r5, .inr (0, [.ref u6, .int (Int32.ofInt (0)), .int (Int32.ofInt (0)), .int (Int32.ofInt (0))])), (u6, .inl (D.2.2.2, k7, .inl g8)), (r95, .inr (0, [.ref u96, .int (Int32.ofInt (0)), .int (Int32.ofInt (0)), .int (Int32.ofInt (0))])), (u96, .inl (D.2.2.2, k97, .inl g98))]) rfl ?_
      refine st_goto (tgt := 179) ktL_says rfl (by decide) ?_
      refine st_sub (ws' := [(r95, .inr (0, [.ref u96, .int (Int32.ofInt (0)), .int (Int32.ofInt (0)), .int (Int32.ofInt (0))])), (u96, .inl (D.2.2.2, k97, .inl g98))]) [4, 5] rfl (by decide) ?_
      exact st_areturn (ty := (.object "java/lang/String")) ktL_says rfl rfl (Or.inl ⟨_, rfl⟩) (by omega) (by omega) ⟨_, _, _, _, hg98, by omega, rfl, rfl⟩
  · refine st_aload_n 2 ktL_says rfl rfl ?_
    refine st_goto (tgt := 179) ktL_says rfl (by decide) ?_
    refine st_sub (ws' := [(r1, .inr (0, [.ref u2, .int (Int32.ofInt (0)), .int (Int32.ofInt (0)), .int (Int32.ofInt (0))])), (u2, .inl (D.2.2.2, k3, .inl g4))]) [0, 1] rfl (by decide) ?_
    exact st_areturn (ty := (.object "java/lang/String")) ktL_says rfl rfl (Or.inl ⟨_, rfl⟩) (by omega) (by omega) ⟨_, _, _, _, hg4, by omega, rfl, rfl⟩
def mtL_text : fz_M := (yL_text, method_6_code, 6, (some (.object "java/lang/String")), [(0, .aload_n 0, 1, 0, 0, 0), (1, .iload_n 1, 1, 0, 0, 0), (2, .invokestatic 64, 3, 0, 0, 0), (5, .istore_n 2, 1, 0, 0, 0), (6, .iload_n 2, 1, 0, 0, 0), (7, .iconst 3, 1, 0, 0, 0), (8, .irem, 1, 0, 0, 0), (9, .ifCond .ne 6, 3, 0, 0, 0), (12, .ldc 16, 2, 0, 0, 0), (14, .areturn, 1, 0, 0, 0), (15, .iload_n 2, 1, 0, 0, 0), (16, .iconst 3, 1, 0, 0, 0), (17, .ishr, 1, 0, 0, 0), (18, .iconst 4, 1, 0, 0, 0), (19, .invokestatic 7, 3, 0, 0, 0), (22, .istore_n 3, 1, 0, 0, 0), (23, .ldc 16, 2, 0, 0, 0), (25, .astore 4, 2, 0, 0, 0), (27, .iconst 0, 1, 0, 0, 0), (28, .istore 5, 2, 0, 0, 0), (30, .iload 5, 2, 0, 0, 0), (32, .iload_n 3, 1, 0, 0, 0), (33, .if_icmp .ge 77, 3, 0, 0, 0), (36, .new 13, 3, 0, 0, 0), (39, .dup, 1, 0, 0, 0), (40, .invokespecial 15, 3, 0, 0, 0), (43, .aload 4, 2, 0, 0, 0), (45, .invokevirtual 18, 3, 0, 0, 0), (48, .aload_n 0, 1, 0, 0, 0), (49, .iload_n 1, 1, 0, 0, 0), (50, .iconst 1, 1, 0, 0, 0), (51, .iadd, 1, 0, 0, 0), (52, .invokestatic 64, 3, 0, 0, 0), (55, .iload 5, 2, 0, 0, 0), (57, .ishr, 1, 0, 0, 0), (58, .iload_n 2, 1, 0, 0, 0), (59, .iload 5, 2, 0, 0, 0), (61, .ishr, 1, 0, 0, 0), (62, .invokestatic 68, 3, 0, 0, 0), (65, .invokevirtual 18, 3, 0, 0, 0), (68, .ldc 72, 2, 0, 0, 0), (70, .invokevirtual 18, 3, 0, 0, 0), (73, .iload_n 2, 1, 0, 0, 0), (74, .iconst 4, 1, 0, 0, 0), (75, .iload 5, 2, 0, 0, 0), (77, .iadd, 1, 0, 0, 0), (78, .ishr, 1, 0, 0, 0), (79, .aload_n 0, 1, 0, 0, 0), (80, .iload_n 1, 1, 0, 0, 0), (81, .iconst 1, 1, 0, 0, 0), (82, .iadd, 1, 0, 0, 0), (83, .invokestatic 64, 3, 0, 0, 0), (86, .iconst 5, 1, 0, 0, 0), (87, .ishr, 1, 0, 0, 0), (88, .invokestatic 68, 3, 0, 0, 0), (91, .invokevirtual 18, 3, 0, 0, 0), (94, .ldc 74, 2, 0, 0, 0), (96, .invokevirtual 18, 3, 0, 0, 0), (99, .invokevirtual 33, 3, 0, 0, 0), (102, .astore 4, 2, 0, 0, 0), (104, .iinc 5 1, 3, 0, 0, 0), (107, .goto (-77), 3, 0, 0, 0), (110, .new 13, 3, 0, 0, 0), (113, .dup, 1, 0, 0, 0), (114, .invokespecial 15, 3, 0, 0, 0), (117, .aload 4, 2, 0, 0, 0), (119, .invokevirtual 18, 3, 0, 0, 0), (122, .iload_n 2, 1, 0, 0, 0), (123, .bipush 64, 2, 0, 0, 0), (125, .iand, 1, 0, 0, 0), (126, .ifCond .ne 8, 3, 0, 0, 0), (129, .ldc 76, 2, 0, 0, 0), (131, .goto 20, 3, 0, 0, 0), (134, .aload_n 0, 1, 0, 0, 0), (135, .iload_n 1, 1, 0, 0, 0), (136, .iconst 1, 1, 0, 0, 0), (137, .iadd, 1, 0, 0, 0), (138, .invokestatic 64, 3, 0, 0, 0), (141, .bipush 7, 2, 0, 0, 0), (143, .ishr, 1, 0, 0, 0), (144, .iload_n 2, 1, 0, 0, 0), (145, .bipush 9, 2, 0, 0, 0), (147, .ishr, 1, 0, 0, 0), (148, .invokestatic 68, 3, 0, 0, 0), (151, .invokevirtual 18, 3, 0, 0, 0), (154, .invokevirtual 33, 3, 0, 0, 0), (157, .astore 4, 2, 0, 0, 0), (159, .aload 4, 2, 0, 0, 0), (161, .invokevirtual 78, 3, 0, 0, 0), (164, .bipush 120, 2, 0, 0, 0), (166, .if_icmp .le 8, 3, 0, 0, 0), (169, .ldc 82, 2, 0, 0, 0), (171, .goto 5, 3, 0, 0, 0), (174, .aload 4, 2, 0, 0, 0), (176, .areturn, 1, 0, 0, 0)])
set_option maxRecDepth 100000 in
theorem ktL_text : fz_okK mtL_text = true := fz_okK_in (by decide +kernel)
set_option maxHeartbeats 4000000 in
set_option maxRecDepth 100000 in
theorem tt_text (D : st_D) (X : st_Xt) (ca cv : Nat → Nat) (hX : X.2.1 = kl ca) (k : Int) (hk : 0 ≤ k ∧ k ≤ 900) (hL : X.2.2.2.2.1 ≤ 3072) : st_R D (kss ca cv, X.2) 9 500 500000 mtL_text 0 (lv_args 0 [.ref X.2.2.2.1, .int (Int32.ofInt (k))]) [] [] 0 0 (fun ws v => (∃ i, v = some (.ref (ca i)) ∧ (i = 0 ∨ i = 15) ∧ ws = []) ∨ (∃ (r u k : Nat) (g : Nat → Int32), sb_Fit g ∧ k ≤ 120 ∧ v = some (.ref r) ∧ ws = [(r, .inr (0, [.ref u, .int (Int32.ofInt (0)), .int (Int32.ofInt (0)), .int (Int32.ofInt (0))])), (u, .inl (D.2.2.2, k, .inl g))])) := by
  show st_R D (kss ca cv, X.2) 9 500 500000 mtL_text 0 [(0, .ref X.2.2.2.1), (1, .int (Int32.ofInt (k)))] [] _ 0 0 _
  refine st_aload_n 0 ktL_text rfl rfl ?_
  refine st_iload_n 1 ktL_text rfl rfl ?_
  refine st_callS (X' := ([], X.2)) (d' := 1) (NC' := 0) (NS' := 0) (M' := mtL_at) (n := 2) (As := [.ref X.2.2.2.1, .int (Int32.ofInt (k))]) (st := []) (wc := []) (wr := []) [] [] ktL_text rfl (st_has (n := 4212) rfl rfl) (st_has (n := 4214) rfl rfl) (st_has (n := 1000) rfl rfl) (st_has (n := 4213) rfl rfl) (by decide +kernel) rfl rfl (Nat.le_of_ble_eq_true rfl) (Nat.le_of_ble_eq_true rfl) (by decide) (by omega) (by omega) rfl rfl (by decide) (by decide) (by decide) ⟨rfl, fun q hq => by cases hq⟩ (tt_at D X (k) (by omega) hL) (fun ws1 v hq => ?_)
  obtain ⟨z1, hz1, rfl, rfl⟩ := hq
  refine st_st (st' := [.int (Int32.ofInt (z1))]) rfl ?_
  refine st_ws (ws' := []) rfl ?_
  refine st_istore_n (ls' := [(2, .int (Int32.ofInt (z1))), (0, .ref X.2.2.2.1), (1, .int (Int32.ofInt (k)))]) ktL_text rfl (by decide) rfl ?_
  refine st_iload_n 0 ktL_text rfl rfl ?_
  refine st_iconst ktL_text rfl ?_
  obtain ⟨z2, ez2⟩ : ∃ z : Int, z = Int.tmod (z1) (3) := ⟨_, rfl⟩
  have hz2 := st_tm (x := z1) (n := 3) (by omega)
  rw [← ez2] at hz2
  refine st_irem (z := z2) ⟨by omega, by omega⟩ ⟨by omega, by omega⟩ (by omega) (by rw [← ez2]; exact fz_w_id (by omega) (by omega)) ktL_text rfl ?_
  refine st_if_ne (tgt := 15) ⟨by omega, by omega⟩ ktL_text rfl (by decide) (fun c3 => ?_) (fun c3 => ?_)
  · refine st_iload_n 0 ktL_text rfl rfl ?_
    refine st_iconst ktL_text rfl ?_
    refine st_ishr ktL_text rfl (fun z4 hz4 => ?_)
    refine st_iconst ktL_text rfl ?_
    refine st_callS (X' := ([], X.2)) (d' := 1) (NC' := 0) (NS' := 0) (M' := mtL_some) (n := 2) (As := [.int (Int32.ofInt (z4)), .int (Int32.ofInt (4))]) (st := []) (wc := []) (wr := []) [] [] ktL_text rfl (st_has (n := 4215) rfl rfl) (st_has (n := 4217) rfl rfl) (st_has (n := 1000) rfl rfl) (st_has (n := 4216) rfl rfl) (by decide +kernel) rfl rfl (Nat.le_of_ble_eq_true rfl) (Nat.le_of_ble_eq_true rfl) (by decide) (by omega) (by omega) rfl rfl (by decide) (by decide) (by decide) ⟨rfl, fun q hq => by cases hq⟩ (tt_some D X (z4) (4) ⟨by omega, by omega⟩ ⟨by omega, by omega⟩) (fun ws1 v hq => ?_)
    obtain ⟨z5, hz5, rfl, rfl⟩ := hq
    refine st_st (st' := [.int (Int32.ofInt (z5))]) rfl ?_
    refine st_ws (ws' := []) rfl ?_
    refine st_istore_n (ls' := [(3, .int (Int32.ofInt (z5))), (2, .int (Int32.ofInt (z1))), (0, .ref X.2.2.2.1), (1, .int (Int32.ofInt (k)))]) ktL_text rfl (by decide) rfl ?_
    refine st_ldcS (tx := "") (q := (ca 0)) rfl (by show _ ∈ X.2.1; rw [hX]; simp [kl]) ktL_text rfl ?_
    refine st_astore (ls' := [(4, .ref (ca 0)), (3, .int (Int32.ofInt (z5))), (2, .int (Int32.ofInt (z1))), (0, .ref X.2.2.2.1), (1, .int (Int32.ofInt (k)))]) ktL_text rfl (by decide) rfl ?_
    refine st_iconst ktL_text rfl ?_
    refine st_istore (ls' := [(5, .int (Int32.ofInt (0))), (4, .ref (ca 0)), (3, .int (Int32.ofInt (z5))), (2, .int (Int32.ofInt (z1))), (0, .ref X.2.2.2.1), (1, .int (Int32.ofInt (k)))]) ktL_text rfl (by decide) rfl ?_
    refine st_iload 0 ktL_text rfl rfl ?_
    refine st_iload_n 2 ktL_text rfl rfl ?_
    refine st_icmp_ge (tgt := 110) ⟨by omega, by omega⟩ ⟨by omega, by omega⟩ ktL_text rfl (by decide) (fun c6 => ?_) (fun c6 => ?_)
    · refine st_new (ci := 1) tyJ4 [.null, .int (Int32.ofInt (0)), .int (Int32.ofInt (0)), .int (Int32.ofInt (0))] ktL_text rfl rfl tyJ4_ok (st_has (n := 4222) rfl rfl) (st_has (n := 4223) rfl rfl) (st_has (n := 1018) rfl rfl) rfl (by omega) (by omega) (fun q7 => ?_)
      refine st_ws (ws' := [(q7, .inr (1, [.null, .int (Int32.ofInt (0)), .int (Int32.ofInt (0)), .int (Int32.ofInt (0))]))]) rfl ?_
      refine st_dup rfl ktL_text rfl ?_
      refine st_callI (x := q7) (X' := ([], X.2)) (d' := 3) (NC' := 1) (NS' := 16) (M' := mtJ4_init_da8c8) (n := 0) (As := []) (st := [.ref q7]) (wc := [(q7, .inr (1, [.null, .int (Int32.ofInt (0)), .int (Int32.ofInt (0)), .int (Int32.ofInt (0))]))]) (wr := []) [0] [] ktL_text rfl (st_has (n := 4224) rfl rfl) (st_has (n := 4226) rfl rfl) (st_has (n := 1018) rfl rfl) (st_has (n := 4225) rfl rfl) (by decide +kernel) rfl rfl rfl rfl (Nat.le_of_ble_eq_true rfl) (Nat.le_of_ble_eq_true rfl) (by decide) (by omega) (by omega) rfl rfl (by decide) (by decide) (by decide) ⟨rfl, fun q hq => by cases hq⟩ (tt_sbInit D X q7) (fun ws1 v hq => ?_)
      obtain ⟨rfl, q8, f9, hf9, rfl⟩ := hq
      refine st_st (st' := [.ref q7]) rfl ?_
      refine st_ws (ws' := [(q7, .inr (1, [.ref q8, .int (Int32.ofInt (0)), .int (Int32.ofInt (0)), .int (Int32.ofInt (0))])), (q8, .inl (D.2.2.2, 16, .inl f9))]) rfl ?_
      refine st_aload 1 ktL_text rfl rfl ?_
      refine st_callV (x := q7) (Cn := "java/lang/StringBuilder") (X' := ([((ca 0), (cv 0), 0)], X.2)) (d' := 5) (NC' := 1) (NS' := 2002) (M' := mtJ4_append_15ec4) (n := 1) (As := [.ref (ca 0)]) (st := []) (wc := [(q7, .inr (1, [.ref q8, .int (Int32.ofInt (0)), .int (Int32.ofInt (0)), .int (Int32.ofInt (0))])), (q8, .inl (D.2.2.2, 16, .inl f9))]) (wr := []) [0, 1] [] ktL_text rfl ⟨(st_has (n := 5014) rfl rfl), (st_has (n := 5015) rfl rfl), (st_has (n := 1018) rfl rfl), Or.inl ⟨rfl, (st_has (n := 5016) rfl rfl)⟩⟩ (st_has (n := 5017) rfl rfl) (by decide +kernel) (Or.inl ⟨0, 1, _, _, _, rfl, rfl⟩) rfl rfl (Nat.le_of_ble_eq_true rfl) (Nat.le_of_ble_eq_true rfl) (by decide) (by omega) (by omega) rfl rfl (by decide) (by decide) (by decide) ⟨rfl, fun q hq => (by simp only [List.mem_cons, List.not_mem_nil, or_false] at hq; subst hq; exact Or.inl (by simp [kss]))⟩ (tt_app5S D X q7 q8 (16) (0) (ca 0) (cv 0) (0) f9 (by omega) hf9 (by omega)) (fun ws1 v hq => ?_)
      obtain ⟨q10, n11, f12, hf12, hn11, rfl, rfl⟩ := hq
      refine st_st (st' := [.ref q7]) rfl ?_
      refine st_ws (ws' := [(q7, .inr (1, [.ref q10, .int (Int32.ofInt (0)), .int (Int32.ofInt (0)), .int (Int32.ofInt ((0 + (0 : Int))))])), (q10, .inl (D.2.2.2, n11, .inl f12))]) rfl ?_
      refine st_iload_n 3 ktL_text rfl rfl ?_
      refine st_bipush ⟨by decide, by decide⟩ ktL_text rfl ?_
      refine st_iand ktL_text rfl (fun z13 ez13 => ?_)
      have hz13 : 0 ≤ z13 ∧ z13 ≤ 64 := by rw [ez13]; exact st_and_m (by decide) (by decide)
      refine st_if_ne (tgt := 134) ⟨by omega, by omega⟩ ktL_text rfl (by decide) (fun c14 => ?_) (fun c14 => ?_)
      · refine st_aload_n 4 ktL_text rfl rfl ?_
        refine st_iload_n 5 ktL_text rfl rfl ?_
        refine st_iconst ktL_text rfl ?_
        refine st_iadd (z := (k + 1)) (fz_w_id (by omega) (by omega)) ktL_text rfl ?_
        refine st_callS (X' := ([], X.2)) (d' := 1) (NC' := 0) (NS' := 0) (M' := mtL_at) (n := 2) (As := [.ref X.2.2.2.1, .int (Int32.ofInt ((k + 1)))]) (st := [.ref q7]) (wc := []) (wr := [(q7, .inr (1, [.ref q10, .int (Int32.ofInt (0)), .int (Int32.ofInt (0)), .int (Int32.ofInt ((0 + (0 : Int))))])), (q10, .inl (D.2.2.2, n11, .inl f12))]) [] [0, 1] ktL_text rfl (st_has (n := 4212) rfl rfl) (st_has (n := 4214) rfl rfl) (st_has (n := 1000) rfl rfl) (st_has (n := 4213) rfl rfl) (by decide +kernel) rfl rfl (Nat.le_of_ble_eq_true rfl) (Nat.le_of_ble_eq_true rfl) (by decide) (by omega) (by omega) rfl rfl (by decide) (by decide) (by decide) ⟨rfl, fun q hq => by cases hq⟩ (tt_at D X ((k + 1)) (by omega) hL) (fun ws1 v hq => ?_)
        obtain ⟨z15, hz15, rfl, rfl⟩ := hq
        refine st_st (st' := [.int (Int32.ofInt (z15)), .ref q7]) rfl ?_
        refine st_ws (ws' := [(q7, .inr (1, [.ref q10, .int (Int32.ofInt (0)), .int (Int32.ofInt (0)), .int (Int32.ofInt ((0 + (0 : Int))))])), (q10, .inl (D.2.2.2, n11, .inl f12))]) rfl ?_
        refine st_bipush ⟨by decide, by decide⟩ ktL_text rfl ?_
        refine st_ishr ktL_text rfl (fun z16 hz16 => ?_)
        refine st_iload_n 3 ktL_text rfl rfl ?_
        refine st_bipush ⟨by decide, by decide⟩ ktL_text rfl ?_
        refine st_ishr ktL_text rfl (fun z17 hz17 => ?_)
        refine st_callS (X' := (kss ca cv, X.2)) (d' := 8) (NC' := 40) (NS' := 40000) (M' := mtL_says) (n := 2) (As := [.int (Int32.ofInt (z16)), .int (Int32.ofInt (z17))]) (st := [.ref q7]) (wc := []) (wr := [(q7, .inr (1, [.ref q10, .int (Int32.ofInt (0)), .int (Int32.ofInt (0)), .int (Int32.ofInt ((0 + (0 : Int))))])), (q10, .inl (D.2.2.2, n11, .inl f12))]) [] [0, 1] ktL_text rfl (st_has (n := 5128) rfl rfl) (st_has (n := 5130) rfl rfl) (st_has (n := 1000) rfl rfl) (st_has (n := 5129) rfl rfl) (by decide +kernel) rfl rfl (Nat.le_of_ble_eq_true rfl) (Nat.le_of_ble_eq_true rfl) (by decide) (by omega) (by omega) rfl rfl (by decide) (by decide) (by decide) ⟨rfl, fun q hq => Or.inl hq⟩ (tt_says D X ca cv hX (z16) (z17) ⟨by omega, by omega⟩ ⟨by omega, by omega⟩) (fun ws1 v hq => ?_)
        obtain ⟨r18, u19, k20, g21, hg21, hk20, rfl, rfl⟩ := hq
        refine st_st (st' := [.ref r18, .ref q7]) rfl ?_
        refine st_ws (ws' := [(q7, .inr (1, [.ref q10, .int (Int32.ofInt (0)), .int (Int32.ofInt (0)), .int (Int32.ofInt ((0 + (0 : Int))))])), (q10, .inl (D.2.2.2, n11, .inl f12)), (r18, .inr (0, [.ref u19, .int (Int32.ofInt (0)), .int (Int32.ofInt (0)), .int (Int32.ofInt (0))])), (u19, .inl (D.2.2.2, k20, .inl g21))]) rfl ?_
        refine st_callV (x := q7) (Cn := "java/lang/StringBuilder") (X' := ([(r18, u19, k20)], X.2)) (d' := 5) (NC' := 1) (NS' := 2002) (M' := mtJ4_append_15ec4) (n := 1) (As := [.ref r18]) (st := []) (wc := [(q7, .inr (1, [.ref q10, .int (Int32.ofInt (0)), .int (Int32.ofInt (0)), .int (Int32.ofInt ((0 + (0 : Int))))])), (q10, .inl (D.2.2.2, n11, .inl f12))]) (wr := [(r18, .inr (0, [.ref u19, .int (Int32.ofInt (0)), .int (Int32.ofInt (0)), .int (Int32.ofInt (0))])), (u19, .inl (D.2.2.2, k20, .inl g21))]) [0, 1] [2, 3] ktL_text rfl ⟨(st_has (n := 5014) rfl rfl), (st_has (n := 5015) rfl rfl), (st_has (n := 1018) rfl rfl), Or.inl ⟨rfl, (st_has (n := 5016) rfl rfl)⟩⟩ (st_has (n := 5017) rfl rfl) (by decide +kernel) (Or.inl ⟨0, 1, _, _, _, rfl, rfl⟩) rfl rfl (Nat.le_of_ble_eq_true rfl) (Nat.le_of_ble_eq_true rfl) (by decide) (by omega) (by omega) rfl rfl (by decide) (by decide) (by decide) ⟨rfl, fun q hq => (by simp only [List.mem_cons, List.not_mem_nil, or_false] at hq; subst hq; exact Or.inr ⟨2, 3, _, _, _, rfl, rfl, hg21, (show (k20 : Nat) < 100000 by omega), by decide, by decide⟩)⟩ (tt_app5S D X q7 q10 (n11) ((0 + (0 : Int))) r18 u19 (k20) f12 (by omega) hf12 (by omega)) (fun ws1 v hq => ?_)
        obtain ⟨q22, n23, f24, hf24, hn23, rfl, rfl⟩ := hq
        refine st_st (st' := [.ref q7]) rfl ?_
        refine st_ws (ws' := [(r18, .inr (0, [.ref u19, .int (Int32.ofInt (0)), .int (Int32.ofInt (0)), .int (Int32.ofInt (0))])), (u19, .inl (D.2.2.2, k20, .inl g21)), (q7, .inr (1, [.ref q22, .int (Int32.ofInt (0)), .int (Int32.ofInt (0)), .int (Int32.ofInt (((0 + (0 : Int)) + (k20 : Int))))])), (q22, .inl (D.2.2.2, n23, .inl f24))]) rfl ?_
        refine st_callV (x := q7) (Cn := "java/lang/StringBuilder") (X' := ([], X.2)) (d' := 6) (NC' := 2) (NS' := 2006) (M' := mtJ4_toString_0e30d) (n := 0) (As := []) (st := []) (wc := [(q7, .inr (1, [.ref q22, .int (Int32.ofInt (0)), .int (Int32.ofInt (0)), .int (Int32.ofInt (((0 + (0 : Int)) + (k20 : Int))))])), (q22, .inl (D.2.2.2, n23, .inl f24))]) (wr := [(r18, .inr (0, [.ref u19, .int (Int32.ofInt (0)), .int (Int32.ofInt (0)), .int (Int32.ofInt (0))])), (u19, .inl (D.2.2.2, k20, .inl g21))]) [2, 3] [0, 1] ktL_text rfl ⟨(st_has (n := 5175) rfl rfl), (st_has (n := 5176) rfl rfl), (st_has (n := 1018) rfl rfl), Or.inl ⟨rfl, (st_has (n := 5177) rfl rfl)⟩⟩ (st_has (n := 5178) rfl rfl) (by decide +kernel) (Or.inl ⟨2, 1, _, _, _, rfl, rfl⟩) rfl rfl (Nat.le_of_ble_eq_true rfl) (Nat.le_of_ble_eq_true rfl) (by decide) (by omega) (by omega) rfl rfl (by decide) (by decide) (by decide) ⟨rfl, fun q hq => by cases hq⟩ (tt_toS D X q7 q22 (n23) (((0 + (0 : Int)) + (k20 : Int))) f24 hf24 (by omega)) (fun ws1 v hq => ?_)
        obtain ⟨r25, u26, k27, g28, hg28, hk27, rfl, rfl⟩ := hq
        refine st_st (st' := [.ref r25]) rfl ?_
        refine st_ws (ws' := [(r18, .inr (0, [.ref u19, .int (Int32.ofInt (0)), .int (Int32.ofInt (0)), .int (Int32.ofInt (0))])), (u19, .inl (D.2.2.2, k20, .inl g21)), (r25, .inr (0, [.ref u26, .int (Int32.ofInt (0)), .int (Int32.ofInt (0)), .int (Int32.ofInt (0))])), (u26, .inl (D.2.2.2, k27, .inl g28))]) rfl ?_
        refine st_astore (ls' := [(4, .ref r25), (5, .int (Int32.ofInt (0))), (3, .int (Int32.ofInt (z5))), (2, .int (Int32.ofInt (z1))), (0, .ref X.2.2.2.1), (1, .int (Int32.ofInt (k)))]) ktL_text rfl (by decide) rfl ?_
        refine st_aload 0 ktL_text rfl rfl ?_
        refine st_callV (x := r25) (Cn := "java/lang/String") (X' := ([(r25, u26, k27)], X.2)) (d' := 2) (NC' := 0) (NS' := 0) (M' := mtJ0_length_8abf5) (n := 0) (As := []) (st := []) (wc := []) (wr := [(r18, .inr (0, [.ref u19, .int (Int32.ofInt (0)), .int (Int32.ofInt (0)), .int (Int32.ofInt (0))])), (u19, .inl (D.2.2.2, k20, .inl g21)), (r25, .inr (0, [.ref u26, .int (Int32.ofInt (0)), .int (Int32.ofInt (0)), .int (Int32.ofInt (0))])), (u26, .inl (D.2.2.2, k27, .inl g28))]) [] [0, 1, 2, 3] ktL_text rfl ⟨(st_has (n := 6030) rfl rfl), (st_has (n := 5086) rfl rfl), (st_has (n := 1019) rfl rfl), Or.inl ⟨rfl, (st_has (n := 5087) rfl rfl)⟩⟩ (st_has (n := 5088) rfl rfl) (by decide +kernel) (Or.inl ⟨2, 0, _, _, _, rfl, rfl⟩) rfl rfl (Nat.le_of_ble_eq_true rfl) (Nat.le_of_ble_eq_true rfl) (by decide) (by omega) (by omega) rfl rfl (by decide) (by decide) (by decide) ⟨rfl, fun q hq => (by simp only [List.mem_cons, List.not_mem_nil, or_false] at hq; subst hq; exact Or.inr ⟨2, 3, _, _, _, rfl, rfl, hg28, (show (k27 : Nat) < 100000 by omega), by decide, by decide⟩)⟩ (tt_strLen D X r25 u26 (k27)) (fun ws1 v hq => ?_)
        obtain ⟨rfl, rfl⟩ := hq
        refine st_st (st' := [.int (Int32.ofInt ((k27 : Int)))]) rfl ?_
        refine st_ws (ws' := [(r18, .inr (0, [.ref u19, .int (Int32.ofInt (0)), .int (Int32.ofInt (0)), .int (Int32.ofInt (0))])), (u19, .inl (D.2.2.2, k20, .inl g21)), (r25, .inr (0, [.ref u26, .int (Int32.ofInt (0)), .int (Int32.ofInt (0)), .int (Int32.ofInt (0))])), (u26, .inl (D.2.2.2, k27, .inl g28))]) rfl ?_
        refine st_bipush ⟨by decide, by decide⟩ ktL_text rfl ?_
        refine st_icmp_le (tgt := 174) ⟨by omega, by omega⟩ ⟨by omega, by omega⟩ ktL_text rfl (by decide) (fun c29 => ?_) (fun c29 => ?_)
        · refine st_aload 0 ktL_text rfl rfl ?_
          refine st_sub (ws' := [(r25, .inr (0, [.ref u26, .int (Int32.ofInt (0)), .int (Int32.ofInt (0)), .int (Int32.ofInt (0))])), (u26, .inl (D.2.2.2, k27, .inl g28))]) [2, 3] rfl (by decide) ?_
          exact st_areturn (ty := (.object "java/lang/String")) ktL_text rfl rfl (Or.inl ⟨_, rfl⟩) (by omega) (by omega) (Or.inr ⟨_, _, _, _, hg28, by omega, rfl, rfl⟩)
        · refine st_ldcS (tx := "m=1?7*w-a;w>5?50-a;9") (q := (ca 15)) rfl (by show _ ∈ X.2.1; rw [hX]; simp [kl]) ktL_text rfl ?_
          refine st_goto (tgt := 176) ktL_text rfl (by decide) ?_
          refine st_sub (ws' := []) [] rfl (by decide) ?_
          exact st_areturn (ty := (.object "java/lang/String")) ktL_text rfl rfl (Or.inl ⟨_, rfl⟩) (by omega) (by omega) (Or.inl ⟨_, rfl, by decide, rfl⟩)
      · refine st_ldcS (tx := "9*w-a/5-d") (q := (ca 14)) rfl (by show _ ∈ X.2.1; rw [hX]; simp [kl]) ktL_text rfl ?_
        refine st_goto (tgt := 151) ktL_text rfl (by decide) ?_
        refine st_callV (x := q7) (Cn := "java/lang/StringBuilder") (X' := ([((ca 14), (cv 14), 9)], X.2)) (d' := 5) (NC' := 1) (NS' := 2002) (M' := mtJ4_append_15ec4) (n := 1) (As := [.ref (ca 14)]) (st := []) (wc := [(q7, .inr (1, [.ref q10, .int (Int32.ofInt (0)), .int (Int32.ofInt (0)), .int (Int32.ofInt ((0 + (0 : Int))))])), (q10, .inl (D.2.2.2, n11, .inl f12))]) (wr := []) [0, 1] [] ktL_text rfl ⟨(st_has (n := 5014) rfl rfl), (st_has (n := 5015) rfl rfl), (st_has (n := 1018) rfl rfl), Or.inl ⟨rfl, (st_has (n := 5016) rfl rfl)⟩⟩ (st_has (n := 5017) rfl rfl) (by decide +kernel) (Or.inl ⟨0, 1, _, _, _, rfl, rfl⟩) rfl rfl (Nat.le_of_ble_eq_true rfl) (Nat.le_of_ble_eq_true rfl) (by decide) (by omega) (by omega) rfl rfl (by decide) (by decide) (by decide) ⟨rfl, fun q hq => (by simp only [List.mem_cons, List.not_mem_nil, or_false] at hq; subst hq; exact Or.inl (by simp [kss]))⟩ (tt_app5S D X q7 q10 (n11) ((0 + (0 : Int))) (ca 14) (cv 14) (9) f12 (by omega) hf12 (by omega)) (fun ws1 v hq => ?_)
        obtain ⟨q30, n31, f32, hf32, hn31, rfl, rfl⟩ := hq
        refine st_st (st' := [.ref q7]) rfl ?_
        refine st_ws (ws' := [(q7, .inr (1, [.ref q30, .int (Int32.ofInt (0)), .int (Int32.ofInt (0)), .int (Int32.ofInt (((0 + (0 : Int)) + (9 : Int))))])), (q30, .inl (D.2.2.2, n31, .inl f32))]) rfl ?_
        refine st_callV (x := q7) (Cn := "java/lang/StringBuilder") (X' := ([], X.2)) (d' := 6) (NC' := 2) (NS' := 2006) (M' := mtJ4_toString_0e30d) (n := 0) (As := []) (st := []) (wc := [(q7, .inr (1, [.ref q30, .int (Int32.ofInt (0)), .int (Int32.ofInt (0)), .int (Int32.ofInt (((0 + (0 : Int)) + (9 : Int))))])), (q30, .inl (D.2.2.2, n31, .inl f32))]) (wr := []) [0, 1] [] ktL_text rfl ⟨(st_has (n := 5175) rfl rfl), (st_has (n := 5176) rfl rfl), (st_has (n := 1018) rfl rfl), Or.inl ⟨rfl, (st_has (n := 5177) rfl rfl)⟩⟩ (st_has (n := 5178) rfl rfl) (by decide +kernel) (Or.inl ⟨0, 1, _, _, _, rfl, rfl⟩) rfl rfl (Nat.le_of_ble_eq_true rfl) (Nat.le_of_ble_eq_true rfl) (by decide) (by omega) (by omega) rfl rfl (by decide) (by decide) (by decide) ⟨rfl, fun q hq => by cases hq⟩ (tt_toS D X q7 q30 (n31) (((0 + (0 : Int)) + (9 : Int))) f32 hf32 (by omega)) (fun ws1 v hq => ?_)
        obtain ⟨r33, u34, k35, g36, hg36, hk35, rfl, rfl⟩ := hq
        refine st_st (st' := [.ref r33]) rfl ?_
        refine st_ws (ws' := [(r33, .inr (0, [.ref u34, .int (Int32.ofInt (0)), .int (Int32.ofInt (0)), .int (Int32.ofInt (0))])), (u34, .inl (D.2.2.2, k35, .inl g36))]) rfl ?_
        refine st_astore (ls' := [(4, .ref r33), (5, .int (Int32.ofInt (0))), (3, .int (Int32.ofInt (z5))), (2, .int (Int32.ofInt (z1))), (0, .ref X.2.2.2.1), (1, .int (Int32.ofInt (k)))]) ktL_text rfl (by decide) rfl ?_
        refine st_aload 0 ktL_text rfl rfl ?_
        refine st_callV (x := r33) (Cn := "java/lang/String") (X' := ([(r33, u34, k35)], X.2)) (d' := 2) (NC' := 0) (NS' := 0) (M' := mtJ0_length_8abf5) (n := 0) (As := []) (st := []) (wc := []) (wr := [(r33, .inr (0, [.ref u34, .int (Int32.ofInt (0)), .int (Int32.ofInt (0)), .int (Int32.ofInt (0))])), (u34, .inl (D.2.2.2, k35, .inl g36))]) [] [0, 1] ktL_text rfl ⟨(st_has (n := 6030) rfl rfl), (st_has (n := 5086) rfl rfl), (st_has (n := 1019) rfl rfl), Or.inl ⟨rfl, (st_has (n := 5087) rfl rfl)⟩⟩ (st_has (n := 5088) rfl rfl) (by decide +kernel) (Or.inl ⟨0, 0, _, _, _, rfl, rfl⟩) rfl rfl (Nat.le_of_ble_eq_true rfl) (Nat.le_of_ble_eq_true rfl) (by decide) (by omega) (by omega) rfl rfl (by decide) (by decide) (by decide) ⟨rfl, fun q hq => (by simp only [List.mem_cons, List.not_mem_nil, or_false] at hq; subst hq; exact Or.inr ⟨0, 1, _, _, _, rfl, rfl, hg36, (show (k35 : Nat) < 100000 by omega), by decide, by decide⟩)⟩ (tt_strLen D X r33 u34 (k35)) (fun ws1 v hq => ?_)
        obtain ⟨rfl, rfl⟩ := hq
        refine st_st (st' := [.int (Int32.ofInt ((k35 : Int)))]) rfl ?_
        refine st_ws (ws' := [(r33, .inr (0, [.ref u34, .int (Int32.ofInt (0)), .int (Int32.ofInt (0)), .int (Int32.ofInt (0))])), (u34, .inl (D.2.2.2, k35, .inl g36))]) rfl ?_
        refine st_bipush ⟨by decide, by decide⟩ ktL_text rfl ?_
        refine st_icmp_le (tgt := 174) ⟨by omega, by omega⟩ ⟨by omega, by omega⟩ ktL_text rfl (by decide) (fun c37 => ?_) (fun c37 => ?_)
        · refine st_aload 0 ktL_text rfl rfl ?_
          exact st_areturn (ty := (.object "java/lang/String")) ktL_text rfl rfl (Or.inl ⟨_, rfl⟩) (by omega) (by omega) (Or.inr ⟨_, _, _, _, hg36, by omega, rfl, rfl⟩)
        · refine st_ldcS (tx := "m=1?7*w-a;w>5?50-a;9") (q := (ca 15)) rfl (by show _ ∈ X.2.1; rw [hX]; simp [kl]) ktL_text rfl ?_
          refine st_goto (tgt := 176) ktL_text rfl (by decide) ?_
          refine st_sub (ws' := []) [] rfl (by decide) ?_
          exact st_areturn (ty := (.object "java/lang/String")) ktL_text rfl rfl (Or.inl ⟨_, rfl⟩) (by omega) (by omega) (Or.inl ⟨_, rfl, by decide, rfl⟩)
    · refine st_new (ci := 1) tyJ4 [.null, .int (Int32.ofInt (0)), .int (Int32.ofInt (0)), .int (Int32.ofInt (0))] ktL_text rfl rfl tyJ4_ok (st_has (n := 4222) rfl rfl) (st_has (n := 4223) rfl rfl) (st_has (n := 1018) rfl rfl) rfl (by omega) (by omega) (fun q38 => ?_)
      refine st_ws (ws' := [(q38, .inr (1, [.null, .int (Int32.ofInt (0)), .int (Int32.ofInt (0)), .int (Int32.ofInt (0))]))]) rfl ?_
      refine st_dup rfl ktL_text rfl ?_
      refine st_callI (x := q38) (X' := ([], X.2)) (d' := 3) (NC' := 1) (NS' := 16) (M' := mtJ4_init_da8c8) (n := 0) (As := []) (st := [.ref q38]) (wc := [(q38, .inr (1, [.null, .int (Int32.ofInt (0)), .int (Int32.ofInt (0)), .int (Int32.ofInt (0))]))]) (wr := []) [0] [] ktL_text rfl (st_has (n := 4224) rfl rfl) (st_has (n := 4226) rfl rfl) (st_has (n := 1018) rfl rfl) (st_has (n := 4225) rfl rfl) (by decide +kernel) rfl rfl rfl rfl (Nat.le_of_ble_eq_true rfl) (Nat.le_of_ble_eq_true rfl) (by decide) (by omega) (by omega) rfl rfl (by decide) (by decide) (by decide) ⟨rfl, fun q hq => by cases hq⟩ (tt_sbInit D X q38) (fun ws1 v hq => ?_)
      obtain ⟨rfl, q39, f40, hf40, rfl⟩ := hq
      refine st_st (st' := [.ref q38]) rfl ?_
      refine st_ws (ws' := [(q38, .inr (1, [.ref q39, .int (Int32.ofInt (0)), .int (Int32.ofInt (0)), .int (Int32.ofInt (0))])), (q39, .inl (D.2.2.2, 16, .inl f40))]) rfl ?_
      refine st_aload 1 ktL_text rfl rfl ?_
      refine st_callV (x := q38) (Cn := "java/lang/StringBuilder") (X' := ([((ca 0), (cv 0), 0)], X.2)) (d' := 5) (NC' := 1) (NS' := 2002) (M' := mtJ4_append_15ec4) (n := 1) (As := [.ref (ca 0)]) (st := []) (wc := [(q38, .inr (1, [.ref q39, .int (Int32.ofInt (0)), .int (Int32.ofInt (0)), .int (Int32.ofInt (0))])), (q39, .inl (D.2.2.2, 16, .inl f40))]) (wr := []) [0, 1] [] ktL_text rfl ⟨(st_has (n := 5014) rfl rfl), (st_has (n := 5015) rfl rfl), (st_has (n := 1018) rfl rfl), Or.inl ⟨rfl, (st_has (n := 5016) rfl rfl)⟩⟩ (st_has (n := 5017) rfl rfl) (by decide +kernel) (Or.inl ⟨0, 1, _, _, _, rfl, rfl⟩) rfl rfl (Nat.le_of_ble_eq_true rfl) (Nat.le_of_ble_eq_true rfl) (by decide) (by omega) (by omega) rfl rfl (by decide) (by decide) (by decide) ⟨rfl, fun q hq => (by simp only [List.mem_cons, List.not_mem_nil, or_false] at hq; subst hq; exact Or.inl (by simp [kss]))⟩ (tt_app5S D X q38 q39 (16) (0) (ca 0) (cv 0) (0) f40 (by omega) hf40 (by omega)) (fun ws1 v hq => ?_)
      obtain ⟨q41, n42, f43, hf43, hn42, rfl, rfl⟩ := hq
      refine st_st (st' := [.ref q38]) rfl ?_
      refine st_ws (ws' := [(q38, .inr (1, [.ref q41, .int (Int32.ofInt (0)), .int (Int32.ofInt (0)), .int (Int32.ofInt ((0 + (0 : Int))))])), (q41, .inl (D.2.2.2, n42, .inl f43))]) rfl ?_
      refine st_aload_n 4 ktL_text rfl rfl ?_
      refine st_iload_n 5 ktL_text rfl rfl ?_
      refine st_iconst ktL_text rfl ?_
      refine st_iadd (z := (k + 1)) (fz_w_id (by omega) (by omega)) ktL_text rfl ?_
      refine st_callS (X' := ([], X.2)) (d' := 1) (NC' := 0) (NS' := 0) (M' := mtL_at) (n := 2) (As := [.ref X.2.2.2.1, .int (Int32.ofInt ((k + 1)))]) (st := [.ref q38]) (wc := []) (wr := [(q38, .inr (1, [.ref q41, .int (Int32.ofInt (0)), .int (Int32.ofInt (0)), .int (Int32.ofInt ((0 + (0 : Int))))])), (q41, .inl (D.2.2.2, n42, .inl f43))]) [] [0, 1] ktL_text rfl (st_has (n := 4212) rfl rfl) (st_has (n := 4214) rfl rfl) (st_has (n := 1000) rfl rfl) (st_has (n := 4213) rfl rfl) (by decide +kernel) rfl rfl (Nat.le_of_ble_eq_true rfl) (Nat.le_of_ble_eq_true rfl) (by decide) (by omega) (by omega) rfl rfl (by decide) (by decide) (by decide) ⟨rfl, fun q hq => by cases hq⟩ (tt_at D X ((k + 1)) (by omega) hL) (fun ws1 v hq => ?_)
      obtain ⟨z44, hz44, rfl, rfl⟩ := hq
      refine st_st (st' := [.int (Int32.ofInt (z44)), .ref q38]) rfl ?_
      refine st_ws (ws' := [(q38, .inr (1, [.ref q41, .int (Int32.ofInt (0)), .int (Int32.ofInt (0)), .int (Int32.ofInt ((0 + (0 : Int))))])), (q41, .inl (D.2.2.2, n42, .inl f43))]) rfl ?_
      refine st_iload 0 ktL_text rfl rfl ?_
      refine st_ishr0 ktL_text rfl ?_
      refine st_iload_n 3 ktL_text rfl rfl ?_
      refine st_iload 0 ktL_text rfl rfl ?_
      refine st_ishr0 ktL_text rfl ?_
      refine st_callS (X' := (kss ca cv, X.2)) (d' := 8) (NC' := 40) (NS' := 40000) (M' := mtL_says) (n := 2) (As := [.int (Int32.ofInt (z44)), .int (Int32.ofInt (z1))]) (st := [.ref q38]) (wc := []) (wr := [(q38, .inr (1, [.ref q41, .int (Int32.ofInt (0)), .int (Int32.ofInt (0)), .int (Int32.ofInt ((0 + (0 : Int))))])), (q41, .inl (D.2.2.2, n42, .inl f43))]) [] [0, 1] ktL_text rfl (st_has (n := 5128) rfl rfl) (st_has (n := 5130) rfl rfl) (st_has (n := 1000) rfl rfl) (st_has (n := 5129) rfl rfl) (by decide +kernel) rfl rfl (Nat.le_of_ble_eq_true rfl) (Nat.le_of_ble_eq_true rfl) (by decide) (by omega) (by omega) rfl rfl (by decide) (by decide) (by decide) ⟨rfl, fun q hq => Or.inl hq⟩ (tt_says D X ca cv hX (z44) (z1) ⟨by omega, by omega⟩ ⟨by omega, by omega⟩) (fun ws1 v hq => ?_)
      obtain ⟨r45, u46, k47, g48, hg48, hk47, rfl, rfl⟩ := hq
      refine st_st (st' := [.ref r45, .ref q38]) rfl ?_
      refine st_ws (ws' := [(q38, .inr (1, [.ref q41, .int (Int32.ofInt (0)), .int (Int32.ofInt (0)), .int (Int32.ofInt ((0 + (0 : Int))))])), (q41, .inl (D.2.2.2, n42, .inl f43)), (r45, .inr (0, [.ref u46, .int (Int32.ofInt (0)), .int (Int32.ofInt (0)), .int (Int32.ofInt (0))])), (u46, .inl (D.2.2.2, k47, .inl g48))]) rfl ?_
      refine st_callV (x := q38) (Cn := "java/lang/StringBuilder") (X' := ([(r45, u46, k47)], X.2)) (d' := 5) (NC' := 1) (NS' := 2002) (M' := mtJ4_append_15ec4) (n := 1) (As := [.ref r45]) (st := []) (wc := [(q38, .inr (1, [.ref q41, .int (Int32.ofInt (0)), .int (Int32.ofInt (0)), .int (Int32.ofInt ((0 + (0 : Int))))])), (q41, .inl (D.2.2.2, n42, .inl f43))]) (wr := [(r45, .inr (0, [.ref u46, .int (Int32.ofInt (0)), .int (Int32.ofInt (0)), .int (Int32.ofInt (0))])), (u46, .inl (D.2.2.2, k47, .inl g48))]) [0, 1] [2, 3] ktL_text rfl ⟨(st_has (n := 5014) rfl rfl), (st_has (n := 5015) rfl rfl), (st_has (n := 1018) rfl rfl), Or.inl ⟨rfl, (st_has (n := 5016) rfl rfl)⟩⟩ (st_has (n := 5017) rfl rfl) (by decide +kernel) (Or.inl ⟨0, 1, _, _, _, rfl, rfl⟩) rfl rfl (Nat.le_of_ble_eq_true rfl) (Nat.le_of_ble_eq_true rfl) (by decide) (by omega) (by omega) rfl rfl (by decide) (by decide) (by decide) ⟨rfl, fun q hq => (by simp only [List.mem_cons, List.not_mem_nil, or_false] at hq; subst hq; exact Or.inr ⟨2, 3, _, _, _, rfl, rfl, hg48, (show (k47 : Nat) < 100000 by omega), by decide, by decide⟩)⟩ (tt_app5S D X q38 q41 (n42) ((0 + (0 : Int))) r45 u46 (k47) f43 (by omega) hf43 (by omega)) (fun ws1 v hq => ?_)
      obtain ⟨q49, n50, f51, hf51, hn50, rfl, rfl⟩ := hq
      refine st_st (st' := [.ref q38]) rfl ?_
      refine st_ws (ws' := [(r45, .inr (0, [.ref u46, .int (Int32.ofInt (0)), .int (Int32.ofInt (0)), .int (Int32.ofInt (0))])), (u46, .inl (D.2.2.2, k47, .inl g48)), (q38, .inr (1, [.ref q49, .int (Int32.ofInt (0)), .int (Int32.ofInt (0)), .int (Int32.ofInt (((0 + (0 : Int)) + (k47 : Int))))])), (q49, .inl (D.2.2.2, n50, .inl f51))]) rfl ?_
      refine st_ldcS (tx := "?") (q := (ca 12)) rfl (by show _ ∈ X.2.1; rw [hX]; simp [kl]) ktL_text rfl ?_
      refine st_callV (x := q38) (Cn := "java/lang/StringBuilder") (X' := ([((ca 12), (cv 12), 1)], X.2)) (d' := 5) (NC' := 1) (NS' := 2002) (M' := mtJ4_append_15ec4) (n := 1) (As := [.ref (ca 12)]) (st := []) (wc := [(q38, .inr (1, [.ref q49, .int (Int32.ofInt (0)), .int (Int32.ofInt (0)), .int (Int32.ofInt (((0 + (0 : Int)) + (k47 : Int))))])), (q49, .inl (D.2.2.2, n50, .inl f51))]) (wr := [(r45, .inr (0, [.ref u46, .int (Int32.ofInt (0)), .int (Int32.ofInt (0)), .int (Int32.ofInt (0))])), (u46, .inl (D.2.2.2, k47, .inl g48))]) [2, 3] [0, 1] ktL_text rfl ⟨(st_has (n := 5014) rfl rfl), (st_has (n := 5015) rfl rfl), (st_has (n := 1018) rfl rfl), Or.inl ⟨rfl, (st_has (n := 5016) rfl rfl)⟩⟩ (st_has (n := 5017) rfl rfl) (by decide +kernel) (Or.inl ⟨2, 1, _, _, _, rfl, rfl⟩) rfl rfl (Nat.le_of_ble_eq_true rfl) (Nat.le_of_ble_eq_true rfl) (by decide) (by omega) (by omega) rfl rfl (by decide) (by decide) (by decide) ⟨rfl, fun q hq => (by simp only [List.mem_cons, List.not_mem_nil, or_false] at hq; subst hq; exact Or.inl (by simp [kss]))⟩ (tt_app5S D X q38 q49 (n50) (((0 + (0 : Int)) + (k47 : Int))) (ca 12) (cv 12) (1) f51 (by omega) hf51 (by omega)) (fun ws1 v hq => ?_)
      obtain ⟨q52, n53, f54, hf54, hn53, rfl, rfl⟩ := hq
      refine st_st (st' := [.ref q38]) rfl ?_
      refine st_ws (ws' := [(r45, .inr (0, [.ref u46, .int (Int32.ofInt (0)), .int (Int32.ofInt (0)), .int (Int32.ofInt (0))])), (u46, .inl (D.2.2.2, k47, .inl g48)), (q38, .inr (1, [.ref q52, .int (Int32.ofInt (0)), .int (Int32.ofInt (0)), .int (Int32.ofInt ((((0 + (0 : Int)) + (k47 : Int)) + (1 : Int))))])), (q52, .inl (D.2.2.2, n53, .inl f54))]) rfl ?_
      refine st_iload_n 3 ktL_text rfl rfl ?_
      refine st_iconst ktL_text rfl ?_
      refine st_iload 0 ktL_text rfl rfl ?_
      refine st_iadd (z := (4 + 0)) (fz_w_id (by omega) (by omega)) ktL_text rfl ?_
      refine st_ishr ktL_text rfl (fun z55 hz55 => ?_)
      refine st_aload_n 4 ktL_text rfl rfl ?_
      refine st_iload_n 5 ktL_text rfl rfl ?_
      refine st_iconst ktL_text rfl ?_
      refine st_iadd (z := (k + 1)) (fz_w_id (by omega) (by omega)) ktL_text rfl ?_
      refine st_callS (X' := ([], X.2)) (d' := 1) (NC' := 0) (NS' := 0) (M' := mtL_at) (n := 2) (As := [.ref X.2.2.2.1, .int (Int32.ofInt ((k + 1)))]) (st := [.int (Int32.ofInt (z55)), .ref q38]) (wc := []) (wr := [(r45, .inr (0, [.ref u46, .int (Int32.ofInt (0)), .int (Int32.ofInt (0)), .int (Int32.ofInt (0))])), (u46, .inl (D.2.2.2, k47, .inl g48)), (q38, .inr (1, [.ref q52, .int (Int32.ofInt (0)), .int (Int32.ofInt (0)), .int (Int32.ofInt ((((0 + (0 : Int)) + (k47 : Int)) + (1 : Int))))])), (q52, .inl (D.2.2.2, n53, .inl f54))]) [] [0, 1, 2, 3] ktL_text rfl (st_has (n := 4212) rfl rfl) (st_has (n := 4214) rfl rfl) (st_has (n := 1000) rfl rfl) (st_has (n := 4213) rfl rfl) (by decide +kernel) rfl rfl (Nat.le_of_ble_eq_true rfl) (Nat.le_of_ble_eq_true rfl) (by decide) (by omega) (by omega) rfl rfl (by decide) (by decide) (by decide) ⟨rfl, fun q hq => by cases hq⟩ (tt_at D X ((k + 1)) (by omega) hL) (fun ws1 v hq => ?_)
      obtain ⟨z56, hz56, rfl, rfl⟩ := hq
      refine st_st (st' := [.int (Int32.ofInt (z56)), .int (Int32.ofInt (z55)), .ref q38]) rfl ?_
      refine st_ws (ws' := [(r45, .inr (0, [.ref u46, .int (Int32.ofInt (0)), .int (Int32.ofInt (0)), .int (Int32.ofInt (0))])), (u46, .inl (D.2.2.2, k47, .inl g48)), (q38, .inr (1, [.ref q52, .int (Int32.ofInt (0)), .int (Int32.ofInt (0)), .int (Int32.ofInt ((((0 + (0 : Int)) + (k47 : Int)) + (1 : Int))))])), (q52, .inl (D.2.2.2, n53, .inl f54))]) rfl ?_
      refine st_iconst ktL_text rfl ?_
      refine st_ishr ktL_text rfl (fun z57 hz57 => ?_)
      refine st_callS (X' := (kss ca cv, X.2)) (d' := 8) (NC' := 40) (NS' := 40000) (M' := mtL_says) (n := 2) (As := [.int (Int32.ofInt (z55)), .int (Int32.ofInt (z57))]) (st := [.ref q38]) (wc := []) (wr := [(r45, .inr (0, [.ref u46, .int (Int32.ofInt (0)), .int (Int32.ofInt (0)), .int (Int32.ofInt (0))])), (u46, .inl (D.2.2.2, k47, .inl g48)), (q38, .inr (1, [.ref q52, .int (Int32.ofInt (0)), .int (Int32.ofInt (0)), .int (Int32.ofInt ((((0 + (0 : Int)) + (k47 : Int)) + (1 : Int))))])), (q52, .inl (D.2.2.2, n53, .inl f54))]) [] [0, 1, 2, 3] ktL_text rfl (st_has (n := 5128) rfl rfl) (st_has (n := 5130) rfl rfl) (st_has (n := 1000) rfl rfl) (st_has (n := 5129) rfl rfl) (by decide +kernel) rfl rfl (Nat.le_of_ble_eq_true rfl) (Nat.le_of_ble_eq_true rfl) (by decide) (by omega) (by omega) rfl rfl (by decide) (by decide) (by decide) ⟨rfl, fun q hq => Or.inl hq⟩ (tt_says D X ca cv hX (z55) (z57) ⟨by omega, by omega⟩ ⟨by omega, by omega⟩) (fun ws1 v hq => ?_)
      obtain ⟨r58, u59, k60, g61, hg61, hk60, rfl, rfl⟩ := hq
      refine st_st (st' := [.ref r58, .ref q38]) rfl ?_
      refine st_ws (ws' := [(r45, .inr (0, [.ref u46, .int (Int32.ofInt (0)), .int (Int32.ofInt (0)), .int (Int32.ofInt (0))])), (u46, .inl (D.2.2.2, k47, .inl g48)), (q38, .inr (1, [.ref q52, .int (Int32.ofInt (0)), .int (Int32.ofInt (0)), .int (Int32.ofInt ((((0 + (0 : Int)) + (k47 : Int)) + (1 : Int))))])), (q52, .inl (D.2.2.2, n53, .inl f54)), (r58, .inr (0, [.ref u59, .int (Int32.ofInt (0)), .int (Int32.ofInt (0)), .int (Int32.ofInt (0))])), (u59, .inl (D.2.2.2, k60, .inl g61))]) rfl ?_
      refine st_callV (x := q38) (Cn := "java/lang/StringBuilder") (X' := ([(r58, u59, k60)], X.2)) (d' := 5) (NC' := 1) (NS' := 2002) (M' := mtJ4_append_15ec4) (n := 1) (As := [.ref r58]) (st := []) (wc := [(q38, .inr (1, [.ref q52, .int (Int32.ofInt (0)), .int (Int32.ofInt (0)), .int (Int32.ofInt ((((0 + (0 : Int)) + (k47 : Int)) + (1 : Int))))])), (q52, .inl (D.2.2.2, n53, .inl f54))]) (wr := [(r45, .inr (0, [.ref u46, .int (Int32.ofInt (0)), .int (Int32.ofInt (0)), .int (Int32.ofInt (0))])), (u46, .inl (D.2.2.2, k47, .inl g48)), (r58, .inr (0, [.ref u59, .int (Int32.ofInt (0)), .int (Int32.ofInt (0)), .int (Int32.ofInt (0))])), (u59, .inl (D.2.2.2, k60, .inl g61))]) [2, 3] [0, 1, 4, 5] ktL_text rfl ⟨(st_has (n := 5014) rfl rfl), (st_has (n := 5015) rfl rfl), (st_has (n := 1018) rfl rfl), Or.inl ⟨rfl, (st_has (n := 5016) rfl rfl)⟩⟩ (st_has (n := 5017) rfl rfl) (by decide +kernel) (Or.inl ⟨2, 1, _, _, _, rfl, rfl⟩) rfl rfl (Nat.le_of_ble_eq_true rfl) (Nat.le_of_ble_eq_true rfl) (by decide) (by omega) (by omega) rfl rfl (by decide) (by decide) (by decide) ⟨rfl, fun q hq => (by simp only [List.mem_cons, List.not_mem_nil, or_false] at hq; subst hq; exact Or.inr ⟨4, 5, _, _, _, rfl, rfl, hg61, (show (k60 : Nat) < 100000 by omega), by decide, by decide⟩)⟩ (tt_app5S D X q38 q52 (n53) ((((0 + (0 : Int)) + (k47 : Int)) + (1 : Int))) r58 u59 (k60) f54 (by omega) hf54 (by omega)) (fun ws1 v hq => ?_)
      obtain ⟨q62, n63, f64, hf64, hn63, rfl, rfl⟩ := hq
      refine st_st (st' := [.ref q38]) rfl ?_
      refine st_ws (ws' := [(r45, .inr (0, [.ref u46, .int (Int32.ofInt (0)), .int (Int32.ofInt (0)), .int (Int32.ofInt (0))])), (u46, .inl (D.2.2.2, k47, .inl g48)), (r58, .inr (0, [.ref u59, .int (Int32.ofInt (0)), .int (Int32.ofInt (0)), .int (Int32.ofInt (0))])), (u59, .inl (D.2.2.2, k60, .inl g61)), (q38, .inr (1, [.ref q62, .int (Int32.ofInt (0)), .int (Int32.ofInt (0)), .int (Int32.ofInt (((((0 + (0 : Int)) + (k47 : Int)) + (1 : Int)) + (k60 : Int))))])), (q62, .inl (D.2.2.2, n63, .inl f64))]) rfl ?_
      refine st_ldcS (tx := ";") (q := (ca 13)) rfl (by show _ ∈ X.2.1; rw [hX]; simp [kl]) ktL_text rfl ?_
      refine st_callV (x := q38) (Cn := "java/lang/StringBuilder") (X' := ([((ca 13), (cv 13), 1)], X.2)) (d' := 5) (NC' := 1) (NS' := 2002) (M' := mtJ4_append_15ec4) (n := 1) (As := [.ref (ca 13)]) (st := []) (wc := [(q38, .inr (1, [.ref q62, .int (Int32.ofInt (0)), .int (Int32.ofInt (0)), .int (Int32.ofInt (((((0 + (0 : Int)) + (k47 : Int)) + (1 : Int)) + (k60 : Int))))])), (q62, .inl (D.2.2.2, n63, .inl f64))]) (wr := [(r45, .inr (0, [.ref u46, .int (Int32.ofInt (0)), .int (Int32.ofInt (0)), .int (Int32.ofInt (0))])), (u46, .inl (D.2.2.2, k47, .inl g48)), (r58, .inr (0, [.ref u59, .int (Int32.ofInt (0)), .int (Int32.ofInt (0)), .int (Int32.ofInt (0))])), (u59, .inl (D.2.2.2, k60, .inl g61))]) [4, 5] [0, 1, 2, 3] ktL_text rfl ⟨(st_has (n := 5014) rfl rfl), (st_has (n := 5015) rfl rfl), (st_has (n := 1018) rfl rfl), Or.inl ⟨rfl, (st_has (n := 5016) rfl rfl)⟩⟩ (st_has (n := 5017) rfl rfl) (by decide +kernel) (Or.inl ⟨4, 1, _, _, _, rfl, rfl⟩) rfl rfl (Nat.le_of_ble_eq_true rfl) (Nat.le_of_ble_eq_true rfl) (by decide) (by omega) (by omega) rfl rfl (by decide) (by decide) (by decide) ⟨rfl, fun q hq => (by simp only [List.mem_cons, List.not_mem_nil, or_false] at hq; subst hq; exact Or.inl (by simp [kss]))⟩ (tt_app5S D X q38 q62 (n63) (((((0 + (0 : Int)) + (k47 : Int)) + (1 : Int)) + (k60 : Int))) (ca 13) (cv 13) (1) f64 (by omega) hf64 (by omega)) (fun ws1 v hq => ?_)
      obtain ⟨q65, n66, f67, hf67, hn66, rfl, rfl⟩ := hq
      refine st_st (st' := [.ref q38]) rfl ?_
      refine st_ws (ws' := [(r45, .inr (0, [.ref u46, .int (Int32.ofInt (0)), .int (Int32.ofInt (0)), .int (Int32.ofInt (0))])), (u46, .inl (D.2.2.2, k47, .inl g48)), (r58, .inr (0, [.ref u59, .int (Int32.ofInt (0)), .int (Int32.ofInt (0)), .int (Int32.ofInt (0))])), (u59, .inl (D.2.2.2, k60, .inl g61)), (q38, .inr (1, [.ref q65, .int (Int32.ofInt (0)), .int (Int32.ofInt (0)), .int (Int32.ofInt ((((((0 + (0 : Int)) + (k47 : Int)) + (1 : Int)) + (k60 : Int)) + (1 : Int))))])), (q65, .inl (D.2.2.2, n66, .inl f67))]) rfl ?_
      refine st_callV (x := q38) (Cn := "java/lang/StringBuilder") (X' := ([], X.2)) (d' := 6) (NC' := 2) (NS' := 2006) (M' := mtJ4_toString_0e30d) (n := 0) (As := []) (st := []) (wc := [(q38, .inr (1, [.ref q65, .int (Int32.ofInt (0)), .int (Int32.ofInt (0)), .int (Int32.ofInt ((((((0 + (0 : Int)) + (k47 : Int)) + (1 : Int)) + (k60 : Int)) + (1 : Int))))])), (q65, .inl (D.2.2.2, n66, .inl f67))]) (wr := [(r45, .inr (0, [.ref u46, .int (Int32.ofInt (0)), .int (Int32.ofInt (0)), .int (Int32.ofInt (0))])), (u46, .inl (D.2.2.2, k47, .inl g48)), (r58, .inr (0, [.ref u59, .int (Int32.ofInt (0)), .int (Int32.ofInt (0)), .int (Int32.ofInt (0))])), (u59, .inl (D.2.2.2, k60, .inl g61))]) [4, 5] [0, 1, 2, 3] ktL_text rfl ⟨(st_has (n := 5175) rfl rfl), (st_has (n := 5176) rfl rfl), (st_has (n := 1018) rfl rfl), Or.inl ⟨rfl, (st_has (n := 5177) rfl rfl)⟩⟩ (st_has (n := 5178) rfl rfl) (by decide +kernel) (Or.inl ⟨4, 1, _, _, _, rfl, rfl⟩) rfl rfl (Nat.le_of_ble_eq_true rfl) (Nat.le_of_ble_eq_true rfl) (by decide) (by omega) (by omega) rfl rfl (by decide) (by decide) (by decide) ⟨rfl, fun q hq => by cases hq⟩ (tt_toS D X q38 q65 (n66) ((((((0 + (0 : Int)) + (k47 : Int)) + (1 : Int)) + (k60 : Int)) + (1 : Int))) f67 hf67 (by omega)) (fun ws1 v hq => ?_)
      obtain ⟨r68, u69, k70, g71, hg71, hk70, rfl, rfl⟩ := hq
      refine st_st (st' := [.ref r68]) rfl ?_
      refine st_ws (ws' := [(r45, .inr (0, [.ref u46, .int (Int32.ofInt (0)), .int (Int32.ofInt (0)), .int (Int32.ofInt (0))])), (u46, .inl (D.2.2.2, k47, .inl g48)), (r58, .inr (0, [.ref u59, .int (Int32.ofInt (0)), .int (Int32.ofInt (0)), .int (Int32.ofInt (0))])), (u59, .inl (D.2.2.2, k60, .inl g61)), (r68, .inr (0, [.ref u69, .int (Int32.ofInt (0)), .int (Int32.ofInt (0)), .int (Int32.ofInt (0))])), (u69, .inl (D.2.2.2, k70, .inl g71))]) rfl ?_
      refine st_astore (ls' := [(4, .ref r68), (5, .int (Int32.ofInt (0))), (3, .int (Int32.ofInt (z5))), (2, .int (Int32.ofInt (z1))), (0, .ref X.2.2.2.1), (1, .int (Int32.ofInt (k)))]) ktL_text rfl (by decide) rfl ?_
      refine st_iinc (k := 1) (z := (0 + 1)) (ls' := [(5, .int (Int32.ofInt ((0 + 1)))), (4, .ref r68), (3, .int (Int32.ofInt (z5))), (2, .int (Int32.ofInt (z1))), (0, .ref X.2.2.2.1), (1, .int (Int32.ofInt (k)))]) (fz_w_id (by omega) (by omega)) ktL_text rfl rfl (by decide) rfl ?_
      refine st_goto (tgt := 30) ktL_text rfl (by decide) ?_
      refine st_iload 0 ktL_text rfl rfl ?_
      refine st_iload_n 2 ktL_text rfl rfl ?_
      refine st_icmp_ge (tgt := 110) ⟨by omega, by omega⟩ ⟨by omega, by omega⟩ ktL_text rfl (by decide) (fun c72 => ?_) (fun c72 => ?_)
      · refine st_new (ci := 1) tyJ4 [.null, .int (Int32.ofInt (0)), .int (Int32.ofInt (0)), .int (Int32.ofInt (0))] ktL_text rfl rfl tyJ4_ok (st_has (n := 4222) rfl rfl) (st_has (n := 4223) rfl rfl) (st_has (n := 1018) rfl rfl) rfl (by omega) (by omega) (fun q73 => ?_)
        refine st_ws (ws' := [(r45, .inr (0, [.ref u46, .int (Int32.ofInt (0)), .int (Int32.ofInt (0)), .int (Int32.ofInt (0))])), (u46, .inl (D.2.2.2, k47, .inl g48)), (r58, .inr (0, [.ref u59, .int (Int32.ofInt (0)), .int (Int32.ofInt (0)), .int (Int32.ofInt (0))])), (u59, .inl (D.2.2.2, k60, .inl g61)), (r68, .inr (0, [.ref u69, .int (Int32.ofInt (0)), .int (Int32.ofInt (0)), .int (Int32.ofInt (0))])), (u69, .inl (D.2.2.2, k70, .inl g71)), (q73, .inr (1, [.null, .int (Int32.ofInt (0)), .int (Int32.ofInt (0)), .int (Int32.ofInt (0))]))]) rfl ?_
        refine st_dup rfl ktL_text rfl ?_
        refine st_callI (x := q73) (X' := ([], X.2)) (d' := 3) (NC' := 1) (NS' := 16) (M' := mtJ4_init_da8c8) (n := 0) (As := []) (st := [.ref q73]) (wc := [(q73, .inr (1, [.null, .int (Int32.ofInt (0)), .int (Int32.ofInt (0)), .int (Int32.ofInt (0))]))]) (wr := [(r45, .inr (0, [.ref u46, .int (Int32.ofInt (0)), .int (Int32.ofInt (0)), .int (Int32.ofInt (0))])), (u46, .inl (D.2.2.2, k47, .inl g48)), (r58, .inr (0, [.ref u59, .int (Int32.ofInt (0)), .int (Int32.ofInt (0)), .int (Int32.ofInt (0))])), (u59, .inl (D.2.2.2, k60, .inl g61)), (r68, .inr (0, [.ref u69, .int (Int32.ofInt (0)), .int (Int32.ofInt (0)), .int (Int32.ofInt (0))])), (u69, .inl (D.2.2.2, k70, .inl g71))]) [6] [0, 1, 2, 3, 4, 5] ktL_text rfl (st_has (n := 4224) rfl rfl) (st_has (n := 4226) rfl rfl) (st_has (n := 1018) rfl rfl) (st_has (n := 4225) rfl rfl) (by decide +kernel) rfl rfl rfl rfl (Nat.le_of_ble_eq_true rfl) (Nat.le_of_ble_eq_true rfl) (by decide) (by omega) (by omega) rfl rfl (by decide) (by decide) (by decide) ⟨rfl, fun q hq => by cases hq⟩ (tt_sbInit D X q73) (fun ws1 v hq => ?_)
        obtain ⟨rfl, q74, f75, hf75, rfl⟩ := hq
        refine st_st (st' := [.ref q73]) rfl ?_
        refine st_ws (ws' := [(r45, .inr (0, [.ref u46, .int (Int32.ofInt (0)), .int (Int32.ofInt (0)), .int (Int32.ofInt (0))])), (u46, .inl (D.2.2.2, k47, .inl g48)), (r58, .inr (0, [.ref u59, .int (Int32.ofInt (0)), .int (Int32.ofInt (0)), .int (Int32.ofInt (0))])), (u59, .inl (D.2.2.2, k60, .inl g61)), (r68, .inr (0, [.ref u69, .int (Int32.ofInt (0)), .int (Int32.ofInt (0)), .int (Int32.ofInt (0))])), (u69, .inl (D.2.2.2, k70, .inl g71)), (q73, .inr (1, [.ref q74, .int (Int32.ofInt (0)), .int (Int32.ofInt (0)), .int (Int32.ofInt (0))])), (q74, .inl (D.2.2.2, 16, .inl f75))]) rfl ?_
        refine st_aload 1 ktL_text rfl rfl ?_
        refine st_callV (x := q73) (Cn := "java/lang/StringBuilder") (X' := ([(r68, u69, k70)], X.2)) (d' := 5) (NC' := 1) (NS' := 2002) (M' := mtJ4_append_15ec4) (n := 1) (As := [.ref r68]) (st := []) (wc := [(q73, .inr (1, [.ref q74, .int (Int32.ofInt (0)), .int (Int32.ofInt (0)), .int (Int32.ofInt (0))])), (q74, .inl (D.2.2.2, 16, .inl f75))]) (wr := [(r45, .inr (0, [.ref u46, .int (Int32.ofInt (0)), .int (Int32.ofInt (0)), .int (Int32.ofInt (0))])), (u46, .inl (D.2.2.2, k47, .inl g48)), (r58, .inr (0, [.ref u59, .int (Int32.ofInt (0)), .int (Int32.ofInt (0)), .int (Int32.ofInt (0))])), (u59, .inl (D.2.2.2, k60, .inl g61)), (r68, .inr (0, [.ref u69, .int (Int32.ofInt (0)), .int (Int32.ofInt (0)), .int (Int32.ofInt (0))])), (u69, .inl (D.2.2.2, k70, .inl g71))]) [6, 7] [0, 1, 2, 3, 4, 5] ktL_text rfl ⟨(st_has (n := 5014) rfl rfl), (st_has (n := 5015) rfl rfl), (st_has (n := 1018) rfl rfl), Or.inl ⟨rfl, (st_has (n := 5016) rfl rfl)⟩⟩ (st_has (n := 5017) rfl rfl) (by decide +kernel) (Or.inl ⟨6, 1, _, _, _, rfl, rfl⟩) rfl rfl (Nat.le_of_ble_eq_true rfl) (Nat.le_of_ble_eq_true rfl) (by decide) (by omega) (by omega) rfl rfl (by decide) (by decide) (by decide) ⟨rfl, fun q hq => (by simp only [List.mem_cons, List.not_mem_nil, or_false] at hq; subst hq; exact Or.inr ⟨4, 5, _, _, _, rfl, rfl, hg71, (show (k70 : Nat) < 100000 by omega), by decide, by decide⟩)⟩ (tt_app5S D X q73 q74 (16) (0) r68 u69 (k70) f75 (by omega) hf75 (by omega)) (fun ws1 v hq => ?_)
        obtain ⟨q76, n77, f78, hf78, hn77, rfl, rfl⟩ := hq
        refine st_st (st' := [.ref q73]) rfl ?_
        refine st_ws (ws' := [(r45, .inr (0, [.ref u46, .int (Int32.ofInt (0)), .int (Int32.ofInt (0)), .int (Int32.ofInt (0))])), (u46, .inl (D.2.2.2, k47, .inl g48)), (r58, .inr (0, [.ref u59, .int (Int32.ofInt (0)), .int (Int32.ofInt (0)), .int (Int32.ofInt (0))])), (u59, .inl (D.2.2.2, k60, .inl g61)), (r68, .inr (0, [.ref u69, .int (Int32.ofInt (0)), .int (Int32.ofInt (0)), .int (Int32.ofInt (0))])), (u69, .inl (D.2.2.2, k70, .inl g71)), (q73, .inr (1, [.ref q76, .int (Int32.ofInt (0)), .int (Int32.ofInt (0)), .int (Int32.ofInt ((0 + (k70 : Int))))])), (q76, .inl (D.2.2.2, n77, .inl f78))]) rfl ?_
        refine st_iload_n 3 ktL_text rfl rfl ?_
        refine st_bipush ⟨by decide, by decide⟩ ktL_text rfl ?_
        refine st_iand ktL_text rfl (fun z79 ez79 => ?_)
        have hz79 : 0 ≤ z79 ∧ z79 ≤ 64 := by rw [ez79]; exact st_and_m (by decide) (by decide)
        refine st_if_ne (tgt := 134) ⟨by omega, by omega⟩ ktL_text rfl (by decide) (fun c80 => ?_) (fun c80 => ?_)
        · refine st_aload_n 4 ktL_text rfl rfl ?_
          refine st_iload_n 5 ktL_text rfl rfl ?_
          refine st_iconst ktL_text rfl ?_
          refine st_iadd (z := (k + 1)) (fz_w_id (by omega) (by omega)) ktL_text rfl ?_
          refine st_callS (X' := ([], X.2)) (d' := 1) (NC' := 0) (NS' := 0) (M' := mtL_at) (n := 2) (As := [.ref X.2.2.2.1, .int (Int32.ofInt ((k + 1)))]) (st := [.ref q73]) (wc := []) (wr := [(r45, .inr (0, [.ref u46, .int (Int32.ofInt (0)), .int (Int32.ofInt (0)), .int (Int32.ofInt (0))])), (u46, .inl (D.2.2.2, k47, .inl g48)), (r58, .inr (0, [.ref u59, .int (Int32.ofInt (0)), .int (Int32.ofInt (0)), .int (Int32.ofInt (0))])), (u59, .inl (D.2.2.2, k60, .inl g61)), (r68, .inr (0, [.ref u69, .int (Int32.ofInt (0)), .int (Int32.ofInt (0)), .int (Int32.ofInt (0))])), (u69, .inl (D.2.2.2, k70, .inl g71)), (q73, .inr (1, [.ref q76, .int (Int32.ofInt (0)), .int (Int32.ofInt (0)), .int (Int32.ofInt ((0 + (k70 : Int))))])), (q76, .inl (D.2.2.2, n77, .inl f78))]) [] [0, 1, 2, 3, 4, 5, 6, 7] ktL_text rfl (st_has (n := 4212) rfl rfl) (st_has (n := 4214) rfl rfl) (st_has (n := 1000) rfl rfl) (st_has (n := 4213) rfl rfl) (by decide +kernel) rfl rfl (Nat.le_of_ble_eq_true rfl) (Nat.le_of_ble_eq_true rfl) (by decide) (by omega) (by omega) rfl rfl (by decide) (by decide) (by decide) ⟨rfl, fun q hq => by cases hq⟩ (tt_at D X ((k + 1)) (by omega) hL) (fun ws1 v hq => ?_)
          obtain ⟨z81, hz81, rfl, rfl⟩ := hq
          refine st_st (st' := [.int (Int32.ofInt (z81)), .ref q73]) rfl ?_
          refine st_ws (ws' := [(r45, .inr (0, [.ref u46, .int (Int32.ofInt (0)), .int (Int32.ofInt (0)), .int (Int32.ofInt (0))])), (u46, .inl (D.2.2.2, k47, .inl g48)), (r58, .inr (0, [.ref u59, .int (Int32.ofInt (0)), .int (Int32.ofInt (0)), .int (Int32.ofInt (0))])), (u59, .inl (D.2.2.2, k60, .inl g61)), (r68, .inr (0, [.ref u69, .int (Int32.ofInt (0)), .int (Int32.ofInt (0)), .int (Int32.ofInt (0))])), (u69, .inl (D.2.2.2, k70, .inl g71)), (q73, .inr (1, [.ref q76, .int (Int32.ofInt (0)), .int (Int32.ofInt (0)), .int (Int32.ofInt ((0 + (k70 : Int))))])), (q76, .inl (D.2.2.2, n77, .inl f78))]) rfl ?_
          refine st_bipush ⟨by decide, by decide⟩ ktL_text rfl ?_
          refine st_ishr ktL_text rfl (fun z82 hz82 => ?_)
          refine st_iload_n 3 ktL_text rfl rfl ?_
          refine st_bipush ⟨by decide, by decide⟩ ktL_text rfl ?_
          refine st_ishr ktL_text rfl (fun z83 hz83 => ?_)
          refine st_callS (X' := (kss ca cv, X.2)) (d' := 8) (NC' := 40) (NS' := 40000) (M' := mtL_says) (n := 2) (As := [.int (Int32.ofInt (z82)), .int (Int32.ofInt (z83))]) (st := [.ref q73]) (wc := []) (wr := [(r45, .inr (0, [.ref u46, .int (Int32.ofInt (0)), .int (Int32.ofInt (0)), .int (Int32.ofInt (0))])), (u46, .inl (D.2.2.2, k47, .inl g48)), (r58, .inr (0, [.ref u59, .int (Int32.ofInt (0)), .int (Int32.ofInt (0)), .int (Int32.ofInt (0))])), (u59, .inl (D.2.2.2, k60, .inl g61)), (r68, .inr (0, [.ref u69, .int (Int32.ofInt (0)), .int (Int32.ofInt (0)), .int (Int32.ofInt (0))])), (u69, .inl (D.2.2.2, k70, .inl g71)), (q73, .inr (1, [.ref q76, .int (Int32.ofInt (0)), .int (Int32.ofInt (0)), .int (Int32.ofInt ((0 + (k70 : Int))))])), (q76, .inl (D.2.2.2, n77, .inl f78))]) [] [0, 1, 2, 3, 4, 5, 6, 7] ktL_text rfl (st_has (n := 5128) rfl rfl) (st_has (n := 5130) rfl rfl) (st_has (n := 1000) rfl rfl) (st_has (n := 5129) rfl rfl) (by decide +kernel) rfl rfl (Nat.le_of_ble_eq_true rfl) (Nat.le_of_ble_eq_true rfl) (by decide) (by omega) (by omega) rfl rfl (by decide) (by decide) (by decide) ⟨rfl, fun q hq => Or.inl hq⟩ (tt_says D X ca cv hX (z82) (z83) ⟨by omega, by omega⟩ ⟨by omega, by omega⟩) (fun ws1 v hq => ?_)
          obtain ⟨r84, u85, k86, g87, hg87, hk86, rfl, rfl⟩ := hq
          refine st_st (st' := [.ref r84, .ref q73]) rfl ?_
          refine st_ws (ws' := [(r45, .inr (0, [.ref u46, .int (Int32.ofInt (0)), .int (Int32.ofInt (0)), .int (Int32.ofInt (0))])), (u46, .inl (D.2.2.2, k47, .inl g48)), (r58, .inr (0, [.ref u59, .int (Int32.ofInt (0)), .int (Int32.ofInt (0)), .int (Int32.ofInt (0))])), (u59, .inl (D.2.2.2, k60, .inl g61)), (r68, .inr (0, [.ref u69, .int (Int32.ofInt (0)), .int (Int32.ofInt (0)), .int (Int32.ofInt (0))])), (u69, .inl (D.2.2.2, k70, .inl g71)), (q73, .inr (1, [.ref q76, .int (Int32.ofInt (0)), .int (Int32.ofInt (0)), .int (Int32.ofInt ((0 + (k70 : Int))))])), (q76, .inl (D.2.2.2, n77, .inl f78)), (r84, .inr (0, [.ref u85, .int (Int32.ofInt (0)), .int (Int32.ofInt (0)), .int (Int32.ofInt (0))])), (u85, .inl (D.2.2.2, k86, .inl g87))]) rfl ?_
          refine st_callV (x := q73) (Cn := "java/lang/StringBuilder") (X' := ([(r84, u85, k86)], X.2)) (d' := 5) (NC' := 1) (NS' := 2002) (M' := mtJ4_append_15ec4) (n := 1) (As := [.ref r84]) (st := []) (wc := [(q73, .inr (1, [.ref q76, .int (Int32.ofInt (0)), .int (Int32.ofInt (0)), .int (Int32.ofInt ((0 + (k70 : Int))))])), (q76, .inl (D.2.2.2, n77, .inl f78))]) (wr := [(r45, .inr (0, [.ref u46, .int (Int32.ofInt (0)), .int (Int32.ofInt (0)), .int (Int32.ofInt (0))])), (u46, .inl (D.2.2.2, k47, .inl g48)), (r58, .inr (0, [.ref u59, .int (Int32.ofInt (0)), .int (Int32.ofInt (0)), .int (Int32.ofInt (0))])), (u59, .inl (D.2.2.2, k60, .inl g61)), (r68, .inr (0, [.ref u69, .int (Int32.ofInt (0)), .int (Int32.ofInt (0)), .int (Int32.ofInt (0))])), (u69, .inl (D.2.2.2, k70, .inl g71)), (r84, .inr (0, [.ref u85, .int (Int32.ofInt (0)), .int (Int32.ofInt (0)), .int (Int32.ofInt (0))])), (u85, .inl (D.2.2.2, k86, .inl g87))]) [6, 7] [0, 1, 2, 3, 4, 5, 8, 9] ktL_text rfl ⟨(st_has (n := 5014) rfl rfl), (st_has (n := 5015) rfl rfl), (st_has (n := 1018) rfl rfl), Or.inl ⟨rfl, (st_has (n := 5016) rfl rfl)⟩⟩ (st_has (n := 5017) rfl rfl) (by decide +kernel) (Or.inl ⟨6, 1, _, _, _, rfl, rfl⟩) rfl rfl (Nat.le_of_ble_eq_true rfl) (Nat.le_of_ble_eq_true rfl) (by decide) (by omega) (by omega) rfl rfl (by decide) (by decide) (by decide) ⟨rfl, fun q hq => (by simp only [List.mem_cons, List.not_mem_nil, or_false] at hq; subst hq; exact Or.inr ⟨8, 9, _, _, _, rfl, rfl, hg87, (show (k86 : Nat) < 100000 by omega), by decide, by decide⟩)⟩ (tt_app5S D X q73 q76 (n77) ((0 + (k70 : Int))) r84 u85 (k86) f78 (by omega) hf78 (by omega)) (fun ws1 v hq => ?_)
          obtain ⟨q88, n89, f90, hf90, hn89, rfl, rfl⟩ := hq
          refine st_st (st' := [.ref q73]) rfl ?_
          refine st_ws (ws' := [(r45, .inr (0, [.ref u46, .int (Int32.ofInt (0)), .int (Int32.ofInt (0)), .int (Int32.ofInt (0))])), (u46, .inl (D.2.2.2, k47, .inl g48)), (r58, .inr (0, [.ref u59, .int (Int32.ofInt (0)), .int (Int32.ofInt (0)), .int (Int32.ofInt (0))])), (u59, .inl (D.2.2.2, k60, .inl g61)), (r68, .inr (0, [.ref u69, .int (Int32.ofInt (0)), .int (Int32.ofInt (0)), .int (Int32.ofInt (0))])), (u69, .inl (D.2.2.2, k70, .inl g71)), (r84, .inr (0, [.ref u85, .int (Int32.ofInt (0)), .int (Int32.ofInt (0)), .int (Int32.ofInt (0))])), (u85, .inl (D.2.2.2, k86, .inl g87)), (q73, .inr (1, [.ref q88, .int (Int32.ofInt (0)), .int (Int32.ofInt (0)), .int (Int32.ofInt (((0 + (k70 : Int)) + (k86 : Int))))])), (q88, .inl (D.2.2.2, n89, .inl f90))]) rfl ?_
          refine st_callV (x := q73) (Cn := "java/lang/StringBuilder") (X' := ([], X.2)) (d' := 6) (NC' := 2) (NS' := 2006) (M' := mtJ4_toString_0e30d) (n := 0) (As := []) (st := []) (wc := [(q73, .inr (1, [.ref q88, .int (Int32.ofInt (0)), .int (Int32.ofInt (0)), .int (Int32.ofInt (((0 + (k70 : Int)) + (k86 : Int))))])), (q88, .inl (D.2.2.2, n89, .inl f90))]) (wr := [(r45, .inr (0, [.ref u46, .int (Int32.ofInt (0)), .int (Int32.ofInt (0)), .int (Int32.ofInt (0))])), (u46, .inl (D.2.2.2, k47, .inl g48)), (r58, .inr (0, [.ref u59, .int (Int32.ofInt (0)), .int (Int32.ofInt (0)), .int (Int32.ofInt (0))])), (u59, .inl (D.2.2.2, k60, .inl g61)), (r68, .inr (0, [.ref u69, .int (Int32.ofInt (0)), .int (Int32.ofInt (0)), .int (Int32.ofInt (0))])), (u69, .inl (D.2.2.2, k70, .inl g71)), (r84, .inr (0, [.ref u85, .int (Int32.ofInt (0)), .int (Int32.ofInt (0)), .int (Int32.ofInt (0))])), (u85, .inl (D.2.2.2, k86, .inl g87))]) [8, 9] [0, 1, 2, 3, 4, 5, 6, 7] ktL_text rfl ⟨(st_has (n := 5175) rfl rfl), (st_has (n := 5176) rfl rfl), (st_has (n := 1018) rfl rfl), Or.inl ⟨rfl, (st_has (n := 5177) rfl rfl)⟩⟩ (st_has (n := 5178) rfl rfl) (by decide +kernel) (Or.inl ⟨8, 1, _, _, _, rfl, rfl⟩) rfl rfl (Nat.le_of_ble_eq_true rfl) (Nat.le_of_ble_eq_true rfl) (by decide) (by omega) (by omega) rfl rfl (by decide) (by decide) (by decide) ⟨rfl, fun q hq => by cases hq⟩ (tt_toS D X q73 q88 (n89) (((0 + (k70 : Int)) + (k86 : Int))) f90 hf90 (by omega)) (fun ws1 v hq => ?_)
          obtain ⟨r91, u92, k93, g94, hg94, hk93, rfl, rfl⟩ := hq
          refine st_st (st' := [.ref r91]) rfl ?_
          refine st_ws (ws' := [(r45, .inr (0, [.ref u46, .int (Int32.ofInt (0)), .int (Int32.ofInt (0)), .int (Int32.ofInt (0))])), (u46, .inl (D.2.2.2, k47, .inl g48)), (r58, .inr (0, [.ref u59, .int (Int32.ofInt (0)), .int (Int32.ofInt (0)), .int (Int32.ofInt (0))])), (u59, .inl (D.2.2.2, k60, .inl g61)), (r68, .inr (0, [.ref u69, .int (Int32.ofInt (0)), .int (Int32.ofInt (0)), .int (Int32.ofInt (0))])), (u69, .inl (D.2.2.2, k70, .inl g71)), (r84, .inr (0, [.ref u85, .int (Int32.ofInt (0)), .int (Int32.ofInt (0)), .int (Int32.ofInt (0))])), (u85, .inl (D.2.2.2, k86, .inl g87)), (r91, .inr (0, [.ref u92, .int (Int32.ofInt (0)), .int (Int32.ofInt (0)), .int (Int32.ofInt (0))])), (u92, .inl (D.2.2.2, k93, .inl g94))]) rfl ?_
          refine st_astore (ls' := [(4, .ref r91), (5, .int (Int32.ofInt ((0 + 1)))), (3, .int (Int32.ofInt (z5))), (2, .int (Int32.ofInt (z1))), (0, .ref X.2.2.2.1), (1, .int (Int32.ofInt (k)))]) ktL_text rfl (by decide) rfl ?_
          refine st_aload 0 ktL_text rfl rfl ?_
          refine st_callV (x := r91) (Cn := "java/lang/String") (X' := ([(r91, u92, k93)], X.2)) (d' := 2) (NC' := 0) (NS' := 0) (M' := mtJ0_length_8abf5) (n := 0) (As := []) (st := []) (wc := []) (wr := [(r45, .inr (0, [.ref u46, .int (Int32.ofInt (0)), .int (Int32.ofInt (0)), .int (Int32.ofInt (0))])), (u46, .inl (D.2.2.2, k47, .inl g48)), (r58, .inr (0, [.ref u59, .int (Int32.ofInt (0)), .int (Int32.ofInt (0)), .int (Int32.ofInt (0))])), (u59, .inl (D.2.2.2, k60, .inl g61)), (r68, .inr (0, [.ref u69, .int (Int32.ofInt (0)), .int (Int32.ofInt (0)), .int (Int32.ofInt (0))])), (u69, .inl (D.2.2.2, k70, .inl g71)), (r84, .inr (0, [.ref u85, .int (Int32.ofInt (0)), .int (Int32.ofInt (0)), .int (Int32.ofInt (0))])), (u85, .inl (D.2.2.2, k86, .inl g87)), (r91, .inr (0, [.ref u92, .int (Int32.ofInt (0)), .int (Int32.ofInt (0)), .int (Int32.ofInt (0))])), (u92, .inl (D.2.2.2, k93, .inl g94))]) [] [0, 1, 2, 3, 4, 5, 6, 7, 8, 9] ktL_text rfl ⟨(st_has (n := 6030) rfl rfl), (st_has (n := 5086) rfl rfl), (st_has (n := 1019) rfl rfl), Or.inl ⟨rfl, (st_has (n := 5087) rfl rfl)⟩⟩ (st_has (n := 5088) rfl rfl) (by decide +kernel) (Or.inl ⟨8, 0, _, _, _, rfl, rfl⟩) rfl rfl (Nat.le_of_ble_eq_true rfl) (Nat.le_of_ble_eq_true rfl) (by decide) (by omega) (by omega) rfl rfl (by decide) (by decide) (by decide) ⟨rfl, fun q hq => (by simp only [List.mem_cons, List.not_mem_nil, or_false] at hq; subst hq; exact Or.inr ⟨8, 9, _, _, _, rfl, rfl, hg94, (show (k93 : Nat) < 100000 by omega), by decide, by decide⟩)⟩ (tt_strLen D X r91 u92 (k93)) (fun ws1 v hq => ?_)
          obtain ⟨rfl, rfl⟩ := hq
          refine st_st (st' := [.int (Int32.ofInt ((k93 : Int)))]) rfl ?_
          refine st_ws (ws' := [(r45, .inr (0, [.ref u46, .int (Int32.ofInt (0)), .int (Int32.ofInt (0)), .int (Int32.ofInt (0))])), (u46, .inl (D.2.2.2, k47, .inl g48)), (r58, .inr (0, [.ref u59, .int (Int32.ofInt (0)), .int (Int32.ofInt (0)), .int (Int32.ofInt (0))])), (u59, .inl (D.2.2.2, k60, .inl g61)), (r68, .inr (0, [.ref u69, .int (Int32.ofInt (0)), .int (Int32.ofInt (0)), .int (Int32.ofInt (0))])), (u69, .inl (D.2.2.2, k70, .inl g71)), (r84, .inr (0, [.ref u85, .int (Int32.ofInt (0)), .int (Int32.ofInt (0)), .int (Int32.ofInt (0))])), (u85, .inl (D.2.2.2, k86, .inl g87)), (r91, .inr (0, [.ref u92, .int (Int32.ofInt (0)), .int (Int32.ofInt (0)), .int (Int32.ofInt (0))])), (u92, .inl (D.2.2.2, k93, .inl g94))]) rfl ?_
          refine st_bipush ⟨by decide, by decide⟩ ktL_text rfl ?_
          refine st_icmp_le (tgt := 174) ⟨by omega, by omega⟩ ⟨by omega, by omega⟩ ktL_text rfl (by decide) (fun c95 => ?_) (fun c95 => ?_)
          · refine st_aload 0 ktL_text rfl rfl ?_
            refine st_sub (ws' := [(r91, .inr (0, [.ref u92, .int (Int32.ofInt (0)), .int (Int32.ofInt (0)), .int (Int32.ofInt (0))])), (u92, .inl (D.2.2.2, k93, .inl g94))]) [8, 9] rfl (by decide) ?_
            exact st_areturn (ty := (.object "java/lang/String")) ktL_text rfl rfl (Or.inl ⟨_, rfl⟩) (by omega) (by omega) (Or.inr ⟨_, _, _, _, hg94, by omega, rfl, rfl⟩)
          · refine st_ldcS (tx := "m=1?7*w-a;w>5?50-a;9") (q := (ca 15)) rfl (by show _ ∈ X.2.1; rw [hX]; simp [kl]) ktL_text rfl ?_
            refine st_goto (tgt := 176) ktL_text rfl (by decide) ?_
            refine st_sub (ws' := []) [] rfl (by decide) ?_
            exact st_areturn (ty := (.object "java/lang/String")) ktL_text rfl rfl (Or.inl ⟨_, rfl⟩) (by omega) (by omega) (Or.inl ⟨_, rfl, by decide, rfl⟩)
        · refine st_ldcS (tx := "9*w-a/5-d") (q := (ca 14)) rfl (by show _ ∈ X.2.1; rw [hX]; simp [kl]) ktL_text rfl ?_
          refine st_goto (tgt := 151) ktL_text rfl (by decide) ?_
          refine st_callV (x := q73) (Cn := "java/lang/StringBuilder") (X' := ([((ca 14), (cv 14), 9)], X.2)) (d' := 5) (NC' := 1) (NS' := 2002) (M' := mtJ4_append_15ec4) (n := 1) (As := [.ref (ca 14)]) (st := []) (wc := [(q73, .inr (1, [.ref q76, .int (Int32.ofInt (0)), .int (Int32.ofInt (0)), .int (Int32.ofInt ((0 + (k70 : Int))))])), (q76, .inl (D.2.2.2, n77, .inl f78))]) (wr := [(r45, .inr (0, [.ref u46, .int (Int32.ofInt (0)), .int (Int32.ofInt (0)), .int (Int32.ofInt (0))])), (u46, .inl (D.2.2.2, k47, .inl g48)), (r58, .inr (0, [.ref u59, .int (Int32.ofInt (0)), .int (Int32.ofInt (0)), .int (Int32.ofInt (0))])), (u59, .inl (D.2.2.2, k60, .inl g61)), (r68, .inr (0, [.ref u69, .int (Int32.ofInt (0)), .int (Int32.ofInt (0)), .int (Int32.ofInt (0))])), (u69, .inl (D.2.2.2, k70, .inl g71))]) [6, 7] [0, 1, 2, 3, 4, 5] ktL_text rfl ⟨(st_has (n := 5014) rfl rfl), (st_has (n := 5015) rfl rfl), (st_has (n := 1018) rfl rfl), Or.inl ⟨rfl, (st_has (n := 5016) rfl rfl)⟩⟩ (st_has (n := 5017) rfl rfl) (by decide +kernel) (Or.inl ⟨6, 1, _, _, _, rfl, rfl⟩) rfl rfl (Nat.le_of_ble_eq_true rfl) (Nat.le_of_ble_eq_true rfl) (by decide) (by omega) (by omega) rfl rfl (by decide) (by decide) (by decide) ⟨rfl, fun q hq => (by simp only [List.mem_cons, List.not_mem_nil, or_false] at hq; subst hq; exact Or.inl (by simp [kss]))⟩ (tt_app5S D X q73 q76 (n77) ((0 + (k70 : Int))) (ca 14) (cv 14) (9) f78 (by omega) hf78 (by omega)) (fun ws1 v hq => ?_)
          obtain ⟨q96, n97, f98, hf98, hn97, rfl, rfl⟩ := hq
          refine st_st (st' := [.ref q73]) rfl ?_
          refine st_ws (ws' := [(r45, .inr (0, [.ref u46, .int (Int32.ofInt (0)), .int (Int32.ofInt (0)), .int (Int32.ofInt (0))])), (u46, .inl (D.2.2.2, k47, .inl g48)), (r58, .inr (0, [.ref u59, .int (Int32.ofInt (0)), .int (Int32.ofInt (0)), .int (Int32.ofInt (0))])), (u59, .inl (D.2.2.2, k60, .inl g61)), (r68, .inr (0, [.ref u69, .int (Int32.ofInt (0)), .int (Int32.ofInt (0)), .int (Int32.ofInt (0))])), (u69, .inl (D.2.2.2, k70, .inl g71)), (q73, .inr (1, [.ref q96, .int (Int32.ofInt (0)), .int (Int32.ofInt (0)), .int (Int32.ofInt (((0 + (k70 : Int)) + (9 : Int))))])), (q96, .inl (D.2.2.2, n97, .inl f98))]) rfl ?_
          refine st_callV (x := q73) (Cn := "java/lang/StringBuilder") (X' := ([], X.2)) (d' := 6) (NC' := 2) (NS' := 2006) (M' := mtJ4_toString_0e30d) (n := 0) (As := []) (st := []) (wc := [(q73, .inr (1, [.ref q96, .int (Int32.ofInt (0)), .int (Int32.ofInt (0)), .int (Int32.ofInt (((0 + (k70 : Int)) + (9 : Int))))])), (q96, .inl (D.2.2.2, n97, .inl f98))]) (wr := [(r45, .inr (0, [.ref u46, .int (Int32.ofInt (0)), .int (Int32.ofInt (0)), .int (Int32.ofInt (0))])), (u46, .inl (D.2.2.2, k47, .inl g48)), (r58, .inr (0, [.ref u59, .int (Int32.ofInt (0)), .int (Int32.ofInt (0)), .int (Int32.ofInt (0))])), (u59, .inl (D.2.2.2, k60, .inl g61)), (r68, .inr (0, [.ref u69, .int (Int32.ofInt (0)), .int (Int32.ofInt (0)), .int (Int32.ofInt (0))])), (u69, .inl (D.2.2.2, k70, .inl g71))]) [6, 7] [0, 1, 2, 3, 4, 5] ktL_text rfl ⟨(st_has (n := 5175) rfl rfl), (st_has (n := 5176) rfl rfl), (st_has (n := 1018) rfl rfl), Or.inl ⟨rfl, (st_has (n := 5177) rfl rfl)⟩⟩ (st_has (n := 5178) rfl rfl) (by decide +kernel) (Or.inl ⟨6, 1, _, _, _, rfl, rfl⟩) rfl rfl (Nat.le_of_ble_eq_true rfl) (Nat.le_of_ble_eq_true rfl) (by decide) (by omega) (by omega) rfl rfl (by decide) (by decide) (by decide) ⟨rfl, fun q hq => by cases hq⟩ (tt_toS D X q73 q96 (n97) (((0 + (k70 : Int)) + (9 : Int))) f98 hf98 (by omega)) (fun ws1 v hq => ?_)
          obtain ⟨r99, u100, k101, g102, hg102, hk101, rfl, rfl⟩ := hq
          refine st_st (st' := [.ref r99]) rfl ?_
          refine st_ws (ws' := [(r45, .inr (0, [.ref u46, .int (Int32.ofInt (0)), .int (Int32.ofInt (0)), .int (Int32.ofInt (0))])), (u46, .inl (D.2.2.2, k47, .inl g48)), (r58, .inr (0, [.ref u59, .int (Int32.ofInt (0)), .int (Int32.ofInt (0)), .int (Int32.ofInt (0))])), (u59, .inl (D.2.2.2, k60, .inl g61)), (r68, .inr (0, [.ref u69, .int (Int32.ofInt (0)), .int (Int32.ofInt (0)), .int (Int32.ofInt (0))])), (u69, .inl (D.2.2.2, k70, .inl g71)), (r99, .inr (0, [.ref u100, .int (Int32.ofInt (0)), .int (Int32.ofInt (0)), .int (Int32.ofInt (0))])), (u100, .inl (D.2.2.2, k101, .inl g102))]) rfl ?_
          refine st_astore (ls' := [(4, .ref r99), (5, .int (Int32.ofInt ((0 + 1)))), (3, .int (Int32.ofInt (z5))), (2, .int (Int32.ofInt (z1))), (0, .ref X.2.2.2.1), (1, .int (Int32.ofInt (k)))]) ktL_text rfl (by decide) rfl ?_
          refine st_aload 0 ktL_text rfl rfl ?_
          refine st_callV (x := r99) (Cn := "java/lang/String") (X' := ([(r99, u100, k101)], X.2)) (d' := 2) (NC' := 0) (NS' := 0) (M' := mtJ0_length_8abf5) (n := 0) (As := []) (st := []) (wc := []) (wr := [(r45, .inr (0, [.ref u46, .int (Int32.ofInt (0)), .int (Int32.ofInt (0)), .int (Int32.ofInt (0))])), (u46, .inl (D.2.2.2, k47, .inl g48)), (r58, .inr (0, [.ref u59, .int (Int32.ofInt (0)), .int (Int32.ofInt (0)), .int (Int32.ofInt (0))])), (u59, .inl (D.2.2.2, k60, .inl g61)), (r68, .inr (0, [.ref u69, .int (Int32.ofInt (0)), .int (Int32.ofInt (0)), .int (Int32.ofInt (0))])), (u69, .inl (D.2.2.2, k70, .inl g71)), (r99, .inr (0, [.ref u100, .int (Int32.ofInt (0)), .int (Int32.ofInt (0)), .int (Int32.ofInt (0))])), (u100, .inl (D.2.2.2, k101, .inl g102))]) [] [0, 1, 2, 3, 4, 5, 6, 7] ktL_text rfl ⟨(st_has (n := 6030) rfl rfl), (st_has (n := 5086) rfl rfl), (st_has (n := 1019) rfl rfl), Or.inl ⟨rfl, (st_has (n := 5087) rfl rfl)⟩⟩ (st_has (n := 5088) rfl rfl) (by decide +kernel) (Or.inl ⟨6, 0, _, _, _, rfl, rfl⟩) rfl rfl (Nat.le_of_ble_eq_true rfl) (Nat.le_of_ble_eq_true rfl) (by decide) (by omega) (by omega) rfl rfl (by decide) (by decide) (by decide) ⟨rfl, fun q hq => (by simp only [List.mem_cons, List.not_mem_nil, or_false] at hq; subst hq; exact Or.inr ⟨6, 7, _, _, _, rfl, rfl, hg102, (show (k101 : Nat) < 100000 by omega), by decide, by decide⟩)⟩ (tt_strLen D X r99 u100 (k101)) (fun ws1 v hq => ?_)
          obtain ⟨rfl, rfl⟩ := hq
          refine st_st (st' := [.int (Int32.ofInt ((k101 : Int)))]) rfl ?_
          refine st_ws (ws' := [(r45, .inr (0, [.ref u46, .int (Int32.ofInt (0)), .int (Int32.ofInt (0)), .int (Int32.ofInt (0))])), (u46, .inl (D.2.2.2, k47, .inl g48)), (r58, .inr (0, [.ref u59, .int (Int32.ofInt (0)), .int (Int32.ofInt (0)), .int (Int32.ofInt (0))])), (u59, .inl (D.2.2.2, k60, .inl g61)), (r68, .inr (0, [.ref u69, .int (Int32.ofInt (0)), .int (Int32.ofInt (0)), .int (Int32.ofInt (0))])), (u69, .inl (D.2.2.2, k70, .inl g71)), (r99, .inr (0, [.ref u100, .int (Int32.ofInt (0)), .int (Int32.ofInt (0)), .int (Int32.ofInt (0))])), (u100, .inl (D.2.2.2, k101, .inl g102))]) rfl ?_
          refine st_bipush ⟨by decide, by decide⟩ ktL_text rfl ?_
          refine st_icmp_le (tgt := 174) ⟨by omega, by omega⟩ ⟨by omega, by omega⟩ ktL_text rfl (by decide) (fun c103 => ?_) (fun c103 => ?_)
          · refine st_aload 0 ktL_text rfl rfl ?_
            refine st_sub (ws' := [(r99, .inr (0, [.ref u100, .int (Int32.ofInt (0)), .int (Int32.ofInt (0)), .int (Int32.ofInt (0))])), (u100, .inl (D.2.2.2, k101, .inl g102))]) [6, 7] rfl (by decide) ?_
            exact st_areturn (ty := (.object "java/lang/String")) ktL_text rfl rfl (Or.inl ⟨_, rfl⟩) (by omega) (by omega) (Or.inr ⟨_, _, _, _, hg102, by omega, rfl, rfl⟩)
          · refine st_ldcS (tx := "m=1?7*w-a;w>5?50-a;9") (q := (ca 15)) rfl (by show _ ∈ X.2.1; rw [hX]; simp [kl]) ktL_text rfl ?_
            refine st_goto (tgt := 176) ktL_text rfl (by decide) ?_
            refine st_sub (ws' := []) [] rfl (by decide) ?_
            exact st_areturn (ty := (.object "java/lang/String")) ktL_text rfl rfl (Or.inl ⟨_, rfl⟩) (by omega) (by omega) (Or.inl ⟨_, rfl, by decide, rfl⟩)
      · refine st_new (ci := 1) tyJ4 [.null, .int (Int32.ofInt (0)), .int (Int32.ofInt (0)), .int (Int32.ofInt (0))] ktL_text rfl rfl tyJ4_ok (st_has (n := 4222) rfl rfl) (st_has (n := 4223) rfl rfl) (st_has (n := 1018) rfl rfl) rfl (by omega) (by omega) (fun q104 => ?_)
        refine st_ws (ws' := [(r45, .inr (0, [.ref u46, .int (Int32.ofInt (0)), .int (Int32.ofInt (0)), .int (Int32.ofInt (0))])), (u46, .inl (D.2.2.2, k47, .inl g48)), (r58, .inr (0, [.ref u59, .int (Int32.ofInt (0)), .int (Int32.ofInt (0)), .int (Int32.ofInt (0))])), (u59, .inl (D.2.2.2, k60, .inl g61)), (r68, .inr (0, [.ref u69, .int (Int32.ofInt (0)), .int (Int32.ofInt (0)), .int (Int32.ofInt (0))])), (u69, .inl (D.2.2.2, k70, .inl g71)), (q104, .inr (1, [.null, .int (Int32.ofInt (0)), .int (Int32.ofInt (0)), .int (Int32.ofInt (0))]))]) rfl ?_
        refine st_dup rfl ktL_text rfl ?_
        refine st_callI (x := q104) (X' := ([], X.2)) (d' := 3) (NC' := 1) (NS' := 16) (M' := mtJ4_init_da8c8) (n := 0) (As := []) (st := [.ref q104]) (wc := [(q104, .inr (1, [.null, .int (Int32.ofInt (0)), .int (Int32.ofInt (0)), .int (Int32.ofInt (0))]))]) (wr := [(r45, .inr (0, [.ref u46, .int (Int32.ofInt (0)), .int (Int32.ofInt (0)), .int (Int32.ofInt (0))])), (u46, .inl (D.2.2.2, k47, .inl g48)), (r58, .inr (0, [.ref u59, .int (Int32.ofInt (0)), .int (Int32.ofInt (0)), .int (Int32.ofInt (0))])), (u59, .inl (D.2.2.2, k60, .inl g61)), (r68, .inr (0, [.ref u69, .int (Int32.ofInt (0)), .int (Int32.ofInt (0)), .int (Int32.ofInt (0))])), (u69, .inl (D.2.2.2, k70, .inl g71))]) [6] [0, 1, 2, 3, 4, 5] ktL_text rfl (st_has (n := 4224) rfl rfl) (st_has (n := 4226) rfl rfl) (st_has (n := 1018) rfl rfl) (st_has (n := 4225) rfl rfl) (by decide +kernel) rfl rfl rfl rfl (Nat.le_of_ble_eq_true rfl) (Nat.le_of_ble_eq_true rfl) (by decide) (by omega) (by omega) rfl rfl (by decide) (by decide) (by decide) ⟨rfl, fun q hq => by cases hq⟩ (tt_sbInit D X q104) (fun ws1 v hq => ?_)
        obtain ⟨rfl, q105, f106, hf106, rfl⟩ := hq
        refine st_st (st' := [.ref q104]) rfl ?_
        refine st_ws (ws' := [(r45, .inr (0, [.ref u46, .int (Int32.ofInt (0)), .int (Int32.ofInt (0)), .int (Int32.ofInt (0))])), (u46, .inl (D.2.2.2, k47, .inl g48)), (r58, .inr (0, [.ref u59, .int (Int32.ofInt (0)), .int (Int32.ofInt (0)), .int (Int32.ofInt (0))])), (u59, .inl (D.2.2.2, k60, .inl g61)), (r68, .inr (0, [.ref u69, .int (Int32.ofInt (0)), .int (Int32.ofInt (0)), .int (Int32.ofInt (0))])), (u69, .inl (D.2.2.2, k70, .inl g71)), (q104, .inr (1, [.ref q105, .int (Int32.ofInt (0)), .int (Int32.ofInt (0)), .int (Int32.ofInt (0))])), (q105, .inl (D.2.2.2, 16, .inl f106))]) rfl ?_
        refine st_aload 1 ktL_text rfl rfl ?_
        refine st_callV (x := q104) (Cn := "java/lang/StringBuilder") (X' := ([(r68, u69, k70)], X.2)) (d' := 5) (NC' := 1) (NS' := 2002) (M' := mtJ4_append_15ec4) (n := 1) (As := [.ref r68]) (st := []) (wc := [(q104, .inr (1, [.ref q105, .int (Int32.ofInt (0)), .int (Int32.ofInt (0)), .int (Int32.ofInt (0))])), (q105, .inl (D.2.2.2, 16, .inl f106))]) (wr := [(r45, .inr (0, [.ref u46, .int (Int32.ofInt (0)), .int (Int32.ofInt (0)), .int (Int32.ofInt (0))])), (u46, .inl (D.2.2.2, k47, .inl g48)), (r58, .inr (0, [.ref u59, .int (Int32.ofInt (0)), .int (Int32.ofInt (0)), .int (Int32.ofInt (0))])), (u59, .inl (D.2.2.2, k60, .inl g61)), (r68, .inr (0, [.ref u69, .int (Int32.ofInt (0)), .int (Int32.ofInt (0)), .int (Int32.ofInt (0))])), (u69, .inl (D.2.2.2, k70, .inl g71))]) [6, 7] [0, 1, 2, 3, 4, 5] ktL_text rfl ⟨(st_has (n := 5014) rfl rfl), (st_has (n := 5015) rfl rfl), (st_has (n := 1018) rfl rfl), Or.inl ⟨rfl, (st_has (n := 5016) rfl rfl)⟩⟩ (st_has (n := 5017) rfl rfl) (by decide +kernel) (Or.inl ⟨6, 1, _, _, _, rfl, rfl⟩) rfl rfl (Nat.le_of_ble_eq_true rfl) (Nat.le_of_ble_eq_true rfl) (by decide) (by omega) (by omega) rfl rfl (by decide) (by decide) (by decide) ⟨rfl, fun q hq => (by simp only [List.mem_cons, List.not_mem_nil, or_false] at hq; subst hq; exact Or.inr ⟨4, 5, _, _, _, rfl, rfl, hg71, (show (k70 : Nat) < 100000 by omega), by decide, by decide⟩)⟩ (tt_app5S D X q104 q105 (16) (0) r68 u69 (k70) f106 (by omega) hf106 (by omega)) (fun ws1 v hq => ?_)
        obtain ⟨q107, n108, f109, hf109, hn108, rfl, rfl⟩ := hq
        refine st_st (st' := [.ref q104]) rfl ?_
        refine st_ws (ws' := [(r45, .inr (0, [.ref u46, .int (Int32.ofInt (0)), .int (Int32.ofInt (0)), .int (Int32.ofInt (0))])), (u46, .inl (D.2.2.2, k47, .inl g48)), (r58, .inr (0, [.ref u59, .int (Int32.ofInt (0)), .int (Int32.ofInt (0)), .int (Int32.ofInt (0))])), (u59, .inl (D.2.2.2, k60, .inl g61)), (r68, .inr (0, [.ref u69, .int (Int32.ofInt (0)), .int (Int32.ofInt (0)), .int (Int32.ofInt (0))])), (u69, .inl (D.2.2.2, k70, .inl g71)), (q104, .inr (1, [.ref q107, .int (Int32.ofInt (0)), .int (Int32.ofInt (0)), .int (Int32.ofInt ((0 + (k70 : Int))))])), (q107, .inl (D.2.2.2, n108, .inl f109))]) rfl ?_
        refine st_aload_n 4 ktL_text rfl rfl ?_
        refine st_iload_n 5 ktL_text rfl rfl ?_
        refine st_iconst ktL_text rfl ?_
        refine st_iadd (z := (k + 1)) (fz_w_id (by omega) (by omega)) ktL_text rfl ?_
        refine st_callS (X' := ([], X.2)) (d' := 1) (NC' := 0) (NS' := 0) (M' := mtL_at) (n := 2) (As := [.ref X.2.2.2.1, .int (Int32.ofInt ((k + 1)))]) (st := [.ref q104]) (wc := []) (wr := [(r45, .inr (0, [.ref u46, .int (Int32.ofInt (0)), .int (Int32.ofInt (0)), .int (Int32.ofInt (0))])), (u46, .inl (D.2.2.2, k47, .inl g48)), (r58, .inr (0, [.ref u59, .int (Int32.ofInt (0)), .int (Int32.ofInt (0)), .int (Int32.ofInt (0))])), (u59, .inl (D.2.2.2, k60, .inl g61)), (r68, .inr (0, [.ref u69, .int (Int32.ofInt (0)), .int (Int32.ofInt (0)), .int (Int32.ofInt (0))])), (u69, .inl (D.2.2.2, k70, .inl g71)), (q104, .inr (1, [.ref q107, .int (Int32.ofInt (0)), .int (Int32.ofInt (0)), .int (Int32.ofInt ((0 + (k70 : Int))))])), (q107, .inl (D.2.2.2, n108, .inl f109))]) [] [0, 1, 2, 3, 4, 5, 6, 7] ktL_text rfl (st_has (n := 4212) rfl rfl) (st_has (n := 4214) rfl rfl) (st_has (n := 1000) rfl rfl) (st_has (n := 4213) rfl rfl) (by decide +kernel) rfl rfl (Nat.le_of_ble_eq_true rfl) (Nat.le_of_ble_eq_true rfl) (by decide) (by omega) (by omega) rfl rfl (by decide) (by decide) (by decide) ⟨rfl, fun q hq => by cases hq⟩ (tt_at D X ((k + 1)) (by omega) hL) (fun ws1 v hq => ?_)
        obtain ⟨z110, hz110, rfl, rfl⟩ := hq
        refine st_st (st' := [.int (Int32.ofInt (z110)), .ref q104]) rfl ?_
        refine st_ws (ws' := [(r45, .inr (0, [.ref u46, .int (Int32.ofInt (0)), .int (Int32.ofInt (0)), .int (Int32.ofInt (0))])), (u46, .inl (D.2.2.2, k47, .inl g48)), (r58, .inr (0, [.ref u59, .int (Int32.ofInt (0)), .int (Int32.ofInt (0)), .int (Int32.ofInt (0))])), (u59, .inl (D.2.2.2, k60, .inl g61)), (r68, .inr (0, [.ref u69, .int (Int32.ofInt (0)), .int (Int32.ofInt (0)), .int (Int32.ofInt (0))])), (u69, .inl (D.2.2.2, k70, .inl g71)), (q104, .inr (1, [.ref q107, .int (Int32.ofInt (0)), .int (Int32.ofInt (0)), .int (Int32.ofInt ((0 + (k70 : Int))))])), (q107, .inl (D.2.2.2, n108, .inl f109))]) rfl ?_
        refine st_iload 0 ktL_text rfl rfl ?_
        refine st_ishr ktL_text rfl (fun z111 hz111 => ?_)
        refine st_iload_n 3 ktL_text rfl rfl ?_
        refine st_iload 0 ktL_text rfl rfl ?_
        refine st_ishr ktL_text rfl (fun z112 hz112 => ?_)
        refine st_callS (X' := (kss ca cv, X.2)) (d' := 8) (NC' := 40) (NS' := 40000) (M' := mtL_says) (n := 2) (As := [.int (Int32.ofInt (z111)), .int (Int32.ofInt (z112))]) (st := [.ref q104]) (wc := []) (wr := [(r45, .inr (0, [.ref u46, .int (Int32.ofInt (0)), .int (Int32.ofInt (0)), .int (Int32.ofInt (0))])), (u46, .inl (D.2.2.2, k47, .inl g48)), (r58, .inr (0, [.ref u59, .int (Int32.ofInt (0)), .int (Int32.ofInt (0)), .int (Int32.ofInt (0))])), (u59, .inl (D.2.2.2, k60, .inl g61)), (r68, .inr (0, [.ref u69, .int (Int32.ofInt (0)), .int (Int32.ofInt (0)), .int (Int32.ofInt (0))])), (u69, .inl (D.2.2.2, k70, .inl g71)), (q104, .inr (1, [.ref q107, .int (Int32.ofInt (0)), .int (Int32.ofInt (0)), .int (Int32.ofInt ((0 + (k70 : Int))))])), (q107, .inl (D.2.2.2, n108, .inl f109))]) [] [0, 1, 2, 3, 4, 5, 6, 7] ktL_text rfl (st_has (n := 5128) rfl rfl) (st_has (n := 5130) rfl rfl) (st_has (n := 1000) rfl rfl) (st_has (n := 5129) rfl rfl) (by decide +kernel) rfl rfl (Nat.le_of_ble_eq_true rfl) (Nat.le_of_ble_eq_true rfl) (by decide) (by omega) (by omega) rfl rfl (by decide) (by decide) (by decide) ⟨rfl, fun q hq => Or.inl hq⟩ (tt_says D X ca cv hX (z111) (z112) ⟨by omega, by omega⟩ ⟨by omega, by omega⟩) (fun ws1 v hq => ?_)
        obtain ⟨r113, u114, k115, g116, hg116, hk115, rfl, rfl⟩ := hq
        refine st_st (st' := [.ref r113, .ref q104]) rfl ?_
        refine st_ws (ws' := [(r45, .inr (0, [.ref u46, .int (Int32.ofInt (0)), .int (Int32.ofInt (0)), .int (Int32.ofInt (0))])), (u46, .inl (D.2.2.2, k47, .inl g48)), (r58, .inr (0, [.ref u59, .int (Int32.ofInt (0)), .int (Int32.ofInt (0)), .int (Int32.ofInt (0))])), (u59, .inl (D.2.2.2, k60, .inl g61)), (r68, .inr (0, [.ref u69, .int (Int32.ofInt (0)), .int (Int32.ofInt (0)), .int (Int32.ofInt (0))])), (u69, .inl (D.2.2.2, k70, .inl g71)), (q104, .inr (1, [.ref q107, .int (Int32.ofInt (0)), .int (Int32.ofInt (0)), .int (Int32.ofInt ((0 + (k70 : Int))))])), (q107, .inl (D.2.2.2, n108, .inl f109)), (r113, .inr (0, [.ref u114, .int (Int32.ofInt (0)), .int (Int32.ofInt (0)), .int (Int32.ofInt (0))])), (u114, .inl (D.2.2.2, k115, .inl g116))]) rfl ?_
        refine st_callV (x := q104) (Cn := "java/lang/StringBuilder") (X' := ([(r113, u114, k115)], X.2)) (d' := 5) (NC' := 1) (NS' := 2002) (M' := mtJ4_append_15ec4) (n := 1) (As := [.ref r113]) (st := []) (wc := [(q104, .inr (1, [.ref q107, .int (Int32.ofInt (0)), .int (Int32.ofInt (0)), .int (Int32.ofInt ((0 + (k70 : Int))))])), (q107, .inl (D.2.2.2, n108, .inl f109))]) (wr := [(r45, .inr (0, [.ref u46, .int (Int32.ofInt (0)), .int (Int32.ofInt (0)), .int (Int32.ofInt (0))])), (u46, .inl (D.2.2.2, k47, .inl g48)), (r58, .inr (0, [.ref u59, .int (Int32.ofInt (0)), .int (Int32.ofInt (0)), .int (Int32.ofInt (0))])), (u59, .inl (D.2.2.2, k60, .inl g61)), (r68, .inr (0, [.ref u69, .int (Int32.ofInt (0)), .int (Int32.ofInt (0)), .int (Int32.ofInt (0))])), (u69, .inl (D.2.2.2, k70, .inl g71)), (r113, .inr (0, [.ref u114, .int (Int32.ofInt (0)), .int (Int32.ofInt (0)), .int (Int32.ofInt (0))])), (u114, .inl (D.2.2.2, k115, .inl g116))]) [6, 7] [0, 1, 2, 3, 4, 5, 8, 9] ktL_text rfl ⟨(st_has (n := 5014) rfl rfl), (st_has (n := 5015) rfl rfl), (st_has (n := 1018) rfl rfl), Or.inl ⟨rfl, (st_has (n := 5016) rfl rfl)⟩⟩ (st_has (n := 5017) rfl rfl) (by decide +kernel) (Or.inl ⟨6, 1, _, _, _, rfl, rfl⟩) rfl rfl (Nat.le_of_ble_eq_true rfl) (Nat.le_of_ble_eq_true rfl) (by decide) (by omega) (by omega) rfl rfl (by decide) (by decide) (by decide) ⟨rfl, fun q hq => (by simp only [List.mem_cons, List.not_mem_nil, or_false] at hq; subst hq; exact Or.inr ⟨8, 9, _, _, _, rfl, rfl, hg116, (show (k115 : Nat) < 100000 by omega), by decide, by decide⟩)⟩ (tt_app5S D X q104 q107 (n108) ((0 + (k70 : Int))) r113 u114 (k115) f109 (by omega) hf109 (by omega)) (fun ws1 v hq => ?_)
        obtain ⟨q117, n118, f119, hf119, hn118, rfl, rfl⟩ := hq
        refine st_st (st' := [.ref q104]) rfl ?_
        refine st_ws (ws' := [(r45, .inr (0, [.ref u46, .int (Int32.ofInt (0)), .int (Int32.ofInt (0)), .int (Int32.ofInt (0))])), (u46, .inl (D.2.2.2, k47, .inl g48)), (r58, .inr (0, [.ref u59, .int (Int32.ofInt (0)), .int (Int32.ofInt (0)), .int (Int32.ofInt (0))])), (u59, .inl (D.2.2.2, k60, .inl g61)), (r68, .inr (0, [.ref u69, .int (Int32.ofInt (0)), .int (Int32.ofInt (0)), .int (Int32.ofInt (0))])), (u69, .inl (D.2.2.2, k70, .inl g71)), (r113, .inr (0, [.ref u114, .int (Int32.ofInt (0)), .int (Int32.ofInt (0)), .int (Int32.ofInt (0))])), (u114, .inl (D.2.2.2, k115, .inl g116)), (q104, .inr (1, [.ref q117, .int (Int32.ofInt (0)), .int (Int32.ofInt (0)), .int (Int32.ofInt (((0 + (k70 : Int)) + (k115 : Int))))])), (q117, .inl (D.2.2.2, n118, .inl f119))]) rfl ?_
        refine st_ldcS (tx := "?") (q := (ca 12)) rfl (by show _ ∈ X.2.1; rw [hX]; simp [kl]) ktL_text rfl ?_
        refine st_callV (x := q104) (Cn := "java/lang/StringBuilder") (X' := ([((ca 12), (cv 12), 1)], X.2)) (d' := 5) (NC' := 1) (NS' := 2002) (M' := mtJ4_append_15ec4) (n := 1) (As := [.ref (ca 12)]) (st := []) (wc := [(q104, .inr (1, [.ref q117, .int (Int32.ofInt (0)), .int (Int32.ofInt (0)), .int (Int32.ofInt (((0 + (k70 : Int)) + (k115 : Int))))])), (q117, .inl (D.2.2.2, n118, .inl f119))]) (wr := [(r45, .inr (0, [.ref u46, .int (Int32.ofInt (0)), .int (Int32.ofInt (0)), .int (Int32.ofInt (0))])), (u46, .inl (D.2.2.2, k47, .inl g48)), (r58, .inr (0, [.ref u59, .int (Int32.ofInt (0)), .int (Int32.ofInt (0)), .int (Int32.ofInt (0))])), (u59, .inl (D.2.2.2, k60, .inl g61)), (r68, .inr (0, [.ref u69, .int (Int32.ofInt (0)), .int (Int32.ofInt (0)), .int (Int32.ofInt (0))])), (u69, .inl (D.2.2.2, k70, .inl g71)), (r113, .inr (0, [.ref u114, .int (Int32.ofInt (0)), .int (Int32.ofInt (0)), .int (Int32.ofInt (0))])), (u114, .inl (D.2.2.2, k115, .inl g116))]) [8, 9] [0, 1, 2, 3, 4, 5, 6, 7] ktL_text rfl ⟨(st_has (n := 5014) rfl rfl), (st_has (n := 5015) rfl rfl), (st_has (n := 1018) rfl rfl), Or.inl ⟨rfl, (st_has (n := 5016) rfl rfl)⟩⟩ (st_has (n := 5017) rfl rfl) (by decide +kernel) (Or.inl ⟨8, 1, _, _, _, rfl, rfl⟩) rfl rfl (Nat.le_of_ble_eq_true rfl) (Nat.le_of_ble_eq_true rfl) (by decide) (by omega) (by omega) rfl rfl (by decide) (by decide) (by decide) ⟨rfl, fun q hq => (by simp only [List.mem_cons, List.not_mem_nil, or_false] at hq; subst hq; exact Or.inl (by simp [kss]))⟩ (tt_app5S D X q104 q117 (n118) (((0 + (k70 : Int)) + (k115 : Int))) (ca 12) (cv 12) (1) f119 (by omega) hf119 (by omega)) (fun ws1 v hq => ?_)
        obtain ⟨q120, n121, f122, hf122, hn121, rfl, rfl⟩ := hq
        refine st_st (st' := [.ref q104]) rfl ?_
        refine st_ws (ws' := [(r45, .inr (0, [.ref u46, .int (Int32.ofInt (0)), .int (Int32.ofInt (0)), .int (Int32.ofInt (0))])), (u46, .inl (D.2.2.2, k47, .inl g48)), (r58, .inr (0, [.ref u59, .int (Int32.ofInt (0)), .int (Int32.ofInt (0)), .int (Int32.ofInt (0))])), (u59, .inl (D.2.2.2, k60, .inl g61)), (r68, .inr (0, [.ref u69, .int (Int32.ofInt (0)), .int (Int32.ofInt (0)), .int (Int32.ofInt (0))])), (u69, .inl (D.2.2.2, k70, .inl g71)), (r113, .inr (0, [.ref u114, .int (Int32.ofInt (0)), .int (Int32.ofInt (0)), .int (Int32.ofInt (0))])), (u114, .inl (D.2.2.2, k115, .inl g116)), (q104, .inr (1, [.ref q120, .int (Int32.ofInt (0)), .int (Int32.ofInt (0)), .int (Int32.ofInt ((((0 + (k70 : Int)) + (k115 : Int)) + (1 : Int))))])), (q120, .inl (D.2.2.2, n121, .inl f122))]) rfl ?_
        refine st_iload_n 3 ktL_text rfl rfl ?_
        refine st_iconst ktL_text rfl ?_
        refine st_iload 0 ktL_text rfl rfl ?_
        refine st_iadd (z := (4 + (0 + 1))) (fz_w_id (by omega) (by omega)) ktL_text rfl ?_
        refine st_ishr ktL_text rfl (fun z123 hz123 => ?_)
        refine st_aload_n 4 ktL_text rfl rfl ?_
        refine st_iload_n 5 ktL_text rfl rfl ?_
        refine st_iconst ktL_text rfl ?_
        refine st_iadd (z := (k + 1)) (fz_w_id (by omega) (by omega)) ktL_text rfl ?_
        refine st_callS (X' := ([], X.2)) (d' := 1) (NC' := 0) (NS' := 0) (M' := mtL_at) (n := 2) (As := [.ref X.2.2.2.1, .int (Int32.ofInt ((k + 1)))]) (st := [.int (Int32.ofInt (z123)), .ref q104]) (wc := []) (wr := [(r45, .inr (0, [.ref u46, .int (Int32.ofInt (0)), .int (Int32.ofInt (0)), .int (Int32.ofInt (0))])), (u46, .inl (D.2.2.2, k47, .inl g48)), (r58, .inr (0, [.ref u59, .int (Int32.ofInt (0)), .int (Int32.ofInt (0)), .int (Int32.ofInt (0))])), (u59, .inl (D.2.2.2, k60, .inl g61)), (r68, .inr (0, [.ref u69, .int (Int32.ofInt (0)), .int (Int32.ofInt (0)), .int (Int32.ofInt (0))])), (u69, .inl (D.2.2.2, k70, .inl g71)), (r113, .inr (0, [.ref u114, .int (Int32.ofInt (0)), .int (Int32.ofInt (0)), .int (Int32.ofInt (0))])), (u114, .inl (D.2.2.2, k115, .inl g116)), (q104, .inr (1, [.ref q120, .int (Int32.ofInt (0)), .int (Int32.ofInt (0)), .int (Int32.ofInt ((((0 + (k70 : Int)) + (k115 : Int)) + (1 : Int))))])), (q120, .inl (D.2.2.2, n121, .inl f122))]) [] [0, 1, 2, 3, 4, 5, 6, 7, 8, 9] ktL_text rfl (st_has (n := 4212) rfl rfl) (st_has (n := 4214) rfl rfl) (st_has (n := 1000) rfl rfl) (st_has (n := 4213) rfl rfl) (by decide +kernel) rfl rfl (Nat.le_of_ble_eq_true rfl) (Nat.le_of_ble_eq_true rfl) (by decide) (by omega) (by omega) rfl rfl (by decide) (by decide) (by decide) ⟨rfl, fun q hq => by cases hq⟩ (tt_at D X ((k + 1)) (by omega) hL) (fun ws1 v hq => ?_)
        obtain ⟨z124, hz124, rfl, rfl⟩ := hq
        refine st_st (st' := [.int (Int32.ofInt (z124)), .int (Int32.ofInt (z123)), .ref q104]) rfl ?_
        refine st_ws (ws' := [(r45, .inr (0, [.ref u46, .int (Int32.ofInt (0)), .int (Int32.ofInt (0)), .int (Int32.ofInt (0))])), (u46, .inl (D.2.2.2, k47, .inl g48)), (r58, .inr (0, [.ref u59, .int (Int32.ofInt (0)), .int (Int32.ofInt (0)), .int (Int32.ofInt (0))])), (u59, .inl (D.2.2.2, k60, .inl g61)), (r68, .inr (0, [.ref u69, .int (Int32.ofInt (0)), .int (Int32.ofInt (0)), .int (Int32.ofInt (0))])), (u69, .inl (D.2.2.2, k70, .inl g71)), (r113, .inr (0, [.ref u114, .int (Int32.ofInt (0)), .int (Int32.ofInt (0)), .int (Int32.ofInt (0))])), (u114, .inl (D.2.2.2, k115, .inl g116)), (q104, .inr (1, [.ref q120, .int (Int32.ofInt (0)), .int (Int32.ofInt (0)), .int (Int32.ofInt ((((0 + (k70 : Int)) + (k115 : Int)) + (1 : Int))))])), (q120, .inl (D.2.2.2, n121, .inl f122))]) rfl ?_
        refine st_iconst ktL_text rfl ?_
        refine st_ishr ktL_text rfl (fun z125 hz125 => ?_)
        refine st_callS (X' := (kss ca cv, X.2)) (d' := 8) (NC' := 40) (NS' := 40000) (M' := mtL_says) (n := 2) (As := [.int (Int32.ofInt (z123)), .int (Int32.ofInt (z125))]) (st := [.ref q104]) (wc := []) (wr := [(r45, .inr (0, [.ref u46, .int (Int32.ofInt (0)), .int (Int32.ofInt (0)), .int (Int32.ofInt (0))])), (u46, .inl (D.2.2.2, k47, .inl g48)), (r58, .inr (0, [.ref u59, .int (Int32.ofInt (0)), .int (Int32.ofInt (0)), .int (Int32.ofInt (0))])), (u59, .inl (D.2.2.2, k60, .inl g61)), (r68, .inr (0, [.ref u69, .int (Int32.ofInt (0)), .int (Int32.ofInt (0)), .int (Int32.ofInt (0))])), (u69, .inl (D.2.2.2, k70, .inl g71)), (r113, .inr (0, [.ref u114, .int (Int32.ofInt (0)), .int (Int32.ofInt (0)), .int (Int32.ofInt (0))])), (u114, .inl (D.2.2.2, k115, .inl g116)), (q104, .inr (1, [.ref q120, .int (Int32.ofInt (0)), .int (Int32.ofInt (0)), .int (Int32.ofInt ((((0 + (k70 : Int)) + (k115 : Int)) + (1 : Int))))])), (q120, .inl (D.2.2.2, n121, .inl f122))]) [] [0, 1, 2, 3, 4, 5, 6, 7, 8, 9] ktL_text rfl (st_has (n := 5128) rfl rfl) (st_has (n := 5130) rfl rfl) (st_has (n := 1000) rfl rfl) (st_has (n := 5129) rfl rfl) (by decide +kernel) rfl rfl (Nat.le_of_ble_eq_true rfl) (Nat.le_of_ble_eq_true rfl) (by decide) (by omega) (by omega) rfl rfl (by decide) (by decide) (by decide) ⟨rfl, fun q hq => Or.inl hq⟩ (tt_says D X ca cv hX (z123) (z125) ⟨by omega, by omega⟩ ⟨by omega, by omega⟩) (fun ws1 v hq => ?_)
        obtain ⟨r126, u127, k128, g129, hg129, hk128, rfl, rfl⟩ := hq
        refine st_st (st' := [.ref r126, .ref q104]) rfl ?_
        refine st_ws (ws' := [(r45, .inr (0, [.ref u46, .int (Int32.ofInt (0)), .int (Int32.ofInt (0)), .int (Int32.ofInt (0))])), (u46, .inl (D.2.2.2, k47, .inl g48)), (r58, .inr (0, [.ref u59, .int (Int32.ofInt (0)), .int (Int32.ofInt (0)), .int (Int32.ofInt (0))])), (u59, .inl (D.2.2.2, k60, .inl g61)), (r68, .inr (0, [.ref u69, .int (Int32.ofInt (0)), .int (Int32.ofInt (0)), .int (Int32.ofInt (0))])), (u69, .inl (D.2.2.2, k70, .inl g71)), (r113, .inr (0, [.ref u114, .int (Int32.ofInt (0)), .int (Int32.ofInt (0)), .int (Int32.ofInt (0))])), (u114, .inl (D.2.2.2, k115, .inl g116)), (q104, .inr (1, [.ref q120, .int (Int32.ofInt (0)), .int (Int32.ofInt (0)), .int (Int32.ofInt ((((0 + (k70 : Int)) + (k115 : Int)) + (1 : Int))))])), (q120, .inl (D.2.2.2, n121, .inl f122)), (r126, .inr (0, [.ref u127, .int (Int32.ofInt (0)), .int (Int32.ofInt (0)), .int (Int32.ofInt (0))])), (u127, .inl (D.2.2.2, k128, .inl g129))]) rfl ?_
        refine st_callV (x := q104) (Cn := "java/lang/StringBuilder") (X' := ([(r126, u127, k128)], X.2)) (d' := 5) (NC' := 1) (NS' := 2002) (M' := mtJ4_append_15ec4) (n := 1) (As := [.ref r126]) (st := []) (wc := [(q104, .inr (1, [.ref q120, .int (Int32.ofInt (0)), .int (Int32.ofInt (0)), .int (Int32.ofInt ((((0 + (k70 : Int)) + (k115 : Int)) + (1 : Int))))])), (q120, .inl (D.2.2.2, n121, .inl f122))]) (wr := [(r45, .inr (0, [.ref u46, .int (Int32.ofInt (0)), .int (Int32.ofInt (0)), .int (Int32.ofInt (0))])), (u46, .inl (D.2.2.2, k47, .inl g48)), (r58, .inr (0, [.ref u59, .int (Int32.ofInt (0)), .int (Int32.ofInt (0)), .int (Int32.ofInt (0))])), (u59, .inl (D.2.2.2, k60, .inl g61)), (r68, .inr (0, [.ref u69, .int (Int32.ofInt (0)), .int (Int32.ofInt (0)), .int (Int32.ofInt (0))])), (u69, .inl (D.2.2.2, k70, .inl g71)), (r113, .inr (0, [.ref u114, .int (Int32.ofInt (0)), .int (Int32.ofInt (0)), .int (Int32.ofInt (0))])), (u114, .inl (D.2.2.2, k115, .inl g116)), (r126, .inr (0, [.ref u127, .int (Int32.ofInt (0)), .int (Int32.ofInt (0)), .int (Int32.ofInt (0))])), (u127, .inl (D.2.2.2, k128, .inl g129))]) [8, 9] [0, 1, 2, 3, 4, 5, 6, 7, 10, 11] ktL_text rfl ⟨(st_has (n := 5014) rfl rfl), (st_has (n := 5015) rfl rfl), (st_has (n := 1018) rfl rfl), Or.inl ⟨rfl, (st_has (n := 5016) rfl rfl)⟩⟩ (st_has (n := 5017) rfl rfl) (by decide +kernel) (Or.inl ⟨8, 1, _, _, _, rfl, rfl⟩) rfl rfl (Nat.le_of_ble_eq_true rfl) (Nat.le_of_ble_eq_true rfl) (by decide) (by omega) (by omega) rfl rfl (by decide) (by decide) (by decide) ⟨rfl, fun q hq => (by simp only [List.mem_cons, List.not_mem_nil, or_false] at hq; subst hq; exact Or.inr ⟨10, 11, _, _, _, rfl, rfl, hg129, (show (k128 : Nat) < 100000 by omega), by decide, by decide⟩)⟩ (tt_app5S D X q104 q120 (n121) ((((0 + (k70 : Int)) + (k115 : Int)) + (1 : Int))) r126 u127 (k128) f122 (by omega) hf122 (by omega)) (fun ws1 v hq => ?_)
        obtain ⟨q130, n131, f132, hf132, hn131, rfl, rfl⟩ := hq
        refine st_st (st' := [.ref q104]) rfl ?_
        refine st_ws (ws' := [(r45, .inr (0, [.ref u46, .int (Int32.ofInt (0)), .int (Int32.ofInt (0)), .int (Int32.ofInt (0))])), (u46, .inl (D.2.2.2, k47, .inl g48)), (r58, .inr (0, [.ref u59, .int (Int32.ofInt (0)), .int (Int32.ofInt (0)), .int (Int32.ofInt (0))])), (u59, .inl (D.2.2.2, k60, .inl g61)), (r68, .inr (0, [.ref u69, .int (Int32.ofInt (0)), .int (Int32.ofInt (0)), .int (Int32.ofInt (0))])), (u69, .inl (D.2.2.2, k70, .inl g71)), (r113, .inr (0, [.ref u114, .int (Int32.ofInt (0)), .int (Int32.ofInt (0)), .int (Int32.ofInt (0))])), (u114, .inl (D.2.2.2, k115, .inl g116)), (r126, .inr (0, [.ref u127, .int (Int32.ofInt (0)), .int (Int32.ofInt (0)), .int (Int32.ofInt (0))])), (u127, .inl (D.2.2.2, k128, .inl g129)), (q104, .inr (1, [.ref q130, .int (Int32.ofInt (0)), .int (Int32.ofInt (0)), .int (Int32.ofInt (((((0 + (k70 : Int)) + (k115 : Int)) + (1 : Int)) + (k128 : Int))))])), (q130, .inl (D.2.2.2, n131, .inl f132))]) rfl ?_
        refine st_ldcS (tx := ";") (q := (ca 13)) rfl (by show _ ∈ X.2.1; rw [hX]; simp [kl]) ktL_text rfl ?_
        refine st_callV (x := q104) (Cn := "java/lang/StringBuilder") (X' := ([((ca 13), (cv 13), 1)], X.2)) (d' := 5) (NC' := 1) (NS' := 2002) (M' := mtJ4_append_15ec4) (n := 1) (As := [.ref (ca 13)]) (st := []) (wc := [(q104, .inr (1, [.ref q130, .int (Int32.ofInt (0)), .int (Int32.ofInt (0)), .int (Int32.ofInt (((((0 + (k70 : Int)) + (k115 : Int)) + (1 : Int)) + (k128 : Int))))])), (q130, .inl (D.2.2.2, n131, .inl f132))]) (wr := [(r45, .inr (0, [.ref u46, .int (Int32.ofInt (0)), .int (Int32.ofInt (0)), .int (Int32.ofInt (0))])), (u46, .inl (D.2.2.2, k47, .inl g48)), (r58, .inr (0, [.ref u59, .int (Int32.ofInt (0)), .int (Int32.ofInt (0)), .int (Int32.ofInt (0))])), (u59, .inl (D.2.2.2, k60, .inl g61)), (r68, .inr (0, [.ref u69, .int (Int32.ofInt (0)), .int (Int32.ofInt (0)), .int (Int32.ofInt (0))])), (u69, .inl (D.2.2.2, k70, .inl g71)), (r113, .inr (0, [.ref u114, .int (Int32.ofInt (0)), .int (Int32.ofInt (0)), .int (Int32.ofInt (0))])), (u114, .inl (D.2.2.2, k115, .inl g116)), (r126, .inr (0, [.ref u127, .int (Int32.ofInt (0)), .int (Int32.ofInt (0)), .int (Int32.ofInt (0))])), (u127, .inl (D.2.2.2, k128, .inl g129))]) [10, 11] [0, 1, 2, 3, 4, 5, 6, 7, 8, 9] ktL_text rfl ⟨(st_has (n := 5014) rfl rfl), (st_has (n := 5015) rfl rfl), (st_has (n := 1018) rfl rfl), Or.inl ⟨rfl, (st_has (n := 5016) rfl rfl)⟩⟩ (st_has (n := 5017) rfl rfl) (by decide +kernel) (Or.inl ⟨10, 1, _, _, _, rfl, rfl⟩) rfl rfl (Nat.le_of_ble_eq_true rfl) (Nat.le_of_ble_eq_true rfl) (by decide) (by omega) (by omega) rfl rfl (by decide) (by decide) (by decide) ⟨rfl, fun q hq => (by simp only [List.mem_cons, List.not_mem_nil, or_false] at hq; subst hq; exact Or.inl (by simp [kss]))⟩ (tt_app5S D X q104 q130 (n131) (((((0 + (k70 : Int)) + (k115 : Int)) + (1 : Int)) + (k128 : Int))) (ca 13) (cv 13) (1) f132 (by omega) hf132 (by omega)) (fun ws1 v hq => ?_)
        obtain ⟨q133, n134, f135, hf135, hn134, rfl, rfl⟩ := hq
        refine st_st (st' := [.ref q104]) rfl ?_
        refine st_ws (ws' := [(r45, .inr (0, [.ref u46, .int (Int32.ofInt (0)), .int (Int32.ofInt (0)), .int (Int32.ofInt (0))])), (u46, .inl (D.2.2.2, k47, .inl g48)), (r58, .inr (0, [.ref u59, .int (Int32.ofInt (0)), .int (Int32.ofInt (0)), .int (Int32.ofInt (0))])), (u59, .inl (D.2.2.2, k60, .inl g61)), (r68, .inr (0, [.ref u69, .int (Int32.ofInt (0)), .int (Int32.ofInt (0)), .int (Int32.ofInt (0))])), (u69, .inl (D.2.2.2, k70, .inl g71)), (r113, .inr (0, [.ref u114, .int (Int32.ofInt (0)), .int (Int32.ofInt (0)), .int (Int32.ofInt (0))])), (u114, .inl (D.2.2.2, k115, .inl g116)), (r126, .inr (0, [.ref u127, .int (Int32.ofInt (0)), .int (Int32.ofInt (0)), .int (Int32.ofInt (0))])), (u127, .inl (D.2.2.2, k128, .inl g129)), (q104, .inr (1, [.ref q133, .int (Int32.ofInt (0)), .int (Int32.ofInt (0)), .int (Int32.ofInt ((((((0 + (k70 : Int)) + (k115 : Int)) + (1 : Int)) + (k128 : Int)) + (1 : Int))))])), (q133, .inl (D.2.2.2, n134, .inl f135))]) rfl ?_
        refine st_callV (x := q104) (Cn := "java/lang/StringBuilder") (X' := ([], X.2)) (d' := 6) (NC' := 2) (NS' := 2006) (M' := mtJ4_toString_0e30d) (n := 0) (As := []) (st := []) (wc := [(q104, .inr (1, [.ref q133, .int (Int32.ofInt (0)), .int (Int32.ofInt (0)), .int (Int32.ofInt ((((((0 + (k70 : Int)) + (k115 : Int)) + (1 : Int)) + (k128 : Int)) + (1 : Int))))])), (q133, .inl (D.2.2.2, n134, .inl f135))]) (wr := [(r45, .inr (0, [.ref u46, .int (Int32.ofInt (0)), .int (Int32.ofInt (0)), .int (Int32.ofInt (0))])), (u46, .inl (D.2.2.2, k47, .inl g48)), (r58, .inr (0, [.ref u59, .int (Int32.ofInt (0)), .int (Int32.ofInt (0)), .int (Int32.ofInt (0))])), (u59, .inl (D.2.2.2, k60, .inl g61)), (r68, .inr (0, [.ref u69, .int (Int32.ofInt (0)), .int (Int32.ofInt (0)), .int (Int32.ofInt (0))])), (u69, .inl (D.2.2.2, k70, .inl g71)), (r113, .inr (0, [.ref u114, .int (Int32.ofInt (0)), .int (Int32.ofInt (0)), .int (Int32.ofInt (0))])), (u114, .inl (D.2.2.2, k115, .inl g116)), (r126, .inr (0, [.ref u127, .int (Int32.ofInt (0)), .int (Int32.ofInt (0)), .int (Int32.ofInt (0))])), (u127, .inl (D.2.2.2, k128, .inl g129))]) [10, 11] [0, 1, 2, 3, 4, 5, 6, 7, 8, 9] ktL_text rfl ⟨(st_has (n := 5175) rfl rfl), (st_has (n := 5176) rfl rfl), (st_has (n := 1018) rfl rfl), Or.inl ⟨rfl, (st_has (n := 5177) rfl rfl)⟩⟩ (st_has (n := 5178) rfl rfl) (by decide +kernel) (Or.inl ⟨10, 1, _, _, _, rfl, rfl⟩) rfl rfl (Nat.le_of_ble_eq_true rfl) (Nat.le_of_ble_eq_true rfl) (by decide) (by omega) (by omega) rfl rfl (by decide) (by decide) (by decide) ⟨rfl, fun q hq => by cases hq⟩ (tt_toS D X q104 q133 (n134) ((((((0 + (k70 : Int)) + (k115 : Int)) + (1 : Int)) + (k128 : Int)) + (1 : Int))) f135 hf135 (by omega)) (fun ws1 v hq => ?_)
        obtain ⟨r136, u137, k138, g139, hg139, hk138, rfl, rfl⟩ := hq
        refine st_st (st' := [.ref r136]) rfl ?_
        refine st_ws (ws' := [(r45, .inr (0, [.ref u46, .int (Int32.ofInt (0)), .int (Int32.ofInt (0)), .int (Int32.ofInt (0))])), (u46, .inl (D.2.2.2, k47, .inl g48)), (r58, .inr (0, [.ref u59, .int (Int32.ofInt (0)), .int (Int32.ofInt (0)), .int (Int32.ofInt (0))])), (u59, .inl (D.2.2.2, k60, .inl g61)), (r68, .inr (0, [.ref u69, .int (Int32.ofInt (0)), .int (Int32.ofInt (0)), .int (Int32.ofInt (0))])), (u69, .inl (D.2.2.2, k70, .inl g71)), (r113, .inr (0, [.ref u114, .int (Int32.ofInt (0)), .int (Int32.ofInt (0)), .int (Int32.ofInt (0))])), (u114, .inl (D.2.2.2, k115, .inl g116)), (r126, .inr (0, [.ref u127, .int (Int32.ofInt (0)), .int (Int32.ofInt (0)), .int (Int32.ofInt (0))])), (u127, .inl (D.2.2.2, k128, .inl g129)), (r136, .inr (0, [.ref u137, .int (Int32.ofInt (0)), .int (Int32.ofInt (0)), .int (Int32.ofInt (0))])), (u137, .inl (D.2.2.2, k138, .inl g139))]) rfl ?_
        refine st_astore (ls' := [(4, .ref r136), (5, .int (Int32.ofInt ((0 + 1)))), (3, .int (Int32.ofInt (z5))), (2, .int (Int32.ofInt (z1))), (0, .ref X.2.2.2.1), (1, .int (Int32.ofInt (k)))]) ktL_text rfl (by decide) rfl ?_
        refine st_iinc (k := 1) (z := ((0 + 1) + 1)) (ls' := [(5, .int (Int32.ofInt (((0 + 1) + 1)))), (4, .ref r136), (3, .int (Int32.ofInt (z5))), (2, .int (Int32.ofInt (z1))), (0, .ref X.2.2.2.1), (1, .int (Int32.ofInt (k)))]) (fz_w_id (by omega) (by omega)) ktL_text rfl rfl (by decide) rfl ?_
        refine st_goto (tgt := 30) ktL_text rfl (by decide) ?_
        refine st_iload 0 ktL_text rfl rfl ?_
        refine st_iload_n 2 ktL_text rfl rfl ?_
        refine st_icmp_ge (tgt := 110) ⟨by omega, by omega⟩ ⟨by omega, by omega⟩ ktL_text rfl (by decide) (fun c140 => ?_) (fun c140 => ?_)
        · refine st_new (ci := 1) tyJ4 [.null, .int (Int32.ofInt (0)), .int (Int32.ofInt (0)), .int (Int32.ofInt (0))] ktL_text rfl rfl tyJ4_ok (st_has (n := 4222) rfl rfl) (st_has (n := 4223) rfl rfl) (st_has (n := 1018) rfl rfl) rfl (by omega) (by omega) (fun q141 => ?_)
          refine st_ws (ws' := [(r45, .inr (0, [.ref u46, .int (Int32.ofInt (0)), .int (Int32.ofInt (0)), .int (Int32.ofInt (0))])), (u46, .inl (D.2.2.2, k47, .inl g48)), (r58, .inr (0, [.ref u59, .int (Int32.ofInt (0)), .int (Int32.ofInt (0)), .int (Int32.ofInt (0))])), (u59, .inl (D.2.2.2, k60, .inl g61)), (r68, .inr (0, [.ref u69, .int (Int32.ofInt (0)), .int (Int32.ofInt (0)), .int (Int32.ofInt (0))])), (u69, .inl (D.2.2.2, k70, .inl g71)), (r113, .inr (0, [.ref u114, .int (Int32.ofInt (0)), .int (Int32.ofInt (0)), .int (Int32.ofInt (0))])), (u114, .inl (D.2.2.2, k115, .inl g116)), (r126, .inr (0, [.ref u127, .int (Int32.ofInt (0)), .int (Int32.ofInt (0)), .int (Int32.ofInt (0))])), (u127, .inl (D.2.2.2, k128, .inl g129)), (r136, .inr (0, [.ref u137, .int (Int32.ofInt (0)), .int (Int32.ofInt (0)), .int (Int32.ofInt (0))])), (u137, .inl (D.2.2.2, k138, .inl g139)), (q141, .inr (1, [.null, .int (Int32.ofInt (0)), .int (Int32.ofInt (0)), .int (Int32.ofInt (0))]))]) rfl ?_
          refine st_dup rfl ktL_text rfl ?_
          refine st_callI (x := q141) (X' := ([], X.2)) (d' := 3) (NC' := 1) (NS' := 16) (M' := mtJ4_init_da8c8) (n := 0) (As := []) (st := [.ref q141]) (wc := [(q141, .inr (1, [.null, .int (Int32.ofInt (0)), .int (Int32.ofInt (0)), .int (Int32.ofInt (0))]))]) (wr := [(r45, .inr (0, [.ref u46, .int (Int32.ofInt (0)), .int (Int32.ofInt (0)), .int (Int32.ofInt (0))])), (u46, .inl (D.2.2.2, k47, .inl g48)), (r58, .inr (0, [.ref u59, .int (Int32.ofInt (0)), .int (Int32.ofInt (0)), .int (Int32.ofInt (0))])), (u59, .inl (D.2.2.2, k60, .inl g61)), (r68, .inr (0, [.ref u69, .int (Int32.ofInt (0)), .int (Int32.ofInt (0)), .int (Int32.ofInt (0))])), (u69, .inl (D.2.2.2, k70, .inl g71)), (r113, .inr (0, [.ref u114, .int (Int32.ofInt (0)), .int (Int32.ofInt (0)), .int (Int32.ofInt (0))])), (u114, .inl (D.2.2.2, k115, .inl g116)), (r126, .inr (0, [.ref u127, .int (Int32.ofInt (0)), .int (Int32.ofInt (0)), .int (Int32.ofInt (0))])), (u127, .inl (D.2.2.2, k128, .inl g129)), (r136, .inr (0, [.ref u137, .int (Int32.ofInt (0)), .int (Int32.ofInt (0)), .int (Int32.ofInt (0))])), (u137, .inl (D.2.2.2, k138, .inl g139))]) [12] [0, 1, 2, 3, 4, 5, 6, 7, 8, 9, 10, 11] ktL_text rfl (st_has (n := 4224) rfl rfl) (st_has (n := 4226) rfl rfl) (st_has (n := 1018) rfl rfl) (st_has (n := 4225) rfl rfl) (by decide +kernel) rfl rfl rfl rfl (Nat.le_of_ble_eq_true rfl) (Nat.le_of_ble_eq_true rfl) (by decide) (by omega) (by omega) rfl rfl (by decide) (by decide) (by decide) ⟨rfl, fun q hq => by cases hq⟩ (tt_sbInit D X q141) (fun ws1 v hq => ?_)
          obtain ⟨rfl, q142, f143, hf143, rfl⟩ := hq
          refine st_st (st' := [.ref q141]) rfl ?_
          refine st_ws (ws' := [(r45, .inr (0, [.ref u46, .int (Int32.ofInt (0)), .int (Int32.ofInt (0)), .int (Int32.ofInt (0))])), (u46, .inl (D.2.2.2, k47, .inl g48)), (r58, .inr (0, [.ref u59, .int (Int32.ofInt (0)), .int (Int32.ofInt (0)), .int (Int32.ofInt (0))])), (u59, .inl (D.2.2.2, k60, .inl g61)), (r68, .inr (0, [.ref u69, .int (Int32.ofInt (0)), .int (Int32.ofInt (0)), .int (Int32.ofInt (0))])), (u69, .inl (D.2.2.2, k70, .inl g71)), (r113, .inr (0, [.ref u114, .int (Int32.ofInt (0)), .int (Int32.ofInt (0)), .int (Int32.ofInt (0))])), (u114, .inl (D.2.2.2, k115, .inl g116)), (r126, .inr (0, [.ref u127, .int (Int32.ofInt (0)), .int (Int32.ofInt (0)), .int (Int32.ofInt (0))])), (u127, .inl (D.2.2.2, k128, .inl g129)), (r136, .inr (0, [.ref u137, .int (Int32.ofInt (0)), .int (Int32.ofInt (0)), .int (Int32.ofInt (0))])), (u137, .inl (D.2.2.2, k138, .inl g139)), (q141, .inr (1, [.ref q142, .int (Int32.ofInt (0)), .int (Int32.ofInt (0)), .int (Int32.ofInt (0))])), (q142, .inl (D.2.2.2, 16, .inl f143))]) rfl ?_
          refine st_aload 1 ktL_text rfl rfl ?_
          refine st_callV (x := q141) (Cn := "java/lang/StringBuilder") (X' := ([(r136, u137, k138)], X.2)) (d' := 5) (NC' := 1) (NS' := 2002) (M' := mtJ4_append_15ec4) (n := 1) (As := [.ref r136]) (st := []) (wc := [(q141, .inr (1, [.ref q142, .int (Int32.ofInt (0)), .int (Int32.ofInt (0)), .int (Int32.ofInt (0))])), (q142, .inl (D.2.2.2, 16, .inl f143))]) (wr := [(r45, .inr (0, [.ref u46, .int (Int32.ofInt (0)), .int (Int32.ofInt (0)), .int (Int32.ofInt (0))])), (u46, .inl (D.2.2.2, k47, .inl g48)), (r58, .inr (0, [.ref u59, .int (Int32.ofInt (0)), .int (Int32.ofInt (0)), .int (Int32.ofInt (0))])), (u59, .inl (D.2.2.2, k60, .inl g61)), (r68, .inr (0, [.ref u69, .int (Int32.ofInt (0)), .int (Int32.ofInt (0)), .int (Int32.ofInt (0))])), (u69, .inl (D.2.2.2, k70, .inl g71)), (r113, .inr (0, [.ref u114, .int (Int32.ofInt (0)), .int (Int32.ofInt (0)), .int (Int32.ofInt (0))])), (u114, .inl (D.2.2.2, k115, .inl g116)), (r126, .inr (0, [.ref u127, .int (Int32.ofInt (0)), .int (Int32.ofInt (0)), .int (Int32.ofInt (0))])), (u127, .inl (D.2.2.2, k128, .inl g129)), (r136, .inr (0, [.ref u137, .int (Int32.ofInt (0)), .int (Int32.ofInt (0)), .int (Int32.ofInt (0))])), (u137, .inl (D.2.2.2, k138, .inl g139))]) [12, 13] [0, 1, 2, 3, 4, 5, 6, 7, 8, 9, 10, 11] ktL_text rfl ⟨(st_has (n := 5014) rfl rfl), (st_has (n := 5015) rfl rfl), (st_has (n := 1018) rfl rfl), Or.inl ⟨rfl, (st_has (n := 5016) rfl rfl)⟩⟩ (st_has (n := 5017) rfl rfl) (by decide +kernel) (Or.inl ⟨12, 1, _, _, _, rfl, rfl⟩) rfl rfl (Nat.le_of_ble_eq_true rfl) (Nat.le_of_ble_eq_true rfl) (by decide) (by omega) (by omega) rfl rfl (by decide) (by decide) (by decide) ⟨rfl, fun q hq => (by simp only [List.mem_cons, List.not_mem_nil, or_false] at hq; subst hq; exact Or.inr ⟨10, 11, _, _, _, rfl, rfl, hg139, (show (k138 : Nat) < 100000 by omega), by decide, by decide⟩)⟩ (tt_app5S D X q141 q142 (16) (0) r136 u137 (k138) f143 (by omega) hf143 (by omega)) (fun ws1 v hq => ?_)
          obtain ⟨q144, n145, f146, hf146, hn145, rfl, rfl⟩ := hq
          refine st_st (st' := [.ref q141]) rfl ?_
          refine st_ws (ws' := [(r45, .inr (0, [.ref u46, .int (Int32.ofInt (0)), .int (Int32.ofInt (0)), .int (Int32.ofInt (0))])), (u46, .inl (D.2.2.2, k47, .inl g48)), (r58, .inr (0, [.ref u59, .int (Int32.ofInt (0)), .int (Int32.ofInt (0)), .int (Int32.ofInt (0))])), (u59, .inl (D.2.2.2, k60, .inl g61)), (r68, .inr (0, [.ref u69, .int (Int32.ofInt (0)), .int (Int32.ofInt (0)), .int (Int32.ofInt (0))])), (u69, .inl (D.2.2.2, k70, .inl g71)), (r113, .inr (0, [.ref u114, .int (Int32.ofInt (0)), .int (Int32.ofInt (0)), .int (Int32.ofInt (0))])), (u114, .inl (D.2.2.2, k115, .inl g116)), (r126, .inr (0, [.ref u127, .int (Int32.ofInt (0)), .int (Int32.ofInt (0)), .int (Int32.ofInt (0))])), (u127, .inl (D.2.2.2, k128, .inl g129)), (r136, .inr (0, [.ref u137, .int (Int32.ofInt (0)), .int (Int32.ofInt (0)), .int (Int32.ofInt (0))])), (u137, .inl (D.2.2.2, k138, .inl g139)), (q141, .inr (1, [.ref q144, .int (Int32.ofInt (0)), .int (Int32.ofInt (0)), .int (Int32.ofInt ((0 + (k138 : Int))))])), (q144, .inl (D.2.2.2, n145, .inl f146))]) rfl ?_
          refine st_iload_n 3 ktL_text rfl rfl ?_
          refine st_bipush ⟨by decide, by decide⟩ ktL_text rfl ?_
          refine st_iand ktL_text rfl (fun z147 ez147 => ?_)
          have hz147 : 0 ≤ z147 ∧ z147 ≤ 64 := by rw [ez147]; exact st_and_m (by decide) (by decide)
          refine st_if_ne (tgt := 134) ⟨by omega, by omega⟩ ktL_text rfl (by decide) (fun c148 => ?_) (fun c148 => ?_)
          · refine st_aload_n 4 ktL_text rfl rfl ?_
            refine st_iload_n 5 ktL_text rfl rfl ?_
            refine st_iconst ktL_text rfl ?_
            refine st_iadd (z := (k + 1)) (fz_w_id (by omega) (by omega)) ktL_text rfl ?_
            refine st_callS (X' := ([], X.2)) (d' := 1) (NC' := 0) (NS' := 0) (M' := mtL_at) (n := 2) (As := [.ref X.2.2.2.1, .int (Int32.ofInt ((k + 1)))]) (st := [.ref q141]) (wc := []) (wr := [(r45, .inr (0, [.ref u46, .int (Int32.ofInt (0)), .int (Int32.ofInt (0)), .int (Int32.ofInt (0))])), (u46, .inl (D.2.2.2, k47, .inl g48)), (r58, .inr (0, [.ref u59, .int (Int32.ofInt (0)), .int (Int32.ofInt (0)), .int (Int32.ofInt (0))])), (u59, .inl (D.2.2.2, k60, .inl g61)), (r68, .inr (0, [.ref u69, .int (Int32.ofInt (0)), .int (Int32.ofInt (0)), .int (Int32.ofInt (0))])), (u69, .inl (D.2.2.2, k70, .inl g71)), (r113, .inr (0, [.ref u114, .int (Int32.ofInt (0)), .int (Int32.ofInt (0)), .int (Int32.ofInt (0))])), (u114, .inl (D.2.2.2, k115, .inl g116)), (r126, .inr (0, [.ref u127, .int (Int32.ofInt (0)), .int (Int32.ofInt (0)), .int (Int32.ofInt (0))])), (u127, .inl (D.2.2.2, k128, .inl g129)), (r136, .inr (0, [.ref u137, .int (Int32.ofInt (0)), .int (Int32.ofInt (0)), .int (Int32.ofInt (0))])), (u137, .inl (D.2.2.2, k138, .inl g139)), (q141, .inr (1, [.ref q144, .int (Int32.ofInt (0)), .int (Int32.ofInt (0)), .int (Int32.ofInt ((0 + (k138 : Int))))])), (q144, .inl (D.2.2.2, n145, .inl f146))]) [] [0, 1, 2, 3, 4, 5, 6, 7, 8, 9, 10, 11, 12, 13] ktL_text rfl (st_has (n := 4212) rfl rfl) (st_has (n := 4214) rfl rfl) (st_has (n := 1000) rfl rfl) (st_has (n := 4213) rfl rfl) (by decide +kernel) rfl rfl (Nat.le_of_ble_eq_true rfl) (Nat.le_of_ble_eq_true rfl) (by decide) (by omega) (by omega) rfl rfl (by decide) (by decide) (by decide) ⟨rfl, fun q hq => by cases hq⟩ (tt_at D X ((k + 1)) (by omega) hL) (fun ws1 v hq => ?_)
            obtain ⟨z149, hz149, rfl, rfl⟩ := hq
            refine st_st (st' := [.int (Int32.ofInt (z149)), .ref q141]) rfl ?_
            refine st_ws (ws' := [(r45, .inr (0, [.ref u46, .int (Int32.ofInt (0)), .int (Int32.ofInt (0)), .int (Int32.ofInt (0))])), (u46, .inl (D.2.2.2, k47, .inl g48)), (r58, .inr (0, [.ref u59, .int (Int32.ofInt (0)), .int (Int32.ofInt (0)), .int (Int32.ofInt (0))])), (u59, .inl (D.2.2.2, k60, .inl g61)), (r68, .inr (0, [.ref u69, .int (Int32.ofInt (0)), .int (Int32.ofInt (0)), .int (Int32.ofInt (0))])), (u69, .inl (D.2.2.2, k70, .inl g71)), (r113, .inr (0, [.ref u114, .int (Int32.ofInt (0)), .int (Int32.ofInt (0)), .int (Int32.ofInt (0))])), (u114, .inl (D.2.2.2, k115, .inl g116)), (r126, .inr (0, [.ref u127, .int (Int32.ofInt (0)), .int (Int32.ofInt (0)), .int (Int32.ofInt (0))])), (u127, .inl (D.2.2.2, k128, .inl g129)), (r136, .inr (0, [.ref u137, .int (Int32.ofInt (0)), .int (Int32.ofInt (0)), .int (Int32.ofInt (0))])), (u137, .inl (D.2.2.2, k138, .inl g139)), (q141, .inr (1, [.ref q144, .int (Int32.ofInt (0)), .int (Int32.ofInt (0)), .int (Int32.ofInt ((0 + (k138 : Int))))])), (q144, .inl (D.2.2.2, n145, .inl f146))]) rfl ?_
            refine st_bipush ⟨by decide, by decide⟩ ktL_text rfl ?_
            refine st_ishr ktL_text rfl (fun z150 hz150 => ?_)
            refine st_iload_n 3 ktL_text rfl rfl ?_
            refine st_bipush ⟨by decide, by decide⟩ ktL_text rfl ?_
            refine st_ishr ktL_text rfl (fun z151 hz151 => ?_)
            refine st_callS (X' := (kss ca cv, X.2)) (d' := 8) (NC' := 40) (NS' := 40000) (M' := mtL_says) (n := 2) (As := [.int (Int32.ofInt (z150)), .int (Int32.ofInt (z151))]) (st := [.ref q141]) (wc := []) (wr := [(r45, .inr (0, [.ref u46, .int (Int32.ofInt (0)), .int (Int32.ofInt (0)), .int (Int32.ofInt (0))])), (u46, .inl (D.2.2.2, k47, .inl g48)), (r58, .inr (0, [.ref u59, .int (Int32.ofInt (0)), .int (Int32.ofInt (0)), .int (Int32.ofInt (0))])), (u59, .inl (D.2.2.2, k60, .inl g61)), (r68, .inr (0, [.ref u69, .int (Int32.ofInt (0)), .int (Int32.ofInt (0)), .int (Int32.ofInt (0))])), (u69, .inl (D.2.2.2, k70, .inl g71)), (r113, .inr (0, [.ref u114, .int (Int32.ofInt (0)), .int (Int32.ofInt (0)), .int (Int32.ofInt (0))])), (u114, .inl (D.2.2.2, k115, .inl g116)), (r126, .inr (0, [.ref u127, .int (Int32.ofInt (0)), .int (Int32.ofInt (0)), .int (Int32.ofInt (0))])), (u127, .inl (D.2.2.2, k128, .inl g129)), (r136, .inr (0, [.ref u137, .int (Int32.ofInt (0)), .int (Int32.ofInt (0)), .int (Int32.ofInt (0))])), (u137, .inl (D.2.2.2, k138, .inl g139)), (q141, .inr (1, [.ref q144, .int (Int32.ofInt (0)), .int (Int32.ofInt (0)), .int (Int32.ofInt ((0 + (k138 : Int))))])), (q144, .inl (D.2.2.2, n145, .inl f146))]) [] [0, 1, 2, 3, 4, 5, 6, 7, 8, 9, 10, 11, 12, 13] ktL_text rfl (st_has (n := 5128) rfl rfl) (st_has (n := 5130) rfl rfl) (st_has (n := 1000) rfl rfl) (st_has (n := 5129) rfl rfl) (by decide +kernel) rfl rfl (Nat.le_of_ble_eq_true rfl) (Nat.le_of_ble_eq_true rfl) (by decide) (by omega) (by omega) rfl rfl (by decide) (by decide) (by decide) ⟨rfl, fun q hq => Or.inl hq⟩ (tt_says D X ca cv hX (z150) (z151) ⟨by omega, by omega⟩ ⟨by omega, by omega⟩) (fun ws1 v hq => ?_)
            obtain ⟨r152, u153, k154, g155, hg155, hk154, rfl, rfl⟩ := hq
            refine st_st (st' := [.ref r152, .ref q141]) rfl ?_
            refine st_ws (ws' := [(r45, .inr (0, [.ref u46, .int (Int32.ofInt (0)), .int (Int32.ofInt (0)), .int (Int32.ofInt (0))])), (u46, .inl (D.2.2.2, k47, .inl g48)), (r58, .inr (0, [.ref u59, .int (Int32.ofInt (0)), .int (Int32.ofInt (0)), .int (Int32.ofInt (0))])), (u59, .inl (D.2.2.2, k60, .inl g61)), (r68, .inr (0, [.ref u69, .int (Int32.ofInt (0)), .int (Int32.ofInt (0)), .int (Int32.ofInt (0))])), (u69, .inl (D.2.2.2, k70, .inl g71)), (r113, .inr (0, [.ref u114, .int (Int32.ofInt (0)), .int (Int32.ofInt (0)), .int (Int32.ofInt (0))])), (u114, .inl (D.2.2.2, k115, .inl g116)), (r126, .inr (0, [.ref u127, .int (Int32.ofInt (0)), .int (Int32.ofInt (0)), .int (Int32.ofInt (0))])), (u127, .inl (D.2.2.2, k128, .inl g129)), (r136, .inr (0, [.ref u137, .int (Int32.ofInt (0)), .int (Int32.ofInt (0)), .int (Int32.ofInt (0))])), (u137, .inl (D.2.2.2, k138, .inl g139)), (q141, .inr (1, [.ref q144, .int (Int32.ofInt (0)), .int (Int32.ofInt (0)), .int (Int32.ofInt ((0 + (k138 : Int))))])), (q144, .inl (D.2.2.2, n145, .inl f146)), (r152, .inr (0, [.ref u153, .int (Int32.ofInt (0)), .int (Int32.ofInt (0)), .int (Int32.ofInt (0))])), (u153, .inl (D.2.2.2, k154, .inl g155))]) rfl ?_
            refine st_callV (x := q141) (Cn := "java/lang/StringBuilder") (X' := ([(r152, u153, k154)], X.2)) (d' := 5) (NC' := 1) (NS' := 2002) (M' := mtJ4_append_15ec4) (n := 1) (As := [.ref r152]) (st := []) (wc := [(q141, .inr (1, [.ref q144, .int (Int32.ofInt (0)), .int (Int32.ofInt (0)), .int (Int32.ofInt ((0 + (k138 : Int))))])), (q144, .inl (D.2.2.2, n145, .inl f146))]) (wr := [(r45, .inr (0, [.ref u46, .int (Int32.ofInt (0)), .int (Int32.ofInt (0)), .int (Int32.ofInt (0))])), (u46, .inl (D.2.2.2, k47, .inl g48)), (r58, .inr (0, [.ref u59, .int (Int32.ofInt (0)), .int (Int32.ofInt (0)), .int (Int32.ofInt (0))])), (u59, .inl (D.2.2.2, k60, .inl g61)), (r68, .inr (0, [.ref u69, .int (Int32.ofInt (0)), .int (Int32.ofInt (0)), .int (Int32.ofInt (0))])), (u69, .inl (D.2.2.2, k70, .inl g71)), (r113, .inr (0, [.ref u114, .int (Int32.ofInt (0)), .int (Int32.ofInt (0)), .int (Int32.ofInt (0))])), (u114, .inl (D.2.2.2, k115, .inl g116)), (r126, .inr (0, [.ref u127, .int (Int32.ofInt (0)), .int (Int32.ofInt (0)), .int (Int32.ofInt (0))])), (u127, .inl (D.2.2.2, k128, .inl g129)), (r136, .inr (0, [.ref u137, .int (Int32.ofInt (0)), .int (Int32.ofInt (0)), .int (Int32.ofInt (0))])), (u137, .inl (D.2.2.2, k138, .inl g139)), (r152, .inr (0, [.ref u153, .int (Int32.ofInt (0)), .int (Int32.ofInt (0)), .int (Int32.ofInt (0))])), (u153, .inl (D.2.2.2, k154, .inl g155))]) [12, 13] [0, 1, 2, 3, 4, 5, 6, 7, 8, 9, 10, 11, 14, 15] ktL_text rfl ⟨(st_has (n := 5014) rfl rfl), (st_has (n := 5015) rfl rfl), (st_has (n := 1018) rfl rfl), Or.inl ⟨rfl, (st_has (n := 5016) rfl rfl)⟩⟩ (st_has (n := 5017) rfl rfl) (by decide +kernel) (Or.inl ⟨12, 1, _, _, _, rfl, rfl⟩) rfl rfl (Nat.le_of_ble_eq_true rfl) (Nat.le_of_ble_eq_true rfl) (by decide) (by omega) (by omega) rfl rfl (by decide) (by decide) (by decide) ⟨rfl, fun q hq => (by simp only [List.mem_cons, List.not_mem_nil, or_false] at hq; subst hq; exact Or.inr ⟨14, 15, _, _, _, rfl, rfl, hg155, (show (k154 : Nat) < 100000 by omega), by decide, by decide⟩)⟩ (tt_app5S D X q141 q144 (n145) ((0 + (k138 : Int))) r152 u153 (k154) f146 (by omega) hf146 (by omega)) (fun ws1 v hq => ?_)
            obtain ⟨q156, n157, f158, hf158, hn157, rfl, rfl⟩ := hq
            refine st_st (st' := [.ref q141]) rfl ?_
            refine st_ws (ws' := [(r45, .inr (0, [.ref u46, .int (Int32.ofInt (0)), .int (Int32.ofInt (0)), .int (Int32.ofInt (0))])), (u46, .inl (D.2.2.2, k47, .inl g48)), (r58, .inr (0, [.ref u59, .int (Int32.ofInt (0)), .int (Int32.ofInt (0)), .int (Int32.ofInt (0))])), (u59, .inl (D.2.2.2, k60, .inl g61)), (r68, .inr (0, [.ref u69, .int (Int32.ofInt (0)), .int (Int32.ofInt (0)), .int (Int32.ofInt (0))])), (u69, .inl (D.2.2.2, k70, .inl g71)), (r113, .inr (0, [.ref u114, .int (Int32.ofInt (0)), .int (Int32.ofInt (0)), .int (Int32.ofInt (0))])), (u114, .inl (D.2.2.2, k115, .inl g116)), (r126, .inr (0, [.ref u127, .int (Int32.ofInt (0)), .int (Int32.ofInt (0)), .int (Int32.ofInt (0))])), (u127, .inl (D.2.2.2, k128, .inl g129)), (r136, .inr (0, [.ref u137, .int (Int32.ofInt (0)), .int (Int32.ofInt (0)), .int (Int32.ofInt (0))])), (u137, .inl (D.2.2.2, k138, .inl g139)), (r152, .inr (0, [.ref u153, .int (Int32.ofInt (0)), .int (Int32.ofInt (0)), .int (Int32.ofInt (0))])), (u153, .inl (D.2.2.2, k154, .inl g155)), (q141, .inr (1, [.ref q156, .int (Int32.ofInt (0)), .int (Int32.ofInt (0)), .int (Int32.ofInt (((0 + (k138 : Int)) + (k154 : Int))))])), (q156, .inl (D.2.2.2, n157, .inl f158))]) rfl ?_
            refine st_callV (x := q141) (Cn := "java/lang/StringBuilder") (X' := ([], X.2)) (d' := 6) (NC' := 2) (NS' := 2006) (M' := mtJ4_toString_0e30d) (n := 0) (As := []) (st := []) (wc := [(q141, .inr (1, [.ref q156, .int (Int32.ofInt (0)), .int (Int32.ofInt (0)), .int (Int32.ofInt (((0 + (k138 : Int)) + (k154 : Int))))])), (q156, .inl (D.2.2.2, n157, .inl f158))]) (wr := [(r45, .inr (0, [.ref u46, .int (Int32.ofInt (0)), .int (Int32.ofInt (0)), .int (Int32.ofInt (0))])), (u46, .inl (D.2.2.2, k47, .inl g48)), (r58, .inr (0, [.ref u59, .int (Int32.ofInt (0)), .int (Int32.ofInt (0)), .int (Int32.ofInt (0))])), (u59, .inl (D.2.2.2, k60, .inl g61)), (r68, .inr (0, [.ref u69, .int (Int32.ofInt (0)), .int (Int32.ofInt (0)), .int (Int32.ofInt (0))])), (u69, .inl (D.2.2.2, k70, .inl g71)), (r113, .inr (0, [.ref u114, .int (Int32.ofInt (0)), .int (Int32.ofInt (0)), .int (Int32.ofInt (0))])), (u114, .inl (D.2.2.2, k115, .inl g116)), (r126, .inr (0, [.ref u127, .int (Int32.ofInt (0)), .int (Int32.ofInt (0)), .int (Int32.ofInt (0))])), (u127, .inl (D.2.2.2, k128, .inl g129)), (r136, .inr (0, [.ref u137, .int (Int32.ofInt (0)), .int (Int32.ofInt (0)), .int (Int32.ofInt (0))])), (u137, .inl (D.2.2.2, k138, .inl g139)), (r152, .inr (0, [.ref u153, .int (Int32.ofInt (0)), .int (Int32.ofInt (0)), .int (Int32.ofInt (0))])), (u153, .inl (D.2.2.2, k154, .inl g155))]) [14, 15] [0, 1, 2, 3, 4, 5, 6, 7, 8, 9, 10, 11, 12, 13] ktL_text rfl ⟨(st_has (n := 5175) rfl rfl), (st_has (n := 5176) rfl rfl), (st_has (n := 1018) rfl rfl), Or.inl ⟨rfl, (st_has (n := 5177) rfl rfl)⟩⟩ (st_has (n := 5178) rfl rfl) (by decide +kernel) (Or.inl ⟨14, 1, _, _, _, rfl, rfl⟩) rfl rfl (Nat.le_of_ble_eq_true rfl) (Nat.le_of_ble_eq_true rfl) (by decide) (by omega) (by omega) rfl rfl (by decide) (by decide) (by decide) ⟨rfl, fun q hq => by cases hq⟩ (tt_toS D X q141 q156 (n157) (((0 + (k138 : Int)) + (k154 : Int))) f158 hf158 (by omega)) (fun ws1 v hq => ?_)
            obtain ⟨r159, u160, k161, g162, hg162, hk161, rfl, rfl⟩ := hq
            refine st_st (st' := [.ref r159]) rfl ?_
            refine st_ws (ws' := [(r45, .inr (0, [.ref u46, .int (Int32.ofInt (0)), .int (Int32.ofInt (0)), .int (Int32.ofInt (0))])), (u46, .inl (D.2.2.2, k47, .inl g48)), (r58, .inr (0, [.ref u59, .int (Int32.ofInt (0)), .int (Int32.ofInt (0)), .int (Int32.ofInt (0))])), (u59, .inl (D.2.2.2, k60, .inl g61)), (r68, .inr (0, [.ref u69, .int (Int32.ofInt (0)), .int (Int32.ofInt (0)), .int (Int32.ofInt (0))])), (u69, .inl (D.2.2.2, k70, .inl g71)), (r113, .inr (0, [.ref u114, .int (Int32.ofInt (0)), .int (Int32.ofInt (0)), .int (Int32.ofInt (0))])), (u114, .inl (D.2.2.2, k115, .inl g116)), (r126, .inr (0, [.ref u127, .int (Int32.ofInt (0)), .int (Int32.ofInt (0)), .int (Int32.ofInt (0))])), (u127, .inl (D.2.2.2, k128, .inl g129)), (r136, .inr (0, [.ref u137, .int (Int32.ofInt (0)), .int (Int32.ofInt (0)), .int (Int32.ofInt (0))])), (u137, .inl (D.2.2.2, k138, .inl g139)), (r152, .inr (0, [.ref u153, .int (Int32.ofInt (0)), .int (Int32.ofInt (0)), .int (Int32.ofInt (0))])), (u153, .inl (D.2.2.2, k154, .inl g155)), (r159, .inr (0, [.ref u160, .int (Int32.ofInt (0)), .int (Int32.ofInt (0)), .int (Int32.ofInt (0))])), (u160, .inl (D.2.2.2, k161, .inl g162))]) rfl ?_
            refine st_astore (ls' := [(4, .ref r159), (5, .int (Int32.ofInt (((0 + 1) + 1)))), (3, .int (Int32.ofInt (z5))), (2, .int (Int32.ofInt (z1))), (0, .ref X.2.2.2.1), (1, .int (Int32.ofInt (k)))]) ktL_text rfl (by decide) rfl ?_
            refine st_aload 0 ktL_text rfl rfl ?_
            refine st_callV (x := r159) (Cn := "java/lang/String") (X' := ([(r159, u160, k161)], X.2)) (d' := 2) (NC' := 0) (NS' := 0) (M' := mtJ0_length_8abf5) (n := 0) (As := []) (st := []) (wc := []) (wr := [(r45, .inr (0, [.ref u46, .int (Int32.ofInt (0)), .int (Int32.ofInt (0)), .int (Int32.ofInt (0))])), (u46, .inl (D.2.2.2, k47, .inl g48)), (r58, .inr (0, [.ref u59, .int (Int32.ofInt (0)), .int (Int32.ofInt (0)), .int (Int32.ofInt (0))])), (u59, .inl (D.2.2.2, k60, .inl g61)), (r68, .inr (0, [.ref u69, .int (Int32.ofInt (0)), .int (Int32.ofInt (0)), .int (Int32.ofInt (0))])), (u69, .inl (D.2.2.2, k70, .inl g71)), (r113, .inr (0, [.ref u114, .int (Int32.ofInt (0)), .int (Int32.ofInt (0)), .int (Int32.ofInt (0))])), (u114, .inl (D.2.2.2, k115, .inl g116)), (r126, .inr (0, [.ref u127, .int (Int32.ofInt (0)), .int (Int32.ofInt (0)), .int (Int32.ofInt (0))])), (u127, .inl (D.2.2.2, k128, .inl g129)), (r136, .inr (0, [.ref u137, .int (Int32.ofInt (0)), .int (Int32.ofInt (0)), .int (Int32.ofInt (0))])), (u137, .inl (D.2.2.2, k138, .inl g139)), (r152, .inr (0, [.ref u153, .int (Int32.ofInt (0)), .int (Int32.ofInt (0)), .int (Int32.ofInt (0))])), (u153, .inl (D.2.2.2, k154, .inl g155)), (r159, .inr (0, [.ref u160, .int (Int32.ofInt (0)), .int (Int32.ofInt (0)), .int (Int32.ofInt (0))])), (u160, .inl (D.2.2.2, k161, .inl g162))]) [] [0, 1, 2, 3, 4, 5, 6, 7, 8, 9, 10, 11, 12, 13, 14, 15] ktL_text rfl ⟨(st_has (n := 6030) rfl rfl), (st_has (n := 5086) rfl rfl), (st_has (n := 1019) rfl rfl), Or.inl ⟨rfl, (st_has (n := 5087) rfl rfl)⟩⟩ (st_has (n := 5088) rfl rfl) (by decide +kernel) (Or.inl ⟨14, 0, _, _, _, rfl, rfl⟩) rfl rfl (Nat.le_of_ble_eq_true rfl) (Nat.le_of_ble_eq_true rfl) (by decide) (by omega) (by omega) rfl rfl (by decide) (by decide) (by decide) ⟨rfl, fun q hq => (by simp only [List.mem_cons, List.not_mem_nil, or_false] at hq; subst hq; exact Or.inr ⟨14, 15, _, _, _, rfl, rfl, hg162, (show (k161 : Nat) < 100000 by omega), by decide, by decide⟩)⟩ (tt_strLen D X r159 u160 (k161)) (fun ws1 v hq => ?_)
            obtain ⟨rfl, rfl⟩ := hq
            refine st_st (st' := [.int (Int32.ofInt ((k161 : Int)))]) rfl ?_
            refine st_ws (ws' := [(r45, .inr (0, [.ref u46, .int (Int32.ofInt (0)), .int (Int32.ofInt (0)), .int (Int32.ofInt (0))])), (u46, .inl (D.2.2.2, k47, .inl g48)), (r58, .inr (0, [.ref u59, .int (Int32.ofInt (0)), .int (Int32.ofInt (0)), .int (Int32.ofInt (0))])), (u59, .inl (D.2.2.2, k60, .inl g61)), (r68, .inr (0, [.ref u69, .int (Int32.ofInt (0)), .int (Int32.ofInt (0)), .int (Int32.ofInt (0))])), (u69, .inl (D.2.2.2, k70, .inl g71)), (r113, .inr (0, [.ref u114, .int (Int32.ofInt (0)), .int (Int32.ofInt (0)), .int (Int32.ofInt (0))])), (u114, .inl (D.2.2.2, k115, .inl g116)), (r126, .inr (0, [.ref u127, .int (Int32.ofInt (0)), .int (Int32.ofInt (0)), .int (Int32.ofInt (0))])), (u127, .inl (D.2.2.2, k128, .inl g129)), (r136, .inr (0, [.ref u137, .int (Int32.ofInt (0)), .int (Int32.ofInt (0)), .int (Int32.ofInt (0))])), (u137, .inl (D.2.2.2, k138, .inl g139)), (r152, .inr (0, [.ref u153, .int (Int32.ofInt (0)), .int (Int32.ofInt (0)), .int (Int32.ofInt (0))])), (u153, .inl (D.2.2.2, k154, .inl g155)), (r159, .inr (0, [.ref u160, .int (Int32.ofInt (0)), .int (Int32.ofInt (0)), .int (Int32.ofInt (0))])), (u160, .inl (D.2.2.2, k161, .inl g162))]) rfl ?_
            refine st_bipush ⟨by decide, by decide⟩ ktL_text rfl ?_
            refine st_icmp_le (tgt := 174) ⟨by omega, by omega⟩ ⟨by omega, by omega⟩ ktL_text rfl (by decide) (fun c163 => ?_) (fun c163 => ?_)
            · refine st_aload 0 ktL_text rfl rfl ?_
              refine st_sub (ws' := [(r159, .inr (0, [.ref u160, .int (Int32.ofInt (0)), .int (Int32.ofInt (0)), .int (Int32.ofInt (0))])), (u160, .inl (D.2.2.2, k161, .inl g162))]) [14, 15] rfl (by decide) ?_
              exact st_areturn (ty := (.object "java/lang/String")) ktL_text rfl rfl (Or.inl ⟨_, rfl⟩) (by omega) (by omega) (Or.inr ⟨_, _, _, _, hg162, by omega, rfl, rfl⟩)
            · refine st_ldcS (tx := "m=1?7*w-a;w>5?50-a;9") (q := (ca 15)) rfl (by show _ ∈ X.2.1; rw [hX]; simp [kl]) ktL_text rfl ?_
              refine st_goto (tgt := 176) ktL_text rfl (by decide) ?_
              refine st_sub (ws' := []) [] rfl (by decide) ?_
              exact st_areturn (ty := (.object "java/lang/String")) ktL_text rfl rfl (Or.inl ⟨_, rfl⟩) (by omega) (by omega) (Or.inl ⟨_, rfl, by decide, rfl⟩)
          · refine st_ldcS (tx := "9*w-a/5-d") (q := (ca 14)) rfl (by show _ ∈ X.2.1; rw [hX]; simp [kl]) ktL_text rfl ?_
            refine st_goto (tgt := 151) ktL_text rfl (by decide) ?_
            refine st_callV (x := q141) (Cn := "java/lang/StringBuilder") (X' := ([((ca 14), (cv 14), 9)], X.2)) (d' := 5) (NC' := 1) (NS' := 2002) (M' := mtJ4_append_15ec4) (n := 1) (As := [.ref (ca 14)]) (st := []) (wc := [(q141, .inr (1, [.ref q144, .int (Int32.ofInt (0)), .int (Int32.ofInt (0)), .int (Int32.ofInt ((0 + (k138 : Int))))])), (q144, .inl (D.2.2.2, n145, .inl f146))]) (wr := [(r45, .inr (0, [.ref u46, .int (Int32.ofInt (0)), .int (Int32.ofInt (0)), .int (Int32.ofInt (0))])), (u46, .inl (D.2.2.2, k47, .inl g48)), (r58, .inr (0, [.ref u59, .int (Int32.ofInt (0)), .int (Int32.ofInt (0)), .int (Int32.ofInt (0))])), (u59, .inl (D.2.2.2, k60, .inl g61)), (r68, .inr (0, [.ref u69, .int (Int32.ofInt (0)), .int (Int32.ofInt (0)), .int (Int32.ofInt (0))])), (u69, .inl (D.2.2.2, k70, .inl g71)), (r113, .inr (0, [.ref u114, .int (Int32.ofInt (0)), .int (Int32.ofInt (0)), .int (Int32.ofInt (0))])), (u114, .inl (D.2.2.2, k115, .inl g116)), (r126, .inr (0, [.ref u127, .int (Int32.ofInt (0)), .int (Int32.ofInt (0)), .int (Int32.ofInt (0))])), (u127, .inl (D.2.2.2, k128, .inl g129)), (r136, .inr (0, [.ref u137, .int (Int32.ofInt (0)), .int (Int32.ofInt (0)), .int (Int32.ofInt (0))])), (u137, .inl (D.2.2.2, k138, .inl g139))]) [12, 13] [0, 1, 2, 3, 4, 5, 6, 7, 8, 9, 10, 11] ktL_text rfl ⟨(st_has (n := 5014) rfl rfl), (st_has (n := 5015) rfl rfl), (st_has (n := 1018) rfl rfl), Or.inl ⟨rfl, (st_has (n := 5016) rfl rfl)⟩⟩ (st_has (n := 5017) rfl rfl) (by decide +kernel) (Or.inl ⟨12, 1, _, _, _, rfl, rfl⟩) rfl rfl (Nat.le_of_ble_eq_true rfl) (Nat.le_of_ble_eq_true rfl) (by decide) (by omega) (by omega) rfl rfl (by decide) (by decide) (by decide) ⟨rfl, fun q hq => (by simp only [List.mem_cons, List.not_mem_nil, or_false] at hq; subst hq; exact Or.inl (by simp [kss]))⟩ (tt_app5S D X q141 q144 (n145) ((0 + (k138 : Int))) (ca 14) (cv 14) (9) f146 (by omega) hf146 (by omega)) (fun ws1 v hq => ?_)
            obtain ⟨q164, n165, f166, hf166, hn165, rfl, rfl⟩ := hq
            refine st_st (st' := [.ref q141]) rfl ?_
            refine st_ws (ws' := [(r45, .inr (0, [.ref u46, .int (Int32.ofInt (0)), .int (Int32.ofInt (0)), .int (Int32.ofInt (0))])), (u46, .inl (D.2.2.2, k47, .inl g48)), (r58, .inr (0, [.ref u59, .int (Int32.ofInt (0)), .int (Int32.ofInt (0)), .int (Int32.ofInt (0))])), (u59, .inl (D.2.2.2, k60, .inl g61)), (r68, .inr (0, [.ref u69, .int (Int32.ofInt (0)), .int (Int32.ofInt (0)), .int (Int32.ofInt (0))])), (u69, .inl (D.2.2.2, k70, .inl g71)), (r113, .inr (0, [.ref u114, .int (Int32.ofInt (0)), .int (Int32.ofInt (0)), .int (Int32.ofInt (0))])), (u114, .inl (D.2.2.2, k115, .inl g116)), (r126, .inr (0, [.ref u127, .int (Int32.ofInt (0)), .int (Int32.ofInt (0)), .int (Int32.ofInt (0))])), (u127, .inl (D.2.2.2, k128, .inl g129)), (r136, .inr (0, [.ref u137, .int (Int32.ofInt (0)), .int (Int32.ofInt (0)), .int (Int32.ofInt (0))])), (u137, .inl (D.2.2.2, k138, .inl g139)), (q141, .inr (1, [.ref q164, .int (Int32.ofInt (0)), .int (Int32.ofInt (0)), .int (Int32.ofInt (((0 + (k138 : Int)) + (9 : Int))))])), (q164, .inl (D.2.2.2, n165, .inl f166))]) rfl ?_
            refine st_callV (x := q141) (Cn := "java/lang/StringBuilder") (X' := ([], X.2)) (d' := 6) (NC' := 2) (NS' := 2006) (M' := mtJ4_toString_0e30d) (n := 0) (As := []) (st := []) (wc := [(q141, .inr (1, [.ref q164, .int (Int32.ofInt (0)), .int (Int32.ofInt (0)), .int (Int32.ofInt (((0 + (k138 : Int)) + (9 : Int))))])), (q164, .inl (D.2.2.2, n165, .inl f166))]) (wr := [(r45, .inr (0, [.ref u46, .int (Int32.ofInt (0)), .int (Int32.ofInt (0)), .int (Int32.ofInt (0))])), (u46, .inl (D.2.2.2, k47, .inl g48)), (r58, .inr (0, [.ref u59, .int (Int32.ofInt (0)), .int (Int32.ofInt (0)), .int (Int32.ofInt (0))])), (u59, .inl (D.2.2.2, k60, .inl g61)), (r68, .inr (0, [.ref u69, .int (Int32.ofInt (0)), .int (Int32.ofInt (0)), .int (Int32.ofInt (0))])), (u69, .inl (D.2.2.2, k70, .inl g71)), (r113, .inr (0, [.ref u114, .int (Int32.ofInt (0)), .int (Int32.ofInt (0)), .int (Int32.ofInt (0))])), (u114, .inl (D.2.2.2, k115, .inl g116)), (r126, .inr (0, [.ref u127, .int (Int32.ofInt (0)), .int (Int32.ofInt (0)), .int (Int32.ofInt (0))])), (u127, .inl (D.2.2.2, k128, .inl g129)), (r136, .inr (0, [.ref u137, .int (Int32.ofInt (0)), .int (Int32.ofInt (0)), .int (Int32.ofInt (0))])), (u137, .inl (D.2.2.2, k138, .inl g139))]) [12, 13] [0, 1, 2, 3, 4, 5, 6, 7, 8, 9, 10, 11] ktL_text rfl ⟨(st_has (n := 5175) rfl rfl), (st_has (n := 5176) rfl rfl), (st_has (n := 1018) rfl rfl), Or.inl ⟨rfl, (st_has (n := 5177) rfl rfl)⟩⟩ (st_has (n := 5178) rfl rfl) (by decide +kernel) (Or.inl ⟨12, 1, _, _, _, rfl, rfl⟩) rfl rfl (Nat.le_of_ble_eq_true rfl) (Nat.le_of_ble_eq_true rfl) (by decide) (by omega) (by omega) rfl rfl (by decide) (by decide) (by decide) ⟨rfl, fun q hq => by cases hq⟩ (tt_toS D X q141 q164 (n165) (((0 + (k138 : Int)) + (9 : Int))) f166 hf166 (by omega)) (fun ws1 v hq => ?_)
            obtain ⟨r167, u168, k169, g170, hg170, hk169, rfl, rfl⟩ := hq
            refine st_st (st' := [.ref r167]) rfl ?_
            refine st_ws (ws' := [(r45, .inr (0, [.ref u46, .int (Int32.ofInt (0)), .int (Int32.ofInt (0)), .int (Int32.ofInt (0))])), (u46, .inl (D.2.2.2, k47, .inl g48)), (r58, .inr (0, [.ref u59, .int (Int32.ofInt (0)), .int (Int32.ofInt (0)), .int (Int32.ofInt (0))])), (u59, .inl (D.2.2.2, k60, .inl g61)), (r68, .inr (0, [.ref u69, .int (Int32.ofInt (0)), .int (Int32.ofInt (0)), .int (Int32.ofInt (0))])), (u69, .inl (D.2.2.2, k70, .inl g71)), (r113, .inr (0, [.ref u114, .int (Int32.ofInt (0)), .int (Int32.ofInt (0)), .int (Int32.ofInt (0))])), (u114, .inl (D.2.2.2, k115, .inl g116)), (r126, .inr (0, [.ref u127, .int (Int32.ofInt (0)), .int (Int32.ofInt (0)), .int (Int32.ofInt (0))])), (u127, .inl (D.2.2.2, k128, .inl g129)), (r136, .inr (0, [.ref u137, .int (Int32.ofInt (0)), .int (Int32.ofInt (0)), .int (Int32.ofInt (0))])), (u137, .inl (D.2.2.2, k138, .inl g139)), (r167, .inr (0, [.ref u168, .int (Int32.ofInt (0)), .int (Int32.ofInt (0)), .int (Int32.ofInt (0))])), (u168, .inl (D.2.2.2, k169, .inl g170))]) rfl ?_
            refine st_astore (ls' := [(4, .ref r167), (5, .int (Int32.ofInt (((0 + 1) + 1)))), (3, .int (Int32.ofInt (z5))), (2, .int (Int32.ofInt (z1))), (0, .ref X.2.2.2.1), (1, .int (Int32.ofInt (k)))]) ktL_text rfl (by decide) rfl ?_
            refine st_aload 0 ktL_text rfl rfl ?_
            refine st_callV (x := r167) (Cn := "java/lang/String") (X' := ([(r167, u168, k169)], X.2)) (d' := 2) (NC' := 0) (NS' := 0) (M' := mtJ0_length_8abf5) (n := 0) (As := []) (st := []) (wc := []) (wr := [(r45, .inr (0, [.ref u46, .int (Int32.ofInt (0)), .int (Int32.ofInt (0)), .int (Int32.ofInt (0))])), (u46, .inl (D.2.2.2, k47, .inl g48)), (r58, .inr (0, [.ref u59, .int (Int32.ofInt (0)), .int (Int32.ofInt (0)), .int (Int32.ofInt (0))])), (u59, .inl (D.2.2.2, k60, .inl g61)), (r68, .inr (0, [.ref u69, .int (Int32.ofInt (0)), .int (Int32.ofInt (0)), .int (Int32.ofInt (0))])), (u69, .inl (D.2.2.2, k70, .inl g71)), (r113, .inr (0, [.ref u114, .int (Int32.ofInt (0)), .int (Int32.ofInt (0)), .int (Int32.ofInt (0))])), (u114, .inl (D.2.2.2, k115, .inl g116)), (r126, .inr (0, [.ref u127, .int (Int32.ofInt (0)), .int (Int32.ofInt (0)), .int (Int32.ofInt (0))])), (u127, .inl (D.2.2.2, k128, .inl g129)), (r136, .inr (0, [.ref u137, .int (Int32.ofInt (0)), .int (Int32.ofInt (0)), .int (Int32.ofInt (0))])), (u137, .inl (D.2.2.2, k138, .inl g139)), (r167, .inr (0, [.ref u168, .int (Int32.ofInt (0)), .int (Int32.ofInt (0)), .int (Int32.ofInt (0))])), (u168, .inl (D.2.2.2, k169, .inl g170))]) [] [0, 1, 2, 3, 4, 5, 6, 7, 8, 9, 10, 11, 12, 13] ktL_text rfl ⟨(st_has (n := 6030) rfl rfl), (st_has (n := 5086) rfl rfl), (st_has (n := 1019) rfl rfl), Or.inl ⟨rfl, (st_has (n := 5087) rfl rfl)⟩⟩ (st_has (n := 5088) rfl rfl) (by decide +kernel) (Or.inl ⟨12, 0, _, _, _, rfl, rfl⟩) rfl rfl (Nat.le_of_ble_eq_true rfl) (Nat.le_of_ble_eq_true rfl) (by decide) (by omega) (by omega) rfl rfl (by decide) (by decide) (by decide) ⟨rfl, fun q hq => (by simp only [List.mem_cons, List.not_mem_nil, or_false] at hq; subst hq; exact Or.inr ⟨12, 13, _, _, _, rfl, rfl, hg170, (show (k169 : Nat) < 100000 by omega), by decide, by decide⟩)⟩ (tt_strLen D X r167 u168 (k169)) (fun ws1 v hq => ?_)
            obtain ⟨rfl, rfl⟩ := hq
            refine st_st (st' := [.int (Int32.ofInt ((k169 : Int)))]) rfl ?_
            refine st_ws (ws' := [(r45, .inr (0, [.ref u46, .int (Int32.ofInt (0)), .int (Int32.ofInt (0)), .int (Int32.ofInt (0))])), (u46, .inl (D.2.2.2, k47, .inl g48)), (r58, .inr (0, [.ref u59, .int (Int32.ofInt (0)), .int (Int32.ofInt (0)), .int (Int32.ofInt (0))])), (u59, .inl (D.2.2.2, k60, .inl g61)), (r68, .inr (0, [.ref u69, .int (Int32.ofInt (0)), .int (Int32.ofInt (0)), .int (Int32.ofInt (0))])), (u69, .inl (D.2.2.2, k70, .inl g71)), (r113, .inr (0, [.ref u114, .int (Int32.ofInt (0)), .int (Int32.ofInt (0)), .int (Int32.ofInt (0))])), (u114, .inl (D.2.2.2, k115, .inl g116)), (r126, .inr (0, [.ref u127, .int (Int32.ofInt (0)), .int (Int32.ofInt (0)), .int (Int32.ofInt (0))])), (u127, .inl (D.2.2.2, k128, .inl g129)), (r136, .inr (0, [.ref u137, .int (Int32.ofInt (0)), .int (Int32.ofInt (0)), .int (Int32.ofInt (0))])), (u137, .inl (D.2.2.2, k138, .inl g139)), (r167, .inr (0, [.ref u168, .int (Int32.ofInt (0)), .int (Int32.ofInt (0)), .int (Int32.ofInt (0))])), (u168, .inl (D.2.2.2, k169, .inl g170))]) rfl ?_
            refine st_bipush ⟨by decide, by decide⟩ ktL_text rfl ?_
            refine st_icmp_le (tgt := 174) ⟨by omega, by omega⟩ ⟨by omega, by omega⟩ ktL_text rfl (by decide) (fun c171 => ?_) (fun c171 => ?_)
            · refine st_aload 0 ktL_text rfl rfl ?_
              refine st_sub (ws' := [(r167, .inr (0, [.ref u168, .int (Int32.ofInt (0)), .int (Int32.ofInt (0)), .int (Int32.ofInt (0))])), (u168, .inl (D.2.2.2, k169, .inl g170))]) [12, 13] rfl (by decide) ?_
              exact st_areturn (ty := (.object "java/lang/String")) ktL_text rfl rfl (Or.inl ⟨_, rfl⟩) (by omega) (by omega) (Or.inr ⟨_, _, _, _, hg170, by omega, rfl, rfl⟩)
            · refine st_ldcS (tx := "m=1?7*w-a;w>5?50-a;9") (q := (ca 15)) rfl (by show _ ∈ X.2.1; rw [hX]; simp [kl]) ktL_text rfl ?_
              refine st_goto (tgt := 176) ktL_text rfl (by decide) ?_
              refine st_sub (ws' := []) [] rfl (by decide) ?_
              exact st_areturn (ty := (.object "java/lang/String")) ktL_text rfl rfl (Or.inl ⟨_, rfl⟩) (by omega) (by omega) (Or.inl ⟨_, rfl, by decide, rfl⟩)
        · refine st_new (ci := 1) tyJ4 [.null, .int (Int32.ofInt (0)), .int (Int32.ofInt (0)), .int (Int32.ofInt (0))] ktL_text rfl rfl tyJ4_ok (st_has (n := 4222) rfl rfl) (st_has (n := 4223) rfl rfl) (st_has (n := 1018) rfl rfl) rfl (by omega) (by omega) (fun q172 => ?_)
          refine st_ws (ws' := [(r45, .inr (0, [.ref u46, .int (Int32.ofInt (0)), .int (Int32.ofInt (0)), .int (Int32.ofInt (0))])), (u46, .inl (D.2.2.2, k47, .inl g48)), (r58, .inr (0, [.ref u59, .int (Int32.ofInt (0)), .int (Int32.ofInt (0)), .int (Int32.ofInt (0))])), (u59, .inl (D.2.2.2, k60, .inl g61)), (r68, .inr (0, [.ref u69, .int (Int32.ofInt (0)), .int (Int32.ofInt (0)), .int (Int32.ofInt (0))])), (u69, .inl (D.2.2.2, k70, .inl g71)), (r113, .inr (0, [.ref u114, .int (Int32.ofInt (0)), .int (Int32.ofInt (0)), .int (Int32.ofInt (0))])), (u114, .inl (D.2.2.2, k115, .inl g116)), (r126, .inr (0, [.ref u127, .int (Int32.ofInt (0)), .int (Int32.ofInt (0)), .int (Int32.ofInt (0))])), (u127, .inl (D.2.2.2, k128, .inl g129)), (r136, .inr (0, [.ref u137, .int (Int32.ofInt (0)), .int (Int32.ofInt (0)), .int (Int32.ofInt (0))])), (u137, .inl (D.2.2.2, k138, .inl g139)), (q172, .inr (1, [.null, .int (Int32.ofInt (0)), .int (Int32.ofInt (0)), .int (Int32.ofInt (0))]))]) rfl ?_
          refine st_dup rfl ktL_text rfl ?_
          refine st_callI (x := q172) (X' := ([], X.2)) (d' := 3) (NC' := 1) (NS' := 16) (M' := mtJ4_init_da8c8) (n := 0) (As := []) (st := [.ref q172]) (wc := [(q172, .inr (1, [.null, .int (Int32.ofInt (0)), .int (Int32.ofInt (0)), .int (Int32.ofInt (0))]))]) (wr := [(r45, .inr (0, [.ref u46, .int (Int32.ofInt (0)), .int (Int32.ofInt (0)), .int (Int32.ofInt (0))])), (u46, .inl (D.2.2.2, k47, .inl g48)), (r58, .inr (0, [.ref u59, .int (Int32.ofInt (0)), .int (Int32.ofInt (0)), .int (Int32.ofInt (0))])), (u59, .inl (D.2.2.2, k60, .inl g61)), (r68, .inr (0, [.ref u69, .int (Int32.ofInt (0)), .int (Int32.ofInt (0)), .int (Int32.ofInt (0))])), (u69, .inl (D.2.2.2, k70, .inl g71)), (r113, .inr (0, [.ref u114, .int (Int32.ofInt (0)), .int (Int32.ofInt (0)), .int (Int32.ofInt (0))])), (u114, .inl (D.2.2.2, k115, .inl g116)), (r126, .inr (0, [.ref u127, .int (Int32.ofInt (0)), .int (Int32.ofInt (0)), .int (Int32.ofInt (0))])), (u127, .inl (D.2.2.2, k128, .inl g129)), (r136, .inr (0, [.ref u137, .int (Int32.ofInt (0)), .int (Int32.ofInt (0)), .int (Int32.ofInt (0))])), (u137, .inl (D.2.2.2, k138, .inl g139))]) [12] [0, 1, 2, 3, 4, 5, 6, 7, 8, 9, 10, 11] ktL_text rfl (st_has (n := 4224) rfl rfl) (st_has (n := 4226) rfl rfl) (st_has (n := 1018) rfl rfl) (st_has (n := 4225) rfl rfl) (by decide +kernel) rfl rfl rfl rfl (Nat.le_of_ble_eq_true rfl) (Nat.le_of_ble_eq_true rfl) (by decide) (by omega) (by omega) rfl rfl (by decide) (by decide) (by decide) ⟨rfl, fun q hq => by cases hq⟩ (tt_sbInit D X q172) (fun ws1 v hq => ?_)
          obtain ⟨rfl, q173, f174, hf174, rfl⟩ := hq
          refine st_st (st' := [.ref q172]) rfl ?_
          refine st_ws (ws' := [(r45, .inr (0, [.ref u46, .int (Int32.ofInt (0)), .int (Int32.ofInt (0)), .int (Int32.ofInt (0))])), (u46, .inl (D.2.2.2, k47, .inl g48)), (r58, .inr (0, [.ref u59, .int (Int32.ofInt (0)), .int (Int32.ofInt (0)), .int (Int32.ofInt (0))])), (u59, .inl (D.2.2.2, k60, .inl g61)), (r68, .inr (0, [.ref u69, .int (Int32.ofInt (0)), .int (Int32.ofInt (0)), .int (Int32.ofInt (0))])), (u69, .inl (D.2.2.2, k70, .inl g71)), (r113, .inr (0, [.ref u114, .int (Int32.ofInt (0)), .int (Int32.ofInt (0)), .int (Int32.ofInt (0))])), (u114, .inl (D.2.2.2, k115, .inl g116)), (r126, .inr (0, [.ref u127, .int (Int32.ofInt (0)), .int (Int32.ofInt (0)), .int (Int32.ofInt (0))])), (u127, .inl (D.2.2.2, k128, .inl g129)), (r136, .inr (0, [.ref u137, .int (Int32.ofInt (0)), .int (Int32.ofInt (0)), .int (Int32.ofInt (0))])), (u137, .inl (D.2.2.2, k138, .inl g139)), (q172, .inr (1, [.ref q173, .int (Int32.ofInt (0)), .int (Int32.ofInt (0)), .int (Int32.ofInt (0))])), (q173, .inl (D.2.2.2, 16, .inl f174))]) rfl ?_
          refine st_aload 1 ktL_text rfl rfl ?_
          refine st_callV (x := q172) (Cn := "java/lang/StringBuilder") (X' := ([(r136, u137, k138)], X.2)) (d' := 5) (NC' := 1) (NS' := 2002) (M' := mtJ4_append_15ec4) (n := 1) (As := [.ref r136]) (st := []) (wc := [(q172, .inr (1, [.ref q173, .int (Int32.ofInt (0)), .int (Int32.ofInt (0)), .int (Int32.ofInt (0))])), (q173, .inl (D.2.2.2, 16, .inl f174))]) (wr := [(r45, .inr (0, [.ref u46, .int (Int32.ofInt (0)), .int (Int32.ofInt (0)), .int (Int32.ofInt (0))])), (u46, .inl (D.2.2.2, k47, .inl g48)), (r58, .inr (0, [.ref u59, .int (Int32.ofInt (0)), .int (Int32.ofInt (0)), .int (Int32.ofInt (0))])), (u59, .inl (D.2.2.2, k60, .inl g61)), (r68, .inr (0, [.ref u69, .int (Int32.ofInt (0)), .int (Int32.ofInt (0)), .int (Int32.ofInt (0))])), (u69, .inl (D.2.2.2, k70, .inl g71)), (r113, .inr (0, [.ref u114, .int (Int32.ofInt (0)), .int (Int32.ofInt (0)), .int (Int32.ofInt (0))])), (u114, .inl (D.2.2.2, k115, .inl g116)), (r126, .inr (0, [.ref u127, .int (Int32.ofInt (0)), .int (Int32.ofInt (0)), .int (Int32.ofInt (0))])), (u127, .inl (D.2.2.2, k128, .inl g129)), (r136, .inr (0, [.ref u137, .int (Int32.ofInt (0)), .int (Int32.ofInt (0)), .int (Int32.ofInt (0))])), (u137, .inl (D.2.2.2, k138, .inl g139))]) [12, 13] [0, 1, 2, 3, 4, 5, 6, 7, 8, 9, 10, 11] ktL_text rfl ⟨(st_has (n := 5014) rfl rfl), (st_has (n := 5015) rfl rfl), (st_has (n := 1018) rfl rfl), Or.inl ⟨rfl, (st_has (n := 5016) rfl rfl)⟩⟩ (st_has (n := 5017) rfl rfl) (by decide +kernel) (Or.inl ⟨12, 1, _, _, _, rfl, rfl⟩) rfl rfl (Nat.le_of_ble_eq_true rfl) (Nat.le_of_ble_eq_true rfl) (by decide) (by omega) (by omega) rfl rfl (by decide) (by decide) (by decide) ⟨rfl, fun q hq => (by simp only [List.mem_cons, List.not_mem_nil, or_false] at hq; subst hq; exact Or.inr ⟨10, 11, _, _, _, rfl, rfl, hg139, (show (k138 : Nat) < 100000 by omega), by decide, by decide⟩)⟩ (tt_app5S D X q172 q173 (16) (0) r136 u137 (k138) f174 (by omega) hf174 (by omega)) (fun ws1 v hq => ?_)
          obtain ⟨q175, n176, f177, hf177, hn176, rfl, rfl⟩ := hq
          refine st_st (st' := [.ref q172]) rfl ?_
          refine st_ws (ws' := [(r45, .inr (0, [.ref u46, .int (Int32.ofInt (0)), .int (Int32.ofInt (0)), .int (Int32.ofInt (0))])), (u46, .inl (D.2.2.2, k47, .inl g48)), (r58, .inr (0, [.ref u59, .int (Int32.ofInt (0)), .int (Int32.ofInt (0)), .int (Int32.ofInt (0))])), (u59, .inl (D.2.2.2, k60, .inl g61)), (r68, .inr (0, [.ref u69, .int (Int32.ofInt (0)), .int (Int32.ofInt (0)), .int (Int32.ofInt (0))])), (u69, .inl (D.2.2.2, k70, .inl g71)), (r113, .inr (0, [.ref u114, .int (Int32.ofInt (0)), .int (Int32.ofInt (0)), .int (Int32.ofInt (0))])), (u114, .inl (D.2.2.2, k115, .inl g116)), (r126, .inr (0, [.ref u127, .int (Int32.ofInt (0)), .int (Int32.ofInt (0)), .int (Int32.ofInt (0))])), (u127, .inl (D.2.2.2, k128, .inl g129)), (r136, .inr (0, [.ref u137, .int (Int32.ofInt (0)), .int (Int32.ofInt (0)), .int (Int32.ofInt (0))])), (u137, .inl (D.2.2.2, k138, .inl g139)), (q172, .inr (1, [.ref q175, .int (Int32.ofInt (0)), .int (Int32.ofInt (0)), .int (Int32.ofInt ((0 + (k138 : Int))))])), (q175, .inl (D.2.2.2, n176, .inl f177))]) rfl ?_
          refine st_aload_n 4 ktL_text rfl rfl ?_
          refine st_iload_n 5 ktL_text rfl rfl ?_
          refine st_iconst ktL_text rfl ?_
          refine st_iadd (z := (k + 1)) (fz_w_id (by omega) (by omega)) ktL_text rfl ?_
          refine st_callS (X' := ([], X.2)) (d' := 1) (NC' := 0) (NS' := 0) (M' := mtL_at) (n := 2) (As := [.ref X.2.2.2.1, .int (Int32.ofInt ((k + 1)))]) (st := [.ref q172]) (wc := []) (wr := [(r45, .inr (0, [.ref u46, .int (Int32.ofInt (0)), .int (Int32.ofInt (0)), .int (Int32.ofInt (0))])), (u46, .inl (D.2.2.2, k47, .inl g48)), (r58, .inr (0, [.ref u59, .int (Int32.ofInt (0)), .int (Int32.ofInt (0)), .int (Int32.ofInt (0))])), (u59, .inl (D.2.2.2, k60, .inl g61)), (r68, .inr (0, [.ref u69, .int (Int32.ofInt (0)), .int (Int32.ofInt (0)), .int (Int32.ofInt (0))])), (u69, .inl (D.2.2.2, k70, .inl g71)), (r113, .inr (0, [.ref u114, .int (Int32.ofInt (0)), .int (Int32.ofInt (0)), .int (Int32.ofInt (0))])), (u114, .inl (D.2.2.2, k115, .inl g116)), (r126, .inr (0, [.ref u127, .int (Int32.ofInt (0)), .int (Int32.ofInt (0)), .int (Int32.ofInt (0))])), (u127, .inl (D.2.2.2, k128, .inl g129)), (r136, .inr (0, [.ref u137, .int (Int32.ofInt (0)), .int (Int32.ofInt (0)), .int (Int32.ofInt (0))])), (u137, .inl (D.2.2.2, k138, .inl g139)), (q172, .inr (1, [.ref q175, .int (Int32.ofInt (0)), .int (Int32.ofInt (0)), .int (Int32.ofInt ((0 + (k138 : Int))))])), (q175, .inl (D.2.2.2, n176, .inl f177))]) [] [0, 1, 2, 3, 4, 5, 6, 7, 8, 9, 10, 11, 12, 13] ktL_text rfl (st_has (n := 4212) rfl rfl) (st_has (n := 4214) rfl rfl) (st_has (n := 1000) rfl rfl) (st_has (n := 4213) rfl rfl) (by decide +kernel) rfl rfl (Nat.le_of_ble_eq_true rfl) (Nat.le_of_ble_eq_true rfl) (by decide) (by omega) (by omega) rfl rfl (by decide) (by decide) (by decide) ⟨rfl, fun q hq => by cases hq⟩ (tt_at D X ((k + 1)) (by omega) hL) (fun ws1 v hq => ?_)
          obtain ⟨z178, hz178, rfl, rfl⟩ := hq
          refine st_st (st' := [.int (Int32.ofInt (z178)), .ref q172]) rfl ?_
          refine st_ws (ws' := [(r45, .inr (0, [.ref u46, .int (Int32.ofInt (0)), .int (Int32.ofInt (0)), .int (Int32.ofInt (0))])), (u46, .inl (D.2.2.2, k47, .inl g48)), (r58, .inr (0, [.ref u59, .int (Int32.ofInt (0)), .int (Int32.ofInt (0)), .int (Int32.ofInt (0))])), (u59, .inl (D.2.2.2, k60, .inl g61)), (r68, .inr (0, [.ref u69, .int (Int32.ofInt (0)), .int (Int32.ofInt (0)), .int (Int32.ofInt (0))])), (u69, .inl (D.2.2.2, k70, .inl g71)), (r113, .inr (0, [.ref u114, .int (Int32.ofInt (0)), .int (Int32.ofInt (0)), .int (Int32.ofInt (0))])), (u114, .inl (D.2.2.2, k115, .inl g116)), (r126, .inr (0, [.ref u127, .int (Int32.ofInt (0)), .int (Int32.ofInt (0)), .int (Int32.ofInt (0))])), (u127, .inl (D.2.2.2, k128, .inl g129)), (r136, .inr (0, [.ref u137, .int (Int32.ofInt (0)), .int (Int32.ofInt (0)), .int (Int32.ofInt (0))])), (u137, .inl (D.2.2.2, k138, .inl g139)), (q172, .inr (1, [.ref q175, .int (Int32.ofInt (0)), .int (Int32.ofInt (0)), .int (Int32.ofInt ((0 + (k138 : Int))))])), (q175, .inl (D.2.2.2, n176, .inl f177))]) rfl ?_
          refine st_iload 0 ktL_text rfl rfl ?_
          refine st_ishr ktL_text rfl (fun z179 hz179 => ?_)
          refine st_iload_n 3 ktL_text rfl rfl ?_
          refine st_iload 0 ktL_text rfl rfl ?_
          refine st_ishr ktL_text rfl (fun z180 hz180 => ?_)
          refine st_callS (X' := (kss ca cv, X.2)) (d' := 8) (NC' := 40) (NS' := 40000) (M' := mtL_says) (n := 2) (As := [.int (Int32.ofInt (z179)), .int (Int32.ofInt (z180))]) (st := [.ref q172]) (wc := []) (wr := [(r45, .inr (0, [.ref u46, .int (Int32.ofInt (0)), .int (Int32.ofInt (0)), .int (Int32.ofInt (0))])), (u46, .inl (D.2.2.2, k47, .inl g48)), (r58, .inr (0, [.ref u59, .int (Int32.ofInt (0)), .int (Int32.ofInt (0)), .int (Int32.ofInt (0))])), (u59, .inl (D.2.2.2, k60, .inl g61)), (r68, .inr (0, [.ref u69, .int (Int32.ofInt (0)), .int (Int32.ofInt (0)), .int (Int32.ofInt (0))])), (u69, .inl (D.2.2.2, k70, .inl g71)), (r113, .inr (0, [.ref u114, .int (Int32.ofInt (0)), .int (Int32.ofInt (0)), .int (Int32.ofInt (0))])), (u114, .inl (D.2.2.2, k115, .inl g116)), (r126, .inr (0, [.ref u127, .int (Int32.ofInt (0)), .int (Int32.ofInt (0)), .int (Int32.ofInt (0))])), (u127, .inl (D.2.2.2, k128, .inl g129)), (r136, .inr (0, [.ref u137, .int (Int32.ofInt (0)), .int (Int32.ofInt (0)), .int (Int32.ofInt (0))])), (u137, .inl (D.2.2.2, k138, .inl g139)), (q172, .inr (1, [.ref q175, .int (Int32.ofInt (0)), .int (Int32.ofInt (0)), .int (Int32.ofInt ((0 + (k138 : Int))))])), (q175, .inl (D.2.2.2, n176, .inl f177))]) [] [0, 1, 2, 3, 4, 5, 6, 7, 8, 9, 10, 11, 12, 13] ktL_text rfl (st_has (n := 5128) rfl rfl) (st_has (n := 5130) rfl rfl) (st_has (n := 1000) rfl rfl) (st_has (n := 5129) rfl rfl) (by decide +kernel) rfl rfl (Nat.le_of_ble_eq_true rfl) (Nat.le_of_ble_eq_true rfl) (by decide) (by omega) (by omega) rfl rfl (by decide) (by decide) (by decide) ⟨rfl, fun q hq => Or.inl hq⟩ (tt_says D X ca cv hX (z179) (z180) ⟨by omega, by omega⟩ ⟨by omega, by omega⟩) (fun ws1 v hq => ?_)
          obtain ⟨r181, u182, k183, g184, hg184, hk183, rfl, rfl⟩ := hq
          refine st_st (st' := [.ref r181, .ref q172]) rfl ?_
          refine st_ws (ws' := [(r45, .inr (0, [.ref u46, .int (Int32.ofInt (0)), .int (Int32.ofInt (0)), .int (Int32.ofInt (0))])), (u46, .inl (D.2.2.2, k47, .inl g48)), (r58, .inr (0, [.ref u59, .int (Int32.ofInt (0)), .int (Int32.ofInt (0)), .int (Int32.ofInt (0))])), (u59, .inl (D.2.2.2, k60, .inl g61)), (r68, .inr (0, [.ref u69, .int (Int32.ofInt (0)), .int (Int32.ofInt (0)), .int (Int32.ofInt (0))])), (u69, .inl (D.2.2.2, k70, .inl g71)), (r113, .inr (0, [.ref u114, .int (Int32.ofInt (0)), .int (Int32.ofInt (0)), .int (Int32.ofInt (0))])), (u114, .inl (D.2.2.2, k115, .inl g116)), (r126, .inr (0, [.ref u127, .int (Int32.ofInt (0)), .int (Int32.ofInt (0)), .int (Int32.ofInt (0))])), (u127, .inl (D.2.2.2, k128, .inl g129)), (r136, .inr (0, [.ref u137, .int (Int32.ofInt (0)), .int (Int32.ofInt (0)), .int (Int32.ofInt (0))])), (u137, .inl (D.2.2.2, k138, .inl g139)), (q172, .inr (1, [.ref q175, .int (Int32.ofInt (0)), .int (Int32.ofInt (0)), .int (Int32.ofInt ((0 + (k138 : Int))))])), (q175, .inl (D.2.2.2, n176, .inl f177)), (r181, .inr (0, [.ref u182, .int (Int32.ofInt (0)), .int (Int32.ofInt (0)), .int (Int32.ofInt (0))])), (u182, .inl (D.2.2.2, k183, .inl g184))]) rfl ?_
          refine st_callV (x := q172) (Cn := "java/lang/StringBuilder") (X' := ([(r181, u182, k183)], X.2)) (d' := 5) (NC' := 1) (NS' := 2002) (M' := mtJ4_append_15ec4) (n := 1) (As := [.ref r181]) (st := []) (wc := [(q172, .inr (1, [.ref q175, .int (Int32.ofInt (0)), .int (Int32.ofInt (0)), .int (Int32.ofInt ((0 + (k138 : Int))))])), (q175, .inl (D.2.2.2, n176, .inl f177))]) (wr := [(r45, .inr (0, [.ref u46, .int (Int32.ofInt (0)), .int (Int32.ofInt (0)), .int (Int32.ofInt (0))])), (u46, .inl (D.2.2.2, k47, .inl g48)), (r58, .inr (0, [.ref u59, .int (Int32.ofInt (0)), .int (Int32.ofInt (0)), .int (Int32.ofInt (0))])), (u59, .inl (D.2.2.2, k60, .inl g61)), (r68, .inr (0, [.ref u69, .int (Int32.ofInt (0)), .int (Int32.ofInt (0)), .int (Int32.ofInt (0))])), (u69, .inl (D.2.2.2, k70, .inl g71)), (r113, .inr (0, [.ref u114, .int (Int32.ofInt (0)), .int (Int32.ofInt (0)), .int (Int32.ofInt (0))])), (u114, .inl (D.2.2.2, k115, .inl g116)), (r126, .inr (0, [.ref u127, .int (Int32.ofInt (0)), .int (Int32.ofInt (0)), .int (Int32.ofInt (0))])), (u127, .inl (D.2.2.2, k128, .inl g129)), (r136, .inr (0, [.ref u137, .int (Int32.ofInt (0)), .int (Int32.ofInt (0)), .int (Int32.ofInt (0))])), (u137, .inl (D.2.2.2, k138, .inl g139)), (r181, .inr (0, [.ref u182, .int (Int32.ofInt (0)), .int (Int32.ofInt (0)), .int (Int32.ofInt (0))])), (u182, .inl (D.2.2.2, k183, .inl g184))]) [12, 13] [0, 1, 2, 3, 4, 5, 6, 7, 8, 9, 10, 11, 14, 15] ktL_text rfl ⟨(st_has (n := 5014) rfl rfl), (st_has (n := 5015) rfl rfl), (st_has (n := 1018) rfl rfl), Or.inl ⟨rfl, (st_has (n := 5016) rfl rfl)⟩⟩ (st_has (n := 5017) rfl rfl) (by decide +kernel) (Or.inl ⟨12, 1, _, _, _, rfl, rfl⟩) rfl rfl (Nat.le_of_ble_eq_true rfl) (Nat.le_of_ble_eq_true rfl) (by decide) (by omega) (by omega) rfl rfl (by decide) (by decide) (by decide) ⟨rfl, fun q hq => (by simp only [List.mem_cons, List.not_mem_nil, or_false] at hq; subst hq; exact Or.inr ⟨14, 15, _, _, _, rfl, rfl, hg184, (show (k183 : Nat) < 100000 by omega), by decide, by decide⟩)⟩ (tt_app5S D X q172 q175 (n176) ((0 + (k138 : Int))) r181 u182 (k183) f177 (by omega) hf177 (by omega)) (fun ws1 v hq => ?_)
          obtain ⟨q185, n186, f187, hf187, hn186, rfl, rfl⟩ := hq
          refine st_st (st' := [.ref q172]) rfl ?_
          refine st_ws (ws' := [(r45, .inr (0, [.ref u46, .int (Int32.ofInt (0)), .int (Int32.ofInt (0)), .int (Int32.ofInt (0))])), (u46, .inl (D.2.2.2, k47, .inl g48)), (r58, .inr (0, [.ref u59, .int (Int32.ofInt (0)), .int (Int32.ofInt (0)), .int (Int32.ofInt (0))])), (u59, .inl (D.2.2.2, k60, .inl g61)), (r68, .inr (0, [.ref u69, .int (Int32.ofInt (0)), .int (Int32.ofInt (0)), .int (Int32.ofInt (0))])), (u69, .inl (D.2.2.2, k70, .inl g71)), (r113, .inr (0, [.ref u114, .int (Int32.ofInt (0)), .int (Int32.ofInt (0)), .int (Int32.ofInt (0))])), (u114, .inl (D.2.2.2, k115, .inl g116)), (r126, .inr (0, [.ref u127, .int (Int32.ofInt (0)), .int (Int32.ofInt (0)), .int (Int32.ofInt (0))])), (u127, .inl (D.2.2.2, k128, .inl g129)), (r136, .inr (0, [.ref u137, .int (Int32.ofInt (0)), .int (Int32.ofInt (0)), .int (Int32.ofInt (0))])), (u137, .inl (D.2.2.2, k138, .inl g139)), (r181, .inr (0, [.ref u182, .int (Int32.ofInt (0)), .int (Int32.ofInt (0)), .int (Int32.ofInt (0))])), (u182, .inl (D.2.2.2, k183, .inl g184)), (q172, .inr (1, [.ref q185, .int (Int32.ofInt (0)), .int (Int32.ofInt (0)), .int (Int32.ofInt (((0 + (k138 : Int)) + (k183 : Int))))])), (q185, .inl (D.2.2.2, n186, .inl f187))]) rfl ?_
          refine st_ldcS (tx := "?") (q := (ca 12)) rfl (by show _ ∈ X.2.1; rw [hX]; simp [kl]) ktL_text rfl ?_
          refine st_callV (x := q172) (Cn := "java/lang/StringBuilder") (X' := ([((ca 12), (cv 12), 1)], X.2)) (d' := 5) (NC' := 1) (NS' := 2002) (M' := mtJ4_append_15ec4) (n := 1) (As := [.ref (ca 12)]) (st := []) (wc := [(q172, .inr (1, [.ref q185, .int (Int32.ofInt (0)), .int (Int32.ofInt (0)), .int (Int32.ofInt (((0 + (k138 : Int)) + (k183 : Int))))])), (q185, .inl (D.2.2.2, n186, .inl f187))]) (wr := [(r45, .inr (0, [.ref u46, .int (Int32.ofInt (0)), .int (Int32.ofInt (0)), .int (Int32.ofInt (0))])), (u46, .inl (D.2.2.2, k47, .inl g48)), (r58, .inr (0, [.ref u59, .int (Int32.ofInt (0)), .int (Int32.ofInt (0)), .int (Int32.ofInt (0))])), (u59, .inl (D.2.2.2, k60, .inl g61)), (r68, .inr (0, [.ref u69, .int (Int32.ofInt (0)), .int (Int32.ofInt (0)), .int (Int32.ofInt (0))])), (u69, .inl (D.2.2.2, k70, .inl g71)), (r113, .inr (0, [.ref u114, .int (Int32.ofInt (0)), .int (Int32.ofInt (0)), .int (Int32.ofInt (0))])), (u114, .inl (D.2.2.2, k115, .inl g116)), (r126, .inr (0, [.ref u127, .int (Int32.ofInt (0)), .int (Int32.ofInt (0)), .int (Int32.ofInt (0))])), (u127, .inl (D.2.2.2, k128, .inl g129)), (r136, .inr (0, [.ref u137, .int (Int32.ofInt (0)), .int (Int32.ofInt (0)), .int (Int32.ofInt (0))])), (u137, .inl (D.2.2.2, k138, .inl g139)), (r181, .inr (0, [.ref u182, .int (Int32.ofInt (0)), .int (Int32.ofInt (0)), .int (Int32.ofInt (0))])), (u182, .inl (D.2.2.2, k183, .inl g184))]) [14, 15] [0, 1, 2, 3, 4, 5, 6, 7, 8, 9, 10, 11, 12, 13] ktL_text rfl ⟨(st_has (n := 5014) rfl rfl), (st_has (n := 5015) rfl rfl), (st_has (n := 1018) rfl rfl), Or.inl ⟨rfl, (st_has (n := 5016) rfl rfl)⟩⟩ (st_has (n := 5017) rfl rfl) (by decide +kernel) (Or.inl ⟨14, 1, _, _, _, rfl, rfl⟩) rfl rfl (Nat.le_of_ble_eq_true rfl) (Nat.le_of_ble_eq_true rfl) (by decide) (by omega) (by omega) rfl rfl (by decide) (by decide) (by decide) ⟨rfl, fun q hq => (by simp only [List.mem_cons, List.not_mem_nil, or_false] at hq; subst hq; exact Or.inl (by simp [kss]))⟩ (tt_app5S D X q172 q185 (n186) (((0 + (k138 : Int)) + (k183 : Int))) (ca 12) (cv 12) (1) f187 (by omega) hf187 (by omega)) (fun ws1 v hq => ?_)
          obtain ⟨q188, n189, f190, hf190, hn189, rfl, rfl⟩ := hq
          refine st_st (st' := [.ref q172]) rfl ?_
          refine st_ws (ws' := [(r45, .inr (0, [.ref u46, .int (Int32.ofInt (0)), .int (Int32.ofInt (0)), .int (Int32.ofInt (0))])), (u46, .inl (D.2.2.2, k47, .inl g48)), (r58, .inr (0, [.ref u59, .int (Int32.ofInt (0)), .int (Int32.ofInt (0)), .int (Int32.ofInt (0))])), (u59, .inl (D.2.2.2, k60, .inl g61)), (r68, .inr (0, [.ref u69, .int (Int32.ofInt (0)), .int (Int32.ofInt (0)), .int (Int32.ofInt (0))])), (u69, .inl (D.2.2.2, k70, .inl g71)), (r113, .inr (0, [.ref u114, .int (Int32.ofInt (0)), .int (Int32.ofInt (0)), .int (Int32.ofInt (0))])), (u114, .inl (D.2.2.2, k115, .inl g116)), (r126, .inr (0, [.ref u127, .int (Int32.ofInt (0)), .int (Int32.ofInt (0)), .int (Int32.ofInt (0))])), (u127, .inl (D.2.2.2, k128, .inl g129)), (r136, .inr (0, [.ref u137, .int (Int32.ofInt (0)), .int (Int32.ofInt (0)), .int (Int32.ofInt (0))])), (u137, .inl (D.2.2.2, k138, .inl g139)), (r181, .inr (0, [.ref u182, .int (Int32.ofInt (0)), .int (Int32.ofInt (0)), .int (Int32.ofInt (0))])), (u182, .inl (D.2.2.2, k183, .inl g184)), (q172, .inr (1, [.ref q188, .int (Int32.ofInt (0)), .int (Int32.ofInt (0)), .int (Int32.ofInt ((((0 + (k138 : Int)) + (k183 : Int)) + (1 : Int))))])), (q188, .inl (D.2.2.2, n189, .inl f190))]) rfl ?_
          refine st_iload_n 3 ktL_text rfl rfl ?_
          refine st_iconst ktL_text rfl ?_
          refine st_iload 0 ktL_text rfl rfl ?_
          refine st_iadd (z := (4 + ((0 + 1) + 1))) (fz_w_id (by omega) (by omega)) ktL_text rfl ?_
          refine st_ishr ktL_text rfl (fun z191 hz191 => ?_)
          refine st_aload_n 4 ktL_text rfl rfl ?_
          refine st_iload_n 5 ktL_text rfl rfl ?_
          refine st_iconst ktL_text rfl ?_
          refine st_iadd (z := (k + 1)) (fz_w_id (by omega) (by omega)) ktL_text rfl ?_
          refine st_callS (X' := ([], X.2)) (d' := 1) (NC' := 0) (NS' := 0) (M' := mtL_at) (n := 2) (As := [.ref X.2.2.2.1, .int (Int32.ofInt ((k + 1)))]) (st := [.int (Int32.ofInt (z191)), .ref q172]) (wc := []) (wr := [(r45, .inr (0, [.ref u46, .int (Int32.ofInt (0)), .int (Int32.ofInt (0)), .int (Int32.ofInt (0))])), (u46, .inl (D.2.2.2, k47, .inl g48)), (r58, .inr (0, [.ref u59, .int (Int32.ofInt (0)), .int (Int32.ofInt (0)), .int (Int32.ofInt (0))])), (u59, .inl (D.2.2.2, k60, .inl g61)), (r68, .inr (0, [.ref u69, .int (Int32.ofInt (0)), .int (Int32.ofInt (0)), .int (Int32.ofInt (0))])), (u69, .inl (D.2.2.2, k70, .inl g71)), (r113, .inr (0, [.ref u114, .int (Int32.ofInt (0)), .int (Int32.ofInt (0)), .int (Int32.ofInt (0))])), (u114, .inl (D.2.2.2, k115, .inl g116)), (r126, .inr (0, [.ref u127, .int (Int32.ofInt (0)), .int (Int32.ofInt (0)), .int (Int32.ofInt (0))])), (u127, .inl (D.2.2.2, k128, .inl g129)), (r136, .inr (0, [.ref u137, .int (Int32.ofInt (0)), .int (Int32.ofInt (0)), .int (Int32.ofInt (0))])), (u137, .inl (D.2.2.2, k138, .inl g139)), (r181, .inr (0, [.ref u182, .int (Int32.ofInt (0)), .int (Int32.ofInt (0)), .int (Int32.ofInt (0))])), (u182, .inl (D.2.2.2, k183, .inl g184)), (q172, .inr (1, [.ref q188, .int (Int32.ofInt (0)), .int (Int32.ofInt (0)), .int (Int32.ofInt ((((0 + (k138 : Int)) + (k183 : Int)) + (1 : Int))))])), (q188, .inl (D.2.2.2, n189, .inl f190))]) [] [0, 1, 2, 3, 4, 5, 6, 7, 8, 9, 10, 11, 12, 13, 14, 15] ktL_text rfl (st_has (n := 4212) rfl rfl) (st_has (n := 4214) rfl rfl) (st_has (n := 1000) rfl rfl) (st_has (n := 4213) rfl rfl) (by decide +kernel) rfl rfl (Nat.le_of_ble_eq_true rfl) (Nat.le_of_ble_eq_true rfl) (by decide) (by omega) (by omega) rfl rfl (by decide) (by decide) (by decide) ⟨rfl, fun q hq => by cases hq⟩ (tt_at D X ((k + 1)) (by omega) hL) (fun ws1 v hq => ?_)
          obtain ⟨z192, hz192, rfl, rfl⟩ := hq
          refine st_st (st' := [.int (Int32.ofInt (z192)), .int (Int32.ofInt (z191)), .ref q172]) rfl ?_
          refine st_ws (ws' := [(r45, .inr (0, [.ref u46, .int (Int32.ofInt (0)), .int (Int32.ofInt (0)), .int (Int32.ofInt (0))])), (u46, .inl (D.2.2.2, k47, .inl g48)), (r58, .inr (0, [.ref u59, .int (Int32.ofInt (0)), .int (Int32.ofInt (0)), .int (Int32.ofInt (0))])), (u59, .inl (D.2.2.2, k60, .inl g61)), (r68, .inr (0, [.ref u69, .int (Int32.ofInt (0)), .int (Int32.ofInt (0)), .int (Int32.ofInt (0))])), (u69, .inl (D.2.2.2, k70, .inl g71)), (r113, .inr (0, [.ref u114, .int (Int32.ofInt (0)), .int (Int32.ofInt (0)), .int (Int32.ofInt (0))])), (u114, .inl (D.2.2.2, k115, .inl g116)), (r126, .inr (0, [.ref u127, .int (Int32.ofInt (0)), .int (Int32.ofInt (0)), .int (Int32.ofInt (0))])), (u127, .inl (D.2.2.2, k128, .inl g129)), (r136, .inr (0, [.ref u137, .int (Int32.ofInt (0)), .int (Int32.ofInt (0)), .int (Int32.ofInt (0))])), (u137, .inl (D.2.2.2, k138, .inl g139)), (r181, .inr (0, [.ref u182, .int (Int32.ofInt (0)), .int (Int32.ofInt (0)), .int (Int32.ofInt (0))])), (u182, .inl (D.2.2.2, k183, .inl g184)), (q172, .inr (1, [.ref q188, .int (Int32.ofInt (0)), .int (Int32.ofInt (0)), .int (Int32.ofInt ((((0 + (k138 : Int)) + (k183 : Int)) + (1 : Int))))])), (q188, .inl (D.2.2.2, n189, .inl f190))]) rfl ?_
          refine st_iconst ktL_text rfl ?_
          refine st_ishr ktL_text rfl (fun z193 hz193 => ?_)
          refine st_callS (X' := (kss ca cv, X.2)) (d' := 8) (NC' := 40) (NS' := 40000) (M' := mtL_says) (n := 2) (As := [.int (Int32.ofInt (z191)), .int (Int32.ofInt (z193))]) (st := [.ref q172]) (wc := []) (wr := [(r45, .inr (0, [.ref u46, .int (Int32.ofInt (0)), .int (Int32.ofInt (0)), .int (Int32.ofInt (0))])), (u46, .inl (D.2.2.2, k47, .inl g48)), (r58, .inr (0, [.ref u59, .int (Int32.ofInt (0)), .int (Int32.ofInt (0)), .int (Int32.ofInt (0))])), (u59, .inl (D.2.2.2, k60, .inl g61)), (r68, .inr (0, [.ref u69, .int (Int32.ofInt (0)), .int (Int32.ofInt (0)), .int (Int32.ofInt (0))])), (u69, .inl (D.2.2.2, k70, .inl g71)), (r113, .inr (0, [.ref u114, .int (Int32.ofInt (0)), .int (Int32.ofInt (0)), .int (Int32.ofInt (0))])), (u114, .inl (D.2.2.2, k115, .inl g116)), (r126, .inr (0, [.ref u127, .int (Int32.ofInt (0)), .int (Int32.ofInt (0)), .int (Int32.ofInt (0))])), (u127, .inl (D.2.2.2, k128, .inl g129)), (r136, .inr (0, [.ref u137, .int (Int32.ofInt (0)), .int (Int32.ofInt (0)), .int (Int32.ofInt (0))])), (u137, .inl (D.2.2.2, k138, .inl g139)), (r181, .inr (0, [.ref u182, .int (Int32.ofInt (0)), .int (Int32.ofInt (0)), .int (Int32.ofInt (0))])), (u182, .inl (D.2.2.2, k183, .inl g184)), (q172, .inr (1, [.ref q188, .int (Int32.ofInt (0)), .int (Int32.ofInt (0)), .int (Int32.ofInt ((((0 + (k138 : Int)) + (k183 : Int)) + (1 : Int))))])), (q188, .inl (D.2.2.2, n189, .inl f190))]) [] [0, 1, 2, 3, 4, 5, 6, 7, 8, 9, 10, 11, 12, 13, 14, 15] ktL_text rfl (st_has (n := 5128) rfl rfl) (st_has (n := 5130) rfl rfl) (st_has (n := 1000) rfl rfl) (st_has (n := 5129) rfl rfl) (by decide +kernel) rfl rfl (Nat.le_of_ble_eq_true rfl) (Nat.le_of_ble_eq_true rfl) (by decide) (by omega) (by omega) rfl rfl (by decide) (by decide) (by decide) ⟨rfl, fun q hq => Or.inl hq⟩ (tt_says D X ca cv hX (z191) (z193) ⟨by omega, by omega⟩ ⟨by omega, by omega⟩) (fun ws1 v hq => ?_)
          obtain ⟨r194, u195, k196, g197, hg197, hk196, rfl, rfl⟩ := hq
          refine st_st (st' := [.ref r194, .ref q172]) rfl ?_
          refine st_ws (ws' := [(r45, .inr (0, [.ref u46, .int (Int32.ofInt (0)), .int (Int32.ofInt (0)), .int (Int32.ofInt (0))])), (u46, .inl (D.2.2.2, k47, .inl g48)), (r58, .inr (0, [.ref u59, .int (Int32.ofInt (0)), .int (Int32.ofInt (0)), .int (Int32.ofInt (0))])), (u59, .inl (D.2.2.2, k60, .inl g61)), (r68, .inr (0, [.ref u69, .int (Int32.ofInt (0)), .int (Int32.ofInt (0)), .int (Int32.ofInt (0))])), (u69, .inl (D.2.2.2, k70, .inl g71)), (r113, .inr (0, [.ref u114, .int (Int32.ofInt (0)), .int (Int32.ofInt (0)), .int (Int32.ofInt (0))])), (u114, .inl (D.2.2.2, k115, .inl g116)), (r126, .inr (0, [.ref u127, .int (Int32.ofInt (0)), .int (Int32.ofInt (0)), .int (Int32.ofInt (0))])), (u127, .inl (D.2.2.2, k128, .inl g129)), (r136, .inr (0, [.ref u137, .int (Int32.ofInt (0)), .int (Int32.ofInt (0)), .int (Int32.ofInt (0))])), (u137, .inl (D.2.2.2, k138, .inl g139)), (r181, .inr (0, [.ref u182, .int (Int32.ofInt (0)), .int (Int32.ofInt (0)), .int (Int32.ofInt (0))])), (u182, .inl (D.2.2.2, k183, .inl g184)), (q172, .inr (1, [.ref q188, .int (Int32.ofInt (0)), .int (Int32.ofInt (0)), .int (Int32.ofInt ((((0 + (k138 : Int)) + (k183 : Int)) + (1 : Int))))])), (q188, .inl (D.2.2.2, n189, .inl f190)), (r194, .inr (0, [.ref u195, .int (Int32.ofInt (0)), .int (Int32.ofInt (0)), .int (Int32.ofInt (0))])), (u195, .inl (D.2.2.2, k196, .inl g197))]) rfl ?_
          refine st_callV (x := q172) (Cn := "java/lang/StringBuilder") (X' := ([(r194, u195, k196)], X.2)) (d' := 5) (NC' := 1) (NS' := 2002) (M' := mtJ4_append_15ec4) (n := 1) (As := [.ref r194]) (st := []) (wc := [(q172, .inr (1, [.ref q188, .int (Int32.ofInt (0)), .int (Int32.ofInt (0)), .int (Int32.ofInt ((((0 + (k138 : Int)) + (k183 : Int)) + (1 : Int))))])), (q188, .inl (D.2.2.2, n189, .inl f190))]) (wr := [(r45, .inr (0, [.ref u46, .int (Int32.ofInt (0)), .int (Int32.ofInt (0)), .int (Int32.ofInt (0))])), (u46, .inl (D.2.2.2, k47, .inl g48)), (r58, .inr (0, [.ref u59, .int (Int32.ofInt (0)), .int (Int32.ofInt (0)), .int (Int32.ofInt (0))])), (u59, .inl (D.2.2.2, k60, .inl g61)), (r68, .inr (0, [.ref u69, .int (Int32.ofInt (0)), .int (Int32.ofInt (0)), .int (Int32.ofInt (0))])), (u69, .inl (D.2.2.2, k70, .inl g71)), (r113, .inr (0, [.ref u114, .int (Int32.ofInt (0)), .int (Int32.ofInt (0)), .int (Int32.ofInt (0))])), (u114, .inl (D.2.2.2, k115, .inl g116)), (r126, .inr (0, [.ref u127, .int (Int32.ofInt (0)), .int (Int32.ofInt (0)), .int (Int32.ofInt (0))])), (u127, .inl (D.2.2.2, k128, .inl g129)), (r136, .inr (0, [.ref u137, .int (Int32.ofInt (0)), .int (Int32.ofInt (0)), .int (Int32.ofInt (0))])), (u137, .inl (D.2.2.2, k138, .inl g139)), (r181, .inr (0, [.ref u182, .int (Int32.ofInt (0)), .int (Int32.ofInt (0)), .int (Int32.ofInt (0))])), (u182, .inl (D.2.2.2, k183, .inl g184)), (r194, .inr (0, [.ref u195, .int (Int32.ofInt (0)), .int (Int32.ofInt (0)), .int (Int32.ofInt (0))])), (u195, .inl (D.2.2.2, k196, .inl g197))]) [14, 15] [0, 1, 2, 3, 4, 5, 6, 7, 8, 9, 10, 11, 12, 13, 16, 17] ktL_text rfl ⟨(st_has (n := 5014) rfl rfl), (st_has (n := 5015) rfl rfl), (st_has (n := 1018) rfl rfl), Or.inl ⟨rfl, (st_has (n := 5016) rfl rfl)⟩⟩ (st_has (n := 5017) rfl rfl) (by decide +kernel) (Or.inl ⟨14, 1, _, _, _, rfl, rfl⟩) rfl rfl (Nat.le_of_ble_eq_true rfl) (Nat.le_of_ble_eq_true rfl) (by decide) (by omega) (by omega) rfl rfl (by decide) (by decide) (by decide) ⟨rfl, fun q hq => (by simp only [List.mem_cons, List.not_mem_nil, or_false] at hq; subst hq; exact Or.inr ⟨16, 17, _, _, _, rfl, rfl, hg197, (show (k196 : Nat) < 100000 by omega), by decide, by decide⟩)⟩ (tt_app5S D X q172 q188 (n189) ((((0 + (k138 : Int)) + (k183 : Int)) + (1 : Int))) r194 u195 (k196) f190 (by omega) hf190 (by omega)) (fun ws1 v hq => ?_)
          obtain ⟨q198, n199, f200, hf200, hn199, rfl, rfl⟩ := hq
          refine st_st (st' := [.ref q172]) rfl ?_
          refine st_ws (ws' := [(r45, .inr (0, [.ref u46, .int (Int32.ofInt (0)), .int (Int32.ofInt (0)), .int (Int32.ofInt (0))])), (u46, .inl (D.2.2.2, k47, .inl g48)), (r58, .inr (0, [.ref u59, .int (Int32.ofInt (0)), .int (Int32.ofInt (0)), .int (Int32.ofInt (0))])), (u59, .inl (D.2.2.2, k60, .inl g61)), (r68, .inr (0, [.ref u69, .int (Int32.ofInt (0)), .int (Int32.ofInt (0)), .int (Int32.ofInt (0))])), (u69, .inl (D.2.2.2, k70, .inl g71)), (r113, .inr (0, [.ref u114, .int (Int32.ofInt (0)), .int (Int32.ofInt (0)), .int (Int32.ofInt (0))])), (u114, .inl (D.2.2.2, k115, .inl g116)), (r126, .inr (0, [.ref u127, .int (Int32.ofInt (0)), .int (Int32.ofInt (0)), .int (Int32.ofInt (0))])), (u127, .inl (D.2.2.2, k128, .inl g129)), (r136, .inr (0, [.ref u137, .int (Int32.ofInt (0)), .int (Int32.ofInt (0)), .int (Int32.ofInt (0))])), (u137, .inl (D.2.2.2, k138, .inl g139)), (r181, .inr (0, [.ref u182, .int (Int32.ofInt (0)), .int (Int32.ofInt (0)), .int (Int32.ofInt (0))])), (u182, .inl (D.2.2.2, k183, .inl g184)), (r194, .inr (0, [.ref u195, .int (Int32.ofInt (0)), .int (Int32.ofInt (0)), .int (Int32.ofInt (0))])), (u195, .inl (D.2.2.2, k196, .inl g197)), (q172, .inr (1, [.ref q198, .int (Int32.ofInt (0)), .int (Int32.ofInt (0)), .int (Int32.ofInt (((((0 + (k138 : Int)) + (k183 : Int)) + (1 : Int)) + (k196 : Int))))])), (q198, .inl (D.2.2.2, n199, .inl f200))]) rfl ?_
          refine st_ldcS (tx := ";") (q := (ca 13)) rfl (by show _ ∈ X.2.1; rw [hX]; simp [kl]) ktL_text rfl ?_
          refine st_callV (x := q172) (Cn := "java/lang/StringBuilder") (X' := ([((ca 13), (cv 13), 1)], X.2)) (d' := 5) (NC' := 1) (NS' := 2002) (M' := mtJ4_append_15ec4) (n := 1) (As := [.ref (ca 13)]) (st := []) (wc := [(q172, .inr (1, [.ref q198, .int (Int32.ofInt (0)), .int (Int32.ofInt (0)), .int (Int32.ofInt (((((0 + (k138 : Int)) + (k183 : Int)) + (1 : Int)) + (k196 : Int))))])), (q198, .inl (D.2.2.2, n199, .inl f200))]) (wr := [(r45, .inr (0, [.ref u46, .int (Int32.ofInt (0)), .int (Int32.ofInt (0)), .int (Int32.ofInt (0))])), (u46, .inl (D.2.2.2, k47, .inl g48)), (r58, .inr (0, [.ref u59, .int (Int32.ofInt (0)), .int (Int32.ofInt (0)), .int (Int32.ofInt (0))])), (u59, .inl (D.2.2.2, k60, .inl g61)), (r68, .inr (0, [.ref u69, .int (Int32.ofInt (0)), .int (Int32.ofInt (0)), .int (Int32.ofInt (0))])), (u69, .inl (D.2.2.2, k70, .inl g71)), (r113, .inr (0, [.ref u114, .int (Int32.ofInt (0)), .int (Int32.ofInt (0)), .int (Int32.ofInt (0))])), (u114, .inl (D.2.2.2, k115, .inl g116)), (r126, .inr (0, [.ref u127, .int (Int32.ofInt (0)), .int (Int32.ofInt (0)), .int (Int32.ofInt (0))])), (u127, .inl (D.2.2.2, k128, .inl g129)), (r136, .inr (0, [.ref u137, .int (Int32.ofInt (0)), .int (Int32.ofInt (0)), .int (Int32.ofInt (0))])), (u137, .inl (D.2.2.2, k138, .inl g139)), (r181, .inr (0, [.ref u182, .int (Int32.ofInt (0)), .int (Int32.ofInt (0)), .int (Int32.ofInt (0))])), (u182, .inl (D.2.2.2, k183, .inl g184)), (r194, .inr (0, [.ref u195, .int (Int32.ofInt (0)), .int (Int32.ofInt (0)), .int (Int32.ofInt (0))])), (u195, .inl (D.2.2.2, k196, .inl g197))]) [16, 17] [0, 1, 2, 3, 4, 5, 6, 7, 8, 9, 10, 11, 12, 13, 14, 15] ktL_text rfl ⟨(st_has (n := 5014) rfl rfl), (st_has (n := 5015) rfl rfl), (st_has (n := 1018) rfl rfl), Or.inl ⟨rfl, (st_has (n := 5016) rfl rfl)⟩⟩ (st_has (n := 5017) rfl rfl) (by decide +kernel) (Or.inl ⟨16, 1, _, _, _, rfl, rfl⟩) rfl rfl (Nat.le_of_ble_eq_true rfl) (Nat.le_of_ble_eq_true rfl) (by decide) (by omega) (by omega) rfl rfl (by decide) (by decide) (by decide) ⟨rfl, fun q hq => (by simp only [List.mem_cons, List.not_mem_nil, or_false] at hq; subst hq; exact Or.inl (by simp [kss]))⟩ (tt_app5S D X q172 q198 (n199) (((((0 + (k138 : Int)) + (k183 : Int)) + (1 : Int)) + (k196 : Int))) (ca 13) (cv 13) (1) f200 (by omega) hf200 (by omega)) (fun ws1 v hq => ?_)
          obtain ⟨q201, n202, f203, hf203, hn202, rfl, rfl⟩ := hq
          refine st_st (st' := [.ref q172]) rfl ?_
          refine st_ws (ws' := [(r45, .inr (0, [.ref u46, .int (Int32.ofInt (0)), .int (Int32.ofInt (0)), .int (Int32.ofInt (0))])), (u46, .inl (D.2.2.2, k47, .inl g48)), (r58, .inr (0, [.ref u59, .int (Int32.ofInt (0)), .int (Int32.ofInt (0)), .int (Int32.ofInt (0))])), (u59, .inl (D.2.2.2, k60, .inl g61)), (r68, .inr (0, [.ref u69, .int (Int32.ofInt (0)), .int (Int32.ofInt (0)), .int (Int32.ofInt (0))])), (u69, .inl (D.2.2.2, k70, .inl g71)), (r113, .inr (0, [.ref u114, .int (Int32.ofInt (0)), .int (Int32.ofInt (0)), .int (Int32.ofInt (0))])), (u114, .inl (D.2.2.2, k115, .inl g116)), (r126, .inr (0, [.ref u127, .int (Int32.ofInt (0)), .int (Int32.ofInt (0)), .int (Int32.ofInt (0))])), (u127, .inl (D.2.2.2, k128, .inl g129)), (r136, .inr (0, [.ref u137, .int (Int32.ofInt (0)), .int (Int32.ofInt (0)), .int (Int32.ofInt (0))])), (u137, .inl (D.2.2.2, k138, .inl g139)), (r181, .inr (0, [.ref u182, .int (Int32.ofInt (0)), .int (Int32.ofInt (0)), .int (Int32.ofInt (0))])), (u182, .inl (D.2.2.2, k183, .inl g184)), (r194, .inr (0, [.ref u195, .int (Int32.ofInt (0)), .int (Int32.ofInt (0)), .int (Int32.ofInt (0))])), (u195, .inl (D.2.2.2, k196, .inl g197)), (q172, .inr (1, [.ref q201, .int (Int32.ofInt (0)), .int (Int32.ofInt (0)), .int (Int32.ofInt ((((((0 + (k138 : Int)) + (k183 : Int)) + (1 : Int)) + (k196 : Int)) + (1 : Int))))])), (q201, .inl (D.2.2.2, n202, .inl f203))]) rfl ?_
          refine st_callV (x := q172) (Cn := "java/lang/StringBuilder") (X' := ([], X.2)) (d' := 6) (NC' := 2) (NS' := 2006) (M' := mtJ4_toString_0e30d) (n := 0) (As := []) (st := []) (wc := [(q172, .inr (1, [.ref q201, .int (Int32.ofInt (0)), .int (Int32.ofInt (0)), .int (Int32.ofInt ((((((0 + (k138 : Int)) + (k183 : Int)) + (1 : Int)) + (k196 : Int)) + (1 : Int))))])), (q201, .inl (D.2.2.2, n202, .inl f203))]) (wr := [(r45, .inr (0, [.ref u46, .int (Int32.ofInt (0)), .int (Int32.ofInt (0)), .int (Int32.ofInt (0))])), (u46, .inl (D.2.2.2, k47, .inl g48)), (r58, .inr (0, [.ref u59, .int (Int32.ofInt (0)), .int (Int32.ofInt (0)), .int (Int32.ofInt (0))])), (u59, .inl (D.2.2.2, k60, .inl g61)), (r68, .inr (0, [.ref u69, .int (Int32.ofInt (0)), .int (Int32.ofInt (0)), .int (Int32.ofInt (0))])), (u69, .inl (D.2.2.2, k70, .inl g71)), (r113, .inr (0, [.ref u114, .int (Int32.ofInt (0)), .int (Int32.ofInt (0)), .int (Int32.ofInt (0))])), (u114, .inl (D.2.2.2, k115, .inl g116)), (r126, .inr (0, [.ref u127, .int (Int32.ofInt (0)), .int (Int32.ofInt (0)), .int (Int32.ofInt (0))])), (u127, .inl (D.2.2.2, k128, .inl g129)), (r136, .inr (0, [.ref u137, .int (Int32.ofInt (0)), .int (Int32.ofInt (0)), .int (Int32.ofInt (0))])), (u137, .inl (D.2.2.2, k138, .inl g139)), (r181, .inr (0, [.ref u182, .int (Int32.ofInt (0)), .int (Int32.ofInt (0)), .int (Int32.ofInt (0))])), (u182, .inl (D.2.2.2, k183, .inl g184)), (r194, .inr (0, [.ref u195, .int (Int32.ofInt (0)), .int (Int32.ofInt (0)), .int (Int32.ofInt (0))])), (u195, .inl (D.2.2.2, k196, .inl g197))]) [16, 17] [0, 1, 2, 3, 4, 5, 6, 7, 8, 9, 10, 11, 12, 13, 14, 15] ktL_text rfl ⟨(st_has (n := 5175) rfl rfl), (st_has (n := 5176) rfl rfl), (st_has (n := 1018) rfl rfl), Or.inl ⟨rfl, (st_has (n := 5177) rfl rfl)⟩⟩ (st_has (n := 5178) rfl rfl) (by decide +kernel) (Or.inl ⟨16, 1, _, _, _, rfl, rfl⟩) rfl rfl (Nat.le_of_ble_eq_true rfl) (Nat.le_of_ble_eq_true rfl) (by decide) (by omega) (by omega) rfl rfl (by decide) (by decide) (by decide) ⟨rfl, fun q hq => by cases hq⟩ (tt_toS D X q172 q201 (n202) ((((((0 + (k138 : Int)) + (k183 : Int)) + (1 : Int)) + (k196 : Int)) + (1 : Int))) f203 hf203 (by omega)) (fun ws1 v hq => ?_)
          obtain ⟨r204, u205, k206, g207, hg207, hk206, rfl, rfl⟩ := hq
          refine st_st (st' := [.ref r204]) rfl ?_
          refine st_ws (ws' := [(r45, .inr (0, [.ref u46, .int (Int32.ofInt (0)), .int (Int32.ofInt (0)), .int (Int32.ofInt (0))])), (u46, .inl (D.2.2.2, k47, .inl g48)), (r58, .inr (0, [.ref u59, .int (Int32.ofInt (0)), .int (Int32.ofInt (0)), .int (Int32.ofInt (0))])), (u59, .inl (D.2.2.2, k60, .inl g61)), (r68, .inr (0, [.ref u69, .int (Int32.ofInt (0)), .int (Int32.ofInt (0)), .int (Int32.ofInt (0))])), (u69, .inl (D.2.2.2, k70, .inl g71)), (r113, .inr (0, [.ref u114, .int (Int32.ofInt (0)), .int (Int32.ofInt (0)), .int (Int32.ofInt (0))])), (u114, .inl (D.2.2.2, k115, .inl g116)), (r126, .inr (0, [.ref u127, .int (Int32.ofInt (0)), .int (Int32.ofInt (0)), .int (Int32.ofInt (0))])), (u127, .inl (D.2.2.2, k128, .inl g129)), (r136, .inr (0, [.ref u137, .int (Int32.ofInt (0)), .int (Int32.ofInt (0)), .int (Int32.ofInt (0))])), (u137, .inl (D.2.2.2, k138, .inl g139)), (r181, .inr (0, [.ref u182, .int (Int32.ofInt (0)), .int (Int32.ofInt (0)), .int (Int32.ofInt (0))])), (u182, .inl (D.2.2.2, k183, .inl g184)), (r194, .inr (0, [.ref u195, .int (Int32.ofInt (0)), .int (Int32.ofInt (0)), .int (Int32.ofInt (0))])), (u195, .inl (D.2.2.2, k196, .inl g197)), (r204, .inr (0, [.ref u205, .int (Int32.ofInt (0)), .int (Int32.ofInt (0)), .int (Int32.ofInt (0))])), (u205, .inl (D.2.2.2, k206, .inl g207))]) rfl ?_
          refine st_astore (ls' := [(4, .ref r204), (5, .int (Int32.ofInt (((0 + 1) + 1)))), (3, .int (Int32.ofInt (z5))), (2, .int (Int32.ofInt (z1))), (0, .ref X.2.2.2.1), (1, .int (Int32.ofInt (k)))]) ktL_text rfl (by decide) rfl ?_
          refine st_iinc (k := 1) (z := (((0 + 1) + 1) + 1)) (ls' := [(5, .int (Int32.ofInt ((((0 + 1) + 1) + 1)))), (4, .ref r204), (3, .int (Int32.ofInt (z5))), (2, .int (Int32.ofInt (z1))), (0, .ref X.2.2.2.1), (1, .int (Int32.ofInt (k)))]) (fz_w_id (by omega) (by omega)) ktL_text rfl rfl (by decide) rfl ?_
          refine st_goto (tgt := 30) ktL_text rfl (by decide) ?_
          refine st_iload 0 ktL_text rfl rfl ?_
          refine st_iload_n 2 ktL_text rfl rfl ?_
          refine st_icmp_ge (tgt := 110) ⟨by omega, by omega⟩ ⟨by omega, by omega⟩ ktL_text rfl (by decide) (fun c208 => ?_) (fun c208 => False.elim (by omega))
          refine st_new (ci := 1) tyJ4 [.null, .int (Int32.ofInt (0)), .int (Int32.ofInt (0)), .int (Int32.ofInt (0))] ktL_text rfl rfl tyJ4_ok (st_has (n := 4222) rfl rfl) (st_has (n := 4223) rfl rfl) (st_has (n := 1018) rfl rfl) rfl (by omega) (by omega) (fun q209 => ?_)
          refine st_ws (ws' := [(r45, .inr (0, [.ref u46, .int (Int32.ofInt (0)), .int (Int32.ofInt (0)), .int (Int32.ofInt (0))])), (u46, .inl (D.2.2.2, k47, .inl g48)), (r58, .inr (0, [.ref u59, .int (Int32.ofInt (0)), .int (Int32.ofInt (0)), .int (Int32.ofInt (0))])), (u59, .inl (D.2.2.2, k60, .inl g61)), (r68, .inr (0, [.ref u69, .int (Int32.ofInt (0)), .int (Int32.ofInt (0)), .int (Int32.ofInt (0))])), (u69, .inl (D.2.2.2, k70, .inl g71)), (r113, .inr (0, [.ref u114, .int (Int32.ofInt (0)), .int (Int32.ofInt (0)), .int (Int32.ofInt (0))])), (u114, .inl (D.2.2.2, k115, .inl g116)), (r126, .inr (0, [.ref u127, .int (Int32.ofInt (0)), .int (Int32.ofInt (0)), .int (Int32.ofInt (0))])), (u127, .inl (D.2.2.2, k128, .inl g129)), (r136, .inr (0, [.ref u137, .int (Int32.ofInt (0)), .int (Int32.ofInt (0)), .int (Int32.ofInt (0))])), (u137, .inl (D.2.2.2, k138, .inl g139)), (r181, .inr (0, [.ref u182, .int (Int32.ofInt (0)), .int (Int32.ofInt (0)), .int (Int32.ofInt (0))])), (u182, .inl (D.2.2.2, k183, .inl g184)), (r194, .inr (0, [.ref u195, .int (Int32.ofInt (0)), .int (Int32.ofInt (0)), .int (Int32.ofInt (0))])), (u195, .inl (D.2.2.2, k196, .inl g197)), (r204, .inr (0, [.ref u205, .int (Int32.ofInt (0)), .int (Int32.ofInt (0)), .int (Int32.ofInt (0))])), (u205, .inl (D.2.2.2, k206, .inl g207)), (q209, .inr (1, [.null, .int (Int32.ofInt (0)), .int (Int32.ofInt (0)), .int (Int32.ofInt (0))]))]) rfl ?_
          refine st_dup rfl ktL_text rfl ?_
          refine st_callI (x := q209) (X' := ([], X.2)) (d' := 3) (NC' := 1) (NS' := 16) (M' := mtJ4_init_da8c8) (n := 0) (As := []) (st := [.ref q209]) (wc := [(q209, .inr (1, [.null, .int (Int32.ofInt (0)), .int (Int32.ofInt (0)), .int (Int32.ofInt (0))]))]) (wr := [(r45, .inr (0, [.ref u46, .int (Int32.ofInt (0)), .int (Int32.ofInt (0)), .int (Int32.ofInt (0))])), (u46, .inl (D.2.2.2, k47, .inl g48)), (r58, .inr (0, [.ref u59, .int (Int32.ofInt (0)), .int (Int32.ofInt (0)), .int (Int32.ofInt (0))])), (u59, .inl (D.2.2.2, k60, .inl g61)), (r68, .inr (0, [.ref u69, .int (Int32.ofInt (0)), .int (Int32.ofInt (0)), .int (Int32.ofInt (0))])), (u69, .inl (D.2.2.2, k70, .inl g71)), (r113, .inr (0, [.ref u114, .int (Int32.ofInt (0)), .int (Int32.ofInt (0)), .int (Int32.ofInt (0))])), (u114, .inl (D.2.2.2, k115, .inl g116)), (r126, .inr (0, [.ref u127, .int (Int32.ofInt (0)), .int (Int32.ofInt (0)), .int (Int32.ofInt (0))])), (u127, .inl (D.2.2.2, k128, .inl g129)), (r136, .inr (0, [.ref u137, .int (Int32.ofInt (0)), .int (Int32.ofInt (0)), .int (Int32.ofInt (0))])), (u137, .inl (D.2.2.2, k138, .inl g139)), (r181, .inr (0, [.ref u182, .int (Int32.ofInt (0)), .int (Int32.ofInt (0)), .int (Int32.ofInt (0))])), (u182, .inl (D.2.2.2, k183, .inl g184)), (r194, .inr (0, [.ref u195, .int (Int32.ofInt (0)), .int (Int32.ofInt (0)), .int (Int32.ofInt (0))])), (u195, .inl (D.2.2.2, k196, .inl g197)), (r204, .inr (0, [.ref u205, .int (Int32.ofInt (0)), .int (Int32.ofInt (0)), .int (Int32.ofInt (0))])), (u205, .inl (D.2.2.2, k206, .inl g207))]) [18] [0, 1, 2, 3, 4, 5, 6, 7, 8, 9, 10, 11, 12, 13, 14, 15, 16, 17] ktL_text rfl (st_has (n := 4224) rfl rfl) (st_has (n := 4226) rfl rfl) (st_has (n := 1018) rfl rfl) (st_has (n := 4225) rfl rfl) (by decide +kernel) rfl rfl rfl rfl (Nat.le_of_ble_eq_true rfl) (Nat.le_of_ble_eq_true rfl) (by decide) (by omega) (by omega) rfl rfl (by decide) (by decide) (by decide) ⟨rfl, fun q hq => by cases hq⟩ (tt_sbInit D X q209) (fun ws1 v hq => ?_)
          obtain ⟨rfl, q210, f211, hf211, rfl⟩ := hq
          refine st_st (st' := [.ref q209]) rfl ?_
          refine st_ws (ws' := [(r45, .inr (0, [.ref u46, .int (Int32.ofInt (0)), .int (Int32.ofInt (0)), .int (Int32.ofInt (0))])), (u46, .inl (D.2.2.2, k47, .inl g48)), (r58, .inr (0, [.ref u59, .int (Int32.ofInt (0)), .int (Int32.ofInt (0)), .int (Int32.ofInt (0))])), (u59, .inl (D.2.2.2, k60, .inl g61)), (r68, .inr (0, [.ref u69, .int (Int32.ofInt (0)), .int (Int32.ofInt (0)), .int (Int32.ofInt (0))])), (u69, .inl (D.2.2.2, k70, .inl g71)), (r113, .inr (0, [.ref u114, .int (Int32.ofInt (0)), .int (Int32.ofInt (0)), .int (Int32.ofInt (0))])), (u114, .inl (D.2.2.2, k115, .inl g116)), (r126, .inr (0, [.ref u127, .int (Int32.ofInt (0)), .int (Int32.ofInt (0)), .int (Int32.ofInt (0))])), (u127, .inl (D.2.2.2, k128, .inl g129)), (r136, .inr (0, [.ref u137, .int (Int32.ofInt (0)), .int (Int32.ofInt (0)), .int (Int32.ofInt (0))])), (u137, .inl (D.2.2.2, k138, .inl g139)), (r181, .inr (0, [.ref u182, .int (Int32.ofInt (0)), .int (Int32.ofInt (0)), .int (Int32.ofInt (0))])), (u182, .inl (D.2.2.2, k183, .inl g184)), (r194, .inr (0, [.ref u195, .int (Int32.ofInt (0)), .int (Int32.ofInt (0)), .int (Int32.ofInt (0))])), (u195, .inl (D.2.2.2, k196, .inl g197)), (r204, .inr (0, [.ref u205, .int (Int32.ofInt (0)), .int (Int32.ofInt (0)), .int (Int32.ofInt (0))])), (u205, .inl (D.2.2.2, k206, .inl g207)), (q209, .inr (1, [.ref q210, .int (Int32.ofInt (0)), .int (Int32.ofInt (0)), .int (Int32.ofInt (0))])), (q210, .inl (D.2.2.2, 16, .inl f211))]) rfl ?_
          refine st_aload 1 ktL_text rfl rfl ?_
          refine st_callV (x := q209) (Cn := "java/lang/StringBuilder") (X' := ([(r204, u205, k206)], X.2)) (d' := 5) (NC' := 1) (NS' := 2002) (M' := mtJ4_append_15ec4) (n := 1) (As := [.ref r204]) (st := []) (wc := [(q209, .inr (1, [.ref q210, .int (Int32.ofInt (0)), .int (Int32.ofInt (0)), .int (Int32.ofInt (0))])), (q210, .inl (D.2.2.2, 16, .inl f211))]) (wr := [(r45, .inr (0, [.ref u46, .int (Int32.ofInt (0)), .int (Int32.ofInt (0)), .int (Int32.ofInt (0))])), (u46, .inl (D.2.2.2, k47, .inl g48)), (r58, .inr (0, [.ref u59, .int (Int32.ofInt (0)), .int (Int32.ofInt (0)), .int (Int32.ofInt (0))])), (u59, .inl (D.2.2.2, k60, .inl g61)), (r68, .inr (0, [.ref u69, .int (Int32.ofInt (0)), .int (Int32.ofInt (0)), .int (Int32.ofInt (0))])), (u69, .inl (D.2.2.2, k70, .inl g71)), (r113, .inr (0, [.ref u114, .int (Int32.ofInt (0)), .int (Int32.ofInt (0)), .int (Int32.ofInt (0))])), (u114, .inl (D.2.2.2, k115, .inl g116)), (r126, .inr (0, [.ref u127, .int (Int32.ofInt (0)), .int (Int32.ofInt (0)), .int (Int32.ofInt (0))])), (u127, .inl (D.2.2.2, k128, .inl g129)), (r136, .inr (0, [.ref u137, .int (Int32.ofInt (0)), .int (Int32.ofInt (0)), .int (Int32.ofInt (0))])), (u137, .inl (D.2.2.2, k138, .inl g139)), (r181, .inr (0, [.ref u182, .int (Int32.ofInt (0)), .int (Int32.ofInt (0)), .int (Int32.ofInt (0))])), (u182, .inl (D.2.2.2, k183, .inl g184)), (r194, .inr (0, [.ref u195, .int (Int32.ofInt (0)), .int (Int32.ofInt (0)), .int (Int32.ofInt (0))])), (u195, .inl (D.2.2.2, k196, .inl g197)), (r204, .inr (0, [.ref u205, .int (Int32.ofInt (0)), .int (Int32.ofInt (0)), .int (Int32.ofInt (0))])), (u205, .inl (D.2.2.2, k206, .inl g207))]) [18, 19] [0, 1, 2, 3, 4, 5, 6, 7, 8, 9, 10, 11, 12, 13, 14, 15, 16, 17] ktL_text rfl ⟨(st_has (n := 5014) rfl rfl), (st_has (n := 5015) rfl rfl), (st_has (n := 1018) rfl rfl), Or.inl ⟨rfl, (st_has (n := 5016) rfl rfl)⟩⟩ (st_has (n := 5017) rfl rfl) (by decide +kernel) (Or.inl ⟨18, 1, _, _, _, rfl, rfl⟩) rfl rfl (Nat.le_of_ble_eq_true rfl) (Nat.le_of_ble_eq_true rfl) (by decide) (by omega) (by omega) rfl rfl (by decide) (by decide) (by decide) ⟨rfl, fun q hq => (by simp only [List.mem_cons, List.not_mem_nil, or_false] at hq; subst hq; exact Or.inr ⟨16, 17, _, _, _, rfl, rfl, hg207, (show (k206 : Nat) < 100000 by omega), by decide, by decide⟩)⟩ (tt_app5S D X q209 q210 (16) (0) r204 u205 (k206) f211 (by omega) hf211 (by omega)) (fun ws1 v hq => ?_)
          obtain ⟨q212, n213, f214, hf214, hn213, rfl, rfl⟩ := hq
          refine st_st (st' := [.ref q209]) rfl ?_
          refine st_ws (ws' := [(r45, .inr (0, [.ref u46, .int (Int32.ofInt (0)), .int (Int32.ofInt (0)), .int (Int32.ofInt (0))])), (u46, .inl (D.2.2.2, k47, .inl g48)), (r58, .inr (0, [.ref u59, .int (Int32.ofInt (0)), .int (Int32.ofInt (0)), .int (Int32.ofInt (0))])), (u59, .inl (D.2.2.2, k60, .inl g61)), (r68, .inr (0, [.ref u69, .int (Int32.ofInt (0)), .int (Int32.ofInt (0)), .int (Int32.ofInt (0))])), (u69, .inl (D.2.2.2, k70, .inl g71)), (r113, .inr (0, [.ref u114, .int (Int32.ofInt (0)), .int (Int32.ofInt (0)), .int (Int32.ofInt (0))])), (u114, .inl (D.2.2.2, k115, .inl g116)), (r126, .inr (0, [.ref u127, .int (Int32.ofInt (0)), .int (Int32.ofInt (0)), .int (Int32.ofInt (0))])), (u127, .inl (D.2.2.2, k128, .inl g129)), (r136, .inr (0, [.ref u137, .int (Int32.ofInt (0)), .int (Int32.ofInt (0)), .int (Int32.ofInt (0))])), (u137, .inl (D.2.2.2, k138, .inl g139)), (r181, .inr (0, [.ref u182, .int (Int32.ofInt (0)), .int (Int32.ofInt (0)), .int (Int32.ofInt (0))])), (u182, .inl (D.2.2.2, k183, .inl g184)), (r194, .inr (0, [.ref u195, .int (Int32.ofInt (0)), .int (Int32.ofInt (0)), .int (Int32.ofInt (0))])), (u195, .inl (D.2.2.2, k196, .inl g197)), (r204, .inr (0, [.ref u205, .int (Int32.ofInt (0)), .int (Int32.ofInt (0)), .int (Int32.ofInt (0))])), (u205, .inl (D.2.2.2, k206, .inl g207)), (q209, .inr (1, [.ref q212, .int (Int32.ofInt (0)), .int (Int32.ofInt (0)), .int (Int32.ofInt ((0 + (k206 : Int))))])), (q212, .inl (D.2.2.2, n213, .inl f214))]) rfl ?_
          refine st_iload_n 3 ktL_text rfl rfl ?_
          refine st_bipush ⟨by decide, by decide⟩ ktL_text rfl ?_
          refine st_iand ktL_text rfl (fun z215 ez215 => ?_)
          have hz215 : 0 ≤ z215 ∧ z215 ≤ 64 := by rw [ez215]; exact st_and_m (by decide) (by decide)
          refine st_if_ne (tgt := 134) ⟨by omega, by omega⟩ ktL_text rfl (by decide) (fun c216 => ?_) (fun c216 => ?_)
          · refine st_aload_n 4 ktL_text rfl rfl ?_
            refine st_iload_n 5 ktL_text rfl rfl ?_
            refine st_iconst ktL_text rfl ?_
            refine st_iadd (z := (k + 1)) (fz_w_id (by omega) (by omega)) ktL_text rfl ?_
            refine st_callS (X' := ([], X.2)) (d' := 1) (NC' := 0) (NS' := 0) (M' := mtL_at) (n := 2) (As := [.ref X.2.2.2.1, .int (Int32.ofInt ((k + 1)))]) (st := [.ref q209]) (wc := []) (wr := [(r45, .inr (0, [.ref u46, .int (Int32.ofInt (0)), .int (Int32.ofInt (0)), .int (Int32.ofInt (0))])), (u46, .inl (D.2.2.2, k47, .inl g48)), (r58, .inr (0, [.ref u59, .int (Int32.ofInt (0)), .int (Int32.ofInt (0)), .int (Int32.ofInt (0))])), (u59, .inl (D.2.2.2, k60, .inl g61)), (r68, .inr (0, [.ref u69, .int (Int32.ofInt (0)), .int (Int32.ofInt (0)), .int (Int32.ofInt (0))])), (u69, .inl (D.2.2.2, k70, .inl g71)), (r113, .inr (0, [.ref u114, .int (Int32.ofInt (0)), .int (Int32.ofInt (0)), .int (Int32.ofInt (0))])), (u114, .inl (D.2.2.2, k115, .inl g116)), (r126, .inr (0, [.ref u127, .int (Int32.ofInt (0)), .int (Int32.ofInt (0)), .int (Int32.ofInt (0))])), (u127, .inl (D.2.2.2, k128, .inl g129)), (r136, .inr (0, [.ref u137, .int (Int32.ofInt (0)), .int (Int32.ofInt (0)), .int (Int32.ofInt (0))])), (u137, .inl (D.2.2.2, k138, .inl g139)), (r181, .inr (0, [.ref u182, .int (Int32.ofInt (0)), .int (Int32.ofInt (0)), .int (Int32.ofInt (0))])), (u182, .inl (D.2.2.2, k183, .inl g184)), (r194, .inr (0, [.ref u195, .int (Int32.ofInt (0)), .int (Int32.ofInt (0)), .int (Int32.ofInt (0))])), (u195, .inl (D.2.2.2, k196, .inl g197)), (r204, .inr (0, [.ref u205, .int (Int32.ofInt (0)), .int (Int32.ofInt (0)), .int (Int32.ofInt (0))])), (u205, .inl (D.2.2.2, k206, .inl g207)), (q209, .inr (1, [.ref q212, .int (Int32.ofInt (0)), .int (Int32.ofInt (0)), .int (Int32.ofInt ((0 + (k206 : Int))))])), (q212, .inl (D.2.2.2, n213, .inl f214))]) [] [0, 1, 2, 3, 4, 5, 6, 7, 8, 9, 10, 11, 12, 13, 14, 15, 16, 17, 18, 19] ktL_text rfl (st_has (n := 4212) rfl rfl) (st_has (n := 4214) rfl rfl) (st_has (n := 1000) rfl rfl) (st_has (n := 4213) rfl rfl) (by decide +kernel) rfl rfl (Nat.le_of_ble_eq_true rfl) (Nat.le_of_ble_eq_true rfl) (by decide) (by omega) (by omega) rfl rfl (by decide) (by decide) (by decide) ⟨rfl, fun q hq => by cases hq⟩ (tt_at D X ((k + 1)) (by omega) hL) (fun ws1 v hq => ?_)
            obtain ⟨z217, hz217, rfl, rfl⟩ := hq
            refine st_st (st' := [.int (Int32.ofInt (z217)), .ref q209]) rfl ?_
            refine st_ws (ws' := [(r45, .inr (0, [.ref u46, .int (Int32.ofInt (0)), .int (Int32.ofInt (0)), .int (Int32.ofInt (0))])), (u46, .inl (D.2.2.2, k47, .inl g48)), (r58, .inr (0, [.ref u59, .int (Int32.ofInt (0)), .int (Int32.ofInt (0)), .int (Int32.ofInt (0))])), (u59, .inl (D.2.2.2, k60, .inl g61)), (r68, .inr (0, [.ref u69, .int (Int32.ofInt (0)), .int (Int32.ofInt (0)), .int (Int32.ofInt (0))])), (u69, .inl (D.2.2.2, k70, .inl g71)), (r113, .inr (0, [.ref u114, .int (Int32.ofInt (0)), .int (Int32.ofInt (0)), .int (Int32.ofInt (0))])), (u114, .inl (D.2.2.2, k115, .inl g116)), (r126, .inr (0, [.ref u127, .int (Int32.ofInt (0)), .int (Int32.ofInt (0)), .int (Int32.ofInt (0))])), (u127, .inl (D.2.2.2, k128, .inl g129)), (r136, .inr (0, [.ref u137, .int (Int32.ofInt (0)), .int (Int32.ofInt (0)), .int (Int32.ofInt (0))])), (u137, .inl (D.2.2.2, k138, .inl g139)), (r181, .inr (0, [.ref u182, .int (Int32.ofInt (0)), .int (Int32.ofInt (0)), .int (Int32.ofInt (0))])), (u182, .inl (D.2.2.2, k183, .inl g184)), (r194, .inr (0, [.ref u195, .int (Int32.ofInt (0)), .int (Int32.ofInt (0)), .int (Int32.ofInt (0))])), (u195, .inl (D.2.2.2, k196, .inl g197)), (r204, .inr (0, [.ref u205, .int (Int32.ofInt (0)), .int (Int32.ofInt (0)), .int (Int32.ofInt (0))])), (u205, .inl (D.2.2.2, k206, .inl g207)), (q209, .inr (1, [.ref q212, .int (Int32.ofInt (0)), .int (Int32.ofInt (0)), .int (Int32.ofInt ((0 + (k206 : Int))))])), (q212, .inl (D.2.2.2, n213, .inl f214))]) rfl ?_
            refine st_bipush ⟨by decide, by decide⟩ ktL_text rfl ?_
            refine st_ishr ktL_text rfl (fun z218 hz218 => ?_)
            refine st_iload_n 3 ktL_text rfl rfl ?_
            refine st_bipush ⟨by decide, by decide⟩ ktL_text rfl ?_
            refine st_ishr ktL_text rfl (fun z219 hz219 => ?_)
            refine st_callS (X' := (kss ca cv, X.2)) (d' := 8) (NC' := 40) (NS' := 40000) (M' := mtL_says) (n := 2) (As := [.int (Int32.ofInt (z218)), .int (Int32.ofInt (z219))]) (st := [.ref q209]) (wc := []) (wr := [(r45, .inr (0, [.ref u46, .int (Int32.ofInt (0)), .int (Int32.ofInt (0)), .int (Int32.ofInt (0))])), (u46, .inl (D.2.2.2, k47, .inl g48)), (r58, .inr (0, [.ref u59, .int (Int32.ofInt (0)), .int (Int32.ofInt (0)), .int (Int32.ofInt (0))])), (u59, .inl (D.2.2.2, k60, .inl g61)), (r68, .inr (0, [.ref u69, .int (Int32.ofInt (0)), .int (Int32.ofInt (0)), .int (Int32.ofInt (0))])), (u69, .inl (D.2.2.2, k70, .inl g71)), (r113, .inr (0, [.ref u114, .int (Int32.ofInt (0)), .int (Int32.ofInt (0)), .int (Int32.ofInt (0))])), (u114, .inl (D.2.2.2, k115, .inl g116)), (r126, .inr (0, [.ref u127, .int (Int32.ofInt (0)), .int (Int32.ofInt (0)), .int (Int32.ofInt (0))])), (u127, .inl (D.2.2.2, k128, .inl g129)), (r136, .inr (0, [.ref u137, .int (Int32.ofInt (0)), .int (Int32.ofInt (0)), .int (Int32.ofInt (0))])), (u137, .inl (D.2.2.2, k138, .inl g139)), (r181, .inr (0, [.ref u182, .int (Int32.ofInt (0)), .int (Int32.ofInt (0)), .int (Int32.ofInt (0))])), (u182, .inl (D.2.2.2, k183, .inl g184)), (r194, .inr (0, [.ref u195, .int (Int32.ofInt (0)), .int (Int32.ofInt (0)), .int (Int32.ofInt (0))])), (u195, .inl (D.2.2.2, k196, .inl g197)), (r204, .inr (0, [.ref u205, .int (Int32.ofInt (0)), .int (Int32.ofInt (0)), .int (Int32.ofInt (0))])), (u205, .inl (D.2.2.2, k206, .inl g207)), (q209, .inr (1, [.ref q212, .int (Int32.ofInt (0)), .int (Int32.ofInt (0)), .int (Int32.ofInt ((0 + (k206 : Int))))])), (q212, .inl (D.2.2.2, n213, .inl f214))]) [] [0, 1, 2, 3, 4, 5, 6, 7, 8, 9, 10, 11, 12, 13, 14, 15, 16, 17, 18, 19] ktL_text rfl (st_has (n := 5128) rfl rfl) (st_has (n := 5130) rfl rfl) (st_has (n := 1000) rfl rfl) (st_has (n := 5129) rfl rfl) (by decide +kernel) rfl rfl (Nat.le_of_ble_eq_true rfl) (Nat.le_of_ble_eq_true rfl) (by decide) (by omega) (by omega) rfl rfl (by decide) (by decide) (by decide) ⟨rfl, fun q hq => Or.inl hq⟩ (tt_says D X ca cv hX (z218) (z219) ⟨by omega, by omega⟩ ⟨by omega, by omega⟩) (fun ws1 v hq => ?_)
            obtain ⟨r220, u221, k222, g223, hg223, hk222, rfl, rfl⟩ := hq
            refine st_st (st' := [.ref r220, .ref q209]) rfl ?_
            refine st_ws (ws' := [(r45, .inr (0, [.ref u46, .int (Int32.ofInt (0)), .int (Int32.ofInt (0)), .int (Int32.ofInt (0))])), (u46, .inl (D.2.2.2, k47, .inl g48)), (r58, .inr (0, [.ref u59, .int (Int32.ofInt (0)), .int (Int32.ofInt (0)), .int (Int32.ofInt (0))])), (u59, .inl (D.2.2.2, k60, .inl g61)), (r68, .inr (0, [.ref u69, .int (Int32.ofInt (0)), .int (Int32.ofInt (0)), .int (Int32.ofInt (0))])), (u69, .inl (D.2.2.2, k70, .inl g71)), (r113, .inr (0, [.ref u114, .int (Int32.ofInt (0)), .int (Int32.ofInt (0)), .int (Int32.ofInt (0))])), (u114, .inl (D.2.2.2, k115, .inl g116)), (r126, .inr (0, [.ref u127, .int (Int32.ofInt (0)), .int (Int32.ofInt (0)), .int (Int32.ofInt (0))])), (u127, .inl (D.2.2.2, k128, .inl g129)), (r136, .inr (0, [.ref u137, .int (Int32.ofInt (0)), .int (Int32.ofInt (0)), .int (Int32.ofInt (0))])), (u137, .inl (D.2.2.2, k138, .inl g139)), (r181, .inr (0, [.ref u182, .int (Int32.ofInt (0)), .int (Int32.ofInt (0)), .int (Int32.ofInt (0))])), (u182, .inl (D.2.2.2, k183, .inl g184)), (r194, .inr (0, [.ref u195, .int (Int32.ofInt (0)), .int (Int32.ofInt (0)), .int (Int32.ofInt (0))])), (u195, .inl (D.2.2.2, k196, .inl g197)), (r204, .inr (0, [.ref u205, .int (Int32.ofInt (0)), .int (Int32.ofInt (0)), .int (Int32.ofInt (0))])), (u205, .inl (D.2.2.2, k206, .inl g207)), (q209, .inr (1, [.ref q212, .int (Int32.ofInt (0)), .int (Int32.ofInt (0)), .int (Int32.ofInt ((0 + (k206 : Int))))])), (q212, .inl (D.2.2.2, n213, .inl f214)), (r220, .inr (0, [.ref u221, .int (Int32.ofInt (0)), .int (Int32.ofInt (0)), .int (Int32.ofInt (0))])), (u221, .inl (D.2.2.2, k222, .inl g223))]) rfl ?_
            refine st_callV (x := q209) (Cn := "java/lang/StringBuilder") (X' := ([(r220, u221, k222)], X.2)) (d' := 5) (NC' := 1) (NS' := 2002) (M' := mtJ4_append_15ec4) (n := 1) (As := [.ref r220]) (st := []) (wc := [(q209, .inr (1, [.ref q212, .int (Int32.ofInt (0)), .int (Int32.ofInt (0)), .int (Int32.ofInt ((0 + (k206 : Int))))])), (q212, .inl (D.2.2.2, n213, .inl f214))]) (wr := [(r45, .inr (0, [.ref u46, .int (Int32.ofInt (0)), .int (Int32.ofInt (0)), .int (Int32.ofInt (0))])), (u46, .inl (D.2.2.2, k47, .inl g48)), (r58, .inr (0, [.ref u59, .int (Int32.ofInt (0)), .int (Int32.ofInt (0)), .int (Int32.ofInt (0))])), (u59, .inl (D.2.2.2, k60, .inl g61)), (r68, .inr (0, [.ref u69, .int (Int32.ofInt (0)), .int (Int32.ofInt (0)), .int (Int32.ofInt (0))])), (u69, .inl (D.2.2.2, k70, .inl g71)), (r113, .inr (0, [.ref u114, .int (Int32.ofInt (0)), .int (Int32.ofInt (0)), .int (Int32.ofInt (0))])), (u114, .inl (D.2.2.2, k115, .inl g116)), (r126, .inr (0, [.ref u127, .int (Int32.ofInt (0)), .int (Int32.ofInt (0)), .int (Int32.ofInt (0))])), (u127, .inl (D.2.2.2, k128, .inl g129)), (r136, .inr (0, [.ref u137, .int (Int32.ofInt (0)), .int (Int32.ofInt (0)), .int (Int32.ofInt (0))])), (u137, .inl (D.2.2.2, k138, .inl g139)), (r181, .inr (0, [.ref u182, .int (Int32.ofInt (0)), .int (Int32.ofInt (0)), .int (Int32.ofInt (0))])), (u182, .inl (D.2.2.2, k183, .inl g184)), (r194, .inr (0, [.ref u195, .int (Int32.ofInt (0)), .int (Int32.ofInt (0)), .int (Int32.ofInt (0))])), (u195, .inl (D.2.2.2, k196, .inl g197)), (r204, .inr (0, [.ref u205, .int (Int32.ofInt (0)), .int (Int32.ofInt (0)), .int (Int32.ofInt (0))])), (u205, .inl (D.2.2.2, k206, .inl g207)), (r220, .inr (0, [.ref u221, .int (Int32.ofInt (0)), .int (Int32.ofInt (0)), .int (Int32.ofInt (0))])), (u221, .inl (D.2.2.2, k222, .inl g223))]) [18, 19] [0, 1, 2, 3, 4, 5, 6, 7, 8, 9, 10, 11, 12, 13, 14, 15, 16, 17, 20, 21] ktL_text rfl ⟨(st_has (n := 5014) rfl rfl), (st_has (n := 5015) rfl rfl), (st_has (n := 1018) rfl rfl), Or.inl ⟨rfl, (st_has (n := 5016) rfl rfl)⟩⟩ (st_has (n := 5017) rfl rfl) (by decide +kernel) (Or.inl ⟨18, 1, _, _, _, rfl, rfl⟩) rfl rfl (Nat.le_of_ble_eq_true rfl) (Nat.le_of_ble_eq_true rfl) (by decide) (by omega) (by omega) rfl rfl (by decide) (by decide) (by decide) ⟨rfl, fun q hq => (by simp only [List.mem_cons, List.not_mem_nil, or_false] at hq; subst hq; exact Or.inr ⟨20, 21, _, _, _, rfl, rfl, hg223, (show (k222 : Nat) < 100000 by omega), by decide, by decide⟩)⟩ (tt_app5S D X q209 q212 (n213) ((0 + (k206 : Int))) r220 u221 (k222) f214 (by omega) hf214 (by omega)) (fun ws1 v hq => ?_)
            obtain ⟨q224, n225, f226, hf226, hn225, rfl, rfl⟩ := hq
            refine st_st (st' := [.ref q209]) rfl ?_
            refine st_ws (ws' := [(r45, .inr (0, [.ref u46, .int (Int32.ofInt (0)), .int (Int32.ofInt (0)), .int (Int32.ofInt (0))])), (u46, .inl (D.2.2.2, k47, .inl g48)), (r58, .inr (0, [.ref u59, .int (Int32.ofInt (0)), .int (Int32.ofInt (0)), .int (Int32.ofInt (0))])), (u59, .inl (D.2.2.2, k60, .inl g61)), (r68, .inr (0, [.ref u69, .int (Int32.ofInt (0)), .int (Int32.ofInt (0)), .int (Int32.ofInt (0))])), (u69, .inl (D.2.2.2, k70, .inl g71)), (r113, .inr (0, [.ref u114, .int (Int32.ofInt (0)), .int (Int32.ofInt (0)), .int (Int32.ofInt (0))])), (u114, .inl (D.2.2.2, k115, .inl g116)), (r126, .inr (0, [.ref u127, .int (Int32.ofInt (0)), .int (Int32.ofInt (0)), .int (Int32.ofInt (0))])), (u127, .inl (D.2.2.2, k128, .inl g129)), (r136, .inr (0, [.ref u137, .int (Int32.ofInt (0)), .int (Int32.ofInt (0)), .int (Int32.ofInt (0))])), (u137, .inl (D.2.2.2, k138, .inl g139)), (r181, .inr (0, [.ref u182, .int (Int32.ofInt (0)), .int (Int32.ofInt (0)), .int (Int32.ofInt (0))])), (u182, .inl (D.2.2.2, k183, .inl g184)), (r194, .inr (0, [.ref u195, .int (Int32.ofInt (0)), .int (Int32.ofInt (0)), .int (Int32.ofInt (0))])), (u195, .inl (D.2.2.2, k196, .inl g197)), (r204, .inr (0, [.ref u205, .int (Int32.ofInt (0)), .int (Int32.ofInt (0)), .int (Int32.ofInt (0))])), (u205, .inl (D.2.2.2, k206, .inl g207)), (r220, .inr (0, [.ref u221, .int (Int32.ofInt (0)), .int (Int32.ofInt (0)), .int (Int32.ofInt (0))])), (u221, .inl (D.2.2.2, k222, .inl g223)), (q209, .inr (1, [.ref q224, .int (Int32.ofInt (0)), .int (Int32.ofInt (0)), .int (Int32.ofInt (((0 + (k206 : Int)) + (k222 : Int))))])), (q224, .inl (D.2.2.2, n225, .inl f226))]) rfl ?_
            refine st_callV (x := q209) (Cn := "java/lang/StringBuilder") (X' := ([], X.2)) (d' := 6) (NC' := 2) (NS' := 2006) (M' := mtJ4_toString_0e30d) (n := 0) (As := []) (st := []) (wc := [(q209, .inr (1, [.ref q224, .int (Int32.ofInt (0)), .int (Int32.ofInt (0)), .int (Int32.ofInt (((0 + (k206 : Int)) + (k222 : Int))))])), (q224, .inl (D.2.2.2, n225, .inl f226))]) (wr := [(r45, .inr (0, [.ref u46, .int (Int32.ofInt (0)), .int (Int32.ofInt (0)), .int (Int32.ofInt (0))])), (u46, .inl (D.2.2.2, k47, .inl g48)), (r58, .inr (0, [.ref u59, .int (Int32.ofInt (0)), .int (Int32.ofInt (0)), .int (Int32.ofInt (0))])), (u59, .inl (D.2.2.2, k60, .inl g61)), (r68, .inr (0, [.ref u69, .int (Int32.ofInt (0)), .int (Int32.ofInt (0)), .int (Int32.ofInt (0))])), (u69, .inl (D.2.2.2, k70, .inl g71)), (r113, .inr (0, [.ref u114, .int (Int32.ofInt (0)), .int (Int32.ofInt (0)), .int (Int32.ofInt (0))])), (u114, .inl (D.2.2.2, k115, .inl g116)), (r126, .inr (0, [.ref u127, .int (Int32.ofInt (0)), .int (Int32.ofInt (0)), .int (Int32.ofInt (0))])), (u127, .inl (D.2.2.2, k128, .inl g129)), (r136, .inr (0, [.ref u137, .int (Int32.ofInt (0)), .int (Int32.ofInt (0)), .int (Int32.ofInt (0))])), (u137, .inl (D.2.2.2, k138, .inl g139)), (r181, .inr (0, [.ref u182, .int (Int32.ofInt (0)), .int (Int32.ofInt (0)), .int (Int32.ofInt (0))])), (u182, .inl (D.2.2.2, k183, .inl g184)), (r194, .inr (0, [.ref u195, .int (Int32.ofInt (0)), .int (Int32.ofInt (0)), .int (Int32.ofInt (0))])), (u195, .inl (D.2.2.2, k196, .inl g197)), (r204, .inr (0, [.ref u205, .int (Int32.ofInt (0)), .int (Int32.ofInt (0)), .int (Int32.ofInt (0))])), (u205, .inl (D.2.2.2, k206, .inl g207)), (r220, .inr (0, [.ref u221, .int (Int32.ofInt (0)), .int (Int32.ofInt (0)), .int (Int32.ofInt (0))])), (u221, .inl (D.2.2.2, k222, .inl g223))]) [20, 21] [0, 1, 2, 3, 4, 5, 6, 7, 8, 9, 10, 11, 12, 13, 14, 15, 16, 17, 18, 19] ktL_text rfl ⟨(st_has (n := 5175) rfl rfl), (st_has (n := 5176) rfl rfl), (st_has (n := 1018) rfl rfl), Or.inl ⟨rfl, (st_has (n := 5177) rfl rfl)⟩⟩ (st_has (n := 5178) rfl rfl) (by decide +kernel) (Or.inl ⟨20, 1, _, _, _, rfl, rfl⟩) rfl rfl (Nat.le_of_ble_eq_true rfl) (Nat.le_of_ble_eq_true rfl) (by decide) (by omega) (by omega) rfl rfl (by decide) (by decide) (by decide) ⟨rfl, fun q hq => by cases hq⟩ (tt_toS D X q209 q224 (n225) (((0 + (k206 : Int)) + (k222 : Int))) f226 hf226 (by omega)) (fun ws1 v hq => ?_)
            obtain ⟨r227, u228, k229, g230, hg230, hk229, rfl, rfl⟩ := hq
            refine st_st (st' := [.ref r227]) rfl ?_
            refine st_ws (ws' := [(r45, .inr (0, [.ref u46, .int (Int32.ofInt (0)), .int (Int32.ofInt (0)), .int (Int32.ofInt (0))])), (u46, .inl (D.2.2.2, k47, .inl g48)), (r58, .inr (0, [.ref u59, .int (Int32.ofInt (0)), .int (Int32.ofInt (0)), .int (Int32.ofInt (0))])), (u59, .inl (D.2.2.2, k60, .inl g61)), (r68, .inr (0, [.ref u69, .int (Int32.ofInt (0)), .int (Int32.ofInt (0)), .int (Int32.ofInt (0))])), (u69, .inl (D.2.2.2, k70, .inl g71)), (r113, .inr (0, [.ref u114, .int (Int32.ofInt (0)), .int (Int32.ofInt (0)), .int (Int32.ofInt (0))])), (u114, .inl (D.2.2.2, k115, .inl g116)), (r126, .inr (0, [.ref u127, .int (Int32.ofInt (0)), .int (Int32.ofInt (0)), .int (Int32.ofInt (0))])), (u127, .inl (D.2.2.2, k128, .inl g129)), (r136, .inr (0, [.ref u137, .int (Int32.ofInt (0)), .int (Int32.ofInt (0)), .int (Int32.ofInt (0))])), (u137, .inl (D.2.2.2, k138, .inl g139)), (r181, .inr (0, [.ref u182, .int (Int32.ofInt (0)), .int (Int32.ofInt (0)), .int (Int32.ofInt (0))])), (u182, .inl (D.2.2.2, k183, .inl g184)), (r194, .inr (0, [.ref u195, .int (Int32.ofInt (0)), .int (Int32.ofInt (0)), .int (Int32.ofInt (0))])), (u195, .inl (D.2.2.2, k196, .inl g197)), (r204, .inr (0, [.ref u205, .int (Int32.ofInt (0)), .int (Int32.ofInt (0)), .int (Int32.ofInt (0))])), (u205, .inl (D.2.2.2, k206, .inl g207)), (r220, .inr (0, [.ref u221, .int (Int32.ofInt (0)), .int (Int32.ofInt (0)), .int (Int32.ofInt (0))])), (u221, .inl (D.2.2.2, k222, .inl g223)), (r227, .inr (0, [.ref u228, .int (Int32.ofInt (0)), .int (Int32.ofInt (0)), .int (Int32.ofInt (0))])), (u228, .inl (D.2.2.2, k229, .inl g230))]) rfl ?_
            refine st_astore (ls' := [(4, .ref r227), (5, .int (Int32.ofInt ((((0 + 1) + 1) + 1)))), (3, .int (Int32.ofInt (z5))), (2, .int (Int32.ofInt (z1))), (0, .ref X.2.2.2.1), (1, .int (Int32.ofInt (k)))]) ktL_text rfl (by decide) rfl ?_
            refine st_aload 0 ktL_text rfl rfl ?_
            refine st_callV (x := r227) (Cn := "java/lang/String") (X' := ([(r227, u228, k229)], X.2)) (d' := 2) (NC' := 0) (NS' := 0) (M' := mtJ0_length_8abf5) (n := 0) (As := []) (st := []) (wc := []) (wr := [(r45, .inr (0, [.ref u46, .int (Int32.ofInt (0)), .int (Int32.ofInt (0)), .int (Int32.ofInt (0))])), (u46, .inl (D.2.2.2, k47, .inl g48)), (r58, .inr (0, [.ref u59, .int (Int32.ofInt (0)), .int (Int32.ofInt (0)), .int (Int32.ofInt (0))])), (u59, .inl (D.2.2.2, k60, .inl g61)), (r68, .inr (0, [.ref u69, .int (Int32.ofInt (0)), .int (Int32.ofInt (0)), .int (Int32.ofInt (0))])), (u69, .inl (D.2.2.2, k70, .inl g71)), (r113, .inr (0, [.ref u114, .int (Int32.ofInt (0)), .int (Int32.ofInt (0)), .int (Int32.ofInt (0))])), (u114, .inl (D.2.2.2, k115, .inl g116)), (r126, .inr (0, [.ref u127, .int (Int32.ofInt (0)), .int (Int32.ofInt (0)), .int (Int32.ofInt (0))])), (u127, .inl (D.2.2.2, k128, .inl g129)), (r136, .inr (0, [.ref u137, .int (Int32.ofInt (0)), .int (Int32.ofInt (0)), .int (Int32.ofInt (0))])), (u137, .inl (D.2.2.2, k138, .inl g139)), (r181, .inr (0, [.ref u182, .int (Int32.ofInt (0)), .int (Int32.ofInt (0)), .int (Int32.ofInt (0))])), (u182, .inl (D.2.2.2, k183, .inl g184)), (r194, .inr (0, [.ref u195, .int (Int32.ofInt (0)), .int (Int32.ofInt (0)), .int (Int32.ofInt (0))])), (u195, .inl (D.2.2.2, k196, .inl g197)), (r204, .inr (0, [.ref u205, .int (Int32.ofInt (0)), .int (Int32.ofInt (0)), .int (Int32.ofInt (0))])), (u205, .inl (D.2.2.2, k206, .inl g207)), (r220, .inr (0, [.ref u221, .int (Int32.ofInt (0)), .int (Int32.ofInt (0)), .int (Int32.ofInt (0))])), (u221, .inl (D.2.2.2, k222, .inl g223)), (r227, .inr (0, [.ref u228, .int (Int32.ofInt (0)), .int (Int32.ofInt (0)), .int (Int32.ofInt (0))])), (u228, .inl (D.2.2.2, k229, .inl g230))]) [] [0, 1, 2, 3, 4, 5, 6, 7, 8, 9, 10, 11, 12, 13, 14, 15, 16, 17, 18, 19, 20, 21] ktL_text rfl ⟨(st_has (n := 6030) rfl rfl), (st_has (n := 5086) rfl rfl), (st_has (n := 1019) rfl rfl), Or.inl ⟨rfl, (st_has (n := 5087) rfl rfl)⟩⟩ (st_has (n := 5088) rfl rfl) (by decide +kernel) (Or.inl ⟨20, 0, _, _, _, rfl, rfl⟩) rfl rfl (Nat.le_of_ble_eq_true rfl) (Nat.le_of_ble_eq_true rfl) (by decide) (by omega) (by omega) rfl rfl (by decide) (by decide) (by decide) ⟨rfl, fun q hq => (by simp only [List.mem_cons, List.not_mem_nil, or_false] at hq; subst hq; exact Or.inr ⟨20, 21, _, _, _, rfl, rfl, hg230, (show (k229 : Nat) < 100000 by omega), by decide, by decide⟩)⟩ (tt_strLen D X r227 u228 (k229)) (fun ws1 v hq => ?_)
            obtain ⟨rfl, rfl⟩ := hq
            refine st_st (st' := [.int (Int32.ofInt ((k229 : Int)))]) rfl ?_
            refine st_ws (ws' := [(r45, .inr (0, [.ref u46, .int (Int32.ofInt (0)), .int (Int32.ofInt (0)), .int (Int32.ofInt (0))])), (u46, .inl (D.2.2.2, k47, .inl g48)), (r58, .inr (0, [.ref u59, .int (Int32.ofInt (0)), .int (Int32.ofInt (0)), .int (Int32.ofInt (0))])), (u59, .inl (D.2.2.2, k60, .inl g61)), (r68, .inr (0, [.ref u69, .int (Int32.ofInt (0)), .int (Int32.ofInt (0)), .int (Int32.ofInt (0))])), (u69, .inl (D.2.2.2, k70, .inl g71)), (r113, .inr (0, [.ref u114, .int (Int32.ofInt (0)), .int (Int32.ofInt (0)), .int (Int32.ofInt (0))])), (u114, .inl (D.2.2.2, k115, .inl g116)), (r126, .inr (0, [.ref u127, .int (Int32.ofInt (0)), .int (Int32.ofInt (0)), .int (Int32.ofInt (0))])), (u127, .inl (D.2.2.2, k128, .inl g129)), (r136, .inr (0, [.ref u137, .int (Int32.ofInt (0)), .int (Int32.ofInt (0)), .int (Int32.ofInt (0))])), (u137, .inl (D.2.2.2, k138, .inl g139)), (r181, .inr (0, [.ref u182, .int (Int32.ofInt (0)), .int (Int32.ofInt (0)), .int (Int32.ofInt (0))])), (u182, .inl (D.2.2.2, k183, .inl g184)), (r194, .inr (0, [.ref u195, .int (Int32.ofInt (0)), .int (Int32.ofInt (0)), .int (Int32.ofInt (0))])), (u195, .inl (D.2.2.2, k196, .inl g197)), (r204, .inr (0, [.ref u205, .int (Int32.ofInt (0)), .int (Int32.ofInt (0)), .int (Int32.ofInt (0))])), (u205, .inl (D.2.2.2, k206, .inl g207)), (r220, .inr (0, [.ref u221, .int (Int32.ofInt (0)), .int (Int32.ofInt (0)), .int (Int32.ofInt (0))])), (u221, .inl (D.2.2.2, k222, .inl g223)), (r227, .inr (0, [.ref u228, .int (Int32.ofInt (0)), .int (Int32.ofInt (0)), .int (Int32.ofInt (0))])), (u228, .inl (D.2.2.2, k229, .inl g230))]) rfl ?_
            refine st_bipush ⟨by decide, by decide⟩ ktL_text rfl ?_
            refine st_icmp_le (tgt := 174) ⟨by omega, by omega⟩ ⟨by omega, by omega⟩ ktL_text rfl (by decide) (fun c231 => ?_) (fun c231 => ?_)
            · refine st_aload 0 ktL_text rfl rfl ?_
              refine st_sub (ws' := [(r227, .inr (0, [.ref u228, .int (Int32.ofInt (0)), .int (Int32.ofInt (0)), .int (Int32.ofInt (0))])), (u228, .inl (D.2.2.2, k229, .inl g230))]) [20, 21] rfl (by decide) ?_
              exact st_areturn (ty := (.object "java/lang/String")) ktL_text rfl rfl (Or.inl ⟨_, rfl⟩) (by omega) (by omega) (Or.inr ⟨_, _, _, _, hg230, by omega, rfl, rfl⟩)
            · refine st_ldcS (tx := "m=1?7*w-a;w>5?50-a;9") (q := (ca 15)) rfl (by show _ ∈ X.2.1; rw [hX]; simp [kl]) ktL_text rfl ?_
              refine st_goto (tgt := 176) ktL_text rfl (by decide) ?_
              refine st_sub (ws' := []) [] rfl (by decide) ?_
              exact st_areturn (ty := (.object "java/lang/String")) ktL_text rfl rfl (Or.inl ⟨_, rfl⟩) (by omega) (by omega) (Or.inl ⟨_, rfl, by decide, rfl⟩)
          · refine st_ldcS (tx := "9*w-a/5-d") (q := (ca 14)) rfl (by show _ ∈ X.2.1; rw [hX]; simp [kl]) ktL_text rfl ?_
            refine st_goto (tgt := 151) ktL_text rfl (by decide) ?_
            refine st_callV (x := q209) (Cn := "java/lang/StringBuilder") (X' := ([((ca 14), (cv 14), 9)], X.2)) (d' := 5) (NC' := 1) (NS' := 2002) (M' := mtJ4_append_15ec4) (n := 1) (As := [.ref (ca 14)]) (st := []) (wc := [(q209, .inr (1, [.ref q212, .int (Int32.ofInt (0)), .int (Int32.ofInt (0)), .int (Int32.ofInt ((0 + (k206 : Int))))])), (q212, .inl (D.2.2.2, n213, .inl f214))]) (wr := [(r45, .inr (0, [.ref u46, .int (Int32.ofInt (0)), .int (Int32.ofInt (0)), .int (Int32.ofInt (0))])), (u46, .inl (D.2.2.2, k47, .inl g48)), (r58, .inr (0, [.ref u59, .int (Int32.ofInt (0)), .int (Int32.ofInt (0)), .int (Int32.ofInt (0))])), (u59, .inl (D.2.2.2, k60, .inl g61)), (r68, .inr (0, [.ref u69, .int (Int32.ofInt (0)), .int (Int32.ofInt (0)), .int (Int32.ofInt (0))])), (u69, .inl (D.2.2.2, k70, .inl g71)), (r113, .inr (0, [.ref u114, .int (Int32.ofInt (0)), .int (Int32.ofInt (0)), .int (Int32.ofInt (0))])), (u114, .inl (D.2.2.2, k115, .inl g116)), (r126, .inr (0, [.ref u127, .int (Int32.ofInt (0)), .int (Int32.ofInt (0)), .int (Int32.ofInt (0))])), (u127, .inl (D.2.2.2, k128, .inl g129)), (r136, .inr (0, [.ref u137, .int (Int32.ofInt (0)), .int (Int32.ofInt (0)), .int (Int32.ofInt (0))])), (u137, .inl (D.2.2.2, k138, .inl g139)), (r181, .inr (0, [.ref u182, .int (Int32.ofInt (0)), .int (Int32.ofInt (0)), .int (Int32.ofInt (0))])), (u182, .inl (D.2.2.2, k183, .inl g184)), (r194, .inr (0, [.ref u195, .int (Int32.ofInt (0)), .int (Int32.ofInt (0)), .int (Int32.ofInt (0))])), (u195, .inl (D.2.2.2, k196, .inl g197)), (r204, .inr (0, [.ref u205, .int (Int32.ofInt (0)), .int (Int32.ofInt (0)), .int (Int32.ofInt (0))])), (u205, .inl (D.2.2.2, k206, .inl g207))]) [18, 19] [0, 1, 2, 3, 4, 5, 6, 7, 8, 9, 10, 11, 12, 13, 14, 15, 16, 17] ktL_text rfl ⟨(st_has (n := 5014) rfl rfl), (st_has (n := 5015) rfl rfl), (st_has (n := 1018) rfl rfl), Or.inl ⟨rfl, (st_has (n := 5016) rfl rfl)⟩⟩ (st_has (n := 5017) rfl rfl) (by decide +kernel) (Or.inl ⟨18, 1, _, _, _, rfl, rfl⟩) rfl rfl (Nat.le_of_ble_eq_true rfl) (Nat.le_of_ble_eq_true rfl) (by decide) (by omega) (by omega) rfl rfl (by decide) (by decide) (by decide) ⟨rfl, fun q hq => (by simp only [List.mem_cons, List.not_mem_nil, or_false] at hq; subst hq; exact Or.inl (by simp [kss]))⟩ (tt_app5S D X q209 q212 (n213) ((0 + (k206 : Int))) (ca 14) (cv 14) (9) f214 (by omega) hf214 (by omega)) (fun ws1 v hq => ?_)
            obtain ⟨q232, n233, f234, hf234, hn233, rfl, rfl⟩ := hq
            refine st_st (st' := [.ref q209]) rfl ?_
            refine st_ws (ws' := [(r45, .inr (0, [.ref u46, .int (Int32.ofInt (0)), .int (Int32.ofInt (0)), .int (Int32.ofInt (0))])), (u46, .inl (D.2.2.2, k47, .inl g48)), (r58, .inr (0, [.ref u59, .int (Int32.ofInt (0)), .int (Int32.ofInt (0)), .int (Int32.ofInt (0))])), (u59, .inl (D.2.2.2, k60, .inl g61)), (r68, .inr (0, [.ref u69, .int (Int32.ofInt (0)), .int (Int32.ofInt (0)), .int (Int32.ofInt (0))])), (u69, .inl (D.2.2.2, k70, .inl g71)), (r113, .inr (0, [.ref u114, .int (Int32.ofInt (0)), .int (Int32.ofInt (0)), .int (Int32.ofInt (0))])), (u114, .inl (D.2.2.2, k115, .inl g116)), (r126, .inr (0, [.ref u127, .int (Int32.ofInt (0)), .int (Int32.ofInt (0)), .int (Int32.ofInt (0))])), (u127, .inl (D.2.2.2, k128, .inl g129)), (r136, .inr (0, [.ref u137, .int (Int32.ofInt (0)), .int (Int32.ofInt (0)), .int (Int32.ofInt (0))])), (u137, .inl (D.2.2.2, k138, .inl g139)), (r181, .inr (0, [.ref u182, .int (Int32.ofInt (0)), .int (Int32.ofInt (0)), .int (Int32.ofInt (0))])), (u182, .inl (D.2.2.2, k183, .inl g184)), (r194, .inr (0, [.ref u195, .int (Int32.ofInt (0)), .int (Int32.ofInt (0)), .int (Int32.ofInt (0))])), (u195, .inl (D.2.2.2, k196, .inl g197)), (r204, .inr (0, [.ref u205, .int (Int32.ofInt (0)), .int (Int32.ofInt (0)), .int (Int32.ofInt (0))])), (u205, .inl (D.2.2.2, k206, .inl g207)), (q209, .inr (1, [.ref q232, .int (Int32.ofInt (0)), .int (Int32.ofInt (0)), .int (Int32.ofInt (((0 + (k206 : Int)) + (9 : Int))))])), (q232, .inl (D.2.2.2, n233, .inl f234))]) rfl ?_
            refine st_callV (x := q209) (Cn := "java/lang/StringBuilder") (X' := ([], X.2)) (d' := 6) (NC' := 2) (NS' := 2006) (M' := mtJ4_toString_0e30d) (n := 0) (As := []) (st := []) (wc := [(q209, .inr (1, [.ref q232, .int (Int32.ofInt (0)), .int (Int32.ofInt (0)), .int (Int32.ofInt (((0 + (k206 : Int)) + (9 : Int))))])), (q232, .inl (D.2.2.2, n233, .inl f234))]) (wr := [(r45, .inr (0, [.ref u46, .int (Int32.ofInt (0)), .int (Int32.ofInt (0)), .int (Int32.ofInt (0))])), (u46, .inl (D.2.2.2, k47, .inl g48)), (r58, .inr (0, [.ref u59, .int (Int32.ofInt (0)), .int (Int32.ofInt (0)), .int (Int32.ofInt (0))])), (u59, .inl (D.2.2.2, k60, .inl g61)), (r68, .inr (0, [.ref u69, .int (Int32.ofInt (0)), .int (Int32.ofInt (0)), .int (Int32.ofInt (0))])), (u69, .inl (D.2.2.2, k70, .inl g71)), (r113, .inr (0, [.ref u114, .int (Int32.ofInt (0)), .int (Int32.ofInt (0)), .int (Int32.ofInt (0))])), (u114, .inl (D.2.2.2, k115, .inl g116)), (r126, .inr (0, [.ref u127, .int (Int32.ofInt (0)), .int (Int32.ofInt (0)), .int (Int32.ofInt (0))])), (u127, .inl (D.2.2.2, k128, .inl g129)), (r136, .inr (0, [.ref u137, .int (Int32.ofInt (0)), .int (Int32.ofInt (0)), .int (Int32.ofInt (0))])), (u137, .inl (D.2.2.2, k138, .inl g139)), (r181, .inr (0, [.ref u182, .int (Int32.ofInt (0)), .int (Int32.ofInt (0)), .int (Int32.ofInt (0))])), (u182, .inl (D.2.2.2, k183, .inl g184)), (r194, .inr (0, [.ref u195, .int (Int32.ofInt (0)), .int (Int32.ofInt (0)), .int (Int32.ofInt (0))])), (u195, .inl (D.2.2.2, k196, .inl g197)), (r204, .inr (0, [.ref u205, .int (Int32.ofInt (0)), .int (Int32.ofInt (0)), .int (Int32.ofInt (0))])), (u205, .inl (D.2.2.2, k206, .inl g207))]) [18, 19] [0, 1, 2, 3, 4, 5, 6, 7, 8, 9, 10, 11, 12, 13, 14, 15, 16, 17] ktL_text rfl ⟨(st_has (n := 5175) rfl rfl), (st_has (n := 5176) rfl rfl), (st_has (n := 1018) rfl rfl), Or.inl ⟨rfl, (st_has (n := 5177) rfl rfl)⟩⟩ (st_has (n := 5178) rfl rfl) (by decide +kernel) (Or.inl ⟨18, 1, _, _, _, rfl, rfl⟩) rfl rfl (Nat.le_of_ble_eq_true rfl) (Nat.le_of_ble_eq_true rfl) (by decide) (by omega) (by omega) rfl rfl (by decide) (by decide) (by decide) ⟨rfl, fun q hq => by cases hq⟩ (tt_toS D X q209 q232 (n233) (((0 + (k206 : Int)) + (9 : Int))) f234 hf234 (by omega)) (fun ws1 v hq => ?_)
            obtain ⟨r235, u236, k237, g238, hg238, hk237, rfl, rfl⟩ := hq
            refine st_st (st' := [.ref r235]) rfl ?_
            refine st_ws (ws' := [(r45, .inr (0, [.ref u46, .int (Int32.ofInt (0)), .int (Int32.ofInt (0)), .int (Int32.ofInt (0))])), (u46, .inl (D.2.2.2, k47, .inl g48)), (r58, .inr (0, [.ref u59, .int (Int32.ofInt (0)), .int (Int32.ofInt (0)), .int (Int32.ofInt (0))])), (u59, .inl (D.2.2.2, k60, .inl g61)), (r68, .inr (0, [.ref u69, .int (Int32.ofInt (0)), .int (Int32.ofInt (0)), .int (Int32.ofInt (0))])), (u69, .inl (D.2.2.2, k70, .inl g71)), (r113, .inr (0, [.ref u114, .int (Int32.ofInt (0)), .int (Int32.ofInt (0)), .int (Int32.ofInt (0))])), (u114, .inl (D.2.2.2, k115, .inl g116)), (r126, .inr (0, [.ref u127, .int (Int32.ofInt (0)), .int (Int32.ofInt (0)), .int (Int32.ofInt (0))])), (u127, .inl (D.2.2.2, k128, .inl g129)), (r136, .inr (0, [.ref u137, .int (Int32.ofInt (0)), .int (Int32.ofInt (0)), .int (Int32.ofInt (0))])), (u137, .inl (D.2.2.2, k138, .inl g139)), (r181, .inr (0, [.ref u182, .int (Int32.ofInt (0)), .int (Int32.ofInt (0)), .int (Int32.ofInt (0))])), (u182, .inl (D.2.2.2, k183, .inl g184)), (r194, .inr (0, [.ref u195, .int (Int32.ofInt (0)), .int (Int32.ofInt (0)), .int (Int32.ofInt (0))])), (u195, .inl (D.2.2.2, k196, .inl g197)), (r204, .inr (0, [.ref u205, .int (Int32.ofInt (0)), .int (Int32.ofInt (0)), .int (Int32.ofInt (0))])), (u205, .inl (D.2.2.2, k206, .inl g207)), (r235, .inr (0, [.ref u236, .int (Int32.ofInt (0)), .int (Int32.ofInt (0)), .int (Int32.ofInt (0))])), (u236, .inl (D.2.2.2, k237, .inl g238))]) rfl ?_
            refine st_astore (ls' := [(4, .ref r235), (5, .int (Int32.ofInt ((((0 + 1) + 1) + 1)))), (3, .int (Int32.ofInt (z5))), (2, .int (Int32.ofInt (z1))), (0, .ref X.2.2.2.1), (1, .int (Int32.ofInt (k)))]) ktL_text rfl (by decide) rfl ?_
            refine st_aload 0 ktL_text rfl rfl ?_
            refine st_callV (x := r235) (Cn := "java/lang/String") (X' := ([(r235, u236, k237)], X.2)) (d' := 2) (NC' := 0) (NS' := 0) (M' := mtJ0_length_8abf5) (n := 0) (As := []) (st := []) (wc := []) (wr := [(r45, .inr (0, [.ref u46, .int (Int32.ofInt (0)), .int (Int32.ofInt (0)), .int (Int32.ofInt (0))])), (u46, .inl (D.2.2.2, k47, .inl g48)), (r58, .inr (0, [.ref u59, .int (Int32.ofInt (0)), .int (Int32.ofInt (0)), .int (Int32.ofInt (0))])), (u59, .inl (D.2.2.2, k60, .inl g61)), (r68, .inr (0, [.ref u69, .int (Int32.ofInt (0)), .int (Int32.ofInt (0)), .int (Int32.ofInt (0))])), (u69, .inl (D.2.2.2, k70, .inl g71)), (r113, .inr (0, [.ref u114, .int (Int32.ofInt (0)), .int (Int32.ofInt (0)), .int (Int32.ofInt (0))])), (u114, .inl (D.2.2.2, k115, .inl g116)), (r126, .inr (0, [.ref u127, .int (Int32.ofInt (0)), .int (Int32.ofInt (0)), .int (Int32.ofInt (0))])), (u127, .inl (D.2.2.2, k128, .inl g129)), (r136, .inr (0, [.ref u137, .int (Int32.ofInt (0)), .int (Int32.ofInt (0)), .int (Int32.ofInt (0))])), (u137, .inl (D.2.2.2, k138, .inl g139)), (r181, .inr (0, [.ref u182, .int (Int32.ofInt (0)), .int (Int32.ofInt (0)), .int (Int32.ofInt (0))])), (u182, .inl (D.2.2.2, k183, .inl g184)), (r194, .inr (0, [.ref u195, .int (Int32.ofInt (0)), .int (Int32.ofInt (0)), .int (Int32.ofInt (0))])), (u195, .inl (D.2.2.2, k196, .inl g197)), (r204, .inr (0, [.ref u205, .int (Int32.ofInt (0)), .int (Int32.ofInt (0)), .int (Int32.ofInt (0))])), (u205, .inl (D.2.2.2, k206, .inl g207)), (r235, .inr (0, [.ref u236, .int (Int32.ofInt (0)), .int (Int32.ofInt (0)), .int (Int32.ofInt (0))])), (u236, .inl (D.2.2.2, k237, .inl g238))]) [] [0, 1, 2, 3, 4, 5, 6, 7, 8, 9, 10, 11, 12, 13, 14, 15, 16, 17, 18, 19] ktL_text rfl ⟨(st_has (n := 6030) rfl rfl), (st_has (n := 5086) rfl rfl), (st_has (n := 1019) rfl rfl), Or.inl ⟨rfl, (st_has (n := 5087) rfl rfl)⟩⟩ (st_has (n := 5088) rfl rfl) (by decide +kernel) (Or.inl ⟨18, 0, _, _, _, rfl, rfl⟩) rfl rfl (Nat.le_of_ble_eq_true rfl) (Nat.le_of_ble_eq_true rfl) (by decide) (by omega) (by omega) rfl rfl (by decide) (by decide) (by decide) ⟨rfl, fun q hq => (by simp only [List.mem_cons, List.not_mem_nil, or_false] at hq; subst hq; exact Or.inr ⟨18, 19, _, _, _, rfl, rfl, hg238, (show (k237 : Nat) < 100000 by omega), by decide, by decide⟩)⟩ (tt_strLen D X r235 u236 (k237)) (fun ws1 v hq => ?_)
            obtain ⟨rfl, rfl⟩ := hq
            refine st_st (st' := [.int (Int32.ofInt ((k237 : Int)))]) rfl ?_
            refine st_ws (ws' := [(r45, .inr (0, [.ref u46, .int (Int32.ofInt (0)), .int (Int32.ofInt (0)), .int (Int32.ofInt (0))])), (u46, .inl (D.2.2.2, k47, .inl g48)), (r58, .inr (0, [.ref u59, .int (Int32.ofInt (0)), .int (Int32.ofInt (0)), .int (Int32.ofInt (0))])), (u59, .inl (D.2.2.2, k60, .inl g61)), (r68, .inr (0, [.ref u69, .int (Int32.ofInt (0)), .int (Int32.ofInt (0)), .int (Int32.ofInt (0))])), (u69, .inl (D.2.2.2, k70, .inl g71)), (r113, .inr (0, [.ref u114, .int (Int32.ofInt (0)), .int (Int32.ofInt (0)), .int (Int32.ofInt (0))])), (u114, .inl (D.2.2.2, k115, .inl g116)), (r126, .inr (0, [.ref u127, .int (Int32.ofInt (0)), .int (Int32.ofInt (0)), .int (Int32.ofInt (0))])), (u127, .inl (D.2.2.2, k128, .inl g129)), (r136, .inr (0, [.ref u137, .int (Int32.ofInt (0)), .int (Int32.ofInt (0)), .int (Int32.ofInt (0))])), (u137, .inl (D.2.2.2, k138, .inl g139)), (r181, .inr (0, [.ref u182, .int (Int32.ofInt (0)), .int (Int32.ofInt (0)), .int (Int32.ofInt (0))])), (u182, .inl (D.2.2.2, k183, .inl g184)), (r194, .inr (0, [.ref u195, .int (Int32.ofInt (0)), .int (Int32.ofInt (0)), .int (Int32.ofInt (0))])), (u195, .inl (D.2.2.2, k196, .inl g197)), (r204, .inr (0, [.ref u205, .int (Int32.ofInt (0)), .int (Int32.ofInt (0)), .int (Int32.ofInt (0))])), (u205, .inl (D.2.2.2, k206, .inl g207)), (r235, .inr (0, [.ref u236, .int (Int32.ofInt (0)), .int (Int32.ofInt (0)), .int (Int32.ofInt (0))])), (u236, .inl (D.2.2.2, k237, .inl g238))]) rfl ?_
            refine st_bipush ⟨by decide, by decide⟩ ktL_text rfl ?_
            refine st_icmp_le (tgt := 174) ⟨by omega, by omega⟩ ⟨by omega, by omega⟩ ktL_text rfl (by decide) (fun c239 => ?_) (fun c239 => ?_)
            · refine st_aload 0 ktL_text rfl rfl ?_
              refine st_sub (ws' := [(r235, .inr (0, [.ref u236, .int (Int32.ofInt (0)), .int (Int32.ofInt (0)), .int (Int32.ofInt (0))])), (u236, .inl (D.2.2.2, k237, .inl g238))]) [18, 19] rfl (by decide) ?_
              exact st_areturn (ty := (.object "java/lang/String")) ktL_text rfl rfl (Or.inl ⟨_, rfl⟩) (by omega) (by omega) (Or.inr ⟨_, _, _, _, hg238, by omega, rfl, rfl⟩)
            · refine st_ldcS (tx := "m=1?7*w-a;w>5?50-a;9") (q := (ca 15)) rfl (by show _ ∈ X.2.1; rw [hX]; simp [kl]) ktL_text rfl ?_
              refine st_goto (tgt := 176) ktL_text rfl (by decide) ?_
              refine st_sub (ws' := []) [] rfl (by decide) ?_
              exact st_areturn (ty := (.object "java/lang/String")) ktL_text rfl rfl (Or.inl ⟨_, rfl⟩) (by omega) (by omega) (Or.inl ⟨_, rfl, by decide, rfl⟩)
  · refine st_ldcS (tx := "") (q := (ca 0)) rfl (by show _ ∈ X.2.1; rw [hX]; simp [kl]) ktL_text rfl ?_
    exact st_areturn (ty := (.object "java/lang/String")) ktL_text rfl rfl (Or.inl ⟨_, rfl⟩) (by omega) (by omega) (Or.inl ⟨_, rfl, by decide, rfl⟩)
end
section
/-! ===== the handed string, in the machine of whole numbers ===== -/
theorem st_arrB {s : State} {args : Array Value} (h : (Cond.arrayClass FieldType.byte).before args s = true) : ∃ c : ClassId, ArrOfT s c .byte ∧ va_RA s c .byte := by
  obtain ⟨c, k, comp, h1, h2, h3⟩ := Cond.arrayClass_spec h
  exact ⟨c, fun n z => ⟨fun k h => (by cases h), k, h2, comp, h3⟩, h1⟩
theorem vtJ0_length_8abf5 : fz_vM mtJ0_length_8abf5 0 false := fz_vI2 5088 1019 5086 5087 (by decide +kernel) (by decide +kernel) rfl rfl rfl rfl rfl
theorem vtJ0_charAt_5068e : fz_vM mtJ0_charAt_5068e 1 false := fz_vI2 5138 1019 5136 5137 (by decide +kernel) (by decide +kernel) rfl rfl rfl rfl rfl
section FZ
variable {d : Nat} {M : fz_M} {pc a b w : Nat} {ls : List (Nat × fz_V)} {st : List fz_V} {h : fz_H} {Q : fz_H → Option fz_V → Prop}
/-- a method of java/lang/String is asked of the handed string; it answers a number and writes nothing -/
theorem fz_str {d' idx n : Nat} {M' : fz_M} {As : List fz_V} {P : Int → Prop} {Q0 : va_W → Option Value → Prop} (hM : fz_okM M = true) (hc : fz_at M.2.2.2.2 pc = some (.invokevirtual idx, 3, a, b, w)) (hb2 : fz_nth fz_ms b = some M'.1) (hv : fz_vM M' n false) (hcl : M'.1.cls = "java/lang/String")
    (hn : As.length = n) (hL : ∀ (ad : Nat → Nat) (r : Nat), (lg_sl (.ref r :: As.map (fz_cv ad))).length ≤ M'.2.2.1) (hcap : (st.map fz_cat).sum ≤ 8) (hd : d' + 1 ≤ d)
    (hB : ∀ (D : st_D) (X : st_Xt) (r q : Nat) (ad : Nat → Nat), st_R D ([(r, q, (h 205 100000).toNat)], X.2) d' 0 0 M' 0 (lv_args 0 (.ref r :: As.map (fz_cv ad))) [] [] 0 0 Q0)
    (hQ : ∀ ws v, Q0 ws v → ∃ x : Int, (-2147483648 ≤ x ∧ x < 2147483648) ∧ P x ∧ v = some (.int (Int32.ofInt x))) (k : ∀ x, P x → fz_R d M (pc + 3) ls (fz_i x :: st) h Q) : fz_R d M pc ls (As.reverse ++ fz_r 205 :: st) h Q := by
  intro E p l e R s m args below meth c cells slots Qf C hend H locs lsc hW hs hl hh
  have hq := List.all_eq_true.mp hM _ (fz_at_mem hc)
  unfold fz_okI at hq
  rw [Bool.and_eq_true] at hq
  have hq2 := hq.2
  dsimp only at hq2
  rw [hb2] at hq2
  have hml := fz_isM_spec hq2
  obtain ⟨v1, v2, v3, v4, v5, v6, v79, v8⟩ := hv
  rw [if_neg (by decide)] at v79
  obtain ⟨v7, v9⟩ := v79
  have hts := C.2.2.2.2.2.1
  have hK := C.2.2.2.2.2.2.2.2.2.1
  have hSt := C.2.2.2.2.2.2.2.2.2.2.2.2
  obtain ⟨cB, hB1, hB2⟩ := st_arrB (hts _ st_tB)
  have hK2 : va_K (fz_dA E) vwCl (st_ty (fz_dA E, E.2.2.1, E.2.2.2.1, cB)) s := ⟨hK.1, fun k q hk => by
    match k, hk with
    | 0, hk => exact hK.2 0 q hk
    | 1, hk => exact hK.2 1 q hk
    | 2, hk => cases hk; exact ⟨hB1, hB2⟩
    | k + 3, hk => simp at hk⟩
  have htc := hW.2.2.2.2 205 (by decide)
  have hX0 : st_ok (fz_X E) (fz_A E) s H := hSt.2.2.1.kept hW.2.2.1.2.1
  have hX1 := (hX0.wide).narrow (B := va_A [] H.size) (fun q hq => by
    rcases hq with ⟨k9, e9, h9⟩ | h9
    · simp at h9
    · exact Or.inr h9)
  have hsS := hSt.2.2.1.2.1 (fz_ad E 205, fz_ad E 206, (fz_tc E 205 100000).toNat) (by simp [fz_X])
  obtain ⟨f9, g1, -⟩ := hsS
  have hrecv := va_Orecv g1 hW.2.2.1
  rw [← hcl] at hrecv
  have hB9 := hB (fz_dA E, E.2.2.1, E.2.2.2.1, cB) (fz_X E) (fz_ad E 205) (fz_ad E 206) (fz_ad E)
  have e9 : (([(fz_ad E 205, fz_ad E 206, (h 205 100000).toNat)], (fz_X E).2) : st_Xt) = fz_X E := by rw [htc]; rfl
  rw [e9] at hB9
  have hMet := st_met (M := M') v1 (hL (fz_ad E) (fz_ad E 205)) hB9 H.size l
  have hgood : GoodIn fz_tb (wsV M.1.cls idx M'.1.cls M'.1 (fz_wd M')) := fz_good M' v5 _ (by
    intro x hx
    simp only [List.mem_cons, List.not_mem_nil, or_false] at hx
    rcases hx with rfl | rfl | rfl | rfl
    · exact hml
    · exact v7
    · exact v9
    · exact v6)
  have hroom : (fz_rB d' 0 0).frames + 1 ≤ R.frames ∧ 8 + (M'.2.2.1 + 11) + (fz_rB d' 0 0).locals ≤ R.locals := by
    have := C.2.2.2.2.2.2.2.1
    have := C.2.2.2.2.2.2.2.2.1
    constructor
    · show d' + 1 ≤ R.frames; omega
    · show 8 + (M'.2.2.1 + 11) + d' * 64 ≤ R.locals
      omega
  have hcw := cwV (R := R) n hts hgood rfl (rm := fz_rB d' 0 0) (mc := 0) (ms := 0) rfl rfl ⟨rfl, v2, v3, v4⟩ hroom
  have e0 : (As.reverse ++ fz_r 205 :: st).map (fz_cv (fz_ad E)) = (As.map (fz_cv (fz_ad E))).reverse ++ Value.ref (fz_ad E 205) :: st.map (fz_cv (fz_ad E)) := by
    simp [fz_cv]
  rw [e0]
  have hrun := va_runV (cells := cells) (slots := slots) (e := e) (below := below) (meth := meth) (locs := locs) (H := H) (b := fz_ad E 205) (As := As.map (fz_cv (fz_ad E))) (rest := st.map (fz_cv (fz_ad E))) (g := F0 m pc lsc ((As.map (fz_cv (fz_ad E))).reverse ++ Value.ref (fz_ad E 205) :: st.map (fz_cv (fz_ad E)))) ⟨C.1, C.2.1, C.2.2.2.1, C.2.2.2.2.1, hts⟩ hMet hcw
    ⟨st_blind, hrecv, fun U hU hWm => ⟨rfl, by rw [hU], fun k q hk => by simp at hk, va_K.moved hWm.alike hK2, ⟨fun i j p q hi => by simp at hi, fun k q hk => by simp at hk⟩, st_nN_warm hWm hSt.2.2.2, by rw [hU]; exact hX1.warm hWm⟩⟩ rfl (by rw [List.length_map]; exact hn) hh.1 rfl
    (lv_room (by rw [List.map_map, show ((fun v => Value.category v) ∘ fz_cv (fz_ad E)) = fz_cat from funext (fun v => fz_cat_cv _ v)]; exact hcap)) (fz_dec hM hc) ⟨C.2.2.2.2.2.2.2.2.2.2.1, C.2.2.2.2.2.2.2.2.2.2.2.1⟩
  intro T hT Y
  obtain ⟨v, st₀, t, T', L, h0, Y', hL9, e1, e2, ⟨⟨ws1, u1, hu9, hq, hP1, hD1⟩, hz, hk⟩, st1⟩ := hrun T hT Y
  cases hu9
  rw [h0] at hz hk
  obtain ⟨x, hx, hPx, rfl⟩ := hQ ws1 _ hq
  have hsz : H.size ≤ T'.heap.size := by rw [e1]; exact hz
  have hkp : ∀ q : Nat, q < H.size → T'.heap[q]? = H[q]? := fun q h1 => by
    rw [e1]
    exact hk q h1 (fun z => by
      rcases z with ⟨k9, e9, h9⟩ | h9
      · simp at h9
      · omega)
  have Y9 := Stand.forget (locs := locs) Y' (fun q hq => by
    rcases hL9 q hq with ⟨k9, e9, h9⟩ | h9
    · simp at h9
    · exact Nat.le_trans hW.2.2.1.1 h9)
  have hP' : va_P (fz_dA E) vwCl (fz_ws E h) T'.heap := fun k q hk2 => by
    have h8 := hW.1 k q hk2
    obtain ⟨q1, q2⟩ := q
    rcases q2 with a9 | o9
    · have h7 : H[q1]? = some (vp_cell a9.1 a9.2) := h8
      show T'.heap[q1]? = some (vp_cell a9.1 a9.2)
      rw [hkp q1 (Array.getElem?_eq_some_iff.mp h7).1]
      exact h7
    · obtain ⟨r9, y1, cell, y2, y3, y4, y5⟩ := h8
      exact ⟨r9, y1, cell, by rw [hkp q1 (Array.getElem?_eq_some_iff.mp y2).1]; exact y2, y3, y4, y5⟩
  have hS' : va_S (fz_A E) s.heap T'.heap locs := ⟨Nat.le_trans hW.2.2.1.1 hsz, fun q h1 h2 => by rw [hkp q (Nat.lt_of_lt_of_le h1 hW.2.2.1.1)]; exact hW.2.2.1.2.1 q h1 h2, hW.2.2.1.2.2⟩
  have kk := k x hPx E p l e R s m args below meth c cells slots Qf C hend T'.heap locs lsc ⟨hP', hW.2.1, hS', hW.2.2.2.1, hW.2.2.2.2⟩ (fun v hv => by
    rcases List.mem_cons.mp hv with h1 | h1
    · rw [h1]; exact hx
    · exact hs v (by simp [h1])) hl hh
  obtain ⟨t2, a1, b1⟩ := kk T' rfl Y9
  exact ⟨t2, st1 t2 a1, b1⟩
theorem fz_slen {idx : Nat} (hM : fz_okM M = true) (hc : fz_at M.2.2.2.2 pc = some (.invokevirtual idx, 3, a, b, w)) (hb2 : fz_nth fz_ms b = some mtJ0_length_8abf5.1) (h0 : 0 ≤ h 205 100000 ∧ h 205 100000 < 100000) (hcap : (st.map fz_cat).sum ≤ 8) (hd : 3 ≤ d) (k : fz_R d M (pc + 3) ls (fz_i (h 205 100000) :: st) h Q) : fz_R d M pc ls (fz_r 205 :: st) h Q :=
  fz_str (As := []) (d' := 2) (M' := mtJ0_length_8abf5) (P := fun x => x = h 205 100000) hM hc hb2 vtJ0_length_8abf5 rfl rfl (fun _ _ => Nat.le_of_ble_eq_true rfl) hcap hd (fun D X r q _ => tt_strLen D X r q _) (fun ws v hq => ⟨h 205 100000, ⟨by omega, by omega⟩, rfl, by rw [hq.1, Int.toNat_of_nonneg h0.1]⟩) (fun x hx => by rw [hx]; exact k)
theorem fz_sat {idx : Nat} {i : Int} (hM : fz_okM M = true) (hc : fz_at M.2.2.2.2 pc = some (.invokevirtual idx, 3, a, b, w)) (hb2 : fz_nth fz_ms b = some mtJ0_charAt_5068e.1) (h0 : 0 ≤ i ∧ i < h 205 100000) (hcap : (st.map fz_cat).sum ≤ 8) (hd : 5 ≤ d) (k : ∀ x : Int, 0 ≤ x ∧ x ≤ 255 → fz_R d M (pc + 3) ls (fz_i x :: st) h Q) : fz_R d M pc ls (fz_i i :: fz_r 205 :: st) h Q :=
  fz_str (As := [fz_i i]) (d' := 4) (M' := mtJ0_charAt_5068e) (P := fun x => 0 ≤ x ∧ x ≤ 255) hM hc hb2 vtJ0_charAt_5068e rfl rfl (fun _ _ => Nat.le_of_ble_eq_true rfl) hcap hd (fun D X r q _ => tt_strAt D X r q _ i (by omega)) (fun ws v hq => by
    obtain ⟨z, hz, hv, -⟩ := hq
    exact ⟨z, ⟨by omega, by omega⟩, hz, hv⟩) k
end FZ
end
section
/-! ===== from texts to numbers: objects are made and asked ===== -/
def st_EX (E : fz_E) (X : st_Xt) : Prop := X.2.2.2.1 = fz_ad E 200 ∧ X.2.2.2.2.1 = (fz_tc E 200 100000).toNat ∧ X.2.2.2.2.2.1 = (fun j => Int32.ofInt (fz_tc E 200 j)) ∧ fz_ad E 207 = X.2.2.1.1 ∧ fz_ad E 208 = X.2.2.1.2 ∧ (fz_ad E 205, fz_ad E 206, (fz_tc E 205 100000).toNat) ∈ X.1 ∧
  ("FameAhead", "LEAST", fz_ad E 201, (fz_tc E 201 100000).toNat, fun j => fz_tc E 201 j) ∈ X.2.2.2.2.2.2 ∧ ("FameAhead", "MOST", fz_ad E 202, (fz_tc E 202 100000).toNat, fun j => fz_tc E 202 j) ∈ X.2.2.2.2.2.2
theorem st_toSt {E : fz_E} {X : st_Xt} {B : Nat → Prop} {U : State} (hX : st_ok X B U U.heap) (hB : ∀ q, fz_A E q → B q) (hE : st_EX E X) (hN : st_nN U) : fz_St E U := by
  obtain ⟨e1, e2, e3, e4, e5, e6, e7, e8⟩ := hE
  have hY := hX.narrow hB
  refine ⟨fun id h1 h2 => ?_, ?_, ⟨by rw [show (fz_X E).2.2.1.1 = X.2.2.1.1 from e4, show (fz_X E).2.2.1.2 = X.2.2.1.2 from e5]; exact hY.1, fun q hq => ?_, fun q hq => (by cases hq), ?_, fun q hq => (by cases hq)⟩, hN⟩
  · rcases (show id = 200 ∨ id = 201 ∨ id = 202 by omega) with rfl | rfl | rfl
    · have := hY.2.2.2.1
      rw [e1, e2, e3] at this
      exact this
    · exact (hY.2.2.2.2 _ e7).2
    · exact (hY.2.2.2.2 _ e8).2
  · exact List.forall_mem_cons.mpr ⟨(hY.2.2.2.2 _ e7).1, List.forall_mem_cons.mpr ⟨(hY.2.2.2.2 _ e8).1, fun _ z => by cases z⟩⟩
  · have h9 : q = (fz_ad E 205, fz_ad E 206, (fz_tc E 205 100000).toNat) := by simpa [fz_X] using hq
    rw [h9]
    exact hY.2.1 _ e6
  · have := hY.2.2.2.1
    rw [e1, e2, e3] at this
    exact this
section ST
variable {D : st_D} {X : st_Xt} {d NC NS : Nat} {M : fz_M} {pc a b w : Nat} {ls ls' : List (Nat × Value)} {st st' : List Value} {ws ws' : va_W} {nc ns : Nat} {Q : va_W → Option Value → Prop}
/-- a constructor of the other machine is called for the cell that was made last -/
theorem st_callB {d' NC' NS' : Nat} {M' : fz_M} {idx q : Nat} {e : va_E} {w0 : va_W} {Q' : va_W → Prop} (hM : fz_okK M = true) (hc : fz_at M.2.2.2.2 pc = some (.invokespecial idx, 3, a, b, w))
    (hlk : Cond.methodLink M.1.cls idx M'.1 ∈ fz_tb) (h1 : Cond.code M'.1 M'.2.1 M'.2.2.1 M'.2.2.2.1 ∈ fz_tb) (h2 : Cond.initialized M'.1.cls ∈ fz_tb) (h3 : Cond.instanceMethod M'.1 ∈ fz_tb) (hpl : st_ow M' 0 = true) (hret : M'.2.2.2.1 = none) (hnm : M'.1.name = "<init>") (hcap : (st.map fun v => v.category).sum ≤ 8) (hL : (lg_sl [Value.ref q]).length ≤ M'.2.2.1) (hd : d' + 1 ≤ d) (hnc : nc + NC' ≤ NC) (hns : ns + NS' ≤ NS) (hw : ws = w0 ++ [(q, e)])
    (hB : fz_B (D.1, D.2.1, D.2.2.1) d' NC' NS' M' 0 (lv_args 0 [.ref q]) [] [(q, e)] 0 0 (fz_q Q')) (kk : ∀ ws1, Q' ws1 → st_R D X d NC NS M (pc + 3) ls st (w0 ++ ws1) (nc + NC') (ns + NS') Q) : st_R D X d NC NS M pc ls (.ref q :: st) ws nc ns Q := by
  subst hw
  obtain ⟨p1, p2, p3, p4, p5⟩ := st_ow_s hpl
  intro p l e2 R s m args below meth c Qf A C hA hX hend H locs lsc hP hD hSt hh
  have hts := C.2.2.2.2.2.1
  have r1 := C.2.2.2.2.2.2.2.2.1
  have r2 := C.2.2.2.2.2.2.2.2.2.1
  have r3 := C.2.2.2.2.2.2.2.2.2.2.1
  have r4 := C.2.2.2.2.2.2.2.2.2.2.2.1
  have hK := C.2.2.2.2.2.2.2.2.2.2.2.2.1
  have hN := C.2.2.2.2.2.2.2.2.2.2.2.2.2
  have hK2 : va_K D.1 vwCl [(D.2.1, .int), (D.2.2.1, .long)] s := hK.sub [0, 1] rfl
  have hMet := fz_bmet (D := (D.1, D.2.1, D.2.2.1)) p1 hret hnm hL hB H.size l
  have hat : (w0 ++ [(q, e)])[w0.length]? = some (q, e) := by simp
  have hC1 : [w0.length].map (fun i => (w0 ++ [(q, e)])[i]?) = [(q, e)].map some := by simp
  have hPc : va_P D.1 vwCl [(q, e)] H := hP.sub [w0.length] (by simp)
  have hDc : va_D A [(q, e)] := hD.sub [w0.length] (by simp [va_nd]) hC1
  have hFc := va_free (wc := [(q, e)]) hD hSt hA [w0.length] hC1
  have hgood : GoodIn fz_tb (fz_wd M') := by
    have := fz_good M' h1 [] (fun _ z => by cases z)
    exact this
  have hroom : (fz_rB d' NC' NS').frames + 1 ≤ R.frames ∧ 8 + (M'.2.2.1 + 11) + (fz_rB d' NC' NS').locals ≤ R.locals := st_rooms r1 r2 hd p5
  have hpre : PreS s H (va_Pc [Value.ref q] (fz_Bp (D.1, D.2.1, D.2.2.1) q e H.size)) [Value.ref q] := ⟨fz_Bp_blind, fun U hU hWm => ⟨rfl, by rw [hU], by rw [hU]; exact hPc, va_K.moved hWm.alike hK2, hDc.weaken (fun _ _ _ _ => trivial), fz_nN_warm hWm hN.1⟩⟩
  have hwd : fz_wd M' = Cond.code M'.1 M'.2.1 M'.2.2.1 none :: fz_tb := by rw [← hret]
  have hrun := va_runI (cells := nc) (slots := ns) (e := e2) (below := below) (meth := meth) (locs := locs) (H := H) (b := q) (As := []) (rest := st) (g := F0 m pc lsc (.ref q :: st)) ⟨C.1, C.2.1, C.2.2.2.1, C.2.2.2.2.1, hts⟩ hMet (cwI 0 hts hgood hwd rfl rfl (hts _ h2) (hts _ hlk) (hts _ h3) hnm ⟨p2, p3, p4⟩ hroom) hpre rfl rfl hh.1 rfl (lv_room hcap) (fz_dk hM hc) ⟨by omega, by omega⟩
  refine va_callv hrun hSt (fun x _ h => hFc x h) hFc (fun ws1 t H1 locs1 ht hvm hq hB1 hz1 hk1 hS1 => ?_)
  obtain ⟨hP1, hD1⟩ := hB1
  rw [ht] at hP1
  obtain ⟨hPj, hDj⟩ := va_join (wr := w0) (w1 := ws1) hP hD [w0.length] (List.range' 0 w0.length) hC1 (fz_map_range w0 _) (fz_nd_range' _ _) (fun i hi z => by
    have h5 := (List.mem_range'_1.mp hi).2
    have h6 : i = w0.length := by simpa using z
    omega) hk1 hFc hP1 hD1
  exact kk ws1 hq p l e2 R s m args below meth c Qf A C hA hX hend H1 locs1 lsc hPj hDj hS1 hh
/-- an object of numbers is asked -/
theorem st_callF {d' n idx o ci nf : Nat} {M' : fz_M} {As : List fz_V} {S : List Value} {E : fz_E} {h : fz_H} {Q' : fz_H → Option fz_V → Prop} (hM : fz_okK M = true) (hc : fz_at M.2.2.2.2 pc = some (.invokevirtual idx, 3, a, b, w))
    (hlk : Cond.methodLink M.1.cls idx M'.1 ∈ fz_tb) (hv : fz_vM M' n false) (hD0 : fz_dA E = D.1 ∧ E.2.2.1 = D.2.1 ∧ E.2.2.2.1 = D.2.2.1) (hw : ws = fz_ws E h) (ho : fz_sh o = (0, ci, nf)) (hci : (fz_nth vwCl ci).map (fun q => q.1) = some M'.1.cls) (hn : As.length = n) (hS : S = (As.map (fz_cv (fz_ad E))).reverse ++ .ref (fz_ad E o) :: st)
    (hL : ((fz_r o :: As).map fz_cat).sum ≤ M'.2.2.1) (hcap : (st.map fun v => v.category).sum ≤ 8) (hd : d' + 1 ≤ d) (hAs : ∀ v ∈ As, fz_nv v) (hnh : fz_nh h) (htc : ∀ id, 200 ≤ id → h id = fz_tc E id) (hE : st_EX E X) (hnc : nc ≤ NC) (hns : ns ≤ NS)
    (hR : fz_R d' M' 0 (fz_en 0 (fz_r o :: As)) [] h Q') (k : ∀ h' r, Q' h' r → fz_rok M'.2.2.2.1 r → fz_nh h' → (∀ id, 200 ≤ id → h' id = fz_tc E id) → st_R D X d NC NS M (pc + 3) ls (r.toList.map (fz_cv (fz_ad E)) ++ st) (fz_ws E h') nc ns Q) : st_R D X d NC NS M pc ls S ws nc ns Q := by
  subst hS hw
  obtain ⟨d1, d2, d3⟩ := hD0
  obtain ⟨v1, v2, v3, v4, v5, v6, v79, v8⟩ := id hv
  rw [if_neg (by decide)] at v79
  obtain ⟨v7, v9⟩ := v79
  intro p l e R s m args below meth c Qf A C hA hX hend H locs lsc hP hD hSt hh
  have hts := C.2.2.2.2.2.1
  have r1 := C.2.2.2.2.2.2.2.2.1
  have r2 := C.2.2.2.2.2.2.2.2.2.1
  have r3 := C.2.2.2.2.2.2.2.2.2.2.1
  have r4 := C.2.2.2.2.2.2.2.2.2.2.2.1
  have hK := C.2.2.2.2.2.2.2.2.2.2.2.2.1
  have hN := C.2.2.2.2.2.2.2.2.2.2.2.2.2
  rw [← d1] at hP
  have hK2 : va_K (fz_dA E) vwCl (fz_ty E) s := by
    rw [d1, show fz_ty E = [(D.2.1, .int), (D.2.2.1, .long)] by show [(E.2.2.1, FieldType.int), (E.2.2.2.1, FieldType.long)] = _; rw [d2, d3]]
    exact hK.sub [0, 1] rfl
  have hAE : ∀ q, fz_A E q → A q := by
    rintro q ⟨i, hi, rfl⟩
    exact hD.2 i _ (fz_ws_at E h hi)
  have hDE : va_D (fz_A E) (fz_ws E h) := ⟨hD.1, fun k q hk => by
    unfold fz_ws at hk
    rw [List.getElem?_map] at hk
    obtain ⟨i, hi, rfl⟩ := Option.map_eq_some_iff.mp hk
    exact ⟨i, List.mem_range.mp (List.mem_of_getElem? hi), rfl⟩⟩
  have hsA : ∀ v ∈ fz_r o :: As, fz_nv v := fun v hv => by
    rcases List.mem_cons.mp hv with h1 | h1
    · rw [h1]; trivial
    · exact hAs v h1
  have hMet := fz_met (d := d') (M := M') hv hL hsA hR E l
  have hlt : o < fz_N := fz_sh_lt ho (show (0 : Nat) ≠ 9 by decide)
  have hat := fz_ws_at E h hlt
  rw [show fz_ce E h o = .inr (ci, (List.range nf).map (fz_fv (fz_ad E) h o)) by unfold fz_ce; rw [ho, if_pos rfl]] at hat
  obtain ⟨z, hz1, hz2⟩ := Option.map_eq_some_iff.mp hci
  rw [fz_nth_eq] at hz1
  have hrecv := va_recv hK2 hP hz1 hat
  rw [hz2] at hrecv
  have hgood : GoodIn fz_tb (wsV M.1.cls idx M'.1.cls M'.1 (fz_wd M')) := fz_good M' v5 _ (by
    intro x hx
    simp only [List.mem_cons, List.not_mem_nil, or_false] at hx
    rcases hx with rfl | rfl | rfl | rfl
    · exact hlk
    · exact v7
    · exact v9
    · exact v6)
  have hroom : (fz_rm d').frames + 1 ≤ R.frames ∧ 8 + (M'.2.2.1 + 11) + (fz_rm d').locals ≤ R.locals := by
    constructor
    · show d' + 1 ≤ R.frames; omega
    · show 8 + (M'.2.2.1 + 11) + d' * 64 ≤ R.locals
      omega
  have hcw := cwV (R := R) n hts hgood rfl (rm := fz_rm d') (mc := 0) (ms := 0) rfl rfl ⟨rfl, v2, v3, v4⟩ hroom
  have hrun := va_runV (cells := nc) (slots := ns) (e := e) (below := below) (meth := meth) (locs := locs) (H := H) (b := fz_ad E o) (As := As.map (fz_cv (fz_ad E))) (rest := st) (g := F0 m pc lsc ((As.map (fz_cv (fz_ad E))).reverse ++ Value.ref (fz_ad E o) :: st)) ⟨C.1, C.2.1, C.2.2.2.1, C.2.2.2.2.1, hts⟩ hMet hcw
    ⟨fz_blind, hrecv, fun U hU hWm => ⟨by simp [fz_cv], by rw [hU]; exact hP, va_K.moved hWm.alike hK2, hDE, hnh, htc, by
      have h9 : st_ok X A U U.heap := by rw [hU]; exact (hX.kept hSt.2.1).warm hWm
      exact st_toSt h9 hAE hE (st_nN_warm hWm hN)⟩⟩ rfl (by rw [List.length_map]; exact hn) hh.1 rfl (lv_room hcap) (fz_dk hM hc) ⟨by omega, by omega⟩
  intro T hT Y
  obtain ⟨v, st₀, t, T', L, h0, Y', hL9, e1, e2, ⟨⟨h', r, hv9, hq, hrok, hP1, hD1, hnh1, hht1⟩, hz, hk⟩, st1⟩ := hrun T hT Y
  cases hv9
  rw [h0] at hz hk
  have hS' : va_S A s.heap T'.heap (locs ++ L) :=
    ⟨Nat.le_trans hSt.1 (by rw [e1]; exact hz), fun q h1 h2 => by rw [e1, hk q (Nat.lt_of_lt_of_le h1 hSt.1) (fun z => h2 (hAE q z))]; exact hSt.2.1 q h1 h2, fun q hq => by
      rcases List.mem_append.mp hq with h1 | h1
      · exact hSt.2.2 q h1
      · exact hAE _ (hL9 q h1)⟩
  have hDA : va_D A (fz_ws E h') := ⟨hD1.1, fun k q hk => hAE _ (hD1.2 k q hk)⟩
  rw [d1, ← e1] at hP1
  have kk := k h' r hq hrok hnh1 hht1 p l e R s m args below meth c Qf A C hA hX hend T'.heap (locs ++ L) lsc hP1 hDA hS' hh
  obtain ⟨t2, a1, b1⟩ := kk T' rfl Y'
  refine ⟨t2, st1 t2 ?_, b1⟩
  have e3 : (Option.map (fz_cv (fz_ad E)) r).toList ++ st = r.toList.map (fz_cv (fz_ad E)) ++ st := by
    cases r <;> simp
  show Steps p.tables e below (T'.setTop { method := m, pc := pc + 3, locals := lsc, stack := (Option.map (fz_cv (fz_ad E)) r).toList ++ st, locked := none }) t2
  rw [e3]
  exact a1
end ST
end
