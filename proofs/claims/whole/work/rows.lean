section
-- ===== PART A: goes FIRST, ahead of the names: the tables' words, and 'selects' of the private methods out of them =====
/-- a private method of a class that the tables say can be made, by its rows of tables_1 -/
def lw_okq (q : MethodName × Nat) : Prop := (q.1.cls ≠ "java/lang/invoke/MethodHandle" ∧ q.1.cls ≠ "java/lang/invoke/VarHandle") ∧ Cond.instantiable q.1.cls q.2 ∈ tables_1 ∧ Cond.privateMethod q.1 ∈ tables_1 ∧ Cond.instanceMethod q.1 ∈ tables_1
theorem lw_p0 : lw_okq (⟨"SuperSteps", "layWhatWasRead", "()V"⟩, 7) := ⟨⟨by decide +kernel, by decide +kernel⟩, List.mem_of_getElem? (i := 15) (by decide +kernel), List.mem_of_getElem? (i := 288) (by decide +kernel), List.mem_of_getElem? (i := 289) (by decide +kernel)⟩
theorem lw_p1 : lw_okq (⟨"SuperSteps", "isOver", "(LSuperSteps$State;)Z"⟩, 7) := ⟨⟨by decide +kernel, by decide +kernel⟩, List.mem_of_getElem? (i := 15) (by decide +kernel), List.mem_of_getElem? (i := 353) (by decide +kernel), List.mem_of_getElem? (i := 354) (by decide +kernel)⟩
theorem lw_p2 : lw_okq (⟨"SuperSteps", "keepForUndo", "()V"⟩, 7) := ⟨⟨by decide +kernel, by decide +kernel⟩, List.mem_of_getElem? (i := 15) (by decide +kernel), List.mem_of_getElem? (i := 369) (by decide +kernel), List.mem_of_getElem? (i := 370) (by decide +kernel)⟩
theorem lw_p3 : lw_okq (⟨"SuperSteps", "dropOldest", "()V"⟩, 7) := ⟨⟨by decide +kernel, by decide +kernel⟩, List.mem_of_getElem? (i := 15) (by decide +kernel), List.mem_of_getElem? (i := 373) (by decide +kernel), List.mem_of_getElem? (i := 374) (by decide +kernel)⟩
theorem lw_p4 : lw_okq (⟨"SuperSteps", "advanceAtMost", "(LSuperSteps$State;I)I"⟩, 7) := ⟨⟨by decide +kernel, by decide +kernel⟩, List.mem_of_getElem? (i := 15) (by decide +kernel), List.mem_of_getElem? (i := 389) (by decide +kernel), List.mem_of_getElem? (i := 390) (by decide +kernel)⟩
theorem lw_p5 : lw_okq (⟨"SuperSteps", "isPoint", "(I)Z"⟩, 7) := ⟨⟨by decide +kernel, by decide +kernel⟩, List.mem_of_getElem? (i := 15) (by decide +kernel), List.mem_of_getElem? (i := 470) (by decide +kernel), List.mem_of_getElem? (i := 471) (by decide +kernel)⟩
theorem lw_p6 : lw_okq (⟨"SuperSteps", "isWorker", "(I)Z"⟩, 7) := ⟨⟨by decide +kernel, by decide +kernel⟩, List.mem_of_getElem? (i := 15) (by decide +kernel), List.mem_of_getElem? (i := 478) (by decide +kernel), List.mem_of_getElem? (i := 479) (by decide +kernel)⟩
theorem lw_p7 : lw_okq (⟨"SuperStepsModel", "begins", "()V"⟩, 12) := ⟨⟨by decide +kernel, by decide +kernel⟩, List.mem_of_getElem? (i := 541) (by decide +kernel), List.mem_of_getElem? (i := 547) (by decide +kernel), List.mem_of_getElem? (i := 548) (by decide +kernel)⟩
theorem lw_p8 : lw_okq (⟨"SuperStepsModel", "adds", "(III)V"⟩, 12) := ⟨⟨by decide +kernel, by decide +kernel⟩, List.mem_of_getElem? (i := 541) (by decide +kernel), List.mem_of_getElem? (i := 551) (by decide +kernel), List.mem_of_getElem? (i := 552) (by decide +kernel)⟩
theorem lw_p9 : lw_okq (⟨"SuperStepsModel", "lays", "()V"⟩, 12) := ⟨⟨by decide +kernel, by decide +kernel⟩, List.mem_of_getElem? (i := 541) (by decide +kernel), List.mem_of_getElem? (i := 555) (by decide +kernel), List.mem_of_getElem? (i := 556) (by decide +kernel)⟩
theorem lw_p10 : lw_okq (⟨"SuperStepsModel", "reads", "()I"⟩, 12) := ⟨⟨by decide +kernel, by decide +kernel⟩, List.mem_of_getElem? (i := 541) (by decide +kernel), List.mem_of_getElem? (i := 612) (by decide +kernel), List.mem_of_getElem? (i := 613) (by decide +kernel)⟩
theorem lw_p11 : lw_okq (⟨"SuperStepsModel", "readsItem", "(IZ)Z"⟩, 12) := ⟨⟨by decide +kernel, by decide +kernel⟩, List.mem_of_getElem? (i := 541) (by decide +kernel), List.mem_of_getElem? (i := 616) (by decide +kernel), List.mem_of_getElem? (i := 617) (by decide +kernel)⟩
theorem lw_p12 : lw_okq (⟨"SuperStepsModel", "readsNumbers", "(I)Z"⟩, 12) := ⟨⟨by decide +kernel, by decide +kernel⟩, List.mem_of_getElem? (i := 541) (by decide +kernel), List.mem_of_getElem? (i := 620) (by decide +kernel), List.mem_of_getElem? (i := 621) (by decide +kernel)⟩
theorem lw_p13 : lw_okq (⟨"SuperStepsModel", "isSign", "(I)Z"⟩, 12) := ⟨⟨by decide +kernel, by decide +kernel⟩, List.mem_of_getElem? (i := 541) (by decide +kernel), List.mem_of_getElem? (i := 624) (by decide +kernel), List.mem_of_getElem? (i := 625) (by decide +kernel)⟩
theorem lw_p14 : lw_okq (⟨"SuperStepsModel", "isFigure", "()Z"⟩, 12) := ⟨⟨by decide +kernel, by decide +kernel⟩, List.mem_of_getElem? (i := 541) (by decide +kernel), List.mem_of_getElem? (i := 628) (by decide +kernel), List.mem_of_getElem? (i := 629) (by decide +kernel)⟩
theorem lw_p15 : lw_okq (⟨"SuperStepsModel", "readsLink", "()Z"⟩, 12) := ⟨⟨by decide +kernel, by decide +kernel⟩, List.mem_of_getElem? (i := 541) (by decide +kernel), List.mem_of_getElem? (i := 632) (by decide +kernel), List.mem_of_getElem? (i := 633) (by decide +kernel)⟩
def lw_privs_1 : List (MethodName × Nat) := [(⟨"SuperSteps", "layWhatWasRead", "()V"⟩, 7), (⟨"SuperSteps", "isOver", "(LSuperSteps$State;)Z"⟩, 7), (⟨"SuperSteps", "keepForUndo", "()V"⟩, 7), (⟨"SuperSteps", "dropOldest", "()V"⟩, 7), (⟨"SuperSteps", "advanceAtMost", "(LSuperSteps$State;I)I"⟩, 7), (⟨"SuperSteps", "isPoint", "(I)Z"⟩, 7), (⟨"SuperSteps", "isWorker", "(I)Z"⟩, 7), (⟨"SuperStepsModel", "begins", "()V"⟩, 12), (⟨"SuperStepsModel", "adds", "(III)V"⟩, 12), (⟨"SuperStepsModel", "lays", "()V"⟩, 12), (⟨"SuperStepsModel", "reads", "()I"⟩, 12), (⟨"SuperStepsModel", "readsItem", "(IZ)Z"⟩, 12), (⟨"SuperStepsModel", "readsNumbers", "(I)Z"⟩, 12), (⟨"SuperStepsModel", "isSign", "(I)Z"⟩, 12), (⟨"SuperStepsModel", "isFigure", "()Z"⟩, 12), (⟨"SuperStepsModel", "readsLink", "()Z"⟩, 12)]
theorem lw_r1 : ∀ q ∈ lw_privs_1, lw_okq q := List.forall_mem_cons.mpr ⟨lw_p0, List.forall_mem_cons.mpr ⟨lw_p1, List.forall_mem_cons.mpr ⟨lw_p2, List.forall_mem_cons.mpr ⟨lw_p3, List.forall_mem_cons.mpr ⟨lw_p4, List.forall_mem_cons.mpr ⟨lw_p5, List.forall_mem_cons.mpr ⟨lw_p6, List.forall_mem_cons.mpr ⟨lw_p7, List.forall_mem_cons.mpr ⟨lw_p8, List.forall_mem_cons.mpr ⟨lw_p9, List.forall_mem_cons.mpr ⟨lw_p10, List.forall_mem_cons.mpr ⟨lw_p11, List.forall_mem_cons.mpr ⟨lw_p12, List.forall_mem_cons.mpr ⟨lw_p13, List.forall_mem_cons.mpr ⟨lw_p14, List.forall_mem_cons.mpr ⟨lw_p15, fun _ h => absurd h List.not_mem_nil⟩⟩⟩⟩⟩⟩⟩⟩⟩⟩⟩⟩⟩⟩⟩⟩
theorem lw_p16 : lw_okq (⟨"SuperStepsModel", "isPoint", "(I)Z"⟩, 12) := ⟨⟨by decide +kernel, by decide +kernel⟩, List.mem_of_getElem? (i := 541) (by decide +kernel), List.mem_of_getElem? (i := 636) (by decide +kernel), List.mem_of_getElem? (i := 637) (by decide +kernel)⟩
theorem lw_p17 : lw_okq (⟨"SuperStepsModel", "readsPair", "(IIII)Z"⟩, 12) := ⟨⟨by decide +kernel, by decide +kernel⟩, List.mem_of_getElem? (i := 541) (by decide +kernel), List.mem_of_getElem? (i := 640) (by decide +kernel), List.mem_of_getElem? (i := 641) (by decide +kernel)⟩
theorem lw_p18 : lw_okq (⟨"SuperStepsModel", "awake", "()I"⟩, 12) := ⟨⟨by decide +kernel, by decide +kernel⟩, List.mem_of_getElem? (i := 541) (by decide +kernel), List.mem_of_getElem? (i := 652) (by decide +kernel), List.mem_of_getElem? (i := 653) (by decide +kernel)⟩
theorem lw_p19 : lw_okq (⟨"SuperStepsModel", "isAwake", "(I)Z"⟩, 12) := ⟨⟨by decide +kernel, by decide +kernel⟩, List.mem_of_getElem? (i := 541) (by decide +kernel), List.mem_of_getElem? (i := 656) (by decide +kernel), List.mem_of_getElem? (i := 657) (by decide +kernel)⟩
theorem lw_p20 : lw_okq (⟨"SuperStepsModel", "of", "(II)I"⟩, 12) := ⟨⟨by decide +kernel, by decide +kernel⟩, List.mem_of_getElem? (i := 541) (by decide +kernel), List.mem_of_getElem? (i := 660) (by decide +kernel), List.mem_of_getElem? (i := 661) (by decide +kernel)⟩
theorem lw_p21 : lw_okq (⟨"SuperStepsModel", "had", "(I)I"⟩, 12) := ⟨⟨by decide +kernel, by decide +kernel⟩, List.mem_of_getElem? (i := 541) (by decide +kernel), List.mem_of_getElem? (i := 664) (by decide +kernel), List.mem_of_getElem? (i := 665) (by decide +kernel)⟩
theorem lw_p22 : lw_okq (⟨"SuperStepsModel", "letterOf", "(II)I"⟩, 12) := ⟨⟨by decide +kernel, by decide +kernel⟩, List.mem_of_getElem? (i := 541) (by decide +kernel), List.mem_of_getElem? (i := 668) (by decide +kernel), List.mem_of_getElem? (i := 669) (by decide +kernel)⟩
theorem lw_p23 : lw_okq (⟨"SuperStepsModel", "notes", "()V"⟩, 12) := ⟨⟨by decide +kernel, by decide +kernel⟩, List.mem_of_getElem? (i := 541) (by decide +kernel), List.mem_of_getElem? (i := 672) (by decide +kernel), List.mem_of_getElem? (i := 673) (by decide +kernel)⟩
theorem lw_p24 : lw_okq (⟨"SuperStepsModel", "go", "()V"⟩, 12) := ⟨⟨by decide +kernel, by decide +kernel⟩, List.mem_of_getElem? (i := 541) (by decide +kernel), List.mem_of_getElem? (i := 676) (by decide +kernel), List.mem_of_getElem? (i := 677) (by decide +kernel)⟩
theorem lw_p25 : lw_okq (⟨"SuperStepsModel", "put", "(III)V"⟩, 12) := ⟨⟨by decide +kernel, by decide +kernel⟩, List.mem_of_getElem? (i := 541) (by decide +kernel), List.mem_of_getElem? (i := 680) (by decide +kernel), List.mem_of_getElem? (i := 681) (by decide +kernel)⟩
theorem lw_p26 : lw_okq (⟨"SuperStepsModel", "ranks", "(I)V"⟩, 12) := ⟨⟨by decide +kernel, by decide +kernel⟩, List.mem_of_getElem? (i := 541) (by decide +kernel), List.mem_of_getElem? (i := 684) (by decide +kernel), List.mem_of_getElem? (i := 685) (by decide +kernel)⟩
theorem lw_p27 : lw_okq (⟨"SuperStepsModel", "gathered", "(I)I"⟩, 12) := ⟨⟨by decide +kernel, by decide +kernel⟩, List.mem_of_getElem? (i := 541) (by decide +kernel), List.mem_of_getElem? (i := 688) (by decide +kernel), List.mem_of_getElem? (i := 689) (by decide +kernel)⟩
theorem lw_p28 : lw_okq (⟨"SuperStepsModel", "linksOf", "(I)I"⟩, 12) := ⟨⟨by decide +kernel, by decide +kernel⟩, List.mem_of_getElem? (i := 541) (by decide +kernel), List.mem_of_getElem? (i := 698) (by decide +kernel), List.mem_of_getElem? (i := 699) (by decide +kernel)⟩
theorem lw_p29 : lw_okq (⟨"SuperStepsModel", "sendAll", "(II)V"⟩, 12) := ⟨⟨by decide +kernel, by decide +kernel⟩, List.mem_of_getElem? (i := 541) (by decide +kernel), List.mem_of_getElem? (i := 702) (by decide +kernel), List.mem_of_getElem? (i := 703) (by decide +kernel)⟩
theorem lw_p30 : lw_okq (⟨"SuperStepsModel", "send", "(III)V"⟩, 12) := ⟨⟨by decide +kernel, by decide +kernel⟩, List.mem_of_getElem? (i := 541) (by decide +kernel), List.mem_of_getElem? (i := 706) (by decide +kernel), List.mem_of_getElem? (i := 707) (by decide +kernel)⟩
theorem lw_p31 : lw_okq (⟨"SuperStepsModel", "seeks", "(I)V"⟩, 12) := ⟨⟨by decide +kernel, by decide +kernel⟩, List.mem_of_getElem? (i := 541) (by decide +kernel), List.mem_of_getElem? (i := 710) (by decide +kernel), List.mem_of_getElem? (i := 711) (by decide +kernel)⟩
def lw_privs_2 : List (MethodName × Nat) := [(⟨"SuperStepsModel", "isPoint", "(I)Z"⟩, 12), (⟨"SuperStepsModel", "readsPair", "(IIII)Z"⟩, 12), (⟨"SuperStepsModel", "awake", "()I"⟩, 12), (⟨"SuperStepsModel", "isAwake", "(I)Z"⟩, 12), (⟨"SuperStepsModel", "of", "(II)I"⟩, 12), (⟨"SuperStepsModel", "had", "(I)I"⟩, 12), (⟨"SuperStepsModel", "letterOf", "(II)I"⟩, 12), (⟨"SuperStepsModel", "notes", "()V"⟩, 12), (⟨"SuperStepsModel", "go", "()V"⟩, 12), (⟨"SuperStepsModel", "put", "(III)V"⟩, 12), (⟨"SuperStepsModel", "ranks", "(I)V"⟩, 12), (⟨"SuperStepsModel", "gathered", "(I)I"⟩, 12), (⟨"SuperStepsModel", "linksOf", "(I)I"⟩, 12), (⟨"SuperStepsModel", "sendAll", "(II)V"⟩, 12), (⟨"SuperStepsModel", "send", "(III)V"⟩, 12), (⟨"SuperStepsModel", "seeks", "(I)V"⟩, 12)]
theorem lw_r2 : ∀ q ∈ lw_privs_2, lw_okq q := List.forall_mem_cons.mpr ⟨lw_p16, List.forall_mem_cons.mpr ⟨lw_p17, List.forall_mem_cons.mpr ⟨lw_p18, List.forall_mem_cons.mpr ⟨lw_p19, List.forall_mem_cons.mpr ⟨lw_p20, List.forall_mem_cons.mpr ⟨lw_p21, List.forall_mem_cons.mpr ⟨lw_p22, List.forall_mem_cons.mpr ⟨lw_p23, List.forall_mem_cons.mpr ⟨lw_p24, List.forall_mem_cons.mpr ⟨lw_p25, List.forall_mem_cons.mpr ⟨lw_p26, List.forall_mem_cons.mpr ⟨lw_p27, List.forall_mem_cons.mpr ⟨lw_p28, List.forall_mem_cons.mpr ⟨lw_p29, List.forall_mem_cons.mpr ⟨lw_p30, List.forall_mem_cons.mpr ⟨lw_p31, fun _ h => absurd h List.not_mem_nil⟩⟩⟩⟩⟩⟩⟩⟩⟩⟩⟩⟩⟩⟩⟩⟩
theorem lw_p32 : lw_okq (⟨"SuperStepsModel", "logs", "(II)V"⟩, 12) := ⟨⟨by decide +kernel, by decide +kernel⟩, List.mem_of_getElem? (i := 541) (by decide +kernel), List.mem_of_getElem? (i := 714) (by decide +kernel), List.mem_of_getElem? (i := 715) (by decide +kernel)⟩
theorem lw_p33 : lw_okq (⟨"SuperStepsModel", "values", "()I"⟩, 12) := ⟨⟨by decide +kernel, by decide +kernel⟩, List.mem_of_getElem? (i := 541) (by decide +kernel), List.mem_of_getElem? (i := 718) (by decide +kernel), List.mem_of_getElem? (i := 719) (by decide +kernel)⟩
theorem lw_p34 : lw_okq (⟨"SuperStepsModel", "findLoads", "()V"⟩, 12) := ⟨⟨by decide +kernel, by decide +kernel⟩, List.mem_of_getElem? (i := 541) (by decide +kernel), List.mem_of_getElem? (i := 722) (by decide +kernel), List.mem_of_getElem? (i := 723) (by decide +kernel)⟩
theorem lw_p35 : lw_okq (⟨"SuperStepsModel", "elsewhere", "()I"⟩, 12) := ⟨⟨by decide +kernel, by decide +kernel⟩, List.mem_of_getElem? (i := 541) (by decide +kernel), List.mem_of_getElem? (i := 726) (by decide +kernel), List.mem_of_getElem? (i := 727) (by decide +kernel)⟩
theorem lw_p36 : lw_okq (⟨"SuperStepsModel", "isThere", "(I)Z"⟩, 12) := ⟨⟨by decide +kernel, by decide +kernel⟩, List.mem_of_getElem? (i := 541) (by decide +kernel), List.mem_of_getElem? (i := 734) (by decide +kernel), List.mem_of_getElem? (i := 735) (by decide +kernel)⟩
theorem lw_p37 : lw_okq (⟨"SuperStepsModel", "isWorker", "(I)Z"⟩, 12) := ⟨⟨by decide +kernel, by decide +kernel⟩, List.mem_of_getElem? (i := 541) (by decide +kernel), List.mem_of_getElem? (i := 742) (by decide +kernel), List.mem_of_getElem? (i := 743) (by decide +kernel)⟩
theorem lw_p38 : lw_okq (⟨"SuperStepsModel", "rankOf", "(I)I"⟩, 12) := ⟨⟨by decide +kernel, by decide +kernel⟩, List.mem_of_getElem? (i := 541) (by decide +kernel), List.mem_of_getElem? (i := 762) (by decide +kernel), List.mem_of_getElem? (i := 763) (by decide +kernel)⟩
def lw_privs_3 : List (MethodName × Nat) := [(⟨"SuperStepsModel", "logs", "(II)V"⟩, 12), (⟨"SuperStepsModel", "values", "()I"⟩, 12), (⟨"SuperStepsModel", "findLoads", "()V"⟩, 12), (⟨"SuperStepsModel", "elsewhere", "()I"⟩, 12), (⟨"SuperStepsModel", "isThere", "(I)Z"⟩, 12), (⟨"SuperStepsModel", "isWorker", "(I)Z"⟩, 12), (⟨"SuperStepsModel", "rankOf", "(I)I"⟩, 12)]
theorem lw_r3 : ∀ q ∈ lw_privs_3, lw_okq q := List.forall_mem_cons.mpr ⟨lw_p32, List.forall_mem_cons.mpr ⟨lw_p33, List.forall_mem_cons.mpr ⟨lw_p34, List.forall_mem_cons.mpr ⟨lw_p35, List.forall_mem_cons.mpr ⟨lw_p36, List.forall_mem_cons.mpr ⟨lw_p37, List.forall_mem_cons.mpr ⟨lw_p38, fun _ h => absurd h List.not_mem_nil⟩⟩⟩⟩⟩⟩⟩
def lw_privs : List (MethodName × Nat) := lw_privs_1 ++ (lw_privs_2 ++ (lw_privs_3))
def lw_tbl : List Cond := k2_sels lw_privs ++ tables_1
theorem lw_privs_ok : ∀ q ∈ lw_privs, lw_okq q := by
  show ∀ q ∈ lw_privs_1 ++ (lw_privs_2 ++ (lw_privs_3)), lw_okq q
  exact List.forall_mem_append.mpr ⟨lw_r1, List.forall_mem_append.mpr ⟨lw_r2, lw_r3⟩⟩
end
section
def RX0 : String := "SuperSteps$Mail"
def TX0 : u_T := fun k => match k with
  | 0 => ("SuperSteps$Mail", "size", "I", false)
  | 1 => ("SuperSteps$Mail", "to", "[I", true)
  | 2 => ("SuperSteps$Mail", "worth", "[I", true)
  | _ => ("SuperSteps$Mail", "sender", "[I", true)
def tyX0 : Nat → FieldType := fun k => match k with
  | 0 => .int
  | 1 => .array .int
  | 2 => .array .int
  | _ => .array .int
abbrev wsX00 : List Cond := u_ws RX0 TX0 4
theorem nmX0 : ∀ a, a < 4 → ∀ b, b < 4 → a ≠ b → (TX0 a).2.1 ≠ (TX0 b).2.1 := by decide +kernel
theorem tyX0_ok : ∀ k, k < 4 → parseFieldDescriptor (TX0 k).2.2.1 = some (tyX0 k) := by decide +kernel
abbrev cX0_init : ByteArray := prog_2_method_1_code
def yX0_init : MethodName := ⟨RX0, "<init>", "()V"⟩
abbrev cX0_copyFrom : ByteArray := prog_2_method_2_code
def yX0_copyFrom : MethodName := ⟨RX0, "copyFrom", "(LSuperSteps$Mail;)V"⟩
abbrev cX0_post : ByteArray := prog_2_method_3_code
def yX0_post : MethodName := ⟨RX0, "post", "(III)V"⟩
abbrev cX0_postCombined : ByteArray := prog_2_method_4_code
def yX0_postCombined : MethodName := ⟨RX0, "postCombined", "(IIII)V"⟩
abbrev cX0_countFor : ByteArray := prog_2_method_5_code
def yX0_countFor : MethodName := ⟨RX0, "countFor", "(I)I"⟩
abbrev cX0_gistFor : ByteArray := prog_2_method_6_code
def yX0_gistFor : MethodName := ⟨RX0, "gistFor", "(II)I"⟩
abbrev cX0_placeOfRank : ByteArray := prog_2_method_7_code
def yX0_placeOfRank : MethodName := ⟨RX0, "placeOfRank", "(II)I"⟩
abbrev cX0_countAhead : ByteArray := prog_2_method_8_code
def yX0_countAhead : MethodName := ⟨RX0, "countAhead", "(I)I"⟩
abbrev cX0_isAhead : ByteArray := prog_2_method_9_code
def yX0_isAhead : MethodName := ⟨RX0, "isAhead", "(II)Z"⟩
abbrev cX0_countCross : ByteArray := prog_2_method_10_code
def yX0_countCross : MethodName := ⟨RX0, "countCross", "([I)I"⟩
def RX1 : String := "SuperSteps$Plan"
def TX1 : u_T := fun k => match k with
  | 0 => ("SuperSteps$Plan", "points", "I", false)
  | 1 => ("SuperSteps$Plan", "links", "I", false)
  | 2 => ("SuperSteps$Plan", "kind", "I", false)
  | 3 => ("SuperSteps$Plan", "taskNumber", "I", false)
  | 4 => ("SuperSteps$Plan", "workers", "I", false)
  | 5 => ("SuperSteps$Plan", "gap", "I", false)
  | 6 => ("SuperSteps$Plan", "combined", "I", false)
  | 7 => ("SuperSteps$Plan", "pointsAreFixed", "Z", false)
  | 8 => ("SuperSteps$Plan", "from", "[I", true)
  | 9 => ("SuperSteps$Plan", "to", "[I", true)
  | 10 => ("SuperSteps$Plan", "length", "[I", true)
  | _ => ("SuperSteps$Plan", "value", "[I", true)
def tyX1 : Nat → FieldType := fun k => match k with
  | 0 => .int
  | 1 => .int
  | 2 => .int
  | 3 => .int
  | 4 => .int
  | 5 => .int
  | 6 => .int
  | 7 => .boolean
  | 8 => .array .int
  | 9 => .array .int
  | 10 => .array .int
  | _ => .array .int
abbrev wsX10 : List Cond := u_ws RX1 TX1 12
theorem nmX1 : ∀ a, a < 12 → ∀ b, b < 12 → a ≠ b → (TX1 a).2.1 ≠ (TX1 b).2.1 := by decide +kernel
theorem tyX1_ok : ∀ k, k < 12 → parseFieldDescriptor (TX1 k).2.2.1 = some (tyX1 k) := by decide +kernel
abbrev cX1_init : ByteArray := prog_3_method_1_code
def yX1_init : MethodName := ⟨RX1, "<init>", "()V"⟩
abbrev cX1_reset : ByteArray := prog_3_method_2_code
def yX1_reset : MethodName := ⟨RX1, "reset", "()V"⟩
abbrev cX1_takePoints : ByteArray := prog_3_method_3_code
def yX1_takePoints : MethodName := ⟨RX1, "takePoints", "(I)Z"⟩
abbrev cX1_takeLink : ByteArray := prog_3_method_4_code
def yX1_takeLink : MethodName := ⟨RX1, "takeLink", "(III)Z"⟩
abbrev cX1_takeValue : ByteArray := prog_3_method_5_code
def yX1_takeValue : MethodName := ⟨RX1, "takeValue", "(II)Z"⟩
abbrev cX1_takeTask : ByteArray := prog_3_method_6_code
def yX1_takeTask : MethodName := ⟨RX1, "takeTask", "(II)Z"⟩
abbrev cX1_takeWorkers : ByteArray := prog_3_method_7_code
def yX1_takeWorkers : MethodName := ⟨RX1, "takeWorkers", "(II)Z"⟩
abbrev cX1_takeCombined : ByteArray := prog_3_method_8_code
def yX1_takeCombined : MethodName := ⟨RX1, "takeCombined", "(I)Z"⟩
abbrev cX1_canBeLaid : ByteArray := prog_3_method_9_code
def yX1_canBeLaid : MethodName := ⟨RX1, "canBeLaid", "()Z"⟩
abbrev cX1_firstValue : ByteArray := prog_3_method_10_code
def yX1_firstValue : MethodName := ⟨RX1, "firstValue", "(I)I"⟩
abbrev cX1_linksOf : ByteArray := prog_3_method_11_code
def yX1_linksOf : MethodName := ⟨RX1, "linksOf", "(I)I"⟩
def RX2 : String := "SuperSteps$State"
def TX2 : u_T := fun k => match k with
  | 0 => ("SuperSteps$State", "value", "[I", true)
  | 1 => ("SuperSteps$State", "worker", "[I", true)
  | 2 => ("SuperSteps$State", "mood", "[I", true)
  | 3 => ("SuperSteps$State", "worked", "[I", true)
  | 4 => ("SuperSteps$State", "load", "[I", true)
  | 5 => ("SuperSteps$State", "workerLoad", "[I", true)
  | 6 => ("SuperSteps$State", "sums", "[I", true)
  | 7 => ("SuperSteps$State", "mail", "LSuperSteps$Mail;", false)
  | 8 => ("SuperSteps$State", "outgoing", "LSuperSteps$Mail;", false)
  | 9 => ("SuperSteps$State", "steps", "I", false)
  | 10 => ("SuperSteps$State", "sent", "I", false)
  | 11 => ("SuperSteps$State", "sentElsewhere", "I", false)
  | _ => ("SuperSteps$State", "combined", "I", false)
def tyX2 : Nat → FieldType := fun k => match k with
  | 0 => .array .int
  | 1 => .array .int
  | 2 => .array .int
  | 3 => .array .int
  | 4 => .array .int
  | 5 => .array .int
  | 6 => .array .int
  | 7 => .object "SuperSteps$Mail"
  | 8 => .object "SuperSteps$Mail"
  | 9 => .int
  | 10 => .int
  | 11 => .int
  | _ => .int
abbrev wsX20 : List Cond := u_ws RX2 TX2 13
theorem nmX2 : ∀ a, a < 13 → ∀ b, b < 13 → a ≠ b → (TX2 a).2.1 ≠ (TX2 b).2.1 := by decide +kernel
theorem tyX2_ok : ∀ k, k < 13 → parseFieldDescriptor (TX2 k).2.2.1 = some (tyX2 k) := by decide +kernel
abbrev cX2_init : ByteArray := prog_4_method_1_code
def yX2_init : MethodName := ⟨RX2, "<init>", "()V"⟩
abbrev cX2_begin : ByteArray := prog_4_method_2_code
def yX2_begin : MethodName := ⟨RX2, "begin", "(LSuperSteps$Plan;)V"⟩
abbrev cX2_copyFrom : ByteArray := prog_4_method_3_code
def yX2_copyFrom : MethodName := ⟨RX2, "copyFrom", "(LSuperSteps$State;)V"⟩
abbrev cX2_isAwake : ByteArray := prog_4_method_4_code
def yX2_isAwake : MethodName := ⟨RX2, "isAwake", "(I)Z"⟩
abbrev cX2_countAwake : ByteArray := prog_4_method_5_code
def yX2_countAwake : MethodName := ⟨RX2, "countAwake", "(I)I"⟩
abbrev cX2_totalValue : ByteArray := prog_4_method_6_code
def yX2_totalValue : MethodName := ⟨RX2, "totalValue", "(I)I"⟩
abbrev cX2_pointsOf : ByteArray := prog_4_method_7_code
def yX2_pointsOf : MethodName := ⟨RX2, "pointsOf", "(II)I"⟩
abbrev cX2_advance : ByteArray := prog_4_method_8_code
def yX2_advance : MethodName := ⟨RX2, "advance", "(LSuperSteps$Plan;)V"⟩
abbrev cX2_noteLoads : ByteArray := prog_4_method_9_code
def yX2_noteLoads : MethodName := ⟨RX2, "noteLoads", "(I)V"⟩
abbrev cX2_workAll : ByteArray := prog_4_method_10_code
def yX2_workAll : MethodName := ⟨RX2, "workAll", "(LSuperSteps$Plan;)I"⟩
abbrev cX2_deliver : ByteArray := prog_4_method_11_code
def yX2_deliver : MethodName := ⟨RX2, "deliver", "()V"⟩
abbrev cX2_workForBest : ByteArray := prog_4_method_12_code
def yX2_workForBest : MethodName := ⟨RX2, "workForBest", "(LSuperSteps$Plan;I)I"⟩
abbrev cX2_workForRank : ByteArray := prog_4_method_13_code
def yX2_workForRank : MethodName := ⟨RX2, "workForRank", "(LSuperSteps$Plan;I)I"⟩
abbrev cX2_sendAll : ByteArray := prog_4_method_14_code
def yX2_sendAll : MethodName := ⟨RX2, "sendAll", "(LSuperSteps$Plan;II)V"⟩
abbrev cX2_balance : ByteArray := prog_4_method_15_code
def yX2_balance : MethodName := ⟨RX2, "balance", "(LSuperSteps$Plan;)I"⟩
abbrev cX2_heaviestBelow : ByteArray := prog_4_method_16_code
def yX2_heaviestBelow : MethodName := ⟨RX2, "heaviestBelow", "(III)I"⟩
def RX3 : String := "SuperSteps$Text"
def TX3 : u_T := fun k => match k with
  | 0 => ("SuperSteps$Text", "letters", "[I", true)
  | 1 => ("SuperSteps$Text", "length", "I", false)
  | 2 => ("SuperSteps$Text", "at", "I", false)
  | _ => ("SuperSteps$Text", "numbers", "[I", true)
def tyX3 : Nat → FieldType := fun k => match k with
  | 0 => .array .int
  | 1 => .int
  | 2 => .int
  | _ => .array .int
abbrev wsX30 : List Cond := u_ws RX3 TX3 4
theorem nmX3 : ∀ a, a < 4 → ∀ b, b < 4 → a ≠ b → (TX3 a).2.1 ≠ (TX3 b).2.1 := by decide +kernel
theorem tyX3_ok : ∀ k, k < 4 → parseFieldDescriptor (TX3 k).2.2.1 = some (tyX3 k) := by decide +kernel
abbrev cX3_init : ByteArray := prog_5_method_1_code
def yX3_init : MethodName := ⟨RX3, "<init>", "()V"⟩
abbrev cX3_append : ByteArray := prog_5_method_2_code
def yX3_append : MethodName := ⟨RX3, "append", "(I)Z"⟩
abbrev cX3_firstFault : ByteArray := prog_5_method_3_code
def yX3_firstFault : MethodName := ⟨RX3, "firstFault", "(LSuperSteps$Plan;)I"⟩
abbrev cX3_readItem : ByteArray := prog_5_method_4_code
def yX3_readItem : MethodName := ⟨RX3, "readItem", "(LSuperSteps$Plan;)Z"⟩
abbrev cX3_readNumbers : ByteArray := prog_5_method_5_code
def yX3_readNumbers : MethodName := ⟨RX3, "readNumbers", "(I)Z"⟩
abbrev cX3_readNumber : ByteArray := prog_5_method_6_code
def yX3_readNumber : MethodName := ⟨RX3, "readNumber", "()I"⟩
abbrev cX3_isFigure : ByteArray := prog_5_method_7_code
def yX3_isFigure : MethodName := ⟨RX3, "isFigure", "(I)Z"⟩
abbrev cX3_letterAt : ByteArray := prog_5_method_8_code
def yX3_letterAt : MethodName := ⟨RX3, "letterAt", "(I)I"⟩
def RX4 : String := "SuperSteps"
def TX4 : u_T := fun k => match k with
  | 0 => ("SuperSteps", "text", "LSuperSteps$Text;", true)
  | 1 => ("SuperSteps", "laid", "LSuperSteps$Plan;", false)
  | 2 => ("SuperSteps", "spare", "LSuperSteps$Plan;", false)
  | 3 => ("SuperSteps", "now", "LSuperSteps$State;", true)
  | 4 => ("SuperSteps", "trial", "LSuperSteps$State;", true)
  | 5 => ("SuperSteps", "past", "[LSuperSteps$State;", true)
  | _ => ("SuperSteps", "undoable", "I", false)
def tyX4 : Nat → FieldType := fun k => match k with
  | 0 => .object "SuperSteps$Text"
  | 1 => .object "SuperSteps$Plan"
  | 2 => .object "SuperSteps$Plan"
  | 3 => .object "SuperSteps$State"
  | 4 => .object "SuperSteps$State"
  | 5 => .array (.object "SuperSteps$State")
  | _ => .int
abbrev wsX40 : List Cond := u_ws RX4 TX4 7
theorem nmX4 : ∀ a, a < 7 → ∀ b, b < 7 → a ≠ b → (TX4 a).2.1 ≠ (TX4 b).2.1 := by decide +kernel
theorem tyX4_ok : ∀ k, k < 7 → parseFieldDescriptor (TX4 k).2.2.1 = some (tyX4 k) := by decide +kernel
abbrev cX4_init : ByteArray := prog_1_method_1_code
def yX4_init : MethodName := ⟨RX4, "<init>", "()V"⟩
abbrev cX4_write : ByteArray := prog_1_method_2_code
def yX4_write : MethodName := ⟨RX4, "write", "(I)I"⟩
abbrev cX4_wipe : ByteArray := prog_1_method_3_code
def yX4_wipe : MethodName := ⟨RX4, "wipe", "()I"⟩
abbrev cX4_fault : ByteArray := prog_1_method_4_code
def yX4_fault : MethodName := ⟨RX4, "fault", "()I"⟩
abbrev cX4_lay : ByteArray := prog_1_method_5_code
def yX4_lay : MethodName := ⟨RX4, "lay", "()I"⟩
abbrev cX4_step : ByteArray := prog_1_method_6_code
def yX4_step : MethodName := ⟨RX4, "step", "(I)I"⟩
abbrev cX4_value : ByteArray := prog_1_method_7_code
def yX4_value : MethodName := ⟨RX4, "value", "(II)I"⟩
abbrev cX4_move : ByteArray := prog_1_method_8_code
def yX4_move : MethodName := ⟨RX4, "move", "(II)I"⟩
abbrev cX4_combine : ByteArray := prog_1_method_9_code
def yX4_combine : MethodName := ⟨RX4, "combine", "(I)I"⟩
abbrev cX4_undo : ByteArray := prog_1_method_10_code
def yX4_undo : MethodName := ⟨RX4, "undo", "()I"⟩
abbrev cX4_point : ByteArray := prog_1_method_11_code
def yX4_point : MethodName := ⟨RX4, "point", "(II)I"⟩
abbrev cX4_letter : ByteArray := prog_1_method_12_code
def yX4_letter : MethodName := ⟨RX4, "letter", "(III)I"⟩
abbrev cX4_worker : ByteArray := prog_1_method_13_code
def yX4_worker : MethodName := ⟨RX4, "worker", "(II)I"⟩
abbrev cX4_sum : ByteArray := prog_1_method_14_code
def yX4_sum : MethodName := ⟨RX4, "sum", "(II)I"⟩
abbrev cX4_rest : ByteArray := prog_1_method_15_code
def yX4_rest : MethodName := ⟨RX4, "rest", "(II)I"⟩
abbrev cX4_count : ByteArray := prog_1_method_16_code
def yX4_count : MethodName := ⟨RX4, "count", "(I)I"⟩
abbrev cX4_isPoint : ByteArray := prog_1_method_17_code
def yX4_isPoint : MethodName := ⟨RX4, "isPoint", "(I)Z"⟩
abbrev cX4_isWorker : ByteArray := prog_1_method_18_code
def yX4_isWorker : MethodName := ⟨RX4, "isWorker", "(I)Z"⟩
abbrev cX4_isOver : ByteArray := prog_1_method_19_code
def yX4_isOver : MethodName := ⟨RX4, "isOver", "(LSuperSteps$State;)Z"⟩
abbrev cX4_layWhatWasRead : ByteArray := prog_1_method_20_code
def yX4_layWhatWasRead : MethodName := ⟨RX4, "layWhatWasRead", "()V"⟩
abbrev cX4_keepForUndo : ByteArray := prog_1_method_21_code
def yX4_keepForUndo : MethodName := ⟨RX4, "keepForUndo", "()V"⟩
abbrev cX4_dropOldest : ByteArray := prog_1_method_22_code
def yX4_dropOldest : MethodName := ⟨RX4, "dropOldest", "()V"⟩
abbrev cX4_advanceAtMost : ByteArray := prog_1_method_23_code
def yX4_advanceAtMost : MethodName := ⟨RX4, "advanceAtMost", "(LSuperSteps$State;I)I"⟩
abbrev cX4_rowOfStep : ByteArray := prog_1_method_24_code
def yX4_rowOfStep : MethodName := ⟨RX4, "rowOfStep", "(I)I"⟩
abbrev cX4_together : ByteArray := prog_1_method_25_code
def yX4_together : MethodName := ⟨RX4, "together", "(III)I"⟩
def RX5 : String := "SuperStepsModel"
def TX5 : u_T := fun k => match k with
  | 0 => ("SuperStepsModel", "now", "[I", true)
  | 1 => ("SuperStepsModel", "draft", "[I", true)
  | 2 => ("SuperStepsModel", "past", "[I", true)
  | 3 => ("SuperStepsModel", "pasts", "I", false)
  | 4 => ("SuperStepsModel", "text", "[I", true)
  | 5 => ("SuperStepsModel", "typed", "I", false)
  | 6 => ("SuperStepsModel", "at", "I", false)
  | 7 => ("SuperStepsModel", "numbers", "[I", true)
  | 8 => ("SuperStepsModel", "sent", "[I", true)
  | 9 => ("SuperStepsModel", "sentMany", "I", false)
  | 10 => ("SuperStepsModel", "works", "[Z", true)
  | _ => ("SuperStepsModel", "aside", "[I", true)
def tyX5 : Nat → FieldType := fun k => match k with
  | 0 => .array .int
  | 1 => .array .int
  | 2 => .array .int
  | 3 => .int
  | 4 => .array .int
  | 5 => .int
  | 6 => .int
  | 7 => .array .int
  | 8 => .array .int
  | 9 => .int
  | 10 => .array .boolean
  | _ => .array .int
abbrev wsX50 : List Cond := u_ws RX5 TX5 12
theorem nmX5 : ∀ a, a < 12 → ∀ b, b < 12 → a ≠ b → (TX5 a).2.1 ≠ (TX5 b).2.1 := by decide +kernel
theorem tyX5_ok : ∀ k, k < 12 → parseFieldDescriptor (TX5 k).2.2.1 = some (tyX5 k) := by decide +kernel
abbrev cX5_in : ByteArray := prog_7_method_1_code
def yX5_in : MethodName := ⟨RX5, "in", "(III)Z"⟩
abbrev cX5_greater : ByteArray := prog_7_method_2_code
def yX5_greater : MethodName := ⟨RX5, "greater", "(II)I"⟩
abbrev cX5_lesser : ByteArray := prog_7_method_3_code
def yX5_lesser : MethodName := ⟨RX5, "lesser", "(II)I"⟩
abbrev cX5_init : ByteArray := prog_7_method_4_code
def yX5_init : MethodName := ⟨RX5, "<init>", "()V"⟩
abbrev cX5_write : ByteArray := prog_7_method_5_code
def yX5_write : MethodName := ⟨RX5, "write", "(I)I"⟩
abbrev cX5_wipe : ByteArray := prog_7_method_6_code
def yX5_wipe : MethodName := ⟨RX5, "wipe", "()I"⟩
abbrev cX5_begins : ByteArray := prog_7_method_7_code
def yX5_begins : MethodName := ⟨RX5, "begins", "()V"⟩
abbrev cX5_adds : ByteArray := prog_7_method_8_code
def yX5_adds : MethodName := ⟨RX5, "adds", "(III)V"⟩
abbrev cX5_isFigure : ByteArray := prog_7_method_9_code
def yX5_isFigure : MethodName := ⟨RX5, "isFigure", "()Z"⟩
abbrev cX5_isSign : ByteArray := prog_7_method_10_code
def yX5_isSign : MethodName := ⟨RX5, "isSign", "(I)Z"⟩
abbrev cX5_readsNumbers : ByteArray := prog_7_method_11_code
def yX5_readsNumbers : MethodName := ⟨RX5, "readsNumbers", "(I)Z"⟩
abbrev cX5_isPoint : ByteArray := prog_7_method_12_code
def yX5_isPoint : MethodName := ⟨RX5, "isPoint", "(I)Z"⟩
abbrev cX5_readsLink : ByteArray := prog_7_method_13_code
def yX5_readsLink : MethodName := ⟨RX5, "readsLink", "()Z"⟩
abbrev cX5_readsPair : ByteArray := prog_7_method_14_code
def yX5_readsPair : MethodName := ⟨RX5, "readsPair", "(IIII)Z"⟩
abbrev cX5_readsItem : ByteArray := prog_7_method_15_code
def yX5_readsItem : MethodName := ⟨RX5, "readsItem", "(IZ)Z"⟩
abbrev cX5_reads : ByteArray := prog_7_method_16_code
def yX5_reads : MethodName := ⟨RX5, "reads", "()I"⟩
abbrev cX5_fault : ByteArray := prog_7_method_17_code
def yX5_fault : MethodName := ⟨RX5, "fault", "()I"⟩
abbrev cX5_lay : ByteArray := prog_7_method_18_code
def yX5_lay : MethodName := ⟨RX5, "lay", "()I"⟩
abbrev cX5_lays : ByteArray := prog_7_method_19_code
def yX5_lays : MethodName := ⟨RX5, "lays", "()V"⟩
abbrev cX5_of : ByteArray := prog_7_method_20_code
def yX5_of : MethodName := ⟨RX5, "of", "(II)I"⟩
abbrev cX5_put : ByteArray := prog_7_method_21_code
def yX5_put : MethodName := ⟨RX5, "put", "(III)V"⟩
abbrev cX5_letterOf : ByteArray := prog_7_method_22_code
def yX5_letterOf : MethodName := ⟨RX5, "letterOf", "(II)I"⟩
abbrev cX5_had : ByteArray := prog_7_method_23_code
def yX5_had : MethodName := ⟨RX5, "had", "(I)I"⟩
abbrev cX5_isAwake : ByteArray := prog_7_method_24_code
def yX5_isAwake : MethodName := ⟨RX5, "isAwake", "(I)Z"⟩
abbrev cX5_awake : ByteArray := prog_7_method_25_code
def yX5_awake : MethodName := ⟨RX5, "awake", "()I"⟩
abbrev cX5_send : ByteArray := prog_7_method_26_code
def yX5_send : MethodName := ⟨RX5, "send", "(III)V"⟩
abbrev cX5_linksOf : ByteArray := prog_7_method_27_code
def yX5_linksOf : MethodName := ⟨RX5, "linksOf", "(I)I"⟩
abbrev cX5_sendAll : ByteArray := prog_7_method_28_code
def yX5_sendAll : MethodName := ⟨RX5, "sendAll", "(II)V"⟩
abbrev cX5_gathered : ByteArray := prog_7_method_29_code
def yX5_gathered : MethodName := ⟨RX5, "gathered", "(I)I"⟩
abbrev cX5_seeks : ByteArray := prog_7_method_30_code
def yX5_seeks : MethodName := ⟨RX5, "seeks", "(I)V"⟩
abbrev cX5_ranks : ByteArray := prog_7_method_31_code
def yX5_ranks : MethodName := ⟨RX5, "ranks", "(I)V"⟩
abbrev cX5_go : ByteArray := prog_7_method_32_code
def yX5_go : MethodName := ⟨RX5, "go", "()V"⟩
abbrev cX5_values : ByteArray := prog_7_method_33_code
def yX5_values : MethodName := ⟨RX5, "values", "()I"⟩
abbrev cX5_logs : ByteArray := prog_7_method_34_code
def yX5_logs : MethodName := ⟨RX5, "logs", "(II)V"⟩
abbrev cX5_findLoads : ByteArray := prog_7_method_35_code
def yX5_findLoads : MethodName := ⟨RX5, "findLoads", "()V"⟩
abbrev cX5_elsewhere : ByteArray := prog_7_method_36_code
def yX5_elsewhere : MethodName := ⟨RX5, "elsewhere", "()I"⟩
abbrev cX5_notes : ByteArray := prog_7_method_37_code
def yX5_notes : MethodName := ⟨RX5, "notes", "()V"⟩
abbrev cX5_isThere : ByteArray := prog_7_method_38_code
def yX5_isThere : MethodName := ⟨RX5, "isThere", "(I)Z"⟩
abbrev cX5_isWorker : ByteArray := prog_7_method_39_code
def yX5_isWorker : MethodName := ⟨RX5, "isWorker", "(I)Z"⟩
abbrev cX5_step : ByteArray := prog_7_method_40_code
def yX5_step : MethodName := ⟨RX5, "step", "(I)I"⟩
abbrev cX5_value : ByteArray := prog_7_method_41_code
def yX5_value : MethodName := ⟨RX5, "value", "(II)I"⟩
abbrev cX5_move : ByteArray := prog_7_method_42_code
def yX5_move : MethodName := ⟨RX5, "move", "(II)I"⟩
abbrev cX5_combine : ByteArray := prog_7_method_43_code
def yX5_combine : MethodName := ⟨RX5, "combine", "(I)I"⟩
abbrev cX5_undo : ByteArray := prog_7_method_44_code
def yX5_undo : MethodName := ⟨RX5, "undo", "()I"⟩
abbrev cX5_point : ByteArray := prog_7_method_45_code
def yX5_point : MethodName := ⟨RX5, "point", "(II)I"⟩
abbrev cX5_rankOf : ByteArray := prog_7_method_46_code
def yX5_rankOf : MethodName := ⟨RX5, "rankOf", "(I)I"⟩
abbrev cX5_letter : ByteArray := prog_7_method_47_code
def yX5_letter : MethodName := ⟨RX5, "letter", "(III)I"⟩
abbrev cX5_worker : ByteArray := prog_7_method_48_code
def yX5_worker : MethodName := ⟨RX5, "worker", "(II)I"⟩
abbrev cX5_sum : ByteArray := prog_7_method_49_code
def yX5_sum : MethodName := ⟨RX5, "sum", "(II)I"⟩
abbrev cX5_rest : ByteArray := prog_7_method_50_code
def yX5_rest : MethodName := ⟨RX5, "rest", "(II)I"⟩
abbrev cX5_count : ByteArray := prog_7_method_51_code
def yX5_count : MethodName := ⟨RX5, "count", "(I)I"⟩
def RJ6 : String := "java/lang/Integer"
def TJ6 : u_T := fun k => match k with
  | _ => ("", "", "", false)
def tyJ6 : Nat → FieldType := fun k => match k with
  | _ => .int
abbrev cJ6_bitCount_0f7a4 : ByteArray := prog_8_method_49_code
def yJ6_bitCount_0f7a4 : MethodName := ⟨RJ6, "bitCount", "(I)I"⟩
def RJ9 : String := "java/lang/Math"
def TJ9 : u_T := fun k => match k with
  | _ => ("", "", "", false)
def tyJ9 : Nat → FieldType := fun k => match k with
  | _ => .int
abbrev cJ9_floorMod_7cf53 : ByteArray := prog_9_method_50_code
def yJ9_floorMod_7cf53 : MethodName := ⟨RJ9, "floorMod", "(II)I"⟩
abbrev cJ9_max_7cf53 : ByteArray := prog_9_method_65_code
def yJ9_max_7cf53 : MethodName := ⟨RJ9, "max", "(II)I"⟩
abbrev cJ9_min_7cf53 : ByteArray := prog_9_method_69_code
def yJ9_min_7cf53 : MethodName := ⟨RJ9, "min", "(II)I"⟩
def RJ0 : String := "java/lang/String"
def TJ0 : u_T := fun k => match k with
  | _ => ("", "", "", false)
def tyJ0 : Nat → FieldType := fun k => match k with
  | _ => .int
abbrev cJ0_length_8abf5 : ByteArray := prog_10_method_54_code
def yJ0_length_8abf5 : MethodName := ⟨RJ0, "length", "()I"⟩
abbrev cJ0_charAt_5068e : ByteArray := prog_10_method_56_code
def yJ0_charAt_5068e : MethodName := ⟨RJ0, "charAt", "(I)C"⟩
abbrev cJ0_coder_7d493 : ByteArray := prog_10_method_152_code
def yJ0_coder_7d493 : MethodName := ⟨RJ0, "coder", "()B"⟩
abbrev cJ0_isLatin1_aae02 : ByteArray := prog_10_method_154_code
def yJ0_isLatin1_aae02 : MethodName := ⟨RJ0, "isLatin1", "()Z"⟩
abbrev cJ0_checkIndex_df160 : ByteArray := prog_10_method_155_code
def yJ0_checkIndex_df160 : MethodName := ⟨RJ0, "checkIndex", "(II)V"⟩
def RJ1 : String := "java/lang/StringLatin1"
def TJ1 : u_T := fun k => match k with
  | _ => ("", "", "", false)
def tyJ1 : Nat → FieldType := fun k => match k with
  | _ => .int
abbrev cJ1_charAt_3b067 : ByteArray := prog_11_method_2_code
def yJ1_charAt_3b067 : MethodName := ⟨RJ1, "charAt", "([BI)C"⟩
def RJ2 : String := "java/lang/StringUTF16"
def TJ2 : u_T := fun k => match k with
  | _ => ("", "", "", false)
def tyJ2 : Nat → FieldType := fun k => match k with
  | _ => .int
abbrev cJ2_getChar_3b067 : ByteArray := prog_12_method_5_code
def yJ2_getChar_3b067 : MethodName := ⟨RJ2, "getChar", "([BI)C"⟩
abbrev cJ2_length_9d52b : ByteArray := prog_12_method_6_code
def yJ2_length_9d52b : MethodName := ⟨RJ2, "length", "([B)I"⟩
abbrev cJ2_charAt_3b067 : ByteArray := prog_12_method_83_code
def yJ2_charAt_3b067 : MethodName := ⟨RJ2, "charAt", "([BI)C"⟩
abbrev cJ2_checkIndex_2214a : ByteArray := prog_12_method_91_code
def yJ2_checkIndex_2214a : MethodName := ⟨RJ2, "checkIndex", "(I[B)V"⟩
def RJ10 : String := "java/lang/System"
def TJ10 : u_T := fun k => match k with
  | _ => ("", "", "", false)
def tyJ10 : Nat → FieldType := fun k => match k with
  | _ => .int
def RJ3 : String := "jdk/internal/util/Preconditions"
def TJ3 : u_T := fun k => match k with
  | _ => ("", "", "", false)
def tyJ3 : Nat → FieldType := fun k => match k with
  | _ => .int
abbrev cJ3_checkIndex_8e157 : ByteArray := prog_14_method_11_code
def yJ3_checkIndex_8e157 : MethodName := ⟨RJ3, "checkIndex", "(IILjava/util/function/BiFunction;)I"⟩
def RL : String := "SuperStepsLaw"
abbrev cL_law : ByteArray := code
abbrev vwCl : List vw_C := [(RX0, TX0, 4), (RX1, TX1, 12), (RX2, TX2, 13), (RX3, TX3, 4), (RX4, TX4, 7), (RX5, TX5, 12)]
end
section
theorem dX0_init_0 : decode cX0_init 0 = .ok (.aload_n 0, 1) := by decide +kernel
theorem dX0_init_1 : decode cX0_init 1 = .ok (.invokespecial 3, 3) := by decide +kernel
theorem dX0_init_4 : decode cX0_init 4 = .ok (.aload_n 0, 1) := by decide +kernel
theorem dX0_init_5 : decode cX0_init 5 = .ok (.bipush 16, 2) := by decide +kernel
theorem dX0_init_7 : decode cX0_init 7 = .ok (.newarray .int, 2) := by decide +kernel
theorem dX0_init_9 : decode cX0_init 9 = .ok (.putfield 9, 3) := by decide +kernel
theorem dX0_init_12 : decode cX0_init 12 = .ok (.aload_n 0, 1) := by decide +kernel
theorem dX0_init_13 : decode cX0_init 13 = .ok (.bipush 16, 2) := by decide +kernel
theorem dX0_init_15 : decode cX0_init 15 = .ok (.newarray .int, 2) := by decide +kernel
theorem dX0_init_17 : decode cX0_init 17 = .ok (.putfield 15, 3) := by decide +kernel
theorem dX0_init_20 : decode cX0_init 20 = .ok (.aload_n 0, 1) := by decide +kernel
theorem dX0_init_21 : decode cX0_init 21 = .ok (.bipush 16, 2) := by decide +kernel
theorem dX0_init_23 : decode cX0_init 23 = .ok (.newarray .int, 2) := by decide +kernel
theorem dX0_init_25 : decode cX0_init 25 = .ok (.putfield 18, 3) := by decide +kernel
theorem dX0_init_28 : decode cX0_init 28 = .ok (.return_, 1) := by decide +kernel
theorem dX0_copyFrom_0 : decode cX0_copyFrom 0 = .ok (.aload_n 0, 1) := by decide +kernel
theorem dX0_copyFrom_1 : decode cX0_copyFrom 1 = .ok (.aload_n 1, 1) := by decide +kernel
theorem dX0_copyFrom_2 : decode cX0_copyFrom 2 = .ok (.getfield 21, 3) := by decide +kernel
theorem dX0_copyFrom_5 : decode cX0_copyFrom 5 = .ok (.putfield 21, 3) := by decide +kernel
theorem dX0_copyFrom_8 : decode cX0_copyFrom 8 = .ok (.aload_n 1, 1) := by decide +kernel
theorem dX0_copyFrom_9 : decode cX0_copyFrom 9 = .ok (.getfield 9, 3) := by decide +kernel
theorem dX0_copyFrom_12 : decode cX0_copyFrom 12 = .ok (.iconst 0, 1) := by decide +kernel
theorem dX0_copyFrom_13 : decode cX0_copyFrom 13 = .ok (.aload_n 0, 1) := by decide +kernel
theorem dX0_copyFrom_14 : decode cX0_copyFrom 14 = .ok (.getfield 9, 3) := by decide +kernel
theorem dX0_copyFrom_17 : decode cX0_copyFrom 17 = .ok (.iconst 0, 1) := by decide +kernel
theorem dX0_copyFrom_18 : decode cX0_copyFrom 18 = .ok (.bipush 16, 2) := by decide +kernel
theorem dX0_copyFrom_20 : decode cX0_copyFrom 20 = .ok (.invokestatic 25, 3) := by decide +kernel
theorem dX0_copyFrom_23 : decode cX0_copyFrom 23 = .ok (.aload_n 1, 1) := by decide +kernel
theorem dX0_copyFrom_24 : decode cX0_copyFrom 24 = .ok (.getfield 15, 3) := by decide +kernel
theorem dX0_copyFrom_27 : decode cX0_copyFrom 27 = .ok (.iconst 0, 1) := by decide +kernel
theorem dX0_copyFrom_28 : decode cX0_copyFrom 28 = .ok (.aload_n 0, 1) := by decide +kernel
theorem dX0_copyFrom_29 : decode cX0_copyFrom 29 = .ok (.getfield 15, 3) := by decide +kernel
theorem dX0_copyFrom_32 : decode cX0_copyFrom 32 = .ok (.iconst 0, 1) := by decide +kernel
theorem dX0_copyFrom_33 : decode cX0_copyFrom 33 = .ok (.bipush 16, 2) := by decide +kernel
theorem dX0_copyFrom_35 : decode cX0_copyFrom 35 = .ok (.invokestatic 25, 3) := by decide +kernel
theorem dX0_copyFrom_38 : decode cX0_copyFrom 38 = .ok (.aload_n 1, 1) := by decide +kernel
theorem dX0_copyFrom_39 : decode cX0_copyFrom 39 = .ok (.getfield 18, 3) := by decide +kernel
theorem dX0_copyFrom_42 : decode cX0_copyFrom 42 = .ok (.iconst 0, 1) := by decide +kernel
theorem dX0_copyFrom_43 : decode cX0_copyFrom 43 = .ok (.aload_n 0, 1) := by decide +kernel
theorem dX0_copyFrom_44 : decode cX0_copyFrom 44 = .ok (.getfield 18, 3) := by decide +kernel
theorem dX0_copyFrom_47 : decode cX0_copyFrom 47 = .ok (.iconst 0, 1) := by decide +kernel
theorem dX0_copyFrom_48 : decode cX0_copyFrom 48 = .ok (.bipush 16, 2) := by decide +kernel
theorem dX0_copyFrom_50 : decode cX0_copyFrom 50 = .ok (.invokestatic 25, 3) := by decide +kernel
theorem dX0_copyFrom_53 : decode cX0_copyFrom 53 = .ok (.return_, 1) := by decide +kernel
theorem dX0_post_0 : decode cX0_post 0 = .ok (.aload_n 0, 1) := by decide +kernel
theorem dX0_post_1 : decode cX0_post 1 = .ok (.getfield 21, 3) := by decide +kernel
theorem dX0_post_4 : decode cX0_post 4 = .ok (.ifCond .lt 12, 3) := by decide +kernel
theorem dX0_post_7 : decode cX0_post 7 = .ok (.aload_n 0, 1) := by decide +kernel
theorem dX0_post_8 : decode cX0_post 8 = .ok (.getfield 21, 3) := by decide +kernel
theorem dX0_post_11 : decode cX0_post 11 = .ok (.bipush 16, 2) := by decide +kernel
theorem dX0_post_13 : decode cX0_post 13 = .ok (.if_icmp .lt 4, 3) := by decide +kernel
theorem dX0_post_16 : decode cX0_post 16 = .ok (.return_, 1) := by decide +kernel
theorem dX0_post_17 : decode cX0_post 17 = .ok (.aload_n 0, 1) := by decide +kernel
theorem dX0_post_18 : decode cX0_post 18 = .ok (.getfield 9, 3) := by decide +kernel
theorem dX0_post_21 : decode cX0_post 21 = .ok (.aload_n 0, 1) := by decide +kernel
theorem dX0_post_22 : decode cX0_post 22 = .ok (.getfield 21, 3) := by decide +kernel
theorem dX0_post_25 : decode cX0_post 25 = .ok (.iload_n 1, 1) := by decide +kernel
theorem dX0_post_26 : decode cX0_post 26 = .ok (.iastore, 1) := by decide +kernel
theorem dX0_post_27 : decode cX0_post 27 = .ok (.aload_n 0, 1) := by decide +kernel
theorem dX0_post_28 : decode cX0_post 28 = .ok (.getfield 15, 3) := by decide +kernel
theorem dX0_post_31 : decode cX0_post 31 = .ok (.aload_n 0, 1) := by decide +kernel
theorem dX0_post_32 : decode cX0_post 32 = .ok (.getfield 21, 3) := by decide +kernel
theorem dX0_post_35 : decode cX0_post 35 = .ok (.iload_n 2, 1) := by decide +kernel
theorem dX0_post_36 : decode cX0_post 36 = .ok (.iastore, 1) := by decide +kernel
theorem dX0_post_37 : decode cX0_post 37 = .ok (.aload_n 0, 1) := by decide +kernel
theorem dX0_post_38 : decode cX0_post 38 = .ok (.getfield 18, 3) := by decide +kernel
theorem dX0_post_41 : decode cX0_post 41 = .ok (.aload_n 0, 1) := by decide +kernel
theorem dX0_post_42 : decode cX0_post 42 = .ok (.getfield 21, 3) := by decide +kernel
theorem dX0_post_45 : decode cX0_post 45 = .ok (.iload_n 3, 1) := by decide +kernel
theorem dX0_post_46 : decode cX0_post 46 = .ok (.iastore, 1) := by decide +kernel
theorem dX0_post_47 : decode cX0_post 47 = .ok (.aload_n 0, 1) := by decide +kernel
theorem dX0_post_48 : decode cX0_post 48 = .ok (.dup, 1) := by decide +kernel
theorem dX0_post_49 : decode cX0_post 49 = .ok (.getfield 21, 3) := by decide +kernel
theorem dX0_post_52 : decode cX0_post 52 = .ok (.iconst 1, 1) := by decide +kernel
theorem dX0_post_53 : decode cX0_post 53 = .ok (.iadd, 1) := by decide +kernel
theorem dX0_post_54 : decode cX0_post 54 = .ok (.putfield 21, 3) := by decide +kernel
theorem dX0_post_57 : decode cX0_post 57 = .ok (.return_, 1) := by decide +kernel
theorem dX0_postCombined_0 : decode cX0_postCombined 0 = .ok (.iconst 0, 1) := by decide +kernel
theorem dX0_postCombined_1 : decode cX0_postCombined 1 = .ok (.istore 5, 2) := by decide +kernel
theorem dX0_postCombined_3 : decode cX0_postCombined 3 = .ok (.iload 5, 2) := by decide +kernel
theorem dX0_postCombined_5 : decode cX0_postCombined 5 = .ok (.aload_n 0, 1) := by decide +kernel
theorem dX0_postCombined_6 : decode cX0_postCombined 6 = .ok (.getfield 21, 3) := by decide +kernel
theorem dX0_postCombined_9 : decode cX0_postCombined 9 = .ok (.if_icmp .ge 52, 3) := by decide +kernel
theorem dX0_postCombined_12 : decode cX0_postCombined 12 = .ok (.aload_n 0, 1) := by decide +kernel
theorem dX0_postCombined_13 : decode cX0_postCombined 13 = .ok (.getfield 9, 3) := by decide +kernel
theorem dX0_postCombined_16 : decode cX0_postCombined 16 = .ok (.iload 5, 2) := by decide +kernel
theorem dX0_postCombined_18 : decode cX0_postCombined 18 = .ok (.iaload, 1) := by decide +kernel
theorem dX0_postCombined_19 : decode cX0_postCombined 19 = .ok (.iload_n 2, 1) := by decide +kernel
theorem dX0_postCombined_20 : decode cX0_postCombined 20 = .ok (.if_icmp .ne 35, 3) := by decide +kernel
theorem dX0_postCombined_23 : decode cX0_postCombined 23 = .ok (.aload_n 0, 1) := by decide +kernel
theorem dX0_postCombined_24 : decode cX0_postCombined 24 = .ok (.getfield 18, 3) := by decide +kernel
theorem dX0_postCombined_27 : decode cX0_postCombined 27 = .ok (.iload 5, 2) := by decide +kernel
theorem dX0_postCombined_29 : decode cX0_postCombined 29 = .ok (.iaload, 1) := by decide +kernel
theorem dX0_postCombined_30 : decode cX0_postCombined 30 = .ok (.iload 4, 2) := by decide +kernel
theorem dX0_postCombined_32 : decode cX0_postCombined 32 = .ok (.if_icmp .ne 23, 3) := by decide +kernel
theorem dX0_postCombined_35 : decode cX0_postCombined 35 = .ok (.aload_n 0, 1) := by decide +kernel
theorem dX0_postCombined_36 : decode cX0_postCombined 36 = .ok (.getfield 15, 3) := by decide +kernel
theorem dX0_postCombined_39 : decode cX0_postCombined 39 = .ok (.iload 5, 2) := by decide +kernel
theorem dX0_postCombined_41 : decode cX0_postCombined 41 = .ok (.iload_n 1, 1) := by decide +kernel
theorem dX0_postCombined_42 : decode cX0_postCombined 42 = .ok (.aload_n 0, 1) := by decide +kernel
theorem dX0_postCombined_43 : decode cX0_postCombined 43 = .ok (.getfield 15, 3) := by decide +kernel
theorem dX0_postCombined_46 : decode cX0_postCombined 46 = .ok (.iload 5, 2) := by decide +kernel
theorem dX0_postCombined_48 : decode cX0_postCombined 48 = .ok (.iaload, 1) := by decide +kernel
theorem dX0_postCombined_49 : decode cX0_postCombined 49 = .ok (.iload_n 3, 1) := by decide +kernel
theorem dX0_postCombined_50 : decode cX0_postCombined 50 = .ok (.invokestatic 31, 3) := by decide +kernel
theorem dX0_postCombined_53 : decode cX0_postCombined 53 = .ok (.iastore, 1) := by decide +kernel
theorem dX0_postCombined_54 : decode cX0_postCombined 54 = .ok (.return_, 1) := by decide +kernel
theorem dX0_postCombined_55 : decode cX0_postCombined 55 = .ok (.iinc 5 1, 3) := by decide +kernel
theorem dX0_postCombined_58 : decode cX0_postCombined 58 = .ok (.goto (-55), 3) := by decide +kernel
theorem dX0_postCombined_61 : decode cX0_postCombined 61 = .ok (.aload_n 0, 1) := by decide +kernel
theorem dX0_postCombined_62 : decode cX0_postCombined 62 = .ok (.iload_n 2, 1) := by decide +kernel
theorem dX0_postCombined_63 : decode cX0_postCombined 63 = .ok (.iload_n 3, 1) := by decide +kernel
theorem dX0_postCombined_64 : decode cX0_postCombined 64 = .ok (.iload 4, 2) := by decide +kernel
theorem dX0_postCombined_66 : decode cX0_postCombined 66 = .ok (.invokevirtual 35, 3) := by decide +kernel
theorem dX0_postCombined_69 : decode cX0_postCombined 69 = .ok (.return_, 1) := by decide +kernel
theorem dX0_countFor_0 : decode cX0_countFor 0 = .ok (.iconst 0, 1) := by decide +kernel
theorem dX0_countFor_1 : decode cX0_countFor 1 = .ok (.istore_n 2, 1) := by decide +kernel
theorem dX0_countFor_2 : decode cX0_countFor 2 = .ok (.iconst 0, 1) := by decide +kernel
theorem dX0_countFor_3 : decode cX0_countFor 3 = .ok (.istore_n 3, 1) := by decide +kernel
theorem dX0_countFor_4 : decode cX0_countFor 4 = .ok (.iload_n 3, 1) := by decide +kernel
theorem dX0_countFor_5 : decode cX0_countFor 5 = .ok (.aload_n 0, 1) := by decide +kernel
theorem dX0_countFor_6 : decode cX0_countFor 6 = .ok (.getfield 21, 3) := by decide +kernel
theorem dX0_countFor_9 : decode cX0_countFor 9 = .ok (.if_icmp .ge 22, 3) := by decide +kernel
theorem dX0_countFor_12 : decode cX0_countFor 12 = .ok (.aload_n 0, 1) := by decide +kernel
theorem dX0_countFor_13 : decode cX0_countFor 13 = .ok (.getfield 9, 3) := by decide +kernel
theorem dX0_countFor_16 : decode cX0_countFor 16 = .ok (.iload_n 3, 1) := by decide +kernel
theorem dX0_countFor_17 : decode cX0_countFor 17 = .ok (.iaload, 1) := by decide +kernel
theorem dX0_countFor_18 : decode cX0_countFor 18 = .ok (.iload_n 1, 1) := by decide +kernel
theorem dX0_countFor_19 : decode cX0_countFor 19 = .ok (.if_icmp .ne 6, 3) := by decide +kernel
theorem dX0_countFor_22 : decode cX0_countFor 22 = .ok (.iinc 2 1, 3) := by decide +kernel
theorem dX0_countFor_25 : decode cX0_countFor 25 = .ok (.iinc 3 1, 3) := by decide +kernel
theorem dX0_countFor_28 : decode cX0_countFor 28 = .ok (.goto (-24), 3) := by decide +kernel
theorem dX0_countFor_31 : decode cX0_countFor 31 = .ok (.iload_n 2, 1) := by decide +kernel
theorem dX0_countFor_32 : decode cX0_countFor 32 = .ok (.ireturn, 1) := by decide +kernel
theorem dX0_gistFor_0 : decode cX0_gistFor 0 = .ok (.iconst 0, 1) := by decide +kernel
theorem dX0_gistFor_1 : decode cX0_gistFor 1 = .ok (.istore_n 3, 1) := by decide +kernel
theorem dX0_gistFor_2 : decode cX0_gistFor 2 = .ok (.iconst 0, 1) := by decide +kernel
theorem dX0_gistFor_3 : decode cX0_gistFor 3 = .ok (.istore 4, 2) := by decide +kernel
theorem dX0_gistFor_5 : decode cX0_gistFor 5 = .ok (.iconst 0, 1) := by decide +kernel
theorem dX0_gistFor_6 : decode cX0_gistFor 6 = .ok (.istore 5, 2) := by decide +kernel
theorem dX0_gistFor_8 : decode cX0_gistFor 8 = .ok (.iload 5, 2) := by decide +kernel
theorem dX0_gistFor_10 : decode cX0_gistFor 10 = .ok (.aload_n 0, 1) := by decide +kernel
theorem dX0_gistFor_11 : decode cX0_gistFor 11 = .ok (.getfield 21, 3) := by decide +kernel
theorem dX0_gistFor_14 : decode cX0_gistFor 14 = .ok (.if_icmp .ge 51, 3) := by decide +kernel
theorem dX0_gistFor_17 : decode cX0_gistFor 17 = .ok (.aload_n 0, 1) := by decide +kernel
theorem dX0_gistFor_18 : decode cX0_gistFor 18 = .ok (.getfield 9, 3) := by decide +kernel
theorem dX0_gistFor_21 : decode cX0_gistFor 21 = .ok (.iload 5, 2) := by decide +kernel
theorem dX0_gistFor_23 : decode cX0_gistFor 23 = .ok (.iaload, 1) := by decide +kernel
theorem dX0_gistFor_24 : decode cX0_gistFor 24 = .ok (.iload_n 1, 1) := by decide +kernel
theorem dX0_gistFor_25 : decode cX0_gistFor 25 = .ok (.if_icmp .ne 34, 3) := by decide +kernel
theorem dX0_gistFor_28 : decode cX0_gistFor 28 = .ok (.iload 4, 2) := by decide +kernel
theorem dX0_gistFor_30 : decode cX0_gistFor 30 = .ok (.ifCond .eq 18, 3) := by decide +kernel
theorem dX0_gistFor_33 : decode cX0_gistFor 33 = .ok (.iload_n 2, 1) := by decide +kernel
theorem dX0_gistFor_34 : decode cX0_gistFor 34 = .ok (.iload_n 3, 1) := by decide +kernel
theorem dX0_gistFor_35 : decode cX0_gistFor 35 = .ok (.aload_n 0, 1) := by decide +kernel
theorem dX0_gistFor_36 : decode cX0_gistFor 36 = .ok (.getfield 15, 3) := by decide +kernel
theorem dX0_gistFor_39 : decode cX0_gistFor 39 = .ok (.iload 5, 2) := by decide +kernel
theorem dX0_gistFor_41 : decode cX0_gistFor 41 = .ok (.iaload, 1) := by decide +kernel
theorem dX0_gistFor_42 : decode cX0_gistFor 42 = .ok (.invokestatic 31, 3) := by decide +kernel
theorem dX0_gistFor_45 : decode cX0_gistFor 45 = .ok (.goto 10, 3) := by decide +kernel
theorem dX0_gistFor_48 : decode cX0_gistFor 48 = .ok (.aload_n 0, 1) := by decide +kernel
theorem dX0_gistFor_49 : decode cX0_gistFor 49 = .ok (.getfield 15, 3) := by decide +kernel
theorem dX0_gistFor_52 : decode cX0_gistFor 52 = .ok (.iload 5, 2) := by decide +kernel
theorem dX0_gistFor_54 : decode cX0_gistFor 54 = .ok (.iaload, 1) := by decide +kernel
theorem dX0_gistFor_55 : decode cX0_gistFor 55 = .ok (.istore_n 3, 1) := by decide +kernel
theorem dX0_gistFor_56 : decode cX0_gistFor 56 = .ok (.iconst 1, 1) := by decide +kernel
theorem dX0_gistFor_57 : decode cX0_gistFor 57 = .ok (.istore 4, 2) := by decide +kernel
theorem dX0_gistFor_59 : decode cX0_gistFor 59 = .ok (.iinc 5 1, 3) := by decide +kernel
theorem dX0_gistFor_62 : decode cX0_gistFor 62 = .ok (.goto (-54), 3) := by decide +kernel
theorem dX0_gistFor_65 : decode cX0_gistFor 65 = .ok (.iload_n 3, 1) := by decide +kernel
theorem dX0_gistFor_66 : decode cX0_gistFor 66 = .ok (.ireturn, 1) := by decide +kernel
theorem dX0_placeOfRank_0 : decode cX0_placeOfRank 0 = .ok (.iconst 0, 1) := by decide +kernel
theorem dX0_placeOfRank_1 : decode cX0_placeOfRank 1 = .ok (.istore_n 3, 1) := by decide +kernel
theorem dX0_placeOfRank_2 : decode cX0_placeOfRank 2 = .ok (.iload_n 3, 1) := by decide +kernel
theorem dX0_placeOfRank_3 : decode cX0_placeOfRank 3 = .ok (.aload_n 0, 1) := by decide +kernel
theorem dX0_placeOfRank_4 : decode cX0_placeOfRank 4 = .ok (.getfield 21, 3) := by decide +kernel
theorem dX0_placeOfRank_7 : decode cX0_placeOfRank 7 = .ok (.if_icmp .ge 30, 3) := by decide +kernel
theorem dX0_placeOfRank_10 : decode cX0_placeOfRank 10 = .ok (.aload_n 0, 1) := by decide +kernel
theorem dX0_placeOfRank_11 : decode cX0_placeOfRank 11 = .ok (.getfield 9, 3) := by decide +kernel
theorem dX0_placeOfRank_14 : decode cX0_placeOfRank 14 = .ok (.iload_n 3, 1) := by decide +kernel
theorem dX0_placeOfRank_15 : decode cX0_placeOfRank 15 = .ok (.iaload, 1) := by decide +kernel
theorem dX0_placeOfRank_16 : decode cX0_placeOfRank 16 = .ok (.iload_n 1, 1) := by decide +kernel
theorem dX0_placeOfRank_17 : decode cX0_placeOfRank 17 = .ok (.if_icmp .ne 14, 3) := by decide +kernel
theorem dX0_placeOfRank_20 : decode cX0_placeOfRank 20 = .ok (.aload_n 0, 1) := by decide +kernel
theorem dX0_placeOfRank_21 : decode cX0_placeOfRank 21 = .ok (.iload_n 3, 1) := by decide +kernel
theorem dX0_placeOfRank_22 : decode cX0_placeOfRank 22 = .ok (.invokevirtual 39, 3) := by decide +kernel
theorem dX0_placeOfRank_25 : decode cX0_placeOfRank 25 = .ok (.iload_n 2, 1) := by decide +kernel
theorem dX0_placeOfRank_26 : decode cX0_placeOfRank 26 = .ok (.if_icmp .ne 5, 3) := by decide +kernel
theorem dX0_placeOfRank_29 : decode cX0_placeOfRank 29 = .ok (.iload_n 3, 1) := by decide +kernel
theorem dX0_placeOfRank_30 : decode cX0_placeOfRank 30 = .ok (.ireturn, 1) := by decide +kernel
theorem dX0_placeOfRank_31 : decode cX0_placeOfRank 31 = .ok (.iinc 3 1, 3) := by decide +kernel
theorem dX0_placeOfRank_34 : decode cX0_placeOfRank 34 = .ok (.goto (-32), 3) := by decide +kernel
theorem dX0_placeOfRank_37 : decode cX0_placeOfRank 37 = .ok (.bipush (-4), 2) := by decide +kernel
theorem dX0_placeOfRank_39 : decode cX0_placeOfRank 39 = .ok (.ireturn, 1) := by decide +kernel
theorem dX0_countAhead_0 : decode cX0_countAhead 0 = .ok (.iconst 0, 1) := by decide +kernel
theorem dX0_countAhead_1 : decode cX0_countAhead 1 = .ok (.istore_n 2, 1) := by decide +kernel
theorem dX0_countAhead_2 : decode cX0_countAhead 2 = .ok (.iconst 0, 1) := by decide +kernel
theorem dX0_countAhead_3 : decode cX0_countAhead 3 = .ok (.istore_n 3, 1) := by decide +kernel
theorem dX0_countAhead_4 : decode cX0_countAhead 4 = .ok (.iload_n 3, 1) := by decide +kernel
theorem dX0_countAhead_5 : decode cX0_countAhead 5 = .ok (.aload_n 0, 1) := by decide +kernel
theorem dX0_countAhead_6 : decode cX0_countAhead 6 = .ok (.getfield 21, 3) := by decide +kernel
theorem dX0_countAhead_9 : decode cX0_countAhead 9 = .ok (.if_icmp .ge 36, 3) := by decide +kernel
theorem dX0_countAhead_12 : decode cX0_countAhead 12 = .ok (.aload_n 0, 1) := by decide +kernel
theorem dX0_countAhead_13 : decode cX0_countAhead 13 = .ok (.getfield 9, 3) := by decide +kernel
theorem dX0_countAhead_16 : decode cX0_countAhead 16 = .ok (.iload_n 3, 1) := by decide +kernel
theorem dX0_countAhead_17 : decode cX0_countAhead 17 = .ok (.iaload, 1) := by decide +kernel
theorem dX0_countAhead_18 : decode cX0_countAhead 18 = .ok (.aload_n 0, 1) := by decide +kernel
theorem dX0_countAhead_19 : decode cX0_countAhead 19 = .ok (.getfield 9, 3) := by decide +kernel
theorem dX0_countAhead_22 : decode cX0_countAhead 22 = .ok (.iload_n 1, 1) := by decide +kernel
theorem dX0_countAhead_23 : decode cX0_countAhead 23 = .ok (.iaload, 1) := by decide +kernel
theorem dX0_countAhead_24 : decode cX0_countAhead 24 = .ok (.if_icmp .ne 15, 3) := by decide +kernel
theorem dX0_countAhead_27 : decode cX0_countAhead 27 = .ok (.aload_n 0, 1) := by decide +kernel
theorem dX0_countAhead_28 : decode cX0_countAhead 28 = .ok (.iload_n 3, 1) := by decide +kernel
theorem dX0_countAhead_29 : decode cX0_countAhead 29 = .ok (.iload_n 1, 1) := by decide +kernel
theorem dX0_countAhead_30 : decode cX0_countAhead 30 = .ok (.invokevirtual 43, 3) := by decide +kernel
theorem dX0_countAhead_33 : decode cX0_countAhead 33 = .ok (.ifCond .eq 6, 3) := by decide +kernel
theorem dX0_countAhead_36 : decode cX0_countAhead 36 = .ok (.iinc 2 1, 3) := by decide +kernel
theorem dX0_countAhead_39 : decode cX0_countAhead 39 = .ok (.iinc 3 1, 3) := by decide +kernel
theorem dX0_countAhead_42 : decode cX0_countAhead 42 = .ok (.goto (-38), 3) := by decide +kernel
theorem dX0_countAhead_45 : decode cX0_countAhead 45 = .ok (.iload_n 2, 1) := by decide +kernel
theorem dX0_countAhead_46 : decode cX0_countAhead 46 = .ok (.ireturn, 1) := by decide +kernel
theorem dX0_isAhead_0 : decode cX0_isAhead 0 = .ok (.aload_n 0, 1) := by decide +kernel
theorem dX0_isAhead_1 : decode cX0_isAhead 1 = .ok (.getfield 15, 3) := by decide +kernel
theorem dX0_isAhead_4 : decode cX0_isAhead 4 = .ok (.iload_n 1, 1) := by decide +kernel
theorem dX0_isAhead_5 : decode cX0_isAhead 5 = .ok (.iaload, 1) := by decide +kernel
theorem dX0_isAhead_6 : decode cX0_isAhead 6 = .ok (.aload_n 0, 1) := by decide +kernel
theorem dX0_isAhead_7 : decode cX0_isAhead 7 = .ok (.getfield 15, 3) := by decide +kernel
theorem dX0_isAhead_10 : decode cX0_isAhead 10 = .ok (.iload_n 2, 1) := by decide +kernel
theorem dX0_isAhead_11 : decode cX0_isAhead 11 = .ok (.iaload, 1) := by decide +kernel
theorem dX0_isAhead_12 : decode cX0_isAhead 12 = .ok (.if_icmp .eq 24, 3) := by decide +kernel
theorem dX0_isAhead_15 : decode cX0_isAhead 15 = .ok (.aload_n 0, 1) := by decide +kernel
theorem dX0_isAhead_16 : decode cX0_isAhead 16 = .ok (.getfield 15, 3) := by decide +kernel
theorem dX0_isAhead_19 : decode cX0_isAhead 19 = .ok (.iload_n 1, 1) := by decide +kernel
theorem dX0_isAhead_20 : decode cX0_isAhead 20 = .ok (.iaload, 1) := by decide +kernel
theorem dX0_isAhead_21 : decode cX0_isAhead 21 = .ok (.aload_n 0, 1) := by decide +kernel
theorem dX0_isAhead_22 : decode cX0_isAhead 22 = .ok (.getfield 15, 3) := by decide +kernel
theorem dX0_isAhead_25 : decode cX0_isAhead 25 = .ok (.iload_n 2, 1) := by decide +kernel
theorem dX0_isAhead_26 : decode cX0_isAhead 26 = .ok (.iaload, 1) := by decide +kernel
theorem dX0_isAhead_27 : decode cX0_isAhead 27 = .ok (.if_icmp .ge 7, 3) := by decide +kernel
theorem dX0_isAhead_30 : decode cX0_isAhead 30 = .ok (.iconst 1, 1) := by decide +kernel
theorem dX0_isAhead_31 : decode cX0_isAhead 31 = .ok (.goto 4, 3) := by decide +kernel
theorem dX0_isAhead_34 : decode cX0_isAhead 34 = .ok (.iconst 0, 1) := by decide +kernel
theorem dX0_isAhead_35 : decode cX0_isAhead 35 = .ok (.ireturn, 1) := by decide +kernel
theorem dX0_isAhead_36 : decode cX0_isAhead 36 = .ok (.aload_n 0, 1) := by decide +kernel
theorem dX0_isAhead_37 : decode cX0_isAhead 37 = .ok (.getfield 18, 3) := by decide +kernel
theorem dX0_isAhead_40 : decode cX0_isAhead 40 = .ok (.iload_n 1, 1) := by decide +kernel
theorem dX0_isAhead_41 : decode cX0_isAhead 41 = .ok (.iaload, 1) := by decide +kernel
theorem dX0_isAhead_42 : decode cX0_isAhead 42 = .ok (.aload_n 0, 1) := by decide +kernel
theorem dX0_isAhead_43 : decode cX0_isAhead 43 = .ok (.getfield 18, 3) := by decide +kernel
theorem dX0_isAhead_46 : decode cX0_isAhead 46 = .ok (.iload_n 2, 1) := by decide +kernel
theorem dX0_isAhead_47 : decode cX0_isAhead 47 = .ok (.iaload, 1) := by decide +kernel
theorem dX0_isAhead_48 : decode cX0_isAhead 48 = .ok (.if_icmp .eq 24, 3) := by decide +kernel
theorem dX0_isAhead_51 : decode cX0_isAhead 51 = .ok (.aload_n 0, 1) := by decide +kernel
theorem dX0_isAhead_52 : decode cX0_isAhead 52 = .ok (.getfield 18, 3) := by decide +kernel
theorem dX0_isAhead_55 : decode cX0_isAhead 55 = .ok (.iload_n 1, 1) := by decide +kernel
theorem dX0_isAhead_56 : decode cX0_isAhead 56 = .ok (.iaload, 1) := by decide +kernel
theorem dX0_isAhead_57 : decode cX0_isAhead 57 = .ok (.aload_n 0, 1) := by decide +kernel
theorem dX0_isAhead_58 : decode cX0_isAhead 58 = .ok (.getfield 18, 3) := by decide +kernel
theorem dX0_isAhead_61 : decode cX0_isAhead 61 = .ok (.iload_n 2, 1) := by decide +kernel
theorem dX0_isAhead_62 : decode cX0_isAhead 62 = .ok (.iaload, 1) := by decide +kernel
theorem dX0_isAhead_63 : decode cX0_isAhead 63 = .ok (.if_icmp .ge 7, 3) := by decide +kernel
theorem dX0_isAhead_66 : decode cX0_isAhead 66 = .ok (.iconst 1, 1) := by decide +kernel
theorem dX0_isAhead_67 : decode cX0_isAhead 67 = .ok (.goto 4, 3) := by decide +kernel
theorem dX0_isAhead_70 : decode cX0_isAhead 70 = .ok (.iconst 0, 1) := by decide +kernel
theorem dX0_isAhead_71 : decode cX0_isAhead 71 = .ok (.ireturn, 1) := by decide +kernel
theorem dX0_isAhead_72 : decode cX0_isAhead 72 = .ok (.iload_n 1, 1) := by decide +kernel
theorem dX0_isAhead_73 : decode cX0_isAhead 73 = .ok (.iload_n 2, 1) := by decide +kernel
theorem dX0_isAhead_74 : decode cX0_isAhead 74 = .ok (.if_icmp .ge 7, 3) := by decide +kernel
theorem dX0_isAhead_77 : decode cX0_isAhead 77 = .ok (.iconst 1, 1) := by decide +kernel
theorem dX0_isAhead_78 : decode cX0_isAhead 78 = .ok (.goto 4, 3) := by decide +kernel
theorem dX0_isAhead_81 : decode cX0_isAhead 81 = .ok (.iconst 0, 1) := by decide +kernel
theorem dX0_isAhead_82 : decode cX0_isAhead 82 = .ok (.ireturn, 1) := by decide +kernel
theorem dX0_countCross_0 : decode cX0_countCross 0 = .ok (.iconst 0, 1) := by decide +kernel
theorem dX0_countCross_1 : decode cX0_countCross 1 = .ok (.istore_n 2, 1) := by decide +kernel
theorem dX0_countCross_2 : decode cX0_countCross 2 = .ok (.iconst 0, 1) := by decide +kernel
theorem dX0_countCross_3 : decode cX0_countCross 3 = .ok (.istore_n 3, 1) := by decide +kernel
theorem dX0_countCross_4 : decode cX0_countCross 4 = .ok (.iload_n 3, 1) := by decide +kernel
theorem dX0_countCross_5 : decode cX0_countCross 5 = .ok (.aload_n 0, 1) := by decide +kernel
theorem dX0_countCross_6 : decode cX0_countCross 6 = .ok (.getfield 21, 3) := by decide +kernel
theorem dX0_countCross_9 : decode cX0_countCross 9 = .ok (.if_icmp .ge 29, 3) := by decide +kernel
theorem dX0_countCross_12 : decode cX0_countCross 12 = .ok (.aload_n 1, 1) := by decide +kernel
theorem dX0_countCross_13 : decode cX0_countCross 13 = .ok (.aload_n 0, 1) := by decide +kernel
theorem dX0_countCross_14 : decode cX0_countCross 14 = .ok (.getfield 9, 3) := by decide +kernel
theorem dX0_countCross_17 : decode cX0_countCross 17 = .ok (.iload_n 3, 1) := by decide +kernel
theorem dX0_countCross_18 : decode cX0_countCross 18 = .ok (.iaload, 1) := by decide +kernel
theorem dX0_countCross_19 : decode cX0_countCross 19 = .ok (.iaload, 1) := by decide +kernel
theorem dX0_countCross_20 : decode cX0_countCross 20 = .ok (.aload_n 0, 1) := by decide +kernel
theorem dX0_countCross_21 : decode cX0_countCross 21 = .ok (.getfield 18, 3) := by decide +kernel
theorem dX0_countCross_24 : decode cX0_countCross 24 = .ok (.iload_n 3, 1) := by decide +kernel
theorem dX0_countCross_25 : decode cX0_countCross 25 = .ok (.iaload, 1) := by decide +kernel
theorem dX0_countCross_26 : decode cX0_countCross 26 = .ok (.if_icmp .eq 6, 3) := by decide +kernel
theorem dX0_countCross_29 : decode cX0_countCross 29 = .ok (.iinc 2 1, 3) := by decide +kernel
theorem dX0_countCross_32 : decode cX0_countCross 32 = .ok (.iinc 3 1, 3) := by decide +kernel
theorem dX0_countCross_35 : decode cX0_countCross 35 = .ok (.goto (-31), 3) := by decide +kernel
theorem dX0_countCross_38 : decode cX0_countCross 38 = .ok (.iload_n 2, 1) := by decide +kernel
theorem dX0_countCross_39 : decode cX0_countCross 39 = .ok (.ireturn, 1) := by decide +kernel
theorem dX1_init_0 : decode cX1_init 0 = .ok (.aload_n 0, 1) := by decide +kernel
theorem dX1_init_1 : decode cX1_init 1 = .ok (.invokespecial 3, 3) := by decide +kernel
theorem dX1_init_4 : decode cX1_init 4 = .ok (.aload_n 0, 1) := by decide +kernel
theorem dX1_init_5 : decode cX1_init 5 = .ok (.bipush 16, 2) := by decide +kernel
theorem dX1_init_7 : decode cX1_init 7 = .ok (.newarray .int, 2) := by decide +kernel
theorem dX1_init_9 : decode cX1_init 9 = .ok (.putfield 9, 3) := by decide +kernel
theorem dX1_init_12 : decode cX1_init 12 = .ok (.aload_n 0, 1) := by decide +kernel
theorem dX1_init_13 : decode cX1_init 13 = .ok (.bipush 16, 2) := by decide +kernel
theorem dX1_init_15 : decode cX1_init 15 = .ok (.newarray .int, 2) := by decide +kernel
theorem dX1_init_17 : decode cX1_init 17 = .ok (.putfield 15, 3) := by decide +kernel
theorem dX1_init_20 : decode cX1_init 20 = .ok (.aload_n 0, 1) := by decide +kernel
theorem dX1_init_21 : decode cX1_init 21 = .ok (.bipush 16, 2) := by decide +kernel
theorem dX1_init_23 : decode cX1_init 23 = .ok (.newarray .int, 2) := by decide +kernel
theorem dX1_init_25 : decode cX1_init 25 = .ok (.putfield 18, 3) := by decide +kernel
theorem dX1_init_28 : decode cX1_init 28 = .ok (.aload_n 0, 1) := by decide +kernel
theorem dX1_init_29 : decode cX1_init 29 = .ok (.bipush 12, 2) := by decide +kernel
theorem dX1_init_31 : decode cX1_init 31 = .ok (.newarray .int, 2) := by decide +kernel
theorem dX1_init_33 : decode cX1_init 33 = .ok (.putfield 21, 3) := by decide +kernel
theorem dX1_init_36 : decode cX1_init 36 = .ok (.return_, 1) := by decide +kernel
theorem dX1_reset_0 : decode cX1_reset 0 = .ok (.aload_n 0, 1) := by decide +kernel
theorem dX1_reset_1 : decode cX1_reset 1 = .ok (.iconst 4, 1) := by decide +kernel
theorem dX1_reset_2 : decode cX1_reset 2 = .ok (.putfield 24, 3) := by decide +kernel
theorem dX1_reset_5 : decode cX1_reset 5 = .ok (.aload_n 0, 1) := by decide +kernel
theorem dX1_reset_6 : decode cX1_reset 6 = .ok (.iconst 0, 1) := by decide +kernel
theorem dX1_reset_7 : decode cX1_reset 7 = .ok (.putfield 28, 3) := by decide +kernel
theorem dX1_reset_10 : decode cX1_reset 10 = .ok (.aload_n 0, 1) := by decide +kernel
theorem dX1_reset_11 : decode cX1_reset 11 = .ok (.iconst 0, 1) := by decide +kernel
theorem dX1_reset_12 : decode cX1_reset 12 = .ok (.putfield 31, 3) := by decide +kernel
theorem dX1_reset_15 : decode cX1_reset 15 = .ok (.aload_n 0, 1) := by decide +kernel
theorem dX1_reset_16 : decode cX1_reset 16 = .ok (.iconst 0, 1) := by decide +kernel
theorem dX1_reset_17 : decode cX1_reset 17 = .ok (.putfield 34, 3) := by decide +kernel
theorem dX1_reset_20 : decode cX1_reset 20 = .ok (.aload_n 0, 1) := by decide +kernel
theorem dX1_reset_21 : decode cX1_reset 21 = .ok (.iconst 2, 1) := by decide +kernel
theorem dX1_reset_22 : decode cX1_reset 22 = .ok (.putfield 37, 3) := by decide +kernel
theorem dX1_reset_25 : decode cX1_reset 25 = .ok (.aload_n 0, 1) := by decide +kernel
theorem dX1_reset_26 : decode cX1_reset 26 = .ok (.iconst 0, 1) := by decide +kernel
theorem dX1_reset_27 : decode cX1_reset 27 = .ok (.putfield 40, 3) := by decide +kernel
theorem dX1_reset_30 : decode cX1_reset 30 = .ok (.aload_n 0, 1) := by decide +kernel
theorem dX1_reset_31 : decode cX1_reset 31 = .ok (.iconst 0, 1) := by decide +kernel
theorem dX1_reset_32 : decode cX1_reset 32 = .ok (.putfield 43, 3) := by decide +kernel
theorem dX1_reset_35 : decode cX1_reset 35 = .ok (.aload_n 0, 1) := by decide +kernel
theorem dX1_reset_36 : decode cX1_reset 36 = .ok (.iconst 0, 1) := by decide +kernel
theorem dX1_reset_37 : decode cX1_reset 37 = .ok (.putfield 46, 3) := by decide +kernel
theorem dX1_reset_40 : decode cX1_reset 40 = .ok (.iconst 0, 1) := by decide +kernel
theorem dX1_reset_41 : decode cX1_reset 41 = .ok (.istore_n 1, 1) := by decide +kernel
theorem dX1_reset_42 : decode cX1_reset 42 = .ok (.iload_n 1, 1) := by decide +kernel
theorem dX1_reset_43 : decode cX1_reset 43 = .ok (.bipush 12, 2) := by decide +kernel
theorem dX1_reset_45 : decode cX1_reset 45 = .ok (.if_icmp .ge 19, 3) := by decide +kernel
theorem dX1_reset_48 : decode cX1_reset 48 = .ok (.aload_n 0, 1) := by decide +kernel
theorem dX1_reset_49 : decode cX1_reset 49 = .ok (.getfield 21, 3) := by decide +kernel
theorem dX1_reset_52 : decode cX1_reset 52 = .ok (.iload_n 1, 1) := by decide +kernel
theorem dX1_reset_53 : decode cX1_reset 53 = .ok (.bipush 10, 2) := by decide +kernel
theorem dX1_reset_55 : decode cX1_reset 55 = .ok (.iload_n 1, 1) := by decide +kernel
theorem dX1_reset_56 : decode cX1_reset 56 = .ok (.imul, 1) := by decide +kernel
theorem dX1_reset_57 : decode cX1_reset 57 = .ok (.iastore, 1) := by decide +kernel
theorem dX1_reset_58 : decode cX1_reset 58 = .ok (.iinc 1 1, 3) := by decide +kernel
theorem dX1_reset_61 : decode cX1_reset 61 = .ok (.goto (-19), 3) := by decide +kernel
theorem dX1_reset_64 : decode cX1_reset 64 = .ok (.return_, 1) := by decide +kernel
theorem dX1_takePoints_0 : decode cX1_takePoints 0 = .ok (.aload_n 0, 1) := by decide +kernel
theorem dX1_takePoints_1 : decode cX1_takePoints 1 = .ok (.iload_n 1, 1) := by decide +kernel
theorem dX1_takePoints_2 : decode cX1_takePoints 2 = .ok (.putfield 24, 3) := by decide +kernel
theorem dX1_takePoints_5 : decode cX1_takePoints 5 = .ok (.aload_n 0, 1) := by decide +kernel
theorem dX1_takePoints_6 : decode cX1_takePoints 6 = .ok (.getfield 46, 3) := by decide +kernel
theorem dX1_takePoints_9 : decode cX1_takePoints 9 = .ok (.ifCond .ne 18, 3) := by decide +kernel
theorem dX1_takePoints_12 : decode cX1_takePoints 12 = .ok (.iload_n 1, 1) := by decide +kernel
theorem dX1_takePoints_13 : decode cX1_takePoints 13 = .ok (.iconst 2, 1) := by decide +kernel
theorem dX1_takePoints_14 : decode cX1_takePoints 14 = .ok (.if_icmp .lt 13, 3) := by decide +kernel
theorem dX1_takePoints_17 : decode cX1_takePoints 17 = .ok (.iload_n 1, 1) := by decide +kernel
theorem dX1_takePoints_18 : decode cX1_takePoints 18 = .ok (.bipush 12, 2) := by decide +kernel
theorem dX1_takePoints_20 : decode cX1_takePoints 20 = .ok (.if_icmp .gt 7, 3) := by decide +kernel
theorem dX1_takePoints_23 : decode cX1_takePoints 23 = .ok (.iconst 1, 1) := by decide +kernel
theorem dX1_takePoints_24 : decode cX1_takePoints 24 = .ok (.goto 4, 3) := by decide +kernel
theorem dX1_takePoints_27 : decode cX1_takePoints 27 = .ok (.iconst 0, 1) := by decide +kernel
theorem dX1_takePoints_28 : decode cX1_takePoints 28 = .ok (.ireturn, 1) := by decide +kernel
theorem dX1_takeLink_0 : decode cX1_takeLink 0 = .ok (.aload_n 0, 1) := by decide +kernel
theorem dX1_takeLink_1 : decode cX1_takeLink 1 = .ok (.iconst 1, 1) := by decide +kernel
theorem dX1_takeLink_2 : decode cX1_takeLink 2 = .ok (.putfield 46, 3) := by decide +kernel
theorem dX1_takeLink_5 : decode cX1_takeLink 5 = .ok (.aload_n 0, 1) := by decide +kernel
theorem dX1_takeLink_6 : decode cX1_takeLink 6 = .ok (.getfield 28, 3) := by decide +kernel
theorem dX1_takeLink_9 : decode cX1_takeLink 9 = .ok (.bipush 16, 2) := by decide +kernel
theorem dX1_takeLink_11 : decode cX1_takeLink 11 = .ok (.if_icmp .ge 35, 3) := by decide +kernel
theorem dX1_takeLink_14 : decode cX1_takeLink 14 = .ok (.iload_n 1, 1) := by decide +kernel
theorem dX1_takeLink_15 : decode cX1_takeLink 15 = .ok (.aload_n 0, 1) := by decide +kernel
theorem dX1_takeLink_16 : decode cX1_takeLink 16 = .ok (.getfield 24, 3) := by decide +kernel
theorem dX1_takeLink_19 : decode cX1_takeLink 19 = .ok (.if_icmp .ge 27, 3) := by decide +kernel
theorem dX1_takeLink_22 : decode cX1_takeLink 22 = .ok (.iload_n 2, 1) := by decide +kernel
theorem dX1_takeLink_23 : decode cX1_takeLink 23 = .ok (.aload_n 0, 1) := by decide +kernel
theorem dX1_takeLink_24 : decode cX1_takeLink 24 = .ok (.getfield 24, 3) := by decide +kernel
theorem dX1_takeLink_27 : decode cX1_takeLink 27 = .ok (.if_icmp .ge 19, 3) := by decide +kernel
theorem dX1_takeLink_30 : decode cX1_takeLink 30 = .ok (.iload_n 1, 1) := by decide +kernel
theorem dX1_takeLink_31 : decode cX1_takeLink 31 = .ok (.iload_n 2, 1) := by decide +kernel
theorem dX1_takeLink_32 : decode cX1_takeLink 32 = .ok (.if_icmp .eq 14, 3) := by decide +kernel
theorem dX1_takeLink_35 : decode cX1_takeLink 35 = .ok (.iload_n 3, 1) := by decide +kernel
theorem dX1_takeLink_36 : decode cX1_takeLink 36 = .ok (.iconst 1, 1) := by decide +kernel
theorem dX1_takeLink_37 : decode cX1_takeLink 37 = .ok (.if_icmp .lt 9, 3) := by decide +kernel
theorem dX1_takeLink_40 : decode cX1_takeLink 40 = .ok (.iload_n 3, 1) := by decide +kernel
theorem dX1_takeLink_41 : decode cX1_takeLink 41 = .ok (.bipush 99, 2) := by decide +kernel
theorem dX1_takeLink_43 : decode cX1_takeLink 43 = .ok (.if_icmp .le 5, 3) := by decide +kernel
theorem dX1_takeLink_46 : decode cX1_takeLink 46 = .ok (.iconst 0, 1) := by decide +kernel
theorem dX1_takeLink_47 : decode cX1_takeLink 47 = .ok (.ireturn, 1) := by decide +kernel
theorem dX1_takeLink_48 : decode cX1_takeLink 48 = .ok (.aload_n 0, 1) := by decide +kernel
theorem dX1_takeLink_49 : decode cX1_takeLink 49 = .ok (.getfield 9, 3) := by decide +kernel
theorem dX1_takeLink_52 : decode cX1_takeLink 52 = .ok (.aload_n 0, 1) := by decide +kernel
theorem dX1_takeLink_53 : decode cX1_takeLink 53 = .ok (.getfield 28, 3) := by decide +kernel
theorem dX1_takeLink_56 : decode cX1_takeLink 56 = .ok (.iload_n 1, 1) := by decide +kernel
theorem dX1_takeLink_57 : decode cX1_takeLink 57 = .ok (.iastore, 1) := by decide +kernel
theorem dX1_takeLink_58 : decode cX1_takeLink 58 = .ok (.aload_n 0, 1) := by decide +kernel
theorem dX1_takeLink_59 : decode cX1_takeLink 59 = .ok (.getfield 15, 3) := by decide +kernel
theorem dX1_takeLink_62 : decode cX1_takeLink 62 = .ok (.aload_n 0, 1) := by decide +kernel
theorem dX1_takeLink_63 : decode cX1_takeLink 63 = .ok (.getfield 28, 3) := by decide +kernel
theorem dX1_takeLink_66 : decode cX1_takeLink 66 = .ok (.iload_n 2, 1) := by decide +kernel
theorem dX1_takeLink_67 : decode cX1_takeLink 67 = .ok (.iastore, 1) := by decide +kernel
theorem dX1_takeLink_68 : decode cX1_takeLink 68 = .ok (.aload_n 0, 1) := by decide +kernel
theorem dX1_takeLink_69 : decode cX1_takeLink 69 = .ok (.getfield 18, 3) := by decide +kernel
theorem dX1_takeLink_72 : decode cX1_takeLink 72 = .ok (.aload_n 0, 1) := by decide +kernel
theorem dX1_takeLink_73 : decode cX1_takeLink 73 = .ok (.getfield 28, 3) := by decide +kernel
theorem dX1_takeLink_76 : decode cX1_takeLink 76 = .ok (.iload_n 3, 1) := by decide +kernel
theorem dX1_takeLink_77 : decode cX1_takeLink 77 = .ok (.iastore, 1) := by decide +kernel
theorem dX1_takeLink_78 : decode cX1_takeLink 78 = .ok (.aload_n 0, 1) := by decide +kernel
theorem dX1_takeLink_79 : decode cX1_takeLink 79 = .ok (.dup, 1) := by decide +kernel
theorem dX1_takeLink_80 : decode cX1_takeLink 80 = .ok (.getfield 28, 3) := by decide +kernel
theorem dX1_takeLink_83 : decode cX1_takeLink 83 = .ok (.iconst 1, 1) := by decide +kernel
theorem dX1_takeLink_84 : decode cX1_takeLink 84 = .ok (.iadd, 1) := by decide +kernel
theorem dX1_takeLink_85 : decode cX1_takeLink 85 = .ok (.putfield 28, 3) := by decide +kernel
theorem dX1_takeLink_88 : decode cX1_takeLink 88 = .ok (.iconst 1, 1) := by decide +kernel
theorem dX1_takeLink_89 : decode cX1_takeLink 89 = .ok (.ireturn, 1) := by decide +kernel
theorem dX1_takeValue_0 : decode cX1_takeValue 0 = .ok (.aload_n 0, 1) := by decide +kernel
theorem dX1_takeValue_1 : decode cX1_takeValue 1 = .ok (.iconst 1, 1) := by decide +kernel
theorem dX1_takeValue_2 : decode cX1_takeValue 2 = .ok (.putfield 46, 3) := by decide +kernel
theorem dX1_takeValue_5 : decode cX1_takeValue 5 = .ok (.iload_n 1, 1) := by decide +kernel
theorem dX1_takeValue_6 : decode cX1_takeValue 6 = .ok (.ifCond .lt 17, 3) := by decide +kernel
theorem dX1_takeValue_9 : decode cX1_takeValue 9 = .ok (.iload_n 1, 1) := by decide +kernel
theorem dX1_takeValue_10 : decode cX1_takeValue 10 = .ok (.aload_n 0, 1) := by decide +kernel
theorem dX1_takeValue_11 : decode cX1_takeValue 11 = .ok (.getfield 24, 3) := by decide +kernel
theorem dX1_takeValue_14 : decode cX1_takeValue 14 = .ok (.if_icmp .ge 9, 3) := by decide +kernel
theorem dX1_takeValue_17 : decode cX1_takeValue 17 = .ok (.iload_n 1, 1) := by decide +kernel
theorem dX1_takeValue_18 : decode cX1_takeValue 18 = .ok (.bipush 12, 2) := by decide +kernel
theorem dX1_takeValue_20 : decode cX1_takeValue 20 = .ok (.if_icmp .lt 5, 3) := by decide +kernel
theorem dX1_takeValue_23 : decode cX1_takeValue 23 = .ok (.iconst 0, 1) := by decide +kernel
theorem dX1_takeValue_24 : decode cX1_takeValue 24 = .ok (.ireturn, 1) := by decide +kernel
theorem dX1_takeValue_25 : decode cX1_takeValue 25 = .ok (.aload_n 0, 1) := by decide +kernel
theorem dX1_takeValue_26 : decode cX1_takeValue 26 = .ok (.getfield 21, 3) := by decide +kernel
theorem dX1_takeValue_29 : decode cX1_takeValue 29 = .ok (.iload_n 1, 1) := by decide +kernel
theorem dX1_takeValue_30 : decode cX1_takeValue 30 = .ok (.iload_n 2, 1) := by decide +kernel
theorem dX1_takeValue_31 : decode cX1_takeValue 31 = .ok (.iastore, 1) := by decide +kernel
theorem dX1_takeValue_32 : decode cX1_takeValue 32 = .ok (.iload_n 2, 1) := by decide +kernel
theorem dX1_takeValue_33 : decode cX1_takeValue 33 = .ok (.sipush 999, 3) := by decide +kernel
theorem dX1_takeValue_36 : decode cX1_takeValue 36 = .ok (.if_icmp .gt 7, 3) := by decide +kernel
theorem dX1_takeValue_39 : decode cX1_takeValue 39 = .ok (.iconst 1, 1) := by decide +kernel
theorem dX1_takeValue_40 : decode cX1_takeValue 40 = .ok (.goto 4, 3) := by decide +kernel
theorem dX1_takeValue_43 : decode cX1_takeValue 43 = .ok (.iconst 0, 1) := by decide +kernel
theorem dX1_takeValue_44 : decode cX1_takeValue 44 = .ok (.ireturn, 1) := by decide +kernel
theorem dX1_takeTask_0 : decode cX1_takeTask 0 = .ok (.aload_n 0, 1) := by decide +kernel
theorem dX1_takeTask_1 : decode cX1_takeTask 1 = .ok (.iconst 1, 1) := by decide +kernel
theorem dX1_takeTask_2 : decode cX1_takeTask 2 = .ok (.putfield 46, 3) := by decide +kernel
theorem dX1_takeTask_5 : decode cX1_takeTask 5 = .ok (.aload_n 0, 1) := by decide +kernel
theorem dX1_takeTask_6 : decode cX1_takeTask 6 = .ok (.iload_n 1, 1) := by decide +kernel
theorem dX1_takeTask_7 : decode cX1_takeTask 7 = .ok (.putfield 31, 3) := by decide +kernel
theorem dX1_takeTask_10 : decode cX1_takeTask 10 = .ok (.aload_n 0, 1) := by decide +kernel
theorem dX1_takeTask_11 : decode cX1_takeTask 11 = .ok (.iload_n 2, 1) := by decide +kernel
theorem dX1_takeTask_12 : decode cX1_takeTask 12 = .ok (.putfield 34, 3) := by decide +kernel
theorem dX1_takeTask_15 : decode cX1_takeTask 15 = .ok (.iload_n 1, 1) := by decide +kernel
theorem dX1_takeTask_16 : decode cX1_takeTask 16 = .ok (.iconst 3, 1) := by decide +kernel
theorem dX1_takeTask_17 : decode cX1_takeTask 17 = .ok (.if_icmp .gt 13, 3) := by decide +kernel
theorem dX1_takeTask_20 : decode cX1_takeTask 20 = .ok (.iload_n 2, 1) := by decide +kernel
theorem dX1_takeTask_21 : decode cX1_takeTask 21 = .ok (.bipush 12, 2) := by decide +kernel
theorem dX1_takeTask_23 : decode cX1_takeTask 23 = .ok (.if_icmp .gt 7, 3) := by decide +kernel
theorem dX1_takeTask_26 : decode cX1_takeTask 26 = .ok (.iconst 1, 1) := by decide +kernel
theorem dX1_takeTask_27 : decode cX1_takeTask 27 = .ok (.goto 4, 3) := by decide +kernel
theorem dX1_takeTask_30 : decode cX1_takeTask 30 = .ok (.iconst 0, 1) := by decide +kernel
theorem dX1_takeTask_31 : decode cX1_takeTask 31 = .ok (.ireturn, 1) := by decide +kernel
theorem dX1_takeWorkers_0 : decode cX1_takeWorkers 0 = .ok (.aload_n 0, 1) := by decide +kernel
theorem dX1_takeWorkers_1 : decode cX1_takeWorkers 1 = .ok (.iconst 1, 1) := by decide +kernel
theorem dX1_takeWorkers_2 : decode cX1_takeWorkers 2 = .ok (.putfield 46, 3) := by decide +kernel
theorem dX1_takeWorkers_5 : decode cX1_takeWorkers 5 = .ok (.aload_n 0, 1) := by decide +kernel
theorem dX1_takeWorkers_6 : decode cX1_takeWorkers 6 = .ok (.iload_n 1, 1) := by decide +kernel
theorem dX1_takeWorkers_7 : decode cX1_takeWorkers 7 = .ok (.putfield 37, 3) := by decide +kernel
theorem dX1_takeWorkers_10 : decode cX1_takeWorkers 10 = .ok (.aload_n 0, 1) := by decide +kernel
theorem dX1_takeWorkers_11 : decode cX1_takeWorkers 11 = .ok (.iload_n 2, 1) := by decide +kernel
theorem dX1_takeWorkers_12 : decode cX1_takeWorkers 12 = .ok (.putfield 40, 3) := by decide +kernel
theorem dX1_takeWorkers_15 : decode cX1_takeWorkers 15 = .ok (.iload_n 1, 1) := by decide +kernel
theorem dX1_takeWorkers_16 : decode cX1_takeWorkers 16 = .ok (.iconst 1, 1) := by decide +kernel
theorem dX1_takeWorkers_17 : decode cX1_takeWorkers 17 = .ok (.if_icmp .lt 18, 3) := by decide +kernel
theorem dX1_takeWorkers_20 : decode cX1_takeWorkers 20 = .ok (.iload_n 1, 1) := by decide +kernel
theorem dX1_takeWorkers_21 : decode cX1_takeWorkers 21 = .ok (.iconst 4, 1) := by decide +kernel
theorem dX1_takeWorkers_22 : decode cX1_takeWorkers 22 = .ok (.if_icmp .gt 13, 3) := by decide +kernel
theorem dX1_takeWorkers_25 : decode cX1_takeWorkers 25 = .ok (.iload_n 2, 1) := by decide +kernel
theorem dX1_takeWorkers_26 : decode cX1_takeWorkers 26 = .ok (.bipush 99, 2) := by decide +kernel
theorem dX1_takeWorkers_28 : decode cX1_takeWorkers 28 = .ok (.if_icmp .gt 7, 3) := by decide +kernel
theorem dX1_takeWorkers_31 : decode cX1_takeWorkers 31 = .ok (.iconst 1, 1) := by decide +kernel
theorem dX1_takeWorkers_32 : decode cX1_takeWorkers 32 = .ok (.goto 4, 3) := by decide +kernel
theorem dX1_takeWorkers_35 : decode cX1_takeWorkers 35 = .ok (.iconst 0, 1) := by decide +kernel
theorem dX1_takeWorkers_36 : decode cX1_takeWorkers 36 = .ok (.ireturn, 1) := by decide +kernel
theorem dX1_takeCombined_0 : decode cX1_takeCombined 0 = .ok (.aload_n 0, 1) := by decide +kernel
theorem dX1_takeCombined_1 : decode cX1_takeCombined 1 = .ok (.iconst 1, 1) := by decide +kernel
theorem dX1_takeCombined_2 : decode cX1_takeCombined 2 = .ok (.putfield 46, 3) := by decide +kernel
theorem dX1_takeCombined_5 : decode cX1_takeCombined 5 = .ok (.aload_n 0, 1) := by decide +kernel
theorem dX1_takeCombined_6 : decode cX1_takeCombined 6 = .ok (.iload_n 1, 1) := by decide +kernel
theorem dX1_takeCombined_7 : decode cX1_takeCombined 7 = .ok (.putfield 43, 3) := by decide +kernel
theorem dX1_takeCombined_10 : decode cX1_takeCombined 10 = .ok (.iload_n 1, 1) := by decide +kernel
theorem dX1_takeCombined_11 : decode cX1_takeCombined 11 = .ok (.iconst 1, 1) := by decide +kernel
theorem dX1_takeCombined_12 : decode cX1_takeCombined 12 = .ok (.if_icmp .gt 7, 3) := by decide +kernel
theorem dX1_takeCombined_15 : decode cX1_takeCombined 15 = .ok (.iconst 1, 1) := by decide +kernel
theorem dX1_takeCombined_16 : decode cX1_takeCombined 16 = .ok (.goto 4, 3) := by decide +kernel
theorem dX1_takeCombined_19 : decode cX1_takeCombined 19 = .ok (.iconst 0, 1) := by decide +kernel
theorem dX1_takeCombined_20 : decode cX1_takeCombined 20 = .ok (.ireturn, 1) := by decide +kernel
theorem dX1_canBeLaid_0 : decode cX1_canBeLaid 0 = .ok (.aload_n 0, 1) := by decide +kernel
theorem dX1_canBeLaid_1 : decode cX1_canBeLaid 1 = .ok (.getfield 28, 3) := by decide +kernel
theorem dX1_canBeLaid_4 : decode cX1_canBeLaid 4 = .ok (.ifCond .le 26, 3) := by decide +kernel
theorem dX1_canBeLaid_7 : decode cX1_canBeLaid 7 = .ok (.aload_n 0, 1) := by decide +kernel
theorem dX1_canBeLaid_8 : decode cX1_canBeLaid 8 = .ok (.getfield 31, 3) := by decide +kernel
theorem dX1_canBeLaid_11 : decode cX1_canBeLaid 11 = .ok (.iconst 1, 1) := by decide +kernel
theorem dX1_canBeLaid_12 : decode cX1_canBeLaid 12 = .ok (.if_icmp .ne 14, 3) := by decide +kernel
theorem dX1_canBeLaid_15 : decode cX1_canBeLaid 15 = .ok (.aload_n 0, 1) := by decide +kernel
theorem dX1_canBeLaid_16 : decode cX1_canBeLaid 16 = .ok (.getfield 34, 3) := by decide +kernel
theorem dX1_canBeLaid_19 : decode cX1_canBeLaid 19 = .ok (.aload_n 0, 1) := by decide +kernel
theorem dX1_canBeLaid_20 : decode cX1_canBeLaid 20 = .ok (.getfield 24, 3) := by decide +kernel
theorem dX1_canBeLaid_23 : decode cX1_canBeLaid 23 = .ok (.if_icmp .ge 7, 3) := by decide +kernel
theorem dX1_canBeLaid_26 : decode cX1_canBeLaid 26 = .ok (.iconst 1, 1) := by decide +kernel
theorem dX1_canBeLaid_27 : decode cX1_canBeLaid 27 = .ok (.goto 4, 3) := by decide +kernel
theorem dX1_canBeLaid_30 : decode cX1_canBeLaid 30 = .ok (.iconst 0, 1) := by decide +kernel
theorem dX1_canBeLaid_31 : decode cX1_canBeLaid 31 = .ok (.ireturn, 1) := by decide +kernel
theorem dX1_firstValue_0 : decode cX1_firstValue 0 = .ok (.aload_n 0, 1) := by decide +kernel
theorem dX1_firstValue_1 : decode cX1_firstValue 1 = .ok (.getfield 31, 3) := by decide +kernel
theorem dX1_firstValue_4 : decode cX1_firstValue 4 = .ok (.iconst 1, 1) := by decide +kernel
theorem dX1_firstValue_5 : decode cX1_firstValue 5 = .ok (.if_icmp .eq 10, 3) := by decide +kernel
theorem dX1_firstValue_8 : decode cX1_firstValue 8 = .ok (.aload_n 0, 1) := by decide +kernel
theorem dX1_firstValue_9 : decode cX1_firstValue 9 = .ok (.getfield 21, 3) := by decide +kernel
theorem dX1_firstValue_12 : decode cX1_firstValue 12 = .ok (.iload_n 1, 1) := by decide +kernel
theorem dX1_firstValue_13 : decode cX1_firstValue 13 = .ok (.iaload, 1) := by decide +kernel
theorem dX1_firstValue_14 : decode cX1_firstValue 14 = .ok (.ireturn, 1) := by decide +kernel
theorem dX1_firstValue_15 : decode cX1_firstValue 15 = .ok (.iload_n 1, 1) := by decide +kernel
theorem dX1_firstValue_16 : decode cX1_firstValue 16 = .ok (.aload_n 0, 1) := by decide +kernel
theorem dX1_firstValue_17 : decode cX1_firstValue 17 = .ok (.getfield 34, 3) := by decide +kernel
theorem dX1_firstValue_20 : decode cX1_firstValue 20 = .ok (.if_icmp .ne 7, 3) := by decide +kernel
theorem dX1_firstValue_23 : decode cX1_firstValue 23 = .ok (.iconst 0, 1) := by decide +kernel
theorem dX1_firstValue_24 : decode cX1_firstValue 24 = .ok (.goto 6, 3) := by decide +kernel
theorem dX1_firstValue_27 : decode cX1_firstValue 27 = .ok (.sipush 999, 3) := by decide +kernel
theorem dX1_firstValue_30 : decode cX1_firstValue 30 = .ok (.ireturn, 1) := by decide +kernel
theorem dX1_linksOf_0 : decode cX1_linksOf 0 = .ok (.iconst 0, 1) := by decide +kernel
theorem dX1_linksOf_1 : decode cX1_linksOf 1 = .ok (.istore_n 2, 1) := by decide +kernel
theorem dX1_linksOf_2 : decode cX1_linksOf 2 = .ok (.iconst 0, 1) := by decide +kernel
theorem dX1_linksOf_3 : decode cX1_linksOf 3 = .ok (.istore_n 3, 1) := by decide +kernel
theorem dX1_linksOf_4 : decode cX1_linksOf 4 = .ok (.iload_n 3, 1) := by decide +kernel
theorem dX1_linksOf_5 : decode cX1_linksOf 5 = .ok (.aload_n 0, 1) := by decide +kernel
theorem dX1_linksOf_6 : decode cX1_linksOf 6 = .ok (.getfield 28, 3) := by decide +kernel
theorem dX1_linksOf_9 : decode cX1_linksOf 9 = .ok (.if_icmp .ge 22, 3) := by decide +kernel
theorem dX1_linksOf_12 : decode cX1_linksOf 12 = .ok (.aload_n 0, 1) := by decide +kernel
theorem dX1_linksOf_13 : decode cX1_linksOf 13 = .ok (.getfield 9, 3) := by decide +kernel
theorem dX1_linksOf_16 : decode cX1_linksOf 16 = .ok (.iload_n 3, 1) := by decide +kernel
theorem dX1_linksOf_17 : decode cX1_linksOf 17 = .ok (.iaload, 1) := by decide +kernel
theorem dX1_linksOf_18 : decode cX1_linksOf 18 = .ok (.iload_n 1, 1) := by decide +kernel
theorem dX1_linksOf_19 : decode cX1_linksOf 19 = .ok (.if_icmp .ne 6, 3) := by decide +kernel
theorem dX1_linksOf_22 : decode cX1_linksOf 22 = .ok (.iinc 2 1, 3) := by decide +kernel
theorem dX1_linksOf_25 : decode cX1_linksOf 25 = .ok (.iinc 3 1, 3) := by decide +kernel
theorem dX1_linksOf_28 : decode cX1_linksOf 28 = .ok (.goto (-24), 3) := by decide +kernel
theorem dX1_linksOf_31 : decode cX1_linksOf 31 = .ok (.iload_n 2, 1) := by decide +kernel
theorem dX1_linksOf_32 : decode cX1_linksOf 32 = .ok (.ireturn, 1) := by decide +kernel
theorem dX2_init_0 : decode cX2_init 0 = .ok (.aload_n 0, 1) := by decide +kernel
theorem dX2_init_1 : decode cX2_init 1 = .ok (.invokespecial 3, 3) := by decide +kernel
theorem dX2_init_4 : decode cX2_init 4 = .ok (.aload_n 0, 1) := by decide +kernel
theorem dX2_init_5 : decode cX2_init 5 = .ok (.bipush 12, 2) := by decide +kernel
theorem dX2_init_7 : decode cX2_init 7 = .ok (.newarray .int, 2) := by decide +kernel
theorem dX2_init_9 : decode cX2_init 9 = .ok (.putfield 9, 3) := by decide +kernel
theorem dX2_init_12 : decode cX2_init 12 = .ok (.aload_n 0, 1) := by decide +kernel
theorem dX2_init_13 : decode cX2_init 13 = .ok (.bipush 12, 2) := by decide +kernel
theorem dX2_init_15 : decode cX2_init 15 = .ok (.newarray .int, 2) := by decide +kernel
theorem dX2_init_17 : decode cX2_init 17 = .ok (.putfield 15, 3) := by decide +kernel
theorem dX2_init_20 : decode cX2_init 20 = .ok (.aload_n 0, 1) := by decide +kernel
theorem dX2_init_21 : decode cX2_init 21 = .ok (.bipush 12, 2) := by decide +kernel
theorem dX2_init_23 : decode cX2_init 23 = .ok (.newarray .int, 2) := by decide +kernel
theorem dX2_init_25 : decode cX2_init 25 = .ok (.putfield 18, 3) := by decide +kernel
theorem dX2_init_28 : decode cX2_init 28 = .ok (.aload_n 0, 1) := by decide +kernel
theorem dX2_init_29 : decode cX2_init 29 = .ok (.bipush 12, 2) := by decide +kernel
theorem dX2_init_31 : decode cX2_init 31 = .ok (.newarray .int, 2) := by decide +kernel
theorem dX2_init_33 : decode cX2_init 33 = .ok (.putfield 21, 3) := by decide +kernel
theorem dX2_init_36 : decode cX2_init 36 = .ok (.aload_n 0, 1) := by decide +kernel
theorem dX2_init_37 : decode cX2_init 37 = .ok (.bipush 12, 2) := by decide +kernel
theorem dX2_init_39 : decode cX2_init 39 = .ok (.newarray .int, 2) := by decide +kernel
theorem dX2_init_41 : decode cX2_init 41 = .ok (.putfield 24, 3) := by decide +kernel
theorem dX2_init_44 : decode cX2_init 44 = .ok (.aload_n 0, 1) := by decide +kernel
theorem dX2_init_45 : decode cX2_init 45 = .ok (.iconst 4, 1) := by decide +kernel
theorem dX2_init_46 : decode cX2_init 46 = .ok (.newarray .int, 2) := by decide +kernel
theorem dX2_init_48 : decode cX2_init 48 = .ok (.putfield 27, 3) := by decide +kernel
theorem dX2_init_51 : decode cX2_init 51 = .ok (.aload_n 0, 1) := by decide +kernel
theorem dX2_init_52 : decode cX2_init 52 = .ok (.bipush 60, 2) := by decide +kernel
theorem dX2_init_54 : decode cX2_init 54 = .ok (.newarray .int, 2) := by decide +kernel
theorem dX2_init_56 : decode cX2_init 56 = .ok (.putfield 30, 3) := by decide +kernel
theorem dX2_init_59 : decode cX2_init 59 = .ok (.aload_n 0, 1) := by decide +kernel
theorem dX2_init_60 : decode cX2_init 60 = .ok (.new 33, 3) := by decide +kernel
theorem dX2_init_63 : decode cX2_init 63 = .ok (.dup, 1) := by decide +kernel
theorem dX2_init_64 : decode cX2_init 64 = .ok (.invokespecial 35, 3) := by decide +kernel
theorem dX2_init_67 : decode cX2_init 67 = .ok (.putfield 36, 3) := by decide +kernel
theorem dX2_init_70 : decode cX2_init 70 = .ok (.aload_n 0, 1) := by decide +kernel
theorem dX2_init_71 : decode cX2_init 71 = .ok (.new 33, 3) := by decide +kernel
theorem dX2_init_74 : decode cX2_init 74 = .ok (.dup, 1) := by decide +kernel
theorem dX2_init_75 : decode cX2_init 75 = .ok (.invokespecial 35, 3) := by decide +kernel
theorem dX2_init_78 : decode cX2_init 78 = .ok (.putfield 40, 3) := by decide +kernel
theorem dX2_init_81 : decode cX2_init 81 = .ok (.return_, 1) := by decide +kernel
theorem dX2_begin_0 : decode cX2_begin 0 = .ok (.iconst 0, 1) := by decide +kernel
theorem dX2_begin_1 : decode cX2_begin 1 = .ok (.istore_n 2, 1) := by decide +kernel
theorem dX2_begin_2 : decode cX2_begin 2 = .ok (.iload_n 2, 1) := by decide +kernel
theorem dX2_begin_3 : decode cX2_begin 3 = .ok (.bipush 12, 2) := by decide +kernel
theorem dX2_begin_5 : decode cX2_begin 5 = .ok (.if_icmp .ge 59, 3) := by decide +kernel
theorem dX2_begin_8 : decode cX2_begin 8 = .ok (.aload_n 0, 1) := by decide +kernel
theorem dX2_begin_9 : decode cX2_begin 9 = .ok (.getfield 9, 3) := by decide +kernel
theorem dX2_begin_12 : decode cX2_begin 12 = .ok (.iload_n 2, 1) := by decide +kernel
theorem dX2_begin_13 : decode cX2_begin 13 = .ok (.aload_n 1, 1) := by decide +kernel
theorem dX2_begin_14 : decode cX2_begin 14 = .ok (.iload_n 2, 1) := by decide +kernel
theorem dX2_begin_15 : decode cX2_begin 15 = .ok (.invokevirtual 43, 3) := by decide +kernel
theorem dX2_begin_18 : decode cX2_begin 18 = .ok (.iastore, 1) := by decide +kernel
theorem dX2_begin_19 : decode cX2_begin 19 = .ok (.aload_n 0, 1) := by decide +kernel
theorem dX2_begin_20 : decode cX2_begin 20 = .ok (.getfield 15, 3) := by decide +kernel
theorem dX2_begin_23 : decode cX2_begin 23 = .ok (.iload_n 2, 1) := by decide +kernel
theorem dX2_begin_24 : decode cX2_begin 24 = .ok (.iload_n 2, 1) := by decide +kernel
theorem dX2_begin_25 : decode cX2_begin 25 = .ok (.iconst 1, 1) := by decide +kernel
theorem dX2_begin_26 : decode cX2_begin 26 = .ok (.aload_n 1, 1) := by decide +kernel
theorem dX2_begin_27 : decode cX2_begin 27 = .ok (.getfield 49, 3) := by decide +kernel
theorem dX2_begin_30 : decode cX2_begin 30 = .ok (.invokestatic 53, 3) := by decide +kernel
theorem dX2_begin_33 : decode cX2_begin 33 = .ok (.invokestatic 59, 3) := by decide +kernel
theorem dX2_begin_36 : decode cX2_begin 36 = .ok (.iastore, 1) := by decide +kernel
theorem dX2_begin_37 : decode cX2_begin 37 = .ok (.aload_n 0, 1) := by decide +kernel
theorem dX2_begin_38 : decode cX2_begin 38 = .ok (.getfield 18, 3) := by decide +kernel
theorem dX2_begin_41 : decode cX2_begin 41 = .ok (.iload_n 2, 1) := by decide +kernel
theorem dX2_begin_42 : decode cX2_begin 42 = .ok (.iconst 0, 1) := by decide +kernel
theorem dX2_begin_43 : decode cX2_begin 43 = .ok (.iastore, 1) := by decide +kernel
theorem dX2_begin_44 : decode cX2_begin 44 = .ok (.aload_n 0, 1) := by decide +kernel
theorem dX2_begin_45 : decode cX2_begin 45 = .ok (.getfield 21, 3) := by decide +kernel
theorem dX2_begin_48 : decode cX2_begin 48 = .ok (.iload_n 2, 1) := by decide +kernel
theorem dX2_begin_49 : decode cX2_begin 49 = .ok (.iconst 0, 1) := by decide +kernel
theorem dX2_begin_50 : decode cX2_begin 50 = .ok (.iastore, 1) := by decide +kernel
theorem dX2_begin_51 : decode cX2_begin 51 = .ok (.aload_n 0, 1) := by decide +kernel
theorem dX2_begin_52 : decode cX2_begin 52 = .ok (.getfield 24, 3) := by decide +kernel
theorem dX2_begin_55 : decode cX2_begin 55 = .ok (.iload_n 2, 1) := by decide +kernel
theorem dX2_begin_56 : decode cX2_begin 56 = .ok (.iconst 0, 1) := by decide +kernel
theorem dX2_begin_57 : decode cX2_begin 57 = .ok (.iastore, 1) := by decide +kernel
theorem dX2_begin_58 : decode cX2_begin 58 = .ok (.iinc 2 1, 3) := by decide +kernel
theorem dX2_begin_61 : decode cX2_begin 61 = .ok (.goto (-59), 3) := by decide +kernel
theorem dX2_begin_64 : decode cX2_begin 64 = .ok (.iconst 0, 1) := by decide +kernel
theorem dX2_begin_65 : decode cX2_begin 65 = .ok (.istore_n 2, 1) := by decide +kernel
theorem dX2_begin_66 : decode cX2_begin 66 = .ok (.iload_n 2, 1) := by decide +kernel
theorem dX2_begin_67 : decode cX2_begin 67 = .ok (.iconst 4, 1) := by decide +kernel
theorem dX2_begin_68 : decode cX2_begin 68 = .ok (.if_icmp .ge 16, 3) := by decide +kernel
theorem dX2_begin_71 : decode cX2_begin 71 = .ok (.aload_n 0, 1) := by decide +kernel
theorem dX2_begin_72 : decode cX2_begin 72 = .ok (.getfield 27, 3) := by decide +kernel
theorem dX2_begin_75 : decode cX2_begin 75 = .ok (.iload_n 2, 1) := by decide +kernel
theorem dX2_begin_76 : decode cX2_begin 76 = .ok (.iconst 0, 1) := by decide +kernel
theorem dX2_begin_77 : decode cX2_begin 77 = .ok (.iastore, 1) := by decide +kernel
theorem dX2_begin_78 : decode cX2_begin 78 = .ok (.iinc 2 1, 3) := by decide +kernel
theorem dX2_begin_81 : decode cX2_begin 81 = .ok (.goto (-15), 3) := by decide +kernel
theorem dX2_begin_84 : decode cX2_begin 84 = .ok (.aload_n 0, 1) := by decide +kernel
theorem dX2_begin_85 : decode cX2_begin 85 = .ok (.getfield 36, 3) := by decide +kernel
theorem dX2_begin_88 : decode cX2_begin 88 = .ok (.iconst 0, 1) := by decide +kernel
theorem dX2_begin_89 : decode cX2_begin 89 = .ok (.putfield 62, 3) := by decide +kernel
theorem dX2_begin_92 : decode cX2_begin 92 = .ok (.aload_n 0, 1) := by decide +kernel
theorem dX2_begin_93 : decode cX2_begin 93 = .ok (.iconst 0, 1) := by decide +kernel
theorem dX2_begin_94 : decode cX2_begin 94 = .ok (.putfield 65, 3) := by decide +kernel
theorem dX2_begin_97 : decode cX2_begin 97 = .ok (.aload_n 0, 1) := by decide +kernel
theorem dX2_begin_98 : decode cX2_begin 98 = .ok (.iconst 0, 1) := by decide +kernel
theorem dX2_begin_99 : decode cX2_begin 99 = .ok (.putfield 68, 3) := by decide +kernel
theorem dX2_begin_102 : decode cX2_begin 102 = .ok (.aload_n 0, 1) := by decide +kernel
theorem dX2_begin_103 : decode cX2_begin 103 = .ok (.iconst 0, 1) := by decide +kernel
theorem dX2_begin_104 : decode cX2_begin 104 = .ok (.putfield 71, 3) := by decide +kernel
theorem dX2_begin_107 : decode cX2_begin 107 = .ok (.aload_n 0, 1) := by decide +kernel
theorem dX2_begin_108 : decode cX2_begin 108 = .ok (.aload_n 1, 1) := by decide +kernel
theorem dX2_begin_109 : decode cX2_begin 109 = .ok (.getfield 74, 3) := by decide +kernel
theorem dX2_begin_112 : decode cX2_begin 112 = .ok (.putfield 77, 3) := by decide +kernel
theorem dX2_begin_115 : decode cX2_begin 115 = .ok (.return_, 1) := by decide +kernel
theorem dX2_copyFrom_0 : decode cX2_copyFrom 0 = .ok (.aload_n 1, 1) := by decide +kernel
theorem dX2_copyFrom_1 : decode cX2_copyFrom 1 = .ok (.getfield 9, 3) := by decide +kernel
theorem dX2_copyFrom_4 : decode cX2_copyFrom 4 = .ok (.iconst 0, 1) := by decide +kernel
theorem dX2_copyFrom_5 : decode cX2_copyFrom 5 = .ok (.aload_n 0, 1) := by decide +kernel
theorem dX2_copyFrom_6 : decode cX2_copyFrom 6 = .ok (.getfield 9, 3) := by decide +kernel
theorem dX2_copyFrom_9 : decode cX2_copyFrom 9 = .ok (.iconst 0, 1) := by decide +kernel
theorem dX2_copyFrom_10 : decode cX2_copyFrom 10 = .ok (.bipush 12, 2) := by decide +kernel
theorem dX2_copyFrom_12 : decode cX2_copyFrom 12 = .ok (.invokestatic 78, 3) := by decide +kernel
theorem dX2_copyFrom_15 : decode cX2_copyFrom 15 = .ok (.aload_n 1, 1) := by decide +kernel
theorem dX2_copyFrom_16 : decode cX2_copyFrom 16 = .ok (.getfield 15, 3) := by decide +kernel
theorem dX2_copyFrom_19 : decode cX2_copyFrom 19 = .ok (.iconst 0, 1) := by decide +kernel
theorem dX2_copyFrom_20 : decode cX2_copyFrom 20 = .ok (.aload_n 0, 1) := by decide +kernel
theorem dX2_copyFrom_21 : decode cX2_copyFrom 21 = .ok (.getfield 15, 3) := by decide +kernel
theorem dX2_copyFrom_24 : decode cX2_copyFrom 24 = .ok (.iconst 0, 1) := by decide +kernel
theorem dX2_copyFrom_25 : decode cX2_copyFrom 25 = .ok (.bipush 12, 2) := by decide +kernel
theorem dX2_copyFrom_27 : decode cX2_copyFrom 27 = .ok (.invokestatic 78, 3) := by decide +kernel
theorem dX2_copyFrom_30 : decode cX2_copyFrom 30 = .ok (.aload_n 1, 1) := by decide +kernel
theorem dX2_copyFrom_31 : decode cX2_copyFrom 31 = .ok (.getfield 18, 3) := by decide +kernel
theorem dX2_copyFrom_34 : decode cX2_copyFrom 34 = .ok (.iconst 0, 1) := by decide +kernel
theorem dX2_copyFrom_35 : decode cX2_copyFrom 35 = .ok (.aload_n 0, 1) := by decide +kernel
theorem dX2_copyFrom_36 : decode cX2_copyFrom 36 = .ok (.getfield 18, 3) := by decide +kernel
theorem dX2_copyFrom_39 : decode cX2_copyFrom 39 = .ok (.iconst 0, 1) := by decide +kernel
theorem dX2_copyFrom_40 : decode cX2_copyFrom 40 = .ok (.bipush 12, 2) := by decide +kernel
theorem dX2_copyFrom_42 : decode cX2_copyFrom 42 = .ok (.invokestatic 78, 3) := by decide +kernel
theorem dX2_copyFrom_45 : decode cX2_copyFrom 45 = .ok (.aload_n 1, 1) := by decide +kernel
theorem dX2_copyFrom_46 : decode cX2_copyFrom 46 = .ok (.getfield 21, 3) := by decide +kernel
theorem dX2_copyFrom_49 : decode cX2_copyFrom 49 = .ok (.iconst 0, 1) := by decide +kernel
theorem dX2_copyFrom_50 : decode cX2_copyFrom 50 = .ok (.aload_n 0, 1) := by decide +kernel
theorem dX2_copyFrom_51 : decode cX2_copyFrom 51 = .ok (.getfield 21, 3) := by decide +kernel
theorem dX2_copyFrom_54 : decode cX2_copyFrom 54 = .ok (.iconst 0, 1) := by decide +kernel
theorem dX2_copyFrom_55 : decode cX2_copyFrom 55 = .ok (.bipush 12, 2) := by decide +kernel
theorem dX2_copyFrom_57 : decode cX2_copyFrom 57 = .ok (.invokestatic 78, 3) := by decide +kernel
theorem dX2_copyFrom_60 : decode cX2_copyFrom 60 = .ok (.aload_n 1, 1) := by decide +kernel
theorem dX2_copyFrom_61 : decode cX2_copyFrom 61 = .ok (.getfield 24, 3) := by decide +kernel
theorem dX2_copyFrom_64 : decode cX2_copyFrom 64 = .ok (.iconst 0, 1) := by decide +kernel
theorem dX2_copyFrom_65 : decode cX2_copyFrom 65 = .ok (.aload_n 0, 1) := by decide +kernel
theorem dX2_copyFrom_66 : decode cX2_copyFrom 66 = .ok (.getfield 24, 3) := by decide +kernel
theorem dX2_copyFrom_69 : decode cX2_copyFrom 69 = .ok (.iconst 0, 1) := by decide +kernel
theorem dX2_copyFrom_70 : decode cX2_copyFrom 70 = .ok (.bipush 12, 2) := by decide +kernel
theorem dX2_copyFrom_72 : decode cX2_copyFrom 72 = .ok (.invokestatic 78, 3) := by decide +kernel
theorem dX2_copyFrom_75 : decode cX2_copyFrom 75 = .ok (.aload_n 1, 1) := by decide +kernel
theorem dX2_copyFrom_76 : decode cX2_copyFrom 76 = .ok (.getfield 27, 3) := by decide +kernel
theorem dX2_copyFrom_79 : decode cX2_copyFrom 79 = .ok (.iconst 0, 1) := by decide +kernel
theorem dX2_copyFrom_80 : decode cX2_copyFrom 80 = .ok (.aload_n 0, 1) := by decide +kernel
theorem dX2_copyFrom_81 : decode cX2_copyFrom 81 = .ok (.getfield 27, 3) := by decide +kernel
theorem dX2_copyFrom_84 : decode cX2_copyFrom 84 = .ok (.iconst 0, 1) := by decide +kernel
theorem dX2_copyFrom_85 : decode cX2_copyFrom 85 = .ok (.iconst 4, 1) := by decide +kernel
theorem dX2_copyFrom_86 : decode cX2_copyFrom 86 = .ok (.invokestatic 78, 3) := by decide +kernel
theorem dX2_copyFrom_89 : decode cX2_copyFrom 89 = .ok (.aload_n 1, 1) := by decide +kernel
theorem dX2_copyFrom_90 : decode cX2_copyFrom 90 = .ok (.getfield 30, 3) := by decide +kernel
theorem dX2_copyFrom_93 : decode cX2_copyFrom 93 = .ok (.iconst 0, 1) := by decide +kernel
theorem dX2_copyFrom_94 : decode cX2_copyFrom 94 = .ok (.aload_n 0, 1) := by decide +kernel
theorem dX2_copyFrom_95 : decode cX2_copyFrom 95 = .ok (.getfield 30, 3) := by decide +kernel
theorem dX2_copyFrom_98 : decode cX2_copyFrom 98 = .ok (.iconst 0, 1) := by decide +kernel
theorem dX2_copyFrom_99 : decode cX2_copyFrom 99 = .ok (.bipush 60, 2) := by decide +kernel
theorem dX2_copyFrom_101 : decode cX2_copyFrom 101 = .ok (.invokestatic 78, 3) := by decide +kernel
theorem dX2_copyFrom_104 : decode cX2_copyFrom 104 = .ok (.aload_n 0, 1) := by decide +kernel
theorem dX2_copyFrom_105 : decode cX2_copyFrom 105 = .ok (.getfield 36, 3) := by decide +kernel
theorem dX2_copyFrom_108 : decode cX2_copyFrom 108 = .ok (.aload_n 1, 1) := by decide +kernel
theorem dX2_copyFrom_109 : decode cX2_copyFrom 109 = .ok (.getfield 36, 3) := by decide +kernel
theorem dX2_copyFrom_112 : decode cX2_copyFrom 112 = .ok (.invokevirtual 84, 3) := by decide +kernel
theorem dX2_copyFrom_115 : decode cX2_copyFrom 115 = .ok (.aload_n 0, 1) := by decide +kernel
theorem dX2_copyFrom_116 : decode cX2_copyFrom 116 = .ok (.aload_n 1, 1) := by decide +kernel
theorem dX2_copyFrom_117 : decode cX2_copyFrom 117 = .ok (.getfield 65, 3) := by decide +kernel
theorem dX2_copyFrom_120 : decode cX2_copyFrom 120 = .ok (.putfield 65, 3) := by decide +kernel
theorem dX2_copyFrom_123 : decode cX2_copyFrom 123 = .ok (.aload_n 0, 1) := by decide +kernel
theorem dX2_copyFrom_124 : decode cX2_copyFrom 124 = .ok (.aload_n 1, 1) := by decide +kernel
theorem dX2_copyFrom_125 : decode cX2_copyFrom 125 = .ok (.getfield 68, 3) := by decide +kernel
theorem dX2_copyFrom_128 : decode cX2_copyFrom 128 = .ok (.putfield 68, 3) := by decide +kernel
theorem dX2_copyFrom_131 : decode cX2_copyFrom 131 = .ok (.aload_n 0, 1) := by decide +kernel
theorem dX2_copyFrom_132 : decode cX2_copyFrom 132 = .ok (.aload_n 1, 1) := by decide +kernel
theorem dX2_copyFrom_133 : decode cX2_copyFrom 133 = .ok (.getfield 71, 3) := by decide +kernel
theorem dX2_copyFrom_136 : decode cX2_copyFrom 136 = .ok (.putfield 71, 3) := by decide +kernel
theorem dX2_copyFrom_139 : decode cX2_copyFrom 139 = .ok (.aload_n 0, 1) := by decide +kernel
theorem dX2_copyFrom_140 : decode cX2_copyFrom 140 = .ok (.aload_n 1, 1) := by decide +kernel
theorem dX2_copyFrom_141 : decode cX2_copyFrom 141 = .ok (.getfield 77, 3) := by decide +kernel
theorem dX2_copyFrom_144 : decode cX2_copyFrom 144 = .ok (.putfield 77, 3) := by decide +kernel
theorem dX2_copyFrom_147 : decode cX2_copyFrom 147 = .ok (.return_, 1) := by decide +kernel
theorem dX2_isAwake_0 : decode cX2_isAwake 0 = .ok (.aload_n 0, 1) := by decide +kernel
theorem dX2_isAwake_1 : decode cX2_isAwake 1 = .ok (.getfield 18, 3) := by decide +kernel
theorem dX2_isAwake_4 : decode cX2_isAwake 4 = .ok (.iload_n 1, 1) := by decide +kernel
theorem dX2_isAwake_5 : decode cX2_isAwake 5 = .ok (.iaload, 1) := by decide +kernel
theorem dX2_isAwake_6 : decode cX2_isAwake 6 = .ok (.iconst 2, 1) := by decide +kernel
theorem dX2_isAwake_7 : decode cX2_isAwake 7 = .ok (.if_icmp .ne 14, 3) := by decide +kernel
theorem dX2_isAwake_10 : decode cX2_isAwake 10 = .ok (.aload_n 0, 1) := by decide +kernel
theorem dX2_isAwake_11 : decode cX2_isAwake 11 = .ok (.getfield 36, 3) := by decide +kernel
theorem dX2_isAwake_14 : decode cX2_isAwake 14 = .ok (.iload_n 1, 1) := by decide +kernel
theorem dX2_isAwake_15 : decode cX2_isAwake 15 = .ok (.invokevirtual 88, 3) := by decide +kernel
theorem dX2_isAwake_18 : decode cX2_isAwake 18 = .ok (.ifCond .le 7, 3) := by decide +kernel
theorem dX2_isAwake_21 : decode cX2_isAwake 21 = .ok (.iconst 1, 1) := by decide +kernel
theorem dX2_isAwake_22 : decode cX2_isAwake 22 = .ok (.goto 4, 3) := by decide +kernel
theorem dX2_isAwake_25 : decode cX2_isAwake 25 = .ok (.iconst 0, 1) := by decide +kernel
theorem dX2_isAwake_26 : decode cX2_isAwake 26 = .ok (.ireturn, 1) := by decide +kernel
theorem dX2_countAwake_0 : decode cX2_countAwake 0 = .ok (.iconst 0, 1) := by decide +kernel
theorem dX2_countAwake_1 : decode cX2_countAwake 1 = .ok (.istore_n 2, 1) := by decide +kernel
theorem dX2_countAwake_2 : decode cX2_countAwake 2 = .ok (.iconst 0, 1) := by decide +kernel
theorem dX2_countAwake_3 : decode cX2_countAwake 3 = .ok (.istore_n 3, 1) := by decide +kernel
theorem dX2_countAwake_4 : decode cX2_countAwake 4 = .ok (.iload_n 3, 1) := by decide +kernel
theorem dX2_countAwake_5 : decode cX2_countAwake 5 = .ok (.iload_n 1, 1) := by decide +kernel
theorem dX2_countAwake_6 : decode cX2_countAwake 6 = .ok (.if_icmp .ge 20, 3) := by decide +kernel
theorem dX2_countAwake_9 : decode cX2_countAwake 9 = .ok (.aload_n 0, 1) := by decide +kernel
theorem dX2_countAwake_10 : decode cX2_countAwake 10 = .ok (.iload_n 3, 1) := by decide +kernel
theorem dX2_countAwake_11 : decode cX2_countAwake 11 = .ok (.invokevirtual 91, 3) := by decide +kernel
theorem dX2_countAwake_14 : decode cX2_countAwake 14 = .ok (.ifCond .eq 6, 3) := by decide +kernel
theorem dX2_countAwake_17 : decode cX2_countAwake 17 = .ok (.iinc 2 1, 3) := by decide +kernel
theorem dX2_countAwake_20 : decode cX2_countAwake 20 = .ok (.iinc 3 1, 3) := by decide +kernel
theorem dX2_countAwake_23 : decode cX2_countAwake 23 = .ok (.goto (-19), 3) := by decide +kernel
theorem dX2_countAwake_26 : decode cX2_countAwake 26 = .ok (.iload_n 2, 1) := by decide +kernel
theorem dX2_countAwake_27 : decode cX2_countAwake 27 = .ok (.ireturn, 1) := by decide +kernel
theorem dX2_totalValue_0 : decode cX2_totalValue 0 = .ok (.iconst 0, 1) := by decide +kernel
theorem dX2_totalValue_1 : decode cX2_totalValue 1 = .ok (.istore_n 2, 1) := by decide +kernel
theorem dX2_totalValue_2 : decode cX2_totalValue 2 = .ok (.iconst 0, 1) := by decide +kernel
theorem dX2_totalValue_3 : decode cX2_totalValue 3 = .ok (.istore_n 3, 1) := by decide +kernel
theorem dX2_totalValue_4 : decode cX2_totalValue 4 = .ok (.iload_n 3, 1) := by decide +kernel
theorem dX2_totalValue_5 : decode cX2_totalValue 5 = .ok (.iload_n 1, 1) := by decide +kernel
theorem dX2_totalValue_6 : decode cX2_totalValue 6 = .ok (.if_icmp .ge 18, 3) := by decide +kernel
theorem dX2_totalValue_9 : decode cX2_totalValue 9 = .ok (.iload_n 2, 1) := by decide +kernel
theorem dX2_totalValue_10 : decode cX2_totalValue 10 = .ok (.aload_n 0, 1) := by decide +kernel
theorem dX2_totalValue_11 : decode cX2_totalValue 11 = .ok (.getfield 9, 3) := by decide +kernel
theorem dX2_totalValue_14 : decode cX2_totalValue 14 = .ok (.iload_n 3, 1) := by decide +kernel
theorem dX2_totalValue_15 : decode cX2_totalValue 15 = .ok (.iaload, 1) := by decide +kernel
theorem dX2_totalValue_16 : decode cX2_totalValue 16 = .ok (.iadd, 1) := by decide +kernel
theorem dX2_totalValue_17 : decode cX2_totalValue 17 = .ok (.istore_n 2, 1) := by decide +kernel
theorem dX2_totalValue_18 : decode cX2_totalValue 18 = .ok (.iinc 3 1, 3) := by decide +kernel
theorem dX2_totalValue_21 : decode cX2_totalValue 21 = .ok (.goto (-17), 3) := by decide +kernel
theorem dX2_totalValue_24 : decode cX2_totalValue 24 = .ok (.iload_n 2, 1) := by decide +kernel
theorem dX2_totalValue_25 : decode cX2_totalValue 25 = .ok (.ireturn, 1) := by decide +kernel
theorem dX2_pointsOf_0 : decode cX2_pointsOf 0 = .ok (.iconst 0, 1) := by decide +kernel
theorem dX2_pointsOf_1 : decode cX2_pointsOf 1 = .ok (.istore_n 3, 1) := by decide +kernel
theorem dX2_pointsOf_2 : decode cX2_pointsOf 2 = .ok (.iconst 0, 1) := by decide +kernel
theorem dX2_pointsOf_3 : decode cX2_pointsOf 3 = .ok (.istore 4, 2) := by decide +kernel
theorem dX2_pointsOf_5 : decode cX2_pointsOf 5 = .ok (.iload 4, 2) := by decide +kernel
theorem dX2_pointsOf_7 : decode cX2_pointsOf 7 = .ok (.iload_n 2, 1) := by decide +kernel
theorem dX2_pointsOf_8 : decode cX2_pointsOf 8 = .ok (.if_icmp .ge 27, 3) := by decide +kernel
theorem dX2_pointsOf_11 : decode cX2_pointsOf 11 = .ok (.aload_n 0, 1) := by decide +kernel
theorem dX2_pointsOf_12 : decode cX2_pointsOf 12 = .ok (.getfield 15, 3) := by decide +kernel
theorem dX2_pointsOf_15 : decode cX2_pointsOf 15 = .ok (.iload 4, 2) := by decide +kernel
theorem dX2_pointsOf_17 : decode cX2_pointsOf 17 = .ok (.iaload, 1) := by decide +kernel
theorem dX2_pointsOf_18 : decode cX2_pointsOf 18 = .ok (.iload_n 1, 1) := by decide +kernel
theorem dX2_pointsOf_19 : decode cX2_pointsOf 19 = .ok (.if_icmp .ne 10, 3) := by decide +kernel
theorem dX2_pointsOf_22 : decode cX2_pointsOf 22 = .ok (.iload_n 3, 1) := by decide +kernel
theorem dX2_pointsOf_23 : decode cX2_pointsOf 23 = .ok (.iconst 1, 1) := by decide +kernel
theorem dX2_pointsOf_24 : decode cX2_pointsOf 24 = .ok (.iload 4, 2) := by decide +kernel
theorem dX2_pointsOf_26 : decode cX2_pointsOf 26 = .ok (.ishl, 1) := by decide +kernel
theorem dX2_pointsOf_27 : decode cX2_pointsOf 27 = .ok (.ior, 1) := by decide +kernel
theorem dX2_pointsOf_28 : decode cX2_pointsOf 28 = .ok (.istore_n 3, 1) := by decide +kernel
theorem dX2_pointsOf_29 : decode cX2_pointsOf 29 = .ok (.iinc 4 1, 3) := by decide +kernel
theorem dX2_pointsOf_32 : decode cX2_pointsOf 32 = .ok (.goto (-27), 3) := by decide +kernel
theorem dX2_pointsOf_35 : decode cX2_pointsOf 35 = .ok (.iload_n 3, 1) := by decide +kernel
theorem dX2_pointsOf_36 : decode cX2_pointsOf 36 = .ok (.ireturn, 1) := by decide +kernel
theorem dX2_advance_0 : decode cX2_advance 0 = .ok (.aload_n 0, 1) := by decide +kernel
theorem dX2_advance_1 : decode cX2_advance 1 = .ok (.aload_n 1, 1) := by decide +kernel
theorem dX2_advance_2 : decode cX2_advance 2 = .ok (.getfield 95, 3) := by decide +kernel
theorem dX2_advance_5 : decode cX2_advance 5 = .ok (.invokevirtual 98, 3) := by decide +kernel
theorem dX2_advance_8 : decode cX2_advance 8 = .ok (.aload_n 0, 1) := by decide +kernel
theorem dX2_advance_9 : decode cX2_advance 9 = .ok (.aload_n 1, 1) := by decide +kernel
theorem dX2_advance_10 : decode cX2_advance 10 = .ok (.getfield 95, 3) := by decide +kernel
theorem dX2_advance_13 : decode cX2_advance 13 = .ok (.invokevirtual 102, 3) := by decide +kernel
theorem dX2_advance_16 : decode cX2_advance 16 = .ok (.istore_n 2, 1) := by decide +kernel
theorem dX2_advance_17 : decode cX2_advance 17 = .ok (.aload_n 0, 1) := by decide +kernel
theorem dX2_advance_18 : decode cX2_advance 18 = .ok (.aload_n 1, 1) := by decide +kernel
theorem dX2_advance_19 : decode cX2_advance 19 = .ok (.invokevirtual 105, 3) := by decide +kernel
theorem dX2_advance_22 : decode cX2_advance 22 = .ok (.istore_n 3, 1) := by decide +kernel
theorem dX2_advance_23 : decode cX2_advance 23 = .ok (.aload_n 0, 1) := by decide +kernel
theorem dX2_advance_24 : decode cX2_advance 24 = .ok (.invokevirtual 109, 3) := by decide +kernel
theorem dX2_advance_27 : decode cX2_advance 27 = .ok (.aload_n 0, 1) := by decide +kernel
theorem dX2_advance_28 : decode cX2_advance 28 = .ok (.getfield 65, 3) := by decide +kernel
theorem dX2_advance_31 : decode cX2_advance 31 = .ok (.invokestatic 112, 3) := by decide +kernel
theorem dX2_advance_34 : decode cX2_advance 34 = .ok (.istore 4, 2) := by decide +kernel
theorem dX2_advance_36 : decode cX2_advance 36 = .ok (.aload_n 0, 1) := by decide +kernel
theorem dX2_advance_37 : decode cX2_advance 37 = .ok (.getfield 30, 3) := by decide +kernel
theorem dX2_advance_40 : decode cX2_advance 40 = .ok (.iload 4, 2) := by decide +kernel
theorem dX2_advance_42 : decode cX2_advance 42 = .ok (.iload_n 2, 1) := by decide +kernel
theorem dX2_advance_43 : decode cX2_advance 43 = .ok (.iastore, 1) := by decide +kernel
theorem dX2_advance_44 : decode cX2_advance 44 = .ok (.aload_n 0, 1) := by decide +kernel
theorem dX2_advance_45 : decode cX2_advance 45 = .ok (.getfield 30, 3) := by decide +kernel
theorem dX2_advance_48 : decode cX2_advance 48 = .ok (.iload 4, 2) := by decide +kernel
theorem dX2_advance_50 : decode cX2_advance 50 = .ok (.iconst 1, 1) := by decide +kernel
theorem dX2_advance_51 : decode cX2_advance 51 = .ok (.iadd, 1) := by decide +kernel
theorem dX2_advance_52 : decode cX2_advance 52 = .ok (.iload_n 3, 1) := by decide +kernel
theorem dX2_advance_53 : decode cX2_advance 53 = .ok (.iastore, 1) := by decide +kernel
theorem dX2_advance_54 : decode cX2_advance 54 = .ok (.aload_n 0, 1) := by decide +kernel
theorem dX2_advance_55 : decode cX2_advance 55 = .ok (.getfield 30, 3) := by decide +kernel
theorem dX2_advance_58 : decode cX2_advance 58 = .ok (.iload 4, 2) := by decide +kernel
theorem dX2_advance_60 : decode cX2_advance 60 = .ok (.iconst 2, 1) := by decide +kernel
theorem dX2_advance_61 : decode cX2_advance 61 = .ok (.iadd, 1) := by decide +kernel
theorem dX2_advance_62 : decode cX2_advance 62 = .ok (.aload_n 0, 1) := by decide +kernel
theorem dX2_advance_63 : decode cX2_advance 63 = .ok (.getfield 36, 3) := by decide +kernel
theorem dX2_advance_66 : decode cX2_advance 66 = .ok (.getfield 62, 3) := by decide +kernel
theorem dX2_advance_69 : decode cX2_advance 69 = .ok (.iastore, 1) := by decide +kernel
theorem dX2_advance_70 : decode cX2_advance 70 = .ok (.aload_n 0, 1) := by decide +kernel
theorem dX2_advance_71 : decode cX2_advance 71 = .ok (.getfield 30, 3) := by decide +kernel
theorem dX2_advance_74 : decode cX2_advance 74 = .ok (.iload 4, 2) := by decide +kernel
theorem dX2_advance_76 : decode cX2_advance 76 = .ok (.iconst 3, 1) := by decide +kernel
theorem dX2_advance_77 : decode cX2_advance 77 = .ok (.iadd, 1) := by decide +kernel
theorem dX2_advance_78 : decode cX2_advance 78 = .ok (.aload_n 0, 1) := by decide +kernel
theorem dX2_advance_79 : decode cX2_advance 79 = .ok (.getfield 36, 3) := by decide +kernel
theorem dX2_advance_82 : decode cX2_advance 82 = .ok (.aload_n 0, 1) := by decide +kernel
theorem dX2_advance_83 : decode cX2_advance 83 = .ok (.getfield 15, 3) := by decide +kernel
theorem dX2_advance_86 : decode cX2_advance 86 = .ok (.invokevirtual 115, 3) := by decide +kernel
theorem dX2_advance_89 : decode cX2_advance 89 = .ok (.iastore, 1) := by decide +kernel
theorem dX2_advance_90 : decode cX2_advance 90 = .ok (.aload_n 0, 1) := by decide +kernel
theorem dX2_advance_91 : decode cX2_advance 91 = .ok (.getfield 30, 3) := by decide +kernel
theorem dX2_advance_94 : decode cX2_advance 94 = .ok (.iload 4, 2) := by decide +kernel
theorem dX2_advance_96 : decode cX2_advance 96 = .ok (.iconst 4, 1) := by decide +kernel
theorem dX2_advance_97 : decode cX2_advance 97 = .ok (.iadd, 1) := by decide +kernel
theorem dX2_advance_98 : decode cX2_advance 98 = .ok (.aload_n 0, 1) := by decide +kernel
theorem dX2_advance_99 : decode cX2_advance 99 = .ok (.aload_n 1, 1) := by decide +kernel
theorem dX2_advance_100 : decode cX2_advance 100 = .ok (.getfield 95, 3) := by decide +kernel
theorem dX2_advance_103 : decode cX2_advance 103 = .ok (.invokevirtual 119, 3) := by decide +kernel
theorem dX2_advance_106 : decode cX2_advance 106 = .ok (.iastore, 1) := by decide +kernel
theorem dX2_advance_107 : decode cX2_advance 107 = .ok (.aload_n 0, 1) := by decide +kernel
theorem dX2_advance_108 : decode cX2_advance 108 = .ok (.getfield 30, 3) := by decide +kernel
theorem dX2_advance_111 : decode cX2_advance 111 = .ok (.iload 4, 2) := by decide +kernel
theorem dX2_advance_113 : decode cX2_advance 113 = .ok (.iconst 5, 1) := by decide +kernel
theorem dX2_advance_114 : decode cX2_advance 114 = .ok (.iadd, 1) := by decide +kernel
theorem dX2_advance_115 : decode cX2_advance 115 = .ok (.aload_n 0, 1) := by decide +kernel
theorem dX2_advance_116 : decode cX2_advance 116 = .ok (.aload_n 1, 1) := by decide +kernel
theorem dX2_advance_117 : decode cX2_advance 117 = .ok (.invokevirtual 122, 3) := by decide +kernel
theorem dX2_advance_120 : decode cX2_advance 120 = .ok (.iastore, 1) := by decide +kernel
theorem dX2_advance_121 : decode cX2_advance 121 = .ok (.aload_n 0, 1) := by decide +kernel
theorem dX2_advance_122 : decode cX2_advance 122 = .ok (.dup, 1) := by decide +kernel
theorem dX2_advance_123 : decode cX2_advance 123 = .ok (.getfield 68, 3) := by decide +kernel
theorem dX2_advance_126 : decode cX2_advance 126 = .ok (.aload_n 0, 1) := by decide +kernel
theorem dX2_advance_127 : decode cX2_advance 127 = .ok (.getfield 36, 3) := by decide +kernel
theorem dX2_advance_130 : decode cX2_advance 130 = .ok (.getfield 62, 3) := by decide +kernel
theorem dX2_advance_133 : decode cX2_advance 133 = .ok (.iadd, 1) := by decide +kernel
theorem dX2_advance_134 : decode cX2_advance 134 = .ok (.putfield 68, 3) := by decide +kernel
theorem dX2_advance_137 : decode cX2_advance 137 = .ok (.aload_n 0, 1) := by decide +kernel
theorem dX2_advance_138 : decode cX2_advance 138 = .ok (.dup, 1) := by decide +kernel
theorem dX2_advance_139 : decode cX2_advance 139 = .ok (.getfield 65, 3) := by decide +kernel
theorem dX2_advance_142 : decode cX2_advance 142 = .ok (.iconst 1, 1) := by decide +kernel
theorem dX2_advance_143 : decode cX2_advance 143 = .ok (.iadd, 1) := by decide +kernel
theorem dX2_advance_144 : decode cX2_advance 144 = .ok (.putfield 65, 3) := by decide +kernel
theorem dX2_advance_147 : decode cX2_advance 147 = .ok (.return_, 1) := by decide +kernel
theorem dX2_noteLoads_0 : decode cX2_noteLoads 0 = .ok (.iconst 0, 1) := by decide +kernel
theorem dX2_noteLoads_1 : decode cX2_noteLoads 1 = .ok (.istore_n 2, 1) := by decide +kernel
theorem dX2_noteLoads_2 : decode cX2_noteLoads 2 = .ok (.iload_n 2, 1) := by decide +kernel
theorem dX2_noteLoads_3 : decode cX2_noteLoads 3 = .ok (.iconst 4, 1) := by decide +kernel
theorem dX2_noteLoads_4 : decode cX2_noteLoads 4 = .ok (.if_icmp .ge 16, 3) := by decide +kernel
theorem dX2_noteLoads_7 : decode cX2_noteLoads 7 = .ok (.aload_n 0, 1) := by decide +kernel
theorem dX2_noteLoads_8 : decode cX2_noteLoads 8 = .ok (.getfield 27, 3) := by decide +kernel
theorem dX2_noteLoads_11 : decode cX2_noteLoads 11 = .ok (.iload_n 2, 1) := by decide +kernel
theorem dX2_noteLoads_12 : decode cX2_noteLoads 12 = .ok (.iconst 0, 1) := by decide +kernel
theorem dX2_noteLoads_13 : decode cX2_noteLoads 13 = .ok (.iastore, 1) := by decide +kernel
theorem dX2_noteLoads_14 : decode cX2_noteLoads 14 = .ok (.iinc 2 1, 3) := by decide +kernel
theorem dX2_noteLoads_17 : decode cX2_noteLoads 17 = .ok (.goto (-15), 3) := by decide +kernel
theorem dX2_noteLoads_20 : decode cX2_noteLoads 20 = .ok (.iconst 0, 1) := by decide +kernel
theorem dX2_noteLoads_21 : decode cX2_noteLoads 21 = .ok (.istore_n 2, 1) := by decide +kernel
theorem dX2_noteLoads_22 : decode cX2_noteLoads 22 = .ok (.iload_n 2, 1) := by decide +kernel
theorem dX2_noteLoads_23 : decode cX2_noteLoads 23 = .ok (.iload_n 1, 1) := by decide +kernel
theorem dX2_noteLoads_24 : decode cX2_noteLoads 24 = .ok (.if_icmp .ge 57, 3) := by decide +kernel
theorem dX2_noteLoads_27 : decode cX2_noteLoads 27 = .ok (.aload_n 0, 1) := by decide +kernel
theorem dX2_noteLoads_28 : decode cX2_noteLoads 28 = .ok (.getfield 24, 3) := by decide +kernel
theorem dX2_noteLoads_31 : decode cX2_noteLoads 31 = .ok (.iload_n 2, 1) := by decide +kernel
theorem dX2_noteLoads_32 : decode cX2_noteLoads 32 = .ok (.aload_n 0, 1) := by decide +kernel
theorem dX2_noteLoads_33 : decode cX2_noteLoads 33 = .ok (.iload_n 2, 1) := by decide +kernel
theorem dX2_noteLoads_34 : decode cX2_noteLoads 34 = .ok (.invokevirtual 91, 3) := by decide +kernel
theorem dX2_noteLoads_37 : decode cX2_noteLoads 37 = .ok (.ifCond .eq 16, 3) := by decide +kernel
theorem dX2_noteLoads_40 : decode cX2_noteLoads 40 = .ok (.iconst 1, 1) := by decide +kernel
theorem dX2_noteLoads_41 : decode cX2_noteLoads 41 = .ok (.aload_n 0, 1) := by decide +kernel
theorem dX2_noteLoads_42 : decode cX2_noteLoads 42 = .ok (.getfield 36, 3) := by decide +kernel
theorem dX2_noteLoads_45 : decode cX2_noteLoads 45 = .ok (.iload_n 2, 1) := by decide +kernel
theorem dX2_noteLoads_46 : decode cX2_noteLoads 46 = .ok (.invokevirtual 88, 3) := by decide +kernel
theorem dX2_noteLoads_49 : decode cX2_noteLoads 49 = .ok (.iadd, 1) := by decide +kernel
theorem dX2_noteLoads_50 : decode cX2_noteLoads 50 = .ok (.goto 4, 3) := by decide +kernel
theorem dX2_noteLoads_53 : decode cX2_noteLoads 53 = .ok (.iconst 0, 1) := by decide +kernel
theorem dX2_noteLoads_54 : decode cX2_noteLoads 54 = .ok (.iastore, 1) := by decide +kernel
theorem dX2_noteLoads_55 : decode cX2_noteLoads 55 = .ok (.aload_n 0, 1) := by decide +kernel
theorem dX2_noteLoads_56 : decode cX2_noteLoads 56 = .ok (.getfield 27, 3) := by decide +kernel
theorem dX2_noteLoads_59 : decode cX2_noteLoads 59 = .ok (.aload_n 0, 1) := by decide +kernel
theorem dX2_noteLoads_60 : decode cX2_noteLoads 60 = .ok (.getfield 15, 3) := by decide +kernel
theorem dX2_noteLoads_63 : decode cX2_noteLoads 63 = .ok (.iload_n 2, 1) := by decide +kernel
theorem dX2_noteLoads_64 : decode cX2_noteLoads 64 = .ok (.iaload, 1) := by decide +kernel
theorem dX2_noteLoads_65 : decode cX2_noteLoads 65 = .ok (.dup2, 1) := by decide +kernel
theorem dX2_noteLoads_66 : decode cX2_noteLoads 66 = .ok (.iaload, 1) := by decide +kernel
theorem dX2_noteLoads_67 : decode cX2_noteLoads 67 = .ok (.aload_n 0, 1) := by decide +kernel
theorem dX2_noteLoads_68 : decode cX2_noteLoads 68 = .ok (.getfield 24, 3) := by decide +kernel
theorem dX2_noteLoads_71 : decode cX2_noteLoads 71 = .ok (.iload_n 2, 1) := by decide +kernel
theorem dX2_noteLoads_72 : decode cX2_noteLoads 72 = .ok (.iaload, 1) := by decide +kernel
theorem dX2_noteLoads_73 : decode cX2_noteLoads 73 = .ok (.iadd, 1) := by decide +kernel
theorem dX2_noteLoads_74 : decode cX2_noteLoads 74 = .ok (.iastore, 1) := by decide +kernel
theorem dX2_noteLoads_75 : decode cX2_noteLoads 75 = .ok (.iinc 2 1, 3) := by decide +kernel
theorem dX2_noteLoads_78 : decode cX2_noteLoads 78 = .ok (.goto (-56), 3) := by decide +kernel
theorem dX2_noteLoads_81 : decode cX2_noteLoads 81 = .ok (.return_, 1) := by decide +kernel
theorem dX2_workAll_0 : decode cX2_workAll 0 = .ok (.iconst 0, 1) := by decide +kernel
theorem dX2_workAll_1 : decode cX2_workAll 1 = .ok (.istore_n 2, 1) := by decide +kernel
theorem dX2_workAll_2 : decode cX2_workAll 2 = .ok (.aload_n 0, 1) := by decide +kernel
theorem dX2_workAll_3 : decode cX2_workAll 3 = .ok (.getfield 40, 3) := by decide +kernel
theorem dX2_workAll_6 : decode cX2_workAll 6 = .ok (.iconst 0, 1) := by decide +kernel
theorem dX2_workAll_7 : decode cX2_workAll 7 = .ok (.putfield 62, 3) := by decide +kernel
theorem dX2_workAll_10 : decode cX2_workAll 10 = .ok (.iconst 0, 1) := by decide +kernel
theorem dX2_workAll_11 : decode cX2_workAll 11 = .ok (.istore_n 3, 1) := by decide +kernel
theorem dX2_workAll_12 : decode cX2_workAll 12 = .ok (.iload_n 3, 1) := by decide +kernel
theorem dX2_workAll_13 : decode cX2_workAll 13 = .ok (.aload_n 1, 1) := by decide +kernel
theorem dX2_workAll_14 : decode cX2_workAll 14 = .ok (.getfield 95, 3) := by decide +kernel
theorem dX2_workAll_17 : decode cX2_workAll 17 = .ok (.if_icmp .ge 94, 3) := by decide +kernel
theorem dX2_workAll_20 : decode cX2_workAll 20 = .ok (.aload_n 0, 1) := by decide +kernel
theorem dX2_workAll_21 : decode cX2_workAll 21 = .ok (.iload_n 3, 1) := by decide +kernel
theorem dX2_workAll_22 : decode cX2_workAll 22 = .ok (.invokevirtual 91, 3) := by decide +kernel
theorem dX2_workAll_25 : decode cX2_workAll 25 = .ok (.ifCond .eq 80, 3) := by decide +kernel
theorem dX2_workAll_28 : decode cX2_workAll 28 = .ok (.aload_n 0, 1) := by decide +kernel
theorem dX2_workAll_29 : decode cX2_workAll 29 = .ok (.getfield 9, 3) := by decide +kernel
theorem dX2_workAll_32 : decode cX2_workAll 32 = .ok (.iload_n 3, 1) := by decide +kernel
theorem dX2_workAll_33 : decode cX2_workAll 33 = .ok (.iaload, 1) := by decide +kernel
theorem dX2_workAll_34 : decode cX2_workAll 34 = .ok (.istore 4, 2) := by decide +kernel
theorem dX2_workAll_36 : decode cX2_workAll 36 = .ok (.aload_n 0, 1) := by decide +kernel
theorem dX2_workAll_37 : decode cX2_workAll 37 = .ok (.getfield 21, 3) := by decide +kernel
theorem dX2_workAll_40 : decode cX2_workAll 40 = .ok (.iload_n 3, 1) := by decide +kernel
theorem dX2_workAll_41 : decode cX2_workAll 41 = .ok (.dup2, 1) := by decide +kernel
theorem dX2_workAll_42 : decode cX2_workAll 42 = .ok (.iaload, 1) := by decide +kernel
theorem dX2_workAll_43 : decode cX2_workAll 43 = .ok (.iconst 1, 1) := by decide +kernel
theorem dX2_workAll_44 : decode cX2_workAll 44 = .ok (.iadd, 1) := by decide +kernel
theorem dX2_workAll_45 : decode cX2_workAll 45 = .ok (.iastore, 1) := by decide +kernel
theorem dX2_workAll_46 : decode cX2_workAll 46 = .ok (.aload_n 1, 1) := by decide +kernel
theorem dX2_workAll_47 : decode cX2_workAll 47 = .ok (.getfield 125, 3) := by decide +kernel
theorem dX2_workAll_50 : decode cX2_workAll 50 = .ok (.iconst 3, 1) := by decide +kernel
theorem dX2_workAll_51 : decode cX2_workAll 51 = .ok (.if_icmp .ne 12, 3) := by decide +kernel
theorem dX2_workAll_54 : decode cX2_workAll 54 = .ok (.aload_n 0, 1) := by decide +kernel
theorem dX2_workAll_55 : decode cX2_workAll 55 = .ok (.aload_n 1, 1) := by decide +kernel
theorem dX2_workAll_56 : decode cX2_workAll 56 = .ok (.iload_n 3, 1) := by decide +kernel
theorem dX2_workAll_57 : decode cX2_workAll 57 = .ok (.invokevirtual 128, 3) := by decide +kernel
theorem dX2_workAll_60 : decode cX2_workAll 60 = .ok (.goto 9, 3) := by decide +kernel
theorem dX2_workAll_63 : decode cX2_workAll 63 = .ok (.aload_n 0, 1) := by decide +kernel
theorem dX2_workAll_64 : decode cX2_workAll 64 = .ok (.aload_n 1, 1) := by decide +kernel
theorem dX2_workAll_65 : decode cX2_workAll 65 = .ok (.iload_n 3, 1) := by decide +kernel
theorem dX2_workAll_66 : decode cX2_workAll 66 = .ok (.invokevirtual 132, 3) := by decide +kernel
theorem dX2_workAll_69 : decode cX2_workAll 69 = .ok (.istore 5, 2) := by decide +kernel
theorem dX2_workAll_71 : decode cX2_workAll 71 = .ok (.iload 5, 2) := by decide +kernel
theorem dX2_workAll_73 : decode cX2_workAll 73 = .ok (.bipush (-4), 2) := by decide +kernel
theorem dX2_workAll_75 : decode cX2_workAll 75 = .ok (.if_icmp .eq 11, 3) := by decide +kernel
theorem dX2_workAll_78 : decode cX2_workAll 78 = .ok (.aload_n 0, 1) := by decide +kernel
theorem dX2_workAll_79 : decode cX2_workAll 79 = .ok (.aload_n 1, 1) := by decide +kernel
theorem dX2_workAll_80 : decode cX2_workAll 80 = .ok (.iload_n 3, 1) := by decide +kernel
theorem dX2_workAll_81 : decode cX2_workAll 81 = .ok (.iload 5, 2) := by decide +kernel
theorem dX2_workAll_83 : decode cX2_workAll 83 = .ok (.invokevirtual 135, 3) := by decide +kernel
theorem dX2_workAll_86 : decode cX2_workAll 86 = .ok (.iload_n 2, 1) := by decide +kernel
theorem dX2_workAll_87 : decode cX2_workAll 87 = .ok (.aload_n 0, 1) := by decide +kernel
theorem dX2_workAll_88 : decode cX2_workAll 88 = .ok (.getfield 9, 3) := by decide +kernel
theorem dX2_workAll_91 : decode cX2_workAll 91 = .ok (.iload_n 3, 1) := by decide +kernel
theorem dX2_workAll_92 : decode cX2_workAll 92 = .ok (.iaload, 1) := by decide +kernel
theorem dX2_workAll_93 : decode cX2_workAll 93 = .ok (.iload 4, 2) := by decide +kernel
theorem dX2_workAll_95 : decode cX2_workAll 95 = .ok (.if_icmp .ne 7, 3) := by decide +kernel
theorem dX2_workAll_98 : decode cX2_workAll 98 = .ok (.iconst 0, 1) := by decide +kernel
theorem dX2_workAll_99 : decode cX2_workAll 99 = .ok (.goto 4, 3) := by decide +kernel
theorem dX2_workAll_102 : decode cX2_workAll 102 = .ok (.iconst 1, 1) := by decide +kernel
theorem dX2_workAll_103 : decode cX2_workAll 103 = .ok (.iadd, 1) := by decide +kernel
theorem dX2_workAll_104 : decode cX2_workAll 104 = .ok (.istore_n 2, 1) := by decide +kernel
theorem dX2_workAll_105 : decode cX2_workAll 105 = .ok (.iinc 3 1, 3) := by decide +kernel
theorem dX2_workAll_108 : decode cX2_workAll 108 = .ok (.goto (-96), 3) := by decide +kernel
theorem dX2_workAll_111 : decode cX2_workAll 111 = .ok (.iload_n 2, 1) := by decide +kernel
theorem dX2_workAll_112 : decode cX2_workAll 112 = .ok (.ireturn, 1) := by decide +kernel
theorem dX2_deliver_0 : decode cX2_deliver 0 = .ok (.aload_n 0, 1) := by decide +kernel
theorem dX2_deliver_1 : decode cX2_deliver 1 = .ok (.getfield 36, 3) := by decide +kernel
theorem dX2_deliver_4 : decode cX2_deliver 4 = .ok (.astore_n 1, 1) := by decide +kernel
theorem dX2_deliver_5 : decode cX2_deliver 5 = .ok (.aload_n 0, 1) := by decide +kernel
theorem dX2_deliver_6 : decode cX2_deliver 6 = .ok (.aload_n 0, 1) := by decide +kernel
theorem dX2_deliver_7 : decode cX2_deliver 7 = .ok (.getfield 40, 3) := by decide +kernel
theorem dX2_deliver_10 : decode cX2_deliver 10 = .ok (.putfield 36, 3) := by decide +kernel
theorem dX2_deliver_13 : decode cX2_deliver 13 = .ok (.aload_n 0, 1) := by decide +kernel
theorem dX2_deliver_14 : decode cX2_deliver 14 = .ok (.aload_n 1, 1) := by decide +kernel
theorem dX2_deliver_15 : decode cX2_deliver 15 = .ok (.putfield 40, 3) := by decide +kernel
theorem dX2_deliver_18 : decode cX2_deliver 18 = .ok (.return_, 1) := by decide +kernel
theorem dX2_workForBest_0 : decode cX2_workForBest 0 = .ok (.aload_n 0, 1) := by decide +kernel
theorem dX2_workForBest_1 : decode cX2_workForBest 1 = .ok (.getfield 36, 3) := by decide +kernel
theorem dX2_workForBest_4 : decode cX2_workForBest 4 = .ok (.iload_n 2, 1) := by decide +kernel
theorem dX2_workForBest_5 : decode cX2_workForBest 5 = .ok (.aload_n 1, 1) := by decide +kernel
theorem dX2_workForBest_6 : decode cX2_workForBest 6 = .ok (.getfield 125, 3) := by decide +kernel
theorem dX2_workForBest_9 : decode cX2_workForBest 9 = .ok (.invokevirtual 139, 3) := by decide +kernel
theorem dX2_workForBest_12 : decode cX2_workForBest 12 = .ok (.istore_n 3, 1) := by decide +kernel
theorem dX2_workForBest_13 : decode cX2_workForBest 13 = .ok (.aload_n 0, 1) := by decide +kernel
theorem dX2_workForBest_14 : decode cX2_workForBest 14 = .ok (.getfield 36, 3) := by decide +kernel
theorem dX2_workForBest_17 : decode cX2_workForBest 17 = .ok (.iload_n 2, 1) := by decide +kernel
theorem dX2_workForBest_18 : decode cX2_workForBest 18 = .ok (.invokevirtual 88, 3) := by decide +kernel
theorem dX2_workForBest_21 : decode cX2_workForBest 21 = .ok (.ifCond .le 35, 3) := by decide +kernel
theorem dX2_workForBest_24 : decode cX2_workForBest 24 = .ok (.iload_n 3, 1) := by decide +kernel
theorem dX2_workForBest_25 : decode cX2_workForBest 25 = .ok (.aload_n 0, 1) := by decide +kernel
theorem dX2_workForBest_26 : decode cX2_workForBest 26 = .ok (.getfield 9, 3) := by decide +kernel
theorem dX2_workForBest_29 : decode cX2_workForBest 29 = .ok (.iload_n 2, 1) := by decide +kernel
theorem dX2_workForBest_30 : decode cX2_workForBest 30 = .ok (.iaload, 1) := by decide +kernel
theorem dX2_workForBest_31 : decode cX2_workForBest 31 = .ok (.if_icmp .eq 25, 3) := by decide +kernel
theorem dX2_workForBest_34 : decode cX2_workForBest 34 = .ok (.aload_n 1, 1) := by decide +kernel
theorem dX2_workForBest_35 : decode cX2_workForBest 35 = .ok (.getfield 125, 3) := by decide +kernel
theorem dX2_workForBest_38 : decode cX2_workForBest 38 = .ok (.iload_n 3, 1) := by decide +kernel
theorem dX2_workForBest_39 : decode cX2_workForBest 39 = .ok (.aload_n 0, 1) := by decide +kernel
theorem dX2_workForBest_40 : decode cX2_workForBest 40 = .ok (.getfield 9, 3) := by decide +kernel
theorem dX2_workForBest_43 : decode cX2_workForBest 43 = .ok (.iload_n 2, 1) := by decide +kernel
theorem dX2_workForBest_44 : decode cX2_workForBest 44 = .ok (.iaload, 1) := by decide +kernel
theorem dX2_workForBest_45 : decode cX2_workForBest 45 = .ok (.invokestatic 142, 3) := by decide +kernel
theorem dX2_workForBest_48 : decode cX2_workForBest 48 = .ok (.iload_n 3, 1) := by decide +kernel
theorem dX2_workForBest_49 : decode cX2_workForBest 49 = .ok (.if_icmp .ne 7, 3) := by decide +kernel
theorem dX2_workForBest_52 : decode cX2_workForBest 52 = .ok (.iconst 1, 1) := by decide +kernel
theorem dX2_workForBest_53 : decode cX2_workForBest 53 = .ok (.goto 4, 3) := by decide +kernel
theorem dX2_workForBest_56 : decode cX2_workForBest 56 = .ok (.iconst 0, 1) := by decide +kernel
theorem dX2_workForBest_57 : decode cX2_workForBest 57 = .ok (.istore 4, 2) := by decide +kernel
theorem dX2_workForBest_59 : decode cX2_workForBest 59 = .ok (.iload 4, 2) := by decide +kernel
theorem dX2_workForBest_61 : decode cX2_workForBest 61 = .ok (.ifCond .eq 10, 3) := by decide +kernel
theorem dX2_workForBest_64 : decode cX2_workForBest 64 = .ok (.aload_n 0, 1) := by decide +kernel
theorem dX2_workForBest_65 : decode cX2_workForBest 65 = .ok (.getfield 9, 3) := by decide +kernel
theorem dX2_workForBest_68 : decode cX2_workForBest 68 = .ok (.iload_n 2, 1) := by decide +kernel
theorem dX2_workForBest_69 : decode cX2_workForBest 69 = .ok (.iload_n 3, 1) := by decide +kernel
theorem dX2_workForBest_70 : decode cX2_workForBest 70 = .ok (.iastore, 1) := by decide +kernel
theorem dX2_workForBest_71 : decode cX2_workForBest 71 = .ok (.aload_n 1, 1) := by decide +kernel
theorem dX2_workForBest_72 : decode cX2_workForBest 72 = .ok (.getfield 125, 3) := by decide +kernel
theorem dX2_workForBest_75 : decode cX2_workForBest 75 = .ok (.iconst 1, 1) := by decide +kernel
theorem dX2_workForBest_76 : decode cX2_workForBest 76 = .ok (.if_icmp .ne 15, 3) := by decide +kernel
theorem dX2_workForBest_79 : decode cX2_workForBest 79 = .ok (.aload_n 0, 1) := by decide +kernel
theorem dX2_workForBest_80 : decode cX2_workForBest 80 = .ok (.getfield 9, 3) := by decide +kernel
theorem dX2_workForBest_83 : decode cX2_workForBest 83 = .ok (.iload_n 2, 1) := by decide +kernel
theorem dX2_workForBest_84 : decode cX2_workForBest 84 = .ok (.iaload, 1) := by decide +kernel
theorem dX2_workForBest_85 : decode cX2_workForBest 85 = .ok (.sipush 999, 3) := by decide +kernel
theorem dX2_workForBest_88 : decode cX2_workForBest 88 = .ok (.if_icmp .ge 7, 3) := by decide +kernel
theorem dX2_workForBest_91 : decode cX2_workForBest 91 = .ok (.iconst 1, 1) := by decide +kernel
theorem dX2_workForBest_92 : decode cX2_workForBest 92 = .ok (.goto 4, 3) := by decide +kernel
theorem dX2_workForBest_95 : decode cX2_workForBest 95 = .ok (.iconst 0, 1) := by decide +kernel
theorem dX2_workForBest_96 : decode cX2_workForBest 96 = .ok (.istore 5, 2) := by decide +kernel
theorem dX2_workForBest_98 : decode cX2_workForBest 98 = .ok (.iload 4, 2) := by decide +kernel
theorem dX2_workForBest_100 : decode cX2_workForBest 100 = .ok (.ifCond .ne 17, 3) := by decide +kernel
theorem dX2_workForBest_103 : decode cX2_workForBest 103 = .ok (.aload_n 0, 1) := by decide +kernel
theorem dX2_workForBest_104 : decode cX2_workForBest 104 = .ok (.getfield 18, 3) := by decide +kernel
theorem dX2_workForBest_107 : decode cX2_workForBest 107 = .ok (.iload_n 2, 1) := by decide +kernel
theorem dX2_workForBest_108 : decode cX2_workForBest 108 = .ok (.iaload, 1) := by decide +kernel
theorem dX2_workForBest_109 : decode cX2_workForBest 109 = .ok (.ifCond .ne 12, 3) := by decide +kernel
theorem dX2_workForBest_112 : decode cX2_workForBest 112 = .ok (.iload 5, 2) := by decide +kernel
theorem dX2_workForBest_114 : decode cX2_workForBest 114 = .ok (.ifCond .eq 7, 3) := by decide +kernel
theorem dX2_workForBest_117 : decode cX2_workForBest 117 = .ok (.iconst 1, 1) := by decide +kernel
theorem dX2_workForBest_118 : decode cX2_workForBest 118 = .ok (.goto 4, 3) := by decide +kernel
theorem dX2_workForBest_121 : decode cX2_workForBest 121 = .ok (.iconst 0, 1) := by decide +kernel
theorem dX2_workForBest_122 : decode cX2_workForBest 122 = .ok (.istore 6, 2) := by decide +kernel
theorem dX2_workForBest_124 : decode cX2_workForBest 124 = .ok (.aload_n 0, 1) := by decide +kernel
theorem dX2_workForBest_125 : decode cX2_workForBest 125 = .ok (.getfield 18, 3) := by decide +kernel
theorem dX2_workForBest_128 : decode cX2_workForBest 128 = .ok (.iload_n 2, 1) := by decide +kernel
theorem dX2_workForBest_129 : decode cX2_workForBest 129 = .ok (.iconst 2, 1) := by decide +kernel
theorem dX2_workForBest_130 : decode cX2_workForBest 130 = .ok (.iastore, 1) := by decide +kernel
theorem dX2_workForBest_131 : decode cX2_workForBest 131 = .ok (.iload 6, 2) := by decide +kernel
theorem dX2_workForBest_133 : decode cX2_workForBest 133 = .ok (.ifCond .eq 12, 3) := by decide +kernel
theorem dX2_workForBest_136 : decode cX2_workForBest 136 = .ok (.aload_n 0, 1) := by decide +kernel
theorem dX2_workForBest_137 : decode cX2_workForBest 137 = .ok (.getfield 9, 3) := by decide +kernel
theorem dX2_workForBest_140 : decode cX2_workForBest 140 = .ok (.iload_n 2, 1) := by decide +kernel
theorem dX2_workForBest_141 : decode cX2_workForBest 141 = .ok (.iaload, 1) := by decide +kernel
theorem dX2_workForBest_142 : decode cX2_workForBest 142 = .ok (.goto 5, 3) := by decide +kernel
theorem dX2_workForBest_145 : decode cX2_workForBest 145 = .ok (.bipush (-4), 2) := by decide +kernel
theorem dX2_workForBest_147 : decode cX2_workForBest 147 = .ok (.ireturn, 1) := by decide +kernel
theorem dX2_workForRank_0 : decode cX2_workForRank 0 = .ok (.aload_n 0, 1) := by decide +kernel
theorem dX2_workForRank_1 : decode cX2_workForRank 1 = .ok (.getfield 36, 3) := by decide +kernel
theorem dX2_workForRank_4 : decode cX2_workForRank 4 = .ok (.iload_n 2, 1) := by decide +kernel
theorem dX2_workForRank_5 : decode cX2_workForRank 5 = .ok (.invokevirtual 88, 3) := by decide +kernel
theorem dX2_workForRank_8 : decode cX2_workForRank 8 = .ok (.ifCond .gt 12, 3) := by decide +kernel
theorem dX2_workForRank_11 : decode cX2_workForRank 11 = .ok (.aload_n 0, 1) := by decide +kernel
theorem dX2_workForRank_12 : decode cX2_workForRank 12 = .ok (.getfield 18, 3) := by decide +kernel
theorem dX2_workForRank_15 : decode cX2_workForRank 15 = .ok (.iload_n 2, 1) := by decide +kernel
theorem dX2_workForRank_16 : decode cX2_workForRank 16 = .ok (.iaload, 1) := by decide +kernel
theorem dX2_workForRank_17 : decode cX2_workForRank 17 = .ok (.ifCond .eq 35, 3) := by decide +kernel
theorem dX2_workForRank_20 : decode cX2_workForRank 20 = .ok (.aload_n 0, 1) := by decide +kernel
theorem dX2_workForRank_21 : decode cX2_workForRank 21 = .ok (.getfield 36, 3) := by decide +kernel
theorem dX2_workForRank_24 : decode cX2_workForRank 24 = .ok (.iload_n 2, 1) := by decide +kernel
theorem dX2_workForRank_25 : decode cX2_workForRank 25 = .ok (.iconst 3, 1) := by decide +kernel
theorem dX2_workForRank_26 : decode cX2_workForRank 26 = .ok (.invokevirtual 139, 3) := by decide +kernel
theorem dX2_workForRank_29 : decode cX2_workForRank 29 = .ok (.istore_n 3, 1) := by decide +kernel
theorem dX2_workForRank_30 : decode cX2_workForRank 30 = .ok (.aload_n 0, 1) := by decide +kernel
theorem dX2_workForRank_31 : decode cX2_workForRank 31 = .ok (.getfield 9, 3) := by decide +kernel
theorem dX2_workForRank_34 : decode cX2_workForRank 34 = .ok (.iload_n 2, 1) := by decide +kernel
theorem dX2_workForRank_35 : decode cX2_workForRank 35 = .ok (.sipush 999, 3) := by decide +kernel
theorem dX2_workForRank_38 : decode cX2_workForRank 38 = .ok (.bipush 15, 2) := by decide +kernel
theorem dX2_workForRank_40 : decode cX2_workForRank 40 = .ok (.bipush 17, 2) := by decide +kernel
theorem dX2_workForRank_42 : decode cX2_workForRank 42 = .ok (.iload_n 3, 1) := by decide +kernel
theorem dX2_workForRank_43 : decode cX2_workForRank 43 = .ok (.imul, 1) := by decide +kernel
theorem dX2_workForRank_44 : decode cX2_workForRank 44 = .ok (.bipush 20, 2) := by decide +kernel
theorem dX2_workForRank_46 : decode cX2_workForRank 46 = .ok (.idiv, 1) := by decide +kernel
theorem dX2_workForRank_47 : decode cX2_workForRank 47 = .ok (.iadd, 1) := by decide +kernel
theorem dX2_workForRank_48 : decode cX2_workForRank 48 = .ok (.invokestatic 146, 3) := by decide +kernel
theorem dX2_workForRank_51 : decode cX2_workForRank 51 = .ok (.iastore, 1) := by decide +kernel
theorem dX2_workForRank_52 : decode cX2_workForRank 52 = .ok (.aload_n 0, 1) := by decide +kernel
theorem dX2_workForRank_53 : decode cX2_workForRank 53 = .ok (.getfield 21, 3) := by decide +kernel
theorem dX2_workForRank_56 : decode cX2_workForRank 56 = .ok (.iload_n 2, 1) := by decide +kernel
theorem dX2_workForRank_57 : decode cX2_workForRank 57 = .ok (.iaload, 1) := by decide +kernel
theorem dX2_workForRank_58 : decode cX2_workForRank 58 = .ok (.aload_n 1, 1) := by decide +kernel
theorem dX2_workForRank_59 : decode cX2_workForRank 59 = .ok (.getfield 149, 3) := by decide +kernel
theorem dX2_workForRank_62 : decode cX2_workForRank 62 = .ok (.if_icmp .le 13, 3) := by decide +kernel
theorem dX2_workForRank_65 : decode cX2_workForRank 65 = .ok (.aload_n 0, 1) := by decide +kernel
theorem dX2_workForRank_66 : decode cX2_workForRank 66 = .ok (.getfield 18, 3) := by decide +kernel
theorem dX2_workForRank_69 : decode cX2_workForRank 69 = .ok (.iload_n 2, 1) := by decide +kernel
theorem dX2_workForRank_70 : decode cX2_workForRank 70 = .ok (.iconst 2, 1) := by decide +kernel
theorem dX2_workForRank_71 : decode cX2_workForRank 71 = .ok (.iastore, 1) := by decide +kernel
theorem dX2_workForRank_72 : decode cX2_workForRank 72 = .ok (.bipush (-4), 2) := by decide +kernel
theorem dX2_workForRank_74 : decode cX2_workForRank 74 = .ok (.ireturn, 1) := by decide +kernel
theorem dX2_workForRank_75 : decode cX2_workForRank 75 = .ok (.aload_n 0, 1) := by decide +kernel
theorem dX2_workForRank_76 : decode cX2_workForRank 76 = .ok (.getfield 18, 3) := by decide +kernel
theorem dX2_workForRank_79 : decode cX2_workForRank 79 = .ok (.iload_n 2, 1) := by decide +kernel
theorem dX2_workForRank_80 : decode cX2_workForRank 80 = .ok (.iconst 1, 1) := by decide +kernel
theorem dX2_workForRank_81 : decode cX2_workForRank 81 = .ok (.iastore, 1) := by decide +kernel
theorem dX2_workForRank_82 : decode cX2_workForRank 82 = .ok (.aload_n 1, 1) := by decide +kernel
theorem dX2_workForRank_83 : decode cX2_workForRank 83 = .ok (.iload_n 2, 1) := by decide +kernel
theorem dX2_workForRank_84 : decode cX2_workForRank 84 = .ok (.invokevirtual 152, 3) := by decide +kernel
theorem dX2_workForRank_87 : decode cX2_workForRank 87 = .ok (.istore_n 3, 1) := by decide +kernel
theorem dX2_workForRank_88 : decode cX2_workForRank 88 = .ok (.iload_n 3, 1) := by decide +kernel
theorem dX2_workForRank_89 : decode cX2_workForRank 89 = .ok (.ifCond .le 14, 3) := by decide +kernel
theorem dX2_workForRank_92 : decode cX2_workForRank 92 = .ok (.aload_n 0, 1) := by decide +kernel
theorem dX2_workForRank_93 : decode cX2_workForRank 93 = .ok (.getfield 9, 3) := by decide +kernel
theorem dX2_workForRank_96 : decode cX2_workForRank 96 = .ok (.iload_n 2, 1) := by decide +kernel
theorem dX2_workForRank_97 : decode cX2_workForRank 97 = .ok (.iaload, 1) := by decide +kernel
theorem dX2_workForRank_98 : decode cX2_workForRank 98 = .ok (.iload_n 3, 1) := by decide +kernel
theorem dX2_workForRank_99 : decode cX2_workForRank 99 = .ok (.idiv, 1) := by decide +kernel
theorem dX2_workForRank_100 : decode cX2_workForRank 100 = .ok (.goto 5, 3) := by decide +kernel
theorem dX2_workForRank_103 : decode cX2_workForRank 103 = .ok (.bipush (-4), 2) := by decide +kernel
theorem dX2_workForRank_105 : decode cX2_workForRank 105 = .ok (.ireturn, 1) := by decide +kernel
theorem dX2_sendAll_0 : decode cX2_sendAll 0 = .ok (.iconst 0, 1) := by decide +kernel
theorem dX2_sendAll_1 : decode cX2_sendAll 1 = .ok (.istore 4, 2) := by decide +kernel
theorem dX2_sendAll_3 : decode cX2_sendAll 3 = .ok (.iload 4, 2) := by decide +kernel
theorem dX2_sendAll_5 : decode cX2_sendAll 5 = .ok (.aload_n 1, 1) := by decide +kernel
theorem dX2_sendAll_6 : decode cX2_sendAll 6 = .ok (.getfield 155, 3) := by decide +kernel
theorem dX2_sendAll_9 : decode cX2_sendAll 9 = .ok (.if_icmp .ge 112, 3) := by decide +kernel
theorem dX2_sendAll_12 : decode cX2_sendAll 12 = .ok (.aload_n 1, 1) := by decide +kernel
theorem dX2_sendAll_13 : decode cX2_sendAll 13 = .ok (.getfield 158, 3) := by decide +kernel
theorem dX2_sendAll_16 : decode cX2_sendAll 16 = .ok (.iload 4, 2) := by decide +kernel
theorem dX2_sendAll_18 : decode cX2_sendAll 18 = .ok (.iaload, 1) := by decide +kernel
theorem dX2_sendAll_19 : decode cX2_sendAll 19 = .ok (.iload_n 2, 1) := by decide +kernel
theorem dX2_sendAll_20 : decode cX2_sendAll 20 = .ok (.if_icmp .ne 95, 3) := by decide +kernel
theorem dX2_sendAll_23 : decode cX2_sendAll 23 = .ok (.aload_n 1, 1) := by decide +kernel
theorem dX2_sendAll_24 : decode cX2_sendAll 24 = .ok (.getfield 125, 3) := by decide +kernel
theorem dX2_sendAll_27 : decode cX2_sendAll 27 = .ok (.iconst 1, 1) := by decide +kernel
theorem dX2_sendAll_28 : decode cX2_sendAll 28 = .ok (.if_icmp .ne 13, 3) := by decide +kernel
theorem dX2_sendAll_31 : decode cX2_sendAll 31 = .ok (.aload_n 1, 1) := by decide +kernel
theorem dX2_sendAll_32 : decode cX2_sendAll 32 = .ok (.getfield 161, 3) := by decide +kernel
theorem dX2_sendAll_35 : decode cX2_sendAll 35 = .ok (.iload 4, 2) := by decide +kernel
theorem dX2_sendAll_37 : decode cX2_sendAll 37 = .ok (.iaload, 1) := by decide +kernel
theorem dX2_sendAll_38 : decode cX2_sendAll 38 = .ok (.goto 4, 3) := by decide +kernel
theorem dX2_sendAll_41 : decode cX2_sendAll 41 = .ok (.iconst 0, 1) := by decide +kernel
theorem dX2_sendAll_42 : decode cX2_sendAll 42 = .ok (.istore 5, 2) := by decide +kernel
theorem dX2_sendAll_44 : decode cX2_sendAll 44 = .ok (.sipush 999, 3) := by decide +kernel
theorem dX2_sendAll_47 : decode cX2_sendAll 47 = .ok (.iload_n 3, 1) := by decide +kernel
theorem dX2_sendAll_48 : decode cX2_sendAll 48 = .ok (.iload 5, 2) := by decide +kernel
theorem dX2_sendAll_50 : decode cX2_sendAll 50 = .ok (.iadd, 1) := by decide +kernel
theorem dX2_sendAll_51 : decode cX2_sendAll 51 = .ok (.invokestatic 146, 3) := by decide +kernel
theorem dX2_sendAll_54 : decode cX2_sendAll 54 = .ok (.istore 6, 2) := by decide +kernel
theorem dX2_sendAll_56 : decode cX2_sendAll 56 = .ok (.aload_n 0, 1) := by decide +kernel
theorem dX2_sendAll_57 : decode cX2_sendAll 57 = .ok (.getfield 77, 3) := by decide +kernel
theorem dX2_sendAll_60 : decode cX2_sendAll 60 = .ok (.iconst 1, 1) := by decide +kernel
theorem dX2_sendAll_61 : decode cX2_sendAll 61 = .ok (.if_icmp .ne 32, 3) := by decide +kernel
theorem dX2_sendAll_64 : decode cX2_sendAll 64 = .ok (.aload_n 0, 1) := by decide +kernel
theorem dX2_sendAll_65 : decode cX2_sendAll 65 = .ok (.getfield 40, 3) := by decide +kernel
theorem dX2_sendAll_68 : decode cX2_sendAll 68 = .ok (.aload_n 1, 1) := by decide +kernel
theorem dX2_sendAll_69 : decode cX2_sendAll 69 = .ok (.getfield 125, 3) := by decide +kernel
theorem dX2_sendAll_72 : decode cX2_sendAll 72 = .ok (.aload_n 1, 1) := by decide +kernel
theorem dX2_sendAll_73 : decode cX2_sendAll 73 = .ok (.getfield 164, 3) := by decide +kernel
theorem dX2_sendAll_76 : decode cX2_sendAll 76 = .ok (.iload 4, 2) := by decide +kernel
theorem dX2_sendAll_78 : decode cX2_sendAll 78 = .ok (.iaload, 1) := by decide +kernel
theorem dX2_sendAll_79 : decode cX2_sendAll 79 = .ok (.iload 6, 2) := by decide +kernel
theorem dX2_sendAll_81 : decode cX2_sendAll 81 = .ok (.aload_n 0, 1) := by decide +kernel
theorem dX2_sendAll_82 : decode cX2_sendAll 82 = .ok (.getfield 15, 3) := by decide +kernel
theorem dX2_sendAll_85 : decode cX2_sendAll 85 = .ok (.iload_n 2, 1) := by decide +kernel
theorem dX2_sendAll_86 : decode cX2_sendAll 86 = .ok (.iaload, 1) := by decide +kernel
theorem dX2_sendAll_87 : decode cX2_sendAll 87 = .ok (.invokevirtual 167, 3) := by decide +kernel
theorem dX2_sendAll_90 : decode cX2_sendAll 90 = .ok (.goto 25, 3) := by decide +kernel
theorem dX2_sendAll_93 : decode cX2_sendAll 93 = .ok (.aload_n 0, 1) := by decide +kernel
theorem dX2_sendAll_94 : decode cX2_sendAll 94 = .ok (.getfield 40, 3) := by decide +kernel
theorem dX2_sendAll_97 : decode cX2_sendAll 97 = .ok (.aload_n 1, 1) := by decide +kernel
theorem dX2_sendAll_98 : decode cX2_sendAll 98 = .ok (.getfield 164, 3) := by decide +kernel
theorem dX2_sendAll_101 : decode cX2_sendAll 101 = .ok (.iload 4, 2) := by decide +kernel
theorem dX2_sendAll_103 : decode cX2_sendAll 103 = .ok (.iaload, 1) := by decide +kernel
theorem dX2_sendAll_104 : decode cX2_sendAll 104 = .ok (.iload 6, 2) := by decide +kernel
theorem dX2_sendAll_106 : decode cX2_sendAll 106 = .ok (.aload_n 0, 1) := by decide +kernel
theorem dX2_sendAll_107 : decode cX2_sendAll 107 = .ok (.getfield 15, 3) := by decide +kernel
theorem dX2_sendAll_110 : decode cX2_sendAll 110 = .ok (.iload_n 2, 1) := by decide +kernel
theorem dX2_sendAll_111 : decode cX2_sendAll 111 = .ok (.iaload, 1) := by decide +kernel
theorem dX2_sendAll_112 : decode cX2_sendAll 112 = .ok (.invokevirtual 171, 3) := by decide +kernel
theorem dX2_sendAll_115 : decode cX2_sendAll 115 = .ok (.iinc 4 1, 3) := by decide +kernel
theorem dX2_sendAll_118 : decode cX2_sendAll 118 = .ok (.goto (-115), 3) := by decide +kernel
theorem dX2_sendAll_121 : decode cX2_sendAll 121 = .ok (.return_, 1) := by decide +kernel
theorem dX2_balance_0 : decode cX2_balance 0 = .ok (.aload_n 1, 1) := by decide +kernel
theorem dX2_balance_1 : decode cX2_balance 1 = .ok (.getfield 175, 3) := by decide +kernel
theorem dX2_balance_4 : decode cX2_balance 4 = .ok (.iconst 1, 1) := by decide +kernel
theorem dX2_balance_5 : decode cX2_balance 5 = .ok (.if_icmp .ge 6, 3) := by decide +kernel
theorem dX2_balance_8 : decode cX2_balance 8 = .ok (.bipush (-4), 2) := by decide +kernel
theorem dX2_balance_10 : decode cX2_balance 10 = .ok (.ireturn, 1) := by decide +kernel
theorem dX2_balance_11 : decode cX2_balance 11 = .ok (.iconst 0, 1) := by decide +kernel
theorem dX2_balance_12 : decode cX2_balance 12 = .ok (.istore_n 2, 1) := by decide +kernel
theorem dX2_balance_13 : decode cX2_balance 13 = .ok (.iconst 0, 1) := by decide +kernel
theorem dX2_balance_14 : decode cX2_balance 14 = .ok (.istore_n 3, 1) := by decide +kernel
theorem dX2_balance_15 : decode cX2_balance 15 = .ok (.iconst 1, 1) := by decide +kernel
theorem dX2_balance_16 : decode cX2_balance 16 = .ok (.istore 4, 2) := by decide +kernel
theorem dX2_balance_18 : decode cX2_balance 18 = .ok (.iload 4, 2) := by decide +kernel
theorem dX2_balance_20 : decode cX2_balance 20 = .ok (.aload_n 1, 1) := by decide +kernel
theorem dX2_balance_21 : decode cX2_balance 21 = .ok (.getfield 49, 3) := by decide +kernel
theorem dX2_balance_24 : decode cX2_balance 24 = .ok (.if_icmp .ge 55, 3) := by decide +kernel
theorem dX2_balance_27 : decode cX2_balance 27 = .ok (.aload_n 0, 1) := by decide +kernel
theorem dX2_balance_28 : decode cX2_balance 28 = .ok (.getfield 27, 3) := by decide +kernel
theorem dX2_balance_31 : decode cX2_balance 31 = .ok (.iload 4, 2) := by decide +kernel
theorem dX2_balance_33 : decode cX2_balance 33 = .ok (.iaload, 1) := by decide +kernel
theorem dX2_balance_34 : decode cX2_balance 34 = .ok (.aload_n 0, 1) := by decide +kernel
theorem dX2_balance_35 : decode cX2_balance 35 = .ok (.getfield 27, 3) := by decide +kernel
theorem dX2_balance_38 : decode cX2_balance 38 = .ok (.iload_n 2, 1) := by decide +kernel
theorem dX2_balance_39 : decode cX2_balance 39 = .ok (.iaload, 1) := by decide +kernel
theorem dX2_balance_40 : decode cX2_balance 40 = .ok (.if_icmp .le 8, 3) := by decide +kernel
theorem dX2_balance_43 : decode cX2_balance 43 = .ok (.iload 4, 2) := by decide +kernel
theorem dX2_balance_45 : decode cX2_balance 45 = .ok (.goto 4, 3) := by decide +kernel
theorem dX2_balance_48 : decode cX2_balance 48 = .ok (.iload_n 2, 1) := by decide +kernel
theorem dX2_balance_49 : decode cX2_balance 49 = .ok (.istore_n 2, 1) := by decide +kernel
theorem dX2_balance_50 : decode cX2_balance 50 = .ok (.aload_n 0, 1) := by decide +kernel
theorem dX2_balance_51 : decode cX2_balance 51 = .ok (.getfield 27, 3) := by decide +kernel
theorem dX2_balance_54 : decode cX2_balance 54 = .ok (.iload 4, 2) := by decide +kernel
theorem dX2_balance_56 : decode cX2_balance 56 = .ok (.iaload, 1) := by decide +kernel
theorem dX2_balance_57 : decode cX2_balance 57 = .ok (.aload_n 0, 1) := by decide +kernel
theorem dX2_balance_58 : decode cX2_balance 58 = .ok (.getfield 27, 3) := by decide +kernel
theorem dX2_balance_61 : decode cX2_balance 61 = .ok (.iload_n 3, 1) := by decide +kernel
theorem dX2_balance_62 : decode cX2_balance 62 = .ok (.iaload, 1) := by decide +kernel
theorem dX2_balance_63 : decode cX2_balance 63 = .ok (.if_icmp .ge 8, 3) := by decide +kernel
theorem dX2_balance_66 : decode cX2_balance 66 = .ok (.iload 4, 2) := by decide +kernel
theorem dX2_balance_68 : decode cX2_balance 68 = .ok (.goto 4, 3) := by decide +kernel
theorem dX2_balance_71 : decode cX2_balance 71 = .ok (.iload_n 3, 1) := by decide +kernel
theorem dX2_balance_72 : decode cX2_balance 72 = .ok (.istore_n 3, 1) := by decide +kernel
theorem dX2_balance_73 : decode cX2_balance 73 = .ok (.iinc 4 1, 3) := by decide +kernel
theorem dX2_balance_76 : decode cX2_balance 76 = .ok (.goto (-58), 3) := by decide +kernel
theorem dX2_balance_79 : decode cX2_balance 79 = .ok (.aload_n 0, 1) := by decide +kernel
theorem dX2_balance_80 : decode cX2_balance 80 = .ok (.getfield 27, 3) := by decide +kernel
theorem dX2_balance_83 : decode cX2_balance 83 = .ok (.iload_n 2, 1) := by decide +kernel
theorem dX2_balance_84 : decode cX2_balance 84 = .ok (.iaload, 1) := by decide +kernel
theorem dX2_balance_85 : decode cX2_balance 85 = .ok (.aload_n 0, 1) := by decide +kernel
theorem dX2_balance_86 : decode cX2_balance 86 = .ok (.getfield 27, 3) := by decide +kernel
theorem dX2_balance_89 : decode cX2_balance 89 = .ok (.iload_n 3, 1) := by decide +kernel
theorem dX2_balance_90 : decode cX2_balance 90 = .ok (.iaload, 1) := by decide +kernel
theorem dX2_balance_91 : decode cX2_balance 91 = .ok (.isub, 1) := by decide +kernel
theorem dX2_balance_92 : decode cX2_balance 92 = .ok (.istore 4, 2) := by decide +kernel
theorem dX2_balance_94 : decode cX2_balance 94 = .ok (.iload 4, 2) := by decide +kernel
theorem dX2_balance_96 : decode cX2_balance 96 = .ok (.aload_n 1, 1) := by decide +kernel
theorem dX2_balance_97 : decode cX2_balance 97 = .ok (.getfield 175, 3) := by decide +kernel
theorem dX2_balance_100 : decode cX2_balance 100 = .ok (.if_icmp .ge 6, 3) := by decide +kernel
theorem dX2_balance_103 : decode cX2_balance 103 = .ok (.bipush (-4), 2) := by decide +kernel
theorem dX2_balance_105 : decode cX2_balance 105 = .ok (.ireturn, 1) := by decide +kernel
theorem dX2_balance_106 : decode cX2_balance 106 = .ok (.aload_n 0, 1) := by decide +kernel
theorem dX2_balance_107 : decode cX2_balance 107 = .ok (.aload_n 1, 1) := by decide +kernel
theorem dX2_balance_108 : decode cX2_balance 108 = .ok (.getfield 95, 3) := by decide +kernel
theorem dX2_balance_111 : decode cX2_balance 111 = .ok (.iload_n 2, 1) := by decide +kernel
theorem dX2_balance_112 : decode cX2_balance 112 = .ok (.iload 4, 2) := by decide +kernel
theorem dX2_balance_114 : decode cX2_balance 114 = .ok (.invokevirtual 178, 3) := by decide +kernel
theorem dX2_balance_117 : decode cX2_balance 117 = .ok (.istore 5, 2) := by decide +kernel
theorem dX2_balance_119 : decode cX2_balance 119 = .ok (.iload 5, 2) := by decide +kernel
theorem dX2_balance_121 : decode cX2_balance 121 = .ok (.ifCond .lt 10, 3) := by decide +kernel
theorem dX2_balance_124 : decode cX2_balance 124 = .ok (.iload 5, 2) := by decide +kernel
theorem dX2_balance_126 : decode cX2_balance 126 = .ok (.bipush 12, 2) := by decide +kernel
theorem dX2_balance_128 : decode cX2_balance 128 = .ok (.if_icmp .lt 6, 3) := by decide +kernel
theorem dX2_balance_131 : decode cX2_balance 131 = .ok (.bipush (-4), 2) := by decide +kernel
theorem dX2_balance_133 : decode cX2_balance 133 = .ok (.ireturn, 1) := by decide +kernel
theorem dX2_balance_134 : decode cX2_balance 134 = .ok (.aload_n 0, 1) := by decide +kernel
theorem dX2_balance_135 : decode cX2_balance 135 = .ok (.getfield 15, 3) := by decide +kernel
theorem dX2_balance_138 : decode cX2_balance 138 = .ok (.iload 5, 2) := by decide +kernel
theorem dX2_balance_140 : decode cX2_balance 140 = .ok (.iload_n 3, 1) := by decide +kernel
theorem dX2_balance_141 : decode cX2_balance 141 = .ok (.iastore, 1) := by decide +kernel
theorem dX2_balance_142 : decode cX2_balance 142 = .ok (.aload_n 0, 1) := by decide +kernel
theorem dX2_balance_143 : decode cX2_balance 143 = .ok (.dup, 1) := by decide +kernel
theorem dX2_balance_144 : decode cX2_balance 144 = .ok (.getfield 71, 3) := by decide +kernel
theorem dX2_balance_147 : decode cX2_balance 147 = .ok (.iconst 1, 1) := by decide +kernel
theorem dX2_balance_148 : decode cX2_balance 148 = .ok (.iadd, 1) := by decide +kernel
theorem dX2_balance_149 : decode cX2_balance 149 = .ok (.putfield 71, 3) := by decide +kernel
theorem dX2_balance_152 : decode cX2_balance 152 = .ok (.iload 5, 2) := by decide +kernel
theorem dX2_balance_154 : decode cX2_balance 154 = .ok (.ireturn, 1) := by decide +kernel
theorem dX2_heaviestBelow_0 : decode cX2_heaviestBelow 0 = .ok (.bipush (-4), 2) := by decide +kernel
theorem dX2_heaviestBelow_2 : decode cX2_heaviestBelow 2 = .ok (.istore 4, 2) := by decide +kernel
theorem dX2_heaviestBelow_4 : decode cX2_heaviestBelow 4 = .ok (.iconst 0, 1) := by decide +kernel
theorem dX2_heaviestBelow_5 : decode cX2_heaviestBelow 5 = .ok (.istore 5, 2) := by decide +kernel
theorem dX2_heaviestBelow_7 : decode cX2_heaviestBelow 7 = .ok (.iconst 0, 1) := by decide +kernel
theorem dX2_heaviestBelow_8 : decode cX2_heaviestBelow 8 = .ok (.istore 6, 2) := by decide +kernel
theorem dX2_heaviestBelow_10 : decode cX2_heaviestBelow 10 = .ok (.iload 6, 2) := by decide +kernel
theorem dX2_heaviestBelow_12 : decode cX2_heaviestBelow 12 = .ok (.iload_n 1, 1) := by decide +kernel
theorem dX2_heaviestBelow_13 : decode cX2_heaviestBelow 13 = .ok (.if_icmp .ge 56, 3) := by decide +kernel
theorem dX2_heaviestBelow_16 : decode cX2_heaviestBelow 16 = .ok (.aload_n 0, 1) := by decide +kernel
theorem dX2_heaviestBelow_17 : decode cX2_heaviestBelow 17 = .ok (.getfield 15, 3) := by decide +kernel
theorem dX2_heaviestBelow_20 : decode cX2_heaviestBelow 20 = .ok (.iload 6, 2) := by decide +kernel
theorem dX2_heaviestBelow_22 : decode cX2_heaviestBelow 22 = .ok (.iaload, 1) := by decide +kernel
theorem dX2_heaviestBelow_23 : decode cX2_heaviestBelow 23 = .ok (.iload_n 2, 1) := by decide +kernel
theorem dX2_heaviestBelow_24 : decode cX2_heaviestBelow 24 = .ok (.if_icmp .ne 39, 3) := by decide +kernel
theorem dX2_heaviestBelow_27 : decode cX2_heaviestBelow 27 = .ok (.aload_n 0, 1) := by decide +kernel
theorem dX2_heaviestBelow_28 : decode cX2_heaviestBelow 28 = .ok (.getfield 24, 3) := by decide +kernel
theorem dX2_heaviestBelow_31 : decode cX2_heaviestBelow 31 = .ok (.iload 6, 2) := by decide +kernel
theorem dX2_heaviestBelow_33 : decode cX2_heaviestBelow 33 = .ok (.iaload, 1) := by decide +kernel
theorem dX2_heaviestBelow_34 : decode cX2_heaviestBelow 34 = .ok (.iload_n 3, 1) := by decide +kernel
theorem dX2_heaviestBelow_35 : decode cX2_heaviestBelow 35 = .ok (.if_icmp .ge 28, 3) := by decide +kernel
theorem dX2_heaviestBelow_38 : decode cX2_heaviestBelow 38 = .ok (.aload_n 0, 1) := by decide +kernel
theorem dX2_heaviestBelow_39 : decode cX2_heaviestBelow 39 = .ok (.getfield 24, 3) := by decide +kernel
theorem dX2_heaviestBelow_42 : decode cX2_heaviestBelow 42 = .ok (.iload 6, 2) := by decide +kernel
theorem dX2_heaviestBelow_44 : decode cX2_heaviestBelow 44 = .ok (.iaload, 1) := by decide +kernel
theorem dX2_heaviestBelow_45 : decode cX2_heaviestBelow 45 = .ok (.iload 5, 2) := by decide +kernel
theorem dX2_heaviestBelow_47 : decode cX2_heaviestBelow 47 = .ok (.if_icmp .le 16, 3) := by decide +kernel
theorem dX2_heaviestBelow_50 : decode cX2_heaviestBelow 50 = .ok (.iload 6, 2) := by decide +kernel
theorem dX2_heaviestBelow_52 : decode cX2_heaviestBelow 52 = .ok (.istore 4, 2) := by decide +kernel
theorem dX2_heaviestBelow_54 : decode cX2_heaviestBelow 54 = .ok (.aload_n 0, 1) := by decide +kernel
theorem dX2_heaviestBelow_55 : decode cX2_heaviestBelow 55 = .ok (.getfield 24, 3) := by decide +kernel
theorem dX2_heaviestBelow_58 : decode cX2_heaviestBelow 58 = .ok (.iload 6, 2) := by decide +kernel
theorem dX2_heaviestBelow_60 : decode cX2_heaviestBelow 60 = .ok (.iaload, 1) := by decide +kernel
theorem dX2_heaviestBelow_61 : decode cX2_heaviestBelow 61 = .ok (.istore 5, 2) := by decide +kernel
theorem dX2_heaviestBelow_63 : decode cX2_heaviestBelow 63 = .ok (.iinc 6 1, 3) := by decide +kernel
theorem dX2_heaviestBelow_66 : decode cX2_heaviestBelow 66 = .ok (.goto (-56), 3) := by decide +kernel
theorem dX2_heaviestBelow_69 : decode cX2_heaviestBelow 69 = .ok (.iload 4, 2) := by decide +kernel
theorem dX2_heaviestBelow_71 : decode cX2_heaviestBelow 71 = .ok (.ireturn, 1) := by decide +kernel
theorem dX3_init_0 : decode cX3_init 0 = .ok (.aload_n 0, 1) := by decide +kernel
theorem dX3_init_1 : decode cX3_init 1 = .ok (.invokespecial 3, 3) := by decide +kernel
theorem dX3_init_4 : decode cX3_init 4 = .ok (.aload_n 0, 1) := by decide +kernel
theorem dX3_init_5 : decode cX3_init 5 = .ok (.sipush 200, 3) := by decide +kernel
theorem dX3_init_8 : decode cX3_init 8 = .ok (.newarray .int, 2) := by decide +kernel
theorem dX3_init_10 : decode cX3_init 10 = .ok (.putfield 9, 3) := by decide +kernel
theorem dX3_init_13 : decode cX3_init 13 = .ok (.aload_n 0, 1) := by decide +kernel
theorem dX3_init_14 : decode cX3_init 14 = .ok (.iconst 3, 1) := by decide +kernel
theorem dX3_init_15 : decode cX3_init 15 = .ok (.newarray .int, 2) := by decide +kernel
theorem dX3_init_17 : decode cX3_init 17 = .ok (.putfield 15, 3) := by decide +kernel
theorem dX3_init_20 : decode cX3_init 20 = .ok (.return_, 1) := by decide +kernel
theorem dX3_append_0 : decode cX3_append 0 = .ok (.aload_n 0, 1) := by decide +kernel
theorem dX3_append_1 : decode cX3_append 1 = .ok (.getfield 18, 3) := by decide +kernel
theorem dX3_append_4 : decode cX3_append 4 = .ok (.ifCond .lt 13, 3) := by decide +kernel
theorem dX3_append_7 : decode cX3_append 7 = .ok (.aload_n 0, 1) := by decide +kernel
theorem dX3_append_8 : decode cX3_append 8 = .ok (.getfield 18, 3) := by decide +kernel
theorem dX3_append_11 : decode cX3_append 11 = .ok (.sipush 200, 3) := by decide +kernel
theorem dX3_append_14 : decode cX3_append 14 = .ok (.if_icmp .lt 5, 3) := by decide +kernel
theorem dX3_append_17 : decode cX3_append 17 = .ok (.iconst 0, 1) := by decide +kernel
theorem dX3_append_18 : decode cX3_append 18 = .ok (.ireturn, 1) := by decide +kernel
theorem dX3_append_19 : decode cX3_append 19 = .ok (.aload_n 0, 1) := by decide +kernel
theorem dX3_append_20 : decode cX3_append 20 = .ok (.getfield 9, 3) := by decide +kernel
theorem dX3_append_23 : decode cX3_append 23 = .ok (.aload_n 0, 1) := by decide +kernel
theorem dX3_append_24 : decode cX3_append 24 = .ok (.getfield 18, 3) := by decide +kernel
theorem dX3_append_27 : decode cX3_append 27 = .ok (.iload_n 1, 1) := by decide +kernel
theorem dX3_append_28 : decode cX3_append 28 = .ok (.iastore, 1) := by decide +kernel
theorem dX3_append_29 : decode cX3_append 29 = .ok (.aload_n 0, 1) := by decide +kernel
theorem dX3_append_30 : decode cX3_append 30 = .ok (.dup, 1) := by decide +kernel
theorem dX3_append_31 : decode cX3_append 31 = .ok (.getfield 18, 3) := by decide +kernel
theorem dX3_append_34 : decode cX3_append 34 = .ok (.iconst 1, 1) := by decide +kernel
theorem dX3_append_35 : decode cX3_append 35 = .ok (.iadd, 1) := by decide +kernel
theorem dX3_append_36 : decode cX3_append 36 = .ok (.putfield 18, 3) := by decide +kernel
theorem dX3_append_39 : decode cX3_append 39 = .ok (.iconst 1, 1) := by decide +kernel
theorem dX3_append_40 : decode cX3_append 40 = .ok (.ireturn, 1) := by decide +kernel
theorem dX3_firstFault_0 : decode cX3_firstFault 0 = .ok (.aload_n 1, 1) := by decide +kernel
theorem dX3_firstFault_1 : decode cX3_firstFault 1 = .ok (.invokevirtual 22, 3) := by decide +kernel
theorem dX3_firstFault_4 : decode cX3_firstFault 4 = .ok (.aload_n 0, 1) := by decide +kernel
theorem dX3_firstFault_5 : decode cX3_firstFault 5 = .ok (.iconst 0, 1) := by decide +kernel
theorem dX3_firstFault_6 : decode cX3_firstFault 6 = .ok (.putfield 27, 3) := by decide +kernel
theorem dX3_firstFault_9 : decode cX3_firstFault 9 = .ok (.iconst 0, 1) := by decide +kernel
theorem dX3_firstFault_10 : decode cX3_firstFault 10 = .ok (.istore_n 2, 1) := by decide +kernel
theorem dX3_firstFault_11 : decode cX3_firstFault 11 = .ok (.iload_n 2, 1) := by decide +kernel
theorem dX3_firstFault_12 : decode cX3_firstFault 12 = .ok (.sipush 200, 3) := by decide +kernel
theorem dX3_firstFault_15 : decode cX3_firstFault 15 = .ok (.if_icmp .ge 35, 3) := by decide +kernel
theorem dX3_firstFault_18 : decode cX3_firstFault 18 = .ok (.aload_n 0, 1) := by decide +kernel
theorem dX3_firstFault_19 : decode cX3_firstFault 19 = .ok (.getfield 27, 3) := by decide +kernel
theorem dX3_firstFault_22 : decode cX3_firstFault 22 = .ok (.aload_n 0, 1) := by decide +kernel
theorem dX3_firstFault_23 : decode cX3_firstFault 23 = .ok (.getfield 18, 3) := by decide +kernel
theorem dX3_firstFault_26 : decode cX3_firstFault 26 = .ok (.if_icmp .ge 24, 3) := by decide +kernel
theorem dX3_firstFault_29 : decode cX3_firstFault 29 = .ok (.aload_n 0, 1) := by decide +kernel
theorem dX3_firstFault_30 : decode cX3_firstFault 30 = .ok (.getfield 27, 3) := by decide +kernel
theorem dX3_firstFault_33 : decode cX3_firstFault 33 = .ok (.istore_n 3, 1) := by decide +kernel
theorem dX3_firstFault_34 : decode cX3_firstFault 34 = .ok (.aload_n 0, 1) := by decide +kernel
theorem dX3_firstFault_35 : decode cX3_firstFault 35 = .ok (.aload_n 1, 1) := by decide +kernel
theorem dX3_firstFault_36 : decode cX3_firstFault 36 = .ok (.invokevirtual 30, 3) := by decide +kernel
theorem dX3_firstFault_39 : decode cX3_firstFault 39 = .ok (.ifCond .ne 5, 3) := by decide +kernel
theorem dX3_firstFault_42 : decode cX3_firstFault 42 = .ok (.iload_n 3, 1) := by decide +kernel
theorem dX3_firstFault_43 : decode cX3_firstFault 43 = .ok (.ireturn, 1) := by decide +kernel
theorem dX3_firstFault_44 : decode cX3_firstFault 44 = .ok (.iinc 2 1, 3) := by decide +kernel
theorem dX3_firstFault_47 : decode cX3_firstFault 47 = .ok (.goto (-36), 3) := by decide +kernel
theorem dX3_firstFault_50 : decode cX3_firstFault 50 = .ok (.bipush (-4), 2) := by decide +kernel
theorem dX3_firstFault_52 : decode cX3_firstFault 52 = .ok (.ireturn, 1) := by decide +kernel
theorem dX3_readItem_0 : decode cX3_readItem 0 = .ok (.aload_n 0, 1) := by decide +kernel
theorem dX3_readItem_1 : decode cX3_readItem 1 = .ok (.aload_n 0, 1) := by decide +kernel
theorem dX3_readItem_2 : decode cX3_readItem 2 = .ok (.getfield 27, 3) := by decide +kernel
theorem dX3_readItem_5 : decode cX3_readItem 5 = .ok (.invokevirtual 34, 3) := by decide +kernel
theorem dX3_readItem_8 : decode cX3_readItem 8 = .ok (.istore_n 2, 1) := by decide +kernel
theorem dX3_readItem_9 : decode cX3_readItem 9 = .ok (.aload_n 0, 1) := by decide +kernel
theorem dX3_readItem_10 : decode cX3_readItem 10 = .ok (.dup, 1) := by decide +kernel
theorem dX3_readItem_11 : decode cX3_readItem 11 = .ok (.getfield 27, 3) := by decide +kernel
theorem dX3_readItem_14 : decode cX3_readItem 14 = .ok (.iconst 1, 1) := by decide +kernel
theorem dX3_readItem_15 : decode cX3_readItem 15 = .ok (.iadd, 1) := by decide +kernel
theorem dX3_readItem_16 : decode cX3_readItem 16 = .ok (.putfield 27, 3) := by decide +kernel
theorem dX3_readItem_19 : decode cX3_readItem 19 = .ok (.iload_n 2, 1) := by decide +kernel
theorem dX3_readItem_20 : decode cX3_readItem 20 = .ok (.lookupswitch 252 #[(99, 225), (107, 159), (108, 87), (110, 60), (118, 126), (119, 192)], 60) := by decide +kernel
theorem dX3_readItem_80 : decode cX3_readItem 80 = .ok (.aload_n 0, 1) := by decide +kernel
theorem dX3_readItem_81 : decode cX3_readItem 81 = .ok (.iconst 1, 1) := by decide +kernel
theorem dX3_readItem_82 : decode cX3_readItem 82 = .ok (.invokevirtual 38, 3) := by decide +kernel
theorem dX3_readItem_85 : decode cX3_readItem 85 = .ok (.ifCond .eq 20, 3) := by decide +kernel
theorem dX3_readItem_88 : decode cX3_readItem 88 = .ok (.aload_n 1, 1) := by decide +kernel
theorem dX3_readItem_89 : decode cX3_readItem 89 = .ok (.aload_n 0, 1) := by decide +kernel
theorem dX3_readItem_90 : decode cX3_readItem 90 = .ok (.getfield 15, 3) := by decide +kernel
theorem dX3_readItem_93 : decode cX3_readItem 93 = .ok (.iconst 0, 1) := by decide +kernel
theorem dX3_readItem_94 : decode cX3_readItem 94 = .ok (.iaload, 1) := by decide +kernel
theorem dX3_readItem_95 : decode cX3_readItem 95 = .ok (.invokevirtual 42, 3) := by decide +kernel
theorem dX3_readItem_98 : decode cX3_readItem 98 = .ok (.ifCond .eq 7, 3) := by decide +kernel
theorem dX3_readItem_101 : decode cX3_readItem 101 = .ok (.iconst 1, 1) := by decide +kernel
theorem dX3_readItem_102 : decode cX3_readItem 102 = .ok (.goto 4, 3) := by decide +kernel
theorem dX3_readItem_105 : decode cX3_readItem 105 = .ok (.iconst 0, 1) := by decide +kernel
theorem dX3_readItem_106 : decode cX3_readItem 106 = .ok (.ireturn, 1) := by decide +kernel
theorem dX3_readItem_107 : decode cX3_readItem 107 = .ok (.aload_n 0, 1) := by decide +kernel
theorem dX3_readItem_108 : decode cX3_readItem 108 = .ok (.iconst 3, 1) := by decide +kernel
theorem dX3_readItem_109 : decode cX3_readItem 109 = .ok (.invokevirtual 38, 3) := by decide +kernel
theorem dX3_readItem_112 : decode cX3_readItem 112 = .ok (.ifCond .eq 32, 3) := by decide +kernel
theorem dX3_readItem_115 : decode cX3_readItem 115 = .ok (.aload_n 1, 1) := by decide +kernel
theorem dX3_readItem_116 : decode cX3_readItem 116 = .ok (.aload_n 0, 1) := by decide +kernel
theorem dX3_readItem_117 : decode cX3_readItem 117 = .ok (.getfield 15, 3) := by decide +kernel
theorem dX3_readItem_120 : decode cX3_readItem 120 = .ok (.iconst 0, 1) := by decide +kernel
theorem dX3_readItem_121 : decode cX3_readItem 121 = .ok (.iaload, 1) := by decide +kernel
theorem dX3_readItem_122 : decode cX3_readItem 122 = .ok (.aload_n 0, 1) := by decide +kernel
theorem dX3_readItem_123 : decode cX3_readItem 123 = .ok (.getfield 15, 3) := by decide +kernel
theorem dX3_readItem_126 : decode cX3_readItem 126 = .ok (.iconst 1, 1) := by decide +kernel
theorem dX3_readItem_127 : decode cX3_readItem 127 = .ok (.iaload, 1) := by decide +kernel
theorem dX3_readItem_128 : decode cX3_readItem 128 = .ok (.aload_n 0, 1) := by decide +kernel
theorem dX3_readItem_129 : decode cX3_readItem 129 = .ok (.getfield 15, 3) := by decide +kernel
theorem dX3_readItem_132 : decode cX3_readItem 132 = .ok (.iconst 2, 1) := by decide +kernel
theorem dX3_readItem_133 : decode cX3_readItem 133 = .ok (.iaload, 1) := by decide +kernel
theorem dX3_readItem_134 : decode cX3_readItem 134 = .ok (.invokevirtual 45, 3) := by decide +kernel
theorem dX3_readItem_137 : decode cX3_readItem 137 = .ok (.ifCond .eq 7, 3) := by decide +kernel
theorem dX3_readItem_140 : decode cX3_readItem 140 = .ok (.iconst 1, 1) := by decide +kernel
theorem dX3_readItem_141 : decode cX3_readItem 141 = .ok (.goto 4, 3) := by decide +kernel
theorem dX3_readItem_144 : decode cX3_readItem 144 = .ok (.iconst 0, 1) := by decide +kernel
theorem dX3_readItem_145 : decode cX3_readItem 145 = .ok (.ireturn, 1) := by decide +kernel
theorem dX3_readItem_146 : decode cX3_readItem 146 = .ok (.aload_n 0, 1) := by decide +kernel
theorem dX3_readItem_147 : decode cX3_readItem 147 = .ok (.iconst 2, 1) := by decide +kernel
theorem dX3_readItem_148 : decode cX3_readItem 148 = .ok (.invokevirtual 38, 3) := by decide +kernel
theorem dX3_readItem_151 : decode cX3_readItem 151 = .ok (.ifCond .eq 26, 3) := by decide +kernel
theorem dX3_readItem_154 : decode cX3_readItem 154 = .ok (.aload_n 1, 1) := by decide +kernel
theorem dX3_readItem_155 : decode cX3_readItem 155 = .ok (.aload_n 0, 1) := by decide +kernel
theorem dX3_readItem_156 : decode cX3_readItem 156 = .ok (.getfield 15, 3) := by decide +kernel
theorem dX3_readItem_159 : decode cX3_readItem 159 = .ok (.iconst 0, 1) := by decide +kernel
theorem dX3_readItem_160 : decode cX3_readItem 160 = .ok (.iaload, 1) := by decide +kernel
theorem dX3_readItem_161 : decode cX3_readItem 161 = .ok (.aload_n 0, 1) := by decide +kernel
theorem dX3_readItem_162 : decode cX3_readItem 162 = .ok (.getfield 15, 3) := by decide +kernel
theorem dX3_readItem_165 : decode cX3_readItem 165 = .ok (.iconst 1, 1) := by decide +kernel
theorem dX3_readItem_166 : decode cX3_readItem 166 = .ok (.iaload, 1) := by decide +kernel
theorem dX3_readItem_167 : decode cX3_readItem 167 = .ok (.invokevirtual 49, 3) := by decide +kernel
theorem dX3_readItem_170 : decode cX3_readItem 170 = .ok (.ifCond .eq 7, 3) := by decide +kernel
theorem dX3_readItem_173 : decode cX3_readItem 173 = .ok (.iconst 1, 1) := by decide +kernel
theorem dX3_readItem_174 : decode cX3_readItem 174 = .ok (.goto 4, 3) := by decide +kernel
theorem dX3_readItem_177 : decode cX3_readItem 177 = .ok (.iconst 0, 1) := by decide +kernel
theorem dX3_readItem_178 : decode cX3_readItem 178 = .ok (.ireturn, 1) := by decide +kernel
theorem dX3_readItem_179 : decode cX3_readItem 179 = .ok (.aload_n 0, 1) := by decide +kernel
theorem dX3_readItem_180 : decode cX3_readItem 180 = .ok (.iconst 2, 1) := by decide +kernel
theorem dX3_readItem_181 : decode cX3_readItem 181 = .ok (.invokevirtual 38, 3) := by decide +kernel
theorem dX3_readItem_184 : decode cX3_readItem 184 = .ok (.ifCond .eq 26, 3) := by decide +kernel
theorem dX3_readItem_187 : decode cX3_readItem 187 = .ok (.aload_n 1, 1) := by decide +kernel
theorem dX3_readItem_188 : decode cX3_readItem 188 = .ok (.aload_n 0, 1) := by decide +kernel
theorem dX3_readItem_189 : decode cX3_readItem 189 = .ok (.getfield 15, 3) := by decide +kernel
theorem dX3_readItem_192 : decode cX3_readItem 192 = .ok (.iconst 0, 1) := by decide +kernel
theorem dX3_readItem_193 : decode cX3_readItem 193 = .ok (.iaload, 1) := by decide +kernel
theorem dX3_readItem_194 : decode cX3_readItem 194 = .ok (.aload_n 0, 1) := by decide +kernel
theorem dX3_readItem_195 : decode cX3_readItem 195 = .ok (.getfield 15, 3) := by decide +kernel
theorem dX3_readItem_198 : decode cX3_readItem 198 = .ok (.iconst 1, 1) := by decide +kernel
theorem dX3_readItem_199 : decode cX3_readItem 199 = .ok (.iaload, 1) := by decide +kernel
theorem dX3_readItem_200 : decode cX3_readItem 200 = .ok (.invokevirtual 53, 3) := by decide +kernel
theorem dX3_readItem_203 : decode cX3_readItem 203 = .ok (.ifCond .eq 7, 3) := by decide +kernel
theorem dX3_readItem_206 : decode cX3_readItem 206 = .ok (.iconst 1, 1) := by decide +kernel
theorem dX3_readItem_207 : decode cX3_readItem 207 = .ok (.goto 4, 3) := by decide +kernel
theorem dX3_readItem_210 : decode cX3_readItem 210 = .ok (.iconst 0, 1) := by decide +kernel
theorem dX3_readItem_211 : decode cX3_readItem 211 = .ok (.ireturn, 1) := by decide +kernel
theorem dX3_readItem_212 : decode cX3_readItem 212 = .ok (.aload_n 0, 1) := by decide +kernel
theorem dX3_readItem_213 : decode cX3_readItem 213 = .ok (.iconst 2, 1) := by decide +kernel
theorem dX3_readItem_214 : decode cX3_readItem 214 = .ok (.invokevirtual 38, 3) := by decide +kernel
theorem dX3_readItem_217 : decode cX3_readItem 217 = .ok (.ifCond .eq 26, 3) := by decide +kernel
theorem dX3_readItem_220 : decode cX3_readItem 220 = .ok (.aload_n 1, 1) := by decide +kernel
theorem dX3_readItem_221 : decode cX3_readItem 221 = .ok (.aload_n 0, 1) := by decide +kernel
theorem dX3_readItem_222 : decode cX3_readItem 222 = .ok (.getfield 15, 3) := by decide +kernel
theorem dX3_readItem_225 : decode cX3_readItem 225 = .ok (.iconst 0, 1) := by decide +kernel
theorem dX3_readItem_226 : decode cX3_readItem 226 = .ok (.iaload, 1) := by decide +kernel
theorem dX3_readItem_227 : decode cX3_readItem 227 = .ok (.aload_n 0, 1) := by decide +kernel
theorem dX3_readItem_228 : decode cX3_readItem 228 = .ok (.getfield 15, 3) := by decide +kernel
theorem dX3_readItem_231 : decode cX3_readItem 231 = .ok (.iconst 1, 1) := by decide +kernel
theorem dX3_readItem_232 : decode cX3_readItem 232 = .ok (.iaload, 1) := by decide +kernel
theorem dX3_readItem_233 : decode cX3_readItem 233 = .ok (.invokevirtual 56, 3) := by decide +kernel
theorem dX3_readItem_236 : decode cX3_readItem 236 = .ok (.ifCond .eq 7, 3) := by decide +kernel
theorem dX3_readItem_239 : decode cX3_readItem 239 = .ok (.iconst 1, 1) := by decide +kernel
theorem dX3_readItem_240 : decode cX3_readItem 240 = .ok (.goto 4, 3) := by decide +kernel
theorem dX3_readItem_243 : decode cX3_readItem 243 = .ok (.iconst 0, 1) := by decide +kernel
theorem dX3_readItem_244 : decode cX3_readItem 244 = .ok (.ireturn, 1) := by decide +kernel
theorem dX3_readItem_245 : decode cX3_readItem 245 = .ok (.aload_n 0, 1) := by decide +kernel
theorem dX3_readItem_246 : decode cX3_readItem 246 = .ok (.iconst 1, 1) := by decide +kernel
theorem dX3_readItem_247 : decode cX3_readItem 247 = .ok (.invokevirtual 38, 3) := by decide +kernel
theorem dX3_readItem_250 : decode cX3_readItem 250 = .ok (.ifCond .eq 20, 3) := by decide +kernel
theorem dX3_readItem_253 : decode cX3_readItem 253 = .ok (.aload_n 1, 1) := by decide +kernel
theorem dX3_readItem_254 : decode cX3_readItem 254 = .ok (.aload_n 0, 1) := by decide +kernel
theorem dX3_readItem_255 : decode cX3_readItem 255 = .ok (.getfield 15, 3) := by decide +kernel
theorem dX3_readItem_258 : decode cX3_readItem 258 = .ok (.iconst 0, 1) := by decide +kernel
theorem dX3_readItem_259 : decode cX3_readItem 259 = .ok (.iaload, 1) := by decide +kernel
theorem dX3_readItem_260 : decode cX3_readItem 260 = .ok (.invokevirtual 59, 3) := by decide +kernel
theorem dX3_readItem_263 : decode cX3_readItem 263 = .ok (.ifCond .eq 7, 3) := by decide +kernel
theorem dX3_readItem_266 : decode cX3_readItem 266 = .ok (.iconst 1, 1) := by decide +kernel
theorem dX3_readItem_267 : decode cX3_readItem 267 = .ok (.goto 4, 3) := by decide +kernel
theorem dX3_readItem_270 : decode cX3_readItem 270 = .ok (.iconst 0, 1) := by decide +kernel
theorem dX3_readItem_271 : decode cX3_readItem 271 = .ok (.ireturn, 1) := by decide +kernel
theorem dX3_readItem_272 : decode cX3_readItem 272 = .ok (.iconst 0, 1) := by decide +kernel
theorem dX3_readItem_273 : decode cX3_readItem 273 = .ok (.ireturn, 1) := by decide +kernel
theorem dX3_readNumbers_0 : decode cX3_readNumbers 0 = .ok (.iconst 0, 1) := by decide +kernel
theorem dX3_readNumbers_1 : decode cX3_readNumbers 1 = .ok (.istore_n 2, 1) := by decide +kernel
theorem dX3_readNumbers_2 : decode cX3_readNumbers 2 = .ok (.iload_n 2, 1) := by decide +kernel
theorem dX3_readNumbers_3 : decode cX3_readNumbers 3 = .ok (.iload_n 1, 1) := by decide +kernel
theorem dX3_readNumbers_4 : decode cX3_readNumbers 4 = .ok (.if_icmp .ge 71, 3) := by decide +kernel
theorem dX3_readNumbers_7 : decode cX3_readNumbers 7 = .ok (.iload_n 2, 1) := by decide +kernel
theorem dX3_readNumbers_8 : decode cX3_readNumbers 8 = .ok (.aload_n 0, 1) := by decide +kernel
theorem dX3_readNumbers_9 : decode cX3_readNumbers 9 = .ok (.getfield 15, 3) := by decide +kernel
theorem dX3_readNumbers_12 : decode cX3_readNumbers 12 = .ok (.arraylength, 1) := by decide +kernel
theorem dX3_readNumbers_13 : decode cX3_readNumbers 13 = .ok (.if_icmp .ge 62, 3) := by decide +kernel
theorem dX3_readNumbers_16 : decode cX3_readNumbers 16 = .ok (.aload_n 0, 1) := by decide +kernel
theorem dX3_readNumbers_17 : decode cX3_readNumbers 17 = .ok (.invokevirtual 62, 3) := by decide +kernel
theorem dX3_readNumbers_20 : decode cX3_readNumbers 20 = .ok (.istore_n 3, 1) := by decide +kernel
theorem dX3_readNumbers_21 : decode cX3_readNumbers 21 = .ok (.iload_n 3, 1) := by decide +kernel
theorem dX3_readNumbers_22 : decode cX3_readNumbers 22 = .ok (.ifCond .lt 28, 3) := by decide +kernel
theorem dX3_readNumbers_25 : decode cX3_readNumbers 25 = .ok (.aload_n 0, 1) := by decide +kernel
theorem dX3_readNumbers_26 : decode cX3_readNumbers 26 = .ok (.aload_n 0, 1) := by decide +kernel
theorem dX3_readNumbers_27 : decode cX3_readNumbers 27 = .ok (.getfield 27, 3) := by decide +kernel
theorem dX3_readNumbers_30 : decode cX3_readNumbers 30 = .ok (.invokevirtual 34, 3) := by decide +kernel
theorem dX3_readNumbers_33 : decode cX3_readNumbers 33 = .ok (.iload_n 2, 1) := by decide +kernel
theorem dX3_readNumbers_34 : decode cX3_readNumbers 34 = .ok (.iload_n 1, 1) := by decide +kernel
theorem dX3_readNumbers_35 : decode cX3_readNumbers 35 = .ok (.iconst 1, 1) := by decide +kernel
theorem dX3_readNumbers_36 : decode cX3_readNumbers 36 = .ok (.isub, 1) := by decide +kernel
theorem dX3_readNumbers_37 : decode cX3_readNumbers 37 = .ok (.if_icmp .ne 8, 3) := by decide +kernel
theorem dX3_readNumbers_40 : decode cX3_readNumbers 40 = .ok (.bipush 59, 2) := by decide +kernel
theorem dX3_readNumbers_42 : decode cX3_readNumbers 42 = .ok (.goto 5, 3) := by decide +kernel
theorem dX3_readNumbers_45 : decode cX3_readNumbers 45 = .ok (.bipush 44, 2) := by decide +kernel
theorem dX3_readNumbers_47 : decode cX3_readNumbers 47 = .ok (.if_icmp .eq 5, 3) := by decide +kernel
theorem dX3_readNumbers_50 : decode cX3_readNumbers 50 = .ok (.iconst 0, 1) := by decide +kernel
theorem dX3_readNumbers_51 : decode cX3_readNumbers 51 = .ok (.ireturn, 1) := by decide +kernel
theorem dX3_readNumbers_52 : decode cX3_readNumbers 52 = .ok (.aload_n 0, 1) := by decide +kernel
theorem dX3_readNumbers_53 : decode cX3_readNumbers 53 = .ok (.getfield 15, 3) := by decide +kernel
theorem dX3_readNumbers_56 : decode cX3_readNumbers 56 = .ok (.iload_n 2, 1) := by decide +kernel
theorem dX3_readNumbers_57 : decode cX3_readNumbers 57 = .ok (.iload_n 3, 1) := by decide +kernel
theorem dX3_readNumbers_58 : decode cX3_readNumbers 58 = .ok (.iastore, 1) := by decide +kernel
theorem dX3_readNumbers_59 : decode cX3_readNumbers 59 = .ok (.aload_n 0, 1) := by decide +kernel
theorem dX3_readNumbers_60 : decode cX3_readNumbers 60 = .ok (.dup, 1) := by decide +kernel
theorem dX3_readNumbers_61 : decode cX3_readNumbers 61 = .ok (.getfield 27, 3) := by decide +kernel
theorem dX3_readNumbers_64 : decode cX3_readNumbers 64 = .ok (.iconst 1, 1) := by decide +kernel
theorem dX3_readNumbers_65 : decode cX3_readNumbers 65 = .ok (.iadd, 1) := by decide +kernel
theorem dX3_readNumbers_66 : decode cX3_readNumbers 66 = .ok (.putfield 27, 3) := by decide +kernel
theorem dX3_readNumbers_69 : decode cX3_readNumbers 69 = .ok (.iinc 2 1, 3) := by decide +kernel
theorem dX3_readNumbers_72 : decode cX3_readNumbers 72 = .ok (.goto (-70), 3) := by decide +kernel
theorem dX3_readNumbers_75 : decode cX3_readNumbers 75 = .ok (.iconst 1, 1) := by decide +kernel
theorem dX3_readNumbers_76 : decode cX3_readNumbers 76 = .ok (.ireturn, 1) := by decide +kernel
theorem dX3_readNumber_0 : decode cX3_readNumber 0 = .ok (.iconst 0, 1) := by decide +kernel
theorem dX3_readNumber_1 : decode cX3_readNumber 1 = .ok (.istore_n 1, 1) := by decide +kernel
theorem dX3_readNumber_2 : decode cX3_readNumber 2 = .ok (.iconst 0, 1) := by decide +kernel
theorem dX3_readNumber_3 : decode cX3_readNumber 3 = .ok (.istore_n 2, 1) := by decide +kernel
theorem dX3_readNumber_4 : decode cX3_readNumber 4 = .ok (.iload_n 2, 1) := by decide +kernel
theorem dX3_readNumber_5 : decode cX3_readNumber 5 = .ok (.iconst 3, 1) := by decide +kernel
theorem dX3_readNumber_6 : decode cX3_readNumber 6 = .ok (.if_icmp .ge 51, 3) := by decide +kernel
theorem dX3_readNumber_9 : decode cX3_readNumber 9 = .ok (.aload_n 0, 1) := by decide +kernel
theorem dX3_readNumber_10 : decode cX3_readNumber 10 = .ok (.aload_n 0, 1) := by decide +kernel
theorem dX3_readNumber_11 : decode cX3_readNumber 11 = .ok (.aload_n 0, 1) := by decide +kernel
theorem dX3_readNumber_12 : decode cX3_readNumber 12 = .ok (.getfield 27, 3) := by decide +kernel
theorem dX3_readNumber_15 : decode cX3_readNumber 15 = .ok (.invokevirtual 34, 3) := by decide +kernel
theorem dX3_readNumber_18 : decode cX3_readNumber 18 = .ok (.invokevirtual 66, 3) := by decide +kernel
theorem dX3_readNumber_21 : decode cX3_readNumber 21 = .ok (.ifCond .eq 36, 3) := by decide +kernel
theorem dX3_readNumber_24 : decode cX3_readNumber 24 = .ok (.bipush 10, 2) := by decide +kernel
theorem dX3_readNumber_26 : decode cX3_readNumber 26 = .ok (.iload_n 1, 1) := by decide +kernel
theorem dX3_readNumber_27 : decode cX3_readNumber 27 = .ok (.imul, 1) := by decide +kernel
theorem dX3_readNumber_28 : decode cX3_readNumber 28 = .ok (.aload_n 0, 1) := by decide +kernel
theorem dX3_readNumber_29 : decode cX3_readNumber 29 = .ok (.aload_n 0, 1) := by decide +kernel
theorem dX3_readNumber_30 : decode cX3_readNumber 30 = .ok (.getfield 27, 3) := by decide +kernel
theorem dX3_readNumber_33 : decode cX3_readNumber 33 = .ok (.invokevirtual 34, 3) := by decide +kernel
theorem dX3_readNumber_36 : decode cX3_readNumber 36 = .ok (.iadd, 1) := by decide +kernel
theorem dX3_readNumber_37 : decode cX3_readNumber 37 = .ok (.bipush 48, 2) := by decide +kernel
theorem dX3_readNumber_39 : decode cX3_readNumber 39 = .ok (.isub, 1) := by decide +kernel
theorem dX3_readNumber_40 : decode cX3_readNumber 40 = .ok (.istore_n 1, 1) := by decide +kernel
theorem dX3_readNumber_41 : decode cX3_readNumber 41 = .ok (.iinc 2 1, 3) := by decide +kernel
theorem dX3_readNumber_44 : decode cX3_readNumber 44 = .ok (.aload_n 0, 1) := by decide +kernel
theorem dX3_readNumber_45 : decode cX3_readNumber 45 = .ok (.dup, 1) := by decide +kernel
theorem dX3_readNumber_46 : decode cX3_readNumber 46 = .ok (.getfield 27, 3) := by decide +kernel
theorem dX3_readNumber_49 : decode cX3_readNumber 49 = .ok (.iconst 1, 1) := by decide +kernel
theorem dX3_readNumber_50 : decode cX3_readNumber 50 = .ok (.iadd, 1) := by decide +kernel
theorem dX3_readNumber_51 : decode cX3_readNumber 51 = .ok (.putfield 27, 3) := by decide +kernel
theorem dX3_readNumber_54 : decode cX3_readNumber 54 = .ok (.goto (-50), 3) := by decide +kernel
theorem dX3_readNumber_57 : decode cX3_readNumber 57 = .ok (.iload_n 2, 1) := by decide +kernel
theorem dX3_readNumber_58 : decode cX3_readNumber 58 = .ok (.ifCond .ne 8, 3) := by decide +kernel
theorem dX3_readNumber_61 : decode cX3_readNumber 61 = .ok (.bipush (-4), 2) := by decide +kernel
theorem dX3_readNumber_63 : decode cX3_readNumber 63 = .ok (.goto 4, 3) := by decide +kernel
theorem dX3_readNumber_66 : decode cX3_readNumber 66 = .ok (.iload_n 1, 1) := by decide +kernel
theorem dX3_readNumber_67 : decode cX3_readNumber 67 = .ok (.ireturn, 1) := by decide +kernel
theorem dX3_isFigure_0 : decode cX3_isFigure 0 = .ok (.iload_n 1, 1) := by decide +kernel
theorem dX3_isFigure_1 : decode cX3_isFigure 1 = .ok (.bipush 48, 2) := by decide +kernel
theorem dX3_isFigure_3 : decode cX3_isFigure 3 = .ok (.if_icmp .lt 13, 3) := by decide +kernel
theorem dX3_isFigure_6 : decode cX3_isFigure 6 = .ok (.iload_n 1, 1) := by decide +kernel
theorem dX3_isFigure_7 : decode cX3_isFigure 7 = .ok (.bipush 57, 2) := by decide +kernel
theorem dX3_isFigure_9 : decode cX3_isFigure 9 = .ok (.if_icmp .gt 7, 3) := by decide +kernel
theorem dX3_isFigure_12 : decode cX3_isFigure 12 = .ok (.iconst 1, 1) := by decide +kernel
theorem dX3_isFigure_13 : decode cX3_isFigure 13 = .ok (.goto 4, 3) := by decide +kernel
theorem dX3_isFigure_16 : decode cX3_isFigure 16 = .ok (.iconst 0, 1) := by decide +kernel
theorem dX3_isFigure_17 : decode cX3_isFigure 17 = .ok (.ireturn, 1) := by decide +kernel
theorem dX3_letterAt_0 : decode cX3_letterAt 0 = .ok (.iload_n 1, 1) := by decide +kernel
theorem dX3_letterAt_1 : decode cX3_letterAt 1 = .ok (.ifCond .lt 27, 3) := by decide +kernel
theorem dX3_letterAt_4 : decode cX3_letterAt 4 = .ok (.iload_n 1, 1) := by decide +kernel
theorem dX3_letterAt_5 : decode cX3_letterAt 5 = .ok (.aload_n 0, 1) := by decide +kernel
theorem dX3_letterAt_6 : decode cX3_letterAt 6 = .ok (.getfield 18, 3) := by decide +kernel
theorem dX3_letterAt_9 : decode cX3_letterAt 9 = .ok (.if_icmp .ge 19, 3) := by decide +kernel
theorem dX3_letterAt_12 : decode cX3_letterAt 12 = .ok (.iload_n 1, 1) := by decide +kernel
theorem dX3_letterAt_13 : decode cX3_letterAt 13 = .ok (.sipush 200, 3) := by decide +kernel
theorem dX3_letterAt_16 : decode cX3_letterAt 16 = .ok (.if_icmp .ge 12, 3) := by decide +kernel
theorem dX3_letterAt_19 : decode cX3_letterAt 19 = .ok (.aload_n 0, 1) := by decide +kernel
theorem dX3_letterAt_20 : decode cX3_letterAt 20 = .ok (.getfield 9, 3) := by decide +kernel
theorem dX3_letterAt_23 : decode cX3_letterAt 23 = .ok (.iload_n 1, 1) := by decide +kernel
theorem dX3_letterAt_24 : decode cX3_letterAt 24 = .ok (.iaload, 1) := by decide +kernel
theorem dX3_letterAt_25 : decode cX3_letterAt 25 = .ok (.goto 5, 3) := by decide +kernel
theorem dX3_letterAt_28 : decode cX3_letterAt 28 = .ok (.bipush (-4), 2) := by decide +kernel
theorem dX3_letterAt_30 : decode cX3_letterAt 30 = .ok (.ireturn, 1) := by decide +kernel
theorem dX4_init_0 : decode cX4_init 0 = .ok (.aload_n 0, 1) := by decide +kernel
theorem dX4_init_1 : decode cX4_init 1 = .ok (.invokespecial 1, 3) := by decide +kernel
theorem dX4_init_4 : decode cX4_init 4 = .ok (.aload_n 0, 1) := by decide +kernel
theorem dX4_init_5 : decode cX4_init 5 = .ok (.new 7, 3) := by decide +kernel
theorem dX4_init_8 : decode cX4_init 8 = .ok (.dup, 1) := by decide +kernel
theorem dX4_init_9 : decode cX4_init 9 = .ok (.invokespecial 9, 3) := by decide +kernel
theorem dX4_init_12 : decode cX4_init 12 = .ok (.putfield 10, 3) := by decide +kernel
theorem dX4_init_15 : decode cX4_init 15 = .ok (.aload_n 0, 1) := by decide +kernel
theorem dX4_init_16 : decode cX4_init 16 = .ok (.new 16, 3) := by decide +kernel
theorem dX4_init_19 : decode cX4_init 19 = .ok (.dup, 1) := by decide +kernel
theorem dX4_init_20 : decode cX4_init 20 = .ok (.invokespecial 18, 3) := by decide +kernel
theorem dX4_init_23 : decode cX4_init 23 = .ok (.putfield 19, 3) := by decide +kernel
theorem dX4_init_26 : decode cX4_init 26 = .ok (.aload_n 0, 1) := by decide +kernel
theorem dX4_init_27 : decode cX4_init 27 = .ok (.new 16, 3) := by decide +kernel
theorem dX4_init_30 : decode cX4_init 30 = .ok (.dup, 1) := by decide +kernel
theorem dX4_init_31 : decode cX4_init 31 = .ok (.invokespecial 18, 3) := by decide +kernel
theorem dX4_init_34 : decode cX4_init 34 = .ok (.putfield 23, 3) := by decide +kernel
theorem dX4_init_37 : decode cX4_init 37 = .ok (.aload_n 0, 1) := by decide +kernel
theorem dX4_init_38 : decode cX4_init 38 = .ok (.new 26, 3) := by decide +kernel
theorem dX4_init_41 : decode cX4_init 41 = .ok (.dup, 1) := by decide +kernel
theorem dX4_init_42 : decode cX4_init 42 = .ok (.invokespecial 28, 3) := by decide +kernel
theorem dX4_init_45 : decode cX4_init 45 = .ok (.putfield 29, 3) := by decide +kernel
theorem dX4_init_48 : decode cX4_init 48 = .ok (.aload_n 0, 1) := by decide +kernel
theorem dX4_init_49 : decode cX4_init 49 = .ok (.new 26, 3) := by decide +kernel
theorem dX4_init_52 : decode cX4_init 52 = .ok (.dup, 1) := by decide +kernel
theorem dX4_init_53 : decode cX4_init 53 = .ok (.invokespecial 28, 3) := by decide +kernel
theorem dX4_init_56 : decode cX4_init 56 = .ok (.putfield 33, 3) := by decide +kernel
theorem dX4_init_59 : decode cX4_init 59 = .ok (.aload_n 0, 1) := by decide +kernel
theorem dX4_init_60 : decode cX4_init 60 = .ok (.iconst 4, 1) := by decide +kernel
theorem dX4_init_61 : decode cX4_init 61 = .ok (.anewarray 26, 3) := by decide +kernel
theorem dX4_init_64 : decode cX4_init 64 = .ok (.putfield 36, 3) := by decide +kernel
theorem dX4_init_67 : decode cX4_init 67 = .ok (.iconst 0, 1) := by decide +kernel
theorem dX4_init_68 : decode cX4_init 68 = .ok (.istore_n 1, 1) := by decide +kernel
theorem dX4_init_69 : decode cX4_init 69 = .ok (.iload_n 1, 1) := by decide +kernel
theorem dX4_init_70 : decode cX4_init 70 = .ok (.iconst 4, 1) := by decide +kernel
theorem dX4_init_71 : decode cX4_init 71 = .ok (.if_icmp .ge 22, 3) := by decide +kernel
theorem dX4_init_74 : decode cX4_init 74 = .ok (.aload_n 0, 1) := by decide +kernel
theorem dX4_init_75 : decode cX4_init 75 = .ok (.getfield 36, 3) := by decide +kernel
theorem dX4_init_78 : decode cX4_init 78 = .ok (.iload_n 1, 1) := by decide +kernel
theorem dX4_init_79 : decode cX4_init 79 = .ok (.new 26, 3) := by decide +kernel
theorem dX4_init_82 : decode cX4_init 82 = .ok (.dup, 1) := by decide +kernel
theorem dX4_init_83 : decode cX4_init 83 = .ok (.invokespecial 28, 3) := by decide +kernel
theorem dX4_init_86 : decode cX4_init 86 = .ok (.aastore, 1) := by decide +kernel
theorem dX4_init_87 : decode cX4_init 87 = .ok (.iinc 1 1, 3) := by decide +kernel
theorem dX4_init_90 : decode cX4_init 90 = .ok (.goto (-21), 3) := by decide +kernel
theorem dX4_init_93 : decode cX4_init 93 = .ok (.iconst 0, 1) := by decide +kernel
theorem dX4_init_94 : decode cX4_init 94 = .ok (.istore_n 1, 1) := by decide +kernel
theorem dX4_init_95 : decode cX4_init 95 = .ok (.iload_n 1, 1) := by decide +kernel
theorem dX4_init_96 : decode cX4_init 96 = .ok (.ldc 40, 2) := by decide +kernel
theorem dX4_init_98 : decode cX4_init 98 = .ok (.invokevirtual 42, 3) := by decide +kernel
theorem dX4_init_101 : decode cX4_init 101 = .ok (.if_icmp .ge 23, 3) := by decide +kernel
theorem dX4_init_104 : decode cX4_init 104 = .ok (.aload_n 0, 1) := by decide +kernel
theorem dX4_init_105 : decode cX4_init 105 = .ok (.getfield 10, 3) := by decide +kernel
theorem dX4_init_108 : decode cX4_init 108 = .ok (.ldc 40, 2) := by decide +kernel
theorem dX4_init_110 : decode cX4_init 110 = .ok (.iload_n 1, 1) := by decide +kernel
theorem dX4_init_111 : decode cX4_init 111 = .ok (.invokevirtual 48, 3) := by decide +kernel
theorem dX4_init_114 : decode cX4_init 114 = .ok (.invokevirtual 52, 3) := by decide +kernel
theorem dX4_init_117 : decode cX4_init 117 = .ok (.pop, 1) := by decide +kernel
theorem dX4_init_118 : decode cX4_init 118 = .ok (.iinc 1 1, 3) := by decide +kernel
theorem dX4_init_121 : decode cX4_init 121 = .ok (.goto (-26), 3) := by decide +kernel
theorem dX4_init_124 : decode cX4_init 124 = .ok (.aload_n 0, 1) := by decide +kernel
theorem dX4_init_125 : decode cX4_init 125 = .ok (.getfield 10, 3) := by decide +kernel
theorem dX4_init_128 : decode cX4_init 128 = .ok (.aload_n 0, 1) := by decide +kernel
theorem dX4_init_129 : decode cX4_init 129 = .ok (.getfield 23, 3) := by decide +kernel
theorem dX4_init_132 : decode cX4_init 132 = .ok (.invokevirtual 56, 3) := by decide +kernel
theorem dX4_init_135 : decode cX4_init 135 = .ok (.bipush (-4), 2) := by decide +kernel
theorem dX4_init_137 : decode cX4_init 137 = .ok (.if_icmp .ne 7, 3) := by decide +kernel
theorem dX4_init_140 : decode cX4_init 140 = .ok (.aload_n 0, 1) := by decide +kernel
theorem dX4_init_141 : decode cX4_init 141 = .ok (.invokevirtual 60, 3) := by decide +kernel
theorem dX4_init_144 : decode cX4_init 144 = .ok (.aload_n 0, 1) := by decide +kernel
theorem dX4_init_145 : decode cX4_init 145 = .ok (.getfield 10, 3) := by decide +kernel
theorem dX4_init_148 : decode cX4_init 148 = .ok (.iconst 0, 1) := by decide +kernel
theorem dX4_init_149 : decode cX4_init 149 = .ok (.putfield 63, 3) := by decide +kernel
theorem dX4_init_152 : decode cX4_init 152 = .ok (.return_, 1) := by decide +kernel
theorem dX4_write_0 : decode cX4_write 0 = .ok (.iload_n 1, 1) := by decide +kernel
theorem dX4_write_1 : decode cX4_write 1 = .ok (.bipush 32, 2) := by decide +kernel
theorem dX4_write_3 : decode cX4_write 3 = .ok (.if_icmp .lt 9, 3) := by decide +kernel
theorem dX4_write_6 : decode cX4_write 6 = .ok (.iload_n 1, 1) := by decide +kernel
theorem dX4_write_7 : decode cX4_write 7 = .ok (.bipush 126, 2) := by decide +kernel
theorem dX4_write_9 : decode cX4_write 9 = .ok (.if_icmp .le 5, 3) := by decide +kernel
theorem dX4_write_12 : decode cX4_write 12 = .ok (.iconst (-1), 1) := by decide +kernel
theorem dX4_write_13 : decode cX4_write 13 = .ok (.ireturn, 1) := by decide +kernel
theorem dX4_write_14 : decode cX4_write 14 = .ok (.aload_n 0, 1) := by decide +kernel
theorem dX4_write_15 : decode cX4_write 15 = .ok (.getfield 10, 3) := by decide +kernel
theorem dX4_write_18 : decode cX4_write 18 = .ok (.iload_n 1, 1) := by decide +kernel
theorem dX4_write_19 : decode cX4_write 19 = .ok (.invokevirtual 52, 3) := by decide +kernel
theorem dX4_write_22 : decode cX4_write 22 = .ok (.ifCond .ne 6, 3) := by decide +kernel
theorem dX4_write_25 : decode cX4_write 25 = .ok (.bipush (-3), 2) := by decide +kernel
theorem dX4_write_27 : decode cX4_write 27 = .ok (.ireturn, 1) := by decide +kernel
theorem dX4_write_28 : decode cX4_write 28 = .ok (.aload_n 0, 1) := by decide +kernel
theorem dX4_write_29 : decode cX4_write 29 = .ok (.getfield 10, 3) := by decide +kernel
theorem dX4_write_32 : decode cX4_write 32 = .ok (.getfield 63, 3) := by decide +kernel
theorem dX4_write_35 : decode cX4_write 35 = .ok (.ireturn, 1) := by decide +kernel
theorem dX4_wipe_0 : decode cX4_wipe 0 = .ok (.aload_n 0, 1) := by decide +kernel
theorem dX4_wipe_1 : decode cX4_wipe 1 = .ok (.getfield 10, 3) := by decide +kernel
theorem dX4_wipe_4 : decode cX4_wipe 4 = .ok (.getfield 63, 3) := by decide +kernel
theorem dX4_wipe_7 : decode cX4_wipe 7 = .ok (.istore_n 1, 1) := by decide +kernel
theorem dX4_wipe_8 : decode cX4_wipe 8 = .ok (.aload_n 0, 1) := by decide +kernel
theorem dX4_wipe_9 : decode cX4_wipe 9 = .ok (.getfield 10, 3) := by decide +kernel
theorem dX4_wipe_12 : decode cX4_wipe 12 = .ok (.iconst 0, 1) := by decide +kernel
theorem dX4_wipe_13 : decode cX4_wipe 13 = .ok (.putfield 63, 3) := by decide +kernel
theorem dX4_wipe_16 : decode cX4_wipe 16 = .ok (.iload_n 1, 1) := by decide +kernel
theorem dX4_wipe_17 : decode cX4_wipe 17 = .ok (.ireturn, 1) := by decide +kernel
theorem dX4_fault_0 : decode cX4_fault 0 = .ok (.aload_n 0, 1) := by decide +kernel
theorem dX4_fault_1 : decode cX4_fault 1 = .ok (.getfield 10, 3) := by decide +kernel
theorem dX4_fault_4 : decode cX4_fault 4 = .ok (.aload_n 0, 1) := by decide +kernel
theorem dX4_fault_5 : decode cX4_fault 5 = .ok (.getfield 23, 3) := by decide +kernel
theorem dX4_fault_8 : decode cX4_fault 8 = .ok (.invokevirtual 56, 3) := by decide +kernel
theorem dX4_fault_11 : decode cX4_fault 11 = .ok (.ireturn, 1) := by decide +kernel
theorem dX4_lay_0 : decode cX4_lay 0 = .ok (.aload_n 0, 1) := by decide +kernel
theorem dX4_lay_1 : decode cX4_lay 1 = .ok (.getfield 10, 3) := by decide +kernel
theorem dX4_lay_4 : decode cX4_lay 4 = .ok (.aload_n 0, 1) := by decide +kernel
theorem dX4_lay_5 : decode cX4_lay 5 = .ok (.getfield 23, 3) := by decide +kernel
theorem dX4_lay_8 : decode cX4_lay 8 = .ok (.invokevirtual 56, 3) := by decide +kernel
theorem dX4_lay_11 : decode cX4_lay 11 = .ok (.bipush (-4), 2) := by decide +kernel
theorem dX4_lay_13 : decode cX4_lay 13 = .ok (.if_icmp .ne 13, 3) := by decide +kernel
theorem dX4_lay_16 : decode cX4_lay 16 = .ok (.aload_n 0, 1) := by decide +kernel
theorem dX4_lay_17 : decode cX4_lay 17 = .ok (.getfield 23, 3) := by decide +kernel
theorem dX4_lay_20 : decode cX4_lay 20 = .ok (.invokevirtual 66, 3) := by decide +kernel
theorem dX4_lay_23 : decode cX4_lay 23 = .ok (.ifCond .ne 6, 3) := by decide +kernel
theorem dX4_lay_26 : decode cX4_lay 26 = .ok (.bipush (-2), 2) := by decide +kernel
theorem dX4_lay_28 : decode cX4_lay 28 = .ok (.ireturn, 1) := by decide +kernel
theorem dX4_lay_29 : decode cX4_lay 29 = .ok (.aload_n 0, 1) := by decide +kernel
theorem dX4_lay_30 : decode cX4_lay 30 = .ok (.invokevirtual 60, 3) := by decide +kernel
theorem dX4_lay_33 : decode cX4_lay 33 = .ok (.aload_n 0, 1) := by decide +kernel
theorem dX4_lay_34 : decode cX4_lay 34 = .ok (.getfield 19, 3) := by decide +kernel
theorem dX4_lay_37 : decode cX4_lay 37 = .ok (.getfield 70, 3) := by decide +kernel
theorem dX4_lay_40 : decode cX4_lay 40 = .ok (.ireturn, 1) := by decide +kernel
theorem dX4_step_0 : decode cX4_step 0 = .ok (.iload_n 1, 1) := by decide +kernel
theorem dX4_step_1 : decode cX4_step 1 = .ok (.iconst 1, 1) := by decide +kernel
theorem dX4_step_2 : decode cX4_step 2 = .ok (.if_icmp .lt 9, 3) := by decide +kernel
theorem dX4_step_5 : decode cX4_step 5 = .ok (.iload_n 1, 1) := by decide +kernel
theorem dX4_step_6 : decode cX4_step 6 = .ok (.bipush 20, 2) := by decide +kernel
theorem dX4_step_8 : decode cX4_step 8 = .ok (.if_icmp .le 5, 3) := by decide +kernel
theorem dX4_step_11 : decode cX4_step 11 = .ok (.iconst (-1), 1) := by decide +kernel
theorem dX4_step_12 : decode cX4_step 12 = .ok (.ireturn, 1) := by decide +kernel
theorem dX4_step_13 : decode cX4_step 13 = .ok (.aload_n 0, 1) := by decide +kernel
theorem dX4_step_14 : decode cX4_step 14 = .ok (.aload_n 0, 1) := by decide +kernel
theorem dX4_step_15 : decode cX4_step 15 = .ok (.getfield 29, 3) := by decide +kernel
theorem dX4_step_18 : decode cX4_step 18 = .ok (.invokevirtual 73, 3) := by decide +kernel
theorem dX4_step_21 : decode cX4_step 21 = .ok (.ifCond .eq 6, 3) := by decide +kernel
theorem dX4_step_24 : decode cX4_step 24 = .ok (.bipush (-2), 2) := by decide +kernel
theorem dX4_step_26 : decode cX4_step 26 = .ok (.ireturn, 1) := by decide +kernel
theorem dX4_step_27 : decode cX4_step 27 = .ok (.aload_n 0, 1) := by decide +kernel
theorem dX4_step_28 : decode cX4_step 28 = .ok (.invokevirtual 77, 3) := by decide +kernel
theorem dX4_step_31 : decode cX4_step 31 = .ok (.aload_n 0, 1) := by decide +kernel
theorem dX4_step_32 : decode cX4_step 32 = .ok (.aload_n 0, 1) := by decide +kernel
theorem dX4_step_33 : decode cX4_step 33 = .ok (.getfield 29, 3) := by decide +kernel
theorem dX4_step_36 : decode cX4_step 36 = .ok (.iload_n 1, 1) := by decide +kernel
theorem dX4_step_37 : decode cX4_step 37 = .ok (.invokevirtual 80, 3) := by decide +kernel
theorem dX4_step_40 : decode cX4_step 40 = .ok (.ireturn, 1) := by decide +kernel
theorem dX4_value_0 : decode cX4_value 0 = .ok (.aload_n 0, 1) := by decide +kernel
theorem dX4_value_1 : decode cX4_value 1 = .ok (.iload_n 1, 1) := by decide +kernel
theorem dX4_value_2 : decode cX4_value 2 = .ok (.invokevirtual 84, 3) := by decide +kernel
theorem dX4_value_5 : decode cX4_value 5 = .ok (.ifCond .eq 14, 3) := by decide +kernel
theorem dX4_value_8 : decode cX4_value 8 = .ok (.iload_n 2, 1) := by decide +kernel
theorem dX4_value_9 : decode cX4_value 9 = .ok (.ifCond .lt 10, 3) := by decide +kernel
theorem dX4_value_12 : decode cX4_value 12 = .ok (.iload_n 2, 1) := by decide +kernel
theorem dX4_value_13 : decode cX4_value 13 = .ok (.sipush 999, 3) := by decide +kernel
theorem dX4_value_16 : decode cX4_value 16 = .ok (.if_icmp .le 5, 3) := by decide +kernel
theorem dX4_value_19 : decode cX4_value 19 = .ok (.iconst (-1), 1) := by decide +kernel
theorem dX4_value_20 : decode cX4_value 20 = .ok (.ireturn, 1) := by decide +kernel
theorem dX4_value_21 : decode cX4_value 21 = .ok (.aload_n 0, 1) := by decide +kernel
theorem dX4_value_22 : decode cX4_value 22 = .ok (.invokevirtual 77, 3) := by decide +kernel
theorem dX4_value_25 : decode cX4_value 25 = .ok (.aload_n 0, 1) := by decide +kernel
theorem dX4_value_26 : decode cX4_value 26 = .ok (.getfield 29, 3) := by decide +kernel
theorem dX4_value_29 : decode cX4_value 29 = .ok (.getfield 87, 3) := by decide +kernel
theorem dX4_value_32 : decode cX4_value 32 = .ok (.iload_n 1, 1) := by decide +kernel
theorem dX4_value_33 : decode cX4_value 33 = .ok (.iaload, 1) := by decide +kernel
theorem dX4_value_34 : decode cX4_value 34 = .ok (.istore_n 3, 1) := by decide +kernel
theorem dX4_value_35 : decode cX4_value 35 = .ok (.aload_n 0, 1) := by decide +kernel
theorem dX4_value_36 : decode cX4_value 36 = .ok (.getfield 29, 3) := by decide +kernel
theorem dX4_value_39 : decode cX4_value 39 = .ok (.getfield 87, 3) := by decide +kernel
theorem dX4_value_42 : decode cX4_value 42 = .ok (.iload_n 1, 1) := by decide +kernel
theorem dX4_value_43 : decode cX4_value 43 = .ok (.iload_n 2, 1) := by decide +kernel
theorem dX4_value_44 : decode cX4_value 44 = .ok (.iastore, 1) := by decide +kernel
theorem dX4_value_45 : decode cX4_value 45 = .ok (.aload_n 0, 1) := by decide +kernel
theorem dX4_value_46 : decode cX4_value 46 = .ok (.getfield 29, 3) := by decide +kernel
theorem dX4_value_49 : decode cX4_value 49 = .ok (.getfield 91, 3) := by decide +kernel
theorem dX4_value_52 : decode cX4_value 52 = .ok (.iload_n 1, 1) := by decide +kernel
theorem dX4_value_53 : decode cX4_value 53 = .ok (.iconst 0, 1) := by decide +kernel
theorem dX4_value_54 : decode cX4_value 54 = .ok (.iastore, 1) := by decide +kernel
theorem dX4_value_55 : decode cX4_value 55 = .ok (.aload_n 0, 1) := by decide +kernel
theorem dX4_value_56 : decode cX4_value 56 = .ok (.getfield 29, 3) := by decide +kernel
theorem dX4_value_59 : decode cX4_value 59 = .ok (.getfield 94, 3) := by decide +kernel
theorem dX4_value_62 : decode cX4_value 62 = .ok (.iload_n 1, 1) := by decide +kernel
theorem dX4_value_63 : decode cX4_value 63 = .ok (.iconst 0, 1) := by decide +kernel
theorem dX4_value_64 : decode cX4_value 64 = .ok (.iastore, 1) := by decide +kernel
theorem dX4_value_65 : decode cX4_value 65 = .ok (.iload_n 3, 1) := by decide +kernel
theorem dX4_value_66 : decode cX4_value 66 = .ok (.ireturn, 1) := by decide +kernel
theorem dX4_move_0 : decode cX4_move 0 = .ok (.aload_n 0, 1) := by decide +kernel
theorem dX4_move_1 : decode cX4_move 1 = .ok (.iload_n 1, 1) := by decide +kernel
theorem dX4_move_2 : decode cX4_move 2 = .ok (.invokevirtual 84, 3) := by decide +kernel
theorem dX4_move_5 : decode cX4_move 5 = .ok (.ifCond .eq 11, 3) := by decide +kernel
theorem dX4_move_8 : decode cX4_move 8 = .ok (.aload_n 0, 1) := by decide +kernel
theorem dX4_move_9 : decode cX4_move 9 = .ok (.iload_n 2, 1) := by decide +kernel
theorem dX4_move_10 : decode cX4_move 10 = .ok (.invokevirtual 97, 3) := by decide +kernel
theorem dX4_move_13 : decode cX4_move 13 = .ok (.ifCond .ne 5, 3) := by decide +kernel
theorem dX4_move_16 : decode cX4_move 16 = .ok (.iconst (-1), 1) := by decide +kernel
theorem dX4_move_17 : decode cX4_move 17 = .ok (.ireturn, 1) := by decide +kernel
theorem dX4_move_18 : decode cX4_move 18 = .ok (.aload_n 0, 1) := by decide +kernel
theorem dX4_move_19 : decode cX4_move 19 = .ok (.getfield 29, 3) := by decide +kernel
theorem dX4_move_22 : decode cX4_move 22 = .ok (.getfield 100, 3) := by decide +kernel
theorem dX4_move_25 : decode cX4_move 25 = .ok (.iload_n 1, 1) := by decide +kernel
theorem dX4_move_26 : decode cX4_move 26 = .ok (.iaload, 1) := by decide +kernel
theorem dX4_move_27 : decode cX4_move 27 = .ok (.istore_n 3, 1) := by decide +kernel
theorem dX4_move_28 : decode cX4_move 28 = .ok (.iload_n 3, 1) := by decide +kernel
theorem dX4_move_29 : decode cX4_move 29 = .ok (.iload_n 2, 1) := by decide +kernel
theorem dX4_move_30 : decode cX4_move 30 = .ok (.if_icmp .ne 6, 3) := by decide +kernel
theorem dX4_move_33 : decode cX4_move 33 = .ok (.bipush (-2), 2) := by decide +kernel
theorem dX4_move_35 : decode cX4_move 35 = .ok (.ireturn, 1) := by decide +kernel
theorem dX4_move_36 : decode cX4_move 36 = .ok (.aload_n 0, 1) := by decide +kernel
theorem dX4_move_37 : decode cX4_move 37 = .ok (.invokevirtual 77, 3) := by decide +kernel
theorem dX4_move_40 : decode cX4_move 40 = .ok (.aload_n 0, 1) := by decide +kernel
theorem dX4_move_41 : decode cX4_move 41 = .ok (.getfield 29, 3) := by decide +kernel
theorem dX4_move_44 : decode cX4_move 44 = .ok (.getfield 100, 3) := by decide +kernel
theorem dX4_move_47 : decode cX4_move 47 = .ok (.iload_n 1, 1) := by decide +kernel
theorem dX4_move_48 : decode cX4_move 48 = .ok (.iload_n 2, 1) := by decide +kernel
theorem dX4_move_49 : decode cX4_move 49 = .ok (.iastore, 1) := by decide +kernel
theorem dX4_move_50 : decode cX4_move 50 = .ok (.iload_n 3, 1) := by decide +kernel
theorem dX4_move_51 : decode cX4_move 51 = .ok (.ireturn, 1) := by decide +kernel
theorem dX4_combine_0 : decode cX4_combine 0 = .ok (.iload_n 1, 1) := by decide +kernel
theorem dX4_combine_1 : decode cX4_combine 1 = .ok (.ifCond .lt 8, 3) := by decide +kernel
theorem dX4_combine_4 : decode cX4_combine 4 = .ok (.iload_n 1, 1) := by decide +kernel
theorem dX4_combine_5 : decode cX4_combine 5 = .ok (.iconst 1, 1) := by decide +kernel
theorem dX4_combine_6 : decode cX4_combine 6 = .ok (.if_icmp .le 5, 3) := by decide +kernel
theorem dX4_combine_9 : decode cX4_combine 9 = .ok (.iconst (-1), 1) := by decide +kernel
theorem dX4_combine_10 : decode cX4_combine 10 = .ok (.ireturn, 1) := by decide +kernel
theorem dX4_combine_11 : decode cX4_combine 11 = .ok (.aload_n 0, 1) := by decide +kernel
theorem dX4_combine_12 : decode cX4_combine 12 = .ok (.getfield 29, 3) := by decide +kernel
theorem dX4_combine_15 : decode cX4_combine 15 = .ok (.getfield 103, 3) := by decide +kernel
theorem dX4_combine_18 : decode cX4_combine 18 = .ok (.iload_n 1, 1) := by decide +kernel
theorem dX4_combine_19 : decode cX4_combine 19 = .ok (.if_icmp .ne 6, 3) := by decide +kernel
theorem dX4_combine_22 : decode cX4_combine 22 = .ok (.bipush (-2), 2) := by decide +kernel
theorem dX4_combine_24 : decode cX4_combine 24 = .ok (.ireturn, 1) := by decide +kernel
theorem dX4_combine_25 : decode cX4_combine 25 = .ok (.aload_n 0, 1) := by decide +kernel
theorem dX4_combine_26 : decode cX4_combine 26 = .ok (.invokevirtual 77, 3) := by decide +kernel
theorem dX4_combine_29 : decode cX4_combine 29 = .ok (.aload_n 0, 1) := by decide +kernel
theorem dX4_combine_30 : decode cX4_combine 30 = .ok (.getfield 29, 3) := by decide +kernel
theorem dX4_combine_33 : decode cX4_combine 33 = .ok (.iload_n 1, 1) := by decide +kernel
theorem dX4_combine_34 : decode cX4_combine 34 = .ok (.putfield 103, 3) := by decide +kernel
theorem dX4_combine_37 : decode cX4_combine 37 = .ok (.aload_n 0, 1) := by decide +kernel
theorem dX4_combine_38 : decode cX4_combine 38 = .ok (.getfield 29, 3) := by decide +kernel
theorem dX4_combine_41 : decode cX4_combine 41 = .ok (.getfield 106, 3) := by decide +kernel
theorem dX4_combine_44 : decode cX4_combine 44 = .ok (.getfield 110, 3) := by decide +kernel
theorem dX4_combine_47 : decode cX4_combine 47 = .ok (.ireturn, 1) := by decide +kernel
theorem dX4_undo_0 : decode cX4_undo 0 = .ok (.aload_n 0, 1) := by decide +kernel
theorem dX4_undo_1 : decode cX4_undo 1 = .ok (.getfield 115, 3) := by decide +kernel
theorem dX4_undo_4 : decode cX4_undo 4 = .ok (.iconst 1, 1) := by decide +kernel
theorem dX4_undo_5 : decode cX4_undo 5 = .ok (.if_icmp .lt 11, 3) := by decide +kernel
theorem dX4_undo_8 : decode cX4_undo 8 = .ok (.aload_n 0, 1) := by decide +kernel
theorem dX4_undo_9 : decode cX4_undo 9 = .ok (.getfield 115, 3) := by decide +kernel
theorem dX4_undo_12 : decode cX4_undo 12 = .ok (.iconst 4, 1) := by decide +kernel
theorem dX4_undo_13 : decode cX4_undo 13 = .ok (.if_icmp .le 6, 3) := by decide +kernel
theorem dX4_undo_16 : decode cX4_undo 16 = .ok (.bipush (-2), 2) := by decide +kernel
theorem dX4_undo_18 : decode cX4_undo 18 = .ok (.ireturn, 1) := by decide +kernel
theorem dX4_undo_19 : decode cX4_undo 19 = .ok (.aload_n 0, 1) := by decide +kernel
theorem dX4_undo_20 : decode cX4_undo 20 = .ok (.dup, 1) := by decide +kernel
theorem dX4_undo_21 : decode cX4_undo 21 = .ok (.getfield 115, 3) := by decide +kernel
theorem dX4_undo_24 : decode cX4_undo 24 = .ok (.iconst 1, 1) := by decide +kernel
theorem dX4_undo_25 : decode cX4_undo 25 = .ok (.isub, 1) := by decide +kernel
theorem dX4_undo_26 : decode cX4_undo 26 = .ok (.putfield 115, 3) := by decide +kernel
theorem dX4_undo_29 : decode cX4_undo 29 = .ok (.aload_n 0, 1) := by decide +kernel
theorem dX4_undo_30 : decode cX4_undo 30 = .ok (.getfield 29, 3) := by decide +kernel
theorem dX4_undo_33 : decode cX4_undo 33 = .ok (.aload_n 0, 1) := by decide +kernel
theorem dX4_undo_34 : decode cX4_undo 34 = .ok (.getfield 36, 3) := by decide +kernel
theorem dX4_undo_37 : decode cX4_undo 37 = .ok (.aload_n 0, 1) := by decide +kernel
theorem dX4_undo_38 : decode cX4_undo 38 = .ok (.getfield 115, 3) := by decide +kernel
theorem dX4_undo_41 : decode cX4_undo 41 = .ok (.aaload, 1) := by decide +kernel
theorem dX4_undo_42 : decode cX4_undo 42 = .ok (.invokevirtual 118, 3) := by decide +kernel
theorem dX4_undo_45 : decode cX4_undo 45 = .ok (.aload_n 0, 1) := by decide +kernel
theorem dX4_undo_46 : decode cX4_undo 46 = .ok (.getfield 115, 3) := by decide +kernel
theorem dX4_undo_49 : decode cX4_undo 49 = .ok (.ireturn, 1) := by decide +kernel
theorem dX4_point_0 : decode cX4_point 0 = .ok (.aload_n 0, 1) := by decide +kernel
theorem dX4_point_1 : decode cX4_point 1 = .ok (.iload_n 1, 1) := by decide +kernel
theorem dX4_point_2 : decode cX4_point 2 = .ok (.invokevirtual 84, 3) := by decide +kernel
theorem dX4_point_5 : decode cX4_point 5 = .ok (.ifCond .ne 5, 3) := by decide +kernel
theorem dX4_point_8 : decode cX4_point 8 = .ok (.iconst (-1), 1) := by decide +kernel
theorem dX4_point_9 : decode cX4_point 9 = .ok (.ireturn, 1) := by decide +kernel
theorem dX4_point_10 : decode cX4_point 10 = .ok (.iload_n 2, 1) := by decide +kernel
theorem dX4_point_11 : decode cX4_point 11 = .ok (.tableswitch 119 0 6 #[41, 51, 61, 73, 90, 99, 109], 41) := by decide +kernel
theorem dX4_point_52 : decode cX4_point 52 = .ok (.aload_n 0, 1) := by decide +kernel
theorem dX4_point_53 : decode cX4_point 53 = .ok (.getfield 29, 3) := by decide +kernel
theorem dX4_point_56 : decode cX4_point 56 = .ok (.getfield 87, 3) := by decide +kernel
theorem dX4_point_59 : decode cX4_point 59 = .ok (.iload_n 1, 1) := by decide +kernel
theorem dX4_point_60 : decode cX4_point 60 = .ok (.iaload, 1) := by decide +kernel
theorem dX4_point_61 : decode cX4_point 61 = .ok (.ireturn, 1) := by decide +kernel
theorem dX4_point_62 : decode cX4_point 62 = .ok (.aload_n 0, 1) := by decide +kernel
theorem dX4_point_63 : decode cX4_point 63 = .ok (.getfield 29, 3) := by decide +kernel
theorem dX4_point_66 : decode cX4_point 66 = .ok (.getfield 100, 3) := by decide +kernel
theorem dX4_point_69 : decode cX4_point 69 = .ok (.iload_n 1, 1) := by decide +kernel
theorem dX4_point_70 : decode cX4_point 70 = .ok (.iaload, 1) := by decide +kernel
theorem dX4_point_71 : decode cX4_point 71 = .ok (.ireturn, 1) := by decide +kernel
theorem dX4_point_72 : decode cX4_point 72 = .ok (.aload_n 0, 1) := by decide +kernel
theorem dX4_point_73 : decode cX4_point 73 = .ok (.getfield 29, 3) := by decide +kernel
theorem dX4_point_76 : decode cX4_point 76 = .ok (.getfield 106, 3) := by decide +kernel
theorem dX4_point_79 : decode cX4_point 79 = .ok (.iload_n 1, 1) := by decide +kernel
theorem dX4_point_80 : decode cX4_point 80 = .ok (.invokevirtual 122, 3) := by decide +kernel
theorem dX4_point_83 : decode cX4_point 83 = .ok (.ireturn, 1) := by decide +kernel
theorem dX4_point_84 : decode cX4_point 84 = .ok (.aload_n 0, 1) := by decide +kernel
theorem dX4_point_85 : decode cX4_point 85 = .ok (.getfield 29, 3) := by decide +kernel
theorem dX4_point_88 : decode cX4_point 88 = .ok (.iload_n 1, 1) := by decide +kernel
theorem dX4_point_89 : decode cX4_point 89 = .ok (.invokevirtual 126, 3) := by decide +kernel
theorem dX4_point_92 : decode cX4_point 92 = .ok (.ifCond .eq 7, 3) := by decide +kernel
theorem dX4_point_95 : decode cX4_point 95 = .ok (.iconst 1, 1) := by decide +kernel
theorem dX4_point_96 : decode cX4_point 96 = .ok (.goto 4, 3) := by decide +kernel
theorem dX4_point_99 : decode cX4_point 99 = .ok (.iconst 0, 1) := by decide +kernel
theorem dX4_point_100 : decode cX4_point 100 = .ok (.ireturn, 1) := by decide +kernel
theorem dX4_point_101 : decode cX4_point 101 = .ok (.aload_n 0, 1) := by decide +kernel
theorem dX4_point_102 : decode cX4_point 102 = .ok (.getfield 19, 3) := by decide +kernel
theorem dX4_point_105 : decode cX4_point 105 = .ok (.iload_n 1, 1) := by decide +kernel
theorem dX4_point_106 : decode cX4_point 106 = .ok (.invokevirtual 129, 3) := by decide +kernel
theorem dX4_point_109 : decode cX4_point 109 = .ok (.ireturn, 1) := by decide +kernel
theorem dX4_point_110 : decode cX4_point 110 = .ok (.aload_n 0, 1) := by decide +kernel
theorem dX4_point_111 : decode cX4_point 111 = .ok (.getfield 29, 3) := by decide +kernel
theorem dX4_point_114 : decode cX4_point 114 = .ok (.getfield 132, 3) := by decide +kernel
theorem dX4_point_117 : decode cX4_point 117 = .ok (.iload_n 1, 1) := by decide +kernel
theorem dX4_point_118 : decode cX4_point 118 = .ok (.iaload, 1) := by decide +kernel
theorem dX4_point_119 : decode cX4_point 119 = .ok (.ireturn, 1) := by decide +kernel
theorem dX4_point_120 : decode cX4_point 120 = .ok (.aload_n 0, 1) := by decide +kernel
theorem dX4_point_121 : decode cX4_point 121 = .ok (.getfield 29, 3) := by decide +kernel
theorem dX4_point_124 : decode cX4_point 124 = .ok (.getfield 94, 3) := by decide +kernel
theorem dX4_point_127 : decode cX4_point 127 = .ok (.iload_n 1, 1) := by decide +kernel
theorem dX4_point_128 : decode cX4_point 128 = .ok (.iaload, 1) := by decide +kernel
theorem dX4_point_129 : decode cX4_point 129 = .ok (.ireturn, 1) := by decide +kernel
theorem dX4_point_130 : decode cX4_point 130 = .ok (.iconst (-1), 1) := by decide +kernel
theorem dX4_point_131 : decode cX4_point 131 = .ok (.ireturn, 1) := by decide +kernel
theorem dX4_letter_0 : decode cX4_letter 0 = .ok (.aload_n 0, 1) := by decide +kernel
theorem dX4_letter_1 : decode cX4_letter 1 = .ok (.iload_n 1, 1) := by decide +kernel
theorem dX4_letter_2 : decode cX4_letter 2 = .ok (.invokevirtual 84, 3) := by decide +kernel
theorem dX4_letter_5 : decode cX4_letter 5 = .ok (.ifCond .eq 16, 3) := by decide +kernel
theorem dX4_letter_8 : decode cX4_letter 8 = .ok (.iload_n 2, 1) := by decide +kernel
theorem dX4_letter_9 : decode cX4_letter 9 = .ok (.ifCond .lt 12, 3) := by decide +kernel
theorem dX4_letter_12 : decode cX4_letter 12 = .ok (.iload_n 3, 1) := by decide +kernel
theorem dX4_letter_13 : decode cX4_letter 13 = .ok (.ifCond .lt 8, 3) := by decide +kernel
theorem dX4_letter_16 : decode cX4_letter 16 = .ok (.iload_n 3, 1) := by decide +kernel
theorem dX4_letter_17 : decode cX4_letter 17 = .ok (.iconst 1, 1) := by decide +kernel
theorem dX4_letter_18 : decode cX4_letter 18 = .ok (.if_icmp .le 5, 3) := by decide +kernel
theorem dX4_letter_21 : decode cX4_letter 21 = .ok (.iconst (-1), 1) := by decide +kernel
theorem dX4_letter_22 : decode cX4_letter 22 = .ok (.ireturn, 1) := by decide +kernel
theorem dX4_letter_23 : decode cX4_letter 23 = .ok (.aload_n 0, 1) := by decide +kernel
theorem dX4_letter_24 : decode cX4_letter 24 = .ok (.getfield 29, 3) := by decide +kernel
theorem dX4_letter_27 : decode cX4_letter 27 = .ok (.getfield 106, 3) := by decide +kernel
theorem dX4_letter_30 : decode cX4_letter 30 = .ok (.iload_n 1, 1) := by decide +kernel
theorem dX4_letter_31 : decode cX4_letter 31 = .ok (.iload_n 2, 1) := by decide +kernel
theorem dX4_letter_32 : decode cX4_letter 32 = .ok (.invokevirtual 135, 3) := by decide +kernel
theorem dX4_letter_35 : decode cX4_letter 35 = .ok (.istore 4, 2) := by decide +kernel
theorem dX4_letter_37 : decode cX4_letter 37 = .ok (.iload 4, 2) := by decide +kernel
theorem dX4_letter_39 : decode cX4_letter 39 = .ok (.ifCond .lt 10, 3) := by decide +kernel
theorem dX4_letter_42 : decode cX4_letter 42 = .ok (.iload 4, 2) := by decide +kernel
theorem dX4_letter_44 : decode cX4_letter 44 = .ok (.bipush 16, 2) := by decide +kernel
theorem dX4_letter_46 : decode cX4_letter 46 = .ok (.if_icmp .lt 6, 3) := by decide +kernel
theorem dX4_letter_49 : decode cX4_letter 49 = .ok (.bipush (-4), 2) := by decide +kernel
theorem dX4_letter_51 : decode cX4_letter 51 = .ok (.ireturn, 1) := by decide +kernel
theorem dX4_letter_52 : decode cX4_letter 52 = .ok (.iload_n 3, 1) := by decide +kernel
theorem dX4_letter_53 : decode cX4_letter 53 = .ok (.ifCond .ne 19, 3) := by decide +kernel
theorem dX4_letter_56 : decode cX4_letter 56 = .ok (.aload_n 0, 1) := by decide +kernel
theorem dX4_letter_57 : decode cX4_letter 57 = .ok (.getfield 29, 3) := by decide +kernel
theorem dX4_letter_60 : decode cX4_letter 60 = .ok (.getfield 106, 3) := by decide +kernel
theorem dX4_letter_63 : decode cX4_letter 63 = .ok (.getfield 139, 3) := by decide +kernel
theorem dX4_letter_66 : decode cX4_letter 66 = .ok (.iload 4, 2) := by decide +kernel
theorem dX4_letter_68 : decode cX4_letter 68 = .ok (.iaload, 1) := by decide +kernel
theorem dX4_letter_69 : decode cX4_letter 69 = .ok (.goto 16, 3) := by decide +kernel
theorem dX4_letter_72 : decode cX4_letter 72 = .ok (.aload_n 0, 1) := by decide +kernel
theorem dX4_letter_73 : decode cX4_letter 73 = .ok (.getfield 29, 3) := by decide +kernel
theorem dX4_letter_76 : decode cX4_letter 76 = .ok (.getfield 106, 3) := by decide +kernel
theorem dX4_letter_79 : decode cX4_letter 79 = .ok (.getfield 142, 3) := by decide +kernel
theorem dX4_letter_82 : decode cX4_letter 82 = .ok (.iload 4, 2) := by decide +kernel
theorem dX4_letter_84 : decode cX4_letter 84 = .ok (.iaload, 1) := by decide +kernel
theorem dX4_letter_85 : decode cX4_letter 85 = .ok (.ireturn, 1) := by decide +kernel
theorem dX4_worker_0 : decode cX4_worker 0 = .ok (.aload_n 0, 1) := by decide +kernel
theorem dX4_worker_1 : decode cX4_worker 1 = .ok (.iload_n 1, 1) := by decide +kernel
theorem dX4_worker_2 : decode cX4_worker 2 = .ok (.invokevirtual 97, 3) := by decide +kernel
theorem dX4_worker_5 : decode cX4_worker 5 = .ok (.ifCond .ne 5, 3) := by decide +kernel
theorem dX4_worker_8 : decode cX4_worker 8 = .ok (.iconst (-1), 1) := by decide +kernel
theorem dX4_worker_9 : decode cX4_worker 9 = .ok (.ireturn, 1) := by decide +kernel
theorem dX4_worker_10 : decode cX4_worker 10 = .ok (.iload_n 2, 1) := by decide +kernel
theorem dX4_worker_11 : decode cX4_worker 11 = .ok (.tableswitch 70 0 2 #[25, 44, 54], 25) := by decide +kernel
theorem dX4_worker_36 : decode cX4_worker 36 = .ok (.aload_n 0, 1) := by decide +kernel
theorem dX4_worker_37 : decode cX4_worker 37 = .ok (.getfield 29, 3) := by decide +kernel
theorem dX4_worker_40 : decode cX4_worker 40 = .ok (.iload_n 1, 1) := by decide +kernel
theorem dX4_worker_41 : decode cX4_worker 41 = .ok (.aload_n 0, 1) := by decide +kernel
theorem dX4_worker_42 : decode cX4_worker 42 = .ok (.getfield 19, 3) := by decide +kernel
theorem dX4_worker_45 : decode cX4_worker 45 = .ok (.getfield 70, 3) := by decide +kernel
theorem dX4_worker_48 : decode cX4_worker 48 = .ok (.invokevirtual 145, 3) := by decide +kernel
theorem dX4_worker_51 : decode cX4_worker 51 = .ok (.invokestatic 148, 3) := by decide +kernel
theorem dX4_worker_54 : decode cX4_worker 54 = .ok (.ireturn, 1) := by decide +kernel
theorem dX4_worker_55 : decode cX4_worker 55 = .ok (.aload_n 0, 1) := by decide +kernel
theorem dX4_worker_56 : decode cX4_worker 56 = .ok (.getfield 29, 3) := by decide +kernel
theorem dX4_worker_59 : decode cX4_worker 59 = .ok (.getfield 153, 3) := by decide +kernel
theorem dX4_worker_62 : decode cX4_worker 62 = .ok (.iload_n 1, 1) := by decide +kernel
theorem dX4_worker_63 : decode cX4_worker 63 = .ok (.iaload, 1) := by decide +kernel
theorem dX4_worker_64 : decode cX4_worker 64 = .ok (.ireturn, 1) := by decide +kernel
theorem dX4_worker_65 : decode cX4_worker 65 = .ok (.aload_n 0, 1) := by decide +kernel
theorem dX4_worker_66 : decode cX4_worker 66 = .ok (.getfield 29, 3) := by decide +kernel
theorem dX4_worker_69 : decode cX4_worker 69 = .ok (.iload_n 1, 1) := by decide +kernel
theorem dX4_worker_70 : decode cX4_worker 70 = .ok (.aload_n 0, 1) := by decide +kernel
theorem dX4_worker_71 : decode cX4_worker 71 = .ok (.getfield 19, 3) := by decide +kernel
theorem dX4_worker_74 : decode cX4_worker 74 = .ok (.getfield 70, 3) := by decide +kernel
theorem dX4_worker_77 : decode cX4_worker 77 = .ok (.invokevirtual 145, 3) := by decide +kernel
theorem dX4_worker_80 : decode cX4_worker 80 = .ok (.ireturn, 1) := by decide +kernel
theorem dX4_worker_81 : decode cX4_worker 81 = .ok (.iconst (-1), 1) := by decide +kernel
theorem dX4_worker_82 : decode cX4_worker 82 = .ok (.ireturn, 1) := by decide +kernel
theorem dX4_sum_0 : decode cX4_sum 0 = .ok (.iload_n 1, 1) := by decide +kernel
theorem dX4_sum_1 : decode cX4_sum 1 = .ok (.ifCond .lt 19, 3) := by decide +kernel
theorem dX4_sum_4 : decode cX4_sum 4 = .ok (.iload_n 1, 1) := by decide +kernel
theorem dX4_sum_5 : decode cX4_sum 5 = .ok (.bipush 10, 2) := by decide +kernel
theorem dX4_sum_7 : decode cX4_sum 7 = .ok (.if_icmp .ge 13, 3) := by decide +kernel
theorem dX4_sum_10 : decode cX4_sum 10 = .ok (.iload_n 2, 1) := by decide +kernel
theorem dX4_sum_11 : decode cX4_sum 11 = .ok (.ifCond .lt 9, 3) := by decide +kernel
theorem dX4_sum_14 : decode cX4_sum 14 = .ok (.iload_n 2, 1) := by decide +kernel
theorem dX4_sum_15 : decode cX4_sum 15 = .ok (.bipush 6, 2) := by decide +kernel
theorem dX4_sum_17 : decode cX4_sum 17 = .ok (.if_icmp .lt 5, 3) := by decide +kernel
theorem dX4_sum_20 : decode cX4_sum 20 = .ok (.iconst (-1), 1) := by decide +kernel
theorem dX4_sum_21 : decode cX4_sum 21 = .ok (.ireturn, 1) := by decide +kernel
theorem dX4_sum_22 : decode cX4_sum 22 = .ok (.iload_n 1, 1) := by decide +kernel
theorem dX4_sum_23 : decode cX4_sum 23 = .ok (.aload_n 0, 1) := by decide +kernel
theorem dX4_sum_24 : decode cX4_sum 24 = .ok (.getfield 29, 3) := by decide +kernel
theorem dX4_sum_27 : decode cX4_sum 27 = .ok (.getfield 156, 3) := by decide +kernel
theorem dX4_sum_30 : decode cX4_sum 30 = .ok (.if_icmp .lt 6, 3) := by decide +kernel
theorem dX4_sum_33 : decode cX4_sum 33 = .ok (.bipush (-4), 2) := by decide +kernel
theorem dX4_sum_35 : decode cX4_sum 35 = .ok (.ireturn, 1) := by decide +kernel
theorem dX4_sum_36 : decode cX4_sum 36 = .ok (.aload_n 0, 1) := by decide +kernel
theorem dX4_sum_37 : decode cX4_sum 37 = .ok (.getfield 29, 3) := by decide +kernel
theorem dX4_sum_40 : decode cX4_sum 40 = .ok (.getfield 159, 3) := by decide +kernel
theorem dX4_sum_43 : decode cX4_sum 43 = .ok (.aload_n 0, 1) := by decide +kernel
theorem dX4_sum_44 : decode cX4_sum 44 = .ok (.getfield 29, 3) := by decide +kernel
theorem dX4_sum_47 : decode cX4_sum 47 = .ok (.getfield 156, 3) := by decide +kernel
theorem dX4_sum_50 : decode cX4_sum 50 = .ok (.iconst 1, 1) := by decide +kernel
theorem dX4_sum_51 : decode cX4_sum 51 = .ok (.isub, 1) := by decide +kernel
theorem dX4_sum_52 : decode cX4_sum 52 = .ok (.iload_n 1, 1) := by decide +kernel
theorem dX4_sum_53 : decode cX4_sum 53 = .ok (.isub, 1) := by decide +kernel
theorem dX4_sum_54 : decode cX4_sum 54 = .ok (.invokestatic 162, 3) := by decide +kernel
theorem dX4_sum_57 : decode cX4_sum 57 = .ok (.iload_n 2, 1) := by decide +kernel
theorem dX4_sum_58 : decode cX4_sum 58 = .ok (.iadd, 1) := by decide +kernel
theorem dX4_sum_59 : decode cX4_sum 59 = .ok (.iaload, 1) := by decide +kernel
theorem dX4_sum_60 : decode cX4_sum 60 = .ok (.ireturn, 1) := by decide +kernel
theorem dX4_rest_0 : decode cX4_rest 0 = .ok (.iload_n 1, 1) := by decide +kernel
theorem dX4_rest_1 : decode cX4_rest 1 = .ok (.ifCond .lt 17, 3) := by decide +kernel
theorem dX4_rest_4 : decode cX4_rest 4 = .ok (.iload_n 1, 1) := by decide +kernel
theorem dX4_rest_5 : decode cX4_rest 5 = .ok (.iconst 1, 1) := by decide +kernel
theorem dX4_rest_6 : decode cX4_rest 6 = .ok (.if_icmp .gt 12, 3) := by decide +kernel
theorem dX4_rest_9 : decode cX4_rest 9 = .ok (.iload_n 2, 1) := by decide +kernel
theorem dX4_rest_10 : decode cX4_rest 10 = .ok (.ifCond .lt 8, 3) := by decide +kernel
theorem dX4_rest_13 : decode cX4_rest 13 = .ok (.iload_n 2, 1) := by decide +kernel
theorem dX4_rest_14 : decode cX4_rest 14 = .ok (.iconst 2, 1) := by decide +kernel
theorem dX4_rest_15 : decode cX4_rest 15 = .ok (.if_icmp .le 5, 3) := by decide +kernel
theorem dX4_rest_18 : decode cX4_rest 18 = .ok (.iconst (-1), 1) := by decide +kernel
theorem dX4_rest_19 : decode cX4_rest 19 = .ok (.ireturn, 1) := by decide +kernel
theorem dX4_rest_20 : decode cX4_rest 20 = .ok (.aload_n 0, 1) := by decide +kernel
theorem dX4_rest_21 : decode cX4_rest 21 = .ok (.getfield 33, 3) := by decide +kernel
theorem dX4_rest_24 : decode cX4_rest 24 = .ok (.aload_n 0, 1) := by decide +kernel
theorem dX4_rest_25 : decode cX4_rest 25 = .ok (.getfield 29, 3) := by decide +kernel
theorem dX4_rest_28 : decode cX4_rest 28 = .ok (.invokevirtual 118, 3) := by decide +kernel
theorem dX4_rest_31 : decode cX4_rest 31 = .ok (.iload_n 1, 1) := by decide +kernel
theorem dX4_rest_32 : decode cX4_rest 32 = .ok (.iconst 1, 1) := by decide +kernel
theorem dX4_rest_33 : decode cX4_rest 33 = .ok (.if_icmp .ne 19, 3) := by decide +kernel
theorem dX4_rest_36 : decode cX4_rest 36 = .ok (.aload_n 0, 1) := by decide +kernel
theorem dX4_rest_37 : decode cX4_rest 37 = .ok (.getfield 33, 3) := by decide +kernel
theorem dX4_rest_40 : decode cX4_rest 40 = .ok (.iconst 1, 1) := by decide +kernel
theorem dX4_rest_41 : decode cX4_rest 41 = .ok (.aload_n 0, 1) := by decide +kernel
theorem dX4_rest_42 : decode cX4_rest 42 = .ok (.getfield 29, 3) := by decide +kernel
theorem dX4_rest_45 : decode cX4_rest 45 = .ok (.getfield 103, 3) := by decide +kernel
theorem dX4_rest_48 : decode cX4_rest 48 = .ok (.isub, 1) := by decide +kernel
theorem dX4_rest_49 : decode cX4_rest 49 = .ok (.putfield 103, 3) := by decide +kernel
theorem dX4_rest_52 : decode cX4_rest 52 = .ok (.aload_n 0, 1) := by decide +kernel
theorem dX4_rest_53 : decode cX4_rest 53 = .ok (.aload_n 0, 1) := by decide +kernel
theorem dX4_rest_54 : decode cX4_rest 54 = .ok (.getfield 33, 3) := by decide +kernel
theorem dX4_rest_57 : decode cX4_rest 57 = .ok (.bipush 60, 2) := by decide +kernel
theorem dX4_rest_59 : decode cX4_rest 59 = .ok (.invokevirtual 80, 3) := by decide +kernel
theorem dX4_rest_62 : decode cX4_rest 62 = .ok (.istore_n 3, 1) := by decide +kernel
theorem dX4_rest_63 : decode cX4_rest 63 = .ok (.aload_n 0, 1) := by decide +kernel
theorem dX4_rest_64 : decode cX4_rest 64 = .ok (.aload_n 0, 1) := by decide +kernel
theorem dX4_rest_65 : decode cX4_rest 65 = .ok (.getfield 33, 3) := by decide +kernel
theorem dX4_rest_68 : decode cX4_rest 68 = .ok (.invokevirtual 73, 3) := by decide +kernel
theorem dX4_rest_71 : decode cX4_rest 71 = .ok (.ifCond .ne 6, 3) := by decide +kernel
theorem dX4_rest_74 : decode cX4_rest 74 = .ok (.bipush (-4), 2) := by decide +kernel
theorem dX4_rest_76 : decode cX4_rest 76 = .ok (.ireturn, 1) := by decide +kernel
theorem dX4_rest_77 : decode cX4_rest 77 = .ok (.iload_n 2, 1) := by decide +kernel
theorem dX4_rest_78 : decode cX4_rest 78 = .ok (.lookupswitch 44 #[(0, 26), (1, 28)], 26) := by decide +kernel
theorem dX4_rest_104 : decode cX4_rest 104 = .ok (.iload_n 3, 1) := by decide +kernel
theorem dX4_rest_105 : decode cX4_rest 105 = .ok (.ireturn, 1) := by decide +kernel
theorem dX4_rest_106 : decode cX4_rest 106 = .ok (.aload_n 0, 1) := by decide +kernel
theorem dX4_rest_107 : decode cX4_rest 107 = .ok (.getfield 33, 3) := by decide +kernel
theorem dX4_rest_110 : decode cX4_rest 110 = .ok (.getfield 165, 3) := by decide +kernel
theorem dX4_rest_113 : decode cX4_rest 113 = .ok (.aload_n 0, 1) := by decide +kernel
theorem dX4_rest_114 : decode cX4_rest 114 = .ok (.getfield 29, 3) := by decide +kernel
theorem dX4_rest_117 : decode cX4_rest 117 = .ok (.getfield 165, 3) := by decide +kernel
theorem dX4_rest_120 : decode cX4_rest 120 = .ok (.isub, 1) := by decide +kernel
theorem dX4_rest_121 : decode cX4_rest 121 = .ok (.ireturn, 1) := by decide +kernel
theorem dX4_rest_122 : decode cX4_rest 122 = .ok (.aload_n 0, 1) := by decide +kernel
theorem dX4_rest_123 : decode cX4_rest 123 = .ok (.getfield 33, 3) := by decide +kernel
theorem dX4_rest_126 : decode cX4_rest 126 = .ok (.aload_n 0, 1) := by decide +kernel
theorem dX4_rest_127 : decode cX4_rest 127 = .ok (.getfield 19, 3) := by decide +kernel
theorem dX4_rest_130 : decode cX4_rest 130 = .ok (.getfield 70, 3) := by decide +kernel
theorem dX4_rest_133 : decode cX4_rest 133 = .ok (.invokevirtual 168, 3) := by decide +kernel
theorem dX4_rest_136 : decode cX4_rest 136 = .ok (.ireturn, 1) := by decide +kernel
theorem dX4_count_0 : decode cX4_count 0 = .ok (.iload_n 1, 1) := by decide +kernel
theorem dX4_count_1 : decode cX4_count 1 = .ok (.tableswitch 166 0 11 #[63, 71, 79, 87, 95, 103, 118, 129, 137, 145, 153, 158], 63) := by decide +kernel
theorem dX4_count_64 : decode cX4_count 64 = .ok (.aload_n 0, 1) := by decide +kernel
theorem dX4_count_65 : decode cX4_count 65 = .ok (.getfield 19, 3) := by decide +kernel
theorem dX4_count_68 : decode cX4_count 68 = .ok (.getfield 70, 3) := by decide +kernel
theorem dX4_count_71 : decode cX4_count 71 = .ok (.ireturn, 1) := by decide +kernel
theorem dX4_count_72 : decode cX4_count 72 = .ok (.aload_n 0, 1) := by decide +kernel
theorem dX4_count_73 : decode cX4_count 73 = .ok (.getfield 19, 3) := by decide +kernel
theorem dX4_count_76 : decode cX4_count 76 = .ok (.getfield 171, 3) := by decide +kernel
theorem dX4_count_79 : decode cX4_count 79 = .ok (.ireturn, 1) := by decide +kernel
theorem dX4_count_80 : decode cX4_count 80 = .ok (.aload_n 0, 1) := by decide +kernel
theorem dX4_count_81 : decode cX4_count 81 = .ok (.getfield 19, 3) := by decide +kernel
theorem dX4_count_84 : decode cX4_count 84 = .ok (.getfield 174, 3) := by decide +kernel
theorem dX4_count_87 : decode cX4_count 87 = .ok (.ireturn, 1) := by decide +kernel
theorem dX4_count_88 : decode cX4_count 88 = .ok (.aload_n 0, 1) := by decide +kernel
theorem dX4_count_89 : decode cX4_count 89 = .ok (.getfield 19, 3) := by decide +kernel
theorem dX4_count_92 : decode cX4_count 92 = .ok (.getfield 177, 3) := by decide +kernel
theorem dX4_count_95 : decode cX4_count 95 = .ok (.ireturn, 1) := by decide +kernel
theorem dX4_count_96 : decode cX4_count 96 = .ok (.aload_n 0, 1) := by decide +kernel
theorem dX4_count_97 : decode cX4_count 97 = .ok (.getfield 29, 3) := by decide +kernel
theorem dX4_count_100 : decode cX4_count 100 = .ok (.getfield 156, 3) := by decide +kernel
theorem dX4_count_103 : decode cX4_count 103 = .ok (.ireturn, 1) := by decide +kernel
theorem dX4_count_104 : decode cX4_count 104 = .ok (.aload_n 0, 1) := by decide +kernel
theorem dX4_count_105 : decode cX4_count 105 = .ok (.getfield 29, 3) := by decide +kernel
theorem dX4_count_108 : decode cX4_count 108 = .ok (.aload_n 0, 1) := by decide +kernel
theorem dX4_count_109 : decode cX4_count 109 = .ok (.getfield 19, 3) := by decide +kernel
theorem dX4_count_112 : decode cX4_count 112 = .ok (.getfield 70, 3) := by decide +kernel
theorem dX4_count_115 : decode cX4_count 115 = .ok (.invokevirtual 180, 3) := by decide +kernel
theorem dX4_count_118 : decode cX4_count 118 = .ok (.ireturn, 1) := by decide +kernel
theorem dX4_count_119 : decode cX4_count 119 = .ok (.aload_n 0, 1) := by decide +kernel
theorem dX4_count_120 : decode cX4_count 120 = .ok (.getfield 29, 3) := by decide +kernel
theorem dX4_count_123 : decode cX4_count 123 = .ok (.getfield 106, 3) := by decide +kernel
theorem dX4_count_126 : decode cX4_count 126 = .ok (.getfield 110, 3) := by decide +kernel
theorem dX4_count_129 : decode cX4_count 129 = .ok (.ireturn, 1) := by decide +kernel
theorem dX4_count_130 : decode cX4_count 130 = .ok (.aload_n 0, 1) := by decide +kernel
theorem dX4_count_131 : decode cX4_count 131 = .ok (.getfield 29, 3) := by decide +kernel
theorem dX4_count_134 : decode cX4_count 134 = .ok (.getfield 165, 3) := by decide +kernel
theorem dX4_count_137 : decode cX4_count 137 = .ok (.ireturn, 1) := by decide +kernel
theorem dX4_count_138 : decode cX4_count 138 = .ok (.aload_n 0, 1) := by decide +kernel
theorem dX4_count_139 : decode cX4_count 139 = .ok (.getfield 29, 3) := by decide +kernel
theorem dX4_count_142 : decode cX4_count 142 = .ok (.getfield 183, 3) := by decide +kernel
theorem dX4_count_145 : decode cX4_count 145 = .ok (.ireturn, 1) := by decide +kernel
theorem dX4_count_146 : decode cX4_count 146 = .ok (.aload_n 0, 1) := by decide +kernel
theorem dX4_count_147 : decode cX4_count 147 = .ok (.getfield 29, 3) := by decide +kernel
theorem dX4_count_150 : decode cX4_count 150 = .ok (.getfield 103, 3) := by decide +kernel
theorem dX4_count_153 : decode cX4_count 153 = .ok (.ireturn, 1) := by decide +kernel
theorem dX4_count_154 : decode cX4_count 154 = .ok (.aload_n 0, 1) := by decide +kernel
theorem dX4_count_155 : decode cX4_count 155 = .ok (.getfield 115, 3) := by decide +kernel
theorem dX4_count_158 : decode cX4_count 158 = .ok (.ireturn, 1) := by decide +kernel
theorem dX4_count_159 : decode cX4_count 159 = .ok (.aload_n 0, 1) := by decide +kernel
theorem dX4_count_160 : decode cX4_count 160 = .ok (.getfield 10, 3) := by decide +kernel
theorem dX4_count_163 : decode cX4_count 163 = .ok (.getfield 63, 3) := by decide +kernel
theorem dX4_count_166 : decode cX4_count 166 = .ok (.ireturn, 1) := by decide +kernel
theorem dX4_count_167 : decode cX4_count 167 = .ok (.iconst (-1), 1) := by decide +kernel
theorem dX4_count_168 : decode cX4_count 168 = .ok (.ireturn, 1) := by decide +kernel
theorem dX4_isPoint_0 : decode cX4_isPoint 0 = .ok (.iload_n 1, 1) := by decide +kernel
theorem dX4_isPoint_1 : decode cX4_isPoint 1 = .ok (.ifCond .lt 18, 3) := by decide +kernel
theorem dX4_isPoint_4 : decode cX4_isPoint 4 = .ok (.iload_n 1, 1) := by decide +kernel
theorem dX4_isPoint_5 : decode cX4_isPoint 5 = .ok (.aload_n 0, 1) := by decide +kernel
theorem dX4_isPoint_6 : decode cX4_isPoint 6 = .ok (.getfield 19, 3) := by decide +kernel
theorem dX4_isPoint_9 : decode cX4_isPoint 9 = .ok (.getfield 70, 3) := by decide +kernel
theorem dX4_isPoint_12 : decode cX4_isPoint 12 = .ok (.if_icmp .ge 7, 3) := by decide +kernel
theorem dX4_isPoint_15 : decode cX4_isPoint 15 = .ok (.iconst 1, 1) := by decide +kernel
theorem dX4_isPoint_16 : decode cX4_isPoint 16 = .ok (.goto 4, 3) := by decide +kernel
theorem dX4_isPoint_19 : decode cX4_isPoint 19 = .ok (.iconst 0, 1) := by decide +kernel
theorem dX4_isPoint_20 : decode cX4_isPoint 20 = .ok (.ireturn, 1) := by decide +kernel
theorem dX4_isWorker_0 : decode cX4_isWorker 0 = .ok (.iload_n 1, 1) := by decide +kernel
theorem dX4_isWorker_1 : decode cX4_isWorker 1 = .ok (.ifCond .lt 18, 3) := by decide +kernel
theorem dX4_isWorker_4 : decode cX4_isWorker 4 = .ok (.iload_n 1, 1) := by decide +kernel
theorem dX4_isWorker_5 : decode cX4_isWorker 5 = .ok (.aload_n 0, 1) := by decide +kernel
theorem dX4_isWorker_6 : decode cX4_isWorker 6 = .ok (.getfield 19, 3) := by decide +kernel
theorem dX4_isWorker_9 : decode cX4_isWorker 9 = .ok (.getfield 174, 3) := by decide +kernel
theorem dX4_isWorker_12 : decode cX4_isWorker 12 = .ok (.if_icmp .ge 7, 3) := by decide +kernel
theorem dX4_isWorker_15 : decode cX4_isWorker 15 = .ok (.iconst 1, 1) := by decide +kernel
theorem dX4_isWorker_16 : decode cX4_isWorker 16 = .ok (.goto 4, 3) := by decide +kernel
theorem dX4_isWorker_19 : decode cX4_isWorker 19 = .ok (.iconst 0, 1) := by decide +kernel
theorem dX4_isWorker_20 : decode cX4_isWorker 20 = .ok (.ireturn, 1) := by decide +kernel
theorem dX4_isOver_0 : decode cX4_isOver 0 = .ok (.aload_n 1, 1) := by decide +kernel
theorem dX4_isOver_1 : decode cX4_isOver 1 = .ok (.aload_n 0, 1) := by decide +kernel
theorem dX4_isOver_2 : decode cX4_isOver 2 = .ok (.getfield 19, 3) := by decide +kernel
theorem dX4_isOver_5 : decode cX4_isOver 5 = .ok (.getfield 70, 3) := by decide +kernel
theorem dX4_isOver_8 : decode cX4_isOver 8 = .ok (.invokevirtual 180, 3) := by decide +kernel
theorem dX4_isOver_11 : decode cX4_isOver 11 = .ok (.ifCond .ne 7, 3) := by decide +kernel
theorem dX4_isOver_14 : decode cX4_isOver 14 = .ok (.iconst 1, 1) := by decide +kernel
theorem dX4_isOver_15 : decode cX4_isOver 15 = .ok (.goto 4, 3) := by decide +kernel
theorem dX4_isOver_18 : decode cX4_isOver 18 = .ok (.iconst 0, 1) := by decide +kernel
theorem dX4_isOver_19 : decode cX4_isOver 19 = .ok (.ireturn, 1) := by decide +kernel
theorem dX4_layWhatWasRead_0 : decode cX4_layWhatWasRead 0 = .ok (.aload_n 0, 1) := by decide +kernel
theorem dX4_layWhatWasRead_1 : decode cX4_layWhatWasRead 1 = .ok (.getfield 23, 3) := by decide +kernel
theorem dX4_layWhatWasRead_4 : decode cX4_layWhatWasRead 4 = .ok (.astore_n 1, 1) := by decide +kernel
theorem dX4_layWhatWasRead_5 : decode cX4_layWhatWasRead 5 = .ok (.aload_n 0, 1) := by decide +kernel
theorem dX4_layWhatWasRead_6 : decode cX4_layWhatWasRead 6 = .ok (.aload_n 0, 1) := by decide +kernel
theorem dX4_layWhatWasRead_7 : decode cX4_layWhatWasRead 7 = .ok (.getfield 19, 3) := by decide +kernel
theorem dX4_layWhatWasRead_10 : decode cX4_layWhatWasRead 10 = .ok (.putfield 23, 3) := by decide +kernel
theorem dX4_layWhatWasRead_13 : decode cX4_layWhatWasRead 13 = .ok (.aload_n 0, 1) := by decide +kernel
theorem dX4_layWhatWasRead_14 : decode cX4_layWhatWasRead 14 = .ok (.aload_n 1, 1) := by decide +kernel
theorem dX4_layWhatWasRead_15 : decode cX4_layWhatWasRead 15 = .ok (.putfield 19, 3) := by decide +kernel
theorem dX4_layWhatWasRead_18 : decode cX4_layWhatWasRead 18 = .ok (.aload_n 0, 1) := by decide +kernel
theorem dX4_layWhatWasRead_19 : decode cX4_layWhatWasRead 19 = .ok (.getfield 29, 3) := by decide +kernel
theorem dX4_layWhatWasRead_22 : decode cX4_layWhatWasRead 22 = .ok (.aload_n 0, 1) := by decide +kernel
theorem dX4_layWhatWasRead_23 : decode cX4_layWhatWasRead 23 = .ok (.getfield 19, 3) := by decide +kernel
theorem dX4_layWhatWasRead_26 : decode cX4_layWhatWasRead 26 = .ok (.invokevirtual 186, 3) := by decide +kernel
theorem dX4_layWhatWasRead_29 : decode cX4_layWhatWasRead 29 = .ok (.aload_n 0, 1) := by decide +kernel
theorem dX4_layWhatWasRead_30 : decode cX4_layWhatWasRead 30 = .ok (.iconst 0, 1) := by decide +kernel
theorem dX4_layWhatWasRead_31 : decode cX4_layWhatWasRead 31 = .ok (.putfield 115, 3) := by decide +kernel
theorem dX4_layWhatWasRead_34 : decode cX4_layWhatWasRead 34 = .ok (.return_, 1) := by decide +kernel
theorem dX4_keepForUndo_0 : decode cX4_keepForUndo 0 = .ok (.aload_n 0, 1) := by decide +kernel
theorem dX4_keepForUndo_1 : decode cX4_keepForUndo 1 = .ok (.getfield 115, 3) := by decide +kernel
theorem dX4_keepForUndo_4 : decode cX4_keepForUndo 4 = .ok (.iconst 4, 1) := by decide +kernel
theorem dX4_keepForUndo_5 : decode cX4_keepForUndo 5 = .ok (.if_icmp .lt 7, 3) := by decide +kernel
theorem dX4_keepForUndo_8 : decode cX4_keepForUndo 8 = .ok (.aload_n 0, 1) := by decide +kernel
theorem dX4_keepForUndo_9 : decode cX4_keepForUndo 9 = .ok (.invokevirtual 190, 3) := by decide +kernel
theorem dX4_keepForUndo_12 : decode cX4_keepForUndo 12 = .ok (.aload_n 0, 1) := by decide +kernel
theorem dX4_keepForUndo_13 : decode cX4_keepForUndo 13 = .ok (.getfield 36, 3) := by decide +kernel
theorem dX4_keepForUndo_16 : decode cX4_keepForUndo 16 = .ok (.aload_n 0, 1) := by decide +kernel
theorem dX4_keepForUndo_17 : decode cX4_keepForUndo 17 = .ok (.getfield 115, 3) := by decide +kernel
theorem dX4_keepForUndo_20 : decode cX4_keepForUndo 20 = .ok (.aaload, 1) := by decide +kernel
theorem dX4_keepForUndo_21 : decode cX4_keepForUndo 21 = .ok (.aload_n 0, 1) := by decide +kernel
theorem dX4_keepForUndo_22 : decode cX4_keepForUndo 22 = .ok (.getfield 29, 3) := by decide +kernel
theorem dX4_keepForUndo_25 : decode cX4_keepForUndo 25 = .ok (.invokevirtual 118, 3) := by decide +kernel
theorem dX4_keepForUndo_28 : decode cX4_keepForUndo 28 = .ok (.aload_n 0, 1) := by decide +kernel
theorem dX4_keepForUndo_29 : decode cX4_keepForUndo 29 = .ok (.dup, 1) := by decide +kernel
theorem dX4_keepForUndo_30 : decode cX4_keepForUndo 30 = .ok (.getfield 115, 3) := by decide +kernel
theorem dX4_keepForUndo_33 : decode cX4_keepForUndo 33 = .ok (.iconst 1, 1) := by decide +kernel
theorem dX4_keepForUndo_34 : decode cX4_keepForUndo 34 = .ok (.iadd, 1) := by decide +kernel
theorem dX4_keepForUndo_35 : decode cX4_keepForUndo 35 = .ok (.putfield 115, 3) := by decide +kernel
theorem dX4_keepForUndo_38 : decode cX4_keepForUndo 38 = .ok (.return_, 1) := by decide +kernel
theorem dX4_dropOldest_0 : decode cX4_dropOldest 0 = .ok (.aload_n 0, 1) := by decide +kernel
theorem dX4_dropOldest_1 : decode cX4_dropOldest 1 = .ok (.getfield 36, 3) := by decide +kernel
theorem dX4_dropOldest_4 : decode cX4_dropOldest 4 = .ok (.iconst 0, 1) := by decide +kernel
theorem dX4_dropOldest_5 : decode cX4_dropOldest 5 = .ok (.aaload, 1) := by decide +kernel
theorem dX4_dropOldest_6 : decode cX4_dropOldest 6 = .ok (.astore_n 1, 1) := by decide +kernel
theorem dX4_dropOldest_7 : decode cX4_dropOldest 7 = .ok (.iconst 1, 1) := by decide +kernel
theorem dX4_dropOldest_8 : decode cX4_dropOldest 8 = .ok (.istore_n 2, 1) := by decide +kernel
theorem dX4_dropOldest_9 : decode cX4_dropOldest 9 = .ok (.iload_n 2, 1) := by decide +kernel
theorem dX4_dropOldest_10 : decode cX4_dropOldest 10 = .ok (.iconst 4, 1) := by decide +kernel
theorem dX4_dropOldest_11 : decode cX4_dropOldest 11 = .ok (.if_icmp .ge 23, 3) := by decide +kernel
theorem dX4_dropOldest_14 : decode cX4_dropOldest 14 = .ok (.aload_n 0, 1) := by decide +kernel
theorem dX4_dropOldest_15 : decode cX4_dropOldest 15 = .ok (.getfield 36, 3) := by decide +kernel
theorem dX4_dropOldest_18 : decode cX4_dropOldest 18 = .ok (.iload_n 2, 1) := by decide +kernel
theorem dX4_dropOldest_19 : decode cX4_dropOldest 19 = .ok (.iconst 1, 1) := by decide +kernel
theorem dX4_dropOldest_20 : decode cX4_dropOldest 20 = .ok (.isub, 1) := by decide +kernel
theorem dX4_dropOldest_21 : decode cX4_dropOldest 21 = .ok (.aload_n 0, 1) := by decide +kernel
theorem dX4_dropOldest_22 : decode cX4_dropOldest 22 = .ok (.getfield 36, 3) := by decide +kernel
theorem dX4_dropOldest_25 : decode cX4_dropOldest 25 = .ok (.iload_n 2, 1) := by decide +kernel
theorem dX4_dropOldest_26 : decode cX4_dropOldest 26 = .ok (.aaload, 1) := by decide +kernel
theorem dX4_dropOldest_27 : decode cX4_dropOldest 27 = .ok (.aastore, 1) := by decide +kernel
theorem dX4_dropOldest_28 : decode cX4_dropOldest 28 = .ok (.iinc 2 1, 3) := by decide +kernel
theorem dX4_dropOldest_31 : decode cX4_dropOldest 31 = .ok (.goto (-22), 3) := by decide +kernel
theorem dX4_dropOldest_34 : decode cX4_dropOldest 34 = .ok (.aload_n 0, 1) := by decide +kernel
theorem dX4_dropOldest_35 : decode cX4_dropOldest 35 = .ok (.getfield 36, 3) := by decide +kernel
theorem dX4_dropOldest_38 : decode cX4_dropOldest 38 = .ok (.iconst 3, 1) := by decide +kernel
theorem dX4_dropOldest_39 : decode cX4_dropOldest 39 = .ok (.aload_n 1, 1) := by decide +kernel
theorem dX4_dropOldest_40 : decode cX4_dropOldest 40 = .ok (.aastore, 1) := by decide +kernel
theorem dX4_dropOldest_41 : decode cX4_dropOldest 41 = .ok (.aload_n 0, 1) := by decide +kernel
theorem dX4_dropOldest_42 : decode cX4_dropOldest 42 = .ok (.iconst 3, 1) := by decide +kernel
theorem dX4_dropOldest_43 : decode cX4_dropOldest 43 = .ok (.putfield 115, 3) := by decide +kernel
theorem dX4_dropOldest_46 : decode cX4_dropOldest 46 = .ok (.return_, 1) := by decide +kernel
theorem dX4_advanceAtMost_0 : decode cX4_advanceAtMost 0 = .ok (.iconst 0, 1) := by decide +kernel
theorem dX4_advanceAtMost_1 : decode cX4_advanceAtMost 1 = .ok (.istore_n 3, 1) := by decide +kernel
theorem dX4_advanceAtMost_2 : decode cX4_advanceAtMost 2 = .ok (.iload_n 3, 1) := by decide +kernel
theorem dX4_advanceAtMost_3 : decode cX4_advanceAtMost 3 = .ok (.iload_n 2, 1) := by decide +kernel
theorem dX4_advanceAtMost_4 : decode cX4_advanceAtMost 4 = .ok (.if_icmp .ge 25, 3) := by decide +kernel
theorem dX4_advanceAtMost_7 : decode cX4_advanceAtMost 7 = .ok (.aload_n 0, 1) := by decide +kernel
theorem dX4_advanceAtMost_8 : decode cX4_advanceAtMost 8 = .ok (.aload_n 1, 1) := by decide +kernel
theorem dX4_advanceAtMost_9 : decode cX4_advanceAtMost 9 = .ok (.invokevirtual 73, 3) := by decide +kernel
theorem dX4_advanceAtMost_12 : decode cX4_advanceAtMost 12 = .ok (.ifCond .ne 17, 3) := by decide +kernel
theorem dX4_advanceAtMost_15 : decode cX4_advanceAtMost 15 = .ok (.aload_n 1, 1) := by decide +kernel
theorem dX4_advanceAtMost_16 : decode cX4_advanceAtMost 16 = .ok (.aload_n 0, 1) := by decide +kernel
theorem dX4_advanceAtMost_17 : decode cX4_advanceAtMost 17 = .ok (.getfield 19, 3) := by decide +kernel
theorem dX4_advanceAtMost_20 : decode cX4_advanceAtMost 20 = .ok (.invokevirtual 193, 3) := by decide +kernel
theorem dX4_advanceAtMost_23 : decode cX4_advanceAtMost 23 = .ok (.iinc 3 1, 3) := by decide +kernel
theorem dX4_advanceAtMost_26 : decode cX4_advanceAtMost 26 = .ok (.goto (-24), 3) := by decide +kernel
theorem dX4_advanceAtMost_29 : decode cX4_advanceAtMost 29 = .ok (.iload_n 3, 1) := by decide +kernel
theorem dX4_advanceAtMost_30 : decode cX4_advanceAtMost 30 = .ok (.ireturn, 1) := by decide +kernel
theorem dX4_rowOfStep_0 : decode cX4_rowOfStep 0 = .ok (.bipush 6, 2) := by decide +kernel
theorem dX4_rowOfStep_2 : decode cX4_rowOfStep 2 = .ok (.iload_n 0, 1) := by decide +kernel
theorem dX4_rowOfStep_3 : decode cX4_rowOfStep 3 = .ok (.bipush 10, 2) := by decide +kernel
theorem dX4_rowOfStep_5 : decode cX4_rowOfStep 5 = .ok (.invokestatic 196, 3) := by decide +kernel
theorem dX4_rowOfStep_8 : decode cX4_rowOfStep 8 = .ok (.imul, 1) := by decide +kernel
theorem dX4_rowOfStep_9 : decode cX4_rowOfStep 9 = .ok (.ireturn, 1) := by decide +kernel
theorem dX4_together_0 : decode cX4_together 0 = .ok (.iload_n 0, 1) := by decide +kernel
theorem dX4_together_1 : decode cX4_together 1 = .ok (.iconst 3, 1) := by decide +kernel
theorem dX4_together_2 : decode cX4_together 2 = .ok (.if_icmp .ne 7, 3) := by decide +kernel
theorem dX4_together_5 : decode cX4_together 5 = .ok (.iload_n 1, 1) := by decide +kernel
theorem dX4_together_6 : decode cX4_together 6 = .ok (.iload_n 2, 1) := by decide +kernel
theorem dX4_together_7 : decode cX4_together 7 = .ok (.iadd, 1) := by decide +kernel
theorem dX4_together_8 : decode cX4_together 8 = .ok (.ireturn, 1) := by decide +kernel
theorem dX4_together_9 : decode cX4_together 9 = .ok (.iload_n 0, 1) := by decide +kernel
theorem dX4_together_10 : decode cX4_together 10 = .ok (.ifCond .ne 11, 3) := by decide +kernel
theorem dX4_together_13 : decode cX4_together 13 = .ok (.iload_n 1, 1) := by decide +kernel
theorem dX4_together_14 : decode cX4_together 14 = .ok (.iload_n 2, 1) := by decide +kernel
theorem dX4_together_15 : decode cX4_together 15 = .ok (.if_icmp .le 15, 3) := by decide +kernel
theorem dX4_together_18 : decode cX4_together 18 = .ok (.goto 8, 3) := by decide +kernel
theorem dX4_together_21 : decode cX4_together 21 = .ok (.iload_n 1, 1) := by decide +kernel
theorem dX4_together_22 : decode cX4_together 22 = .ok (.iload_n 2, 1) := by decide +kernel
theorem dX4_together_23 : decode cX4_together 23 = .ok (.if_icmp .ge 7, 3) := by decide +kernel
theorem dX4_together_26 : decode cX4_together 26 = .ok (.iload_n 1, 1) := by decide +kernel
theorem dX4_together_27 : decode cX4_together 27 = .ok (.goto 4, 3) := by decide +kernel
theorem dX4_together_30 : decode cX4_together 30 = .ok (.iload_n 2, 1) := by decide +kernel
theorem dX4_together_31 : decode cX4_together 31 = .ok (.ireturn, 1) := by decide +kernel
theorem dX5_in_0 : decode cX5_in 0 = .ok (.iload_n 0, 1) := by decide +kernel
theorem dX5_in_1 : decode cX5_in 1 = .ok (.iload_n 1, 1) := by decide +kernel
theorem dX5_in_2 : decode cX5_in 2 = .ok (.if_icmp .lt 12, 3) := by decide +kernel
theorem dX5_in_5 : decode cX5_in 5 = .ok (.iload_n 0, 1) := by decide +kernel
theorem dX5_in_6 : decode cX5_in 6 = .ok (.iload_n 2, 1) := by decide +kernel
theorem dX5_in_7 : decode cX5_in 7 = .ok (.if_icmp .gt 7, 3) := by decide +kernel
theorem dX5_in_10 : decode cX5_in 10 = .ok (.iconst 1, 1) := by decide +kernel
theorem dX5_in_11 : decode cX5_in 11 = .ok (.goto 4, 3) := by decide +kernel
theorem dX5_in_14 : decode cX5_in 14 = .ok (.iconst 0, 1) := by decide +kernel
theorem dX5_in_15 : decode cX5_in 15 = .ok (.ireturn, 1) := by decide +kernel
theorem dX5_greater_0 : decode cX5_greater 0 = .ok (.iload_n 0, 1) := by decide +kernel
theorem dX5_greater_1 : decode cX5_greater 1 = .ok (.iload_n 1, 1) := by decide +kernel
theorem dX5_greater_2 : decode cX5_greater 2 = .ok (.if_icmp .le 7, 3) := by decide +kernel
theorem dX5_greater_5 : decode cX5_greater 5 = .ok (.iload_n 0, 1) := by decide +kernel
theorem dX5_greater_6 : decode cX5_greater 6 = .ok (.goto 4, 3) := by decide +kernel
theorem dX5_greater_9 : decode cX5_greater 9 = .ok (.iload_n 1, 1) := by decide +kernel
theorem dX5_greater_10 : decode cX5_greater 10 = .ok (.ireturn, 1) := by decide +kernel
theorem dX5_lesser_0 : decode cX5_lesser 0 = .ok (.iload_n 0, 1) := by decide +kernel
theorem dX5_lesser_1 : decode cX5_lesser 1 = .ok (.iload_n 1, 1) := by decide +kernel
theorem dX5_lesser_2 : decode cX5_lesser 2 = .ok (.if_icmp .ge 7, 3) := by decide +kernel
theorem dX5_lesser_5 : decode cX5_lesser 5 = .ok (.iload_n 0, 1) := by decide +kernel
theorem dX5_lesser_6 : decode cX5_lesser 6 = .ok (.goto 4, 3) := by decide +kernel
theorem dX5_lesser_9 : decode cX5_lesser 9 = .ok (.iload_n 1, 1) := by decide +kernel
theorem dX5_lesser_10 : decode cX5_lesser 10 = .ok (.ireturn, 1) := by decide +kernel
theorem dX5_init_0 : decode cX5_init 0 = .ok (.aload_n 0, 1) := by decide +kernel
theorem dX5_init_1 : decode cX5_init 1 = .ok (.invokespecial 1, 3) := by decide +kernel
theorem dX5_init_4 : decode cX5_init 4 = .ok (.aload_n 0, 1) := by decide +kernel
theorem dX5_init_5 : decode cX5_init 5 = .ok (.sipush 260, 3) := by decide +kernel
theorem dX5_init_8 : decode cX5_init 8 = .ok (.newarray .int, 2) := by decide +kernel
theorem dX5_init_10 : decode cX5_init 10 = .ok (.putfield 7, 3) := by decide +kernel
theorem dX5_init_13 : decode cX5_init 13 = .ok (.aload_n 0, 1) := by decide +kernel
theorem dX5_init_14 : decode cX5_init 14 = .ok (.sipush 260, 3) := by decide +kernel
theorem dX5_init_17 : decode cX5_init 17 = .ok (.newarray .int, 2) := by decide +kernel
theorem dX5_init_19 : decode cX5_init 19 = .ok (.putfield 13, 3) := by decide +kernel
theorem dX5_init_22 : decode cX5_init 22 = .ok (.aload_n 0, 1) := by decide +kernel
theorem dX5_init_23 : decode cX5_init 23 = .ok (.sipush 1040, 3) := by decide +kernel
theorem dX5_init_26 : decode cX5_init 26 = .ok (.newarray .int, 2) := by decide +kernel
theorem dX5_init_28 : decode cX5_init 28 = .ok (.putfield 16, 3) := by decide +kernel
theorem dX5_init_31 : decode cX5_init 31 = .ok (.aload_n 0, 1) := by decide +kernel
theorem dX5_init_32 : decode cX5_init 32 = .ok (.sipush 200, 3) := by decide +kernel
theorem dX5_init_35 : decode cX5_init 35 = .ok (.newarray .int, 2) := by decide +kernel
theorem dX5_init_37 : decode cX5_init 37 = .ok (.putfield 19, 3) := by decide +kernel
theorem dX5_init_40 : decode cX5_init 40 = .ok (.aload_n 0, 1) := by decide +kernel
theorem dX5_init_41 : decode cX5_init 41 = .ok (.iconst 3, 1) := by decide +kernel
theorem dX5_init_42 : decode cX5_init 42 = .ok (.newarray .int, 2) := by decide +kernel
theorem dX5_init_44 : decode cX5_init 44 = .ok (.putfield 22, 3) := by decide +kernel
theorem dX5_init_47 : decode cX5_init 47 = .ok (.aload_n 0, 1) := by decide +kernel
theorem dX5_init_48 : decode cX5_init 48 = .ok (.bipush 64, 2) := by decide +kernel
theorem dX5_init_50 : decode cX5_init 50 = .ok (.newarray .int, 2) := by decide +kernel
theorem dX5_init_52 : decode cX5_init 52 = .ok (.putfield 25, 3) := by decide +kernel
theorem dX5_init_55 : decode cX5_init 55 = .ok (.aload_n 0, 1) := by decide +kernel
theorem dX5_init_56 : decode cX5_init 56 = .ok (.bipush 12, 2) := by decide +kernel
theorem dX5_init_58 : decode cX5_init 58 = .ok (.newarray .boolean, 2) := by decide +kernel
theorem dX5_init_60 : decode cX5_init 60 = .ok (.putfield 28, 3) := by decide +kernel
theorem dX5_init_63 : decode cX5_init 63 = .ok (.aload_n 0, 1) := by decide +kernel
theorem dX5_init_64 : decode cX5_init 64 = .ok (.sipush 260, 3) := by decide +kernel
theorem dX5_init_67 : decode cX5_init 67 = .ok (.newarray .int, 2) := by decide +kernel
theorem dX5_init_69 : decode cX5_init 69 = .ok (.putfield 32, 3) := by decide +kernel
theorem dX5_init_72 : decode cX5_init 72 = .ok (.aload_n 0, 1) := by decide +kernel
theorem dX5_init_73 : decode cX5_init 73 = .ok (.invokevirtual 35, 3) := by decide +kernel
theorem dX5_init_76 : decode cX5_init 76 = .ok (.aload_n 0, 1) := by decide +kernel
theorem dX5_init_77 : decode cX5_init 77 = .ok (.getfield 13, 3) := by decide +kernel
theorem dX5_init_80 : decode cX5_init 80 = .ok (.iconst 0, 1) := by decide +kernel
theorem dX5_init_81 : decode cX5_init 81 = .ok (.iconst 5, 1) := by decide +kernel
theorem dX5_init_82 : decode cX5_init 82 = .ok (.iastore, 1) := by decide +kernel
theorem dX5_init_83 : decode cX5_init 83 = .ok (.iconst 0, 1) := by decide +kernel
theorem dX5_init_84 : decode cX5_init 84 = .ok (.istore_n 1, 1) := by decide +kernel
theorem dX5_init_85 : decode cX5_init 85 = .ok (.iload_n 1, 1) := by decide +kernel
theorem dX5_init_86 : decode cX5_init 86 = .ok (.iconst 5, 1) := by decide +kernel
theorem dX5_init_87 : decode cX5_init 87 = .ok (.if_icmp .ge 25, 3) := by decide +kernel
theorem dX5_init_90 : decode cX5_init 90 = .ok (.aload_n 0, 1) := by decide +kernel
theorem dX5_init_91 : decode cX5_init 91 = .ok (.getfield 13, 3) := by decide +kernel
theorem dX5_init_94 : decode cX5_init 94 = .ok (.bipush 60, 2) := by decide +kernel
theorem dX5_init_96 : decode cX5_init 96 = .ok (.bipush 6, 2) := by decide +kernel
theorem dX5_init_98 : decode cX5_init 98 = .ok (.iload_n 1, 1) := by decide +kernel
theorem dX5_init_99 : decode cX5_init 99 = .ok (.imul, 1) := by decide +kernel
theorem dX5_init_100 : decode cX5_init 100 = .ok (.iadd, 1) := by decide +kernel
theorem dX5_init_101 : decode cX5_init 101 = .ok (.bipush 10, 2) := by decide +kernel
theorem dX5_init_103 : decode cX5_init 103 = .ok (.iload_n 1, 1) := by decide +kernel
theorem dX5_init_104 : decode cX5_init 104 = .ok (.imul, 1) := by decide +kernel
theorem dX5_init_105 : decode cX5_init 105 = .ok (.iastore, 1) := by decide +kernel
theorem dX5_init_106 : decode cX5_init 106 = .ok (.iinc 1 1, 3) := by decide +kernel
theorem dX5_init_109 : decode cX5_init 109 = .ok (.goto (-24), 3) := by decide +kernel
theorem dX5_init_112 : decode cX5_init 112 = .ok (.aload_n 0, 1) := by decide +kernel
theorem dX5_init_113 : decode cX5_init 113 = .ok (.getfield 13, 3) := by decide +kernel
theorem dX5_init_116 : decode cX5_init 116 = .ok (.iconst 2, 1) := by decide +kernel
theorem dX5_init_117 : decode cX5_init 117 = .ok (.iconst 1, 1) := by decide +kernel
theorem dX5_init_118 : decode cX5_init 118 = .ok (.iastore, 1) := by decide +kernel
theorem dX5_init_119 : decode cX5_init 119 = .ok (.aload_n 0, 1) := by decide +kernel
theorem dX5_init_120 : decode cX5_init 120 = .ok (.getfield 13, 3) := by decide +kernel
theorem dX5_init_123 : decode cX5_init 123 = .ok (.iconst 4, 1) := by decide +kernel
theorem dX5_init_124 : decode cX5_init 124 = .ok (.iconst 2, 1) := by decide +kernel
theorem dX5_init_125 : decode cX5_init 125 = .ok (.iastore, 1) := by decide +kernel
theorem dX5_init_126 : decode cX5_init 126 = .ok (.aload_n 0, 1) := by decide +kernel
theorem dX5_init_127 : decode cX5_init 127 = .ok (.getfield 13, 3) := by decide +kernel
theorem dX5_init_130 : decode cX5_init 130 = .ok (.iconst 5, 1) := by decide +kernel
theorem dX5_init_131 : decode cX5_init 131 = .ok (.iconst 2, 1) := by decide +kernel
theorem dX5_init_132 : decode cX5_init 132 = .ok (.iastore, 1) := by decide +kernel
theorem dX5_init_133 : decode cX5_init 133 = .ok (.aload_n 0, 1) := by decide +kernel
theorem dX5_init_134 : decode cX5_init 134 = .ok (.getfield 13, 3) := by decide +kernel
theorem dX5_init_137 : decode cX5_init 137 = .ok (.bipush 6, 2) := by decide +kernel
theorem dX5_init_139 : decode cX5_init 139 = .ok (.iconst 1, 1) := by decide +kernel
theorem dX5_init_140 : decode cX5_init 140 = .ok (.iastore, 1) := by decide +kernel
theorem dX5_init_141 : decode cX5_init 141 = .ok (.aload_n 0, 1) := by decide +kernel
theorem dX5_init_142 : decode cX5_init 142 = .ok (.iconst 0, 1) := by decide +kernel
theorem dX5_init_143 : decode cX5_init 143 = .ok (.iconst 1, 1) := by decide +kernel
theorem dX5_init_144 : decode cX5_init 144 = .ok (.iconst 4, 1) := by decide +kernel
theorem dX5_init_145 : decode cX5_init 145 = .ok (.invokevirtual 38, 3) := by decide +kernel
theorem dX5_init_148 : decode cX5_init 148 = .ok (.aload_n 0, 1) := by decide +kernel
theorem dX5_init_149 : decode cX5_init 149 = .ok (.iconst 1, 1) := by decide +kernel
theorem dX5_init_150 : decode cX5_init 150 = .ok (.iconst 2, 1) := by decide +kernel
theorem dX5_init_151 : decode cX5_init 151 = .ok (.iconst 3, 1) := by decide +kernel
theorem dX5_init_152 : decode cX5_init 152 = .ok (.invokevirtual 38, 3) := by decide +kernel
theorem dX5_init_155 : decode cX5_init 155 = .ok (.aload_n 0, 1) := by decide +kernel
theorem dX5_init_156 : decode cX5_init 156 = .ok (.iconst 0, 1) := by decide +kernel
theorem dX5_init_157 : decode cX5_init 157 = .ok (.iconst 2, 1) := by decide +kernel
theorem dX5_init_158 : decode cX5_init 158 = .ok (.bipush 9, 2) := by decide +kernel
theorem dX5_init_160 : decode cX5_init 160 = .ok (.invokevirtual 38, 3) := by decide +kernel
theorem dX5_init_163 : decode cX5_init 163 = .ok (.aload_n 0, 1) := by decide +kernel
theorem dX5_init_164 : decode cX5_init 164 = .ok (.iconst 2, 1) := by decide +kernel
theorem dX5_init_165 : decode cX5_init 165 = .ok (.iconst 3, 1) := by decide +kernel
theorem dX5_init_166 : decode cX5_init 166 = .ok (.iconst 1, 1) := by decide +kernel
theorem dX5_init_167 : decode cX5_init 167 = .ok (.invokevirtual 38, 3) := by decide +kernel
theorem dX5_init_170 : decode cX5_init 170 = .ok (.aload_n 0, 1) := by decide +kernel
theorem dX5_init_171 : decode cX5_init 171 = .ok (.iconst 3, 1) := by decide +kernel
theorem dX5_init_172 : decode cX5_init 172 = .ok (.iconst 4, 1) := by decide +kernel
theorem dX5_init_173 : decode cX5_init 173 = .ok (.iconst 2, 1) := by decide +kernel
theorem dX5_init_174 : decode cX5_init 174 = .ok (.invokevirtual 38, 3) := by decide +kernel
theorem dX5_init_177 : decode cX5_init 177 = .ok (.aload_n 0, 1) := by decide +kernel
theorem dX5_init_178 : decode cX5_init 178 = .ok (.iconst 4, 1) := by decide +kernel
theorem dX5_init_179 : decode cX5_init 179 = .ok (.iconst 1, 1) := by decide +kernel
theorem dX5_init_180 : decode cX5_init 180 = .ok (.iconst 1, 1) := by decide +kernel
theorem dX5_init_181 : decode cX5_init 181 = .ok (.invokevirtual 38, 3) := by decide +kernel
theorem dX5_init_184 : decode cX5_init 184 = .ok (.aload_n 0, 1) := by decide +kernel
theorem dX5_init_185 : decode cX5_init 185 = .ok (.invokevirtual 42, 3) := by decide +kernel
theorem dX5_init_188 : decode cX5_init 188 = .ok (.return_, 1) := by decide +kernel
theorem dX5_write_0 : decode cX5_write 0 = .ok (.iload_n 1, 1) := by decide +kernel
theorem dX5_write_1 : decode cX5_write 1 = .ok (.bipush 32, 2) := by decide +kernel
theorem dX5_write_3 : decode cX5_write 3 = .ok (.bipush 126, 2) := by decide +kernel
theorem dX5_write_5 : decode cX5_write 5 = .ok (.invokestatic 45, 3) := by decide +kernel
theorem dX5_write_8 : decode cX5_write 8 = .ok (.ifCond .ne 5, 3) := by decide +kernel
theorem dX5_write_11 : decode cX5_write 11 = .ok (.iconst (-1), 1) := by decide +kernel
theorem dX5_write_12 : decode cX5_write 12 = .ok (.ireturn, 1) := by decide +kernel
theorem dX5_write_13 : decode cX5_write 13 = .ok (.aload_n 0, 1) := by decide +kernel
theorem dX5_write_14 : decode cX5_write 14 = .ok (.getfield 49, 3) := by decide +kernel
theorem dX5_write_17 : decode cX5_write 17 = .ok (.sipush 200, 3) := by decide +kernel
theorem dX5_write_20 : decode cX5_write 20 = .ok (.if_icmp .ne 6, 3) := by decide +kernel
theorem dX5_write_23 : decode cX5_write 23 = .ok (.bipush (-3), 2) := by decide +kernel
theorem dX5_write_25 : decode cX5_write 25 = .ok (.ireturn, 1) := by decide +kernel
theorem dX5_write_26 : decode cX5_write 26 = .ok (.aload_n 0, 1) := by decide +kernel
theorem dX5_write_27 : decode cX5_write 27 = .ok (.getfield 19, 3) := by decide +kernel
theorem dX5_write_30 : decode cX5_write 30 = .ok (.aload_n 0, 1) := by decide +kernel
theorem dX5_write_31 : decode cX5_write 31 = .ok (.getfield 49, 3) := by decide +kernel
theorem dX5_write_34 : decode cX5_write 34 = .ok (.iload_n 1, 1) := by decide +kernel
theorem dX5_write_35 : decode cX5_write 35 = .ok (.iastore, 1) := by decide +kernel
theorem dX5_write_36 : decode cX5_write 36 = .ok (.aload_n 0, 1) := by decide +kernel
theorem dX5_write_37 : decode cX5_write 37 = .ok (.dup, 1) := by decide +kernel
theorem dX5_write_38 : decode cX5_write 38 = .ok (.getfield 49, 3) := by decide +kernel
theorem dX5_write_41 : decode cX5_write 41 = .ok (.iconst 1, 1) := by decide +kernel
theorem dX5_write_42 : decode cX5_write 42 = .ok (.iadd, 1) := by decide +kernel
theorem dX5_write_43 : decode cX5_write 43 = .ok (.putfield 49, 3) := by decide +kernel
theorem dX5_write_46 : decode cX5_write 46 = .ok (.aload_n 0, 1) := by decide +kernel
theorem dX5_write_47 : decode cX5_write 47 = .ok (.getfield 49, 3) := by decide +kernel
theorem dX5_write_50 : decode cX5_write 50 = .ok (.ireturn, 1) := by decide +kernel
theorem dX5_wipe_0 : decode cX5_wipe 0 = .ok (.aload_n 0, 1) := by decide +kernel
theorem dX5_wipe_1 : decode cX5_wipe 1 = .ok (.getfield 49, 3) := by decide +kernel
theorem dX5_wipe_4 : decode cX5_wipe 4 = .ok (.istore_n 1, 1) := by decide +kernel
theorem dX5_wipe_5 : decode cX5_wipe 5 = .ok (.aload_n 0, 1) := by decide +kernel
theorem dX5_wipe_6 : decode cX5_wipe 6 = .ok (.iconst 0, 1) := by decide +kernel
theorem dX5_wipe_7 : decode cX5_wipe 7 = .ok (.putfield 49, 3) := by decide +kernel
theorem dX5_wipe_10 : decode cX5_wipe 10 = .ok (.iload_n 1, 1) := by decide +kernel
theorem dX5_wipe_11 : decode cX5_wipe 11 = .ok (.ireturn, 1) := by decide +kernel
theorem dX5_begins_0 : decode cX5_begins 0 = .ok (.iconst 0, 1) := by decide +kernel
theorem dX5_begins_1 : decode cX5_begins 1 = .ok (.istore_n 1, 1) := by decide +kernel
theorem dX5_begins_2 : decode cX5_begins 2 = .ok (.iload_n 1, 1) := by decide +kernel
theorem dX5_begins_3 : decode cX5_begins 3 = .ok (.sipush 260, 3) := by decide +kernel
theorem dX5_begins_6 : decode cX5_begins 6 = .ok (.if_icmp .ge 16, 3) := by decide +kernel
theorem dX5_begins_9 : decode cX5_begins 9 = .ok (.aload_n 0, 1) := by decide +kernel
theorem dX5_begins_10 : decode cX5_begins 10 = .ok (.getfield 13, 3) := by decide +kernel
theorem dX5_begins_13 : decode cX5_begins 13 = .ok (.iload_n 1, 1) := by decide +kernel
theorem dX5_begins_14 : decode cX5_begins 14 = .ok (.iconst 0, 1) := by decide +kernel
theorem dX5_begins_15 : decode cX5_begins 15 = .ok (.iastore, 1) := by decide +kernel
theorem dX5_begins_16 : decode cX5_begins 16 = .ok (.iinc 1 1, 3) := by decide +kernel
theorem dX5_begins_19 : decode cX5_begins 19 = .ok (.goto (-17), 3) := by decide +kernel
theorem dX5_begins_22 : decode cX5_begins 22 = .ok (.aload_n 0, 1) := by decide +kernel
theorem dX5_begins_23 : decode cX5_begins 23 = .ok (.getfield 13, 3) := by decide +kernel
theorem dX5_begins_26 : decode cX5_begins 26 = .ok (.iconst 0, 1) := by decide +kernel
theorem dX5_begins_27 : decode cX5_begins 27 = .ok (.iconst 4, 1) := by decide +kernel
theorem dX5_begins_28 : decode cX5_begins 28 = .ok (.iastore, 1) := by decide +kernel
theorem dX5_begins_29 : decode cX5_begins 29 = .ok (.aload_n 0, 1) := by decide +kernel
theorem dX5_begins_30 : decode cX5_begins 30 = .ok (.getfield 13, 3) := by decide +kernel
theorem dX5_begins_33 : decode cX5_begins 33 = .ok (.iconst 4, 1) := by decide +kernel
theorem dX5_begins_34 : decode cX5_begins 34 = .ok (.iconst 2, 1) := by decide +kernel
theorem dX5_begins_35 : decode cX5_begins 35 = .ok (.iastore, 1) := by decide +kernel
theorem dX5_begins_36 : decode cX5_begins 36 = .ok (.iconst 0, 1) := by decide +kernel
theorem dX5_begins_37 : decode cX5_begins 37 = .ok (.istore_n 1, 1) := by decide +kernel
theorem dX5_begins_38 : decode cX5_begins 38 = .ok (.iload_n 1, 1) := by decide +kernel
theorem dX5_begins_39 : decode cX5_begins 39 = .ok (.bipush 12, 2) := by decide +kernel
theorem dX5_begins_41 : decode cX5_begins 41 = .ok (.if_icmp .ge 25, 3) := by decide +kernel
theorem dX5_begins_44 : decode cX5_begins 44 = .ok (.aload_n 0, 1) := by decide +kernel
theorem dX5_begins_45 : decode cX5_begins 45 = .ok (.getfield 13, 3) := by decide +kernel
theorem dX5_begins_48 : decode cX5_begins 48 = .ok (.bipush 60, 2) := by decide +kernel
theorem dX5_begins_50 : decode cX5_begins 50 = .ok (.bipush 6, 2) := by decide +kernel
theorem dX5_begins_52 : decode cX5_begins 52 = .ok (.iload_n 1, 1) := by decide +kernel
theorem dX5_begins_53 : decode cX5_begins 53 = .ok (.imul, 1) := by decide +kernel
theorem dX5_begins_54 : decode cX5_begins 54 = .ok (.iadd, 1) := by decide +kernel
theorem dX5_begins_55 : decode cX5_begins 55 = .ok (.bipush 10, 2) := by decide +kernel
theorem dX5_begins_57 : decode cX5_begins 57 = .ok (.iload_n 1, 1) := by decide +kernel
theorem dX5_begins_58 : decode cX5_begins 58 = .ok (.imul, 1) := by decide +kernel
theorem dX5_begins_59 : decode cX5_begins 59 = .ok (.iastore, 1) := by decide +kernel
theorem dX5_begins_60 : decode cX5_begins 60 = .ok (.iinc 1 1, 3) := by decide +kernel
theorem dX5_begins_63 : decode cX5_begins 63 = .ok (.goto (-25), 3) := by decide +kernel
theorem dX5_begins_66 : decode cX5_begins 66 = .ok (.return_, 1) := by decide +kernel
theorem dX5_adds_0 : decode cX5_adds 0 = .ok (.bipush 12, 2) := by decide +kernel
theorem dX5_adds_2 : decode cX5_adds 2 = .ok (.iconst 3, 1) := by decide +kernel
theorem dX5_adds_3 : decode cX5_adds 3 = .ok (.aload_n 0, 1) := by decide +kernel
theorem dX5_adds_4 : decode cX5_adds 4 = .ok (.getfield 13, 3) := by decide +kernel
theorem dX5_adds_7 : decode cX5_adds 7 = .ok (.iconst 1, 1) := by decide +kernel
theorem dX5_adds_8 : decode cX5_adds 8 = .ok (.iaload, 1) := by decide +kernel
theorem dX5_adds_9 : decode cX5_adds 9 = .ok (.imul, 1) := by decide +kernel
theorem dX5_adds_10 : decode cX5_adds 10 = .ok (.iadd, 1) := by decide +kernel
theorem dX5_adds_11 : decode cX5_adds 11 = .ok (.istore 4, 2) := by decide +kernel
theorem dX5_adds_13 : decode cX5_adds 13 = .ok (.aload_n 0, 1) := by decide +kernel
theorem dX5_adds_14 : decode cX5_adds 14 = .ok (.getfield 13, 3) := by decide +kernel
theorem dX5_adds_17 : decode cX5_adds 17 = .ok (.iload 4, 2) := by decide +kernel
theorem dX5_adds_19 : decode cX5_adds 19 = .ok (.iload_n 1, 1) := by decide +kernel
theorem dX5_adds_20 : decode cX5_adds 20 = .ok (.iastore, 1) := by decide +kernel
theorem dX5_adds_21 : decode cX5_adds 21 = .ok (.aload_n 0, 1) := by decide +kernel
theorem dX5_adds_22 : decode cX5_adds 22 = .ok (.getfield 13, 3) := by decide +kernel
theorem dX5_adds_25 : decode cX5_adds 25 = .ok (.iload 4, 2) := by decide +kernel
theorem dX5_adds_27 : decode cX5_adds 27 = .ok (.iconst 1, 1) := by decide +kernel
theorem dX5_adds_28 : decode cX5_adds 28 = .ok (.iadd, 1) := by decide +kernel
theorem dX5_adds_29 : decode cX5_adds 29 = .ok (.iload_n 2, 1) := by decide +kernel
theorem dX5_adds_30 : decode cX5_adds 30 = .ok (.iastore, 1) := by decide +kernel
theorem dX5_adds_31 : decode cX5_adds 31 = .ok (.aload_n 0, 1) := by decide +kernel
theorem dX5_adds_32 : decode cX5_adds 32 = .ok (.getfield 13, 3) := by decide +kernel
theorem dX5_adds_35 : decode cX5_adds 35 = .ok (.iload 4, 2) := by decide +kernel
theorem dX5_adds_37 : decode cX5_adds 37 = .ok (.iconst 2, 1) := by decide +kernel
theorem dX5_adds_38 : decode cX5_adds 38 = .ok (.iadd, 1) := by decide +kernel
theorem dX5_adds_39 : decode cX5_adds 39 = .ok (.iload_n 3, 1) := by decide +kernel
theorem dX5_adds_40 : decode cX5_adds 40 = .ok (.iastore, 1) := by decide +kernel
theorem dX5_adds_41 : decode cX5_adds 41 = .ok (.aload_n 0, 1) := by decide +kernel
theorem dX5_adds_42 : decode cX5_adds 42 = .ok (.getfield 13, 3) := by decide +kernel
theorem dX5_adds_45 : decode cX5_adds 45 = .ok (.iconst 1, 1) := by decide +kernel
theorem dX5_adds_46 : decode cX5_adds 46 = .ok (.dup2, 1) := by decide +kernel
theorem dX5_adds_47 : decode cX5_adds 47 = .ok (.iaload, 1) := by decide +kernel
theorem dX5_adds_48 : decode cX5_adds 48 = .ok (.iconst 1, 1) := by decide +kernel
theorem dX5_adds_49 : decode cX5_adds 49 = .ok (.iadd, 1) := by decide +kernel
theorem dX5_adds_50 : decode cX5_adds 50 = .ok (.iastore, 1) := by decide +kernel
theorem dX5_adds_51 : decode cX5_adds 51 = .ok (.return_, 1) := by decide +kernel
theorem dX5_isFigure_0 : decode cX5_isFigure 0 = .ok (.aload_n 0, 1) := by decide +kernel
theorem dX5_isFigure_1 : decode cX5_isFigure 1 = .ok (.getfield 53, 3) := by decide +kernel
theorem dX5_isFigure_4 : decode cX5_isFigure 4 = .ok (.aload_n 0, 1) := by decide +kernel
theorem dX5_isFigure_5 : decode cX5_isFigure 5 = .ok (.getfield 49, 3) := by decide +kernel
theorem dX5_isFigure_8 : decode cX5_isFigure 8 = .ok (.if_icmp .ge 26, 3) := by decide +kernel
theorem dX5_isFigure_11 : decode cX5_isFigure 11 = .ok (.aload_n 0, 1) := by decide +kernel
theorem dX5_isFigure_12 : decode cX5_isFigure 12 = .ok (.getfield 19, 3) := by decide +kernel
theorem dX5_isFigure_15 : decode cX5_isFigure 15 = .ok (.aload_n 0, 1) := by decide +kernel
theorem dX5_isFigure_16 : decode cX5_isFigure 16 = .ok (.getfield 53, 3) := by decide +kernel
theorem dX5_isFigure_19 : decode cX5_isFigure 19 = .ok (.iaload, 1) := by decide +kernel
theorem dX5_isFigure_20 : decode cX5_isFigure 20 = .ok (.bipush 48, 2) := by decide +kernel
theorem dX5_isFigure_22 : decode cX5_isFigure 22 = .ok (.bipush 57, 2) := by decide +kernel
theorem dX5_isFigure_24 : decode cX5_isFigure 24 = .ok (.invokestatic 45, 3) := by decide +kernel
theorem dX5_isFigure_27 : decode cX5_isFigure 27 = .ok (.ifCond .eq 7, 3) := by decide +kernel
theorem dX5_isFigure_30 : decode cX5_isFigure 30 = .ok (.iconst 1, 1) := by decide +kernel
theorem dX5_isFigure_31 : decode cX5_isFigure 31 = .ok (.goto 4, 3) := by decide +kernel
theorem dX5_isFigure_34 : decode cX5_isFigure 34 = .ok (.iconst 0, 1) := by decide +kernel
theorem dX5_isFigure_35 : decode cX5_isFigure 35 = .ok (.ireturn, 1) := by decide +kernel
theorem dX5_isSign_0 : decode cX5_isSign 0 = .ok (.aload_n 0, 1) := by decide +kernel
theorem dX5_isSign_1 : decode cX5_isSign 1 = .ok (.getfield 53, 3) := by decide +kernel
theorem dX5_isSign_4 : decode cX5_isSign 4 = .ok (.aload_n 0, 1) := by decide +kernel
theorem dX5_isSign_5 : decode cX5_isSign 5 = .ok (.getfield 49, 3) := by decide +kernel
theorem dX5_isSign_8 : decode cX5_isSign 8 = .ok (.if_icmp .ge 20, 3) := by decide +kernel
theorem dX5_isSign_11 : decode cX5_isSign 11 = .ok (.aload_n 0, 1) := by decide +kernel
theorem dX5_isSign_12 : decode cX5_isSign 12 = .ok (.getfield 19, 3) := by decide +kernel
theorem dX5_isSign_15 : decode cX5_isSign 15 = .ok (.aload_n 0, 1) := by decide +kernel
theorem dX5_isSign_16 : decode cX5_isSign 16 = .ok (.getfield 53, 3) := by decide +kernel
theorem dX5_isSign_19 : decode cX5_isSign 19 = .ok (.iaload, 1) := by decide +kernel
theorem dX5_isSign_20 : decode cX5_isSign 20 = .ok (.iload_n 1, 1) := by decide +kernel
theorem dX5_isSign_21 : decode cX5_isSign 21 = .ok (.if_icmp .ne 7, 3) := by decide +kernel
theorem dX5_isSign_24 : decode cX5_isSign 24 = .ok (.iconst 1, 1) := by decide +kernel
theorem dX5_isSign_25 : decode cX5_isSign 25 = .ok (.goto 4, 3) := by decide +kernel
theorem dX5_isSign_28 : decode cX5_isSign 28 = .ok (.iconst 0, 1) := by decide +kernel
theorem dX5_isSign_29 : decode cX5_isSign 29 = .ok (.istore_n 2, 1) := by decide +kernel
theorem dX5_isSign_30 : decode cX5_isSign 30 = .ok (.aload_n 0, 1) := by decide +kernel
theorem dX5_isSign_31 : decode cX5_isSign 31 = .ok (.dup, 1) := by decide +kernel
theorem dX5_isSign_32 : decode cX5_isSign 32 = .ok (.getfield 53, 3) := by decide +kernel
theorem dX5_isSign_35 : decode cX5_isSign 35 = .ok (.iload_n 2, 1) := by decide +kernel
theorem dX5_isSign_36 : decode cX5_isSign 36 = .ok (.ifCond .eq 7, 3) := by decide +kernel
theorem dX5_isSign_39 : decode cX5_isSign 39 = .ok (.iconst 1, 1) := by decide +kernel
theorem dX5_isSign_40 : decode cX5_isSign 40 = .ok (.goto 4, 3) := by decide +kernel
theorem dX5_isSign_43 : decode cX5_isSign 43 = .ok (.iconst 0, 1) := by decide +kernel
theorem dX5_isSign_44 : decode cX5_isSign 44 = .ok (.iadd, 1) := by decide +kernel
theorem dX5_isSign_45 : decode cX5_isSign 45 = .ok (.putfield 53, 3) := by decide +kernel
theorem dX5_isSign_48 : decode cX5_isSign 48 = .ok (.iload_n 2, 1) := by decide +kernel
theorem dX5_isSign_49 : decode cX5_isSign 49 = .ok (.ireturn, 1) := by decide +kernel
theorem dX5_readsNumbers_0 : decode cX5_readsNumbers 0 = .ok (.iconst 1, 1) := by decide +kernel
theorem dX5_readsNumbers_1 : decode cX5_readsNumbers 1 = .ok (.istore_n 2, 1) := by decide +kernel
theorem dX5_readsNumbers_2 : decode cX5_readsNumbers 2 = .ok (.iconst 0, 1) := by decide +kernel
theorem dX5_readsNumbers_3 : decode cX5_readsNumbers 3 = .ok (.istore_n 3, 1) := by decide +kernel
theorem dX5_readsNumbers_4 : decode cX5_readsNumbers 4 = .ok (.iload_n 3, 1) := by decide +kernel
theorem dX5_readsNumbers_5 : decode cX5_readsNumbers 5 = .ok (.iload_n 1, 1) := by decide +kernel
theorem dX5_readsNumbers_6 : decode cX5_readsNumbers 6 = .ok (.if_icmp .ge 106, 3) := by decide +kernel
theorem dX5_readsNumbers_9 : decode cX5_readsNumbers 9 = .ok (.iload_n 2, 1) := by decide +kernel
theorem dX5_readsNumbers_10 : decode cX5_readsNumbers 10 = .ok (.ifCond .eq 102, 3) := by decide +kernel
theorem dX5_readsNumbers_13 : decode cX5_readsNumbers 13 = .ok (.iload_n 3, 1) := by decide +kernel
theorem dX5_readsNumbers_14 : decode cX5_readsNumbers 14 = .ok (.ifCond .eq 12, 3) := by decide +kernel
theorem dX5_readsNumbers_17 : decode cX5_readsNumbers 17 = .ok (.aload_n 0, 1) := by decide +kernel
theorem dX5_readsNumbers_18 : decode cX5_readsNumbers 18 = .ok (.bipush 44, 2) := by decide +kernel
theorem dX5_readsNumbers_20 : decode cX5_readsNumbers 20 = .ok (.invokevirtual 56, 3) := by decide +kernel
theorem dX5_readsNumbers_23 : decode cX5_readsNumbers 23 = .ok (.ifCond .eq 14, 3) := by decide +kernel
theorem dX5_readsNumbers_26 : decode cX5_readsNumbers 26 = .ok (.aload_n 0, 1) := by decide +kernel
theorem dX5_readsNumbers_27 : decode cX5_readsNumbers 27 = .ok (.invokevirtual 60, 3) := by decide +kernel
theorem dX5_readsNumbers_30 : decode cX5_readsNumbers 30 = .ok (.ifCond .eq 7, 3) := by decide +kernel
theorem dX5_readsNumbers_33 : decode cX5_readsNumbers 33 = .ok (.iconst 1, 1) := by decide +kernel
theorem dX5_readsNumbers_34 : decode cX5_readsNumbers 34 = .ok (.goto 4, 3) := by decide +kernel
theorem dX5_readsNumbers_37 : decode cX5_readsNumbers 37 = .ok (.iconst 0, 1) := by decide +kernel
theorem dX5_readsNumbers_38 : decode cX5_readsNumbers 38 = .ok (.istore_n 2, 1) := by decide +kernel
theorem dX5_readsNumbers_39 : decode cX5_readsNumbers 39 = .ok (.iconst 0, 1) := by decide +kernel
theorem dX5_readsNumbers_40 : decode cX5_readsNumbers 40 = .ok (.istore 4, 2) := by decide +kernel
theorem dX5_readsNumbers_42 : decode cX5_readsNumbers 42 = .ok (.iconst 0, 1) := by decide +kernel
theorem dX5_readsNumbers_43 : decode cX5_readsNumbers 43 = .ok (.istore 5, 2) := by decide +kernel
theorem dX5_readsNumbers_45 : decode cX5_readsNumbers 45 = .ok (.iload 5, 2) := by decide +kernel
theorem dX5_readsNumbers_47 : decode cX5_readsNumbers 47 = .ok (.iconst 3, 1) := by decide +kernel
theorem dX5_readsNumbers_48 : decode cX5_readsNumbers 48 = .ok (.if_icmp .ge 50, 3) := by decide +kernel
theorem dX5_readsNumbers_51 : decode cX5_readsNumbers 51 = .ok (.iload_n 2, 1) := by decide +kernel
theorem dX5_readsNumbers_52 : decode cX5_readsNumbers 52 = .ok (.ifCond .eq 46, 3) := by decide +kernel
theorem dX5_readsNumbers_55 : decode cX5_readsNumbers 55 = .ok (.aload_n 0, 1) := by decide +kernel
theorem dX5_readsNumbers_56 : decode cX5_readsNumbers 56 = .ok (.invokevirtual 60, 3) := by decide +kernel
theorem dX5_readsNumbers_59 : decode cX5_readsNumbers 59 = .ok (.ifCond .eq 39, 3) := by decide +kernel
theorem dX5_readsNumbers_62 : decode cX5_readsNumbers 62 = .ok (.bipush 10, 2) := by decide +kernel
theorem dX5_readsNumbers_64 : decode cX5_readsNumbers 64 = .ok (.iload 4, 2) := by decide +kernel
theorem dX5_readsNumbers_66 : decode cX5_readsNumbers 66 = .ok (.imul, 1) := by decide +kernel
theorem dX5_readsNumbers_67 : decode cX5_readsNumbers 67 = .ok (.aload_n 0, 1) := by decide +kernel
theorem dX5_readsNumbers_68 : decode cX5_readsNumbers 68 = .ok (.getfield 19, 3) := by decide +kernel
theorem dX5_readsNumbers_71 : decode cX5_readsNumbers 71 = .ok (.aload_n 0, 1) := by decide +kernel
theorem dX5_readsNumbers_72 : decode cX5_readsNumbers 72 = .ok (.getfield 53, 3) := by decide +kernel
theorem dX5_readsNumbers_75 : decode cX5_readsNumbers 75 = .ok (.iaload, 1) := by decide +kernel
theorem dX5_readsNumbers_76 : decode cX5_readsNumbers 76 = .ok (.iadd, 1) := by decide +kernel
theorem dX5_readsNumbers_77 : decode cX5_readsNumbers 77 = .ok (.bipush 48, 2) := by decide +kernel
theorem dX5_readsNumbers_79 : decode cX5_readsNumbers 79 = .ok (.isub, 1) := by decide +kernel
theorem dX5_readsNumbers_80 : decode cX5_readsNumbers 80 = .ok (.istore 4, 2) := by decide +kernel
theorem dX5_readsNumbers_82 : decode cX5_readsNumbers 82 = .ok (.aload_n 0, 1) := by decide +kernel
theorem dX5_readsNumbers_83 : decode cX5_readsNumbers 83 = .ok (.dup, 1) := by decide +kernel
theorem dX5_readsNumbers_84 : decode cX5_readsNumbers 84 = .ok (.getfield 53, 3) := by decide +kernel
theorem dX5_readsNumbers_87 : decode cX5_readsNumbers 87 = .ok (.iconst 1, 1) := by decide +kernel
theorem dX5_readsNumbers_88 : decode cX5_readsNumbers 88 = .ok (.iadd, 1) := by decide +kernel
theorem dX5_readsNumbers_89 : decode cX5_readsNumbers 89 = .ok (.putfield 53, 3) := by decide +kernel
theorem dX5_readsNumbers_92 : decode cX5_readsNumbers 92 = .ok (.iinc 5 1, 3) := by decide +kernel
theorem dX5_readsNumbers_95 : decode cX5_readsNumbers 95 = .ok (.goto (-50), 3) := by decide +kernel
theorem dX5_readsNumbers_98 : decode cX5_readsNumbers 98 = .ok (.aload_n 0, 1) := by decide +kernel
theorem dX5_readsNumbers_99 : decode cX5_readsNumbers 99 = .ok (.getfield 22, 3) := by decide +kernel
theorem dX5_readsNumbers_102 : decode cX5_readsNumbers 102 = .ok (.iload_n 3, 1) := by decide +kernel
theorem dX5_readsNumbers_103 : decode cX5_readsNumbers 103 = .ok (.iload 4, 2) := by decide +kernel
theorem dX5_readsNumbers_105 : decode cX5_readsNumbers 105 = .ok (.iastore, 1) := by decide +kernel
theorem dX5_readsNumbers_106 : decode cX5_readsNumbers 106 = .ok (.iinc 3 1, 3) := by decide +kernel
theorem dX5_readsNumbers_109 : decode cX5_readsNumbers 109 = .ok (.goto (-105), 3) := by decide +kernel
theorem dX5_readsNumbers_112 : decode cX5_readsNumbers 112 = .ok (.iload_n 2, 1) := by decide +kernel
theorem dX5_readsNumbers_113 : decode cX5_readsNumbers 113 = .ok (.ifCond .eq 16, 3) := by decide +kernel
theorem dX5_readsNumbers_116 : decode cX5_readsNumbers 116 = .ok (.aload_n 0, 1) := by decide +kernel
theorem dX5_readsNumbers_117 : decode cX5_readsNumbers 117 = .ok (.bipush 59, 2) := by decide +kernel
theorem dX5_readsNumbers_119 : decode cX5_readsNumbers 119 = .ok (.invokevirtual 56, 3) := by decide +kernel
theorem dX5_readsNumbers_122 : decode cX5_readsNumbers 122 = .ok (.ifCond .eq 7, 3) := by decide +kernel
theorem dX5_readsNumbers_125 : decode cX5_readsNumbers 125 = .ok (.iconst 1, 1) := by decide +kernel
theorem dX5_readsNumbers_126 : decode cX5_readsNumbers 126 = .ok (.goto 4, 3) := by decide +kernel
theorem dX5_readsNumbers_129 : decode cX5_readsNumbers 129 = .ok (.iconst 0, 1) := by decide +kernel
theorem dX5_readsNumbers_130 : decode cX5_readsNumbers 130 = .ok (.ireturn, 1) := by decide +kernel
theorem dX5_isPoint_0 : decode cX5_isPoint 0 = .ok (.iload_n 1, 1) := by decide +kernel
theorem dX5_isPoint_1 : decode cX5_isPoint 1 = .ok (.iconst 0, 1) := by decide +kernel
theorem dX5_isPoint_2 : decode cX5_isPoint 2 = .ok (.aload_n 0, 1) := by decide +kernel
theorem dX5_isPoint_3 : decode cX5_isPoint 3 = .ok (.getfield 13, 3) := by decide +kernel
theorem dX5_isPoint_6 : decode cX5_isPoint 6 = .ok (.iconst 0, 1) := by decide +kernel
theorem dX5_isPoint_7 : decode cX5_isPoint 7 = .ok (.iaload, 1) := by decide +kernel
theorem dX5_isPoint_8 : decode cX5_isPoint 8 = .ok (.iconst 1, 1) := by decide +kernel
theorem dX5_isPoint_9 : decode cX5_isPoint 9 = .ok (.isub, 1) := by decide +kernel
theorem dX5_isPoint_10 : decode cX5_isPoint 10 = .ok (.invokestatic 45, 3) := by decide +kernel
theorem dX5_isPoint_13 : decode cX5_isPoint 13 = .ok (.ireturn, 1) := by decide +kernel
theorem dX5_readsLink_0 : decode cX5_readsLink 0 = .ok (.aload_n 0, 1) := by decide +kernel
theorem dX5_readsLink_1 : decode cX5_readsLink 1 = .ok (.iconst 3, 1) := by decide +kernel
theorem dX5_readsLink_2 : decode cX5_readsLink 2 = .ok (.invokevirtual 64, 3) := by decide +kernel
theorem dX5_readsLink_5 : decode cX5_readsLink 5 = .ok (.ifCond .eq 70, 3) := by decide +kernel
theorem dX5_readsLink_8 : decode cX5_readsLink 8 = .ok (.aload_n 0, 1) := by decide +kernel
theorem dX5_readsLink_9 : decode cX5_readsLink 9 = .ok (.aload_n 0, 1) := by decide +kernel
theorem dX5_readsLink_10 : decode cX5_readsLink 10 = .ok (.getfield 22, 3) := by decide +kernel
theorem dX5_readsLink_13 : decode cX5_readsLink 13 = .ok (.iconst 0, 1) := by decide +kernel
theorem dX5_readsLink_14 : decode cX5_readsLink 14 = .ok (.iaload, 1) := by decide +kernel
theorem dX5_readsLink_15 : decode cX5_readsLink 15 = .ok (.invokevirtual 67, 3) := by decide +kernel
theorem dX5_readsLink_18 : decode cX5_readsLink 18 = .ok (.ifCond .eq 57, 3) := by decide +kernel
theorem dX5_readsLink_21 : decode cX5_readsLink 21 = .ok (.aload_n 0, 1) := by decide +kernel
theorem dX5_readsLink_22 : decode cX5_readsLink 22 = .ok (.aload_n 0, 1) := by decide +kernel
theorem dX5_readsLink_23 : decode cX5_readsLink 23 = .ok (.getfield 22, 3) := by decide +kernel
theorem dX5_readsLink_26 : decode cX5_readsLink 26 = .ok (.iconst 1, 1) := by decide +kernel
theorem dX5_readsLink_27 : decode cX5_readsLink 27 = .ok (.iaload, 1) := by decide +kernel
theorem dX5_readsLink_28 : decode cX5_readsLink 28 = .ok (.invokevirtual 67, 3) := by decide +kernel
theorem dX5_readsLink_31 : decode cX5_readsLink 31 = .ok (.ifCond .eq 44, 3) := by decide +kernel
theorem dX5_readsLink_34 : decode cX5_readsLink 34 = .ok (.aload_n 0, 1) := by decide +kernel
theorem dX5_readsLink_35 : decode cX5_readsLink 35 = .ok (.getfield 22, 3) := by decide +kernel
theorem dX5_readsLink_38 : decode cX5_readsLink 38 = .ok (.iconst 0, 1) := by decide +kernel
theorem dX5_readsLink_39 : decode cX5_readsLink 39 = .ok (.iaload, 1) := by decide +kernel
theorem dX5_readsLink_40 : decode cX5_readsLink 40 = .ok (.aload_n 0, 1) := by decide +kernel
theorem dX5_readsLink_41 : decode cX5_readsLink 41 = .ok (.getfield 22, 3) := by decide +kernel
theorem dX5_readsLink_44 : decode cX5_readsLink 44 = .ok (.iconst 1, 1) := by decide +kernel
theorem dX5_readsLink_45 : decode cX5_readsLink 45 = .ok (.iaload, 1) := by decide +kernel
theorem dX5_readsLink_46 : decode cX5_readsLink 46 = .ok (.if_icmp .eq 29, 3) := by decide +kernel
theorem dX5_readsLink_49 : decode cX5_readsLink 49 = .ok (.aload_n 0, 1) := by decide +kernel
theorem dX5_readsLink_50 : decode cX5_readsLink 50 = .ok (.getfield 22, 3) := by decide +kernel
theorem dX5_readsLink_53 : decode cX5_readsLink 53 = .ok (.iconst 2, 1) := by decide +kernel
theorem dX5_readsLink_54 : decode cX5_readsLink 54 = .ok (.iaload, 1) := by decide +kernel
theorem dX5_readsLink_55 : decode cX5_readsLink 55 = .ok (.iconst 1, 1) := by decide +kernel
theorem dX5_readsLink_56 : decode cX5_readsLink 56 = .ok (.bipush 99, 2) := by decide +kernel
theorem dX5_readsLink_58 : decode cX5_readsLink 58 = .ok (.invokestatic 45, 3) := by decide +kernel
theorem dX5_readsLink_61 : decode cX5_readsLink 61 = .ok (.ifCond .eq 14, 3) := by decide +kernel
theorem dX5_readsLink_64 : decode cX5_readsLink 64 = .ok (.aload_n 0, 1) := by decide +kernel
theorem dX5_readsLink_65 : decode cX5_readsLink 65 = .ok (.getfield 13, 3) := by decide +kernel
theorem dX5_readsLink_68 : decode cX5_readsLink 68 = .ok (.iconst 1, 1) := by decide +kernel
theorem dX5_readsLink_69 : decode cX5_readsLink 69 = .ok (.iaload, 1) := by decide +kernel
theorem dX5_readsLink_70 : decode cX5_readsLink 70 = .ok (.bipush 16, 2) := by decide +kernel
theorem dX5_readsLink_72 : decode cX5_readsLink 72 = .ok (.if_icmp .ne 5, 3) := by decide +kernel
theorem dX5_readsLink_75 : decode cX5_readsLink 75 = .ok (.iconst 0, 1) := by decide +kernel
theorem dX5_readsLink_76 : decode cX5_readsLink 76 = .ok (.ireturn, 1) := by decide +kernel
theorem dX5_readsLink_77 : decode cX5_readsLink 77 = .ok (.aload_n 0, 1) := by decide +kernel
theorem dX5_readsLink_78 : decode cX5_readsLink 78 = .ok (.aload_n 0, 1) := by decide +kernel
theorem dX5_readsLink_79 : decode cX5_readsLink 79 = .ok (.getfield 22, 3) := by decide +kernel
theorem dX5_readsLink_82 : decode cX5_readsLink 82 = .ok (.iconst 0, 1) := by decide +kernel
theorem dX5_readsLink_83 : decode cX5_readsLink 83 = .ok (.iaload, 1) := by decide +kernel
theorem dX5_readsLink_84 : decode cX5_readsLink 84 = .ok (.aload_n 0, 1) := by decide +kernel
theorem dX5_readsLink_85 : decode cX5_readsLink 85 = .ok (.getfield 22, 3) := by decide +kernel
theorem dX5_readsLink_88 : decode cX5_readsLink 88 = .ok (.iconst 1, 1) := by decide +kernel
theorem dX5_readsLink_89 : decode cX5_readsLink 89 = .ok (.iaload, 1) := by decide +kernel
theorem dX5_readsLink_90 : decode cX5_readsLink 90 = .ok (.aload_n 0, 1) := by decide +kernel
theorem dX5_readsLink_91 : decode cX5_readsLink 91 = .ok (.getfield 22, 3) := by decide +kernel
theorem dX5_readsLink_94 : decode cX5_readsLink 94 = .ok (.iconst 2, 1) := by decide +kernel
theorem dX5_readsLink_95 : decode cX5_readsLink 95 = .ok (.iaload, 1) := by decide +kernel
theorem dX5_readsLink_96 : decode cX5_readsLink 96 = .ok (.invokevirtual 38, 3) := by decide +kernel
theorem dX5_readsLink_99 : decode cX5_readsLink 99 = .ok (.iconst 1, 1) := by decide +kernel
theorem dX5_readsLink_100 : decode cX5_readsLink 100 = .ok (.ireturn, 1) := by decide +kernel
theorem dX5_readsPair_0 : decode cX5_readsPair 0 = .ok (.aload_n 0, 1) := by decide +kernel
theorem dX5_readsPair_1 : decode cX5_readsPair 1 = .ok (.iconst 2, 1) := by decide +kernel
theorem dX5_readsPair_2 : decode cX5_readsPair 2 = .ok (.invokevirtual 64, 3) := by decide +kernel
theorem dX5_readsPair_5 : decode cX5_readsPair 5 = .ok (.ifCond .eq 28, 3) := by decide +kernel
theorem dX5_readsPair_8 : decode cX5_readsPair 8 = .ok (.aload_n 0, 1) := by decide +kernel
theorem dX5_readsPair_9 : decode cX5_readsPair 9 = .ok (.getfield 22, 3) := by decide +kernel
theorem dX5_readsPair_12 : decode cX5_readsPair 12 = .ok (.iconst 0, 1) := by decide +kernel
theorem dX5_readsPair_13 : decode cX5_readsPair 13 = .ok (.iaload, 1) := by decide +kernel
theorem dX5_readsPair_14 : decode cX5_readsPair 14 = .ok (.iload_n 2, 1) := by decide +kernel
theorem dX5_readsPair_15 : decode cX5_readsPair 15 = .ok (.iload_n 3, 1) := by decide +kernel
theorem dX5_readsPair_16 : decode cX5_readsPair 16 = .ok (.invokestatic 45, 3) := by decide +kernel
theorem dX5_readsPair_19 : decode cX5_readsPair 19 = .ok (.ifCond .eq 14, 3) := by decide +kernel
theorem dX5_readsPair_22 : decode cX5_readsPair 22 = .ok (.aload_n 0, 1) := by decide +kernel
theorem dX5_readsPair_23 : decode cX5_readsPair 23 = .ok (.getfield 22, 3) := by decide +kernel
theorem dX5_readsPair_26 : decode cX5_readsPair 26 = .ok (.iconst 1, 1) := by decide +kernel
theorem dX5_readsPair_27 : decode cX5_readsPair 27 = .ok (.iaload, 1) := by decide +kernel
theorem dX5_readsPair_28 : decode cX5_readsPair 28 = .ok (.iload 4, 2) := by decide +kernel
theorem dX5_readsPair_30 : decode cX5_readsPair 30 = .ok (.if_icmp .le 5, 3) := by decide +kernel
theorem dX5_readsPair_33 : decode cX5_readsPair 33 = .ok (.iconst 0, 1) := by decide +kernel
theorem dX5_readsPair_34 : decode cX5_readsPair 34 = .ok (.ireturn, 1) := by decide +kernel
theorem dX5_readsPair_35 : decode cX5_readsPair 35 = .ok (.aload_n 0, 1) := by decide +kernel
theorem dX5_readsPair_36 : decode cX5_readsPair 36 = .ok (.getfield 13, 3) := by decide +kernel
theorem dX5_readsPair_39 : decode cX5_readsPair 39 = .ok (.iload_n 1, 1) := by decide +kernel
theorem dX5_readsPair_40 : decode cX5_readsPair 40 = .ok (.aload_n 0, 1) := by decide +kernel
theorem dX5_readsPair_41 : decode cX5_readsPair 41 = .ok (.getfield 22, 3) := by decide +kernel
theorem dX5_readsPair_44 : decode cX5_readsPair 44 = .ok (.iconst 0, 1) := by decide +kernel
theorem dX5_readsPair_45 : decode cX5_readsPair 45 = .ok (.iaload, 1) := by decide +kernel
theorem dX5_readsPair_46 : decode cX5_readsPair 46 = .ok (.iastore, 1) := by decide +kernel
theorem dX5_readsPair_47 : decode cX5_readsPair 47 = .ok (.aload_n 0, 1) := by decide +kernel
theorem dX5_readsPair_48 : decode cX5_readsPair 48 = .ok (.getfield 13, 3) := by decide +kernel
theorem dX5_readsPair_51 : decode cX5_readsPair 51 = .ok (.iload_n 1, 1) := by decide +kernel
theorem dX5_readsPair_52 : decode cX5_readsPair 52 = .ok (.iconst 1, 1) := by decide +kernel
theorem dX5_readsPair_53 : decode cX5_readsPair 53 = .ok (.iadd, 1) := by decide +kernel
theorem dX5_readsPair_54 : decode cX5_readsPair 54 = .ok (.aload_n 0, 1) := by decide +kernel
theorem dX5_readsPair_55 : decode cX5_readsPair 55 = .ok (.getfield 22, 3) := by decide +kernel
theorem dX5_readsPair_58 : decode cX5_readsPair 58 = .ok (.iconst 1, 1) := by decide +kernel
theorem dX5_readsPair_59 : decode cX5_readsPair 59 = .ok (.iaload, 1) := by decide +kernel
theorem dX5_readsPair_60 : decode cX5_readsPair 60 = .ok (.iastore, 1) := by decide +kernel
theorem dX5_readsPair_61 : decode cX5_readsPair 61 = .ok (.iconst 1, 1) := by decide +kernel
theorem dX5_readsPair_62 : decode cX5_readsPair 62 = .ok (.ireturn, 1) := by decide +kernel
theorem dX5_readsItem_0 : decode cX5_readsItem 0 = .ok (.iload_n 1, 1) := by decide +kernel
theorem dX5_readsItem_1 : decode cX5_readsItem 1 = .ok (.lookupswitch 210 #[(99, 175), (107, 155), (108, 102), (110, 59), (118, 107), (119, 165)], 59) := by decide +kernel
theorem dX5_readsItem_60 : decode cX5_readsItem 60 = .ok (.iload_n 2, 1) := by decide +kernel
theorem dX5_readsItem_61 : decode cX5_readsItem 61 = .ok (.ifCond .eq 26, 3) := by decide +kernel
theorem dX5_readsItem_64 : decode cX5_readsItem 64 = .ok (.aload_n 0, 1) := by decide +kernel
theorem dX5_readsItem_65 : decode cX5_readsItem 65 = .ok (.iconst 1, 1) := by decide +kernel
theorem dX5_readsItem_66 : decode cX5_readsItem 66 = .ok (.invokevirtual 64, 3) := by decide +kernel
theorem dX5_readsItem_69 : decode cX5_readsItem 69 = .ok (.ifCond .eq 18, 3) := by decide +kernel
theorem dX5_readsItem_72 : decode cX5_readsItem 72 = .ok (.aload_n 0, 1) := by decide +kernel
theorem dX5_readsItem_73 : decode cX5_readsItem 73 = .ok (.getfield 22, 3) := by decide +kernel
theorem dX5_readsItem_76 : decode cX5_readsItem 76 = .ok (.iconst 0, 1) := by decide +kernel
theorem dX5_readsItem_77 : decode cX5_readsItem 77 = .ok (.iaload, 1) := by decide +kernel
theorem dX5_readsItem_78 : decode cX5_readsItem 78 = .ok (.iconst 2, 1) := by decide +kernel
theorem dX5_readsItem_79 : decode cX5_readsItem 79 = .ok (.bipush 12, 2) := by decide +kernel
theorem dX5_readsItem_81 : decode cX5_readsItem 81 = .ok (.invokestatic 45, 3) := by decide +kernel
theorem dX5_readsItem_84 : decode cX5_readsItem 84 = .ok (.ifCond .ne 5, 3) := by decide +kernel
theorem dX5_readsItem_87 : decode cX5_readsItem 87 = .ok (.iconst 0, 1) := by decide +kernel
theorem dX5_readsItem_88 : decode cX5_readsItem 88 = .ok (.ireturn, 1) := by decide +kernel
theorem dX5_readsItem_89 : decode cX5_readsItem 89 = .ok (.aload_n 0, 1) := by decide +kernel
theorem dX5_readsItem_90 : decode cX5_readsItem 90 = .ok (.getfield 13, 3) := by decide +kernel
theorem dX5_readsItem_93 : decode cX5_readsItem 93 = .ok (.iconst 0, 1) := by decide +kernel
theorem dX5_readsItem_94 : decode cX5_readsItem 94 = .ok (.aload_n 0, 1) := by decide +kernel
theorem dX5_readsItem_95 : decode cX5_readsItem 95 = .ok (.getfield 22, 3) := by decide +kernel
theorem dX5_readsItem_98 : decode cX5_readsItem 98 = .ok (.iconst 0, 1) := by decide +kernel
theorem dX5_readsItem_99 : decode cX5_readsItem 99 = .ok (.iaload, 1) := by decide +kernel
theorem dX5_readsItem_100 : decode cX5_readsItem 100 = .ok (.iastore, 1) := by decide +kernel
theorem dX5_readsItem_101 : decode cX5_readsItem 101 = .ok (.iconst 1, 1) := by decide +kernel
theorem dX5_readsItem_102 : decode cX5_readsItem 102 = .ok (.ireturn, 1) := by decide +kernel
theorem dX5_readsItem_103 : decode cX5_readsItem 103 = .ok (.aload_n 0, 1) := by decide +kernel
theorem dX5_readsItem_104 : decode cX5_readsItem 104 = .ok (.invokevirtual 70, 3) := by decide +kernel
theorem dX5_readsItem_107 : decode cX5_readsItem 107 = .ok (.ireturn, 1) := by decide +kernel
theorem dX5_readsItem_108 : decode cX5_readsItem 108 = .ok (.aload_n 0, 1) := by decide +kernel
theorem dX5_readsItem_109 : decode cX5_readsItem 109 = .ok (.iconst 2, 1) := by decide +kernel
theorem dX5_readsItem_110 : decode cX5_readsItem 110 = .ok (.invokevirtual 64, 3) := by decide +kernel
theorem dX5_readsItem_113 : decode cX5_readsItem 113 = .ok (.ifCond .eq 16, 3) := by decide +kernel
theorem dX5_readsItem_116 : decode cX5_readsItem 116 = .ok (.aload_n 0, 1) := by decide +kernel
theorem dX5_readsItem_117 : decode cX5_readsItem 117 = .ok (.aload_n 0, 1) := by decide +kernel
theorem dX5_readsItem_118 : decode cX5_readsItem 118 = .ok (.getfield 22, 3) := by decide +kernel
theorem dX5_readsItem_121 : decode cX5_readsItem 121 = .ok (.iconst 0, 1) := by decide +kernel
theorem dX5_readsItem_122 : decode cX5_readsItem 122 = .ok (.iaload, 1) := by decide +kernel
theorem dX5_readsItem_123 : decode cX5_readsItem 123 = .ok (.invokevirtual 67, 3) := by decide +kernel
theorem dX5_readsItem_126 : decode cX5_readsItem 126 = .ok (.ifCond .ne 5, 3) := by decide +kernel
theorem dX5_readsItem_129 : decode cX5_readsItem 129 = .ok (.iconst 0, 1) := by decide +kernel
theorem dX5_readsItem_130 : decode cX5_readsItem 130 = .ok (.ireturn, 1) := by decide +kernel
theorem dX5_readsItem_131 : decode cX5_readsItem 131 = .ok (.aload_n 0, 1) := by decide +kernel
theorem dX5_readsItem_132 : decode cX5_readsItem 132 = .ok (.getfield 13, 3) := by decide +kernel
theorem dX5_readsItem_135 : decode cX5_readsItem 135 = .ok (.bipush 60, 2) := by decide +kernel
theorem dX5_readsItem_137 : decode cX5_readsItem 137 = .ok (.bipush 6, 2) := by decide +kernel
theorem dX5_readsItem_139 : decode cX5_readsItem 139 = .ok (.aload_n 0, 1) := by decide +kernel
theorem dX5_readsItem_140 : decode cX5_readsItem 140 = .ok (.getfield 22, 3) := by decide +kernel
theorem dX5_readsItem_143 : decode cX5_readsItem 143 = .ok (.iconst 0, 1) := by decide +kernel
theorem dX5_readsItem_144 : decode cX5_readsItem 144 = .ok (.iaload, 1) := by decide +kernel
theorem dX5_readsItem_145 : decode cX5_readsItem 145 = .ok (.imul, 1) := by decide +kernel
theorem dX5_readsItem_146 : decode cX5_readsItem 146 = .ok (.iadd, 1) := by decide +kernel
theorem dX5_readsItem_147 : decode cX5_readsItem 147 = .ok (.aload_n 0, 1) := by decide +kernel
theorem dX5_readsItem_148 : decode cX5_readsItem 148 = .ok (.getfield 22, 3) := by decide +kernel
theorem dX5_readsItem_151 : decode cX5_readsItem 151 = .ok (.iconst 1, 1) := by decide +kernel
theorem dX5_readsItem_152 : decode cX5_readsItem 152 = .ok (.iaload, 1) := by decide +kernel
theorem dX5_readsItem_153 : decode cX5_readsItem 153 = .ok (.iastore, 1) := by decide +kernel
theorem dX5_readsItem_154 : decode cX5_readsItem 154 = .ok (.iconst 1, 1) := by decide +kernel
theorem dX5_readsItem_155 : decode cX5_readsItem 155 = .ok (.ireturn, 1) := by decide +kernel
theorem dX5_readsItem_156 : decode cX5_readsItem 156 = .ok (.aload_n 0, 1) := by decide +kernel
theorem dX5_readsItem_157 : decode cX5_readsItem 157 = .ok (.iconst 2, 1) := by decide +kernel
theorem dX5_readsItem_158 : decode cX5_readsItem 158 = .ok (.iconst 0, 1) := by decide +kernel
theorem dX5_readsItem_159 : decode cX5_readsItem 159 = .ok (.iconst 3, 1) := by decide +kernel
theorem dX5_readsItem_160 : decode cX5_readsItem 160 = .ok (.bipush 12, 2) := by decide +kernel
theorem dX5_readsItem_162 : decode cX5_readsItem 162 = .ok (.invokevirtual 73, 3) := by decide +kernel
theorem dX5_readsItem_165 : decode cX5_readsItem 165 = .ok (.ireturn, 1) := by decide +kernel
theorem dX5_readsItem_166 : decode cX5_readsItem 166 = .ok (.aload_n 0, 1) := by decide +kernel
theorem dX5_readsItem_167 : decode cX5_readsItem 167 = .ok (.iconst 4, 1) := by decide +kernel
theorem dX5_readsItem_168 : decode cX5_readsItem 168 = .ok (.iconst 1, 1) := by decide +kernel
theorem dX5_readsItem_169 : decode cX5_readsItem 169 = .ok (.iconst 4, 1) := by decide +kernel
theorem dX5_readsItem_170 : decode cX5_readsItem 170 = .ok (.bipush 99, 2) := by decide +kernel
theorem dX5_readsItem_172 : decode cX5_readsItem 172 = .ok (.invokevirtual 73, 3) := by decide +kernel
theorem dX5_readsItem_175 : decode cX5_readsItem 175 = .ok (.ireturn, 1) := by decide +kernel
theorem dX5_readsItem_176 : decode cX5_readsItem 176 = .ok (.aload_n 0, 1) := by decide +kernel
theorem dX5_readsItem_177 : decode cX5_readsItem 177 = .ok (.iconst 1, 1) := by decide +kernel
theorem dX5_readsItem_178 : decode cX5_readsItem 178 = .ok (.invokevirtual 64, 3) := by decide +kernel
theorem dX5_readsItem_181 : decode cX5_readsItem 181 = .ok (.ifCond .eq 13, 3) := by decide +kernel
theorem dX5_readsItem_184 : decode cX5_readsItem 184 = .ok (.aload_n 0, 1) := by decide +kernel
theorem dX5_readsItem_185 : decode cX5_readsItem 185 = .ok (.getfield 22, 3) := by decide +kernel
theorem dX5_readsItem_188 : decode cX5_readsItem 188 = .ok (.iconst 0, 1) := by decide +kernel
theorem dX5_readsItem_189 : decode cX5_readsItem 189 = .ok (.iaload, 1) := by decide +kernel
theorem dX5_readsItem_190 : decode cX5_readsItem 190 = .ok (.iconst 1, 1) := by decide +kernel
theorem dX5_readsItem_191 : decode cX5_readsItem 191 = .ok (.if_icmp .le 5, 3) := by decide +kernel
theorem dX5_readsItem_194 : decode cX5_readsItem 194 = .ok (.iconst 0, 1) := by decide +kernel
theorem dX5_readsItem_195 : decode cX5_readsItem 195 = .ok (.ireturn, 1) := by decide +kernel
theorem dX5_readsItem_196 : decode cX5_readsItem 196 = .ok (.aload_n 0, 1) := by decide +kernel
theorem dX5_readsItem_197 : decode cX5_readsItem 197 = .ok (.getfield 13, 3) := by decide +kernel
theorem dX5_readsItem_200 : decode cX5_readsItem 200 = .ok (.bipush 6, 2) := by decide +kernel
theorem dX5_readsItem_202 : decode cX5_readsItem 202 = .ok (.aload_n 0, 1) := by decide +kernel
theorem dX5_readsItem_203 : decode cX5_readsItem 203 = .ok (.getfield 22, 3) := by decide +kernel
theorem dX5_readsItem_206 : decode cX5_readsItem 206 = .ok (.iconst 0, 1) := by decide +kernel
theorem dX5_readsItem_207 : decode cX5_readsItem 207 = .ok (.iaload, 1) := by decide +kernel
theorem dX5_readsItem_208 : decode cX5_readsItem 208 = .ok (.iastore, 1) := by decide +kernel
theorem dX5_readsItem_209 : decode cX5_readsItem 209 = .ok (.iconst 1, 1) := by decide +kernel
theorem dX5_readsItem_210 : decode cX5_readsItem 210 = .ok (.ireturn, 1) := by decide +kernel
theorem dX5_readsItem_211 : decode cX5_readsItem 211 = .ok (.iconst 0, 1) := by decide +kernel
theorem dX5_readsItem_212 : decode cX5_readsItem 212 = .ok (.ireturn, 1) := by decide +kernel
theorem dX5_reads_0 : decode cX5_reads 0 = .ok (.aload_n 0, 1) := by decide +kernel
theorem dX5_reads_1 : decode cX5_reads 1 = .ok (.invokevirtual 35, 3) := by decide +kernel
theorem dX5_reads_4 : decode cX5_reads 4 = .ok (.aload_n 0, 1) := by decide +kernel
theorem dX5_reads_5 : decode cX5_reads 5 = .ok (.iconst 0, 1) := by decide +kernel
theorem dX5_reads_6 : decode cX5_reads 6 = .ok (.putfield 53, 3) := by decide +kernel
theorem dX5_reads_9 : decode cX5_reads 9 = .ok (.iconst 1, 1) := by decide +kernel
theorem dX5_reads_10 : decode cX5_reads 10 = .ok (.istore_n 1, 1) := by decide +kernel
theorem dX5_reads_11 : decode cX5_reads 11 = .ok (.aload_n 0, 1) := by decide +kernel
theorem dX5_reads_12 : decode cX5_reads 12 = .ok (.getfield 53, 3) := by decide +kernel
theorem dX5_reads_15 : decode cX5_reads 15 = .ok (.aload_n 0, 1) := by decide +kernel
theorem dX5_reads_16 : decode cX5_reads 16 = .ok (.getfield 49, 3) := by decide +kernel
theorem dX5_reads_19 : decode cX5_reads 19 = .ok (.if_icmp .ge 58, 3) := by decide +kernel
theorem dX5_reads_22 : decode cX5_reads 22 = .ok (.aload_n 0, 1) := by decide +kernel
theorem dX5_reads_23 : decode cX5_reads 23 = .ok (.getfield 53, 3) := by decide +kernel
theorem dX5_reads_26 : decode cX5_reads 26 = .ok (.istore_n 2, 1) := by decide +kernel
theorem dX5_reads_27 : decode cX5_reads 27 = .ok (.aload_n 0, 1) := by decide +kernel
theorem dX5_reads_28 : decode cX5_reads 28 = .ok (.dup, 1) := by decide +kernel
theorem dX5_reads_29 : decode cX5_reads 29 = .ok (.getfield 53, 3) := by decide +kernel
theorem dX5_reads_32 : decode cX5_reads 32 = .ok (.iconst 1, 1) := by decide +kernel
theorem dX5_reads_33 : decode cX5_reads 33 = .ok (.iadd, 1) := by decide +kernel
theorem dX5_reads_34 : decode cX5_reads 34 = .ok (.putfield 53, 3) := by decide +kernel
theorem dX5_reads_37 : decode cX5_reads 37 = .ok (.aload_n 0, 1) := by decide +kernel
theorem dX5_reads_38 : decode cX5_reads 38 = .ok (.aload_n 0, 1) := by decide +kernel
theorem dX5_reads_39 : decode cX5_reads 39 = .ok (.getfield 19, 3) := by decide +kernel
theorem dX5_reads_42 : decode cX5_reads 42 = .ok (.iload_n 2, 1) := by decide +kernel
theorem dX5_reads_43 : decode cX5_reads 43 = .ok (.iaload, 1) := by decide +kernel
theorem dX5_reads_44 : decode cX5_reads 44 = .ok (.iload_n 1, 1) := by decide +kernel
theorem dX5_reads_45 : decode cX5_reads 45 = .ok (.invokevirtual 77, 3) := by decide +kernel
theorem dX5_reads_48 : decode cX5_reads 48 = .ok (.ifCond .ne 5, 3) := by decide +kernel
theorem dX5_reads_51 : decode cX5_reads 51 = .ok (.iload_n 2, 1) := by decide +kernel
theorem dX5_reads_52 : decode cX5_reads 52 = .ok (.ireturn, 1) := by decide +kernel
theorem dX5_reads_53 : decode cX5_reads 53 = .ok (.iload_n 1, 1) := by decide +kernel
theorem dX5_reads_54 : decode cX5_reads 54 = .ok (.ifCond .eq 18, 3) := by decide +kernel
theorem dX5_reads_57 : decode cX5_reads 57 = .ok (.aload_n 0, 1) := by decide +kernel
theorem dX5_reads_58 : decode cX5_reads 58 = .ok (.getfield 19, 3) := by decide +kernel
theorem dX5_reads_61 : decode cX5_reads 61 = .ok (.iload_n 2, 1) := by decide +kernel
theorem dX5_reads_62 : decode cX5_reads 62 = .ok (.iaload, 1) := by decide +kernel
theorem dX5_reads_63 : decode cX5_reads 63 = .ok (.bipush 110, 2) := by decide +kernel
theorem dX5_reads_65 : decode cX5_reads 65 = .ok (.if_icmp .ne 7, 3) := by decide +kernel
theorem dX5_reads_68 : decode cX5_reads 68 = .ok (.iconst 1, 1) := by decide +kernel
theorem dX5_reads_69 : decode cX5_reads 69 = .ok (.goto 4, 3) := by decide +kernel
theorem dX5_reads_72 : decode cX5_reads 72 = .ok (.iconst 0, 1) := by decide +kernel
theorem dX5_reads_73 : decode cX5_reads 73 = .ok (.istore_n 1, 1) := by decide +kernel
theorem dX5_reads_74 : decode cX5_reads 74 = .ok (.goto (-63), 3) := by decide +kernel
theorem dX5_reads_77 : decode cX5_reads 77 = .ok (.bipush (-4), 2) := by decide +kernel
theorem dX5_reads_79 : decode cX5_reads 79 = .ok (.ireturn, 1) := by decide +kernel
theorem dX5_fault_0 : decode cX5_fault 0 = .ok (.aload_n 0, 1) := by decide +kernel
theorem dX5_fault_1 : decode cX5_fault 1 = .ok (.invokevirtual 81, 3) := by decide +kernel
theorem dX5_fault_4 : decode cX5_fault 4 = .ok (.ireturn, 1) := by decide +kernel
theorem dX5_lay_0 : decode cX5_lay 0 = .ok (.aload_n 0, 1) := by decide +kernel
theorem dX5_lay_1 : decode cX5_lay 1 = .ok (.invokevirtual 81, 3) := by decide +kernel
theorem dX5_lay_4 : decode cX5_lay 4 = .ok (.bipush (-4), 2) := by decide +kernel
theorem dX5_lay_6 : decode cX5_lay 6 = .ok (.if_icmp .ne 35, 3) := by decide +kernel
theorem dX5_lay_9 : decode cX5_lay 9 = .ok (.aload_n 0, 1) := by decide +kernel
theorem dX5_lay_10 : decode cX5_lay 10 = .ok (.getfield 13, 3) := by decide +kernel
theorem dX5_lay_13 : decode cX5_lay 13 = .ok (.iconst 1, 1) := by decide +kernel
theorem dX5_lay_14 : decode cX5_lay 14 = .ok (.iaload, 1) := by decide +kernel
theorem dX5_lay_15 : decode cX5_lay 15 = .ok (.ifCond .eq 26, 3) := by decide +kernel
theorem dX5_lay_18 : decode cX5_lay 18 = .ok (.aload_n 0, 1) := by decide +kernel
theorem dX5_lay_19 : decode cX5_lay 19 = .ok (.getfield 13, 3) := by decide +kernel
theorem dX5_lay_22 : decode cX5_lay 22 = .ok (.iconst 2, 1) := by decide +kernel
theorem dX5_lay_23 : decode cX5_lay 23 = .ok (.iaload, 1) := by decide +kernel
theorem dX5_lay_24 : decode cX5_lay 24 = .ok (.iconst 1, 1) := by decide +kernel
theorem dX5_lay_25 : decode cX5_lay 25 = .ok (.if_icmp .ne 19, 3) := by decide +kernel
theorem dX5_lay_28 : decode cX5_lay 28 = .ok (.aload_n 0, 1) := by decide +kernel
theorem dX5_lay_29 : decode cX5_lay 29 = .ok (.aload_n 0, 1) := by decide +kernel
theorem dX5_lay_30 : decode cX5_lay 30 = .ok (.getfield 13, 3) := by decide +kernel
theorem dX5_lay_33 : decode cX5_lay 33 = .ok (.iconst 3, 1) := by decide +kernel
theorem dX5_lay_34 : decode cX5_lay 34 = .ok (.iaload, 1) := by decide +kernel
theorem dX5_lay_35 : decode cX5_lay 35 = .ok (.invokevirtual 67, 3) := by decide +kernel
theorem dX5_lay_38 : decode cX5_lay 38 = .ok (.ifCond .ne 6, 3) := by decide +kernel
theorem dX5_lay_41 : decode cX5_lay 41 = .ok (.bipush (-2), 2) := by decide +kernel
theorem dX5_lay_43 : decode cX5_lay 43 = .ok (.ireturn, 1) := by decide +kernel
theorem dX5_lay_44 : decode cX5_lay 44 = .ok (.aload_n 0, 1) := by decide +kernel
theorem dX5_lay_45 : decode cX5_lay 45 = .ok (.invokevirtual 42, 3) := by decide +kernel
theorem dX5_lay_48 : decode cX5_lay 48 = .ok (.aload_n 0, 1) := by decide +kernel
theorem dX5_lay_49 : decode cX5_lay 49 = .ok (.getfield 7, 3) := by decide +kernel
theorem dX5_lay_52 : decode cX5_lay 52 = .ok (.iconst 0, 1) := by decide +kernel
theorem dX5_lay_53 : decode cX5_lay 53 = .ok (.iaload, 1) := by decide +kernel
theorem dX5_lay_54 : decode cX5_lay 54 = .ok (.ireturn, 1) := by decide +kernel
theorem dX5_lays_0 : decode cX5_lays 0 = .ok (.iconst 0, 1) := by decide +kernel
theorem dX5_lays_1 : decode cX5_lays 1 = .ok (.istore_n 1, 1) := by decide +kernel
theorem dX5_lays_2 : decode cX5_lays 2 = .ok (.iload_n 1, 1) := by decide +kernel
theorem dX5_lays_3 : decode cX5_lays 3 = .ok (.sipush 260, 3) := by decide +kernel
theorem dX5_lays_6 : decode cX5_lays 6 = .ok (.if_icmp .ge 21, 3) := by decide +kernel
theorem dX5_lays_9 : decode cX5_lays 9 = .ok (.aload_n 0, 1) := by decide +kernel
theorem dX5_lays_10 : decode cX5_lays 10 = .ok (.getfield 7, 3) := by decide +kernel
theorem dX5_lays_13 : decode cX5_lays 13 = .ok (.iload_n 1, 1) := by decide +kernel
theorem dX5_lays_14 : decode cX5_lays 14 = .ok (.aload_n 0, 1) := by decide +kernel
theorem dX5_lays_15 : decode cX5_lays 15 = .ok (.getfield 13, 3) := by decide +kernel
theorem dX5_lays_18 : decode cX5_lays 18 = .ok (.iload_n 1, 1) := by decide +kernel
theorem dX5_lays_19 : decode cX5_lays 19 = .ok (.iaload, 1) := by decide +kernel
theorem dX5_lays_20 : decode cX5_lays 20 = .ok (.iastore, 1) := by decide +kernel
theorem dX5_lays_21 : decode cX5_lays 21 = .ok (.iinc 1 1, 3) := by decide +kernel
theorem dX5_lays_24 : decode cX5_lays 24 = .ok (.goto (-22), 3) := by decide +kernel
theorem dX5_lays_27 : decode cX5_lays 27 = .ok (.iconst 0, 1) := by decide +kernel
theorem dX5_lays_28 : decode cX5_lays 28 = .ok (.istore_n 1, 1) := by decide +kernel
theorem dX5_lays_29 : decode cX5_lays 29 = .ok (.iload_n 1, 1) := by decide +kernel
theorem dX5_lays_30 : decode cX5_lays 30 = .ok (.aload_n 0, 1) := by decide +kernel
theorem dX5_lays_31 : decode cX5_lays 31 = .ok (.getfield 7, 3) := by decide +kernel
theorem dX5_lays_34 : decode cX5_lays 34 = .ok (.iconst 0, 1) := by decide +kernel
theorem dX5_lays_35 : decode cX5_lays 35 = .ok (.iaload, 1) := by decide +kernel
theorem dX5_lays_36 : decode cX5_lays 36 = .ok (.if_icmp .ge 84, 3) := by decide +kernel
theorem dX5_lays_39 : decode cX5_lays 39 = .ok (.bipush 60, 2) := by decide +kernel
theorem dX5_lays_41 : decode cX5_lays 41 = .ok (.bipush 6, 2) := by decide +kernel
theorem dX5_lays_43 : decode cX5_lays 43 = .ok (.iload_n 1, 1) := by decide +kernel
theorem dX5_lays_44 : decode cX5_lays 44 = .ok (.imul, 1) := by decide +kernel
theorem dX5_lays_45 : decode cX5_lays 45 = .ok (.iadd, 1) := by decide +kernel
theorem dX5_lays_46 : decode cX5_lays 46 = .ok (.istore_n 2, 1) := by decide +kernel
theorem dX5_lays_47 : decode cX5_lays 47 = .ok (.aload_n 0, 1) := by decide +kernel
theorem dX5_lays_48 : decode cX5_lays 48 = .ok (.getfield 7, 3) := by decide +kernel
theorem dX5_lays_51 : decode cX5_lays 51 = .ok (.iload_n 2, 1) := by decide +kernel
theorem dX5_lays_52 : decode cX5_lays 52 = .ok (.aload_n 0, 1) := by decide +kernel
theorem dX5_lays_53 : decode cX5_lays 53 = .ok (.getfield 7, 3) := by decide +kernel
theorem dX5_lays_56 : decode cX5_lays 56 = .ok (.iconst 2, 1) := by decide +kernel
theorem dX5_lays_57 : decode cX5_lays 57 = .ok (.iaload, 1) := by decide +kernel
theorem dX5_lays_58 : decode cX5_lays 58 = .ok (.iconst 1, 1) := by decide +kernel
theorem dX5_lays_59 : decode cX5_lays 59 = .ok (.if_icmp .eq 12, 3) := by decide +kernel
theorem dX5_lays_62 : decode cX5_lays 62 = .ok (.aload_n 0, 1) := by decide +kernel
theorem dX5_lays_63 : decode cX5_lays 63 = .ok (.getfield 7, 3) := by decide +kernel
theorem dX5_lays_66 : decode cX5_lays 66 = .ok (.iload_n 2, 1) := by decide +kernel
theorem dX5_lays_67 : decode cX5_lays 67 = .ok (.iaload, 1) := by decide +kernel
theorem dX5_lays_68 : decode cX5_lays 68 = .ok (.goto 20, 3) := by decide +kernel
theorem dX5_lays_71 : decode cX5_lays 71 = .ok (.iload_n 1, 1) := by decide +kernel
theorem dX5_lays_72 : decode cX5_lays 72 = .ok (.aload_n 0, 1) := by decide +kernel
theorem dX5_lays_73 : decode cX5_lays 73 = .ok (.getfield 7, 3) := by decide +kernel
theorem dX5_lays_76 : decode cX5_lays 76 = .ok (.iconst 3, 1) := by decide +kernel
theorem dX5_lays_77 : decode cX5_lays 77 = .ok (.iaload, 1) := by decide +kernel
theorem dX5_lays_78 : decode cX5_lays 78 = .ok (.if_icmp .ne 7, 3) := by decide +kernel
theorem dX5_lays_81 : decode cX5_lays 81 = .ok (.iconst 0, 1) := by decide +kernel
theorem dX5_lays_82 : decode cX5_lays 82 = .ok (.goto 6, 3) := by decide +kernel
theorem dX5_lays_85 : decode cX5_lays 85 = .ok (.sipush 999, 3) := by decide +kernel
theorem dX5_lays_88 : decode cX5_lays 88 = .ok (.iastore, 1) := by decide +kernel
theorem dX5_lays_89 : decode cX5_lays 89 = .ok (.aload_n 0, 1) := by decide +kernel
theorem dX5_lays_90 : decode cX5_lays 90 = .ok (.getfield 7, 3) := by decide +kernel
theorem dX5_lays_93 : decode cX5_lays 93 = .ok (.iload_n 2, 1) := by decide +kernel
theorem dX5_lays_94 : decode cX5_lays 94 = .ok (.iconst 1, 1) := by decide +kernel
theorem dX5_lays_95 : decode cX5_lays 95 = .ok (.iadd, 1) := by decide +kernel
theorem dX5_lays_96 : decode cX5_lays 96 = .ok (.iload_n 1, 1) := by decide +kernel
theorem dX5_lays_97 : decode cX5_lays 97 = .ok (.aload_n 0, 1) := by decide +kernel
theorem dX5_lays_98 : decode cX5_lays 98 = .ok (.getfield 7, 3) := by decide +kernel
theorem dX5_lays_101 : decode cX5_lays 101 = .ok (.iconst 4, 1) := by decide +kernel
theorem dX5_lays_102 : decode cX5_lays 102 = .ok (.iaload, 1) := by decide +kernel
theorem dX5_lays_103 : decode cX5_lays 103 = .ok (.irem, 1) := by decide +kernel
theorem dX5_lays_104 : decode cX5_lays 104 = .ok (.iastore, 1) := by decide +kernel
theorem dX5_lays_105 : decode cX5_lays 105 = .ok (.aload_n 0, 1) := by decide +kernel
theorem dX5_lays_106 : decode cX5_lays 106 = .ok (.getfield 7, 3) := by decide +kernel
theorem dX5_lays_109 : decode cX5_lays 109 = .ok (.iload_n 2, 1) := by decide +kernel
theorem dX5_lays_110 : decode cX5_lays 110 = .ok (.iconst 2, 1) := by decide +kernel
theorem dX5_lays_111 : decode cX5_lays 111 = .ok (.iadd, 1) := by decide +kernel
theorem dX5_lays_112 : decode cX5_lays 112 = .ok (.iconst 1, 1) := by decide +kernel
theorem dX5_lays_113 : decode cX5_lays 113 = .ok (.iastore, 1) := by decide +kernel
theorem dX5_lays_114 : decode cX5_lays 114 = .ok (.iinc 1 1, 3) := by decide +kernel
theorem dX5_lays_117 : decode cX5_lays 117 = .ok (.goto (-88), 3) := by decide +kernel
theorem dX5_lays_120 : decode cX5_lays 120 = .ok (.aload_n 0, 1) := by decide +kernel
theorem dX5_lays_121 : decode cX5_lays 121 = .ok (.iconst 0, 1) := by decide +kernel
theorem dX5_lays_122 : decode cX5_lays 122 = .ok (.putfield 85, 3) := by decide +kernel
theorem dX5_lays_125 : decode cX5_lays 125 = .ok (.return_, 1) := by decide +kernel
theorem dX5_of_0 : decode cX5_of 0 = .ok (.aload_n 0, 1) := by decide +kernel
theorem dX5_of_1 : decode cX5_of 1 = .ok (.getfield 7, 3) := by decide +kernel
theorem dX5_of_4 : decode cX5_of 4 = .ok (.bipush 60, 2) := by decide +kernel
theorem dX5_of_6 : decode cX5_of 6 = .ok (.bipush 6, 2) := by decide +kernel
theorem dX5_of_8 : decode cX5_of 8 = .ok (.iload_n 1, 1) := by decide +kernel
theorem dX5_of_9 : decode cX5_of 9 = .ok (.imul, 1) := by decide +kernel
theorem dX5_of_10 : decode cX5_of 10 = .ok (.iadd, 1) := by decide +kernel
theorem dX5_of_11 : decode cX5_of 11 = .ok (.iload_n 2, 1) := by decide +kernel
theorem dX5_of_12 : decode cX5_of 12 = .ok (.iadd, 1) := by decide +kernel
theorem dX5_of_13 : decode cX5_of 13 = .ok (.iaload, 1) := by decide +kernel
theorem dX5_of_14 : decode cX5_of 14 = .ok (.ireturn, 1) := by decide +kernel
theorem dX5_put_0 : decode cX5_put 0 = .ok (.aload_n 0, 1) := by decide +kernel
theorem dX5_put_1 : decode cX5_put 1 = .ok (.getfield 7, 3) := by decide +kernel
theorem dX5_put_4 : decode cX5_put 4 = .ok (.bipush 60, 2) := by decide +kernel
theorem dX5_put_6 : decode cX5_put 6 = .ok (.bipush 6, 2) := by decide +kernel
theorem dX5_put_8 : decode cX5_put 8 = .ok (.iload_n 1, 1) := by decide +kernel
theorem dX5_put_9 : decode cX5_put 9 = .ok (.imul, 1) := by decide +kernel
theorem dX5_put_10 : decode cX5_put 10 = .ok (.iadd, 1) := by decide +kernel
theorem dX5_put_11 : decode cX5_put 11 = .ok (.iload_n 2, 1) := by decide +kernel
theorem dX5_put_12 : decode cX5_put 12 = .ok (.iadd, 1) := by decide +kernel
theorem dX5_put_13 : decode cX5_put 13 = .ok (.iload_n 3, 1) := by decide +kernel
theorem dX5_put_14 : decode cX5_put 14 = .ok (.iastore, 1) := by decide +kernel
theorem dX5_put_15 : decode cX5_put 15 = .ok (.return_, 1) := by decide +kernel
theorem dX5_letterOf_0 : decode cX5_letterOf 0 = .ok (.aload_n 0, 1) := by decide +kernel
theorem dX5_letterOf_1 : decode cX5_letterOf 1 = .ok (.getfield 7, 3) := by decide +kernel
theorem dX5_letterOf_4 : decode cX5_letterOf 4 = .ok (.sipush 132, 3) := by decide +kernel
theorem dX5_letterOf_7 : decode cX5_letterOf 7 = .ok (.iconst 4, 1) := by decide +kernel
theorem dX5_letterOf_8 : decode cX5_letterOf 8 = .ok (.iload_n 1, 1) := by decide +kernel
theorem dX5_letterOf_9 : decode cX5_letterOf 9 = .ok (.imul, 1) := by decide +kernel
theorem dX5_letterOf_10 : decode cX5_letterOf 10 = .ok (.iadd, 1) := by decide +kernel
theorem dX5_letterOf_11 : decode cX5_letterOf 11 = .ok (.iload_n 2, 1) := by decide +kernel
theorem dX5_letterOf_12 : decode cX5_letterOf 12 = .ok (.iadd, 1) := by decide +kernel
theorem dX5_letterOf_13 : decode cX5_letterOf 13 = .ok (.iaload, 1) := by decide +kernel
theorem dX5_letterOf_14 : decode cX5_letterOf 14 = .ok (.ireturn, 1) := by decide +kernel
theorem dX5_had_0 : decode cX5_had 0 = .ok (.iconst 0, 1) := by decide +kernel
theorem dX5_had_1 : decode cX5_had 1 = .ok (.istore_n 2, 1) := by decide +kernel
theorem dX5_had_2 : decode cX5_had 2 = .ok (.iconst 0, 1) := by decide +kernel
theorem dX5_had_3 : decode cX5_had 3 = .ok (.istore_n 3, 1) := by decide +kernel
theorem dX5_had_4 : decode cX5_had 4 = .ok (.iload_n 3, 1) := by decide +kernel
theorem dX5_had_5 : decode cX5_had 5 = .ok (.aload_n 0, 1) := by decide +kernel
theorem dX5_had_6 : decode cX5_had 6 = .ok (.getfield 7, 3) := by decide +kernel
theorem dX5_had_9 : decode cX5_had 9 = .ok (.bipush 10, 2) := by decide +kernel
theorem dX5_had_11 : decode cX5_had 11 = .ok (.iaload, 1) := by decide +kernel
theorem dX5_had_12 : decode cX5_had 12 = .ok (.if_icmp .ge 27, 3) := by decide +kernel
theorem dX5_had_15 : decode cX5_had 15 = .ok (.iload_n 2, 1) := by decide +kernel
theorem dX5_had_16 : decode cX5_had 16 = .ok (.aload_n 0, 1) := by decide +kernel
theorem dX5_had_17 : decode cX5_had 17 = .ok (.iload_n 3, 1) := by decide +kernel
theorem dX5_had_18 : decode cX5_had 18 = .ok (.iconst 0, 1) := by decide +kernel
theorem dX5_had_19 : decode cX5_had 19 = .ok (.invokevirtual 88, 3) := by decide +kernel
theorem dX5_had_22 : decode cX5_had 22 = .ok (.iload_n 1, 1) := by decide +kernel
theorem dX5_had_23 : decode cX5_had 23 = .ok (.if_icmp .ne 7, 3) := by decide +kernel
theorem dX5_had_26 : decode cX5_had 26 = .ok (.iconst 1, 1) := by decide +kernel
theorem dX5_had_27 : decode cX5_had 27 = .ok (.goto 4, 3) := by decide +kernel
theorem dX5_had_30 : decode cX5_had 30 = .ok (.iconst 0, 1) := by decide +kernel
theorem dX5_had_31 : decode cX5_had 31 = .ok (.iadd, 1) := by decide +kernel
theorem dX5_had_32 : decode cX5_had 32 = .ok (.istore_n 2, 1) := by decide +kernel
theorem dX5_had_33 : decode cX5_had 33 = .ok (.iinc 3 1, 3) := by decide +kernel
theorem dX5_had_36 : decode cX5_had 36 = .ok (.goto (-32), 3) := by decide +kernel
theorem dX5_had_39 : decode cX5_had 39 = .ok (.iload_n 2, 1) := by decide +kernel
theorem dX5_had_40 : decode cX5_had 40 = .ok (.ireturn, 1) := by decide +kernel
theorem dX5_isAwake_0 : decode cX5_isAwake 0 = .ok (.aload_n 0, 1) := by decide +kernel
theorem dX5_isAwake_1 : decode cX5_isAwake 1 = .ok (.iload_n 1, 1) := by decide +kernel
theorem dX5_isAwake_2 : decode cX5_isAwake 2 = .ok (.iconst 2, 1) := by decide +kernel
theorem dX5_isAwake_3 : decode cX5_isAwake 3 = .ok (.invokevirtual 92, 3) := by decide +kernel
theorem dX5_isAwake_6 : decode cX5_isAwake 6 = .ok (.iconst 1, 1) := by decide +kernel
theorem dX5_isAwake_7 : decode cX5_isAwake 7 = .ok (.if_icmp .eq 20, 3) := by decide +kernel
theorem dX5_isAwake_10 : decode cX5_isAwake 10 = .ok (.aload_n 0, 1) := by decide +kernel
theorem dX5_isAwake_11 : decode cX5_isAwake 11 = .ok (.iload_n 1, 1) := by decide +kernel
theorem dX5_isAwake_12 : decode cX5_isAwake 12 = .ok (.iconst 3, 1) := by decide +kernel
theorem dX5_isAwake_13 : decode cX5_isAwake 13 = .ok (.invokevirtual 92, 3) := by decide +kernel
theorem dX5_isAwake_16 : decode cX5_isAwake 16 = .ok (.ifCond .eq 11, 3) := by decide +kernel
theorem dX5_isAwake_19 : decode cX5_isAwake 19 = .ok (.aload_n 0, 1) := by decide +kernel
theorem dX5_isAwake_20 : decode cX5_isAwake 20 = .ok (.iload_n 1, 1) := by decide +kernel
theorem dX5_isAwake_21 : decode cX5_isAwake 21 = .ok (.invokevirtual 95, 3) := by decide +kernel
theorem dX5_isAwake_24 : decode cX5_isAwake 24 = .ok (.ifCond .le 7, 3) := by decide +kernel
theorem dX5_isAwake_27 : decode cX5_isAwake 27 = .ok (.iconst 1, 1) := by decide +kernel
theorem dX5_isAwake_28 : decode cX5_isAwake 28 = .ok (.goto 4, 3) := by decide +kernel
theorem dX5_isAwake_31 : decode cX5_isAwake 31 = .ok (.iconst 0, 1) := by decide +kernel
theorem dX5_isAwake_32 : decode cX5_isAwake 32 = .ok (.ireturn, 1) := by decide +kernel
theorem dX5_awake_0 : decode cX5_awake 0 = .ok (.iconst 0, 1) := by decide +kernel
theorem dX5_awake_1 : decode cX5_awake 1 = .ok (.istore_n 1, 1) := by decide +kernel
theorem dX5_awake_2 : decode cX5_awake 2 = .ok (.iconst 0, 1) := by decide +kernel
theorem dX5_awake_3 : decode cX5_awake 3 = .ok (.istore_n 2, 1) := by decide +kernel
theorem dX5_awake_4 : decode cX5_awake 4 = .ok (.iload_n 2, 1) := by decide +kernel
theorem dX5_awake_5 : decode cX5_awake 5 = .ok (.aload_n 0, 1) := by decide +kernel
theorem dX5_awake_6 : decode cX5_awake 6 = .ok (.getfield 7, 3) := by decide +kernel
theorem dX5_awake_9 : decode cX5_awake 9 = .ok (.iconst 0, 1) := by decide +kernel
theorem dX5_awake_10 : decode cX5_awake 10 = .ok (.iaload, 1) := by decide +kernel
theorem dX5_awake_11 : decode cX5_awake 11 = .ok (.if_icmp .ge 25, 3) := by decide +kernel
theorem dX5_awake_14 : decode cX5_awake 14 = .ok (.iload_n 1, 1) := by decide +kernel
theorem dX5_awake_15 : decode cX5_awake 15 = .ok (.aload_n 0, 1) := by decide +kernel
theorem dX5_awake_16 : decode cX5_awake 16 = .ok (.iload_n 2, 1) := by decide +kernel
theorem dX5_awake_17 : decode cX5_awake 17 = .ok (.invokevirtual 99, 3) := by decide +kernel
theorem dX5_awake_20 : decode cX5_awake 20 = .ok (.ifCond .eq 7, 3) := by decide +kernel
theorem dX5_awake_23 : decode cX5_awake 23 = .ok (.iconst 1, 1) := by decide +kernel
theorem dX5_awake_24 : decode cX5_awake 24 = .ok (.goto 4, 3) := by decide +kernel
theorem dX5_awake_27 : decode cX5_awake 27 = .ok (.iconst 0, 1) := by decide +kernel
theorem dX5_awake_28 : decode cX5_awake 28 = .ok (.iadd, 1) := by decide +kernel
theorem dX5_awake_29 : decode cX5_awake 29 = .ok (.istore_n 1, 1) := by decide +kernel
theorem dX5_awake_30 : decode cX5_awake 30 = .ok (.iinc 2 1, 3) := by decide +kernel
theorem dX5_awake_33 : decode cX5_awake 33 = .ok (.goto (-29), 3) := by decide +kernel
theorem dX5_awake_36 : decode cX5_awake 36 = .ok (.iload_n 1, 1) := by decide +kernel
theorem dX5_awake_37 : decode cX5_awake 37 = .ok (.ireturn, 1) := by decide +kernel
theorem dX5_send_0 : decode cX5_send 0 = .ok (.aload_n 0, 1) := by decide +kernel
theorem dX5_send_1 : decode cX5_send 1 = .ok (.iload_n 1, 1) := by decide +kernel
theorem dX5_send_2 : decode cX5_send 2 = .ok (.iconst 1, 1) := by decide +kernel
theorem dX5_send_3 : decode cX5_send 3 = .ok (.invokevirtual 92, 3) := by decide +kernel
theorem dX5_send_6 : decode cX5_send 6 = .ok (.istore 4, 2) := by decide +kernel
theorem dX5_send_8 : decode cX5_send 8 = .ok (.bipush (-4), 2) := by decide +kernel
theorem dX5_send_10 : decode cX5_send 10 = .ok (.istore 5, 2) := by decide +kernel
theorem dX5_send_12 : decode cX5_send 12 = .ok (.iconst 0, 1) := by decide +kernel
theorem dX5_send_13 : decode cX5_send 13 = .ok (.istore 6, 2) := by decide +kernel
theorem dX5_send_15 : decode cX5_send 15 = .ok (.iload 6, 2) := by decide +kernel
theorem dX5_send_17 : decode cX5_send 17 = .ok (.aload_n 0, 1) := by decide +kernel
theorem dX5_send_18 : decode cX5_send 18 = .ok (.getfield 102, 3) := by decide +kernel
theorem dX5_send_21 : decode cX5_send 21 = .ok (.if_icmp .ge 58, 3) := by decide +kernel
theorem dX5_send_24 : decode cX5_send 24 = .ok (.aload_n 0, 1) := by decide +kernel
theorem dX5_send_25 : decode cX5_send 25 = .ok (.getfield 7, 3) := by decide +kernel
theorem dX5_send_28 : decode cX5_send 28 = .ok (.bipush 6, 2) := by decide +kernel
theorem dX5_send_30 : decode cX5_send 30 = .ok (.iaload, 1) := by decide +kernel
theorem dX5_send_31 : decode cX5_send 31 = .ok (.iconst 1, 1) := by decide +kernel
theorem dX5_send_32 : decode cX5_send 32 = .ok (.if_icmp .ne 47, 3) := by decide +kernel
theorem dX5_send_35 : decode cX5_send 35 = .ok (.aload_n 0, 1) := by decide +kernel
theorem dX5_send_36 : decode cX5_send 36 = .ok (.getfield 25, 3) := by decide +kernel
theorem dX5_send_39 : decode cX5_send 39 = .ok (.iconst 4, 1) := by decide +kernel
theorem dX5_send_40 : decode cX5_send 40 = .ok (.iload 6, 2) := by decide +kernel
theorem dX5_send_42 : decode cX5_send 42 = .ok (.imul, 1) := by decide +kernel
theorem dX5_send_43 : decode cX5_send 43 = .ok (.iaload, 1) := by decide +kernel
theorem dX5_send_44 : decode cX5_send 44 = .ok (.iload_n 2, 1) := by decide +kernel
theorem dX5_send_45 : decode cX5_send 45 = .ok (.if_icmp .ne 24, 3) := by decide +kernel
theorem dX5_send_48 : decode cX5_send 48 = .ok (.aload_n 0, 1) := by decide +kernel
theorem dX5_send_49 : decode cX5_send 49 = .ok (.getfield 25, 3) := by decide +kernel
theorem dX5_send_52 : decode cX5_send 52 = .ok (.iconst 4, 1) := by decide +kernel
theorem dX5_send_53 : decode cX5_send 53 = .ok (.iload 6, 2) := by decide +kernel
theorem dX5_send_55 : decode cX5_send 55 = .ok (.imul, 1) := by decide +kernel
theorem dX5_send_56 : decode cX5_send 56 = .ok (.iconst 2, 1) := by decide +kernel
theorem dX5_send_57 : decode cX5_send 57 = .ok (.iadd, 1) := by decide +kernel
theorem dX5_send_58 : decode cX5_send 58 = .ok (.iaload, 1) := by decide +kernel
theorem dX5_send_59 : decode cX5_send 59 = .ok (.iload 4, 2) := by decide +kernel
theorem dX5_send_61 : decode cX5_send 61 = .ok (.if_icmp .ne 8, 3) := by decide +kernel
theorem dX5_send_64 : decode cX5_send 64 = .ok (.iload 6, 2) := by decide +kernel
theorem dX5_send_66 : decode cX5_send 66 = .ok (.goto 5, 3) := by decide +kernel
theorem dX5_send_69 : decode cX5_send 69 = .ok (.iload 5, 2) := by decide +kernel
theorem dX5_send_71 : decode cX5_send 71 = .ok (.istore 5, 2) := by decide +kernel
theorem dX5_send_73 : decode cX5_send 73 = .ok (.iinc 6 1, 3) := by decide +kernel
theorem dX5_send_76 : decode cX5_send 76 = .ok (.goto (-61), 3) := by decide +kernel
theorem dX5_send_79 : decode cX5_send 79 = .ok (.iload 5, 2) := by decide +kernel
theorem dX5_send_81 : decode cX5_send 81 = .ok (.bipush (-4), 2) := by decide +kernel
theorem dX5_send_83 : decode cX5_send 83 = .ok (.if_icmp .ne 69, 3) := by decide +kernel
theorem dX5_send_86 : decode cX5_send 86 = .ok (.aload_n 0, 1) := by decide +kernel
theorem dX5_send_87 : decode cX5_send 87 = .ok (.getfield 25, 3) := by decide +kernel
theorem dX5_send_90 : decode cX5_send 90 = .ok (.iconst 4, 1) := by decide +kernel
theorem dX5_send_91 : decode cX5_send 91 = .ok (.aload_n 0, 1) := by decide +kernel
theorem dX5_send_92 : decode cX5_send 92 = .ok (.getfield 102, 3) := by decide +kernel
theorem dX5_send_95 : decode cX5_send 95 = .ok (.imul, 1) := by decide +kernel
theorem dX5_send_96 : decode cX5_send 96 = .ok (.iload_n 2, 1) := by decide +kernel
theorem dX5_send_97 : decode cX5_send 97 = .ok (.iastore, 1) := by decide +kernel
theorem dX5_send_98 : decode cX5_send 98 = .ok (.aload_n 0, 1) := by decide +kernel
theorem dX5_send_99 : decode cX5_send 99 = .ok (.getfield 25, 3) := by decide +kernel
theorem dX5_send_102 : decode cX5_send 102 = .ok (.iconst 4, 1) := by decide +kernel
theorem dX5_send_103 : decode cX5_send 103 = .ok (.aload_n 0, 1) := by decide +kernel
theorem dX5_send_104 : decode cX5_send 104 = .ok (.getfield 102, 3) := by decide +kernel
theorem dX5_send_107 : decode cX5_send 107 = .ok (.imul, 1) := by decide +kernel
theorem dX5_send_108 : decode cX5_send 108 = .ok (.iconst 1, 1) := by decide +kernel
theorem dX5_send_109 : decode cX5_send 109 = .ok (.iadd, 1) := by decide +kernel
theorem dX5_send_110 : decode cX5_send 110 = .ok (.iload_n 3, 1) := by decide +kernel
theorem dX5_send_111 : decode cX5_send 111 = .ok (.iastore, 1) := by decide +kernel
theorem dX5_send_112 : decode cX5_send 112 = .ok (.aload_n 0, 1) := by decide +kernel
theorem dX5_send_113 : decode cX5_send 113 = .ok (.getfield 25, 3) := by decide +kernel
theorem dX5_send_116 : decode cX5_send 116 = .ok (.iconst 4, 1) := by decide +kernel
theorem dX5_send_117 : decode cX5_send 117 = .ok (.aload_n 0, 1) := by decide +kernel
theorem dX5_send_118 : decode cX5_send 118 = .ok (.getfield 102, 3) := by decide +kernel
theorem dX5_send_121 : decode cX5_send 121 = .ok (.imul, 1) := by decide +kernel
theorem dX5_send_122 : decode cX5_send 122 = .ok (.iconst 2, 1) := by decide +kernel
theorem dX5_send_123 : decode cX5_send 123 = .ok (.iadd, 1) := by decide +kernel
theorem dX5_send_124 : decode cX5_send 124 = .ok (.iload 4, 2) := by decide +kernel
theorem dX5_send_126 : decode cX5_send 126 = .ok (.iastore, 1) := by decide +kernel
theorem dX5_send_127 : decode cX5_send 127 = .ok (.aload_n 0, 1) := by decide +kernel
theorem dX5_send_128 : decode cX5_send 128 = .ok (.getfield 25, 3) := by decide +kernel
theorem dX5_send_131 : decode cX5_send 131 = .ok (.iconst 4, 1) := by decide +kernel
theorem dX5_send_132 : decode cX5_send 132 = .ok (.aload_n 0, 1) := by decide +kernel
theorem dX5_send_133 : decode cX5_send 133 = .ok (.getfield 102, 3) := by decide +kernel
theorem dX5_send_136 : decode cX5_send 136 = .ok (.imul, 1) := by decide +kernel
theorem dX5_send_137 : decode cX5_send 137 = .ok (.iconst 3, 1) := by decide +kernel
theorem dX5_send_138 : decode cX5_send 138 = .ok (.iadd, 1) := by decide +kernel
theorem dX5_send_139 : decode cX5_send 139 = .ok (.iload_n 1, 1) := by decide +kernel
theorem dX5_send_140 : decode cX5_send 140 = .ok (.iastore, 1) := by decide +kernel
theorem dX5_send_141 : decode cX5_send 141 = .ok (.aload_n 0, 1) := by decide +kernel
theorem dX5_send_142 : decode cX5_send 142 = .ok (.dup, 1) := by decide +kernel
theorem dX5_send_143 : decode cX5_send 143 = .ok (.getfield 102, 3) := by decide +kernel
theorem dX5_send_146 : decode cX5_send 146 = .ok (.iconst 1, 1) := by decide +kernel
theorem dX5_send_147 : decode cX5_send 147 = .ok (.iadd, 1) := by decide +kernel
theorem dX5_send_148 : decode cX5_send 148 = .ok (.putfield 102, 3) := by decide +kernel
theorem dX5_send_151 : decode cX5_send 151 = .ok (.return_, 1) := by decide +kernel
theorem dX5_send_152 : decode cX5_send 152 = .ok (.iconst 4, 1) := by decide +kernel
theorem dX5_send_153 : decode cX5_send 153 = .ok (.iload 5, 2) := by decide +kernel
theorem dX5_send_155 : decode cX5_send 155 = .ok (.ifCond .ge 7, 3) := by decide +kernel
theorem dX5_send_158 : decode cX5_send 158 = .ok (.iconst 0, 1) := by decide +kernel
theorem dX5_send_159 : decode cX5_send 159 = .ok (.goto 5, 3) := by decide +kernel
theorem dX5_send_162 : decode cX5_send 162 = .ok (.iload 5, 2) := by decide +kernel
theorem dX5_send_164 : decode cX5_send 164 = .ok (.imul, 1) := by decide +kernel
theorem dX5_send_165 : decode cX5_send 165 = .ok (.iconst 1, 1) := by decide +kernel
theorem dX5_send_166 : decode cX5_send 166 = .ok (.iadd, 1) := by decide +kernel
theorem dX5_send_167 : decode cX5_send 167 = .ok (.istore 6, 2) := by decide +kernel
theorem dX5_send_169 : decode cX5_send 169 = .ok (.aload_n 0, 1) := by decide +kernel
theorem dX5_send_170 : decode cX5_send 170 = .ok (.getfield 7, 3) := by decide +kernel
theorem dX5_send_173 : decode cX5_send 173 = .ok (.iconst 2, 1) := by decide +kernel
theorem dX5_send_174 : decode cX5_send 174 = .ok (.iaload, 1) := by decide +kernel
theorem dX5_send_175 : decode cX5_send 175 = .ok (.istore 7, 2) := by decide +kernel
theorem dX5_send_177 : decode cX5_send 177 = .ok (.aload_n 0, 1) := by decide +kernel
theorem dX5_send_178 : decode cX5_send 178 = .ok (.getfield 25, 3) := by decide +kernel
theorem dX5_send_181 : decode cX5_send 181 = .ok (.iload 6, 2) := by decide +kernel
theorem dX5_send_183 : decode cX5_send 183 = .ok (.iload 7, 2) := by decide +kernel
theorem dX5_send_185 : decode cX5_send 185 = .ok (.ifCond .ne 17, 3) := by decide +kernel
theorem dX5_send_188 : decode cX5_send 188 = .ok (.aload_n 0, 1) := by decide +kernel
theorem dX5_send_189 : decode cX5_send 189 = .ok (.getfield 25, 3) := by decide +kernel
theorem dX5_send_192 : decode cX5_send 192 = .ok (.iload 6, 2) := by decide +kernel
theorem dX5_send_194 : decode cX5_send 194 = .ok (.iaload, 1) := by decide +kernel
theorem dX5_send_195 : decode cX5_send 195 = .ok (.iload_n 3, 1) := by decide +kernel
theorem dX5_send_196 : decode cX5_send 196 = .ok (.invokestatic 105, 3) := by decide +kernel
theorem dX5_send_199 : decode cX5_send 199 = .ok (.goto 32, 3) := by decide +kernel
theorem dX5_send_202 : decode cX5_send 202 = .ok (.iload 7, 2) := by decide +kernel
theorem dX5_send_204 : decode cX5_send 204 = .ok (.iconst 3, 1) := by decide +kernel
theorem dX5_send_205 : decode cX5_send 205 = .ok (.if_icmp .ne 15, 3) := by decide +kernel
theorem dX5_send_208 : decode cX5_send 208 = .ok (.aload_n 0, 1) := by decide +kernel
theorem dX5_send_209 : decode cX5_send 209 = .ok (.getfield 25, 3) := by decide +kernel
theorem dX5_send_212 : decode cX5_send 212 = .ok (.iload 6, 2) := by decide +kernel
theorem dX5_send_214 : decode cX5_send 214 = .ok (.iaload, 1) := by decide +kernel
theorem dX5_send_215 : decode cX5_send 215 = .ok (.iload_n 3, 1) := by decide +kernel
theorem dX5_send_216 : decode cX5_send 216 = .ok (.iadd, 1) := by decide +kernel
theorem dX5_send_217 : decode cX5_send 217 = .ok (.goto 14, 3) := by decide +kernel
theorem dX5_send_220 : decode cX5_send 220 = .ok (.aload_n 0, 1) := by decide +kernel
theorem dX5_send_221 : decode cX5_send 221 = .ok (.getfield 25, 3) := by decide +kernel
theorem dX5_send_224 : decode cX5_send 224 = .ok (.iload 6, 2) := by decide +kernel
theorem dX5_send_226 : decode cX5_send 226 = .ok (.iaload, 1) := by decide +kernel
theorem dX5_send_227 : decode cX5_send 227 = .ok (.iload_n 3, 1) := by decide +kernel
theorem dX5_send_228 : decode cX5_send 228 = .ok (.invokestatic 108, 3) := by decide +kernel
theorem dX5_send_231 : decode cX5_send 231 = .ok (.iastore, 1) := by decide +kernel
theorem dX5_send_232 : decode cX5_send 232 = .ok (.aload_n 0, 1) := by decide +kernel
theorem dX5_send_233 : decode cX5_send 233 = .ok (.getfield 25, 3) := by decide +kernel
theorem dX5_send_236 : decode cX5_send 236 = .ok (.iload 6, 2) := by decide +kernel
theorem dX5_send_238 : decode cX5_send 238 = .ok (.iconst 2, 1) := by decide +kernel
theorem dX5_send_239 : decode cX5_send 239 = .ok (.iadd, 1) := by decide +kernel
theorem dX5_send_240 : decode cX5_send 240 = .ok (.aload_n 0, 1) := by decide +kernel
theorem dX5_send_241 : decode cX5_send 241 = .ok (.getfield 25, 3) := by decide +kernel
theorem dX5_send_244 : decode cX5_send 244 = .ok (.iload 6, 2) := by decide +kernel
theorem dX5_send_246 : decode cX5_send 246 = .ok (.iconst 2, 1) := by decide +kernel
theorem dX5_send_247 : decode cX5_send 247 = .ok (.iadd, 1) := by decide +kernel
theorem dX5_send_248 : decode cX5_send 248 = .ok (.iaload, 1) := by decide +kernel
theorem dX5_send_249 : decode cX5_send 249 = .ok (.iload_n 1, 1) := by decide +kernel
theorem dX5_send_250 : decode cX5_send 250 = .ok (.invokestatic 108, 3) := by decide +kernel
theorem dX5_send_253 : decode cX5_send 253 = .ok (.iastore, 1) := by decide +kernel
theorem dX5_send_254 : decode cX5_send 254 = .ok (.return_, 1) := by decide +kernel
theorem dX5_linksOf_0 : decode cX5_linksOf 0 = .ok (.iconst 0, 1) := by decide +kernel
theorem dX5_linksOf_1 : decode cX5_linksOf 1 = .ok (.istore_n 2, 1) := by decide +kernel
theorem dX5_linksOf_2 : decode cX5_linksOf 2 = .ok (.iconst 0, 1) := by decide +kernel
theorem dX5_linksOf_3 : decode cX5_linksOf 3 = .ok (.istore_n 3, 1) := by decide +kernel
theorem dX5_linksOf_4 : decode cX5_linksOf 4 = .ok (.iload_n 3, 1) := by decide +kernel
theorem dX5_linksOf_5 : decode cX5_linksOf 5 = .ok (.aload_n 0, 1) := by decide +kernel
theorem dX5_linksOf_6 : decode cX5_linksOf 6 = .ok (.getfield 7, 3) := by decide +kernel
theorem dX5_linksOf_9 : decode cX5_linksOf 9 = .ok (.iconst 1, 1) := by decide +kernel
theorem dX5_linksOf_10 : decode cX5_linksOf 10 = .ok (.iaload, 1) := by decide +kernel
theorem dX5_linksOf_11 : decode cX5_linksOf 11 = .ok (.if_icmp .ge 32, 3) := by decide +kernel
theorem dX5_linksOf_14 : decode cX5_linksOf 14 = .ok (.iload_n 2, 1) := by decide +kernel
theorem dX5_linksOf_15 : decode cX5_linksOf 15 = .ok (.aload_n 0, 1) := by decide +kernel
theorem dX5_linksOf_16 : decode cX5_linksOf 16 = .ok (.getfield 7, 3) := by decide +kernel
theorem dX5_linksOf_19 : decode cX5_linksOf 19 = .ok (.bipush 12, 2) := by decide +kernel
theorem dX5_linksOf_21 : decode cX5_linksOf 21 = .ok (.iconst 3, 1) := by decide +kernel
theorem dX5_linksOf_22 : decode cX5_linksOf 22 = .ok (.iload_n 3, 1) := by decide +kernel
theorem dX5_linksOf_23 : decode cX5_linksOf 23 = .ok (.imul, 1) := by decide +kernel
theorem dX5_linksOf_24 : decode cX5_linksOf 24 = .ok (.iadd, 1) := by decide +kernel
theorem dX5_linksOf_25 : decode cX5_linksOf 25 = .ok (.iaload, 1) := by decide +kernel
theorem dX5_linksOf_26 : decode cX5_linksOf 26 = .ok (.iload_n 1, 1) := by decide +kernel
theorem dX5_linksOf_27 : decode cX5_linksOf 27 = .ok (.if_icmp .ne 7, 3) := by decide +kernel
theorem dX5_linksOf_30 : decode cX5_linksOf 30 = .ok (.iconst 1, 1) := by decide +kernel
theorem dX5_linksOf_31 : decode cX5_linksOf 31 = .ok (.goto 4, 3) := by decide +kernel
theorem dX5_linksOf_34 : decode cX5_linksOf 34 = .ok (.iconst 0, 1) := by decide +kernel
theorem dX5_linksOf_35 : decode cX5_linksOf 35 = .ok (.iadd, 1) := by decide +kernel
theorem dX5_linksOf_36 : decode cX5_linksOf 36 = .ok (.istore_n 2, 1) := by decide +kernel
theorem dX5_linksOf_37 : decode cX5_linksOf 37 = .ok (.iinc 3 1, 3) := by decide +kernel
theorem dX5_linksOf_40 : decode cX5_linksOf 40 = .ok (.goto (-36), 3) := by decide +kernel
theorem dX5_linksOf_43 : decode cX5_linksOf 43 = .ok (.iload_n 2, 1) := by decide +kernel
theorem dX5_linksOf_44 : decode cX5_linksOf 44 = .ok (.ireturn, 1) := by decide +kernel
theorem dX5_sendAll_0 : decode cX5_sendAll 0 = .ok (.iconst 0, 1) := by decide +kernel
theorem dX5_sendAll_1 : decode cX5_sendAll 1 = .ok (.istore_n 3, 1) := by decide +kernel
theorem dX5_sendAll_2 : decode cX5_sendAll 2 = .ok (.iload_n 3, 1) := by decide +kernel
theorem dX5_sendAll_3 : decode cX5_sendAll 3 = .ok (.aload_n 0, 1) := by decide +kernel
theorem dX5_sendAll_4 : decode cX5_sendAll 4 = .ok (.getfield 7, 3) := by decide +kernel
theorem dX5_sendAll_7 : decode cX5_sendAll 7 = .ok (.iconst 1, 1) := by decide +kernel
theorem dX5_sendAll_8 : decode cX5_sendAll 8 = .ok (.iaload, 1) := by decide +kernel
theorem dX5_sendAll_9 : decode cX5_sendAll 9 = .ok (.if_icmp .ge 73, 3) := by decide +kernel
theorem dX5_sendAll_12 : decode cX5_sendAll 12 = .ok (.bipush 12, 2) := by decide +kernel
theorem dX5_sendAll_14 : decode cX5_sendAll 14 = .ok (.iconst 3, 1) := by decide +kernel
theorem dX5_sendAll_15 : decode cX5_sendAll 15 = .ok (.iload_n 3, 1) := by decide +kernel
theorem dX5_sendAll_16 : decode cX5_sendAll 16 = .ok (.imul, 1) := by decide +kernel
theorem dX5_sendAll_17 : decode cX5_sendAll 17 = .ok (.iadd, 1) := by decide +kernel
theorem dX5_sendAll_18 : decode cX5_sendAll 18 = .ok (.istore 4, 2) := by decide +kernel
theorem dX5_sendAll_20 : decode cX5_sendAll 20 = .ok (.aload_n 0, 1) := by decide +kernel
theorem dX5_sendAll_21 : decode cX5_sendAll 21 = .ok (.getfield 7, 3) := by decide +kernel
theorem dX5_sendAll_24 : decode cX5_sendAll 24 = .ok (.iload 4, 2) := by decide +kernel
theorem dX5_sendAll_26 : decode cX5_sendAll 26 = .ok (.iaload, 1) := by decide +kernel
theorem dX5_sendAll_27 : decode cX5_sendAll 27 = .ok (.iload_n 1, 1) := by decide +kernel
theorem dX5_sendAll_28 : decode cX5_sendAll 28 = .ok (.if_icmp .ne 48, 3) := by decide +kernel
theorem dX5_sendAll_31 : decode cX5_sendAll 31 = .ok (.aload_n 0, 1) := by decide +kernel
theorem dX5_sendAll_32 : decode cX5_sendAll 32 = .ok (.iload_n 1, 1) := by decide +kernel
theorem dX5_sendAll_33 : decode cX5_sendAll 33 = .ok (.aload_n 0, 1) := by decide +kernel
theorem dX5_sendAll_34 : decode cX5_sendAll 34 = .ok (.getfield 7, 3) := by decide +kernel
theorem dX5_sendAll_37 : decode cX5_sendAll 37 = .ok (.iload 4, 2) := by decide +kernel
theorem dX5_sendAll_39 : decode cX5_sendAll 39 = .ok (.iconst 1, 1) := by decide +kernel
theorem dX5_sendAll_40 : decode cX5_sendAll 40 = .ok (.iadd, 1) := by decide +kernel
theorem dX5_sendAll_41 : decode cX5_sendAll 41 = .ok (.iaload, 1) := by decide +kernel
theorem dX5_sendAll_42 : decode cX5_sendAll 42 = .ok (.aload_n 0, 1) := by decide +kernel
theorem dX5_sendAll_43 : decode cX5_sendAll 43 = .ok (.getfield 7, 3) := by decide +kernel
theorem dX5_sendAll_46 : decode cX5_sendAll 46 = .ok (.iconst 2, 1) := by decide +kernel
theorem dX5_sendAll_47 : decode cX5_sendAll 47 = .ok (.iaload, 1) := by decide +kernel
theorem dX5_sendAll_48 : decode cX5_sendAll 48 = .ok (.iconst 1, 1) := by decide +kernel
theorem dX5_sendAll_49 : decode cX5_sendAll 49 = .ok (.if_icmp .ne 23, 3) := by decide +kernel
theorem dX5_sendAll_52 : decode cX5_sendAll 52 = .ok (.sipush 999, 3) := by decide +kernel
theorem dX5_sendAll_55 : decode cX5_sendAll 55 = .ok (.iload_n 2, 1) := by decide +kernel
theorem dX5_sendAll_56 : decode cX5_sendAll 56 = .ok (.aload_n 0, 1) := by decide +kernel
theorem dX5_sendAll_57 : decode cX5_sendAll 57 = .ok (.getfield 7, 3) := by decide +kernel
theorem dX5_sendAll_60 : decode cX5_sendAll 60 = .ok (.iload 4, 2) := by decide +kernel
theorem dX5_sendAll_62 : decode cX5_sendAll 62 = .ok (.iconst 2, 1) := by decide +kernel
theorem dX5_sendAll_63 : decode cX5_sendAll 63 = .ok (.iadd, 1) := by decide +kernel
theorem dX5_sendAll_64 : decode cX5_sendAll 64 = .ok (.iaload, 1) := by decide +kernel
theorem dX5_sendAll_65 : decode cX5_sendAll 65 = .ok (.iadd, 1) := by decide +kernel
theorem dX5_sendAll_66 : decode cX5_sendAll 66 = .ok (.invokestatic 108, 3) := by decide +kernel
theorem dX5_sendAll_69 : decode cX5_sendAll 69 = .ok (.goto 4, 3) := by decide +kernel
theorem dX5_sendAll_72 : decode cX5_sendAll 72 = .ok (.iload_n 2, 1) := by decide +kernel
theorem dX5_sendAll_73 : decode cX5_sendAll 73 = .ok (.invokevirtual 111, 3) := by decide +kernel
theorem dX5_sendAll_76 : decode cX5_sendAll 76 = .ok (.iinc 3 1, 3) := by decide +kernel
theorem dX5_sendAll_79 : decode cX5_sendAll 79 = .ok (.goto (-77), 3) := by decide +kernel
theorem dX5_sendAll_82 : decode cX5_sendAll 82 = .ok (.return_, 1) := by decide +kernel
theorem dX5_gathered_0 : decode cX5_gathered 0 = .ok (.bipush (-4), 2) := by decide +kernel
theorem dX5_gathered_2 : decode cX5_gathered 2 = .ok (.istore_n 2, 1) := by decide +kernel
theorem dX5_gathered_3 : decode cX5_gathered 3 = .ok (.iconst 0, 1) := by decide +kernel
theorem dX5_gathered_4 : decode cX5_gathered 4 = .ok (.istore_n 3, 1) := by decide +kernel
theorem dX5_gathered_5 : decode cX5_gathered 5 = .ok (.iload_n 3, 1) := by decide +kernel
theorem dX5_gathered_6 : decode cX5_gathered 6 = .ok (.aload_n 0, 1) := by decide +kernel
theorem dX5_gathered_7 : decode cX5_gathered 7 = .ok (.getfield 7, 3) := by decide +kernel
theorem dX5_gathered_10 : decode cX5_gathered 10 = .ok (.bipush 10, 2) := by decide +kernel
theorem dX5_gathered_12 : decode cX5_gathered 12 = .ok (.iaload, 1) := by decide +kernel
theorem dX5_gathered_13 : decode cX5_gathered 13 = .ok (.if_icmp .ge 80, 3) := by decide +kernel
theorem dX5_gathered_16 : decode cX5_gathered 16 = .ok (.aload_n 0, 1) := by decide +kernel
theorem dX5_gathered_17 : decode cX5_gathered 17 = .ok (.iload_n 3, 1) := by decide +kernel
theorem dX5_gathered_18 : decode cX5_gathered 18 = .ok (.iconst 0, 1) := by decide +kernel
theorem dX5_gathered_19 : decode cX5_gathered 19 = .ok (.invokevirtual 88, 3) := by decide +kernel
theorem dX5_gathered_22 : decode cX5_gathered 22 = .ok (.iload_n 1, 1) := by decide +kernel
theorem dX5_gathered_23 : decode cX5_gathered 23 = .ok (.if_icmp .ne 64, 3) := by decide +kernel
theorem dX5_gathered_26 : decode cX5_gathered 26 = .ok (.aload_n 0, 1) := by decide +kernel
theorem dX5_gathered_27 : decode cX5_gathered 27 = .ok (.iload_n 3, 1) := by decide +kernel
theorem dX5_gathered_28 : decode cX5_gathered 28 = .ok (.iconst 1, 1) := by decide +kernel
theorem dX5_gathered_29 : decode cX5_gathered 29 = .ok (.invokevirtual 88, 3) := by decide +kernel
theorem dX5_gathered_32 : decode cX5_gathered 32 = .ok (.istore 4, 2) := by decide +kernel
theorem dX5_gathered_34 : decode cX5_gathered 34 = .ok (.aload_n 0, 1) := by decide +kernel
theorem dX5_gathered_35 : decode cX5_gathered 35 = .ok (.getfield 7, 3) := by decide +kernel
theorem dX5_gathered_38 : decode cX5_gathered 38 = .ok (.iconst 2, 1) := by decide +kernel
theorem dX5_gathered_39 : decode cX5_gathered 39 = .ok (.iaload, 1) := by decide +kernel
theorem dX5_gathered_40 : decode cX5_gathered 40 = .ok (.istore 5, 2) := by decide +kernel
theorem dX5_gathered_42 : decode cX5_gathered 42 = .ok (.iload_n 2, 1) := by decide +kernel
theorem dX5_gathered_43 : decode cX5_gathered 43 = .ok (.bipush (-4), 2) := by decide +kernel
theorem dX5_gathered_45 : decode cX5_gathered 45 = .ok (.if_icmp .ne 8, 3) := by decide +kernel
theorem dX5_gathered_48 : decode cX5_gathered 48 = .ok (.iload 4, 2) := by decide +kernel
theorem dX5_gathered_50 : decode cX5_gathered 50 = .ok (.goto 36, 3) := by decide +kernel
theorem dX5_gathered_53 : decode cX5_gathered 53 = .ok (.iload 5, 2) := by decide +kernel
theorem dX5_gathered_55 : decode cX5_gathered 55 = .ok (.ifCond .ne 12, 3) := by decide +kernel
theorem dX5_gathered_58 : decode cX5_gathered 58 = .ok (.iload_n 2, 1) := by decide +kernel
theorem dX5_gathered_59 : decode cX5_gathered 59 = .ok (.iload 4, 2) := by decide +kernel
theorem dX5_gathered_61 : decode cX5_gathered 61 = .ok (.invokestatic 105, 3) := by decide +kernel
theorem dX5_gathered_64 : decode cX5_gathered 64 = .ok (.goto 22, 3) := by decide +kernel
theorem dX5_gathered_67 : decode cX5_gathered 67 = .ok (.iload 5, 2) := by decide +kernel
theorem dX5_gathered_69 : decode cX5_gathered 69 = .ok (.iconst 3, 1) := by decide +kernel
theorem dX5_gathered_70 : decode cX5_gathered 70 = .ok (.if_icmp .ne 10, 3) := by decide +kernel
theorem dX5_gathered_73 : decode cX5_gathered 73 = .ok (.iload_n 2, 1) := by decide +kernel
theorem dX5_gathered_74 : decode cX5_gathered 74 = .ok (.iload 4, 2) := by decide +kernel
theorem dX5_gathered_76 : decode cX5_gathered 76 = .ok (.iadd, 1) := by decide +kernel
theorem dX5_gathered_77 : decode cX5_gathered 77 = .ok (.goto 9, 3) := by decide +kernel
theorem dX5_gathered_80 : decode cX5_gathered 80 = .ok (.iload_n 2, 1) := by decide +kernel
theorem dX5_gathered_81 : decode cX5_gathered 81 = .ok (.iload 4, 2) := by decide +kernel
theorem dX5_gathered_83 : decode cX5_gathered 83 = .ok (.invokestatic 108, 3) := by decide +kernel
theorem dX5_gathered_86 : decode cX5_gathered 86 = .ok (.istore_n 2, 1) := by decide +kernel
theorem dX5_gathered_87 : decode cX5_gathered 87 = .ok (.iinc 3 1, 3) := by decide +kernel
theorem dX5_gathered_90 : decode cX5_gathered 90 = .ok (.goto (-85), 3) := by decide +kernel
theorem dX5_gathered_93 : decode cX5_gathered 93 = .ok (.iload_n 2, 1) := by decide +kernel
theorem dX5_gathered_94 : decode cX5_gathered 94 = .ok (.ireturn, 1) := by decide +kernel
theorem dX5_seeks_0 : decode cX5_seeks 0 = .ok (.aload_n 0, 1) := by decide +kernel
theorem dX5_seeks_1 : decode cX5_seeks 1 = .ok (.iload_n 1, 1) := by decide +kernel
theorem dX5_seeks_2 : decode cX5_seeks 2 = .ok (.invokevirtual 114, 3) := by decide +kernel
theorem dX5_seeks_5 : decode cX5_seeks 5 = .ok (.istore_n 2, 1) := by decide +kernel
theorem dX5_seeks_6 : decode cX5_seeks 6 = .ok (.iload_n 2, 1) := by decide +kernel
theorem dX5_seeks_7 : decode cX5_seeks 7 = .ok (.bipush (-4), 2) := by decide +kernel
theorem dX5_seeks_9 : decode cX5_seeks 9 = .ok (.if_icmp .eq 39, 3) := by decide +kernel
theorem dX5_seeks_12 : decode cX5_seeks 12 = .ok (.aload_n 0, 1) := by decide +kernel
theorem dX5_seeks_13 : decode cX5_seeks 13 = .ok (.getfield 7, 3) := by decide +kernel
theorem dX5_seeks_16 : decode cX5_seeks 16 = .ok (.iconst 2, 1) := by decide +kernel
theorem dX5_seeks_17 : decode cX5_seeks 17 = .ok (.iaload, 1) := by decide +kernel
theorem dX5_seeks_18 : decode cX5_seeks 18 = .ok (.ifCond .ne 16, 3) := by decide +kernel
theorem dX5_seeks_21 : decode cX5_seeks 21 = .ok (.iload_n 2, 1) := by decide +kernel
theorem dX5_seeks_22 : decode cX5_seeks 22 = .ok (.aload_n 0, 1) := by decide +kernel
theorem dX5_seeks_23 : decode cX5_seeks 23 = .ok (.iload_n 1, 1) := by decide +kernel
theorem dX5_seeks_24 : decode cX5_seeks 24 = .ok (.iconst 0, 1) := by decide +kernel
theorem dX5_seeks_25 : decode cX5_seeks 25 = .ok (.invokevirtual 92, 3) := by decide +kernel
theorem dX5_seeks_28 : decode cX5_seeks 28 = .ok (.if_icmp .le 20, 3) := by decide +kernel
theorem dX5_seeks_31 : decode cX5_seeks 31 = .ok (.goto 13, 3) := by decide +kernel
theorem dX5_seeks_34 : decode cX5_seeks 34 = .ok (.iload_n 2, 1) := by decide +kernel
theorem dX5_seeks_35 : decode cX5_seeks 35 = .ok (.aload_n 0, 1) := by decide +kernel
theorem dX5_seeks_36 : decode cX5_seeks 36 = .ok (.iload_n 1, 1) := by decide +kernel
theorem dX5_seeks_37 : decode cX5_seeks 37 = .ok (.iconst 0, 1) := by decide +kernel
theorem dX5_seeks_38 : decode cX5_seeks 38 = .ok (.invokevirtual 92, 3) := by decide +kernel
theorem dX5_seeks_41 : decode cX5_seeks 41 = .ok (.if_icmp .ge 7, 3) := by decide +kernel
theorem dX5_seeks_44 : decode cX5_seeks 44 = .ok (.iconst 1, 1) := by decide +kernel
theorem dX5_seeks_45 : decode cX5_seeks 45 = .ok (.goto 4, 3) := by decide +kernel
theorem dX5_seeks_48 : decode cX5_seeks 48 = .ok (.iconst 0, 1) := by decide +kernel
theorem dX5_seeks_49 : decode cX5_seeks 49 = .ok (.istore_n 3, 1) := by decide +kernel
theorem dX5_seeks_50 : decode cX5_seeks 50 = .ok (.aload_n 0, 1) := by decide +kernel
theorem dX5_seeks_51 : decode cX5_seeks 51 = .ok (.iload_n 1, 1) := by decide +kernel
theorem dX5_seeks_52 : decode cX5_seeks 52 = .ok (.iconst 2, 1) := by decide +kernel
theorem dX5_seeks_53 : decode cX5_seeks 53 = .ok (.invokevirtual 92, 3) := by decide +kernel
theorem dX5_seeks_56 : decode cX5_seeks 56 = .ok (.iconst 1, 1) := by decide +kernel
theorem dX5_seeks_57 : decode cX5_seeks 57 = .ok (.if_icmp .ne 29, 3) := by decide +kernel
theorem dX5_seeks_60 : decode cX5_seeks 60 = .ok (.aload_n 0, 1) := by decide +kernel
theorem dX5_seeks_61 : decode cX5_seeks 61 = .ok (.getfield 7, 3) := by decide +kernel
theorem dX5_seeks_64 : decode cX5_seeks 64 = .ok (.iconst 2, 1) := by decide +kernel
theorem dX5_seeks_65 : decode cX5_seeks 65 = .ok (.iaload, 1) := by decide +kernel
theorem dX5_seeks_66 : decode cX5_seeks 66 = .ok (.iconst 1, 1) := by decide +kernel
theorem dX5_seeks_67 : decode cX5_seeks 67 = .ok (.if_icmp .ne 15, 3) := by decide +kernel
theorem dX5_seeks_70 : decode cX5_seeks 70 = .ok (.aload_n 0, 1) := by decide +kernel
theorem dX5_seeks_71 : decode cX5_seeks 71 = .ok (.iload_n 1, 1) := by decide +kernel
theorem dX5_seeks_72 : decode cX5_seeks 72 = .ok (.iconst 0, 1) := by decide +kernel
theorem dX5_seeks_73 : decode cX5_seeks 73 = .ok (.invokevirtual 92, 3) := by decide +kernel
theorem dX5_seeks_76 : decode cX5_seeks 76 = .ok (.sipush 999, 3) := by decide +kernel
theorem dX5_seeks_79 : decode cX5_seeks 79 = .ok (.if_icmp .ge 7, 3) := by decide +kernel
theorem dX5_seeks_82 : decode cX5_seeks 82 = .ok (.iconst 1, 1) := by decide +kernel
theorem dX5_seeks_83 : decode cX5_seeks 83 = .ok (.goto 4, 3) := by decide +kernel
theorem dX5_seeks_86 : decode cX5_seeks 86 = .ok (.iconst 0, 1) := by decide +kernel
theorem dX5_seeks_87 : decode cX5_seeks 87 = .ok (.istore 4, 2) := by decide +kernel
theorem dX5_seeks_89 : decode cX5_seeks 89 = .ok (.iload_n 3, 1) := by decide +kernel
theorem dX5_seeks_90 : decode cX5_seeks 90 = .ok (.ifCond .eq 10, 3) := by decide +kernel
theorem dX5_seeks_93 : decode cX5_seeks 93 = .ok (.aload_n 0, 1) := by decide +kernel
theorem dX5_seeks_94 : decode cX5_seeks 94 = .ok (.iload_n 1, 1) := by decide +kernel
theorem dX5_seeks_95 : decode cX5_seeks 95 = .ok (.iconst 0, 1) := by decide +kernel
theorem dX5_seeks_96 : decode cX5_seeks 96 = .ok (.iload_n 2, 1) := by decide +kernel
theorem dX5_seeks_97 : decode cX5_seeks 97 = .ok (.invokevirtual 117, 3) := by decide +kernel
theorem dX5_seeks_100 : decode cX5_seeks 100 = .ok (.iload_n 3, 1) := by decide +kernel
theorem dX5_seeks_101 : decode cX5_seeks 101 = .ok (.ifCond .ne 8, 3) := by decide +kernel
theorem dX5_seeks_104 : decode cX5_seeks 104 = .ok (.iload 4, 2) := by decide +kernel
theorem dX5_seeks_106 : decode cX5_seeks 106 = .ok (.ifCond .eq 14, 3) := by decide +kernel
theorem dX5_seeks_109 : decode cX5_seeks 109 = .ok (.aload_n 0, 1) := by decide +kernel
theorem dX5_seeks_110 : decode cX5_seeks 110 = .ok (.iload_n 1, 1) := by decide +kernel
theorem dX5_seeks_111 : decode cX5_seeks 111 = .ok (.aload_n 0, 1) := by decide +kernel
theorem dX5_seeks_112 : decode cX5_seeks 112 = .ok (.iload_n 1, 1) := by decide +kernel
theorem dX5_seeks_113 : decode cX5_seeks 113 = .ok (.iconst 0, 1) := by decide +kernel
theorem dX5_seeks_114 : decode cX5_seeks 114 = .ok (.invokevirtual 92, 3) := by decide +kernel
theorem dX5_seeks_117 : decode cX5_seeks 117 = .ok (.invokevirtual 120, 3) := by decide +kernel
theorem dX5_seeks_120 : decode cX5_seeks 120 = .ok (.aload_n 0, 1) := by decide +kernel
theorem dX5_seeks_121 : decode cX5_seeks 121 = .ok (.iload_n 1, 1) := by decide +kernel
theorem dX5_seeks_122 : decode cX5_seeks 122 = .ok (.iconst 3, 1) := by decide +kernel
theorem dX5_seeks_123 : decode cX5_seeks 123 = .ok (.iconst 1, 1) := by decide +kernel
theorem dX5_seeks_124 : decode cX5_seeks 124 = .ok (.invokevirtual 117, 3) := by decide +kernel
theorem dX5_seeks_127 : decode cX5_seeks 127 = .ok (.return_, 1) := by decide +kernel
theorem dX5_ranks_0 : decode cX5_ranks 0 = .ok (.aload_n 0, 1) := by decide +kernel
theorem dX5_ranks_1 : decode cX5_ranks 1 = .ok (.iload_n 1, 1) := by decide +kernel
theorem dX5_ranks_2 : decode cX5_ranks 2 = .ok (.invokevirtual 114, 3) := by decide +kernel
theorem dX5_ranks_5 : decode cX5_ranks 5 = .ok (.istore_n 2, 1) := by decide +kernel
theorem dX5_ranks_6 : decode cX5_ranks 6 = .ok (.iload_n 2, 1) := by decide +kernel
theorem dX5_ranks_7 : decode cX5_ranks 7 = .ok (.bipush (-4), 2) := by decide +kernel
theorem dX5_ranks_9 : decode cX5_ranks 9 = .ok (.if_icmp .ne 12, 3) := by decide +kernel
theorem dX5_ranks_12 : decode cX5_ranks 12 = .ok (.aload_n 0, 1) := by decide +kernel
theorem dX5_ranks_13 : decode cX5_ranks 13 = .ok (.iload_n 1, 1) := by decide +kernel
theorem dX5_ranks_14 : decode cX5_ranks 14 = .ok (.iconst 2, 1) := by decide +kernel
theorem dX5_ranks_15 : decode cX5_ranks 15 = .ok (.invokevirtual 92, 3) := by decide +kernel
theorem dX5_ranks_18 : decode cX5_ranks 18 = .ok (.ifCond .ne 29, 3) := by decide +kernel
theorem dX5_ranks_21 : decode cX5_ranks 21 = .ok (.aload_n 0, 1) := by decide +kernel
theorem dX5_ranks_22 : decode cX5_ranks 22 = .ok (.iload_n 1, 1) := by decide +kernel
theorem dX5_ranks_23 : decode cX5_ranks 23 = .ok (.iconst 0, 1) := by decide +kernel
theorem dX5_ranks_24 : decode cX5_ranks 24 = .ok (.sipush 999, 3) := by decide +kernel
theorem dX5_ranks_27 : decode cX5_ranks 27 = .ok (.bipush 15, 2) := by decide +kernel
theorem dX5_ranks_29 : decode cX5_ranks 29 = .ok (.bipush 17, 2) := by decide +kernel
theorem dX5_ranks_31 : decode cX5_ranks 31 = .ok (.iload_n 2, 1) := by decide +kernel
theorem dX5_ranks_32 : decode cX5_ranks 32 = .ok (.iconst 0, 1) := by decide +kernel
theorem dX5_ranks_33 : decode cX5_ranks 33 = .ok (.invokestatic 105, 3) := by decide +kernel
theorem dX5_ranks_36 : decode cX5_ranks 36 = .ok (.imul, 1) := by decide +kernel
theorem dX5_ranks_37 : decode cX5_ranks 37 = .ok (.bipush 20, 2) := by decide +kernel
theorem dX5_ranks_39 : decode cX5_ranks 39 = .ok (.idiv, 1) := by decide +kernel
theorem dX5_ranks_40 : decode cX5_ranks 40 = .ok (.iadd, 1) := by decide +kernel
theorem dX5_ranks_41 : decode cX5_ranks 41 = .ok (.invokestatic 108, 3) := by decide +kernel
theorem dX5_ranks_44 : decode cX5_ranks 44 = .ok (.invokevirtual 117, 3) := by decide +kernel
theorem dX5_ranks_47 : decode cX5_ranks 47 = .ok (.aload_n 0, 1) := by decide +kernel
theorem dX5_ranks_48 : decode cX5_ranks 48 = .ok (.iload_n 1, 1) := by decide +kernel
theorem dX5_ranks_49 : decode cX5_ranks 49 = .ok (.iconst 4, 1) := by decide +kernel
theorem dX5_ranks_50 : decode cX5_ranks 50 = .ok (.invokevirtual 92, 3) := by decide +kernel
theorem dX5_ranks_53 : decode cX5_ranks 53 = .ok (.aload_n 0, 1) := by decide +kernel
theorem dX5_ranks_54 : decode cX5_ranks 54 = .ok (.getfield 7, 3) := by decide +kernel
theorem dX5_ranks_57 : decode cX5_ranks 57 = .ok (.iconst 3, 1) := by decide +kernel
theorem dX5_ranks_58 : decode cX5_ranks 58 = .ok (.iaload, 1) := by decide +kernel
theorem dX5_ranks_59 : decode cX5_ranks 59 = .ok (.if_icmp .gt 7, 3) := by decide +kernel
theorem dX5_ranks_62 : decode cX5_ranks 62 = .ok (.iconst 1, 1) := by decide +kernel
theorem dX5_ranks_63 : decode cX5_ranks 63 = .ok (.goto 4, 3) := by decide +kernel
theorem dX5_ranks_66 : decode cX5_ranks 66 = .ok (.iconst 0, 1) := by decide +kernel
theorem dX5_ranks_67 : decode cX5_ranks 67 = .ok (.istore_n 3, 1) := by decide +kernel
theorem dX5_ranks_68 : decode cX5_ranks 68 = .ok (.aload_n 0, 1) := by decide +kernel
theorem dX5_ranks_69 : decode cX5_ranks 69 = .ok (.iload_n 1, 1) := by decide +kernel
theorem dX5_ranks_70 : decode cX5_ranks 70 = .ok (.invokevirtual 124, 3) := by decide +kernel
theorem dX5_ranks_73 : decode cX5_ranks 73 = .ok (.istore 4, 2) := by decide +kernel
theorem dX5_ranks_75 : decode cX5_ranks 75 = .ok (.iload_n 3, 1) := by decide +kernel
theorem dX5_ranks_76 : decode cX5_ranks 76 = .ok (.ifCond .eq 22, 3) := by decide +kernel
theorem dX5_ranks_79 : decode cX5_ranks 79 = .ok (.iload 4, 2) := by decide +kernel
theorem dX5_ranks_81 : decode cX5_ranks 81 = .ok (.ifCond .le 17, 3) := by decide +kernel
theorem dX5_ranks_84 : decode cX5_ranks 84 = .ok (.aload_n 0, 1) := by decide +kernel
theorem dX5_ranks_85 : decode cX5_ranks 85 = .ok (.iload_n 1, 1) := by decide +kernel
theorem dX5_ranks_86 : decode cX5_ranks 86 = .ok (.aload_n 0, 1) := by decide +kernel
theorem dX5_ranks_87 : decode cX5_ranks 87 = .ok (.iload_n 1, 1) := by decide +kernel
theorem dX5_ranks_88 : decode cX5_ranks 88 = .ok (.iconst 0, 1) := by decide +kernel
theorem dX5_ranks_89 : decode cX5_ranks 89 = .ok (.invokevirtual 92, 3) := by decide +kernel
theorem dX5_ranks_92 : decode cX5_ranks 92 = .ok (.iload 4, 2) := by decide +kernel
theorem dX5_ranks_94 : decode cX5_ranks 94 = .ok (.idiv, 1) := by decide +kernel
theorem dX5_ranks_95 : decode cX5_ranks 95 = .ok (.invokevirtual 120, 3) := by decide +kernel
theorem dX5_ranks_98 : decode cX5_ranks 98 = .ok (.aload_n 0, 1) := by decide +kernel
theorem dX5_ranks_99 : decode cX5_ranks 99 = .ok (.iload_n 1, 1) := by decide +kernel
theorem dX5_ranks_100 : decode cX5_ranks 100 = .ok (.iconst 3, 1) := by decide +kernel
theorem dX5_ranks_101 : decode cX5_ranks 101 = .ok (.iload_n 3, 1) := by decide +kernel
theorem dX5_ranks_102 : decode cX5_ranks 102 = .ok (.ifCond .eq 7, 3) := by decide +kernel
theorem dX5_ranks_105 : decode cX5_ranks 105 = .ok (.iconst 0, 1) := by decide +kernel
theorem dX5_ranks_106 : decode cX5_ranks 106 = .ok (.goto 4, 3) := by decide +kernel
theorem dX5_ranks_109 : decode cX5_ranks 109 = .ok (.iconst 1, 1) := by decide +kernel
theorem dX5_ranks_110 : decode cX5_ranks 110 = .ok (.invokevirtual 117, 3) := by decide +kernel
theorem dX5_ranks_113 : decode cX5_ranks 113 = .ok (.return_, 1) := by decide +kernel
theorem dX5_go_0 : decode cX5_go 0 = .ok (.iconst 0, 1) := by decide +kernel
theorem dX5_go_1 : decode cX5_go 1 = .ok (.istore_n 1, 1) := by decide +kernel
theorem dX5_go_2 : decode cX5_go 2 = .ok (.iconst 0, 1) := by decide +kernel
theorem dX5_go_3 : decode cX5_go 3 = .ok (.istore_n 2, 1) := by decide +kernel
theorem dX5_go_4 : decode cX5_go 4 = .ok (.aload_n 0, 1) := by decide +kernel
theorem dX5_go_5 : decode cX5_go 5 = .ok (.iconst 0, 1) := by decide +kernel
theorem dX5_go_6 : decode cX5_go 6 = .ok (.putfield 102, 3) := by decide +kernel
theorem dX5_go_9 : decode cX5_go 9 = .ok (.iconst 0, 1) := by decide +kernel
theorem dX5_go_10 : decode cX5_go 10 = .ok (.istore_n 3, 1) := by decide +kernel
theorem dX5_go_11 : decode cX5_go 11 = .ok (.iload_n 3, 1) := by decide +kernel
theorem dX5_go_12 : decode cX5_go 12 = .ok (.aload_n 0, 1) := by decide +kernel
theorem dX5_go_13 : decode cX5_go 13 = .ok (.getfield 7, 3) := by decide +kernel
theorem dX5_go_16 : decode cX5_go 16 = .ok (.iconst 0, 1) := by decide +kernel
theorem dX5_go_17 : decode cX5_go 17 = .ok (.iaload, 1) := by decide +kernel
theorem dX5_go_18 : decode cX5_go 18 = .ok (.if_icmp .ge 63, 3) := by decide +kernel
theorem dX5_go_21 : decode cX5_go 21 = .ok (.aload_n 0, 1) := by decide +kernel
theorem dX5_go_22 : decode cX5_go 22 = .ok (.getfield 28, 3) := by decide +kernel
theorem dX5_go_25 : decode cX5_go 25 = .ok (.iload_n 3, 1) := by decide +kernel
theorem dX5_go_26 : decode cX5_go 26 = .ok (.aload_n 0, 1) := by decide +kernel
theorem dX5_go_27 : decode cX5_go 27 = .ok (.iload_n 3, 1) := by decide +kernel
theorem dX5_go_28 : decode cX5_go 28 = .ok (.invokevirtual 99, 3) := by decide +kernel
theorem dX5_go_31 : decode cX5_go 31 = .ok (.bastore, 1) := by decide +kernel
theorem dX5_go_32 : decode cX5_go 32 = .ok (.aload_n 0, 1) := by decide +kernel
theorem dX5_go_33 : decode cX5_go 33 = .ok (.iload_n 3, 1) := by decide +kernel
theorem dX5_go_34 : decode cX5_go 34 = .ok (.iconst 5, 1) := by decide +kernel
theorem dX5_go_35 : decode cX5_go 35 = .ok (.aload_n 0, 1) := by decide +kernel
theorem dX5_go_36 : decode cX5_go 36 = .ok (.getfield 28, 3) := by decide +kernel
theorem dX5_go_39 : decode cX5_go 39 = .ok (.iload_n 3, 1) := by decide +kernel
theorem dX5_go_40 : decode cX5_go 40 = .ok (.baload, 1) := by decide +kernel
theorem dX5_go_41 : decode cX5_go 41 = .ok (.ifCond .eq 13, 3) := by decide +kernel
theorem dX5_go_44 : decode cX5_go 44 = .ok (.iconst 1, 1) := by decide +kernel
theorem dX5_go_45 : decode cX5_go 45 = .ok (.aload_n 0, 1) := by decide +kernel
theorem dX5_go_46 : decode cX5_go 46 = .ok (.iload_n 3, 1) := by decide +kernel
theorem dX5_go_47 : decode cX5_go 47 = .ok (.invokevirtual 95, 3) := by decide +kernel
theorem dX5_go_50 : decode cX5_go 50 = .ok (.iadd, 1) := by decide +kernel
theorem dX5_go_51 : decode cX5_go 51 = .ok (.goto 4, 3) := by decide +kernel
theorem dX5_go_54 : decode cX5_go 54 = .ok (.iconst 0, 1) := by decide +kernel
theorem dX5_go_55 : decode cX5_go 55 = .ok (.invokevirtual 117, 3) := by decide +kernel
theorem dX5_go_58 : decode cX5_go 58 = .ok (.iload_n 1, 1) := by decide +kernel
theorem dX5_go_59 : decode cX5_go 59 = .ok (.aload_n 0, 1) := by decide +kernel
theorem dX5_go_60 : decode cX5_go 60 = .ok (.getfield 28, 3) := by decide +kernel
theorem dX5_go_63 : decode cX5_go 63 = .ok (.iload_n 3, 1) := by decide +kernel
theorem dX5_go_64 : decode cX5_go 64 = .ok (.baload, 1) := by decide +kernel
theorem dX5_go_65 : decode cX5_go 65 = .ok (.ifCond .eq 7, 3) := by decide +kernel
theorem dX5_go_68 : decode cX5_go 68 = .ok (.iconst 1, 1) := by decide +kernel
theorem dX5_go_69 : decode cX5_go 69 = .ok (.goto 4, 3) := by decide +kernel
theorem dX5_go_72 : decode cX5_go 72 = .ok (.iconst 0, 1) := by decide +kernel
theorem dX5_go_73 : decode cX5_go 73 = .ok (.iadd, 1) := by decide +kernel
theorem dX5_go_74 : decode cX5_go 74 = .ok (.istore_n 1, 1) := by decide +kernel
theorem dX5_go_75 : decode cX5_go 75 = .ok (.iinc 3 1, 3) := by decide +kernel
theorem dX5_go_78 : decode cX5_go 78 = .ok (.goto (-67), 3) := by decide +kernel
theorem dX5_go_81 : decode cX5_go 81 = .ok (.iconst 0, 1) := by decide +kernel
theorem dX5_go_82 : decode cX5_go 82 = .ok (.istore_n 3, 1) := by decide +kernel
theorem dX5_go_83 : decode cX5_go 83 = .ok (.iload_n 3, 1) := by decide +kernel
theorem dX5_go_84 : decode cX5_go 84 = .ok (.aload_n 0, 1) := by decide +kernel
theorem dX5_go_85 : decode cX5_go 85 = .ok (.getfield 7, 3) := by decide +kernel
theorem dX5_go_88 : decode cX5_go 88 = .ok (.iconst 0, 1) := by decide +kernel
theorem dX5_go_89 : decode cX5_go 89 = .ok (.iaload, 1) := by decide +kernel
theorem dX5_go_90 : decode cX5_go 90 = .ok (.if_icmp .ge 89, 3) := by decide +kernel
theorem dX5_go_93 : decode cX5_go 93 = .ok (.aload_n 0, 1) := by decide +kernel
theorem dX5_go_94 : decode cX5_go 94 = .ok (.getfield 28, 3) := by decide +kernel
theorem dX5_go_97 : decode cX5_go 97 = .ok (.iload_n 3, 1) := by decide +kernel
theorem dX5_go_98 : decode cX5_go 98 = .ok (.baload, 1) := by decide +kernel
theorem dX5_go_99 : decode cX5_go 99 = .ok (.ifCond .eq 74, 3) := by decide +kernel
theorem dX5_go_102 : decode cX5_go 102 = .ok (.aload_n 0, 1) := by decide +kernel
theorem dX5_go_103 : decode cX5_go 103 = .ok (.iload_n 3, 1) := by decide +kernel
theorem dX5_go_104 : decode cX5_go 104 = .ok (.iconst 0, 1) := by decide +kernel
theorem dX5_go_105 : decode cX5_go 105 = .ok (.invokevirtual 92, 3) := by decide +kernel
theorem dX5_go_108 : decode cX5_go 108 = .ok (.istore 4, 2) := by decide +kernel
theorem dX5_go_110 : decode cX5_go 110 = .ok (.aload_n 0, 1) := by decide +kernel
theorem dX5_go_111 : decode cX5_go 111 = .ok (.iload_n 3, 1) := by decide +kernel
theorem dX5_go_112 : decode cX5_go 112 = .ok (.iconst 4, 1) := by decide +kernel
theorem dX5_go_113 : decode cX5_go 113 = .ok (.aload_n 0, 1) := by decide +kernel
theorem dX5_go_114 : decode cX5_go 114 = .ok (.iload_n 3, 1) := by decide +kernel
theorem dX5_go_115 : decode cX5_go 115 = .ok (.iconst 4, 1) := by decide +kernel
theorem dX5_go_116 : decode cX5_go 116 = .ok (.invokevirtual 92, 3) := by decide +kernel
theorem dX5_go_119 : decode cX5_go 119 = .ok (.iconst 1, 1) := by decide +kernel
theorem dX5_go_120 : decode cX5_go 120 = .ok (.iadd, 1) := by decide +kernel
theorem dX5_go_121 : decode cX5_go 121 = .ok (.invokevirtual 117, 3) := by decide +kernel
theorem dX5_go_124 : decode cX5_go 124 = .ok (.aload_n 0, 1) := by decide +kernel
theorem dX5_go_125 : decode cX5_go 125 = .ok (.getfield 7, 3) := by decide +kernel
theorem dX5_go_128 : decode cX5_go 128 = .ok (.iconst 2, 1) := by decide +kernel
theorem dX5_go_129 : decode cX5_go 129 = .ok (.iaload, 1) := by decide +kernel
theorem dX5_go_130 : decode cX5_go 130 = .ok (.iconst 3, 1) := by decide +kernel
theorem dX5_go_131 : decode cX5_go 131 = .ok (.if_icmp .ne 11, 3) := by decide +kernel
theorem dX5_go_134 : decode cX5_go 134 = .ok (.aload_n 0, 1) := by decide +kernel
theorem dX5_go_135 : decode cX5_go 135 = .ok (.iload_n 3, 1) := by decide +kernel
theorem dX5_go_136 : decode cX5_go 136 = .ok (.invokevirtual 127, 3) := by decide +kernel
theorem dX5_go_139 : decode cX5_go 139 = .ok (.goto 8, 3) := by decide +kernel
theorem dX5_go_142 : decode cX5_go 142 = .ok (.aload_n 0, 1) := by decide +kernel
theorem dX5_go_143 : decode cX5_go 143 = .ok (.iload_n 3, 1) := by decide +kernel
theorem dX5_go_144 : decode cX5_go 144 = .ok (.invokevirtual 131, 3) := by decide +kernel
theorem dX5_go_147 : decode cX5_go 147 = .ok (.aload_n 0, 1) := by decide +kernel
theorem dX5_go_148 : decode cX5_go 148 = .ok (.iload_n 3, 1) := by decide +kernel
theorem dX5_go_149 : decode cX5_go 149 = .ok (.iconst 2, 1) := by decide +kernel
theorem dX5_go_150 : decode cX5_go 150 = .ok (.iconst 0, 1) := by decide +kernel
theorem dX5_go_151 : decode cX5_go 151 = .ok (.invokevirtual 117, 3) := by decide +kernel
theorem dX5_go_154 : decode cX5_go 154 = .ok (.iload_n 2, 1) := by decide +kernel
theorem dX5_go_155 : decode cX5_go 155 = .ok (.aload_n 0, 1) := by decide +kernel
theorem dX5_go_156 : decode cX5_go 156 = .ok (.iload_n 3, 1) := by decide +kernel
theorem dX5_go_157 : decode cX5_go 157 = .ok (.iconst 0, 1) := by decide +kernel
theorem dX5_go_158 : decode cX5_go 158 = .ok (.invokevirtual 92, 3) := by decide +kernel
theorem dX5_go_161 : decode cX5_go 161 = .ok (.iload 4, 2) := by decide +kernel
theorem dX5_go_163 : decode cX5_go 163 = .ok (.if_icmp .ne 7, 3) := by decide +kernel
theorem dX5_go_166 : decode cX5_go 166 = .ok (.iconst 0, 1) := by decide +kernel
theorem dX5_go_167 : decode cX5_go 167 = .ok (.goto 4, 3) := by decide +kernel
theorem dX5_go_170 : decode cX5_go 170 = .ok (.iconst 1, 1) := by decide +kernel
theorem dX5_go_171 : decode cX5_go 171 = .ok (.iadd, 1) := by decide +kernel
theorem dX5_go_172 : decode cX5_go 172 = .ok (.istore_n 2, 1) := by decide +kernel
theorem dX5_go_173 : decode cX5_go 173 = .ok (.iinc 3 1, 3) := by decide +kernel
theorem dX5_go_176 : decode cX5_go 176 = .ok (.goto (-93), 3) := by decide +kernel
theorem dX5_go_179 : decode cX5_go 179 = .ok (.aload_n 0, 1) := by decide +kernel
theorem dX5_go_180 : decode cX5_go 180 = .ok (.iload_n 1, 1) := by decide +kernel
theorem dX5_go_181 : decode cX5_go 181 = .ok (.iload_n 2, 1) := by decide +kernel
theorem dX5_go_182 : decode cX5_go 182 = .ok (.invokevirtual 134, 3) := by decide +kernel
theorem dX5_go_185 : decode cX5_go 185 = .ok (.aload_n 0, 1) := by decide +kernel
theorem dX5_go_186 : decode cX5_go 186 = .ok (.getfield 7, 3) := by decide +kernel
theorem dX5_go_189 : decode cX5_go 189 = .ok (.bipush 10, 2) := by decide +kernel
theorem dX5_go_191 : decode cX5_go 191 = .ok (.aload_n 0, 1) := by decide +kernel
theorem dX5_go_192 : decode cX5_go 192 = .ok (.getfield 102, 3) := by decide +kernel
theorem dX5_go_195 : decode cX5_go 195 = .ok (.iastore, 1) := by decide +kernel
theorem dX5_go_196 : decode cX5_go 196 = .ok (.iconst 0, 1) := by decide +kernel
theorem dX5_go_197 : decode cX5_go 197 = .ok (.istore_n 3, 1) := by decide +kernel
theorem dX5_go_198 : decode cX5_go 198 = .ok (.iload_n 3, 1) := by decide +kernel
theorem dX5_go_199 : decode cX5_go 199 = .ok (.iconst 4, 1) := by decide +kernel
theorem dX5_go_200 : decode cX5_go 200 = .ok (.aload_n 0, 1) := by decide +kernel
theorem dX5_go_201 : decode cX5_go 201 = .ok (.getfield 102, 3) := by decide +kernel
theorem dX5_go_204 : decode cX5_go 204 = .ok (.imul, 1) := by decide +kernel
theorem dX5_go_205 : decode cX5_go 205 = .ok (.if_icmp .ge 25, 3) := by decide +kernel
theorem dX5_go_208 : decode cX5_go 208 = .ok (.aload_n 0, 1) := by decide +kernel
theorem dX5_go_209 : decode cX5_go 209 = .ok (.getfield 7, 3) := by decide +kernel
theorem dX5_go_212 : decode cX5_go 212 = .ok (.sipush 132, 3) := by decide +kernel
theorem dX5_go_215 : decode cX5_go 215 = .ok (.iload_n 3, 1) := by decide +kernel
theorem dX5_go_216 : decode cX5_go 216 = .ok (.iadd, 1) := by decide +kernel
theorem dX5_go_217 : decode cX5_go 217 = .ok (.aload_n 0, 1) := by decide +kernel
theorem dX5_go_218 : decode cX5_go 218 = .ok (.getfield 25, 3) := by decide +kernel
theorem dX5_go_221 : decode cX5_go 221 = .ok (.iload_n 3, 1) := by decide +kernel
theorem dX5_go_222 : decode cX5_go 222 = .ok (.iaload, 1) := by decide +kernel
theorem dX5_go_223 : decode cX5_go 223 = .ok (.iastore, 1) := by decide +kernel
theorem dX5_go_224 : decode cX5_go 224 = .ok (.iinc 3 1, 3) := by decide +kernel
theorem dX5_go_227 : decode cX5_go 227 = .ok (.goto (-29), 3) := by decide +kernel
theorem dX5_go_230 : decode cX5_go 230 = .ok (.aload_n 0, 1) := by decide +kernel
theorem dX5_go_231 : decode cX5_go 231 = .ok (.getfield 7, 3) := by decide +kernel
theorem dX5_go_234 : decode cX5_go 234 = .ok (.bipush 7, 2) := by decide +kernel
theorem dX5_go_236 : decode cX5_go 236 = .ok (.dup2, 1) := by decide +kernel
theorem dX5_go_237 : decode cX5_go 237 = .ok (.iaload, 1) := by decide +kernel
theorem dX5_go_238 : decode cX5_go 238 = .ok (.iconst 1, 1) := by decide +kernel
theorem dX5_go_239 : decode cX5_go 239 = .ok (.iadd, 1) := by decide +kernel
theorem dX5_go_240 : decode cX5_go 240 = .ok (.iastore, 1) := by decide +kernel
theorem dX5_go_241 : decode cX5_go 241 = .ok (.aload_n 0, 1) := by decide +kernel
theorem dX5_go_242 : decode cX5_go 242 = .ok (.getfield 7, 3) := by decide +kernel
theorem dX5_go_245 : decode cX5_go 245 = .ok (.bipush 8, 2) := by decide +kernel
theorem dX5_go_247 : decode cX5_go 247 = .ok (.dup2, 1) := by decide +kernel
theorem dX5_go_248 : decode cX5_go 248 = .ok (.iaload, 1) := by decide +kernel
theorem dX5_go_249 : decode cX5_go 249 = .ok (.aload_n 0, 1) := by decide +kernel
theorem dX5_go_250 : decode cX5_go 250 = .ok (.getfield 102, 3) := by decide +kernel
theorem dX5_go_253 : decode cX5_go 253 = .ok (.iadd, 1) := by decide +kernel
theorem dX5_go_254 : decode cX5_go 254 = .ok (.iastore, 1) := by decide +kernel
theorem dX5_go_255 : decode cX5_go 255 = .ok (.aload_n 0, 1) := by decide +kernel
theorem dX5_go_256 : decode cX5_go 256 = .ok (.invokevirtual 137, 3) := by decide +kernel
theorem dX5_go_259 : decode cX5_go 259 = .ok (.aload_n 0, 1) := by decide +kernel
theorem dX5_go_260 : decode cX5_go 260 = .ok (.getfield 7, 3) := by decide +kernel
theorem dX5_go_263 : decode cX5_go 263 = .ok (.sipush 205, 3) := by decide +kernel
theorem dX5_go_266 : decode cX5_go 266 = .ok (.aload_n 0, 1) := by decide +kernel
theorem dX5_go_267 : decode cX5_go 267 = .ok (.invokevirtual 140, 3) := by decide +kernel
theorem dX5_go_270 : decode cX5_go 270 = .ok (.iastore, 1) := by decide +kernel
theorem dX5_go_271 : decode cX5_go 271 = .ok (.return_, 1) := by decide +kernel
theorem dX5_values_0 : decode cX5_values 0 = .ok (.iconst 0, 1) := by decide +kernel
theorem dX5_values_1 : decode cX5_values 1 = .ok (.istore_n 1, 1) := by decide +kernel
theorem dX5_values_2 : decode cX5_values 2 = .ok (.iconst 0, 1) := by decide +kernel
theorem dX5_values_3 : decode cX5_values 3 = .ok (.istore_n 2, 1) := by decide +kernel
theorem dX5_values_4 : decode cX5_values 4 = .ok (.iload_n 2, 1) := by decide +kernel
theorem dX5_values_5 : decode cX5_values 5 = .ok (.aload_n 0, 1) := by decide +kernel
theorem dX5_values_6 : decode cX5_values 6 = .ok (.getfield 7, 3) := by decide +kernel
theorem dX5_values_9 : decode cX5_values 9 = .ok (.iconst 0, 1) := by decide +kernel
theorem dX5_values_10 : decode cX5_values 10 = .ok (.iaload, 1) := by decide +kernel
theorem dX5_values_11 : decode cX5_values 11 = .ok (.if_icmp .ge 18, 3) := by decide +kernel
theorem dX5_values_14 : decode cX5_values 14 = .ok (.iload_n 1, 1) := by decide +kernel
theorem dX5_values_15 : decode cX5_values 15 = .ok (.aload_n 0, 1) := by decide +kernel
theorem dX5_values_16 : decode cX5_values 16 = .ok (.iload_n 2, 1) := by decide +kernel
theorem dX5_values_17 : decode cX5_values 17 = .ok (.iconst 0, 1) := by decide +kernel
theorem dX5_values_18 : decode cX5_values 18 = .ok (.invokevirtual 92, 3) := by decide +kernel
theorem dX5_values_21 : decode cX5_values 21 = .ok (.iadd, 1) := by decide +kernel
theorem dX5_values_22 : decode cX5_values 22 = .ok (.istore_n 1, 1) := by decide +kernel
theorem dX5_values_23 : decode cX5_values 23 = .ok (.iinc 2 1, 3) := by decide +kernel
theorem dX5_values_26 : decode cX5_values 26 = .ok (.goto (-22), 3) := by decide +kernel
theorem dX5_values_29 : decode cX5_values 29 = .ok (.iload_n 1, 1) := by decide +kernel
theorem dX5_values_30 : decode cX5_values 30 = .ok (.ireturn, 1) := by decide +kernel
theorem dX5_logs_0 : decode cX5_logs 0 = .ok (.bipush 59, 2) := by decide +kernel
theorem dX5_logs_2 : decode cX5_logs 2 = .ok (.istore_n 3, 1) := by decide +kernel
theorem dX5_logs_3 : decode cX5_logs 3 = .ok (.iload_n 3, 1) := by decide +kernel
theorem dX5_logs_4 : decode cX5_logs 4 = .ok (.bipush 6, 2) := by decide +kernel
theorem dX5_logs_6 : decode cX5_logs 6 = .ok (.if_icmp .lt 32, 3) := by decide +kernel
theorem dX5_logs_9 : decode cX5_logs 9 = .ok (.aload_n 0, 1) := by decide +kernel
theorem dX5_logs_10 : decode cX5_logs 10 = .ok (.getfield 7, 3) := by decide +kernel
theorem dX5_logs_13 : decode cX5_logs 13 = .ok (.sipush 200, 3) := by decide +kernel
theorem dX5_logs_16 : decode cX5_logs 16 = .ok (.iload_n 3, 1) := by decide +kernel
theorem dX5_logs_17 : decode cX5_logs 17 = .ok (.iadd, 1) := by decide +kernel
theorem dX5_logs_18 : decode cX5_logs 18 = .ok (.aload_n 0, 1) := by decide +kernel
theorem dX5_logs_19 : decode cX5_logs 19 = .ok (.getfield 7, 3) := by decide +kernel
theorem dX5_logs_22 : decode cX5_logs 22 = .ok (.sipush 200, 3) := by decide +kernel
theorem dX5_logs_25 : decode cX5_logs 25 = .ok (.iload_n 3, 1) := by decide +kernel
theorem dX5_logs_26 : decode cX5_logs 26 = .ok (.iadd, 1) := by decide +kernel
theorem dX5_logs_27 : decode cX5_logs 27 = .ok (.bipush 6, 2) := by decide +kernel
theorem dX5_logs_29 : decode cX5_logs 29 = .ok (.isub, 1) := by decide +kernel
theorem dX5_logs_30 : decode cX5_logs 30 = .ok (.iaload, 1) := by decide +kernel
theorem dX5_logs_31 : decode cX5_logs 31 = .ok (.iastore, 1) := by decide +kernel
theorem dX5_logs_32 : decode cX5_logs 32 = .ok (.iinc 3 (-1), 3) := by decide +kernel
theorem dX5_logs_35 : decode cX5_logs 35 = .ok (.goto (-32), 3) := by decide +kernel
theorem dX5_logs_38 : decode cX5_logs 38 = .ok (.aload_n 0, 1) := by decide +kernel
theorem dX5_logs_39 : decode cX5_logs 39 = .ok (.getfield 7, 3) := by decide +kernel
theorem dX5_logs_42 : decode cX5_logs 42 = .ok (.bipush 11, 2) := by decide +kernel
theorem dX5_logs_44 : decode cX5_logs 44 = .ok (.bipush 10, 2) := by decide +kernel
theorem dX5_logs_46 : decode cX5_logs 46 = .ok (.aload_n 0, 1) := by decide +kernel
theorem dX5_logs_47 : decode cX5_logs 47 = .ok (.getfield 7, 3) := by decide +kernel
theorem dX5_logs_50 : decode cX5_logs 50 = .ok (.bipush 11, 2) := by decide +kernel
theorem dX5_logs_52 : decode cX5_logs 52 = .ok (.iaload, 1) := by decide +kernel
theorem dX5_logs_53 : decode cX5_logs 53 = .ok (.iconst 1, 1) := by decide +kernel
theorem dX5_logs_54 : decode cX5_logs 54 = .ok (.iadd, 1) := by decide +kernel
theorem dX5_logs_55 : decode cX5_logs 55 = .ok (.invokestatic 108, 3) := by decide +kernel
theorem dX5_logs_58 : decode cX5_logs 58 = .ok (.iastore, 1) := by decide +kernel
theorem dX5_logs_59 : decode cX5_logs 59 = .ok (.iconst 0, 1) := by decide +kernel
theorem dX5_logs_60 : decode cX5_logs 60 = .ok (.istore_n 3, 1) := by decide +kernel
theorem dX5_logs_61 : decode cX5_logs 61 = .ok (.iconst 0, 1) := by decide +kernel
theorem dX5_logs_62 : decode cX5_logs 62 = .ok (.istore 4, 2) := by decide +kernel
theorem dX5_logs_64 : decode cX5_logs 64 = .ok (.iload 4, 2) := by decide +kernel
theorem dX5_logs_66 : decode cX5_logs 66 = .ok (.aload_n 0, 1) := by decide +kernel
theorem dX5_logs_67 : decode cX5_logs 67 = .ok (.getfield 102, 3) := by decide +kernel
theorem dX5_logs_70 : decode cX5_logs 70 = .ok (.if_icmp .ge 45, 3) := by decide +kernel
theorem dX5_logs_73 : decode cX5_logs 73 = .ok (.iload_n 3, 1) := by decide +kernel
theorem dX5_logs_74 : decode cX5_logs 74 = .ok (.aload_n 0, 1) := by decide +kernel
theorem dX5_logs_75 : decode cX5_logs 75 = .ok (.aload_n 0, 1) := by decide +kernel
theorem dX5_logs_76 : decode cX5_logs 76 = .ok (.getfield 25, 3) := by decide +kernel
theorem dX5_logs_79 : decode cX5_logs 79 = .ok (.iconst 4, 1) := by decide +kernel
theorem dX5_logs_80 : decode cX5_logs 80 = .ok (.iload 4, 2) := by decide +kernel
theorem dX5_logs_82 : decode cX5_logs 82 = .ok (.imul, 1) := by decide +kernel
theorem dX5_logs_83 : decode cX5_logs 83 = .ok (.iaload, 1) := by decide +kernel
theorem dX5_logs_84 : decode cX5_logs 84 = .ok (.iconst 1, 1) := by decide +kernel
theorem dX5_logs_85 : decode cX5_logs 85 = .ok (.invokevirtual 92, 3) := by decide +kernel
theorem dX5_logs_88 : decode cX5_logs 88 = .ok (.aload_n 0, 1) := by decide +kernel
theorem dX5_logs_89 : decode cX5_logs 89 = .ok (.getfield 25, 3) := by decide +kernel
theorem dX5_logs_92 : decode cX5_logs 92 = .ok (.iconst 4, 1) := by decide +kernel
theorem dX5_logs_93 : decode cX5_logs 93 = .ok (.iload 4, 2) := by decide +kernel
theorem dX5_logs_95 : decode cX5_logs 95 = .ok (.imul, 1) := by decide +kernel
theorem dX5_logs_96 : decode cX5_logs 96 = .ok (.iconst 2, 1) := by decide +kernel
theorem dX5_logs_97 : decode cX5_logs 97 = .ok (.iadd, 1) := by decide +kernel
theorem dX5_logs_98 : decode cX5_logs 98 = .ok (.iaload, 1) := by decide +kernel
theorem dX5_logs_99 : decode cX5_logs 99 = .ok (.if_icmp .ne 7, 3) := by decide +kernel
theorem dX5_logs_102 : decode cX5_logs 102 = .ok (.iconst 0, 1) := by decide +kernel
theorem dX5_logs_103 : decode cX5_logs 103 = .ok (.goto 4, 3) := by decide +kernel
theorem dX5_logs_106 : decode cX5_logs 106 = .ok (.iconst 1, 1) := by decide +kernel
theorem dX5_logs_107 : decode cX5_logs 107 = .ok (.iadd, 1) := by decide +kernel
theorem dX5_logs_108 : decode cX5_logs 108 = .ok (.istore_n 3, 1) := by decide +kernel
theorem dX5_logs_109 : decode cX5_logs 109 = .ok (.iinc 4 1, 3) := by decide +kernel
theorem dX5_logs_112 : decode cX5_logs 112 = .ok (.goto (-48), 3) := by decide +kernel
theorem dX5_logs_115 : decode cX5_logs 115 = .ok (.aload_n 0, 1) := by decide +kernel
theorem dX5_logs_116 : decode cX5_logs 116 = .ok (.getfield 7, 3) := by decide +kernel
theorem dX5_logs_119 : decode cX5_logs 119 = .ok (.sipush 200, 3) := by decide +kernel
theorem dX5_logs_122 : decode cX5_logs 122 = .ok (.iload_n 1, 1) := by decide +kernel
theorem dX5_logs_123 : decode cX5_logs 123 = .ok (.iastore, 1) := by decide +kernel
theorem dX5_logs_124 : decode cX5_logs 124 = .ok (.aload_n 0, 1) := by decide +kernel
theorem dX5_logs_125 : decode cX5_logs 125 = .ok (.getfield 7, 3) := by decide +kernel
theorem dX5_logs_128 : decode cX5_logs 128 = .ok (.sipush 201, 3) := by decide +kernel
theorem dX5_logs_131 : decode cX5_logs 131 = .ok (.iload_n 2, 1) := by decide +kernel
theorem dX5_logs_132 : decode cX5_logs 132 = .ok (.iastore, 1) := by decide +kernel
theorem dX5_logs_133 : decode cX5_logs 133 = .ok (.aload_n 0, 1) := by decide +kernel
theorem dX5_logs_134 : decode cX5_logs 134 = .ok (.getfield 7, 3) := by decide +kernel
theorem dX5_logs_137 : decode cX5_logs 137 = .ok (.sipush 202, 3) := by decide +kernel
theorem dX5_logs_140 : decode cX5_logs 140 = .ok (.aload_n 0, 1) := by decide +kernel
theorem dX5_logs_141 : decode cX5_logs 141 = .ok (.getfield 102, 3) := by decide +kernel
theorem dX5_logs_144 : decode cX5_logs 144 = .ok (.iastore, 1) := by decide +kernel
theorem dX5_logs_145 : decode cX5_logs 145 = .ok (.aload_n 0, 1) := by decide +kernel
theorem dX5_logs_146 : decode cX5_logs 146 = .ok (.getfield 7, 3) := by decide +kernel
theorem dX5_logs_149 : decode cX5_logs 149 = .ok (.sipush 203, 3) := by decide +kernel
theorem dX5_logs_152 : decode cX5_logs 152 = .ok (.iload_n 3, 1) := by decide +kernel
theorem dX5_logs_153 : decode cX5_logs 153 = .ok (.iastore, 1) := by decide +kernel
theorem dX5_logs_154 : decode cX5_logs 154 = .ok (.aload_n 0, 1) := by decide +kernel
theorem dX5_logs_155 : decode cX5_logs 155 = .ok (.getfield 7, 3) := by decide +kernel
theorem dX5_logs_158 : decode cX5_logs 158 = .ok (.sipush 204, 3) := by decide +kernel
theorem dX5_logs_161 : decode cX5_logs 161 = .ok (.aload_n 0, 1) := by decide +kernel
theorem dX5_logs_162 : decode cX5_logs 162 = .ok (.invokevirtual 143, 3) := by decide +kernel
theorem dX5_logs_165 : decode cX5_logs 165 = .ok (.iastore, 1) := by decide +kernel
theorem dX5_logs_166 : decode cX5_logs 166 = .ok (.return_, 1) := by decide +kernel
theorem dX5_findLoads_0 : decode cX5_findLoads 0 = .ok (.iconst 0, 1) := by decide +kernel
theorem dX5_findLoads_1 : decode cX5_findLoads 1 = .ok (.istore_n 1, 1) := by decide +kernel
theorem dX5_findLoads_2 : decode cX5_findLoads 2 = .ok (.iload_n 1, 1) := by decide +kernel
theorem dX5_findLoads_3 : decode cX5_findLoads 3 = .ok (.iconst 4, 1) := by decide +kernel
theorem dX5_findLoads_4 : decode cX5_findLoads 4 = .ok (.if_icmp .ge 20, 3) := by decide +kernel
theorem dX5_findLoads_7 : decode cX5_findLoads 7 = .ok (.aload_n 0, 1) := by decide +kernel
theorem dX5_findLoads_8 : decode cX5_findLoads 8 = .ok (.getfield 7, 3) := by decide +kernel
theorem dX5_findLoads_11 : decode cX5_findLoads 11 = .ok (.sipush 196, 3) := by decide +kernel
theorem dX5_findLoads_14 : decode cX5_findLoads 14 = .ok (.iload_n 1, 1) := by decide +kernel
theorem dX5_findLoads_15 : decode cX5_findLoads 15 = .ok (.iadd, 1) := by decide +kernel
theorem dX5_findLoads_16 : decode cX5_findLoads 16 = .ok (.iconst 0, 1) := by decide +kernel
theorem dX5_findLoads_17 : decode cX5_findLoads 17 = .ok (.iastore, 1) := by decide +kernel
theorem dX5_findLoads_18 : decode cX5_findLoads 18 = .ok (.iinc 1 1, 3) := by decide +kernel
theorem dX5_findLoads_21 : decode cX5_findLoads 21 = .ok (.goto (-19), 3) := by decide +kernel
theorem dX5_findLoads_24 : decode cX5_findLoads 24 = .ok (.iconst 0, 1) := by decide +kernel
theorem dX5_findLoads_25 : decode cX5_findLoads 25 = .ok (.istore_n 1, 1) := by decide +kernel
theorem dX5_findLoads_26 : decode cX5_findLoads 26 = .ok (.iload_n 1, 1) := by decide +kernel
theorem dX5_findLoads_27 : decode cX5_findLoads 27 = .ok (.aload_n 0, 1) := by decide +kernel
theorem dX5_findLoads_28 : decode cX5_findLoads 28 = .ok (.getfield 7, 3) := by decide +kernel
theorem dX5_findLoads_31 : decode cX5_findLoads 31 = .ok (.iconst 0, 1) := by decide +kernel
theorem dX5_findLoads_32 : decode cX5_findLoads 32 = .ok (.iaload, 1) := by decide +kernel
theorem dX5_findLoads_33 : decode cX5_findLoads 33 = .ok (.if_icmp .ge 33, 3) := by decide +kernel
theorem dX5_findLoads_36 : decode cX5_findLoads 36 = .ok (.aload_n 0, 1) := by decide +kernel
theorem dX5_findLoads_37 : decode cX5_findLoads 37 = .ok (.getfield 7, 3) := by decide +kernel
theorem dX5_findLoads_40 : decode cX5_findLoads 40 = .ok (.sipush 196, 3) := by decide +kernel
theorem dX5_findLoads_43 : decode cX5_findLoads 43 = .ok (.aload_n 0, 1) := by decide +kernel
theorem dX5_findLoads_44 : decode cX5_findLoads 44 = .ok (.iload_n 1, 1) := by decide +kernel
theorem dX5_findLoads_45 : decode cX5_findLoads 45 = .ok (.iconst 1, 1) := by decide +kernel
theorem dX5_findLoads_46 : decode cX5_findLoads 46 = .ok (.invokevirtual 92, 3) := by decide +kernel
theorem dX5_findLoads_49 : decode cX5_findLoads 49 = .ok (.iadd, 1) := by decide +kernel
theorem dX5_findLoads_50 : decode cX5_findLoads 50 = .ok (.dup2, 1) := by decide +kernel
theorem dX5_findLoads_51 : decode cX5_findLoads 51 = .ok (.iaload, 1) := by decide +kernel
theorem dX5_findLoads_52 : decode cX5_findLoads 52 = .ok (.aload_n 0, 1) := by decide +kernel
theorem dX5_findLoads_53 : decode cX5_findLoads 53 = .ok (.iload_n 1, 1) := by decide +kernel
theorem dX5_findLoads_54 : decode cX5_findLoads 54 = .ok (.iconst 5, 1) := by decide +kernel
theorem dX5_findLoads_55 : decode cX5_findLoads 55 = .ok (.invokevirtual 92, 3) := by decide +kernel
theorem dX5_findLoads_58 : decode cX5_findLoads 58 = .ok (.iadd, 1) := by decide +kernel
theorem dX5_findLoads_59 : decode cX5_findLoads 59 = .ok (.iastore, 1) := by decide +kernel
theorem dX5_findLoads_60 : decode cX5_findLoads 60 = .ok (.iinc 1 1, 3) := by decide +kernel
theorem dX5_findLoads_63 : decode cX5_findLoads 63 = .ok (.goto (-37), 3) := by decide +kernel
theorem dX5_findLoads_66 : decode cX5_findLoads 66 = .ok (.return_, 1) := by decide +kernel
theorem dX5_elsewhere_0 : decode cX5_elsewhere 0 = .ok (.iconst 0, 1) := by decide +kernel
theorem dX5_elsewhere_1 : decode cX5_elsewhere 1 = .ok (.istore_n 1, 1) := by decide +kernel
theorem dX5_elsewhere_2 : decode cX5_elsewhere 2 = .ok (.iconst 0, 1) := by decide +kernel
theorem dX5_elsewhere_3 : decode cX5_elsewhere 3 = .ok (.istore_n 2, 1) := by decide +kernel
theorem dX5_elsewhere_4 : decode cX5_elsewhere 4 = .ok (.iconst 1, 1) := by decide +kernel
theorem dX5_elsewhere_5 : decode cX5_elsewhere 5 = .ok (.istore_n 3, 1) := by decide +kernel
theorem dX5_elsewhere_6 : decode cX5_elsewhere 6 = .ok (.iload_n 3, 1) := by decide +kernel
theorem dX5_elsewhere_7 : decode cX5_elsewhere 7 = .ok (.aload_n 0, 1) := by decide +kernel
theorem dX5_elsewhere_8 : decode cX5_elsewhere 8 = .ok (.getfield 7, 3) := by decide +kernel
theorem dX5_elsewhere_11 : decode cX5_elsewhere 11 = .ok (.iconst 4, 1) := by decide +kernel
theorem dX5_elsewhere_12 : decode cX5_elsewhere 12 = .ok (.iaload, 1) := by decide +kernel
theorem dX5_elsewhere_13 : decode cX5_elsewhere 13 = .ok (.if_icmp .ge 67, 3) := by decide +kernel
theorem dX5_elsewhere_16 : decode cX5_elsewhere 16 = .ok (.aload_n 0, 1) := by decide +kernel
theorem dX5_elsewhere_17 : decode cX5_elsewhere 17 = .ok (.getfield 7, 3) := by decide +kernel
theorem dX5_elsewhere_20 : decode cX5_elsewhere 20 = .ok (.sipush 196, 3) := by decide +kernel
theorem dX5_elsewhere_23 : decode cX5_elsewhere 23 = .ok (.iload_n 3, 1) := by decide +kernel
theorem dX5_elsewhere_24 : decode cX5_elsewhere 24 = .ok (.iadd, 1) := by decide +kernel
theorem dX5_elsewhere_25 : decode cX5_elsewhere 25 = .ok (.iaload, 1) := by decide +kernel
theorem dX5_elsewhere_26 : decode cX5_elsewhere 26 = .ok (.aload_n 0, 1) := by decide +kernel
theorem dX5_elsewhere_27 : decode cX5_elsewhere 27 = .ok (.getfield 7, 3) := by decide +kernel
theorem dX5_elsewhere_30 : decode cX5_elsewhere 30 = .ok (.sipush 196, 3) := by decide +kernel
theorem dX5_elsewhere_33 : decode cX5_elsewhere 33 = .ok (.iload_n 1, 1) := by decide +kernel
theorem dX5_elsewhere_34 : decode cX5_elsewhere 34 = .ok (.iadd, 1) := by decide +kernel
theorem dX5_elsewhere_35 : decode cX5_elsewhere 35 = .ok (.iaload, 1) := by decide +kernel
theorem dX5_elsewhere_36 : decode cX5_elsewhere 36 = .ok (.if_icmp .le 7, 3) := by decide +kernel
theorem dX5_elsewhere_39 : decode cX5_elsewhere 39 = .ok (.iload_n 3, 1) := by decide +kernel
theorem dX5_elsewhere_40 : decode cX5_elsewhere 40 = .ok (.goto 4, 3) := by decide +kernel
theorem dX5_elsewhere_43 : decode cX5_elsewhere 43 = .ok (.iload_n 1, 1) := by decide +kernel
theorem dX5_elsewhere_44 : decode cX5_elsewhere 44 = .ok (.istore_n 1, 1) := by decide +kernel
theorem dX5_elsewhere_45 : decode cX5_elsewhere 45 = .ok (.aload_n 0, 1) := by decide +kernel
theorem dX5_elsewhere_46 : decode cX5_elsewhere 46 = .ok (.getfield 7, 3) := by decide +kernel
theorem dX5_elsewhere_49 : decode cX5_elsewhere 49 = .ok (.sipush 196, 3) := by decide +kernel
theorem dX5_elsewhere_52 : decode cX5_elsewhere 52 = .ok (.iload_n 3, 1) := by decide +kernel
theorem dX5_elsewhere_53 : decode cX5_elsewhere 53 = .ok (.iadd, 1) := by decide +kernel
theorem dX5_elsewhere_54 : decode cX5_elsewhere 54 = .ok (.iaload, 1) := by decide +kernel
theorem dX5_elsewhere_55 : decode cX5_elsewhere 55 = .ok (.aload_n 0, 1) := by decide +kernel
theorem dX5_elsewhere_56 : decode cX5_elsewhere 56 = .ok (.getfield 7, 3) := by decide +kernel
theorem dX5_elsewhere_59 : decode cX5_elsewhere 59 = .ok (.sipush 196, 3) := by decide +kernel
theorem dX5_elsewhere_62 : decode cX5_elsewhere 62 = .ok (.iload_n 2, 1) := by decide +kernel
theorem dX5_elsewhere_63 : decode cX5_elsewhere 63 = .ok (.iadd, 1) := by decide +kernel
theorem dX5_elsewhere_64 : decode cX5_elsewhere 64 = .ok (.iaload, 1) := by decide +kernel
theorem dX5_elsewhere_65 : decode cX5_elsewhere 65 = .ok (.if_icmp .ge 7, 3) := by decide +kernel
theorem dX5_elsewhere_68 : decode cX5_elsewhere 68 = .ok (.iload_n 3, 1) := by decide +kernel
theorem dX5_elsewhere_69 : decode cX5_elsewhere 69 = .ok (.goto 4, 3) := by decide +kernel
theorem dX5_elsewhere_72 : decode cX5_elsewhere 72 = .ok (.iload_n 2, 1) := by decide +kernel
theorem dX5_elsewhere_73 : decode cX5_elsewhere 73 = .ok (.istore_n 2, 1) := by decide +kernel
theorem dX5_elsewhere_74 : decode cX5_elsewhere 74 = .ok (.iinc 3 1, 3) := by decide +kernel
theorem dX5_elsewhere_77 : decode cX5_elsewhere 77 = .ok (.goto (-71), 3) := by decide +kernel
theorem dX5_elsewhere_80 : decode cX5_elsewhere 80 = .ok (.aload_n 0, 1) := by decide +kernel
theorem dX5_elsewhere_81 : decode cX5_elsewhere 81 = .ok (.getfield 7, 3) := by decide +kernel
theorem dX5_elsewhere_84 : decode cX5_elsewhere 84 = .ok (.sipush 196, 3) := by decide +kernel
theorem dX5_elsewhere_87 : decode cX5_elsewhere 87 = .ok (.iload_n 1, 1) := by decide +kernel
theorem dX5_elsewhere_88 : decode cX5_elsewhere 88 = .ok (.iadd, 1) := by decide +kernel
theorem dX5_elsewhere_89 : decode cX5_elsewhere 89 = .ok (.iaload, 1) := by decide +kernel
theorem dX5_elsewhere_90 : decode cX5_elsewhere 90 = .ok (.aload_n 0, 1) := by decide +kernel
theorem dX5_elsewhere_91 : decode cX5_elsewhere 91 = .ok (.getfield 7, 3) := by decide +kernel
theorem dX5_elsewhere_94 : decode cX5_elsewhere 94 = .ok (.sipush 196, 3) := by decide +kernel
theorem dX5_elsewhere_97 : decode cX5_elsewhere 97 = .ok (.iload_n 2, 1) := by decide +kernel
theorem dX5_elsewhere_98 : decode cX5_elsewhere 98 = .ok (.iadd, 1) := by decide +kernel
theorem dX5_elsewhere_99 : decode cX5_elsewhere 99 = .ok (.iaload, 1) := by decide +kernel
theorem dX5_elsewhere_100 : decode cX5_elsewhere 100 = .ok (.isub, 1) := by decide +kernel
theorem dX5_elsewhere_101 : decode cX5_elsewhere 101 = .ok (.istore_n 3, 1) := by decide +kernel
theorem dX5_elsewhere_102 : decode cX5_elsewhere 102 = .ok (.bipush (-4), 2) := by decide +kernel
theorem dX5_elsewhere_104 : decode cX5_elsewhere 104 = .ok (.istore 4, 2) := by decide +kernel
theorem dX5_elsewhere_106 : decode cX5_elsewhere 106 = .ok (.iconst 0, 1) := by decide +kernel
theorem dX5_elsewhere_107 : decode cX5_elsewhere 107 = .ok (.istore 5, 2) := by decide +kernel
theorem dX5_elsewhere_109 : decode cX5_elsewhere 109 = .ok (.iload 5, 2) := by decide +kernel
theorem dX5_elsewhere_111 : decode cX5_elsewhere 111 = .ok (.aload_n 0, 1) := by decide +kernel
theorem dX5_elsewhere_112 : decode cX5_elsewhere 112 = .ok (.getfield 7, 3) := by decide +kernel
theorem dX5_elsewhere_115 : decode cX5_elsewhere 115 = .ok (.iconst 0, 1) := by decide +kernel
theorem dX5_elsewhere_116 : decode cX5_elsewhere 116 = .ok (.iaload, 1) := by decide +kernel
theorem dX5_elsewhere_117 : decode cX5_elsewhere 117 = .ok (.if_icmp .ge 114, 3) := by decide +kernel
theorem dX5_elsewhere_120 : decode cX5_elsewhere 120 = .ok (.aload_n 0, 1) := by decide +kernel
theorem dX5_elsewhere_121 : decode cX5_elsewhere 121 = .ok (.getfield 7, 3) := by decide +kernel
theorem dX5_elsewhere_124 : decode cX5_elsewhere 124 = .ok (.iconst 5, 1) := by decide +kernel
theorem dX5_elsewhere_125 : decode cX5_elsewhere 125 = .ok (.iaload, 1) := by decide +kernel
theorem dX5_elsewhere_126 : decode cX5_elsewhere 126 = .ok (.ifCond .le 105, 3) := by decide +kernel
theorem dX5_elsewhere_129 : decode cX5_elsewhere 129 = .ok (.iload_n 3, 1) := by decide +kernel
theorem dX5_elsewhere_130 : decode cX5_elsewhere 130 = .ok (.aload_n 0, 1) := by decide +kernel
theorem dX5_elsewhere_131 : decode cX5_elsewhere 131 = .ok (.getfield 7, 3) := by decide +kernel
theorem dX5_elsewhere_134 : decode cX5_elsewhere 134 = .ok (.iconst 5, 1) := by decide +kernel
theorem dX5_elsewhere_135 : decode cX5_elsewhere 135 = .ok (.iaload, 1) := by decide +kernel
theorem dX5_elsewhere_136 : decode cX5_elsewhere 136 = .ok (.if_icmp .lt 95, 3) := by decide +kernel
theorem dX5_elsewhere_139 : decode cX5_elsewhere 139 = .ok (.aload_n 0, 1) := by decide +kernel
theorem dX5_elsewhere_140 : decode cX5_elsewhere 140 = .ok (.iload 5, 2) := by decide +kernel
theorem dX5_elsewhere_142 : decode cX5_elsewhere 142 = .ok (.iconst 1, 1) := by decide +kernel
theorem dX5_elsewhere_143 : decode cX5_elsewhere 143 = .ok (.invokevirtual 92, 3) := by decide +kernel
theorem dX5_elsewhere_146 : decode cX5_elsewhere 146 = .ok (.iload_n 1, 1) := by decide +kernel
theorem dX5_elsewhere_147 : decode cX5_elsewhere 147 = .ok (.if_icmp .ne 28, 3) := by decide +kernel
theorem dX5_elsewhere_150 : decode cX5_elsewhere 150 = .ok (.aload_n 0, 1) := by decide +kernel
theorem dX5_elsewhere_151 : decode cX5_elsewhere 151 = .ok (.iload 5, 2) := by decide +kernel
theorem dX5_elsewhere_153 : decode cX5_elsewhere 153 = .ok (.iconst 5, 1) := by decide +kernel
theorem dX5_elsewhere_154 : decode cX5_elsewhere 154 = .ok (.invokevirtual 92, 3) := by decide +kernel
theorem dX5_elsewhere_157 : decode cX5_elsewhere 157 = .ok (.ifCond .le 18, 3) := by decide +kernel
theorem dX5_elsewhere_160 : decode cX5_elsewhere 160 = .ok (.aload_n 0, 1) := by decide +kernel
theorem dX5_elsewhere_161 : decode cX5_elsewhere 161 = .ok (.iload 5, 2) := by decide +kernel
theorem dX5_elsewhere_163 : decode cX5_elsewhere 163 = .ok (.iconst 5, 1) := by decide +kernel
theorem dX5_elsewhere_164 : decode cX5_elsewhere 164 = .ok (.invokevirtual 92, 3) := by decide +kernel
theorem dX5_elsewhere_167 : decode cX5_elsewhere 167 = .ok (.iload_n 3, 1) := by decide +kernel
theorem dX5_elsewhere_168 : decode cX5_elsewhere 168 = .ok (.if_icmp .ge 7, 3) := by decide +kernel
theorem dX5_elsewhere_171 : decode cX5_elsewhere 171 = .ok (.iconst 1, 1) := by decide +kernel
theorem dX5_elsewhere_172 : decode cX5_elsewhere 172 = .ok (.goto 4, 3) := by decide +kernel
theorem dX5_elsewhere_175 : decode cX5_elsewhere 175 = .ok (.iconst 0, 1) := by decide +kernel
theorem dX5_elsewhere_176 : decode cX5_elsewhere 176 = .ok (.istore 6, 2) := by decide +kernel
theorem dX5_elsewhere_178 : decode cX5_elsewhere 178 = .ok (.iload 6, 2) := by decide +kernel
theorem dX5_elsewhere_180 : decode cX5_elsewhere 180 = .ok (.ifCond .eq 41, 3) := by decide +kernel
theorem dX5_elsewhere_183 : decode cX5_elsewhere 183 = .ok (.iload 4, 2) := by decide +kernel
theorem dX5_elsewhere_185 : decode cX5_elsewhere 185 = .ok (.bipush (-4), 2) := by decide +kernel
theorem dX5_elsewhere_187 : decode cX5_elsewhere 187 = .ok (.if_icmp .eq 29, 3) := by decide +kernel
theorem dX5_elsewhere_190 : decode cX5_elsewhere 190 = .ok (.aload_n 0, 1) := by decide +kernel
theorem dX5_elsewhere_191 : decode cX5_elsewhere 191 = .ok (.iload 5, 2) := by decide +kernel
theorem dX5_elsewhere_193 : decode cX5_elsewhere 193 = .ok (.iconst 5, 1) := by decide +kernel
theorem dX5_elsewhere_194 : decode cX5_elsewhere 194 = .ok (.invokevirtual 92, 3) := by decide +kernel
theorem dX5_elsewhere_197 : decode cX5_elsewhere 197 = .ok (.aload_n 0, 1) := by decide +kernel
theorem dX5_elsewhere_198 : decode cX5_elsewhere 198 = .ok (.iload 4, 2) := by decide +kernel
theorem dX5_elsewhere_200 : decode cX5_elsewhere 200 = .ok (.ifCond .ge 7, 3) := by decide +kernel
theorem dX5_elsewhere_203 : decode cX5_elsewhere 203 = .ok (.iconst 0, 1) := by decide +kernel
theorem dX5_elsewhere_204 : decode cX5_elsewhere 204 = .ok (.goto 5, 3) := by decide +kernel
theorem dX5_elsewhere_207 : decode cX5_elsewhere 207 = .ok (.iload 4, 2) := by decide +kernel
theorem dX5_elsewhere_209 : decode cX5_elsewhere 209 = .ok (.iconst 5, 1) := by decide +kernel
theorem dX5_elsewhere_210 : decode cX5_elsewhere 210 = .ok (.invokevirtual 92, 3) := by decide +kernel
theorem dX5_elsewhere_213 : decode cX5_elsewhere 213 = .ok (.if_icmp .le 8, 3) := by decide +kernel
theorem dX5_elsewhere_216 : decode cX5_elsewhere 216 = .ok (.iload 5, 2) := by decide +kernel
theorem dX5_elsewhere_218 : decode cX5_elsewhere 218 = .ok (.goto 5, 3) := by decide +kernel
theorem dX5_elsewhere_221 : decode cX5_elsewhere 221 = .ok (.iload 4, 2) := by decide +kernel
theorem dX5_elsewhere_223 : decode cX5_elsewhere 223 = .ok (.istore 4, 2) := by decide +kernel
theorem dX5_elsewhere_225 : decode cX5_elsewhere 225 = .ok (.iinc 5 1, 3) := by decide +kernel
theorem dX5_elsewhere_228 : decode cX5_elsewhere 228 = .ok (.goto (-119), 3) := by decide +kernel
theorem dX5_elsewhere_231 : decode cX5_elsewhere 231 = .ok (.iload 4, 2) := by decide +kernel
theorem dX5_elsewhere_233 : decode cX5_elsewhere 233 = .ok (.bipush (-4), 2) := by decide +kernel
theorem dX5_elsewhere_235 : decode cX5_elsewhere 235 = .ok (.if_icmp .eq 31, 3) := by decide +kernel
theorem dX5_elsewhere_238 : decode cX5_elsewhere 238 = .ok (.aload_n 0, 1) := by decide +kernel
theorem dX5_elsewhere_239 : decode cX5_elsewhere 239 = .ok (.iload 4, 2) := by decide +kernel
theorem dX5_elsewhere_241 : decode cX5_elsewhere 241 = .ok (.ifCond .ge 7, 3) := by decide +kernel
theorem dX5_elsewhere_244 : decode cX5_elsewhere 244 = .ok (.iconst 0, 1) := by decide +kernel
theorem dX5_elsewhere_245 : decode cX5_elsewhere 245 = .ok (.goto 5, 3) := by decide +kernel
theorem dX5_elsewhere_248 : decode cX5_elsewhere 248 = .ok (.iload 4, 2) := by decide +kernel
theorem dX5_elsewhere_250 : decode cX5_elsewhere 250 = .ok (.iconst 1, 1) := by decide +kernel
theorem dX5_elsewhere_251 : decode cX5_elsewhere 251 = .ok (.iload_n 2, 1) := by decide +kernel
theorem dX5_elsewhere_252 : decode cX5_elsewhere 252 = .ok (.invokevirtual 117, 3) := by decide +kernel
theorem dX5_elsewhere_255 : decode cX5_elsewhere 255 = .ok (.aload_n 0, 1) := by decide +kernel
theorem dX5_elsewhere_256 : decode cX5_elsewhere 256 = .ok (.getfield 7, 3) := by decide +kernel
theorem dX5_elsewhere_259 : decode cX5_elsewhere 259 = .ok (.bipush 9, 2) := by decide +kernel
theorem dX5_elsewhere_261 : decode cX5_elsewhere 261 = .ok (.dup2, 1) := by decide +kernel
theorem dX5_elsewhere_262 : decode cX5_elsewhere 262 = .ok (.iaload, 1) := by decide +kernel
theorem dX5_elsewhere_263 : decode cX5_elsewhere 263 = .ok (.iconst 1, 1) := by decide +kernel
theorem dX5_elsewhere_264 : decode cX5_elsewhere 264 = .ok (.iadd, 1) := by decide +kernel
theorem dX5_elsewhere_265 : decode cX5_elsewhere 265 = .ok (.iastore, 1) := by decide +kernel
theorem dX5_elsewhere_266 : decode cX5_elsewhere 266 = .ok (.iload 4, 2) := by decide +kernel
theorem dX5_elsewhere_268 : decode cX5_elsewhere 268 = .ok (.ireturn, 1) := by decide +kernel
theorem dX5_notes_0 : decode cX5_notes 0 = .ok (.aload_n 0, 1) := by decide +kernel
theorem dX5_notes_1 : decode cX5_notes 1 = .ok (.getfield 85, 3) := by decide +kernel
theorem dX5_notes_4 : decode cX5_notes 4 = .ok (.iconst 4, 1) := by decide +kernel
theorem dX5_notes_5 : decode cX5_notes 5 = .ok (.if_icmp .ne 44, 3) := by decide +kernel
theorem dX5_notes_8 : decode cX5_notes 8 = .ok (.iconst 0, 1) := by decide +kernel
theorem dX5_notes_9 : decode cX5_notes 9 = .ok (.istore_n 1, 1) := by decide +kernel
theorem dX5_notes_10 : decode cX5_notes 10 = .ok (.iload_n 1, 1) := by decide +kernel
theorem dX5_notes_11 : decode cX5_notes 11 = .ok (.sipush 780, 3) := by decide +kernel
theorem dX5_notes_14 : decode cX5_notes 14 = .ok (.if_icmp .ge 25, 3) := by decide +kernel
theorem dX5_notes_17 : decode cX5_notes 17 = .ok (.aload_n 0, 1) := by decide +kernel
theorem dX5_notes_18 : decode cX5_notes 18 = .ok (.getfield 16, 3) := by decide +kernel
theorem dX5_notes_21 : decode cX5_notes 21 = .ok (.iload_n 1, 1) := by decide +kernel
theorem dX5_notes_22 : decode cX5_notes 22 = .ok (.aload_n 0, 1) := by decide +kernel
theorem dX5_notes_23 : decode cX5_notes 23 = .ok (.getfield 16, 3) := by decide +kernel
theorem dX5_notes_26 : decode cX5_notes 26 = .ok (.iload_n 1, 1) := by decide +kernel
theorem dX5_notes_27 : decode cX5_notes 27 = .ok (.sipush 260, 3) := by decide +kernel
theorem dX5_notes_30 : decode cX5_notes 30 = .ok (.iadd, 1) := by decide +kernel
theorem dX5_notes_31 : decode cX5_notes 31 = .ok (.iaload, 1) := by decide +kernel
theorem dX5_notes_32 : decode cX5_notes 32 = .ok (.iastore, 1) := by decide +kernel
theorem dX5_notes_33 : decode cX5_notes 33 = .ok (.iinc 1 1, 3) := by decide +kernel
theorem dX5_notes_36 : decode cX5_notes 36 = .ok (.goto (-26), 3) := by decide +kernel
theorem dX5_notes_39 : decode cX5_notes 39 = .ok (.aload_n 0, 1) := by decide +kernel
theorem dX5_notes_40 : decode cX5_notes 40 = .ok (.dup, 1) := by decide +kernel
theorem dX5_notes_41 : decode cX5_notes 41 = .ok (.getfield 85, 3) := by decide +kernel
theorem dX5_notes_44 : decode cX5_notes 44 = .ok (.iconst 1, 1) := by decide +kernel
theorem dX5_notes_45 : decode cX5_notes 45 = .ok (.isub, 1) := by decide +kernel
theorem dX5_notes_46 : decode cX5_notes 46 = .ok (.putfield 85, 3) := by decide +kernel
theorem dX5_notes_49 : decode cX5_notes 49 = .ok (.iconst 0, 1) := by decide +kernel
theorem dX5_notes_50 : decode cX5_notes 50 = .ok (.istore_n 1, 1) := by decide +kernel
theorem dX5_notes_51 : decode cX5_notes 51 = .ok (.iload_n 1, 1) := by decide +kernel
theorem dX5_notes_52 : decode cX5_notes 52 = .ok (.sipush 260, 3) := by decide +kernel
theorem dX5_notes_55 : decode cX5_notes 55 = .ok (.if_icmp .ge 30, 3) := by decide +kernel
theorem dX5_notes_58 : decode cX5_notes 58 = .ok (.aload_n 0, 1) := by decide +kernel
theorem dX5_notes_59 : decode cX5_notes 59 = .ok (.getfield 16, 3) := by decide +kernel
theorem dX5_notes_62 : decode cX5_notes 62 = .ok (.sipush 260, 3) := by decide +kernel
theorem dX5_notes_65 : decode cX5_notes 65 = .ok (.aload_n 0, 1) := by decide +kernel
theorem dX5_notes_66 : decode cX5_notes 66 = .ok (.getfield 85, 3) := by decide +kernel
theorem dX5_notes_69 : decode cX5_notes 69 = .ok (.imul, 1) := by decide +kernel
theorem dX5_notes_70 : decode cX5_notes 70 = .ok (.iload_n 1, 1) := by decide +kernel
theorem dX5_notes_71 : decode cX5_notes 71 = .ok (.iadd, 1) := by decide +kernel
theorem dX5_notes_72 : decode cX5_notes 72 = .ok (.aload_n 0, 1) := by decide +kernel
theorem dX5_notes_73 : decode cX5_notes 73 = .ok (.getfield 7, 3) := by decide +kernel
theorem dX5_notes_76 : decode cX5_notes 76 = .ok (.iload_n 1, 1) := by decide +kernel
theorem dX5_notes_77 : decode cX5_notes 77 = .ok (.iaload, 1) := by decide +kernel
theorem dX5_notes_78 : decode cX5_notes 78 = .ok (.iastore, 1) := by decide +kernel
theorem dX5_notes_79 : decode cX5_notes 79 = .ok (.iinc 1 1, 3) := by decide +kernel
theorem dX5_notes_82 : decode cX5_notes 82 = .ok (.goto (-31), 3) := by decide +kernel
theorem dX5_notes_85 : decode cX5_notes 85 = .ok (.aload_n 0, 1) := by decide +kernel
theorem dX5_notes_86 : decode cX5_notes 86 = .ok (.dup, 1) := by decide +kernel
theorem dX5_notes_87 : decode cX5_notes 87 = .ok (.getfield 85, 3) := by decide +kernel
theorem dX5_notes_90 : decode cX5_notes 90 = .ok (.iconst 1, 1) := by decide +kernel
theorem dX5_notes_91 : decode cX5_notes 91 = .ok (.iadd, 1) := by decide +kernel
theorem dX5_notes_92 : decode cX5_notes 92 = .ok (.putfield 85, 3) := by decide +kernel
theorem dX5_notes_95 : decode cX5_notes 95 = .ok (.return_, 1) := by decide +kernel
theorem dX5_isThere_0 : decode cX5_isThere 0 = .ok (.iload_n 1, 1) := by decide +kernel
theorem dX5_isThere_1 : decode cX5_isThere 1 = .ok (.iconst 0, 1) := by decide +kernel
theorem dX5_isThere_2 : decode cX5_isThere 2 = .ok (.aload_n 0, 1) := by decide +kernel
theorem dX5_isThere_3 : decode cX5_isThere 3 = .ok (.getfield 7, 3) := by decide +kernel
theorem dX5_isThere_6 : decode cX5_isThere 6 = .ok (.iconst 0, 1) := by decide +kernel
theorem dX5_isThere_7 : decode cX5_isThere 7 = .ok (.iaload, 1) := by decide +kernel
theorem dX5_isThere_8 : decode cX5_isThere 8 = .ok (.iconst 1, 1) := by decide +kernel
theorem dX5_isThere_9 : decode cX5_isThere 9 = .ok (.isub, 1) := by decide +kernel
theorem dX5_isThere_10 : decode cX5_isThere 10 = .ok (.invokestatic 45, 3) := by decide +kernel
theorem dX5_isThere_13 : decode cX5_isThere 13 = .ok (.ireturn, 1) := by decide +kernel
theorem dX5_isWorker_0 : decode cX5_isWorker 0 = .ok (.iload_n 1, 1) := by decide +kernel
theorem dX5_isWorker_1 : decode cX5_isWorker 1 = .ok (.iconst 0, 1) := by decide +kernel
theorem dX5_isWorker_2 : decode cX5_isWorker 2 = .ok (.aload_n 0, 1) := by decide +kernel
theorem dX5_isWorker_3 : decode cX5_isWorker 3 = .ok (.getfield 7, 3) := by decide +kernel
theorem dX5_isWorker_6 : decode cX5_isWorker 6 = .ok (.iconst 4, 1) := by decide +kernel
theorem dX5_isWorker_7 : decode cX5_isWorker 7 = .ok (.iaload, 1) := by decide +kernel
theorem dX5_isWorker_8 : decode cX5_isWorker 8 = .ok (.iconst 1, 1) := by decide +kernel
theorem dX5_isWorker_9 : decode cX5_isWorker 9 = .ok (.isub, 1) := by decide +kernel
theorem dX5_isWorker_10 : decode cX5_isWorker 10 = .ok (.invokestatic 45, 3) := by decide +kernel
theorem dX5_isWorker_13 : decode cX5_isWorker 13 = .ok (.ireturn, 1) := by decide +kernel
theorem dX5_step_0 : decode cX5_step 0 = .ok (.iload_n 1, 1) := by decide +kernel
theorem dX5_step_1 : decode cX5_step 1 = .ok (.iconst 1, 1) := by decide +kernel
theorem dX5_step_2 : decode cX5_step 2 = .ok (.bipush 20, 2) := by decide +kernel
theorem dX5_step_4 : decode cX5_step 4 = .ok (.invokestatic 45, 3) := by decide +kernel
theorem dX5_step_7 : decode cX5_step 7 = .ok (.ifCond .ne 5, 3) := by decide +kernel
theorem dX5_step_10 : decode cX5_step 10 = .ok (.iconst (-1), 1) := by decide +kernel
theorem dX5_step_11 : decode cX5_step 11 = .ok (.ireturn, 1) := by decide +kernel
theorem dX5_step_12 : decode cX5_step 12 = .ok (.aload_n 0, 1) := by decide +kernel
theorem dX5_step_13 : decode cX5_step 13 = .ok (.invokevirtual 146, 3) := by decide +kernel
theorem dX5_step_16 : decode cX5_step 16 = .ok (.ifCond .ne 6, 3) := by decide +kernel
theorem dX5_step_19 : decode cX5_step 19 = .ok (.bipush (-2), 2) := by decide +kernel
theorem dX5_step_21 : decode cX5_step 21 = .ok (.ireturn, 1) := by decide +kernel
theorem dX5_step_22 : decode cX5_step 22 = .ok (.aload_n 0, 1) := by decide +kernel
theorem dX5_step_23 : decode cX5_step 23 = .ok (.invokevirtual 149, 3) := by decide +kernel
theorem dX5_step_26 : decode cX5_step 26 = .ok (.iconst 0, 1) := by decide +kernel
theorem dX5_step_27 : decode cX5_step 27 = .ok (.istore_n 2, 1) := by decide +kernel
theorem dX5_step_28 : decode cX5_step 28 = .ok (.iload_n 2, 1) := by decide +kernel
theorem dX5_step_29 : decode cX5_step 29 = .ok (.iload_n 1, 1) := by decide +kernel
theorem dX5_step_30 : decode cX5_step 30 = .ok (.if_icmp .ge 20, 3) := by decide +kernel
theorem dX5_step_33 : decode cX5_step 33 = .ok (.aload_n 0, 1) := by decide +kernel
theorem dX5_step_34 : decode cX5_step 34 = .ok (.invokevirtual 146, 3) := by decide +kernel
theorem dX5_step_37 : decode cX5_step 37 = .ok (.ifCond .le 13, 3) := by decide +kernel
theorem dX5_step_40 : decode cX5_step 40 = .ok (.aload_n 0, 1) := by decide +kernel
theorem dX5_step_41 : decode cX5_step 41 = .ok (.invokevirtual 152, 3) := by decide +kernel
theorem dX5_step_44 : decode cX5_step 44 = .ok (.iinc 2 1, 3) := by decide +kernel
theorem dX5_step_47 : decode cX5_step 47 = .ok (.goto (-19), 3) := by decide +kernel
theorem dX5_step_50 : decode cX5_step 50 = .ok (.iload_n 2, 1) := by decide +kernel
theorem dX5_step_51 : decode cX5_step 51 = .ok (.ireturn, 1) := by decide +kernel
theorem dX5_value_0 : decode cX5_value 0 = .ok (.aload_n 0, 1) := by decide +kernel
theorem dX5_value_1 : decode cX5_value 1 = .ok (.iload_n 1, 1) := by decide +kernel
theorem dX5_value_2 : decode cX5_value 2 = .ok (.invokevirtual 155, 3) := by decide +kernel
theorem dX5_value_5 : decode cX5_value 5 = .ok (.ifCond .eq 14, 3) := by decide +kernel
theorem dX5_value_8 : decode cX5_value 8 = .ok (.iload_n 2, 1) := by decide +kernel
theorem dX5_value_9 : decode cX5_value 9 = .ok (.iconst 0, 1) := by decide +kernel
theorem dX5_value_10 : decode cX5_value 10 = .ok (.sipush 999, 3) := by decide +kernel
theorem dX5_value_13 : decode cX5_value 13 = .ok (.invokestatic 45, 3) := by decide +kernel
theorem dX5_value_16 : decode cX5_value 16 = .ok (.ifCond .ne 5, 3) := by decide +kernel
theorem dX5_value_19 : decode cX5_value 19 = .ok (.iconst (-1), 1) := by decide +kernel
theorem dX5_value_20 : decode cX5_value 20 = .ok (.ireturn, 1) := by decide +kernel
theorem dX5_value_21 : decode cX5_value 21 = .ok (.aload_n 0, 1) := by decide +kernel
theorem dX5_value_22 : decode cX5_value 22 = .ok (.invokevirtual 149, 3) := by decide +kernel
theorem dX5_value_25 : decode cX5_value 25 = .ok (.aload_n 0, 1) := by decide +kernel
theorem dX5_value_26 : decode cX5_value 26 = .ok (.iload_n 1, 1) := by decide +kernel
theorem dX5_value_27 : decode cX5_value 27 = .ok (.iconst 0, 1) := by decide +kernel
theorem dX5_value_28 : decode cX5_value 28 = .ok (.invokevirtual 92, 3) := by decide +kernel
theorem dX5_value_31 : decode cX5_value 31 = .ok (.istore_n 3, 1) := by decide +kernel
theorem dX5_value_32 : decode cX5_value 32 = .ok (.aload_n 0, 1) := by decide +kernel
theorem dX5_value_33 : decode cX5_value 33 = .ok (.iload_n 1, 1) := by decide +kernel
theorem dX5_value_34 : decode cX5_value 34 = .ok (.iconst 0, 1) := by decide +kernel
theorem dX5_value_35 : decode cX5_value 35 = .ok (.iload_n 2, 1) := by decide +kernel
theorem dX5_value_36 : decode cX5_value 36 = .ok (.invokevirtual 117, 3) := by decide +kernel
theorem dX5_value_39 : decode cX5_value 39 = .ok (.aload_n 0, 1) := by decide +kernel
theorem dX5_value_40 : decode cX5_value 40 = .ok (.iload_n 1, 1) := by decide +kernel
theorem dX5_value_41 : decode cX5_value 41 = .ok (.iconst 2, 1) := by decide +kernel
theorem dX5_value_42 : decode cX5_value 42 = .ok (.iconst 1, 1) := by decide +kernel
theorem dX5_value_43 : decode cX5_value 43 = .ok (.invokevirtual 117, 3) := by decide +kernel
theorem dX5_value_46 : decode cX5_value 46 = .ok (.aload_n 0, 1) := by decide +kernel
theorem dX5_value_47 : decode cX5_value 47 = .ok (.iload_n 1, 1) := by decide +kernel
theorem dX5_value_48 : decode cX5_value 48 = .ok (.iconst 4, 1) := by decide +kernel
theorem dX5_value_49 : decode cX5_value 49 = .ok (.iconst 0, 1) := by decide +kernel
theorem dX5_value_50 : decode cX5_value 50 = .ok (.invokevirtual 117, 3) := by decide +kernel
theorem dX5_value_53 : decode cX5_value 53 = .ok (.iload_n 3, 1) := by decide +kernel
theorem dX5_value_54 : decode cX5_value 54 = .ok (.ireturn, 1) := by decide +kernel
theorem dX5_move_0 : decode cX5_move 0 = .ok (.aload_n 0, 1) := by decide +kernel
theorem dX5_move_1 : decode cX5_move 1 = .ok (.iload_n 1, 1) := by decide +kernel
theorem dX5_move_2 : decode cX5_move 2 = .ok (.invokevirtual 155, 3) := by decide +kernel
theorem dX5_move_5 : decode cX5_move 5 = .ok (.ifCond .eq 11, 3) := by decide +kernel
theorem dX5_move_8 : decode cX5_move 8 = .ok (.aload_n 0, 1) := by decide +kernel
theorem dX5_move_9 : decode cX5_move 9 = .ok (.iload_n 2, 1) := by decide +kernel
theorem dX5_move_10 : decode cX5_move 10 = .ok (.invokevirtual 158, 3) := by decide +kernel
theorem dX5_move_13 : decode cX5_move 13 = .ok (.ifCond .ne 5, 3) := by decide +kernel
theorem dX5_move_16 : decode cX5_move 16 = .ok (.iconst (-1), 1) := by decide +kernel
theorem dX5_move_17 : decode cX5_move 17 = .ok (.ireturn, 1) := by decide +kernel
theorem dX5_move_18 : decode cX5_move 18 = .ok (.aload_n 0, 1) := by decide +kernel
theorem dX5_move_19 : decode cX5_move 19 = .ok (.iload_n 1, 1) := by decide +kernel
theorem dX5_move_20 : decode cX5_move 20 = .ok (.iconst 1, 1) := by decide +kernel
theorem dX5_move_21 : decode cX5_move 21 = .ok (.invokevirtual 92, 3) := by decide +kernel
theorem dX5_move_24 : decode cX5_move 24 = .ok (.istore_n 3, 1) := by decide +kernel
theorem dX5_move_25 : decode cX5_move 25 = .ok (.iload_n 3, 1) := by decide +kernel
theorem dX5_move_26 : decode cX5_move 26 = .ok (.iload_n 2, 1) := by decide +kernel
theorem dX5_move_27 : decode cX5_move 27 = .ok (.if_icmp .ne 6, 3) := by decide +kernel
theorem dX5_move_30 : decode cX5_move 30 = .ok (.bipush (-2), 2) := by decide +kernel
theorem dX5_move_32 : decode cX5_move 32 = .ok (.ireturn, 1) := by decide +kernel
theorem dX5_move_33 : decode cX5_move 33 = .ok (.aload_n 0, 1) := by decide +kernel
theorem dX5_move_34 : decode cX5_move 34 = .ok (.invokevirtual 149, 3) := by decide +kernel
theorem dX5_move_37 : decode cX5_move 37 = .ok (.aload_n 0, 1) := by decide +kernel
theorem dX5_move_38 : decode cX5_move 38 = .ok (.iload_n 1, 1) := by decide +kernel
theorem dX5_move_39 : decode cX5_move 39 = .ok (.iconst 1, 1) := by decide +kernel
theorem dX5_move_40 : decode cX5_move 40 = .ok (.iload_n 2, 1) := by decide +kernel
theorem dX5_move_41 : decode cX5_move 41 = .ok (.invokevirtual 117, 3) := by decide +kernel
theorem dX5_move_44 : decode cX5_move 44 = .ok (.iload_n 3, 1) := by decide +kernel
theorem dX5_move_45 : decode cX5_move 45 = .ok (.ireturn, 1) := by decide +kernel
theorem dX5_combine_0 : decode cX5_combine 0 = .ok (.iload_n 1, 1) := by decide +kernel
theorem dX5_combine_1 : decode cX5_combine 1 = .ok (.iconst 0, 1) := by decide +kernel
theorem dX5_combine_2 : decode cX5_combine 2 = .ok (.iconst 1, 1) := by decide +kernel
theorem dX5_combine_3 : decode cX5_combine 3 = .ok (.invokestatic 45, 3) := by decide +kernel
theorem dX5_combine_6 : decode cX5_combine 6 = .ok (.ifCond .ne 5, 3) := by decide +kernel
theorem dX5_combine_9 : decode cX5_combine 9 = .ok (.iconst (-1), 1) := by decide +kernel
theorem dX5_combine_10 : decode cX5_combine 10 = .ok (.ireturn, 1) := by decide +kernel
theorem dX5_combine_11 : decode cX5_combine 11 = .ok (.aload_n 0, 1) := by decide +kernel
theorem dX5_combine_12 : decode cX5_combine 12 = .ok (.getfield 7, 3) := by decide +kernel
theorem dX5_combine_15 : decode cX5_combine 15 = .ok (.bipush 6, 2) := by decide +kernel
theorem dX5_combine_17 : decode cX5_combine 17 = .ok (.iaload, 1) := by decide +kernel
theorem dX5_combine_18 : decode cX5_combine 18 = .ok (.iload_n 1, 1) := by decide +kernel
theorem dX5_combine_19 : decode cX5_combine 19 = .ok (.if_icmp .ne 6, 3) := by decide +kernel
theorem dX5_combine_22 : decode cX5_combine 22 = .ok (.bipush (-2), 2) := by decide +kernel
theorem dX5_combine_24 : decode cX5_combine 24 = .ok (.ireturn, 1) := by decide +kernel
theorem dX5_combine_25 : decode cX5_combine 25 = .ok (.aload_n 0, 1) := by decide +kernel
theorem dX5_combine_26 : decode cX5_combine 26 = .ok (.invokevirtual 149, 3) := by decide +kernel
theorem dX5_combine_29 : decode cX5_combine 29 = .ok (.aload_n 0, 1) := by decide +kernel
theorem dX5_combine_30 : decode cX5_combine 30 = .ok (.getfield 7, 3) := by decide +kernel
theorem dX5_combine_33 : decode cX5_combine 33 = .ok (.bipush 6, 2) := by decide +kernel
theorem dX5_combine_35 : decode cX5_combine 35 = .ok (.iload_n 1, 1) := by decide +kernel
theorem dX5_combine_36 : decode cX5_combine 36 = .ok (.iastore, 1) := by decide +kernel
theorem dX5_combine_37 : decode cX5_combine 37 = .ok (.aload_n 0, 1) := by decide +kernel
theorem dX5_combine_38 : decode cX5_combine 38 = .ok (.getfield 7, 3) := by decide +kernel
theorem dX5_combine_41 : decode cX5_combine 41 = .ok (.bipush 10, 2) := by decide +kernel
theorem dX5_combine_43 : decode cX5_combine 43 = .ok (.iaload, 1) := by decide +kernel
theorem dX5_combine_44 : decode cX5_combine 44 = .ok (.ireturn, 1) := by decide +kernel
theorem dX5_undo_0 : decode cX5_undo 0 = .ok (.aload_n 0, 1) := by decide +kernel
theorem dX5_undo_1 : decode cX5_undo 1 = .ok (.getfield 85, 3) := by decide +kernel
theorem dX5_undo_4 : decode cX5_undo 4 = .ok (.ifCond .ne 6, 3) := by decide +kernel
theorem dX5_undo_7 : decode cX5_undo 7 = .ok (.bipush (-2), 2) := by decide +kernel
theorem dX5_undo_9 : decode cX5_undo 9 = .ok (.ireturn, 1) := by decide +kernel
theorem dX5_undo_10 : decode cX5_undo 10 = .ok (.aload_n 0, 1) := by decide +kernel
theorem dX5_undo_11 : decode cX5_undo 11 = .ok (.dup, 1) := by decide +kernel
theorem dX5_undo_12 : decode cX5_undo 12 = .ok (.getfield 85, 3) := by decide +kernel
theorem dX5_undo_15 : decode cX5_undo 15 = .ok (.iconst 1, 1) := by decide +kernel
theorem dX5_undo_16 : decode cX5_undo 16 = .ok (.isub, 1) := by decide +kernel
theorem dX5_undo_17 : decode cX5_undo 17 = .ok (.putfield 85, 3) := by decide +kernel
theorem dX5_undo_20 : decode cX5_undo 20 = .ok (.iconst 0, 1) := by decide +kernel
theorem dX5_undo_21 : decode cX5_undo 21 = .ok (.istore_n 1, 1) := by decide +kernel
theorem dX5_undo_22 : decode cX5_undo 22 = .ok (.iload_n 1, 1) := by decide +kernel
theorem dX5_undo_23 : decode cX5_undo 23 = .ok (.sipush 260, 3) := by decide +kernel
theorem dX5_undo_26 : decode cX5_undo 26 = .ok (.if_icmp .ge 30, 3) := by decide +kernel
theorem dX5_undo_29 : decode cX5_undo 29 = .ok (.aload_n 0, 1) := by decide +kernel
theorem dX5_undo_30 : decode cX5_undo 30 = .ok (.getfield 7, 3) := by decide +kernel
theorem dX5_undo_33 : decode cX5_undo 33 = .ok (.iload_n 1, 1) := by decide +kernel
theorem dX5_undo_34 : decode cX5_undo 34 = .ok (.aload_n 0, 1) := by decide +kernel
theorem dX5_undo_35 : decode cX5_undo 35 = .ok (.getfield 16, 3) := by decide +kernel
theorem dX5_undo_38 : decode cX5_undo 38 = .ok (.sipush 260, 3) := by decide +kernel
theorem dX5_undo_41 : decode cX5_undo 41 = .ok (.aload_n 0, 1) := by decide +kernel
theorem dX5_undo_42 : decode cX5_undo 42 = .ok (.getfield 85, 3) := by decide +kernel
theorem dX5_undo_45 : decode cX5_undo 45 = .ok (.imul, 1) := by decide +kernel
theorem dX5_undo_46 : decode cX5_undo 46 = .ok (.iload_n 1, 1) := by decide +kernel
theorem dX5_undo_47 : decode cX5_undo 47 = .ok (.iadd, 1) := by decide +kernel
theorem dX5_undo_48 : decode cX5_undo 48 = .ok (.iaload, 1) := by decide +kernel
theorem dX5_undo_49 : decode cX5_undo 49 = .ok (.iastore, 1) := by decide +kernel
theorem dX5_undo_50 : decode cX5_undo 50 = .ok (.iinc 1 1, 3) := by decide +kernel
theorem dX5_undo_53 : decode cX5_undo 53 = .ok (.goto (-31), 3) := by decide +kernel
theorem dX5_undo_56 : decode cX5_undo 56 = .ok (.aload_n 0, 1) := by decide +kernel
theorem dX5_undo_57 : decode cX5_undo 57 = .ok (.getfield 85, 3) := by decide +kernel
theorem dX5_undo_60 : decode cX5_undo 60 = .ok (.ireturn, 1) := by decide +kernel
theorem dX5_point_0 : decode cX5_point 0 = .ok (.aload_n 0, 1) := by decide +kernel
theorem dX5_point_1 : decode cX5_point 1 = .ok (.iload_n 1, 1) := by decide +kernel
theorem dX5_point_2 : decode cX5_point 2 = .ok (.invokevirtual 155, 3) := by decide +kernel
theorem dX5_point_5 : decode cX5_point 5 = .ok (.ifCond .ne 5, 3) := by decide +kernel
theorem dX5_point_8 : decode cX5_point 8 = .ok (.iconst (-1), 1) := by decide +kernel
theorem dX5_point_9 : decode cX5_point 9 = .ok (.ireturn, 1) := by decide +kernel
theorem dX5_point_10 : decode cX5_point 10 = .ok (.iload_n 2, 1) := by decide +kernel
theorem dX5_point_11 : decode cX5_point 11 = .ok (.tableswitch 95 0 6 #[41, 48, 55, 61, 75, 81, 88], 41) := by decide +kernel
theorem dX5_point_52 : decode cX5_point 52 = .ok (.aload_n 0, 1) := by decide +kernel
theorem dX5_point_53 : decode cX5_point 53 = .ok (.iload_n 1, 1) := by decide +kernel
theorem dX5_point_54 : decode cX5_point 54 = .ok (.iconst 0, 1) := by decide +kernel
theorem dX5_point_55 : decode cX5_point 55 = .ok (.invokevirtual 92, 3) := by decide +kernel
theorem dX5_point_58 : decode cX5_point 58 = .ok (.ireturn, 1) := by decide +kernel
theorem dX5_point_59 : decode cX5_point 59 = .ok (.aload_n 0, 1) := by decide +kernel
theorem dX5_point_60 : decode cX5_point 60 = .ok (.iload_n 1, 1) := by decide +kernel
theorem dX5_point_61 : decode cX5_point 61 = .ok (.iconst 1, 1) := by decide +kernel
theorem dX5_point_62 : decode cX5_point 62 = .ok (.invokevirtual 92, 3) := by decide +kernel
theorem dX5_point_65 : decode cX5_point 65 = .ok (.ireturn, 1) := by decide +kernel
theorem dX5_point_66 : decode cX5_point 66 = .ok (.aload_n 0, 1) := by decide +kernel
theorem dX5_point_67 : decode cX5_point 67 = .ok (.iload_n 1, 1) := by decide +kernel
theorem dX5_point_68 : decode cX5_point 68 = .ok (.invokevirtual 95, 3) := by decide +kernel
theorem dX5_point_71 : decode cX5_point 71 = .ok (.ireturn, 1) := by decide +kernel
theorem dX5_point_72 : decode cX5_point 72 = .ok (.aload_n 0, 1) := by decide +kernel
theorem dX5_point_73 : decode cX5_point 73 = .ok (.iload_n 1, 1) := by decide +kernel
theorem dX5_point_74 : decode cX5_point 74 = .ok (.invokevirtual 99, 3) := by decide +kernel
theorem dX5_point_77 : decode cX5_point 77 = .ok (.ifCond .eq 7, 3) := by decide +kernel
theorem dX5_point_80 : decode cX5_point 80 = .ok (.iconst 1, 1) := by decide +kernel
theorem dX5_point_81 : decode cX5_point 81 = .ok (.goto 4, 3) := by decide +kernel
theorem dX5_point_84 : decode cX5_point 84 = .ok (.iconst 0, 1) := by decide +kernel
theorem dX5_point_85 : decode cX5_point 85 = .ok (.ireturn, 1) := by decide +kernel
theorem dX5_point_86 : decode cX5_point 86 = .ok (.aload_n 0, 1) := by decide +kernel
theorem dX5_point_87 : decode cX5_point 87 = .ok (.iload_n 1, 1) := by decide +kernel
theorem dX5_point_88 : decode cX5_point 88 = .ok (.invokevirtual 124, 3) := by decide +kernel
theorem dX5_point_91 : decode cX5_point 91 = .ok (.ireturn, 1) := by decide +kernel
theorem dX5_point_92 : decode cX5_point 92 = .ok (.aload_n 0, 1) := by decide +kernel
theorem dX5_point_93 : decode cX5_point 93 = .ok (.iload_n 1, 1) := by decide +kernel
theorem dX5_point_94 : decode cX5_point 94 = .ok (.iconst 5, 1) := by decide +kernel
theorem dX5_point_95 : decode cX5_point 95 = .ok (.invokevirtual 92, 3) := by decide +kernel
theorem dX5_point_98 : decode cX5_point 98 = .ok (.ireturn, 1) := by decide +kernel
theorem dX5_point_99 : decode cX5_point 99 = .ok (.aload_n 0, 1) := by decide +kernel
theorem dX5_point_100 : decode cX5_point 100 = .ok (.iload_n 1, 1) := by decide +kernel
theorem dX5_point_101 : decode cX5_point 101 = .ok (.iconst 4, 1) := by decide +kernel
theorem dX5_point_102 : decode cX5_point 102 = .ok (.invokevirtual 92, 3) := by decide +kernel
theorem dX5_point_105 : decode cX5_point 105 = .ok (.ireturn, 1) := by decide +kernel
theorem dX5_point_106 : decode cX5_point 106 = .ok (.iconst (-1), 1) := by decide +kernel
theorem dX5_point_107 : decode cX5_point 107 = .ok (.ireturn, 1) := by decide +kernel
theorem dX5_rankOf_0 : decode cX5_rankOf 0 = .ok (.bipush 64, 2) := by decide +kernel
theorem dX5_rankOf_2 : decode cX5_rankOf 2 = .ok (.aload_n 0, 1) := by decide +kernel
theorem dX5_rankOf_3 : decode cX5_rankOf 3 = .ok (.iload_n 1, 1) := by decide +kernel
theorem dX5_rankOf_4 : decode cX5_rankOf 4 = .ok (.iconst 1, 1) := by decide +kernel
theorem dX5_rankOf_5 : decode cX5_rankOf 5 = .ok (.invokevirtual 88, 3) := by decide +kernel
theorem dX5_rankOf_8 : decode cX5_rankOf 8 = .ok (.imul, 1) := by decide +kernel
theorem dX5_rankOf_9 : decode cX5_rankOf 9 = .ok (.bipush 16, 2) := by decide +kernel
theorem dX5_rankOf_11 : decode cX5_rankOf 11 = .ok (.aload_n 0, 1) := by decide +kernel
theorem dX5_rankOf_12 : decode cX5_rankOf 12 = .ok (.iload_n 1, 1) := by decide +kernel
theorem dX5_rankOf_13 : decode cX5_rankOf 13 = .ok (.iconst 2, 1) := by decide +kernel
theorem dX5_rankOf_14 : decode cX5_rankOf 14 = .ok (.invokevirtual 88, 3) := by decide +kernel
theorem dX5_rankOf_17 : decode cX5_rankOf 17 = .ok (.imul, 1) := by decide +kernel
theorem dX5_rankOf_18 : decode cX5_rankOf 18 = .ok (.iadd, 1) := by decide +kernel
theorem dX5_rankOf_19 : decode cX5_rankOf 19 = .ok (.aload_n 0, 1) := by decide +kernel
theorem dX5_rankOf_20 : decode cX5_rankOf 20 = .ok (.iload_n 1, 1) := by decide +kernel
theorem dX5_rankOf_21 : decode cX5_rankOf 21 = .ok (.iconst 3, 1) := by decide +kernel
theorem dX5_rankOf_22 : decode cX5_rankOf 22 = .ok (.invokevirtual 88, 3) := by decide +kernel
theorem dX5_rankOf_25 : decode cX5_rankOf 25 = .ok (.iadd, 1) := by decide +kernel
theorem dX5_rankOf_26 : decode cX5_rankOf 26 = .ok (.ireturn, 1) := by decide +kernel
theorem dX5_letter_0 : decode cX5_letter 0 = .ok (.aload_n 0, 1) := by decide +kernel
theorem dX5_letter_1 : decode cX5_letter 1 = .ok (.iload_n 1, 1) := by decide +kernel
theorem dX5_letter_2 : decode cX5_letter 2 = .ok (.invokevirtual 155, 3) := by decide +kernel
theorem dX5_letter_5 : decode cX5_letter 5 = .ok (.ifCond .eq 16, 3) := by decide +kernel
theorem dX5_letter_8 : decode cX5_letter 8 = .ok (.iload_n 2, 1) := by decide +kernel
theorem dX5_letter_9 : decode cX5_letter 9 = .ok (.ifCond .lt 12, 3) := by decide +kernel
theorem dX5_letter_12 : decode cX5_letter 12 = .ok (.iload_n 3, 1) := by decide +kernel
theorem dX5_letter_13 : decode cX5_letter 13 = .ok (.iconst 0, 1) := by decide +kernel
theorem dX5_letter_14 : decode cX5_letter 14 = .ok (.iconst 1, 1) := by decide +kernel
theorem dX5_letter_15 : decode cX5_letter 15 = .ok (.invokestatic 45, 3) := by decide +kernel
theorem dX5_letter_18 : decode cX5_letter 18 = .ok (.ifCond .ne 5, 3) := by decide +kernel
theorem dX5_letter_21 : decode cX5_letter 21 = .ok (.iconst (-1), 1) := by decide +kernel
theorem dX5_letter_22 : decode cX5_letter 22 = .ok (.ireturn, 1) := by decide +kernel
theorem dX5_letter_23 : decode cX5_letter 23 = .ok (.iconst 0, 1) := by decide +kernel
theorem dX5_letter_24 : decode cX5_letter 24 = .ok (.istore 4, 2) := by decide +kernel
theorem dX5_letter_26 : decode cX5_letter 26 = .ok (.iload 4, 2) := by decide +kernel
theorem dX5_letter_28 : decode cX5_letter 28 = .ok (.aload_n 0, 1) := by decide +kernel
theorem dX5_letter_29 : decode cX5_letter 29 = .ok (.getfield 7, 3) := by decide +kernel
theorem dX5_letter_32 : decode cX5_letter 32 = .ok (.bipush 10, 2) := by decide +kernel
theorem dX5_letter_34 : decode cX5_letter 34 = .ok (.iaload, 1) := by decide +kernel
theorem dX5_letter_35 : decode cX5_letter 35 = .ok (.if_icmp .ge 118, 3) := by decide +kernel
theorem dX5_letter_38 : decode cX5_letter 38 = .ok (.iconst 0, 1) := by decide +kernel
theorem dX5_letter_39 : decode cX5_letter 39 = .ok (.istore 5, 2) := by decide +kernel
theorem dX5_letter_41 : decode cX5_letter 41 = .ok (.iconst 0, 1) := by decide +kernel
theorem dX5_letter_42 : decode cX5_letter 42 = .ok (.istore 6, 2) := by decide +kernel
theorem dX5_letter_44 : decode cX5_letter 44 = .ok (.iload 6, 2) := by decide +kernel
theorem dX5_letter_46 : decode cX5_letter 46 = .ok (.aload_n 0, 1) := by decide +kernel
theorem dX5_letter_47 : decode cX5_letter 47 = .ok (.getfield 7, 3) := by decide +kernel
theorem dX5_letter_50 : decode cX5_letter 50 = .ok (.bipush 10, 2) := by decide +kernel
theorem dX5_letter_52 : decode cX5_letter 52 = .ok (.iaload, 1) := by decide +kernel
theorem dX5_letter_53 : decode cX5_letter 53 = .ok (.if_icmp .ge 67, 3) := by decide +kernel
theorem dX5_letter_56 : decode cX5_letter 56 = .ok (.iload 5, 2) := by decide +kernel
theorem dX5_letter_58 : decode cX5_letter 58 = .ok (.aload_n 0, 1) := by decide +kernel
theorem dX5_letter_59 : decode cX5_letter 59 = .ok (.iload 6, 2) := by decide +kernel
theorem dX5_letter_61 : decode cX5_letter 61 = .ok (.iconst 0, 1) := by decide +kernel
theorem dX5_letter_62 : decode cX5_letter 62 = .ok (.invokevirtual 88, 3) := by decide +kernel
theorem dX5_letter_65 : decode cX5_letter 65 = .ok (.iload_n 1, 1) := by decide +kernel
theorem dX5_letter_66 : decode cX5_letter 66 = .ok (.if_icmp .ne 44, 3) := by decide +kernel
theorem dX5_letter_69 : decode cX5_letter 69 = .ok (.aload_n 0, 1) := by decide +kernel
theorem dX5_letter_70 : decode cX5_letter 70 = .ok (.iload 6, 2) := by decide +kernel
theorem dX5_letter_72 : decode cX5_letter 72 = .ok (.invokevirtual 161, 3) := by decide +kernel
theorem dX5_letter_75 : decode cX5_letter 75 = .ok (.aload_n 0, 1) := by decide +kernel
theorem dX5_letter_76 : decode cX5_letter 76 = .ok (.iload 4, 2) := by decide +kernel
theorem dX5_letter_78 : decode cX5_letter 78 = .ok (.invokevirtual 161, 3) := by decide +kernel
theorem dX5_letter_81 : decode cX5_letter 81 = .ok (.if_icmp .lt 25, 3) := by decide +kernel
theorem dX5_letter_84 : decode cX5_letter 84 = .ok (.aload_n 0, 1) := by decide +kernel
theorem dX5_letter_85 : decode cX5_letter 85 = .ok (.iload 6, 2) := by decide +kernel
theorem dX5_letter_87 : decode cX5_letter 87 = .ok (.invokevirtual 161, 3) := by decide +kernel
theorem dX5_letter_90 : decode cX5_letter 90 = .ok (.aload_n 0, 1) := by decide +kernel
theorem dX5_letter_91 : decode cX5_letter 91 = .ok (.iload 4, 2) := by decide +kernel
theorem dX5_letter_93 : decode cX5_letter 93 = .ok (.invokevirtual 161, 3) := by decide +kernel
theorem dX5_letter_96 : decode cX5_letter 96 = .ok (.if_icmp .ne 14, 3) := by decide +kernel
theorem dX5_letter_99 : decode cX5_letter 99 = .ok (.iload 6, 2) := by decide +kernel
theorem dX5_letter_101 : decode cX5_letter 101 = .ok (.iload 4, 2) := by decide +kernel
theorem dX5_letter_103 : decode cX5_letter 103 = .ok (.if_icmp .ge 7, 3) := by decide +kernel
theorem dX5_letter_106 : decode cX5_letter 106 = .ok (.iconst 1, 1) := by decide +kernel
theorem dX5_letter_107 : decode cX5_letter 107 = .ok (.goto 4, 3) := by decide +kernel
theorem dX5_letter_110 : decode cX5_letter 110 = .ok (.iconst 0, 1) := by decide +kernel
theorem dX5_letter_111 : decode cX5_letter 111 = .ok (.iadd, 1) := by decide +kernel
theorem dX5_letter_112 : decode cX5_letter 112 = .ok (.istore 5, 2) := by decide +kernel
theorem dX5_letter_114 : decode cX5_letter 114 = .ok (.iinc 6 1, 3) := by decide +kernel
theorem dX5_letter_117 : decode cX5_letter 117 = .ok (.goto (-73), 3) := by decide +kernel
theorem dX5_letter_120 : decode cX5_letter 120 = .ok (.aload_n 0, 1) := by decide +kernel
theorem dX5_letter_121 : decode cX5_letter 121 = .ok (.iload 4, 2) := by decide +kernel
theorem dX5_letter_123 : decode cX5_letter 123 = .ok (.iconst 0, 1) := by decide +kernel
theorem dX5_letter_124 : decode cX5_letter 124 = .ok (.invokevirtual 88, 3) := by decide +kernel
theorem dX5_letter_127 : decode cX5_letter 127 = .ok (.iload_n 1, 1) := by decide +kernel
theorem dX5_letter_128 : decode cX5_letter 128 = .ok (.if_icmp .ne 19, 3) := by decide +kernel
theorem dX5_letter_131 : decode cX5_letter 131 = .ok (.iload 5, 2) := by decide +kernel
theorem dX5_letter_133 : decode cX5_letter 133 = .ok (.iload_n 2, 1) := by decide +kernel
theorem dX5_letter_134 : decode cX5_letter 134 = .ok (.if_icmp .ne 13, 3) := by decide +kernel
theorem dX5_letter_137 : decode cX5_letter 137 = .ok (.aload_n 0, 1) := by decide +kernel
theorem dX5_letter_138 : decode cX5_letter 138 = .ok (.iload 4, 2) := by decide +kernel
theorem dX5_letter_140 : decode cX5_letter 140 = .ok (.iconst 1, 1) := by decide +kernel
theorem dX5_letter_141 : decode cX5_letter 141 = .ok (.iload_n 3, 1) := by decide +kernel
theorem dX5_letter_142 : decode cX5_letter 142 = .ok (.iadd, 1) := by decide +kernel
theorem dX5_letter_143 : decode cX5_letter 143 = .ok (.invokevirtual 88, 3) := by decide +kernel
theorem dX5_letter_146 : decode cX5_letter 146 = .ok (.ireturn, 1) := by decide +kernel
theorem dX5_letter_147 : decode cX5_letter 147 = .ok (.iinc 4 1, 3) := by decide +kernel
theorem dX5_letter_150 : decode cX5_letter 150 = .ok (.goto (-124), 3) := by decide +kernel
theorem dX5_letter_153 : decode cX5_letter 153 = .ok (.bipush (-4), 2) := by decide +kernel
theorem dX5_letter_155 : decode cX5_letter 155 = .ok (.ireturn, 1) := by decide +kernel
theorem dX5_worker_0 : decode cX5_worker 0 = .ok (.aload_n 0, 1) := by decide +kernel
theorem dX5_worker_1 : decode cX5_worker 1 = .ok (.iload_n 1, 1) := by decide +kernel
theorem dX5_worker_2 : decode cX5_worker 2 = .ok (.invokevirtual 158, 3) := by decide +kernel
theorem dX5_worker_5 : decode cX5_worker 5 = .ok (.ifCond .eq 12, 3) := by decide +kernel
theorem dX5_worker_8 : decode cX5_worker 8 = .ok (.iload_n 2, 1) := by decide +kernel
theorem dX5_worker_9 : decode cX5_worker 9 = .ok (.iconst 0, 1) := by decide +kernel
theorem dX5_worker_10 : decode cX5_worker 10 = .ok (.iconst 2, 1) := by decide +kernel
theorem dX5_worker_11 : decode cX5_worker 11 = .ok (.invokestatic 45, 3) := by decide +kernel
theorem dX5_worker_14 : decode cX5_worker 14 = .ok (.ifCond .ne 5, 3) := by decide +kernel
theorem dX5_worker_17 : decode cX5_worker 17 = .ok (.iconst (-1), 1) := by decide +kernel
theorem dX5_worker_18 : decode cX5_worker 18 = .ok (.ireturn, 1) := by decide +kernel
theorem dX5_worker_19 : decode cX5_worker 19 = .ok (.iconst 0, 1) := by decide +kernel
theorem dX5_worker_20 : decode cX5_worker 20 = .ok (.istore_n 3, 1) := by decide +kernel
theorem dX5_worker_21 : decode cX5_worker 21 = .ok (.iconst 0, 1) := by decide +kernel
theorem dX5_worker_22 : decode cX5_worker 22 = .ok (.istore 4, 2) := by decide +kernel
theorem dX5_worker_24 : decode cX5_worker 24 = .ok (.iconst 0, 1) := by decide +kernel
theorem dX5_worker_25 : decode cX5_worker 25 = .ok (.istore 5, 2) := by decide +kernel
theorem dX5_worker_27 : decode cX5_worker 27 = .ok (.iload 5, 2) := by decide +kernel
theorem dX5_worker_29 : decode cX5_worker 29 = .ok (.aload_n 0, 1) := by decide +kernel
theorem dX5_worker_30 : decode cX5_worker 30 = .ok (.getfield 7, 3) := by decide +kernel
theorem dX5_worker_33 : decode cX5_worker 33 = .ok (.iconst 0, 1) := by decide +kernel
theorem dX5_worker_34 : decode cX5_worker 34 = .ok (.iaload, 1) := by decide +kernel
theorem dX5_worker_35 : decode cX5_worker 35 = .ok (.if_icmp .ge 52, 3) := by decide +kernel
theorem dX5_worker_38 : decode cX5_worker 38 = .ok (.iload_n 3, 1) := by decide +kernel
theorem dX5_worker_39 : decode cX5_worker 39 = .ok (.aload_n 0, 1) := by decide +kernel
theorem dX5_worker_40 : decode cX5_worker 40 = .ok (.iload 5, 2) := by decide +kernel
theorem dX5_worker_42 : decode cX5_worker 42 = .ok (.iconst 1, 1) := by decide +kernel
theorem dX5_worker_43 : decode cX5_worker 43 = .ok (.invokevirtual 92, 3) := by decide +kernel
theorem dX5_worker_46 : decode cX5_worker 46 = .ok (.iload_n 1, 1) := by decide +kernel
theorem dX5_worker_47 : decode cX5_worker 47 = .ok (.if_icmp .ne 7, 3) := by decide +kernel
theorem dX5_worker_50 : decode cX5_worker 50 = .ok (.iconst 1, 1) := by decide +kernel
theorem dX5_worker_51 : decode cX5_worker 51 = .ok (.goto 4, 3) := by decide +kernel
theorem dX5_worker_54 : decode cX5_worker 54 = .ok (.iconst 0, 1) := by decide +kernel
theorem dX5_worker_55 : decode cX5_worker 55 = .ok (.iadd, 1) := by decide +kernel
theorem dX5_worker_56 : decode cX5_worker 56 = .ok (.istore_n 3, 1) := by decide +kernel
theorem dX5_worker_57 : decode cX5_worker 57 = .ok (.iload 4, 2) := by decide +kernel
theorem dX5_worker_59 : decode cX5_worker 59 = .ok (.aload_n 0, 1) := by decide +kernel
theorem dX5_worker_60 : decode cX5_worker 60 = .ok (.iload 5, 2) := by decide +kernel
theorem dX5_worker_62 : decode cX5_worker 62 = .ok (.iconst 1, 1) := by decide +kernel
theorem dX5_worker_63 : decode cX5_worker 63 = .ok (.invokevirtual 92, 3) := by decide +kernel
theorem dX5_worker_66 : decode cX5_worker 66 = .ok (.iload_n 1, 1) := by decide +kernel
theorem dX5_worker_67 : decode cX5_worker 67 = .ok (.if_icmp .ne 10, 3) := by decide +kernel
theorem dX5_worker_70 : decode cX5_worker 70 = .ok (.iconst 1, 1) := by decide +kernel
theorem dX5_worker_71 : decode cX5_worker 71 = .ok (.iload 5, 2) := by decide +kernel
theorem dX5_worker_73 : decode cX5_worker 73 = .ok (.ishl, 1) := by decide +kernel
theorem dX5_worker_74 : decode cX5_worker 74 = .ok (.goto 4, 3) := by decide +kernel
theorem dX5_worker_77 : decode cX5_worker 77 = .ok (.iconst 0, 1) := by decide +kernel
theorem dX5_worker_78 : decode cX5_worker 78 = .ok (.ior, 1) := by decide +kernel
theorem dX5_worker_79 : decode cX5_worker 79 = .ok (.istore 4, 2) := by decide +kernel
theorem dX5_worker_81 : decode cX5_worker 81 = .ok (.iinc 5 1, 3) := by decide +kernel
theorem dX5_worker_84 : decode cX5_worker 84 = .ok (.goto (-57), 3) := by decide +kernel
theorem dX5_worker_87 : decode cX5_worker 87 = .ok (.iload_n 2, 1) := by decide +kernel
theorem dX5_worker_88 : decode cX5_worker 88 = .ok (.ifCond .ne 7, 3) := by decide +kernel
theorem dX5_worker_91 : decode cX5_worker 91 = .ok (.iload_n 3, 1) := by decide +kernel
theorem dX5_worker_92 : decode cX5_worker 92 = .ok (.goto 23, 3) := by decide +kernel
theorem dX5_worker_95 : decode cX5_worker 95 = .ok (.iload_n 2, 1) := by decide +kernel
theorem dX5_worker_96 : decode cX5_worker 96 = .ok (.iconst 1, 1) := by decide +kernel
theorem dX5_worker_97 : decode cX5_worker 97 = .ok (.if_icmp .ne 16, 3) := by decide +kernel
theorem dX5_worker_100 : decode cX5_worker 100 = .ok (.aload_n 0, 1) := by decide +kernel
theorem dX5_worker_101 : decode cX5_worker 101 = .ok (.getfield 7, 3) := by decide +kernel
theorem dX5_worker_104 : decode cX5_worker 104 = .ok (.sipush 196, 3) := by decide +kernel
theorem dX5_worker_107 : decode cX5_worker 107 = .ok (.iload_n 1, 1) := by decide +kernel
theorem dX5_worker_108 : decode cX5_worker 108 = .ok (.iadd, 1) := by decide +kernel
theorem dX5_worker_109 : decode cX5_worker 109 = .ok (.iaload, 1) := by decide +kernel
theorem dX5_worker_110 : decode cX5_worker 110 = .ok (.goto 5, 3) := by decide +kernel
theorem dX5_worker_113 : decode cX5_worker 113 = .ok (.iload 4, 2) := by decide +kernel
theorem dX5_worker_115 : decode cX5_worker 115 = .ok (.ireturn, 1) := by decide +kernel
theorem dX5_sum_0 : decode cX5_sum 0 = .ok (.iload_n 1, 1) := by decide +kernel
theorem dX5_sum_1 : decode cX5_sum 1 = .ok (.iconst 0, 1) := by decide +kernel
theorem dX5_sum_2 : decode cX5_sum 2 = .ok (.bipush 9, 2) := by decide +kernel
theorem dX5_sum_4 : decode cX5_sum 4 = .ok (.invokestatic 45, 3) := by decide +kernel
theorem dX5_sum_7 : decode cX5_sum 7 = .ok (.ifCond .eq 12, 3) := by decide +kernel
theorem dX5_sum_10 : decode cX5_sum 10 = .ok (.iload_n 2, 1) := by decide +kernel
theorem dX5_sum_11 : decode cX5_sum 11 = .ok (.iconst 0, 1) := by decide +kernel
theorem dX5_sum_12 : decode cX5_sum 12 = .ok (.iconst 5, 1) := by decide +kernel
theorem dX5_sum_13 : decode cX5_sum 13 = .ok (.invokestatic 45, 3) := by decide +kernel
theorem dX5_sum_16 : decode cX5_sum 16 = .ok (.ifCond .ne 5, 3) := by decide +kernel
theorem dX5_sum_19 : decode cX5_sum 19 = .ok (.iconst (-1), 1) := by decide +kernel
theorem dX5_sum_20 : decode cX5_sum 20 = .ok (.ireturn, 1) := by decide +kernel
theorem dX5_sum_21 : decode cX5_sum 21 = .ok (.iload_n 1, 1) := by decide +kernel
theorem dX5_sum_22 : decode cX5_sum 22 = .ok (.aload_n 0, 1) := by decide +kernel
theorem dX5_sum_23 : decode cX5_sum 23 = .ok (.getfield 7, 3) := by decide +kernel
theorem dX5_sum_26 : decode cX5_sum 26 = .ok (.bipush 11, 2) := by decide +kernel
theorem dX5_sum_28 : decode cX5_sum 28 = .ok (.iaload, 1) := by decide +kernel
theorem dX5_sum_29 : decode cX5_sum 29 = .ok (.if_icmp .ge 21, 3) := by decide +kernel
theorem dX5_sum_32 : decode cX5_sum 32 = .ok (.aload_n 0, 1) := by decide +kernel
theorem dX5_sum_33 : decode cX5_sum 33 = .ok (.getfield 7, 3) := by decide +kernel
theorem dX5_sum_36 : decode cX5_sum 36 = .ok (.sipush 200, 3) := by decide +kernel
theorem dX5_sum_39 : decode cX5_sum 39 = .ok (.bipush 6, 2) := by decide +kernel
theorem dX5_sum_41 : decode cX5_sum 41 = .ok (.iload_n 1, 1) := by decide +kernel
theorem dX5_sum_42 : decode cX5_sum 42 = .ok (.imul, 1) := by decide +kernel
theorem dX5_sum_43 : decode cX5_sum 43 = .ok (.iadd, 1) := by decide +kernel
theorem dX5_sum_44 : decode cX5_sum 44 = .ok (.iload_n 2, 1) := by decide +kernel
theorem dX5_sum_45 : decode cX5_sum 45 = .ok (.iadd, 1) := by decide +kernel
theorem dX5_sum_46 : decode cX5_sum 46 = .ok (.iaload, 1) := by decide +kernel
theorem dX5_sum_47 : decode cX5_sum 47 = .ok (.goto 5, 3) := by decide +kernel
theorem dX5_sum_50 : decode cX5_sum 50 = .ok (.bipush (-4), 2) := by decide +kernel
theorem dX5_sum_52 : decode cX5_sum 52 = .ok (.ireturn, 1) := by decide +kernel
theorem dX5_rest_0 : decode cX5_rest 0 = .ok (.iload_n 1, 1) := by decide +kernel
theorem dX5_rest_1 : decode cX5_rest 1 = .ok (.iconst 0, 1) := by decide +kernel
theorem dX5_rest_2 : decode cX5_rest 2 = .ok (.iconst 1, 1) := by decide +kernel
theorem dX5_rest_3 : decode cX5_rest 3 = .ok (.invokestatic 45, 3) := by decide +kernel
theorem dX5_rest_6 : decode cX5_rest 6 = .ok (.ifCond .eq 12, 3) := by decide +kernel
theorem dX5_rest_9 : decode cX5_rest 9 = .ok (.iload_n 2, 1) := by decide +kernel
theorem dX5_rest_10 : decode cX5_rest 10 = .ok (.iconst 0, 1) := by decide +kernel
theorem dX5_rest_11 : decode cX5_rest 11 = .ok (.iconst 2, 1) := by decide +kernel
theorem dX5_rest_12 : decode cX5_rest 12 = .ok (.invokestatic 45, 3) := by decide +kernel
theorem dX5_rest_15 : decode cX5_rest 15 = .ok (.ifCond .ne 5, 3) := by decide +kernel
theorem dX5_rest_18 : decode cX5_rest 18 = .ok (.iconst (-1), 1) := by decide +kernel
theorem dX5_rest_19 : decode cX5_rest 19 = .ok (.ireturn, 1) := by decide +kernel
theorem dX5_rest_20 : decode cX5_rest 20 = .ok (.iconst 0, 1) := by decide +kernel
theorem dX5_rest_21 : decode cX5_rest 21 = .ok (.istore_n 3, 1) := by decide +kernel
theorem dX5_rest_22 : decode cX5_rest 22 = .ok (.iload_n 3, 1) := by decide +kernel
theorem dX5_rest_23 : decode cX5_rest 23 = .ok (.sipush 260, 3) := by decide +kernel
theorem dX5_rest_26 : decode cX5_rest 26 = .ok (.if_icmp .ge 21, 3) := by decide +kernel
theorem dX5_rest_29 : decode cX5_rest 29 = .ok (.aload_n 0, 1) := by decide +kernel
theorem dX5_rest_30 : decode cX5_rest 30 = .ok (.getfield 32, 3) := by decide +kernel
theorem dX5_rest_33 : decode cX5_rest 33 = .ok (.iload_n 3, 1) := by decide +kernel
theorem dX5_rest_34 : decode cX5_rest 34 = .ok (.aload_n 0, 1) := by decide +kernel
theorem dX5_rest_35 : decode cX5_rest 35 = .ok (.getfield 7, 3) := by decide +kernel
theorem dX5_rest_38 : decode cX5_rest 38 = .ok (.iload_n 3, 1) := by decide +kernel
theorem dX5_rest_39 : decode cX5_rest 39 = .ok (.iaload, 1) := by decide +kernel
theorem dX5_rest_40 : decode cX5_rest 40 = .ok (.iastore, 1) := by decide +kernel
theorem dX5_rest_41 : decode cX5_rest 41 = .ok (.iinc 3 1, 3) := by decide +kernel
theorem dX5_rest_44 : decode cX5_rest 44 = .ok (.goto (-22), 3) := by decide +kernel
theorem dX5_rest_47 : decode cX5_rest 47 = .ok (.aload_n 0, 1) := by decide +kernel
theorem dX5_rest_48 : decode cX5_rest 48 = .ok (.getfield 7, 3) := by decide +kernel
theorem dX5_rest_51 : decode cX5_rest 51 = .ok (.bipush 6, 2) := by decide +kernel
theorem dX5_rest_53 : decode cX5_rest 53 = .ok (.aload_n 0, 1) := by decide +kernel
theorem dX5_rest_54 : decode cX5_rest 54 = .ok (.getfield 7, 3) := by decide +kernel
theorem dX5_rest_57 : decode cX5_rest 57 = .ok (.bipush 6, 2) := by decide +kernel
theorem dX5_rest_59 : decode cX5_rest 59 = .ok (.iaload, 1) := by decide +kernel
theorem dX5_rest_60 : decode cX5_rest 60 = .ok (.iload_n 1, 1) := by decide +kernel
theorem dX5_rest_61 : decode cX5_rest 61 = .ok (.if_icmp .ne 7, 3) := by decide +kernel
theorem dX5_rest_64 : decode cX5_rest 64 = .ok (.iconst 0, 1) := by decide +kernel
theorem dX5_rest_65 : decode cX5_rest 65 = .ok (.goto 4, 3) := by decide +kernel
theorem dX5_rest_68 : decode cX5_rest 68 = .ok (.iconst 1, 1) := by decide +kernel
theorem dX5_rest_69 : decode cX5_rest 69 = .ok (.iastore, 1) := by decide +kernel
theorem dX5_rest_70 : decode cX5_rest 70 = .ok (.iconst 0, 1) := by decide +kernel
theorem dX5_rest_71 : decode cX5_rest 71 = .ok (.istore_n 3, 1) := by decide +kernel
theorem dX5_rest_72 : decode cX5_rest 72 = .ok (.iload_n 3, 1) := by decide +kernel
theorem dX5_rest_73 : decode cX5_rest 73 = .ok (.bipush 60, 2) := by decide +kernel
theorem dX5_rest_75 : decode cX5_rest 75 = .ok (.if_icmp .ge 20, 3) := by decide +kernel
theorem dX5_rest_78 : decode cX5_rest 78 = .ok (.aload_n 0, 1) := by decide +kernel
theorem dX5_rest_79 : decode cX5_rest 79 = .ok (.invokevirtual 146, 3) := by decide +kernel
theorem dX5_rest_82 : decode cX5_rest 82 = .ok (.ifCond .le 13, 3) := by decide +kernel
theorem dX5_rest_85 : decode cX5_rest 85 = .ok (.aload_n 0, 1) := by decide +kernel
theorem dX5_rest_86 : decode cX5_rest 86 = .ok (.invokevirtual 152, 3) := by decide +kernel
theorem dX5_rest_89 : decode cX5_rest 89 = .ok (.iinc 3 1, 3) := by decide +kernel
theorem dX5_rest_92 : decode cX5_rest 92 = .ok (.goto (-20), 3) := by decide +kernel
theorem dX5_rest_95 : decode cX5_rest 95 = .ok (.aload_n 0, 1) := by decide +kernel
theorem dX5_rest_96 : decode cX5_rest 96 = .ok (.invokevirtual 146, 3) := by decide +kernel
theorem dX5_rest_99 : decode cX5_rest 99 = .ok (.ifCond .le 8, 3) := by decide +kernel
theorem dX5_rest_102 : decode cX5_rest 102 = .ok (.bipush (-4), 2) := by decide +kernel
theorem dX5_rest_104 : decode cX5_rest 104 = .ok (.goto 38, 3) := by decide +kernel
theorem dX5_rest_107 : decode cX5_rest 107 = .ok (.iload_n 2, 1) := by decide +kernel
theorem dX5_rest_108 : decode cX5_rest 108 = .ok (.ifCond .ne 7, 3) := by decide +kernel
theorem dX5_rest_111 : decode cX5_rest 111 = .ok (.iload_n 3, 1) := by decide +kernel
theorem dX5_rest_112 : decode cX5_rest 112 = .ok (.goto 30, 3) := by decide +kernel
theorem dX5_rest_115 : decode cX5_rest 115 = .ok (.iload_n 2, 1) := by decide +kernel
theorem dX5_rest_116 : decode cX5_rest 116 = .ok (.iconst 1, 1) := by decide +kernel
theorem dX5_rest_117 : decode cX5_rest 117 = .ok (.if_icmp .ne 21, 3) := by decide +kernel
theorem dX5_rest_120 : decode cX5_rest 120 = .ok (.aload_n 0, 1) := by decide +kernel
theorem dX5_rest_121 : decode cX5_rest 121 = .ok (.getfield 7, 3) := by decide +kernel
theorem dX5_rest_124 : decode cX5_rest 124 = .ok (.bipush 8, 2) := by decide +kernel
theorem dX5_rest_126 : decode cX5_rest 126 = .ok (.iaload, 1) := by decide +kernel
theorem dX5_rest_127 : decode cX5_rest 127 = .ok (.aload_n 0, 1) := by decide +kernel
theorem dX5_rest_128 : decode cX5_rest 128 = .ok (.getfield 32, 3) := by decide +kernel
theorem dX5_rest_131 : decode cX5_rest 131 = .ok (.bipush 8, 2) := by decide +kernel
theorem dX5_rest_133 : decode cX5_rest 133 = .ok (.iaload, 1) := by decide +kernel
theorem dX5_rest_134 : decode cX5_rest 134 = .ok (.isub, 1) := by decide +kernel
theorem dX5_rest_135 : decode cX5_rest 135 = .ok (.goto 7, 3) := by decide +kernel
theorem dX5_rest_138 : decode cX5_rest 138 = .ok (.aload_n 0, 1) := by decide +kernel
theorem dX5_rest_139 : decode cX5_rest 139 = .ok (.invokevirtual 143, 3) := by decide +kernel
theorem dX5_rest_142 : decode cX5_rest 142 = .ok (.istore 4, 2) := by decide +kernel
theorem dX5_rest_144 : decode cX5_rest 144 = .ok (.iconst 0, 1) := by decide +kernel
theorem dX5_rest_145 : decode cX5_rest 145 = .ok (.istore 5, 2) := by decide +kernel
theorem dX5_rest_147 : decode cX5_rest 147 = .ok (.iload 5, 2) := by decide +kernel
theorem dX5_rest_149 : decode cX5_rest 149 = .ok (.sipush 260, 3) := by decide +kernel
theorem dX5_rest_152 : decode cX5_rest 152 = .ok (.if_icmp .ge 23, 3) := by decide +kernel
theorem dX5_rest_155 : decode cX5_rest 155 = .ok (.aload_n 0, 1) := by decide +kernel
theorem dX5_rest_156 : decode cX5_rest 156 = .ok (.getfield 7, 3) := by decide +kernel
theorem dX5_rest_159 : decode cX5_rest 159 = .ok (.iload 5, 2) := by decide +kernel
theorem dX5_rest_161 : decode cX5_rest 161 = .ok (.aload_n 0, 1) := by decide +kernel
theorem dX5_rest_162 : decode cX5_rest 162 = .ok (.getfield 32, 3) := by decide +kernel
theorem dX5_rest_165 : decode cX5_rest 165 = .ok (.iload 5, 2) := by decide +kernel
theorem dX5_rest_167 : decode cX5_rest 167 = .ok (.iaload, 1) := by decide +kernel
theorem dX5_rest_168 : decode cX5_rest 168 = .ok (.iastore, 1) := by decide +kernel
theorem dX5_rest_169 : decode cX5_rest 169 = .ok (.iinc 5 1, 3) := by decide +kernel
theorem dX5_rest_172 : decode cX5_rest 172 = .ok (.goto (-25), 3) := by decide +kernel
theorem dX5_rest_175 : decode cX5_rest 175 = .ok (.iload 4, 2) := by decide +kernel
theorem dX5_rest_177 : decode cX5_rest 177 = .ok (.ireturn, 1) := by decide +kernel
theorem dX5_count_0 : decode cX5_count 0 = .ok (.iload_n 1, 1) := by decide +kernel
theorem dX5_count_1 : decode cX5_count 1 = .ok (.tableswitch 146 0 11 #[63, 70, 77, 84, 91, 99, 104, 112, 120, 128, 136, 141], 63) := by decide +kernel
theorem dX5_count_64 : decode cX5_count 64 = .ok (.aload_n 0, 1) := by decide +kernel
theorem dX5_count_65 : decode cX5_count 65 = .ok (.getfield 7, 3) := by decide +kernel
theorem dX5_count_68 : decode cX5_count 68 = .ok (.iconst 0, 1) := by decide +kernel
theorem dX5_count_69 : decode cX5_count 69 = .ok (.iaload, 1) := by decide +kernel
theorem dX5_count_70 : decode cX5_count 70 = .ok (.ireturn, 1) := by decide +kernel
theorem dX5_count_71 : decode cX5_count 71 = .ok (.aload_n 0, 1) := by decide +kernel
theorem dX5_count_72 : decode cX5_count 72 = .ok (.getfield 7, 3) := by decide +kernel
theorem dX5_count_75 : decode cX5_count 75 = .ok (.iconst 1, 1) := by decide +kernel
theorem dX5_count_76 : decode cX5_count 76 = .ok (.iaload, 1) := by decide +kernel
theorem dX5_count_77 : decode cX5_count 77 = .ok (.ireturn, 1) := by decide +kernel
theorem dX5_count_78 : decode cX5_count 78 = .ok (.aload_n 0, 1) := by decide +kernel
theorem dX5_count_79 : decode cX5_count 79 = .ok (.getfield 7, 3) := by decide +kernel
theorem dX5_count_82 : decode cX5_count 82 = .ok (.iconst 4, 1) := by decide +kernel
theorem dX5_count_83 : decode cX5_count 83 = .ok (.iaload, 1) := by decide +kernel
theorem dX5_count_84 : decode cX5_count 84 = .ok (.ireturn, 1) := by decide +kernel
theorem dX5_count_85 : decode cX5_count 85 = .ok (.aload_n 0, 1) := by decide +kernel
theorem dX5_count_86 : decode cX5_count 86 = .ok (.getfield 7, 3) := by decide +kernel
theorem dX5_count_89 : decode cX5_count 89 = .ok (.iconst 2, 1) := by decide +kernel
theorem dX5_count_90 : decode cX5_count 90 = .ok (.iaload, 1) := by decide +kernel
theorem dX5_count_91 : decode cX5_count 91 = .ok (.ireturn, 1) := by decide +kernel
theorem dX5_count_92 : decode cX5_count 92 = .ok (.aload_n 0, 1) := by decide +kernel
theorem dX5_count_93 : decode cX5_count 93 = .ok (.getfield 7, 3) := by decide +kernel
theorem dX5_count_96 : decode cX5_count 96 = .ok (.bipush 7, 2) := by decide +kernel
theorem dX5_count_98 : decode cX5_count 98 = .ok (.iaload, 1) := by decide +kernel
theorem dX5_count_99 : decode cX5_count 99 = .ok (.ireturn, 1) := by decide +kernel
theorem dX5_count_100 : decode cX5_count 100 = .ok (.aload_n 0, 1) := by decide +kernel
theorem dX5_count_101 : decode cX5_count 101 = .ok (.invokevirtual 146, 3) := by decide +kernel
theorem dX5_count_104 : decode cX5_count 104 = .ok (.ireturn, 1) := by decide +kernel
theorem dX5_count_105 : decode cX5_count 105 = .ok (.aload_n 0, 1) := by decide +kernel
theorem dX5_count_106 : decode cX5_count 106 = .ok (.getfield 7, 3) := by decide +kernel
theorem dX5_count_109 : decode cX5_count 109 = .ok (.bipush 10, 2) := by decide +kernel
theorem dX5_count_111 : decode cX5_count 111 = .ok (.iaload, 1) := by decide +kernel
theorem dX5_count_112 : decode cX5_count 112 = .ok (.ireturn, 1) := by decide +kernel
theorem dX5_count_113 : decode cX5_count 113 = .ok (.aload_n 0, 1) := by decide +kernel
theorem dX5_count_114 : decode cX5_count 114 = .ok (.getfield 7, 3) := by decide +kernel
theorem dX5_count_117 : decode cX5_count 117 = .ok (.bipush 8, 2) := by decide +kernel
theorem dX5_count_119 : decode cX5_count 119 = .ok (.iaload, 1) := by decide +kernel
theorem dX5_count_120 : decode cX5_count 120 = .ok (.ireturn, 1) := by decide +kernel
theorem dX5_count_121 : decode cX5_count 121 = .ok (.aload_n 0, 1) := by decide +kernel
theorem dX5_count_122 : decode cX5_count 122 = .ok (.getfield 7, 3) := by decide +kernel
theorem dX5_count_125 : decode cX5_count 125 = .ok (.bipush 9, 2) := by decide +kernel
theorem dX5_count_127 : decode cX5_count 127 = .ok (.iaload, 1) := by decide +kernel
theorem dX5_count_128 : decode cX5_count 128 = .ok (.ireturn, 1) := by decide +kernel
theorem dX5_count_129 : decode cX5_count 129 = .ok (.aload_n 0, 1) := by decide +kernel
theorem dX5_count_130 : decode cX5_count 130 = .ok (.getfield 7, 3) := by decide +kernel
theorem dX5_count_133 : decode cX5_count 133 = .ok (.bipush 6, 2) := by decide +kernel
theorem dX5_count_135 : decode cX5_count 135 = .ok (.iaload, 1) := by decide +kernel
theorem dX5_count_136 : decode cX5_count 136 = .ok (.ireturn, 1) := by decide +kernel
theorem dX5_count_137 : decode cX5_count 137 = .ok (.aload_n 0, 1) := by decide +kernel
theorem dX5_count_138 : decode cX5_count 138 = .ok (.getfield 85, 3) := by decide +kernel
theorem dX5_count_141 : decode cX5_count 141 = .ok (.ireturn, 1) := by decide +kernel
theorem dX5_count_142 : decode cX5_count 142 = .ok (.aload_n 0, 1) := by decide +kernel
theorem dX5_count_143 : decode cX5_count 143 = .ok (.getfield 49, 3) := by decide +kernel
theorem dX5_count_146 : decode cX5_count 146 = .ok (.ireturn, 1) := by decide +kernel
theorem dX5_count_147 : decode cX5_count 147 = .ok (.iconst (-1), 1) := by decide +kernel
theorem dX5_count_148 : decode cX5_count 148 = .ok (.ireturn, 1) := by decide +kernel
theorem dJ6_bitCount_0f7a4_0 : decode cJ6_bitCount_0f7a4 0 = .ok (.iload_n 0, 1) := by decide +kernel
theorem dJ6_bitCount_0f7a4_1 : decode cJ6_bitCount_0f7a4 1 = .ok (.iload_n 0, 1) := by decide +kernel
theorem dJ6_bitCount_0f7a4_2 : decode cJ6_bitCount_0f7a4 2 = .ok (.iconst 1, 1) := by decide +kernel
theorem dJ6_bitCount_0f7a4_3 : decode cJ6_bitCount_0f7a4 3 = .ok (.iushr, 1) := by decide +kernel
theorem dJ6_bitCount_0f7a4_4 : decode cJ6_bitCount_0f7a4 4 = .ok (.ldc_w 265, 3) := by decide +kernel
theorem dJ6_bitCount_0f7a4_7 : decode cJ6_bitCount_0f7a4 7 = .ok (.iand, 1) := by decide +kernel
theorem dJ6_bitCount_0f7a4_8 : decode cJ6_bitCount_0f7a4 8 = .ok (.isub, 1) := by decide +kernel
theorem dJ6_bitCount_0f7a4_9 : decode cJ6_bitCount_0f7a4 9 = .ok (.istore_n 0, 1) := by decide +kernel
theorem dJ6_bitCount_0f7a4_10 : decode cJ6_bitCount_0f7a4 10 = .ok (.iload_n 0, 1) := by decide +kernel
theorem dJ6_bitCount_0f7a4_11 : decode cJ6_bitCount_0f7a4 11 = .ok (.ldc_w 266, 3) := by decide +kernel
theorem dJ6_bitCount_0f7a4_14 : decode cJ6_bitCount_0f7a4 14 = .ok (.iand, 1) := by decide +kernel
theorem dJ6_bitCount_0f7a4_15 : decode cJ6_bitCount_0f7a4 15 = .ok (.iload_n 0, 1) := by decide +kernel
theorem dJ6_bitCount_0f7a4_16 : decode cJ6_bitCount_0f7a4 16 = .ok (.iconst 2, 1) := by decide +kernel
theorem dJ6_bitCount_0f7a4_17 : decode cJ6_bitCount_0f7a4 17 = .ok (.iushr, 1) := by decide +kernel
theorem dJ6_bitCount_0f7a4_18 : decode cJ6_bitCount_0f7a4 18 = .ok (.ldc_w 266, 3) := by decide +kernel
theorem dJ6_bitCount_0f7a4_21 : decode cJ6_bitCount_0f7a4 21 = .ok (.iand, 1) := by decide +kernel
theorem dJ6_bitCount_0f7a4_22 : decode cJ6_bitCount_0f7a4 22 = .ok (.iadd, 1) := by decide +kernel
theorem dJ6_bitCount_0f7a4_23 : decode cJ6_bitCount_0f7a4 23 = .ok (.istore_n 0, 1) := by decide +kernel
theorem dJ6_bitCount_0f7a4_24 : decode cJ6_bitCount_0f7a4 24 = .ok (.iload_n 0, 1) := by decide +kernel
theorem dJ6_bitCount_0f7a4_25 : decode cJ6_bitCount_0f7a4 25 = .ok (.iload_n 0, 1) := by decide +kernel
theorem dJ6_bitCount_0f7a4_26 : decode cJ6_bitCount_0f7a4 26 = .ok (.iconst 4, 1) := by decide +kernel
theorem dJ6_bitCount_0f7a4_27 : decode cJ6_bitCount_0f7a4 27 = .ok (.iushr, 1) := by decide +kernel
theorem dJ6_bitCount_0f7a4_28 : decode cJ6_bitCount_0f7a4 28 = .ok (.iadd, 1) := by decide +kernel
theorem dJ6_bitCount_0f7a4_29 : decode cJ6_bitCount_0f7a4 29 = .ok (.ldc_w 267, 3) := by decide +kernel
theorem dJ6_bitCount_0f7a4_32 : decode cJ6_bitCount_0f7a4 32 = .ok (.iand, 1) := by decide +kernel
theorem dJ6_bitCount_0f7a4_33 : decode cJ6_bitCount_0f7a4 33 = .ok (.istore_n 0, 1) := by decide +kernel
theorem dJ6_bitCount_0f7a4_34 : decode cJ6_bitCount_0f7a4 34 = .ok (.iload_n 0, 1) := by decide +kernel
theorem dJ6_bitCount_0f7a4_35 : decode cJ6_bitCount_0f7a4 35 = .ok (.iload_n 0, 1) := by decide +kernel
theorem dJ6_bitCount_0f7a4_36 : decode cJ6_bitCount_0f7a4 36 = .ok (.bipush 8, 2) := by decide +kernel
theorem dJ6_bitCount_0f7a4_38 : decode cJ6_bitCount_0f7a4 38 = .ok (.iushr, 1) := by decide +kernel
theorem dJ6_bitCount_0f7a4_39 : decode cJ6_bitCount_0f7a4 39 = .ok (.iadd, 1) := by decide +kernel
theorem dJ6_bitCount_0f7a4_40 : decode cJ6_bitCount_0f7a4 40 = .ok (.istore_n 0, 1) := by decide +kernel
theorem dJ6_bitCount_0f7a4_41 : decode cJ6_bitCount_0f7a4 41 = .ok (.iload_n 0, 1) := by decide +kernel
theorem dJ6_bitCount_0f7a4_42 : decode cJ6_bitCount_0f7a4 42 = .ok (.iload_n 0, 1) := by decide +kernel
theorem dJ6_bitCount_0f7a4_43 : decode cJ6_bitCount_0f7a4 43 = .ok (.bipush 16, 2) := by decide +kernel
theorem dJ6_bitCount_0f7a4_45 : decode cJ6_bitCount_0f7a4 45 = .ok (.iushr, 1) := by decide +kernel
theorem dJ6_bitCount_0f7a4_46 : decode cJ6_bitCount_0f7a4 46 = .ok (.iadd, 1) := by decide +kernel
theorem dJ6_bitCount_0f7a4_47 : decode cJ6_bitCount_0f7a4 47 = .ok (.istore_n 0, 1) := by decide +kernel
theorem dJ6_bitCount_0f7a4_48 : decode cJ6_bitCount_0f7a4 48 = .ok (.iload_n 0, 1) := by decide +kernel
theorem dJ6_bitCount_0f7a4_49 : decode cJ6_bitCount_0f7a4 49 = .ok (.bipush 63, 2) := by decide +kernel
theorem dJ6_bitCount_0f7a4_51 : decode cJ6_bitCount_0f7a4 51 = .ok (.iand, 1) := by decide +kernel
theorem dJ6_bitCount_0f7a4_52 : decode cJ6_bitCount_0f7a4 52 = .ok (.ireturn, 1) := by decide +kernel
theorem dL_law_0 : decode cL_law 0 = .ok (.new 7, 3) := by decide +kernel
theorem dL_law_3 : decode cL_law 3 = .ok (.dup, 1) := by decide +kernel
theorem dL_law_4 : decode cL_law 4 = .ok (.invokespecial 9, 3) := by decide +kernel
theorem dL_law_7 : decode cL_law 7 = .ok (.astore_n 1, 1) := by decide +kernel
theorem dL_law_8 : decode cL_law 8 = .ok (.new 10, 3) := by decide +kernel
theorem dL_law_11 : decode cL_law 11 = .ok (.dup, 1) := by decide +kernel
theorem dL_law_12 : decode cL_law 12 = .ok (.invokespecial 12, 3) := by decide +kernel
theorem dL_law_15 : decode cL_law 15 = .ok (.astore_n 2, 1) := by decide +kernel
theorem dL_law_16 : decode cL_law 16 = .ok (.iconst 0, 1) := by decide +kernel
theorem dL_law_17 : decode cL_law 17 = .ok (.istore_n 3, 1) := by decide +kernel
theorem dL_law_18 : decode cL_law 18 = .ok (.iload_n 3, 1) := by decide +kernel
theorem dL_law_19 : decode cL_law 19 = .ok (.aload_n 0, 1) := by decide +kernel
theorem dL_law_20 : decode cL_law 20 = .ok (.arraylength, 1) := by decide +kernel
theorem dL_law_21 : decode cL_law 21 = .ok (.iconst 4, 1) := by decide +kernel
theorem dL_law_22 : decode cL_law 22 = .ok (.isub, 1) := by decide +kernel
theorem dL_law_23 : decode cL_law 23 = .ok (.if_icmp .gt 476, 3) := by decide +kernel
theorem dL_law_26 : decode cL_law 26 = .ok (.aload_n 0, 1) := by decide +kernel
theorem dL_law_27 : decode cL_law 27 = .ok (.iload_n 3, 1) := by decide +kernel
theorem dL_law_28 : decode cL_law 28 = .ok (.iaload, 1) := by decide +kernel
theorem dL_law_29 : decode cL_law 29 = .ok (.bipush 15, 2) := by decide +kernel
theorem dL_law_31 : decode cL_law 31 = .ok (.iand, 1) := by decide +kernel
theorem dL_law_32 : decode cL_law 32 = .ok (.tableswitch 461 0 14 #[76, 99, 112, 125, 138, 161, 194, 227, 250, 263, 296, 339, 372, 405, 438], 76) := by decide +kernel
theorem dL_law_108 : decode cL_law 108 = .ok (.aload_n 1, 1) := by decide +kernel
theorem dL_law_109 : decode cL_law 109 = .ok (.aload_n 0, 1) := by decide +kernel
theorem dL_law_110 : decode cL_law 110 = .ok (.iload_n 3, 1) := by decide +kernel
theorem dL_law_111 : decode cL_law 111 = .ok (.iconst 1, 1) := by decide +kernel
theorem dL_law_112 : decode cL_law 112 = .ok (.iadd, 1) := by decide +kernel
theorem dL_law_113 : decode cL_law 113 = .ok (.iaload, 1) := by decide +kernel
theorem dL_law_114 : decode cL_law 114 = .ok (.invokevirtual 13, 3) := by decide +kernel
theorem dL_law_117 : decode cL_law 117 = .ok (.aload_n 2, 1) := by decide +kernel
theorem dL_law_118 : decode cL_law 118 = .ok (.aload_n 0, 1) := by decide +kernel
theorem dL_law_119 : decode cL_law 119 = .ok (.iload_n 3, 1) := by decide +kernel
theorem dL_law_120 : decode cL_law 120 = .ok (.iconst 1, 1) := by decide +kernel
theorem dL_law_121 : decode cL_law 121 = .ok (.iadd, 1) := by decide +kernel
theorem dL_law_122 : decode cL_law 122 = .ok (.iaload, 1) := by decide +kernel
theorem dL_law_123 : decode cL_law 123 = .ok (.invokevirtual 17, 3) := by decide +kernel
theorem dL_law_126 : decode cL_law 126 = .ok (.if_icmp .eq 367, 3) := by decide +kernel
theorem dL_law_129 : decode cL_law 129 = .ok (.iconst 0, 1) := by decide +kernel
theorem dL_law_130 : decode cL_law 130 = .ok (.ireturn, 1) := by decide +kernel
theorem dL_law_131 : decode cL_law 131 = .ok (.aload_n 1, 1) := by decide +kernel
theorem dL_law_132 : decode cL_law 132 = .ok (.invokevirtual 18, 3) := by decide +kernel
theorem dL_law_135 : decode cL_law 135 = .ok (.aload_n 2, 1) := by decide +kernel
theorem dL_law_136 : decode cL_law 136 = .ok (.invokevirtual 22, 3) := by decide +kernel
theorem dL_law_139 : decode cL_law 139 = .ok (.if_icmp .eq 354, 3) := by decide +kernel
theorem dL_law_142 : decode cL_law 142 = .ok (.iconst 0, 1) := by decide +kernel
theorem dL_law_143 : decode cL_law 143 = .ok (.ireturn, 1) := by decide +kernel
theorem dL_law_144 : decode cL_law 144 = .ok (.aload_n 1, 1) := by decide +kernel
theorem dL_law_145 : decode cL_law 145 = .ok (.invokevirtual 23, 3) := by decide +kernel
theorem dL_law_148 : decode cL_law 148 = .ok (.aload_n 2, 1) := by decide +kernel
theorem dL_law_149 : decode cL_law 149 = .ok (.invokevirtual 26, 3) := by decide +kernel
theorem dL_law_152 : decode cL_law 152 = .ok (.if_icmp .eq 341, 3) := by decide +kernel
theorem dL_law_155 : decode cL_law 155 = .ok (.iconst 0, 1) := by decide +kernel
theorem dL_law_156 : decode cL_law 156 = .ok (.ireturn, 1) := by decide +kernel
theorem dL_law_157 : decode cL_law 157 = .ok (.aload_n 1, 1) := by decide +kernel
theorem dL_law_158 : decode cL_law 158 = .ok (.invokevirtual 27, 3) := by decide +kernel
theorem dL_law_161 : decode cL_law 161 = .ok (.aload_n 2, 1) := by decide +kernel
theorem dL_law_162 : decode cL_law 162 = .ok (.invokevirtual 30, 3) := by decide +kernel
theorem dL_law_165 : decode cL_law 165 = .ok (.if_icmp .eq 328, 3) := by decide +kernel
theorem dL_law_168 : decode cL_law 168 = .ok (.iconst 0, 1) := by decide +kernel
theorem dL_law_169 : decode cL_law 169 = .ok (.ireturn, 1) := by decide +kernel
theorem dL_law_170 : decode cL_law 170 = .ok (.aload_n 1, 1) := by decide +kernel
theorem dL_law_171 : decode cL_law 171 = .ok (.aload_n 0, 1) := by decide +kernel
theorem dL_law_172 : decode cL_law 172 = .ok (.iload_n 3, 1) := by decide +kernel
theorem dL_law_173 : decode cL_law 173 = .ok (.iconst 1, 1) := by decide +kernel
theorem dL_law_174 : decode cL_law 174 = .ok (.iadd, 1) := by decide +kernel
theorem dL_law_175 : decode cL_law 175 = .ok (.iaload, 1) := by decide +kernel
theorem dL_law_176 : decode cL_law 176 = .ok (.invokevirtual 31, 3) := by decide +kernel
theorem dL_law_179 : decode cL_law 179 = .ok (.aload_n 2, 1) := by decide +kernel
theorem dL_law_180 : decode cL_law 180 = .ok (.aload_n 0, 1) := by decide +kernel
theorem dL_law_181 : decode cL_law 181 = .ok (.iload_n 3, 1) := by decide +kernel
theorem dL_law_182 : decode cL_law 182 = .ok (.iconst 1, 1) := by decide +kernel
theorem dL_law_183 : decode cL_law 183 = .ok (.iadd, 1) := by decide +kernel
theorem dL_law_184 : decode cL_law 184 = .ok (.iaload, 1) := by decide +kernel
theorem dL_law_185 : decode cL_law 185 = .ok (.invokevirtual 34, 3) := by decide +kernel
theorem dL_law_188 : decode cL_law 188 = .ok (.if_icmp .eq 305, 3) := by decide +kernel
theorem dL_law_191 : decode cL_law 191 = .ok (.iconst 0, 1) := by decide +kernel
theorem dL_law_192 : decode cL_law 192 = .ok (.ireturn, 1) := by decide +kernel
theorem dL_law_193 : decode cL_law 193 = .ok (.aload_n 1, 1) := by decide +kernel
theorem dL_law_194 : decode cL_law 194 = .ok (.aload_n 0, 1) := by decide +kernel
theorem dL_law_195 : decode cL_law 195 = .ok (.iload_n 3, 1) := by decide +kernel
theorem dL_law_196 : decode cL_law 196 = .ok (.iconst 1, 1) := by decide +kernel
theorem dL_law_197 : decode cL_law 197 = .ok (.iadd, 1) := by decide +kernel
theorem dL_law_198 : decode cL_law 198 = .ok (.iaload, 1) := by decide +kernel
theorem dL_law_199 : decode cL_law 199 = .ok (.aload_n 0, 1) := by decide +kernel
theorem dL_law_200 : decode cL_law 200 = .ok (.iload_n 3, 1) := by decide +kernel
theorem dL_law_201 : decode cL_law 201 = .ok (.iconst 2, 1) := by decide +kernel
theorem dL_law_202 : decode cL_law 202 = .ok (.iadd, 1) := by decide +kernel
theorem dL_law_203 : decode cL_law 203 = .ok (.iaload, 1) := by decide +kernel
theorem dL_law_204 : decode cL_law 204 = .ok (.invokevirtual 35, 3) := by decide +kernel
theorem dL_law_207 : decode cL_law 207 = .ok (.aload_n 2, 1) := by decide +kernel
theorem dL_law_208 : decode cL_law 208 = .ok (.aload_n 0, 1) := by decide +kernel
theorem dL_law_209 : decode cL_law 209 = .ok (.iload_n 3, 1) := by decide +kernel
theorem dL_law_210 : decode cL_law 210 = .ok (.iconst 1, 1) := by decide +kernel
theorem dL_law_211 : decode cL_law 211 = .ok (.iadd, 1) := by decide +kernel
theorem dL_law_212 : decode cL_law 212 = .ok (.iaload, 1) := by decide +kernel
theorem dL_law_213 : decode cL_law 213 = .ok (.aload_n 0, 1) := by decide +kernel
theorem dL_law_214 : decode cL_law 214 = .ok (.iload_n 3, 1) := by decide +kernel
theorem dL_law_215 : decode cL_law 215 = .ok (.iconst 2, 1) := by decide +kernel
theorem dL_law_216 : decode cL_law 216 = .ok (.iadd, 1) := by decide +kernel
theorem dL_law_217 : decode cL_law 217 = .ok (.iaload, 1) := by decide +kernel
theorem dL_law_218 : decode cL_law 218 = .ok (.invokevirtual 39, 3) := by decide +kernel
theorem dL_law_221 : decode cL_law 221 = .ok (.if_icmp .eq 272, 3) := by decide +kernel
theorem dL_law_224 : decode cL_law 224 = .ok (.iconst 0, 1) := by decide +kernel
theorem dL_law_225 : decode cL_law 225 = .ok (.ireturn, 1) := by decide +kernel
theorem dL_law_226 : decode cL_law 226 = .ok (.aload_n 1, 1) := by decide +kernel
theorem dL_law_227 : decode cL_law 227 = .ok (.aload_n 0, 1) := by decide +kernel
theorem dL_law_228 : decode cL_law 228 = .ok (.iload_n 3, 1) := by decide +kernel
theorem dL_law_229 : decode cL_law 229 = .ok (.iconst 1, 1) := by decide +kernel
theorem dL_law_230 : decode cL_law 230 = .ok (.iadd, 1) := by decide +kernel
theorem dL_law_231 : decode cL_law 231 = .ok (.iaload, 1) := by decide +kernel
theorem dL_law_232 : decode cL_law 232 = .ok (.aload_n 0, 1) := by decide +kernel
theorem dL_law_233 : decode cL_law 233 = .ok (.iload_n 3, 1) := by decide +kernel
theorem dL_law_234 : decode cL_law 234 = .ok (.iconst 2, 1) := by decide +kernel
theorem dL_law_235 : decode cL_law 235 = .ok (.iadd, 1) := by decide +kernel
theorem dL_law_236 : decode cL_law 236 = .ok (.iaload, 1) := by decide +kernel
theorem dL_law_237 : decode cL_law 237 = .ok (.invokevirtual 40, 3) := by decide +kernel
theorem dL_law_240 : decode cL_law 240 = .ok (.aload_n 2, 1) := by decide +kernel
theorem dL_law_241 : decode cL_law 241 = .ok (.aload_n 0, 1) := by decide +kernel
theorem dL_law_242 : decode cL_law 242 = .ok (.iload_n 3, 1) := by decide +kernel
theorem dL_law_243 : decode cL_law 243 = .ok (.iconst 1, 1) := by decide +kernel
theorem dL_law_244 : decode cL_law 244 = .ok (.iadd, 1) := by decide +kernel
theorem dL_law_245 : decode cL_law 245 = .ok (.iaload, 1) := by decide +kernel
theorem dL_law_246 : decode cL_law 246 = .ok (.aload_n 0, 1) := by decide +kernel
theorem dL_law_247 : decode cL_law 247 = .ok (.iload_n 3, 1) := by decide +kernel
theorem dL_law_248 : decode cL_law 248 = .ok (.iconst 2, 1) := by decide +kernel
theorem dL_law_249 : decode cL_law 249 = .ok (.iadd, 1) := by decide +kernel
theorem dL_law_250 : decode cL_law 250 = .ok (.iaload, 1) := by decide +kernel
theorem dL_law_251 : decode cL_law 251 = .ok (.invokevirtual 43, 3) := by decide +kernel
theorem dL_law_254 : decode cL_law 254 = .ok (.if_icmp .eq 239, 3) := by decide +kernel
theorem dL_law_257 : decode cL_law 257 = .ok (.iconst 0, 1) := by decide +kernel
theorem dL_law_258 : decode cL_law 258 = .ok (.ireturn, 1) := by decide +kernel
theorem dL_law_259 : decode cL_law 259 = .ok (.aload_n 1, 1) := by decide +kernel
theorem dL_law_260 : decode cL_law 260 = .ok (.aload_n 0, 1) := by decide +kernel
theorem dL_law_261 : decode cL_law 261 = .ok (.iload_n 3, 1) := by decide +kernel
theorem dL_law_262 : decode cL_law 262 = .ok (.iconst 1, 1) := by decide +kernel
theorem dL_law_263 : decode cL_law 263 = .ok (.iadd, 1) := by decide +kernel
theorem dL_law_264 : decode cL_law 264 = .ok (.iaload, 1) := by decide +kernel
theorem dL_law_265 : decode cL_law 265 = .ok (.invokevirtual 44, 3) := by decide +kernel
theorem dL_law_268 : decode cL_law 268 = .ok (.aload_n 2, 1) := by decide +kernel
theorem dL_law_269 : decode cL_law 269 = .ok (.aload_n 0, 1) := by decide +kernel
theorem dL_law_270 : decode cL_law 270 = .ok (.iload_n 3, 1) := by decide +kernel
theorem dL_law_271 : decode cL_law 271 = .ok (.iconst 1, 1) := by decide +kernel
theorem dL_law_272 : decode cL_law 272 = .ok (.iadd, 1) := by decide +kernel
theorem dL_law_273 : decode cL_law 273 = .ok (.iaload, 1) := by decide +kernel
theorem dL_law_274 : decode cL_law 274 = .ok (.invokevirtual 47, 3) := by decide +kernel
theorem dL_law_277 : decode cL_law 277 = .ok (.if_icmp .eq 216, 3) := by decide +kernel
theorem dL_law_280 : decode cL_law 280 = .ok (.iconst 0, 1) := by decide +kernel
theorem dL_law_281 : decode cL_law 281 = .ok (.ireturn, 1) := by decide +kernel
theorem dL_law_282 : decode cL_law 282 = .ok (.aload_n 1, 1) := by decide +kernel
theorem dL_law_283 : decode cL_law 283 = .ok (.invokevirtual 48, 3) := by decide +kernel
theorem dL_law_286 : decode cL_law 286 = .ok (.aload_n 2, 1) := by decide +kernel
theorem dL_law_287 : decode cL_law 287 = .ok (.invokevirtual 51, 3) := by decide +kernel
theorem dL_law_290 : decode cL_law 290 = .ok (.if_icmp .eq 203, 3) := by decide +kernel
theorem dL_law_293 : decode cL_law 293 = .ok (.iconst 0, 1) := by decide +kernel
theorem dL_law_294 : decode cL_law 294 = .ok (.ireturn, 1) := by decide +kernel
theorem dL_law_295 : decode cL_law 295 = .ok (.aload_n 1, 1) := by decide +kernel
theorem dL_law_296 : decode cL_law 296 = .ok (.aload_n 0, 1) := by decide +kernel
theorem dL_law_297 : decode cL_law 297 = .ok (.iload_n 3, 1) := by decide +kernel
theorem dL_law_298 : decode cL_law 298 = .ok (.iconst 1, 1) := by decide +kernel
theorem dL_law_299 : decode cL_law 299 = .ok (.iadd, 1) := by decide +kernel
theorem dL_law_300 : decode cL_law 300 = .ok (.iaload, 1) := by decide +kernel
theorem dL_law_301 : decode cL_law 301 = .ok (.aload_n 0, 1) := by decide +kernel
theorem dL_law_302 : decode cL_law 302 = .ok (.iload_n 3, 1) := by decide +kernel
theorem dL_law_303 : decode cL_law 303 = .ok (.iconst 2, 1) := by decide +kernel
theorem dL_law_304 : decode cL_law 304 = .ok (.iadd, 1) := by decide +kernel
theorem dL_law_305 : decode cL_law 305 = .ok (.iaload, 1) := by decide +kernel
theorem dL_law_306 : decode cL_law 306 = .ok (.invokevirtual 52, 3) := by decide +kernel
theorem dL_law_309 : decode cL_law 309 = .ok (.aload_n 2, 1) := by decide +kernel
theorem dL_law_310 : decode cL_law 310 = .ok (.aload_n 0, 1) := by decide +kernel
theorem dL_law_311 : decode cL_law 311 = .ok (.iload_n 3, 1) := by decide +kernel
theorem dL_law_312 : decode cL_law 312 = .ok (.iconst 1, 1) := by decide +kernel
theorem dL_law_313 : decode cL_law 313 = .ok (.iadd, 1) := by decide +kernel
theorem dL_law_314 : decode cL_law 314 = .ok (.iaload, 1) := by decide +kernel
theorem dL_law_315 : decode cL_law 315 = .ok (.aload_n 0, 1) := by decide +kernel
theorem dL_law_316 : decode cL_law 316 = .ok (.iload_n 3, 1) := by decide +kernel
theorem dL_law_317 : decode cL_law 317 = .ok (.iconst 2, 1) := by decide +kernel
theorem dL_law_318 : decode cL_law 318 = .ok (.iadd, 1) := by decide +kernel
theorem dL_law_319 : decode cL_law 319 = .ok (.iaload, 1) := by decide +kernel
theorem dL_law_320 : decode cL_law 320 = .ok (.invokevirtual 55, 3) := by decide +kernel
theorem dL_law_323 : decode cL_law 323 = .ok (.if_icmp .eq 170, 3) := by decide +kernel
theorem dL_law_326 : decode cL_law 326 = .ok (.iconst 0, 1) := by decide +kernel
theorem dL_law_327 : decode cL_law 327 = .ok (.ireturn, 1) := by decide +kernel
theorem dL_law_328 : decode cL_law 328 = .ok (.aload_n 1, 1) := by decide +kernel
theorem dL_law_329 : decode cL_law 329 = .ok (.aload_n 0, 1) := by decide +kernel
theorem dL_law_330 : decode cL_law 330 = .ok (.iload_n 3, 1) := by decide +kernel
theorem dL_law_331 : decode cL_law 331 = .ok (.iconst 1, 1) := by decide +kernel
theorem dL_law_332 : decode cL_law 332 = .ok (.iadd, 1) := by decide +kernel
theorem dL_law_333 : decode cL_law 333 = .ok (.iaload, 1) := by decide +kernel
theorem dL_law_334 : decode cL_law 334 = .ok (.aload_n 0, 1) := by decide +kernel
theorem dL_law_335 : decode cL_law 335 = .ok (.iload_n 3, 1) := by decide +kernel
theorem dL_law_336 : decode cL_law 336 = .ok (.iconst 2, 1) := by decide +kernel
theorem dL_law_337 : decode cL_law 337 = .ok (.iadd, 1) := by decide +kernel
theorem dL_law_338 : decode cL_law 338 = .ok (.iaload, 1) := by decide +kernel
theorem dL_law_339 : decode cL_law 339 = .ok (.aload_n 0, 1) := by decide +kernel
theorem dL_law_340 : decode cL_law 340 = .ok (.iload_n 3, 1) := by decide +kernel
theorem dL_law_341 : decode cL_law 341 = .ok (.iconst 3, 1) := by decide +kernel
theorem dL_law_342 : decode cL_law 342 = .ok (.iadd, 1) := by decide +kernel
theorem dL_law_343 : decode cL_law 343 = .ok (.iaload, 1) := by decide +kernel
theorem dL_law_344 : decode cL_law 344 = .ok (.invokevirtual 56, 3) := by decide +kernel
theorem dL_law_347 : decode cL_law 347 = .ok (.aload_n 2, 1) := by decide +kernel
theorem dL_law_348 : decode cL_law 348 = .ok (.aload_n 0, 1) := by decide +kernel
theorem dL_law_349 : decode cL_law 349 = .ok (.iload_n 3, 1) := by decide +kernel
theorem dL_law_350 : decode cL_law 350 = .ok (.iconst 1, 1) := by decide +kernel
theorem dL_law_351 : decode cL_law 351 = .ok (.iadd, 1) := by decide +kernel
theorem dL_law_352 : decode cL_law 352 = .ok (.iaload, 1) := by decide +kernel
theorem dL_law_353 : decode cL_law 353 = .ok (.aload_n 0, 1) := by decide +kernel
theorem dL_law_354 : decode cL_law 354 = .ok (.iload_n 3, 1) := by decide +kernel
theorem dL_law_355 : decode cL_law 355 = .ok (.iconst 2, 1) := by decide +kernel
theorem dL_law_356 : decode cL_law 356 = .ok (.iadd, 1) := by decide +kernel
theorem dL_law_357 : decode cL_law 357 = .ok (.iaload, 1) := by decide +kernel
theorem dL_law_358 : decode cL_law 358 = .ok (.aload_n 0, 1) := by decide +kernel
theorem dL_law_359 : decode cL_law 359 = .ok (.iload_n 3, 1) := by decide +kernel
theorem dL_law_360 : decode cL_law 360 = .ok (.iconst 3, 1) := by decide +kernel
theorem dL_law_361 : decode cL_law 361 = .ok (.iadd, 1) := by decide +kernel
theorem dL_law_362 : decode cL_law 362 = .ok (.iaload, 1) := by decide +kernel
theorem dL_law_363 : decode cL_law 363 = .ok (.invokevirtual 60, 3) := by decide +kernel
theorem dL_law_366 : decode cL_law 366 = .ok (.if_icmp .eq 127, 3) := by decide +kernel
theorem dL_law_369 : decode cL_law 369 = .ok (.iconst 0, 1) := by decide +kernel
theorem dL_law_370 : decode cL_law 370 = .ok (.ireturn, 1) := by decide +kernel
theorem dL_law_371 : decode cL_law 371 = .ok (.aload_n 1, 1) := by decide +kernel
theorem dL_law_372 : decode cL_law 372 = .ok (.aload_n 0, 1) := by decide +kernel
theorem dL_law_373 : decode cL_law 373 = .ok (.iload_n 3, 1) := by decide +kernel
theorem dL_law_374 : decode cL_law 374 = .ok (.iconst 1, 1) := by decide +kernel
theorem dL_law_375 : decode cL_law 375 = .ok (.iadd, 1) := by decide +kernel
theorem dL_law_376 : decode cL_law 376 = .ok (.iaload, 1) := by decide +kernel
theorem dL_law_377 : decode cL_law 377 = .ok (.aload_n 0, 1) := by decide +kernel
theorem dL_law_378 : decode cL_law 378 = .ok (.iload_n 3, 1) := by decide +kernel
theorem dL_law_379 : decode cL_law 379 = .ok (.iconst 2, 1) := by decide +kernel
theorem dL_law_380 : decode cL_law 380 = .ok (.iadd, 1) := by decide +kernel
theorem dL_law_381 : decode cL_law 381 = .ok (.iaload, 1) := by decide +kernel
theorem dL_law_382 : decode cL_law 382 = .ok (.invokevirtual 61, 3) := by decide +kernel
theorem dL_law_385 : decode cL_law 385 = .ok (.aload_n 2, 1) := by decide +kernel
theorem dL_law_386 : decode cL_law 386 = .ok (.aload_n 0, 1) := by decide +kernel
theorem dL_law_387 : decode cL_law 387 = .ok (.iload_n 3, 1) := by decide +kernel
theorem dL_law_388 : decode cL_law 388 = .ok (.iconst 1, 1) := by decide +kernel
theorem dL_law_389 : decode cL_law 389 = .ok (.iadd, 1) := by decide +kernel
theorem dL_law_390 : decode cL_law 390 = .ok (.iaload, 1) := by decide +kernel
theorem dL_law_391 : decode cL_law 391 = .ok (.aload_n 0, 1) := by decide +kernel
theorem dL_law_392 : decode cL_law 392 = .ok (.iload_n 3, 1) := by decide +kernel
theorem dL_law_393 : decode cL_law 393 = .ok (.iconst 2, 1) := by decide +kernel
theorem dL_law_394 : decode cL_law 394 = .ok (.iadd, 1) := by decide +kernel
theorem dL_law_395 : decode cL_law 395 = .ok (.iaload, 1) := by decide +kernel
theorem dL_law_396 : decode cL_law 396 = .ok (.invokevirtual 64, 3) := by decide +kernel
theorem dL_law_399 : decode cL_law 399 = .ok (.if_icmp .eq 94, 3) := by decide +kernel
theorem dL_law_402 : decode cL_law 402 = .ok (.iconst 0, 1) := by decide +kernel
theorem dL_law_403 : decode cL_law 403 = .ok (.ireturn, 1) := by decide +kernel
theorem dL_law_404 : decode cL_law 404 = .ok (.aload_n 1, 1) := by decide +kernel
theorem dL_law_405 : decode cL_law 405 = .ok (.aload_n 0, 1) := by decide +kernel
theorem dL_law_406 : decode cL_law 406 = .ok (.iload_n 3, 1) := by decide +kernel
theorem dL_law_407 : decode cL_law 407 = .ok (.iconst 1, 1) := by decide +kernel
theorem dL_law_408 : decode cL_law 408 = .ok (.iadd, 1) := by decide +kernel
theorem dL_law_409 : decode cL_law 409 = .ok (.iaload, 1) := by decide +kernel
theorem dL_law_410 : decode cL_law 410 = .ok (.aload_n 0, 1) := by decide +kernel
theorem dL_law_411 : decode cL_law 411 = .ok (.iload_n 3, 1) := by decide +kernel
theorem dL_law_412 : decode cL_law 412 = .ok (.iconst 2, 1) := by decide +kernel
theorem dL_law_413 : decode cL_law 413 = .ok (.iadd, 1) := by decide +kernel
theorem dL_law_414 : decode cL_law 414 = .ok (.iaload, 1) := by decide +kernel
theorem dL_law_415 : decode cL_law 415 = .ok (.invokevirtual 65, 3) := by decide +kernel
theorem dL_law_418 : decode cL_law 418 = .ok (.aload_n 2, 1) := by decide +kernel
theorem dL_law_419 : decode cL_law 419 = .ok (.aload_n 0, 1) := by decide +kernel
theorem dL_law_420 : decode cL_law 420 = .ok (.iload_n 3, 1) := by decide +kernel
theorem dL_law_421 : decode cL_law 421 = .ok (.iconst 1, 1) := by decide +kernel
theorem dL_law_422 : decode cL_law 422 = .ok (.iadd, 1) := by decide +kernel
theorem dL_law_423 : decode cL_law 423 = .ok (.iaload, 1) := by decide +kernel
theorem dL_law_424 : decode cL_law 424 = .ok (.aload_n 0, 1) := by decide +kernel
theorem dL_law_425 : decode cL_law 425 = .ok (.iload_n 3, 1) := by decide +kernel
theorem dL_law_426 : decode cL_law 426 = .ok (.iconst 2, 1) := by decide +kernel
theorem dL_law_427 : decode cL_law 427 = .ok (.iadd, 1) := by decide +kernel
theorem dL_law_428 : decode cL_law 428 = .ok (.iaload, 1) := by decide +kernel
theorem dL_law_429 : decode cL_law 429 = .ok (.invokevirtual 68, 3) := by decide +kernel
theorem dL_law_432 : decode cL_law 432 = .ok (.if_icmp .eq 61, 3) := by decide +kernel
theorem dL_law_435 : decode cL_law 435 = .ok (.iconst 0, 1) := by decide +kernel
theorem dL_law_436 : decode cL_law 436 = .ok (.ireturn, 1) := by decide +kernel
theorem dL_law_437 : decode cL_law 437 = .ok (.aload_n 1, 1) := by decide +kernel
theorem dL_law_438 : decode cL_law 438 = .ok (.aload_n 0, 1) := by decide +kernel
theorem dL_law_439 : decode cL_law 439 = .ok (.iload_n 3, 1) := by decide +kernel
theorem dL_law_440 : decode cL_law 440 = .ok (.iconst 1, 1) := by decide +kernel
theorem dL_law_441 : decode cL_law 441 = .ok (.iadd, 1) := by decide +kernel
theorem dL_law_442 : decode cL_law 442 = .ok (.iaload, 1) := by decide +kernel
theorem dL_law_443 : decode cL_law 443 = .ok (.aload_n 0, 1) := by decide +kernel
theorem dL_law_444 : decode cL_law 444 = .ok (.iload_n 3, 1) := by decide +kernel
theorem dL_law_445 : decode cL_law 445 = .ok (.iconst 2, 1) := by decide +kernel
theorem dL_law_446 : decode cL_law 446 = .ok (.iadd, 1) := by decide +kernel
theorem dL_law_447 : decode cL_law 447 = .ok (.iaload, 1) := by decide +kernel
theorem dL_law_448 : decode cL_law 448 = .ok (.invokevirtual 69, 3) := by decide +kernel
theorem dL_law_451 : decode cL_law 451 = .ok (.aload_n 2, 1) := by decide +kernel
theorem dL_law_452 : decode cL_law 452 = .ok (.aload_n 0, 1) := by decide +kernel
theorem dL_law_453 : decode cL_law 453 = .ok (.iload_n 3, 1) := by decide +kernel
theorem dL_law_454 : decode cL_law 454 = .ok (.iconst 1, 1) := by decide +kernel
theorem dL_law_455 : decode cL_law 455 = .ok (.iadd, 1) := by decide +kernel
theorem dL_law_456 : decode cL_law 456 = .ok (.iaload, 1) := by decide +kernel
theorem dL_law_457 : decode cL_law 457 = .ok (.aload_n 0, 1) := by decide +kernel
theorem dL_law_458 : decode cL_law 458 = .ok (.iload_n 3, 1) := by decide +kernel
theorem dL_law_459 : decode cL_law 459 = .ok (.iconst 2, 1) := by decide +kernel
theorem dL_law_460 : decode cL_law 460 = .ok (.iadd, 1) := by decide +kernel
theorem dL_law_461 : decode cL_law 461 = .ok (.iaload, 1) := by decide +kernel
theorem dL_law_462 : decode cL_law 462 = .ok (.invokevirtual 72, 3) := by decide +kernel
theorem dL_law_465 : decode cL_law 465 = .ok (.if_icmp .eq 28, 3) := by decide +kernel
theorem dL_law_468 : decode cL_law 468 = .ok (.iconst 0, 1) := by decide +kernel
theorem dL_law_469 : decode cL_law 469 = .ok (.ireturn, 1) := by decide +kernel
theorem dL_law_470 : decode cL_law 470 = .ok (.aload_n 1, 1) := by decide +kernel
theorem dL_law_471 : decode cL_law 471 = .ok (.aload_n 0, 1) := by decide +kernel
theorem dL_law_472 : decode cL_law 472 = .ok (.iload_n 3, 1) := by decide +kernel
theorem dL_law_473 : decode cL_law 473 = .ok (.iconst 1, 1) := by decide +kernel
theorem dL_law_474 : decode cL_law 474 = .ok (.iadd, 1) := by decide +kernel
theorem dL_law_475 : decode cL_law 475 = .ok (.iaload, 1) := by decide +kernel
theorem dL_law_476 : decode cL_law 476 = .ok (.invokevirtual 73, 3) := by decide +kernel
theorem dL_law_479 : decode cL_law 479 = .ok (.aload_n 2, 1) := by decide +kernel
theorem dL_law_480 : decode cL_law 480 = .ok (.aload_n 0, 1) := by decide +kernel
theorem dL_law_481 : decode cL_law 481 = .ok (.iload_n 3, 1) := by decide +kernel
theorem dL_law_482 : decode cL_law 482 = .ok (.iconst 1, 1) := by decide +kernel
theorem dL_law_483 : decode cL_law 483 = .ok (.iadd, 1) := by decide +kernel
theorem dL_law_484 : decode cL_law 484 = .ok (.iaload, 1) := by decide +kernel
theorem dL_law_485 : decode cL_law 485 = .ok (.invokevirtual 76, 3) := by decide +kernel
theorem dL_law_488 : decode cL_law 488 = .ok (.if_icmp .eq 5, 3) := by decide +kernel
theorem dL_law_491 : decode cL_law 491 = .ok (.iconst 0, 1) := by decide +kernel
theorem dL_law_492 : decode cL_law 492 = .ok (.ireturn, 1) := by decide +kernel
theorem dL_law_493 : decode cL_law 493 = .ok (.iinc 3 4, 3) := by decide +kernel
theorem dL_law_496 : decode cL_law 496 = .ok (.goto (-478), 3) := by decide +kernel
theorem dL_law_499 : decode cL_law 499 = .ok (.iconst 1, 1) := by decide +kernel
theorem dL_law_500 : decode cL_law 500 = .ok (.ireturn, 1) := by decide +kernel
end
section
def sm_yn : Nat → MethodName
  | 0 => yX0_copyFrom
  | 1 => yX0_post
  | 2 => yX0_postCombined
  | 3 => yX0_countFor
  | 4 => yX0_gistFor
  | 5 => yX0_placeOfRank
  | 6 => yX0_countAhead
  | 7 => yX0_isAhead
  | 8 => yX0_countCross
  | 9 => yX1_reset
  | 10 => yX1_takePoints
  | 11 => yX1_takeLink
  | 12 => yX1_takeValue
  | 13 => yX1_takeTask
  | 14 => yX1_takeWorkers
  | 15 => yX1_takeCombined
  | 16 => yX1_canBeLaid
  | 17 => yX1_firstValue
  | 18 => yX1_linksOf
  | 19 => yX2_begin
  | 20 => yX2_copyFrom
  | 21 => yX2_isAwake
  | 22 => yX2_countAwake
  | 23 => yX2_totalValue
  | 24 => yX2_pointsOf
  | 25 => yX2_advance
  | 26 => yX2_noteLoads
  | 27 => yX2_workAll
  | 28 => yX2_deliver
  | 29 => yX2_workForBest
  | 30 => yX2_workForRank
  | 31 => yX2_sendAll
  | 32 => yX2_balance
  | 33 => yX2_heaviestBelow
  | 34 => yX3_append
  | 35 => yX3_firstFault
  | 36 => yX3_readItem
  | 37 => yX3_readNumbers
  | 38 => yX3_readNumber
  | 39 => yX3_isFigure
  | 40 => yX3_letterAt
  | 41 => yX4_write
  | 42 => yX4_wipe
  | 43 => yX4_fault
  | 44 => yX4_lay
  | 45 => yX4_step
  | 46 => yX4_value
  | 47 => yX4_move
  | 48 => yX4_combine
  | 49 => yX4_undo
  | 50 => yX4_point
  | 51 => yX4_letter
  | 52 => yX4_worker
  | 53 => yX4_sum
  | 54 => yX4_rest
  | 55 => yX4_count
  | 56 => yX4_isPoint
  | 57 => yX4_isWorker
  | 58 => yX4_isOver
  | 59 => yX4_layWhatWasRead
  | 60 => yX4_keepForUndo
  | 61 => yX4_dropOldest
  | 62 => yX4_advanceAtMost
  | 63 => yX4_rowOfStep
  | 64 => yX4_together
  | 65 => yX5_in
  | 66 => yX5_greater
  | 67 => yX5_lesser
  | 68 => yX5_write
  | 69 => yX5_wipe
  | 70 => yX5_begins
  | 71 => yX5_adds
  | 72 => yX5_isFigure
  | 73 => yX5_isSign
  | 74 => yX5_readsNumbers
  | 75 => yX5_isPoint
  | 76 => yX5_readsLink
  | 77 => yX5_readsPair
  | 78 => yX5_readsItem
  | 79 => yX5_reads
  | 80 => yX5_fault
  | 81 => yX5_lay
  | 82 => yX5_lays
  | 83 => yX5_of
  | 84 => yX5_put
  | 85 => yX5_letterOf
  | 86 => yX5_had
  | 87 => yX5_isAwake
  | 88 => yX5_awake
  | 89 => yX5_send
  | 90 => yX5_linksOf
  | 91 => yX5_sendAll
  | 92 => yX5_gathered
  | 93 => yX5_seeks
  | 94 => yX5_ranks
  | 95 => yX5_go
  | 96 => yX5_values
  | 97 => yX5_logs
  | 98 => yX5_findLoads
  | 99 => yX5_elsewhere
  | 100 => yX5_notes
  | 101 => yX5_isThere
  | 102 => yX5_isWorker
  | 103 => yX5_step
  | 104 => yX5_value
  | 105 => yX5_move
  | 106 => yX5_combine
  | 107 => yX5_undo
  | 108 => yX5_point
  | 109 => yX5_rankOf
  | 110 => yX5_letter
  | 111 => yX5_worker
  | 112 => yX5_sum
  | 113 => yX5_rest
  | 114 => yX5_count
  | 115 => yJ6_bitCount_0f7a4
  | 116 => yX4_init
  | 117 => yX5_init
  | _ => yX0_countFor
def sm_cd : Nat → ByteArray
  | 0 => cX0_copyFrom
  | 1 => cX0_post
  | 2 => cX0_postCombined
  | 3 => cX0_countFor
  | 4 => cX0_gistFor
  | 5 => cX0_placeOfRank
  | 6 => cX0_countAhead
  | 7 => cX0_isAhead
  | 8 => cX0_countCross
  | 9 => cX1_reset
  | 10 => cX1_takePoints
  | 11 => cX1_takeLink
  | 12 => cX1_takeValue
  | 13 => cX1_takeTask
  | 14 => cX1_takeWorkers
  | 15 => cX1_takeCombined
  | 16 => cX1_canBeLaid
  | 17 => cX1_firstValue
  | 18 => cX1_linksOf
  | 19 => cX2_begin
  | 20 => cX2_copyFrom
  | 21 => cX2_isAwake
  | 22 => cX2_countAwake
  | 23 => cX2_totalValue
  | 24 => cX2_pointsOf
  | 25 => cX2_advance
  | 26 => cX2_noteLoads
  | 27 => cX2_workAll
  | 28 => cX2_deliver
  | 29 => cX2_workForBest
  | 30 => cX2_workForRank
  | 31 => cX2_sendAll
  | 32 => cX2_balance
  | 33 => cX2_heaviestBelow
  | 34 => cX3_append
  | 35 => cX3_firstFault
  | 36 => cX3_readItem
  | 37 => cX3_readNumbers
  | 38 => cX3_readNumber
  | 39 => cX3_isFigure
  | 40 => cX3_letterAt
  | 41 => cX4_write
  | 42 => cX4_wipe
  | 43 => cX4_fault
  | 44 => cX4_lay
  | 45 => cX4_step
  | 46 => cX4_value
  | 47 => cX4_move
  | 48 => cX4_combine
  | 49 => cX4_undo
  | 50 => cX4_point
  | 51 => cX4_letter
  | 52 => cX4_worker
  | 53 => cX4_sum
  | 54 => cX4_rest
  | 55 => cX4_count
  | 56 => cX4_isPoint
  | 57 => cX4_isWorker
  | 58 => cX4_isOver
  | 59 => cX4_layWhatWasRead
  | 60 => cX4_keepForUndo
  | 61 => cX4_dropOldest
  | 62 => cX4_advanceAtMost
  | 63 => cX4_rowOfStep
  | 64 => cX4_together
  | 65 => cX5_in
  | 66 => cX5_greater
  | 67 => cX5_lesser
  | 68 => cX5_write
  | 69 => cX5_wipe
  | 70 => cX5_begins
  | 71 => cX5_adds
  | 72 => cX5_isFigure
  | 73 => cX5_isSign
  | 74 => cX5_readsNumbers
  | 75 => cX5_isPoint
  | 76 => cX5_readsLink
  | 77 => cX5_readsPair
  | 78 => cX5_readsItem
  | 79 => cX5_reads
  | 80 => cX5_fault
  | 81 => cX5_lay
  | 82 => cX5_lays
  | 83 => cX5_of
  | 84 => cX5_put
  | 85 => cX5_letterOf
  | 86 => cX5_had
  | 87 => cX5_isAwake
  | 88 => cX5_awake
  | 89 => cX5_send
  | 90 => cX5_linksOf
  | 91 => cX5_sendAll
  | 92 => cX5_gathered
  | 93 => cX5_seeks
  | 94 => cX5_ranks
  | 95 => cX5_go
  | 96 => cX5_values
  | 97 => cX5_logs
  | 98 => cX5_findLoads
  | 99 => cX5_elsewhere
  | 100 => cX5_notes
  | 101 => cX5_isThere
  | 102 => cX5_isWorker
  | 103 => cX5_step
  | 104 => cX5_value
  | 105 => cX5_move
  | 106 => cX5_combine
  | 107 => cX5_undo
  | 108 => cX5_point
  | 109 => cX5_rankOf
  | 110 => cX5_letter
  | 111 => cX5_worker
  | 112 => cX5_sum
  | 113 => cX5_rest
  | 114 => cX5_count
  | 115 => cJ6_bitCount_0f7a4
  | 116 => cX4_init
  | 117 => cX5_init
  | _ => cX0_countFor
def sm_ml : Nat → Nat
  | 0 => 2
  | 1 => 4
  | 2 => 6
  | 3 => 4
  | 4 => 6
  | 5 => 4
  | 6 => 4
  | 7 => 3
  | 8 => 4
  | 9 => 2
  | 10 => 2
  | 11 => 4
  | 12 => 3
  | 13 => 3
  | 14 => 3
  | 15 => 2
  | 16 => 1
  | 17 => 2
  | 18 => 4
  | 19 => 3
  | 20 => 2
  | 21 => 2
  | 22 => 4
  | 23 => 4
  | 24 => 5
  | 25 => 5
  | 26 => 3
  | 27 => 6
  | 28 => 2
  | 29 => 7
  | 30 => 4
  | 31 => 7
  | 32 => 6
  | 33 => 7
  | 34 => 2
  | 35 => 4
  | 36 => 3
  | 37 => 4
  | 38 => 3
  | 39 => 2
  | 40 => 2
  | 41 => 2
  | 42 => 2
  | 43 => 1
  | 44 => 1
  | 45 => 2
  | 46 => 4
  | 47 => 4
  | 48 => 2
  | 49 => 1
  | 50 => 3
  | 51 => 5
  | 52 => 3
  | 53 => 3
  | 54 => 4
  | 55 => 2
  | 56 => 2
  | 57 => 2
  | 58 => 2
  | 59 => 2
  | 60 => 1
  | 61 => 3
  | 62 => 4
  | 63 => 1
  | 64 => 3
  | 65 => 3
  | 66 => 2
  | 67 => 2
  | 68 => 2
  | 69 => 2
  | 70 => 2
  | 71 => 5
  | 72 => 1
  | 73 => 3
  | 74 => 6
  | 75 => 2
  | 76 => 1
  | 77 => 5
  | 78 => 3
  | 79 => 3
  | 80 => 1
  | 81 => 1
  | 82 => 3
  | 83 => 3
  | 84 => 4
  | 85 => 3
  | 86 => 4
  | 87 => 2
  | 88 => 3
  | 89 => 8
  | 90 => 4
  | 91 => 5
  | 92 => 6
  | 93 => 5
  | 94 => 5
  | 95 => 5
  | 96 => 3
  | 97 => 5
  | 98 => 2
  | 99 => 7
  | 100 => 2
  | 101 => 2
  | 102 => 2
  | 103 => 3
  | 104 => 4
  | 105 => 4
  | 106 => 2
  | 107 => 2
  | 108 => 3
  | 109 => 2
  | 110 => 7
  | 111 => 6
  | 112 => 3
  | 113 => 6
  | 114 => 2
  | 115 => 1
  | 116 => 2
  | 117 => 2
  | _ => 4
def sm_rt : Nat → Option FieldType
  | 0 => none
  | 1 => none
  | 2 => none
  | 3 => (some .int)
  | 4 => (some .int)
  | 5 => (some .int)
  | 6 => (some .int)
  | 7 => (some .boolean)
  | 8 => (some .int)
  | 9 => none
  | 10 => (some .boolean)
  | 11 => (some .boolean)
  | 12 => (some .boolean)
  | 13 => (some .boolean)
  | 14 => (some .boolean)
  | 15 => (some .boolean)
  | 16 => (some .boolean)
  | 17 => (some .int)
  | 18 => (some .int)
  | 19 => none
  | 20 => none
  | 21 => (some .boolean)
  | 22 => (some .int)
  | 23 => (some .int)
  | 24 => (some .int)
  | 25 => none
  | 26 => none
  | 27 => (some .int)
  | 28 => none
  | 29 => (some .int)
  | 30 => (some .int)
  | 31 => none
  | 32 => (some .int)
  | 33 => (some .int)
  | 34 => (some .boolean)
  | 35 => (some .int)
  | 36 => (some .boolean)
  | 37 => (some .boolean)
  | 38 => (some .int)
  | 39 => (some .boolean)
  | 40 => (some .int)
  | 41 => (some .int)
  | 42 => (some .int)
  | 43 => (some .int)
  | 44 => (some .int)
  | 45 => (some .int)
  | 46 => (some .int)
  | 47 => (some .int)
  | 48 => (some .int)
  | 49 => (some .int)
  | 50 => (some .int)
  | 51 => (some .int)
  | 52 => (some .int)
  | 53 => (some .int)
  | 54 => (some .int)
  | 55 => (some .int)
  | 56 => (some .boolean)
  | 57 => (some .boolean)
  | 58 => (some .boolean)
  | 59 => none
  | 60 => none
  | 61 => none
  | 62 => (some .int)
  | 63 => (some .int)
  | 64 => (some .int)
  | 65 => (some .boolean)
  | 66 => (some .int)
  | 67 => (some .int)
  | 68 => (some .int)
  | 69 => (some .int)
  | 70 => none
  | 71 => none
  | 72 => (some .boolean)
  | 73 => (some .boolean)
  | 74 => (some .boolean)
  | 75 => (some .boolean)
  | 76 => (some .boolean)
  | 77 => (some .boolean)
  | 78 => (some .boolean)
  | 79 => (some .int)
  | 80 => (some .int)
  | 81 => (some .int)
  | 82 => none
  | 83 => (some .int)
  | 84 => none
  | 85 => (some .int)
  | 86 => (some .int)
  | 87 => (some .boolean)
  | 88 => (some .int)
  | 89 => none
  | 90 => (some .int)
  | 91 => none
  | 92 => (some .int)
  | 93 => none
  | 94 => none
  | 95 => none
  | 96 => (some .int)
  | 97 => none
  | 98 => none
  | 99 => (some .int)
  | 100 => none
  | 101 => (some .boolean)
  | 102 => (some .boolean)
  | 103 => (some .int)
  | 104 => (some .int)
  | 105 => (some .int)
  | 106 => (some .int)
  | 107 => (some .int)
  | 108 => (some .int)
  | 109 => (some .int)
  | 110 => (some .int)
  | 111 => (some .int)
  | 112 => (some .int)
  | 113 => (some .int)
  | 114 => (some .int)
  | 115 => (some .int)
  | 116 => none
  | 117 => none
  | _ => some .int
def sm_cy : Nat → Nat
  | 0 => 0
  | 1 => 0
  | 2 => 0
  | 3 => 0
  | 4 => 0
  | 5 => 0
  | 6 => 0
  | 7 => 0
  | 8 => 0
  | 9 => 1
  | 10 => 1
  | 11 => 1
  | 12 => 1
  | 13 => 1
  | 14 => 1
  | 15 => 1
  | 16 => 1
  | 17 => 1
  | 18 => 1
  | 19 => 2
  | 20 => 2
  | 21 => 2
  | 22 => 2
  | 23 => 2
  | 24 => 2
  | 25 => 2
  | 26 => 2
  | 27 => 2
  | 28 => 2
  | 29 => 2
  | 30 => 2
  | 31 => 2
  | 32 => 2
  | 33 => 2
  | 34 => 3
  | 35 => 3
  | 36 => 3
  | 37 => 3
  | 38 => 3
  | 39 => 3
  | 40 => 3
  | 41 => 4
  | 42 => 4
  | 43 => 4
  | 44 => 4
  | 45 => 4
  | 46 => 4
  | 47 => 4
  | 48 => 4
  | 49 => 4
  | 50 => 4
  | 51 => 4
  | 52 => 4
  | 53 => 4
  | 54 => 4
  | 55 => 4
  | 56 => 4
  | 57 => 4
  | 58 => 4
  | 59 => 4
  | 60 => 4
  | 61 => 4
  | 62 => 4
  | 63 => 4
  | 64 => 4
  | 65 => 5
  | 66 => 5
  | 67 => 5
  | 68 => 5
  | 69 => 5
  | 70 => 5
  | 71 => 5
  | 72 => 5
  | 73 => 5
  | 74 => 5
  | 75 => 5
  | 76 => 5
  | 77 => 5
  | 78 => 5
  | 79 => 5
  | 80 => 5
  | 81 => 5
  | 82 => 5
  | 83 => 5
  | 84 => 5
  | 85 => 5
  | 86 => 5
  | 87 => 5
  | 88 => 5
  | 89 => 5
  | 90 => 5
  | 91 => 5
  | 92 => 5
  | 93 => 5
  | 94 => 5
  | 95 => 5
  | 96 => 5
  | 97 => 5
  | 98 => 5
  | 99 => 5
  | 100 => 5
  | 101 => 5
  | 102 => 5
  | 103 => 5
  | 104 => 5
  | 105 => 5
  | 106 => 5
  | 107 => 5
  | 108 => 5
  | 109 => 5
  | 110 => 5
  | 111 => 5
  | 112 => 5
  | 113 => 5
  | 114 => 5
  | 115 => 6
  | 116 => 4
  | 117 => 5
  | _ => 0
def sm_na : Nat → Nat
  | 0 => 2
  | 1 => 4
  | 2 => 5
  | 3 => 2
  | 4 => 3
  | 5 => 3
  | 6 => 2
  | 7 => 3
  | 8 => 2
  | 9 => 1
  | 10 => 2
  | 11 => 4
  | 12 => 3
  | 13 => 3
  | 14 => 3
  | 15 => 2
  | 16 => 1
  | 17 => 2
  | 18 => 2
  | 19 => 2
  | 20 => 2
  | 21 => 2
  | 22 => 2
  | 23 => 2
  | 24 => 3
  | 25 => 2
  | 26 => 2
  | 27 => 2
  | 28 => 1
  | 29 => 3
  | 30 => 3
  | 31 => 4
  | 32 => 2
  | 33 => 4
  | 34 => 2
  | 35 => 2
  | 36 => 2
  | 37 => 2
  | 38 => 1
  | 39 => 2
  | 40 => 2
  | 41 => 2
  | 42 => 1
  | 43 => 1
  | 44 => 1
  | 45 => 2
  | 46 => 3
  | 47 => 3
  | 48 => 2
  | 49 => 1
  | 50 => 3
  | 51 => 4
  | 52 => 3
  | 53 => 3
  | 54 => 3
  | 55 => 2
  | 56 => 2
  | 57 => 2
  | 58 => 2
  | 59 => 1
  | 60 => 1
  | 61 => 1
  | 62 => 3
  | 63 => 1
  | 64 => 3
  | 65 => 3
  | 66 => 2
  | 67 => 2
  | 68 => 2
  | 69 => 1
  | 70 => 1
  | 71 => 4
  | 72 => 1
  | 73 => 2
  | 74 => 2
  | 75 => 2
  | 76 => 1
  | 77 => 5
  | 78 => 3
  | 79 => 1
  | 80 => 1
  | 81 => 1
  | 82 => 1
  | 83 => 3
  | 84 => 4
  | 85 => 3
  | 86 => 2
  | 87 => 2
  | 88 => 1
  | 89 => 4
  | 90 => 2
  | 91 => 3
  | 92 => 2
  | 93 => 2
  | 94 => 2
  | 95 => 1
  | 96 => 1
  | 97 => 3
  | 98 => 1
  | 99 => 1
  | 100 => 1
  | 101 => 2
  | 102 => 2
  | 103 => 2
  | 104 => 3
  | 105 => 3
  | 106 => 2
  | 107 => 1
  | 108 => 3
  | 109 => 2
  | 110 => 4
  | 111 => 3
  | 112 => 3
  | 113 => 3
  | 114 => 2
  | 115 => 1
  | 116 => 1
  | 117 => 1
  | _ => 2
def sm_sta : Nat → Bool
  | 0 => false
  | 1 => false
  | 2 => false
  | 3 => false
  | 4 => false
  | 5 => false
  | 6 => false
  | 7 => false
  | 8 => false
  | 9 => false
  | 10 => false
  | 11 => false
  | 12 => false
  | 13 => false
  | 14 => false
  | 15 => false
  | 16 => false
  | 17 => false
  | 18 => false
  | 19 => false
  | 20 => false
  | 21 => false
  | 22 => false
  | 23 => false
  | 24 => false
  | 25 => false
  | 26 => false
  | 27 => false
  | 28 => false
  | 29 => false
  | 30 => false
  | 31 => false
  | 32 => false
  | 33 => false
  | 34 => false
  | 35 => false
  | 36 => false
  | 37 => false
  | 38 => false
  | 39 => false
  | 40 => false
  | 41 => false
  | 42 => false
  | 43 => false
  | 44 => false
  | 45 => false
  | 46 => false
  | 47 => false
  | 48 => false
  | 49 => false
  | 50 => false
  | 51 => false
  | 52 => false
  | 53 => false
  | 54 => false
  | 55 => false
  | 56 => false
  | 57 => false
  | 58 => false
  | 59 => false
  | 60 => false
  | 61 => false
  | 62 => false
  | 63 => true
  | 64 => true
  | 65 => true
  | 66 => true
  | 67 => true
  | 68 => false
  | 69 => false
  | 70 => false
  | 71 => false
  | 72 => false
  | 73 => false
  | 74 => false
  | 75 => false
  | 76 => false
  | 77 => false
  | 78 => false
  | 79 => false
  | 80 => false
  | 81 => false
  | 82 => false
  | 83 => false
  | 84 => false
  | 85 => false
  | 86 => false
  | 87 => false
  | 88 => false
  | 89 => false
  | 90 => false
  | 91 => false
  | 92 => false
  | 93 => false
  | 94 => false
  | 95 => false
  | 96 => false
  | 97 => false
  | 98 => false
  | 99 => false
  | 100 => false
  | 101 => false
  | 102 => false
  | 103 => false
  | 104 => false
  | 105 => false
  | 106 => false
  | 107 => false
  | 108 => false
  | 109 => false
  | 110 => false
  | 111 => false
  | 112 => false
  | 113 => false
  | 114 => false
  | 115 => true
  | 116 => false
  | 117 => false
  | _ => false
def sm_Rn : Nat → String
  | 0 => RX0
  | 1 => RX1
  | 2 => RX2
  | 3 => RX3
  | 4 => RX4
  | 5 => RX5
  | 6 => RJ6
  | _ => RX0
def sm_ft : List (Nat × Nat × Nat × Nat) := [(0, 9, 0, 1), (0, 15, 0, 2), (0, 18, 0, 3), (0, 21, 0, 0), (1, 9, 1, 8), (1, 15, 1, 9), (1, 18, 1, 10), (1, 21, 1, 11), (1, 24, 1, 0), (1, 28, 1, 1), (1, 31, 1, 2), (1, 34, 1, 3), (1, 37, 1, 4), (1, 40, 1, 5), (1, 43, 1, 6), (1, 46, 1, 7), (2, 9, 2, 0), (2, 15, 2, 1), (2, 18, 2, 2), (2, 21, 2, 3), (2, 24, 2, 4), (2, 27, 2, 5), (2, 30, 2, 6), (2, 36, 2, 7), (2, 40, 2, 8), (2, 49, 1, 4), (2, 62, 0, 0), (2, 65, 2, 9), (2, 68, 2, 10), (2, 71, 2, 11), (2, 74, 1, 6), (2, 77, 2, 12), (2, 95, 1, 0), (2, 125, 1, 2), (2, 149, 1, 3), (2, 155, 1, 1), (2, 158, 1, 8), (2, 161, 1, 10), (2, 164, 1, 9), (2, 175, 1, 5), (3, 9, 3, 0), (3, 15, 3, 3), (3, 18, 3, 1), (3, 27, 3, 2), (4, 10, 4, 0), (4, 19, 4, 1), (4, 23, 4, 2), (4, 29, 4, 3), (4, 33, 4, 4), (4, 36, 4, 5), (4, 63, 3, 1), (4, 70, 1, 0), (4, 87, 2, 0), (4, 91, 2, 2), (4, 94, 2, 3), (4, 100, 2, 1), (4, 103, 2, 12), (4, 106, 2, 7), (4, 110, 0, 0), (4, 115, 4, 6), (4, 132, 2, 4), (4, 139, 0, 2), (4, 142, 0, 3), (4, 153, 2, 5), (4, 156, 2, 9), (4, 159, 2, 6), (4, 165, 2, 10), (4, 171, 1, 1), (4, 174, 1, 4), (4, 177, 1, 2), (4, 183, 2, 11), (5, 7, 5, 0), (5, 13, 5, 1), (5, 16, 5, 2), (5, 19, 5, 4), (5, 22, 5, 7), (5, 25, 5, 8), (5, 28, 5, 10), (5, 32, 5, 11), (5, 49, 5, 5), (5, 53, 5, 6), (5, 85, 5, 3), (5, 102, 5, 9)]
def sm_ct : List (Nat × Nat × Nat × Nat) := [(0, 31, 64, 2), (0, 35, 1, 0), (0, 39, 6, 0), (0, 43, 7, 0), (2, 43, 17, 0), (2, 84, 0, 0), (2, 88, 3, 0), (2, 91, 21, 0), (2, 98, 26, 0), (2, 102, 22, 0), (2, 105, 27, 0), (2, 109, 28, 0), (2, 112, 63, 2), (2, 115, 8, 0), (2, 119, 23, 0), (2, 122, 32, 0), (2, 128, 30, 0), (2, 132, 29, 0), (2, 135, 31, 0), (2, 139, 4, 0), (2, 142, 64, 2), (2, 152, 18, 0), (2, 167, 2, 0), (2, 171, 1, 0), (2, 178, 33, 0), (3, 22, 9, 0), (3, 30, 36, 0), (3, 34, 40, 0), (3, 38, 37, 0), (3, 42, 10, 0), (3, 45, 11, 0), (3, 49, 12, 0), (3, 53, 13, 0), (3, 56, 14, 0), (3, 59, 15, 0), (3, 62, 38, 0), (3, 66, 39, 0), (4, 52, 34, 0), (4, 56, 35, 0), (4, 60, 59, 0), (4, 66, 16, 0), (4, 73, 58, 0), (4, 77, 60, 0), (4, 80, 62, 0), (4, 84, 56, 0), (4, 97, 57, 0), (4, 118, 20, 0), (4, 122, 3, 0), (4, 126, 21, 0), (4, 129, 18, 0), (4, 135, 5, 0), (4, 145, 24, 0), (4, 148, 115, 1), (4, 162, 63, 1), (4, 168, 23, 0), (4, 180, 22, 0), (4, 186, 19, 0), (4, 190, 61, 0), (4, 193, 25, 0), (5, 35, 70, 0), (5, 38, 71, 0), (5, 42, 82, 0), (5, 45, 65, 1), (5, 56, 73, 0), (5, 60, 72, 0), (5, 64, 74, 0), (5, 67, 75, 0), (5, 70, 76, 0), (5, 73, 77, 0), (5, 77, 78, 0), (5, 81, 79, 0), (5, 88, 85, 0), (5, 92, 83, 0), (5, 95, 86, 0), (5, 99, 87, 0), (5, 105, 66, 1), (5, 108, 67, 1), (5, 111, 89, 0), (5, 114, 92, 0), (5, 117, 84, 0), (5, 120, 91, 0), (5, 124, 90, 0), (5, 127, 94, 0), (5, 131, 93, 0), (5, 134, 97, 0), (5, 137, 98, 0), (5, 140, 99, 0), (5, 143, 96, 0), (5, 146, 88, 0), (5, 149, 100, 0), (5, 152, 95, 0), (5, 155, 101, 0), (5, 158, 102, 0), (5, 161, 109, 0)]
def sm_nt : List (Nat × Nat × Nat) := [(0, 25, 0), (2, 53, 1), (2, 59, 3), (2, 78, 0), (2, 146, 2), (4, 196, 3)]
def sm_kt : List (Nat × Nat × Int32) := [(6, 265, 1431655765), (6, 266, 858993459), (6, 267, 252645135)]
end
section
/-! FACTS of the tables, by their places -/
def sm_gw : List Cond := lw_tbl.filter goodWord
theorem sm_mem {w : Cond} (i : Nat) (h : tables_1[i]? = some w) (g : goodWord w = true) : w ∈ sm_gw := List.mem_filter.mpr ⟨List.mem_append_right _ (List.mem_of_getElem? h), g⟩
theorem sm_memP {w : Cond} (i : Nat) (h : (k2_sels lw_privs)[i]? = some w) (g : goodWord w = true) : w ∈ sm_gw := List.mem_filter.mpr ⟨List.mem_append_left _ (List.mem_of_getElem? h), g⟩
theorem sm_gw_tbl {args : Array Value} {s : State} (h : ∀ w ∈ lw_tbl, w.before args s = true) : ∀ w ∈ sm_gw, w.before args s = true := fun w hw => h w (List.mem_filter.mp hw).1
def sm_ws (y : Nat) : List Cond := Cond.code (sm_yn y) (sm_cd y) (sm_ml y) (sm_rt y) :: sm_gw
def sm_T : Nat → u_T
  | 0 => TX0
  | 1 => TX1
  | 2 => TX2
  | 3 => TX3
  | 4 => TX4
  | _ => TX5
def sm_ty : Nat → Nat → FieldType
  | 0 => tyX0
  | 1 => tyX1
  | 2 => tyX2
  | 3 => tyX3
  | 4 => tyX4
  | _ => tyX5
def sm_Nf : Nat → Nat
  | 0 => 4
  | 1 => 12
  | 2 => 13
  | 3 => 4
  | 4 => 7
  | _ => 12
def sm_nm : Nat := 116
theorem sm_k0 : Cond.code (sm_yn 0) (sm_cd 0) (sm_ml 0) (sm_rt 0) ∈ sm_gw := sm_mem 386 (by decide +kernel) (by decide +kernel)
theorem sm_k1 : Cond.code (sm_yn 1) (sm_cd 1) (sm_ml 1) (sm_rt 1) ∈ sm_gw := sm_mem 439 (by decide +kernel) (by decide +kernel)
theorem sm_k2 : Cond.code (sm_yn 2) (sm_cd 2) (sm_ml 2) (sm_rt 2) ∈ sm_gw := sm_mem 435 (by decide +kernel) (by decide +kernel)
theorem sm_k3 : Cond.code (sm_yn 3) (sm_cd 3) (sm_ml 3) (sm_rt 3) ∈ sm_gw := sm_mem 367 (by decide +kernel) (by decide +kernel)
theorem sm_k4 : Cond.code (sm_yn 4) (sm_cd 4) (sm_ml 4) (sm_rt 4) ∈ sm_gw := sm_mem 412 (by decide +kernel) (by decide +kernel)
theorem sm_k5 : Cond.code (sm_yn 5) (sm_cd 5) (sm_ml 5) (sm_rt 5) ∈ sm_gw := sm_mem 503 (by decide +kernel) (by decide +kernel)
theorem sm_k6 : Cond.code (sm_yn 6) (sm_cd 6) (sm_ml 6) (sm_rt 6) ∈ sm_gw := sm_mem 507 (by decide +kernel) (by decide +kernel)
theorem sm_k7 : Cond.code (sm_yn 7) (sm_cd 7) (sm_ml 7) (sm_rt 7) ∈ sm_gw := sm_mem 511 (by decide +kernel) (by decide +kernel)
theorem sm_k8 : Cond.code (sm_yn 8) (sm_cd 8) (sm_ml 8) (sm_rt 8) ∈ sm_gw := sm_mem 452 (by decide +kernel) (by decide +kernel)
theorem sm_k9 : Cond.code (sm_yn 9) (sm_cd 9) (sm_ml 9) (sm_rt 9) ∈ sm_gw := sm_mem 242 (by decide +kernel) (by decide +kernel)
theorem sm_k10 : Cond.code (sm_yn 10) (sm_cd 10) (sm_ml 10) (sm_rt 10) ∈ sm_gw := sm_mem 266 (by decide +kernel) (by decide +kernel)
theorem sm_k11 : Cond.code (sm_yn 11) (sm_cd 11) (sm_ml 11) (sm_rt 11) ∈ sm_gw := sm_mem 270 (by decide +kernel) (by decide +kernel)
theorem sm_k12 : Cond.code (sm_yn 12) (sm_cd 12) (sm_ml 12) (sm_rt 12) ∈ sm_gw := sm_mem 274 (by decide +kernel) (by decide +kernel)
theorem sm_k13 : Cond.code (sm_yn 13) (sm_cd 13) (sm_ml 13) (sm_rt 13) ∈ sm_gw := sm_mem 278 (by decide +kernel) (by decide +kernel)
theorem sm_k14 : Cond.code (sm_yn 14) (sm_cd 14) (sm_ml 14) (sm_rt 14) ∈ sm_gw := sm_mem 282 (by decide +kernel) (by decide +kernel)
theorem sm_k15 : Cond.code (sm_yn 15) (sm_cd 15) (sm_ml 15) (sm_rt 15) ∈ sm_gw := sm_mem 286 (by decide +kernel) (by decide +kernel)
theorem sm_k16 : Cond.code (sm_yn 16) (sm_cd 16) (sm_ml 16) (sm_rt 16) ∈ sm_gw := sm_mem 347 (by decide +kernel) (by decide +kernel)
theorem sm_k17 : Cond.code (sm_yn 17) (sm_cd 17) (sm_ml 17) (sm_rt 17) ∈ sm_gw := sm_mem 298 (by decide +kernel) (by decide +kernel)
theorem sm_k18 : Cond.code (sm_yn 18) (sm_cd 18) (sm_ml 18) (sm_rt 18) ∈ sm_gw := sm_mem 422 (by decide +kernel) (by decide +kernel)
theorem sm_k19 : Cond.code (sm_yn 19) (sm_cd 19) (sm_ml 19) (sm_rt 19) ∈ sm_gw := sm_mem 294 (by decide +kernel) (by decide +kernel)
theorem sm_k20 : Cond.code (sm_yn 20) (sm_cd 20) (sm_ml 20) (sm_rt 20) ∈ sm_gw := sm_mem 379 (by decide +kernel) (by decide +kernel)
theorem sm_k21 : Cond.code (sm_yn 21) (sm_cd 21) (sm_ml 21) (sm_rt 21) ∈ sm_gw := sm_mem 363 (by decide +kernel) (by decide +kernel)
theorem sm_k22 : Cond.code (sm_yn 22) (sm_cd 22) (sm_ml 22) (sm_rt 22) ∈ sm_gw := sm_mem 359 (by decide +kernel) (by decide +kernel)
theorem sm_k23 : Cond.code (sm_yn 23) (sm_cd 23) (sm_ml 23) (sm_rt 23) ∈ sm_gw := sm_mem 456 (by decide +kernel) (by decide +kernel)
theorem sm_k24 : Cond.code (sm_yn 24) (sm_cd 24) (sm_ml 24) (sm_rt 24) ∈ sm_gw := sm_mem 519 (by decide +kernel) (by decide +kernel)
theorem sm_k25 : Cond.code (sm_yn 25) (sm_cd 25) (sm_ml 25) (sm_rt 25) ∈ sm_gw := sm_mem 395 (by decide +kernel) (by decide +kernel)
theorem sm_k26 : Cond.code (sm_yn 26) (sm_cd 26) (sm_ml 26) (sm_rt 26) ∈ sm_gw := sm_mem 399 (by decide +kernel) (by decide +kernel)
theorem sm_k27 : Cond.code (sm_yn 27) (sm_cd 27) (sm_ml 27) (sm_rt 27) ∈ sm_gw := sm_mem 404 (by decide +kernel) (by decide +kernel)
theorem sm_k28 : Cond.code (sm_yn 28) (sm_cd 28) (sm_ml 28) (sm_rt 28) ∈ sm_gw := sm_mem 444 (by decide +kernel) (by decide +kernel)
theorem sm_k29 : Cond.code (sm_yn 29) (sm_cd 29) (sm_ml 29) (sm_rt 29) ∈ sm_gw := sm_mem 426 (by decide +kernel) (by decide +kernel)
theorem sm_k30 : Cond.code (sm_yn 30) (sm_cd 30) (sm_ml 30) (sm_rt 30) ∈ sm_gw := sm_mem 408 (by decide +kernel) (by decide +kernel)
theorem sm_k31 : Cond.code (sm_yn 31) (sm_cd 31) (sm_ml 31) (sm_rt 31) ∈ sm_gw := sm_mem 431 (by decide +kernel) (by decide +kernel)
theorem sm_k32 : Cond.code (sm_yn 32) (sm_cd 32) (sm_ml 32) (sm_rt 32) ∈ sm_gw := sm_mem 460 (by decide +kernel) (by decide +kernel)
theorem sm_k33 : Cond.code (sm_yn 33) (sm_cd 33) (sm_ml 33) (sm_rt 33) ∈ sm_gw := sm_mem 464 (by decide +kernel) (by decide +kernel)
theorem sm_k34 : Cond.code (sm_yn 34) (sm_cd 34) (sm_ml 34) (sm_rt 34) ∈ sm_gw := sm_mem 234 (by decide +kernel) (by decide +kernel)
theorem sm_k35 : Cond.code (sm_yn 35) (sm_cd 35) (sm_ml 35) (sm_rt 35) ∈ sm_gw := sm_mem 238 (by decide +kernel) (by decide +kernel)
theorem sm_k36 : Cond.code (sm_yn 36) (sm_cd 36) (sm_ml 36) (sm_rt 36) ∈ sm_gw := sm_mem 246 (by decide +kernel) (by decide +kernel)
theorem sm_k37 : Cond.code (sm_yn 37) (sm_cd 37) (sm_ml 37) (sm_rt 37) ∈ sm_gw := sm_mem 254 (by decide +kernel) (by decide +kernel)
theorem sm_k38 : Cond.code (sm_yn 38) (sm_cd 38) (sm_ml 38) (sm_rt 38) ∈ sm_gw := sm_mem 258 (by decide +kernel) (by decide +kernel)
theorem sm_k39 : Cond.code (sm_yn 39) (sm_cd 39) (sm_ml 39) (sm_rt 39) ∈ sm_gw := sm_mem 262 (by decide +kernel) (by decide +kernel)
theorem sm_k40 : Cond.code (sm_yn 40) (sm_cd 40) (sm_ml 40) (sm_rt 40) ∈ sm_gw := sm_mem 250 (by decide +kernel) (by decide +kernel)
theorem sm_k41 : Cond.code (sm_yn 41) (sm_cd 41) (sm_ml 41) (sm_rt 41) ∈ sm_gw := sm_mem 331 (by decide +kernel) (by decide +kernel)
theorem sm_k42 : Cond.code (sm_yn 42) (sm_cd 42) (sm_ml 42) (sm_rt 42) ∈ sm_gw := sm_mem 335 (by decide +kernel) (by decide +kernel)
theorem sm_k43 : Cond.code (sm_yn 43) (sm_cd 43) (sm_ml 43) (sm_rt 43) ∈ sm_gw := sm_mem 339 (by decide +kernel) (by decide +kernel)
theorem sm_k44 : Cond.code (sm_yn 44) (sm_cd 44) (sm_ml 44) (sm_rt 44) ∈ sm_gw := sm_mem 343 (by decide +kernel) (by decide +kernel)
theorem sm_k45 : Cond.code (sm_yn 45) (sm_cd 45) (sm_ml 45) (sm_rt 45) ∈ sm_gw := sm_mem 351 (by decide +kernel) (by decide +kernel)
theorem sm_k46 : Cond.code (sm_yn 46) (sm_cd 46) (sm_ml 46) (sm_rt 46) ∈ sm_gw := sm_mem 468 (by decide +kernel) (by decide +kernel)
theorem sm_k47 : Cond.code (sm_yn 47) (sm_cd 47) (sm_ml 47) (sm_rt 47) ∈ sm_gw := sm_mem 476 (by decide +kernel) (by decide +kernel)
theorem sm_k48 : Cond.code (sm_yn 48) (sm_cd 48) (sm_ml 48) (sm_rt 48) ∈ sm_gw := sm_mem 484 (by decide +kernel) (by decide +kernel)
theorem sm_k49 : Cond.code (sm_yn 49) (sm_cd 49) (sm_ml 49) (sm_rt 49) ∈ sm_gw := sm_mem 488 (by decide +kernel) (by decide +kernel)
theorem sm_k50 : Cond.code (sm_yn 50) (sm_cd 50) (sm_ml 50) (sm_rt 50) ∈ sm_gw := sm_mem 492 (by decide +kernel) (by decide +kernel)
theorem sm_k51 : Cond.code (sm_yn 51) (sm_cd 51) (sm_ml 51) (sm_rt 51) ∈ sm_gw := sm_mem 499 (by decide +kernel) (by decide +kernel)
theorem sm_k52 : Cond.code (sm_yn 52) (sm_cd 52) (sm_ml 52) (sm_rt 52) ∈ sm_gw := sm_mem 515 (by decide +kernel) (by decide +kernel)
theorem sm_k53 : Cond.code (sm_yn 53) (sm_cd 53) (sm_ml 53) (sm_rt 53) ∈ sm_gw := sm_mem 529 (by decide +kernel) (by decide +kernel)
theorem sm_k54 : Cond.code (sm_yn 54) (sm_cd 54) (sm_ml 54) (sm_rt 54) ∈ sm_gw := sm_mem 534 (by decide +kernel) (by decide +kernel)
theorem sm_k55 : Cond.code (sm_yn 55) (sm_cd 55) (sm_ml 55) (sm_rt 55) ∈ sm_gw := sm_mem 539 (by decide +kernel) (by decide +kernel)
theorem sm_k56 : Cond.code (sm_yn 56) (sm_cd 56) (sm_ml 56) (sm_rt 56) ∈ sm_gw := sm_mem 472 (by decide +kernel) (by decide +kernel)
theorem sm_k57 : Cond.code (sm_yn 57) (sm_cd 57) (sm_ml 57) (sm_rt 57) ∈ sm_gw := sm_mem 480 (by decide +kernel) (by decide +kernel)
theorem sm_k58 : Cond.code (sm_yn 58) (sm_cd 58) (sm_ml 58) (sm_rt 58) ∈ sm_gw := sm_mem 355 (by decide +kernel) (by decide +kernel)
theorem sm_k59 : Cond.code (sm_yn 59) (sm_cd 59) (sm_ml 59) (sm_rt 59) ∈ sm_gw := sm_mem 290 (by decide +kernel) (by decide +kernel)
theorem sm_k60 : Cond.code (sm_yn 60) (sm_cd 60) (sm_ml 60) (sm_rt 60) ∈ sm_gw := sm_mem 371 (by decide +kernel) (by decide +kernel)
theorem sm_k61 : Cond.code (sm_yn 61) (sm_cd 61) (sm_ml 61) (sm_rt 61) ∈ sm_gw := sm_mem 375 (by decide +kernel) (by decide +kernel)
theorem sm_k62 : Cond.code (sm_yn 62) (sm_cd 62) (sm_ml 62) (sm_rt 62) ∈ sm_gw := sm_mem 391 (by decide +kernel) (by decide +kernel)
theorem sm_k63 : Cond.code (sm_yn 63) (sm_cd 63) (sm_ml 63) (sm_rt 63) ∈ sm_gw := sm_mem 447 (by decide +kernel) (by decide +kernel)
theorem sm_k64 : Cond.code (sm_yn 64) (sm_cd 64) (sm_ml 64) (sm_rt 64) ∈ sm_gw := sm_mem 415 (by decide +kernel) (by decide +kernel)
theorem sm_k65 : Cond.code (sm_yn 65) (sm_cd 65) (sm_ml 65) (sm_rt 65) ∈ sm_gw := sm_mem 602 (by decide +kernel) (by decide +kernel)
theorem sm_k66 : Cond.code (sm_yn 66) (sm_cd 66) (sm_ml 66) (sm_rt 66) ∈ sm_gw := sm_mem 693 (by decide +kernel) (by decide +kernel)
theorem sm_k67 : Cond.code (sm_yn 67) (sm_cd 67) (sm_ml 67) (sm_rt 67) ∈ sm_gw := sm_mem 696 (by decide +kernel) (by decide +kernel)
theorem sm_k68 : Cond.code (sm_yn 68) (sm_cd 68) (sm_ml 68) (sm_rt 68) ∈ sm_gw := sm_mem 599 (by decide +kernel) (by decide +kernel)
theorem sm_k69 : Cond.code (sm_yn 69) (sm_cd 69) (sm_ml 69) (sm_rt 69) ∈ sm_gw := sm_mem 606 (by decide +kernel) (by decide +kernel)
theorem sm_k70 : Cond.code (sm_yn 70) (sm_cd 70) (sm_ml 70) (sm_rt 70) ∈ sm_gw := sm_mem 549 (by decide +kernel) (by decide +kernel)
theorem sm_k71 : Cond.code (sm_yn 71) (sm_cd 71) (sm_ml 71) (sm_rt 71) ∈ sm_gw := sm_mem 553 (by decide +kernel) (by decide +kernel)
theorem sm_k72 : Cond.code (sm_yn 72) (sm_cd 72) (sm_ml 72) (sm_rt 72) ∈ sm_gw := sm_mem 630 (by decide +kernel) (by decide +kernel)
theorem sm_k73 : Cond.code (sm_yn 73) (sm_cd 73) (sm_ml 73) (sm_rt 73) ∈ sm_gw := sm_mem 626 (by decide +kernel) (by decide +kernel)
theorem sm_k74 : Cond.code (sm_yn 74) (sm_cd 74) (sm_ml 74) (sm_rt 74) ∈ sm_gw := sm_mem 622 (by decide +kernel) (by decide +kernel)
theorem sm_k75 : Cond.code (sm_yn 75) (sm_cd 75) (sm_ml 75) (sm_rt 75) ∈ sm_gw := sm_mem 638 (by decide +kernel) (by decide +kernel)
theorem sm_k76 : Cond.code (sm_yn 76) (sm_cd 76) (sm_ml 76) (sm_rt 76) ∈ sm_gw := sm_mem 634 (by decide +kernel) (by decide +kernel)
theorem sm_k77 : Cond.code (sm_yn 77) (sm_cd 77) (sm_ml 77) (sm_rt 77) ∈ sm_gw := sm_mem 642 (by decide +kernel) (by decide +kernel)
theorem sm_k78 : Cond.code (sm_yn 78) (sm_cd 78) (sm_ml 78) (sm_rt 78) ∈ sm_gw := sm_mem 618 (by decide +kernel) (by decide +kernel)
theorem sm_k79 : Cond.code (sm_yn 79) (sm_cd 79) (sm_ml 79) (sm_rt 79) ∈ sm_gw := sm_mem 614 (by decide +kernel) (by decide +kernel)
theorem sm_k80 : Cond.code (sm_yn 80) (sm_cd 80) (sm_ml 80) (sm_rt 80) ∈ sm_gw := sm_mem 610 (by decide +kernel) (by decide +kernel)
theorem sm_k81 : Cond.code (sm_yn 81) (sm_cd 81) (sm_ml 81) (sm_rt 81) ∈ sm_gw := sm_mem 646 (by decide +kernel) (by decide +kernel)
theorem sm_k82 : Cond.code (sm_yn 82) (sm_cd 82) (sm_ml 82) (sm_rt 82) ∈ sm_gw := sm_mem 557 (by decide +kernel) (by decide +kernel)
theorem sm_k83 : Cond.code (sm_yn 83) (sm_cd 83) (sm_ml 83) (sm_rt 83) ∈ sm_gw := sm_mem 662 (by decide +kernel) (by decide +kernel)
theorem sm_k84 : Cond.code (sm_yn 84) (sm_cd 84) (sm_ml 84) (sm_rt 84) ∈ sm_gw := sm_mem 682 (by decide +kernel) (by decide +kernel)
theorem sm_k85 : Cond.code (sm_yn 85) (sm_cd 85) (sm_ml 85) (sm_rt 85) ∈ sm_gw := sm_mem 670 (by decide +kernel) (by decide +kernel)
theorem sm_k86 : Cond.code (sm_yn 86) (sm_cd 86) (sm_ml 86) (sm_rt 86) ∈ sm_gw := sm_mem 666 (by decide +kernel) (by decide +kernel)
theorem sm_k87 : Cond.code (sm_yn 87) (sm_cd 87) (sm_ml 87) (sm_rt 87) ∈ sm_gw := sm_mem 658 (by decide +kernel) (by decide +kernel)
theorem sm_k88 : Cond.code (sm_yn 88) (sm_cd 88) (sm_ml 88) (sm_rt 88) ∈ sm_gw := sm_mem 654 (by decide +kernel) (by decide +kernel)
theorem sm_k89 : Cond.code (sm_yn 89) (sm_cd 89) (sm_ml 89) (sm_rt 89) ∈ sm_gw := sm_mem 708 (by decide +kernel) (by decide +kernel)
theorem sm_k90 : Cond.code (sm_yn 90) (sm_cd 90) (sm_ml 90) (sm_rt 90) ∈ sm_gw := sm_mem 700 (by decide +kernel) (by decide +kernel)
theorem sm_k91 : Cond.code (sm_yn 91) (sm_cd 91) (sm_ml 91) (sm_rt 91) ∈ sm_gw := sm_mem 704 (by decide +kernel) (by decide +kernel)
theorem sm_k92 : Cond.code (sm_yn 92) (sm_cd 92) (sm_ml 92) (sm_rt 92) ∈ sm_gw := sm_mem 690 (by decide +kernel) (by decide +kernel)
theorem sm_k93 : Cond.code (sm_yn 93) (sm_cd 93) (sm_ml 93) (sm_rt 93) ∈ sm_gw := sm_mem 712 (by decide +kernel) (by decide +kernel)
theorem sm_k94 : Cond.code (sm_yn 94) (sm_cd 94) (sm_ml 94) (sm_rt 94) ∈ sm_gw := sm_mem 686 (by decide +kernel) (by decide +kernel)
theorem sm_k95 : Cond.code (sm_yn 95) (sm_cd 95) (sm_ml 95) (sm_rt 95) ∈ sm_gw := sm_mem 678 (by decide +kernel) (by decide +kernel)
theorem sm_k96 : Cond.code (sm_yn 96) (sm_cd 96) (sm_ml 96) (sm_rt 96) ∈ sm_gw := sm_mem 720 (by decide +kernel) (by decide +kernel)
theorem sm_k97 : Cond.code (sm_yn 97) (sm_cd 97) (sm_ml 97) (sm_rt 97) ∈ sm_gw := sm_mem 716 (by decide +kernel) (by decide +kernel)
theorem sm_k98 : Cond.code (sm_yn 98) (sm_cd 98) (sm_ml 98) (sm_rt 98) ∈ sm_gw := sm_mem 724 (by decide +kernel) (by decide +kernel)
theorem sm_k99 : Cond.code (sm_yn 99) (sm_cd 99) (sm_ml 99) (sm_rt 99) ∈ sm_gw := sm_mem 728 (by decide +kernel) (by decide +kernel)
theorem sm_k100 : Cond.code (sm_yn 100) (sm_cd 100) (sm_ml 100) (sm_rt 100) ∈ sm_gw := sm_mem 674 (by decide +kernel) (by decide +kernel)
theorem sm_k101 : Cond.code (sm_yn 101) (sm_cd 101) (sm_ml 101) (sm_rt 101) ∈ sm_gw := sm_mem 736 (by decide +kernel) (by decide +kernel)
theorem sm_k102 : Cond.code (sm_yn 102) (sm_cd 102) (sm_ml 102) (sm_rt 102) ∈ sm_gw := sm_mem 744 (by decide +kernel) (by decide +kernel)
theorem sm_k103 : Cond.code (sm_yn 103) (sm_cd 103) (sm_ml 103) (sm_rt 103) ∈ sm_gw := sm_mem 650 (by decide +kernel) (by decide +kernel)
theorem sm_k104 : Cond.code (sm_yn 104) (sm_cd 104) (sm_ml 104) (sm_rt 104) ∈ sm_gw := sm_mem 732 (by decide +kernel) (by decide +kernel)
theorem sm_k105 : Cond.code (sm_yn 105) (sm_cd 105) (sm_ml 105) (sm_rt 105) ∈ sm_gw := sm_mem 740 (by decide +kernel) (by decide +kernel)
theorem sm_k106 : Cond.code (sm_yn 106) (sm_cd 106) (sm_ml 106) (sm_rt 106) ∈ sm_gw := sm_mem 748 (by decide +kernel) (by decide +kernel)
theorem sm_k107 : Cond.code (sm_yn 107) (sm_cd 107) (sm_ml 107) (sm_rt 107) ∈ sm_gw := sm_mem 752 (by decide +kernel) (by decide +kernel)
theorem sm_k108 : Cond.code (sm_yn 108) (sm_cd 108) (sm_ml 108) (sm_rt 108) ∈ sm_gw := sm_mem 756 (by decide +kernel) (by decide +kernel)
theorem sm_k109 : Cond.code (sm_yn 109) (sm_cd 109) (sm_ml 109) (sm_rt 109) ∈ sm_gw := sm_mem 764 (by decide +kernel) (by decide +kernel)
theorem sm_k110 : Cond.code (sm_yn 110) (sm_cd 110) (sm_ml 110) (sm_rt 110) ∈ sm_gw := sm_mem 760 (by decide +kernel) (by decide +kernel)
theorem sm_k111 : Cond.code (sm_yn 111) (sm_cd 111) (sm_ml 111) (sm_rt 111) ∈ sm_gw := sm_mem 768 (by decide +kernel) (by decide +kernel)
theorem sm_k112 : Cond.code (sm_yn 112) (sm_cd 112) (sm_ml 112) (sm_rt 112) ∈ sm_gw := sm_mem 772 (by decide +kernel) (by decide +kernel)
theorem sm_k113 : Cond.code (sm_yn 113) (sm_cd 113) (sm_ml 113) (sm_rt 113) ∈ sm_gw := sm_mem 776 (by decide +kernel) (by decide +kernel)
theorem sm_k114 : Cond.code (sm_yn 114) (sm_cd 114) (sm_ml 114) (sm_rt 114) ∈ sm_gw := sm_mem 780 (by decide +kernel) (by decide +kernel)
theorem sm_k115 : Cond.code (sm_yn 115) (sm_cd 115) (sm_ml 115) (sm_rt 115) ∈ sm_gw := sm_mem 522 (by decide +kernel) (by decide +kernel)
theorem sm_code_in : ∀ z, z < sm_nm → Cond.code (sm_yn z) (sm_cd z) (sm_ml z) (sm_rt z) ∈ sm_gw
  | 0, _ => sm_k0
  | 1, _ => sm_k1
  | 2, _ => sm_k2
  | 3, _ => sm_k3
  | 4, _ => sm_k4
  | 5, _ => sm_k5
  | 6, _ => sm_k6
  | 7, _ => sm_k7
  | 8, _ => sm_k8
  | 9, _ => sm_k9
  | 10, _ => sm_k10
  | 11, _ => sm_k11
  | 12, _ => sm_k12
  | 13, _ => sm_k13
  | 14, _ => sm_k14
  | 15, _ => sm_k15
  | 16, _ => sm_k16
  | 17, _ => sm_k17
  | 18, _ => sm_k18
  | 19, _ => sm_k19
  | 20, _ => sm_k20
  | 21, _ => sm_k21
  | 22, _ => sm_k22
  | 23, _ => sm_k23
  | 24, _ => sm_k24
  | 25, _ => sm_k25
  | 26, _ => sm_k26
  | 27, _ => sm_k27
  | 28, _ => sm_k28
  | 29, _ => sm_k29
  | 30, _ => sm_k30
  | 31, _ => sm_k31
  | 32, _ => sm_k32
  | 33, _ => sm_k33
  | 34, _ => sm_k34
  | 35, _ => sm_k35
  | 36, _ => sm_k36
  | 37, _ => sm_k37
  | 38, _ => sm_k38
  | 39, _ => sm_k39
  | 40, _ => sm_k40
  | 41, _ => sm_k41
  | 42, _ => sm_k42
  | 43, _ => sm_k43
  | 44, _ => sm_k44
  | 45, _ => sm_k45
  | 46, _ => sm_k46
  | 47, _ => sm_k47
  | 48, _ => sm_k48
  | 49, _ => sm_k49
  | 50, _ => sm_k50
  | 51, _ => sm_k51
  | 52, _ => sm_k52
  | 53, _ => sm_k53
  | 54, _ => sm_k54
  | 55, _ => sm_k55
  | 56, _ => sm_k56
  | 57, _ => sm_k57
  | 58, _ => sm_k58
  | 59, _ => sm_k59
  | 60, _ => sm_k60
  | 61, _ => sm_k61
  | 62, _ => sm_k62
  | 63, _ => sm_k63
  | 64, _ => sm_k64
  | 65, _ => sm_k65
  | 66, _ => sm_k66
  | 67, _ => sm_k67
  | 68, _ => sm_k68
  | 69, _ => sm_k69
  | 70, _ => sm_k70
  | 71, _ => sm_k71
  | 72, _ => sm_k72
  | 73, _ => sm_k73
  | 74, _ => sm_k74
  | 75, _ => sm_k75
  | 76, _ => sm_k76
  | 77, _ => sm_k77
  | 78, _ => sm_k78
  | 79, _ => sm_k79
  | 80, _ => sm_k80
  | 81, _ => sm_k81
  | 82, _ => sm_k82
  | 83, _ => sm_k83
  | 84, _ => sm_k84
  | 85, _ => sm_k85
  | 86, _ => sm_k86
  | 87, _ => sm_k87
  | 88, _ => sm_k88
  | 89, _ => sm_k89
  | 90, _ => sm_k90
  | 91, _ => sm_k91
  | 92, _ => sm_k92
  | 93, _ => sm_k93
  | 94, _ => sm_k94
  | 95, _ => sm_k95
  | 96, _ => sm_k96
  | 97, _ => sm_k97
  | 98, _ => sm_k98
  | 99, _ => sm_k99
  | 100, _ => sm_k100
  | 101, _ => sm_k101
  | 102, _ => sm_k102
  | 103, _ => sm_k103
  | 104, _ => sm_k104
  | 105, _ => sm_k105
  | 106, _ => sm_k106
  | 107, _ => sm_k107
  | 108, _ => sm_k108
  | 109, _ => sm_k109
  | 110, _ => sm_k110
  | 111, _ => sm_k111
  | 112, _ => sm_k112
  | 113, _ => sm_k113
  | 114, _ => sm_k114
  | 115, _ => sm_k115
  | z + 116, h => absurd h (by show ¬ z + 116 < 116; omega)
theorem sm_mf : ∀ z, z < sm_nm → (sm_yn z).cls = sm_Rn (sm_cy z) ∧ ((sm_yn z).cls ≠ "java/lang/invoke/MethodHandle" ∧ (sm_yn z).cls ≠ "java/lang/invoke/VarHandle") ∧ plainName (sm_yn z).cls = true ∧ sm_ml z ≤ 21 ∧ sm_na z ≤ sm_ml z ∧ (parseMethodDescriptor (sm_yn z).desc).map (fun d => d.parameters.length) = some (sm_na z - (if sm_sta z then 0 else 1)) ∧ (sm_sta z = false → 0 < sm_na z) := by decide +kernel
theorem sm_in0 : Cond.initialized (sm_Rn 0) ∈ sm_gw := sm_mem 5 (by decide +kernel) (by decide +kernel)
theorem sm_in1 : Cond.initialized (sm_Rn 1) ∈ sm_gw := sm_mem 3 (by decide +kernel) (by decide +kernel)
theorem sm_in2 : Cond.initialized (sm_Rn 2) ∈ sm_gw := sm_mem 4 (by decide +kernel) (by decide +kernel)
theorem sm_in3 : Cond.initialized (sm_Rn 3) ∈ sm_gw := sm_mem 2 (by decide +kernel) (by decide +kernel)
theorem sm_in4 : Cond.initialized (sm_Rn 4) ∈ sm_gw := sm_mem 1 (by decide +kernel) (by decide +kernel)
theorem sm_in5 : Cond.initialized (sm_Rn 5) ∈ sm_gw := sm_mem 11 (by decide +kernel) (by decide +kernel)
theorem sm_in6 : Cond.initialized (sm_Rn 6) ∈ sm_gw := sm_mem 13 (by decide +kernel) (by decide +kernel)
theorem sm_i0 : Cond.instanceMethod (sm_yn 0) ∈ sm_gw := sm_mem 384 (by decide +kernel) (by decide +kernel)
theorem sm_e0 : Cond.selects (sm_Rn (sm_cy 0)) (sm_yn 0) (sm_yn 0) ∈ sm_gw := sm_mem 385 (by decide +kernel) (by decide +kernel)
theorem sm_i1 : Cond.instanceMethod (sm_yn 1) ∈ sm_gw := sm_mem 437 (by decide +kernel) (by decide +kernel)
theorem sm_e1 : Cond.selects (sm_Rn (sm_cy 1)) (sm_yn 1) (sm_yn 1) ∈ sm_gw := sm_mem 438 (by decide +kernel) (by decide +kernel)
theorem sm_i2 : Cond.instanceMethod (sm_yn 2) ∈ sm_gw := sm_mem 433 (by decide +kernel) (by decide +kernel)
theorem sm_e2 : Cond.selects (sm_Rn (sm_cy 2)) (sm_yn 2) (sm_yn 2) ∈ sm_gw := sm_mem 434 (by decide +kernel) (by decide +kernel)
theorem sm_i3 : Cond.instanceMethod (sm_yn 3) ∈ sm_gw := sm_mem 365 (by decide +kernel) (by decide +kernel)
theorem sm_e3 : Cond.selects (sm_Rn (sm_cy 3)) (sm_yn 3) (sm_yn 3) ∈ sm_gw := sm_mem 366 (by decide +kernel) (by decide +kernel)
theorem sm_i4 : Cond.instanceMethod (sm_yn 4) ∈ sm_gw := sm_mem 410 (by decide +kernel) (by decide +kernel)
theorem sm_e4 : Cond.selects (sm_Rn (sm_cy 4)) (sm_yn 4) (sm_yn 4) ∈ sm_gw := sm_mem 411 (by decide +kernel) (by decide +kernel)
theorem sm_i5 : Cond.instanceMethod (sm_yn 5) ∈ sm_gw := sm_mem 501 (by decide +kernel) (by decide +kernel)
theorem sm_e5 : Cond.selects (sm_Rn (sm_cy 5)) (sm_yn 5) (sm_yn 5) ∈ sm_gw := sm_mem 502 (by decide +kernel) (by decide +kernel)
theorem sm_i6 : Cond.instanceMethod (sm_yn 6) ∈ sm_gw := sm_mem 505 (by decide +kernel) (by decide +kernel)
theorem sm_e6 : Cond.selects (sm_Rn (sm_cy 6)) (sm_yn 6) (sm_yn 6) ∈ sm_gw := sm_mem 506 (by decide +kernel) (by decide +kernel)
theorem sm_i7 : Cond.instanceMethod (sm_yn 7) ∈ sm_gw := sm_mem 509 (by decide +kernel) (by decide +kernel)
theorem sm_e7 : Cond.selects (sm_Rn (sm_cy 7)) (sm_yn 7) (sm_yn 7) ∈ sm_gw := sm_mem 510 (by decide +kernel) (by decide +kernel)
theorem sm_i8 : Cond.instanceMethod (sm_yn 8) ∈ sm_gw := sm_mem 450 (by decide +kernel) (by decide +kernel)
theorem sm_e8 : Cond.selects (sm_Rn (sm_cy 8)) (sm_yn 8) (sm_yn 8) ∈ sm_gw := sm_mem 451 (by decide +kernel) (by decide +kernel)
theorem sm_i9 : Cond.instanceMethod (sm_yn 9) ∈ sm_gw := sm_mem 240 (by decide +kernel) (by decide +kernel)
theorem sm_e9 : Cond.selects (sm_Rn (sm_cy 9)) (sm_yn 9) (sm_yn 9) ∈ sm_gw := sm_mem 241 (by decide +kernel) (by decide +kernel)
theorem sm_i10 : Cond.instanceMethod (sm_yn 10) ∈ sm_gw := sm_mem 264 (by decide +kernel) (by decide +kernel)
theorem sm_e10 : Cond.selects (sm_Rn (sm_cy 10)) (sm_yn 10) (sm_yn 10) ∈ sm_gw := sm_mem 265 (by decide +kernel) (by decide +kernel)
theorem sm_i11 : Cond.instanceMethod (sm_yn 11) ∈ sm_gw := sm_mem 268 (by decide +kernel) (by decide +kernel)
theorem sm_e11 : Cond.selects (sm_Rn (sm_cy 11)) (sm_yn 11) (sm_yn 11) ∈ sm_gw := sm_mem 269 (by decide +kernel) (by decide +kernel)
theorem sm_i12 : Cond.instanceMethod (sm_yn 12) ∈ sm_gw := sm_mem 272 (by decide +kernel) (by decide +kernel)
theorem sm_e12 : Cond.selects (sm_Rn (sm_cy 12)) (sm_yn 12) (sm_yn 12) ∈ sm_gw := sm_mem 273 (by decide +kernel) (by decide +kernel)
theorem sm_i13 : Cond.instanceMethod (sm_yn 13) ∈ sm_gw := sm_mem 276 (by decide +kernel) (by decide +kernel)
theorem sm_e13 : Cond.selects (sm_Rn (sm_cy 13)) (sm_yn 13) (sm_yn 13) ∈ sm_gw := sm_mem 277 (by decide +kernel) (by decide +kernel)
theorem sm_i14 : Cond.instanceMethod (sm_yn 14) ∈ sm_gw := sm_mem 280 (by decide +kernel) (by decide +kernel)
theorem sm_e14 : Cond.selects (sm_Rn (sm_cy 14)) (sm_yn 14) (sm_yn 14) ∈ sm_gw := sm_mem 281 (by decide +kernel) (by decide +kernel)
theorem sm_i15 : Cond.instanceMethod (sm_yn 15) ∈ sm_gw := sm_mem 284 (by decide +kernel) (by decide +kernel)
theorem sm_e15 : Cond.selects (sm_Rn (sm_cy 15)) (sm_yn 15) (sm_yn 15) ∈ sm_gw := sm_mem 285 (by decide +kernel) (by decide +kernel)
theorem sm_i16 : Cond.instanceMethod (sm_yn 16) ∈ sm_gw := sm_mem 345 (by decide +kernel) (by decide +kernel)
theorem sm_e16 : Cond.selects (sm_Rn (sm_cy 16)) (sm_yn 16) (sm_yn 16) ∈ sm_gw := sm_mem 346 (by decide +kernel) (by decide +kernel)
theorem sm_i17 : Cond.instanceMethod (sm_yn 17) ∈ sm_gw := sm_mem 296 (by decide +kernel) (by decide +kernel)
theorem sm_e17 : Cond.selects (sm_Rn (sm_cy 17)) (sm_yn 17) (sm_yn 17) ∈ sm_gw := sm_mem 297 (by decide +kernel) (by decide +kernel)
theorem sm_i18 : Cond.instanceMethod (sm_yn 18) ∈ sm_gw := sm_mem 420 (by decide +kernel) (by decide +kernel)
theorem sm_e18 : Cond.selects (sm_Rn (sm_cy 18)) (sm_yn 18) (sm_yn 18) ∈ sm_gw := sm_mem 421 (by decide +kernel) (by decide +kernel)
theorem sm_i19 : Cond.instanceMethod (sm_yn 19) ∈ sm_gw := sm_mem 292 (by decide +kernel) (by decide +kernel)
theorem sm_e19 : Cond.selects (sm_Rn (sm_cy 19)) (sm_yn 19) (sm_yn 19) ∈ sm_gw := sm_mem 293 (by decide +kernel) (by decide +kernel)
theorem sm_i20 : Cond.instanceMethod (sm_yn 20) ∈ sm_gw := sm_mem 377 (by decide +kernel) (by decide +kernel)
theorem sm_e20 : Cond.selects (sm_Rn (sm_cy 20)) (sm_yn 20) (sm_yn 20) ∈ sm_gw := sm_mem 378 (by decide +kernel) (by decide +kernel)
theorem sm_i21 : Cond.instanceMethod (sm_yn 21) ∈ sm_gw := sm_mem 361 (by decide +kernel) (by decide +kernel)
theorem sm_e21 : Cond.selects (sm_Rn (sm_cy 21)) (sm_yn 21) (sm_yn 21) ∈ sm_gw := sm_mem 362 (by decide +kernel) (by decide +kernel)
theorem sm_i22 : Cond.instanceMethod (sm_yn 22) ∈ sm_gw := sm_mem 357 (by decide +kernel) (by decide +kernel)
theorem sm_e22 : Cond.selects (sm_Rn (sm_cy 22)) (sm_yn 22) (sm_yn 22) ∈ sm_gw := sm_mem 358 (by decide +kernel) (by decide +kernel)
theorem sm_i23 : Cond.instanceMethod (sm_yn 23) ∈ sm_gw := sm_mem 454 (by decide +kernel) (by decide +kernel)
theorem sm_e23 : Cond.selects (sm_Rn (sm_cy 23)) (sm_yn 23) (sm_yn 23) ∈ sm_gw := sm_mem 455 (by decide +kernel) (by decide +kernel)
theorem sm_i24 : Cond.instanceMethod (sm_yn 24) ∈ sm_gw := sm_mem 517 (by decide +kernel) (by decide +kernel)
theorem sm_e24 : Cond.selects (sm_Rn (sm_cy 24)) (sm_yn 24) (sm_yn 24) ∈ sm_gw := sm_mem 518 (by decide +kernel) (by decide +kernel)
theorem sm_i25 : Cond.instanceMethod (sm_yn 25) ∈ sm_gw := sm_mem 393 (by decide +kernel) (by decide +kernel)
theorem sm_e25 : Cond.selects (sm_Rn (sm_cy 25)) (sm_yn 25) (sm_yn 25) ∈ sm_gw := sm_mem 394 (by decide +kernel) (by decide +kernel)
theorem sm_i26 : Cond.instanceMethod (sm_yn 26) ∈ sm_gw := sm_mem 397 (by decide +kernel) (by decide +kernel)
theorem sm_e26 : Cond.selects (sm_Rn (sm_cy 26)) (sm_yn 26) (sm_yn 26) ∈ sm_gw := sm_mem 398 (by decide +kernel) (by decide +kernel)
theorem sm_i27 : Cond.instanceMethod (sm_yn 27) ∈ sm_gw := sm_mem 402 (by decide +kernel) (by decide +kernel)
theorem sm_e27 : Cond.selects (sm_Rn (sm_cy 27)) (sm_yn 27) (sm_yn 27) ∈ sm_gw := sm_mem 403 (by decide +kernel) (by decide +kernel)
theorem sm_i28 : Cond.instanceMethod (sm_yn 28) ∈ sm_gw := sm_mem 442 (by decide +kernel) (by decide +kernel)
theorem sm_e28 : Cond.selects (sm_Rn (sm_cy 28)) (sm_yn 28) (sm_yn 28) ∈ sm_gw := sm_mem 443 (by decide +kernel) (by decide +kernel)
theorem sm_i29 : Cond.instanceMethod (sm_yn 29) ∈ sm_gw := sm_mem 424 (by decide +kernel) (by decide +kernel)
theorem sm_e29 : Cond.selects (sm_Rn (sm_cy 29)) (sm_yn 29) (sm_yn 29) ∈ sm_gw := sm_mem 425 (by decide +kernel) (by decide +kernel)
theorem sm_i30 : Cond.instanceMethod (sm_yn 30) ∈ sm_gw := sm_mem 406 (by decide +kernel) (by decide +kernel)
theorem sm_e30 : Cond.selects (sm_Rn (sm_cy 30)) (sm_yn 30) (sm_yn 30) ∈ sm_gw := sm_mem 407 (by decide +kernel) (by decide +kernel)
theorem sm_i31 : Cond.instanceMethod (sm_yn 31) ∈ sm_gw := sm_mem 429 (by decide +kernel) (by decide +kernel)
theorem sm_e31 : Cond.selects (sm_Rn (sm_cy 31)) (sm_yn 31) (sm_yn 31) ∈ sm_gw := sm_mem 430 (by decide +kernel) (by decide +kernel)
theorem sm_i32 : Cond.instanceMethod (sm_yn 32) ∈ sm_gw := sm_mem 458 (by decide +kernel) (by decide +kernel)
theorem sm_e32 : Cond.selects (sm_Rn (sm_cy 32)) (sm_yn 32) (sm_yn 32) ∈ sm_gw := sm_mem 459 (by decide +kernel) (by decide +kernel)
theorem sm_i33 : Cond.instanceMethod (sm_yn 33) ∈ sm_gw := sm_mem 462 (by decide +kernel) (by decide +kernel)
theorem sm_e33 : Cond.selects (sm_Rn (sm_cy 33)) (sm_yn 33) (sm_yn 33) ∈ sm_gw := sm_mem 463 (by decide +kernel) (by decide +kernel)
theorem sm_i34 : Cond.instanceMethod (sm_yn 34) ∈ sm_gw := sm_mem 232 (by decide +kernel) (by decide +kernel)
theorem sm_e34 : Cond.selects (sm_Rn (sm_cy 34)) (sm_yn 34) (sm_yn 34) ∈ sm_gw := sm_mem 233 (by decide +kernel) (by decide +kernel)
theorem sm_i35 : Cond.instanceMethod (sm_yn 35) ∈ sm_gw := sm_mem 236 (by decide +kernel) (by decide +kernel)
theorem sm_e35 : Cond.selects (sm_Rn (sm_cy 35)) (sm_yn 35) (sm_yn 35) ∈ sm_gw := sm_mem 237 (by decide +kernel) (by decide +kernel)
theorem sm_i36 : Cond.instanceMethod (sm_yn 36) ∈ sm_gw := sm_mem 244 (by decide +kernel) (by decide +kernel)
theorem sm_e36 : Cond.selects (sm_Rn (sm_cy 36)) (sm_yn 36) (sm_yn 36) ∈ sm_gw := sm_mem 245 (by decide +kernel) (by decide +kernel)
theorem sm_i37 : Cond.instanceMethod (sm_yn 37) ∈ sm_gw := sm_mem 252 (by decide +kernel) (by decide +kernel)
theorem sm_e37 : Cond.selects (sm_Rn (sm_cy 37)) (sm_yn 37) (sm_yn 37) ∈ sm_gw := sm_mem 253 (by decide +kernel) (by decide +kernel)
theorem sm_i38 : Cond.instanceMethod (sm_yn 38) ∈ sm_gw := sm_mem 256 (by decide +kernel) (by decide +kernel)
theorem sm_e38 : Cond.selects (sm_Rn (sm_cy 38)) (sm_yn 38) (sm_yn 38) ∈ sm_gw := sm_mem 257 (by decide +kernel) (by decide +kernel)
theorem sm_i39 : Cond.instanceMethod (sm_yn 39) ∈ sm_gw := sm_mem 260 (by decide +kernel) (by decide +kernel)
theorem sm_e39 : Cond.selects (sm_Rn (sm_cy 39)) (sm_yn 39) (sm_yn 39) ∈ sm_gw := sm_mem 261 (by decide +kernel) (by decide +kernel)
theorem sm_i40 : Cond.instanceMethod (sm_yn 40) ∈ sm_gw := sm_mem 248 (by decide +kernel) (by decide +kernel)
theorem sm_e40 : Cond.selects (sm_Rn (sm_cy 40)) (sm_yn 40) (sm_yn 40) ∈ sm_gw := sm_mem 249 (by decide +kernel) (by decide +kernel)
theorem sm_i41 : Cond.instanceMethod (sm_yn 41) ∈ sm_gw := sm_mem 329 (by decide +kernel) (by decide +kernel)
theorem sm_e41 : Cond.selects (sm_Rn (sm_cy 41)) (sm_yn 41) (sm_yn 41) ∈ sm_gw := sm_mem 330 (by decide +kernel) (by decide +kernel)
theorem sm_i42 : Cond.instanceMethod (sm_yn 42) ∈ sm_gw := sm_mem 333 (by decide +kernel) (by decide +kernel)
theorem sm_e42 : Cond.selects (sm_Rn (sm_cy 42)) (sm_yn 42) (sm_yn 42) ∈ sm_gw := sm_mem 334 (by decide +kernel) (by decide +kernel)
theorem sm_i43 : Cond.instanceMethod (sm_yn 43) ∈ sm_gw := sm_mem 337 (by decide +kernel) (by decide +kernel)
theorem sm_e43 : Cond.selects (sm_Rn (sm_cy 43)) (sm_yn 43) (sm_yn 43) ∈ sm_gw := sm_mem 338 (by decide +kernel) (by decide +kernel)
theorem sm_i44 : Cond.instanceMethod (sm_yn 44) ∈ sm_gw := sm_mem 341 (by decide +kernel) (by decide +kernel)
theorem sm_e44 : Cond.selects (sm_Rn (sm_cy 44)) (sm_yn 44) (sm_yn 44) ∈ sm_gw := sm_mem 342 (by decide +kernel) (by decide +kernel)
theorem sm_i45 : Cond.instanceMethod (sm_yn 45) ∈ sm_gw := sm_mem 349 (by decide +kernel) (by decide +kernel)
theorem sm_e45 : Cond.selects (sm_Rn (sm_cy 45)) (sm_yn 45) (sm_yn 45) ∈ sm_gw := sm_mem 350 (by decide +kernel) (by decide +kernel)
theorem sm_i46 : Cond.instanceMethod (sm_yn 46) ∈ sm_gw := sm_mem 466 (by decide +kernel) (by decide +kernel)
theorem sm_e46 : Cond.selects (sm_Rn (sm_cy 46)) (sm_yn 46) (sm_yn 46) ∈ sm_gw := sm_mem 467 (by decide +kernel) (by decide +kernel)
theorem sm_i47 : Cond.instanceMethod (sm_yn 47) ∈ sm_gw := sm_mem 474 (by decide +kernel) (by decide +kernel)
theorem sm_e47 : Cond.selects (sm_Rn (sm_cy 47)) (sm_yn 47) (sm_yn 47) ∈ sm_gw := sm_mem 475 (by decide +kernel) (by decide +kernel)
theorem sm_i48 : Cond.instanceMethod (sm_yn 48) ∈ sm_gw := sm_mem 482 (by decide +kernel) (by decide +kernel)
theorem sm_e48 : Cond.selects (sm_Rn (sm_cy 48)) (sm_yn 48) (sm_yn 48) ∈ sm_gw := sm_mem 483 (by decide +kernel) (by decide +kernel)
theorem sm_i49 : Cond.instanceMethod (sm_yn 49) ∈ sm_gw := sm_mem 486 (by decide +kernel) (by decide +kernel)
theorem sm_e49 : Cond.selects (sm_Rn (sm_cy 49)) (sm_yn 49) (sm_yn 49) ∈ sm_gw := sm_mem 487 (by decide +kernel) (by decide +kernel)
theorem sm_i50 : Cond.instanceMethod (sm_yn 50) ∈ sm_gw := sm_mem 490 (by decide +kernel) (by decide +kernel)
theorem sm_e50 : Cond.selects (sm_Rn (sm_cy 50)) (sm_yn 50) (sm_yn 50) ∈ sm_gw := sm_mem 491 (by decide +kernel) (by decide +kernel)
theorem sm_i51 : Cond.instanceMethod (sm_yn 51) ∈ sm_gw := sm_mem 497 (by decide +kernel) (by decide +kernel)
theorem sm_e51 : Cond.selects (sm_Rn (sm_cy 51)) (sm_yn 51) (sm_yn 51) ∈ sm_gw := sm_mem 498 (by decide +kernel) (by decide +kernel)
theorem sm_i52 : Cond.instanceMethod (sm_yn 52) ∈ sm_gw := sm_mem 513 (by decide +kernel) (by decide +kernel)
theorem sm_e52 : Cond.selects (sm_Rn (sm_cy 52)) (sm_yn 52) (sm_yn 52) ∈ sm_gw := sm_mem 514 (by decide +kernel) (by decide +kernel)
theorem sm_i53 : Cond.instanceMethod (sm_yn 53) ∈ sm_gw := sm_mem 527 (by decide +kernel) (by decide +kernel)
theorem sm_e53 : Cond.selects (sm_Rn (sm_cy 53)) (sm_yn 53) (sm_yn 53) ∈ sm_gw := sm_mem 528 (by decide +kernel) (by decide +kernel)
theorem sm_i54 : Cond.instanceMethod (sm_yn 54) ∈ sm_gw := sm_mem 532 (by decide +kernel) (by decide +kernel)
theorem sm_e54 : Cond.selects (sm_Rn (sm_cy 54)) (sm_yn 54) (sm_yn 54) ∈ sm_gw := sm_mem 533 (by decide +kernel) (by decide +kernel)
theorem sm_i55 : Cond.instanceMethod (sm_yn 55) ∈ sm_gw := sm_mem 537 (by decide +kernel) (by decide +kernel)
theorem sm_e55 : Cond.selects (sm_Rn (sm_cy 55)) (sm_yn 55) (sm_yn 55) ∈ sm_gw := sm_mem 538 (by decide +kernel) (by decide +kernel)
theorem sm_i56 : Cond.instanceMethod (sm_yn 56) ∈ sm_gw := sm_mem 471 (by decide +kernel) (by decide +kernel)
theorem sm_e56 : Cond.selects (sm_Rn (sm_cy 56)) (sm_yn 56) (sm_yn 56) ∈ sm_gw := sm_memP 5 (by decide +kernel) (by decide +kernel)
theorem sm_i57 : Cond.instanceMethod (sm_yn 57) ∈ sm_gw := sm_mem 479 (by decide +kernel) (by decide +kernel)
theorem sm_e57 : Cond.selects (sm_Rn (sm_cy 57)) (sm_yn 57) (sm_yn 57) ∈ sm_gw := sm_memP 6 (by decide +kernel) (by decide +kernel)
theorem sm_i58 : Cond.instanceMethod (sm_yn 58) ∈ sm_gw := sm_mem 354 (by decide +kernel) (by decide +kernel)
theorem sm_e58 : Cond.selects (sm_Rn (sm_cy 58)) (sm_yn 58) (sm_yn 58) ∈ sm_gw := sm_memP 1 (by decide +kernel) (by decide +kernel)
theorem sm_i59 : Cond.instanceMethod (sm_yn 59) ∈ sm_gw := sm_mem 289 (by decide +kernel) (by decide +kernel)
theorem sm_e59 : Cond.selects (sm_Rn (sm_cy 59)) (sm_yn 59) (sm_yn 59) ∈ sm_gw := sm_memP 0 (by decide +kernel) (by decide +kernel)
theorem sm_i60 : Cond.instanceMethod (sm_yn 60) ∈ sm_gw := sm_mem 370 (by decide +kernel) (by decide +kernel)
theorem sm_e60 : Cond.selects (sm_Rn (sm_cy 60)) (sm_yn 60) (sm_yn 60) ∈ sm_gw := sm_memP 2 (by decide +kernel) (by decide +kernel)
theorem sm_i61 : Cond.instanceMethod (sm_yn 61) ∈ sm_gw := sm_mem 374 (by decide +kernel) (by decide +kernel)
theorem sm_e61 : Cond.selects (sm_Rn (sm_cy 61)) (sm_yn 61) (sm_yn 61) ∈ sm_gw := sm_memP 3 (by decide +kernel) (by decide +kernel)
theorem sm_i62 : Cond.instanceMethod (sm_yn 62) ∈ sm_gw := sm_mem 390 (by decide +kernel) (by decide +kernel)
theorem sm_e62 : Cond.selects (sm_Rn (sm_cy 62)) (sm_yn 62) (sm_yn 62) ∈ sm_gw := sm_memP 4 (by decide +kernel) (by decide +kernel)
theorem sm_s63 : Cond.static (sm_yn 63) ∈ sm_gw := sm_mem 446 (by decide +kernel) (by decide +kernel)
theorem sm_s64 : Cond.static (sm_yn 64) ∈ sm_gw := sm_mem 414 (by decide +kernel) (by decide +kernel)
theorem sm_s65 : Cond.static (sm_yn 65) ∈ sm_gw := sm_mem 601 (by decide +kernel) (by decide +kernel)
theorem sm_s66 : Cond.static (sm_yn 66) ∈ sm_gw := sm_mem 692 (by decide +kernel) (by decide +kernel)
theorem sm_s67 : Cond.static (sm_yn 67) ∈ sm_gw := sm_mem 695 (by decide +kernel) (by decide +kernel)
theorem sm_i68 : Cond.instanceMethod (sm_yn 68) ∈ sm_gw := sm_mem 597 (by decide +kernel) (by decide +kernel)
theorem sm_e68 : Cond.selects (sm_Rn (sm_cy 68)) (sm_yn 68) (sm_yn 68) ∈ sm_gw := sm_mem 598 (by decide +kernel) (by decide +kernel)
theorem sm_i69 : Cond.instanceMethod (sm_yn 69) ∈ sm_gw := sm_mem 604 (by decide +kernel) (by decide +kernel)
theorem sm_e69 : Cond.selects (sm_Rn (sm_cy 69)) (sm_yn 69) (sm_yn 69) ∈ sm_gw := sm_mem 605 (by decide +kernel) (by decide +kernel)
theorem sm_i70 : Cond.instanceMethod (sm_yn 70) ∈ sm_gw := sm_mem 548 (by decide +kernel) (by decide +kernel)
theorem sm_e70 : Cond.selects (sm_Rn (sm_cy 70)) (sm_yn 70) (sm_yn 70) ∈ sm_gw := sm_memP 7 (by decide +kernel) (by decide +kernel)
theorem sm_i71 : Cond.instanceMethod (sm_yn 71) ∈ sm_gw := sm_mem 552 (by decide +kernel) (by decide +kernel)
theorem sm_e71 : Cond.selects (sm_Rn (sm_cy 71)) (sm_yn 71) (sm_yn 71) ∈ sm_gw := sm_memP 8 (by decide +kernel) (by decide +kernel)
theorem sm_i72 : Cond.instanceMethod (sm_yn 72) ∈ sm_gw := sm_mem 629 (by decide +kernel) (by decide +kernel)
theorem sm_e72 : Cond.selects (sm_Rn (sm_cy 72)) (sm_yn 72) (sm_yn 72) ∈ sm_gw := sm_memP 14 (by decide +kernel) (by decide +kernel)
theorem sm_i73 : Cond.instanceMethod (sm_yn 73) ∈ sm_gw := sm_mem 625 (by decide +kernel) (by decide +kernel)
theorem sm_e73 : Cond.selects (sm_Rn (sm_cy 73)) (sm_yn 73) (sm_yn 73) ∈ sm_gw := sm_memP 13 (by decide +kernel) (by decide +kernel)
theorem sm_i74 : Cond.instanceMethod (sm_yn 74) ∈ sm_gw := sm_mem 621 (by decide +kernel) (by decide +kernel)
theorem sm_e74 : Cond.selects (sm_Rn (sm_cy 74)) (sm_yn 74) (sm_yn 74) ∈ sm_gw := sm_memP 12 (by decide +kernel) (by decide +kernel)
theorem sm_i75 : Cond.instanceMethod (sm_yn 75) ∈ sm_gw := sm_mem 637 (by decide +kernel) (by decide +kernel)
theorem sm_e75 : Cond.selects (sm_Rn (sm_cy 75)) (sm_yn 75) (sm_yn 75) ∈ sm_gw := sm_memP 16 (by decide +kernel) (by decide +kernel)
theorem sm_i76 : Cond.instanceMethod (sm_yn 76) ∈ sm_gw := sm_mem 633 (by decide +kernel) (by decide +kernel)
theorem sm_e76 : Cond.selects (sm_Rn (sm_cy 76)) (sm_yn 76) (sm_yn 76) ∈ sm_gw := sm_memP 15 (by decide +kernel) (by decide +kernel)
theorem sm_i77 : Cond.instanceMethod (sm_yn 77) ∈ sm_gw := sm_mem 641 (by decide +kernel) (by decide +kernel)
theorem sm_e77 : Cond.selects (sm_Rn (sm_cy 77)) (sm_yn 77) (sm_yn 77) ∈ sm_gw := sm_memP 17 (by decide +kernel) (by decide +kernel)
theorem sm_i78 : Cond.instanceMethod (sm_yn 78) ∈ sm_gw := sm_mem 617 (by decide +kernel) (by decide +kernel)
theorem sm_e78 : Cond.selects (sm_Rn (sm_cy 78)) (sm_yn 78) (sm_yn 78) ∈ sm_gw := sm_memP 11 (by decide +kernel) (by decide +kernel)
theorem sm_i79 : Cond.instanceMethod (sm_yn 79) ∈ sm_gw := sm_mem 613 (by decide +kernel) (by decide +kernel)
theorem sm_e79 : Cond.selects (sm_Rn (sm_cy 79)) (sm_yn 79) (sm_yn 79) ∈ sm_gw := sm_memP 10 (by decide +kernel) (by decide +kernel)
theorem sm_i80 : Cond.instanceMethod (sm_yn 80) ∈ sm_gw := sm_mem 608 (by decide +kernel) (by decide +kernel)
theorem sm_e80 : Cond.selects (sm_Rn (sm_cy 80)) (sm_yn 80) (sm_yn 80) ∈ sm_gw := sm_mem 609 (by decide +kernel) (by decide +kernel)
theorem sm_i81 : Cond.instanceMethod (sm_yn 81) ∈ sm_gw := sm_mem 644 (by decide +kernel) (by decide +kernel)
theorem sm_e81 : Cond.selects (sm_Rn (sm_cy 81)) (sm_yn 81) (sm_yn 81) ∈ sm_gw := sm_mem 645 (by decide +kernel) (by decide +kernel)
theorem sm_i82 : Cond.instanceMethod (sm_yn 82) ∈ sm_gw := sm_mem 556 (by decide +kernel) (by decide +kernel)
theorem sm_e82 : Cond.selects (sm_Rn (sm_cy 82)) (sm_yn 82) (sm_yn 82) ∈ sm_gw := sm_memP 9 (by decide +kernel) (by decide +kernel)
theorem sm_i83 : Cond.instanceMethod (sm_yn 83) ∈ sm_gw := sm_mem 661 (by decide +kernel) (by decide +kernel)
theorem sm_e83 : Cond.selects (sm_Rn (sm_cy 83)) (sm_yn 83) (sm_yn 83) ∈ sm_gw := sm_memP 20 (by decide +kernel) (by decide +kernel)
theorem sm_i84 : Cond.instanceMethod (sm_yn 84) ∈ sm_gw := sm_mem 681 (by decide +kernel) (by decide +kernel)
theorem sm_e84 : Cond.selects (sm_Rn (sm_cy 84)) (sm_yn 84) (sm_yn 84) ∈ sm_gw := sm_memP 25 (by decide +kernel) (by decide +kernel)
theorem sm_i85 : Cond.instanceMethod (sm_yn 85) ∈ sm_gw := sm_mem 669 (by decide +kernel) (by decide +kernel)
theorem sm_e85 : Cond.selects (sm_Rn (sm_cy 85)) (sm_yn 85) (sm_yn 85) ∈ sm_gw := sm_memP 22 (by decide +kernel) (by decide +kernel)
theorem sm_i86 : Cond.instanceMethod (sm_yn 86) ∈ sm_gw := sm_mem 665 (by decide +kernel) (by decide +kernel)
theorem sm_e86 : Cond.selects (sm_Rn (sm_cy 86)) (sm_yn 86) (sm_yn 86) ∈ sm_gw := sm_memP 21 (by decide +kernel) (by decide +kernel)
theorem sm_i87 : Cond.instanceMethod (sm_yn 87) ∈ sm_gw := sm_mem 657 (by decide +kernel) (by decide +kernel)
theorem sm_e87 : Cond.selects (sm_Rn (sm_cy 87)) (sm_yn 87) (sm_yn 87) ∈ sm_gw := sm_memP 19 (by decide +kernel) (by decide +kernel)
theorem sm_i88 : Cond.instanceMethod (sm_yn 88) ∈ sm_gw := sm_mem 653 (by decide +kernel) (by decide +kernel)
theorem sm_e88 : Cond.selects (sm_Rn (sm_cy 88)) (sm_yn 88) (sm_yn 88) ∈ sm_gw := sm_memP 18 (by decide +kernel) (by decide +kernel)
theorem sm_i89 : Cond.instanceMethod (sm_yn 89) ∈ sm_gw := sm_mem 707 (by decide +kernel) (by decide +kernel)
theorem sm_e89 : Cond.selects (sm_Rn (sm_cy 89)) (sm_yn 89) (sm_yn 89) ∈ sm_gw := sm_memP 30 (by decide +kernel) (by decide +kernel)
theorem sm_i90 : Cond.instanceMethod (sm_yn 90) ∈ sm_gw := sm_mem 699 (by decide +kernel) (by decide +kernel)
theorem sm_e90 : Cond.selects (sm_Rn (sm_cy 90)) (sm_yn 90) (sm_yn 90) ∈ sm_gw := sm_memP 28 (by decide +kernel) (by decide +kernel)
theorem sm_i91 : Cond.instanceMethod (sm_yn 91) ∈ sm_gw := sm_mem 703 (by decide +kernel) (by decide +kernel)
theorem sm_e91 : Cond.selects (sm_Rn (sm_cy 91)) (sm_yn 91) (sm_yn 91) ∈ sm_gw := sm_memP 29 (by decide +kernel) (by decide +kernel)
theorem sm_i92 : Cond.instanceMethod (sm_yn 92) ∈ sm_gw := sm_mem 689 (by decide +kernel) (by decide +kernel)
theorem sm_e92 : Cond.selects (sm_Rn (sm_cy 92)) (sm_yn 92) (sm_yn 92) ∈ sm_gw := sm_memP 27 (by decide +kernel) (by decide +kernel)
theorem sm_i93 : Cond.instanceMethod (sm_yn 93) ∈ sm_gw := sm_mem 711 (by decide +kernel) (by decide +kernel)
theorem sm_e93 : Cond.selects (sm_Rn (sm_cy 93)) (sm_yn 93) (sm_yn 93) ∈ sm_gw := sm_memP 31 (by decide +kernel) (by decide +kernel)
theorem sm_i94 : Cond.instanceMethod (sm_yn 94) ∈ sm_gw := sm_mem 685 (by decide +kernel) (by decide +kernel)
theorem sm_e94 : Cond.selects (sm_Rn (sm_cy 94)) (sm_yn 94) (sm_yn 94) ∈ sm_gw := sm_memP 26 (by decide +kernel) (by decide +kernel)
theorem sm_i95 : Cond.instanceMethod (sm_yn 95) ∈ sm_gw := sm_mem 677 (by decide +kernel) (by decide +kernel)
theorem sm_e95 : Cond.selects (sm_Rn (sm_cy 95)) (sm_yn 95) (sm_yn 95) ∈ sm_gw := sm_memP 24 (by decide +kernel) (by decide +kernel)
theorem sm_i96 : Cond.instanceMethod (sm_yn 96) ∈ sm_gw := sm_mem 719 (by decide +kernel) (by decide +kernel)
theorem sm_e96 : Cond.selects (sm_Rn (sm_cy 96)) (sm_yn 96) (sm_yn 96) ∈ sm_gw := sm_memP 33 (by decide +kernel) (by decide +kernel)
theorem sm_i97 : Cond.instanceMethod (sm_yn 97) ∈ sm_gw := sm_mem 715 (by decide +kernel) (by decide +kernel)
theorem sm_e97 : Cond.selects (sm_Rn (sm_cy 97)) (sm_yn 97) (sm_yn 97) ∈ sm_gw := sm_memP 32 (by decide +kernel) (by decide +kernel)
theorem sm_i98 : Cond.instanceMethod (sm_yn 98) ∈ sm_gw := sm_mem 723 (by decide +kernel) (by decide +kernel)
theorem sm_e98 : Cond.selects (sm_Rn (sm_cy 98)) (sm_yn 98) (sm_yn 98) ∈ sm_gw := sm_memP 34 (by decide +kernel) (by decide +kernel)
theorem sm_i99 : Cond.instanceMethod (sm_yn 99) ∈ sm_gw := sm_mem 727 (by decide +kernel) (by decide +kernel)
theorem sm_e99 : Cond.selects (sm_Rn (sm_cy 99)) (sm_yn 99) (sm_yn 99) ∈ sm_gw := sm_memP 35 (by decide +kernel) (by decide +kernel)
theorem sm_i100 : Cond.instanceMethod (sm_yn 100) ∈ sm_gw := sm_mem 673 (by decide +kernel) (by decide +kernel)
theorem sm_e100 : Cond.selects (sm_Rn (sm_cy 100)) (sm_yn 100) (sm_yn 100) ∈ sm_gw := sm_memP 23 (by decide +kernel) (by decide +kernel)
theorem sm_i101 : Cond.instanceMethod (sm_yn 101) ∈ sm_gw := sm_mem 735 (by decide +kernel) (by decide +kernel)
theorem sm_e101 : Cond.selects (sm_Rn (sm_cy 101)) (sm_yn 101) (sm_yn 101) ∈ sm_gw := sm_memP 36 (by decide +kernel) (by decide +kernel)
theorem sm_i102 : Cond.instanceMethod (sm_yn 102) ∈ sm_gw := sm_mem 743 (by decide +kernel) (by decide +kernel)
theorem sm_e102 : Cond.selects (sm_Rn (sm_cy 102)) (sm_yn 102) (sm_yn 102) ∈ sm_gw := sm_memP 37 (by decide +kernel) (by decide +kernel)
theorem sm_i103 : Cond.instanceMethod (sm_yn 103) ∈ sm_gw := sm_mem 648 (by decide +kernel) (by decide +kernel)
theorem sm_e103 : Cond.selects (sm_Rn (sm_cy 103)) (sm_yn 103) (sm_yn 103) ∈ sm_gw := sm_mem 649 (by decide +kernel) (by decide +kernel)
theorem sm_i104 : Cond.instanceMethod (sm_yn 104) ∈ sm_gw := sm_mem 730 (by decide +kernel) (by decide +kernel)
theorem sm_e104 : Cond.selects (sm_Rn (sm_cy 104)) (sm_yn 104) (sm_yn 104) ∈ sm_gw := sm_mem 731 (by decide +kernel) (by decide +kernel)
theorem sm_i105 : Cond.instanceMethod (sm_yn 105) ∈ sm_gw := sm_mem 738 (by decide +kernel) (by decide +kernel)
theorem sm_e105 : Cond.selects (sm_Rn (sm_cy 105)) (sm_yn 105) (sm_yn 105) ∈ sm_gw := sm_mem 739 (by decide +kernel) (by decide +kernel)
theorem sm_i106 : Cond.instanceMethod (sm_yn 106) ∈ sm_gw := sm_mem 746 (by decide +kernel) (by decide +kernel)
theorem sm_e106 : Cond.selects (sm_Rn (sm_cy 106)) (sm_yn 106) (sm_yn 106) ∈ sm_gw := sm_mem 747 (by decide +kernel) (by decide +kernel)
theorem sm_i107 : Cond.instanceMethod (sm_yn 107) ∈ sm_gw := sm_mem 750 (by decide +kernel) (by decide +kernel)
theorem sm_e107 : Cond.selects (sm_Rn (sm_cy 107)) (sm_yn 107) (sm_yn 107) ∈ sm_gw := sm_mem 751 (by decide +kernel) (by decide +kernel)
theorem sm_i108 : Cond.instanceMethod (sm_yn 108) ∈ sm_gw := sm_mem 754 (by decide +kernel) (by decide +kernel)
theorem sm_e108 : Cond.selects (sm_Rn (sm_cy 108)) (sm_yn 108) (sm_yn 108) ∈ sm_gw := sm_mem 755 (by decide +kernel) (by decide +kernel)
theorem sm_i109 : Cond.instanceMethod (sm_yn 109) ∈ sm_gw := sm_mem 763 (by decide +kernel) (by decide +kernel)
theorem sm_e109 : Cond.selects (sm_Rn (sm_cy 109)) (sm_yn 109) (sm_yn 109) ∈ sm_gw := sm_memP 38 (by decide +kernel) (by decide +kernel)
theorem sm_i110 : Cond.instanceMethod (sm_yn 110) ∈ sm_gw := sm_mem 758 (by decide +kernel) (by decide +kernel)
theorem sm_e110 : Cond.selects (sm_Rn (sm_cy 110)) (sm_yn 110) (sm_yn 110) ∈ sm_gw := sm_mem 759 (by decide +kernel) (by decide +kernel)
theorem sm_i111 : Cond.instanceMethod (sm_yn 111) ∈ sm_gw := sm_mem 766 (by decide +kernel) (by decide +kernel)
theorem sm_e111 : Cond.selects (sm_Rn (sm_cy 111)) (sm_yn 111) (sm_yn 111) ∈ sm_gw := sm_mem 767 (by decide +kernel) (by decide +kernel)
theorem sm_i112 : Cond.instanceMethod (sm_yn 112) ∈ sm_gw := sm_mem 770 (by decide +kernel) (by decide +kernel)
theorem sm_e112 : Cond.selects (sm_Rn (sm_cy 112)) (sm_yn 112) (sm_yn 112) ∈ sm_gw := sm_mem 771 (by decide +kernel) (by decide +kernel)
theorem sm_i113 : Cond.instanceMethod (sm_yn 113) ∈ sm_gw := sm_mem 774 (by decide +kernel) (by decide +kernel)
theorem sm_e113 : Cond.selects (sm_Rn (sm_cy 113)) (sm_yn 113) (sm_yn 113) ∈ sm_gw := sm_mem 775 (by decide +kernel) (by decide +kernel)
theorem sm_i114 : Cond.instanceMethod (sm_yn 114) ∈ sm_gw := sm_mem 778 (by decide +kernel) (by decide +kernel)
theorem sm_e114 : Cond.selects (sm_Rn (sm_cy 114)) (sm_yn 114) (sm_yn 114) ∈ sm_gw := sm_mem 779 (by decide +kernel) (by decide +kernel)
theorem sm_s115 : Cond.static (sm_yn 115) ∈ sm_gw := sm_mem 521 (by decide +kernel) (by decide +kernel)
def sm_nl : List Cond := [Cond.methodLinkNest (sm_Rn 0) 31 (sm_yn 64) RX4, Cond.methodLinkNest (sm_Rn 2) 112 (sm_yn 63) RX4, Cond.methodLinkNest (sm_Rn 2) 142 (sm_yn 64) RX4]
def sm_cok (e : Nat × Nat × Nat × Nat) : Prop := e.2.2.1 < sm_nm ∧ Cond.initialized (sm_Rn (sm_cy e.2.2.1)) ∈ sm_gw ∧ (e.2.2.2 = 0 → sm_sta e.2.2.1 = false ∧ sm_cy e.2.2.1 < 6 ∧ Cond.methodLink (sm_Rn e.1) e.2.1 (sm_yn e.2.2.1) ∈ sm_gw ∧ Cond.instanceMethod (sm_yn e.2.2.1) ∈ sm_gw ∧ Cond.selects (sm_Rn (sm_cy e.2.2.1)) (sm_yn e.2.2.1) (sm_yn e.2.2.1) ∈ sm_gw) ∧ (e.2.2.2 = 1 → sm_sta e.2.2.1 = true ∧ Cond.methodLink (sm_Rn e.1) e.2.1 (sm_yn e.2.2.1) ∈ sm_gw ∧ Cond.static (sm_yn e.2.2.1) ∈ sm_gw) ∧ (e.2.2.2 = 2 → sm_sta e.2.2.1 = true ∧ Cond.methodLinkNest (sm_Rn e.1) e.2.1 (sm_yn e.2.2.1) RX4 ∈ sm_nl ∧ Cond.static (sm_yn e.2.2.1) ∈ sm_gw) ∧ e.2.2.2 < 3
theorem sm_c0 : sm_cok (0, 31, 64, 2) := ⟨by decide, sm_in4, (fun h => absurd h (by decide)), (fun h => absurd h (by decide)), (fun _ => ⟨rfl, List.mem_of_getElem? (i := 0) rfl, sm_s64⟩), by decide⟩
theorem sm_c1 : sm_cok (0, 35, 1, 0) := ⟨by decide, sm_in0, (fun _ => ⟨rfl, by decide, sm_mem 436 (by decide +kernel) (by decide +kernel), sm_i1, sm_e1⟩), (fun h => absurd h (by decide)), (fun h => absurd h (by decide)), by decide⟩
theorem sm_c2 : sm_cok (0, 39, 6, 0) := ⟨by decide, sm_in0, (fun _ => ⟨rfl, by decide, sm_mem 504 (by decide +kernel) (by decide +kernel), sm_i6, sm_e6⟩), (fun h => absurd h (by decide)), (fun h => absurd h (by decide)), by decide⟩
theorem sm_c3 : sm_cok (0, 43, 7, 0) := ⟨by decide, sm_in0, (fun _ => ⟨rfl, by decide, sm_mem 508 (by decide +kernel) (by decide +kernel), sm_i7, sm_e7⟩), (fun h => absurd h (by decide)), (fun h => absurd h (by decide)), by decide⟩
theorem sm_c4 : sm_cok (2, 43, 17, 0) := ⟨by decide, sm_in1, (fun _ => ⟨rfl, by decide, sm_mem 295 (by decide +kernel) (by decide +kernel), sm_i17, sm_e17⟩), (fun h => absurd h (by decide)), (fun h => absurd h (by decide)), by decide⟩
theorem sm_c5 : sm_cok (2, 84, 0, 0) := ⟨by decide, sm_in0, (fun _ => ⟨rfl, by decide, sm_mem 383 (by decide +kernel) (by decide +kernel), sm_i0, sm_e0⟩), (fun h => absurd h (by decide)), (fun h => absurd h (by decide)), by decide⟩
theorem sm_c6 : sm_cok (2, 88, 3, 0) := ⟨by decide, sm_in0, (fun _ => ⟨rfl, by decide, sm_mem 364 (by decide +kernel) (by decide +kernel), sm_i3, sm_e3⟩), (fun h => absurd h (by decide)), (fun h => absurd h (by decide)), by decide⟩
theorem sm_c7 : sm_cok (2, 91, 21, 0) := ⟨by decide, sm_in2, (fun _ => ⟨rfl, by decide, sm_mem 360 (by decide +kernel) (by decide +kernel), sm_i21, sm_e21⟩), (fun h => absurd h (by decide)), (fun h => absurd h (by decide)), by decide⟩
theorem sm_c8 : sm_cok (2, 98, 26, 0) := ⟨by decide, sm_in2, (fun _ => ⟨rfl, by decide, sm_mem 396 (by decide +kernel) (by decide +kernel), sm_i26, sm_e26⟩), (fun h => absurd h (by decide)), (fun h => absurd h (by decide)), by decide⟩
theorem sm_c9 : sm_cok (2, 102, 22, 0) := ⟨by decide, sm_in2, (fun _ => ⟨rfl, by decide, sm_mem 400 (by decide +kernel) (by decide +kernel), sm_i22, sm_e22⟩), (fun h => absurd h (by decide)), (fun h => absurd h (by decide)), by decide⟩
theorem sm_c10 : sm_cok (2, 105, 27, 0) := ⟨by decide, sm_in2, (fun _ => ⟨rfl, by decide, sm_mem 401 (by decide +kernel) (by decide +kernel), sm_i27, sm_e27⟩), (fun h => absurd h (by decide)), (fun h => absurd h (by decide)), by decide⟩
theorem sm_c11 : sm_cok (2, 109, 28, 0) := ⟨by decide, sm_in2, (fun _ => ⟨rfl, by decide, sm_mem 441 (by decide +kernel) (by decide +kernel), sm_i28, sm_e28⟩), (fun h => absurd h (by decide)), (fun h => absurd h (by decide)), by decide⟩
theorem sm_c12 : sm_cok (2, 112, 63, 2) := ⟨by decide, sm_in4, (fun h => absurd h (by decide)), (fun h => absurd h (by decide)), (fun _ => ⟨rfl, List.mem_of_getElem? (i := 1) rfl, sm_s63⟩), by decide⟩
theorem sm_c13 : sm_cok (2, 115, 8, 0) := ⟨by decide, sm_in0, (fun _ => ⟨rfl, by decide, sm_mem 449 (by decide +kernel) (by decide +kernel), sm_i8, sm_e8⟩), (fun h => absurd h (by decide)), (fun h => absurd h (by decide)), by decide⟩
theorem sm_c14 : sm_cok (2, 119, 23, 0) := ⟨by decide, sm_in2, (fun _ => ⟨rfl, by decide, sm_mem 453 (by decide +kernel) (by decide +kernel), sm_i23, sm_e23⟩), (fun h => absurd h (by decide)), (fun h => absurd h (by decide)), by decide⟩
theorem sm_c15 : sm_cok (2, 122, 32, 0) := ⟨by decide, sm_in2, (fun _ => ⟨rfl, by decide, sm_mem 457 (by decide +kernel) (by decide +kernel), sm_i32, sm_e32⟩), (fun h => absurd h (by decide)), (fun h => absurd h (by decide)), by decide⟩
theorem sm_c16 : sm_cok (2, 128, 30, 0) := ⟨by decide, sm_in2, (fun _ => ⟨rfl, by decide, sm_mem 405 (by decide +kernel) (by decide +kernel), sm_i30, sm_e30⟩), (fun h => absurd h (by decide)), (fun h => absurd h (by decide)), by decide⟩
theorem sm_c17 : sm_cok (2, 132, 29, 0) := ⟨by decide, sm_in2, (fun _ => ⟨rfl, by decide, sm_mem 423 (by decide +kernel) (by decide +kernel), sm_i29, sm_e29⟩), (fun h => absurd h (by decide)), (fun h => absurd h (by decide)), by decide⟩
theorem sm_c18 : sm_cok (2, 135, 31, 0) := ⟨by decide, sm_in2, (fun _ => ⟨rfl, by decide, sm_mem 428 (by decide +kernel) (by decide +kernel), sm_i31, sm_e31⟩), (fun h => absurd h (by decide)), (fun h => absurd h (by decide)), by decide⟩
theorem sm_c19 : sm_cok (2, 139, 4, 0) := ⟨by decide, sm_in0, (fun _ => ⟨rfl, by decide, sm_mem 409 (by decide +kernel) (by decide +kernel), sm_i4, sm_e4⟩), (fun h => absurd h (by decide)), (fun h => absurd h (by decide)), by decide⟩
theorem sm_c20 : sm_cok (2, 142, 64, 2) := ⟨by decide, sm_in4, (fun h => absurd h (by decide)), (fun h => absurd h (by decide)), (fun _ => ⟨rfl, List.mem_of_getElem? (i := 2) rfl, sm_s64⟩), by decide⟩
theorem sm_c21 : sm_cok (2, 152, 18, 0) := ⟨by decide, sm_in1, (fun _ => ⟨rfl, by decide, sm_mem 419 (by decide +kernel) (by decide +kernel), sm_i18, sm_e18⟩), (fun h => absurd h (by decide)), (fun h => absurd h (by decide)), by decide⟩
theorem sm_c22 : sm_cok (2, 167, 2, 0) := ⟨by decide, sm_in0, (fun _ => ⟨rfl, by decide, sm_mem 432 (by decide +kernel) (by decide +kernel), sm_i2, sm_e2⟩), (fun h => absurd h (by decide)), (fun h => absurd h (by decide)), by decide⟩
theorem sm_c23 : sm_cok (2, 171, 1, 0) := ⟨by decide, sm_in0, (fun _ => ⟨rfl, by decide, sm_mem 440 (by decide +kernel) (by decide +kernel), sm_i1, sm_e1⟩), (fun h => absurd h (by decide)), (fun h => absurd h (by decide)), by decide⟩
theorem sm_c24 : sm_cok (2, 178, 33, 0) := ⟨by decide, sm_in2, (fun _ => ⟨rfl, by decide, sm_mem 461 (by decide +kernel) (by decide +kernel), sm_i33, sm_e33⟩), (fun h => absurd h (by decide)), (fun h => absurd h (by decide)), by decide⟩
theorem sm_c25 : sm_cok (3, 22, 9, 0) := ⟨by decide, sm_in1, (fun _ => ⟨rfl, by decide, sm_mem 239 (by decide +kernel) (by decide +kernel), sm_i9, sm_e9⟩), (fun h => absurd h (by decide)), (fun h => absurd h (by decide)), by decide⟩
theorem sm_c26 : sm_cok (3, 30, 36, 0) := ⟨by decide, sm_in3, (fun _ => ⟨rfl, by decide, sm_mem 243 (by decide +kernel) (by decide +kernel), sm_i36, sm_e36⟩), (fun h => absurd h (by decide)), (fun h => absurd h (by decide)), by decide⟩
theorem sm_c27 : sm_cok (3, 34, 40, 0) := ⟨by decide, sm_in3, (fun _ => ⟨rfl, by decide, sm_mem 247 (by decide +kernel) (by decide +kernel), sm_i40, sm_e40⟩), (fun h => absurd h (by decide)), (fun h => absurd h (by decide)), by decide⟩
theorem sm_c28 : sm_cok (3, 38, 37, 0) := ⟨by decide, sm_in3, (fun _ => ⟨rfl, by decide, sm_mem 251 (by decide +kernel) (by decide +kernel), sm_i37, sm_e37⟩), (fun h => absurd h (by decide)), (fun h => absurd h (by decide)), by decide⟩
theorem sm_c29 : sm_cok (3, 42, 10, 0) := ⟨by decide, sm_in1, (fun _ => ⟨rfl, by decide, sm_mem 263 (by decide +kernel) (by decide +kernel), sm_i10, sm_e10⟩), (fun h => absurd h (by decide)), (fun h => absurd h (by decide)), by decide⟩
theorem sm_c30 : sm_cok (3, 45, 11, 0) := ⟨by decide, sm_in1, (fun _ => ⟨rfl, by decide, sm_mem 267 (by decide +kernel) (by decide +kernel), sm_i11, sm_e11⟩), (fun h => absurd h (by decide)), (fun h => absurd h (by decide)), by decide⟩
theorem sm_c31 : sm_cok (3, 49, 12, 0) := ⟨by decide, sm_in1, (fun _ => ⟨rfl, by decide, sm_mem 271 (by decide +kernel) (by decide +kernel), sm_i12, sm_e12⟩), (fun h => absurd h (by decide)), (fun h => absurd h (by decide)), by decide⟩
theorem sm_c32 : sm_cok (3, 53, 13, 0) := ⟨by decide, sm_in1, (fun _ => ⟨rfl, by decide, sm_mem 275 (by decide +kernel) (by decide +kernel), sm_i13, sm_e13⟩), (fun h => absurd h (by decide)), (fun h => absurd h (by decide)), by decide⟩
theorem sm_c33 : sm_cok (3, 56, 14, 0) := ⟨by decide, sm_in1, (fun _ => ⟨rfl, by decide, sm_mem 279 (by decide +kernel) (by decide +kernel), sm_i14, sm_e14⟩), (fun h => absurd h (by decide)), (fun h => absurd h (by decide)), by decide⟩
theorem sm_c34 : sm_cok (3, 59, 15, 0) := ⟨by decide, sm_in1, (fun _ => ⟨rfl, by decide, sm_mem 283 (by decide +kernel) (by decide +kernel), sm_i15, sm_e15⟩), (fun h => absurd h (by decide)), (fun h => absurd h (by decide)), by decide⟩
theorem sm_c35 : sm_cok (3, 62, 38, 0) := ⟨by decide, sm_in3, (fun _ => ⟨rfl, by decide, sm_mem 255 (by decide +kernel) (by decide +kernel), sm_i38, sm_e38⟩), (fun h => absurd h (by decide)), (fun h => absurd h (by decide)), by decide⟩
theorem sm_c36 : sm_cok (3, 66, 39, 0) := ⟨by decide, sm_in3, (fun _ => ⟨rfl, by decide, sm_mem 259 (by decide +kernel) (by decide +kernel), sm_i39, sm_e39⟩), (fun h => absurd h (by decide)), (fun h => absurd h (by decide)), by decide⟩
theorem sm_c37 : sm_cok (4, 52, 34, 0) := ⟨by decide, sm_in3, (fun _ => ⟨rfl, by decide, sm_mem 231 (by decide +kernel) (by decide +kernel), sm_i34, sm_e34⟩), (fun h => absurd h (by decide)), (fun h => absurd h (by decide)), by decide⟩
theorem sm_c38 : sm_cok (4, 56, 35, 0) := ⟨by decide, sm_in3, (fun _ => ⟨rfl, by decide, sm_mem 235 (by decide +kernel) (by decide +kernel), sm_i35, sm_e35⟩), (fun h => absurd h (by decide)), (fun h => absurd h (by decide)), by decide⟩
theorem sm_c39 : sm_cok (4, 60, 59, 0) := ⟨by decide, sm_in4, (fun _ => ⟨rfl, by decide, sm_mem 287 (by decide +kernel) (by decide +kernel), sm_i59, sm_e59⟩), (fun h => absurd h (by decide)), (fun h => absurd h (by decide)), by decide⟩
theorem sm_c40 : sm_cok (4, 66, 16, 0) := ⟨by decide, sm_in1, (fun _ => ⟨rfl, by decide, sm_mem 344 (by decide +kernel) (by decide +kernel), sm_i16, sm_e16⟩), (fun h => absurd h (by decide)), (fun h => absurd h (by decide)), by decide⟩
theorem sm_c41 : sm_cok (4, 73, 58, 0) := ⟨by decide, sm_in4, (fun _ => ⟨rfl, by decide, sm_mem 352 (by decide +kernel) (by decide +kernel), sm_i58, sm_e58⟩), (fun h => absurd h (by decide)), (fun h => absurd h (by decide)), by decide⟩
theorem sm_c42 : sm_cok (4, 77, 60, 0) := ⟨by decide, sm_in4, (fun _ => ⟨rfl, by decide, sm_mem 368 (by decide +kernel) (by decide +kernel), sm_i60, sm_e60⟩), (fun h => absurd h (by decide)), (fun h => absurd h (by decide)), by decide⟩
theorem sm_c43 : sm_cok (4, 80, 62, 0) := ⟨by decide, sm_in4, (fun _ => ⟨rfl, by decide, sm_mem 388 (by decide +kernel) (by decide +kernel), sm_i62, sm_e62⟩), (fun h => absurd h (by decide)), (fun h => absurd h (by decide)), by decide⟩
theorem sm_c44 : sm_cok (4, 84, 56, 0) := ⟨by decide, sm_in4, (fun _ => ⟨rfl, by decide, sm_mem 469 (by decide +kernel) (by decide +kernel), sm_i56, sm_e56⟩), (fun h => absurd h (by decide)), (fun h => absurd h (by decide)), by decide⟩
theorem sm_c45 : sm_cok (4, 97, 57, 0) := ⟨by decide, sm_in4, (fun _ => ⟨rfl, by decide, sm_mem 477 (by decide +kernel) (by decide +kernel), sm_i57, sm_e57⟩), (fun h => absurd h (by decide)), (fun h => absurd h (by decide)), by decide⟩
theorem sm_c46 : sm_cok (4, 118, 20, 0) := ⟨by decide, sm_in2, (fun _ => ⟨rfl, by decide, sm_mem 376 (by decide +kernel) (by decide +kernel), sm_i20, sm_e20⟩), (fun h => absurd h (by decide)), (fun h => absurd h (by decide)), by decide⟩
theorem sm_c47 : sm_cok (4, 122, 3, 0) := ⟨by decide, sm_in0, (fun _ => ⟨rfl, by decide, sm_mem 493 (by decide +kernel) (by decide +kernel), sm_i3, sm_e3⟩), (fun h => absurd h (by decide)), (fun h => absurd h (by decide)), by decide⟩
theorem sm_c48 : sm_cok (4, 126, 21, 0) := ⟨by decide, sm_in2, (fun _ => ⟨rfl, by decide, sm_mem 494 (by decide +kernel) (by decide +kernel), sm_i21, sm_e21⟩), (fun h => absurd h (by decide)), (fun h => absurd h (by decide)), by decide⟩
theorem sm_c49 : sm_cok (4, 129, 18, 0) := ⟨by decide, sm_in1, (fun _ => ⟨rfl, by decide, sm_mem 495 (by decide +kernel) (by decide +kernel), sm_i18, sm_e18⟩), (fun h => absurd h (by decide)), (fun h => absurd h (by decide)), by decide⟩
theorem sm_c50 : sm_cok (4, 135, 5, 0) := ⟨by decide, sm_in0, (fun _ => ⟨rfl, by decide, sm_mem 500 (by decide +kernel) (by decide +kernel), sm_i5, sm_e5⟩), (fun h => absurd h (by decide)), (fun h => absurd h (by decide)), by decide⟩
theorem sm_c51 : sm_cok (4, 145, 24, 0) := ⟨by decide, sm_in2, (fun _ => ⟨rfl, by decide, sm_mem 516 (by decide +kernel) (by decide +kernel), sm_i24, sm_e24⟩), (fun h => absurd h (by decide)), (fun h => absurd h (by decide)), by decide⟩
theorem sm_c52 : sm_cok (4, 148, 115, 1) := ⟨by decide, sm_in6, (fun h => absurd h (by decide)), (fun _ => ⟨rfl, sm_mem 520 (by decide +kernel) (by decide +kernel), sm_s115⟩), (fun h => absurd h (by decide)), by decide⟩
theorem sm_c53 : sm_cok (4, 162, 63, 1) := ⟨by decide, sm_in4, (fun h => absurd h (by decide)), (fun _ => ⟨rfl, sm_mem 530 (by decide +kernel) (by decide +kernel), sm_s63⟩), (fun h => absurd h (by decide)), by decide⟩
theorem sm_c54 : sm_cok (4, 168, 23, 0) := ⟨by decide, sm_in2, (fun _ => ⟨rfl, by decide, sm_mem 535 (by decide +kernel) (by decide +kernel), sm_i23, sm_e23⟩), (fun h => absurd h (by decide)), (fun h => absurd h (by decide)), by decide⟩
theorem sm_c55 : sm_cok (4, 180, 22, 0) := ⟨by decide, sm_in2, (fun _ => ⟨rfl, by decide, sm_mem 356 (by decide +kernel) (by decide +kernel), sm_i22, sm_e22⟩), (fun h => absurd h (by decide)), (fun h => absurd h (by decide)), by decide⟩
theorem sm_c56 : sm_cok (4, 186, 19, 0) := ⟨by decide, sm_in2, (fun _ => ⟨rfl, by decide, sm_mem 291 (by decide +kernel) (by decide +kernel), sm_i19, sm_e19⟩), (fun h => absurd h (by decide)), (fun h => absurd h (by decide)), by decide⟩
theorem sm_c57 : sm_cok (4, 190, 61, 0) := ⟨by decide, sm_in4, (fun _ => ⟨rfl, by decide, sm_mem 372 (by decide +kernel) (by decide +kernel), sm_i61, sm_e61⟩), (fun h => absurd h (by decide)), (fun h => absurd h (by decide)), by decide⟩
theorem sm_c58 : sm_cok (4, 193, 25, 0) := ⟨by decide, sm_in2, (fun _ => ⟨rfl, by decide, sm_mem 392 (by decide +kernel) (by decide +kernel), sm_i25, sm_e25⟩), (fun h => absurd h (by decide)), (fun h => absurd h (by decide)), by decide⟩
theorem sm_c59 : sm_cok (5, 35, 70, 0) := ⟨by decide, sm_in5, (fun _ => ⟨rfl, by decide, sm_mem 546 (by decide +kernel) (by decide +kernel), sm_i70, sm_e70⟩), (fun h => absurd h (by decide)), (fun h => absurd h (by decide)), by decide⟩
theorem sm_c60 : sm_cok (5, 38, 71, 0) := ⟨by decide, sm_in5, (fun _ => ⟨rfl, by decide, sm_mem 550 (by decide +kernel) (by decide +kernel), sm_i71, sm_e71⟩), (fun h => absurd h (by decide)), (fun h => absurd h (by decide)), by decide⟩
theorem sm_c61 : sm_cok (5, 42, 82, 0) := ⟨by decide, sm_in5, (fun _ => ⟨rfl, by decide, sm_mem 554 (by decide +kernel) (by decide +kernel), sm_i82, sm_e82⟩), (fun h => absurd h (by decide)), (fun h => absurd h (by decide)), by decide⟩
theorem sm_c62 : sm_cok (5, 45, 65, 1) := ⟨by decide, sm_in5, (fun h => absurd h (by decide)), (fun _ => ⟨rfl, sm_mem 600 (by decide +kernel) (by decide +kernel), sm_s65⟩), (fun h => absurd h (by decide)), by decide⟩
theorem sm_c63 : sm_cok (5, 56, 73, 0) := ⟨by decide, sm_in5, (fun _ => ⟨rfl, by decide, sm_mem 623 (by decide +kernel) (by decide +kernel), sm_i73, sm_e73⟩), (fun h => absurd h (by decide)), (fun h => absurd h (by decide)), by decide⟩
theorem sm_c64 : sm_cok (5, 60, 72, 0) := ⟨by decide, sm_in5, (fun _ => ⟨rfl, by decide, sm_mem 627 (by decide +kernel) (by decide +kernel), sm_i72, sm_e72⟩), (fun h => absurd h (by decide)), (fun h => absurd h (by decide)), by decide⟩
theorem sm_c65 : sm_cok (5, 64, 74, 0) := ⟨by decide, sm_in5, (fun _ => ⟨rfl, by decide, sm_mem 619 (by decide +kernel) (by decide +kernel), sm_i74, sm_e74⟩), (fun h => absurd h (by decide)), (fun h => absurd h (by decide)), by decide⟩
theorem sm_c66 : sm_cok (5, 67, 75, 0) := ⟨by decide, sm_in5, (fun _ => ⟨rfl, by decide, sm_mem 635 (by decide +kernel) (by decide +kernel), sm_i75, sm_e75⟩), (fun h => absurd h (by decide)), (fun h => absurd h (by decide)), by decide⟩
theorem sm_c67 : sm_cok (5, 70, 76, 0) := ⟨by decide, sm_in5, (fun _ => ⟨rfl, by decide, sm_mem 631 (by decide +kernel) (by decide +kernel), sm_i76, sm_e76⟩), (fun h => absurd h (by decide)), (fun h => absurd h (by decide)), by decide⟩
theorem sm_c68 : sm_cok (5, 73, 77, 0) := ⟨by decide, sm_in5, (fun _ => ⟨rfl, by decide, sm_mem 639 (by decide +kernel) (by decide +kernel), sm_i77, sm_e77⟩), (fun h => absurd h (by decide)), (fun h => absurd h (by decide)), by decide⟩
theorem sm_c69 : sm_cok (5, 77, 78, 0) := ⟨by decide, sm_in5, (fun _ => ⟨rfl, by decide, sm_mem 615 (by decide +kernel) (by decide +kernel), sm_i78, sm_e78⟩), (fun h => absurd h (by decide)), (fun h => absurd h (by decide)), by decide⟩
theorem sm_c70 : sm_cok (5, 81, 79, 0) := ⟨by decide, sm_in5, (fun _ => ⟨rfl, by decide, sm_mem 611 (by decide +kernel) (by decide +kernel), sm_i79, sm_e79⟩), (fun h => absurd h (by decide)), (fun h => absurd h (by decide)), by decide⟩
theorem sm_c71 : sm_cok (5, 88, 85, 0) := ⟨by decide, sm_in5, (fun _ => ⟨rfl, by decide, sm_mem 667 (by decide +kernel) (by decide +kernel), sm_i85, sm_e85⟩), (fun h => absurd h (by decide)), (fun h => absurd h (by decide)), by decide⟩
theorem sm_c72 : sm_cok (5, 92, 83, 0) := ⟨by decide, sm_in5, (fun _ => ⟨rfl, by decide, sm_mem 659 (by decide +kernel) (by decide +kernel), sm_i83, sm_e83⟩), (fun h => absurd h (by decide)), (fun h => absurd h (by decide)), by decide⟩
theorem sm_c73 : sm_cok (5, 95, 86, 0) := ⟨by decide, sm_in5, (fun _ => ⟨rfl, by decide, sm_mem 663 (by decide +kernel) (by decide +kernel), sm_i86, sm_e86⟩), (fun h => absurd h (by decide)), (fun h => absurd h (by decide)), by decide⟩
theorem sm_c74 : sm_cok (5, 99, 87, 0) := ⟨by decide, sm_in5, (fun _ => ⟨rfl, by decide, sm_mem 655 (by decide +kernel) (by decide +kernel), sm_i87, sm_e87⟩), (fun h => absurd h (by decide)), (fun h => absurd h (by decide)), by decide⟩
theorem sm_c75 : sm_cok (5, 105, 66, 1) := ⟨by decide, sm_in5, (fun h => absurd h (by decide)), (fun _ => ⟨rfl, sm_mem 691 (by decide +kernel) (by decide +kernel), sm_s66⟩), (fun h => absurd h (by decide)), by decide⟩
theorem sm_c76 : sm_cok (5, 108, 67, 1) := ⟨by decide, sm_in5, (fun h => absurd h (by decide)), (fun _ => ⟨rfl, sm_mem 694 (by decide +kernel) (by decide +kernel), sm_s67⟩), (fun h => absurd h (by decide)), by decide⟩
theorem sm_c77 : sm_cok (5, 111, 89, 0) := ⟨by decide, sm_in5, (fun _ => ⟨rfl, by decide, sm_mem 705 (by decide +kernel) (by decide +kernel), sm_i89, sm_e89⟩), (fun h => absurd h (by decide)), (fun h => absurd h (by decide)), by decide⟩
theorem sm_c78 : sm_cok (5, 114, 92, 0) := ⟨by decide, sm_in5, (fun _ => ⟨rfl, by decide, sm_mem 687 (by decide +kernel) (by decide +kernel), sm_i92, sm_e92⟩), (fun h => absurd h (by decide)), (fun h => absurd h (by decide)), by decide⟩
theorem sm_c79 : sm_cok (5, 117, 84, 0) := ⟨by decide, sm_in5, (fun _ => ⟨rfl, by decide, sm_mem 679 (by decide +kernel) (by decide +kernel), sm_i84, sm_e84⟩), (fun h => absurd h (by decide)), (fun h => absurd h (by decide)), by decide⟩
theorem sm_c80 : sm_cok (5, 120, 91, 0) := ⟨by decide, sm_in5, (fun _ => ⟨rfl, by decide, sm_mem 701 (by decide +kernel) (by decide +kernel), sm_i91, sm_e91⟩), (fun h => absurd h (by decide)), (fun h => absurd h (by decide)), by decide⟩
theorem sm_c81 : sm_cok (5, 124, 90, 0) := ⟨by decide, sm_in5, (fun _ => ⟨rfl, by decide, sm_mem 697 (by decide +kernel) (by decide +kernel), sm_i90, sm_e90⟩), (fun h => absurd h (by decide)), (fun h => absurd h (by decide)), by decide⟩
theorem sm_c82 : sm_cok (5, 127, 94, 0) := ⟨by decide, sm_in5, (fun _ => ⟨rfl, by decide, sm_mem 683 (by decide +kernel) (by decide +kernel), sm_i94, sm_e94⟩), (fun h => absurd h (by decide)), (fun h => absurd h (by decide)), by decide⟩
theorem sm_c83 : sm_cok (5, 131, 93, 0) := ⟨by decide, sm_in5, (fun _ => ⟨rfl, by decide, sm_mem 709 (by decide +kernel) (by decide +kernel), sm_i93, sm_e93⟩), (fun h => absurd h (by decide)), (fun h => absurd h (by decide)), by decide⟩
theorem sm_c84 : sm_cok (5, 134, 97, 0) := ⟨by decide, sm_in5, (fun _ => ⟨rfl, by decide, sm_mem 713 (by decide +kernel) (by decide +kernel), sm_i97, sm_e97⟩), (fun h => absurd h (by decide)), (fun h => absurd h (by decide)), by decide⟩
theorem sm_c85 : sm_cok (5, 137, 98, 0) := ⟨by decide, sm_in5, (fun _ => ⟨rfl, by decide, sm_mem 721 (by decide +kernel) (by decide +kernel), sm_i98, sm_e98⟩), (fun h => absurd h (by decide)), (fun h => absurd h (by decide)), by decide⟩
theorem sm_c86 : sm_cok (5, 140, 99, 0) := ⟨by decide, sm_in5, (fun _ => ⟨rfl, by decide, sm_mem 725 (by decide +kernel) (by decide +kernel), sm_i99, sm_e99⟩), (fun h => absurd h (by decide)), (fun h => absurd h (by decide)), by decide⟩
theorem sm_c87 : sm_cok (5, 143, 96, 0) := ⟨by decide, sm_in5, (fun _ => ⟨rfl, by decide, sm_mem 717 (by decide +kernel) (by decide +kernel), sm_i96, sm_e96⟩), (fun h => absurd h (by decide)), (fun h => absurd h (by decide)), by decide⟩
theorem sm_c88 : sm_cok (5, 146, 88, 0) := ⟨by decide, sm_in5, (fun _ => ⟨rfl, by decide, sm_mem 651 (by decide +kernel) (by decide +kernel), sm_i88, sm_e88⟩), (fun h => absurd h (by decide)), (fun h => absurd h (by decide)), by decide⟩
theorem sm_c89 : sm_cok (5, 149, 100, 0) := ⟨by decide, sm_in5, (fun _ => ⟨rfl, by decide, sm_mem 671 (by decide +kernel) (by decide +kernel), sm_i100, sm_e100⟩), (fun h => absurd h (by decide)), (fun h => absurd h (by decide)), by decide⟩
theorem sm_c90 : sm_cok (5, 152, 95, 0) := ⟨by decide, sm_in5, (fun _ => ⟨rfl, by decide, sm_mem 675 (by decide +kernel) (by decide +kernel), sm_i95, sm_e95⟩), (fun h => absurd h (by decide)), (fun h => absurd h (by decide)), by decide⟩
theorem sm_c91 : sm_cok (5, 155, 101, 0) := ⟨by decide, sm_in5, (fun _ => ⟨rfl, by decide, sm_mem 733 (by decide +kernel) (by decide +kernel), sm_i101, sm_e101⟩), (fun h => absurd h (by decide)), (fun h => absurd h (by decide)), by decide⟩
theorem sm_c92 : sm_cok (5, 158, 102, 0) := ⟨by decide, sm_in5, (fun _ => ⟨rfl, by decide, sm_mem 741 (by decide +kernel) (by decide +kernel), sm_i102, sm_e102⟩), (fun h => absurd h (by decide)), (fun h => absurd h (by decide)), by decide⟩
theorem sm_c93 : sm_cok (5, 161, 109, 0) := ⟨by decide, sm_in5, (fun _ => ⟨rfl, by decide, sm_mem 761 (by decide +kernel) (by decide +kernel), sm_i109, sm_e109⟩), (fun h => absurd h (by decide)), (fun h => absurd h (by decide)), by decide⟩
theorem sm_ct_ok : ∀ e ∈ sm_ct, sm_cok e := (List.forall_mem_cons.mpr ⟨sm_c0, (List.forall_mem_cons.mpr ⟨sm_c1, (List.forall_mem_cons.mpr ⟨sm_c2, (List.forall_mem_cons.mpr ⟨sm_c3, (List.forall_mem_cons.mpr ⟨sm_c4, (List.forall_mem_cons.mpr ⟨sm_c5, (List.forall_mem_cons.mpr ⟨sm_c6, (List.forall_mem_cons.mpr ⟨sm_c7, (List.forall_mem_cons.mpr ⟨sm_c8, (List.forall_mem_cons.mpr ⟨sm_c9, (List.forall_mem_cons.mpr ⟨sm_c10, (List.forall_mem_cons.mpr ⟨sm_c11, (List.forall_mem_cons.mpr ⟨sm_c12, (List.forall_mem_cons.mpr ⟨sm_c13, (List.forall_mem_cons.mpr ⟨sm_c14, (List.forall_mem_cons.mpr ⟨sm_c15, (List.forall_mem_cons.mpr ⟨sm_c16, (List.forall_mem_cons.mpr ⟨sm_c17, (List.forall_mem_cons.mpr ⟨sm_c18, (List.forall_mem_cons.mpr ⟨sm_c19, (List.forall_mem_cons.mpr ⟨sm_c20, (List.forall_mem_cons.mpr ⟨sm_c21, (List.forall_mem_cons.mpr ⟨sm_c22, (List.forall_mem_cons.mpr ⟨sm_c23, (List.forall_mem_cons.mpr ⟨sm_c24, (List.forall_mem_cons.mpr ⟨sm_c25, (List.forall_mem_cons.mpr ⟨sm_c26, (List.forall_mem_cons.mpr ⟨sm_c27, (List.forall_mem_cons.mpr ⟨sm_c28, (List.forall_mem_cons.mpr ⟨sm_c29, (List.forall_mem_cons.mpr ⟨sm_c30, (List.forall_mem_cons.mpr ⟨sm_c31, (List.forall_mem_cons.mpr ⟨sm_c32, (List.forall_mem_cons.mpr ⟨sm_c33, (List.forall_mem_cons.mpr ⟨sm_c34, (List.forall_mem_cons.mpr ⟨sm_c35, (List.forall_mem_cons.mpr ⟨sm_c36, (List.forall_mem_cons.mpr ⟨sm_c37, (List.forall_mem_cons.mpr ⟨sm_c38, (List.forall_mem_cons.mpr ⟨sm_c39, (List.forall_mem_cons.mpr ⟨sm_c40, (List.forall_mem_cons.mpr ⟨sm_c41, (List.forall_mem_cons.mpr ⟨sm_c42, (List.forall_mem_cons.mpr ⟨sm_c43, (List.forall_mem_cons.mpr ⟨sm_c44, (List.forall_mem_cons.mpr ⟨sm_c45, (List.forall_mem_cons.mpr ⟨sm_c46, (List.forall_mem_cons.mpr ⟨sm_c47, (List.forall_mem_cons.mpr ⟨sm_c48, (List.forall_mem_cons.mpr ⟨sm_c49, (List.forall_mem_cons.mpr ⟨sm_c50, (List.forall_mem_cons.mpr ⟨sm_c51, (List.forall_mem_cons.mpr ⟨sm_c52, (List.forall_mem_cons.mpr ⟨sm_c53, (List.forall_mem_cons.mpr ⟨sm_c54, (List.forall_mem_cons.mpr ⟨sm_c55, (List.forall_mem_cons.mpr ⟨sm_c56, (List.forall_mem_cons.mpr ⟨sm_c57, (List.forall_mem_cons.mpr ⟨sm_c58, (List.forall_mem_cons.mpr ⟨sm_c59, (List.forall_mem_cons.mpr ⟨sm_c60, (List.forall_mem_cons.mpr ⟨sm_c61, (List.forall_mem_cons.mpr ⟨sm_c62, (List.forall_mem_cons.mpr ⟨sm_c63, (List.forall_mem_cons.mpr ⟨sm_c64, (List.forall_mem_cons.mpr ⟨sm_c65, (List.forall_mem_cons.mpr ⟨sm_c66, (List.forall_mem_cons.mpr ⟨sm_c67, (List.forall_mem_cons.mpr ⟨sm_c68, (List.forall_mem_cons.mpr ⟨sm_c69, (List.forall_mem_cons.mpr ⟨sm_c70, (List.forall_mem_cons.mpr ⟨sm_c71, (List.forall_mem_cons.mpr ⟨sm_c72, (List.forall_mem_cons.mpr ⟨sm_c73, (List.forall_mem_cons.mpr ⟨sm_c74, (List.forall_mem_cons.mpr ⟨sm_c75, (List.forall_mem_cons.mpr ⟨sm_c76, (List.forall_mem_cons.mpr ⟨sm_c77, (List.forall_mem_cons.mpr ⟨sm_c78, (List.forall_mem_cons.mpr ⟨sm_c79, (List.forall_mem_cons.mpr ⟨sm_c80, (List.forall_mem_cons.mpr ⟨sm_c81, (List.forall_mem_cons.mpr ⟨sm_c82, (List.forall_mem_cons.mpr ⟨sm_c83, (List.forall_mem_cons.mpr ⟨sm_c84, (List.forall_mem_cons.mpr ⟨sm_c85, (List.forall_mem_cons.mpr ⟨sm_c86, (List.forall_mem_cons.mpr ⟨sm_c87, (List.forall_mem_cons.mpr ⟨sm_c88, (List.forall_mem_cons.mpr ⟨sm_c89, (List.forall_mem_cons.mpr ⟨sm_c90, (List.forall_mem_cons.mpr ⟨sm_c91, (List.forall_mem_cons.mpr ⟨sm_c92, (List.forall_mem_cons.mpr ⟨sm_c93, (fun _ h => absurd h List.not_mem_nil)⟩)⟩)⟩)⟩)⟩)⟩)⟩)⟩)⟩)⟩)⟩)⟩)⟩)⟩)⟩)⟩)⟩)⟩)⟩)⟩)⟩)⟩)⟩)⟩)⟩)⟩)⟩)⟩)⟩)⟩)⟩)⟩)⟩)⟩)⟩)⟩)⟩)⟩)⟩)⟩)⟩)⟩)⟩)⟩)⟩)⟩)⟩)⟩)⟩)⟩)⟩)⟩)⟩)⟩)⟩)⟩)⟩)⟩)⟩)⟩)⟩)⟩)⟩)⟩)⟩)⟩)⟩)⟩)⟩)⟩)⟩)⟩)⟩)⟩)⟩)⟩)⟩)⟩)⟩)⟩)⟩)⟩)⟩)⟩)⟩)⟩)⟩)⟩)⟩)⟩)⟩)⟩)⟩)⟩)
def sm_fok (e : Nat × Nat × Nat × Nat) : Prop := e.2.2.1 < 6 ∧ e.2.2.2 < sm_Nf e.2.2.1 ∧ Cond.fieldLink (sm_Rn e.1) e.2.1 (sm_T e.2.2.1 e.2.2.2).1 (sm_T e.2.2.1 e.2.2.2).2.1 (sm_T e.2.2.1 e.2.2.2).2.2.1 ∈ sm_gw
theorem sm_f0 : sm_fok (0, 9, 0, 1) := ⟨by decide, by decide, sm_mem 115 (by decide +kernel) (by decide +kernel)⟩
theorem sm_f1 : sm_fok (0, 15, 0, 2) := ⟨by decide, by decide, sm_mem 116 (by decide +kernel) (by decide +kernel)⟩
theorem sm_f2 : sm_fok (0, 18, 0, 3) := ⟨by decide, by decide, sm_mem 118 (by decide +kernel) (by decide +kernel)⟩
theorem sm_f3 : sm_fok (0, 21, 0, 0) := ⟨by decide, by decide, sm_mem 112 (by decide +kernel) (by decide +kernel)⟩
theorem sm_f4 : sm_fok (1, 9, 1, 8) := ⟨by decide, by decide, sm_mem 68 (by decide +kernel) (by decide +kernel)⟩
theorem sm_f5 : sm_fok (1, 15, 1, 9) := ⟨by decide, by decide, sm_mem 70 (by decide +kernel) (by decide +kernel)⟩
theorem sm_f6 : sm_fok (1, 18, 1, 10) := ⟨by decide, by decide, sm_mem 72 (by decide +kernel) (by decide +kernel)⟩
theorem sm_f7 : sm_fok (1, 21, 1, 11) := ⟨by decide, by decide, sm_mem 74 (by decide +kernel) (by decide +kernel)⟩
theorem sm_f8 : sm_fok (1, 24, 1, 0) := ⟨by decide, by decide, sm_mem 49 (by decide +kernel) (by decide +kernel)⟩
theorem sm_f9 : sm_fok (1, 28, 1, 1) := ⟨by decide, by decide, sm_mem 52 (by decide +kernel) (by decide +kernel)⟩
theorem sm_f10 : sm_fok (1, 31, 1, 2) := ⟨by decide, by decide, sm_mem 55 (by decide +kernel) (by decide +kernel)⟩
theorem sm_f11 : sm_fok (1, 34, 1, 3) := ⟨by decide, by decide, sm_mem 58 (by decide +kernel) (by decide +kernel)⟩
theorem sm_f12 : sm_fok (1, 37, 1, 4) := ⟨by decide, by decide, sm_mem 60 (by decide +kernel) (by decide +kernel)⟩
theorem sm_f13 : sm_fok (1, 40, 1, 5) := ⟨by decide, by decide, sm_mem 63 (by decide +kernel) (by decide +kernel)⟩
theorem sm_f14 : sm_fok (1, 43, 1, 6) := ⟨by decide, by decide, sm_mem 65 (by decide +kernel) (by decide +kernel)⟩
theorem sm_f15 : sm_fok (1, 46, 1, 7) := ⟨by decide, by decide, sm_mem 67 (by decide +kernel) (by decide +kernel)⟩
theorem sm_f16 : sm_fok (2, 9, 2, 0) := ⟨by decide, by decide, sm_mem 129 (by decide +kernel) (by decide +kernel)⟩
theorem sm_f17 : sm_fok (2, 15, 2, 1) := ⟨by decide, by decide, sm_mem 131 (by decide +kernel) (by decide +kernel)⟩
theorem sm_f18 : sm_fok (2, 18, 2, 2) := ⟨by decide, by decide, sm_mem 133 (by decide +kernel) (by decide +kernel)⟩
theorem sm_f19 : sm_fok (2, 21, 2, 3) := ⟨by decide, by decide, sm_mem 135 (by decide +kernel) (by decide +kernel)⟩
theorem sm_f20 : sm_fok (2, 24, 2, 4) := ⟨by decide, by decide, sm_mem 137 (by decide +kernel) (by decide +kernel)⟩
theorem sm_f21 : sm_fok (2, 27, 2, 5) := ⟨by decide, by decide, sm_mem 139 (by decide +kernel) (by decide +kernel)⟩
theorem sm_f22 : sm_fok (2, 30, 2, 6) := ⟨by decide, by decide, sm_mem 141 (by decide +kernel) (by decide +kernel)⟩
theorem sm_f23 : sm_fok (2, 36, 2, 7) := ⟨by decide, by decide, sm_mem 143 (by decide +kernel) (by decide +kernel)⟩
theorem sm_f24 : sm_fok (2, 40, 2, 8) := ⟨by decide, by decide, sm_mem 145 (by decide +kernel) (by decide +kernel)⟩
theorem sm_f25 : sm_fok (2, 49, 1, 4) := ⟨by decide, by decide, sm_mem 61 (by decide +kernel) (by decide +kernel)⟩
theorem sm_f26 : sm_fok (2, 62, 0, 0) := ⟨by decide, by decide, sm_mem 113 (by decide +kernel) (by decide +kernel)⟩
theorem sm_f27 : sm_fok (2, 65, 2, 9) := ⟨by decide, by decide, sm_mem 146 (by decide +kernel) (by decide +kernel)⟩
theorem sm_f28 : sm_fok (2, 68, 2, 10) := ⟨by decide, by decide, sm_mem 148 (by decide +kernel) (by decide +kernel)⟩
theorem sm_f29 : sm_fok (2, 71, 2, 11) := ⟨by decide, by decide, sm_mem 150 (by decide +kernel) (by decide +kernel)⟩
theorem sm_f30 : sm_fok (2, 74, 1, 6) := ⟨by decide, by decide, sm_mem 66 (by decide +kernel) (by decide +kernel)⟩
theorem sm_f31 : sm_fok (2, 77, 2, 12) := ⟨by decide, by decide, sm_mem 152 (by decide +kernel) (by decide +kernel)⟩
theorem sm_f32 : sm_fok (2, 95, 1, 0) := ⟨by decide, by decide, sm_mem 51 (by decide +kernel) (by decide +kernel)⟩
theorem sm_f33 : sm_fok (2, 125, 1, 2) := ⟨by decide, by decide, sm_mem 56 (by decide +kernel) (by decide +kernel)⟩
theorem sm_f34 : sm_fok (2, 149, 1, 3) := ⟨by decide, by decide, sm_mem 59 (by decide +kernel) (by decide +kernel)⟩
theorem sm_f35 : sm_fok (2, 155, 1, 1) := ⟨by decide, by decide, sm_mem 53 (by decide +kernel) (by decide +kernel)⟩
theorem sm_f36 : sm_fok (2, 158, 1, 8) := ⟨by decide, by decide, sm_mem 69 (by decide +kernel) (by decide +kernel)⟩
theorem sm_f37 : sm_fok (2, 161, 1, 10) := ⟨by decide, by decide, sm_mem 73 (by decide +kernel) (by decide +kernel)⟩
theorem sm_f38 : sm_fok (2, 164, 1, 9) := ⟨by decide, by decide, sm_mem 71 (by decide +kernel) (by decide +kernel)⟩
theorem sm_f39 : sm_fok (2, 175, 1, 5) := ⟨by decide, by decide, sm_mem 64 (by decide +kernel) (by decide +kernel)⟩
theorem sm_f40 : sm_fok (3, 9, 3, 0) := ⟨by decide, by decide, sm_mem 28 (by decide +kernel) (by decide +kernel)⟩
theorem sm_f41 : sm_fok (3, 15, 3, 3) := ⟨by decide, by decide, sm_mem 32 (by decide +kernel) (by decide +kernel)⟩
theorem sm_f42 : sm_fok (3, 18, 3, 1) := ⟨by decide, by decide, sm_mem 30 (by decide +kernel) (by decide +kernel)⟩
theorem sm_f43 : sm_fok (3, 27, 3, 2) := ⟨by decide, by decide, sm_mem 31 (by decide +kernel) (by decide +kernel)⟩
theorem sm_f44 : sm_fok (4, 10, 4, 0) := ⟨by decide, by decide, sm_mem 305 (by decide +kernel) (by decide +kernel)⟩
theorem sm_f45 : sm_fok (4, 19, 4, 1) := ⟨by decide, by decide, sm_mem 306 (by decide +kernel) (by decide +kernel)⟩
theorem sm_f46 : sm_fok (4, 23, 4, 2) := ⟨by decide, by decide, sm_mem 307 (by decide +kernel) (by decide +kernel)⟩
theorem sm_f47 : sm_fok (4, 29, 4, 3) := ⟨by decide, by decide, sm_mem 308 (by decide +kernel) (by decide +kernel)⟩
theorem sm_f48 : sm_fok (4, 33, 4, 4) := ⟨by decide, by decide, sm_mem 309 (by decide +kernel) (by decide +kernel)⟩
theorem sm_f49 : sm_fok (4, 36, 4, 5) := ⟨by decide, by decide, sm_mem 310 (by decide +kernel) (by decide +kernel)⟩
theorem sm_f50 : sm_fok (4, 63, 3, 1) := ⟨by decide, by decide, sm_mem 29 (by decide +kernel) (by decide +kernel)⟩
theorem sm_f51 : sm_fok (4, 70, 1, 0) := ⟨by decide, by decide, sm_mem 50 (by decide +kernel) (by decide +kernel)⟩
theorem sm_f52 : sm_fok (4, 87, 2, 0) := ⟨by decide, by decide, sm_mem 130 (by decide +kernel) (by decide +kernel)⟩
theorem sm_f53 : sm_fok (4, 91, 2, 2) := ⟨by decide, by decide, sm_mem 134 (by decide +kernel) (by decide +kernel)⟩
theorem sm_f54 : sm_fok (4, 94, 2, 3) := ⟨by decide, by decide, sm_mem 136 (by decide +kernel) (by decide +kernel)⟩
theorem sm_f55 : sm_fok (4, 100, 2, 1) := ⟨by decide, by decide, sm_mem 132 (by decide +kernel) (by decide +kernel)⟩
theorem sm_f56 : sm_fok (4, 103, 2, 12) := ⟨by decide, by decide, sm_mem 153 (by decide +kernel) (by decide +kernel)⟩
theorem sm_f57 : sm_fok (4, 106, 2, 7) := ⟨by decide, by decide, sm_mem 144 (by decide +kernel) (by decide +kernel)⟩
theorem sm_f58 : sm_fok (4, 110, 0, 0) := ⟨by decide, by decide, sm_mem 114 (by decide +kernel) (by decide +kernel)⟩
theorem sm_f59 : sm_fok (4, 115, 4, 6) := ⟨by decide, by decide, sm_mem 311 (by decide +kernel) (by decide +kernel)⟩
theorem sm_f60 : sm_fok (4, 132, 2, 4) := ⟨by decide, by decide, sm_mem 138 (by decide +kernel) (by decide +kernel)⟩
theorem sm_f61 : sm_fok (4, 139, 0, 2) := ⟨by decide, by decide, sm_mem 117 (by decide +kernel) (by decide +kernel)⟩
theorem sm_f62 : sm_fok (4, 142, 0, 3) := ⟨by decide, by decide, sm_mem 119 (by decide +kernel) (by decide +kernel)⟩
theorem sm_f63 : sm_fok (4, 153, 2, 5) := ⟨by decide, by decide, sm_mem 140 (by decide +kernel) (by decide +kernel)⟩
theorem sm_f64 : sm_fok (4, 156, 2, 9) := ⟨by decide, by decide, sm_mem 147 (by decide +kernel) (by decide +kernel)⟩
theorem sm_f65 : sm_fok (4, 159, 2, 6) := ⟨by decide, by decide, sm_mem 142 (by decide +kernel) (by decide +kernel)⟩
theorem sm_f66 : sm_fok (4, 165, 2, 10) := ⟨by decide, by decide, sm_mem 149 (by decide +kernel) (by decide +kernel)⟩
theorem sm_f67 : sm_fok (4, 171, 1, 1) := ⟨by decide, by decide, sm_mem 54 (by decide +kernel) (by decide +kernel)⟩
theorem sm_f68 : sm_fok (4, 174, 1, 4) := ⟨by decide, by decide, sm_mem 62 (by decide +kernel) (by decide +kernel)⟩
theorem sm_f69 : sm_fok (4, 177, 1, 2) := ⟨by decide, by decide, sm_mem 57 (by decide +kernel) (by decide +kernel)⟩
theorem sm_f70 : sm_fok (4, 183, 2, 11) := ⟨by decide, by decide, sm_mem 151 (by decide +kernel) (by decide +kernel)⟩
theorem sm_f71 : sm_fok (5, 7, 5, 0) := ⟨by decide, by decide, sm_mem 558 (by decide +kernel) (by decide +kernel)⟩
theorem sm_f72 : sm_fok (5, 13, 5, 1) := ⟨by decide, by decide, sm_mem 559 (by decide +kernel) (by decide +kernel)⟩
theorem sm_f73 : sm_fok (5, 16, 5, 2) := ⟨by decide, by decide, sm_mem 560 (by decide +kernel) (by decide +kernel)⟩
theorem sm_f74 : sm_fok (5, 19, 5, 4) := ⟨by decide, by decide, sm_mem 562 (by decide +kernel) (by decide +kernel)⟩
theorem sm_f75 : sm_fok (5, 22, 5, 7) := ⟨by decide, by decide, sm_mem 565 (by decide +kernel) (by decide +kernel)⟩
theorem sm_f76 : sm_fok (5, 25, 5, 8) := ⟨by decide, by decide, sm_mem 566 (by decide +kernel) (by decide +kernel)⟩
theorem sm_f77 : sm_fok (5, 28, 5, 10) := ⟨by decide, by decide, sm_mem 568 (by decide +kernel) (by decide +kernel)⟩
theorem sm_f78 : sm_fok (5, 32, 5, 11) := ⟨by decide, by decide, sm_mem 569 (by decide +kernel) (by decide +kernel)⟩
theorem sm_f79 : sm_fok (5, 49, 5, 5) := ⟨by decide, by decide, sm_mem 563 (by decide +kernel) (by decide +kernel)⟩
theorem sm_f80 : sm_fok (5, 53, 5, 6) := ⟨by decide, by decide, sm_mem 564 (by decide +kernel) (by decide +kernel)⟩
theorem sm_f81 : sm_fok (5, 85, 5, 3) := ⟨by decide, by decide, sm_mem 561 (by decide +kernel) (by decide +kernel)⟩
theorem sm_f82 : sm_fok (5, 102, 5, 9) := ⟨by decide, by decide, sm_mem 567 (by decide +kernel) (by decide +kernel)⟩
theorem sm_ft_ok : ∀ e ∈ sm_ft, sm_fok e := (List.forall_mem_cons.mpr ⟨sm_f0, (List.forall_mem_cons.mpr ⟨sm_f1, (List.forall_mem_cons.mpr ⟨sm_f2, (List.forall_mem_cons.mpr ⟨sm_f3, (List.forall_mem_cons.mpr ⟨sm_f4, (List.forall_mem_cons.mpr ⟨sm_f5, (List.forall_mem_cons.mpr ⟨sm_f6, (List.forall_mem_cons.mpr ⟨sm_f7, (List.forall_mem_cons.mpr ⟨sm_f8, (List.forall_mem_cons.mpr ⟨sm_f9, (List.forall_mem_cons.mpr ⟨sm_f10, (List.forall_mem_cons.mpr ⟨sm_f11, (List.forall_mem_cons.mpr ⟨sm_f12, (List.forall_mem_cons.mpr ⟨sm_f13, (List.forall_mem_cons.mpr ⟨sm_f14, (List.forall_mem_cons.mpr ⟨sm_f15, (List.forall_mem_cons.mpr ⟨sm_f16, (List.forall_mem_cons.mpr ⟨sm_f17, (List.forall_mem_cons.mpr ⟨sm_f18, (List.forall_mem_cons.mpr ⟨sm_f19, (List.forall_mem_cons.mpr ⟨sm_f20, (List.forall_mem_cons.mpr ⟨sm_f21, (List.forall_mem_cons.mpr ⟨sm_f22, (List.forall_mem_cons.mpr ⟨sm_f23, (List.forall_mem_cons.mpr ⟨sm_f24, (List.forall_mem_cons.mpr ⟨sm_f25, (List.forall_mem_cons.mpr ⟨sm_f26, (List.forall_mem_cons.mpr ⟨sm_f27, (List.forall_mem_cons.mpr ⟨sm_f28, (List.forall_mem_cons.mpr ⟨sm_f29, (List.forall_mem_cons.mpr ⟨sm_f30, (List.forall_mem_cons.mpr ⟨sm_f31, (List.forall_mem_cons.mpr ⟨sm_f32, (List.forall_mem_cons.mpr ⟨sm_f33, (List.forall_mem_cons.mpr ⟨sm_f34, (List.forall_mem_cons.mpr ⟨sm_f35, (List.forall_mem_cons.mpr ⟨sm_f36, (List.forall_mem_cons.mpr ⟨sm_f37, (List.forall_mem_cons.mpr ⟨sm_f38, (List.forall_mem_cons.mpr ⟨sm_f39, (List.forall_mem_cons.mpr ⟨sm_f40, (List.forall_mem_cons.mpr ⟨sm_f41, (List.forall_mem_cons.mpr ⟨sm_f42, (List.forall_mem_cons.mpr ⟨sm_f43, (List.forall_mem_cons.mpr ⟨sm_f44, (List.forall_mem_cons.mpr ⟨sm_f45, (List.forall_mem_cons.mpr ⟨sm_f46, (List.forall_mem_cons.mpr ⟨sm_f47, (List.forall_mem_cons.mpr ⟨sm_f48, (List.forall_mem_cons.mpr ⟨sm_f49, (List.forall_mem_cons.mpr ⟨sm_f50, (List.forall_mem_cons.mpr ⟨sm_f51, (List.forall_mem_cons.mpr ⟨sm_f52, (List.forall_mem_cons.mpr ⟨sm_f53, (List.forall_mem_cons.mpr ⟨sm_f54, (List.forall_mem_cons.mpr ⟨sm_f55, (List.forall_mem_cons.mpr ⟨sm_f56, (List.forall_mem_cons.mpr ⟨sm_f57, (List.forall_mem_cons.mpr ⟨sm_f58, (List.forall_mem_cons.mpr ⟨sm_f59, (List.forall_mem_cons.mpr ⟨sm_f60, (List.forall_mem_cons.mpr ⟨sm_f61, (List.forall_mem_cons.mpr ⟨sm_f62, (List.forall_mem_cons.mpr ⟨sm_f63, (List.forall_mem_cons.mpr ⟨sm_f64, (List.forall_mem_cons.mpr ⟨sm_f65, (List.forall_mem_cons.mpr ⟨sm_f66, (List.forall_mem_cons.mpr ⟨sm_f67, (List.forall_mem_cons.mpr ⟨sm_f68, (List.forall_mem_cons.mpr ⟨sm_f69, (List.forall_mem_cons.mpr ⟨sm_f70, (List.forall_mem_cons.mpr ⟨sm_f71, (List.forall_mem_cons.mpr ⟨sm_f72, (List.forall_mem_cons.mpr ⟨sm_f73, (List.forall_mem_cons.mpr ⟨sm_f74, (List.forall_mem_cons.mpr ⟨sm_f75, (List.forall_mem_cons.mpr ⟨sm_f76, (List.forall_mem_cons.mpr ⟨sm_f77, (List.forall_mem_cons.mpr ⟨sm_f78, (List.forall_mem_cons.mpr ⟨sm_f79, (List.forall_mem_cons.mpr ⟨sm_f80, (List.forall_mem_cons.mpr ⟨sm_f81, (List.forall_mem_cons.mpr ⟨sm_f82, (fun _ h => absurd h List.not_mem_nil)⟩)⟩)⟩)⟩)⟩)⟩)⟩)⟩)⟩)⟩)⟩)⟩)⟩)⟩)⟩)⟩)⟩)⟩)⟩)⟩)⟩)⟩)⟩)⟩)⟩)⟩)⟩)⟩)⟩)⟩)⟩)⟩)⟩)⟩)⟩)⟩)⟩)⟩)⟩)⟩)⟩)⟩)⟩)⟩)⟩)⟩)⟩)⟩)⟩)⟩)⟩)⟩)⟩)⟩)⟩)⟩)⟩)⟩)⟩)⟩)⟩)⟩)⟩)⟩)⟩)⟩)⟩)⟩)⟩)⟩)⟩)⟩)⟩)⟩)⟩)⟩)⟩)⟩)⟩)⟩)⟩)⟩)⟩)
theorem sm_lay0 : ∀ w ∈ u_ws (sm_Rn 0) (sm_T 0) (sm_Nf 0), w ∈ sm_gw := by
  have e : u_ws (sm_Rn 0) (sm_T 0) (sm_Nf 0) = [120, 122, 124, 126].filterMap (fun i => tables_1[i]?) := by decide +kernel
  intro w hw
  have g : ∀ w ∈ u_ws (sm_Rn 0) (sm_T 0) (sm_Nf 0), goodWord w = true := by decide +kernel
  have hg := g w hw
  rw [e] at hw
  obtain ⟨i, -, hi⟩ := List.mem_filterMap.mp hw
  exact sm_mem i hi hg
theorem sm_lay1 : ∀ w ∈ u_ws (sm_Rn 1) (sm_T 1) (sm_Nf 1), w ∈ sm_gw := by
  have e : u_ws (sm_Rn 1) (sm_T 1) (sm_Nf 1) = [75, 77, 79, 81, 83, 85, 87, 89, 91, 93, 95, 97].filterMap (fun i => tables_1[i]?) := by decide +kernel
  intro w hw
  have g : ∀ w ∈ u_ws (sm_Rn 1) (sm_T 1) (sm_Nf 1), goodWord w = true := by decide +kernel
  have hg := g w hw
  rw [e] at hw
  obtain ⟨i, -, hi⟩ := List.mem_filterMap.mp hw
  exact sm_mem i hi hg
theorem sm_lay2 : ∀ w ∈ u_ws (sm_Rn 2) (sm_T 2) (sm_Nf 2), w ∈ sm_gw := by
  have e : u_ws (sm_Rn 2) (sm_T 2) (sm_Nf 2) = [154, 156, 158, 160, 162, 164, 166, 168, 170, 172, 174, 176, 178].filterMap (fun i => tables_1[i]?) := by decide +kernel
  intro w hw
  have g : ∀ w ∈ u_ws (sm_Rn 2) (sm_T 2) (sm_Nf 2), goodWord w = true := by decide +kernel
  have hg := g w hw
  rw [e] at hw
  obtain ⟨i, -, hi⟩ := List.mem_filterMap.mp hw
  exact sm_mem i hi hg
theorem sm_lay3 : ∀ w ∈ u_ws (sm_Rn 3) (sm_T 3) (sm_Nf 3), w ∈ sm_gw := by
  have e : u_ws (sm_Rn 3) (sm_T 3) (sm_Nf 3) = [33, 35, 37, 39].filterMap (fun i => tables_1[i]?) := by decide +kernel
  intro w hw
  have g : ∀ w ∈ u_ws (sm_Rn 3) (sm_T 3) (sm_Nf 3), goodWord w = true := by decide +kernel
  have hg := g w hw
  rw [e] at hw
  obtain ⟨i, -, hi⟩ := List.mem_filterMap.mp hw
  exact sm_mem i hi hg
theorem sm_lay4 : ∀ w ∈ u_ws (sm_Rn 4) (sm_T 4) (sm_Nf 4), w ∈ sm_gw := by
  have e : u_ws (sm_Rn 4) (sm_T 4) (sm_Nf 4) = [312, 314, 316, 318, 320, 322, 324].filterMap (fun i => tables_1[i]?) := by decide +kernel
  intro w hw
  have g : ∀ w ∈ u_ws (sm_Rn 4) (sm_T 4) (sm_Nf 4), goodWord w = true := by decide +kernel
  have hg := g w hw
  rw [e] at hw
  obtain ⟨i, -, hi⟩ := List.mem_filterMap.mp hw
  exact sm_mem i hi hg
theorem sm_lay5 : ∀ w ∈ u_ws (sm_Rn 5) (sm_T 5) (sm_Nf 5), w ∈ sm_gw := by
  have e : u_ws (sm_Rn 5) (sm_T 5) (sm_Nf 5) = [570, 572, 574, 576, 578, 580, 582, 584, 586, 588, 590, 592].filterMap (fun i => tables_1[i]?) := by decide +kernel
  intro w hw
  have g : ∀ w ∈ u_ws (sm_Rn 5) (sm_T 5) (sm_Nf 5), goodWord w = true := by decide +kernel
  have hg := g w hw
  rw [e] at hw
  obtain ⟨i, -, hi⟩ := List.mem_filterMap.mp hw
  exact sm_mem i hi hg
theorem sm_lay : ∀ c, c < 6 → ∀ w ∈ u_ws (sm_Rn c) (sm_T c) (sm_Nf c), w ∈ sm_gw
  | 0, _ => sm_lay0
  | 1, _ => sm_lay1
  | 2, _ => sm_lay2
  | 3, _ => sm_lay3
  | 4, _ => sm_lay4
  | 5, _ => sm_lay5
  | c + 6, h => absurd h (by omega)
theorem sm_vw : ∀ c, c < 6 → vwCl[c]? = some (sm_Rn c, sm_T c, sm_Nf c)
  | 0, _ => rfl
  | 1, _ => rfl
  | 2, _ => rfl
  | 3, _ => rfl
  | 4, _ => rfl
  | 5, _ => rfl
  | c + 6, h => absurd h (by omega)
theorem sm_nmok : ∀ c, c < 6 → ∀ a, a < sm_Nf c → ∀ b, b < sm_Nf c → a ≠ b → (sm_T c a).2.1 ≠ (sm_T c b).2.1
  | 0, _ => nmX0
  | 1, _ => nmX1
  | 2, _ => nmX2
  | 3, _ => nmX3
  | 4, _ => nmX4
  | 5, _ => nmX5
  | c + 6, h => absurd h (by omega)
theorem sm_tyok : ∀ c, c < 6 → ∀ k, k < sm_Nf c → parseFieldDescriptor (sm_T c k).2.2.1 = some (sm_ty c k)
  | 0, _ => tyX0_ok
  | 1, _ => tyX1_ok
  | 2, _ => tyX2_ok
  | 3, _ => tyX3_ok
  | 4, _ => tyX4_ok
  | 5, _ => tyX5_ok
  | c + 6, h => absurd h (by omega)
theorem sm_max_s : Cond.static Lib.Math.max.name ∈ sm_gw := sm_mem 300 (by decide +kernel) (by decide +kernel)
theorem sm_max_c : Cond.code Lib.Math.max.name Lib.Math.max.code 2 (some .int) ∈ sm_gw := sm_mem 301 (by decide +kernel) (by decide +kernel)
theorem sm_min_s : Cond.static Lib.Math.min.name ∈ sm_gw := sm_mem 417 (by decide +kernel) (by decide +kernel)
theorem sm_min_c : Cond.code Lib.Math.min.name Lib.Math.min.code 2 (some .int) ∈ sm_gw := sm_mem 418 (by decide +kernel) (by decide +kernel)
theorem sm_fm_s : Cond.static yJ9_floorMod_7cf53 ∈ sm_gw := sm_mem 303 (by decide +kernel) (by decide +kernel)
theorem sm_fm_c : Cond.code yJ9_floorMod_7cf53 cJ9_floorMod_7cf53 3 (some .int) ∈ sm_gw := sm_mem 304 (by decide +kernel) (by decide +kernel)
theorem sm_ma_i : Cond.initialized "java/lang/Math" ∈ sm_gw := sm_mem 10 (by decide +kernel) (by decide +kernel)
theorem sm_ac_n : Cond.native arraycopyName ∈ sm_gw := sm_mem 382 (by decide +kernel) (by decide +kernel)
theorem sm_ac_s : Cond.static arraycopyName ∈ sm_gw := sm_mem 381 (by decide +kernel) (by decide +kernel)
theorem sm_sy_i : Cond.initialized "java/lang/System" ∈ sm_gw := sm_mem 12 (by decide +kernel) (by decide +kernel)
def sm_nn : Nat → MethodName
  | 0 => arraycopyName
  | 1 => Lib.Math.max.name
  | 2 => Lib.Math.min.name
  | _ => yJ9_floorMod_7cf53
def sm_nok (e : Nat × Nat × Nat) : Prop := e.2.2 < 4 ∧ Cond.methodLink (sm_Rn e.1) e.2.1 (sm_nn e.2.2) ∈ sm_gw
theorem sm_n0 : sm_nok (0, 25, 0) := ⟨by decide, sm_mem 387 (by decide +kernel) (by decide +kernel)⟩
theorem sm_n1 : sm_nok (2, 53, 1) := ⟨by decide, sm_mem 299 (by decide +kernel) (by decide +kernel)⟩
theorem sm_n2 : sm_nok (2, 59, 3) := ⟨by decide, sm_mem 302 (by decide +kernel) (by decide +kernel)⟩
theorem sm_n3 : sm_nok (2, 78, 0) := ⟨by decide, sm_mem 380 (by decide +kernel) (by decide +kernel)⟩
theorem sm_n4 : sm_nok (2, 146, 2) := ⟨by decide, sm_mem 416 (by decide +kernel) (by decide +kernel)⟩
theorem sm_n5 : sm_nok (4, 196, 3) := ⟨by decide, sm_mem 448 (by decide +kernel) (by decide +kernel)⟩
theorem sm_nt_ok : ∀ e ∈ sm_nt, sm_nok e := (List.forall_mem_cons.mpr ⟨sm_n0, (List.forall_mem_cons.mpr ⟨sm_n1, (List.forall_mem_cons.mpr ⟨sm_n2, (List.forall_mem_cons.mpr ⟨sm_n3, (List.forall_mem_cons.mpr ⟨sm_n4, (List.forall_mem_cons.mpr ⟨sm_n5, (fun _ h => absurd h List.not_mem_nil)⟩)⟩)⟩)⟩)⟩)⟩)
def sm_kok (e : Nat × Nat × Int32) : Prop := Cond.constant (sm_Rn e.1) e.2.1 e.2.2 ∈ sm_gw
theorem sm_kk0 : sm_kok (6, 265, 1431655765) := sm_mem 523 (by decide +kernel) (by decide +kernel)
theorem sm_kk1 : sm_kok (6, 266, 858993459) := sm_mem 524 (by decide +kernel) (by decide +kernel)
theorem sm_kk2 : sm_kok (6, 267, 252645135) := sm_mem 525 (by decide +kernel) (by decide +kernel)
theorem sm_kt_ok : ∀ e ∈ sm_kt, sm_kok e := (List.forall_mem_cons.mpr ⟨sm_kk0, (List.forall_mem_cons.mpr ⟨sm_kk1, (List.forall_mem_cons.mpr ⟨sm_kk2, (fun _ h => absurd h List.not_mem_nil)⟩)⟩)⟩)
end
section
/-! MY MACHINE: a small abstract machine over numbered cells; no cell is made, none goes -/
abbrev sE : Type := (Nat × Nat × (Nat → Int32)) ⊕ ((Nat × (Nat → Option Nat)) ⊕ (Nat × List Value))
abbrev sW : Type := Nat → sE
abbrev iA (n : Nat) (f : Nat → Int32) : sE := Sum.inl (0, n, f)
abbrev bA (n : Nat) (f : Nat → Int32) : sE := Sum.inl (1, n, f)
abbrev rA (n : Nat) (f : Nat → Option Nat) : sE := Sum.inr (Sum.inl (n, f))
abbrev oC (c : Nat) (fs : List Value) : sE := Sum.inr (Sum.inr (c, fs))
def sm_set (w : sW) (a : Nat) (x : sE) : sW := fun i => if i = a then x else w i
abbrev sm_unk : Value := .retAddr 0
abbrev sC : Type := Nat × List Value × List Value × sW
def sm_fld (c k : Nat) : Option (Nat × Nat) := (sm_ft.find? (fun e => e.1 == c && e.2.1 == k)).map (fun e => e.2.2)
def sm_inv (c k : Nat) : Option (Nat × Nat) := (sm_ct.find? (fun e => e.1 == c && e.2.1 == k)).map (fun e => e.2.2)
def sm_nat (c k : Nat) : Option Nat := (sm_nt.find? (fun e => e.1 == c && e.2.1 == k)).map (fun e => e.2.2)
def sm_kst (c k : Nat) : Option Int32 := (sm_kt.find? (fun e => e.1 == c && e.2.1 == k)).map (fun e => e.2.2)
/-- what a field of a made object may be given: 0 an int, 1 a boolean, 2 a reference, 3 nothing (final) -/
def sm_fk (c k : Nat) : Nat := match c, k with
  | 0, 0 => 0
  | 1, 7 => 1
  | 1, k => if k < 7 then 0 else 3
  | 2, 7 => 2
  | 2, 8 => 2
  | 2, k => if k < 7 then 3 else if k < 13 then 0 else 3
  | 3, 1 => 0
  | 3, 2 => 0
  | 4, 1 => 2
  | 4, 2 => 2
  | 4, 6 => 0
  | 5, 3 => 0
  | 5, 5 => 0
  | 5, 6 => 0
  | 5, 9 => 0
  | _, _ => 3
def sm_fit (t : Nat) (v : Value) : Bool := match t, v with
  | 0, .int _ => true
  | 1, .int x => x == 0 || x == 1
  | 2, .ref _ => true
  | _, _ => false
def sm_cmp (c : ClassFile.Cond) (x y : Int32) : Bool := match c with
  | .eq => decide (x = y)
  | .ne => decide (¬ x = y)
  | .lt => decide (x < y)
  | .ge => decide (y ≤ x)
  | .gt => decide (y < x)
  | .le => decide (x ≤ y)
def sm_j (pc : Nat) (off : Int) (ls st : List Value) (w : sW) : Option sC := if 0 ≤ (pc : Int) + off then some (((pc : Int) + off).toNat, ls, st, w) else none
def sm_ld (v : Option Value) (pc : Nat) (ls st : List Value) (w : sW) : Option sC := match v with
  | some (.int x) => some (pc, ls, .int x :: st, w)
  | _ => none
def sm_lda (v : Option Value) (pc : Nat) (ls st : List Value) (w : sW) : Option sC := match v with
  | some (.ref x) => some (pc, ls, .ref x :: st, w)
  | _ => none
def sm_sti (k pc : Nat) (ls st : List Value) (w : sW) : Option sC := match st with
  | .int x :: r => if k < ls.length then some (pc, ls.set k (.int x), r, w) else none
  | _ => none
def sm_sta' (k pc : Nat) (ls st : List Value) (w : sW) : Option sC := match st with
  | .ref x :: r => if k < ls.length then some (pc, ls.set k (.ref x), r, w) else none
  | _ => none
def sm_bin (f : Int32 → Int32 → Int32) (pc : Nat) (ls st : List Value) (w : sW) : Option sC := match st with
  | .int y :: .int x :: r => some (pc, ls, .int (f x y) :: r, w)
  | _ => none
def sm_bin0 (f : Int32 → Int32 → Int32) (pc : Nat) (ls st : List Value) (w : sW) : Option sC := match st with
  | .int y :: .int x :: r => if y = 0 then none else some (pc, ls, .int (f x y) :: r, w)
  | _ => none
def sm_get (q : Option (Nat × Nat)) (pc : Nat) (ls st : List Value) (w : sW) : Option sC := match q, st with
  | some (ci, k), .ref o :: r => match w o with
    | .inr (.inr (c, fs)) => if c = ci then (match fs[k]? with
      | some v => some (pc, ls, v :: r, w)
      | none => none) else none
    | _ => none
  | _, _ => none
def sm_put (q : Option (Nat × Nat)) (pc : Nat) (ls st : List Value) (w : sW) : Option sC := match q, st with
  | some (ci, k), v :: .ref o :: r => match w o with
    | .inr (.inr (c, fs)) => if c = ci ∧ k < fs.length ∧ sm_fit (sm_fk ci k) v = true then some (pc, ls, r, sm_set w o (.inr (.inr (c, fs.set k v)))) else none
    | _ => none
  | _, _ => none
def sm_ald (t pc : Nat) (ls st : List Value) (w : sW) : Option sC := match st with
  | .int i :: .ref a :: r => match w a with
    | .inl (k, n, f) => if k = t ∧ ¬ (i < 0 ∨ n ≤ i.toNatClampNeg) then some (pc, ls, .int (f i.toNatClampNeg) :: r, w) else none
    | _ => none
  | _ => none
def sm_ast (t pc : Nat) (ls st : List Value) (w : sW) : Option sC := match st with
  | .int x :: .int i :: .ref a :: r => match w a with
    | .inl (k, n, f) => if k = t ∧ ¬ (i < 0 ∨ n ≤ i.toNatClampNeg) ∧ (t = 0 ∨ x = 0 ∨ x = 1) then some (pc, ls, r, sm_set w a (.inl (k, n, upd f i.toNatClampNeg x))) else none
    | _ => none
  | _ => none
def sm_ral (pc : Nat) (ls st : List Value) (w : sW) : Option sC := match st with
  | .int i :: .ref a :: r => match w a with
    | .inr (.inl (n, f)) => if ¬ (i < 0 ∨ n ≤ i.toNatClampNeg) then (match f i.toNatClampNeg with
      | some b => some (pc, ls, .ref b :: r, w)
      | none => none) else none
    | _ => none
  | _ => none
def sm_ras (pc : Nat) (ls st : List Value) (w : sW) : Option sC := match st with
  | .ref v :: .int i :: .ref a :: r => match w a, w v with
    | .inr (.inl (n, f)), .inr (.inr (c, _)) => if c = 2 ∧ ¬ (i < 0 ∨ n ≤ i.toNatClampNeg) then some (pc, ls, r, sm_set w a (.inr (.inl (n, va_up f i.toNatClampNeg (some v))))) else none
    | _, _ => none
  | _ => none
def sm_len' (pc : Nat) (ls st : List Value) (w : sW) : Option sC := match st with
  | .ref a :: r => match w a with
    | .inl (0, n, _) => some (pc, ls, .int (Int32.ofNat n) :: r, w)
    | _ => none
  | _ => none
def sm_fm (x y : Int32) : Int32 := if x ^^^ y < 0 ∧ ¬ (x - x / y * y = 0) then (x - x / y * y) + y else x - x / y * y
def sm_cp (pc : Nat) (ls st : List Value) (w : sW) : Option sC := match st with
  | .int n :: .int dp :: .ref a1 :: .int sp :: .ref a0 :: r => match w a0 with
    | .inl (k0, n0, f) => match w a1 with
      | .inl (k1, n1, g) => if k0 = 0 ∧ k1 = 0 ∧ (r.map fun v => v.category).sum ≤ 8 ∧ ¬ sp < 0 ∧ ¬ dp < 0 ∧ ¬ n < 0 ∧ sp.toNatClampNeg + n.toNatClampNeg ≤ n0 ∧ dp.toNatClampNeg + n.toNatClampNeg ≤ n1 then some (pc, ls, r, sm_set w a1 (.inl (0, n1, va_cpy f g sp.toNatClampNeg dp.toNatClampNeg n.toNatClampNeg))) else none
      | _ => none
    | _ => none
  | _ => none
def sm_m2 (g : Int32 → Int32 → Int32) (z : Bool) (pc : Nat) (ls st : List Value) (w : sW) : Option sC := match st with
  | .int y :: .int x :: r => if (r.map fun v => v.category).sum ≤ 8 ∧ ¬ (z = true ∧ y = 0) then some (pc, ls, .int (g x y) :: r, w) else none
  | _ => none
def sm_nx1 (q : Option Nat) (pc : Nat) (ls st : List Value) (w : sW) : Option sC := match q with
  | some 0 => sm_cp pc ls st w
  | some 1 => sm_m2 (fun x y => if x < y then y else x) false pc ls st w
  | some 2 => sm_m2 (fun x y => if y < x then y else x) false pc ls st w
  | some 3 => sm_m2 sm_fm true pc ls st w
  | _ => none
def sm_tsw (d lo hi : Int) (offs : Array Int) (pc : Nat) (ls st : List Value) (w : sW) : Option sC := match st with
  | .int x :: r => if x.toInt < lo ∨ hi < x.toInt then sm_j pc d ls r w else (match offs[(x.toInt - lo).toNat]? with
    | some off => sm_j pc off ls r w
    | none => none)
  | _ => none
def sm_lsw (d : Int) (ps : Array (Int × Int)) (pc : Nat) (ls st : List Value) (w : sW) : Option sC := match st with
  | .int x :: r => if (ps.toList.zip (ps.toList.drop 1)).all (fun (a, next) => a.1 < next.1) = true then sm_j pc (Op.lookupswitch.offset ps.toList d x.toInt) ls r w else none
  | _ => none
/-- the step of an instruction that neither calls nor returns -/
def sm_nx (y : Nat) (i : Instr) (len pc : Nat) (ls st : List Value) (w : sW) : Option sC := match i with
  | .iconst v => if len = 1 then some (pc + 1, ls, .int (Int32.ofInt v) :: st, w) else none
  | .bipush v => if len = 2 then some (pc + 2, ls, .int (Int8.ofInt v).toInt32 :: st, w) else none
  | .sipush v => if len = 3 then some (pc + 3, ls, .int (Int16.ofInt v).toInt32 :: st, w) else none
  | .ldc_w k => if len = 3 then (match sm_kst (sm_cy y) k with
    | some v => some (pc + 3, ls, .int v :: st, w)
    | none => none) else none
  | .iload k => if len = 2 then sm_ld ls[k]? (pc + 2) ls st w else none
  | .iload_n k => if len = 1 then sm_ld ls[(k : Nat)]? (pc + 1) ls st w else none
  | .aload k => if len = 2 then sm_lda ls[k]? (pc + 2) ls st w else none
  | .aload_n k => if len = 1 then sm_lda ls[(k : Nat)]? (pc + 1) ls st w else none
  | .istore k => if len = 2 then sm_sti k (pc + 2) ls st w else none
  | .istore_n k => if len = 1 then sm_sti k (pc + 1) ls st w else none
  | .astore k => if len = 2 then sm_sta' k (pc + 2) ls st w else none
  | .astore_n k => if len = 1 then sm_sta' k (pc + 1) ls st w else none
  | .iinc k c => if len = 3 then (match ls[k]? with
    | some (.int x) => some (pc + 3, ls.set k (.int (x + Int32.ofInt c)), st, w)
    | _ => none) else none
  | .iadd => if len = 1 then sm_bin (fun x y => x + y) (pc + 1) ls st w else none
  | .isub => if len = 1 then sm_bin (fun x y => x - y) (pc + 1) ls st w else none
  | .imul => if len = 1 then sm_bin (fun x y => x * y) (pc + 1) ls st w else none
  | .iand => if len = 1 then sm_bin (fun x y => x &&& y) (pc + 1) ls st w else none
  | .ior => if len = 1 then sm_bin (fun x y => x ||| y) (pc + 1) ls st w else none
  | .ixor => if len = 1 then sm_bin (fun x y => x ^^^ y) (pc + 1) ls st w else none
  | .ishl => if len = 1 then sm_bin (fun x y => x <<< (y &&& 31)) (pc + 1) ls st w else none
  | .iushr => if len = 1 then sm_bin (fun x y => (x.toUInt32 >>> (y.toUInt32 &&& Int32.toUInt32 31)).toInt32) (pc + 1) ls st w else none
  | .idiv => if len = 1 then sm_bin0 (fun x y => x / y) (pc + 1) ls st w else none
  | .irem => if len = 1 then sm_bin0 (fun x y => x - x / y * y) (pc + 1) ls st w else none
  | .dup => if len = 1 then (match st with
    | .int x :: r => some (pc + 1, ls, .int x :: .int x :: r, w)
    | .ref x :: r => some (pc + 1, ls, .ref x :: .ref x :: r, w)
    | _ => none) else none
  | .dup2 => if len = 1 then (match st with
    | .int x :: .ref y :: r => some (pc + 1, ls, .int x :: .ref y :: .int x :: .ref y :: r, w)
    | _ => none) else none
  | .pop => if len = 1 then (match st with
    | .int _ :: r => some (pc + 1, ls, r, w)
    | _ => none) else none
  | .goto off => if len = 3 then sm_j pc off ls st w else none
  | .ifCond c off => if len = 3 ∧ 0 ≤ (pc : Int) + off then (match st with
    | .int x :: r => some (if sm_cmp c x 0 = true then ((pc : Int) + off).toNat else pc + 3, ls, r, w)
    | _ => none) else none
  | .if_icmp c off => if len = 3 ∧ 0 ≤ (pc : Int) + off then (match st with
    | .int y :: .int x :: r => some (if sm_cmp c x y = true then ((pc : Int) + off).toNat else pc + 3, ls, r, w)
    | _ => none) else none
  | .tableswitch d lo hi offs => sm_tsw d lo hi offs pc ls st w
  | .lookupswitch d ps => sm_lsw d ps pc ls st w
  | .getfield k => if len = 3 then sm_get (sm_fld (sm_cy y) k) (pc + 3) ls st w else none
  | .putfield k => if len = 3 then sm_put (sm_fld (sm_cy y) k) (pc + 3) ls st w else none
  | .iaload => if len = 1 then sm_ald 0 (pc + 1) ls st w else none
  | .baload => if len = 1 then sm_ald 1 (pc + 1) ls st w else none
  | .iastore => if len = 1 then sm_ast 0 (pc + 1) ls st w else none
  | .bastore => if len = 1 then sm_ast 1 (pc + 1) ls st w else none
  | .aaload => if len = 1 then sm_ral (pc + 1) ls st w else none
  | .aastore => if len = 1 then sm_ras (pc + 1) ls st w else none
  | .arraylength => if len = 1 then sm_len' (pc + 1) ls st w else none
  | .invokestatic k => if len = 3 then sm_nx1 (sm_nat (sm_cy y) k) (pc + 3) ls st w else none
  | _ => none
/-- what a return hands back -/
def sm_rv (y : Nat) (i : Instr) (len : Nat) (st : List Value) : Option (Option Value) := match i, st with
  | .ireturn, [.int x] => if len = 1 ∧ (sm_rt y = some .int ∨ sm_rt y = some .boolean ∧ (x = 0 ∨ x = 1)) then some (some (.int x)) else none
  | .return_, [] => if len = 1 ∧ sm_rt y = none then some none else none
  | _, _ => none
/-- whom a call calls, with what, and what stays on the stack -/
def sm_cl (y : Nat) (i : Instr) (len : Nat) (st : List Value) (w : sW) : Option (Nat × List Value × List Value) := match i with
  | .invokevirtual k => match sm_inv (sm_cy y) k with
    | some (z, 0) => match (st.take (sm_na z)).reverse with
      | .ref o :: as => match w o with
        | .inr (.inr (c, _)) => if len = 3 ∧ c = sm_cy z ∧ ((st.drop (sm_na z)).map fun v => v.category).sum ≤ 8 ∧ (.ref o :: as).length = sm_na z then some (z, .ref o :: as, st.drop (sm_na z)) else none
        | _ => none
      | _ => none
    | _ => none
  | .invokestatic k => match sm_inv (sm_cy y) k with
    | some (_, 0) => none
    | some (z, _) => if len = 3 ∧ ((st.drop (sm_na z)).map fun v => v.category).sum ≤ 8 ∧ ((st.take (sm_na z)).reverse).length = sm_na z then some (z, (st.take (sm_na z)).reverse, st.drop (sm_na z)) else none
    | none => none
  | _ => none
abbrev sQ : Type := Option Value → sW → Prop
abbrev sV : Type := Nat → List Value → sW → sQ → Prop
def sm_stp (VC : sV) (y : Nat) (Q : sQ) (P : Nat → List Value → List Value → sW → Prop) (pc : Nat) (ls st : List Value) (w : sW) : Prop :=
  ∃ (i : Instr) (len : Nat), decode (sm_cd y) pc = .ok (i, len) ∧
    ((∃ c : sC, sm_nx y i len pc ls st w = some c ∧ P c.1 c.2.1 c.2.2.1 c.2.2.2) ∨
     (∃ r : Option Value, sm_rv y i len st = some r ∧ Q r w) ∨
     (∃ (z : Nat) (as rest : List Value) (S : sQ), sm_cl y i len st w = some (z, as, rest) ∧ VC z as w S ∧ ∀ r w', S r w' → P (pc + 3) ls (r.toList ++ rest) w'))
/-- from here the method ends, with Q -/
def sm_V (VC : sV) (y : Nat) (Q : sQ) (pc : Nat) (ls st : List Value) (w : sW) : Prop :=
  ∀ P : Nat → List Value → List Value → sW → Prop, (∀ pc ls st w, sm_stp VC y Q P pc ls st w → P pc ls st w) → P pc ls st w
def sm_ent (y : Nat) (as : List Value) : List Value := as ++ List.replicate (sm_ml y - as.length) sm_unk
/-- a call at depth d -/
def sm_D : Nat → sV
  | 0 => fun y as w Q => (∀ v ∈ as, v.category = 1) ∧ as.length ≤ sm_ml y ∧ sm_V (fun _ _ _ _ => False) y Q 0 (sm_ent y as) [] w
  | d + 1 => fun y as w Q => (∀ v ∈ as, v.category = 1) ∧ as.length ≤ sm_ml y ∧ sm_V (sm_D d) y Q 0 (sm_ent y as) [] w
theorem sm_stp_mono {VC : sV} {y : Nat} {Q : sQ} {P P' : Nat → List Value → List Value → sW → Prop} (h : ∀ pc ls st w, P pc ls st w → P' pc ls st w) {pc : Nat} {ls st : List Value} {w : sW} (hs : sm_stp VC y Q P pc ls st w) : sm_stp VC y Q P' pc ls st w := by
  obtain ⟨i, len, hd, hs⟩ := hs
  refine ⟨i, len, hd, ?_⟩
  rcases hs with ⟨c, h1, h2⟩ | ⟨r, h1, h2⟩ | ⟨z, as, rest, S, h1, h2, h3⟩
  · exact Or.inl ⟨c, h1, h _ _ _ _ h2⟩
  · exact Or.inr (Or.inl ⟨r, h1, h2⟩)
  · exact Or.inr (Or.inr ⟨z, as, rest, S, h1, h2, fun r w' q => h _ _ _ _ (h3 r w' q)⟩)
theorem sm_V.fold {VC : sV} {y : Nat} {Q : sQ} {pc : Nat} {ls st : List Value} {w : sW} (h : sm_stp VC y Q (sm_V VC y Q) pc ls st w) : sm_V VC y Q pc ls st w := by
  intro P hP
  exact hP _ _ _ _ (sm_stp_mono (fun pc ls st w q => q P hP) h)
theorem sm_V.unfold {VC : sV} {y : Nat} {Q : sQ} {pc : Nat} {ls st : List Value} {w : sW} (h : sm_V VC y Q pc ls st w) : sm_stp VC y Q (sm_V VC y Q) pc ls st w :=
  h (sm_stp VC y Q (sm_V VC y Q)) (fun _ _ _ _ q => sm_stp_mono (fun _ _ _ _ r => sm_V.fold r) q)
end
section
/-! MY MACHINE AND THE CLAIM'S: a run of mine is a run of the claim's -/
def sm_cv (ad : Nat → Nat) : Value → Value
  | .ref a => .ref (ad a)
  | v => v
def sm_cc (ad : Nat → Nat) (gA : Nat → ClassId) : sE → va_E
  | .inl (k, n, f) => .inl (gA k, n, .inl f)
  | .inr (.inl (n, f)) => .inl (gA 2, n, .inr (.inr (.inr (.inr (fun j => (f j).map ad)))))
  | .inr (.inr (c, fs)) => .inr (c, fs.map (sm_cv ad))
def sm_wl (ad : Nat → Nat) (gA : Nat → ClassId) (N : Nat) (w : sW) : va_W := (List.range N).map fun i => (ad i, sm_cc ad gA (w i))
def sm_out (N : Nat) (w : sW) : Prop := ∀ i, N ≤ i → w i = oC 99 []
def sm_tys (gA : Nat → ClassId) : List (ClassId × FieldType) := [(gA 0, .int), (gA 1, .boolean), (gA 2, .object RX2)]
theorem sm_wl_get {ad : Nat → Nat} {gA : Nat → ClassId} {N i : Nat} {w : sW} (h : i < N) : (sm_wl ad gA N w)[i]? = some (ad i, sm_cc ad gA (w i)) := by
  simp [sm_wl, h]
theorem sm_wl_set {ad : Nat → Nat} {gA : Nat → ClassId} {N i : Nat} {w : sW} {x : sE} (h : i < N) : (sm_wl ad gA N w).set i (ad i, sm_cc ad gA x) = sm_wl ad gA N (sm_set w i x) := by
  apply List.ext_getElem?
  intro j
  by_cases hj : j < N
  · rw [sm_wl_get hj, List.getElem?_set]
    by_cases e : i = j
    · subst e
      simp [sm_wl, h, sm_set]
    · rw [if_neg e, sm_wl_get hj]
      have : j ≠ i := fun q => e q.symm
      simp [sm_set, this]
  · have h1 : (sm_wl ad gA N w).length ≤ j := by simp [sm_wl]; omega
    have h2 : (sm_wl ad gA N (sm_set w i x)).length ≤ j := by simp [sm_wl]; omega
    rw [List.getElem?_eq_none h2, List.getElem?_eq_none (by simpa using h1)]
theorem sm_lt {N a : Nat} {w : sW} {x : sE} (ho : sm_out N w) (h : w a = x) (hx : x ≠ oC 99 []) : a < N := by
  rcases Nat.lt_or_ge a N with q | q
  · exact q
  · exact absurd (h.symm.trans (ho a q)) hx
theorem sm_out_set {N a : Nat} {w : sW} {x : sE} (ho : sm_out N w) (h : a < N) : sm_out N (sm_set w a x) := by
  intro i hi
  have : i ≠ a := by omega
  simp only [sm_set, if_neg this]
  exact ho i hi
/-- the locals: what is known of them -/
def sm_lh (ad : Nat → Nat) (arr : Array Slot) (nL : Nat) (ls : List Value) : Prop :=
  ls.length = nL ∧ ∃ lv, lv_has arr nL lv ∧ ∀ (k : Nat) (v : Value), ls[k]? = some v → v ≠ sm_unk → v.category = 1 ∧ (k, sm_cv ad v) ∈ lv
theorem sm_cv_cat (ad : Nat → Nat) (v : Value) : (sm_cv ad v).category = v.category := by cases v <;> rfl
theorem sm_lh_int {ad : Nat → Nat} {arr : Array Slot} {nL k : Nat} {ls : List Value} {x : Int32} (h : sm_lh ad arr nL ls) (hk : ls[k]? = some (.int x)) : arr[k]? = some (.val (.int x)) := by
  obtain ⟨-, lv, h1, h2⟩ := h
  exact h1.2.2 (k, .int x) (h2 k _ hk (by simp)).2
theorem sm_lh_ref {ad : Nat → Nat} {arr : Array Slot} {nL k x : Nat} {ls : List Value} (h : sm_lh ad arr nL ls) (hk : ls[k]? = some (.ref x)) : arr[k]? = some (.val (.ref (ad x))) := by
  obtain ⟨-, lv, h1, h2⟩ := h
  exact h1.2.2 (k, .ref (ad x)) (h2 k _ hk (by simp)).2
theorem sm_lh_set {ad : Nat → Nat} {arr' : Array Slot} {nL k : Nat} {ls : List Value} {v : Value} {lv : List (Nat × Value)} (hl : ls.length = nL) (hv : v.category = 1) (h2 : ∀ (k : Nat) (v : Value), ls[k]? = some v → v ≠ sm_unk → v.category = 1 ∧ (k, sm_cv ad v) ∈ lv)
    (h' : lv_has arr' nL ((k, sm_cv ad v) :: lv.filter (fun q => !(q.1 == k) && !(q.1 + 1 == k && q.2.category == 2)))) : sm_lh ad arr' nL (ls.set k v) := by
  refine ⟨by simp [hl], _, h', fun j u hj hu => ?_⟩
  rw [List.getElem?_set] at hj
  by_cases e : k = j
  · subst e
    rw [if_pos rfl] at hj
    split at hj
    · cases hj
      exact ⟨hv, List.mem_cons_self⟩
    · cases hj
  · rw [if_neg e] at hj
    obtain ⟨c1, c2⟩ := h2 j u hj hu
    refine ⟨c1, List.mem_cons_of_mem _ (List.mem_filter.mpr ⟨c2, ?_⟩)⟩
    have e2 : j ≠ k := fun q => e q.symm
    simp [e2, sm_cv_cat, c1]
section SMS
variable {p : Program} {l : Launch} {e : Env} {R : Room} {s : State} {m : MethodId} {args : Array Value} {below : List Frame} {meth : Method} {c : Code} {H : Heap} {locs : List Loc} {cells slots : Nat} {Q : State → Prop}
variable {dC : Nat → ClassId} {dI : Nat → Nat → Nat} {ad : Nat → Nat} {gA : Nat → ClassId} {N nL y pc len : Nat} {A : Nat → Prop} {H0 : Heap} {ls st : List Value} {w : sW} {arr : Array Slot} {i : Instr} {c' : sC}
theorem sm_find {α β : Type} {l : List α} {f : α → Bool} {g : α → β} {b : β} (h : (l.find? f).map g = some b) : ∃ a ∈ l, f a = true ∧ g a = b := by
  cases hq : l.find? f with
  | none => rw [hq] at h; cases h
  | some a =>
    rw [hq] at h
    cases h
    exact ⟨a, List.mem_of_find?_eq_some hq, List.find?_some hq, rfl⟩
theorem sm_fld_ok {cy k : Nat} {q : Nat × Nat} (h : sm_fld cy k = some q) : sm_fok (cy, k, q) ∧ (cy, k, q) ∈ sm_ft := by
  obtain ⟨a, h1, h2, h3⟩ := sm_find h
  simp only [Bool.and_eq_true, beq_iff_eq] at h2
  obtain ⟨a1, a2, a3⟩ := a
  obtain ⟨rfl, rfl⟩ := h2
  cases h3
  exact ⟨sm_ft_ok _ h1, h1⟩
theorem sm_inv_ok {cy k : Nat} {q : Nat × Nat} (h : sm_inv cy k = some q) : sm_cok (cy, k, q) := by
  obtain ⟨a, h1, h2, h3⟩ := sm_find h
  simp only [Bool.and_eq_true, beq_iff_eq] at h2
  obtain ⟨a1, a2, a3⟩ := a
  obtain ⟨rfl, rfl⟩ := h2
  cases h3
  exact sm_ct_ok _ h1
theorem sm_nat_ok {cy k q : Nat} (h : sm_nat cy k = some q) : sm_nok (cy, k, q) := by
  obtain ⟨a, h1, h2, h3⟩ := sm_find h
  simp only [Bool.and_eq_true, beq_iff_eq] at h2
  obtain ⟨a1, a2, a3⟩ := a
  obtain ⟨rfl, rfl⟩ := h2
  cases h3
  exact sm_nt_ok _ h1
theorem sm_kst_ok {cy k : Nat} {q : Int32} (h : sm_kst cy k = some q) : sm_kok (cy, k, q) := by
  obtain ⟨a, h1, h2, h3⟩ := sm_find h
  simp only [Bool.and_eq_true, beq_iff_eq] at h2
  obtain ⟨a1, a2, a3⟩ := a
  obtain ⟨rfl, rfl⟩ := h2
  cases h3
  exact sm_kt_ok _ h1
theorem sm_fkok : ∀ e ∈ sm_ft, (sm_fk e.2.2.1 e.2.2.2 = 0 → (sm_T e.2.2.1 e.2.2.2).2.2.2 = false ∧ sm_ty e.2.2.1 e.2.2.2 = .int) ∧ (sm_fk e.2.2.1 e.2.2.2 = 1 → (sm_T e.2.2.1 e.2.2.2).2.2.2 = false ∧ sm_ty e.2.2.1 e.2.2.2 = .boolean) ∧ (sm_fk e.2.2.1 e.2.2.2 = 2 → (sm_T e.2.2.1 e.2.2.2).2.2.2 = false ∧ (sm_ty e.2.2.1 e.2.2.2 = .object RX0 ∨ sm_ty e.2.2.1 e.2.2.2 = .object RX1)) := by decide +kernel
-- what each kind of step says
theorem sm_ld_i {v : Option Value} {k : Nat} (h : sm_ld v k ls st w = some c') : ∃ x, v = some (.int x) ∧ c' = (k, ls, .int x :: st, w) := by
  unfold sm_ld at h
  split at h
  · cases h; exact ⟨_, rfl, rfl⟩
  · cases h
theorem sm_lda_i {v : Option Value} {k : Nat} (h : sm_lda v k ls st w = some c') : ∃ x, v = some (.ref x) ∧ c' = (k, ls, .ref x :: st, w) := by
  unfold sm_lda at h
  split at h
  · cases h; exact ⟨_, rfl, rfl⟩
  · cases h
theorem sm_sti_i {j k : Nat} (h : sm_sti j k ls st w = some c') : ∃ x r, st = .int x :: r ∧ j < ls.length ∧ c' = (k, ls.set j (.int x), r, w) := by
  unfold sm_sti at h
  split at h
  · split at h
    · cases h; exact ⟨_, _, rfl, by assumption, rfl⟩
    · cases h
  · cases h
theorem sm_sta_i {j k : Nat} (h : sm_sta' j k ls st w = some c') : ∃ x r, st = .ref x :: r ∧ j < ls.length ∧ c' = (k, ls.set j (.ref x), r, w) := by
  unfold sm_sta' at h
  split at h
  · split at h
    · cases h; exact ⟨_, _, rfl, by assumption, rfl⟩
    · cases h
  · cases h
theorem sm_bin_i {f : Int32 → Int32 → Int32} {k : Nat} (h : sm_bin f k ls st w = some c') : ∃ x y r, st = .int y :: .int x :: r ∧ c' = (k, ls, .int (f x y) :: r, w) := by
  unfold sm_bin at h
  split at h
  · cases h; exact ⟨_, _, _, rfl, rfl⟩
  · cases h
theorem sm_bin0_i {f : Int32 → Int32 → Int32} {k : Nat} (h : sm_bin0 f k ls st w = some c') : ∃ x y r, st = .int y :: .int x :: r ∧ ¬ y = 0 ∧ c' = (k, ls, .int (f x y) :: r, w) := by
  unfold sm_bin0 at h
  split at h
  · split at h
    · cases h
    · cases h; exact ⟨_, _, _, rfl, by assumption, rfl⟩
  · cases h
theorem sm_j_i {off : Int} (h : sm_j pc off ls st w = some c') : ∃ t : Nat, (pc : Int) + off = (t : Int) ∧ c' = (t, ls, st, w) := by
  unfold sm_j at h
  split at h
  · cases h; exact ⟨_, by omega, rfl⟩
  · cases h
theorem sm_get_i {q : Option (Nat × Nat)} {k : Nat} (h : sm_get q k ls st w = some c') : ∃ ci j o r fs v, q = some (ci, j) ∧ st = .ref o :: r ∧ w o = .inr (.inr (ci, fs)) ∧ fs[j]? = some v ∧ c' = (k, ls, v :: r, w) := by
  unfold sm_get at h
  split at h
  · split at h
    · split at h
      · split at h
        · rename_i hq _ _ _ _ _ hw hc _ _ hv
          cases h; subst hc; exact ⟨_, _, _, _, _, _, rfl, rfl, hw, hv, rfl⟩
        · cases h
      · cases h
    · cases h
  · cases h
theorem sm_put_i {q : Option (Nat × Nat)} {k : Nat} (h : sm_put q k ls st w = some c') : ∃ ci j o r fs v, q = some (ci, j) ∧ st = v :: .ref o :: r ∧ w o = .inr (.inr (ci, fs)) ∧ j < fs.length ∧ sm_fit (sm_fk ci j) v = true ∧ c' = (k, ls, r, sm_set w o (.inr (.inr (ci, fs.set j v)))) := by
  unfold sm_put at h
  split at h
  · split at h
    · split at h
      · rename_i hw hc
        obtain ⟨hc, h1, h2⟩ := hc
        cases h; subst hc; exact ⟨_, _, _, _, _, _, rfl, rfl, hw, h1, h2, rfl⟩
      · cases h
    · cases h
  · cases h
theorem sm_ald_i {t k : Nat} (h : sm_ald t k ls st w = some c') : ∃ i a r n f, st = .int i :: .ref a :: r ∧ w a = .inl (t, n, f) ∧ vp_in i n ∧ c' = (k, ls, .int (f i.toNatClampNeg) :: r, w) := by
  unfold sm_ald at h
  split at h
  · split at h
    · split at h
      · rename_i hw hc
        obtain ⟨hc, h1⟩ := hc
        cases h; subst hc; exact ⟨_, _, _, _, _, rfl, hw, h1, rfl⟩
      · cases h
    · cases h
  · cases h
theorem sm_ast_i {t k : Nat} (h : sm_ast t k ls st w = some c') : ∃ x i a r n f, st = .int x :: .int i :: .ref a :: r ∧ w a = .inl (t, n, f) ∧ vp_in i n ∧ (t = 0 ∨ x = 0 ∨ x = 1) ∧ c' = (k, ls, r, sm_set w a (.inl (t, n, upd f i.toNatClampNeg x))) := by
  unfold sm_ast at h
  split at h
  · split at h
    · split at h
      · rename_i hw hc
        obtain ⟨hc, h1, h2⟩ := hc
        cases h; subst hc; exact ⟨_, _, _, _, _, _, rfl, hw, h1, h2, rfl⟩
      · cases h
    · cases h
  · cases h
theorem sm_ral_i {k : Nat} (h : sm_ral k ls st w = some c') : ∃ i a r n f b, st = .int i :: .ref a :: r ∧ w a = .inr (.inl (n, f)) ∧ vp_in i n ∧ f i.toNatClampNeg = some b ∧ c' = (k, ls, .ref b :: r, w) := by
  unfold sm_ral at h
  split at h
  · split at h
    · split at h
      · split at h
        · rename_i hw hc _ _ hb
          cases h; exact ⟨_, _, _, _, _, _, rfl, hw, hc, hb, rfl⟩
        · cases h
      · cases h
    · cases h
  · cases h
theorem sm_ras_i {k : Nat} (h : sm_ras k ls st w = some c') : ∃ v i a r n f fs, st = .ref v :: .int i :: .ref a :: r ∧ w a = .inr (.inl (n, f)) ∧ w v = .inr (.inr (2, fs)) ∧ vp_in i n ∧ c' = (k, ls, r, sm_set w a (.inr (.inl (n, va_up f i.toNatClampNeg (some v))))) := by
  unfold sm_ras at h
  split at h
  · split at h
    · split at h
      · rename_i ha hv hc
        obtain ⟨hc, h1⟩ := hc
        cases h; subst hc; exact ⟨_, _, _, _, _, _, _, rfl, ha, hv, h1, rfl⟩
      · cases h
    · cases h
  · cases h
theorem sm_len_i {k : Nat} (h : sm_len' k ls st w = some c') : ∃ a r n f, st = .ref a :: r ∧ w a = .inl (0, n, f) ∧ c' = (k, ls, .int (Int32.ofNat n) :: r, w) := by
  unfold sm_len' at h
  split at h
  · split at h
    · rename_i hw
      cases h; exact ⟨_, _, _, _, rfl, hw, rfl⟩
    · cases h
  · cases h
theorem sm_cp_i {k : Nat} (h : sm_cp k ls st w = some c') : ∃ n dp a1 sp a0 r n0 f n1 g, st = .int n :: .int dp :: .ref a1 :: .int sp :: .ref a0 :: r ∧ w a0 = .inl (0, n0, f) ∧ w a1 = .inl (0, n1, g) ∧ (r.map fun v => v.category).sum ≤ 8 ∧ ¬ sp < 0 ∧ ¬ dp < 0 ∧ ¬ n < 0 ∧ sp.toNatClampNeg + n.toNatClampNeg ≤ n0 ∧ dp.toNatClampNeg + n.toNatClampNeg ≤ n1 ∧ c' = (k, ls, r, sm_set w a1 (.inl (0, n1, va_cpy f g sp.toNatClampNeg dp.toNatClampNeg n.toNatClampNeg))) := by
  unfold sm_cp at h
  split at h
  · split at h
    · split at h
      · split at h
        · rename_i h0 _ _ _ _ h1 hz
          obtain ⟨e0, e1, hz⟩ := hz
          subst e0; subst e1
          cases h
          exact ⟨_, _, _, _, _, _, _, _, _, _, rfl, h0, h1, hz.1, hz.2.1, hz.2.2.1, hz.2.2.2.1, hz.2.2.2.2.1, hz.2.2.2.2.2, rfl⟩
        · cases h
      · cases h
    · cases h
  · cases h
theorem sm_m2_i {g : Int32 → Int32 → Int32} {z : Bool} {k : Nat} (h : sm_m2 g z k ls st w = some c') : ∃ x y r, st = .int y :: .int x :: r ∧ (r.map fun v => v.category).sum ≤ 8 ∧ ¬ (z = true ∧ y = 0) ∧ c' = (k, ls, .int (g x y) :: r, w) := by
  unfold sm_m2 at h
  split at h
  · split at h
    · rename_i hz
      cases h
      exact ⟨_, _, _, rfl, hz.1, hz.2, rfl⟩
    · cases h
  · cases h
end SMS
end
section
section SMT
variable {p : Program} {l : Launch} {e : Env} {R : Room} {s : State} {m : MethodId} {args : Array Value} {below : List Frame} {meth : Method} {c : Code} {H : Heap} {locs : List Loc} {cells slots : Nat} {Q : State → Prop}
variable {dC : Nat → ClassId} {dI : Nat → Nat → Nat} {ad : Nat → Nat} {gA : Nat → ClassId} {N nL y pc len : Nat} {A : Nat → Prop} {H0 : Heap} {ls st : List Value} {w : sW} {arr : Array Slot} {i : Instr} {c' : sC}
end SMT
theorem sm_good {ws : List Cond} (h : ∀ w ∈ ws, w ∈ sm_gw) : GoodIn sm_gw ws := fun w hw => ⟨h w hw, good_of_word (List.mem_filter.mp (h w hw)).2⟩
theorem dJ9_fm_0 : decode cJ9_floorMod_7cf53 0 = .ok (.iload_n 0, 1) := by decide +kernel
theorem dJ9_fm_1 : decode cJ9_floorMod_7cf53 1 = .ok (.iload_n 1, 1) := by decide +kernel
theorem dJ9_fm_2 : decode cJ9_floorMod_7cf53 2 = .ok (.irem, 1) := by decide +kernel
theorem dJ9_fm_3 : decode cJ9_floorMod_7cf53 3 = .ok (.istore_n 2, 1) := by decide +kernel
theorem dJ9_fm_4 : decode cJ9_floorMod_7cf53 4 = .ok (.iload_n 0, 1) := by decide +kernel
theorem dJ9_fm_5 : decode cJ9_floorMod_7cf53 5 = .ok (.iload_n 1, 1) := by decide +kernel
theorem dJ9_fm_6 : decode cJ9_floorMod_7cf53 6 = .ok (.ixor, 1) := by decide +kernel
theorem dJ9_fm_7 : decode cJ9_floorMod_7cf53 7 = .ok (.ifCond .ge 11, 3) := by decide +kernel
theorem dJ9_fm_10 : decode cJ9_floorMod_7cf53 10 = .ok (.iload_n 2, 1) := by decide +kernel
theorem dJ9_fm_11 : decode cJ9_floorMod_7cf53 11 = .ok (.ifCond .eq 7, 3) := by decide +kernel
theorem dJ9_fm_14 : decode cJ9_floorMod_7cf53 14 = .ok (.iload_n 2, 1) := by decide +kernel
theorem dJ9_fm_15 : decode cJ9_floorMod_7cf53 15 = .ok (.iload_n 1, 1) := by decide +kernel
theorem dJ9_fm_16 : decode cJ9_floorMod_7cf53 16 = .ok (.iadd, 1) := by decide +kernel
theorem dJ9_fm_17 : decode cJ9_floorMod_7cf53 17 = .ok (.ireturn, 1) := by decide +kernel
theorem dJ9_fm_18 : decode cJ9_floorMod_7cf53 18 = .ok (.iload_n 2, 1) := by decide +kernel
theorem dJ9_fm_19 : decode cJ9_floorMod_7cf53 19 = .ok (.ireturn, 1) := by decide +kernel
set_option maxHeartbeats 4000000 in
set_option maxRecDepth 100000 in
/-- Math.floorMod of two ints, its contract -/
theorem sm_cfm (l : Launch) {x y : Int32} (hy : ¬ y = 0) : Met l yJ9_floorMod_7cf53 [.code yJ9_floorMod_7cf53 cJ9_floorMod_7cf53 3 (some .int)] { frames := 0, cells := 0, slots := 0, locals := 0 } (va_Pc [.int x, .int y] (fun _ => True)) (va_Qi (fun r (_ : Unit) => r = sm_fm x y) (fun _ _ => True) (fun _ => False)) 0 0 (fun _ => False) := by
  refine va_MetF (cc := cJ9_floorMod_7cf53) (maxL := 3) (ret := some .int) (by decide +kernel) rfl ?_
  intro p e s m args below meth c s₁ B hml hv
  obtain ⟨rfl, -⟩ := hv
  have hx := B.exec
  have hb := B.bytes
  have hr := B.returns
  have hlocks := B.notSynchronized
  have hS : va_S (fun _ => False) s.heap s.heap [] := va_S.rf
  have hl := lv_entry ([.int x, .int y]) (n := 3) (Nat.le_of_ble_eq_true rfl)
  rw [lg_entry_eq]
  generalize (lg_sl ([.int x, .int y]) ++ List.replicate (3 - (lg_sl ([.int x, .int y])).length) Slot.unset).toArray = ls at hl ⊢
  have hl : lv_has ls 3 [(0, .int x), (1, .int y)] := hl
  refine lv_iload_n hx hb dJ9_fm_0 rfl (lv_at hl 0 rfl) ?_
  refine lv_iload_n hx hb dJ9_fm_1 rfl (lv_at hl 1 rfl) ?_
  refine lv_irem hx hb dJ9_fm_2 hy ?_
  refine lv_istore_n (lv' := [(2, .int (x - x / y * y)), (0, .int x), (1, .int y)]) hx hb dJ9_fm_3 rfl hl (by decide) rfl (fun ls hl => ?_)
  refine lv_iload_n hx hb dJ9_fm_4 rfl (lv_at hl 1 rfl) ?_
  refine lv_iload_n hx hb dJ9_fm_5 rfl (lv_at hl 2 rfl) ?_
  refine lv_ixor hx hb dJ9_fm_6 ?_
  refine lv_if_ge (tgt := 18) hx hb dJ9_fm_7 (by decide) (fun c1 => ?_) (fun c1 => ?_)
  · refine lv_iload_n hx hb dJ9_fm_18 rfl (lv_at hl 0 rfl) ?_
    refine W.iret hx hb hr (fun t ht hW => ⟨⟨_, (), rfl, ?_, trivial⟩, hS.F ht⟩) hS.2.2 dJ9_fm_19
    unfold sm_fm
    rw [if_neg (fun q => absurd q.1 (Int32.not_lt.mpr c1))]
  · refine lv_iload_n hx hb dJ9_fm_10 rfl (lv_at hl 0 rfl) ?_
    refine lv_if_eq (tgt := 18) hx hb dJ9_fm_11 (by decide) (fun c2 => ?_) (fun c2 => ?_)
    · refine lv_iload_n hx hb dJ9_fm_18 rfl (lv_at hl 0 rfl) ?_
      refine W.iret hx hb hr (fun t ht hW => ⟨⟨_, (), rfl, ?_, trivial⟩, hS.F ht⟩) hS.2.2 dJ9_fm_19
      unfold sm_fm
      rw [if_neg (fun q => q.2 c2)]
    · refine lv_iload_n hx hb dJ9_fm_14 rfl (lv_at hl 0 rfl) ?_
      refine lv_iload_n hx hb dJ9_fm_15 rfl (lv_at hl 2 rfl) ?_
      refine lv_iadd hx hb dJ9_fm_16 ?_
      refine W.iret hx hb hr (fun t ht hW => ⟨⟨_, (), rfl, ?_, trivial⟩, hS.F ht⟩) hS.2.2 dJ9_fm_17
      unfold sm_fm
      rw [if_pos ⟨Int32.not_le.mp c1, c2⟩]
section SMT
variable {p : Program} {l : Launch} {e : Env} {R : Room} {s : State} {m : MethodId} {args : Array Value} {below : List Frame} {meth : Method} {c : Code} {H : Heap} {locs : List Loc} {cells slots : Nat} {Q : State → Prop}
variable {dC : Nat → ClassId} {dI : Nat → Nat → Nat} {ad : Nat → Nat} {gA : Nat → ClassId} {N nL y pc len : Nat} {A : Nat → Prop} {H0 : Heap} {ls st : List Value} {w : sW} {arr : Array Slot} {i : Instr} {c' : sC}
set_option maxRecDepth 100000 in
/-- Math.floorMod of two ints, called -/
theorem sm_mfm {cc : ByteArray} {rest : List Value} {D : va_G} {cl : List vw_C} {ws : va_W} (hexec : p.tables.exec = Jvm.exec) (hb : c.code = cc) (hml : c.maxLocals = arr.size) {own : String} {index : Nat} (hown : s.vm.findClass own = some m.cls) (hts : ∀ w ∈ sm_gw, w.before args s = true) (hlink : (Cond.methodLink own index yJ9_floorMod_7cf53).before args s = true)
    (hframes : 1 ≤ R.frames) (hlocals : 40 ≤ R.locals) (hr8 : (rest.map fun v => v.category).sum ≤ 8) (hc : cells ≤ R.cells) (hs : slots ≤ R.slots) {x y : Int32} (hy : ¬ y = 0) (hdg : decode cc pc = .ok (.invokestatic index, 3)) (hP : va_P D cl ws H) (hS : va_S A H0 H locs)
    (kk : ∀ (H1 : Heap) (locs1 : List Loc), va_P D cl ws H1 → va_S A H0 H1 locs1 → W p l e R s m args below meth c H1 locs1 cells slots Q (F0 m (pc + 3) arr (.int (sm_fm x y) :: rest))) : W p l e R s m args below meth c H locs cells slots Q (F0 m pc arr (.int y :: .int x :: rest)) := by
  refine va_calli (a := #[]) (va_runS (As := [.int x, .int y]) (rest := rest) ⟨hexec, hb, hml, hown, hts⟩ (sm_cfm l hy) ⟨callB_of (Ts := sm_gw) 2 hts (sm_good (fun w hw => ?_)) rfl rfl rfl (hts _ sm_ma_i) hlink (by decide +kernel) ⟨by show 0 + 1 ≤ _; omega, by show 8 + (3 + 11) + 0 ≤ _; omega⟩, hts _ sm_fm_s⟩ ⟨fun a U g mk q => ⟨q.1, trivial⟩, fun U hU hW => ⟨rfl, trivial⟩⟩ rfl rfl rfl rfl (lv_room hr8) hdg ⟨by omega, by omega⟩) hS (fun q _ h => h.elim) (fun q h => h.elim) (fun r u t H1 locs1 ht hvm hw hB hz1 hk1 hS1 => ?_)
  · rcases List.mem_cons.mp hw with rfl | hw
    · exact sm_fm_c
    · cases hw
  · rw [hw]
    exact kk H1 locs1 (fun k q hq => (hP k q hq).kept (hk1 q.1 (hP k q hq).lt (fun z => z))) hS1
theorem sm_catmap (r : List Value) : ((r.map (sm_cv ad)).map fun v => v.category).sum = (r.map fun v => v.category).sum := by
  rw [List.map_map]
  congr 1
  apply List.map_congr_left
  intro v _
  exact sm_cv_cat ad v
theorem sm_vp_bool {x : Int32} (h : x = 0 ∨ x = 1) : vp_nar .boolean x = x := by
  rcases h with rfl | rfl <;> decide +kernel
theorem sm_fit_ok {t : Nat} {v : Value} {ty : FieldType} (h : sm_fit t v = true) (h0 : t = 0 → ty = .int) (h1 : t = 1 → ty = .boolean) (h2 : t = 2 → ty = .object RX0 ∨ ty = .object RX1) : narrow ty (sm_cv ad v) = sm_cv ad v ∧ fits ty (sm_cv ad v) = true ∧ t < 3 := by
  unfold sm_fit at h
  split at h
  · rw [h0 rfl]; exact ⟨rfl, rfl, by decide⟩
  · rw [h1 rfl]
    rename_i x
    simp only [Bool.or_eq_true, beq_iff_eq] at h
    rcases h with rfl | rfl
    · exact ⟨(by decide +kernel : narrow .boolean (.int 0) = .int 0), (by decide +kernel : fits .boolean (.int 0) = true), by decide⟩
    · exact ⟨(by decide +kernel : narrow .boolean (.int 1) = .int 1), (by decide +kernel : fits .boolean (.int 1) = true), by decide⟩
  · rcases h2 rfl with e | e <;> rw [e] <;> exact ⟨rfl, rfl, by decide⟩
  · cases h
set_option maxHeartbeats 4000000 in
set_option maxRecDepth 100000 in
/-- a step that neither calls nor returns -/
theorem sm_loc (hx : p.tables.exec = Jvm.exec) (hb : c.code = sm_cd y) (hml : c.maxLocals = nL) (hown : s.vm.findClass (sm_Rn (sm_cy y)) = some m.cls) (hts : ∀ w ∈ sm_gw, w.before args s = true) (hK : va_K (dC, dI) vwCl (sm_tys gA) s) (hRf : 1 ≤ R.frames) (hRl : 40 ≤ R.locals) (hcs : cells ≤ R.cells) (hss : slots ≤ R.slots)
    (hd : decode (sm_cd y) pc = .ok (i, len)) (hn : sm_nx y i len pc ls st w = some c') (ho : sm_out N w) (hP : va_P (dC, dI) vwCl (sm_wl ad gA N w) H) (hD : va_D A (sm_wl ad gA N w)) (hS : va_S A H0 H locs) (hl : sm_lh ad arr nL ls)
    (kk : ∀ (H1 : Heap) (locs1 : List Loc) (arr1 : Array Slot), sm_out N c'.2.2.2 → va_P (dC, dI) vwCl (sm_wl ad gA N c'.2.2.2) H1 → va_D A (sm_wl ad gA N c'.2.2.2) → va_S A H0 H1 locs1 → sm_lh ad arr1 nL c'.2.1 → W p l e R s m args below meth c H1 locs1 cells slots Q (F0 m c'.1 arr1 (c'.2.2.1.map (sm_cv ad)))) :
    W p l e R s m args below meth c H locs cells slots Q (F0 m pc arr (st.map (sm_cv ad))) := by
  have hsz : arr.size = nL := by obtain ⟨-, lv, h1, -⟩ := hl; exact h1.1
  cases i with
  | iconst v =>
    simp only [sm_nx] at hn
    split at hn
    · rename_i hq; subst hq; cases hn
      exact lv_iconst hx hb hd rfl (kk H locs arr ho hP hD hS hl)
    · cases hn
  | bipush v =>
    simp only [sm_nx] at hn
    split at hn
    · rename_i hq; subst hq; cases hn
      exact lv_bipush hx hb hd rfl (kk H locs arr ho hP hD hS hl)
    · cases hn
  | sipush v =>
    simp only [sm_nx] at hn
    split at hn
    · rename_i hq; subst hq; cases hn
      exact lv_sipush hx hb hd rfl (kk H locs arr ho hP hD hS hl)
    · cases hn
  | ldc_w k =>
    simp only [sm_nx] at hn
    split at hn
    · rename_i hq; subst hq
      split at hn
      · rename_i v hv; cases hn
        exact lv_ldcw hx hb hown (hts _ (sm_kst_ok hv)) hd (kk H locs arr ho hP hD hS hl)
      · cases hn
    · cases hn
  | iload k =>
    simp only [sm_nx] at hn
    split at hn
    · rename_i hq; subst hq
      obtain ⟨x, h1, rfl⟩ := sm_ld_i hn
      exact lv_iload hx hb hd (sm_lh_int hl h1) (kk H locs arr ho hP hD hS hl)
    · cases hn
  | iload_n k =>
    simp only [sm_nx] at hn
    split at hn
    · rename_i hq; subst hq
      obtain ⟨x, h1, rfl⟩ := sm_ld_i hn
      exact lv_iload_n hx hb hd rfl (sm_lh_int hl h1) (kk H locs arr ho hP hD hS hl)
    · cases hn
  | aload k =>
    simp only [sm_nx] at hn
    split at hn
    · rename_i hq; subst hq
      obtain ⟨x, h1, rfl⟩ := sm_lda_i hn
      exact lv_aload hx hb hd (sm_lh_ref hl h1) (kk H locs arr ho hP hD hS hl)
    · cases hn
  | aload_n k =>
    simp only [sm_nx] at hn
    split at hn
    · rename_i hq; subst hq
      obtain ⟨x, h1, rfl⟩ := sm_lda_i hn
      exact lv_aload_n hx hb hd rfl (sm_lh_ref hl h1) (kk H locs arr ho hP hD hS hl)
    · cases hn
  | istore k =>
    simp only [sm_nx] at hn
    split at hn
    · rename_i hq; subst hq
      obtain ⟨x, r, rfl, h1, rfl⟩ := sm_sti_i hn
      obtain ⟨hl1, lv, hl2, hl3⟩ := hl
      exact lv_istore hx hb hd hl2 (by omega) rfl (fun ls' h' => kk H locs ls' ho hP hD hS (sm_lh_set hl1 rfl hl3 h'))
    · cases hn
  | istore_n k =>
    simp only [sm_nx] at hn
    split at hn
    · rename_i hq; subst hq
      obtain ⟨x, r, rfl, h1, rfl⟩ := sm_sti_i hn
      obtain ⟨hl1, lv, hl2, hl3⟩ := hl
      exact lv_istore_n hx hb hd rfl hl2 (by omega) rfl (fun ls' h' => kk H locs ls' ho hP hD hS (sm_lh_set hl1 rfl hl3 h'))
    · cases hn
  | astore k =>
    simp only [sm_nx] at hn
    split at hn
    · rename_i hq; subst hq
      obtain ⟨x, r, rfl, h1, rfl⟩ := sm_sta_i hn
      obtain ⟨hl1, lv, hl2, hl3⟩ := hl
      exact lv_astore hx hb hd hl2 (by omega) rfl (fun ls' h' => kk H locs ls' ho hP hD hS (sm_lh_set (v := .ref x) hl1 rfl hl3 h'))
    · cases hn
  | astore_n k =>
    simp only [sm_nx] at hn
    split at hn
    · rename_i hq; subst hq
      obtain ⟨x, r, rfl, h1, rfl⟩ := sm_sta_i hn
      obtain ⟨hl1, lv, hl2, hl3⟩ := hl
      exact lv_astore_n hx hb hd rfl hl2 (by omega) rfl (fun ls' h' => kk H locs ls' ho hP hD hS (sm_lh_set (v := .ref x) hl1 rfl hl3 h'))
    · cases hn
  | iinc k v =>
    simp only [sm_nx] at hn
    split at hn
    · rename_i hq; subst hq
      split at hn
      · rename_i x hk
        cases hn
        obtain ⟨hl1, lv, hl2, hl3⟩ := hl
        obtain ⟨j, hj⟩ := List.getElem?_of_mem (hl3 k _ hk (by simp)).2
        have hkl : k < ls.length := (List.getElem?_eq_some_iff.mp hk).1
        exact lv_iinc hx hb hd hl2 hj rfl (by omega) rfl (fun ls' h' => kk H locs ls' ho hP hD hS (sm_lh_set (v := .int (x + Int32.ofInt v)) hl1 rfl hl3 h'))
      · cases hn
    · cases hn
  | iadd =>
    simp only [sm_nx] at hn
    split at hn
    · rename_i hq; subst hq
      obtain ⟨x, y, r, rfl, rfl⟩ := sm_bin_i hn
      exact lv_iadd hx hb hd (kk H locs arr ho hP hD hS hl)
    · cases hn
  | isub =>
    simp only [sm_nx] at hn
    split at hn
    · rename_i hq; subst hq
      obtain ⟨x, y, r, rfl, rfl⟩ := sm_bin_i hn
      exact lv_isub hx hb hd (kk H locs arr ho hP hD hS hl)
    · cases hn
  | imul =>
    simp only [sm_nx] at hn
    split at hn
    · rename_i hq; subst hq
      obtain ⟨x, y, r, rfl, rfl⟩ := sm_bin_i hn
      exact lv_imul hx hb hd (kk H locs arr ho hP hD hS hl)
    · cases hn
  | iand =>
    simp only [sm_nx] at hn
    split at hn
    · rename_i hq; subst hq
      obtain ⟨x, y, r, rfl, rfl⟩ := sm_bin_i hn
      exact lv_iand hx hb hd (kk H locs arr ho hP hD hS hl)
    · cases hn
  | ior =>
    simp only [sm_nx] at hn
    split at hn
    · rename_i hq; subst hq
      obtain ⟨x, y, r, rfl, rfl⟩ := sm_bin_i hn
      exact lv_ior hx hb hd (kk H locs arr ho hP hD hS hl)
    · cases hn
  | ixor =>
    simp only [sm_nx] at hn
    split at hn
    · rename_i hq; subst hq
      obtain ⟨x, y, r, rfl, rfl⟩ := sm_bin_i hn
      exact lv_ixor hx hb hd (kk H locs arr ho hP hD hS hl)
    · cases hn
  | ishl =>
    simp only [sm_nx] at hn
    split at hn
    · rename_i hq; subst hq
      obtain ⟨x, y, r, rfl, rfl⟩ := sm_bin_i hn
      exact lv_ishl hx hb hd (kk H locs arr ho hP hD hS hl)
    · cases hn
  | iushr =>
    simp only [sm_nx] at hn
    split at hn
    · rename_i hq; subst hq
      obtain ⟨x, y, r, rfl, rfl⟩ := sm_bin_i hn
      exact lv_iushr hx hb hd rfl (kk H locs arr ho hP hD hS hl)
    · cases hn
  | idiv =>
    simp only [sm_nx] at hn
    split at hn
    · rename_i hq; subst hq
      obtain ⟨x, y, r, rfl, h1, rfl⟩ := sm_bin0_i hn
      exact lv_idiv hx hb hd h1 (kk H locs arr ho hP hD hS hl)
    · cases hn
  | irem =>
    simp only [sm_nx] at hn
    split at hn
    · rename_i hq; subst hq
      obtain ⟨x, y, r, rfl, h1, rfl⟩ := sm_bin0_i hn
      exact lv_irem hx hb hd h1 (kk H locs arr ho hP hD hS hl)
    · cases hn
  | dup =>
    simp only [sm_nx] at hn
    split at hn
    · rename_i hq; subst hq
      split at hn
      · cases hn
        exact lv_dup hx hb hd rfl (kk H locs arr ho hP hD hS hl)
      · cases hn
        exact lv_dup hx hb hd rfl (kk H locs arr ho hP hD hS hl)
      · cases hn
    · cases hn
  | dup2 =>
    simp only [sm_nx] at hn
    split at hn
    · rename_i hq; subst hq
      split at hn
      · cases hn
        exact lv_dup2_11 hx hb hd rfl rfl (kk H locs arr ho hP hD hS hl)
      · cases hn
    · cases hn
  | pop =>
    simp only [sm_nx] at hn
    split at hn
    · rename_i hq; subst hq
      split at hn
      · cases hn
        exact lv_pop hx hb hd rfl (kk H locs arr ho hP hD hS hl)
      · cases hn
    · cases hn
  | goto off =>
    simp only [sm_nx] at hn
    split at hn
    · rename_i hq; subst hq
      obtain ⟨t, h1, rfl⟩ := sm_j_i hn
      exact lv_goto hx hb hd h1 (kk H locs arr ho hP hD hS hl)
    · cases hn
  | ifCond cnd off =>
    simp only [sm_nx] at hn
    split at hn
    · rename_i hq
      obtain ⟨hq, hq2⟩ := hq
      subst hq
      split at hn
      · rename_i x r
        cases hn
        have ht : (pc : Int) + off = ((((pc : Int) + off).toNat : Nat) : Int) := by omega
        have K := kk H locs arr ho hP hD hS hl
        cases cnd with
        | eq => exact lv_if_eq hx hb hd ht (fun q => by
            have K := K
            rw [if_pos (show sm_cmp .eq x 0 = true from decide_eq_true q)] at K; exact K) (fun q => by
            have K := K
            rw [if_neg (show ¬ sm_cmp .eq x 0 = true from (fun z => q (of_decide_eq_true z)))] at K; exact K)
        | ne => exact lv_if_ne hx hb hd ht (fun q => by
            have K := K
            rw [if_pos (show sm_cmp .ne x 0 = true from decide_eq_true q)] at K; exact K) (fun q => by
            have K := K
            rw [if_neg (show ¬ sm_cmp .ne x 0 = true from (fun z => absurd q (of_decide_eq_true z)))] at K; exact K)
        | lt => exact lv_if_lt hx hb hd ht (fun q => by
            have K := K
            rw [if_pos (show sm_cmp .lt x 0 = true from decide_eq_true q)] at K; exact K) (fun q => by
            have K := K
            rw [if_neg (show ¬ sm_cmp .lt x 0 = true from (fun z => q (of_decide_eq_true z)))] at K; exact K)
        | ge => exact lv_if_ge hx hb hd ht (fun q => by
            have K := K
            rw [if_pos (show sm_cmp .ge x 0 = true from decide_eq_true q)] at K; exact K) (fun q => by
            have K := K
            rw [if_neg (show ¬ sm_cmp .ge x 0 = true from (fun z => q (of_decide_eq_true z)))] at K; exact K)
        | gt => exact lv_if_gt hx hb hd ht (fun q => by
            have K := K
            rw [if_pos (show sm_cmp .gt x 0 = true from decide_eq_true q)] at K; exact K) (fun q => by
            have K := K
            rw [if_neg (show ¬ sm_cmp .gt x 0 = true from (fun z => q (of_decide_eq_true z)))] at K; exact K)
        | le => exact lv_if_le hx hb hd ht (fun q => by
            have K := K
            rw [if_pos (show sm_cmp .le x 0 = true from decide_eq_true q)] at K; exact K) (fun q => by
            have K := K
            rw [if_neg (show ¬ sm_cmp .le x 0 = true from (fun z => q (of_decide_eq_true z)))] at K; exact K)
      · cases hn
    · cases hn
  | if_icmp cnd off =>
    simp only [sm_nx] at hn
    split at hn
    · rename_i hq
      obtain ⟨hq, hq2⟩ := hq
      subst hq
      split at hn
      · rename_i y2 x2 r
        cases hn
        have ht : (pc : Int) + off = ((((pc : Int) + off).toNat : Nat) : Int) := by omega
        have K := kk H locs arr ho hP hD hS hl
        cases cnd with
        | eq => exact lv_icmp_eq hx hb hd ht (fun q => by
            have K := K
            rw [if_pos (show sm_cmp .eq x2 y2 = true from decide_eq_true q)] at K; exact K) (fun q => by
            have K := K
            rw [if_neg (show ¬ sm_cmp .eq x2 y2 = true from (fun z => q (of_decide_eq_true z)))] at K; exact K)
        | ne => exact lv_icmp_ne hx hb hd ht (fun q => by
            have K := K
            rw [if_pos (show sm_cmp .ne x2 y2 = true from decide_eq_true q)] at K; exact K) (fun q => by
            have K := K
            rw [if_neg (show ¬ sm_cmp .ne x2 y2 = true from (fun z => absurd q (of_decide_eq_true z)))] at K; exact K)
        | lt => exact lv_icmp_lt hx hb hd ht (fun q => by
            have K := K
            rw [if_pos (show sm_cmp .lt x2 y2 = true from decide_eq_true q)] at K; exact K) (fun q => by
            have K := K
            rw [if_neg (show ¬ sm_cmp .lt x2 y2 = true from (fun z => q (of_decide_eq_true z)))] at K; exact K)
        | ge => exact lv_icmp_ge hx hb hd ht (fun q => by
            have K := K
            rw [if_pos (show sm_cmp .ge x2 y2 = true from decide_eq_true q)] at K; exact K) (fun q => by
            have K := K
            rw [if_neg (show ¬ sm_cmp .ge x2 y2 = true from (fun z => q (of_decide_eq_true z)))] at K; exact K)
        | gt => exact lv_icmp_gt hx hb hd ht (fun q => by
            have K := K
            rw [if_pos (show sm_cmp .gt x2 y2 = true from decide_eq_true q)] at K; exact K) (fun q => by
            have K := K
            rw [if_neg (show ¬ sm_cmp .gt x2 y2 = true from (fun z => q (of_decide_eq_true z)))] at K; exact K)
        | le => exact lv_icmp_le hx hb hd ht (fun q => by
            have K := K
            rw [if_pos (show sm_cmp .le x2 y2 = true from decide_eq_true q)] at K; exact K) (fun q => by
            have K := K
            rw [if_neg (show ¬ sm_cmp .le x2 y2 = true from (fun z => q (of_decide_eq_true z)))] at K; exact K)
      · cases hn
    · cases hn
  | tableswitch dflt lo hi offs =>
    simp only [sm_nx, sm_tsw] at hn
    split at hn
    · split at hn
      · rename_i hq
        obtain ⟨t, h1, rfl⟩ := sm_j_i hn
        exact lv_tableOut hx hb hd hq h1 (kk H locs arr ho hP hD hS hl)
      · rename_i hq
        split at hn
        · rename_i off hoff
          obtain ⟨t, h1, rfl⟩ := sm_j_i hn
          exact lv_tableIn hx hb hd (fun z => hq (Or.inl z)) (fun z => hq (Or.inr z)) hoff h1 (kk H locs arr ho hP hD hS hl)
        · cases hn
    · cases hn
  | lookupswitch dflt ps =>
    simp only [sm_nx, sm_lsw] at hn
    split at hn
    · split at hn
      · rename_i hq
        obtain ⟨t, h1, rfl⟩ := sm_j_i hn
        exact lv_lookup hx hb hd hq rfl h1 (kk H locs arr ho hP hD hS hl)
      · cases hn
    · cases hn
  | getfield k =>
    simp only [sm_nx] at hn
    split at hn
    · rename_i hq; subst hq
      obtain ⟨ci, j, o, r, fs, v, h1, rfl, hw, hv, rfl⟩ := sm_get_i hn
      obtain ⟨⟨f1, f2, f3⟩, -⟩ := sm_fld_ok h1
      have hoN : o < N := sm_lt ho hw (by rintro q; cases q; cases hv)
      have he := sm_wl_get (ad := ad) (gA := gA) (w := w) hoN
      rw [hw] at he
      exact va_get hx hb hts (sm_lay ci f1) hown hK hP o he (sm_vw ci f1) j f2 (hts _ f3) (fun _ h9 => h9) (v := sm_cv ad v) (by rw [List.getElem?_map, hv]; rfl) hd (kk H locs arr ho hP hD hS hl)
    · cases hn
  | putfield k =>
    simp only [sm_nx] at hn
    split at hn
    · rename_i hq; subst hq
      obtain ⟨ci, j, o, r, fs, v, h1, rfl, hw, hj, hfit, rfl⟩ := sm_put_i hn
      obtain ⟨⟨f1, f2, f3⟩, f4⟩ := sm_fld_ok h1
      have hoN : o < N := sm_lt ho hw (by rintro q; cases q; exact absurd hj (Nat.not_lt_zero _))
      have he := sm_wl_get (ad := ad) (gA := gA) (w := w) hoN
      rw [hw] at he
      obtain ⟨k0, k1, k2⟩ := sm_fkok _ f4
      obtain ⟨n1, n2, n3⟩ := sm_fit_ok (ad := ad) hfit (fun q => (k0 q).2) (fun q => (k1 q).2) (fun q => (k2 q).2)
      have hfin : (sm_T ci j).2.2.2 = false := by
        have h3 : sm_fk ci j = 0 ∨ sm_fk ci j = 1 ∨ sm_fk ci j = 2 := by omega
        rcases h3 with q | q | q
        · exact (k0 q).1
        · exact (k1 q).1
        · exact (k2 q).1
      refine va_put hx hb hts (sm_lay ci f1) (sm_ty ci) (sm_tyok ci f1) (sm_nmok ci f1) hown hK hP hD hS o he (sm_vw ci f1) j f2 (hts _ f3) (fun _ h9 => h9) hfin (sm_tyok ci f1 j f2) n1 n2 (by simpa using hj) hd (fun H1 locs1 hP1 hD1 hS1 => ?_)
      have e9 : (sm_wl ad gA N w).set o (ad o, .inr (ci, (fs.map (sm_cv ad)).set j (sm_cv ad v))) = sm_wl ad gA N (sm_set w o (.inr (.inr (ci, fs.set j v)))) := by
        rw [← sm_wl_set hoN]
        simp only [sm_cc, List.map_set]
      rw [e9] at hP1 hD1
      exact kk H1 locs1 arr (sm_out_set ho hoN) hP1 hD1 hS1 hl
    · cases hn
  | iaload =>
    simp only [sm_nx] at hn
    split at hn
    · rename_i hq; subst hq
      obtain ⟨i, a, r, n, f, rfl, hw, hin, rfl⟩ := sm_ald_i hn
      have hoN : a < N := sm_lt ho hw (by rintro q; cases q)
      have he := sm_wl_get (ad := ad) (gA := gA) (w := w) hoN
      rw [hw] at he
      exact va_iald hx hb hK hP a 0 he rfl hin hd (kk H locs arr ho hP hD hS hl)
    · cases hn
  | baload =>
    simp only [sm_nx] at hn
    split at hn
    · rename_i hq; subst hq
      obtain ⟨i, a, r, n, f, rfl, hw, hin, rfl⟩ := sm_ald_i hn
      have hoN : a < N := sm_lt ho hw (by rintro q; cases q)
      have he := sm_wl_get (ad := ad) (gA := gA) (w := w) hoN
      rw [hw] at he
      exact va_zald hx hb hK hP a 1 he rfl hin hd (kk H locs arr ho hP hD hS hl)
    · cases hn
  | iastore =>
    simp only [sm_nx] at hn
    split at hn
    · rename_i hq; subst hq
      obtain ⟨x, i, a, r, n, f, rfl, hw, hin, -, rfl⟩ := sm_ast_i hn
      have hoN : a < N := sm_lt ho hw (by rintro q; cases q)
      have he := sm_wl_get (ad := ad) (gA := gA) (w := w) hoN
      rw [hw] at he
      refine va_iast hx hb hK hP hD hS a 0 he rfl hin hd (fun H1 locs1 hP1 hD1 hS1 => ?_)
      have e9 : (sm_wl ad gA N w).set a (ad a, .inl (gA 0, n, .inl (upd f i.toNatClampNeg x))) = sm_wl ad gA N (sm_set w a (.inl (0, n, upd f i.toNatClampNeg x))) := by
        rw [← sm_wl_set hoN]; rfl
      rw [e9] at hP1 hD1
      exact kk H1 locs1 arr (sm_out_set ho hoN) hP1 hD1 hS1 hl
    · cases hn
  | bastore =>
    simp only [sm_nx] at hn
    split at hn
    · rename_i hq; subst hq
      obtain ⟨x, i, a, r, n, f, rfl, hw, hin, hx1, rfl⟩ := sm_ast_i hn
      have hx1 : x = 0 ∨ x = 1 := by
        rcases hx1 with q | q
        · exact absurd q (by decide)
        · exact q
      have hoN : a < N := sm_lt ho hw (by rintro q; cases q)
      have he := sm_wl_get (ad := ad) (gA := gA) (w := w) hoN
      rw [hw] at he
      refine va_zast hx hb hK hP hD hS a 1 he rfl hin hd (fun H1 locs1 hP1 hD1 hS1 => ?_)
      have e9 : (sm_wl ad gA N w).set a (ad a, .inl (gA 1, n, .inl (upd f i.toNatClampNeg (vp_nar .boolean x)))) = sm_wl ad gA N (sm_set w a (.inl (1, n, upd f i.toNatClampNeg x))) := by
        rw [← sm_wl_set hoN, sm_vp_bool hx1]; rfl
      rw [e9] at hP1 hD1
      exact kk H1 locs1 arr (sm_out_set ho hoN) hP1 hD1 hS1 hl
    · cases hn
  | aaload =>
    simp only [sm_nx] at hn
    split at hn
    · rename_i hq; subst hq
      obtain ⟨i, a, r, n, f, b, rfl, hw, hin, hb1, rfl⟩ := sm_ral_i hn
      have hoN : a < N := sm_lt ho hw (by rintro q; cases q)
      have he := sm_wl_get (ad := ad) (gA := gA) (w := w) hoN
      rw [hw] at he
      refine va_aldq hx hb hK hP a 2 he rfl hin hd ?_
      rw [hb1]
      exact kk H locs arr ho hP hD hS hl
    · cases hn
  | aastore =>
    simp only [sm_nx] at hn
    split at hn
    · rename_i hq; subst hq
      obtain ⟨v, i, a, r, n, f, fs, rfl, hw, hwv, hin, rfl⟩ := sm_ras_i hn
      have hoN : a < N := sm_lt ho hw (by rintro q; cases q)
      have hvN : v < N := sm_lt ho hwv (by rintro q; cases q)
      have he := sm_wl_get (ad := ad) (gA := gA) (w := w) hoN
      have hev := sm_wl_get (ad := ad) (gA := gA) (w := w) hvN
      rw [hw] at he
      rw [hwv] at hev
      refine va_astq (r := (RX2, TX2, 13)) hx hb hK hP hD hS a 2 v 2 he rfl hev rfl hin hd (fun H1 locs1 hP1 hD1 hS1 => ?_)
      have e9 : (sm_wl ad gA N w).set a (ad a, .inl (gA 2, n, .inr (.inr (.inr (.inr (va_up (fun j => (f j).map ad) i.toNatClampNeg (some (ad v)))))))) = sm_wl ad gA N (sm_set w a (.inr (.inl (n, va_up f i.toNatClampNeg (some v))))) := by
        rw [← sm_wl_set hoN]
        have e8 : va_up (fun j => (f j).map ad) i.toNatClampNeg (some (ad v)) = fun j => (va_up f i.toNatClampNeg (some v) j).map ad := by
          funext j
          simp only [va_up]
          split <;> rfl
        rw [e8]; rfl
      rw [e9] at hP1 hD1
      exact kk H1 locs1 arr (sm_out_set ho hoN) hP1 hD1 hS1 hl
    · cases hn
  | arraylength =>
    simp only [sm_nx] at hn
    split at hn
    · rename_i hq; subst hq
      obtain ⟨a, r, n, f, rfl, hw, rfl⟩ := sm_len_i hn
      have hoN : a < N := sm_lt ho hw (by rintro q; cases q)
      have he := sm_wl_get (ad := ad) (gA := gA) (w := w) hoN
      rw [hw] at he
      exact va_alen hx hb hK hP a 0 he rfl rfl hd (kk H locs arr ho hP hD hS hl)
    · cases hn
  | invokestatic k =>
    simp only [sm_nx] at hn
    split at hn
    · rename_i hq; subst hq
      cases hnt : sm_nat (sm_cy y) k with
      | none => rw [hnt] at hn; simp [sm_nx1] at hn
      | some q =>
        rw [hnt] at hn
        obtain ⟨h4, hlk⟩ := sm_nat_ok hnt
        have hlk := hts _ hlk
        have h4 : q < 4 := h4
        have h5 : q = 0 ∨ q = 1 ∨ q = 2 ∨ q = 3 := by omega
        rcases h5 with rfl | rfl | rfl | rfl
        · obtain ⟨n, dp, a1, sp, a0, r, n0, f, n1, g, rfl, hw0, hw1, z0, z1, z2, z3, z4, z5, rfl⟩ := sm_cp_i hn
          have h0N : a0 < N := sm_lt ho hw0 (by rintro q; cases q)
          have h1N : a1 < N := sm_lt ho hw1 (by rintro q; cases q)
          have he0 := sm_wl_get (ad := ad) (gA := gA) (w := w) h0N
          have he1 := sm_wl_get (ad := ad) (gA := gA) (w := w) h1N
          rw [hw0] at he0
          rw [hw1] at he1
          refine va_copyi hx hb (hml.trans hsz.symm) hown hlk (hts _ sm_ac_n) (hts _ sm_ac_s) (hts _ sm_sy_i) hK hP hD hS a0 a1 0 0 he0 he1 rfl rfl rfl z1 z2 z3 z4 z5 (fun _ _ => rfl) hRf (by
            have e8 := sm_catmap (ad := ad) r
            have : nativeFrameWords "java/lang/System" "arraycopy" 5 ≤ 20 := by decide +kernel
            simp only [Function.comp_def, List.map_map] at e8 ⊢
            omega) hd (fun H1 locs1 hP1 hD1 hS1 => ?_)
          have e9 : (sm_wl ad gA N w).set a1 (ad a1, .inl (gA 0, n1, .inl (va_cpy f g sp.toNatClampNeg dp.toNatClampNeg n.toNatClampNeg))) = sm_wl ad gA N (sm_set w a1 (.inl (0, n1, va_cpy f g sp.toNatClampNeg dp.toNatClampNeg n.toNatClampNeg))) := by
            rw [← sm_wl_set h1N]; rfl
          rw [e9] at hP1 hD1
          exact kk H1 locs1 arr (sm_out_set ho h1N) hP1 hD1 hS1 hl
        · obtain ⟨x, y, r, rfl, hz, -, rfl⟩ := sm_m2_i hn
          exact va_mmax hx hb (hml.trans hsz.symm) hown hlk (hts _ sm_max_s) (hts _ sm_ma_i) (hts _ sm_max_c) hRf (by rw [sm_catmap]; omega) hcs hss hd (kk H locs arr ho hP hD hS hl)
        · obtain ⟨x, y, r, rfl, hz, -, rfl⟩ := sm_m2_i hn
          exact va_mmin hx hb (hml.trans hsz.symm) hown hlk (hts _ sm_min_s) (hts _ sm_ma_i) (hts _ sm_min_c) hRf (by rw [sm_catmap]; omega) hcs hss hd (kk H locs arr ho hP hD hS hl)
        · obtain ⟨x, y, r, rfl, hz, hz2, rfl⟩ := sm_m2_i hn
          exact sm_mfm hx hb (hml.trans hsz.symm) hown hts hlk hRf hRl (by rw [sm_catmap]; exact hz) hcs hss (fun q => hz2 ⟨rfl, q⟩) hd hP hS (fun H1 locs1 hP1 hS1 => kk H1 locs1 arr ho hP1 hD hS1 hl)
    · cases hn
  | _ => cases hn
end SMT
end
