section
-- ===== PART A: goes FIRST, ahead of the names: the tables' words, and 'selects' of the private methods out of them =====
/-- a private method of a class that the tables say can be made, by its rows of tables_1 -/
def lw_okq (q : MethodName × Nat) : Prop := (q.1.cls ≠ "java/lang/invoke/MethodHandle" ∧ q.1.cls ≠ "java/lang/invoke/VarHandle") ∧ Cond.instantiable q.1.cls q.2 ∈ tables_1 ∧ Cond.privateMethod q.1 ∈ tables_1 ∧ Cond.instanceMethod q.1 ∈ tables_1
theorem lw_p0 : lw_okq (⟨"java/lang/Throwable", "fillInStackTrace", "(I)Ljava/lang/Throwable;"⟩, 6) := ⟨⟨by decide +kernel, by decide +kernel⟩, List.mem_of_getElem? (i := 177) (by decide +kernel), List.mem_of_getElem? (i := 175) (by decide +kernel), List.mem_of_getElem? (i := 176) (by decide +kernel)⟩
theorem lw_p1 : lw_okq (⟨"PromiseShelves", "countOf", "(ILPromiseShelves$Stage;)I"⟩, 8) := ⟨⟨by decide +kernel, by decide +kernel⟩, List.mem_of_getElem? (i := 16) (by decide +kernel), List.mem_of_getElem? (i := 209) (by decide +kernel), List.mem_of_getElem? (i := 210) (by decide +kernel)⟩
theorem lw_p2 : lw_okq (⟨"PromiseShelves", "hoursToFreezeAnew", "(LPromiseShelves$Shelf;)I"⟩, 8) := ⟨⟨by decide +kernel, by decide +kernel⟩, List.mem_of_getElem? (i := 16) (by decide +kernel), List.mem_of_getElem? (i := 219) (by decide +kernel), List.mem_of_getElem? (i := 220) (by decide +kernel)⟩
theorem lw_p3 : lw_okq (⟨"PromiseShelves$Shelf", "becomeLike", "(LPromiseShelves$Shelf;)V"⟩, 3) := ⟨⟨by decide +kernel, by decide +kernel⟩, List.mem_of_getElem? (i := 27) (by decide +kernel), List.mem_of_getElem? (i := 223) (by decide +kernel), List.mem_of_getElem? (i := 224) (by decide +kernel)⟩
theorem lw_p4 : lw_okq (⟨"PromiseShelves$Shelf", "openDoor", "()V"⟩, 3) := ⟨⟨by decide +kernel, by decide +kernel⟩, List.mem_of_getElem? (i := 27) (by decide +kernel), List.mem_of_getElem? (i := 227) (by decide +kernel), List.mem_of_getElem? (i := 228) (by decide +kernel)⟩
theorem lw_p5 : lw_okq (⟨"PromiseShelves$Promise", "layAnew", "(IILPromiseShelves$Shelf;)V"⟩, 6) := ⟨⟨by decide +kernel, by decide +kernel⟩, List.mem_of_getElem? (i := 46) (by decide +kernel), List.mem_of_getElem? (i := 234) (by decide +kernel), List.mem_of_getElem? (i := 235) (by decide +kernel)⟩
theorem lw_p6 : lw_okq (⟨"PromiseShelves", "triedHoursUntil", "(LPromiseShelves$Stage;)I"⟩, 8) := ⟨⟨by decide +kernel, by decide +kernel⟩, List.mem_of_getElem? (i := 16) (by decide +kernel), List.mem_of_getElem? (i := 242) (by decide +kernel), List.mem_of_getElem? (i := 243) (by decide +kernel)⟩
theorem lw_p7 : lw_okq (⟨"PromiseShelves", "tryAnHour", "(Z)Z"⟩, 8) := ⟨⟨by decide +kernel, by decide +kernel⟩, List.mem_of_getElem? (i := 16) (by decide +kernel), List.mem_of_getElem? (i := 246) (by decide +kernel), List.mem_of_getElem? (i := 247) (by decide +kernel)⟩
theorem lw_p8 : lw_okq (⟨"PromiseShelves$Shelf", "liveAnHour", "(Z)V"⟩, 3) := ⟨⟨by decide +kernel, by decide +kernel⟩, List.mem_of_getElem? (i := 27) (by decide +kernel), List.mem_of_getElem? (i := 250) (by decide +kernel), List.mem_of_getElem? (i := 251) (by decide +kernel)⟩
theorem lw_p9 : lw_okq (⟨"PromiseShelves$Promise", "liveAnHour", "()Z"⟩, 6) := ⟨⟨by decide +kernel, by decide +kernel⟩, List.mem_of_getElem? (i := 46) (by decide +kernel), List.mem_of_getElem? (i := 257) (by decide +kernel), List.mem_of_getElem? (i := 258) (by decide +kernel)⟩
theorem lw_p10 : lw_okq (⟨"PromiseShelves$Promise", "drawNearTo", "(I)V"⟩, 6) := ⟨⟨by decide +kernel, by decide +kernel⟩, List.mem_of_getElem? (i := 46) (by decide +kernel), List.mem_of_getElem? (i := 261) (by decide +kernel), List.mem_of_getElem? (i := 262) (by decide +kernel)⟩
theorem lw_p11 : lw_okq (⟨"PromiseShelves$Promise", "leaveAs", "(LPromiseShelves$Stage;)V"⟩, 6) := ⟨⟨by decide +kernel, by decide +kernel⟩, List.mem_of_getElem? (i := 46) (by decide +kernel), List.mem_of_getElem? (i := 269) (by decide +kernel), List.mem_of_getElem? (i := 270) (by decide +kernel)⟩
theorem lw_p12 : lw_okq (⟨"PromiseShelves", "hoursToAlarmWithoutPower", "(LPromiseShelves$Promise;)I"⟩, 8) := ⟨⟨by decide +kernel, by decide +kernel⟩, List.mem_of_getElem? (i := 16) (by decide +kernel), List.mem_of_getElem? (i := 280) (by decide +kernel), List.mem_of_getElem? (i := 281) (by decide +kernel)⟩
theorem lw_p13 : lw_okq (⟨"PromiseShelves", "tryOut", "(LPromiseShelves$Promise;LPromiseShelves$Shelf;)V"⟩, 8) := ⟨⟨by decide +kernel, by decide +kernel⟩, List.mem_of_getElem? (i := 16) (by decide +kernel), List.mem_of_getElem? (i := 284) (by decide +kernel), List.mem_of_getElem? (i := 285) (by decide +kernel)⟩
theorem lw_p14 : lw_okq (⟨"PromiseShelves$Promise", "becomeLike", "(LPromiseShelves$Promise;LPromiseShelves$Shelf;)V"⟩, 6) := ⟨⟨by decide +kernel, by decide +kernel⟩, List.mem_of_getElem? (i := 46) (by decide +kernel), List.mem_of_getElem? (i := 288) (by decide +kernel), List.mem_of_getElem? (i := 289) (by decide +kernel)⟩
theorem lw_p15 : lw_okq (⟨"PromiseShelves", "withShelves", "(J)J"⟩, 8) := ⟨⟨by decide +kernel, by decide +kernel⟩, List.mem_of_getElem? (i := 16) (by decide +kernel), List.mem_of_getElem? (i := 313) (by decide +kernel), List.mem_of_getElem? (i := 314) (by decide +kernel)⟩
def lw_privs_1 : List (MethodName × Nat) := [(⟨"java/lang/Throwable", "fillInStackTrace", "(I)Ljava/lang/Throwable;"⟩, 6), (⟨"PromiseShelves", "countOf", "(ILPromiseShelves$Stage;)I"⟩, 8), (⟨"PromiseShelves", "hoursToFreezeAnew", "(LPromiseShelves$Shelf;)I"⟩, 8), (⟨"PromiseShelves$Shelf", "becomeLike", "(LPromiseShelves$Shelf;)V"⟩, 3), (⟨"PromiseShelves$Shelf", "openDoor", "()V"⟩, 3), (⟨"PromiseShelves$Promise", "layAnew", "(IILPromiseShelves$Shelf;)V"⟩, 6), (⟨"PromiseShelves", "triedHoursUntil", "(LPromiseShelves$Stage;)I"⟩, 8), (⟨"PromiseShelves", "tryAnHour", "(Z)Z"⟩, 8), (⟨"PromiseShelves$Shelf", "liveAnHour", "(Z)V"⟩, 3), (⟨"PromiseShelves$Promise", "liveAnHour", "()Z"⟩, 6), (⟨"PromiseShelves$Promise", "drawNearTo", "(I)V"⟩, 6), (⟨"PromiseShelves$Promise", "leaveAs", "(LPromiseShelves$Stage;)V"⟩, 6), (⟨"PromiseShelves", "hoursToAlarmWithoutPower", "(LPromiseShelves$Promise;)I"⟩, 8), (⟨"PromiseShelves", "tryOut", "(LPromiseShelves$Promise;LPromiseShelves$Shelf;)V"⟩, 8), (⟨"PromiseShelves$Promise", "becomeLike", "(LPromiseShelves$Promise;LPromiseShelves$Shelf;)V"⟩, 6), (⟨"PromiseShelves", "withShelves", "(J)J"⟩, 8)]
theorem lw_r1 : ∀ q ∈ lw_privs_1, lw_okq q := List.forall_mem_cons.mpr ⟨lw_p0, List.forall_mem_cons.mpr ⟨lw_p1, List.forall_mem_cons.mpr ⟨lw_p2, List.forall_mem_cons.mpr ⟨lw_p3, List.forall_mem_cons.mpr ⟨lw_p4, List.forall_mem_cons.mpr ⟨lw_p5, List.forall_mem_cons.mpr ⟨lw_p6, List.forall_mem_cons.mpr ⟨lw_p7, List.forall_mem_cons.mpr ⟨lw_p8, List.forall_mem_cons.mpr ⟨lw_p9, List.forall_mem_cons.mpr ⟨lw_p10, List.forall_mem_cons.mpr ⟨lw_p11, List.forall_mem_cons.mpr ⟨lw_p12, List.forall_mem_cons.mpr ⟨lw_p13, List.forall_mem_cons.mpr ⟨lw_p14, List.forall_mem_cons.mpr ⟨lw_p15, fun _ h => absurd h List.not_mem_nil⟩⟩⟩⟩⟩⟩⟩⟩⟩⟩⟩⟩⟩⟩⟩⟩
theorem lw_p16 : lw_okq (⟨"PromiseShelves", "findShelf", "(I)LPromiseShelves$Shelf;"⟩, 8) := ⟨⟨by decide +kernel, by decide +kernel⟩, List.mem_of_getElem? (i := 16) (by decide +kernel), List.mem_of_getElem? (i := 321) (by decide +kernel), List.mem_of_getElem? (i := 322) (by decide +kernel)⟩
theorem lw_p17 : lw_okq (⟨"PromiseShelves", "withPromises", "(J)J"⟩, 8) := ⟨⟨by decide +kernel, by decide +kernel⟩, List.mem_of_getElem? (i := 16) (by decide +kernel), List.mem_of_getElem? (i := 334) (by decide +kernel), List.mem_of_getElem? (i := 335) (by decide +kernel)⟩
theorem lw_p18 : lw_okq (⟨"PromiseShelves", "findPromise", "(I)LPromiseShelves$Promise;"⟩, 8) := ⟨⟨by decide +kernel, by decide +kernel⟩, List.mem_of_getElem? (i := 16) (by decide +kernel), List.mem_of_getElem? (i := 342) (by decide +kernel), List.mem_of_getElem? (i := 343) (by decide +kernel)⟩
theorem lw_p19 : lw_okq (⟨"PromiseShelves", "withMakers", "(J)J"⟩, 8) := ⟨⟨by decide +kernel, by decide +kernel⟩, List.mem_of_getElem? (i := 16) (by decide +kernel), List.mem_of_getElem? (i := 380) (by decide +kernel), List.mem_of_getElem? (i := 381) (by decide +kernel)⟩
theorem lw_p20 : lw_okq (⟨"PromiseShelves", "passAnHour", "()V"⟩, 8) := ⟨⟨by decide +kernel, by decide +kernel⟩, List.mem_of_getElem? (i := 16) (by decide +kernel), List.mem_of_getElem? (i := 467) (by decide +kernel), List.mem_of_getElem? (i := 468) (by decide +kernel)⟩
theorem lw_p21 : lw_okq (⟨"PromiseShelves", "hoursUntil", "(LPromiseShelves$Promise;LPromiseShelves$Stage;)I"⟩, 8) := ⟨⟨by decide +kernel, by decide +kernel⟩, List.mem_of_getElem? (i := 16) (by decide +kernel), List.mem_of_getElem? (i := 534) (by decide +kernel), List.mem_of_getElem? (i := 535) (by decide +kernel)⟩
theorem lw_p22 : lw_okq (⟨"PromiseShelves", "liesBehind", "(LPromiseShelves$Promise;I)Z"⟩, 8) := ⟨⟨by decide +kernel, by decide +kernel⟩, List.mem_of_getElem? (i := 16) (by decide +kernel), List.mem_of_getElem? (i := 559) (by decide +kernel), List.mem_of_getElem? (i := 560) (by decide +kernel)⟩
theorem lw_p23 : lw_okq (⟨"PromiseShelvesModel", "no", "(I)I"⟩, 6) := ⟨⟨by decide +kernel, by decide +kernel⟩, List.mem_of_getElem? (i := 563) (by decide +kernel), List.mem_of_getElem? (i := 609) (by decide +kernel), List.mem_of_getElem? (i := 610) (by decide +kernel)⟩
theorem lw_p24 : lw_okq (⟨"PromiseShelvesModel", "lay", "(III)V"⟩, 6) := ⟨⟨by decide +kernel, by decide +kernel⟩, List.mem_of_getElem? (i := 563) (by decide +kernel), List.mem_of_getElem? (i := 613) (by decide +kernel), List.mem_of_getElem? (i := 614) (by decide +kernel)⟩
theorem lw_p25 : lw_okq (⟨"PromiseShelvesModel", "open", "(I)V"⟩, 6) := ⟨⟨by decide +kernel, by decide +kernel⟩, List.mem_of_getElem? (i := 563) (by decide +kernel), List.mem_of_getElem? (i := 620) (by decide +kernel), List.mem_of_getElem? (i := 621) (by decide +kernel)⟩
theorem lw_p26 : lw_okq (⟨"PromiseShelvesModel", "isPromise", "(I)Z"⟩, 6) := ⟨⟨by decide +kernel, by decide +kernel⟩, List.mem_of_getElem? (i := 563) (by decide +kernel), List.mem_of_getElem? (i := 629) (by decide +kernel), List.mem_of_getElem? (i := 630) (by decide +kernel)⟩
theorem lw_p27 : lw_okq (⟨"PromiseShelvesModel", "lies", "(I)Z"⟩, 6) := ⟨⟨by decide +kernel, by decide +kernel⟩, List.mem_of_getElem? (i := 563) (by decide +kernel), List.mem_of_getElem? (i := 637) (by decide +kernel), List.mem_of_getElem? (i := 638) (by decide +kernel)⟩
theorem lw_p28 : lw_okq (⟨"PromiseShelvesModel", "left", "(I)I"⟩, 6) := ⟨⟨by decide +kernel, by decide +kernel⟩, List.mem_of_getElem? (i := 563) (by decide +kernel), List.mem_of_getElem? (i := 641) (by decide +kernel), List.mem_of_getElem? (i := 642) (by decide +kernel)⟩
theorem lw_p29 : lw_okq (⟨"PromiseShelvesModel", "hoursOn", "(I)I"⟩, 6) := ⟨⟨by decide +kernel, by decide +kernel⟩, List.mem_of_getElem? (i := 563) (by decide +kernel), List.mem_of_getElem? (i := 657) (by decide +kernel), List.mem_of_getElem? (i := 658) (by decide +kernel)⟩
theorem lw_p30 : lw_okq (⟨"PromiseShelvesModel", "hourOn", "()I"⟩, 6) := ⟨⟨by decide +kernel, by decide +kernel⟩, List.mem_of_getElem? (i := 563) (by decide +kernel), List.mem_of_getElem? (i := 661) (by decide +kernel), List.mem_of_getElem? (i := 662) (by decide +kernel)⟩
theorem lw_p31 : lw_okq (⟨"PromiseShelvesModel", "warm", "(I)V"⟩, 6) := ⟨⟨by decide +kernel, by decide +kernel⟩, List.mem_of_getElem? (i := 563) (by decide +kernel), List.mem_of_getElem? (i := 665) (by decide +kernel), List.mem_of_getElem? (i := 666) (by decide +kernel)⟩
def lw_privs_2 : List (MethodName × Nat) := [(⟨"PromiseShelves", "findShelf", "(I)LPromiseShelves$Shelf;"⟩, 8), (⟨"PromiseShelves", "withPromises", "(J)J"⟩, 8), (⟨"PromiseShelves", "findPromise", "(I)LPromiseShelves$Promise;"⟩, 8), (⟨"PromiseShelves", "withMakers", "(J)J"⟩, 8), (⟨"PromiseShelves", "passAnHour", "()V"⟩, 8), (⟨"PromiseShelves", "hoursUntil", "(LPromiseShelves$Promise;LPromiseShelves$Stage;)I"⟩, 8), (⟨"PromiseShelves", "liesBehind", "(LPromiseShelves$Promise;I)Z"⟩, 8), (⟨"PromiseShelvesModel", "no", "(I)I"⟩, 6), (⟨"PromiseShelvesModel", "lay", "(III)V"⟩, 6), (⟨"PromiseShelvesModel", "open", "(I)V"⟩, 6), (⟨"PromiseShelvesModel", "isPromise", "(I)Z"⟩, 6), (⟨"PromiseShelvesModel", "lies", "(I)Z"⟩, 6), (⟨"PromiseShelvesModel", "left", "(I)I"⟩, 6), (⟨"PromiseShelvesModel", "hoursOn", "(I)I"⟩, 6), (⟨"PromiseShelvesModel", "hourOn", "()I"⟩, 6), (⟨"PromiseShelvesModel", "warm", "(I)V"⟩, 6)]
theorem lw_r2 : ∀ q ∈ lw_privs_2, lw_okq q := List.forall_mem_cons.mpr ⟨lw_p16, List.forall_mem_cons.mpr ⟨lw_p17, List.forall_mem_cons.mpr ⟨lw_p18, List.forall_mem_cons.mpr ⟨lw_p19, List.forall_mem_cons.mpr ⟨lw_p20, List.forall_mem_cons.mpr ⟨lw_p21, List.forall_mem_cons.mpr ⟨lw_p22, List.forall_mem_cons.mpr ⟨lw_p23, List.forall_mem_cons.mpr ⟨lw_p24, List.forall_mem_cons.mpr ⟨lw_p25, List.forall_mem_cons.mpr ⟨lw_p26, List.forall_mem_cons.mpr ⟨lw_p27, List.forall_mem_cons.mpr ⟨lw_p28, List.forall_mem_cons.mpr ⟨lw_p29, List.forall_mem_cons.mpr ⟨lw_p30, List.forall_mem_cons.mpr ⟨lw_p31, fun _ h => absurd h List.not_mem_nil⟩⟩⟩⟩⟩⟩⟩⟩⟩⟩⟩⟩⟩⟩⟩⟩
theorem lw_p32 : lw_okq (⟨"PromiseShelvesModel", "rings", "(I)Z"⟩, 6) := ⟨⟨by decide +kernel, by decide +kernel⟩, List.mem_of_getElem? (i := 563) (by decide +kernel), List.mem_of_getElem? (i := 673) (by decide +kernel), List.mem_of_getElem? (i := 674) (by decide +kernel)⟩
theorem lw_p33 : lw_okq (⟨"PromiseShelvesModel", "getOlder", "(I)V"⟩, 6) := ⟨⟨by decide +kernel, by decide +kernel⟩, List.mem_of_getElem? (i := 563) (by decide +kernel), List.mem_of_getElem? (i := 680) (by decide +kernel), List.mem_of_getElem? (i := 681) (by decide +kernel)⟩
theorem lw_p34 : lw_okq (⟨"PromiseShelvesModel", "ok", "(I)I"⟩, 6) := ⟨⟨by decide +kernel, by decide +kernel⟩, List.mem_of_getElem? (i := 563) (by decide +kernel), List.mem_of_getElem? (i := 688) (by decide +kernel), List.mem_of_getElem? (i := 689) (by decide +kernel)⟩
theorem lw_p35 : lw_okq (⟨"PromiseShelvesModel", "ofShelf", "(II)I"⟩, 6) := ⟨⟨by decide +kernel, by decide +kernel⟩, List.mem_of_getElem? (i := 563) (by decide +kernel), List.mem_of_getElem? (i := 700) (by decide +kernel), List.mem_of_getElem? (i := 701) (by decide +kernel)⟩
theorem lw_p36 : lw_okq (⟨"PromiseShelvesModel", "on", "(I)I"⟩, 6) := ⟨⟨by decide +kernel, by decide +kernel⟩, List.mem_of_getElem? (i := 563) (by decide +kernel), List.mem_of_getElem? (i := 712) (by decide +kernel), List.mem_of_getElem? (i := 713) (by decide +kernel)⟩
theorem lw_p37 : lw_okq (⟨"PromiseShelvesModel", "coldestOf", "()I"⟩, 6) := ⟨⟨by decide +kernel, by decide +kernel⟩, List.mem_of_getElem? (i := 563) (by decide +kernel), List.mem_of_getElem? (i := 720) (by decide +kernel), List.mem_of_getElem? (i := 721) (by decide +kernel)⟩
theorem lw_p38 : lw_okq (⟨"PromiseShelvesModel", "ofPromise", "(II)I"⟩, 6) := ⟨⟨by decide +kernel, by decide +kernel⟩, List.mem_of_getElem? (i := 563) (by decide +kernel), List.mem_of_getElem? (i := 740) (by decide +kernel), List.mem_of_getElem? (i := 741) (by decide +kernel)⟩
theorem lw_p39 : lw_okq (⟨"PromiseShelvesModel", "isSo", "(II)Z"⟩, 6) := ⟨⟨by decide +kernel, by decide +kernel⟩, List.mem_of_getElem? (i := 563) (by decide +kernel), List.mem_of_getElem? (i := 760) (by decide +kernel), List.mem_of_getElem? (i := 761) (by decide +kernel)⟩
theorem lw_p40 : lw_okq (⟨"PromiseShelvesModel", "isNot", "(I)Z"⟩, 6) := ⟨⟨by decide +kernel, by decide +kernel⟩, List.mem_of_getElem? (i := 563) (by decide +kernel), List.mem_of_getElem? (i := 764) (by decide +kernel), List.mem_of_getElem? (i := 765) (by decide +kernel)⟩
theorem lw_p41 : lw_okq (⟨"PromiseShelvesModel", "owes", "(I)I"⟩, 6) := ⟨⟨by decide +kernel, by decide +kernel⟩, List.mem_of_getElem? (i := 563) (by decide +kernel), List.mem_of_getElem? (i := 784) (by decide +kernel), List.mem_of_getElem? (i := 785) (by decide +kernel)⟩
theorem lw_p42 : lw_okq (⟨"PromiseShelvesModel", "honour", "(I)I"⟩, 6) := ⟨⟨by decide +kernel, by decide +kernel⟩, List.mem_of_getElem? (i := 563) (by decide +kernel), List.mem_of_getElem? (i := 792) (by decide +kernel), List.mem_of_getElem? (i := 793) (by decide +kernel)⟩
theorem lw_p43 : lw_okq (⟨"PromiseShelvesModel", "most", "()I"⟩, 6) := ⟨⟨by decide +kernel, by decide +kernel⟩, List.mem_of_getElem? (i := 563) (by decide +kernel), List.mem_of_getElem? (i := 800) (by decide +kernel), List.mem_of_getElem? (i := 801) (by decide +kernel)⟩
theorem lw_p44 : lw_okq (⟨"PromiseShelvesModel", "until", "(II)I"⟩, 6) := ⟨⟨by decide +kernel, by decide +kernel⟩, List.mem_of_getElem? (i := 563) (by decide +kernel), List.mem_of_getElem? (i := 808) (by decide +kernel), List.mem_of_getElem? (i := 809) (by decide +kernel)⟩
theorem lw_p45 : lw_okq (⟨"PromiseShelvesModel", "keepAll", "()V"⟩, 6) := ⟨⟨by decide +kernel, by decide +kernel⟩, List.mem_of_getElem? (i := 563) (by decide +kernel), List.mem_of_getElem? (i := 812) (by decide +kernel), List.mem_of_getElem? (i := 813) (by decide +kernel)⟩
theorem lw_p46 : lw_okq (⟨"PromiseShelvesModel", "bringBack", "()V"⟩, 6) := ⟨⟨by decide +kernel, by decide +kernel⟩, List.mem_of_getElem? (i := 563) (by decide +kernel), List.mem_of_getElem? (i := 819) (by decide +kernel), List.mem_of_getElem? (i := 820) (by decide +kernel)⟩
theorem lw_p47 : lw_okq (⟨"PromiseShelvesModel", "best", "()I"⟩, 6) := ⟨⟨by decide +kernel, by decide +kernel⟩, List.mem_of_getElem? (i := 563) (by decide +kernel), List.mem_of_getElem? (i := 839) (by decide +kernel), List.mem_of_getElem? (i := 840) (by decide +kernel)⟩
def lw_privs_3 : List (MethodName × Nat) := [(⟨"PromiseShelvesModel", "rings", "(I)Z"⟩, 6), (⟨"PromiseShelvesModel", "getOlder", "(I)V"⟩, 6), (⟨"PromiseShelvesModel", "ok", "(I)I"⟩, 6), (⟨"PromiseShelvesModel", "ofShelf", "(II)I"⟩, 6), (⟨"PromiseShelvesModel", "on", "(I)I"⟩, 6), (⟨"PromiseShelvesModel", "coldestOf", "()I"⟩, 6), (⟨"PromiseShelvesModel", "ofPromise", "(II)I"⟩, 6), (⟨"PromiseShelvesModel", "isSo", "(II)Z"⟩, 6), (⟨"PromiseShelvesModel", "isNot", "(I)Z"⟩, 6), (⟨"PromiseShelvesModel", "owes", "(I)I"⟩, 6), (⟨"PromiseShelvesModel", "honour", "(I)I"⟩, 6), (⟨"PromiseShelvesModel", "most", "()I"⟩, 6), (⟨"PromiseShelvesModel", "until", "(II)I"⟩, 6), (⟨"PromiseShelvesModel", "keepAll", "()V"⟩, 6), (⟨"PromiseShelvesModel", "bringBack", "()V"⟩, 6), (⟨"PromiseShelvesModel", "best", "()I"⟩, 6)]
theorem lw_r3 : ∀ q ∈ lw_privs_3, lw_okq q := List.forall_mem_cons.mpr ⟨lw_p32, List.forall_mem_cons.mpr ⟨lw_p33, List.forall_mem_cons.mpr ⟨lw_p34, List.forall_mem_cons.mpr ⟨lw_p35, List.forall_mem_cons.mpr ⟨lw_p36, List.forall_mem_cons.mpr ⟨lw_p37, List.forall_mem_cons.mpr ⟨lw_p38, List.forall_mem_cons.mpr ⟨lw_p39, List.forall_mem_cons.mpr ⟨lw_p40, List.forall_mem_cons.mpr ⟨lw_p41, List.forall_mem_cons.mpr ⟨lw_p42, List.forall_mem_cons.mpr ⟨lw_p43, List.forall_mem_cons.mpr ⟨lw_p44, List.forall_mem_cons.mpr ⟨lw_p45, List.forall_mem_cons.mpr ⟨lw_p46, List.forall_mem_cons.mpr ⟨lw_p47, fun _ h => absurd h List.not_mem_nil⟩⟩⟩⟩⟩⟩⟩⟩⟩⟩⟩⟩⟩⟩⟩⟩
theorem lw_p48 : lw_okq (⟨"PromiseShelvesModel", "freezesOn", "(I)I"⟩, 6) := ⟨⟨by decide +kernel, by decide +kernel⟩, List.mem_of_getElem? (i := 563) (by decide +kernel), List.mem_of_getElem? (i := 843) (by decide +kernel), List.mem_of_getElem? (i := 844) (by decide +kernel)⟩
theorem lw_p49 : lw_okq (⟨"PromiseShelvesModel", "cold", "()I"⟩, 6) := ⟨⟨by decide +kernel, by decide +kernel⟩, List.mem_of_getElem? (i := 563) (by decide +kernel), List.mem_of_getElem? (i := 851) (by decide +kernel), List.mem_of_getElem? (i := 852) (by decide +kernel)⟩
def lw_privs_4 : List (MethodName × Nat) := [(⟨"PromiseShelvesModel", "freezesOn", "(I)I"⟩, 6), (⟨"PromiseShelvesModel", "cold", "()I"⟩, 6)]
theorem lw_r4 : ∀ q ∈ lw_privs_4, lw_okq q := List.forall_mem_cons.mpr ⟨lw_p48, List.forall_mem_cons.mpr ⟨lw_p49, fun _ h => absurd h List.not_mem_nil⟩⟩
def lw_privs : List (MethodName × Nat) := lw_privs_1 ++ (lw_privs_2 ++ (lw_privs_3 ++ (lw_privs_4)))
def lw_tbl : List Cond := k2_sels lw_privs ++ tables_1
theorem lw_privs_ok : ∀ q ∈ lw_privs, lw_okq q := by
  show ∀ q ∈ lw_privs_1 ++ (lw_privs_2 ++ (lw_privs_3 ++ (lw_privs_4))), lw_okq q
  exact List.forall_mem_append.mpr ⟨lw_r1, List.forall_mem_append.mpr ⟨lw_r2, List.forall_mem_append.mpr ⟨lw_r3, lw_r4⟩⟩⟩
/-- the streams that the claim lets the run draw from -/
abbrev lw_cs : List Choice := [Jvm.Choice.named "NaN.bits"]
theorem lw_bits : nanBits ∈ lw_cs := by first | decide | exact List.mem_cons_self | simp [lw_cs, nanBits]
/-! ===== BEGIN words of one list among another's, by their places ===== -/
theorem goodIn_r {big : List Cond} (ws : List Cond) (ps : List Nat) (hp : ws = ps.filterMap (fun i => big[i]?)) (h : ws.all goodWord = true) : GoodIn big ws := by
  intro w hw
  have h1 := List.all_eq_true.mp h w hw
  rw [hp] at hw
  obtain ⟨i, -, hi⟩ := List.mem_filterMap.mp hw
  have hm : w ∈ big := by first | exact List.mem_of_getElem? hi | exact List.getElem?_mem hi
  exact ⟨hm, good_of_word h1⟩
theorem goodIn_app {big a b : List Cond} (ha : GoodIn big a) (hb : GoodIn big b) : GoodIn big (a ++ b) := fun w h => (List.mem_append.mp h).elim (ha w) (hb w)
theorem goodIn_ca {big a b : List Cond} {c : Cond} (ha : GoodIn big (c :: a)) (hb : GoodIn big b) : GoodIn big (c :: (a ++ b)) := fun w h => (List.mem_cons.mp h).elim (fun e => ha w (List.mem_cons.mpr (Or.inl e))) (fun h => (List.mem_append.mp h).elim (fun h => ha w (List.mem_cons.mpr (Or.inr h))) (hb w))
theorem goodIn_sub {big ws : List Cond} (hm : ∀ w ∈ ws, w ∈ big) (h : ws.all goodWord = true) : GoodIn big ws := fun w hw => ⟨hm w hw, good_of_word (List.all_eq_true.mp h w hw)⟩
/-! ===== END ===== -/

/-! ===== BEGIN exceptions that leave a method, and their catching by the caller (launches without stack traces) ===== -/
section VXA
/-! The laws vx_back, vx_callV, vx_callS, vx_callSW, vx_throw0, vx_throwS follow proofs of the library, with one case more: JvmDerived/Free/Laws.lean (Back.of_free), Shelf42/LK1.lean (callV, callS), Shelf/KitTraced.lean (throwNew0V, throwNewS). -/
/-- where a method has thrown q: the class by its name, the cell, what was written, the world -/
def vx_T (XC : String → State → State → Prop) (st : State) (q : Addr) (t : State) (mc ms : Nat) (free : Addr → Prop) : Prop :=
  ∃ (E : String) (ce : Cell) (L : List Loc), XC E st t ∧ t.heap[q]? = some ce ∧ ce.vm = .none ∧ st.vm.findClass E = some ce.cls ∧ st.WarmedH t.vm ∧ st.sameButNew ({ t with vm := st.vm } : State) L mc ms ∧ ∀ z ∈ L, free z.base
def vx_Q (Qc : Array Value → State → Outcome → State → Prop) (XC : String → State → State → Prop) (mc ms : Nat) (free : Addr → Prop) : Array Value → State → Outcome → State → Prop := fun a st o t =>
  (Qc a st o t ∧ ∃ L, FrameEnd st o t L mc ms ∧ ∀ q ∈ L, free q.base) ∨ ∃ q, o = .threw q ∧ vx_T XC st q t mc ms free
/-- a callee that returns or throws -/
def vx_Met (l : Launch) (y : MethodName) (ws : List Cond) (rm : Room) (Pc : Array Value → State → Prop) (Qc : Array Value → State → Outcome → State → Prop) (XC : String → State → State → Prop) (mc ms : Nat) (free : Addr → Prop) : Prop :=
  MetFree l y (headSpec ws rm) Pc (fun _ _ _ _ _ => True) (vx_Q Qc XC mc ms free)
def vx_Post (XC : String → State → State → Prop) (mc ms : Nat) (free : Addr → Prop) : Pt → Array Value → Addr → Pt → Prop := fun A a q B =>
  ∃ (g : JFrame) (mk : MethodId) (t : State) (L : List Loc) (E : String) (ce : Cell), B.U.heap = t.heap ∧ B.U.vm = t.vm ∧ XC E (A.U.calling g mk a) t ∧ t.heap[q]? = some ce ∧ ce.vm = .none ∧ A.U.vm.findClass E = some ce.cls ∧ B.locs = A.locs ++ L ∧ (∀ z ∈ L, free z.base) ∧ B.cells = A.cells + mc ∧ B.slots = A.slots + ms
def vx_Back (l : Launch) (R : Room) (p : Program) (e : Env) (below : List Frame) (s : State) (sargs : Array Value) (y : MethodName) (len W9 : Nat)
    (Pre : Pt → Array Value → Prop) (Post : Pt → Array Value → Option Value → Pt → Prop) (PostX : Pt → Array Value → Addr → Pt → Prop) : Prop :=
  ∀ (m : MethodId) (meth : Method) (c : Code) (A : Pt) (g : JFrame) (ig : Instr) (mk : MethodId) (a : Array Value),
    Stand p l e R s m sargs below meth c A.U A.locs A.cells A.slots → g.method = m → g.locals.size = c.maxLocals → decode c.code g.pc = .ok (ig, len) →
    2 * g.monitorRoom + (g.stack.map fun v => v.category).sum ≤ W9 → A.U.methodNamed? y = some mk → Pre A a →
    (∃ (v : Option Value) (B : Pt), Stand p l e R s m sargs below meth c B.U B.locs B.cells B.slots ∧ Post A a v B ∧
      Steps p.tables e below (doInvoke e (A.U.setTop g) [] mk a).1 (B.U.setTop { g with pc := g.pc + len, stack := v.toList ++ g.stack })) ∨
    (∃ (q : Addr) (B : Pt), Stand p l e R s m sargs below meth c B.U B.locs B.cells B.slots ∧ PostX A a q B ∧
      Steps p.tables e below (doInvoke e (A.U.setTop g) [] mk a).1 ((B.U.setTop g).pushFrame (.throwing q)))
section Payer
variable {l : Launch} {R : Room} {p : Program} {e : Env} {below : List Frame} {s : State} {sargs : Array Value} {y : MethodName} {len W9 : Nat}
theorem vx_back {ws : List Cond} {rm : Room} {Pc : Array Value → State → Prop} {Qc : Array Value → State → Outcome → State → Prop} {XC : String → State → State → Prop} {mc ms : Nat} {free : Addr → Prop} {bytes : ByteArray} {maxL : Nat} {ret : Option FieldType}
    (hM : vx_Met l y ws rm Pc Qc XC mc ms free) (hblind : FrameBlind Pc) (hrc : rm.cells = mc) (hrs : rm.slots = ms)
    (hframes : rm.frames + 1 ≤ R.frames) (hlocals : W9 + (maxL + 11) + rm.locals ≤ R.locals)
    (hws : ∀ w ∈ ws, ∀ a' U, s.WarmedH U.vm → w.before a' U = true) (hcode : Cond.code y bytes maxL ret ∈ ws) (hinit : ∀ a' U, s.WarmedH U.vm → (Cond.initialized y.cls).before a' U = true) :
    vx_Back l R p e below s sargs y len W9 (PreOf R mc ms Pc) (PostOf Qc mc ms free) (vx_Post XC mc ms free) := by
  intro m meth c A g ig mk a X hg hsize hdg hW hn hp
  have h1 : (headSpec ws rm).pre.before a A.U = true := atoms_intro fun w hw => hws w hw _ _ X.warmed
  have h2 : (Cond.code y bytes maxL ret).before a A.U = true := hws _ hcode _ _ X.warmed
  have h3 : (Cond.initialized y.cls).before a A.U = true := hinit _ _ X.warmed
  have h4 : A.cells + (headSpec ws rm).room.cells ≤ R.cells := by rw [show (headSpec ws rm).room.cells = mc from hrc]; exact hp.1
  have h5 : A.slots + (headSpec ws rm).room.slots ≤ R.slots := by rw [show (headSpec ws rm).room.slots = ms from hrs]; exact hp.2.1
  have hPc : Pc a (A.U.calling g mk a) := hblind _ _ _ _ hp.2.2
  obtain ⟨U, Ls, c0, s0⟩ := A
  dsimp only [Pt.U, Pt.locs, Pt.cells, Pt.slots] at h1 h2 h3 h4 h5 X hn hPc ⊢
  obtain ⟨methY, cY, hmY, hcY, -, hlY, -, -, -, -⟩ := Cond.code_spec hn h2
  obtain ⟨kY, hkY, -⟩ := className_of_methodNamed hn
  have hinitY : kY.init = .initialized := Cond.initialized_spec (findClass_of_methodNamed hn) hkY h3
  have h : At U g.method c below := by rw [hg]; exact X.here
  have hlocals9 : W9 + (maxL + 11) + (headSpec ws rm).room.locals ≤ R.locals := hlocals
  have happ : (headSpec ws rm).appliesLoose y e.platform (U.calling g mk a) = true :=
    Spec.appliesLoose_calling (g := g) h hdg hn hkY hinitY
      (X.room_calling (g := g) (R' := (headSpec ws rm).room) hsize hmY hcY hframes (by rw [hlY]; omega) h4 h5) h1
  obtain ⟨mid, hmid⟩ := h.above
  have hfr : (U.setTop g).frames = (.java g :: mid) ++ below := by rw [State.frames_setTop' g h.top, hmid]; rfl
  obtain ⟨o, s₂, hsteps, -, hend, hq⟩ := Steps.callFree hM p X.admits X.cas X.clock (acts := []) hfr happ hPc trivial
  have hq' : vx_Q Qc XC mc ms free a (U.calling g mk a) o s₂ := hq
  rw [State.frames_setTop' g h.top] at hend
  obtain ⟨g₀, hg0⟩ := Option.isSome_iff_exists.mp h.top
  obtain ⟨r, hr⟩ := State.topJava?_eq_some.mp hg0
  have hr' : (({ U with heap := s₂.heap, slotsUsed := s₂.slotsUsed } : State).setVm s₂.vm).frames = .java g₀ :: r := hr
  rcases hq' with ⟨hqc, L, hfe, hL⟩ | ⟨q, rfl, E, ce, L, hx, hce, hcv, hcl, hW₂, hsm, hL⟩
  · obtain ⟨⟨v, rfl⟩, hW₂, e2, q2, q3, q4, q5, q6⟩ := id hfe
    have e3 : s₂ = ({ (U.calling g mk a).setFrames s₂.frames with heap := s₂.heap, slotsUsed := s₂.slotsUsed } : State).setVm s₂.vm := by
      have : s₂ = ({ s₂ with vm := (U.calling g mk a).vm } : State).setVm s₂.vm := rfl
      rw [e2] at this
      exact this
    obtain ⟨c₂, i₂, len₂, hc₂, hd₂, hf₂⟩ := hend
    have hW' : U.WarmedH s₂.vm := hW₂
    have hcc : c₂ = c := by
      have h1 : s₂.code? g.method = U.code? g.method := by
        rw [State.code?_eq, State.code?_eq, hW'.alike.method?]
      exact Option.some.inj (hc₂.symm.trans (h1.trans h.code))
    subst hcc
    have hlen : len₂ = len := by rw [hdg] at hd₂; cases hd₂; rfl
    subst hlen
    have hs₂ : s₂ = (({ U with heap := s₂.heap, slotsUsed := s₂.slotsUsed } : State).setVm s₂.vm).setTop { g with pc := g.pc + len₂, stack := v.toList ++ g.stack } := by
      refine e3.trans ?_
      rw [hf₂, State.calling_eq h.top, State.setFrames_setFrames, State.setTop_of_frames _ hr', hr]
      rfl
    have hsame : U.sameButNew ({ U with heap := s₂.heap, slotsUsed := s₂.slotsUsed } : State) L mc ms := by
      refine ⟨?_, q2, q3, q4, q5, q6⟩
      obtain ⟨t, ht, -⟩ := State.frames_cons hr
      show ({ U with heap := s₂.heap, slotsUsed := s₂.slotsUsed } : State) = { U.setFrames U.frames with heap := s₂.heap, slotsUsed := s₂.slotsUsed }
      rw [State.setFrames_self ht]
    subst hg
    refine Or.inl ⟨v, ⟨(({ U with heap := s₂.heap, slotsUsed := s₂.slotsUsed } : State).setVm s₂.vm), Ls ++ L, c0 + mc, s0 + ms⟩,
      ⟨X.admits, X.cas, X.clock, X.frames, X.room, X.hears, X.method, X.code, (X.here.setHeapUsed s₂.heap s₂.slotsUsed).setVm hW'.alike, X.tail, State.WarmedH.trans X.warmed hW', X.limits, X.bytes, X.same.trans (hsame.setVm s.vm)⟩,
      ⟨g, mk, s₂, L, rfl, rfl, hqc, rfl, hL, rfl, rfl⟩, ?_⟩
    show Steps p.tables e below _ ((({ U with heap := s₂.heap, slotsUsed := s₂.slotsUsed } : State).setVm s₂.vm).setTop { g with pc := g.pc + len₂, stack := v.toList ++ g.stack })
    rw [← hs₂]
    exact hsteps
  · obtain ⟨e2, q2, q3, q4, q5, q6⟩ := id hsm
    have e3 : s₂ = ({ (U.calling g mk a).setFrames s₂.frames with heap := s₂.heap, slotsUsed := s₂.slotsUsed } : State).setVm s₂.vm := by
      have : s₂ = ({ s₂ with vm := (U.calling g mk a).vm } : State).setVm s₂.vm := rfl
      rw [e2] at this
      exact this
    have hf₂ : s₂.frames = .throwing q :: .java g :: U.frames.tail := hend
    have hW' : U.WarmedH s₂.vm := hW₂
    have hs₂ : s₂ = ((({ U with heap := s₂.heap, slotsUsed := s₂.slotsUsed } : State).setVm s₂.vm).setTop g).pushFrame (.throwing q) := by
      refine e3.trans ?_
      rw [hf₂, State.calling_eq h.top, State.setFrames_setFrames, State.pushFrame, State.frames_setTop _ hr', State.setTop_of_frames _ hr', State.setFrames_setFrames, hr]
      rfl
    have hsame : U.sameButNew ({ U with heap := s₂.heap, slotsUsed := s₂.slotsUsed } : State) L mc ms := by
      refine ⟨?_, q2, q3, q4, q5, q6⟩
      obtain ⟨t, ht, -⟩ := State.frames_cons hr
      show ({ U with heap := s₂.heap, slotsUsed := s₂.slotsUsed } : State) = { U.setFrames U.frames with heap := s₂.heap, slotsUsed := s₂.slotsUsed }
      rw [State.setFrames_self ht]
    subst hg
    refine Or.inr ⟨q, ⟨(({ U with heap := s₂.heap, slotsUsed := s₂.slotsUsed } : State).setVm s₂.vm), Ls ++ L, c0 + mc, s0 + ms⟩,
      ⟨X.admits, X.cas, X.clock, X.frames, X.room, X.hears, X.method, X.code, (X.here.setHeapUsed s₂.heap s₂.slotsUsed).setVm hW'.alike, X.tail, State.WarmedH.trans X.warmed hW', X.limits, X.bytes, X.same.trans (hsame.setVm s.vm)⟩,
      ⟨g, mk, s₂, L, E, ce, rfl, rfl, hx, hce, hcv, hcl, rfl, hL, rfl, rfl⟩, ?_⟩
    show Steps p.tables e below _ (((({ U with heap := s₂.heap, slotsUsed := s₂.slotsUsed } : State).setVm s₂.vm).setTop g).pushFrame (.throwing q))
    rw [← hs₂]
    exact hsteps
end Payer
section Calls
variable {p : Program} {l : Launch} {e : Env} {R : Room} {s : State} {m : MethodId} {args : Array Value} {below : List Frame} {meth : Method} {c : Code} {T : State} {locs : List Loc} {cells slots : Nat}
theorem vx_callV (X : Stand p l e R s m args below meth c T locs cells slots) (hexec : p.tables.exec = Jvm.exec) {own C : String} {index : Nat} {y : MethodName} {bytes : ByteArray} {maxL : Nat} {ret : Option FieldType}
    (hown : s.vm.findClass own = some m.cls) (hlink : (Cond.methodLink own index y).before args s = true) (hinst : (Cond.instanceMethod y).before args s = true) (hsel : (Cond.selects C y y).before args s = true)
    (hcode : (Cond.code y bytes maxL ret).before args s = true) (hy : y.cls ≠ "java/lang/invoke/MethodHandle" ∧ y.cls ≠ "java/lang/invoke/VarHandle")
    {W9 : Nat} {Pre : Pt → Array Value → Prop} {Post : Pt → Array Value → Option Value → Pt → Prop} {PostX : Pt → Array Value → Addr → Pt → Prop} (hK : vx_Back l R p e below s args y 3 W9 Pre Post PostX)
    {b : Addr} {cellB : Cell} (hcell : T.heap[b]? = some cellB) (hobj : cellB.vm.isStatics = false) (hcls : s.vm.findClass C = some cellB.cls)
    {g : JFrame} (hg : g.method = m) (hsize : g.locals.size = c.maxLocals) {argsL rest : List Value} (hlen : ∀ sig, parseMethodDescriptor y.desc = some sig → argsL.length = sig.parameters.length)
    (hstack : g.stack = argsL.reverse ++ .ref b :: rest) (hW : 2 * g.monitorRoom + (rest.map fun v => v.category).sum ≤ W9) (hdg : decode c.code g.pc = .ok (.invokevirtual index, 3))
    (hpre : ∀ vm₁, s.WarmedH vm₁ → Pre ⟨T.setVm vm₁, locs, cells, slots⟩ (Value.ref b :: argsL).toArray) :
    (∃ (v : Option Value) (vm₁ : Vm) (B : Pt), s.WarmedH vm₁ ∧ Stand p l e R s m args below meth c B.U B.locs B.cells B.slots ∧ Post ⟨T.setVm vm₁, locs, cells, slots⟩ (Value.ref b :: argsL).toArray v B ∧
      ∀ target, Steps p.tables e below (B.U.setTop { g with pc := g.pc + 3, stack := v.toList ++ rest }) target → Steps p.tables e below (T.setTop g) target) ∨
    (∃ (q : Addr) (vm₁ : Vm) (B : Pt), s.WarmedH vm₁ ∧ Stand p l e R s m args below meth c B.U B.locs B.cells B.slots ∧ PostX ⟨T.setVm vm₁, locs, cells, slots⟩ (Value.ref b :: argsL).toArray q B ∧
      Steps p.tables e below (T.setTop g) ((B.U.setTop { g with stack := rest }).pushFrame (.throwing q))) := by
  obtain ⟨mk, methM, hnamed, hmethM, hstM, habM⟩ := Cond.instanceMethod_spec hinst
  obtain ⟨methM', cM, hmethM', -, -, -, -, -, -, hsigM⟩ := Cond.code_spec hnamed hcode
  cases hmethM.symm.trans hmethM'
  obtain ⟨c2, r2, m2, q1, q2, q3, q4, kP, hkP, hkPi⟩ := Cond.selects_spec hsel
  cases hcls.symm.trans q1
  cases (State.methodFound?_of_named hnamed hy).symm.trans q2
  cases hnamed.symm.trans q3
  have hselP : selectMethod e.platform s.vm cellB.cls mk = .method mk := by rw [Launch.admits_selectMethod X.admits]; exact q4
  obtain ⟨vm₁, X₁, hstep₁⟩ := X.invokevirtual hexec hown hlink hnamed hmethM hstM hkP hkPi hy (a := b) (cell := cellB) hcell
    (fun z h => by rw [h] at hobj; cases hobj) hselP hmethM habM hkP hkPi (g := g) hg (argsL := argsL) (rest := rest) (hlen _ hsigM) hstack hdg
  rcases hK m meth c ⟨T.setVm vm₁, locs, cells, slots⟩ { g with stack := rest } (.invokevirtual index) mk (Value.ref b :: argsL).toArray X₁ hg hsize hdg hW (X₁.named hnamed) (hpre vm₁ X₁.warmed) with ⟨v, B, X', hpost, hsteps⟩ | ⟨q, B, X', hpost, hsteps⟩
  · exact Or.inl ⟨v, vm₁, B, X₁.warmed, X', hpost, fun target h => hstep₁ _ fun acts => by rw [doInvoke_state]; exact hsteps.trans h⟩
  · exact Or.inr ⟨q, vm₁, B, X₁.warmed, X', hpost, hstep₁ _ fun acts => by rw [doInvoke_state]; exact hsteps⟩
theorem vx_callS (X : Stand p l e R s m args below meth c T locs cells slots) (hexec : p.tables.exec = Jvm.exec) {own : String} {index : Nat} {y : MethodName} {bytes : ByteArray} {maxL : Nat} {ret : Option FieldType}
    (hown : s.vm.findClass own = some m.cls) (hlink : (Cond.methodLink own index y).before args s = true) (hstat : (Cond.static y).before args s = true) (hinit : (Cond.initialized y.cls).before args s = true)
    (hcode : (Cond.code y bytes maxL ret).before args s = true) (hy : y.cls ≠ "java/lang/invoke/MethodHandle" ∧ y.cls ≠ "java/lang/invoke/VarHandle")
    {W9 : Nat} {Pre : Pt → Array Value → Prop} {Post : Pt → Array Value → Option Value → Pt → Prop} {PostX : Pt → Array Value → Addr → Pt → Prop} (hK : vx_Back l R p e below s args y 3 W9 Pre Post PostX)
    {g : JFrame} (hg : g.method = m) (hsize : g.locals.size = c.maxLocals) {argsL rest : List Value} (hlen : ∀ sig, parseMethodDescriptor y.desc = some sig → argsL.length = sig.parameters.length)
    (hstack : g.stack = argsL.reverse ++ rest) (hW : 2 * g.monitorRoom + (rest.map fun v => v.category).sum ≤ W9) (hdg : decode c.code g.pc = .ok (.invokestatic index, 3))
    (hpre : ∀ vm₁, s.WarmedH vm₁ → Pre ⟨T.setVm vm₁, locs, cells, slots⟩ argsL.toArray) :
    (∃ (v : Option Value) (vm₁ : Vm) (B : Pt), s.WarmedH vm₁ ∧ Stand p l e R s m args below meth c B.U B.locs B.cells B.slots ∧ Post ⟨T.setVm vm₁, locs, cells, slots⟩ argsL.toArray v B ∧
      ∀ target, Steps p.tables e below (B.U.setTop { g with pc := g.pc + 3, stack := v.toList ++ rest }) target → Steps p.tables e below (T.setTop g) target) ∨
    (∃ (q : Addr) (vm₁ : Vm) (B : Pt), s.WarmedH vm₁ ∧ Stand p l e R s m args below meth c B.U B.locs B.cells B.slots ∧ PostX ⟨T.setVm vm₁, locs, cells, slots⟩ argsL.toArray q B ∧
      Steps p.tables e below (T.setTop g) ((B.U.setTop { g with stack := rest }).pushFrame (.throwing q))) := by
  obtain ⟨mk, hnamed⟩ := Cond.code_named hcode
  obtain ⟨methM, cM, hmethM, -, -, -, -, -, -, hsigM⟩ := Cond.code_spec hnamed hcode
  have hstatic : methM.isStatic = true := Cond.static_spec hnamed hmethM hstat
  obtain ⟨kP, hkP, -⟩ := className_of_methodNamed hnamed
  have hinitP : kP.init = .initialized := Cond.initialized_spec (findClass_of_methodNamed hnamed) hkP hinit
  obtain ⟨vm₁, X₁, hstep₁⟩ := X.invokestatic hexec hown hlink hnamed hmethM hstatic hkP hinitP hy (g := g) hg (argsL := argsL) (rest := rest) (hlen _ hsigM) hstack hdg
  rcases hK m meth c ⟨T.setVm vm₁, locs, cells, slots⟩ { g with stack := rest } (.invokestatic index) mk argsL.toArray X₁ hg hsize hdg hW (X₁.named hnamed) (hpre vm₁ X₁.warmed) with ⟨v, B, X', hpost, hsteps⟩ | ⟨q, B, X', hpost, hsteps⟩
  · exact Or.inl ⟨v, vm₁, B, X₁.warmed, X', hpost, fun target h => hstep₁ _ fun acts => by rw [doInvoke_state]; exact hsteps.trans h⟩
  · exact Or.inr ⟨q, vm₁, B, X₁.warmed, X', hpost, hstep₁ _ fun acts => by rw [doInvoke_state]; exact hsteps⟩
end Calls
theorem vx_cls {s : State} {T : State} {vm₁ : Vm} {E : String} {k : ClassId} (hW : s.WarmedH vm₁) (h : (T.setVm vm₁).vm.findClass E = some k) : s.vm.findClass E = some k := by
  have h1 : vm₁.findClass E = some k := h
  rw [hW.alike.findClass] at h1
  exact h1
/-- the method's frame g, with q thrown over it -/
def vx_W (p : Program) (l : Launch) (e : Env) (R : Room) (s : State) (m : MethodId) (args : Array Value) (below : List Frame) (meth : Method) (c : Code) (H : Heap) (locs : List Loc) (cells slots : Nat) (Q : State → Prop) (g : JFrame) (q : Addr) : Prop :=
  ∀ T : State, T.heap = H → Stand p l e R s m args below meth c T locs cells slots → ∃ t, Steps p.tables e below ((T.setTop g).pushFrame (.throwing q)) t ∧ Q t
def vx_Run (p : Program) (l : Launch) (e : Env) (R : Room) (s : State) (m : MethodId) (args : Array Value) (below : List Frame) (meth : Method) (c : Code) (H : Heap) (locs : List Loc) (cells slots mc ms : Nat) (g : JFrame) (rest : List Value) (Qa : State → Outcome → State → Prop) (XC : String → State → State → Prop) (free : Addr → Prop) : Prop :=
  ∀ T : State, T.heap = H → Stand p l e R s m args below meth c T locs cells slots →
    (∃ (v : Option Value) (st₀ t T' : State) (L : List Loc), st₀.heap = H ∧ Stand p l e R s m args below meth c T' (locs ++ L) (cells + mc) (slots + ms) ∧ (∀ q ∈ L, free q.base) ∧ T'.heap = t.heap ∧ T'.vm = t.vm ∧ Qa st₀ (.returned v) t ∧
      Goes p e below T g T' { g with pc := g.pc + 3, stack := v.toList ++ rest }) ∨
    (∃ (q : Addr) (st₀ t T' : State) (L : List Loc) (E : String) (ce : Cell), st₀.heap = H ∧ Stand p l e R s m args below meth c T' (locs ++ L) (cells + mc) (slots + ms) ∧ (∀ z ∈ L, free z.base) ∧ T'.heap = t.heap ∧ T'.vm = t.vm ∧ XC E st₀ t ∧ t.heap[q]? = some ce ∧ ce.vm = .none ∧ s.vm.findClass E = some ce.cls ∧
      Steps p.tables e below (T.setTop g) ((T'.setTop { g with stack := rest }).pushFrame (.throwing q)))
def vx_X {S : Type} (px : S → Prop) (B : String → S → State → Prop) (A : Nat → Prop) : String → State → State → Prop := fun E st t => ∃ u : S, px u ∧ B E u t ∧ va_F A st t
section Runs
variable {p : Program} {l : Launch} {e : Env} {R : Room} {s : State} {m : MethodId} {args : Array Value} {below : List Frame} {meth : Method} {c : Code} {H : Heap} {locs : List Loc} {cells slots : Nat}
variable {y : MethodName} {bytes cc : ByteArray} {maxL nL mc ms n index : Nat} {ret : Option FieldType} {ws : List Cond} {rm : Room} {Pc : Array Value → State → Prop} {Qc : Array Value → State → Outcome → State → Prop} {XC : String → State → State → Prop} {free : Addr → Prop} {Ts : List Cond} {own C : String} {b : Addr} {As rest : List Value} {g : JFrame}
theorem vx_callBack (cb : CallB R s args own index y bytes maxL ret ws rm mc ms n) (hM : vx_Met l y ws rm Pc Qc XC mc ms free) (hbl : FrameBlind Pc) : vx_Back l R p e below s args y 3 8 (PreOf R mc ms Pc) (PostOf Qc mc ms free) (vx_Post XC mc ms free) := by
  obtain ⟨hrc, hrs, hfr, hlo, hws, hcw, -, hini, -⟩ := cb
  exact vx_back (bytes := bytes) (maxL := maxL) (ret := ret) hM hbl hrc hrs hfr hlo hws hcw (fun a' U hW => word_at hW (Or.inl (by first | rfl | simp [Cond.onTables, Cond.keeps, Cond.steady])) hini)
theorem vx_runV (S : CallFix p m c cc nL s args Ts own) (hM : vx_Met l y ws rm Pc Qc XC mc ms free) (cw : CallW R s args own C index y bytes maxL ret ws rm mc ms n) (hp : PreV s H C b Pc As)
    (hg : g.method = m) (hn : As.length = n) (hsize : g.locals.size = nL) (hstack : g.stack = As.reverse ++ .ref b :: rest) (hW : 2 * g.monitorRoom + (rest.map fun v => v.category).sum ≤ 8) (hdg : decode cc g.pc = .ok (.invokevirtual index, 3)) (hf : cells + mc ≤ R.cells ∧ slots + ms ≤ R.slots) :
    vx_Run p l e R s m args below meth c H locs cells slots mc ms g rest (Qc (Value.ref b :: As).toArray) XC free := by
  have hK : vx_Back l R p e below s args y 3 8 (PreOf R mc ms Pc) (PostOf Qc mc ms free) (vx_Post XC mc ms free) := vx_callBack cw.1 hM hp.1
  obtain ⟨⟨-, -, -, -, -, -, hcode, -, hy, hlen, hl⟩, hin, hse⟩ := cw
  obtain ⟨hx, hb, hml, ho, -⟩ := S
  obtain ⟨-, ⟨cellB, hcB, hoB, hclB⟩, hPc⟩ := hp
  intro T hT X
  rcases vx_callV X hx (C := C) (bytes := bytes) (maxL := maxL) (ret := ret) ho hl hin hse hcode hy hK (by rw [hT]; exact hcB) hoB hclB hg (hsize.trans hml.symm) (argsL := As) (rest := rest) (fun sig h => hn.trans (hlen sig h)) hstack hW (by rw [hb]; exact hdg)
    (fun vm₁ hW₁ => ⟨hf.1, hf.2, hPc (T.setVm vm₁) hT hW₁⟩) with ⟨v, vm₁, ⟨U', l2, c2, s2⟩, hW₁, X', ⟨g', mk, t, L, e1, e2, hq, h1, hL, h2, h3⟩, st⟩ | ⟨q, vm₁, ⟨U', l2, c2, s2⟩, hW₁, X', ⟨g', mk, t, L, E, ce, e1, e2, hq, hce, hcv, hcl, h1, hL, h2, h3⟩, st⟩
  · dsimp only [Pt.U, Pt.locs, Pt.cells, Pt.slots] at X' e1 e2 h1 h2 h3 st
    subst h1; subst h2; subst h3
    exact Or.inl ⟨v, (T.setVm vm₁).calling g' mk (Value.ref b :: As).toArray, t, U', L, hT, X', hL, e1, e2, hq, st⟩
  · dsimp only [Pt.U, Pt.locs, Pt.cells, Pt.slots] at X' e1 e2 h1 h2 h3 st hcl
    subst h1; subst h2; subst h3
    exact Or.inr ⟨q, (T.setVm vm₁).calling g' mk (Value.ref b :: As).toArray, t, U', L, E, ce, hT, X', hL, e1, e2, hq, hce, hcv, vx_cls hW₁ hcl, st⟩
theorem vx_runS (S : CallFix p m c cc nL s args Ts own) (hM : vx_Met l y ws rm Pc Qc XC mc ms free) (cw : CallB R s args own index y bytes maxL ret ws rm mc ms n ∧ (Cond.static y).before args s = true) (hp : PreS s H Pc As)
    (hg : g.method = m) (hn : As.length = n) (hsize : g.locals.size = nL) (hstack : g.stack = As.reverse ++ rest) (hW : 2 * g.monitorRoom + (rest.map fun v => v.category).sum ≤ 8) (hdg : decode cc g.pc = .ok (.invokestatic index, 3)) (hf : cells + mc ≤ R.cells ∧ slots + ms ≤ R.slots) :
    vx_Run p l e R s m args below meth c H locs cells slots mc ms g rest (Qc As.toArray) XC free := by
  have hK : vx_Back l R p e below s args y 3 8 (PreOf R mc ms Pc) (PostOf Qc mc ms free) (vx_Post XC mc ms free) := vx_callBack cw.1 hM hp.1
  obtain ⟨⟨-, -, -, -, -, -, hcode, hini, hy, hlen, hl⟩, hstt⟩ := cw
  obtain ⟨hx, hb, hml, ho, -⟩ := S
  intro T hT X
  rcases vx_callS X hx (bytes := bytes) (maxL := maxL) (ret := ret) ho hl hstt hini hcode hy hK hg (hsize.trans hml.symm) (argsL := As) (rest := rest) (fun sig h => hn.trans (hlen sig h)) hstack hW (by rw [hb]; exact hdg)
    (fun vm₁ hW₁ => ⟨hf.1, hf.2, hp.2 (T.setVm vm₁) hT hW₁⟩) with ⟨v, vm₁, ⟨U', l2, c2, s2⟩, hW₁, X', ⟨g', mk, t, L, e1, e2, hq, h1, hL, h2, h3⟩, st⟩ | ⟨q, vm₁, ⟨U', l2, c2, s2⟩, hW₁, X', ⟨g', mk, t, L, E, ce, e1, e2, hq, hce, hcv, hcl, h1, hL, h2, h3⟩, st⟩
  · dsimp only [Pt.U, Pt.locs, Pt.cells, Pt.slots] at X' e1 e2 h1 h2 h3 st
    subst h1; subst h2; subst h3
    exact Or.inl ⟨v, (T.setVm vm₁).calling g' mk As.toArray, t, U', L, hT, X', hL, e1, e2, hq, st⟩
  · dsimp only [Pt.U, Pt.locs, Pt.cells, Pt.slots] at X' e1 e2 h1 h2 h3 st hcl
    subst h1; subst h2; subst h3
    exact Or.inr ⟨q, (T.setVm vm₁).calling g' mk As.toArray, t, U', L, E, ce, hT, X', hL, e1, e2, hq, hce, hcv, vx_cls hW₁ hcl, st⟩
end Runs
section Rows
variable {p : Program} {l : Launch} {e : Env} {R : Room} {s : State} {m : MethodId} {args : Array Value} {below : List Frame} {meth : Method} {c : Code} {H : Heap} {locs : List Loc} {cells slots : Nat} {Q : State → Prop}
variable {mc ms : Nat} {free : Addr → Prop} {A0 A1 : Nat → Prop} {H0 : Heap} {a : Array Value} {pc : Nat} {ls : Array Slot} {st0 rest : List Value}
theorem vx_keep {st₀ t T' : State} {L : List Loc} (h0 : st₀.heap = H) (e1 : T'.heap = t.heap) (hS : va_S A0 H0 H locs) (hA : ∀ q, q < H.size → A1 q → A0 q) (hf : ∀ q, free q → A0 q) (hL : ∀ q ∈ L, free q.base) (hF : va_F A1 st₀ t) :
    H.size ≤ T'.heap.size ∧ (∀ q : Nat, q < H.size → ¬ A1 q → T'.heap[q]? = H[q]?) ∧ va_S A0 H0 T'.heap (locs ++ L) := by
  obtain ⟨hz, hk⟩ := hF
  rw [h0] at hz hk
  exact ⟨by rw [e1]; exact hz, fun q h1 h2 => by rw [e1]; exact hk q h1 h2,
    ⟨Nat.le_trans hS.1 (by rw [e1]; exact hz), fun q h1 h2 => by rw [e1, hk q (Nat.lt_of_lt_of_le h1 hS.1) (fun z => h2 (hA q (Nat.lt_of_lt_of_le h1 hS.1) z))]; exact hS.2.1 q h1 h2, fun q hq => by
      rcases List.mem_append.mp hq with h | h
      · exact hS.2.2 q h
      · exact hf _ (hL q h)⟩⟩
theorem vx_calli {S SX : Type} {post : Int32 → S → Prop} {px : SX → Prop} {B : S → State → Prop} {BX : String → SX → State → Prop} {AX : Nat → Prop} (hr : vx_Run p l e R s m args below meth c H locs cells slots mc ms (F0 m pc ls st0) rest (va_Qi post B A1 a) (vx_X px BX AX) free) (hS : va_S A0 H0 H locs) (hA : ∀ q, q < H.size → A1 q → A0 q) (hf : ∀ q, free q → A0 q) (hAX : ∀ q, q < H.size → AX q → A0 q)
    (kx : ∀ (E : String) (ce : Cell) (q9 : Addr) (u : SX) (t : State) (H1 : Heap) (locs1 : List Loc), t.heap = H1 → s.vm.Alike t.vm → px u → BX E u t → H.size ≤ H1.size → (∀ q : Nat, q < H.size → ¬ AX q → H1[q]? = H[q]?) → va_S A0 H0 H1 locs1 → H1[q9]? = some ce → ce.vm = .none → s.vm.findClass E = some ce.cls → vx_W p l e R s m args below meth c H1 locs1 (cells + mc) (slots + ms) Q (F0 m pc ls rest) q9)
    (kk : ∀ (r : Int32) (u : S) (t : State) (H1 : Heap) (locs1 : List Loc), t.heap = H1 → s.vm.Alike t.vm → post r u → B u t → H.size ≤ H1.size → (∀ q : Nat, q < H.size → ¬ A1 q → H1[q]? = H[q]?) → va_S A0 H0 H1 locs1 → W p l e R s m args below meth c H1 locs1 (cells + mc) (slots + ms) Q (F0 m (pc + 3) ls (.int r :: rest))) : W p l e R s m args below meth c H locs cells slots Q (F0 m pc ls st0) := by
  intro T hT X
  rcases hr T hT X with ⟨v, st₀, t, T', L, h0, X', hL, e1, e2, ⟨⟨r, u, hv, hp, hb⟩, hF⟩, st⟩ | ⟨q, st₀, t, T', L, E, ce, h0, X', hL, e1, e2, ⟨u, hp, hb, hF⟩, hce, hcv, hcl, st⟩
  · cases hv
    obtain ⟨k1, k2, k3⟩ := vx_keep h0 e1 hS hA hf hL hF
    obtain ⟨t2, a1, b1⟩ := kk r u t T'.heap (locs ++ L) e1.symm (by rw [← e2]; exact X'.warmed.alike) hp hb k1 k2 k3 T' rfl X'
    exact ⟨t2, st t2 a1, b1⟩
  · obtain ⟨k1, k2, k3⟩ := vx_keep h0 e1 hS hAX hf hL hF
    obtain ⟨t2, a1, b1⟩ := kx E ce q u t T'.heap (locs ++ L) e1.symm (by rw [← e2]; exact X'.warmed.alike) hp hb k1 k2 k3 (by rw [e1]; exact hce) hcv hcl T' rfl X'
    exact ⟨t2, st.trans a1, b1⟩
theorem vx_calll {S SX : Type} {post : Int64 → S → Prop} {px : SX → Prop} {B : S → State → Prop} {BX : String → SX → State → Prop} {AX : Nat → Prop} (hr : vx_Run p l e R s m args below meth c H locs cells slots mc ms (F0 m pc ls st0) rest (va_Ql post B A1 a) (vx_X px BX AX) free) (hS : va_S A0 H0 H locs) (hA : ∀ q, q < H.size → A1 q → A0 q) (hf : ∀ q, free q → A0 q) (hAX : ∀ q, q < H.size → AX q → A0 q)
    (kx : ∀ (E : String) (ce : Cell) (q9 : Addr) (u : SX) (t : State) (H1 : Heap) (locs1 : List Loc), t.heap = H1 → s.vm.Alike t.vm → px u → BX E u t → H.size ≤ H1.size → (∀ q : Nat, q < H.size → ¬ AX q → H1[q]? = H[q]?) → va_S A0 H0 H1 locs1 → H1[q9]? = some ce → ce.vm = .none → s.vm.findClass E = some ce.cls → vx_W p l e R s m args below meth c H1 locs1 (cells + mc) (slots + ms) Q (F0 m pc ls rest) q9)
    (kk : ∀ (r : Int64) (u : S) (t : State) (H1 : Heap) (locs1 : List Loc), t.heap = H1 → s.vm.Alike t.vm → post r u → B u t → H.size ≤ H1.size → (∀ q : Nat, q < H.size → ¬ A1 q → H1[q]? = H[q]?) → va_S A0 H0 H1 locs1 → W p l e R s m args below meth c H1 locs1 (cells + mc) (slots + ms) Q (F0 m (pc + 3) ls (.long r :: rest))) : W p l e R s m args below meth c H locs cells slots Q (F0 m pc ls st0) := by
  intro T hT X
  rcases hr T hT X with ⟨v, st₀, t, T', L, h0, X', hL, e1, e2, ⟨⟨r, u, hv, hp, hb⟩, hF⟩, st⟩ | ⟨q, st₀, t, T', L, E, ce, h0, X', hL, e1, e2, ⟨u, hp, hb, hF⟩, hce, hcv, hcl, st⟩
  · cases hv
    obtain ⟨k1, k2, k3⟩ := vx_keep h0 e1 hS hA hf hL hF
    obtain ⟨t2, a1, b1⟩ := kk r u t T'.heap (locs ++ L) e1.symm (by rw [← e2]; exact X'.warmed.alike) hp hb k1 k2 k3 T' rfl X'
    exact ⟨t2, st t2 a1, b1⟩
  · obtain ⟨k1, k2, k3⟩ := vx_keep h0 e1 hS hAX hf hL hF
    obtain ⟨t2, a1, b1⟩ := kx E ce q u t T'.heap (locs ++ L) e1.symm (by rw [← e2]; exact X'.warmed.alike) hp hb k1 k2 k3 (by rw [e1]; exact hce) hcv hcl T' rfl X'
    exact ⟨t2, st.trans a1, b1⟩
theorem vx_callf {S SX : Type} {post : UInt32 → S → Prop} {px : SX → Prop} {B : S → State → Prop} {BX : String → SX → State → Prop} {AX : Nat → Prop} (hr : vx_Run p l e R s m args below meth c H locs cells slots mc ms (F0 m pc ls st0) rest (va_Qf post B A1 a) (vx_X px BX AX) free) (hS : va_S A0 H0 H locs) (hA : ∀ q, q < H.size → A1 q → A0 q) (hf : ∀ q, free q → A0 q) (hAX : ∀ q, q < H.size → AX q → A0 q)
    (kx : ∀ (E : String) (ce : Cell) (q9 : Addr) (u : SX) (t : State) (H1 : Heap) (locs1 : List Loc), t.heap = H1 → s.vm.Alike t.vm → px u → BX E u t → H.size ≤ H1.size → (∀ q : Nat, q < H.size → ¬ AX q → H1[q]? = H[q]?) → va_S A0 H0 H1 locs1 → H1[q9]? = some ce → ce.vm = .none → s.vm.findClass E = some ce.cls → vx_W p l e R s m args below meth c H1 locs1 (cells + mc) (slots + ms) Q (F0 m pc ls rest) q9)
    (kk : ∀ (r : UInt32) (u : S) (t : State) (H1 : Heap) (locs1 : List Loc), t.heap = H1 → s.vm.Alike t.vm → post r u → B u t → H.size ≤ H1.size → (∀ q : Nat, q < H.size → ¬ A1 q → H1[q]? = H[q]?) → va_S A0 H0 H1 locs1 → W p l e R s m args below meth c H1 locs1 (cells + mc) (slots + ms) Q (F0 m (pc + 3) ls (.float r :: rest))) : W p l e R s m args below meth c H locs cells slots Q (F0 m pc ls st0) := by
  intro T hT X
  rcases hr T hT X with ⟨v, st₀, t, T', L, h0, X', hL, e1, e2, ⟨⟨r, u, hv, hp, hb⟩, hF⟩, st⟩ | ⟨q, st₀, t, T', L, E, ce, h0, X', hL, e1, e2, ⟨u, hp, hb, hF⟩, hce, hcv, hcl, st⟩
  · cases hv
    obtain ⟨k1, k2, k3⟩ := vx_keep h0 e1 hS hA hf hL hF
    obtain ⟨t2, a1, b1⟩ := kk r u t T'.heap (locs ++ L) e1.symm (by rw [← e2]; exact X'.warmed.alike) hp hb k1 k2 k3 T' rfl X'
    exact ⟨t2, st t2 a1, b1⟩
  · obtain ⟨k1, k2, k3⟩ := vx_keep h0 e1 hS hAX hf hL hF
    obtain ⟨t2, a1, b1⟩ := kx E ce q u t T'.heap (locs ++ L) e1.symm (by rw [← e2]; exact X'.warmed.alike) hp hb k1 k2 k3 (by rw [e1]; exact hce) hcv hcl T' rfl X'
    exact ⟨t2, st.trans a1, b1⟩
theorem vx_calld {S SX : Type} {post : UInt64 → S → Prop} {px : SX → Prop} {B : S → State → Prop} {BX : String → SX → State → Prop} {AX : Nat → Prop} (hr : vx_Run p l e R s m args below meth c H locs cells slots mc ms (F0 m pc ls st0) rest (va_Qd post B A1 a) (vx_X px BX AX) free) (hS : va_S A0 H0 H locs) (hA : ∀ q, q < H.size → A1 q → A0 q) (hf : ∀ q, free q → A0 q) (hAX : ∀ q, q < H.size → AX q → A0 q)
    (kx : ∀ (E : String) (ce : Cell) (q9 : Addr) (u : SX) (t : State) (H1 : Heap) (locs1 : List Loc), t.heap = H1 → s.vm.Alike t.vm → px u → BX E u t → H.size ≤ H1.size → (∀ q : Nat, q < H.size → ¬ AX q → H1[q]? = H[q]?) → va_S A0 H0 H1 locs1 → H1[q9]? = some ce → ce.vm = .none → s.vm.findClass E = some ce.cls → vx_W p l e R s m args below meth c H1 locs1 (cells + mc) (slots + ms) Q (F0 m pc ls rest) q9)
    (kk : ∀ (r : UInt64) (u : S) (t : State) (H1 : Heap) (locs1 : List Loc), t.heap = H1 → s.vm.Alike t.vm → post r u → B u t → H.size ≤ H1.size → (∀ q : Nat, q < H.size → ¬ A1 q → H1[q]? = H[q]?) → va_S A0 H0 H1 locs1 → W p l e R s m args below meth c H1 locs1 (cells + mc) (slots + ms) Q (F0 m (pc + 3) ls (.double r :: rest))) : W p l e R s m args below meth c H locs cells slots Q (F0 m pc ls st0) := by
  intro T hT X
  rcases hr T hT X with ⟨v, st₀, t, T', L, h0, X', hL, e1, e2, ⟨⟨r, u, hv, hp, hb⟩, hF⟩, st⟩ | ⟨q, st₀, t, T', L, E, ce, h0, X', hL, e1, e2, ⟨u, hp, hb, hF⟩, hce, hcv, hcl, st⟩
  · cases hv
    obtain ⟨k1, k2, k3⟩ := vx_keep h0 e1 hS hA hf hL hF
    obtain ⟨t2, a1, b1⟩ := kk r u t T'.heap (locs ++ L) e1.symm (by rw [← e2]; exact X'.warmed.alike) hp hb k1 k2 k3 T' rfl X'
    exact ⟨t2, st t2 a1, b1⟩
  · obtain ⟨k1, k2, k3⟩ := vx_keep h0 e1 hS hAX hf hL hF
    obtain ⟨t2, a1, b1⟩ := kx E ce q u t T'.heap (locs ++ L) e1.symm (by rw [← e2]; exact X'.warmed.alike) hp hb k1 k2 k3 (by rw [e1]; exact hce) hcv hcl T' rfl X'
    exact ⟨t2, st.trans a1, b1⟩
theorem vx_callv {S SX : Type} {post : S → Prop} {px : SX → Prop} {B : S → State → Prop} {BX : String → SX → State → Prop} {AX : Nat → Prop} (hr : vx_Run p l e R s m args below meth c H locs cells slots mc ms (F0 m pc ls st0) rest (va_Qv post B A1 a) (vx_X px BX AX) free) (hS : va_S A0 H0 H locs) (hA : ∀ q, q < H.size → A1 q → A0 q) (hf : ∀ q, free q → A0 q) (hAX : ∀ q, q < H.size → AX q → A0 q)
    (kx : ∀ (E : String) (ce : Cell) (q9 : Addr) (u : SX) (t : State) (H1 : Heap) (locs1 : List Loc), t.heap = H1 → s.vm.Alike t.vm → px u → BX E u t → H.size ≤ H1.size → (∀ q : Nat, q < H.size → ¬ AX q → H1[q]? = H[q]?) → va_S A0 H0 H1 locs1 → H1[q9]? = some ce → ce.vm = .none → s.vm.findClass E = some ce.cls → vx_W p l e R s m args below meth c H1 locs1 (cells + mc) (slots + ms) Q (F0 m pc ls rest) q9)
    (kk : ∀ (u : S) (t : State) (H1 : Heap) (locs1 : List Loc), t.heap = H1 → s.vm.Alike t.vm → post u → B u t → H.size ≤ H1.size → (∀ q : Nat, q < H.size → ¬ A1 q → H1[q]? = H[q]?) → va_S A0 H0 H1 locs1 → W p l e R s m args below meth c H1 locs1 (cells + mc) (slots + ms) Q (F0 m (pc + 3) ls (rest))) : W p l e R s m args below meth c H locs cells slots Q (F0 m pc ls st0) := by
  intro T hT X
  rcases hr T hT X with ⟨v, st₀, t, T', L, h0, X', hL, e1, e2, ⟨⟨u, hv, hp, hb⟩, hF⟩, st⟩ | ⟨q, st₀, t, T', L, E, ce, h0, X', hL, e1, e2, ⟨u, hp, hb, hF⟩, hce, hcv, hcl, st⟩
  · cases hv
    obtain ⟨k1, k2, k3⟩ := vx_keep h0 e1 hS hA hf hL hF
    obtain ⟨t2, a1, b1⟩ := kk u t T'.heap (locs ++ L) e1.symm (by rw [← e2]; exact X'.warmed.alike) hp hb k1 k2 k3 T' rfl X'
    exact ⟨t2, st t2 a1, b1⟩
  · obtain ⟨k1, k2, k3⟩ := vx_keep h0 e1 hS hAX hf hL hF
    obtain ⟨t2, a1, b1⟩ := kx E ce q u t T'.heap (locs ++ L) e1.symm (by rw [← e2]; exact X'.warmed.alike) hp hb k1 k2 k3 (by rw [e1]; exact hce) hcv hcl T' rfl X'
    exact ⟨t2, st.trans a1, b1⟩
/-- caught by the row x of this method's table; the rows ahead don't take it -/
theorem vx_catch {own name : String} {E : String} {ce : Cell} {q : Addr} (hown : s.vm.findClass own = some m.cls) (pre : List ExceptionTableEntry) (x : ExceptionTableEntry) (suf : List ExceptionTableEntry) (hsplit : c.exceptionTable.toList = pre ++ x :: suf)
    (hpass : ∀ z ∈ pre, covers z pc = false ∨ (z.catchType ≠ 0 ∧ ∃ nm : String, (Cond.classLink own z.catchType nm).before args s = true ∧ va_Nc E nm s)) (hx : covers x pc = true) (h0 : x.catchType ≠ 0)
    (hlink : (Cond.classLink own x.catchType name).before args s = true) (hcast : (Cond.castable E name).before args s = true) (hcell : H[q]? = some ce) (hv : ce.vm = .none) (hcl : s.vm.findClass E = some ce.cls)
    (kk : W p l e R s m args below meth c H locs cells slots Q (F0 m x.handlerPc ls [.ref q])) : vx_W p l e R s m args below meth c H locs cells slots Q (F0 m pc ls rest) q := by
  intro T hT X
  have hpl : e.platform.magicAccessors = ({} : Platform).magicAccessors := by rw [X.admits.platform]
  obtain ⟨c3, c4, hc3, hc4, hasg⟩ := Cond.castable_spec hcast
  cases Option.some.inj (hc3.symm.trans hcl)
  obtain ⟨c5, hc5, hcl5⟩ := Cond.classLink_spec hown hlink e.platform hpl
  cases Option.some.inj (hc4.symm.trans hc5)
  obtain ⟨vm', X', st⟩ := X.thenCaughtThrough q (g := F0 m pc ls rest) rfl (Steps.refl _) (by rw [hT]; exact hcell) (by rw [hv]; rfl) (by obtain ⟨k9, h9, -⟩ := Vm.findClass_spec hcl; exact ⟨k9, h9⟩) pre x suf hsplit
    (fun z hz => by
      rcases hpass z hz with h | ⟨hz0, nm, hl1, hn1⟩
      · exact Or.inl h
      · obtain ⟨c6, hc6, hcl6⟩ := Cond.classLink_spec hown hl1 e.platform hpl
        obtain ⟨a8, b8, h1, h2, h3⟩ := hn1
        cases Option.some.inj (h1.symm.trans hcl)
        cases Option.some.inj (h2.symm.trans hc6)
        exact Or.inr ⟨hz0, _, hcl6, h3⟩) hx (Or.inr ⟨h0, c4, hcl5, hasg⟩)
  obtain ⟨t, a1, b1⟩ := kk (T.setVm vm') hT X'
  exact ⟨t, st.trans a1, b1⟩
end Rows
section Ends
variable {p : Program} {l : Launch} {e : Env} {R : Room} {s : State} {m : MethodId} {args : Array Value} {below : List Frame} {meth : Method} {c : Code} {H : Heap} {locs : List Loc} {cells slots : Nat} {Q : State → Prop}
variable {mc ms : Nat} {free : Addr → Prop} {A0 A1 : Nat → Prop} {H0 : Heap} {a : Array Value} {ls : Array Slot} {st0 rest : List Value}
variable {Qc : Array Value → State → Outcome → State → Prop} {XC : String → State → State → Prop}
/-- what a body that may throw owes at its end -/
def vx_MQ (below : List Frame) (Qc : Array Value → State → Outcome → State → Prop) (XC : String → State → State → Prop) (a : Array Value) (s : State) (mc ms : Nat) (free : Addr → Prop) : State → Prop := fun t =>
  ∃ o, t.status = .running ∧ Ended t below o ∧ vx_Q Qc XC mc ms free a s o t
theorem vx_ret {g : JFrame} {mc ms : Nat} (k : W p l e R s m args below meth c H locs cells slots (MQ below Qc args s mc ms free) g) : W p l e R s m args below meth c H locs cells slots (vx_MQ below Qc XC args s mc ms free) g := by
  intro T hT X
  obtain ⟨t, a1, o, b1, b2, b3, b4⟩ := k T hT X
  exact ⟨t, a1, o, b1, b2, Or.inl ⟨b3, b4⟩⟩
/-- not caught here: it goes on to the caller -/
theorem vx_widen {g : JFrame} {q : Addr} {k n : Nat} (h1 : cells ≤ k) (h2 : slots ≤ n) (kk : vx_W p l e R s m args below meth c H locs k n Q g q) : vx_W p l e R s m args below meth c H locs cells slots Q g q := fun T hT X => kk T hT (stand_widen X h1 h2)
theorem vx_out {pc : Nat} {E : String} {ce : Cell} {q : Addr} {mc ms : Nat} (hout : ∀ x ∈ c.exceptionTable.toList, covers x pc = false) (hlocks : meth.locks = false) (hcell : H[q]? = some ce) (hv : ce.vm = .none) (hcl : s.vm.findClass E = some ce.cls)
    (hx : ∀ t : State, t.heap = H → s.vm.Alike t.vm → XC E s t) (hf : ∀ z ∈ locs, free z.base) (hc : cells ≤ mc) (hs : slots ≤ ms) :
    vx_W p l e R s m args below meth c H locs cells slots (vx_MQ below Qc XC args s mc ms free) (F0 m pc ls rest) q := by
  intro T hT X
  obtain ⟨st1, hrun, hend, hW, hsm⟩ := X.leaveThrown q (g := F0 m pc ls rest) rfl rfl rfl hout hlocks
  have hcell9 : (T.setFrames (.throwing q :: below)).heap[q]? = some ce := by
    show T.heap[q]? = some ce
    rw [hT]; exact hcell
  exact ⟨_, st1, .threw q, hrun, hend, Or.inr ⟨q, rfl, E, ce, locs, hx _ hT hW.alike, hcell9, hv, hcl, hW, hsm.mono hc hs, hf⟩⟩
theorem vx_frame {U : State} {k n : Nat} (h : s.sameButNew ({ U with vm := s.vm } : State) locs k n) : s.heap.size ≤ U.heap.size ∧ ∀ q : Nat, q < s.heap.size → (∀ z ∈ locs, z.base ≠ q) → U.heap[q]? = s.heap[q]? := by
  obtain ⟨-, h2, -, -, -, h6⟩ := h
  refine ⟨h2, fun q hq hz => ?_⟩
  obtain ⟨c9, e1, e2, e3, e4⟩ := h6 q _ (Array.getElem?_eq_getElem hq)
  have hs : c9.slots = (s.heap[q]).slots := Array.ext_getElem? fun i => e4 i fun hm => hz _ hm rfl
  have h9 : c9 = s.heap[q] := by
    rw [hs] at e2
    exact e2
  have e5 : U.heap[q]? = some c9 := e1
  rw [e5, h9, Array.getElem?_eq_getElem hq]
/-- the words of a throw but the four that speak of the heap -/
def vx_no (w : Cond) : Bool := decide (w ≠ .isRef (.static Bundle.tN "UNASSIGNED_STACK" Bundle.steD)) && decide (w ≠ .isRef (.static Bundle.tN "SUPPRESSED_SENTINEL" Bundle.listD)) && decide (w ≠ .laysStatic Bundle.tN "UNASSIGNED_STACK" Bundle.steD) && decide (w ≠ .laysStatic Bundle.tN "SUPPRESSED_SENTINEL" Bundle.listD)
def vx_at0 (own : String) (ic : Nat) (X : String) (names : List String) : List Cond := (Bundle.ownAtoms0 own ic X names).filter vx_no
def vx_atS (own : String) (ic : Nat) (X : String) (names : List String) : List Cond := (Bundle.ownAtoms own ic X names).filter vx_no
/-- a word that the tables alone decide, or a good one -/
def vx_ot (w : Cond) : Bool := w.onTables || goodWord w
theorem vx_ot_at {args a' : Array Value} {s U : State} {w : Cond} (hW : s.WarmedH U.vm) (hvm : s.vm = U.vm) (hg : vx_ot w = true) (h : w.before args s = true) : w.before a' U = true := by
  simp only [vx_ot, Bool.or_eq_true] at hg
  rcases hg with hg | hg
  · exact va_tabs hg hvm h
  · exact word_at hW (good_of_word hg) h
/-- a list's words: the good ones out of the method's own list, the others by premises of their own -/
theorem vx_hat {args : Array Value} {s : State} {L B : List Cond} (h1 : ∀ w ∈ L.filter goodWord, w.before args s = true) (h2 : ∀ w ∈ L.filter (fun w => !goodWord w), w ∈ B) (h3 : ∀ w ∈ B, w.before args s = true) : ∀ w ∈ L, w.before args s = true := by
  intro w hw
  by_cases g : goodWord w = true
  · exact h1 w (List.mem_filter.mpr ⟨hw, g⟩)
  · refine h3 w (h2 w (List.mem_filter.mpr ⟨hw, ?_⟩))
    show (!goodWord w) = true
    cases hgw : goodWord w
    · rfl
    · exact absurd hgw g
theorem vx_c {args : Array Value} {s : State} {w : Cond} {B : List Cond} (h : w.before args s = true) (t : ∀ w ∈ B, w.before args s = true) : ∀ w' ∈ w :: B, w'.before args s = true := fun w' h' => (List.mem_cons.mp h').elim (fun e => by rw [e]; exact h) (t w')
theorem vx_n {args : Array Value} {s : State} : ∀ w ∈ ([] : List Cond), w.before args s = true := fun _ h => nomatch h
theorem vx_own {args : Array Value} {s : State} {L : List Cond} (h1 : ∀ w ∈ L.filter vx_no, w.before args s = true)
    (hU : (Cond.isRef (.static Bundle.tN "UNASSIGNED_STACK" Bundle.steD)).before args s = true) (hN : (Cond.isRef (.static Bundle.tN "SUPPRESSED_SENTINEL" Bundle.listD)).before args s = true)
    (lU : (Cond.laysStatic Bundle.tN "UNASSIGNED_STACK" Bundle.steD).before args s = true) (lN : (Cond.laysStatic Bundle.tN "SUPPRESSED_SENTINEL" Bundle.listD).before args s = true) : ∀ w ∈ L, w.before args s = true := by
  intro w hw
  by_cases e1 : w = .isRef (.static Bundle.tN "UNASSIGNED_STACK" Bundle.steD)
  · rw [e1]; exact hU
  · by_cases e2 : w = .isRef (.static Bundle.tN "SUPPRESSED_SENTINEL" Bundle.listD)
    · rw [e2]; exact hN
    · by_cases e3 : w = .laysStatic Bundle.tN "UNASSIGNED_STACK" Bundle.steD
      · rw [e3]; exact lU
      · by_cases e4 : w = .laysStatic Bundle.tN "SUPPRESSED_SENTINEL" Bundle.listD
        · rw [e4]; exact lN
        · exact h1 w (List.mem_filter.mpr ⟨hw, by unfold vx_no; rw [decide_eq_true e1, decide_eq_true e2, decide_eq_true e3, decide_eq_true e4]; rfl⟩)
/-- where a static field lies, its class's statics cell in H -/
def vx_L (C n d : String) (A : Nat → Prop) (U : State) (H : Heap) : Prop := ∃ (c : ClassId) (k : Class) (i : Nat) (f : Field) (a : Nat) (cell : Cell), U.vm.findClass C = some c ∧ U.fieldFound? C n d = some (c, k, i, f) ∧ f.isStatic = true ∧ k.statics = some a ∧ H[a]? = some cell ∧ cell.vm.isStatics = true ∧ cell.cls = c ∧ f.slot < cell.slots.size ∧ k.staticTypes[f.slot]? = some f.type ∧ ¬ A a
theorem vx_L.moved {C n d : String} {A : Nat → Prop} {u U : State} {H : Heap} (hvm : u.vm.Alike U.vm) (h : vx_L C n d A u H) : vx_L C n d A U H := by
  obtain ⟨c, k, i, f, a, cell, h1, h2, h3, h4, h5, h6, h7, h8, h9, h10⟩ := h
  obtain ⟨k', hi', he⟩ := State.fieldFound?_setVm hvm h2
  exact ⟨c, k', i, f, a, cell, by rw [hvm.findClass]; exact h1, hi', h3, by rw [he]; exact h4, h5, h6, h7, h8, by rw [he]; exact h9, h10⟩
theorem vx_L.kept {C n d : String} {A : Nat → Prop} {U : State} {H H1 : Heap} (h : vx_L C n d A U H) (hq : ∀ a : Nat, a < H.size → ¬ A a → H1[a]? = H[a]?) : vx_L C n d A U H1 := by
  obtain ⟨c, k, i, f, a, cell, h1, h2, h3, h4, h5, h6, h7, h8, h9, h10⟩ := h
  exact ⟨c, k, i, f, a, cell, h1, h2, h3, h4, by rw [hq a (Array.getElem?_eq_some_iff.mp h5).1 h10]; exact h5, h6, h7, h8, h9, h10⟩
theorem vx_L.narrow {C n d : String} {A B : Nat → Prop} {U : State} {H : Heap} (h : vx_L C n d A U H) (hAB : ∀ q, B q → A q) : vx_L C n d B U H := by
  obtain ⟨c, k, i, f, a, cell, h1, h2, h3, h4, h5, h6, h7, h8, h9, h10⟩ := h
  exact ⟨c, k, i, f, a, cell, h1, h2, h3, h4, h5, h6, h7, h8, h9, fun z => h10 (hAB _ z)⟩
theorem vx_L.word {C n d : String} {A : Nat → Prop} {s : State} {args : Array Value} (h : vx_L C n d A s s.heap) : (Cond.laysStatic C n d).before args s = true := by
  obtain ⟨c, k, i, f, a, cell, h1, h2, h3, h4, h5, h6, h7, h8, h9, -⟩ := h
  show (Cond.laysStatic C n d).holds args s none s [] = true
  exact Cond.laysStatic_of h1 h2 h3 h4 h5 h6 h7 h8 h9
/-- .. and what it holds: null or some reference -/
def vx_Zq (C n d : String) (A : Nat → Prop) (U : State) (H : Heap) : Prop := va_Zq C n d A U H ∧ vx_L C n d A U H
theorem vx_Zq.moved {C n d : String} {A : Nat → Prop} {u U : State} {H : Heap} (hvm : u.vm.Alike U.vm) (h : vx_Zq C n d A u H) : vx_Zq C n d A U H := ⟨va_Zq.moved hvm h.1, vx_L.moved hvm h.2⟩
theorem vx_Zq.kept {C n d : String} {A : Nat → Prop} {U : State} {H H1 : Heap} (h : vx_Zq C n d A U H) (hq : ∀ a : Nat, a < H.size → ¬ A a → H1[a]? = H[a]?) : vx_Zq C n d A U H1 := ⟨va_Zq.kept h.1 hq, vx_L.kept h.2 hq⟩
theorem vx_Zq.narrow {C n d : String} {A B : Nat → Prop} {U : State} {H : Heap} (h : vx_Zq C n d A U H) (hAB : ∀ q, B q → A q) : vx_Zq C n d B U H := ⟨va_Zq.narrow h.1 hAB, vx_L.narrow h.2 hAB⟩
theorem vx_Zqof {args : Array Value} {s : State} {C n d : String} {A : Nat → Prop} (hl : (Cond.laysStatic C n d).before args s = true) (hini : (Cond.initialized C).before args s = true) (h : (Cond.isRef (.static C n d)).before args s = true) (hA : ∀ a : Nat, a < s.heap.size → ¬ A a) : vx_Zq C n d A s s.heap := by
  refine ⟨va_Zqof hl hini h hA, ?_⟩
  obtain ⟨c, k, i, f, a, cell, h1, h2, h3, h4, h5, h6, h7, h8, h9⟩ := Cond.laysStatic_spec hl
  exact ⟨c, k, i, f, a, cell, h1, h2, h3, h4, h5, h6, h7, h8, h9, hA a (Array.getElem?_eq_some_iff.mp h5).1⟩
theorem vx_isRef {C n d : String} {v : Value} {A : Nat → Prop} {s : State} {args : Array Value} (h : va_Z C n d v A s s.heap) (hv : v.isRef = true) : (Cond.isRef (.static C n d)).before args s = true := by
  obtain ⟨cf, kf, fi, f, a, cell, h1, h2, h3, h4, h5, h6, h7, -⟩ := h
  have he : (Term.static C n d).eval args s none [] s = some v := by
    simp [Term.eval, State.fieldNamed?, h1, h2, h4, h5, h6, h7]
  simp only [Cond.before, Cond.holds, Cond.value, he]
  cases v <;> simp_all [Value.isRef]
theorem vx_isRefq {C n d : String} {A : Nat → Prop} {s : State} {args : Array Value} (h : va_Zq C n d A s s.heap) : (Cond.isRef (.static C n d)).before args s = true := by
  rcases h with h | ⟨t, h⟩
  · exact vx_isRef h rfl
  · exact vx_isRef h rfl
/-- the same frame, seen from here: as if the method were called anew in this heap -/
theorem vx_rebase {T : State} (X : Stand p l e R s m args below meth c T locs cells slots) {R' : Room} (hf : R'.frames ≤ R.frames) (hl : R'.locals ≤ R.locals) (hc : cells + R'.cells ≤ R.cells) (hs : slots + R'.slots ≤ R.slots) :
    Stand p l e R' ((T.setVm s.vm).setFrames (.invoking m args :: below)) m args below meth c T [] 0 0 := by
  have htop : (T.setVm s.vm).topJava?.isSome := X.here.top
  have hF : ((T.setVm s.vm).setFrames (.invoking m args :: below)).frames = .invoking m args :: below := State.frames_setFrames _ (State.cur_lt_of_top htop)
  obtain ⟨g₀, hg0⟩ := Option.isSome_iff_exists.mp htop
  obtain ⟨r, hr⟩ := State.topJava?_eq_some.mp hg0
  have hl9 : e.platform.stackLimits (T.setVm s.vm).me = e.platform.stackLimits s.me := X.limits
  have hb9 : (T.setVm s.vm).me.stackBytes = s.me.stackBytes := X.bytes
  refine ⟨X.admits, X.cas, X.clock, hF, ?_, X.hears, X.method, X.code, X.here, X.tail, X.warmed, ?_, ?_, ?_⟩
  · have h := X.room
    have hU : ((T.setVm s.vm).setFrames (.invoking m args :: below)).localsInUse = s.localsInUse := by
      rw [State.localsInUse_invoking hF (meth := meth) (c := c) X.method X.code, State.localsInUse_invoking X.frames X.method X.code]
    simp only [State.hasRoom, Bool.and_eq_true, decide_eq_true_eq] at h ⊢
    obtain ⟨⟨⟨⟨h1, h2, h3, h4, h5, h6⟩, h7⟩, h8⟩, h9⟩ := h
    rw [X.frames, List.length_cons] at h2 h3
    have q1 := X.heapSize
    have q2 := X.used
    simp only [hF, hU, List.length_cons, State.stackLimits_setFrames, State.stackBytes_setFrames, hl9, hb9]
    refine ⟨⟨⟨⟨by omega, by omega, by omega, by omega, by omega, h6⟩, ?_⟩, ?_⟩, X.book⟩
    · show T.heap.size + R'.cells ≤ e.platform.maxCells
      omega
    · show T.slotsUsed + R'.slots ≤ e.platform.maxSlots
      omega
  · rw [State.stackLimits_setFrames]; rfl
  · rw [State.stackBytes_setFrames]; rfl
  · refine ⟨?_, Nat.le_refl _, Nat.le_refl _, ?_, ?_, fun a c9 h9 => ⟨c9, h9, rfl, rfl, fun _ _ => rfl⟩⟩
    · obtain ⟨t, ht, -⟩ := State.frames_cons hr
      show T.setVm s.vm = { ((T.setVm s.vm).setFrames (.invoking m args :: below)).setFrames (T.setVm s.vm).frames with heap := T.heap, slotsUsed := T.slotsUsed }
      rw [State.setFrames_setFrames, State.setFrames_self ht]
      rfl
    · show T.slotsUsed = T.slotsUsed + ((T.heap.toList.drop T.heap.size).map (·.slots.size)).sum
      rw [List.drop_eq_nil_of_le (Nat.le_of_eq Array.length_toList)]
      rfl
    · show ((T.heap.toList.drop T.heap.size).map (·.slots.size)).sum ≤ 0
      rw [List.drop_eq_nil_of_le (Nat.le_of_eq Array.length_toList)]
      exact Nat.le_refl _
/-- 'throw new E()': new; dup; invokespecial; athrow -/
theorem vx_throw0 {cc : ByteArray} {pc : Nat} (hexec : p.tables.exec = Jvm.exec) (hb : c.code = cc) (hl : l.stackTraces = false) {own cls : String} {names : List String} {ik ic mc ms : Nat} {A : Nat → Prop}
    (hown : s.vm.findClass own = some m.cls) (hcls : Bundle.fit cls = true) (hnames : ∀ n ∈ names, Bundle.fit n = true)
    (hk : (Cond.classLink own ik cls).before args s = true) (hini : (Cond.initialized cls).before args s = true) (hat : ∀ w ∈ vx_at0 own ic cls names, w.before args s = true)
    (hgood : ∀ w ∈ Cond.classLink own ik cls :: Cond.initialized cls :: vx_at0 own ic cls names, vx_ot w = true)
    (hU : vx_Zq Bundle.tN "UNASSIGNED_STACK" Bundle.steD A s s.heap) (hN : vx_Zq Bundle.tN "SUPPRESSED_SENTINEL" Bundle.listD A s s.heap) (hS : va_S A s.heap H locs) (hsize : ls.size = c.maxLocals)
    (d0 : decode cc pc = .ok (.new ik, 3)) (d3 : decode cc (pc + 3) = .ok (.dup, 1)) (d4 : decode cc (pc + 4) = .ok (.invokespecial ic, 3)) (d7 : decode cc (pc + 7) = .ok (.athrow, 1))
    (hout : ∀ x ∈ c.exceptionTable.toList, covers x (pc + 7) = false)
    (hRframes : names.length + 3 < R.frames) (hRlocals : (rest.map fun v => v.category).sum + (13 * (names.length + 1) + 42) ≤ R.locals) (hRcells : cells + 1 ≤ R.cells) (hRslots : slots + 6 ≤ R.slots) (hlocks : meth.locks = false)
    (hx : ∀ t : State, s.vm.Alike t.vm → H.size ≤ t.heap.size → (∀ q : Nat, q < H.size → t.heap[q]? = H[q]?) → XC cls s t)
    (hf : ∀ z ∈ locs, free z.base) (hc : cells + 1 ≤ mc) (hs : slots + 6 ≤ ms) :
    W p l e R s m args below meth c H locs cells slots (vx_MQ below Qc XC args s mc ms free) (F0 m pc ls rest) := by
  intro T hT X
  have htr : e.platform.stackTraces = false := (show e.platform.stackTraces = l.stackTraces by rw [X.admits.platform]).trans hl
  have Y := vx_rebase X (R' := { frames := R.frames, locals := R.locals, cells := 1, slots := 6 }) (Nat.le_refl _) (Nat.le_refl _) hRcells hRslots
  obtain ⟨s', hA⟩ : ∃ z, z = (T.setVm s.vm).setFrames (.invoking m args :: below) := ⟨_, rfl⟩
  rw [← hA] at Y
  have hvm : s'.vm = s.vm := by rw [hA]; rfl
  have hhp : s'.heap = H := by rw [hA]; exact hT
  have hW0 : s.WarmedH s'.vm := by rw [hvm]; exact State.WarmedH.refl s
  have hat' : ∀ w ∈ vx_at0 own ic cls names, w.before args s' = true := fun w hw => vx_ot_at hW0 hvm.symm (hgood w (List.mem_cons_of_mem _ (List.mem_cons_of_mem _ hw))) (hat w hw)
  have hk' : (Cond.classLink own ik cls).before args s' = true := vx_ot_at hW0 hvm.symm (hgood _ List.mem_cons_self) hk
  have hini' : (Cond.initialized cls).before args s' = true := vx_ot_at hW0 hvm.symm (hgood _ (List.mem_cons_of_mem _ List.mem_cons_self)) hini
  have hU' : vx_Zq Bundle.tN "UNASSIGNED_STACK" Bundle.steD A s' s'.heap := by rw [hhp]; exact vx_Zq.moved hW0.alike (hU.kept hS.2.1)
  have hN' : vx_Zq Bundle.tN "SUPPRESSED_SENTINEL" Bundle.listD A s' s'.heap := by rw [hhp]; exact vx_Zq.moved hW0.alike (hN.kept hS.2.1)
  have h : ∀ w ∈ Bundle.ownAtoms0 own ic cls names, w.before args s' = true := vx_own hat' (vx_isRefq hU'.1) (vx_isRefq hN'.1) hU'.2.word hN'.2.word
  have hown' : s'.vm.findClass own = some m.cls := by rw [hvm]; exact hown
  have hins : (Cond.instantiable cls 6).before args s' = true := h _ (by simp [Bundle.ownAtoms0])
  obtain ⟨vm₁, cX, kX, hfX, hkX, -, -, X₁, st1⟩ := Y.newCold hexec (own := own) (C := cls) (index := ik) (n := 6) hown' hk' hins hini'
    (g := F0 m pc ls rest) rfl (by rw [hb]; exact d0) (Nat.le_refl _) (Nat.le_refl _)
  generalize hT1 : (T.setVm vm₁).pushCell { cls := cX, slots := kX.instanceTypes.map defaultValue, vm := .none } = T1 at X₁ st1
  have hcat : (Value.ref T.heap.size).category = 1 := rfl
  have hcellA : T1.heap[T.heap.size]? = some (freshCell cX kX) := by rw [← hT1]; exact State.heap_pushCell_size _ _
  have d3' : decode c.code (pc + 3) = .ok (.dup, 1) := by rw [hb]; exact d3
  obtain ⟨U, hsteps, hrun, hend, hW, hsame, ce, hce, hO⟩ := X₁.ctorThrow0 hexec htr (own := own) (cls := cls) (names := names) (ic := ic) hown' hcls hnames h (fun x hx => nomatch hx) hfX hkX hcellA (by rw [hhp, hT]; exact Nat.le_refl _)
    (g := { method := m, pc := pc + 4, locals := ls, stack := .ref T.heap.size :: .ref T.heap.size :: rest, locked := none }) rfl hsize rfl rfl (rest := rest) rfl
    (by rw [hb]; exact d4) (by rw [hb]; exact d7) hout hRframes (by simp only [List.map_cons, List.sum_cons, hcat]; omega) hlocks
  obtain ⟨f1, f2⟩ := vx_frame hsame
  rw [hhp] at f1 f2
  have hWs : s.WarmedH U.vm := State.WarmedH.trans hW0 hW
  have hcl : s.vm.findClass cls = some ce.cls := by
    have h9 := hO.cls
    rw [hvm] at h9
    exact h9
  have hall : s.sameButNew ({ U with vm := s.vm } : State) locs mc ms := by
    subst hA
    obtain ⟨e1, e2⟩ := hsame
    rw [State.setFrames_setFrames] at e1
    have h2 : (T.setVm s.vm).sameButNew ({ U with vm := s.vm } : State) [] (0 + 1) (0 + 6) := ⟨e1, e2⟩
    have h3 := X.same.trans h2
    rw [List.append_nil] at h3
    exact h3.mono hc hs
  refine ⟨U, ?_, .threw T.heap.size, hrun, hend, Or.inr ⟨T.heap.size, rfl, cls, ce, locs, hx U hWs.alike f1 (fun q hq => f2 q hq (fun z hz => nomatch hz)), hce, hO.vm, hcl, hWs, hall, hf⟩⟩
  refine st1 _ ?_
  show Steps p.tables e below (T1.setTop { method := m, pc := pc + 3, locals := ls, stack := .ref T.heap.size :: rest, locked := none }) _
  jvm_step X₁.here [X₁.here.top, hexec, d3', Value.category]
  exact hsteps
/-- 'throw new E("text")': new; dup; ldc; invokespecial; athrow -/
theorem vx_throwS {cc : ByteArray} {pc : Nat} (hexec : p.tables.exec = Jvm.exec) (hb : c.code = cc) (hl : l.stackTraces = false) {own cls text : String} {names : List String} {ik is ic mc ms sa : Nat} {A : Nat → Prop}
    (hown : s.vm.findClass own = some m.cls) (hcls : Bundle.fit cls = true) (hnames : ∀ n ∈ names, Bundle.fit n = true)
    (hk : (Cond.classLink own ik cls).before args s = true) (hini : (Cond.initialized cls).before args s = true) (hstr : vk_R own is text sa s) (hat : ∀ w ∈ vx_atS own ic cls names, w.before args s = true)
    (hgood : ∀ w ∈ Cond.classLink own ik cls :: Cond.initialized cls :: vx_atS own ic cls names, vx_ot w = true)
    (hU : vx_Zq Bundle.tN "UNASSIGNED_STACK" Bundle.steD A s s.heap) (hN : vx_Zq Bundle.tN "SUPPRESSED_SENTINEL" Bundle.listD A s s.heap) (hS : va_S A s.heap H locs) (hsize : ls.size = c.maxLocals)
    (d0 : decode cc pc = .ok (.new ik, 3)) (d3 : decode cc (pc + 3) = .ok (.dup, 1)) (d4 : decode cc (pc + 4) = .ok (.ldc is, 2)) (d6 : decode cc (pc + 6) = .ok (.invokespecial ic, 3)) (d9 : decode cc (pc + 9) = .ok (.athrow, 1))
    (hout : ∀ x ∈ c.exceptionTable.toList, covers x (pc + 9) = false)
    (hRframes : names.length + 3 < R.frames) (hRlocals : (rest.map fun v => v.category).sum + (13 * (names.length + 1) + 43) ≤ R.locals) (hRcells : cells + 1 ≤ R.cells) (hRslots : slots + 6 ≤ R.slots) (hlocks : meth.locks = false)
    (hx : ∀ t : State, s.vm.Alike t.vm → H.size ≤ t.heap.size → (∀ q : Nat, q < H.size → t.heap[q]? = H[q]?) → XC cls s t)
    (hf : ∀ z ∈ locs, free z.base) (hc : cells + 1 ≤ mc) (hs : slots + 6 ≤ ms) :
    W p l e R s m args below meth c H locs cells slots (vx_MQ below Qc XC args s mc ms free) (F0 m pc ls rest) := by
  intro T hT X
  have htr : e.platform.stackTraces = false := (show e.platform.stackTraces = l.stackTraces by rw [X.admits.platform]).trans hl
  have Y := vx_rebase X (R' := { frames := R.frames, locals := R.locals, cells := 1, slots := 6 }) (Nat.le_refl _) (Nat.le_refl _) hRcells hRslots
  obtain ⟨s', hA⟩ : ∃ z, z = (T.setVm s.vm).setFrames (.invoking m args :: below) := ⟨_, rfl⟩
  rw [← hA] at Y
  have hvm : s'.vm = s.vm := by rw [hA]; rfl
  have hhp : s'.heap = H := by rw [hA]; exact hT
  have hW0 : s.WarmedH s'.vm := by rw [hvm]; exact State.WarmedH.refl s
  have hat' : ∀ w ∈ vx_atS own ic cls names, w.before args s' = true := fun w hw => vx_ot_at hW0 hvm.symm (hgood w (List.mem_cons_of_mem _ (List.mem_cons_of_mem _ hw))) (hat w hw)
  have hk' : (Cond.classLink own ik cls).before args s' = true := vx_ot_at hW0 hvm.symm (hgood _ List.mem_cons_self) hk
  have hini' : (Cond.initialized cls).before args s' = true := vx_ot_at hW0 hvm.symm (hgood _ (List.mem_cons_of_mem _ List.mem_cons_self)) hini
  have hU' : vx_Zq Bundle.tN "UNASSIGNED_STACK" Bundle.steD A s' s'.heap := by rw [hhp]; exact vx_Zq.moved hW0.alike (hU.kept hS.2.1)
  have hN' : vx_Zq Bundle.tN "SUPPRESSED_SENTINEL" Bundle.listD A s' s'.heap := by rw [hhp]; exact vx_Zq.moved hW0.alike (hN.kept hS.2.1)
  have h : ∀ w ∈ Bundle.ownAtoms own ic cls names, w.before args s' = true := vx_own hat' (vx_isRefq hU'.1) (vx_isRefq hN'.1) hU'.2.word hN'.2.word
  have hown' : s'.vm.findClass own = some m.cls := by rw [hvm]; exact hown
  have hins : (Cond.instantiable cls 6).before args s' = true := h _ (by simp [Bundle.ownAtoms])
  obtain ⟨vm₁, cX, kX, hfX, hkX, -, -, X₁, st1⟩ := Y.newCold hexec (own := own) (C := cls) (index := ik) (n := 6) hown' hk' hins hini'
    (g := F0 m pc ls rest) rfl (by rw [hb]; exact d0) (Nat.le_refl _) (Nat.le_refl _)
  generalize hT1 : (T.setVm vm₁).pushCell { cls := cX, slots := kX.instanceTypes.map defaultValue, vm := .none } = T1 at X₁ st1
  have hcat : (Value.ref T.heap.size).category = 1 := rfl
  have hcellA : T1.heap[T.heap.size]? = some (freshCell cX kX) := by rw [← hT1]; exact State.heap_pushCell_size _ _
  have d3' : decode c.code (pc + 3) = .ok (.dup, 1) := by rw [hb]; exact d3
  have d4' : decode c.code (pc + 4) = .ok (.ldc is, 2) := by rw [hb]; exact d4
  have hstr' : vk_R own is text sa s' := vk_R.warm hW0 hstr
  obtain ⟨U, hsteps, hrun, hend, hW, hsame, ce, hce, hO⟩ := X₁.ctorThrowS hexec htr (own := own) (cls := cls) (names := names) (ic := ic) hown' hcls hnames h (fun x hx => nomatch hx) hfX hkX hcellA (by rw [hhp, hT]; exact Nat.le_refl _) (msg := .ref sa) rfl
    (g := { method := m, pc := pc + 6, locals := ls, stack := .ref sa :: .ref T.heap.size :: .ref T.heap.size :: rest, locked := none }) rfl hsize rfl rfl (rest := rest) rfl
    (by rw [hb]; exact d6) (by rw [hb]; exact d9) hout hRframes (by simp only [List.map_cons, List.sum_cons, hcat]; omega) hlocks
  obtain ⟨f1, f2⟩ := vx_frame hsame
  rw [hhp] at f1 f2
  have hWs : s.WarmedH U.vm := State.WarmedH.trans hW0 hW
  have hcl : s.vm.findClass cls = some ce.cls := by
    have h9 := hO.cls
    rw [hvm] at h9
    exact h9
  have hall : s.sameButNew ({ U with vm := s.vm } : State) locs mc ms := by
    subst hA
    obtain ⟨e1, e2⟩ := hsame
    rw [State.setFrames_setFrames] at e1
    have h2 : (T.setVm s.vm).sameButNew ({ U with vm := s.vm } : State) [] (0 + 1) (0 + 6) := ⟨e1, e2⟩
    have h3 := X.same.trans h2
    rw [List.append_nil] at h3
    exact h3.mono hc hs
  refine ⟨U, ?_, .threw T.heap.size, hrun, hend, Or.inr ⟨T.heap.size, rfl, cls, ce, locs, hx U hWs.alike f1 (fun q hq => f2 q hq (fun z hz => nomatch hz)), hce, hO.vm, hcl, hWs, hall, hf⟩⟩
  refine st1 _ ?_
  show Steps p.tables e below (T1.setTop { method := m, pc := pc + 3, locals := ls, stack := .ref T.heap.size :: rest, locked := none }) _
  jvm_step X₁.here [X₁.here.top, hexec, d3', Value.category]
  exact X₁.ldcString hexec (own := own) (text := text) (index := is) (a := sa) hown' hstr'.1 hstr'.2
    (g := { method := m, pc := pc + 4, locals := ls, stack := .ref T.heap.size :: .ref T.heap.size :: rest, locked := none }) rfl d4' _ hsteps
/-- 'throw new E("text")', the text by a wide index -/
theorem vx_throwSW {cc : ByteArray} {pc : Nat} (hexec : p.tables.exec = Jvm.exec) (hb : c.code = cc) (hl : l.stackTraces = false) {own cls text : String} {names : List String} {ik is ic mc ms sa : Nat} {A : Nat → Prop}
    (hown : s.vm.findClass own = some m.cls) (hcls : Bundle.fit cls = true) (hnames : ∀ n ∈ names, Bundle.fit n = true)
    (hk : (Cond.classLink own ik cls).before args s = true) (hini : (Cond.initialized cls).before args s = true) (hstr : vk_R own is text sa s) (hat : ∀ w ∈ vx_atS own ic cls names, w.before args s = true)
    (hgood : ∀ w ∈ Cond.classLink own ik cls :: Cond.initialized cls :: vx_atS own ic cls names, vx_ot w = true)
    (hU : vx_Zq Bundle.tN "UNASSIGNED_STACK" Bundle.steD A s s.heap) (hN : vx_Zq Bundle.tN "SUPPRESSED_SENTINEL" Bundle.listD A s s.heap) (hS : va_S A s.heap H locs) (hsize : ls.size = c.maxLocals)
    (d0 : decode cc pc = .ok (.new ik, 3)) (d3 : decode cc (pc + 3) = .ok (.dup, 1)) (d4 : decode cc (pc + 4) = .ok (.ldc_w is, 3)) (d7 : decode cc (pc + 7) = .ok (.invokespecial ic, 3)) (d10 : decode cc (pc + 10) = .ok (.athrow, 1))
    (hout : ∀ x ∈ c.exceptionTable.toList, covers x (pc + 10) = false)
    (hRframes : names.length + 3 < R.frames) (hRlocals : (rest.map fun v => v.category).sum + (13 * (names.length + 1) + 43) ≤ R.locals) (hRcells : cells + 1 ≤ R.cells) (hRslots : slots + 6 ≤ R.slots) (hlocks : meth.locks = false)
    (hx : ∀ t : State, s.vm.Alike t.vm → H.size ≤ t.heap.size → (∀ q : Nat, q < H.size → t.heap[q]? = H[q]?) → XC cls s t)
    (hf : ∀ z ∈ locs, free z.base) (hc : cells + 1 ≤ mc) (hs : slots + 6 ≤ ms) :
    W p l e R s m args below meth c H locs cells slots (vx_MQ below Qc XC args s mc ms free) (F0 m pc ls rest) := by
  intro T hT X
  have htr : e.platform.stackTraces = false := (show e.platform.stackTraces = l.stackTraces by rw [X.admits.platform]).trans hl
  have Y := vx_rebase X (R' := { frames := R.frames, locals := R.locals, cells := 1, slots := 6 }) (Nat.le_refl _) (Nat.le_refl _) hRcells hRslots
  obtain ⟨s', hA⟩ : ∃ z, z = (T.setVm s.vm).setFrames (.invoking m args :: below) := ⟨_, rfl⟩
  rw [← hA] at Y
  have hvm : s'.vm = s.vm := by rw [hA]; rfl
  have hhp : s'.heap = H := by rw [hA]; exact hT
  have hW0 : s.WarmedH s'.vm := by rw [hvm]; exact State.WarmedH.refl s
  have hat' : ∀ w ∈ vx_atS own ic cls names, w.before args s' = true := fun w hw => vx_ot_at hW0 hvm.symm (hgood w (List.mem_cons_of_mem _ (List.mem_cons_of_mem _ hw))) (hat w hw)
  have hk' : (Cond.classLink own ik cls).before args s' = true := vx_ot_at hW0 hvm.symm (hgood _ List.mem_cons_self) hk
  have hini' : (Cond.initialized cls).before args s' = true := vx_ot_at hW0 hvm.symm (hgood _ (List.mem_cons_of_mem _ List.mem_cons_self)) hini
  have hU' : vx_Zq Bundle.tN "UNASSIGNED_STACK" Bundle.steD A s' s'.heap := by rw [hhp]; exact vx_Zq.moved hW0.alike (hU.kept hS.2.1)
  have hN' : vx_Zq Bundle.tN "SUPPRESSED_SENTINEL" Bundle.listD A s' s'.heap := by rw [hhp]; exact vx_Zq.moved hW0.alike (hN.kept hS.2.1)
  have h : ∀ w ∈ Bundle.ownAtoms own ic cls names, w.before args s' = true := vx_own hat' (vx_isRefq hU'.1) (vx_isRefq hN'.1) hU'.2.word hN'.2.word
  have hown' : s'.vm.findClass own = some m.cls := by rw [hvm]; exact hown
  have hins : (Cond.instantiable cls 6).before args s' = true := h _ (by simp [Bundle.ownAtoms])
  obtain ⟨vm₁, cX, kX, hfX, hkX, -, -, X₁, st1⟩ := Y.newCold hexec (own := own) (C := cls) (index := ik) (n := 6) hown' hk' hins hini'
    (g := F0 m pc ls rest) rfl (by rw [hb]; exact d0) (Nat.le_refl _) (Nat.le_refl _)
  generalize hT1 : (T.setVm vm₁).pushCell { cls := cX, slots := kX.instanceTypes.map defaultValue, vm := .none } = T1 at X₁ st1
  have hcat : (Value.ref T.heap.size).category = 1 := rfl
  have hcellA : T1.heap[T.heap.size]? = some (freshCell cX kX) := by rw [← hT1]; exact State.heap_pushCell_size _ _
  have d3' : decode c.code (pc + 3) = .ok (.dup, 1) := by rw [hb]; exact d3
  have d4' : decode c.code (pc + 4) = .ok (.ldc_w is, 3) := by rw [hb]; exact d4
  have hstr' : vk_R own is text sa s' := vk_R.warm hW0 hstr
  obtain ⟨U, hsteps, hrun, hend, hW, hsame, ce, hce, hO⟩ := X₁.ctorThrowS hexec htr (own := own) (cls := cls) (names := names) (ic := ic) hown' hcls hnames h (fun x hx => nomatch hx) hfX hkX hcellA (by rw [hhp, hT]; exact Nat.le_refl _) (msg := .ref sa) rfl
    (g := { method := m, pc := pc + 7, locals := ls, stack := .ref sa :: .ref T.heap.size :: .ref T.heap.size :: rest, locked := none }) rfl hsize rfl rfl (rest := rest) rfl
    (by rw [hb]; exact d7) (by rw [hb]; exact d10) hout hRframes (by simp only [List.map_cons, List.sum_cons, hcat]; omega) hlocks
  obtain ⟨f1, f2⟩ := vx_frame hsame
  rw [hhp] at f1 f2
  have hWs : s.WarmedH U.vm := State.WarmedH.trans hW0 hW
  have hcl : s.vm.findClass cls = some ce.cls := by
    have h9 := hO.cls
    rw [hvm] at h9
    exact h9
  have hall : s.sameButNew ({ U with vm := s.vm } : State) locs mc ms := by
    subst hA
    obtain ⟨e1, e2⟩ := hsame
    rw [State.setFrames_setFrames] at e1
    have h2 : (T.setVm s.vm).sameButNew ({ U with vm := s.vm } : State) [] (0 + 1) (0 + 6) := ⟨e1, e2⟩
    have h3 := X.same.trans h2
    rw [List.append_nil] at h3
    exact h3.mono hc hs
  refine ⟨U, ?_, .threw T.heap.size, hrun, hend, Or.inr ⟨T.heap.size, rfl, cls, ce, locs, hx U hWs.alike f1 (fun q hq => f2 q hq (fun z hz => nomatch hz)), hce, hO.vm, hcl, hWs, hall, hf⟩⟩
  refine st1 _ ?_
  show Steps p.tables e below (T1.setTop { method := m, pc := pc + 3, locals := ls, stack := .ref T.heap.size :: rest, locked := none }) _
  jvm_step X₁.here [X₁.here.top, hexec, d3', Value.category]
  exact X₁.ldcStringW hexec (own := own) (text := text) (index := is) (a := sa) hown' hstr'.1 hstr'.2
    (g := { method := m, pc := pc + 4, locals := ls, stack := .ref T.heap.size :: .ref T.heap.size :: rest, locked := none }) rfl d4' _ hsteps
end Ends
section Bodies
variable {l : Launch}
theorem vx_ofW {y : MethodName} {ws ws' : List Cond} {rm : Room} {Pc : Array Value → State → Prop} {Qc : Array Value → State → Outcome → State → Prop} {XC : String → State → State → Prop} {mc ms : Nat} {free : Addr → Prop} {cc : ByteArray} {maxL : Nat} {ret : Option FieldType}
    (hy : plainName y.cls = true) (hw : ws = Cond.code y cc maxL ret :: ws')
    (body : ∀ p e s m args below meth c s₁, BodyLoose p l y (headSpec ws rm) cc maxL ret e s m args below meth c s₁ → c.maxLocals = maxL → (∀ x ∈ c.exceptionTable.toList, False) → Pc args s →
      W p l e (headSpec ws rm).room s m args below meth c s.heap [] 0 0 (vx_MQ below Qc XC args s mc ms free) (entryFrame m args maxL)) : vx_Met l y ws rm Pc Qc XC mc ms free := by
  refine MetFree.of_bodyS (code := cc) (maxLocals := maxL) (ret := ret) hy ?_ ?_
  · intro args s m h hn
    obtain ⟨meth, c, h1, h2, h3, h4, h5, h6, -, -⟩ := Cond.code_spec hn (atoms_spec (ws := ws) h _ (by rw [hw]; exact List.mem_cons_self))
    exact ⟨meth, c, h1, h2, h3, h4, h5, h6⟩
  · intro p e s m args below meth c s₁ B hml hP _
    have hh0 : s₁.heap = s.heap := by rw [B.state]; rfl
    have ht : ∀ x ∈ c.exceptionTable.toList, False := by
      obtain ⟨meth9, c9, h1, h2, -, -, -, -, h7, -⟩ := Cond.code_spec B.named (atoms_spec (ws := ws) B.pre _ (by rw [hw]; exact List.mem_cons_self))
      cases Option.some.inj (h1.symm.trans B.method)
      cases Option.some.inj (h2.symm.trans (Stand.of_body B).code)
      intro x hx
      rw [Array.isEmpty_iff.mp h7] at hx
      cases hx
    obtain ⟨t, a1, o, b1, b2, b3⟩ := body p e s m args below meth c s₁ B hml ht hP s₁ hh0 (Stand.of_body B)
    exact ⟨t, o, a1, b1, b2, b3⟩
/-- the table of a body with handlers -/
theorem vx_table {p : Program} {x y : MethodName} {S : Spec} {cc bytes : ByteArray} {maxL maxL' : Nat} {ret ret' : Option FieldType} {e : Env} {s s₁ : State} {m : MethodId} {args : Array Value} {below : List Frame} {meth : Method} {c : Code} {hh : List (Nat × Nat × Nat × Nat)}
    (B : BodyLoose p l y S cc maxL ret e s m args below meth c s₁) (h : (Cond.codeWith y bytes maxL' ret' hh).before args s = true) : c.exceptionTable.toList = tableOf hh := by
  obtain ⟨m9, meth9, c9, hn9, h1, h2, -, -, h6, -⟩ := Cond.codeWith_spec h
  cases Option.some.inj (hn9.symm.trans B.named)
  cases Option.some.inj (h1.symm.trans B.method)
  cases Option.some.inj (h2.symm.trans (Stand.of_body B).code)
  rw [← h6, table_eq]
end Bodies
end VXA
/-! ===== END ===== -/
/-! ===== BEGIN a static call of a method with an exception table ===== -/
section VXS
variable {p : Program} {l : Launch} {e : Env} {R : Room} {s : State} {m : MethodId} {args : Array Value} {below : List Frame} {meth : Method} {c : Code} {T : State} {H : Heap} {locs : List Loc} {cells slots : Nat}
abbrev vx_CSW (R : Room) (s : State) (args : Array Value) (own : String) (index : Nat) (y : MethodName) (bytes : ByteArray) (maxL : Nat) (ret : Option FieldType) (hh : List (Nat × Nat × Nat × Nat)) (ws : List Cond) (rm : Room) (mc ms n : Nat) : Prop :=
  (rm.cells = mc ∧ rm.slots = ms ∧ rm.frames + 1 ≤ R.frames ∧ 8 + (maxL + 11) + rm.locals ≤ R.locals ∧ (∀ w ∈ ws, ∀ (a' : Array Value) (U : State), s.WarmedH U.vm → w.before a' U = true) ∧ Cond.codeWith y bytes maxL ret hh ∈ ws) ∧
  (Cond.codeWith y bytes maxL ret hh).before args s = true ∧ (Cond.initialized y.cls).before args s = true ∧ (y.cls ≠ "java/lang/invoke/MethodHandle" ∧ y.cls ≠ "java/lang/invoke/VarHandle") ∧
  (∀ sig, parseMethodDescriptor y.desc = some sig → n = sig.parameters.length) ∧ (Cond.methodLink own index y).before args s = true ∧ (Cond.static y).before args s = true
theorem vx_cwSW {own : String} {index maxL mc ms : Nat} {y : MethodName} {bytes : ByteArray} {ret : Option FieldType} {hh : List (Nat × Nat × Nat × Nat)} {Ts ws ws' : List Cond} {rm : Room} (n : Nat) (ht : ∀ w ∈ Ts, w.before args s = true) (hT : GoodIn Ts (va_wsS own index y ws)) (hw : ws = Cond.codeWith y bytes maxL ret hh :: ws') (hrc : rm.cells = mc) (hrs : rm.slots = ms)
    (hd : y.cls ≠ "java/lang/invoke/MethodHandle" ∧ y.cls ≠ "java/lang/invoke/VarHandle" ∧ (parseMethodDescriptor y.desc).map (fun d => d.parameters.length) = some n) (hR : rm.frames + 1 ≤ R.frames ∧ 8 + (maxL + 11) + rm.locals ≤ R.locals) :
    vx_CSW R s args own index y bytes maxL ret hh ws rm mc ms n := by
  have ok : ∀ w ∈ va_wsS own index y ws, w.before args s = true := fun w h => ht w (hT w h).1
  have hG : GoodIn Ts ws := fun w h => hT w (by unfold va_wsS; exact List.mem_append_right _ h)
  have hc : Cond.codeWith y bytes maxL ret hh ∈ ws := by rw [hw]; exact List.mem_cons_self
  refine ⟨⟨hrc, hrs, hR.1, hR.2, pay_in ht hG, hc⟩, ht _ (hG _ hc).1, ok _ (by simp [va_wsS]), ⟨hd.1, hd.2.1⟩, fun sig h => ?_, ok _ (by simp [va_wsS]), ok _ (by simp [va_wsS])⟩
  have h2 := hd.2.2
  rw [h] at h2
  exact (Option.some.inj h2).symm
theorem vx_callSW (X : Stand p l e R s m args below meth c T locs cells slots) (hexec : p.tables.exec = Jvm.exec) {own : String} {index : Nat} {y : MethodName} {bytes : ByteArray} {maxL : Nat} {ret : Option FieldType} {hh : List (Nat × Nat × Nat × Nat)}
    (hown : s.vm.findClass own = some m.cls) (hlink : (Cond.methodLink own index y).before args s = true) (hstat : (Cond.static y).before args s = true) (hinit : (Cond.initialized y.cls).before args s = true)
    (hcode : (Cond.codeWith y bytes maxL ret hh).before args s = true) (hy : y.cls ≠ "java/lang/invoke/MethodHandle" ∧ y.cls ≠ "java/lang/invoke/VarHandle")
    {W9 : Nat} {Pre : Pt → Array Value → Prop} {Post : Pt → Array Value → Option Value → Pt → Prop} (hK : Back l R p e below s args y 3 W9 Pre Post)
    {g : JFrame} (hg : g.method = m) (hsize : g.locals.size = c.maxLocals) {argsL rest : List Value} (hlen : ∀ sig, parseMethodDescriptor y.desc = some sig → argsL.length = sig.parameters.length)
    (hstack : g.stack = argsL.reverse ++ rest) (hW : 2 * g.monitorRoom + (rest.map fun v => v.category).sum ≤ W9) (hdg : decode c.code g.pc = .ok (.invokestatic index, 3))
    (hpre : ∀ vm₁, s.WarmedH vm₁ → Pre ⟨T.setVm vm₁, locs, cells, slots⟩ argsL.toArray) :
    ∃ (v : Option Value) (vm₁ : Vm) (B : Pt), s.WarmedH vm₁ ∧ Stand p l e R s m args below meth c B.U B.locs B.cells B.slots ∧ Post ⟨T.setVm vm₁, locs, cells, slots⟩ argsL.toArray v B ∧
      ∀ target, Steps p.tables e below (B.U.setTop { g with pc := g.pc + 3, stack := v.toList ++ rest }) target → Steps p.tables e below (T.setTop g) target := by
  obtain ⟨mk, methM, cM, hnamed, hmethM, -, -, -, -, -, -, hsigM⟩ := Cond.codeWith_spec hcode
  have hstatic : methM.isStatic = true := Cond.static_spec hnamed hmethM hstat
  obtain ⟨kP, hkP, -⟩ := className_of_methodNamed hnamed
  have hinitP : kP.init = .initialized := Cond.initialized_spec (findClass_of_methodNamed hnamed) hkP hinit
  obtain ⟨vm₁, X₁, hstep₁⟩ := X.invokestatic hexec hown hlink hnamed hmethM hstatic hkP hinitP hy (g := g) hg (argsL := argsL) (rest := rest) (hlen _ hsigM) hstack hdg
  obtain ⟨v, B, X', hpost, hsteps⟩ := hK m meth c ⟨T.setVm vm₁, locs, cells, slots⟩ { g with stack := rest } (.invokestatic index) mk argsL.toArray X₁ hg hsize hdg hW (X₁.named hnamed) (hpre vm₁ X₁.warmed)
  exact ⟨v, vm₁, B, X₁.warmed, X', hpost, fun target h => hstep₁ _ fun acts => by rw [doInvoke_state]; exact hsteps.trans h⟩
theorem vx_runSW {y : MethodName} {bytes cc : ByteArray} {maxL nL mc ms n index : Nat} {ret : Option FieldType} {hh : List (Nat × Nat × Nat × Nat)} {ws : List Cond} {rm : Room} {Pc : Array Value → State → Prop} {Qc : Array Value → State → Outcome → State → Prop} {free : Addr → Prop} {Ts : List Cond} {own : String} {As rest : List Value} {g : JFrame}
    (S : CallFix p m c cc nL s args Ts own) (hM : Met l y ws rm Pc Qc mc ms free) (cw : vx_CSW R s args own index y bytes maxL ret hh ws rm mc ms n) (hp : PreS s H Pc As)
    (hg : g.method = m) (hn : As.length = n) (hsize : g.locals.size = nL) (hstack : g.stack = As.reverse ++ rest) (hW : 2 * g.monitorRoom + (rest.map fun v => v.category).sum ≤ 8) (hdg : decode cc g.pc = .ok (.invokestatic index, 3)) (hf : cells + mc ≤ R.cells ∧ slots + ms ≤ R.slots) :
    va_Run p l e R s m args below meth c H locs cells slots mc ms g rest (Qc As.toArray) (free) := by
  obtain ⟨⟨hrc, hrs, hfr, hlo, hws, hcw⟩, hcode, hini, hy, hlen, hl, hstt⟩ := cw
  have hK : Back l R p e below s args y 3 8 (PreOf R mc ms Pc) (PostOf Qc mc ms free) := va_backW (hh := hh) (bytes := bytes) (maxL := maxL) (ret := ret) hM hp.1 hrc hrs hfr hlo hws hcw (fun a' U hW => word_at hW (Or.inl (by first | rfl | simp [Cond.onTables, Cond.keeps, Cond.steady])) hini)
  obtain ⟨hx, hb, hml, ho, -⟩ := S
  intro T hT X
  obtain ⟨v, vm₁, ⟨U', l2, c2, s2⟩, hW₁, X', ⟨g', mk, t, L, e1, e2, hq, h1, hL, h2, h3⟩, st⟩ := vx_callSW X hx (hh := hh) (bytes := bytes) (maxL := maxL) (ret := ret) ho hl hstt hini hcode hy hK hg (hsize.trans hml.symm) (argsL := As) (rest := rest) (fun sig h => hn.trans (hlen sig h)) hstack hW (by rw [hb]; exact hdg)
    (fun vm₁ hW₁ => ⟨hf.1, hf.2, hp.2 (T.setVm vm₁) hT hW₁⟩)
  dsimp only [Pt.U, Pt.locs, Pt.cells, Pt.slots] at X' e1 e2 h1 h2 h3 st
  subst h1; subst h2; subst h3
  exact ⟨v, (T.setVm vm₁).calling g' mk As.toArray, t, U', L, hT, X', hL, e1, e2, hq, st⟩
/-- not caught here, past rows that name other classes: it goes on to the caller -/
theorem vx_outP {p : Program} {l : Launch} {e : Env} {R : Room} {s : State} {m : MethodId} {args : Array Value} {below : List Frame} {meth : Method} {c : Code} {H : Heap} {locs : List Loc} {cells slots : Nat} {free : Addr → Prop} {ls : Array Slot} {rest : List Value} {Qc : Array Value → State → Outcome → State → Prop} {XC : String → State → State → Prop}
    {pc : Nat} {own E : String} {ce : Cell} {q : Addr} {mc ms : Nat} (hown : s.vm.findClass own = some m.cls) (hlocks : meth.locks = false)
    (hpass : ∀ z ∈ c.exceptionTable.toList, covers z pc = false ∨ (z.catchType ≠ 0 ∧ ∃ nm : String, (Cond.classLink own z.catchType nm).before args s = true ∧ va_Nc E nm s)) (hcell : H[q]? = some ce) (hv : ce.vm = .none) (hcl : s.vm.findClass E = some ce.cls)
    (hx : ∀ t : State, t.heap = H → s.vm.Alike t.vm → XC E s t) (hf : ∀ z ∈ locs, free z.base) (hc : cells ≤ mc) (hs : slots ≤ ms) :
    vx_W p l e R s m args below meth c H locs cells slots (vx_MQ below Qc XC args s mc ms free) (F0 m pc ls rest) q := by
  intro T hT X
  have hpl : e.platform.magicAccessors = ({} : Platform).magicAccessors := by rw [X.admits.platform]
  obtain ⟨vm', hW', X', st⟩ := X.outThrough hlocks q (g := F0 m pc ls rest) rfl rfl rfl (cell := ce) (by rw [hT]; exact hcell) (by rw [hv]; rfl)
    (by obtain ⟨k9, h9, -⟩ := Vm.findClass_spec hcl; exact ⟨k9, h9⟩) (fun z hz => by
      rcases hpass z hz with h | ⟨hz0, nm, hl1, hn1⟩
      · exact Or.inl h
      · obtain ⟨c6, hc6, hcl6⟩ := Cond.classLink_spec hown hl1 e.platform hpl
        obtain ⟨a8, b8, h1, h2, h3⟩ := hn1
        cases Option.some.inj (h1.symm.trans hcl)
        cases Option.some.inj (h2.symm.trans hc6)
        exact Or.inr ⟨hz0, _, hcl6, h3⟩)
  obtain ⟨g₀, hfr⟩ := X'.frames_eq
  have hcell9 : ((T.setVm vm').setFrames (.throwing q :: below)).heap[q]? = some ce := by
    show T.heap[q]? = some ce
    rw [hT]; exact hcell
  have hend : Ended ((T.setVm vm').setFrames (.throwing q :: below)) below (.threw q) := State.frames_setFrames _ (State.cur_lt_of_frames hfr)
  refine ⟨(T.setVm vm').setFrames (.throwing q :: below), ?_, .threw q, X'.here.running, hend, Or.inr ⟨q, rfl, E, ce, locs, hx _ hT (X'.ends _).1.alike, hcell9, hv, hcl, (X'.ends _).1, (X'.ends _).2.mono hc hs, hf⟩⟩
  rw [X.pushThrowing_eq]
  exact st
/-- a thing of a world lies in the heap -/
theorem vx_lt {D : va_G} {cl : List vw_C} {ws : va_W} {H1 : Heap} (h : va_P D cl ws H1) {k : Nat} {q : Nat × va_E} (hk : ws[k]? = some q) : q.1 < H1.size := (h k q hk).lt
end VXS
/-! ===== END ===== -/
/-! ===== BEGIN methods with a table of their own: called by a name, returning or throwing ===== -/
section VXH
/-! vx_backW, vx_callVX, vx_callSX, vx_callVW, vx_runVW, vx_runVX, vx_runSX, vx_ofWH follow the same proofs as their sisters above (Free/Laws.lean, Shelf42/LK1.lean); vx_outP calls Shelf42/NT130.lean (outThrough). -/
section
variable {l : Launch} {R : Room} {p : Program} {e : Env} {below : List Frame} {s : State} {sargs : Array Value} {y : MethodName} {len W9 : Nat}
theorem vx_backW {ws : List Cond} {rm : Room} {Pc : Array Value → State → Prop} {Qc : Array Value → State → Outcome → State → Prop} {XC : String → State → State → Prop} {mc ms : Nat} {free : Addr → Prop} {bytes : ByteArray} {maxL : Nat} {ret : Option FieldType} {hh : List (Nat × Nat × Nat × Nat)}
    (hM : vx_Met l y ws rm Pc Qc XC mc ms free) (hblind : FrameBlind Pc) (hrc : rm.cells = mc) (hrs : rm.slots = ms)
    (hframes : rm.frames + 1 ≤ R.frames) (hlocals : W9 + (maxL + 11) + rm.locals ≤ R.locals)
    (hws : ∀ w ∈ ws, ∀ a' U, s.WarmedH U.vm → w.before a' U = true) (hcode : Cond.codeWith y bytes maxL ret hh ∈ ws) (hinit : ∀ a' U, s.WarmedH U.vm → (Cond.initialized y.cls).before a' U = true) :
    vx_Back l R p e below s sargs y len W9 (PreOf R mc ms Pc) (PostOf Qc mc ms free) (vx_Post XC mc ms free) := by
  intro m meth c A g ig mk a X hg hsize hdg hW hn hp
  have h1 : (headSpec ws rm).pre.before a A.U = true := atoms_intro fun w hw => hws w hw _ _ X.warmed
  have h2 : (Cond.codeWith y bytes maxL ret hh).before a A.U = true := hws _ hcode _ _ X.warmed
  have h3 : (Cond.initialized y.cls).before a A.U = true := hinit _ _ X.warmed
  have h4 : A.cells + (headSpec ws rm).room.cells ≤ R.cells := by rw [show (headSpec ws rm).room.cells = mc from hrc]; exact hp.1
  have h5 : A.slots + (headSpec ws rm).room.slots ≤ R.slots := by rw [show (headSpec ws rm).room.slots = ms from hrs]; exact hp.2.1
  have hPc : Pc a (A.U.calling g mk a) := hblind _ _ _ _ hp.2.2
  obtain ⟨U, Ls, c0, s0⟩ := A
  dsimp only [Pt.U, Pt.locs, Pt.cells, Pt.slots] at h1 h2 h3 h4 h5 X hn hPc ⊢
  obtain ⟨m9, methY, cY, hn9, hmY, hcY, -, hlY, -⟩ := Cond.codeWith_spec h2
  cases Option.some.inj (hn9.symm.trans hn)
  obtain ⟨kY, hkY, -⟩ := className_of_methodNamed hn
  have hinitY : kY.init = .initialized := Cond.initialized_spec (findClass_of_methodNamed hn) hkY h3
  have h : At U g.method c below := by rw [hg]; exact X.here
  have hlocals9 : W9 + (maxL + 11) + (headSpec ws rm).room.locals ≤ R.locals := hlocals
  have happ : (headSpec ws rm).appliesLoose y e.platform (U.calling g mk a) = true :=
    Spec.appliesLoose_calling (g := g) h hdg hn hkY hinitY
      (X.room_calling (g := g) (R' := (headSpec ws rm).room) hsize hmY hcY hframes (by rw [hlY]; omega) h4 h5) h1
  obtain ⟨mid, hmid⟩ := h.above
  have hfr : (U.setTop g).frames = (.java g :: mid) ++ below := by rw [State.frames_setTop' g h.top, hmid]; rfl
  obtain ⟨o, s₂, hsteps, -, hend, hq⟩ := Steps.callFree hM p X.admits X.cas X.clock (acts := []) hfr happ hPc trivial
  have hq' : vx_Q Qc XC mc ms free a (U.calling g mk a) o s₂ := hq
  rw [State.frames_setTop' g h.top] at hend
  obtain ⟨g₀, hg0⟩ := Option.isSome_iff_exists.mp h.top
  obtain ⟨r, hr⟩ := State.topJava?_eq_some.mp hg0
  have hr' : (({ U with heap := s₂.heap, slotsUsed := s₂.slotsUsed } : State).setVm s₂.vm).frames = .java g₀ :: r := hr
  rcases hq' with ⟨hqc, L, hfe, hL⟩ | ⟨q, rfl, E, ce, L, hx, hce, hcv, hcl, hW₂, hsm, hL⟩
  · obtain ⟨⟨v, rfl⟩, hW₂, e2, q2, q3, q4, q5, q6⟩ := id hfe
    have e3 : s₂ = ({ (U.calling g mk a).setFrames s₂.frames with heap := s₂.heap, slotsUsed := s₂.slotsUsed } : State).setVm s₂.vm := by
      have : s₂ = ({ s₂ with vm := (U.calling g mk a).vm } : State).setVm s₂.vm := rfl
      rw [e2] at this
      exact this
    obtain ⟨c₂, i₂, len₂, hc₂, hd₂, hf₂⟩ := hend
    have hW' : U.WarmedH s₂.vm := hW₂
    have hcc : c₂ = c := by
      have h1 : s₂.code? g.method = U.code? g.method := by
        rw [State.code?_eq, State.code?_eq, hW'.alike.method?]
      exact Option.some.inj (hc₂.symm.trans (h1.trans h.code))
    subst hcc
    have hlen : len₂ = len := by rw [hdg] at hd₂; cases hd₂; rfl
    subst hlen
    have hs₂ : s₂ = (({ U with heap := s₂.heap, slotsUsed := s₂.slotsUsed } : State).setVm s₂.vm).setTop { g with pc := g.pc + len₂, stack := v.toList ++ g.stack } := by
      refine e3.trans ?_
      rw [hf₂, State.calling_eq h.top, State.setFrames_setFrames, State.setTop_of_frames _ hr', hr]
      rfl
    have hsame : U.sameButNew ({ U with heap := s₂.heap, slotsUsed := s₂.slotsUsed } : State) L mc ms := by
      refine ⟨?_, q2, q3, q4, q5, q6⟩
      obtain ⟨t, ht, -⟩ := State.frames_cons hr
      show ({ U with heap := s₂.heap, slotsUsed := s₂.slotsUsed } : State) = { U.setFrames U.frames with heap := s₂.heap, slotsUsed := s₂.slotsUsed }
      rw [State.setFrames_self ht]
    subst hg
    refine Or.inl ⟨v, ⟨(({ U with heap := s₂.heap, slotsUsed := s₂.slotsUsed } : State).setVm s₂.vm), Ls ++ L, c0 + mc, s0 + ms⟩,
      ⟨X.admits, X.cas, X.clock, X.frames, X.room, X.hears, X.method, X.code, (X.here.setHeapUsed s₂.heap s₂.slotsUsed).setVm hW'.alike, X.tail, State.WarmedH.trans X.warmed hW', X.limits, X.bytes, X.same.trans (hsame.setVm s.vm)⟩,
      ⟨g, mk, s₂, L, rfl, rfl, hqc, rfl, hL, rfl, rfl⟩, ?_⟩
    show Steps p.tables e below _ ((({ U with heap := s₂.heap, slotsUsed := s₂.slotsUsed } : State).setVm s₂.vm).setTop { g with pc := g.pc + len₂, stack := v.toList ++ g.stack })
    rw [← hs₂]
    exact hsteps
  · obtain ⟨e2, q2, q3, q4, q5, q6⟩ := id hsm
    have e3 : s₂ = ({ (U.calling g mk a).setFrames s₂.frames with heap := s₂.heap, slotsUsed := s₂.slotsUsed } : State).setVm s₂.vm := by
      have : s₂ = ({ s₂ with vm := (U.calling g mk a).vm } : State).setVm s₂.vm := rfl
      rw [e2] at this
      exact this
    have hf₂ : s₂.frames = .throwing q :: .java g :: U.frames.tail := hend
    have hW' : U.WarmedH s₂.vm := hW₂
    have hs₂ : s₂ = ((({ U with heap := s₂.heap, slotsUsed := s₂.slotsUsed } : State).setVm s₂.vm).setTop g).pushFrame (.throwing q) := by
      refine e3.trans ?_
      rw [hf₂, State.calling_eq h.top, State.setFrames_setFrames, State.pushFrame, State.frames_setTop _ hr', State.setTop_of_frames _ hr', State.setFrames_setFrames, hr]
      rfl
    have hsame : U.sameButNew ({ U with heap := s₂.heap, slotsUsed := s₂.slotsUsed } : State) L mc ms := by
      refine ⟨?_, q2, q3, q4, q5, q6⟩
      obtain ⟨t, ht, -⟩ := State.frames_cons hr
      show ({ U with heap := s₂.heap, slotsUsed := s₂.slotsUsed } : State) = { U.setFrames U.frames with heap := s₂.heap, slotsUsed := s₂.slotsUsed }
      rw [State.setFrames_self ht]
    subst hg
    refine Or.inr ⟨q, ⟨(({ U with heap := s₂.heap, slotsUsed := s₂.slotsUsed } : State).setVm s₂.vm), Ls ++ L, c0 + mc, s0 + ms⟩,
      ⟨X.admits, X.cas, X.clock, X.frames, X.room, X.hears, X.method, X.code, (X.here.setHeapUsed s₂.heap s₂.slotsUsed).setVm hW'.alike, X.tail, State.WarmedH.trans X.warmed hW', X.limits, X.bytes, X.same.trans (hsame.setVm s.vm)⟩,
      ⟨g, mk, s₂, L, E, ce, rfl, rfl, hx, hce, hcv, hcl, rfl, hL, rfl, rfl⟩, ?_⟩
    show Steps p.tables e below _ (((({ U with heap := s₂.heap, slotsUsed := s₂.slotsUsed } : State).setVm s₂.vm).setTop g).pushFrame (.throwing q))
    rw [← hs₂]
    exact hsteps
end
variable {p : Program} {l : Launch} {e : Env} {R : Room} {s : State} {m : MethodId} {args : Array Value} {below : List Frame} {meth : Method} {c : Code} {T : State} {H : Heap} {locs : List Loc} {cells slots : Nat}
theorem vx_callVX (X : Stand p l e R s m args below meth c T locs cells slots) (hexec : p.tables.exec = Jvm.exec) {own C : String} {index : Nat} {y : MethodName} {bytes : ByteArray} {maxL : Nat} {ret : Option FieldType} {hh : List (Nat × Nat × Nat × Nat)}
    (hown : s.vm.findClass own = some m.cls) (hlink : (Cond.methodLink own index y).before args s = true) (hinst : (Cond.instanceMethod y).before args s = true) (hsel : (Cond.selects C y y).before args s = true)
    (hcode : (Cond.codeWith y bytes maxL ret hh).before args s = true) (hy : y.cls ≠ "java/lang/invoke/MethodHandle" ∧ y.cls ≠ "java/lang/invoke/VarHandle")
    {W9 : Nat} {Pre : Pt → Array Value → Prop} {Post : Pt → Array Value → Option Value → Pt → Prop} {PostX : Pt → Array Value → Addr → Pt → Prop} (hK : vx_Back l R p e below s args y 3 W9 Pre Post PostX)
    {b : Addr} {cellB : Cell} (hcell : T.heap[b]? = some cellB) (hobj : cellB.vm.isStatics = false) (hcls : s.vm.findClass C = some cellB.cls)
    {g : JFrame} (hg : g.method = m) (hsize : g.locals.size = c.maxLocals) {argsL rest : List Value} (hlen : ∀ sig, parseMethodDescriptor y.desc = some sig → argsL.length = sig.parameters.length)
    (hstack : g.stack = argsL.reverse ++ .ref b :: rest) (hW : 2 * g.monitorRoom + (rest.map fun v => v.category).sum ≤ W9) (hdg : decode c.code g.pc = .ok (.invokevirtual index, 3))
    (hpre : ∀ vm₁, s.WarmedH vm₁ → Pre ⟨T.setVm vm₁, locs, cells, slots⟩ (Value.ref b :: argsL).toArray) :
    (∃ (v : Option Value) (vm₁ : Vm) (B : Pt), s.WarmedH vm₁ ∧ Stand p l e R s m args below meth c B.U B.locs B.cells B.slots ∧ Post ⟨T.setVm vm₁, locs, cells, slots⟩ (Value.ref b :: argsL).toArray v B ∧
      ∀ target, Steps p.tables e below (B.U.setTop { g with pc := g.pc + 3, stack := v.toList ++ rest }) target → Steps p.tables e below (T.setTop g) target) ∨
    (∃ (q : Addr) (vm₁ : Vm) (B : Pt), s.WarmedH vm₁ ∧ Stand p l e R s m args below meth c B.U B.locs B.cells B.slots ∧ PostX ⟨T.setVm vm₁, locs, cells, slots⟩ (Value.ref b :: argsL).toArray q B ∧
      Steps p.tables e below (T.setTop g) ((B.U.setTop { g with stack := rest }).pushFrame (.throwing q))) := by
  obtain ⟨mk, methM, hnamed, hmethM, hstM, habM⟩ := Cond.instanceMethod_spec hinst
  obtain ⟨m8, methM', cM, hn8, hmethM', -, -, -, -, -, -, hsigM⟩ := Cond.codeWith_spec hcode
  cases Option.some.inj (hn8.symm.trans hnamed)
  cases hmethM.symm.trans hmethM'
  obtain ⟨c2, r2, m2, q1, q2, q3, q4, kP, hkP, hkPi⟩ := Cond.selects_spec hsel
  cases hcls.symm.trans q1
  cases (State.methodFound?_of_named hnamed hy).symm.trans q2
  cases hnamed.symm.trans q3
  have hselP : selectMethod e.platform s.vm cellB.cls mk = .method mk := by rw [Launch.admits_selectMethod X.admits]; exact q4
  obtain ⟨vm₁, X₁, hstep₁⟩ := X.invokevirtual hexec hown hlink hnamed hmethM hstM hkP hkPi hy (a := b) (cell := cellB) hcell
    (fun z h => by rw [h] at hobj; cases hobj) hselP hmethM habM hkP hkPi (g := g) hg (argsL := argsL) (rest := rest) (hlen _ hsigM) hstack hdg
  rcases hK m meth c ⟨T.setVm vm₁, locs, cells, slots⟩ { g with stack := rest } (.invokevirtual index) mk (Value.ref b :: argsL).toArray X₁ hg hsize hdg hW (X₁.named hnamed) (hpre vm₁ X₁.warmed) with ⟨v, B, X', hpost, hsteps⟩ | ⟨q, B, X', hpost, hsteps⟩
  · exact Or.inl ⟨v, vm₁, B, X₁.warmed, X', hpost, fun target h => hstep₁ _ fun acts => by rw [doInvoke_state]; exact hsteps.trans h⟩
  · exact Or.inr ⟨q, vm₁, B, X₁.warmed, X', hpost, hstep₁ _ fun acts => by rw [doInvoke_state]; exact hsteps⟩
theorem vx_callSX (X : Stand p l e R s m args below meth c T locs cells slots) (hexec : p.tables.exec = Jvm.exec) {own : String} {index : Nat} {y : MethodName} {bytes : ByteArray} {maxL : Nat} {ret : Option FieldType} {hh : List (Nat × Nat × Nat × Nat)}
    (hown : s.vm.findClass own = some m.cls) (hlink : (Cond.methodLink own index y).before args s = true) (hstat : (Cond.static y).before args s = true) (hinit : (Cond.initialized y.cls).before args s = true)
    (hcode : (Cond.codeWith y bytes maxL ret hh).before args s = true) (hy : y.cls ≠ "java/lang/invoke/MethodHandle" ∧ y.cls ≠ "java/lang/invoke/VarHandle")
    {W9 : Nat} {Pre : Pt → Array Value → Prop} {Post : Pt → Array Value → Option Value → Pt → Prop} {PostX : Pt → Array Value → Addr → Pt → Prop} (hK : vx_Back l R p e below s args y 3 W9 Pre Post PostX)
    {g : JFrame} (hg : g.method = m) (hsize : g.locals.size = c.maxLocals) {argsL rest : List Value} (hlen : ∀ sig, parseMethodDescriptor y.desc = some sig → argsL.length = sig.parameters.length)
    (hstack : g.stack = argsL.reverse ++ rest) (hW : 2 * g.monitorRoom + (rest.map fun v => v.category).sum ≤ W9) (hdg : decode c.code g.pc = .ok (.invokestatic index, 3))
    (hpre : ∀ vm₁, s.WarmedH vm₁ → Pre ⟨T.setVm vm₁, locs, cells, slots⟩ argsL.toArray) :
    (∃ (v : Option Value) (vm₁ : Vm) (B : Pt), s.WarmedH vm₁ ∧ Stand p l e R s m args below meth c B.U B.locs B.cells B.slots ∧ Post ⟨T.setVm vm₁, locs, cells, slots⟩ argsL.toArray v B ∧
      ∀ target, Steps p.tables e below (B.U.setTop { g with pc := g.pc + 3, stack := v.toList ++ rest }) target → Steps p.tables e below (T.setTop g) target) ∨
    (∃ (q : Addr) (vm₁ : Vm) (B : Pt), s.WarmedH vm₁ ∧ Stand p l e R s m args below meth c B.U B.locs B.cells B.slots ∧ PostX ⟨T.setVm vm₁, locs, cells, slots⟩ argsL.toArray q B ∧
      Steps p.tables e below (T.setTop g) ((B.U.setTop { g with stack := rest }).pushFrame (.throwing q))) := by
  obtain ⟨mk, methM, cM, hnamed, hmethM, -, -, -, -, -, -, hsigM⟩ := Cond.codeWith_spec hcode
  have hstatic : methM.isStatic = true := Cond.static_spec hnamed hmethM hstat
  obtain ⟨kP, hkP, -⟩ := className_of_methodNamed hnamed
  have hinitP : kP.init = .initialized := Cond.initialized_spec (findClass_of_methodNamed hnamed) hkP hinit
  obtain ⟨vm₁, X₁, hstep₁⟩ := X.invokestatic hexec hown hlink hnamed hmethM hstatic hkP hinitP hy (g := g) hg (argsL := argsL) (rest := rest) (hlen _ hsigM) hstack hdg
  rcases hK m meth c ⟨T.setVm vm₁, locs, cells, slots⟩ { g with stack := rest } (.invokestatic index) mk argsL.toArray X₁ hg hsize hdg hW (X₁.named hnamed) (hpre vm₁ X₁.warmed) with ⟨v, B, X', hpost, hsteps⟩ | ⟨q, B, X', hpost, hsteps⟩
  · exact Or.inl ⟨v, vm₁, B, X₁.warmed, X', hpost, fun target h => hstep₁ _ fun acts => by rw [doInvoke_state]; exact hsteps.trans h⟩
  · exact Or.inr ⟨q, vm₁, B, X₁.warmed, X', hpost, hstep₁ _ fun acts => by rw [doInvoke_state]; exact hsteps⟩
theorem vx_callVW (X : Stand p l e R s m args below meth c T locs cells slots) (hexec : p.tables.exec = Jvm.exec) {own C : String} {index : Nat} {y : MethodName} {bytes : ByteArray} {maxL : Nat} {ret : Option FieldType} {hh : List (Nat × Nat × Nat × Nat)}
    (hown : s.vm.findClass own = some m.cls) (hlink : (Cond.methodLink own index y).before args s = true) (hinst : (Cond.instanceMethod y).before args s = true) (hsel : (Cond.selects C y y).before args s = true)
    (hcode : (Cond.codeWith y bytes maxL ret hh).before args s = true) (hy : y.cls ≠ "java/lang/invoke/MethodHandle" ∧ y.cls ≠ "java/lang/invoke/VarHandle")
    {W9 : Nat} {Pre : Pt → Array Value → Prop} {Post : Pt → Array Value → Option Value → Pt → Prop} (hK : Back l R p e below s args y 3 W9 Pre Post)
    {b : Addr} {cellB : Cell} (hcell : T.heap[b]? = some cellB) (hobj : cellB.vm.isStatics = false) (hcls : s.vm.findClass C = some cellB.cls)
    {g : JFrame} (hg : g.method = m) (hsize : g.locals.size = c.maxLocals) {argsL rest : List Value} (hlen : ∀ sig, parseMethodDescriptor y.desc = some sig → argsL.length = sig.parameters.length)
    (hstack : g.stack = argsL.reverse ++ .ref b :: rest) (hW : 2 * g.monitorRoom + (rest.map fun v => v.category).sum ≤ W9) (hdg : decode c.code g.pc = .ok (.invokevirtual index, 3))
    (hpre : ∀ vm₁, s.WarmedH vm₁ → Pre ⟨T.setVm vm₁, locs, cells, slots⟩ (Value.ref b :: argsL).toArray) :
    ∃ (v : Option Value) (vm₁ : Vm) (B : Pt), s.WarmedH vm₁ ∧ Stand p l e R s m args below meth c B.U B.locs B.cells B.slots ∧ Post ⟨T.setVm vm₁, locs, cells, slots⟩ (Value.ref b :: argsL).toArray v B ∧
      ∀ target, Steps p.tables e below (B.U.setTop { g with pc := g.pc + 3, stack := v.toList ++ rest }) target → Steps p.tables e below (T.setTop g) target := by
  obtain ⟨mk, methM, hnamed, hmethM, hstM, habM⟩ := Cond.instanceMethod_spec hinst
  obtain ⟨m8, methM', cM, hn8, hmethM', -, -, -, -, -, -, hsigM⟩ := Cond.codeWith_spec hcode
  cases Option.some.inj (hn8.symm.trans hnamed)
  cases hmethM.symm.trans hmethM'
  obtain ⟨c2, r2, m2, q1, q2, q3, q4, kP, hkP, hkPi⟩ := Cond.selects_spec hsel
  cases hcls.symm.trans q1
  cases (State.methodFound?_of_named hnamed hy).symm.trans q2
  cases hnamed.symm.trans q3
  have hselP : selectMethod e.platform s.vm cellB.cls mk = .method mk := by rw [Launch.admits_selectMethod X.admits]; exact q4
  obtain ⟨vm₁, X₁, hstep₁⟩ := X.invokevirtual hexec hown hlink hnamed hmethM hstM hkP hkPi hy (a := b) (cell := cellB) hcell
    (fun z h => by rw [h] at hobj; cases hobj) hselP hmethM habM hkP hkPi (g := g) hg (argsL := argsL) (rest := rest) (hlen _ hsigM) hstack hdg
  obtain ⟨v, B, X', hpost, hsteps⟩ := hK m meth c ⟨T.setVm vm₁, locs, cells, slots⟩ { g with stack := rest } (.invokevirtual index) mk (Value.ref b :: argsL).toArray X₁ hg hsize hdg hW (X₁.named hnamed) (hpre vm₁ X₁.warmed)
  exact ⟨v, vm₁, B, X₁.warmed, X', hpost, fun target h => hstep₁ _ fun acts => by rw [doInvoke_state]; exact hsteps.trans h⟩
abbrev vx_CVW (R : Room) (s : State) (args : Array Value) (own C : String) (index : Nat) (y : MethodName) (bytes : ByteArray) (maxL : Nat) (ret : Option FieldType) (hh : List (Nat × Nat × Nat × Nat)) (ws : List Cond) (rm : Room) (mc ms n : Nat) : Prop :=
  (rm.cells = mc ∧ rm.slots = ms ∧ rm.frames + 1 ≤ R.frames ∧ 8 + (maxL + 11) + rm.locals ≤ R.locals ∧ (∀ w ∈ ws, ∀ (a' : Array Value) (U : State), s.WarmedH U.vm → w.before a' U = true) ∧ Cond.codeWith y bytes maxL ret hh ∈ ws) ∧
  (Cond.codeWith y bytes maxL ret hh).before args s = true ∧ (Cond.initialized y.cls).before args s = true ∧ (y.cls ≠ "java/lang/invoke/MethodHandle" ∧ y.cls ≠ "java/lang/invoke/VarHandle") ∧
  (∀ sig, parseMethodDescriptor y.desc = some sig → n = sig.parameters.length) ∧ (Cond.methodLink own index y).before args s = true ∧ (Cond.instanceMethod y).before args s = true ∧ (Cond.selects C y y).before args s = true
theorem vx_cwVW {own C : String} {index maxL mc ms : Nat} {y : MethodName} {bytes : ByteArray} {ret : Option FieldType} {hh : List (Nat × Nat × Nat × Nat)} {Ts ws ws' : List Cond} {rm : Room} (n : Nat) (ht : ∀ w ∈ Ts, w.before args s = true) (hT : GoodIn Ts (wsV own index C y ws)) (hw : ws = Cond.codeWith y bytes maxL ret hh :: ws') (hrc : rm.cells = mc) (hrs : rm.slots = ms)
    (hd : y.cls = C ∧ y.cls ≠ "java/lang/invoke/MethodHandle" ∧ y.cls ≠ "java/lang/invoke/VarHandle" ∧ (parseMethodDescriptor y.desc).map (fun d => d.parameters.length) = some n) (hR : rm.frames + 1 ≤ R.frames ∧ 8 + (maxL + 11) + rm.locals ≤ R.locals) :
    vx_CVW R s args own C index y bytes maxL ret hh ws rm mc ms n := by
  obtain ⟨hC, hd⟩ := hd
  subst hC
  have ok : ∀ w ∈ wsV own index y.cls y ws, w.before args s = true := fun w h => ht w (hT w h).1
  have hG : GoodIn Ts ws := fun w h => hT w (by unfold wsV; exact List.mem_append_right _ h)
  have hc : Cond.codeWith y bytes maxL ret hh ∈ ws := by rw [hw]; exact List.mem_cons_self
  refine ⟨⟨hrc, hrs, hR.1, hR.2, pay_in ht hG, hc⟩, ht _ (hG _ hc).1, ok _ (by simp [wsV]), ⟨hd.1, hd.2.1⟩, fun sig h => ?_, ok _ (by simp [wsV]), ok _ (by simp [wsV]), ok _ (by simp [wsV])⟩
  have h2 := hd.2.2
  rw [h] at h2
  exact (Option.some.inj h2).symm
theorem vx_runVW {y : MethodName} {bytes cc : ByteArray} {maxL nL mc ms n index : Nat} {ret : Option FieldType} {hh : List (Nat × Nat × Nat × Nat)} {ws : List Cond} {rm : Room} {Pc : Array Value → State → Prop} {Qc : Array Value → State → Outcome → State → Prop} {free : Addr → Prop} {Ts : List Cond} {own C : String} {b : Addr} {As rest : List Value} {g : JFrame}
    (S : CallFix p m c cc nL s args Ts own) (hM : Met l y ws rm Pc Qc mc ms free) (cw : vx_CVW R s args own C index y bytes maxL ret hh ws rm mc ms n) (hp : PreV s H C b Pc As)
    (hg : g.method = m) (hn : As.length = n) (hsize : g.locals.size = nL) (hstack : g.stack = As.reverse ++ .ref b :: rest) (hW : 2 * g.monitorRoom + (rest.map fun v => v.category).sum ≤ 8) (hdg : decode cc g.pc = .ok (.invokevirtual index, 3)) (hf : cells + mc ≤ R.cells ∧ slots + ms ≤ R.slots) :
    va_Run p l e R s m args below meth c H locs cells slots mc ms g rest (Qc (Value.ref b :: As).toArray) free := by
  obtain ⟨⟨hrc, hrs, hfr, hlo, hws, hcw⟩, hcode, hini, hy, hlen, hl, hin, hse⟩ := cw
  have hK : Back l R p e below s args y 3 8 (PreOf R mc ms Pc) (PostOf Qc mc ms free) := va_backW (hh := hh) (bytes := bytes) (maxL := maxL) (ret := ret) hM hp.1 hrc hrs hfr hlo hws hcw (fun a' U hW => word_at hW (Or.inl (by first | rfl | simp [Cond.onTables, Cond.keeps, Cond.steady])) hini)
  obtain ⟨hx, hb, hml, ho, -⟩ := S
  obtain ⟨-, ⟨cellB, hcB, hoB, hclB⟩, hPc⟩ := hp
  intro T hT X
  obtain ⟨v, vm₁, ⟨U', l2, c2, s2⟩, hW₁, X', ⟨g', mk, t, L, e1, e2, hq, h1, hL, h2, h3⟩, st⟩ := vx_callVW X hx (C := C) (hh := hh) (bytes := bytes) (maxL := maxL) (ret := ret) ho hl hin hse hcode hy hK (by rw [hT]; exact hcB) hoB hclB hg (hsize.trans hml.symm) (argsL := As) (rest := rest) (fun sig h => hn.trans (hlen sig h)) hstack hW (by rw [hb]; exact hdg)
    (fun vm₁ hW₁ => ⟨hf.1, hf.2, hPc (T.setVm vm₁) hT hW₁⟩)
  dsimp only [Pt.U, Pt.locs, Pt.cells, Pt.slots] at X' e1 e2 h1 h2 h3 st
  subst h1; subst h2; subst h3
  exact ⟨v, (T.setVm vm₁).calling g' mk (Value.ref b :: As).toArray, t, U', L, hT, X', hL, e1, e2, hq, st⟩
section
variable {y : MethodName} {bytes cc : ByteArray} {maxL nL mc ms n index : Nat} {ret : Option FieldType} {ws : List Cond} {rm : Room} {Pc : Array Value → State → Prop} {Qc : Array Value → State → Outcome → State → Prop} {XC : String → State → State → Prop} {free : Addr → Prop} {Ts : List Cond} {own C : String} {b : Addr} {As rest : List Value} {g : JFrame}
theorem vx_runVX {hh : List (Nat × Nat × Nat × Nat)} (S : CallFix p m c cc nL s args Ts own) (hM : vx_Met l y ws rm Pc Qc XC mc ms free) (cw : vx_CVW R s args own C index y bytes maxL ret hh ws rm mc ms n) (hp : PreV s H C b Pc As)
    (hg : g.method = m) (hn : As.length = n) (hsize : g.locals.size = nL) (hstack : g.stack = As.reverse ++ .ref b :: rest) (hW : 2 * g.monitorRoom + (rest.map fun v => v.category).sum ≤ 8) (hdg : decode cc g.pc = .ok (.invokevirtual index, 3)) (hf : cells + mc ≤ R.cells ∧ slots + ms ≤ R.slots) :
    vx_Run p l e R s m args below meth c H locs cells slots mc ms g rest (Qc (Value.ref b :: As).toArray) XC free := by
  obtain ⟨⟨hrc, hrs, hfr, hlo, hws, hcw⟩, hcode, hini, hy, hlen, hl, hin, hse⟩ := cw
  have hK : vx_Back l R p e below s args y 3 8 (PreOf R mc ms Pc) (PostOf Qc mc ms free) (vx_Post XC mc ms free) := vx_backW (hh := hh) (bytes := bytes) (maxL := maxL) (ret := ret) hM hp.1 hrc hrs hfr hlo hws hcw (fun a' U hW => word_at hW (Or.inl (by first | rfl | simp [Cond.onTables, Cond.keeps, Cond.steady])) hini)
  obtain ⟨hx, hb, hml, ho, -⟩ := S
  obtain ⟨-, ⟨cellB, hcB, hoB, hclB⟩, hPc⟩ := hp
  intro T hT X
  rcases vx_callVX X hx (C := C) (hh := hh) (bytes := bytes) (maxL := maxL) (ret := ret) ho hl hin hse hcode hy hK (by rw [hT]; exact hcB) hoB hclB hg (hsize.trans hml.symm) (argsL := As) (rest := rest) (fun sig h => hn.trans (hlen sig h)) hstack hW (by rw [hb]; exact hdg)
    (fun vm₁ hW₁ => ⟨hf.1, hf.2, hPc (T.setVm vm₁) hT hW₁⟩) with ⟨v, vm₁, ⟨U', l2, c2, s2⟩, hW₁, X', ⟨g', mk, t, L, e1, e2, hq, h1, hL, h2, h3⟩, st⟩ | ⟨q, vm₁, ⟨U', l2, c2, s2⟩, hW₁, X', ⟨g', mk, t, L, E, ce, e1, e2, hq, hce, hcv, hcl, h1, hL, h2, h3⟩, st⟩
  · dsimp only [Pt.U, Pt.locs, Pt.cells, Pt.slots] at X' e1 e2 h1 h2 h3 st
    subst h1; subst h2; subst h3
    exact Or.inl ⟨v, (T.setVm vm₁).calling g' mk (Value.ref b :: As).toArray, t, U', L, hT, X', hL, e1, e2, hq, st⟩
  · dsimp only [Pt.U, Pt.locs, Pt.cells, Pt.slots] at X' e1 e2 h1 h2 h3 st hcl
    subst h1; subst h2; subst h3
    exact Or.inr ⟨q, (T.setVm vm₁).calling g' mk (Value.ref b :: As).toArray, t, U', L, E, ce, hT, X', hL, e1, e2, hq, hce, hcv, vx_cls hW₁ hcl, st⟩
theorem vx_runSX {hh : List (Nat × Nat × Nat × Nat)} (S : CallFix p m c cc nL s args Ts own) (hM : vx_Met l y ws rm Pc Qc XC mc ms free) (cw : vx_CSW R s args own index y bytes maxL ret hh ws rm mc ms n) (hp : PreS s H Pc As)
    (hg : g.method = m) (hn : As.length = n) (hsize : g.locals.size = nL) (hstack : g.stack = As.reverse ++ rest) (hW : 2 * g.monitorRoom + (rest.map fun v => v.category).sum ≤ 8) (hdg : decode cc g.pc = .ok (.invokestatic index, 3)) (hf : cells + mc ≤ R.cells ∧ slots + ms ≤ R.slots) :
    vx_Run p l e R s m args below meth c H locs cells slots mc ms g rest (Qc As.toArray) XC free := by
  obtain ⟨⟨hrc, hrs, hfr, hlo, hws, hcw⟩, hcode, hini, hy, hlen, hl, hstt⟩ := cw
  have hK : vx_Back l R p e below s args y 3 8 (PreOf R mc ms Pc) (PostOf Qc mc ms free) (vx_Post XC mc ms free) := vx_backW (hh := hh) (bytes := bytes) (maxL := maxL) (ret := ret) hM hp.1 hrc hrs hfr hlo hws hcw (fun a' U hW => word_at hW (Or.inl (by first | rfl | simp [Cond.onTables, Cond.keeps, Cond.steady])) hini)
  obtain ⟨hx, hb, hml, ho, -⟩ := S
  intro T hT X
  rcases vx_callSX X hx (hh := hh) (bytes := bytes) (maxL := maxL) (ret := ret) ho hl hstt hini hcode hy hK hg (hsize.trans hml.symm) (argsL := As) (rest := rest) (fun sig h => hn.trans (hlen sig h)) hstack hW (by rw [hb]; exact hdg)
    (fun vm₁ hW₁ => ⟨hf.1, hf.2, hp.2 (T.setVm vm₁) hT hW₁⟩) with ⟨v, vm₁, ⟨U', l2, c2, s2⟩, hW₁, X', ⟨g', mk, t, L, e1, e2, hq, h1, hL, h2, h3⟩, st⟩ | ⟨q, vm₁, ⟨U', l2, c2, s2⟩, hW₁, X', ⟨g', mk, t, L, E, ce, e1, e2, hq, hce, hcv, hcl, h1, hL, h2, h3⟩, st⟩
  · dsimp only [Pt.U, Pt.locs, Pt.cells, Pt.slots] at X' e1 e2 h1 h2 h3 st
    subst h1; subst h2; subst h3
    exact Or.inl ⟨v, (T.setVm vm₁).calling g' mk As.toArray, t, U', L, hT, X', hL, e1, e2, hq, st⟩
  · dsimp only [Pt.U, Pt.locs, Pt.cells, Pt.slots] at X' e1 e2 h1 h2 h3 st hcl
    subst h1; subst h2; subst h3
    exact Or.inr ⟨q, (T.setVm vm₁).calling g' mk As.toArray, t, U', L, E, ce, hT, X', hL, e1, e2, hq, hce, hcv, vx_cls hW₁ hcl, st⟩
end
end VXH
theorem vx_ofWH {l : Launch} {y : MethodName} {ws ws' : List Cond} {rm : Room} {Pc : Array Value → State → Prop} {Qc : Array Value → State → Outcome → State → Prop} {XC : String → State → State → Prop} {mc ms : Nat} {free : Addr → Prop} {cc : ByteArray} {maxL : Nat} {ret : Option FieldType} {hh : List (Nat × Nat × Nat × Nat)}
    (hy : plainName y.cls = true) (hw : ws = Cond.codeWith y cc maxL ret hh :: ws')
    (body : ∀ p e s m args below meth c s₁, BodyLoose p l y (headSpec ws rm) cc maxL ret e s m args below meth c s₁ → c.maxLocals = maxL → Pc args s →
      W p l e (headSpec ws rm).room s m args below meth c s.heap [] 0 0 (vx_MQ below Qc XC args s mc ms free) (entryFrame m args maxL)) : vx_Met l y ws rm Pc Qc XC mc ms free := by
  refine MetFree.of_bodyS (code := cc) (maxLocals := maxL) (ret := ret) hy ?_ ?_
  · intro args s m h hn
    obtain ⟨m9, meth, c, hn9, h1, h2, h3, h4, -, h5, h6, -⟩ := Cond.codeWith_spec (atoms_spec (ws := ws) h _ (by rw [hw]; exact List.mem_cons_self))
    cases hn.symm.trans hn9
    exact ⟨meth, c, h1, h2, h3, h4, h5, h6⟩
  · intro p e s m args below meth c s₁ B hml hP _
    have hh0 : s₁.heap = s.heap := by rw [B.state]; rfl
    obtain ⟨t, a1, o, b1, b2, b3⟩ := body p e s m args below meth c s₁ B hml hP s₁ hh0 (Stand.of_body B)
    exact ⟨t, o, a1, b1, b2, b3⟩
/-! ===== END ===== -/

def RX0 : String := "PromiseShelves$Promise"
def TX0 : u_T := fun k => match k with
  | 0 => ("PromiseShelves$Promise", "stage", "LPromiseShelves$Stage;", false)
  | 1 => ("PromiseShelves$Promise", "shelf", "LPromiseShelves$Shelf;", false)
  | 2 => ("PromiseShelves$Promise", "maker", "I", false)
  | 3 => ("PromiseShelves$Promise", "life", "I", false)
  | 4 => ("PromiseShelves$Promise", "age", "I", false)
  | _ => ("PromiseShelves$Promise", "heat", "I", false)
def tyX0 : Nat → FieldType := fun k => match k with
  | 0 => .object "PromiseShelves$Stage"
  | 1 => .object "PromiseShelves$Shelf"
  | 2 => .int
  | 3 => .int
  | 4 => .int
  | _ => .int
abbrev wsX00 : List Cond := u_ws RX0 TX0 6
theorem nmX0 : ∀ a, a < 6 → ∀ b, b < 6 → a ≠ b → (TX0 a).2.1 ≠ (TX0 b).2.1 := by decide +kernel
theorem tyX0_ok : ∀ k, k < 6 → parseFieldDescriptor (TX0 k).2.2.1 = some (tyX0 k) := by decide +kernel
abbrev cX0_init : ByteArray := prog_2_method_1_code
def yX0_init : MethodName := ⟨RX0, "<init>", "()V"⟩
abbrev cX0_layAnew : ByteArray := prog_2_method_2_code
def yX0_layAnew : MethodName := ⟨RX0, "layAnew", "(IILPromiseShelves$Shelf;)V"⟩
abbrev cX0_becomeLike : ByteArray := prog_2_method_3_code
def yX0_becomeLike : MethodName := ⟨RX0, "becomeLike", "(LPromiseShelves$Promise;LPromiseShelves$Shelf;)V"⟩
abbrev cX0_leaveAs : ByteArray := prog_2_method_4_code
def yX0_leaveAs : MethodName := ⟨RX0, "leaveAs", "(LPromiseShelves$Stage;)V"⟩
abbrev cX0_liveAnHour : ByteArray := prog_2_method_5_code
def yX0_liveAnHour : MethodName := ⟨RX0, "liveAnHour", "()Z"⟩
abbrev cX0_drawNearTo : ByteArray := prog_2_method_6_code
def yX0_drawNearTo : MethodName := ⟨RX0, "drawNearTo", "(I)V"⟩
def RX1 : String := "PromiseShelves$Shelf"
def TX1 : u_T := fun k => match k with
  | 0 => ("PromiseShelves$Shelf", "number", "I", true)
  | 1 => ("PromiseShelves$Shelf", "setting", "I", false)
  | _ => ("PromiseShelves$Shelf", "heat", "I", false)
def tyX1 : Nat → FieldType := fun k => match k with
  | 0 => .int
  | 1 => .int
  | _ => .int
abbrev wsX10 : List Cond := u_ws RX1 TX1 3
theorem nmX1 : ∀ a, a < 3 → ∀ b, b < 3 → a ≠ b → (TX1 a).2.1 ≠ (TX1 b).2.1 := by decide +kernel
theorem tyX1_ok : ∀ k, k < 3 → parseFieldDescriptor (TX1 k).2.2.1 = some (tyX1 k) := by decide +kernel
abbrev cX1_init : ByteArray := prog_3_method_1_code
def yX1_init : MethodName := ⟨RX1, "<init>", "(I)V"⟩
abbrev cX1_openDoor : ByteArray := prog_3_method_2_code
def yX1_openDoor : MethodName := ⟨RX1, "openDoor", "()V"⟩
abbrev cX1_liveAnHour : ByteArray := prog_3_method_3_code
def yX1_liveAnHour : MethodName := ⟨RX1, "liveAnHour", "(Z)V"⟩
abbrev cX1_becomeLike : ByteArray := prog_3_method_4_code
def yX1_becomeLike : MethodName := ⟨RX1, "becomeLike", "(LPromiseShelves$Shelf;)V"⟩
def RX2 : String := "PromiseShelves$Stage"
def TX2 : u_T := fun k => match k with
  | _ => ("", "", "", false)
def tyX2 : Nat → FieldType := fun k => match k with
  | _ => .int
abbrev wsX20 : List Cond := u_ws RX2 TX2 0
theorem nmX2 : ∀ a, a < 0 → ∀ b, b < 0 → a ≠ b → (TX2 a).2.1 ≠ (TX2 b).2.1 := by decide +kernel
theorem tyX2_ok : ∀ k, k < 0 → parseFieldDescriptor (TX2 k).2.2.1 = some (tyX2 k) := by decide +kernel
def RX3 : String := "PromiseShelves"
def TX3 : u_T := fun k => match k with
  | 0 => ("PromiseShelves", "shelves", "[LPromiseShelves$Shelf;", true)
  | 1 => ("PromiseShelves", "promises", "[LPromiseShelves$Promise;", true)
  | 2 => ("PromiseShelves", "made", "I", false)
  | 3 => ("PromiseShelves", "alarmsRung", "I", false)
  | 4 => ("PromiseShelves", "hoursGone", "I", false)
  | 5 => ("PromiseShelves", "power", "Z", false)
  | 6 => ("PromiseShelves", "trialShelf", "LPromiseShelves$Shelf;", true)
  | _ => ("PromiseShelves", "trialPromise", "LPromiseShelves$Promise;", true)
def tyX3 : Nat → FieldType := fun k => match k with
  | 0 => .array (.object "PromiseShelves$Shelf")
  | 1 => .array (.object "PromiseShelves$Promise")
  | 2 => .int
  | 3 => .int
  | 4 => .int
  | 5 => .boolean
  | 6 => .object "PromiseShelves$Shelf"
  | _ => .object "PromiseShelves$Promise"
abbrev wsX30 : List Cond := u_ws RX3 TX3 8
theorem nmX3 : ∀ a, a < 8 → ∀ b, b < 8 → a ≠ b → (TX3 a).2.1 ≠ (TX3 b).2.1 := by decide +kernel
theorem tyX3_ok : ∀ k, k < 8 → parseFieldDescriptor (TX3 k).2.2.1 = some (tyX3 k) := by decide +kernel
abbrev cX3_init : ByteArray := prog_1_method_1_code
def yX3_init : MethodName := ⟨RX3, "<init>", "()V"⟩
abbrev cX3_make : ByteArray := prog_1_method_2_code
def yX3_make : MethodName := ⟨RX3, "make", "(III)I"⟩
abbrev cX3_move : ByteArray := prog_1_method_3_code
def yX3_move : MethodName := ⟨RX3, "move", "(II)I"⟩
abbrev cX3_keep : ByteArray := prog_1_method_4_code
def yX3_keep : MethodName := ⟨RX3, "keep", "(I)I"⟩
abbrev cX3_set : ByteArray := prog_1_method_5_code
def yX3_set : MethodName := ⟨RX3, "set", "(II)I"⟩
abbrev cX3_switchPower : ByteArray := prog_1_method_6_code
def yX3_switchPower : MethodName := ⟨RX3, "switchPower", "()Z"⟩
abbrev cX3_pass : ByteArray := prog_1_method_7_code
def yX3_pass : MethodName := ⟨RX3, "pass", "(I)I"⟩
abbrev cX3_hour : ByteArray := prog_1_method_8_code
def yX3_hour : MethodName := ⟨RX3, "hour", "()I"⟩
abbrev cX3_hasPower : ByteArray := prog_1_method_9_code
def yX3_hasPower : MethodName := ⟨RX3, "hasPower", "()Z"⟩
abbrev cX3_settingOf : ByteArray := prog_1_method_10_code
def yX3_settingOf : MethodName := ⟨RX3, "settingOf", "(I)I"⟩
abbrev cX3_heatOn : ByteArray := prog_1_method_11_code
def yX3_heatOn : MethodName := ⟨RX3, "heatOn", "(I)I"⟩
abbrev cX3_promisesOn : ByteArray := prog_1_method_12_code
def yX3_promisesOn : MethodName := ⟨RX3, "promisesOn", "(I)I"⟩
abbrev cX3_coldest : ByteArray := prog_1_method_13_code
def yX3_coldest : MethodName := ⟨RX3, "coldest", "()I"⟩
abbrev cX3_alarms : ByteArray := prog_1_method_14_code
def yX3_alarms : MethodName := ⟨RX3, "alarms", "()I"⟩
abbrev cX3_promises : ByteArray := prog_1_method_15_code
def yX3_promises : MethodName := ⟨RX3, "promises", "()I"⟩
abbrev cX3_makerOf : ByteArray := prog_1_method_16_code
def yX3_makerOf : MethodName := ⟨RX3, "makerOf", "(I)I"⟩
abbrev cX3_shelfOf : ByteArray := prog_1_method_17_code
def yX3_shelfOf : MethodName := ⟨RX3, "shelfOf", "(I)I"⟩
abbrev cX3_heatOf : ByteArray := prog_1_method_18_code
def yX3_heatOf : MethodName := ⟨RX3, "heatOf", "(I)I"⟩
abbrev cX3_ageOf : ByteArray := prog_1_method_19_code
def yX3_ageOf : MethodName := ⟨RX3, "ageOf", "(I)I"⟩
abbrev cX3_hoursLeft : ByteArray := prog_1_method_20_code
def yX3_hoursLeft : MethodName := ⟨RX3, "hoursLeft", "(I)I"⟩
abbrev cX3_isFrozen : ByteArray := prog_1_method_21_code
def yX3_isFrozen : MethodName := ⟨RX3, "isFrozen", "(I)Z"⟩
abbrev cX3_isThawed : ByteArray := prog_1_method_22_code
def yX3_isThawed : MethodName := ⟨RX3, "isThawed", "(I)Z"⟩
abbrev cX3_isKept : ByteArray := prog_1_method_23_code
def yX3_isKept : MethodName := ⟨RX3, "isKept", "(I)Z"⟩
abbrev cX3_isExpired : ByteArray := prog_1_method_24_code
def yX3_isExpired : MethodName := ⟨RX3, "isExpired", "(I)Z"⟩
abbrev cX3_owedBy : ByteArray := prog_1_method_25_code
def yX3_owedBy : MethodName := ⟨RX3, "owedBy", "(I)I"⟩
abbrev cX3_honourOf : ByteArray := prog_1_method_26_code
def yX3_honourOf : MethodName := ⟨RX3, "honourOf", "(I)I"⟩
abbrev cX3_mostHonourable : ByteArray := prog_1_method_27_code
def yX3_mostHonourable : MethodName := ⟨RX3, "mostHonourable", "()I"⟩
abbrev cX3_hoursUntilFrozen : ByteArray := prog_1_method_28_code
def yX3_hoursUntilFrozen : MethodName := ⟨RX3, "hoursUntilFrozen", "(I)I"⟩
abbrev cX3_hoursUntilThawed : ByteArray := prog_1_method_29_code
def yX3_hoursUntilThawed : MethodName := ⟨RX3, "hoursUntilThawed", "(I)I"⟩
abbrev cX3_hoursUntilExpired : ByteArray := prog_1_method_30_code
def yX3_hoursUntilExpired : MethodName := ⟨RX3, "hoursUntilExpired", "(I)I"⟩
abbrev cX3_leftIn : ByteArray := prog_1_method_31_code
def yX3_leftIn : MethodName := ⟨RX3, "leftIn", "(I)I"⟩
abbrev cX3_bestShelf : ByteArray := prog_1_method_32_code
def yX3_bestShelf : MethodName := ⟨RX3, "bestShelf", "()I"⟩
abbrev cX3_hoursOfCold : ByteArray := prog_1_method_33_code
def yX3_hoursOfCold : MethodName := ⟨RX3, "hoursOfCold", "()I"⟩
abbrev cX3_meanHeat : ByteArray := prog_1_method_34_code
def yX3_meanHeat : MethodName := ⟨RX3, "meanHeat", "()D"⟩
abbrev cX3_digest : ByteArray := prog_1_method_35_code
def yX3_digest : MethodName := ⟨RX3, "digest", "()J"⟩
abbrev cX3_checkMaker : ByteArray := prog_1_method_36_code
def yX3_checkMaker : MethodName := ⟨RX3, "checkMaker", "(I)V"⟩
abbrev cX3_checkHours : ByteArray := prog_1_method_37_code
def yX3_checkHours : MethodName := ⟨RX3, "checkHours", "(I)V"⟩
abbrev cX3_findShelf : ByteArray := prog_1_method_38_code
def yX3_findShelf : MethodName := ⟨RX3, "findShelf", "(I)LPromiseShelves$Shelf;"⟩
abbrev cX3_findPromise : ByteArray := prog_1_method_39_code
def yX3_findPromise : MethodName := ⟨RX3, "findPromise", "(I)LPromiseShelves$Promise;"⟩
abbrev cX3_passAnHour : ByteArray := prog_1_method_40_code
def yX3_passAnHour : MethodName := ⟨RX3, "passAnHour", "()V"⟩
abbrev cX3_countOf : ByteArray := prog_1_method_41_code
def yX3_countOf : MethodName := ⟨RX3, "countOf", "(ILPromiseShelves$Stage;)I"⟩
abbrev cX3_tryOut : ByteArray := prog_1_method_42_code
def yX3_tryOut : MethodName := ⟨RX3, "tryOut", "(LPromiseShelves$Promise;LPromiseShelves$Shelf;)V"⟩
abbrev cX3_tryAnHour : ByteArray := prog_1_method_43_code
def yX3_tryAnHour : MethodName := ⟨RX3, "tryAnHour", "(Z)Z"⟩
abbrev cX3_triedHoursUntil : ByteArray := prog_1_method_44_code
def yX3_triedHoursUntil : MethodName := ⟨RX3, "triedHoursUntil", "(LPromiseShelves$Stage;)I"⟩
abbrev cX3_hoursUntil : ByteArray := prog_1_method_45_code
def yX3_hoursUntil : MethodName := ⟨RX3, "hoursUntil", "(LPromiseShelves$Promise;LPromiseShelves$Stage;)I"⟩
abbrev cX3_liesBehind : ByteArray := prog_1_method_46_code
def yX3_liesBehind : MethodName := ⟨RX3, "liesBehind", "(LPromiseShelves$Promise;I)Z"⟩
abbrev cX3_hoursToFreezeAnew : ByteArray := prog_1_method_47_code
def yX3_hoursToFreezeAnew : MethodName := ⟨RX3, "hoursToFreezeAnew", "(LPromiseShelves$Shelf;)I"⟩
abbrev cX3_hoursToAlarmWithoutPower : ByteArray := prog_1_method_48_code
def yX3_hoursToAlarmWithoutPower : MethodName := ⟨RX3, "hoursToAlarmWithoutPower", "(LPromiseShelves$Promise;)I"⟩
abbrev cX3_isSooner : ByteArray := prog_1_method_49_code
def yX3_isSooner : MethodName := ⟨RX3, "isSooner", "(II)Z"⟩
abbrev cX3_asNumber : ByteArray := prog_1_method_50_code
def yX3_asNumber : MethodName := ⟨RX3, "asNumber", "(Z)I"⟩
abbrev cX3_withShelves : ByteArray := prog_1_method_51_code
def yX3_withShelves : MethodName := ⟨RX3, "withShelves", "(J)J"⟩
abbrev cX3_withPromises : ByteArray := prog_1_method_52_code
def yX3_withPromises : MethodName := ⟨RX3, "withPromises", "(J)J"⟩
abbrev cX3_withMakers : ByteArray := prog_1_method_53_code
def yX3_withMakers : MethodName := ⟨RX3, "withMakers", "(J)J"⟩
def RX4 : String := "PromiseShelvesModel"
def TX4 : u_T := fun k => match k with
  | 0 => ("PromiseShelvesModel", "thrown", "I", false)
  | 1 => ("PromiseShelvesModel", "promises", "I", false)
  | 2 => ("PromiseShelvesModel", "maker", "[I", true)
  | 3 => ("PromiseShelvesModel", "life", "[I", true)
  | 4 => ("PromiseShelvesModel", "now", "[I", true)
  | _ => ("PromiseShelvesModel", "kept", "[I", true)
def tyX4 : Nat → FieldType := fun k => match k with
  | 0 => .int
  | 1 => .int
  | 2 => .array .int
  | 3 => .array .int
  | 4 => .array .int
  | _ => .array .int
abbrev wsX40 : List Cond := u_ws RX4 TX4 6
theorem nmX4 : ∀ a, a < 6 → ∀ b, b < 6 → a ≠ b → (TX4 a).2.1 ≠ (TX4 b).2.1 := by decide +kernel
theorem tyX4_ok : ∀ k, k < 6 → parseFieldDescriptor (TX4 k).2.2.1 = some (tyX4 k) := by decide +kernel
abbrev cX4_init : ByteArray := prog_6_method_1_code
def yX4_init : MethodName := ⟨RX4, "<init>", "()V"⟩
abbrev cX4_thrown : ByteArray := prog_6_method_2_code
def yX4_thrown : MethodName := ⟨RX4, "thrown", "()I"⟩
abbrev cX4_no : ByteArray := prog_6_method_3_code
def yX4_no : MethodName := ⟨RX4, "no", "(I)I"⟩
abbrev cX4_isNot : ByteArray := prog_6_method_4_code
def yX4_isNot : MethodName := ⟨RX4, "isNot", "(I)Z"⟩
abbrev cX4_ok : ByteArray := prog_6_method_5_code
def yX4_ok : MethodName := ⟨RX4, "ok", "(I)I"⟩
abbrev cX4_isIn : ByteArray := prog_6_method_6_code
def yX4_isIn : MethodName := ⟨RX4, "isIn", "(III)Z"⟩
abbrev cX4_isShelf : ByteArray := prog_6_method_7_code
def yX4_isShelf : MethodName := ⟨RX4, "isShelf", "(I)Z"⟩
abbrev cX4_isMaker : ByteArray := prog_6_method_8_code
def yX4_isMaker : MethodName := ⟨RX4, "isMaker", "(I)Z"⟩
abbrev cX4_isPromise : ByteArray := prog_6_method_9_code
def yX4_isPromise : MethodName := ⟨RX4, "isPromise", "(I)Z"⟩
abbrev cX4_shelf : ByteArray := prog_6_method_10_code
def yX4_shelf : MethodName := ⟨RX4, "shelf", "(II)I"⟩
abbrev cX4_of : ByteArray := prog_6_method_11_code
def yX4_of : MethodName := ⟨RX4, "of", "(II)I"⟩
abbrev cX4_lies : ByteArray := prog_6_method_12_code
def yX4_lies : MethodName := ⟨RX4, "lies", "(I)Z"⟩
abbrev cX4_keepAll : ByteArray := prog_6_method_13_code
def yX4_keepAll : MethodName := ⟨RX4, "keepAll", "()V"⟩
abbrev cX4_bringBack : ByteArray := prog_6_method_14_code
def yX4_bringBack : MethodName := ⟨RX4, "bringBack", "()V"⟩
abbrev cX4_open : ByteArray := prog_6_method_15_code
def yX4_open : MethodName := ⟨RX4, "open", "(I)V"⟩
abbrev cX4_lay : ByteArray := prog_6_method_16_code
def yX4_lay : MethodName := ⟨RX4, "lay", "(III)V"⟩
abbrev cX4_towards : ByteArray := prog_6_method_17_code
def yX4_towards : MethodName := ⟨RX4, "towards", "(III)I"⟩
abbrev cX4_warm : ByteArray := prog_6_method_18_code
def yX4_warm : MethodName := ⟨RX4, "warm", "(I)V"⟩
abbrev cX4_rings : ByteArray := prog_6_method_19_code
def yX4_rings : MethodName := ⟨RX4, "rings", "(I)Z"⟩
abbrev cX4_getOlder : ByteArray := prog_6_method_20_code
def yX4_getOlder : MethodName := ⟨RX4, "getOlder", "(I)V"⟩
abbrev cX4_hourOn : ByteArray := prog_6_method_21_code
def yX4_hourOn : MethodName := ⟨RX4, "hourOn", "()I"⟩
abbrev cX4_hoursOn : ByteArray := prog_6_method_22_code
def yX4_hoursOn : MethodName := ⟨RX4, "hoursOn", "(I)I"⟩
abbrev cX4_make : ByteArray := prog_6_method_23_code
def yX4_make : MethodName := ⟨RX4, "make", "(III)I"⟩
abbrev cX4_move : ByteArray := prog_6_method_24_code
def yX4_move : MethodName := ⟨RX4, "move", "(II)I"⟩
abbrev cX4_keep : ByteArray := prog_6_method_25_code
def yX4_keep : MethodName := ⟨RX4, "keep", "(I)I"⟩
abbrev cX4_set : ByteArray := prog_6_method_26_code
def yX4_set : MethodName := ⟨RX4, "set", "(II)I"⟩
abbrev cX4_switchPower : ByteArray := prog_6_method_27_code
def yX4_switchPower : MethodName := ⟨RX4, "switchPower", "()Z"⟩
abbrev cX4_pass : ByteArray := prog_6_method_28_code
def yX4_pass : MethodName := ⟨RX4, "pass", "(I)I"⟩
abbrev cX4_ofShelf : ByteArray := prog_6_method_29_code
def yX4_ofShelf : MethodName := ⟨RX4, "ofShelf", "(II)I"⟩
abbrev cX4_hour : ByteArray := prog_6_method_30_code
def yX4_hour : MethodName := ⟨RX4, "hour", "()I"⟩
abbrev cX4_hasPower : ByteArray := prog_6_method_31_code
def yX4_hasPower : MethodName := ⟨RX4, "hasPower", "()Z"⟩
abbrev cX4_settingOf : ByteArray := prog_6_method_32_code
def yX4_settingOf : MethodName := ⟨RX4, "settingOf", "(I)I"⟩
abbrev cX4_heatOn : ByteArray := prog_6_method_33_code
def yX4_heatOn : MethodName := ⟨RX4, "heatOn", "(I)I"⟩
abbrev cX4_on : ByteArray := prog_6_method_34_code
def yX4_on : MethodName := ⟨RX4, "on", "(I)I"⟩
abbrev cX4_promisesOn : ByteArray := prog_6_method_35_code
def yX4_promisesOn : MethodName := ⟨RX4, "promisesOn", "(I)I"⟩
abbrev cX4_coldestOf : ByteArray := prog_6_method_36_code
def yX4_coldestOf : MethodName := ⟨RX4, "coldestOf", "()I"⟩
abbrev cX4_coldest : ByteArray := prog_6_method_37_code
def yX4_coldest : MethodName := ⟨RX4, "coldest", "()I"⟩
abbrev cX4_alarms : ByteArray := prog_6_method_38_code
def yX4_alarms : MethodName := ⟨RX4, "alarms", "()I"⟩
abbrev cX4_ofPromise : ByteArray := prog_6_method_39_code
def yX4_ofPromise : MethodName := ⟨RX4, "ofPromise", "(II)I"⟩
abbrev cX4_promises : ByteArray := prog_6_method_40_code
def yX4_promises : MethodName := ⟨RX4, "promises", "()I"⟩
abbrev cX4_makerOf : ByteArray := prog_6_method_41_code
def yX4_makerOf : MethodName := ⟨RX4, "makerOf", "(I)I"⟩
abbrev cX4_shelfOf : ByteArray := prog_6_method_42_code
def yX4_shelfOf : MethodName := ⟨RX4, "shelfOf", "(I)I"⟩
abbrev cX4_heatOf : ByteArray := prog_6_method_43_code
def yX4_heatOf : MethodName := ⟨RX4, "heatOf", "(I)I"⟩
abbrev cX4_ageOf : ByteArray := prog_6_method_44_code
def yX4_ageOf : MethodName := ⟨RX4, "ageOf", "(I)I"⟩
abbrev cX4_left : ByteArray := prog_6_method_45_code
def yX4_left : MethodName := ⟨RX4, "left", "(I)I"⟩
abbrev cX4_hoursLeft : ByteArray := prog_6_method_46_code
def yX4_hoursLeft : MethodName := ⟨RX4, "hoursLeft", "(I)I"⟩
abbrev cX4_isSo : ByteArray := prog_6_method_47_code
def yX4_isSo : MethodName := ⟨RX4, "isSo", "(II)Z"⟩
abbrev cX4_isFrozen : ByteArray := prog_6_method_48_code
def yX4_isFrozen : MethodName := ⟨RX4, "isFrozen", "(I)Z"⟩
abbrev cX4_isThawed : ByteArray := prog_6_method_49_code
def yX4_isThawed : MethodName := ⟨RX4, "isThawed", "(I)Z"⟩
abbrev cX4_isKept : ByteArray := prog_6_method_50_code
def yX4_isKept : MethodName := ⟨RX4, "isKept", "(I)Z"⟩
abbrev cX4_isExpired : ByteArray := prog_6_method_51_code
def yX4_isExpired : MethodName := ⟨RX4, "isExpired", "(I)Z"⟩
abbrev cX4_owes : ByteArray := prog_6_method_52_code
def yX4_owes : MethodName := ⟨RX4, "owes", "(I)I"⟩
abbrev cX4_owedBy : ByteArray := prog_6_method_53_code
def yX4_owedBy : MethodName := ⟨RX4, "owedBy", "(I)I"⟩
abbrev cX4_honour : ByteArray := prog_6_method_54_code
def yX4_honour : MethodName := ⟨RX4, "honour", "(I)I"⟩
abbrev cX4_honourOf : ByteArray := prog_6_method_55_code
def yX4_honourOf : MethodName := ⟨RX4, "honourOf", "(I)I"⟩
abbrev cX4_most : ByteArray := prog_6_method_56_code
def yX4_most : MethodName := ⟨RX4, "most", "()I"⟩
abbrev cX4_mostHonourable : ByteArray := prog_6_method_57_code
def yX4_mostHonourable : MethodName := ⟨RX4, "mostHonourable", "()I"⟩
abbrev cX4_until : ByteArray := prog_6_method_58_code
def yX4_until : MethodName := ⟨RX4, "until", "(II)I"⟩
abbrev cX4_hoursUntilFrozen : ByteArray := prog_6_method_59_code
def yX4_hoursUntilFrozen : MethodName := ⟨RX4, "hoursUntilFrozen", "(I)I"⟩
abbrev cX4_hoursUntilThawed : ByteArray := prog_6_method_60_code
def yX4_hoursUntilThawed : MethodName := ⟨RX4, "hoursUntilThawed", "(I)I"⟩
abbrev cX4_hoursUntilExpired : ByteArray := prog_6_method_61_code
def yX4_hoursUntilExpired : MethodName := ⟨RX4, "hoursUntilExpired", "(I)I"⟩
abbrev cX4_leftIn : ByteArray := prog_6_method_62_code
def yX4_leftIn : MethodName := ⟨RX4, "leftIn", "(I)I"⟩
abbrev cX4_freezesOn : ByteArray := prog_6_method_63_code
def yX4_freezesOn : MethodName := ⟨RX4, "freezesOn", "(I)I"⟩
abbrev cX4_best : ByteArray := prog_6_method_64_code
def yX4_best : MethodName := ⟨RX4, "best", "()I"⟩
abbrev cX4_bestShelf : ByteArray := prog_6_method_65_code
def yX4_bestShelf : MethodName := ⟨RX4, "bestShelf", "()I"⟩
abbrev cX4_cold : ByteArray := prog_6_method_66_code
def yX4_cold : MethodName := ⟨RX4, "cold", "()I"⟩
abbrev cX4_hoursOfCold : ByteArray := prog_6_method_67_code
def yX4_hoursOfCold : MethodName := ⟨RX4, "hoursOfCold", "()I"⟩
abbrev cX4_meanHeat : ByteArray := prog_6_method_68_code
def yX4_meanHeat : MethodName := ⟨RX4, "meanHeat", "()D"⟩
abbrev cX4_digest : ByteArray := prog_6_method_69_code
def yX4_digest : MethodName := ⟨RX4, "digest", "()J"⟩
def RJx29ce0 : String := "java/lang/Enum"
def TJx29ce0 : u_T := fun k => match k with
  | _ => ("", "", "", false)
def tyJx29ce0 : Nat → FieldType := fun k => match k with
  | _ => .int
abbrev wsJx29ce00 : List Cond := u_ws RJx29ce0 TJx29ce0 0
theorem nmJx29ce0 : ∀ a, a < 0 → ∀ b, b < 0 → a ≠ b → (TJx29ce0 a).2.1 ≠ (TJx29ce0 b).2.1 := by decide +kernel
theorem tyJx29ce0_ok : ∀ k, k < 0 → parseFieldDescriptor (TJx29ce0 k).2.2.1 = some (tyJx29ce0 k) := by decide +kernel
def RJ9 : String := "java/lang/Math"
def TJ9 : u_T := fun k => match k with
  | _ => ("", "", "", false)
def tyJ9 : Nat → FieldType := fun k => match k with
  | _ => .int
abbrev wsJ90 : List Cond := u_ws RJ9 TJ9 0
theorem nmJ9 : ∀ a, a < 0 → ∀ b, b < 0 → a ≠ b → (TJ9 a).2.1 ≠ (TJ9 b).2.1 := by decide +kernel
theorem tyJ9_ok : ∀ k, k < 0 → parseFieldDescriptor (TJ9 k).2.2.1 = some (tyJ9 k) := by decide +kernel
abbrev cJ9_abs_0f7a4 : ByteArray := prog_12_method_59_code
def yJ9_abs_0f7a4 : MethodName := ⟨RJ9, "abs", "(I)I"⟩
abbrev cJ9_max_7cf53 : ByteArray := prog_12_method_65_code
def yJ9_max_7cf53 : MethodName := ⟨RJ9, "max", "(II)I"⟩
abbrev cJ9_min_7cf53 : ByteArray := prog_12_method_69_code
def yJ9_min_7cf53 : MethodName := ⟨RJ9, "min", "(II)I"⟩
def RJ0 : String := "java/lang/String"
def TJ0 : u_T := fun k => match k with
  | _ => ("", "", "", false)
def tyJ0 : Nat → FieldType := fun k => match k with
  | _ => .int
abbrev wsJ00 : List Cond := u_ws RJ0 TJ0 0
theorem nmJ0 : ∀ a, a < 0 → ∀ b, b < 0 → a ≠ b → (TJ0 a).2.1 ≠ (TJ0 b).2.1 := by decide +kernel
theorem tyJ0_ok : ∀ k, k < 0 → parseFieldDescriptor (TJ0 k).2.2.1 = some (tyJ0 k) := by decide +kernel
def RJ10 : String := "java/lang/System"
def TJ10 : u_T := fun k => match k with
  | _ => ("", "", "", false)
def tyJ10 : Nat → FieldType := fun k => match k with
  | _ => .int
abbrev wsJ100 : List Cond := u_ws RJ10 TJ10 0
theorem nmJ10 : ∀ a, a < 0 → ∀ b, b < 0 → a ≠ b → (TJ10 a).2.1 ≠ (TJ10 b).2.1 := by decide +kernel
theorem tyJ10_ok : ∀ k, k < 0 → parseFieldDescriptor (TJ10 k).2.2.1 = some (tyJ10 k) := by decide +kernel
def RL : String := "PromiseShelvesLaw"
abbrev cL_make : ByteArray := method_3_code
def yL_make : MethodName := ⟨RL, "make", "(LPromiseShelves;III[J)I"⟩
abbrev cL_move : ByteArray := method_4_code
def yL_move : MethodName := ⟨RL, "move", "(LPromiseShelves;II[J)I"⟩
abbrev cL_keep : ByteArray := method_5_code
def yL_keep : MethodName := ⟨RL, "keep", "(LPromiseShelves;I[J)I"⟩
abbrev cL_set : ByteArray := method_6_code
def yL_set : MethodName := ⟨RL, "set", "(LPromiseShelves;II[J)I"⟩
abbrev cL_pass : ByteArray := method_7_code
def yL_pass : MethodName := ⟨RL, "pass", "(LPromiseShelves;I[J)I"⟩
abbrev cL_settingOf : ByteArray := method_8_code
def yL_settingOf : MethodName := ⟨RL, "settingOf", "(LPromiseShelves;I[J)I"⟩
abbrev cL_heatOn : ByteArray := method_9_code
def yL_heatOn : MethodName := ⟨RL, "heatOn", "(LPromiseShelves;I[J)I"⟩
abbrev cL_promisesOn : ByteArray := method_10_code
def yL_promisesOn : MethodName := ⟨RL, "promisesOn", "(LPromiseShelves;I[J)I"⟩
abbrev cL_makerOf : ByteArray := method_11_code
def yL_makerOf : MethodName := ⟨RL, "makerOf", "(LPromiseShelves;I[J)I"⟩
abbrev cL_shelfOf : ByteArray := method_12_code
def yL_shelfOf : MethodName := ⟨RL, "shelfOf", "(LPromiseShelves;I[J)I"⟩
abbrev cL_heatOf : ByteArray := method_13_code
def yL_heatOf : MethodName := ⟨RL, "heatOf", "(LPromiseShelves;I[J)I"⟩
abbrev cL_ageOf : ByteArray := method_14_code
def yL_ageOf : MethodName := ⟨RL, "ageOf", "(LPromiseShelves;I[J)I"⟩
abbrev cL_hoursLeft : ByteArray := method_15_code
def yL_hoursLeft : MethodName := ⟨RL, "hoursLeft", "(LPromiseShelves;I[J)I"⟩
abbrev cL_isFrozen : ByteArray := method_16_code
def yL_isFrozen : MethodName := ⟨RL, "isFrozen", "(LPromiseShelves;I[J)I"⟩
abbrev cL_isThawed : ByteArray := method_17_code
def yL_isThawed : MethodName := ⟨RL, "isThawed", "(LPromiseShelves;I[J)I"⟩
abbrev cL_isKept : ByteArray := method_18_code
def yL_isKept : MethodName := ⟨RL, "isKept", "(LPromiseShelves;I[J)I"⟩
abbrev cL_isExpired : ByteArray := method_19_code
def yL_isExpired : MethodName := ⟨RL, "isExpired", "(LPromiseShelves;I[J)I"⟩
abbrev cL_owedBy : ByteArray := method_20_code
def yL_owedBy : MethodName := ⟨RL, "owedBy", "(LPromiseShelves;I[J)I"⟩
abbrev cL_honourOf : ByteArray := method_21_code
def yL_honourOf : MethodName := ⟨RL, "honourOf", "(LPromiseShelves;I[J)I"⟩
abbrev cL_hoursUntilFrozen : ByteArray := method_22_code
def yL_hoursUntilFrozen : MethodName := ⟨RL, "hoursUntilFrozen", "(LPromiseShelves;I[J)I"⟩
abbrev cL_hoursUntilThawed : ByteArray := method_23_code
def yL_hoursUntilThawed : MethodName := ⟨RL, "hoursUntilThawed", "(LPromiseShelves;I[J)I"⟩
abbrev cL_hoursUntilExpired : ByteArray := method_24_code
def yL_hoursUntilExpired : MethodName := ⟨RL, "hoursUntilExpired", "(LPromiseShelves;I[J)I"⟩
abbrev cL_leftIn : ByteArray := method_25_code
def yL_leftIn : MethodName := ⟨RL, "leftIn", "(LPromiseShelves;I[J)I"⟩
abbrev cL_law : ByteArray := code
def yL_law : MethodName := ⟨RL, "law", "([I)Z"⟩
abbrev vwCl : List vw_C := [(RX0, TX0, 6), (RX1, TX1, 3), (RX3, TX3, 8), (RX4, TX4, 6)]
theorem inX0 : ∀ w ∈ wsX00, w ∈ lw_tbl := by decide +kernel
theorem inX1 : ∀ w ∈ wsX10, w ∈ lw_tbl := by decide +kernel
theorem inX3 : ∀ w ∈ wsX30, w ∈ lw_tbl := by decide +kernel
theorem inX4 : ∀ w ∈ wsX40, w ∈ lw_tbl := by decide +kernel
end
section
theorem dX0_init_0 : decode cX0_init 0 = .ok (.aload_n 0, 1) := by decide +kernel
theorem dX0_init_1 : decode cX0_init 1 = .ok (.invokespecial 3, 3) := by decide +kernel
theorem dX0_init_4 : decode cX0_init 4 = .ok (.aload_n 0, 1) := by decide +kernel
theorem dX0_init_5 : decode cX0_init 5 = .ok (.getstatic 9, 3) := by decide +kernel
theorem dX0_init_8 : decode cX0_init 8 = .ok (.putfield 15, 3) := by decide +kernel
theorem dX0_init_11 : decode cX0_init 11 = .ok (.aload_n 0, 1) := by decide +kernel
theorem dX0_init_12 : decode cX0_init 12 = .ok (.aconst_null, 1) := by decide +kernel
theorem dX0_init_13 : decode cX0_init 13 = .ok (.putfield 20, 3) := by decide +kernel
theorem dX0_init_16 : decode cX0_init 16 = .ok (.aload_n 0, 1) := by decide +kernel
theorem dX0_init_17 : decode cX0_init 17 = .ok (.iconst 0, 1) := by decide +kernel
theorem dX0_init_18 : decode cX0_init 18 = .ok (.putfield 24, 3) := by decide +kernel
theorem dX0_init_21 : decode cX0_init 21 = .ok (.aload_n 0, 1) := by decide +kernel
theorem dX0_init_22 : decode cX0_init 22 = .ok (.iconst 0, 1) := by decide +kernel
theorem dX0_init_23 : decode cX0_init 23 = .ok (.putfield 28, 3) := by decide +kernel
theorem dX0_init_26 : decode cX0_init 26 = .ok (.aload_n 0, 1) := by decide +kernel
theorem dX0_init_27 : decode cX0_init 27 = .ok (.iconst 0, 1) := by decide +kernel
theorem dX0_init_28 : decode cX0_init 28 = .ok (.putfield 31, 3) := by decide +kernel
theorem dX0_init_31 : decode cX0_init 31 = .ok (.aload_n 0, 1) := by decide +kernel
theorem dX0_init_32 : decode cX0_init 32 = .ok (.iconst 0, 1) := by decide +kernel
theorem dX0_init_33 : decode cX0_init 33 = .ok (.putfield 34, 3) := by decide +kernel
theorem dX0_init_36 : decode cX0_init 36 = .ok (.return_, 1) := by decide +kernel
theorem dX0_layAnew_0 : decode cX0_layAnew 0 = .ok (.aload_n 0, 1) := by decide +kernel
theorem dX0_layAnew_1 : decode cX0_layAnew 1 = .ok (.getstatic 37, 3) := by decide +kernel
theorem dX0_layAnew_4 : decode cX0_layAnew 4 = .ok (.putfield 15, 3) := by decide +kernel
theorem dX0_layAnew_7 : decode cX0_layAnew 7 = .ok (.aload_n 0, 1) := by decide +kernel
theorem dX0_layAnew_8 : decode cX0_layAnew 8 = .ok (.aload_n 3, 1) := by decide +kernel
theorem dX0_layAnew_9 : decode cX0_layAnew 9 = .ok (.putfield 20, 3) := by decide +kernel
theorem dX0_layAnew_12 : decode cX0_layAnew 12 = .ok (.aload_n 0, 1) := by decide +kernel
theorem dX0_layAnew_13 : decode cX0_layAnew 13 = .ok (.iload_n 1, 1) := by decide +kernel
theorem dX0_layAnew_14 : decode cX0_layAnew 14 = .ok (.putfield 24, 3) := by decide +kernel
theorem dX0_layAnew_17 : decode cX0_layAnew 17 = .ok (.aload_n 0, 1) := by decide +kernel
theorem dX0_layAnew_18 : decode cX0_layAnew 18 = .ok (.iload_n 2, 1) := by decide +kernel
theorem dX0_layAnew_19 : decode cX0_layAnew 19 = .ok (.putfield 28, 3) := by decide +kernel
theorem dX0_layAnew_22 : decode cX0_layAnew 22 = .ok (.aload_n 0, 1) := by decide +kernel
theorem dX0_layAnew_23 : decode cX0_layAnew 23 = .ok (.iconst 0, 1) := by decide +kernel
theorem dX0_layAnew_24 : decode cX0_layAnew 24 = .ok (.putfield 31, 3) := by decide +kernel
theorem dX0_layAnew_27 : decode cX0_layAnew 27 = .ok (.aload_n 0, 1) := by decide +kernel
theorem dX0_layAnew_28 : decode cX0_layAnew 28 = .ok (.bipush 20, 2) := by decide +kernel
theorem dX0_layAnew_30 : decode cX0_layAnew 30 = .ok (.putfield 34, 3) := by decide +kernel
theorem dX0_layAnew_33 : decode cX0_layAnew 33 = .ok (.return_, 1) := by decide +kernel
theorem dX0_becomeLike_0 : decode cX0_becomeLike 0 = .ok (.aload_n 0, 1) := by decide +kernel
theorem dX0_becomeLike_1 : decode cX0_becomeLike 1 = .ok (.aload_n 1, 1) := by decide +kernel
theorem dX0_becomeLike_2 : decode cX0_becomeLike 2 = .ok (.getfield 15, 3) := by decide +kernel
theorem dX0_becomeLike_5 : decode cX0_becomeLike 5 = .ok (.putfield 15, 3) := by decide +kernel
theorem dX0_becomeLike_8 : decode cX0_becomeLike 8 = .ok (.aload_n 0, 1) := by decide +kernel
theorem dX0_becomeLike_9 : decode cX0_becomeLike 9 = .ok (.aload_n 2, 1) := by decide +kernel
theorem dX0_becomeLike_10 : decode cX0_becomeLike 10 = .ok (.putfield 20, 3) := by decide +kernel
theorem dX0_becomeLike_13 : decode cX0_becomeLike 13 = .ok (.aload_n 0, 1) := by decide +kernel
theorem dX0_becomeLike_14 : decode cX0_becomeLike 14 = .ok (.aload_n 1, 1) := by decide +kernel
theorem dX0_becomeLike_15 : decode cX0_becomeLike 15 = .ok (.getfield 24, 3) := by decide +kernel
theorem dX0_becomeLike_18 : decode cX0_becomeLike 18 = .ok (.putfield 24, 3) := by decide +kernel
theorem dX0_becomeLike_21 : decode cX0_becomeLike 21 = .ok (.aload_n 0, 1) := by decide +kernel
theorem dX0_becomeLike_22 : decode cX0_becomeLike 22 = .ok (.aload_n 1, 1) := by decide +kernel
theorem dX0_becomeLike_23 : decode cX0_becomeLike 23 = .ok (.getfield 28, 3) := by decide +kernel
theorem dX0_becomeLike_26 : decode cX0_becomeLike 26 = .ok (.putfield 28, 3) := by decide +kernel
theorem dX0_becomeLike_29 : decode cX0_becomeLike 29 = .ok (.aload_n 0, 1) := by decide +kernel
theorem dX0_becomeLike_30 : decode cX0_becomeLike 30 = .ok (.aload_n 1, 1) := by decide +kernel
theorem dX0_becomeLike_31 : decode cX0_becomeLike 31 = .ok (.getfield 31, 3) := by decide +kernel
theorem dX0_becomeLike_34 : decode cX0_becomeLike 34 = .ok (.putfield 31, 3) := by decide +kernel
theorem dX0_becomeLike_37 : decode cX0_becomeLike 37 = .ok (.aload_n 0, 1) := by decide +kernel
theorem dX0_becomeLike_38 : decode cX0_becomeLike 38 = .ok (.aload_n 1, 1) := by decide +kernel
theorem dX0_becomeLike_39 : decode cX0_becomeLike 39 = .ok (.getfield 34, 3) := by decide +kernel
theorem dX0_becomeLike_42 : decode cX0_becomeLike 42 = .ok (.putfield 34, 3) := by decide +kernel
theorem dX0_becomeLike_45 : decode cX0_becomeLike 45 = .ok (.return_, 1) := by decide +kernel
theorem dX0_leaveAs_0 : decode cX0_leaveAs 0 = .ok (.aload_n 0, 1) := by decide +kernel
theorem dX0_leaveAs_1 : decode cX0_leaveAs 1 = .ok (.aload_n 1, 1) := by decide +kernel
theorem dX0_leaveAs_2 : decode cX0_leaveAs 2 = .ok (.putfield 15, 3) := by decide +kernel
theorem dX0_leaveAs_5 : decode cX0_leaveAs 5 = .ok (.aload_n 0, 1) := by decide +kernel
theorem dX0_leaveAs_6 : decode cX0_leaveAs 6 = .ok (.aconst_null, 1) := by decide +kernel
theorem dX0_leaveAs_7 : decode cX0_leaveAs 7 = .ok (.putfield 20, 3) := by decide +kernel
theorem dX0_leaveAs_10 : decode cX0_leaveAs 10 = .ok (.return_, 1) := by decide +kernel
theorem dX0_liveAnHour_0 : decode cX0_liveAnHour 0 = .ok (.aload_n 0, 1) := by decide +kernel
theorem dX0_liveAnHour_1 : decode cX0_liveAnHour 1 = .ok (.getfield 20, 3) := by decide +kernel
theorem dX0_liveAnHour_4 : decode cX0_liveAnHour 4 = .ok (.ifnonnull 5, 3) := by decide +kernel
theorem dX0_liveAnHour_7 : decode cX0_liveAnHour 7 = .ok (.iconst 0, 1) := by decide +kernel
theorem dX0_liveAnHour_8 : decode cX0_liveAnHour 8 = .ok (.ireturn, 1) := by decide +kernel
theorem dX0_liveAnHour_9 : decode cX0_liveAnHour 9 = .ok (.aload_n 0, 1) := by decide +kernel
theorem dX0_liveAnHour_10 : decode cX0_liveAnHour 10 = .ok (.aload_n 0, 1) := by decide +kernel
theorem dX0_liveAnHour_11 : decode cX0_liveAnHour 11 = .ok (.getfield 20, 3) := by decide +kernel
theorem dX0_liveAnHour_14 : decode cX0_liveAnHour 14 = .ok (.getfield 40, 3) := by decide +kernel
theorem dX0_liveAnHour_17 : decode cX0_liveAnHour 17 = .ok (.invokevirtual 43, 3) := by decide +kernel
theorem dX0_liveAnHour_20 : decode cX0_liveAnHour 20 = .ok (.aload_n 0, 1) := by decide +kernel
theorem dX0_liveAnHour_21 : decode cX0_liveAnHour 21 = .ok (.getfield 15, 3) := by decide +kernel
theorem dX0_liveAnHour_24 : decode cX0_liveAnHour 24 = .ok (.getstatic 47, 3) := by decide +kernel
theorem dX0_liveAnHour_27 : decode cX0_liveAnHour 27 = .ok (.if_acmp .ne 16, 3) := by decide +kernel
theorem dX0_liveAnHour_30 : decode cX0_liveAnHour 30 = .ok (.aload_n 0, 1) := by decide +kernel
theorem dX0_liveAnHour_31 : decode cX0_liveAnHour 31 = .ok (.getfield 34, 3) := by decide +kernel
theorem dX0_liveAnHour_34 : decode cX0_liveAnHour 34 = .ok (.bipush (-4), 2) := by decide +kernel
theorem dX0_liveAnHour_36 : decode cX0_liveAnHour 36 = .ok (.if_icmp .le 7, 3) := by decide +kernel
theorem dX0_liveAnHour_39 : decode cX0_liveAnHour 39 = .ok (.iconst 1, 1) := by decide +kernel
theorem dX0_liveAnHour_40 : decode cX0_liveAnHour 40 = .ok (.goto 4, 3) := by decide +kernel
theorem dX0_liveAnHour_43 : decode cX0_liveAnHour 43 = .ok (.iconst 0, 1) := by decide +kernel
theorem dX0_liveAnHour_44 : decode cX0_liveAnHour 44 = .ok (.istore_n 1, 1) := by decide +kernel
theorem dX0_liveAnHour_45 : decode cX0_liveAnHour 45 = .ok (.iload_n 1, 1) := by decide +kernel
theorem dX0_liveAnHour_46 : decode cX0_liveAnHour 46 = .ok (.ifCond .eq 13, 3) := by decide +kernel
theorem dX0_liveAnHour_49 : decode cX0_liveAnHour 49 = .ok (.aload_n 0, 1) := by decide +kernel
theorem dX0_liveAnHour_50 : decode cX0_liveAnHour 50 = .ok (.getstatic 50, 3) := by decide +kernel
theorem dX0_liveAnHour_53 : decode cX0_liveAnHour 53 = .ok (.putfield 15, 3) := by decide +kernel
theorem dX0_liveAnHour_56 : decode cX0_liveAnHour 56 = .ok (.goto 29, 3) := by decide +kernel
theorem dX0_liveAnHour_59 : decode cX0_liveAnHour 59 = .ok (.aload_n 0, 1) := by decide +kernel
theorem dX0_liveAnHour_60 : decode cX0_liveAnHour 60 = .ok (.getfield 15, 3) := by decide +kernel
theorem dX0_liveAnHour_63 : decode cX0_liveAnHour 63 = .ok (.getstatic 37, 3) := by decide +kernel
theorem dX0_liveAnHour_66 : decode cX0_liveAnHour 66 = .ok (.if_acmp .ne 19, 3) := by decide +kernel
theorem dX0_liveAnHour_69 : decode cX0_liveAnHour 69 = .ok (.aload_n 0, 1) := by decide +kernel
theorem dX0_liveAnHour_70 : decode cX0_liveAnHour 70 = .ok (.getfield 34, 3) := by decide +kernel
theorem dX0_liveAnHour_73 : decode cX0_liveAnHour 73 = .ok (.bipush (-10), 2) := by decide +kernel
theorem dX0_liveAnHour_75 : decode cX0_liveAnHour 75 = .ok (.if_icmp .gt 10, 3) := by decide +kernel
theorem dX0_liveAnHour_78 : decode cX0_liveAnHour 78 = .ok (.aload_n 0, 1) := by decide +kernel
theorem dX0_liveAnHour_79 : decode cX0_liveAnHour 79 = .ok (.getstatic 47, 3) := by decide +kernel
theorem dX0_liveAnHour_82 : decode cX0_liveAnHour 82 = .ok (.putfield 15, 3) := by decide +kernel
theorem dX0_liveAnHour_85 : decode cX0_liveAnHour 85 = .ok (.aload_n 0, 1) := by decide +kernel
theorem dX0_liveAnHour_86 : decode cX0_liveAnHour 86 = .ok (.getfield 15, 3) := by decide +kernel
theorem dX0_liveAnHour_89 : decode cX0_liveAnHour 89 = .ok (.getstatic 47, 3) := by decide +kernel
theorem dX0_liveAnHour_92 : decode cX0_liveAnHour 92 = .ok (.if_acmp .eq 31, 3) := by decide +kernel
theorem dX0_liveAnHour_95 : decode cX0_liveAnHour 95 = .ok (.aload_n 0, 1) := by decide +kernel
theorem dX0_liveAnHour_96 : decode cX0_liveAnHour 96 = .ok (.dup, 1) := by decide +kernel
theorem dX0_liveAnHour_97 : decode cX0_liveAnHour 97 = .ok (.getfield 31, 3) := by decide +kernel
theorem dX0_liveAnHour_100 : decode cX0_liveAnHour 100 = .ok (.iconst 1, 1) := by decide +kernel
theorem dX0_liveAnHour_101 : decode cX0_liveAnHour 101 = .ok (.iadd, 1) := by decide +kernel
theorem dX0_liveAnHour_102 : decode cX0_liveAnHour 102 = .ok (.putfield 31, 3) := by decide +kernel
theorem dX0_liveAnHour_105 : decode cX0_liveAnHour 105 = .ok (.aload_n 0, 1) := by decide +kernel
theorem dX0_liveAnHour_106 : decode cX0_liveAnHour 106 = .ok (.getfield 31, 3) := by decide +kernel
theorem dX0_liveAnHour_109 : decode cX0_liveAnHour 109 = .ok (.aload_n 0, 1) := by decide +kernel
theorem dX0_liveAnHour_110 : decode cX0_liveAnHour 110 = .ok (.getfield 28, 3) := by decide +kernel
theorem dX0_liveAnHour_113 : decode cX0_liveAnHour 113 = .ok (.if_icmp .lt 10, 3) := by decide +kernel
theorem dX0_liveAnHour_116 : decode cX0_liveAnHour 116 = .ok (.aload_n 0, 1) := by decide +kernel
theorem dX0_liveAnHour_117 : decode cX0_liveAnHour 117 = .ok (.getstatic 53, 3) := by decide +kernel
theorem dX0_liveAnHour_120 : decode cX0_liveAnHour 120 = .ok (.invokevirtual 56, 3) := by decide +kernel
theorem dX0_liveAnHour_123 : decode cX0_liveAnHour 123 = .ok (.iload_n 1, 1) := by decide +kernel
theorem dX0_liveAnHour_124 : decode cX0_liveAnHour 124 = .ok (.ireturn, 1) := by decide +kernel
theorem dX0_drawNearTo_0 : decode cX0_drawNearTo 0 = .ok (.iload_n 1, 1) := by decide +kernel
theorem dX0_drawNearTo_1 : decode cX0_drawNearTo 1 = .ok (.aload_n 0, 1) := by decide +kernel
theorem dX0_drawNearTo_2 : decode cX0_drawNearTo 2 = .ok (.getfield 34, 3) := by decide +kernel
theorem dX0_drawNearTo_5 : decode cX0_drawNearTo 5 = .ok (.isub, 1) := by decide +kernel
theorem dX0_drawNearTo_6 : decode cX0_drawNearTo 6 = .ok (.istore_n 2, 1) := by decide +kernel
theorem dX0_drawNearTo_7 : decode cX0_drawNearTo 7 = .ok (.iload_n 2, 1) := by decide +kernel
theorem dX0_drawNearTo_8 : decode cX0_drawNearTo 8 = .ok (.iconst 2, 1) := by decide +kernel
theorem dX0_drawNearTo_9 : decode cX0_drawNearTo 9 = .ok (.idiv, 1) := by decide +kernel
theorem dX0_drawNearTo_10 : decode cX0_drawNearTo 10 = .ok (.istore_n 3, 1) := by decide +kernel
theorem dX0_drawNearTo_11 : decode cX0_drawNearTo 11 = .ok (.aload_n 0, 1) := by decide +kernel
theorem dX0_drawNearTo_12 : decode cX0_drawNearTo 12 = .ok (.dup, 1) := by decide +kernel
theorem dX0_drawNearTo_13 : decode cX0_drawNearTo 13 = .ok (.getfield 34, 3) := by decide +kernel
theorem dX0_drawNearTo_16 : decode cX0_drawNearTo 16 = .ok (.iload_n 3, 1) := by decide +kernel
theorem dX0_drawNearTo_17 : decode cX0_drawNearTo 17 = .ok (.ifCond .ne 7, 3) := by decide +kernel
theorem dX0_drawNearTo_20 : decode cX0_drawNearTo 20 = .ok (.iload_n 2, 1) := by decide +kernel
theorem dX0_drawNearTo_21 : decode cX0_drawNearTo 21 = .ok (.goto 4, 3) := by decide +kernel
theorem dX0_drawNearTo_24 : decode cX0_drawNearTo 24 = .ok (.iload_n 3, 1) := by decide +kernel
theorem dX0_drawNearTo_25 : decode cX0_drawNearTo 25 = .ok (.iadd, 1) := by decide +kernel
theorem dX0_drawNearTo_26 : decode cX0_drawNearTo 26 = .ok (.putfield 34, 3) := by decide +kernel
theorem dX0_drawNearTo_29 : decode cX0_drawNearTo 29 = .ok (.return_, 1) := by decide +kernel
theorem dX1_init_0 : decode cX1_init 0 = .ok (.aload_n 0, 1) := by decide +kernel
theorem dX1_init_1 : decode cX1_init 1 = .ok (.invokespecial 3, 3) := by decide +kernel
theorem dX1_init_4 : decode cX1_init 4 = .ok (.aload_n 0, 1) := by decide +kernel
theorem dX1_init_5 : decode cX1_init 5 = .ok (.bipush (-18), 2) := by decide +kernel
theorem dX1_init_7 : decode cX1_init 7 = .ok (.putfield 9, 3) := by decide +kernel
theorem dX1_init_10 : decode cX1_init 10 = .ok (.aload_n 0, 1) := by decide +kernel
theorem dX1_init_11 : decode cX1_init 11 = .ok (.bipush (-18), 2) := by decide +kernel
theorem dX1_init_13 : decode cX1_init 13 = .ok (.putfield 15, 3) := by decide +kernel
theorem dX1_init_16 : decode cX1_init 16 = .ok (.aload_n 0, 1) := by decide +kernel
theorem dX1_init_17 : decode cX1_init 17 = .ok (.iload_n 1, 1) := by decide +kernel
theorem dX1_init_18 : decode cX1_init 18 = .ok (.putfield 18, 3) := by decide +kernel
theorem dX1_init_21 : decode cX1_init 21 = .ok (.return_, 1) := by decide +kernel
theorem dX1_openDoor_0 : decode cX1_openDoor 0 = .ok (.aload_n 0, 1) := by decide +kernel
theorem dX1_openDoor_1 : decode cX1_openDoor 1 = .ok (.aload_n 0, 1) := by decide +kernel
theorem dX1_openDoor_2 : decode cX1_openDoor 2 = .ok (.getfield 15, 3) := by decide +kernel
theorem dX1_openDoor_5 : decode cX1_openDoor 5 = .ok (.iconst 2, 1) := by decide +kernel
theorem dX1_openDoor_6 : decode cX1_openDoor 6 = .ok (.iadd, 1) := by decide +kernel
theorem dX1_openDoor_7 : decode cX1_openDoor 7 = .ok (.bipush 20, 2) := by decide +kernel
theorem dX1_openDoor_9 : decode cX1_openDoor 9 = .ok (.invokestatic 21, 3) := by decide +kernel
theorem dX1_openDoor_12 : decode cX1_openDoor 12 = .ok (.putfield 15, 3) := by decide +kernel
theorem dX1_openDoor_15 : decode cX1_openDoor 15 = .ok (.return_, 1) := by decide +kernel
theorem dX1_liveAnHour_0 : decode cX1_liveAnHour 0 = .ok (.iload_n 1, 1) := by decide +kernel
theorem dX1_liveAnHour_1 : decode cX1_liveAnHour 1 = .ok (.ifCond .ne 21, 3) := by decide +kernel
theorem dX1_liveAnHour_4 : decode cX1_liveAnHour 4 = .ok (.aload_n 0, 1) := by decide +kernel
theorem dX1_liveAnHour_5 : decode cX1_liveAnHour 5 = .ok (.aload_n 0, 1) := by decide +kernel
theorem dX1_liveAnHour_6 : decode cX1_liveAnHour 6 = .ok (.getfield 15, 3) := by decide +kernel
theorem dX1_liveAnHour_9 : decode cX1_liveAnHour 9 = .ok (.iconst 1, 1) := by decide +kernel
theorem dX1_liveAnHour_10 : decode cX1_liveAnHour 10 = .ok (.iadd, 1) := by decide +kernel
theorem dX1_liveAnHour_11 : decode cX1_liveAnHour 11 = .ok (.bipush 20, 2) := by decide +kernel
theorem dX1_liveAnHour_13 : decode cX1_liveAnHour 13 = .ok (.invokestatic 21, 3) := by decide +kernel
theorem dX1_liveAnHour_16 : decode cX1_liveAnHour 16 = .ok (.putfield 15, 3) := by decide +kernel
theorem dX1_liveAnHour_19 : decode cX1_liveAnHour 19 = .ok (.goto 51, 3) := by decide +kernel
theorem dX1_liveAnHour_22 : decode cX1_liveAnHour 22 = .ok (.aload_n 0, 1) := by decide +kernel
theorem dX1_liveAnHour_23 : decode cX1_liveAnHour 23 = .ok (.getfield 15, 3) := by decide +kernel
theorem dX1_liveAnHour_26 : decode cX1_liveAnHour 26 = .ok (.aload_n 0, 1) := by decide +kernel
theorem dX1_liveAnHour_27 : decode cX1_liveAnHour 27 = .ok (.getfield 9, 3) := by decide +kernel
theorem dX1_liveAnHour_30 : decode cX1_liveAnHour 30 = .ok (.if_icmp .ge 23, 3) := by decide +kernel
theorem dX1_liveAnHour_33 : decode cX1_liveAnHour 33 = .ok (.aload_n 0, 1) := by decide +kernel
theorem dX1_liveAnHour_34 : decode cX1_liveAnHour 34 = .ok (.aload_n 0, 1) := by decide +kernel
theorem dX1_liveAnHour_35 : decode cX1_liveAnHour 35 = .ok (.getfield 15, 3) := by decide +kernel
theorem dX1_liveAnHour_38 : decode cX1_liveAnHour 38 = .ok (.iconst 2, 1) := by decide +kernel
theorem dX1_liveAnHour_39 : decode cX1_liveAnHour 39 = .ok (.iadd, 1) := by decide +kernel
theorem dX1_liveAnHour_40 : decode cX1_liveAnHour 40 = .ok (.aload_n 0, 1) := by decide +kernel
theorem dX1_liveAnHour_41 : decode cX1_liveAnHour 41 = .ok (.getfield 9, 3) := by decide +kernel
theorem dX1_liveAnHour_44 : decode cX1_liveAnHour 44 = .ok (.invokestatic 21, 3) := by decide +kernel
theorem dX1_liveAnHour_47 : decode cX1_liveAnHour 47 = .ok (.putfield 15, 3) := by decide +kernel
theorem dX1_liveAnHour_50 : decode cX1_liveAnHour 50 = .ok (.goto 20, 3) := by decide +kernel
theorem dX1_liveAnHour_53 : decode cX1_liveAnHour 53 = .ok (.aload_n 0, 1) := by decide +kernel
theorem dX1_liveAnHour_54 : decode cX1_liveAnHour 54 = .ok (.aload_n 0, 1) := by decide +kernel
theorem dX1_liveAnHour_55 : decode cX1_liveAnHour 55 = .ok (.getfield 15, 3) := by decide +kernel
theorem dX1_liveAnHour_58 : decode cX1_liveAnHour 58 = .ok (.iconst 2, 1) := by decide +kernel
theorem dX1_liveAnHour_59 : decode cX1_liveAnHour 59 = .ok (.isub, 1) := by decide +kernel
theorem dX1_liveAnHour_60 : decode cX1_liveAnHour 60 = .ok (.aload_n 0, 1) := by decide +kernel
theorem dX1_liveAnHour_61 : decode cX1_liveAnHour 61 = .ok (.getfield 9, 3) := by decide +kernel
theorem dX1_liveAnHour_64 : decode cX1_liveAnHour 64 = .ok (.invokestatic 27, 3) := by decide +kernel
theorem dX1_liveAnHour_67 : decode cX1_liveAnHour 67 = .ok (.putfield 15, 3) := by decide +kernel
theorem dX1_liveAnHour_70 : decode cX1_liveAnHour 70 = .ok (.return_, 1) := by decide +kernel
theorem dX1_becomeLike_0 : decode cX1_becomeLike 0 = .ok (.aload_n 0, 1) := by decide +kernel
theorem dX1_becomeLike_1 : decode cX1_becomeLike 1 = .ok (.aload_n 1, 1) := by decide +kernel
theorem dX1_becomeLike_2 : decode cX1_becomeLike 2 = .ok (.getfield 9, 3) := by decide +kernel
theorem dX1_becomeLike_5 : decode cX1_becomeLike 5 = .ok (.putfield 9, 3) := by decide +kernel
theorem dX1_becomeLike_8 : decode cX1_becomeLike 8 = .ok (.aload_n 0, 1) := by decide +kernel
theorem dX1_becomeLike_9 : decode cX1_becomeLike 9 = .ok (.aload_n 1, 1) := by decide +kernel
theorem dX1_becomeLike_10 : decode cX1_becomeLike 10 = .ok (.getfield 15, 3) := by decide +kernel
theorem dX1_becomeLike_13 : decode cX1_becomeLike 13 = .ok (.putfield 15, 3) := by decide +kernel
theorem dX1_becomeLike_16 : decode cX1_becomeLike 16 = .ok (.return_, 1) := by decide +kernel
theorem dX3_init_0 : decode cX3_init 0 = .ok (.aload_n 0, 1) := by decide +kernel
theorem dX3_init_1 : decode cX3_init 1 = .ok (.invokespecial 1, 3) := by decide +kernel
theorem dX3_init_4 : decode cX3_init 4 = .ok (.aload_n 0, 1) := by decide +kernel
theorem dX3_init_5 : decode cX3_init 5 = .ok (.iconst 5, 1) := by decide +kernel
theorem dX3_init_6 : decode cX3_init 6 = .ok (.anewarray 9, 3) := by decide +kernel
theorem dX3_init_9 : decode cX3_init 9 = .ok (.putfield 11, 3) := by decide +kernel
theorem dX3_init_12 : decode cX3_init 12 = .ok (.aload_n 0, 1) := by decide +kernel
theorem dX3_init_13 : decode cX3_init 13 = .ok (.bipush 20, 2) := by decide +kernel
theorem dX3_init_15 : decode cX3_init 15 = .ok (.anewarray 15, 3) := by decide +kernel
theorem dX3_init_18 : decode cX3_init 18 = .ok (.putfield 17, 3) := by decide +kernel
theorem dX3_init_21 : decode cX3_init 21 = .ok (.aload_n 0, 1) := by decide +kernel
theorem dX3_init_22 : decode cX3_init 22 = .ok (.iconst 0, 1) := by decide +kernel
theorem dX3_init_23 : decode cX3_init 23 = .ok (.putfield 21, 3) := by decide +kernel
theorem dX3_init_26 : decode cX3_init 26 = .ok (.aload_n 0, 1) := by decide +kernel
theorem dX3_init_27 : decode cX3_init 27 = .ok (.iconst 0, 1) := by decide +kernel
theorem dX3_init_28 : decode cX3_init 28 = .ok (.putfield 25, 3) := by decide +kernel
theorem dX3_init_31 : decode cX3_init 31 = .ok (.aload_n 0, 1) := by decide +kernel
theorem dX3_init_32 : decode cX3_init 32 = .ok (.iconst 0, 1) := by decide +kernel
theorem dX3_init_33 : decode cX3_init 33 = .ok (.putfield 28, 3) := by decide +kernel
theorem dX3_init_36 : decode cX3_init 36 = .ok (.aload_n 0, 1) := by decide +kernel
theorem dX3_init_37 : decode cX3_init 37 = .ok (.iconst 1, 1) := by decide +kernel
theorem dX3_init_38 : decode cX3_init 38 = .ok (.putfield 31, 3) := by decide +kernel
theorem dX3_init_41 : decode cX3_init 41 = .ok (.aload_n 0, 1) := by decide +kernel
theorem dX3_init_42 : decode cX3_init 42 = .ok (.new 9, 3) := by decide +kernel
theorem dX3_init_45 : decode cX3_init 45 = .ok (.dup, 1) := by decide +kernel
theorem dX3_init_46 : decode cX3_init 46 = .ok (.iconst (-1), 1) := by decide +kernel
theorem dX3_init_47 : decode cX3_init 47 = .ok (.invokespecial 35, 3) := by decide +kernel
theorem dX3_init_50 : decode cX3_init 50 = .ok (.putfield 38, 3) := by decide +kernel
theorem dX3_init_53 : decode cX3_init 53 = .ok (.aload_n 0, 1) := by decide +kernel
theorem dX3_init_54 : decode cX3_init 54 = .ok (.new 15, 3) := by decide +kernel
theorem dX3_init_57 : decode cX3_init 57 = .ok (.dup, 1) := by decide +kernel
theorem dX3_init_58 : decode cX3_init 58 = .ok (.invokespecial 42, 3) := by decide +kernel
theorem dX3_init_61 : decode cX3_init 61 = .ok (.putfield 43, 3) := by decide +kernel
theorem dX3_init_64 : decode cX3_init 64 = .ok (.iconst 0, 1) := by decide +kernel
theorem dX3_init_65 : decode cX3_init 65 = .ok (.istore_n 1, 1) := by decide +kernel
theorem dX3_init_66 : decode cX3_init 66 = .ok (.iload_n 1, 1) := by decide +kernel
theorem dX3_init_67 : decode cX3_init 67 = .ok (.iconst 5, 1) := by decide +kernel
theorem dX3_init_68 : decode cX3_init 68 = .ok (.if_icmp .ge 23, 3) := by decide +kernel
theorem dX3_init_71 : decode cX3_init 71 = .ok (.aload_n 0, 1) := by decide +kernel
theorem dX3_init_72 : decode cX3_init 72 = .ok (.getfield 11, 3) := by decide +kernel
theorem dX3_init_75 : decode cX3_init 75 = .ok (.iload_n 1, 1) := by decide +kernel
theorem dX3_init_76 : decode cX3_init 76 = .ok (.new 9, 3) := by decide +kernel
theorem dX3_init_79 : decode cX3_init 79 = .ok (.dup, 1) := by decide +kernel
theorem dX3_init_80 : decode cX3_init 80 = .ok (.iload_n 1, 1) := by decide +kernel
theorem dX3_init_81 : decode cX3_init 81 = .ok (.invokespecial 35, 3) := by decide +kernel
theorem dX3_init_84 : decode cX3_init 84 = .ok (.aastore, 1) := by decide +kernel
theorem dX3_init_85 : decode cX3_init 85 = .ok (.iinc 1 1, 3) := by decide +kernel
theorem dX3_init_88 : decode cX3_init 88 = .ok (.goto (-22), 3) := by decide +kernel
theorem dX3_init_91 : decode cX3_init 91 = .ok (.iconst 0, 1) := by decide +kernel
theorem dX3_init_92 : decode cX3_init 92 = .ok (.istore_n 1, 1) := by decide +kernel
theorem dX3_init_93 : decode cX3_init 93 = .ok (.iload_n 1, 1) := by decide +kernel
theorem dX3_init_94 : decode cX3_init 94 = .ok (.bipush 20, 2) := by decide +kernel
theorem dX3_init_96 : decode cX3_init 96 = .ok (.if_icmp .ge 22, 3) := by decide +kernel
theorem dX3_init_99 : decode cX3_init 99 = .ok (.aload_n 0, 1) := by decide +kernel
theorem dX3_init_100 : decode cX3_init 100 = .ok (.getfield 17, 3) := by decide +kernel
theorem dX3_init_103 : decode cX3_init 103 = .ok (.iload_n 1, 1) := by decide +kernel
theorem dX3_init_104 : decode cX3_init 104 = .ok (.new 15, 3) := by decide +kernel
theorem dX3_init_107 : decode cX3_init 107 = .ok (.dup, 1) := by decide +kernel
theorem dX3_init_108 : decode cX3_init 108 = .ok (.invokespecial 42, 3) := by decide +kernel
theorem dX3_init_111 : decode cX3_init 111 = .ok (.aastore, 1) := by decide +kernel
theorem dX3_init_112 : decode cX3_init 112 = .ok (.iinc 1 1, 3) := by decide +kernel
theorem dX3_init_115 : decode cX3_init 115 = .ok (.goto (-22), 3) := by decide +kernel
theorem dX3_init_118 : decode cX3_init 118 = .ok (.return_, 1) := by decide +kernel
theorem dX3_make_0 : decode cX3_make 0 = .ok (.iload_n 1, 1) := by decide +kernel
theorem dX3_make_1 : decode cX3_make 1 = .ok (.invokestatic 47, 3) := by decide +kernel
theorem dX3_make_4 : decode cX3_make 4 = .ok (.aload_n 0, 1) := by decide +kernel
theorem dX3_make_5 : decode cX3_make 5 = .ok (.iload_n 3, 1) := by decide +kernel
theorem dX3_make_6 : decode cX3_make 6 = .ok (.invokevirtual 50, 3) := by decide +kernel
theorem dX3_make_9 : decode cX3_make 9 = .ok (.astore 4, 2) := by decide +kernel
theorem dX3_make_11 : decode cX3_make 11 = .ok (.iload_n 2, 1) := by decide +kernel
theorem dX3_make_12 : decode cX3_make 12 = .ok (.iconst 1, 1) := by decide +kernel
theorem dX3_make_13 : decode cX3_make 13 = .ok (.if_icmp .lt 9, 3) := by decide +kernel
theorem dX3_make_16 : decode cX3_make 16 = .ok (.iload_n 2, 1) := by decide +kernel
theorem dX3_make_17 : decode cX3_make 17 = .ok (.bipush 100, 2) := by decide +kernel
theorem dX3_make_19 : decode cX3_make 19 = .ok (.if_icmp .le 13, 3) := by decide +kernel
theorem dX3_make_22 : decode cX3_make 22 = .ok (.new 54, 3) := by decide +kernel
theorem dX3_make_25 : decode cX3_make 25 = .ok (.dup, 1) := by decide +kernel
theorem dX3_make_26 : decode cX3_make 26 = .ok (.ldc 56, 2) := by decide +kernel
theorem dX3_make_28 : decode cX3_make 28 = .ok (.invokespecial 58, 3) := by decide +kernel
theorem dX3_make_31 : decode cX3_make 31 = .ok (.athrow, 1) := by decide +kernel
theorem dX3_make_32 : decode cX3_make 32 = .ok (.aload_n 0, 1) := by decide +kernel
theorem dX3_make_33 : decode cX3_make 33 = .ok (.getfield 21, 3) := by decide +kernel
theorem dX3_make_36 : decode cX3_make 36 = .ok (.bipush 20, 2) := by decide +kernel
theorem dX3_make_38 : decode cX3_make 38 = .ok (.if_icmp .lt 13, 3) := by decide +kernel
theorem dX3_make_41 : decode cX3_make 41 = .ok (.new 61, 3) := by decide +kernel
theorem dX3_make_44 : decode cX3_make 44 = .ok (.dup, 1) := by decide +kernel
theorem dX3_make_45 : decode cX3_make 45 = .ok (.ldc 63, 2) := by decide +kernel
theorem dX3_make_47 : decode cX3_make 47 = .ok (.invokespecial 65, 3) := by decide +kernel
theorem dX3_make_50 : decode cX3_make 50 = .ok (.athrow, 1) := by decide +kernel
theorem dX3_make_51 : decode cX3_make 51 = .ok (.aload_n 0, 1) := by decide +kernel
theorem dX3_make_52 : decode cX3_make 52 = .ok (.getfield 21, 3) := by decide +kernel
theorem dX3_make_55 : decode cX3_make 55 = .ok (.istore 5, 2) := by decide +kernel
theorem dX3_make_57 : decode cX3_make 57 = .ok (.aload_n 0, 1) := by decide +kernel
theorem dX3_make_58 : decode cX3_make 58 = .ok (.getfield 17, 3) := by decide +kernel
theorem dX3_make_61 : decode cX3_make 61 = .ok (.iload 5, 2) := by decide +kernel
theorem dX3_make_63 : decode cX3_make 63 = .ok (.aaload, 1) := by decide +kernel
theorem dX3_make_64 : decode cX3_make 64 = .ok (.iload_n 1, 1) := by decide +kernel
theorem dX3_make_65 : decode cX3_make 65 = .ok (.iload_n 2, 1) := by decide +kernel
theorem dX3_make_66 : decode cX3_make 66 = .ok (.aload 4, 2) := by decide +kernel
theorem dX3_make_68 : decode cX3_make 68 = .ok (.invokevirtual 66, 3) := by decide +kernel
theorem dX3_make_71 : decode cX3_make 71 = .ok (.aload 4, 2) := by decide +kernel
theorem dX3_make_73 : decode cX3_make 73 = .ok (.invokevirtual 70, 3) := by decide +kernel
theorem dX3_make_76 : decode cX3_make 76 = .ok (.aload_n 0, 1) := by decide +kernel
theorem dX3_make_77 : decode cX3_make 77 = .ok (.dup, 1) := by decide +kernel
theorem dX3_make_78 : decode cX3_make 78 = .ok (.getfield 21, 3) := by decide +kernel
theorem dX3_make_81 : decode cX3_make 81 = .ok (.iconst 1, 1) := by decide +kernel
theorem dX3_make_82 : decode cX3_make 82 = .ok (.iadd, 1) := by decide +kernel
theorem dX3_make_83 : decode cX3_make 83 = .ok (.putfield 21, 3) := by decide +kernel
theorem dX3_make_86 : decode cX3_make 86 = .ok (.iload 5, 2) := by decide +kernel
theorem dX3_make_88 : decode cX3_make 88 = .ok (.ireturn, 1) := by decide +kernel
theorem dX3_move_0 : decode cX3_move 0 = .ok (.aload_n 0, 1) := by decide +kernel
theorem dX3_move_1 : decode cX3_move 1 = .ok (.iload_n 1, 1) := by decide +kernel
theorem dX3_move_2 : decode cX3_move 2 = .ok (.invokevirtual 73, 3) := by decide +kernel
theorem dX3_move_5 : decode cX3_move 5 = .ok (.astore_n 3, 1) := by decide +kernel
theorem dX3_move_6 : decode cX3_move 6 = .ok (.aload_n 0, 1) := by decide +kernel
theorem dX3_move_7 : decode cX3_move 7 = .ok (.iload_n 2, 1) := by decide +kernel
theorem dX3_move_8 : decode cX3_move 8 = .ok (.invokevirtual 50, 3) := by decide +kernel
theorem dX3_move_11 : decode cX3_move 11 = .ok (.astore 4, 2) := by decide +kernel
theorem dX3_move_13 : decode cX3_move 13 = .ok (.aload_n 3, 1) := by decide +kernel
theorem dX3_move_14 : decode cX3_move 14 = .ok (.getfield 77, 3) := by decide +kernel
theorem dX3_move_17 : decode cX3_move 17 = .ok (.astore 5, 2) := by decide +kernel
theorem dX3_move_19 : decode cX3_move 19 = .ok (.aload 5, 2) := by decide +kernel
theorem dX3_move_21 : decode cX3_move 21 = .ok (.ifnonnull 13, 3) := by decide +kernel
theorem dX3_move_24 : decode cX3_move 24 = .ok (.new 61, 3) := by decide +kernel
theorem dX3_move_27 : decode cX3_move 27 = .ok (.dup, 1) := by decide +kernel
theorem dX3_move_28 : decode cX3_move 28 = .ok (.ldc 80, 2) := by decide +kernel
theorem dX3_move_30 : decode cX3_move 30 = .ok (.invokespecial 65, 3) := by decide +kernel
theorem dX3_move_33 : decode cX3_move 33 = .ok (.athrow, 1) := by decide +kernel
theorem dX3_move_34 : decode cX3_move 34 = .ok (.aload 5, 2) := by decide +kernel
theorem dX3_move_36 : decode cX3_move 36 = .ok (.aload 4, 2) := by decide +kernel
theorem dX3_move_38 : decode cX3_move 38 = .ok (.if_acmp .ne 13, 3) := by decide +kernel
theorem dX3_move_41 : decode cX3_move 41 = .ok (.new 61, 3) := by decide +kernel
theorem dX3_move_44 : decode cX3_move 44 = .ok (.dup, 1) := by decide +kernel
theorem dX3_move_45 : decode cX3_move 45 = .ok (.ldc 82, 2) := by decide +kernel
theorem dX3_move_47 : decode cX3_move 47 = .ok (.invokespecial 65, 3) := by decide +kernel
theorem dX3_move_50 : decode cX3_move 50 = .ok (.athrow, 1) := by decide +kernel
theorem dX3_move_51 : decode cX3_move 51 = .ok (.aload_n 3, 1) := by decide +kernel
theorem dX3_move_52 : decode cX3_move 52 = .ok (.getfield 84, 3) := by decide +kernel
theorem dX3_move_55 : decode cX3_move 55 = .ok (.getstatic 88, 3) := by decide +kernel
theorem dX3_move_58 : decode cX3_move 58 = .ok (.if_acmp .ne 13, 3) := by decide +kernel
theorem dX3_move_61 : decode cX3_move 61 = .ok (.new 61, 3) := by decide +kernel
theorem dX3_move_64 : decode cX3_move 64 = .ok (.dup, 1) := by decide +kernel
theorem dX3_move_65 : decode cX3_move 65 = .ok (.ldc 93, 2) := by decide +kernel
theorem dX3_move_67 : decode cX3_move 67 = .ok (.invokespecial 65, 3) := by decide +kernel
theorem dX3_move_70 : decode cX3_move 70 = .ok (.athrow, 1) := by decide +kernel
theorem dX3_move_71 : decode cX3_move 71 = .ok (.aload_n 3, 1) := by decide +kernel
theorem dX3_move_72 : decode cX3_move 72 = .ok (.aload 4, 2) := by decide +kernel
theorem dX3_move_74 : decode cX3_move 74 = .ok (.putfield 77, 3) := by decide +kernel
theorem dX3_move_77 : decode cX3_move 77 = .ok (.aload 5, 2) := by decide +kernel
theorem dX3_move_79 : decode cX3_move 79 = .ok (.invokevirtual 70, 3) := by decide +kernel
theorem dX3_move_82 : decode cX3_move 82 = .ok (.aload 4, 2) := by decide +kernel
theorem dX3_move_84 : decode cX3_move 84 = .ok (.invokevirtual 70, 3) := by decide +kernel
theorem dX3_move_87 : decode cX3_move 87 = .ok (.aload 5, 2) := by decide +kernel
theorem dX3_move_89 : decode cX3_move 89 = .ok (.getfield 95, 3) := by decide +kernel
theorem dX3_move_92 : decode cX3_move 92 = .ok (.ireturn, 1) := by decide +kernel
theorem dX3_keep_0 : decode cX3_keep 0 = .ok (.aload_n 0, 1) := by decide +kernel
theorem dX3_keep_1 : decode cX3_keep 1 = .ok (.iload_n 1, 1) := by decide +kernel
theorem dX3_keep_2 : decode cX3_keep 2 = .ok (.invokevirtual 73, 3) := by decide +kernel
theorem dX3_keep_5 : decode cX3_keep 5 = .ok (.astore_n 2, 1) := by decide +kernel
theorem dX3_keep_6 : decode cX3_keep 6 = .ok (.aload_n 2, 1) := by decide +kernel
theorem dX3_keep_7 : decode cX3_keep 7 = .ok (.getfield 77, 3) := by decide +kernel
theorem dX3_keep_10 : decode cX3_keep 10 = .ok (.astore_n 3, 1) := by decide +kernel
theorem dX3_keep_11 : decode cX3_keep 11 = .ok (.aload_n 3, 1) := by decide +kernel
theorem dX3_keep_12 : decode cX3_keep 12 = .ok (.ifnonnull 13, 3) := by decide +kernel
theorem dX3_keep_15 : decode cX3_keep 15 = .ok (.new 61, 3) := by decide +kernel
theorem dX3_keep_18 : decode cX3_keep 18 = .ok (.dup, 1) := by decide +kernel
theorem dX3_keep_19 : decode cX3_keep 19 = .ok (.ldc 80, 2) := by decide +kernel
theorem dX3_keep_21 : decode cX3_keep 21 = .ok (.invokespecial 65, 3) := by decide +kernel
theorem dX3_keep_24 : decode cX3_keep 24 = .ok (.athrow, 1) := by decide +kernel
theorem dX3_keep_25 : decode cX3_keep 25 = .ok (.aload_n 2, 1) := by decide +kernel
theorem dX3_keep_26 : decode cX3_keep 26 = .ok (.getstatic 98, 3) := by decide +kernel
theorem dX3_keep_29 : decode cX3_keep 29 = .ok (.invokevirtual 101, 3) := by decide +kernel
theorem dX3_keep_32 : decode cX3_keep 32 = .ok (.aload_n 3, 1) := by decide +kernel
theorem dX3_keep_33 : decode cX3_keep 33 = .ok (.invokevirtual 70, 3) := by decide +kernel
theorem dX3_keep_36 : decode cX3_keep 36 = .ok (.aload_n 2, 1) := by decide +kernel
theorem dX3_keep_37 : decode cX3_keep 37 = .ok (.getfield 105, 3) := by decide +kernel
theorem dX3_keep_40 : decode cX3_keep 40 = .ok (.aload_n 2, 1) := by decide +kernel
theorem dX3_keep_41 : decode cX3_keep 41 = .ok (.getfield 108, 3) := by decide +kernel
theorem dX3_keep_44 : decode cX3_keep 44 = .ok (.isub, 1) := by decide +kernel
theorem dX3_keep_45 : decode cX3_keep 45 = .ok (.ireturn, 1) := by decide +kernel
theorem dX3_set_0 : decode cX3_set 0 = .ok (.aload_n 0, 1) := by decide +kernel
theorem dX3_set_1 : decode cX3_set 1 = .ok (.iload_n 1, 1) := by decide +kernel
theorem dX3_set_2 : decode cX3_set 2 = .ok (.invokevirtual 50, 3) := by decide +kernel
theorem dX3_set_5 : decode cX3_set 5 = .ok (.astore_n 3, 1) := by decide +kernel
theorem dX3_set_6 : decode cX3_set 6 = .ok (.iload_n 2, 1) := by decide +kernel
theorem dX3_set_7 : decode cX3_set 7 = .ok (.bipush (-30), 2) := by decide +kernel
theorem dX3_set_9 : decode cX3_set 9 = .ok (.if_icmp .lt 9, 3) := by decide +kernel
theorem dX3_set_12 : decode cX3_set 12 = .ok (.iload_n 2, 1) := by decide +kernel
theorem dX3_set_13 : decode cX3_set 13 = .ok (.bipush (-5), 2) := by decide +kernel
theorem dX3_set_15 : decode cX3_set 15 = .ok (.if_icmp .le 13, 3) := by decide +kernel
theorem dX3_set_18 : decode cX3_set 18 = .ok (.new 54, 3) := by decide +kernel
theorem dX3_set_21 : decode cX3_set 21 = .ok (.dup, 1) := by decide +kernel
theorem dX3_set_22 : decode cX3_set 22 = .ok (.ldc 111, 2) := by decide +kernel
theorem dX3_set_24 : decode cX3_set 24 = .ok (.invokespecial 58, 3) := by decide +kernel
theorem dX3_set_27 : decode cX3_set 27 = .ok (.athrow, 1) := by decide +kernel
theorem dX3_set_28 : decode cX3_set 28 = .ok (.aload_n 3, 1) := by decide +kernel
theorem dX3_set_29 : decode cX3_set 29 = .ok (.getfield 113, 3) := by decide +kernel
theorem dX3_set_32 : decode cX3_set 32 = .ok (.istore 4, 2) := by decide +kernel
theorem dX3_set_34 : decode cX3_set 34 = .ok (.aload_n 3, 1) := by decide +kernel
theorem dX3_set_35 : decode cX3_set 35 = .ok (.iload_n 2, 1) := by decide +kernel
theorem dX3_set_36 : decode cX3_set 36 = .ok (.putfield 113, 3) := by decide +kernel
theorem dX3_set_39 : decode cX3_set 39 = .ok (.iload 4, 2) := by decide +kernel
theorem dX3_set_41 : decode cX3_set 41 = .ok (.ireturn, 1) := by decide +kernel
theorem dX3_switchPower_0 : decode cX3_switchPower 0 = .ok (.aload_n 0, 1) := by decide +kernel
theorem dX3_switchPower_1 : decode cX3_switchPower 1 = .ok (.aload_n 0, 1) := by decide +kernel
theorem dX3_switchPower_2 : decode cX3_switchPower 2 = .ok (.getfield 31, 3) := by decide +kernel
theorem dX3_switchPower_5 : decode cX3_switchPower 5 = .ok (.ifCond .ne 7, 3) := by decide +kernel
theorem dX3_switchPower_8 : decode cX3_switchPower 8 = .ok (.iconst 1, 1) := by decide +kernel
theorem dX3_switchPower_9 : decode cX3_switchPower 9 = .ok (.goto 4, 3) := by decide +kernel
theorem dX3_switchPower_12 : decode cX3_switchPower 12 = .ok (.iconst 0, 1) := by decide +kernel
theorem dX3_switchPower_13 : decode cX3_switchPower 13 = .ok (.putfield 31, 3) := by decide +kernel
theorem dX3_switchPower_16 : decode cX3_switchPower 16 = .ok (.aload_n 0, 1) := by decide +kernel
theorem dX3_switchPower_17 : decode cX3_switchPower 17 = .ok (.getfield 31, 3) := by decide +kernel
theorem dX3_switchPower_20 : decode cX3_switchPower 20 = .ok (.ireturn, 1) := by decide +kernel
theorem dX3_pass_0 : decode cX3_pass 0 = .ok (.iload_n 1, 1) := by decide +kernel
theorem dX3_pass_1 : decode cX3_pass 1 = .ok (.invokestatic 116, 3) := by decide +kernel
theorem dX3_pass_4 : decode cX3_pass 4 = .ok (.aload_n 0, 1) := by decide +kernel
theorem dX3_pass_5 : decode cX3_pass 5 = .ok (.getfield 25, 3) := by decide +kernel
theorem dX3_pass_8 : decode cX3_pass 8 = .ok (.istore_n 2, 1) := by decide +kernel
theorem dX3_pass_9 : decode cX3_pass 9 = .ok (.iconst 0, 1) := by decide +kernel
theorem dX3_pass_10 : decode cX3_pass 10 = .ok (.istore_n 3, 1) := by decide +kernel
theorem dX3_pass_11 : decode cX3_pass 11 = .ok (.iload_n 3, 1) := by decide +kernel
theorem dX3_pass_12 : decode cX3_pass 12 = .ok (.iload_n 1, 1) := by decide +kernel
theorem dX3_pass_13 : decode cX3_pass 13 = .ok (.if_icmp .ge 13, 3) := by decide +kernel
theorem dX3_pass_16 : decode cX3_pass 16 = .ok (.aload_n 0, 1) := by decide +kernel
theorem dX3_pass_17 : decode cX3_pass 17 = .ok (.invokevirtual 119, 3) := by decide +kernel
theorem dX3_pass_20 : decode cX3_pass 20 = .ok (.iinc 3 1, 3) := by decide +kernel
theorem dX3_pass_23 : decode cX3_pass 23 = .ok (.goto (-12), 3) := by decide +kernel
theorem dX3_pass_26 : decode cX3_pass 26 = .ok (.aload_n 0, 1) := by decide +kernel
theorem dX3_pass_27 : decode cX3_pass 27 = .ok (.getfield 25, 3) := by decide +kernel
theorem dX3_pass_30 : decode cX3_pass 30 = .ok (.iload_n 2, 1) := by decide +kernel
theorem dX3_pass_31 : decode cX3_pass 31 = .ok (.isub, 1) := by decide +kernel
theorem dX3_pass_32 : decode cX3_pass 32 = .ok (.ireturn, 1) := by decide +kernel
theorem dX3_hour_0 : decode cX3_hour 0 = .ok (.aload_n 0, 1) := by decide +kernel
theorem dX3_hour_1 : decode cX3_hour 1 = .ok (.getfield 28, 3) := by decide +kernel
theorem dX3_hour_4 : decode cX3_hour 4 = .ok (.ireturn, 1) := by decide +kernel
theorem dX3_hasPower_0 : decode cX3_hasPower 0 = .ok (.aload_n 0, 1) := by decide +kernel
theorem dX3_hasPower_1 : decode cX3_hasPower 1 = .ok (.getfield 31, 3) := by decide +kernel
theorem dX3_hasPower_4 : decode cX3_hasPower 4 = .ok (.ireturn, 1) := by decide +kernel
theorem dX3_settingOf_0 : decode cX3_settingOf 0 = .ok (.aload_n 0, 1) := by decide +kernel
theorem dX3_settingOf_1 : decode cX3_settingOf 1 = .ok (.iload_n 1, 1) := by decide +kernel
theorem dX3_settingOf_2 : decode cX3_settingOf 2 = .ok (.invokevirtual 50, 3) := by decide +kernel
theorem dX3_settingOf_5 : decode cX3_settingOf 5 = .ok (.getfield 113, 3) := by decide +kernel
theorem dX3_settingOf_8 : decode cX3_settingOf 8 = .ok (.ireturn, 1) := by decide +kernel
theorem dX3_heatOn_0 : decode cX3_heatOn 0 = .ok (.aload_n 0, 1) := by decide +kernel
theorem dX3_heatOn_1 : decode cX3_heatOn 1 = .ok (.iload_n 1, 1) := by decide +kernel
theorem dX3_heatOn_2 : decode cX3_heatOn 2 = .ok (.invokevirtual 50, 3) := by decide +kernel
theorem dX3_heatOn_5 : decode cX3_heatOn 5 = .ok (.getfield 122, 3) := by decide +kernel
theorem dX3_heatOn_8 : decode cX3_heatOn 8 = .ok (.ireturn, 1) := by decide +kernel
theorem dX3_promisesOn_0 : decode cX3_promisesOn 0 = .ok (.aload_n 0, 1) := by decide +kernel
theorem dX3_promisesOn_1 : decode cX3_promisesOn 1 = .ok (.iload_n 1, 1) := by decide +kernel
theorem dX3_promisesOn_2 : decode cX3_promisesOn 2 = .ok (.invokevirtual 50, 3) := by decide +kernel
theorem dX3_promisesOn_5 : decode cX3_promisesOn 5 = .ok (.astore_n 2, 1) := by decide +kernel
theorem dX3_promisesOn_6 : decode cX3_promisesOn 6 = .ok (.iconst 0, 1) := by decide +kernel
theorem dX3_promisesOn_7 : decode cX3_promisesOn 7 = .ok (.istore_n 3, 1) := by decide +kernel
theorem dX3_promisesOn_8 : decode cX3_promisesOn 8 = .ok (.aload_n 0, 1) := by decide +kernel
theorem dX3_promisesOn_9 : decode cX3_promisesOn 9 = .ok (.getfield 17, 3) := by decide +kernel
theorem dX3_promisesOn_12 : decode cX3_promisesOn 12 = .ok (.astore 4, 2) := by decide +kernel
theorem dX3_promisesOn_14 : decode cX3_promisesOn 14 = .ok (.aload 4, 2) := by decide +kernel
theorem dX3_promisesOn_16 : decode cX3_promisesOn 16 = .ok (.arraylength, 1) := by decide +kernel
theorem dX3_promisesOn_17 : decode cX3_promisesOn 17 = .ok (.istore 5, 2) := by decide +kernel
theorem dX3_promisesOn_19 : decode cX3_promisesOn 19 = .ok (.iconst 0, 1) := by decide +kernel
theorem dX3_promisesOn_20 : decode cX3_promisesOn 20 = .ok (.istore 6, 2) := by decide +kernel
theorem dX3_promisesOn_22 : decode cX3_promisesOn 22 = .ok (.iload 6, 2) := by decide +kernel
theorem dX3_promisesOn_24 : decode cX3_promisesOn 24 = .ok (.iload 5, 2) := by decide +kernel
theorem dX3_promisesOn_26 : decode cX3_promisesOn 26 = .ok (.if_icmp .ge 28, 3) := by decide +kernel
theorem dX3_promisesOn_29 : decode cX3_promisesOn 29 = .ok (.aload 4, 2) := by decide +kernel
theorem dX3_promisesOn_31 : decode cX3_promisesOn 31 = .ok (.iload 6, 2) := by decide +kernel
theorem dX3_promisesOn_33 : decode cX3_promisesOn 33 = .ok (.aaload, 1) := by decide +kernel
theorem dX3_promisesOn_34 : decode cX3_promisesOn 34 = .ok (.astore 7, 2) := by decide +kernel
theorem dX3_promisesOn_36 : decode cX3_promisesOn 36 = .ok (.aload 7, 2) := by decide +kernel
theorem dX3_promisesOn_38 : decode cX3_promisesOn 38 = .ok (.getfield 77, 3) := by decide +kernel
theorem dX3_promisesOn_41 : decode cX3_promisesOn 41 = .ok (.aload_n 2, 1) := by decide +kernel
theorem dX3_promisesOn_42 : decode cX3_promisesOn 42 = .ok (.if_acmp .ne 6, 3) := by decide +kernel
theorem dX3_promisesOn_45 : decode cX3_promisesOn 45 = .ok (.iinc 3 1, 3) := by decide +kernel
theorem dX3_promisesOn_48 : decode cX3_promisesOn 48 = .ok (.iinc 6 1, 3) := by decide +kernel
theorem dX3_promisesOn_51 : decode cX3_promisesOn 51 = .ok (.goto (-29), 3) := by decide +kernel
theorem dX3_promisesOn_54 : decode cX3_promisesOn 54 = .ok (.iload_n 3, 1) := by decide +kernel
theorem dX3_promisesOn_55 : decode cX3_promisesOn 55 = .ok (.ireturn, 1) := by decide +kernel
theorem dX3_coldest_0 : decode cX3_coldest 0 = .ok (.iconst 0, 1) := by decide +kernel
theorem dX3_coldest_1 : decode cX3_coldest 1 = .ok (.istore_n 1, 1) := by decide +kernel
theorem dX3_coldest_2 : decode cX3_coldest 2 = .ok (.iconst 1, 1) := by decide +kernel
theorem dX3_coldest_3 : decode cX3_coldest 3 = .ok (.istore_n 2, 1) := by decide +kernel
theorem dX3_coldest_4 : decode cX3_coldest 4 = .ok (.iload_n 2, 1) := by decide +kernel
theorem dX3_coldest_5 : decode cX3_coldest 5 = .ok (.iconst 5, 1) := by decide +kernel
theorem dX3_coldest_6 : decode cX3_coldest 6 = .ok (.if_icmp .ge 32, 3) := by decide +kernel
theorem dX3_coldest_9 : decode cX3_coldest 9 = .ok (.aload_n 0, 1) := by decide +kernel
theorem dX3_coldest_10 : decode cX3_coldest 10 = .ok (.getfield 11, 3) := by decide +kernel
theorem dX3_coldest_13 : decode cX3_coldest 13 = .ok (.iload_n 2, 1) := by decide +kernel
theorem dX3_coldest_14 : decode cX3_coldest 14 = .ok (.aaload, 1) := by decide +kernel
theorem dX3_coldest_15 : decode cX3_coldest 15 = .ok (.getfield 122, 3) := by decide +kernel
theorem dX3_coldest_18 : decode cX3_coldest 18 = .ok (.aload_n 0, 1) := by decide +kernel
theorem dX3_coldest_19 : decode cX3_coldest 19 = .ok (.getfield 11, 3) := by decide +kernel
theorem dX3_coldest_22 : decode cX3_coldest 22 = .ok (.iload_n 1, 1) := by decide +kernel
theorem dX3_coldest_23 : decode cX3_coldest 23 = .ok (.aaload, 1) := by decide +kernel
theorem dX3_coldest_24 : decode cX3_coldest 24 = .ok (.getfield 122, 3) := by decide +kernel
theorem dX3_coldest_27 : decode cX3_coldest 27 = .ok (.if_icmp .ge 5, 3) := by decide +kernel
theorem dX3_coldest_30 : decode cX3_coldest 30 = .ok (.iload_n 2, 1) := by decide +kernel
theorem dX3_coldest_31 : decode cX3_coldest 31 = .ok (.istore_n 1, 1) := by decide +kernel
theorem dX3_coldest_32 : decode cX3_coldest 32 = .ok (.iinc 2 1, 3) := by decide +kernel
theorem dX3_coldest_35 : decode cX3_coldest 35 = .ok (.goto (-31), 3) := by decide +kernel
theorem dX3_coldest_38 : decode cX3_coldest 38 = .ok (.iload_n 1, 1) := by decide +kernel
theorem dX3_coldest_39 : decode cX3_coldest 39 = .ok (.ireturn, 1) := by decide +kernel
theorem dX3_alarms_0 : decode cX3_alarms 0 = .ok (.aload_n 0, 1) := by decide +kernel
theorem dX3_alarms_1 : decode cX3_alarms 1 = .ok (.getfield 25, 3) := by decide +kernel
theorem dX3_alarms_4 : decode cX3_alarms 4 = .ok (.ireturn, 1) := by decide +kernel
theorem dX3_promises_0 : decode cX3_promises 0 = .ok (.aload_n 0, 1) := by decide +kernel
theorem dX3_promises_1 : decode cX3_promises 1 = .ok (.getfield 21, 3) := by decide +kernel
theorem dX3_promises_4 : decode cX3_promises 4 = .ok (.ireturn, 1) := by decide +kernel
theorem dX3_makerOf_0 : decode cX3_makerOf 0 = .ok (.aload_n 0, 1) := by decide +kernel
theorem dX3_makerOf_1 : decode cX3_makerOf 1 = .ok (.iload_n 1, 1) := by decide +kernel
theorem dX3_makerOf_2 : decode cX3_makerOf 2 = .ok (.invokevirtual 73, 3) := by decide +kernel
theorem dX3_makerOf_5 : decode cX3_makerOf 5 = .ok (.getfield 125, 3) := by decide +kernel
theorem dX3_makerOf_8 : decode cX3_makerOf 8 = .ok (.ireturn, 1) := by decide +kernel
theorem dX3_shelfOf_0 : decode cX3_shelfOf 0 = .ok (.aload_n 0, 1) := by decide +kernel
theorem dX3_shelfOf_1 : decode cX3_shelfOf 1 = .ok (.iload_n 1, 1) := by decide +kernel
theorem dX3_shelfOf_2 : decode cX3_shelfOf 2 = .ok (.invokevirtual 73, 3) := by decide +kernel
theorem dX3_shelfOf_5 : decode cX3_shelfOf 5 = .ok (.getfield 77, 3) := by decide +kernel
theorem dX3_shelfOf_8 : decode cX3_shelfOf 8 = .ok (.astore_n 2, 1) := by decide +kernel
theorem dX3_shelfOf_9 : decode cX3_shelfOf 9 = .ok (.aload_n 2, 1) := by decide +kernel
theorem dX3_shelfOf_10 : decode cX3_shelfOf 10 = .ok (.ifnonnull 7, 3) := by decide +kernel
theorem dX3_shelfOf_13 : decode cX3_shelfOf 13 = .ok (.iconst (-1), 1) := by decide +kernel
theorem dX3_shelfOf_14 : decode cX3_shelfOf 14 = .ok (.goto 7, 3) := by decide +kernel
theorem dX3_shelfOf_17 : decode cX3_shelfOf 17 = .ok (.aload_n 2, 1) := by decide +kernel
theorem dX3_shelfOf_18 : decode cX3_shelfOf 18 = .ok (.getfield 95, 3) := by decide +kernel
theorem dX3_shelfOf_21 : decode cX3_shelfOf 21 = .ok (.ireturn, 1) := by decide +kernel
theorem dX3_heatOf_0 : decode cX3_heatOf 0 = .ok (.aload_n 0, 1) := by decide +kernel
theorem dX3_heatOf_1 : decode cX3_heatOf 1 = .ok (.iload_n 1, 1) := by decide +kernel
theorem dX3_heatOf_2 : decode cX3_heatOf 2 = .ok (.invokevirtual 73, 3) := by decide +kernel
theorem dX3_heatOf_5 : decode cX3_heatOf 5 = .ok (.getfield 128, 3) := by decide +kernel
theorem dX3_heatOf_8 : decode cX3_heatOf 8 = .ok (.ireturn, 1) := by decide +kernel
theorem dX3_ageOf_0 : decode cX3_ageOf 0 = .ok (.aload_n 0, 1) := by decide +kernel
theorem dX3_ageOf_1 : decode cX3_ageOf 1 = .ok (.iload_n 1, 1) := by decide +kernel
theorem dX3_ageOf_2 : decode cX3_ageOf 2 = .ok (.invokevirtual 73, 3) := by decide +kernel
theorem dX3_ageOf_5 : decode cX3_ageOf 5 = .ok (.getfield 108, 3) := by decide +kernel
theorem dX3_ageOf_8 : decode cX3_ageOf 8 = .ok (.ireturn, 1) := by decide +kernel
theorem dX3_hoursLeft_0 : decode cX3_hoursLeft 0 = .ok (.aload_n 0, 1) := by decide +kernel
theorem dX3_hoursLeft_1 : decode cX3_hoursLeft 1 = .ok (.iload_n 1, 1) := by decide +kernel
theorem dX3_hoursLeft_2 : decode cX3_hoursLeft 2 = .ok (.invokevirtual 73, 3) := by decide +kernel
theorem dX3_hoursLeft_5 : decode cX3_hoursLeft 5 = .ok (.astore_n 2, 1) := by decide +kernel
theorem dX3_hoursLeft_6 : decode cX3_hoursLeft 6 = .ok (.aload_n 2, 1) := by decide +kernel
theorem dX3_hoursLeft_7 : decode cX3_hoursLeft 7 = .ok (.getfield 105, 3) := by decide +kernel
theorem dX3_hoursLeft_10 : decode cX3_hoursLeft 10 = .ok (.aload_n 2, 1) := by decide +kernel
theorem dX3_hoursLeft_11 : decode cX3_hoursLeft 11 = .ok (.getfield 108, 3) := by decide +kernel
theorem dX3_hoursLeft_14 : decode cX3_hoursLeft 14 = .ok (.isub, 1) := by decide +kernel
theorem dX3_hoursLeft_15 : decode cX3_hoursLeft 15 = .ok (.ireturn, 1) := by decide +kernel
theorem dX3_isFrozen_0 : decode cX3_isFrozen 0 = .ok (.aload_n 0, 1) := by decide +kernel
theorem dX3_isFrozen_1 : decode cX3_isFrozen 1 = .ok (.iload_n 1, 1) := by decide +kernel
theorem dX3_isFrozen_2 : decode cX3_isFrozen 2 = .ok (.invokevirtual 73, 3) := by decide +kernel
theorem dX3_isFrozen_5 : decode cX3_isFrozen 5 = .ok (.getfield 84, 3) := by decide +kernel
theorem dX3_isFrozen_8 : decode cX3_isFrozen 8 = .ok (.getstatic 129, 3) := by decide +kernel
theorem dX3_isFrozen_11 : decode cX3_isFrozen 11 = .ok (.if_acmp .ne 7, 3) := by decide +kernel
theorem dX3_isFrozen_14 : decode cX3_isFrozen 14 = .ok (.iconst 1, 1) := by decide +kernel
theorem dX3_isFrozen_15 : decode cX3_isFrozen 15 = .ok (.goto 4, 3) := by decide +kernel
theorem dX3_isFrozen_18 : decode cX3_isFrozen 18 = .ok (.iconst 0, 1) := by decide +kernel
theorem dX3_isFrozen_19 : decode cX3_isFrozen 19 = .ok (.ireturn, 1) := by decide +kernel
theorem dX3_isThawed_0 : decode cX3_isThawed 0 = .ok (.aload_n 0, 1) := by decide +kernel
theorem dX3_isThawed_1 : decode cX3_isThawed 1 = .ok (.iload_n 1, 1) := by decide +kernel
theorem dX3_isThawed_2 : decode cX3_isThawed 2 = .ok (.invokevirtual 73, 3) := by decide +kernel
theorem dX3_isThawed_5 : decode cX3_isThawed 5 = .ok (.getfield 84, 3) := by decide +kernel
theorem dX3_isThawed_8 : decode cX3_isThawed 8 = .ok (.getstatic 88, 3) := by decide +kernel
theorem dX3_isThawed_11 : decode cX3_isThawed 11 = .ok (.if_acmp .ne 7, 3) := by decide +kernel
theorem dX3_isThawed_14 : decode cX3_isThawed 14 = .ok (.iconst 1, 1) := by decide +kernel
theorem dX3_isThawed_15 : decode cX3_isThawed 15 = .ok (.goto 4, 3) := by decide +kernel
theorem dX3_isThawed_18 : decode cX3_isThawed 18 = .ok (.iconst 0, 1) := by decide +kernel
theorem dX3_isThawed_19 : decode cX3_isThawed 19 = .ok (.ireturn, 1) := by decide +kernel
theorem dX3_isKept_0 : decode cX3_isKept 0 = .ok (.aload_n 0, 1) := by decide +kernel
theorem dX3_isKept_1 : decode cX3_isKept 1 = .ok (.iload_n 1, 1) := by decide +kernel
theorem dX3_isKept_2 : decode cX3_isKept 2 = .ok (.invokevirtual 73, 3) := by decide +kernel
theorem dX3_isKept_5 : decode cX3_isKept 5 = .ok (.getfield 84, 3) := by decide +kernel
theorem dX3_isKept_8 : decode cX3_isKept 8 = .ok (.getstatic 98, 3) := by decide +kernel
theorem dX3_isKept_11 : decode cX3_isKept 11 = .ok (.if_acmp .ne 7, 3) := by decide +kernel
theorem dX3_isKept_14 : decode cX3_isKept 14 = .ok (.iconst 1, 1) := by decide +kernel
theorem dX3_isKept_15 : decode cX3_isKept 15 = .ok (.goto 4, 3) := by decide +kernel
theorem dX3_isKept_18 : decode cX3_isKept 18 = .ok (.iconst 0, 1) := by decide +kernel
theorem dX3_isKept_19 : decode cX3_isKept 19 = .ok (.ireturn, 1) := by decide +kernel
theorem dX3_isExpired_0 : decode cX3_isExpired 0 = .ok (.aload_n 0, 1) := by decide +kernel
theorem dX3_isExpired_1 : decode cX3_isExpired 1 = .ok (.iload_n 1, 1) := by decide +kernel
theorem dX3_isExpired_2 : decode cX3_isExpired 2 = .ok (.invokevirtual 73, 3) := by decide +kernel
theorem dX3_isExpired_5 : decode cX3_isExpired 5 = .ok (.getfield 84, 3) := by decide +kernel
theorem dX3_isExpired_8 : decode cX3_isExpired 8 = .ok (.getstatic 132, 3) := by decide +kernel
theorem dX3_isExpired_11 : decode cX3_isExpired 11 = .ok (.if_acmp .ne 7, 3) := by decide +kernel
theorem dX3_isExpired_14 : decode cX3_isExpired 14 = .ok (.iconst 1, 1) := by decide +kernel
theorem dX3_isExpired_15 : decode cX3_isExpired 15 = .ok (.goto 4, 3) := by decide +kernel
theorem dX3_isExpired_18 : decode cX3_isExpired 18 = .ok (.iconst 0, 1) := by decide +kernel
theorem dX3_isExpired_19 : decode cX3_isExpired 19 = .ok (.ireturn, 1) := by decide +kernel
theorem dX3_owedBy_0 : decode cX3_owedBy 0 = .ok (.iload_n 1, 1) := by decide +kernel
theorem dX3_owedBy_1 : decode cX3_owedBy 1 = .ok (.invokestatic 47, 3) := by decide +kernel
theorem dX3_owedBy_4 : decode cX3_owedBy 4 = .ok (.iconst 0, 1) := by decide +kernel
theorem dX3_owedBy_5 : decode cX3_owedBy 5 = .ok (.istore_n 2, 1) := by decide +kernel
theorem dX3_owedBy_6 : decode cX3_owedBy 6 = .ok (.aload_n 0, 1) := by decide +kernel
theorem dX3_owedBy_7 : decode cX3_owedBy 7 = .ok (.getfield 17, 3) := by decide +kernel
theorem dX3_owedBy_10 : decode cX3_owedBy 10 = .ok (.astore_n 3, 1) := by decide +kernel
theorem dX3_owedBy_11 : decode cX3_owedBy 11 = .ok (.aload_n 3, 1) := by decide +kernel
theorem dX3_owedBy_12 : decode cX3_owedBy 12 = .ok (.arraylength, 1) := by decide +kernel
theorem dX3_owedBy_13 : decode cX3_owedBy 13 = .ok (.istore 4, 2) := by decide +kernel
theorem dX3_owedBy_15 : decode cX3_owedBy 15 = .ok (.iconst 0, 1) := by decide +kernel
theorem dX3_owedBy_16 : decode cX3_owedBy 16 = .ok (.istore 5, 2) := by decide +kernel
theorem dX3_owedBy_18 : decode cX3_owedBy 18 = .ok (.iload 5, 2) := by decide +kernel
theorem dX3_owedBy_20 : decode cX3_owedBy 20 = .ok (.iload 4, 2) := by decide +kernel
theorem dX3_owedBy_22 : decode cX3_owedBy 22 = .ok (.if_icmp .ge 35, 3) := by decide +kernel
theorem dX3_owedBy_25 : decode cX3_owedBy 25 = .ok (.aload_n 3, 1) := by decide +kernel
theorem dX3_owedBy_26 : decode cX3_owedBy 26 = .ok (.iload 5, 2) := by decide +kernel
theorem dX3_owedBy_28 : decode cX3_owedBy 28 = .ok (.aaload, 1) := by decide +kernel
theorem dX3_owedBy_29 : decode cX3_owedBy 29 = .ok (.astore 6, 2) := by decide +kernel
theorem dX3_owedBy_31 : decode cX3_owedBy 31 = .ok (.aload 6, 2) := by decide +kernel
theorem dX3_owedBy_33 : decode cX3_owedBy 33 = .ok (.getfield 77, 3) := by decide +kernel
theorem dX3_owedBy_36 : decode cX3_owedBy 36 = .ok (.ifnull 15, 3) := by decide +kernel
theorem dX3_owedBy_39 : decode cX3_owedBy 39 = .ok (.aload 6, 2) := by decide +kernel
theorem dX3_owedBy_41 : decode cX3_owedBy 41 = .ok (.getfield 125, 3) := by decide +kernel
theorem dX3_owedBy_44 : decode cX3_owedBy 44 = .ok (.iload_n 1, 1) := by decide +kernel
theorem dX3_owedBy_45 : decode cX3_owedBy 45 = .ok (.if_icmp .ne 6, 3) := by decide +kernel
theorem dX3_owedBy_48 : decode cX3_owedBy 48 = .ok (.iinc 2 1, 3) := by decide +kernel
theorem dX3_owedBy_51 : decode cX3_owedBy 51 = .ok (.iinc 5 1, 3) := by decide +kernel
theorem dX3_owedBy_54 : decode cX3_owedBy 54 = .ok (.goto (-36), 3) := by decide +kernel
theorem dX3_owedBy_57 : decode cX3_owedBy 57 = .ok (.iload_n 2, 1) := by decide +kernel
theorem dX3_owedBy_58 : decode cX3_owedBy 58 = .ok (.ireturn, 1) := by decide +kernel
theorem dX3_honourOf_0 : decode cX3_honourOf 0 = .ok (.iload_n 1, 1) := by decide +kernel
theorem dX3_honourOf_1 : decode cX3_honourOf 1 = .ok (.invokestatic 47, 3) := by decide +kernel
theorem dX3_honourOf_4 : decode cX3_honourOf 4 = .ok (.aload_n 0, 1) := by decide +kernel
theorem dX3_honourOf_5 : decode cX3_honourOf 5 = .ok (.iload_n 1, 1) := by decide +kernel
theorem dX3_honourOf_6 : decode cX3_honourOf 6 = .ok (.getstatic 98, 3) := by decide +kernel
theorem dX3_honourOf_9 : decode cX3_honourOf 9 = .ok (.invokevirtual 135, 3) := by decide +kernel
theorem dX3_honourOf_12 : decode cX3_honourOf 12 = .ok (.aload_n 0, 1) := by decide +kernel
theorem dX3_honourOf_13 : decode cX3_honourOf 13 = .ok (.iload_n 1, 1) := by decide +kernel
theorem dX3_honourOf_14 : decode cX3_honourOf 14 = .ok (.getstatic 132, 3) := by decide +kernel
theorem dX3_honourOf_17 : decode cX3_honourOf 17 = .ok (.invokevirtual 135, 3) := by decide +kernel
theorem dX3_honourOf_20 : decode cX3_honourOf 20 = .ok (.isub, 1) := by decide +kernel
theorem dX3_honourOf_21 : decode cX3_honourOf 21 = .ok (.ireturn, 1) := by decide +kernel
theorem dX3_mostHonourable_0 : decode cX3_mostHonourable 0 = .ok (.iconst 0, 1) := by decide +kernel
theorem dX3_mostHonourable_1 : decode cX3_mostHonourable 1 = .ok (.istore_n 1, 1) := by decide +kernel
theorem dX3_mostHonourable_2 : decode cX3_mostHonourable 2 = .ok (.iconst 1, 1) := by decide +kernel
theorem dX3_mostHonourable_3 : decode cX3_mostHonourable 3 = .ok (.istore_n 2, 1) := by decide +kernel
theorem dX3_mostHonourable_4 : decode cX3_mostHonourable 4 = .ok (.iload_n 2, 1) := by decide +kernel
theorem dX3_mostHonourable_5 : decode cX3_mostHonourable 5 = .ok (.bipush 6, 2) := by decide +kernel
theorem dX3_mostHonourable_7 : decode cX3_mostHonourable 7 = .ok (.if_icmp .ge 24, 3) := by decide +kernel
theorem dX3_mostHonourable_10 : decode cX3_mostHonourable 10 = .ok (.aload_n 0, 1) := by decide +kernel
theorem dX3_mostHonourable_11 : decode cX3_mostHonourable 11 = .ok (.iload_n 2, 1) := by decide +kernel
theorem dX3_mostHonourable_12 : decode cX3_mostHonourable 12 = .ok (.invokevirtual 139, 3) := by decide +kernel
theorem dX3_mostHonourable_15 : decode cX3_mostHonourable 15 = .ok (.aload_n 0, 1) := by decide +kernel
theorem dX3_mostHonourable_16 : decode cX3_mostHonourable 16 = .ok (.iload_n 1, 1) := by decide +kernel
theorem dX3_mostHonourable_17 : decode cX3_mostHonourable 17 = .ok (.invokevirtual 139, 3) := by decide +kernel
theorem dX3_mostHonourable_20 : decode cX3_mostHonourable 20 = .ok (.if_icmp .le 5, 3) := by decide +kernel
theorem dX3_mostHonourable_23 : decode cX3_mostHonourable 23 = .ok (.iload_n 2, 1) := by decide +kernel
theorem dX3_mostHonourable_24 : decode cX3_mostHonourable 24 = .ok (.istore_n 1, 1) := by decide +kernel
theorem dX3_mostHonourable_25 : decode cX3_mostHonourable 25 = .ok (.iinc 2 1, 3) := by decide +kernel
theorem dX3_mostHonourable_28 : decode cX3_mostHonourable 28 = .ok (.goto (-24), 3) := by decide +kernel
theorem dX3_mostHonourable_31 : decode cX3_mostHonourable 31 = .ok (.iload_n 1, 1) := by decide +kernel
theorem dX3_mostHonourable_32 : decode cX3_mostHonourable 32 = .ok (.ireturn, 1) := by decide +kernel
theorem dX3_hoursUntilFrozen_0 : decode cX3_hoursUntilFrozen 0 = .ok (.aload_n 0, 1) := by decide +kernel
theorem dX3_hoursUntilFrozen_1 : decode cX3_hoursUntilFrozen 1 = .ok (.aload_n 0, 1) := by decide +kernel
theorem dX3_hoursUntilFrozen_2 : decode cX3_hoursUntilFrozen 2 = .ok (.iload_n 1, 1) := by decide +kernel
theorem dX3_hoursUntilFrozen_3 : decode cX3_hoursUntilFrozen 3 = .ok (.invokevirtual 73, 3) := by decide +kernel
theorem dX3_hoursUntilFrozen_6 : decode cX3_hoursUntilFrozen 6 = .ok (.getstatic 129, 3) := by decide +kernel
theorem dX3_hoursUntilFrozen_9 : decode cX3_hoursUntilFrozen 9 = .ok (.invokevirtual 143, 3) := by decide +kernel
theorem dX3_hoursUntilFrozen_12 : decode cX3_hoursUntilFrozen 12 = .ok (.ireturn, 1) := by decide +kernel
theorem dX3_hoursUntilThawed_0 : decode cX3_hoursUntilThawed 0 = .ok (.aload_n 0, 1) := by decide +kernel
theorem dX3_hoursUntilThawed_1 : decode cX3_hoursUntilThawed 1 = .ok (.aload_n 0, 1) := by decide +kernel
theorem dX3_hoursUntilThawed_2 : decode cX3_hoursUntilThawed 2 = .ok (.iload_n 1, 1) := by decide +kernel
theorem dX3_hoursUntilThawed_3 : decode cX3_hoursUntilThawed 3 = .ok (.invokevirtual 73, 3) := by decide +kernel
theorem dX3_hoursUntilThawed_6 : decode cX3_hoursUntilThawed 6 = .ok (.getstatic 88, 3) := by decide +kernel
theorem dX3_hoursUntilThawed_9 : decode cX3_hoursUntilThawed 9 = .ok (.invokevirtual 143, 3) := by decide +kernel
theorem dX3_hoursUntilThawed_12 : decode cX3_hoursUntilThawed 12 = .ok (.ireturn, 1) := by decide +kernel
theorem dX3_hoursUntilExpired_0 : decode cX3_hoursUntilExpired 0 = .ok (.aload_n 0, 1) := by decide +kernel
theorem dX3_hoursUntilExpired_1 : decode cX3_hoursUntilExpired 1 = .ok (.aload_n 0, 1) := by decide +kernel
theorem dX3_hoursUntilExpired_2 : decode cX3_hoursUntilExpired 2 = .ok (.iload_n 1, 1) := by decide +kernel
theorem dX3_hoursUntilExpired_3 : decode cX3_hoursUntilExpired 3 = .ok (.invokevirtual 73, 3) := by decide +kernel
theorem dX3_hoursUntilExpired_6 : decode cX3_hoursUntilExpired 6 = .ok (.getstatic 132, 3) := by decide +kernel
theorem dX3_hoursUntilExpired_9 : decode cX3_hoursUntilExpired 9 = .ok (.invokevirtual 143, 3) := by decide +kernel
theorem dX3_hoursUntilExpired_12 : decode cX3_hoursUntilExpired 12 = .ok (.ireturn, 1) := by decide +kernel
theorem dX3_leftIn_0 : decode cX3_leftIn 0 = .ok (.iload_n 1, 1) := by decide +kernel
theorem dX3_leftIn_1 : decode cX3_leftIn 1 = .ok (.invokestatic 116, 3) := by decide +kernel
theorem dX3_leftIn_4 : decode cX3_leftIn 4 = .ok (.iconst 0, 1) := by decide +kernel
theorem dX3_leftIn_5 : decode cX3_leftIn 5 = .ok (.istore_n 2, 1) := by decide +kernel
theorem dX3_leftIn_6 : decode cX3_leftIn 6 = .ok (.aload_n 0, 1) := by decide +kernel
theorem dX3_leftIn_7 : decode cX3_leftIn 7 = .ok (.getfield 17, 3) := by decide +kernel
theorem dX3_leftIn_10 : decode cX3_leftIn 10 = .ok (.astore_n 3, 1) := by decide +kernel
theorem dX3_leftIn_11 : decode cX3_leftIn 11 = .ok (.aload_n 3, 1) := by decide +kernel
theorem dX3_leftIn_12 : decode cX3_leftIn 12 = .ok (.arraylength, 1) := by decide +kernel
theorem dX3_leftIn_13 : decode cX3_leftIn 13 = .ok (.istore 4, 2) := by decide +kernel
theorem dX3_leftIn_15 : decode cX3_leftIn 15 = .ok (.iconst 0, 1) := by decide +kernel
theorem dX3_leftIn_16 : decode cX3_leftIn 16 = .ok (.istore 5, 2) := by decide +kernel
theorem dX3_leftIn_18 : decode cX3_leftIn 18 = .ok (.iload 5, 2) := by decide +kernel
theorem dX3_leftIn_20 : decode cX3_leftIn 20 = .ok (.iload 4, 2) := by decide +kernel
theorem dX3_leftIn_22 : decode cX3_leftIn 22 = .ok (.if_icmp .ge 28, 3) := by decide +kernel
theorem dX3_leftIn_25 : decode cX3_leftIn 25 = .ok (.aload_n 3, 1) := by decide +kernel
theorem dX3_leftIn_26 : decode cX3_leftIn 26 = .ok (.iload 5, 2) := by decide +kernel
theorem dX3_leftIn_28 : decode cX3_leftIn 28 = .ok (.aaload, 1) := by decide +kernel
theorem dX3_leftIn_29 : decode cX3_leftIn 29 = .ok (.astore 6, 2) := by decide +kernel
theorem dX3_leftIn_31 : decode cX3_leftIn 31 = .ok (.aload_n 0, 1) := by decide +kernel
theorem dX3_leftIn_32 : decode cX3_leftIn 32 = .ok (.aload 6, 2) := by decide +kernel
theorem dX3_leftIn_34 : decode cX3_leftIn 34 = .ok (.iload_n 1, 1) := by decide +kernel
theorem dX3_leftIn_35 : decode cX3_leftIn 35 = .ok (.invokevirtual 147, 3) := by decide +kernel
theorem dX3_leftIn_38 : decode cX3_leftIn 38 = .ok (.ifCond .eq 6, 3) := by decide +kernel
theorem dX3_leftIn_41 : decode cX3_leftIn 41 = .ok (.iinc 2 1, 3) := by decide +kernel
theorem dX3_leftIn_44 : decode cX3_leftIn 44 = .ok (.iinc 5 1, 3) := by decide +kernel
theorem dX3_leftIn_47 : decode cX3_leftIn 47 = .ok (.goto (-29), 3) := by decide +kernel
theorem dX3_leftIn_50 : decode cX3_leftIn 50 = .ok (.iload_n 2, 1) := by decide +kernel
theorem dX3_leftIn_51 : decode cX3_leftIn 51 = .ok (.ireturn, 1) := by decide +kernel
theorem dX3_bestShelf_0 : decode cX3_bestShelf 0 = .ok (.aload_n 0, 1) := by decide +kernel
theorem dX3_bestShelf_1 : decode cX3_bestShelf 1 = .ok (.getfield 21, 3) := by decide +kernel
theorem dX3_bestShelf_4 : decode cX3_bestShelf 4 = .ok (.bipush 20, 2) := by decide +kernel
theorem dX3_bestShelf_6 : decode cX3_bestShelf 6 = .ok (.if_icmp .lt 5, 3) := by decide +kernel
theorem dX3_bestShelf_9 : decode cX3_bestShelf 9 = .ok (.iconst (-1), 1) := by decide +kernel
theorem dX3_bestShelf_10 : decode cX3_bestShelf 10 = .ok (.ireturn, 1) := by decide +kernel
theorem dX3_bestShelf_11 : decode cX3_bestShelf 11 = .ok (.iconst (-1), 1) := by decide +kernel
theorem dX3_bestShelf_12 : decode cX3_bestShelf 12 = .ok (.istore_n 1, 1) := by decide +kernel
theorem dX3_bestShelf_13 : decode cX3_bestShelf 13 = .ok (.iconst (-1), 1) := by decide +kernel
theorem dX3_bestShelf_14 : decode cX3_bestShelf 14 = .ok (.istore_n 2, 1) := by decide +kernel
theorem dX3_bestShelf_15 : decode cX3_bestShelf 15 = .ok (.aload_n 0, 1) := by decide +kernel
theorem dX3_bestShelf_16 : decode cX3_bestShelf 16 = .ok (.getfield 11, 3) := by decide +kernel
theorem dX3_bestShelf_19 : decode cX3_bestShelf 19 = .ok (.astore_n 3, 1) := by decide +kernel
theorem dX3_bestShelf_20 : decode cX3_bestShelf 20 = .ok (.aload_n 3, 1) := by decide +kernel
theorem dX3_bestShelf_21 : decode cX3_bestShelf 21 = .ok (.arraylength, 1) := by decide +kernel
theorem dX3_bestShelf_22 : decode cX3_bestShelf 22 = .ok (.istore 4, 2) := by decide +kernel
theorem dX3_bestShelf_24 : decode cX3_bestShelf 24 = .ok (.iconst 0, 1) := by decide +kernel
theorem dX3_bestShelf_25 : decode cX3_bestShelf 25 = .ok (.istore 5, 2) := by decide +kernel
theorem dX3_bestShelf_27 : decode cX3_bestShelf 27 = .ok (.iload 5, 2) := by decide +kernel
theorem dX3_bestShelf_29 : decode cX3_bestShelf 29 = .ok (.iload 4, 2) := by decide +kernel
theorem dX3_bestShelf_31 : decode cX3_bestShelf 31 = .ok (.if_icmp .ge 41, 3) := by decide +kernel
theorem dX3_bestShelf_34 : decode cX3_bestShelf 34 = .ok (.aload_n 3, 1) := by decide +kernel
theorem dX3_bestShelf_35 : decode cX3_bestShelf 35 = .ok (.iload 5, 2) := by decide +kernel
theorem dX3_bestShelf_37 : decode cX3_bestShelf 37 = .ok (.aaload, 1) := by decide +kernel
theorem dX3_bestShelf_38 : decode cX3_bestShelf 38 = .ok (.astore 6, 2) := by decide +kernel
theorem dX3_bestShelf_40 : decode cX3_bestShelf 40 = .ok (.aload_n 0, 1) := by decide +kernel
theorem dX3_bestShelf_41 : decode cX3_bestShelf 41 = .ok (.aload 6, 2) := by decide +kernel
theorem dX3_bestShelf_43 : decode cX3_bestShelf 43 = .ok (.invokevirtual 151, 3) := by decide +kernel
theorem dX3_bestShelf_46 : decode cX3_bestShelf 46 = .ok (.istore 7, 2) := by decide +kernel
theorem dX3_bestShelf_48 : decode cX3_bestShelf 48 = .ok (.iload 7, 2) := by decide +kernel
theorem dX3_bestShelf_50 : decode cX3_bestShelf 50 = .ok (.iload_n 2, 1) := by decide +kernel
theorem dX3_bestShelf_51 : decode cX3_bestShelf 51 = .ok (.invokestatic 155, 3) := by decide +kernel
theorem dX3_bestShelf_54 : decode cX3_bestShelf 54 = .ok (.ifCond .eq 12, 3) := by decide +kernel
theorem dX3_bestShelf_57 : decode cX3_bestShelf 57 = .ok (.aload 6, 2) := by decide +kernel
theorem dX3_bestShelf_59 : decode cX3_bestShelf 59 = .ok (.getfield 95, 3) := by decide +kernel
theorem dX3_bestShelf_62 : decode cX3_bestShelf 62 = .ok (.istore_n 1, 1) := by decide +kernel
theorem dX3_bestShelf_63 : decode cX3_bestShelf 63 = .ok (.iload 7, 2) := by decide +kernel
theorem dX3_bestShelf_65 : decode cX3_bestShelf 65 = .ok (.istore_n 2, 1) := by decide +kernel
theorem dX3_bestShelf_66 : decode cX3_bestShelf 66 = .ok (.iinc 5 1, 3) := by decide +kernel
theorem dX3_bestShelf_69 : decode cX3_bestShelf 69 = .ok (.goto (-42), 3) := by decide +kernel
theorem dX3_bestShelf_72 : decode cX3_bestShelf 72 = .ok (.iload_n 1, 1) := by decide +kernel
theorem dX3_bestShelf_73 : decode cX3_bestShelf 73 = .ok (.ireturn, 1) := by decide +kernel
theorem dX3_hoursOfCold_0 : decode cX3_hoursOfCold 0 = .ok (.iconst (-1), 1) := by decide +kernel
theorem dX3_hoursOfCold_1 : decode cX3_hoursOfCold 1 = .ok (.istore_n 1, 1) := by decide +kernel
theorem dX3_hoursOfCold_2 : decode cX3_hoursOfCold 2 = .ok (.aload_n 0, 1) := by decide +kernel
theorem dX3_hoursOfCold_3 : decode cX3_hoursOfCold 3 = .ok (.getfield 17, 3) := by decide +kernel
theorem dX3_hoursOfCold_6 : decode cX3_hoursOfCold 6 = .ok (.astore_n 2, 1) := by decide +kernel
theorem dX3_hoursOfCold_7 : decode cX3_hoursOfCold 7 = .ok (.aload_n 2, 1) := by decide +kernel
theorem dX3_hoursOfCold_8 : decode cX3_hoursOfCold 8 = .ok (.arraylength, 1) := by decide +kernel
theorem dX3_hoursOfCold_9 : decode cX3_hoursOfCold 9 = .ok (.istore_n 3, 1) := by decide +kernel
theorem dX3_hoursOfCold_10 : decode cX3_hoursOfCold 10 = .ok (.iconst 0, 1) := by decide +kernel
theorem dX3_hoursOfCold_11 : decode cX3_hoursOfCold 11 = .ok (.istore 4, 2) := by decide +kernel
theorem dX3_hoursOfCold_13 : decode cX3_hoursOfCold 13 = .ok (.iload 4, 2) := by decide +kernel
theorem dX3_hoursOfCold_15 : decode cX3_hoursOfCold 15 = .ok (.iload_n 3, 1) := by decide +kernel
theorem dX3_hoursOfCold_16 : decode cX3_hoursOfCold 16 = .ok (.if_icmp .ge 35, 3) := by decide +kernel
theorem dX3_hoursOfCold_19 : decode cX3_hoursOfCold 19 = .ok (.aload_n 2, 1) := by decide +kernel
theorem dX3_hoursOfCold_20 : decode cX3_hoursOfCold 20 = .ok (.iload 4, 2) := by decide +kernel
theorem dX3_hoursOfCold_22 : decode cX3_hoursOfCold 22 = .ok (.aaload, 1) := by decide +kernel
theorem dX3_hoursOfCold_23 : decode cX3_hoursOfCold 23 = .ok (.astore 5, 2) := by decide +kernel
theorem dX3_hoursOfCold_25 : decode cX3_hoursOfCold 25 = .ok (.aload_n 0, 1) := by decide +kernel
theorem dX3_hoursOfCold_26 : decode cX3_hoursOfCold 26 = .ok (.aload 5, 2) := by decide +kernel
theorem dX3_hoursOfCold_28 : decode cX3_hoursOfCold 28 = .ok (.invokevirtual 159, 3) := by decide +kernel
theorem dX3_hoursOfCold_31 : decode cX3_hoursOfCold 31 = .ok (.istore 6, 2) := by decide +kernel
theorem dX3_hoursOfCold_33 : decode cX3_hoursOfCold 33 = .ok (.iload 6, 2) := by decide +kernel
theorem dX3_hoursOfCold_35 : decode cX3_hoursOfCold 35 = .ok (.iload_n 1, 1) := by decide +kernel
theorem dX3_hoursOfCold_36 : decode cX3_hoursOfCold 36 = .ok (.invokestatic 155, 3) := by decide +kernel
theorem dX3_hoursOfCold_39 : decode cX3_hoursOfCold 39 = .ok (.ifCond .eq 6, 3) := by decide +kernel
theorem dX3_hoursOfCold_42 : decode cX3_hoursOfCold 42 = .ok (.iload 6, 2) := by decide +kernel
theorem dX3_hoursOfCold_44 : decode cX3_hoursOfCold 44 = .ok (.istore_n 1, 1) := by decide +kernel
theorem dX3_hoursOfCold_45 : decode cX3_hoursOfCold 45 = .ok (.iinc 4 1, 3) := by decide +kernel
theorem dX3_hoursOfCold_48 : decode cX3_hoursOfCold 48 = .ok (.goto (-35), 3) := by decide +kernel
theorem dX3_hoursOfCold_51 : decode cX3_hoursOfCold 51 = .ok (.iload_n 1, 1) := by decide +kernel
theorem dX3_hoursOfCold_52 : decode cX3_hoursOfCold 52 = .ok (.ireturn, 1) := by decide +kernel
theorem dX3_meanHeat_0 : decode cX3_meanHeat 0 = .ok (.iconst 0, 1) := by decide +kernel
theorem dX3_meanHeat_1 : decode cX3_meanHeat 1 = .ok (.istore_n 1, 1) := by decide +kernel
theorem dX3_meanHeat_2 : decode cX3_meanHeat 2 = .ok (.iconst 0, 1) := by decide +kernel
theorem dX3_meanHeat_3 : decode cX3_meanHeat 3 = .ok (.istore_n 2, 1) := by decide +kernel
theorem dX3_meanHeat_4 : decode cX3_meanHeat 4 = .ok (.aload_n 0, 1) := by decide +kernel
theorem dX3_meanHeat_5 : decode cX3_meanHeat 5 = .ok (.getfield 17, 3) := by decide +kernel
theorem dX3_meanHeat_8 : decode cX3_meanHeat 8 = .ok (.astore_n 3, 1) := by decide +kernel
theorem dX3_meanHeat_9 : decode cX3_meanHeat 9 = .ok (.aload_n 3, 1) := by decide +kernel
theorem dX3_meanHeat_10 : decode cX3_meanHeat 10 = .ok (.arraylength, 1) := by decide +kernel
theorem dX3_meanHeat_11 : decode cX3_meanHeat 11 = .ok (.istore 4, 2) := by decide +kernel
theorem dX3_meanHeat_13 : decode cX3_meanHeat 13 = .ok (.iconst 0, 1) := by decide +kernel
theorem dX3_meanHeat_14 : decode cX3_meanHeat 14 = .ok (.istore 5, 2) := by decide +kernel
theorem dX3_meanHeat_16 : decode cX3_meanHeat 16 = .ok (.iload 5, 2) := by decide +kernel
theorem dX3_meanHeat_18 : decode cX3_meanHeat 18 = .ok (.iload 4, 2) := by decide +kernel
theorem dX3_meanHeat_20 : decode cX3_meanHeat 20 = .ok (.if_icmp .ge 34, 3) := by decide +kernel
theorem dX3_meanHeat_23 : decode cX3_meanHeat 23 = .ok (.aload_n 3, 1) := by decide +kernel
theorem dX3_meanHeat_24 : decode cX3_meanHeat 24 = .ok (.iload 5, 2) := by decide +kernel
theorem dX3_meanHeat_26 : decode cX3_meanHeat 26 = .ok (.aaload, 1) := by decide +kernel
theorem dX3_meanHeat_27 : decode cX3_meanHeat 27 = .ok (.astore 6, 2) := by decide +kernel
theorem dX3_meanHeat_29 : decode cX3_meanHeat 29 = .ok (.aload 6, 2) := by decide +kernel
theorem dX3_meanHeat_31 : decode cX3_meanHeat 31 = .ok (.getfield 77, 3) := by decide +kernel
theorem dX3_meanHeat_34 : decode cX3_meanHeat 34 = .ok (.ifnull 14, 3) := by decide +kernel
theorem dX3_meanHeat_37 : decode cX3_meanHeat 37 = .ok (.iload_n 1, 1) := by decide +kernel
theorem dX3_meanHeat_38 : decode cX3_meanHeat 38 = .ok (.aload 6, 2) := by decide +kernel
theorem dX3_meanHeat_40 : decode cX3_meanHeat 40 = .ok (.getfield 128, 3) := by decide +kernel
theorem dX3_meanHeat_43 : decode cX3_meanHeat 43 = .ok (.iadd, 1) := by decide +kernel
theorem dX3_meanHeat_44 : decode cX3_meanHeat 44 = .ok (.istore_n 1, 1) := by decide +kernel
theorem dX3_meanHeat_45 : decode cX3_meanHeat 45 = .ok (.iinc 2 1, 3) := by decide +kernel
theorem dX3_meanHeat_48 : decode cX3_meanHeat 48 = .ok (.iinc 5 1, 3) := by decide +kernel
theorem dX3_meanHeat_51 : decode cX3_meanHeat 51 = .ok (.goto (-35), 3) := by decide +kernel
theorem dX3_meanHeat_54 : decode cX3_meanHeat 54 = .ok (.iload_n 2, 1) := by decide +kernel
theorem dX3_meanHeat_55 : decode cX3_meanHeat 55 = .ok (.ifCond .ne 7, 3) := by decide +kernel
theorem dX3_meanHeat_58 : decode cX3_meanHeat 58 = .ok (.dconst 0, 1) := by decide +kernel
theorem dX3_meanHeat_59 : decode cX3_meanHeat 59 = .ok (.goto 8, 3) := by decide +kernel
theorem dX3_meanHeat_62 : decode cX3_meanHeat 62 = .ok (.iload_n 1, 1) := by decide +kernel
theorem dX3_meanHeat_63 : decode cX3_meanHeat 63 = .ok (.i2d, 1) := by decide +kernel
theorem dX3_meanHeat_64 : decode cX3_meanHeat 64 = .ok (.iload_n 2, 1) := by decide +kernel
theorem dX3_meanHeat_65 : decode cX3_meanHeat 65 = .ok (.i2d, 1) := by decide +kernel
theorem dX3_meanHeat_66 : decode cX3_meanHeat 66 = .ok (.ddiv, 1) := by decide +kernel
theorem dX3_meanHeat_67 : decode cX3_meanHeat 67 = .ok (.dreturn, 1) := by decide +kernel
theorem dX3_digest_0 : decode cX3_digest 0 = .ok (.ldc2_w 163, 3) := by decide +kernel
theorem dX3_digest_3 : decode cX3_digest 3 = .ok (.lstore_n 1, 1) := by decide +kernel
theorem dX3_digest_4 : decode cX3_digest 4 = .ok (.lload_n 1, 1) := by decide +kernel
theorem dX3_digest_5 : decode cX3_digest 5 = .ok (.ldc2_w 165, 3) := by decide +kernel
theorem dX3_digest_8 : decode cX3_digest 8 = .ok (.lmul, 1) := by decide +kernel
theorem dX3_digest_9 : decode cX3_digest 9 = .ok (.aload_n 0, 1) := by decide +kernel
theorem dX3_digest_10 : decode cX3_digest 10 = .ok (.invokevirtual 167, 3) := by decide +kernel
theorem dX3_digest_13 : decode cX3_digest 13 = .ok (.i2l, 1) := by decide +kernel
theorem dX3_digest_14 : decode cX3_digest 14 = .ok (.ladd, 1) := by decide +kernel
theorem dX3_digest_15 : decode cX3_digest 15 = .ok (.lstore_n 1, 1) := by decide +kernel
theorem dX3_digest_16 : decode cX3_digest 16 = .ok (.lload_n 1, 1) := by decide +kernel
theorem dX3_digest_17 : decode cX3_digest 17 = .ok (.ldc2_w 165, 3) := by decide +kernel
theorem dX3_digest_20 : decode cX3_digest 20 = .ok (.lmul, 1) := by decide +kernel
theorem dX3_digest_21 : decode cX3_digest 21 = .ok (.aload_n 0, 1) := by decide +kernel
theorem dX3_digest_22 : decode cX3_digest 22 = .ok (.invokevirtual 171, 3) := by decide +kernel
theorem dX3_digest_25 : decode cX3_digest 25 = .ok (.invokestatic 175, 3) := by decide +kernel
theorem dX3_digest_28 : decode cX3_digest 28 = .ok (.i2l, 1) := by decide +kernel
theorem dX3_digest_29 : decode cX3_digest 29 = .ok (.ladd, 1) := by decide +kernel
theorem dX3_digest_30 : decode cX3_digest 30 = .ok (.lstore_n 1, 1) := by decide +kernel
theorem dX3_digest_31 : decode cX3_digest 31 = .ok (.lload_n 1, 1) := by decide +kernel
theorem dX3_digest_32 : decode cX3_digest 32 = .ok (.ldc2_w 165, 3) := by decide +kernel
theorem dX3_digest_35 : decode cX3_digest 35 = .ok (.lmul, 1) := by decide +kernel
theorem dX3_digest_36 : decode cX3_digest 36 = .ok (.aload_n 0, 1) := by decide +kernel
theorem dX3_digest_37 : decode cX3_digest 37 = .ok (.invokevirtual 179, 3) := by decide +kernel
theorem dX3_digest_40 : decode cX3_digest 40 = .ok (.i2l, 1) := by decide +kernel
theorem dX3_digest_41 : decode cX3_digest 41 = .ok (.ladd, 1) := by decide +kernel
theorem dX3_digest_42 : decode cX3_digest 42 = .ok (.lstore_n 1, 1) := by decide +kernel
theorem dX3_digest_43 : decode cX3_digest 43 = .ok (.lload_n 1, 1) := by decide +kernel
theorem dX3_digest_44 : decode cX3_digest 44 = .ok (.ldc2_w 165, 3) := by decide +kernel
theorem dX3_digest_47 : decode cX3_digest 47 = .ok (.lmul, 1) := by decide +kernel
theorem dX3_digest_48 : decode cX3_digest 48 = .ok (.aload_n 0, 1) := by decide +kernel
theorem dX3_digest_49 : decode cX3_digest 49 = .ok (.invokevirtual 182, 3) := by decide +kernel
theorem dX3_digest_52 : decode cX3_digest 52 = .ok (.i2l, 1) := by decide +kernel
theorem dX3_digest_53 : decode cX3_digest 53 = .ok (.ladd, 1) := by decide +kernel
theorem dX3_digest_54 : decode cX3_digest 54 = .ok (.lstore_n 1, 1) := by decide +kernel
theorem dX3_digest_55 : decode cX3_digest 55 = .ok (.lload_n 1, 1) := by decide +kernel
theorem dX3_digest_56 : decode cX3_digest 56 = .ok (.ldc2_w 165, 3) := by decide +kernel
theorem dX3_digest_59 : decode cX3_digest 59 = .ok (.lmul, 1) := by decide +kernel
theorem dX3_digest_60 : decode cX3_digest 60 = .ok (.aload_n 0, 1) := by decide +kernel
theorem dX3_digest_61 : decode cX3_digest 61 = .ok (.invokevirtual 184, 3) := by decide +kernel
theorem dX3_digest_64 : decode cX3_digest 64 = .ok (.i2l, 1) := by decide +kernel
theorem dX3_digest_65 : decode cX3_digest 65 = .ok (.ladd, 1) := by decide +kernel
theorem dX3_digest_66 : decode cX3_digest 66 = .ok (.lstore_n 1, 1) := by decide +kernel
theorem dX3_digest_67 : decode cX3_digest 67 = .ok (.lload_n 1, 1) := by decide +kernel
theorem dX3_digest_68 : decode cX3_digest 68 = .ok (.ldc2_w 165, 3) := by decide +kernel
theorem dX3_digest_71 : decode cX3_digest 71 = .ok (.lmul, 1) := by decide +kernel
theorem dX3_digest_72 : decode cX3_digest 72 = .ok (.aload_n 0, 1) := by decide +kernel
theorem dX3_digest_73 : decode cX3_digest 73 = .ok (.invokevirtual 187, 3) := by decide +kernel
theorem dX3_digest_76 : decode cX3_digest 76 = .ok (.i2l, 1) := by decide +kernel
theorem dX3_digest_77 : decode cX3_digest 77 = .ok (.ladd, 1) := by decide +kernel
theorem dX3_digest_78 : decode cX3_digest 78 = .ok (.lstore_n 1, 1) := by decide +kernel
theorem dX3_digest_79 : decode cX3_digest 79 = .ok (.lload_n 1, 1) := by decide +kernel
theorem dX3_digest_80 : decode cX3_digest 80 = .ok (.ldc2_w 165, 3) := by decide +kernel
theorem dX3_digest_83 : decode cX3_digest 83 = .ok (.lmul, 1) := by decide +kernel
theorem dX3_digest_84 : decode cX3_digest 84 = .ok (.aload_n 0, 1) := by decide +kernel
theorem dX3_digest_85 : decode cX3_digest 85 = .ok (.invokevirtual 190, 3) := by decide +kernel
theorem dX3_digest_88 : decode cX3_digest 88 = .ok (.i2l, 1) := by decide +kernel
theorem dX3_digest_89 : decode cX3_digest 89 = .ok (.ladd, 1) := by decide +kernel
theorem dX3_digest_90 : decode cX3_digest 90 = .ok (.lstore_n 1, 1) := by decide +kernel
theorem dX3_digest_91 : decode cX3_digest 91 = .ok (.lload_n 1, 1) := by decide +kernel
theorem dX3_digest_92 : decode cX3_digest 92 = .ok (.ldc2_w 165, 3) := by decide +kernel
theorem dX3_digest_95 : decode cX3_digest 95 = .ok (.lmul, 1) := by decide +kernel
theorem dX3_digest_96 : decode cX3_digest 96 = .ok (.aload_n 0, 1) := by decide +kernel
theorem dX3_digest_97 : decode cX3_digest 97 = .ok (.invokevirtual 193, 3) := by decide +kernel
theorem dX3_digest_100 : decode cX3_digest 100 = .ok (.i2l, 1) := by decide +kernel
theorem dX3_digest_101 : decode cX3_digest 101 = .ok (.ladd, 1) := by decide +kernel
theorem dX3_digest_102 : decode cX3_digest 102 = .ok (.lstore_n 1, 1) := by decide +kernel
theorem dX3_digest_103 : decode cX3_digest 103 = .ok (.aload_n 0, 1) := by decide +kernel
theorem dX3_digest_104 : decode cX3_digest 104 = .ok (.lload_n 1, 1) := by decide +kernel
theorem dX3_digest_105 : decode cX3_digest 105 = .ok (.invokevirtual 196, 3) := by decide +kernel
theorem dX3_digest_108 : decode cX3_digest 108 = .ok (.lstore_n 1, 1) := by decide +kernel
theorem dX3_digest_109 : decode cX3_digest 109 = .ok (.aload_n 0, 1) := by decide +kernel
theorem dX3_digest_110 : decode cX3_digest 110 = .ok (.lload_n 1, 1) := by decide +kernel
theorem dX3_digest_111 : decode cX3_digest 111 = .ok (.invokevirtual 200, 3) := by decide +kernel
theorem dX3_digest_114 : decode cX3_digest 114 = .ok (.lstore_n 1, 1) := by decide +kernel
theorem dX3_digest_115 : decode cX3_digest 115 = .ok (.aload_n 0, 1) := by decide +kernel
theorem dX3_digest_116 : decode cX3_digest 116 = .ok (.lload_n 1, 1) := by decide +kernel
theorem dX3_digest_117 : decode cX3_digest 117 = .ok (.invokevirtual 203, 3) := by decide +kernel
theorem dX3_digest_120 : decode cX3_digest 120 = .ok (.lreturn, 1) := by decide +kernel
theorem dX3_checkMaker_0 : decode cX3_checkMaker 0 = .ok (.iload_n 0, 1) := by decide +kernel
theorem dX3_checkMaker_1 : decode cX3_checkMaker 1 = .ok (.ifCond .lt 9, 3) := by decide +kernel
theorem dX3_checkMaker_4 : decode cX3_checkMaker 4 = .ok (.iload_n 0, 1) := by decide +kernel
theorem dX3_checkMaker_5 : decode cX3_checkMaker 5 = .ok (.bipush 6, 2) := by decide +kernel
theorem dX3_checkMaker_7 : decode cX3_checkMaker 7 = .ok (.if_icmp .lt 13, 3) := by decide +kernel
theorem dX3_checkMaker_10 : decode cX3_checkMaker 10 = .ok (.new 206, 3) := by decide +kernel
theorem dX3_checkMaker_13 : decode cX3_checkMaker 13 = .ok (.dup, 1) := by decide +kernel
theorem dX3_checkMaker_14 : decode cX3_checkMaker 14 = .ok (.ldc 208, 2) := by decide +kernel
theorem dX3_checkMaker_16 : decode cX3_checkMaker 16 = .ok (.invokespecial 210, 3) := by decide +kernel
theorem dX3_checkMaker_19 : decode cX3_checkMaker 19 = .ok (.athrow, 1) := by decide +kernel
theorem dX3_checkMaker_20 : decode cX3_checkMaker 20 = .ok (.return_, 1) := by decide +kernel
theorem dX3_checkHours_0 : decode cX3_checkHours 0 = .ok (.iload_n 0, 1) := by decide +kernel
theorem dX3_checkHours_1 : decode cX3_checkHours 1 = .ok (.iconst 1, 1) := by decide +kernel
theorem dX3_checkHours_2 : decode cX3_checkHours 2 = .ok (.if_icmp .lt 9, 3) := by decide +kernel
theorem dX3_checkHours_5 : decode cX3_checkHours 5 = .ok (.iload_n 0, 1) := by decide +kernel
theorem dX3_checkHours_6 : decode cX3_checkHours 6 = .ok (.bipush 100, 2) := by decide +kernel
theorem dX3_checkHours_8 : decode cX3_checkHours 8 = .ok (.if_icmp .le 13, 3) := by decide +kernel
theorem dX3_checkHours_11 : decode cX3_checkHours 11 = .ok (.new 54, 3) := by decide +kernel
theorem dX3_checkHours_14 : decode cX3_checkHours 14 = .ok (.dup, 1) := by decide +kernel
theorem dX3_checkHours_15 : decode cX3_checkHours 15 = .ok (.ldc 211, 2) := by decide +kernel
theorem dX3_checkHours_17 : decode cX3_checkHours 17 = .ok (.invokespecial 58, 3) := by decide +kernel
theorem dX3_checkHours_20 : decode cX3_checkHours 20 = .ok (.athrow, 1) := by decide +kernel
theorem dX3_checkHours_21 : decode cX3_checkHours 21 = .ok (.return_, 1) := by decide +kernel
theorem dX3_findShelf_0 : decode cX3_findShelf 0 = .ok (.iload_n 1, 1) := by decide +kernel
theorem dX3_findShelf_1 : decode cX3_findShelf 1 = .ok (.ifCond .lt 8, 3) := by decide +kernel
theorem dX3_findShelf_4 : decode cX3_findShelf 4 = .ok (.iload_n 1, 1) := by decide +kernel
theorem dX3_findShelf_5 : decode cX3_findShelf 5 = .ok (.iconst 5, 1) := by decide +kernel
theorem dX3_findShelf_6 : decode cX3_findShelf 6 = .ok (.if_icmp .lt 13, 3) := by decide +kernel
theorem dX3_findShelf_9 : decode cX3_findShelf 9 = .ok (.new 206, 3) := by decide +kernel
theorem dX3_findShelf_12 : decode cX3_findShelf 12 = .ok (.dup, 1) := by decide +kernel
theorem dX3_findShelf_13 : decode cX3_findShelf 13 = .ok (.ldc 213, 2) := by decide +kernel
theorem dX3_findShelf_15 : decode cX3_findShelf 15 = .ok (.invokespecial 210, 3) := by decide +kernel
theorem dX3_findShelf_18 : decode cX3_findShelf 18 = .ok (.athrow, 1) := by decide +kernel
theorem dX3_findShelf_19 : decode cX3_findShelf 19 = .ok (.aload_n 0, 1) := by decide +kernel
theorem dX3_findShelf_20 : decode cX3_findShelf 20 = .ok (.getfield 11, 3) := by decide +kernel
theorem dX3_findShelf_23 : decode cX3_findShelf 23 = .ok (.iload_n 1, 1) := by decide +kernel
theorem dX3_findShelf_24 : decode cX3_findShelf 24 = .ok (.aaload, 1) := by decide +kernel
theorem dX3_findShelf_25 : decode cX3_findShelf 25 = .ok (.areturn, 1) := by decide +kernel
theorem dX3_findPromise_0 : decode cX3_findPromise 0 = .ok (.iload_n 1, 1) := by decide +kernel
theorem dX3_findPromise_1 : decode cX3_findPromise 1 = .ok (.ifCond .lt 11, 3) := by decide +kernel
theorem dX3_findPromise_4 : decode cX3_findPromise 4 = .ok (.iload_n 1, 1) := by decide +kernel
theorem dX3_findPromise_5 : decode cX3_findPromise 5 = .ok (.aload_n 0, 1) := by decide +kernel
theorem dX3_findPromise_6 : decode cX3_findPromise 6 = .ok (.getfield 21, 3) := by decide +kernel
theorem dX3_findPromise_9 : decode cX3_findPromise 9 = .ok (.if_icmp .lt 13, 3) := by decide +kernel
theorem dX3_findPromise_12 : decode cX3_findPromise 12 = .ok (.new 206, 3) := by decide +kernel
theorem dX3_findPromise_15 : decode cX3_findPromise 15 = .ok (.dup, 1) := by decide +kernel
theorem dX3_findPromise_16 : decode cX3_findPromise 16 = .ok (.ldc 215, 2) := by decide +kernel
theorem dX3_findPromise_18 : decode cX3_findPromise 18 = .ok (.invokespecial 210, 3) := by decide +kernel
theorem dX3_findPromise_21 : decode cX3_findPromise 21 = .ok (.athrow, 1) := by decide +kernel
theorem dX3_findPromise_22 : decode cX3_findPromise 22 = .ok (.aload_n 0, 1) := by decide +kernel
theorem dX3_findPromise_23 : decode cX3_findPromise 23 = .ok (.getfield 17, 3) := by decide +kernel
theorem dX3_findPromise_26 : decode cX3_findPromise 26 = .ok (.iload_n 1, 1) := by decide +kernel
theorem dX3_findPromise_27 : decode cX3_findPromise 27 = .ok (.aaload, 1) := by decide +kernel
theorem dX3_findPromise_28 : decode cX3_findPromise 28 = .ok (.areturn, 1) := by decide +kernel
theorem dX3_passAnHour_0 : decode cX3_passAnHour 0 = .ok (.aload_n 0, 1) := by decide +kernel
theorem dX3_passAnHour_1 : decode cX3_passAnHour 1 = .ok (.getfield 11, 3) := by decide +kernel
theorem dX3_passAnHour_4 : decode cX3_passAnHour 4 = .ok (.astore_n 1, 1) := by decide +kernel
theorem dX3_passAnHour_5 : decode cX3_passAnHour 5 = .ok (.aload_n 1, 1) := by decide +kernel
theorem dX3_passAnHour_6 : decode cX3_passAnHour 6 = .ok (.arraylength, 1) := by decide +kernel
theorem dX3_passAnHour_7 : decode cX3_passAnHour 7 = .ok (.istore_n 2, 1) := by decide +kernel
theorem dX3_passAnHour_8 : decode cX3_passAnHour 8 = .ok (.iconst 0, 1) := by decide +kernel
theorem dX3_passAnHour_9 : decode cX3_passAnHour 9 = .ok (.istore_n 3, 1) := by decide +kernel
theorem dX3_passAnHour_10 : decode cX3_passAnHour 10 = .ok (.iload_n 3, 1) := by decide +kernel
theorem dX3_passAnHour_11 : decode cX3_passAnHour 11 = .ok (.iload_n 2, 1) := by decide +kernel
theorem dX3_passAnHour_12 : decode cX3_passAnHour 12 = .ok (.if_icmp .ge 23, 3) := by decide +kernel
theorem dX3_passAnHour_15 : decode cX3_passAnHour 15 = .ok (.aload_n 1, 1) := by decide +kernel
theorem dX3_passAnHour_16 : decode cX3_passAnHour 16 = .ok (.iload_n 3, 1) := by decide +kernel
theorem dX3_passAnHour_17 : decode cX3_passAnHour 17 = .ok (.aaload, 1) := by decide +kernel
theorem dX3_passAnHour_18 : decode cX3_passAnHour 18 = .ok (.astore 4, 2) := by decide +kernel
theorem dX3_passAnHour_20 : decode cX3_passAnHour 20 = .ok (.aload 4, 2) := by decide +kernel
theorem dX3_passAnHour_22 : decode cX3_passAnHour 22 = .ok (.aload_n 0, 1) := by decide +kernel
theorem dX3_passAnHour_23 : decode cX3_passAnHour 23 = .ok (.getfield 31, 3) := by decide +kernel
theorem dX3_passAnHour_26 : decode cX3_passAnHour 26 = .ok (.invokevirtual 217, 3) := by decide +kernel
theorem dX3_passAnHour_29 : decode cX3_passAnHour 29 = .ok (.iinc 3 1, 3) := by decide +kernel
theorem dX3_passAnHour_32 : decode cX3_passAnHour 32 = .ok (.goto (-22), 3) := by decide +kernel
theorem dX3_passAnHour_35 : decode cX3_passAnHour 35 = .ok (.aload_n 0, 1) := by decide +kernel
theorem dX3_passAnHour_36 : decode cX3_passAnHour 36 = .ok (.getfield 17, 3) := by decide +kernel
theorem dX3_passAnHour_39 : decode cX3_passAnHour 39 = .ok (.astore_n 1, 1) := by decide +kernel
theorem dX3_passAnHour_40 : decode cX3_passAnHour 40 = .ok (.aload_n 1, 1) := by decide +kernel
theorem dX3_passAnHour_41 : decode cX3_passAnHour 41 = .ok (.arraylength, 1) := by decide +kernel
theorem dX3_passAnHour_42 : decode cX3_passAnHour 42 = .ok (.istore_n 2, 1) := by decide +kernel
theorem dX3_passAnHour_43 : decode cX3_passAnHour 43 = .ok (.iconst 0, 1) := by decide +kernel
theorem dX3_passAnHour_44 : decode cX3_passAnHour 44 = .ok (.istore_n 3, 1) := by decide +kernel
theorem dX3_passAnHour_45 : decode cX3_passAnHour 45 = .ok (.iload_n 3, 1) := by decide +kernel
theorem dX3_passAnHour_46 : decode cX3_passAnHour 46 = .ok (.iload_n 2, 1) := by decide +kernel
theorem dX3_passAnHour_47 : decode cX3_passAnHour 47 = .ok (.if_icmp .ge 32, 3) := by decide +kernel
theorem dX3_passAnHour_50 : decode cX3_passAnHour 50 = .ok (.aload_n 1, 1) := by decide +kernel
theorem dX3_passAnHour_51 : decode cX3_passAnHour 51 = .ok (.iload_n 3, 1) := by decide +kernel
theorem dX3_passAnHour_52 : decode cX3_passAnHour 52 = .ok (.aaload, 1) := by decide +kernel
theorem dX3_passAnHour_53 : decode cX3_passAnHour 53 = .ok (.astore 4, 2) := by decide +kernel
theorem dX3_passAnHour_55 : decode cX3_passAnHour 55 = .ok (.aload 4, 2) := by decide +kernel
theorem dX3_passAnHour_57 : decode cX3_passAnHour 57 = .ok (.invokevirtual 221, 3) := by decide +kernel
theorem dX3_passAnHour_60 : decode cX3_passAnHour 60 = .ok (.ifCond .eq 13, 3) := by decide +kernel
theorem dX3_passAnHour_63 : decode cX3_passAnHour 63 = .ok (.aload_n 0, 1) := by decide +kernel
theorem dX3_passAnHour_64 : decode cX3_passAnHour 64 = .ok (.dup, 1) := by decide +kernel
theorem dX3_passAnHour_65 : decode cX3_passAnHour 65 = .ok (.getfield 25, 3) := by decide +kernel
theorem dX3_passAnHour_68 : decode cX3_passAnHour 68 = .ok (.iconst 1, 1) := by decide +kernel
theorem dX3_passAnHour_69 : decode cX3_passAnHour 69 = .ok (.iadd, 1) := by decide +kernel
theorem dX3_passAnHour_70 : decode cX3_passAnHour 70 = .ok (.putfield 25, 3) := by decide +kernel
theorem dX3_passAnHour_73 : decode cX3_passAnHour 73 = .ok (.iinc 3 1, 3) := by decide +kernel
theorem dX3_passAnHour_76 : decode cX3_passAnHour 76 = .ok (.goto (-31), 3) := by decide +kernel
theorem dX3_passAnHour_79 : decode cX3_passAnHour 79 = .ok (.aload_n 0, 1) := by decide +kernel
theorem dX3_passAnHour_80 : decode cX3_passAnHour 80 = .ok (.dup, 1) := by decide +kernel
theorem dX3_passAnHour_81 : decode cX3_passAnHour 81 = .ok (.getfield 28, 3) := by decide +kernel
theorem dX3_passAnHour_84 : decode cX3_passAnHour 84 = .ok (.iconst 1, 1) := by decide +kernel
theorem dX3_passAnHour_85 : decode cX3_passAnHour 85 = .ok (.iadd, 1) := by decide +kernel
theorem dX3_passAnHour_86 : decode cX3_passAnHour 86 = .ok (.putfield 28, 3) := by decide +kernel
theorem dX3_passAnHour_89 : decode cX3_passAnHour 89 = .ok (.return_, 1) := by decide +kernel
theorem dX3_countOf_0 : decode cX3_countOf 0 = .ok (.iconst 0, 1) := by decide +kernel
theorem dX3_countOf_1 : decode cX3_countOf 1 = .ok (.istore_n 3, 1) := by decide +kernel
theorem dX3_countOf_2 : decode cX3_countOf 2 = .ok (.aload_n 0, 1) := by decide +kernel
theorem dX3_countOf_3 : decode cX3_countOf 3 = .ok (.getfield 17, 3) := by decide +kernel
theorem dX3_countOf_6 : decode cX3_countOf 6 = .ok (.astore 4, 2) := by decide +kernel
theorem dX3_countOf_8 : decode cX3_countOf 8 = .ok (.aload 4, 2) := by decide +kernel
theorem dX3_countOf_10 : decode cX3_countOf 10 = .ok (.arraylength, 1) := by decide +kernel
theorem dX3_countOf_11 : decode cX3_countOf 11 = .ok (.istore 5, 2) := by decide +kernel
theorem dX3_countOf_13 : decode cX3_countOf 13 = .ok (.iconst 0, 1) := by decide +kernel
theorem dX3_countOf_14 : decode cX3_countOf 14 = .ok (.istore 6, 2) := by decide +kernel
theorem dX3_countOf_16 : decode cX3_countOf 16 = .ok (.iload 6, 2) := by decide +kernel
theorem dX3_countOf_18 : decode cX3_countOf 18 = .ok (.iload 5, 2) := by decide +kernel
theorem dX3_countOf_20 : decode cX3_countOf 20 = .ok (.if_icmp .ge 37, 3) := by decide +kernel
theorem dX3_countOf_23 : decode cX3_countOf 23 = .ok (.aload 4, 2) := by decide +kernel
theorem dX3_countOf_25 : decode cX3_countOf 25 = .ok (.iload 6, 2) := by decide +kernel
theorem dX3_countOf_27 : decode cX3_countOf 27 = .ok (.aaload, 1) := by decide +kernel
theorem dX3_countOf_28 : decode cX3_countOf 28 = .ok (.astore 7, 2) := by decide +kernel
theorem dX3_countOf_30 : decode cX3_countOf 30 = .ok (.aload 7, 2) := by decide +kernel
theorem dX3_countOf_32 : decode cX3_countOf 32 = .ok (.getfield 84, 3) := by decide +kernel
theorem dX3_countOf_35 : decode cX3_countOf 35 = .ok (.aload_n 2, 1) := by decide +kernel
theorem dX3_countOf_36 : decode cX3_countOf 36 = .ok (.if_acmp .ne 15, 3) := by decide +kernel
theorem dX3_countOf_39 : decode cX3_countOf 39 = .ok (.aload 7, 2) := by decide +kernel
theorem dX3_countOf_41 : decode cX3_countOf 41 = .ok (.getfield 125, 3) := by decide +kernel
theorem dX3_countOf_44 : decode cX3_countOf 44 = .ok (.iload_n 1, 1) := by decide +kernel
theorem dX3_countOf_45 : decode cX3_countOf 45 = .ok (.if_icmp .ne 6, 3) := by decide +kernel
theorem dX3_countOf_48 : decode cX3_countOf 48 = .ok (.iinc 3 1, 3) := by decide +kernel
theorem dX3_countOf_51 : decode cX3_countOf 51 = .ok (.iinc 6 1, 3) := by decide +kernel
theorem dX3_countOf_54 : decode cX3_countOf 54 = .ok (.goto (-38), 3) := by decide +kernel
theorem dX3_countOf_57 : decode cX3_countOf 57 = .ok (.iload_n 3, 1) := by decide +kernel
theorem dX3_countOf_58 : decode cX3_countOf 58 = .ok (.ireturn, 1) := by decide +kernel
theorem dX3_tryOut_0 : decode cX3_tryOut 0 = .ok (.aload_n 0, 1) := by decide +kernel
theorem dX3_tryOut_1 : decode cX3_tryOut 1 = .ok (.getfield 38, 3) := by decide +kernel
theorem dX3_tryOut_4 : decode cX3_tryOut 4 = .ok (.aload_n 2, 1) := by decide +kernel
theorem dX3_tryOut_5 : decode cX3_tryOut 5 = .ok (.invokevirtual 223, 3) := by decide +kernel
theorem dX3_tryOut_8 : decode cX3_tryOut 8 = .ok (.aload_n 0, 1) := by decide +kernel
theorem dX3_tryOut_9 : decode cX3_tryOut 9 = .ok (.getfield 43, 3) := by decide +kernel
theorem dX3_tryOut_12 : decode cX3_tryOut 12 = .ok (.aload_n 1, 1) := by decide +kernel
theorem dX3_tryOut_13 : decode cX3_tryOut 13 = .ok (.aload_n 0, 1) := by decide +kernel
theorem dX3_tryOut_14 : decode cX3_tryOut 14 = .ok (.getfield 38, 3) := by decide +kernel
theorem dX3_tryOut_17 : decode cX3_tryOut 17 = .ok (.invokevirtual 227, 3) := by decide +kernel
theorem dX3_tryOut_20 : decode cX3_tryOut 20 = .ok (.return_, 1) := by decide +kernel
theorem dX3_tryAnHour_0 : decode cX3_tryAnHour 0 = .ok (.aload_n 0, 1) := by decide +kernel
theorem dX3_tryAnHour_1 : decode cX3_tryAnHour 1 = .ok (.getfield 38, 3) := by decide +kernel
theorem dX3_tryAnHour_4 : decode cX3_tryAnHour 4 = .ok (.iload_n 1, 1) := by decide +kernel
theorem dX3_tryAnHour_5 : decode cX3_tryAnHour 5 = .ok (.invokevirtual 217, 3) := by decide +kernel
theorem dX3_tryAnHour_8 : decode cX3_tryAnHour 8 = .ok (.aload_n 0, 1) := by decide +kernel
theorem dX3_tryAnHour_9 : decode cX3_tryAnHour 9 = .ok (.getfield 43, 3) := by decide +kernel
theorem dX3_tryAnHour_12 : decode cX3_tryAnHour 12 = .ok (.invokevirtual 221, 3) := by decide +kernel
theorem dX3_tryAnHour_15 : decode cX3_tryAnHour 15 = .ok (.ireturn, 1) := by decide +kernel
theorem dX3_triedHoursUntil_0 : decode cX3_triedHoursUntil 0 = .ok (.iconst 1, 1) := by decide +kernel
theorem dX3_triedHoursUntil_1 : decode cX3_triedHoursUntil 1 = .ok (.istore_n 2, 1) := by decide +kernel
theorem dX3_triedHoursUntil_2 : decode cX3_triedHoursUntil 2 = .ok (.iload_n 2, 1) := by decide +kernel
theorem dX3_triedHoursUntil_3 : decode cX3_triedHoursUntil 3 = .ok (.sipush 200, 3) := by decide +kernel
theorem dX3_triedHoursUntil_6 : decode cX3_triedHoursUntil 6 = .ok (.if_icmp .gt 31, 3) := by decide +kernel
theorem dX3_triedHoursUntil_9 : decode cX3_triedHoursUntil 9 = .ok (.aload_n 0, 1) := by decide +kernel
theorem dX3_triedHoursUntil_10 : decode cX3_triedHoursUntil 10 = .ok (.aload_n 0, 1) := by decide +kernel
theorem dX3_triedHoursUntil_11 : decode cX3_triedHoursUntil 11 = .ok (.getfield 31, 3) := by decide +kernel
theorem dX3_triedHoursUntil_14 : decode cX3_triedHoursUntil 14 = .ok (.invokevirtual 230, 3) := by decide +kernel
theorem dX3_triedHoursUntil_17 : decode cX3_triedHoursUntil 17 = .ok (.pop, 1) := by decide +kernel
theorem dX3_triedHoursUntil_18 : decode cX3_triedHoursUntil 18 = .ok (.aload_n 0, 1) := by decide +kernel
theorem dX3_triedHoursUntil_19 : decode cX3_triedHoursUntil 19 = .ok (.getfield 43, 3) := by decide +kernel
theorem dX3_triedHoursUntil_22 : decode cX3_triedHoursUntil 22 = .ok (.getfield 84, 3) := by decide +kernel
theorem dX3_triedHoursUntil_25 : decode cX3_triedHoursUntil 25 = .ok (.aload_n 1, 1) := by decide +kernel
theorem dX3_triedHoursUntil_26 : decode cX3_triedHoursUntil 26 = .ok (.if_acmp .ne 5, 3) := by decide +kernel
theorem dX3_triedHoursUntil_29 : decode cX3_triedHoursUntil 29 = .ok (.iload_n 2, 1) := by decide +kernel
theorem dX3_triedHoursUntil_30 : decode cX3_triedHoursUntil 30 = .ok (.ireturn, 1) := by decide +kernel
theorem dX3_triedHoursUntil_31 : decode cX3_triedHoursUntil 31 = .ok (.iinc 2 1, 3) := by decide +kernel
theorem dX3_triedHoursUntil_34 : decode cX3_triedHoursUntil 34 = .ok (.goto (-32), 3) := by decide +kernel
theorem dX3_triedHoursUntil_37 : decode cX3_triedHoursUntil 37 = .ok (.iconst (-1), 1) := by decide +kernel
theorem dX3_triedHoursUntil_38 : decode cX3_triedHoursUntil 38 = .ok (.ireturn, 1) := by decide +kernel
theorem dX3_hoursUntil_0 : decode cX3_hoursUntil 0 = .ok (.aload_n 1, 1) := by decide +kernel
theorem dX3_hoursUntil_1 : decode cX3_hoursUntil 1 = .ok (.getfield 84, 3) := by decide +kernel
theorem dX3_hoursUntil_4 : decode cX3_hoursUntil 4 = .ok (.aload_n 2, 1) := by decide +kernel
theorem dX3_hoursUntil_5 : decode cX3_hoursUntil 5 = .ok (.if_acmp .ne 5, 3) := by decide +kernel
theorem dX3_hoursUntil_8 : decode cX3_hoursUntil 8 = .ok (.iconst 0, 1) := by decide +kernel
theorem dX3_hoursUntil_9 : decode cX3_hoursUntil 9 = .ok (.ireturn, 1) := by decide +kernel
theorem dX3_hoursUntil_10 : decode cX3_hoursUntil 10 = .ok (.aload_n 1, 1) := by decide +kernel
theorem dX3_hoursUntil_11 : decode cX3_hoursUntil 11 = .ok (.getfield 77, 3) := by decide +kernel
theorem dX3_hoursUntil_14 : decode cX3_hoursUntil 14 = .ok (.astore_n 3, 1) := by decide +kernel
theorem dX3_hoursUntil_15 : decode cX3_hoursUntil 15 = .ok (.aload_n 3, 1) := by decide +kernel
theorem dX3_hoursUntil_16 : decode cX3_hoursUntil 16 = .ok (.ifnonnull 5, 3) := by decide +kernel
theorem dX3_hoursUntil_19 : decode cX3_hoursUntil 19 = .ok (.iconst (-1), 1) := by decide +kernel
theorem dX3_hoursUntil_20 : decode cX3_hoursUntil 20 = .ok (.ireturn, 1) := by decide +kernel
theorem dX3_hoursUntil_21 : decode cX3_hoursUntil 21 = .ok (.aload_n 0, 1) := by decide +kernel
theorem dX3_hoursUntil_22 : decode cX3_hoursUntil 22 = .ok (.aload_n 1, 1) := by decide +kernel
theorem dX3_hoursUntil_23 : decode cX3_hoursUntil 23 = .ok (.aload_n 3, 1) := by decide +kernel
theorem dX3_hoursUntil_24 : decode cX3_hoursUntil 24 = .ok (.invokevirtual 234, 3) := by decide +kernel
theorem dX3_hoursUntil_27 : decode cX3_hoursUntil 27 = .ok (.aload_n 0, 1) := by decide +kernel
theorem dX3_hoursUntil_28 : decode cX3_hoursUntil 28 = .ok (.aload_n 2, 1) := by decide +kernel
theorem dX3_hoursUntil_29 : decode cX3_hoursUntil 29 = .ok (.invokevirtual 237, 3) := by decide +kernel
theorem dX3_hoursUntil_32 : decode cX3_hoursUntil 32 = .ok (.ireturn, 1) := by decide +kernel
theorem dX3_liesBehind_0 : decode cX3_liesBehind 0 = .ok (.aload_n 1, 1) := by decide +kernel
theorem dX3_liesBehind_1 : decode cX3_liesBehind 1 = .ok (.getfield 77, 3) := by decide +kernel
theorem dX3_liesBehind_4 : decode cX3_liesBehind 4 = .ok (.astore_n 3, 1) := by decide +kernel
theorem dX3_liesBehind_5 : decode cX3_liesBehind 5 = .ok (.aload_n 3, 1) := by decide +kernel
theorem dX3_liesBehind_6 : decode cX3_liesBehind 6 = .ok (.ifnonnull 5, 3) := by decide +kernel
theorem dX3_liesBehind_9 : decode cX3_liesBehind 9 = .ok (.iconst 0, 1) := by decide +kernel
theorem dX3_liesBehind_10 : decode cX3_liesBehind 10 = .ok (.ireturn, 1) := by decide +kernel
theorem dX3_liesBehind_11 : decode cX3_liesBehind 11 = .ok (.aload_n 0, 1) := by decide +kernel
theorem dX3_liesBehind_12 : decode cX3_liesBehind 12 = .ok (.aload_n 1, 1) := by decide +kernel
theorem dX3_liesBehind_13 : decode cX3_liesBehind 13 = .ok (.aload_n 3, 1) := by decide +kernel
theorem dX3_liesBehind_14 : decode cX3_liesBehind 14 = .ok (.invokevirtual 234, 3) := by decide +kernel
theorem dX3_liesBehind_17 : decode cX3_liesBehind 17 = .ok (.iconst 0, 1) := by decide +kernel
theorem dX3_liesBehind_18 : decode cX3_liesBehind 18 = .ok (.istore 4, 2) := by decide +kernel
theorem dX3_liesBehind_20 : decode cX3_liesBehind 20 = .ok (.iload 4, 2) := by decide +kernel
theorem dX3_liesBehind_22 : decode cX3_liesBehind 22 = .ok (.iload_n 2, 1) := by decide +kernel
theorem dX3_liesBehind_23 : decode cX3_liesBehind 23 = .ok (.if_icmp .ge 18, 3) := by decide +kernel
theorem dX3_liesBehind_26 : decode cX3_liesBehind 26 = .ok (.aload_n 0, 1) := by decide +kernel
theorem dX3_liesBehind_27 : decode cX3_liesBehind 27 = .ok (.aload_n 0, 1) := by decide +kernel
theorem dX3_liesBehind_28 : decode cX3_liesBehind 28 = .ok (.getfield 31, 3) := by decide +kernel
theorem dX3_liesBehind_31 : decode cX3_liesBehind 31 = .ok (.invokevirtual 230, 3) := by decide +kernel
theorem dX3_liesBehind_34 : decode cX3_liesBehind 34 = .ok (.pop, 1) := by decide +kernel
theorem dX3_liesBehind_35 : decode cX3_liesBehind 35 = .ok (.iinc 4 1, 3) := by decide +kernel
theorem dX3_liesBehind_38 : decode cX3_liesBehind 38 = .ok (.goto (-18), 3) := by decide +kernel
theorem dX3_liesBehind_41 : decode cX3_liesBehind 41 = .ok (.aload_n 0, 1) := by decide +kernel
theorem dX3_liesBehind_42 : decode cX3_liesBehind 42 = .ok (.getfield 43, 3) := by decide +kernel
theorem dX3_liesBehind_45 : decode cX3_liesBehind 45 = .ok (.getfield 77, 3) := by decide +kernel
theorem dX3_liesBehind_48 : decode cX3_liesBehind 48 = .ok (.ifnull 7, 3) := by decide +kernel
theorem dX3_liesBehind_51 : decode cX3_liesBehind 51 = .ok (.iconst 1, 1) := by decide +kernel
theorem dX3_liesBehind_52 : decode cX3_liesBehind 52 = .ok (.goto 4, 3) := by decide +kernel
theorem dX3_liesBehind_55 : decode cX3_liesBehind 55 = .ok (.iconst 0, 1) := by decide +kernel
theorem dX3_liesBehind_56 : decode cX3_liesBehind 56 = .ok (.ireturn, 1) := by decide +kernel
theorem dX3_hoursToFreezeAnew_0 : decode cX3_hoursToFreezeAnew 0 = .ok (.aload_n 0, 1) := by decide +kernel
theorem dX3_hoursToFreezeAnew_1 : decode cX3_hoursToFreezeAnew 1 = .ok (.getfield 38, 3) := by decide +kernel
theorem dX3_hoursToFreezeAnew_4 : decode cX3_hoursToFreezeAnew 4 = .ok (.aload_n 1, 1) := by decide +kernel
theorem dX3_hoursToFreezeAnew_5 : decode cX3_hoursToFreezeAnew 5 = .ok (.invokevirtual 223, 3) := by decide +kernel
theorem dX3_hoursToFreezeAnew_8 : decode cX3_hoursToFreezeAnew 8 = .ok (.aload_n 0, 1) := by decide +kernel
theorem dX3_hoursToFreezeAnew_9 : decode cX3_hoursToFreezeAnew 9 = .ok (.getfield 38, 3) := by decide +kernel
theorem dX3_hoursToFreezeAnew_12 : decode cX3_hoursToFreezeAnew 12 = .ok (.invokevirtual 70, 3) := by decide +kernel
theorem dX3_hoursToFreezeAnew_15 : decode cX3_hoursToFreezeAnew 15 = .ok (.aload_n 0, 1) := by decide +kernel
theorem dX3_hoursToFreezeAnew_16 : decode cX3_hoursToFreezeAnew 16 = .ok (.getfield 43, 3) := by decide +kernel
theorem dX3_hoursToFreezeAnew_19 : decode cX3_hoursToFreezeAnew 19 = .ok (.iconst 0, 1) := by decide +kernel
theorem dX3_hoursToFreezeAnew_20 : decode cX3_hoursToFreezeAnew 20 = .ok (.bipush 100, 2) := by decide +kernel
theorem dX3_hoursToFreezeAnew_22 : decode cX3_hoursToFreezeAnew 22 = .ok (.aload_n 0, 1) := by decide +kernel
theorem dX3_hoursToFreezeAnew_23 : decode cX3_hoursToFreezeAnew 23 = .ok (.getfield 38, 3) := by decide +kernel
theorem dX3_hoursToFreezeAnew_26 : decode cX3_hoursToFreezeAnew 26 = .ok (.invokevirtual 66, 3) := by decide +kernel
theorem dX3_hoursToFreezeAnew_29 : decode cX3_hoursToFreezeAnew 29 = .ok (.aload_n 0, 1) := by decide +kernel
theorem dX3_hoursToFreezeAnew_30 : decode cX3_hoursToFreezeAnew 30 = .ok (.getstatic 129, 3) := by decide +kernel
theorem dX3_hoursToFreezeAnew_33 : decode cX3_hoursToFreezeAnew 33 = .ok (.invokevirtual 237, 3) := by decide +kernel
theorem dX3_hoursToFreezeAnew_36 : decode cX3_hoursToFreezeAnew 36 = .ok (.ireturn, 1) := by decide +kernel
theorem dX3_hoursToAlarmWithoutPower_0 : decode cX3_hoursToAlarmWithoutPower 0 = .ok (.aload_n 1, 1) := by decide +kernel
theorem dX3_hoursToAlarmWithoutPower_1 : decode cX3_hoursToAlarmWithoutPower 1 = .ok (.getfield 77, 3) := by decide +kernel
theorem dX3_hoursToAlarmWithoutPower_4 : decode cX3_hoursToAlarmWithoutPower 4 = .ok (.astore_n 2, 1) := by decide +kernel
theorem dX3_hoursToAlarmWithoutPower_5 : decode cX3_hoursToAlarmWithoutPower 5 = .ok (.aload_n 2, 1) := by decide +kernel
theorem dX3_hoursToAlarmWithoutPower_6 : decode cX3_hoursToAlarmWithoutPower 6 = .ok (.ifnonnull 5, 3) := by decide +kernel
theorem dX3_hoursToAlarmWithoutPower_9 : decode cX3_hoursToAlarmWithoutPower 9 = .ok (.iconst (-1), 1) := by decide +kernel
theorem dX3_hoursToAlarmWithoutPower_10 : decode cX3_hoursToAlarmWithoutPower 10 = .ok (.ireturn, 1) := by decide +kernel
theorem dX3_hoursToAlarmWithoutPower_11 : decode cX3_hoursToAlarmWithoutPower 11 = .ok (.aload_n 0, 1) := by decide +kernel
theorem dX3_hoursToAlarmWithoutPower_12 : decode cX3_hoursToAlarmWithoutPower 12 = .ok (.aload_n 1, 1) := by decide +kernel
theorem dX3_hoursToAlarmWithoutPower_13 : decode cX3_hoursToAlarmWithoutPower 13 = .ok (.aload_n 2, 1) := by decide +kernel
theorem dX3_hoursToAlarmWithoutPower_14 : decode cX3_hoursToAlarmWithoutPower 14 = .ok (.invokevirtual 234, 3) := by decide +kernel
theorem dX3_hoursToAlarmWithoutPower_17 : decode cX3_hoursToAlarmWithoutPower 17 = .ok (.iconst 1, 1) := by decide +kernel
theorem dX3_hoursToAlarmWithoutPower_18 : decode cX3_hoursToAlarmWithoutPower 18 = .ok (.istore_n 3, 1) := by decide +kernel
theorem dX3_hoursToAlarmWithoutPower_19 : decode cX3_hoursToAlarmWithoutPower 19 = .ok (.iload_n 3, 1) := by decide +kernel
theorem dX3_hoursToAlarmWithoutPower_20 : decode cX3_hoursToAlarmWithoutPower 20 = .ok (.sipush 200, 3) := by decide +kernel
theorem dX3_hoursToAlarmWithoutPower_23 : decode cX3_hoursToAlarmWithoutPower 23 = .ok (.if_icmp .gt 19, 3) := by decide +kernel
theorem dX3_hoursToAlarmWithoutPower_26 : decode cX3_hoursToAlarmWithoutPower 26 = .ok (.aload_n 0, 1) := by decide +kernel
theorem dX3_hoursToAlarmWithoutPower_27 : decode cX3_hoursToAlarmWithoutPower 27 = .ok (.iconst 0, 1) := by decide +kernel
theorem dX3_hoursToAlarmWithoutPower_28 : decode cX3_hoursToAlarmWithoutPower 28 = .ok (.invokevirtual 230, 3) := by decide +kernel
theorem dX3_hoursToAlarmWithoutPower_31 : decode cX3_hoursToAlarmWithoutPower 31 = .ok (.ifCond .eq 5, 3) := by decide +kernel
theorem dX3_hoursToAlarmWithoutPower_34 : decode cX3_hoursToAlarmWithoutPower 34 = .ok (.iload_n 3, 1) := by decide +kernel
theorem dX3_hoursToAlarmWithoutPower_35 : decode cX3_hoursToAlarmWithoutPower 35 = .ok (.ireturn, 1) := by decide +kernel
theorem dX3_hoursToAlarmWithoutPower_36 : decode cX3_hoursToAlarmWithoutPower 36 = .ok (.iinc 3 1, 3) := by decide +kernel
theorem dX3_hoursToAlarmWithoutPower_39 : decode cX3_hoursToAlarmWithoutPower 39 = .ok (.goto (-20), 3) := by decide +kernel
theorem dX3_hoursToAlarmWithoutPower_42 : decode cX3_hoursToAlarmWithoutPower 42 = .ok (.iconst (-1), 1) := by decide +kernel
theorem dX3_hoursToAlarmWithoutPower_43 : decode cX3_hoursToAlarmWithoutPower 43 = .ok (.ireturn, 1) := by decide +kernel
theorem dX3_isSooner_0 : decode cX3_isSooner 0 = .ok (.iload_n 0, 1) := by decide +kernel
theorem dX3_isSooner_1 : decode cX3_isSooner 1 = .ok (.iconst (-1), 1) := by decide +kernel
theorem dX3_isSooner_2 : decode cX3_isSooner 2 = .ok (.if_icmp .eq 17, 3) := by decide +kernel
theorem dX3_isSooner_5 : decode cX3_isSooner 5 = .ok (.iload_n 1, 1) := by decide +kernel
theorem dX3_isSooner_6 : decode cX3_isSooner 6 = .ok (.iconst (-1), 1) := by decide +kernel
theorem dX3_isSooner_7 : decode cX3_isSooner 7 = .ok (.if_icmp .eq 8, 3) := by decide +kernel
theorem dX3_isSooner_10 : decode cX3_isSooner 10 = .ok (.iload_n 0, 1) := by decide +kernel
theorem dX3_isSooner_11 : decode cX3_isSooner 11 = .ok (.iload_n 1, 1) := by decide +kernel
theorem dX3_isSooner_12 : decode cX3_isSooner 12 = .ok (.if_icmp .ge 7, 3) := by decide +kernel
theorem dX3_isSooner_15 : decode cX3_isSooner 15 = .ok (.iconst 1, 1) := by decide +kernel
theorem dX3_isSooner_16 : decode cX3_isSooner 16 = .ok (.goto 4, 3) := by decide +kernel
theorem dX3_isSooner_19 : decode cX3_isSooner 19 = .ok (.iconst 0, 1) := by decide +kernel
theorem dX3_isSooner_20 : decode cX3_isSooner 20 = .ok (.ireturn, 1) := by decide +kernel
theorem dX3_asNumber_0 : decode cX3_asNumber 0 = .ok (.iload_n 0, 1) := by decide +kernel
theorem dX3_asNumber_1 : decode cX3_asNumber 1 = .ok (.ifCond .eq 7, 3) := by decide +kernel
theorem dX3_asNumber_4 : decode cX3_asNumber 4 = .ok (.iconst 1, 1) := by decide +kernel
theorem dX3_asNumber_5 : decode cX3_asNumber 5 = .ok (.goto 4, 3) := by decide +kernel
theorem dX3_asNumber_8 : decode cX3_asNumber 8 = .ok (.iconst 0, 1) := by decide +kernel
theorem dX3_asNumber_9 : decode cX3_asNumber 9 = .ok (.ireturn, 1) := by decide +kernel
theorem dX3_withShelves_0 : decode cX3_withShelves 0 = .ok (.lload_n 1, 1) := by decide +kernel
theorem dX3_withShelves_1 : decode cX3_withShelves 1 = .ok (.lstore_n 3, 1) := by decide +kernel
theorem dX3_withShelves_2 : decode cX3_withShelves 2 = .ok (.iconst 0, 1) := by decide +kernel
theorem dX3_withShelves_3 : decode cX3_withShelves 3 = .ok (.istore 5, 2) := by decide +kernel
theorem dX3_withShelves_5 : decode cX3_withShelves 5 = .ok (.iload 5, 2) := by decide +kernel
theorem dX3_withShelves_7 : decode cX3_withShelves 7 = .ok (.iconst 5, 1) := by decide +kernel
theorem dX3_withShelves_8 : decode cX3_withShelves 8 = .ok (.if_icmp .ge 51, 3) := by decide +kernel
theorem dX3_withShelves_11 : decode cX3_withShelves 11 = .ok (.lload_n 3, 1) := by decide +kernel
theorem dX3_withShelves_12 : decode cX3_withShelves 12 = .ok (.ldc2_w 165, 3) := by decide +kernel
theorem dX3_withShelves_15 : decode cX3_withShelves 15 = .ok (.lmul, 1) := by decide +kernel
theorem dX3_withShelves_16 : decode cX3_withShelves 16 = .ok (.aload_n 0, 1) := by decide +kernel
theorem dX3_withShelves_17 : decode cX3_withShelves 17 = .ok (.iload 5, 2) := by decide +kernel
theorem dX3_withShelves_19 : decode cX3_withShelves 19 = .ok (.invokevirtual 241, 3) := by decide +kernel
theorem dX3_withShelves_22 : decode cX3_withShelves 22 = .ok (.i2l, 1) := by decide +kernel
theorem dX3_withShelves_23 : decode cX3_withShelves 23 = .ok (.ladd, 1) := by decide +kernel
theorem dX3_withShelves_24 : decode cX3_withShelves 24 = .ok (.lstore_n 3, 1) := by decide +kernel
theorem dX3_withShelves_25 : decode cX3_withShelves 25 = .ok (.lload_n 3, 1) := by decide +kernel
theorem dX3_withShelves_26 : decode cX3_withShelves 26 = .ok (.ldc2_w 165, 3) := by decide +kernel
theorem dX3_withShelves_29 : decode cX3_withShelves 29 = .ok (.lmul, 1) := by decide +kernel
theorem dX3_withShelves_30 : decode cX3_withShelves 30 = .ok (.aload_n 0, 1) := by decide +kernel
theorem dX3_withShelves_31 : decode cX3_withShelves 31 = .ok (.iload 5, 2) := by decide +kernel
theorem dX3_withShelves_33 : decode cX3_withShelves 33 = .ok (.invokevirtual 244, 3) := by decide +kernel
theorem dX3_withShelves_36 : decode cX3_withShelves 36 = .ok (.i2l, 1) := by decide +kernel
theorem dX3_withShelves_37 : decode cX3_withShelves 37 = .ok (.ladd, 1) := by decide +kernel
theorem dX3_withShelves_38 : decode cX3_withShelves 38 = .ok (.lstore_n 3, 1) := by decide +kernel
theorem dX3_withShelves_39 : decode cX3_withShelves 39 = .ok (.lload_n 3, 1) := by decide +kernel
theorem dX3_withShelves_40 : decode cX3_withShelves 40 = .ok (.ldc2_w 165, 3) := by decide +kernel
theorem dX3_withShelves_43 : decode cX3_withShelves 43 = .ok (.lmul, 1) := by decide +kernel
theorem dX3_withShelves_44 : decode cX3_withShelves 44 = .ok (.aload_n 0, 1) := by decide +kernel
theorem dX3_withShelves_45 : decode cX3_withShelves 45 = .ok (.iload 5, 2) := by decide +kernel
theorem dX3_withShelves_47 : decode cX3_withShelves 47 = .ok (.invokevirtual 247, 3) := by decide +kernel
theorem dX3_withShelves_50 : decode cX3_withShelves 50 = .ok (.i2l, 1) := by decide +kernel
theorem dX3_withShelves_51 : decode cX3_withShelves 51 = .ok (.ladd, 1) := by decide +kernel
theorem dX3_withShelves_52 : decode cX3_withShelves 52 = .ok (.lstore_n 3, 1) := by decide +kernel
theorem dX3_withShelves_53 : decode cX3_withShelves 53 = .ok (.iinc 5 1, 3) := by decide +kernel
theorem dX3_withShelves_56 : decode cX3_withShelves 56 = .ok (.goto (-51), 3) := by decide +kernel
theorem dX3_withShelves_59 : decode cX3_withShelves 59 = .ok (.lload_n 3, 1) := by decide +kernel
theorem dX3_withShelves_60 : decode cX3_withShelves 60 = .ok (.lreturn, 1) := by decide +kernel
theorem dX3_withPromises_0 : decode cX3_withPromises 0 = .ok (.lload_n 1, 1) := by decide +kernel
theorem dX3_withPromises_1 : decode cX3_withPromises 1 = .ok (.lstore_n 3, 1) := by decide +kernel
theorem dX3_withPromises_2 : decode cX3_withPromises 2 = .ok (.iconst 0, 1) := by decide +kernel
theorem dX3_withPromises_3 : decode cX3_withPromises 3 = .ok (.istore 5, 2) := by decide +kernel
theorem dX3_withPromises_5 : decode cX3_withPromises 5 = .ok (.iload 5, 2) := by decide +kernel
theorem dX3_withPromises_7 : decode cX3_withPromises 7 = .ok (.aload_n 0, 1) := by decide +kernel
theorem dX3_withPromises_8 : decode cX3_withPromises 8 = .ok (.getfield 21, 3) := by decide +kernel
theorem dX3_withPromises_11 : decode cX3_withPromises 11 = .ok (.if_icmp .ge 147, 3) := by decide +kernel
theorem dX3_withPromises_14 : decode cX3_withPromises 14 = .ok (.lload_n 3, 1) := by decide +kernel
theorem dX3_withPromises_15 : decode cX3_withPromises 15 = .ok (.ldc2_w 165, 3) := by decide +kernel
theorem dX3_withPromises_18 : decode cX3_withPromises 18 = .ok (.lmul, 1) := by decide +kernel
theorem dX3_withPromises_19 : decode cX3_withPromises 19 = .ok (.aload_n 0, 1) := by decide +kernel
theorem dX3_withPromises_20 : decode cX3_withPromises 20 = .ok (.iload 5, 2) := by decide +kernel
theorem dX3_withPromises_22 : decode cX3_withPromises 22 = .ok (.invokevirtual 250, 3) := by decide +kernel
theorem dX3_withPromises_25 : decode cX3_withPromises 25 = .ok (.i2l, 1) := by decide +kernel
theorem dX3_withPromises_26 : decode cX3_withPromises 26 = .ok (.ladd, 1) := by decide +kernel
theorem dX3_withPromises_27 : decode cX3_withPromises 27 = .ok (.lstore_n 3, 1) := by decide +kernel
theorem dX3_withPromises_28 : decode cX3_withPromises 28 = .ok (.lload_n 3, 1) := by decide +kernel
theorem dX3_withPromises_29 : decode cX3_withPromises 29 = .ok (.ldc2_w 165, 3) := by decide +kernel
theorem dX3_withPromises_32 : decode cX3_withPromises 32 = .ok (.lmul, 1) := by decide +kernel
theorem dX3_withPromises_33 : decode cX3_withPromises 33 = .ok (.aload_n 0, 1) := by decide +kernel
theorem dX3_withPromises_34 : decode cX3_withPromises 34 = .ok (.iload 5, 2) := by decide +kernel
theorem dX3_withPromises_36 : decode cX3_withPromises 36 = .ok (.invokevirtual 253, 3) := by decide +kernel
theorem dX3_withPromises_39 : decode cX3_withPromises 39 = .ok (.i2l, 1) := by decide +kernel
theorem dX3_withPromises_40 : decode cX3_withPromises 40 = .ok (.ladd, 1) := by decide +kernel
theorem dX3_withPromises_41 : decode cX3_withPromises 41 = .ok (.lstore_n 3, 1) := by decide +kernel
theorem dX3_withPromises_42 : decode cX3_withPromises 42 = .ok (.lload_n 3, 1) := by decide +kernel
theorem dX3_withPromises_43 : decode cX3_withPromises 43 = .ok (.ldc2_w 165, 3) := by decide +kernel
theorem dX3_withPromises_46 : decode cX3_withPromises 46 = .ok (.lmul, 1) := by decide +kernel
theorem dX3_withPromises_47 : decode cX3_withPromises 47 = .ok (.aload_n 0, 1) := by decide +kernel
theorem dX3_withPromises_48 : decode cX3_withPromises 48 = .ok (.iload 5, 2) := by decide +kernel
theorem dX3_withPromises_50 : decode cX3_withPromises 50 = .ok (.invokevirtual 256, 3) := by decide +kernel
theorem dX3_withPromises_53 : decode cX3_withPromises 53 = .ok (.i2l, 1) := by decide +kernel
theorem dX3_withPromises_54 : decode cX3_withPromises 54 = .ok (.ladd, 1) := by decide +kernel
theorem dX3_withPromises_55 : decode cX3_withPromises 55 = .ok (.lstore_n 3, 1) := by decide +kernel
theorem dX3_withPromises_56 : decode cX3_withPromises 56 = .ok (.lload_n 3, 1) := by decide +kernel
theorem dX3_withPromises_57 : decode cX3_withPromises 57 = .ok (.ldc2_w 165, 3) := by decide +kernel
theorem dX3_withPromises_60 : decode cX3_withPromises 60 = .ok (.lmul, 1) := by decide +kernel
theorem dX3_withPromises_61 : decode cX3_withPromises 61 = .ok (.aload_n 0, 1) := by decide +kernel
theorem dX3_withPromises_62 : decode cX3_withPromises 62 = .ok (.iload 5, 2) := by decide +kernel
theorem dX3_withPromises_64 : decode cX3_withPromises 64 = .ok (.invokevirtual 259, 3) := by decide +kernel
theorem dX3_withPromises_67 : decode cX3_withPromises 67 = .ok (.i2l, 1) := by decide +kernel
theorem dX3_withPromises_68 : decode cX3_withPromises 68 = .ok (.ladd, 1) := by decide +kernel
theorem dX3_withPromises_69 : decode cX3_withPromises 69 = .ok (.lstore_n 3, 1) := by decide +kernel
theorem dX3_withPromises_70 : decode cX3_withPromises 70 = .ok (.lload_n 3, 1) := by decide +kernel
theorem dX3_withPromises_71 : decode cX3_withPromises 71 = .ok (.ldc2_w 165, 3) := by decide +kernel
theorem dX3_withPromises_74 : decode cX3_withPromises 74 = .ok (.lmul, 1) := by decide +kernel
theorem dX3_withPromises_75 : decode cX3_withPromises 75 = .ok (.aload_n 0, 1) := by decide +kernel
theorem dX3_withPromises_76 : decode cX3_withPromises 76 = .ok (.iload 5, 2) := by decide +kernel
theorem dX3_withPromises_78 : decode cX3_withPromises 78 = .ok (.invokevirtual 262, 3) := by decide +kernel
theorem dX3_withPromises_81 : decode cX3_withPromises 81 = .ok (.i2l, 1) := by decide +kernel
theorem dX3_withPromises_82 : decode cX3_withPromises 82 = .ok (.ladd, 1) := by decide +kernel
theorem dX3_withPromises_83 : decode cX3_withPromises 83 = .ok (.lstore_n 3, 1) := by decide +kernel
theorem dX3_withPromises_84 : decode cX3_withPromises 84 = .ok (.lload_n 3, 1) := by decide +kernel
theorem dX3_withPromises_85 : decode cX3_withPromises 85 = .ok (.ldc2_w 165, 3) := by decide +kernel
theorem dX3_withPromises_88 : decode cX3_withPromises 88 = .ok (.lmul, 1) := by decide +kernel
theorem dX3_withPromises_89 : decode cX3_withPromises 89 = .ok (.aload_n 0, 1) := by decide +kernel
theorem dX3_withPromises_90 : decode cX3_withPromises 90 = .ok (.iload 5, 2) := by decide +kernel
theorem dX3_withPromises_92 : decode cX3_withPromises 92 = .ok (.invokevirtual 265, 3) := by decide +kernel
theorem dX3_withPromises_95 : decode cX3_withPromises 95 = .ok (.invokestatic 175, 3) := by decide +kernel
theorem dX3_withPromises_98 : decode cX3_withPromises 98 = .ok (.i2l, 1) := by decide +kernel
theorem dX3_withPromises_99 : decode cX3_withPromises 99 = .ok (.ladd, 1) := by decide +kernel
theorem dX3_withPromises_100 : decode cX3_withPromises 100 = .ok (.lstore_n 3, 1) := by decide +kernel
theorem dX3_withPromises_101 : decode cX3_withPromises 101 = .ok (.lload_n 3, 1) := by decide +kernel
theorem dX3_withPromises_102 : decode cX3_withPromises 102 = .ok (.ldc2_w 165, 3) := by decide +kernel
theorem dX3_withPromises_105 : decode cX3_withPromises 105 = .ok (.lmul, 1) := by decide +kernel
theorem dX3_withPromises_106 : decode cX3_withPromises 106 = .ok (.aload_n 0, 1) := by decide +kernel
theorem dX3_withPromises_107 : decode cX3_withPromises 107 = .ok (.iload 5, 2) := by decide +kernel
theorem dX3_withPromises_109 : decode cX3_withPromises 109 = .ok (.invokevirtual 269, 3) := by decide +kernel
theorem dX3_withPromises_112 : decode cX3_withPromises 112 = .ok (.invokestatic 175, 3) := by decide +kernel
theorem dX3_withPromises_115 : decode cX3_withPromises 115 = .ok (.i2l, 1) := by decide +kernel
theorem dX3_withPromises_116 : decode cX3_withPromises 116 = .ok (.ladd, 1) := by decide +kernel
theorem dX3_withPromises_117 : decode cX3_withPromises 117 = .ok (.lstore_n 3, 1) := by decide +kernel
theorem dX3_withPromises_118 : decode cX3_withPromises 118 = .ok (.lload_n 3, 1) := by decide +kernel
theorem dX3_withPromises_119 : decode cX3_withPromises 119 = .ok (.ldc2_w 165, 3) := by decide +kernel
theorem dX3_withPromises_122 : decode cX3_withPromises 122 = .ok (.lmul, 1) := by decide +kernel
theorem dX3_withPromises_123 : decode cX3_withPromises 123 = .ok (.aload_n 0, 1) := by decide +kernel
theorem dX3_withPromises_124 : decode cX3_withPromises 124 = .ok (.iload 5, 2) := by decide +kernel
theorem dX3_withPromises_126 : decode cX3_withPromises 126 = .ok (.invokevirtual 272, 3) := by decide +kernel
theorem dX3_withPromises_129 : decode cX3_withPromises 129 = .ok (.invokestatic 175, 3) := by decide +kernel
theorem dX3_withPromises_132 : decode cX3_withPromises 132 = .ok (.i2l, 1) := by decide +kernel
theorem dX3_withPromises_133 : decode cX3_withPromises 133 = .ok (.ladd, 1) := by decide +kernel
theorem dX3_withPromises_134 : decode cX3_withPromises 134 = .ok (.lstore_n 3, 1) := by decide +kernel
theorem dX3_withPromises_135 : decode cX3_withPromises 135 = .ok (.lload_n 3, 1) := by decide +kernel
theorem dX3_withPromises_136 : decode cX3_withPromises 136 = .ok (.ldc2_w 165, 3) := by decide +kernel
theorem dX3_withPromises_139 : decode cX3_withPromises 139 = .ok (.lmul, 1) := by decide +kernel
theorem dX3_withPromises_140 : decode cX3_withPromises 140 = .ok (.aload_n 0, 1) := by decide +kernel
theorem dX3_withPromises_141 : decode cX3_withPromises 141 = .ok (.iload 5, 2) := by decide +kernel
theorem dX3_withPromises_143 : decode cX3_withPromises 143 = .ok (.invokevirtual 275, 3) := by decide +kernel
theorem dX3_withPromises_146 : decode cX3_withPromises 146 = .ok (.invokestatic 175, 3) := by decide +kernel
theorem dX3_withPromises_149 : decode cX3_withPromises 149 = .ok (.i2l, 1) := by decide +kernel
theorem dX3_withPromises_150 : decode cX3_withPromises 150 = .ok (.ladd, 1) := by decide +kernel
theorem dX3_withPromises_151 : decode cX3_withPromises 151 = .ok (.lstore_n 3, 1) := by decide +kernel
theorem dX3_withPromises_152 : decode cX3_withPromises 152 = .ok (.iinc 5 1, 3) := by decide +kernel
theorem dX3_withPromises_155 : decode cX3_withPromises 155 = .ok (.goto (-150), 3) := by decide +kernel
theorem dX3_withPromises_158 : decode cX3_withPromises 158 = .ok (.lload_n 3, 1) := by decide +kernel
theorem dX3_withPromises_159 : decode cX3_withPromises 159 = .ok (.lreturn, 1) := by decide +kernel
theorem dX3_withMakers_0 : decode cX3_withMakers 0 = .ok (.lload_n 1, 1) := by decide +kernel
theorem dX3_withMakers_1 : decode cX3_withMakers 1 = .ok (.lstore_n 3, 1) := by decide +kernel
theorem dX3_withMakers_2 : decode cX3_withMakers 2 = .ok (.iconst 0, 1) := by decide +kernel
theorem dX3_withMakers_3 : decode cX3_withMakers 3 = .ok (.istore 5, 2) := by decide +kernel
theorem dX3_withMakers_5 : decode cX3_withMakers 5 = .ok (.iload 5, 2) := by decide +kernel
theorem dX3_withMakers_7 : decode cX3_withMakers 7 = .ok (.bipush 6, 2) := by decide +kernel
theorem dX3_withMakers_9 : decode cX3_withMakers 9 = .ok (.if_icmp .ge 37, 3) := by decide +kernel
theorem dX3_withMakers_12 : decode cX3_withMakers 12 = .ok (.lload_n 3, 1) := by decide +kernel
theorem dX3_withMakers_13 : decode cX3_withMakers 13 = .ok (.ldc2_w 165, 3) := by decide +kernel
theorem dX3_withMakers_16 : decode cX3_withMakers 16 = .ok (.lmul, 1) := by decide +kernel
theorem dX3_withMakers_17 : decode cX3_withMakers 17 = .ok (.aload_n 0, 1) := by decide +kernel
theorem dX3_withMakers_18 : decode cX3_withMakers 18 = .ok (.iload 5, 2) := by decide +kernel
theorem dX3_withMakers_20 : decode cX3_withMakers 20 = .ok (.invokevirtual 278, 3) := by decide +kernel
theorem dX3_withMakers_23 : decode cX3_withMakers 23 = .ok (.i2l, 1) := by decide +kernel
theorem dX3_withMakers_24 : decode cX3_withMakers 24 = .ok (.ladd, 1) := by decide +kernel
theorem dX3_withMakers_25 : decode cX3_withMakers 25 = .ok (.lstore_n 3, 1) := by decide +kernel
theorem dX3_withMakers_26 : decode cX3_withMakers 26 = .ok (.lload_n 3, 1) := by decide +kernel
theorem dX3_withMakers_27 : decode cX3_withMakers 27 = .ok (.ldc2_w 165, 3) := by decide +kernel
theorem dX3_withMakers_30 : decode cX3_withMakers 30 = .ok (.lmul, 1) := by decide +kernel
theorem dX3_withMakers_31 : decode cX3_withMakers 31 = .ok (.aload_n 0, 1) := by decide +kernel
theorem dX3_withMakers_32 : decode cX3_withMakers 32 = .ok (.iload 5, 2) := by decide +kernel
theorem dX3_withMakers_34 : decode cX3_withMakers 34 = .ok (.invokevirtual 139, 3) := by decide +kernel
theorem dX3_withMakers_37 : decode cX3_withMakers 37 = .ok (.i2l, 1) := by decide +kernel
theorem dX3_withMakers_38 : decode cX3_withMakers 38 = .ok (.ladd, 1) := by decide +kernel
theorem dX3_withMakers_39 : decode cX3_withMakers 39 = .ok (.lstore_n 3, 1) := by decide +kernel
theorem dX3_withMakers_40 : decode cX3_withMakers 40 = .ok (.iinc 5 1, 3) := by decide +kernel
theorem dX3_withMakers_43 : decode cX3_withMakers 43 = .ok (.goto (-38), 3) := by decide +kernel
theorem dX3_withMakers_46 : decode cX3_withMakers 46 = .ok (.lload_n 3, 1) := by decide +kernel
theorem dX3_withMakers_47 : decode cX3_withMakers 47 = .ok (.lreturn, 1) := by decide +kernel
end
section
theorem dX4_init_0 : decode cX4_init 0 = .ok (.aload_n 0, 1) := by decide +kernel
theorem dX4_init_1 : decode cX4_init 1 = .ok (.invokespecial 3, 3) := by decide +kernel
theorem dX4_init_4 : decode cX4_init 4 = .ok (.aload_n 0, 1) := by decide +kernel
theorem dX4_init_5 : decode cX4_init 5 = .ok (.bipush 20, 2) := by decide +kernel
theorem dX4_init_7 : decode cX4_init 7 = .ok (.newarray .int, 2) := by decide +kernel
theorem dX4_init_9 : decode cX4_init 9 = .ok (.putfield 9, 3) := by decide +kernel
theorem dX4_init_12 : decode cX4_init 12 = .ok (.aload_n 0, 1) := by decide +kernel
theorem dX4_init_13 : decode cX4_init 13 = .ok (.bipush 20, 2) := by decide +kernel
theorem dX4_init_15 : decode cX4_init 15 = .ok (.newarray .int, 2) := by decide +kernel
theorem dX4_init_17 : decode cX4_init 17 = .ok (.putfield 13, 3) := by decide +kernel
theorem dX4_init_20 : decode cX4_init 20 = .ok (.aload_n 0, 1) := by decide +kernel
theorem dX4_init_21 : decode cX4_init 21 = .ok (.bipush 113, 2) := by decide +kernel
theorem dX4_init_23 : decode cX4_init 23 = .ok (.newarray .int, 2) := by decide +kernel
theorem dX4_init_25 : decode cX4_init 25 = .ok (.putfield 16, 3) := by decide +kernel
theorem dX4_init_28 : decode cX4_init 28 = .ok (.aload_n 0, 1) := by decide +kernel
theorem dX4_init_29 : decode cX4_init 29 = .ok (.bipush 113, 2) := by decide +kernel
theorem dX4_init_31 : decode cX4_init 31 = .ok (.newarray .int, 2) := by decide +kernel
theorem dX4_init_33 : decode cX4_init 33 = .ok (.putfield 19, 3) := by decide +kernel
theorem dX4_init_36 : decode cX4_init 36 = .ok (.aload_n 0, 1) := by decide +kernel
theorem dX4_init_37 : decode cX4_init 37 = .ok (.getfield 16, 3) := by decide +kernel
theorem dX4_init_40 : decode cX4_init 40 = .ok (.iconst 1, 1) := by decide +kernel
theorem dX4_init_41 : decode cX4_init 41 = .ok (.iconst 1, 1) := by decide +kernel
theorem dX4_init_42 : decode cX4_init 42 = .ok (.iastore, 1) := by decide +kernel
theorem dX4_init_43 : decode cX4_init 43 = .ok (.iconst 0, 1) := by decide +kernel
theorem dX4_init_44 : decode cX4_init 44 = .ok (.istore_n 1, 1) := by decide +kernel
theorem dX4_init_45 : decode cX4_init 45 = .ok (.iload_n 1, 1) := by decide +kernel
theorem dX4_init_46 : decode cX4_init 46 = .ok (.iconst 5, 1) := by decide +kernel
theorem dX4_init_47 : decode cX4_init 47 = .ok (.if_icmp .ge 33, 3) := by decide +kernel
theorem dX4_init_50 : decode cX4_init 50 = .ok (.aload_n 0, 1) := by decide +kernel
theorem dX4_init_51 : decode cX4_init 51 = .ok (.getfield 16, 3) := by decide +kernel
theorem dX4_init_54 : decode cX4_init 54 = .ok (.iload_n 1, 1) := by decide +kernel
theorem dX4_init_55 : decode cX4_init 55 = .ok (.iconst 0, 1) := by decide +kernel
theorem dX4_init_56 : decode cX4_init 56 = .ok (.invokestatic 22, 3) := by decide +kernel
theorem dX4_init_59 : decode cX4_init 59 = .ok (.bipush (-18), 2) := by decide +kernel
theorem dX4_init_61 : decode cX4_init 61 = .ok (.iastore, 1) := by decide +kernel
theorem dX4_init_62 : decode cX4_init 62 = .ok (.aload_n 0, 1) := by decide +kernel
theorem dX4_init_63 : decode cX4_init 63 = .ok (.getfield 16, 3) := by decide +kernel
theorem dX4_init_66 : decode cX4_init 66 = .ok (.iload_n 1, 1) := by decide +kernel
theorem dX4_init_67 : decode cX4_init 67 = .ok (.iconst 1, 1) := by decide +kernel
theorem dX4_init_68 : decode cX4_init 68 = .ok (.invokestatic 22, 3) := by decide +kernel
theorem dX4_init_71 : decode cX4_init 71 = .ok (.bipush (-18), 2) := by decide +kernel
theorem dX4_init_73 : decode cX4_init 73 = .ok (.iastore, 1) := by decide +kernel
theorem dX4_init_74 : decode cX4_init 74 = .ok (.iinc 1 1, 3) := by decide +kernel
theorem dX4_init_77 : decode cX4_init 77 = .ok (.goto (-32), 3) := by decide +kernel
theorem dX4_init_80 : decode cX4_init 80 = .ok (.return_, 1) := by decide +kernel
theorem dX4_thrown_0 : decode cX4_thrown 0 = .ok (.aload_n 0, 1) := by decide +kernel
theorem dX4_thrown_1 : decode cX4_thrown 1 = .ok (.getfield 26, 3) := by decide +kernel
theorem dX4_thrown_4 : decode cX4_thrown 4 = .ok (.ireturn, 1) := by decide +kernel
theorem dX4_no_0 : decode cX4_no 0 = .ok (.aload_n 0, 1) := by decide +kernel
theorem dX4_no_1 : decode cX4_no 1 = .ok (.iload_n 1, 1) := by decide +kernel
theorem dX4_no_2 : decode cX4_no 2 = .ok (.putfield 26, 3) := by decide +kernel
theorem dX4_no_5 : decode cX4_no 5 = .ok (.iconst 0, 1) := by decide +kernel
theorem dX4_no_6 : decode cX4_no 6 = .ok (.ireturn, 1) := by decide +kernel
theorem dX4_isNot_0 : decode cX4_isNot 0 = .ok (.aload_n 0, 1) := by decide +kernel
theorem dX4_isNot_1 : decode cX4_isNot 1 = .ok (.iload_n 1, 1) := by decide +kernel
theorem dX4_isNot_2 : decode cX4_isNot 2 = .ok (.putfield 26, 3) := by decide +kernel
theorem dX4_isNot_5 : decode cX4_isNot 5 = .ok (.iconst 0, 1) := by decide +kernel
theorem dX4_isNot_6 : decode cX4_isNot 6 = .ok (.ireturn, 1) := by decide +kernel
theorem dX4_ok_0 : decode cX4_ok 0 = .ok (.aload_n 0, 1) := by decide +kernel
theorem dX4_ok_1 : decode cX4_ok 1 = .ok (.iconst 0, 1) := by decide +kernel
theorem dX4_ok_2 : decode cX4_ok 2 = .ok (.putfield 26, 3) := by decide +kernel
theorem dX4_ok_5 : decode cX4_ok 5 = .ok (.iload_n 1, 1) := by decide +kernel
theorem dX4_ok_6 : decode cX4_ok 6 = .ok (.ireturn, 1) := by decide +kernel
theorem dX4_isIn_0 : decode cX4_isIn 0 = .ok (.iload_n 0, 1) := by decide +kernel
theorem dX4_isIn_1 : decode cX4_isIn 1 = .ok (.iload_n 1, 1) := by decide +kernel
theorem dX4_isIn_2 : decode cX4_isIn 2 = .ok (.if_icmp .lt 12, 3) := by decide +kernel
theorem dX4_isIn_5 : decode cX4_isIn 5 = .ok (.iload_n 0, 1) := by decide +kernel
theorem dX4_isIn_6 : decode cX4_isIn 6 = .ok (.iload_n 2, 1) := by decide +kernel
theorem dX4_isIn_7 : decode cX4_isIn 7 = .ok (.if_icmp .gt 7, 3) := by decide +kernel
theorem dX4_isIn_10 : decode cX4_isIn 10 = .ok (.iconst 1, 1) := by decide +kernel
theorem dX4_isIn_11 : decode cX4_isIn 11 = .ok (.goto 4, 3) := by decide +kernel
theorem dX4_isIn_14 : decode cX4_isIn 14 = .ok (.iconst 0, 1) := by decide +kernel
theorem dX4_isIn_15 : decode cX4_isIn 15 = .ok (.ireturn, 1) := by decide +kernel
theorem dX4_isShelf_0 : decode cX4_isShelf 0 = .ok (.iload_n 0, 1) := by decide +kernel
theorem dX4_isShelf_1 : decode cX4_isShelf 1 = .ok (.iconst 0, 1) := by decide +kernel
theorem dX4_isShelf_2 : decode cX4_isShelf 2 = .ok (.iconst 4, 1) := by decide +kernel
theorem dX4_isShelf_3 : decode cX4_isShelf 3 = .ok (.invokestatic 30, 3) := by decide +kernel
theorem dX4_isShelf_6 : decode cX4_isShelf 6 = .ok (.ireturn, 1) := by decide +kernel
theorem dX4_isMaker_0 : decode cX4_isMaker 0 = .ok (.iload_n 0, 1) := by decide +kernel
theorem dX4_isMaker_1 : decode cX4_isMaker 1 = .ok (.iconst 0, 1) := by decide +kernel
theorem dX4_isMaker_2 : decode cX4_isMaker 2 = .ok (.iconst 5, 1) := by decide +kernel
theorem dX4_isMaker_3 : decode cX4_isMaker 3 = .ok (.invokestatic 30, 3) := by decide +kernel
theorem dX4_isMaker_6 : decode cX4_isMaker 6 = .ok (.ireturn, 1) := by decide +kernel
theorem dX4_isPromise_0 : decode cX4_isPromise 0 = .ok (.iload_n 1, 1) := by decide +kernel
theorem dX4_isPromise_1 : decode cX4_isPromise 1 = .ok (.iconst 0, 1) := by decide +kernel
theorem dX4_isPromise_2 : decode cX4_isPromise 2 = .ok (.aload_n 0, 1) := by decide +kernel
theorem dX4_isPromise_3 : decode cX4_isPromise 3 = .ok (.getfield 34, 3) := by decide +kernel
theorem dX4_isPromise_6 : decode cX4_isPromise 6 = .ok (.iconst 1, 1) := by decide +kernel
theorem dX4_isPromise_7 : decode cX4_isPromise 7 = .ok (.isub, 1) := by decide +kernel
theorem dX4_isPromise_8 : decode cX4_isPromise 8 = .ok (.invokestatic 30, 3) := by decide +kernel
theorem dX4_isPromise_11 : decode cX4_isPromise 11 = .ok (.ireturn, 1) := by decide +kernel
theorem dX4_shelf_0 : decode cX4_shelf 0 = .ok (.iconst 3, 1) := by decide +kernel
theorem dX4_shelf_1 : decode cX4_shelf 1 = .ok (.iconst 2, 1) := by decide +kernel
theorem dX4_shelf_2 : decode cX4_shelf 2 = .ok (.iload_n 0, 1) := by decide +kernel
theorem dX4_shelf_3 : decode cX4_shelf 3 = .ok (.imul, 1) := by decide +kernel
theorem dX4_shelf_4 : decode cX4_shelf 4 = .ok (.iadd, 1) := by decide +kernel
theorem dX4_shelf_5 : decode cX4_shelf 5 = .ok (.iload_n 1, 1) := by decide +kernel
theorem dX4_shelf_6 : decode cX4_shelf 6 = .ok (.iadd, 1) := by decide +kernel
theorem dX4_shelf_7 : decode cX4_shelf 7 = .ok (.ireturn, 1) := by decide +kernel
theorem dX4_of_0 : decode cX4_of 0 = .ok (.bipush 13, 2) := by decide +kernel
theorem dX4_of_2 : decode cX4_of 2 = .ok (.iconst 5, 1) := by decide +kernel
theorem dX4_of_3 : decode cX4_of 3 = .ok (.iload_n 0, 1) := by decide +kernel
theorem dX4_of_4 : decode cX4_of 4 = .ok (.imul, 1) := by decide +kernel
theorem dX4_of_5 : decode cX4_of 5 = .ok (.iadd, 1) := by decide +kernel
theorem dX4_of_6 : decode cX4_of 6 = .ok (.iload_n 1, 1) := by decide +kernel
theorem dX4_of_7 : decode cX4_of 7 = .ok (.iadd, 1) := by decide +kernel
theorem dX4_of_8 : decode cX4_of 8 = .ok (.ireturn, 1) := by decide +kernel
theorem dX4_lies_0 : decode cX4_lies 0 = .ok (.aload_n 0, 1) := by decide +kernel
theorem dX4_lies_1 : decode cX4_lies 1 = .ok (.getfield 16, 3) := by decide +kernel
theorem dX4_lies_4 : decode cX4_lies 4 = .ok (.iload_n 1, 1) := by decide +kernel
theorem dX4_lies_5 : decode cX4_lies 5 = .ok (.iconst 0, 1) := by decide +kernel
theorem dX4_lies_6 : decode cX4_lies 6 = .ok (.invokestatic 37, 3) := by decide +kernel
theorem dX4_lies_9 : decode cX4_lies 9 = .ok (.iaload, 1) := by decide +kernel
theorem dX4_lies_10 : decode cX4_lies 10 = .ok (.iconst (-1), 1) := by decide +kernel
theorem dX4_lies_11 : decode cX4_lies 11 = .ok (.if_icmp .eq 7, 3) := by decide +kernel
theorem dX4_lies_14 : decode cX4_lies 14 = .ok (.iconst 1, 1) := by decide +kernel
theorem dX4_lies_15 : decode cX4_lies 15 = .ok (.goto 4, 3) := by decide +kernel
theorem dX4_lies_18 : decode cX4_lies 18 = .ok (.iconst 0, 1) := by decide +kernel
theorem dX4_lies_19 : decode cX4_lies 19 = .ok (.ireturn, 1) := by decide +kernel
theorem dX4_keepAll_0 : decode cX4_keepAll 0 = .ok (.aload_n 0, 1) := by decide +kernel
theorem dX4_keepAll_1 : decode cX4_keepAll 1 = .ok (.getfield 16, 3) := by decide +kernel
theorem dX4_keepAll_4 : decode cX4_keepAll 4 = .ok (.iconst 0, 1) := by decide +kernel
theorem dX4_keepAll_5 : decode cX4_keepAll 5 = .ok (.aload_n 0, 1) := by decide +kernel
theorem dX4_keepAll_6 : decode cX4_keepAll 6 = .ok (.getfield 19, 3) := by decide +kernel
theorem dX4_keepAll_9 : decode cX4_keepAll 9 = .ok (.iconst 0, 1) := by decide +kernel
theorem dX4_keepAll_10 : decode cX4_keepAll 10 = .ok (.bipush 113, 2) := by decide +kernel
theorem dX4_keepAll_12 : decode cX4_keepAll 12 = .ok (.invokestatic 40, 3) := by decide +kernel
theorem dX4_keepAll_15 : decode cX4_keepAll 15 = .ok (.return_, 1) := by decide +kernel
theorem dX4_bringBack_0 : decode cX4_bringBack 0 = .ok (.aload_n 0, 1) := by decide +kernel
theorem dX4_bringBack_1 : decode cX4_bringBack 1 = .ok (.getfield 19, 3) := by decide +kernel
theorem dX4_bringBack_4 : decode cX4_bringBack 4 = .ok (.iconst 0, 1) := by decide +kernel
theorem dX4_bringBack_5 : decode cX4_bringBack 5 = .ok (.aload_n 0, 1) := by decide +kernel
theorem dX4_bringBack_6 : decode cX4_bringBack 6 = .ok (.getfield 16, 3) := by decide +kernel
theorem dX4_bringBack_9 : decode cX4_bringBack 9 = .ok (.iconst 0, 1) := by decide +kernel
theorem dX4_bringBack_10 : decode cX4_bringBack 10 = .ok (.bipush 113, 2) := by decide +kernel
theorem dX4_bringBack_12 : decode cX4_bringBack 12 = .ok (.invokestatic 40, 3) := by decide +kernel
theorem dX4_bringBack_15 : decode cX4_bringBack 15 = .ok (.return_, 1) := by decide +kernel
theorem dX4_open_0 : decode cX4_open 0 = .ok (.aload_n 0, 1) := by decide +kernel
theorem dX4_open_1 : decode cX4_open 1 = .ok (.getfield 16, 3) := by decide +kernel
theorem dX4_open_4 : decode cX4_open 4 = .ok (.iload_n 1, 1) := by decide +kernel
theorem dX4_open_5 : decode cX4_open 5 = .ok (.iconst 1, 1) := by decide +kernel
theorem dX4_open_6 : decode cX4_open 6 = .ok (.invokestatic 22, 3) := by decide +kernel
theorem dX4_open_9 : decode cX4_open 9 = .ok (.bipush 20, 2) := by decide +kernel
theorem dX4_open_11 : decode cX4_open 11 = .ok (.aload_n 0, 1) := by decide +kernel
theorem dX4_open_12 : decode cX4_open 12 = .ok (.getfield 16, 3) := by decide +kernel
theorem dX4_open_15 : decode cX4_open 15 = .ok (.iload_n 1, 1) := by decide +kernel
theorem dX4_open_16 : decode cX4_open 16 = .ok (.iconst 1, 1) := by decide +kernel
theorem dX4_open_17 : decode cX4_open 17 = .ok (.invokestatic 22, 3) := by decide +kernel
theorem dX4_open_20 : decode cX4_open 20 = .ok (.iaload, 1) := by decide +kernel
theorem dX4_open_21 : decode cX4_open 21 = .ok (.iconst 2, 1) := by decide +kernel
theorem dX4_open_22 : decode cX4_open 22 = .ok (.iadd, 1) := by decide +kernel
theorem dX4_open_23 : decode cX4_open 23 = .ok (.invokestatic 46, 3) := by decide +kernel
theorem dX4_open_26 : decode cX4_open 26 = .ok (.iastore, 1) := by decide +kernel
theorem dX4_open_27 : decode cX4_open 27 = .ok (.return_, 1) := by decide +kernel
theorem dX4_lay_0 : decode cX4_lay 0 = .ok (.aload_n 0, 1) := by decide +kernel
theorem dX4_lay_1 : decode cX4_lay 1 = .ok (.getfield 9, 3) := by decide +kernel
theorem dX4_lay_4 : decode cX4_lay 4 = .ok (.aload_n 0, 1) := by decide +kernel
theorem dX4_lay_5 : decode cX4_lay 5 = .ok (.getfield 34, 3) := by decide +kernel
theorem dX4_lay_8 : decode cX4_lay 8 = .ok (.iload_n 1, 1) := by decide +kernel
theorem dX4_lay_9 : decode cX4_lay 9 = .ok (.iastore, 1) := by decide +kernel
theorem dX4_lay_10 : decode cX4_lay 10 = .ok (.aload_n 0, 1) := by decide +kernel
theorem dX4_lay_11 : decode cX4_lay 11 = .ok (.getfield 13, 3) := by decide +kernel
theorem dX4_lay_14 : decode cX4_lay 14 = .ok (.aload_n 0, 1) := by decide +kernel
theorem dX4_lay_15 : decode cX4_lay 15 = .ok (.getfield 34, 3) := by decide +kernel
theorem dX4_lay_18 : decode cX4_lay 18 = .ok (.iload_n 2, 1) := by decide +kernel
theorem dX4_lay_19 : decode cX4_lay 19 = .ok (.iastore, 1) := by decide +kernel
theorem dX4_lay_20 : decode cX4_lay 20 = .ok (.aload_n 0, 1) := by decide +kernel
theorem dX4_lay_21 : decode cX4_lay 21 = .ok (.getfield 16, 3) := by decide +kernel
theorem dX4_lay_24 : decode cX4_lay 24 = .ok (.aload_n 0, 1) := by decide +kernel
theorem dX4_lay_25 : decode cX4_lay 25 = .ok (.getfield 34, 3) := by decide +kernel
theorem dX4_lay_28 : decode cX4_lay 28 = .ok (.iconst 0, 1) := by decide +kernel
theorem dX4_lay_29 : decode cX4_lay 29 = .ok (.invokestatic 37, 3) := by decide +kernel
theorem dX4_lay_32 : decode cX4_lay 32 = .ok (.iload_n 3, 1) := by decide +kernel
theorem dX4_lay_33 : decode cX4_lay 33 = .ok (.iastore, 1) := by decide +kernel
theorem dX4_lay_34 : decode cX4_lay 34 = .ok (.aload_n 0, 1) := by decide +kernel
theorem dX4_lay_35 : decode cX4_lay 35 = .ok (.getfield 16, 3) := by decide +kernel
theorem dX4_lay_38 : decode cX4_lay 38 = .ok (.aload_n 0, 1) := by decide +kernel
theorem dX4_lay_39 : decode cX4_lay 39 = .ok (.getfield 34, 3) := by decide +kernel
theorem dX4_lay_42 : decode cX4_lay 42 = .ok (.iconst 1, 1) := by decide +kernel
theorem dX4_lay_43 : decode cX4_lay 43 = .ok (.invokestatic 37, 3) := by decide +kernel
theorem dX4_lay_46 : decode cX4_lay 46 = .ok (.bipush 20, 2) := by decide +kernel
theorem dX4_lay_48 : decode cX4_lay 48 = .ok (.iastore, 1) := by decide +kernel
theorem dX4_lay_49 : decode cX4_lay 49 = .ok (.aload_n 0, 1) := by decide +kernel
theorem dX4_lay_50 : decode cX4_lay 50 = .ok (.getfield 16, 3) := by decide +kernel
theorem dX4_lay_53 : decode cX4_lay 53 = .ok (.aload_n 0, 1) := by decide +kernel
theorem dX4_lay_54 : decode cX4_lay 54 = .ok (.getfield 34, 3) := by decide +kernel
theorem dX4_lay_57 : decode cX4_lay 57 = .ok (.iconst 2, 1) := by decide +kernel
theorem dX4_lay_58 : decode cX4_lay 58 = .ok (.invokestatic 37, 3) := by decide +kernel
theorem dX4_lay_61 : decode cX4_lay 61 = .ok (.iconst 0, 1) := by decide +kernel
theorem dX4_lay_62 : decode cX4_lay 62 = .ok (.iastore, 1) := by decide +kernel
theorem dX4_lay_63 : decode cX4_lay 63 = .ok (.aload_n 0, 1) := by decide +kernel
theorem dX4_lay_64 : decode cX4_lay 64 = .ok (.getfield 16, 3) := by decide +kernel
theorem dX4_lay_67 : decode cX4_lay 67 = .ok (.aload_n 0, 1) := by decide +kernel
theorem dX4_lay_68 : decode cX4_lay 68 = .ok (.getfield 34, 3) := by decide +kernel
theorem dX4_lay_71 : decode cX4_lay 71 = .ok (.iconst 3, 1) := by decide +kernel
theorem dX4_lay_72 : decode cX4_lay 72 = .ok (.invokestatic 37, 3) := by decide +kernel
theorem dX4_lay_75 : decode cX4_lay 75 = .ok (.iconst 0, 1) := by decide +kernel
theorem dX4_lay_76 : decode cX4_lay 76 = .ok (.iastore, 1) := by decide +kernel
theorem dX4_lay_77 : decode cX4_lay 77 = .ok (.aload_n 0, 1) := by decide +kernel
theorem dX4_lay_78 : decode cX4_lay 78 = .ok (.getfield 16, 3) := by decide +kernel
theorem dX4_lay_81 : decode cX4_lay 81 = .ok (.aload_n 0, 1) := by decide +kernel
theorem dX4_lay_82 : decode cX4_lay 82 = .ok (.getfield 34, 3) := by decide +kernel
theorem dX4_lay_85 : decode cX4_lay 85 = .ok (.iconst 4, 1) := by decide +kernel
theorem dX4_lay_86 : decode cX4_lay 86 = .ok (.invokestatic 37, 3) := by decide +kernel
theorem dX4_lay_89 : decode cX4_lay 89 = .ok (.iconst 0, 1) := by decide +kernel
theorem dX4_lay_90 : decode cX4_lay 90 = .ok (.iastore, 1) := by decide +kernel
theorem dX4_lay_91 : decode cX4_lay 91 = .ok (.aload_n 0, 1) := by decide +kernel
theorem dX4_lay_92 : decode cX4_lay 92 = .ok (.dup, 1) := by decide +kernel
theorem dX4_lay_93 : decode cX4_lay 93 = .ok (.getfield 34, 3) := by decide +kernel
theorem dX4_lay_96 : decode cX4_lay 96 = .ok (.iconst 1, 1) := by decide +kernel
theorem dX4_lay_97 : decode cX4_lay 97 = .ok (.iadd, 1) := by decide +kernel
theorem dX4_lay_98 : decode cX4_lay 98 = .ok (.putfield 34, 3) := by decide +kernel
theorem dX4_lay_101 : decode cX4_lay 101 = .ok (.aload_n 0, 1) := by decide +kernel
theorem dX4_lay_102 : decode cX4_lay 102 = .ok (.iload_n 3, 1) := by decide +kernel
theorem dX4_lay_103 : decode cX4_lay 103 = .ok (.invokevirtual 51, 3) := by decide +kernel
theorem dX4_lay_106 : decode cX4_lay 106 = .ok (.return_, 1) := by decide +kernel
theorem dX4_towards_0 : decode cX4_towards 0 = .ok (.iload_n 0, 1) := by decide +kernel
theorem dX4_towards_1 : decode cX4_towards 1 = .ok (.iload_n 1, 1) := by decide +kernel
theorem dX4_towards_2 : decode cX4_towards 2 = .ok (.if_icmp .ge 13, 3) := by decide +kernel
theorem dX4_towards_5 : decode cX4_towards 5 = .ok (.iload_n 1, 1) := by decide +kernel
theorem dX4_towards_6 : decode cX4_towards 6 = .ok (.iload_n 0, 1) := by decide +kernel
theorem dX4_towards_7 : decode cX4_towards 7 = .ok (.iload_n 2, 1) := by decide +kernel
theorem dX4_towards_8 : decode cX4_towards 8 = .ok (.iadd, 1) := by decide +kernel
theorem dX4_towards_9 : decode cX4_towards 9 = .ok (.invokestatic 46, 3) := by decide +kernel
theorem dX4_towards_12 : decode cX4_towards 12 = .ok (.goto 10, 3) := by decide +kernel
theorem dX4_towards_15 : decode cX4_towards 15 = .ok (.iload_n 1, 1) := by decide +kernel
theorem dX4_towards_16 : decode cX4_towards 16 = .ok (.iload_n 0, 1) := by decide +kernel
theorem dX4_towards_17 : decode cX4_towards 17 = .ok (.iload_n 2, 1) := by decide +kernel
theorem dX4_towards_18 : decode cX4_towards 18 = .ok (.isub, 1) := by decide +kernel
theorem dX4_towards_19 : decode cX4_towards 19 = .ok (.invokestatic 55, 3) := by decide +kernel
theorem dX4_towards_22 : decode cX4_towards 22 = .ok (.ireturn, 1) := by decide +kernel
theorem dX4_warm_0 : decode cX4_warm 0 = .ok (.aload_n 0, 1) := by decide +kernel
theorem dX4_warm_1 : decode cX4_warm 1 = .ok (.getfield 16, 3) := by decide +kernel
theorem dX4_warm_4 : decode cX4_warm 4 = .ok (.iload_n 1, 1) := by decide +kernel
theorem dX4_warm_5 : decode cX4_warm 5 = .ok (.iconst 1, 1) := by decide +kernel
theorem dX4_warm_6 : decode cX4_warm 6 = .ok (.invokestatic 22, 3) := by decide +kernel
theorem dX4_warm_9 : decode cX4_warm 9 = .ok (.iaload, 1) := by decide +kernel
theorem dX4_warm_10 : decode cX4_warm 10 = .ok (.istore_n 2, 1) := by decide +kernel
theorem dX4_warm_11 : decode cX4_warm 11 = .ok (.aload_n 0, 1) := by decide +kernel
theorem dX4_warm_12 : decode cX4_warm 12 = .ok (.getfield 16, 3) := by decide +kernel
theorem dX4_warm_15 : decode cX4_warm 15 = .ok (.iload_n 1, 1) := by decide +kernel
theorem dX4_warm_16 : decode cX4_warm 16 = .ok (.iconst 1, 1) := by decide +kernel
theorem dX4_warm_17 : decode cX4_warm 17 = .ok (.invokestatic 22, 3) := by decide +kernel
theorem dX4_warm_20 : decode cX4_warm 20 = .ok (.aload_n 0, 1) := by decide +kernel
theorem dX4_warm_21 : decode cX4_warm 21 = .ok (.getfield 16, 3) := by decide +kernel
theorem dX4_warm_24 : decode cX4_warm 24 = .ok (.iconst 1, 1) := by decide +kernel
theorem dX4_warm_25 : decode cX4_warm 25 = .ok (.iaload, 1) := by decide +kernel
theorem dX4_warm_26 : decode cX4_warm 26 = .ok (.iconst 1, 1) := by decide +kernel
theorem dX4_warm_27 : decode cX4_warm 27 = .ok (.if_icmp .ne 21, 3) := by decide +kernel
theorem dX4_warm_30 : decode cX4_warm 30 = .ok (.iload_n 2, 1) := by decide +kernel
theorem dX4_warm_31 : decode cX4_warm 31 = .ok (.aload_n 0, 1) := by decide +kernel
theorem dX4_warm_32 : decode cX4_warm 32 = .ok (.getfield 16, 3) := by decide +kernel
theorem dX4_warm_35 : decode cX4_warm 35 = .ok (.iload_n 1, 1) := by decide +kernel
theorem dX4_warm_36 : decode cX4_warm 36 = .ok (.iconst 0, 1) := by decide +kernel
theorem dX4_warm_37 : decode cX4_warm 37 = .ok (.invokestatic 22, 3) := by decide +kernel
theorem dX4_warm_40 : decode cX4_warm 40 = .ok (.iaload, 1) := by decide +kernel
theorem dX4_warm_41 : decode cX4_warm 41 = .ok (.iconst 2, 1) := by decide +kernel
theorem dX4_warm_42 : decode cX4_warm 42 = .ok (.invokestatic 58, 3) := by decide +kernel
theorem dX4_warm_45 : decode cX4_warm 45 = .ok (.goto 11, 3) := by decide +kernel
theorem dX4_warm_48 : decode cX4_warm 48 = .ok (.bipush 20, 2) := by decide +kernel
theorem dX4_warm_50 : decode cX4_warm 50 = .ok (.iload_n 2, 1) := by decide +kernel
theorem dX4_warm_51 : decode cX4_warm 51 = .ok (.iconst 1, 1) := by decide +kernel
theorem dX4_warm_52 : decode cX4_warm 52 = .ok (.iadd, 1) := by decide +kernel
theorem dX4_warm_53 : decode cX4_warm 53 = .ok (.invokestatic 46, 3) := by decide +kernel
theorem dX4_warm_56 : decode cX4_warm 56 = .ok (.iastore, 1) := by decide +kernel
theorem dX4_warm_57 : decode cX4_warm 57 = .ok (.return_, 1) := by decide +kernel
theorem dX4_rings_0 : decode cX4_rings 0 = .ok (.aload_n 0, 1) := by decide +kernel
theorem dX4_rings_1 : decode cX4_rings 1 = .ok (.getfield 16, 3) := by decide +kernel
theorem dX4_rings_4 : decode cX4_rings 4 = .ok (.aload_n 0, 1) := by decide +kernel
theorem dX4_rings_5 : decode cX4_rings 5 = .ok (.getfield 16, 3) := by decide +kernel
theorem dX4_rings_8 : decode cX4_rings 8 = .ok (.iload_n 1, 1) := by decide +kernel
theorem dX4_rings_9 : decode cX4_rings 9 = .ok (.iconst 0, 1) := by decide +kernel
theorem dX4_rings_10 : decode cX4_rings 10 = .ok (.invokestatic 37, 3) := by decide +kernel
theorem dX4_rings_13 : decode cX4_rings 13 = .ok (.iaload, 1) := by decide +kernel
theorem dX4_rings_14 : decode cX4_rings 14 = .ok (.iconst 1, 1) := by decide +kernel
theorem dX4_rings_15 : decode cX4_rings 15 = .ok (.invokestatic 22, 3) := by decide +kernel
theorem dX4_rings_18 : decode cX4_rings 18 = .ok (.iaload, 1) := by decide +kernel
theorem dX4_rings_19 : decode cX4_rings 19 = .ok (.istore_n 2, 1) := by decide +kernel
theorem dX4_rings_20 : decode cX4_rings 20 = .ok (.aload_n 0, 1) := by decide +kernel
theorem dX4_rings_21 : decode cX4_rings 21 = .ok (.getfield 16, 3) := by decide +kernel
theorem dX4_rings_24 : decode cX4_rings 24 = .ok (.iload_n 1, 1) := by decide +kernel
theorem dX4_rings_25 : decode cX4_rings 25 = .ok (.iconst 1, 1) := by decide +kernel
theorem dX4_rings_26 : decode cX4_rings 26 = .ok (.invokestatic 37, 3) := by decide +kernel
theorem dX4_rings_29 : decode cX4_rings 29 = .ok (.iaload, 1) := by decide +kernel
theorem dX4_rings_30 : decode cX4_rings 30 = .ok (.istore_n 3, 1) := by decide +kernel
theorem dX4_rings_31 : decode cX4_rings 31 = .ok (.iload_n 3, 1) := by decide +kernel
theorem dX4_rings_32 : decode cX4_rings 32 = .ok (.iload_n 2, 1) := by decide +kernel
theorem dX4_rings_33 : decode cX4_rings 33 = .ok (.iconst 1, 1) := by decide +kernel
theorem dX4_rings_34 : decode cX4_rings 34 = .ok (.iload_n 2, 1) := by decide +kernel
theorem dX4_rings_35 : decode cX4_rings 35 = .ok (.iload_n 3, 1) := by decide +kernel
theorem dX4_rings_36 : decode cX4_rings 36 = .ok (.isub, 1) := by decide +kernel
theorem dX4_rings_37 : decode cX4_rings 37 = .ok (.invokestatic 62, 3) := by decide +kernel
theorem dX4_rings_40 : decode cX4_rings 40 = .ok (.iconst 2, 1) := by decide +kernel
theorem dX4_rings_41 : decode cX4_rings 41 = .ok (.idiv, 1) := by decide +kernel
theorem dX4_rings_42 : decode cX4_rings 42 = .ok (.invokestatic 55, 3) := by decide +kernel
theorem dX4_rings_45 : decode cX4_rings 45 = .ok (.invokestatic 58, 3) := by decide +kernel
theorem dX4_rings_48 : decode cX4_rings 48 = .ok (.istore_n 3, 1) := by decide +kernel
theorem dX4_rings_49 : decode cX4_rings 49 = .ok (.aload_n 0, 1) := by decide +kernel
theorem dX4_rings_50 : decode cX4_rings 50 = .ok (.getfield 16, 3) := by decide +kernel
theorem dX4_rings_53 : decode cX4_rings 53 = .ok (.iload_n 1, 1) := by decide +kernel
theorem dX4_rings_54 : decode cX4_rings 54 = .ok (.iconst 1, 1) := by decide +kernel
theorem dX4_rings_55 : decode cX4_rings 55 = .ok (.invokestatic 37, 3) := by decide +kernel
theorem dX4_rings_58 : decode cX4_rings 58 = .ok (.iload_n 3, 1) := by decide +kernel
theorem dX4_rings_59 : decode cX4_rings 59 = .ok (.iastore, 1) := by decide +kernel
theorem dX4_rings_60 : decode cX4_rings 60 = .ok (.aload_n 0, 1) := by decide +kernel
theorem dX4_rings_61 : decode cX4_rings 61 = .ok (.getfield 16, 3) := by decide +kernel
theorem dX4_rings_64 : decode cX4_rings 64 = .ok (.iload_n 1, 1) := by decide +kernel
theorem dX4_rings_65 : decode cX4_rings 65 = .ok (.iconst 3, 1) := by decide +kernel
theorem dX4_rings_66 : decode cX4_rings 66 = .ok (.invokestatic 37, 3) := by decide +kernel
theorem dX4_rings_69 : decode cX4_rings 69 = .ok (.iaload, 1) := by decide +kernel
theorem dX4_rings_70 : decode cX4_rings 70 = .ok (.ifCond .ne 20, 3) := by decide +kernel
theorem dX4_rings_73 : decode cX4_rings 73 = .ok (.iload_n 3, 1) := by decide +kernel
theorem dX4_rings_74 : decode cX4_rings 74 = .ok (.bipush (-10), 2) := by decide +kernel
theorem dX4_rings_76 : decode cX4_rings 76 = .ok (.if_icmp .gt 14, 3) := by decide +kernel
theorem dX4_rings_79 : decode cX4_rings 79 = .ok (.aload_n 0, 1) := by decide +kernel
theorem dX4_rings_80 : decode cX4_rings 80 = .ok (.getfield 16, 3) := by decide +kernel
theorem dX4_rings_83 : decode cX4_rings 83 = .ok (.iload_n 1, 1) := by decide +kernel
theorem dX4_rings_84 : decode cX4_rings 84 = .ok (.iconst 3, 1) := by decide +kernel
theorem dX4_rings_85 : decode cX4_rings 85 = .ok (.invokestatic 37, 3) := by decide +kernel
theorem dX4_rings_88 : decode cX4_rings 88 = .ok (.iconst 1, 1) := by decide +kernel
theorem dX4_rings_89 : decode cX4_rings 89 = .ok (.iastore, 1) := by decide +kernel
theorem dX4_rings_90 : decode cX4_rings 90 = .ok (.aload_n 0, 1) := by decide +kernel
theorem dX4_rings_91 : decode cX4_rings 91 = .ok (.getfield 16, 3) := by decide +kernel
theorem dX4_rings_94 : decode cX4_rings 94 = .ok (.iload_n 1, 1) := by decide +kernel
theorem dX4_rings_95 : decode cX4_rings 95 = .ok (.iconst 3, 1) := by decide +kernel
theorem dX4_rings_96 : decode cX4_rings 96 = .ok (.invokestatic 37, 3) := by decide +kernel
theorem dX4_rings_99 : decode cX4_rings 99 = .ok (.iaload, 1) := by decide +kernel
theorem dX4_rings_100 : decode cX4_rings 100 = .ok (.iconst 1, 1) := by decide +kernel
theorem dX4_rings_101 : decode cX4_rings 101 = .ok (.if_icmp .ne 9, 3) := by decide +kernel
theorem dX4_rings_104 : decode cX4_rings 104 = .ok (.iload_n 3, 1) := by decide +kernel
theorem dX4_rings_105 : decode cX4_rings 105 = .ok (.bipush (-4), 2) := by decide +kernel
theorem dX4_rings_107 : decode cX4_rings 107 = .ok (.if_icmp .gt 5, 3) := by decide +kernel
theorem dX4_rings_110 : decode cX4_rings 110 = .ok (.iconst 0, 1) := by decide +kernel
theorem dX4_rings_111 : decode cX4_rings 111 = .ok (.ireturn, 1) := by decide +kernel
theorem dX4_rings_112 : decode cX4_rings 112 = .ok (.aload_n 0, 1) := by decide +kernel
theorem dX4_rings_113 : decode cX4_rings 113 = .ok (.getfield 16, 3) := by decide +kernel
theorem dX4_rings_116 : decode cX4_rings 116 = .ok (.iload_n 1, 1) := by decide +kernel
theorem dX4_rings_117 : decode cX4_rings 117 = .ok (.iconst 3, 1) := by decide +kernel
theorem dX4_rings_118 : decode cX4_rings 118 = .ok (.invokestatic 37, 3) := by decide +kernel
theorem dX4_rings_121 : decode cX4_rings 121 = .ok (.iconst 2, 1) := by decide +kernel
theorem dX4_rings_122 : decode cX4_rings 122 = .ok (.iastore, 1) := by decide +kernel
theorem dX4_rings_123 : decode cX4_rings 123 = .ok (.iconst 1, 1) := by decide +kernel
theorem dX4_rings_124 : decode cX4_rings 124 = .ok (.ireturn, 1) := by decide +kernel
theorem dX4_getOlder_0 : decode cX4_getOlder 0 = .ok (.aload_n 0, 1) := by decide +kernel
theorem dX4_getOlder_1 : decode cX4_getOlder 1 = .ok (.getfield 16, 3) := by decide +kernel
theorem dX4_getOlder_4 : decode cX4_getOlder 4 = .ok (.iload_n 1, 1) := by decide +kernel
theorem dX4_getOlder_5 : decode cX4_getOlder 5 = .ok (.iconst 3, 1) := by decide +kernel
theorem dX4_getOlder_6 : decode cX4_getOlder 6 = .ok (.invokestatic 37, 3) := by decide +kernel
theorem dX4_getOlder_9 : decode cX4_getOlder 9 = .ok (.iaload, 1) := by decide +kernel
theorem dX4_getOlder_10 : decode cX4_getOlder 10 = .ok (.iconst 1, 1) := by decide +kernel
theorem dX4_getOlder_11 : decode cX4_getOlder 11 = .ok (.if_icmp .ne 4, 3) := by decide +kernel
theorem dX4_getOlder_14 : decode cX4_getOlder 14 = .ok (.return_, 1) := by decide +kernel
theorem dX4_getOlder_15 : decode cX4_getOlder 15 = .ok (.aload_n 0, 1) := by decide +kernel
theorem dX4_getOlder_16 : decode cX4_getOlder 16 = .ok (.getfield 16, 3) := by decide +kernel
theorem dX4_getOlder_19 : decode cX4_getOlder 19 = .ok (.iload_n 1, 1) := by decide +kernel
theorem dX4_getOlder_20 : decode cX4_getOlder 20 = .ok (.iconst 2, 1) := by decide +kernel
theorem dX4_getOlder_21 : decode cX4_getOlder 21 = .ok (.invokestatic 37, 3) := by decide +kernel
theorem dX4_getOlder_24 : decode cX4_getOlder 24 = .ok (.dup2, 1) := by decide +kernel
theorem dX4_getOlder_25 : decode cX4_getOlder 25 = .ok (.iaload, 1) := by decide +kernel
theorem dX4_getOlder_26 : decode cX4_getOlder 26 = .ok (.iconst 1, 1) := by decide +kernel
theorem dX4_getOlder_27 : decode cX4_getOlder 27 = .ok (.iadd, 1) := by decide +kernel
theorem dX4_getOlder_28 : decode cX4_getOlder 28 = .ok (.iastore, 1) := by decide +kernel
theorem dX4_getOlder_29 : decode cX4_getOlder 29 = .ok (.aload_n 0, 1) := by decide +kernel
theorem dX4_getOlder_30 : decode cX4_getOlder 30 = .ok (.getfield 16, 3) := by decide +kernel
theorem dX4_getOlder_33 : decode cX4_getOlder 33 = .ok (.iload_n 1, 1) := by decide +kernel
theorem dX4_getOlder_34 : decode cX4_getOlder 34 = .ok (.iconst 2, 1) := by decide +kernel
theorem dX4_getOlder_35 : decode cX4_getOlder 35 = .ok (.invokestatic 37, 3) := by decide +kernel
theorem dX4_getOlder_38 : decode cX4_getOlder 38 = .ok (.iaload, 1) := by decide +kernel
theorem dX4_getOlder_39 : decode cX4_getOlder 39 = .ok (.aload_n 0, 1) := by decide +kernel
theorem dX4_getOlder_40 : decode cX4_getOlder 40 = .ok (.getfield 13, 3) := by decide +kernel
theorem dX4_getOlder_43 : decode cX4_getOlder 43 = .ok (.iload_n 1, 1) := by decide +kernel
theorem dX4_getOlder_44 : decode cX4_getOlder 44 = .ok (.iaload, 1) := by decide +kernel
theorem dX4_getOlder_45 : decode cX4_getOlder 45 = .ok (.if_icmp .ge 4, 3) := by decide +kernel
theorem dX4_getOlder_48 : decode cX4_getOlder 48 = .ok (.return_, 1) := by decide +kernel
theorem dX4_getOlder_49 : decode cX4_getOlder 49 = .ok (.aload_n 0, 1) := by decide +kernel
theorem dX4_getOlder_50 : decode cX4_getOlder 50 = .ok (.getfield 16, 3) := by decide +kernel
theorem dX4_getOlder_53 : decode cX4_getOlder 53 = .ok (.iload_n 1, 1) := by decide +kernel
theorem dX4_getOlder_54 : decode cX4_getOlder 54 = .ok (.iconst 0, 1) := by decide +kernel
theorem dX4_getOlder_55 : decode cX4_getOlder 55 = .ok (.invokestatic 37, 3) := by decide +kernel
theorem dX4_getOlder_58 : decode cX4_getOlder 58 = .ok (.iconst (-1), 1) := by decide +kernel
theorem dX4_getOlder_59 : decode cX4_getOlder 59 = .ok (.iastore, 1) := by decide +kernel
theorem dX4_getOlder_60 : decode cX4_getOlder 60 = .ok (.aload_n 0, 1) := by decide +kernel
theorem dX4_getOlder_61 : decode cX4_getOlder 61 = .ok (.getfield 16, 3) := by decide +kernel
theorem dX4_getOlder_64 : decode cX4_getOlder 64 = .ok (.iload_n 1, 1) := by decide +kernel
theorem dX4_getOlder_65 : decode cX4_getOlder 65 = .ok (.iconst 4, 1) := by decide +kernel
theorem dX4_getOlder_66 : decode cX4_getOlder 66 = .ok (.invokestatic 37, 3) := by decide +kernel
theorem dX4_getOlder_69 : decode cX4_getOlder 69 = .ok (.iconst 2, 1) := by decide +kernel
theorem dX4_getOlder_70 : decode cX4_getOlder 70 = .ok (.iastore, 1) := by decide +kernel
theorem dX4_getOlder_71 : decode cX4_getOlder 71 = .ok (.return_, 1) := by decide +kernel
theorem dX4_hourOn_0 : decode cX4_hourOn 0 = .ok (.iconst 0, 1) := by decide +kernel
theorem dX4_hourOn_1 : decode cX4_hourOn 1 = .ok (.istore_n 1, 1) := by decide +kernel
theorem dX4_hourOn_2 : decode cX4_hourOn 2 = .ok (.iload_n 1, 1) := by decide +kernel
theorem dX4_hourOn_3 : decode cX4_hourOn 3 = .ok (.iconst 5, 1) := by decide +kernel
theorem dX4_hourOn_4 : decode cX4_hourOn 4 = .ok (.if_icmp .ge 14, 3) := by decide +kernel
theorem dX4_hourOn_7 : decode cX4_hourOn 7 = .ok (.aload_n 0, 1) := by decide +kernel
theorem dX4_hourOn_8 : decode cX4_hourOn 8 = .ok (.iload_n 1, 1) := by decide +kernel
theorem dX4_hourOn_9 : decode cX4_hourOn 9 = .ok (.invokevirtual 66, 3) := by decide +kernel
theorem dX4_hourOn_12 : decode cX4_hourOn 12 = .ok (.iinc 1 1, 3) := by decide +kernel
theorem dX4_hourOn_15 : decode cX4_hourOn 15 = .ok (.goto (-13), 3) := by decide +kernel
theorem dX4_hourOn_18 : decode cX4_hourOn 18 = .ok (.iconst 0, 1) := by decide +kernel
theorem dX4_hourOn_19 : decode cX4_hourOn 19 = .ok (.istore_n 1, 1) := by decide +kernel
theorem dX4_hourOn_20 : decode cX4_hourOn 20 = .ok (.iconst 0, 1) := by decide +kernel
theorem dX4_hourOn_21 : decode cX4_hourOn 21 = .ok (.istore_n 2, 1) := by decide +kernel
theorem dX4_hourOn_22 : decode cX4_hourOn 22 = .ok (.iload_n 2, 1) := by decide +kernel
theorem dX4_hourOn_23 : decode cX4_hourOn 23 = .ok (.aload_n 0, 1) := by decide +kernel
theorem dX4_hourOn_24 : decode cX4_hourOn 24 = .ok (.getfield 34, 3) := by decide +kernel
theorem dX4_hourOn_27 : decode cX4_hourOn 27 = .ok (.if_icmp .ge 41, 3) := by decide +kernel
theorem dX4_hourOn_30 : decode cX4_hourOn 30 = .ok (.aload_n 0, 1) := by decide +kernel
theorem dX4_hourOn_31 : decode cX4_hourOn 31 = .ok (.iload_n 2, 1) := by decide +kernel
theorem dX4_hourOn_32 : decode cX4_hourOn 32 = .ok (.invokevirtual 69, 3) := by decide +kernel
theorem dX4_hourOn_35 : decode cX4_hourOn 35 = .ok (.ifCond .ne 6, 3) := by decide +kernel
theorem dX4_hourOn_38 : decode cX4_hourOn 38 = .ok (.goto 24, 3) := by decide +kernel
theorem dX4_hourOn_41 : decode cX4_hourOn 41 = .ok (.iload_n 1, 1) := by decide +kernel
theorem dX4_hourOn_42 : decode cX4_hourOn 42 = .ok (.aload_n 0, 1) := by decide +kernel
theorem dX4_hourOn_43 : decode cX4_hourOn 43 = .ok (.iload_n 2, 1) := by decide +kernel
theorem dX4_hourOn_44 : decode cX4_hourOn 44 = .ok (.invokevirtual 73, 3) := by decide +kernel
theorem dX4_hourOn_47 : decode cX4_hourOn 47 = .ok (.ifCond .eq 7, 3) := by decide +kernel
theorem dX4_hourOn_50 : decode cX4_hourOn 50 = .ok (.iconst 1, 1) := by decide +kernel
theorem dX4_hourOn_51 : decode cX4_hourOn 51 = .ok (.goto 4, 3) := by decide +kernel
theorem dX4_hourOn_54 : decode cX4_hourOn 54 = .ok (.iconst 0, 1) := by decide +kernel
theorem dX4_hourOn_55 : decode cX4_hourOn 55 = .ok (.iadd, 1) := by decide +kernel
theorem dX4_hourOn_56 : decode cX4_hourOn 56 = .ok (.istore_n 1, 1) := by decide +kernel
theorem dX4_hourOn_57 : decode cX4_hourOn 57 = .ok (.aload_n 0, 1) := by decide +kernel
theorem dX4_hourOn_58 : decode cX4_hourOn 58 = .ok (.iload_n 2, 1) := by decide +kernel
theorem dX4_hourOn_59 : decode cX4_hourOn 59 = .ok (.invokevirtual 76, 3) := by decide +kernel
theorem dX4_hourOn_62 : decode cX4_hourOn 62 = .ok (.iinc 2 1, 3) := by decide +kernel
theorem dX4_hourOn_65 : decode cX4_hourOn 65 = .ok (.goto (-43), 3) := by decide +kernel
theorem dX4_hourOn_68 : decode cX4_hourOn 68 = .ok (.aload_n 0, 1) := by decide +kernel
theorem dX4_hourOn_69 : decode cX4_hourOn 69 = .ok (.getfield 16, 3) := by decide +kernel
theorem dX4_hourOn_72 : decode cX4_hourOn 72 = .ok (.iconst 2, 1) := by decide +kernel
theorem dX4_hourOn_73 : decode cX4_hourOn 73 = .ok (.dup2, 1) := by decide +kernel
theorem dX4_hourOn_74 : decode cX4_hourOn 74 = .ok (.iaload, 1) := by decide +kernel
theorem dX4_hourOn_75 : decode cX4_hourOn 75 = .ok (.iload_n 1, 1) := by decide +kernel
theorem dX4_hourOn_76 : decode cX4_hourOn 76 = .ok (.iadd, 1) := by decide +kernel
theorem dX4_hourOn_77 : decode cX4_hourOn 77 = .ok (.iastore, 1) := by decide +kernel
theorem dX4_hourOn_78 : decode cX4_hourOn 78 = .ok (.aload_n 0, 1) := by decide +kernel
theorem dX4_hourOn_79 : decode cX4_hourOn 79 = .ok (.getfield 16, 3) := by decide +kernel
theorem dX4_hourOn_82 : decode cX4_hourOn 82 = .ok (.iconst 0, 1) := by decide +kernel
theorem dX4_hourOn_83 : decode cX4_hourOn 83 = .ok (.dup2, 1) := by decide +kernel
theorem dX4_hourOn_84 : decode cX4_hourOn 84 = .ok (.iaload, 1) := by decide +kernel
theorem dX4_hourOn_85 : decode cX4_hourOn 85 = .ok (.iconst 1, 1) := by decide +kernel
theorem dX4_hourOn_86 : decode cX4_hourOn 86 = .ok (.iadd, 1) := by decide +kernel
theorem dX4_hourOn_87 : decode cX4_hourOn 87 = .ok (.iastore, 1) := by decide +kernel
theorem dX4_hourOn_88 : decode cX4_hourOn 88 = .ok (.iload_n 1, 1) := by decide +kernel
theorem dX4_hourOn_89 : decode cX4_hourOn 89 = .ok (.ireturn, 1) := by decide +kernel
theorem dX4_hoursOn_0 : decode cX4_hoursOn 0 = .ok (.iconst 0, 1) := by decide +kernel
theorem dX4_hoursOn_1 : decode cX4_hoursOn 1 = .ok (.istore_n 2, 1) := by decide +kernel
theorem dX4_hoursOn_2 : decode cX4_hoursOn 2 = .ok (.iconst 0, 1) := by decide +kernel
theorem dX4_hoursOn_3 : decode cX4_hoursOn 3 = .ok (.istore_n 3, 1) := by decide +kernel
theorem dX4_hoursOn_4 : decode cX4_hoursOn 4 = .ok (.iload_n 3, 1) := by decide +kernel
theorem dX4_hoursOn_5 : decode cX4_hoursOn 5 = .ok (.iload_n 1, 1) := by decide +kernel
theorem dX4_hoursOn_6 : decode cX4_hoursOn 6 = .ok (.if_icmp .ge 16, 3) := by decide +kernel
theorem dX4_hoursOn_9 : decode cX4_hoursOn 9 = .ok (.iload_n 2, 1) := by decide +kernel
theorem dX4_hoursOn_10 : decode cX4_hoursOn 10 = .ok (.aload_n 0, 1) := by decide +kernel
theorem dX4_hoursOn_11 : decode cX4_hoursOn 11 = .ok (.invokevirtual 79, 3) := by decide +kernel
theorem dX4_hoursOn_14 : decode cX4_hoursOn 14 = .ok (.iadd, 1) := by decide +kernel
theorem dX4_hoursOn_15 : decode cX4_hoursOn 15 = .ok (.istore_n 2, 1) := by decide +kernel
theorem dX4_hoursOn_16 : decode cX4_hoursOn 16 = .ok (.iinc 3 1, 3) := by decide +kernel
theorem dX4_hoursOn_19 : decode cX4_hoursOn 19 = .ok (.goto (-15), 3) := by decide +kernel
theorem dX4_hoursOn_22 : decode cX4_hoursOn 22 = .ok (.iload_n 2, 1) := by decide +kernel
theorem dX4_hoursOn_23 : decode cX4_hoursOn 23 = .ok (.ireturn, 1) := by decide +kernel
theorem dX4_make_0 : decode cX4_make 0 = .ok (.aload_n 0, 1) := by decide +kernel
theorem dX4_make_1 : decode cX4_make 1 = .ok (.iconst 0, 1) := by decide +kernel
theorem dX4_make_2 : decode cX4_make 2 = .ok (.putfield 26, 3) := by decide +kernel
theorem dX4_make_5 : decode cX4_make 5 = .ok (.iload_n 1, 1) := by decide +kernel
theorem dX4_make_6 : decode cX4_make 6 = .ok (.invokestatic 83, 3) := by decide +kernel
theorem dX4_make_9 : decode cX4_make 9 = .ok (.ifCond .eq 10, 3) := by decide +kernel
theorem dX4_make_12 : decode cX4_make 12 = .ok (.iload_n 3, 1) := by decide +kernel
theorem dX4_make_13 : decode cX4_make 13 = .ok (.invokestatic 86, 3) := by decide +kernel
theorem dX4_make_16 : decode cX4_make 16 = .ok (.ifCond .ne 9, 3) := by decide +kernel
theorem dX4_make_19 : decode cX4_make 19 = .ok (.aload_n 0, 1) := by decide +kernel
theorem dX4_make_20 : decode cX4_make 20 = .ok (.iconst 1, 1) := by decide +kernel
theorem dX4_make_21 : decode cX4_make 21 = .ok (.invokevirtual 89, 3) := by decide +kernel
theorem dX4_make_24 : decode cX4_make 24 = .ok (.ireturn, 1) := by decide +kernel
theorem dX4_make_25 : decode cX4_make 25 = .ok (.iload_n 2, 1) := by decide +kernel
theorem dX4_make_26 : decode cX4_make 26 = .ok (.iconst 1, 1) := by decide +kernel
theorem dX4_make_27 : decode cX4_make 27 = .ok (.bipush 100, 2) := by decide +kernel
theorem dX4_make_29 : decode cX4_make 29 = .ok (.invokestatic 30, 3) := by decide +kernel
theorem dX4_make_32 : decode cX4_make 32 = .ok (.ifCond .ne 9, 3) := by decide +kernel
theorem dX4_make_35 : decode cX4_make 35 = .ok (.aload_n 0, 1) := by decide +kernel
theorem dX4_make_36 : decode cX4_make 36 = .ok (.iconst 2, 1) := by decide +kernel
theorem dX4_make_37 : decode cX4_make 37 = .ok (.invokevirtual 89, 3) := by decide +kernel
theorem dX4_make_40 : decode cX4_make 40 = .ok (.ireturn, 1) := by decide +kernel
theorem dX4_make_41 : decode cX4_make 41 = .ok (.aload_n 0, 1) := by decide +kernel
theorem dX4_make_42 : decode cX4_make 42 = .ok (.getfield 34, 3) := by decide +kernel
theorem dX4_make_45 : decode cX4_make 45 = .ok (.bipush 20, 2) := by decide +kernel
theorem dX4_make_47 : decode cX4_make 47 = .ok (.if_icmp .ne 9, 3) := by decide +kernel
theorem dX4_make_50 : decode cX4_make 50 = .ok (.aload_n 0, 1) := by decide +kernel
theorem dX4_make_51 : decode cX4_make 51 = .ok (.iconst 3, 1) := by decide +kernel
theorem dX4_make_52 : decode cX4_make 52 = .ok (.invokevirtual 89, 3) := by decide +kernel
theorem dX4_make_55 : decode cX4_make 55 = .ok (.ireturn, 1) := by decide +kernel
theorem dX4_make_56 : decode cX4_make 56 = .ok (.aload_n 0, 1) := by decide +kernel
theorem dX4_make_57 : decode cX4_make 57 = .ok (.iload_n 1, 1) := by decide +kernel
theorem dX4_make_58 : decode cX4_make 58 = .ok (.iload_n 2, 1) := by decide +kernel
theorem dX4_make_59 : decode cX4_make 59 = .ok (.iload_n 3, 1) := by decide +kernel
theorem dX4_make_60 : decode cX4_make 60 = .ok (.invokevirtual 92, 3) := by decide +kernel
theorem dX4_make_63 : decode cX4_make 63 = .ok (.aload_n 0, 1) := by decide +kernel
theorem dX4_make_64 : decode cX4_make 64 = .ok (.getfield 34, 3) := by decide +kernel
theorem dX4_make_67 : decode cX4_make 67 = .ok (.iconst 1, 1) := by decide +kernel
theorem dX4_make_68 : decode cX4_make 68 = .ok (.isub, 1) := by decide +kernel
theorem dX4_make_69 : decode cX4_make 69 = .ok (.ireturn, 1) := by decide +kernel
theorem dX4_move_0 : decode cX4_move 0 = .ok (.aload_n 0, 1) := by decide +kernel
theorem dX4_move_1 : decode cX4_move 1 = .ok (.iconst 0, 1) := by decide +kernel
theorem dX4_move_2 : decode cX4_move 2 = .ok (.putfield 26, 3) := by decide +kernel
theorem dX4_move_5 : decode cX4_move 5 = .ok (.aload_n 0, 1) := by decide +kernel
theorem dX4_move_6 : decode cX4_move 6 = .ok (.iload_n 1, 1) := by decide +kernel
theorem dX4_move_7 : decode cX4_move 7 = .ok (.invokevirtual 96, 3) := by decide +kernel
theorem dX4_move_10 : decode cX4_move 10 = .ok (.ifCond .eq 10, 3) := by decide +kernel
theorem dX4_move_13 : decode cX4_move 13 = .ok (.iload_n 2, 1) := by decide +kernel
theorem dX4_move_14 : decode cX4_move 14 = .ok (.invokestatic 86, 3) := by decide +kernel
theorem dX4_move_17 : decode cX4_move 17 = .ok (.ifCond .ne 9, 3) := by decide +kernel
theorem dX4_move_20 : decode cX4_move 20 = .ok (.aload_n 0, 1) := by decide +kernel
theorem dX4_move_21 : decode cX4_move 21 = .ok (.iconst 1, 1) := by decide +kernel
theorem dX4_move_22 : decode cX4_move 22 = .ok (.invokevirtual 89, 3) := by decide +kernel
theorem dX4_move_25 : decode cX4_move 25 = .ok (.ireturn, 1) := by decide +kernel
theorem dX4_move_26 : decode cX4_move 26 = .ok (.aload_n 0, 1) := by decide +kernel
theorem dX4_move_27 : decode cX4_move 27 = .ok (.getfield 16, 3) := by decide +kernel
theorem dX4_move_30 : decode cX4_move 30 = .ok (.iload_n 1, 1) := by decide +kernel
theorem dX4_move_31 : decode cX4_move 31 = .ok (.iconst 0, 1) := by decide +kernel
theorem dX4_move_32 : decode cX4_move 32 = .ok (.invokestatic 37, 3) := by decide +kernel
theorem dX4_move_35 : decode cX4_move 35 = .ok (.iaload, 1) := by decide +kernel
theorem dX4_move_36 : decode cX4_move 36 = .ok (.istore_n 3, 1) := by decide +kernel
theorem dX4_move_37 : decode cX4_move 37 = .ok (.iload_n 3, 1) := by decide +kernel
theorem dX4_move_38 : decode cX4_move 38 = .ok (.iconst (-1), 1) := by decide +kernel
theorem dX4_move_39 : decode cX4_move 39 = .ok (.if_icmp .eq 22, 3) := by decide +kernel
theorem dX4_move_42 : decode cX4_move 42 = .ok (.iload_n 3, 1) := by decide +kernel
theorem dX4_move_43 : decode cX4_move 43 = .ok (.iload_n 2, 1) := by decide +kernel
theorem dX4_move_44 : decode cX4_move 44 = .ok (.if_icmp .eq 17, 3) := by decide +kernel
theorem dX4_move_47 : decode cX4_move 47 = .ok (.aload_n 0, 1) := by decide +kernel
theorem dX4_move_48 : decode cX4_move 48 = .ok (.getfield 16, 3) := by decide +kernel
theorem dX4_move_51 : decode cX4_move 51 = .ok (.iload_n 1, 1) := by decide +kernel
theorem dX4_move_52 : decode cX4_move 52 = .ok (.iconst 3, 1) := by decide +kernel
theorem dX4_move_53 : decode cX4_move 53 = .ok (.invokestatic 37, 3) := by decide +kernel
theorem dX4_move_56 : decode cX4_move 56 = .ok (.iaload, 1) := by decide +kernel
theorem dX4_move_57 : decode cX4_move 57 = .ok (.iconst 2, 1) := by decide +kernel
theorem dX4_move_58 : decode cX4_move 58 = .ok (.if_icmp .ne 9, 3) := by decide +kernel
theorem dX4_move_61 : decode cX4_move 61 = .ok (.aload_n 0, 1) := by decide +kernel
theorem dX4_move_62 : decode cX4_move 62 = .ok (.iconst 2, 1) := by decide +kernel
theorem dX4_move_63 : decode cX4_move 63 = .ok (.invokevirtual 89, 3) := by decide +kernel
theorem dX4_move_66 : decode cX4_move 66 = .ok (.ireturn, 1) := by decide +kernel
theorem dX4_move_67 : decode cX4_move 67 = .ok (.aload_n 0, 1) := by decide +kernel
theorem dX4_move_68 : decode cX4_move 68 = .ok (.getfield 16, 3) := by decide +kernel
theorem dX4_move_71 : decode cX4_move 71 = .ok (.iload_n 1, 1) := by decide +kernel
theorem dX4_move_72 : decode cX4_move 72 = .ok (.iconst 0, 1) := by decide +kernel
theorem dX4_move_73 : decode cX4_move 73 = .ok (.invokestatic 37, 3) := by decide +kernel
theorem dX4_move_76 : decode cX4_move 76 = .ok (.iload_n 2, 1) := by decide +kernel
theorem dX4_move_77 : decode cX4_move 77 = .ok (.iastore, 1) := by decide +kernel
theorem dX4_move_78 : decode cX4_move 78 = .ok (.aload_n 0, 1) := by decide +kernel
theorem dX4_move_79 : decode cX4_move 79 = .ok (.iload_n 3, 1) := by decide +kernel
theorem dX4_move_80 : decode cX4_move 80 = .ok (.invokevirtual 51, 3) := by decide +kernel
theorem dX4_move_83 : decode cX4_move 83 = .ok (.aload_n 0, 1) := by decide +kernel
theorem dX4_move_84 : decode cX4_move 84 = .ok (.iload_n 2, 1) := by decide +kernel
theorem dX4_move_85 : decode cX4_move 85 = .ok (.invokevirtual 51, 3) := by decide +kernel
theorem dX4_move_88 : decode cX4_move 88 = .ok (.iload_n 3, 1) := by decide +kernel
theorem dX4_move_89 : decode cX4_move 89 = .ok (.ireturn, 1) := by decide +kernel
theorem dX4_keep_0 : decode cX4_keep 0 = .ok (.aload_n 0, 1) := by decide +kernel
theorem dX4_keep_1 : decode cX4_keep 1 = .ok (.iconst 0, 1) := by decide +kernel
theorem dX4_keep_2 : decode cX4_keep 2 = .ok (.putfield 26, 3) := by decide +kernel
theorem dX4_keep_5 : decode cX4_keep 5 = .ok (.aload_n 0, 1) := by decide +kernel
theorem dX4_keep_6 : decode cX4_keep 6 = .ok (.iload_n 1, 1) := by decide +kernel
theorem dX4_keep_7 : decode cX4_keep 7 = .ok (.invokevirtual 96, 3) := by decide +kernel
theorem dX4_keep_10 : decode cX4_keep 10 = .ok (.ifCond .ne 9, 3) := by decide +kernel
theorem dX4_keep_13 : decode cX4_keep 13 = .ok (.aload_n 0, 1) := by decide +kernel
theorem dX4_keep_14 : decode cX4_keep 14 = .ok (.iconst 1, 1) := by decide +kernel
theorem dX4_keep_15 : decode cX4_keep 15 = .ok (.invokevirtual 89, 3) := by decide +kernel
theorem dX4_keep_18 : decode cX4_keep 18 = .ok (.ireturn, 1) := by decide +kernel
theorem dX4_keep_19 : decode cX4_keep 19 = .ok (.aload_n 0, 1) := by decide +kernel
theorem dX4_keep_20 : decode cX4_keep 20 = .ok (.iload_n 1, 1) := by decide +kernel
theorem dX4_keep_21 : decode cX4_keep 21 = .ok (.invokevirtual 69, 3) := by decide +kernel
theorem dX4_keep_24 : decode cX4_keep 24 = .ok (.ifCond .ne 9, 3) := by decide +kernel
theorem dX4_keep_27 : decode cX4_keep 27 = .ok (.aload_n 0, 1) := by decide +kernel
theorem dX4_keep_28 : decode cX4_keep 28 = .ok (.iconst 2, 1) := by decide +kernel
theorem dX4_keep_29 : decode cX4_keep 29 = .ok (.invokevirtual 89, 3) := by decide +kernel
theorem dX4_keep_32 : decode cX4_keep 32 = .ok (.ireturn, 1) := by decide +kernel
theorem dX4_keep_33 : decode cX4_keep 33 = .ok (.aload_n 0, 1) := by decide +kernel
theorem dX4_keep_34 : decode cX4_keep 34 = .ok (.aload_n 0, 1) := by decide +kernel
theorem dX4_keep_35 : decode cX4_keep 35 = .ok (.getfield 16, 3) := by decide +kernel
theorem dX4_keep_38 : decode cX4_keep 38 = .ok (.iload_n 1, 1) := by decide +kernel
theorem dX4_keep_39 : decode cX4_keep 39 = .ok (.iconst 0, 1) := by decide +kernel
theorem dX4_keep_40 : decode cX4_keep 40 = .ok (.invokestatic 37, 3) := by decide +kernel
theorem dX4_keep_43 : decode cX4_keep 43 = .ok (.iaload, 1) := by decide +kernel
theorem dX4_keep_44 : decode cX4_keep 44 = .ok (.invokevirtual 51, 3) := by decide +kernel
theorem dX4_keep_47 : decode cX4_keep 47 = .ok (.aload_n 0, 1) := by decide +kernel
theorem dX4_keep_48 : decode cX4_keep 48 = .ok (.getfield 16, 3) := by decide +kernel
theorem dX4_keep_51 : decode cX4_keep 51 = .ok (.iload_n 1, 1) := by decide +kernel
theorem dX4_keep_52 : decode cX4_keep 52 = .ok (.iconst 0, 1) := by decide +kernel
theorem dX4_keep_53 : decode cX4_keep 53 = .ok (.invokestatic 37, 3) := by decide +kernel
theorem dX4_keep_56 : decode cX4_keep 56 = .ok (.iconst (-1), 1) := by decide +kernel
theorem dX4_keep_57 : decode cX4_keep 57 = .ok (.iastore, 1) := by decide +kernel
theorem dX4_keep_58 : decode cX4_keep 58 = .ok (.aload_n 0, 1) := by decide +kernel
theorem dX4_keep_59 : decode cX4_keep 59 = .ok (.getfield 16, 3) := by decide +kernel
theorem dX4_keep_62 : decode cX4_keep 62 = .ok (.iload_n 1, 1) := by decide +kernel
theorem dX4_keep_63 : decode cX4_keep 63 = .ok (.iconst 4, 1) := by decide +kernel
theorem dX4_keep_64 : decode cX4_keep 64 = .ok (.invokestatic 37, 3) := by decide +kernel
theorem dX4_keep_67 : decode cX4_keep 67 = .ok (.iconst 1, 1) := by decide +kernel
theorem dX4_keep_68 : decode cX4_keep 68 = .ok (.iastore, 1) := by decide +kernel
theorem dX4_keep_69 : decode cX4_keep 69 = .ok (.aload_n 0, 1) := by decide +kernel
theorem dX4_keep_70 : decode cX4_keep 70 = .ok (.iload_n 1, 1) := by decide +kernel
theorem dX4_keep_71 : decode cX4_keep 71 = .ok (.invokevirtual 99, 3) := by decide +kernel
theorem dX4_keep_74 : decode cX4_keep 74 = .ok (.ireturn, 1) := by decide +kernel
theorem dX4_set_0 : decode cX4_set 0 = .ok (.aload_n 0, 1) := by decide +kernel
theorem dX4_set_1 : decode cX4_set 1 = .ok (.iconst 0, 1) := by decide +kernel
theorem dX4_set_2 : decode cX4_set 2 = .ok (.putfield 26, 3) := by decide +kernel
theorem dX4_set_5 : decode cX4_set 5 = .ok (.iload_n 1, 1) := by decide +kernel
theorem dX4_set_6 : decode cX4_set 6 = .ok (.invokestatic 86, 3) := by decide +kernel
theorem dX4_set_9 : decode cX4_set 9 = .ok (.ifCond .ne 9, 3) := by decide +kernel
theorem dX4_set_12 : decode cX4_set 12 = .ok (.aload_n 0, 1) := by decide +kernel
theorem dX4_set_13 : decode cX4_set 13 = .ok (.iconst 1, 1) := by decide +kernel
theorem dX4_set_14 : decode cX4_set 14 = .ok (.invokevirtual 89, 3) := by decide +kernel
theorem dX4_set_17 : decode cX4_set 17 = .ok (.ireturn, 1) := by decide +kernel
theorem dX4_set_18 : decode cX4_set 18 = .ok (.iload_n 2, 1) := by decide +kernel
theorem dX4_set_19 : decode cX4_set 19 = .ok (.bipush (-30), 2) := by decide +kernel
theorem dX4_set_21 : decode cX4_set 21 = .ok (.bipush (-5), 2) := by decide +kernel
theorem dX4_set_23 : decode cX4_set 23 = .ok (.invokestatic 30, 3) := by decide +kernel
theorem dX4_set_26 : decode cX4_set 26 = .ok (.ifCond .ne 9, 3) := by decide +kernel
theorem dX4_set_29 : decode cX4_set 29 = .ok (.aload_n 0, 1) := by decide +kernel
theorem dX4_set_30 : decode cX4_set 30 = .ok (.iconst 2, 1) := by decide +kernel
theorem dX4_set_31 : decode cX4_set 31 = .ok (.invokevirtual 89, 3) := by decide +kernel
theorem dX4_set_34 : decode cX4_set 34 = .ok (.ireturn, 1) := by decide +kernel
theorem dX4_set_35 : decode cX4_set 35 = .ok (.aload_n 0, 1) := by decide +kernel
theorem dX4_set_36 : decode cX4_set 36 = .ok (.getfield 16, 3) := by decide +kernel
theorem dX4_set_39 : decode cX4_set 39 = .ok (.iload_n 1, 1) := by decide +kernel
theorem dX4_set_40 : decode cX4_set 40 = .ok (.iconst 0, 1) := by decide +kernel
theorem dX4_set_41 : decode cX4_set 41 = .ok (.invokestatic 22, 3) := by decide +kernel
theorem dX4_set_44 : decode cX4_set 44 = .ok (.iaload, 1) := by decide +kernel
theorem dX4_set_45 : decode cX4_set 45 = .ok (.istore_n 3, 1) := by decide +kernel
theorem dX4_set_46 : decode cX4_set 46 = .ok (.aload_n 0, 1) := by decide +kernel
theorem dX4_set_47 : decode cX4_set 47 = .ok (.getfield 16, 3) := by decide +kernel
theorem dX4_set_50 : decode cX4_set 50 = .ok (.iload_n 1, 1) := by decide +kernel
theorem dX4_set_51 : decode cX4_set 51 = .ok (.iconst 0, 1) := by decide +kernel
theorem dX4_set_52 : decode cX4_set 52 = .ok (.invokestatic 22, 3) := by decide +kernel
theorem dX4_set_55 : decode cX4_set 55 = .ok (.iload_n 2, 1) := by decide +kernel
theorem dX4_set_56 : decode cX4_set 56 = .ok (.iastore, 1) := by decide +kernel
theorem dX4_set_57 : decode cX4_set 57 = .ok (.iload_n 3, 1) := by decide +kernel
theorem dX4_set_58 : decode cX4_set 58 = .ok (.ireturn, 1) := by decide +kernel
theorem dX4_switchPower_0 : decode cX4_switchPower 0 = .ok (.aload_n 0, 1) := by decide +kernel
theorem dX4_switchPower_1 : decode cX4_switchPower 1 = .ok (.iconst 0, 1) := by decide +kernel
theorem dX4_switchPower_2 : decode cX4_switchPower 2 = .ok (.putfield 26, 3) := by decide +kernel
theorem dX4_switchPower_5 : decode cX4_switchPower 5 = .ok (.aload_n 0, 1) := by decide +kernel
theorem dX4_switchPower_6 : decode cX4_switchPower 6 = .ok (.getfield 16, 3) := by decide +kernel
theorem dX4_switchPower_9 : decode cX4_switchPower 9 = .ok (.iconst 1, 1) := by decide +kernel
theorem dX4_switchPower_10 : decode cX4_switchPower 10 = .ok (.iconst 1, 1) := by decide +kernel
theorem dX4_switchPower_11 : decode cX4_switchPower 11 = .ok (.aload_n 0, 1) := by decide +kernel
theorem dX4_switchPower_12 : decode cX4_switchPower 12 = .ok (.getfield 16, 3) := by decide +kernel
theorem dX4_switchPower_15 : decode cX4_switchPower 15 = .ok (.iconst 1, 1) := by decide +kernel
theorem dX4_switchPower_16 : decode cX4_switchPower 16 = .ok (.iaload, 1) := by decide +kernel
theorem dX4_switchPower_17 : decode cX4_switchPower 17 = .ok (.isub, 1) := by decide +kernel
theorem dX4_switchPower_18 : decode cX4_switchPower 18 = .ok (.iastore, 1) := by decide +kernel
theorem dX4_switchPower_19 : decode cX4_switchPower 19 = .ok (.aload_n 0, 1) := by decide +kernel
theorem dX4_switchPower_20 : decode cX4_switchPower 20 = .ok (.getfield 16, 3) := by decide +kernel
theorem dX4_switchPower_23 : decode cX4_switchPower 23 = .ok (.iconst 1, 1) := by decide +kernel
theorem dX4_switchPower_24 : decode cX4_switchPower 24 = .ok (.iaload, 1) := by decide +kernel
theorem dX4_switchPower_25 : decode cX4_switchPower 25 = .ok (.iconst 1, 1) := by decide +kernel
theorem dX4_switchPower_26 : decode cX4_switchPower 26 = .ok (.if_icmp .ne 7, 3) := by decide +kernel
theorem dX4_switchPower_29 : decode cX4_switchPower 29 = .ok (.iconst 1, 1) := by decide +kernel
theorem dX4_switchPower_30 : decode cX4_switchPower 30 = .ok (.goto 4, 3) := by decide +kernel
theorem dX4_switchPower_33 : decode cX4_switchPower 33 = .ok (.iconst 0, 1) := by decide +kernel
theorem dX4_switchPower_34 : decode cX4_switchPower 34 = .ok (.ireturn, 1) := by decide +kernel
theorem dX4_pass_0 : decode cX4_pass 0 = .ok (.aload_n 0, 1) := by decide +kernel
theorem dX4_pass_1 : decode cX4_pass 1 = .ok (.iconst 0, 1) := by decide +kernel
theorem dX4_pass_2 : decode cX4_pass 2 = .ok (.putfield 26, 3) := by decide +kernel
theorem dX4_pass_5 : decode cX4_pass 5 = .ok (.iload_n 1, 1) := by decide +kernel
theorem dX4_pass_6 : decode cX4_pass 6 = .ok (.iconst 1, 1) := by decide +kernel
theorem dX4_pass_7 : decode cX4_pass 7 = .ok (.bipush 100, 2) := by decide +kernel
theorem dX4_pass_9 : decode cX4_pass 9 = .ok (.invokestatic 30, 3) := by decide +kernel
theorem dX4_pass_12 : decode cX4_pass 12 = .ok (.ifCond .eq 11, 3) := by decide +kernel
theorem dX4_pass_15 : decode cX4_pass 15 = .ok (.aload_n 0, 1) := by decide +kernel
theorem dX4_pass_16 : decode cX4_pass 16 = .ok (.iload_n 1, 1) := by decide +kernel
theorem dX4_pass_17 : decode cX4_pass 17 = .ok (.invokevirtual 102, 3) := by decide +kernel
theorem dX4_pass_20 : decode cX4_pass 20 = .ok (.goto 8, 3) := by decide +kernel
theorem dX4_pass_23 : decode cX4_pass 23 = .ok (.aload_n 0, 1) := by decide +kernel
theorem dX4_pass_24 : decode cX4_pass 24 = .ok (.iconst 1, 1) := by decide +kernel
theorem dX4_pass_25 : decode cX4_pass 25 = .ok (.invokevirtual 89, 3) := by decide +kernel
theorem dX4_pass_28 : decode cX4_pass 28 = .ok (.ireturn, 1) := by decide +kernel
theorem dX4_ofShelf_0 : decode cX4_ofShelf 0 = .ok (.aload_n 0, 1) := by decide +kernel
theorem dX4_ofShelf_1 : decode cX4_ofShelf 1 = .ok (.iconst 0, 1) := by decide +kernel
theorem dX4_ofShelf_2 : decode cX4_ofShelf 2 = .ok (.putfield 26, 3) := by decide +kernel
theorem dX4_ofShelf_5 : decode cX4_ofShelf 5 = .ok (.iload_n 1, 1) := by decide +kernel
theorem dX4_ofShelf_6 : decode cX4_ofShelf 6 = .ok (.invokestatic 86, 3) := by decide +kernel
theorem dX4_ofShelf_9 : decode cX4_ofShelf 9 = .ok (.ifCond .eq 16, 3) := by decide +kernel
theorem dX4_ofShelf_12 : decode cX4_ofShelf 12 = .ok (.aload_n 0, 1) := by decide +kernel
theorem dX4_ofShelf_13 : decode cX4_ofShelf 13 = .ok (.getfield 16, 3) := by decide +kernel
theorem dX4_ofShelf_16 : decode cX4_ofShelf 16 = .ok (.iload_n 1, 1) := by decide +kernel
theorem dX4_ofShelf_17 : decode cX4_ofShelf 17 = .ok (.iload_n 2, 1) := by decide +kernel
theorem dX4_ofShelf_18 : decode cX4_ofShelf 18 = .ok (.invokestatic 22, 3) := by decide +kernel
theorem dX4_ofShelf_21 : decode cX4_ofShelf 21 = .ok (.iaload, 1) := by decide +kernel
theorem dX4_ofShelf_22 : decode cX4_ofShelf 22 = .ok (.goto 8, 3) := by decide +kernel
theorem dX4_ofShelf_25 : decode cX4_ofShelf 25 = .ok (.aload_n 0, 1) := by decide +kernel
theorem dX4_ofShelf_26 : decode cX4_ofShelf 26 = .ok (.iconst 1, 1) := by decide +kernel
theorem dX4_ofShelf_27 : decode cX4_ofShelf 27 = .ok (.invokevirtual 89, 3) := by decide +kernel
theorem dX4_ofShelf_30 : decode cX4_ofShelf 30 = .ok (.ireturn, 1) := by decide +kernel
theorem dX4_hour_0 : decode cX4_hour 0 = .ok (.aload_n 0, 1) := by decide +kernel
theorem dX4_hour_1 : decode cX4_hour 1 = .ok (.aload_n 0, 1) := by decide +kernel
theorem dX4_hour_2 : decode cX4_hour 2 = .ok (.getfield 16, 3) := by decide +kernel
theorem dX4_hour_5 : decode cX4_hour 5 = .ok (.iconst 0, 1) := by decide +kernel
theorem dX4_hour_6 : decode cX4_hour 6 = .ok (.iaload, 1) := by decide +kernel
theorem dX4_hour_7 : decode cX4_hour 7 = .ok (.invokevirtual 105, 3) := by decide +kernel
theorem dX4_hour_10 : decode cX4_hour 10 = .ok (.ireturn, 1) := by decide +kernel
theorem dX4_hasPower_0 : decode cX4_hasPower 0 = .ok (.aload_n 0, 1) := by decide +kernel
theorem dX4_hasPower_1 : decode cX4_hasPower 1 = .ok (.iconst 0, 1) := by decide +kernel
theorem dX4_hasPower_2 : decode cX4_hasPower 2 = .ok (.putfield 26, 3) := by decide +kernel
theorem dX4_hasPower_5 : decode cX4_hasPower 5 = .ok (.aload_n 0, 1) := by decide +kernel
theorem dX4_hasPower_6 : decode cX4_hasPower 6 = .ok (.getfield 16, 3) := by decide +kernel
theorem dX4_hasPower_9 : decode cX4_hasPower 9 = .ok (.iconst 1, 1) := by decide +kernel
theorem dX4_hasPower_10 : decode cX4_hasPower 10 = .ok (.iaload, 1) := by decide +kernel
theorem dX4_hasPower_11 : decode cX4_hasPower 11 = .ok (.iconst 1, 1) := by decide +kernel
theorem dX4_hasPower_12 : decode cX4_hasPower 12 = .ok (.if_icmp .ne 7, 3) := by decide +kernel
theorem dX4_hasPower_15 : decode cX4_hasPower 15 = .ok (.iconst 1, 1) := by decide +kernel
theorem dX4_hasPower_16 : decode cX4_hasPower 16 = .ok (.goto 4, 3) := by decide +kernel
theorem dX4_hasPower_19 : decode cX4_hasPower 19 = .ok (.iconst 0, 1) := by decide +kernel
theorem dX4_hasPower_20 : decode cX4_hasPower 20 = .ok (.ireturn, 1) := by decide +kernel
theorem dX4_settingOf_0 : decode cX4_settingOf 0 = .ok (.aload_n 0, 1) := by decide +kernel
theorem dX4_settingOf_1 : decode cX4_settingOf 1 = .ok (.iload_n 1, 1) := by decide +kernel
theorem dX4_settingOf_2 : decode cX4_settingOf 2 = .ok (.iconst 0, 1) := by decide +kernel
theorem dX4_settingOf_3 : decode cX4_settingOf 3 = .ok (.invokevirtual 108, 3) := by decide +kernel
theorem dX4_settingOf_6 : decode cX4_settingOf 6 = .ok (.ireturn, 1) := by decide +kernel
theorem dX4_heatOn_0 : decode cX4_heatOn 0 = .ok (.aload_n 0, 1) := by decide +kernel
theorem dX4_heatOn_1 : decode cX4_heatOn 1 = .ok (.iload_n 1, 1) := by decide +kernel
theorem dX4_heatOn_2 : decode cX4_heatOn 2 = .ok (.iconst 1, 1) := by decide +kernel
theorem dX4_heatOn_3 : decode cX4_heatOn 3 = .ok (.invokevirtual 108, 3) := by decide +kernel
theorem dX4_heatOn_6 : decode cX4_heatOn 6 = .ok (.ireturn, 1) := by decide +kernel
theorem dX4_on_0 : decode cX4_on 0 = .ok (.iconst 0, 1) := by decide +kernel
theorem dX4_on_1 : decode cX4_on 1 = .ok (.istore_n 2, 1) := by decide +kernel
theorem dX4_on_2 : decode cX4_on 2 = .ok (.iconst 0, 1) := by decide +kernel
theorem dX4_on_3 : decode cX4_on 3 = .ok (.istore_n 3, 1) := by decide +kernel
theorem dX4_on_4 : decode cX4_on 4 = .ok (.iload_n 3, 1) := by decide +kernel
theorem dX4_on_5 : decode cX4_on 5 = .ok (.aload_n 0, 1) := by decide +kernel
theorem dX4_on_6 : decode cX4_on 6 = .ok (.getfield 34, 3) := by decide +kernel
theorem dX4_on_9 : decode cX4_on 9 = .ok (.if_icmp .ge 31, 3) := by decide +kernel
theorem dX4_on_12 : decode cX4_on 12 = .ok (.iload_n 2, 1) := by decide +kernel
theorem dX4_on_13 : decode cX4_on 13 = .ok (.aload_n 0, 1) := by decide +kernel
theorem dX4_on_14 : decode cX4_on 14 = .ok (.getfield 16, 3) := by decide +kernel
theorem dX4_on_17 : decode cX4_on 17 = .ok (.iload_n 3, 1) := by decide +kernel
theorem dX4_on_18 : decode cX4_on 18 = .ok (.iconst 0, 1) := by decide +kernel
theorem dX4_on_19 : decode cX4_on 19 = .ok (.invokestatic 37, 3) := by decide +kernel
theorem dX4_on_22 : decode cX4_on 22 = .ok (.iaload, 1) := by decide +kernel
theorem dX4_on_23 : decode cX4_on 23 = .ok (.iload_n 1, 1) := by decide +kernel
theorem dX4_on_24 : decode cX4_on 24 = .ok (.if_icmp .ne 7, 3) := by decide +kernel
theorem dX4_on_27 : decode cX4_on 27 = .ok (.iconst 1, 1) := by decide +kernel
theorem dX4_on_28 : decode cX4_on 28 = .ok (.goto 4, 3) := by decide +kernel
theorem dX4_on_31 : decode cX4_on 31 = .ok (.iconst 0, 1) := by decide +kernel
theorem dX4_on_32 : decode cX4_on 32 = .ok (.iadd, 1) := by decide +kernel
theorem dX4_on_33 : decode cX4_on 33 = .ok (.istore_n 2, 1) := by decide +kernel
theorem dX4_on_34 : decode cX4_on 34 = .ok (.iinc 3 1, 3) := by decide +kernel
theorem dX4_on_37 : decode cX4_on 37 = .ok (.goto (-33), 3) := by decide +kernel
theorem dX4_on_40 : decode cX4_on 40 = .ok (.iload_n 2, 1) := by decide +kernel
theorem dX4_on_41 : decode cX4_on 41 = .ok (.ireturn, 1) := by decide +kernel
theorem dX4_promisesOn_0 : decode cX4_promisesOn 0 = .ok (.aload_n 0, 1) := by decide +kernel
theorem dX4_promisesOn_1 : decode cX4_promisesOn 1 = .ok (.iconst 0, 1) := by decide +kernel
theorem dX4_promisesOn_2 : decode cX4_promisesOn 2 = .ok (.putfield 26, 3) := by decide +kernel
theorem dX4_promisesOn_5 : decode cX4_promisesOn 5 = .ok (.iload_n 1, 1) := by decide +kernel
theorem dX4_promisesOn_6 : decode cX4_promisesOn 6 = .ok (.invokestatic 86, 3) := by decide +kernel
theorem dX4_promisesOn_9 : decode cX4_promisesOn 9 = .ok (.ifCond .eq 11, 3) := by decide +kernel
theorem dX4_promisesOn_12 : decode cX4_promisesOn 12 = .ok (.aload_n 0, 1) := by decide +kernel
theorem dX4_promisesOn_13 : decode cX4_promisesOn 13 = .ok (.iload_n 1, 1) := by decide +kernel
theorem dX4_promisesOn_14 : decode cX4_promisesOn 14 = .ok (.invokevirtual 111, 3) := by decide +kernel
theorem dX4_promisesOn_17 : decode cX4_promisesOn 17 = .ok (.goto 8, 3) := by decide +kernel
theorem dX4_promisesOn_20 : decode cX4_promisesOn 20 = .ok (.aload_n 0, 1) := by decide +kernel
theorem dX4_promisesOn_21 : decode cX4_promisesOn 21 = .ok (.iconst 1, 1) := by decide +kernel
theorem dX4_promisesOn_22 : decode cX4_promisesOn 22 = .ok (.invokevirtual 89, 3) := by decide +kernel
theorem dX4_promisesOn_25 : decode cX4_promisesOn 25 = .ok (.ireturn, 1) := by decide +kernel
theorem dX4_coldestOf_0 : decode cX4_coldestOf 0 = .ok (.iconst 0, 1) := by decide +kernel
theorem dX4_coldestOf_1 : decode cX4_coldestOf 1 = .ok (.istore_n 1, 1) := by decide +kernel
theorem dX4_coldestOf_2 : decode cX4_coldestOf 2 = .ok (.iconst 1, 1) := by decide +kernel
theorem dX4_coldestOf_3 : decode cX4_coldestOf 3 = .ok (.istore_n 2, 1) := by decide +kernel
theorem dX4_coldestOf_4 : decode cX4_coldestOf 4 = .ok (.iload_n 2, 1) := by decide +kernel
theorem dX4_coldestOf_5 : decode cX4_coldestOf 5 = .ok (.iconst 5, 1) := by decide +kernel
theorem dX4_coldestOf_6 : decode cX4_coldestOf 6 = .ok (.if_icmp .ge 34, 3) := by decide +kernel
theorem dX4_coldestOf_9 : decode cX4_coldestOf 9 = .ok (.aload_n 0, 1) := by decide +kernel
theorem dX4_coldestOf_10 : decode cX4_coldestOf 10 = .ok (.getfield 16, 3) := by decide +kernel
theorem dX4_coldestOf_13 : decode cX4_coldestOf 13 = .ok (.iload_n 2, 1) := by decide +kernel
theorem dX4_coldestOf_14 : decode cX4_coldestOf 14 = .ok (.iconst 1, 1) := by decide +kernel
theorem dX4_coldestOf_15 : decode cX4_coldestOf 15 = .ok (.invokestatic 22, 3) := by decide +kernel
theorem dX4_coldestOf_18 : decode cX4_coldestOf 18 = .ok (.iaload, 1) := by decide +kernel
theorem dX4_coldestOf_19 : decode cX4_coldestOf 19 = .ok (.aload_n 0, 1) := by decide +kernel
theorem dX4_coldestOf_20 : decode cX4_coldestOf 20 = .ok (.getfield 16, 3) := by decide +kernel
theorem dX4_coldestOf_23 : decode cX4_coldestOf 23 = .ok (.iload_n 1, 1) := by decide +kernel
theorem dX4_coldestOf_24 : decode cX4_coldestOf 24 = .ok (.iconst 1, 1) := by decide +kernel
theorem dX4_coldestOf_25 : decode cX4_coldestOf 25 = .ok (.invokestatic 22, 3) := by decide +kernel
theorem dX4_coldestOf_28 : decode cX4_coldestOf 28 = .ok (.iaload, 1) := by decide +kernel
theorem dX4_coldestOf_29 : decode cX4_coldestOf 29 = .ok (.if_icmp .ge 5, 3) := by decide +kernel
theorem dX4_coldestOf_32 : decode cX4_coldestOf 32 = .ok (.iload_n 2, 1) := by decide +kernel
theorem dX4_coldestOf_33 : decode cX4_coldestOf 33 = .ok (.istore_n 1, 1) := by decide +kernel
theorem dX4_coldestOf_34 : decode cX4_coldestOf 34 = .ok (.iinc 2 1, 3) := by decide +kernel
theorem dX4_coldestOf_37 : decode cX4_coldestOf 37 = .ok (.goto (-33), 3) := by decide +kernel
theorem dX4_coldestOf_40 : decode cX4_coldestOf 40 = .ok (.iload_n 1, 1) := by decide +kernel
theorem dX4_coldestOf_41 : decode cX4_coldestOf 41 = .ok (.ireturn, 1) := by decide +kernel
theorem dX4_coldest_0 : decode cX4_coldest 0 = .ok (.aload_n 0, 1) := by decide +kernel
theorem dX4_coldest_1 : decode cX4_coldest 1 = .ok (.aload_n 0, 1) := by decide +kernel
theorem dX4_coldest_2 : decode cX4_coldest 2 = .ok (.invokevirtual 114, 3) := by decide +kernel
theorem dX4_coldest_5 : decode cX4_coldest 5 = .ok (.invokevirtual 105, 3) := by decide +kernel
theorem dX4_coldest_8 : decode cX4_coldest 8 = .ok (.ireturn, 1) := by decide +kernel
theorem dX4_alarms_0 : decode cX4_alarms 0 = .ok (.aload_n 0, 1) := by decide +kernel
theorem dX4_alarms_1 : decode cX4_alarms 1 = .ok (.aload_n 0, 1) := by decide +kernel
theorem dX4_alarms_2 : decode cX4_alarms 2 = .ok (.getfield 16, 3) := by decide +kernel
theorem dX4_alarms_5 : decode cX4_alarms 5 = .ok (.iconst 2, 1) := by decide +kernel
theorem dX4_alarms_6 : decode cX4_alarms 6 = .ok (.iaload, 1) := by decide +kernel
theorem dX4_alarms_7 : decode cX4_alarms 7 = .ok (.invokevirtual 105, 3) := by decide +kernel
theorem dX4_alarms_10 : decode cX4_alarms 10 = .ok (.ireturn, 1) := by decide +kernel
theorem dX4_ofPromise_0 : decode cX4_ofPromise 0 = .ok (.aload_n 0, 1) := by decide +kernel
theorem dX4_ofPromise_1 : decode cX4_ofPromise 1 = .ok (.iconst 0, 1) := by decide +kernel
theorem dX4_ofPromise_2 : decode cX4_ofPromise 2 = .ok (.putfield 26, 3) := by decide +kernel
theorem dX4_ofPromise_5 : decode cX4_ofPromise 5 = .ok (.aload_n 0, 1) := by decide +kernel
theorem dX4_ofPromise_6 : decode cX4_ofPromise 6 = .ok (.iload_n 1, 1) := by decide +kernel
theorem dX4_ofPromise_7 : decode cX4_ofPromise 7 = .ok (.invokevirtual 96, 3) := by decide +kernel
theorem dX4_ofPromise_10 : decode cX4_ofPromise 10 = .ok (.ifCond .eq 16, 3) := by decide +kernel
theorem dX4_ofPromise_13 : decode cX4_ofPromise 13 = .ok (.aload_n 0, 1) := by decide +kernel
theorem dX4_ofPromise_14 : decode cX4_ofPromise 14 = .ok (.getfield 16, 3) := by decide +kernel
theorem dX4_ofPromise_17 : decode cX4_ofPromise 17 = .ok (.iload_n 1, 1) := by decide +kernel
theorem dX4_ofPromise_18 : decode cX4_ofPromise 18 = .ok (.iload_n 2, 1) := by decide +kernel
theorem dX4_ofPromise_19 : decode cX4_ofPromise 19 = .ok (.invokestatic 37, 3) := by decide +kernel
theorem dX4_ofPromise_22 : decode cX4_ofPromise 22 = .ok (.iaload, 1) := by decide +kernel
theorem dX4_ofPromise_23 : decode cX4_ofPromise 23 = .ok (.goto 8, 3) := by decide +kernel
theorem dX4_ofPromise_26 : decode cX4_ofPromise 26 = .ok (.aload_n 0, 1) := by decide +kernel
theorem dX4_ofPromise_27 : decode cX4_ofPromise 27 = .ok (.iconst 1, 1) := by decide +kernel
theorem dX4_ofPromise_28 : decode cX4_ofPromise 28 = .ok (.invokevirtual 89, 3) := by decide +kernel
theorem dX4_ofPromise_31 : decode cX4_ofPromise 31 = .ok (.ireturn, 1) := by decide +kernel
theorem dX4_promises_0 : decode cX4_promises 0 = .ok (.aload_n 0, 1) := by decide +kernel
theorem dX4_promises_1 : decode cX4_promises 1 = .ok (.aload_n 0, 1) := by decide +kernel
theorem dX4_promises_2 : decode cX4_promises 2 = .ok (.getfield 34, 3) := by decide +kernel
theorem dX4_promises_5 : decode cX4_promises 5 = .ok (.invokevirtual 105, 3) := by decide +kernel
theorem dX4_promises_8 : decode cX4_promises 8 = .ok (.ireturn, 1) := by decide +kernel
theorem dX4_makerOf_0 : decode cX4_makerOf 0 = .ok (.aload_n 0, 1) := by decide +kernel
theorem dX4_makerOf_1 : decode cX4_makerOf 1 = .ok (.iconst 0, 1) := by decide +kernel
theorem dX4_makerOf_2 : decode cX4_makerOf 2 = .ok (.putfield 26, 3) := by decide +kernel
theorem dX4_makerOf_5 : decode cX4_makerOf 5 = .ok (.aload_n 0, 1) := by decide +kernel
theorem dX4_makerOf_6 : decode cX4_makerOf 6 = .ok (.iload_n 1, 1) := by decide +kernel
theorem dX4_makerOf_7 : decode cX4_makerOf 7 = .ok (.invokevirtual 96, 3) := by decide +kernel
theorem dX4_makerOf_10 : decode cX4_makerOf 10 = .ok (.ifCond .eq 12, 3) := by decide +kernel
theorem dX4_makerOf_13 : decode cX4_makerOf 13 = .ok (.aload_n 0, 1) := by decide +kernel
theorem dX4_makerOf_14 : decode cX4_makerOf 14 = .ok (.getfield 9, 3) := by decide +kernel
theorem dX4_makerOf_17 : decode cX4_makerOf 17 = .ok (.iload_n 1, 1) := by decide +kernel
theorem dX4_makerOf_18 : decode cX4_makerOf 18 = .ok (.iaload, 1) := by decide +kernel
theorem dX4_makerOf_19 : decode cX4_makerOf 19 = .ok (.goto 8, 3) := by decide +kernel
theorem dX4_makerOf_22 : decode cX4_makerOf 22 = .ok (.aload_n 0, 1) := by decide +kernel
theorem dX4_makerOf_23 : decode cX4_makerOf 23 = .ok (.iconst 1, 1) := by decide +kernel
theorem dX4_makerOf_24 : decode cX4_makerOf 24 = .ok (.invokevirtual 89, 3) := by decide +kernel
theorem dX4_makerOf_27 : decode cX4_makerOf 27 = .ok (.ireturn, 1) := by decide +kernel
theorem dX4_shelfOf_0 : decode cX4_shelfOf 0 = .ok (.aload_n 0, 1) := by decide +kernel
theorem dX4_shelfOf_1 : decode cX4_shelfOf 1 = .ok (.iload_n 1, 1) := by decide +kernel
theorem dX4_shelfOf_2 : decode cX4_shelfOf 2 = .ok (.iconst 0, 1) := by decide +kernel
theorem dX4_shelfOf_3 : decode cX4_shelfOf 3 = .ok (.invokevirtual 117, 3) := by decide +kernel
theorem dX4_shelfOf_6 : decode cX4_shelfOf 6 = .ok (.ireturn, 1) := by decide +kernel
theorem dX4_heatOf_0 : decode cX4_heatOf 0 = .ok (.aload_n 0, 1) := by decide +kernel
theorem dX4_heatOf_1 : decode cX4_heatOf 1 = .ok (.iload_n 1, 1) := by decide +kernel
theorem dX4_heatOf_2 : decode cX4_heatOf 2 = .ok (.iconst 1, 1) := by decide +kernel
theorem dX4_heatOf_3 : decode cX4_heatOf 3 = .ok (.invokevirtual 117, 3) := by decide +kernel
theorem dX4_heatOf_6 : decode cX4_heatOf 6 = .ok (.ireturn, 1) := by decide +kernel
theorem dX4_ageOf_0 : decode cX4_ageOf 0 = .ok (.aload_n 0, 1) := by decide +kernel
theorem dX4_ageOf_1 : decode cX4_ageOf 1 = .ok (.iload_n 1, 1) := by decide +kernel
theorem dX4_ageOf_2 : decode cX4_ageOf 2 = .ok (.iconst 2, 1) := by decide +kernel
theorem dX4_ageOf_3 : decode cX4_ageOf 3 = .ok (.invokevirtual 117, 3) := by decide +kernel
theorem dX4_ageOf_6 : decode cX4_ageOf 6 = .ok (.ireturn, 1) := by decide +kernel
theorem dX4_left_0 : decode cX4_left 0 = .ok (.aload_n 0, 1) := by decide +kernel
theorem dX4_left_1 : decode cX4_left 1 = .ok (.getfield 13, 3) := by decide +kernel
theorem dX4_left_4 : decode cX4_left 4 = .ok (.iload_n 1, 1) := by decide +kernel
theorem dX4_left_5 : decode cX4_left 5 = .ok (.iaload, 1) := by decide +kernel
theorem dX4_left_6 : decode cX4_left 6 = .ok (.aload_n 0, 1) := by decide +kernel
theorem dX4_left_7 : decode cX4_left 7 = .ok (.getfield 16, 3) := by decide +kernel
theorem dX4_left_10 : decode cX4_left 10 = .ok (.iload_n 1, 1) := by decide +kernel
theorem dX4_left_11 : decode cX4_left 11 = .ok (.iconst 2, 1) := by decide +kernel
theorem dX4_left_12 : decode cX4_left 12 = .ok (.invokestatic 37, 3) := by decide +kernel
theorem dX4_left_15 : decode cX4_left 15 = .ok (.iaload, 1) := by decide +kernel
theorem dX4_left_16 : decode cX4_left 16 = .ok (.isub, 1) := by decide +kernel
theorem dX4_left_17 : decode cX4_left 17 = .ok (.ireturn, 1) := by decide +kernel
theorem dX4_hoursLeft_0 : decode cX4_hoursLeft 0 = .ok (.aload_n 0, 1) := by decide +kernel
theorem dX4_hoursLeft_1 : decode cX4_hoursLeft 1 = .ok (.iconst 0, 1) := by decide +kernel
theorem dX4_hoursLeft_2 : decode cX4_hoursLeft 2 = .ok (.putfield 26, 3) := by decide +kernel
theorem dX4_hoursLeft_5 : decode cX4_hoursLeft 5 = .ok (.aload_n 0, 1) := by decide +kernel
theorem dX4_hoursLeft_6 : decode cX4_hoursLeft 6 = .ok (.iload_n 1, 1) := by decide +kernel
theorem dX4_hoursLeft_7 : decode cX4_hoursLeft 7 = .ok (.invokevirtual 96, 3) := by decide +kernel
theorem dX4_hoursLeft_10 : decode cX4_hoursLeft 10 = .ok (.ifCond .eq 11, 3) := by decide +kernel
theorem dX4_hoursLeft_13 : decode cX4_hoursLeft 13 = .ok (.aload_n 0, 1) := by decide +kernel
theorem dX4_hoursLeft_14 : decode cX4_hoursLeft 14 = .ok (.iload_n 1, 1) := by decide +kernel
theorem dX4_hoursLeft_15 : decode cX4_hoursLeft 15 = .ok (.invokevirtual 99, 3) := by decide +kernel
theorem dX4_hoursLeft_18 : decode cX4_hoursLeft 18 = .ok (.goto 8, 3) := by decide +kernel
theorem dX4_hoursLeft_21 : decode cX4_hoursLeft 21 = .ok (.aload_n 0, 1) := by decide +kernel
theorem dX4_hoursLeft_22 : decode cX4_hoursLeft 22 = .ok (.iconst 1, 1) := by decide +kernel
theorem dX4_hoursLeft_23 : decode cX4_hoursLeft 23 = .ok (.invokevirtual 89, 3) := by decide +kernel
theorem dX4_hoursLeft_26 : decode cX4_hoursLeft 26 = .ok (.ireturn, 1) := by decide +kernel
theorem dX4_isSo_0 : decode cX4_isSo 0 = .ok (.aload_n 0, 1) := by decide +kernel
theorem dX4_isSo_1 : decode cX4_isSo 1 = .ok (.iload_n 1, 1) := by decide +kernel
theorem dX4_isSo_2 : decode cX4_isSo 2 = .ok (.invokevirtual 69, 3) := by decide +kernel
theorem dX4_isSo_5 : decode cX4_isSo 5 = .ok (.ifCond .eq 21, 3) := by decide +kernel
theorem dX4_isSo_8 : decode cX4_isSo 8 = .ok (.aload_n 0, 1) := by decide +kernel
theorem dX4_isSo_9 : decode cX4_isSo 9 = .ok (.getfield 16, 3) := by decide +kernel
theorem dX4_isSo_12 : decode cX4_isSo 12 = .ok (.iload_n 1, 1) := by decide +kernel
theorem dX4_isSo_13 : decode cX4_isSo 13 = .ok (.iconst 3, 1) := by decide +kernel
theorem dX4_isSo_14 : decode cX4_isSo 14 = .ok (.invokestatic 37, 3) := by decide +kernel
theorem dX4_isSo_17 : decode cX4_isSo 17 = .ok (.iaload, 1) := by decide +kernel
theorem dX4_isSo_18 : decode cX4_isSo 18 = .ok (.iload_n 2, 1) := by decide +kernel
theorem dX4_isSo_19 : decode cX4_isSo 19 = .ok (.if_icmp .ne 7, 3) := by decide +kernel
theorem dX4_isSo_22 : decode cX4_isSo 22 = .ok (.iconst 1, 1) := by decide +kernel
theorem dX4_isSo_23 : decode cX4_isSo 23 = .ok (.goto 4, 3) := by decide +kernel
theorem dX4_isSo_26 : decode cX4_isSo 26 = .ok (.iconst 0, 1) := by decide +kernel
theorem dX4_isSo_27 : decode cX4_isSo 27 = .ok (.ireturn, 1) := by decide +kernel
theorem dX4_isFrozen_0 : decode cX4_isFrozen 0 = .ok (.aload_n 0, 1) := by decide +kernel
theorem dX4_isFrozen_1 : decode cX4_isFrozen 1 = .ok (.iconst 0, 1) := by decide +kernel
theorem dX4_isFrozen_2 : decode cX4_isFrozen 2 = .ok (.putfield 26, 3) := by decide +kernel
theorem dX4_isFrozen_5 : decode cX4_isFrozen 5 = .ok (.aload_n 0, 1) := by decide +kernel
theorem dX4_isFrozen_6 : decode cX4_isFrozen 6 = .ok (.iload_n 1, 1) := by decide +kernel
theorem dX4_isFrozen_7 : decode cX4_isFrozen 7 = .ok (.invokevirtual 96, 3) := by decide +kernel
theorem dX4_isFrozen_10 : decode cX4_isFrozen 10 = .ok (.ifCond .eq 12, 3) := by decide +kernel
theorem dX4_isFrozen_13 : decode cX4_isFrozen 13 = .ok (.aload_n 0, 1) := by decide +kernel
theorem dX4_isFrozen_14 : decode cX4_isFrozen 14 = .ok (.iload_n 1, 1) := by decide +kernel
theorem dX4_isFrozen_15 : decode cX4_isFrozen 15 = .ok (.iconst 1, 1) := by decide +kernel
theorem dX4_isFrozen_16 : decode cX4_isFrozen 16 = .ok (.invokevirtual 120, 3) := by decide +kernel
theorem dX4_isFrozen_19 : decode cX4_isFrozen 19 = .ok (.goto 8, 3) := by decide +kernel
theorem dX4_isFrozen_22 : decode cX4_isFrozen 22 = .ok (.aload_n 0, 1) := by decide +kernel
theorem dX4_isFrozen_23 : decode cX4_isFrozen 23 = .ok (.iconst 1, 1) := by decide +kernel
theorem dX4_isFrozen_24 : decode cX4_isFrozen 24 = .ok (.invokevirtual 124, 3) := by decide +kernel
theorem dX4_isFrozen_27 : decode cX4_isFrozen 27 = .ok (.ireturn, 1) := by decide +kernel
theorem dX4_isThawed_0 : decode cX4_isThawed 0 = .ok (.aload_n 0, 1) := by decide +kernel
theorem dX4_isThawed_1 : decode cX4_isThawed 1 = .ok (.iconst 0, 1) := by decide +kernel
theorem dX4_isThawed_2 : decode cX4_isThawed 2 = .ok (.putfield 26, 3) := by decide +kernel
theorem dX4_isThawed_5 : decode cX4_isThawed 5 = .ok (.aload_n 0, 1) := by decide +kernel
theorem dX4_isThawed_6 : decode cX4_isThawed 6 = .ok (.iload_n 1, 1) := by decide +kernel
theorem dX4_isThawed_7 : decode cX4_isThawed 7 = .ok (.invokevirtual 96, 3) := by decide +kernel
theorem dX4_isThawed_10 : decode cX4_isThawed 10 = .ok (.ifCond .eq 12, 3) := by decide +kernel
theorem dX4_isThawed_13 : decode cX4_isThawed 13 = .ok (.aload_n 0, 1) := by decide +kernel
theorem dX4_isThawed_14 : decode cX4_isThawed 14 = .ok (.iload_n 1, 1) := by decide +kernel
theorem dX4_isThawed_15 : decode cX4_isThawed 15 = .ok (.iconst 2, 1) := by decide +kernel
theorem dX4_isThawed_16 : decode cX4_isThawed 16 = .ok (.invokevirtual 120, 3) := by decide +kernel
theorem dX4_isThawed_19 : decode cX4_isThawed 19 = .ok (.goto 8, 3) := by decide +kernel
theorem dX4_isThawed_22 : decode cX4_isThawed 22 = .ok (.aload_n 0, 1) := by decide +kernel
theorem dX4_isThawed_23 : decode cX4_isThawed 23 = .ok (.iconst 1, 1) := by decide +kernel
theorem dX4_isThawed_24 : decode cX4_isThawed 24 = .ok (.invokevirtual 124, 3) := by decide +kernel
theorem dX4_isThawed_27 : decode cX4_isThawed 27 = .ok (.ireturn, 1) := by decide +kernel
theorem dX4_isKept_0 : decode cX4_isKept 0 = .ok (.aload_n 0, 1) := by decide +kernel
theorem dX4_isKept_1 : decode cX4_isKept 1 = .ok (.iload_n 1, 1) := by decide +kernel
theorem dX4_isKept_2 : decode cX4_isKept 2 = .ok (.iconst 4, 1) := by decide +kernel
theorem dX4_isKept_3 : decode cX4_isKept 3 = .ok (.invokevirtual 117, 3) := by decide +kernel
theorem dX4_isKept_6 : decode cX4_isKept 6 = .ok (.iconst 1, 1) := by decide +kernel
theorem dX4_isKept_7 : decode cX4_isKept 7 = .ok (.if_icmp .ne 7, 3) := by decide +kernel
theorem dX4_isKept_10 : decode cX4_isKept 10 = .ok (.iconst 1, 1) := by decide +kernel
theorem dX4_isKept_11 : decode cX4_isKept 11 = .ok (.goto 4, 3) := by decide +kernel
theorem dX4_isKept_14 : decode cX4_isKept 14 = .ok (.iconst 0, 1) := by decide +kernel
theorem dX4_isKept_15 : decode cX4_isKept 15 = .ok (.ireturn, 1) := by decide +kernel
theorem dX4_isExpired_0 : decode cX4_isExpired 0 = .ok (.aload_n 0, 1) := by decide +kernel
theorem dX4_isExpired_1 : decode cX4_isExpired 1 = .ok (.iload_n 1, 1) := by decide +kernel
theorem dX4_isExpired_2 : decode cX4_isExpired 2 = .ok (.iconst 4, 1) := by decide +kernel
theorem dX4_isExpired_3 : decode cX4_isExpired 3 = .ok (.invokevirtual 117, 3) := by decide +kernel
theorem dX4_isExpired_6 : decode cX4_isExpired 6 = .ok (.iconst 2, 1) := by decide +kernel
theorem dX4_isExpired_7 : decode cX4_isExpired 7 = .ok (.if_icmp .ne 7, 3) := by decide +kernel
theorem dX4_isExpired_10 : decode cX4_isExpired 10 = .ok (.iconst 1, 1) := by decide +kernel
theorem dX4_isExpired_11 : decode cX4_isExpired 11 = .ok (.goto 4, 3) := by decide +kernel
theorem dX4_isExpired_14 : decode cX4_isExpired 14 = .ok (.iconst 0, 1) := by decide +kernel
theorem dX4_isExpired_15 : decode cX4_isExpired 15 = .ok (.ireturn, 1) := by decide +kernel
theorem dX4_owes_0 : decode cX4_owes 0 = .ok (.iconst 0, 1) := by decide +kernel
theorem dX4_owes_1 : decode cX4_owes 1 = .ok (.istore_n 2, 1) := by decide +kernel
theorem dX4_owes_2 : decode cX4_owes 2 = .ok (.iconst 0, 1) := by decide +kernel
theorem dX4_owes_3 : decode cX4_owes 3 = .ok (.istore_n 3, 1) := by decide +kernel
theorem dX4_owes_4 : decode cX4_owes 4 = .ok (.iload_n 3, 1) := by decide +kernel
theorem dX4_owes_5 : decode cX4_owes 5 = .ok (.aload_n 0, 1) := by decide +kernel
theorem dX4_owes_6 : decode cX4_owes 6 = .ok (.getfield 34, 3) := by decide +kernel
theorem dX4_owes_9 : decode cX4_owes 9 = .ok (.if_icmp .ge 35, 3) := by decide +kernel
theorem dX4_owes_12 : decode cX4_owes 12 = .ok (.iload_n 2, 1) := by decide +kernel
theorem dX4_owes_13 : decode cX4_owes 13 = .ok (.aload_n 0, 1) := by decide +kernel
theorem dX4_owes_14 : decode cX4_owes 14 = .ok (.getfield 9, 3) := by decide +kernel
theorem dX4_owes_17 : decode cX4_owes 17 = .ok (.iload_n 3, 1) := by decide +kernel
theorem dX4_owes_18 : decode cX4_owes 18 = .ok (.iaload, 1) := by decide +kernel
theorem dX4_owes_19 : decode cX4_owes 19 = .ok (.iload_n 1, 1) := by decide +kernel
theorem dX4_owes_20 : decode cX4_owes 20 = .ok (.if_icmp .ne 15, 3) := by decide +kernel
theorem dX4_owes_23 : decode cX4_owes 23 = .ok (.aload_n 0, 1) := by decide +kernel
theorem dX4_owes_24 : decode cX4_owes 24 = .ok (.iload_n 3, 1) := by decide +kernel
theorem dX4_owes_25 : decode cX4_owes 25 = .ok (.invokevirtual 69, 3) := by decide +kernel
theorem dX4_owes_28 : decode cX4_owes 28 = .ok (.ifCond .eq 7, 3) := by decide +kernel
theorem dX4_owes_31 : decode cX4_owes 31 = .ok (.iconst 1, 1) := by decide +kernel
theorem dX4_owes_32 : decode cX4_owes 32 = .ok (.goto 4, 3) := by decide +kernel
theorem dX4_owes_35 : decode cX4_owes 35 = .ok (.iconst 0, 1) := by decide +kernel
theorem dX4_owes_36 : decode cX4_owes 36 = .ok (.iadd, 1) := by decide +kernel
theorem dX4_owes_37 : decode cX4_owes 37 = .ok (.istore_n 2, 1) := by decide +kernel
theorem dX4_owes_38 : decode cX4_owes 38 = .ok (.iinc 3 1, 3) := by decide +kernel
theorem dX4_owes_41 : decode cX4_owes 41 = .ok (.goto (-37), 3) := by decide +kernel
theorem dX4_owes_44 : decode cX4_owes 44 = .ok (.iload_n 2, 1) := by decide +kernel
theorem dX4_owes_45 : decode cX4_owes 45 = .ok (.ireturn, 1) := by decide +kernel
theorem dX4_owedBy_0 : decode cX4_owedBy 0 = .ok (.aload_n 0, 1) := by decide +kernel
theorem dX4_owedBy_1 : decode cX4_owedBy 1 = .ok (.iconst 0, 1) := by decide +kernel
theorem dX4_owedBy_2 : decode cX4_owedBy 2 = .ok (.putfield 26, 3) := by decide +kernel
theorem dX4_owedBy_5 : decode cX4_owedBy 5 = .ok (.iload_n 1, 1) := by decide +kernel
theorem dX4_owedBy_6 : decode cX4_owedBy 6 = .ok (.invokestatic 83, 3) := by decide +kernel
theorem dX4_owedBy_9 : decode cX4_owedBy 9 = .ok (.ifCond .eq 11, 3) := by decide +kernel
theorem dX4_owedBy_12 : decode cX4_owedBy 12 = .ok (.aload_n 0, 1) := by decide +kernel
theorem dX4_owedBy_13 : decode cX4_owedBy 13 = .ok (.iload_n 1, 1) := by decide +kernel
theorem dX4_owedBy_14 : decode cX4_owedBy 14 = .ok (.invokevirtual 127, 3) := by decide +kernel
theorem dX4_owedBy_17 : decode cX4_owedBy 17 = .ok (.goto 8, 3) := by decide +kernel
theorem dX4_owedBy_20 : decode cX4_owedBy 20 = .ok (.aload_n 0, 1) := by decide +kernel
theorem dX4_owedBy_21 : decode cX4_owedBy 21 = .ok (.iconst 1, 1) := by decide +kernel
theorem dX4_owedBy_22 : decode cX4_owedBy 22 = .ok (.invokevirtual 89, 3) := by decide +kernel
theorem dX4_owedBy_25 : decode cX4_owedBy 25 = .ok (.ireturn, 1) := by decide +kernel
theorem dX4_honour_0 : decode cX4_honour 0 = .ok (.iconst 0, 1) := by decide +kernel
theorem dX4_honour_1 : decode cX4_honour 1 = .ok (.istore_n 2, 1) := by decide +kernel
theorem dX4_honour_2 : decode cX4_honour 2 = .ok (.iconst 0, 1) := by decide +kernel
theorem dX4_honour_3 : decode cX4_honour 3 = .ok (.istore_n 3, 1) := by decide +kernel
theorem dX4_honour_4 : decode cX4_honour 4 = .ok (.iload_n 3, 1) := by decide +kernel
theorem dX4_honour_5 : decode cX4_honour 5 = .ok (.aload_n 0, 1) := by decide +kernel
theorem dX4_honour_6 : decode cX4_honour 6 = .ok (.getfield 34, 3) := by decide +kernel
theorem dX4_honour_9 : decode cX4_honour 9 = .ok (.if_icmp .ge 58, 3) := by decide +kernel
theorem dX4_honour_12 : decode cX4_honour 12 = .ok (.aload_n 0, 1) := by decide +kernel
theorem dX4_honour_13 : decode cX4_honour 13 = .ok (.getfield 9, 3) := by decide +kernel
theorem dX4_honour_16 : decode cX4_honour 16 = .ok (.iload_n 3, 1) := by decide +kernel
theorem dX4_honour_17 : decode cX4_honour 17 = .ok (.iaload, 1) := by decide +kernel
theorem dX4_honour_18 : decode cX4_honour 18 = .ok (.iload_n 1, 1) := by decide +kernel
theorem dX4_honour_19 : decode cX4_honour 19 = .ok (.if_icmp .eq 6, 3) := by decide +kernel
theorem dX4_honour_22 : decode cX4_honour 22 = .ok (.goto 39, 3) := by decide +kernel
theorem dX4_honour_25 : decode cX4_honour 25 = .ok (.aload_n 0, 1) := by decide +kernel
theorem dX4_honour_26 : decode cX4_honour 26 = .ok (.getfield 16, 3) := by decide +kernel
theorem dX4_honour_29 : decode cX4_honour 29 = .ok (.iload_n 3, 1) := by decide +kernel
theorem dX4_honour_30 : decode cX4_honour 30 = .ok (.iconst 4, 1) := by decide +kernel
theorem dX4_honour_31 : decode cX4_honour 31 = .ok (.invokestatic 37, 3) := by decide +kernel
theorem dX4_honour_34 : decode cX4_honour 34 = .ok (.iaload, 1) := by decide +kernel
theorem dX4_honour_35 : decode cX4_honour 35 = .ok (.istore 4, 2) := by decide +kernel
theorem dX4_honour_37 : decode cX4_honour 37 = .ok (.iload_n 2, 1) := by decide +kernel
theorem dX4_honour_38 : decode cX4_honour 38 = .ok (.iload 4, 2) := by decide +kernel
theorem dX4_honour_40 : decode cX4_honour 40 = .ok (.iconst 1, 1) := by decide +kernel
theorem dX4_honour_41 : decode cX4_honour 41 = .ok (.if_icmp .ne 7, 3) := by decide +kernel
theorem dX4_honour_44 : decode cX4_honour 44 = .ok (.iconst 1, 1) := by decide +kernel
theorem dX4_honour_45 : decode cX4_honour 45 = .ok (.goto 14, 3) := by decide +kernel
theorem dX4_honour_48 : decode cX4_honour 48 = .ok (.iload 4, 2) := by decide +kernel
theorem dX4_honour_50 : decode cX4_honour 50 = .ok (.iconst 2, 1) := by decide +kernel
theorem dX4_honour_51 : decode cX4_honour 51 = .ok (.if_icmp .ne 7, 3) := by decide +kernel
theorem dX4_honour_54 : decode cX4_honour 54 = .ok (.iconst (-1), 1) := by decide +kernel
theorem dX4_honour_55 : decode cX4_honour 55 = .ok (.goto 4, 3) := by decide +kernel
theorem dX4_honour_58 : decode cX4_honour 58 = .ok (.iconst 0, 1) := by decide +kernel
theorem dX4_honour_59 : decode cX4_honour 59 = .ok (.iadd, 1) := by decide +kernel
theorem dX4_honour_60 : decode cX4_honour 60 = .ok (.istore_n 2, 1) := by decide +kernel
theorem dX4_honour_61 : decode cX4_honour 61 = .ok (.iinc 3 1, 3) := by decide +kernel
theorem dX4_honour_64 : decode cX4_honour 64 = .ok (.goto (-60), 3) := by decide +kernel
theorem dX4_honour_67 : decode cX4_honour 67 = .ok (.iload_n 2, 1) := by decide +kernel
theorem dX4_honour_68 : decode cX4_honour 68 = .ok (.ireturn, 1) := by decide +kernel
theorem dX4_honourOf_0 : decode cX4_honourOf 0 = .ok (.aload_n 0, 1) := by decide +kernel
theorem dX4_honourOf_1 : decode cX4_honourOf 1 = .ok (.iconst 0, 1) := by decide +kernel
theorem dX4_honourOf_2 : decode cX4_honourOf 2 = .ok (.putfield 26, 3) := by decide +kernel
theorem dX4_honourOf_5 : decode cX4_honourOf 5 = .ok (.iload_n 1, 1) := by decide +kernel
theorem dX4_honourOf_6 : decode cX4_honourOf 6 = .ok (.invokestatic 83, 3) := by decide +kernel
theorem dX4_honourOf_9 : decode cX4_honourOf 9 = .ok (.ifCond .eq 11, 3) := by decide +kernel
theorem dX4_honourOf_12 : decode cX4_honourOf 12 = .ok (.aload_n 0, 1) := by decide +kernel
theorem dX4_honourOf_13 : decode cX4_honourOf 13 = .ok (.iload_n 1, 1) := by decide +kernel
theorem dX4_honourOf_14 : decode cX4_honourOf 14 = .ok (.invokevirtual 130, 3) := by decide +kernel
theorem dX4_honourOf_17 : decode cX4_honourOf 17 = .ok (.goto 8, 3) := by decide +kernel
theorem dX4_honourOf_20 : decode cX4_honourOf 20 = .ok (.aload_n 0, 1) := by decide +kernel
theorem dX4_honourOf_21 : decode cX4_honourOf 21 = .ok (.iconst 1, 1) := by decide +kernel
theorem dX4_honourOf_22 : decode cX4_honourOf 22 = .ok (.invokevirtual 89, 3) := by decide +kernel
theorem dX4_honourOf_25 : decode cX4_honourOf 25 = .ok (.ireturn, 1) := by decide +kernel
theorem dX4_most_0 : decode cX4_most 0 = .ok (.iconst 0, 1) := by decide +kernel
theorem dX4_most_1 : decode cX4_most 1 = .ok (.istore_n 1, 1) := by decide +kernel
theorem dX4_most_2 : decode cX4_most 2 = .ok (.iconst 1, 1) := by decide +kernel
theorem dX4_most_3 : decode cX4_most 3 = .ok (.istore_n 2, 1) := by decide +kernel
theorem dX4_most_4 : decode cX4_most 4 = .ok (.iload_n 2, 1) := by decide +kernel
theorem dX4_most_5 : decode cX4_most 5 = .ok (.bipush 6, 2) := by decide +kernel
theorem dX4_most_7 : decode cX4_most 7 = .ok (.if_icmp .ge 24, 3) := by decide +kernel
theorem dX4_most_10 : decode cX4_most 10 = .ok (.aload_n 0, 1) := by decide +kernel
theorem dX4_most_11 : decode cX4_most 11 = .ok (.iload_n 2, 1) := by decide +kernel
theorem dX4_most_12 : decode cX4_most 12 = .ok (.invokevirtual 130, 3) := by decide +kernel
theorem dX4_most_15 : decode cX4_most 15 = .ok (.aload_n 0, 1) := by decide +kernel
theorem dX4_most_16 : decode cX4_most 16 = .ok (.iload_n 1, 1) := by decide +kernel
theorem dX4_most_17 : decode cX4_most 17 = .ok (.invokevirtual 130, 3) := by decide +kernel
theorem dX4_most_20 : decode cX4_most 20 = .ok (.if_icmp .le 5, 3) := by decide +kernel
theorem dX4_most_23 : decode cX4_most 23 = .ok (.iload_n 2, 1) := by decide +kernel
theorem dX4_most_24 : decode cX4_most 24 = .ok (.istore_n 1, 1) := by decide +kernel
theorem dX4_most_25 : decode cX4_most 25 = .ok (.iinc 2 1, 3) := by decide +kernel
theorem dX4_most_28 : decode cX4_most 28 = .ok (.goto (-24), 3) := by decide +kernel
theorem dX4_most_31 : decode cX4_most 31 = .ok (.iload_n 1, 1) := by decide +kernel
theorem dX4_most_32 : decode cX4_most 32 = .ok (.ireturn, 1) := by decide +kernel
theorem dX4_mostHonourable_0 : decode cX4_mostHonourable 0 = .ok (.aload_n 0, 1) := by decide +kernel
theorem dX4_mostHonourable_1 : decode cX4_mostHonourable 1 = .ok (.aload_n 0, 1) := by decide +kernel
theorem dX4_mostHonourable_2 : decode cX4_mostHonourable 2 = .ok (.invokevirtual 133, 3) := by decide +kernel
theorem dX4_mostHonourable_5 : decode cX4_mostHonourable 5 = .ok (.invokevirtual 105, 3) := by decide +kernel
theorem dX4_mostHonourable_8 : decode cX4_mostHonourable 8 = .ok (.ireturn, 1) := by decide +kernel
theorem dX4_until_0 : decode cX4_until 0 = .ok (.aload_n 0, 1) := by decide +kernel
theorem dX4_until_1 : decode cX4_until 1 = .ok (.invokevirtual 136, 3) := by decide +kernel
theorem dX4_until_4 : decode cX4_until 4 = .ok (.iconst (-1), 1) := by decide +kernel
theorem dX4_until_5 : decode cX4_until 5 = .ok (.istore_n 3, 1) := by decide +kernel
theorem dX4_until_6 : decode cX4_until 6 = .ok (.iconst 0, 1) := by decide +kernel
theorem dX4_until_7 : decode cX4_until 7 = .ok (.istore 4, 2) := by decide +kernel
theorem dX4_until_9 : decode cX4_until 9 = .ok (.iload 4, 2) := by decide +kernel
theorem dX4_until_11 : decode cX4_until 11 = .ok (.sipush 200, 3) := by decide +kernel
theorem dX4_until_14 : decode cX4_until 14 = .ok (.if_icmp .gt 63, 3) := by decide +kernel
theorem dX4_until_17 : decode cX4_until 17 = .ok (.iload_n 3, 1) := by decide +kernel
theorem dX4_until_18 : decode cX4_until 18 = .ok (.iconst (-1), 1) := by decide +kernel
theorem dX4_until_19 : decode cX4_until 19 = .ok (.if_icmp .ne 58, 3) := by decide +kernel
theorem dX4_until_22 : decode cX4_until 22 = .ok (.iload_n 2, 1) := by decide +kernel
theorem dX4_until_23 : decode cX4_until 23 = .ok (.bipush 11, 2) := by decide +kernel
theorem dX4_until_25 : decode cX4_until 25 = .ok (.if_icmp .ne 25, 3) := by decide +kernel
theorem dX4_until_28 : decode cX4_until 28 = .ok (.aload_n 0, 1) := by decide +kernel
theorem dX4_until_29 : decode cX4_until 29 = .ok (.getfield 16, 3) := by decide +kernel
theorem dX4_until_32 : decode cX4_until 32 = .ok (.iload_n 1, 1) := by decide +kernel
theorem dX4_until_33 : decode cX4_until 33 = .ok (.iconst 4, 1) := by decide +kernel
theorem dX4_until_34 : decode cX4_until 34 = .ok (.invokestatic 37, 3) := by decide +kernel
theorem dX4_until_37 : decode cX4_until 37 = .ok (.iaload, 1) := by decide +kernel
theorem dX4_until_38 : decode cX4_until 38 = .ok (.iconst 2, 1) := by decide +kernel
theorem dX4_until_39 : decode cX4_until 39 = .ok (.if_icmp .ne 7, 3) := by decide +kernel
theorem dX4_until_42 : decode cX4_until 42 = .ok (.iconst 1, 1) := by decide +kernel
theorem dX4_until_43 : decode cX4_until 43 = .ok (.goto 13, 3) := by decide +kernel
theorem dX4_until_46 : decode cX4_until 46 = .ok (.iconst 0, 1) := by decide +kernel
theorem dX4_until_47 : decode cX4_until 47 = .ok (.goto 9, 3) := by decide +kernel
theorem dX4_until_50 : decode cX4_until 50 = .ok (.aload_n 0, 1) := by decide +kernel
theorem dX4_until_51 : decode cX4_until 51 = .ok (.iload_n 1, 1) := by decide +kernel
theorem dX4_until_52 : decode cX4_until 52 = .ok (.iload_n 2, 1) := by decide +kernel
theorem dX4_until_53 : decode cX4_until 53 = .ok (.invokevirtual 120, 3) := by decide +kernel
theorem dX4_until_56 : decode cX4_until 56 = .ok (.istore 5, 2) := by decide +kernel
theorem dX4_until_58 : decode cX4_until 58 = .ok (.iload 5, 2) := by decide +kernel
theorem dX4_until_60 : decode cX4_until 60 = .ok (.ifCond .eq 6, 3) := by decide +kernel
theorem dX4_until_63 : decode cX4_until 63 = .ok (.iload 4, 2) := by decide +kernel
theorem dX4_until_65 : decode cX4_until 65 = .ok (.istore_n 3, 1) := by decide +kernel
theorem dX4_until_66 : decode cX4_until 66 = .ok (.aload_n 0, 1) := by decide +kernel
theorem dX4_until_67 : decode cX4_until 67 = .ok (.invokevirtual 79, 3) := by decide +kernel
theorem dX4_until_70 : decode cX4_until 70 = .ok (.pop, 1) := by decide +kernel
theorem dX4_until_71 : decode cX4_until 71 = .ok (.iinc 4 1, 3) := by decide +kernel
theorem dX4_until_74 : decode cX4_until 74 = .ok (.goto (-65), 3) := by decide +kernel
theorem dX4_until_77 : decode cX4_until 77 = .ok (.aload_n 0, 1) := by decide +kernel
theorem dX4_until_78 : decode cX4_until 78 = .ok (.invokevirtual 139, 3) := by decide +kernel
theorem dX4_until_81 : decode cX4_until 81 = .ok (.iload_n 3, 1) := by decide +kernel
theorem dX4_until_82 : decode cX4_until 82 = .ok (.ireturn, 1) := by decide +kernel
theorem dX4_hoursUntilFrozen_0 : decode cX4_hoursUntilFrozen 0 = .ok (.aload_n 0, 1) := by decide +kernel
theorem dX4_hoursUntilFrozen_1 : decode cX4_hoursUntilFrozen 1 = .ok (.iconst 0, 1) := by decide +kernel
theorem dX4_hoursUntilFrozen_2 : decode cX4_hoursUntilFrozen 2 = .ok (.putfield 26, 3) := by decide +kernel
theorem dX4_hoursUntilFrozen_5 : decode cX4_hoursUntilFrozen 5 = .ok (.aload_n 0, 1) := by decide +kernel
theorem dX4_hoursUntilFrozen_6 : decode cX4_hoursUntilFrozen 6 = .ok (.iload_n 1, 1) := by decide +kernel
theorem dX4_hoursUntilFrozen_7 : decode cX4_hoursUntilFrozen 7 = .ok (.invokevirtual 96, 3) := by decide +kernel
theorem dX4_hoursUntilFrozen_10 : decode cX4_hoursUntilFrozen 10 = .ok (.ifCond .eq 12, 3) := by decide +kernel
theorem dX4_hoursUntilFrozen_13 : decode cX4_hoursUntilFrozen 13 = .ok (.aload_n 0, 1) := by decide +kernel
theorem dX4_hoursUntilFrozen_14 : decode cX4_hoursUntilFrozen 14 = .ok (.iload_n 1, 1) := by decide +kernel
theorem dX4_hoursUntilFrozen_15 : decode cX4_hoursUntilFrozen 15 = .ok (.iconst 1, 1) := by decide +kernel
theorem dX4_hoursUntilFrozen_16 : decode cX4_hoursUntilFrozen 16 = .ok (.invokevirtual 142, 3) := by decide +kernel
theorem dX4_hoursUntilFrozen_19 : decode cX4_hoursUntilFrozen 19 = .ok (.goto 8, 3) := by decide +kernel
theorem dX4_hoursUntilFrozen_22 : decode cX4_hoursUntilFrozen 22 = .ok (.aload_n 0, 1) := by decide +kernel
theorem dX4_hoursUntilFrozen_23 : decode cX4_hoursUntilFrozen 23 = .ok (.iconst 1, 1) := by decide +kernel
theorem dX4_hoursUntilFrozen_24 : decode cX4_hoursUntilFrozen 24 = .ok (.invokevirtual 89, 3) := by decide +kernel
theorem dX4_hoursUntilFrozen_27 : decode cX4_hoursUntilFrozen 27 = .ok (.ireturn, 1) := by decide +kernel
theorem dX4_hoursUntilThawed_0 : decode cX4_hoursUntilThawed 0 = .ok (.aload_n 0, 1) := by decide +kernel
theorem dX4_hoursUntilThawed_1 : decode cX4_hoursUntilThawed 1 = .ok (.iconst 0, 1) := by decide +kernel
theorem dX4_hoursUntilThawed_2 : decode cX4_hoursUntilThawed 2 = .ok (.putfield 26, 3) := by decide +kernel
theorem dX4_hoursUntilThawed_5 : decode cX4_hoursUntilThawed 5 = .ok (.aload_n 0, 1) := by decide +kernel
theorem dX4_hoursUntilThawed_6 : decode cX4_hoursUntilThawed 6 = .ok (.iload_n 1, 1) := by decide +kernel
theorem dX4_hoursUntilThawed_7 : decode cX4_hoursUntilThawed 7 = .ok (.invokevirtual 96, 3) := by decide +kernel
theorem dX4_hoursUntilThawed_10 : decode cX4_hoursUntilThawed 10 = .ok (.ifCond .eq 12, 3) := by decide +kernel
theorem dX4_hoursUntilThawed_13 : decode cX4_hoursUntilThawed 13 = .ok (.aload_n 0, 1) := by decide +kernel
theorem dX4_hoursUntilThawed_14 : decode cX4_hoursUntilThawed 14 = .ok (.iload_n 1, 1) := by decide +kernel
theorem dX4_hoursUntilThawed_15 : decode cX4_hoursUntilThawed 15 = .ok (.iconst 2, 1) := by decide +kernel
theorem dX4_hoursUntilThawed_16 : decode cX4_hoursUntilThawed 16 = .ok (.invokevirtual 142, 3) := by decide +kernel
theorem dX4_hoursUntilThawed_19 : decode cX4_hoursUntilThawed 19 = .ok (.goto 8, 3) := by decide +kernel
theorem dX4_hoursUntilThawed_22 : decode cX4_hoursUntilThawed 22 = .ok (.aload_n 0, 1) := by decide +kernel
theorem dX4_hoursUntilThawed_23 : decode cX4_hoursUntilThawed 23 = .ok (.iconst 1, 1) := by decide +kernel
theorem dX4_hoursUntilThawed_24 : decode cX4_hoursUntilThawed 24 = .ok (.invokevirtual 89, 3) := by decide +kernel
theorem dX4_hoursUntilThawed_27 : decode cX4_hoursUntilThawed 27 = .ok (.ireturn, 1) := by decide +kernel
theorem dX4_hoursUntilExpired_0 : decode cX4_hoursUntilExpired 0 = .ok (.aload_n 0, 1) := by decide +kernel
theorem dX4_hoursUntilExpired_1 : decode cX4_hoursUntilExpired 1 = .ok (.iconst 0, 1) := by decide +kernel
theorem dX4_hoursUntilExpired_2 : decode cX4_hoursUntilExpired 2 = .ok (.putfield 26, 3) := by decide +kernel
theorem dX4_hoursUntilExpired_5 : decode cX4_hoursUntilExpired 5 = .ok (.aload_n 0, 1) := by decide +kernel
theorem dX4_hoursUntilExpired_6 : decode cX4_hoursUntilExpired 6 = .ok (.iload_n 1, 1) := by decide +kernel
theorem dX4_hoursUntilExpired_7 : decode cX4_hoursUntilExpired 7 = .ok (.invokevirtual 96, 3) := by decide +kernel
theorem dX4_hoursUntilExpired_10 : decode cX4_hoursUntilExpired 10 = .ok (.ifCond .eq 13, 3) := by decide +kernel
theorem dX4_hoursUntilExpired_13 : decode cX4_hoursUntilExpired 13 = .ok (.aload_n 0, 1) := by decide +kernel
theorem dX4_hoursUntilExpired_14 : decode cX4_hoursUntilExpired 14 = .ok (.iload_n 1, 1) := by decide +kernel
theorem dX4_hoursUntilExpired_15 : decode cX4_hoursUntilExpired 15 = .ok (.bipush 11, 2) := by decide +kernel
theorem dX4_hoursUntilExpired_17 : decode cX4_hoursUntilExpired 17 = .ok (.invokevirtual 142, 3) := by decide +kernel
theorem dX4_hoursUntilExpired_20 : decode cX4_hoursUntilExpired 20 = .ok (.goto 8, 3) := by decide +kernel
theorem dX4_hoursUntilExpired_23 : decode cX4_hoursUntilExpired 23 = .ok (.aload_n 0, 1) := by decide +kernel
theorem dX4_hoursUntilExpired_24 : decode cX4_hoursUntilExpired 24 = .ok (.iconst 1, 1) := by decide +kernel
theorem dX4_hoursUntilExpired_25 : decode cX4_hoursUntilExpired 25 = .ok (.invokevirtual 89, 3) := by decide +kernel
theorem dX4_hoursUntilExpired_28 : decode cX4_hoursUntilExpired 28 = .ok (.ireturn, 1) := by decide +kernel
theorem dX4_leftIn_0 : decode cX4_leftIn 0 = .ok (.aload_n 0, 1) := by decide +kernel
theorem dX4_leftIn_1 : decode cX4_leftIn 1 = .ok (.iconst 0, 1) := by decide +kernel
theorem dX4_leftIn_2 : decode cX4_leftIn 2 = .ok (.putfield 26, 3) := by decide +kernel
theorem dX4_leftIn_5 : decode cX4_leftIn 5 = .ok (.iload_n 1, 1) := by decide +kernel
theorem dX4_leftIn_6 : decode cX4_leftIn 6 = .ok (.iconst 1, 1) := by decide +kernel
theorem dX4_leftIn_7 : decode cX4_leftIn 7 = .ok (.bipush 100, 2) := by decide +kernel
theorem dX4_leftIn_9 : decode cX4_leftIn 9 = .ok (.invokestatic 30, 3) := by decide +kernel
theorem dX4_leftIn_12 : decode cX4_leftIn 12 = .ok (.ifCond .ne 9, 3) := by decide +kernel
theorem dX4_leftIn_15 : decode cX4_leftIn 15 = .ok (.aload_n 0, 1) := by decide +kernel
theorem dX4_leftIn_16 : decode cX4_leftIn 16 = .ok (.iconst 1, 1) := by decide +kernel
theorem dX4_leftIn_17 : decode cX4_leftIn 17 = .ok (.invokevirtual 89, 3) := by decide +kernel
theorem dX4_leftIn_20 : decode cX4_leftIn 20 = .ok (.ireturn, 1) := by decide +kernel
theorem dX4_leftIn_21 : decode cX4_leftIn 21 = .ok (.aload_n 0, 1) := by decide +kernel
theorem dX4_leftIn_22 : decode cX4_leftIn 22 = .ok (.invokevirtual 136, 3) := by decide +kernel
theorem dX4_leftIn_25 : decode cX4_leftIn 25 = .ok (.aload_n 0, 1) := by decide +kernel
theorem dX4_leftIn_26 : decode cX4_leftIn 26 = .ok (.iload_n 1, 1) := by decide +kernel
theorem dX4_leftIn_27 : decode cX4_leftIn 27 = .ok (.invokevirtual 102, 3) := by decide +kernel
theorem dX4_leftIn_30 : decode cX4_leftIn 30 = .ok (.pop, 1) := by decide +kernel
theorem dX4_leftIn_31 : decode cX4_leftIn 31 = .ok (.iconst 0, 1) := by decide +kernel
theorem dX4_leftIn_32 : decode cX4_leftIn 32 = .ok (.istore_n 2, 1) := by decide +kernel
theorem dX4_leftIn_33 : decode cX4_leftIn 33 = .ok (.iconst 0, 1) := by decide +kernel
theorem dX4_leftIn_34 : decode cX4_leftIn 34 = .ok (.istore_n 3, 1) := by decide +kernel
theorem dX4_leftIn_35 : decode cX4_leftIn 35 = .ok (.iload_n 3, 1) := by decide +kernel
theorem dX4_leftIn_36 : decode cX4_leftIn 36 = .ok (.aload_n 0, 1) := by decide +kernel
theorem dX4_leftIn_37 : decode cX4_leftIn 37 = .ok (.getfield 34, 3) := by decide +kernel
theorem dX4_leftIn_40 : decode cX4_leftIn 40 = .ok (.if_icmp .ge 25, 3) := by decide +kernel
theorem dX4_leftIn_43 : decode cX4_leftIn 43 = .ok (.iload_n 2, 1) := by decide +kernel
theorem dX4_leftIn_44 : decode cX4_leftIn 44 = .ok (.aload_n 0, 1) := by decide +kernel
theorem dX4_leftIn_45 : decode cX4_leftIn 45 = .ok (.iload_n 3, 1) := by decide +kernel
theorem dX4_leftIn_46 : decode cX4_leftIn 46 = .ok (.invokevirtual 69, 3) := by decide +kernel
theorem dX4_leftIn_49 : decode cX4_leftIn 49 = .ok (.ifCond .eq 7, 3) := by decide +kernel
theorem dX4_leftIn_52 : decode cX4_leftIn 52 = .ok (.iconst 1, 1) := by decide +kernel
theorem dX4_leftIn_53 : decode cX4_leftIn 53 = .ok (.goto 4, 3) := by decide +kernel
theorem dX4_leftIn_56 : decode cX4_leftIn 56 = .ok (.iconst 0, 1) := by decide +kernel
theorem dX4_leftIn_57 : decode cX4_leftIn 57 = .ok (.iadd, 1) := by decide +kernel
theorem dX4_leftIn_58 : decode cX4_leftIn 58 = .ok (.istore_n 2, 1) := by decide +kernel
theorem dX4_leftIn_59 : decode cX4_leftIn 59 = .ok (.iinc 3 1, 3) := by decide +kernel
theorem dX4_leftIn_62 : decode cX4_leftIn 62 = .ok (.goto (-27), 3) := by decide +kernel
theorem dX4_leftIn_65 : decode cX4_leftIn 65 = .ok (.aload_n 0, 1) := by decide +kernel
theorem dX4_leftIn_66 : decode cX4_leftIn 66 = .ok (.invokevirtual 139, 3) := by decide +kernel
theorem dX4_leftIn_69 : decode cX4_leftIn 69 = .ok (.iload_n 2, 1) := by decide +kernel
theorem dX4_leftIn_70 : decode cX4_leftIn 70 = .ok (.ireturn, 1) := by decide +kernel
theorem dX4_freezesOn_0 : decode cX4_freezesOn 0 = .ok (.aload_n 0, 1) := by decide +kernel
theorem dX4_freezesOn_1 : decode cX4_freezesOn 1 = .ok (.invokevirtual 136, 3) := by decide +kernel
theorem dX4_freezesOn_4 : decode cX4_freezesOn 4 = .ok (.aload_n 0, 1) := by decide +kernel
theorem dX4_freezesOn_5 : decode cX4_freezesOn 5 = .ok (.iconst 0, 1) := by decide +kernel
theorem dX4_freezesOn_6 : decode cX4_freezesOn 6 = .ok (.bipush 100, 2) := by decide +kernel
theorem dX4_freezesOn_8 : decode cX4_freezesOn 8 = .ok (.iload_n 1, 1) := by decide +kernel
theorem dX4_freezesOn_9 : decode cX4_freezesOn 9 = .ok (.invokevirtual 92, 3) := by decide +kernel
theorem dX4_freezesOn_12 : decode cX4_freezesOn 12 = .ok (.aload_n 0, 1) := by decide +kernel
theorem dX4_freezesOn_13 : decode cX4_freezesOn 13 = .ok (.getfield 34, 3) := by decide +kernel
theorem dX4_freezesOn_16 : decode cX4_freezesOn 16 = .ok (.iconst 1, 1) := by decide +kernel
theorem dX4_freezesOn_17 : decode cX4_freezesOn 17 = .ok (.isub, 1) := by decide +kernel
theorem dX4_freezesOn_18 : decode cX4_freezesOn 18 = .ok (.istore_n 2, 1) := by decide +kernel
theorem dX4_freezesOn_19 : decode cX4_freezesOn 19 = .ok (.iconst 0, 1) := by decide +kernel
theorem dX4_freezesOn_20 : decode cX4_freezesOn 20 = .ok (.istore_n 3, 1) := by decide +kernel
theorem dX4_freezesOn_21 : decode cX4_freezesOn 21 = .ok (.iload_n 3, 1) := by decide +kernel
theorem dX4_freezesOn_22 : decode cX4_freezesOn 22 = .ok (.sipush 200, 3) := by decide +kernel
theorem dX4_freezesOn_25 : decode cX4_freezesOn 25 = .ok (.if_icmp .gt 23, 3) := by decide +kernel
theorem dX4_freezesOn_28 : decode cX4_freezesOn 28 = .ok (.aload_n 0, 1) := by decide +kernel
theorem dX4_freezesOn_29 : decode cX4_freezesOn 29 = .ok (.iload_n 2, 1) := by decide +kernel
theorem dX4_freezesOn_30 : decode cX4_freezesOn 30 = .ok (.iconst 1, 1) := by decide +kernel
theorem dX4_freezesOn_31 : decode cX4_freezesOn 31 = .ok (.invokevirtual 120, 3) := by decide +kernel
theorem dX4_freezesOn_34 : decode cX4_freezesOn 34 = .ok (.ifCond .ne 14, 3) := by decide +kernel
theorem dX4_freezesOn_37 : decode cX4_freezesOn 37 = .ok (.aload_n 0, 1) := by decide +kernel
theorem dX4_freezesOn_38 : decode cX4_freezesOn 38 = .ok (.invokevirtual 79, 3) := by decide +kernel
theorem dX4_freezesOn_41 : decode cX4_freezesOn 41 = .ok (.pop, 1) := by decide +kernel
theorem dX4_freezesOn_42 : decode cX4_freezesOn 42 = .ok (.iinc 3 1, 3) := by decide +kernel
theorem dX4_freezesOn_45 : decode cX4_freezesOn 45 = .ok (.goto (-24), 3) := by decide +kernel
theorem dX4_freezesOn_48 : decode cX4_freezesOn 48 = .ok (.aload_n 0, 1) := by decide +kernel
theorem dX4_freezesOn_49 : decode cX4_freezesOn 49 = .ok (.dup, 1) := by decide +kernel
theorem dX4_freezesOn_50 : decode cX4_freezesOn 50 = .ok (.getfield 34, 3) := by decide +kernel
theorem dX4_freezesOn_53 : decode cX4_freezesOn 53 = .ok (.iconst 1, 1) := by decide +kernel
theorem dX4_freezesOn_54 : decode cX4_freezesOn 54 = .ok (.isub, 1) := by decide +kernel
theorem dX4_freezesOn_55 : decode cX4_freezesOn 55 = .ok (.putfield 34, 3) := by decide +kernel
theorem dX4_freezesOn_58 : decode cX4_freezesOn 58 = .ok (.aload_n 0, 1) := by decide +kernel
theorem dX4_freezesOn_59 : decode cX4_freezesOn 59 = .ok (.invokevirtual 139, 3) := by decide +kernel
theorem dX4_freezesOn_62 : decode cX4_freezesOn 62 = .ok (.iload_n 3, 1) := by decide +kernel
theorem dX4_freezesOn_63 : decode cX4_freezesOn 63 = .ok (.sipush 200, 3) := by decide +kernel
theorem dX4_freezesOn_66 : decode cX4_freezesOn 66 = .ok (.if_icmp .le 7, 3) := by decide +kernel
theorem dX4_freezesOn_69 : decode cX4_freezesOn 69 = .ok (.iconst (-1), 1) := by decide +kernel
theorem dX4_freezesOn_70 : decode cX4_freezesOn 70 = .ok (.goto 4, 3) := by decide +kernel
theorem dX4_freezesOn_73 : decode cX4_freezesOn 73 = .ok (.iload_n 3, 1) := by decide +kernel
theorem dX4_freezesOn_74 : decode cX4_freezesOn 74 = .ok (.ireturn, 1) := by decide +kernel
theorem dX4_best_0 : decode cX4_best 0 = .ok (.iconst (-1), 1) := by decide +kernel
theorem dX4_best_1 : decode cX4_best 1 = .ok (.istore_n 1, 1) := by decide +kernel
theorem dX4_best_2 : decode cX4_best 2 = .ok (.sipush 201, 3) := by decide +kernel
theorem dX4_best_5 : decode cX4_best 5 = .ok (.istore_n 2, 1) := by decide +kernel
theorem dX4_best_6 : decode cX4_best 6 = .ok (.iconst 0, 1) := by decide +kernel
theorem dX4_best_7 : decode cX4_best 7 = .ok (.istore_n 3, 1) := by decide +kernel
theorem dX4_best_8 : decode cX4_best 8 = .ok (.iload_n 3, 1) := by decide +kernel
theorem dX4_best_9 : decode cX4_best 9 = .ok (.iconst 5, 1) := by decide +kernel
theorem dX4_best_10 : decode cX4_best 10 = .ok (.if_icmp .ge 45, 3) := by decide +kernel
theorem dX4_best_13 : decode cX4_best 13 = .ok (.aload_n 0, 1) := by decide +kernel
theorem dX4_best_14 : decode cX4_best 14 = .ok (.getfield 34, 3) := by decide +kernel
theorem dX4_best_17 : decode cX4_best 17 = .ok (.bipush 20, 2) := by decide +kernel
theorem dX4_best_19 : decode cX4_best 19 = .ok (.if_icmp .ge 36, 3) := by decide +kernel
theorem dX4_best_22 : decode cX4_best 22 = .ok (.aload_n 0, 1) := by decide +kernel
theorem dX4_best_23 : decode cX4_best 23 = .ok (.iload_n 3, 1) := by decide +kernel
theorem dX4_best_24 : decode cX4_best 24 = .ok (.invokevirtual 145, 3) := by decide +kernel
theorem dX4_best_27 : decode cX4_best 27 = .ok (.istore 4, 2) := by decide +kernel
theorem dX4_best_29 : decode cX4_best 29 = .ok (.iload 4, 2) := by decide +kernel
theorem dX4_best_31 : decode cX4_best 31 = .ok (.iconst (-1), 1) := by decide +kernel
theorem dX4_best_32 : decode cX4_best 32 = .ok (.if_icmp .eq 17, 3) := by decide +kernel
theorem dX4_best_35 : decode cX4_best 35 = .ok (.iload 4, 2) := by decide +kernel
theorem dX4_best_37 : decode cX4_best 37 = .ok (.iload_n 2, 1) := by decide +kernel
theorem dX4_best_38 : decode cX4_best 38 = .ok (.if_icmp .lt 6, 3) := by decide +kernel
theorem dX4_best_41 : decode cX4_best 41 = .ok (.goto 8, 3) := by decide +kernel
theorem dX4_best_44 : decode cX4_best 44 = .ok (.iload_n 3, 1) := by decide +kernel
theorem dX4_best_45 : decode cX4_best 45 = .ok (.istore_n 1, 1) := by decide +kernel
theorem dX4_best_46 : decode cX4_best 46 = .ok (.iload 4, 2) := by decide +kernel
theorem dX4_best_48 : decode cX4_best 48 = .ok (.istore_n 2, 1) := by decide +kernel
theorem dX4_best_49 : decode cX4_best 49 = .ok (.iinc 3 1, 3) := by decide +kernel
theorem dX4_best_52 : decode cX4_best 52 = .ok (.goto (-44), 3) := by decide +kernel
theorem dX4_best_55 : decode cX4_best 55 = .ok (.iload_n 1, 1) := by decide +kernel
theorem dX4_best_56 : decode cX4_best 56 = .ok (.ireturn, 1) := by decide +kernel
theorem dX4_bestShelf_0 : decode cX4_bestShelf 0 = .ok (.aload_n 0, 1) := by decide +kernel
theorem dX4_bestShelf_1 : decode cX4_bestShelf 1 = .ok (.aload_n 0, 1) := by decide +kernel
theorem dX4_bestShelf_2 : decode cX4_bestShelf 2 = .ok (.invokevirtual 148, 3) := by decide +kernel
theorem dX4_bestShelf_5 : decode cX4_bestShelf 5 = .ok (.invokevirtual 105, 3) := by decide +kernel
theorem dX4_bestShelf_8 : decode cX4_bestShelf 8 = .ok (.ireturn, 1) := by decide +kernel
theorem dX4_cold_0 : decode cX4_cold 0 = .ok (.aload_n 0, 1) := by decide +kernel
theorem dX4_cold_1 : decode cX4_cold 1 = .ok (.invokevirtual 136, 3) := by decide +kernel
theorem dX4_cold_4 : decode cX4_cold 4 = .ok (.aload_n 0, 1) := by decide +kernel
theorem dX4_cold_5 : decode cX4_cold 5 = .ok (.getfield 16, 3) := by decide +kernel
theorem dX4_cold_8 : decode cX4_cold 8 = .ok (.iconst 1, 1) := by decide +kernel
theorem dX4_cold_9 : decode cX4_cold 9 = .ok (.iconst 0, 1) := by decide +kernel
theorem dX4_cold_10 : decode cX4_cold 10 = .ok (.iastore, 1) := by decide +kernel
theorem dX4_cold_11 : decode cX4_cold 11 = .ok (.iconst (-1), 1) := by decide +kernel
theorem dX4_cold_12 : decode cX4_cold 12 = .ok (.istore_n 1, 1) := by decide +kernel
theorem dX4_cold_13 : decode cX4_cold 13 = .ok (.iconst 1, 1) := by decide +kernel
theorem dX4_cold_14 : decode cX4_cold 14 = .ok (.istore_n 2, 1) := by decide +kernel
theorem dX4_cold_15 : decode cX4_cold 15 = .ok (.iload_n 2, 1) := by decide +kernel
theorem dX4_cold_16 : decode cX4_cold 16 = .ok (.sipush 200, 3) := by decide +kernel
theorem dX4_cold_19 : decode cX4_cold 19 = .ok (.if_icmp .gt 23, 3) := by decide +kernel
theorem dX4_cold_22 : decode cX4_cold 22 = .ok (.iload_n 1, 1) := by decide +kernel
theorem dX4_cold_23 : decode cX4_cold 23 = .ok (.iconst (-1), 1) := by decide +kernel
theorem dX4_cold_24 : decode cX4_cold 24 = .ok (.if_icmp .ne 18, 3) := by decide +kernel
theorem dX4_cold_27 : decode cX4_cold 27 = .ok (.aload_n 0, 1) := by decide +kernel
theorem dX4_cold_28 : decode cX4_cold 28 = .ok (.invokevirtual 79, 3) := by decide +kernel
theorem dX4_cold_31 : decode cX4_cold 31 = .ok (.ifCond .le 5, 3) := by decide +kernel
theorem dX4_cold_34 : decode cX4_cold 34 = .ok (.iload_n 2, 1) := by decide +kernel
theorem dX4_cold_35 : decode cX4_cold 35 = .ok (.istore_n 1, 1) := by decide +kernel
theorem dX4_cold_36 : decode cX4_cold 36 = .ok (.iinc 2 1, 3) := by decide +kernel
theorem dX4_cold_39 : decode cX4_cold 39 = .ok (.goto (-24), 3) := by decide +kernel
theorem dX4_cold_42 : decode cX4_cold 42 = .ok (.aload_n 0, 1) := by decide +kernel
theorem dX4_cold_43 : decode cX4_cold 43 = .ok (.invokevirtual 139, 3) := by decide +kernel
theorem dX4_cold_46 : decode cX4_cold 46 = .ok (.iload_n 1, 1) := by decide +kernel
theorem dX4_cold_47 : decode cX4_cold 47 = .ok (.ireturn, 1) := by decide +kernel
theorem dX4_hoursOfCold_0 : decode cX4_hoursOfCold 0 = .ok (.aload_n 0, 1) := by decide +kernel
theorem dX4_hoursOfCold_1 : decode cX4_hoursOfCold 1 = .ok (.aload_n 0, 1) := by decide +kernel
theorem dX4_hoursOfCold_2 : decode cX4_hoursOfCold 2 = .ok (.invokevirtual 151, 3) := by decide +kernel
theorem dX4_hoursOfCold_5 : decode cX4_hoursOfCold 5 = .ok (.invokevirtual 105, 3) := by decide +kernel
theorem dX4_hoursOfCold_8 : decode cX4_hoursOfCold 8 = .ok (.ireturn, 1) := by decide +kernel
theorem dX4_meanHeat_0 : decode cX4_meanHeat 0 = .ok (.aload_n 0, 1) := by decide +kernel
theorem dX4_meanHeat_1 : decode cX4_meanHeat 1 = .ok (.iconst 0, 1) := by decide +kernel
theorem dX4_meanHeat_2 : decode cX4_meanHeat 2 = .ok (.putfield 26, 3) := by decide +kernel
theorem dX4_meanHeat_5 : decode cX4_meanHeat 5 = .ok (.iconst 0, 1) := by decide +kernel
theorem dX4_meanHeat_6 : decode cX4_meanHeat 6 = .ok (.istore_n 1, 1) := by decide +kernel
theorem dX4_meanHeat_7 : decode cX4_meanHeat 7 = .ok (.iconst 0, 1) := by decide +kernel
theorem dX4_meanHeat_8 : decode cX4_meanHeat 8 = .ok (.istore_n 2, 1) := by decide +kernel
theorem dX4_meanHeat_9 : decode cX4_meanHeat 9 = .ok (.iconst 0, 1) := by decide +kernel
theorem dX4_meanHeat_10 : decode cX4_meanHeat 10 = .ok (.istore_n 3, 1) := by decide +kernel
theorem dX4_meanHeat_11 : decode cX4_meanHeat 11 = .ok (.iload_n 3, 1) := by decide +kernel
theorem dX4_meanHeat_12 : decode cX4_meanHeat 12 = .ok (.aload_n 0, 1) := by decide +kernel
theorem dX4_meanHeat_13 : decode cX4_meanHeat 13 = .ok (.getfield 34, 3) := by decide +kernel
theorem dX4_meanHeat_16 : decode cX4_meanHeat 16 = .ok (.if_icmp .ge 36, 3) := by decide +kernel
theorem dX4_meanHeat_19 : decode cX4_meanHeat 19 = .ok (.aload_n 0, 1) := by decide +kernel
theorem dX4_meanHeat_20 : decode cX4_meanHeat 20 = .ok (.iload_n 3, 1) := by decide +kernel
theorem dX4_meanHeat_21 : decode cX4_meanHeat 21 = .ok (.invokevirtual 69, 3) := by decide +kernel
theorem dX4_meanHeat_24 : decode cX4_meanHeat 24 = .ok (.ifCond .ne 6, 3) := by decide +kernel
theorem dX4_meanHeat_27 : decode cX4_meanHeat 27 = .ok (.goto 19, 3) := by decide +kernel
theorem dX4_meanHeat_30 : decode cX4_meanHeat 30 = .ok (.iload_n 1, 1) := by decide +kernel
theorem dX4_meanHeat_31 : decode cX4_meanHeat 31 = .ok (.aload_n 0, 1) := by decide +kernel
theorem dX4_meanHeat_32 : decode cX4_meanHeat 32 = .ok (.getfield 16, 3) := by decide +kernel
theorem dX4_meanHeat_35 : decode cX4_meanHeat 35 = .ok (.iload_n 3, 1) := by decide +kernel
theorem dX4_meanHeat_36 : decode cX4_meanHeat 36 = .ok (.iconst 1, 1) := by decide +kernel
theorem dX4_meanHeat_37 : decode cX4_meanHeat 37 = .ok (.invokestatic 37, 3) := by decide +kernel
theorem dX4_meanHeat_40 : decode cX4_meanHeat 40 = .ok (.iaload, 1) := by decide +kernel
theorem dX4_meanHeat_41 : decode cX4_meanHeat 41 = .ok (.iadd, 1) := by decide +kernel
theorem dX4_meanHeat_42 : decode cX4_meanHeat 42 = .ok (.istore_n 1, 1) := by decide +kernel
theorem dX4_meanHeat_43 : decode cX4_meanHeat 43 = .ok (.iinc 2 1, 3) := by decide +kernel
theorem dX4_meanHeat_46 : decode cX4_meanHeat 46 = .ok (.iinc 3 1, 3) := by decide +kernel
theorem dX4_meanHeat_49 : decode cX4_meanHeat 49 = .ok (.goto (-38), 3) := by decide +kernel
theorem dX4_meanHeat_52 : decode cX4_meanHeat 52 = .ok (.iload_n 2, 1) := by decide +kernel
theorem dX4_meanHeat_53 : decode cX4_meanHeat 53 = .ok (.ifCond .ne 7, 3) := by decide +kernel
theorem dX4_meanHeat_56 : decode cX4_meanHeat 56 = .ok (.dconst 0, 1) := by decide +kernel
theorem dX4_meanHeat_57 : decode cX4_meanHeat 57 = .ok (.goto 8, 3) := by decide +kernel
theorem dX4_meanHeat_60 : decode cX4_meanHeat 60 = .ok (.iload_n 1, 1) := by decide +kernel
theorem dX4_meanHeat_61 : decode cX4_meanHeat 61 = .ok (.i2d, 1) := by decide +kernel
theorem dX4_meanHeat_62 : decode cX4_meanHeat 62 = .ok (.iload_n 2, 1) := by decide +kernel
theorem dX4_meanHeat_63 : decode cX4_meanHeat 63 = .ok (.i2d, 1) := by decide +kernel
theorem dX4_meanHeat_64 : decode cX4_meanHeat 64 = .ok (.ddiv, 1) := by decide +kernel
theorem dX4_meanHeat_65 : decode cX4_meanHeat 65 = .ok (.dreturn, 1) := by decide +kernel
theorem dX4_digest_0 : decode cX4_digest 0 = .ok (.aload_n 0, 1) := by decide +kernel
theorem dX4_digest_1 : decode cX4_digest 1 = .ok (.iconst 0, 1) := by decide +kernel
theorem dX4_digest_2 : decode cX4_digest 2 = .ok (.putfield 26, 3) := by decide +kernel
theorem dX4_digest_5 : decode cX4_digest 5 = .ok (.bipush 8, 2) := by decide +kernel
theorem dX4_digest_7 : decode cX4_digest 7 = .ok (.newarray .int, 2) := by decide +kernel
theorem dX4_digest_9 : decode cX4_digest 9 = .ok (.dup, 1) := by decide +kernel
theorem dX4_digest_10 : decode cX4_digest 10 = .ok (.iconst 0, 1) := by decide +kernel
theorem dX4_digest_11 : decode cX4_digest 11 = .ok (.aload_n 0, 1) := by decide +kernel
theorem dX4_digest_12 : decode cX4_digest 12 = .ok (.getfield 16, 3) := by decide +kernel
theorem dX4_digest_15 : decode cX4_digest 15 = .ok (.iconst 0, 1) := by decide +kernel
theorem dX4_digest_16 : decode cX4_digest 16 = .ok (.iaload, 1) := by decide +kernel
theorem dX4_digest_17 : decode cX4_digest 17 = .ok (.iastore, 1) := by decide +kernel
theorem dX4_digest_18 : decode cX4_digest 18 = .ok (.dup, 1) := by decide +kernel
theorem dX4_digest_19 : decode cX4_digest 19 = .ok (.iconst 1, 1) := by decide +kernel
theorem dX4_digest_20 : decode cX4_digest 20 = .ok (.aload_n 0, 1) := by decide +kernel
theorem dX4_digest_21 : decode cX4_digest 21 = .ok (.getfield 16, 3) := by decide +kernel
theorem dX4_digest_24 : decode cX4_digest 24 = .ok (.iconst 1, 1) := by decide +kernel
theorem dX4_digest_25 : decode cX4_digest 25 = .ok (.iaload, 1) := by decide +kernel
theorem dX4_digest_26 : decode cX4_digest 26 = .ok (.iastore, 1) := by decide +kernel
theorem dX4_digest_27 : decode cX4_digest 27 = .ok (.dup, 1) := by decide +kernel
theorem dX4_digest_28 : decode cX4_digest 28 = .ok (.iconst 2, 1) := by decide +kernel
theorem dX4_digest_29 : decode cX4_digest 29 = .ok (.aload_n 0, 1) := by decide +kernel
theorem dX4_digest_30 : decode cX4_digest 30 = .ok (.getfield 16, 3) := by decide +kernel
theorem dX4_digest_33 : decode cX4_digest 33 = .ok (.iconst 2, 1) := by decide +kernel
theorem dX4_digest_34 : decode cX4_digest 34 = .ok (.iaload, 1) := by decide +kernel
theorem dX4_digest_35 : decode cX4_digest 35 = .ok (.iastore, 1) := by decide +kernel
theorem dX4_digest_36 : decode cX4_digest 36 = .ok (.dup, 1) := by decide +kernel
theorem dX4_digest_37 : decode cX4_digest 37 = .ok (.iconst 3, 1) := by decide +kernel
theorem dX4_digest_38 : decode cX4_digest 38 = .ok (.aload_n 0, 1) := by decide +kernel
theorem dX4_digest_39 : decode cX4_digest 39 = .ok (.getfield 34, 3) := by decide +kernel
theorem dX4_digest_42 : decode cX4_digest 42 = .ok (.iastore, 1) := by decide +kernel
theorem dX4_digest_43 : decode cX4_digest 43 = .ok (.dup, 1) := by decide +kernel
theorem dX4_digest_44 : decode cX4_digest 44 = .ok (.iconst 4, 1) := by decide +kernel
theorem dX4_digest_45 : decode cX4_digest 45 = .ok (.aload_n 0, 1) := by decide +kernel
theorem dX4_digest_46 : decode cX4_digest 46 = .ok (.invokevirtual 114, 3) := by decide +kernel
theorem dX4_digest_49 : decode cX4_digest 49 = .ok (.iastore, 1) := by decide +kernel
theorem dX4_digest_50 : decode cX4_digest 50 = .ok (.dup, 1) := by decide +kernel
theorem dX4_digest_51 : decode cX4_digest 51 = .ok (.iconst 5, 1) := by decide +kernel
theorem dX4_digest_52 : decode cX4_digest 52 = .ok (.aload_n 0, 1) := by decide +kernel
theorem dX4_digest_53 : decode cX4_digest 53 = .ok (.invokevirtual 133, 3) := by decide +kernel
theorem dX4_digest_56 : decode cX4_digest 56 = .ok (.iastore, 1) := by decide +kernel
theorem dX4_digest_57 : decode cX4_digest 57 = .ok (.dup, 1) := by decide +kernel
theorem dX4_digest_58 : decode cX4_digest 58 = .ok (.bipush 6, 2) := by decide +kernel
theorem dX4_digest_60 : decode cX4_digest 60 = .ok (.aload_n 0, 1) := by decide +kernel
theorem dX4_digest_61 : decode cX4_digest 61 = .ok (.invokevirtual 148, 3) := by decide +kernel
theorem dX4_digest_64 : decode cX4_digest 64 = .ok (.iastore, 1) := by decide +kernel
theorem dX4_digest_65 : decode cX4_digest 65 = .ok (.dup, 1) := by decide +kernel
theorem dX4_digest_66 : decode cX4_digest 66 = .ok (.bipush 7, 2) := by decide +kernel
theorem dX4_digest_68 : decode cX4_digest 68 = .ok (.aload_n 0, 1) := by decide +kernel
theorem dX4_digest_69 : decode cX4_digest 69 = .ok (.invokevirtual 151, 3) := by decide +kernel
theorem dX4_digest_72 : decode cX4_digest 72 = .ok (.iastore, 1) := by decide +kernel
theorem dX4_digest_73 : decode cX4_digest 73 = .ok (.astore_n 1, 1) := by decide +kernel
theorem dX4_digest_74 : decode cX4_digest 74 = .ok (.ldc2_w 154, 3) := by decide +kernel
theorem dX4_digest_77 : decode cX4_digest 77 = .ok (.lstore_n 2, 1) := by decide +kernel
theorem dX4_digest_78 : decode cX4_digest 78 = .ok (.aload_n 1, 1) := by decide +kernel
theorem dX4_digest_79 : decode cX4_digest 79 = .ok (.astore 4, 2) := by decide +kernel
theorem dX4_digest_81 : decode cX4_digest 81 = .ok (.aload 4, 2) := by decide +kernel
theorem dX4_digest_83 : decode cX4_digest 83 = .ok (.arraylength, 1) := by decide +kernel
theorem dX4_digest_84 : decode cX4_digest 84 = .ok (.istore 5, 2) := by decide +kernel
theorem dX4_digest_86 : decode cX4_digest 86 = .ok (.iconst 0, 1) := by decide +kernel
theorem dX4_digest_87 : decode cX4_digest 87 = .ok (.istore 6, 2) := by decide +kernel
theorem dX4_digest_89 : decode cX4_digest 89 = .ok (.iload 6, 2) := by decide +kernel
theorem dX4_digest_91 : decode cX4_digest 91 = .ok (.iload 5, 2) := by decide +kernel
theorem dX4_digest_93 : decode cX4_digest 93 = .ok (.if_icmp .ge 26, 3) := by decide +kernel
theorem dX4_digest_96 : decode cX4_digest 96 = .ok (.aload 4, 2) := by decide +kernel
theorem dX4_digest_98 : decode cX4_digest 98 = .ok (.iload 6, 2) := by decide +kernel
theorem dX4_digest_100 : decode cX4_digest 100 = .ok (.iaload, 1) := by decide +kernel
theorem dX4_digest_101 : decode cX4_digest 101 = .ok (.istore 7, 2) := by decide +kernel
theorem dX4_digest_103 : decode cX4_digest 103 = .ok (.lload_n 2, 1) := by decide +kernel
theorem dX4_digest_104 : decode cX4_digest 104 = .ok (.ldc2_w 156, 3) := by decide +kernel
theorem dX4_digest_107 : decode cX4_digest 107 = .ok (.lmul, 1) := by decide +kernel
theorem dX4_digest_108 : decode cX4_digest 108 = .ok (.iload 7, 2) := by decide +kernel
theorem dX4_digest_110 : decode cX4_digest 110 = .ok (.i2l, 1) := by decide +kernel
theorem dX4_digest_111 : decode cX4_digest 111 = .ok (.ladd, 1) := by decide +kernel
theorem dX4_digest_112 : decode cX4_digest 112 = .ok (.lstore_n 2, 1) := by decide +kernel
theorem dX4_digest_113 : decode cX4_digest 113 = .ok (.iinc 6 1, 3) := by decide +kernel
theorem dX4_digest_116 : decode cX4_digest 116 = .ok (.goto (-27), 3) := by decide +kernel
theorem dX4_digest_119 : decode cX4_digest 119 = .ok (.iconst 0, 1) := by decide +kernel
theorem dX4_digest_120 : decode cX4_digest 120 = .ok (.istore 4, 2) := by decide +kernel
theorem dX4_digest_122 : decode cX4_digest 122 = .ok (.iload 4, 2) := by decide +kernel
theorem dX4_digest_124 : decode cX4_digest 124 = .ok (.iconst 5, 1) := by decide +kernel
theorem dX4_digest_125 : decode cX4_digest 125 = .ok (.if_icmp .ge 57, 3) := by decide +kernel
theorem dX4_digest_128 : decode cX4_digest 128 = .ok (.lload_n 2, 1) := by decide +kernel
theorem dX4_digest_129 : decode cX4_digest 129 = .ok (.ldc2_w 156, 3) := by decide +kernel
theorem dX4_digest_132 : decode cX4_digest 132 = .ok (.lmul, 1) := by decide +kernel
theorem dX4_digest_133 : decode cX4_digest 133 = .ok (.aload_n 0, 1) := by decide +kernel
theorem dX4_digest_134 : decode cX4_digest 134 = .ok (.getfield 16, 3) := by decide +kernel
theorem dX4_digest_137 : decode cX4_digest 137 = .ok (.iload 4, 2) := by decide +kernel
theorem dX4_digest_139 : decode cX4_digest 139 = .ok (.iconst 0, 1) := by decide +kernel
theorem dX4_digest_140 : decode cX4_digest 140 = .ok (.invokestatic 22, 3) := by decide +kernel
theorem dX4_digest_143 : decode cX4_digest 143 = .ok (.iaload, 1) := by decide +kernel
theorem dX4_digest_144 : decode cX4_digest 144 = .ok (.i2l, 1) := by decide +kernel
theorem dX4_digest_145 : decode cX4_digest 145 = .ok (.ladd, 1) := by decide +kernel
theorem dX4_digest_146 : decode cX4_digest 146 = .ok (.ldc2_w 156, 3) := by decide +kernel
theorem dX4_digest_149 : decode cX4_digest 149 = .ok (.lmul, 1) := by decide +kernel
theorem dX4_digest_150 : decode cX4_digest 150 = .ok (.aload_n 0, 1) := by decide +kernel
theorem dX4_digest_151 : decode cX4_digest 151 = .ok (.getfield 16, 3) := by decide +kernel
theorem dX4_digest_154 : decode cX4_digest 154 = .ok (.iload 4, 2) := by decide +kernel
theorem dX4_digest_156 : decode cX4_digest 156 = .ok (.iconst 1, 1) := by decide +kernel
theorem dX4_digest_157 : decode cX4_digest 157 = .ok (.invokestatic 22, 3) := by decide +kernel
theorem dX4_digest_160 : decode cX4_digest 160 = .ok (.iaload, 1) := by decide +kernel
theorem dX4_digest_161 : decode cX4_digest 161 = .ok (.i2l, 1) := by decide +kernel
theorem dX4_digest_162 : decode cX4_digest 162 = .ok (.ladd, 1) := by decide +kernel
theorem dX4_digest_163 : decode cX4_digest 163 = .ok (.ldc2_w 156, 3) := by decide +kernel
theorem dX4_digest_166 : decode cX4_digest 166 = .ok (.lmul, 1) := by decide +kernel
theorem dX4_digest_167 : decode cX4_digest 167 = .ok (.aload_n 0, 1) := by decide +kernel
theorem dX4_digest_168 : decode cX4_digest 168 = .ok (.iload 4, 2) := by decide +kernel
theorem dX4_digest_170 : decode cX4_digest 170 = .ok (.invokevirtual 111, 3) := by decide +kernel
theorem dX4_digest_173 : decode cX4_digest 173 = .ok (.i2l, 1) := by decide +kernel
theorem dX4_digest_174 : decode cX4_digest 174 = .ok (.ladd, 1) := by decide +kernel
theorem dX4_digest_175 : decode cX4_digest 175 = .ok (.lstore_n 2, 1) := by decide +kernel
theorem dX4_digest_176 : decode cX4_digest 176 = .ok (.iinc 4 1, 3) := by decide +kernel
theorem dX4_digest_179 : decode cX4_digest 179 = .ok (.goto (-57), 3) := by decide +kernel
theorem dX4_digest_182 : decode cX4_digest 182 = .ok (.iconst 0, 1) := by decide +kernel
theorem dX4_digest_183 : decode cX4_digest 183 = .ok (.istore 4, 2) := by decide +kernel
theorem dX4_digest_185 : decode cX4_digest 185 = .ok (.iload 4, 2) := by decide +kernel
theorem dX4_digest_187 : decode cX4_digest 187 = .ok (.aload_n 0, 1) := by decide +kernel
theorem dX4_digest_188 : decode cX4_digest 188 = .ok (.getfield 34, 3) := by decide +kernel
theorem dX4_digest_191 : decode cX4_digest 191 = .ok (.if_icmp .ge 198, 3) := by decide +kernel
theorem dX4_digest_194 : decode cX4_digest 194 = .ok (.aload_n 0, 1) := by decide +kernel
theorem dX4_digest_195 : decode cX4_digest 195 = .ok (.getfield 16, 3) := by decide +kernel
theorem dX4_digest_198 : decode cX4_digest 198 = .ok (.iload 4, 2) := by decide +kernel
theorem dX4_digest_200 : decode cX4_digest 200 = .ok (.iconst 4, 1) := by decide +kernel
theorem dX4_digest_201 : decode cX4_digest 201 = .ok (.invokestatic 37, 3) := by decide +kernel
theorem dX4_digest_204 : decode cX4_digest 204 = .ok (.iaload, 1) := by decide +kernel
theorem dX4_digest_205 : decode cX4_digest 205 = .ok (.istore 5, 2) := by decide +kernel
theorem dX4_digest_207 : decode cX4_digest 207 = .ok (.bipush 9, 2) := by decide +kernel
theorem dX4_digest_209 : decode cX4_digest 209 = .ok (.newarray .int, 2) := by decide +kernel
theorem dX4_digest_211 : decode cX4_digest 211 = .ok (.dup, 1) := by decide +kernel
theorem dX4_digest_212 : decode cX4_digest 212 = .ok (.iconst 0, 1) := by decide +kernel
theorem dX4_digest_213 : decode cX4_digest 213 = .ok (.aload_n 0, 1) := by decide +kernel
theorem dX4_digest_214 : decode cX4_digest 214 = .ok (.getfield 9, 3) := by decide +kernel
theorem dX4_digest_217 : decode cX4_digest 217 = .ok (.iload 4, 2) := by decide +kernel
theorem dX4_digest_219 : decode cX4_digest 219 = .ok (.iaload, 1) := by decide +kernel
theorem dX4_digest_220 : decode cX4_digest 220 = .ok (.iastore, 1) := by decide +kernel
theorem dX4_digest_221 : decode cX4_digest 221 = .ok (.dup, 1) := by decide +kernel
theorem dX4_digest_222 : decode cX4_digest 222 = .ok (.iconst 1, 1) := by decide +kernel
theorem dX4_digest_223 : decode cX4_digest 223 = .ok (.aload_n 0, 1) := by decide +kernel
theorem dX4_digest_224 : decode cX4_digest 224 = .ok (.getfield 16, 3) := by decide +kernel
theorem dX4_digest_227 : decode cX4_digest 227 = .ok (.iload 4, 2) := by decide +kernel
theorem dX4_digest_229 : decode cX4_digest 229 = .ok (.iconst 0, 1) := by decide +kernel
theorem dX4_digest_230 : decode cX4_digest 230 = .ok (.invokestatic 37, 3) := by decide +kernel
theorem dX4_digest_233 : decode cX4_digest 233 = .ok (.iaload, 1) := by decide +kernel
theorem dX4_digest_234 : decode cX4_digest 234 = .ok (.iastore, 1) := by decide +kernel
theorem dX4_digest_235 : decode cX4_digest 235 = .ok (.dup, 1) := by decide +kernel
theorem dX4_digest_236 : decode cX4_digest 236 = .ok (.iconst 2, 1) := by decide +kernel
theorem dX4_digest_237 : decode cX4_digest 237 = .ok (.aload_n 0, 1) := by decide +kernel
theorem dX4_digest_238 : decode cX4_digest 238 = .ok (.getfield 16, 3) := by decide +kernel
theorem dX4_digest_241 : decode cX4_digest 241 = .ok (.iload 4, 2) := by decide +kernel
theorem dX4_digest_243 : decode cX4_digest 243 = .ok (.iconst 1, 1) := by decide +kernel
theorem dX4_digest_244 : decode cX4_digest 244 = .ok (.invokestatic 37, 3) := by decide +kernel
theorem dX4_digest_247 : decode cX4_digest 247 = .ok (.iaload, 1) := by decide +kernel
theorem dX4_digest_248 : decode cX4_digest 248 = .ok (.iastore, 1) := by decide +kernel
theorem dX4_digest_249 : decode cX4_digest 249 = .ok (.dup, 1) := by decide +kernel
theorem dX4_digest_250 : decode cX4_digest 250 = .ok (.iconst 3, 1) := by decide +kernel
theorem dX4_digest_251 : decode cX4_digest 251 = .ok (.aload_n 0, 1) := by decide +kernel
theorem dX4_digest_252 : decode cX4_digest 252 = .ok (.getfield 16, 3) := by decide +kernel
theorem dX4_digest_255 : decode cX4_digest 255 = .ok (.iload 4, 2) := by decide +kernel
theorem dX4_digest_257 : decode cX4_digest 257 = .ok (.iconst 2, 1) := by decide +kernel
theorem dX4_digest_258 : decode cX4_digest 258 = .ok (.invokestatic 37, 3) := by decide +kernel
theorem dX4_digest_261 : decode cX4_digest 261 = .ok (.iaload, 1) := by decide +kernel
theorem dX4_digest_262 : decode cX4_digest 262 = .ok (.iastore, 1) := by decide +kernel
theorem dX4_digest_263 : decode cX4_digest 263 = .ok (.dup, 1) := by decide +kernel
theorem dX4_digest_264 : decode cX4_digest 264 = .ok (.iconst 4, 1) := by decide +kernel
theorem dX4_digest_265 : decode cX4_digest 265 = .ok (.aload_n 0, 1) := by decide +kernel
theorem dX4_digest_266 : decode cX4_digest 266 = .ok (.iload 4, 2) := by decide +kernel
theorem dX4_digest_268 : decode cX4_digest 268 = .ok (.invokevirtual 99, 3) := by decide +kernel
theorem dX4_digest_271 : decode cX4_digest 271 = .ok (.iastore, 1) := by decide +kernel
theorem dX4_digest_272 : decode cX4_digest 272 = .ok (.dup, 1) := by decide +kernel
theorem dX4_digest_273 : decode cX4_digest 273 = .ok (.iconst 5, 1) := by decide +kernel
theorem dX4_digest_274 : decode cX4_digest 274 = .ok (.aload_n 0, 1) := by decide +kernel
theorem dX4_digest_275 : decode cX4_digest 275 = .ok (.iload 4, 2) := by decide +kernel
theorem dX4_digest_277 : decode cX4_digest 277 = .ok (.iconst 1, 1) := by decide +kernel
theorem dX4_digest_278 : decode cX4_digest 278 = .ok (.invokevirtual 120, 3) := by decide +kernel
theorem dX4_digest_281 : decode cX4_digest 281 = .ok (.ifCond .eq 7, 3) := by decide +kernel
theorem dX4_digest_284 : decode cX4_digest 284 = .ok (.iconst 1, 1) := by decide +kernel
theorem dX4_digest_285 : decode cX4_digest 285 = .ok (.goto 4, 3) := by decide +kernel
theorem dX4_digest_288 : decode cX4_digest 288 = .ok (.iconst 0, 1) := by decide +kernel
theorem dX4_digest_289 : decode cX4_digest 289 = .ok (.iastore, 1) := by decide +kernel
theorem dX4_digest_290 : decode cX4_digest 290 = .ok (.dup, 1) := by decide +kernel
theorem dX4_digest_291 : decode cX4_digest 291 = .ok (.bipush 6, 2) := by decide +kernel
theorem dX4_digest_293 : decode cX4_digest 293 = .ok (.aload_n 0, 1) := by decide +kernel
theorem dX4_digest_294 : decode cX4_digest 294 = .ok (.iload 4, 2) := by decide +kernel
theorem dX4_digest_296 : decode cX4_digest 296 = .ok (.iconst 2, 1) := by decide +kernel
theorem dX4_digest_297 : decode cX4_digest 297 = .ok (.invokevirtual 120, 3) := by decide +kernel
theorem dX4_digest_300 : decode cX4_digest 300 = .ok (.ifCond .eq 7, 3) := by decide +kernel
theorem dX4_digest_303 : decode cX4_digest 303 = .ok (.iconst 1, 1) := by decide +kernel
theorem dX4_digest_304 : decode cX4_digest 304 = .ok (.goto 4, 3) := by decide +kernel
theorem dX4_digest_307 : decode cX4_digest 307 = .ok (.iconst 0, 1) := by decide +kernel
theorem dX4_digest_308 : decode cX4_digest 308 = .ok (.iastore, 1) := by decide +kernel
theorem dX4_digest_309 : decode cX4_digest 309 = .ok (.dup, 1) := by decide +kernel
theorem dX4_digest_310 : decode cX4_digest 310 = .ok (.bipush 7, 2) := by decide +kernel
theorem dX4_digest_312 : decode cX4_digest 312 = .ok (.iload 5, 2) := by decide +kernel
theorem dX4_digest_314 : decode cX4_digest 314 = .ok (.iconst 1, 1) := by decide +kernel
theorem dX4_digest_315 : decode cX4_digest 315 = .ok (.if_icmp .ne 7, 3) := by decide +kernel
theorem dX4_digest_318 : decode cX4_digest 318 = .ok (.iconst 1, 1) := by decide +kernel
theorem dX4_digest_319 : decode cX4_digest 319 = .ok (.goto 4, 3) := by decide +kernel
theorem dX4_digest_322 : decode cX4_digest 322 = .ok (.iconst 0, 1) := by decide +kernel
theorem dX4_digest_323 : decode cX4_digest 323 = .ok (.iastore, 1) := by decide +kernel
theorem dX4_digest_324 : decode cX4_digest 324 = .ok (.dup, 1) := by decide +kernel
theorem dX4_digest_325 : decode cX4_digest 325 = .ok (.bipush 8, 2) := by decide +kernel
theorem dX4_digest_327 : decode cX4_digest 327 = .ok (.iload 5, 2) := by decide +kernel
theorem dX4_digest_329 : decode cX4_digest 329 = .ok (.iconst 2, 1) := by decide +kernel
theorem dX4_digest_330 : decode cX4_digest 330 = .ok (.if_icmp .ne 7, 3) := by decide +kernel
theorem dX4_digest_333 : decode cX4_digest 333 = .ok (.iconst 1, 1) := by decide +kernel
theorem dX4_digest_334 : decode cX4_digest 334 = .ok (.goto 4, 3) := by decide +kernel
theorem dX4_digest_337 : decode cX4_digest 337 = .ok (.iconst 0, 1) := by decide +kernel
theorem dX4_digest_338 : decode cX4_digest 338 = .ok (.iastore, 1) := by decide +kernel
theorem dX4_digest_339 : decode cX4_digest 339 = .ok (.astore 6, 2) := by decide +kernel
theorem dX4_digest_341 : decode cX4_digest 341 = .ok (.aload 6, 2) := by decide +kernel
theorem dX4_digest_343 : decode cX4_digest 343 = .ok (.astore 7, 2) := by decide +kernel
theorem dX4_digest_345 : decode cX4_digest 345 = .ok (.aload 7, 2) := by decide +kernel
theorem dX4_digest_347 : decode cX4_digest 347 = .ok (.arraylength, 1) := by decide +kernel
theorem dX4_digest_348 : decode cX4_digest 348 = .ok (.istore 8, 2) := by decide +kernel
theorem dX4_digest_350 : decode cX4_digest 350 = .ok (.iconst 0, 1) := by decide +kernel
theorem dX4_digest_351 : decode cX4_digest 351 = .ok (.istore 9, 2) := by decide +kernel
theorem dX4_digest_353 : decode cX4_digest 353 = .ok (.iload 9, 2) := by decide +kernel
theorem dX4_digest_355 : decode cX4_digest 355 = .ok (.iload 8, 2) := by decide +kernel
theorem dX4_digest_357 : decode cX4_digest 357 = .ok (.if_icmp .ge 26, 3) := by decide +kernel
theorem dX4_digest_360 : decode cX4_digest 360 = .ok (.aload 7, 2) := by decide +kernel
theorem dX4_digest_362 : decode cX4_digest 362 = .ok (.iload 9, 2) := by decide +kernel
theorem dX4_digest_364 : decode cX4_digest 364 = .ok (.iaload, 1) := by decide +kernel
theorem dX4_digest_365 : decode cX4_digest 365 = .ok (.istore 10, 2) := by decide +kernel
theorem dX4_digest_367 : decode cX4_digest 367 = .ok (.lload_n 2, 1) := by decide +kernel
theorem dX4_digest_368 : decode cX4_digest 368 = .ok (.ldc2_w 156, 3) := by decide +kernel
theorem dX4_digest_371 : decode cX4_digest 371 = .ok (.lmul, 1) := by decide +kernel
theorem dX4_digest_372 : decode cX4_digest 372 = .ok (.iload 10, 2) := by decide +kernel
theorem dX4_digest_374 : decode cX4_digest 374 = .ok (.i2l, 1) := by decide +kernel
theorem dX4_digest_375 : decode cX4_digest 375 = .ok (.ladd, 1) := by decide +kernel
theorem dX4_digest_376 : decode cX4_digest 376 = .ok (.lstore_n 2, 1) := by decide +kernel
theorem dX4_digest_377 : decode cX4_digest 377 = .ok (.iinc 9 1, 3) := by decide +kernel
theorem dX4_digest_380 : decode cX4_digest 380 = .ok (.goto (-27), 3) := by decide +kernel
theorem dX4_digest_383 : decode cX4_digest 383 = .ok (.iinc 4 1, 3) := by decide +kernel
theorem dX4_digest_386 : decode cX4_digest 386 = .ok (.goto (-201), 3) := by decide +kernel
theorem dX4_digest_389 : decode cX4_digest 389 = .ok (.iconst 0, 1) := by decide +kernel
theorem dX4_digest_390 : decode cX4_digest 390 = .ok (.istore 4, 2) := by decide +kernel
theorem dX4_digest_392 : decode cX4_digest 392 = .ok (.iload 4, 2) := by decide +kernel
theorem dX4_digest_394 : decode cX4_digest 394 = .ok (.bipush 6, 2) := by decide +kernel
theorem dX4_digest_396 : decode cX4_digest 396 = .ok (.if_icmp .ge 35, 3) := by decide +kernel
theorem dX4_digest_399 : decode cX4_digest 399 = .ok (.lload_n 2, 1) := by decide +kernel
theorem dX4_digest_400 : decode cX4_digest 400 = .ok (.ldc2_w 156, 3) := by decide +kernel
theorem dX4_digest_403 : decode cX4_digest 403 = .ok (.lmul, 1) := by decide +kernel
theorem dX4_digest_404 : decode cX4_digest 404 = .ok (.aload_n 0, 1) := by decide +kernel
theorem dX4_digest_405 : decode cX4_digest 405 = .ok (.iload 4, 2) := by decide +kernel
theorem dX4_digest_407 : decode cX4_digest 407 = .ok (.invokevirtual 127, 3) := by decide +kernel
theorem dX4_digest_410 : decode cX4_digest 410 = .ok (.i2l, 1) := by decide +kernel
theorem dX4_digest_411 : decode cX4_digest 411 = .ok (.ladd, 1) := by decide +kernel
theorem dX4_digest_412 : decode cX4_digest 412 = .ok (.ldc2_w 156, 3) := by decide +kernel
theorem dX4_digest_415 : decode cX4_digest 415 = .ok (.lmul, 1) := by decide +kernel
theorem dX4_digest_416 : decode cX4_digest 416 = .ok (.aload_n 0, 1) := by decide +kernel
theorem dX4_digest_417 : decode cX4_digest 417 = .ok (.iload 4, 2) := by decide +kernel
theorem dX4_digest_419 : decode cX4_digest 419 = .ok (.invokevirtual 130, 3) := by decide +kernel
theorem dX4_digest_422 : decode cX4_digest 422 = .ok (.i2l, 1) := by decide +kernel
theorem dX4_digest_423 : decode cX4_digest 423 = .ok (.ladd, 1) := by decide +kernel
theorem dX4_digest_424 : decode cX4_digest 424 = .ok (.lstore_n 2, 1) := by decide +kernel
theorem dX4_digest_425 : decode cX4_digest 425 = .ok (.iinc 4 1, 3) := by decide +kernel
theorem dX4_digest_428 : decode cX4_digest 428 = .ok (.goto (-36), 3) := by decide +kernel
theorem dX4_digest_431 : decode cX4_digest 431 = .ok (.lload_n 2, 1) := by decide +kernel
theorem dX4_digest_432 : decode cX4_digest 432 = .ok (.lreturn, 1) := by decide +kernel
theorem dJ9_abs_0f7a4_0 : decode cJ9_abs_0f7a4 0 = .ok (.iload_n 0, 1) := by decide +kernel
theorem dJ9_abs_0f7a4_1 : decode cJ9_abs_0f7a4 1 = .ok (.ifCond .ge 8, 3) := by decide +kernel
theorem dJ9_abs_0f7a4_4 : decode cJ9_abs_0f7a4 4 = .ok (.iload_n 0, 1) := by decide +kernel
theorem dJ9_abs_0f7a4_5 : decode cJ9_abs_0f7a4 5 = .ok (.ineg, 1) := by decide +kernel
theorem dJ9_abs_0f7a4_6 : decode cJ9_abs_0f7a4 6 = .ok (.goto 4, 3) := by decide +kernel
theorem dJ9_abs_0f7a4_9 : decode cJ9_abs_0f7a4 9 = .ok (.iload_n 0, 1) := by decide +kernel
theorem dJ9_abs_0f7a4_10 : decode cJ9_abs_0f7a4 10 = .ok (.ireturn, 1) := by decide +kernel
theorem dJ9_max_7cf53_0 : decode cJ9_max_7cf53 0 = .ok (.iload_n 0, 1) := by decide +kernel
theorem dJ9_max_7cf53_1 : decode cJ9_max_7cf53 1 = .ok (.iload_n 1, 1) := by decide +kernel
theorem dJ9_max_7cf53_2 : decode cJ9_max_7cf53 2 = .ok (.if_icmp .lt 7, 3) := by decide +kernel
theorem dJ9_max_7cf53_5 : decode cJ9_max_7cf53 5 = .ok (.iload_n 0, 1) := by decide +kernel
theorem dJ9_max_7cf53_6 : decode cJ9_max_7cf53 6 = .ok (.goto 4, 3) := by decide +kernel
theorem dJ9_max_7cf53_9 : decode cJ9_max_7cf53 9 = .ok (.iload_n 1, 1) := by decide +kernel
theorem dJ9_max_7cf53_10 : decode cJ9_max_7cf53 10 = .ok (.ireturn, 1) := by decide +kernel
theorem dJ9_min_7cf53_0 : decode cJ9_min_7cf53 0 = .ok (.iload_n 0, 1) := by decide +kernel
theorem dJ9_min_7cf53_1 : decode cJ9_min_7cf53 1 = .ok (.iload_n 1, 1) := by decide +kernel
theorem dJ9_min_7cf53_2 : decode cJ9_min_7cf53 2 = .ok (.if_icmp .gt 7, 3) := by decide +kernel
theorem dJ9_min_7cf53_5 : decode cJ9_min_7cf53 5 = .ok (.iload_n 0, 1) := by decide +kernel
theorem dJ9_min_7cf53_6 : decode cJ9_min_7cf53 6 = .ok (.goto 4, 3) := by decide +kernel
theorem dJ9_min_7cf53_9 : decode cJ9_min_7cf53 9 = .ok (.iload_n 1, 1) := by decide +kernel
theorem dJ9_min_7cf53_10 : decode cJ9_min_7cf53 10 = .ok (.ireturn, 1) := by decide +kernel
theorem dL_make_0 : decode cL_make 0 = .ok (.aload 4, 2) := by decide +kernel
theorem dL_make_2 : decode cL_make 2 = .ok (.iconst 0, 1) := by decide +kernel
theorem dL_make_3 : decode cL_make 3 = .ok (.aload_n 0, 1) := by decide +kernel
theorem dL_make_4 : decode cL_make 4 = .ok (.iload_n 1, 1) := by decide +kernel
theorem dL_make_5 : decode cL_make 5 = .ok (.iload_n 2, 1) := by decide +kernel
theorem dL_make_6 : decode cL_make 6 = .ok (.iload_n 3, 1) := by decide +kernel
theorem dL_make_7 : decode cL_make 7 = .ok (.invokevirtual 7, 3) := by decide +kernel
theorem dL_make_10 : decode cL_make 10 = .ok (.i2l, 1) := by decide +kernel
theorem dL_make_11 : decode cL_make 11 = .ok (.lastore, 1) := by decide +kernel
theorem dL_make_12 : decode cL_make 12 = .ok (.goto 15, 3) := by decide +kernel
theorem dL_make_15 : decode cL_make 15 = .ok (.astore 5, 2) := by decide +kernel
theorem dL_make_17 : decode cL_make 17 = .ok (.iconst 1, 1) := by decide +kernel
theorem dL_make_18 : decode cL_make 18 = .ok (.ireturn, 1) := by decide +kernel
theorem dL_make_19 : decode cL_make 19 = .ok (.astore 5, 2) := by decide +kernel
theorem dL_make_21 : decode cL_make 21 = .ok (.iconst 2, 1) := by decide +kernel
theorem dL_make_22 : decode cL_make 22 = .ok (.ireturn, 1) := by decide +kernel
theorem dL_make_23 : decode cL_make 23 = .ok (.astore 5, 2) := by decide +kernel
theorem dL_make_25 : decode cL_make 25 = .ok (.iconst 3, 1) := by decide +kernel
theorem dL_make_26 : decode cL_make 26 = .ok (.ireturn, 1) := by decide +kernel
theorem dL_make_27 : decode cL_make 27 = .ok (.iconst 0, 1) := by decide +kernel
theorem dL_make_28 : decode cL_make 28 = .ok (.ireturn, 1) := by decide +kernel
theorem dL_move_0 : decode cL_move 0 = .ok (.aload_n 3, 1) := by decide +kernel
theorem dL_move_1 : decode cL_move 1 = .ok (.iconst 0, 1) := by decide +kernel
theorem dL_move_2 : decode cL_move 2 = .ok (.aload_n 0, 1) := by decide +kernel
theorem dL_move_3 : decode cL_move 3 = .ok (.iload_n 1, 1) := by decide +kernel
theorem dL_move_4 : decode cL_move 4 = .ok (.iload_n 2, 1) := by decide +kernel
theorem dL_move_5 : decode cL_move 5 = .ok (.invokevirtual 19, 3) := by decide +kernel
theorem dL_move_8 : decode cL_move 8 = .ok (.i2l, 1) := by decide +kernel
theorem dL_move_9 : decode cL_move 9 = .ok (.lastore, 1) := by decide +kernel
theorem dL_move_10 : decode cL_move 10 = .ok (.goto 11, 3) := by decide +kernel
theorem dL_move_13 : decode cL_move 13 = .ok (.astore 4, 2) := by decide +kernel
theorem dL_move_15 : decode cL_move 15 = .ok (.iconst 1, 1) := by decide +kernel
theorem dL_move_16 : decode cL_move 16 = .ok (.ireturn, 1) := by decide +kernel
theorem dL_move_17 : decode cL_move 17 = .ok (.astore 4, 2) := by decide +kernel
theorem dL_move_19 : decode cL_move 19 = .ok (.iconst 2, 1) := by decide +kernel
theorem dL_move_20 : decode cL_move 20 = .ok (.ireturn, 1) := by decide +kernel
theorem dL_move_21 : decode cL_move 21 = .ok (.iconst 0, 1) := by decide +kernel
theorem dL_move_22 : decode cL_move 22 = .ok (.ireturn, 1) := by decide +kernel
theorem dL_keep_0 : decode cL_keep 0 = .ok (.aload_n 2, 1) := by decide +kernel
theorem dL_keep_1 : decode cL_keep 1 = .ok (.iconst 0, 1) := by decide +kernel
theorem dL_keep_2 : decode cL_keep 2 = .ok (.aload_n 0, 1) := by decide +kernel
theorem dL_keep_3 : decode cL_keep 3 = .ok (.iload_n 1, 1) := by decide +kernel
theorem dL_keep_4 : decode cL_keep 4 = .ok (.invokevirtual 23, 3) := by decide +kernel
theorem dL_keep_7 : decode cL_keep 7 = .ok (.i2l, 1) := by decide +kernel
theorem dL_keep_8 : decode cL_keep 8 = .ok (.lastore, 1) := by decide +kernel
theorem dL_keep_9 : decode cL_keep 9 = .ok (.goto 9, 3) := by decide +kernel
theorem dL_keep_12 : decode cL_keep 12 = .ok (.astore_n 3, 1) := by decide +kernel
theorem dL_keep_13 : decode cL_keep 13 = .ok (.iconst 1, 1) := by decide +kernel
theorem dL_keep_14 : decode cL_keep 14 = .ok (.ireturn, 1) := by decide +kernel
theorem dL_keep_15 : decode cL_keep 15 = .ok (.astore_n 3, 1) := by decide +kernel
theorem dL_keep_16 : decode cL_keep 16 = .ok (.iconst 2, 1) := by decide +kernel
theorem dL_keep_17 : decode cL_keep 17 = .ok (.ireturn, 1) := by decide +kernel
theorem dL_keep_18 : decode cL_keep 18 = .ok (.iconst 0, 1) := by decide +kernel
theorem dL_keep_19 : decode cL_keep 19 = .ok (.ireturn, 1) := by decide +kernel
theorem dL_set_0 : decode cL_set 0 = .ok (.aload_n 3, 1) := by decide +kernel
theorem dL_set_1 : decode cL_set 1 = .ok (.iconst 0, 1) := by decide +kernel
theorem dL_set_2 : decode cL_set 2 = .ok (.aload_n 0, 1) := by decide +kernel
theorem dL_set_3 : decode cL_set 3 = .ok (.iload_n 1, 1) := by decide +kernel
theorem dL_set_4 : decode cL_set 4 = .ok (.iload_n 2, 1) := by decide +kernel
theorem dL_set_5 : decode cL_set 5 = .ok (.invokevirtual 27, 3) := by decide +kernel
theorem dL_set_8 : decode cL_set 8 = .ok (.i2l, 1) := by decide +kernel
theorem dL_set_9 : decode cL_set 9 = .ok (.lastore, 1) := by decide +kernel
theorem dL_set_10 : decode cL_set 10 = .ok (.goto 11, 3) := by decide +kernel
theorem dL_set_13 : decode cL_set 13 = .ok (.astore 4, 2) := by decide +kernel
theorem dL_set_15 : decode cL_set 15 = .ok (.iconst 1, 1) := by decide +kernel
theorem dL_set_16 : decode cL_set 16 = .ok (.ireturn, 1) := by decide +kernel
theorem dL_set_17 : decode cL_set 17 = .ok (.astore 4, 2) := by decide +kernel
theorem dL_set_19 : decode cL_set 19 = .ok (.iconst 2, 1) := by decide +kernel
theorem dL_set_20 : decode cL_set 20 = .ok (.ireturn, 1) := by decide +kernel
theorem dL_set_21 : decode cL_set 21 = .ok (.iconst 0, 1) := by decide +kernel
theorem dL_set_22 : decode cL_set 22 = .ok (.ireturn, 1) := by decide +kernel
theorem dL_pass_0 : decode cL_pass 0 = .ok (.aload_n 2, 1) := by decide +kernel
theorem dL_pass_1 : decode cL_pass 1 = .ok (.iconst 0, 1) := by decide +kernel
theorem dL_pass_2 : decode cL_pass 2 = .ok (.aload_n 0, 1) := by decide +kernel
theorem dL_pass_3 : decode cL_pass 3 = .ok (.iload_n 1, 1) := by decide +kernel
theorem dL_pass_4 : decode cL_pass 4 = .ok (.invokevirtual 30, 3) := by decide +kernel
theorem dL_pass_7 : decode cL_pass 7 = .ok (.i2l, 1) := by decide +kernel
theorem dL_pass_8 : decode cL_pass 8 = .ok (.lastore, 1) := by decide +kernel
theorem dL_pass_9 : decode cL_pass 9 = .ok (.goto 6, 3) := by decide +kernel
theorem dL_pass_12 : decode cL_pass 12 = .ok (.astore_n 3, 1) := by decide +kernel
theorem dL_pass_13 : decode cL_pass 13 = .ok (.iconst 1, 1) := by decide +kernel
theorem dL_pass_14 : decode cL_pass 14 = .ok (.ireturn, 1) := by decide +kernel
theorem dL_pass_15 : decode cL_pass 15 = .ok (.iconst 0, 1) := by decide +kernel
theorem dL_pass_16 : decode cL_pass 16 = .ok (.ireturn, 1) := by decide +kernel
theorem dL_settingOf_0 : decode cL_settingOf 0 = .ok (.aload_n 2, 1) := by decide +kernel
theorem dL_settingOf_1 : decode cL_settingOf 1 = .ok (.iconst 0, 1) := by decide +kernel
theorem dL_settingOf_2 : decode cL_settingOf 2 = .ok (.aload_n 0, 1) := by decide +kernel
theorem dL_settingOf_3 : decode cL_settingOf 3 = .ok (.iload_n 1, 1) := by decide +kernel
theorem dL_settingOf_4 : decode cL_settingOf 4 = .ok (.invokevirtual 33, 3) := by decide +kernel
theorem dL_settingOf_7 : decode cL_settingOf 7 = .ok (.i2l, 1) := by decide +kernel
theorem dL_settingOf_8 : decode cL_settingOf 8 = .ok (.lastore, 1) := by decide +kernel
theorem dL_settingOf_9 : decode cL_settingOf 9 = .ok (.goto 6, 3) := by decide +kernel
theorem dL_settingOf_12 : decode cL_settingOf 12 = .ok (.astore_n 3, 1) := by decide +kernel
theorem dL_settingOf_13 : decode cL_settingOf 13 = .ok (.iconst 1, 1) := by decide +kernel
theorem dL_settingOf_14 : decode cL_settingOf 14 = .ok (.ireturn, 1) := by decide +kernel
theorem dL_settingOf_15 : decode cL_settingOf 15 = .ok (.iconst 0, 1) := by decide +kernel
theorem dL_settingOf_16 : decode cL_settingOf 16 = .ok (.ireturn, 1) := by decide +kernel
theorem dL_heatOn_0 : decode cL_heatOn 0 = .ok (.aload_n 2, 1) := by decide +kernel
theorem dL_heatOn_1 : decode cL_heatOn 1 = .ok (.iconst 0, 1) := by decide +kernel
theorem dL_heatOn_2 : decode cL_heatOn 2 = .ok (.aload_n 0, 1) := by decide +kernel
theorem dL_heatOn_3 : decode cL_heatOn 3 = .ok (.iload_n 1, 1) := by decide +kernel
theorem dL_heatOn_4 : decode cL_heatOn 4 = .ok (.invokevirtual 36, 3) := by decide +kernel
theorem dL_heatOn_7 : decode cL_heatOn 7 = .ok (.i2l, 1) := by decide +kernel
theorem dL_heatOn_8 : decode cL_heatOn 8 = .ok (.lastore, 1) := by decide +kernel
theorem dL_heatOn_9 : decode cL_heatOn 9 = .ok (.goto 6, 3) := by decide +kernel
theorem dL_heatOn_12 : decode cL_heatOn 12 = .ok (.astore_n 3, 1) := by decide +kernel
theorem dL_heatOn_13 : decode cL_heatOn 13 = .ok (.iconst 1, 1) := by decide +kernel
theorem dL_heatOn_14 : decode cL_heatOn 14 = .ok (.ireturn, 1) := by decide +kernel
theorem dL_heatOn_15 : decode cL_heatOn 15 = .ok (.iconst 0, 1) := by decide +kernel
theorem dL_heatOn_16 : decode cL_heatOn 16 = .ok (.ireturn, 1) := by decide +kernel
theorem dL_promisesOn_0 : decode cL_promisesOn 0 = .ok (.aload_n 2, 1) := by decide +kernel
theorem dL_promisesOn_1 : decode cL_promisesOn 1 = .ok (.iconst 0, 1) := by decide +kernel
theorem dL_promisesOn_2 : decode cL_promisesOn 2 = .ok (.aload_n 0, 1) := by decide +kernel
theorem dL_promisesOn_3 : decode cL_promisesOn 3 = .ok (.iload_n 1, 1) := by decide +kernel
theorem dL_promisesOn_4 : decode cL_promisesOn 4 = .ok (.invokevirtual 39, 3) := by decide +kernel
theorem dL_promisesOn_7 : decode cL_promisesOn 7 = .ok (.i2l, 1) := by decide +kernel
theorem dL_promisesOn_8 : decode cL_promisesOn 8 = .ok (.lastore, 1) := by decide +kernel
theorem dL_promisesOn_9 : decode cL_promisesOn 9 = .ok (.goto 6, 3) := by decide +kernel
theorem dL_promisesOn_12 : decode cL_promisesOn 12 = .ok (.astore_n 3, 1) := by decide +kernel
theorem dL_promisesOn_13 : decode cL_promisesOn 13 = .ok (.iconst 1, 1) := by decide +kernel
theorem dL_promisesOn_14 : decode cL_promisesOn 14 = .ok (.ireturn, 1) := by decide +kernel
theorem dL_promisesOn_15 : decode cL_promisesOn 15 = .ok (.iconst 0, 1) := by decide +kernel
theorem dL_promisesOn_16 : decode cL_promisesOn 16 = .ok (.ireturn, 1) := by decide +kernel
theorem dL_makerOf_0 : decode cL_makerOf 0 = .ok (.aload_n 2, 1) := by decide +kernel
theorem dL_makerOf_1 : decode cL_makerOf 1 = .ok (.iconst 0, 1) := by decide +kernel
theorem dL_makerOf_2 : decode cL_makerOf 2 = .ok (.aload_n 0, 1) := by decide +kernel
theorem dL_makerOf_3 : decode cL_makerOf 3 = .ok (.iload_n 1, 1) := by decide +kernel
theorem dL_makerOf_4 : decode cL_makerOf 4 = .ok (.invokevirtual 42, 3) := by decide +kernel
theorem dL_makerOf_7 : decode cL_makerOf 7 = .ok (.i2l, 1) := by decide +kernel
theorem dL_makerOf_8 : decode cL_makerOf 8 = .ok (.lastore, 1) := by decide +kernel
theorem dL_makerOf_9 : decode cL_makerOf 9 = .ok (.goto 6, 3) := by decide +kernel
theorem dL_makerOf_12 : decode cL_makerOf 12 = .ok (.astore_n 3, 1) := by decide +kernel
theorem dL_makerOf_13 : decode cL_makerOf 13 = .ok (.iconst 1, 1) := by decide +kernel
theorem dL_makerOf_14 : decode cL_makerOf 14 = .ok (.ireturn, 1) := by decide +kernel
theorem dL_makerOf_15 : decode cL_makerOf 15 = .ok (.iconst 0, 1) := by decide +kernel
theorem dL_makerOf_16 : decode cL_makerOf 16 = .ok (.ireturn, 1) := by decide +kernel
theorem dL_shelfOf_0 : decode cL_shelfOf 0 = .ok (.aload_n 2, 1) := by decide +kernel
theorem dL_shelfOf_1 : decode cL_shelfOf 1 = .ok (.iconst 0, 1) := by decide +kernel
theorem dL_shelfOf_2 : decode cL_shelfOf 2 = .ok (.aload_n 0, 1) := by decide +kernel
theorem dL_shelfOf_3 : decode cL_shelfOf 3 = .ok (.iload_n 1, 1) := by decide +kernel
theorem dL_shelfOf_4 : decode cL_shelfOf 4 = .ok (.invokevirtual 45, 3) := by decide +kernel
theorem dL_shelfOf_7 : decode cL_shelfOf 7 = .ok (.i2l, 1) := by decide +kernel
theorem dL_shelfOf_8 : decode cL_shelfOf 8 = .ok (.lastore, 1) := by decide +kernel
theorem dL_shelfOf_9 : decode cL_shelfOf 9 = .ok (.goto 6, 3) := by decide +kernel
theorem dL_shelfOf_12 : decode cL_shelfOf 12 = .ok (.astore_n 3, 1) := by decide +kernel
theorem dL_shelfOf_13 : decode cL_shelfOf 13 = .ok (.iconst 1, 1) := by decide +kernel
theorem dL_shelfOf_14 : decode cL_shelfOf 14 = .ok (.ireturn, 1) := by decide +kernel
theorem dL_shelfOf_15 : decode cL_shelfOf 15 = .ok (.iconst 0, 1) := by decide +kernel
theorem dL_shelfOf_16 : decode cL_shelfOf 16 = .ok (.ireturn, 1) := by decide +kernel
theorem dL_heatOf_0 : decode cL_heatOf 0 = .ok (.aload_n 2, 1) := by decide +kernel
theorem dL_heatOf_1 : decode cL_heatOf 1 = .ok (.iconst 0, 1) := by decide +kernel
theorem dL_heatOf_2 : decode cL_heatOf 2 = .ok (.aload_n 0, 1) := by decide +kernel
theorem dL_heatOf_3 : decode cL_heatOf 3 = .ok (.iload_n 1, 1) := by decide +kernel
theorem dL_heatOf_4 : decode cL_heatOf 4 = .ok (.invokevirtual 48, 3) := by decide +kernel
theorem dL_heatOf_7 : decode cL_heatOf 7 = .ok (.i2l, 1) := by decide +kernel
theorem dL_heatOf_8 : decode cL_heatOf 8 = .ok (.lastore, 1) := by decide +kernel
theorem dL_heatOf_9 : decode cL_heatOf 9 = .ok (.goto 6, 3) := by decide +kernel
theorem dL_heatOf_12 : decode cL_heatOf 12 = .ok (.astore_n 3, 1) := by decide +kernel
theorem dL_heatOf_13 : decode cL_heatOf 13 = .ok (.iconst 1, 1) := by decide +kernel
theorem dL_heatOf_14 : decode cL_heatOf 14 = .ok (.ireturn, 1) := by decide +kernel
theorem dL_heatOf_15 : decode cL_heatOf 15 = .ok (.iconst 0, 1) := by decide +kernel
theorem dL_heatOf_16 : decode cL_heatOf 16 = .ok (.ireturn, 1) := by decide +kernel
theorem dL_ageOf_0 : decode cL_ageOf 0 = .ok (.aload_n 2, 1) := by decide +kernel
theorem dL_ageOf_1 : decode cL_ageOf 1 = .ok (.iconst 0, 1) := by decide +kernel
theorem dL_ageOf_2 : decode cL_ageOf 2 = .ok (.aload_n 0, 1) := by decide +kernel
theorem dL_ageOf_3 : decode cL_ageOf 3 = .ok (.iload_n 1, 1) := by decide +kernel
theorem dL_ageOf_4 : decode cL_ageOf 4 = .ok (.invokevirtual 51, 3) := by decide +kernel
theorem dL_ageOf_7 : decode cL_ageOf 7 = .ok (.i2l, 1) := by decide +kernel
theorem dL_ageOf_8 : decode cL_ageOf 8 = .ok (.lastore, 1) := by decide +kernel
theorem dL_ageOf_9 : decode cL_ageOf 9 = .ok (.goto 6, 3) := by decide +kernel
theorem dL_ageOf_12 : decode cL_ageOf 12 = .ok (.astore_n 3, 1) := by decide +kernel
theorem dL_ageOf_13 : decode cL_ageOf 13 = .ok (.iconst 1, 1) := by decide +kernel
theorem dL_ageOf_14 : decode cL_ageOf 14 = .ok (.ireturn, 1) := by decide +kernel
theorem dL_ageOf_15 : decode cL_ageOf 15 = .ok (.iconst 0, 1) := by decide +kernel
theorem dL_ageOf_16 : decode cL_ageOf 16 = .ok (.ireturn, 1) := by decide +kernel
theorem dL_hoursLeft_0 : decode cL_hoursLeft 0 = .ok (.aload_n 2, 1) := by decide +kernel
theorem dL_hoursLeft_1 : decode cL_hoursLeft 1 = .ok (.iconst 0, 1) := by decide +kernel
theorem dL_hoursLeft_2 : decode cL_hoursLeft 2 = .ok (.aload_n 0, 1) := by decide +kernel
theorem dL_hoursLeft_3 : decode cL_hoursLeft 3 = .ok (.iload_n 1, 1) := by decide +kernel
theorem dL_hoursLeft_4 : decode cL_hoursLeft 4 = .ok (.invokevirtual 54, 3) := by decide +kernel
theorem dL_hoursLeft_7 : decode cL_hoursLeft 7 = .ok (.i2l, 1) := by decide +kernel
theorem dL_hoursLeft_8 : decode cL_hoursLeft 8 = .ok (.lastore, 1) := by decide +kernel
theorem dL_hoursLeft_9 : decode cL_hoursLeft 9 = .ok (.goto 6, 3) := by decide +kernel
theorem dL_hoursLeft_12 : decode cL_hoursLeft 12 = .ok (.astore_n 3, 1) := by decide +kernel
theorem dL_hoursLeft_13 : decode cL_hoursLeft 13 = .ok (.iconst 1, 1) := by decide +kernel
theorem dL_hoursLeft_14 : decode cL_hoursLeft 14 = .ok (.ireturn, 1) := by decide +kernel
theorem dL_hoursLeft_15 : decode cL_hoursLeft 15 = .ok (.iconst 0, 1) := by decide +kernel
theorem dL_hoursLeft_16 : decode cL_hoursLeft 16 = .ok (.ireturn, 1) := by decide +kernel
theorem dL_isFrozen_0 : decode cL_isFrozen 0 = .ok (.aload_n 2, 1) := by decide +kernel
theorem dL_isFrozen_1 : decode cL_isFrozen 1 = .ok (.iconst 0, 1) := by decide +kernel
theorem dL_isFrozen_2 : decode cL_isFrozen 2 = .ok (.aload_n 0, 1) := by decide +kernel
theorem dL_isFrozen_3 : decode cL_isFrozen 3 = .ok (.iload_n 1, 1) := by decide +kernel
theorem dL_isFrozen_4 : decode cL_isFrozen 4 = .ok (.invokevirtual 57, 3) := by decide +kernel
theorem dL_isFrozen_7 : decode cL_isFrozen 7 = .ok (.ifCond .eq 7, 3) := by decide +kernel
theorem dL_isFrozen_10 : decode cL_isFrozen 10 = .ok (.lconst 1, 1) := by decide +kernel
theorem dL_isFrozen_11 : decode cL_isFrozen 11 = .ok (.goto 4, 3) := by decide +kernel
theorem dL_isFrozen_14 : decode cL_isFrozen 14 = .ok (.lconst 0, 1) := by decide +kernel
theorem dL_isFrozen_15 : decode cL_isFrozen 15 = .ok (.lastore, 1) := by decide +kernel
theorem dL_isFrozen_16 : decode cL_isFrozen 16 = .ok (.goto 6, 3) := by decide +kernel
theorem dL_isFrozen_19 : decode cL_isFrozen 19 = .ok (.astore_n 3, 1) := by decide +kernel
theorem dL_isFrozen_20 : decode cL_isFrozen 20 = .ok (.iconst 1, 1) := by decide +kernel
theorem dL_isFrozen_21 : decode cL_isFrozen 21 = .ok (.ireturn, 1) := by decide +kernel
theorem dL_isFrozen_22 : decode cL_isFrozen 22 = .ok (.iconst 0, 1) := by decide +kernel
theorem dL_isFrozen_23 : decode cL_isFrozen 23 = .ok (.ireturn, 1) := by decide +kernel
theorem dL_isThawed_0 : decode cL_isThawed 0 = .ok (.aload_n 2, 1) := by decide +kernel
theorem dL_isThawed_1 : decode cL_isThawed 1 = .ok (.iconst 0, 1) := by decide +kernel
theorem dL_isThawed_2 : decode cL_isThawed 2 = .ok (.aload_n 0, 1) := by decide +kernel
theorem dL_isThawed_3 : decode cL_isThawed 3 = .ok (.iload_n 1, 1) := by decide +kernel
theorem dL_isThawed_4 : decode cL_isThawed 4 = .ok (.invokevirtual 61, 3) := by decide +kernel
theorem dL_isThawed_7 : decode cL_isThawed 7 = .ok (.ifCond .eq 7, 3) := by decide +kernel
theorem dL_isThawed_10 : decode cL_isThawed 10 = .ok (.lconst 1, 1) := by decide +kernel
theorem dL_isThawed_11 : decode cL_isThawed 11 = .ok (.goto 4, 3) := by decide +kernel
theorem dL_isThawed_14 : decode cL_isThawed 14 = .ok (.lconst 0, 1) := by decide +kernel
theorem dL_isThawed_15 : decode cL_isThawed 15 = .ok (.lastore, 1) := by decide +kernel
theorem dL_isThawed_16 : decode cL_isThawed 16 = .ok (.goto 6, 3) := by decide +kernel
theorem dL_isThawed_19 : decode cL_isThawed 19 = .ok (.astore_n 3, 1) := by decide +kernel
theorem dL_isThawed_20 : decode cL_isThawed 20 = .ok (.iconst 1, 1) := by decide +kernel
theorem dL_isThawed_21 : decode cL_isThawed 21 = .ok (.ireturn, 1) := by decide +kernel
theorem dL_isThawed_22 : decode cL_isThawed 22 = .ok (.iconst 0, 1) := by decide +kernel
theorem dL_isThawed_23 : decode cL_isThawed 23 = .ok (.ireturn, 1) := by decide +kernel
theorem dL_isKept_0 : decode cL_isKept 0 = .ok (.aload_n 2, 1) := by decide +kernel
theorem dL_isKept_1 : decode cL_isKept 1 = .ok (.iconst 0, 1) := by decide +kernel
theorem dL_isKept_2 : decode cL_isKept 2 = .ok (.aload_n 0, 1) := by decide +kernel
theorem dL_isKept_3 : decode cL_isKept 3 = .ok (.iload_n 1, 1) := by decide +kernel
theorem dL_isKept_4 : decode cL_isKept 4 = .ok (.invokevirtual 64, 3) := by decide +kernel
theorem dL_isKept_7 : decode cL_isKept 7 = .ok (.ifCond .eq 7, 3) := by decide +kernel
theorem dL_isKept_10 : decode cL_isKept 10 = .ok (.lconst 1, 1) := by decide +kernel
theorem dL_isKept_11 : decode cL_isKept 11 = .ok (.goto 4, 3) := by decide +kernel
theorem dL_isKept_14 : decode cL_isKept 14 = .ok (.lconst 0, 1) := by decide +kernel
theorem dL_isKept_15 : decode cL_isKept 15 = .ok (.lastore, 1) := by decide +kernel
theorem dL_isKept_16 : decode cL_isKept 16 = .ok (.goto 6, 3) := by decide +kernel
theorem dL_isKept_19 : decode cL_isKept 19 = .ok (.astore_n 3, 1) := by decide +kernel
theorem dL_isKept_20 : decode cL_isKept 20 = .ok (.iconst 1, 1) := by decide +kernel
theorem dL_isKept_21 : decode cL_isKept 21 = .ok (.ireturn, 1) := by decide +kernel
theorem dL_isKept_22 : decode cL_isKept 22 = .ok (.iconst 0, 1) := by decide +kernel
theorem dL_isKept_23 : decode cL_isKept 23 = .ok (.ireturn, 1) := by decide +kernel
theorem dL_isExpired_0 : decode cL_isExpired 0 = .ok (.aload_n 2, 1) := by decide +kernel
theorem dL_isExpired_1 : decode cL_isExpired 1 = .ok (.iconst 0, 1) := by decide +kernel
theorem dL_isExpired_2 : decode cL_isExpired 2 = .ok (.aload_n 0, 1) := by decide +kernel
theorem dL_isExpired_3 : decode cL_isExpired 3 = .ok (.iload_n 1, 1) := by decide +kernel
theorem dL_isExpired_4 : decode cL_isExpired 4 = .ok (.invokevirtual 67, 3) := by decide +kernel
theorem dL_isExpired_7 : decode cL_isExpired 7 = .ok (.ifCond .eq 7, 3) := by decide +kernel
theorem dL_isExpired_10 : decode cL_isExpired 10 = .ok (.lconst 1, 1) := by decide +kernel
theorem dL_isExpired_11 : decode cL_isExpired 11 = .ok (.goto 4, 3) := by decide +kernel
theorem dL_isExpired_14 : decode cL_isExpired 14 = .ok (.lconst 0, 1) := by decide +kernel
theorem dL_isExpired_15 : decode cL_isExpired 15 = .ok (.lastore, 1) := by decide +kernel
theorem dL_isExpired_16 : decode cL_isExpired 16 = .ok (.goto 6, 3) := by decide +kernel
theorem dL_isExpired_19 : decode cL_isExpired 19 = .ok (.astore_n 3, 1) := by decide +kernel
theorem dL_isExpired_20 : decode cL_isExpired 20 = .ok (.iconst 1, 1) := by decide +kernel
theorem dL_isExpired_21 : decode cL_isExpired 21 = .ok (.ireturn, 1) := by decide +kernel
theorem dL_isExpired_22 : decode cL_isExpired 22 = .ok (.iconst 0, 1) := by decide +kernel
theorem dL_isExpired_23 : decode cL_isExpired 23 = .ok (.ireturn, 1) := by decide +kernel
theorem dL_owedBy_0 : decode cL_owedBy 0 = .ok (.aload_n 2, 1) := by decide +kernel
theorem dL_owedBy_1 : decode cL_owedBy 1 = .ok (.iconst 0, 1) := by decide +kernel
theorem dL_owedBy_2 : decode cL_owedBy 2 = .ok (.aload_n 0, 1) := by decide +kernel
theorem dL_owedBy_3 : decode cL_owedBy 3 = .ok (.iload_n 1, 1) := by decide +kernel
theorem dL_owedBy_4 : decode cL_owedBy 4 = .ok (.invokevirtual 70, 3) := by decide +kernel
theorem dL_owedBy_7 : decode cL_owedBy 7 = .ok (.i2l, 1) := by decide +kernel
theorem dL_owedBy_8 : decode cL_owedBy 8 = .ok (.lastore, 1) := by decide +kernel
theorem dL_owedBy_9 : decode cL_owedBy 9 = .ok (.goto 6, 3) := by decide +kernel
theorem dL_owedBy_12 : decode cL_owedBy 12 = .ok (.astore_n 3, 1) := by decide +kernel
theorem dL_owedBy_13 : decode cL_owedBy 13 = .ok (.iconst 1, 1) := by decide +kernel
theorem dL_owedBy_14 : decode cL_owedBy 14 = .ok (.ireturn, 1) := by decide +kernel
theorem dL_owedBy_15 : decode cL_owedBy 15 = .ok (.iconst 0, 1) := by decide +kernel
theorem dL_owedBy_16 : decode cL_owedBy 16 = .ok (.ireturn, 1) := by decide +kernel
theorem dL_honourOf_0 : decode cL_honourOf 0 = .ok (.aload_n 2, 1) := by decide +kernel
theorem dL_honourOf_1 : decode cL_honourOf 1 = .ok (.iconst 0, 1) := by decide +kernel
theorem dL_honourOf_2 : decode cL_honourOf 2 = .ok (.aload_n 0, 1) := by decide +kernel
theorem dL_honourOf_3 : decode cL_honourOf 3 = .ok (.iload_n 1, 1) := by decide +kernel
theorem dL_honourOf_4 : decode cL_honourOf 4 = .ok (.invokevirtual 73, 3) := by decide +kernel
theorem dL_honourOf_7 : decode cL_honourOf 7 = .ok (.i2l, 1) := by decide +kernel
theorem dL_honourOf_8 : decode cL_honourOf 8 = .ok (.lastore, 1) := by decide +kernel
theorem dL_honourOf_9 : decode cL_honourOf 9 = .ok (.goto 6, 3) := by decide +kernel
theorem dL_honourOf_12 : decode cL_honourOf 12 = .ok (.astore_n 3, 1) := by decide +kernel
theorem dL_honourOf_13 : decode cL_honourOf 13 = .ok (.iconst 1, 1) := by decide +kernel
theorem dL_honourOf_14 : decode cL_honourOf 14 = .ok (.ireturn, 1) := by decide +kernel
theorem dL_honourOf_15 : decode cL_honourOf 15 = .ok (.iconst 0, 1) := by decide +kernel
theorem dL_honourOf_16 : decode cL_honourOf 16 = .ok (.ireturn, 1) := by decide +kernel
theorem dL_hoursUntilFrozen_0 : decode cL_hoursUntilFrozen 0 = .ok (.aload_n 2, 1) := by decide +kernel
theorem dL_hoursUntilFrozen_1 : decode cL_hoursUntilFrozen 1 = .ok (.iconst 0, 1) := by decide +kernel
theorem dL_hoursUntilFrozen_2 : decode cL_hoursUntilFrozen 2 = .ok (.aload_n 0, 1) := by decide +kernel
theorem dL_hoursUntilFrozen_3 : decode cL_hoursUntilFrozen 3 = .ok (.iload_n 1, 1) := by decide +kernel
theorem dL_hoursUntilFrozen_4 : decode cL_hoursUntilFrozen 4 = .ok (.invokevirtual 76, 3) := by decide +kernel
theorem dL_hoursUntilFrozen_7 : decode cL_hoursUntilFrozen 7 = .ok (.i2l, 1) := by decide +kernel
theorem dL_hoursUntilFrozen_8 : decode cL_hoursUntilFrozen 8 = .ok (.lastore, 1) := by decide +kernel
theorem dL_hoursUntilFrozen_9 : decode cL_hoursUntilFrozen 9 = .ok (.goto 6, 3) := by decide +kernel
theorem dL_hoursUntilFrozen_12 : decode cL_hoursUntilFrozen 12 = .ok (.astore_n 3, 1) := by decide +kernel
theorem dL_hoursUntilFrozen_13 : decode cL_hoursUntilFrozen 13 = .ok (.iconst 1, 1) := by decide +kernel
theorem dL_hoursUntilFrozen_14 : decode cL_hoursUntilFrozen 14 = .ok (.ireturn, 1) := by decide +kernel
theorem dL_hoursUntilFrozen_15 : decode cL_hoursUntilFrozen 15 = .ok (.iconst 0, 1) := by decide +kernel
theorem dL_hoursUntilFrozen_16 : decode cL_hoursUntilFrozen 16 = .ok (.ireturn, 1) := by decide +kernel
theorem dL_hoursUntilThawed_0 : decode cL_hoursUntilThawed 0 = .ok (.aload_n 2, 1) := by decide +kernel
theorem dL_hoursUntilThawed_1 : decode cL_hoursUntilThawed 1 = .ok (.iconst 0, 1) := by decide +kernel
theorem dL_hoursUntilThawed_2 : decode cL_hoursUntilThawed 2 = .ok (.aload_n 0, 1) := by decide +kernel
theorem dL_hoursUntilThawed_3 : decode cL_hoursUntilThawed 3 = .ok (.iload_n 1, 1) := by decide +kernel
theorem dL_hoursUntilThawed_4 : decode cL_hoursUntilThawed 4 = .ok (.invokevirtual 79, 3) := by decide +kernel
theorem dL_hoursUntilThawed_7 : decode cL_hoursUntilThawed 7 = .ok (.i2l, 1) := by decide +kernel
theorem dL_hoursUntilThawed_8 : decode cL_hoursUntilThawed 8 = .ok (.lastore, 1) := by decide +kernel
theorem dL_hoursUntilThawed_9 : decode cL_hoursUntilThawed 9 = .ok (.goto 6, 3) := by decide +kernel
theorem dL_hoursUntilThawed_12 : decode cL_hoursUntilThawed 12 = .ok (.astore_n 3, 1) := by decide +kernel
theorem dL_hoursUntilThawed_13 : decode cL_hoursUntilThawed 13 = .ok (.iconst 1, 1) := by decide +kernel
theorem dL_hoursUntilThawed_14 : decode cL_hoursUntilThawed 14 = .ok (.ireturn, 1) := by decide +kernel
theorem dL_hoursUntilThawed_15 : decode cL_hoursUntilThawed 15 = .ok (.iconst 0, 1) := by decide +kernel
theorem dL_hoursUntilThawed_16 : decode cL_hoursUntilThawed 16 = .ok (.ireturn, 1) := by decide +kernel
theorem dL_hoursUntilExpired_0 : decode cL_hoursUntilExpired 0 = .ok (.aload_n 2, 1) := by decide +kernel
theorem dL_hoursUntilExpired_1 : decode cL_hoursUntilExpired 1 = .ok (.iconst 0, 1) := by decide +kernel
theorem dL_hoursUntilExpired_2 : decode cL_hoursUntilExpired 2 = .ok (.aload_n 0, 1) := by decide +kernel
theorem dL_hoursUntilExpired_3 : decode cL_hoursUntilExpired 3 = .ok (.iload_n 1, 1) := by decide +kernel
theorem dL_hoursUntilExpired_4 : decode cL_hoursUntilExpired 4 = .ok (.invokevirtual 82, 3) := by decide +kernel
theorem dL_hoursUntilExpired_7 : decode cL_hoursUntilExpired 7 = .ok (.i2l, 1) := by decide +kernel
theorem dL_hoursUntilExpired_8 : decode cL_hoursUntilExpired 8 = .ok (.lastore, 1) := by decide +kernel
theorem dL_hoursUntilExpired_9 : decode cL_hoursUntilExpired 9 = .ok (.goto 6, 3) := by decide +kernel
theorem dL_hoursUntilExpired_12 : decode cL_hoursUntilExpired 12 = .ok (.astore_n 3, 1) := by decide +kernel
theorem dL_hoursUntilExpired_13 : decode cL_hoursUntilExpired 13 = .ok (.iconst 1, 1) := by decide +kernel
theorem dL_hoursUntilExpired_14 : decode cL_hoursUntilExpired 14 = .ok (.ireturn, 1) := by decide +kernel
theorem dL_hoursUntilExpired_15 : decode cL_hoursUntilExpired 15 = .ok (.iconst 0, 1) := by decide +kernel
theorem dL_hoursUntilExpired_16 : decode cL_hoursUntilExpired 16 = .ok (.ireturn, 1) := by decide +kernel
theorem dL_leftIn_0 : decode cL_leftIn 0 = .ok (.aload_n 2, 1) := by decide +kernel
theorem dL_leftIn_1 : decode cL_leftIn 1 = .ok (.iconst 0, 1) := by decide +kernel
theorem dL_leftIn_2 : decode cL_leftIn 2 = .ok (.aload_n 0, 1) := by decide +kernel
theorem dL_leftIn_3 : decode cL_leftIn 3 = .ok (.iload_n 1, 1) := by decide +kernel
theorem dL_leftIn_4 : decode cL_leftIn 4 = .ok (.invokevirtual 85, 3) := by decide +kernel
theorem dL_leftIn_7 : decode cL_leftIn 7 = .ok (.i2l, 1) := by decide +kernel
theorem dL_leftIn_8 : decode cL_leftIn 8 = .ok (.lastore, 1) := by decide +kernel
theorem dL_leftIn_9 : decode cL_leftIn 9 = .ok (.goto 6, 3) := by decide +kernel
theorem dL_leftIn_12 : decode cL_leftIn 12 = .ok (.astore_n 3, 1) := by decide +kernel
theorem dL_leftIn_13 : decode cL_leftIn 13 = .ok (.iconst 1, 1) := by decide +kernel
theorem dL_leftIn_14 : decode cL_leftIn 14 = .ok (.ireturn, 1) := by decide +kernel
theorem dL_leftIn_15 : decode cL_leftIn 15 = .ok (.iconst 0, 1) := by decide +kernel
theorem dL_leftIn_16 : decode cL_leftIn 16 = .ok (.ireturn, 1) := by decide +kernel
theorem dL_law_0 : decode cL_law 0 = .ok (.new 8, 3) := by decide +kernel
theorem dL_law_3 : decode cL_law 3 = .ok (.dup, 1) := by decide +kernel
theorem dL_law_4 : decode cL_law 4 = .ok (.invokespecial 88, 3) := by decide +kernel
theorem dL_law_7 : decode cL_law 7 = .ok (.astore_n 1, 1) := by decide +kernel
theorem dL_law_8 : decode cL_law 8 = .ok (.new 89, 3) := by decide +kernel
theorem dL_law_11 : decode cL_law 11 = .ok (.dup, 1) := by decide +kernel
theorem dL_law_12 : decode cL_law 12 = .ok (.invokespecial 91, 3) := by decide +kernel
theorem dL_law_15 : decode cL_law 15 = .ok (.astore_n 2, 1) := by decide +kernel
theorem dL_law_16 : decode cL_law 16 = .ok (.iconst 1, 1) := by decide +kernel
theorem dL_law_17 : decode cL_law 17 = .ok (.newarray .long, 2) := by decide +kernel
theorem dL_law_19 : decode cL_law 19 = .ok (.astore_n 3, 1) := by decide +kernel
theorem dL_law_20 : decode cL_law 20 = .ok (.iconst 0, 1) := by decide +kernel
theorem dL_law_21 : decode cL_law 21 = .ok (.istore 4, 2) := by decide +kernel
theorem dL_law_23 : decode cL_law 23 = .ok (.iload 4, 2) := by decide +kernel
theorem dL_law_25 : decode cL_law 25 = .ok (.aload_n 0, 1) := by decide +kernel
theorem dL_law_26 : decode cL_law 26 = .ok (.arraylength, 1) := by decide +kernel
theorem dL_law_27 : decode cL_law 27 = .ok (.iconst 4, 1) := by decide +kernel
theorem dL_law_28 : decode cL_law 28 = .ok (.isub, 1) := by decide +kernel
theorem dL_law_29 : decode cL_law 29 = .ok (.if_icmp .gt 1701, 3) := by decide +kernel
theorem dL_law_32 : decode cL_law 32 = .ok (.aload_n 0, 1) := by decide +kernel
theorem dL_law_33 : decode cL_law 33 = .ok (.iload 4, 2) := by decide +kernel
theorem dL_law_35 : decode cL_law 35 = .ok (.iaload, 1) := by decide +kernel
theorem dL_law_36 : decode cL_law 36 = .ok (.bipush 63, 2) := by decide +kernel
theorem dL_law_38 : decode cL_law 38 = .ok (.iand, 1) := by decide +kernel
theorem dL_law_39 : decode cL_law 39 = .ok (.tableswitch 1685 0 33 #[149, 229, 297, 353, 421, 434, 490, 503, 516, 572, 628, 684, 697, 710, 723, 779, 835, 891, 947, 1003, 1066, 1129, 1192, 1255, 1311, 1367, 1380, 1436, 1492, 1548, 1604, 1617, 1630, 1671], 149) := by decide +kernel
theorem dL_law_188 : decode cL_law 188 = .ok (.aload_n 1, 1) := by decide +kernel
theorem dL_law_189 : decode cL_law 189 = .ok (.aload_n 0, 1) := by decide +kernel
theorem dL_law_190 : decode cL_law 190 = .ok (.iload 4, 2) := by decide +kernel
theorem dL_law_192 : decode cL_law 192 = .ok (.iconst 1, 1) := by decide +kernel
theorem dL_law_193 : decode cL_law 193 = .ok (.iadd, 1) := by decide +kernel
theorem dL_law_194 : decode cL_law 194 = .ok (.iaload, 1) := by decide +kernel
theorem dL_law_195 : decode cL_law 195 = .ok (.aload_n 0, 1) := by decide +kernel
theorem dL_law_196 : decode cL_law 196 = .ok (.iload 4, 2) := by decide +kernel
theorem dL_law_198 : decode cL_law 198 = .ok (.iconst 2, 1) := by decide +kernel
theorem dL_law_199 : decode cL_law 199 = .ok (.iadd, 1) := by decide +kernel
theorem dL_law_200 : decode cL_law 200 = .ok (.iaload, 1) := by decide +kernel
theorem dL_law_201 : decode cL_law 201 = .ok (.aload_n 0, 1) := by decide +kernel
theorem dL_law_202 : decode cL_law 202 = .ok (.iload 4, 2) := by decide +kernel
theorem dL_law_204 : decode cL_law 204 = .ok (.iconst 3, 1) := by decide +kernel
theorem dL_law_205 : decode cL_law 205 = .ok (.iadd, 1) := by decide +kernel
theorem dL_law_206 : decode cL_law 206 = .ok (.iaload, 1) := by decide +kernel
theorem dL_law_207 : decode cL_law 207 = .ok (.aload_n 3, 1) := by decide +kernel
theorem dL_law_208 : decode cL_law 208 = .ok (.invokestatic 92, 3) := by decide +kernel
theorem dL_law_211 : decode cL_law 211 = .ok (.istore 5, 2) := by decide +kernel
theorem dL_law_213 : decode cL_law 213 = .ok (.aload_n 2, 1) := by decide +kernel
theorem dL_law_214 : decode cL_law 214 = .ok (.aload_n 0, 1) := by decide +kernel
theorem dL_law_215 : decode cL_law 215 = .ok (.iload 4, 2) := by decide +kernel
theorem dL_law_217 : decode cL_law 217 = .ok (.iconst 1, 1) := by decide +kernel
theorem dL_law_218 : decode cL_law 218 = .ok (.iadd, 1) := by decide +kernel
theorem dL_law_219 : decode cL_law 219 = .ok (.iaload, 1) := by decide +kernel
theorem dL_law_220 : decode cL_law 220 = .ok (.aload_n 0, 1) := by decide +kernel
theorem dL_law_221 : decode cL_law 221 = .ok (.iload 4, 2) := by decide +kernel
theorem dL_law_223 : decode cL_law 223 = .ok (.iconst 2, 1) := by decide +kernel
theorem dL_law_224 : decode cL_law 224 = .ok (.iadd, 1) := by decide +kernel
theorem dL_law_225 : decode cL_law 225 = .ok (.iaload, 1) := by decide +kernel
theorem dL_law_226 : decode cL_law 226 = .ok (.aload_n 0, 1) := by decide +kernel
theorem dL_law_227 : decode cL_law 227 = .ok (.iload 4, 2) := by decide +kernel
theorem dL_law_229 : decode cL_law 229 = .ok (.iconst 3, 1) := by decide +kernel
theorem dL_law_230 : decode cL_law 230 = .ok (.iadd, 1) := by decide +kernel
theorem dL_law_231 : decode cL_law 231 = .ok (.iaload, 1) := by decide +kernel
theorem dL_law_232 : decode cL_law 232 = .ok (.invokevirtual 97, 3) := by decide +kernel
theorem dL_law_235 : decode cL_law 235 = .ok (.istore 6, 2) := by decide +kernel
theorem dL_law_237 : decode cL_law 237 = .ok (.aload_n 2, 1) := by decide +kernel
theorem dL_law_238 : decode cL_law 238 = .ok (.invokevirtual 98, 3) := by decide +kernel
theorem dL_law_241 : decode cL_law 241 = .ok (.iload 5, 2) := by decide +kernel
theorem dL_law_243 : decode cL_law 243 = .ok (.if_icmp .eq 5, 3) := by decide +kernel
theorem dL_law_246 : decode cL_law 246 = .ok (.iconst 0, 1) := by decide +kernel
theorem dL_law_247 : decode cL_law 247 = .ok (.ireturn, 1) := by decide +kernel
theorem dL_law_248 : decode cL_law 248 = .ok (.iload 5, 2) := by decide +kernel
theorem dL_law_250 : decode cL_law 250 = .ok (.ifCond .ne 15, 3) := by decide +kernel
theorem dL_law_253 : decode cL_law 253 = .ok (.aload_n 3, 1) := by decide +kernel
theorem dL_law_254 : decode cL_law 254 = .ok (.iconst 0, 1) := by decide +kernel
theorem dL_law_255 : decode cL_law 255 = .ok (.laload, 1) := by decide +kernel
theorem dL_law_256 : decode cL_law 256 = .ok (.iload 6, 2) := by decide +kernel
theorem dL_law_258 : decode cL_law 258 = .ok (.i2l, 1) := by decide +kernel
theorem dL_law_259 : decode cL_law 259 = .ok (.lcmp, 1) := by decide +kernel
theorem dL_law_260 : decode cL_law 260 = .ok (.ifCond .eq 5, 3) := by decide +kernel
theorem dL_law_263 : decode cL_law 263 = .ok (.iconst 0, 1) := by decide +kernel
theorem dL_law_264 : decode cL_law 264 = .ok (.ireturn, 1) := by decide +kernel
theorem dL_law_265 : decode cL_law 265 = .ok (.goto 1459, 3) := by decide +kernel
theorem dL_law_268 : decode cL_law 268 = .ok (.aload_n 1, 1) := by decide +kernel
theorem dL_law_269 : decode cL_law 269 = .ok (.aload_n 0, 1) := by decide +kernel
theorem dL_law_270 : decode cL_law 270 = .ok (.iload 4, 2) := by decide +kernel
theorem dL_law_272 : decode cL_law 272 = .ok (.iconst 1, 1) := by decide +kernel
theorem dL_law_273 : decode cL_law 273 = .ok (.iadd, 1) := by decide +kernel
theorem dL_law_274 : decode cL_law 274 = .ok (.iaload, 1) := by decide +kernel
theorem dL_law_275 : decode cL_law 275 = .ok (.aload_n 0, 1) := by decide +kernel
theorem dL_law_276 : decode cL_law 276 = .ok (.iload 4, 2) := by decide +kernel
theorem dL_law_278 : decode cL_law 278 = .ok (.iconst 2, 1) := by decide +kernel
theorem dL_law_279 : decode cL_law 279 = .ok (.iadd, 1) := by decide +kernel
theorem dL_law_280 : decode cL_law 280 = .ok (.iaload, 1) := by decide +kernel
theorem dL_law_281 : decode cL_law 281 = .ok (.aload_n 3, 1) := by decide +kernel
theorem dL_law_282 : decode cL_law 282 = .ok (.invokestatic 102, 3) := by decide +kernel
theorem dL_law_285 : decode cL_law 285 = .ok (.istore 5, 2) := by decide +kernel
theorem dL_law_287 : decode cL_law 287 = .ok (.aload_n 2, 1) := by decide +kernel
theorem dL_law_288 : decode cL_law 288 = .ok (.aload_n 0, 1) := by decide +kernel
theorem dL_law_289 : decode cL_law 289 = .ok (.iload 4, 2) := by decide +kernel
theorem dL_law_291 : decode cL_law 291 = .ok (.iconst 1, 1) := by decide +kernel
theorem dL_law_292 : decode cL_law 292 = .ok (.iadd, 1) := by decide +kernel
theorem dL_law_293 : decode cL_law 293 = .ok (.iaload, 1) := by decide +kernel
theorem dL_law_294 : decode cL_law 294 = .ok (.aload_n 0, 1) := by decide +kernel
theorem dL_law_295 : decode cL_law 295 = .ok (.iload 4, 2) := by decide +kernel
theorem dL_law_297 : decode cL_law 297 = .ok (.iconst 2, 1) := by decide +kernel
theorem dL_law_298 : decode cL_law 298 = .ok (.iadd, 1) := by decide +kernel
theorem dL_law_299 : decode cL_law 299 = .ok (.iaload, 1) := by decide +kernel
theorem dL_law_300 : decode cL_law 300 = .ok (.invokevirtual 105, 3) := by decide +kernel
theorem dL_law_303 : decode cL_law 303 = .ok (.istore 6, 2) := by decide +kernel
theorem dL_law_305 : decode cL_law 305 = .ok (.aload_n 2, 1) := by decide +kernel
theorem dL_law_306 : decode cL_law 306 = .ok (.invokevirtual 98, 3) := by decide +kernel
theorem dL_law_309 : decode cL_law 309 = .ok (.iload 5, 2) := by decide +kernel
theorem dL_law_311 : decode cL_law 311 = .ok (.if_icmp .eq 5, 3) := by decide +kernel
theorem dL_law_314 : decode cL_law 314 = .ok (.iconst 0, 1) := by decide +kernel
theorem dL_law_315 : decode cL_law 315 = .ok (.ireturn, 1) := by decide +kernel
theorem dL_law_316 : decode cL_law 316 = .ok (.iload 5, 2) := by decide +kernel
theorem dL_law_318 : decode cL_law 318 = .ok (.ifCond .ne 15, 3) := by decide +kernel
theorem dL_law_321 : decode cL_law 321 = .ok (.aload_n 3, 1) := by decide +kernel
theorem dL_law_322 : decode cL_law 322 = .ok (.iconst 0, 1) := by decide +kernel
theorem dL_law_323 : decode cL_law 323 = .ok (.laload, 1) := by decide +kernel
theorem dL_law_324 : decode cL_law 324 = .ok (.iload 6, 2) := by decide +kernel
theorem dL_law_326 : decode cL_law 326 = .ok (.i2l, 1) := by decide +kernel
theorem dL_law_327 : decode cL_law 327 = .ok (.lcmp, 1) := by decide +kernel
theorem dL_law_328 : decode cL_law 328 = .ok (.ifCond .eq 5, 3) := by decide +kernel
theorem dL_law_331 : decode cL_law 331 = .ok (.iconst 0, 1) := by decide +kernel
theorem dL_law_332 : decode cL_law 332 = .ok (.ireturn, 1) := by decide +kernel
theorem dL_law_333 : decode cL_law 333 = .ok (.goto 1391, 3) := by decide +kernel
theorem dL_law_336 : decode cL_law 336 = .ok (.aload_n 1, 1) := by decide +kernel
theorem dL_law_337 : decode cL_law 337 = .ok (.aload_n 0, 1) := by decide +kernel
theorem dL_law_338 : decode cL_law 338 = .ok (.iload 4, 2) := by decide +kernel
theorem dL_law_340 : decode cL_law 340 = .ok (.iconst 1, 1) := by decide +kernel
theorem dL_law_341 : decode cL_law 341 = .ok (.iadd, 1) := by decide +kernel
theorem dL_law_342 : decode cL_law 342 = .ok (.iaload, 1) := by decide +kernel
theorem dL_law_343 : decode cL_law 343 = .ok (.aload_n 3, 1) := by decide +kernel
theorem dL_law_344 : decode cL_law 344 = .ok (.invokestatic 106, 3) := by decide +kernel
theorem dL_law_347 : decode cL_law 347 = .ok (.istore 5, 2) := by decide +kernel
theorem dL_law_349 : decode cL_law 349 = .ok (.aload_n 2, 1) := by decide +kernel
theorem dL_law_350 : decode cL_law 350 = .ok (.aload_n 0, 1) := by decide +kernel
theorem dL_law_351 : decode cL_law 351 = .ok (.iload 4, 2) := by decide +kernel
theorem dL_law_353 : decode cL_law 353 = .ok (.iconst 1, 1) := by decide +kernel
theorem dL_law_354 : decode cL_law 354 = .ok (.iadd, 1) := by decide +kernel
theorem dL_law_355 : decode cL_law 355 = .ok (.iaload, 1) := by decide +kernel
theorem dL_law_356 : decode cL_law 356 = .ok (.invokevirtual 109, 3) := by decide +kernel
theorem dL_law_359 : decode cL_law 359 = .ok (.istore 6, 2) := by decide +kernel
theorem dL_law_361 : decode cL_law 361 = .ok (.aload_n 2, 1) := by decide +kernel
theorem dL_law_362 : decode cL_law 362 = .ok (.invokevirtual 98, 3) := by decide +kernel
theorem dL_law_365 : decode cL_law 365 = .ok (.iload 5, 2) := by decide +kernel
theorem dL_law_367 : decode cL_law 367 = .ok (.if_icmp .eq 5, 3) := by decide +kernel
theorem dL_law_370 : decode cL_law 370 = .ok (.iconst 0, 1) := by decide +kernel
theorem dL_law_371 : decode cL_law 371 = .ok (.ireturn, 1) := by decide +kernel
theorem dL_law_372 : decode cL_law 372 = .ok (.iload 5, 2) := by decide +kernel
theorem dL_law_374 : decode cL_law 374 = .ok (.ifCond .ne 15, 3) := by decide +kernel
theorem dL_law_377 : decode cL_law 377 = .ok (.aload_n 3, 1) := by decide +kernel
theorem dL_law_378 : decode cL_law 378 = .ok (.iconst 0, 1) := by decide +kernel
theorem dL_law_379 : decode cL_law 379 = .ok (.laload, 1) := by decide +kernel
theorem dL_law_380 : decode cL_law 380 = .ok (.iload 6, 2) := by decide +kernel
theorem dL_law_382 : decode cL_law 382 = .ok (.i2l, 1) := by decide +kernel
theorem dL_law_383 : decode cL_law 383 = .ok (.lcmp, 1) := by decide +kernel
theorem dL_law_384 : decode cL_law 384 = .ok (.ifCond .eq 5, 3) := by decide +kernel
theorem dL_law_387 : decode cL_law 387 = .ok (.iconst 0, 1) := by decide +kernel
theorem dL_law_388 : decode cL_law 388 = .ok (.ireturn, 1) := by decide +kernel
theorem dL_law_389 : decode cL_law 389 = .ok (.goto 1335, 3) := by decide +kernel
theorem dL_law_392 : decode cL_law 392 = .ok (.aload_n 1, 1) := by decide +kernel
theorem dL_law_393 : decode cL_law 393 = .ok (.aload_n 0, 1) := by decide +kernel
theorem dL_law_394 : decode cL_law 394 = .ok (.iload 4, 2) := by decide +kernel
theorem dL_law_396 : decode cL_law 396 = .ok (.iconst 1, 1) := by decide +kernel
theorem dL_law_397 : decode cL_law 397 = .ok (.iadd, 1) := by decide +kernel
theorem dL_law_398 : decode cL_law 398 = .ok (.iaload, 1) := by decide +kernel
theorem dL_law_399 : decode cL_law 399 = .ok (.aload_n 0, 1) := by decide +kernel
theorem dL_law_400 : decode cL_law 400 = .ok (.iload 4, 2) := by decide +kernel
theorem dL_law_402 : decode cL_law 402 = .ok (.iconst 2, 1) := by decide +kernel
theorem dL_law_403 : decode cL_law 403 = .ok (.iadd, 1) := by decide +kernel
theorem dL_law_404 : decode cL_law 404 = .ok (.iaload, 1) := by decide +kernel
theorem dL_law_405 : decode cL_law 405 = .ok (.aload_n 3, 1) := by decide +kernel
theorem dL_law_406 : decode cL_law 406 = .ok (.invokestatic 110, 3) := by decide +kernel
theorem dL_law_409 : decode cL_law 409 = .ok (.istore 5, 2) := by decide +kernel
theorem dL_law_411 : decode cL_law 411 = .ok (.aload_n 2, 1) := by decide +kernel
theorem dL_law_412 : decode cL_law 412 = .ok (.aload_n 0, 1) := by decide +kernel
theorem dL_law_413 : decode cL_law 413 = .ok (.iload 4, 2) := by decide +kernel
theorem dL_law_415 : decode cL_law 415 = .ok (.iconst 1, 1) := by decide +kernel
theorem dL_law_416 : decode cL_law 416 = .ok (.iadd, 1) := by decide +kernel
theorem dL_law_417 : decode cL_law 417 = .ok (.iaload, 1) := by decide +kernel
theorem dL_law_418 : decode cL_law 418 = .ok (.aload_n 0, 1) := by decide +kernel
theorem dL_law_419 : decode cL_law 419 = .ok (.iload 4, 2) := by decide +kernel
theorem dL_law_421 : decode cL_law 421 = .ok (.iconst 2, 1) := by decide +kernel
theorem dL_law_422 : decode cL_law 422 = .ok (.iadd, 1) := by decide +kernel
theorem dL_law_423 : decode cL_law 423 = .ok (.iaload, 1) := by decide +kernel
theorem dL_law_424 : decode cL_law 424 = .ok (.invokevirtual 112, 3) := by decide +kernel
theorem dL_law_427 : decode cL_law 427 = .ok (.istore 6, 2) := by decide +kernel
theorem dL_law_429 : decode cL_law 429 = .ok (.aload_n 2, 1) := by decide +kernel
theorem dL_law_430 : decode cL_law 430 = .ok (.invokevirtual 98, 3) := by decide +kernel
theorem dL_law_433 : decode cL_law 433 = .ok (.iload 5, 2) := by decide +kernel
theorem dL_law_435 : decode cL_law 435 = .ok (.if_icmp .eq 5, 3) := by decide +kernel
theorem dL_law_438 : decode cL_law 438 = .ok (.iconst 0, 1) := by decide +kernel
theorem dL_law_439 : decode cL_law 439 = .ok (.ireturn, 1) := by decide +kernel
theorem dL_law_440 : decode cL_law 440 = .ok (.iload 5, 2) := by decide +kernel
theorem dL_law_442 : decode cL_law 442 = .ok (.ifCond .ne 15, 3) := by decide +kernel
theorem dL_law_445 : decode cL_law 445 = .ok (.aload_n 3, 1) := by decide +kernel
theorem dL_law_446 : decode cL_law 446 = .ok (.iconst 0, 1) := by decide +kernel
theorem dL_law_447 : decode cL_law 447 = .ok (.laload, 1) := by decide +kernel
theorem dL_law_448 : decode cL_law 448 = .ok (.iload 6, 2) := by decide +kernel
theorem dL_law_450 : decode cL_law 450 = .ok (.i2l, 1) := by decide +kernel
theorem dL_law_451 : decode cL_law 451 = .ok (.lcmp, 1) := by decide +kernel
theorem dL_law_452 : decode cL_law 452 = .ok (.ifCond .eq 5, 3) := by decide +kernel
theorem dL_law_455 : decode cL_law 455 = .ok (.iconst 0, 1) := by decide +kernel
theorem dL_law_456 : decode cL_law 456 = .ok (.ireturn, 1) := by decide +kernel
theorem dL_law_457 : decode cL_law 457 = .ok (.goto 1267, 3) := by decide +kernel
theorem dL_law_460 : decode cL_law 460 = .ok (.aload_n 1, 1) := by decide +kernel
theorem dL_law_461 : decode cL_law 461 = .ok (.invokevirtual 113, 3) := by decide +kernel
theorem dL_law_464 : decode cL_law 464 = .ok (.aload_n 2, 1) := by decide +kernel
theorem dL_law_465 : decode cL_law 465 = .ok (.invokevirtual 117, 3) := by decide +kernel
theorem dL_law_468 : decode cL_law 468 = .ok (.if_icmp .eq 1256, 3) := by decide +kernel
theorem dL_law_471 : decode cL_law 471 = .ok (.iconst 0, 1) := by decide +kernel
theorem dL_law_472 : decode cL_law 472 = .ok (.ireturn, 1) := by decide +kernel
theorem dL_law_473 : decode cL_law 473 = .ok (.aload_n 1, 1) := by decide +kernel
theorem dL_law_474 : decode cL_law 474 = .ok (.aload_n 0, 1) := by decide +kernel
theorem dL_law_475 : decode cL_law 475 = .ok (.iload 4, 2) := by decide +kernel
theorem dL_law_477 : decode cL_law 477 = .ok (.iconst 1, 1) := by decide +kernel
theorem dL_law_478 : decode cL_law 478 = .ok (.iadd, 1) := by decide +kernel
theorem dL_law_479 : decode cL_law 479 = .ok (.iaload, 1) := by decide +kernel
theorem dL_law_480 : decode cL_law 480 = .ok (.aload_n 3, 1) := by decide +kernel
theorem dL_law_481 : decode cL_law 481 = .ok (.invokestatic 118, 3) := by decide +kernel
theorem dL_law_484 : decode cL_law 484 = .ok (.istore 5, 2) := by decide +kernel
theorem dL_law_486 : decode cL_law 486 = .ok (.aload_n 2, 1) := by decide +kernel
theorem dL_law_487 : decode cL_law 487 = .ok (.aload_n 0, 1) := by decide +kernel
theorem dL_law_488 : decode cL_law 488 = .ok (.iload 4, 2) := by decide +kernel
theorem dL_law_490 : decode cL_law 490 = .ok (.iconst 1, 1) := by decide +kernel
theorem dL_law_491 : decode cL_law 491 = .ok (.iadd, 1) := by decide +kernel
theorem dL_law_492 : decode cL_law 492 = .ok (.iaload, 1) := by decide +kernel
theorem dL_law_493 : decode cL_law 493 = .ok (.invokevirtual 120, 3) := by decide +kernel
theorem dL_law_496 : decode cL_law 496 = .ok (.istore 6, 2) := by decide +kernel
theorem dL_law_498 : decode cL_law 498 = .ok (.aload_n 2, 1) := by decide +kernel
theorem dL_law_499 : decode cL_law 499 = .ok (.invokevirtual 98, 3) := by decide +kernel
theorem dL_law_502 : decode cL_law 502 = .ok (.iload 5, 2) := by decide +kernel
theorem dL_law_504 : decode cL_law 504 = .ok (.if_icmp .eq 5, 3) := by decide +kernel
theorem dL_law_507 : decode cL_law 507 = .ok (.iconst 0, 1) := by decide +kernel
theorem dL_law_508 : decode cL_law 508 = .ok (.ireturn, 1) := by decide +kernel
theorem dL_law_509 : decode cL_law 509 = .ok (.iload 5, 2) := by decide +kernel
theorem dL_law_511 : decode cL_law 511 = .ok (.ifCond .ne 15, 3) := by decide +kernel
theorem dL_law_514 : decode cL_law 514 = .ok (.aload_n 3, 1) := by decide +kernel
theorem dL_law_515 : decode cL_law 515 = .ok (.iconst 0, 1) := by decide +kernel
theorem dL_law_516 : decode cL_law 516 = .ok (.laload, 1) := by decide +kernel
theorem dL_law_517 : decode cL_law 517 = .ok (.iload 6, 2) := by decide +kernel
theorem dL_law_519 : decode cL_law 519 = .ok (.i2l, 1) := by decide +kernel
theorem dL_law_520 : decode cL_law 520 = .ok (.lcmp, 1) := by decide +kernel
theorem dL_law_521 : decode cL_law 521 = .ok (.ifCond .eq 5, 3) := by decide +kernel
theorem dL_law_524 : decode cL_law 524 = .ok (.iconst 0, 1) := by decide +kernel
theorem dL_law_525 : decode cL_law 525 = .ok (.ireturn, 1) := by decide +kernel
theorem dL_law_526 : decode cL_law 526 = .ok (.goto 1198, 3) := by decide +kernel
theorem dL_law_529 : decode cL_law 529 = .ok (.aload_n 1, 1) := by decide +kernel
theorem dL_law_530 : decode cL_law 530 = .ok (.invokevirtual 121, 3) := by decide +kernel
theorem dL_law_533 : decode cL_law 533 = .ok (.aload_n 2, 1) := by decide +kernel
theorem dL_law_534 : decode cL_law 534 = .ok (.invokevirtual 124, 3) := by decide +kernel
theorem dL_law_537 : decode cL_law 537 = .ok (.if_icmp .eq 1187, 3) := by decide +kernel
theorem dL_law_540 : decode cL_law 540 = .ok (.iconst 0, 1) := by decide +kernel
theorem dL_law_541 : decode cL_law 541 = .ok (.ireturn, 1) := by decide +kernel
theorem dL_law_542 : decode cL_law 542 = .ok (.aload_n 1, 1) := by decide +kernel
theorem dL_law_543 : decode cL_law 543 = .ok (.invokevirtual 125, 3) := by decide +kernel
theorem dL_law_546 : decode cL_law 546 = .ok (.aload_n 2, 1) := by decide +kernel
theorem dL_law_547 : decode cL_law 547 = .ok (.invokevirtual 128, 3) := by decide +kernel
theorem dL_law_550 : decode cL_law 550 = .ok (.if_icmp .eq 1174, 3) := by decide +kernel
theorem dL_law_553 : decode cL_law 553 = .ok (.iconst 0, 1) := by decide +kernel
theorem dL_law_554 : decode cL_law 554 = .ok (.ireturn, 1) := by decide +kernel
theorem dL_law_555 : decode cL_law 555 = .ok (.aload_n 1, 1) := by decide +kernel
theorem dL_law_556 : decode cL_law 556 = .ok (.aload_n 0, 1) := by decide +kernel
theorem dL_law_557 : decode cL_law 557 = .ok (.iload 4, 2) := by decide +kernel
theorem dL_law_559 : decode cL_law 559 = .ok (.iconst 1, 1) := by decide +kernel
theorem dL_law_560 : decode cL_law 560 = .ok (.iadd, 1) := by decide +kernel
theorem dL_law_561 : decode cL_law 561 = .ok (.iaload, 1) := by decide +kernel
theorem dL_law_562 : decode cL_law 562 = .ok (.aload_n 3, 1) := by decide +kernel
theorem dL_law_563 : decode cL_law 563 = .ok (.invokestatic 129, 3) := by decide +kernel
theorem dL_law_566 : decode cL_law 566 = .ok (.istore 5, 2) := by decide +kernel
theorem dL_law_568 : decode cL_law 568 = .ok (.aload_n 2, 1) := by decide +kernel
theorem dL_law_569 : decode cL_law 569 = .ok (.aload_n 0, 1) := by decide +kernel
theorem dL_law_570 : decode cL_law 570 = .ok (.iload 4, 2) := by decide +kernel
theorem dL_law_572 : decode cL_law 572 = .ok (.iconst 1, 1) := by decide +kernel
theorem dL_law_573 : decode cL_law 573 = .ok (.iadd, 1) := by decide +kernel
theorem dL_law_574 : decode cL_law 574 = .ok (.iaload, 1) := by decide +kernel
theorem dL_law_575 : decode cL_law 575 = .ok (.invokevirtual 131, 3) := by decide +kernel
theorem dL_law_578 : decode cL_law 578 = .ok (.istore 6, 2) := by decide +kernel
theorem dL_law_580 : decode cL_law 580 = .ok (.aload_n 2, 1) := by decide +kernel
theorem dL_law_581 : decode cL_law 581 = .ok (.invokevirtual 98, 3) := by decide +kernel
theorem dL_law_584 : decode cL_law 584 = .ok (.iload 5, 2) := by decide +kernel
theorem dL_law_586 : decode cL_law 586 = .ok (.if_icmp .eq 5, 3) := by decide +kernel
theorem dL_law_589 : decode cL_law 589 = .ok (.iconst 0, 1) := by decide +kernel
theorem dL_law_590 : decode cL_law 590 = .ok (.ireturn, 1) := by decide +kernel
theorem dL_law_591 : decode cL_law 591 = .ok (.iload 5, 2) := by decide +kernel
theorem dL_law_593 : decode cL_law 593 = .ok (.ifCond .ne 15, 3) := by decide +kernel
theorem dL_law_596 : decode cL_law 596 = .ok (.aload_n 3, 1) := by decide +kernel
theorem dL_law_597 : decode cL_law 597 = .ok (.iconst 0, 1) := by decide +kernel
theorem dL_law_598 : decode cL_law 598 = .ok (.laload, 1) := by decide +kernel
theorem dL_law_599 : decode cL_law 599 = .ok (.iload 6, 2) := by decide +kernel
theorem dL_law_601 : decode cL_law 601 = .ok (.i2l, 1) := by decide +kernel
theorem dL_law_602 : decode cL_law 602 = .ok (.lcmp, 1) := by decide +kernel
theorem dL_law_603 : decode cL_law 603 = .ok (.ifCond .eq 5, 3) := by decide +kernel
theorem dL_law_606 : decode cL_law 606 = .ok (.iconst 0, 1) := by decide +kernel
theorem dL_law_607 : decode cL_law 607 = .ok (.ireturn, 1) := by decide +kernel
theorem dL_law_608 : decode cL_law 608 = .ok (.goto 1116, 3) := by decide +kernel
theorem dL_law_611 : decode cL_law 611 = .ok (.aload_n 1, 1) := by decide +kernel
theorem dL_law_612 : decode cL_law 612 = .ok (.aload_n 0, 1) := by decide +kernel
theorem dL_law_613 : decode cL_law 613 = .ok (.iload 4, 2) := by decide +kernel
theorem dL_law_615 : decode cL_law 615 = .ok (.iconst 1, 1) := by decide +kernel
theorem dL_law_616 : decode cL_law 616 = .ok (.iadd, 1) := by decide +kernel
theorem dL_law_617 : decode cL_law 617 = .ok (.iaload, 1) := by decide +kernel
theorem dL_law_618 : decode cL_law 618 = .ok (.aload_n 3, 1) := by decide +kernel
theorem dL_law_619 : decode cL_law 619 = .ok (.invokestatic 132, 3) := by decide +kernel
theorem dL_law_622 : decode cL_law 622 = .ok (.istore 5, 2) := by decide +kernel
theorem dL_law_624 : decode cL_law 624 = .ok (.aload_n 2, 1) := by decide +kernel
theorem dL_law_625 : decode cL_law 625 = .ok (.aload_n 0, 1) := by decide +kernel
theorem dL_law_626 : decode cL_law 626 = .ok (.iload 4, 2) := by decide +kernel
theorem dL_law_628 : decode cL_law 628 = .ok (.iconst 1, 1) := by decide +kernel
theorem dL_law_629 : decode cL_law 629 = .ok (.iadd, 1) := by decide +kernel
theorem dL_law_630 : decode cL_law 630 = .ok (.iaload, 1) := by decide +kernel
theorem dL_law_631 : decode cL_law 631 = .ok (.invokevirtual 134, 3) := by decide +kernel
theorem dL_law_634 : decode cL_law 634 = .ok (.istore 6, 2) := by decide +kernel
theorem dL_law_636 : decode cL_law 636 = .ok (.aload_n 2, 1) := by decide +kernel
theorem dL_law_637 : decode cL_law 637 = .ok (.invokevirtual 98, 3) := by decide +kernel
theorem dL_law_640 : decode cL_law 640 = .ok (.iload 5, 2) := by decide +kernel
theorem dL_law_642 : decode cL_law 642 = .ok (.if_icmp .eq 5, 3) := by decide +kernel
theorem dL_law_645 : decode cL_law 645 = .ok (.iconst 0, 1) := by decide +kernel
theorem dL_law_646 : decode cL_law 646 = .ok (.ireturn, 1) := by decide +kernel
theorem dL_law_647 : decode cL_law 647 = .ok (.iload 5, 2) := by decide +kernel
theorem dL_law_649 : decode cL_law 649 = .ok (.ifCond .ne 15, 3) := by decide +kernel
theorem dL_law_652 : decode cL_law 652 = .ok (.aload_n 3, 1) := by decide +kernel
theorem dL_law_653 : decode cL_law 653 = .ok (.iconst 0, 1) := by decide +kernel
theorem dL_law_654 : decode cL_law 654 = .ok (.laload, 1) := by decide +kernel
theorem dL_law_655 : decode cL_law 655 = .ok (.iload 6, 2) := by decide +kernel
theorem dL_law_657 : decode cL_law 657 = .ok (.i2l, 1) := by decide +kernel
theorem dL_law_658 : decode cL_law 658 = .ok (.lcmp, 1) := by decide +kernel
theorem dL_law_659 : decode cL_law 659 = .ok (.ifCond .eq 5, 3) := by decide +kernel
theorem dL_law_662 : decode cL_law 662 = .ok (.iconst 0, 1) := by decide +kernel
theorem dL_law_663 : decode cL_law 663 = .ok (.ireturn, 1) := by decide +kernel
theorem dL_law_664 : decode cL_law 664 = .ok (.goto 1060, 3) := by decide +kernel
theorem dL_law_667 : decode cL_law 667 = .ok (.aload_n 1, 1) := by decide +kernel
theorem dL_law_668 : decode cL_law 668 = .ok (.aload_n 0, 1) := by decide +kernel
theorem dL_law_669 : decode cL_law 669 = .ok (.iload 4, 2) := by decide +kernel
theorem dL_law_671 : decode cL_law 671 = .ok (.iconst 1, 1) := by decide +kernel
theorem dL_law_672 : decode cL_law 672 = .ok (.iadd, 1) := by decide +kernel
theorem dL_law_673 : decode cL_law 673 = .ok (.iaload, 1) := by decide +kernel
theorem dL_law_674 : decode cL_law 674 = .ok (.aload_n 3, 1) := by decide +kernel
theorem dL_law_675 : decode cL_law 675 = .ok (.invokestatic 135, 3) := by decide +kernel
theorem dL_law_678 : decode cL_law 678 = .ok (.istore 5, 2) := by decide +kernel
theorem dL_law_680 : decode cL_law 680 = .ok (.aload_n 2, 1) := by decide +kernel
theorem dL_law_681 : decode cL_law 681 = .ok (.aload_n 0, 1) := by decide +kernel
theorem dL_law_682 : decode cL_law 682 = .ok (.iload 4, 2) := by decide +kernel
theorem dL_law_684 : decode cL_law 684 = .ok (.iconst 1, 1) := by decide +kernel
theorem dL_law_685 : decode cL_law 685 = .ok (.iadd, 1) := by decide +kernel
theorem dL_law_686 : decode cL_law 686 = .ok (.iaload, 1) := by decide +kernel
theorem dL_law_687 : decode cL_law 687 = .ok (.invokevirtual 137, 3) := by decide +kernel
theorem dL_law_690 : decode cL_law 690 = .ok (.istore 6, 2) := by decide +kernel
theorem dL_law_692 : decode cL_law 692 = .ok (.aload_n 2, 1) := by decide +kernel
theorem dL_law_693 : decode cL_law 693 = .ok (.invokevirtual 98, 3) := by decide +kernel
theorem dL_law_696 : decode cL_law 696 = .ok (.iload 5, 2) := by decide +kernel
theorem dL_law_698 : decode cL_law 698 = .ok (.if_icmp .eq 5, 3) := by decide +kernel
theorem dL_law_701 : decode cL_law 701 = .ok (.iconst 0, 1) := by decide +kernel
theorem dL_law_702 : decode cL_law 702 = .ok (.ireturn, 1) := by decide +kernel
theorem dL_law_703 : decode cL_law 703 = .ok (.iload 5, 2) := by decide +kernel
theorem dL_law_705 : decode cL_law 705 = .ok (.ifCond .ne 15, 3) := by decide +kernel
theorem dL_law_708 : decode cL_law 708 = .ok (.aload_n 3, 1) := by decide +kernel
theorem dL_law_709 : decode cL_law 709 = .ok (.iconst 0, 1) := by decide +kernel
theorem dL_law_710 : decode cL_law 710 = .ok (.laload, 1) := by decide +kernel
theorem dL_law_711 : decode cL_law 711 = .ok (.iload 6, 2) := by decide +kernel
theorem dL_law_713 : decode cL_law 713 = .ok (.i2l, 1) := by decide +kernel
theorem dL_law_714 : decode cL_law 714 = .ok (.lcmp, 1) := by decide +kernel
theorem dL_law_715 : decode cL_law 715 = .ok (.ifCond .eq 5, 3) := by decide +kernel
theorem dL_law_718 : decode cL_law 718 = .ok (.iconst 0, 1) := by decide +kernel
theorem dL_law_719 : decode cL_law 719 = .ok (.ireturn, 1) := by decide +kernel
theorem dL_law_720 : decode cL_law 720 = .ok (.goto 1004, 3) := by decide +kernel
theorem dL_law_723 : decode cL_law 723 = .ok (.aload_n 1, 1) := by decide +kernel
theorem dL_law_724 : decode cL_law 724 = .ok (.invokevirtual 138, 3) := by decide +kernel
theorem dL_law_727 : decode cL_law 727 = .ok (.aload_n 2, 1) := by decide +kernel
theorem dL_law_728 : decode cL_law 728 = .ok (.invokevirtual 141, 3) := by decide +kernel
theorem dL_law_731 : decode cL_law 731 = .ok (.if_icmp .eq 993, 3) := by decide +kernel
theorem dL_law_734 : decode cL_law 734 = .ok (.iconst 0, 1) := by decide +kernel
theorem dL_law_735 : decode cL_law 735 = .ok (.ireturn, 1) := by decide +kernel
theorem dL_law_736 : decode cL_law 736 = .ok (.aload_n 1, 1) := by decide +kernel
theorem dL_law_737 : decode cL_law 737 = .ok (.invokevirtual 142, 3) := by decide +kernel
theorem dL_law_740 : decode cL_law 740 = .ok (.aload_n 2, 1) := by decide +kernel
theorem dL_law_741 : decode cL_law 741 = .ok (.invokevirtual 145, 3) := by decide +kernel
theorem dL_law_744 : decode cL_law 744 = .ok (.if_icmp .eq 980, 3) := by decide +kernel
theorem dL_law_747 : decode cL_law 747 = .ok (.iconst 0, 1) := by decide +kernel
theorem dL_law_748 : decode cL_law 748 = .ok (.ireturn, 1) := by decide +kernel
theorem dL_law_749 : decode cL_law 749 = .ok (.aload_n 1, 1) := by decide +kernel
theorem dL_law_750 : decode cL_law 750 = .ok (.invokevirtual 146, 3) := by decide +kernel
theorem dL_law_753 : decode cL_law 753 = .ok (.aload_n 2, 1) := by decide +kernel
theorem dL_law_754 : decode cL_law 754 = .ok (.invokevirtual 149, 3) := by decide +kernel
theorem dL_law_757 : decode cL_law 757 = .ok (.if_icmp .eq 967, 3) := by decide +kernel
theorem dL_law_760 : decode cL_law 760 = .ok (.iconst 0, 1) := by decide +kernel
theorem dL_law_761 : decode cL_law 761 = .ok (.ireturn, 1) := by decide +kernel
theorem dL_law_762 : decode cL_law 762 = .ok (.aload_n 1, 1) := by decide +kernel
theorem dL_law_763 : decode cL_law 763 = .ok (.aload_n 0, 1) := by decide +kernel
theorem dL_law_764 : decode cL_law 764 = .ok (.iload 4, 2) := by decide +kernel
theorem dL_law_766 : decode cL_law 766 = .ok (.iconst 1, 1) := by decide +kernel
theorem dL_law_767 : decode cL_law 767 = .ok (.iadd, 1) := by decide +kernel
theorem dL_law_768 : decode cL_law 768 = .ok (.iaload, 1) := by decide +kernel
theorem dL_law_769 : decode cL_law 769 = .ok (.aload_n 3, 1) := by decide +kernel
theorem dL_law_770 : decode cL_law 770 = .ok (.invokestatic 150, 3) := by decide +kernel
theorem dL_law_773 : decode cL_law 773 = .ok (.istore 5, 2) := by decide +kernel
theorem dL_law_775 : decode cL_law 775 = .ok (.aload_n 2, 1) := by decide +kernel
theorem dL_law_776 : decode cL_law 776 = .ok (.aload_n 0, 1) := by decide +kernel
theorem dL_law_777 : decode cL_law 777 = .ok (.iload 4, 2) := by decide +kernel
theorem dL_law_779 : decode cL_law 779 = .ok (.iconst 1, 1) := by decide +kernel
theorem dL_law_780 : decode cL_law 780 = .ok (.iadd, 1) := by decide +kernel
theorem dL_law_781 : decode cL_law 781 = .ok (.iaload, 1) := by decide +kernel
theorem dL_law_782 : decode cL_law 782 = .ok (.invokevirtual 152, 3) := by decide +kernel
theorem dL_law_785 : decode cL_law 785 = .ok (.istore 6, 2) := by decide +kernel
theorem dL_law_787 : decode cL_law 787 = .ok (.aload_n 2, 1) := by decide +kernel
theorem dL_law_788 : decode cL_law 788 = .ok (.invokevirtual 98, 3) := by decide +kernel
theorem dL_law_791 : decode cL_law 791 = .ok (.iload 5, 2) := by decide +kernel
theorem dL_law_793 : decode cL_law 793 = .ok (.if_icmp .eq 5, 3) := by decide +kernel
theorem dL_law_796 : decode cL_law 796 = .ok (.iconst 0, 1) := by decide +kernel
theorem dL_law_797 : decode cL_law 797 = .ok (.ireturn, 1) := by decide +kernel
theorem dL_law_798 : decode cL_law 798 = .ok (.iload 5, 2) := by decide +kernel
theorem dL_law_800 : decode cL_law 800 = .ok (.ifCond .ne 15, 3) := by decide +kernel
theorem dL_law_803 : decode cL_law 803 = .ok (.aload_n 3, 1) := by decide +kernel
theorem dL_law_804 : decode cL_law 804 = .ok (.iconst 0, 1) := by decide +kernel
theorem dL_law_805 : decode cL_law 805 = .ok (.laload, 1) := by decide +kernel
theorem dL_law_806 : decode cL_law 806 = .ok (.iload 6, 2) := by decide +kernel
theorem dL_law_808 : decode cL_law 808 = .ok (.i2l, 1) := by decide +kernel
theorem dL_law_809 : decode cL_law 809 = .ok (.lcmp, 1) := by decide +kernel
theorem dL_law_810 : decode cL_law 810 = .ok (.ifCond .eq 5, 3) := by decide +kernel
theorem dL_law_813 : decode cL_law 813 = .ok (.iconst 0, 1) := by decide +kernel
theorem dL_law_814 : decode cL_law 814 = .ok (.ireturn, 1) := by decide +kernel
theorem dL_law_815 : decode cL_law 815 = .ok (.goto 909, 3) := by decide +kernel
theorem dL_law_818 : decode cL_law 818 = .ok (.aload_n 1, 1) := by decide +kernel
theorem dL_law_819 : decode cL_law 819 = .ok (.aload_n 0, 1) := by decide +kernel
theorem dL_law_820 : decode cL_law 820 = .ok (.iload 4, 2) := by decide +kernel
theorem dL_law_822 : decode cL_law 822 = .ok (.iconst 1, 1) := by decide +kernel
theorem dL_law_823 : decode cL_law 823 = .ok (.iadd, 1) := by decide +kernel
theorem dL_law_824 : decode cL_law 824 = .ok (.iaload, 1) := by decide +kernel
theorem dL_law_825 : decode cL_law 825 = .ok (.aload_n 3, 1) := by decide +kernel
theorem dL_law_826 : decode cL_law 826 = .ok (.invokestatic 153, 3) := by decide +kernel
theorem dL_law_829 : decode cL_law 829 = .ok (.istore 5, 2) := by decide +kernel
theorem dL_law_831 : decode cL_law 831 = .ok (.aload_n 2, 1) := by decide +kernel
theorem dL_law_832 : decode cL_law 832 = .ok (.aload_n 0, 1) := by decide +kernel
theorem dL_law_833 : decode cL_law 833 = .ok (.iload 4, 2) := by decide +kernel
theorem dL_law_835 : decode cL_law 835 = .ok (.iconst 1, 1) := by decide +kernel
theorem dL_law_836 : decode cL_law 836 = .ok (.iadd, 1) := by decide +kernel
theorem dL_law_837 : decode cL_law 837 = .ok (.iaload, 1) := by decide +kernel
theorem dL_law_838 : decode cL_law 838 = .ok (.invokevirtual 155, 3) := by decide +kernel
theorem dL_law_841 : decode cL_law 841 = .ok (.istore 6, 2) := by decide +kernel
theorem dL_law_843 : decode cL_law 843 = .ok (.aload_n 2, 1) := by decide +kernel
theorem dL_law_844 : decode cL_law 844 = .ok (.invokevirtual 98, 3) := by decide +kernel
theorem dL_law_847 : decode cL_law 847 = .ok (.iload 5, 2) := by decide +kernel
theorem dL_law_849 : decode cL_law 849 = .ok (.if_icmp .eq 5, 3) := by decide +kernel
theorem dL_law_852 : decode cL_law 852 = .ok (.iconst 0, 1) := by decide +kernel
theorem dL_law_853 : decode cL_law 853 = .ok (.ireturn, 1) := by decide +kernel
theorem dL_law_854 : decode cL_law 854 = .ok (.iload 5, 2) := by decide +kernel
theorem dL_law_856 : decode cL_law 856 = .ok (.ifCond .ne 15, 3) := by decide +kernel
theorem dL_law_859 : decode cL_law 859 = .ok (.aload_n 3, 1) := by decide +kernel
theorem dL_law_860 : decode cL_law 860 = .ok (.iconst 0, 1) := by decide +kernel
theorem dL_law_861 : decode cL_law 861 = .ok (.laload, 1) := by decide +kernel
theorem dL_law_862 : decode cL_law 862 = .ok (.iload 6, 2) := by decide +kernel
theorem dL_law_864 : decode cL_law 864 = .ok (.i2l, 1) := by decide +kernel
theorem dL_law_865 : decode cL_law 865 = .ok (.lcmp, 1) := by decide +kernel
theorem dL_law_866 : decode cL_law 866 = .ok (.ifCond .eq 5, 3) := by decide +kernel
theorem dL_law_869 : decode cL_law 869 = .ok (.iconst 0, 1) := by decide +kernel
theorem dL_law_870 : decode cL_law 870 = .ok (.ireturn, 1) := by decide +kernel
theorem dL_law_871 : decode cL_law 871 = .ok (.goto 853, 3) := by decide +kernel
theorem dL_law_874 : decode cL_law 874 = .ok (.aload_n 1, 1) := by decide +kernel
theorem dL_law_875 : decode cL_law 875 = .ok (.aload_n 0, 1) := by decide +kernel
theorem dL_law_876 : decode cL_law 876 = .ok (.iload 4, 2) := by decide +kernel
theorem dL_law_878 : decode cL_law 878 = .ok (.iconst 1, 1) := by decide +kernel
theorem dL_law_879 : decode cL_law 879 = .ok (.iadd, 1) := by decide +kernel
theorem dL_law_880 : decode cL_law 880 = .ok (.iaload, 1) := by decide +kernel
theorem dL_law_881 : decode cL_law 881 = .ok (.aload_n 3, 1) := by decide +kernel
theorem dL_law_882 : decode cL_law 882 = .ok (.invokestatic 156, 3) := by decide +kernel
theorem dL_law_885 : decode cL_law 885 = .ok (.istore 5, 2) := by decide +kernel
theorem dL_law_887 : decode cL_law 887 = .ok (.aload_n 2, 1) := by decide +kernel
theorem dL_law_888 : decode cL_law 888 = .ok (.aload_n 0, 1) := by decide +kernel
theorem dL_law_889 : decode cL_law 889 = .ok (.iload 4, 2) := by decide +kernel
theorem dL_law_891 : decode cL_law 891 = .ok (.iconst 1, 1) := by decide +kernel
theorem dL_law_892 : decode cL_law 892 = .ok (.iadd, 1) := by decide +kernel
theorem dL_law_893 : decode cL_law 893 = .ok (.iaload, 1) := by decide +kernel
theorem dL_law_894 : decode cL_law 894 = .ok (.invokevirtual 158, 3) := by decide +kernel
theorem dL_law_897 : decode cL_law 897 = .ok (.istore 6, 2) := by decide +kernel
theorem dL_law_899 : decode cL_law 899 = .ok (.aload_n 2, 1) := by decide +kernel
theorem dL_law_900 : decode cL_law 900 = .ok (.invokevirtual 98, 3) := by decide +kernel
theorem dL_law_903 : decode cL_law 903 = .ok (.iload 5, 2) := by decide +kernel
theorem dL_law_905 : decode cL_law 905 = .ok (.if_icmp .eq 5, 3) := by decide +kernel
theorem dL_law_908 : decode cL_law 908 = .ok (.iconst 0, 1) := by decide +kernel
theorem dL_law_909 : decode cL_law 909 = .ok (.ireturn, 1) := by decide +kernel
theorem dL_law_910 : decode cL_law 910 = .ok (.iload 5, 2) := by decide +kernel
theorem dL_law_912 : decode cL_law 912 = .ok (.ifCond .ne 15, 3) := by decide +kernel
theorem dL_law_915 : decode cL_law 915 = .ok (.aload_n 3, 1) := by decide +kernel
theorem dL_law_916 : decode cL_law 916 = .ok (.iconst 0, 1) := by decide +kernel
theorem dL_law_917 : decode cL_law 917 = .ok (.laload, 1) := by decide +kernel
theorem dL_law_918 : decode cL_law 918 = .ok (.iload 6, 2) := by decide +kernel
theorem dL_law_920 : decode cL_law 920 = .ok (.i2l, 1) := by decide +kernel
theorem dL_law_921 : decode cL_law 921 = .ok (.lcmp, 1) := by decide +kernel
theorem dL_law_922 : decode cL_law 922 = .ok (.ifCond .eq 5, 3) := by decide +kernel
theorem dL_law_925 : decode cL_law 925 = .ok (.iconst 0, 1) := by decide +kernel
theorem dL_law_926 : decode cL_law 926 = .ok (.ireturn, 1) := by decide +kernel
theorem dL_law_927 : decode cL_law 927 = .ok (.goto 797, 3) := by decide +kernel
theorem dL_law_930 : decode cL_law 930 = .ok (.aload_n 1, 1) := by decide +kernel
theorem dL_law_931 : decode cL_law 931 = .ok (.aload_n 0, 1) := by decide +kernel
theorem dL_law_932 : decode cL_law 932 = .ok (.iload 4, 2) := by decide +kernel
theorem dL_law_934 : decode cL_law 934 = .ok (.iconst 1, 1) := by decide +kernel
theorem dL_law_935 : decode cL_law 935 = .ok (.iadd, 1) := by decide +kernel
theorem dL_law_936 : decode cL_law 936 = .ok (.iaload, 1) := by decide +kernel
theorem dL_law_937 : decode cL_law 937 = .ok (.aload_n 3, 1) := by decide +kernel
theorem dL_law_938 : decode cL_law 938 = .ok (.invokestatic 159, 3) := by decide +kernel
theorem dL_law_941 : decode cL_law 941 = .ok (.istore 5, 2) := by decide +kernel
theorem dL_law_943 : decode cL_law 943 = .ok (.aload_n 2, 1) := by decide +kernel
theorem dL_law_944 : decode cL_law 944 = .ok (.aload_n 0, 1) := by decide +kernel
theorem dL_law_945 : decode cL_law 945 = .ok (.iload 4, 2) := by decide +kernel
theorem dL_law_947 : decode cL_law 947 = .ok (.iconst 1, 1) := by decide +kernel
theorem dL_law_948 : decode cL_law 948 = .ok (.iadd, 1) := by decide +kernel
theorem dL_law_949 : decode cL_law 949 = .ok (.iaload, 1) := by decide +kernel
theorem dL_law_950 : decode cL_law 950 = .ok (.invokevirtual 161, 3) := by decide +kernel
theorem dL_law_953 : decode cL_law 953 = .ok (.istore 6, 2) := by decide +kernel
theorem dL_law_955 : decode cL_law 955 = .ok (.aload_n 2, 1) := by decide +kernel
theorem dL_law_956 : decode cL_law 956 = .ok (.invokevirtual 98, 3) := by decide +kernel
theorem dL_law_959 : decode cL_law 959 = .ok (.iload 5, 2) := by decide +kernel
theorem dL_law_961 : decode cL_law 961 = .ok (.if_icmp .eq 5, 3) := by decide +kernel
theorem dL_law_964 : decode cL_law 964 = .ok (.iconst 0, 1) := by decide +kernel
theorem dL_law_965 : decode cL_law 965 = .ok (.ireturn, 1) := by decide +kernel
theorem dL_law_966 : decode cL_law 966 = .ok (.iload 5, 2) := by decide +kernel
theorem dL_law_968 : decode cL_law 968 = .ok (.ifCond .ne 15, 3) := by decide +kernel
theorem dL_law_971 : decode cL_law 971 = .ok (.aload_n 3, 1) := by decide +kernel
theorem dL_law_972 : decode cL_law 972 = .ok (.iconst 0, 1) := by decide +kernel
theorem dL_law_973 : decode cL_law 973 = .ok (.laload, 1) := by decide +kernel
theorem dL_law_974 : decode cL_law 974 = .ok (.iload 6, 2) := by decide +kernel
theorem dL_law_976 : decode cL_law 976 = .ok (.i2l, 1) := by decide +kernel
theorem dL_law_977 : decode cL_law 977 = .ok (.lcmp, 1) := by decide +kernel
theorem dL_law_978 : decode cL_law 978 = .ok (.ifCond .eq 5, 3) := by decide +kernel
theorem dL_law_981 : decode cL_law 981 = .ok (.iconst 0, 1) := by decide +kernel
theorem dL_law_982 : decode cL_law 982 = .ok (.ireturn, 1) := by decide +kernel
theorem dL_law_983 : decode cL_law 983 = .ok (.goto 741, 3) := by decide +kernel
theorem dL_law_986 : decode cL_law 986 = .ok (.aload_n 1, 1) := by decide +kernel
theorem dL_law_987 : decode cL_law 987 = .ok (.aload_n 0, 1) := by decide +kernel
theorem dL_law_988 : decode cL_law 988 = .ok (.iload 4, 2) := by decide +kernel
theorem dL_law_990 : decode cL_law 990 = .ok (.iconst 1, 1) := by decide +kernel
theorem dL_law_991 : decode cL_law 991 = .ok (.iadd, 1) := by decide +kernel
theorem dL_law_992 : decode cL_law 992 = .ok (.iaload, 1) := by decide +kernel
theorem dL_law_993 : decode cL_law 993 = .ok (.aload_n 3, 1) := by decide +kernel
theorem dL_law_994 : decode cL_law 994 = .ok (.invokestatic 162, 3) := by decide +kernel
theorem dL_law_997 : decode cL_law 997 = .ok (.istore 5, 2) := by decide +kernel
theorem dL_law_999 : decode cL_law 999 = .ok (.aload_n 2, 1) := by decide +kernel
theorem dL_law_1000 : decode cL_law 1000 = .ok (.aload_n 0, 1) := by decide +kernel
theorem dL_law_1001 : decode cL_law 1001 = .ok (.iload 4, 2) := by decide +kernel
theorem dL_law_1003 : decode cL_law 1003 = .ok (.iconst 1, 1) := by decide +kernel
theorem dL_law_1004 : decode cL_law 1004 = .ok (.iadd, 1) := by decide +kernel
theorem dL_law_1005 : decode cL_law 1005 = .ok (.iaload, 1) := by decide +kernel
theorem dL_law_1006 : decode cL_law 1006 = .ok (.invokevirtual 164, 3) := by decide +kernel
theorem dL_law_1009 : decode cL_law 1009 = .ok (.istore 6, 2) := by decide +kernel
theorem dL_law_1011 : decode cL_law 1011 = .ok (.aload_n 2, 1) := by decide +kernel
theorem dL_law_1012 : decode cL_law 1012 = .ok (.invokevirtual 98, 3) := by decide +kernel
theorem dL_law_1015 : decode cL_law 1015 = .ok (.iload 5, 2) := by decide +kernel
theorem dL_law_1017 : decode cL_law 1017 = .ok (.if_icmp .eq 5, 3) := by decide +kernel
theorem dL_law_1020 : decode cL_law 1020 = .ok (.iconst 0, 1) := by decide +kernel
theorem dL_law_1021 : decode cL_law 1021 = .ok (.ireturn, 1) := by decide +kernel
theorem dL_law_1022 : decode cL_law 1022 = .ok (.iload 5, 2) := by decide +kernel
theorem dL_law_1024 : decode cL_law 1024 = .ok (.ifCond .ne 15, 3) := by decide +kernel
theorem dL_law_1027 : decode cL_law 1027 = .ok (.aload_n 3, 1) := by decide +kernel
theorem dL_law_1028 : decode cL_law 1028 = .ok (.iconst 0, 1) := by decide +kernel
theorem dL_law_1029 : decode cL_law 1029 = .ok (.laload, 1) := by decide +kernel
theorem dL_law_1030 : decode cL_law 1030 = .ok (.iload 6, 2) := by decide +kernel
theorem dL_law_1032 : decode cL_law 1032 = .ok (.i2l, 1) := by decide +kernel
theorem dL_law_1033 : decode cL_law 1033 = .ok (.lcmp, 1) := by decide +kernel
theorem dL_law_1034 : decode cL_law 1034 = .ok (.ifCond .eq 5, 3) := by decide +kernel
theorem dL_law_1037 : decode cL_law 1037 = .ok (.iconst 0, 1) := by decide +kernel
theorem dL_law_1038 : decode cL_law 1038 = .ok (.ireturn, 1) := by decide +kernel
theorem dL_law_1039 : decode cL_law 1039 = .ok (.goto 685, 3) := by decide +kernel
theorem dL_law_1042 : decode cL_law 1042 = .ok (.aload_n 1, 1) := by decide +kernel
theorem dL_law_1043 : decode cL_law 1043 = .ok (.aload_n 0, 1) := by decide +kernel
theorem dL_law_1044 : decode cL_law 1044 = .ok (.iload 4, 2) := by decide +kernel
theorem dL_law_1046 : decode cL_law 1046 = .ok (.iconst 1, 1) := by decide +kernel
theorem dL_law_1047 : decode cL_law 1047 = .ok (.iadd, 1) := by decide +kernel
theorem dL_law_1048 : decode cL_law 1048 = .ok (.iaload, 1) := by decide +kernel
theorem dL_law_1049 : decode cL_law 1049 = .ok (.aload_n 3, 1) := by decide +kernel
theorem dL_law_1050 : decode cL_law 1050 = .ok (.invokestatic 165, 3) := by decide +kernel
theorem dL_law_1053 : decode cL_law 1053 = .ok (.istore 5, 2) := by decide +kernel
theorem dL_law_1055 : decode cL_law 1055 = .ok (.aload_n 2, 1) := by decide +kernel
theorem dL_law_1056 : decode cL_law 1056 = .ok (.aload_n 0, 1) := by decide +kernel
theorem dL_law_1057 : decode cL_law 1057 = .ok (.iload 4, 2) := by decide +kernel
theorem dL_law_1059 : decode cL_law 1059 = .ok (.iconst 1, 1) := by decide +kernel
theorem dL_law_1060 : decode cL_law 1060 = .ok (.iadd, 1) := by decide +kernel
theorem dL_law_1061 : decode cL_law 1061 = .ok (.iaload, 1) := by decide +kernel
theorem dL_law_1062 : decode cL_law 1062 = .ok (.invokevirtual 167, 3) := by decide +kernel
theorem dL_law_1065 : decode cL_law 1065 = .ok (.istore 6, 2) := by decide +kernel
theorem dL_law_1067 : decode cL_law 1067 = .ok (.aload_n 2, 1) := by decide +kernel
theorem dL_law_1068 : decode cL_law 1068 = .ok (.invokevirtual 98, 3) := by decide +kernel
theorem dL_law_1071 : decode cL_law 1071 = .ok (.iload 5, 2) := by decide +kernel
theorem dL_law_1073 : decode cL_law 1073 = .ok (.if_icmp .eq 5, 3) := by decide +kernel
theorem dL_law_1076 : decode cL_law 1076 = .ok (.iconst 0, 1) := by decide +kernel
theorem dL_law_1077 : decode cL_law 1077 = .ok (.ireturn, 1) := by decide +kernel
theorem dL_law_1078 : decode cL_law 1078 = .ok (.iload 5, 2) := by decide +kernel
theorem dL_law_1080 : decode cL_law 1080 = .ok (.ifCond .ne 22, 3) := by decide +kernel
theorem dL_law_1083 : decode cL_law 1083 = .ok (.aload_n 3, 1) := by decide +kernel
theorem dL_law_1084 : decode cL_law 1084 = .ok (.iconst 0, 1) := by decide +kernel
theorem dL_law_1085 : decode cL_law 1085 = .ok (.laload, 1) := by decide +kernel
theorem dL_law_1086 : decode cL_law 1086 = .ok (.iload 6, 2) := by decide +kernel
theorem dL_law_1088 : decode cL_law 1088 = .ok (.ifCond .eq 7, 3) := by decide +kernel
theorem dL_law_1091 : decode cL_law 1091 = .ok (.lconst 1, 1) := by decide +kernel
theorem dL_law_1092 : decode cL_law 1092 = .ok (.goto 4, 3) := by decide +kernel
theorem dL_law_1095 : decode cL_law 1095 = .ok (.lconst 0, 1) := by decide +kernel
theorem dL_law_1096 : decode cL_law 1096 = .ok (.lcmp, 1) := by decide +kernel
theorem dL_law_1097 : decode cL_law 1097 = .ok (.ifCond .eq 5, 3) := by decide +kernel
theorem dL_law_1100 : decode cL_law 1100 = .ok (.iconst 0, 1) := by decide +kernel
theorem dL_law_1101 : decode cL_law 1101 = .ok (.ireturn, 1) := by decide +kernel
theorem dL_law_1102 : decode cL_law 1102 = .ok (.goto 622, 3) := by decide +kernel
theorem dL_law_1105 : decode cL_law 1105 = .ok (.aload_n 1, 1) := by decide +kernel
theorem dL_law_1106 : decode cL_law 1106 = .ok (.aload_n 0, 1) := by decide +kernel
theorem dL_law_1107 : decode cL_law 1107 = .ok (.iload 4, 2) := by decide +kernel
theorem dL_law_1109 : decode cL_law 1109 = .ok (.iconst 1, 1) := by decide +kernel
theorem dL_law_1110 : decode cL_law 1110 = .ok (.iadd, 1) := by decide +kernel
theorem dL_law_1111 : decode cL_law 1111 = .ok (.iaload, 1) := by decide +kernel
theorem dL_law_1112 : decode cL_law 1112 = .ok (.aload_n 3, 1) := by decide +kernel
theorem dL_law_1113 : decode cL_law 1113 = .ok (.invokestatic 168, 3) := by decide +kernel
theorem dL_law_1116 : decode cL_law 1116 = .ok (.istore 5, 2) := by decide +kernel
theorem dL_law_1118 : decode cL_law 1118 = .ok (.aload_n 2, 1) := by decide +kernel
theorem dL_law_1119 : decode cL_law 1119 = .ok (.aload_n 0, 1) := by decide +kernel
theorem dL_law_1120 : decode cL_law 1120 = .ok (.iload 4, 2) := by decide +kernel
theorem dL_law_1122 : decode cL_law 1122 = .ok (.iconst 1, 1) := by decide +kernel
theorem dL_law_1123 : decode cL_law 1123 = .ok (.iadd, 1) := by decide +kernel
theorem dL_law_1124 : decode cL_law 1124 = .ok (.iaload, 1) := by decide +kernel
theorem dL_law_1125 : decode cL_law 1125 = .ok (.invokevirtual 170, 3) := by decide +kernel
theorem dL_law_1128 : decode cL_law 1128 = .ok (.istore 6, 2) := by decide +kernel
theorem dL_law_1130 : decode cL_law 1130 = .ok (.aload_n 2, 1) := by decide +kernel
theorem dL_law_1131 : decode cL_law 1131 = .ok (.invokevirtual 98, 3) := by decide +kernel
theorem dL_law_1134 : decode cL_law 1134 = .ok (.iload 5, 2) := by decide +kernel
theorem dL_law_1136 : decode cL_law 1136 = .ok (.if_icmp .eq 5, 3) := by decide +kernel
theorem dL_law_1139 : decode cL_law 1139 = .ok (.iconst 0, 1) := by decide +kernel
theorem dL_law_1140 : decode cL_law 1140 = .ok (.ireturn, 1) := by decide +kernel
theorem dL_law_1141 : decode cL_law 1141 = .ok (.iload 5, 2) := by decide +kernel
theorem dL_law_1143 : decode cL_law 1143 = .ok (.ifCond .ne 22, 3) := by decide +kernel
theorem dL_law_1146 : decode cL_law 1146 = .ok (.aload_n 3, 1) := by decide +kernel
theorem dL_law_1147 : decode cL_law 1147 = .ok (.iconst 0, 1) := by decide +kernel
theorem dL_law_1148 : decode cL_law 1148 = .ok (.laload, 1) := by decide +kernel
theorem dL_law_1149 : decode cL_law 1149 = .ok (.iload 6, 2) := by decide +kernel
theorem dL_law_1151 : decode cL_law 1151 = .ok (.ifCond .eq 7, 3) := by decide +kernel
theorem dL_law_1154 : decode cL_law 1154 = .ok (.lconst 1, 1) := by decide +kernel
theorem dL_law_1155 : decode cL_law 1155 = .ok (.goto 4, 3) := by decide +kernel
theorem dL_law_1158 : decode cL_law 1158 = .ok (.lconst 0, 1) := by decide +kernel
theorem dL_law_1159 : decode cL_law 1159 = .ok (.lcmp, 1) := by decide +kernel
theorem dL_law_1160 : decode cL_law 1160 = .ok (.ifCond .eq 5, 3) := by decide +kernel
theorem dL_law_1163 : decode cL_law 1163 = .ok (.iconst 0, 1) := by decide +kernel
theorem dL_law_1164 : decode cL_law 1164 = .ok (.ireturn, 1) := by decide +kernel
theorem dL_law_1165 : decode cL_law 1165 = .ok (.goto 559, 3) := by decide +kernel
theorem dL_law_1168 : decode cL_law 1168 = .ok (.aload_n 1, 1) := by decide +kernel
theorem dL_law_1169 : decode cL_law 1169 = .ok (.aload_n 0, 1) := by decide +kernel
theorem dL_law_1170 : decode cL_law 1170 = .ok (.iload 4, 2) := by decide +kernel
theorem dL_law_1172 : decode cL_law 1172 = .ok (.iconst 1, 1) := by decide +kernel
theorem dL_law_1173 : decode cL_law 1173 = .ok (.iadd, 1) := by decide +kernel
theorem dL_law_1174 : decode cL_law 1174 = .ok (.iaload, 1) := by decide +kernel
theorem dL_law_1175 : decode cL_law 1175 = .ok (.aload_n 3, 1) := by decide +kernel
theorem dL_law_1176 : decode cL_law 1176 = .ok (.invokestatic 171, 3) := by decide +kernel
theorem dL_law_1179 : decode cL_law 1179 = .ok (.istore 5, 2) := by decide +kernel
theorem dL_law_1181 : decode cL_law 1181 = .ok (.aload_n 2, 1) := by decide +kernel
theorem dL_law_1182 : decode cL_law 1182 = .ok (.aload_n 0, 1) := by decide +kernel
theorem dL_law_1183 : decode cL_law 1183 = .ok (.iload 4, 2) := by decide +kernel
theorem dL_law_1185 : decode cL_law 1185 = .ok (.iconst 1, 1) := by decide +kernel
theorem dL_law_1186 : decode cL_law 1186 = .ok (.iadd, 1) := by decide +kernel
theorem dL_law_1187 : decode cL_law 1187 = .ok (.iaload, 1) := by decide +kernel
theorem dL_law_1188 : decode cL_law 1188 = .ok (.invokevirtual 173, 3) := by decide +kernel
theorem dL_law_1191 : decode cL_law 1191 = .ok (.istore 6, 2) := by decide +kernel
theorem dL_law_1193 : decode cL_law 1193 = .ok (.aload_n 2, 1) := by decide +kernel
theorem dL_law_1194 : decode cL_law 1194 = .ok (.invokevirtual 98, 3) := by decide +kernel
theorem dL_law_1197 : decode cL_law 1197 = .ok (.iload 5, 2) := by decide +kernel
theorem dL_law_1199 : decode cL_law 1199 = .ok (.if_icmp .eq 5, 3) := by decide +kernel
theorem dL_law_1202 : decode cL_law 1202 = .ok (.iconst 0, 1) := by decide +kernel
theorem dL_law_1203 : decode cL_law 1203 = .ok (.ireturn, 1) := by decide +kernel
theorem dL_law_1204 : decode cL_law 1204 = .ok (.iload 5, 2) := by decide +kernel
theorem dL_law_1206 : decode cL_law 1206 = .ok (.ifCond .ne 22, 3) := by decide +kernel
theorem dL_law_1209 : decode cL_law 1209 = .ok (.aload_n 3, 1) := by decide +kernel
theorem dL_law_1210 : decode cL_law 1210 = .ok (.iconst 0, 1) := by decide +kernel
theorem dL_law_1211 : decode cL_law 1211 = .ok (.laload, 1) := by decide +kernel
theorem dL_law_1212 : decode cL_law 1212 = .ok (.iload 6, 2) := by decide +kernel
theorem dL_law_1214 : decode cL_law 1214 = .ok (.ifCond .eq 7, 3) := by decide +kernel
theorem dL_law_1217 : decode cL_law 1217 = .ok (.lconst 1, 1) := by decide +kernel
theorem dL_law_1218 : decode cL_law 1218 = .ok (.goto 4, 3) := by decide +kernel
theorem dL_law_1221 : decode cL_law 1221 = .ok (.lconst 0, 1) := by decide +kernel
theorem dL_law_1222 : decode cL_law 1222 = .ok (.lcmp, 1) := by decide +kernel
theorem dL_law_1223 : decode cL_law 1223 = .ok (.ifCond .eq 5, 3) := by decide +kernel
theorem dL_law_1226 : decode cL_law 1226 = .ok (.iconst 0, 1) := by decide +kernel
theorem dL_law_1227 : decode cL_law 1227 = .ok (.ireturn, 1) := by decide +kernel
theorem dL_law_1228 : decode cL_law 1228 = .ok (.goto 496, 3) := by decide +kernel
theorem dL_law_1231 : decode cL_law 1231 = .ok (.aload_n 1, 1) := by decide +kernel
theorem dL_law_1232 : decode cL_law 1232 = .ok (.aload_n 0, 1) := by decide +kernel
theorem dL_law_1233 : decode cL_law 1233 = .ok (.iload 4, 2) := by decide +kernel
theorem dL_law_1235 : decode cL_law 1235 = .ok (.iconst 1, 1) := by decide +kernel
theorem dL_law_1236 : decode cL_law 1236 = .ok (.iadd, 1) := by decide +kernel
theorem dL_law_1237 : decode cL_law 1237 = .ok (.iaload, 1) := by decide +kernel
theorem dL_law_1238 : decode cL_law 1238 = .ok (.aload_n 3, 1) := by decide +kernel
theorem dL_law_1239 : decode cL_law 1239 = .ok (.invokestatic 174, 3) := by decide +kernel
theorem dL_law_1242 : decode cL_law 1242 = .ok (.istore 5, 2) := by decide +kernel
theorem dL_law_1244 : decode cL_law 1244 = .ok (.aload_n 2, 1) := by decide +kernel
theorem dL_law_1245 : decode cL_law 1245 = .ok (.aload_n 0, 1) := by decide +kernel
theorem dL_law_1246 : decode cL_law 1246 = .ok (.iload 4, 2) := by decide +kernel
theorem dL_law_1248 : decode cL_law 1248 = .ok (.iconst 1, 1) := by decide +kernel
theorem dL_law_1249 : decode cL_law 1249 = .ok (.iadd, 1) := by decide +kernel
theorem dL_law_1250 : decode cL_law 1250 = .ok (.iaload, 1) := by decide +kernel
theorem dL_law_1251 : decode cL_law 1251 = .ok (.invokevirtual 176, 3) := by decide +kernel
theorem dL_law_1254 : decode cL_law 1254 = .ok (.istore 6, 2) := by decide +kernel
theorem dL_law_1256 : decode cL_law 1256 = .ok (.aload_n 2, 1) := by decide +kernel
theorem dL_law_1257 : decode cL_law 1257 = .ok (.invokevirtual 98, 3) := by decide +kernel
theorem dL_law_1260 : decode cL_law 1260 = .ok (.iload 5, 2) := by decide +kernel
theorem dL_law_1262 : decode cL_law 1262 = .ok (.if_icmp .eq 5, 3) := by decide +kernel
theorem dL_law_1265 : decode cL_law 1265 = .ok (.iconst 0, 1) := by decide +kernel
theorem dL_law_1266 : decode cL_law 1266 = .ok (.ireturn, 1) := by decide +kernel
theorem dL_law_1267 : decode cL_law 1267 = .ok (.iload 5, 2) := by decide +kernel
theorem dL_law_1269 : decode cL_law 1269 = .ok (.ifCond .ne 22, 3) := by decide +kernel
theorem dL_law_1272 : decode cL_law 1272 = .ok (.aload_n 3, 1) := by decide +kernel
theorem dL_law_1273 : decode cL_law 1273 = .ok (.iconst 0, 1) := by decide +kernel
theorem dL_law_1274 : decode cL_law 1274 = .ok (.laload, 1) := by decide +kernel
theorem dL_law_1275 : decode cL_law 1275 = .ok (.iload 6, 2) := by decide +kernel
theorem dL_law_1277 : decode cL_law 1277 = .ok (.ifCond .eq 7, 3) := by decide +kernel
theorem dL_law_1280 : decode cL_law 1280 = .ok (.lconst 1, 1) := by decide +kernel
theorem dL_law_1281 : decode cL_law 1281 = .ok (.goto 4, 3) := by decide +kernel
theorem dL_law_1284 : decode cL_law 1284 = .ok (.lconst 0, 1) := by decide +kernel
theorem dL_law_1285 : decode cL_law 1285 = .ok (.lcmp, 1) := by decide +kernel
theorem dL_law_1286 : decode cL_law 1286 = .ok (.ifCond .eq 5, 3) := by decide +kernel
theorem dL_law_1289 : decode cL_law 1289 = .ok (.iconst 0, 1) := by decide +kernel
theorem dL_law_1290 : decode cL_law 1290 = .ok (.ireturn, 1) := by decide +kernel
theorem dL_law_1291 : decode cL_law 1291 = .ok (.goto 433, 3) := by decide +kernel
theorem dL_law_1294 : decode cL_law 1294 = .ok (.aload_n 1, 1) := by decide +kernel
theorem dL_law_1295 : decode cL_law 1295 = .ok (.aload_n 0, 1) := by decide +kernel
theorem dL_law_1296 : decode cL_law 1296 = .ok (.iload 4, 2) := by decide +kernel
theorem dL_law_1298 : decode cL_law 1298 = .ok (.iconst 1, 1) := by decide +kernel
theorem dL_law_1299 : decode cL_law 1299 = .ok (.iadd, 1) := by decide +kernel
theorem dL_law_1300 : decode cL_law 1300 = .ok (.iaload, 1) := by decide +kernel
theorem dL_law_1301 : decode cL_law 1301 = .ok (.aload_n 3, 1) := by decide +kernel
theorem dL_law_1302 : decode cL_law 1302 = .ok (.invokestatic 177, 3) := by decide +kernel
theorem dL_law_1305 : decode cL_law 1305 = .ok (.istore 5, 2) := by decide +kernel
theorem dL_law_1307 : decode cL_law 1307 = .ok (.aload_n 2, 1) := by decide +kernel
theorem dL_law_1308 : decode cL_law 1308 = .ok (.aload_n 0, 1) := by decide +kernel
theorem dL_law_1309 : decode cL_law 1309 = .ok (.iload 4, 2) := by decide +kernel
theorem dL_law_1311 : decode cL_law 1311 = .ok (.iconst 1, 1) := by decide +kernel
theorem dL_law_1312 : decode cL_law 1312 = .ok (.iadd, 1) := by decide +kernel
theorem dL_law_1313 : decode cL_law 1313 = .ok (.iaload, 1) := by decide +kernel
theorem dL_law_1314 : decode cL_law 1314 = .ok (.invokevirtual 179, 3) := by decide +kernel
theorem dL_law_1317 : decode cL_law 1317 = .ok (.istore 6, 2) := by decide +kernel
theorem dL_law_1319 : decode cL_law 1319 = .ok (.aload_n 2, 1) := by decide +kernel
theorem dL_law_1320 : decode cL_law 1320 = .ok (.invokevirtual 98, 3) := by decide +kernel
theorem dL_law_1323 : decode cL_law 1323 = .ok (.iload 5, 2) := by decide +kernel
theorem dL_law_1325 : decode cL_law 1325 = .ok (.if_icmp .eq 5, 3) := by decide +kernel
theorem dL_law_1328 : decode cL_law 1328 = .ok (.iconst 0, 1) := by decide +kernel
theorem dL_law_1329 : decode cL_law 1329 = .ok (.ireturn, 1) := by decide +kernel
theorem dL_law_1330 : decode cL_law 1330 = .ok (.iload 5, 2) := by decide +kernel
theorem dL_law_1332 : decode cL_law 1332 = .ok (.ifCond .ne 15, 3) := by decide +kernel
theorem dL_law_1335 : decode cL_law 1335 = .ok (.aload_n 3, 1) := by decide +kernel
theorem dL_law_1336 : decode cL_law 1336 = .ok (.iconst 0, 1) := by decide +kernel
theorem dL_law_1337 : decode cL_law 1337 = .ok (.laload, 1) := by decide +kernel
theorem dL_law_1338 : decode cL_law 1338 = .ok (.iload 6, 2) := by decide +kernel
theorem dL_law_1340 : decode cL_law 1340 = .ok (.i2l, 1) := by decide +kernel
theorem dL_law_1341 : decode cL_law 1341 = .ok (.lcmp, 1) := by decide +kernel
theorem dL_law_1342 : decode cL_law 1342 = .ok (.ifCond .eq 5, 3) := by decide +kernel
theorem dL_law_1345 : decode cL_law 1345 = .ok (.iconst 0, 1) := by decide +kernel
theorem dL_law_1346 : decode cL_law 1346 = .ok (.ireturn, 1) := by decide +kernel
theorem dL_law_1347 : decode cL_law 1347 = .ok (.goto 377, 3) := by decide +kernel
theorem dL_law_1350 : decode cL_law 1350 = .ok (.aload_n 1, 1) := by decide +kernel
theorem dL_law_1351 : decode cL_law 1351 = .ok (.aload_n 0, 1) := by decide +kernel
theorem dL_law_1352 : decode cL_law 1352 = .ok (.iload 4, 2) := by decide +kernel
theorem dL_law_1354 : decode cL_law 1354 = .ok (.iconst 1, 1) := by decide +kernel
theorem dL_law_1355 : decode cL_law 1355 = .ok (.iadd, 1) := by decide +kernel
theorem dL_law_1356 : decode cL_law 1356 = .ok (.iaload, 1) := by decide +kernel
theorem dL_law_1357 : decode cL_law 1357 = .ok (.aload_n 3, 1) := by decide +kernel
theorem dL_law_1358 : decode cL_law 1358 = .ok (.invokestatic 180, 3) := by decide +kernel
theorem dL_law_1361 : decode cL_law 1361 = .ok (.istore 5, 2) := by decide +kernel
theorem dL_law_1363 : decode cL_law 1363 = .ok (.aload_n 2, 1) := by decide +kernel
theorem dL_law_1364 : decode cL_law 1364 = .ok (.aload_n 0, 1) := by decide +kernel
theorem dL_law_1365 : decode cL_law 1365 = .ok (.iload 4, 2) := by decide +kernel
theorem dL_law_1367 : decode cL_law 1367 = .ok (.iconst 1, 1) := by decide +kernel
theorem dL_law_1368 : decode cL_law 1368 = .ok (.iadd, 1) := by decide +kernel
theorem dL_law_1369 : decode cL_law 1369 = .ok (.iaload, 1) := by decide +kernel
theorem dL_law_1370 : decode cL_law 1370 = .ok (.invokevirtual 182, 3) := by decide +kernel
theorem dL_law_1373 : decode cL_law 1373 = .ok (.istore 6, 2) := by decide +kernel
theorem dL_law_1375 : decode cL_law 1375 = .ok (.aload_n 2, 1) := by decide +kernel
theorem dL_law_1376 : decode cL_law 1376 = .ok (.invokevirtual 98, 3) := by decide +kernel
theorem dL_law_1379 : decode cL_law 1379 = .ok (.iload 5, 2) := by decide +kernel
theorem dL_law_1381 : decode cL_law 1381 = .ok (.if_icmp .eq 5, 3) := by decide +kernel
theorem dL_law_1384 : decode cL_law 1384 = .ok (.iconst 0, 1) := by decide +kernel
theorem dL_law_1385 : decode cL_law 1385 = .ok (.ireturn, 1) := by decide +kernel
theorem dL_law_1386 : decode cL_law 1386 = .ok (.iload 5, 2) := by decide +kernel
theorem dL_law_1388 : decode cL_law 1388 = .ok (.ifCond .ne 15, 3) := by decide +kernel
theorem dL_law_1391 : decode cL_law 1391 = .ok (.aload_n 3, 1) := by decide +kernel
theorem dL_law_1392 : decode cL_law 1392 = .ok (.iconst 0, 1) := by decide +kernel
theorem dL_law_1393 : decode cL_law 1393 = .ok (.laload, 1) := by decide +kernel
theorem dL_law_1394 : decode cL_law 1394 = .ok (.iload 6, 2) := by decide +kernel
theorem dL_law_1396 : decode cL_law 1396 = .ok (.i2l, 1) := by decide +kernel
theorem dL_law_1397 : decode cL_law 1397 = .ok (.lcmp, 1) := by decide +kernel
theorem dL_law_1398 : decode cL_law 1398 = .ok (.ifCond .eq 5, 3) := by decide +kernel
theorem dL_law_1401 : decode cL_law 1401 = .ok (.iconst 0, 1) := by decide +kernel
theorem dL_law_1402 : decode cL_law 1402 = .ok (.ireturn, 1) := by decide +kernel
theorem dL_law_1403 : decode cL_law 1403 = .ok (.goto 321, 3) := by decide +kernel
theorem dL_law_1406 : decode cL_law 1406 = .ok (.aload_n 1, 1) := by decide +kernel
theorem dL_law_1407 : decode cL_law 1407 = .ok (.invokevirtual 183, 3) := by decide +kernel
theorem dL_law_1410 : decode cL_law 1410 = .ok (.aload_n 2, 1) := by decide +kernel
theorem dL_law_1411 : decode cL_law 1411 = .ok (.invokevirtual 186, 3) := by decide +kernel
theorem dL_law_1414 : decode cL_law 1414 = .ok (.if_icmp .eq 310, 3) := by decide +kernel
theorem dL_law_1417 : decode cL_law 1417 = .ok (.iconst 0, 1) := by decide +kernel
theorem dL_law_1418 : decode cL_law 1418 = .ok (.ireturn, 1) := by decide +kernel
theorem dL_law_1419 : decode cL_law 1419 = .ok (.aload_n 1, 1) := by decide +kernel
theorem dL_law_1420 : decode cL_law 1420 = .ok (.aload_n 0, 1) := by decide +kernel
theorem dL_law_1421 : decode cL_law 1421 = .ok (.iload 4, 2) := by decide +kernel
theorem dL_law_1423 : decode cL_law 1423 = .ok (.iconst 1, 1) := by decide +kernel
theorem dL_law_1424 : decode cL_law 1424 = .ok (.iadd, 1) := by decide +kernel
theorem dL_law_1425 : decode cL_law 1425 = .ok (.iaload, 1) := by decide +kernel
theorem dL_law_1426 : decode cL_law 1426 = .ok (.aload_n 3, 1) := by decide +kernel
theorem dL_law_1427 : decode cL_law 1427 = .ok (.invokestatic 187, 3) := by decide +kernel
theorem dL_law_1430 : decode cL_law 1430 = .ok (.istore 5, 2) := by decide +kernel
theorem dL_law_1432 : decode cL_law 1432 = .ok (.aload_n 2, 1) := by decide +kernel
theorem dL_law_1433 : decode cL_law 1433 = .ok (.aload_n 0, 1) := by decide +kernel
theorem dL_law_1434 : decode cL_law 1434 = .ok (.iload 4, 2) := by decide +kernel
theorem dL_law_1436 : decode cL_law 1436 = .ok (.iconst 1, 1) := by decide +kernel
theorem dL_law_1437 : decode cL_law 1437 = .ok (.iadd, 1) := by decide +kernel
theorem dL_law_1438 : decode cL_law 1438 = .ok (.iaload, 1) := by decide +kernel
theorem dL_law_1439 : decode cL_law 1439 = .ok (.invokevirtual 189, 3) := by decide +kernel
theorem dL_law_1442 : decode cL_law 1442 = .ok (.istore 6, 2) := by decide +kernel
theorem dL_law_1444 : decode cL_law 1444 = .ok (.aload_n 2, 1) := by decide +kernel
theorem dL_law_1445 : decode cL_law 1445 = .ok (.invokevirtual 98, 3) := by decide +kernel
theorem dL_law_1448 : decode cL_law 1448 = .ok (.iload 5, 2) := by decide +kernel
theorem dL_law_1450 : decode cL_law 1450 = .ok (.if_icmp .eq 5, 3) := by decide +kernel
theorem dL_law_1453 : decode cL_law 1453 = .ok (.iconst 0, 1) := by decide +kernel
theorem dL_law_1454 : decode cL_law 1454 = .ok (.ireturn, 1) := by decide +kernel
theorem dL_law_1455 : decode cL_law 1455 = .ok (.iload 5, 2) := by decide +kernel
theorem dL_law_1457 : decode cL_law 1457 = .ok (.ifCond .ne 15, 3) := by decide +kernel
theorem dL_law_1460 : decode cL_law 1460 = .ok (.aload_n 3, 1) := by decide +kernel
theorem dL_law_1461 : decode cL_law 1461 = .ok (.iconst 0, 1) := by decide +kernel
theorem dL_law_1462 : decode cL_law 1462 = .ok (.laload, 1) := by decide +kernel
theorem dL_law_1463 : decode cL_law 1463 = .ok (.iload 6, 2) := by decide +kernel
theorem dL_law_1465 : decode cL_law 1465 = .ok (.i2l, 1) := by decide +kernel
theorem dL_law_1466 : decode cL_law 1466 = .ok (.lcmp, 1) := by decide +kernel
theorem dL_law_1467 : decode cL_law 1467 = .ok (.ifCond .eq 5, 3) := by decide +kernel
theorem dL_law_1470 : decode cL_law 1470 = .ok (.iconst 0, 1) := by decide +kernel
theorem dL_law_1471 : decode cL_law 1471 = .ok (.ireturn, 1) := by decide +kernel
theorem dL_law_1472 : decode cL_law 1472 = .ok (.goto 252, 3) := by decide +kernel
theorem dL_law_1475 : decode cL_law 1475 = .ok (.aload_n 1, 1) := by decide +kernel
theorem dL_law_1476 : decode cL_law 1476 = .ok (.aload_n 0, 1) := by decide +kernel
theorem dL_law_1477 : decode cL_law 1477 = .ok (.iload 4, 2) := by decide +kernel
theorem dL_law_1479 : decode cL_law 1479 = .ok (.iconst 1, 1) := by decide +kernel
theorem dL_law_1480 : decode cL_law 1480 = .ok (.iadd, 1) := by decide +kernel
theorem dL_law_1481 : decode cL_law 1481 = .ok (.iaload, 1) := by decide +kernel
theorem dL_law_1482 : decode cL_law 1482 = .ok (.aload_n 3, 1) := by decide +kernel
theorem dL_law_1483 : decode cL_law 1483 = .ok (.invokestatic 190, 3) := by decide +kernel
theorem dL_law_1486 : decode cL_law 1486 = .ok (.istore 5, 2) := by decide +kernel
theorem dL_law_1488 : decode cL_law 1488 = .ok (.aload_n 2, 1) := by decide +kernel
theorem dL_law_1489 : decode cL_law 1489 = .ok (.aload_n 0, 1) := by decide +kernel
theorem dL_law_1490 : decode cL_law 1490 = .ok (.iload 4, 2) := by decide +kernel
theorem dL_law_1492 : decode cL_law 1492 = .ok (.iconst 1, 1) := by decide +kernel
theorem dL_law_1493 : decode cL_law 1493 = .ok (.iadd, 1) := by decide +kernel
theorem dL_law_1494 : decode cL_law 1494 = .ok (.iaload, 1) := by decide +kernel
theorem dL_law_1495 : decode cL_law 1495 = .ok (.invokevirtual 192, 3) := by decide +kernel
theorem dL_law_1498 : decode cL_law 1498 = .ok (.istore 6, 2) := by decide +kernel
theorem dL_law_1500 : decode cL_law 1500 = .ok (.aload_n 2, 1) := by decide +kernel
theorem dL_law_1501 : decode cL_law 1501 = .ok (.invokevirtual 98, 3) := by decide +kernel
theorem dL_law_1504 : decode cL_law 1504 = .ok (.iload 5, 2) := by decide +kernel
theorem dL_law_1506 : decode cL_law 1506 = .ok (.if_icmp .eq 5, 3) := by decide +kernel
theorem dL_law_1509 : decode cL_law 1509 = .ok (.iconst 0, 1) := by decide +kernel
theorem dL_law_1510 : decode cL_law 1510 = .ok (.ireturn, 1) := by decide +kernel
theorem dL_law_1511 : decode cL_law 1511 = .ok (.iload 5, 2) := by decide +kernel
theorem dL_law_1513 : decode cL_law 1513 = .ok (.ifCond .ne 15, 3) := by decide +kernel
theorem dL_law_1516 : decode cL_law 1516 = .ok (.aload_n 3, 1) := by decide +kernel
theorem dL_law_1517 : decode cL_law 1517 = .ok (.iconst 0, 1) := by decide +kernel
theorem dL_law_1518 : decode cL_law 1518 = .ok (.laload, 1) := by decide +kernel
theorem dL_law_1519 : decode cL_law 1519 = .ok (.iload 6, 2) := by decide +kernel
theorem dL_law_1521 : decode cL_law 1521 = .ok (.i2l, 1) := by decide +kernel
theorem dL_law_1522 : decode cL_law 1522 = .ok (.lcmp, 1) := by decide +kernel
theorem dL_law_1523 : decode cL_law 1523 = .ok (.ifCond .eq 5, 3) := by decide +kernel
theorem dL_law_1526 : decode cL_law 1526 = .ok (.iconst 0, 1) := by decide +kernel
theorem dL_law_1527 : decode cL_law 1527 = .ok (.ireturn, 1) := by decide +kernel
theorem dL_law_1528 : decode cL_law 1528 = .ok (.goto 196, 3) := by decide +kernel
theorem dL_law_1531 : decode cL_law 1531 = .ok (.aload_n 1, 1) := by decide +kernel
theorem dL_law_1532 : decode cL_law 1532 = .ok (.aload_n 0, 1) := by decide +kernel
theorem dL_law_1533 : decode cL_law 1533 = .ok (.iload 4, 2) := by decide +kernel
theorem dL_law_1535 : decode cL_law 1535 = .ok (.iconst 1, 1) := by decide +kernel
theorem dL_law_1536 : decode cL_law 1536 = .ok (.iadd, 1) := by decide +kernel
theorem dL_law_1537 : decode cL_law 1537 = .ok (.iaload, 1) := by decide +kernel
theorem dL_law_1538 : decode cL_law 1538 = .ok (.aload_n 3, 1) := by decide +kernel
theorem dL_law_1539 : decode cL_law 1539 = .ok (.invokestatic 193, 3) := by decide +kernel
theorem dL_law_1542 : decode cL_law 1542 = .ok (.istore 5, 2) := by decide +kernel
theorem dL_law_1544 : decode cL_law 1544 = .ok (.aload_n 2, 1) := by decide +kernel
theorem dL_law_1545 : decode cL_law 1545 = .ok (.aload_n 0, 1) := by decide +kernel
theorem dL_law_1546 : decode cL_law 1546 = .ok (.iload 4, 2) := by decide +kernel
theorem dL_law_1548 : decode cL_law 1548 = .ok (.iconst 1, 1) := by decide +kernel
theorem dL_law_1549 : decode cL_law 1549 = .ok (.iadd, 1) := by decide +kernel
theorem dL_law_1550 : decode cL_law 1550 = .ok (.iaload, 1) := by decide +kernel
theorem dL_law_1551 : decode cL_law 1551 = .ok (.invokevirtual 195, 3) := by decide +kernel
theorem dL_law_1554 : decode cL_law 1554 = .ok (.istore 6, 2) := by decide +kernel
theorem dL_law_1556 : decode cL_law 1556 = .ok (.aload_n 2, 1) := by decide +kernel
theorem dL_law_1557 : decode cL_law 1557 = .ok (.invokevirtual 98, 3) := by decide +kernel
theorem dL_law_1560 : decode cL_law 1560 = .ok (.iload 5, 2) := by decide +kernel
theorem dL_law_1562 : decode cL_law 1562 = .ok (.if_icmp .eq 5, 3) := by decide +kernel
theorem dL_law_1565 : decode cL_law 1565 = .ok (.iconst 0, 1) := by decide +kernel
theorem dL_law_1566 : decode cL_law 1566 = .ok (.ireturn, 1) := by decide +kernel
theorem dL_law_1567 : decode cL_law 1567 = .ok (.iload 5, 2) := by decide +kernel
theorem dL_law_1569 : decode cL_law 1569 = .ok (.ifCond .ne 15, 3) := by decide +kernel
theorem dL_law_1572 : decode cL_law 1572 = .ok (.aload_n 3, 1) := by decide +kernel
theorem dL_law_1573 : decode cL_law 1573 = .ok (.iconst 0, 1) := by decide +kernel
theorem dL_law_1574 : decode cL_law 1574 = .ok (.laload, 1) := by decide +kernel
theorem dL_law_1575 : decode cL_law 1575 = .ok (.iload 6, 2) := by decide +kernel
theorem dL_law_1577 : decode cL_law 1577 = .ok (.i2l, 1) := by decide +kernel
theorem dL_law_1578 : decode cL_law 1578 = .ok (.lcmp, 1) := by decide +kernel
theorem dL_law_1579 : decode cL_law 1579 = .ok (.ifCond .eq 5, 3) := by decide +kernel
theorem dL_law_1582 : decode cL_law 1582 = .ok (.iconst 0, 1) := by decide +kernel
theorem dL_law_1583 : decode cL_law 1583 = .ok (.ireturn, 1) := by decide +kernel
theorem dL_law_1584 : decode cL_law 1584 = .ok (.goto 140, 3) := by decide +kernel
theorem dL_law_1587 : decode cL_law 1587 = .ok (.aload_n 1, 1) := by decide +kernel
theorem dL_law_1588 : decode cL_law 1588 = .ok (.aload_n 0, 1) := by decide +kernel
theorem dL_law_1589 : decode cL_law 1589 = .ok (.iload 4, 2) := by decide +kernel
theorem dL_law_1591 : decode cL_law 1591 = .ok (.iconst 1, 1) := by decide +kernel
theorem dL_law_1592 : decode cL_law 1592 = .ok (.iadd, 1) := by decide +kernel
theorem dL_law_1593 : decode cL_law 1593 = .ok (.iaload, 1) := by decide +kernel
theorem dL_law_1594 : decode cL_law 1594 = .ok (.aload_n 3, 1) := by decide +kernel
theorem dL_law_1595 : decode cL_law 1595 = .ok (.invokestatic 196, 3) := by decide +kernel
theorem dL_law_1598 : decode cL_law 1598 = .ok (.istore 5, 2) := by decide +kernel
theorem dL_law_1600 : decode cL_law 1600 = .ok (.aload_n 2, 1) := by decide +kernel
theorem dL_law_1601 : decode cL_law 1601 = .ok (.aload_n 0, 1) := by decide +kernel
theorem dL_law_1602 : decode cL_law 1602 = .ok (.iload 4, 2) := by decide +kernel
theorem dL_law_1604 : decode cL_law 1604 = .ok (.iconst 1, 1) := by decide +kernel
theorem dL_law_1605 : decode cL_law 1605 = .ok (.iadd, 1) := by decide +kernel
theorem dL_law_1606 : decode cL_law 1606 = .ok (.iaload, 1) := by decide +kernel
theorem dL_law_1607 : decode cL_law 1607 = .ok (.invokevirtual 198, 3) := by decide +kernel
theorem dL_law_1610 : decode cL_law 1610 = .ok (.istore 6, 2) := by decide +kernel
theorem dL_law_1612 : decode cL_law 1612 = .ok (.aload_n 2, 1) := by decide +kernel
theorem dL_law_1613 : decode cL_law 1613 = .ok (.invokevirtual 98, 3) := by decide +kernel
theorem dL_law_1616 : decode cL_law 1616 = .ok (.iload 5, 2) := by decide +kernel
theorem dL_law_1618 : decode cL_law 1618 = .ok (.if_icmp .eq 5, 3) := by decide +kernel
theorem dL_law_1621 : decode cL_law 1621 = .ok (.iconst 0, 1) := by decide +kernel
theorem dL_law_1622 : decode cL_law 1622 = .ok (.ireturn, 1) := by decide +kernel
theorem dL_law_1623 : decode cL_law 1623 = .ok (.iload 5, 2) := by decide +kernel
theorem dL_law_1625 : decode cL_law 1625 = .ok (.ifCond .ne 15, 3) := by decide +kernel
theorem dL_law_1628 : decode cL_law 1628 = .ok (.aload_n 3, 1) := by decide +kernel
theorem dL_law_1629 : decode cL_law 1629 = .ok (.iconst 0, 1) := by decide +kernel
theorem dL_law_1630 : decode cL_law 1630 = .ok (.laload, 1) := by decide +kernel
theorem dL_law_1631 : decode cL_law 1631 = .ok (.iload 6, 2) := by decide +kernel
theorem dL_law_1633 : decode cL_law 1633 = .ok (.i2l, 1) := by decide +kernel
theorem dL_law_1634 : decode cL_law 1634 = .ok (.lcmp, 1) := by decide +kernel
theorem dL_law_1635 : decode cL_law 1635 = .ok (.ifCond .eq 5, 3) := by decide +kernel
theorem dL_law_1638 : decode cL_law 1638 = .ok (.iconst 0, 1) := by decide +kernel
theorem dL_law_1639 : decode cL_law 1639 = .ok (.ireturn, 1) := by decide +kernel
theorem dL_law_1640 : decode cL_law 1640 = .ok (.goto 84, 3) := by decide +kernel
theorem dL_law_1643 : decode cL_law 1643 = .ok (.aload_n 1, 1) := by decide +kernel
theorem dL_law_1644 : decode cL_law 1644 = .ok (.invokevirtual 199, 3) := by decide +kernel
theorem dL_law_1647 : decode cL_law 1647 = .ok (.aload_n 2, 1) := by decide +kernel
theorem dL_law_1648 : decode cL_law 1648 = .ok (.invokevirtual 202, 3) := by decide +kernel
theorem dL_law_1651 : decode cL_law 1651 = .ok (.if_icmp .eq 73, 3) := by decide +kernel
theorem dL_law_1654 : decode cL_law 1654 = .ok (.iconst 0, 1) := by decide +kernel
theorem dL_law_1655 : decode cL_law 1655 = .ok (.ireturn, 1) := by decide +kernel
theorem dL_law_1656 : decode cL_law 1656 = .ok (.aload_n 1, 1) := by decide +kernel
theorem dL_law_1657 : decode cL_law 1657 = .ok (.invokevirtual 203, 3) := by decide +kernel
theorem dL_law_1660 : decode cL_law 1660 = .ok (.aload_n 2, 1) := by decide +kernel
theorem dL_law_1661 : decode cL_law 1661 = .ok (.invokevirtual 206, 3) := by decide +kernel
theorem dL_law_1664 : decode cL_law 1664 = .ok (.if_icmp .eq 60, 3) := by decide +kernel
theorem dL_law_1667 : decode cL_law 1667 = .ok (.iconst 0, 1) := by decide +kernel
theorem dL_law_1668 : decode cL_law 1668 = .ok (.ireturn, 1) := by decide +kernel
theorem dL_law_1669 : decode cL_law 1669 = .ok (.aload_n 1, 1) := by decide +kernel
theorem dL_law_1670 : decode cL_law 1670 = .ok (.invokevirtual 207, 3) := by decide +kernel
theorem dL_law_1673 : decode cL_law 1673 = .ok (.dstore 5, 2) := by decide +kernel
theorem dL_law_1675 : decode cL_law 1675 = .ok (.aload_n 2, 1) := by decide +kernel
theorem dL_law_1676 : decode cL_law 1676 = .ok (.invokevirtual 211, 3) := by decide +kernel
theorem dL_law_1679 : decode cL_law 1679 = .ok (.dstore 7, 2) := by decide +kernel
theorem dL_law_1681 : decode cL_law 1681 = .ok (.dload 5, 2) := by decide +kernel
theorem dL_law_1683 : decode cL_law 1683 = .ok (.dload 7, 2) := by decide +kernel
theorem dL_law_1685 : decode cL_law 1685 = .ok (.dcmp .l, 1) := by decide +kernel
theorem dL_law_1686 : decode cL_law 1686 = .ok (.ifCond .eq 21, 3) := by decide +kernel
theorem dL_law_1689 : decode cL_law 1689 = .ok (.dload 5, 2) := by decide +kernel
theorem dL_law_1691 : decode cL_law 1691 = .ok (.dload 5, 2) := by decide +kernel
theorem dL_law_1693 : decode cL_law 1693 = .ok (.dcmp .l, 1) := by decide +kernel
theorem dL_law_1694 : decode cL_law 1694 = .ok (.ifCond .eq 11, 3) := by decide +kernel
theorem dL_law_1697 : decode cL_law 1697 = .ok (.dload 7, 2) := by decide +kernel
theorem dL_law_1699 : decode cL_law 1699 = .ok (.dload 7, 2) := by decide +kernel
theorem dL_law_1701 : decode cL_law 1701 = .ok (.dcmp .l, 1) := by decide +kernel
theorem dL_law_1702 : decode cL_law 1702 = .ok (.ifCond .ne 5, 3) := by decide +kernel
theorem dL_law_1705 : decode cL_law 1705 = .ok (.iconst 0, 1) := by decide +kernel
theorem dL_law_1706 : decode cL_law 1706 = .ok (.ireturn, 1) := by decide +kernel
theorem dL_law_1707 : decode cL_law 1707 = .ok (.goto 17, 3) := by decide +kernel
theorem dL_law_1710 : decode cL_law 1710 = .ok (.aload_n 1, 1) := by decide +kernel
theorem dL_law_1711 : decode cL_law 1711 = .ok (.invokevirtual 212, 3) := by decide +kernel
theorem dL_law_1714 : decode cL_law 1714 = .ok (.aload_n 2, 1) := by decide +kernel
theorem dL_law_1715 : decode cL_law 1715 = .ok (.invokevirtual 216, 3) := by decide +kernel
theorem dL_law_1718 : decode cL_law 1718 = .ok (.lcmp, 1) := by decide +kernel
theorem dL_law_1719 : decode cL_law 1719 = .ok (.ifCond .eq 5, 3) := by decide +kernel
theorem dL_law_1722 : decode cL_law 1722 = .ok (.iconst 0, 1) := by decide +kernel
theorem dL_law_1723 : decode cL_law 1723 = .ok (.ireturn, 1) := by decide +kernel
theorem dL_law_1724 : decode cL_law 1724 = .ok (.iinc 4 4, 3) := by decide +kernel
theorem dL_law_1727 : decode cL_law 1727 = .ok (.goto (-1704), 3) := by decide +kernel
theorem dL_law_1730 : decode cL_law 1730 = .ok (.iconst 1, 1) := by decide +kernel
theorem dL_law_1731 : decode cL_law 1731 = .ok (.ireturn, 1) := by decide +kernel
end
section
/-! THE STATE: G: the tables and the addresses; a state: the class's part, the reference's part, the law's out[0] -/
abbrev Gt : Type := (Nat → ClassId) × (Nat → Nat → Nat) × (Nat → Nat) × (Nat → ClassId) × (Nat → Nat) × Nat
abbrev gD (G : Gt) : va_G := (G.1, G.2.1)
abbrev gB (G : Gt) (k : Nat) : Nat := G.2.2.1 k
abbrev gC (G : Gt) (k : Nat) : ClassId := G.2.2.2.1 k
abbrev gE (G : Gt) (k : Nat) : Nat := G.2.2.2.2.1 k
abbrev gb (G : Gt) : Nat := G.2.2.2.2.2
def gA (G : Gt) : Nat → Prop := fun q => gb G ≤ q
/-- a promise: stage, shelf (6: none), maker, life, age, heat; a shelf: setting, heat -/
abbrev Pr : Type := Nat × Nat × Int32 × Int32 × Int32 × Int32
abbrev Sh : Type := Int32 × Int32
/-- the class: shelves, promises, made, alarms, hours, power -/
abbrev Kx : Type := (Nat → Sh) × (Nat → Pr) × Int32 × Int32 × Int32 × Int32
/-- the reference: thrown, promises, maker, life, now, kept -/
abbrev Km : Type := Int32 × Int32 × (Nat → Int32) × (Nat → Int32) × (Nat → Int32) × (Nat → Int32)
abbrev St : Type := Kx × Km × Int64
def shO (G : Gt) (k : Nat) : Option Nat := if k < 6 then some (gB G (9 + k)) else none
def eSh (G : Gt) (x : Sh) (k : Nat) : va_E := .inr (1, [.int (if k < 5 then nI k else -1), .int x.1, .int x.2])
def ePr (G : Gt) (x : Pr) : va_E := .inr (0, [.ref (gE G x.1), va_rf (shO G x.2.1), .int x.2.2.1, .int x.2.2.2.1, .int x.2.2.2.2.1, .int x.2.2.2.2.2])
def ent (G : Gt) (σ : St) : Nat → va_E
  | 0 => .inr (2, [.ref (gB G 1), .ref (gB G 2), .int σ.1.2.2.1, .int σ.1.2.2.2.1, .int σ.1.2.2.2.2.1, .int σ.1.2.2.2.2.2, .ref (gB G 14), .ref (gB G 35)])
  | 1 => .inl (gC G 1, 5, .inr (.inr (.inr (.inr (fun i => some (gB G (9 + i)))))))
  | 2 => .inl (gC G 2, 20, .inr (.inr (.inr (.inr (fun i => some (gB G (15 + i)))))))
  | 3 => .inr (3, [.int σ.2.1.1, .int σ.2.1.2.1, .ref (gB G 4), .ref (gB G 5), .ref (gB G 6), .ref (gB G 7)])
  | 4 => .inl (gC G 4, 20, .inl σ.2.1.2.2.1)
  | 5 => .inl (gC G 5, 20, .inl σ.2.1.2.2.2.1)
  | 6 => .inl (gC G 6, 113, .inl σ.2.1.2.2.2.2.1)
  | 7 => .inl (gC G 7, 113, .inl σ.2.1.2.2.2.2.2)
  | 8 => .inl (gC G 8, 1, .inr (.inl (fun _ => σ.2.2)))
  | k => if k < 15 then eSh G (σ.1.1 (k - 9)) (k - 9) else ePr G (σ.1.2.1 (k - 15))
def wl (G : Gt) (σ : St) : va_W := (List.range 36).map (fun k => (gB G k, ent G σ k))
abbrev tys (G : Gt) : List (ClassId × FieldType) := [(gC G 1, .object "PromiseShelves$Shelf"), (gC G 2, .object "PromiseShelves$Promise"), (gC G 4, .int), (gC G 5, .int), (gC G 6, .int), (gC G 7, .int), (gC G 8, .long)]
theorem wl_at (G : Gt) (σ : St) {k : Nat} (h : k < 36) : (wl G σ)[k]? = some (gB G k, ent G σ k) := by
  simp [wl, List.getElem?_map, List.getElem?_range h]
theorem ent_S (G : Gt) (σ : St) {i : Nat} (h : i < 6) : ent G σ (9 + i) = eSh G (σ.1.1 i) i := by
  rcases (show i = 0 ∨ i = 1 ∨ i = 2 ∨ i = 3 ∨ i = 4 ∨ i = 5 by omega) with rfl | rfl | rfl | rfl | rfl | rfl <;> rfl
theorem ent_ge (G : Gt) (σ : St) {k : Nat} (h : 15 ≤ k) : ent G σ k = ePr G (σ.1.2.1 (k - 15)) := by
  unfold ent
  split
  all_goals first
    | omega
    | exact if_neg (by omega)
theorem ent_P (G : Gt) (σ : St) (i : Nat) : ent G σ (15 + i) = ePr G (σ.1.2.1 i) := by
  rw [ent_ge G σ (by omega), Nat.add_sub_cancel_left]
theorem ent_mid (G : Gt) (σ : St) {k : Nat} (h : 9 ≤ k) (h2 : k < 15) : ent G σ k = eSh G (σ.1.1 (k - 9)) (k - 9) := by
  have := ent_S G σ (i := k - 9) (by omega)
  rw [show 9 + (k - 9) = k by omega] at this
  exact this
theorem wl_P (G : Gt) (σ : St) {i : Nat} (h : i < 21) : (wl G σ)[15 + i]? = some (gB G (15 + i), ePr G (σ.1.2.1 i)) := by rw [wl_at G σ (by omega), ent_P]
theorem wl_S (G : Gt) (σ : St) {i : Nat} (h : i < 6) : (wl G σ)[9 + i]? = some (gB G (9 + i), eSh G (σ.1.1 i) i) := by rw [wl_at G σ (by omega), ent_S G σ h]
theorem wl_set (G : Gt) (σ σ' : St) {k : Nat} {e : va_E} (h : k < 36) (he : ent G σ' k = e) (ho : ∀ j, j < 36 → j ≠ k → ent G σ' j = ent G σ j) : (wl G σ).set k (gB G k, e) = wl G σ' := by
  apply List.ext_getElem?
  intro j
  by_cases hj : j = k
  · subst hj
    rw [List.getElem?_set_self (by simp [wl]; exact h), wl_at G σ' h, he]
  · rw [List.getElem?_set_ne (Ne.symm hj)]
    by_cases h2 : j < 36
    · rw [wl_at G σ h2, wl_at G σ' h2, ho j h2 hj]
    · have l1 : (wl G σ)[j]? = none := by rw [List.getElem?_eq_none_iff]; simp [wl]; omega
      have l2 : (wl G σ')[j]? = none := by rw [List.getElem?_eq_none_iff]; simp [wl]; omega
      rw [l1, l2]
/-! setters -/
def setS (σ : St) (i : Nat) (x : Sh) : St := ((va_up σ.1.1 i x, σ.1.2), σ.2)
def setP (σ : St) (i : Nat) (x : Pr) : St := ((σ.1.1, va_up σ.1.2.1 i x, σ.1.2.2), σ.2)
/-- made, alarms, hours, power -/
def setX (σ : St) (x : Int32 × Int32 × Int32 × Int32) : St := ((σ.1.1, σ.1.2.1, x), σ.2)
def setM (σ : St) (x : Km) : St := (σ.1, x, σ.2.2)
def setO (σ : St) (x : Int64) : St := (σ.1, σ.2.1, x)
abbrev gS (σ : St) (i : Nat) : Sh := σ.1.1 i
abbrev gP (σ : St) (i : Nat) : Pr := σ.1.2.1 i
abbrev gX (σ : St) : Int32 × Int32 × Int32 × Int32 := σ.1.2.2
abbrev gM (σ : St) : Km := σ.2.1
theorem gS_setS (σ : St) (i : Nat) (x : Sh) : gS (setS σ i x) i = x := va_up_self _ _ _
theorem gS_setS_ne (σ : St) {i j : Nat} (x : Sh) (h : j ≠ i) : gS (setS σ i x) j = gS σ j := va_up_ne _ _ h
theorem gP_setP (σ : St) (i : Nat) (x : Pr) : gP (setP σ i x) i = x := va_up_self _ _ _
theorem gP_setP_ne (σ : St) {i j : Nat} (x : Pr) (h : j ≠ i) : gP (setP σ i x) j = gP σ j := va_up_ne _ _ h
theorem gS_setP (σ : St) (i j : Nat) (x : Pr) : gS (setP σ i x) j = gS σ j := rfl
theorem gP_setS (σ : St) (i j : Nat) (x : Sh) : gP (setS σ i x) j = gP σ j := rfl
theorem setS_setS (σ : St) (i : Nat) (x y : Sh) : setS (setS σ i x) i y = setS σ i y := by simp only [setS, bx_uu]
theorem setP_setP (σ : St) (i : Nat) (x y : Pr) : setP (setP σ i x) i y = setP σ i y := by simp only [setP, bx_uu]
theorem va_up_same {α : Type} (f : Nat → α) (k : Nat) : va_up f k (f k) = f := by funext j; by_cases h : j = k <;> simp [va_up, h]
theorem setS_same (σ : St) (i : Nat) : setS σ i (gS σ i) = σ := by simp only [setS, va_up_same]
theorem setP_same (σ : St) (i : Nat) : setP σ i (gP σ i) = σ := by simp only [setP, va_up_same]
theorem set_S (G : Gt) (σ : St) {i : Nat} (h : i < 6) (x : Sh) : (wl G σ).set (9 + i) (gB G (9 + i), eSh G x i) = wl G (setS σ i x) := by
  refine wl_set G σ _ (by omega) (by rw [ent_S G _ h]; exact congrArg (fun z => eSh G z i) (va_up_self _ _ _)) ?_
  intro j hj hne
  rcases Nat.lt_or_ge j 9 with h9 | h9
  · rcases (show j = 0 ∨ j = 1 ∨ j = 2 ∨ j = 3 ∨ j = 4 ∨ j = 5 ∨ j = 6 ∨ j = 7 ∨ j = 8 by omega) with rfl | rfl | rfl | rfl | rfl | rfl | rfl | rfl | rfl <;> rfl
  rcases Nat.lt_or_ge j 15 with h15 | h15
  · rw [ent_mid G _ h9 h15, ent_mid G _ h9 h15]
    exact congrArg (fun z => eSh G z (j - 9)) (va_up_ne _ _ (by omega))
  · rw [ent_ge G _ h15, ent_ge G _ h15]; rfl
theorem set_P (G : Gt) (σ : St) {i : Nat} (h : i < 21) (x : Pr) : (wl G σ).set (15 + i) (gB G (15 + i), ePr G x) = wl G (setP σ i x) := by
  refine wl_set G σ _ (by omega) (by rw [ent_P]; exact congrArg (fun z => ePr G z) (va_up_self _ _ _)) ?_
  intro j hj hne
  rcases Nat.lt_or_ge j 9 with h9 | h9
  · rcases (show j = 0 ∨ j = 1 ∨ j = 2 ∨ j = 3 ∨ j = 4 ∨ j = 5 ∨ j = 6 ∨ j = 7 ∨ j = 8 by omega) with rfl | rfl | rfl | rfl | rfl | rfl | rfl | rfl | rfl <;> rfl
  rcases Nat.lt_or_ge j 15 with h15 | h15
  · rw [ent_mid G _ h9 h15, ent_mid G _ h9 h15]; rfl
  · rw [ent_ge G _ h15, ent_ge G _ h15]
    exact congrArg (fun z => ePr G z) (va_up_ne _ _ (by omega))
/-- any other cell: the tail of the world is the same -/
theorem set_k (G : Gt) (σ σ' : St) {k : Nat} {e : va_E} (h : k < 9) (he : ent G σ' k = e) (h1 : σ'.1.1 = σ.1.1) (h2 : σ'.1.2.1 = σ.1.2.1) (ho : ∀ j, j < 9 → j ≠ k → ent G σ' j = ent G σ j) : (wl G σ).set k (gB G k, e) = wl G σ' := by
  refine wl_set G σ σ' (by omega) he ?_
  intro j hj hne
  rcases Nat.lt_or_ge j 9 with h9 | h9
  · exact ho j h9 hne
  rcases Nat.lt_or_ge j 15 with h15 | h15
  · rw [ent_mid G _ h9 h15, ent_mid G _ h9 h15, h1]
  · rw [ent_ge G _ h15, ent_ge G _ h15, h2]
/-! the words that every method has -/
def isNest : Cond → Bool
  | .fieldLinkNest .. => true
  | .methodLinkNest .. => true
  | _ => false
def AL : List Cond := lw_tbl.filter goodWord
def NW : List Cond := lw_tbl.filter isNest
theorem al {w : Cond} (h : w ∈ lw_tbl) (g : goodWord w = true) : w ∈ AL := List.mem_filter.mpr ⟨h, g⟩
theorem al_tbl {w : Cond} (h : w ∈ AL) : w ∈ lw_tbl := (List.mem_filter.mp h).1
theorem al_good {w : Cond} (h : w ∈ AL) : (w.onTables && w.keeps) = true ∨ ∃ ty, w = .arrayClass ty := good_of_word (List.mem_filter.mp h).2
theorem al_in : GoodIn AL AL := fun _ h => ⟨h, al_good h⟩
theorem alX0 : ∀ w ∈ wsX00, w ∈ AL := fun w h => al (inX0 w h) (by revert w; decide +kernel)
theorem alX1 : ∀ w ∈ wsX10, w ∈ AL := fun w h => al (inX1 w h) (by revert w; decide +kernel)
theorem alX3 : ∀ w ∈ wsX30, w ∈ AL := fun w h => al (inX3 w h) (by revert w; decide +kernel)
theorem alX4 : ∀ w ∈ wsX40, w ∈ AL := fun w h => al (inX4 w h) (by revert w; decide +kernel)
/-! what stays: tables, statics, strings -/
def enName : Nat → String
  | 0 => "UNMADE"
  | 1 => "FRESH"
  | 2 => "FROZEN"
  | 3 => "THAWED"
  | 4 => "KEPT"
  | _ => "EXPIRED"
def enD : String := "LPromiseShelves$Stage;"
def strs : List (Nat × String) := [(111, "a setting is -30 to -5"), (208, "a maker is 0 to 5"), (211, "hours are 1 to 100"), (213, "a shelf is 0 to 4"), (215, "there is no such promise"), (56, "a life is 1 to 100 hours"), (63, "there are 20 promises"), (80, "the promise lies on no shelf"), (82, "the promise lies on this shelf"), (93, "the promise is thawed")]
def Ev (G : Gt) (U : State) : Prop :=
  ((∀ i j : Nat, i < 36 → j < 36 → gB G i = gB G j → i = j) ∧ (∀ i : Nat, i < 36 → gb G ≤ gB G i) ∧ (∀ i j : Nat, i < 6 → j < 6 → gE G i = gE G j → i = j)) ∧ gb G ≤ U.heap.size ∧ va_K (gD G) vwCl (tys G) U ∧
  (∀ k, k < 6 → va_Z RX2 (enName k) enD (.ref (gE G k)) (gA G) U U.heap) ∧ vx_Zq Bundle.tN "UNASSIGNED_STACK" Bundle.steD (gA G) U U.heap ∧ vx_Zq Bundle.tN "SUPPRESSED_SENTINEL" Bundle.listD (gA G) U U.heap ∧
  (∀ q ∈ strs, ∃ a, vk_R RX3 q.1 q.2 a U) ∧ ∀ w ∈ NW, va_Nw w U
theorem nw_warm {w : Cond} (h : w ∈ NW) {s U : State} (hW : s.WarmedH U.vm) (hZ : va_Nw w s) : va_Nw w U := by
  have h2 := (List.mem_filter.mp h).2
  cases w with
  | fieldLinkNest => exact va_Nw.warmF hW hZ
  | methodLinkNest => exact va_Nw.warmM hW hZ
  | _ => cases h2
theorem env_go {G : Gt} {s U : State} {H : Heap} {locs : List Loc} (hW : s.WarmedH U.vm) (hU : U.heap = H) (hS : va_S (gA G) s.heap H locs) (h : Ev G s) : Ev G U := by
  obtain ⟨h0, h1, h2, h3, h4, h5, h6, h7⟩ := h
  have hk : ∀ a : Nat, a < s.heap.size → ¬ gA G a → U.heap[a]? = s.heap[a]? := fun a x y => by rw [hU]; exact hS.2.1 a x y
  exact ⟨h0, Nat.le_trans h1 (by rw [hU]; exact hS.1), va_K.moved hW.alike h2, fun k hk6 => ((h3 k hk6).moved hW.alike).kept hk, (h4.moved hW.alike).kept hk, (h5.moved hW.alike).kept hk, fun q hq => by
    obtain ⟨a, ha⟩ := h6 q hq
    exact ⟨a, vk_R.warm hW ha⟩, fun w hw => nw_warm hw hW (h7 w hw)⟩
theorem env_same {G : Gt} {s U : State} (hv : U.vm = s.vm) (hh : U.heap = s.heap) (h : Ev G s) : Ev G U := by
  refine env_go (H := s.heap) (locs := []) ?_ hh va_S.rf h
  rw [hv]
  exact State.WarmedH.refl s
/-- a method's start: the world in the state σ -/
def Wd (G : Gt) (σ : St) (U : State) : Prop := Ev G U ∧ va_P (gD G) vwCl (wl G σ) U.heap
/-- a method's end -/
def We (G : Gt) (σ : St) (t : State) : Prop := va_P (gD G) vwCl (wl G σ) t.heap
/-- within a method -/
def Iv (G : Gt) (σ : St) (s : State) (H : Heap) (locs : List Loc) : Prop := Ev G s ∧ va_P (gD G) vwCl (wl G σ) H ∧ va_S (gA G) s.heap H locs
theorem wl_D {G : Gt} {s : State} (h : Ev G s) (σ : St) : va_D (gA G) (wl G σ) := by
  obtain ⟨⟨hi, hb, -⟩, -⟩ := h
  have lt : ∀ (k : Nat) (q : Nat × va_E), (wl G σ)[k]? = some q → k < 36 := fun k q hq => by
    have := (List.getElem?_eq_some_iff.mp hq).1
    simpa [wl] using this
  refine ⟨fun i j p q hp hq e => ?_, fun k q hq => ?_⟩
  · have h1 := lt i p hp
    have h2 := lt j q hq
    rw [wl_at G σ h1] at hp
    rw [wl_at G σ h2] at hq
    cases hp; cases hq
    exact hi i j h1 h2 e
  · have h1 := lt k q hq
    rw [wl_at G σ h1] at hq
    cases hq
    exact hb k h1
theorem Iv.D {G : Gt} {σ : St} {s : State} {H : Heap} {locs : List Loc} (h : Iv G σ s H locs) : va_D (gA G) (wl G σ) := wl_D h.1 σ
theorem Iv.K {G : Gt} {σ : St} {s : State} {H : Heap} {locs : List Loc} (h : Iv G σ s H locs) : va_K (gD G) vwCl (tys G) s := h.1.2.2.1
theorem Iv.hA {G : Gt} {σ : St} {s : State} {H : Heap} {locs : List Loc} (h : Iv G σ s H locs) : ∀ q : Nat, s.heap.size ≤ q → gA G q := fun q hq => Nat.le_trans h.1.2.1 hq
theorem Iv.nw {G : Gt} {σ : St} {s : State} {H : Heap} {locs : List Loc} (h : Iv G σ s H locs) {w : Cond} (hw : w ∈ NW) (ho : w.onTables = true) {A : Array Value} : w.before A s = true := va_Nw.use ho (h.1.2.2.2.2.2.2.2 w hw)
end
section
/-! contracts: a method's call in the state σ -/
abbrev rm (d mc ms : Nat) : Room := { frames := d, cells := mc, slots := ms, locals := 36 * d }
def Ct (l : Launch) (G : Gt) (y : MethodName) (cc : ByteArray) (maxL : Nat) (ret : Option FieldType) (d mc ms : Nat) (av : List Value) (σ : St) (Qc : Array Value → State → Outcome → State → Prop) : Prop :=
  Met l y (.code y cc maxL ret :: AL) (rm d mc ms) (va_Pc av (fun U => Wd G σ U)) Qc mc ms (gA G)
abbrev Qi (G : Gt) (post : Int32 → St → Prop) := va_Qi post (We G) (gA G)
abbrev Ql (G : Gt) (post : Int64 → St → Prop) := va_Ql post (We G) (gA G)
abbrev Qv (G : Gt) (post : St → Prop) := va_Qv post (We G) (gA G)
abbrev Qq (G : Gt) (post : Option Nat → St → Prop) := va_Qq post (We G) (gA G)
theorem mt_intro {l : Launch} {G : Gt} {y : MethodName} {cc : ByteArray} {maxL : Nat} {ret : Option FieldType} {d mc ms : Nat} {av : List Value} {σ : St} {Qc : Array Value → State → Outcome → State → Prop} (hy : plainName y.cls = true) (hn : (lg_sl av).length ≤ maxL)
    (body : ∀ (p : Program) (e : Env) (s : State) (m : MethodId) (below : List Frame) (meth : Method) (c : Code), CallFix p m c cc maxL s av.toArray AL y.cls → meth.sig.returnType = ret → meth.locks = false → meth.name = y.name → Iv G σ s s.heap [] →
      ∀ ls : Array Slot, lv_has ls maxL (lv_args 0 av) → W p l e (rm d mc ms) s m av.toArray below meth c s.heap [] 0 0 (MQ below Qc av.toArray s mc ms (gA G)) (F0 m 0 ls [])) : Ct l G y cc maxL ret d mc ms av σ Qc := by
  refine Met.ofW (cc := cc) (maxL := maxL) (ret := ret) hy rfl ?_
  intro p e s m args below meth c s₁ B hml hv
  obtain ⟨rfl, hE, hP⟩ := hv
  have hts := atoms_spec (ws := .code y cc maxL ret :: AL) B.pre
  rw [lg_entry_eq]
  exact body p e s m below meth c ⟨B.exec, B.bytes, hml, findClass_of_methodNamed B.named, fun w h => hts w (List.mem_cons_of_mem _ h)⟩ B.returns B.notSynchronized (name_of_methodNamed B.named B.method).1 ⟨hE, hP, va_S.rf⟩ _ (lv_entry av hn)
section RW1
variable {p : Program} {l : Launch} {e : Env} {R : Room} {s : State} {m : MethodId} {args : Array Value} {below : List Frame} {meth : Method} {c : Code} {H : Heap} {locs : List Loc} {cells slots mc ms : Nat} {Q : State → Prop}
variable {cc : ByteArray} {pc nL : Nat} {ls : Array Slot} {rest : List Value} {G : Gt} {σ : St} {own : String}
/-! ends -/
theorem xt_i {v : Int32} {σ' : St} {post : Int32 → St → Prop} (S : CallFix p m c cc nL s args AL own) (hI : Iv G σ' s H locs) (hr : meth.sig.returnType = some .int) (hlk : meth.locks = false) (hp : post v σ') (hc : cells ≤ mc) (hs : slots ≤ ms) (hdg : decode cc pc = .ok (.ireturn, 1)) :
    W p l e R s m args below meth c H locs cells slots (MQ below (Qi G post) args s mc ms (gA G)) (F0 m pc ls [.int v]) :=
  W.widen hc hs (W.iret S.1 S.2.1 hr (fun t ht _ => ⟨⟨v, σ', rfl, hp, by unfold We; rw [ht]; exact hI.2.1⟩, hI.2.2.F ht⟩) hI.2.2.2.2 hdg hlk)
theorem xt_z {v : Int32} {σ' : St} {post : Int32 → St → Prop} (S : CallFix p m c cc nL s args AL own) (hI : Iv G σ' s H locs) (hr : meth.sig.returnType = some .boolean) (hlk : meth.locks = false) (hn : narrow .boolean (.int v) = .int v) (hp : post v σ') (hc : cells ≤ mc) (hs : slots ≤ ms) (hdg : decode cc pc = .ok (.ireturn, 1)) :
    W p l e R s m args below meth c H locs cells slots (MQ below (Qi G post) args s mc ms (gA G)) (F0 m pc ls [.int v]) :=
  W.widen hc hs (W.zret S.1 S.2.1 hr hn (fun t ht _ => ⟨⟨v, σ', rfl, hp, by unfold We; rw [ht]; exact hI.2.1⟩, hI.2.2.F ht⟩) hI.2.2.2.2 hdg hlk)
theorem xt_l {v : Int64} {σ' : St} {post : Int64 → St → Prop} (S : CallFix p m c cc nL s args AL own) (hI : Iv G σ' s H locs) (hr : meth.sig.returnType = some .long) (hlk : meth.locks = false) (hp : post v σ') (hc : cells ≤ mc) (hs : slots ≤ ms) (hdg : decode cc pc = .ok (.lreturn, 1)) :
    W p l e R s m args below meth c H locs cells slots (MQ below (Ql G post) args s mc ms (gA G)) (F0 m pc ls [.long v]) :=
  W.widen hc hs (W.lret S.1 S.2.1 hr (fun t ht _ => ⟨⟨v, σ', rfl, hp, by unfold We; rw [ht]; exact hI.2.1⟩, hI.2.2.F ht⟩) hI.2.2.2.2 hdg hlk)
theorem xt_v {σ' : St} {post : St → Prop} (S : CallFix p m c cc nL s args AL own) (hI : Iv G σ' s H locs) (hr : meth.sig.returnType = none) (hlk : meth.locks = false) (hp : post σ') (hc : cells ≤ mc) (hs : slots ≤ ms) (hdg : decode cc pc = .ok (.return_, 1)) :
    W p l e R s m args below meth c H locs cells slots (MQ below (Qv G post) args s mc ms (gA G)) (F0 m pc ls []) :=
  W.widen hc hs (W.vret S.1 S.2.1 hr (fun t ht _ => ⟨⟨σ', rfl, hp, by unfold We; rw [ht]; exact hI.2.1⟩, hI.2.2.F ht⟩) hI.2.2.2.2 hdg hlk)
theorem xt_a {a : Nat} {ty : String} {σ' : St} {post : Option Nat → St → Prop} (S : CallFix p m c cc nL s args AL own) (hI : Iv G σ' s H locs) (hr : meth.sig.returnType = some (.object ty)) (hlk : meth.locks = false) (hp : post (some a) σ') (hc : cells ≤ mc) (hs : slots ≤ ms) (hdg : decode cc pc = .ok (.areturn, 1)) :
    W p l e R s m args below meth c H locs cells slots (MQ below (Qq G post) args s mc ms (gA G)) (F0 m pc ls [.ref a]) :=
  W.widen hc hs (W.aret S.1 S.2.1 hr (Or.inl ⟨_, rfl⟩) (Or.inr ⟨_, rfl⟩) (fun t ht _ => ⟨⟨some a, σ', rfl, hp, by unfold We; rw [ht]; exact hI.2.1⟩, hI.2.2.F ht⟩) hI.2.2.2.2 hdg hlk)
/-! calls: the run, by the kind of call; then by the kind of answer -/
theorem wd_pc {av : List Value} : FrameBlind (va_Pc av (fun U => Wd G σ U)) := fun _ U _ _ h => ⟨h.1, env_same (s := U) rfl rfl h.2.1, h.2.2⟩
theorem wd_at (hI : Iv G σ s H locs) {U : State} (hU : U.heap = H) (hW : s.WarmedH U.vm) : Wd G σ U := ⟨env_go hW hU hI.2.2 hI.1, by rw [hU]; exact hI.2.1⟩
theorem rnV {y : MethodName} {bytes : ByteArray} {maxL d n index b : Nat} {C : String} {ret : Option FieldType} {As : List Value} {Qc : Array Value → State → Outcome → State → Prop} (S : CallFix p m c cc nL s args AL own) (hI : Iv G σ s H locs) (hM : Ct l G y bytes maxL ret d mc ms (.ref b :: As) σ Qc)
    (cw : CallW R s args own C index y bytes maxL ret (.code y bytes maxL ret :: AL) (rm d mc ms) mc ms n) (hrc : ∃ cell : Cell, H[b]? = some cell ∧ cell.vm.isStatics = false ∧ s.vm.findClass C = some cell.cls) (hn : As.length = n) (hsz : ls.size = nL) (hW : (rest.map fun v => v.category).sum ≤ 8)
    (hdg : decode cc pc = .ok (.invokevirtual index, 3)) (hf : cells + mc ≤ R.cells ∧ slots + ms ≤ R.slots) :
    va_Run p l e R s m args below meth c H locs cells slots mc ms (F0 m pc ls (As.reverse ++ .ref b :: rest)) rest (Qc (Value.ref b :: As).toArray) (gA G) :=
  va_runV S hM cw ⟨wd_pc, hrc, fun _ hU hWm => ⟨rfl, wd_at hI hU hWm⟩⟩ rfl hn hsz rfl (lv_room hW) hdg hf
theorem rnVN {y : MethodName} {bytes : ByteArray} {maxL d n index b : Nat} {C host : String} {ret : Option FieldType} {As : List Value} {Qc : Array Value → State → Outcome → State → Prop} (S : CallFix p m c cc nL s args AL own) (hI : Iv G σ s H locs) (hM : Ct l G y bytes maxL ret d mc ms (.ref b :: As) σ Qc)
    (cw : va_CN R s args own index y host bytes maxL ret (.code y bytes maxL ret :: AL) (rm d mc ms) mc ms n ∧ (Cond.instanceMethod y).before args s = true ∧ (Cond.selects C y y).before args s = true) (hrc : ∃ cell : Cell, H[b]? = some cell ∧ cell.vm.isStatics = false ∧ s.vm.findClass C = some cell.cls) (hn : As.length = n) (hsz : ls.size = nL) (hW : (rest.map fun v => v.category).sum ≤ 8)
    (hdg : decode cc pc = .ok (.invokevirtual index, 3)) (hf : cells + mc ≤ R.cells ∧ slots + ms ≤ R.slots) :
    va_Run p l e R s m args below meth c H locs cells slots mc ms (F0 m pc ls (As.reverse ++ .ref b :: rest)) rest (Qc (Value.ref b :: As).toArray) (gA G) :=
  va_runVN S hM cw ⟨wd_pc, hrc, fun _ hU hWm => ⟨rfl, wd_at hI hU hWm⟩⟩ rfl hn hsz rfl (lv_room hW) hdg hf
theorem rnS {y : MethodName} {bytes : ByteArray} {maxL d n index : Nat} {ret : Option FieldType} {As : List Value} {Qc : Array Value → State → Outcome → State → Prop} (S : CallFix p m c cc nL s args AL own) (hI : Iv G σ s H locs) (hM : Ct l G y bytes maxL ret d mc ms As σ Qc)
    (cw : CallB R s args own index y bytes maxL ret (.code y bytes maxL ret :: AL) (rm d mc ms) mc ms n ∧ (Cond.static y).before args s = true) (hn : As.length = n) (hsz : ls.size = nL) (hW : (rest.map fun v => v.category).sum ≤ 8)
    (hdg : decode cc pc = .ok (.invokestatic index, 3)) (hf : cells + mc ≤ R.cells ∧ slots + ms ≤ R.slots) :
    va_Run p l e R s m args below meth c H locs cells slots mc ms (F0 m pc ls (As.reverse ++ rest)) rest (Qc As.toArray) (gA G) :=
  va_runS S hM cw ⟨wd_pc, fun _ hU hWm => ⟨rfl, wd_at hI hU hWm⟩⟩ rfl hn hsz rfl (lv_room hW) hdg hf
theorem cl_i {post : Int32 → St → Prop} {st0 : List Value} {a : Array Value} (hI : Iv G σ s H locs) (hr : va_Run p l e R s m args below meth c H locs cells slots mc ms (F0 m pc ls st0) rest (Qi G post a) (gA G))
    (kk : ∀ (r : Int32) (σ' : St) (H1 : Heap) (locs1 : List Loc), post r σ' → Iv G σ' s H1 locs1 → W p l e R s m args below meth c H1 locs1 (cells + mc) (slots + ms) Q (F0 m (pc + 3) ls (.int r :: rest))) : W p l e R s m args below meth c H locs cells slots Q (F0 m pc ls st0) :=
  va_calli hr hI.2.2 (fun _ _ h => h) (fun _ h => h) (fun r u t H1 locs1 ht _ hp hb _ _ hS => kk r u H1 locs1 hp ⟨hI.1, by rw [← ht]; exact hb, hS⟩)
theorem cl_l {post : Int64 → St → Prop} {st0 : List Value} {a : Array Value} (hI : Iv G σ s H locs) (hr : va_Run p l e R s m args below meth c H locs cells slots mc ms (F0 m pc ls st0) rest (Ql G post a) (gA G))
    (kk : ∀ (r : Int64) (σ' : St) (H1 : Heap) (locs1 : List Loc), post r σ' → Iv G σ' s H1 locs1 → W p l e R s m args below meth c H1 locs1 (cells + mc) (slots + ms) Q (F0 m (pc + 3) ls (.long r :: rest))) : W p l e R s m args below meth c H locs cells slots Q (F0 m pc ls st0) :=
  va_calll hr hI.2.2 (fun _ _ h => h) (fun _ h => h) (fun r u t H1 locs1 ht _ hp hb _ _ hS => kk r u H1 locs1 hp ⟨hI.1, by rw [← ht]; exact hb, hS⟩)
theorem cl_v {post : St → Prop} {st0 : List Value} {a : Array Value} (hI : Iv G σ s H locs) (hr : va_Run p l e R s m args below meth c H locs cells slots mc ms (F0 m pc ls st0) rest (Qv G post a) (gA G))
    (kk : ∀ (σ' : St) (H1 : Heap) (locs1 : List Loc), post σ' → Iv G σ' s H1 locs1 → W p l e R s m args below meth c H1 locs1 (cells + mc) (slots + ms) Q (F0 m (pc + 3) ls rest)) : W p l e R s m args below meth c H locs cells slots Q (F0 m pc ls st0) :=
  va_callv hr hI.2.2 (fun _ _ h => h) (fun _ h => h) (fun u t H1 locs1 ht _ hp hb _ _ hS => kk u H1 locs1 hp ⟨hI.1, by rw [← ht]; exact hb, hS⟩)
theorem cl_q {post : Option Nat → St → Prop} {st0 : List Value} {a : Array Value} (hI : Iv G σ s H locs) (hr : va_Run p l e R s m args below meth c H locs cells slots mc ms (F0 m pc ls st0) rest (Qq G post a) (gA G))
    (kk : ∀ (r : Option Nat) (σ' : St) (H1 : Heap) (locs1 : List Loc), post r σ' → Iv G σ' s H1 locs1 → W p l e R s m args below meth c H1 locs1 (cells + mc) (slots + ms) Q (F0 m (pc + 3) ls (va_rf r :: rest))) : W p l e R s m args below meth c H locs cells slots Q (F0 m pc ls st0) :=
  va_callq hr hI.2.2 (fun _ _ h => h) (fun _ h => h) (fun r u t H1 locs1 ht _ hp hb _ _ hS => kk r u H1 locs1 hp ⟨hI.1, by rw [← ht]; exact hb, hS⟩)
/-! receivers -/
theorem rcX (hI : Iv G σ s H locs) : ∃ cell : Cell, H[gB G 0]? = some cell ∧ cell.vm.isStatics = false ∧ s.vm.findClass RX3 = some cell.cls := va_recv hI.K hI.2.1 (ci := 2) (q0 := 0) rfl (wl_at G σ (by decide))
theorem rcM (hI : Iv G σ s H locs) : ∃ cell : Cell, H[gB G 3]? = some cell ∧ cell.vm.isStatics = false ∧ s.vm.findClass RX4 = some cell.cls := va_recv hI.K hI.2.1 (ci := 3) (q0 := 3) rfl (wl_at G σ (by decide))
theorem rcS (hI : Iv G σ s H locs) {i : Nat} (hi : i < 6) : ∃ cell : Cell, H[gB G (9 + i)]? = some cell ∧ cell.vm.isStatics = false ∧ s.vm.findClass RX1 = some cell.cls := va_recv hI.K hI.2.1 (ci := 1) (q0 := 9 + i) rfl (wl_S G σ hi)
theorem rcP (hI : Iv G σ s H locs) {i : Nat} (hi : i < 21) : ∃ cell : Cell, H[gB G (15 + i)]? = some cell ∧ cell.vm.isStatics = false ∧ s.vm.findClass RX0 = some cell.cls := va_recv hI.K hI.2.1 (ci := 0) (q0 := 15 + i) rfl (wl_P G σ hi)
/-! fields: generic rows -/
theorem rgP (S : CallFix p m c cc nL s args AL own) (hI : Iv G σ s H locs) {i : Nat} (hi : i < 21) {x : Pr} (hp : gP σ i = x) (k : Nat) (hk : k < 6) {index : Nat} (hlink : (Cond.fieldLink own index RX0 (TX0 k).2.1 (TX0 k).2.2.1).before args s = true) (hsame : (TX0 k).1 = RX0) {v : Value} (hv : [Value.ref (gE G x.1), va_rf (shO G x.2.1), .int x.2.2.1, .int x.2.2.2.1, .int x.2.2.2.2.1, .int x.2.2.2.2.2][k]? = some v) (hdg : decode cc pc = .ok (.getfield index, 3))
    (kk : W p l e R s m args below meth c H locs cells slots Q (F0 m (pc + 3) ls (v :: rest))) : W p l e R s m args below meth c H locs cells slots Q (F0 m pc ls (.ref (gB G (15 + i)) :: rest)) := by
  subst hp
  exact va_get (D := gD G) (ci := 0) (C := RX0) (T := TX0) (N := 6) S.1 S.2.1 S.2.2.2.2 alX0 S.2.2.2.1 hI.K hI.2.1 (15 + i) (wl_P G σ hi) rfl k hk hlink (fun _ h => by rw [← hsame]; exact h) hv hdg kk
theorem rgPN (S : CallFix p m c cc nL s args AL own) (hI : Iv G σ s H locs) {i : Nat} (hi : i < 21) {x : Pr} (hp : gP σ i = x) (k : Nat) (hk : k < 6) {index : Nat} {host : String} (hlink : (Cond.fieldLinkNest own index RX0 (TX0 k).2.1 (TX0 k).2.2.1 host).before args s = true) (hsame : (TX0 k).1 = RX0) {v : Value} (hv : [Value.ref (gE G x.1), va_rf (shO G x.2.1), .int x.2.2.1, .int x.2.2.2.1, .int x.2.2.2.2.1, .int x.2.2.2.2.2][k]? = some v) (hdg : decode cc pc = .ok (.getfield index, 3))
    (kk : W p l e R s m args below meth c H locs cells slots Q (F0 m (pc + 3) ls (v :: rest))) : W p l e R s m args below meth c H locs cells slots Q (F0 m pc ls (.ref (gB G (15 + i)) :: rest)) := by
  subst hp
  exact va_getN (D := gD G) (ci := 0) (C := RX0) (T := TX0) (N := 6) S.1 S.2.1 S.2.2.2.2 alX0 S.2.2.2.1 hI.K hI.2.1 (15 + i) (wl_P G σ hi) rfl k hk hlink (fun _ h => by rw [← hsame]; exact h) hv hdg kk
theorem rgS (S : CallFix p m c cc nL s args AL own) (hI : Iv G σ s H locs) {i : Nat} (hi : i < 6) {x : Sh} (hp : gS σ i = x) (k : Nat) (hk : k < 3) {index : Nat} (hlink : (Cond.fieldLink own index RX1 (TX1 k).2.1 (TX1 k).2.2.1).before args s = true) (hsame : (TX1 k).1 = RX1) {v : Value} (hv : [Value.int (if i < 5 then nI i else -1), .int x.1, .int x.2][k]? = some v) (hdg : decode cc pc = .ok (.getfield index, 3))
    (kk : W p l e R s m args below meth c H locs cells slots Q (F0 m (pc + 3) ls (v :: rest))) : W p l e R s m args below meth c H locs cells slots Q (F0 m pc ls (.ref (gB G (9 + i)) :: rest)) := by
  subst hp
  exact va_get (D := gD G) (ci := 1) (C := RX1) (T := TX1) (N := 3) S.1 S.2.1 S.2.2.2.2 alX1 S.2.2.2.1 hI.K hI.2.1 (9 + i) (wl_S G σ hi) rfl k hk hlink (fun _ h => by rw [← hsame]; exact h) hv hdg kk
theorem rgSN (S : CallFix p m c cc nL s args AL own) (hI : Iv G σ s H locs) {i : Nat} (hi : i < 6) {x : Sh} (hp : gS σ i = x) (k : Nat) (hk : k < 3) {index : Nat} {host : String} (hlink : (Cond.fieldLinkNest own index RX1 (TX1 k).2.1 (TX1 k).2.2.1 host).before args s = true) (hsame : (TX1 k).1 = RX1) {v : Value} (hv : [Value.int (if i < 5 then nI i else -1), .int x.1, .int x.2][k]? = some v) (hdg : decode cc pc = .ok (.getfield index, 3))
    (kk : W p l e R s m args below meth c H locs cells slots Q (F0 m (pc + 3) ls (v :: rest))) : W p l e R s m args below meth c H locs cells slots Q (F0 m pc ls (.ref (gB G (9 + i)) :: rest)) := by
  subst hp
  exact va_getN (D := gD G) (ci := 1) (C := RX1) (T := TX1) (N := 3) S.1 S.2.1 S.2.2.2.2 alX1 S.2.2.2.1 hI.K hI.2.1 (9 + i) (wl_S G σ hi) rfl k hk hlink (fun _ h => by rw [← hsame]; exact h) hv hdg kk
theorem rgX (S : CallFix p m c cc nL s args AL own) (hI : Iv G σ s H locs) (k : Nat) (hk : k < 8) {index : Nat} (hlink : (Cond.fieldLink own index RX3 (TX3 k).2.1 (TX3 k).2.2.1).before args s = true) (hsame : (TX3 k).1 = RX3) {v : Value} (hv : [Value.ref (gB G 1), .ref (gB G 2), .int (gX σ).1, .int (gX σ).2.1, .int (gX σ).2.2.1, .int (gX σ).2.2.2, .ref (gB G 14), .ref (gB G 35)][k]? = some v) (hdg : decode cc pc = .ok (.getfield index, 3))
    (kk : W p l e R s m args below meth c H locs cells slots Q (F0 m (pc + 3) ls (v :: rest))) : W p l e R s m args below meth c H locs cells slots Q (F0 m pc ls (.ref (gB G 0) :: rest)) :=
  va_get (D := gD G) (ci := 2) (C := RX3) (T := TX3) (N := 8) S.1 S.2.1 S.2.2.2.2 alX3 S.2.2.2.1 hI.K hI.2.1 0 (wl_at G σ (by decide)) rfl k hk hlink (fun _ h => by rw [← hsame]; exact h) hv hdg kk
theorem rgM (S : CallFix p m c cc nL s args AL own) (hI : Iv G σ s H locs) (k : Nat) (hk : k < 6) {index : Nat} (hlink : (Cond.fieldLink own index RX4 (TX4 k).2.1 (TX4 k).2.2.1).before args s = true) (hsame : (TX4 k).1 = RX4) {v : Value} (hv : [Value.int (gM σ).1, .int (gM σ).2.1, .ref (gB G 4), .ref (gB G 5), .ref (gB G 6), .ref (gB G 7)][k]? = some v) (hdg : decode cc pc = .ok (.getfield index, 3))
    (kk : W p l e R s m args below meth c H locs cells slots Q (F0 m (pc + 3) ls (v :: rest))) : W p l e R s m args below meth c H locs cells slots Q (F0 m pc ls (.ref (gB G 3) :: rest)) :=
  va_get (D := gD G) (ci := 3) (C := RX4) (T := TX4) (N := 6) S.1 S.2.1 S.2.2.2.2 alX4 S.2.2.2.1 hI.K hI.2.1 3 (wl_at G σ (by decide)) rfl k hk hlink (fun _ h => by rw [← hsame]; exact h) hv hdg kk
theorem rpP (S : CallFix p m c cc nL s args AL own) (hI : Iv G σ s H locs) {i : Nat} (hi : i < 21) {x : Pr} (hp : gP σ i = x) (y : Pr) (k : Nat) (hk : k < 6) {index : Nat} (hlink : (Cond.fieldLink own index RX0 (TX0 k).2.1 (TX0 k).2.2.1).before args s = true) (hsame : (TX0 k).1 = RX0) (hfin : (TX0 k).2.2.2 = false) {ty : FieldType} {v : Value} (hd : parseFieldDescriptor (TX0 k).2.2.1 = some ty) (hn : narrow ty v = v) (hfit : fits ty v = true)
    (hset : [Value.ref (gE G x.1), va_rf (shO G x.2.1), .int x.2.2.1, .int x.2.2.2.1, .int x.2.2.2.2.1, .int x.2.2.2.2.2].set k v = [Value.ref (gE G y.1), va_rf (shO G y.2.1), .int y.2.2.1, .int y.2.2.2.1, .int y.2.2.2.2.1, .int y.2.2.2.2.2]) (hdg : decode cc pc = .ok (.putfield index, 3))
    (kk : ∀ (σ' : St) (H1 : Heap) (locs1 : List Loc), σ' = setP σ i y → gP σ' i = y → Iv G σ' s H1 locs1 → W p l e R s m args below meth c H1 locs1 cells slots Q (F0 m (pc + 3) ls rest)) : W p l e R s m args below meth c H locs cells slots Q (F0 m pc ls (v :: .ref (gB G (15 + i)) :: rest)) := by
  subst hp
  refine va_put (D := gD G) (ci := 0) (C := RX0) (T := TX0) (N := 6) S.1 S.2.1 S.2.2.2.2 alX0 tyX0 tyX0_ok nmX0 S.2.2.2.1 hI.K hI.2.1 hI.D hI.2.2 (15 + i) (wl_P G σ hi) rfl k hk hlink (fun _ h => by rw [← hsame]; exact h) hfin hd hn hfit hk hdg (fun H1 locs1 hP _ hS => kk _ H1 locs1 rfl (gP_setP σ i y) ⟨hI.1, ?_, hS⟩)
  rw [hset] at hP
  rw [← set_P G σ hi y]
  exact hP
theorem rpPN (S : CallFix p m c cc nL s args AL own) (hI : Iv G σ s H locs) {i : Nat} (hi : i < 21) {x : Pr} (hp : gP σ i = x) (y : Pr) (k : Nat) (hk : k < 6) {index : Nat} {host : String} (hlink : (Cond.fieldLinkNest own index RX0 (TX0 k).2.1 (TX0 k).2.2.1 host).before args s = true) (hsame : (TX0 k).1 = RX0) (hfin : (TX0 k).2.2.2 = false) {ty : FieldType} {v : Value} (hd : parseFieldDescriptor (TX0 k).2.2.1 = some ty) (hn : narrow ty v = v) (hfit : fits ty v = true)
    (hset : [Value.ref (gE G x.1), va_rf (shO G x.2.1), .int x.2.2.1, .int x.2.2.2.1, .int x.2.2.2.2.1, .int x.2.2.2.2.2].set k v = [Value.ref (gE G y.1), va_rf (shO G y.2.1), .int y.2.2.1, .int y.2.2.2.1, .int y.2.2.2.2.1, .int y.2.2.2.2.2]) (hdg : decode cc pc = .ok (.putfield index, 3))
    (kk : ∀ (σ' : St) (H1 : Heap) (locs1 : List Loc), σ' = setP σ i y → gP σ' i = y → Iv G σ' s H1 locs1 → W p l e R s m args below meth c H1 locs1 cells slots Q (F0 m (pc + 3) ls rest)) : W p l e R s m args below meth c H locs cells slots Q (F0 m pc ls (v :: .ref (gB G (15 + i)) :: rest)) := by
  subst hp
  refine va_putN (D := gD G) (ci := 0) (C := RX0) (T := TX0) (N := 6) S.1 S.2.1 S.2.2.2.2 alX0 tyX0 tyX0_ok nmX0 S.2.2.2.1 hI.K hI.2.1 hI.D hI.2.2 (15 + i) (wl_P G σ hi) rfl k hk hlink (fun _ h => by rw [← hsame]; exact h) hfin hd hn hfit hk hdg (fun H1 locs1 hP _ hS => kk _ H1 locs1 rfl (gP_setP σ i y) ⟨hI.1, ?_, hS⟩)
  rw [hset] at hP
  rw [← set_P G σ hi y]
  exact hP
theorem rpS (S : CallFix p m c cc nL s args AL own) (hI : Iv G σ s H locs) {i : Nat} (hi : i < 6) {x : Sh} (hp : gS σ i = x) (y : Sh) (k : Nat) (hk : k < 3) {index : Nat} (hlink : (Cond.fieldLink own index RX1 (TX1 k).2.1 (TX1 k).2.2.1).before args s = true) (hsame : (TX1 k).1 = RX1) (hfin : (TX1 k).2.2.2 = false) {ty : FieldType} {v : Value} (hd : parseFieldDescriptor (TX1 k).2.2.1 = some ty) (hn : narrow ty v = v) (hfit : fits ty v = true)
    (hset : [Value.int (if i < 5 then nI i else -1), .int x.1, .int x.2].set k v = [Value.int (if i < 5 then nI i else -1), .int y.1, .int y.2]) (hdg : decode cc pc = .ok (.putfield index, 3))
    (kk : ∀ (σ' : St) (H1 : Heap) (locs1 : List Loc), σ' = setS σ i y → gS σ' i = y → Iv G σ' s H1 locs1 → W p l e R s m args below meth c H1 locs1 cells slots Q (F0 m (pc + 3) ls rest)) : W p l e R s m args below meth c H locs cells slots Q (F0 m pc ls (v :: .ref (gB G (9 + i)) :: rest)) := by
  subst hp
  refine va_put (D := gD G) (ci := 1) (C := RX1) (T := TX1) (N := 3) S.1 S.2.1 S.2.2.2.2 alX1 tyX1 tyX1_ok nmX1 S.2.2.2.1 hI.K hI.2.1 hI.D hI.2.2 (9 + i) (wl_S G σ hi) rfl k hk hlink (fun _ h => by rw [← hsame]; exact h) hfin hd hn hfit hk hdg (fun H1 locs1 hP _ hS => kk _ H1 locs1 rfl (gS_setS σ i y) ⟨hI.1, ?_, hS⟩)
  rw [hset] at hP
  rw [← set_S G σ hi y]
  exact hP
theorem rpSN (S : CallFix p m c cc nL s args AL own) (hI : Iv G σ s H locs) {i : Nat} (hi : i < 6) {x : Sh} (hp : gS σ i = x) (y : Sh) (k : Nat) (hk : k < 3) {index : Nat} {host : String} (hlink : (Cond.fieldLinkNest own index RX1 (TX1 k).2.1 (TX1 k).2.2.1 host).before args s = true) (hsame : (TX1 k).1 = RX1) (hfin : (TX1 k).2.2.2 = false) {ty : FieldType} {v : Value} (hd : parseFieldDescriptor (TX1 k).2.2.1 = some ty) (hn : narrow ty v = v) (hfit : fits ty v = true)
    (hset : [Value.int (if i < 5 then nI i else -1), .int x.1, .int x.2].set k v = [Value.int (if i < 5 then nI i else -1), .int y.1, .int y.2]) (hdg : decode cc pc = .ok (.putfield index, 3))
    (kk : ∀ (σ' : St) (H1 : Heap) (locs1 : List Loc), σ' = setS σ i y → gS σ' i = y → Iv G σ' s H1 locs1 → W p l e R s m args below meth c H1 locs1 cells slots Q (F0 m (pc + 3) ls rest)) : W p l e R s m args below meth c H locs cells slots Q (F0 m pc ls (v :: .ref (gB G (9 + i)) :: rest)) := by
  subst hp
  refine va_putN (D := gD G) (ci := 1) (C := RX1) (T := TX1) (N := 3) S.1 S.2.1 S.2.2.2.2 alX1 tyX1 tyX1_ok nmX1 S.2.2.2.1 hI.K hI.2.1 hI.D hI.2.2 (9 + i) (wl_S G σ hi) rfl k hk hlink (fun _ h => by rw [← hsame]; exact h) hfin hd hn hfit hk hdg (fun H1 locs1 hP _ hS => kk _ H1 locs1 rfl (gS_setS σ i y) ⟨hI.1, ?_, hS⟩)
  rw [hset] at hP
  rw [← set_S G σ hi y]
  exact hP
theorem rpX (S : CallFix p m c cc nL s args AL own) (hI : Iv G σ s H locs) (y : Int32 × Int32 × Int32 × Int32) (k : Nat) (hk : k < 8) {index : Nat} (hlink : (Cond.fieldLink own index RX3 (TX3 k).2.1 (TX3 k).2.2.1).before args s = true) (hsame : (TX3 k).1 = RX3) (hfin : (TX3 k).2.2.2 = false) {ty : FieldType} {v : Value} (hd : parseFieldDescriptor (TX3 k).2.2.1 = some ty) (hn : narrow ty v = v) (hfit : fits ty v = true)
    (hset : [Value.ref (gB G 1), .ref (gB G 2), .int (gX σ).1, .int (gX σ).2.1, .int (gX σ).2.2.1, .int (gX σ).2.2.2, .ref (gB G 14), .ref (gB G 35)].set k v = [Value.ref (gB G 1), .ref (gB G 2), .int y.1, .int y.2.1, .int y.2.2.1, .int y.2.2.2, .ref (gB G 14), .ref (gB G 35)]) (hdg : decode cc pc = .ok (.putfield index, 3))
    (kk : ∀ (σ' : St) (H1 : Heap) (locs1 : List Loc), σ' = setX σ y → Iv G σ' s H1 locs1 → W p l e R s m args below meth c H1 locs1 cells slots Q (F0 m (pc + 3) ls rest)) : W p l e R s m args below meth c H locs cells slots Q (F0 m pc ls (v :: .ref (gB G 0) :: rest)) := by
  refine va_put (D := gD G) (ci := 2) (C := RX3) (T := TX3) (N := 8) S.1 S.2.1 S.2.2.2.2 alX3 tyX3 tyX3_ok nmX3 S.2.2.2.1 hI.K hI.2.1 hI.D hI.2.2 0 (wl_at G σ (by decide)) rfl k hk hlink (fun _ h => by rw [← hsame]; exact h) hfin hd hn hfit hk hdg (fun H1 locs1 hP _ hS => kk _ H1 locs1 rfl ⟨hI.1, ?_, hS⟩)
  rw [hset] at hP
  have e9 := set_k G σ (setX σ y) (k := 0) (e := ent G (setX σ y) 0) (by decide) rfl rfl rfl (fun j hj hne => by
    rcases (show j = 1 ∨ j = 2 ∨ j = 3 ∨ j = 4 ∨ j = 5 ∨ j = 6 ∨ j = 7 ∨ j = 8 by omega) with rfl | rfl | rfl | rfl | rfl | rfl | rfl | rfl <;> rfl)
  rw [← e9]
  exact hP
theorem rpM (S : CallFix p m c cc nL s args AL own) (hI : Iv G σ s H locs) (y : Int32) (z : Int32) (k : Nat) (hk : k < 6) {index : Nat} (hlink : (Cond.fieldLink own index RX4 (TX4 k).2.1 (TX4 k).2.2.1).before args s = true) (hsame : (TX4 k).1 = RX4) (hfin : (TX4 k).2.2.2 = false) {ty : FieldType} {v : Value} (hd : parseFieldDescriptor (TX4 k).2.2.1 = some ty) (hn : narrow ty v = v) (hfit : fits ty v = true)
    (hset : [Value.int (gM σ).1, .int (gM σ).2.1, .ref (gB G 4), .ref (gB G 5), .ref (gB G 6), .ref (gB G 7)].set k v = [Value.int y, .int z, .ref (gB G 4), .ref (gB G 5), .ref (gB G 6), .ref (gB G 7)]) (hdg : decode cc pc = .ok (.putfield index, 3))
    (kk : ∀ (σ' : St) (H1 : Heap) (locs1 : List Loc), σ' = setM σ (y, z, (gM σ).2.2) → Iv G σ' s H1 locs1 → W p l e R s m args below meth c H1 locs1 cells slots Q (F0 m (pc + 3) ls rest)) : W p l e R s m args below meth c H locs cells slots Q (F0 m pc ls (v :: .ref (gB G 3) :: rest)) := by
  refine va_put (D := gD G) (ci := 3) (C := RX4) (T := TX4) (N := 6) S.1 S.2.1 S.2.2.2.2 alX4 tyX4 tyX4_ok nmX4 S.2.2.2.1 hI.K hI.2.1 hI.D hI.2.2 3 (wl_at G σ (by decide)) rfl k hk hlink (fun _ h => by rw [← hsame]; exact h) hfin hd hn hfit hk hdg (fun H1 locs1 hP _ hS => kk _ H1 locs1 rfl ⟨hI.1, ?_, hS⟩)
  rw [hset] at hP
  have e9 := set_k G σ (setM σ (y, z, (gM σ).2.2)) (k := 3) (e := ent G (setM σ (y, z, (gM σ).2.2)) 3) (by decide) rfl rfl rfl (fun j hj hne => by
    rcases (show j = 0 ∨ j = 1 ∨ j = 2 ∨ j = 4 ∨ j = 5 ∨ j = 6 ∨ j = 7 ∨ j = 8 by omega) with rfl | rfl | rfl | rfl | rfl | rfl | rfl | rfl <;> rfl)
  rw [← e9]
  exact hP
end RW1
end
section
theorem shO_s {G : Gt} {k : Nat} (h : k < 6) : va_rf (shO G k) = .ref (gB G (9 + k)) := by rw [shO, if_pos h]; rfl
section INST
variable {p : Program} {l : Launch} {e : Env} {R : Room} {s : State} {m : MethodId} {args : Array Value} {below : List Frame} {meth : Method} {c : Code} {H : Heap} {locs : List Loc} {cells slots mc ms : Nat} {Q : State → Prop}
variable {cc : ByteArray} {pc nL : Nat} {ls : Array Slot} {rest : List Value} {G : Gt} {σ : St}
set_option maxRecDepth 20000 in
theorem g_X3_X_shelves (S : CallFix p m c cc nL s args AL RX3) (hI : Iv G σ s H locs)  (hdg : decode cc pc = .ok (.getfield 11, 3)) (kk : W p l e R s m args below meth c H locs cells slots Q (F0 m (pc + 3) ls (.ref (gB G 1) :: rest))) : W p l e R s m args below meth c H locs cells slots Q (F0 m pc ls (.ref (gB G 0) :: rest)) :=
  rgX S hI 0 (by decide) (S.2.2.2.2 _ (al (List.mem_of_getElem? (i := 128) rfl) rfl)) rfl rfl hdg kk
set_option maxRecDepth 20000 in
theorem g_X3_X_promises (S : CallFix p m c cc nL s args AL RX3) (hI : Iv G σ s H locs)  (hdg : decode cc pc = .ok (.getfield 17, 3)) (kk : W p l e R s m args below meth c H locs cells slots Q (F0 m (pc + 3) ls (.ref (gB G 2) :: rest))) : W p l e R s m args below meth c H locs cells slots Q (F0 m pc ls (.ref (gB G 0) :: rest)) :=
  rgX S hI 1 (by decide) (S.2.2.2.2 _ (al (List.mem_of_getElem? (i := 129) rfl) rfl)) rfl rfl hdg kk
set_option maxRecDepth 20000 in
theorem g_X3_X_made (S : CallFix p m c cc nL s args AL RX3) (hI : Iv G σ s H locs) {nm ar hr pw : Int32} (hx : gX σ = (nm, ar, hr, pw)) (hdg : decode cc pc = .ok (.getfield 21, 3)) (kk : W p l e R s m args below meth c H locs cells slots Q (F0 m (pc + 3) ls (.int nm :: rest))) : W p l e R s m args below meth c H locs cells slots Q (F0 m pc ls (.ref (gB G 0) :: rest)) :=
  rgX S hI 2 (by decide) (S.2.2.2.2 _ (al (List.mem_of_getElem? (i := 130) rfl) rfl)) rfl (by rw [hx]; rfl) hdg kk
set_option maxRecDepth 20000 in
theorem g_X3_X_alarmsRung (S : CallFix p m c cc nL s args AL RX3) (hI : Iv G σ s H locs) {nm ar hr pw : Int32} (hx : gX σ = (nm, ar, hr, pw)) (hdg : decode cc pc = .ok (.getfield 25, 3)) (kk : W p l e R s m args below meth c H locs cells slots Q (F0 m (pc + 3) ls (.int ar :: rest))) : W p l e R s m args below meth c H locs cells slots Q (F0 m pc ls (.ref (gB G 0) :: rest)) :=
  rgX S hI 3 (by decide) (S.2.2.2.2 _ (al (List.mem_of_getElem? (i := 131) rfl) rfl)) rfl (by rw [hx]; rfl) hdg kk
set_option maxRecDepth 20000 in
theorem g_X3_X_hoursGone (S : CallFix p m c cc nL s args AL RX3) (hI : Iv G σ s H locs) {nm ar hr pw : Int32} (hx : gX σ = (nm, ar, hr, pw)) (hdg : decode cc pc = .ok (.getfield 28, 3)) (kk : W p l e R s m args below meth c H locs cells slots Q (F0 m (pc + 3) ls (.int hr :: rest))) : W p l e R s m args below meth c H locs cells slots Q (F0 m pc ls (.ref (gB G 0) :: rest)) :=
  rgX S hI 4 (by decide) (S.2.2.2.2 _ (al (List.mem_of_getElem? (i := 132) rfl) rfl)) rfl (by rw [hx]; rfl) hdg kk
set_option maxRecDepth 20000 in
theorem g_X3_X_power (S : CallFix p m c cc nL s args AL RX3) (hI : Iv G σ s H locs) {nm ar hr pw : Int32} (hx : gX σ = (nm, ar, hr, pw)) (hdg : decode cc pc = .ok (.getfield 31, 3)) (kk : W p l e R s m args below meth c H locs cells slots Q (F0 m (pc + 3) ls (.int pw :: rest))) : W p l e R s m args below meth c H locs cells slots Q (F0 m pc ls (.ref (gB G 0) :: rest)) :=
  rgX S hI 5 (by decide) (S.2.2.2.2 _ (al (List.mem_of_getElem? (i := 133) rfl) rfl)) rfl (by rw [hx]; rfl) hdg kk
set_option maxRecDepth 20000 in
theorem g_X3_X_trialShelf (S : CallFix p m c cc nL s args AL RX3) (hI : Iv G σ s H locs)  (hdg : decode cc pc = .ok (.getfield 38, 3)) (kk : W p l e R s m args below meth c H locs cells slots Q (F0 m (pc + 3) ls (.ref (gB G (9 + 5)) :: rest))) : W p l e R s m args below meth c H locs cells slots Q (F0 m pc ls (.ref (gB G 0) :: rest)) :=
  rgX S hI 6 (by decide) (S.2.2.2.2 _ (al (List.mem_of_getElem? (i := 134) rfl) rfl)) rfl rfl hdg kk
set_option maxRecDepth 20000 in
theorem g_X3_X_trialPromise (S : CallFix p m c cc nL s args AL RX3) (hI : Iv G σ s H locs)  (hdg : decode cc pc = .ok (.getfield 43, 3)) (kk : W p l e R s m args below meth c H locs cells slots Q (F0 m (pc + 3) ls (.ref (gB G (15 + 20)) :: rest))) : W p l e R s m args below meth c H locs cells slots Q (F0 m pc ls (.ref (gB G 0) :: rest)) :=
  rgX S hI 7 (by decide) (S.2.2.2.2 _ (al (List.mem_of_getElem? (i := 135) rfl) rfl)) rfl rfl hdg kk
set_option maxRecDepth 20000 in
theorem g_X3_P_shelf_r (S : CallFix p m c cc nL s args AL RX3) (hI : Iv G σ s H locs) {i : Nat} (hi : i < 21) {g sh : Nat} {mk lf ag ht : Int32} (hp : gP σ i = (g, sh, mk, lf, ag, ht)) (hdg : decode cc pc = .ok (.getfield 77, 3)) (kk : W p l e R s m args below meth c H locs cells slots Q (F0 m (pc + 3) ls (va_rf (shO G sh) :: rest))) : W p l e R s m args below meth c H locs cells slots Q (F0 m pc ls (.ref (gB G (15 + i)) :: rest)) :=
  rgPN S hI hi hp 1 (by decide) (hI.nw (List.mem_filter.mpr ⟨List.mem_of_getElem? (i := 106) rfl, rfl⟩) rfl) rfl rfl hdg kk
set_option maxRecDepth 20000 in
theorem g_X3_P_shelf_s (S : CallFix p m c cc nL s args AL RX3) (hI : Iv G σ s H locs) {i : Nat} (hi : i < 21) {g sh : Nat} {mk lf ag ht : Int32} (hp : gP σ i = (g, sh, mk, lf, ag, ht)) (hs : sh < 6) (hdg : decode cc pc = .ok (.getfield 77, 3)) (kk : W p l e R s m args below meth c H locs cells slots Q (F0 m (pc + 3) ls (.ref (gB G (9 + sh)) :: rest))) : W p l e R s m args below meth c H locs cells slots Q (F0 m pc ls (.ref (gB G (15 + i)) :: rest)) :=
  rgPN S hI hi hp 1 (by decide) (hI.nw (List.mem_filter.mpr ⟨List.mem_of_getElem? (i := 106) rfl, rfl⟩) rfl) rfl (v := .ref (gB G (9 + sh))) (by show some (va_rf (shO G sh)) = _; rw [shO, if_pos hs]; rfl) hdg kk
set_option maxRecDepth 20000 in
theorem g_X3_P_shelf_n (S : CallFix p m c cc nL s args AL RX3) (hI : Iv G σ s H locs) {i : Nat} (hi : i < 21) {g sh : Nat} {mk lf ag ht : Int32} (hp : gP σ i = (g, sh, mk, lf, ag, ht)) (hs : ¬ sh < 6) (hdg : decode cc pc = .ok (.getfield 77, 3)) (kk : W p l e R s m args below meth c H locs cells slots Q (F0 m (pc + 3) ls (.null :: rest))) : W p l e R s m args below meth c H locs cells slots Q (F0 m pc ls (.ref (gB G (15 + i)) :: rest)) :=
  rgPN S hI hi hp 1 (by decide) (hI.nw (List.mem_filter.mpr ⟨List.mem_of_getElem? (i := 106) rfl, rfl⟩) rfl) rfl (v := .null) (by show some (va_rf (shO G sh)) = _; rw [shO, if_neg hs]; rfl) hdg kk
set_option maxRecDepth 20000 in
theorem g_X3_P_stage (S : CallFix p m c cc nL s args AL RX3) (hI : Iv G σ s H locs) {i : Nat} (hi : i < 21) {g sh : Nat} {mk lf ag ht : Int32} (hp : gP σ i = (g, sh, mk, lf, ag, ht)) (hdg : decode cc pc = .ok (.getfield 84, 3)) (kk : W p l e R s m args below meth c H locs cells slots Q (F0 m (pc + 3) ls (.ref (gE G g) :: rest))) : W p l e R s m args below meth c H locs cells slots Q (F0 m pc ls (.ref (gB G (15 + i)) :: rest)) :=
  rgPN S hI hi hp 0 (by decide) (hI.nw (List.mem_filter.mpr ⟨List.mem_of_getElem? (i := 104) rfl, rfl⟩) rfl) rfl rfl hdg kk
set_option maxRecDepth 20000 in
theorem g_X3_S_number (S : CallFix p m c cc nL s args AL RX3) (hI : Iv G σ s H locs) {i : Nat} (hi : i < 6) {st ht : Int32} (hp : gS σ i = (st, ht)) (hdg : decode cc pc = .ok (.getfield 95, 3)) (kk : W p l e R s m args below meth c H locs cells slots Q (F0 m (pc + 3) ls (.int (if i < 5 then nI i else -1) :: rest))) : W p l e R s m args below meth c H locs cells slots Q (F0 m pc ls (.ref (gB G (9 + i)) :: rest)) :=
  rgSN S hI hi hp 0 (by decide) (hI.nw (List.mem_filter.mpr ⟨List.mem_of_getElem? (i := 83) rfl, rfl⟩) rfl) rfl rfl hdg kk
set_option maxRecDepth 20000 in
theorem g_X3_P_life (S : CallFix p m c cc nL s args AL RX3) (hI : Iv G σ s H locs) {i : Nat} (hi : i < 21) {g sh : Nat} {mk lf ag ht : Int32} (hp : gP σ i = (g, sh, mk, lf, ag, ht)) (hdg : decode cc pc = .ok (.getfield 105, 3)) (kk : W p l e R s m args below meth c H locs cells slots Q (F0 m (pc + 3) ls (.int lf :: rest))) : W p l e R s m args below meth c H locs cells slots Q (F0 m pc ls (.ref (gB G (15 + i)) :: rest)) :=
  rgPN S hI hi hp 3 (by decide) (hI.nw (List.mem_filter.mpr ⟨List.mem_of_getElem? (i := 110) rfl, rfl⟩) rfl) rfl rfl hdg kk
set_option maxRecDepth 20000 in
theorem g_X3_P_age (S : CallFix p m c cc nL s args AL RX3) (hI : Iv G σ s H locs) {i : Nat} (hi : i < 21) {g sh : Nat} {mk lf ag ht : Int32} (hp : gP σ i = (g, sh, mk, lf, ag, ht)) (hdg : decode cc pc = .ok (.getfield 108, 3)) (kk : W p l e R s m args below meth c H locs cells slots Q (F0 m (pc + 3) ls (.int ag :: rest))) : W p l e R s m args below meth c H locs cells slots Q (F0 m pc ls (.ref (gB G (15 + i)) :: rest)) :=
  rgPN S hI hi hp 4 (by decide) (hI.nw (List.mem_filter.mpr ⟨List.mem_of_getElem? (i := 112) rfl, rfl⟩) rfl) rfl rfl hdg kk
set_option maxRecDepth 20000 in
theorem g_X3_S_setting (S : CallFix p m c cc nL s args AL RX3) (hI : Iv G σ s H locs) {i : Nat} (hi : i < 6) {st ht : Int32} (hp : gS σ i = (st, ht)) (hdg : decode cc pc = .ok (.getfield 113, 3)) (kk : W p l e R s m args below meth c H locs cells slots Q (F0 m (pc + 3) ls (.int st :: rest))) : W p l e R s m args below meth c H locs cells slots Q (F0 m pc ls (.ref (gB G (9 + i)) :: rest)) :=
  rgSN S hI hi hp 1 (by decide) (hI.nw (List.mem_filter.mpr ⟨List.mem_of_getElem? (i := 85) rfl, rfl⟩) rfl) rfl rfl hdg kk
set_option maxRecDepth 20000 in
theorem g_X3_S_heat (S : CallFix p m c cc nL s args AL RX3) (hI : Iv G σ s H locs) {i : Nat} (hi : i < 6) {st ht : Int32} (hp : gS σ i = (st, ht)) (hdg : decode cc pc = .ok (.getfield 122, 3)) (kk : W p l e R s m args below meth c H locs cells slots Q (F0 m (pc + 3) ls (.int ht :: rest))) : W p l e R s m args below meth c H locs cells slots Q (F0 m pc ls (.ref (gB G (9 + i)) :: rest)) :=
  rgSN S hI hi hp 2 (by decide) (hI.nw (List.mem_filter.mpr ⟨List.mem_of_getElem? (i := 88) rfl, rfl⟩) rfl) rfl rfl hdg kk
set_option maxRecDepth 20000 in
theorem g_X3_P_maker (S : CallFix p m c cc nL s args AL RX3) (hI : Iv G σ s H locs) {i : Nat} (hi : i < 21) {g sh : Nat} {mk lf ag ht : Int32} (hp : gP σ i = (g, sh, mk, lf, ag, ht)) (hdg : decode cc pc = .ok (.getfield 125, 3)) (kk : W p l e R s m args below meth c H locs cells slots Q (F0 m (pc + 3) ls (.int mk :: rest))) : W p l e R s m args below meth c H locs cells slots Q (F0 m pc ls (.ref (gB G (15 + i)) :: rest)) :=
  rgPN S hI hi hp 2 (by decide) (hI.nw (List.mem_filter.mpr ⟨List.mem_of_getElem? (i := 108) rfl, rfl⟩) rfl) rfl rfl hdg kk
set_option maxRecDepth 20000 in
theorem g_X3_P_heat (S : CallFix p m c cc nL s args AL RX3) (hI : Iv G σ s H locs) {i : Nat} (hi : i < 21) {g sh : Nat} {mk lf ag ht : Int32} (hp : gP σ i = (g, sh, mk, lf, ag, ht)) (hdg : decode cc pc = .ok (.getfield 128, 3)) (kk : W p l e R s m args below meth c H locs cells slots Q (F0 m (pc + 3) ls (.int ht :: rest))) : W p l e R s m args below meth c H locs cells slots Q (F0 m pc ls (.ref (gB G (15 + i)) :: rest)) :=
  rgPN S hI hi hp 5 (by decide) (hI.nw (List.mem_filter.mpr ⟨List.mem_of_getElem? (i := 114) rfl, rfl⟩) rfl) rfl rfl hdg kk
set_option maxRecDepth 20000 in
theorem gs_X3_THAWED (S : CallFix p m c cc nL s args AL RX3) (hI : Iv G σ s H locs) (hdg : decode cc pc = .ok (.getstatic 88, 3)) (kk : W p l e R s m args below meth c H locs cells slots Q (F0 m (pc + 3) ls (.ref (gE G 3) :: rest))) : W p l e R s m args below meth c H locs cells slots Q (F0 m pc ls rest) :=
  va_gets (A := gA G) S.1 S.2.1 (hI.1.2.2.2.1 3 (by decide)) hI.2.2 S.2.2.2.1 (S.2.2.2.2 _ (al (List.mem_of_getElem? (i := 420) rfl) rfl)) (fun _ h => h) hdg kk
set_option maxRecDepth 20000 in
theorem gs_X3_KEPT (S : CallFix p m c cc nL s args AL RX3) (hI : Iv G σ s H locs) (hdg : decode cc pc = .ok (.getstatic 98, 3)) (kk : W p l e R s m args below meth c H locs cells slots Q (F0 m (pc + 3) ls (.ref (gE G 4) :: rest))) : W p l e R s m args below meth c H locs cells slots Q (F0 m pc ls rest) :=
  va_gets (A := gA G) S.1 S.2.1 (hI.1.2.2.2.1 4 (by decide)) hI.2.2 S.2.2.2.1 (S.2.2.2.2 _ (al (List.mem_of_getElem? (i := 256) rfl) rfl)) (fun _ h => h) hdg kk
set_option maxRecDepth 20000 in
theorem gs_X3_FROZEN (S : CallFix p m c cc nL s args AL RX3) (hI : Iv G σ s H locs) (hdg : decode cc pc = .ok (.getstatic 129, 3)) (kk : W p l e R s m args below meth c H locs cells slots Q (F0 m (pc + 3) ls (.ref (gE G 2) :: rest))) : W p l e R s m args below meth c H locs cells slots Q (F0 m pc ls rest) :=
  va_gets (A := gA G) S.1 S.2.1 (hI.1.2.2.2.1 2 (by decide)) hI.2.2 S.2.2.2.1 (S.2.2.2.2 _ (al (List.mem_of_getElem? (i := 289) rfl) rfl)) (fun _ h => h) hdg kk
set_option maxRecDepth 20000 in
theorem gs_X3_EXPIRED (S : CallFix p m c cc nL s args AL RX3) (hI : Iv G σ s H locs) (hdg : decode cc pc = .ok (.getstatic 132, 3)) (kk : W p l e R s m args below meth c H locs cells slots Q (F0 m (pc + 3) ls (.ref (gE G 5) :: rest))) : W p l e R s m args below meth c H locs cells slots Q (F0 m pc ls rest) :=
  va_gets (A := gA G) S.1 S.2.1 (hI.1.2.2.2.1 5 (by decide)) hI.2.2 S.2.2.2.1 (S.2.2.2.2 _ (al (List.mem_of_getElem? (i := 262) rfl) rfl)) (fun _ h => h) hdg kk
set_option maxRecDepth 20000 in
theorem p_X3_X_made (S : CallFix p m c cc nL s args AL RX3) (hI : Iv G σ s H locs) {nm ar hr pw : Int32} (hx : gX σ = (nm, ar, hr, pw)) {v : Int32} (hdg : decode cc pc = .ok (.putfield 21, 3)) (kk : ∀ (σ' : St) (H1 : Heap) (locs1 : List Loc), σ' = setX σ (v, ar, hr, pw) → gX σ' = (v, ar, hr, pw) → Iv G σ' s H1 locs1 → W p l e R s m args below meth c H1 locs1 cells slots Q (F0 m (pc + 3) ls rest)) : W p l e R s m args below meth c H locs cells slots Q (F0 m pc ls ((.int v) :: .ref (gB G 0) :: rest)) :=
  rpX S hI (v, ar, hr, pw) 2 (by decide) (S.2.2.2.2 _ (al (List.mem_of_getElem? (i := 130) rfl) rfl)) rfl rfl rfl rfl rfl (by rw [hx]; rfl) hdg (fun σ' H1 locs1 e9 h9 => kk σ' H1 locs1 e9 (by rw [e9]; rfl) h9)
set_option maxRecDepth 20000 in
theorem p_X3_X_alarmsRung (S : CallFix p m c cc nL s args AL RX3) (hI : Iv G σ s H locs) {nm ar hr pw : Int32} (hx : gX σ = (nm, ar, hr, pw)) {v : Int32} (hdg : decode cc pc = .ok (.putfield 25, 3)) (kk : ∀ (σ' : St) (H1 : Heap) (locs1 : List Loc), σ' = setX σ (nm, v, hr, pw) → gX σ' = (nm, v, hr, pw) → Iv G σ' s H1 locs1 → W p l e R s m args below meth c H1 locs1 cells slots Q (F0 m (pc + 3) ls rest)) : W p l e R s m args below meth c H locs cells slots Q (F0 m pc ls ((.int v) :: .ref (gB G 0) :: rest)) :=
  rpX S hI (nm, v, hr, pw) 3 (by decide) (S.2.2.2.2 _ (al (List.mem_of_getElem? (i := 131) rfl) rfl)) rfl rfl rfl rfl rfl (by rw [hx]; rfl) hdg (fun σ' H1 locs1 e9 h9 => kk σ' H1 locs1 e9 (by rw [e9]; rfl) h9)
set_option maxRecDepth 20000 in
theorem p_X3_X_hoursGone (S : CallFix p m c cc nL s args AL RX3) (hI : Iv G σ s H locs) {nm ar hr pw : Int32} (hx : gX σ = (nm, ar, hr, pw)) {v : Int32} (hdg : decode cc pc = .ok (.putfield 28, 3)) (kk : ∀ (σ' : St) (H1 : Heap) (locs1 : List Loc), σ' = setX σ (nm, ar, v, pw) → gX σ' = (nm, ar, v, pw) → Iv G σ' s H1 locs1 → W p l e R s m args below meth c H1 locs1 cells slots Q (F0 m (pc + 3) ls rest)) : W p l e R s m args below meth c H locs cells slots Q (F0 m pc ls ((.int v) :: .ref (gB G 0) :: rest)) :=
  rpX S hI (nm, ar, v, pw) 4 (by decide) (S.2.2.2.2 _ (al (List.mem_of_getElem? (i := 132) rfl) rfl)) rfl rfl rfl rfl rfl (by rw [hx]; rfl) hdg (fun σ' H1 locs1 e9 h9 => kk σ' H1 locs1 e9 (by rw [e9]; rfl) h9)
set_option maxRecDepth 20000 in
theorem p_X3_X_power (S : CallFix p m c cc nL s args AL RX3) (hI : Iv G σ s H locs) {nm ar hr pw : Int32} (hx : gX σ = (nm, ar, hr, pw)) {v : Int32} (hb : v = 0 ∨ v = 1) (hdg : decode cc pc = .ok (.putfield 31, 3)) (kk : ∀ (σ' : St) (H1 : Heap) (locs1 : List Loc), σ' = setX σ (nm, ar, hr, v) → gX σ' = (nm, ar, hr, v) → Iv G σ' s H1 locs1 → W p l e R s m args below meth c H1 locs1 cells slots Q (F0 m (pc + 3) ls rest)) : W p l e R s m args below meth c H locs cells slots Q (F0 m pc ls ((.int v) :: .ref (gB G 0) :: rest)) :=
  rpX S hI (nm, ar, hr, v) 5 (by decide) (S.2.2.2.2 _ (al (List.mem_of_getElem? (i := 133) rfl) rfl)) rfl rfl rfl (by rcases hb with rfl | rfl <;> rfl) (by rcases hb with rfl | rfl <;> rfl) (by rw [hx]; rfl) hdg (fun σ' H1 locs1 e9 h9 => kk σ' H1 locs1 e9 (by rw [e9]; rfl) h9)
set_option maxRecDepth 20000 in
theorem p_X3_P_shelf_s (S : CallFix p m c cc nL s args AL RX3) (hI : Iv G σ s H locs) {i : Nat} (hi : i < 21) {g sh : Nat} {mk lf ag ht : Int32} (hp : gP σ i = (g, sh, mk, lf, ag, ht)) {sh' : Nat} (hs : sh' < 6) (hdg : decode cc pc = .ok (.putfield 77, 3)) (kk : ∀ (σ' : St) (H1 : Heap) (locs1 : List Loc), σ' = setP σ i (g, sh', mk, lf, ag, ht) → gP σ' i = (g, sh', mk, lf, ag, ht) → Iv G σ' s H1 locs1 → W p l e R s m args below meth c H1 locs1 cells slots Q (F0 m (pc + 3) ls rest)) : W p l e R s m args below meth c H locs cells slots Q (F0 m pc ls ((.ref (gB G (9 + sh'))) :: .ref (gB G (15 + i)) :: rest)) :=
  rpPN S hI hi hp (g, sh', mk, lf, ag, ht) 1 (by decide) (hI.nw (List.mem_filter.mpr ⟨List.mem_of_getElem? (i := 106) rfl, rfl⟩) rfl) rfl rfl rfl rfl rfl (congrArg (fun z => [Value.ref (gE G g), z, .int mk, .int lf, .int ag, .int ht]) (shO_s hs).symm) hdg kk
set_option maxRecDepth 20000 in
theorem p_X3_P_shelf_n (S : CallFix p m c cc nL s args AL RX3) (hI : Iv G σ s H locs) {i : Nat} (hi : i < 21) {g sh : Nat} {mk lf ag ht : Int32} (hp : gP σ i = (g, sh, mk, lf, ag, ht)) (hdg : decode cc pc = .ok (.putfield 77, 3)) (kk : ∀ (σ' : St) (H1 : Heap) (locs1 : List Loc), σ' = setP σ i (g, 6, mk, lf, ag, ht) → gP σ' i = (g, 6, mk, lf, ag, ht) → Iv G σ' s H1 locs1 → W p l e R s m args below meth c H1 locs1 cells slots Q (F0 m (pc + 3) ls rest)) : W p l e R s m args below meth c H locs cells slots Q (F0 m pc ls (.null :: .ref (gB G (15 + i)) :: rest)) :=
  rpPN S hI hi hp (g, 6, mk, lf, ag, ht) 1 (by decide) (hI.nw (List.mem_filter.mpr ⟨List.mem_of_getElem? (i := 106) rfl, rfl⟩) rfl) rfl rfl rfl rfl rfl rfl hdg kk
set_option maxRecDepth 20000 in
theorem p_X3_S_setting (S : CallFix p m c cc nL s args AL RX3) (hI : Iv G σ s H locs) {i : Nat} (hi : i < 6) {st ht : Int32} (hp : gS σ i = (st, ht)) {v : Int32} (hdg : decode cc pc = .ok (.putfield 113, 3)) (kk : ∀ (σ' : St) (H1 : Heap) (locs1 : List Loc), σ' = setS σ i (v, ht) → gS σ' i = (v, ht) → Iv G σ' s H1 locs1 → W p l e R s m args below meth c H1 locs1 cells slots Q (F0 m (pc + 3) ls rest)) : W p l e R s m args below meth c H locs cells slots Q (F0 m pc ls ((.int v) :: .ref (gB G (9 + i)) :: rest)) :=
  rpSN S hI hi hp (v, ht) 1 (by decide) (hI.nw (List.mem_filter.mpr ⟨List.mem_of_getElem? (i := 85) rfl, rfl⟩) rfl) rfl rfl rfl rfl rfl rfl hdg kk
set_option maxRecDepth 20000 in
theorem g_X0_P_stage (S : CallFix p m c cc nL s args AL RX0) (hI : Iv G σ s H locs) {i : Nat} (hi : i < 21) {g sh : Nat} {mk lf ag ht : Int32} (hp : gP σ i = (g, sh, mk, lf, ag, ht)) (hdg : decode cc pc = .ok (.getfield 15, 3)) (kk : W p l e R s m args below meth c H locs cells slots Q (F0 m (pc + 3) ls (.ref (gE G g) :: rest))) : W p l e R s m args below meth c H locs cells slots Q (F0 m pc ls (.ref (gB G (15 + i)) :: rest)) :=
  rgP S hI hi hp 0 (by decide) (S.2.2.2.2 _ (al (List.mem_of_getElem? (i := 103) rfl) rfl)) rfl rfl hdg kk
set_option maxRecDepth 20000 in
theorem g_X0_P_shelf_r (S : CallFix p m c cc nL s args AL RX0) (hI : Iv G σ s H locs) {i : Nat} (hi : i < 21) {g sh : Nat} {mk lf ag ht : Int32} (hp : gP σ i = (g, sh, mk, lf, ag, ht)) (hdg : decode cc pc = .ok (.getfield 20, 3)) (kk : W p l e R s m args below meth c H locs cells slots Q (F0 m (pc + 3) ls (va_rf (shO G sh) :: rest))) : W p l e R s m args below meth c H locs cells slots Q (F0 m pc ls (.ref (gB G (15 + i)) :: rest)) :=
  rgP S hI hi hp 1 (by decide) (S.2.2.2.2 _ (al (List.mem_of_getElem? (i := 105) rfl) rfl)) rfl rfl hdg kk
set_option maxRecDepth 20000 in
theorem g_X0_P_shelf_s (S : CallFix p m c cc nL s args AL RX0) (hI : Iv G σ s H locs) {i : Nat} (hi : i < 21) {g sh : Nat} {mk lf ag ht : Int32} (hp : gP σ i = (g, sh, mk, lf, ag, ht)) (hs : sh < 6) (hdg : decode cc pc = .ok (.getfield 20, 3)) (kk : W p l e R s m args below meth c H locs cells slots Q (F0 m (pc + 3) ls (.ref (gB G (9 + sh)) :: rest))) : W p l e R s m args below meth c H locs cells slots Q (F0 m pc ls (.ref (gB G (15 + i)) :: rest)) :=
  rgP S hI hi hp 1 (by decide) (S.2.2.2.2 _ (al (List.mem_of_getElem? (i := 105) rfl) rfl)) rfl (v := .ref (gB G (9 + sh))) (by show some (va_rf (shO G sh)) = _; rw [shO, if_pos hs]; rfl) hdg kk
set_option maxRecDepth 20000 in
theorem g_X0_P_shelf_n (S : CallFix p m c cc nL s args AL RX0) (hI : Iv G σ s H locs) {i : Nat} (hi : i < 21) {g sh : Nat} {mk lf ag ht : Int32} (hp : gP σ i = (g, sh, mk, lf, ag, ht)) (hs : ¬ sh < 6) (hdg : decode cc pc = .ok (.getfield 20, 3)) (kk : W p l e R s m args below meth c H locs cells slots Q (F0 m (pc + 3) ls (.null :: rest))) : W p l e R s m args below meth c H locs cells slots Q (F0 m pc ls (.ref (gB G (15 + i)) :: rest)) :=
  rgP S hI hi hp 1 (by decide) (S.2.2.2.2 _ (al (List.mem_of_getElem? (i := 105) rfl) rfl)) rfl (v := .null) (by show some (va_rf (shO G sh)) = _; rw [shO, if_neg hs]; rfl) hdg kk
set_option maxRecDepth 20000 in
theorem g_X0_P_maker (S : CallFix p m c cc nL s args AL RX0) (hI : Iv G σ s H locs) {i : Nat} (hi : i < 21) {g sh : Nat} {mk lf ag ht : Int32} (hp : gP σ i = (g, sh, mk, lf, ag, ht)) (hdg : decode cc pc = .ok (.getfield 24, 3)) (kk : W p l e R s m args below meth c H locs cells slots Q (F0 m (pc + 3) ls (.int mk :: rest))) : W p l e R s m args below meth c H locs cells slots Q (F0 m pc ls (.ref (gB G (15 + i)) :: rest)) :=
  rgP S hI hi hp 2 (by decide) (S.2.2.2.2 _ (al (List.mem_of_getElem? (i := 107) rfl) rfl)) rfl rfl hdg kk
set_option maxRecDepth 20000 in
theorem g_X0_P_life (S : CallFix p m c cc nL s args AL RX0) (hI : Iv G σ s H locs) {i : Nat} (hi : i < 21) {g sh : Nat} {mk lf ag ht : Int32} (hp : gP σ i = (g, sh, mk, lf, ag, ht)) (hdg : decode cc pc = .ok (.getfield 28, 3)) (kk : W p l e R s m args below meth c H locs cells slots Q (F0 m (pc + 3) ls (.int lf :: rest))) : W p l e R s m args below meth c H locs cells slots Q (F0 m pc ls (.ref (gB G (15 + i)) :: rest)) :=
  rgP S hI hi hp 3 (by decide) (S.2.2.2.2 _ (al (List.mem_of_getElem? (i := 109) rfl) rfl)) rfl rfl hdg kk
set_option maxRecDepth 20000 in
theorem g_X0_P_age (S : CallFix p m c cc nL s args AL RX0) (hI : Iv G σ s H locs) {i : Nat} (hi : i < 21) {g sh : Nat} {mk lf ag ht : Int32} (hp : gP σ i = (g, sh, mk, lf, ag, ht)) (hdg : decode cc pc = .ok (.getfield 31, 3)) (kk : W p l e R s m args below meth c H locs cells slots Q (F0 m (pc + 3) ls (.int ag :: rest))) : W p l e R s m args below meth c H locs cells slots Q (F0 m pc ls (.ref (gB G (15 + i)) :: rest)) :=
  rgP S hI hi hp 4 (by decide) (S.2.2.2.2 _ (al (List.mem_of_getElem? (i := 111) rfl) rfl)) rfl rfl hdg kk
set_option maxRecDepth 20000 in
theorem g_X0_P_heat (S : CallFix p m c cc nL s args AL RX0) (hI : Iv G σ s H locs) {i : Nat} (hi : i < 21) {g sh : Nat} {mk lf ag ht : Int32} (hp : gP σ i = (g, sh, mk, lf, ag, ht)) (hdg : decode cc pc = .ok (.getfield 34, 3)) (kk : W p l e R s m args below meth c H locs cells slots Q (F0 m (pc + 3) ls (.int ht :: rest))) : W p l e R s m args below meth c H locs cells slots Q (F0 m pc ls (.ref (gB G (15 + i)) :: rest)) :=
  rgP S hI hi hp 5 (by decide) (S.2.2.2.2 _ (al (List.mem_of_getElem? (i := 113) rfl) rfl)) rfl rfl hdg kk
set_option maxRecDepth 20000 in
theorem g_X0_S_heat (S : CallFix p m c cc nL s args AL RX0) (hI : Iv G σ s H locs) {i : Nat} (hi : i < 6) {st ht : Int32} (hp : gS σ i = (st, ht)) (hdg : decode cc pc = .ok (.getfield 40, 3)) (kk : W p l e R s m args below meth c H locs cells slots Q (F0 m (pc + 3) ls (.int ht :: rest))) : W p l e R s m args below meth c H locs cells slots Q (F0 m pc ls (.ref (gB G (9 + i)) :: rest)) :=
  rgSN S hI hi hp 2 (by decide) (hI.nw (List.mem_filter.mpr ⟨List.mem_of_getElem? (i := 87) rfl, rfl⟩) rfl) rfl rfl hdg kk
set_option maxRecDepth 20000 in
theorem gs_X0_UNMADE (S : CallFix p m c cc nL s args AL RX0) (hI : Iv G σ s H locs) (hdg : decode cc pc = .ok (.getstatic 9, 3)) (kk : W p l e R s m args below meth c H locs cells slots Q (F0 m (pc + 3) ls (.ref (gE G 0) :: rest))) : W p l e R s m args below meth c H locs cells slots Q (F0 m pc ls rest) :=
  va_gets (A := gA G) S.1 S.2.1 (hI.1.2.2.2.1 0 (by decide)) hI.2.2 S.2.2.2.1 (S.2.2.2.2 _ (al (List.mem_of_getElem? (i := 101) rfl) rfl)) (fun _ h => h) hdg kk
set_option maxRecDepth 20000 in
theorem gs_X0_FRESH (S : CallFix p m c cc nL s args AL RX0) (hI : Iv G σ s H locs) (hdg : decode cc pc = .ok (.getstatic 37, 3)) (kk : W p l e R s m args below meth c H locs cells slots Q (F0 m (pc + 3) ls (.ref (gE G 1) :: rest))) : W p l e R s m args below meth c H locs cells slots Q (F0 m pc ls rest) :=
  va_gets (A := gA G) S.1 S.2.1 (hI.1.2.2.2.1 1 (by decide)) hI.2.2 S.2.2.2.1 (S.2.2.2.2 _ (al (List.mem_of_getElem? (i := 287) rfl) rfl)) (fun _ h => h) hdg kk
set_option maxRecDepth 20000 in
theorem gs_X0_FROZEN (S : CallFix p m c cc nL s args AL RX0) (hI : Iv G σ s H locs) (hdg : decode cc pc = .ok (.getstatic 47, 3)) (kk : W p l e R s m args below meth c H locs cells slots Q (F0 m (pc + 3) ls (.ref (gE G 2) :: rest))) : W p l e R s m args below meth c H locs cells slots Q (F0 m pc ls rest) :=
  va_gets (A := gA G) S.1 S.2.1 (hI.1.2.2.2.1 2 (by decide)) hI.2.2 S.2.2.2.1 (S.2.2.2.2 _ (al (List.mem_of_getElem? (i := 314) rfl) rfl)) (fun _ h => h) hdg kk
set_option maxRecDepth 20000 in
theorem gs_X0_THAWED (S : CallFix p m c cc nL s args AL RX0) (hI : Iv G σ s H locs) (hdg : decode cc pc = .ok (.getstatic 50, 3)) (kk : W p l e R s m args below meth c H locs cells slots Q (F0 m (pc + 3) ls (.ref (gE G 3) :: rest))) : W p l e R s m args below meth c H locs cells slots Q (F0 m pc ls rest) :=
  va_gets (A := gA G) S.1 S.2.1 (hI.1.2.2.2.1 3 (by decide)) hI.2.2 S.2.2.2.1 (S.2.2.2.2 _ (al (List.mem_of_getElem? (i := 315) rfl) rfl)) (fun _ h => h) hdg kk
set_option maxRecDepth 20000 in
theorem gs_X0_EXPIRED (S : CallFix p m c cc nL s args AL RX0) (hI : Iv G σ s H locs) (hdg : decode cc pc = .ok (.getstatic 53, 3)) (kk : W p l e R s m args below meth c H locs cells slots Q (F0 m (pc + 3) ls (.ref (gE G 5) :: rest))) : W p l e R s m args below meth c H locs cells slots Q (F0 m pc ls rest) :=
  va_gets (A := gA G) S.1 S.2.1 (hI.1.2.2.2.1 5 (by decide)) hI.2.2 S.2.2.2.1 (S.2.2.2.2 _ (al (List.mem_of_getElem? (i := 317) rfl) rfl)) (fun _ h => h) hdg kk
set_option maxRecDepth 20000 in
theorem p_X0_P_stage (S : CallFix p m c cc nL s args AL RX0) (hI : Iv G σ s H locs) {i : Nat} (hi : i < 21) {g sh : Nat} {mk lf ag ht : Int32} (hp : gP σ i = (g, sh, mk, lf, ag, ht)) {g' : Nat} (hdg : decode cc pc = .ok (.putfield 15, 3)) (kk : ∀ (σ' : St) (H1 : Heap) (locs1 : List Loc), σ' = setP σ i (g', sh, mk, lf, ag, ht) → gP σ' i = (g', sh, mk, lf, ag, ht) → Iv G σ' s H1 locs1 → W p l e R s m args below meth c H1 locs1 cells slots Q (F0 m (pc + 3) ls rest)) : W p l e R s m args below meth c H locs cells slots Q (F0 m pc ls ((.ref (gE G g')) :: .ref (gB G (15 + i)) :: rest)) :=
  rpP S hI hi hp (g', sh, mk, lf, ag, ht) 0 (by decide) (S.2.2.2.2 _ (al (List.mem_of_getElem? (i := 103) rfl) rfl)) rfl rfl rfl rfl rfl rfl hdg kk
set_option maxRecDepth 20000 in
theorem p_X0_P_shelf_s (S : CallFix p m c cc nL s args AL RX0) (hI : Iv G σ s H locs) {i : Nat} (hi : i < 21) {g sh : Nat} {mk lf ag ht : Int32} (hp : gP σ i = (g, sh, mk, lf, ag, ht)) {sh' : Nat} (hs : sh' < 6) (hdg : decode cc pc = .ok (.putfield 20, 3)) (kk : ∀ (σ' : St) (H1 : Heap) (locs1 : List Loc), σ' = setP σ i (g, sh', mk, lf, ag, ht) → gP σ' i = (g, sh', mk, lf, ag, ht) → Iv G σ' s H1 locs1 → W p l e R s m args below meth c H1 locs1 cells slots Q (F0 m (pc + 3) ls rest)) : W p l e R s m args below meth c H locs cells slots Q (F0 m pc ls ((.ref (gB G (9 + sh'))) :: .ref (gB G (15 + i)) :: rest)) :=
  rpP S hI hi hp (g, sh', mk, lf, ag, ht) 1 (by decide) (S.2.2.2.2 _ (al (List.mem_of_getElem? (i := 105) rfl) rfl)) rfl rfl rfl rfl rfl (congrArg (fun z => [Value.ref (gE G g), z, .int mk, .int lf, .int ag, .int ht]) (shO_s hs).symm) hdg kk
set_option maxRecDepth 20000 in
theorem p_X0_P_shelf_n (S : CallFix p m c cc nL s args AL RX0) (hI : Iv G σ s H locs) {i : Nat} (hi : i < 21) {g sh : Nat} {mk lf ag ht : Int32} (hp : gP σ i = (g, sh, mk, lf, ag, ht)) (hdg : decode cc pc = .ok (.putfield 20, 3)) (kk : ∀ (σ' : St) (H1 : Heap) (locs1 : List Loc), σ' = setP σ i (g, 6, mk, lf, ag, ht) → gP σ' i = (g, 6, mk, lf, ag, ht) → Iv G σ' s H1 locs1 → W p l e R s m args below meth c H1 locs1 cells slots Q (F0 m (pc + 3) ls rest)) : W p l e R s m args below meth c H locs cells slots Q (F0 m pc ls (.null :: .ref (gB G (15 + i)) :: rest)) :=
  rpP S hI hi hp (g, 6, mk, lf, ag, ht) 1 (by decide) (S.2.2.2.2 _ (al (List.mem_of_getElem? (i := 105) rfl) rfl)) rfl rfl rfl rfl rfl rfl hdg kk
set_option maxRecDepth 20000 in
theorem p_X0_P_maker (S : CallFix p m c cc nL s args AL RX0) (hI : Iv G σ s H locs) {i : Nat} (hi : i < 21) {g sh : Nat} {mk lf ag ht : Int32} (hp : gP σ i = (g, sh, mk, lf, ag, ht)) {v : Int32} (hdg : decode cc pc = .ok (.putfield 24, 3)) (kk : ∀ (σ' : St) (H1 : Heap) (locs1 : List Loc), σ' = setP σ i (g, sh, v, lf, ag, ht) → gP σ' i = (g, sh, v, lf, ag, ht) → Iv G σ' s H1 locs1 → W p l e R s m args below meth c H1 locs1 cells slots Q (F0 m (pc + 3) ls rest)) : W p l e R s m args below meth c H locs cells slots Q (F0 m pc ls ((.int v) :: .ref (gB G (15 + i)) :: rest)) :=
  rpP S hI hi hp (g, sh, v, lf, ag, ht) 2 (by decide) (S.2.2.2.2 _ (al (List.mem_of_getElem? (i := 107) rfl) rfl)) rfl rfl rfl rfl rfl rfl hdg kk
set_option maxRecDepth 20000 in
theorem p_X0_P_life (S : CallFix p m c cc nL s args AL RX0) (hI : Iv G σ s H locs) {i : Nat} (hi : i < 21) {g sh : Nat} {mk lf ag ht : Int32} (hp : gP σ i = (g, sh, mk, lf, ag, ht)) {v : Int32} (hdg : decode cc pc = .ok (.putfield 28, 3)) (kk : ∀ (σ' : St) (H1 : Heap) (locs1 : List Loc), σ' = setP σ i (g, sh, mk, v, ag, ht) → gP σ' i = (g, sh, mk, v, ag, ht) → Iv G σ' s H1 locs1 → W p l e R s m args below meth c H1 locs1 cells slots Q (F0 m (pc + 3) ls rest)) : W p l e R s m args below meth c H locs cells slots Q (F0 m pc ls ((.int v) :: .ref (gB G (15 + i)) :: rest)) :=
  rpP S hI hi hp (g, sh, mk, v, ag, ht) 3 (by decide) (S.2.2.2.2 _ (al (List.mem_of_getElem? (i := 109) rfl) rfl)) rfl rfl rfl rfl rfl rfl hdg kk
set_option maxRecDepth 20000 in
theorem p_X0_P_age (S : CallFix p m c cc nL s args AL RX0) (hI : Iv G σ s H locs) {i : Nat} (hi : i < 21) {g sh : Nat} {mk lf ag ht : Int32} (hp : gP σ i = (g, sh, mk, lf, ag, ht)) {v : Int32} (hdg : decode cc pc = .ok (.putfield 31, 3)) (kk : ∀ (σ' : St) (H1 : Heap) (locs1 : List Loc), σ' = setP σ i (g, sh, mk, lf, v, ht) → gP σ' i = (g, sh, mk, lf, v, ht) → Iv G σ' s H1 locs1 → W p l e R s m args below meth c H1 locs1 cells slots Q (F0 m (pc + 3) ls rest)) : W p l e R s m args below meth c H locs cells slots Q (F0 m pc ls ((.int v) :: .ref (gB G (15 + i)) :: rest)) :=
  rpP S hI hi hp (g, sh, mk, lf, v, ht) 4 (by decide) (S.2.2.2.2 _ (al (List.mem_of_getElem? (i := 111) rfl) rfl)) rfl rfl rfl rfl rfl rfl hdg kk
set_option maxRecDepth 20000 in
theorem p_X0_P_heat (S : CallFix p m c cc nL s args AL RX0) (hI : Iv G σ s H locs) {i : Nat} (hi : i < 21) {g sh : Nat} {mk lf ag ht : Int32} (hp : gP σ i = (g, sh, mk, lf, ag, ht)) {v : Int32} (hdg : decode cc pc = .ok (.putfield 34, 3)) (kk : ∀ (σ' : St) (H1 : Heap) (locs1 : List Loc), σ' = setP σ i (g, sh, mk, lf, ag, v) → gP σ' i = (g, sh, mk, lf, ag, v) → Iv G σ' s H1 locs1 → W p l e R s m args below meth c H1 locs1 cells slots Q (F0 m (pc + 3) ls rest)) : W p l e R s m args below meth c H locs cells slots Q (F0 m pc ls ((.int v) :: .ref (gB G (15 + i)) :: rest)) :=
  rpP S hI hi hp (g, sh, mk, lf, ag, v) 5 (by decide) (S.2.2.2.2 _ (al (List.mem_of_getElem? (i := 113) rfl) rfl)) rfl rfl rfl rfl rfl rfl hdg kk
set_option maxRecDepth 20000 in
theorem g_X1_S_setting (S : CallFix p m c cc nL s args AL RX1) (hI : Iv G σ s H locs) {i : Nat} (hi : i < 6) {st ht : Int32} (hp : gS σ i = (st, ht)) (hdg : decode cc pc = .ok (.getfield 9, 3)) (kk : W p l e R s m args below meth c H locs cells slots Q (F0 m (pc + 3) ls (.int st :: rest))) : W p l e R s m args below meth c H locs cells slots Q (F0 m pc ls (.ref (gB G (9 + i)) :: rest)) :=
  rgS S hI hi hp 1 (by decide) (S.2.2.2.2 _ (al (List.mem_of_getElem? (i := 84) rfl) rfl)) rfl rfl hdg kk
set_option maxRecDepth 20000 in
theorem g_X1_S_heat (S : CallFix p m c cc nL s args AL RX1) (hI : Iv G σ s H locs) {i : Nat} (hi : i < 6) {st ht : Int32} (hp : gS σ i = (st, ht)) (hdg : decode cc pc = .ok (.getfield 15, 3)) (kk : W p l e R s m args below meth c H locs cells slots Q (F0 m (pc + 3) ls (.int ht :: rest))) : W p l e R s m args below meth c H locs cells slots Q (F0 m pc ls (.ref (gB G (9 + i)) :: rest)) :=
  rgS S hI hi hp 2 (by decide) (S.2.2.2.2 _ (al (List.mem_of_getElem? (i := 86) rfl) rfl)) rfl rfl hdg kk
set_option maxRecDepth 20000 in
theorem p_X1_S_setting (S : CallFix p m c cc nL s args AL RX1) (hI : Iv G σ s H locs) {i : Nat} (hi : i < 6) {st ht : Int32} (hp : gS σ i = (st, ht)) {v : Int32} (hdg : decode cc pc = .ok (.putfield 9, 3)) (kk : ∀ (σ' : St) (H1 : Heap) (locs1 : List Loc), σ' = setS σ i (v, ht) → gS σ' i = (v, ht) → Iv G σ' s H1 locs1 → W p l e R s m args below meth c H1 locs1 cells slots Q (F0 m (pc + 3) ls rest)) : W p l e R s m args below meth c H locs cells slots Q (F0 m pc ls ((.int v) :: .ref (gB G (9 + i)) :: rest)) :=
  rpS S hI hi hp (v, ht) 1 (by decide) (S.2.2.2.2 _ (al (List.mem_of_getElem? (i := 84) rfl) rfl)) rfl rfl rfl rfl rfl rfl hdg kk
set_option maxRecDepth 20000 in
theorem p_X1_S_heat (S : CallFix p m c cc nL s args AL RX1) (hI : Iv G σ s H locs) {i : Nat} (hi : i < 6) {st ht : Int32} (hp : gS σ i = (st, ht)) {v : Int32} (hdg : decode cc pc = .ok (.putfield 15, 3)) (kk : ∀ (σ' : St) (H1 : Heap) (locs1 : List Loc), σ' = setS σ i (st, v) → gS σ' i = (st, v) → Iv G σ' s H1 locs1 → W p l e R s m args below meth c H1 locs1 cells slots Q (F0 m (pc + 3) ls rest)) : W p l e R s m args below meth c H locs cells slots Q (F0 m pc ls ((.int v) :: .ref (gB G (9 + i)) :: rest)) :=
  rpS S hI hi hp (st, v) 2 (by decide) (S.2.2.2.2 _ (al (List.mem_of_getElem? (i := 86) rfl) rfl)) rfl rfl rfl rfl rfl rfl hdg kk
set_option maxRecDepth 20000 in
theorem g_X4_M_maker (S : CallFix p m c cc nL s args AL RX4) (hI : Iv G σ s H locs)  (hdg : decode cc pc = .ok (.getfield 9, 3)) (kk : W p l e R s m args below meth c H locs cells slots Q (F0 m (pc + 3) ls (.ref (gB G 4) :: rest))) : W p l e R s m args below meth c H locs cells slots Q (F0 m pc ls (.ref (gB G 3) :: rest)) :=
  rgM S hI 2 (by decide) (S.2.2.2.2 _ (al (List.mem_of_getElem? (i := 623) rfl) rfl)) rfl rfl hdg kk
set_option maxRecDepth 20000 in
theorem g_X4_M_life (S : CallFix p m c cc nL s args AL RX4) (hI : Iv G σ s H locs)  (hdg : decode cc pc = .ok (.getfield 13, 3)) (kk : W p l e R s m args below meth c H locs cells slots Q (F0 m (pc + 3) ls (.ref (gB G 5) :: rest))) : W p l e R s m args below meth c H locs cells slots Q (F0 m pc ls (.ref (gB G 3) :: rest)) :=
  rgM S hI 3 (by decide) (S.2.2.2.2 _ (al (List.mem_of_getElem? (i := 624) rfl) rfl)) rfl rfl hdg kk
set_option maxRecDepth 20000 in
theorem g_X4_M_now (S : CallFix p m c cc nL s args AL RX4) (hI : Iv G σ s H locs)  (hdg : decode cc pc = .ok (.getfield 16, 3)) (kk : W p l e R s m args below meth c H locs cells slots Q (F0 m (pc + 3) ls (.ref (gB G 6) :: rest))) : W p l e R s m args below meth c H locs cells slots Q (F0 m pc ls (.ref (gB G 3) :: rest)) :=
  rgM S hI 4 (by decide) (S.2.2.2.2 _ (al (List.mem_of_getElem? (i := 625) rfl) rfl)) rfl rfl hdg kk
set_option maxRecDepth 20000 in
theorem g_X4_M_kept (S : CallFix p m c cc nL s args AL RX4) (hI : Iv G σ s H locs)  (hdg : decode cc pc = .ok (.getfield 19, 3)) (kk : W p l e R s m args below meth c H locs cells slots Q (F0 m (pc + 3) ls (.ref (gB G 7) :: rest))) : W p l e R s m args below meth c H locs cells slots Q (F0 m pc ls (.ref (gB G 3) :: rest)) :=
  rgM S hI 5 (by decide) (S.2.2.2.2 _ (al (List.mem_of_getElem? (i := 626) rfl) rfl)) rfl rfl hdg kk
set_option maxRecDepth 20000 in
theorem g_X4_M_thrown (S : CallFix p m c cc nL s args AL RX4) (hI : Iv G σ s H locs) {th np : Int32} {mk lf nw kp : Nat → Int32} (hm : gM σ = (th, np, mk, lf, nw, kp)) (hdg : decode cc pc = .ok (.getfield 26, 3)) (kk : W p l e R s m args below meth c H locs cells slots Q (F0 m (pc + 3) ls (.int th :: rest))) : W p l e R s m args below meth c H locs cells slots Q (F0 m pc ls (.ref (gB G 3) :: rest)) :=
  rgM S hI 0 (by decide) (S.2.2.2.2 _ (al (List.mem_of_getElem? (i := 621) rfl) rfl)) rfl (by rw [hm]; rfl) hdg kk
set_option maxRecDepth 20000 in
theorem g_X4_M_promises (S : CallFix p m c cc nL s args AL RX4) (hI : Iv G σ s H locs) {th np : Int32} {mk lf nw kp : Nat → Int32} (hm : gM σ = (th, np, mk, lf, nw, kp)) (hdg : decode cc pc = .ok (.getfield 34, 3)) (kk : W p l e R s m args below meth c H locs cells slots Q (F0 m (pc + 3) ls (.int np :: rest))) : W p l e R s m args below meth c H locs cells slots Q (F0 m pc ls (.ref (gB G 3) :: rest)) :=
  rgM S hI 1 (by decide) (S.2.2.2.2 _ (al (List.mem_of_getElem? (i := 622) rfl) rfl)) rfl (by rw [hm]; rfl) hdg kk
set_option maxRecDepth 20000 in
theorem p_X4_M_thrown (S : CallFix p m c cc nL s args AL RX4) (hI : Iv G σ s H locs) {th np : Int32} {mk lf nw kp : Nat → Int32} (hm : gM σ = (th, np, mk, lf, nw, kp)) {v : Int32} (hdg : decode cc pc = .ok (.putfield 26, 3)) (kk : ∀ (σ' : St) (H1 : Heap) (locs1 : List Loc), σ' = setM σ (v, np, mk, lf, nw, kp) → gM σ' = (v, np, mk, lf, nw, kp) → Iv G σ' s H1 locs1 → W p l e R s m args below meth c H1 locs1 cells slots Q (F0 m (pc + 3) ls rest)) : W p l e R s m args below meth c H locs cells slots Q (F0 m pc ls ((.int v) :: .ref (gB G 3) :: rest)) :=
  rpM S hI v np 0 (by decide) (S.2.2.2.2 _ (al (List.mem_of_getElem? (i := 621) rfl) rfl)) rfl rfl rfl rfl rfl (by rw [hm]; rfl) hdg (fun σ' H1 locs1 e9 h9 => kk σ' H1 locs1 (by rw [e9, hm]) (by rw [e9, hm]; rfl) h9)
set_option maxRecDepth 20000 in
theorem p_X4_M_promises (S : CallFix p m c cc nL s args AL RX4) (hI : Iv G σ s H locs) {th np : Int32} {mk lf nw kp : Nat → Int32} (hm : gM σ = (th, np, mk, lf, nw, kp)) {v : Int32} (hdg : decode cc pc = .ok (.putfield 34, 3)) (kk : ∀ (σ' : St) (H1 : Heap) (locs1 : List Loc), σ' = setM σ (th, v, mk, lf, nw, kp) → gM σ' = (th, v, mk, lf, nw, kp) → Iv G σ' s H1 locs1 → W p l e R s m args below meth c H1 locs1 cells slots Q (F0 m (pc + 3) ls rest)) : W p l e R s m args below meth c H locs cells slots Q (F0 m pc ls ((.int v) :: .ref (gB G 3) :: rest)) :=
  rpM S hI th v 1 (by decide) (S.2.2.2.2 _ (al (List.mem_of_getElem? (i := 622) rfl) rfl)) rfl rfl rfl rfl rfl (by rw [hm]; rfl) hdg (fun σ' H1 locs1 e9 h9 => kk σ' H1 locs1 (by rw [e9, hm]) (by rw [e9, hm]; rfl) h9)
end INST
theorem g_C {y : MethodName} {cc : ByteArray} {maxL : Nat} {ret : Option FieldType} (h5 : Cond.code y cc maxL ret ∈ AL) : GoodIn AL (.code y cc maxL ret :: AL) := fun w hw => by
  rcases List.mem_cons.mp hw with rfl | h
  · exact ⟨h5, al_good h5⟩
  · exact ⟨h, al_good h⟩
theorem g_V {own C : String} {idx : Nat} {y : MethodName} {cc : ByteArray} {maxL : Nat} {ret : Option FieldType} (h1 : Cond.methodLink own idx y ∈ AL) (h2 : Cond.instanceMethod y ∈ AL) (h3 : Cond.selects C y y ∈ AL) (h4 : Cond.initialized C ∈ AL) (h5 : Cond.code y cc maxL ret ∈ AL) : GoodIn AL (wsV own idx C y (.code y cc maxL ret :: AL)) := by
  refine goodIn_app (fun w hw => ?_) (g_C h5)
  simp only [List.mem_cons, List.not_mem_nil, or_false] at hw
  rcases hw with rfl | rfl | rfl | rfl
  · exact ⟨h1, al_good h1⟩
  · exact ⟨h2, al_good h2⟩
  · exact ⟨h3, al_good h3⟩
  · exact ⟨h4, al_good h4⟩
theorem g_S {own : String} {idx : Nat} {y : MethodName} {cc : ByteArray} {maxL : Nat} {ret : Option FieldType} (h1 : Cond.methodLink own idx y ∈ AL) (h2 : Cond.static y ∈ AL) (h4 : Cond.initialized own ∈ AL) (h5 : Cond.code y cc maxL ret ∈ AL) : GoodIn AL (wsS own idx y (.code y cc maxL ret :: AL)) := by
  refine goodIn_app (fun w hw => ?_) (g_C h5)
  simp only [List.mem_cons, List.not_mem_nil, or_false] at hw
  rcases hw with rfl | rfl | rfl
  · exact ⟨h1, al_good h1⟩
  · exact ⟨h2, al_good h2⟩
  · exact ⟨h4, al_good h4⟩
set_option maxRecDepth 20000 in
theorem cw_X3_X3_checkMaker {d mc ms : Nat} {R : Room} {s : State} {args : Array Value} (ht : ∀ w ∈ AL, w.before args s = true) (hR : d + 1 ≤ R.frames ∧ 8 + (1 + 11) + 36 * d ≤ R.locals) : CallB R s args RX3 47 yX3_checkMaker cX3_checkMaker 1 none (.code yX3_checkMaker cX3_checkMaker 1 none :: AL) (rm d mc ms) mc ms 1 ∧ (Cond.static yX3_checkMaker).before args s = true :=
  cwS 1 ht (g_S (al (List.mem_of_getElem? (i := 185) rfl) rfl) (al (List.mem_of_getElem? (i := 186) rfl) rfl) (al (List.mem_of_getElem? (i := 51) rfl) rfl) (al (List.mem_of_getElem? (i := 187) rfl) rfl)) rfl rfl rfl (by decide +kernel) hR
set_option maxRecDepth 20000 in
theorem cw_X3_X3_checkHours {d mc ms : Nat} {R : Room} {s : State} {args : Array Value} (ht : ∀ w ∈ AL, w.before args s = true) (hR : d + 1 ≤ R.frames ∧ 8 + (1 + 11) + 36 * d ≤ R.locals) : CallB R s args RX3 116 yX3_checkHours cX3_checkHours 1 none (.code yX3_checkHours cX3_checkHours 1 none :: AL) (rm d mc ms) mc ms 1 ∧ (Cond.static yX3_checkHours).before args s = true :=
  cwS 1 ht (g_S (al (List.mem_of_getElem? (i := 512) rfl) rfl) (al (List.mem_of_getElem? (i := 513) rfl) rfl) (al (List.mem_of_getElem? (i := 51) rfl) rfl) (al (List.mem_of_getElem? (i := 514) rfl) rfl)) rfl rfl rfl (by decide +kernel) hR
set_option maxRecDepth 20000 in
theorem cw_X3_X3_isSooner {d mc ms : Nat} {R : Room} {s : State} {args : Array Value} (ht : ∀ w ∈ AL, w.before args s = true) (hR : d + 1 ≤ R.frames ∧ 8 + (2 + 11) + 36 * d ≤ R.locals) : CallB R s args RX3 155 yX3_isSooner cX3_isSooner 2 (some .boolean) (.code yX3_isSooner cX3_isSooner 2 (some .boolean) :: AL) (rm d mc ms) mc ms 2 ∧ (Cond.static yX3_isSooner).before args s = true :=
  cwS 2 ht (g_S (al (List.mem_of_getElem? (i := 322) rfl) rfl) (al (List.mem_of_getElem? (i := 323) rfl) rfl) (al (List.mem_of_getElem? (i := 51) rfl) rfl) (al (List.mem_of_getElem? (i := 324) rfl) rfl)) rfl rfl rfl (by decide +kernel) hR
set_option maxRecDepth 20000 in
theorem cw_X3_X3_asNumber {d mc ms : Nat} {R : Room} {s : State} {args : Array Value} (ht : ∀ w ∈ AL, w.before args s = true) (hR : d + 1 ≤ R.frames ∧ 8 + (1 + 11) + 36 * d ≤ R.locals) : CallB R s args RX3 175 yX3_asNumber cX3_asNumber 1 (some .int) (.code yX3_asNumber cX3_asNumber 1 (some .int) :: AL) (rm d mc ms) mc ms 1 ∧ (Cond.static yX3_asNumber).before args s = true :=
  cwS 1 ht (g_S (al (List.mem_of_getElem? (i := 353) rfl) rfl) (al (List.mem_of_getElem? (i := 354) rfl) rfl) (al (List.mem_of_getElem? (i := 51) rfl) rfl) (al (List.mem_of_getElem? (i := 355) rfl) rfl)) rfl rfl rfl (by decide +kernel) hR
set_option maxRecDepth 20000 in
theorem cw_X3_X3_findShelf {d mc ms : Nat} {R : Room} {s : State} {args : Array Value} (ht : ∀ w ∈ AL, w.before args s = true) (hR : d + 1 ≤ R.frames ∧ 8 + (2 + 11) + 36 * d ≤ R.locals) : CallW R s args RX3 RX3 50 yX3_findShelf cX3_findShelf 2 (some (.object "PromiseShelves$Shelf")) (.code yX3_findShelf cX3_findShelf 2 (some (.object "PromiseShelves$Shelf")) :: AL) (rm d mc ms) mc ms 1 :=
  cwV 1 ht (g_V (al (List.mem_of_getElem? (i := 370) rfl) rfl) (al (List.mem_of_getElem? (i := 372) rfl) rfl) (al (List.mem_of_getElem? (i := 16) rfl) rfl) (al (List.mem_of_getElem? (i := 51) rfl) rfl) (al (List.mem_of_getElem? (i := 373) rfl) rfl)) rfl rfl rfl (by decide +kernel) hR
set_option maxRecDepth 20000 in
theorem cw_X3_X0_layAnew {d mc ms : Nat} {R : Room} {s : State} {args : Array Value} (ht : ∀ w ∈ AL, w.before args s = true) (hN : ∀ w ∈ NW, va_Nw w s) (hR : d + 1 ≤ R.frames ∧ 8 + (4 + 11) + 36 * d ≤ R.locals) : va_CN R s args RX3 66 yX0_layAnew RX3 cX0_layAnew 4 none (.code yX0_layAnew cX0_layAnew 4 none :: AL) (rm d mc ms) mc ms 3 ∧ (Cond.instanceMethod yX0_layAnew).before args s = true ∧ (Cond.selects RX0 yX0_layAnew yX0_layAnew).before args s = true :=
  ⟨va_cnB 3 ht (g_C (al (List.mem_of_getElem? (i := 286) rfl) rfl)) rfl rfl rfl (hN _ (List.mem_filter.mpr ⟨List.mem_of_getElem? (i := 283) rfl, rfl⟩)) (ht _ (al (List.mem_of_getElem? (i := 53) rfl) rfl)) (by decide +kernel) hR, ht _ (al (List.mem_of_getElem? (i := 285) rfl) rfl), ht _ (al (List.mem_of_getElem? (i := 5) rfl) rfl)⟩
set_option maxRecDepth 20000 in
theorem cw_X3_X1_openDoor {d mc ms : Nat} {R : Room} {s : State} {args : Array Value} (ht : ∀ w ∈ AL, w.before args s = true) (hN : ∀ w ∈ NW, va_Nw w s) (hR : d + 1 ≤ R.frames ∧ 8 + (1 + 11) + 36 * d ≤ R.locals) : va_CN R s args RX3 70 yX1_openDoor RX3 cX1_openDoor 1 none (.code yX1_openDoor cX1_openDoor 1 none :: AL) (rm d mc ms) mc ms 0 ∧ (Cond.instanceMethod yX1_openDoor).before args s = true ∧ (Cond.selects RX1 yX1_openDoor yX1_openDoor).before args s = true :=
  ⟨va_cnB 0 ht (g_C (al (List.mem_of_getElem? (i := 279) rfl) rfl)) rfl rfl rfl (hN _ (List.mem_filter.mpr ⟨List.mem_of_getElem? (i := 276) rfl, rfl⟩)) (ht _ (al (List.mem_of_getElem? (i := 52) rfl) rfl)) (by decide +kernel) hR, ht _ (al (List.mem_of_getElem? (i := 278) rfl) rfl), ht _ (al (List.mem_of_getElem? (i := 4) rfl) rfl)⟩
set_option maxRecDepth 20000 in
theorem cw_X3_X3_findPromise {d mc ms : Nat} {R : Room} {s : State} {args : Array Value} (ht : ∀ w ∈ AL, w.before args s = true) (hR : d + 1 ≤ R.frames ∧ 8 + (2 + 11) + 36 * d ≤ R.locals) : CallW R s args RX3 RX3 73 yX3_findPromise cX3_findPromise 2 (some (.object "PromiseShelves$Promise")) (.code yX3_findPromise cX3_findPromise 2 (some (.object "PromiseShelves$Promise")) :: AL) (rm d mc ms) mc ms 1 :=
  cwV 1 ht (g_V (al (List.mem_of_getElem? (i := 391) rfl) rfl) (al (List.mem_of_getElem? (i := 393) rfl) rfl) (al (List.mem_of_getElem? (i := 18) rfl) rfl) (al (List.mem_of_getElem? (i := 51) rfl) rfl) (al (List.mem_of_getElem? (i := 394) rfl) rfl)) rfl rfl rfl (by decide +kernel) hR
set_option maxRecDepth 20000 in
theorem cw_X3_X0_leaveAs {d mc ms : Nat} {R : Room} {s : State} {args : Array Value} (ht : ∀ w ∈ AL, w.before args s = true) (hN : ∀ w ∈ NW, va_Nw w s) (hR : d + 1 ≤ R.frames ∧ 8 + (2 + 11) + 36 * d ≤ R.locals) : va_CN R s args RX3 101 yX0_leaveAs RX3 cX0_leaveAs 2 none (.code yX0_leaveAs cX0_leaveAs 2 none :: AL) (rm d mc ms) mc ms 1 ∧ (Cond.instanceMethod yX0_leaveAs).before args s = true ∧ (Cond.selects RX0 yX0_leaveAs yX0_leaveAs).before args s = true :=
  ⟨va_cnB 1 ht (g_C (al (List.mem_of_getElem? (i := 321) rfl) rfl)) rfl rfl rfl (hN _ (List.mem_filter.mpr ⟨List.mem_of_getElem? (i := 496) rfl, rfl⟩)) (ht _ (al (List.mem_of_getElem? (i := 53) rfl) rfl)) (by decide +kernel) hR, ht _ (al (List.mem_of_getElem? (i := 320) rfl) rfl), ht _ (al (List.mem_of_getElem? (i := 11) rfl) rfl)⟩
set_option maxRecDepth 20000 in
theorem cw_X3_X3_passAnHour {d mc ms : Nat} {R : Room} {s : State} {args : Array Value} (ht : ∀ w ∈ AL, w.before args s = true) (hR : d + 1 ≤ R.frames ∧ 8 + (5 + 11) + 36 * d ≤ R.locals) : CallW R s args RX3 RX3 119 yX3_passAnHour cX3_passAnHour 5 none (.code yX3_passAnHour cX3_passAnHour 5 none :: AL) (rm d mc ms) mc ms 0 :=
  cwV 0 ht (g_V (al (List.mem_of_getElem? (i := 516) rfl) rfl) (al (List.mem_of_getElem? (i := 518) rfl) rfl) (al (List.mem_of_getElem? (i := 20) rfl) rfl) (al (List.mem_of_getElem? (i := 51) rfl) rfl) (al (List.mem_of_getElem? (i := 519) rfl) rfl)) rfl rfl rfl (by decide +kernel) hR
set_option maxRecDepth 20000 in
theorem cw_X3_X3_countOf {d mc ms : Nat} {R : Room} {s : State} {args : Array Value} (ht : ∀ w ∈ AL, w.before args s = true) (hR : d + 1 ≤ R.frames ∧ 8 + (8 + 11) + 36 * d ≤ R.locals) : CallW R s args RX3 RX3 135 yX3_countOf cX3_countOf 8 (some .int) (.code yX3_countOf cX3_countOf 8 (some .int) :: AL) (rm d mc ms) mc ms 2 :=
  cwV 2 ht (g_V (al (List.mem_of_getElem? (i := 258) rfl) rfl) (al (List.mem_of_getElem? (i := 260) rfl) rfl) (al (List.mem_of_getElem? (i := 1) rfl) rfl) (al (List.mem_of_getElem? (i := 51) rfl) rfl) (al (List.mem_of_getElem? (i := 261) rfl) rfl)) rfl rfl rfl (by decide +kernel) hR
set_option maxRecDepth 20000 in
theorem cw_X3_X3_honourOf {d mc ms : Nat} {R : Room} {s : State} {args : Array Value} (ht : ∀ w ∈ AL, w.before args s = true) (hR : d + 1 ≤ R.frames ∧ 8 + (2 + 11) + 36 * d ≤ R.locals) : CallW R s args RX3 RX3 139 yX3_honourOf cX3_honourOf 2 (some .int) (.code yX3_honourOf cX3_honourOf 2 (some .int) :: AL) (rm d mc ms) mc ms 1 :=
  cwV 1 ht (g_V (al (List.mem_of_getElem? (i := 181) rfl) rfl) (al (List.mem_of_getElem? (i := 182) rfl) rfl) (al (List.mem_of_getElem? (i := 183) rfl) rfl) (al (List.mem_of_getElem? (i := 51) rfl) rfl) (al (List.mem_of_getElem? (i := 184) rfl) rfl)) rfl rfl rfl (by decide +kernel) hR
set_option maxRecDepth 20000 in
theorem cw_X3_X3_hoursUntil {d mc ms : Nat} {R : Room} {s : State} {args : Array Value} (ht : ∀ w ∈ AL, w.before args s = true) (hR : d + 1 ≤ R.frames ∧ 8 + (4 + 11) + 36 * d ≤ R.locals) : CallW R s args RX3 RX3 143 yX3_hoursUntil cX3_hoursUntil 4 (some .int) (.code yX3_hoursUntil cX3_hoursUntil 4 (some .int) :: AL) (rm d mc ms) mc ms 2 :=
  cwV 2 ht (g_V (al (List.mem_of_getElem? (i := 583) rfl) rfl) (al (List.mem_of_getElem? (i := 585) rfl) rfl) (al (List.mem_of_getElem? (i := 21) rfl) rfl) (al (List.mem_of_getElem? (i := 51) rfl) rfl) (al (List.mem_of_getElem? (i := 586) rfl) rfl)) rfl rfl rfl (by decide +kernel) hR
set_option maxRecDepth 20000 in
theorem cw_X3_X3_liesBehind {d mc ms : Nat} {R : Room} {s : State} {args : Array Value} (ht : ∀ w ∈ AL, w.before args s = true) (hR : d + 1 ≤ R.frames ∧ 8 + (5 + 11) + 36 * d ≤ R.locals) : CallW R s args RX3 RX3 147 yX3_liesBehind cX3_liesBehind 5 (some .boolean) (.code yX3_liesBehind cX3_liesBehind 5 (some .boolean) :: AL) (rm d mc ms) mc ms 2 :=
  cwV 2 ht (g_V (al (List.mem_of_getElem? (i := 608) rfl) rfl) (al (List.mem_of_getElem? (i := 610) rfl) rfl) (al (List.mem_of_getElem? (i := 22) rfl) rfl) (al (List.mem_of_getElem? (i := 51) rfl) rfl) (al (List.mem_of_getElem? (i := 611) rfl) rfl)) rfl rfl rfl (by decide +kernel) hR
set_option maxRecDepth 20000 in
theorem cw_X3_X3_hoursToFreezeAnew {d mc ms : Nat} {R : Room} {s : State} {args : Array Value} (ht : ∀ w ∈ AL, w.before args s = true) (hR : d + 1 ≤ R.frames ∧ 8 + (2 + 11) + 36 * d ≤ R.locals) : CallW R s args RX3 RX3 151 yX3_hoursToFreezeAnew cX3_hoursToFreezeAnew 2 (some .int) (.code yX3_hoursToFreezeAnew cX3_hoursToFreezeAnew 2 (some .int) :: AL) (rm d mc ms) mc ms 1 :=
  cwV 1 ht (g_V (al (List.mem_of_getElem? (i := 268) rfl) rfl) (al (List.mem_of_getElem? (i := 270) rfl) rfl) (al (List.mem_of_getElem? (i := 2) rfl) rfl) (al (List.mem_of_getElem? (i := 51) rfl) rfl) (al (List.mem_of_getElem? (i := 271) rfl) rfl)) rfl rfl rfl (by decide +kernel) hR
set_option maxRecDepth 20000 in
theorem cw_X3_X3_hoursToAlarmWithoutPower {d mc ms : Nat} {R : Room} {s : State} {args : Array Value} (ht : ∀ w ∈ AL, w.before args s = true) (hR : d + 1 ≤ R.frames ∧ 8 + (4 + 11) + 36 * d ≤ R.locals) : CallW R s args RX3 RX3 159 yX3_hoursToAlarmWithoutPower cX3_hoursToAlarmWithoutPower 4 (some .int) (.code yX3_hoursToAlarmWithoutPower cX3_hoursToAlarmWithoutPower 4 (some .int) :: AL) (rm d mc ms) mc ms 1 :=
  cwV 1 ht (g_V (al (List.mem_of_getElem? (i := 329) rfl) rfl) (al (List.mem_of_getElem? (i := 331) rfl) rfl) (al (List.mem_of_getElem? (i := 12) rfl) rfl) (al (List.mem_of_getElem? (i := 51) rfl) rfl) (al (List.mem_of_getElem? (i := 332) rfl) rfl)) rfl rfl rfl (by decide +kernel) hR
set_option maxRecDepth 20000 in
theorem cw_X3_X3_hour {d mc ms : Nat} {R : Room} {s : State} {args : Array Value} (ht : ∀ w ∈ AL, w.before args s = true) (hR : d + 1 ≤ R.frames ∧ 8 + (1 + 11) + 36 * d ≤ R.locals) : CallW R s args RX3 RX3 167 yX3_hour cX3_hour 1 (some .int) (.code yX3_hour cX3_hour 1 (some .int) :: AL) (rm d mc ms) mc ms 0 :=
  cwV 0 ht (g_V (al (List.mem_of_getElem? (i := 351) rfl) rfl) (al (List.mem_of_getElem? (i := 158) rfl) rfl) (al (List.mem_of_getElem? (i := 159) rfl) rfl) (al (List.mem_of_getElem? (i := 51) rfl) rfl) (al (List.mem_of_getElem? (i := 160) rfl) rfl)) rfl rfl rfl (by decide +kernel) hR
set_option maxRecDepth 20000 in
theorem cw_X3_X3_hasPower {d mc ms : Nat} {R : Room} {s : State} {args : Array Value} (ht : ∀ w ∈ AL, w.before args s = true) (hR : d + 1 ≤ R.frames ∧ 8 + (1 + 11) + 36 * d ≤ R.locals) : CallW R s args RX3 RX3 171 yX3_hasPower cX3_hasPower 1 (some .boolean) (.code yX3_hasPower cX3_hasPower 1 (some .boolean) :: AL) (rm d mc ms) mc ms 0 :=
  cwV 0 ht (g_V (al (List.mem_of_getElem? (i := 352) rfl) rfl) (al (List.mem_of_getElem? (i := 162) rfl) rfl) (al (List.mem_of_getElem? (i := 163) rfl) rfl) (al (List.mem_of_getElem? (i := 51) rfl) rfl) (al (List.mem_of_getElem? (i := 164) rfl) rfl)) rfl rfl rfl (by decide +kernel) hR
set_option maxRecDepth 20000 in
theorem cw_X3_X3_alarms {d mc ms : Nat} {R : Room} {s : State} {args : Array Value} (ht : ∀ w ∈ AL, w.before args s = true) (hR : d + 1 ≤ R.frames ∧ 8 + (1 + 11) + 36 * d ≤ R.locals) : CallW R s args RX3 RX3 179 yX3_alarms cX3_alarms 1 (some .int) (.code yX3_alarms cX3_alarms 1 (some .int) :: AL) (rm d mc ms) mc ms 0 :=
  cwV 0 ht (g_V (al (List.mem_of_getElem? (i := 356) rfl) rfl) (al (List.mem_of_getElem? (i := 170) rfl) rfl) (al (List.mem_of_getElem? (i := 171) rfl) rfl) (al (List.mem_of_getElem? (i := 51) rfl) rfl) (al (List.mem_of_getElem? (i := 172) rfl) rfl)) rfl rfl rfl (by decide +kernel) hR
set_option maxRecDepth 20000 in
theorem cw_X3_X3_promises {d mc ms : Nat} {R : Room} {s : State} {args : Array Value} (ht : ∀ w ∈ AL, w.before args s = true) (hR : d + 1 ≤ R.frames ∧ 8 + (1 + 11) + 36 * d ≤ R.locals) : CallW R s args RX3 RX3 182 yX3_promises cX3_promises 1 (some .int) (.code yX3_promises cX3_promises 1 (some .int) :: AL) (rm d mc ms) mc ms 0 :=
  cwV 0 ht (g_V (al (List.mem_of_getElem? (i := 357) rfl) rfl) (al (List.mem_of_getElem? (i := 174) rfl) rfl) (al (List.mem_of_getElem? (i := 175) rfl) rfl) (al (List.mem_of_getElem? (i := 51) rfl) rfl) (al (List.mem_of_getElem? (i := 176) rfl) rfl)) rfl rfl rfl (by decide +kernel) hR
set_option maxRecDepth 20000 in
theorem cw_X3_X3_coldest {d mc ms : Nat} {R : Room} {s : State} {args : Array Value} (ht : ∀ w ∈ AL, w.before args s = true) (hR : d + 1 ≤ R.frames ∧ 8 + (3 + 11) + 36 * d ≤ R.locals) : CallW R s args RX3 RX3 184 yX3_coldest cX3_coldest 3 (some .int) (.code yX3_coldest cX3_coldest 3 (some .int) :: AL) (rm d mc ms) mc ms 0 :=
  cwV 0 ht (g_V (al (List.mem_of_getElem? (i := 358) rfl) rfl) (al (List.mem_of_getElem? (i := 166) rfl) rfl) (al (List.mem_of_getElem? (i := 167) rfl) rfl) (al (List.mem_of_getElem? (i := 51) rfl) rfl) (al (List.mem_of_getElem? (i := 168) rfl) rfl)) rfl rfl rfl (by decide +kernel) hR
set_option maxRecDepth 20000 in
theorem cw_X3_X3_mostHonourable {d mc ms : Nat} {R : Room} {s : State} {args : Array Value} (ht : ∀ w ∈ AL, w.before args s = true) (hR : d + 1 ≤ R.frames ∧ 8 + (3 + 11) + 36 * d ≤ R.locals) : CallW R s args RX3 RX3 187 yX3_mostHonourable cX3_mostHonourable 3 (some .int) (.code yX3_mostHonourable cX3_mostHonourable 3 (some .int) :: AL) (rm d mc ms) mc ms 0 :=
  cwV 0 ht (g_V (al (List.mem_of_getElem? (i := 359) rfl) rfl) (al (List.mem_of_getElem? (i := 178) rfl) rfl) (al (List.mem_of_getElem? (i := 179) rfl) rfl) (al (List.mem_of_getElem? (i := 51) rfl) rfl) (al (List.mem_of_getElem? (i := 180) rfl) rfl)) rfl rfl rfl (by decide +kernel) hR
set_option maxRecDepth 20000 in
theorem cw_X3_X3_bestShelf {d mc ms : Nat} {R : Room} {s : State} {args : Array Value} (ht : ∀ w ∈ AL, w.before args s = true) (hR : d + 1 ≤ R.frames ∧ 8 + (8 + 11) + 36 * d ≤ R.locals) : CallW R s args RX3 RX3 190 yX3_bestShelf cX3_bestShelf 8 (some .int) (.code yX3_bestShelf cX3_bestShelf 8 (some .int) :: AL) (rm d mc ms) mc ms 0 :=
  cwV 0 ht (g_V (al (List.mem_of_getElem? (i := 360) rfl) rfl) (al (List.mem_of_getElem? (i := 265) rfl) rfl) (al (List.mem_of_getElem? (i := 266) rfl) rfl) (al (List.mem_of_getElem? (i := 51) rfl) rfl) (al (List.mem_of_getElem? (i := 267) rfl) rfl)) rfl rfl rfl (by decide +kernel) hR
set_option maxRecDepth 20000 in
theorem cw_X3_X3_hoursOfCold {d mc ms : Nat} {R : Room} {s : State} {args : Array Value} (ht : ∀ w ∈ AL, w.before args s = true) (hR : d + 1 ≤ R.frames ∧ 8 + (7 + 11) + 36 * d ≤ R.locals) : CallW R s args RX3 RX3 193 yX3_hoursOfCold cX3_hoursOfCold 7 (some .int) (.code yX3_hoursOfCold cX3_hoursOfCold 7 (some .int) :: AL) (rm d mc ms) mc ms 0 :=
  cwV 0 ht (g_V (al (List.mem_of_getElem? (i := 361) rfl) rfl) (al (List.mem_of_getElem? (i := 326) rfl) rfl) (al (List.mem_of_getElem? (i := 327) rfl) rfl) (al (List.mem_of_getElem? (i := 51) rfl) rfl) (al (List.mem_of_getElem? (i := 328) rfl) rfl)) rfl rfl rfl (by decide +kernel) hR
set_option maxRecDepth 20000 in
theorem cw_X3_X3_withShelves {d mc ms : Nat} {R : Room} {s : State} {args : Array Value} (ht : ∀ w ∈ AL, w.before args s = true) (hR : d + 1 ≤ R.frames ∧ 8 + (6 + 11) + 36 * d ≤ R.locals) : CallW R s args RX3 RX3 196 yX3_withShelves cX3_withShelves 6 (some .long) (.code yX3_withShelves cX3_withShelves 6 (some .long) :: AL) (rm d mc ms) mc ms 1 :=
  cwV 1 ht (g_V (al (List.mem_of_getElem? (i := 362) rfl) rfl) (al (List.mem_of_getElem? (i := 364) rfl) rfl) (al (List.mem_of_getElem? (i := 15) rfl) rfl) (al (List.mem_of_getElem? (i := 51) rfl) rfl) (al (List.mem_of_getElem? (i := 365) rfl) rfl)) rfl rfl rfl (by decide +kernel) hR
set_option maxRecDepth 20000 in
theorem cw_X3_X3_withPromises {d mc ms : Nat} {R : Room} {s : State} {args : Array Value} (ht : ∀ w ∈ AL, w.before args s = true) (hR : d + 1 ≤ R.frames ∧ 8 + (6 + 11) + 36 * d ≤ R.locals) : CallW R s args RX3 RX3 200 yX3_withPromises cX3_withPromises 6 (some .long) (.code yX3_withPromises cX3_withPromises 6 (some .long) :: AL) (rm d mc ms) mc ms 1 :=
  cwV 1 ht (g_V (al (List.mem_of_getElem? (i := 383) rfl) rfl) (al (List.mem_of_getElem? (i := 385) rfl) rfl) (al (List.mem_of_getElem? (i := 17) rfl) rfl) (al (List.mem_of_getElem? (i := 51) rfl) rfl) (al (List.mem_of_getElem? (i := 386) rfl) rfl)) rfl rfl rfl (by decide +kernel) hR
set_option maxRecDepth 20000 in
theorem cw_X3_X3_withMakers {d mc ms : Nat} {R : Room} {s : State} {args : Array Value} (ht : ∀ w ∈ AL, w.before args s = true) (hR : d + 1 ≤ R.frames ∧ 8 + (6 + 11) + 36 * d ≤ R.locals) : CallW R s args RX3 RX3 203 yX3_withMakers cX3_withMakers 6 (some .long) (.code yX3_withMakers cX3_withMakers 6 (some .long) :: AL) (rm d mc ms) mc ms 1 :=
  cwV 1 ht (g_V (al (List.mem_of_getElem? (i := 429) rfl) rfl) (al (List.mem_of_getElem? (i := 431) rfl) rfl) (al (List.mem_of_getElem? (i := 19) rfl) rfl) (al (List.mem_of_getElem? (i := 51) rfl) rfl) (al (List.mem_of_getElem? (i := 432) rfl) rfl)) rfl rfl rfl (by decide +kernel) hR
set_option maxRecDepth 20000 in
theorem cw_X3_X1_liveAnHour {d mc ms : Nat} {R : Room} {s : State} {args : Array Value} (ht : ∀ w ∈ AL, w.before args s = true) (hN : ∀ w ∈ NW, va_Nw w s) (hR : d + 1 ≤ R.frames ∧ 8 + (2 + 11) + 36 * d ≤ R.locals) : va_CN R s args RX3 217 yX1_liveAnHour RX3 cX1_liveAnHour 2 none (.code yX1_liveAnHour cX1_liveAnHour 2 none :: AL) (rm d mc ms) mc ms 1 ∧ (Cond.instanceMethod yX1_liveAnHour).before args s = true ∧ (Cond.selects RX1 yX1_liveAnHour yX1_liveAnHour).before args s = true :=
  ⟨va_cnB 1 ht (g_C (al (List.mem_of_getElem? (i := 302) rfl) rfl)) rfl rfl rfl (hN _ (List.mem_filter.mpr ⟨List.mem_of_getElem? (i := 299) rfl, rfl⟩)) (ht _ (al (List.mem_of_getElem? (i := 52) rfl) rfl)) (by decide +kernel) hR, ht _ (al (List.mem_of_getElem? (i := 301) rfl) rfl), ht _ (al (List.mem_of_getElem? (i := 8) rfl) rfl)⟩
set_option maxRecDepth 20000 in
theorem cw_X3_X0_liveAnHour {d mc ms : Nat} {R : Room} {s : State} {args : Array Value} (ht : ∀ w ∈ AL, w.before args s = true) (hN : ∀ w ∈ NW, va_Nw w s) (hR : d + 1 ≤ R.frames ∧ 8 + (2 + 11) + 36 * d ≤ R.locals) : va_CN R s args RX3 221 yX0_liveAnHour RX3 cX0_liveAnHour 2 (some .boolean) (.code yX0_liveAnHour cX0_liveAnHour 2 (some .boolean) :: AL) (rm d mc ms) mc ms 0 ∧ (Cond.instanceMethod yX0_liveAnHour).before args s = true ∧ (Cond.selects RX0 yX0_liveAnHour yX0_liveAnHour).before args s = true :=
  ⟨va_cnB 0 ht (g_C (al (List.mem_of_getElem? (i := 309) rfl) rfl)) rfl rfl rfl (hN _ (List.mem_filter.mpr ⟨List.mem_of_getElem? (i := 306) rfl, rfl⟩)) (ht _ (al (List.mem_of_getElem? (i := 53) rfl) rfl)) (by decide +kernel) hR, ht _ (al (List.mem_of_getElem? (i := 308) rfl) rfl), ht _ (al (List.mem_of_getElem? (i := 9) rfl) rfl)⟩
set_option maxRecDepth 20000 in
theorem cw_X3_X1_becomeLike {d mc ms : Nat} {R : Room} {s : State} {args : Array Value} (ht : ∀ w ∈ AL, w.before args s = true) (hN : ∀ w ∈ NW, va_Nw w s) (hR : d + 1 ≤ R.frames ∧ 8 + (2 + 11) + 36 * d ≤ R.locals) : va_CN R s args RX3 223 yX1_becomeLike RX3 cX1_becomeLike 2 none (.code yX1_becomeLike cX1_becomeLike 2 none :: AL) (rm d mc ms) mc ms 1 ∧ (Cond.instanceMethod yX1_becomeLike).before args s = true ∧ (Cond.selects RX1 yX1_becomeLike yX1_becomeLike).before args s = true :=
  ⟨va_cnB 1 ht (g_C (al (List.mem_of_getElem? (i := 275) rfl) rfl)) rfl rfl rfl (hN _ (List.mem_filter.mpr ⟨List.mem_of_getElem? (i := 272) rfl, rfl⟩)) (ht _ (al (List.mem_of_getElem? (i := 52) rfl) rfl)) (by decide +kernel) hR, ht _ (al (List.mem_of_getElem? (i := 274) rfl) rfl), ht _ (al (List.mem_of_getElem? (i := 3) rfl) rfl)⟩
set_option maxRecDepth 20000 in
theorem cw_X3_X0_becomeLike {d mc ms : Nat} {R : Room} {s : State} {args : Array Value} (ht : ∀ w ∈ AL, w.before args s = true) (hN : ∀ w ∈ NW, va_Nw w s) (hR : d + 1 ≤ R.frames ∧ 8 + (3 + 11) + 36 * d ≤ R.locals) : va_CN R s args RX3 227 yX0_becomeLike RX3 cX0_becomeLike 3 none (.code yX0_becomeLike cX0_becomeLike 3 none :: AL) (rm d mc ms) mc ms 2 ∧ (Cond.instanceMethod yX0_becomeLike).before args s = true ∧ (Cond.selects RX0 yX0_becomeLike yX0_becomeLike).before args s = true :=
  ⟨va_cnB 2 ht (g_C (al (List.mem_of_getElem? (i := 340) rfl) rfl)) rfl rfl rfl (hN _ (List.mem_filter.mpr ⟨List.mem_of_getElem? (i := 337) rfl, rfl⟩)) (ht _ (al (List.mem_of_getElem? (i := 53) rfl) rfl)) (by decide +kernel) hR, ht _ (al (List.mem_of_getElem? (i := 339) rfl) rfl), ht _ (al (List.mem_of_getElem? (i := 14) rfl) rfl)⟩
set_option maxRecDepth 20000 in
theorem cw_X3_X3_tryAnHour {d mc ms : Nat} {R : Room} {s : State} {args : Array Value} (ht : ∀ w ∈ AL, w.before args s = true) (hR : d + 1 ≤ R.frames ∧ 8 + (2 + 11) + 36 * d ≤ R.locals) : CallW R s args RX3 RX3 230 yX3_tryAnHour cX3_tryAnHour 2 (some .boolean) (.code yX3_tryAnHour cX3_tryAnHour 2 (some .boolean) :: AL) (rm d mc ms) mc ms 1 :=
  cwV 1 ht (g_V (al (List.mem_of_getElem? (i := 295) rfl) rfl) (al (List.mem_of_getElem? (i := 297) rfl) rfl) (al (List.mem_of_getElem? (i := 7) rfl) rfl) (al (List.mem_of_getElem? (i := 51) rfl) rfl) (al (List.mem_of_getElem? (i := 298) rfl) rfl)) rfl rfl rfl (by decide +kernel) hR
set_option maxRecDepth 20000 in
theorem cw_X3_X3_tryOut {d mc ms : Nat} {R : Room} {s : State} {args : Array Value} (ht : ∀ w ∈ AL, w.before args s = true) (hR : d + 1 ≤ R.frames ∧ 8 + (3 + 11) + 36 * d ≤ R.locals) : CallW R s args RX3 RX3 234 yX3_tryOut cX3_tryOut 3 none (.code yX3_tryOut cX3_tryOut 3 none :: AL) (rm d mc ms) mc ms 2 :=
  cwV 2 ht (g_V (al (List.mem_of_getElem? (i := 333) rfl) rfl) (al (List.mem_of_getElem? (i := 335) rfl) rfl) (al (List.mem_of_getElem? (i := 13) rfl) rfl) (al (List.mem_of_getElem? (i := 51) rfl) rfl) (al (List.mem_of_getElem? (i := 336) rfl) rfl)) rfl rfl rfl (by decide +kernel) hR
set_option maxRecDepth 20000 in
theorem cw_X3_X3_triedHoursUntil {d mc ms : Nat} {R : Room} {s : State} {args : Array Value} (ht : ∀ w ∈ AL, w.before args s = true) (hR : d + 1 ≤ R.frames ∧ 8 + (3 + 11) + 36 * d ≤ R.locals) : CallW R s args RX3 RX3 237 yX3_triedHoursUntil cX3_triedHoursUntil 3 (some .int) (.code yX3_triedHoursUntil cX3_triedHoursUntil 3 (some .int) :: AL) (rm d mc ms) mc ms 1 :=
  cwV 1 ht (g_V (al (List.mem_of_getElem? (i := 291) rfl) rfl) (al (List.mem_of_getElem? (i := 293) rfl) rfl) (al (List.mem_of_getElem? (i := 6) rfl) rfl) (al (List.mem_of_getElem? (i := 51) rfl) rfl) (al (List.mem_of_getElem? (i := 294) rfl) rfl)) rfl rfl rfl (by decide +kernel) hR
set_option maxRecDepth 20000 in
theorem cw_X3_X3_settingOf {d mc ms : Nat} {R : Room} {s : State} {args : Array Value} (ht : ∀ w ∈ AL, w.before args s = true) (hR : d + 1 ≤ R.frames ∧ 8 + (2 + 11) + 36 * d ≤ R.locals) : CallW R s args RX3 RX3 241 yX3_settingOf cX3_settingOf 2 (some .int) (.code yX3_settingOf cX3_settingOf 2 (some .int) :: AL) (rm d mc ms) mc ms 1 :=
  cwV 1 ht (g_V (al (List.mem_of_getElem? (i := 366) rfl) rfl) (al (List.mem_of_getElem? (i := 367) rfl) rfl) (al (List.mem_of_getElem? (i := 368) rfl) rfl) (al (List.mem_of_getElem? (i := 51) rfl) rfl) (al (List.mem_of_getElem? (i := 369) rfl) rfl)) rfl rfl rfl (by decide +kernel) hR
set_option maxRecDepth 20000 in
theorem cw_X3_X3_heatOn {d mc ms : Nat} {R : Room} {s : State} {args : Array Value} (ht : ∀ w ∈ AL, w.before args s = true) (hR : d + 1 ≤ R.frames ∧ 8 + (2 + 11) + 36 * d ≤ R.locals) : CallW R s args RX3 RX3 244 yX3_heatOn cX3_heatOn 2 (some .int) (.code yX3_heatOn cX3_heatOn 2 (some .int) :: AL) (rm d mc ms) mc ms 1 :=
  cwV 1 ht (g_V (al (List.mem_of_getElem? (i := 375) rfl) rfl) (al (List.mem_of_getElem? (i := 376) rfl) rfl) (al (List.mem_of_getElem? (i := 377) rfl) rfl) (al (List.mem_of_getElem? (i := 51) rfl) rfl) (al (List.mem_of_getElem? (i := 378) rfl) rfl)) rfl rfl rfl (by decide +kernel) hR
set_option maxRecDepth 20000 in
theorem cw_X3_X3_promisesOn {d mc ms : Nat} {R : Room} {s : State} {args : Array Value} (ht : ∀ w ∈ AL, w.before args s = true) (hR : d + 1 ≤ R.frames ∧ 8 + (8 + 11) + 36 * d ≤ R.locals) : CallW R s args RX3 RX3 247 yX3_promisesOn cX3_promisesOn 8 (some .int) (.code yX3_promisesOn cX3_promisesOn 8 (some .int) :: AL) (rm d mc ms) mc ms 1 :=
  cwV 1 ht (g_V (al (List.mem_of_getElem? (i := 379) rfl) rfl) (al (List.mem_of_getElem? (i := 380) rfl) rfl) (al (List.mem_of_getElem? (i := 381) rfl) rfl) (al (List.mem_of_getElem? (i := 51) rfl) rfl) (al (List.mem_of_getElem? (i := 382) rfl) rfl)) rfl rfl rfl (by decide +kernel) hR
set_option maxRecDepth 20000 in
theorem cw_X3_X3_makerOf {d mc ms : Nat} {R : Room} {s : State} {args : Array Value} (ht : ∀ w ∈ AL, w.before args s = true) (hR : d + 1 ≤ R.frames ∧ 8 + (2 + 11) + 36 * d ≤ R.locals) : CallW R s args RX3 RX3 250 yX3_makerOf cX3_makerOf 2 (some .int) (.code yX3_makerOf cX3_makerOf 2 (some .int) :: AL) (rm d mc ms) mc ms 1 :=
  cwV 1 ht (g_V (al (List.mem_of_getElem? (i := 387) rfl) rfl) (al (List.mem_of_getElem? (i := 388) rfl) rfl) (al (List.mem_of_getElem? (i := 389) rfl) rfl) (al (List.mem_of_getElem? (i := 51) rfl) rfl) (al (List.mem_of_getElem? (i := 390) rfl) rfl)) rfl rfl rfl (by decide +kernel) hR
set_option maxRecDepth 20000 in
theorem cw_X3_X3_shelfOf {d mc ms : Nat} {R : Room} {s : State} {args : Array Value} (ht : ∀ w ∈ AL, w.before args s = true) (hR : d + 1 ≤ R.frames ∧ 8 + (3 + 11) + 36 * d ≤ R.locals) : CallW R s args RX3 RX3 253 yX3_shelfOf cX3_shelfOf 3 (some .int) (.code yX3_shelfOf cX3_shelfOf 3 (some .int) :: AL) (rm d mc ms) mc ms 1 :=
  cwV 1 ht (g_V (al (List.mem_of_getElem? (i := 396) rfl) rfl) (al (List.mem_of_getElem? (i := 397) rfl) rfl) (al (List.mem_of_getElem? (i := 398) rfl) rfl) (al (List.mem_of_getElem? (i := 51) rfl) rfl) (al (List.mem_of_getElem? (i := 399) rfl) rfl)) rfl rfl rfl (by decide +kernel) hR
set_option maxRecDepth 20000 in
theorem cw_X3_X3_heatOf {d mc ms : Nat} {R : Room} {s : State} {args : Array Value} (ht : ∀ w ∈ AL, w.before args s = true) (hR : d + 1 ≤ R.frames ∧ 8 + (2 + 11) + 36 * d ≤ R.locals) : CallW R s args RX3 RX3 256 yX3_heatOf cX3_heatOf 2 (some .int) (.code yX3_heatOf cX3_heatOf 2 (some .int) :: AL) (rm d mc ms) mc ms 1 :=
  cwV 1 ht (g_V (al (List.mem_of_getElem? (i := 400) rfl) rfl) (al (List.mem_of_getElem? (i := 401) rfl) rfl) (al (List.mem_of_getElem? (i := 402) rfl) rfl) (al (List.mem_of_getElem? (i := 51) rfl) rfl) (al (List.mem_of_getElem? (i := 403) rfl) rfl)) rfl rfl rfl (by decide +kernel) hR
set_option maxRecDepth 20000 in
theorem cw_X3_X3_ageOf {d mc ms : Nat} {R : Room} {s : State} {args : Array Value} (ht : ∀ w ∈ AL, w.before args s = true) (hR : d + 1 ≤ R.frames ∧ 8 + (2 + 11) + 36 * d ≤ R.locals) : CallW R s args RX3 RX3 259 yX3_ageOf cX3_ageOf 2 (some .int) (.code yX3_ageOf cX3_ageOf 2 (some .int) :: AL) (rm d mc ms) mc ms 1 :=
  cwV 1 ht (g_V (al (List.mem_of_getElem? (i := 404) rfl) rfl) (al (List.mem_of_getElem? (i := 405) rfl) rfl) (al (List.mem_of_getElem? (i := 406) rfl) rfl) (al (List.mem_of_getElem? (i := 51) rfl) rfl) (al (List.mem_of_getElem? (i := 407) rfl) rfl)) rfl rfl rfl (by decide +kernel) hR
set_option maxRecDepth 20000 in
theorem cw_X3_X3_hoursLeft {d mc ms : Nat} {R : Room} {s : State} {args : Array Value} (ht : ∀ w ∈ AL, w.before args s = true) (hR : d + 1 ≤ R.frames ∧ 8 + (3 + 11) + 36 * d ≤ R.locals) : CallW R s args RX3 RX3 262 yX3_hoursLeft cX3_hoursLeft 3 (some .int) (.code yX3_hoursLeft cX3_hoursLeft 3 (some .int) :: AL) (rm d mc ms) mc ms 1 :=
  cwV 1 ht (g_V (al (List.mem_of_getElem? (i := 408) rfl) rfl) (al (List.mem_of_getElem? (i := 409) rfl) rfl) (al (List.mem_of_getElem? (i := 410) rfl) rfl) (al (List.mem_of_getElem? (i := 51) rfl) rfl) (al (List.mem_of_getElem? (i := 411) rfl) rfl)) rfl rfl rfl (by decide +kernel) hR
set_option maxRecDepth 20000 in
theorem cw_X3_X3_isFrozen {d mc ms : Nat} {R : Room} {s : State} {args : Array Value} (ht : ∀ w ∈ AL, w.before args s = true) (hR : d + 1 ≤ R.frames ∧ 8 + (2 + 11) + 36 * d ≤ R.locals) : CallW R s args RX3 RX3 265 yX3_isFrozen cX3_isFrozen 2 (some .boolean) (.code yX3_isFrozen cX3_isFrozen 2 (some .boolean) :: AL) (rm d mc ms) mc ms 1 :=
  cwV 1 ht (g_V (al (List.mem_of_getElem? (i := 412) rfl) rfl) (al (List.mem_of_getElem? (i := 413) rfl) rfl) (al (List.mem_of_getElem? (i := 414) rfl) rfl) (al (List.mem_of_getElem? (i := 51) rfl) rfl) (al (List.mem_of_getElem? (i := 415) rfl) rfl)) rfl rfl rfl (by decide +kernel) hR
set_option maxRecDepth 20000 in
theorem cw_X3_X3_isThawed {d mc ms : Nat} {R : Room} {s : State} {args : Array Value} (ht : ∀ w ∈ AL, w.before args s = true) (hR : d + 1 ≤ R.frames ∧ 8 + (2 + 11) + 36 * d ≤ R.locals) : CallW R s args RX3 RX3 269 yX3_isThawed cX3_isThawed 2 (some .boolean) (.code yX3_isThawed cX3_isThawed 2 (some .boolean) :: AL) (rm d mc ms) mc ms 1 :=
  cwV 1 ht (g_V (al (List.mem_of_getElem? (i := 416) rfl) rfl) (al (List.mem_of_getElem? (i := 417) rfl) rfl) (al (List.mem_of_getElem? (i := 418) rfl) rfl) (al (List.mem_of_getElem? (i := 51) rfl) rfl) (al (List.mem_of_getElem? (i := 419) rfl) rfl)) rfl rfl rfl (by decide +kernel) hR
set_option maxRecDepth 20000 in
theorem cw_X3_X3_isKept {d mc ms : Nat} {R : Room} {s : State} {args : Array Value} (ht : ∀ w ∈ AL, w.before args s = true) (hR : d + 1 ≤ R.frames ∧ 8 + (2 + 11) + 36 * d ≤ R.locals) : CallW R s args RX3 RX3 272 yX3_isKept cX3_isKept 2 (some .boolean) (.code yX3_isKept cX3_isKept 2 (some .boolean) :: AL) (rm d mc ms) mc ms 1 :=
  cwV 1 ht (g_V (al (List.mem_of_getElem? (i := 421) rfl) rfl) (al (List.mem_of_getElem? (i := 422) rfl) rfl) (al (List.mem_of_getElem? (i := 423) rfl) rfl) (al (List.mem_of_getElem? (i := 51) rfl) rfl) (al (List.mem_of_getElem? (i := 424) rfl) rfl)) rfl rfl rfl (by decide +kernel) hR
set_option maxRecDepth 20000 in
theorem cw_X3_X3_isExpired {d mc ms : Nat} {R : Room} {s : State} {args : Array Value} (ht : ∀ w ∈ AL, w.before args s = true) (hR : d + 1 ≤ R.frames ∧ 8 + (2 + 11) + 36 * d ≤ R.locals) : CallW R s args RX3 RX3 275 yX3_isExpired cX3_isExpired 2 (some .boolean) (.code yX3_isExpired cX3_isExpired 2 (some .boolean) :: AL) (rm d mc ms) mc ms 1 :=
  cwV 1 ht (g_V (al (List.mem_of_getElem? (i := 425) rfl) rfl) (al (List.mem_of_getElem? (i := 426) rfl) rfl) (al (List.mem_of_getElem? (i := 427) rfl) rfl) (al (List.mem_of_getElem? (i := 51) rfl) rfl) (al (List.mem_of_getElem? (i := 428) rfl) rfl)) rfl rfl rfl (by decide +kernel) hR
set_option maxRecDepth 20000 in
theorem cw_X3_X3_owedBy {d mc ms : Nat} {R : Room} {s : State} {args : Array Value} (ht : ∀ w ∈ AL, w.before args s = true) (hR : d + 1 ≤ R.frames ∧ 8 + (7 + 11) + 36 * d ≤ R.locals) : CallW R s args RX3 RX3 278 yX3_owedBy cX3_owedBy 7 (some .int) (.code yX3_owedBy cX3_owedBy 7 (some .int) :: AL) (rm d mc ms) mc ms 1 :=
  cwV 1 ht (g_V (al (List.mem_of_getElem? (i := 433) rfl) rfl) (al (List.mem_of_getElem? (i := 434) rfl) rfl) (al (List.mem_of_getElem? (i := 435) rfl) rfl) (al (List.mem_of_getElem? (i := 51) rfl) rfl) (al (List.mem_of_getElem? (i := 436) rfl) rfl)) rfl rfl rfl (by decide +kernel) hR
set_option maxRecDepth 20000 in
theorem cw_X0_X0_drawNearTo {d mc ms : Nat} {R : Room} {s : State} {args : Array Value} (ht : ∀ w ∈ AL, w.before args s = true) (hR : d + 1 ≤ R.frames ∧ 8 + (4 + 11) + 36 * d ≤ R.locals) : CallW R s args RX0 RX0 43 yX0_drawNearTo cX0_drawNearTo 4 none (.code yX0_drawNearTo cX0_drawNearTo 4 none :: AL) (rm d mc ms) mc ms 1 :=
  cwV 1 ht (g_V (al (List.mem_of_getElem? (i := 310) rfl) rfl) (al (List.mem_of_getElem? (i := 312) rfl) rfl) (al (List.mem_of_getElem? (i := 10) rfl) rfl) (al (List.mem_of_getElem? (i := 53) rfl) rfl) (al (List.mem_of_getElem? (i := 313) rfl) rfl)) rfl rfl rfl (by decide +kernel) hR
set_option maxRecDepth 20000 in
theorem cw_X0_X0_leaveAs {d mc ms : Nat} {R : Room} {s : State} {args : Array Value} (ht : ∀ w ∈ AL, w.before args s = true) (hR : d + 1 ≤ R.frames ∧ 8 + (2 + 11) + 36 * d ≤ R.locals) : CallW R s args RX0 RX0 56 yX0_leaveAs cX0_leaveAs 2 none (.code yX0_leaveAs cX0_leaveAs 2 none :: AL) (rm d mc ms) mc ms 1 :=
  cwV 1 ht (g_V (al (List.mem_of_getElem? (i := 318) rfl) rfl) (al (List.mem_of_getElem? (i := 320) rfl) rfl) (al (List.mem_of_getElem? (i := 11) rfl) rfl) (al (List.mem_of_getElem? (i := 53) rfl) rfl) (al (List.mem_of_getElem? (i := 321) rfl) rfl)) rfl rfl rfl (by decide +kernel) hR
set_option maxRecDepth 20000 in
theorem cw_L_X3_make {d mc ms : Nat} {R : Room} {s : State} {args : Array Value} (ht : ∀ w ∈ AL, w.before args s = true) (hR : d + 1 ≤ R.frames ∧ 8 + (6 + 11) + 36 * d ≤ R.locals) : CallW R s args RL RX3 7 yX3_make cX3_make 6 (some .int) (.code yX3_make cX3_make 6 (some .int) :: AL) (rm d mc ms) mc ms 3 :=
  cwV 3 ht (g_V (al (List.mem_of_getElem? (i := 443) rfl) rfl) (al (List.mem_of_getElem? (i := 444) rfl) rfl) (al (List.mem_of_getElem? (i := 445) rfl) rfl) (al (List.mem_of_getElem? (i := 51) rfl) rfl) (al (List.mem_of_getElem? (i := 446) rfl) rfl)) rfl rfl rfl (by decide +kernel) hR
set_option maxRecDepth 20000 in
theorem cw_L_X3_move {d mc ms : Nat} {R : Room} {s : State} {args : Array Value} (ht : ∀ w ∈ AL, w.before args s = true) (hR : d + 1 ≤ R.frames ∧ 8 + (6 + 11) + 36 * d ≤ R.locals) : CallW R s args RL RX3 19 yX3_move cX3_move 6 (some .int) (.code yX3_move cX3_move 6 (some .int) :: AL) (rm d mc ms) mc ms 2 :=
  cwV 2 ht (g_V (al (List.mem_of_getElem? (i := 482) rfl) rfl) (al (List.mem_of_getElem? (i := 483) rfl) rfl) (al (List.mem_of_getElem? (i := 484) rfl) rfl) (al (List.mem_of_getElem? (i := 51) rfl) rfl) (al (List.mem_of_getElem? (i := 485) rfl) rfl)) rfl rfl rfl (by decide +kernel) hR
set_option maxRecDepth 20000 in
theorem cw_L_X3_keep {d mc ms : Nat} {R : Room} {s : State} {args : Array Value} (ht : ∀ w ∈ AL, w.before args s = true) (hR : d + 1 ≤ R.frames ∧ 8 + (4 + 11) + 36 * d ≤ R.locals) : CallW R s args RL RX3 23 yX3_keep cX3_keep 4 (some .int) (.code yX3_keep cX3_keep 4 (some .int) :: AL) (rm d mc ms) mc ms 1 :=
  cwV 1 ht (g_V (al (List.mem_of_getElem? (i := 492) rfl) rfl) (al (List.mem_of_getElem? (i := 493) rfl) rfl) (al (List.mem_of_getElem? (i := 494) rfl) rfl) (al (List.mem_of_getElem? (i := 51) rfl) rfl) (al (List.mem_of_getElem? (i := 495) rfl) rfl)) rfl rfl rfl (by decide +kernel) hR
set_option maxRecDepth 20000 in
theorem cw_L_X3_set {d mc ms : Nat} {R : Room} {s : State} {args : Array Value} (ht : ∀ w ∈ AL, w.before args s = true) (hR : d + 1 ≤ R.frames ∧ 8 + (5 + 11) + 36 * d ≤ R.locals) : CallW R s args RL RX3 27 yX3_set cX3_set 5 (some .int) (.code yX3_set cX3_set 5 (some .int) :: AL) (rm d mc ms) mc ms 2 :=
  cwV 2 ht (g_V (al (List.mem_of_getElem? (i := 500) rfl) rfl) (al (List.mem_of_getElem? (i := 501) rfl) rfl) (al (List.mem_of_getElem? (i := 502) rfl) rfl) (al (List.mem_of_getElem? (i := 51) rfl) rfl) (al (List.mem_of_getElem? (i := 503) rfl) rfl)) rfl rfl rfl (by decide +kernel) hR
set_option maxRecDepth 20000 in
theorem cw_L_X3_pass {d mc ms : Nat} {R : Room} {s : State} {args : Array Value} (ht : ∀ w ∈ AL, w.before args s = true) (hR : d + 1 ≤ R.frames ∧ 8 + (4 + 11) + 36 * d ≤ R.locals) : CallW R s args RL RX3 30 yX3_pass cX3_pass 4 (some .int) (.code yX3_pass cX3_pass 4 (some .int) :: AL) (rm d mc ms) mc ms 1 :=
  cwV 1 ht (g_V (al (List.mem_of_getElem? (i := 508) rfl) rfl) (al (List.mem_of_getElem? (i := 509) rfl) rfl) (al (List.mem_of_getElem? (i := 510) rfl) rfl) (al (List.mem_of_getElem? (i := 51) rfl) rfl) (al (List.mem_of_getElem? (i := 511) rfl) rfl)) rfl rfl rfl (by decide +kernel) hR
set_option maxRecDepth 20000 in
theorem cw_L_X3_settingOf {d mc ms : Nat} {R : Room} {s : State} {args : Array Value} (ht : ∀ w ∈ AL, w.before args s = true) (hR : d + 1 ≤ R.frames ∧ 8 + (2 + 11) + 36 * d ≤ R.locals) : CallW R s args RL RX3 33 yX3_settingOf cX3_settingOf 2 (some .int) (.code yX3_settingOf cX3_settingOf 2 (some .int) :: AL) (rm d mc ms) mc ms 1 :=
  cwV 1 ht (g_V (al (List.mem_of_getElem? (i := 523) rfl) rfl) (al (List.mem_of_getElem? (i := 367) rfl) rfl) (al (List.mem_of_getElem? (i := 368) rfl) rfl) (al (List.mem_of_getElem? (i := 51) rfl) rfl) (al (List.mem_of_getElem? (i := 369) rfl) rfl)) rfl rfl rfl (by decide +kernel) hR
set_option maxRecDepth 20000 in
theorem cw_L_X3_heatOn {d mc ms : Nat} {R : Room} {s : State} {args : Array Value} (ht : ∀ w ∈ AL, w.before args s = true) (hR : d + 1 ≤ R.frames ∧ 8 + (2 + 11) + 36 * d ≤ R.locals) : CallW R s args RL RX3 36 yX3_heatOn cX3_heatOn 2 (some .int) (.code yX3_heatOn cX3_heatOn 2 (some .int) :: AL) (rm d mc ms) mc ms 1 :=
  cwV 1 ht (g_V (al (List.mem_of_getElem? (i := 527) rfl) rfl) (al (List.mem_of_getElem? (i := 376) rfl) rfl) (al (List.mem_of_getElem? (i := 377) rfl) rfl) (al (List.mem_of_getElem? (i := 51) rfl) rfl) (al (List.mem_of_getElem? (i := 378) rfl) rfl)) rfl rfl rfl (by decide +kernel) hR
set_option maxRecDepth 20000 in
theorem cw_L_X3_promisesOn {d mc ms : Nat} {R : Room} {s : State} {args : Array Value} (ht : ∀ w ∈ AL, w.before args s = true) (hR : d + 1 ≤ R.frames ∧ 8 + (8 + 11) + 36 * d ≤ R.locals) : CallW R s args RL RX3 39 yX3_promisesOn cX3_promisesOn 8 (some .int) (.code yX3_promisesOn cX3_promisesOn 8 (some .int) :: AL) (rm d mc ms) mc ms 1 :=
  cwV 1 ht (g_V (al (List.mem_of_getElem? (i := 531) rfl) rfl) (al (List.mem_of_getElem? (i := 380) rfl) rfl) (al (List.mem_of_getElem? (i := 381) rfl) rfl) (al (List.mem_of_getElem? (i := 51) rfl) rfl) (al (List.mem_of_getElem? (i := 382) rfl) rfl)) rfl rfl rfl (by decide +kernel) hR
set_option maxRecDepth 20000 in
theorem cw_L_X3_makerOf {d mc ms : Nat} {R : Room} {s : State} {args : Array Value} (ht : ∀ w ∈ AL, w.before args s = true) (hR : d + 1 ≤ R.frames ∧ 8 + (2 + 11) + 36 * d ≤ R.locals) : CallW R s args RL RX3 42 yX3_makerOf cX3_makerOf 2 (some .int) (.code yX3_makerOf cX3_makerOf 2 (some .int) :: AL) (rm d mc ms) mc ms 1 :=
  cwV 1 ht (g_V (al (List.mem_of_getElem? (i := 535) rfl) rfl) (al (List.mem_of_getElem? (i := 388) rfl) rfl) (al (List.mem_of_getElem? (i := 389) rfl) rfl) (al (List.mem_of_getElem? (i := 51) rfl) rfl) (al (List.mem_of_getElem? (i := 390) rfl) rfl)) rfl rfl rfl (by decide +kernel) hR
set_option maxRecDepth 20000 in
theorem cw_L_X3_shelfOf {d mc ms : Nat} {R : Room} {s : State} {args : Array Value} (ht : ∀ w ∈ AL, w.before args s = true) (hR : d + 1 ≤ R.frames ∧ 8 + (3 + 11) + 36 * d ≤ R.locals) : CallW R s args RL RX3 45 yX3_shelfOf cX3_shelfOf 3 (some .int) (.code yX3_shelfOf cX3_shelfOf 3 (some .int) :: AL) (rm d mc ms) mc ms 1 :=
  cwV 1 ht (g_V (al (List.mem_of_getElem? (i := 539) rfl) rfl) (al (List.mem_of_getElem? (i := 397) rfl) rfl) (al (List.mem_of_getElem? (i := 398) rfl) rfl) (al (List.mem_of_getElem? (i := 51) rfl) rfl) (al (List.mem_of_getElem? (i := 399) rfl) rfl)) rfl rfl rfl (by decide +kernel) hR
set_option maxRecDepth 20000 in
theorem cw_L_X3_heatOf {d mc ms : Nat} {R : Room} {s : State} {args : Array Value} (ht : ∀ w ∈ AL, w.before args s = true) (hR : d + 1 ≤ R.frames ∧ 8 + (2 + 11) + 36 * d ≤ R.locals) : CallW R s args RL RX3 48 yX3_heatOf cX3_heatOf 2 (some .int) (.code yX3_heatOf cX3_heatOf 2 (some .int) :: AL) (rm d mc ms) mc ms 1 :=
  cwV 1 ht (g_V (al (List.mem_of_getElem? (i := 543) rfl) rfl) (al (List.mem_of_getElem? (i := 401) rfl) rfl) (al (List.mem_of_getElem? (i := 402) rfl) rfl) (al (List.mem_of_getElem? (i := 51) rfl) rfl) (al (List.mem_of_getElem? (i := 403) rfl) rfl)) rfl rfl rfl (by decide +kernel) hR
set_option maxRecDepth 20000 in
theorem cw_L_X3_ageOf {d mc ms : Nat} {R : Room} {s : State} {args : Array Value} (ht : ∀ w ∈ AL, w.before args s = true) (hR : d + 1 ≤ R.frames ∧ 8 + (2 + 11) + 36 * d ≤ R.locals) : CallW R s args RL RX3 51 yX3_ageOf cX3_ageOf 2 (some .int) (.code yX3_ageOf cX3_ageOf 2 (some .int) :: AL) (rm d mc ms) mc ms 1 :=
  cwV 1 ht (g_V (al (List.mem_of_getElem? (i := 547) rfl) rfl) (al (List.mem_of_getElem? (i := 405) rfl) rfl) (al (List.mem_of_getElem? (i := 406) rfl) rfl) (al (List.mem_of_getElem? (i := 51) rfl) rfl) (al (List.mem_of_getElem? (i := 407) rfl) rfl)) rfl rfl rfl (by decide +kernel) hR
set_option maxRecDepth 20000 in
theorem cw_L_X3_hoursLeft {d mc ms : Nat} {R : Room} {s : State} {args : Array Value} (ht : ∀ w ∈ AL, w.before args s = true) (hR : d + 1 ≤ R.frames ∧ 8 + (3 + 11) + 36 * d ≤ R.locals) : CallW R s args RL RX3 54 yX3_hoursLeft cX3_hoursLeft 3 (some .int) (.code yX3_hoursLeft cX3_hoursLeft 3 (some .int) :: AL) (rm d mc ms) mc ms 1 :=
  cwV 1 ht (g_V (al (List.mem_of_getElem? (i := 551) rfl) rfl) (al (List.mem_of_getElem? (i := 409) rfl) rfl) (al (List.mem_of_getElem? (i := 410) rfl) rfl) (al (List.mem_of_getElem? (i := 51) rfl) rfl) (al (List.mem_of_getElem? (i := 411) rfl) rfl)) rfl rfl rfl (by decide +kernel) hR
set_option maxRecDepth 20000 in
theorem cw_L_X3_isFrozen {d mc ms : Nat} {R : Room} {s : State} {args : Array Value} (ht : ∀ w ∈ AL, w.before args s = true) (hR : d + 1 ≤ R.frames ∧ 8 + (2 + 11) + 36 * d ≤ R.locals) : CallW R s args RL RX3 57 yX3_isFrozen cX3_isFrozen 2 (some .boolean) (.code yX3_isFrozen cX3_isFrozen 2 (some .boolean) :: AL) (rm d mc ms) mc ms 1 :=
  cwV 1 ht (g_V (al (List.mem_of_getElem? (i := 555) rfl) rfl) (al (List.mem_of_getElem? (i := 413) rfl) rfl) (al (List.mem_of_getElem? (i := 414) rfl) rfl) (al (List.mem_of_getElem? (i := 51) rfl) rfl) (al (List.mem_of_getElem? (i := 415) rfl) rfl)) rfl rfl rfl (by decide +kernel) hR
set_option maxRecDepth 20000 in
theorem cw_L_X3_isThawed {d mc ms : Nat} {R : Room} {s : State} {args : Array Value} (ht : ∀ w ∈ AL, w.before args s = true) (hR : d + 1 ≤ R.frames ∧ 8 + (2 + 11) + 36 * d ≤ R.locals) : CallW R s args RL RX3 61 yX3_isThawed cX3_isThawed 2 (some .boolean) (.code yX3_isThawed cX3_isThawed 2 (some .boolean) :: AL) (rm d mc ms) mc ms 1 :=
  cwV 1 ht (g_V (al (List.mem_of_getElem? (i := 559) rfl) rfl) (al (List.mem_of_getElem? (i := 417) rfl) rfl) (al (List.mem_of_getElem? (i := 418) rfl) rfl) (al (List.mem_of_getElem? (i := 51) rfl) rfl) (al (List.mem_of_getElem? (i := 419) rfl) rfl)) rfl rfl rfl (by decide +kernel) hR
set_option maxRecDepth 20000 in
theorem cw_L_X3_isKept {d mc ms : Nat} {R : Room} {s : State} {args : Array Value} (ht : ∀ w ∈ AL, w.before args s = true) (hR : d + 1 ≤ R.frames ∧ 8 + (2 + 11) + 36 * d ≤ R.locals) : CallW R s args RL RX3 64 yX3_isKept cX3_isKept 2 (some .boolean) (.code yX3_isKept cX3_isKept 2 (some .boolean) :: AL) (rm d mc ms) mc ms 1 :=
  cwV 1 ht (g_V (al (List.mem_of_getElem? (i := 563) rfl) rfl) (al (List.mem_of_getElem? (i := 422) rfl) rfl) (al (List.mem_of_getElem? (i := 423) rfl) rfl) (al (List.mem_of_getElem? (i := 51) rfl) rfl) (al (List.mem_of_getElem? (i := 424) rfl) rfl)) rfl rfl rfl (by decide +kernel) hR
set_option maxRecDepth 20000 in
theorem cw_L_X3_isExpired {d mc ms : Nat} {R : Room} {s : State} {args : Array Value} (ht : ∀ w ∈ AL, w.before args s = true) (hR : d + 1 ≤ R.frames ∧ 8 + (2 + 11) + 36 * d ≤ R.locals) : CallW R s args RL RX3 67 yX3_isExpired cX3_isExpired 2 (some .boolean) (.code yX3_isExpired cX3_isExpired 2 (some .boolean) :: AL) (rm d mc ms) mc ms 1 :=
  cwV 1 ht (g_V (al (List.mem_of_getElem? (i := 567) rfl) rfl) (al (List.mem_of_getElem? (i := 426) rfl) rfl) (al (List.mem_of_getElem? (i := 427) rfl) rfl) (al (List.mem_of_getElem? (i := 51) rfl) rfl) (al (List.mem_of_getElem? (i := 428) rfl) rfl)) rfl rfl rfl (by decide +kernel) hR
set_option maxRecDepth 20000 in
theorem cw_L_X3_owedBy {d mc ms : Nat} {R : Room} {s : State} {args : Array Value} (ht : ∀ w ∈ AL, w.before args s = true) (hR : d + 1 ≤ R.frames ∧ 8 + (7 + 11) + 36 * d ≤ R.locals) : CallW R s args RL RX3 70 yX3_owedBy cX3_owedBy 7 (some .int) (.code yX3_owedBy cX3_owedBy 7 (some .int) :: AL) (rm d mc ms) mc ms 1 :=
  cwV 1 ht (g_V (al (List.mem_of_getElem? (i := 571) rfl) rfl) (al (List.mem_of_getElem? (i := 434) rfl) rfl) (al (List.mem_of_getElem? (i := 435) rfl) rfl) (al (List.mem_of_getElem? (i := 51) rfl) rfl) (al (List.mem_of_getElem? (i := 436) rfl) rfl)) rfl rfl rfl (by decide +kernel) hR
set_option maxRecDepth 20000 in
theorem cw_L_X3_honourOf {d mc ms : Nat} {R : Room} {s : State} {args : Array Value} (ht : ∀ w ∈ AL, w.before args s = true) (hR : d + 1 ≤ R.frames ∧ 8 + (2 + 11) + 36 * d ≤ R.locals) : CallW R s args RL RX3 73 yX3_honourOf cX3_honourOf 2 (some .int) (.code yX3_honourOf cX3_honourOf 2 (some .int) :: AL) (rm d mc ms) mc ms 1 :=
  cwV 1 ht (g_V (al (List.mem_of_getElem? (i := 575) rfl) rfl) (al (List.mem_of_getElem? (i := 182) rfl) rfl) (al (List.mem_of_getElem? (i := 183) rfl) rfl) (al (List.mem_of_getElem? (i := 51) rfl) rfl) (al (List.mem_of_getElem? (i := 184) rfl) rfl)) rfl rfl rfl (by decide +kernel) hR
set_option maxRecDepth 20000 in
theorem cw_L_X3_hoursUntilFrozen {d mc ms : Nat} {R : Room} {s : State} {args : Array Value} (ht : ∀ w ∈ AL, w.before args s = true) (hR : d + 1 ≤ R.frames ∧ 8 + (2 + 11) + 36 * d ≤ R.locals) : CallW R s args RL RX3 76 yX3_hoursUntilFrozen cX3_hoursUntilFrozen 2 (some .int) (.code yX3_hoursUntilFrozen cX3_hoursUntilFrozen 2 (some .int) :: AL) (rm d mc ms) mc ms 1 :=
  cwV 1 ht (g_V (al (List.mem_of_getElem? (i := 579) rfl) rfl) (al (List.mem_of_getElem? (i := 580) rfl) rfl) (al (List.mem_of_getElem? (i := 581) rfl) rfl) (al (List.mem_of_getElem? (i := 51) rfl) rfl) (al (List.mem_of_getElem? (i := 582) rfl) rfl)) rfl rfl rfl (by decide +kernel) hR
set_option maxRecDepth 20000 in
theorem cw_L_X3_hoursUntilThawed {d mc ms : Nat} {R : Room} {s : State} {args : Array Value} (ht : ∀ w ∈ AL, w.before args s = true) (hR : d + 1 ≤ R.frames ∧ 8 + (2 + 11) + 36 * d ≤ R.locals) : CallW R s args RL RX3 79 yX3_hoursUntilThawed cX3_hoursUntilThawed 2 (some .int) (.code yX3_hoursUntilThawed cX3_hoursUntilThawed 2 (some .int) :: AL) (rm d mc ms) mc ms 1 :=
  cwV 1 ht (g_V (al (List.mem_of_getElem? (i := 590) rfl) rfl) (al (List.mem_of_getElem? (i := 591) rfl) rfl) (al (List.mem_of_getElem? (i := 592) rfl) rfl) (al (List.mem_of_getElem? (i := 51) rfl) rfl) (al (List.mem_of_getElem? (i := 593) rfl) rfl)) rfl rfl rfl (by decide +kernel) hR
set_option maxRecDepth 20000 in
theorem cw_L_X3_hoursUntilExpired {d mc ms : Nat} {R : Room} {s : State} {args : Array Value} (ht : ∀ w ∈ AL, w.before args s = true) (hR : d + 1 ≤ R.frames ∧ 8 + (2 + 11) + 36 * d ≤ R.locals) : CallW R s args RL RX3 82 yX3_hoursUntilExpired cX3_hoursUntilExpired 2 (some .int) (.code yX3_hoursUntilExpired cX3_hoursUntilExpired 2 (some .int) :: AL) (rm d mc ms) mc ms 1 :=
  cwV 1 ht (g_V (al (List.mem_of_getElem? (i := 597) rfl) rfl) (al (List.mem_of_getElem? (i := 598) rfl) rfl) (al (List.mem_of_getElem? (i := 599) rfl) rfl) (al (List.mem_of_getElem? (i := 51) rfl) rfl) (al (List.mem_of_getElem? (i := 600) rfl) rfl)) rfl rfl rfl (by decide +kernel) hR
set_option maxRecDepth 20000 in
theorem cw_L_X3_leftIn {d mc ms : Nat} {R : Room} {s : State} {args : Array Value} (ht : ∀ w ∈ AL, w.before args s = true) (hR : d + 1 ≤ R.frames ∧ 8 + (7 + 11) + 36 * d ≤ R.locals) : CallW R s args RL RX3 85 yX3_leftIn cX3_leftIn 7 (some .int) (.code yX3_leftIn cX3_leftIn 7 (some .int) :: AL) (rm d mc ms) mc ms 1 :=
  cwV 1 ht (g_V (al (List.mem_of_getElem? (i := 604) rfl) rfl) (al (List.mem_of_getElem? (i := 605) rfl) rfl) (al (List.mem_of_getElem? (i := 606) rfl) rfl) (al (List.mem_of_getElem? (i := 51) rfl) rfl) (al (List.mem_of_getElem? (i := 607) rfl) rfl)) rfl rfl rfl (by decide +kernel) hR
set_option maxRecDepth 20000 in
theorem cw_L_X4_make {d mc ms : Nat} {R : Room} {s : State} {args : Array Value} (ht : ∀ w ∈ AL, w.before args s = true) (hR : d + 1 ≤ R.frames ∧ 8 + (4 + 11) + 36 * d ≤ R.locals) : CallW R s args RL RX4 97 yX4_make cX4_make 4 (some .int) (.code yX4_make cX4_make 4 (some .int) :: AL) (rm d mc ms) mc ms 3 :=
  cwV 3 ht (g_V (al (List.mem_of_getElem? (i := 645) rfl) rfl) (al (List.mem_of_getElem? (i := 646) rfl) rfl) (al (List.mem_of_getElem? (i := 647) rfl) rfl) (al (List.mem_of_getElem? (i := 56) rfl) rfl) (al (List.mem_of_getElem? (i := 648) rfl) rfl)) rfl rfl rfl (by decide +kernel) hR
set_option maxRecDepth 20000 in
theorem cw_L_X4_thrown {d mc ms : Nat} {R : Room} {s : State} {args : Array Value} (ht : ∀ w ∈ AL, w.before args s = true) (hR : d + 1 ≤ R.frames ∧ 8 + (1 + 11) + 36 * d ≤ R.locals) : CallW R s args RL RX4 98 yX4_thrown cX4_thrown 1 (some .int) (.code yX4_thrown cX4_thrown 1 (some .int) :: AL) (rm d mc ms) mc ms 0 :=
  cwV 0 ht (g_V (al (List.mem_of_getElem? (i := 641) rfl) rfl) (al (List.mem_of_getElem? (i := 642) rfl) rfl) (al (List.mem_of_getElem? (i := 643) rfl) rfl) (al (List.mem_of_getElem? (i := 56) rfl) rfl) (al (List.mem_of_getElem? (i := 644) rfl) rfl)) rfl rfl rfl (by decide +kernel) hR
set_option maxRecDepth 20000 in
theorem cw_L_X4_move {d mc ms : Nat} {R : Room} {s : State} {args : Array Value} (ht : ∀ w ∈ AL, w.before args s = true) (hR : d + 1 ≤ R.frames ∧ 8 + (4 + 11) + 36 * d ≤ R.locals) : CallW R s args RL RX4 105 yX4_move cX4_move 4 (some .int) (.code yX4_move cX4_move 4 (some .int) :: AL) (rm d mc ms) mc ms 2 :=
  cwV 2 ht (g_V (al (List.mem_of_getElem? (i := 674) rfl) rfl) (al (List.mem_of_getElem? (i := 675) rfl) rfl) (al (List.mem_of_getElem? (i := 676) rfl) rfl) (al (List.mem_of_getElem? (i := 56) rfl) rfl) (al (List.mem_of_getElem? (i := 677) rfl) rfl)) rfl rfl rfl (by decide +kernel) hR
set_option maxRecDepth 20000 in
theorem cw_L_X4_keep {d mc ms : Nat} {R : Room} {s : State} {args : Array Value} (ht : ∀ w ∈ AL, w.before args s = true) (hR : d + 1 ≤ R.frames ∧ 8 + (2 + 11) + 36 * d ≤ R.locals) : CallW R s args RL RX4 109 yX4_keep cX4_keep 2 (some .int) (.code yX4_keep cX4_keep 2 (some .int) :: AL) (rm d mc ms) mc ms 1 :=
  cwV 1 ht (g_V (al (List.mem_of_getElem? (i := 682) rfl) rfl) (al (List.mem_of_getElem? (i := 683) rfl) rfl) (al (List.mem_of_getElem? (i := 684) rfl) rfl) (al (List.mem_of_getElem? (i := 56) rfl) rfl) (al (List.mem_of_getElem? (i := 685) rfl) rfl)) rfl rfl rfl (by decide +kernel) hR
set_option maxRecDepth 20000 in
theorem cw_L_X4_set {d mc ms : Nat} {R : Room} {s : State} {args : Array Value} (ht : ∀ w ∈ AL, w.before args s = true) (hR : d + 1 ≤ R.frames ∧ 8 + (4 + 11) + 36 * d ≤ R.locals) : CallW R s args RL RX4 112 yX4_set cX4_set 4 (some .int) (.code yX4_set cX4_set 4 (some .int) :: AL) (rm d mc ms) mc ms 2 :=
  cwV 2 ht (g_V (al (List.mem_of_getElem? (i := 694) rfl) rfl) (al (List.mem_of_getElem? (i := 695) rfl) rfl) (al (List.mem_of_getElem? (i := 696) rfl) rfl) (al (List.mem_of_getElem? (i := 56) rfl) rfl) (al (List.mem_of_getElem? (i := 697) rfl) rfl)) rfl rfl rfl (by decide +kernel) hR
set_option maxRecDepth 20000 in
theorem cw_L_X3_switchPower {d mc ms : Nat} {R : Room} {s : State} {args : Array Value} (ht : ∀ w ∈ AL, w.before args s = true) (hR : d + 1 ≤ R.frames ∧ 8 + (1 + 11) + 36 * d ≤ R.locals) : CallW R s args RL RX3 113 yX3_switchPower cX3_switchPower 1 (some .boolean) (.code yX3_switchPower cX3_switchPower 1 (some .boolean) :: AL) (rm d mc ms) mc ms 0 :=
  cwV 0 ht (g_V (al (List.mem_of_getElem? (i := 153) rfl) rfl) (al (List.mem_of_getElem? (i := 154) rfl) rfl) (al (List.mem_of_getElem? (i := 155) rfl) rfl) (al (List.mem_of_getElem? (i := 51) rfl) rfl) (al (List.mem_of_getElem? (i := 156) rfl) rfl)) rfl rfl rfl (by decide +kernel) hR
set_option maxRecDepth 20000 in
theorem cw_L_X4_switchPower {d mc ms : Nat} {R : Room} {s : State} {args : Array Value} (ht : ∀ w ∈ AL, w.before args s = true) (hR : d + 1 ≤ R.frames ∧ 8 + (1 + 11) + 36 * d ≤ R.locals) : CallW R s args RL RX4 117 yX4_switchPower cX4_switchPower 1 (some .boolean) (.code yX4_switchPower cX4_switchPower 1 (some .boolean) :: AL) (rm d mc ms) mc ms 0 :=
  cwV 0 ht (g_V (al (List.mem_of_getElem? (i := 698) rfl) rfl) (al (List.mem_of_getElem? (i := 699) rfl) rfl) (al (List.mem_of_getElem? (i := 700) rfl) rfl) (al (List.mem_of_getElem? (i := 56) rfl) rfl) (al (List.mem_of_getElem? (i := 701) rfl) rfl)) rfl rfl rfl (by decide +kernel) hR
set_option maxRecDepth 20000 in
theorem cw_L_X4_pass {d mc ms : Nat} {R : Room} {s : State} {args : Array Value} (ht : ∀ w ∈ AL, w.before args s = true) (hR : d + 1 ≤ R.frames ∧ 8 + (2 + 11) + 36 * d ≤ R.locals) : CallW R s args RL RX4 120 yX4_pass cX4_pass 2 (some .int) (.code yX4_pass cX4_pass 2 (some .int) :: AL) (rm d mc ms) mc ms 1 :=
  cwV 1 ht (g_V (al (List.mem_of_getElem? (i := 702) rfl) rfl) (al (List.mem_of_getElem? (i := 703) rfl) rfl) (al (List.mem_of_getElem? (i := 704) rfl) rfl) (al (List.mem_of_getElem? (i := 56) rfl) rfl) (al (List.mem_of_getElem? (i := 705) rfl) rfl)) rfl rfl rfl (by decide +kernel) hR
set_option maxRecDepth 20000 in
theorem cw_L_X3_hour {d mc ms : Nat} {R : Room} {s : State} {args : Array Value} (ht : ∀ w ∈ AL, w.before args s = true) (hR : d + 1 ≤ R.frames ∧ 8 + (1 + 11) + 36 * d ≤ R.locals) : CallW R s args RL RX3 121 yX3_hour cX3_hour 1 (some .int) (.code yX3_hour cX3_hour 1 (some .int) :: AL) (rm d mc ms) mc ms 0 :=
  cwV 0 ht (g_V (al (List.mem_of_getElem? (i := 157) rfl) rfl) (al (List.mem_of_getElem? (i := 158) rfl) rfl) (al (List.mem_of_getElem? (i := 159) rfl) rfl) (al (List.mem_of_getElem? (i := 51) rfl) rfl) (al (List.mem_of_getElem? (i := 160) rfl) rfl)) rfl rfl rfl (by decide +kernel) hR
set_option maxRecDepth 20000 in
theorem cw_L_X4_hour {d mc ms : Nat} {R : Room} {s : State} {args : Array Value} (ht : ∀ w ∈ AL, w.before args s = true) (hR : d + 1 ≤ R.frames ∧ 8 + (1 + 11) + 36 * d ≤ R.locals) : CallW R s args RL RX4 124 yX4_hour cX4_hour 1 (some .int) (.code yX4_hour cX4_hour 1 (some .int) :: AL) (rm d mc ms) mc ms 0 :=
  cwV 0 ht (g_V (al (List.mem_of_getElem? (i := 733) rfl) rfl) (al (List.mem_of_getElem? (i := 734) rfl) rfl) (al (List.mem_of_getElem? (i := 735) rfl) rfl) (al (List.mem_of_getElem? (i := 56) rfl) rfl) (al (List.mem_of_getElem? (i := 736) rfl) rfl)) rfl rfl rfl (by decide +kernel) hR
set_option maxRecDepth 20000 in
theorem cw_L_X3_hasPower {d mc ms : Nat} {R : Room} {s : State} {args : Array Value} (ht : ∀ w ∈ AL, w.before args s = true) (hR : d + 1 ≤ R.frames ∧ 8 + (1 + 11) + 36 * d ≤ R.locals) : CallW R s args RL RX3 125 yX3_hasPower cX3_hasPower 1 (some .boolean) (.code yX3_hasPower cX3_hasPower 1 (some .boolean) :: AL) (rm d mc ms) mc ms 0 :=
  cwV 0 ht (g_V (al (List.mem_of_getElem? (i := 161) rfl) rfl) (al (List.mem_of_getElem? (i := 162) rfl) rfl) (al (List.mem_of_getElem? (i := 163) rfl) rfl) (al (List.mem_of_getElem? (i := 51) rfl) rfl) (al (List.mem_of_getElem? (i := 164) rfl) rfl)) rfl rfl rfl (by decide +kernel) hR
set_option maxRecDepth 20000 in
theorem cw_L_X4_hasPower {d mc ms : Nat} {R : Room} {s : State} {args : Array Value} (ht : ∀ w ∈ AL, w.before args s = true) (hR : d + 1 ≤ R.frames ∧ 8 + (1 + 11) + 36 * d ≤ R.locals) : CallW R s args RL RX4 128 yX4_hasPower cX4_hasPower 1 (some .boolean) (.code yX4_hasPower cX4_hasPower 1 (some .boolean) :: AL) (rm d mc ms) mc ms 0 :=
  cwV 0 ht (g_V (al (List.mem_of_getElem? (i := 741) rfl) rfl) (al (List.mem_of_getElem? (i := 742) rfl) rfl) (al (List.mem_of_getElem? (i := 743) rfl) rfl) (al (List.mem_of_getElem? (i := 56) rfl) rfl) (al (List.mem_of_getElem? (i := 744) rfl) rfl)) rfl rfl rfl (by decide +kernel) hR
set_option maxRecDepth 20000 in
theorem cw_L_X4_settingOf {d mc ms : Nat} {R : Room} {s : State} {args : Array Value} (ht : ∀ w ∈ AL, w.before args s = true) (hR : d + 1 ≤ R.frames ∧ 8 + (2 + 11) + 36 * d ≤ R.locals) : CallW R s args RL RX4 131 yX4_settingOf cX4_settingOf 2 (some .int) (.code yX4_settingOf cX4_settingOf 2 (some .int) :: AL) (rm d mc ms) mc ms 1 :=
  cwV 1 ht (g_V (al (List.mem_of_getElem? (i := 745) rfl) rfl) (al (List.mem_of_getElem? (i := 746) rfl) rfl) (al (List.mem_of_getElem? (i := 747) rfl) rfl) (al (List.mem_of_getElem? (i := 56) rfl) rfl) (al (List.mem_of_getElem? (i := 748) rfl) rfl)) rfl rfl rfl (by decide +kernel) hR
set_option maxRecDepth 20000 in
theorem cw_L_X4_heatOn {d mc ms : Nat} {R : Room} {s : State} {args : Array Value} (ht : ∀ w ∈ AL, w.before args s = true) (hR : d + 1 ≤ R.frames ∧ 8 + (2 + 11) + 36 * d ≤ R.locals) : CallW R s args RL RX4 134 yX4_heatOn cX4_heatOn 2 (some .int) (.code yX4_heatOn cX4_heatOn 2 (some .int) :: AL) (rm d mc ms) mc ms 1 :=
  cwV 1 ht (g_V (al (List.mem_of_getElem? (i := 753) rfl) rfl) (al (List.mem_of_getElem? (i := 754) rfl) rfl) (al (List.mem_of_getElem? (i := 755) rfl) rfl) (al (List.mem_of_getElem? (i := 56) rfl) rfl) (al (List.mem_of_getElem? (i := 756) rfl) rfl)) rfl rfl rfl (by decide +kernel) hR
set_option maxRecDepth 20000 in
theorem cw_L_X4_promisesOn {d mc ms : Nat} {R : Room} {s : State} {args : Array Value} (ht : ∀ w ∈ AL, w.before args s = true) (hR : d + 1 ≤ R.frames ∧ 8 + (2 + 11) + 36 * d ≤ R.locals) : CallW R s args RL RX4 137 yX4_promisesOn cX4_promisesOn 2 (some .int) (.code yX4_promisesOn cX4_promisesOn 2 (some .int) :: AL) (rm d mc ms) mc ms 1 :=
  cwV 1 ht (g_V (al (List.mem_of_getElem? (i := 757) rfl) rfl) (al (List.mem_of_getElem? (i := 758) rfl) rfl) (al (List.mem_of_getElem? (i := 759) rfl) rfl) (al (List.mem_of_getElem? (i := 56) rfl) rfl) (al (List.mem_of_getElem? (i := 760) rfl) rfl)) rfl rfl rfl (by decide +kernel) hR
set_option maxRecDepth 20000 in
theorem cw_L_X3_coldest {d mc ms : Nat} {R : Room} {s : State} {args : Array Value} (ht : ∀ w ∈ AL, w.before args s = true) (hR : d + 1 ≤ R.frames ∧ 8 + (3 + 11) + 36 * d ≤ R.locals) : CallW R s args RL RX3 138 yX3_coldest cX3_coldest 3 (some .int) (.code yX3_coldest cX3_coldest 3 (some .int) :: AL) (rm d mc ms) mc ms 0 :=
  cwV 0 ht (g_V (al (List.mem_of_getElem? (i := 165) rfl) rfl) (al (List.mem_of_getElem? (i := 166) rfl) rfl) (al (List.mem_of_getElem? (i := 167) rfl) rfl) (al (List.mem_of_getElem? (i := 51) rfl) rfl) (al (List.mem_of_getElem? (i := 168) rfl) rfl)) rfl rfl rfl (by decide +kernel) hR
set_option maxRecDepth 20000 in
theorem cw_L_X4_coldest {d mc ms : Nat} {R : Room} {s : State} {args : Array Value} (ht : ∀ w ∈ AL, w.before args s = true) (hR : d + 1 ≤ R.frames ∧ 8 + (1 + 11) + 36 * d ≤ R.locals) : CallW R s args RL RX4 141 yX4_coldest cX4_coldest 1 (some .int) (.code yX4_coldest cX4_coldest 1 (some .int) :: AL) (rm d mc ms) mc ms 0 :=
  cwV 0 ht (g_V (al (List.mem_of_getElem? (i := 765) rfl) rfl) (al (List.mem_of_getElem? (i := 766) rfl) rfl) (al (List.mem_of_getElem? (i := 767) rfl) rfl) (al (List.mem_of_getElem? (i := 56) rfl) rfl) (al (List.mem_of_getElem? (i := 768) rfl) rfl)) rfl rfl rfl (by decide +kernel) hR
set_option maxRecDepth 20000 in
theorem cw_L_X3_alarms {d mc ms : Nat} {R : Room} {s : State} {args : Array Value} (ht : ∀ w ∈ AL, w.before args s = true) (hR : d + 1 ≤ R.frames ∧ 8 + (1 + 11) + 36 * d ≤ R.locals) : CallW R s args RL RX3 142 yX3_alarms cX3_alarms 1 (some .int) (.code yX3_alarms cX3_alarms 1 (some .int) :: AL) (rm d mc ms) mc ms 0 :=
  cwV 0 ht (g_V (al (List.mem_of_getElem? (i := 169) rfl) rfl) (al (List.mem_of_getElem? (i := 170) rfl) rfl) (al (List.mem_of_getElem? (i := 171) rfl) rfl) (al (List.mem_of_getElem? (i := 51) rfl) rfl) (al (List.mem_of_getElem? (i := 172) rfl) rfl)) rfl rfl rfl (by decide +kernel) hR
set_option maxRecDepth 20000 in
theorem cw_L_X4_alarms {d mc ms : Nat} {R : Room} {s : State} {args : Array Value} (ht : ∀ w ∈ AL, w.before args s = true) (hR : d + 1 ≤ R.frames ∧ 8 + (1 + 11) + 36 * d ≤ R.locals) : CallW R s args RL RX4 145 yX4_alarms cX4_alarms 1 (some .int) (.code yX4_alarms cX4_alarms 1 (some .int) :: AL) (rm d mc ms) mc ms 0 :=
  cwV 0 ht (g_V (al (List.mem_of_getElem? (i := 773) rfl) rfl) (al (List.mem_of_getElem? (i := 774) rfl) rfl) (al (List.mem_of_getElem? (i := 775) rfl) rfl) (al (List.mem_of_getElem? (i := 56) rfl) rfl) (al (List.mem_of_getElem? (i := 776) rfl) rfl)) rfl rfl rfl (by decide +kernel) hR
set_option maxRecDepth 20000 in
theorem cw_L_X3_promises {d mc ms : Nat} {R : Room} {s : State} {args : Array Value} (ht : ∀ w ∈ AL, w.before args s = true) (hR : d + 1 ≤ R.frames ∧ 8 + (1 + 11) + 36 * d ≤ R.locals) : CallW R s args RL RX3 146 yX3_promises cX3_promises 1 (some .int) (.code yX3_promises cX3_promises 1 (some .int) :: AL) (rm d mc ms) mc ms 0 :=
  cwV 0 ht (g_V (al (List.mem_of_getElem? (i := 173) rfl) rfl) (al (List.mem_of_getElem? (i := 174) rfl) rfl) (al (List.mem_of_getElem? (i := 175) rfl) rfl) (al (List.mem_of_getElem? (i := 51) rfl) rfl) (al (List.mem_of_getElem? (i := 176) rfl) rfl)) rfl rfl rfl (by decide +kernel) hR
set_option maxRecDepth 20000 in
theorem cw_L_X4_promises {d mc ms : Nat} {R : Room} {s : State} {args : Array Value} (ht : ∀ w ∈ AL, w.before args s = true) (hR : d + 1 ≤ R.frames ∧ 8 + (1 + 11) + 36 * d ≤ R.locals) : CallW R s args RL RX4 149 yX4_promises cX4_promises 1 (some .int) (.code yX4_promises cX4_promises 1 (some .int) :: AL) (rm d mc ms) mc ms 0 :=
  cwV 0 ht (g_V (al (List.mem_of_getElem? (i := 777) rfl) rfl) (al (List.mem_of_getElem? (i := 778) rfl) rfl) (al (List.mem_of_getElem? (i := 779) rfl) rfl) (al (List.mem_of_getElem? (i := 56) rfl) rfl) (al (List.mem_of_getElem? (i := 780) rfl) rfl)) rfl rfl rfl (by decide +kernel) hR
set_option maxRecDepth 20000 in
theorem cw_L_X4_makerOf {d mc ms : Nat} {R : Room} {s : State} {args : Array Value} (ht : ∀ w ∈ AL, w.before args s = true) (hR : d + 1 ≤ R.frames ∧ 8 + (2 + 11) + 36 * d ≤ R.locals) : CallW R s args RL RX4 152 yX4_makerOf cX4_makerOf 2 (some .int) (.code yX4_makerOf cX4_makerOf 2 (some .int) :: AL) (rm d mc ms) mc ms 1 :=
  cwV 1 ht (g_V (al (List.mem_of_getElem? (i := 781) rfl) rfl) (al (List.mem_of_getElem? (i := 782) rfl) rfl) (al (List.mem_of_getElem? (i := 783) rfl) rfl) (al (List.mem_of_getElem? (i := 56) rfl) rfl) (al (List.mem_of_getElem? (i := 784) rfl) rfl)) rfl rfl rfl (by decide +kernel) hR
set_option maxRecDepth 20000 in
theorem cw_L_X4_shelfOf {d mc ms : Nat} {R : Room} {s : State} {args : Array Value} (ht : ∀ w ∈ AL, w.before args s = true) (hR : d + 1 ≤ R.frames ∧ 8 + (2 + 11) + 36 * d ≤ R.locals) : CallW R s args RL RX4 155 yX4_shelfOf cX4_shelfOf 2 (some .int) (.code yX4_shelfOf cX4_shelfOf 2 (some .int) :: AL) (rm d mc ms) mc ms 1 :=
  cwV 1 ht (g_V (al (List.mem_of_getElem? (i := 785) rfl) rfl) (al (List.mem_of_getElem? (i := 786) rfl) rfl) (al (List.mem_of_getElem? (i := 787) rfl) rfl) (al (List.mem_of_getElem? (i := 56) rfl) rfl) (al (List.mem_of_getElem? (i := 788) rfl) rfl)) rfl rfl rfl (by decide +kernel) hR
set_option maxRecDepth 20000 in
theorem cw_L_X4_heatOf {d mc ms : Nat} {R : Room} {s : State} {args : Array Value} (ht : ∀ w ∈ AL, w.before args s = true) (hR : d + 1 ≤ R.frames ∧ 8 + (2 + 11) + 36 * d ≤ R.locals) : CallW R s args RL RX4 158 yX4_heatOf cX4_heatOf 2 (some .int) (.code yX4_heatOf cX4_heatOf 2 (some .int) :: AL) (rm d mc ms) mc ms 1 :=
  cwV 1 ht (g_V (al (List.mem_of_getElem? (i := 793) rfl) rfl) (al (List.mem_of_getElem? (i := 794) rfl) rfl) (al (List.mem_of_getElem? (i := 795) rfl) rfl) (al (List.mem_of_getElem? (i := 56) rfl) rfl) (al (List.mem_of_getElem? (i := 796) rfl) rfl)) rfl rfl rfl (by decide +kernel) hR
set_option maxRecDepth 20000 in
theorem cw_L_X4_ageOf {d mc ms : Nat} {R : Room} {s : State} {args : Array Value} (ht : ∀ w ∈ AL, w.before args s = true) (hR : d + 1 ≤ R.frames ∧ 8 + (2 + 11) + 36 * d ≤ R.locals) : CallW R s args RL RX4 161 yX4_ageOf cX4_ageOf 2 (some .int) (.code yX4_ageOf cX4_ageOf 2 (some .int) :: AL) (rm d mc ms) mc ms 1 :=
  cwV 1 ht (g_V (al (List.mem_of_getElem? (i := 797) rfl) rfl) (al (List.mem_of_getElem? (i := 798) rfl) rfl) (al (List.mem_of_getElem? (i := 799) rfl) rfl) (al (List.mem_of_getElem? (i := 56) rfl) rfl) (al (List.mem_of_getElem? (i := 800) rfl) rfl)) rfl rfl rfl (by decide +kernel) hR
set_option maxRecDepth 20000 in
theorem cw_L_X4_hoursLeft {d mc ms : Nat} {R : Room} {s : State} {args : Array Value} (ht : ∀ w ∈ AL, w.before args s = true) (hR : d + 1 ≤ R.frames ∧ 8 + (2 + 11) + 36 * d ≤ R.locals) : CallW R s args RL RX4 164 yX4_hoursLeft cX4_hoursLeft 2 (some .int) (.code yX4_hoursLeft cX4_hoursLeft 2 (some .int) :: AL) (rm d mc ms) mc ms 1 :=
  cwV 1 ht (g_V (al (List.mem_of_getElem? (i := 801) rfl) rfl) (al (List.mem_of_getElem? (i := 802) rfl) rfl) (al (List.mem_of_getElem? (i := 803) rfl) rfl) (al (List.mem_of_getElem? (i := 56) rfl) rfl) (al (List.mem_of_getElem? (i := 804) rfl) rfl)) rfl rfl rfl (by decide +kernel) hR
set_option maxRecDepth 20000 in
theorem cw_L_X4_isFrozen {d mc ms : Nat} {R : Room} {s : State} {args : Array Value} (ht : ∀ w ∈ AL, w.before args s = true) (hR : d + 1 ≤ R.frames ∧ 8 + (2 + 11) + 36 * d ≤ R.locals) : CallW R s args RL RX4 167 yX4_isFrozen cX4_isFrozen 2 (some .boolean) (.code yX4_isFrozen cX4_isFrozen 2 (some .boolean) :: AL) (rm d mc ms) mc ms 1 :=
  cwV 1 ht (g_V (al (List.mem_of_getElem? (i := 805) rfl) rfl) (al (List.mem_of_getElem? (i := 806) rfl) rfl) (al (List.mem_of_getElem? (i := 807) rfl) rfl) (al (List.mem_of_getElem? (i := 56) rfl) rfl) (al (List.mem_of_getElem? (i := 808) rfl) rfl)) rfl rfl rfl (by decide +kernel) hR
set_option maxRecDepth 20000 in
theorem cw_L_X4_isThawed {d mc ms : Nat} {R : Room} {s : State} {args : Array Value} (ht : ∀ w ∈ AL, w.before args s = true) (hR : d + 1 ≤ R.frames ∧ 8 + (2 + 11) + 36 * d ≤ R.locals) : CallW R s args RL RX4 170 yX4_isThawed cX4_isThawed 2 (some .boolean) (.code yX4_isThawed cX4_isThawed 2 (some .boolean) :: AL) (rm d mc ms) mc ms 1 :=
  cwV 1 ht (g_V (al (List.mem_of_getElem? (i := 817) rfl) rfl) (al (List.mem_of_getElem? (i := 818) rfl) rfl) (al (List.mem_of_getElem? (i := 819) rfl) rfl) (al (List.mem_of_getElem? (i := 56) rfl) rfl) (al (List.mem_of_getElem? (i := 820) rfl) rfl)) rfl rfl rfl (by decide +kernel) hR
set_option maxRecDepth 20000 in
theorem cw_L_X4_isKept {d mc ms : Nat} {R : Room} {s : State} {args : Array Value} (ht : ∀ w ∈ AL, w.before args s = true) (hR : d + 1 ≤ R.frames ∧ 8 + (2 + 11) + 36 * d ≤ R.locals) : CallW R s args RL RX4 173 yX4_isKept cX4_isKept 2 (some .boolean) (.code yX4_isKept cX4_isKept 2 (some .boolean) :: AL) (rm d mc ms) mc ms 1 :=
  cwV 1 ht (g_V (al (List.mem_of_getElem? (i := 821) rfl) rfl) (al (List.mem_of_getElem? (i := 822) rfl) rfl) (al (List.mem_of_getElem? (i := 823) rfl) rfl) (al (List.mem_of_getElem? (i := 56) rfl) rfl) (al (List.mem_of_getElem? (i := 824) rfl) rfl)) rfl rfl rfl (by decide +kernel) hR
set_option maxRecDepth 20000 in
theorem cw_L_X4_isExpired {d mc ms : Nat} {R : Room} {s : State} {args : Array Value} (ht : ∀ w ∈ AL, w.before args s = true) (hR : d + 1 ≤ R.frames ∧ 8 + (2 + 11) + 36 * d ≤ R.locals) : CallW R s args RL RX4 176 yX4_isExpired cX4_isExpired 2 (some .boolean) (.code yX4_isExpired cX4_isExpired 2 (some .boolean) :: AL) (rm d mc ms) mc ms 1 :=
  cwV 1 ht (g_V (al (List.mem_of_getElem? (i := 825) rfl) rfl) (al (List.mem_of_getElem? (i := 826) rfl) rfl) (al (List.mem_of_getElem? (i := 827) rfl) rfl) (al (List.mem_of_getElem? (i := 56) rfl) rfl) (al (List.mem_of_getElem? (i := 828) rfl) rfl)) rfl rfl rfl (by decide +kernel) hR
set_option maxRecDepth 20000 in
theorem cw_L_X4_owedBy {d mc ms : Nat} {R : Room} {s : State} {args : Array Value} (ht : ∀ w ∈ AL, w.before args s = true) (hR : d + 1 ≤ R.frames ∧ 8 + (2 + 11) + 36 * d ≤ R.locals) : CallW R s args RL RX4 179 yX4_owedBy cX4_owedBy 2 (some .int) (.code yX4_owedBy cX4_owedBy 2 (some .int) :: AL) (rm d mc ms) mc ms 1 :=
  cwV 1 ht (g_V (al (List.mem_of_getElem? (i := 829) rfl) rfl) (al (List.mem_of_getElem? (i := 830) rfl) rfl) (al (List.mem_of_getElem? (i := 831) rfl) rfl) (al (List.mem_of_getElem? (i := 56) rfl) rfl) (al (List.mem_of_getElem? (i := 832) rfl) rfl)) rfl rfl rfl (by decide +kernel) hR
set_option maxRecDepth 20000 in
theorem cw_L_X4_honourOf {d mc ms : Nat} {R : Room} {s : State} {args : Array Value} (ht : ∀ w ∈ AL, w.before args s = true) (hR : d + 1 ≤ R.frames ∧ 8 + (2 + 11) + 36 * d ≤ R.locals) : CallW R s args RL RX4 182 yX4_honourOf cX4_honourOf 2 (some .int) (.code yX4_honourOf cX4_honourOf 2 (some .int) :: AL) (rm d mc ms) mc ms 1 :=
  cwV 1 ht (g_V (al (List.mem_of_getElem? (i := 837) rfl) rfl) (al (List.mem_of_getElem? (i := 838) rfl) rfl) (al (List.mem_of_getElem? (i := 839) rfl) rfl) (al (List.mem_of_getElem? (i := 56) rfl) rfl) (al (List.mem_of_getElem? (i := 840) rfl) rfl)) rfl rfl rfl (by decide +kernel) hR
set_option maxRecDepth 20000 in
theorem cw_L_X3_mostHonourable {d mc ms : Nat} {R : Room} {s : State} {args : Array Value} (ht : ∀ w ∈ AL, w.before args s = true) (hR : d + 1 ≤ R.frames ∧ 8 + (3 + 11) + 36 * d ≤ R.locals) : CallW R s args RL RX3 183 yX3_mostHonourable cX3_mostHonourable 3 (some .int) (.code yX3_mostHonourable cX3_mostHonourable 3 (some .int) :: AL) (rm d mc ms) mc ms 0 :=
  cwV 0 ht (g_V (al (List.mem_of_getElem? (i := 177) rfl) rfl) (al (List.mem_of_getElem? (i := 178) rfl) rfl) (al (List.mem_of_getElem? (i := 179) rfl) rfl) (al (List.mem_of_getElem? (i := 51) rfl) rfl) (al (List.mem_of_getElem? (i := 180) rfl) rfl)) rfl rfl rfl (by decide +kernel) hR
set_option maxRecDepth 20000 in
theorem cw_L_X4_mostHonourable {d mc ms : Nat} {R : Room} {s : State} {args : Array Value} (ht : ∀ w ∈ AL, w.before args s = true) (hR : d + 1 ≤ R.frames ∧ 8 + (1 + 11) + 36 * d ≤ R.locals) : CallW R s args RL RX4 186 yX4_mostHonourable cX4_mostHonourable 1 (some .int) (.code yX4_mostHonourable cX4_mostHonourable 1 (some .int) :: AL) (rm d mc ms) mc ms 0 :=
  cwV 0 ht (g_V (al (List.mem_of_getElem? (i := 845) rfl) rfl) (al (List.mem_of_getElem? (i := 846) rfl) rfl) (al (List.mem_of_getElem? (i := 847) rfl) rfl) (al (List.mem_of_getElem? (i := 56) rfl) rfl) (al (List.mem_of_getElem? (i := 848) rfl) rfl)) rfl rfl rfl (by decide +kernel) hR
set_option maxRecDepth 20000 in
theorem cw_L_X4_hoursUntilFrozen {d mc ms : Nat} {R : Room} {s : State} {args : Array Value} (ht : ∀ w ∈ AL, w.before args s = true) (hR : d + 1 ≤ R.frames ∧ 8 + (2 + 11) + 36 * d ≤ R.locals) : CallW R s args RL RX4 189 yX4_hoursUntilFrozen cX4_hoursUntilFrozen 2 (some .int) (.code yX4_hoursUntilFrozen cX4_hoursUntilFrozen 2 (some .int) :: AL) (rm d mc ms) mc ms 1 :=
  cwV 1 ht (g_V (al (List.mem_of_getElem? (i := 853) rfl) rfl) (al (List.mem_of_getElem? (i := 854) rfl) rfl) (al (List.mem_of_getElem? (i := 855) rfl) rfl) (al (List.mem_of_getElem? (i := 56) rfl) rfl) (al (List.mem_of_getElem? (i := 856) rfl) rfl)) rfl rfl rfl (by decide +kernel) hR
set_option maxRecDepth 20000 in
theorem cw_L_X4_hoursUntilThawed {d mc ms : Nat} {R : Room} {s : State} {args : Array Value} (ht : ∀ w ∈ AL, w.before args s = true) (hR : d + 1 ≤ R.frames ∧ 8 + (2 + 11) + 36 * d ≤ R.locals) : CallW R s args RL RX4 192 yX4_hoursUntilThawed cX4_hoursUntilThawed 2 (some .int) (.code yX4_hoursUntilThawed cX4_hoursUntilThawed 2 (some .int) :: AL) (rm d mc ms) mc ms 1 :=
  cwV 1 ht (g_V (al (List.mem_of_getElem? (i := 872) rfl) rfl) (al (List.mem_of_getElem? (i := 873) rfl) rfl) (al (List.mem_of_getElem? (i := 874) rfl) rfl) (al (List.mem_of_getElem? (i := 56) rfl) rfl) (al (List.mem_of_getElem? (i := 875) rfl) rfl)) rfl rfl rfl (by decide +kernel) hR
set_option maxRecDepth 20000 in
theorem cw_L_X4_hoursUntilExpired {d mc ms : Nat} {R : Room} {s : State} {args : Array Value} (ht : ∀ w ∈ AL, w.before args s = true) (hR : d + 1 ≤ R.frames ∧ 8 + (2 + 11) + 36 * d ≤ R.locals) : CallW R s args RL RX4 195 yX4_hoursUntilExpired cX4_hoursUntilExpired 2 (some .int) (.code yX4_hoursUntilExpired cX4_hoursUntilExpired 2 (some .int) :: AL) (rm d mc ms) mc ms 1 :=
  cwV 1 ht (g_V (al (List.mem_of_getElem? (i := 876) rfl) rfl) (al (List.mem_of_getElem? (i := 877) rfl) rfl) (al (List.mem_of_getElem? (i := 878) rfl) rfl) (al (List.mem_of_getElem? (i := 56) rfl) rfl) (al (List.mem_of_getElem? (i := 879) rfl) rfl)) rfl rfl rfl (by decide +kernel) hR
set_option maxRecDepth 20000 in
theorem cw_L_X4_leftIn {d mc ms : Nat} {R : Room} {s : State} {args : Array Value} (ht : ∀ w ∈ AL, w.before args s = true) (hR : d + 1 ≤ R.frames ∧ 8 + (4 + 11) + 36 * d ≤ R.locals) : CallW R s args RL RX4 198 yX4_leftIn cX4_leftIn 4 (some .int) (.code yX4_leftIn cX4_leftIn 4 (some .int) :: AL) (rm d mc ms) mc ms 1 :=
  cwV 1 ht (g_V (al (List.mem_of_getElem? (i := 880) rfl) rfl) (al (List.mem_of_getElem? (i := 881) rfl) rfl) (al (List.mem_of_getElem? (i := 882) rfl) rfl) (al (List.mem_of_getElem? (i := 56) rfl) rfl) (al (List.mem_of_getElem? (i := 883) rfl) rfl)) rfl rfl rfl (by decide +kernel) hR
set_option maxRecDepth 20000 in
theorem cw_L_X3_bestShelf {d mc ms : Nat} {R : Room} {s : State} {args : Array Value} (ht : ∀ w ∈ AL, w.before args s = true) (hR : d + 1 ≤ R.frames ∧ 8 + (8 + 11) + 36 * d ≤ R.locals) : CallW R s args RL RX3 199 yX3_bestShelf cX3_bestShelf 8 (some .int) (.code yX3_bestShelf cX3_bestShelf 8 (some .int) :: AL) (rm d mc ms) mc ms 0 :=
  cwV 0 ht (g_V (al (List.mem_of_getElem? (i := 264) rfl) rfl) (al (List.mem_of_getElem? (i := 265) rfl) rfl) (al (List.mem_of_getElem? (i := 266) rfl) rfl) (al (List.mem_of_getElem? (i := 51) rfl) rfl) (al (List.mem_of_getElem? (i := 267) rfl) rfl)) rfl rfl rfl (by decide +kernel) hR
set_option maxRecDepth 20000 in
theorem cw_L_X4_bestShelf {d mc ms : Nat} {R : Room} {s : State} {args : Array Value} (ht : ∀ w ∈ AL, w.before args s = true) (hR : d + 1 ≤ R.frames ∧ 8 + (1 + 11) + 36 * d ≤ R.locals) : CallW R s args RL RX4 202 yX4_bestShelf cX4_bestShelf 1 (some .int) (.code yX4_bestShelf cX4_bestShelf 1 (some .int) :: AL) (rm d mc ms) mc ms 0 :=
  cwV 0 ht (g_V (al (List.mem_of_getElem? (i := 884) rfl) rfl) (al (List.mem_of_getElem? (i := 885) rfl) rfl) (al (List.mem_of_getElem? (i := 886) rfl) rfl) (al (List.mem_of_getElem? (i := 56) rfl) rfl) (al (List.mem_of_getElem? (i := 887) rfl) rfl)) rfl rfl rfl (by decide +kernel) hR
set_option maxRecDepth 20000 in
theorem cw_L_X3_hoursOfCold {d mc ms : Nat} {R : Room} {s : State} {args : Array Value} (ht : ∀ w ∈ AL, w.before args s = true) (hR : d + 1 ≤ R.frames ∧ 8 + (7 + 11) + 36 * d ≤ R.locals) : CallW R s args RL RX3 203 yX3_hoursOfCold cX3_hoursOfCold 7 (some .int) (.code yX3_hoursOfCold cX3_hoursOfCold 7 (some .int) :: AL) (rm d mc ms) mc ms 0 :=
  cwV 0 ht (g_V (al (List.mem_of_getElem? (i := 325) rfl) rfl) (al (List.mem_of_getElem? (i := 326) rfl) rfl) (al (List.mem_of_getElem? (i := 327) rfl) rfl) (al (List.mem_of_getElem? (i := 51) rfl) rfl) (al (List.mem_of_getElem? (i := 328) rfl) rfl)) rfl rfl rfl (by decide +kernel) hR
set_option maxRecDepth 20000 in
theorem cw_L_X4_hoursOfCold {d mc ms : Nat} {R : Room} {s : State} {args : Array Value} (ht : ∀ w ∈ AL, w.before args s = true) (hR : d + 1 ≤ R.frames ∧ 8 + (1 + 11) + 36 * d ≤ R.locals) : CallW R s args RL RX4 206 yX4_hoursOfCold cX4_hoursOfCold 1 (some .int) (.code yX4_hoursOfCold cX4_hoursOfCold 1 (some .int) :: AL) (rm d mc ms) mc ms 0 :=
  cwV 0 ht (g_V (al (List.mem_of_getElem? (i := 896) rfl) rfl) (al (List.mem_of_getElem? (i := 897) rfl) rfl) (al (List.mem_of_getElem? (i := 898) rfl) rfl) (al (List.mem_of_getElem? (i := 56) rfl) rfl) (al (List.mem_of_getElem? (i := 899) rfl) rfl)) rfl rfl rfl (by decide +kernel) hR
set_option maxRecDepth 20000 in
theorem cw_L_X3_meanHeat {d mc ms : Nat} {R : Room} {s : State} {args : Array Value} (ht : ∀ w ∈ AL, w.before args s = true) (hR : d + 1 ≤ R.frames ∧ 8 + (7 + 11) + 36 * d ≤ R.locals) : CallW R s args RL RX3 207 yX3_meanHeat cX3_meanHeat 7 (some .double) (.code yX3_meanHeat cX3_meanHeat 7 (some .double) :: AL) (rm d mc ms) mc ms 0 :=
  cwV 0 ht (g_V (al (List.mem_of_getElem? (i := 341) rfl) rfl) (al (List.mem_of_getElem? (i := 342) rfl) rfl) (al (List.mem_of_getElem? (i := 343) rfl) rfl) (al (List.mem_of_getElem? (i := 51) rfl) rfl) (al (List.mem_of_getElem? (i := 344) rfl) rfl)) rfl rfl rfl (by decide +kernel) hR
set_option maxRecDepth 20000 in
theorem cw_L_X4_meanHeat {d mc ms : Nat} {R : Room} {s : State} {args : Array Value} (ht : ∀ w ∈ AL, w.before args s = true) (hR : d + 1 ≤ R.frames ∧ 8 + (4 + 11) + 36 * d ≤ R.locals) : CallW R s args RL RX4 211 yX4_meanHeat cX4_meanHeat 4 (some .double) (.code yX4_meanHeat cX4_meanHeat 4 (some .double) :: AL) (rm d mc ms) mc ms 0 :=
  cwV 0 ht (g_V (al (List.mem_of_getElem? (i := 904) rfl) rfl) (al (List.mem_of_getElem? (i := 905) rfl) rfl) (al (List.mem_of_getElem? (i := 906) rfl) rfl) (al (List.mem_of_getElem? (i := 56) rfl) rfl) (al (List.mem_of_getElem? (i := 907) rfl) rfl)) rfl rfl rfl (by decide +kernel) hR
set_option maxRecDepth 20000 in
theorem cw_L_X3_digest {d mc ms : Nat} {R : Room} {s : State} {args : Array Value} (ht : ∀ w ∈ AL, w.before args s = true) (hR : d + 1 ≤ R.frames ∧ 8 + (3 + 11) + 36 * d ≤ R.locals) : CallW R s args RL RX3 212 yX3_digest cX3_digest 3 (some .long) (.code yX3_digest cX3_digest 3 (some .long) :: AL) (rm d mc ms) mc ms 0 :=
  cwV 0 ht (g_V (al (List.mem_of_getElem? (i := 345) rfl) rfl) (al (List.mem_of_getElem? (i := 346) rfl) rfl) (al (List.mem_of_getElem? (i := 347) rfl) rfl) (al (List.mem_of_getElem? (i := 51) rfl) rfl) (al (List.mem_of_getElem? (i := 348) rfl) rfl)) rfl rfl rfl (by decide +kernel) hR
set_option maxRecDepth 20000 in
theorem cw_L_X4_digest {d mc ms : Nat} {R : Room} {s : State} {args : Array Value} (ht : ∀ w ∈ AL, w.before args s = true) (hR : d + 1 ≤ R.frames ∧ 8 + (11 + 11) + 36 * d ≤ R.locals) : CallW R s args RL RX4 216 yX4_digest cX4_digest 11 (some .long) (.code yX4_digest cX4_digest 11 (some .long) :: AL) (rm d mc ms) mc ms 0 :=
  cwV 0 ht (g_V (al (List.mem_of_getElem? (i := 908) rfl) rfl) (al (List.mem_of_getElem? (i := 909) rfl) rfl) (al (List.mem_of_getElem? (i := 910) rfl) rfl) (al (List.mem_of_getElem? (i := 56) rfl) rfl) (al (List.mem_of_getElem? (i := 911) rfl) rfl)) rfl rfl rfl (by decide +kernel) hR
set_option maxRecDepth 20000 in
theorem cw_X4_X4_shelf {d mc ms : Nat} {R : Room} {s : State} {args : Array Value} (ht : ∀ w ∈ AL, w.before args s = true) (hR : d + 1 ≤ R.frames ∧ 8 + (2 + 11) + 36 * d ≤ R.locals) : CallB R s args RX4 22 yX4_shelf cX4_shelf 2 (some .int) (.code yX4_shelf cX4_shelf 2 (some .int) :: AL) (rm d mc ms) mc ms 2 ∧ (Cond.static yX4_shelf).before args s = true :=
  cwS 2 ht (g_S (al (List.mem_of_getElem? (i := 618) rfl) rfl) (al (List.mem_of_getElem? (i := 619) rfl) rfl) (al (List.mem_of_getElem? (i := 56) rfl) rfl) (al (List.mem_of_getElem? (i := 620) rfl) rfl)) rfl rfl rfl (by decide +kernel) hR
set_option maxRecDepth 20000 in
theorem cw_X4_X4_isIn {d mc ms : Nat} {R : Room} {s : State} {args : Array Value} (ht : ∀ w ∈ AL, w.before args s = true) (hR : d + 1 ≤ R.frames ∧ 8 + (3 + 11) + 36 * d ≤ R.locals) : CallB R s args RX4 30 yX4_isIn cX4_isIn 3 (some .boolean) (.code yX4_isIn cX4_isIn 3 (some .boolean) :: AL) (rm d mc ms) mc ms 3 ∧ (Cond.static yX4_isIn).before args s = true :=
  cwS 3 ht (g_S (al (List.mem_of_getElem? (i := 652) rfl) rfl) (al (List.mem_of_getElem? (i := 653) rfl) rfl) (al (List.mem_of_getElem? (i := 56) rfl) rfl) (al (List.mem_of_getElem? (i := 654) rfl) rfl)) rfl rfl rfl (by decide +kernel) hR
set_option maxRecDepth 20000 in
theorem cw_X4_X4_of {d mc ms : Nat} {R : Room} {s : State} {args : Array Value} (ht : ∀ w ∈ AL, w.before args s = true) (hR : d + 1 ≤ R.frames ∧ 8 + (2 + 11) + 36 * d ≤ R.locals) : CallB R s args RX4 37 yX4_of cX4_of 2 (some .int) (.code yX4_of cX4_of 2 (some .int) :: AL) (rm d mc ms) mc ms 2 ∧ (Cond.static yX4_of).before args s = true :=
  cwS 2 ht (g_S (al (List.mem_of_getElem? (i := 666) rfl) rfl) (al (List.mem_of_getElem? (i := 667) rfl) rfl) (al (List.mem_of_getElem? (i := 56) rfl) rfl) (al (List.mem_of_getElem? (i := 668) rfl) rfl)) rfl rfl rfl (by decide +kernel) hR
set_option maxRecDepth 20000 in
theorem cw_X4_X4_towards {d mc ms : Nat} {R : Room} {s : State} {args : Array Value} (ht : ∀ w ∈ AL, w.before args s = true) (hR : d + 1 ≤ R.frames ∧ 8 + (3 + 11) + 36 * d ≤ R.locals) : CallB R s args RX4 58 yX4_towards cX4_towards 3 (some .int) (.code yX4_towards cX4_towards 3 (some .int) :: AL) (rm d mc ms) mc ms 3 ∧ (Cond.static yX4_towards).before args s = true :=
  cwS 3 ht (g_S (al (List.mem_of_getElem? (i := 718) rfl) rfl) (al (List.mem_of_getElem? (i := 719) rfl) rfl) (al (List.mem_of_getElem? (i := 56) rfl) rfl) (al (List.mem_of_getElem? (i := 720) rfl) rfl)) rfl rfl rfl (by decide +kernel) hR
set_option maxRecDepth 20000 in
theorem cw_X4_X4_isMaker {d mc ms : Nat} {R : Room} {s : State} {args : Array Value} (ht : ∀ w ∈ AL, w.before args s = true) (hR : d + 1 ≤ R.frames ∧ 8 + (1 + 11) + 36 * d ≤ R.locals) : CallB R s args RX4 83 yX4_isMaker cX4_isMaker 1 (some .boolean) (.code yX4_isMaker cX4_isMaker 1 (some .boolean) :: AL) (rm d mc ms) mc ms 1 ∧ (Cond.static yX4_isMaker).before args s = true :=
  cwS 1 ht (g_S (al (List.mem_of_getElem? (i := 649) rfl) rfl) (al (List.mem_of_getElem? (i := 650) rfl) rfl) (al (List.mem_of_getElem? (i := 56) rfl) rfl) (al (List.mem_of_getElem? (i := 651) rfl) rfl)) rfl rfl rfl (by decide +kernel) hR
set_option maxRecDepth 20000 in
theorem cw_X4_X4_isShelf {d mc ms : Nat} {R : Room} {s : State} {args : Array Value} (ht : ∀ w ∈ AL, w.before args s = true) (hR : d + 1 ≤ R.frames ∧ 8 + (1 + 11) + 36 * d ≤ R.locals) : CallB R s args RX4 86 yX4_isShelf cX4_isShelf 1 (some .boolean) (.code yX4_isShelf cX4_isShelf 1 (some .boolean) :: AL) (rm d mc ms) mc ms 1 ∧ (Cond.static yX4_isShelf).before args s = true :=
  cwS 1 ht (g_S (al (List.mem_of_getElem? (i := 655) rfl) rfl) (al (List.mem_of_getElem? (i := 656) rfl) rfl) (al (List.mem_of_getElem? (i := 56) rfl) rfl) (al (List.mem_of_getElem? (i := 657) rfl) rfl)) rfl rfl rfl (by decide +kernel) hR
set_option maxRecDepth 20000 in
theorem cw_X4_X4_open {d mc ms : Nat} {R : Room} {s : State} {args : Array Value} (ht : ∀ w ∈ AL, w.before args s = true) (hR : d + 1 ≤ R.frames ∧ 8 + (2 + 11) + 36 * d ≤ R.locals) : CallW R s args RX4 RX4 51 yX4_open cX4_open 2 none (.code yX4_open cX4_open 2 none :: AL) (rm d mc ms) mc ms 1 :=
  cwV 1 ht (g_V (al (List.mem_of_getElem? (i := 669) rfl) rfl) (al (List.mem_of_getElem? (i := 671) rfl) rfl) (al (List.mem_of_getElem? (i := 25) rfl) rfl) (al (List.mem_of_getElem? (i := 56) rfl) rfl) (al (List.mem_of_getElem? (i := 672) rfl) rfl)) rfl rfl rfl (by decide +kernel) hR
set_option maxRecDepth 20000 in
theorem cw_X4_X4_warm {d mc ms : Nat} {R : Room} {s : State} {args : Array Value} (ht : ∀ w ∈ AL, w.before args s = true) (hR : d + 1 ≤ R.frames ∧ 8 + (3 + 11) + 36 * d ≤ R.locals) : CallW R s args RX4 RX4 66 yX4_warm cX4_warm 3 none (.code yX4_warm cX4_warm 3 none :: AL) (rm d mc ms) mc ms 1 :=
  cwV 1 ht (g_V (al (List.mem_of_getElem? (i := 714) rfl) rfl) (al (List.mem_of_getElem? (i := 716) rfl) rfl) (al (List.mem_of_getElem? (i := 31) rfl) rfl) (al (List.mem_of_getElem? (i := 56) rfl) rfl) (al (List.mem_of_getElem? (i := 717) rfl) rfl)) rfl rfl rfl (by decide +kernel) hR
set_option maxRecDepth 20000 in
theorem cw_X4_X4_lies {d mc ms : Nat} {R : Room} {s : State} {args : Array Value} (ht : ∀ w ∈ AL, w.before args s = true) (hR : d + 1 ≤ R.frames ∧ 8 + (2 + 11) + 36 * d ≤ R.locals) : CallW R s args RX4 RX4 69 yX4_lies cX4_lies 2 (some .boolean) (.code yX4_lies cX4_lies 2 (some .boolean) :: AL) (rm d mc ms) mc ms 1 :=
  cwV 1 ht (g_V (al (List.mem_of_getElem? (i := 686) rfl) rfl) (al (List.mem_of_getElem? (i := 688) rfl) rfl) (al (List.mem_of_getElem? (i := 27) rfl) rfl) (al (List.mem_of_getElem? (i := 56) rfl) rfl) (al (List.mem_of_getElem? (i := 689) rfl) rfl)) rfl rfl rfl (by decide +kernel) hR
set_option maxRecDepth 20000 in
theorem cw_X4_X4_rings {d mc ms : Nat} {R : Room} {s : State} {args : Array Value} (ht : ∀ w ∈ AL, w.before args s = true) (hR : d + 1 ≤ R.frames ∧ 8 + (4 + 11) + 36 * d ≤ R.locals) : CallW R s args RX4 RX4 73 yX4_rings cX4_rings 4 (some .boolean) (.code yX4_rings cX4_rings 4 (some .boolean) :: AL) (rm d mc ms) mc ms 1 :=
  cwV 1 ht (g_V (al (List.mem_of_getElem? (i := 722) rfl) rfl) (al (List.mem_of_getElem? (i := 724) rfl) rfl) (al (List.mem_of_getElem? (i := 32) rfl) rfl) (al (List.mem_of_getElem? (i := 56) rfl) rfl) (al (List.mem_of_getElem? (i := 725) rfl) rfl)) rfl rfl rfl (by decide +kernel) hR
set_option maxRecDepth 20000 in
theorem cw_X4_X4_getOlder {d mc ms : Nat} {R : Room} {s : State} {args : Array Value} (ht : ∀ w ∈ AL, w.before args s = true) (hR : d + 1 ≤ R.frames ∧ 8 + (2 + 11) + 36 * d ≤ R.locals) : CallW R s args RX4 RX4 76 yX4_getOlder cX4_getOlder 2 none (.code yX4_getOlder cX4_getOlder 2 none :: AL) (rm d mc ms) mc ms 1 :=
  cwV 1 ht (g_V (al (List.mem_of_getElem? (i := 729) rfl) rfl) (al (List.mem_of_getElem? (i := 731) rfl) rfl) (al (List.mem_of_getElem? (i := 33) rfl) rfl) (al (List.mem_of_getElem? (i := 56) rfl) rfl) (al (List.mem_of_getElem? (i := 732) rfl) rfl)) rfl rfl rfl (by decide +kernel) hR
set_option maxRecDepth 20000 in
theorem cw_X4_X4_hourOn {d mc ms : Nat} {R : Room} {s : State} {args : Array Value} (ht : ∀ w ∈ AL, w.before args s = true) (hR : d + 1 ≤ R.frames ∧ 8 + (3 + 11) + 36 * d ≤ R.locals) : CallW R s args RX4 RX4 79 yX4_hourOn cX4_hourOn 3 (some .int) (.code yX4_hourOn cX4_hourOn 3 (some .int) :: AL) (rm d mc ms) mc ms 0 :=
  cwV 0 ht (g_V (al (List.mem_of_getElem? (i := 710) rfl) rfl) (al (List.mem_of_getElem? (i := 712) rfl) rfl) (al (List.mem_of_getElem? (i := 30) rfl) rfl) (al (List.mem_of_getElem? (i := 56) rfl) rfl) (al (List.mem_of_getElem? (i := 713) rfl) rfl)) rfl rfl rfl (by decide +kernel) hR
set_option maxRecDepth 20000 in
theorem cw_X4_X4_no {d mc ms : Nat} {R : Room} {s : State} {args : Array Value} (ht : ∀ w ∈ AL, w.before args s = true) (hR : d + 1 ≤ R.frames ∧ 8 + (2 + 11) + 36 * d ≤ R.locals) : CallW R s args RX4 RX4 89 yX4_no cX4_no 2 (some .int) (.code yX4_no cX4_no 2 (some .int) :: AL) (rm d mc ms) mc ms 1 :=
  cwV 1 ht (g_V (al (List.mem_of_getElem? (i := 658) rfl) rfl) (al (List.mem_of_getElem? (i := 660) rfl) rfl) (al (List.mem_of_getElem? (i := 23) rfl) rfl) (al (List.mem_of_getElem? (i := 56) rfl) rfl) (al (List.mem_of_getElem? (i := 661) rfl) rfl)) rfl rfl rfl (by decide +kernel) hR
set_option maxRecDepth 20000 in
theorem cw_X4_X4_lay {d mc ms : Nat} {R : Room} {s : State} {args : Array Value} (ht : ∀ w ∈ AL, w.before args s = true) (hR : d + 1 ≤ R.frames ∧ 8 + (4 + 11) + 36 * d ≤ R.locals) : CallW R s args RX4 RX4 92 yX4_lay cX4_lay 4 none (.code yX4_lay cX4_lay 4 none :: AL) (rm d mc ms) mc ms 3 :=
  cwV 3 ht (g_V (al (List.mem_of_getElem? (i := 662) rfl) rfl) (al (List.mem_of_getElem? (i := 664) rfl) rfl) (al (List.mem_of_getElem? (i := 24) rfl) rfl) (al (List.mem_of_getElem? (i := 56) rfl) rfl) (al (List.mem_of_getElem? (i := 665) rfl) rfl)) rfl rfl rfl (by decide +kernel) hR
set_option maxRecDepth 20000 in
theorem cw_X4_X4_isPromise {d mc ms : Nat} {R : Room} {s : State} {args : Array Value} (ht : ∀ w ∈ AL, w.before args s = true) (hR : d + 1 ≤ R.frames ∧ 8 + (2 + 11) + 36 * d ≤ R.locals) : CallW R s args RX4 RX4 96 yX4_isPromise cX4_isPromise 2 (some .boolean) (.code yX4_isPromise cX4_isPromise 2 (some .boolean) :: AL) (rm d mc ms) mc ms 1 :=
  cwV 1 ht (g_V (al (List.mem_of_getElem? (i := 678) rfl) rfl) (al (List.mem_of_getElem? (i := 680) rfl) rfl) (al (List.mem_of_getElem? (i := 26) rfl) rfl) (al (List.mem_of_getElem? (i := 56) rfl) rfl) (al (List.mem_of_getElem? (i := 681) rfl) rfl)) rfl rfl rfl (by decide +kernel) hR
set_option maxRecDepth 20000 in
theorem cw_X4_X4_left {d mc ms : Nat} {R : Room} {s : State} {args : Array Value} (ht : ∀ w ∈ AL, w.before args s = true) (hR : d + 1 ≤ R.frames ∧ 8 + (2 + 11) + 36 * d ≤ R.locals) : CallW R s args RX4 RX4 99 yX4_left cX4_left 2 (some .int) (.code yX4_left cX4_left 2 (some .int) :: AL) (rm d mc ms) mc ms 1 :=
  cwV 1 ht (g_V (al (List.mem_of_getElem? (i := 690) rfl) rfl) (al (List.mem_of_getElem? (i := 692) rfl) rfl) (al (List.mem_of_getElem? (i := 28) rfl) rfl) (al (List.mem_of_getElem? (i := 56) rfl) rfl) (al (List.mem_of_getElem? (i := 693) rfl) rfl)) rfl rfl rfl (by decide +kernel) hR
set_option maxRecDepth 20000 in
theorem cw_X4_X4_hoursOn {d mc ms : Nat} {R : Room} {s : State} {args : Array Value} (ht : ∀ w ∈ AL, w.before args s = true) (hR : d + 1 ≤ R.frames ∧ 8 + (4 + 11) + 36 * d ≤ R.locals) : CallW R s args RX4 RX4 102 yX4_hoursOn cX4_hoursOn 4 (some .int) (.code yX4_hoursOn cX4_hoursOn 4 (some .int) :: AL) (rm d mc ms) mc ms 1 :=
  cwV 1 ht (g_V (al (List.mem_of_getElem? (i := 706) rfl) rfl) (al (List.mem_of_getElem? (i := 708) rfl) rfl) (al (List.mem_of_getElem? (i := 29) rfl) rfl) (al (List.mem_of_getElem? (i := 56) rfl) rfl) (al (List.mem_of_getElem? (i := 709) rfl) rfl)) rfl rfl rfl (by decide +kernel) hR
set_option maxRecDepth 20000 in
theorem cw_X4_X4_ok {d mc ms : Nat} {R : Room} {s : State} {args : Array Value} (ht : ∀ w ∈ AL, w.before args s = true) (hR : d + 1 ≤ R.frames ∧ 8 + (2 + 11) + 36 * d ≤ R.locals) : CallW R s args RX4 RX4 105 yX4_ok cX4_ok 2 (some .int) (.code yX4_ok cX4_ok 2 (some .int) :: AL) (rm d mc ms) mc ms 1 :=
  cwV 1 ht (g_V (al (List.mem_of_getElem? (i := 737) rfl) rfl) (al (List.mem_of_getElem? (i := 739) rfl) rfl) (al (List.mem_of_getElem? (i := 34) rfl) rfl) (al (List.mem_of_getElem? (i := 56) rfl) rfl) (al (List.mem_of_getElem? (i := 740) rfl) rfl)) rfl rfl rfl (by decide +kernel) hR
set_option maxRecDepth 20000 in
theorem cw_X4_X4_ofShelf {d mc ms : Nat} {R : Room} {s : State} {args : Array Value} (ht : ∀ w ∈ AL, w.before args s = true) (hR : d + 1 ≤ R.frames ∧ 8 + (3 + 11) + 36 * d ≤ R.locals) : CallW R s args RX4 RX4 108 yX4_ofShelf cX4_ofShelf 3 (some .int) (.code yX4_ofShelf cX4_ofShelf 3 (some .int) :: AL) (rm d mc ms) mc ms 2 :=
  cwV 2 ht (g_V (al (List.mem_of_getElem? (i := 749) rfl) rfl) (al (List.mem_of_getElem? (i := 751) rfl) rfl) (al (List.mem_of_getElem? (i := 35) rfl) rfl) (al (List.mem_of_getElem? (i := 56) rfl) rfl) (al (List.mem_of_getElem? (i := 752) rfl) rfl)) rfl rfl rfl (by decide +kernel) hR
set_option maxRecDepth 20000 in
theorem cw_X4_X4_on {d mc ms : Nat} {R : Room} {s : State} {args : Array Value} (ht : ∀ w ∈ AL, w.before args s = true) (hR : d + 1 ≤ R.frames ∧ 8 + (4 + 11) + 36 * d ≤ R.locals) : CallW R s args RX4 RX4 111 yX4_on cX4_on 4 (some .int) (.code yX4_on cX4_on 4 (some .int) :: AL) (rm d mc ms) mc ms 1 :=
  cwV 1 ht (g_V (al (List.mem_of_getElem? (i := 761) rfl) rfl) (al (List.mem_of_getElem? (i := 763) rfl) rfl) (al (List.mem_of_getElem? (i := 36) rfl) rfl) (al (List.mem_of_getElem? (i := 56) rfl) rfl) (al (List.mem_of_getElem? (i := 764) rfl) rfl)) rfl rfl rfl (by decide +kernel) hR
set_option maxRecDepth 20000 in
theorem cw_X4_X4_coldestOf {d mc ms : Nat} {R : Room} {s : State} {args : Array Value} (ht : ∀ w ∈ AL, w.before args s = true) (hR : d + 1 ≤ R.frames ∧ 8 + (3 + 11) + 36 * d ≤ R.locals) : CallW R s args RX4 RX4 114 yX4_coldestOf cX4_coldestOf 3 (some .int) (.code yX4_coldestOf cX4_coldestOf 3 (some .int) :: AL) (rm d mc ms) mc ms 0 :=
  cwV 0 ht (g_V (al (List.mem_of_getElem? (i := 769) rfl) rfl) (al (List.mem_of_getElem? (i := 771) rfl) rfl) (al (List.mem_of_getElem? (i := 37) rfl) rfl) (al (List.mem_of_getElem? (i := 56) rfl) rfl) (al (List.mem_of_getElem? (i := 772) rfl) rfl)) rfl rfl rfl (by decide +kernel) hR
set_option maxRecDepth 20000 in
theorem cw_X4_X4_ofPromise {d mc ms : Nat} {R : Room} {s : State} {args : Array Value} (ht : ∀ w ∈ AL, w.before args s = true) (hR : d + 1 ≤ R.frames ∧ 8 + (3 + 11) + 36 * d ≤ R.locals) : CallW R s args RX4 RX4 117 yX4_ofPromise cX4_ofPromise 3 (some .int) (.code yX4_ofPromise cX4_ofPromise 3 (some .int) :: AL) (rm d mc ms) mc ms 2 :=
  cwV 2 ht (g_V (al (List.mem_of_getElem? (i := 789) rfl) rfl) (al (List.mem_of_getElem? (i := 791) rfl) rfl) (al (List.mem_of_getElem? (i := 38) rfl) rfl) (al (List.mem_of_getElem? (i := 56) rfl) rfl) (al (List.mem_of_getElem? (i := 792) rfl) rfl)) rfl rfl rfl (by decide +kernel) hR
set_option maxRecDepth 20000 in
theorem cw_X4_X4_isSo {d mc ms : Nat} {R : Room} {s : State} {args : Array Value} (ht : ∀ w ∈ AL, w.before args s = true) (hR : d + 1 ≤ R.frames ∧ 8 + (3 + 11) + 36 * d ≤ R.locals) : CallW R s args RX4 RX4 120 yX4_isSo cX4_isSo 3 (some .boolean) (.code yX4_isSo cX4_isSo 3 (some .boolean) :: AL) (rm d mc ms) mc ms 2 :=
  cwV 2 ht (g_V (al (List.mem_of_getElem? (i := 809) rfl) rfl) (al (List.mem_of_getElem? (i := 811) rfl) rfl) (al (List.mem_of_getElem? (i := 39) rfl) rfl) (al (List.mem_of_getElem? (i := 56) rfl) rfl) (al (List.mem_of_getElem? (i := 812) rfl) rfl)) rfl rfl rfl (by decide +kernel) hR
set_option maxRecDepth 20000 in
theorem cw_X4_X4_isNot {d mc ms : Nat} {R : Room} {s : State} {args : Array Value} (ht : ∀ w ∈ AL, w.before args s = true) (hR : d + 1 ≤ R.frames ∧ 8 + (2 + 11) + 36 * d ≤ R.locals) : CallW R s args RX4 RX4 124 yX4_isNot cX4_isNot 2 (some .boolean) (.code yX4_isNot cX4_isNot 2 (some .boolean) :: AL) (rm d mc ms) mc ms 1 :=
  cwV 1 ht (g_V (al (List.mem_of_getElem? (i := 813) rfl) rfl) (al (List.mem_of_getElem? (i := 815) rfl) rfl) (al (List.mem_of_getElem? (i := 40) rfl) rfl) (al (List.mem_of_getElem? (i := 56) rfl) rfl) (al (List.mem_of_getElem? (i := 816) rfl) rfl)) rfl rfl rfl (by decide +kernel) hR
set_option maxRecDepth 20000 in
theorem cw_X4_X4_owes {d mc ms : Nat} {R : Room} {s : State} {args : Array Value} (ht : ∀ w ∈ AL, w.before args s = true) (hR : d + 1 ≤ R.frames ∧ 8 + (4 + 11) + 36 * d ≤ R.locals) : CallW R s args RX4 RX4 127 yX4_owes cX4_owes 4 (some .int) (.code yX4_owes cX4_owes 4 (some .int) :: AL) (rm d mc ms) mc ms 1 :=
  cwV 1 ht (g_V (al (List.mem_of_getElem? (i := 833) rfl) rfl) (al (List.mem_of_getElem? (i := 835) rfl) rfl) (al (List.mem_of_getElem? (i := 41) rfl) rfl) (al (List.mem_of_getElem? (i := 56) rfl) rfl) (al (List.mem_of_getElem? (i := 836) rfl) rfl)) rfl rfl rfl (by decide +kernel) hR
set_option maxRecDepth 20000 in
theorem cw_X4_X4_honour {d mc ms : Nat} {R : Room} {s : State} {args : Array Value} (ht : ∀ w ∈ AL, w.before args s = true) (hR : d + 1 ≤ R.frames ∧ 8 + (5 + 11) + 36 * d ≤ R.locals) : CallW R s args RX4 RX4 130 yX4_honour cX4_honour 5 (some .int) (.code yX4_honour cX4_honour 5 (some .int) :: AL) (rm d mc ms) mc ms 1 :=
  cwV 1 ht (g_V (al (List.mem_of_getElem? (i := 841) rfl) rfl) (al (List.mem_of_getElem? (i := 843) rfl) rfl) (al (List.mem_of_getElem? (i := 42) rfl) rfl) (al (List.mem_of_getElem? (i := 56) rfl) rfl) (al (List.mem_of_getElem? (i := 844) rfl) rfl)) rfl rfl rfl (by decide +kernel) hR
set_option maxRecDepth 20000 in
theorem cw_X4_X4_most {d mc ms : Nat} {R : Room} {s : State} {args : Array Value} (ht : ∀ w ∈ AL, w.before args s = true) (hR : d + 1 ≤ R.frames ∧ 8 + (3 + 11) + 36 * d ≤ R.locals) : CallW R s args RX4 RX4 133 yX4_most cX4_most 3 (some .int) (.code yX4_most cX4_most 3 (some .int) :: AL) (rm d mc ms) mc ms 0 :=
  cwV 0 ht (g_V (al (List.mem_of_getElem? (i := 849) rfl) rfl) (al (List.mem_of_getElem? (i := 851) rfl) rfl) (al (List.mem_of_getElem? (i := 43) rfl) rfl) (al (List.mem_of_getElem? (i := 56) rfl) rfl) (al (List.mem_of_getElem? (i := 852) rfl) rfl)) rfl rfl rfl (by decide +kernel) hR
set_option maxRecDepth 20000 in
theorem cw_X4_X4_keepAll {d mc ms : Nat} {R : Room} {s : State} {args : Array Value} (ht : ∀ w ∈ AL, w.before args s = true) (hR : d + 1 ≤ R.frames ∧ 8 + (1 + 11) + 36 * d ≤ R.locals) : CallW R s args RX4 RX4 136 yX4_keepAll cX4_keepAll 1 none (.code yX4_keepAll cX4_keepAll 1 none :: AL) (rm d mc ms) mc ms 0 :=
  cwV 0 ht (g_V (al (List.mem_of_getElem? (i := 861) rfl) rfl) (al (List.mem_of_getElem? (i := 863) rfl) rfl) (al (List.mem_of_getElem? (i := 45) rfl) rfl) (al (List.mem_of_getElem? (i := 56) rfl) rfl) (al (List.mem_of_getElem? (i := 864) rfl) rfl)) rfl rfl rfl (by decide +kernel) hR
set_option maxRecDepth 20000 in
theorem cw_X4_X4_bringBack {d mc ms : Nat} {R : Room} {s : State} {args : Array Value} (ht : ∀ w ∈ AL, w.before args s = true) (hR : d + 1 ≤ R.frames ∧ 8 + (1 + 11) + 36 * d ≤ R.locals) : CallW R s args RX4 RX4 139 yX4_bringBack cX4_bringBack 1 none (.code yX4_bringBack cX4_bringBack 1 none :: AL) (rm d mc ms) mc ms 0 :=
  cwV 0 ht (g_V (al (List.mem_of_getElem? (i := 868) rfl) rfl) (al (List.mem_of_getElem? (i := 870) rfl) rfl) (al (List.mem_of_getElem? (i := 46) rfl) rfl) (al (List.mem_of_getElem? (i := 56) rfl) rfl) (al (List.mem_of_getElem? (i := 871) rfl) rfl)) rfl rfl rfl (by decide +kernel) hR
set_option maxRecDepth 20000 in
theorem cw_X4_X4_until {d mc ms : Nat} {R : Room} {s : State} {args : Array Value} (ht : ∀ w ∈ AL, w.before args s = true) (hR : d + 1 ≤ R.frames ∧ 8 + (6 + 11) + 36 * d ≤ R.locals) : CallW R s args RX4 RX4 142 yX4_until cX4_until 6 (some .int) (.code yX4_until cX4_until 6 (some .int) :: AL) (rm d mc ms) mc ms 2 :=
  cwV 2 ht (g_V (al (List.mem_of_getElem? (i := 857) rfl) rfl) (al (List.mem_of_getElem? (i := 859) rfl) rfl) (al (List.mem_of_getElem? (i := 44) rfl) rfl) (al (List.mem_of_getElem? (i := 56) rfl) rfl) (al (List.mem_of_getElem? (i := 860) rfl) rfl)) rfl rfl rfl (by decide +kernel) hR
set_option maxRecDepth 20000 in
theorem cw_X4_X4_freezesOn {d mc ms : Nat} {R : Room} {s : State} {args : Array Value} (ht : ∀ w ∈ AL, w.before args s = true) (hR : d + 1 ≤ R.frames ∧ 8 + (4 + 11) + 36 * d ≤ R.locals) : CallW R s args RX4 RX4 145 yX4_freezesOn cX4_freezesOn 4 (some .int) (.code yX4_freezesOn cX4_freezesOn 4 (some .int) :: AL) (rm d mc ms) mc ms 1 :=
  cwV 1 ht (g_V (al (List.mem_of_getElem? (i := 892) rfl) rfl) (al (List.mem_of_getElem? (i := 894) rfl) rfl) (al (List.mem_of_getElem? (i := 48) rfl) rfl) (al (List.mem_of_getElem? (i := 56) rfl) rfl) (al (List.mem_of_getElem? (i := 895) rfl) rfl)) rfl rfl rfl (by decide +kernel) hR
set_option maxRecDepth 20000 in
theorem cw_X4_X4_best {d mc ms : Nat} {R : Room} {s : State} {args : Array Value} (ht : ∀ w ∈ AL, w.before args s = true) (hR : d + 1 ≤ R.frames ∧ 8 + (5 + 11) + 36 * d ≤ R.locals) : CallW R s args RX4 RX4 148 yX4_best cX4_best 5 (some .int) (.code yX4_best cX4_best 5 (some .int) :: AL) (rm d mc ms) mc ms 0 :=
  cwV 0 ht (g_V (al (List.mem_of_getElem? (i := 888) rfl) rfl) (al (List.mem_of_getElem? (i := 890) rfl) rfl) (al (List.mem_of_getElem? (i := 47) rfl) rfl) (al (List.mem_of_getElem? (i := 56) rfl) rfl) (al (List.mem_of_getElem? (i := 891) rfl) rfl)) rfl rfl rfl (by decide +kernel) hR
set_option maxRecDepth 20000 in
theorem cw_X4_X4_cold {d mc ms : Nat} {R : Room} {s : State} {args : Array Value} (ht : ∀ w ∈ AL, w.before args s = true) (hR : d + 1 ≤ R.frames ∧ 8 + (3 + 11) + 36 * d ≤ R.locals) : CallW R s args RX4 RX4 151 yX4_cold cX4_cold 3 (some .int) (.code yX4_cold cX4_cold 3 (some .int) :: AL) (rm d mc ms) mc ms 0 :=
  cwV 0 ht (g_V (al (List.mem_of_getElem? (i := 900) rfl) rfl) (al (List.mem_of_getElem? (i := 902) rfl) rfl) (al (List.mem_of_getElem? (i := 49) rfl) rfl) (al (List.mem_of_getElem? (i := 56) rfl) rfl) (al (List.mem_of_getElem? (i := 903) rfl) rfl)) rfl rfl rfl (by decide +kernel) hR
set_option maxRecDepth 20000 in
theorem mt_X1_min {p : Program} {l : Launch} {e : Env} {R : Room} {s : State} {m : MethodId} {args : Array Value} {below : List Frame} {meth : Method} {c : Code} {H : Heap} {locs : List Loc} {cells slots nL : Nat} {Q : State → Prop} {cc : ByteArray} {pc : Nat} {ls : Array Slot} {rest : List Value} (S : CallFix p m c cc nL s args AL RX1) (hsz : ls.size = nL) (hR : 1 ≤ R.frames ∧ (rest.map fun v => v.category).sum + 13 ≤ R.locals) (hf : cells ≤ R.cells ∧ slots ≤ R.slots) {x y : Int32} (hdg : decode cc pc = .ok (.invokestatic 21, 3)) (kk : W p l e R s m args below meth c H locs cells slots Q (F0 m (pc + 3) ls (.int (if y < x then y else x) :: rest))) : W p l e R s m args below meth c H locs cells slots Q (F0 m pc ls (.int y :: .int x :: rest)) :=
  va_mmin S.1 S.2.1 (S.2.2.1.trans hsz.symm) S.2.2.2.1 (S.2.2.2.2 _ (al (List.mem_of_getElem? (i := 280) rfl) rfl)) (S.2.2.2.2 _ (al (List.mem_of_getElem? (i := 281) rfl) rfl)) (S.2.2.2.2 _ (al (List.mem_of_getElem? (i := 63) rfl) rfl)) (S.2.2.2.2 _ (al (List.mem_of_getElem? (i := 282) rfl) rfl)) hR.1 hR.2 hf.1 hf.2 hdg kk
set_option maxRecDepth 20000 in
theorem mt_X1_max {p : Program} {l : Launch} {e : Env} {R : Room} {s : State} {m : MethodId} {args : Array Value} {below : List Frame} {meth : Method} {c : Code} {H : Heap} {locs : List Loc} {cells slots nL : Nat} {Q : State → Prop} {cc : ByteArray} {pc : Nat} {ls : Array Slot} {rest : List Value} (S : CallFix p m c cc nL s args AL RX1) (hsz : ls.size = nL) (hR : 1 ≤ R.frames ∧ (rest.map fun v => v.category).sum + 13 ≤ R.locals) (hf : cells ≤ R.cells ∧ slots ≤ R.slots) {x y : Int32} (hdg : decode cc pc = .ok (.invokestatic 27, 3)) (kk : W p l e R s m args below meth c H locs cells slots Q (F0 m (pc + 3) ls (.int (if x < y then y else x) :: rest))) : W p l e R s m args below meth c H locs cells slots Q (F0 m pc ls (.int y :: .int x :: rest)) :=
  va_mmax S.1 S.2.1 (S.2.2.1.trans hsz.symm) S.2.2.2.1 (S.2.2.2.2 _ (al (List.mem_of_getElem? (i := 303) rfl) rfl)) (S.2.2.2.2 _ (al (List.mem_of_getElem? (i := 304) rfl) rfl)) (S.2.2.2.2 _ (al (List.mem_of_getElem? (i := 63) rfl) rfl)) (S.2.2.2.2 _ (al (List.mem_of_getElem? (i := 305) rfl) rfl)) hR.1 hR.2 hf.1 hf.2 hdg kk
set_option maxRecDepth 20000 in
theorem mt_X4_min {p : Program} {l : Launch} {e : Env} {R : Room} {s : State} {m : MethodId} {args : Array Value} {below : List Frame} {meth : Method} {c : Code} {H : Heap} {locs : List Loc} {cells slots nL : Nat} {Q : State → Prop} {cc : ByteArray} {pc : Nat} {ls : Array Slot} {rest : List Value} (S : CallFix p m c cc nL s args AL RX4) (hsz : ls.size = nL) (hR : 1 ≤ R.frames ∧ (rest.map fun v => v.category).sum + 13 ≤ R.locals) (hf : cells ≤ R.cells ∧ slots ≤ R.slots) {x y : Int32} (hdg : decode cc pc = .ok (.invokestatic 46, 3)) (kk : W p l e R s m args below meth c H locs cells slots Q (F0 m (pc + 3) ls (.int (if y < x then y else x) :: rest))) : W p l e R s m args below meth c H locs cells slots Q (F0 m pc ls (.int y :: .int x :: rest)) :=
  va_mmin S.1 S.2.1 (S.2.2.1.trans hsz.symm) S.2.2.2.1 (S.2.2.2.2 _ (al (List.mem_of_getElem? (i := 673) rfl) rfl)) (S.2.2.2.2 _ (al (List.mem_of_getElem? (i := 281) rfl) rfl)) (S.2.2.2.2 _ (al (List.mem_of_getElem? (i := 63) rfl) rfl)) (S.2.2.2.2 _ (al (List.mem_of_getElem? (i := 282) rfl) rfl)) hR.1 hR.2 hf.1 hf.2 hdg kk
set_option maxRecDepth 20000 in
theorem mt_X4_max {p : Program} {l : Launch} {e : Env} {R : Room} {s : State} {m : MethodId} {args : Array Value} {below : List Frame} {meth : Method} {c : Code} {H : Heap} {locs : List Loc} {cells slots nL : Nat} {Q : State → Prop} {cc : ByteArray} {pc : Nat} {ls : Array Slot} {rest : List Value} (S : CallFix p m c cc nL s args AL RX4) (hsz : ls.size = nL) (hR : 1 ≤ R.frames ∧ (rest.map fun v => v.category).sum + 13 ≤ R.locals) (hf : cells ≤ R.cells ∧ slots ≤ R.slots) {x y : Int32} (hdg : decode cc pc = .ok (.invokestatic 55, 3)) (kk : W p l e R s m args below meth c H locs cells slots Q (F0 m (pc + 3) ls (.int (if x < y then y else x) :: rest))) : W p l e R s m args below meth c H locs cells slots Q (F0 m pc ls (.int y :: .int x :: rest)) :=
  va_mmax S.1 S.2.1 (S.2.2.1.trans hsz.symm) S.2.2.2.1 (S.2.2.2.2 _ (al (List.mem_of_getElem? (i := 721) rfl) rfl)) (S.2.2.2.2 _ (al (List.mem_of_getElem? (i := 304) rfl) rfl)) (S.2.2.2.2 _ (al (List.mem_of_getElem? (i := 63) rfl) rfl)) (S.2.2.2.2 _ (al (List.mem_of_getElem? (i := 305) rfl) rfl)) hR.1 hR.2 hf.1 hf.2 hdg kk
set_option maxRecDepth 20000 in
theorem mt_X4_abs {p : Program} {l : Launch} {e : Env} {R : Room} {s : State} {m : MethodId} {args : Array Value} {below : List Frame} {meth : Method} {c : Code} {H : Heap} {locs : List Loc} {cells slots nL : Nat} {Q : State → Prop} {cc : ByteArray} {pc : Nat} {ls : Array Slot} {rest : List Value} (S : CallFix p m c cc nL s args AL RX4) (hsz : ls.size = nL) (hR : 1 ≤ R.frames ∧ (rest.map fun v => v.category).sum + 13 ≤ R.locals) (hf : cells ≤ R.cells ∧ slots ≤ R.slots) {x : Int32} (hdg : decode cc pc = .ok (.invokestatic 62, 3)) (kk : W p l e R s m args below meth c H locs cells slots Q (F0 m (pc + 3) ls (.int (if 0 ≤ x then x else 0 - x) :: rest))) : W p l e R s m args below meth c H locs cells slots Q (F0 m pc ls (.int x :: rest)) :=
  va_mabs S.1 S.2.1 (S.2.2.1.trans hsz.symm) S.2.2.2.1 (S.2.2.2.2 _ (al (List.mem_of_getElem? (i := 726) rfl) rfl)) (S.2.2.2.2 _ (al (List.mem_of_getElem? (i := 727) rfl) rfl)) (S.2.2.2.2 _ (al (List.mem_of_getElem? (i := 63) rfl) rfl)) (S.2.2.2.2 _ (al (List.mem_of_getElem? (i := 728) rfl) rfl)) hR.1 hR.2 hf.1 hf.2 hdg kk
set_option maxRecDepth 20000 in
theorem ld_X3_2017 {p : Program} {l : Launch} {e : Env} {R : Room} {s : State} {m : MethodId} {args : Array Value} {below : List Frame} {meth : Method} {c : Code} {H : Heap} {locs : List Loc} {cells slots nL : Nat} {Q : State → Prop} {cc : ByteArray} {pc : Nat} {ls : Array Slot} {rest : List Value} (S : CallFix p m c cc nL s args AL RX3) (hdg : decode cc pc = .ok (.ldc2_w 163, 3)) (kk : W p l e R s m args below meth c H locs cells slots Q (F0 m (pc + 3) ls (.long 2017 :: rest))) : W p l e R s m args below meth c H locs cells slots Q (F0 m pc ls rest) :=
  lv_ldc2 S.1 S.2.1 S.2.2.2.1 (S.2.2.2.2 _ (al (List.mem_of_getElem? (i := 349) rfl) rfl)) hdg kk
set_option maxRecDepth 20000 in
theorem ld_X3_31 {p : Program} {l : Launch} {e : Env} {R : Room} {s : State} {m : MethodId} {args : Array Value} {below : List Frame} {meth : Method} {c : Code} {H : Heap} {locs : List Loc} {cells slots nL : Nat} {Q : State → Prop} {cc : ByteArray} {pc : Nat} {ls : Array Slot} {rest : List Value} (S : CallFix p m c cc nL s args AL RX3) (hdg : decode cc pc = .ok (.ldc2_w 165, 3)) (kk : W p l e R s m args below meth c H locs cells slots Q (F0 m (pc + 3) ls (.long 31 :: rest))) : W p l e R s m args below meth c H locs cells slots Q (F0 m pc ls rest) :=
  lv_ldc2 S.1 S.2.1 S.2.2.2.1 (S.2.2.2.2 _ (al (List.mem_of_getElem? (i := 350) rfl) rfl)) hdg kk
set_option maxRecDepth 20000 in
theorem ld_X4_2017 {p : Program} {l : Launch} {e : Env} {R : Room} {s : State} {m : MethodId} {args : Array Value} {below : List Frame} {meth : Method} {c : Code} {H : Heap} {locs : List Loc} {cells slots nL : Nat} {Q : State → Prop} {cc : ByteArray} {pc : Nat} {ls : Array Slot} {rest : List Value} (S : CallFix p m c cc nL s args AL RX4) (hdg : decode cc pc = .ok (.ldc2_w 154, 3)) (kk : W p l e R s m args below meth c H locs cells slots Q (F0 m (pc + 3) ls (.long 2017 :: rest))) : W p l e R s m args below meth c H locs cells slots Q (F0 m pc ls rest) :=
  lv_ldc2 S.1 S.2.1 S.2.2.2.1 (S.2.2.2.2 _ (al (List.mem_of_getElem? (i := 912) rfl) rfl)) hdg kk
set_option maxRecDepth 20000 in
theorem ld_X4_31 {p : Program} {l : Launch} {e : Env} {R : Room} {s : State} {m : MethodId} {args : Array Value} {below : List Frame} {meth : Method} {c : Code} {H : Heap} {locs : List Loc} {cells slots nL : Nat} {Q : State → Prop} {cc : ByteArray} {pc : Nat} {ls : Array Slot} {rest : List Value} (S : CallFix p m c cc nL s args AL RX4) (hdg : decode cc pc = .ok (.ldc2_w 156, 3)) (kk : W p l e R s m args below meth c H locs cells slots Q (F0 m (pc + 3) ls (.long 31 :: rest))) : W p l e R s m args below meth c H locs cells slots Q (F0 m pc ls rest) :=
  lv_ldc2 S.1 S.2.1 S.2.2.2.1 (S.2.2.2.2 _ (al (List.mem_of_getElem? (i := 913) rfl) rfl)) hdg kk
end
section
section ARRS
variable {p : Program} {l : Launch} {e : Env} {R : Room} {s : State} {m : MethodId} {args : Array Value} {below : List Frame} {meth : Method} {c : Code} {H : Heap} {locs : List Loc} {cells slots : Nat} {Q : State → Prop}
variable {cc : ByteArray} {pc nL : Nat} {ls : Array Slot} {rest : List Value} {G : Gt} {σ : St} {own : String}
theorem vp_nI {j n : Nat} (h : j < n) (hn : n < 2 ^ 31) : vp_in (nI j) n := vp_in_nI h hn
theorem a_SA (S : CallFix p m c cc nL s args AL own) (hI : Iv G σ s H locs) {j : Nat} (hj : j < 5) (hdg : decode cc pc = .ok (.aaload, 1)) (kk : W p l e R s m args below meth c H locs cells slots Q (F0 m (pc + 1) ls (.ref (gB G (9 + j)) :: rest))) : W p l e R s m args below meth c H locs cells slots Q (F0 m pc ls (.int (nI j) :: .ref (gB G 1) :: rest)) := by
  refine va_aldq S.1 S.2.1 hI.K hI.2.1 1 0 (wl_at G σ (by decide)) rfl (vp_nI hj (by omega)) hdg ?_
  rw [nI_clamp (by omega)]
  exact kk
theorem a_PA (S : CallFix p m c cc nL s args AL own) (hI : Iv G σ s H locs) {j : Nat} (hj : j < 20) (hdg : decode cc pc = .ok (.aaload, 1)) (kk : W p l e R s m args below meth c H locs cells slots Q (F0 m (pc + 1) ls (.ref (gB G (15 + j)) :: rest))) : W p l e R s m args below meth c H locs cells slots Q (F0 m pc ls (.int (nI j) :: .ref (gB G 2) :: rest)) := by
  refine va_aldq S.1 S.2.1 hI.K hI.2.1 2 1 (wl_at G σ (by decide)) rfl (vp_nI hj (by omega)) hdg ?_
  rw [nI_clamp (by omega)]
  exact kk
theorem n_SA (S : CallFix p m c cc nL s args AL own) (hI : Iv G σ s H locs) (hdg : decode cc pc = .ok (.arraylength, 1)) (kk : W p l e R s m args below meth c H locs cells slots Q (F0 m (pc + 1) ls (.int (nI 5) :: rest))) : W p l e R s m args below meth c H locs cells slots Q (F0 m pc ls (.ref (gB G 1) :: rest)) :=
  va_alen S.1 S.2.1 hI.K hI.2.1 1 0 (wl_at G σ (by decide)) rfl rfl hdg kk
theorem n_PA (S : CallFix p m c cc nL s args AL own) (hI : Iv G σ s H locs) (hdg : decode cc pc = .ok (.arraylength, 1)) (kk : W p l e R s m args below meth c H locs cells slots Q (F0 m (pc + 1) ls (.int (nI 20) :: rest))) : W p l e R s m args below meth c H locs cells slots Q (F0 m pc ls (.ref (gB G 2) :: rest)) :=
  va_alen S.1 S.2.1 hI.K hI.2.1 2 1 (wl_at G σ (by decide)) rfl rfl hdg kk
/-! the reference's rows of ints -/
theorem a_mk (S : CallFix p m c cc nL s args AL own) (hI : Iv G σ s H locs) {th np : Int32} {mk lf nw kp : Nat → Int32} (hm : gM σ = (th, np, mk, lf, nw, kp)) {j : Nat} (hj : j < 20) (hdg : decode cc pc = .ok (.iaload, 1)) (kk : W p l e R s m args below meth c H locs cells slots Q (F0 m (pc + 1) ls (.int (mk j) :: rest))) : W p l e R s m args below meth c H locs cells slots Q (F0 m pc ls (.int (nI j) :: .ref (gB G 4) :: rest)) := by
  refine va_iald S.1 S.2.1 hI.K hI.2.1 4 2 (f := mk) (n := 20) (cA := gC G 4) (by rw [wl_at G σ (by decide), ent, show σ.2.1 = _ from hm]) rfl (vp_nI hj (by omega)) hdg ?_
  rw [nI_clamp (by omega)]
  exact kk
theorem a_lf (S : CallFix p m c cc nL s args AL own) (hI : Iv G σ s H locs) {th np : Int32} {mk lf nw kp : Nat → Int32} (hm : gM σ = (th, np, mk, lf, nw, kp)) {j : Nat} (hj : j < 20) (hdg : decode cc pc = .ok (.iaload, 1)) (kk : W p l e R s m args below meth c H locs cells slots Q (F0 m (pc + 1) ls (.int (lf j) :: rest))) : W p l e R s m args below meth c H locs cells slots Q (F0 m pc ls (.int (nI j) :: .ref (gB G 5) :: rest)) := by
  refine va_iald S.1 S.2.1 hI.K hI.2.1 5 3 (f := lf) (n := 20) (cA := gC G 5) (by rw [wl_at G σ (by decide), ent, show σ.2.1 = _ from hm]) rfl (vp_nI hj (by omega)) hdg ?_
  rw [nI_clamp (by omega)]
  exact kk
theorem a_nw (S : CallFix p m c cc nL s args AL own) (hI : Iv G σ s H locs) {th np : Int32} {mk lf nw kp : Nat → Int32} (hm : gM σ = (th, np, mk, lf, nw, kp)) {j : Nat} (hj : j < 113) (hdg : decode cc pc = .ok (.iaload, 1)) (kk : W p l e R s m args below meth c H locs cells slots Q (F0 m (pc + 1) ls (.int (nw j) :: rest))) : W p l e R s m args below meth c H locs cells slots Q (F0 m pc ls (.int (nI j) :: .ref (gB G 6) :: rest)) := by
  refine va_iald S.1 S.2.1 hI.K hI.2.1 6 4 (f := nw) (n := 113) (cA := gC G 6) (by rw [wl_at G σ (by decide), ent, show σ.2.1 = _ from hm]) rfl (vp_nI hj (by omega)) hdg ?_
  rw [nI_clamp (by omega)]
  exact kk
theorem k_ne (k : Nat) {P : Nat → Prop} (h : (List.range 9).all (fun j => decide (j = k) || true) = true) (h0 : k ≠ 0 → P 0) (h1 : k ≠ 1 → P 1) (h2 : k ≠ 2 → P 2) (h3 : k ≠ 3 → P 3) (h4 : k ≠ 4 → P 4) (h5 : k ≠ 5 → P 5) (h6 : k ≠ 6 → P 6) (h7 : k ≠ 7 → P 7) (h8 : k ≠ 8 → P 8) : ∀ j, j < 9 → j ≠ k → P j := by
  intro j hj hne
  rcases (show j = 0 ∨ j = 1 ∨ j = 2 ∨ j = 3 ∨ j = 4 ∨ j = 5 ∨ j = 6 ∨ j = 7 ∨ j = 8 by omega) with rfl | rfl | rfl | rfl | rfl | rfl | rfl | rfl | rfl
  · exact h0 (Ne.symm hne)
  · exact h1 (Ne.symm hne)
  · exact h2 (Ne.symm hne)
  · exact h3 (Ne.symm hne)
  · exact h4 (Ne.symm hne)
  · exact h5 (Ne.symm hne)
  · exact h6 (Ne.symm hne)
  · exact h7 (Ne.symm hne)
  · exact h8 (Ne.symm hne)
/-- a cell of the reference, or out: the world behind a store -/
theorem setM_k (G : Gt) (σ : St) (y : Km) (k : Nat) (hk : k = 3 ∨ k = 4 ∨ k = 5 ∨ k = 6 ∨ k = 7) (ho : ∀ j, 3 ≤ j → j < 8 → j ≠ k → ent G (setM σ y) j = ent G σ j) : (wl G σ).set k (gB G k, ent G (setM σ y) k) = wl G (setM σ y) := by
  refine set_k G σ (setM σ y) (by omega) rfl rfl rfl (fun j hj hne => ?_)
  rcases (show j = 0 ∨ j = 1 ∨ j = 2 ∨ j = 8 ∨ (3 ≤ j ∧ j < 8) by omega) with rfl | rfl | rfl | rfl | h
  · rfl
  · rfl
  · rfl
  · rfl
  · exact ho j h.1 h.2 hne
theorem s_mk (S : CallFix p m c cc nL s args AL own) (hI : Iv G σ s H locs) {th np : Int32} {mk lf nw kp : Nat → Int32} (hm : gM σ = (th, np, mk, lf, nw, kp)) {j : Nat} (hj : j < 20) {v : Int32} (hdg : decode cc pc = .ok (.iastore, 1)) (kk : ∀ (σ' : St) (H1 : Heap) (locs1 : List Loc), σ' = setM σ (th, np, va_up mk j v, lf, nw, kp) → gM σ' = (th, np, va_up mk j v, lf, nw, kp) → Iv G σ' s H1 locs1 → W p l e R s m args below meth c H1 locs1 cells slots Q (F0 m (pc + 1) ls rest)) : W p l e R s m args below meth c H locs cells slots Q (F0 m pc ls (.int v :: .int (nI j) :: .ref (gB G 4) :: rest)) := by
  refine va_iast S.1 S.2.1 hI.K hI.2.1 hI.D hI.2.2 4 2 (f := mk) (n := 20) (cA := gC G 4) (by rw [wl_at G σ (by decide), ent, show σ.2.1 = _ from hm]) rfl (vp_nI hj (by omega)) hdg (fun H1 locs1 hP _ hS => kk _ H1 locs1 rfl rfl ⟨hI.1, ?_, hS⟩)
  rw [nI_clamp (by omega)] at hP
  rw [← setM_k G σ _ 4 (by omega) (fun i h1 h2 h3 => by
    rcases (show i = 3 ∨ i = 5 ∨ i = 6 ∨ i = 7 by omega) with rfl | rfl | rfl | rfl <;> simp only [ent, setM, show σ.2.1 = _ from hm])]
  exact hP
theorem s_lf (S : CallFix p m c cc nL s args AL own) (hI : Iv G σ s H locs) {th np : Int32} {mk lf nw kp : Nat → Int32} (hm : gM σ = (th, np, mk, lf, nw, kp)) {j : Nat} (hj : j < 20) {v : Int32} (hdg : decode cc pc = .ok (.iastore, 1)) (kk : ∀ (σ' : St) (H1 : Heap) (locs1 : List Loc), σ' = setM σ (th, np, mk, va_up lf j v, nw, kp) → gM σ' = (th, np, mk, va_up lf j v, nw, kp) → Iv G σ' s H1 locs1 → W p l e R s m args below meth c H1 locs1 cells slots Q (F0 m (pc + 1) ls rest)) : W p l e R s m args below meth c H locs cells slots Q (F0 m pc ls (.int v :: .int (nI j) :: .ref (gB G 5) :: rest)) := by
  refine va_iast S.1 S.2.1 hI.K hI.2.1 hI.D hI.2.2 5 3 (f := lf) (n := 20) (cA := gC G 5) (by rw [wl_at G σ (by decide), ent, show σ.2.1 = _ from hm]) rfl (vp_nI hj (by omega)) hdg (fun H1 locs1 hP _ hS => kk _ H1 locs1 rfl rfl ⟨hI.1, ?_, hS⟩)
  rw [nI_clamp (by omega)] at hP
  rw [← setM_k G σ _ 5 (by omega) (fun i h1 h2 h3 => by
    rcases (show i = 3 ∨ i = 4 ∨ i = 6 ∨ i = 7 by omega) with rfl | rfl | rfl | rfl <;> simp only [ent, setM, show σ.2.1 = _ from hm])]
  exact hP
theorem s_nw (S : CallFix p m c cc nL s args AL own) (hI : Iv G σ s H locs) {th np : Int32} {mk lf nw kp : Nat → Int32} (hm : gM σ = (th, np, mk, lf, nw, kp)) {j : Nat} (hj : j < 113) {v : Int32} (hdg : decode cc pc = .ok (.iastore, 1)) (kk : ∀ (σ' : St) (H1 : Heap) (locs1 : List Loc), σ' = setM σ (th, np, mk, lf, va_up nw j v, kp) → gM σ' = (th, np, mk, lf, va_up nw j v, kp) → Iv G σ' s H1 locs1 → W p l e R s m args below meth c H1 locs1 cells slots Q (F0 m (pc + 1) ls rest)) : W p l e R s m args below meth c H locs cells slots Q (F0 m pc ls (.int v :: .int (nI j) :: .ref (gB G 6) :: rest)) := by
  refine va_iast S.1 S.2.1 hI.K hI.2.1 hI.D hI.2.2 6 4 (f := nw) (n := 113) (cA := gC G 6) (by rw [wl_at G σ (by decide), ent, show σ.2.1 = _ from hm]) rfl (vp_nI hj (by omega)) hdg (fun H1 locs1 hP _ hS => kk _ H1 locs1 rfl rfl ⟨hI.1, ?_, hS⟩)
  rw [nI_clamp (by omega)] at hP
  rw [← setM_k G σ _ 6 (by omega) (fun i h1 h2 h3 => by
    rcases (show i = 3 ∨ i = 4 ∨ i = 5 ∨ i = 7 by omega) with rfl | rfl | rfl | rfl <;> simp only [ent, setM, show σ.2.1 = _ from hm])]
  exact hP
/-! references side by side -/
theorem gE_inj (hI : Iv G σ s H locs) {i j : Nat} (hi : i < 6) (hj : j < 6) : gE G i = gE G j ↔ i = j := ⟨hI.1.1.2.2 i j hi hj, fun h => by rw [h]⟩
theorem gB_inj (hI : Iv G σ s H locs) {i j : Nat} (hi : i < 36) (hj : j < 36) : gB G i = gB G j ↔ i = j := ⟨hI.1.1.1 i j hi hj, fun h => by rw [h]⟩
theorem ac_eq (S : CallFix p m c cc nL s args AL own) {a b : Nat} {off : Int} {tgt : Nat} (hdg : decode cc pc = .ok (.if_acmp .eq off, 3)) (ht : (pc : Int) + off = (tgt : Int)) (kt : a = b → W p l e R s m args below meth c H locs cells slots Q (F0 m tgt ls rest)) (kf : ¬ a = b → W p l e R s m args below meth c H locs cells slots Q (F0 m (pc + 3) ls rest)) : W p l e R s m args below meth c H locs cells slots Q (F0 m pc ls (.ref b :: .ref a :: rest)) :=
  lv_acmp_eq (rx := some a) (ry := some b) S.1 S.2.1 hdg ht (fun h => kt (Option.some.inj h)) (fun h => kf (fun q => h (by rw [q])))
theorem ac_ne (S : CallFix p m c cc nL s args AL own) {a b : Nat} {off : Int} {tgt : Nat} (hdg : decode cc pc = .ok (.if_acmp .ne off, 3)) (ht : (pc : Int) + off = (tgt : Int)) (kt : ¬ a = b → W p l e R s m args below meth c H locs cells slots Q (F0 m tgt ls rest)) (kf : a = b → W p l e R s m args below meth c H locs cells slots Q (F0 m (pc + 3) ls rest)) : W p l e R s m args below meth c H locs cells slots Q (F0 m pc ls (.ref b :: .ref a :: rest)) :=
  lv_acmp_ne (rx := some a) (ry := some b) S.1 S.2.1 hdg ht (fun h => kt (fun q => h (by rw [q]))) (fun h => kf (Option.some.inj h))
/-- stages side by side -/
theorem ag_eq (S : CallFix p m c cc nL s args AL own) (hI : Iv G σ s H locs) {a b : Nat} (ha : a < 6) (hb : b < 6) {off : Int} {tgt : Nat} (hdg : decode cc pc = .ok (.if_acmp .eq off, 3)) (ht : (pc : Int) + off = (tgt : Int)) (kt : a = b → W p l e R s m args below meth c H locs cells slots Q (F0 m tgt ls rest)) (kf : ¬ a = b → W p l e R s m args below meth c H locs cells slots Q (F0 m (pc + 3) ls rest)) : W p l e R s m args below meth c H locs cells slots Q (F0 m pc ls (.ref (gE G b) :: .ref (gE G a) :: rest)) :=
  ac_eq S hdg ht (fun h => kt ((gE_inj hI ha hb).mp h)) (fun h => kf (fun q => h ((gE_inj hI ha hb).mpr q)))
theorem ag_ne (S : CallFix p m c cc nL s args AL own) (hI : Iv G σ s H locs) {a b : Nat} (ha : a < 6) (hb : b < 6) {off : Int} {tgt : Nat} (hdg : decode cc pc = .ok (.if_acmp .ne off, 3)) (ht : (pc : Int) + off = (tgt : Int)) (kt : ¬ a = b → W p l e R s m args below meth c H locs cells slots Q (F0 m tgt ls rest)) (kf : a = b → W p l e R s m args below meth c H locs cells slots Q (F0 m (pc + 3) ls rest)) : W p l e R s m args below meth c H locs cells slots Q (F0 m pc ls (.ref (gE G b) :: .ref (gE G a) :: rest)) :=
  ac_ne S hdg ht (fun h => kt (fun q => h ((gE_inj hI ha hb).mpr q))) (fun h => kf ((gE_inj hI ha hb).mp h))
/-- a promise's shelf and a shelf -/
theorem shO_eq (hI : Iv G σ s H locs) {a b : Nat} (hb : b < 6) : shO G a = some (gB G (9 + b)) ↔ a = b := by
  unfold shO
  by_cases h : a < 6
  · rw [if_pos h]
    exact ⟨fun q => by have := (gB_inj hI (i := 9 + a) (j := 9 + b) (by omega) (by omega)).mp (Option.some.inj q); omega, fun q => by rw [q]⟩
  · rw [if_neg h]
    exact ⟨fun q => (by cases q), fun q => (by omega)⟩
theorem as_ne (S : CallFix p m c cc nL s args AL own) (hI : Iv G σ s H locs) {a b : Nat} (hb : b < 6) {off : Int} {tgt : Nat} (hdg : decode cc pc = .ok (.if_acmp .ne off, 3)) (ht : (pc : Int) + off = (tgt : Int)) (kt : ¬ a = b → W p l e R s m args below meth c H locs cells slots Q (F0 m tgt ls rest)) (kf : a = b → W p l e R s m args below meth c H locs cells slots Q (F0 m (pc + 3) ls rest)) : W p l e R s m args below meth c H locs cells slots Q (F0 m pc ls (.ref (gB G (9 + b)) :: va_rf (shO G a) :: rest)) :=
  lv_acmp_ne (rx := shO G a) (ry := some (gB G (9 + b))) S.1 S.2.1 hdg ht (fun h => kt (fun q => h ((shO_eq hI hb).mpr q))) (fun h => kf ((shO_eq hI hb).mp h))
/-- two shelves -/
theorem ass_ne (S : CallFix p m c cc nL s args AL own) (hI : Iv G σ s H locs) {a b : Nat} (ha : a < 6) (hb : b < 6) {off : Int} {tgt : Nat} (hdg : decode cc pc = .ok (.if_acmp .ne off, 3)) (ht : (pc : Int) + off = (tgt : Int)) (kt : ¬ a = b → W p l e R s m args below meth c H locs cells slots Q (F0 m tgt ls rest)) (kf : a = b → W p l e R s m args below meth c H locs cells slots Q (F0 m (pc + 3) ls rest)) : W p l e R s m args below meth c H locs cells slots Q (F0 m pc ls (.ref (gB G (9 + b)) :: .ref (gB G (9 + a)) :: rest)) :=
  ac_ne S hdg ht (fun h => kt (fun q => h (by rw [q]))) (fun h => kf (by have := (gB_inj hI (i := 9 + a) (j := 9 + b) (by omega) (by omega)).mp h; omega))
/-- is it on a shelf? -/
theorem nn_yes (S : CallFix p m c cc nL s args AL own) {a : Nat} {off : Int} {tgt : Nat} (hdg : decode cc pc = .ok (.ifnonnull off, 3)) (ht : (pc : Int) + off = (tgt : Int)) (kt : a < 6 → W p l e R s m args below meth c H locs cells slots Q (F0 m tgt ls rest)) (kf : ¬ a < 6 → W p l e R s m args below meth c H locs cells slots Q (F0 m (pc + 3) ls rest)) : W p l e R s m args below meth c H locs cells slots Q (F0 m pc ls (va_rf (shO G a) :: rest)) := by
  by_cases h : a < 6
  · rw [shO_s h]
    exact lv_ifnonnull S.1 S.2.1 hdg ht (kt h)
  · rw [shO, if_neg h]
    exact lv_ifnonnullN S.1 S.2.1 hdg (kf h)
theorem nn_no (S : CallFix p m c cc nL s args AL own) {a : Nat} {off : Int} {tgt : Nat} (hdg : decode cc pc = .ok (.ifnull off, 3)) (ht : (pc : Int) + off = (tgt : Int)) (kt : ¬ a < 6 → W p l e R s m args below meth c H locs cells slots Q (F0 m tgt ls rest)) (kf : a < 6 → W p l e R s m args below meth c H locs cells slots Q (F0 m (pc + 3) ls rest)) : W p l e R s m args below meth c H locs cells slots Q (F0 m pc ls (va_rf (shO G a) :: rest)) := by
  by_cases h : a < 6
  · rw [shO_s h]
    exact lv_ifnull S.1 S.2.1 hdg (kf h)
  · rw [shO, if_neg h]
    exact lv_ifnullN S.1 S.2.1 hdg ht (kt h)
end ARRS
end
section
/-! WHAT THE METHODS RECKON, as functions -/
def mn (x y : Int32) : Int32 := if y < x then y else x
def mx (x y : Int32) : Int32 := if x < y then y else x
def openH (h : Int32) : Int32 := mn (h + 2) 20
def hourS (pw : Int32) (x : Sh) : Sh := (x.1, if pw = 0 then mn (x.2 + 1) 20 else if x.1 ≤ x.2 then mx (x.2 - 2) x.1 else mn (x.2 + 2) x.1)
def draw (to h : Int32) : Int32 := h + (if (to - h) / 2 = 0 then to - h else (to - h) / 2)
def cool (h : Int32) (g : Nat) : Nat := if g = 2 ∧ ¬ h ≤ -4 then 3 else if g = 1 ∧ ¬ -10 < h then 2 else g
def older (x : Pr) : Pr := if x.1 = 2 then x else if x.2.2.2.2.1 + 1 < x.2.2.2.1 then (x.1, x.2.1, x.2.2.1, x.2.2.2.1, x.2.2.2.2.1 + 1, x.2.2.2.2.2) else (5, 6, x.2.2.1, x.2.2.2.1, x.2.2.2.2.1 + 1, x.2.2.2.2.2)
def hourP (to : Int32) (x : Pr) : Pr := if x.2.1 < 6 then older (cool (draw to x.2.2.2.2.2) x.1, x.2.1, x.2.2.1, x.2.2.2.1, x.2.2.2.2.1, draw to x.2.2.2.2.2) else x
def ringP (to : Int32) (x : Pr) : Int32 := if x.2.1 < 6 ∧ x.1 = 2 ∧ ¬ draw to x.2.2.2.2.2 ≤ -4 then 1 else 0
def sumN (f : Nat → Int32) : Nat → Int32
  | 0 => 0
  | k + 1 => sumN f k + f k
theorem pEta (x : Pr) : x = (x.1, x.2.1, x.2.2.1, x.2.2.2.1, x.2.2.2.2.1, x.2.2.2.2.2) := rfl
theorem sEta (x : Sh) : x = (x.1, x.2) := rfl
theorem xEta (x : Int32 × Int32 × Int32 × Int32) : x = (x.1, x.2.1, x.2.2.1, x.2.2.2) := rfl
theorem mEta (x : Km) : x = (x.1, x.2.1, x.2.2.1, x.2.2.2.1, x.2.2.2.2.1, x.2.2.2.2.2) := rfl
/-- the trial shelf and promise may be anything behind it -/
def TT (σ : St) (q : Sh) (x : Pr) : St := setP (setS σ 5 q) 20 x
def Tr (σ σ' : St) : Prop := ∃ (q : Sh) (x : Pr), σ' = TT σ q x
theorem Tr.rf (σ : St) : Tr σ σ := ⟨gS σ 5, gP σ 20, by simp only [TT, setS_same]; exact (setP_same σ 20).symm⟩
theorem TT_TT (σ : St) (q q' : Sh) (x x' : Pr) : TT (TT σ q x) q' x' = TT σ q' x' := by
  show setP (setS (setP (setS σ 5 q) 20 x) 5 q') 20 x' = _
  rw [show setS (setP (setS σ 5 q) 20 x) 5 q' = setP (setS (setS σ 5 q) 5 q') 20 x from rfl, setS_setS, setP_setP]
  rfl
theorem Tr.trans {a b c : St} (h1 : Tr a b) (h2 : Tr b c) : Tr a c := by
  obtain ⟨q, x, rfl⟩ := h1
  obtain ⟨q', x', rfl⟩ := h2
  exact ⟨q', x', TT_TT a q q' x x'⟩
theorem Tr.P {a b : St} (h : Tr a b) {i : Nat} (hi : i < 20) : gP b i = gP a i := by
  obtain ⟨q, x, rfl⟩ := h
  exact gP_setP_ne _ _ (by omega)
theorem Tr.S {a b : St} (h : Tr a b) {i : Nat} (hi : i < 5) : gS b i = gS a i := by
  obtain ⟨q, x, rfl⟩ := h
  exact gS_setS_ne _ _ (by omega)
theorem Tr.X {a b : St} (h : Tr a b) : gX b = gX a := by
  obtain ⟨q, x, rfl⟩ := h
  rfl
theorem Tr.M {a b : St} (h : Tr a b) : b.2 = a.2 := by
  obtain ⟨q, x, rfl⟩ := h
  rfl
def tr1 (pw : Int32) (z : Sh × Pr) : Sh × Pr := (hourS pw z.1, hourP (hourS pw z.1).2 z.2)
def trN (pw : Int32) : Nat → Sh × Pr → Sh × Pr
  | 0, z => z
  | n + 1, z => tr1 pw (trN pw n z)
/-- does it ring in the hour n? -/
def rgN (pw : Int32) (z : Sh × Pr) : Nat → Bool
  | 0 => false
  | n + 1 => ringP (hourS pw (trN pw n z).1).2 (trN pw n z).2 == 1
def fst1 (P : Nat → Bool) : Nat → Nat → Int32
  | 0, _ => -1
  | n + 1, k => if P k = true then nI k else fst1 P n (k + 1)
def trial (x : Pr) : Pr := (x.1, 5, x.2.2)
def hUntil (pw : Int32) (q : Sh) (x : Pr) (g : Nat) : Int32 := if x.1 = g then 0 else if x.2.1 < 6 then fst1 (fun n => decide ((trN pw n (q, trial x)).2.1 = g)) 200 1 else -1
def liesN (pw : Int32) (q : Sh) (x : Pr) (h : Nat) : Int32 := if x.2.1 < 6 then (if (trN pw h (q, trial x)).2.2.1 < 6 then 1 else 0) else 0
def newP : Pr := (1, 5, 0, 100, 0, 20)
def freezeN (pw : Int32) (q : Sh) : Int32 := fst1 (fun n => decide ((trN pw n ((q.1, openH q.2), newP)).2.1 = 2)) 200 1
def alarmN (q : Sh) (x : Pr) : Int32 := if x.2.1 < 6 then fst1 (rgN 0 (q, trial x)) 200 1 else -1
def sooner (a b : Int32) : Bool := decide (¬ a = -1 ∧ (b = -1 ∨ ¬ b ≤ a))
/-- the stages are stages, the shelves are shelves -/
def okP (σ : St) : Prop := ∀ i, i < 20 → (gP σ i).1 < 6 ∧ ((gP σ i).2.1 < 5 ∨ (gP σ i).2.1 = 6)
theorem okP.tr {a b : St} (h : okP a) (t : Tr a b) : okP b := fun i hi => by rw [t.P hi]; exact h i hi
theorem cool_lt {h : Int32} {g : Nat} (hg : g < 6) : cool h g < 6 := by unfold cool; split <;> (try split) <;> omega
theorem older_g {x : Pr} (h : x.1 < 6) : (older x).1 < 6 := by unfold older; split <;> (try split) <;> first | exact h | exact (show (5 : Nat) < 6 by decide)
theorem hourP_g {to : Int32} {x : Pr} (h : x.1 < 6) : (hourP to x).1 < 6 := by
  unfold hourP
  split
  · exact older_g (cool_lt h)
  · exact h
theorem older_s (x : Pr) : (older x).2.1 = x.2.1 ∨ (older x).2.1 = 6 := by unfold older; split <;> (try split) <;> first | exact Or.inl rfl | exact Or.inr rfl
theorem hourP_s (to : Int32) (x : Pr) : (hourP to x).2.1 = x.2.1 ∨ (hourP to x).2.1 = 6 := by
  unfold hourP
  split
  · exact older_s _
  · exact Or.inl rfl
/-- an hour of the class -/
def xS (σ : St) (k : Nat) : Nat → Sh := fun i => if i < k then hourS (gX σ).2.2.2 (gS σ i) else gS σ i
def xP (σ : St) (k : Nat) : Nat → Pr := fun i => if i < k then hourP (xS σ 5 (gP σ i).2.1).2 (gP σ i) else gP σ i
def xR (σ : St) : Nat → Int32 := fun i => ringP (xS σ 5 (gP σ i).2.1).2 (gP σ i)
def xH (σ : St) (a b : Nat) (h : Int32) : St := ((xS σ a, xP σ b, (gX σ).1, (gX σ).2.1 + sumN (xR σ) b, (gX σ).2.2.1 + h, (gX σ).2.2.2), σ.2)
def hourX (σ : St) : St := xH σ 5 20 1
theorem sumN_0 (f : Nat → Int32) : sumN f 0 = 0 := rfl
theorem sumN_s (f : Nat → Int32) (k : Nat) : sumN f (k + 1) = sumN f k + f k := rfl
theorem xH_0 (σ : St) : xH σ 0 0 0 = σ := by
  have e1 : xS σ 0 = σ.1.1 := by funext i; simp [xS]
  have e2 : xP σ 0 = σ.1.2.1 := by funext i; simp [xP]
  simp only [xH, e1, e2, sumN_0, Int32.add_zero]
theorem xH_S (σ : St) (k : Nat) : setS (xH σ k 0 0) k (hourS (gX σ).2.2.2 (gS σ k)) = xH σ (k + 1) 0 0 := by
  have e1 : va_up (xS σ k) k (hourS (gX σ).2.2.2 (gS σ k)) = xS σ (k + 1) := by
    funext i
    by_cases h : i = k
    · subst h; rw [va_up_self]; simp [xS]
    · rw [va_up_ne _ _ h]; unfold xS
      by_cases h2 : i < k
      · rw [if_pos h2, if_pos (by omega)]
      · rw [if_neg h2, if_neg (by omega)]
  show ((va_up (xS σ k) k _, _), _) = _
  rw [e1]
  rfl
theorem xH_gS (σ : St) (a b : Nat) (h : Int32) (i : Nat) : gS (xH σ a b h) i = xS σ a i := rfl
theorem xH_gP (σ : St) (a b : Nat) (h : Int32) (i : Nat) : gP (xH σ a b h) i = xP σ b i := rfl
theorem xS_ge (σ : St) {k i : Nat} (h : k ≤ i) : xS σ k i = gS σ i := if_neg (by omega)
theorem xP_ge (σ : St) {k i : Nat} (h : k ≤ i) : xP σ k i = gP σ i := if_neg (by omega)
theorem xH_P (σ : St) (k : Nat) : setX (setP (xH σ 5 k 0) k (hourP (xS σ 5 (gP σ k).2.1).2 (gP σ k))) ((gX σ).1, (gX σ).2.1 + sumN (xR σ) k + xR σ k, (gX σ).2.2.1 + 0, (gX σ).2.2.2) = xH σ 5 (k + 1) 0 := by
  have e1 : va_up (xP σ k) k (hourP (xS σ 5 (gP σ k).2.1).2 (gP σ k)) = xP σ (k + 1) := by
    funext i
    by_cases h : i = k
    · subst h; rw [va_up_self]; simp [xP]
    · rw [va_up_ne _ _ h]; unfold xP
      by_cases h2 : i < k
      · rw [if_pos h2, if_pos (by omega)]
      · rw [if_neg h2, if_neg (by omega)]
  show ((xS σ 5, va_up (xP σ k) k _, _), _) = _
  rw [e1, Int32.add_assoc]
  rfl
def hourXs : Nat → St → St
  | 0, σ => σ
  | n + 1, σ => hourX (hourXs n σ)
end
section
set_option maxRecDepth 100000 in
set_option maxHeartbeats 4000000 in
theorem c_openDoor (l : Launch) (G : Gt) (σ : St) {i : Nat} (hi : i < 6) {st ht : Int32} (hp : gS σ i = (st, ht)) : Ct l G yX1_openDoor cX1_openDoor 1 none 1 0 0 [.ref (gB G (9 + i))] σ (Qv G (fun σ' => σ' = setS σ i (st, openH ht))) := by
  refine mt_intro (by decide +kernel) (Nat.le_of_ble_eq_true rfl) ?_
  intro p e s m below meth c S hr hlk hnm hI ls hl
  have hl : lv_has ls 1 [(0, .ref (gB G (9 + i)))] := hl
  refine lv_aload_n S.1 S.2.1 dX1_openDoor_0 rfl (lv_at hl 0 rfl) ?_
  refine lv_aload_n S.1 S.2.1 dX1_openDoor_1 rfl (lv_at hl 0 rfl) ?_
  refine g_X1_S_heat S hI hi hp dX1_openDoor_2 ?_
  refine lv_iconst (v := 2) S.1 S.2.1 dX1_openDoor_5 (by decide) ?_
  refine lv_iadd S.1 S.2.1 dX1_openDoor_6 ?_
  refine lv_bipush (v := 20) S.1 S.2.1 dX1_openDoor_7 (by decide) ?_
  refine mt_X1_min S hl.1 ⟨Nat.le_of_ble_eq_true rfl, Nat.le_of_ble_eq_true rfl⟩ ⟨Nat.le_of_ble_eq_true rfl, Nat.le_of_ble_eq_true rfl⟩ dX1_openDoor_9 ?_
  refine p_X1_S_heat S hI hi hp dX1_openDoor_12 (fun σ1 H locs ey1 hz1 hI => ?_)
  exact xt_v S hI hr hlk (by rw [ey1]; rfl) (by decide) (by decide) dX1_openDoor_15
set_option maxRecDepth 100000 in
set_option maxHeartbeats 4000000 in
theorem c_S_hour (l : Launch) (G : Gt) (σ : St) {i : Nat} (hi : i < 6) {st ht : Int32} (hp : gS σ i = (st, ht)) (pw : Int32) : Ct l G yX1_liveAnHour cX1_liveAnHour 2 none 1 0 0 [.ref (gB G (9 + i)), .int pw] σ (Qv G (fun σ' => σ' = setS σ i (hourS pw (st, ht)))) := by
  refine mt_intro (by decide +kernel) (Nat.le_of_ble_eq_true rfl) ?_
  intro p e s m below meth c S hr hlk hnm hI ls hl
  have hl : lv_has ls 2 [(0, .ref (gB G (9 + i))), (1, .int pw)] := hl
  refine lv_iload_n S.1 S.2.1 dX1_liveAnHour_0 rfl (lv_at hl 1 rfl) ?_
  refine lv_if_ne (tgt := 22) S.1 S.2.1 dX1_liveAnHour_1 (by decide) (fun cz_1 => ?_) (fun cz_1 => ?_)
  · refine lv_aload_n S.1 S.2.1 dX1_liveAnHour_22 rfl (lv_at hl 0 rfl) ?_
    refine g_X1_S_heat S hI hi hp dX1_liveAnHour_23 ?_
    refine lv_aload_n S.1 S.2.1 dX1_liveAnHour_26 rfl (lv_at hl 0 rfl) ?_
    refine g_X1_S_setting S hI hi hp dX1_liveAnHour_27 ?_
    refine lv_icmp_ge (tgt := 53) S.1 S.2.1 dX1_liveAnHour_30 (by decide) (fun cz_30 => ?_) (fun cz_30 => ?_)
    · refine lv_aload_n S.1 S.2.1 dX1_liveAnHour_53 rfl (lv_at hl 0 rfl) ?_
      refine lv_aload_n S.1 S.2.1 dX1_liveAnHour_54 rfl (lv_at hl 0 rfl) ?_
      refine g_X1_S_heat S hI hi hp dX1_liveAnHour_55 ?_
      refine lv_iconst (v := 2) S.1 S.2.1 dX1_liveAnHour_58 (by decide) ?_
      refine lv_isub S.1 S.2.1 dX1_liveAnHour_59 ?_
      refine lv_aload_n S.1 S.2.1 dX1_liveAnHour_60 rfl (lv_at hl 0 rfl) ?_
      refine g_X1_S_setting S hI hi hp dX1_liveAnHour_61 ?_
      refine mt_X1_max S hl.1 ⟨Nat.le_of_ble_eq_true rfl, Nat.le_of_ble_eq_true rfl⟩ ⟨Nat.le_of_ble_eq_true rfl, Nat.le_of_ble_eq_true rfl⟩ dX1_liveAnHour_64 ?_
      refine p_X1_S_heat S hI hi hp dX1_liveAnHour_67 (fun σ1 H locs ey1 hz1 hI => ?_)
      exact xt_v S hI hr hlk (by rw [ey1]; simp only [hourS, cz_1, cz_30, if_true, if_false]; rfl) (by decide) (by decide) dX1_liveAnHour_70
    · refine lv_aload_n S.1 S.2.1 dX1_liveAnHour_33 rfl (lv_at hl 0 rfl) ?_
      refine lv_aload_n S.1 S.2.1 dX1_liveAnHour_34 rfl (lv_at hl 0 rfl) ?_
      refine g_X1_S_heat S hI hi hp dX1_liveAnHour_35 ?_
      refine lv_iconst (v := 2) S.1 S.2.1 dX1_liveAnHour_38 (by decide) ?_
      refine lv_iadd S.1 S.2.1 dX1_liveAnHour_39 ?_
      refine lv_aload_n S.1 S.2.1 dX1_liveAnHour_40 rfl (lv_at hl 0 rfl) ?_
      refine g_X1_S_setting S hI hi hp dX1_liveAnHour_41 ?_
      refine mt_X1_min S hl.1 ⟨Nat.le_of_ble_eq_true rfl, Nat.le_of_ble_eq_true rfl⟩ ⟨Nat.le_of_ble_eq_true rfl, Nat.le_of_ble_eq_true rfl⟩ dX1_liveAnHour_44 ?_
      refine p_X1_S_heat S hI hi hp dX1_liveAnHour_47 (fun σ2 H locs ey2 hz2 hI => ?_)
      refine lv_goto (tgt := 70) S.1 S.2.1 dX1_liveAnHour_50 (by decide) ?_
      exact xt_v S hI hr hlk (by rw [ey2]; simp only [hourS, cz_1, cz_30, if_true, if_false]; rfl) (by decide) (by decide) dX1_liveAnHour_70
  · refine lv_aload_n S.1 S.2.1 dX1_liveAnHour_4 rfl (lv_at hl 0 rfl) ?_
    refine lv_aload_n S.1 S.2.1 dX1_liveAnHour_5 rfl (lv_at hl 0 rfl) ?_
    refine g_X1_S_heat S hI hi hp dX1_liveAnHour_6 ?_
    refine lv_iconst (v := 1) S.1 S.2.1 dX1_liveAnHour_9 (by decide) ?_
    refine lv_iadd S.1 S.2.1 dX1_liveAnHour_10 ?_
    refine lv_bipush (v := 20) S.1 S.2.1 dX1_liveAnHour_11 (by decide) ?_
    refine mt_X1_min S hl.1 ⟨Nat.le_of_ble_eq_true rfl, Nat.le_of_ble_eq_true rfl⟩ ⟨Nat.le_of_ble_eq_true rfl, Nat.le_of_ble_eq_true rfl⟩ dX1_liveAnHour_13 ?_
    refine p_X1_S_heat S hI hi hp dX1_liveAnHour_16 (fun σ3 H locs ey3 hz3 hI => ?_)
    refine lv_goto (tgt := 70) S.1 S.2.1 dX1_liveAnHour_19 (by decide) ?_
    exact xt_v S hI hr hlk (by rw [ey3]; simp only [hourS, cz_1, if_true, if_false]; rfl) (by decide) (by decide) dX1_liveAnHour_70
set_option maxRecDepth 100000 in
set_option maxHeartbeats 4000000 in
theorem c_S_like (l : Launch) (G : Gt) (σ : St) {i j : Nat} (hi : i < 6) (hj : j < 6) (hij : j ≠ i) {st ht st2 ht2 : Int32} (hp : gS σ i = (st, ht)) (hp2 : gS σ j = (st2, ht2)) : Ct l G yX1_becomeLike cX1_becomeLike 2 none 1 0 0 [.ref (gB G (9 + i)), .ref (gB G (9 + j))] σ (Qv G (fun σ' => σ' = setS σ i (st2, ht2))) := by
  refine mt_intro (by decide +kernel) (Nat.le_of_ble_eq_true rfl) ?_
  intro p e s m below meth c S hr hlk hnm hI ls hl
  have hl : lv_has ls 2 [(0, .ref (gB G (9 + i))), (1, .ref (gB G (9 + j)))] := hl
  refine lv_aload_n S.1 S.2.1 dX1_becomeLike_0 rfl (lv_at hl 0 rfl) ?_
  refine lv_aload_n S.1 S.2.1 dX1_becomeLike_1 rfl (lv_at hl 1 rfl) ?_
  refine g_X1_S_setting S hI hj hp2 dX1_becomeLike_2 ?_
  refine p_X1_S_setting S hI hi hp dX1_becomeLike_5 (fun σ1 H locs ey1 hz1 hI => ?_)
  have hp2__2 : gS σ1 j = (st2, ht2) := by rw [ey1, gS_setS_ne _ _ hij]; exact hp2
  refine lv_aload_n S.1 S.2.1 dX1_becomeLike_8 rfl (lv_at hl 0 rfl) ?_
  refine lv_aload_n S.1 S.2.1 dX1_becomeLike_9 rfl (lv_at hl 1 rfl) ?_
  refine g_X1_S_heat S hI hj hp2__2 dX1_becomeLike_10 ?_
  refine p_X1_S_heat S hI hi hz1 dX1_becomeLike_13 (fun σ3 H locs ey3 hz3 hI => ?_)
  have hp2__4 : gS σ3 j = (st2, ht2) := by rw [ey3, gS_setS_ne _ _ hij]; exact hp2__2
  exact xt_v S hI hr hlk (by rw [ey3, ey1]; simp only [setS_setS]) (by decide) (by decide) dX1_becomeLike_16
set_option maxRecDepth 100000 in
set_option maxHeartbeats 4000000 in
theorem c_P_lay (l : Launch) (G : Gt) (σ : St) {i : Nat} (hi : i < 21) {g sh : Nat} {mk lf ag ht : Int32} (hp : gP σ i = (g, sh, mk, lf, ag, ht)) (a b : Int32) {k : Nat} (hk : k < 6) : Ct l G yX0_layAnew cX0_layAnew 4 none 1 0 0 [.ref (gB G (15 + i)), .int a, .int b, .ref (gB G (9 + k))] σ (Qv G (fun σ' => σ' = setP σ i (1, k, a, b, 0, 20))) := by
  refine mt_intro (by decide +kernel) (Nat.le_of_ble_eq_true rfl) ?_
  intro p e s m below meth c S hr hlk hnm hI ls hl
  have hl : lv_has ls 4 [(0, .ref (gB G (15 + i))), (1, .int a), (2, .int b), (3, .ref (gB G (9 + k)))] := hl
  refine lv_aload_n S.1 S.2.1 dX0_layAnew_0 rfl (lv_at hl 0 rfl) ?_
  refine gs_X0_FRESH S hI dX0_layAnew_1 ?_
  refine p_X0_P_stage S hI hi hp dX0_layAnew_4 (fun σ1 H locs ey1 hz1 hI => ?_)
  refine lv_aload_n S.1 S.2.1 dX0_layAnew_7 rfl (lv_at hl 0 rfl) ?_
  refine lv_aload_n S.1 S.2.1 dX0_layAnew_8 rfl (lv_at hl 3 rfl) ?_
  refine p_X0_P_shelf_s S hI hi hz1 hk dX0_layAnew_9 (fun σ2 H locs ey2 hz2 hI => ?_)
  refine lv_aload_n S.1 S.2.1 dX0_layAnew_12 rfl (lv_at hl 0 rfl) ?_
  refine lv_iload_n S.1 S.2.1 dX0_layAnew_13 rfl (lv_at hl 1 rfl) ?_
  refine p_X0_P_maker S hI hi hz2 dX0_layAnew_14 (fun σ3 H locs ey3 hz3 hI => ?_)
  refine lv_aload_n S.1 S.2.1 dX0_layAnew_17 rfl (lv_at hl 0 rfl) ?_
  refine lv_iload_n S.1 S.2.1 dX0_layAnew_18 rfl (lv_at hl 2 rfl) ?_
  refine p_X0_P_life S hI hi hz3 dX0_layAnew_19 (fun σ4 H locs ey4 hz4 hI => ?_)
  refine lv_aload_n S.1 S.2.1 dX0_layAnew_22 rfl (lv_at hl 0 rfl) ?_
  refine lv_iconst (v := 0) S.1 S.2.1 dX0_layAnew_23 (by decide) ?_
  refine p_X0_P_age S hI hi hz4 dX0_layAnew_24 (fun σ5 H locs ey5 hz5 hI => ?_)
  refine lv_aload_n S.1 S.2.1 dX0_layAnew_27 rfl (lv_at hl 0 rfl) ?_
  refine lv_bipush (v := 20) S.1 S.2.1 dX0_layAnew_28 (by decide) ?_
  refine p_X0_P_heat S hI hi hz5 dX0_layAnew_30 (fun σ6 H locs ey6 hz6 hI => ?_)
  exact xt_v S hI hr hlk (by rw [ey6, ey5, ey4, ey3, ey2, ey1]; simp only [setP_setP]) (by decide) (by decide) dX0_layAnew_33
set_option maxRecDepth 100000 in
set_option maxHeartbeats 4000000 in
theorem c_P_like (l : Launch) (G : Gt) (σ : St) {i j : Nat} (hi : i < 21) (hj : j < 21) (hij : j ≠ i) {g sh : Nat} {mk lf ag ht : Int32} (hp : gP σ i = (g, sh, mk, lf, ag, ht)) {g2 sh2 : Nat} {mk2 lf2 ag2 ht2 : Int32} (hp2 : gP σ j = (g2, sh2, mk2, lf2, ag2, ht2)) {k : Nat} (hk : k < 6) : Ct l G yX0_becomeLike cX0_becomeLike 3 none 1 0 0 [.ref (gB G (15 + i)), .ref (gB G (15 + j)), .ref (gB G (9 + k))] σ (Qv G (fun σ' => σ' = setP σ i (g2, k, mk2, lf2, ag2, ht2))) := by
  refine mt_intro (by decide +kernel) (Nat.le_of_ble_eq_true rfl) ?_
  intro p e s m below meth c S hr hlk hnm hI ls hl
  have hl : lv_has ls 3 [(0, .ref (gB G (15 + i))), (1, .ref (gB G (15 + j))), (2, .ref (gB G (9 + k)))] := hl
  refine lv_aload_n S.1 S.2.1 dX0_becomeLike_0 rfl (lv_at hl 0 rfl) ?_
  refine lv_aload_n S.1 S.2.1 dX0_becomeLike_1 rfl (lv_at hl 1 rfl) ?_
  refine g_X0_P_stage S hI hj hp2 dX0_becomeLike_2 ?_
  refine p_X0_P_stage S hI hi hp dX0_becomeLike_5 (fun σ1 H locs ey1 hz1 hI => ?_)
  have hp2__2 : gP σ1 j = (g2, sh2, mk2, lf2, ag2, ht2) := by rw [ey1, gP_setP_ne _ _ hij]; exact hp2
  refine lv_aload_n S.1 S.2.1 dX0_becomeLike_8 rfl (lv_at hl 0 rfl) ?_
  refine lv_aload_n S.1 S.2.1 dX0_becomeLike_9 rfl (lv_at hl 2 rfl) ?_
  refine p_X0_P_shelf_s S hI hi hz1 hk dX0_becomeLike_10 (fun σ3 H locs ey3 hz3 hI => ?_)
  have hp2__4 : gP σ3 j = (g2, sh2, mk2, lf2, ag2, ht2) := by rw [ey3, gP_setP_ne _ _ hij]; exact hp2__2
  refine lv_aload_n S.1 S.2.1 dX0_becomeLike_13 rfl (lv_at hl 0 rfl) ?_
  refine lv_aload_n S.1 S.2.1 dX0_becomeLike_14 rfl (lv_at hl 1 rfl) ?_
  refine g_X0_P_maker S hI hj hp2__4 dX0_becomeLike_15 ?_
  refine p_X0_P_maker S hI hi hz3 dX0_becomeLike_18 (fun σ5 H locs ey5 hz5 hI => ?_)
  have hp2__6 : gP σ5 j = (g2, sh2, mk2, lf2, ag2, ht2) := by rw [ey5, gP_setP_ne _ _ hij]; exact hp2__4
  refine lv_aload_n S.1 S.2.1 dX0_becomeLike_21 rfl (lv_at hl 0 rfl) ?_
  refine lv_aload_n S.1 S.2.1 dX0_becomeLike_22 rfl (lv_at hl 1 rfl) ?_
  refine g_X0_P_life S hI hj hp2__6 dX0_becomeLike_23 ?_
  refine p_X0_P_life S hI hi hz5 dX0_becomeLike_26 (fun σ7 H locs ey7 hz7 hI => ?_)
  have hp2__8 : gP σ7 j = (g2, sh2, mk2, lf2, ag2, ht2) := by rw [ey7, gP_setP_ne _ _ hij]; exact hp2__6
  refine lv_aload_n S.1 S.2.1 dX0_becomeLike_29 rfl (lv_at hl 0 rfl) ?_
  refine lv_aload_n S.1 S.2.1 dX0_becomeLike_30 rfl (lv_at hl 1 rfl) ?_
  refine g_X0_P_age S hI hj hp2__8 dX0_becomeLike_31 ?_
  refine p_X0_P_age S hI hi hz7 dX0_becomeLike_34 (fun σ9 H locs ey9 hz9 hI => ?_)
  have hp2__10 : gP σ9 j = (g2, sh2, mk2, lf2, ag2, ht2) := by rw [ey9, gP_setP_ne _ _ hij]; exact hp2__8
  refine lv_aload_n S.1 S.2.1 dX0_becomeLike_37 rfl (lv_at hl 0 rfl) ?_
  refine lv_aload_n S.1 S.2.1 dX0_becomeLike_38 rfl (lv_at hl 1 rfl) ?_
  refine g_X0_P_heat S hI hj hp2__10 dX0_becomeLike_39 ?_
  refine p_X0_P_heat S hI hi hz9 dX0_becomeLike_42 (fun σ11 H locs ey11 hz11 hI => ?_)
  have hp2__12 : gP σ11 j = (g2, sh2, mk2, lf2, ag2, ht2) := by rw [ey11, gP_setP_ne _ _ hij]; exact hp2__10
  exact xt_v S hI hr hlk (by rw [ey11, ey9, ey7, ey5, ey3, ey1]; simp only [setP_setP]) (by decide) (by decide) dX0_becomeLike_45
set_option maxRecDepth 100000 in
set_option maxHeartbeats 4000000 in
theorem c_P_leave (l : Launch) (G : Gt) (σ : St) {i : Nat} (hi : i < 21) {g sh : Nat} {mk lf ag ht : Int32} (hp : gP σ i = (g, sh, mk, lf, ag, ht)) (k : Nat) : Ct l G yX0_leaveAs cX0_leaveAs 2 none 1 0 0 [.ref (gB G (15 + i)), .ref (gE G k)] σ (Qv G (fun σ' => σ' = setP σ i (k, 6, mk, lf, ag, ht))) := by
  refine mt_intro (by decide +kernel) (Nat.le_of_ble_eq_true rfl) ?_
  intro p e s m below meth c S hr hlk hnm hI ls hl
  have hl : lv_has ls 2 [(0, .ref (gB G (15 + i))), (1, .ref (gE G k))] := hl
  refine lv_aload_n S.1 S.2.1 dX0_leaveAs_0 rfl (lv_at hl 0 rfl) ?_
  refine lv_aload_n S.1 S.2.1 dX0_leaveAs_1 rfl (lv_at hl 1 rfl) ?_
  refine p_X0_P_stage S hI hi hp dX0_leaveAs_2 (fun σ1 H locs ey1 hz1 hI => ?_)
  refine lv_aload_n S.1 S.2.1 dX0_leaveAs_5 rfl (lv_at hl 0 rfl) ?_
  refine lv_null S.1 S.2.1 dX0_leaveAs_6 ?_
  refine p_X0_P_shelf_n S hI hi hz1 dX0_leaveAs_7 (fun σ2 H locs ey2 hz2 hI => ?_)
  exact xt_v S hI hr hlk (by rw [ey2, ey1]; simp only [setP_setP]) (by decide) (by decide) dX0_leaveAs_10
set_option maxRecDepth 100000 in
set_option maxHeartbeats 4000000 in
theorem c_P_draw (l : Launch) (G : Gt) (σ : St) {i : Nat} (hi : i < 21) {g sh : Nat} {mk lf ag ht : Int32} (hp : gP σ i = (g, sh, mk, lf, ag, ht)) (to : Int32) : Ct l G yX0_drawNearTo cX0_drawNearTo 4 none 1 0 0 [.ref (gB G (15 + i)), .int to] σ (Qv G (fun σ' => σ' = setP σ i (g, sh, mk, lf, ag, draw to ht))) := by
  refine mt_intro (by decide +kernel) (Nat.le_of_ble_eq_true rfl) ?_
  intro p e s m below meth c S hr hlk hnm hI ls hl
  have hl : lv_has ls 4 [(0, .ref (gB G (15 + i))), (1, .int to)] := hl
  refine lv_iload_n S.1 S.2.1 dX0_drawNearTo_0 rfl (lv_at hl 1 rfl) ?_
  refine lv_aload_n S.1 S.2.1 dX0_drawNearTo_1 rfl (lv_at hl 0 rfl) ?_
  refine g_X0_P_heat S hI hi hp dX0_drawNearTo_2 ?_
  refine lv_isub S.1 S.2.1 dX0_drawNearTo_5 ?_
  refine lv_istore_n (lv' := [(2, .int (to - ht)), (0, .ref (gB G (15 + i))), (1, .int to)]) S.1 S.2.1 dX0_drawNearTo_6 rfl hl (by decide) rfl (fun ls hl => ?_)
  refine lv_iload_n S.1 S.2.1 dX0_drawNearTo_7 rfl (lv_at hl 0 rfl) ?_
  refine lv_iconst (v := 2) S.1 S.2.1 dX0_drawNearTo_8 (by decide) ?_
  refine lv_idiv S.1 S.2.1 dX0_drawNearTo_9 (by decide) ?_
  refine lv_istore_n (lv' := [(3, .int ((to - ht) / 2)), (2, .int (to - ht)), (0, .ref (gB G (15 + i))), (1, .int to)]) S.1 S.2.1 dX0_drawNearTo_10 rfl hl (by decide) rfl (fun ls hl => ?_)
  refine lv_aload_n S.1 S.2.1 dX0_drawNearTo_11 rfl (lv_at hl 2 rfl) ?_
  refine lv_dup S.1 S.2.1 dX0_drawNearTo_12 rfl ?_
  refine g_X0_P_heat S hI hi hp dX0_drawNearTo_13 ?_
  refine lv_iload_n S.1 S.2.1 dX0_drawNearTo_16 rfl (lv_at hl 0 rfl) ?_
  refine lv_if_ne (tgt := 24) S.1 S.2.1 dX0_drawNearTo_17 (by decide) (fun cz_17 => ?_) (fun cz_17 => ?_)
  · refine lv_iload_n S.1 S.2.1 dX0_drawNearTo_24 rfl (lv_at hl 0 rfl) ?_
    refine lv_iadd S.1 S.2.1 dX0_drawNearTo_25 ?_
    refine p_X0_P_heat S hI hi hp dX0_drawNearTo_26 (fun σ1 H locs ey1 hz1 hI => ?_)
    exact xt_v S hI hr hlk (by rw [ey1]; simp only [draw, cz_17, if_true, if_false]) (by decide) (by decide) dX0_drawNearTo_29
  · refine lv_iload_n S.1 S.2.1 dX0_drawNearTo_20 rfl (lv_at hl 1 rfl) ?_
    refine lv_goto (tgt := 25) S.1 S.2.1 dX0_drawNearTo_21 (by decide) ?_
    refine lv_iadd S.1 S.2.1 dX0_drawNearTo_25 ?_
    refine p_X0_P_heat S hI hi hp dX0_drawNearTo_26 (fun σ2 H locs ey2 hz2 hI => ?_)
    exact xt_v S hI hr hlk (by rw [ey2]; simp only [draw, cz_17, if_true, if_false]) (by decide) (by decide) dX0_drawNearTo_29
set_option maxRecDepth 100000 in
set_option maxHeartbeats 4000000 in
theorem c_P_hour_s (l : Launch) (G : Gt) (σ : St) {i : Nat} (hi : i < 21) {g sh : Nat} {mk lf ag ht : Int32} (hp : gP σ i = (g, sh, mk, lf, ag, ht)) (hg : g < 6) (hs : sh < 6) {st to : Int32} (hq : gS σ sh = (st, to)) : Ct l G yX0_liveAnHour cX0_liveAnHour 2 (some .boolean) 2 0 0 [.ref (gB G (15 + i))] σ (Qi G (fun r σ' => r = ringP to (g, sh, mk, lf, ag, ht) ∧ σ' = setP σ i (hourP to (g, sh, mk, lf, ag, ht)))) := by
  refine mt_intro (by decide +kernel) (Nat.le_of_ble_eq_true rfl) ?_
  intro p e s m below meth c S hr hlk hnm hI ls hl
  have hl : lv_has ls 2 [(0, .ref (gB G (15 + i)))] := hl
  refine lv_aload_n S.1 S.2.1 dX0_liveAnHour_0 rfl (lv_at hl 0 rfl) ?_
  refine g_X0_P_shelf_s S hI hi hp hs dX0_liveAnHour_1 ?_
  refine lv_ifnonnull (tgt := 9) S.1 S.2.1 dX0_liveAnHour_4 (by decide) ?_
  refine lv_aload_n S.1 S.2.1 dX0_liveAnHour_9 rfl (lv_at hl 0 rfl) ?_
  refine lv_aload_n S.1 S.2.1 dX0_liveAnHour_10 rfl (lv_at hl 0 rfl) ?_
  refine g_X0_P_shelf_s S hI hi hp hs dX0_liveAnHour_11 ?_
  refine g_X0_S_heat S hI hs hq dX0_liveAnHour_14 ?_
  refine cl_v hI (rnV (As := [.int to]) (rest := []) S hI (c_P_draw l G _ hi hp _) (cw_X0_X0_drawNearTo S.2.2.2.2 ⟨Nat.le_of_ble_eq_true rfl, Nat.le_of_ble_eq_true rfl⟩) (rcP hI hi) rfl hl.1 (Nat.le_of_ble_eq_true rfl) dX0_liveAnHour_17 ⟨Nat.le_of_ble_eq_true rfl, Nat.le_of_ble_eq_true rfl⟩) (fun σ1 H locs hq1 hI => ?_)
  have ez1 := hq1
  have hP1 : gP σ1 i = (g, sh, mk, lf, ag, (draw to ht)) := by rw [ez1]; exact gP_setP _ _ _
  have hq__2 : gS σ1 sh = (st, to) := by rw [ez1]; exact hq
  refine lv_aload_n S.1 S.2.1 dX0_liveAnHour_20 rfl (lv_at hl 0 rfl) ?_
  refine g_X0_P_stage S hI hi hP1 dX0_liveAnHour_21 ?_
  refine gs_X0_FROZEN S hI dX0_liveAnHour_24 ?_
  refine ag_ne S hI hg (by decide) (tgt := 43) dX0_liveAnHour_27 (by decide) (fun cz_27 => ?_) (fun cz_27 => ?_)
  · refine lv_iconst (v := 0) S.1 S.2.1 dX0_liveAnHour_43 (by decide) ?_
    refine lv_istore_n (lv' := [(1, .int 0), (0, .ref (gB G (15 + i)))]) S.1 S.2.1 dX0_liveAnHour_44 rfl hl (by decide) rfl (fun ls hl => ?_)
    refine lv_iload_n S.1 S.2.1 dX0_liveAnHour_45 rfl (lv_at hl 0 rfl) ?_
    refine lv_if_eq (tgt := 59) S.1 S.2.1 dX0_liveAnHour_46 (by decide) (fun _ => ?_) (fun c9 => absurd c9 (by decide))
    refine lv_aload_n S.1 S.2.1 dX0_liveAnHour_59 rfl (lv_at hl 1 rfl) ?_
    refine g_X0_P_stage S hI hi hP1 dX0_liveAnHour_60 ?_
    refine gs_X0_FRESH S hI dX0_liveAnHour_63 ?_
    refine ag_ne S hI hg (by decide) (tgt := 85) dX0_liveAnHour_66 (by decide) (fun cz_66 => ?_) (fun cz_66 => ?_)
    · refine lv_aload_n S.1 S.2.1 dX0_liveAnHour_85 rfl (lv_at hl 1 rfl) ?_
      refine g_X0_P_stage S hI hi hP1 dX0_liveAnHour_86 ?_
      refine gs_X0_FROZEN S hI dX0_liveAnHour_89 ?_
      refine ag_eq S hI hg (by decide) (tgt := 123) dX0_liveAnHour_92 (by decide) (fun cz_92 => ?_) (fun cz_92 => ?_)
      · refine lv_iload_n S.1 S.2.1 dX0_liveAnHour_123 rfl (lv_at hl 0 rfl) ?_
        exact xt_z S hI hr hlk rfl (absurd cz_92 cz_27) (by decide) (by decide) dX0_liveAnHour_124
      · refine lv_aload_n S.1 S.2.1 dX0_liveAnHour_95 rfl (lv_at hl 1 rfl) ?_
        refine lv_dup S.1 S.2.1 dX0_liveAnHour_96 rfl ?_
        refine g_X0_P_age S hI hi hP1 dX0_liveAnHour_97 ?_
        refine lv_iconst (v := 1) S.1 S.2.1 dX0_liveAnHour_100 (by decide) ?_
        refine lv_iadd S.1 S.2.1 dX0_liveAnHour_101 ?_
        refine p_X0_P_age S hI hi hP1 dX0_liveAnHour_102 (fun σ3 H locs ey3 hz3 hI => ?_)
        have hq__4 : gS σ3 sh = (st, to) := by rw [ey3]; exact hq__2
        refine lv_aload_n S.1 S.2.1 dX0_liveAnHour_105 rfl (lv_at hl 1 rfl) ?_
        refine g_X0_P_age S hI hi hz3 dX0_liveAnHour_106 ?_
        refine lv_aload_n S.1 S.2.1 dX0_liveAnHour_109 rfl (lv_at hl 1 rfl) ?_
        refine g_X0_P_life S hI hi hz3 dX0_liveAnHour_110 ?_
        refine lv_icmp_lt (tgt := 123) S.1 S.2.1 dX0_liveAnHour_113 (by decide) (fun cz_113 => ?_) (fun cz_113 => ?_)
        · refine lv_iload_n S.1 S.2.1 dX0_liveAnHour_123 rfl (lv_at hl 0 rfl) ?_
          exact xt_z S hI hr hlk rfl (by rw [ey3, ez1]; simp [ringP, hourP, cool, older, setP_setP, hs, cz_27, cz_66, cz_92, cz_113]) (by decide) (by decide) dX0_liveAnHour_124
        · refine lv_aload_n S.1 S.2.1 dX0_liveAnHour_116 rfl (lv_at hl 1 rfl) ?_
          refine gs_X0_EXPIRED S hI dX0_liveAnHour_117 ?_
          refine cl_v hI (rnV (As := [.ref (gE G 5)]) (rest := []) S hI (c_P_leave l G _ hi hz3 _) (cw_X0_X0_leaveAs S.2.2.2.2 ⟨Nat.le_of_ble_eq_true rfl, Nat.le_of_ble_eq_true rfl⟩) (rcP hI hi) rfl hl.1 (Nat.le_of_ble_eq_true rfl) dX0_liveAnHour_120 ⟨Nat.le_of_ble_eq_true rfl, Nat.le_of_ble_eq_true rfl⟩) (fun σ5 H locs hq5 hI => ?_)
          have ez5 := hq5
          have hP5 : gP σ5 i = (5, 6, mk, lf, (ag + 1), (draw to ht)) := by rw [ez5]; exact gP_setP _ _ _
          have hq__6 : gS σ5 sh = (st, to) := by rw [ez5]; exact hq__4
          refine lv_iload_n S.1 S.2.1 dX0_liveAnHour_123 rfl (lv_at hl 0 rfl) ?_
          exact xt_z S hI hr hlk rfl (by rw [ez5, ey3, ez1]; simp [ringP, hourP, cool, older, setP_setP, hs, cz_27, cz_66, cz_92, cz_113]) (by decide) (by decide) dX0_liveAnHour_124
    · refine lv_aload_n S.1 S.2.1 dX0_liveAnHour_69 rfl (lv_at hl 1 rfl) ?_
      refine g_X0_P_heat S hI hi hP1 dX0_liveAnHour_70 ?_
      refine lv_bipush (v := (-10)) S.1 S.2.1 dX0_liveAnHour_73 (by decide) ?_
      refine lv_icmp_gt (tgt := 85) S.1 S.2.1 dX0_liveAnHour_75 (by decide) (fun cz_75 => ?_) (fun cz_75 => ?_)
      · refine lv_aload_n S.1 S.2.1 dX0_liveAnHour_85 rfl (lv_at hl 1 rfl) ?_
        refine g_X0_P_stage S hI hi hP1 dX0_liveAnHour_86 ?_
        refine gs_X0_FROZEN S hI dX0_liveAnHour_89 ?_
        refine ag_eq S hI hg (by decide) (tgt := 123) dX0_liveAnHour_92 (by decide) (fun cz_92 => ?_) (fun cz_92 => ?_)
        · refine lv_iload_n S.1 S.2.1 dX0_liveAnHour_123 rfl (lv_at hl 0 rfl) ?_
          exact xt_z S hI hr hlk rfl (absurd cz_92 cz_27) (by decide) (by decide) dX0_liveAnHour_124
        · refine lv_aload_n S.1 S.2.1 dX0_liveAnHour_95 rfl (lv_at hl 1 rfl) ?_
          refine lv_dup S.1 S.2.1 dX0_liveAnHour_96 rfl ?_
          refine g_X0_P_age S hI hi hP1 dX0_liveAnHour_97 ?_
          refine lv_iconst (v := 1) S.1 S.2.1 dX0_liveAnHour_100 (by decide) ?_
          refine lv_iadd S.1 S.2.1 dX0_liveAnHour_101 ?_
          refine p_X0_P_age S hI hi hP1 dX0_liveAnHour_102 (fun σ7 H locs ey7 hz7 hI => ?_)
          have hq__8 : gS σ7 sh = (st, to) := by rw [ey7]; exact hq__2
          refine lv_aload_n S.1 S.2.1 dX0_liveAnHour_105 rfl (lv_at hl 1 rfl) ?_
          refine g_X0_P_age S hI hi hz7 dX0_liveAnHour_106 ?_
          refine lv_aload_n S.1 S.2.1 dX0_liveAnHour_109 rfl (lv_at hl 1 rfl) ?_
          refine g_X0_P_life S hI hi hz7 dX0_liveAnHour_110 ?_
          refine lv_icmp_lt (tgt := 123) S.1 S.2.1 dX0_liveAnHour_113 (by decide) (fun cz_113 => ?_) (fun cz_113 => ?_)
          · refine lv_iload_n S.1 S.2.1 dX0_liveAnHour_123 rfl (lv_at hl 0 rfl) ?_
            exact xt_z S hI hr hlk rfl (by rw [ey7, ez1]; simp [ringP, hourP, cool, older, setP_setP, hs, cz_27, cz_66, cz_75, cz_92, cz_113]) (by decide) (by decide) dX0_liveAnHour_124
          · refine lv_aload_n S.1 S.2.1 dX0_liveAnHour_116 rfl (lv_at hl 1 rfl) ?_
            refine gs_X0_EXPIRED S hI dX0_liveAnHour_117 ?_
            refine cl_v hI (rnV (As := [.ref (gE G 5)]) (rest := []) S hI (c_P_leave l G _ hi hz7 _) (cw_X0_X0_leaveAs S.2.2.2.2 ⟨Nat.le_of_ble_eq_true rfl, Nat.le_of_ble_eq_true rfl⟩) (rcP hI hi) rfl hl.1 (Nat.le_of_ble_eq_true rfl) dX0_liveAnHour_120 ⟨Nat.le_of_ble_eq_true rfl, Nat.le_of_ble_eq_true rfl⟩) (fun σ9 H locs hq9 hI => ?_)
            have ez9 := hq9
            have hP9 : gP σ9 i = (5, 6, mk, lf, (ag + 1), (draw to ht)) := by rw [ez9]; exact gP_setP _ _ _
            have hq__10 : gS σ9 sh = (st, to) := by rw [ez9]; exact hq__8
            refine lv_iload_n S.1 S.2.1 dX0_liveAnHour_123 rfl (lv_at hl 0 rfl) ?_
            exact xt_z S hI hr hlk rfl (by rw [ez9, ey7, ez1]; simp [ringP, hourP, cool, older, setP_setP, hs, cz_27, cz_66, cz_75, cz_92, cz_113]) (by decide) (by decide) dX0_liveAnHour_124
      · refine lv_aload_n S.1 S.2.1 dX0_liveAnHour_78 rfl (lv_at hl 1 rfl) ?_
        refine gs_X0_FROZEN S hI dX0_liveAnHour_79 ?_
        refine p_X0_P_stage S hI hi hP1 dX0_liveAnHour_82 (fun σ11 H locs ey11 hz11 hI => ?_)
        have hq__12 : gS σ11 sh = (st, to) := by rw [ey11]; exact hq__2
        refine lv_aload_n S.1 S.2.1 dX0_liveAnHour_85 rfl (lv_at hl 1 rfl) ?_
        refine g_X0_P_stage S hI hi hz11 dX0_liveAnHour_86 ?_
        refine gs_X0_FROZEN S hI dX0_liveAnHour_89 ?_
        refine ag_eq S hI (by decide) (by decide) (tgt := 123) dX0_liveAnHour_92 (by decide) (fun _ => ?_) (fun c9 => absurd c9 (by decide))
        refine lv_iload_n S.1 S.2.1 dX0_liveAnHour_123 rfl (lv_at hl 0 rfl) ?_
        exact xt_z S hI hr hlk rfl (by rw [ey11, ez1]; simp [ringP, hourP, cool, older, setP_setP, hs, cz_27, cz_66, cz_75]) (by decide) (by decide) dX0_liveAnHour_124
  · refine lv_aload_n S.1 S.2.1 dX0_liveAnHour_30 rfl (lv_at hl 0 rfl) ?_
    refine g_X0_P_heat S hI hi hP1 dX0_liveAnHour_31 ?_
    refine lv_bipush (v := (-4)) S.1 S.2.1 dX0_liveAnHour_34 (by decide) ?_
    refine lv_icmp_le (tgt := 43) S.1 S.2.1 dX0_liveAnHour_36 (by decide) (fun cz_36 => ?_) (fun cz_36 => ?_)
    · refine lv_iconst (v := 0) S.1 S.2.1 dX0_liveAnHour_43 (by decide) ?_
      refine lv_istore_n (lv' := [(1, .int 0), (0, .ref (gB G (15 + i)))]) S.1 S.2.1 dX0_liveAnHour_44 rfl hl (by decide) rfl (fun ls hl => ?_)
      refine lv_iload_n S.1 S.2.1 dX0_liveAnHour_45 rfl (lv_at hl 0 rfl) ?_
      refine lv_if_eq (tgt := 59) S.1 S.2.1 dX0_liveAnHour_46 (by decide) (fun _ => ?_) (fun c9 => absurd c9 (by decide))
      refine lv_aload_n S.1 S.2.1 dX0_liveAnHour_59 rfl (lv_at hl 1 rfl) ?_
      refine g_X0_P_stage S hI hi hP1 dX0_liveAnHour_60 ?_
      refine gs_X0_FRESH S hI dX0_liveAnHour_63 ?_
      refine ag_ne S hI hg (by decide) (tgt := 85) dX0_liveAnHour_66 (by decide) (fun cz_66 => ?_) (fun cz_66 => ?_)
      · refine lv_aload_n S.1 S.2.1 dX0_liveAnHour_85 rfl (lv_at hl 1 rfl) ?_
        refine g_X0_P_stage S hI hi hP1 dX0_liveAnHour_86 ?_
        refine gs_X0_FROZEN S hI dX0_liveAnHour_89 ?_
        refine ag_eq S hI hg (by decide) (tgt := 123) dX0_liveAnHour_92 (by decide) (fun cz_92 => ?_) (fun cz_92 => ?_)
        · refine lv_iload_n S.1 S.2.1 dX0_liveAnHour_123 rfl (lv_at hl 0 rfl) ?_
          exact xt_z S hI hr hlk rfl (by rw [ez1]; simp [ringP, hourP, cool, older, setP_setP, hs, cz_27, cz_36, cz_66, cz_92]) (by decide) (by decide) dX0_liveAnHour_124
        · refine lv_aload_n S.1 S.2.1 dX0_liveAnHour_95 rfl (lv_at hl 1 rfl) ?_
          refine lv_dup S.1 S.2.1 dX0_liveAnHour_96 rfl ?_
          refine g_X0_P_age S hI hi hP1 dX0_liveAnHour_97 ?_
          refine lv_iconst (v := 1) S.1 S.2.1 dX0_liveAnHour_100 (by decide) ?_
          refine lv_iadd S.1 S.2.1 dX0_liveAnHour_101 ?_
          refine p_X0_P_age S hI hi hP1 dX0_liveAnHour_102 (fun σ13 H locs ey13 hz13 hI => ?_)
          have hq__14 : gS σ13 sh = (st, to) := by rw [ey13]; exact hq__2
          refine lv_aload_n S.1 S.2.1 dX0_liveAnHour_105 rfl (lv_at hl 1 rfl) ?_
          refine g_X0_P_age S hI hi hz13 dX0_liveAnHour_106 ?_
          refine lv_aload_n S.1 S.2.1 dX0_liveAnHour_109 rfl (lv_at hl 1 rfl) ?_
          refine g_X0_P_life S hI hi hz13 dX0_liveAnHour_110 ?_
          refine lv_icmp_lt (tgt := 123) S.1 S.2.1 dX0_liveAnHour_113 (by decide) (fun cz_113 => ?_) (fun cz_113 => ?_)
          · refine lv_iload_n S.1 S.2.1 dX0_liveAnHour_123 rfl (lv_at hl 0 rfl) ?_
            exact xt_z S hI hr hlk rfl (absurd (by assumption) cz_92) (by decide) (by decide) dX0_liveAnHour_124
          · refine lv_aload_n S.1 S.2.1 dX0_liveAnHour_116 rfl (lv_at hl 1 rfl) ?_
            refine gs_X0_EXPIRED S hI dX0_liveAnHour_117 ?_
            refine cl_v hI (rnV (As := [.ref (gE G 5)]) (rest := []) S hI (c_P_leave l G _ hi hz13 _) (cw_X0_X0_leaveAs S.2.2.2.2 ⟨Nat.le_of_ble_eq_true rfl, Nat.le_of_ble_eq_true rfl⟩) (rcP hI hi) rfl hl.1 (Nat.le_of_ble_eq_true rfl) dX0_liveAnHour_120 ⟨Nat.le_of_ble_eq_true rfl, Nat.le_of_ble_eq_true rfl⟩) (fun σ15 H locs hq15 hI => ?_)
            have ez15 := hq15
            have hP15 : gP σ15 i = (5, 6, mk, lf, (ag + 1), (draw to ht)) := by rw [ez15]; exact gP_setP _ _ _
            have hq__16 : gS σ15 sh = (st, to) := by rw [ez15]; exact hq__14
            refine lv_iload_n S.1 S.2.1 dX0_liveAnHour_123 rfl (lv_at hl 0 rfl) ?_
            exact xt_z S hI hr hlk rfl (absurd (by assumption) cz_92) (by decide) (by decide) dX0_liveAnHour_124
      · refine lv_aload_n S.1 S.2.1 dX0_liveAnHour_69 rfl (lv_at hl 1 rfl) ?_
        refine g_X0_P_heat S hI hi hP1 dX0_liveAnHour_70 ?_
        refine lv_bipush (v := (-10)) S.1 S.2.1 dX0_liveAnHour_73 (by decide) ?_
        refine lv_icmp_gt (tgt := 85) S.1 S.2.1 dX0_liveAnHour_75 (by decide) (fun cz_75 => ?_) (fun cz_75 => ?_)
        · refine lv_aload_n S.1 S.2.1 dX0_liveAnHour_85 rfl (lv_at hl 1 rfl) ?_
          refine g_X0_P_stage S hI hi hP1 dX0_liveAnHour_86 ?_
          refine gs_X0_FROZEN S hI dX0_liveAnHour_89 ?_
          refine ag_eq S hI hg (by decide) (tgt := 123) dX0_liveAnHour_92 (by decide) (fun cz_92 => ?_) (fun cz_92 => ?_)
          · refine lv_iload_n S.1 S.2.1 dX0_liveAnHour_123 rfl (lv_at hl 0 rfl) ?_
            exact xt_z S hI hr hlk rfl (absurd (cz_27.symm.trans cz_66) (by decide)) (by decide) (by decide) dX0_liveAnHour_124
          · refine lv_aload_n S.1 S.2.1 dX0_liveAnHour_95 rfl (lv_at hl 1 rfl) ?_
            refine lv_dup S.1 S.2.1 dX0_liveAnHour_96 rfl ?_
            refine g_X0_P_age S hI hi hP1 dX0_liveAnHour_97 ?_
            refine lv_iconst (v := 1) S.1 S.2.1 dX0_liveAnHour_100 (by decide) ?_
            refine lv_iadd S.1 S.2.1 dX0_liveAnHour_101 ?_
            refine p_X0_P_age S hI hi hP1 dX0_liveAnHour_102 (fun σ17 H locs ey17 hz17 hI => ?_)
            have hq__18 : gS σ17 sh = (st, to) := by rw [ey17]; exact hq__2
            refine lv_aload_n S.1 S.2.1 dX0_liveAnHour_105 rfl (lv_at hl 1 rfl) ?_
            refine g_X0_P_age S hI hi hz17 dX0_liveAnHour_106 ?_
            refine lv_aload_n S.1 S.2.1 dX0_liveAnHour_109 rfl (lv_at hl 1 rfl) ?_
            refine g_X0_P_life S hI hi hz17 dX0_liveAnHour_110 ?_
            refine lv_icmp_lt (tgt := 123) S.1 S.2.1 dX0_liveAnHour_113 (by decide) (fun cz_113 => ?_) (fun cz_113 => ?_)
            · refine lv_iload_n S.1 S.2.1 dX0_liveAnHour_123 rfl (lv_at hl 0 rfl) ?_
              exact xt_z S hI hr hlk rfl (absurd (cz_27.symm.trans cz_66) (by decide)) (by decide) (by decide) dX0_liveAnHour_124
            · refine lv_aload_n S.1 S.2.1 dX0_liveAnHour_116 rfl (lv_at hl 1 rfl) ?_
              refine gs_X0_EXPIRED S hI dX0_liveAnHour_117 ?_
              refine cl_v hI (rnV (As := [.ref (gE G 5)]) (rest := []) S hI (c_P_leave l G _ hi hz17 _) (cw_X0_X0_leaveAs S.2.2.2.2 ⟨Nat.le_of_ble_eq_true rfl, Nat.le_of_ble_eq_true rfl⟩) (rcP hI hi) rfl hl.1 (Nat.le_of_ble_eq_true rfl) dX0_liveAnHour_120 ⟨Nat.le_of_ble_eq_true rfl, Nat.le_of_ble_eq_true rfl⟩) (fun σ19 H locs hq19 hI => ?_)
              have ez19 := hq19
              have hP19 : gP σ19 i = (5, 6, mk, lf, (ag + 1), (draw to ht)) := by rw [ez19]; exact gP_setP _ _ _
              have hq__20 : gS σ19 sh = (st, to) := by rw [ez19]; exact hq__18
              refine lv_iload_n S.1 S.2.1 dX0_liveAnHour_123 rfl (lv_at hl 0 rfl) ?_
              exact xt_z S hI hr hlk rfl (absurd (cz_27.symm.trans cz_66) (by decide)) (by decide) (by decide) dX0_liveAnHour_124
        · refine lv_aload_n S.1 S.2.1 dX0_liveAnHour_78 rfl (lv_at hl 1 rfl) ?_
          refine gs_X0_FROZEN S hI dX0_liveAnHour_79 ?_
          refine p_X0_P_stage S hI hi hP1 dX0_liveAnHour_82 (fun σ21 H locs ey21 hz21 hI => ?_)
          have hq__22 : gS σ21 sh = (st, to) := by rw [ey21]; exact hq__2
          refine lv_aload_n S.1 S.2.1 dX0_liveAnHour_85 rfl (lv_at hl 1 rfl) ?_
          refine g_X0_P_stage S hI hi hz21 dX0_liveAnHour_86 ?_
          refine gs_X0_FROZEN S hI dX0_liveAnHour_89 ?_
          refine ag_eq S hI (by decide) (by decide) (tgt := 123) dX0_liveAnHour_92 (by decide) (fun _ => ?_) (fun c9 => absurd c9 (by decide))
          refine lv_iload_n S.1 S.2.1 dX0_liveAnHour_123 rfl (lv_at hl 0 rfl) ?_
          exact xt_z S hI hr hlk rfl (absurd (cz_27.symm.trans cz_66) (by decide)) (by decide) (by decide) dX0_liveAnHour_124
    · refine lv_iconst (v := 1) S.1 S.2.1 dX0_liveAnHour_39 (by decide) ?_
      refine lv_goto (tgt := 44) S.1 S.2.1 dX0_liveAnHour_40 (by decide) ?_
      refine lv_istore_n (lv' := [(1, .int 1), (0, .ref (gB G (15 + i)))]) S.1 S.2.1 dX0_liveAnHour_44 rfl hl (by decide) rfl (fun ls hl => ?_)
      refine lv_iload_n S.1 S.2.1 dX0_liveAnHour_45 rfl (lv_at hl 0 rfl) ?_
      refine lv_if_eq (tgt := 59) S.1 S.2.1 dX0_liveAnHour_46 (by decide) (fun c9 => absurd c9 (by decide)) (fun _ => ?_)
      refine lv_aload_n S.1 S.2.1 dX0_liveAnHour_49 rfl (lv_at hl 1 rfl) ?_
      refine gs_X0_THAWED S hI dX0_liveAnHour_50 ?_
      refine p_X0_P_stage S hI hi hP1 dX0_liveAnHour_53 (fun σ23 H locs ey23 hz23 hI => ?_)
      have hq__24 : gS σ23 sh = (st, to) := by rw [ey23]; exact hq__2
      refine lv_goto (tgt := 85) S.1 S.2.1 dX0_liveAnHour_56 (by decide) ?_
      refine lv_aload_n S.1 S.2.1 dX0_liveAnHour_85 rfl (lv_at hl 1 rfl) ?_
      refine g_X0_P_stage S hI hi hz23 dX0_liveAnHour_86 ?_
      refine gs_X0_FROZEN S hI dX0_liveAnHour_89 ?_
      refine ag_eq S hI (by decide) (by decide) (tgt := 123) dX0_liveAnHour_92 (by decide) (fun c9 => absurd c9 (by decide)) (fun _ => ?_)
      refine lv_aload_n S.1 S.2.1 dX0_liveAnHour_95 rfl (lv_at hl 1 rfl) ?_
      refine lv_dup S.1 S.2.1 dX0_liveAnHour_96 rfl ?_
      refine g_X0_P_age S hI hi hz23 dX0_liveAnHour_97 ?_
      refine lv_iconst (v := 1) S.1 S.2.1 dX0_liveAnHour_100 (by decide) ?_
      refine lv_iadd S.1 S.2.1 dX0_liveAnHour_101 ?_
      refine p_X0_P_age S hI hi hz23 dX0_liveAnHour_102 (fun σ25 H locs ey25 hz25 hI => ?_)
      have hq__26 : gS σ25 sh = (st, to) := by rw [ey25]; exact hq__24
      refine lv_aload_n S.1 S.2.1 dX0_liveAnHour_105 rfl (lv_at hl 1 rfl) ?_
      refine g_X0_P_age S hI hi hz25 dX0_liveAnHour_106 ?_
      refine lv_aload_n S.1 S.2.1 dX0_liveAnHour_109 rfl (lv_at hl 1 rfl) ?_
      refine g_X0_P_life S hI hi hz25 dX0_liveAnHour_110 ?_
      refine lv_icmp_lt (tgt := 123) S.1 S.2.1 dX0_liveAnHour_113 (by decide) (fun cz_113 => ?_) (fun cz_113 => ?_)
      · refine lv_iload_n S.1 S.2.1 dX0_liveAnHour_123 rfl (lv_at hl 0 rfl) ?_
        exact xt_z S hI hr hlk rfl (by rw [ey25, ey23, ez1]; simp [ringP, hourP, cool, older, setP_setP, hs, cz_27, cz_36, cz_113]) (by decide) (by decide) dX0_liveAnHour_124
      · refine lv_aload_n S.1 S.2.1 dX0_liveAnHour_116 rfl (lv_at hl 1 rfl) ?_
        refine gs_X0_EXPIRED S hI dX0_liveAnHour_117 ?_
        refine cl_v hI (rnV (As := [.ref (gE G 5)]) (rest := []) S hI (c_P_leave l G _ hi hz25 _) (cw_X0_X0_leaveAs S.2.2.2.2 ⟨Nat.le_of_ble_eq_true rfl, Nat.le_of_ble_eq_true rfl⟩) (rcP hI hi) rfl hl.1 (Nat.le_of_ble_eq_true rfl) dX0_liveAnHour_120 ⟨Nat.le_of_ble_eq_true rfl, Nat.le_of_ble_eq_true rfl⟩) (fun σ27 H locs hq27 hI => ?_)
        have ez27 := hq27
        have hP27 : gP σ27 i = (5, 6, mk, lf, (ag + 1), (draw to ht)) := by rw [ez27]; exact gP_setP _ _ _
        have hq__28 : gS σ27 sh = (st, to) := by rw [ez27]; exact hq__26
        refine lv_iload_n S.1 S.2.1 dX0_liveAnHour_123 rfl (lv_at hl 0 rfl) ?_
        exact xt_z S hI hr hlk rfl (by rw [ez27, ey25, ey23, ez1]; simp [ringP, hourP, cool, older, setP_setP, hs, cz_27, cz_36, cz_113]) (by decide) (by decide) dX0_liveAnHour_124
set_option maxRecDepth 100000 in
set_option maxHeartbeats 4000000 in
theorem c_P_hour_n (l : Launch) (G : Gt) (σ : St) {i : Nat} (hi : i < 21) {g sh : Nat} {mk lf ag ht : Int32} (hp : gP σ i = (g, sh, mk, lf, ag, ht)) (hs : ¬ sh < 6) : Ct l G yX0_liveAnHour cX0_liveAnHour 2 (some .boolean) 2 0 0 [.ref (gB G (15 + i))] σ (Qi G (fun r σ' => r = 0 ∧ σ' = σ)) := by
  refine mt_intro (by decide +kernel) (Nat.le_of_ble_eq_true rfl) ?_
  intro p e s m below meth c S hr hlk hnm hI ls hl
  have hl : lv_has ls 2 [(0, .ref (gB G (15 + i)))] := hl
  refine lv_aload_n S.1 S.2.1 dX0_liveAnHour_0 rfl (lv_at hl 0 rfl) ?_
  refine g_X0_P_shelf_n S hI hi hp hs dX0_liveAnHour_1 ?_
  refine lv_ifnonnullN S.1 S.2.1 dX0_liveAnHour_4 ?_
  refine lv_iconst (v := 0) S.1 S.2.1 dX0_liveAnHour_7 (by decide) ?_
  exact xt_z S hI hr hlk rfl (⟨rfl, rfl⟩) (by decide) (by decide) dX0_liveAnHour_8
end
section
set_option maxRecDepth 100000 in
set_option maxHeartbeats 4000000 in
theorem c_findShelf (l : Launch) (G : Gt) (σ : St) {k : Nat} (hk : k < 5) : Ct l G yX3_findShelf cX3_findShelf 2 (some (.object "PromiseShelves$Shelf")) 1 0 0 [.ref (gB G 0), .int (nI k)] σ (Qq G (fun r σ' => r = some (gB G (9 + k)) ∧ σ' = σ)) := by
  refine mt_intro (by decide +kernel) (Nat.le_of_ble_eq_true rfl) ?_
  intro p e s m below meth c S hr hlk hnm hI ls hl
  have hl : lv_has ls 2 [(0, .ref (gB G 0)), (1, .int (nI k))] := hl
  refine lv_iload_n S.1 S.2.1 dX3_findShelf_0 rfl (lv_at hl 1 rfl) ?_
  refine lv_if_lt (tgt := 9) S.1 S.2.1 dX3_findShelf_1 (by decide) (fun c9 => absurd c9 (nI_pos (by omega))) (fun cz_1 => ?_)
  refine lv_iload_n S.1 S.2.1 dX3_findShelf_4 rfl (lv_at hl 1 rfl) ?_
  refine lv_iconst (v := 5) S.1 S.2.1 dX3_findShelf_5 (by decide) ?_
  refine lv_icmp_lt (tgt := 19) S.1 S.2.1 dX3_findShelf_6 (by decide) (fun cz_6 => ?_) (fun c9 => absurd (nI_lt (b := 5) hk (by omega)) c9)
  refine lv_aload_n S.1 S.2.1 dX3_findShelf_19 rfl (lv_at hl 0 rfl) ?_
  refine g_X3_X_shelves S hI dX3_findShelf_20 ?_
  refine lv_iload_n S.1 S.2.1 dX3_findShelf_23 rfl (lv_at hl 1 rfl) ?_
  refine a_SA S hI hk dX3_findShelf_24 ?_
  exact xt_a S hI hr hlk (⟨rfl, rfl⟩) (by decide) (by decide) dX3_findShelf_25
set_option maxRecDepth 100000 in
set_option maxHeartbeats 4000000 in
theorem c_findPromise (l : Launch) (G : Gt) (σ : St) {k n : Nat} (hk : k < n) (hn : n ≤ 20) {ar hh pw : Int32} (hx : gX σ = (nI n, ar, hh, pw)) : Ct l G yX3_findPromise cX3_findPromise 2 (some (.object "PromiseShelves$Promise")) 1 0 0 [.ref (gB G 0), .int (nI k)] σ (Qq G (fun r σ' => r = some (gB G (15 + k)) ∧ σ' = σ)) := by
  refine mt_intro (by decide +kernel) (Nat.le_of_ble_eq_true rfl) ?_
  intro p e s m below meth c S hr hlk hnm hI ls hl
  have hl : lv_has ls 2 [(0, .ref (gB G 0)), (1, .int (nI k))] := hl
  refine lv_iload_n S.1 S.2.1 dX3_findPromise_0 rfl (lv_at hl 1 rfl) ?_
  refine lv_if_lt (tgt := 12) S.1 S.2.1 dX3_findPromise_1 (by decide) (fun c9 => absurd c9 (nI_pos (by omega))) (fun cz_1 => ?_)
  refine lv_iload_n S.1 S.2.1 dX3_findPromise_4 rfl (lv_at hl 1 rfl) ?_
  refine lv_aload_n S.1 S.2.1 dX3_findPromise_5 rfl (lv_at hl 0 rfl) ?_
  refine g_X3_X_made S hI hx dX3_findPromise_6 ?_
  refine lv_icmp_lt (tgt := 22) S.1 S.2.1 dX3_findPromise_9 (by decide) (fun cz_9 => ?_) (fun c9 => absurd (nI_lt hk (by omega)) c9)
  refine lv_aload_n S.1 S.2.1 dX3_findPromise_22 rfl (lv_at hl 0 rfl) ?_
  refine g_X3_X_promises S hI dX3_findPromise_23 ?_
  refine lv_iload_n S.1 S.2.1 dX3_findPromise_26 rfl (lv_at hl 1 rfl) ?_
  refine a_PA S hI (by omega) dX3_findPromise_27 ?_
  exact xt_a S hI hr hlk (⟨rfl, rfl⟩) (by decide) (by decide) dX3_findPromise_28
set_option maxRecDepth 100000 in
set_option maxHeartbeats 4000000 in
theorem c_checkMaker (l : Launch) (G : Gt) (σ : St) {k : Nat} (hk : k < 6) : Ct l G yX3_checkMaker cX3_checkMaker 1 none 1 0 0 [.int (nI k)] σ (Qv G (fun σ' => σ' = σ)) := by
  refine mt_intro (by decide +kernel) (Nat.le_of_ble_eq_true rfl) ?_
  intro p e s m below meth c S hr hlk hnm hI ls hl
  have hl : lv_has ls 1 [(0, .int (nI k))] := hl
  refine lv_iload_n S.1 S.2.1 dX3_checkMaker_0 rfl (lv_at hl 0 rfl) ?_
  refine lv_if_lt (tgt := 10) S.1 S.2.1 dX3_checkMaker_1 (by decide) (fun c9 => absurd c9 (nI_pos (by omega))) (fun cz_1 => ?_)
  refine lv_iload_n S.1 S.2.1 dX3_checkMaker_4 rfl (lv_at hl 0 rfl) ?_
  refine lv_bipush (v := 6) S.1 S.2.1 dX3_checkMaker_5 (by decide) ?_
  refine lv_icmp_lt (tgt := 20) S.1 S.2.1 dX3_checkMaker_7 (by decide) (fun cz_7 => ?_) (fun c9 => absurd (nI_lt (b := 6) hk (by omega)) c9)
  exact xt_v S hI hr hlk rfl (by decide) (by decide) dX3_checkMaker_20
set_option maxRecDepth 100000 in
set_option maxHeartbeats 4000000 in
theorem c_checkHours (l : Launch) (G : Gt) (σ : St) {k : Nat} (h1 : 1 ≤ k) (hk : k ≤ 100) : Ct l G yX3_checkHours cX3_checkHours 1 none 1 0 0 [.int (nI k)] σ (Qv G (fun σ' => σ' = σ)) := by
  refine mt_intro (by decide +kernel) (Nat.le_of_ble_eq_true rfl) ?_
  intro p e s m below meth c S hr hlk hnm hI ls hl
  have hl : lv_has ls 1 [(0, .int (nI k))] := hl
  refine lv_iload_n S.1 S.2.1 dX3_checkHours_0 rfl (lv_at hl 0 rfl) ?_
  refine lv_iconst (v := 1) S.1 S.2.1 dX3_checkHours_1 (by decide) ?_
  refine lv_icmp_lt (tgt := 11) S.1 S.2.1 dX3_checkHours_2 (by decide) (fun c9 => absurd c9 (nI_nlt (b := 1) h1 (by omega))) (fun cz_2 => ?_)
  refine lv_iload_n S.1 S.2.1 dX3_checkHours_5 rfl (lv_at hl 0 rfl) ?_
  refine lv_bipush (v := 100) S.1 S.2.1 dX3_checkHours_6 (by decide) ?_
  refine lv_icmp_le (tgt := 21) S.1 S.2.1 dX3_checkHours_8 (by decide) (fun cz_8 => ?_) (fun c9 => absurd (nI_le (b := 100) hk (by omega)) c9)
  exact xt_v S hI hr hlk rfl (by decide) (by decide) dX3_checkHours_21
set_option maxRecDepth 100000 in
set_option maxHeartbeats 4000000 in
theorem c_isSooner (l : Launch) (G : Gt) (σ : St) (a b : Int32) : Ct l G yX3_isSooner cX3_isSooner 2 (some .boolean) 1 0 0 [.int a, .int b] σ (Qi G (fun r σ' => r = (if sooner a b = true then 1 else 0) ∧ σ' = σ)) := by
  refine mt_intro (by decide +kernel) (Nat.le_of_ble_eq_true rfl) ?_
  intro p e s m below meth c S hr hlk hnm hI ls hl
  have hl : lv_has ls 2 [(0, .int a), (1, .int b)] := hl
  refine lv_iload_n S.1 S.2.1 dX3_isSooner_0 rfl (lv_at hl 0 rfl) ?_
  refine lv_iconst (v := (-1)) S.1 S.2.1 dX3_isSooner_1 (by decide) ?_
  refine lv_icmp_eq (tgt := 19) S.1 S.2.1 dX3_isSooner_2 (by decide) (fun cz_2 => ?_) (fun cz_2 => ?_)
  · refine lv_iconst (v := 0) S.1 S.2.1 dX3_isSooner_19 (by decide) ?_
    exact xt_z S hI hr hlk rfl (by simp [sooner, cz_2]) (by decide) (by decide) dX3_isSooner_20
  · refine lv_iload_n S.1 S.2.1 dX3_isSooner_5 rfl (lv_at hl 1 rfl) ?_
    refine lv_iconst (v := (-1)) S.1 S.2.1 dX3_isSooner_6 (by decide) ?_
    refine lv_icmp_eq (tgt := 15) S.1 S.2.1 dX3_isSooner_7 (by decide) (fun cz_7 => ?_) (fun cz_7 => ?_)
    · refine lv_iconst (v := 1) S.1 S.2.1 dX3_isSooner_15 (by decide) ?_
      refine lv_goto (tgt := 20) S.1 S.2.1 dX3_isSooner_16 (by decide) ?_
      exact xt_z S hI hr hlk rfl (by simp [sooner, cz_2, cz_7]) (by decide) (by decide) dX3_isSooner_20
    · refine lv_iload_n S.1 S.2.1 dX3_isSooner_10 rfl (lv_at hl 0 rfl) ?_
      refine lv_iload_n S.1 S.2.1 dX3_isSooner_11 rfl (lv_at hl 1 rfl) ?_
      refine lv_icmp_ge (tgt := 19) S.1 S.2.1 dX3_isSooner_12 (by decide) (fun cz_12 => ?_) (fun cz_12 => ?_)
      · refine lv_iconst (v := 0) S.1 S.2.1 dX3_isSooner_19 (by decide) ?_
        exact xt_z S hI hr hlk rfl (by simp [sooner, cz_2, cz_7, cz_12]) (by decide) (by decide) dX3_isSooner_20
      · refine lv_iconst (v := 1) S.1 S.2.1 dX3_isSooner_15 (by decide) ?_
        refine lv_goto (tgt := 20) S.1 S.2.1 dX3_isSooner_16 (by decide) ?_
        exact xt_z S hI hr hlk rfl (by simp [sooner, cz_2, cz_7, cz_12]) (by decide) (by decide) dX3_isSooner_20
set_option maxRecDepth 100000 in
set_option maxHeartbeats 4000000 in
theorem c_asNumber (l : Launch) (G : Gt) (σ : St) (a : Int32) (ha : a = 0 ∨ a = 1) : Ct l G yX3_asNumber cX3_asNumber 1 (some .int) 1 0 0 [.int a] σ (Qi G (fun r σ' => r = a ∧ σ' = σ)) := by
  refine mt_intro (by decide +kernel) (Nat.le_of_ble_eq_true rfl) ?_
  intro p e s m below meth c S hr hlk hnm hI ls hl
  have hl : lv_has ls 1 [(0, .int a)] := hl
  refine lv_iload_n S.1 S.2.1 dX3_asNumber_0 rfl (lv_at hl 0 rfl) ?_
  refine lv_if_eq (tgt := 8) S.1 S.2.1 dX3_asNumber_1 (by decide) (fun cz_1 => ?_) (fun cz_1 => ?_)
  · refine lv_iconst (v := 0) S.1 S.2.1 dX3_asNumber_8 (by decide) ?_
    exact xt_i S hI hr hlk (by rcases ha with rfl | rfl <;> simp_all) (by decide) (by decide) dX3_asNumber_9
  · refine lv_iconst (v := 1) S.1 S.2.1 dX3_asNumber_4 (by decide) ?_
    refine lv_goto (tgt := 9) S.1 S.2.1 dX3_asNumber_5 (by decide) ?_
    exact xt_i S hI hr hlk (by rcases ha with rfl | rfl <;> simp_all) (by decide) (by decide) dX3_asNumber_9
set_option maxRecDepth 100000 in
set_option maxHeartbeats 4000000 in
theorem c_countOf (l : Launch) (G : Gt) (σ : St) (hok : okP σ) (a : Int32) {g : Nat} (hg : g < 6) : Ct l G yX3_countOf cX3_countOf 8 (some .int) 1 0 0 [.ref (gB G 0), .int a, .ref (gE G g)] σ (Qi G (fun r σ' => r = sumN (fun i => if (gP σ i).1 = g ∧ (gP σ i).2.2.1 = a then 1 else 0) 20 ∧ σ' = σ)) := by
  refine mt_intro (by decide +kernel) (Nat.le_of_ble_eq_true rfl) ?_
  intro p e s m below meth c S hr hlk hnm hI ls hl
  have hl : lv_has ls 8 [(0, .ref (gB G 0)), (1, .int a), (2, .ref (gE G g))] := hl
  have loop : ∀ (n : Nat) (k : Nat), k + n = 20 → ∀ (H : Heap) (locs : List Loc), Iv G σ s H locs → ∀ ls : Array Slot, lv_has ls 8 [(0, .ref (gB G 0)), (1, .int a), (2, .ref (gE G g)), (3, .int (sumN (fun i => if (gP σ i).1 = g ∧ (gP σ i).2.2.1 = a then 1 else 0) k)), (4, .ref (gB G 2)), (5, .int (nI 20)), (6, .int (nI k))] → W p l e (rm 1 0 0) s m ([.ref (gB G 0), .int a, .ref (gE G g)] : List Value).toArray below meth c H locs 0 0 (MQ below (Qi G (fun r σ' => r = sumN (fun i => if (gP σ i).1 = g ∧ (gP σ i).2.2.1 = a then 1 else 0) 20 ∧ σ' = σ)) ([.ref (gB G 0), .int a, .ref (gE G g)] : List Value).toArray s 0 0 (gA G)) (F0 m 16 ls []) := by
    intro n
    induction n with
    | zero =>
      intro k hk H locs hI ls hl
      obtain rfl : k = 20 := by omega
      refine lv_iload S.1 S.2.1 dX3_countOf_16 (lv_at hl 6 rfl) ?_
      refine lv_iload S.1 S.2.1 dX3_countOf_18 (lv_at hl 5 rfl) ?_
      refine lv_icmp_ge (tgt := 57) S.1 S.2.1 dX3_countOf_20 (by decide) (fun cz_20 => ?_) (fun c9 => absurd (nI_le (Nat.le_refl 20) (by omega)) c9)
      refine lv_iload_n S.1 S.2.1 dX3_countOf_57 rfl (lv_at hl 3 rfl) ?_
      exact xt_i S hI hr hlk (⟨rfl, rfl⟩) (by decide) (by decide) dX3_countOf_58
    | succ n ih =>
      intro k hk H locs hI ls hl
      have hk2 : k < 20 := by omega
      refine lv_iload S.1 S.2.1 dX3_countOf_16 (lv_at hl 6 rfl) ?_
      refine lv_iload S.1 S.2.1 dX3_countOf_18 (lv_at hl 5 rfl) ?_
      refine lv_icmp_ge (tgt := 57) S.1 S.2.1 dX3_countOf_20 (by decide) (fun c9 => absurd c9 (nI_ge hk2 (by omega))) (fun cz_20 => ?_)
      refine lv_aload S.1 S.2.1 dX3_countOf_23 (lv_at hl 4 rfl) ?_
      refine lv_iload S.1 S.2.1 dX3_countOf_25 (lv_at hl 6 rfl) ?_
      refine a_PA S hI hk2 dX3_countOf_27 ?_
      refine lv_astore (lv' := [(7, .ref (gB G (15 + k))), (0, .ref (gB G 0)), (1, .int a), (2, .ref (gE G g)), (3, .int (sumN (fun i => if (gP σ i).1 = g ∧ (gP σ i).2.2.1 = a then 1 else 0) k)), (4, .ref (gB G 2)), (5, .int (nI 20)), (6, .int (nI k))]) S.1 S.2.1 dX3_countOf_28 hl (by decide) rfl (fun ls hl => ?_)
      refine lv_aload S.1 S.2.1 dX3_countOf_30 (lv_at hl 0 rfl) ?_
      refine g_X3_P_stage S hI (by omega) (pEta (gP σ k)) dX3_countOf_32 ?_
      refine lv_aload_n S.1 S.2.1 dX3_countOf_35 rfl (lv_at hl 3 rfl) ?_
      refine ag_ne S hI (hok k hk2).1 hg (tgt := 51) dX3_countOf_36 (by decide) (fun cz_36 => ?_) (fun cz_36 => ?_)
      · refine lv_iinc (v := (nI (k + 1))) (lv' := [(6, .int (nI (k + 1))), (7, .ref (gB G (15 + k))), (0, .ref (gB G 0)), (1, .int a), (2, .ref (gE G g)), (3, .int (sumN (fun i => if (gP σ i).1 = g ∧ (gP σ i).2.2.1 = a then 1 else 0) k)), (4, .ref (gB G 2)), (5, .int (nI 20))]) S.1 S.2.1 dX3_countOf_51 hl (k := 7) rfl (nI_1 k) (by decide) rfl (fun ls hl => ?_)
        refine lv_goto (tgt := 16) S.1 S.2.1 dX3_countOf_54 (by decide) ?_
        exact ih (k + 1) (by omega) _ _ hI ls (by rw [show sumN (fun i => if (gP σ i).1 = g ∧ (gP σ i).2.2.1 = a then 1 else 0) (k + 1) = (sumN (fun i => if (gP σ i).1 = g ∧ (gP σ i).2.2.1 = a then 1 else 0) k) from by simp [sumN_s, cz_36]]; exact lv_sub hl [2, 3, 4, 5, 6, 7, 0] rfl)
      · refine lv_aload S.1 S.2.1 dX3_countOf_39 (lv_at hl 0 rfl) ?_
        refine g_X3_P_maker S hI (by omega) (pEta (gP σ k)) dX3_countOf_41 ?_
        refine lv_iload_n S.1 S.2.1 dX3_countOf_44 rfl (lv_at hl 2 rfl) ?_
        refine lv_icmp_ne (tgt := 51) S.1 S.2.1 dX3_countOf_45 (by decide) (fun cz_45 => ?_) (fun cz_45 => ?_)
        · refine lv_iinc (v := (nI (k + 1))) (lv' := [(6, .int (nI (k + 1))), (7, .ref (gB G (15 + k))), (0, .ref (gB G 0)), (1, .int a), (2, .ref (gE G g)), (3, .int (sumN (fun i => if (gP σ i).1 = g ∧ (gP σ i).2.2.1 = a then 1 else 0) k)), (4, .ref (gB G 2)), (5, .int (nI 20))]) S.1 S.2.1 dX3_countOf_51 hl (k := 7) rfl (nI_1 k) (by decide) rfl (fun ls hl => ?_)
          refine lv_goto (tgt := 16) S.1 S.2.1 dX3_countOf_54 (by decide) ?_
          exact ih (k + 1) (by omega) _ _ hI ls (by rw [show sumN (fun i => if (gP σ i).1 = g ∧ (gP σ i).2.2.1 = a then 1 else 0) (k + 1) = (sumN (fun i => if (gP σ i).1 = g ∧ (gP σ i).2.2.1 = a then 1 else 0) k) from by simp [sumN_s, cz_36, cz_45]]; exact lv_sub hl [2, 3, 4, 5, 6, 7, 0] rfl)
        · refine lv_iinc (v := ((sumN (fun i => if (gP σ i).1 = g ∧ (gP σ i).2.2.1 = a then 1 else 0) k) + 1)) (lv' := [(3, .int ((sumN (fun i => if (gP σ i).1 = g ∧ (gP σ i).2.2.1 = a then 1 else 0) k) + 1)), (7, .ref (gB G (15 + k))), (0, .ref (gB G 0)), (1, .int a), (2, .ref (gE G g)), (4, .ref (gB G 2)), (5, .int (nI 20)), (6, .int (nI k))]) S.1 S.2.1 dX3_countOf_48 hl (k := 4) rfl rfl (by decide) rfl (fun ls hl => ?_)
          refine lv_iinc (v := (nI (k + 1))) (lv' := [(6, .int (nI (k + 1))), (3, .int ((sumN (fun i => if (gP σ i).1 = g ∧ (gP σ i).2.2.1 = a then 1 else 0) k) + 1)), (7, .ref (gB G (15 + k))), (0, .ref (gB G 0)), (1, .int a), (2, .ref (gE G g)), (4, .ref (gB G 2)), (5, .int (nI 20))]) S.1 S.2.1 dX3_countOf_51 hl (k := 7) rfl (nI_1 k) (by decide) rfl (fun ls hl => ?_)
          refine lv_goto (tgt := 16) S.1 S.2.1 dX3_countOf_54 (by decide) ?_
          exact ih (k + 1) (by omega) _ _ hI ls (by rw [show sumN (fun i => if (gP σ i).1 = g ∧ (gP σ i).2.2.1 = a then 1 else 0) (k + 1) = ((sumN (fun i => if (gP σ i).1 = g ∧ (gP σ i).2.2.1 = a then 1 else 0) k) + 1) from by simp [sumN_s, cz_36, cz_45]]; exact lv_sub hl [3, 4, 5, 1, 6, 7, 0] rfl)
  refine lv_iconst (v := 0) S.1 S.2.1 dX3_countOf_0 (by decide) ?_
  refine lv_istore_n (lv' := [(3, .int 0), (0, .ref (gB G 0)), (1, .int a), (2, .ref (gE G g))]) S.1 S.2.1 dX3_countOf_1 rfl hl (by decide) rfl (fun ls hl => ?_)
  refine lv_aload_n S.1 S.2.1 dX3_countOf_2 rfl (lv_at hl 1 rfl) ?_
  refine g_X3_X_promises S hI dX3_countOf_3 ?_
  refine lv_astore (lv' := [(4, .ref (gB G 2)), (3, .int 0), (0, .ref (gB G 0)), (1, .int a), (2, .ref (gE G g))]) S.1 S.2.1 dX3_countOf_6 hl (by decide) rfl (fun ls hl => ?_)
  refine lv_aload S.1 S.2.1 dX3_countOf_8 (lv_at hl 0 rfl) ?_
  refine n_PA S hI dX3_countOf_10 ?_
  refine lv_istore (lv' := [(5, .int (nI 20)), (4, .ref (gB G 2)), (3, .int 0), (0, .ref (gB G 0)), (1, .int a), (2, .ref (gE G g))]) S.1 S.2.1 dX3_countOf_11 hl (by decide) rfl (fun ls hl => ?_)
  refine lv_iconst (v := (nI 0)) S.1 S.2.1 dX3_countOf_13 (by rfl) ?_
  refine lv_istore (lv' := [(6, .int (nI 0)), (5, .int (nI 20)), (4, .ref (gB G 2)), (3, .int 0), (0, .ref (gB G 0)), (1, .int a), (2, .ref (gE G g))]) S.1 S.2.1 dX3_countOf_14 hl (by decide) rfl (fun ls hl => ?_)
  exact loop 20 0 rfl _ _ hI ls (lv_sub hl [4, 5, 6, 3, 2, 1, 0] rfl)
set_option maxRecDepth 100000 in
set_option maxHeartbeats 4000000 in
theorem c_tryOut (l : Launch) (G : Gt) (σ : St) {i j : Nat} (hi : i < 20) (hj : j < 5) : Ct l G yX3_tryOut cX3_tryOut 3 none 2 0 0 [.ref (gB G 0), .ref (gB G (15 + i)), .ref (gB G (9 + j))] σ (Qv G (fun σ' => σ' = TT σ (gS σ j) (trial (gP σ i)))) := by
  refine mt_intro (by decide +kernel) (Nat.le_of_ble_eq_true rfl) ?_
  intro p e s m below meth c S hr hlk hnm hI ls hl
  have hl : lv_has ls 3 [(0, .ref (gB G 0)), (1, .ref (gB G (15 + i))), (2, .ref (gB G (9 + j)))] := hl
  refine lv_aload_n S.1 S.2.1 dX3_tryOut_0 rfl (lv_at hl 0 rfl) ?_
  refine g_X3_X_trialShelf S hI dX3_tryOut_1 ?_
  refine lv_aload_n S.1 S.2.1 dX3_tryOut_4 rfl (lv_at hl 2 rfl) ?_
  refine cl_v hI (rnVN (As := [.ref (gB G (9 + j))]) (rest := []) S hI (c_S_like l G _ (i := 5) (j := j) (by decide) (by omega) (by omega) (sEta _) (sEta _)) (cw_X3_X1_becomeLike S.2.2.2.2 hI.1.2.2.2.2.2.2.2 ⟨Nat.le_of_ble_eq_true rfl, Nat.le_of_ble_eq_true rfl⟩) (rcS hI (by decide)) rfl hl.1 (Nat.le_of_ble_eq_true rfl) dX3_tryOut_5 ⟨Nat.le_of_ble_eq_true rfl, Nat.le_of_ble_eq_true rfl⟩) (fun σ1 H locs hq1 hI => ?_)
  have ez1 := hq1
  have hS1 : gS σ1 5 = ((gS σ j).1, (gS σ j).2) := by rw [ez1]; exact gS_setS _ _ _
  have hf__2 : gP σ1 i = ((gP σ i).1, (gP σ i).2.1, (gP σ i).2.2.1, (gP σ i).2.2.2.1, (gP σ i).2.2.2.2.1, (gP σ i).2.2.2.2.2) := by rw [ez1]; exact (pEta (gP σ i))
  refine lv_aload_n S.1 S.2.1 dX3_tryOut_8 rfl (lv_at hl 0 rfl) ?_
  refine g_X3_X_trialPromise S hI dX3_tryOut_9 ?_
  refine lv_aload_n S.1 S.2.1 dX3_tryOut_12 rfl (lv_at hl 1 rfl) ?_
  refine lv_aload_n S.1 S.2.1 dX3_tryOut_13 rfl (lv_at hl 0 rfl) ?_
  refine g_X3_X_trialShelf S hI dX3_tryOut_14 ?_
  refine cl_v hI (rnVN (As := [.ref (gB G (15 + i)), .ref (gB G (9 + 5))]) (rest := []) S hI (c_P_like l G _ (i := 20) (j := i) (k := 5) (by decide) (by omega) (by omega) (pEta _) hf__2 (by decide)) (cw_X3_X0_becomeLike S.2.2.2.2 hI.1.2.2.2.2.2.2.2 ⟨Nat.le_of_ble_eq_true rfl, Nat.le_of_ble_eq_true rfl⟩) (rcP hI (by decide)) rfl hl.1 (Nat.le_of_ble_eq_true rfl) dX3_tryOut_17 ⟨Nat.le_of_ble_eq_true rfl, Nat.le_of_ble_eq_true rfl⟩) (fun σ3 H locs hq3 hI => ?_)
  have ez3 := hq3
  have hP3 : gP σ3 20 = ((gP σ i).1, 5, (gP σ i).2.2.1, (gP σ i).2.2.2.1, (gP σ i).2.2.2.2.1, (gP σ i).2.2.2.2.2) := by rw [ez3]; exact gP_setP _ _ _
  have hf__4 : gP σ3 i = ((gP σ i).1, (gP σ i).2.1, (gP σ i).2.2.1, (gP σ i).2.2.2.1, (gP σ i).2.2.2.2.1, (gP σ i).2.2.2.2.2) := by rw [ez3, gP_setP_ne _ _ (by omega)]; exact hf__2
  have hS1__5 : gS σ3 5 = ((gS σ j).1, (gS σ j).2) := by rw [ez3]; exact hS1
  exact xt_v S hI hr hlk (by rw [ez3, ez1]; rfl) (by decide) (by decide) dX3_tryOut_20
/-- an hour of a promise: whatever it lies on -/
theorem c_P_hour (l : Launch) (G : Gt) (σ : St) {i : Nat} (hi : i < 21) (hg : (gP σ i).1 < 6) : Ct l G yX0_liveAnHour cX0_liveAnHour 2 (some .boolean) 2 0 0 [.ref (gB G (15 + i))] σ (Qi G (fun r σ' => r = ringP (gS σ (gP σ i).2.1).2 (gP σ i) ∧ σ' = setP σ i (hourP (gS σ (gP σ i).2.1).2 (gP σ i)))) := by
  by_cases hs : (gP σ i).2.1 < 6
  · exact c_P_hour_s l G σ hi (pEta _) hg hs (sEta _)
  · have h := c_P_hour_n l G σ hi (pEta _) hs
    rw [show (fun (r : Int32) (σ' : St) => r = 0 ∧ σ' = σ) = (fun (r : Int32) (σ' : St) => r = ringP (gS σ (gP σ i).2.1).2 (gP σ i) ∧ σ' = setP σ i (hourP (gS σ (gP σ i).2.1).2 (gP σ i))) from by
      funext r σ'
      rw [show ringP (gS σ (gP σ i).2.1).2 (gP σ i) = 0 from if_neg (fun q => hs q.1), show hourP (gS σ (gP σ i).2.1).2 (gP σ i) = gP σ i from if_neg hs, setP_same]] at h
    exact h
end
section
theorem TT_S (σ : St) (q : Sh) (x : Pr) : gS (TT σ q x) 5 = q := (gS_setS σ 5 q)
theorem TT_P (σ : St) (q : Sh) (x : Pr) : gP (TT σ q x) 20 = x := gP_setP _ _ _
theorem TT_same {σ : St} {q : Sh} {x : Pr} (hq : gS σ 5 = q) (hx : gP σ 20 = x) : TT σ q x = σ := by
  subst hq; subst hx
  simp only [TT, setS_same]
  exact setP_same σ 20
theorem hourP_to {x : Pr} {a b : Int32} (h : x.2.1 < 6 → a = b) : hourP a x = hourP b x := by
  by_cases hs : x.2.1 < 6
  · rw [h hs]
  · rw [show hourP a x = x from if_neg hs, show hourP b x = x from if_neg hs]
theorem ringP_to {x : Pr} {a b : Int32} (h : x.2.1 < 6 → a = b) : ringP a x = ringP b x := by
  by_cases hs : x.2.1 < 6
  · rw [h hs]
  · rw [show ringP a x = 0 from if_neg (fun q => hs q.1), show ringP b x = 0 from if_neg (fun q => hs q.1)]
theorem ringP_z (a : Int32) (x : Pr) : narrow .boolean (.int (ringP a x)) = .int (ringP a x) := by unfold ringP; split <;> rfl
theorem try_fin {σ σ1 σ2 : St} {pw r : Int32} {q : Sh} {x : Pr} (hq : gS σ 5 = q) (hx : gP σ 20 = x) (hs : x.2.1 < 6 → x.2.1 = 5) (e1 : σ1 = setS σ 5 (hourS pw ((gS σ 5).1, (gS σ 5).2))) (h : r = ringP (gS σ1 (gP σ1 20).2.1).2 (gP σ1 20) ∧ σ2 = setP σ1 20 (hourP (gS σ1 (gP σ1 20).2.1).2 (gP σ1 20))) : r = ringP (hourS pw q).2 x ∧ σ2 = TT σ (tr1 pw (q, x)).1 (tr1 pw (q, x)).2 := by
  subst e1; subst hq; subst hx
  have e2 : gP (setS σ 5 (hourS pw (gS σ 5))) 20 = gP σ 20 := rfl
  have e3 : (gP σ 20).2.1 < 6 → (gS (setS σ 5 (hourS pw (gS σ 5))) (gP σ 20).2.1).2 = (hourS pw (gS σ 5)).2 := fun hh => by rw [hs hh, gS_setS]
  obtain ⟨h1, h2⟩ := h
  refine ⟨h1.trans (ringP_to e3), h2.trans ?_⟩
  show setP (setS σ 5 (hourS pw (gS σ 5))) 20 _ = setP (setS σ 5 (hourS pw (gS σ 5))) 20 _
  exact congrArg _ (hourP_to e3)
def okT (x : Pr) : Prop := x.1 < 6 ∧ (x.2.1 < 6 → x.2.1 = 5)
theorem okT.hour {x : Pr} (h : okT x) (a : Int32) : okT (hourP a x) := ⟨hourP_g h.1, fun q => by
  rcases hourP_s a x with e | e
  · rw [e] at q ⊢; exact h.2 q
  · omega⟩
theorem okT.trN {pw : Int32} {z : Sh × Pr} (h : okT z.2) (n : Nat) : okT (trN pw n z).2 := by
  induction n with
  | zero => exact h
  | succ n ih => exact ih.hour _
theorem okT.trial {x : Pr} (h : x.1 < 6) : okT (trial x) := ⟨h, fun _ => rfl⟩
set_option maxRecDepth 100000 in
set_option maxHeartbeats 4000000 in
theorem c_tryAnHour (l : Launch) (G : Gt) (σ : St) {pw : Int32} {q : Sh} {x : Pr} (hq : gS σ 5 = q) (hx : gP σ 20 = x) (hok : okT x) : Ct l G yX3_tryAnHour cX3_tryAnHour 2 (some .boolean) 3 0 0 [.ref (gB G 0), .int pw] σ (Qi G (fun r σ' => r = ringP (hourS pw q).2 x ∧ σ' = TT σ (tr1 pw (q, x)).1 (tr1 pw (q, x)).2)) := by
  refine mt_intro (by decide +kernel) (Nat.le_of_ble_eq_true rfl) ?_
  intro p e s m below meth c S hr hlk hnm hI ls hl
  have hl : lv_has ls 2 [(0, .ref (gB G 0)), (1, .int pw)] := hl
  refine lv_aload_n S.1 S.2.1 dX3_tryAnHour_0 rfl (lv_at hl 0 rfl) ?_
  refine g_X3_X_trialShelf S hI dX3_tryAnHour_1 ?_
  refine lv_iload_n S.1 S.2.1 dX3_tryAnHour_4 rfl (lv_at hl 1 rfl) ?_
  refine cl_v hI (rnVN (As := [.int pw]) (rest := []) S hI (c_S_hour l G _ (i := 5) (by decide) (sEta _) pw) (cw_X3_X1_liveAnHour S.2.2.2.2 hI.1.2.2.2.2.2.2.2 ⟨Nat.le_of_ble_eq_true rfl, Nat.le_of_ble_eq_true rfl⟩) (rcS hI (by decide)) rfl hl.1 (Nat.le_of_ble_eq_true rfl) dX3_tryAnHour_5 ⟨Nat.le_of_ble_eq_true rfl, Nat.le_of_ble_eq_true rfl⟩) (fun σ1 H locs hq1 hI => ?_)
  have ez1 := hq1
  have hS1 : gS σ1 5 = ((gS σ 5).1, (hourS pw ((gS σ 5).1, (gS σ 5).2)).2) := by rw [ez1]; exact gS_setS _ _ _
  have hf__2 : gP σ1 20 = ((gP σ 20).1, (gP σ 20).2.1, (gP σ 20).2.2.1, (gP σ 20).2.2.2.1, (gP σ 20).2.2.2.2.1, (gP σ 20).2.2.2.2.2) := by rw [ez1]; exact (pEta (gP σ 20))
  refine lv_aload_n S.1 S.2.1 dX3_tryAnHour_8 rfl (lv_at hl 0 rfl) ?_
  refine g_X3_X_trialPromise S hI dX3_tryAnHour_9 ?_
  refine cl_i hI (rnVN (As := []) (rest := []) S hI (c_P_hour l G σ1 (i := 20) (by decide) (by rw [ez1]; show (gP σ 20).1 < 6; rw [hx]; exact hok.1)) (cw_X3_X0_liveAnHour S.2.2.2.2 hI.1.2.2.2.2.2.2.2 ⟨Nat.le_of_ble_eq_true rfl, Nat.le_of_ble_eq_true rfl⟩) (rcP hI (by decide)) rfl hl.1 (Nat.le_of_ble_eq_true rfl) dX3_tryAnHour_12 ⟨Nat.le_of_ble_eq_true rfl, Nat.le_of_ble_eq_true rfl⟩) (fun r3 σ3 H locs hq3 hI => ?_)
  exact xt_z S hI hr hlk (by rw [(try_fin hq hx hok.2 ez1 hq3).1]; exact ringP_z _ _) (try_fin hq hx hok.2 ez1 hq3) (by decide) (by decide) dX3_tryAnHour_15
set_option maxRecDepth 100000 in
set_option maxHeartbeats 4000000 in
theorem c_tried (l : Launch) (G : Gt) (σ : St) {z : Sh × Pr} {nm ar hh pw : Int32} (hX : gX σ = (nm, ar, hh, pw)) (hq : gS σ 5 = z.1) (hx : gP σ 20 = z.2) (hok : okT z.2) {g : Nat} (hg : g < 6) : Ct l G yX3_triedHoursUntil cX3_triedHoursUntil 3 (some .int) 4 0 0 [.ref (gB G 0), .ref (gE G g)] σ (Qi G (fun r σ' => r = fst1 (fun n => decide ((trN pw n z).2.1 = g)) 200 1 ∧ Tr σ σ')) := by
  refine mt_intro (by decide +kernel) (Nat.le_of_ble_eq_true rfl) ?_
  intro p e s m below meth c S hr hlk hnm hI ls hl
  have hl : lv_has ls 3 [(0, .ref (gB G 0)), (1, .ref (gE G g))] := hl
  have loop : ∀ (n : Nat) (k : Nat), k + n = 200 → fst1 (fun n => decide ((trN pw n z).2.1 = g)) 200 1 = fst1 (fun n => decide ((trN pw n z).2.1 = g)) n (k + 1) → ∀ (H : Heap) (locs : List Loc), Iv G (TT σ (trN pw k z).1 (trN pw k z).2) s H locs → ∀ ls : Array Slot, lv_has ls 3 [(0, .ref (gB G 0)), (1, .ref (gE G g)), (2, .int (nI (k + 1)))] → W p l e (rm 4 0 0) s m ([.ref (gB G 0), .ref (gE G g)] : List Value).toArray below meth c H locs 0 0 (MQ below (Qi G (fun r σ' => r = fst1 (fun n => decide ((trN pw n z).2.1 = g)) 200 1 ∧ Tr σ σ')) ([.ref (gB G 0), .ref (gE G g)] : List Value).toArray s 0 0 (gA G)) (F0 m 2 ls []) := by
    intro n
    induction n with
    | zero =>
      intro k hk hF H locs hI ls hl
      refine lv_iload_n S.1 S.2.1 dX3_triedHoursUntil_2 rfl (lv_at hl 2 rfl) ?_
      refine lv_sipush (v := 200) S.1 S.2.1 dX3_triedHoursUntil_3 (by decide) ?_
      refine lv_icmp_gt (tgt := 37) S.1 S.2.1 dX3_triedHoursUntil_6 (by decide) (fun cz_6 => ?_) (fun c9 => absurd (nI_lt (a := 200) (by omega) (by omega)) c9)
      refine lv_iconst (v := (-1)) S.1 S.2.1 dX3_triedHoursUntil_37 (by decide) ?_
      exact xt_i S hI hr hlk (⟨hF.symm, _, _, rfl⟩) (by decide) (by decide) dX3_triedHoursUntil_38
    | succ n ih =>
      intro k hk hF H locs hI ls hl
      refine lv_iload_n S.1 S.2.1 dX3_triedHoursUntil_2 rfl (lv_at hl 2 rfl) ?_
      refine lv_sipush (v := 200) S.1 S.2.1 dX3_triedHoursUntil_3 (by decide) ?_
      refine lv_icmp_gt (tgt := 37) S.1 S.2.1 dX3_triedHoursUntil_6 (by decide) (fun c9 => absurd c9 (nI_nlt (b := k + 1) (a := 200) (by omega) (by omega))) (fun cz_6 => ?_)
      refine lv_aload_n S.1 S.2.1 dX3_triedHoursUntil_9 rfl (lv_at hl 0 rfl) ?_
      refine lv_aload_n S.1 S.2.1 dX3_triedHoursUntil_10 rfl (lv_at hl 0 rfl) ?_
      refine g_X3_X_power S hI hX dX3_triedHoursUntil_11 ?_
      refine cl_i hI (rnV (As := [.int pw]) (rest := []) S hI (c_tryAnHour l G _ (pw := pw) (TT_S _ _ _) (TT_P _ _ _) (hok.trN k)) (cw_X3_X3_tryAnHour S.2.2.2.2 ⟨Nat.le_of_ble_eq_true rfl, Nat.le_of_ble_eq_true rfl⟩) (rcX hI) rfl hl.1 (Nat.le_of_ble_eq_true rfl) dX3_triedHoursUntil_14 ⟨Nat.le_of_ble_eq_true rfl, Nat.le_of_ble_eq_true rfl⟩) (fun r1 σ1 H locs hq1 hI => ?_)
      obtain ⟨hr1, hs1⟩ := hq1
      rw [TT_TT] at hs1
      rw [hs1] at hI
      have hI : Iv G (TT σ (trN pw (k + 1) z).1 (trN pw (k + 1) z).2) s H locs := hI
      refine lv_pop S.1 S.2.1 dX3_triedHoursUntil_17 rfl ?_
      refine lv_aload_n S.1 S.2.1 dX3_triedHoursUntil_18 rfl (lv_at hl 0 rfl) ?_
      refine g_X3_X_trialPromise S hI dX3_triedHoursUntil_19 ?_
      refine g_X3_P_stage S hI (by decide) (TT_P σ (trN pw (k + 1) z).1 (trN pw (k + 1) z).2) dX3_triedHoursUntil_22 ?_
      refine lv_aload_n S.1 S.2.1 dX3_triedHoursUntil_25 rfl (lv_at hl 1 rfl) ?_
      refine ag_ne S hI (hok.trN (k + 1)).1 hg (tgt := 31) dX3_triedHoursUntil_26 (by decide) (fun cz_26 => ?_) (fun cz_26 => ?_)
      · refine lv_iinc (v := (nI (k + 1 + 1))) (lv' := [(2, .int (nI (k + 1 + 1))), (0, .ref (gB G 0)), (1, .ref (gE G g))]) S.1 S.2.1 dX3_triedHoursUntil_31 hl (k := 2) rfl (nI_1 (k + 1)) (by decide) rfl (fun ls hl => ?_)
        refine lv_goto (tgt := 2) S.1 S.2.1 dX3_triedHoursUntil_34 (by decide) ?_
        exact ih (k + 1) (by omega) (hF.trans (if_neg (by rw [decide_eq_true_eq]; exact cz_26))) _ _ hI ls (lv_sub hl [1, 2, 0] rfl)
      · refine lv_iload_n S.1 S.2.1 dX3_triedHoursUntil_29 rfl (lv_at hl 2 rfl) ?_
        exact xt_i S hI hr hlk (⟨by rw [hF]; exact (if_pos (decide_eq_true cz_26)).symm, _, _, rfl⟩) (by decide) (by decide) dX3_triedHoursUntil_30
  rw [← TT_same hq hx] at hI
  refine lv_iconst (v := (nI (0 + 1))) S.1 S.2.1 dX3_triedHoursUntil_0 (by rfl) ?_
  refine lv_istore_n (lv' := [(2, .int (nI (0 + 1))), (0, .ref (gB G 0)), (1, .ref (gE G g))]) S.1 S.2.1 dX3_triedHoursUntil_1 rfl hl (by decide) rfl (fun ls hl => ?_)
  exact loop 200 0 rfl rfl _ _ hI ls (lv_sub hl [1, 2, 0] rfl)
set_option maxRecDepth 100000 in
set_option maxHeartbeats 4000000 in
theorem c_hoursUntil (l : Launch) (G : Gt) (σ : St) (hok : okP σ) {nm ar hh pw : Int32} (hX : gX σ = (nm, ar, hh, pw)) {i : Nat} (hi : i < 20) {g : Nat} (hg : g < 6) : Ct l G yX3_hoursUntil cX3_hoursUntil 4 (some .int) 5 0 0 [.ref (gB G 0), .ref (gB G (15 + i)), .ref (gE G g)] σ (Qi G (fun r σ' => r = hUntil pw (gS σ (gP σ i).2.1) (gP σ i) g ∧ Tr σ σ')) := by
  refine mt_intro (by decide +kernel) (Nat.le_of_ble_eq_true rfl) ?_
  intro p e s m below meth c S hr hlk hnm hI ls hl
  have hl : lv_has ls 4 [(0, .ref (gB G 0)), (1, .ref (gB G (15 + i))), (2, .ref (gE G g))] := hl
  by_cases hs : (gP σ i).2.1 < 6
  · have hs5 : (gP σ i).2.1 < 5 := by have := (hok i hi).2; omega
    refine lv_aload_n S.1 S.2.1 dX3_hoursUntil_0 rfl (lv_at hl 1 rfl) ?_
    refine g_X3_P_stage S hI (by omega) (pEta (gP σ i)) dX3_hoursUntil_1 ?_
    refine lv_aload_n S.1 S.2.1 dX3_hoursUntil_4 rfl (lv_at hl 2 rfl) ?_
    refine ag_ne S hI (hok i hi).1 hg (tgt := 10) dX3_hoursUntil_5 (by decide) (fun cz_5 => ?_) (fun cz_5 => ?_)
    · refine lv_aload_n S.1 S.2.1 dX3_hoursUntil_10 rfl (lv_at hl 1 rfl) ?_
      refine g_X3_P_shelf_s S hI (by omega) (pEta (gP σ i)) hs dX3_hoursUntil_11 ?_
      refine lv_astore_n (lv' := [(3, .ref (gB G (9 + (gP σ i).2.1))), (0, .ref (gB G 0)), (1, .ref (gB G (15 + i))), (2, .ref (gE G g))]) S.1 S.2.1 dX3_hoursUntil_14 rfl hl (by decide) rfl (fun ls hl => ?_)
      refine lv_aload_n S.1 S.2.1 dX3_hoursUntil_15 rfl (lv_at hl 0 rfl) ?_
      refine lv_ifnonnull (tgt := 21) S.1 S.2.1 dX3_hoursUntil_16 (by decide) ?_
      refine lv_aload_n S.1 S.2.1 dX3_hoursUntil_21 rfl (lv_at hl 1 rfl) ?_
      refine lv_aload_n S.1 S.2.1 dX3_hoursUntil_22 rfl (lv_at hl 2 rfl) ?_
      refine lv_aload_n S.1 S.2.1 dX3_hoursUntil_23 rfl (lv_at hl 0 rfl) ?_
      refine cl_v hI (rnV (As := [.ref (gB G (15 + i)), .ref (gB G (9 + (gP σ i).2.1))]) (rest := []) S hI (c_tryOut l G _ (i := i) (j := (gP σ i).2.1) hi hs5) (cw_X3_X3_tryOut S.2.2.2.2 ⟨Nat.le_of_ble_eq_true rfl, Nat.le_of_ble_eq_true rfl⟩) (rcX hI) rfl hl.1 (Nat.le_of_ble_eq_true rfl) dX3_hoursUntil_24 ⟨Nat.le_of_ble_eq_true rfl, Nat.le_of_ble_eq_true rfl⟩) (fun σ1 H locs hq1 hI => ?_)
      rw [hq1] at hI
      refine lv_aload_n S.1 S.2.1 dX3_hoursUntil_27 rfl (lv_at hl 1 rfl) ?_
      refine lv_aload_n S.1 S.2.1 dX3_hoursUntil_28 rfl (lv_at hl 3 rfl) ?_
      refine cl_i hI (rnV (As := [.ref (gE G g)]) (rest := []) S hI (c_tried l G (TT σ (gS σ (gP σ i).2.1) (trial (gP σ i))) (z := (gS σ (gP σ i).2.1, trial (gP σ i))) hX (TT_S _ _ _) (TT_P _ _ _) (okT.trial (hok i hi).1) hg) (cw_X3_X3_triedHoursUntil S.2.2.2.2 ⟨Nat.le_of_ble_eq_true rfl, Nat.le_of_ble_eq_true rfl⟩) (rcX hI) rfl hl.1 (Nat.le_of_ble_eq_true rfl) dX3_hoursUntil_29 ⟨Nat.le_of_ble_eq_true rfl, Nat.le_of_ble_eq_true rfl⟩) (fun r2 σ2 H locs hq2 hI => ?_)
      obtain ⟨hr2, hs2⟩ := hq2
      exact xt_i S hI hr hlk (⟨by rw [hr2]; exact ((if_neg cz_5).trans (if_pos hs)).symm, Tr.trans ⟨_, _, rfl⟩ hs2⟩) (by decide) (by decide) dX3_hoursUntil_32
    · refine lv_iconst (v := 0) S.1 S.2.1 dX3_hoursUntil_8 (by decide) ?_
      exact xt_i S hI hr hlk (⟨(if_pos cz_5).symm, Tr.rf σ⟩) (by decide) (by decide) dX3_hoursUntil_9
  · skip
    refine lv_aload_n S.1 S.2.1 dX3_hoursUntil_0 rfl (lv_at hl 1 rfl) ?_
    refine g_X3_P_stage S hI (by omega) (pEta (gP σ i)) dX3_hoursUntil_1 ?_
    refine lv_aload_n S.1 S.2.1 dX3_hoursUntil_4 rfl (lv_at hl 2 rfl) ?_
    refine ag_ne S hI (hok i hi).1 hg (tgt := 10) dX3_hoursUntil_5 (by decide) (fun cz_5 => ?_) (fun cz_5 => ?_)
    · refine lv_aload_n S.1 S.2.1 dX3_hoursUntil_10 rfl (lv_at hl 1 rfl) ?_
      refine g_X3_P_shelf_n S hI (by omega) (pEta (gP σ i)) hs dX3_hoursUntil_11 ?_
      refine lv_astore_nN (lv' := [(3, .null), (0, .ref (gB G 0)), (1, .ref (gB G (15 + i))), (2, .ref (gE G g))]) S.1 S.2.1 dX3_hoursUntil_14 rfl hl (by decide) rfl (fun ls hl => ?_)
      refine lv_aload_nN S.1 S.2.1 dX3_hoursUntil_15 rfl (lv_at hl 0 rfl) ?_
      refine lv_ifnonnullN S.1 S.2.1 dX3_hoursUntil_16 ?_
      refine lv_iconst (v := (-1)) S.1 S.2.1 dX3_hoursUntil_19 (by decide) ?_
      exact xt_i S hI hr hlk (⟨((if_neg cz_5).trans (if_neg hs)).symm, Tr.rf σ⟩) (by decide) (by decide) dX3_hoursUntil_20
    · refine lv_iconst (v := 0) S.1 S.2.1 dX3_hoursUntil_8 (by decide) ?_
      exact xt_i S hI hr hlk (⟨(if_pos cz_5).symm, Tr.rf σ⟩) (by decide) (by decide) dX3_hoursUntil_9
set_option maxRecDepth 100000 in
set_option maxHeartbeats 4000000 in
theorem c_liesBehind (l : Launch) (G : Gt) (σ : St) (hok : okP σ) {nm ar hh pw : Int32} (hX : gX σ = (nm, ar, hh, pw)) {i : Nat} (hi : i < 20) {h : Nat} (hh100 : h ≤ 100) : Ct l G yX3_liesBehind cX3_liesBehind 5 (some .boolean) 5 0 0 [.ref (gB G 0), .ref (gB G (15 + i)), .int (nI h)] σ (Qi G (fun r σ' => r = liesN pw (gS σ (gP σ i).2.1) (gP σ i) h ∧ Tr σ σ')) := by
  refine mt_intro (by decide +kernel) (Nat.le_of_ble_eq_true rfl) ?_
  intro p e s m below meth c S hr hlk hnm hI ls hl
  have hl : lv_has ls 5 [(0, .ref (gB G 0)), (1, .ref (gB G (15 + i))), (2, .int (nI h))] := hl
  by_cases hs : (gP σ i).2.1 < 6
  · have hs5 : (gP σ i).2.1 < 5 := by have := (hok i hi).2; omega
    obtain ⟨z, hz⟩ : ∃ z : Sh × Pr, z = (gS σ (gP σ i).2.1, trial (gP σ i)) := ⟨_, rfl⟩
    have hokz : okT z.2 := by rw [hz]; exact okT.trial (hok i hi).1
    have loop : ∀ (n : Nat) (k : Nat), k + n = h → ∀ (H : Heap) (locs : List Loc), Iv G (TT σ (trN pw k z).1 (trN pw k z).2) s H locs → ∀ ls : Array Slot, lv_has ls 5 [(0, .ref (gB G 0)), (2, .int (nI h)), (4, .int (nI k))] → W p l e (rm 5 0 0) s m ([.ref (gB G 0), .ref (gB G (15 + i)), .int (nI h)] : List Value).toArray below meth c H locs 0 0 (MQ below (Qi G (fun r σ' => r = liesN pw (gS σ (gP σ i).2.1) (gP σ i) h ∧ Tr σ σ')) ([.ref (gB G 0), .ref (gB G (15 + i)), .int (nI h)] : List Value).toArray s 0 0 (gA G)) (F0 m 20 ls []) := by
      intro n
      induction n with
      | zero =>
        intro k hk H locs hI ls hl
        obtain rfl : k = h := by omega
        refine lv_iload S.1 S.2.1 dX3_liesBehind_20 (lv_at hl 2 rfl) ?_
        refine lv_iload_n S.1 S.2.1 dX3_liesBehind_22 rfl (lv_at hl 1 rfl) ?_
        refine lv_icmp_ge (tgt := 41) S.1 S.2.1 dX3_liesBehind_23 (by decide) (fun cz_23 => ?_) (fun c9 => absurd (nI_le (Nat.le_refl _) (by omega)) c9)
        refine lv_aload_n S.1 S.2.1 dX3_liesBehind_41 rfl (lv_at hl 0 rfl) ?_
        refine g_X3_X_trialPromise S hI dX3_liesBehind_42 ?_
        refine g_X3_P_shelf_r S hI (by decide) (TT_P σ (trN pw k z).1 (trN pw k z).2) dX3_liesBehind_45 ?_
        refine nn_no S (tgt := 55) dX3_liesBehind_48 (by decide) (fun cz_48 => ?_) (fun cz_48 => ?_)
        · refine lv_iconst (v := 0) S.1 S.2.1 dX3_liesBehind_55 (by decide) ?_
          exact xt_z S hI hr hlk rfl (⟨by rw [show liesN pw (gS σ (gP σ i).2.1) (gP σ i) k = _ from if_pos hs, ← hz]; exact (if_neg cz_48).symm, _, _, rfl⟩) (by decide) (by decide) dX3_liesBehind_56
        · refine lv_iconst (v := 1) S.1 S.2.1 dX3_liesBehind_51 (by decide) ?_
          refine lv_goto (tgt := 56) S.1 S.2.1 dX3_liesBehind_52 (by decide) ?_
          exact xt_z S hI hr hlk rfl (⟨by rw [show liesN pw (gS σ (gP σ i).2.1) (gP σ i) k = _ from if_pos hs, ← hz]; exact (if_pos cz_48).symm, _, _, rfl⟩) (by decide) (by decide) dX3_liesBehind_56
      | succ n ih =>
        intro k hk H locs hI ls hl
        refine lv_iload S.1 S.2.1 dX3_liesBehind_20 (lv_at hl 2 rfl) ?_
        refine lv_iload_n S.1 S.2.1 dX3_liesBehind_22 rfl (lv_at hl 1 rfl) ?_
        refine lv_icmp_ge (tgt := 41) S.1 S.2.1 dX3_liesBehind_23 (by decide) (fun c9 => absurd c9 (nI_ge (by omega) (by omega))) (fun cz_23 => ?_)
        refine lv_aload_n S.1 S.2.1 dX3_liesBehind_26 rfl (lv_at hl 0 rfl) ?_
        refine lv_aload_n S.1 S.2.1 dX3_liesBehind_27 rfl (lv_at hl 0 rfl) ?_
        refine g_X3_X_power S hI hX dX3_liesBehind_28 ?_
        refine cl_i hI (rnV (As := [.int pw]) (rest := []) S hI (c_tryAnHour l G _ (pw := pw) (TT_S _ _ _) (TT_P _ _ _) (hokz.trN k)) (cw_X3_X3_tryAnHour S.2.2.2.2 ⟨Nat.le_of_ble_eq_true rfl, Nat.le_of_ble_eq_true rfl⟩) (rcX hI) rfl hl.1 (Nat.le_of_ble_eq_true rfl) dX3_liesBehind_31 ⟨Nat.le_of_ble_eq_true rfl, Nat.le_of_ble_eq_true rfl⟩) (fun r1 σ1 H locs hq1 hI => ?_)
        obtain ⟨hr1, hs1⟩ := hq1
        rw [TT_TT] at hs1
        rw [hs1] at hI
        have hI : Iv G (TT σ (trN pw (k + 1) z).1 (trN pw (k + 1) z).2) s H locs := hI
        refine lv_pop S.1 S.2.1 dX3_liesBehind_34 rfl ?_
        refine lv_iinc (v := (nI (k + 1))) (lv' := [(4, .int (nI (k + 1))), (0, .ref (gB G 0)), (2, .int (nI h))]) S.1 S.2.1 dX3_liesBehind_35 hl (k := 2) rfl (nI_1 k) (by decide) rfl (fun ls hl => ?_)
        refine lv_goto (tgt := 20) S.1 S.2.1 dX3_liesBehind_38 (by decide) ?_
        exact ih (k + 1) (by omega) _ _ hI ls (lv_sub hl [1, 2, 0] rfl)
    refine lv_aload_n S.1 S.2.1 dX3_liesBehind_0 rfl (lv_at hl 1 rfl) ?_
    refine g_X3_P_shelf_s S hI (by omega) (pEta (gP σ i)) hs dX3_liesBehind_1 ?_
    refine lv_astore_n (lv' := [(3, .ref (gB G (9 + (gP σ i).2.1))), (0, .ref (gB G 0)), (1, .ref (gB G (15 + i))), (2, .int (nI h))]) S.1 S.2.1 dX3_liesBehind_4 rfl hl (by decide) rfl (fun ls hl => ?_)
    refine lv_aload_n S.1 S.2.1 dX3_liesBehind_5 rfl (lv_at hl 0 rfl) ?_
    refine lv_ifnonnull (tgt := 11) S.1 S.2.1 dX3_liesBehind_6 (by decide) ?_
    refine lv_aload_n S.1 S.2.1 dX3_liesBehind_11 rfl (lv_at hl 1 rfl) ?_
    refine lv_aload_n S.1 S.2.1 dX3_liesBehind_12 rfl (lv_at hl 2 rfl) ?_
    refine lv_aload_n S.1 S.2.1 dX3_liesBehind_13 rfl (lv_at hl 0 rfl) ?_
    refine cl_v hI (rnV (As := [.ref (gB G (15 + i)), .ref (gB G (9 + (gP σ i).2.1))]) (rest := []) S hI (c_tryOut l G _ (i := i) (j := (gP σ i).2.1) hi hs5) (cw_X3_X3_tryOut S.2.2.2.2 ⟨Nat.le_of_ble_eq_true rfl, Nat.le_of_ble_eq_true rfl⟩) (rcX hI) rfl hl.1 (Nat.le_of_ble_eq_true rfl) dX3_liesBehind_14 ⟨Nat.le_of_ble_eq_true rfl, Nat.le_of_ble_eq_true rfl⟩) (fun σ1 H locs hq1 hI => ?_)
    rw [hq1] at hI
    have hI : Iv G (TT σ (trN pw 0 z).1 (trN pw 0 z).2) s H locs := by rw [hz]; exact hI
    refine lv_iconst (v := (nI 0)) S.1 S.2.1 dX3_liesBehind_17 (by rfl) ?_
    refine lv_istore (lv' := [(4, .int (nI 0)), (3, .ref (gB G (9 + (gP σ i).2.1))), (0, .ref (gB G 0)), (1, .ref (gB G (15 + i))), (2, .int (nI h))]) S.1 S.2.1 dX3_liesBehind_18 hl (by decide) rfl (fun ls hl => ?_)
    exact loop h 0 (by omega) _ _ hI ls (lv_sub hl [2, 4, 0] rfl)
  · skip
    refine lv_aload_n S.1 S.2.1 dX3_liesBehind_0 rfl (lv_at hl 1 rfl) ?_
    refine g_X3_P_shelf_n S hI (by omega) (pEta (gP σ i)) hs dX3_liesBehind_1 ?_
    refine lv_astore_nN (lv' := [(3, .null), (0, .ref (gB G 0)), (1, .ref (gB G (15 + i))), (2, .int (nI h))]) S.1 S.2.1 dX3_liesBehind_4 rfl hl (by decide) rfl (fun ls hl => ?_)
    refine lv_aload_nN S.1 S.2.1 dX3_liesBehind_5 rfl (lv_at hl 0 rfl) ?_
    refine lv_ifnonnullN S.1 S.2.1 dX3_liesBehind_6 ?_
    refine lv_iconst (v := 0) S.1 S.2.1 dX3_liesBehind_9 (by decide) ?_
    exact xt_z S hI hr hlk rfl (⟨(if_neg hs).symm, Tr.rf σ⟩) (by decide) (by decide) dX3_liesBehind_10
set_option maxRecDepth 100000 in
set_option maxHeartbeats 4000000 in
theorem c_freezeAnew (l : Launch) (G : Gt) (σ : St) {nm ar hh pw : Int32} (hX : gX σ = (nm, ar, hh, pw)) {j : Nat} (hj : j < 5) : Ct l G yX3_hoursToFreezeAnew cX3_hoursToFreezeAnew 2 (some .int) 5 0 0 [.ref (gB G 0), .ref (gB G (9 + j))] σ (Qi G (fun r σ' => r = freezeN pw (gS σ j) ∧ Tr σ σ')) := by
  refine mt_intro (by decide +kernel) (Nat.le_of_ble_eq_true rfl) ?_
  intro p e s m below meth c S hr hlk hnm hI ls hl
  have hl : lv_has ls 2 [(0, .ref (gB G 0)), (1, .ref (gB G (9 + j)))] := hl
  refine lv_aload_n S.1 S.2.1 dX3_hoursToFreezeAnew_0 rfl (lv_at hl 0 rfl) ?_
  refine g_X3_X_trialShelf S hI dX3_hoursToFreezeAnew_1 ?_
  refine lv_aload_n S.1 S.2.1 dX3_hoursToFreezeAnew_4 rfl (lv_at hl 1 rfl) ?_
  refine cl_v hI (rnVN (As := [.ref (gB G (9 + j))]) (rest := []) S hI (c_S_like l G _ (i := 5) (j := j) (by decide) (by omega) (by omega) (sEta _) (sEta _)) (cw_X3_X1_becomeLike S.2.2.2.2 hI.1.2.2.2.2.2.2.2 ⟨Nat.le_of_ble_eq_true rfl, Nat.le_of_ble_eq_true rfl⟩) (rcS hI (by decide)) rfl hl.1 (Nat.le_of_ble_eq_true rfl) dX3_hoursToFreezeAnew_5 ⟨Nat.le_of_ble_eq_true rfl, Nat.le_of_ble_eq_true rfl⟩) (fun σ1 H locs hq1 hI => ?_)
  have ez1 := hq1
  have hS1 : gS σ1 5 = ((gS σ j).1, (gS σ j).2) := by rw [ez1]; exact gS_setS _ _ _
  have hX__2 : gX σ1 = (nm, ar, hh, pw) := by rw [ez1]; exact hX
  refine lv_aload_n S.1 S.2.1 dX3_hoursToFreezeAnew_8 rfl (lv_at hl 0 rfl) ?_
  refine g_X3_X_trialShelf S hI dX3_hoursToFreezeAnew_9 ?_
  refine cl_v hI (rnVN (As := []) (rest := []) S hI (c_openDoor l G _ (i := 5) (by decide) hS1) (cw_X3_X1_openDoor S.2.2.2.2 hI.1.2.2.2.2.2.2.2 ⟨Nat.le_of_ble_eq_true rfl, Nat.le_of_ble_eq_true rfl⟩) (rcS hI (by decide)) rfl hl.1 (Nat.le_of_ble_eq_true rfl) dX3_hoursToFreezeAnew_12 ⟨Nat.le_of_ble_eq_true rfl, Nat.le_of_ble_eq_true rfl⟩) (fun σ3 H locs hq3 hI => ?_)
  have ez3 := hq3
  have hS3 : gS σ3 5 = ((gS σ j).1, (openH (gS σ j).2)) := by rw [ez3]; exact gS_setS _ _ _
  have hX__4 : gX σ3 = (nm, ar, hh, pw) := by rw [ez3]; exact hX__2
  refine lv_aload_n S.1 S.2.1 dX3_hoursToFreezeAnew_15 rfl (lv_at hl 0 rfl) ?_
  refine g_X3_X_trialPromise S hI dX3_hoursToFreezeAnew_16 ?_
  refine lv_iconst (v := 0) S.1 S.2.1 dX3_hoursToFreezeAnew_19 (by decide) ?_
  refine lv_bipush (v := 100) S.1 S.2.1 dX3_hoursToFreezeAnew_20 (by decide) ?_
  refine lv_aload_n S.1 S.2.1 dX3_hoursToFreezeAnew_22 rfl (lv_at hl 0 rfl) ?_
  refine g_X3_X_trialShelf S hI dX3_hoursToFreezeAnew_23 ?_
  refine cl_v hI (rnVN (As := [.int 0, .int 100, .ref (gB G (9 + 5))]) (rest := []) S hI (c_P_lay l G _ (i := 20) (by decide) (pEta _) 0 100 (k := 5) (by decide)) (cw_X3_X0_layAnew S.2.2.2.2 hI.1.2.2.2.2.2.2.2 ⟨Nat.le_of_ble_eq_true rfl, Nat.le_of_ble_eq_true rfl⟩) (rcP hI (by decide)) rfl hl.1 (Nat.le_of_ble_eq_true rfl) dX3_hoursToFreezeAnew_26 ⟨Nat.le_of_ble_eq_true rfl, Nat.le_of_ble_eq_true rfl⟩) (fun σ5 H locs hq5 hI => ?_)
  have ez5 := hq5
  have hP5 : gP σ5 20 = (1, 5, 0, 100, 0, 20) := by rw [ez5]; exact gP_setP _ _ _
  have hX__6 : gX σ5 = (nm, ar, hh, pw) := by rw [ez5]; exact hX__4
  have hS3__7 : gS σ5 5 = ((gS σ j).1, (openH (gS σ j).2)) := by rw [ez5]; exact hS3
  refine lv_aload_n S.1 S.2.1 dX3_hoursToFreezeAnew_29 rfl (lv_at hl 0 rfl) ?_
  refine gs_X3_FROZEN S hI dX3_hoursToFreezeAnew_30 ?_
  refine cl_i hI (rnV (As := [.ref (gE G 2)]) (rest := []) S hI (c_tried l G σ5 (z := (((gS σ j).1, openH (gS σ j).2), newP)) hX__6 hS3__7 hP5 (show okT newP from ⟨by decide, fun _ => rfl⟩) (g := 2) (by decide)) (cw_X3_X3_triedHoursUntil S.2.2.2.2 ⟨Nat.le_of_ble_eq_true rfl, Nat.le_of_ble_eq_true rfl⟩) (rcX hI) rfl hl.1 (Nat.le_of_ble_eq_true rfl) dX3_hoursToFreezeAnew_33 ⟨Nat.le_of_ble_eq_true rfl, Nat.le_of_ble_eq_true rfl⟩) (fun r8 σ8 H locs hq8 hI => ?_)
  obtain ⟨hr8, hs8⟩ := hq8
  exact xt_i S hI hr hlk (⟨hr8, Tr.trans ⟨_, _, by rw [ez5, ez3, ez1]; rw [setS_setS]; rfl⟩ hs8⟩) (by decide) (by decide) dX3_hoursToFreezeAnew_36
theorem ring_yes {r : Int32} {pw : Int32} {z : Sh × Pr} {k : Nat} (h : r = ringP (hourS pw (trN pw k z).1).2 (trN pw k z).2) (h1 : ¬ r = 0) : rgN pw z (k + 1) = true := by
  show (ringP _ _ == 1) = true
  rw [← h]
  unfold ringP at h
  split at h
  · rw [h]; rfl
  · exact absurd h h1
theorem ring_no {r : Int32} {pw : Int32} {z : Sh × Pr} {k : Nat} (h : r = ringP (hourS pw (trN pw k z).1).2 (trN pw k z).2) (h1 : r = 0) : ¬ rgN pw z (k + 1) = true := by
  show ¬ (ringP _ _ == 1) = true
  rw [← h, h1]
  decide
set_option maxRecDepth 100000 in
set_option maxHeartbeats 4000000 in
theorem c_alarmN (l : Launch) (G : Gt) (σ : St) (hok : okP σ) {i : Nat} (hi : i < 20) : Ct l G yX3_hoursToAlarmWithoutPower cX3_hoursToAlarmWithoutPower 4 (some .int) 5 0 0 [.ref (gB G 0), .ref (gB G (15 + i))] σ (Qi G (fun r σ' => r = alarmN (gS σ (gP σ i).2.1) (gP σ i) ∧ Tr σ σ')) := by
  refine mt_intro (by decide +kernel) (Nat.le_of_ble_eq_true rfl) ?_
  intro p e s m below meth c S hr hlk hnm hI ls hl
  have hl : lv_has ls 4 [(0, .ref (gB G 0)), (1, .ref (gB G (15 + i)))] := hl
  by_cases hs : (gP σ i).2.1 < 6
  · have hs5 : (gP σ i).2.1 < 5 := by have := (hok i hi).2; omega
    obtain ⟨z, hz⟩ : ∃ z : Sh × Pr, z = (gS σ (gP σ i).2.1, trial (gP σ i)) := ⟨_, rfl⟩
    have hokz : okT z.2 := by rw [hz]; exact okT.trial (hok i hi).1
    have hE : alarmN (gS σ (gP σ i).2.1) (gP σ i) = fst1 (rgN 0 z) 200 1 := by rw [hz]; exact if_pos hs
    have loop : ∀ (n : Nat) (k : Nat), k + n = 200 → fst1 (rgN 0 z) 200 1 = fst1 (rgN 0 z) n (k + 1) → ∀ (H : Heap) (locs : List Loc), Iv G (TT σ (trN 0 k z).1 (trN 0 k z).2) s H locs → ∀ ls : Array Slot, lv_has ls 4 [(0, .ref (gB G 0)), (3, .int (nI (k + 1)))] → W p l e (rm 5 0 0) s m ([.ref (gB G 0), .ref (gB G (15 + i))] : List Value).toArray below meth c H locs 0 0 (MQ below (Qi G (fun r σ' => r = alarmN (gS σ (gP σ i).2.1) (gP σ i) ∧ Tr σ σ')) ([.ref (gB G 0), .ref (gB G (15 + i))] : List Value).toArray s 0 0 (gA G)) (F0 m 19 ls []) := by
      intro n
      induction n with
      | zero =>
        intro k hk hF H locs hI ls hl
        refine lv_iload_n S.1 S.2.1 dX3_hoursToAlarmWithoutPower_19 rfl (lv_at hl 1 rfl) ?_
        refine lv_sipush (v := 200) S.1 S.2.1 dX3_hoursToAlarmWithoutPower_20 (by decide) ?_
        refine lv_icmp_gt (tgt := 42) S.1 S.2.1 dX3_hoursToAlarmWithoutPower_23 (by decide) (fun cz_23 => ?_) (fun c9 => absurd (nI_lt (a := 200) (by omega) (by omega)) c9)
        refine lv_iconst (v := (-1)) S.1 S.2.1 dX3_hoursToAlarmWithoutPower_42 (by decide) ?_
        exact xt_i S hI hr hlk (⟨hE.trans hF |>.symm, _, _, rfl⟩) (by decide) (by decide) dX3_hoursToAlarmWithoutPower_43
      | succ n ih =>
        intro k hk hF H locs hI ls hl
        refine lv_iload_n S.1 S.2.1 dX3_hoursToAlarmWithoutPower_19 rfl (lv_at hl 1 rfl) ?_
        refine lv_sipush (v := 200) S.1 S.2.1 dX3_hoursToAlarmWithoutPower_20 (by decide) ?_
        refine lv_icmp_gt (tgt := 42) S.1 S.2.1 dX3_hoursToAlarmWithoutPower_23 (by decide) (fun c9 => absurd c9 (nI_nlt (b := k + 1) (a := 200) (by omega) (by omega))) (fun cz_23 => ?_)
        refine lv_aload_n S.1 S.2.1 dX3_hoursToAlarmWithoutPower_26 rfl (lv_at hl 0 rfl) ?_
        refine lv_iconst (v := 0) S.1 S.2.1 dX3_hoursToAlarmWithoutPower_27 (by decide) ?_
        refine cl_i hI (rnV (As := [.int 0]) (rest := []) S hI (c_tryAnHour l G _ (pw := 0) (TT_S _ _ _) (TT_P _ _ _) (hokz.trN k)) (cw_X3_X3_tryAnHour S.2.2.2.2 ⟨Nat.le_of_ble_eq_true rfl, Nat.le_of_ble_eq_true rfl⟩) (rcX hI) rfl hl.1 (Nat.le_of_ble_eq_true rfl) dX3_hoursToAlarmWithoutPower_28 ⟨Nat.le_of_ble_eq_true rfl, Nat.le_of_ble_eq_true rfl⟩) (fun r1 σ1 H locs hq1 hI => ?_)
        obtain ⟨hr1, hs1⟩ := hq1
        rw [TT_TT] at hs1
        rw [hs1] at hI
        have hI : Iv G (TT σ (trN 0 (k + 1) z).1 (trN 0 (k + 1) z).2) s H locs := hI
        refine lv_if_eq (tgt := 36) S.1 S.2.1 dX3_hoursToAlarmWithoutPower_31 (by decide) (fun cz_31 => ?_) (fun cz_31 => ?_)
        · refine lv_iinc (v := (nI (k + 1 + 1))) (lv' := [(3, .int (nI (k + 1 + 1))), (0, .ref (gB G 0))]) S.1 S.2.1 dX3_hoursToAlarmWithoutPower_36 hl (k := 1) rfl (nI_1 (k + 1)) (by decide) rfl (fun ls hl => ?_)
          refine lv_goto (tgt := 19) S.1 S.2.1 dX3_hoursToAlarmWithoutPower_39 (by decide) ?_
          exact ih (k + 1) (by omega) (hF.trans (if_neg (ring_no hr1 cz_31))) _ _ hI ls (lv_sub hl [1, 0] rfl)
        · refine lv_iload_n S.1 S.2.1 dX3_hoursToAlarmWithoutPower_34 rfl (lv_at hl 1 rfl) ?_
          exact xt_i S hI hr hlk (⟨by rw [hE, hF]; exact (if_pos (ring_yes hr1 cz_31)).symm, _, _, rfl⟩) (by decide) (by decide) dX3_hoursToAlarmWithoutPower_35
    refine lv_aload_n S.1 S.2.1 dX3_hoursToAlarmWithoutPower_0 rfl (lv_at hl 1 rfl) ?_
    refine g_X3_P_shelf_s S hI (by omega) (pEta (gP σ i)) hs dX3_hoursToAlarmWithoutPower_1 ?_
    refine lv_astore_n (lv' := [(2, .ref (gB G (9 + (gP σ i).2.1))), (0, .ref (gB G 0)), (1, .ref (gB G (15 + i)))]) S.1 S.2.1 dX3_hoursToAlarmWithoutPower_4 rfl hl (by decide) rfl (fun ls hl => ?_)
    refine lv_aload_n S.1 S.2.1 dX3_hoursToAlarmWithoutPower_5 rfl (lv_at hl 0 rfl) ?_
    refine lv_ifnonnull (tgt := 11) S.1 S.2.1 dX3_hoursToAlarmWithoutPower_6 (by decide) ?_
    refine lv_aload_n S.1 S.2.1 dX3_hoursToAlarmWithoutPower_11 rfl (lv_at hl 1 rfl) ?_
    refine lv_aload_n S.1 S.2.1 dX3_hoursToAlarmWithoutPower_12 rfl (lv_at hl 2 rfl) ?_
    refine lv_aload_n S.1 S.2.1 dX3_hoursToAlarmWithoutPower_13 rfl (lv_at hl 0 rfl) ?_
    refine cl_v hI (rnV (As := [.ref (gB G (15 + i)), .ref (gB G (9 + (gP σ i).2.1))]) (rest := []) S hI (c_tryOut l G _ (i := i) (j := (gP σ i).2.1) hi hs5) (cw_X3_X3_tryOut S.2.2.2.2 ⟨Nat.le_of_ble_eq_true rfl, Nat.le_of_ble_eq_true rfl⟩) (rcX hI) rfl hl.1 (Nat.le_of_ble_eq_true rfl) dX3_hoursToAlarmWithoutPower_14 ⟨Nat.le_of_ble_eq_true rfl, Nat.le_of_ble_eq_true rfl⟩) (fun σ1 H locs hq1 hI => ?_)
    rw [hq1] at hI
    have hI : Iv G (TT σ (trN 0 0 z).1 (trN 0 0 z).2) s H locs := by rw [hz]; exact hI
    refine lv_iconst (v := (nI (0 + 1))) S.1 S.2.1 dX3_hoursToAlarmWithoutPower_17 (by rfl) ?_
    refine lv_istore_n (lv' := [(3, .int (nI (0 + 1))), (2, .ref (gB G (9 + (gP σ i).2.1))), (0, .ref (gB G 0)), (1, .ref (gB G (15 + i)))]) S.1 S.2.1 dX3_hoursToAlarmWithoutPower_18 rfl hl (by decide) rfl (fun ls hl => ?_)
    exact loop 200 0 rfl rfl _ _ hI ls (lv_sub hl [2, 0] rfl)
  · skip
    refine lv_aload_n S.1 S.2.1 dX3_hoursToAlarmWithoutPower_0 rfl (lv_at hl 1 rfl) ?_
    refine g_X3_P_shelf_n S hI (by omega) (pEta (gP σ i)) hs dX3_hoursToAlarmWithoutPower_1 ?_
    refine lv_astore_nN (lv' := [(2, .null), (0, .ref (gB G 0)), (1, .ref (gB G (15 + i)))]) S.1 S.2.1 dX3_hoursToAlarmWithoutPower_4 rfl hl (by decide) rfl (fun ls hl => ?_)
    refine lv_aload_nN S.1 S.2.1 dX3_hoursToAlarmWithoutPower_5 rfl (lv_at hl 0 rfl) ?_
    refine lv_ifnonnullN S.1 S.2.1 dX3_hoursToAlarmWithoutPower_6 ?_
    refine lv_iconst (v := (-1)) S.1 S.2.1 dX3_hoursToAlarmWithoutPower_9 (by decide) ?_
    exact xt_i S hI hr hlk (⟨(if_neg hs).symm, Tr.rf σ⟩) (by decide) (by decide) dX3_hoursToAlarmWithoutPower_10
end
section
theorem xH_P0 {σ : St} {k : Nat} (h : xR σ k = 0) : setP (xH σ 5 k 0) k (hourP (xS σ 5 (gP σ k).2.1).2 (gP σ k)) = xH σ 5 (k + 1) 0 := by
  rw [← xH_P, h, Int32.add_zero]
  rfl
theorem xH_P1 {σ : St} {k : Nat} (h : xR σ k = 1) : setX (setP (xH σ 5 k 0) k (hourP (xS σ 5 (gP σ k).2.1).2 (gP σ k))) ((gX σ).1, (gX σ).2.1 + sumN (xR σ) k + 1, (gX σ).2.2.1 + 0, (gX σ).2.2.2) = xH σ 5 (k + 1) 0 := by
  rw [← xH_P, h]
theorem xH_1 (σ : St) : setX (xH σ 5 20 0) ((gX σ).1, (gX σ).2.1 + sumN (xR σ) 20, (gX σ).2.2.1 + 0 + 1, (gX σ).2.2.2) = hourX σ := by
  rw [Int32.add_zero]
  rfl
theorem xR_01 (σ : St) (k : Nat) : xR σ k = 0 ∨ xR σ k = 1 := by unfold xR ringP; split <;> first | exact Or.inl rfl | exact Or.inr rfl
theorem okP.hour {σ : St} (h : okP σ) : okP (hourX σ) := fun i hi => by
  have e : gP (hourX σ) i = hourP (xS σ 5 (gP σ i).2.1).2 (gP σ i) := if_pos hi
  rw [e]
  refine ⟨hourP_g (h i hi).1, ?_⟩
  rcases hourP_s (xS σ 5 (gP σ i).2.1).2 (gP σ i) with e | e
  · rw [e]; exact (h i hi).2
  · exact Or.inr e
theorem okP.hours {σ : St} (h : okP σ) (n : Nat) : okP (hourXs n σ) := by
  induction n with
  | zero => exact h
  | succ n ih => exact ih.hour
set_option maxRecDepth 100000 in
set_option maxHeartbeats 4000000 in
theorem c_passAnHour (l : Launch) (G : Gt) (σ : St) (hok : okP σ) : Ct l G yX3_passAnHour cX3_passAnHour 5 none 3 0 0 [.ref (gB G 0)] σ (Qv G (fun σ' => σ' = hourX σ)) := by
  refine mt_intro (by decide +kernel) (Nat.le_of_ble_eq_true rfl) ?_
  intro p e s m below meth c S hr hlk hnm hI ls hl
  have hl : lv_has ls 5 [(0, .ref (gB G 0))] := hl
  have loop2 : ∀ (n : Nat) (k : Nat), k + n = 20 → ∀ (H : Heap) (locs : List Loc), Iv G (xH σ 5 k 0) s H locs → ∀ ls : Array Slot, lv_has ls 5 [(0, .ref (gB G 0)), (1, .ref (gB G 2)), (2, .int (nI 20)), (3, .int (nI k))] → W p l e (rm 3 0 0) s m ([.ref (gB G 0)] : List Value).toArray below meth c H locs 0 0 (MQ below (Qv G (fun σ' => σ' = hourX σ)) ([.ref (gB G 0)] : List Value).toArray s 0 0 (gA G)) (F0 m 45 ls []) := by
    intro n
    induction n with
    | zero =>
      intro k hk H locs hI ls hl
      obtain rfl : k = 20 := by omega
      refine lv_iload_n S.1 S.2.1 dX3_passAnHour_45 rfl (lv_at hl 3 rfl) ?_
      refine lv_iload_n S.1 S.2.1 dX3_passAnHour_46 rfl (lv_at hl 2 rfl) ?_
      refine lv_icmp_ge (tgt := 79) S.1 S.2.1 dX3_passAnHour_47 (by decide) (fun cz_47 => ?_) (fun c9 => absurd (nI_le (Nat.le_refl 20) (by omega)) c9)
      refine lv_aload_n S.1 S.2.1 dX3_passAnHour_79 rfl (lv_at hl 0 rfl) ?_
      refine lv_dup S.1 S.2.1 dX3_passAnHour_80 rfl ?_
      refine g_X3_X_hoursGone S hI rfl dX3_passAnHour_81 ?_
      refine lv_iconst (v := 1) S.1 S.2.1 dX3_passAnHour_84 (by decide) ?_
      refine lv_iadd S.1 S.2.1 dX3_passAnHour_85 ?_
      refine p_X3_X_hoursGone S hI rfl dX3_passAnHour_86 (fun σ1 H locs ey1 hz1 hI => ?_)
      exact xt_v S hI hr hlk (by rw [ey1]; exact xH_1 σ) (by decide) (by decide) dX3_passAnHour_89
    | succ n ih =>
      intro k hk H locs hI ls hl
      have hk2 : k < 20 := by omega
      have hgk : gP (xH σ 5 k 0) k = gP σ k := xP_ge σ (Nat.le_refl k)
      refine lv_iload_n S.1 S.2.1 dX3_passAnHour_45 rfl (lv_at hl 3 rfl) ?_
      refine lv_iload_n S.1 S.2.1 dX3_passAnHour_46 rfl (lv_at hl 2 rfl) ?_
      refine lv_icmp_ge (tgt := 79) S.1 S.2.1 dX3_passAnHour_47 (by decide) (fun c9 => absurd c9 (nI_ge hk2 (by omega))) (fun cz_47 => ?_)
      refine lv_aload_n S.1 S.2.1 dX3_passAnHour_50 rfl (lv_at hl 1 rfl) ?_
      refine lv_iload_n S.1 S.2.1 dX3_passAnHour_51 rfl (lv_at hl 3 rfl) ?_
      refine a_PA S hI hk2 dX3_passAnHour_52 ?_
      refine lv_astore (lv' := [(4, .ref (gB G (15 + k))), (0, .ref (gB G 0)), (1, .ref (gB G 2)), (2, .int (nI 20)), (3, .int (nI k))]) S.1 S.2.1 dX3_passAnHour_53 hl (by decide) rfl (fun ls hl => ?_)
      refine lv_aload S.1 S.2.1 dX3_passAnHour_55 (lv_at hl 0 rfl) ?_
      refine cl_i hI (rnVN (As := []) (rest := []) S hI (c_P_hour l G (xH σ 5 k 0) (i := k) (by omega) (by rw [hgk]; exact (hok k hk2).1)) (cw_X3_X0_liveAnHour S.2.2.2.2 hI.1.2.2.2.2.2.2.2 ⟨Nat.le_of_ble_eq_true rfl, Nat.le_of_ble_eq_true rfl⟩) (rcP hI (by omega)) rfl hl.1 (Nat.le_of_ble_eq_true rfl) dX3_passAnHour_57 ⟨Nat.le_of_ble_eq_true rfl, Nat.le_of_ble_eq_true rfl⟩) (fun r1 σ1 H locs hq1 hI => ?_)
      rw [show (xH σ 5 k 0) = xH σ 5 k 0 from rfl, hgk] at hq1
      obtain ⟨hr1, hs1⟩ := hq1
      have hr1 : r1 = xR σ k := hr1
      have hx1 : gX σ1 = ((gX σ).1, (gX σ).2.1 + sumN (xR σ) k, (gX σ).2.2.1 + 0, (gX σ).2.2.2) := by rw [hs1]; rfl
      refine lv_if_eq (tgt := 73) S.1 S.2.1 dX3_passAnHour_60 (by decide) (fun cz_60 => ?_) (fun cz_60 => ?_)
      · refine lv_iinc (v := (nI (k + 1))) (lv' := [(3, .int (nI (k + 1))), (4, .ref (gB G (15 + k))), (0, .ref (gB G 0)), (1, .ref (gB G 2)), (2, .int (nI 20))]) S.1 S.2.1 dX3_passAnHour_73 hl (k := 4) rfl (nI_1 k) (by decide) rfl (fun ls hl => ?_)
        refine lv_goto (tgt := 45) S.1 S.2.1 dX3_passAnHour_76 (by decide) ?_
        exact ih (k + 1) (by omega) _ _ (by rw [hs1] at hI; rw [← xH_P0 (hr1.symm.trans cz_60)]; exact hI) ls (lv_sub hl [2, 3, 4, 0] rfl)
      · refine lv_aload_n S.1 S.2.1 dX3_passAnHour_63 rfl (lv_at hl 1 rfl) ?_
        refine lv_dup S.1 S.2.1 dX3_passAnHour_64 rfl ?_
        refine g_X3_X_alarmsRung S hI hx1 dX3_passAnHour_65 ?_
        refine lv_iconst (v := 1) S.1 S.2.1 dX3_passAnHour_68 (by decide) ?_
        refine lv_iadd S.1 S.2.1 dX3_passAnHour_69 ?_
        refine p_X3_X_alarmsRung S hI hx1 dX3_passAnHour_70 (fun σ2 H locs ey2 hz2 hI => ?_)
        refine lv_iinc (v := (nI (k + 1))) (lv' := [(3, .int (nI (k + 1))), (4, .ref (gB G (15 + k))), (0, .ref (gB G 0)), (1, .ref (gB G 2)), (2, .int (nI 20))]) S.1 S.2.1 dX3_passAnHour_73 hl (k := 4) rfl (nI_1 k) (by decide) rfl (fun ls hl => ?_)
        refine lv_goto (tgt := 45) S.1 S.2.1 dX3_passAnHour_76 (by decide) ?_
        exact ih (k + 1) (by omega) _ _ (by rw [ey2, hs1] at hI; rw [← xH_P1 ((xR_01 σ k).resolve_left (fun z9 => cz_60 (hr1.trans z9)))]; exact hI) ls (lv_sub hl [2, 3, 4, 0] rfl)
  have loop1 : ∀ (n : Nat) (k : Nat), k + n = 5 → ∀ (H : Heap) (locs : List Loc), Iv G (xH σ k 0 0) s H locs → ∀ ls : Array Slot, lv_has ls 5 [(0, .ref (gB G 0)), (1, .ref (gB G 1)), (2, .int (nI 5)), (3, .int (nI k))] → W p l e (rm 3 0 0) s m ([.ref (gB G 0)] : List Value).toArray below meth c H locs 0 0 (MQ below (Qv G (fun σ' => σ' = hourX σ)) ([.ref (gB G 0)] : List Value).toArray s 0 0 (gA G)) (F0 m 10 ls []) := by
    intro n
    induction n with
    | zero =>
      intro k hk H locs hI ls hl
      obtain rfl : k = 5 := by omega
      refine lv_iload_n S.1 S.2.1 dX3_passAnHour_10 rfl (lv_at hl 3 rfl) ?_
      refine lv_iload_n S.1 S.2.1 dX3_passAnHour_11 rfl (lv_at hl 2 rfl) ?_
      refine lv_icmp_ge (tgt := 35) S.1 S.2.1 dX3_passAnHour_12 (by decide) (fun cz_12 => ?_) (fun c9 => absurd (nI_le (Nat.le_refl 5) (by omega)) c9)
      refine lv_aload_n S.1 S.2.1 dX3_passAnHour_35 rfl (lv_at hl 0 rfl) ?_
      refine g_X3_X_promises S hI dX3_passAnHour_36 ?_
      refine lv_astore_n (lv' := [(1, .ref (gB G 2)), (0, .ref (gB G 0)), (2, .int (nI 5)), (3, .int (nI 5))]) S.1 S.2.1 dX3_passAnHour_39 rfl hl (by decide) rfl (fun ls hl => ?_)
      refine lv_aload_n S.1 S.2.1 dX3_passAnHour_40 rfl (lv_at hl 0 rfl) ?_
      refine n_PA S hI dX3_passAnHour_41 ?_
      refine lv_istore_n (lv' := [(2, .int (nI 20)), (1, .ref (gB G 2)), (0, .ref (gB G 0)), (3, .int (nI 5))]) S.1 S.2.1 dX3_passAnHour_42 rfl hl (by decide) rfl (fun ls hl => ?_)
      refine lv_iconst (v := (nI 0)) S.1 S.2.1 dX3_passAnHour_43 (by rfl) ?_
      refine lv_istore_n (lv' := [(3, .int (nI 0)), (2, .int (nI 20)), (1, .ref (gB G 2)), (0, .ref (gB G 0))]) S.1 S.2.1 dX3_passAnHour_44 rfl hl (by decide) rfl (fun ls hl => ?_)
      exact loop2 20 0 rfl _ _ hI ls (lv_sub hl [3, 2, 1, 0] rfl)
    | succ n ih =>
      intro k hk H locs hI ls hl
      have hk2 : k < 5 := by omega
      have hgk : gS (xH σ k 0 0) k = ((gS σ k).1, (gS σ k).2) := xS_ge σ (Nat.le_refl k)
      refine lv_iload_n S.1 S.2.1 dX3_passAnHour_10 rfl (lv_at hl 3 rfl) ?_
      refine lv_iload_n S.1 S.2.1 dX3_passAnHour_11 rfl (lv_at hl 2 rfl) ?_
      refine lv_icmp_ge (tgt := 35) S.1 S.2.1 dX3_passAnHour_12 (by decide) (fun c9 => absurd c9 (nI_ge hk2 (by omega))) (fun cz_12 => ?_)
      refine lv_aload_n S.1 S.2.1 dX3_passAnHour_15 rfl (lv_at hl 1 rfl) ?_
      refine lv_iload_n S.1 S.2.1 dX3_passAnHour_16 rfl (lv_at hl 3 rfl) ?_
      refine a_SA S hI hk2 dX3_passAnHour_17 ?_
      refine lv_astore (lv' := [(4, .ref (gB G (9 + k))), (0, .ref (gB G 0)), (1, .ref (gB G 1)), (2, .int (nI 5)), (3, .int (nI k))]) S.1 S.2.1 dX3_passAnHour_18 hl (by decide) rfl (fun ls hl => ?_)
      refine lv_aload S.1 S.2.1 dX3_passAnHour_20 (lv_at hl 0 rfl) ?_
      refine lv_aload_n S.1 S.2.1 dX3_passAnHour_22 rfl (lv_at hl 1 rfl) ?_
      refine g_X3_X_power S hI rfl dX3_passAnHour_23 ?_
      refine cl_v hI (rnVN (As := [.int ((gX σ).2.2.2)]) (rest := []) S hI (c_S_hour l G (xH σ k 0 0) (i := k) (by omega) hgk (gX σ).2.2.2) (cw_X3_X1_liveAnHour S.2.2.2.2 hI.1.2.2.2.2.2.2.2 ⟨Nat.le_of_ble_eq_true rfl, Nat.le_of_ble_eq_true rfl⟩) (rcS hI (by omega)) rfl hl.1 (Nat.le_of_ble_eq_true rfl) dX3_passAnHour_26 ⟨Nat.le_of_ble_eq_true rfl, Nat.le_of_ble_eq_true rfl⟩) (fun σ1 H locs hq1 hI => ?_)
      have hI : Iv G (xH σ (k + 1) 0 0) s H locs := by rw [hq1] at hI; rw [← xH_S]; exact hI
      refine lv_iinc (v := (nI (k + 1))) (lv' := [(3, .int (nI (k + 1))), (4, .ref (gB G (9 + k))), (0, .ref (gB G 0)), (1, .ref (gB G 1)), (2, .int (nI 5))]) S.1 S.2.1 dX3_passAnHour_29 hl (k := 4) rfl (nI_1 k) (by decide) rfl (fun ls hl => ?_)
      refine lv_goto (tgt := 10) S.1 S.2.1 dX3_passAnHour_32 (by decide) ?_
      exact ih (k + 1) (by omega) _ _ hI ls (lv_sub hl [2, 3, 4, 0] rfl)
  rw [← xH_0 σ] at hI
  refine lv_aload_n S.1 S.2.1 dX3_passAnHour_0 rfl (lv_at hl 0 rfl) ?_
  refine g_X3_X_shelves S hI dX3_passAnHour_1 ?_
  refine lv_astore_n (lv' := [(1, .ref (gB G 1)), (0, .ref (gB G 0))]) S.1 S.2.1 dX3_passAnHour_4 rfl hl (by decide) rfl (fun ls hl => ?_)
  refine lv_aload_n S.1 S.2.1 dX3_passAnHour_5 rfl (lv_at hl 0 rfl) ?_
  refine n_SA S hI dX3_passAnHour_6 ?_
  refine lv_istore_n (lv' := [(2, .int (nI 5)), (1, .ref (gB G 1)), (0, .ref (gB G 0))]) S.1 S.2.1 dX3_passAnHour_7 rfl hl (by decide) rfl (fun ls hl => ?_)
  refine lv_iconst (v := (nI 0)) S.1 S.2.1 dX3_passAnHour_8 (by rfl) ?_
  refine lv_istore_n (lv' := [(3, .int (nI 0)), (2, .int (nI 5)), (1, .ref (gB G 1)), (0, .ref (gB G 0))]) S.1 S.2.1 dX3_passAnHour_9 rfl hl (by decide) rfl (fun ls hl => ?_)
  exact loop1 5 0 rfl _ _ hI ls (lv_sub hl [3, 2, 1, 0] rfl)
set_option maxRecDepth 100000 in
set_option maxHeartbeats 4000000 in
theorem c_pass (l : Launch) (G : Gt) (σ : St) (hok : okP σ) {h : Nat} (h1 : 1 ≤ h) (hh100 : h ≤ 100) : Ct l G yX3_pass cX3_pass 4 (some .int) 4 0 0 [.ref (gB G 0), .int (nI h)] σ (Qi G (fun r σ' => r = (gX (hourXs h σ)).2.1 - (gX σ).2.1 ∧ σ' = hourXs h σ)) := by
  refine mt_intro (by decide +kernel) (Nat.le_of_ble_eq_true rfl) ?_
  intro p e s m below meth c S hr hlk hnm hI ls hl
  have hl : lv_has ls 4 [(0, .ref (gB G 0)), (1, .int (nI h))] := hl
  have loop : ∀ (n : Nat) (k : Nat), k + n = h → ∀ (H : Heap) (locs : List Loc), Iv G (hourXs k σ) s H locs → ∀ ls : Array Slot, lv_has ls 4 [(0, .ref (gB G 0)), (1, .int (nI h)), (2, .int ((gX σ).2.1)), (3, .int (nI k))] → W p l e (rm 4 0 0) s m ([.ref (gB G 0), .int (nI h)] : List Value).toArray below meth c H locs 0 0 (MQ below (Qi G (fun r σ' => r = (gX (hourXs h σ)).2.1 - (gX σ).2.1 ∧ σ' = hourXs h σ)) ([.ref (gB G 0), .int (nI h)] : List Value).toArray s 0 0 (gA G)) (F0 m 11 ls []) := by
    intro n
    induction n with
    | zero =>
      intro k hk H locs hI ls hl
      obtain rfl : k = h := by omega
      refine lv_iload_n S.1 S.2.1 dX3_pass_11 rfl (lv_at hl 3 rfl) ?_
      refine lv_iload_n S.1 S.2.1 dX3_pass_12 rfl (lv_at hl 1 rfl) ?_
      refine lv_icmp_ge (tgt := 26) S.1 S.2.1 dX3_pass_13 (by decide) (fun cz_13 => ?_) (fun c9 => absurd (nI_le (Nat.le_refl k) (by omega)) c9)
      refine lv_aload_n S.1 S.2.1 dX3_pass_26 rfl (lv_at hl 0 rfl) ?_
      refine g_X3_X_alarmsRung S hI (xEta (gX (hourXs k σ))) dX3_pass_27 ?_
      refine lv_iload_n S.1 S.2.1 dX3_pass_30 rfl (lv_at hl 2 rfl) ?_
      refine lv_isub S.1 S.2.1 dX3_pass_31 ?_
      exact xt_i S hI hr hlk (⟨rfl, rfl⟩) (by decide) (by decide) dX3_pass_32
    | succ n ih =>
      intro k hk H locs hI ls hl
      refine lv_iload_n S.1 S.2.1 dX3_pass_11 rfl (lv_at hl 3 rfl) ?_
      refine lv_iload_n S.1 S.2.1 dX3_pass_12 rfl (lv_at hl 1 rfl) ?_
      refine lv_icmp_ge (tgt := 26) S.1 S.2.1 dX3_pass_13 (by decide) (fun c9 => absurd c9 (nI_ge (by omega) (by omega))) (fun cz_13 => ?_)
      refine lv_aload_n S.1 S.2.1 dX3_pass_16 rfl (lv_at hl 0 rfl) ?_
      refine cl_v hI (rnV (As := []) (rest := []) S hI (c_passAnHour l G (hourXs k σ) (hok.hours k)) (cw_X3_X3_passAnHour S.2.2.2.2 ⟨Nat.le_of_ble_eq_true rfl, Nat.le_of_ble_eq_true rfl⟩) (rcX hI) rfl hl.1 (Nat.le_of_ble_eq_true rfl) dX3_pass_17 ⟨Nat.le_of_ble_eq_true rfl, Nat.le_of_ble_eq_true rfl⟩) (fun σ1 H locs hq1 hI => ?_)
      have hI : Iv G (hourXs (k + 1) σ) s H locs := by rw [hq1] at hI; exact hI
      refine lv_iinc (v := (nI (k + 1))) (lv' := [(3, .int (nI (k + 1))), (0, .ref (gB G 0)), (1, .int (nI h)), (2, .int ((gX σ).2.1))]) S.1 S.2.1 dX3_pass_20 hl (k := 3) rfl (nI_1 k) (by decide) rfl (fun ls hl => ?_)
      refine lv_goto (tgt := 11) S.1 S.2.1 dX3_pass_23 (by decide) ?_
      exact ih (k + 1) (by omega) _ _ hI ls (lv_sub hl [1, 2, 3, 0] rfl)
  refine lv_iload_n S.1 S.2.1 dX3_pass_0 rfl (lv_at hl 1 rfl) ?_
  refine cl_v hI (rnS (As := [.int (nI h)]) (rest := []) S hI (c_checkHours l G _ h1 hh100) (cw_X3_X3_checkHours S.2.2.2.2 ⟨Nat.le_of_ble_eq_true rfl, Nat.le_of_ble_eq_true rfl⟩) rfl hl.1 (Nat.le_of_ble_eq_true rfl) dX3_pass_1 ⟨Nat.le_of_ble_eq_true rfl, Nat.le_of_ble_eq_true rfl⟩) (fun σ1 H locs hq1 hI => ?_)
  rw [hq1] at hI
  refine lv_aload_n S.1 S.2.1 dX3_pass_4 rfl (lv_at hl 0 rfl) ?_
  refine g_X3_X_alarmsRung S hI (xEta (gX σ)) dX3_pass_5 ?_
  refine lv_istore_n (lv' := [(2, .int ((gX σ).2.1)), (0, .ref (gB G 0)), (1, .int (nI h))]) S.1 S.2.1 dX3_pass_8 rfl hl (by decide) rfl (fun ls hl => ?_)
  refine lv_iconst (v := (nI 0)) S.1 S.2.1 dX3_pass_9 (by rfl) ?_
  refine lv_istore_n (lv' := [(3, .int (nI 0)), (2, .int ((gX σ).2.1)), (0, .ref (gB G 0)), (1, .int (nI h))]) S.1 S.2.1 dX3_pass_10 rfl hl (by decide) rfl (fun ls hl => ?_)
  exact loop h 0 (by omega) _ _ hI ls (lv_sub hl [2, 3, 1, 0] rfl)
set_option maxRecDepth 100000 in
set_option maxHeartbeats 4000000 in
theorem c_hour (l : Launch) (G : Gt) (σ : St)  : Ct l G yX3_hour cX3_hour 1 (some .int) 1 0 0 [.ref (gB G 0)] σ (Qi G (fun r σ' => r = (gX σ).2.2.1 ∧ σ' = σ)) := by
  refine mt_intro (by decide +kernel) (Nat.le_of_ble_eq_true rfl) ?_
  intro p e s m below meth c S hr hlk hnm hI ls hl
  have hl : lv_has ls 1 [(0, .ref (gB G 0))] := hl
  refine lv_aload_n S.1 S.2.1 dX3_hour_0 rfl (lv_at hl 0 rfl) ?_
  refine g_X3_X_hoursGone S hI (xEta (gX σ)) dX3_hour_1 ?_
  exact xt_i S hI hr hlk (⟨rfl, rfl⟩) (by decide) (by decide) dX3_hour_4
set_option maxRecDepth 100000 in
set_option maxHeartbeats 4000000 in
theorem c_alarms (l : Launch) (G : Gt) (σ : St)  : Ct l G yX3_alarms cX3_alarms 1 (some .int) 1 0 0 [.ref (gB G 0)] σ (Qi G (fun r σ' => r = (gX σ).2.1 ∧ σ' = σ)) := by
  refine mt_intro (by decide +kernel) (Nat.le_of_ble_eq_true rfl) ?_
  intro p e s m below meth c S hr hlk hnm hI ls hl
  have hl : lv_has ls 1 [(0, .ref (gB G 0))] := hl
  refine lv_aload_n S.1 S.2.1 dX3_alarms_0 rfl (lv_at hl 0 rfl) ?_
  refine g_X3_X_alarmsRung S hI (xEta (gX σ)) dX3_alarms_1 ?_
  exact xt_i S hI hr hlk (⟨rfl, rfl⟩) (by decide) (by decide) dX3_alarms_4
set_option maxRecDepth 100000 in
set_option maxHeartbeats 4000000 in
theorem c_promises (l : Launch) (G : Gt) (σ : St)  : Ct l G yX3_promises cX3_promises 1 (some .int) 1 0 0 [.ref (gB G 0)] σ (Qi G (fun r σ' => r = (gX σ).1 ∧ σ' = σ)) := by
  refine mt_intro (by decide +kernel) (Nat.le_of_ble_eq_true rfl) ?_
  intro p e s m below meth c S hr hlk hnm hI ls hl
  have hl : lv_has ls 1 [(0, .ref (gB G 0))] := hl
  refine lv_aload_n S.1 S.2.1 dX3_promises_0 rfl (lv_at hl 0 rfl) ?_
  refine g_X3_X_made S hI (xEta (gX σ)) dX3_promises_1 ?_
  exact xt_i S hI hr hlk (⟨rfl, rfl⟩) (by decide) (by decide) dX3_promises_4
set_option maxRecDepth 100000 in
set_option maxHeartbeats 4000000 in
theorem c_hasPower (l : Launch) (G : Gt) (σ : St) (hw : (gX σ).2.2.2 = 0 ∨ (gX σ).2.2.2 = 1) : Ct l G yX3_hasPower cX3_hasPower 1 (some .boolean) 1 0 0 [.ref (gB G 0)] σ (Qi G (fun r σ' => r = (gX σ).2.2.2 ∧ σ' = σ)) := by
  refine mt_intro (by decide +kernel) (Nat.le_of_ble_eq_true rfl) ?_
  intro p e s m below meth c S hr hlk hnm hI ls hl
  have hl : lv_has ls 1 [(0, .ref (gB G 0))] := hl
  refine lv_aload_n S.1 S.2.1 dX3_hasPower_0 rfl (lv_at hl 0 rfl) ?_
  refine g_X3_X_power S hI (xEta (gX σ)) dX3_hasPower_1 ?_
  exact xt_z S hI hr hlk (by rcases hw with e9 | e9 <;> rw [e9] <;> rfl) (⟨rfl, rfl⟩) (by decide) (by decide) dX3_hasPower_4
set_option maxRecDepth 100000 in
set_option maxHeartbeats 4000000 in
theorem c_settingOf (l : Launch) (G : Gt) (σ : St) {k : Nat} (hk : k < 5) : Ct l G yX3_settingOf cX3_settingOf 2 (some .int) 2 0 0 [.ref (gB G 0), .int (nI k)] σ (Qi G (fun r σ' => r = (gS σ k).1 ∧ σ' = σ)) := by
  refine mt_intro (by decide +kernel) (Nat.le_of_ble_eq_true rfl) ?_
  intro p e s m below meth c S hr hlk hnm hI ls hl
  have hl : lv_has ls 2 [(0, .ref (gB G 0)), (1, .int (nI k))] := hl
  refine lv_aload_n S.1 S.2.1 dX3_settingOf_0 rfl (lv_at hl 0 rfl) ?_
  refine lv_iload_n S.1 S.2.1 dX3_settingOf_1 rfl (lv_at hl 1 rfl) ?_
  refine cl_q hI (rnV (As := [.int (nI k)]) (rest := []) S hI (c_findShelf l G _ hk) (cw_X3_X3_findShelf S.2.2.2.2 ⟨Nat.le_of_ble_eq_true rfl, Nat.le_of_ble_eq_true rfl⟩) (rcX hI) rfl hl.1 (Nat.le_of_ble_eq_true rfl) dX3_settingOf_2 ⟨Nat.le_of_ble_eq_true rfl, Nat.le_of_ble_eq_true rfl⟩) (fun r1 σ1 H locs hq1 hI => ?_)
  obtain ⟨hr1, hs1⟩ := hq1
  rw [hs1] at hI
  rw [hr1]
  show W _ _ _ _ _ _ _ _ _ _ _ _ _ _ _ (F0 _ _ _ (.ref (gB G (9 + k)) :: _))
  refine g_X3_S_setting S hI (by omega) (sEta (gS σ k)) dX3_settingOf_5 ?_
  exact xt_i S hI hr hlk (⟨rfl, rfl⟩) (by decide) (by decide) dX3_settingOf_8
set_option maxRecDepth 100000 in
set_option maxHeartbeats 4000000 in
theorem c_heatOn (l : Launch) (G : Gt) (σ : St) {k : Nat} (hk : k < 5) : Ct l G yX3_heatOn cX3_heatOn 2 (some .int) 2 0 0 [.ref (gB G 0), .int (nI k)] σ (Qi G (fun r σ' => r = (gS σ k).2 ∧ σ' = σ)) := by
  refine mt_intro (by decide +kernel) (Nat.le_of_ble_eq_true rfl) ?_
  intro p e s m below meth c S hr hlk hnm hI ls hl
  have hl : lv_has ls 2 [(0, .ref (gB G 0)), (1, .int (nI k))] := hl
  refine lv_aload_n S.1 S.2.1 dX3_heatOn_0 rfl (lv_at hl 0 rfl) ?_
  refine lv_iload_n S.1 S.2.1 dX3_heatOn_1 rfl (lv_at hl 1 rfl) ?_
  refine cl_q hI (rnV (As := [.int (nI k)]) (rest := []) S hI (c_findShelf l G _ hk) (cw_X3_X3_findShelf S.2.2.2.2 ⟨Nat.le_of_ble_eq_true rfl, Nat.le_of_ble_eq_true rfl⟩) (rcX hI) rfl hl.1 (Nat.le_of_ble_eq_true rfl) dX3_heatOn_2 ⟨Nat.le_of_ble_eq_true rfl, Nat.le_of_ble_eq_true rfl⟩) (fun r1 σ1 H locs hq1 hI => ?_)
  obtain ⟨hr1, hs1⟩ := hq1
  rw [hs1] at hI
  rw [hr1]
  show W _ _ _ _ _ _ _ _ _ _ _ _ _ _ _ (F0 _ _ _ (.ref (gB G (9 + k)) :: _))
  refine g_X3_S_heat S hI (by omega) (sEta (gS σ k)) dX3_heatOn_5 ?_
  exact xt_i S hI hr hlk (⟨rfl, rfl⟩) (by decide) (by decide) dX3_heatOn_8
set_option maxRecDepth 100000 in
set_option maxHeartbeats 4000000 in
theorem c_makerOf (l : Launch) (G : Gt) (σ : St) {i n : Nat} (hi : i < n) (hn : n ≤ 20) {ar hh pw : Int32} (hX : gX σ = (nI n, ar, hh, pw)) : Ct l G yX3_makerOf cX3_makerOf 2 (some .int) 2 0 0 [.ref (gB G 0), .int (nI i)] σ (Qi G (fun r σ' => r = (gP σ i).2.2.1 ∧ σ' = σ)) := by
  refine mt_intro (by decide +kernel) (Nat.le_of_ble_eq_true rfl) ?_
  intro p e s m below meth c S hr hlk hnm hI ls hl
  have hl : lv_has ls 2 [(0, .ref (gB G 0)), (1, .int (nI i))] := hl
  refine lv_aload_n S.1 S.2.1 dX3_makerOf_0 rfl (lv_at hl 0 rfl) ?_
  refine lv_iload_n S.1 S.2.1 dX3_makerOf_1 rfl (lv_at hl 1 rfl) ?_
  refine cl_q hI (rnV (As := [.int (nI i)]) (rest := []) S hI (c_findPromise l G _ hi hn hX) (cw_X3_X3_findPromise S.2.2.2.2 ⟨Nat.le_of_ble_eq_true rfl, Nat.le_of_ble_eq_true rfl⟩) (rcX hI) rfl hl.1 (Nat.le_of_ble_eq_true rfl) dX3_makerOf_2 ⟨Nat.le_of_ble_eq_true rfl, Nat.le_of_ble_eq_true rfl⟩) (fun r1 σ1 H locs hq1 hI => ?_)
  obtain ⟨hr1, hs1⟩ := hq1
  rw [hs1] at hI
  rw [hr1]
  show W _ _ _ _ _ _ _ _ _ _ _ _ _ _ _ (F0 _ _ _ (.ref (gB G (15 + i)) :: _))
  refine g_X3_P_maker S hI (by omega) (pEta (gP σ i)) dX3_makerOf_5 ?_
  exact xt_i S hI hr hlk (⟨rfl, rfl⟩) (by decide) (by decide) dX3_makerOf_8
set_option maxRecDepth 100000 in
set_option maxHeartbeats 4000000 in
theorem c_heatOf (l : Launch) (G : Gt) (σ : St) {i n : Nat} (hi : i < n) (hn : n ≤ 20) {ar hh pw : Int32} (hX : gX σ = (nI n, ar, hh, pw)) : Ct l G yX3_heatOf cX3_heatOf 2 (some .int) 2 0 0 [.ref (gB G 0), .int (nI i)] σ (Qi G (fun r σ' => r = (gP σ i).2.2.2.2.2 ∧ σ' = σ)) := by
  refine mt_intro (by decide +kernel) (Nat.le_of_ble_eq_true rfl) ?_
  intro p e s m below meth c S hr hlk hnm hI ls hl
  have hl : lv_has ls 2 [(0, .ref (gB G 0)), (1, .int (nI i))] := hl
  refine lv_aload_n S.1 S.2.1 dX3_heatOf_0 rfl (lv_at hl 0 rfl) ?_
  refine lv_iload_n S.1 S.2.1 dX3_heatOf_1 rfl (lv_at hl 1 rfl) ?_
  refine cl_q hI (rnV (As := [.int (nI i)]) (rest := []) S hI (c_findPromise l G _ hi hn hX) (cw_X3_X3_findPromise S.2.2.2.2 ⟨Nat.le_of_ble_eq_true rfl, Nat.le_of_ble_eq_true rfl⟩) (rcX hI) rfl hl.1 (Nat.le_of_ble_eq_true rfl) dX3_heatOf_2 ⟨Nat.le_of_ble_eq_true rfl, Nat.le_of_ble_eq_true rfl⟩) (fun r1 σ1 H locs hq1 hI => ?_)
  obtain ⟨hr1, hs1⟩ := hq1
  rw [hs1] at hI
  rw [hr1]
  show W _ _ _ _ _ _ _ _ _ _ _ _ _ _ _ (F0 _ _ _ (.ref (gB G (15 + i)) :: _))
  refine g_X3_P_heat S hI (by omega) (pEta (gP σ i)) dX3_heatOf_5 ?_
  exact xt_i S hI hr hlk (⟨rfl, rfl⟩) (by decide) (by decide) dX3_heatOf_8
set_option maxRecDepth 100000 in
set_option maxHeartbeats 4000000 in
theorem c_ageOf (l : Launch) (G : Gt) (σ : St) {i n : Nat} (hi : i < n) (hn : n ≤ 20) {ar hh pw : Int32} (hX : gX σ = (nI n, ar, hh, pw)) : Ct l G yX3_ageOf cX3_ageOf 2 (some .int) 2 0 0 [.ref (gB G 0), .int (nI i)] σ (Qi G (fun r σ' => r = (gP σ i).2.2.2.2.1 ∧ σ' = σ)) := by
  refine mt_intro (by decide +kernel) (Nat.le_of_ble_eq_true rfl) ?_
  intro p e s m below meth c S hr hlk hnm hI ls hl
  have hl : lv_has ls 2 [(0, .ref (gB G 0)), (1, .int (nI i))] := hl
  refine lv_aload_n S.1 S.2.1 dX3_ageOf_0 rfl (lv_at hl 0 rfl) ?_
  refine lv_iload_n S.1 S.2.1 dX3_ageOf_1 rfl (lv_at hl 1 rfl) ?_
  refine cl_q hI (rnV (As := [.int (nI i)]) (rest := []) S hI (c_findPromise l G _ hi hn hX) (cw_X3_X3_findPromise S.2.2.2.2 ⟨Nat.le_of_ble_eq_true rfl, Nat.le_of_ble_eq_true rfl⟩) (rcX hI) rfl hl.1 (Nat.le_of_ble_eq_true rfl) dX3_ageOf_2 ⟨Nat.le_of_ble_eq_true rfl, Nat.le_of_ble_eq_true rfl⟩) (fun r1 σ1 H locs hq1 hI => ?_)
  obtain ⟨hr1, hs1⟩ := hq1
  rw [hs1] at hI
  rw [hr1]
  show W _ _ _ _ _ _ _ _ _ _ _ _ _ _ _ (F0 _ _ _ (.ref (gB G (15 + i)) :: _))
  refine g_X3_P_age S hI (by omega) (pEta (gP σ i)) dX3_ageOf_5 ?_
  exact xt_i S hI hr hlk (⟨rfl, rfl⟩) (by decide) (by decide) dX3_ageOf_8
set_option maxRecDepth 100000 in
set_option maxHeartbeats 4000000 in
theorem c_hoursLeft (l : Launch) (G : Gt) (σ : St) {i n : Nat} (hi : i < n) (hn : n ≤ 20) {ar hh pw : Int32} (hX : gX σ = (nI n, ar, hh, pw)) : Ct l G yX3_hoursLeft cX3_hoursLeft 3 (some .int) 2 0 0 [.ref (gB G 0), .int (nI i)] σ (Qi G (fun r σ' => r = (gP σ i).2.2.2.1 - (gP σ i).2.2.2.2.1 ∧ σ' = σ)) := by
  refine mt_intro (by decide +kernel) (Nat.le_of_ble_eq_true rfl) ?_
  intro p e s m below meth c S hr hlk hnm hI ls hl
  have hl : lv_has ls 3 [(0, .ref (gB G 0)), (1, .int (nI i))] := hl
  refine lv_aload_n S.1 S.2.1 dX3_hoursLeft_0 rfl (lv_at hl 0 rfl) ?_
  refine lv_iload_n S.1 S.2.1 dX3_hoursLeft_1 rfl (lv_at hl 1 rfl) ?_
  refine cl_q hI (rnV (As := [.int (nI i)]) (rest := []) S hI (c_findPromise l G _ hi hn hX) (cw_X3_X3_findPromise S.2.2.2.2 ⟨Nat.le_of_ble_eq_true rfl, Nat.le_of_ble_eq_true rfl⟩) (rcX hI) rfl hl.1 (Nat.le_of_ble_eq_true rfl) dX3_hoursLeft_2 ⟨Nat.le_of_ble_eq_true rfl, Nat.le_of_ble_eq_true rfl⟩) (fun r1 σ1 H locs hq1 hI => ?_)
  obtain ⟨hr1, hs1⟩ := hq1
  rw [hs1] at hI
  rw [hr1]
  show W _ _ _ _ _ _ _ _ _ _ _ _ _ _ _ (F0 _ _ _ (.ref (gB G (15 + i)) :: _))
  refine lv_astore_n (lv' := [(2, .ref (gB G (15 + i))), (0, .ref (gB G 0)), (1, .int (nI i))]) S.1 S.2.1 dX3_hoursLeft_5 rfl hl (by decide) rfl (fun ls hl => ?_)
  refine lv_aload_n S.1 S.2.1 dX3_hoursLeft_6 rfl (lv_at hl 0 rfl) ?_
  refine g_X3_P_life S hI (by omega) (pEta (gP σ i)) dX3_hoursLeft_7 ?_
  refine lv_aload_n S.1 S.2.1 dX3_hoursLeft_10 rfl (lv_at hl 0 rfl) ?_
  refine g_X3_P_age S hI (by omega) (pEta (gP σ i)) dX3_hoursLeft_11 ?_
  refine lv_isub S.1 S.2.1 dX3_hoursLeft_14 ?_
  exact xt_i S hI hr hlk (⟨rfl, rfl⟩) (by decide) (by decide) dX3_hoursLeft_15
set_option maxRecDepth 100000 in
set_option maxHeartbeats 4000000 in
theorem c_isFrozen (l : Launch) (G : Gt) (σ : St) (hok : okP σ) {i n : Nat} (hi : i < n) (hn : n ≤ 20) {ar hh pw : Int32} (hX : gX σ = (nI n, ar, hh, pw)) : Ct l G yX3_isFrozen cX3_isFrozen 2 (some .boolean) 2 0 0 [.ref (gB G 0), .int (nI i)] σ (Qi G (fun r σ' => r = (if (gP σ i).1 = 2 then 1 else 0) ∧ σ' = σ)) := by
  refine mt_intro (by decide +kernel) (Nat.le_of_ble_eq_true rfl) ?_
  intro p e s m below meth c S hr hlk hnm hI ls hl
  have hl : lv_has ls 2 [(0, .ref (gB G 0)), (1, .int (nI i))] := hl
  refine lv_aload_n S.1 S.2.1 dX3_isFrozen_0 rfl (lv_at hl 0 rfl) ?_
  refine lv_iload_n S.1 S.2.1 dX3_isFrozen_1 rfl (lv_at hl 1 rfl) ?_
  refine cl_q hI (rnV (As := [.int (nI i)]) (rest := []) S hI (c_findPromise l G _ hi hn hX) (cw_X3_X3_findPromise S.2.2.2.2 ⟨Nat.le_of_ble_eq_true rfl, Nat.le_of_ble_eq_true rfl⟩) (rcX hI) rfl hl.1 (Nat.le_of_ble_eq_true rfl) dX3_isFrozen_2 ⟨Nat.le_of_ble_eq_true rfl, Nat.le_of_ble_eq_true rfl⟩) (fun r1 σ1 H locs hq1 hI => ?_)
  obtain ⟨hr1, hs1⟩ := hq1
  rw [hs1] at hI
  rw [hr1]
  show W _ _ _ _ _ _ _ _ _ _ _ _ _ _ _ (F0 _ _ _ (.ref (gB G (15 + i)) :: _))
  refine g_X3_P_stage S hI (by omega) (pEta (gP σ i)) dX3_isFrozen_5 ?_
  refine gs_X3_FROZEN S hI dX3_isFrozen_8 ?_
  refine ag_ne S hI (hok i (by omega)).1 (by decide) (tgt := 18) dX3_isFrozen_11 (by decide) (fun cz_11 => ?_) (fun cz_11 => ?_)
  · refine lv_iconst (v := 0) S.1 S.2.1 dX3_isFrozen_18 (by decide) ?_
    exact xt_z S hI hr hlk rfl (⟨(if_neg cz_11).symm, rfl⟩) (by decide) (by decide) dX3_isFrozen_19
  · refine lv_iconst (v := 1) S.1 S.2.1 dX3_isFrozen_14 (by decide) ?_
    refine lv_goto (tgt := 19) S.1 S.2.1 dX3_isFrozen_15 (by decide) ?_
    exact xt_z S hI hr hlk rfl (⟨(if_pos cz_11).symm, rfl⟩) (by decide) (by decide) dX3_isFrozen_19
set_option maxRecDepth 100000 in
set_option maxHeartbeats 4000000 in
theorem c_isThawed (l : Launch) (G : Gt) (σ : St) (hok : okP σ) {i n : Nat} (hi : i < n) (hn : n ≤ 20) {ar hh pw : Int32} (hX : gX σ = (nI n, ar, hh, pw)) : Ct l G yX3_isThawed cX3_isThawed 2 (some .boolean) 2 0 0 [.ref (gB G 0), .int (nI i)] σ (Qi G (fun r σ' => r = (if (gP σ i).1 = 3 then 1 else 0) ∧ σ' = σ)) := by
  refine mt_intro (by decide +kernel) (Nat.le_of_ble_eq_true rfl) ?_
  intro p e s m below meth c S hr hlk hnm hI ls hl
  have hl : lv_has ls 2 [(0, .ref (gB G 0)), (1, .int (nI i))] := hl
  refine lv_aload_n S.1 S.2.1 dX3_isThawed_0 rfl (lv_at hl 0 rfl) ?_
  refine lv_iload_n S.1 S.2.1 dX3_isThawed_1 rfl (lv_at hl 1 rfl) ?_
  refine cl_q hI (rnV (As := [.int (nI i)]) (rest := []) S hI (c_findPromise l G _ hi hn hX) (cw_X3_X3_findPromise S.2.2.2.2 ⟨Nat.le_of_ble_eq_true rfl, Nat.le_of_ble_eq_true rfl⟩) (rcX hI) rfl hl.1 (Nat.le_of_ble_eq_true rfl) dX3_isThawed_2 ⟨Nat.le_of_ble_eq_true rfl, Nat.le_of_ble_eq_true rfl⟩) (fun r1 σ1 H locs hq1 hI => ?_)
  obtain ⟨hr1, hs1⟩ := hq1
  rw [hs1] at hI
  rw [hr1]
  show W _ _ _ _ _ _ _ _ _ _ _ _ _ _ _ (F0 _ _ _ (.ref (gB G (15 + i)) :: _))
  refine g_X3_P_stage S hI (by omega) (pEta (gP σ i)) dX3_isThawed_5 ?_
  refine gs_X3_THAWED S hI dX3_isThawed_8 ?_
  refine ag_ne S hI (hok i (by omega)).1 (by decide) (tgt := 18) dX3_isThawed_11 (by decide) (fun cz_11 => ?_) (fun cz_11 => ?_)
  · refine lv_iconst (v := 0) S.1 S.2.1 dX3_isThawed_18 (by decide) ?_
    exact xt_z S hI hr hlk rfl (⟨(if_neg cz_11).symm, rfl⟩) (by decide) (by decide) dX3_isThawed_19
  · refine lv_iconst (v := 1) S.1 S.2.1 dX3_isThawed_14 (by decide) ?_
    refine lv_goto (tgt := 19) S.1 S.2.1 dX3_isThawed_15 (by decide) ?_
    exact xt_z S hI hr hlk rfl (⟨(if_pos cz_11).symm, rfl⟩) (by decide) (by decide) dX3_isThawed_19
set_option maxRecDepth 100000 in
set_option maxHeartbeats 4000000 in
theorem c_isKept (l : Launch) (G : Gt) (σ : St) (hok : okP σ) {i n : Nat} (hi : i < n) (hn : n ≤ 20) {ar hh pw : Int32} (hX : gX σ = (nI n, ar, hh, pw)) : Ct l G yX3_isKept cX3_isKept 2 (some .boolean) 2 0 0 [.ref (gB G 0), .int (nI i)] σ (Qi G (fun r σ' => r = (if (gP σ i).1 = 4 then 1 else 0) ∧ σ' = σ)) := by
  refine mt_intro (by decide +kernel) (Nat.le_of_ble_eq_true rfl) ?_
  intro p e s m below meth c S hr hlk hnm hI ls hl
  have hl : lv_has ls 2 [(0, .ref (gB G 0)), (1, .int (nI i))] := hl
  refine lv_aload_n S.1 S.2.1 dX3_isKept_0 rfl (lv_at hl 0 rfl) ?_
  refine lv_iload_n S.1 S.2.1 dX3_isKept_1 rfl (lv_at hl 1 rfl) ?_
  refine cl_q hI (rnV (As := [.int (nI i)]) (rest := []) S hI (c_findPromise l G _ hi hn hX) (cw_X3_X3_findPromise S.2.2.2.2 ⟨Nat.le_of_ble_eq_true rfl, Nat.le_of_ble_eq_true rfl⟩) (rcX hI) rfl hl.1 (Nat.le_of_ble_eq_true rfl) dX3_isKept_2 ⟨Nat.le_of_ble_eq_true rfl, Nat.le_of_ble_eq_true rfl⟩) (fun r1 σ1 H locs hq1 hI => ?_)
  obtain ⟨hr1, hs1⟩ := hq1
  rw [hs1] at hI
  rw [hr1]
  show W _ _ _ _ _ _ _ _ _ _ _ _ _ _ _ (F0 _ _ _ (.ref (gB G (15 + i)) :: _))
  refine g_X3_P_stage S hI (by omega) (pEta (gP σ i)) dX3_isKept_5 ?_
  refine gs_X3_KEPT S hI dX3_isKept_8 ?_
  refine ag_ne S hI (hok i (by omega)).1 (by decide) (tgt := 18) dX3_isKept_11 (by decide) (fun cz_11 => ?_) (fun cz_11 => ?_)
  · refine lv_iconst (v := 0) S.1 S.2.1 dX3_isKept_18 (by decide) ?_
    exact xt_z S hI hr hlk rfl (⟨(if_neg cz_11).symm, rfl⟩) (by decide) (by decide) dX3_isKept_19
  · refine lv_iconst (v := 1) S.1 S.2.1 dX3_isKept_14 (by decide) ?_
    refine lv_goto (tgt := 19) S.1 S.2.1 dX3_isKept_15 (by decide) ?_
    exact xt_z S hI hr hlk rfl (⟨(if_pos cz_11).symm, rfl⟩) (by decide) (by decide) dX3_isKept_19
set_option maxRecDepth 100000 in
set_option maxHeartbeats 4000000 in
theorem c_isExpired (l : Launch) (G : Gt) (σ : St) (hok : okP σ) {i n : Nat} (hi : i < n) (hn : n ≤ 20) {ar hh pw : Int32} (hX : gX σ = (nI n, ar, hh, pw)) : Ct l G yX3_isExpired cX3_isExpired 2 (some .boolean) 2 0 0 [.ref (gB G 0), .int (nI i)] σ (Qi G (fun r σ' => r = (if (gP σ i).1 = 5 then 1 else 0) ∧ σ' = σ)) := by
  refine mt_intro (by decide +kernel) (Nat.le_of_ble_eq_true rfl) ?_
  intro p e s m below meth c S hr hlk hnm hI ls hl
  have hl : lv_has ls 2 [(0, .ref (gB G 0)), (1, .int (nI i))] := hl
  refine lv_aload_n S.1 S.2.1 dX3_isExpired_0 rfl (lv_at hl 0 rfl) ?_
  refine lv_iload_n S.1 S.2.1 dX3_isExpired_1 rfl (lv_at hl 1 rfl) ?_
  refine cl_q hI (rnV (As := [.int (nI i)]) (rest := []) S hI (c_findPromise l G _ hi hn hX) (cw_X3_X3_findPromise S.2.2.2.2 ⟨Nat.le_of_ble_eq_true rfl, Nat.le_of_ble_eq_true rfl⟩) (rcX hI) rfl hl.1 (Nat.le_of_ble_eq_true rfl) dX3_isExpired_2 ⟨Nat.le_of_ble_eq_true rfl, Nat.le_of_ble_eq_true rfl⟩) (fun r1 σ1 H locs hq1 hI => ?_)
  obtain ⟨hr1, hs1⟩ := hq1
  rw [hs1] at hI
  rw [hr1]
  show W _ _ _ _ _ _ _ _ _ _ _ _ _ _ _ (F0 _ _ _ (.ref (gB G (15 + i)) :: _))
  refine g_X3_P_stage S hI (by omega) (pEta (gP σ i)) dX3_isExpired_5 ?_
  refine gs_X3_EXPIRED S hI dX3_isExpired_8 ?_
  refine ag_ne S hI (hok i (by omega)).1 (by decide) (tgt := 18) dX3_isExpired_11 (by decide) (fun cz_11 => ?_) (fun cz_11 => ?_)
  · refine lv_iconst (v := 0) S.1 S.2.1 dX3_isExpired_18 (by decide) ?_
    exact xt_z S hI hr hlk rfl (⟨(if_neg cz_11).symm, rfl⟩) (by decide) (by decide) dX3_isExpired_19
  · refine lv_iconst (v := 1) S.1 S.2.1 dX3_isExpired_14 (by decide) ?_
    refine lv_goto (tgt := 19) S.1 S.2.1 dX3_isExpired_15 (by decide) ?_
    exact xt_z S hI hr hlk rfl (⟨(if_pos cz_11).symm, rfl⟩) (by decide) (by decide) dX3_isExpired_19
set_option maxRecDepth 100000 in
set_option maxHeartbeats 4000000 in
theorem c_shelfOf (l : Launch) (G : Gt) (σ : St) (hok : okP σ) {i n : Nat} (hi : i < n) (hn : n ≤ 20) {ar hh pw : Int32} (hX : gX σ = (nI n, ar, hh, pw)) : Ct l G yX3_shelfOf cX3_shelfOf 3 (some .int) 2 0 0 [.ref (gB G 0), .int (nI i)] σ (Qi G (fun r σ' => r = (if (gP σ i).2.1 < 5 then nI (gP σ i).2.1 else -1) ∧ σ' = σ)) := by
  refine mt_intro (by decide +kernel) (Nat.le_of_ble_eq_true rfl) ?_
  intro p e s m below meth c S hr hlk hnm hI ls hl
  have hl : lv_has ls 3 [(0, .ref (gB G 0)), (1, .int (nI i))] := hl
  have hs5 := (hok i (by omega)).2
  by_cases hs : (gP σ i).2.1 < 6
  · skip
    refine lv_aload_n S.1 S.2.1 dX3_shelfOf_0 rfl (lv_at hl 0 rfl) ?_
    refine lv_iload_n S.1 S.2.1 dX3_shelfOf_1 rfl (lv_at hl 1 rfl) ?_
    refine cl_q hI (rnV (As := [.int (nI i)]) (rest := []) S hI (c_findPromise l G _ hi hn hX) (cw_X3_X3_findPromise S.2.2.2.2 ⟨Nat.le_of_ble_eq_true rfl, Nat.le_of_ble_eq_true rfl⟩) (rcX hI) rfl hl.1 (Nat.le_of_ble_eq_true rfl) dX3_shelfOf_2 ⟨Nat.le_of_ble_eq_true rfl, Nat.le_of_ble_eq_true rfl⟩) (fun r1 σ1 H locs hq1 hI => ?_)
    obtain ⟨hr1, hs1⟩ := hq1
    rw [hs1] at hI
    rw [hr1]
    show W _ _ _ _ _ _ _ _ _ _ _ _ _ _ _ (F0 _ _ _ (.ref (gB G (15 + i)) :: _))
    refine g_X3_P_shelf_s S hI (by omega) (pEta (gP σ i)) hs dX3_shelfOf_5 ?_
    refine lv_astore_n (lv' := [(2, .ref (gB G (9 + (gP σ i).2.1))), (0, .ref (gB G 0)), (1, .int (nI i))]) S.1 S.2.1 dX3_shelfOf_8 rfl hl (by decide) rfl (fun ls hl => ?_)
    refine lv_aload_n S.1 S.2.1 dX3_shelfOf_9 rfl (lv_at hl 0 rfl) ?_
    refine lv_ifnonnull (tgt := 17) S.1 S.2.1 dX3_shelfOf_10 (by decide) ?_
    refine lv_aload_n S.1 S.2.1 dX3_shelfOf_17 rfl (lv_at hl 0 rfl) ?_
    refine g_X3_S_number S hI (by omega) (sEta (gS σ ((gP σ i).2.1))) dX3_shelfOf_18 ?_
    exact xt_i S hI hr hlk (⟨rfl, rfl⟩) (by decide) (by decide) dX3_shelfOf_21
  · skip
    refine lv_aload_n S.1 S.2.1 dX3_shelfOf_0 rfl (lv_at hl 0 rfl) ?_
    refine lv_iload_n S.1 S.2.1 dX3_shelfOf_1 rfl (lv_at hl 1 rfl) ?_
    refine cl_q hI (rnV (As := [.int (nI i)]) (rest := []) S hI (c_findPromise l G _ hi hn hX) (cw_X3_X3_findPromise S.2.2.2.2 ⟨Nat.le_of_ble_eq_true rfl, Nat.le_of_ble_eq_true rfl⟩) (rcX hI) rfl hl.1 (Nat.le_of_ble_eq_true rfl) dX3_shelfOf_2 ⟨Nat.le_of_ble_eq_true rfl, Nat.le_of_ble_eq_true rfl⟩) (fun r1 σ1 H locs hq1 hI => ?_)
    obtain ⟨hr1, hs1⟩ := hq1
    rw [hs1] at hI
    rw [hr1]
    show W _ _ _ _ _ _ _ _ _ _ _ _ _ _ _ (F0 _ _ _ (.ref (gB G (15 + i)) :: _))
    refine g_X3_P_shelf_n S hI (by omega) (pEta (gP σ i)) hs dX3_shelfOf_5 ?_
    refine lv_astore_nN (lv' := [(2, .null), (0, .ref (gB G 0)), (1, .int (nI i))]) S.1 S.2.1 dX3_shelfOf_8 rfl hl (by decide) rfl (fun ls hl => ?_)
    refine lv_aload_nN S.1 S.2.1 dX3_shelfOf_9 rfl (lv_at hl 0 rfl) ?_
    refine lv_ifnonnullN S.1 S.2.1 dX3_shelfOf_10 ?_
    refine lv_iconst (v := (-1)) S.1 S.2.1 dX3_shelfOf_13 (by decide) ?_
    refine lv_goto (tgt := 21) S.1 S.2.1 dX3_shelfOf_14 (by decide) ?_
    exact xt_i S hI hr hlk (⟨(if_neg (by omega)).symm, rfl⟩) (by decide) (by decide) dX3_shelfOf_21
end
section
def onF (σ : St) (k : Nat) : Int32 := sumN (fun i => if (gP σ i).2.1 = k then 1 else 0) 20
def owF (σ : St) (a : Int32) : Int32 := sumN (fun i => if (gP σ i).2.1 < 6 ∧ (gP σ i).2.2.1 = a then 1 else 0) 20
def cntF (σ : St) (a : Int32) (g : Nat) : Int32 := sumN (fun i => if (gP σ i).1 = g ∧ (gP σ i).2.2.1 = a then 1 else 0) 20
def honF (σ : St) (a : Nat) : Int32 := cntF σ (nI a) 4 - cntF σ (nI a) 5
def coldF (σ : St) : Nat → Nat
  | 0 => 0
  | k + 1 => if (gS σ (coldF σ k)).2 ≤ (gS σ (k + 1)).2 then coldF σ k else k + 1
theorem coldF_le (σ : St) (k : Nat) : coldF σ k ≤ k := by
  induction k with
  | zero => exact Nat.le_refl 0
  | succ k ih =>
    unfold coldF
    split
    · exact Nat.le_succ_of_le ih
    · exact Nat.le_refl _
def mostF (σ : St) : Nat → Nat
  | 0 => 0
  | k + 1 => if honF σ (k + 1) ≤ honF σ (mostF σ k) then mostF σ k else k + 1
theorem mostF_le (σ : St) (k : Nat) : mostF σ k ≤ k := by
  induction k with
  | zero => exact Nat.le_refl 0
  | succ k ih =>
    unfold mostF
    split
    · exact Nat.le_succ_of_le ih
    · exact Nat.le_refl _
def leftF (σ : St) (h : Nat) : Nat → Int32 := fun i => liesN (gX σ).2.2.2 (gS σ (gP σ i).2.1) (gP σ i) h
def bestF (σ : St) : Nat → Int32 × Int32
  | 0 => (-1, -1)
  | k + 1 => if sooner (freezeN (gX σ).2.2.2 (gS σ k)) (bestF σ k).2 = true then (nI k, freezeN (gX σ).2.2.2 (gS σ k)) else bestF σ k
def ocF (σ : St) : Nat → Int32
  | 0 => -1
  | k + 1 => if sooner (alarmN (gS σ (gP σ k).2.1) (gP σ k)) (ocF σ k) = true then alarmN (gS σ (gP σ k).2.1) (gP σ k) else ocF σ k
theorem ite01 {b : Bool} (h : (if b = true then (1 : Int32) else 0) = 0) : ¬ b = true := fun q => by rw [if_pos q] at h; exact absurd h (by decide)
theorem ite01n {b : Bool} (h : ¬ (if b = true then (1 : Int32) else 0) = 0) : b = true := by
  cases b
  · exact absurd rfl h
  · rfl
theorem liesN_01 (pw : Int32) (q : Sh) (x : Pr) (h : Nat) : liesN pw q x h = 0 ∨ liesN pw q x h = 1 := by unfold liesN; split <;> (try split) <;> first | exact Or.inl rfl | exact Or.inr rfl
theorem liesN_z (pw : Int32) (q : Sh) (x : Pr) (h : Nat) : narrow .boolean (.int (liesN pw q x h)) = .int (liesN pw q x h) := by rcases liesN_01 pw q x h with e | e <;> rw [e] <;> rfl
theorem Tr.leftF {σ σ' : St} (hok : okP σ) (t : Tr σ σ') (h : Nat) {i : Nat} (hi : i < 20) : liesN (gX σ').2.2.2 (gS σ' (gP σ' i).2.1) (gP σ' i) h = leftF σ h i := by
  show _ = liesN (gX σ).2.2.2 (gS σ (gP σ i).2.1) (gP σ i) h
  rw [t.X, t.P hi]
  by_cases hs : (gP σ i).2.1 < 5
  · rw [t.S hs]
  · have e := (hok i hi).2
    unfold liesN
    rw [if_neg (by omega), if_neg (by omega)]
theorem Tr.alarmN {σ σ' : St} (hok : okP σ) (t : Tr σ σ') {i : Nat} (hi : i < 20) : alarmN (gS σ' (gP σ' i).2.1) (gP σ' i) = alarmN (gS σ (gP σ i).2.1) (gP σ i) := by
  rw [t.P hi]
  by_cases hs : (gP σ i).2.1 < 5
  · rw [t.S hs]
  · have e := (hok i hi).2
    exact (if_neg (by omega)).trans (if_neg (by omega)).symm
set_option maxRecDepth 100000 in
set_option maxHeartbeats 4000000 in
theorem c_promisesOn (l : Launch) (G : Gt) (σ : St) {k9 : Nat} (hk : k9 < 5) : Ct l G yX3_promisesOn cX3_promisesOn 8 (some .int) 2 0 0 [.ref (gB G 0), .int (nI k9)] σ (Qi G (fun r σ' => r = onF σ k9 ∧ σ' = σ)) := by
  refine mt_intro (by decide +kernel) (Nat.le_of_ble_eq_true rfl) ?_
  intro p e s m below meth c S hr hlk hnm hI ls hl
  have hl : lv_has ls 8 [(0, .ref (gB G 0)), (1, .int (nI k9))] := hl
  have loop : ∀ (n : Nat) (k : Nat), k + n = 20 → ∀ (H : Heap) (locs : List Loc), Iv G σ s H locs → ∀ ls : Array Slot, lv_has ls 8 [(0, .ref (gB G 0)), (2, .ref (gB G (9 + k9))), (3, .int (sumN (fun i => if (gP σ i).2.1 = k9 then 1 else 0) k)), (4, .ref (gB G 2)), (5, .int (nI 20)), (6, .int (nI k))] → W p l e (rm 2 0 0) s m ([.ref (gB G 0), .int (nI k9)] : List Value).toArray below meth c H locs 0 0 (MQ below (Qi G (fun r σ' => r = onF σ k9 ∧ σ' = σ)) ([.ref (gB G 0), .int (nI k9)] : List Value).toArray s 0 0 (gA G)) (F0 m 22 ls []) := by
    intro n
    induction n with
    | zero =>
      intro k hk0 H locs hI ls hl
      obtain rfl : k = 20 := by omega
      refine lv_iload S.1 S.2.1 dX3_promisesOn_22 (lv_at hl 5 rfl) ?_
      refine lv_iload S.1 S.2.1 dX3_promisesOn_24 (lv_at hl 4 rfl) ?_
      refine lv_icmp_ge (tgt := 54) S.1 S.2.1 dX3_promisesOn_26 (by decide) (fun cz_26 => ?_) (fun c9 => absurd (nI_le (Nat.le_refl 20) (by omega)) c9)
      refine lv_iload_n S.1 S.2.1 dX3_promisesOn_54 rfl (lv_at hl 2 rfl) ?_
      exact xt_i S hI hr hlk (⟨rfl, rfl⟩) (by decide) (by decide) dX3_promisesOn_55
    | succ n ih =>
      intro k hk0 H locs hI ls hl
      have hk2 : k < 20 := by omega
      refine lv_iload S.1 S.2.1 dX3_promisesOn_22 (lv_at hl 5 rfl) ?_
      refine lv_iload S.1 S.2.1 dX3_promisesOn_24 (lv_at hl 4 rfl) ?_
      refine lv_icmp_ge (tgt := 54) S.1 S.2.1 dX3_promisesOn_26 (by decide) (fun c9 => absurd c9 (nI_ge hk2 (by omega))) (fun cz_26 => ?_)
      refine lv_aload S.1 S.2.1 dX3_promisesOn_29 (lv_at hl 3 rfl) ?_
      refine lv_iload S.1 S.2.1 dX3_promisesOn_31 (lv_at hl 5 rfl) ?_
      refine a_PA S hI (by omega) dX3_promisesOn_33 ?_
      refine lv_astore (lv' := [(7, .ref (gB G (15 + k))), (0, .ref (gB G 0)), (2, .ref (gB G (9 + k9))), (3, .int (sumN (fun i => if (gP σ i).2.1 = k9 then 1 else 0) k)), (4, .ref (gB G 2)), (5, .int (nI 20)), (6, .int (nI k))]) S.1 S.2.1 dX3_promisesOn_34 hl (by decide) rfl (fun ls hl => ?_)
      refine lv_aload S.1 S.2.1 dX3_promisesOn_36 (lv_at hl 0 rfl) ?_
      refine g_X3_P_shelf_r S hI (by omega) (pEta (gP σ k)) dX3_promisesOn_38 ?_
      refine lv_aload_n S.1 S.2.1 dX3_promisesOn_41 rfl (lv_at hl 2 rfl) ?_
      refine as_ne S hI (show k9 < 6 by omega) (tgt := 48) dX3_promisesOn_42 (by decide) (fun cz_42 => ?_) (fun cz_42 => ?_)
      · refine lv_iinc (v := (nI (k + 1))) (lv' := [(6, .int (nI (k + 1))), (7, .ref (gB G (15 + k))), (0, .ref (gB G 0)), (2, .ref (gB G (9 + k9))), (3, .int (sumN (fun i => if (gP σ i).2.1 = k9 then 1 else 0) k)), (4, .ref (gB G 2)), (5, .int (nI 20))]) S.1 S.2.1 dX3_promisesOn_48 hl (k := 6) rfl (nI_1 k) (by decide) rfl (fun ls hl => ?_)
        refine lv_goto (tgt := 22) S.1 S.2.1 dX3_promisesOn_51 (by decide) ?_
        exact ih (k + 1) (by omega) _ _ hI ls (by rw [show sumN (fun i => if (gP σ i).2.1 = k9 then 1 else 0) (k + 1) = (sumN (fun i => if (gP σ i).2.1 = k9 then 1 else 0) k) from by simp [sumN_s, cz_42]]; exact lv_sub hl [2, 3, 4, 5, 6, 0] rfl)
      · refine lv_iinc (v := ((sumN (fun i => if (gP σ i).2.1 = k9 then 1 else 0) k) + 1)) (lv' := [(3, .int ((sumN (fun i => if (gP σ i).2.1 = k9 then 1 else 0) k) + 1)), (7, .ref (gB G (15 + k))), (0, .ref (gB G 0)), (2, .ref (gB G (9 + k9))), (4, .ref (gB G 2)), (5, .int (nI 20)), (6, .int (nI k))]) S.1 S.2.1 dX3_promisesOn_45 hl (k := 3) rfl rfl (by decide) rfl (fun ls hl => ?_)
        refine lv_iinc (v := (nI (k + 1))) (lv' := [(6, .int (nI (k + 1))), (3, .int ((sumN (fun i => if (gP σ i).2.1 = k9 then 1 else 0) k) + 1)), (7, .ref (gB G (15 + k))), (0, .ref (gB G 0)), (2, .ref (gB G (9 + k9))), (4, .ref (gB G 2)), (5, .int (nI 20))]) S.1 S.2.1 dX3_promisesOn_48 hl (k := 6) rfl (nI_1 k) (by decide) rfl (fun ls hl => ?_)
        refine lv_goto (tgt := 22) S.1 S.2.1 dX3_promisesOn_51 (by decide) ?_
        exact ih (k + 1) (by omega) _ _ hI ls (by rw [show sumN (fun i => if (gP σ i).2.1 = k9 then 1 else 0) (k + 1) = ((sumN (fun i => if (gP σ i).2.1 = k9 then 1 else 0) k) + 1) from by simp [sumN_s, cz_42]]; exact lv_sub hl [3, 4, 1, 5, 6, 0] rfl)
  refine lv_aload_n S.1 S.2.1 dX3_promisesOn_0 rfl (lv_at hl 0 rfl) ?_
  refine lv_iload_n S.1 S.2.1 dX3_promisesOn_1 rfl (lv_at hl 1 rfl) ?_
  refine cl_q hI (rnV (As := [.int (nI k9)]) (rest := []) S hI (c_findShelf l G _ hk) (cw_X3_X3_findShelf S.2.2.2.2 ⟨Nat.le_of_ble_eq_true rfl, Nat.le_of_ble_eq_true rfl⟩) (rcX hI) rfl hl.1 (Nat.le_of_ble_eq_true rfl) dX3_promisesOn_2 ⟨Nat.le_of_ble_eq_true rfl, Nat.le_of_ble_eq_true rfl⟩) (fun r1 σ1 H locs hq1 hI => ?_)
  obtain ⟨hr1, hs1⟩ := hq1
  rw [hs1] at hI
  rw [hr1]
  show W _ _ _ _ _ _ _ _ _ _ _ _ _ _ _ (F0 _ _ _ (.ref (gB G (9 + k9)) :: _))
  refine lv_astore_n (lv' := [(2, .ref (gB G (9 + k9))), (0, .ref (gB G 0)), (1, .int (nI k9))]) S.1 S.2.1 dX3_promisesOn_5 rfl hl (by decide) rfl (fun ls hl => ?_)
  refine lv_iconst (v := 0) S.1 S.2.1 dX3_promisesOn_6 (by decide) ?_
  refine lv_istore_n (lv' := [(3, .int 0), (2, .ref (gB G (9 + k9))), (0, .ref (gB G 0)), (1, .int (nI k9))]) S.1 S.2.1 dX3_promisesOn_7 rfl hl (by decide) rfl (fun ls hl => ?_)
  refine lv_aload_n S.1 S.2.1 dX3_promisesOn_8 rfl (lv_at hl 2 rfl) ?_
  refine g_X3_X_promises S hI dX3_promisesOn_9 ?_
  refine lv_astore (lv' := [(4, .ref (gB G 2)), (3, .int 0), (2, .ref (gB G (9 + k9))), (0, .ref (gB G 0)), (1, .int (nI k9))]) S.1 S.2.1 dX3_promisesOn_12 hl (by decide) rfl (fun ls hl => ?_)
  refine lv_aload S.1 S.2.1 dX3_promisesOn_14 (lv_at hl 0 rfl) ?_
  refine n_PA S hI dX3_promisesOn_16 ?_
  refine lv_istore (lv' := [(5, .int (nI 20)), (4, .ref (gB G 2)), (3, .int 0), (2, .ref (gB G (9 + k9))), (0, .ref (gB G 0)), (1, .int (nI k9))]) S.1 S.2.1 dX3_promisesOn_17 hl (by decide) rfl (fun ls hl => ?_)
  refine lv_iconst (v := (nI 0)) S.1 S.2.1 dX3_promisesOn_19 (by rfl) ?_
  refine lv_istore (lv' := [(6, .int (nI 0)), (5, .int (nI 20)), (4, .ref (gB G 2)), (3, .int 0), (2, .ref (gB G (9 + k9))), (0, .ref (gB G 0)), (1, .int (nI k9))]) S.1 S.2.1 dX3_promisesOn_20 hl (by decide) rfl (fun ls hl => ?_)
  exact loop 20 0 rfl _ _ hI ls (lv_sub hl [5, 4, 3, 2, 1, 0] rfl)
set_option maxRecDepth 100000 in
set_option maxHeartbeats 4000000 in
theorem c_owedBy (l : Launch) (G : Gt) (σ : St) {a : Nat} (ha : a < 6) : Ct l G yX3_owedBy cX3_owedBy 7 (some .int) 2 0 0 [.ref (gB G 0), .int (nI a)] σ (Qi G (fun r σ' => r = owF σ (nI a) ∧ σ' = σ)) := by
  refine mt_intro (by decide +kernel) (Nat.le_of_ble_eq_true rfl) ?_
  intro p e s m below meth c S hr hlk hnm hI ls hl
  have hl : lv_has ls 7 [(0, .ref (gB G 0)), (1, .int (nI a))] := hl
  have loop : ∀ (n : Nat) (k : Nat), k + n = 20 → ∀ (H : Heap) (locs : List Loc), Iv G σ s H locs → ∀ ls : Array Slot, lv_has ls 7 [(0, .ref (gB G 0)), (1, .int (nI a)), (2, .int (sumN (fun i => if (gP σ i).2.1 < 6 ∧ (gP σ i).2.2.1 = nI a then 1 else 0) k)), (3, .ref (gB G 2)), (4, .int (nI 20)), (5, .int (nI k))] → W p l e (rm 2 0 0) s m ([.ref (gB G 0), .int (nI a)] : List Value).toArray below meth c H locs 0 0 (MQ below (Qi G (fun r σ' => r = owF σ (nI a) ∧ σ' = σ)) ([.ref (gB G 0), .int (nI a)] : List Value).toArray s 0 0 (gA G)) (F0 m 18 ls []) := by
    intro n
    induction n with
    | zero =>
      intro k hk0 H locs hI ls hl
      obtain rfl : k = 20 := by omega
      refine lv_iload S.1 S.2.1 dX3_owedBy_18 (lv_at hl 5 rfl) ?_
      refine lv_iload S.1 S.2.1 dX3_owedBy_20 (lv_at hl 4 rfl) ?_
      refine lv_icmp_ge (tgt := 57) S.1 S.2.1 dX3_owedBy_22 (by decide) (fun cz_22 => ?_) (fun c9 => absurd (nI_le (Nat.le_refl 20) (by omega)) c9)
      refine lv_iload_n S.1 S.2.1 dX3_owedBy_57 rfl (lv_at hl 2 rfl) ?_
      exact xt_i S hI hr hlk (⟨rfl, rfl⟩) (by decide) (by decide) dX3_owedBy_58
    | succ n ih =>
      intro k hk0 H locs hI ls hl
      have hk2 : k < 20 := by omega
      refine lv_iload S.1 S.2.1 dX3_owedBy_18 (lv_at hl 5 rfl) ?_
      refine lv_iload S.1 S.2.1 dX3_owedBy_20 (lv_at hl 4 rfl) ?_
      refine lv_icmp_ge (tgt := 57) S.1 S.2.1 dX3_owedBy_22 (by decide) (fun c9 => absurd c9 (nI_ge hk2 (by omega))) (fun cz_22 => ?_)
      refine lv_aload_n S.1 S.2.1 dX3_owedBy_25 rfl (lv_at hl 3 rfl) ?_
      refine lv_iload S.1 S.2.1 dX3_owedBy_26 (lv_at hl 5 rfl) ?_
      refine a_PA S hI hk2 dX3_owedBy_28 ?_
      refine lv_astore (lv' := [(6, .ref (gB G (15 + k))), (0, .ref (gB G 0)), (1, .int (nI a)), (2, .int (sumN (fun i => if (gP σ i).2.1 < 6 ∧ (gP σ i).2.2.1 = nI a then 1 else 0) k)), (3, .ref (gB G 2)), (4, .int (nI 20)), (5, .int (nI k))]) S.1 S.2.1 dX3_owedBy_29 hl (by decide) rfl (fun ls hl => ?_)
      refine lv_aload S.1 S.2.1 dX3_owedBy_31 (lv_at hl 0 rfl) ?_
      refine g_X3_P_shelf_r S hI (by omega) (pEta (gP σ k)) dX3_owedBy_33 ?_
      refine nn_no S (tgt := 51) dX3_owedBy_36 (by decide) (fun cz_36 => ?_) (fun cz_36 => ?_)
      · refine lv_iinc (v := (nI (k + 1))) (lv' := [(5, .int (nI (k + 1))), (6, .ref (gB G (15 + k))), (0, .ref (gB G 0)), (1, .int (nI a)), (2, .int (sumN (fun i => if (gP σ i).2.1 < 6 ∧ (gP σ i).2.2.1 = nI a then 1 else 0) k)), (3, .ref (gB G 2)), (4, .int (nI 20))]) S.1 S.2.1 dX3_owedBy_51 hl (k := 6) rfl (nI_1 k) (by decide) rfl (fun ls hl => ?_)
        refine lv_goto (tgt := 18) S.1 S.2.1 dX3_owedBy_54 (by decide) ?_
        exact ih (k + 1) (by omega) _ _ hI ls (by rw [show sumN (fun i => if (gP σ i).2.1 < 6 ∧ (gP σ i).2.2.1 = nI a then 1 else 0) (k + 1) = (sumN (fun i => if (gP σ i).2.1 < 6 ∧ (gP σ i).2.2.1 = nI a then 1 else 0) k) from by simp [sumN_s, cz_36]]; exact lv_sub hl [2, 3, 4, 5, 6, 0] rfl)
      · refine lv_aload S.1 S.2.1 dX3_owedBy_39 (lv_at hl 0 rfl) ?_
        refine g_X3_P_maker S hI (by omega) (pEta (gP σ k)) dX3_owedBy_41 ?_
        refine lv_iload_n S.1 S.2.1 dX3_owedBy_44 rfl (lv_at hl 2 rfl) ?_
        refine lv_icmp_ne (tgt := 51) S.1 S.2.1 dX3_owedBy_45 (by decide) (fun cz_45 => ?_) (fun cz_45 => ?_)
        · refine lv_iinc (v := (nI (k + 1))) (lv' := [(5, .int (nI (k + 1))), (6, .ref (gB G (15 + k))), (0, .ref (gB G 0)), (1, .int (nI a)), (2, .int (sumN (fun i => if (gP σ i).2.1 < 6 ∧ (gP σ i).2.2.1 = nI a then 1 else 0) k)), (3, .ref (gB G 2)), (4, .int (nI 20))]) S.1 S.2.1 dX3_owedBy_51 hl (k := 6) rfl (nI_1 k) (by decide) rfl (fun ls hl => ?_)
          refine lv_goto (tgt := 18) S.1 S.2.1 dX3_owedBy_54 (by decide) ?_
          exact ih (k + 1) (by omega) _ _ hI ls (by rw [show sumN (fun i => if (gP σ i).2.1 < 6 ∧ (gP σ i).2.2.1 = nI a then 1 else 0) (k + 1) = (sumN (fun i => if (gP σ i).2.1 < 6 ∧ (gP σ i).2.2.1 = nI a then 1 else 0) k) from by simp [sumN_s, cz_36, cz_45]]; exact lv_sub hl [2, 3, 4, 5, 6, 0] rfl)
        · refine lv_iinc (v := ((sumN (fun i => if (gP σ i).2.1 < 6 ∧ (gP σ i).2.2.1 = nI a then 1 else 0) k) + 1)) (lv' := [(2, .int ((sumN (fun i => if (gP σ i).2.1 < 6 ∧ (gP σ i).2.2.1 = nI a then 1 else 0) k) + 1)), (6, .ref (gB G (15 + k))), (0, .ref (gB G 0)), (1, .int (nI a)), (3, .ref (gB G 2)), (4, .int (nI 20)), (5, .int (nI k))]) S.1 S.2.1 dX3_owedBy_48 hl (k := 3) rfl rfl (by decide) rfl (fun ls hl => ?_)
          refine lv_iinc (v := (nI (k + 1))) (lv' := [(5, .int (nI (k + 1))), (2, .int ((sumN (fun i => if (gP σ i).2.1 < 6 ∧ (gP σ i).2.2.1 = nI a then 1 else 0) k) + 1)), (6, .ref (gB G (15 + k))), (0, .ref (gB G 0)), (1, .int (nI a)), (3, .ref (gB G 2)), (4, .int (nI 20))]) S.1 S.2.1 dX3_owedBy_51 hl (k := 6) rfl (nI_1 k) (by decide) rfl (fun ls hl => ?_)
          refine lv_goto (tgt := 18) S.1 S.2.1 dX3_owedBy_54 (by decide) ?_
          exact ih (k + 1) (by omega) _ _ hI ls (by rw [show sumN (fun i => if (gP σ i).2.1 < 6 ∧ (gP σ i).2.2.1 = nI a then 1 else 0) (k + 1) = ((sumN (fun i => if (gP σ i).2.1 < 6 ∧ (gP σ i).2.2.1 = nI a then 1 else 0) k) + 1) from by simp [sumN_s, cz_36, cz_45]]; exact lv_sub hl [3, 4, 1, 5, 6, 0] rfl)
  refine lv_iload_n S.1 S.2.1 dX3_owedBy_0 rfl (lv_at hl 1 rfl) ?_
  refine cl_v hI (rnS (As := [.int (nI a)]) (rest := []) S hI (c_checkMaker l G _ ha) (cw_X3_X3_checkMaker S.2.2.2.2 ⟨Nat.le_of_ble_eq_true rfl, Nat.le_of_ble_eq_true rfl⟩) rfl hl.1 (Nat.le_of_ble_eq_true rfl) dX3_owedBy_1 ⟨Nat.le_of_ble_eq_true rfl, Nat.le_of_ble_eq_true rfl⟩) (fun σ1 H locs hq1 hI => ?_)
  rw [hq1] at hI
  refine lv_iconst (v := 0) S.1 S.2.1 dX3_owedBy_4 (by decide) ?_
  refine lv_istore_n (lv' := [(2, .int 0), (0, .ref (gB G 0)), (1, .int (nI a))]) S.1 S.2.1 dX3_owedBy_5 rfl hl (by decide) rfl (fun ls hl => ?_)
  refine lv_aload_n S.1 S.2.1 dX3_owedBy_6 rfl (lv_at hl 1 rfl) ?_
  refine g_X3_X_promises S hI dX3_owedBy_7 ?_
  refine lv_astore_n (lv' := [(3, .ref (gB G 2)), (2, .int 0), (0, .ref (gB G 0)), (1, .int (nI a))]) S.1 S.2.1 dX3_owedBy_10 rfl hl (by decide) rfl (fun ls hl => ?_)
  refine lv_aload_n S.1 S.2.1 dX3_owedBy_11 rfl (lv_at hl 0 rfl) ?_
  refine n_PA S hI dX3_owedBy_12 ?_
  refine lv_istore (lv' := [(4, .int (nI 20)), (3, .ref (gB G 2)), (2, .int 0), (0, .ref (gB G 0)), (1, .int (nI a))]) S.1 S.2.1 dX3_owedBy_13 hl (by decide) rfl (fun ls hl => ?_)
  refine lv_iconst (v := (nI 0)) S.1 S.2.1 dX3_owedBy_15 (by rfl) ?_
  refine lv_istore (lv' := [(5, .int (nI 0)), (4, .int (nI 20)), (3, .ref (gB G 2)), (2, .int 0), (0, .ref (gB G 0)), (1, .int (nI a))]) S.1 S.2.1 dX3_owedBy_16 hl (by decide) rfl (fun ls hl => ?_)
  exact loop 20 0 rfl _ _ hI ls (lv_sub hl [4, 5, 3, 2, 1, 0] rfl)
set_option maxRecDepth 100000 in
set_option maxHeartbeats 4000000 in
theorem c_honourOf (l : Launch) (G : Gt) (σ : St) (hok : okP σ) {a : Nat} (ha : a < 6) : Ct l G yX3_honourOf cX3_honourOf 2 (some .int) 2 0 0 [.ref (gB G 0), .int (nI a)] σ (Qi G (fun r σ' => r = honF σ a ∧ σ' = σ)) := by
  refine mt_intro (by decide +kernel) (Nat.le_of_ble_eq_true rfl) ?_
  intro p e s m below meth c S hr hlk hnm hI ls hl
  have hl : lv_has ls 2 [(0, .ref (gB G 0)), (1, .int (nI a))] := hl
  refine lv_iload_n S.1 S.2.1 dX3_honourOf_0 rfl (lv_at hl 1 rfl) ?_
  refine cl_v hI (rnS (As := [.int (nI a)]) (rest := []) S hI (c_checkMaker l G _ ha) (cw_X3_X3_checkMaker S.2.2.2.2 ⟨Nat.le_of_ble_eq_true rfl, Nat.le_of_ble_eq_true rfl⟩) rfl hl.1 (Nat.le_of_ble_eq_true rfl) dX3_honourOf_1 ⟨Nat.le_of_ble_eq_true rfl, Nat.le_of_ble_eq_true rfl⟩) (fun σ1 H locs hq1 hI => ?_)
  rw [hq1] at hI
  refine lv_aload_n S.1 S.2.1 dX3_honourOf_4 rfl (lv_at hl 0 rfl) ?_
  refine lv_iload_n S.1 S.2.1 dX3_honourOf_5 rfl (lv_at hl 1 rfl) ?_
  refine gs_X3_KEPT S hI dX3_honourOf_6 ?_
  refine cl_i hI (rnV (As := [.int (nI a), .ref (gE G 4)]) (rest := []) S hI (c_countOf l G _ hok (nI a) (g := 4) (by decide)) (cw_X3_X3_countOf S.2.2.2.2 ⟨Nat.le_of_ble_eq_true rfl, Nat.le_of_ble_eq_true rfl⟩) (rcX hI) rfl hl.1 (Nat.le_of_ble_eq_true rfl) dX3_honourOf_9 ⟨Nat.le_of_ble_eq_true rfl, Nat.le_of_ble_eq_true rfl⟩) (fun r2 σ2 H locs hq2 hI => ?_)
  obtain ⟨hr2, hs2⟩ := hq2
  rw [hs2] at hI
  rw [hr2]
  refine lv_aload_n S.1 S.2.1 dX3_honourOf_12 rfl (lv_at hl 0 rfl) ?_
  refine lv_iload_n S.1 S.2.1 dX3_honourOf_13 rfl (lv_at hl 1 rfl) ?_
  refine gs_X3_EXPIRED S hI dX3_honourOf_14 ?_
  refine cl_i hI (rnV (As := [.int (nI a), .ref (gE G 5)]) (rest := [.int (cntF σ (nI a) 4)]) S hI (c_countOf l G _ hok (nI a) (g := 5) (by decide)) (cw_X3_X3_countOf S.2.2.2.2 ⟨Nat.le_of_ble_eq_true rfl, Nat.le_of_ble_eq_true rfl⟩) (rcX hI) rfl hl.1 (Nat.le_of_ble_eq_true rfl) dX3_honourOf_17 ⟨Nat.le_of_ble_eq_true rfl, Nat.le_of_ble_eq_true rfl⟩) (fun r3 σ3 H locs hq3 hI => ?_)
  obtain ⟨hr3, hs3⟩ := hq3
  rw [hs3] at hI
  rw [hr3]
  refine lv_isub S.1 S.2.1 dX3_honourOf_20 ?_
  exact xt_i S hI hr hlk (⟨rfl, rfl⟩) (by decide) (by decide) dX3_honourOf_21
set_option maxRecDepth 100000 in
set_option maxHeartbeats 4000000 in
theorem c_coldest (l : Launch) (G : Gt) (σ : St)  : Ct l G yX3_coldest cX3_coldest 3 (some .int) 1 0 0 [.ref (gB G 0)] σ (Qi G (fun r σ' => r = nI (coldF σ 4) ∧ σ' = σ)) := by
  refine mt_intro (by decide +kernel) (Nat.le_of_ble_eq_true rfl) ?_
  intro p e s m below meth c S hr hlk hnm hI ls hl
  have hl : lv_has ls 3 [(0, .ref (gB G 0))] := hl
  have loop : ∀ (n : Nat) (k : Nat), k + n = 4 → ∀ (H : Heap) (locs : List Loc), Iv G σ s H locs → ∀ ls : Array Slot, lv_has ls 3 [(0, .ref (gB G 0)), (1, .int (nI (coldF σ k))), (2, .int (nI (k + 1)))] → W p l e (rm 1 0 0) s m ([.ref (gB G 0)] : List Value).toArray below meth c H locs 0 0 (MQ below (Qi G (fun r σ' => r = nI (coldF σ 4) ∧ σ' = σ)) ([.ref (gB G 0)] : List Value).toArray s 0 0 (gA G)) (F0 m 4 ls []) := by
    intro n
    induction n with
    | zero =>
      intro k hk0 H locs hI ls hl
      obtain rfl : k = 4 := by omega
      refine lv_iload_n S.1 S.2.1 dX3_coldest_4 rfl (lv_at hl 2 rfl) ?_
      refine lv_iconst (v := 5) S.1 S.2.1 dX3_coldest_5 (by decide) ?_
      refine lv_icmp_ge (tgt := 38) S.1 S.2.1 dX3_coldest_6 (by decide) (fun cz_6 => ?_) (fun c9 => absurd (nI_le (a := 5) (b := 5) (Nat.le_refl 5) (by omega)) c9)
      refine lv_iload_n S.1 S.2.1 dX3_coldest_38 rfl (lv_at hl 1 rfl) ?_
      exact xt_i S hI hr hlk (⟨rfl, rfl⟩) (by decide) (by decide) dX3_coldest_39
    | succ n ih =>
      intro k hk0 H locs hI ls hl
      have hc := coldF_le σ k
      refine lv_iload_n S.1 S.2.1 dX3_coldest_4 rfl (lv_at hl 2 rfl) ?_
      refine lv_iconst (v := 5) S.1 S.2.1 dX3_coldest_5 (by decide) ?_
      refine lv_icmp_ge (tgt := 38) S.1 S.2.1 dX3_coldest_6 (by decide) (fun c9 => absurd c9 (nI_ge (b := 5) (by omega) (by omega))) (fun cz_6 => ?_)
      refine lv_aload_n S.1 S.2.1 dX3_coldest_9 rfl (lv_at hl 0 rfl) ?_
      refine g_X3_X_shelves S hI dX3_coldest_10 ?_
      refine lv_iload_n S.1 S.2.1 dX3_coldest_13 rfl (lv_at hl 2 rfl) ?_
      refine a_SA S hI (by omega) dX3_coldest_14 ?_
      refine g_X3_S_heat S hI (by omega) (sEta (gS σ (k + 1))) dX3_coldest_15 ?_
      refine lv_aload_n S.1 S.2.1 dX3_coldest_18 rfl (lv_at hl 0 rfl) ?_
      refine g_X3_X_shelves S hI dX3_coldest_19 ?_
      refine lv_iload_n S.1 S.2.1 dX3_coldest_22 rfl (lv_at hl 1 rfl) ?_
      refine a_SA S hI (by omega) dX3_coldest_23 ?_
      refine g_X3_S_heat S hI (by omega) (sEta (gS σ (coldF σ k))) dX3_coldest_24 ?_
      refine lv_icmp_ge (tgt := 32) S.1 S.2.1 dX3_coldest_27 (by decide) (fun cz_27 => ?_) (fun cz_27 => ?_)
      · refine lv_iinc (v := (nI (k + 1 + 1))) (lv' := [(2, .int (nI (k + 1 + 1))), (0, .ref (gB G 0)), (1, .int (nI (coldF σ k)))]) S.1 S.2.1 dX3_coldest_32 hl (k := 2) rfl (nI_1 (k + 1)) (by decide) rfl (fun ls hl => ?_)
        refine lv_goto (tgt := 4) S.1 S.2.1 dX3_coldest_35 (by decide) ?_
        exact ih (k + 1) (by omega) _ _ hI ls (by rw [show coldF σ (k + 1) = coldF σ k from if_pos cz_27]; exact lv_sub hl [1, 2, 0] rfl)
      · refine lv_iload_n S.1 S.2.1 dX3_coldest_30 rfl (lv_at hl 2 rfl) ?_
        refine lv_istore_n (lv' := [(1, .int (nI (k + 1))), (0, .ref (gB G 0)), (2, .int (nI (k + 1)))]) S.1 S.2.1 dX3_coldest_31 rfl hl (by decide) rfl (fun ls hl => ?_)
        refine lv_iinc (v := (nI (k + 1 + 1))) (lv' := [(2, .int (nI (k + 1 + 1))), (1, .int (nI (k + 1))), (0, .ref (gB G 0))]) S.1 S.2.1 dX3_coldest_32 hl (k := 2) rfl (nI_1 (k + 1)) (by decide) rfl (fun ls hl => ?_)
        refine lv_goto (tgt := 4) S.1 S.2.1 dX3_coldest_35 (by decide) ?_
        exact ih (k + 1) (by omega) _ _ hI ls (by rw [show coldF σ (k + 1) = k + 1 from if_neg cz_27]; exact lv_sub hl [2, 1, 0] rfl)
  refine lv_iconst (v := (nI (coldF σ 0))) S.1 S.2.1 dX3_coldest_0 (by rfl) ?_
  refine lv_istore_n (lv' := [(1, .int (nI (coldF σ 0))), (0, .ref (gB G 0))]) S.1 S.2.1 dX3_coldest_1 rfl hl (by decide) rfl (fun ls hl => ?_)
  refine lv_iconst (v := (nI (0 + 1))) S.1 S.2.1 dX3_coldest_2 (by rfl) ?_
  refine lv_istore_n (lv' := [(2, .int (nI (0 + 1))), (1, .int (nI (coldF σ 0))), (0, .ref (gB G 0))]) S.1 S.2.1 dX3_coldest_3 rfl hl (by decide) rfl (fun ls hl => ?_)
  exact loop 4 0 rfl _ _ hI ls (lv_sub hl [2, 1, 0] rfl)
set_option maxRecDepth 100000 in
set_option maxHeartbeats 4000000 in
theorem c_mostHonourable (l : Launch) (G : Gt) (σ : St) (hok : okP σ) : Ct l G yX3_mostHonourable cX3_mostHonourable 3 (some .int) 3 0 0 [.ref (gB G 0)] σ (Qi G (fun r σ' => r = nI (mostF σ 5) ∧ σ' = σ)) := by
  refine mt_intro (by decide +kernel) (Nat.le_of_ble_eq_true rfl) ?_
  intro p e s m below meth c S hr hlk hnm hI ls hl
  have hl : lv_has ls 3 [(0, .ref (gB G 0))] := hl
  have loop : ∀ (n : Nat) (k : Nat), k + n = 5 → ∀ (H : Heap) (locs : List Loc), Iv G σ s H locs → ∀ ls : Array Slot, lv_has ls 3 [(0, .ref (gB G 0)), (1, .int (nI (mostF σ k))), (2, .int (nI (k + 1)))] → W p l e (rm 3 0 0) s m ([.ref (gB G 0)] : List Value).toArray below meth c H locs 0 0 (MQ below (Qi G (fun r σ' => r = nI (mostF σ 5) ∧ σ' = σ)) ([.ref (gB G 0)] : List Value).toArray s 0 0 (gA G)) (F0 m 4 ls []) := by
    intro n
    induction n with
    | zero =>
      intro k hk0 H locs hI ls hl
      obtain rfl : k = 5 := by omega
      refine lv_iload_n S.1 S.2.1 dX3_mostHonourable_4 rfl (lv_at hl 2 rfl) ?_
      refine lv_bipush (v := 6) S.1 S.2.1 dX3_mostHonourable_5 (by decide) ?_
      refine lv_icmp_ge (tgt := 31) S.1 S.2.1 dX3_mostHonourable_7 (by decide) (fun cz_7 => ?_) (fun c9 => absurd (nI_le (a := 6) (b := 6) (Nat.le_refl 6) (by omega)) c9)
      refine lv_iload_n S.1 S.2.1 dX3_mostHonourable_31 rfl (lv_at hl 1 rfl) ?_
      exact xt_i S hI hr hlk (⟨rfl, rfl⟩) (by decide) (by decide) dX3_mostHonourable_32
    | succ n ih =>
      intro k hk0 H locs hI ls hl
      have hc := mostF_le σ k
      refine lv_iload_n S.1 S.2.1 dX3_mostHonourable_4 rfl (lv_at hl 2 rfl) ?_
      refine lv_bipush (v := 6) S.1 S.2.1 dX3_mostHonourable_5 (by decide) ?_
      refine lv_icmp_ge (tgt := 31) S.1 S.2.1 dX3_mostHonourable_7 (by decide) (fun c9 => absurd c9 (nI_ge (b := 6) (by omega) (by omega))) (fun cz_7 => ?_)
      refine lv_aload_n S.1 S.2.1 dX3_mostHonourable_10 rfl (lv_at hl 0 rfl) ?_
      refine lv_iload_n S.1 S.2.1 dX3_mostHonourable_11 rfl (lv_at hl 2 rfl) ?_
      refine cl_i hI (rnV (As := [.int (nI (k + 1))]) (rest := []) S hI (c_honourOf l G _ hok (a := k + 1) (by omega)) (cw_X3_X3_honourOf S.2.2.2.2 ⟨Nat.le_of_ble_eq_true rfl, Nat.le_of_ble_eq_true rfl⟩) (rcX hI) rfl hl.1 (Nat.le_of_ble_eq_true rfl) dX3_mostHonourable_12 ⟨Nat.le_of_ble_eq_true rfl, Nat.le_of_ble_eq_true rfl⟩) (fun r1 σ1 H locs hq1 hI => ?_)
      obtain ⟨hr1, hs1⟩ := hq1
      rw [hs1] at hI
      rw [hr1]
      refine lv_aload_n S.1 S.2.1 dX3_mostHonourable_15 rfl (lv_at hl 0 rfl) ?_
      refine lv_iload_n S.1 S.2.1 dX3_mostHonourable_16 rfl (lv_at hl 1 rfl) ?_
      refine cl_i hI (rnV (As := [.int (nI (mostF σ k))]) (rest := [.int (honF σ (k + 1))]) S hI (c_honourOf l G _ hok (a := mostF σ k) (by omega)) (cw_X3_X3_honourOf S.2.2.2.2 ⟨Nat.le_of_ble_eq_true rfl, Nat.le_of_ble_eq_true rfl⟩) (rcX hI) rfl hl.1 (Nat.le_of_ble_eq_true rfl) dX3_mostHonourable_17 ⟨Nat.le_of_ble_eq_true rfl, Nat.le_of_ble_eq_true rfl⟩) (fun r2 σ2 H locs hq2 hI => ?_)
      obtain ⟨hr2, hs2⟩ := hq2
      rw [hs2] at hI
      rw [hr2]
      refine lv_icmp_le (tgt := 25) S.1 S.2.1 dX3_mostHonourable_20 (by decide) (fun cz_20 => ?_) (fun cz_20 => ?_)
      · refine lv_iinc (v := (nI (k + 1 + 1))) (lv' := [(2, .int (nI (k + 1 + 1))), (0, .ref (gB G 0)), (1, .int (nI (mostF σ k)))]) S.1 S.2.1 dX3_mostHonourable_25 hl (k := 2) rfl (nI_1 (k + 1)) (by decide) rfl (fun ls hl => ?_)
        refine lv_goto (tgt := 4) S.1 S.2.1 dX3_mostHonourable_28 (by decide) ?_
        exact ih (k + 1) (by omega) _ _ hI ls (by rw [show mostF σ (k + 1) = mostF σ k from if_pos cz_20]; exact lv_sub hl [1, 2, 0] rfl)
      · refine lv_iload_n S.1 S.2.1 dX3_mostHonourable_23 rfl (lv_at hl 2 rfl) ?_
        refine lv_istore_n (lv' := [(1, .int (nI (k + 1))), (0, .ref (gB G 0)), (2, .int (nI (k + 1)))]) S.1 S.2.1 dX3_mostHonourable_24 rfl hl (by decide) rfl (fun ls hl => ?_)
        refine lv_iinc (v := (nI (k + 1 + 1))) (lv' := [(2, .int (nI (k + 1 + 1))), (1, .int (nI (k + 1))), (0, .ref (gB G 0))]) S.1 S.2.1 dX3_mostHonourable_25 hl (k := 2) rfl (nI_1 (k + 1)) (by decide) rfl (fun ls hl => ?_)
        refine lv_goto (tgt := 4) S.1 S.2.1 dX3_mostHonourable_28 (by decide) ?_
        exact ih (k + 1) (by omega) _ _ hI ls (by rw [show mostF σ (k + 1) = k + 1 from if_neg cz_20]; exact lv_sub hl [2, 1, 0] rfl)
  refine lv_iconst (v := (nI (mostF σ 0))) S.1 S.2.1 dX3_mostHonourable_0 (by rfl) ?_
  refine lv_istore_n (lv' := [(1, .int (nI (mostF σ 0))), (0, .ref (gB G 0))]) S.1 S.2.1 dX3_mostHonourable_1 rfl hl (by decide) rfl (fun ls hl => ?_)
  refine lv_iconst (v := (nI (0 + 1))) S.1 S.2.1 dX3_mostHonourable_2 (by rfl) ?_
  refine lv_istore_n (lv' := [(2, .int (nI (0 + 1))), (1, .int (nI (mostF σ 0))), (0, .ref (gB G 0))]) S.1 S.2.1 dX3_mostHonourable_3 rfl hl (by decide) rfl (fun ls hl => ?_)
  exact loop 5 0 rfl _ _ hI ls (lv_sub hl [2, 1, 0] rfl)
set_option maxRecDepth 100000 in
set_option maxHeartbeats 4000000 in
theorem c_hoursUntilFrozen (l : Launch) (G : Gt) (σ : St) (hok : okP σ) {i n : Nat} (hi : i < n) (hn : n ≤ 20) {ar hh pw : Int32} (hX : gX σ = (nI n, ar, hh, pw)) : Ct l G yX3_hoursUntilFrozen cX3_hoursUntilFrozen 2 (some .int) 6 0 0 [.ref (gB G 0), .int (nI i)] σ (Qi G (fun r σ' => r = hUntil pw (gS σ (gP σ i).2.1) (gP σ i) 2 ∧ Tr σ σ')) := by
  refine mt_intro (by decide +kernel) (Nat.le_of_ble_eq_true rfl) ?_
  intro p e s m below meth c S hr hlk hnm hI ls hl
  have hl : lv_has ls 2 [(0, .ref (gB G 0)), (1, .int (nI i))] := hl
  refine lv_aload_n S.1 S.2.1 dX3_hoursUntilFrozen_0 rfl (lv_at hl 0 rfl) ?_
  refine lv_aload_n S.1 S.2.1 dX3_hoursUntilFrozen_1 rfl (lv_at hl 0 rfl) ?_
  refine lv_iload_n S.1 S.2.1 dX3_hoursUntilFrozen_2 rfl (lv_at hl 1 rfl) ?_
  refine cl_q hI (rnV (As := [.int (nI i)]) (rest := [.ref (gB G 0)]) S hI (c_findPromise l G _ hi hn hX) (cw_X3_X3_findPromise S.2.2.2.2 ⟨Nat.le_of_ble_eq_true rfl, Nat.le_of_ble_eq_true rfl⟩) (rcX hI) rfl hl.1 (Nat.le_of_ble_eq_true rfl) dX3_hoursUntilFrozen_3 ⟨Nat.le_of_ble_eq_true rfl, Nat.le_of_ble_eq_true rfl⟩) (fun r1 σ1 H locs hq1 hI => ?_)
  obtain ⟨hr1, hs1⟩ := hq1
  rw [hs1] at hI
  rw [hr1]
  show W _ _ _ _ _ _ _ _ _ _ _ _ _ _ _ (F0 _ _ _ (.ref (gB G (15 + i)) :: _))
  refine gs_X3_FROZEN S hI dX3_hoursUntilFrozen_6 ?_
  refine cl_i hI (rnV (As := [.ref (gB G (15 + i)), .ref (gE G 2)]) (rest := []) S hI (c_hoursUntil l G _ hok hX (i := i) (by omega) (g := 2) (by decide)) (cw_X3_X3_hoursUntil S.2.2.2.2 ⟨Nat.le_of_ble_eq_true rfl, Nat.le_of_ble_eq_true rfl⟩) (rcX hI) rfl hl.1 (Nat.le_of_ble_eq_true rfl) dX3_hoursUntilFrozen_9 ⟨Nat.le_of_ble_eq_true rfl, Nat.le_of_ble_eq_true rfl⟩) (fun r2 σ2 H locs hq2 hI => ?_)
  obtain ⟨hr2, hs2⟩ := hq2
  exact xt_i S hI hr hlk (⟨hr2, hs2⟩) (by decide) (by decide) dX3_hoursUntilFrozen_12
set_option maxRecDepth 100000 in
set_option maxHeartbeats 4000000 in
theorem c_hoursUntilThawed (l : Launch) (G : Gt) (σ : St) (hok : okP σ) {i n : Nat} (hi : i < n) (hn : n ≤ 20) {ar hh pw : Int32} (hX : gX σ = (nI n, ar, hh, pw)) : Ct l G yX3_hoursUntilThawed cX3_hoursUntilThawed 2 (some .int) 6 0 0 [.ref (gB G 0), .int (nI i)] σ (Qi G (fun r σ' => r = hUntil pw (gS σ (gP σ i).2.1) (gP σ i) 3 ∧ Tr σ σ')) := by
  refine mt_intro (by decide +kernel) (Nat.le_of_ble_eq_true rfl) ?_
  intro p e s m below meth c S hr hlk hnm hI ls hl
  have hl : lv_has ls 2 [(0, .ref (gB G 0)), (1, .int (nI i))] := hl
  refine lv_aload_n S.1 S.2.1 dX3_hoursUntilThawed_0 rfl (lv_at hl 0 rfl) ?_
  refine lv_aload_n S.1 S.2.1 dX3_hoursUntilThawed_1 rfl (lv_at hl 0 rfl) ?_
  refine lv_iload_n S.1 S.2.1 dX3_hoursUntilThawed_2 rfl (lv_at hl 1 rfl) ?_
  refine cl_q hI (rnV (As := [.int (nI i)]) (rest := [.ref (gB G 0)]) S hI (c_findPromise l G _ hi hn hX) (cw_X3_X3_findPromise S.2.2.2.2 ⟨Nat.le_of_ble_eq_true rfl, Nat.le_of_ble_eq_true rfl⟩) (rcX hI) rfl hl.1 (Nat.le_of_ble_eq_true rfl) dX3_hoursUntilThawed_3 ⟨Nat.le_of_ble_eq_true rfl, Nat.le_of_ble_eq_true rfl⟩) (fun r1 σ1 H locs hq1 hI => ?_)
  obtain ⟨hr1, hs1⟩ := hq1
  rw [hs1] at hI
  rw [hr1]
  show W _ _ _ _ _ _ _ _ _ _ _ _ _ _ _ (F0 _ _ _ (.ref (gB G (15 + i)) :: _))
  refine gs_X3_THAWED S hI dX3_hoursUntilThawed_6 ?_
  refine cl_i hI (rnV (As := [.ref (gB G (15 + i)), .ref (gE G 3)]) (rest := []) S hI (c_hoursUntil l G _ hok hX (i := i) (by omega) (g := 3) (by decide)) (cw_X3_X3_hoursUntil S.2.2.2.2 ⟨Nat.le_of_ble_eq_true rfl, Nat.le_of_ble_eq_true rfl⟩) (rcX hI) rfl hl.1 (Nat.le_of_ble_eq_true rfl) dX3_hoursUntilThawed_9 ⟨Nat.le_of_ble_eq_true rfl, Nat.le_of_ble_eq_true rfl⟩) (fun r2 σ2 H locs hq2 hI => ?_)
  obtain ⟨hr2, hs2⟩ := hq2
  exact xt_i S hI hr hlk (⟨hr2, hs2⟩) (by decide) (by decide) dX3_hoursUntilThawed_12
set_option maxRecDepth 100000 in
set_option maxHeartbeats 4000000 in
theorem c_hoursUntilExpired (l : Launch) (G : Gt) (σ : St) (hok : okP σ) {i n : Nat} (hi : i < n) (hn : n ≤ 20) {ar hh pw : Int32} (hX : gX σ = (nI n, ar, hh, pw)) : Ct l G yX3_hoursUntilExpired cX3_hoursUntilExpired 2 (some .int) 6 0 0 [.ref (gB G 0), .int (nI i)] σ (Qi G (fun r σ' => r = hUntil pw (gS σ (gP σ i).2.1) (gP σ i) 5 ∧ Tr σ σ')) := by
  refine mt_intro (by decide +kernel) (Nat.le_of_ble_eq_true rfl) ?_
  intro p e s m below meth c S hr hlk hnm hI ls hl
  have hl : lv_has ls 2 [(0, .ref (gB G 0)), (1, .int (nI i))] := hl
  refine lv_aload_n S.1 S.2.1 dX3_hoursUntilExpired_0 rfl (lv_at hl 0 rfl) ?_
  refine lv_aload_n S.1 S.2.1 dX3_hoursUntilExpired_1 rfl (lv_at hl 0 rfl) ?_
  refine lv_iload_n S.1 S.2.1 dX3_hoursUntilExpired_2 rfl (lv_at hl 1 rfl) ?_
  refine cl_q hI (rnV (As := [.int (nI i)]) (rest := [.ref (gB G 0)]) S hI (c_findPromise l G _ hi hn hX) (cw_X3_X3_findPromise S.2.2.2.2 ⟨Nat.le_of_ble_eq_true rfl, Nat.le_of_ble_eq_true rfl⟩) (rcX hI) rfl hl.1 (Nat.le_of_ble_eq_true rfl) dX3_hoursUntilExpired_3 ⟨Nat.le_of_ble_eq_true rfl, Nat.le_of_ble_eq_true rfl⟩) (fun r1 σ1 H locs hq1 hI => ?_)
  obtain ⟨hr1, hs1⟩ := hq1
  rw [hs1] at hI
  rw [hr1]
  show W _ _ _ _ _ _ _ _ _ _ _ _ _ _ _ (F0 _ _ _ (.ref (gB G (15 + i)) :: _))
  refine gs_X3_EXPIRED S hI dX3_hoursUntilExpired_6 ?_
  refine cl_i hI (rnV (As := [.ref (gB G (15 + i)), .ref (gE G 5)]) (rest := []) S hI (c_hoursUntil l G _ hok hX (i := i) (by omega) (g := 5) (by decide)) (cw_X3_X3_hoursUntil S.2.2.2.2 ⟨Nat.le_of_ble_eq_true rfl, Nat.le_of_ble_eq_true rfl⟩) (rcX hI) rfl hl.1 (Nat.le_of_ble_eq_true rfl) dX3_hoursUntilExpired_9 ⟨Nat.le_of_ble_eq_true rfl, Nat.le_of_ble_eq_true rfl⟩) (fun r2 σ2 H locs hq2 hI => ?_)
  obtain ⟨hr2, hs2⟩ := hq2
  exact xt_i S hI hr hlk (⟨hr2, hs2⟩) (by decide) (by decide) dX3_hoursUntilExpired_12
set_option maxRecDepth 100000 in
set_option maxHeartbeats 4000000 in
theorem c_leftIn (l : Launch) (G : Gt) (σ : St) (hok : okP σ) {h : Nat} (h1 : 1 ≤ h) (hh100 : h ≤ 100) : Ct l G yX3_leftIn cX3_leftIn 7 (some .int) 6 0 0 [.ref (gB G 0), .int (nI h)] σ (Qi G (fun r σ' => r = sumN (leftF σ h) 20 ∧ Tr σ σ')) := by
  refine mt_intro (by decide +kernel) (Nat.le_of_ble_eq_true rfl) ?_
  intro p e s m below meth c S hr hlk hnm hI ls hl
  have hl : lv_has ls 7 [(0, .ref (gB G 0)), (1, .int (nI h))] := hl
  have loop : ∀ (n : Nat) (k : Nat) (σk : St), k + n = 20 → Tr σ σk → ∀ (H : Heap) (locs : List Loc), Iv G σk s H locs → ∀ ls : Array Slot, lv_has ls 7 [(0, .ref (gB G 0)), (1, .int (nI h)), (2, .int (sumN (leftF σ h) k)), (3, .ref (gB G 2)), (4, .int (nI 20)), (5, .int (nI k))] → W p l e (rm 6 0 0) s m ([.ref (gB G 0), .int (nI h)] : List Value).toArray below meth c H locs 0 0 (MQ below (Qi G (fun r σ' => r = sumN (leftF σ h) 20 ∧ Tr σ σ')) ([.ref (gB G 0), .int (nI h)] : List Value).toArray s 0 0 (gA G)) (F0 m 18 ls []) := by
    intro n
    induction n with
    | zero =>
      intro k σk hk0 ht H locs hI ls hl
      obtain rfl : k = 20 := by omega
      refine lv_iload S.1 S.2.1 dX3_leftIn_18 (lv_at hl 5 rfl) ?_
      refine lv_iload S.1 S.2.1 dX3_leftIn_20 (lv_at hl 4 rfl) ?_
      refine lv_icmp_ge (tgt := 50) S.1 S.2.1 dX3_leftIn_22 (by decide) (fun cz_22 => ?_) (fun c9 => absurd (nI_le (Nat.le_refl 20) (by omega)) c9)
      refine lv_iload_n S.1 S.2.1 dX3_leftIn_50 rfl (lv_at hl 2 rfl) ?_
      exact xt_i S hI hr hlk (⟨rfl, ht⟩) (by decide) (by decide) dX3_leftIn_51
    | succ n ih =>
      intro k σk hk0 ht H locs hI ls hl
      have hk2 : k < 20 := by omega
      refine lv_iload S.1 S.2.1 dX3_leftIn_18 (lv_at hl 5 rfl) ?_
      refine lv_iload S.1 S.2.1 dX3_leftIn_20 (lv_at hl 4 rfl) ?_
      refine lv_icmp_ge (tgt := 50) S.1 S.2.1 dX3_leftIn_22 (by decide) (fun c9 => absurd c9 (nI_ge hk2 (by omega))) (fun cz_22 => ?_)
      refine lv_aload_n S.1 S.2.1 dX3_leftIn_25 rfl (lv_at hl 3 rfl) ?_
      refine lv_iload S.1 S.2.1 dX3_leftIn_26 (lv_at hl 5 rfl) ?_
      refine a_PA S hI hk2 dX3_leftIn_28 ?_
      refine lv_astore (lv' := [(6, .ref (gB G (15 + k))), (0, .ref (gB G 0)), (1, .int (nI h)), (2, .int (sumN (leftF σ h) k)), (3, .ref (gB G 2)), (4, .int (nI 20)), (5, .int (nI k))]) S.1 S.2.1 dX3_leftIn_29 hl (by decide) rfl (fun ls hl => ?_)
      refine lv_aload_n S.1 S.2.1 dX3_leftIn_31 rfl (lv_at hl 1 rfl) ?_
      refine lv_aload S.1 S.2.1 dX3_leftIn_32 (lv_at hl 0 rfl) ?_
      refine lv_iload_n S.1 S.2.1 dX3_leftIn_34 rfl (lv_at hl 2 rfl) ?_
      refine cl_i hI (rnV (As := [.ref (gB G (15 + k)), .int (nI h)]) (rest := []) S hI (c_liesBehind l G σk (hok.tr ht) (xEta (gX σk)) (i := k) hk2 hh100) (cw_X3_X3_liesBehind S.2.2.2.2 ⟨Nat.le_of_ble_eq_true rfl, Nat.le_of_ble_eq_true rfl⟩) (rcX hI) rfl hl.1 (Nat.le_of_ble_eq_true rfl) dX3_leftIn_35 ⟨Nat.le_of_ble_eq_true rfl, Nat.le_of_ble_eq_true rfl⟩) (fun r1 σ1 H locs hq1 hI => ?_)
      obtain ⟨hr1, hs1⟩ := hq1
      refine lv_if_eq (tgt := 44) S.1 S.2.1 dX3_leftIn_38 (by decide) (fun cz_38 => ?_) (fun cz_38 => ?_)
      · refine lv_iinc (v := (nI (k + 1))) (lv' := [(5, .int (nI (k + 1))), (6, .ref (gB G (15 + k))), (0, .ref (gB G 0)), (1, .int (nI h)), (2, .int (sumN (leftF σ h) k)), (3, .ref (gB G 2)), (4, .int (nI 20))]) S.1 S.2.1 dX3_leftIn_44 hl (k := 6) rfl (nI_1 k) (by decide) rfl (fun ls hl => ?_)
        refine lv_goto (tgt := 18) S.1 S.2.1 dX3_leftIn_47 (by decide) ?_
        exact ih (k + 1) _ (by omega) (ht.trans hs1) _ _ hI ls (by rw [show sumN (leftF σ h) (k + 1) = (sumN (leftF σ h) k) from by rw [sumN_s, ← ht.leftF hok h hk2, ← hr1, cz_38, Int32.add_zero]]; exact lv_sub hl [2, 3, 4, 5, 6, 0] rfl)
      · refine lv_iinc (v := ((sumN (leftF σ h) k) + 1)) (lv' := [(2, .int ((sumN (leftF σ h) k) + 1)), (6, .ref (gB G (15 + k))), (0, .ref (gB G 0)), (1, .int (nI h)), (3, .ref (gB G 2)), (4, .int (nI 20)), (5, .int (nI k))]) S.1 S.2.1 dX3_leftIn_41 hl (k := 3) rfl rfl (by decide) rfl (fun ls hl => ?_)
        refine lv_iinc (v := (nI (k + 1))) (lv' := [(5, .int (nI (k + 1))), (2, .int ((sumN (leftF σ h) k) + 1)), (6, .ref (gB G (15 + k))), (0, .ref (gB G 0)), (1, .int (nI h)), (3, .ref (gB G 2)), (4, .int (nI 20))]) S.1 S.2.1 dX3_leftIn_44 hl (k := 6) rfl (nI_1 k) (by decide) rfl (fun ls hl => ?_)
        refine lv_goto (tgt := 18) S.1 S.2.1 dX3_leftIn_47 (by decide) ?_
        exact ih (k + 1) _ (by omega) (ht.trans hs1) _ _ hI ls (by rw [show sumN (leftF σ h) (k + 1) = ((sumN (leftF σ h) k) + 1) from by rw [sumN_s, ← ht.leftF hok h hk2, ← hr1, show r1 = 1 from (by rw [hr1] at cz_38 ⊢; exact (liesN_01 _ _ _ _).resolve_left cz_38)]]; exact lv_sub hl [3, 4, 1, 5, 6, 0] rfl)
  refine lv_iload_n S.1 S.2.1 dX3_leftIn_0 rfl (lv_at hl 1 rfl) ?_
  refine cl_v hI (rnS (As := [.int (nI h)]) (rest := []) S hI (c_checkHours l G _ h1 hh100) (cw_X3_X3_checkHours S.2.2.2.2 ⟨Nat.le_of_ble_eq_true rfl, Nat.le_of_ble_eq_true rfl⟩) rfl hl.1 (Nat.le_of_ble_eq_true rfl) dX3_leftIn_1 ⟨Nat.le_of_ble_eq_true rfl, Nat.le_of_ble_eq_true rfl⟩) (fun σ1 H locs hq1 hI => ?_)
  rw [hq1] at hI
  refine lv_iconst (v := 0) S.1 S.2.1 dX3_leftIn_4 (by decide) ?_
  refine lv_istore_n (lv' := [(2, .int 0), (0, .ref (gB G 0)), (1, .int (nI h))]) S.1 S.2.1 dX3_leftIn_5 rfl hl (by decide) rfl (fun ls hl => ?_)
  refine lv_aload_n S.1 S.2.1 dX3_leftIn_6 rfl (lv_at hl 1 rfl) ?_
  refine g_X3_X_promises S hI dX3_leftIn_7 ?_
  refine lv_astore_n (lv' := [(3, .ref (gB G 2)), (2, .int 0), (0, .ref (gB G 0)), (1, .int (nI h))]) S.1 S.2.1 dX3_leftIn_10 rfl hl (by decide) rfl (fun ls hl => ?_)
  refine lv_aload_n S.1 S.2.1 dX3_leftIn_11 rfl (lv_at hl 0 rfl) ?_
  refine n_PA S hI dX3_leftIn_12 ?_
  refine lv_istore (lv' := [(4, .int (nI 20)), (3, .ref (gB G 2)), (2, .int 0), (0, .ref (gB G 0)), (1, .int (nI h))]) S.1 S.2.1 dX3_leftIn_13 hl (by decide) rfl (fun ls hl => ?_)
  refine lv_iconst (v := (nI 0)) S.1 S.2.1 dX3_leftIn_15 (by rfl) ?_
  refine lv_istore (lv' := [(5, .int (nI 0)), (4, .int (nI 20)), (3, .ref (gB G 2)), (2, .int 0), (0, .ref (gB G 0)), (1, .int (nI h))]) S.1 S.2.1 dX3_leftIn_16 hl (by decide) rfl (fun ls hl => ?_)
  exact loop 20 0 σ rfl (Tr.rf σ) _ _ hI ls (lv_sub hl [4, 5, 3, 2, 1, 0] rfl)
set_option maxRecDepth 100000 in
set_option maxHeartbeats 4000000 in
theorem c_bestShelf (l : Launch) (G : Gt) (σ : St) {n0 : Nat} (hn0 : n0 ≤ 20) (hX : (gX σ).1 = nI n0) : Ct l G yX3_bestShelf cX3_bestShelf 8 (some .int) 6 0 0 [.ref (gB G 0)] σ (Qi G (fun r σ' => r = (if n0 < 20 then (bestF σ 5).1 else -1) ∧ Tr σ σ')) := by
  refine mt_intro (by decide +kernel) (Nat.le_of_ble_eq_true rfl) ?_
  intro p e s m below meth c S hr hlk hnm hI ls hl
  have hl : lv_has ls 8 [(0, .ref (gB G 0))] := hl
  rcases Nat.lt_or_ge n0 20 with hlt | hge
  · skip
    have loop : ∀ (n : Nat) (k : Nat) (σk : St), k + n = 5 → Tr σ σk → ∀ (H : Heap) (locs : List Loc), Iv G σk s H locs → ∀ ls : Array Slot, lv_has ls 8 [(0, .ref (gB G 0)), (1, .int ((bestF σ k).1)), (2, .int ((bestF σ k).2)), (3, .ref (gB G 1)), (4, .int (nI 5)), (5, .int (nI k))] → W p l e (rm 6 0 0) s m ([.ref (gB G 0)] : List Value).toArray below meth c H locs 0 0 (MQ below (Qi G (fun r σ' => r = (if n0 < 20 then (bestF σ 5).1 else -1) ∧ Tr σ σ')) ([.ref (gB G 0)] : List Value).toArray s 0 0 (gA G)) (F0 m 27 ls []) := by
      intro n
      induction n with
      | zero =>
        intro k σk hk0 ht H locs hI ls hl
        obtain rfl : k = 5 := by omega
        refine lv_iload S.1 S.2.1 dX3_bestShelf_27 (lv_at hl 5 rfl) ?_
        refine lv_iload S.1 S.2.1 dX3_bestShelf_29 (lv_at hl 4 rfl) ?_
        refine lv_icmp_ge (tgt := 72) S.1 S.2.1 dX3_bestShelf_31 (by decide) (fun cz_31 => ?_) (fun c9 => absurd (nI_le (Nat.le_refl 5) (by omega)) c9)
        refine lv_iload_n S.1 S.2.1 dX3_bestShelf_72 rfl (lv_at hl 1 rfl) ?_
        exact xt_i S hI hr hlk (⟨(if_pos hlt).symm, ht⟩) (by decide) (by decide) dX3_bestShelf_73
      | succ n ih =>
        intro k σk hk0 ht H locs hI ls hl
        have hk2 : k < 5 := by omega
        refine lv_iload S.1 S.2.1 dX3_bestShelf_27 (lv_at hl 5 rfl) ?_
        refine lv_iload S.1 S.2.1 dX3_bestShelf_29 (lv_at hl 4 rfl) ?_
        refine lv_icmp_ge (tgt := 72) S.1 S.2.1 dX3_bestShelf_31 (by decide) (fun c9 => absurd c9 (nI_ge hk2 (by omega))) (fun cz_31 => ?_)
        refine lv_aload_n S.1 S.2.1 dX3_bestShelf_34 rfl (lv_at hl 3 rfl) ?_
        refine lv_iload S.1 S.2.1 dX3_bestShelf_35 (lv_at hl 5 rfl) ?_
        refine a_SA S hI hk2 dX3_bestShelf_37 ?_
        refine lv_astore (lv' := [(6, .ref (gB G (9 + k))), (0, .ref (gB G 0)), (1, .int ((bestF σ k).1)), (2, .int ((bestF σ k).2)), (3, .ref (gB G 1)), (4, .int (nI 5)), (5, .int (nI k))]) S.1 S.2.1 dX3_bestShelf_38 hl (by decide) rfl (fun ls hl => ?_)
        refine lv_aload_n S.1 S.2.1 dX3_bestShelf_40 rfl (lv_at hl 1 rfl) ?_
        refine lv_aload S.1 S.2.1 dX3_bestShelf_41 (lv_at hl 0 rfl) ?_
        refine cl_i hI (rnV (As := [.ref (gB G (9 + k))]) (rest := []) S hI (c_freezeAnew l G σk (xEta (gX σk)) (j := k) hk2) (cw_X3_X3_hoursToFreezeAnew S.2.2.2.2 ⟨Nat.le_of_ble_eq_true rfl, Nat.le_of_ble_eq_true rfl⟩) (rcX hI) rfl hl.1 (Nat.le_of_ble_eq_true rfl) dX3_bestShelf_43 ⟨Nat.le_of_ble_eq_true rfl, Nat.le_of_ble_eq_true rfl⟩) (fun r1 σ1 H locs hq1 hI => ?_)
        obtain ⟨hr1, hs1⟩ := hq1
        rw [ht.S hk2, ht.X] at hr1
        rw [hr1]
        have hSk : gS σ1 k = ((gS σ1 k).1, (gS σ1 k).2) := rfl
        refine lv_istore (lv' := [(7, .int (freezeN (gX σ).2.2.2 (gS σ k))), (6, .ref (gB G (9 + k))), (0, .ref (gB G 0)), (1, .int ((bestF σ k).1)), (2, .int ((bestF σ k).2)), (3, .ref (gB G 1)), (4, .int (nI 5)), (5, .int (nI k))]) S.1 S.2.1 dX3_bestShelf_46 hl (by decide) rfl (fun ls hl => ?_)
        refine lv_iload S.1 S.2.1 dX3_bestShelf_48 (lv_at hl 0 rfl) ?_
        refine lv_iload_n S.1 S.2.1 dX3_bestShelf_50 rfl (lv_at hl 4 rfl) ?_
        refine cl_i hI (rnS (As := [.int (freezeN (gX σ).2.2.2 (gS σ k)), .int ((bestF σ k).2)]) (rest := []) S hI (c_isSooner l G _ (freezeN (gX σ).2.2.2 (gS σ k)) ((bestF σ k).2)) (cw_X3_X3_isSooner S.2.2.2.2 ⟨Nat.le_of_ble_eq_true rfl, Nat.le_of_ble_eq_true rfl⟩) rfl hl.1 (Nat.le_of_ble_eq_true rfl) dX3_bestShelf_51 ⟨Nat.le_of_ble_eq_true rfl, Nat.le_of_ble_eq_true rfl⟩) (fun r2 σ2 H locs hq2 hI => ?_)
        obtain ⟨hr2, hs2⟩ := hq2
        rw [hs2] at hI
        rw [hr2]
        refine lv_if_eq (tgt := 66) S.1 S.2.1 dX3_bestShelf_54 (by decide) (fun cz_54 => ?_) (fun cz_54 => ?_)
        · refine lv_iinc (v := (nI (k + 1))) (lv' := [(5, .int (nI (k + 1))), (7, .int (freezeN (gX σ).2.2.2 (gS σ k))), (6, .ref (gB G (9 + k))), (0, .ref (gB G 0)), (1, .int ((bestF σ k).1)), (2, .int ((bestF σ k).2)), (3, .ref (gB G 1)), (4, .int (nI 5))]) S.1 S.2.1 dX3_bestShelf_66 hl (k := 7) rfl (nI_1 k) (by decide) rfl (fun ls hl => ?_)
          refine lv_goto (tgt := 27) S.1 S.2.1 dX3_bestShelf_69 (by decide) ?_
          exact ih (k + 1) _ (by omega) (ht.trans hs1) _ _ hI ls (by rw [show bestF σ (k + 1) = bestF σ k from if_neg (ite01 cz_54)]; exact lv_sub hl [3, 4, 5, 6, 7, 0] rfl)
        · refine lv_aload S.1 S.2.1 dX3_bestShelf_57 (lv_at hl 1 rfl) ?_
          refine g_X3_S_number S hI (by omega) hSk dX3_bestShelf_59 ?_
          rw [show (if k < 5 then nI k else -1) = (nI k) from if_pos hk2]
          refine lv_istore_n (lv' := [(1, .int (nI k)), (7, .int (freezeN (gX σ).2.2.2 (gS σ k))), (6, .ref (gB G (9 + k))), (0, .ref (gB G 0)), (2, .int ((bestF σ k).2)), (3, .ref (gB G 1)), (4, .int (nI 5)), (5, .int (nI k))]) S.1 S.2.1 dX3_bestShelf_62 rfl hl (by decide) rfl (fun ls hl => ?_)
          refine lv_iload S.1 S.2.1 dX3_bestShelf_63 (lv_at hl 1 rfl) ?_
          refine lv_istore_n (lv' := [(2, .int (freezeN (gX σ).2.2.2 (gS σ k))), (1, .int (nI k)), (7, .int (freezeN (gX σ).2.2.2 (gS σ k))), (6, .ref (gB G (9 + k))), (0, .ref (gB G 0)), (3, .ref (gB G 1)), (4, .int (nI 5)), (5, .int (nI k))]) S.1 S.2.1 dX3_bestShelf_65 rfl hl (by decide) rfl (fun ls hl => ?_)
          refine lv_iinc (v := (nI (k + 1))) (lv' := [(5, .int (nI (k + 1))), (2, .int (freezeN (gX σ).2.2.2 (gS σ k))), (1, .int (nI k)), (7, .int (freezeN (gX σ).2.2.2 (gS σ k))), (6, .ref (gB G (9 + k))), (0, .ref (gB G 0)), (3, .ref (gB G 1)), (4, .int (nI 5))]) S.1 S.2.1 dX3_bestShelf_66 hl (k := 7) rfl (nI_1 k) (by decide) rfl (fun ls hl => ?_)
          refine lv_goto (tgt := 27) S.1 S.2.1 dX3_bestShelf_69 (by decide) ?_
          exact ih (k + 1) _ (by omega) (ht.trans hs1) _ _ hI ls (by rw [show bestF σ (k + 1) = (nI k, freezeN (gX σ).2.2.2 (gS σ k)) from if_pos (ite01n cz_54)]; exact lv_sub hl [5, 2, 1, 6, 7, 0] rfl)
    refine lv_aload_n S.1 S.2.1 dX3_bestShelf_0 rfl (lv_at hl 0 rfl) ?_
    refine g_X3_X_made S hI (xEta (gX σ)) dX3_bestShelf_1 ?_
    refine lv_bipush (v := 20) S.1 S.2.1 dX3_bestShelf_4 (by decide) ?_
    refine lv_icmp_lt (tgt := 11) S.1 S.2.1 dX3_bestShelf_6 (by decide) (fun cz_6 => ?_) (fun c9 => absurd (by rw [hX]; exact nI_lt (b := 20) hlt (by omega)) c9)
    refine lv_iconst (v := (-1)) S.1 S.2.1 dX3_bestShelf_11 (by decide) ?_
    refine lv_istore_n (lv' := [(1, .int (-1)), (0, .ref (gB G 0))]) S.1 S.2.1 dX3_bestShelf_12 rfl hl (by decide) rfl (fun ls hl => ?_)
    refine lv_iconst (v := (-1)) S.1 S.2.1 dX3_bestShelf_13 (by decide) ?_
    refine lv_istore_n (lv' := [(2, .int (-1)), (1, .int (-1)), (0, .ref (gB G 0))]) S.1 S.2.1 dX3_bestShelf_14 rfl hl (by decide) rfl (fun ls hl => ?_)
    refine lv_aload_n S.1 S.2.1 dX3_bestShelf_15 rfl (lv_at hl 2 rfl) ?_
    refine g_X3_X_shelves S hI dX3_bestShelf_16 ?_
    refine lv_astore_n (lv' := [(3, .ref (gB G 1)), (2, .int (-1)), (1, .int (-1)), (0, .ref (gB G 0))]) S.1 S.2.1 dX3_bestShelf_19 rfl hl (by decide) rfl (fun ls hl => ?_)
    refine lv_aload_n S.1 S.2.1 dX3_bestShelf_20 rfl (lv_at hl 0 rfl) ?_
    refine n_SA S hI dX3_bestShelf_21 ?_
    refine lv_istore (lv' := [(4, .int (nI 5)), (3, .ref (gB G 1)), (2, .int (-1)), (1, .int (-1)), (0, .ref (gB G 0))]) S.1 S.2.1 dX3_bestShelf_22 hl (by decide) rfl (fun ls hl => ?_)
    refine lv_iconst (v := (nI 0)) S.1 S.2.1 dX3_bestShelf_24 (by rfl) ?_
    refine lv_istore (lv' := [(5, .int (nI 0)), (4, .int (nI 5)), (3, .ref (gB G 1)), (2, .int (-1)), (1, .int (-1)), (0, .ref (gB G 0))]) S.1 S.2.1 dX3_bestShelf_25 hl (by decide) rfl (fun ls hl => ?_)
    exact loop 5 0 σ rfl (Tr.rf σ) _ _ hI ls (lv_sub hl [5, 4, 3, 2, 1, 0] rfl)
  · skip
    refine lv_aload_n S.1 S.2.1 dX3_bestShelf_0 rfl (lv_at hl 0 rfl) ?_
    refine g_X3_X_made S hI (xEta (gX σ)) dX3_bestShelf_1 ?_
    refine lv_bipush (v := 20) S.1 S.2.1 dX3_bestShelf_4 (by decide) ?_
    refine lv_icmp_lt (tgt := 11) S.1 S.2.1 dX3_bestShelf_6 (by decide) (fun c9 => absurd c9 (by rw [hX]; exact nI_nlt (a := n0) (b := 20) hge (by omega))) (fun cz_6 => ?_)
    refine lv_iconst (v := (-1)) S.1 S.2.1 dX3_bestShelf_9 (by decide) ?_
    exact xt_i S hI hr hlk (⟨(if_neg (by omega)).symm, Tr.rf σ⟩) (by decide) (by decide) dX3_bestShelf_10
set_option maxRecDepth 100000 in
set_option maxHeartbeats 4000000 in
theorem c_hoursOfCold (l : Launch) (G : Gt) (σ : St) (hok : okP σ) : Ct l G yX3_hoursOfCold cX3_hoursOfCold 7 (some .int) 6 0 0 [.ref (gB G 0)] σ (Qi G (fun r σ' => r = ocF σ 20 ∧ Tr σ σ')) := by
  refine mt_intro (by decide +kernel) (Nat.le_of_ble_eq_true rfl) ?_
  intro p e s m below meth c S hr hlk hnm hI ls hl
  have hl : lv_has ls 7 [(0, .ref (gB G 0))] := hl
  have loop : ∀ (n : Nat) (k : Nat) (σk : St), k + n = 20 → Tr σ σk → ∀ (H : Heap) (locs : List Loc), Iv G σk s H locs → ∀ ls : Array Slot, lv_has ls 7 [(0, .ref (gB G 0)), (1, .int (ocF σ k)), (2, .ref (gB G 2)), (3, .int (nI 20)), (4, .int (nI k))] → W p l e (rm 6 0 0) s m ([.ref (gB G 0)] : List Value).toArray below meth c H locs 0 0 (MQ below (Qi G (fun r σ' => r = ocF σ 20 ∧ Tr σ σ')) ([.ref (gB G 0)] : List Value).toArray s 0 0 (gA G)) (F0 m 13 ls []) := by
    intro n
    induction n with
    | zero =>
      intro k σk hk0 ht H locs hI ls hl
      obtain rfl : k = 20 := by omega
      refine lv_iload S.1 S.2.1 dX3_hoursOfCold_13 (lv_at hl 4 rfl) ?_
      refine lv_iload_n S.1 S.2.1 dX3_hoursOfCold_15 rfl (lv_at hl 3 rfl) ?_
      refine lv_icmp_ge (tgt := 51) S.1 S.2.1 dX3_hoursOfCold_16 (by decide) (fun cz_16 => ?_) (fun c9 => absurd (nI_le (Nat.le_refl 20) (by omega)) c9)
      refine lv_iload_n S.1 S.2.1 dX3_hoursOfCold_51 rfl (lv_at hl 1 rfl) ?_
      exact xt_i S hI hr hlk (⟨rfl, ht⟩) (by decide) (by decide) dX3_hoursOfCold_52
    | succ n ih =>
      intro k σk hk0 ht H locs hI ls hl
      have hk2 : k < 20 := by omega
      refine lv_iload S.1 S.2.1 dX3_hoursOfCold_13 (lv_at hl 4 rfl) ?_
      refine lv_iload_n S.1 S.2.1 dX3_hoursOfCold_15 rfl (lv_at hl 3 rfl) ?_
      refine lv_icmp_ge (tgt := 51) S.1 S.2.1 dX3_hoursOfCold_16 (by decide) (fun c9 => absurd c9 (nI_ge hk2 (by omega))) (fun cz_16 => ?_)
      refine lv_aload_n S.1 S.2.1 dX3_hoursOfCold_19 rfl (lv_at hl 2 rfl) ?_
      refine lv_iload S.1 S.2.1 dX3_hoursOfCold_20 (lv_at hl 4 rfl) ?_
      refine a_PA S hI hk2 dX3_hoursOfCold_22 ?_
      refine lv_astore (lv' := [(5, .ref (gB G (15 + k))), (0, .ref (gB G 0)), (1, .int (ocF σ k)), (2, .ref (gB G 2)), (3, .int (nI 20)), (4, .int (nI k))]) S.1 S.2.1 dX3_hoursOfCold_23 hl (by decide) rfl (fun ls hl => ?_)
      refine lv_aload_n S.1 S.2.1 dX3_hoursOfCold_25 rfl (lv_at hl 1 rfl) ?_
      refine lv_aload S.1 S.2.1 dX3_hoursOfCold_26 (lv_at hl 0 rfl) ?_
      refine cl_i hI (rnV (As := [.ref (gB G (15 + k))]) (rest := []) S hI (c_alarmN l G σk (hok.tr ht) (i := k) hk2) (cw_X3_X3_hoursToAlarmWithoutPower S.2.2.2.2 ⟨Nat.le_of_ble_eq_true rfl, Nat.le_of_ble_eq_true rfl⟩) (rcX hI) rfl hl.1 (Nat.le_of_ble_eq_true rfl) dX3_hoursOfCold_28 ⟨Nat.le_of_ble_eq_true rfl, Nat.le_of_ble_eq_true rfl⟩) (fun r1 σ1 H locs hq1 hI => ?_)
      obtain ⟨hr1, hs1⟩ := hq1
      rw [ht.alarmN hok hk2] at hr1
      rw [hr1]
      refine lv_istore (lv' := [(6, .int (alarmN (gS σ (gP σ k).2.1) (gP σ k))), (5, .ref (gB G (15 + k))), (0, .ref (gB G 0)), (1, .int (ocF σ k)), (2, .ref (gB G 2)), (3, .int (nI 20)), (4, .int (nI k))]) S.1 S.2.1 dX3_hoursOfCold_31 hl (by decide) rfl (fun ls hl => ?_)
      refine lv_iload S.1 S.2.1 dX3_hoursOfCold_33 (lv_at hl 0 rfl) ?_
      refine lv_iload_n S.1 S.2.1 dX3_hoursOfCold_35 rfl (lv_at hl 3 rfl) ?_
      refine cl_i hI (rnS (As := [.int (alarmN (gS σ (gP σ k).2.1) (gP σ k)), .int (ocF σ k)]) (rest := []) S hI (c_isSooner l G _ (alarmN (gS σ (gP σ k).2.1) (gP σ k)) (ocF σ k)) (cw_X3_X3_isSooner S.2.2.2.2 ⟨Nat.le_of_ble_eq_true rfl, Nat.le_of_ble_eq_true rfl⟩) rfl hl.1 (Nat.le_of_ble_eq_true rfl) dX3_hoursOfCold_36 ⟨Nat.le_of_ble_eq_true rfl, Nat.le_of_ble_eq_true rfl⟩) (fun r2 σ2 H locs hq2 hI => ?_)
      obtain ⟨hr2, hs2⟩ := hq2
      rw [hs2] at hI
      rw [hr2]
      refine lv_if_eq (tgt := 45) S.1 S.2.1 dX3_hoursOfCold_39 (by decide) (fun cz_39 => ?_) (fun cz_39 => ?_)
      · refine lv_iinc (v := (nI (k + 1))) (lv' := [(4, .int (nI (k + 1))), (6, .int (alarmN (gS σ (gP σ k).2.1) (gP σ k))), (5, .ref (gB G (15 + k))), (0, .ref (gB G 0)), (1, .int (ocF σ k)), (2, .ref (gB G 2)), (3, .int (nI 20))]) S.1 S.2.1 dX3_hoursOfCold_45 hl (k := 6) rfl (nI_1 k) (by decide) rfl (fun ls hl => ?_)
        refine lv_goto (tgt := 13) S.1 S.2.1 dX3_hoursOfCold_48 (by decide) ?_
        exact ih (k + 1) _ (by omega) (ht.trans hs1) _ _ hI ls (by rw [show ocF σ (k + 1) = ocF σ k from if_neg (ite01 cz_39)]; exact lv_sub hl [3, 4, 5, 6, 0] rfl)
      · refine lv_iload S.1 S.2.1 dX3_hoursOfCold_42 (lv_at hl 0 rfl) ?_
        refine lv_istore_n (lv' := [(1, .int (alarmN (gS σ (gP σ k).2.1) (gP σ k))), (6, .int (alarmN (gS σ (gP σ k).2.1) (gP σ k))), (5, .ref (gB G (15 + k))), (0, .ref (gB G 0)), (2, .ref (gB G 2)), (3, .int (nI 20)), (4, .int (nI k))]) S.1 S.2.1 dX3_hoursOfCold_44 rfl hl (by decide) rfl (fun ls hl => ?_)
        refine lv_iinc (v := (nI (k + 1))) (lv' := [(4, .int (nI (k + 1))), (1, .int (alarmN (gS σ (gP σ k).2.1) (gP σ k))), (6, .int (alarmN (gS σ (gP σ k).2.1) (gP σ k))), (5, .ref (gB G (15 + k))), (0, .ref (gB G 0)), (2, .ref (gB G 2)), (3, .int (nI 20))]) S.1 S.2.1 dX3_hoursOfCold_45 hl (k := 6) rfl (nI_1 k) (by decide) rfl (fun ls hl => ?_)
        refine lv_goto (tgt := 13) S.1 S.2.1 dX3_hoursOfCold_48 (by decide) ?_
        exact ih (k + 1) _ (by omega) (ht.trans hs1) _ _ hI ls (by rw [show ocF σ (k + 1) = (alarmN (gS σ (gP σ k).2.1) (gP σ k)) from if_pos (ite01n cz_39)]; exact lv_sub hl [4, 1, 5, 6, 0] rfl)
  refine lv_iconst (v := (-1)) S.1 S.2.1 dX3_hoursOfCold_0 (by decide) ?_
  refine lv_istore_n (lv' := [(1, .int (-1)), (0, .ref (gB G 0))]) S.1 S.2.1 dX3_hoursOfCold_1 rfl hl (by decide) rfl (fun ls hl => ?_)
  refine lv_aload_n S.1 S.2.1 dX3_hoursOfCold_2 rfl (lv_at hl 1 rfl) ?_
  refine g_X3_X_promises S hI dX3_hoursOfCold_3 ?_
  refine lv_astore_n (lv' := [(2, .ref (gB G 2)), (1, .int (-1)), (0, .ref (gB G 0))]) S.1 S.2.1 dX3_hoursOfCold_6 rfl hl (by decide) rfl (fun ls hl => ?_)
  refine lv_aload_n S.1 S.2.1 dX3_hoursOfCold_7 rfl (lv_at hl 0 rfl) ?_
  refine n_PA S hI dX3_hoursOfCold_8 ?_
  refine lv_istore_n (lv' := [(3, .int (nI 20)), (2, .ref (gB G 2)), (1, .int (-1)), (0, .ref (gB G 0))]) S.1 S.2.1 dX3_hoursOfCold_9 rfl hl (by decide) rfl (fun ls hl => ?_)
  refine lv_iconst (v := (nI 0)) S.1 S.2.1 dX3_hoursOfCold_10 (by rfl) ?_
  refine lv_istore (lv' := [(4, .int (nI 0)), (3, .int (nI 20)), (2, .ref (gB G 2)), (1, .int (-1)), (0, .ref (gB G 0))]) S.1 S.2.1 dX3_hoursOfCold_11 hl (by decide) rfl (fun ls hl => ?_)
  exact loop 20 0 σ rfl (Tr.rf σ) _ _ hI ls (lv_sub hl [4, 3, 2, 1, 0] rfl)
end
section
theorem sumN_congr {f g : Nat → Int32} {k : Nat} (h : ∀ i, i < k → f i = g i) : sumN f k = sumN g k := by
  induction k with
  | zero => rfl
  | succ k ih => rw [sumN_s, sumN_s, ih (fun i hi => h i (by omega)), h k (by omega)]
theorem Tr.onF {σ σ' : St} (t : Tr σ σ') (k : Nat) : onF σ' k = onF σ k := sumN_congr (fun i hi => by rw [t.P hi])
theorem Tr.owF {σ σ' : St} (t : Tr σ σ') (a : Int32) : owF σ' a = owF σ a := sumN_congr (fun i hi => by rw [t.P hi])
theorem Tr.cntF {σ σ' : St} (t : Tr σ σ') (a : Int32) (g : Nat) : cntF σ' a g = cntF σ a g := sumN_congr (fun i hi => by rw [t.P hi])
theorem Tr.honF {σ σ' : St} (t : Tr σ σ') (a : Nat) : honF σ' a = honF σ a := (congrArg (fun z => z - _) (t.cntF (nI a) 4)).trans (congrArg (fun z => _ - z) (t.cntF (nI a) 5))
theorem Tr.ocF {σ σ' : St} (hok : okP σ) (t : Tr σ σ') {k : Nat} (hk : k ≤ 20) : ocF σ' k = ocF σ k := by
  induction k with
  | zero => rfl
  | succ k ih =>
    show (if _ then _ else _) = (if _ then _ else _)
    rw [ih (by omega), t.alarmN hok (by omega)]
def dgS (σ : St) (d0 : Int64) : Nat → Int64
  | 0 => d0
  | k + 1 => ((dgS σ d0 k * 31 + (gS σ k).1.toInt64) * 31 + (gS σ k).2.toInt64) * 31 + (onF σ k).toInt64
def shI (s : Nat) : Int32 := if s < 5 then nI s else -1
def isI (x : Pr) (g : Nat) : Int32 := if x.1 = g then 1 else 0
theorem isI_01 (x : Pr) (g : Nat) : isI x g = 0 ∨ isI x g = 1 := by unfold isI; split <;> first | exact Or.inl rfl | exact Or.inr rfl
def dgP1 (x : Pr) (d : Int64) : Int64 := ((((((((d * 31 + x.2.2.1.toInt64) * 31 + (shI x.2.1).toInt64) * 31 + x.2.2.2.2.2.toInt64) * 31 + x.2.2.2.2.1.toInt64) * 31 + (x.2.2.2.1 - x.2.2.2.2.1).toInt64) * 31 + (isI x 2).toInt64) * 31 + (isI x 3).toInt64) * 31 + (isI x 4).toInt64) * 31 + (isI x 5).toInt64
def dgP (σ : St) (d0 : Int64) : Nat → Int64
  | 0 => d0
  | k + 1 => dgP1 (gP σ k) (dgP σ d0 k)
def dgM (σ : St) (d0 : Int64) : Nat → Int64
  | 0 => d0
  | k + 1 => (dgM σ d0 k * 31 + (owF σ (nI k)).toInt64) * 31 + (honF σ k).toInt64
theorem Tr.dgS {σ σ' : St} (t : Tr σ σ') (d0 : Int64) {k : Nat} (hk : k ≤ 5) : dgS σ' d0 k = dgS σ d0 k := by
  induction k with
  | zero => rfl
  | succ k ih =>
    show ((_ * 31 + _) * 31 + _) * 31 + _ = ((_ * 31 + _) * 31 + _) * 31 + _
    rw [ih (by omega), t.S (by omega), t.onF]
theorem Tr.dgP {σ σ' : St} (t : Tr σ σ') (d0 : Int64) {k : Nat} (hk : k ≤ 20) : dgP σ' d0 k = dgP σ d0 k := by
  induction k with
  | zero => rfl
  | succ k ih =>
    show dgP1 _ _ = dgP1 _ _
    rw [ih (by omega), t.P (by omega)]
theorem Tr.dgM {σ σ' : St} (t : Tr σ σ') (d0 : Int64) (k : Nat) : dgM σ' d0 k = dgM σ d0 k := by
  induction k with
  | zero => rfl
  | succ k ih =>
    show (_ * 31 + _) * 31 + _ = (_ * 31 + _) * 31 + _
    rw [ih, t.owF, t.honF]
def digF (σ : St) (n : Nat) : Int64 := dgM σ (dgP σ (dgS σ ((((((((2017 * 31 + (gX σ).2.2.1.toInt64) * 31 + (gX σ).2.2.2.toInt64) * 31 + (gX σ).2.1.toInt64) * 31 + (nI n).toInt64) * 31 + (nI (coldF σ 4)).toInt64) * 31 + (nI (mostF σ 5)).toInt64) * 31 + (if n < 20 then (bestF σ 5).1 else -1).toInt64) * 31 + (ocF σ 20).toInt64) 5) n) 6
set_option maxRecDepth 100000 in
set_option maxHeartbeats 4000000 in
theorem c_withShelves (l : Launch) (G : Gt) (σ : St) (d0 : Int64) : Ct l G yX3_withShelves cX3_withShelves 6 (some .long) 4 0 0 [.ref (gB G 0), .long d0] σ (Ql G (fun r σ' => r = dgS σ d0 5 ∧ σ' = σ)) := by
  refine mt_intro (by decide +kernel) (Nat.le_of_ble_eq_true rfl) ?_
  intro p e s m below meth c S hr hlk hnm hI ls hl
  have hl : lv_has ls 6 [(0, .ref (gB G 0)), (1, .long d0)] := hl
  have loop : ∀ (n1 : Nat) (k : Nat), k + n1 = 5 → ∀ (H : Heap) (locs : List Loc), Iv G σ s H locs → ∀ ls : Array Slot, lv_has ls 6 [(0, .ref (gB G 0)), (3, .long (dgS σ d0 k)), (5, .int (nI k))] → W p l e (rm 4 0 0) s m ([.ref (gB G 0), .long d0] : List Value).toArray below meth c H locs 0 0 (MQ below (Ql G (fun r σ' => r = dgS σ d0 5 ∧ σ' = σ)) ([.ref (gB G 0), .long d0] : List Value).toArray s 0 0 (gA G)) (F0 m 5 ls []) := by
    intro n1
    induction n1 with
    | zero =>
      intro k hk0 H locs hI ls hl
      obtain rfl : k = 5 := by omega
      refine lv_iload S.1 S.2.1 dX3_withShelves_5 (lv_at hl 2 rfl) ?_
      refine lv_iconst (v := 5) S.1 S.2.1 dX3_withShelves_7 (by decide) ?_
      refine lv_icmp_ge (tgt := 59) S.1 S.2.1 dX3_withShelves_8 (by decide) (fun cz_8 => ?_) (fun c9 => absurd (nI_le (a := 5) (b := 5) (Nat.le_refl 5) (by omega)) c9)
      refine lv_lload_n S.1 S.2.1 dX3_withShelves_59 rfl (lv_at hl 1 rfl) ?_
      exact xt_l S hI hr hlk (⟨rfl, rfl⟩) (by decide) (by decide) dX3_withShelves_60
    | succ n1 ih =>
      intro k hk0 H locs hI ls hl
      have hk2 : k < 5 := by omega
      refine lv_iload S.1 S.2.1 dX3_withShelves_5 (lv_at hl 2 rfl) ?_
      refine lv_iconst (v := 5) S.1 S.2.1 dX3_withShelves_7 (by decide) ?_
      refine lv_icmp_ge (tgt := 59) S.1 S.2.1 dX3_withShelves_8 (by decide) (fun c9 => absurd c9 (nI_ge (b := 5) hk2 (by omega))) (fun cz_8 => ?_)
      refine lv_lload_n S.1 S.2.1 dX3_withShelves_11 rfl (lv_at hl 1 rfl) ?_
      refine ld_X3_31 S dX3_withShelves_12 ?_
      refine lv_lmul S.1 S.2.1 dX3_withShelves_15 ?_
      refine lv_aload_n S.1 S.2.1 dX3_withShelves_16 rfl (lv_at hl 0 rfl) ?_
      refine lv_iload S.1 S.2.1 dX3_withShelves_17 (lv_at hl 2 rfl) ?_
      refine cl_i hI (rnV (As := [.int (nI k)]) (rest := [.long ((dgS σ d0 k) * 31)]) S hI (c_settingOf l G _ (k := k) hk2) (cw_X3_X3_settingOf S.2.2.2.2 ⟨Nat.le_of_ble_eq_true rfl, Nat.le_of_ble_eq_true rfl⟩) (rcX hI) rfl hl.1 (Nat.le_of_ble_eq_true rfl) dX3_withShelves_19 ⟨Nat.le_of_ble_eq_true rfl, Nat.le_of_ble_eq_true rfl⟩) (fun r1 σ1 H locs hq1 hI => ?_)
      obtain ⟨hr1, hs1⟩ := hq1
      rw [hs1] at hI
      rw [hr1]
      refine lv_i2l (v := ((gS σ k).1).toInt64) S.1 S.2.1 dX3_withShelves_22 rfl ?_
      refine lv_ladd S.1 S.2.1 dX3_withShelves_23 ?_
      refine lv_lstore_n (lv' := [(3, .long (((dgS σ d0 k) * 31) + ((gS σ k).1).toInt64)), (0, .ref (gB G 0)), (5, .int (nI k))]) S.1 S.2.1 dX3_withShelves_24 rfl hl (by decide) rfl (fun ls hl => ?_)
      refine lv_lload_n S.1 S.2.1 dX3_withShelves_25 rfl (lv_at hl 0 rfl) ?_
      refine ld_X3_31 S dX3_withShelves_26 ?_
      refine lv_lmul S.1 S.2.1 dX3_withShelves_29 ?_
      refine lv_aload_n S.1 S.2.1 dX3_withShelves_30 rfl (lv_at hl 1 rfl) ?_
      refine lv_iload S.1 S.2.1 dX3_withShelves_31 (lv_at hl 2 rfl) ?_
      refine cl_i hI (rnV (As := [.int (nI k)]) (rest := [.long ((((dgS σ d0 k) * 31) + ((gS σ k).1).toInt64) * 31)]) S hI (c_heatOn l G _ (k := k) hk2) (cw_X3_X3_heatOn S.2.2.2.2 ⟨Nat.le_of_ble_eq_true rfl, Nat.le_of_ble_eq_true rfl⟩) (rcX hI) rfl hl.1 (Nat.le_of_ble_eq_true rfl) dX3_withShelves_33 ⟨Nat.le_of_ble_eq_true rfl, Nat.le_of_ble_eq_true rfl⟩) (fun r2 σ2 H locs hq2 hI => ?_)
      obtain ⟨hr2, hs2⟩ := hq2
      rw [hs2] at hI
      rw [hr2]
      refine lv_i2l (v := ((gS σ k).2).toInt64) S.1 S.2.1 dX3_withShelves_36 rfl ?_
      refine lv_ladd S.1 S.2.1 dX3_withShelves_37 ?_
      refine lv_lstore_n (lv' := [(3, .long (((((dgS σ d0 k) * 31) + ((gS σ k).1).toInt64) * 31) + ((gS σ k).2).toInt64)), (0, .ref (gB G 0)), (5, .int (nI k))]) S.1 S.2.1 dX3_withShelves_38 rfl hl (by decide) rfl (fun ls hl => ?_)
      refine lv_lload_n S.1 S.2.1 dX3_withShelves_39 rfl (lv_at hl 0 rfl) ?_
      refine ld_X3_31 S dX3_withShelves_40 ?_
      refine lv_lmul S.1 S.2.1 dX3_withShelves_43 ?_
      refine lv_aload_n S.1 S.2.1 dX3_withShelves_44 rfl (lv_at hl 1 rfl) ?_
      refine lv_iload S.1 S.2.1 dX3_withShelves_45 (lv_at hl 2 rfl) ?_
      refine cl_i hI (rnV (As := [.int (nI k)]) (rest := [.long ((((((dgS σ d0 k) * 31) + ((gS σ k).1).toInt64) * 31) + ((gS σ k).2).toInt64) * 31)]) S hI (c_promisesOn l G _ (k9 := k) hk2) (cw_X3_X3_promisesOn S.2.2.2.2 ⟨Nat.le_of_ble_eq_true rfl, Nat.le_of_ble_eq_true rfl⟩) (rcX hI) rfl hl.1 (Nat.le_of_ble_eq_true rfl) dX3_withShelves_47 ⟨Nat.le_of_ble_eq_true rfl, Nat.le_of_ble_eq_true rfl⟩) (fun r3 σ3 H locs hq3 hI => ?_)
      obtain ⟨hr3, hs3⟩ := hq3
      rw [hs3] at hI
      rw [hr3]
      refine lv_i2l (v := (onF σ k).toInt64) S.1 S.2.1 dX3_withShelves_50 rfl ?_
      refine lv_ladd S.1 S.2.1 dX3_withShelves_51 ?_
      refine lv_lstore_n (lv' := [(3, .long (((((((dgS σ d0 k) * 31) + ((gS σ k).1).toInt64) * 31) + ((gS σ k).2).toInt64) * 31) + (onF σ k).toInt64)), (0, .ref (gB G 0)), (5, .int (nI k))]) S.1 S.2.1 dX3_withShelves_52 rfl hl (by decide) rfl (fun ls hl => ?_)
      refine lv_iinc (v := (nI (k + 1))) (lv' := [(5, .int (nI (k + 1))), (3, .long (((((((dgS σ d0 k) * 31) + ((gS σ k).1).toInt64) * 31) + ((gS σ k).2).toInt64) * 31) + (onF σ k).toInt64)), (0, .ref (gB G 0))]) S.1 S.2.1 dX3_withShelves_53 hl (k := 2) rfl (nI_1 k) (by decide) rfl (fun ls hl => ?_)
      refine lv_goto (tgt := 5) S.1 S.2.1 dX3_withShelves_56 (by decide) ?_
      exact ih (k + 1) (by omega) _ _ hI ls (by rw [show dgS σ d0 (k + 1) = (((((((dgS σ d0 k) * 31) + ((gS σ k).1).toInt64) * 31) + ((gS σ k).2).toInt64) * 31) + (onF σ k).toInt64) from rfl]; exact lv_sub hl [2, 1, 0] rfl)
  refine lv_lload_n S.1 S.2.1 dX3_withShelves_0 rfl (lv_at hl 1 rfl) ?_
  refine lv_lstore_n (lv' := [(3, .long d0), (0, .ref (gB G 0)), (1, .long d0)]) S.1 S.2.1 dX3_withShelves_1 rfl hl (by decide) rfl (fun ls hl => ?_)
  refine lv_iconst (v := (nI 0)) S.1 S.2.1 dX3_withShelves_2 (by rfl) ?_
  refine lv_istore (lv' := [(5, .int (nI 0)), (3, .long d0), (0, .ref (gB G 0)), (1, .long d0)]) S.1 S.2.1 dX3_withShelves_3 hl (by decide) rfl (fun ls hl => ?_)
  exact loop 5 0 (by omega) _ _ hI ls (lv_sub hl [2, 1, 0] rfl)
set_option maxRecDepth 100000 in
set_option maxHeartbeats 4000000 in
theorem c_withPromises (l : Launch) (G : Gt) (σ : St) (d0 : Int64) (hok : okP σ) {n : Nat} (hn : n ≤ 20) {ar hh pw : Int32} (hX : gX σ = (nI n, ar, hh, pw)) : Ct l G yX3_withPromises cX3_withPromises 6 (some .long) 4 0 0 [.ref (gB G 0), .long d0] σ (Ql G (fun r σ' => r = dgP σ d0 n ∧ σ' = σ)) := by
  refine mt_intro (by decide +kernel) (Nat.le_of_ble_eq_true rfl) ?_
  intro p e s m below meth c S hr hlk hnm hI ls hl
  have hl : lv_has ls 6 [(0, .ref (gB G 0)), (1, .long d0)] := hl
  have loop : ∀ (n1 : Nat) (k : Nat), k + n1 = n → ∀ (H : Heap) (locs : List Loc), Iv G σ s H locs → ∀ ls : Array Slot, lv_has ls 6 [(0, .ref (gB G 0)), (3, .long (dgP σ d0 k)), (5, .int (nI k))] → W p l e (rm 4 0 0) s m ([.ref (gB G 0), .long d0] : List Value).toArray below meth c H locs 0 0 (MQ below (Ql G (fun r σ' => r = dgP σ d0 n ∧ σ' = σ)) ([.ref (gB G 0), .long d0] : List Value).toArray s 0 0 (gA G)) (F0 m 5 ls []) := by
    intro n1
    induction n1 with
    | zero =>
      intro k hk0 H locs hI ls hl
      obtain rfl : k = n := by omega
      refine lv_iload S.1 S.2.1 dX3_withPromises_5 (lv_at hl 2 rfl) ?_
      refine lv_aload_n S.1 S.2.1 dX3_withPromises_7 rfl (lv_at hl 0 rfl) ?_
      refine g_X3_X_made S hI hX dX3_withPromises_8 ?_
      refine lv_icmp_ge (tgt := 158) S.1 S.2.1 dX3_withPromises_11 (by decide) (fun cz_11 => ?_) (fun c9 => absurd (nI_le (Nat.le_refl k) (by omega)) c9)
      refine lv_lload_n S.1 S.2.1 dX3_withPromises_158 rfl (lv_at hl 1 rfl) ?_
      exact xt_l S hI hr hlk (⟨rfl, rfl⟩) (by decide) (by decide) dX3_withPromises_159
    | succ n1 ih =>
      intro k hk0 H locs hI ls hl
      have hk2 : k < n := by omega
      refine lv_iload S.1 S.2.1 dX3_withPromises_5 (lv_at hl 2 rfl) ?_
      refine lv_aload_n S.1 S.2.1 dX3_withPromises_7 rfl (lv_at hl 0 rfl) ?_
      refine g_X3_X_made S hI hX dX3_withPromises_8 ?_
      refine lv_icmp_ge (tgt := 158) S.1 S.2.1 dX3_withPromises_11 (by decide) (fun c9 => absurd c9 (nI_ge hk2 (by omega))) (fun cz_11 => ?_)
      refine lv_lload_n S.1 S.2.1 dX3_withPromises_14 rfl (lv_at hl 1 rfl) ?_
      refine ld_X3_31 S dX3_withPromises_15 ?_
      refine lv_lmul S.1 S.2.1 dX3_withPromises_18 ?_
      refine lv_aload_n S.1 S.2.1 dX3_withPromises_19 rfl (lv_at hl 0 rfl) ?_
      refine lv_iload S.1 S.2.1 dX3_withPromises_20 (lv_at hl 2 rfl) ?_
      refine cl_i hI (rnV (As := [.int (nI k)]) (rest := [.long ((dgP σ d0 k) * 31)]) S hI (c_makerOf l G _ (i := k) hk2 hn hX) (cw_X3_X3_makerOf S.2.2.2.2 ⟨Nat.le_of_ble_eq_true rfl, Nat.le_of_ble_eq_true rfl⟩) (rcX hI) rfl hl.1 (Nat.le_of_ble_eq_true rfl) dX3_withPromises_22 ⟨Nat.le_of_ble_eq_true rfl, Nat.le_of_ble_eq_true rfl⟩) (fun r1 σ1 H locs hq1 hI => ?_)
      obtain ⟨hr1, hs1⟩ := hq1
      rw [hs1] at hI
      rw [hr1]
      refine lv_i2l (v := ((gP σ k).2.2.1).toInt64) S.1 S.2.1 dX3_withPromises_25 rfl ?_
      refine lv_ladd S.1 S.2.1 dX3_withPromises_26 ?_
      refine lv_lstore_n (lv' := [(3, .long (((dgP σ d0 k) * 31) + ((gP σ k).2.2.1).toInt64)), (0, .ref (gB G 0)), (5, .int (nI k))]) S.1 S.2.1 dX3_withPromises_27 rfl hl (by decide) rfl (fun ls hl => ?_)
      refine lv_lload_n S.1 S.2.1 dX3_withPromises_28 rfl (lv_at hl 0 rfl) ?_
      refine ld_X3_31 S dX3_withPromises_29 ?_
      refine lv_lmul S.1 S.2.1 dX3_withPromises_32 ?_
      refine lv_aload_n S.1 S.2.1 dX3_withPromises_33 rfl (lv_at hl 1 rfl) ?_
      refine lv_iload S.1 S.2.1 dX3_withPromises_34 (lv_at hl 2 rfl) ?_
      refine cl_i hI (rnV (As := [.int (nI k)]) (rest := [.long ((((dgP σ d0 k) * 31) + ((gP σ k).2.2.1).toInt64) * 31)]) S hI (c_shelfOf l G _ hok (i := k) hk2 hn hX) (cw_X3_X3_shelfOf S.2.2.2.2 ⟨Nat.le_of_ble_eq_true rfl, Nat.le_of_ble_eq_true rfl⟩) (rcX hI) rfl hl.1 (Nat.le_of_ble_eq_true rfl) dX3_withPromises_36 ⟨Nat.le_of_ble_eq_true rfl, Nat.le_of_ble_eq_true rfl⟩) (fun r2 σ2 H locs hq2 hI => ?_)
      obtain ⟨hr2, hs2⟩ := hq2
      rw [hs2] at hI
      rw [hr2]
      refine lv_i2l (v := (shI (gP σ k).2.1).toInt64) S.1 S.2.1 dX3_withPromises_39 rfl ?_
      refine lv_ladd S.1 S.2.1 dX3_withPromises_40 ?_
      refine lv_lstore_n (lv' := [(3, .long (((((dgP σ d0 k) * 31) + ((gP σ k).2.2.1).toInt64) * 31) + (shI (gP σ k).2.1).toInt64)), (0, .ref (gB G 0)), (5, .int (nI k))]) S.1 S.2.1 dX3_withPromises_41 rfl hl (by decide) rfl (fun ls hl => ?_)
      refine lv_lload_n S.1 S.2.1 dX3_withPromises_42 rfl (lv_at hl 0 rfl) ?_
      refine ld_X3_31 S dX3_withPromises_43 ?_
      refine lv_lmul S.1 S.2.1 dX3_withPromises_46 ?_
      refine lv_aload_n S.1 S.2.1 dX3_withPromises_47 rfl (lv_at hl 1 rfl) ?_
      refine lv_iload S.1 S.2.1 dX3_withPromises_48 (lv_at hl 2 rfl) ?_
      refine cl_i hI (rnV (As := [.int (nI k)]) (rest := [.long ((((((dgP σ d0 k) * 31) + ((gP σ k).2.2.1).toInt64) * 31) + (shI (gP σ k).2.1).toInt64) * 31)]) S hI (c_heatOf l G _ (i := k) hk2 hn hX) (cw_X3_X3_heatOf S.2.2.2.2 ⟨Nat.le_of_ble_eq_true rfl, Nat.le_of_ble_eq_true rfl⟩) (rcX hI) rfl hl.1 (Nat.le_of_ble_eq_true rfl) dX3_withPromises_50 ⟨Nat.le_of_ble_eq_true rfl, Nat.le_of_ble_eq_true rfl⟩) (fun r3 σ3 H locs hq3 hI => ?_)
      obtain ⟨hr3, hs3⟩ := hq3
      rw [hs3] at hI
      rw [hr3]
      refine lv_i2l (v := ((gP σ k).2.2.2.2.2).toInt64) S.1 S.2.1 dX3_withPromises_53 rfl ?_
      refine lv_ladd S.1 S.2.1 dX3_withPromises_54 ?_
      refine lv_lstore_n (lv' := [(3, .long (((((((dgP σ d0 k) * 31) + ((gP σ k).2.2.1).toInt64) * 31) + (shI (gP σ k).2.1).toInt64) * 31) + ((gP σ k).2.2.2.2.2).toInt64)), (0, .ref (gB G 0)), (5, .int (nI k))]) S.1 S.2.1 dX3_withPromises_55 rfl hl (by decide) rfl (fun ls hl => ?_)
      refine lv_lload_n S.1 S.2.1 dX3_withPromises_56 rfl (lv_at hl 0 rfl) ?_
      refine ld_X3_31 S dX3_withPromises_57 ?_
      refine lv_lmul S.1 S.2.1 dX3_withPromises_60 ?_
      refine lv_aload_n S.1 S.2.1 dX3_withPromises_61 rfl (lv_at hl 1 rfl) ?_
      refine lv_iload S.1 S.2.1 dX3_withPromises_62 (lv_at hl 2 rfl) ?_
      refine cl_i hI (rnV (As := [.int (nI k)]) (rest := [.long ((((((((dgP σ d0 k) * 31) + ((gP σ k).2.2.1).toInt64) * 31) + (shI (gP σ k).2.1).toInt64) * 31) + ((gP σ k).2.2.2.2.2).toInt64) * 31)]) S hI (c_ageOf l G _ (i := k) hk2 hn hX) (cw_X3_X3_ageOf S.2.2.2.2 ⟨Nat.le_of_ble_eq_true rfl, Nat.le_of_ble_eq_true rfl⟩) (rcX hI) rfl hl.1 (Nat.le_of_ble_eq_true rfl) dX3_withPromises_64 ⟨Nat.le_of_ble_eq_true rfl, Nat.le_of_ble_eq_true rfl⟩) (fun r4 σ4 H locs hq4 hI => ?_)
      obtain ⟨hr4, hs4⟩ := hq4
      rw [hs4] at hI
      rw [hr4]
      refine lv_i2l (v := ((gP σ k).2.2.2.2.1).toInt64) S.1 S.2.1 dX3_withPromises_67 rfl ?_
      refine lv_ladd S.1 S.2.1 dX3_withPromises_68 ?_
      refine lv_lstore_n (lv' := [(3, .long (((((((((dgP σ d0 k) * 31) + ((gP σ k).2.2.1).toInt64) * 31) + (shI (gP σ k).2.1).toInt64) * 31) + ((gP σ k).2.2.2.2.2).toInt64) * 31) + ((gP σ k).2.2.2.2.1).toInt64)), (0, .ref (gB G 0)), (5, .int (nI k))]) S.1 S.2.1 dX3_withPromises_69 rfl hl (by decide) rfl (fun ls hl => ?_)
      refine lv_lload_n S.1 S.2.1 dX3_withPromises_70 rfl (lv_at hl 0 rfl) ?_
      refine ld_X3_31 S dX3_withPromises_71 ?_
      refine lv_lmul S.1 S.2.1 dX3_withPromises_74 ?_
      refine lv_aload_n S.1 S.2.1 dX3_withPromises_75 rfl (lv_at hl 1 rfl) ?_
      refine lv_iload S.1 S.2.1 dX3_withPromises_76 (lv_at hl 2 rfl) ?_
      refine cl_i hI (rnV (As := [.int (nI k)]) (rest := [.long ((((((((((dgP σ d0 k) * 31) + ((gP σ k).2.2.1).toInt64) * 31) + (shI (gP σ k).2.1).toInt64) * 31) + ((gP σ k).2.2.2.2.2).toInt64) * 31) + ((gP σ k).2.2.2.2.1).toInt64) * 31)]) S hI (c_hoursLeft l G _ (i := k) hk2 hn hX) (cw_X3_X3_hoursLeft S.2.2.2.2 ⟨Nat.le_of_ble_eq_true rfl, Nat.le_of_ble_eq_true rfl⟩) (rcX hI) rfl hl.1 (Nat.le_of_ble_eq_true rfl) dX3_withPromises_78 ⟨Nat.le_of_ble_eq_true rfl, Nat.le_of_ble_eq_true rfl⟩) (fun r5 σ5 H locs hq5 hI => ?_)
      obtain ⟨hr5, hs5⟩ := hq5
      rw [hs5] at hI
      rw [hr5]
      refine lv_i2l (v := ((gP σ k).2.2.2.1 - (gP σ k).2.2.2.2.1).toInt64) S.1 S.2.1 dX3_withPromises_81 rfl ?_
      refine lv_ladd S.1 S.2.1 dX3_withPromises_82 ?_
      refine lv_lstore_n (lv' := [(3, .long (((((((((((dgP σ d0 k) * 31) + ((gP σ k).2.2.1).toInt64) * 31) + (shI (gP σ k).2.1).toInt64) * 31) + ((gP σ k).2.2.2.2.2).toInt64) * 31) + ((gP σ k).2.2.2.2.1).toInt64) * 31) + ((gP σ k).2.2.2.1 - (gP σ k).2.2.2.2.1).toInt64)), (0, .ref (gB G 0)), (5, .int (nI k))]) S.1 S.2.1 dX3_withPromises_83 rfl hl (by decide) rfl (fun ls hl => ?_)
      refine lv_lload_n S.1 S.2.1 dX3_withPromises_84 rfl (lv_at hl 0 rfl) ?_
      refine ld_X3_31 S dX3_withPromises_85 ?_
      refine lv_lmul S.1 S.2.1 dX3_withPromises_88 ?_
      refine lv_aload_n S.1 S.2.1 dX3_withPromises_89 rfl (lv_at hl 1 rfl) ?_
      refine lv_iload S.1 S.2.1 dX3_withPromises_90 (lv_at hl 2 rfl) ?_
      refine cl_i hI (rnV (As := [.int (nI k)]) (rest := [.long ((((((((((((dgP σ d0 k) * 31) + ((gP σ k).2.2.1).toInt64) * 31) + (shI (gP σ k).2.1).toInt64) * 31) + ((gP σ k).2.2.2.2.2).toInt64) * 31) + ((gP σ k).2.2.2.2.1).toInt64) * 31) + ((gP σ k).2.2.2.1 - (gP σ k).2.2.2.2.1).toInt64) * 31)]) S hI (c_isFrozen l G _ hok (i := k) hk2 hn hX) (cw_X3_X3_isFrozen S.2.2.2.2 ⟨Nat.le_of_ble_eq_true rfl, Nat.le_of_ble_eq_true rfl⟩) (rcX hI) rfl hl.1 (Nat.le_of_ble_eq_true rfl) dX3_withPromises_92 ⟨Nat.le_of_ble_eq_true rfl, Nat.le_of_ble_eq_true rfl⟩) (fun r6 σ6 H locs hq6 hI => ?_)
      obtain ⟨hr6, hs6⟩ := hq6
      rw [hs6] at hI
      rw [hr6]
      refine cl_i hI (rnS (As := [.int (isI (gP σ k) 2)]) (rest := [.long ((((((((((((dgP σ d0 k) * 31) + ((gP σ k).2.2.1).toInt64) * 31) + (shI (gP σ k).2.1).toInt64) * 31) + ((gP σ k).2.2.2.2.2).toInt64) * 31) + ((gP σ k).2.2.2.2.1).toInt64) * 31) + ((gP σ k).2.2.2.1 - (gP σ k).2.2.2.2.1).toInt64) * 31)]) S hI (c_asNumber l G _ (isI (gP σ k) 2) (isI_01 _ _)) (cw_X3_X3_asNumber S.2.2.2.2 ⟨Nat.le_of_ble_eq_true rfl, Nat.le_of_ble_eq_true rfl⟩) rfl hl.1 (Nat.le_of_ble_eq_true rfl) dX3_withPromises_95 ⟨Nat.le_of_ble_eq_true rfl, Nat.le_of_ble_eq_true rfl⟩) (fun r7 σ7 H locs hq7 hI => ?_)
      obtain ⟨hr7, hs7⟩ := hq7
      rw [hs7] at hI
      rw [hr7]
      refine lv_i2l (v := (isI (gP σ k) 2).toInt64) S.1 S.2.1 dX3_withPromises_98 rfl ?_
      refine lv_ladd S.1 S.2.1 dX3_withPromises_99 ?_
      refine lv_lstore_n (lv' := [(3, .long (((((((((((((dgP σ d0 k) * 31) + ((gP σ k).2.2.1).toInt64) * 31) + (shI (gP σ k).2.1).toInt64) * 31) + ((gP σ k).2.2.2.2.2).toInt64) * 31) + ((gP σ k).2.2.2.2.1).toInt64) * 31) + ((gP σ k).2.2.2.1 - (gP σ k).2.2.2.2.1).toInt64) * 31) + (isI (gP σ k) 2).toInt64)), (0, .ref (gB G 0)), (5, .int (nI k))]) S.1 S.2.1 dX3_withPromises_100 rfl hl (by decide) rfl (fun ls hl => ?_)
      refine lv_lload_n S.1 S.2.1 dX3_withPromises_101 rfl (lv_at hl 0 rfl) ?_
      refine ld_X3_31 S dX3_withPromises_102 ?_
      refine lv_lmul S.1 S.2.1 dX3_withPromises_105 ?_
      refine lv_aload_n S.1 S.2.1 dX3_withPromises_106 rfl (lv_at hl 1 rfl) ?_
      refine lv_iload S.1 S.2.1 dX3_withPromises_107 (lv_at hl 2 rfl) ?_
      refine cl_i hI (rnV (As := [.int (nI k)]) (rest := [.long ((((((((((((((dgP σ d0 k) * 31) + ((gP σ k).2.2.1).toInt64) * 31) + (shI (gP σ k).2.1).toInt64) * 31) + ((gP σ k).2.2.2.2.2).toInt64) * 31) + ((gP σ k).2.2.2.2.1).toInt64) * 31) + ((gP σ k).2.2.2.1 - (gP σ k).2.2.2.2.1).toInt64) * 31) + (isI (gP σ k) 2).toInt64) * 31)]) S hI (c_isThawed l G _ hok (i := k) hk2 hn hX) (cw_X3_X3_isThawed S.2.2.2.2 ⟨Nat.le_of_ble_eq_true rfl, Nat.le_of_ble_eq_true rfl⟩) (rcX hI) rfl hl.1 (Nat.le_of_ble_eq_true rfl) dX3_withPromises_109 ⟨Nat.le_of_ble_eq_true rfl, Nat.le_of_ble_eq_true rfl⟩) (fun r8 σ8 H locs hq8 hI => ?_)
      obtain ⟨hr8, hs8⟩ := hq8
      rw [hs8] at hI
      rw [hr8]
      refine cl_i hI (rnS (As := [.int (isI (gP σ k) 3)]) (rest := [.long ((((((((((((((dgP σ d0 k) * 31) + ((gP σ k).2.2.1).toInt64) * 31) + (shI (gP σ k).2.1).toInt64) * 31) + ((gP σ k).2.2.2.2.2).toInt64) * 31) + ((gP σ k).2.2.2.2.1).toInt64) * 31) + ((gP σ k).2.2.2.1 - (gP σ k).2.2.2.2.1).toInt64) * 31) + (isI (gP σ k) 2).toInt64) * 31)]) S hI (c_asNumber l G _ (isI (gP σ k) 3) (isI_01 _ _)) (cw_X3_X3_asNumber S.2.2.2.2 ⟨Nat.le_of_ble_eq_true rfl, Nat.le_of_ble_eq_true rfl⟩) rfl hl.1 (Nat.le_of_ble_eq_true rfl) dX3_withPromises_112 ⟨Nat.le_of_ble_eq_true rfl, Nat.le_of_ble_eq_true rfl⟩) (fun r9 σ9 H locs hq9 hI => ?_)
      obtain ⟨hr9, hs9⟩ := hq9
      rw [hs9] at hI
      rw [hr9]
      refine lv_i2l (v := (isI (gP σ k) 3).toInt64) S.1 S.2.1 dX3_withPromises_115 rfl ?_
      refine lv_ladd S.1 S.2.1 dX3_withPromises_116 ?_
      refine lv_lstore_n (lv' := [(3, .long (((((((((((((((dgP σ d0 k) * 31) + ((gP σ k).2.2.1).toInt64) * 31) + (shI (gP σ k).2.1).toInt64) * 31) + ((gP σ k).2.2.2.2.2).toInt64) * 31) + ((gP σ k).2.2.2.2.1).toInt64) * 31) + ((gP σ k).2.2.2.1 - (gP σ k).2.2.2.2.1).toInt64) * 31) + (isI (gP σ k) 2).toInt64) * 31) + (isI (gP σ k) 3).toInt64)), (0, .ref (gB G 0)), (5, .int (nI k))]) S.1 S.2.1 dX3_withPromises_117 rfl hl (by decide) rfl (fun ls hl => ?_)
      refine lv_lload_n S.1 S.2.1 dX3_withPromises_118 rfl (lv_at hl 0 rfl) ?_
      refine ld_X3_31 S dX3_withPromises_119 ?_
      refine lv_lmul S.1 S.2.1 dX3_withPromises_122 ?_
      refine lv_aload_n S.1 S.2.1 dX3_withPromises_123 rfl (lv_at hl 1 rfl) ?_
      refine lv_iload S.1 S.2.1 dX3_withPromises_124 (lv_at hl 2 rfl) ?_
      refine cl_i hI (rnV (As := [.int (nI k)]) (rest := [.long ((((((((((((((((dgP σ d0 k) * 31) + ((gP σ k).2.2.1).toInt64) * 31) + (shI (gP σ k).2.1).toInt64) * 31) + ((gP σ k).2.2.2.2.2).toInt64) * 31) + ((gP σ k).2.2.2.2.1).toInt64) * 31) + ((gP σ k).2.2.2.1 - (gP σ k).2.2.2.2.1).toInt64) * 31) + (isI (gP σ k) 2).toInt64) * 31) + (isI (gP σ k) 3).toInt64) * 31)]) S hI (c_isKept l G _ hok (i := k) hk2 hn hX) (cw_X3_X3_isKept S.2.2.2.2 ⟨Nat.le_of_ble_eq_true rfl, Nat.le_of_ble_eq_true rfl⟩) (rcX hI) rfl hl.1 (Nat.le_of_ble_eq_true rfl) dX3_withPromises_126 ⟨Nat.le_of_ble_eq_true rfl, Nat.le_of_ble_eq_true rfl⟩) (fun r10 σ10 H locs hq10 hI => ?_)
      obtain ⟨hr10, hs10⟩ := hq10
      rw [hs10] at hI
      rw [hr10]
      refine cl_i hI (rnS (As := [.int (isI (gP σ k) 4)]) (rest := [.long ((((((((((((((((dgP σ d0 k) * 31) + ((gP σ k).2.2.1).toInt64) * 31) + (shI (gP σ k).2.1).toInt64) * 31) + ((gP σ k).2.2.2.2.2).toInt64) * 31) + ((gP σ k).2.2.2.2.1).toInt64) * 31) + ((gP σ k).2.2.2.1 - (gP σ k).2.2.2.2.1).toInt64) * 31) + (isI (gP σ k) 2).toInt64) * 31) + (isI (gP σ k) 3).toInt64) * 31)]) S hI (c_asNumber l G _ (isI (gP σ k) 4) (isI_01 _ _)) (cw_X3_X3_asNumber S.2.2.2.2 ⟨Nat.le_of_ble_eq_true rfl, Nat.le_of_ble_eq_true rfl⟩) rfl hl.1 (Nat.le_of_ble_eq_true rfl) dX3_withPromises_129 ⟨Nat.le_of_ble_eq_true rfl, Nat.le_of_ble_eq_true rfl⟩) (fun r11 σ11 H locs hq11 hI => ?_)
      obtain ⟨hr11, hs11⟩ := hq11
      rw [hs11] at hI
      rw [hr11]
      refine lv_i2l (v := (isI (gP σ k) 4).toInt64) S.1 S.2.1 dX3_withPromises_132 rfl ?_
      refine lv_ladd S.1 S.2.1 dX3_withPromises_133 ?_
      refine lv_lstore_n (lv' := [(3, .long (((((((((((((((((dgP σ d0 k) * 31) + ((gP σ k).2.2.1).toInt64) * 31) + (shI (gP σ k).2.1).toInt64) * 31) + ((gP σ k).2.2.2.2.2).toInt64) * 31) + ((gP σ k).2.2.2.2.1).toInt64) * 31) + ((gP σ k).2.2.2.1 - (gP σ k).2.2.2.2.1).toInt64) * 31) + (isI (gP σ k) 2).toInt64) * 31) + (isI (gP σ k) 3).toInt64) * 31) + (isI (gP σ k) 4).toInt64)), (0, .ref (gB G 0)), (5, .int (nI k))]) S.1 S.2.1 dX3_withPromises_134 rfl hl (by decide) rfl (fun ls hl => ?_)
      refine lv_lload_n S.1 S.2.1 dX3_withPromises_135 rfl (lv_at hl 0 rfl) ?_
      refine ld_X3_31 S dX3_withPromises_136 ?_
      refine lv_lmul S.1 S.2.1 dX3_withPromises_139 ?_
      refine lv_aload_n S.1 S.2.1 dX3_withPromises_140 rfl (lv_at hl 1 rfl) ?_
      refine lv_iload S.1 S.2.1 dX3_withPromises_141 (lv_at hl 2 rfl) ?_
      refine cl_i hI (rnV (As := [.int (nI k)]) (rest := [.long ((((((((((((((((((dgP σ d0 k) * 31) + ((gP σ k).2.2.1).toInt64) * 31) + (shI (gP σ k).2.1).toInt64) * 31) + ((gP σ k).2.2.2.2.2).toInt64) * 31) + ((gP σ k).2.2.2.2.1).toInt64) * 31) + ((gP σ k).2.2.2.1 - (gP σ k).2.2.2.2.1).toInt64) * 31) + (isI (gP σ k) 2).toInt64) * 31) + (isI (gP σ k) 3).toInt64) * 31) + (isI (gP σ k) 4).toInt64) * 31)]) S hI (c_isExpired l G _ hok (i := k) hk2 hn hX) (cw_X3_X3_isExpired S.2.2.2.2 ⟨Nat.le_of_ble_eq_true rfl, Nat.le_of_ble_eq_true rfl⟩) (rcX hI) rfl hl.1 (Nat.le_of_ble_eq_true rfl) dX3_withPromises_143 ⟨Nat.le_of_ble_eq_true rfl, Nat.le_of_ble_eq_true rfl⟩) (fun r12 σ12 H locs hq12 hI => ?_)
      obtain ⟨hr12, hs12⟩ := hq12
      rw [hs12] at hI
      rw [hr12]
      refine cl_i hI (rnS (As := [.int (isI (gP σ k) 5)]) (rest := [.long ((((((((((((((((((dgP σ d0 k) * 31) + ((gP σ k).2.2.1).toInt64) * 31) + (shI (gP σ k).2.1).toInt64) * 31) + ((gP σ k).2.2.2.2.2).toInt64) * 31) + ((gP σ k).2.2.2.2.1).toInt64) * 31) + ((gP σ k).2.2.2.1 - (gP σ k).2.2.2.2.1).toInt64) * 31) + (isI (gP σ k) 2).toInt64) * 31) + (isI (gP σ k) 3).toInt64) * 31) + (isI (gP σ k) 4).toInt64) * 31)]) S hI (c_asNumber l G _ (isI (gP σ k) 5) (isI_01 _ _)) (cw_X3_X3_asNumber S.2.2.2.2 ⟨Nat.le_of_ble_eq_true rfl, Nat.le_of_ble_eq_true rfl⟩) rfl hl.1 (Nat.le_of_ble_eq_true rfl) dX3_withPromises_146 ⟨Nat.le_of_ble_eq_true rfl, Nat.le_of_ble_eq_true rfl⟩) (fun r13 σ13 H locs hq13 hI => ?_)
      obtain ⟨hr13, hs13⟩ := hq13
      rw [hs13] at hI
      rw [hr13]
      refine lv_i2l (v := (isI (gP σ k) 5).toInt64) S.1 S.2.1 dX3_withPromises_149 rfl ?_
      refine lv_ladd S.1 S.2.1 dX3_withPromises_150 ?_
      refine lv_lstore_n (lv' := [(3, .long (((((((((((((((((((dgP σ d0 k) * 31) + ((gP σ k).2.2.1).toInt64) * 31) + (shI (gP σ k).2.1).toInt64) * 31) + ((gP σ k).2.2.2.2.2).toInt64) * 31) + ((gP σ k).2.2.2.2.1).toInt64) * 31) + ((gP σ k).2.2.2.1 - (gP σ k).2.2.2.2.1).toInt64) * 31) + (isI (gP σ k) 2).toInt64) * 31) + (isI (gP σ k) 3).toInt64) * 31) + (isI (gP σ k) 4).toInt64) * 31) + (isI (gP σ k) 5).toInt64)), (0, .ref (gB G 0)), (5, .int (nI k))]) S.1 S.2.1 dX3_withPromises_151 rfl hl (by decide) rfl (fun ls hl => ?_)
      refine lv_iinc (v := (nI (k + 1))) (lv' := [(5, .int (nI (k + 1))), (3, .long (((((((((((((((((((dgP σ d0 k) * 31) + ((gP σ k).2.2.1).toInt64) * 31) + (shI (gP σ k).2.1).toInt64) * 31) + ((gP σ k).2.2.2.2.2).toInt64) * 31) + ((gP σ k).2.2.2.2.1).toInt64) * 31) + ((gP σ k).2.2.2.1 - (gP σ k).2.2.2.2.1).toInt64) * 31) + (isI (gP σ k) 2).toInt64) * 31) + (isI (gP σ k) 3).toInt64) * 31) + (isI (gP σ k) 4).toInt64) * 31) + (isI (gP σ k) 5).toInt64)), (0, .ref (gB G 0))]) S.1 S.2.1 dX3_withPromises_152 hl (k := 2) rfl (nI_1 k) (by decide) rfl (fun ls hl => ?_)
      refine lv_goto (tgt := 5) S.1 S.2.1 dX3_withPromises_155 (by decide) ?_
      exact ih (k + 1) (by omega) _ _ hI ls (by rw [show dgP σ d0 (k + 1) = (((((((((((((((((((dgP σ d0 k) * 31) + ((gP σ k).2.2.1).toInt64) * 31) + (shI (gP σ k).2.1).toInt64) * 31) + ((gP σ k).2.2.2.2.2).toInt64) * 31) + ((gP σ k).2.2.2.2.1).toInt64) * 31) + ((gP σ k).2.2.2.1 - (gP σ k).2.2.2.2.1).toInt64) * 31) + (isI (gP σ k) 2).toInt64) * 31) + (isI (gP σ k) 3).toInt64) * 31) + (isI (gP σ k) 4).toInt64) * 31) + (isI (gP σ k) 5).toInt64) from rfl]; exact lv_sub hl [2, 1, 0] rfl)
  refine lv_lload_n S.1 S.2.1 dX3_withPromises_0 rfl (lv_at hl 1 rfl) ?_
  refine lv_lstore_n (lv' := [(3, .long d0), (0, .ref (gB G 0)), (1, .long d0)]) S.1 S.2.1 dX3_withPromises_1 rfl hl (by decide) rfl (fun ls hl => ?_)
  refine lv_iconst (v := (nI 0)) S.1 S.2.1 dX3_withPromises_2 (by rfl) ?_
  refine lv_istore (lv' := [(5, .int (nI 0)), (3, .long d0), (0, .ref (gB G 0)), (1, .long d0)]) S.1 S.2.1 dX3_withPromises_3 hl (by decide) rfl (fun ls hl => ?_)
  exact loop n 0 (by omega) _ _ hI ls (lv_sub hl [2, 1, 0] rfl)
set_option maxRecDepth 100000 in
set_option maxHeartbeats 4000000 in
theorem c_withMakers (l : Launch) (G : Gt) (σ : St) (d0 : Int64) (hok : okP σ) : Ct l G yX3_withMakers cX3_withMakers 6 (some .long) 4 0 0 [.ref (gB G 0), .long d0] σ (Ql G (fun r σ' => r = dgM σ d0 6 ∧ σ' = σ)) := by
  refine mt_intro (by decide +kernel) (Nat.le_of_ble_eq_true rfl) ?_
  intro p e s m below meth c S hr hlk hnm hI ls hl
  have hl : lv_has ls 6 [(0, .ref (gB G 0)), (1, .long d0)] := hl
  have loop : ∀ (n1 : Nat) (k : Nat), k + n1 = 6 → ∀ (H : Heap) (locs : List Loc), Iv G σ s H locs → ∀ ls : Array Slot, lv_has ls 6 [(0, .ref (gB G 0)), (3, .long (dgM σ d0 k)), (5, .int (nI k))] → W p l e (rm 4 0 0) s m ([.ref (gB G 0), .long d0] : List Value).toArray below meth c H locs 0 0 (MQ below (Ql G (fun r σ' => r = dgM σ d0 6 ∧ σ' = σ)) ([.ref (gB G 0), .long d0] : List Value).toArray s 0 0 (gA G)) (F0 m 5 ls []) := by
    intro n1
    induction n1 with
    | zero =>
      intro k hk0 H locs hI ls hl
      obtain rfl : k = 6 := by omega
      refine lv_iload S.1 S.2.1 dX3_withMakers_5 (lv_at hl 2 rfl) ?_
      refine lv_bipush (v := 6) S.1 S.2.1 dX3_withMakers_7 (by decide) ?_
      refine lv_icmp_ge (tgt := 46) S.1 S.2.1 dX3_withMakers_9 (by decide) (fun cz_9 => ?_) (fun c9 => absurd (nI_le (a := 6) (b := 6) (Nat.le_refl 6) (by omega)) c9)
      refine lv_lload_n S.1 S.2.1 dX3_withMakers_46 rfl (lv_at hl 1 rfl) ?_
      exact xt_l S hI hr hlk (⟨rfl, rfl⟩) (by decide) (by decide) dX3_withMakers_47
    | succ n1 ih =>
      intro k hk0 H locs hI ls hl
      have hk2 : k < 6 := by omega
      refine lv_iload S.1 S.2.1 dX3_withMakers_5 (lv_at hl 2 rfl) ?_
      refine lv_bipush (v := 6) S.1 S.2.1 dX3_withMakers_7 (by decide) ?_
      refine lv_icmp_ge (tgt := 46) S.1 S.2.1 dX3_withMakers_9 (by decide) (fun c9 => absurd c9 (nI_ge (b := 6) hk2 (by omega))) (fun cz_9 => ?_)
      refine lv_lload_n S.1 S.2.1 dX3_withMakers_12 rfl (lv_at hl 1 rfl) ?_
      refine ld_X3_31 S dX3_withMakers_13 ?_
      refine lv_lmul S.1 S.2.1 dX3_withMakers_16 ?_
      refine lv_aload_n S.1 S.2.1 dX3_withMakers_17 rfl (lv_at hl 0 rfl) ?_
      refine lv_iload S.1 S.2.1 dX3_withMakers_18 (lv_at hl 2 rfl) ?_
      refine cl_i hI (rnV (As := [.int (nI k)]) (rest := [.long ((dgM σ d0 k) * 31)]) S hI (c_owedBy l G _ (a := k) hk2) (cw_X3_X3_owedBy S.2.2.2.2 ⟨Nat.le_of_ble_eq_true rfl, Nat.le_of_ble_eq_true rfl⟩) (rcX hI) rfl hl.1 (Nat.le_of_ble_eq_true rfl) dX3_withMakers_20 ⟨Nat.le_of_ble_eq_true rfl, Nat.le_of_ble_eq_true rfl⟩) (fun r1 σ1 H locs hq1 hI => ?_)
      obtain ⟨hr1, hs1⟩ := hq1
      rw [hs1] at hI
      rw [hr1]
      refine lv_i2l (v := (owF σ (nI k)).toInt64) S.1 S.2.1 dX3_withMakers_23 rfl ?_
      refine lv_ladd S.1 S.2.1 dX3_withMakers_24 ?_
      refine lv_lstore_n (lv' := [(3, .long (((dgM σ d0 k) * 31) + (owF σ (nI k)).toInt64)), (0, .ref (gB G 0)), (5, .int (nI k))]) S.1 S.2.1 dX3_withMakers_25 rfl hl (by decide) rfl (fun ls hl => ?_)
      refine lv_lload_n S.1 S.2.1 dX3_withMakers_26 rfl (lv_at hl 0 rfl) ?_
      refine ld_X3_31 S dX3_withMakers_27 ?_
      refine lv_lmul S.1 S.2.1 dX3_withMakers_30 ?_
      refine lv_aload_n S.1 S.2.1 dX3_withMakers_31 rfl (lv_at hl 1 rfl) ?_
      refine lv_iload S.1 S.2.1 dX3_withMakers_32 (lv_at hl 2 rfl) ?_
      refine cl_i hI (rnV (As := [.int (nI k)]) (rest := [.long ((((dgM σ d0 k) * 31) + (owF σ (nI k)).toInt64) * 31)]) S hI (c_honourOf l G _ hok (a := k) hk2) (cw_X3_X3_honourOf S.2.2.2.2 ⟨Nat.le_of_ble_eq_true rfl, Nat.le_of_ble_eq_true rfl⟩) (rcX hI) rfl hl.1 (Nat.le_of_ble_eq_true rfl) dX3_withMakers_34 ⟨Nat.le_of_ble_eq_true rfl, Nat.le_of_ble_eq_true rfl⟩) (fun r2 σ2 H locs hq2 hI => ?_)
      obtain ⟨hr2, hs2⟩ := hq2
      rw [hs2] at hI
      rw [hr2]
      refine lv_i2l (v := (honF σ k).toInt64) S.1 S.2.1 dX3_withMakers_37 rfl ?_
      refine lv_ladd S.1 S.2.1 dX3_withMakers_38 ?_
      refine lv_lstore_n (lv' := [(3, .long (((((dgM σ d0 k) * 31) + (owF σ (nI k)).toInt64) * 31) + (honF σ k).toInt64)), (0, .ref (gB G 0)), (5, .int (nI k))]) S.1 S.2.1 dX3_withMakers_39 rfl hl (by decide) rfl (fun ls hl => ?_)
      refine lv_iinc (v := (nI (k + 1))) (lv' := [(5, .int (nI (k + 1))), (3, .long (((((dgM σ d0 k) * 31) + (owF σ (nI k)).toInt64) * 31) + (honF σ k).toInt64)), (0, .ref (gB G 0))]) S.1 S.2.1 dX3_withMakers_40 hl (k := 2) rfl (nI_1 k) (by decide) rfl (fun ls hl => ?_)
      refine lv_goto (tgt := 5) S.1 S.2.1 dX3_withMakers_43 (by decide) ?_
      exact ih (k + 1) (by omega) _ _ hI ls (by rw [show dgM σ d0 (k + 1) = (((((dgM σ d0 k) * 31) + (owF σ (nI k)).toInt64) * 31) + (honF σ k).toInt64) from rfl]; exact lv_sub hl [2, 1, 0] rfl)
  refine lv_lload_n S.1 S.2.1 dX3_withMakers_0 rfl (lv_at hl 1 rfl) ?_
  refine lv_lstore_n (lv' := [(3, .long d0), (0, .ref (gB G 0)), (1, .long d0)]) S.1 S.2.1 dX3_withMakers_1 rfl hl (by decide) rfl (fun ls hl => ?_)
  refine lv_iconst (v := (nI 0)) S.1 S.2.1 dX3_withMakers_2 (by rfl) ?_
  refine lv_istore (lv' := [(5, .int (nI 0)), (3, .long d0), (0, .ref (gB G 0)), (1, .long d0)]) S.1 S.2.1 dX3_withMakers_3 hl (by decide) rfl (fun ls hl => ?_)
  exact loop 6 0 (by omega) _ _ hI ls (lv_sub hl [2, 1, 0] rfl)
set_option maxRecDepth 100000 in
set_option maxHeartbeats 4000000 in
theorem c_digest (l : Launch) (G : Gt) (σ : St) (hok : okP σ) {n : Nat} (hn : n ≤ 20) {ar hh pw : Int32} (hX : gX σ = (nI n, ar, hh, pw)) (hw : (gX σ).2.2.2 = 0 ∨ (gX σ).2.2.2 = 1) : Ct l G yX3_digest cX3_digest 3 (some .long) 7 0 0 [.ref (gB G 0)] σ (Ql G (fun r σ' => r = digF σ n ∧ Tr σ σ')) := by
  refine mt_intro (by decide +kernel) (Nat.le_of_ble_eq_true rfl) ?_
  intro p e s m below meth c S hr hlk hnm hI ls hl
  have hl : lv_has ls 3 [(0, .ref (gB G 0))] := hl
  refine ld_X3_2017 S dX3_digest_0 ?_
  refine lv_lstore_n (lv' := [(1, .long 2017), (0, .ref (gB G 0))]) S.1 S.2.1 dX3_digest_3 rfl hl (by decide) rfl (fun ls hl => ?_)
  refine lv_lload_n S.1 S.2.1 dX3_digest_4 rfl (lv_at hl 0 rfl) ?_
  refine ld_X3_31 S dX3_digest_5 ?_
  refine lv_lmul S.1 S.2.1 dX3_digest_8 ?_
  refine lv_aload_n S.1 S.2.1 dX3_digest_9 rfl (lv_at hl 1 rfl) ?_
  refine cl_i hI (rnV (As := []) (rest := [.long (2017 * 31)]) S hI (c_hour l G _) (cw_X3_X3_hour S.2.2.2.2 ⟨Nat.le_of_ble_eq_true rfl, Nat.le_of_ble_eq_true rfl⟩) (rcX hI) rfl hl.1 (Nat.le_of_ble_eq_true rfl) dX3_digest_10 ⟨Nat.le_of_ble_eq_true rfl, Nat.le_of_ble_eq_true rfl⟩) (fun r1 σ1 H locs hq1 hI => ?_)
  obtain ⟨hr1, hs1⟩ := hq1
  rw [hs1] at hI
  rw [hr1]
  refine lv_i2l (v := ((gX σ).2.2.1).toInt64) S.1 S.2.1 dX3_digest_13 rfl ?_
  refine lv_ladd S.1 S.2.1 dX3_digest_14 ?_
  refine lv_lstore_n (lv' := [(1, .long ((2017 * 31) + ((gX σ).2.2.1).toInt64)), (0, .ref (gB G 0))]) S.1 S.2.1 dX3_digest_15 rfl hl (by decide) rfl (fun ls hl => ?_)
  refine lv_lload_n S.1 S.2.1 dX3_digest_16 rfl (lv_at hl 0 rfl) ?_
  refine ld_X3_31 S dX3_digest_17 ?_
  refine lv_lmul S.1 S.2.1 dX3_digest_20 ?_
  refine lv_aload_n S.1 S.2.1 dX3_digest_21 rfl (lv_at hl 1 rfl) ?_
  refine cl_i hI (rnV (As := []) (rest := [.long (((2017 * 31) + ((gX σ).2.2.1).toInt64) * 31)]) S hI (c_hasPower l G _ hw) (cw_X3_X3_hasPower S.2.2.2.2 ⟨Nat.le_of_ble_eq_true rfl, Nat.le_of_ble_eq_true rfl⟩) (rcX hI) rfl hl.1 (Nat.le_of_ble_eq_true rfl) dX3_digest_22 ⟨Nat.le_of_ble_eq_true rfl, Nat.le_of_ble_eq_true rfl⟩) (fun r2 σ2 H locs hq2 hI => ?_)
  obtain ⟨hr2, hs2⟩ := hq2
  rw [hs2] at hI
  rw [hr2]
  refine cl_i hI (rnS (As := [.int ((gX σ).2.2.2)]) (rest := [.long (((2017 * 31) + ((gX σ).2.2.1).toInt64) * 31)]) S hI (c_asNumber l G _ (gX σ).2.2.2 hw) (cw_X3_X3_asNumber S.2.2.2.2 ⟨Nat.le_of_ble_eq_true rfl, Nat.le_of_ble_eq_true rfl⟩) rfl hl.1 (Nat.le_of_ble_eq_true rfl) dX3_digest_25 ⟨Nat.le_of_ble_eq_true rfl, Nat.le_of_ble_eq_true rfl⟩) (fun r3 σ3 H locs hq3 hI => ?_)
  obtain ⟨hr3, hs3⟩ := hq3
  rw [hs3] at hI
  rw [hr3]
  refine lv_i2l (v := ((gX σ).2.2.2).toInt64) S.1 S.2.1 dX3_digest_28 rfl ?_
  refine lv_ladd S.1 S.2.1 dX3_digest_29 ?_
  refine lv_lstore_n (lv' := [(1, .long ((((2017 * 31) + ((gX σ).2.2.1).toInt64) * 31) + ((gX σ).2.2.2).toInt64)), (0, .ref (gB G 0))]) S.1 S.2.1 dX3_digest_30 rfl hl (by decide) rfl (fun ls hl => ?_)
  refine lv_lload_n S.1 S.2.1 dX3_digest_31 rfl (lv_at hl 0 rfl) ?_
  refine ld_X3_31 S dX3_digest_32 ?_
  refine lv_lmul S.1 S.2.1 dX3_digest_35 ?_
  refine lv_aload_n S.1 S.2.1 dX3_digest_36 rfl (lv_at hl 1 rfl) ?_
  refine cl_i hI (rnV (As := []) (rest := [.long (((((2017 * 31) + ((gX σ).2.2.1).toInt64) * 31) + ((gX σ).2.2.2).toInt64) * 31)]) S hI (c_alarms l G _) (cw_X3_X3_alarms S.2.2.2.2 ⟨Nat.le_of_ble_eq_true rfl, Nat.le_of_ble_eq_true rfl⟩) (rcX hI) rfl hl.1 (Nat.le_of_ble_eq_true rfl) dX3_digest_37 ⟨Nat.le_of_ble_eq_true rfl, Nat.le_of_ble_eq_true rfl⟩) (fun r4 σ4 H locs hq4 hI => ?_)
  obtain ⟨hr4, hs4⟩ := hq4
  rw [hs4] at hI
  rw [hr4]
  refine lv_i2l (v := ((gX σ).2.1).toInt64) S.1 S.2.1 dX3_digest_40 rfl ?_
  refine lv_ladd S.1 S.2.1 dX3_digest_41 ?_
  refine lv_lstore_n (lv' := [(1, .long ((((((2017 * 31) + ((gX σ).2.2.1).toInt64) * 31) + ((gX σ).2.2.2).toInt64) * 31) + ((gX σ).2.1).toInt64)), (0, .ref (gB G 0))]) S.1 S.2.1 dX3_digest_42 rfl hl (by decide) rfl (fun ls hl => ?_)
  refine lv_lload_n S.1 S.2.1 dX3_digest_43 rfl (lv_at hl 0 rfl) ?_
  refine ld_X3_31 S dX3_digest_44 ?_
  refine lv_lmul S.1 S.2.1 dX3_digest_47 ?_
  refine lv_aload_n S.1 S.2.1 dX3_digest_48 rfl (lv_at hl 1 rfl) ?_
  refine cl_i hI (rnV (As := []) (rest := [.long (((((((2017 * 31) + ((gX σ).2.2.1).toInt64) * 31) + ((gX σ).2.2.2).toInt64) * 31) + ((gX σ).2.1).toInt64) * 31)]) S hI (c_promises l G _) (cw_X3_X3_promises S.2.2.2.2 ⟨Nat.le_of_ble_eq_true rfl, Nat.le_of_ble_eq_true rfl⟩) (rcX hI) rfl hl.1 (Nat.le_of_ble_eq_true rfl) dX3_digest_49 ⟨Nat.le_of_ble_eq_true rfl, Nat.le_of_ble_eq_true rfl⟩) (fun r5 σ5 H locs hq5 hI => ?_)
  obtain ⟨hr5, hs5⟩ := hq5
  rw [hs5] at hI
  rw [hr5, show (gX σ).1 = nI n from by rw [hX]]
  refine lv_i2l (v := (nI n).toInt64) S.1 S.2.1 dX3_digest_52 rfl ?_
  refine lv_ladd S.1 S.2.1 dX3_digest_53 ?_
  refine lv_lstore_n (lv' := [(1, .long ((((((((2017 * 31) + ((gX σ).2.2.1).toInt64) * 31) + ((gX σ).2.2.2).toInt64) * 31) + ((gX σ).2.1).toInt64) * 31) + (nI n).toInt64)), (0, .ref (gB G 0))]) S.1 S.2.1 dX3_digest_54 rfl hl (by decide) rfl (fun ls hl => ?_)
  refine lv_lload_n S.1 S.2.1 dX3_digest_55 rfl (lv_at hl 0 rfl) ?_
  refine ld_X3_31 S dX3_digest_56 ?_
  refine lv_lmul S.1 S.2.1 dX3_digest_59 ?_
  refine lv_aload_n S.1 S.2.1 dX3_digest_60 rfl (lv_at hl 1 rfl) ?_
  refine cl_i hI (rnV (As := []) (rest := [.long (((((((((2017 * 31) + ((gX σ).2.2.1).toInt64) * 31) + ((gX σ).2.2.2).toInt64) * 31) + ((gX σ).2.1).toInt64) * 31) + (nI n).toInt64) * 31)]) S hI (c_coldest l G _) (cw_X3_X3_coldest S.2.2.2.2 ⟨Nat.le_of_ble_eq_true rfl, Nat.le_of_ble_eq_true rfl⟩) (rcX hI) rfl hl.1 (Nat.le_of_ble_eq_true rfl) dX3_digest_61 ⟨Nat.le_of_ble_eq_true rfl, Nat.le_of_ble_eq_true rfl⟩) (fun r6 σ6 H locs hq6 hI => ?_)
  obtain ⟨hr6, hs6⟩ := hq6
  rw [hs6] at hI
  rw [hr6]
  refine lv_i2l (v := (nI (coldF σ 4)).toInt64) S.1 S.2.1 dX3_digest_64 rfl ?_
  refine lv_ladd S.1 S.2.1 dX3_digest_65 ?_
  refine lv_lstore_n (lv' := [(1, .long ((((((((((2017 * 31) + ((gX σ).2.2.1).toInt64) * 31) + ((gX σ).2.2.2).toInt64) * 31) + ((gX σ).2.1).toInt64) * 31) + (nI n).toInt64) * 31) + (nI (coldF σ 4)).toInt64)), (0, .ref (gB G 0))]) S.1 S.2.1 dX3_digest_66 rfl hl (by decide) rfl (fun ls hl => ?_)
  refine lv_lload_n S.1 S.2.1 dX3_digest_67 rfl (lv_at hl 0 rfl) ?_
  refine ld_X3_31 S dX3_digest_68 ?_
  refine lv_lmul S.1 S.2.1 dX3_digest_71 ?_
  refine lv_aload_n S.1 S.2.1 dX3_digest_72 rfl (lv_at hl 1 rfl) ?_
  refine cl_i hI (rnV (As := []) (rest := [.long (((((((((((2017 * 31) + ((gX σ).2.2.1).toInt64) * 31) + ((gX σ).2.2.2).toInt64) * 31) + ((gX σ).2.1).toInt64) * 31) + (nI n).toInt64) * 31) + (nI (coldF σ 4)).toInt64) * 31)]) S hI (c_mostHonourable l G _ hok) (cw_X3_X3_mostHonourable S.2.2.2.2 ⟨Nat.le_of_ble_eq_true rfl, Nat.le_of_ble_eq_true rfl⟩) (rcX hI) rfl hl.1 (Nat.le_of_ble_eq_true rfl) dX3_digest_73 ⟨Nat.le_of_ble_eq_true rfl, Nat.le_of_ble_eq_true rfl⟩) (fun r7 σ7 H locs hq7 hI => ?_)
  obtain ⟨hr7, hs7⟩ := hq7
  rw [hs7] at hI
  rw [hr7]
  refine lv_i2l (v := (nI (mostF σ 5)).toInt64) S.1 S.2.1 dX3_digest_76 rfl ?_
  refine lv_ladd S.1 S.2.1 dX3_digest_77 ?_
  refine lv_lstore_n (lv' := [(1, .long ((((((((((((2017 * 31) + ((gX σ).2.2.1).toInt64) * 31) + ((gX σ).2.2.2).toInt64) * 31) + ((gX σ).2.1).toInt64) * 31) + (nI n).toInt64) * 31) + (nI (coldF σ 4)).toInt64) * 31) + (nI (mostF σ 5)).toInt64)), (0, .ref (gB G 0))]) S.1 S.2.1 dX3_digest_78 rfl hl (by decide) rfl (fun ls hl => ?_)
  refine lv_lload_n S.1 S.2.1 dX3_digest_79 rfl (lv_at hl 0 rfl) ?_
  refine ld_X3_31 S dX3_digest_80 ?_
  refine lv_lmul S.1 S.2.1 dX3_digest_83 ?_
  refine lv_aload_n S.1 S.2.1 dX3_digest_84 rfl (lv_at hl 1 rfl) ?_
  refine cl_i hI (rnV (As := []) (rest := [.long (((((((((((((2017 * 31) + ((gX σ).2.2.1).toInt64) * 31) + ((gX σ).2.2.2).toInt64) * 31) + ((gX σ).2.1).toInt64) * 31) + (nI n).toInt64) * 31) + (nI (coldF σ 4)).toInt64) * 31) + (nI (mostF σ 5)).toInt64) * 31)]) S hI (c_bestShelf l G _ hn (by rw [hX])) (cw_X3_X3_bestShelf S.2.2.2.2 ⟨Nat.le_of_ble_eq_true rfl, Nat.le_of_ble_eq_true rfl⟩) (rcX hI) rfl hl.1 (Nat.le_of_ble_eq_true rfl) dX3_digest_85 ⟨Nat.le_of_ble_eq_true rfl, Nat.le_of_ble_eq_true rfl⟩) (fun r8 σ8 H locs hq8 hI => ?_)
  obtain ⟨hr8, hs8⟩ := hq8
  rw [hr8]
  have ht8 : Tr σ σ8 := hs8
  refine lv_i2l (v := (if n < 20 then (bestF σ 5).1 else -1).toInt64) S.1 S.2.1 dX3_digest_88 rfl ?_
  refine lv_ladd S.1 S.2.1 dX3_digest_89 ?_
  refine lv_lstore_n (lv' := [(1, .long ((((((((((((((2017 * 31) + ((gX σ).2.2.1).toInt64) * 31) + ((gX σ).2.2.2).toInt64) * 31) + ((gX σ).2.1).toInt64) * 31) + (nI n).toInt64) * 31) + (nI (coldF σ 4)).toInt64) * 31) + (nI (mostF σ 5)).toInt64) * 31) + (if n < 20 then (bestF σ 5).1 else -1).toInt64)), (0, .ref (gB G 0))]) S.1 S.2.1 dX3_digest_90 rfl hl (by decide) rfl (fun ls hl => ?_)
  refine lv_lload_n S.1 S.2.1 dX3_digest_91 rfl (lv_at hl 0 rfl) ?_
  refine ld_X3_31 S dX3_digest_92 ?_
  refine lv_lmul S.1 S.2.1 dX3_digest_95 ?_
  refine lv_aload_n S.1 S.2.1 dX3_digest_96 rfl (lv_at hl 1 rfl) ?_
  refine cl_i hI (rnV (As := []) (rest := [.long (((((((((((((((2017 * 31) + ((gX σ).2.2.1).toInt64) * 31) + ((gX σ).2.2.2).toInt64) * 31) + ((gX σ).2.1).toInt64) * 31) + (nI n).toInt64) * 31) + (nI (coldF σ 4)).toInt64) * 31) + (nI (mostF σ 5)).toInt64) * 31) + (if n < 20 then (bestF σ 5).1 else -1).toInt64) * 31)]) S hI (c_hoursOfCold l G _ (hok.tr ht8)) (cw_X3_X3_hoursOfCold S.2.2.2.2 ⟨Nat.le_of_ble_eq_true rfl, Nat.le_of_ble_eq_true rfl⟩) (rcX hI) rfl hl.1 (Nat.le_of_ble_eq_true rfl) dX3_digest_97 ⟨Nat.le_of_ble_eq_true rfl, Nat.le_of_ble_eq_true rfl⟩) (fun r9 σ9 H locs hq9 hI => ?_)
  obtain ⟨hr9, hs9⟩ := hq9
  rw [Tr.ocF hok ht8 (Nat.le_refl 20)] at hr9
  rw [hr9]
  have ht9 : Tr σ σ9 := ht8.trans hs9
  refine lv_i2l (v := (ocF σ 20).toInt64) S.1 S.2.1 dX3_digest_100 rfl ?_
  refine lv_ladd S.1 S.2.1 dX3_digest_101 ?_
  refine lv_lstore_n (lv' := [(1, .long ((((((((((((((((2017 * 31) + ((gX σ).2.2.1).toInt64) * 31) + ((gX σ).2.2.2).toInt64) * 31) + ((gX σ).2.1).toInt64) * 31) + (nI n).toInt64) * 31) + (nI (coldF σ 4)).toInt64) * 31) + (nI (mostF σ 5)).toInt64) * 31) + (if n < 20 then (bestF σ 5).1 else -1).toInt64) * 31) + (ocF σ 20).toInt64)), (0, .ref (gB G 0))]) S.1 S.2.1 dX3_digest_102 rfl hl (by decide) rfl (fun ls hl => ?_)
  refine lv_aload_n S.1 S.2.1 dX3_digest_103 rfl (lv_at hl 1 rfl) ?_
  refine lv_lload_n S.1 S.2.1 dX3_digest_104 rfl (lv_at hl 0 rfl) ?_
  refine cl_l hI (rnV (As := [.long ((((((((((((((((2017 * 31) + ((gX σ).2.2.1).toInt64) * 31) + ((gX σ).2.2.2).toInt64) * 31) + ((gX σ).2.1).toInt64) * 31) + (nI n).toInt64) * 31) + (nI (coldF σ 4)).toInt64) * 31) + (nI (mostF σ 5)).toInt64) * 31) + (if n < 20 then (bestF σ 5).1 else -1).toInt64) * 31) + (ocF σ 20).toInt64)]) (rest := []) S hI (c_withShelves l G _ _) (cw_X3_X3_withShelves S.2.2.2.2 ⟨Nat.le_of_ble_eq_true rfl, Nat.le_of_ble_eq_true rfl⟩) (rcX hI) rfl hl.1 (Nat.le_of_ble_eq_true rfl) dX3_digest_105 ⟨Nat.le_of_ble_eq_true rfl, Nat.le_of_ble_eq_true rfl⟩) (fun r10 σ10 H locs hq10 hI => ?_)
  obtain ⟨hr10, hs10⟩ := hq10
  rw [hs10] at hI
  rw [Tr.dgS ht9 _ (Nat.le_refl 5)] at hr10
  rw [hr10]
  refine lv_lstore_n (lv' := [(1, .long (dgS σ ((((((((((((((((2017 * 31) + ((gX σ).2.2.1).toInt64) * 31) + ((gX σ).2.2.2).toInt64) * 31) + ((gX σ).2.1).toInt64) * 31) + (nI n).toInt64) * 31) + (nI (coldF σ 4)).toInt64) * 31) + (nI (mostF σ 5)).toInt64) * 31) + (if n < 20 then (bestF σ 5).1 else -1).toInt64) * 31) + (ocF σ 20).toInt64) 5)), (0, .ref (gB G 0))]) S.1 S.2.1 dX3_digest_108 rfl hl (by decide) rfl (fun ls hl => ?_)
  refine lv_aload_n S.1 S.2.1 dX3_digest_109 rfl (lv_at hl 1 rfl) ?_
  refine lv_lload_n S.1 S.2.1 dX3_digest_110 rfl (lv_at hl 0 rfl) ?_
  refine cl_l hI (rnV (As := [.long (dgS σ ((((((((((((((((2017 * 31) + ((gX σ).2.2.1).toInt64) * 31) + ((gX σ).2.2.2).toInt64) * 31) + ((gX σ).2.1).toInt64) * 31) + (nI n).toInt64) * 31) + (nI (coldF σ 4)).toInt64) * 31) + (nI (mostF σ 5)).toInt64) * 31) + (if n < 20 then (bestF σ 5).1 else -1).toInt64) * 31) + (ocF σ 20).toInt64) 5)]) (rest := []) S hI (c_withPromises l G _ _ (hok.tr ht9) hn (ht9.X.trans hX)) (cw_X3_X3_withPromises S.2.2.2.2 ⟨Nat.le_of_ble_eq_true rfl, Nat.le_of_ble_eq_true rfl⟩) (rcX hI) rfl hl.1 (Nat.le_of_ble_eq_true rfl) dX3_digest_111 ⟨Nat.le_of_ble_eq_true rfl, Nat.le_of_ble_eq_true rfl⟩) (fun r11 σ11 H locs hq11 hI => ?_)
  obtain ⟨hr11, hs11⟩ := hq11
  rw [hs11] at hI
  rw [Tr.dgP ht9 _ hn] at hr11
  rw [hr11]
  refine lv_lstore_n (lv' := [(1, .long (dgP σ (dgS σ ((((((((((((((((2017 * 31) + ((gX σ).2.2.1).toInt64) * 31) + ((gX σ).2.2.2).toInt64) * 31) + ((gX σ).2.1).toInt64) * 31) + (nI n).toInt64) * 31) + (nI (coldF σ 4)).toInt64) * 31) + (nI (mostF σ 5)).toInt64) * 31) + (if n < 20 then (bestF σ 5).1 else -1).toInt64) * 31) + (ocF σ 20).toInt64) 5) n)), (0, .ref (gB G 0))]) S.1 S.2.1 dX3_digest_114 rfl hl (by decide) rfl (fun ls hl => ?_)
  refine lv_aload_n S.1 S.2.1 dX3_digest_115 rfl (lv_at hl 1 rfl) ?_
  refine lv_lload_n S.1 S.2.1 dX3_digest_116 rfl (lv_at hl 0 rfl) ?_
  refine cl_l hI (rnV (As := [.long (dgP σ (dgS σ ((((((((((((((((2017 * 31) + ((gX σ).2.2.1).toInt64) * 31) + ((gX σ).2.2.2).toInt64) * 31) + ((gX σ).2.1).toInt64) * 31) + (nI n).toInt64) * 31) + (nI (coldF σ 4)).toInt64) * 31) + (nI (mostF σ 5)).toInt64) * 31) + (if n < 20 then (bestF σ 5).1 else -1).toInt64) * 31) + (ocF σ 20).toInt64) 5) n)]) (rest := []) S hI (c_withMakers l G _ _ (hok.tr ht9)) (cw_X3_X3_withMakers S.2.2.2.2 ⟨Nat.le_of_ble_eq_true rfl, Nat.le_of_ble_eq_true rfl⟩) (rcX hI) rfl hl.1 (Nat.le_of_ble_eq_true rfl) dX3_digest_117 ⟨Nat.le_of_ble_eq_true rfl, Nat.le_of_ble_eq_true rfl⟩) (fun r12 σ12 H locs hq12 hI => ?_)
  obtain ⟨hr12, hs12⟩ := hq12
  rw [hs12] at hI
  rw [Tr.dgM ht9 _ 6] at hr12
  rw [hr12]
  exact xt_l S hI hr hlk (⟨rfl, ht9⟩) (by decide) (by decide) dX3_digest_120
set_option maxRecDepth 100000 in
set_option maxHeartbeats 4000000 in
theorem c_make (l : Launch) (G : Gt) (σ : St) {a b k n : Nat} (ha : a < 6) (hb1 : 1 ≤ b) (hb : b ≤ 100) (hk : k < 5) (hn : n < 20) {ar hh pw : Int32} (hX : gX σ = (nI n, ar, hh, pw)) : Ct l G yX3_make cX3_make 6 (some .int) 2 0 0 [.ref (gB G 0), .int (nI a), .int (nI b), .int (nI k)] σ (Qi G (fun r σ' => r = nI n ∧ σ' = setX (setS (setP σ n (1, k, nI a, nI b, 0, 20)) k ((gS σ k).1, openH (gS σ k).2)) (nI (n + 1), ar, hh, pw))) := by
  refine mt_intro (by decide +kernel) (Nat.le_of_ble_eq_true rfl) ?_
  intro p e s m below meth c S hr hlk hnm hI ls hl
  have hl : lv_has ls 6 [(0, .ref (gB G 0)), (1, .int (nI a)), (2, .int (nI b)), (3, .int (nI k))] := hl
  refine lv_iload_n S.1 S.2.1 dX3_make_0 rfl (lv_at hl 1 rfl) ?_
  refine cl_v hI (rnS (As := [.int (nI a)]) (rest := []) S hI (c_checkMaker l G _ ha) (cw_X3_X3_checkMaker S.2.2.2.2 ⟨Nat.le_of_ble_eq_true rfl, Nat.le_of_ble_eq_true rfl⟩) rfl hl.1 (Nat.le_of_ble_eq_true rfl) dX3_make_1 ⟨Nat.le_of_ble_eq_true rfl, Nat.le_of_ble_eq_true rfl⟩) (fun σ1 H locs hq1 hI => ?_)
  rw [hq1] at hI
  refine lv_aload_n S.1 S.2.1 dX3_make_4 rfl (lv_at hl 0 rfl) ?_
  refine lv_iload_n S.1 S.2.1 dX3_make_5 rfl (lv_at hl 3 rfl) ?_
  refine cl_q hI (rnV (As := [.int (nI k)]) (rest := []) S hI (c_findShelf l G _ hk) (cw_X3_X3_findShelf S.2.2.2.2 ⟨Nat.le_of_ble_eq_true rfl, Nat.le_of_ble_eq_true rfl⟩) (rcX hI) rfl hl.1 (Nat.le_of_ble_eq_true rfl) dX3_make_6 ⟨Nat.le_of_ble_eq_true rfl, Nat.le_of_ble_eq_true rfl⟩) (fun r2 σ2 H locs hq2 hI => ?_)
  obtain ⟨hr2, hs2⟩ := hq2
  rw [hs2] at hI
  rw [hr2]
  show W _ _ _ _ _ _ _ _ _ _ _ _ _ _ _ (F0 _ _ _ (.ref (gB G (9 + k)) :: _))
  refine lv_astore (lv' := [(4, .ref (gB G (9 + k))), (0, .ref (gB G 0)), (1, .int (nI a)), (2, .int (nI b)), (3, .int (nI k))]) S.1 S.2.1 dX3_make_9 hl (by decide) rfl (fun ls hl => ?_)
  refine lv_iload_n S.1 S.2.1 dX3_make_11 rfl (lv_at hl 3 rfl) ?_
  refine lv_iconst (v := 1) S.1 S.2.1 dX3_make_12 (by decide) ?_
  refine lv_icmp_lt (tgt := 22) S.1 S.2.1 dX3_make_13 (by decide) (fun c9 => absurd c9 (nI_nlt (b := 1) hb1 (by omega))) (fun cz_13 => ?_)
  refine lv_iload_n S.1 S.2.1 dX3_make_16 rfl (lv_at hl 3 rfl) ?_
  refine lv_bipush (v := 100) S.1 S.2.1 dX3_make_17 (by decide) ?_
  refine lv_icmp_le (tgt := 32) S.1 S.2.1 dX3_make_19 (by decide) (fun cz_19 => ?_) (fun c9 => absurd (nI_le (b := 100) hb (by omega)) c9)
  refine lv_aload_n S.1 S.2.1 dX3_make_32 rfl (lv_at hl 1 rfl) ?_
  refine g_X3_X_made S hI hX dX3_make_33 ?_
  refine lv_bipush (v := 20) S.1 S.2.1 dX3_make_36 (by decide) ?_
  refine lv_icmp_lt (tgt := 51) S.1 S.2.1 dX3_make_38 (by decide) (fun cz_38 => ?_) (fun c9 => absurd (nI_lt (b := 20) hn (by omega)) c9)
  refine lv_aload_n S.1 S.2.1 dX3_make_51 rfl (lv_at hl 1 rfl) ?_
  refine g_X3_X_made S hI hX dX3_make_52 ?_
  refine lv_istore (lv' := [(5, .int (nI n)), (4, .ref (gB G (9 + k))), (0, .ref (gB G 0)), (1, .int (nI a)), (2, .int (nI b)), (3, .int (nI k))]) S.1 S.2.1 dX3_make_55 hl (by decide) rfl (fun ls hl => ?_)
  refine lv_aload_n S.1 S.2.1 dX3_make_57 rfl (lv_at hl 2 rfl) ?_
  refine g_X3_X_promises S hI dX3_make_58 ?_
  refine lv_iload S.1 S.2.1 dX3_make_61 (lv_at hl 0 rfl) ?_
  refine a_PA S hI hn dX3_make_63 ?_
  refine lv_iload_n S.1 S.2.1 dX3_make_64 rfl (lv_at hl 3 rfl) ?_
  refine lv_iload_n S.1 S.2.1 dX3_make_65 rfl (lv_at hl 4 rfl) ?_
  refine lv_aload S.1 S.2.1 dX3_make_66 (lv_at hl 1 rfl) ?_
  refine cl_v hI (rnVN (As := [.int (nI a), .int (nI b), .ref (gB G (9 + k))]) (rest := []) S hI (c_P_lay l G _ (i := n) (by omega) (pEta _) (nI a) (nI b) (k := k) (by omega)) (cw_X3_X0_layAnew S.2.2.2.2 hI.1.2.2.2.2.2.2.2 ⟨Nat.le_of_ble_eq_true rfl, Nat.le_of_ble_eq_true rfl⟩) (rcP hI (by omega)) rfl hl.1 (Nat.le_of_ble_eq_true rfl) dX3_make_68 ⟨Nat.le_of_ble_eq_true rfl, Nat.le_of_ble_eq_true rfl⟩) (fun σ3 H locs hq3 hI => ?_)
  have ez3 := hq3
  have hP3 : gP σ3 n = (1, k, (nI a), (nI b), 0, 20) := by rw [ez3]; exact gP_setP _ _ _
  have hX__4 : gX σ3 = ((nI n), ar, hh, pw) := by rw [ez3]; exact hX
  have hf__5 : gS σ3 k = ((gS σ k).1, (gS σ k).2) := by rw [ez3]; exact (sEta (gS σ k))
  refine lv_aload S.1 S.2.1 dX3_make_71 (lv_at hl 1 rfl) ?_
  refine cl_v hI (rnVN (As := []) (rest := []) S hI (c_openDoor l G _ (i := k) (by omega) hf__5) (cw_X3_X1_openDoor S.2.2.2.2 hI.1.2.2.2.2.2.2.2 ⟨Nat.le_of_ble_eq_true rfl, Nat.le_of_ble_eq_true rfl⟩) (rcS hI (by omega)) rfl hl.1 (Nat.le_of_ble_eq_true rfl) dX3_make_73 ⟨Nat.le_of_ble_eq_true rfl, Nat.le_of_ble_eq_true rfl⟩) (fun σ6 H locs hq6 hI => ?_)
  have ez6 := hq6
  have hS6 : gS σ6 k = ((gS σ k).1, (openH (gS σ k).2)) := by rw [ez6]; exact gS_setS _ _ _
  have hX__7 : gX σ6 = ((nI n), ar, hh, pw) := by rw [ez6]; exact hX__4
  have hP3__8 : gP σ6 n = (1, k, (nI a), (nI b), 0, 20) := by rw [ez6]; exact hP3
  refine lv_aload_n S.1 S.2.1 dX3_make_76 rfl (lv_at hl 2 rfl) ?_
  refine lv_dup S.1 S.2.1 dX3_make_77 rfl ?_
  refine g_X3_X_made S hI hX__7 dX3_make_78 ?_
  refine lv_iconst (v := 1) S.1 S.2.1 dX3_make_81 (by decide) ?_
  refine lv_iadd S.1 S.2.1 dX3_make_82 ?_
  rw [show ((nI n) + 1) = (nI (n + 1)) from nI_1 n]
  refine p_X3_X_made S hI hX__7 dX3_make_83 (fun σ9 H locs ey9 hz9 hI => ?_)
  have hP3__10 : gP σ9 n = (1, k, (nI a), (nI b), 0, 20) := by rw [ey9]; exact hP3__8
  have hS6__11 : gS σ9 k = ((gS σ k).1, (openH (gS σ k).2)) := by rw [ey9]; exact hS6
  refine lv_iload S.1 S.2.1 dX3_make_86 (lv_at hl 0 rfl) ?_
  exact xt_i S hI hr hlk (⟨rfl, by rw [ey9, ez6, ez3]; try rfl⟩) (by decide) (by decide) dX3_make_88
set_option maxRecDepth 100000 in
set_option maxHeartbeats 4000000 in
theorem c_move (l : Launch) (G : Gt) (σ : St) (hok : okP σ) {i k n : Nat} (hi : i < n) (hn : n ≤ 20) (hk : k < 5) {ar hh pw : Int32} (hX : gX σ = (nI n, ar, hh, pw)) (hs : (gP σ i).2.1 < 5) (hne : ¬ (gP σ i).2.1 = k) (hg3 : ¬ (gP σ i).1 = 3) : Ct l G yX3_move cX3_move 6 (some .int) 2 0 0 [.ref (gB G 0), .int (nI i), .int (nI k)] σ (Qi G (fun r σ' => r = nI (gP σ i).2.1 ∧ σ' = setS (setS (setP σ i ((gP σ i).1, k, (gP σ i).2.2)) (gP σ i).2.1 ((gS σ (gP σ i).2.1).1, openH (gS σ (gP σ i).2.1).2)) k ((gS σ k).1, openH (gS σ k).2))) := by
  refine mt_intro (by decide +kernel) (Nat.le_of_ble_eq_true rfl) ?_
  intro p e s m below meth c S hr hlk hnm hI ls hl
  have hl : lv_has ls 6 [(0, .ref (gB G 0)), (1, .int (nI i)), (2, .int (nI k))] := hl
  refine lv_aload_n S.1 S.2.1 dX3_move_0 rfl (lv_at hl 0 rfl) ?_
  refine lv_iload_n S.1 S.2.1 dX3_move_1 rfl (lv_at hl 1 rfl) ?_
  refine cl_q hI (rnV (As := [.int (nI i)]) (rest := []) S hI (c_findPromise l G _ hi hn hX) (cw_X3_X3_findPromise S.2.2.2.2 ⟨Nat.le_of_ble_eq_true rfl, Nat.le_of_ble_eq_true rfl⟩) (rcX hI) rfl hl.1 (Nat.le_of_ble_eq_true rfl) dX3_move_2 ⟨Nat.le_of_ble_eq_true rfl, Nat.le_of_ble_eq_true rfl⟩) (fun r1 σ1 H locs hq1 hI => ?_)
  obtain ⟨hr1, hs1⟩ := hq1
  rw [hs1] at hI
  rw [hr1]
  show W _ _ _ _ _ _ _ _ _ _ _ _ _ _ _ (F0 _ _ _ (.ref (gB G (15 + i)) :: _))
  refine lv_astore_n (lv' := [(3, .ref (gB G (15 + i))), (0, .ref (gB G 0)), (1, .int (nI i)), (2, .int (nI k))]) S.1 S.2.1 dX3_move_5 rfl hl (by decide) rfl (fun ls hl => ?_)
  refine lv_aload_n S.1 S.2.1 dX3_move_6 rfl (lv_at hl 1 rfl) ?_
  refine lv_iload_n S.1 S.2.1 dX3_move_7 rfl (lv_at hl 3 rfl) ?_
  refine cl_q hI (rnV (As := [.int (nI k)]) (rest := []) S hI (c_findShelf l G _ hk) (cw_X3_X3_findShelf S.2.2.2.2 ⟨Nat.le_of_ble_eq_true rfl, Nat.le_of_ble_eq_true rfl⟩) (rcX hI) rfl hl.1 (Nat.le_of_ble_eq_true rfl) dX3_move_8 ⟨Nat.le_of_ble_eq_true rfl, Nat.le_of_ble_eq_true rfl⟩) (fun r2 σ2 H locs hq2 hI => ?_)
  obtain ⟨hr2, hs2⟩ := hq2
  rw [hs2] at hI
  rw [hr2]
  show W _ _ _ _ _ _ _ _ _ _ _ _ _ _ _ (F0 _ _ _ (.ref (gB G (9 + k)) :: _))
  refine lv_astore (lv' := [(4, .ref (gB G (9 + k))), (3, .ref (gB G (15 + i))), (0, .ref (gB G 0)), (1, .int (nI i)), (2, .int (nI k))]) S.1 S.2.1 dX3_move_11 hl (by decide) rfl (fun ls hl => ?_)
  refine lv_aload_n S.1 S.2.1 dX3_move_13 rfl (lv_at hl 1 rfl) ?_
  refine g_X3_P_shelf_s S hI (by omega) (pEta (gP σ i)) (show (gP σ i).2.1 < 6 by omega) dX3_move_14 ?_
  refine lv_astore (lv' := [(5, .ref (gB G (9 + (gP σ i).2.1))), (4, .ref (gB G (9 + k))), (3, .ref (gB G (15 + i))), (0, .ref (gB G 0)), (1, .int (nI i)), (2, .int (nI k))]) S.1 S.2.1 dX3_move_17 hl (by decide) rfl (fun ls hl => ?_)
  refine lv_aload S.1 S.2.1 dX3_move_19 (lv_at hl 0 rfl) ?_
  refine lv_ifnonnull (tgt := 34) S.1 S.2.1 dX3_move_21 (by decide) ?_
  refine lv_aload S.1 S.2.1 dX3_move_34 (lv_at hl 0 rfl) ?_
  refine lv_aload S.1 S.2.1 dX3_move_36 (lv_at hl 1 rfl) ?_
  refine ass_ne S hI (by omega) (by omega) (tgt := 51) dX3_move_38 (by decide) (fun cz_38 => ?_) (fun c9 => absurd c9 hne)
  refine lv_aload_n S.1 S.2.1 dX3_move_51 rfl (lv_at hl 2 rfl) ?_
  refine g_X3_P_stage S hI (by omega) (pEta (gP σ i)) dX3_move_52 ?_
  refine gs_X3_THAWED S hI dX3_move_55 ?_
  refine ag_ne S hI (hok i (by omega)).1 (by decide) (tgt := 71) dX3_move_58 (by decide) (fun cz_58 => ?_) (fun c9 => absurd c9 hg3)
  refine lv_aload_n S.1 S.2.1 dX3_move_71 rfl (lv_at hl 2 rfl) ?_
  refine lv_aload S.1 S.2.1 dX3_move_72 (lv_at hl 1 rfl) ?_
  refine p_X3_P_shelf_s S hI (by omega) (pEta (gP σ i)) (by omega) dX3_move_74 (fun σ3 H locs ey3 hz3 hI => ?_)
  have hf__4 : gS σ3 (gP σ i).2.1 = ((gS σ ((gP σ i).2.1)).1, (gS σ ((gP σ i).2.1)).2) := by rw [ey3]; exact (sEta (gS σ ((gP σ i).2.1)))
  have hf__5 : gS σ3 k = ((gS σ k).1, (gS σ k).2) := by rw [ey3]; exact (sEta (gS σ k))
  refine lv_aload S.1 S.2.1 dX3_move_77 (lv_at hl 0 rfl) ?_
  refine cl_v hI (rnVN (As := []) (rest := []) S hI (c_openDoor l G _ (i := (gP σ i).2.1) (by omega) hf__4) (cw_X3_X1_openDoor S.2.2.2.2 hI.1.2.2.2.2.2.2.2 ⟨Nat.le_of_ble_eq_true rfl, Nat.le_of_ble_eq_true rfl⟩) (rcS hI (by omega)) rfl hl.1 (Nat.le_of_ble_eq_true rfl) dX3_move_79 ⟨Nat.le_of_ble_eq_true rfl, Nat.le_of_ble_eq_true rfl⟩) (fun σ6 H locs hq6 hI => ?_)
  have ez6 := hq6
  have hS6 : gS σ6 (gP σ i).2.1 = ((gS σ (gP σ i).2.1).1, (openH (gS σ (gP σ i).2.1).2)) := by rw [ez6]; exact gS_setS _ _ _
  have hf__7 : gS σ6 k = ((gS σ k).1, (gS σ k).2) := by rw [ez6, gS_setS_ne _ _ (Ne.symm hne)]; exact hf__5
  have hz3__8 : gP σ6 i = ((gP σ i).1, k, (gP σ i).2.2.1, (gP σ i).2.2.2.1, (gP σ i).2.2.2.2.1, (gP σ i).2.2.2.2.2) := by rw [ez6]; exact hz3
  refine lv_aload S.1 S.2.1 dX3_move_82 (lv_at hl 1 rfl) ?_
  refine cl_v hI (rnVN (As := []) (rest := []) S hI (c_openDoor l G _ (i := k) (by omega) hf__7) (cw_X3_X1_openDoor S.2.2.2.2 hI.1.2.2.2.2.2.2.2 ⟨Nat.le_of_ble_eq_true rfl, Nat.le_of_ble_eq_true rfl⟩) (rcS hI (by omega)) rfl hl.1 (Nat.le_of_ble_eq_true rfl) dX3_move_84 ⟨Nat.le_of_ble_eq_true rfl, Nat.le_of_ble_eq_true rfl⟩) (fun σ9 H locs hq9 hI => ?_)
  have ez9 := hq9
  have hS9 : gS σ9 k = ((gS σ k).1, (openH (gS σ k).2)) := by rw [ez9]; exact gS_setS _ _ _
  have hz3__10 : gP σ9 i = ((gP σ i).1, k, (gP σ i).2.2.1, (gP σ i).2.2.2.1, (gP σ i).2.2.2.2.1, (gP σ i).2.2.2.2.2) := by rw [ez9]; exact hz3__8
  have hS6__11 : gS σ9 (gP σ i).2.1 = ((gS σ (gP σ i).2.1).1, (openH (gS σ (gP σ i).2.1).2)) := by rw [ez9, gS_setS_ne _ _ hne]; exact hS6
  refine lv_aload S.1 S.2.1 dX3_move_87 (lv_at hl 0 rfl) ?_
  refine g_X3_S_number S hI (by omega) hS6__11 dX3_move_89 ?_
  rw [show (if (gP σ i).2.1 < 5 then nI ((gP σ i).2.1) else -1) = (nI (gP σ i).2.1) from if_pos hs]
  exact xt_i S hI hr hlk (⟨rfl, by rw [ez9, ez6, ey3]; try rfl⟩) (by decide) (by decide) dX3_move_92
set_option maxRecDepth 100000 in
set_option maxHeartbeats 4000000 in
theorem c_keep (l : Launch) (G : Gt) (σ : St) (hok : okP σ) {i n : Nat} (hi : i < n) (hn : n ≤ 20) {ar hh pw : Int32} (hX : gX σ = (nI n, ar, hh, pw)) (hs : (gP σ i).2.1 < 5) : Ct l G yX3_keep cX3_keep 4 (some .int) 2 0 0 [.ref (gB G 0), .int (nI i)] σ (Qi G (fun r σ' => r = (gP σ i).2.2.2.1 - (gP σ i).2.2.2.2.1 ∧ σ' = setS (setP σ i (4, 6, (gP σ i).2.2)) (gP σ i).2.1 ((gS σ (gP σ i).2.1).1, openH (gS σ (gP σ i).2.1).2))) := by
  refine mt_intro (by decide +kernel) (Nat.le_of_ble_eq_true rfl) ?_
  intro p e s m below meth c S hr hlk hnm hI ls hl
  have hl : lv_has ls 4 [(0, .ref (gB G 0)), (1, .int (nI i))] := hl
  refine lv_aload_n S.1 S.2.1 dX3_keep_0 rfl (lv_at hl 0 rfl) ?_
  refine lv_iload_n S.1 S.2.1 dX3_keep_1 rfl (lv_at hl 1 rfl) ?_
  refine cl_q hI (rnV (As := [.int (nI i)]) (rest := []) S hI (c_findPromise l G _ hi hn hX) (cw_X3_X3_findPromise S.2.2.2.2 ⟨Nat.le_of_ble_eq_true rfl, Nat.le_of_ble_eq_true rfl⟩) (rcX hI) rfl hl.1 (Nat.le_of_ble_eq_true rfl) dX3_keep_2 ⟨Nat.le_of_ble_eq_true rfl, Nat.le_of_ble_eq_true rfl⟩) (fun r1 σ1 H locs hq1 hI => ?_)
  obtain ⟨hr1, hs1⟩ := hq1
  rw [hs1] at hI
  rw [hr1]
  show W _ _ _ _ _ _ _ _ _ _ _ _ _ _ _ (F0 _ _ _ (.ref (gB G (15 + i)) :: _))
  refine lv_astore_n (lv' := [(2, .ref (gB G (15 + i))), (0, .ref (gB G 0)), (1, .int (nI i))]) S.1 S.2.1 dX3_keep_5 rfl hl (by decide) rfl (fun ls hl => ?_)
  refine lv_aload_n S.1 S.2.1 dX3_keep_6 rfl (lv_at hl 0 rfl) ?_
  refine g_X3_P_shelf_s S hI (by omega) (pEta (gP σ i)) (show (gP σ i).2.1 < 6 by omega) dX3_keep_7 ?_
  refine lv_astore_n (lv' := [(3, .ref (gB G (9 + (gP σ i).2.1))), (2, .ref (gB G (15 + i))), (0, .ref (gB G 0)), (1, .int (nI i))]) S.1 S.2.1 dX3_keep_10 rfl hl (by decide) rfl (fun ls hl => ?_)
  refine lv_aload_n S.1 S.2.1 dX3_keep_11 rfl (lv_at hl 0 rfl) ?_
  refine lv_ifnonnull (tgt := 25) S.1 S.2.1 dX3_keep_12 (by decide) ?_
  refine lv_aload_n S.1 S.2.1 dX3_keep_25 rfl (lv_at hl 1 rfl) ?_
  refine gs_X3_KEPT S hI dX3_keep_26 ?_
  refine cl_v hI (rnVN (As := [.ref (gE G 4)]) (rest := []) S hI (c_P_leave l G _ (i := i) (by omega) (pEta (gP σ i)) 4) (cw_X3_X0_leaveAs S.2.2.2.2 hI.1.2.2.2.2.2.2.2 ⟨Nat.le_of_ble_eq_true rfl, Nat.le_of_ble_eq_true rfl⟩) (rcP hI (by omega)) rfl hl.1 (Nat.le_of_ble_eq_true rfl) dX3_keep_29 ⟨Nat.le_of_ble_eq_true rfl, Nat.le_of_ble_eq_true rfl⟩) (fun σ2 H locs hq2 hI => ?_)
  have ez2 := hq2
  have hP2 : gP σ2 i = (4, 6, (gP σ i).2.2.1, (gP σ i).2.2.2.1, (gP σ i).2.2.2.2.1, (gP σ i).2.2.2.2.2) := by rw [ez2]; exact gP_setP _ _ _
  have hf__3 : gS σ2 (gP σ i).2.1 = ((gS σ ((gP σ i).2.1)).1, (gS σ ((gP σ i).2.1)).2) := by rw [ez2]; exact (sEta (gS σ ((gP σ i).2.1)))
  refine lv_aload_n S.1 S.2.1 dX3_keep_32 rfl (lv_at hl 0 rfl) ?_
  refine cl_v hI (rnVN (As := []) (rest := []) S hI (c_openDoor l G _ (i := (gP σ i).2.1) (by omega) hf__3) (cw_X3_X1_openDoor S.2.2.2.2 hI.1.2.2.2.2.2.2.2 ⟨Nat.le_of_ble_eq_true rfl, Nat.le_of_ble_eq_true rfl⟩) (rcS hI (by omega)) rfl hl.1 (Nat.le_of_ble_eq_true rfl) dX3_keep_33 ⟨Nat.le_of_ble_eq_true rfl, Nat.le_of_ble_eq_true rfl⟩) (fun σ4 H locs hq4 hI => ?_)
  have ez4 := hq4
  have hS4 : gS σ4 (gP σ i).2.1 = ((gS σ (gP σ i).2.1).1, (openH (gS σ (gP σ i).2.1).2)) := by rw [ez4]; exact gS_setS _ _ _
  have hP2__5 : gP σ4 i = (4, 6, (gP σ i).2.2.1, (gP σ i).2.2.2.1, (gP σ i).2.2.2.2.1, (gP σ i).2.2.2.2.2) := by rw [ez4]; exact hP2
  refine lv_aload_n S.1 S.2.1 dX3_keep_36 rfl (lv_at hl 1 rfl) ?_
  refine g_X3_P_life S hI (by omega) hP2__5 dX3_keep_37 ?_
  refine lv_aload_n S.1 S.2.1 dX3_keep_40 rfl (lv_at hl 1 rfl) ?_
  refine g_X3_P_age S hI (by omega) hP2__5 dX3_keep_41 ?_
  refine lv_isub S.1 S.2.1 dX3_keep_44 ?_
  exact xt_i S hI hr hlk (⟨rfl, by rw [ez4, ez2]; try rfl⟩) (by decide) (by decide) dX3_keep_45
set_option maxRecDepth 100000 in
set_option maxHeartbeats 4000000 in
theorem c_set (l : Launch) (G : Gt) (σ : St) {k : Nat} (hk : k < 5) {v : Int32} (hv1 : ¬ v < -30) (hv2 : v ≤ -5) : Ct l G yX3_set cX3_set 5 (some .int) 2 0 0 [.ref (gB G 0), .int (nI k), .int v] σ (Qi G (fun r σ' => r = (gS σ k).1 ∧ σ' = setS σ k (v, (gS σ k).2))) := by
  refine mt_intro (by decide +kernel) (Nat.le_of_ble_eq_true rfl) ?_
  intro p e s m below meth c S hr hlk hnm hI ls hl
  have hl : lv_has ls 5 [(0, .ref (gB G 0)), (1, .int (nI k)), (2, .int v)] := hl
  refine lv_aload_n S.1 S.2.1 dX3_set_0 rfl (lv_at hl 0 rfl) ?_
  refine lv_iload_n S.1 S.2.1 dX3_set_1 rfl (lv_at hl 1 rfl) ?_
  refine cl_q hI (rnV (As := [.int (nI k)]) (rest := []) S hI (c_findShelf l G _ hk) (cw_X3_X3_findShelf S.2.2.2.2 ⟨Nat.le_of_ble_eq_true rfl, Nat.le_of_ble_eq_true rfl⟩) (rcX hI) rfl hl.1 (Nat.le_of_ble_eq_true rfl) dX3_set_2 ⟨Nat.le_of_ble_eq_true rfl, Nat.le_of_ble_eq_true rfl⟩) (fun r1 σ1 H locs hq1 hI => ?_)
  obtain ⟨hr1, hs1⟩ := hq1
  rw [hs1] at hI
  rw [hr1]
  show W _ _ _ _ _ _ _ _ _ _ _ _ _ _ _ (F0 _ _ _ (.ref (gB G (9 + k)) :: _))
  refine lv_astore_n (lv' := [(3, .ref (gB G (9 + k))), (0, .ref (gB G 0)), (1, .int (nI k)), (2, .int v)]) S.1 S.2.1 dX3_set_5 rfl hl (by decide) rfl (fun ls hl => ?_)
  refine lv_iload_n S.1 S.2.1 dX3_set_6 rfl (lv_at hl 3 rfl) ?_
  refine lv_bipush (v := (-30)) S.1 S.2.1 dX3_set_7 (by decide) ?_
  refine lv_icmp_lt (tgt := 18) S.1 S.2.1 dX3_set_9 (by decide) (fun c9 => absurd c9 hv1) (fun cz_9 => ?_)
  refine lv_iload_n S.1 S.2.1 dX3_set_12 rfl (lv_at hl 3 rfl) ?_
  refine lv_bipush (v := (-5)) S.1 S.2.1 dX3_set_13 (by decide) ?_
  refine lv_icmp_le (tgt := 28) S.1 S.2.1 dX3_set_15 (by decide) (fun cz_15 => ?_) (fun c9 => absurd hv2 c9)
  refine lv_aload_n S.1 S.2.1 dX3_set_28 rfl (lv_at hl 0 rfl) ?_
  refine g_X3_S_setting S hI (by omega) (sEta (gS σ k)) dX3_set_29 ?_
  refine lv_istore (lv' := [(4, .int ((gS σ k).1)), (3, .ref (gB G (9 + k))), (0, .ref (gB G 0)), (1, .int (nI k)), (2, .int v)]) S.1 S.2.1 dX3_set_32 hl (by decide) rfl (fun ls hl => ?_)
  refine lv_aload_n S.1 S.2.1 dX3_set_34 rfl (lv_at hl 1 rfl) ?_
  refine lv_iload_n S.1 S.2.1 dX3_set_35 rfl (lv_at hl 4 rfl) ?_
  refine p_X3_S_setting S hI (by omega) (sEta (gS σ k)) dX3_set_36 (fun σ2 H locs ey2 hz2 hI => ?_)
  refine lv_iload S.1 S.2.1 dX3_set_39 (lv_at hl 0 rfl) ?_
  exact xt_i S hI hr hlk (⟨rfl, by rw [ey2]; try rfl⟩) (by decide) (by decide) dX3_set_41
set_option maxRecDepth 100000 in
set_option maxHeartbeats 4000000 in
theorem c_switchPower (l : Launch) (G : Gt) (σ : St) (hw : (gX σ).2.2.2 = 0 ∨ (gX σ).2.2.2 = 1) : Ct l G yX3_switchPower cX3_switchPower 1 (some .boolean) 1 0 0 [.ref (gB G 0)] σ (Qi G (fun r σ' => r = (if (gX σ).2.2.2 = 0 then 1 else 0) ∧ σ' = setX σ ((gX σ).1, (gX σ).2.1, (gX σ).2.2.1, (if (gX σ).2.2.2 = 0 then 1 else 0)))) := by
  refine mt_intro (by decide +kernel) (Nat.le_of_ble_eq_true rfl) ?_
  intro p e s m below meth c S hr hlk hnm hI ls hl
  have hl : lv_has ls 1 [(0, .ref (gB G 0))] := hl
  refine lv_aload_n S.1 S.2.1 dX3_switchPower_0 rfl (lv_at hl 0 rfl) ?_
  refine lv_aload_n S.1 S.2.1 dX3_switchPower_1 rfl (lv_at hl 0 rfl) ?_
  refine g_X3_X_power S hI (xEta (gX σ)) dX3_switchPower_2 ?_
  refine lv_if_ne (tgt := 12) S.1 S.2.1 dX3_switchPower_5 (by decide) (fun cz_5 => ?_) (fun cz_5 => ?_)
  · refine lv_iconst (v := 0) S.1 S.2.1 dX3_switchPower_12 (by decide) ?_
    refine p_X3_X_power S hI (xEta (gX σ)) (by decide) dX3_switchPower_13 (fun σ1 H locs ey1 hz1 hI => ?_)
    refine lv_aload_n S.1 S.2.1 dX3_switchPower_16 rfl (lv_at hl 0 rfl) ?_
    refine g_X3_X_power S hI hz1 dX3_switchPower_17 ?_
    exact xt_z S hI hr hlk rfl (by rw [if_neg cz_5]; exact ⟨rfl, by rw [ey1]; try rfl⟩) (by decide) (by decide) dX3_switchPower_20
  · refine lv_iconst (v := 1) S.1 S.2.1 dX3_switchPower_8 (by decide) ?_
    refine lv_goto (tgt := 13) S.1 S.2.1 dX3_switchPower_9 (by decide) ?_
    refine p_X3_X_power S hI (xEta (gX σ)) (by decide) dX3_switchPower_13 (fun σ2 H locs ey2 hz2 hI => ?_)
    refine lv_aload_n S.1 S.2.1 dX3_switchPower_16 rfl (lv_at hl 0 rfl) ?_
    refine g_X3_X_power S hI hz2 dX3_switchPower_17 ?_
    exact xt_z S hI hr hlk rfl (by rw [if_pos cz_5]; exact ⟨rfl, by rw [ey2]; try rfl⟩) (by decide) (by decide) dX3_switchPower_20
end
