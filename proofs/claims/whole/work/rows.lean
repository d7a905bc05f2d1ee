section
-- ===== PART A: goes FIRST, ahead of the names: the tables' words, and 'selects' of the private methods out of them =====
/-- a private method of a class that the tables say can be made, by its rows of tables_1 -/
def lw_okq (q : MethodName × Nat) : Prop := (q.1.cls ≠ "java/lang/invoke/MethodHandle" ∧ q.1.cls ≠ "java/lang/invoke/VarHandle") ∧ Cond.instantiable q.1.cls q.2 ∈ tables_1 ∧ Cond.privateMethod q.1 ∈ tables_1 ∧ Cond.instanceMethod q.1 ∈ tables_1
theorem lw_p0 : lw_okq (⟨"CashRecycler", "wakeUp", "()V"⟩, 12) := ⟨⟨by decide +kernel, by decide +kernel⟩, List.mem_of_getElem? (i := 18) (by decide +kernel), List.mem_of_getElem? (i := 170) (by decide +kernel), List.mem_of_getElem? (i := 171) (by decide +kernel)⟩
theorem lw_p1 : lw_okq (⟨"CashRecycler", "shut", "()V"⟩, 12) := ⟨⟨by decide +kernel, by decide +kernel⟩, List.mem_of_getElem? (i := 18) (by decide +kernel), List.mem_of_getElem? (i := 174) (by decide +kernel), List.mem_of_getElem? (i := 175) (by decide +kernel)⟩
theorem lw_p2 : lw_okq (⟨"CashRecycler", "recover", "()V"⟩, 12) := ⟨⟨by decide +kernel, by decide +kernel⟩, List.mem_of_getElem? (i := 18) (by decide +kernel), List.mem_of_getElem? (i := 182) (by decide +kernel), List.mem_of_getElem? (i := 183) (by decide +kernel)⟩
theorem lw_p3 : lw_okq (⟨"CashRecycler", "sendToReject", "(I)V"⟩, 12) := ⟨⟨by decide +kernel, by decide +kernel⟩, List.mem_of_getElem? (i := 18) (by decide +kernel), List.mem_of_getElem? (i := 194) (by decide +kernel), List.mem_of_getElem? (i := 195) (by decide +kernel)⟩
theorem lw_p4 : lw_okq (⟨"CashRecycler", "isRunning", "()Z"⟩, 12) := ⟨⟨by decide +kernel, by decide +kernel⟩, List.mem_of_getElem? (i := 18) (by decide +kernel), List.mem_of_getElem? (i := 215) (by decide +kernel), List.mem_of_getElem? (i := 216) (by decide +kernel)⟩
theorem lw_p5 : lw_okq (⟨"CashRecycler", "countNotes", "(II)I"⟩, 12) := ⟨⟨by decide +kernel, by decide +kernel⟩, List.mem_of_getElem? (i := 18) (by decide +kernel), List.mem_of_getElem? (i := 231) (by decide +kernel), List.mem_of_getElem? (i := 232) (by decide +kernel)⟩
theorem lw_p6 : lw_okq (⟨"java/lang/Throwable", "fillInStackTrace", "(I)Ljava/lang/Throwable;"⟩, 6) := ⟨⟨by decide +kernel, by decide +kernel⟩, List.mem_of_getElem? (i := 302) (by decide +kernel), List.mem_of_getElem? (i := 300) (by decide +kernel), List.mem_of_getElem? (i := 301) (by decide +kernel)⟩
theorem lw_p7 : lw_okq (⟨"CashRecycler", "isReady", "(I)Z"⟩, 12) := ⟨⟨by decide +kernel, by decide +kernel⟩, List.mem_of_getElem? (i := 18) (by decide +kernel), List.mem_of_getElem? (i := 364) (by decide +kernel), List.mem_of_getElem? (i := 365) (by decide +kernel)⟩
theorem lw_p8 : lw_okq (⟨"CashRecycler$Plan", "fillUp", "(III)V"⟩, 3) := ⟨⟨by decide +kernel, by decide +kernel⟩, List.mem_of_getElem? (i := 101) (by decide +kernel), List.mem_of_getElem? (i := 403) (by decide +kernel), List.mem_of_getElem? (i := 404) (by decide +kernel)⟩
theorem lw_p9 : lw_okq (⟨"CashRecycler", "stepOnce", "()V"⟩, 12) := ⟨⟨by decide +kernel, by decide +kernel⟩, List.mem_of_getElem? (i := 18) (by decide +kernel), List.mem_of_getElem? (i := 447) (by decide +kernel), List.mem_of_getElem? (i := 448) (by decide +kernel)⟩
theorem lw_p10 : lw_okq (⟨"CashRecycler", "moveBelt", "()Z"⟩, 12) := ⟨⟨by decide +kernel, by decide +kernel⟩, List.mem_of_getElem? (i := 18) (by decide +kernel), List.mem_of_getElem? (i := 451) (by decide +kernel), List.mem_of_getElem? (i := 452) (by decide +kernel)⟩
theorem lw_p11 : lw_okq (⟨"CashRecycler", "moveNote", "(I)V"⟩, 12) := ⟨⟨by decide +kernel, by decide +kernel⟩, List.mem_of_getElem? (i := 18) (by decide +kernel), List.mem_of_getElem? (i := 459) (by decide +kernel), List.mem_of_getElem? (i := 460) (by decide +kernel)⟩
theorem lw_p12 : lw_okq (⟨"CashRecycler", "goesIn", "(II)Z"⟩, 12) := ⟨⟨by decide +kernel, by decide +kernel⟩, List.mem_of_getElem? (i := 18) (by decide +kernel), List.mem_of_getElem? (i := 473) (by decide +kernel), List.mem_of_getElem? (i := 474) (by decide +kernel)⟩
theorem lw_p13 : lw_okq (⟨"CashRecycler", "judgeNote", "()V"⟩, 12) := ⟨⟨by decide +kernel, by decide +kernel⟩, List.mem_of_getElem? (i := 18) (by decide +kernel), List.mem_of_getElem? (i := 501) (by decide +kernel), List.mem_of_getElem? (i := 502) (by decide +kernel)⟩
theorem lw_p14 : lw_okq (⟨"CashRecycler", "bringNote", "()V"⟩, 12) := ⟨⟨by decide +kernel, by decide +kernel⟩, List.mem_of_getElem? (i := 18) (by decide +kernel), List.mem_of_getElem? (i := 510) (by decide +kernel), List.mem_of_getElem? (i := 511) (by decide +kernel)⟩
theorem lw_p15 : lw_okq (⟨"CashRecycler", "bringFromSlot", "()V"⟩, 12) := ⟨⟨by decide +kernel, by decide +kernel⟩, List.mem_of_getElem? (i := 18) (by decide +kernel), List.mem_of_getElem? (i := 514) (by decide +kernel), List.mem_of_getElem? (i := 515) (by decide +kernel)⟩
def lw_privs_1 : List (MethodName × Nat) := [(⟨"CashRecycler", "wakeUp", "()V"⟩, 12), (⟨"CashRecycler", "shut", "()V"⟩, 12), (⟨"CashRecycler", "recover", "()V"⟩, 12), (⟨"CashRecycler", "sendToReject", "(I)V"⟩, 12), (⟨"CashRecycler", "isRunning", "()Z"⟩, 12), (⟨"CashRecycler", "countNotes", "(II)I"⟩, 12), (⟨"java/lang/Throwable", "fillInStackTrace", "(I)Ljava/lang/Throwable;"⟩, 6), (⟨"CashRecycler", "isReady", "(I)Z"⟩, 12), (⟨"CashRecycler$Plan", "fillUp", "(III)V"⟩, 3), (⟨"CashRecycler", "stepOnce", "()V"⟩, 12), (⟨"CashRecycler", "moveBelt", "()Z"⟩, 12), (⟨"CashRecycler", "moveNote", "(I)V"⟩, 12), (⟨"CashRecycler", "goesIn", "(II)Z"⟩, 12), (⟨"CashRecycler", "judgeNote", "()V"⟩, 12), (⟨"CashRecycler", "bringNote", "()V"⟩, 12), (⟨"CashRecycler", "bringFromSlot", "()V"⟩, 12)]
theorem lw_r1 : ∀ q ∈ lw_privs_1, lw_okq q := List.forall_mem_cons.mpr ⟨lw_p0, List.forall_mem_cons.mpr ⟨lw_p1, List.forall_mem_cons.mpr ⟨lw_p2, List.forall_mem_cons.mpr ⟨lw_p3, List.forall_mem_cons.mpr ⟨lw_p4, List.forall_mem_cons.mpr ⟨lw_p5, List.forall_mem_cons.mpr ⟨lw_p6, List.forall_mem_cons.mpr ⟨lw_p7, List.forall_mem_cons.mpr ⟨lw_p8, List.forall_mem_cons.mpr ⟨lw_p9, List.forall_mem_cons.mpr ⟨lw_p10, List.forall_mem_cons.mpr ⟨lw_p11, List.forall_mem_cons.mpr ⟨lw_p12, List.forall_mem_cons.mpr ⟨lw_p13, List.forall_mem_cons.mpr ⟨lw_p14, List.forall_mem_cons.mpr ⟨lw_p15, fun _ h => absurd h List.not_mem_nil⟩⟩⟩⟩⟩⟩⟩⟩⟩⟩⟩⟩⟩⟩⟩⟩
theorem lw_p16 : lw_okq (⟨"CashRecycler", "bringFromEscrow", "()V"⟩, 12) := ⟨⟨by decide +kernel, by decide +kernel⟩, List.mem_of_getElem? (i := 18) (by decide +kernel), List.mem_of_getElem? (i := 526) (by decide +kernel), List.mem_of_getElem? (i := 527) (by decide +kernel)⟩
theorem lw_p17 : lw_okq (⟨"CashRecycler", "storeGoal", "(I)I"⟩, 12) := ⟨⟨by decide +kernel, by decide +kernel⟩, List.mem_of_getElem? (i := 18) (by decide +kernel), List.mem_of_getElem? (i := 534) (by decide +kernel), List.mem_of_getElem? (i := 535) (by decide +kernel)⟩
theorem lw_p18 : lw_okq (⟨"CashRecycler", "bringFromCassette", "()V"⟩, 12) := ⟨⟨by decide +kernel, by decide +kernel⟩, List.mem_of_getElem? (i := 18) (by decide +kernel), List.mem_of_getElem? (i := 547) (by decide +kernel), List.mem_of_getElem? (i := 548) (by decide +kernel)⟩
theorem lw_p19 : lw_okq (⟨"CashRecycler", "endIfDone", "()V"⟩, 12) := ⟨⟨by decide +kernel, by decide +kernel⟩, List.mem_of_getElem? (i := 18) (by decide +kernel), List.mem_of_getElem? (i := 569) (by decide +kernel), List.mem_of_getElem? (i := 570) (by decide +kernel)⟩
theorem lw_p20 : lw_okq (⟨"CashRecycler", "endCounting", "()V"⟩, 12) := ⟨⟨by decide +kernel, by decide +kernel⟩, List.mem_of_getElem? (i := 18) (by decide +kernel), List.mem_of_getElem? (i := 573) (by decide +kernel), List.mem_of_getElem? (i := 574) (by decide +kernel)⟩
theorem lw_p21 : lw_okq (⟨"CashRecycler", "jamIfStuck", "(Z)V"⟩, 12) := ⟨⟨by decide +kernel, by decide +kernel⟩, List.mem_of_getElem? (i := 18) (by decide +kernel), List.mem_of_getElem? (i := 577) (by decide +kernel), List.mem_of_getElem? (i := 578) (by decide +kernel)⟩
theorem lw_p22 : lw_okq (⟨"CashRecycler", "emptyCassette", "(I)I"⟩, 12) := ⟨⟨by decide +kernel, by decide +kernel⟩, List.mem_of_getElem? (i := 18) (by decide +kernel), List.mem_of_getElem? (i := 675) (by decide +kernel), List.mem_of_getElem? (i := 676) (by decide +kernel)⟩
theorem lw_p23 : lw_okq (⟨"CashRecyclerModel", "plans", "(I)Z"⟩, 25) := ⟨⟨by decide +kernel, by decide +kernel⟩, List.mem_of_getElem? (i := 700) (by decide +kernel), List.mem_of_getElem? (i := 813) (by decide +kernel), List.mem_of_getElem? (i := 814) (by decide +kernel)⟩
theorem lw_p24 : lw_okq (⟨"CashRecyclerModel", "inStores", "(I)I"⟩, 25) := ⟨⟨by decide +kernel, by decide +kernel⟩, List.mem_of_getElem? (i := 700) (by decide +kernel), List.mem_of_getElem? (i := 817) (by decide +kernel), List.mem_of_getElem? (i := 818) (by decide +kernel)⟩
theorem lw_p25 : lw_okq (⟨"CashRecyclerModel", "three", "(III)V"⟩, 25) := ⟨⟨by decide +kernel, by decide +kernel⟩, List.mem_of_getElem? (i := 700) (by decide +kernel), List.mem_of_getElem? (i := 821) (by decide +kernel), List.mem_of_getElem? (i := 822) (by decide +kernel)⟩
theorem lw_p26 : lw_okq (⟨"CashRecyclerModel", "moves", "()Z"⟩, 25) := ⟨⟨by decide +kernel, by decide +kernel⟩, List.mem_of_getElem? (i := 700) (by decide +kernel), List.mem_of_getElem? (i := 833) (by decide +kernel), List.mem_of_getElem? (i := 834) (by decide +kernel)⟩
theorem lw_p27 : lw_okq (⟨"CashRecyclerModel", "goes", "(I)Z"⟩, 25) := ⟨⟨by decide +kernel, by decide +kernel⟩, List.mem_of_getElem? (i := 700) (by decide +kernel), List.mem_of_getElem? (i := 840) (by decide +kernel), List.mem_of_getElem? (i := 841) (by decide +kernel)⟩
theorem lw_p28 : lw_okq (⟨"CashRecyclerModel", "put", "(III)V"⟩, 25) := ⟨⟨by decide +kernel, by decide +kernel⟩, List.mem_of_getElem? (i := 700) (by decide +kernel), List.mem_of_getElem? (i := 844) (by decide +kernel), List.mem_of_getElem? (i := 845) (by decide +kernel)⟩
theorem lw_p29 : lw_okq (⟨"CashRecyclerModel", "judge", "()V"⟩, 25) := ⟨⟨by decide +kernel, by decide +kernel⟩, List.mem_of_getElem? (i := 700) (by decide +kernel), List.mem_of_getElem? (i := 848) (by decide +kernel), List.mem_of_getElem? (i := 849) (by decide +kernel)⟩
theorem lw_p30 : lw_okq (⟨"CashRecyclerModel", "comes", "()V"⟩, 25) := ⟨⟨by decide +kernel, by decide +kernel⟩, List.mem_of_getElem? (i := 700) (by decide +kernel), List.mem_of_getElem? (i := 852) (by decide +kernel), List.mem_of_getElem? (i := 853) (by decide +kernel)⟩
theorem lw_p31 : lw_okq (⟨"CashRecyclerModel", "onBelt", "()I"⟩, 25) := ⟨⟨by decide +kernel, by decide +kernel⟩, List.mem_of_getElem? (i := 700) (by decide +kernel), List.mem_of_getElem? (i := 856) (by decide +kernel), List.mem_of_getElem? (i := 857) (by decide +kernel)⟩
def lw_privs_2 : List (MethodName × Nat) := [(⟨"CashRecycler", "bringFromEscrow", "()V"⟩, 12), (⟨"CashRecycler", "storeGoal", "(I)I"⟩, 12), (⟨"CashRecycler", "bringFromCassette", "()V"⟩, 12), (⟨"CashRecycler", "endIfDone", "()V"⟩, 12), (⟨"CashRecycler", "endCounting", "()V"⟩, 12), (⟨"CashRecycler", "jamIfStuck", "(Z)V"⟩, 12), (⟨"CashRecycler", "emptyCassette", "(I)I"⟩, 12), (⟨"CashRecyclerModel", "plans", "(I)Z"⟩, 25), (⟨"CashRecyclerModel", "inStores", "(I)I"⟩, 25), (⟨"CashRecyclerModel", "three", "(III)V"⟩, 25), (⟨"CashRecyclerModel", "moves", "()Z"⟩, 25), (⟨"CashRecyclerModel", "goes", "(I)Z"⟩, 25), (⟨"CashRecyclerModel", "put", "(III)V"⟩, 25), (⟨"CashRecyclerModel", "judge", "()V"⟩, 25), (⟨"CashRecyclerModel", "comes", "()V"⟩, 25), (⟨"CashRecyclerModel", "onBelt", "()I"⟩, 25)]
theorem lw_r2 : ∀ q ∈ lw_privs_2, lw_okq q := List.forall_mem_cons.mpr ⟨lw_p16, List.forall_mem_cons.mpr ⟨lw_p17, List.forall_mem_cons.mpr ⟨lw_p18, List.forall_mem_cons.mpr ⟨lw_p19, List.forall_mem_cons.mpr ⟨lw_p20, List.forall_mem_cons.mpr ⟨lw_p21, List.forall_mem_cons.mpr ⟨lw_p22, List.forall_mem_cons.mpr ⟨lw_p23, List.forall_mem_cons.mpr ⟨lw_p24, List.forall_mem_cons.mpr ⟨lw_p25, List.forall_mem_cons.mpr ⟨lw_p26, List.forall_mem_cons.mpr ⟨lw_p27, List.forall_mem_cons.mpr ⟨lw_p28, List.forall_mem_cons.mpr ⟨lw_p29, List.forall_mem_cons.mpr ⟨lw_p30, List.forall_mem_cons.mpr ⟨lw_p31, fun _ h => absurd h List.not_mem_nil⟩⟩⟩⟩⟩⟩⟩⟩⟩⟩⟩⟩⟩⟩⟩⟩
theorem lw_p32 : lw_okq (⟨"CashRecyclerModel", "goalFor", "(I)I"⟩, 25) := ⟨⟨by decide +kernel, by decide +kernel⟩, List.mem_of_getElem? (i := 700) (by decide +kernel), List.mem_of_getElem? (i := 860) (by decide +kernel), List.mem_of_getElem? (i := 861) (by decide +kernel)⟩
theorem lw_p33 : lw_okq (⟨"CashRecyclerModel", "pays", "()V"⟩, 25) := ⟨⟨by decide +kernel, by decide +kernel⟩, List.mem_of_getElem? (i := 700) (by decide +kernel), List.mem_of_getElem? (i := 864) (by decide +kernel), List.mem_of_getElem? (i := 865) (by decide +kernel)⟩
theorem lw_p34 : lw_okq (⟨"CashRecyclerModel", "changes", "()V"⟩, 25) := ⟨⟨by decide +kernel, by decide +kernel⟩, List.mem_of_getElem? (i := 700) (by decide +kernel), List.mem_of_getElem? (i := 868) (by decide +kernel), List.mem_of_getElem? (i := 869) (by decide +kernel)⟩
theorem lw_p35 : lw_okq (⟨"CashRecyclerModel", "shut", "()V"⟩, 25) := ⟨⟨by decide +kernel, by decide +kernel⟩, List.mem_of_getElem? (i := 700) (by decide +kernel), List.mem_of_getElem? (i := 896) (by decide +kernel), List.mem_of_getElem? (i := 897) (by decide +kernel)⟩
theorem lw_p36 : lw_okq (⟨"CashRecyclerModel", "isStuck", "()Z"⟩, 25) := ⟨⟨by decide +kernel, by decide +kernel⟩, List.mem_of_getElem? (i := 700) (by decide +kernel), List.mem_of_getElem? (i := 900) (by decide +kernel), List.mem_of_getElem? (i := 901) (by decide +kernel)⟩
theorem lw_p37 : lw_okq (⟨"CashRecyclerModel", "recover", "()V"⟩, 25) := ⟨⟨by decide +kernel, by decide +kernel⟩, List.mem_of_getElem? (i := 700) (by decide +kernel), List.mem_of_getElem? (i := 904) (by decide +kernel), List.mem_of_getElem? (i := 905) (by decide +kernel)⟩
theorem lw_p38 : lw_okq (⟨"CashRecyclerModel", "counted", "(II)I"⟩, 25) := ⟨⟨by decide +kernel, by decide +kernel⟩, List.mem_of_getElem? (i := 700) (by decide +kernel), List.mem_of_getElem? (i := 936) (by decide +kernel), List.mem_of_getElem? (i := 937) (by decide +kernel)⟩
theorem lw_p39 : lw_okq (⟨"CashRecyclerModel", "inPile", "(I)I"⟩, 25) := ⟨⟨by decide +kernel, by decide +kernel⟩, List.mem_of_getElem? (i := 700) (by decide +kernel), List.mem_of_getElem? (i := 940) (by decide +kernel), List.mem_of_getElem? (i := 941) (by decide +kernel)⟩
theorem lw_p40 : lw_okq (⟨"CashRecyclerModel", "ofBelt", "(I)I"⟩, 25) := ⟨⟨by decide +kernel, by decide +kernel⟩, List.mem_of_getElem? (i := 700) (by decide +kernel), List.mem_of_getElem? (i := 944) (by decide +kernel), List.mem_of_getElem? (i := 945) (by decide +kernel)⟩
def lw_privs_3 : List (MethodName × Nat) := [(⟨"CashRecyclerModel", "goalFor", "(I)I"⟩, 25), (⟨"CashRecyclerModel", "pays", "()V"⟩, 25), (⟨"CashRecyclerModel", "changes", "()V"⟩, 25), (⟨"CashRecyclerModel", "shut", "()V"⟩, 25), (⟨"CashRecyclerModel", "isStuck", "()Z"⟩, 25), (⟨"CashRecyclerModel", "recover", "()V"⟩, 25), (⟨"CashRecyclerModel", "counted", "(II)I"⟩, 25), (⟨"CashRecyclerModel", "inPile", "(I)I"⟩, 25), (⟨"CashRecyclerModel", "ofBelt", "(I)I"⟩, 25)]
theorem lw_r3 : ∀ q ∈ lw_privs_3, lw_okq q := List.forall_mem_cons.mpr ⟨lw_p32, List.forall_mem_cons.mpr ⟨lw_p33, List.forall_mem_cons.mpr ⟨lw_p34, List.forall_mem_cons.mpr ⟨lw_p35, List.forall_mem_cons.mpr ⟨lw_p36, List.forall_mem_cons.mpr ⟨lw_p37, List.forall_mem_cons.mpr ⟨lw_p38, List.forall_mem_cons.mpr ⟨lw_p39, List.forall_mem_cons.mpr ⟨lw_p40, fun _ h => absurd h List.not_mem_nil⟩⟩⟩⟩⟩⟩⟩⟩⟩
def lw_privs : List (MethodName × Nat) := lw_privs_1 ++ (lw_privs_2 ++ (lw_privs_3))
def lw_tbl : List Cond := k2_sels lw_privs ++ tables_1
theorem lw_privs_ok : ∀ q ∈ lw_privs, lw_okq q := by
  show ∀ q ∈ lw_privs_1 ++ (lw_privs_2 ++ (lw_privs_3)), lw_okq q
  exact List.forall_mem_append.mpr ⟨lw_r1, List.forall_mem_append.mpr ⟨lw_r2, lw_r3⟩⟩
end
section
/-! TABLES OF OUR PURE MACHINE, written by our own program (wip/whole/gen_tables.py) out of the byte arrays and words of the Statement. -/
-- classes of the worlds: name, fields in the order of the slots (declaring class, name, descriptor, final), their types
def qR0 : String := "CashRecycler$Verdicts"
def qF0 : u_T := fun k => match k with
  | 0 => ("CashRecycler$Verdicts", "ring", "[I", true)
  | 1 => ("CashRecycler$Verdicts", "first", "I", false)
  | _ => ("CashRecycler$Verdicts", "waiting", "I", false)
def qT0 : Nat → FieldType := fun k => match k with
  | 0 => .array .int
  | 1 => .int
  | _ => .int
def qR1 : String := "CashRecycler$Track"
def qF1 : u_T := fun k => match k with
  | 0 => ("CashRecycler$Track", "kinds", "[I", true)
  | 1 => ("CashRecycler$Track", "goals", "[I", true)
  | 2 => ("CashRecycler$Track", "sticking", "[Z", true)
  | _ => ("CashRecycler$Track", "size", "I", false)
def qT1 : Nat → FieldType := fun k => match k with
  | 0 => .array .int
  | 1 => .array .int
  | 2 => .array .boolean
  | _ => .int
def qR2 : String := "CashRecycler$Escrow"
def qF2 : u_T := fun k => match k with
  | 0 => ("CashRecycler$Escrow", "pile", "[I", true)
  | _ => ("CashRecycler$Escrow", "size", "I", false)
def qT2 : Nat → FieldType := fun k => match k with
  | 0 => .array .int
  | _ => .int
def qR3 : String := "CashRecycler$Magazine"
def qF3 : u_T := fun k => match k with
  | 0 => ("CashRecycler$Magazine", "kinds", "[I", true)
  | _ => ("CashRecycler$Magazine", "sizes", "[I", true)
def qT3 : Nat → FieldType := fun k => match k with
  | 0 => .array .int
  | _ => .array .int
def qR4 : String := "CashRecycler$Books"
def qF4 : u_T := fun k => match k with
  | _ => ("CashRecycler$Books", "numbers", "[[I", true)
def qT4 : Nat → FieldType := fun k => match k with
  | _ => .array (.array .int)
def qR5 : String := "CashRecycler$Plan"
def qF5 : u_T := fun k => match k with
  | 0 => ("CashRecycler$Plan", "have", "[I", true)
  | 1 => ("CashRecycler$Plan", "counts", "[I", true)
  | _ => ("CashRecycler$Plan", "size", "I", false)
def qT5 : Nat → FieldType := fun k => match k with
  | 0 => .array .int
  | 1 => .array .int
  | _ => .int
def qR6 : String := "CashRecycler"
def qF6 : u_T := fun k => match k with
  | 0 => ("CashRecycler", "verdicts", "LCashRecycler$Verdicts;", true)
  | 1 => ("CashRecycler", "track", "LCashRecycler$Track;", true)
  | 2 => ("CashRecycler", "escrow", "LCashRecycler$Escrow;", true)
  | 3 => ("CashRecycler", "magazine", "LCashRecycler$Magazine;", true)
  | 4 => ("CashRecycler", "books", "LCashRecycler$Books;", true)
  | 5 => ("CashRecycler", "asked", "LCashRecycler$Plan;", true)
  | 6 => ("CashRecycler", "paying", "LCashRecycler$Plan;", true)
  | 7 => ("CashRecycler", "state", "I", false)
  | 8 => ("CashRecycler", "slot", "I", false)
  | 9 => ("CashRecycler", "powered", "Z", false)
  | 10 => ("CashRecycler", "opened", "Z", false)
  | _ => ("CashRecycler", "stuckBefore", "Z", false)
def qT6 : Nat → FieldType := fun k => match k with
  | 0 => .object "CashRecycler$Verdicts"
  | 1 => .object "CashRecycler$Track"
  | 2 => .object "CashRecycler$Escrow"
  | 3 => .object "CashRecycler$Magazine"
  | 4 => .object "CashRecycler$Books"
  | 5 => .object "CashRecycler$Plan"
  | 6 => .object "CashRecycler$Plan"
  | 7 => .int
  | 8 => .int
  | 9 => .boolean
  | 10 => .boolean
  | _ => .boolean
def qR7 : String := "CashRecyclerModel"
def qF7 : u_T := fun k => match k with
  | 0 => ("CashRecyclerModel", "code", "I", false)
  | 1 => ("CashRecyclerModel", "state", "I", false)
  | 2 => ("CashRecyclerModel", "off", "Z", false)
  | 3 => ("CashRecyclerModel", "open", "Z", false)
  | 4 => ("CashRecyclerModel", "stuckBefore", "Z", false)
  | 5 => ("CashRecyclerModel", "slot", "I", false)
  | 6 => ("CashRecyclerModel", "waiting", "[I", true)
  | 7 => ("CashRecyclerModel", "waits", "I", false)
  | 8 => ("CashRecyclerModel", "kindOf", "[I", true)
  | 9 => ("CashRecyclerModel", "goalOf", "[I", true)
  | 10 => ("CashRecyclerModel", "sticks", "[Z", true)
  | 11 => ("CashRecyclerModel", "pile", "[I", true)
  | 12 => ("CashRecyclerModel", "height", "I", false)
  | 13 => ("CashRecyclerModel", "storeKind", "[I", true)
  | 14 => ("CashRecyclerModel", "store", "[I", true)
  | 15 => ("CashRecyclerModel", "overflow", "[I", true)
  | 16 => ("CashRecyclerModel", "reject", "[I", true)
  | 17 => ("CashRecyclerModel", "tray", "[I", true)
  | 18 => ("CashRecyclerModel", "gone", "[I", true)
  | 19 => ("CashRecyclerModel", "emptied", "[I", true)
  | 20 => ("CashRecyclerModel", "missing", "[I", true)
  | 21 => ("CashRecyclerModel", "in", "[I", true)
  | 22 => ("CashRecyclerModel", "left", "[I", true)
  | 23 => ("CashRecyclerModel", "best", "[I", true)
  | _ => ("CashRecyclerModel", "bestCount", "I", false)
def qT7 : Nat → FieldType := fun k => match k with
  | 0 => .int
  | 1 => .int
  | 2 => .boolean
  | 3 => .boolean
  | 4 => .boolean
  | 5 => .int
  | 6 => .array .int
  | 7 => .int
  | 8 => .array .int
  | 9 => .array .int
  | 10 => .array .boolean
  | 11 => .array .int
  | 12 => .int
  | 13 => .array .int
  | 14 => .array .int
  | 15 => .array .int
  | 16 => .array .int
  | 17 => .array .int
  | 18 => .array .int
  | 19 => .array .int
  | 20 => .array .int
  | 21 => .array .int
  | 22 => .array .int
  | 23 => .array .int
  | _ => .int
abbrev qCl : List vw_C := [(qR0, qF0, 3), (qR1, qF1, 4), (qR2, qF2, 2), (qR3, qF3, 2), (qR4, qF4, 1), (qR5, qF5, 3), (qR6, qF6, 12), (qR7, qF7, 25)]
-- the shape: for each id a class of the worlds, or an array (0 int, 1 boolean, 2 of int arrays, 3 the static one) with its length
def qShL : List (Nat ⊕ (Nat × Nat)) := [.inl 6, .inl 0, .inr (0, 40), .inl 1, .inr (0, 10), .inr (0, 10), .inr (1, 10), .inl 2, .inr (0, 24), .inl 3, .inr (0, 4), .inr (0, 4), .inl 4, .inr (2, 10), .inr (0, 6), .inr (0, 6), .inr (0, 6), .inr (0, 6), .inr (0, 6), .inr (0, 6), .inr (0, 6), .inr (0, 6), .inr (0, 6), .inr (0, 6), .inl 5, .inr (0, 6), .inr (0, 6), .inl 5, .inr (0, 6), .inr (0, 6), .inl 7, .inr (0, 40), .inr (0, 10), .inr (0, 10), .inr (1, 10), .inr (0, 24), .inr (0, 4), .inr (0, 4), .inr (0, 6), .inr (0, 6), .inr (0, 6), .inr (0, 6), .inr (0, 6), .inr (0, 6), .inr (0, 6), .inr (0, 6), .inr (0, 6), .inr (3, 9)]
def qSh (o : Nat) : Option (Nat ⊕ (Nat × Nat)) := qShL[o]?
def qRfL : List (List (Option Nat)) := [[some 1, some 3, some 7, some 9, some 12, some 24, some 27, none, none, none, none, none], [some 2, none, none], [], [some 4, some 5, some 6, none], [], [], [], [some 8, none], [], [some 10, some 11], [], [], [some 13], [some 14, some 15, some 16, some 17, some 18, some 19, some 20, some 21, some 22, some 23], [], [], [], [], [], [], [], [], [], [], [some 25, some 26, none], [], [], [some 28, some 29, none], [], [], [none, none, none, none, none, none, some 31, none, some 32, some 33, some 34, some 35, none, some 36, some 37, some 38, some 39, some 40, some 41, some 42, some 43, some 44, some 45, some 46, none], [], [], [], [], [], [], [], [], [], [], [], [], [], [], [], [], []]
def qRf (o k : Nat) : Option Nat := (qRfL.getD o []).getD k none
def qX : Nat := 0
def qM : Nat := 30
def qGS : Nat := 47
def qNW : Nat := 47
def qGf : Nat → Int32 := fun k => match k with
  | 0 => -1
  | 1 => 4
  | 2 => 5
  | 3 => 5
  | 4 => 6
  | 5 => 6
  | 6 => 7
  | 7 => 8
  | _ => 9
def qEx : List String := ["java/lang/IllegalArgumentException", "java/lang/IllegalStateException", "java/lang/UnsupportedOperationException", "java/util/NoSuchElementException"]
abbrev PE : Type := Nat × Instr × Nat × List Nat
-- 0 java/lang/Math.abs(I)I
def q_J_abs : Nat := 0
def qc0 : List PE := [(0, .iload_n 0, 1, []),
  (1, .ifCond .ge 8, 3, [9]),
  (4, .iload_n 0, 1, []),
  (5, .ineg, 1, []),
  (6, .goto 4, 3, [10]),
  (9, .iload_n 0, 1, []),
  (10, .ireturn, 1, [0])]
-- 1 java/lang/Math.min(II)I
def q_J_min : Nat := 1
def qc1 : List PE := [(0, .iload_n 0, 1, []),
  (1, .iload_n 1, 1, []),
  (2, .if_icmp .gt 7, 3, [9]),
  (5, .iload_n 0, 1, []),
  (6, .goto 4, 3, [10]),
  (9, .iload_n 1, 1, []),
  (10, .ireturn, 1, [0])]
-- 2 CashRecycler$Verdicts.isFull()Z
def q_Verdicts_isFull : Nat := 2
def qc2 : List PE := [(0, .aload_n 0, 1, []),
  (1, .getfield 19, 3, [0, 2]),
  (4, .bipush 40, 2, []),
  (6, .if_icmp .lt 7, 3, [13]),
  (9, .iconst 1, 1, []),
  (10, .goto 4, 3, [14]),
  (13, .iconst 0, 1, []),
  (14, .ireturn, 1, [1])]
-- 3 CashRecycler$Verdicts.add(I)I
def q_Verdicts_add : Nat := 3
def qc3 : List PE := [(0, .aload_n 0, 1, []),
  (1, .getfield 19, 3, [0, 2]),
  (4, .bipush 40, 2, []),
  (6, .if_icmp .ge 31, 3, [37]),
  (9, .aload_n 0, 1, []),
  (10, .getfield 9, 3, [0, 0]),
  (13, .aload_n 0, 1, []),
  (14, .getfield 15, 3, [0, 1]),
  (17, .aload_n 0, 1, []),
  (18, .getfield 19, 3, [0, 2]),
  (21, .iadd, 1, []),
  (22, .bipush 40, 2, []),
  (24, .irem, 1, []),
  (25, .iload_n 1, 1, []),
  (26, .iastore, 1, []),
  (27, .aload_n 0, 1, []),
  (28, .dup, 1, []),
  (29, .getfield 19, 3, [0, 2]),
  (32, .iconst 1, 1, []),
  (33, .iadd, 1, []),
  (34, .putfield 19, 3, [0, 2, 0]),
  (37, .aload_n 0, 1, []),
  (38, .getfield 19, 3, [0, 2]),
  (41, .ireturn, 1, [0])]
-- 4 CashRecycler$Verdicts.next()I
def q_Verdicts_next : Nat := 4
def qc4 : List PE := [(0, .aload_n 0, 1, []),
  (1, .getfield 19, 3, [0, 2]),
  (4, .ifCond .ne 6, 3, [10]),
  (7, .bipush 6, 2, []),
  (9, .ireturn, 1, [0]),
  (10, .aload_n 0, 1, []),
  (11, .getfield 9, 3, [0, 0]),
  (14, .aload_n 0, 1, []),
  (15, .getfield 15, 3, [0, 1]),
  (18, .iaload, 1, []),
  (19, .istore_n 1, 1, []),
  (20, .aload_n 0, 1, []),
  (21, .aload_n 0, 1, []),
  (22, .getfield 15, 3, [0, 1]),
  (25, .iconst 1, 1, []),
  (26, .iadd, 1, []),
  (27, .bipush 40, 2, []),
  (29, .irem, 1, []),
  (30, .putfield 15, 3, [0, 1, 0]),
  (33, .aload_n 0, 1, []),
  (34, .dup, 1, []),
  (35, .getfield 19, 3, [0, 2]),
  (38, .iconst 1, 1, []),
  (39, .isub, 1, []),
  (40, .putfield 19, 3, [0, 2, 0]),
  (43, .iload_n 1, 1, []),
  (44, .ireturn, 1, [0])]
-- 5 CashRecycler$Verdicts.clear()V
def q_Verdicts_clear : Nat := 5
def qc5 : List PE := [(0, .aload_n 0, 1, []),
  (1, .iconst 0, 1, []),
  (2, .putfield 19, 3, [0, 2, 0]),
  (5, .return_, 1, [])]
-- 6 CashRecycler$Track.size()I
def q_Track_size : Nat := 6
def qc6 : List PE := [(0, .aload_n 0, 1, []),
  (1, .getfield 22, 3, [1, 3]),
  (4, .ireturn, 1, [0])]
-- 7 CashRecycler$Track.isFree(I)Z
def q_Track_isFree : Nat := 7
def qc7 : List PE := [(0, .aload_n 0, 1, []),
  (1, .getfield 15, 3, [1, 1]),
  (4, .iload_n 1, 1, []),
  (5, .iaload, 1, []),
  (6, .iconst (-1), 1, []),
  (7, .if_icmp .ne 7, 3, [14]),
  (10, .iconst 1, 1, []),
  (11, .goto 4, 3, [15]),
  (14, .iconst 0, 1, []),
  (15, .ireturn, 1, [1])]
-- 8 CashRecycler$Track.kindAt(I)I
def q_Track_kindAt : Nat := 8
def qc8 : List PE := [(0, .aload_n 0, 1, []),
  (1, .getfield 9, 3, [1, 0]),
  (4, .iload_n 1, 1, []),
  (5, .iaload, 1, []),
  (6, .ireturn, 1, [0])]
-- 9 CashRecycler$Track.goalAt(I)I
def q_Track_goalAt : Nat := 9
def qc9 : List PE := [(0, .aload_n 0, 1, []),
  (1, .getfield 15, 3, [1, 1]),
  (4, .iload_n 1, 1, []),
  (5, .iaload, 1, []),
  (6, .ireturn, 1, [0])]
-- 10 CashRecycler$Track.sticksAt(I)Z
def q_Track_sticksAt : Nat := 10
def qc10 : List PE := [(0, .aload_n 0, 1, []),
  (1, .getfield 18, 3, [1, 2]),
  (4, .iload_n 1, 1, []),
  (5, .baload, 1, []),
  (6, .ireturn, 1, [1])]
-- 11 CashRecycler$Track.isAtGoal(I)Z
def q_Track_isAtGoal : Nat := 11
def qc11 : List PE := [(0, .aload_n 0, 1, []),
  (1, .getfield 15, 3, [1, 1]),
  (4, .iload_n 1, 1, []),
  (5, .iaload, 1, []),
  (6, .ifCond .lt 21, 3, [27]),
  (9, .getstatic 26, 3, [47]),
  (12, .aload_n 0, 1, []),
  (13, .getfield 15, 3, [1, 1]),
  (16, .iload_n 1, 1, []),
  (17, .iaload, 1, []),
  (18, .iaload, 1, []),
  (19, .iload_n 1, 1, []),
  (20, .if_icmp .ne 7, 3, [27]),
  (23, .iconst 1, 1, []),
  (24, .goto 4, 3, [28]),
  (27, .iconst 0, 1, []),
  (28, .ireturn, 1, [1])]
-- 12 CashRecycler$Track.setGoal(II)V
def q_Track_setGoal : Nat := 12
def qc12 : List PE := [(0, .aload_n 0, 1, []),
  (1, .getfield 15, 3, [1, 1]),
  (4, .iload_n 1, 1, []),
  (5, .iload_n 2, 1, []),
  (6, .iastore, 1, []),
  (7, .return_, 1, [])]
-- 13 CashRecycler$Track.setSticking(IZ)V
def q_Track_setSticking : Nat := 13
def qc13 : List PE := [(0, .aload_n 0, 1, []),
  (1, .getfield 18, 3, [1, 2]),
  (4, .iload_n 1, 1, []),
  (5, .iload_n 2, 1, []),
  (6, .bastore, 1, []),
  (7, .return_, 1, [])]
-- 14 CashRecycler$Track.put(III)V
def q_Track_put : Nat := 14
def qc14 : List PE := [(0, .aload_n 0, 1, []),
  (1, .iload_n 1, 1, []),
  (2, .invokevirtual 29, 3, [7, 2]),
  (5, .ifCond .eq 13, 3, [18]),
  (8, .aload_n 0, 1, []),
  (9, .dup, 1, []),
  (10, .getfield 22, 3, [1, 3]),
  (13, .iconst 1, 1, []),
  (14, .iadd, 1, []),
  (15, .putfield 22, 3, [1, 3, 0]),
  (18, .aload_n 0, 1, []),
  (19, .getfield 9, 3, [1, 0]),
  (22, .iload_n 1, 1, []),
  (23, .iload_n 2, 1, []),
  (24, .iastore, 1, []),
  (25, .aload_n 0, 1, []),
  (26, .getfield 15, 3, [1, 1]),
  (29, .iload_n 1, 1, []),
  (30, .iload_n 3, 1, []),
  (31, .iastore, 1, []),
  (32, .return_, 1, [])]
-- 15 CashRecycler$Track.clear(I)V
def q_Track_clear : Nat := 15
def qc15 : List PE := [(0, .aload_n 0, 1, []),
  (1, .iload_n 1, 1, []),
  (2, .invokevirtual 29, 3, [7, 2]),
  (5, .ifCond .ne 13, 3, [18]),
  (8, .aload_n 0, 1, []),
  (9, .dup, 1, []),
  (10, .getfield 22, 3, [1, 3]),
  (13, .iconst 1, 1, []),
  (14, .isub, 1, []),
  (15, .putfield 22, 3, [1, 3, 0]),
  (18, .aload_n 0, 1, []),
  (19, .getfield 9, 3, [1, 0]),
  (22, .iload_n 1, 1, []),
  (23, .iconst 0, 1, []),
  (24, .iastore, 1, []),
  (25, .aload_n 0, 1, []),
  (26, .getfield 15, 3, [1, 1]),
  (29, .iload_n 1, 1, []),
  (30, .iconst (-1), 1, []),
  (31, .iastore, 1, []),
  (32, .aload_n 0, 1, []),
  (33, .getfield 18, 3, [1, 2]),
  (36, .iload_n 1, 1, []),
  (37, .iconst 0, 1, []),
  (38, .bastore, 1, []),
  (39, .return_, 1, [])]
-- 16 CashRecycler$Track.advance(I)V
def q_Track_advance : Nat := 16
def qc16 : List PE := [(0, .iload_n 1, 1, []),
  (1, .iconst 1, 1, []),
  (2, .iadd, 1, []),
  (3, .bipush 10, 2, []),
  (5, .if_icmp .ge 37, 3, [42]),
  (8, .aload_n 0, 1, []),
  (9, .iload_n 1, 1, []),
  (10, .iconst 1, 1, []),
  (11, .iadd, 1, []),
  (12, .invokevirtual 29, 3, [7, 2]),
  (15, .ifCond .eq 27, 3, [42]),
  (18, .aload_n 0, 1, []),
  (19, .iload_n 1, 1, []),
  (20, .iconst 1, 1, []),
  (21, .iadd, 1, []),
  (22, .aload_n 0, 1, []),
  (23, .getfield 9, 3, [1, 0]),
  (26, .iload_n 1, 1, []),
  (27, .iaload, 1, []),
  (28, .aload_n 0, 1, []),
  (29, .getfield 15, 3, [1, 1]),
  (32, .iload_n 1, 1, []),
  (33, .iaload, 1, []),
  (34, .invokevirtual 33, 3, [14, 4]),
  (37, .aload_n 0, 1, []),
  (38, .iload_n 1, 1, []),
  (39, .invokevirtual 37, 3, [15, 2]),
  (42, .return_, 1, [])]
-- 17 CashRecycler$Track.anySticks()Z
def q_Track_anySticks : Nat := 17
def qc17 : List PE := [(0, .iconst 0, 1, []),
  (1, .istore_n 1, 1, []),
  (2, .iload_n 1, 1, []),
  (3, .bipush 10, 2, []),
  (5, .if_icmp .ge 20, 3, [25]),
  (8, .aload_n 0, 1, []),
  (9, .getfield 18, 3, [1, 2]),
  (12, .iload_n 1, 1, []),
  (13, .baload, 1, []),
  (14, .ifCond .eq 5, 3, [19]),
  (17, .iconst 1, 1, []),
  (18, .ireturn, 1, [1]),
  (19, .iinc 1 1, 3, []),
  (22, .goto (-20), 3, [2]),
  (25, .iconst 0, 1, []),
  (26, .ireturn, 1, [1])]
-- 18 CashRecycler$Track.count(I)I
def q_Track_count : Nat := 18
def qc18 : List PE := [(0, .iconst 0, 1, []),
  (1, .istore_n 2, 1, []),
  (2, .iconst 0, 1, []),
  (3, .istore_n 3, 1, []),
  (4, .iload_n 3, 1, []),
  (5, .bipush 10, 2, []),
  (7, .if_icmp .ge 30, 3, [37]),
  (10, .aload_n 0, 1, []),
  (11, .iload_n 3, 1, []),
  (12, .invokevirtual 29, 3, [7, 2]),
  (15, .ifCond .ne 16, 3, [31]),
  (18, .aload_n 0, 1, []),
  (19, .getfield 9, 3, [1, 0]),
  (22, .iload_n 3, 1, []),
  (23, .iaload, 1, []),
  (24, .iload_n 1, 1, []),
  (25, .if_icmp .ne 6, 3, [31]),
  (28, .iinc 2 1, 3, []),
  (31, .iinc 3 1, 3, []),
  (34, .goto (-30), 3, [4]),
  (37, .iload_n 2, 1, []),
  (38, .ireturn, 1, [0])]
-- 19 CashRecycler$Track.countGoing(I)I
def q_Track_countGoing : Nat := 19
def qc19 : List PE := [(0, .iconst 0, 1, []),
  (1, .istore_n 2, 1, []),
  (2, .iconst 0, 1, []),
  (3, .istore_n 3, 1, []),
  (4, .iload_n 3, 1, []),
  (5, .bipush 10, 2, []),
  (7, .if_icmp .ge 22, 3, [29]),
  (10, .aload_n 0, 1, []),
  (11, .getfield 15, 3, [1, 1]),
  (14, .iload_n 3, 1, []),
  (15, .iaload, 1, []),
  (16, .iload_n 1, 1, []),
  (17, .if_icmp .ne 6, 3, [23]),
  (20, .iinc 2 1, 3, []),
  (23, .iinc 3 1, 3, []),
  (26, .goto (-22), 3, [4]),
  (29, .iload_n 2, 1, []),
  (30, .ireturn, 1, [0])]
-- 20 CashRecycler$Escrow.size()I
def q_Escrow_size : Nat := 20
def qc20 : List PE := [(0, .aload_n 0, 1, []),
  (1, .getfield 15, 3, [2, 1]),
  (4, .ireturn, 1, [0])]
-- 21 CashRecycler$Escrow.push(I)Z
def q_Escrow_push : Nat := 21
def qc21 : List PE := [(0, .aload_n 0, 1, []),
  (1, .getfield 15, 3, [2, 1]),
  (4, .bipush 24, 2, []),
  (6, .if_icmp .lt 5, 3, [11]),
  (9, .iconst 0, 1, []),
  (10, .ireturn, 1, [1]),
  (11, .aload_n 0, 1, []),
  (12, .getfield 9, 3, [2, 0]),
  (15, .aload_n 0, 1, []),
  (16, .getfield 15, 3, [2, 1]),
  (19, .iload_n 1, 1, []),
  (20, .iastore, 1, []),
  (21, .aload_n 0, 1, []),
  (22, .dup, 1, []),
  (23, .getfield 15, 3, [2, 1]),
  (26, .iconst 1, 1, []),
  (27, .iadd, 1, []),
  (28, .putfield 15, 3, [2, 1, 0]),
  (31, .iconst 1, 1, []),
  (32, .ireturn, 1, [1])]
-- 22 CashRecycler$Escrow.pop()I
def q_Escrow_pop : Nat := 22
def qc22 : List PE := [(0, .aload_n 0, 1, []),
  (1, .getfield 15, 3, [2, 1]),
  (4, .ifCond .ne 5, 3, [9]),
  (7, .iconst 0, 1, []),
  (8, .ireturn, 1, [0]),
  (9, .aload_n 0, 1, []),
  (10, .dup, 1, []),
  (11, .getfield 15, 3, [2, 1]),
  (14, .iconst 1, 1, []),
  (15, .isub, 1, []),
  (16, .putfield 15, 3, [2, 1, 0]),
  (19, .aload_n 0, 1, []),
  (20, .getfield 9, 3, [2, 0]),
  (23, .aload_n 0, 1, []),
  (24, .getfield 15, 3, [2, 1]),
  (27, .iaload, 1, []),
  (28, .ireturn, 1, [0])]
-- 23 CashRecycler$Escrow.count(I)I
def q_Escrow_count : Nat := 23
def qc23 : List PE := [(0, .iconst 0, 1, []),
  (1, .istore_n 2, 1, []),
  (2, .iconst 0, 1, []),
  (3, .istore_n 3, 1, []),
  (4, .iload_n 3, 1, []),
  (5, .aload_n 0, 1, []),
  (6, .getfield 15, 3, [2, 1]),
  (9, .if_icmp .ge 22, 3, [31]),
  (12, .aload_n 0, 1, []),
  (13, .getfield 9, 3, [2, 0]),
  (16, .iload_n 3, 1, []),
  (17, .iaload, 1, []),
  (18, .iload_n 1, 1, []),
  (19, .if_icmp .ne 6, 3, [25]),
  (22, .iinc 2 1, 3, []),
  (25, .iinc 3 1, 3, []),
  (28, .goto (-24), 3, [4]),
  (31, .iload_n 2, 1, []),
  (32, .ireturn, 1, [0])]
-- 24 CashRecycler$Magazine.kindOf(I)I
def q_Magazine_kindOf : Nat := 24
def qc24 : List PE := [(0, .aload_n 0, 1, []),
  (1, .getfield 9, 3, [3, 0]),
  (4, .iload_n 1, 1, []),
  (5, .iaload, 1, []),
  (6, .ireturn, 1, [0])]
-- 25 CashRecycler$Magazine.setKind(II)V
def q_Magazine_setKind : Nat := 25
def qc25 : List PE := [(0, .aload_n 0, 1, []),
  (1, .getfield 9, 3, [3, 0]),
  (4, .iload_n 1, 1, []),
  (5, .iload_n 2, 1, []),
  (6, .iastore, 1, []),
  (7, .return_, 1, [])]
-- 26 CashRecycler$Magazine.size(I)I
def q_Magazine_size : Nat := 26
def qc26 : List PE := [(0, .aload_n 0, 1, []),
  (1, .getfield 15, 3, [3, 1]),
  (4, .iload_n 1, 1, []),
  (5, .iaload, 1, []),
  (6, .ireturn, 1, [0])]
-- 27 CashRecycler$Magazine.room(I)I
def q_Magazine_room : Nat := 27
def qc27 : List PE := [(0, .bipush 30, 2, []),
  (2, .aload_n 0, 1, []),
  (3, .getfield 15, 3, [3, 1]),
  (6, .iload_n 1, 1, []),
  (7, .iaload, 1, []),
  (8, .isub, 1, []),
  (9, .ireturn, 1, [0])]
-- 28 CashRecycler$Magazine.change(II)V
def q_Magazine_change : Nat := 28
def qc28 : List PE := [(0, .aload_n 0, 1, []),
  (1, .getfield 15, 3, [3, 1]),
  (4, .iload_n 1, 1, []),
  (5, .dup2, 1, []),
  (6, .iaload, 1, []),
  (7, .iload_n 2, 1, []),
  (8, .iadd, 1, []),
  (9, .iastore, 1, []),
  (10, .return_, 1, [])]
-- 29 CashRecycler.isCassette(I)Z
def q_C_isCassette : Nat := 29
def qc29 : List PE := [(0, .iload_n 0, 1, []),
  (1, .ifCond .lt 12, 3, [13]),
  (4, .iload_n 0, 1, []),
  (5, .iconst 4, 1, []),
  (6, .if_icmp .ge 7, 3, [13]),
  (9, .iconst 1, 1, []),
  (10, .goto 4, 3, [14]),
  (13, .iconst 0, 1, []),
  (14, .ireturn, 1, [1])]
-- 30 CashRecycler$Magazine.push(II)Z
def q_Magazine_push : Nat := 30
def qc30 : List PE := [(0, .iload_n 1, 1, []),
  (1, .invokestatic 18, 3, [29, 1]),
  (4, .ifCond .eq 21, 3, [25]),
  (7, .aload_n 0, 1, []),
  (8, .getfield 9, 3, [3, 0]),
  (11, .iload_n 1, 1, []),
  (12, .iaload, 1, []),
  (13, .iload_n 2, 1, []),
  (14, .if_icmp .ne 11, 3, [25]),
  (17, .aload_n 0, 1, []),
  (18, .iload_n 1, 1, []),
  (19, .invokevirtual 22, 3, [27, 2]),
  (22, .ifCond .ne 5, 3, [27]),
  (25, .iconst 0, 1, []),
  (26, .ireturn, 1, [1]),
  (27, .aload_n 0, 1, []),
  (28, .getfield 15, 3, [3, 1]),
  (31, .iload_n 1, 1, []),
  (32, .dup2, 1, []),
  (33, .iaload, 1, []),
  (34, .iconst 1, 1, []),
  (35, .iadd, 1, []),
  (36, .iastore, 1, []),
  (37, .iconst 1, 1, []),
  (38, .ireturn, 1, [1])]
-- 31 CashRecycler$Magazine.firstWith(I)I
def q_Magazine_firstWith : Nat := 31
def qc31 : List PE := [(0, .iconst 0, 1, []),
  (1, .istore_n 2, 1, []),
  (2, .iload_n 2, 1, []),
  (3, .iconst 4, 1, []),
  (4, .if_icmp .ge 30, 3, [34]),
  (7, .aload_n 0, 1, []),
  (8, .getfield 9, 3, [3, 0]),
  (11, .iload_n 2, 1, []),
  (12, .iaload, 1, []),
  (13, .iload_n 1, 1, []),
  (14, .if_icmp .ne 14, 3, [28]),
  (17, .aload_n 0, 1, []),
  (18, .getfield 15, 3, [3, 1]),
  (21, .iload_n 2, 1, []),
  (22, .iaload, 1, []),
  (23, .ifCond .le 5, 3, [28]),
  (26, .iload_n 2, 1, []),
  (27, .ireturn, 1, [0]),
  (28, .iinc 2 1, 3, []),
  (31, .goto (-29), 3, [2]),
  (34, .iconst (-1), 1, []),
  (35, .ireturn, 1, [0])]
-- 32 CashRecycler$Magazine.count(I)I
def q_Magazine_count : Nat := 32
def qc32 : List PE := [(0, .iconst 0, 1, []),
  (1, .istore_n 2, 1, []),
  (2, .iconst 0, 1, []),
  (3, .istore_n 3, 1, []),
  (4, .iload_n 3, 1, []),
  (5, .iconst 4, 1, []),
  (6, .if_icmp .ge 28, 3, [34]),
  (9, .aload_n 0, 1, []),
  (10, .getfield 9, 3, [3, 0]),
  (13, .iload_n 3, 1, []),
  (14, .iaload, 1, []),
  (15, .iload_n 1, 1, []),
  (16, .if_icmp .ne 12, 3, [28]),
  (19, .iload_n 2, 1, []),
  (20, .aload_n 0, 1, []),
  (21, .getfield 15, 3, [3, 1]),
  (24, .iload_n 3, 1, []),
  (25, .iaload, 1, []),
  (26, .iadd, 1, []),
  (27, .istore_n 2, 1, []),
  (28, .iinc 3 1, 3, []),
  (31, .goto (-27), 3, [4]),
  (34, .iload_n 2, 1, []),
  (35, .ireturn, 1, [0])]
-- 33 CashRecycler$Books.count(II)I
def q_Books_count : Nat := 33
def qc33 : List PE := [(0, .aload_n 0, 1, []),
  (1, .getfield 11, 3, [4, 0]),
  (4, .iload_n 1, 1, []),
  (5, .aaload, 1, []),
  (6, .iload_n 2, 1, []),
  (7, .iaload, 1, []),
  (8, .ireturn, 1, [0])]
-- 34 CashRecycler$Books.add(III)V
def q_Books_add : Nat := 34
def qc34 : List PE := [(0, .aload_n 0, 1, []),
  (1, .getfield 11, 3, [4, 0]),
  (4, .iload_n 1, 1, []),
  (5, .aaload, 1, []),
  (6, .iload_n 2, 1, []),
  (7, .dup2, 1, []),
  (8, .iaload, 1, []),
  (9, .iload_n 3, 1, []),
  (10, .iadd, 1, []),
  (11, .iastore, 1, []),
  (12, .return_, 1, [])]
-- 35 CashRecycler$Books.total(I)I
def q_Books_total : Nat := 35
def qc35 : List PE := [(0, .iconst 0, 1, []),
  (1, .istore_n 2, 1, []),
  (2, .iconst 0, 1, []),
  (3, .istore_n 3, 1, []),
  (4, .iload_n 3, 1, []),
  (5, .iconst 5, 1, []),
  (6, .if_icmp .gt 20, 3, [26]),
  (9, .iload_n 2, 1, []),
  (10, .aload_n 0, 1, []),
  (11, .getfield 11, 3, [4, 0]),
  (14, .iload_n 1, 1, []),
  (15, .aaload, 1, []),
  (16, .iload_n 3, 1, []),
  (17, .iaload, 1, []),
  (18, .iadd, 1, []),
  (19, .istore_n 2, 1, []),
  (20, .iinc 3 1, 3, []),
  (23, .goto (-19), 3, [4]),
  (26, .iload_n 2, 1, []),
  (27, .ireturn, 1, [0])]
-- 36 CashRecycler$Books.pour(II)I
def q_Books_pour : Nat := 36
def qc36 : List PE := [(0, .aload_n 0, 1, []),
  (1, .iload_n 1, 1, []),
  (2, .invokevirtual 16, 3, [35, 2]),
  (5, .istore_n 3, 1, []),
  (6, .iconst 0, 1, []),
  (7, .istore 4, 2, []),
  (9, .iload 4, 2, []),
  (11, .iconst 5, 1, []),
  (12, .if_icmp .gt 40, 3, [52]),
  (15, .aload_n 0, 1, []),
  (16, .getfield 11, 3, [4, 0]),
  (19, .iload_n 2, 1, []),
  (20, .aaload, 1, []),
  (21, .iload 4, 2, []),
  (23, .dup2, 1, []),
  (24, .iaload, 1, []),
  (25, .aload_n 0, 1, []),
  (26, .getfield 11, 3, [4, 0]),
  (29, .iload_n 1, 1, []),
  (30, .aaload, 1, []),
  (31, .iload 4, 2, []),
  (33, .iaload, 1, []),
  (34, .iadd, 1, []),
  (35, .iastore, 1, []),
  (36, .aload_n 0, 1, []),
  (37, .getfield 11, 3, [4, 0]),
  (40, .iload_n 1, 1, []),
  (41, .aaload, 1, []),
  (42, .iload 4, 2, []),
  (44, .iconst 0, 1, []),
  (45, .iastore, 1, []),
  (46, .iinc 4 1, 3, []),
  (49, .goto (-40), 3, [9]),
  (52, .iload_n 3, 1, []),
  (53, .ireturn, 1, [0])]
-- 37 CashRecycler$Plan.size()I
def q_Plan_size : Nat := 37
def qc37 : List PE := [(0, .aload_n 0, 1, []),
  (1, .getfield 18, 3, [5, 2]),
  (4, .ireturn, 1, [0])]
-- 38 CashRecycler$Plan.count(I)I
def q_Plan_count : Nat := 38
def qc38 : List PE := [(0, .aload_n 0, 1, []),
  (1, .getfield 15, 3, [5, 1]),
  (4, .iload_n 1, 1, []),
  (5, .iaload, 1, []),
  (6, .ireturn, 1, [0])]
-- 39 CashRecycler$Plan.drop()V
def q_Plan_drop : Nat := 39
def qc39 : List PE := [(0, .aload_n 0, 1, []),
  (1, .iconst 0, 1, []),
  (2, .putfield 18, 3, [5, 2, 0]),
  (5, .iconst 0, 1, []),
  (6, .istore_n 1, 1, []),
  (7, .iload_n 1, 1, []),
  (8, .iconst 5, 1, []),
  (9, .if_icmp .gt 16, 3, [25]),
  (12, .aload_n 0, 1, []),
  (13, .getfield 15, 3, [5, 1]),
  (16, .iload_n 1, 1, []),
  (17, .iconst 0, 1, []),
  (18, .iastore, 1, []),
  (19, .iinc 1 1, 3, []),
  (22, .goto (-15), 3, [7]),
  (25, .return_, 1, [])]
-- 40 CashRecycler$Plan.highestKind()I
def q_Plan_highestKind : Nat := 40
def qc40 : List PE := [(0, .iconst 5, 1, []),
  (1, .istore_n 1, 1, []),
  (2, .iload_n 1, 1, []),
  (3, .iconst 1, 1, []),
  (4, .if_icmp .lt 20, 3, [24]),
  (7, .aload_n 0, 1, []),
  (8, .getfield 15, 3, [5, 1]),
  (11, .iload_n 1, 1, []),
  (12, .iaload, 1, []),
  (13, .ifCond .le 5, 3, [18]),
  (16, .iload_n 1, 1, []),
  (17, .ireturn, 1, [0]),
  (18, .iinc 1 (-1), 3, []),
  (21, .goto (-19), 3, [2]),
  (24, .iconst 0, 1, []),
  (25, .ireturn, 1, [0])]
-- 41 CashRecycler$Plan.strikeOut(I)V
def q_Plan_strikeOut : Nat := 41
def qc41 : List PE := [(0, .aload_n 0, 1, []),
  (1, .getfield 15, 3, [5, 1]),
  (4, .iload_n 1, 1, []),
  (5, .dup2, 1, []),
  (6, .iaload, 1, []),
  (7, .iconst 1, 1, []),
  (8, .isub, 1, []),
  (9, .iastore, 1, []),
  (10, .aload_n 0, 1, []),
  (11, .dup, 1, []),
  (12, .getfield 18, 3, [5, 2]),
  (15, .iconst 1, 1, []),
  (16, .isub, 1, []),
  (17, .putfield 18, 3, [5, 2, 0]),
  (20, .return_, 1, [])]
-- 42 CashRecycler$Plan.fillUp(III)V
def q_Plan_fillUp : Nat := 42
def qc42 : List PE := [(0, .aload_n 0, 1, []),
  (1, .getfield 9, 3, [5, 0]),
  (4, .iconst 3, 1, []),
  (5, .iaload, 1, []),
  (6, .iload_n 3, 1, []),
  (7, .iconst 4, 1, []),
  (8, .idiv, 1, []),
  (9, .invokestatic 31, 3, [1, 2]),
  (12, .istore 4, 2, []),
  (14, .iload_n 3, 1, []),
  (15, .iload 4, 2, []),
  (17, .iconst 4, 1, []),
  (18, .imul, 1, []),
  (19, .isub, 1, []),
  (20, .istore 5, 2, []),
  (22, .aload_n 0, 1, []),
  (23, .getfield 9, 3, [5, 0]),
  (26, .iconst 2, 1, []),
  (27, .iaload, 1, []),
  (28, .iload 5, 2, []),
  (30, .iconst 2, 1, []),
  (31, .idiv, 1, []),
  (32, .invokestatic 31, 3, [1, 2]),
  (35, .istore 6, 2, []),
  (37, .iload 5, 2, []),
  (39, .iload 6, 2, []),
  (41, .iconst 2, 1, []),
  (42, .imul, 1, []),
  (43, .isub, 1, []),
  (44, .istore 7, 2, []),
  (46, .iload_n 1, 1, []),
  (47, .iload_n 2, 1, []),
  (48, .iadd, 1, []),
  (49, .iload 4, 2, []),
  (51, .iadd, 1, []),
  (52, .iload 6, 2, []),
  (54, .iadd, 1, []),
  (55, .iload 7, 2, []),
  (57, .iadd, 1, []),
  (58, .istore 8, 2, []),
  (60, .iload 7, 2, []),
  (62, .aload_n 0, 1, []),
  (63, .getfield 9, 3, [5, 0]),
  (66, .iconst 1, 1, []),
  (67, .iaload, 1, []),
  (68, .if_icmp .gt 26, 3, [94]),
  (71, .iload 8, 2, []),
  (73, .bipush 20, 2, []),
  (75, .if_icmp .gt 19, 3, [94]),
  (78, .aload_n 0, 1, []),
  (79, .getfield 18, 3, [5, 2]),
  (82, .ifCond .le 13, 3, [95]),
  (85, .iload 8, 2, []),
  (87, .aload_n 0, 1, []),
  (88, .getfield 18, 3, [5, 2]),
  (91, .if_icmp .lt 4, 3, [95]),
  (94, .return_, 1, []),
  (95, .aload_n 0, 1, []),
  (96, .getfield 15, 3, [5, 1]),
  (99, .iconst 1, 1, []),
  (100, .iload 7, 2, []),
  (102, .iastore, 1, []),
  (103, .aload_n 0, 1, []),
  (104, .getfield 15, 3, [5, 1]),
  (107, .iconst 2, 1, []),
  (108, .iload 6, 2, []),
  (110, .iastore, 1, []),
  (111, .aload_n 0, 1, []),
  (112, .getfield 15, 3, [5, 1]),
  (115, .iconst 3, 1, []),
  (116, .iload 4, 2, []),
  (118, .iastore, 1, []),
  (119, .aload_n 0, 1, []),
  (120, .getfield 15, 3, [5, 1]),
  (123, .iconst 4, 1, []),
  (124, .iload_n 2, 1, []),
  (125, .iastore, 1, []),
  (126, .aload_n 0, 1, []),
  (127, .getfield 15, 3, [5, 1]),
  (130, .iconst 5, 1, []),
  (131, .iload_n 1, 1, []),
  (132, .iastore, 1, []),
  (133, .aload_n 0, 1, []),
  (134, .iload 8, 2, []),
  (136, .putfield 18, 3, [5, 2, 0]),
  (139, .return_, 1, [])]
-- 43 CashRecycler$Plan.find(ILCashRecycler$Magazine;)Z
def q_Plan_find : Nat := 43
def qc43 : List PE := [(0, .aload_n 0, 1, []),
  (1, .invokevirtual 22, 3, [39, 1]),
  (4, .iconst 1, 1, []),
  (5, .istore_n 3, 1, []),
  (6, .iload_n 3, 1, []),
  (7, .iconst 5, 1, []),
  (8, .if_icmp .gt 20, 3, [28]),
  (11, .aload_n 0, 1, []),
  (12, .getfield 9, 3, [5, 0]),
  (15, .iload_n 3, 1, []),
  (16, .aload_n 2, 1, []),
  (17, .iload_n 3, 1, []),
  (18, .invokevirtual 25, 3, [32, 2]),
  (21, .iastore, 1, []),
  (22, .iinc 3 1, 3, []),
  (25, .goto (-19), 3, [6]),
  (28, .aload_n 0, 1, []),
  (29, .getfield 9, 3, [5, 0]),
  (32, .iconst 5, 1, []),
  (33, .iaload, 1, []),
  (34, .iload_n 1, 1, []),
  (35, .bipush 20, 2, []),
  (37, .idiv, 1, []),
  (38, .invokestatic 31, 3, [1, 2]),
  (41, .istore_n 3, 1, []),
  (42, .iload_n 3, 1, []),
  (43, .ifCond .lt 59, 3, [102]),
  (46, .iload_n 1, 1, []),
  (47, .iload_n 3, 1, []),
  (48, .bipush 20, 2, []),
  (50, .imul, 1, []),
  (51, .isub, 1, []),
  (52, .istore 4, 2, []),
  (54, .aload_n 0, 1, []),
  (55, .getfield 9, 3, [5, 0]),
  (58, .iconst 4, 1, []),
  (59, .iaload, 1, []),
  (60, .iload 4, 2, []),
  (62, .bipush 10, 2, []),
  (64, .idiv, 1, []),
  (65, .invokestatic 31, 3, [1, 2]),
  (68, .istore 5, 2, []),
  (70, .iload 5, 2, []),
  (72, .ifCond .lt 24, 3, [96]),
  (75, .aload_n 0, 1, []),
  (76, .iload_n 3, 1, []),
  (77, .iload 5, 2, []),
  (79, .iload 4, 2, []),
  (81, .iload 5, 2, []),
  (83, .bipush 10, 2, []),
  (85, .imul, 1, []),
  (86, .isub, 1, []),
  (87, .invokevirtual 37, 3, [42, 4]),
  (90, .iinc 5 (-1), 3, []),
  (93, .goto (-23), 3, [70]),
  (96, .iinc 3 (-1), 3, []),
  (99, .goto (-57), 3, [42]),
  (102, .aload_n 0, 1, []),
  (103, .getfield 18, 3, [5, 2]),
  (106, .ifCond .le 7, 3, [113]),
  (109, .iconst 1, 1, []),
  (110, .goto 4, 3, [114]),
  (113, .iconst 0, 1, []),
  (114, .ireturn, 1, [1])]
-- 44 CashRecycler.insert(I)I
def q_C_insert : Nat := 44
def qc44 : List PE := [(0, .iload_n 1, 1, []),
  (1, .iconst 1, 1, []),
  (2, .if_icmp .lt 9, 3, [11]),
  (5, .iload_n 1, 1, []),
  (6, .bipush 20, 2, []),
  (8, .if_icmp .le 11, 3, [19]),
  (11, .new 71, 3, [0, 73]),
  (14, .dup, 1, []),
  (15, .invokespecial 73, 3, []),
  (18, .athrow, 1, []),
  (19, .aload_n 0, 1, []),
  (20, .getfield 58, 3, [6, 8]),
  (23, .iload_n 1, 1, []),
  (24, .iadd, 1, []),
  (25, .bipush 40, 2, []),
  (27, .if_icmp .le 11, 3, [38]),
  (30, .new 74, 3, [1, 76]),
  (33, .dup, 1, []),
  (34, .invokespecial 76, 3, []),
  (37, .athrow, 1, []),
  (38, .aload_n 0, 1, []),
  (39, .dup, 1, []),
  (40, .getfield 58, 3, [6, 8]),
  (43, .iload_n 1, 1, []),
  (44, .iadd, 1, []),
  (45, .putfield 58, 3, [6, 8, 0]),
  (48, .aload_n 0, 1, []),
  (49, .getfield 58, 3, [6, 8]),
  (52, .ireturn, 1, [0])]
-- 45 CashRecycler.verdict(I)I
def q_C_verdict : Nat := 45
def qc45 : List PE := [(0, .iload_n 1, 1, []),
  (1, .ifCond .lt 9, 3, [10]),
  (4, .iload_n 1, 1, []),
  (5, .bipush 6, 2, []),
  (7, .if_icmp .le 11, 3, [18]),
  (10, .new 71, 3, [0, 73]),
  (13, .dup, 1, []),
  (14, .invokespecial 73, 3, []),
  (17, .athrow, 1, []),
  (18, .aload_n 0, 1, []),
  (19, .getfield 10, 3, [6, 0]),
  (22, .invokevirtual 77, 3, [2, 1]),
  (25, .ifCond .eq 11, 3, [36]),
  (28, .new 74, 3, [1, 76]),
  (31, .dup, 1, []),
  (32, .invokespecial 76, 3, []),
  (35, .athrow, 1, []),
  (36, .aload_n 0, 1, []),
  (37, .getfield 10, 3, [6, 0]),
  (40, .iload_n 1, 1, []),
  (41, .invokevirtual 81, 3, [3, 2]),
  (44, .ireturn, 1, [0])]
-- 46 CashRecycler.isReady(I)Z
def q_C_isReady : Nat := 46
def qc46 : List PE := [(0, .aload_n 0, 1, []),
  (1, .getfield 61, 3, [6, 9]),
  (4, .ifCond .eq 15, 3, [19]),
  (7, .aload_n 0, 1, []),
  (8, .getfield 54, 3, [6, 7]),
  (11, .iload_n 1, 1, []),
  (12, .if_icmp .ne 7, 3, [19]),
  (15, .iconst 1, 1, []),
  (16, .goto 4, 3, [20]),
  (19, .iconst 0, 1, []),
  (20, .ireturn, 1, [1])]
-- 47 CashRecycler.deposit()V
def q_C_deposit : Nat := 47
def qc47 : List PE := [(0, .aload_n 0, 1, []),
  (1, .iconst 0, 1, []),
  (2, .invokevirtual 85, 3, [46, 2]),
  (5, .ifCond .eq 21, 3, [26]),
  (8, .aload_n 0, 1, []),
  (9, .getfield 58, 3, [6, 8]),
  (12, .ifCond .eq 14, 3, [26]),
  (15, .aload_n 0, 1, []),
  (16, .getfield 40, 3, [6, 4]),
  (19, .iconst 5, 1, []),
  (20, .invokevirtual 89, 3, [35, 2]),
  (23, .ifCond .le 11, 3, [34]),
  (26, .new 74, 3, [1, 76]),
  (29, .dup, 1, []),
  (30, .invokespecial 76, 3, []),
  (33, .athrow, 1, []),
  (34, .aload_n 0, 1, []),
  (35, .iconst 1, 1, []),
  (36, .putfield 54, 3, [6, 7, 0]),
  (39, .return_, 1, [])]
-- 48 CashRecycler.confirm()V
def q_C_confirm : Nat := 48
def qc48 : List PE := [(0, .aload_n 0, 1, []),
  (1, .iconst 2, 1, []),
  (2, .invokevirtual 85, 3, [46, 2]),
  (5, .ifCond .ne 11, 3, [16]),
  (8, .new 74, 3, [1, 76]),
  (11, .dup, 1, []),
  (12, .invokespecial 76, 3, []),
  (15, .athrow, 1, []),
  (16, .aload_n 0, 1, []),
  (17, .iconst 3, 1, []),
  (18, .putfield 54, 3, [6, 7, 0]),
  (21, .return_, 1, [])]
-- 49 CashRecycler.giveBack()V
def q_C_giveBack : Nat := 49
def qc49 : List PE := [(0, .aload_n 0, 1, []),
  (1, .iconst 2, 1, []),
  (2, .invokevirtual 85, 3, [46, 2]),
  (5, .ifCond .ne 11, 3, [16]),
  (8, .new 74, 3, [1, 76]),
  (11, .dup, 1, []),
  (12, .invokespecial 76, 3, []),
  (15, .athrow, 1, []),
  (16, .aload_n 0, 1, []),
  (17, .iconst 4, 1, []),
  (18, .putfield 54, 3, [6, 7, 0]),
  (21, .return_, 1, [])]
-- 50 CashRecycler.isPayable(I)Z
def q_C_isPayable : Nat := 50
def qc50 : List PE := [(0, .iload_n 0, 1, []),
  (1, .iconst 1, 1, []),
  (2, .if_icmp .lt 14, 3, [16]),
  (5, .iload_n 0, 1, []),
  (6, .sipush 400, 3, []),
  (9, .if_icmp .gt 7, 3, [16]),
  (12, .iconst 1, 1, []),
  (13, .goto 4, 3, [17]),
  (16, .iconst 0, 1, []),
  (17, .ireturn, 1, [1])]
-- 51 CashRecycler.payout(I)I
def q_C_payout : Nat := 51
def qc51 : List PE := [(0, .iload_n 1, 1, []),
  (1, .invokestatic 92, 3, [50, 1]),
  (4, .ifCond .ne 11, 3, [15]),
  (7, .new 71, 3, [0, 73]),
  (10, .dup, 1, []),
  (11, .invokespecial 73, 3, []),
  (14, .athrow, 1, []),
  (15, .aload_n 0, 1, []),
  (16, .iconst 0, 1, []),
  (17, .invokevirtual 85, 3, [46, 2]),
  (20, .ifCond .eq 14, 3, [34]),
  (23, .aload_n 0, 1, []),
  (24, .getfield 40, 3, [6, 4]),
  (27, .iconst 5, 1, []),
  (28, .invokevirtual 89, 3, [35, 2]),
  (31, .ifCond .le 11, 3, [42]),
  (34, .new 74, 3, [1, 76]),
  (37, .dup, 1, []),
  (38, .invokespecial 76, 3, []),
  (41, .athrow, 1, []),
  (42, .aload_n 0, 1, []),
  (43, .getfield 51, 3, [6, 6]),
  (46, .iload_n 1, 1, []),
  (47, .aload_n 0, 1, []),
  (48, .getfield 33, 3, [6, 3]),
  (51, .invokevirtual 95, 3, [43, 3]),
  (54, .ifCond .ne 11, 3, [65]),
  (57, .new 99, 3, [2, 101]),
  (60, .dup, 1, []),
  (61, .invokespecial 101, 3, []),
  (64, .athrow, 1, []),
  (65, .aload_n 0, 1, []),
  (66, .iconst 5, 1, []),
  (67, .putfield 54, 3, [6, 7, 0]),
  (70, .aload_n 0, 1, []),
  (71, .getfield 51, 3, [6, 6]),
  (74, .invokevirtual 102, 3, [37, 1]),
  (77, .ireturn, 1, [0])]
-- 52 CashRecycler.isKind(I)Z
def q_C_isKind : Nat := 52
def qc52 : List PE := [(0, .iload_n 0, 1, []),
  (1, .iconst 1, 1, []),
  (2, .if_icmp .lt 12, 3, [14]),
  (5, .iload_n 0, 1, []),
  (6, .iconst 5, 1, []),
  (7, .if_icmp .gt 7, 3, [14]),
  (10, .iconst 1, 1, []),
  (11, .goto 4, 3, [15]),
  (14, .iconst 0, 1, []),
  (15, .ireturn, 1, [1])]
-- 53 CashRecycler.plan(II)I
def q_C_plan : Nat := 53
def qc53 : List PE := [(0, .iload_n 2, 1, []),
  (1, .invokestatic 106, 3, [52, 1]),
  (4, .ifCond .eq 10, 3, [14]),
  (7, .iload_n 1, 1, []),
  (8, .invokestatic 92, 3, [50, 1]),
  (11, .ifCond .ne 11, 3, [22]),
  (14, .new 71, 3, [0, 73]),
  (17, .dup, 1, []),
  (18, .invokespecial 73, 3, []),
  (21, .athrow, 1, []),
  (22, .aload_n 0, 1, []),
  (23, .getfield 47, 3, [6, 5]),
  (26, .iload_n 1, 1, []),
  (27, .aload_n 0, 1, []),
  (28, .getfield 33, 3, [6, 3]),
  (31, .invokevirtual 95, 3, [43, 3]),
  (34, .ifCond .eq 14, 3, [48]),
  (37, .aload_n 0, 1, []),
  (38, .getfield 47, 3, [6, 5]),
  (41, .iload_n 2, 1, []),
  (42, .invokevirtual 109, 3, [38, 2]),
  (45, .goto 4, 3, [49]),
  (48, .iconst (-1), 1, []),
  (49, .ireturn, 1, [0])]
-- 54 CashRecycler.isRunning()Z
def q_C_isRunning : Nat := 54
def qc54 : List PE := [(0, .aload_n 0, 1, []),
  (1, .getfield 54, 3, [6, 7]),
  (4, .iconst 1, 1, []),
  (5, .if_icmp .eq 36, 3, [41]),
  (8, .aload_n 0, 1, []),
  (9, .getfield 54, 3, [6, 7]),
  (12, .iconst 3, 1, []),
  (13, .if_icmp .eq 28, 3, [41]),
  (16, .aload_n 0, 1, []),
  (17, .getfield 54, 3, [6, 7]),
  (20, .iconst 4, 1, []),
  (21, .if_icmp .eq 20, 3, [41]),
  (24, .aload_n 0, 1, []),
  (25, .getfield 54, 3, [6, 7]),
  (28, .iconst 5, 1, []),
  (29, .if_icmp .eq 12, 3, [41]),
  (32, .aload_n 0, 1, []),
  (33, .getfield 54, 3, [6, 7]),
  (36, .bipush 7, 2, []),
  (38, .if_icmp .ne 7, 3, [45]),
  (41, .iconst 1, 1, []),
  (42, .goto 4, 3, [46]),
  (45, .iconst 0, 1, []),
  (46, .ireturn, 1, [1])]
-- 55 CashRecycler.goesIn(II)Z
def q_C_goesIn : Nat := 55
def qc55 : List PE := [(0, .iload_n 2, 1, []),
  (1, .tableswitch 92 1 8 #[47, 92, 92, 92, 92, 56, 68, 80], 47, [93, 48, 93, 93, 93, 93, 57, 69, 81]),
  (48, .aload_n 0, 1, []),
  (49, .getfield 26, 3, [6, 2]),
  (52, .iload_n 1, 1, []),
  (53, .invokevirtual 225, 3, [21, 2]),
  (56, .ireturn, 1, [1]),
  (57, .aload_n 0, 1, []),
  (58, .getfield 40, 3, [6, 4]),
  (61, .iconst 4, 1, []),
  (62, .iload_n 1, 1, []),
  (63, .iconst 1, 1, []),
  (64, .invokevirtual 139, 3, [34, 4]),
  (67, .iconst 1, 1, []),
  (68, .ireturn, 1, [1]),
  (69, .aload_n 0, 1, []),
  (70, .getfield 40, 3, [6, 4]),
  (73, .iconst 2, 1, []),
  (74, .iload_n 1, 1, []),
  (75, .iconst 1, 1, []),
  (76, .invokevirtual 139, 3, [34, 4]),
  (79, .iconst 1, 1, []),
  (80, .ireturn, 1, [1]),
  (81, .aload_n 0, 1, []),
  (82, .getfield 40, 3, [6, 4]),
  (85, .iconst 5, 1, []),
  (86, .iload_n 1, 1, []),
  (87, .iconst 1, 1, []),
  (88, .invokevirtual 139, 3, [34, 4]),
  (91, .iconst 1, 1, []),
  (92, .ireturn, 1, [1]),
  (93, .aload_n 0, 1, []),
  (94, .getfield 33, 3, [6, 3]),
  (97, .iload_n 2, 1, []),
  (98, .iconst 2, 1, []),
  (99, .isub, 1, []),
  (100, .iload_n 1, 1, []),
  (101, .invokevirtual 228, 3, [30, 3]),
  (104, .ireturn, 1, [1])]
-- 56 CashRecycler.moveNote(I)V
def q_C_moveNote : Nat := 56
def qc56 : List PE := [(0, .aload_n 0, 1, []),
  (1, .getfield 19, 3, [6, 1]),
  (4, .iload_n 1, 1, []),
  (5, .invokevirtual 212, 3, [11, 2]),
  (8, .ifCond .eq 45, 3, [53]),
  (11, .aload_n 0, 1, []),
  (12, .aload_n 0, 1, []),
  (13, .getfield 19, 3, [6, 1]),
  (16, .iload_n 1, 1, []),
  (17, .invokevirtual 132, 3, [8, 2]),
  (20, .aload_n 0, 1, []),
  (21, .getfield 19, 3, [6, 1]),
  (24, .iload_n 1, 1, []),
  (25, .invokevirtual 177, 3, [9, 2]),
  (28, .invokevirtual 215, 3, [55, 3]),
  (31, .ifCond .eq 12, 3, [43]),
  (34, .aload_n 0, 1, []),
  (35, .getfield 19, 3, [6, 1]),
  (38, .iload_n 1, 1, []),
  (39, .invokevirtual 135, 3, [15, 2]),
  (42, .return_, 1, []),
  (43, .aload_n 0, 1, []),
  (44, .getfield 19, 3, [6, 1]),
  (47, .iload_n 1, 1, []),
  (48, .bipush 7, 2, []),
  (50, .invokevirtual 219, 3, [12, 3]),
  (53, .aload_n 0, 1, []),
  (54, .getfield 19, 3, [6, 1]),
  (57, .iload_n 1, 1, []),
  (58, .invokevirtual 222, 3, [16, 2]),
  (61, .return_, 1, [])]
-- 57 CashRecycler.moveBelt()Z
def q_C_moveBelt : Nat := 57
def qc57 : List PE := [(0, .iconst 0, 1, []),
  (1, .istore_n 1, 1, []),
  (2, .bipush 9, 2, []),
  (4, .istore_n 2, 1, []),
  (5, .iload_n 2, 1, []),
  (6, .ifCond .lt 41, 3, [47]),
  (9, .aload_n 0, 1, []),
  (10, .getfield 19, 3, [6, 1]),
  (13, .iload_n 2, 1, []),
  (14, .invokevirtual 142, 3, [10, 2]),
  (17, .ifCond .eq 8, 3, [25]),
  (20, .iconst 1, 1, []),
  (21, .istore_n 1, 1, []),
  (22, .goto 19, 3, [41]),
  (25, .aload_n 0, 1, []),
  (26, .getfield 19, 3, [6, 1]),
  (29, .iload_n 2, 1, []),
  (30, .invokevirtual 122, 3, [7, 2]),
  (33, .ifCond .ne 8, 3, [41]),
  (36, .aload_n 0, 1, []),
  (37, .iload_n 2, 1, []),
  (38, .invokevirtual 209, 3, [56, 2]),
  (41, .iinc 2 (-1), 3, []),
  (44, .goto (-39), 3, [5]),
  (47, .iload_n 1, 1, []),
  (48, .ireturn, 1, [1])]
-- 58 CashRecycler.judgeNote()V
def q_C_judgeNote : Nat := 58
def qc58 : List PE := [(0, .aload_n 0, 1, []),
  (1, .getfield 19, 3, [6, 1]),
  (4, .iconst 2, 1, []),
  (5, .invokevirtual 177, 3, [9, 2]),
  (8, .ifCond .eq 4, 3, [12]),
  (11, .return_, 1, []),
  (12, .aload_n 0, 1, []),
  (13, .getfield 10, 3, [6, 0]),
  (16, .invokevirtual 230, 3, [4, 1]),
  (19, .istore_n 1, 1, []),
  (20, .iload_n 1, 1, []),
  (21, .invokestatic 106, 3, [52, 1]),
  (24, .ifCond .eq 27, 3, [51]),
  (27, .aload_n 0, 1, []),
  (28, .getfield 19, 3, [6, 1]),
  (31, .iconst 2, 1, []),
  (32, .iload_n 1, 1, []),
  (33, .iconst 1, 1, []),
  (34, .invokevirtual 233, 3, [14, 4]),
  (37, .aload_n 0, 1, []),
  (38, .getfield 40, 3, [6, 4]),
  (41, .bipush 9, 2, []),
  (43, .iload_n 1, 1, []),
  (44, .iconst 1, 1, []),
  (45, .invokevirtual 139, 3, [34, 4]),
  (48, .goto 13, 3, [61]),
  (51, .aload_n 0, 1, []),
  (52, .getfield 19, 3, [6, 1]),
  (55, .iconst 2, 1, []),
  (56, .bipush 8, 2, []),
  (58, .invokevirtual 219, 3, [12, 3]),
  (61, .return_, 1, [])]
-- 59 CashRecycler.bringFromSlot()V
def q_C_bringFromSlot : Nat := 59
def qc59 : List PE := [(0, .aload_n 0, 1, []),
  (1, .getfield 58, 3, [6, 8]),
  (4, .ifCond .le 54, 3, [58]),
  (7, .aload_n 0, 1, []),
  (8, .getfield 19, 3, [6, 1]),
  (11, .iconst 0, 1, []),
  (12, .invokevirtual 122, 3, [7, 2]),
  (15, .ifCond .eq 43, 3, [58]),
  (18, .aload_n 0, 1, []),
  (19, .getfield 19, 3, [6, 1]),
  (22, .invokevirtual 245, 3, [6, 1]),
  (25, .aload_n 0, 1, []),
  (26, .getfield 26, 3, [6, 2]),
  (29, .invokevirtual 246, 3, [20, 1]),
  (32, .iadd, 1, []),
  (33, .bipush 24, 2, []),
  (35, .if_icmp .ge 23, 3, [58]),
  (38, .aload_n 0, 1, []),
  (39, .dup, 1, []),
  (40, .getfield 58, 3, [6, 8]),
  (43, .iconst 1, 1, []),
  (44, .isub, 1, []),
  (45, .putfield 58, 3, [6, 8, 0]),
  (48, .aload_n 0, 1, []),
  (49, .getfield 19, 3, [6, 1]),
  (52, .iconst 0, 1, []),
  (53, .iconst 0, 1, []),
  (54, .iconst 0, 1, []),
  (55, .invokevirtual 233, 3, [14, 4]),
  (58, .return_, 1, [])]
-- 60 CashRecycler.storeGoal(I)I
def q_C_storeGoal : Nat := 60
def qc60 : List PE := [(0, .iconst 0, 1, []),
  (1, .istore_n 2, 1, []),
  (2, .iload_n 2, 1, []),
  (3, .iconst 4, 1, []),
  (4, .if_icmp .ge 46, 3, [50]),
  (7, .iconst 2, 1, []),
  (8, .iload_n 2, 1, []),
  (9, .iadd, 1, []),
  (10, .istore_n 3, 1, []),
  (11, .aload_n 0, 1, []),
  (12, .getfield 33, 3, [6, 3]),
  (15, .iload_n 2, 1, []),
  (16, .invokevirtual 168, 3, [24, 2]),
  (19, .iload_n 1, 1, []),
  (20, .if_icmp .ne 24, 3, [44]),
  (23, .aload_n 0, 1, []),
  (24, .getfield 19, 3, [6, 1]),
  (27, .iload_n 3, 1, []),
  (28, .invokevirtual 253, 3, [19, 2]),
  (31, .aload_n 0, 1, []),
  (32, .getfield 33, 3, [6, 3]),
  (35, .iload_n 2, 1, []),
  (36, .invokevirtual 162, 3, [27, 2]),
  (39, .if_icmp .ge 5, 3, [44]),
  (42, .iload_n 3, 1, []),
  (43, .ireturn, 1, [0]),
  (44, .iinc 2 1, 3, []),
  (47, .goto (-45), 3, [2]),
  (50, .bipush 7, 2, []),
  (52, .ireturn, 1, [0])]
-- 61 CashRecycler.bringFromEscrow()V
def q_C_bringFromEscrow : Nat := 61
def qc61 : List PE := [(0, .aload_n 0, 1, []),
  (1, .getfield 26, 3, [6, 2]),
  (4, .invokevirtual 246, 3, [20, 1]),
  (7, .ifCond .le 49, 3, [56]),
  (10, .aload_n 0, 1, []),
  (11, .getfield 19, 3, [6, 1]),
  (14, .iconst 4, 1, []),
  (15, .invokevirtual 122, 3, [7, 2]),
  (18, .ifCond .eq 38, 3, [56]),
  (21, .aload_n 0, 1, []),
  (22, .getfield 26, 3, [6, 2]),
  (25, .invokevirtual 247, 3, [22, 1]),
  (28, .istore_n 1, 1, []),
  (29, .aload_n 0, 1, []),
  (30, .getfield 19, 3, [6, 1]),
  (33, .iconst 4, 1, []),
  (34, .iload_n 1, 1, []),
  (35, .aload_n 0, 1, []),
  (36, .getfield 54, 3, [6, 7]),
  (39, .iconst 3, 1, []),
  (40, .if_icmp .ne 11, 3, [51]),
  (43, .aload_n 0, 1, []),
  (44, .iload_n 1, 1, []),
  (45, .invokevirtual 250, 3, [60, 2]),
  (48, .goto 5, 3, [53]),
  (51, .bipush 8, 2, []),
  (53, .invokevirtual 233, 3, [14, 4]),
  (56, .return_, 1, [])]
-- 62 CashRecycler.bringFromCassette()V
def q_C_bringFromCassette : Nat := 62
def qc62 : List PE := [(0, .aload_n 0, 1, []),
  (1, .getfield 51, 3, [6, 6]),
  (4, .invokevirtual 256, 3, [40, 1]),
  (7, .istore_n 1, 1, []),
  (8, .aload_n 0, 1, []),
  (9, .getfield 33, 3, [6, 3]),
  (12, .iload_n 1, 1, []),
  (13, .invokevirtual 259, 3, [31, 2]),
  (16, .istore_n 2, 1, []),
  (17, .iload_n 2, 1, []),
  (18, .invokestatic 153, 3, [29, 1]),
  (21, .ifCond .ne 4, 3, [25]),
  (24, .return_, 1, []),
  (25, .getstatic 262, 3, [47]),
  (28, .iconst 2, 1, []),
  (29, .iload_n 2, 1, []),
  (30, .iadd, 1, []),
  (31, .iaload, 1, []),
  (32, .istore_n 3, 1, []),
  (33, .aload_n 0, 1, []),
  (34, .getfield 19, 3, [6, 1]),
  (37, .iload_n 3, 1, []),
  (38, .invokevirtual 122, 3, [7, 2]),
  (41, .ifCond .eq 31, 3, [72]),
  (44, .aload_n 0, 1, []),
  (45, .getfield 51, 3, [6, 6]),
  (48, .iload_n 1, 1, []),
  (49, .invokevirtual 266, 3, [41, 2]),
  (52, .aload_n 0, 1, []),
  (53, .getfield 33, 3, [6, 3]),
  (56, .iload_n 2, 1, []),
  (57, .iconst (-1), 1, []),
  (58, .invokevirtual 165, 3, [28, 3]),
  (61, .aload_n 0, 1, []),
  (62, .getfield 19, 3, [6, 1]),
  (65, .iload_n 3, 1, []),
  (66, .iload_n 1, 1, []),
  (67, .bipush 8, 2, []),
  (69, .invokevirtual 233, 3, [14, 4]),
  (72, .return_, 1, [])]
-- 63 CashRecycler.bringNote()V
def q_C_bringNote : Nat := 63
def qc63 : List PE := [(0, .aload_n 0, 1, []),
  (1, .getfield 54, 3, [6, 7]),
  (4, .tableswitch 57 1 5 #[36, 57, 43, 43, 50], 36, [61, 40, 61, 47, 47, 54]),
  (40, .aload_n 0, 1, []),
  (41, .invokevirtual 236, 3, [59, 1]),
  (44, .goto 17, 3, [61]),
  (47, .aload_n 0, 1, []),
  (48, .invokevirtual 239, 3, [61, 1]),
  (51, .goto 10, 3, [61]),
  (54, .aload_n 0, 1, []),
  (55, .invokevirtual 242, 3, [62, 1]),
  (58, .goto 3, 3, [61]),
  (61, .return_, 1, [])]
-- 64 CashRecycler.endCounting()V
def q_C_endCounting : Nat := 64
def qc64 : List PE := [(0, .aload_n 0, 1, []),
  (1, .getfield 58, 3, [6, 8]),
  (4, .ifCond .eq 15, 3, [19]),
  (7, .aload_n 0, 1, []),
  (8, .getfield 26, 3, [6, 2]),
  (11, .invokevirtual 246, 3, [20, 1]),
  (14, .bipush 24, 2, []),
  (16, .if_icmp .ne 26, 3, [42]),
  (19, .aload_n 0, 1, []),
  (20, .getfield 40, 3, [6, 4]),
  (23, .iconst 5, 1, []),
  (24, .iconst 0, 1, []),
  (25, .aload_n 0, 1, []),
  (26, .getfield 58, 3, [6, 8]),
  (29, .invokevirtual 139, 3, [34, 4]),
  (32, .aload_n 0, 1, []),
  (33, .iconst 0, 1, []),
  (34, .putfield 58, 3, [6, 8, 0]),
  (37, .aload_n 0, 1, []),
  (38, .iconst 2, 1, []),
  (39, .putfield 54, 3, [6, 7, 0]),
  (42, .return_, 1, [])]
-- 65 CashRecycler.endIfDone()V
def q_C_endIfDone : Nat := 65
def qc65 : List PE := [(0, .aload_n 0, 1, []),
  (1, .getfield 19, 3, [6, 1]),
  (4, .invokevirtual 245, 3, [6, 1]),
  (7, .ifCond .le 4, 3, [11]),
  (10, .return_, 1, []),
  (11, .aload_n 0, 1, []),
  (12, .getfield 54, 3, [6, 7]),
  (15, .tableswitch 117 1 7 #[41, 117, 48, 48, 73, 117, 95], 41, [132, 56, 132, 63, 63, 88, 132, 110]),
  (56, .aload_n 0, 1, []),
  (57, .invokevirtual 269, 3, [64, 1]),
  (60, .goto 72, 3, [132]),
  (63, .aload_n 0, 1, []),
  (64, .aload_n 0, 1, []),
  (65, .getfield 26, 3, [6, 2]),
  (68, .invokevirtual 246, 3, [20, 1]),
  (71, .ifCond .ne 7, 3, [78]),
  (74, .iconst 0, 1, []),
  (75, .goto 7, 3, [82]),
  (78, .aload_n 0, 1, []),
  (79, .getfield 54, 3, [6, 7]),
  (82, .putfield 54, 3, [6, 7, 0]),
  (85, .goto 47, 3, [132]),
  (88, .aload_n 0, 1, []),
  (89, .aload_n 0, 1, []),
  (90, .getfield 51, 3, [6, 6]),
  (93, .invokevirtual 102, 3, [37, 1]),
  (96, .ifCond .ne 7, 3, [103]),
  (99, .iconst 0, 1, []),
  (100, .goto 4, 3, [104]),
  (103, .iconst 5, 1, []),
  (104, .putfield 54, 3, [6, 7, 0]),
  (107, .goto 25, 3, [132]),
  (110, .aload_n 0, 1, []),
  (111, .aload_n 0, 1, []),
  (112, .getfield 26, 3, [6, 2]),
  (115, .invokevirtual 246, 3, [20, 1]),
  (118, .ifCond .ne 7, 3, [125]),
  (121, .iconst 0, 1, []),
  (122, .goto 4, 3, [126]),
  (125, .iconst 2, 1, []),
  (126, .putfield 54, 3, [6, 7, 0]),
  (129, .goto 3, 3, [132]),
  (132, .return_, 1, [])]
-- 66 CashRecycler.jamIfStuck(Z)V
def q_C_jamIfStuck : Nat := 66
def qc66 : List PE := [(0, .iload_n 1, 1, []),
  (1, .ifCond .eq 14, 3, [15]),
  (4, .aload_n 0, 1, []),
  (5, .getfield 68, 3, [6, 11]),
  (8, .ifCond .eq 7, 3, [15]),
  (11, .iconst 1, 1, []),
  (12, .goto 4, 3, [16]),
  (15, .iconst 0, 1, []),
  (16, .istore_n 2, 1, []),
  (17, .aload_n 0, 1, []),
  (18, .iload_n 1, 1, []),
  (19, .ifCond .eq 11, 3, [30]),
  (22, .iload_n 2, 1, []),
  (23, .ifCond .ne 7, 3, [30]),
  (26, .iconst 1, 1, []),
  (27, .goto 4, 3, [31]),
  (30, .iconst 0, 1, []),
  (31, .putfield 68, 3, [6, 11, 1]),
  (34, .iload_n 2, 1, []),
  (35, .ifCond .eq 9, 3, [44]),
  (38, .aload_n 0, 1, []),
  (39, .bipush 6, 2, []),
  (41, .putfield 54, 3, [6, 7, 0]),
  (44, .return_, 1, [])]
-- 67 CashRecycler.stepOnce()V
def q_C_stepOnce : Nat := 67
def qc67 : List PE := [(0, .aload_n 0, 1, []),
  (1, .getfield 61, 3, [6, 9]),
  (4, .ifCond .eq 10, 3, [14]),
  (7, .aload_n 0, 1, []),
  (8, .invokevirtual 190, 3, [54, 1]),
  (11, .ifCond .ne 4, 3, [15]),
  (14, .return_, 1, []),
  (15, .aload_n 0, 1, []),
  (16, .invokevirtual 193, 3, [57, 1]),
  (19, .istore_n 1, 1, []),
  (20, .aload_n 0, 1, []),
  (21, .invokevirtual 196, 3, [58, 1]),
  (24, .aload_n 0, 1, []),
  (25, .invokevirtual 199, 3, [63, 1]),
  (28, .aload_n 0, 1, []),
  (29, .invokevirtual 202, 3, [65, 1]),
  (32, .aload_n 0, 1, []),
  (33, .iload_n 1, 1, []),
  (34, .invokevirtual 205, 3, [66, 2]),
  (37, .return_, 1, [])]
-- 68 CashRecycler.step(I)I
def q_C_step : Nat := 68
def qc68 : List PE := [(0, .iload_n 1, 1, []),
  (1, .iconst 1, 1, []),
  (2, .if_icmp .lt 9, 3, [11]),
  (5, .iload_n 1, 1, []),
  (6, .bipush 100, 2, []),
  (8, .if_icmp .le 11, 3, [19]),
  (11, .new 71, 3, [0, 73]),
  (14, .dup, 1, []),
  (15, .invokespecial 73, 3, []),
  (18, .athrow, 1, []),
  (19, .iconst 0, 1, []),
  (20, .istore_n 2, 1, []),
  (21, .iload_n 2, 1, []),
  (22, .iload_n 1, 1, []),
  (23, .if_icmp .ge 13, 3, [36]),
  (26, .aload_n 0, 1, []),
  (27, .invokevirtual 112, 3, [67, 1]),
  (30, .iinc 2 1, 3, []),
  (33, .goto (-12), 3, [21]),
  (36, .aload_n 0, 1, []),
  (37, .getfield 54, 3, [6, 7]),
  (40, .ireturn, 1, [0])]
-- 69 CashRecycler.taken()I
def q_C_taken : Nat := 69
def qc69 : List PE := [(0, .aload_n 0, 1, []),
  (1, .getfield 40, 3, [6, 4]),
  (4, .iconst 5, 1, []),
  (5, .bipush 6, 2, []),
  (7, .invokevirtual 115, 3, [36, 3]),
  (10, .ireturn, 1, [0])]
-- 70 CashRecycler.isSegment(I)Z
def q_C_isSegment : Nat := 70
def qc70 : List PE := [(0, .iload_n 0, 1, []),
  (1, .ifCond .lt 13, 3, [14]),
  (4, .iload_n 0, 1, []),
  (5, .bipush 10, 2, []),
  (7, .if_icmp .ge 7, 3, [14]),
  (10, .iconst 1, 1, []),
  (11, .goto 4, 3, [15]),
  (14, .iconst 0, 1, []),
  (15, .ireturn, 1, [1])]
-- 71 CashRecycler.stick(I)V
def q_C_stick : Nat := 71
def qc71 : List PE := [(0, .iload_n 1, 1, []),
  (1, .invokestatic 119, 3, [70, 1]),
  (4, .ifCond .ne 11, 3, [15]),
  (7, .new 71, 3, [0, 73]),
  (10, .dup, 1, []),
  (11, .invokespecial 73, 3, []),
  (14, .athrow, 1, []),
  (15, .aload_n 0, 1, []),
  (16, .getfield 19, 3, [6, 1]),
  (19, .iload_n 1, 1, []),
  (20, .invokevirtual 122, 3, [7, 2]),
  (23, .ifCond .eq 11, 3, [34]),
  (26, .new 125, 3, [3, 127]),
  (29, .dup, 1, []),
  (30, .invokespecial 127, 3, []),
  (33, .athrow, 1, []),
  (34, .aload_n 0, 1, []),
  (35, .getfield 19, 3, [6, 1]),
  (38, .iload_n 1, 1, []),
  (39, .iconst 1, 1, []),
  (40, .invokevirtual 128, 3, [13, 3]),
  (43, .return_, 1, [])]
-- 72 CashRecycler.open()V
def q_C_open : Nat := 72
def qc72 : List PE := [(0, .aload_n 0, 1, []),
  (1, .bipush 6, 2, []),
  (3, .invokevirtual 85, 3, [46, 2]),
  (6, .ifCond .eq 10, 3, [16]),
  (9, .aload_n 0, 1, []),
  (10, .getfield 65, 3, [6, 10]),
  (13, .ifCond .eq 11, 3, [24]),
  (16, .new 74, 3, [1, 76]),
  (19, .dup, 1, []),
  (20, .invokespecial 76, 3, []),
  (23, .athrow, 1, []),
  (24, .aload_n 0, 1, []),
  (25, .iconst 1, 1, []),
  (26, .putfield 65, 3, [6, 10, 1]),
  (29, .return_, 1, [])]
-- 73 CashRecycler.remove(I)I
def q_C_remove : Nat := 73
def qc73 : List PE := [(0, .aload_n 0, 1, []),
  (1, .getfield 65, 3, [6, 10]),
  (4, .ifCond .ne 11, 3, [15]),
  (7, .new 74, 3, [1, 76]),
  (10, .dup, 1, []),
  (11, .invokespecial 76, 3, []),
  (14, .athrow, 1, []),
  (15, .iload_n 1, 1, []),
  (16, .invokestatic 119, 3, [70, 1]),
  (19, .ifCond .ne 11, 3, [30]),
  (22, .new 71, 3, [0, 73]),
  (25, .dup, 1, []),
  (26, .invokespecial 73, 3, []),
  (29, .athrow, 1, []),
  (30, .aload_n 0, 1, []),
  (31, .getfield 19, 3, [6, 1]),
  (34, .iload_n 1, 1, []),
  (35, .invokevirtual 122, 3, [7, 2]),
  (38, .ifCond .eq 11, 3, [49]),
  (41, .new 125, 3, [3, 127]),
  (44, .dup, 1, []),
  (45, .invokespecial 127, 3, []),
  (48, .athrow, 1, []),
  (49, .aload_n 0, 1, []),
  (50, .getfield 19, 3, [6, 1]),
  (53, .iload_n 1, 1, []),
  (54, .invokevirtual 132, 3, [8, 2]),
  (57, .istore_n 2, 1, []),
  (58, .aload_n 0, 1, []),
  (59, .getfield 19, 3, [6, 1]),
  (62, .iload_n 1, 1, []),
  (63, .invokevirtual 135, 3, [15, 2]),
  (66, .aload_n 0, 1, []),
  (67, .getfield 40, 3, [6, 4]),
  (70, .bipush 8, 2, []),
  (72, .iload_n 2, 1, []),
  (73, .iconst 1, 1, []),
  (74, .invokevirtual 139, 3, [34, 4]),
  (77, .iload_n 2, 1, []),
  (78, .ireturn, 1, [0])]
-- 74 CashRecycler.free(I)Z
def q_C_free : Nat := 74
def qc74 : List PE := [(0, .aload_n 0, 1, []),
  (1, .getfield 65, 3, [6, 10]),
  (4, .ifCond .ne 11, 3, [15]),
  (7, .new 74, 3, [1, 76]),
  (10, .dup, 1, []),
  (11, .invokespecial 76, 3, []),
  (14, .athrow, 1, []),
  (15, .iload_n 1, 1, []),
  (16, .invokestatic 119, 3, [70, 1]),
  (19, .ifCond .ne 11, 3, [30]),
  (22, .new 71, 3, [0, 73]),
  (25, .dup, 1, []),
  (26, .invokespecial 73, 3, []),
  (29, .athrow, 1, []),
  (30, .aload_n 0, 1, []),
  (31, .getfield 19, 3, [6, 1]),
  (34, .iload_n 1, 1, []),
  (35, .invokevirtual 142, 3, [10, 2]),
  (38, .istore_n 2, 1, []),
  (39, .aload_n 0, 1, []),
  (40, .getfield 19, 3, [6, 1]),
  (43, .iload_n 1, 1, []),
  (44, .iconst 0, 1, []),
  (45, .invokevirtual 128, 3, [13, 3]),
  (48, .iload_n 2, 1, []),
  (49, .ireturn, 1, [1])]
-- 75 CashRecycler.sendToReject(I)V
def q_C_sendToReject : Nat := 75
def qc75 : List PE := [(0, .iload_n 1, 1, []),
  (1, .bipush 7, 2, []),
  (3, .if_icmp .le 31, 3, [34]),
  (6, .aload_n 0, 1, []),
  (7, .getfield 40, 3, [6, 4]),
  (10, .iconst 4, 1, []),
  (11, .aload_n 0, 1, []),
  (12, .getfield 19, 3, [6, 1]),
  (15, .iload_n 1, 1, []),
  (16, .invokevirtual 132, 3, [8, 2]),
  (19, .iconst 1, 1, []),
  (20, .invokevirtual 139, 3, [34, 4]),
  (23, .aload_n 0, 1, []),
  (24, .getfield 19, 3, [6, 1]),
  (27, .iload_n 1, 1, []),
  (28, .invokevirtual 135, 3, [15, 2]),
  (31, .goto 13, 3, [44]),
  (34, .aload_n 0, 1, []),
  (35, .getfield 19, 3, [6, 1]),
  (38, .iload_n 1, 1, []),
  (39, .bipush 6, 2, []),
  (41, .invokevirtual 219, 3, [12, 3]),
  (44, .return_, 1, [])]
-- 76 CashRecycler.recover()V
def q_C_recover : Nat := 76
def qc76 : List PE := [(0, .aload_n 0, 1, []),
  (1, .bipush 7, 2, []),
  (3, .putfield 54, 3, [6, 7, 0]),
  (6, .aload_n 0, 1, []),
  (7, .getfield 51, 3, [6, 6]),
  (10, .invokevirtual 278, 3, [39, 1]),
  (13, .iconst 0, 1, []),
  (14, .istore_n 1, 1, []),
  (15, .iload_n 1, 1, []),
  (16, .bipush 10, 2, []),
  (18, .if_icmp .ge 25, 3, [43]),
  (21, .aload_n 0, 1, []),
  (22, .getfield 19, 3, [6, 1]),
  (25, .iload_n 1, 1, []),
  (26, .invokevirtual 122, 3, [7, 2]),
  (29, .ifCond .ne 8, 3, [37]),
  (32, .aload_n 0, 1, []),
  (33, .iload_n 1, 1, []),
  (34, .invokevirtual 281, 3, [75, 2]),
  (37, .iinc 1 1, 3, []),
  (40, .goto (-25), 3, [15]),
  (43, .return_, 1, [])]
-- 77 CashRecycler.shut()V
def q_C_shut : Nat := 77
def qc77 : List PE := [(0, .aload_n 0, 1, []),
  (1, .iconst 0, 1, []),
  (2, .putfield 65, 3, [6, 10, 1]),
  (5, .aload_n 0, 1, []),
  (6, .getfield 19, 3, [6, 1]),
  (9, .invokevirtual 275, 3, [17, 1]),
  (12, .ifCond .ne 7, 3, [19]),
  (15, .aload_n 0, 1, []),
  (16, .invokevirtual 272, 3, [76, 1]),
  (19, .return_, 1, [])]
-- 78 CashRecycler.close()I
def q_C_close : Nat := 78
def qc78 : List PE := [(0, .aload_n 0, 1, []),
  (1, .getfield 65, 3, [6, 10]),
  (4, .ifCond .eq 10, 3, [14]),
  (7, .aload_n 0, 1, []),
  (8, .getfield 61, 3, [6, 9]),
  (11, .ifCond .ne 11, 3, [22]),
  (14, .new 74, 3, [1, 76]),
  (17, .dup, 1, []),
  (18, .invokespecial 76, 3, []),
  (21, .athrow, 1, []),
  (22, .aload_n 0, 1, []),
  (23, .invokevirtual 145, 3, [77, 1]),
  (26, .aload_n 0, 1, []),
  (27, .getfield 54, 3, [6, 7]),
  (30, .ireturn, 1, [0])]
-- 79 CashRecycler.wakeUp()V
def q_C_wakeUp : Nat := 79
def qc79 : List PE := [(0, .aload_n 0, 1, []),
  (1, .iconst 0, 1, []),
  (2, .putfield 68, 3, [6, 11, 1]),
  (5, .aload_n 0, 1, []),
  (6, .getfield 65, 3, [6, 10]),
  (9, .ifCond .eq 10, 3, [19]),
  (12, .aload_n 0, 1, []),
  (13, .invokevirtual 145, 3, [77, 1]),
  (16, .goto 14, 3, [30]),
  (19, .aload_n 0, 1, []),
  (20, .invokevirtual 190, 3, [54, 1]),
  (23, .ifCond .eq 7, 3, [30]),
  (26, .aload_n 0, 1, []),
  (27, .invokevirtual 272, 3, [76, 1]),
  (30, .return_, 1, [])]
-- 80 CashRecycler.power()Z
def q_C_power : Nat := 80
def qc80 : List PE := [(0, .aload_n 0, 1, []),
  (1, .aload_n 0, 1, []),
  (2, .getfield 61, 3, [6, 9]),
  (5, .ifCond .ne 7, 3, [12]),
  (8, .iconst 1, 1, []),
  (9, .goto 4, 3, [13]),
  (12, .iconst 0, 1, []),
  (13, .putfield 61, 3, [6, 9, 1]),
  (16, .aload_n 0, 1, []),
  (17, .getfield 61, 3, [6, 9]),
  (20, .ifCond .eq 10, 3, [30]),
  (23, .aload_n 0, 1, []),
  (24, .invokevirtual 148, 3, [79, 1]),
  (27, .goto 10, 3, [37]),
  (30, .aload_n 0, 1, []),
  (31, .getfield 10, 3, [6, 0]),
  (34, .invokevirtual 151, 3, [5, 1]),
  (37, .aload_n 0, 1, []),
  (38, .getfield 61, 3, [6, 9]),
  (41, .ireturn, 1, [1])]
-- 81 CashRecycler.service()Z
def q_C_service : Nat := 81
def qc81 : List PE := [(0, .aload_n 0, 1, []),
  (1, .iconst 0, 1, []),
  (2, .invokevirtual 85, 3, [46, 2]),
  (5, .ifCond .ne 20, 3, [25]),
  (8, .aload_n 0, 1, []),
  (9, .bipush 8, 2, []),
  (11, .invokevirtual 85, 3, [46, 2]),
  (14, .ifCond .ne 11, 3, [25]),
  (17, .new 74, 3, [1, 76]),
  (20, .dup, 1, []),
  (21, .invokespecial 76, 3, []),
  (24, .athrow, 1, []),
  (25, .aload_n 0, 1, []),
  (26, .aload_n 0, 1, []),
  (27, .getfield 54, 3, [6, 7]),
  (30, .ifCond .ne 8, 3, [38]),
  (33, .bipush 8, 2, []),
  (35, .goto 4, 3, [39]),
  (38, .iconst 0, 1, []),
  (39, .putfield 54, 3, [6, 7, 0]),
  (42, .aload_n 0, 1, []),
  (43, .getfield 54, 3, [6, 7]),
  (46, .bipush 8, 2, []),
  (48, .if_icmp .ne 7, 3, [55]),
  (51, .iconst 1, 1, []),
  (52, .goto 4, 3, [56]),
  (55, .iconst 0, 1, []),
  (56, .ireturn, 1, [1])]
-- 82 CashRecycler.kind(II)V
def q_C_kind : Nat := 82
def qc82 : List PE := [(0, .aload_n 0, 1, []),
  (1, .bipush 8, 2, []),
  (3, .invokevirtual 85, 3, [46, 2]),
  (6, .ifCond .ne 11, 3, [17]),
  (9, .new 74, 3, [1, 76]),
  (12, .dup, 1, []),
  (13, .invokespecial 76, 3, []),
  (16, .athrow, 1, []),
  (17, .iload_n 1, 1, []),
  (18, .invokestatic 153, 3, [29, 1]),
  (21, .ifCond .eq 10, 3, [31]),
  (24, .iload_n 2, 1, []),
  (25, .invokestatic 106, 3, [52, 1]),
  (28, .ifCond .ne 11, 3, [39]),
  (31, .new 71, 3, [0, 73]),
  (34, .dup, 1, []),
  (35, .invokespecial 73, 3, []),
  (38, .athrow, 1, []),
  (39, .aload_n 0, 1, []),
  (40, .getfield 33, 3, [6, 3]),
  (43, .iload_n 1, 1, []),
  (44, .invokevirtual 156, 3, [26, 2]),
  (47, .ifCond .le 11, 3, [58]),
  (50, .new 99, 3, [2, 101]),
  (53, .dup, 1, []),
  (54, .invokespecial 101, 3, []),
  (57, .athrow, 1, []),
  (58, .aload_n 0, 1, []),
  (59, .getfield 33, 3, [6, 3]),
  (62, .iload_n 1, 1, []),
  (63, .iload_n 2, 1, []),
  (64, .invokevirtual 158, 3, [25, 3]),
  (67, .return_, 1, [])]
-- 83 CashRecycler.refill(II)I
def q_C_refill : Nat := 83
def qc83 : List PE := [(0, .aload_n 0, 1, []),
  (1, .bipush 8, 2, []),
  (3, .invokevirtual 85, 3, [46, 2]),
  (6, .ifCond .ne 11, 3, [17]),
  (9, .new 74, 3, [1, 76]),
  (12, .dup, 1, []),
  (13, .invokespecial 76, 3, []),
  (16, .athrow, 1, []),
  (17, .iload_n 1, 1, []),
  (18, .invokestatic 153, 3, [29, 1]),
  (21, .ifCond .eq 20, 3, [41]),
  (24, .iload_n 2, 1, []),
  (25, .iconst 1, 1, []),
  (26, .if_icmp .lt 15, 3, [41]),
  (29, .iload_n 2, 1, []),
  (30, .aload_n 0, 1, []),
  (31, .getfield 33, 3, [6, 3]),
  (34, .iload_n 1, 1, []),
  (35, .invokevirtual 162, 3, [27, 2]),
  (38, .if_icmp .le 11, 3, [49]),
  (41, .new 71, 3, [0, 73]),
  (44, .dup, 1, []),
  (45, .invokespecial 73, 3, []),
  (48, .athrow, 1, []),
  (49, .aload_n 0, 1, []),
  (50, .getfield 33, 3, [6, 3]),
  (53, .iload_n 1, 1, []),
  (54, .iload_n 2, 1, []),
  (55, .invokevirtual 165, 3, [28, 3]),
  (58, .aload_n 0, 1, []),
  (59, .getfield 40, 3, [6, 4]),
  (62, .bipush 9, 2, []),
  (64, .aload_n 0, 1, []),
  (65, .getfield 33, 3, [6, 3]),
  (68, .iload_n 1, 1, []),
  (69, .invokevirtual 168, 3, [24, 2]),
  (72, .iload_n 2, 1, []),
  (73, .invokevirtual 139, 3, [34, 4]),
  (76, .aload_n 0, 1, []),
  (77, .getfield 33, 3, [6, 3]),
  (80, .iload_n 1, 1, []),
  (81, .invokevirtual 156, 3, [26, 2]),
  (84, .ireturn, 1, [0])]
-- 84 CashRecycler.emptyCassette(I)I
def q_C_emptyCassette : Nat := 84
def qc84 : List PE := [(0, .aload_n 0, 1, []),
  (1, .getfield 33, 3, [6, 3]),
  (4, .iload_n 1, 1, []),
  (5, .invokevirtual 156, 3, [26, 2]),
  (8, .istore_n 2, 1, []),
  (9, .aload_n 0, 1, []),
  (10, .getfield 33, 3, [6, 3]),
  (13, .iload_n 1, 1, []),
  (14, .iload_n 2, 1, []),
  (15, .ineg, 1, []),
  (16, .invokevirtual 165, 3, [28, 3]),
  (19, .aload_n 0, 1, []),
  (20, .getfield 40, 3, [6, 4]),
  (23, .bipush 7, 2, []),
  (25, .aload_n 0, 1, []),
  (26, .getfield 33, 3, [6, 3]),
  (29, .iload_n 1, 1, []),
  (30, .invokevirtual 168, 3, [24, 2]),
  (33, .iload_n 2, 1, []),
  (34, .invokevirtual 139, 3, [34, 4]),
  (37, .iload_n 2, 1, []),
  (38, .ireturn, 1, [0])]
-- 85 CashRecycler.empty(I)I
def q_C_empty : Nat := 85
def qc85 : List PE := [(0, .aload_n 0, 1, []),
  (1, .bipush 8, 2, []),
  (3, .invokevirtual 85, 3, [46, 2]),
  (6, .ifCond .ne 11, 3, [17]),
  (9, .new 74, 3, [1, 76]),
  (12, .dup, 1, []),
  (13, .invokespecial 76, 3, []),
  (16, .athrow, 1, []),
  (17, .iload_n 1, 1, []),
  (18, .invokestatic 153, 3, [29, 1]),
  (21, .ifCond .eq 9, 3, [30]),
  (24, .aload_n 0, 1, []),
  (25, .iload_n 1, 1, []),
  (26, .invokevirtual 171, 3, [84, 2]),
  (29, .ireturn, 1, [0]),
  (30, .iload_n 1, 1, []),
  (31, .iconst 4, 1, []),
  (32, .if_icmp .ne 14, 3, [46]),
  (35, .aload_n 0, 1, []),
  (36, .getfield 40, 3, [6, 4]),
  (39, .iconst 2, 1, []),
  (40, .bipush 7, 2, []),
  (42, .invokevirtual 115, 3, [36, 3]),
  (45, .ireturn, 1, [0]),
  (46, .iload_n 1, 1, []),
  (47, .iconst 5, 1, []),
  (48, .if_icmp .ne 14, 3, [62]),
  (51, .aload_n 0, 1, []),
  (52, .getfield 40, 3, [6, 4]),
  (55, .iconst 4, 1, []),
  (56, .bipush 7, 2, []),
  (58, .invokevirtual 115, 3, [36, 3]),
  (61, .ireturn, 1, [0]),
  (62, .new 71, 3, [0, 73]),
  (65, .dup, 1, []),
  (66, .invokespecial 73, 3, []),
  (69, .athrow, 1, [])]
-- 86 CashRecycler.state()I
def q_C_state : Nat := 86
def qc86 : List PE := [(0, .aload_n 0, 1, []),
  (1, .getfield 54, 3, [6, 7]),
  (4, .ireturn, 1, [0])]
-- 87 CashRecycler.countNotes(II)I
def q_C_countNotes : Nat := 87
def qc87 : List PE := [(0, .iload_n 1, 1, []),
  (1, .lookupswitch 83 #[(0, 43), (1, 52), (3, 61), (10, 70)], 43, [84, 44, 53, 62, 71]),
  (44, .aload_n 0, 1, []),
  (45, .getfield 26, 3, [6, 2]),
  (48, .iload_n 2, 1, []),
  (49, .invokevirtual 185, 3, [23, 2]),
  (52, .ireturn, 1, [0]),
  (53, .aload_n 0, 1, []),
  (54, .getfield 33, 3, [6, 3]),
  (57, .iload_n 2, 1, []),
  (58, .invokevirtual 186, 3, [32, 2]),
  (61, .ireturn, 1, [0]),
  (62, .aload_n 0, 1, []),
  (63, .getfield 19, 3, [6, 1]),
  (66, .iload_n 2, 1, []),
  (67, .invokevirtual 187, 3, [18, 2]),
  (70, .ireturn, 1, [0]),
  (71, .iload_n 2, 1, []),
  (72, .ifCond .ne 10, 3, [82]),
  (75, .aload_n 0, 1, []),
  (76, .getfield 58, 3, [6, 8]),
  (79, .goto 4, 3, [83]),
  (82, .iconst 0, 1, []),
  (83, .ireturn, 1, [0]),
  (84, .aload_n 0, 1, []),
  (85, .getfield 40, 3, [6, 4]),
  (88, .iload_n 1, 1, []),
  (89, .iload_n 2, 1, []),
  (90, .invokevirtual 188, 3, [33, 3]),
  (93, .ireturn, 1, [0])]
-- 88 CashRecycler.notes(II)I
def q_C_notes : Nat := 88
def qc88 : List PE := [(0, .iload_n 1, 1, []),
  (1, .ifCond .lt 18, 3, [19]),
  (4, .iload_n 1, 1, []),
  (5, .bipush 10, 2, []),
  (7, .if_icmp .gt 12, 3, [19]),
  (10, .iload_n 2, 1, []),
  (11, .ifCond .lt 8, 3, [19]),
  (14, .iload_n 2, 1, []),
  (15, .iconst 5, 1, []),
  (16, .if_icmp .le 11, 3, [27]),
  (19, .new 71, 3, [0, 73]),
  (22, .dup, 1, []),
  (23, .invokespecial 73, 3, []),
  (26, .athrow, 1, []),
  (27, .aload_n 0, 1, []),
  (28, .iload_n 1, 1, []),
  (29, .iload_n 2, 1, []),
  (30, .invokevirtual 174, 3, [87, 3]),
  (33, .ireturn, 1, [0])]
-- 89 CashRecycler.cassette(II)I
def q_C_cassette : Nat := 89
def qc89 : List PE := [(0, .iload_n 1, 1, []),
  (1, .invokestatic 153, 3, [29, 1]),
  (4, .ifCond .eq 12, 3, [16]),
  (7, .iload_n 2, 1, []),
  (8, .ifCond .lt 8, 3, [16]),
  (11, .iload_n 2, 1, []),
  (12, .iconst 1, 1, []),
  (13, .if_icmp .le 11, 3, [24]),
  (16, .new 71, 3, [0, 73]),
  (19, .dup, 1, []),
  (20, .invokespecial 73, 3, []),
  (23, .athrow, 1, []),
  (24, .iload_n 2, 1, []),
  (25, .ifCond .ne 14, 3, [39]),
  (28, .aload_n 0, 1, []),
  (29, .getfield 33, 3, [6, 3]),
  (32, .iload_n 1, 1, []),
  (33, .invokevirtual 156, 3, [26, 2]),
  (36, .goto 11, 3, [47]),
  (39, .aload_n 0, 1, []),
  (40, .getfield 33, 3, [6, 3]),
  (43, .iload_n 1, 1, []),
  (44, .invokevirtual 168, 3, [24, 2]),
  (47, .ireturn, 1, [0])]
-- 90 CashRecycler.belt(II)I
def q_C_belt : Nat := 90
def qc90 : List PE := [(0, .iload_n 1, 1, []),
  (1, .invokestatic 119, 3, [70, 1]),
  (4, .ifCond .eq 12, 3, [16]),
  (7, .iload_n 2, 1, []),
  (8, .ifCond .lt 8, 3, [16]),
  (11, .iload_n 2, 1, []),
  (12, .iconst 2, 1, []),
  (13, .if_icmp .le 11, 3, [24]),
  (16, .new 71, 3, [0, 73]),
  (19, .dup, 1, []),
  (20, .invokespecial 73, 3, []),
  (23, .athrow, 1, []),
  (24, .aload_n 0, 1, []),
  (25, .getfield 19, 3, [6, 1]),
  (28, .iload_n 1, 1, []),
  (29, .invokevirtual 122, 3, [7, 2]),
  (32, .ifCond .eq 5, 3, [37]),
  (35, .iconst (-1), 1, []),
  (36, .ireturn, 1, [0]),
  (37, .iload_n 2, 1, []),
  (38, .ifCond .ne 12, 3, [50]),
  (41, .aload_n 0, 1, []),
  (42, .getfield 19, 3, [6, 1]),
  (45, .iload_n 1, 1, []),
  (46, .invokevirtual 132, 3, [8, 2]),
  (49, .ireturn, 1, [0]),
  (50, .iload_n 2, 1, []),
  (51, .iconst 1, 1, []),
  (52, .if_icmp .ne 12, 3, [64]),
  (55, .aload_n 0, 1, []),
  (56, .getfield 19, 3, [6, 1]),
  (59, .iload_n 1, 1, []),
  (60, .invokevirtual 177, 3, [9, 2]),
  (63, .ireturn, 1, [0]),
  (64, .aload_n 0, 1, []),
  (65, .getfield 19, 3, [6, 1]),
  (68, .iload_n 1, 1, []),
  (69, .invokevirtual 142, 3, [10, 2]),
  (72, .ifCond .eq 7, 3, [79]),
  (75, .iconst 1, 1, []),
  (76, .goto 4, 3, [80]),
  (79, .iconst 0, 1, []),
  (80, .ireturn, 1, [0])]
-- 91 CashRecycler.balance()I
def q_C_balance : Nat := 91
def qc91 : List PE := [(0, .iconst 0, 1, []),
  (1, .istore_n 1, 1, []),
  (2, .iconst 1, 1, []),
  (3, .istore_n 2, 1, []),
  (4, .iload_n 2, 1, []),
  (5, .iconst 5, 1, []),
  (6, .if_icmp .gt 52, 3, [58]),
  (9, .iconst 0, 1, []),
  (10, .istore_n 3, 1, []),
  (11, .iconst 0, 1, []),
  (12, .istore 4, 2, []),
  (14, .iload 4, 2, []),
  (16, .bipush 8, 2, []),
  (18, .if_icmp .gt 19, 3, [37]),
  (21, .iload_n 3, 1, []),
  (22, .aload_n 0, 1, []),
  (23, .iload 4, 2, []),
  (25, .iload_n 2, 1, []),
  (26, .invokevirtual 174, 3, [87, 3]),
  (29, .iadd, 1, []),
  (30, .istore_n 3, 1, []),
  (31, .iinc 4 1, 3, []),
  (34, .goto (-20), 3, [14]),
  (37, .iload_n 1, 1, []),
  (38, .aload_n 0, 1, []),
  (39, .bipush 9, 2, []),
  (41, .iload_n 2, 1, []),
  (42, .invokevirtual 174, 3, [87, 3]),
  (45, .iload_n 3, 1, []),
  (46, .isub, 1, []),
  (47, .invokestatic 180, 3, [0, 1]),
  (50, .iadd, 1, []),
  (51, .istore_n 1, 1, []),
  (52, .iinc 2 1, 3, []),
  (55, .goto (-51), 3, [4]),
  (58, .iload_n 1, 1, []),
  (59, .ireturn, 1, [0])]
-- 92 CashRecyclerModel.thrown()I
def q_M_thrown : Nat := 92
def qc92 : List PE := [(0, .aload_n 0, 1, []),
  (1, .getfield 59, 3, [7, 0]),
  (4, .ireturn, 1, [0])]
-- 93 CashRecyclerModel.sum([I)I
def q_M_sum : Nat := 93
def qc93 : List PE := [(0, .aload_n 0, 1, []),
  (1, .iconst 0, 1, []),
  (2, .iaload, 1, []),
  (3, .aload_n 0, 1, []),
  (4, .iconst 1, 1, []),
  (5, .iaload, 1, []),
  (6, .iadd, 1, []),
  (7, .aload_n 0, 1, []),
  (8, .iconst 2, 1, []),
  (9, .iaload, 1, []),
  (10, .iadd, 1, []),
  (11, .aload_n 0, 1, []),
  (12, .iconst 3, 1, []),
  (13, .iaload, 1, []),
  (14, .iadd, 1, []),
  (15, .aload_n 0, 1, []),
  (16, .iconst 4, 1, []),
  (17, .iaload, 1, []),
  (18, .iadd, 1, []),
  (19, .aload_n 0, 1, []),
  (20, .iconst 5, 1, []),
  (21, .iaload, 1, []),
  (22, .iadd, 1, []),
  (23, .ireturn, 1, [0])]
-- 94 CashRecyclerModel.segmentOf(I)I
def q_M_segmentOf : Nat := 94
def qc94 : List PE := [(0, .iload_n 0, 1, []),
  (1, .iconst 1, 1, []),
  (2, .if_icmp .ne 7, 3, [9]),
  (5, .iconst 4, 1, []),
  (6, .goto 66, 3, [72]),
  (9, .iload_n 0, 1, []),
  (10, .iconst 2, 1, []),
  (11, .if_icmp .eq 8, 3, [19]),
  (14, .iload_n 0, 1, []),
  (15, .iconst 3, 1, []),
  (16, .if_icmp .ne 7, 3, [23]),
  (19, .iconst 5, 1, []),
  (20, .goto 52, 3, [72]),
  (23, .iload_n 0, 1, []),
  (24, .iconst 4, 1, []),
  (25, .if_icmp .eq 8, 3, [33]),
  (28, .iload_n 0, 1, []),
  (29, .iconst 5, 1, []),
  (30, .if_icmp .ne 8, 3, [38]),
  (33, .bipush 6, 2, []),
  (35, .goto 37, 3, [72]),
  (38, .iload_n 0, 1, []),
  (39, .bipush 6, 2, []),
  (41, .if_icmp .ne 8, 3, [49]),
  (44, .bipush 7, 2, []),
  (46, .goto 26, 3, [72]),
  (49, .iload_n 0, 1, []),
  (50, .bipush 7, 2, []),
  (52, .if_icmp .ne 8, 3, [60]),
  (55, .bipush 8, 2, []),
  (57, .goto 15, 3, [72]),
  (60, .iload_n 0, 1, []),
  (61, .bipush 8, 2, []),
  (63, .if_icmp .ne 8, 3, [71]),
  (66, .bipush 9, 2, []),
  (68, .goto 4, 3, [72]),
  (71, .iconst (-1), 1, []),
  (72, .ireturn, 1, [0])]
-- 95 CashRecyclerModel.onBelt()I
def q_M_onBelt : Nat := 95
def qc95 : List PE := [(0, .iconst 0, 1, []),
  (1, .istore_n 1, 1, []),
  (2, .iconst 0, 1, []),
  (3, .istore_n 2, 1, []),
  (4, .iload_n 2, 1, []),
  (5, .bipush 10, 2, []),
  (7, .if_icmp .ge 27, 3, [34]),
  (10, .iload_n 1, 1, []),
  (11, .aload_n 0, 1, []),
  (12, .getfield 13, 3, [7, 8]),
  (15, .iload_n 2, 1, []),
  (16, .iaload, 1, []),
  (17, .iconst (-1), 1, []),
  (18, .if_icmp .ne 7, 3, [25]),
  (21, .iconst 0, 1, []),
  (22, .goto 4, 3, [26]),
  (25, .iconst 1, 1, []),
  (26, .iadd, 1, []),
  (27, .istore_n 1, 1, []),
  (28, .iinc 2 1, 3, []),
  (31, .goto (-27), 3, [4]),
  (34, .iload_n 1, 1, []),
  (35, .ireturn, 1, [0])]
-- 96 CashRecyclerModel.insert(I)I
def q_M_insert : Nat := 96
def qc96 : List PE := [(0, .aload_n 0, 1, []),
  (1, .iload_n 1, 1, []),
  (2, .iconst 1, 1, []),
  (3, .if_icmp .lt 9, 3, [12]),
  (6, .iload_n 1, 1, []),
  (7, .bipush 20, 2, []),
  (9, .if_icmp .le 7, 3, [16]),
  (12, .iconst 1, 1, []),
  (13, .goto 19, 3, [32]),
  (16, .aload_n 0, 1, []),
  (17, .getfield 63, 3, [7, 5]),
  (20, .iload_n 1, 1, []),
  (21, .iadd, 1, []),
  (22, .bipush 40, 2, []),
  (24, .if_icmp .le 7, 3, [31]),
  (27, .iconst 2, 1, []),
  (28, .goto 4, 3, [32]),
  (31, .iconst 0, 1, []),
  (32, .putfield 59, 3, [7, 0, 0]),
  (35, .aload_n 0, 1, []),
  (36, .getfield 59, 3, [7, 0]),
  (39, .ifCond .le 5, 3, [44]),
  (42, .iconst 0, 1, []),
  (43, .ireturn, 1, [0]),
  (44, .aload_n 0, 1, []),
  (45, .dup, 1, []),
  (46, .getfield 63, 3, [7, 5]),
  (49, .iload_n 1, 1, []),
  (50, .iadd, 1, []),
  (51, .putfield 63, 3, [7, 5, 0]),
  (54, .aload_n 0, 1, []),
  (55, .getfield 63, 3, [7, 5]),
  (58, .ireturn, 1, [0])]
-- 97 CashRecyclerModel.verdict(I)I
def q_M_verdict : Nat := 97
def qc97 : List PE := [(0, .aload_n 0, 1, []),
  (1, .iload_n 1, 1, []),
  (2, .ifCond .lt 9, 3, [11]),
  (5, .iload_n 1, 1, []),
  (6, .bipush 6, 2, []),
  (8, .if_icmp .le 7, 3, [15]),
  (11, .iconst 1, 1, []),
  (12, .goto 17, 3, [29]),
  (15, .aload_n 0, 1, []),
  (16, .getfield 66, 3, [7, 7]),
  (19, .bipush 40, 2, []),
  (21, .if_icmp .ne 7, 3, [28]),
  (24, .iconst 2, 1, []),
  (25, .goto 4, 3, [29]),
  (28, .iconst 0, 1, []),
  (29, .putfield 59, 3, [7, 0, 0]),
  (32, .aload_n 0, 1, []),
  (33, .getfield 59, 3, [7, 0]),
  (36, .ifCond .le 5, 3, [41]),
  (39, .iconst 0, 1, []),
  (40, .ireturn, 1, [0]),
  (41, .aload_n 0, 1, []),
  (42, .getfield 7, 3, [7, 6]),
  (45, .aload_n 0, 1, []),
  (46, .getfield 66, 3, [7, 7]),
  (49, .iload_n 1, 1, []),
  (50, .iastore, 1, []),
  (51, .aload_n 0, 1, []),
  (52, .dup, 1, []),
  (53, .getfield 66, 3, [7, 7]),
  (56, .iconst 1, 1, []),
  (57, .iadd, 1, []),
  (58, .putfield 66, 3, [7, 7, 0]),
  (61, .aload_n 0, 1, []),
  (62, .getfield 66, 3, [7, 7]),
  (65, .ireturn, 1, [0])]
-- 98 CashRecyclerModel.deposit()V
def q_M_deposit : Nat := 98
def qc98 : List PE := [(0, .aload_n 0, 1, []),
  (1, .aload_n 0, 1, []),
  (2, .getfield 69, 3, [7, 2]),
  (5, .ifCond .ne 27, 3, [32]),
  (8, .aload_n 0, 1, []),
  (9, .getfield 73, 3, [7, 1]),
  (12, .ifCond .ne 20, 3, [32]),
  (15, .aload_n 0, 1, []),
  (16, .getfield 63, 3, [7, 5]),
  (19, .ifCond .eq 13, 3, [32]),
  (22, .aload_n 0, 1, []),
  (23, .getfield 38, 3, [7, 17]),
  (26, .invokestatic 76, 3, [93, 1]),
  (29, .ifCond .le 7, 3, [36]),
  (32, .iconst 1, 1, []),
  (33, .goto 4, 3, [37]),
  (36, .iconst 0, 1, []),
  (37, .putfield 59, 3, [7, 0, 0]),
  (40, .aload_n 0, 1, []),
  (41, .getfield 59, 3, [7, 0]),
  (44, .ifCond .ne 8, 3, [52]),
  (47, .aload_n 0, 1, []),
  (48, .iconst 1, 1, []),
  (49, .putfield 73, 3, [7, 1, 0]),
  (52, .return_, 1, [])]
-- 99 CashRecyclerModel.confirm()V
def q_M_confirm : Nat := 99
def qc99 : List PE := [(0, .aload_n 0, 1, []),
  (1, .aload_n 0, 1, []),
  (2, .getfield 69, 3, [7, 2]),
  (5, .ifCond .ne 11, 3, [16]),
  (8, .aload_n 0, 1, []),
  (9, .getfield 73, 3, [7, 1]),
  (12, .iconst 2, 1, []),
  (13, .if_icmp .eq 7, 3, [20]),
  (16, .iconst 1, 1, []),
  (17, .goto 4, 3, [21]),
  (20, .iconst 0, 1, []),
  (21, .putfield 59, 3, [7, 0, 0]),
  (24, .aload_n 0, 1, []),
  (25, .getfield 59, 3, [7, 0]),
  (28, .ifCond .ne 8, 3, [36]),
  (31, .aload_n 0, 1, []),
  (32, .iconst 3, 1, []),
  (33, .putfield 73, 3, [7, 1, 0]),
  (36, .return_, 1, [])]
-- 100 CashRecyclerModel.giveBack()V
def q_M_giveBack : Nat := 100
def qc100 : List PE := [(0, .aload_n 0, 1, []),
  (1, .aload_n 0, 1, []),
  (2, .getfield 69, 3, [7, 2]),
  (5, .ifCond .ne 11, 3, [16]),
  (8, .aload_n 0, 1, []),
  (9, .getfield 73, 3, [7, 1]),
  (12, .iconst 2, 1, []),
  (13, .if_icmp .eq 7, 3, [20]),
  (16, .iconst 1, 1, []),
  (17, .goto 4, 3, [21]),
  (20, .iconst 0, 1, []),
  (21, .putfield 59, 3, [7, 0, 0]),
  (24, .aload_n 0, 1, []),
  (25, .getfield 59, 3, [7, 0]),
  (28, .ifCond .ne 8, 3, [36]),
  (31, .aload_n 0, 1, []),
  (32, .iconst 4, 1, []),
  (33, .putfield 73, 3, [7, 1, 0]),
  (36, .return_, 1, [])]
-- 101 CashRecyclerModel.inStores(I)I
def q_M_inStores : Nat := 101
def qc101 : List PE := [(0, .iconst 0, 1, []),
  (1, .istore_n 2, 1, []),
  (2, .iconst 0, 1, []),
  (3, .istore_n 3, 1, []),
  (4, .iload_n 3, 1, []),
  (5, .iconst 4, 1, []),
  (6, .if_icmp .ge 32, 3, [38]),
  (9, .iload_n 2, 1, []),
  (10, .aload_n 0, 1, []),
  (11, .getfield 26, 3, [7, 13]),
  (14, .iload_n 3, 1, []),
  (15, .iaload, 1, []),
  (16, .iload_n 1, 1, []),
  (17, .if_icmp .ne 12, 3, [29]),
  (20, .aload_n 0, 1, []),
  (21, .getfield 29, 3, [7, 14]),
  (24, .iload_n 3, 1, []),
  (25, .iaload, 1, []),
  (26, .goto 4, 3, [30]),
  (29, .iconst 0, 1, []),
  (30, .iadd, 1, []),
  (31, .istore_n 2, 1, []),
  (32, .iinc 3 1, 3, []),
  (35, .goto (-31), 3, [4]),
  (38, .iload_n 2, 1, []),
  (39, .ireturn, 1, [0])]
-- 102 CashRecyclerModel.three(III)V
def q_M_three : Nat := 102
def qc102 : List PE := [(0, .aload_n 0, 1, []),
  (1, .iconst 3, 1, []),
  (2, .invokevirtual 83, 3, [101, 2]),
  (5, .istore 4, 2, []),
  (7, .aload_n 0, 1, []),
  (8, .iconst 2, 1, []),
  (9, .invokevirtual 83, 3, [101, 2]),
  (12, .istore 5, 2, []),
  (14, .iload 4, 2, []),
  (16, .iload_n 3, 1, []),
  (17, .iconst 4, 1, []),
  (18, .idiv, 1, []),
  (19, .if_icmp .ge 8, 3, [27]),
  (22, .iload 4, 2, []),
  (24, .goto 6, 3, [30]),
  (27, .iload_n 3, 1, []),
  (28, .iconst 4, 1, []),
  (29, .idiv, 1, []),
  (30, .istore 6, 2, []),
  (32, .iload 6, 2, []),
  (34, .ifCond .lt 153, 3, [187]),
  (37, .iload_n 1, 1, []),
  (38, .iload_n 2, 1, []),
  (39, .iadd, 1, []),
  (40, .aload_n 0, 1, []),
  (41, .getfield 80, 3, [7, 24]),
  (44, .if_icmp .ge 143, 3, [187]),
  (47, .iload_n 3, 1, []),
  (48, .iconst 4, 1, []),
  (49, .iload 6, 2, []),
  (51, .imul, 1, []),
  (52, .isub, 1, []),
  (53, .istore 7, 2, []),
  (55, .iload 5, 2, []),
  (57, .iload 7, 2, []),
  (59, .iconst 2, 1, []),
  (60, .idiv, 1, []),
  (61, .if_icmp .ge 8, 3, [69]),
  (64, .iload 5, 2, []),
  (66, .goto 7, 3, [73]),
  (69, .iload 7, 2, []),
  (71, .iconst 2, 1, []),
  (72, .idiv, 1, []),
  (73, .istore 8, 2, []),
  (75, .iload 8, 2, []),
  (77, .ifCond .lt 104, 3, [181]),
  (80, .iload 7, 2, []),
  (82, .iconst 2, 1, []),
  (83, .iload 8, 2, []),
  (85, .imul, 1, []),
  (86, .isub, 1, []),
  (87, .istore 9, 2, []),
  (89, .iload 9, 2, []),
  (91, .aload_n 0, 1, []),
  (92, .iconst 1, 1, []),
  (93, .invokevirtual 83, 3, [101, 2]),
  (96, .if_icmp .gt 79, 3, [175]),
  (99, .iload_n 1, 1, []),
  (100, .iload_n 2, 1, []),
  (101, .iadd, 1, []),
  (102, .iload 6, 2, []),
  (104, .iadd, 1, []),
  (105, .iload 8, 2, []),
  (107, .iadd, 1, []),
  (108, .iload 9, 2, []),
  (110, .iadd, 1, []),
  (111, .aload_n 0, 1, []),
  (112, .getfield 80, 3, [7, 24]),
  (115, .if_icmp .lt 6, 3, [121]),
  (118, .goto 57, 3, [175]),
  (121, .aload_n 0, 1, []),
  (122, .iload_n 1, 1, []),
  (123, .iload_n 2, 1, []),
  (124, .iadd, 1, []),
  (125, .iload 6, 2, []),
  (127, .iadd, 1, []),
  (128, .iload 8, 2, []),
  (130, .iadd, 1, []),
  (131, .iload 9, 2, []),
  (133, .iadd, 1, []),
  (134, .putfield 80, 3, [7, 24, 0]),
  (137, .aload_n 0, 1, []),
  (138, .getfield 56, 3, [7, 23]),
  (141, .iconst 5, 1, []),
  (142, .iload_n 1, 1, []),
  (143, .iastore, 1, []),
  (144, .aload_n 0, 1, []),
  (145, .getfield 56, 3, [7, 23]),
  (148, .iconst 4, 1, []),
  (149, .iload_n 2, 1, []),
  (150, .iastore, 1, []),
  (151, .aload_n 0, 1, []),
  (152, .getfield 56, 3, [7, 23]),
  (155, .iconst 3, 1, []),
  (156, .iload 6, 2, []),
  (158, .iastore, 1, []),
  (159, .aload_n 0, 1, []),
  (160, .getfield 56, 3, [7, 23]),
  (163, .iconst 2, 1, []),
  (164, .iload 8, 2, []),
  (166, .iastore, 1, []),
  (167, .aload_n 0, 1, []),
  (168, .getfield 56, 3, [7, 23]),
  (171, .iconst 1, 1, []),
  (172, .iload 9, 2, []),
  (174, .iastore, 1, []),
  (175, .iinc 8 (-1), 3, []),
  (178, .goto (-103), 3, [75]),
  (181, .iinc 6 (-1), 3, []),
  (184, .goto (-152), 3, [32]),
  (187, .return_, 1, [])]
-- 103 CashRecyclerModel.plans(I)Z
def q_M_plans : Nat := 103
def qc103 : List PE := [(0, .aload_n 0, 1, []),
  (1, .bipush 21, 2, []),
  (3, .putfield 80, 3, [7, 24, 0]),
  (6, .aload_n 0, 1, []),
  (7, .iconst 5, 1, []),
  (8, .invokevirtual 83, 3, [101, 2]),
  (11, .istore_n 2, 1, []),
  (12, .iload_n 2, 1, []),
  (13, .iload_n 1, 1, []),
  (14, .bipush 20, 2, []),
  (16, .idiv, 1, []),
  (17, .if_icmp .ge 7, 3, [24]),
  (20, .iload_n 2, 1, []),
  (21, .goto 7, 3, [28]),
  (24, .iload_n 1, 1, []),
  (25, .bipush 20, 2, []),
  (27, .idiv, 1, []),
  (28, .istore_n 3, 1, []),
  (29, .iload_n 3, 1, []),
  (30, .ifCond .lt 72, 3, [102]),
  (33, .iload_n 1, 1, []),
  (34, .bipush 20, 2, []),
  (36, .iload_n 3, 1, []),
  (37, .imul, 1, []),
  (38, .isub, 1, []),
  (39, .istore 4, 2, []),
  (41, .aload_n 0, 1, []),
  (42, .iconst 4, 1, []),
  (43, .invokevirtual 83, 3, [101, 2]),
  (46, .istore 5, 2, []),
  (48, .iload 5, 2, []),
  (50, .iload 4, 2, []),
  (52, .bipush 10, 2, []),
  (54, .idiv, 1, []),
  (55, .if_icmp .ge 8, 3, [63]),
  (58, .iload 5, 2, []),
  (60, .goto 8, 3, [68]),
  (63, .iload 4, 2, []),
  (65, .bipush 10, 2, []),
  (67, .idiv, 1, []),
  (68, .istore 6, 2, []),
  (70, .iload 6, 2, []),
  (72, .ifCond .lt 24, 3, [96]),
  (75, .aload_n 0, 1, []),
  (76, .iload_n 3, 1, []),
  (77, .iload 6, 2, []),
  (79, .iload 4, 2, []),
  (81, .bipush 10, 2, []),
  (83, .iload 6, 2, []),
  (85, .imul, 1, []),
  (86, .isub, 1, []),
  (87, .invokevirtual 87, 3, [102, 4]),
  (90, .iinc 6 (-1), 3, []),
  (93, .goto (-23), 3, [70]),
  (96, .iinc 3 (-1), 3, []),
  (99, .goto (-70), 3, [29]),
  (102, .aload_n 0, 1, []),
  (103, .getfield 80, 3, [7, 24]),
  (106, .bipush 21, 2, []),
  (108, .if_icmp .ge 7, 3, [115]),
  (111, .iconst 1, 1, []),
  (112, .goto 4, 3, [116]),
  (115, .iconst 0, 1, []),
  (116, .ireturn, 1, [1])]
-- 104 CashRecyclerModel.payout(I)I
def q_M_payout : Nat := 104
def qc104 : List PE := [(0, .aload_n 0, 1, []),
  (1, .iload_n 1, 1, []),
  (2, .iconst 1, 1, []),
  (3, .if_icmp .lt 10, 3, [13]),
  (6, .iload_n 1, 1, []),
  (7, .sipush 400, 3, []),
  (10, .if_icmp .le 7, 3, [17]),
  (13, .iconst 1, 1, []),
  (14, .goto 44, 3, [58]),
  (17, .aload_n 0, 1, []),
  (18, .getfield 69, 3, [7, 2]),
  (21, .ifCond .ne 20, 3, [41]),
  (24, .aload_n 0, 1, []),
  (25, .getfield 73, 3, [7, 1]),
  (28, .ifCond .ne 13, 3, [41]),
  (31, .aload_n 0, 1, []),
  (32, .getfield 38, 3, [7, 17]),
  (35, .invokestatic 76, 3, [93, 1]),
  (38, .ifCond .le 7, 3, [45]),
  (41, .iconst 2, 1, []),
  (42, .goto 16, 3, [58]),
  (45, .aload_n 0, 1, []),
  (46, .iload_n 1, 1, []),
  (47, .invokevirtual 91, 3, [103, 2]),
  (50, .ifCond .ne 7, 3, [57]),
  (53, .iconst 3, 1, []),
  (54, .goto 4, 3, [58]),
  (57, .iconst 0, 1, []),
  (58, .putfield 59, 3, [7, 0, 0]),
  (61, .aload_n 0, 1, []),
  (62, .getfield 59, 3, [7, 0]),
  (65, .ifCond .le 5, 3, [70]),
  (68, .iconst 0, 1, []),
  (69, .ireturn, 1, [0]),
  (70, .iconst 1, 1, []),
  (71, .istore_n 2, 1, []),
  (72, .iload_n 2, 1, []),
  (73, .bipush 6, 2, []),
  (75, .if_icmp .ge 21, 3, [96]),
  (78, .aload_n 0, 1, []),
  (79, .getfield 53, 3, [7, 22]),
  (82, .iload_n 2, 1, []),
  (83, .aload_n 0, 1, []),
  (84, .getfield 56, 3, [7, 23]),
  (87, .iload_n 2, 1, []),
  (88, .iaload, 1, []),
  (89, .iastore, 1, []),
  (90, .iinc 2 1, 3, []),
  (93, .goto (-21), 3, [72]),
  (96, .aload_n 0, 1, []),
  (97, .iconst 5, 1, []),
  (98, .putfield 73, 3, [7, 1, 0]),
  (101, .aload_n 0, 1, []),
  (102, .getfield 80, 3, [7, 24]),
  (105, .ireturn, 1, [0])]
-- 105 CashRecyclerModel.plan(II)I
def q_M_plan : Nat := 105
def qc105 : List PE := [(0, .aload_n 0, 1, []),
  (1, .iload_n 2, 1, []),
  (2, .iconst 1, 1, []),
  (3, .if_icmp .lt 20, 3, [23]),
  (6, .iload_n 2, 1, []),
  (7, .iconst 5, 1, []),
  (8, .if_icmp .gt 15, 3, [23]),
  (11, .iload_n 1, 1, []),
  (12, .iconst 1, 1, []),
  (13, .if_icmp .lt 10, 3, [23]),
  (16, .iload_n 1, 1, []),
  (17, .sipush 400, 3, []),
  (20, .if_icmp .le 7, 3, [27]),
  (23, .iconst 1, 1, []),
  (24, .goto 4, 3, [28]),
  (27, .iconst 0, 1, []),
  (28, .putfield 59, 3, [7, 0, 0]),
  (31, .aload_n 0, 1, []),
  (32, .getfield 59, 3, [7, 0]),
  (35, .ifCond .le 5, 3, [40]),
  (38, .iconst 0, 1, []),
  (39, .ireturn, 1, [0]),
  (40, .aload_n 0, 1, []),
  (41, .iload_n 1, 1, []),
  (42, .invokevirtual 91, 3, [103, 2]),
  (45, .ifCond .eq 12, 3, [57]),
  (48, .aload_n 0, 1, []),
  (49, .getfield 56, 3, [7, 23]),
  (52, .iload_n 2, 1, []),
  (53, .iaload, 1, []),
  (54, .goto 4, 3, [58]),
  (57, .iconst (-1), 1, []),
  (58, .ireturn, 1, [0])]
-- 106 CashRecyclerModel.goes(I)Z
def q_M_goes : Nat := 106
def qc106 : List PE := [(0, .aload_n 0, 1, []),
  (1, .getfield 13, 3, [7, 8]),
  (4, .iload_n 1, 1, []),
  (5, .iaload, 1, []),
  (6, .istore_n 2, 1, []),
  (7, .aload_n 0, 1, []),
  (8, .getfield 16, 3, [7, 9]),
  (11, .iload_n 1, 1, []),
  (12, .iaload, 1, []),
  (13, .istore_n 3, 1, []),
  (14, .iload_n 3, 1, []),
  (15, .iconst 1, 1, []),
  (16, .if_icmp .ne 37, 3, [53]),
  (19, .aload_n 0, 1, []),
  (20, .getfield 95, 3, [7, 12]),
  (23, .bipush 24, 2, []),
  (25, .if_icmp .ne 5, 3, [30]),
  (28, .iconst 0, 1, []),
  (29, .ireturn, 1, [1]),
  (30, .aload_n 0, 1, []),
  (31, .getfield 23, 3, [7, 11]),
  (34, .aload_n 0, 1, []),
  (35, .getfield 95, 3, [7, 12]),
  (38, .iload_n 2, 1, []),
  (39, .iastore, 1, []),
  (40, .aload_n 0, 1, []),
  (41, .dup, 1, []),
  (42, .getfield 95, 3, [7, 12]),
  (45, .iconst 1, 1, []),
  (46, .iadd, 1, []),
  (47, .putfield 95, 3, [7, 12, 0]),
  (50, .goto 104, 3, [154]),
  (53, .iload_n 3, 1, []),
  (54, .iconst 1, 1, []),
  (55, .if_icmp .le 51, 3, [106]),
  (58, .iload_n 3, 1, []),
  (59, .bipush 6, 2, []),
  (61, .if_icmp .ge 45, 3, [106]),
  (64, .aload_n 0, 1, []),
  (65, .getfield 29, 3, [7, 14]),
  (68, .iload_n 3, 1, []),
  (69, .iconst 2, 1, []),
  (70, .isub, 1, []),
  (71, .iaload, 1, []),
  (72, .bipush 30, 2, []),
  (74, .if_icmp .eq 15, 3, [89]),
  (77, .aload_n 0, 1, []),
  (78, .getfield 26, 3, [7, 13]),
  (81, .iload_n 3, 1, []),
  (82, .iconst 2, 1, []),
  (83, .isub, 1, []),
  (84, .iaload, 1, []),
  (85, .iload_n 2, 1, []),
  (86, .if_icmp .eq 5, 3, [91]),
  (89, .iconst 0, 1, []),
  (90, .ireturn, 1, [1]),
  (91, .aload_n 0, 1, []),
  (92, .getfield 29, 3, [7, 14]),
  (95, .iload_n 3, 1, []),
  (96, .iconst 2, 1, []),
  (97, .isub, 1, []),
  (98, .dup2, 1, []),
  (99, .iaload, 1, []),
  (100, .iconst 1, 1, []),
  (101, .iadd, 1, []),
  (102, .iastore, 1, []),
  (103, .goto 51, 3, [154]),
  (106, .iload_n 3, 1, []),
  (107, .bipush 6, 2, []),
  (109, .if_icmp .ne 16, 3, [125]),
  (112, .aload_n 0, 1, []),
  (113, .getfield 35, 3, [7, 16]),
  (116, .iload_n 2, 1, []),
  (117, .dup2, 1, []),
  (118, .iaload, 1, []),
  (119, .iconst 1, 1, []),
  (120, .iadd, 1, []),
  (121, .iastore, 1, []),
  (122, .goto 32, 3, [154]),
  (125, .iload_n 3, 1, []),
  (126, .bipush 7, 2, []),
  (128, .if_icmp .ne 16, 3, [144]),
  (131, .aload_n 0, 1, []),
  (132, .getfield 32, 3, [7, 15]),
  (135, .iload_n 2, 1, []),
  (136, .dup2, 1, []),
  (137, .iaload, 1, []),
  (138, .iconst 1, 1, []),
  (139, .iadd, 1, []),
  (140, .iastore, 1, []),
  (141, .goto 13, 3, [154]),
  (144, .aload_n 0, 1, []),
  (145, .getfield 38, 3, [7, 17]),
  (148, .iload_n 2, 1, []),
  (149, .dup2, 1, []),
  (150, .iaload, 1, []),
  (151, .iconst 1, 1, []),
  (152, .iadd, 1, []),
  (153, .iastore, 1, []),
  (154, .aload_n 0, 1, []),
  (155, .getfield 13, 3, [7, 8]),
  (158, .iload_n 1, 1, []),
  (159, .iconst (-1), 1, []),
  (160, .iastore, 1, []),
  (161, .iconst 1, 1, []),
  (162, .ireturn, 1, [1])]
-- 107 CashRecyclerModel.put(III)V
def q_M_put : Nat := 107
def qc107 : List PE := [(0, .aload_n 0, 1, []),
  (1, .getfield 13, 3, [7, 8]),
  (4, .iload_n 1, 1, []),
  (5, .iload_n 2, 1, []),
  (6, .iastore, 1, []),
  (7, .aload_n 0, 1, []),
  (8, .getfield 16, 3, [7, 9]),
  (11, .iload_n 1, 1, []),
  (12, .iload_n 3, 1, []),
  (13, .iastore, 1, []),
  (14, .aload_n 0, 1, []),
  (15, .getfield 19, 3, [7, 10]),
  (18, .iload_n 1, 1, []),
  (19, .iconst 0, 1, []),
  (20, .bastore, 1, []),
  (21, .return_, 1, [])]
-- 108 CashRecyclerModel.judge()V
def q_M_judge : Nat := 108
def qc108 : List PE := [(0, .bipush 6, 2, []),
  (2, .istore_n 1, 1, []),
  (3, .aload_n 0, 1, []),
  (4, .getfield 66, 3, [7, 7]),
  (7, .ifCond .le 50, 3, [57]),
  (10, .aload_n 0, 1, []),
  (11, .getfield 7, 3, [7, 6]),
  (14, .iconst 0, 1, []),
  (15, .iaload, 1, []),
  (16, .istore_n 1, 1, []),
  (17, .aload_n 0, 1, []),
  (18, .dup, 1, []),
  (19, .getfield 66, 3, [7, 7]),
  (22, .iconst 1, 1, []),
  (23, .isub, 1, []),
  (24, .putfield 66, 3, [7, 7, 0]),
  (27, .iconst 0, 1, []),
  (28, .istore_n 2, 1, []),
  (29, .iload_n 2, 1, []),
  (30, .aload_n 0, 1, []),
  (31, .getfield 66, 3, [7, 7]),
  (34, .if_icmp .ge 23, 3, [57]),
  (37, .aload_n 0, 1, []),
  (38, .getfield 7, 3, [7, 6]),
  (41, .iload_n 2, 1, []),
  (42, .aload_n 0, 1, []),
  (43, .getfield 7, 3, [7, 6]),
  (46, .iload_n 2, 1, []),
  (47, .iconst 1, 1, []),
  (48, .iadd, 1, []),
  (49, .iaload, 1, []),
  (50, .iastore, 1, []),
  (51, .iinc 2 1, 3, []),
  (54, .goto (-25), 3, [29]),
  (57, .iload_n 1, 1, []),
  (58, .ifCond .le 36, 3, [94]),
  (61, .iload_n 1, 1, []),
  (62, .bipush 6, 2, []),
  (64, .if_icmp .ge 30, 3, [94]),
  (67, .aload_n 0, 1, []),
  (68, .getfield 13, 3, [7, 8]),
  (71, .iconst 2, 1, []),
  (72, .iload_n 1, 1, []),
  (73, .iastore, 1, []),
  (74, .aload_n 0, 1, []),
  (75, .getfield 16, 3, [7, 9]),
  (78, .iconst 2, 1, []),
  (79, .iconst 1, 1, []),
  (80, .iastore, 1, []),
  (81, .aload_n 0, 1, []),
  (82, .getfield 50, 3, [7, 21]),
  (85, .iload_n 1, 1, []),
  (86, .dup2, 1, []),
  (87, .iaload, 1, []),
  (88, .iconst 1, 1, []),
  (89, .iadd, 1, []),
  (90, .iastore, 1, []),
  (91, .goto 11, 3, [102]),
  (94, .aload_n 0, 1, []),
  (95, .getfield 16, 3, [7, 9]),
  (98, .iconst 2, 1, []),
  (99, .bipush 8, 2, []),
  (101, .iastore, 1, []),
  (102, .return_, 1, [])]
-- 109 CashRecyclerModel.moves()Z
def q_M_moves : Nat := 109
def qc109 : List PE := [(0, .iconst 0, 1, []),
  (1, .istore_n 1, 1, []),
  (2, .bipush 9, 2, []),
  (4, .istore_n 2, 1, []),
  (5, .iload_n 2, 1, []),
  (6, .ifCond .lt 133, 3, [139]),
  (9, .aload_n 0, 1, []),
  (10, .getfield 13, 3, [7, 8]),
  (13, .iload_n 2, 1, []),
  (14, .iaload, 1, []),
  (15, .iconst (-1), 1, []),
  (16, .if_icmp .ne 6, 3, [22]),
  (19, .goto 114, 3, [133]),
  (22, .aload_n 0, 1, []),
  (23, .getfield 19, 3, [7, 10]),
  (26, .iload_n 2, 1, []),
  (27, .baload, 1, []),
  (28, .ifCond .eq 8, 3, [36]),
  (31, .iconst 1, 1, []),
  (32, .istore_n 1, 1, []),
  (33, .goto 100, 3, [133]),
  (36, .aload_n 0, 1, []),
  (37, .getfield 16, 3, [7, 9]),
  (40, .iload_n 2, 1, []),
  (41, .iaload, 1, []),
  (42, .invokestatic 98, 3, [94, 1]),
  (45, .iload_n 2, 1, []),
  (46, .if_icmp .ne 22, 3, [68]),
  (49, .aload_n 0, 1, []),
  (50, .iload_n 2, 1, []),
  (51, .invokevirtual 101, 3, [106, 2]),
  (54, .ifCond .eq 6, 3, [60]),
  (57, .goto 76, 3, [133]),
  (60, .aload_n 0, 1, []),
  (61, .getfield 16, 3, [7, 9]),
  (64, .iload_n 2, 1, []),
  (65, .bipush 7, 2, []),
  (67, .iastore, 1, []),
  (68, .iload_n 2, 1, []),
  (69, .bipush 9, 2, []),
  (71, .if_icmp .eq 62, 3, [133]),
  (74, .aload_n 0, 1, []),
  (75, .getfield 13, 3, [7, 8]),
  (78, .iload_n 2, 1, []),
  (79, .iconst 1, 1, []),
  (80, .iadd, 1, []),
  (81, .iaload, 1, []),
  (82, .iconst (-1), 1, []),
  (83, .if_icmp .eq 6, 3, [89]),
  (86, .goto 47, 3, [133]),
  (89, .aload_n 0, 1, []),
  (90, .iload_n 2, 1, []),
  (91, .iconst 1, 1, []),
  (92, .iadd, 1, []),
  (93, .aload_n 0, 1, []),
  (94, .getfield 13, 3, [7, 8]),
  (97, .iload_n 2, 1, []),
  (98, .iaload, 1, []),
  (99, .aload_n 0, 1, []),
  (100, .getfield 16, 3, [7, 9]),
  (103, .iload_n 2, 1, []),
  (104, .iaload, 1, []),
  (105, .invokevirtual 104, 3, [107, 4]),
  (108, .aload_n 0, 1, []),
  (109, .getfield 13, 3, [7, 8]),
  (112, .iload_n 2, 1, []),
  (113, .iconst (-1), 1, []),
  (114, .iastore, 1, []),
  (115, .iload_n 2, 1, []),
  (116, .iconst 1, 1, []),
  (117, .if_icmp .ne 16, 3, [133]),
  (120, .aload_n 0, 1, []),
  (121, .getfield 16, 3, [7, 9]),
  (124, .iconst 2, 1, []),
  (125, .iaload, 1, []),
  (126, .ifCond .ne 7, 3, [133]),
  (129, .aload_n 0, 1, []),
  (130, .invokevirtual 107, 3, [108, 1]),
  (133, .iinc 2 (-1), 3, []),
  (136, .goto (-131), 3, [5]),
  (139, .iload_n 1, 1, []),
  (140, .ireturn, 1, [1])]
-- 110 CashRecyclerModel.goalFor(I)I
def q_M_goalFor : Nat := 110
def qc110 : List PE := [(0, .iconst 0, 1, []),
  (1, .istore_n 2, 1, []),
  (2, .iload_n 2, 1, []),
  (3, .iconst 4, 1, []),
  (4, .if_icmp .ge 84, 3, [88]),
  (7, .aload_n 0, 1, []),
  (8, .getfield 29, 3, [7, 14]),
  (11, .iload_n 2, 1, []),
  (12, .iaload, 1, []),
  (13, .istore_n 3, 1, []),
  (14, .iconst 0, 1, []),
  (15, .istore 4, 2, []),
  (17, .iload 4, 2, []),
  (19, .bipush 10, 2, []),
  (21, .if_icmp .ge 41, 3, [62]),
  (24, .iload_n 3, 1, []),
  (25, .aload_n 0, 1, []),
  (26, .getfield 13, 3, [7, 8]),
  (29, .iload 4, 2, []),
  (31, .iaload, 1, []),
  (32, .iconst (-1), 1, []),
  (33, .if_icmp .eq 20, 3, [53]),
  (36, .aload_n 0, 1, []),
  (37, .getfield 16, 3, [7, 9]),
  (40, .iload 4, 2, []),
  (42, .iaload, 1, []),
  (43, .iconst 2, 1, []),
  (44, .iload_n 2, 1, []),
  (45, .iadd, 1, []),
  (46, .if_icmp .ne 7, 3, [53]),
  (49, .iconst 1, 1, []),
  (50, .goto 4, 3, [54]),
  (53, .iconst 0, 1, []),
  (54, .iadd, 1, []),
  (55, .istore_n 3, 1, []),
  (56, .iinc 4 1, 3, []),
  (59, .goto (-42), 3, [17]),
  (62, .aload_n 0, 1, []),
  (63, .getfield 26, 3, [7, 13]),
  (66, .iload_n 2, 1, []),
  (67, .iaload, 1, []),
  (68, .iload_n 1, 1, []),
  (69, .if_icmp .ne 13, 3, [82]),
  (72, .iload_n 3, 1, []),
  (73, .bipush 30, 2, []),
  (75, .if_icmp .ge 7, 3, [82]),
  (78, .iconst 2, 1, []),
  (79, .iload_n 2, 1, []),
  (80, .iadd, 1, []),
  (81, .ireturn, 1, [0]),
  (82, .iinc 2 1, 3, []),
  (85, .goto (-83), 3, [2]),
  (88, .bipush 7, 2, []),
  (90, .ireturn, 1, [0])]
-- 111 CashRecyclerModel.pays()V
def q_M_pays : Nat := 111
def qc111 : List PE := [(0, .iconst 5, 1, []),
  (1, .istore_n 1, 1, []),
  (2, .iload_n 1, 1, []),
  (3, .ifCond .le 18, 3, [21]),
  (6, .aload_n 0, 1, []),
  (7, .getfield 53, 3, [7, 22]),
  (10, .iload_n 1, 1, []),
  (11, .iaload, 1, []),
  (12, .ifCond .ne 9, 3, [21]),
  (15, .iinc 1 (-1), 3, []),
  (18, .goto (-16), 3, [2]),
  (21, .iload_n 1, 1, []),
  (22, .ifCond .ne 4, 3, [26]),
  (25, .return_, 1, []),
  (26, .iconst 0, 1, []),
  (27, .istore_n 2, 1, []),
  (28, .aload_n 0, 1, []),
  (29, .getfield 26, 3, [7, 13]),
  (32, .iload_n 2, 1, []),
  (33, .iaload, 1, []),
  (34, .iload_n 1, 1, []),
  (35, .if_icmp .ne 12, 3, [47]),
  (38, .aload_n 0, 1, []),
  (39, .getfield 29, 3, [7, 14]),
  (42, .iload_n 2, 1, []),
  (43, .iaload, 1, []),
  (44, .ifCond .ne 9, 3, [53]),
  (47, .iinc 2 1, 3, []),
  (50, .goto (-22), 3, [28]),
  (53, .iload_n 2, 1, []),
  (54, .iconst 2, 1, []),
  (55, .if_icmp .ge 7, 3, [62]),
  (58, .iconst 5, 1, []),
  (59, .goto 5, 3, [64]),
  (62, .bipush 6, 2, []),
  (64, .istore_n 3, 1, []),
  (65, .aload_n 0, 1, []),
  (66, .getfield 13, 3, [7, 8]),
  (69, .iload_n 3, 1, []),
  (70, .iaload, 1, []),
  (71, .iconst (-1), 1, []),
  (72, .if_icmp .eq 4, 3, [76]),
  (75, .return_, 1, []),
  (76, .aload_n 0, 1, []),
  (77, .getfield 29, 3, [7, 14]),
  (80, .iload_n 2, 1, []),
  (81, .dup2, 1, []),
  (82, .iaload, 1, []),
  (83, .iconst 1, 1, []),
  (84, .isub, 1, []),
  (85, .iastore, 1, []),
  (86, .aload_n 0, 1, []),
  (87, .getfield 53, 3, [7, 22]),
  (90, .iload_n 1, 1, []),
  (91, .dup2, 1, []),
  (92, .iaload, 1, []),
  (93, .iconst 1, 1, []),
  (94, .isub, 1, []),
  (95, .iastore, 1, []),
  (96, .aload_n 0, 1, []),
  (97, .iload_n 3, 1, []),
  (98, .iload_n 1, 1, []),
  (99, .bipush 8, 2, []),
  (101, .invokevirtual 104, 3, [107, 4]),
  (104, .return_, 1, [])]
-- 112 CashRecyclerModel.comes()V
def q_M_comes : Nat := 112
def qc112 : List PE := [(0, .aload_n 0, 1, []),
  (1, .getfield 73, 3, [7, 1]),
  (4, .iconst 1, 1, []),
  (5, .if_icmp .ne 51, 3, [56]),
  (8, .aload_n 0, 1, []),
  (9, .getfield 63, 3, [7, 5]),
  (12, .ifCond .le 44, 3, [56]),
  (15, .aload_n 0, 1, []),
  (16, .getfield 13, 3, [7, 8]),
  (19, .iconst 0, 1, []),
  (20, .iaload, 1, []),
  (21, .iconst (-1), 1, []),
  (22, .if_icmp .ne 34, 3, [56]),
  (25, .aload_n 0, 1, []),
  (26, .invokevirtual 110, 3, [95, 1]),
  (29, .aload_n 0, 1, []),
  (30, .getfield 95, 3, [7, 12]),
  (33, .iadd, 1, []),
  (34, .bipush 24, 2, []),
  (36, .if_icmp .ge 20, 3, [56]),
  (39, .aload_n 0, 1, []),
  (40, .dup, 1, []),
  (41, .getfield 63, 3, [7, 5]),
  (44, .iconst 1, 1, []),
  (45, .isub, 1, []),
  (46, .putfield 63, 3, [7, 5, 0]),
  (49, .aload_n 0, 1, []),
  (50, .iconst 0, 1, []),
  (51, .iconst 0, 1, []),
  (52, .iconst 0, 1, []),
  (53, .invokevirtual 104, 3, [107, 4]),
  (56, .aload_n 0, 1, []),
  (57, .getfield 73, 3, [7, 1]),
  (60, .iconst 3, 1, []),
  (61, .if_icmp .eq 11, 3, [72]),
  (64, .aload_n 0, 1, []),
  (65, .getfield 73, 3, [7, 1]),
  (68, .iconst 4, 1, []),
  (69, .if_icmp .ne 70, 3, [139]),
  (72, .aload_n 0, 1, []),
  (73, .getfield 95, 3, [7, 12]),
  (76, .ifCond .le 63, 3, [139]),
  (79, .aload_n 0, 1, []),
  (80, .getfield 13, 3, [7, 8]),
  (83, .iconst 4, 1, []),
  (84, .iaload, 1, []),
  (85, .iconst (-1), 1, []),
  (86, .if_icmp .ne 53, 3, [139]),
  (89, .aload_n 0, 1, []),
  (90, .dup, 1, []),
  (91, .getfield 95, 3, [7, 12]),
  (94, .iconst 1, 1, []),
  (95, .isub, 1, []),
  (96, .putfield 95, 3, [7, 12, 0]),
  (99, .aload_n 0, 1, []),
  (100, .iconst 4, 1, []),
  (101, .aload_n 0, 1, []),
  (102, .getfield 23, 3, [7, 11]),
  (105, .aload_n 0, 1, []),
  (106, .getfield 95, 3, [7, 12]),
  (109, .iaload, 1, []),
  (110, .aload_n 0, 1, []),
  (111, .getfield 73, 3, [7, 1]),
  (114, .iconst 3, 1, []),
  (115, .if_icmp .ne 19, 3, [134]),
  (118, .aload_n 0, 1, []),
  (119, .aload_n 0, 1, []),
  (120, .getfield 23, 3, [7, 11]),
  (123, .aload_n 0, 1, []),
  (124, .getfield 95, 3, [7, 12]),
  (127, .iaload, 1, []),
  (128, .invokevirtual 114, 3, [110, 2]),
  (131, .goto 5, 3, [136]),
  (134, .bipush 8, 2, []),
  (136, .invokevirtual 104, 3, [107, 4]),
  (139, .aload_n 0, 1, []),
  (140, .getfield 73, 3, [7, 1]),
  (143, .iconst 5, 1, []),
  (144, .if_icmp .ne 7, 3, [151]),
  (147, .aload_n 0, 1, []),
  (148, .invokevirtual 117, 3, [111, 1]),
  (151, .return_, 1, [])]
-- 113 CashRecyclerModel.changes()V
def q_M_changes : Nat := 113
def qc113 : List PE := [(0, .aload_n 0, 1, []),
  (1, .invokevirtual 110, 3, [95, 1]),
  (4, .ifCond .ne 7, 3, [11]),
  (7, .iconst 1, 1, []),
  (8, .goto 4, 3, [12]),
  (11, .iconst 0, 1, []),
  (12, .istore_n 1, 1, []),
  (13, .iload_n 1, 1, []),
  (14, .ifCond .ne 4, 3, [18]),
  (17, .return_, 1, []),
  (18, .aload_n 0, 1, []),
  (19, .getfield 73, 3, [7, 1]),
  (22, .iconst 1, 1, []),
  (23, .if_icmp .ne 45, 3, [68]),
  (26, .aload_n 0, 1, []),
  (27, .getfield 63, 3, [7, 5]),
  (30, .ifCond .eq 12, 3, [42]),
  (33, .aload_n 0, 1, []),
  (34, .getfield 95, 3, [7, 12]),
  (37, .bipush 24, 2, []),
  (39, .if_icmp .ne 29, 3, [68]),
  (42, .aload_n 0, 1, []),
  (43, .iconst 2, 1, []),
  (44, .putfield 73, 3, [7, 1, 0]),
  (47, .aload_n 0, 1, []),
  (48, .getfield 38, 3, [7, 17]),
  (51, .iconst 0, 1, []),
  (52, .dup2, 1, []),
  (53, .iaload, 1, []),
  (54, .aload_n 0, 1, []),
  (55, .getfield 63, 3, [7, 5]),
  (58, .iadd, 1, []),
  (59, .iastore, 1, []),
  (60, .aload_n 0, 1, []),
  (61, .iconst 0, 1, []),
  (62, .putfield 63, 3, [7, 5, 0]),
  (65, .goto 85, 3, [150]),
  (68, .aload_n 0, 1, []),
  (69, .getfield 73, 3, [7, 1]),
  (72, .iconst 3, 1, []),
  (73, .if_icmp .eq 11, 3, [84]),
  (76, .aload_n 0, 1, []),
  (77, .getfield 73, 3, [7, 1]),
  (80, .iconst 4, 1, []),
  (81, .if_icmp .ne 18, 3, [99]),
  (84, .aload_n 0, 1, []),
  (85, .getfield 95, 3, [7, 12]),
  (88, .ifCond .ne 62, 3, [150]),
  (91, .aload_n 0, 1, []),
  (92, .iconst 0, 1, []),
  (93, .putfield 73, 3, [7, 1, 0]),
  (96, .goto 54, 3, [150]),
  (99, .aload_n 0, 1, []),
  (100, .getfield 73, 3, [7, 1]),
  (103, .iconst 5, 1, []),
  (104, .if_icmp .ne 21, 3, [125]),
  (107, .aload_n 0, 1, []),
  (108, .getfield 53, 3, [7, 22]),
  (111, .invokestatic 76, 3, [93, 1]),
  (114, .ifCond .ne 36, 3, [150]),
  (117, .aload_n 0, 1, []),
  (118, .iconst 0, 1, []),
  (119, .putfield 73, 3, [7, 1, 0]),
  (122, .goto 28, 3, [150]),
  (125, .aload_n 0, 1, []),
  (126, .getfield 73, 3, [7, 1]),
  (129, .bipush 7, 2, []),
  (131, .if_icmp .ne 19, 3, [150]),
  (134, .aload_n 0, 1, []),
  (135, .aload_n 0, 1, []),
  (136, .getfield 95, 3, [7, 12]),
  (139, .ifCond .le 7, 3, [146]),
  (142, .iconst 2, 1, []),
  (143, .goto 4, 3, [147]),
  (146, .iconst 0, 1, []),
  (147, .putfield 73, 3, [7, 1, 0]),
  (150, .return_, 1, [])]
-- 114 CashRecyclerModel.step(I)I
def q_M_step : Nat := 114
def qc114 : List PE := [(0, .aload_n 0, 1, []),
  (1, .iload_n 1, 1, []),
  (2, .iconst 1, 1, []),
  (3, .if_icmp .lt 9, 3, [12]),
  (6, .iload_n 1, 1, []),
  (7, .bipush 100, 2, []),
  (9, .if_icmp .le 7, 3, [16]),
  (12, .iconst 1, 1, []),
  (13, .goto 4, 3, [17]),
  (16, .iconst 0, 1, []),
  (17, .putfield 59, 3, [7, 0, 0]),
  (20, .aload_n 0, 1, []),
  (21, .getfield 59, 3, [7, 0]),
  (24, .ifCond .le 5, 3, [29]),
  (27, .iconst 0, 1, []),
  (28, .ireturn, 1, [0]),
  (29, .iconst 0, 1, []),
  (30, .istore_n 2, 1, []),
  (31, .iload_n 2, 1, []),
  (32, .iload_n 1, 1, []),
  (33, .if_icmp .ge 89, 3, [122]),
  (36, .aload_n 0, 1, []),
  (37, .getfield 69, 3, [7, 2]),
  (40, .ifCond .ne 76, 3, [116]),
  (43, .aload_n 0, 1, []),
  (44, .getfield 73, 3, [7, 1]),
  (47, .ifCond .eq 69, 3, [116]),
  (50, .aload_n 0, 1, []),
  (51, .getfield 73, 3, [7, 1]),
  (54, .iconst 2, 1, []),
  (55, .if_icmp .eq 61, 3, [116]),
  (58, .aload_n 0, 1, []),
  (59, .getfield 73, 3, [7, 1]),
  (62, .bipush 6, 2, []),
  (64, .if_icmp .eq 52, 3, [116]),
  (67, .aload_n 0, 1, []),
  (68, .getfield 73, 3, [7, 1]),
  (71, .bipush 8, 2, []),
  (73, .if_icmp .ne 6, 3, [79]),
  (76, .goto 40, 3, [116]),
  (79, .aload_n 0, 1, []),
  (80, .invokevirtual 120, 3, [109, 1]),
  (83, .istore_n 3, 1, []),
  (84, .aload_n 0, 1, []),
  (85, .invokevirtual 124, 3, [112, 1]),
  (88, .aload_n 0, 1, []),
  (89, .invokevirtual 127, 3, [113, 1]),
  (92, .iload_n 3, 1, []),
  (93, .ifCond .eq 18, 3, [111]),
  (96, .aload_n 0, 1, []),
  (97, .getfield 130, 3, [7, 4]),
  (100, .ifCond .eq 11, 3, [111]),
  (103, .aload_n 0, 1, []),
  (104, .bipush 6, 2, []),
  (106, .putfield 73, 3, [7, 1, 0]),
  (109, .iconst 0, 1, []),
  (110, .istore_n 3, 1, []),
  (111, .aload_n 0, 1, []),
  (112, .iload_n 3, 1, []),
  (113, .putfield 130, 3, [7, 4, 1]),
  (116, .iinc 2 1, 3, []),
  (119, .goto (-88), 3, [31]),
  (122, .aload_n 0, 1, []),
  (123, .getfield 73, 3, [7, 1]),
  (126, .ireturn, 1, [0])]
-- 115 CashRecyclerModel.taken()I
def q_M_taken : Nat := 115
def qc115 : List PE := [(0, .aload_n 0, 1, []),
  (1, .iconst 0, 1, []),
  (2, .putfield 59, 3, [7, 0, 0]),
  (5, .aload_n 0, 1, []),
  (6, .getfield 38, 3, [7, 17]),
  (9, .invokestatic 76, 3, [93, 1]),
  (12, .istore_n 1, 1, []),
  (13, .iconst 0, 1, []),
  (14, .istore_n 2, 1, []),
  (15, .iload_n 2, 1, []),
  (16, .bipush 6, 2, []),
  (18, .if_icmp .ge 31, 3, [49]),
  (21, .aload_n 0, 1, []),
  (22, .getfield 41, 3, [7, 18]),
  (25, .iload_n 2, 1, []),
  (26, .dup2, 1, []),
  (27, .iaload, 1, []),
  (28, .aload_n 0, 1, []),
  (29, .getfield 38, 3, [7, 17]),
  (32, .iload_n 2, 1, []),
  (33, .iaload, 1, []),
  (34, .iadd, 1, []),
  (35, .iastore, 1, []),
  (36, .aload_n 0, 1, []),
  (37, .getfield 38, 3, [7, 17]),
  (40, .iload_n 2, 1, []),
  (41, .iconst 0, 1, []),
  (42, .iastore, 1, []),
  (43, .iinc 2 1, 3, []),
  (46, .goto (-31), 3, [15]),
  (49, .iload_n 1, 1, []),
  (50, .ireturn, 1, [0])]
-- 116 CashRecyclerModel.stick(I)V
def q_M_stick : Nat := 116
def qc116 : List PE := [(0, .aload_n 0, 1, []),
  (1, .iload_n 1, 1, []),
  (2, .ifCond .lt 9, 3, [11]),
  (5, .iload_n 1, 1, []),
  (6, .bipush 9, 2, []),
  (8, .if_icmp .le 7, 3, [15]),
  (11, .iconst 1, 1, []),
  (12, .goto 18, 3, [30]),
  (15, .aload_n 0, 1, []),
  (16, .getfield 13, 3, [7, 8]),
  (19, .iload_n 1, 1, []),
  (20, .iaload, 1, []),
  (21, .iconst (-1), 1, []),
  (22, .if_icmp .ne 7, 3, [29]),
  (25, .iconst 2, 1, []),
  (26, .goto 4, 3, [30]),
  (29, .iconst 0, 1, []),
  (30, .putfield 59, 3, [7, 0, 0]),
  (33, .aload_n 0, 1, []),
  (34, .getfield 59, 3, [7, 0]),
  (37, .ifCond .ne 10, 3, [47]),
  (40, .aload_n 0, 1, []),
  (41, .getfield 19, 3, [7, 10]),
  (44, .iload_n 1, 1, []),
  (45, .iconst 1, 1, []),
  (46, .bastore, 1, []),
  (47, .return_, 1, [])]
-- 117 CashRecyclerModel.open()V
def q_M_open : Nat := 117
def qc117 : List PE := [(0, .aload_n 0, 1, []),
  (1, .aload_n 0, 1, []),
  (2, .getfield 69, 3, [7, 2]),
  (5, .ifCond .ne 19, 3, [24]),
  (8, .aload_n 0, 1, []),
  (9, .getfield 73, 3, [7, 1]),
  (12, .bipush 6, 2, []),
  (14, .if_icmp .ne 10, 3, [24]),
  (17, .aload_n 0, 1, []),
  (18, .getfield 133, 3, [7, 3]),
  (21, .ifCond .eq 7, 3, [28]),
  (24, .iconst 1, 1, []),
  (25, .goto 4, 3, [29]),
  (28, .iconst 0, 1, []),
  (29, .putfield 59, 3, [7, 0, 0]),
  (32, .aload_n 0, 1, []),
  (33, .getfield 59, 3, [7, 0]),
  (36, .ifCond .ne 8, 3, [44]),
  (39, .aload_n 0, 1, []),
  (40, .iconst 1, 1, []),
  (41, .putfield 133, 3, [7, 3, 1]),
  (44, .return_, 1, [])]
-- 118 CashRecyclerModel.remove(I)I
def q_M_remove : Nat := 118
def qc118 : List PE := [(0, .aload_n 0, 1, []),
  (1, .aload_n 0, 1, []),
  (2, .getfield 133, 3, [7, 3]),
  (5, .ifCond .ne 7, 3, [12]),
  (8, .iconst 1, 1, []),
  (9, .goto 32, 3, [41]),
  (12, .iload_n 1, 1, []),
  (13, .ifCond .lt 9, 3, [22]),
  (16, .iload_n 1, 1, []),
  (17, .bipush 9, 2, []),
  (19, .if_icmp .le 7, 3, [26]),
  (22, .iconst 2, 1, []),
  (23, .goto 18, 3, [41]),
  (26, .aload_n 0, 1, []),
  (27, .getfield 13, 3, [7, 8]),
  (30, .iload_n 1, 1, []),
  (31, .iaload, 1, []),
  (32, .iconst (-1), 1, []),
  (33, .if_icmp .ne 7, 3, [40]),
  (36, .iconst 3, 1, []),
  (37, .goto 4, 3, [41]),
  (40, .iconst 0, 1, []),
  (41, .putfield 59, 3, [7, 0, 0]),
  (44, .aload_n 0, 1, []),
  (45, .getfield 59, 3, [7, 0]),
  (48, .ifCond .le 5, 3, [53]),
  (51, .iconst 0, 1, []),
  (52, .ireturn, 1, [0]),
  (53, .aload_n 0, 1, []),
  (54, .getfield 13, 3, [7, 8]),
  (57, .iload_n 1, 1, []),
  (58, .iaload, 1, []),
  (59, .istore_n 2, 1, []),
  (60, .aload_n 0, 1, []),
  (61, .getfield 47, 3, [7, 20]),
  (64, .iload_n 2, 1, []),
  (65, .dup2, 1, []),
  (66, .iaload, 1, []),
  (67, .iconst 1, 1, []),
  (68, .iadd, 1, []),
  (69, .iastore, 1, []),
  (70, .aload_n 0, 1, []),
  (71, .getfield 13, 3, [7, 8]),
  (74, .iload_n 1, 1, []),
  (75, .iconst (-1), 1, []),
  (76, .iastore, 1, []),
  (77, .aload_n 0, 1, []),
  (78, .getfield 19, 3, [7, 10]),
  (81, .iload_n 1, 1, []),
  (82, .iconst 0, 1, []),
  (83, .bastore, 1, []),
  (84, .iload_n 2, 1, []),
  (85, .ireturn, 1, [0])]
-- 119 CashRecyclerModel.free(I)Z
def q_M_free : Nat := 119
def qc119 : List PE := [(0, .aload_n 0, 1, []),
  (1, .aload_n 0, 1, []),
  (2, .getfield 133, 3, [7, 3]),
  (5, .ifCond .ne 7, 3, [12]),
  (8, .iconst 1, 1, []),
  (9, .goto 18, 3, [27]),
  (12, .iload_n 1, 1, []),
  (13, .ifCond .lt 9, 3, [22]),
  (16, .iload_n 1, 1, []),
  (17, .bipush 9, 2, []),
  (19, .if_icmp .le 7, 3, [26]),
  (22, .iconst 2, 1, []),
  (23, .goto 4, 3, [27]),
  (26, .iconst 0, 1, []),
  (27, .putfield 59, 3, [7, 0, 0]),
  (30, .aload_n 0, 1, []),
  (31, .getfield 59, 3, [7, 0]),
  (34, .ifCond .le 5, 3, [39]),
  (37, .iconst 0, 1, []),
  (38, .ireturn, 1, [1]),
  (39, .aload_n 0, 1, []),
  (40, .getfield 13, 3, [7, 8]),
  (43, .iload_n 1, 1, []),
  (44, .iaload, 1, []),
  (45, .iconst (-1), 1, []),
  (46, .if_icmp .eq 16, 3, [62]),
  (49, .aload_n 0, 1, []),
  (50, .getfield 19, 3, [7, 10]),
  (53, .iload_n 1, 1, []),
  (54, .baload, 1, []),
  (55, .ifCond .eq 7, 3, [62]),
  (58, .iconst 1, 1, []),
  (59, .goto 4, 3, [63]),
  (62, .iconst 0, 1, []),
  (63, .istore_n 2, 1, []),
  (64, .aload_n 0, 1, []),
  (65, .getfield 19, 3, [7, 10]),
  (68, .iload_n 1, 1, []),
  (69, .iconst 0, 1, []),
  (70, .bastore, 1, []),
  (71, .iload_n 2, 1, []),
  (72, .ireturn, 1, [1])]
-- 120 CashRecyclerModel.isStuck()Z
def q_M_isStuck : Nat := 120
def qc120 : List PE := [(0, .iconst 0, 1, []),
  (1, .istore_n 1, 1, []),
  (2, .iconst 0, 1, []),
  (3, .istore_n 2, 1, []),
  (4, .iload_n 2, 1, []),
  (5, .bipush 10, 2, []),
  (7, .if_icmp .ge 38, 3, [45]),
  (10, .iload_n 1, 1, []),
  (11, .ifCond .ne 22, 3, [33]),
  (14, .aload_n 0, 1, []),
  (15, .getfield 13, 3, [7, 8]),
  (18, .iload_n 2, 1, []),
  (19, .iaload, 1, []),
  (20, .iconst (-1), 1, []),
  (21, .if_icmp .eq 16, 3, [37]),
  (24, .aload_n 0, 1, []),
  (25, .getfield 19, 3, [7, 10]),
  (28, .iload_n 2, 1, []),
  (29, .baload, 1, []),
  (30, .ifCond .eq 7, 3, [37]),
  (33, .iconst 1, 1, []),
  (34, .goto 4, 3, [38]),
  (37, .iconst 0, 1, []),
  (38, .istore_n 1, 1, []),
  (39, .iinc 2 1, 3, []),
  (42, .goto (-38), 3, [4]),
  (45, .iload_n 1, 1, []),
  (46, .ireturn, 1, [1])]
-- 121 CashRecyclerModel.recover()V
def q_M_recover : Nat := 121
def qc121 : List PE := [(0, .aload_n 0, 1, []),
  (1, .bipush 7, 2, []),
  (3, .putfield 73, 3, [7, 1, 0]),
  (6, .iconst 0, 1, []),
  (7, .istore_n 1, 1, []),
  (8, .iload_n 1, 1, []),
  (9, .bipush 6, 2, []),
  (11, .if_icmp .ge 16, 3, [27]),
  (14, .aload_n 0, 1, []),
  (15, .getfield 53, 3, [7, 22]),
  (18, .iload_n 1, 1, []),
  (19, .iconst 0, 1, []),
  (20, .iastore, 1, []),
  (21, .iinc 1 1, 3, []),
  (24, .goto (-16), 3, [8]),
  (27, .iconst 0, 1, []),
  (28, .istore_n 1, 1, []),
  (29, .iload_n 1, 1, []),
  (30, .bipush 10, 2, []),
  (32, .if_icmp .ge 61, 3, [93]),
  (35, .aload_n 0, 1, []),
  (36, .getfield 13, 3, [7, 8]),
  (39, .iload_n 1, 1, []),
  (40, .iaload, 1, []),
  (41, .iconst (-1), 1, []),
  (42, .if_icmp .ne 6, 3, [48]),
  (45, .goto 42, 3, [87]),
  (48, .aload_n 0, 1, []),
  (49, .getfield 16, 3, [7, 9]),
  (52, .iload_n 1, 1, []),
  (53, .bipush 6, 2, []),
  (55, .iastore, 1, []),
  (56, .iload_n 1, 1, []),
  (57, .bipush 8, 2, []),
  (59, .if_icmp .ge 6, 3, [65]),
  (62, .goto 25, 3, [87]),
  (65, .aload_n 0, 1, []),
  (66, .getfield 35, 3, [7, 16]),
  (69, .aload_n 0, 1, []),
  (70, .getfield 13, 3, [7, 8]),
  (73, .iload_n 1, 1, []),
  (74, .iaload, 1, []),
  (75, .dup2, 1, []),
  (76, .iaload, 1, []),
  (77, .iconst 1, 1, []),
  (78, .iadd, 1, []),
  (79, .iastore, 1, []),
  (80, .aload_n 0, 1, []),
  (81, .getfield 13, 3, [7, 8]),
  (84, .iload_n 1, 1, []),
  (85, .iconst (-1), 1, []),
  (86, .iastore, 1, []),
  (87, .iinc 1 1, 3, []),
  (90, .goto (-61), 3, [29]),
  (93, .return_, 1, [])]
-- 122 CashRecyclerModel.shut()V
def q_M_shut : Nat := 122
def qc122 : List PE := [(0, .aload_n 0, 1, []),
  (1, .iconst 0, 1, []),
  (2, .putfield 133, 3, [7, 3, 1]),
  (5, .aload_n 0, 1, []),
  (6, .invokevirtual 136, 3, [120, 1]),
  (9, .ifCond .ne 7, 3, [16]),
  (12, .aload_n 0, 1, []),
  (13, .invokevirtual 139, 3, [121, 1]),
  (16, .return_, 1, [])]
-- 123 CashRecyclerModel.close()I
def q_M_close : Nat := 123
def qc123 : List PE := [(0, .aload_n 0, 1, []),
  (1, .aload_n 0, 1, []),
  (2, .getfield 133, 3, [7, 3]),
  (5, .ifCond .eq 10, 3, [15]),
  (8, .aload_n 0, 1, []),
  (9, .getfield 69, 3, [7, 2]),
  (12, .ifCond .eq 7, 3, [19]),
  (15, .iconst 1, 1, []),
  (16, .goto 4, 3, [20]),
  (19, .iconst 0, 1, []),
  (20, .putfield 59, 3, [7, 0, 0]),
  (23, .aload_n 0, 1, []),
  (24, .getfield 59, 3, [7, 0]),
  (27, .ifCond .le 5, 3, [32]),
  (30, .iconst 0, 1, []),
  (31, .ireturn, 1, [0]),
  (32, .aload_n 0, 1, []),
  (33, .invokevirtual 142, 3, [122, 1]),
  (36, .aload_n 0, 1, []),
  (37, .getfield 73, 3, [7, 1]),
  (40, .ireturn, 1, [0])]
-- 124 CashRecyclerModel.power()Z
def q_M_power : Nat := 124
def qc124 : List PE := [(0, .aload_n 0, 1, []),
  (1, .iconst 0, 1, []),
  (2, .putfield 59, 3, [7, 0, 0]),
  (5, .aload_n 0, 1, []),
  (6, .aload_n 0, 1, []),
  (7, .getfield 69, 3, [7, 2]),
  (10, .ifCond .ne 7, 3, [17]),
  (13, .iconst 1, 1, []),
  (14, .goto 4, 3, [18]),
  (17, .iconst 0, 1, []),
  (18, .putfield 69, 3, [7, 2, 1]),
  (21, .aload_n 0, 1, []),
  (22, .getfield 69, 3, [7, 2]),
  (25, .ifCond .eq 10, 3, [35]),
  (28, .aload_n 0, 1, []),
  (29, .iconst 0, 1, []),
  (30, .putfield 66, 3, [7, 7, 0]),
  (33, .iconst 0, 1, []),
  (34, .ireturn, 1, [1]),
  (35, .aload_n 0, 1, []),
  (36, .iconst 0, 1, []),
  (37, .putfield 130, 3, [7, 4, 1]),
  (40, .aload_n 0, 1, []),
  (41, .getfield 133, 3, [7, 3]),
  (44, .ifCond .eq 10, 3, [54]),
  (47, .aload_n 0, 1, []),
  (48, .invokevirtual 142, 3, [122, 1]),
  (51, .goto 40, 3, [91]),
  (54, .aload_n 0, 1, []),
  (55, .getfield 73, 3, [7, 1]),
  (58, .ifCond .eq 33, 3, [91]),
  (61, .aload_n 0, 1, []),
  (62, .getfield 73, 3, [7, 1]),
  (65, .iconst 2, 1, []),
  (66, .if_icmp .eq 25, 3, [91]),
  (69, .aload_n 0, 1, []),
  (70, .getfield 73, 3, [7, 1]),
  (73, .bipush 6, 2, []),
  (75, .if_icmp .eq 16, 3, [91]),
  (78, .aload_n 0, 1, []),
  (79, .getfield 73, 3, [7, 1]),
  (82, .bipush 8, 2, []),
  (84, .if_icmp .eq 7, 3, [91]),
  (87, .aload_n 0, 1, []),
  (88, .invokevirtual 139, 3, [121, 1]),
  (91, .iconst 1, 1, []),
  (92, .ireturn, 1, [1])]
-- 125 CashRecyclerModel.service()Z
def q_M_service : Nat := 125
def qc125 : List PE := [(0, .aload_n 0, 1, []),
  (1, .aload_n 0, 1, []),
  (2, .getfield 69, 3, [7, 2]),
  (5, .ifCond .ne 19, 3, [24]),
  (8, .aload_n 0, 1, []),
  (9, .getfield 73, 3, [7, 1]),
  (12, .ifCond .eq 16, 3, [28]),
  (15, .aload_n 0, 1, []),
  (16, .getfield 73, 3, [7, 1]),
  (19, .bipush 8, 2, []),
  (21, .if_icmp .eq 7, 3, [28]),
  (24, .iconst 1, 1, []),
  (25, .goto 4, 3, [29]),
  (28, .iconst 0, 1, []),
  (29, .putfield 59, 3, [7, 0, 0]),
  (32, .aload_n 0, 1, []),
  (33, .getfield 59, 3, [7, 0]),
  (36, .ifCond .le 5, 3, [41]),
  (39, .iconst 0, 1, []),
  (40, .ireturn, 1, [1]),
  (41, .aload_n 0, 1, []),
  (42, .aload_n 0, 1, []),
  (43, .getfield 73, 3, [7, 1]),
  (46, .ifCond .ne 8, 3, [54]),
  (49, .bipush 8, 2, []),
  (51, .goto 4, 3, [55]),
  (54, .iconst 0, 1, []),
  (55, .putfield 73, 3, [7, 1, 0]),
  (58, .aload_n 0, 1, []),
  (59, .getfield 73, 3, [7, 1]),
  (62, .bipush 8, 2, []),
  (64, .if_icmp .ne 7, 3, [71]),
  (67, .iconst 1, 1, []),
  (68, .goto 4, 3, [72]),
  (71, .iconst 0, 1, []),
  (72, .ireturn, 1, [1])]
-- 126 CashRecyclerModel.kind(II)V
def q_M_kind : Nat := 126
def qc126 : List PE := [(0, .aload_n 0, 1, []),
  (1, .aload_n 0, 1, []),
  (2, .getfield 69, 3, [7, 2]),
  (5, .ifCond .ne 12, 3, [17]),
  (8, .aload_n 0, 1, []),
  (9, .getfield 73, 3, [7, 1]),
  (12, .bipush 8, 2, []),
  (14, .if_icmp .eq 7, 3, [21]),
  (17, .iconst 1, 1, []),
  (18, .goto 40, 3, [58]),
  (21, .iload_n 1, 1, []),
  (22, .ifCond .lt 18, 3, [40]),
  (25, .iload_n 1, 1, []),
  (26, .iconst 3, 1, []),
  (27, .if_icmp .gt 13, 3, [40]),
  (30, .iload_n 2, 1, []),
  (31, .iconst 1, 1, []),
  (32, .if_icmp .lt 8, 3, [40]),
  (35, .iload_n 2, 1, []),
  (36, .iconst 5, 1, []),
  (37, .if_icmp .le 7, 3, [44]),
  (40, .iconst 2, 1, []),
  (41, .goto 17, 3, [58]),
  (44, .aload_n 0, 1, []),
  (45, .getfield 29, 3, [7, 14]),
  (48, .iload_n 1, 1, []),
  (49, .iaload, 1, []),
  (50, .ifCond .le 7, 3, [57]),
  (53, .iconst 3, 1, []),
  (54, .goto 4, 3, [58]),
  (57, .iconst 0, 1, []),
  (58, .putfield 59, 3, [7, 0, 0]),
  (61, .aload_n 0, 1, []),
  (62, .getfield 59, 3, [7, 0]),
  (65, .ifCond .ne 10, 3, [75]),
  (68, .aload_n 0, 1, []),
  (69, .getfield 26, 3, [7, 13]),
  (72, .iload_n 1, 1, []),
  (73, .iload_n 2, 1, []),
  (74, .iastore, 1, []),
  (75, .return_, 1, [])]
-- 127 CashRecyclerModel.refill(II)I
def q_M_refill : Nat := 127
def qc127 : List PE := [(0, .aload_n 0, 1, []),
  (1, .aload_n 0, 1, []),
  (2, .getfield 69, 3, [7, 2]),
  (5, .ifCond .ne 12, 3, [17]),
  (8, .aload_n 0, 1, []),
  (9, .getfield 73, 3, [7, 1]),
  (12, .bipush 8, 2, []),
  (14, .if_icmp .eq 7, 3, [21]),
  (17, .iconst 1, 1, []),
  (18, .goto 41, 3, [59]),
  (21, .iload_n 1, 1, []),
  (22, .ifCond .lt 32, 3, [54]),
  (25, .iload_n 1, 1, []),
  (26, .iconst 3, 1, []),
  (27, .if_icmp .gt 27, 3, [54]),
  (30, .iload_n 2, 1, []),
  (31, .iconst 1, 1, []),
  (32, .if_icmp .lt 22, 3, [54]),
  (35, .iload_n 2, 1, []),
  (36, .bipush 30, 2, []),
  (38, .if_icmp .gt 16, 3, [54]),
  (41, .aload_n 0, 1, []),
  (42, .getfield 29, 3, [7, 14]),
  (45, .iload_n 1, 1, []),
  (46, .iaload, 1, []),
  (47, .iload_n 2, 1, []),
  (48, .iadd, 1, []),
  (49, .bipush 30, 2, []),
  (51, .if_icmp .le 7, 3, [58]),
  (54, .iconst 2, 1, []),
  (55, .goto 4, 3, [59]),
  (58, .iconst 0, 1, []),
  (59, .putfield 59, 3, [7, 0, 0]),
  (62, .aload_n 0, 1, []),
  (63, .getfield 59, 3, [7, 0]),
  (66, .ifCond .le 5, 3, [71]),
  (69, .iconst 0, 1, []),
  (70, .ireturn, 1, [0]),
  (71, .aload_n 0, 1, []),
  (72, .getfield 29, 3, [7, 14]),
  (75, .iload_n 1, 1, []),
  (76, .dup2, 1, []),
  (77, .iaload, 1, []),
  (78, .iload_n 2, 1, []),
  (79, .iadd, 1, []),
  (80, .iastore, 1, []),
  (81, .aload_n 0, 1, []),
  (82, .getfield 50, 3, [7, 21]),
  (85, .aload_n 0, 1, []),
  (86, .getfield 26, 3, [7, 13]),
  (89, .iload_n 1, 1, []),
  (90, .iaload, 1, []),
  (91, .dup2, 1, []),
  (92, .iaload, 1, []),
  (93, .iload_n 2, 1, []),
  (94, .iadd, 1, []),
  (95, .iastore, 1, []),
  (96, .aload_n 0, 1, []),
  (97, .getfield 29, 3, [7, 14]),
  (100, .iload_n 1, 1, []),
  (101, .iaload, 1, []),
  (102, .ireturn, 1, [0])]
-- 128 CashRecyclerModel.empty(I)I
def q_M_empty : Nat := 128
def qc128 : List PE := [(0, .aload_n 0, 1, []),
  (1, .aload_n 0, 1, []),
  (2, .getfield 69, 3, [7, 2]),
  (5, .ifCond .ne 12, 3, [17]),
  (8, .aload_n 0, 1, []),
  (9, .getfield 73, 3, [7, 1]),
  (12, .bipush 8, 2, []),
  (14, .if_icmp .eq 7, 3, [21]),
  (17, .iconst 1, 1, []),
  (18, .goto 17, 3, [35]),
  (21, .iload_n 1, 1, []),
  (22, .ifCond .lt 8, 3, [30]),
  (25, .iload_n 1, 1, []),
  (26, .iconst 5, 1, []),
  (27, .if_icmp .le 7, 3, [34]),
  (30, .iconst 2, 1, []),
  (31, .goto 4, 3, [35]),
  (34, .iconst 0, 1, []),
  (35, .putfield 59, 3, [7, 0, 0]),
  (38, .aload_n 0, 1, []),
  (39, .getfield 59, 3, [7, 0]),
  (42, .ifCond .le 5, 3, [47]),
  (45, .iconst 0, 1, []),
  (46, .ireturn, 1, [0]),
  (47, .iload_n 1, 1, []),
  (48, .iconst 4, 1, []),
  (49, .if_icmp .ge 34, 3, [83]),
  (52, .aload_n 0, 1, []),
  (53, .getfield 29, 3, [7, 14]),
  (56, .iload_n 1, 1, []),
  (57, .iaload, 1, []),
  (58, .istore_n 2, 1, []),
  (59, .aload_n 0, 1, []),
  (60, .getfield 44, 3, [7, 19]),
  (63, .aload_n 0, 1, []),
  (64, .getfield 26, 3, [7, 13]),
  (67, .iload_n 1, 1, []),
  (68, .iaload, 1, []),
  (69, .dup2, 1, []),
  (70, .iaload, 1, []),
  (71, .iload_n 2, 1, []),
  (72, .iadd, 1, []),
  (73, .iastore, 1, []),
  (74, .aload_n 0, 1, []),
  (75, .getfield 29, 3, [7, 14]),
  (78, .iload_n 1, 1, []),
  (79, .iconst 0, 1, []),
  (80, .iastore, 1, []),
  (81, .iload_n 2, 1, []),
  (82, .ireturn, 1, [0]),
  (83, .iload_n 1, 1, []),
  (84, .iconst 4, 1, []),
  (85, .if_icmp .ne 10, 3, [95]),
  (88, .aload_n 0, 1, []),
  (89, .getfield 32, 3, [7, 15]),
  (92, .goto 7, 3, [99]),
  (95, .aload_n 0, 1, []),
  (96, .getfield 35, 3, [7, 16]),
  (99, .invokestatic 76, 3, [93, 1]),
  (102, .istore_n 2, 1, []),
  (103, .iconst 0, 1, []),
  (104, .istore_n 3, 1, []),
  (105, .iload_n 3, 1, []),
  (106, .bipush 6, 2, []),
  (108, .if_icmp .ge 60, 3, [168]),
  (111, .aload_n 0, 1, []),
  (112, .getfield 44, 3, [7, 19]),
  (115, .iload_n 3, 1, []),
  (116, .dup2, 1, []),
  (117, .iaload, 1, []),
  (118, .iload_n 1, 1, []),
  (119, .iconst 4, 1, []),
  (120, .if_icmp .ne 12, 3, [132]),
  (123, .aload_n 0, 1, []),
  (124, .getfield 32, 3, [7, 15]),
  (127, .iload_n 3, 1, []),
  (128, .iaload, 1, []),
  (129, .goto 9, 3, [138]),
  (132, .aload_n 0, 1, []),
  (133, .getfield 35, 3, [7, 16]),
  (136, .iload_n 3, 1, []),
  (137, .iaload, 1, []),
  (138, .iadd, 1, []),
  (139, .iastore, 1, []),
  (140, .iload_n 1, 1, []),
  (141, .iconst 4, 1, []),
  (142, .if_icmp .ne 13, 3, [155]),
  (145, .aload_n 0, 1, []),
  (146, .getfield 32, 3, [7, 15]),
  (149, .iload_n 3, 1, []),
  (150, .iconst 0, 1, []),
  (151, .iastore, 1, []),
  (152, .goto 10, 3, [162]),
  (155, .aload_n 0, 1, []),
  (156, .getfield 35, 3, [7, 16]),
  (159, .iload_n 3, 1, []),
  (160, .iconst 0, 1, []),
  (161, .iastore, 1, []),
  (162, .iinc 3 1, 3, []),
  (165, .goto (-60), 3, [105]),
  (168, .iload_n 2, 1, []),
  (169, .ireturn, 1, [0])]
-- 129 CashRecyclerModel.state()I
def q_M_state : Nat := 129
def qc129 : List PE := [(0, .aload_n 0, 1, []),
  (1, .iconst 0, 1, []),
  (2, .putfield 59, 3, [7, 0, 0]),
  (5, .aload_n 0, 1, []),
  (6, .getfield 73, 3, [7, 1]),
  (9, .ireturn, 1, [0])]
-- 130 CashRecyclerModel.inPile(I)I
def q_M_inPile : Nat := 130
def qc130 : List PE := [(0, .iconst 0, 1, []),
  (1, .istore_n 2, 1, []),
  (2, .iconst 0, 1, []),
  (3, .istore_n 3, 1, []),
  (4, .iload_n 3, 1, []),
  (5, .aload_n 0, 1, []),
  (6, .getfield 95, 3, [7, 12]),
  (9, .if_icmp .ge 27, 3, [36]),
  (12, .iload_n 2, 1, []),
  (13, .aload_n 0, 1, []),
  (14, .getfield 23, 3, [7, 11]),
  (17, .iload_n 3, 1, []),
  (18, .iaload, 1, []),
  (19, .iload_n 1, 1, []),
  (20, .if_icmp .ne 7, 3, [27]),
  (23, .iconst 1, 1, []),
  (24, .goto 4, 3, [28]),
  (27, .iconst 0, 1, []),
  (28, .iadd, 1, []),
  (29, .istore_n 2, 1, []),
  (30, .iinc 3 1, 3, []),
  (33, .goto (-29), 3, [4]),
  (36, .iload_n 2, 1, []),
  (37, .ireturn, 1, [0])]
-- 131 CashRecyclerModel.ofBelt(I)I
def q_M_ofBelt : Nat := 131
def qc131 : List PE := [(0, .iconst 0, 1, []),
  (1, .istore_n 2, 1, []),
  (2, .iconst 0, 1, []),
  (3, .istore_n 3, 1, []),
  (4, .iload_n 3, 1, []),
  (5, .bipush 10, 2, []),
  (7, .if_icmp .ge 27, 3, [34]),
  (10, .iload_n 2, 1, []),
  (11, .aload_n 0, 1, []),
  (12, .getfield 13, 3, [7, 8]),
  (15, .iload_n 3, 1, []),
  (16, .iaload, 1, []),
  (17, .iload_n 1, 1, []),
  (18, .if_icmp .ne 7, 3, [25]),
  (21, .iconst 1, 1, []),
  (22, .goto 4, 3, [26]),
  (25, .iconst 0, 1, []),
  (26, .iadd, 1, []),
  (27, .istore_n 2, 1, []),
  (28, .iinc 3 1, 3, []),
  (31, .goto (-27), 3, [4]),
  (34, .iload_n 2, 1, []),
  (35, .ireturn, 1, [0])]
-- 132 CashRecyclerModel.counted(II)I
def q_M_counted : Nat := 132
def qc132 : List PE := [(0, .iload_n 1, 1, []),
  (1, .ifCond .ne 9, 3, [10]),
  (4, .aload_n 0, 1, []),
  (5, .iload_n 2, 1, []),
  (6, .invokevirtual 145, 3, [130, 2]),
  (9, .ireturn, 1, [0]),
  (10, .iload_n 1, 1, []),
  (11, .iconst 1, 1, []),
  (12, .if_icmp .ne 9, 3, [21]),
  (15, .aload_n 0, 1, []),
  (16, .iload_n 2, 1, []),
  (17, .invokevirtual 83, 3, [101, 2]),
  (20, .ireturn, 1, [0]),
  (21, .iload_n 1, 1, []),
  (22, .iconst 2, 1, []),
  (23, .if_icmp .ne 10, 3, [33]),
  (26, .aload_n 0, 1, []),
  (27, .getfield 32, 3, [7, 15]),
  (30, .iload_n 2, 1, []),
  (31, .iaload, 1, []),
  (32, .ireturn, 1, [0]),
  (33, .iload_n 1, 1, []),
  (34, .iconst 3, 1, []),
  (35, .if_icmp .ne 9, 3, [44]),
  (38, .aload_n 0, 1, []),
  (39, .iload_n 2, 1, []),
  (40, .invokevirtual 148, 3, [131, 2]),
  (43, .ireturn, 1, [0]),
  (44, .iload_n 1, 1, []),
  (45, .iconst 4, 1, []),
  (46, .if_icmp .ne 10, 3, [56]),
  (49, .aload_n 0, 1, []),
  (50, .getfield 35, 3, [7, 16]),
  (53, .iload_n 2, 1, []),
  (54, .iaload, 1, []),
  (55, .ireturn, 1, [0]),
  (56, .iload_n 1, 1, []),
  (57, .iconst 5, 1, []),
  (58, .if_icmp .ne 10, 3, [68]),
  (61, .aload_n 0, 1, []),
  (62, .getfield 38, 3, [7, 17]),
  (65, .iload_n 2, 1, []),
  (66, .iaload, 1, []),
  (67, .ireturn, 1, [0]),
  (68, .iload_n 1, 1, []),
  (69, .bipush 6, 2, []),
  (71, .if_icmp .ne 10, 3, [81]),
  (74, .aload_n 0, 1, []),
  (75, .getfield 41, 3, [7, 18]),
  (78, .iload_n 2, 1, []),
  (79, .iaload, 1, []),
  (80, .ireturn, 1, [0]),
  (81, .iload_n 1, 1, []),
  (82, .bipush 7, 2, []),
  (84, .if_icmp .ne 10, 3, [94]),
  (87, .aload_n 0, 1, []),
  (88, .getfield 44, 3, [7, 19]),
  (91, .iload_n 2, 1, []),
  (92, .iaload, 1, []),
  (93, .ireturn, 1, [0]),
  (94, .iload_n 1, 1, []),
  (95, .bipush 8, 2, []),
  (97, .if_icmp .ne 10, 3, [107]),
  (100, .aload_n 0, 1, []),
  (101, .getfield 47, 3, [7, 20]),
  (104, .iload_n 2, 1, []),
  (105, .iaload, 1, []),
  (106, .ireturn, 1, [0]),
  (107, .iload_n 1, 1, []),
  (108, .bipush 9, 2, []),
  (110, .if_icmp .ne 12, 3, [122]),
  (113, .aload_n 0, 1, []),
  (114, .getfield 50, 3, [7, 21]),
  (117, .iload_n 2, 1, []),
  (118, .iaload, 1, []),
  (119, .goto 15, 3, [134]),
  (122, .iload_n 2, 1, []),
  (123, .ifCond .ne 10, 3, [133]),
  (126, .aload_n 0, 1, []),
  (127, .getfield 63, 3, [7, 5]),
  (130, .goto 4, 3, [134]),
  (133, .iconst 0, 1, []),
  (134, .ireturn, 1, [0])]
-- 133 CashRecyclerModel.notes(II)I
def q_M_notes : Nat := 133
def qc133 : List PE := [(0, .aload_n 0, 1, []),
  (1, .iload_n 1, 1, []),
  (2, .ifCond .lt 18, 3, [20]),
  (5, .iload_n 1, 1, []),
  (6, .bipush 10, 2, []),
  (8, .if_icmp .gt 12, 3, [20]),
  (11, .iload_n 2, 1, []),
  (12, .ifCond .lt 8, 3, [20]),
  (15, .iload_n 2, 1, []),
  (16, .iconst 5, 1, []),
  (17, .if_icmp .le 7, 3, [24]),
  (20, .iconst 1, 1, []),
  (21, .goto 4, 3, [25]),
  (24, .iconst 0, 1, []),
  (25, .putfield 59, 3, [7, 0, 0]),
  (28, .aload_n 0, 1, []),
  (29, .getfield 59, 3, [7, 0]),
  (32, .ifCond .le 7, 3, [39]),
  (35, .iconst 0, 1, []),
  (36, .goto 9, 3, [45]),
  (39, .aload_n 0, 1, []),
  (40, .iload_n 1, 1, []),
  (41, .iload_n 2, 1, []),
  (42, .invokevirtual 151, 3, [132, 3]),
  (45, .ireturn, 1, [0])]
-- 134 CashRecyclerModel.cassette(II)I
def q_M_cassette : Nat := 134
def qc134 : List PE := [(0, .aload_n 0, 1, []),
  (1, .iload_n 1, 1, []),
  (2, .ifCond .lt 17, 3, [19]),
  (5, .iload_n 1, 1, []),
  (6, .iconst 3, 1, []),
  (7, .if_icmp .gt 12, 3, [19]),
  (10, .iload_n 2, 1, []),
  (11, .ifCond .lt 8, 3, [19]),
  (14, .iload_n 2, 1, []),
  (15, .iconst 1, 1, []),
  (16, .if_icmp .le 7, 3, [23]),
  (19, .iconst 1, 1, []),
  (20, .goto 4, 3, [24]),
  (23, .iconst 0, 1, []),
  (24, .putfield 59, 3, [7, 0, 0]),
  (27, .aload_n 0, 1, []),
  (28, .getfield 59, 3, [7, 0]),
  (31, .ifCond .le 5, 3, [36]),
  (34, .iconst 0, 1, []),
  (35, .ireturn, 1, [0]),
  (36, .iload_n 2, 1, []),
  (37, .ifCond .ne 12, 3, [49]),
  (40, .aload_n 0, 1, []),
  (41, .getfield 29, 3, [7, 14]),
  (44, .iload_n 1, 1, []),
  (45, .iaload, 1, []),
  (46, .goto 9, 3, [55]),
  (49, .aload_n 0, 1, []),
  (50, .getfield 26, 3, [7, 13]),
  (53, .iload_n 1, 1, []),
  (54, .iaload, 1, []),
  (55, .ireturn, 1, [0])]
-- 135 CashRecyclerModel.belt(II)I
def q_M_belt : Nat := 135
def qc135 : List PE := [(0, .aload_n 0, 1, []),
  (1, .iload_n 1, 1, []),
  (2, .ifCond .lt 18, 3, [20]),
  (5, .iload_n 1, 1, []),
  (6, .bipush 9, 2, []),
  (8, .if_icmp .gt 12, 3, [20]),
  (11, .iload_n 2, 1, []),
  (12, .ifCond .lt 8, 3, [20]),
  (15, .iload_n 2, 1, []),
  (16, .iconst 2, 1, []),
  (17, .if_icmp .le 7, 3, [24]),
  (20, .iconst 1, 1, []),
  (21, .goto 4, 3, [25]),
  (24, .iconst 0, 1, []),
  (25, .putfield 59, 3, [7, 0, 0]),
  (28, .aload_n 0, 1, []),
  (29, .getfield 59, 3, [7, 0]),
  (32, .ifCond .le 5, 3, [37]),
  (35, .iconst 0, 1, []),
  (36, .ireturn, 1, [0]),
  (37, .aload_n 0, 1, []),
  (38, .getfield 13, 3, [7, 8]),
  (41, .iload_n 1, 1, []),
  (42, .iaload, 1, []),
  (43, .iconst (-1), 1, []),
  (44, .if_icmp .ne 5, 3, [49]),
  (47, .iconst (-1), 1, []),
  (48, .ireturn, 1, [0]),
  (49, .iload_n 2, 1, []),
  (50, .ifCond .ne 12, 3, [62]),
  (53, .aload_n 0, 1, []),
  (54, .getfield 13, 3, [7, 8]),
  (57, .iload_n 1, 1, []),
  (58, .iaload, 1, []),
  (59, .goto 31, 3, [90]),
  (62, .iload_n 2, 1, []),
  (63, .iconst 1, 1, []),
  (64, .if_icmp .ne 12, 3, [76]),
  (67, .aload_n 0, 1, []),
  (68, .getfield 16, 3, [7, 9]),
  (71, .iload_n 1, 1, []),
  (72, .iaload, 1, []),
  (73, .goto 17, 3, [90]),
  (76, .aload_n 0, 1, []),
  (77, .getfield 19, 3, [7, 10]),
  (80, .iload_n 1, 1, []),
  (81, .baload, 1, []),
  (82, .ifCond .eq 7, 3, [89]),
  (85, .iconst 1, 1, []),
  (86, .goto 4, 3, [90]),
  (89, .iconst 0, 1, []),
  (90, .ireturn, 1, [0])]
-- 136 CashRecyclerModel.balance()I
def q_M_balance : Nat := 136
def qc136 : List PE := [(0, .aload_n 0, 1, []),
  (1, .iconst 0, 1, []),
  (2, .putfield 59, 3, [7, 0, 0]),
  (5, .iconst 0, 1, []),
  (6, .istore_n 1, 1, []),
  (7, .iconst 1, 1, []),
  (8, .istore_n 2, 1, []),
  (9, .iload_n 2, 1, []),
  (10, .bipush 6, 2, []),
  (12, .if_icmp .ge 55, 3, [67]),
  (15, .aload_n 0, 1, []),
  (16, .getfield 50, 3, [7, 21]),
  (19, .iload_n 2, 1, []),
  (20, .iaload, 1, []),
  (21, .istore_n 3, 1, []),
  (22, .iconst 0, 1, []),
  (23, .istore 4, 2, []),
  (25, .iload 4, 2, []),
  (27, .bipush 9, 2, []),
  (29, .if_icmp .ge 19, 3, [48]),
  (32, .iload_n 3, 1, []),
  (33, .aload_n 0, 1, []),
  (34, .iload 4, 2, []),
  (36, .iload_n 2, 1, []),
  (37, .invokevirtual 151, 3, [132, 3]),
  (40, .isub, 1, []),
  (41, .istore_n 3, 1, []),
  (42, .iinc 4 1, 3, []),
  (45, .goto (-20), 3, [25]),
  (48, .iload_n 1, 1, []),
  (49, .iload_n 3, 1, []),
  (50, .ifCond .ge 8, 3, [58]),
  (53, .iload_n 3, 1, []),
  (54, .ineg, 1, []),
  (55, .goto 4, 3, [59]),
  (58, .iload_n 3, 1, []),
  (59, .iadd, 1, []),
  (60, .istore_n 1, 1, []),
  (61, .iinc 2 1, 3, []),
  (64, .goto (-55), 3, [9]),
  (67, .iload_n 1, 1, []),
  (68, .ireturn, 1, [0])]
def qCodL : List (List PE) := [qc0, qc1, qc2, qc3, qc4, qc5, qc6, qc7, qc8, qc9, qc10, qc11, qc12, qc13, qc14, qc15, qc16, qc17, qc18, qc19, qc20, qc21, qc22, qc23, qc24, qc25, qc26, qc27, qc28, qc29, qc30, qc31, qc32, qc33, qc34, qc35, qc36, qc37, qc38, qc39, qc40, qc41, qc42, qc43, qc44, qc45, qc46, qc47, qc48, qc49, qc50, qc51, qc52, qc53, qc54, qc55, qc56, qc57, qc58, qc59, qc60, qc61, qc62, qc63, qc64, qc65, qc66, qc67, qc68, qc69, qc70, qc71, qc72, qc73, qc74, qc75, qc76, qc77, qc78, qc79, qc80, qc81, qc82, qc83, qc84, qc85, qc86, qc87, qc88, qc89, qc90, qc91, qc92, qc93, qc94, qc95, qc96, qc97, qc98, qc99, qc100, qc101, qc102, qc103, qc104, qc105, qc106, qc107, qc108, qc109, qc110, qc111, qc112, qc113, qc114, qc115, qc116, qc117, qc118, qc119, qc120, qc121, qc122, qc123, qc124, qc125, qc126, qc127, qc128, qc129, qc130, qc131, qc132, qc133, qc134, qc135, qc136]
def qCod (j : Nat) : List PE := qCodL.getD j []
-- methods: name, code, locals, type of the answer, static, class of the worlds, arguments with the receiver, frames and words over its own frame
abbrev PM : Type := MethodName × ByteArray × Nat × Option FieldType × Bool × Nat × Nat × Nat × Nat
def qMtL : List PM := [((⟨"java/lang/Math", "abs", "(I)I"⟩ : MethodName), prog_13_method_59_code, 1, (some .int), true, 99, 1, 0, 0),
  ((⟨"java/lang/Math", "min", "(II)I"⟩ : MethodName), prog_13_method_69_code, 2, (some .int), true, 99, 2, 0, 0),
  ((⟨"CashRecycler$Verdicts", "isFull", "()Z"⟩ : MethodName), prog_7_method_2_code, 1, (some .boolean), false, 0, 1, 0, 0),
  ((⟨"CashRecycler$Verdicts", "add", "(I)I"⟩ : MethodName), prog_7_method_3_code, 2, (some .int), false, 0, 2, 0, 0),
  ((⟨"CashRecycler$Verdicts", "next", "()I"⟩ : MethodName), prog_7_method_4_code, 2, (some .int), false, 0, 1, 0, 0),
  ((⟨"CashRecycler$Verdicts", "clear", "()V"⟩ : MethodName), prog_7_method_5_code, 1, none, false, 0, 1, 0, 0),
  ((⟨"CashRecycler$Track", "size", "()I"⟩ : MethodName), prog_6_method_2_code, 1, (some .int), false, 1, 1, 0, 0),
  ((⟨"CashRecycler$Track", "isFree", "(I)Z"⟩ : MethodName), prog_6_method_3_code, 2, (some .boolean), false, 1, 2, 0, 0),
  ((⟨"CashRecycler$Track", "kindAt", "(I)I"⟩ : MethodName), prog_6_method_4_code, 2, (some .int), false, 1, 2, 0, 0),
  ((⟨"CashRecycler$Track", "goalAt", "(I)I"⟩ : MethodName), prog_6_method_5_code, 2, (some .int), false, 1, 2, 0, 0),
  ((⟨"CashRecycler$Track", "sticksAt", "(I)Z"⟩ : MethodName), prog_6_method_6_code, 2, (some .boolean), false, 1, 2, 0, 0),
  ((⟨"CashRecycler$Track", "isAtGoal", "(I)Z"⟩ : MethodName), prog_6_method_7_code, 2, (some .boolean), false, 1, 2, 0, 0),
  ((⟨"CashRecycler$Track", "setGoal", "(II)V"⟩ : MethodName), prog_6_method_8_code, 3, none, false, 1, 3, 0, 0),
  ((⟨"CashRecycler$Track", "setSticking", "(IZ)V"⟩ : MethodName), prog_6_method_9_code, 3, none, false, 1, 3, 0, 0),
  ((⟨"CashRecycler$Track", "put", "(III)V"⟩ : MethodName), prog_6_method_10_code, 4, none, false, 1, 4, 1, 21),
  ((⟨"CashRecycler$Track", "clear", "(I)V"⟩ : MethodName), prog_6_method_11_code, 2, none, false, 1, 2, 1, 21),
  ((⟨"CashRecycler$Track", "advance", "(I)V"⟩ : MethodName), prog_6_method_12_code, 2, none, false, 1, 2, 2, 44),
  ((⟨"CashRecycler$Track", "anySticks", "()Z"⟩ : MethodName), prog_6_method_13_code, 2, (some .boolean), false, 1, 1, 0, 0),
  ((⟨"CashRecycler$Track", "count", "(I)I"⟩ : MethodName), prog_6_method_14_code, 4, (some .int), false, 1, 2, 1, 21),
  ((⟨"CashRecycler$Track", "countGoing", "(I)I"⟩ : MethodName), prog_6_method_15_code, 4, (some .int), false, 1, 2, 0, 0),
  ((⟨"CashRecycler$Escrow", "size", "()I"⟩ : MethodName), prog_3_method_2_code, 1, (some .int), false, 2, 1, 0, 0),
  ((⟨"CashRecycler$Escrow", "push", "(I)Z"⟩ : MethodName), prog_3_method_3_code, 2, (some .boolean), false, 2, 2, 0, 0),
  ((⟨"CashRecycler$Escrow", "pop", "()I"⟩ : MethodName), prog_3_method_4_code, 1, (some .int), false, 2, 1, 0, 0),
  ((⟨"CashRecycler$Escrow", "count", "(I)I"⟩ : MethodName), prog_3_method_5_code, 4, (some .int), false, 2, 2, 0, 0),
  ((⟨"CashRecycler$Magazine", "kindOf", "(I)I"⟩ : MethodName), prog_4_method_2_code, 2, (some .int), false, 3, 2, 0, 0),
  ((⟨"CashRecycler$Magazine", "setKind", "(II)V"⟩ : MethodName), prog_4_method_3_code, 3, none, false, 3, 3, 0, 0),
  ((⟨"CashRecycler$Magazine", "size", "(I)I"⟩ : MethodName), prog_4_method_4_code, 2, (some .int), false, 3, 2, 0, 0),
  ((⟨"CashRecycler$Magazine", "room", "(I)I"⟩ : MethodName), prog_4_method_5_code, 2, (some .int), false, 3, 2, 0, 0),
  ((⟨"CashRecycler$Magazine", "change", "(II)V"⟩ : MethodName), prog_4_method_6_code, 3, none, false, 3, 3, 0, 0),
  ((⟨"CashRecycler", "isCassette", "(I)Z"⟩ : MethodName), prog_1_method_27_code, 1, (some .boolean), true, 6, 1, 0, 0),
  ((⟨"CashRecycler$Magazine", "push", "(II)Z"⟩ : MethodName), prog_4_method_7_code, 3, (some .boolean), false, 3, 3, 1, 21),
  ((⟨"CashRecycler$Magazine", "firstWith", "(I)I"⟩ : MethodName), prog_4_method_8_code, 3, (some .int), false, 3, 2, 0, 0),
  ((⟨"CashRecycler$Magazine", "count", "(I)I"⟩ : MethodName), prog_4_method_9_code, 4, (some .int), false, 3, 2, 0, 0),
  ((⟨"CashRecycler$Books", "count", "(II)I"⟩ : MethodName), prog_2_method_2_code, 3, (some .int), false, 4, 3, 0, 0),
  ((⟨"CashRecycler$Books", "add", "(III)V"⟩ : MethodName), prog_2_method_3_code, 4, none, false, 4, 4, 0, 0),
  ((⟨"CashRecycler$Books", "total", "(I)I"⟩ : MethodName), prog_2_method_4_code, 4, (some .int), false, 4, 2, 0, 0),
  ((⟨"CashRecycler$Books", "pour", "(II)I"⟩ : MethodName), prog_2_method_5_code, 5, (some .int), false, 4, 3, 1, 23),
  ((⟨"CashRecycler$Plan", "size", "()I"⟩ : MethodName), prog_5_method_2_code, 1, (some .int), false, 5, 1, 0, 0),
  ((⟨"CashRecycler$Plan", "count", "(I)I"⟩ : MethodName), prog_5_method_3_code, 2, (some .int), false, 5, 2, 0, 0),
  ((⟨"CashRecycler$Plan", "drop", "()V"⟩ : MethodName), prog_5_method_4_code, 2, none, false, 5, 1, 0, 0),
  ((⟨"CashRecycler$Plan", "highestKind", "()I"⟩ : MethodName), prog_5_method_5_code, 2, (some .int), false, 5, 1, 0, 0),
  ((⟨"CashRecycler$Plan", "strikeOut", "(I)V"⟩ : MethodName), prog_5_method_6_code, 2, none, false, 5, 2, 0, 0),
  ((⟨"CashRecycler$Plan", "fillUp", "(III)V"⟩ : MethodName), prog_5_method_8_code, 9, none, false, 5, 4, 1, 21),
  ((⟨"CashRecycler$Plan", "find", "(ILCashRecycler$Magazine;)Z"⟩ : MethodName), prog_5_method_7_code, 6, (some .boolean), false, 5, 3, 2, 49),
  ((⟨"CashRecycler", "insert", "(I)I"⟩ : MethodName), prog_1_method_2_code, 2, (some .int), false, 6, 2, 6, 90),
  ((⟨"CashRecycler", "verdict", "(I)I"⟩ : MethodName), prog_1_method_3_code, 2, (some .int), false, 6, 2, 6, 90),
  ((⟨"CashRecycler", "isReady", "(I)Z"⟩ : MethodName), prog_1_method_30_code, 2, (some .boolean), false, 6, 2, 0, 0),
  ((⟨"CashRecycler", "deposit", "()V"⟩ : MethodName), prog_1_method_4_code, 1, none, false, 6, 1, 6, 90),
  ((⟨"CashRecycler", "confirm", "()V"⟩ : MethodName), prog_1_method_5_code, 1, none, false, 6, 1, 6, 90),
  ((⟨"CashRecycler", "giveBack", "()V"⟩ : MethodName), prog_1_method_6_code, 1, none, false, 6, 1, 6, 90),
  ((⟨"CashRecycler", "isPayable", "(I)Z"⟩ : MethodName), prog_1_method_29_code, 1, (some .boolean), true, 6, 1, 0, 0),
  ((⟨"CashRecycler", "payout", "(I)I"⟩ : MethodName), prog_1_method_7_code, 2, (some .int), false, 6, 2, 6, 90),
  ((⟨"CashRecycler", "isKind", "(I)Z"⟩ : MethodName), prog_1_method_26_code, 1, (some .boolean), true, 6, 1, 0, 0),
  ((⟨"CashRecycler", "plan", "(II)I"⟩ : MethodName), prog_1_method_8_code, 3, (some .int), false, 6, 3, 6, 90),
  ((⟨"CashRecycler", "isRunning", "()Z"⟩ : MethodName), prog_1_method_31_code, 1, (some .boolean), false, 6, 1, 0, 0),
  ((⟨"CashRecycler", "goesIn", "(II)Z"⟩ : MethodName), prog_1_method_37_code, 3, (some .boolean), false, 6, 3, 2, 43),
  ((⟨"CashRecycler", "moveNote", "(I)V"⟩ : MethodName), prog_1_method_36_code, 2, none, false, 6, 2, 3, 65),
  ((⟨"CashRecycler", "moveBelt", "()Z"⟩ : MethodName), prog_1_method_35_code, 3, (some .boolean), false, 6, 1, 4, 86),
  ((⟨"CashRecycler", "judgeNote", "()V"⟩ : MethodName), prog_1_method_38_code, 2, none, false, 6, 1, 2, 44),
  ((⟨"CashRecycler", "bringFromSlot", "()V"⟩ : MethodName), prog_1_method_40_code, 1, none, false, 6, 1, 2, 44),
  ((⟨"CashRecycler", "storeGoal", "(I)I"⟩ : MethodName), prog_1_method_42_code, 4, (some .int), false, 6, 2, 1, 23),
  ((⟨"CashRecycler", "bringFromEscrow", "()V"⟩ : MethodName), prog_1_method_41_code, 2, none, false, 6, 1, 2, 46),
  ((⟨"CashRecycler", "bringFromCassette", "()V"⟩ : MethodName), prog_1_method_43_code, 4, none, false, 6, 1, 2, 44),
  ((⟨"CashRecycler", "bringNote", "()V"⟩ : MethodName), prog_1_method_39_code, 1, none, false, 6, 1, 3, 67),
  ((⟨"CashRecycler", "endCounting", "()V"⟩ : MethodName), prog_1_method_45_code, 1, none, false, 6, 1, 1, 23),
  ((⟨"CashRecycler", "endIfDone", "()V"⟩ : MethodName), prog_1_method_44_code, 1, none, false, 6, 1, 2, 43),
  ((⟨"CashRecycler", "jamIfStuck", "(Z)V"⟩ : MethodName), prog_1_method_46_code, 3, none, false, 6, 2, 0, 0),
  ((⟨"CashRecycler", "stepOnce", "()V"⟩ : MethodName), prog_1_method_34_code, 2, none, false, 6, 1, 5, 108),
  ((⟨"CashRecycler", "step", "(I)I"⟩ : MethodName), prog_1_method_9_code, 3, (some .int), false, 6, 2, 6, 129),
  ((⟨"CashRecycler", "taken", "()I"⟩ : MethodName), prog_1_method_10_code, 1, (some .int), false, 6, 1, 2, 47),
  ((⟨"CashRecycler", "isSegment", "(I)Z"⟩ : MethodName), prog_1_method_28_code, 1, (some .boolean), true, 6, 1, 0, 0),
  ((⟨"CashRecycler", "stick", "(I)V"⟩ : MethodName), prog_1_method_11_code, 2, none, false, 6, 2, 6, 90),
  ((⟨"CashRecycler", "open", "()V"⟩ : MethodName), prog_1_method_12_code, 1, none, false, 6, 1, 6, 90),
  ((⟨"CashRecycler", "remove", "(I)I"⟩ : MethodName), prog_1_method_13_code, 3, (some .int), false, 6, 2, 6, 90),
  ((⟨"CashRecycler", "free", "(I)Z"⟩ : MethodName), prog_1_method_14_code, 3, (some .boolean), false, 6, 2, 6, 90),
  ((⟨"CashRecycler", "sendToReject", "(I)V"⟩ : MethodName), prog_1_method_50_code, 2, none, false, 6, 2, 2, 42),
  ((⟨"CashRecycler", "recover", "()V"⟩ : MethodName), prog_1_method_49_code, 2, none, false, 6, 1, 3, 63),
  ((⟨"CashRecycler", "shut", "()V"⟩ : MethodName), prog_1_method_48_code, 1, none, false, 6, 1, 4, 84),
  ((⟨"CashRecycler", "close", "()I"⟩ : MethodName), prog_1_method_15_code, 1, (some .int), false, 6, 1, 6, 104),
  ((⟨"CashRecycler", "wakeUp", "()V"⟩ : MethodName), prog_1_method_47_code, 1, none, false, 6, 1, 5, 104),
  ((⟨"CashRecycler", "power", "()Z"⟩ : MethodName), prog_1_method_16_code, 1, (some .boolean), false, 6, 1, 6, 124),
  ((⟨"CashRecycler", "service", "()Z"⟩ : MethodName), prog_1_method_17_code, 1, (some .boolean), false, 6, 1, 6, 90),
  ((⟨"CashRecycler", "kind", "(II)V"⟩ : MethodName), prog_1_method_18_code, 3, none, false, 6, 3, 6, 90),
  ((⟨"CashRecycler", "refill", "(II)I"⟩ : MethodName), prog_1_method_19_code, 3, (some .int), false, 6, 3, 6, 90),
  ((⟨"CashRecycler", "emptyCassette", "(I)I"⟩ : MethodName), prog_1_method_33_code, 3, (some .int), false, 6, 2, 1, 23),
  ((⟨"CashRecycler", "empty", "(I)I"⟩ : MethodName), prog_1_method_20_code, 2, (some .int), false, 6, 2, 6, 90),
  ((⟨"CashRecycler", "state", "()I"⟩ : MethodName), prog_1_method_21_code, 1, (some .int), false, 6, 1, 0, 0),
  ((⟨"CashRecycler", "countNotes", "(II)I"⟩ : MethodName), prog_1_method_32_code, 3, (some .int), false, 6, 3, 2, 44),
  ((⟨"CashRecycler", "notes", "(II)I"⟩ : MethodName), prog_1_method_22_code, 3, (some .int), false, 6, 3, 6, 90),
  ((⟨"CashRecycler", "cassette", "(II)I"⟩ : MethodName), prog_1_method_23_code, 3, (some .int), false, 6, 3, 6, 90),
  ((⟨"CashRecycler", "belt", "(II)I"⟩ : MethodName), prog_1_method_24_code, 3, (some .int), false, 6, 3, 6, 90),
  ((⟨"CashRecycler", "balance", "()I"⟩ : MethodName), prog_1_method_25_code, 5, (some .int), false, 6, 1, 3, 66),
  ((⟨"CashRecyclerModel", "thrown", "()I"⟩ : MethodName), prog_9_method_2_code, 1, (some .int), false, 7, 1, 0, 0),
  ((⟨"CashRecyclerModel", "sum", "([I)I"⟩ : MethodName), prog_9_method_3_code, 1, (some .int), true, 7, 1, 0, 0),
  ((⟨"CashRecyclerModel", "segmentOf", "(I)I"⟩ : MethodName), prog_9_method_5_code, 1, (some .int), true, 7, 1, 0, 0),
  ((⟨"CashRecyclerModel", "onBelt", "()I"⟩ : MethodName), prog_9_method_6_code, 3, (some .int), false, 7, 1, 0, 0),
  ((⟨"CashRecyclerModel", "insert", "(I)I"⟩ : MethodName), prog_9_method_7_code, 2, (some .int), false, 7, 2, 0, 0),
  ((⟨"CashRecyclerModel", "verdict", "(I)I"⟩ : MethodName), prog_9_method_8_code, 2, (some .int), false, 7, 2, 0, 0),
  ((⟨"CashRecyclerModel", "deposit", "()V"⟩ : MethodName), prog_9_method_9_code, 1, none, false, 7, 1, 1, 20),
  ((⟨"CashRecyclerModel", "confirm", "()V"⟩ : MethodName), prog_9_method_10_code, 1, none, false, 7, 1, 0, 0),
  ((⟨"CashRecyclerModel", "giveBack", "()V"⟩ : MethodName), prog_9_method_11_code, 1, none, false, 7, 1, 0, 0),
  ((⟨"CashRecyclerModel", "inStores", "(I)I"⟩ : MethodName), prog_9_method_12_code, 4, (some .int), false, 7, 2, 0, 0),
  ((⟨"CashRecyclerModel", "three", "(III)V"⟩ : MethodName), prog_9_method_14_code, 10, none, false, 7, 4, 1, 23),
  ((⟨"CashRecyclerModel", "plans", "(I)Z"⟩ : MethodName), prog_9_method_13_code, 7, (some .boolean), false, 7, 2, 2, 52),
  ((⟨"CashRecyclerModel", "payout", "(I)I"⟩ : MethodName), prog_9_method_15_code, 3, (some .int), false, 7, 2, 3, 78),
  ((⟨"CashRecyclerModel", "plan", "(II)I"⟩ : MethodName), prog_9_method_16_code, 3, (some .int), false, 7, 3, 3, 78),
  ((⟨"CashRecyclerModel", "goes", "(I)Z"⟩ : MethodName), prog_9_method_17_code, 4, (some .boolean), false, 7, 2, 0, 0),
  ((⟨"CashRecyclerModel", "put", "(III)V"⟩ : MethodName), prog_9_method_18_code, 4, none, false, 7, 4, 0, 0),
  ((⟨"CashRecyclerModel", "judge", "()V"⟩ : MethodName), prog_9_method_19_code, 3, none, false, 7, 1, 0, 0),
  ((⟨"CashRecyclerModel", "moves", "()Z"⟩ : MethodName), prog_9_method_20_code, 3, (some .boolean), false, 7, 1, 1, 23),
  ((⟨"CashRecyclerModel", "goalFor", "(I)I"⟩ : MethodName), prog_9_method_21_code, 5, (some .int), false, 7, 2, 0, 0),
  ((⟨"CashRecyclerModel", "pays", "()V"⟩ : MethodName), prog_9_method_23_code, 4, none, false, 7, 1, 1, 23),
  ((⟨"CashRecyclerModel", "comes", "()V"⟩ : MethodName), prog_9_method_22_code, 1, none, false, 7, 1, 2, 46),
  ((⟨"CashRecyclerModel", "changes", "()V"⟩ : MethodName), prog_9_method_24_code, 2, none, false, 7, 1, 1, 22),
  ((⟨"CashRecyclerModel", "step", "(I)I"⟩ : MethodName), prog_9_method_25_code, 4, (some .int), false, 7, 2, 3, 66),
  ((⟨"CashRecyclerModel", "taken", "()I"⟩ : MethodName), prog_9_method_26_code, 3, (some .int), false, 7, 1, 1, 20),
  ((⟨"CashRecyclerModel", "stick", "(I)V"⟩ : MethodName), prog_9_method_27_code, 2, none, false, 7, 2, 0, 0),
  ((⟨"CashRecyclerModel", "open", "()V"⟩ : MethodName), prog_9_method_28_code, 1, none, false, 7, 1, 0, 0),
  ((⟨"CashRecyclerModel", "remove", "(I)I"⟩ : MethodName), prog_9_method_29_code, 3, (some .int), false, 7, 2, 0, 0),
  ((⟨"CashRecyclerModel", "free", "(I)Z"⟩ : MethodName), prog_9_method_30_code, 3, (some .boolean), false, 7, 2, 0, 0),
  ((⟨"CashRecyclerModel", "isStuck", "()Z"⟩ : MethodName), prog_9_method_31_code, 3, (some .boolean), false, 7, 1, 0, 0),
  ((⟨"CashRecyclerModel", "recover", "()V"⟩ : MethodName), prog_9_method_32_code, 2, none, false, 7, 1, 0, 0),
  ((⟨"CashRecyclerModel", "shut", "()V"⟩ : MethodName), prog_9_method_33_code, 1, none, false, 7, 1, 1, 22),
  ((⟨"CashRecyclerModel", "close", "()I"⟩ : MethodName), prog_9_method_34_code, 1, (some .int), false, 7, 1, 2, 42),
  ((⟨"CashRecyclerModel", "power", "()Z"⟩ : MethodName), prog_9_method_35_code, 1, (some .boolean), false, 7, 1, 2, 42),
  ((⟨"CashRecyclerModel", "service", "()Z"⟩ : MethodName), prog_9_method_36_code, 1, (some .boolean), false, 7, 1, 0, 0),
  ((⟨"CashRecyclerModel", "kind", "(II)V"⟩ : MethodName), prog_9_method_37_code, 3, none, false, 7, 3, 0, 0),
  ((⟨"CashRecyclerModel", "refill", "(II)I"⟩ : MethodName), prog_9_method_38_code, 3, (some .int), false, 7, 3, 0, 0),
  ((⟨"CashRecyclerModel", "empty", "(I)I"⟩ : MethodName), prog_9_method_39_code, 4, (some .int), false, 7, 2, 1, 20),
  ((⟨"CashRecyclerModel", "state", "()I"⟩ : MethodName), prog_9_method_40_code, 1, (some .int), false, 7, 1, 0, 0),
  ((⟨"CashRecyclerModel", "inPile", "(I)I"⟩ : MethodName), prog_9_method_41_code, 4, (some .int), false, 7, 2, 0, 0),
  ((⟨"CashRecyclerModel", "ofBelt", "(I)I"⟩ : MethodName), prog_9_method_42_code, 4, (some .int), false, 7, 2, 0, 0),
  ((⟨"CashRecyclerModel", "counted", "(II)I"⟩ : MethodName), prog_9_method_43_code, 3, (some .int), false, 7, 3, 1, 23),
  ((⟨"CashRecyclerModel", "notes", "(II)I"⟩ : MethodName), prog_9_method_44_code, 3, (some .int), false, 7, 3, 2, 45),
  ((⟨"CashRecyclerModel", "cassette", "(II)I"⟩ : MethodName), prog_9_method_45_code, 3, (some .int), false, 7, 3, 0, 0),
  ((⟨"CashRecyclerModel", "belt", "(II)I"⟩ : MethodName), prog_9_method_46_code, 3, (some .int), false, 7, 3, 0, 0),
  ((⟨"CashRecyclerModel", "balance", "()I"⟩ : MethodName), prog_9_method_47_code, 5, (some .int), false, 7, 1, 2, 45)]
-- entries of the pools that the code uses: own class, index, .. , place of the word in tables_1
def qFtL : List (Nat × Nat × Nat × Nat) := [(0, 19, 2, 33), (0, 9, 0, 31), (0, 15, 1, 32), (1, 22, 3, 51), (1, 15, 1, 49), (1, 9, 0, 48), (1, 18, 2, 50), (2, 15, 1, 69), (2, 9, 0, 68), (3, 9, 0, 81), (3, 15, 1, 82), (4, 11, 0, 96), (5, 18, 2, 108), (5, 15, 1, 107), (5, 9, 0, 106), (6, 58, 8, 124), (6, 10, 0, 116), (6, 61, 9, 125), (6, 54, 7, 123), (6, 40, 4, 120), (6, 51, 6, 122), (6, 33, 3, 119), (6, 47, 5, 121), (6, 26, 2, 118), (6, 19, 1, 117), (6, 68, 11, 127), (6, 65, 10, 126), (7, 59, 0, 705), (7, 13, 8, 713), (7, 63, 5, 710), (7, 66, 7, 712), (7, 7, 6, 711), (7, 69, 2, 707), (7, 73, 1, 706), (7, 38, 17, 722), (7, 26, 13, 718), (7, 29, 14, 719), (7, 80, 24, 729), (7, 56, 23, 728), (7, 53, 22, 727), (7, 16, 9, 714), (7, 95, 12, 717), (7, 23, 11, 716), (7, 35, 16, 721), (7, 32, 15, 720), (7, 19, 10, 715), (7, 50, 21, 726), (7, 130, 4, 709), (7, 41, 18, 723), (7, 133, 3, 708), (7, 47, 20, 725), (7, 44, 19, 724)]
-- methods called: own, index, callee, place, how (0 virtual, 1 static, 2 static by the nest)
def qLkL : List (String × Nat × Nat × Nat × Nat) := [("CashRecycler$Track", 29, 7, 209, 0), ("CashRecycler$Track", 33, 14, 495, 0), ("CashRecycler$Track", 37, 15, 499, 0), ("CashRecycler$Magazine", 18, 29, 484, 2), ("CashRecycler$Magazine", 22, 27, 487, 0), ("CashRecycler$Books", 16, 35, 161, 0), ("CashRecycler$Plan", 31, 1, 399, 1), ("CashRecycler$Plan", 22, 39, 397, 0), ("CashRecycler$Plan", 25, 32, 398, 0), ("CashRecycler$Plan", 37, 42, 402, 0), ("CashRecycler", 77, 2, 348, 0), ("CashRecycler", 81, 3, 352, 0), ("CashRecycler", 85, 46, 363, 0), ("CashRecycler", 89, 35, 367, 0), ("CashRecycler", 92, 50, 390, 1), ("CashRecycler", 95, 43, 393, 0), ("CashRecycler", 102, 37, 421, 0), ("CashRecycler", 106, 52, 432, 1), ("CashRecycler", 109, 38, 435, 0), ("CashRecycler", 225, 21, 476, 0), ("CashRecycler", 139, 34, 201, 0), ("CashRecycler", 228, 30, 480, 0), ("CashRecycler", 212, 11, 462, 0), ("CashRecycler", 132, 8, 197, 0), ("CashRecycler", 177, 9, 468, 0), ("CashRecycler", 215, 55, 472, 0), ("CashRecycler", 135, 15, 205, 0), ("CashRecycler", 219, 12, 210, 0), ("CashRecycler", 222, 16, 491, 0), ("CashRecycler", 142, 10, 454, 0), ("CashRecycler", 122, 7, 189, 0), ("CashRecycler", 209, 56, 458, 0), ("CashRecycler", 230, 4, 504, 0), ("CashRecycler", 233, 14, 508, 0), ("CashRecycler", 245, 6, 517, 0), ("CashRecycler", 246, 20, 521, 0), ("CashRecycler", 168, 24, 537, 0), ("CashRecycler", 253, 19, 541, 0), ("CashRecycler", 162, 27, 545, 0), ("CashRecycler", 247, 22, 529, 0), ("CashRecycler", 250, 60, 533, 0), ("CashRecycler", 256, 40, 550, 0), ("CashRecycler", 259, 31, 554, 0), ("CashRecycler", 153, 29, 558, 1), ("CashRecycler", 266, 41, 560, 0), ("CashRecycler", 165, 28, 564, 0), ("CashRecycler", 236, 59, 513, 0), ("CashRecycler", 239, 61, 525, 0), ("CashRecycler", 242, 62, 546, 0), ("CashRecycler", 269, 64, 572, 0), ("CashRecycler", 190, 54, 214, 0), ("CashRecycler", 193, 57, 450, 0), ("CashRecycler", 196, 58, 500, 0), ("CashRecycler", 199, 63, 509, 0), ("CashRecycler", 202, 65, 568, 0), ("CashRecycler", 205, 66, 576, 0), ("CashRecycler", 112, 67, 446, 0), ("CashRecycler", 115, 36, 157, 0), ("CashRecycler", 119, 70, 588, 1), ("CashRecycler", 128, 13, 606, 0), ("CashRecycler", 278, 39, 185, 0), ("CashRecycler", 281, 75, 193, 0), ("CashRecycler", 275, 17, 177, 0), ("CashRecycler", 272, 76, 181, 0), ("CashRecycler", 145, 77, 173, 0), ("CashRecycler", 148, 79, 169, 0), ("CashRecycler", 151, 5, 218, 0), ("CashRecycler", 156, 26, 652, 0), ("CashRecycler", 158, 25, 656, 0), ("CashRecycler", 171, 84, 674, 0), ("CashRecycler", 185, 23, 234, 0), ("CashRecycler", 186, 32, 238, 0), ("CashRecycler", 187, 18, 242, 0), ("CashRecycler", 188, 33, 246, 0), ("CashRecycler", 174, 87, 230, 0), ("CashRecycler", 180, 0, 250, 1), ("CashRecyclerModel", 76, 93, 797, 1), ("CashRecyclerModel", 83, 101, 816, 0), ("CashRecyclerModel", 87, 102, 820, 0), ("CashRecyclerModel", 91, 103, 812, 0), ("CashRecyclerModel", 98, 94, 836, 1), ("CashRecyclerModel", 101, 106, 839, 0), ("CashRecyclerModel", 104, 107, 843, 0), ("CashRecyclerModel", 107, 108, 847, 0), ("CashRecyclerModel", 110, 95, 855, 0), ("CashRecyclerModel", 114, 110, 859, 0), ("CashRecyclerModel", 117, 111, 863, 0), ("CashRecyclerModel", 120, 109, 832, 0), ("CashRecyclerModel", 124, 112, 851, 0), ("CashRecyclerModel", 127, 113, 867, 0), ("CashRecyclerModel", 136, 120, 899, 0), ("CashRecyclerModel", 139, 121, 903, 0), ("CashRecyclerModel", 142, 122, 895, 0), ("CashRecyclerModel", 145, 130, 939, 0), ("CashRecyclerModel", 148, 131, 943, 0), ("CashRecyclerModel", 151, 132, 935, 0)]
-- exceptions made: own, index of the class, index of the constructor, number
def qXtL : List (String × Nat × Nat × Nat) := [("CashRecycler", 71, 73, 0), ("CashRecycler", 74, 76, 1), ("CashRecycler", 99, 101, 2), ("CashRecycler", 125, 127, 3)]
-- places in lw_tbl: the method's code, instanceMethod or static, selects, initialized
def qWpL : List (Nat × Nat × Nat × Nat) := [(293, 292, 0, 55), (442, 441, 0, 55), (392, 390, 391, 43), (396, 394, 395, 43), (548, 546, 547, 43), (262, 260, 261, 43), (561, 559, 560, 44), (233, 231, 232, 44), (241, 239, 240, 44), (512, 510, 511, 44), (498, 496, 497, 44), (506, 504, 505, 44), (254, 252, 253, 44), (650, 648, 649, 44), (539, 537, 538, 44), (249, 247, 248, 44), (535, 533, 534, 44), (221, 219, 220, 44), (286, 284, 285, 44), (585, 583, 584, 44), (565, 563, 564, 45), (520, 518, 519, 45), (573, 571, 572, 45), (278, 276, 277, 45), (581, 579, 580, 46), (700, 698, 699, 46), (696, 694, 695, 46), (531, 529, 530, 46), (608, 606, 607, 46), (527, 526, 0, 42), (524, 522, 523, 46), (598, 596, 597, 46), (282, 280, 281, 46), (290, 288, 289, 47), (245, 243, 244, 47), (205, 203, 204, 47), (201, 199, 200, 47), (465, 463, 464, 48), (479, 477, 478, 48), (229, 227, 228, 48), (594, 592, 593, 48), (604, 602, 603, 48), (446, 445, 8, 48), (437, 435, 436, 48), (302, 300, 301, 42), (388, 386, 387, 42), (407, 406, 7, 42), (403, 401, 402, 42), (415, 413, 414, 42), (422, 420, 421, 42), (433, 432, 0, 42), (430, 428, 429, 42), (475, 474, 0, 42), (472, 470, 471, 42), (258, 257, 4, 42), (516, 515, 12, 42), (502, 501, 11, 42), (494, 493, 10, 42), (544, 543, 13, 42), (557, 556, 15, 42), (577, 576, 17, 42), (569, 568, 16, 42), (590, 589, 18, 42), (553, 552, 14, 42), (616, 615, 20, 42), (612, 611, 19, 42), (620, 619, 21, 42), (490, 489, 9, 42), (486, 484, 485, 42), (197, 195, 196, 42), (631, 630, 0, 42), (628, 626, 627, 42), (657, 655, 656, 42), (664, 662, 663, 42), (671, 669, 670, 42), (237, 236, 3, 42), (225, 224, 2, 42), (217, 216, 1, 42), (678, 676, 677, 42), (213, 212, 0, 42), (209, 207, 208, 42), (685, 683, 684, 42), (692, 690, 691, 42), (707, 705, 706, 42), (718, 717, 22, 42), (714, 712, 713, 42), (266, 264, 265, 42), (274, 273, 5, 42), (725, 723, 724, 42), (732, 730, 731, 42), (739, 737, 738, 42), (270, 268, 269, 42), (825, 823, 824, 49), (840, 839, 0, 49), (879, 878, 0, 49), (899, 898, 31, 49), (829, 827, 828, 49), (833, 831, 832, 49), (837, 835, 836, 49), (844, 842, 843, 49), (848, 846, 847, 49), (860, 859, 24, 49), (864, 863, 25, 49), (856, 855, 23, 49), (852, 850, 851, 49), (868, 866, 867, 49), (883, 882, 27, 49), (887, 886, 28, 49), (891, 890, 29, 49), (876, 875, 26, 49), (903, 902, 32, 49), (907, 906, 33, 49), (895, 894, 30, 49), (911, 910, 34, 49), (872, 870, 871, 49), (915, 913, 914, 49), (919, 917, 918, 49), (923, 921, 922, 49), (927, 925, 926, 49), (931, 929, 930, 49), (943, 942, 36, 49), (947, 946, 37, 49), (939, 938, 35, 49), (935, 933, 934, 49), (951, 949, 950, 49), (955, 953, 954, 49), (959, 957, 958, 49), (963, 961, 962, 49), (967, 965, 966, 49), (971, 969, 970, 49), (983, 982, 39, 49), (987, 986, 40, 49), (979, 978, 38, 49), (975, 973, 974, 49), (991, 989, 990, 49), (995, 993, 994, 49), (999, 997, 998, 49)]
-- places in lw_tbl: where each field of each class is laid
def qLyL : List (List Nat) := [[75, 77, 79], [93, 95, 97, 99], [111, 113], [124, 126], [138], [150, 152, 154], [169, 171, 173, 175, 177, 179, 181, 183, 185, 187, 189, 191], [771, 773, 775, 777, 779, 781, 783, 785, 787, 789, 791, 793, 795, 797, 799, 801, 803, 805, 807, 809, 811, 813, 815, 817, 819]]
def qOff : Nat := 41
end
section
/-! OUR PURE MACHINE: the code of the class and of the reference over a heap of ints of fixed shape. Behind 02.tables. -/
abbrev PV : Type := Int32 ⊕ Nat
abbrev PL : Type := List (Nat × PV)
abbrev HP : Type := Nat → Nat → Int32
/-- a configuration: pc, locals, operand stack, heap -/
abbrev PG : Type := Nat × PL × List PV × HP
/-- an end: returned (nothing or an int) | threw (number of the exception's class), and the heap -/
abbrev PO : Type := (Option Int32 ⊕ Nat) × HP
/-- a step: on in the method | its end | a call (callee, arguments, what lies below them) -/
abbrev PR : Type := Option (PG ⊕ (PO ⊕ (Nat × List PV × List PV)))
def hu (h : HP) (o k : Nat) (v : Int32) : HP := fun a b => if a = o then (if b = k then v else h a b) else h a b
theorem hu_same {h : HP} {o k : Nat} {v : Int32} : hu h o k v o k = v := by simp [hu]
theorem hu_o {h : HP} {o k a b : Nat} {v : Int32} (ha : a ≠ o) : hu h o k v a b = h a b := by simp [hu, ha]
theorem hu_k {h : HP} {o k a b : Nat} {v : Int32} (hb : b ≠ k) : hu h o k v a b = h a b := by simp only [hu]; split <;> simp [hb]
def pl_put (l : PL) (i : Nat) (v : PV) : PL := (i, v) :: l.filter (fun q => !(q.1 == i))
def pl_in : Nat → List PV → PL
  | _, [] => []
  | i, v :: t => (i, v) :: pl_in (i + 1) t
def pl_at : PL → Nat → Option PV
  | [], _ => none
  | (i, v) :: t, k => if i = k then some v else pl_at t k
def pe_at : List PE → Nat → Option (Instr × Nat × List Nat)
  | [], _ => none
  | (i, v) :: t, k => if i = k then some v else pe_at t k
def p_br {α : Type} (c : ClassFile.Cond) (x y : Int32) (A B : α) : α := match c with
  | .eq => if x = y then A else B
  | .ne => if x = y then B else A
  | .lt => if x < y then A else B
  | .ge => if y ≤ x then A else B
  | .gt => if y < x then A else B
  | .le => if x ≤ y then A else B
def p_lk : List Int → List Nat → Nat → Int → Nat
  | k :: ks, g :: gs, d, x => if x = k then g else p_lk ks gs d x
  | _, _, d, _ => d
def qMt (j : Nat) : PM := qMtL.getD j ((⟨"", "", ""⟩ : MethodName), ⟨#[]⟩, 0, none, false, 99, 0, 0, 0)
def qmY (j : Nat) : MethodName := (qMt j).1
def qmB (j : Nat) : ByteArray := (qMt j).2.1
def qmL (j : Nat) : Nat := (qMt j).2.2.1
def qmR (j : Nat) : Option FieldType := (qMt j).2.2.2.1
def qmS (j : Nat) : Bool := (qMt j).2.2.2.2.1
def qmC (j : Nat) : Nat := (qMt j).2.2.2.2.2.1
def qmN (j : Nat) : Nat := (qMt j).2.2.2.2.2.2.1
def qmF (j : Nat) : Nat := (qMt j).2.2.2.2.2.2.2.1
def qmW (j : Nat) : Nat := (qMt j).2.2.2.2.2.2.2.2
/-- the receiver is of the callee's class (a static callee: nothing) -/
def p_recv (j' : Nat) (as : List PV) : Bool := qmS j' || match as with
  | .inr o :: _ => match qSh o with
    | some (.inl c) => c == qmC j'
    | _ => false
  | _ => false
def p_int (pc n : Nat) (l : PL) (h : HP) (t : List PV) (x : Int32) : PR := some (.inl (pc + n, l, .inl x :: t, h))
def p1i (j : Nat) (i : Instr) (n : Nat) (ax : List Nat) (pc : Nat) (l : PL) (st : List PV) (h : HP) : PR := match i with
  | .iconst v => p_int pc n l h st (Int32.ofInt v)
  | .bipush v => p_int pc n l h st (Int8.ofInt v).toInt32
  | .sipush v => p_int pc n l h st (Int16.ofInt v).toInt32
  | .iload_n k => match pl_at l k.val with
    | some (.inl x) => p_int pc n l h st x
    | _ => none
  | .iload k => match pl_at l k with
    | some (.inl x) => p_int pc n l h st x
    | _ => none
  | .aload_n k => match pl_at l k.val with
    | some (.inr x) => some (.inl (pc + n, l, .inr x :: st, h))
    | _ => none
  | .istore_n k => match st with
    | .inl x :: t => if k.val < qmL j then some (.inl (pc + n, pl_put l k.val (.inl x), t, h)) else none
    | _ => none
  | .istore k => match st with
    | .inl x :: t => if k < qmL j then some (.inl (pc + n, pl_put l k (.inl x), t, h)) else none
    | _ => none
  | .iinc k v => match pl_at l k with
    | some (.inl x) => if k < qmL j then some (.inl (pc + n, pl_put l k (.inl (x + Int32.ofInt v)), st, h)) else none
    | _ => none
  | .dup => match st with
    | v :: t => some (.inl (pc + n, l, v :: v :: t, h))
    | _ => none
  | .dup2 => match st with
    | v :: w :: t => some (.inl (pc + n, l, v :: w :: v :: w :: t, h))
    | _ => none
  | .iadd => match st with
    | .inl y :: .inl x :: t => p_int pc n l h t (x + y)
    | _ => none
  | .isub => match st with
    | .inl y :: .inl x :: t => p_int pc n l h t (x - y)
    | _ => none
  | .imul => match st with
    | .inl y :: .inl x :: t => p_int pc n l h t (x * y)
    | _ => none
  | .idiv => match st with
    | .inl y :: .inl x :: t => if y = 0 then none else p_int pc n l h t (x / y)
    | _ => none
  | .irem => match st with
    | .inl y :: .inl x :: t => if y = 0 then none else p_int pc n l h t (x - x / y * y)
    | _ => none
  | .ineg => match st with
    | .inl x :: t => p_int pc n l h t (-x)
    | _ => none
  | .ifCond c _ => match st, ax with
    | .inl x :: t, [g] => p_br c x 0 (some (.inl (g, l, t, h))) (some (.inl (pc + n, l, t, h)))
    | _, _ => none
  | .if_icmp c _ => match st, ax with
    | .inl y :: .inl x :: t, [g] => p_br c x y (some (.inl (g, l, t, h))) (some (.inl (pc + n, l, t, h)))
    | _, _ => none
  | .goto _ => match ax with
    | [g] => some (.inl (g, l, st, h))
    | _ => none
  | .tableswitch _ lo hi _ => match st, ax with
    | .inl x :: t, g :: gs => if x.toInt < lo ∨ hi < x.toInt then some (.inl (g, l, t, h)) else match gs[(x.toInt - lo).toNat]? with
      | some g' => some (.inl (g', l, t, h))
      | none => none
    | _, _ => none
  | .lookupswitch _ ps => match st, ax with
    | .inl x :: t, g :: gs => some (.inl (p_lk (ps.toList.map (·.1)) gs g x.toInt, l, t, h))
    | _, _ => none
  | .getfield _ => match st, ax with
    | .inr o :: t, [ci, k] => match qSh o with
      | some (.inl c') => if c' = ci then (match qRf o k with
        | some r => some (.inl (pc + n, l, .inr r :: t, h))
        | none => p_int pc n l h t (h o k)) else none
      | _ => none
    | _, _ => none
  | .putfield _ => match st, ax with
    | .inl v :: .inr o :: t, [ci, k, z] => match qSh o with
      | some (.inl c') => if c' = ci ∧ qRf o k = none ∧ (z = 0 ∨ v = 0 ∨ v = 1) then some (.inl (pc + n, l, t, hu h o k v)) else none
      | _ => none
    | _, _ => none
  | .getstatic _ => match ax with
    | [g] => some (.inl (pc + n, l, .inr g :: st, h))
    | _ => none
  | .iaload => match st with
    | .inl i :: .inr a :: t => match qSh a with
      | some (.inr (0, m)) => if i < 0 ∨ m ≤ i.toNatClampNeg then none else p_int pc n l h t (h a i.toNatClampNeg)
      | some (.inr (3, m)) => if i < 0 ∨ m ≤ i.toNatClampNeg then none else p_int pc n l h t (qGf i.toNatClampNeg)
      | _ => none
    | _ => none
  | .baload => match st with
    | .inl i :: .inr a :: t => match qSh a with
      | some (.inr (1, m)) => if i < 0 ∨ m ≤ i.toNatClampNeg then none else p_int pc n l h t (h a i.toNatClampNeg)
      | _ => none
    | _ => none
  | .aaload => match st with
    | .inl i :: .inr a :: t => match qSh a with
      | some (.inr (2, m)) => if i < 0 ∨ m ≤ i.toNatClampNeg then none else (match qRf a i.toNatClampNeg with
        | some r => some (.inl (pc + n, l, .inr r :: t, h))
        | none => none)
      | _ => none
    | _ => none
  | .iastore => match st with
    | .inl x :: .inl i :: .inr a :: t => match qSh a with
      | some (.inr (0, m)) => if i < 0 ∨ m ≤ i.toNatClampNeg then none else some (.inl (pc + n, l, t, hu h a i.toNatClampNeg x))
      | _ => none
    | _ => none
  | .bastore => match st with
    | .inl x :: .inl i :: .inr a :: t => match qSh a with
      | some (.inr (1, m)) => if i < 0 ∨ m ≤ i.toNatClampNeg then none else if x = 0 ∨ x = 1 then some (.inl (pc + n, l, t, hu h a i.toNatClampNeg x)) else none
      | _ => none
    | _ => none
  | .ireturn => match st, ax with
    | [.inl v], [z] => if z = 0 ∨ v = 0 ∨ v = 1 then some (.inr (.inl (.inl (some v), h))) else none
    | _, _ => none
  | .return_ => match st with
    | [] => some (.inr (.inl (.inl none, h)))
    | _ => none
  | .invokevirtual _ => match ax with
    | [j', na] => if na ≤ st.length ∧ st.length ≤ na + 8 ∧ p_recv j' (st.take na).reverse = true then some (.inr (.inr (j', (st.take na).reverse, st.drop na))) else none
    | _ => none
  | .invokestatic _ => match ax with
    | [0, _] => match st with
      | .inl x :: t => if t.length ≤ 7 then p_int pc n l h t (if 0 ≤ x then x else 0 - x) else none
      | _ => none
    | [1, _] => match st with
      | .inl y :: .inl x :: t => if t.length ≤ 8 then p_int pc n l h t (if y < x then y else x) else none
      | _ => none
    | [j', na] => if na ≤ st.length ∧ st.length ≤ na + 8 then some (.inr (.inr (j', (st.take na).reverse, st.drop na))) else none
    | _ => none
  | .new _ => match st, ax with
    | [], [x, _] => some (.inr (.inl (.inr x, h)))
    | _, _ => none
  | _ => none
def p1 (j : Nat) (c : PG) : PR := match pe_at (qCod j) c.1 with
  | some (i, n, ax) => p1i j i n ax c.1 c.2.1 c.2.2.1 c.2.2.2
  | none => none
def pm : Nat → Nat → PG → Option PO
  | 0, _, _ => none
  | n + 1, j, c => match p1 j c with
    | some (.inl c') => pm n j c'
    | some (.inr (.inl r)) => some r
    | some (.inr (.inr (j', as, t))) => match pm n j' (0, pl_in 0 as, [], c.2.2.2) with
      | some (.inl v, h') => pm n j (c.1 + 3, c.2.1, (v.map Sum.inl).toList ++ t, h')
      | _ => none
    | none => none
/-- from this configuration method j comes to that end -/
def Ev (j : Nat) (c : PG) (r : PO) : Prop := ∃ n, pm n j c = some r
/-- a whole call -/
def Ec (j : Nat) (as : List PV) (h : HP) (r : PO) : Prop := Ev j (0, pl_in 0 as, [], h) r
theorem pm_mono : ∀ (n j : Nat) (c : PG) (r : PO), pm n j c = some r → pm (n + 1) j c = some r := by
  intro n
  induction n with
  | zero => intro j c r h; cases h
  | succ n ih =>
    intro j c r h
    rw [pm] at h ⊢
    cases hp : p1 j c with
    | none => rw [hp] at h; cases h
    | some z =>
      rw [hp] at h
      rcases z with c' | r' | ⟨j', as, t⟩
      · exact ih _ _ _ h
      · exact h
      · dsimp only at h ⊢
        cases hq : pm n j' (0, pl_in 0 as, [], c.2.2.2) with
        | none => rw [hq] at h; cases h
        | some y =>
          rw [hq] at h
          rw [ih _ _ _ hq]
          obtain ⟨o, h'⟩ := y
          cases o with
          | inl v => exact ih _ _ _ h
          | inr x => cases h
theorem pm_le {n m j : Nat} {c : PG} {r : PO} (h : pm n j c = some r) (hm : n ≤ m) : pm m j c = some r := by
  induction hm with
  | refl => exact h
  | step _ ih => exact pm_mono _ _ _ _ ih
theorem e_step {j : Nat} {c c' : PG} {r : PO} (h : p1 j c = some (.inl c')) (k : Ev j c' r) : Ev j c r := by
  obtain ⟨n, hn⟩ := k
  exact ⟨n + 1, by rw [pm, h]; exact hn⟩
theorem e_ret {j : Nat} {c : PG} {r : PO} (h : p1 j c = some (.inr (.inl r))) : Ev j c r := ⟨1, by rw [pm, h]⟩
theorem e_call {j j' : Nat} {c : PG} {as t : List PV} {v : Option Int32} {h' : HP} {r : PO} (h : p1 j c = some (.inr (.inr (j', as, t)))) (q : Ec j' as c.2.2.2 (.inl v, h')) (k : Ev j (c.1 + 3, c.2.1, (v.map Sum.inl).toList ++ t, h') r) : Ev j c r := by
  obtain ⟨n, hn⟩ := q
  obtain ⟨m, hm⟩ := k
  refine ⟨max n m + 1, ?_⟩
  rw [pm, h]
  dsimp only
  rw [pm_le hn (Nat.le_max_left n m)]
  exact pm_le hm (Nat.le_max_right n m)
theorem e_if {j : Nat} {c : PG} {A B : PR} {r : PO} {P : Prop} [Decidable P] (h : p1 j c = if P then A else B) (ht : P → p1 j c = A → Ev j c r) (hf : ¬ P → p1 j c = B → Ev j c r) : Ev j c r := by
  by_cases hP : P
  · exact ht hP (by rw [h, if_pos hP])
  · exact hf hP (by rw [h, if_neg hP])
end
section
/-! CHECKS OF THE TABLES: each row of code is what the bytes decode to, and what it resolves to is what the words say. -/
def q_own (j : Nat) : String := (qmY j).cls
def qTyL : List (Nat → FieldType) := [qT0, qT1, qT2, qT3, qT4, qT5, qT6, qT7]
def qTy (c k : Nat) : FieldType := (qTyL.getD c (fun _ => .int)) k
def qNo : vw_C := ("", fun _ => ("", "", "", false), 0)
def qC (c : Nat) : vw_C := qCl.getD c qNo
def q_tg (pc : Nat) (off : Int) (g : Nat) : Bool := decide ((pc : Int) + off = (g : Int))
def q_tgs (pc : Nat) : List Int → List Nat → Bool
  | [], [] => true
  | o :: os, g :: gs => q_tg pc o g && q_tgs pc os gs
  | _, _ => false
def q_lnk (j idx j' how : Nat) : Bool := qLkL.any (fun e => e.1 == q_own j && e.2.1 == idx && e.2.2.1 == j' && e.2.2.2.2 == how)
def q_cal (j j' na : Nat) : Bool := na == qmN j' && decide (j' < 137) && decide (qmF j' + 1 ≤ qmF j) && decide (8 + (qmL j' + 11) + qmW j' ≤ qmW j)
def q_okc (j : Nat) (pc : Nat) (i : Instr) (n : Nat) (ax : List Nat) : Bool := match i with
  | .iconst _ => n == 1
  | .bipush _ => n == 2
  | .sipush _ => n == 3
  | .iload_n _ => n == 1
  | .iload _ => n == 2
  | .aload_n _ => n == 1
  | .istore_n _ => n == 1
  | .istore _ => n == 2
  | .iinc _ _ => n == 3
  | .dup => n == 1
  | .dup2 => n == 1
  | .iadd => n == 1
  | .isub => n == 1
  | .imul => n == 1
  | .idiv => n == 1
  | .irem => n == 1
  | .ineg => n == 1
  | .ifCond _ off => n == 3 && (match ax with | [g] => q_tg pc off g | _ => false)
  | .if_icmp _ off => n == 3 && (match ax with | [g] => q_tg pc off g | _ => false)
  | .goto off => n == 3 && (match ax with | [g] => q_tg pc off g | _ => false)
  | .tableswitch d lo hi offs => decide (lo = lo ∧ hi = hi) && (match ax with | g :: gs => q_tg pc d g && q_tgs pc offs.toList gs | _ => false)
  | .lookupswitch d ps => (ps.toList.zip (ps.toList.drop 1)).all (fun (a, next) => a.1 < next.1) && (match ax with | g :: gs => q_tg pc d g && q_tgs pc (ps.toList.map (·.2)) gs | _ => false)
  | .getfield idx => n == 3 && (match ax with | [c, k] => qFtL.any (fun e => e.1 == c && e.2.1 == idx && e.2.2.1 == k) && qmC j == c | _ => false)
  | .putfield idx => n == 3 && (match ax with | [c, k, z] => qFtL.any (fun e => e.1 == c && e.2.1 == idx && e.2.2.1 == k) && qmC j == c && ((z == 0 && decide (qTy c k = .int)) || (z == 1 && decide (qTy c k = .boolean))) && !((qC c).2.1 k).2.2.2 | _ => false)
  | .getstatic idx => n == 3 && (match ax with | [g] => g == qGS && ((q_own j == "CashRecycler" && idx == 262) || (q_own j == "CashRecycler$Track" && idx == 26)) | _ => false)
  | .iaload => n == 1
  | .baload => n == 1
  | .aaload => n == 1
  | .iastore => n == 1
  | .bastore => n == 1
  | .ireturn => n == 1 && (match ax with | [z] => (z == 0 && decide (qmR j = some .int)) || (z == 1 && decide (qmR j = some .boolean)) | _ => false)
  | .return_ => n == 1 && decide (qmR j = none)
  | .invokevirtual idx => n == 3 && (match ax with | [j', na] => q_lnk j idx j' 0 && q_cal j j' na && !qmS j' | _ => false)
  | .invokestatic idx => n == 3 && (match ax with | [j', na] => (q_lnk j idx j' 1 || q_lnk j idx j' 2) && q_cal j j' na && qmS j' | _ => false)
  | .new idx => n == 3 && (match ax with | [x, k] => qXtL.any (fun e => e.1 == q_own j && e.2.1 == idx && e.2.2.1 == k && e.2.2.2 == x) && decide (decode (qmB j) (pc + 3) = .ok (.dup, 1)) && decide (decode (qmB j) (pc + 4) = .ok (.invokespecial k, 3)) && decide (decode (qmB j) (pc + 7) = .ok (.athrow, 1)) && decide (6 ≤ qmF j ∧ 90 ≤ qmW j) | _ => false)
  | _ => true
def q_ok (j : Nat) (q : PE) : Bool := decide (decode (qmB j) q.1 = .ok (q.2.1, q.2.2.1)) && q_okc j q.1 q.2.1 q.2.2.1 q.2.2.2
theorem q_ok0 : (qCod 0).all (q_ok 0) = true := by decide +kernel
theorem q_ok1 : (qCod 1).all (q_ok 1) = true := by decide +kernel
theorem q_ok2 : (qCod 2).all (q_ok 2) = true := by decide +kernel
theorem q_ok3 : (qCod 3).all (q_ok 3) = true := by decide +kernel
theorem q_ok4 : (qCod 4).all (q_ok 4) = true := by decide +kernel
theorem q_ok5 : (qCod 5).all (q_ok 5) = true := by decide +kernel
theorem q_ok6 : (qCod 6).all (q_ok 6) = true := by decide +kernel
theorem q_ok7 : (qCod 7).all (q_ok 7) = true := by decide +kernel
theorem q_ok8 : (qCod 8).all (q_ok 8) = true := by decide +kernel
theorem q_ok9 : (qCod 9).all (q_ok 9) = true := by decide +kernel
theorem q_ok10 : (qCod 10).all (q_ok 10) = true := by decide +kernel
theorem q_ok11 : (qCod 11).all (q_ok 11) = true := by decide +kernel
theorem q_ok12 : (qCod 12).all (q_ok 12) = true := by decide +kernel
theorem q_ok13 : (qCod 13).all (q_ok 13) = true := by decide +kernel
theorem q_ok14 : (qCod 14).all (q_ok 14) = true := by decide +kernel
theorem q_ok15 : (qCod 15).all (q_ok 15) = true := by decide +kernel
theorem q_ok16 : (qCod 16).all (q_ok 16) = true := by decide +kernel
theorem q_ok17 : (qCod 17).all (q_ok 17) = true := by decide +kernel
theorem q_ok18 : (qCod 18).all (q_ok 18) = true := by decide +kernel
theorem q_ok19 : (qCod 19).all (q_ok 19) = true := by decide +kernel
theorem q_ok20 : (qCod 20).all (q_ok 20) = true := by decide +kernel
theorem q_ok21 : (qCod 21).all (q_ok 21) = true := by decide +kernel
theorem q_ok22 : (qCod 22).all (q_ok 22) = true := by decide +kernel
theorem q_ok23 : (qCod 23).all (q_ok 23) = true := by decide +kernel
theorem q_ok24 : (qCod 24).all (q_ok 24) = true := by decide +kernel
theorem q_ok25 : (qCod 25).all (q_ok 25) = true := by decide +kernel
theorem q_ok26 : (qCod 26).all (q_ok 26) = true := by decide +kernel
theorem q_ok27 : (qCod 27).all (q_ok 27) = true := by decide +kernel
theorem q_ok28 : (qCod 28).all (q_ok 28) = true := by decide +kernel
theorem q_ok29 : (qCod 29).all (q_ok 29) = true := by decide +kernel
theorem q_ok30 : (qCod 30).all (q_ok 30) = true := by decide +kernel
theorem q_ok31 : (qCod 31).all (q_ok 31) = true := by decide +kernel
theorem q_ok32 : (qCod 32).all (q_ok 32) = true := by decide +kernel
theorem q_ok33 : (qCod 33).all (q_ok 33) = true := by decide +kernel
theorem q_ok34 : (qCod 34).all (q_ok 34) = true := by decide +kernel
theorem q_ok35 : (qCod 35).all (q_ok 35) = true := by decide +kernel
theorem q_ok36 : (qCod 36).all (q_ok 36) = true := by decide +kernel
theorem q_ok37 : (qCod 37).all (q_ok 37) = true := by decide +kernel
theorem q_ok38 : (qCod 38).all (q_ok 38) = true := by decide +kernel
theorem q_ok39 : (qCod 39).all (q_ok 39) = true := by decide +kernel
theorem q_ok40 : (qCod 40).all (q_ok 40) = true := by decide +kernel
theorem q_ok41 : (qCod 41).all (q_ok 41) = true := by decide +kernel
theorem q_ok42 : (qCod 42).all (q_ok 42) = true := by decide +kernel
theorem q_ok43 : (qCod 43).all (q_ok 43) = true := by decide +kernel
theorem q_ok44 : (qCod 44).all (q_ok 44) = true := by decide +kernel
theorem q_ok45 : (qCod 45).all (q_ok 45) = true := by decide +kernel
theorem q_ok46 : (qCod 46).all (q_ok 46) = true := by decide +kernel
theorem q_ok47 : (qCod 47).all (q_ok 47) = true := by decide +kernel
theorem q_ok48 : (qCod 48).all (q_ok 48) = true := by decide +kernel
theorem q_ok49 : (qCod 49).all (q_ok 49) = true := by decide +kernel
theorem q_ok50 : (qCod 50).all (q_ok 50) = true := by decide +kernel
theorem q_ok51 : (qCod 51).all (q_ok 51) = true := by decide +kernel
theorem q_ok52 : (qCod 52).all (q_ok 52) = true := by decide +kernel
theorem q_ok53 : (qCod 53).all (q_ok 53) = true := by decide +kernel
theorem q_ok54 : (qCod 54).all (q_ok 54) = true := by decide +kernel
theorem q_ok55 : (qCod 55).all (q_ok 55) = true := by decide +kernel
theorem q_ok56 : (qCod 56).all (q_ok 56) = true := by decide +kernel
theorem q_ok57 : (qCod 57).all (q_ok 57) = true := by decide +kernel
theorem q_ok58 : (qCod 58).all (q_ok 58) = true := by decide +kernel
theorem q_ok59 : (qCod 59).all (q_ok 59) = true := by decide +kernel
theorem q_ok60 : (qCod 60).all (q_ok 60) = true := by decide +kernel
theorem q_ok61 : (qCod 61).all (q_ok 61) = true := by decide +kernel
theorem q_ok62 : (qCod 62).all (q_ok 62) = true := by decide +kernel
theorem q_ok63 : (qCod 63).all (q_ok 63) = true := by decide +kernel
theorem q_ok64 : (qCod 64).all (q_ok 64) = true := by decide +kernel
theorem q_ok65 : (qCod 65).all (q_ok 65) = true := by decide +kernel
theorem q_ok66 : (qCod 66).all (q_ok 66) = true := by decide +kernel
theorem q_ok67 : (qCod 67).all (q_ok 67) = true := by decide +kernel
theorem q_ok68 : (qCod 68).all (q_ok 68) = true := by decide +kernel
theorem q_ok69 : (qCod 69).all (q_ok 69) = true := by decide +kernel
theorem q_ok70 : (qCod 70).all (q_ok 70) = true := by decide +kernel
theorem q_ok71 : (qCod 71).all (q_ok 71) = true := by decide +kernel
theorem q_ok72 : (qCod 72).all (q_ok 72) = true := by decide +kernel
theorem q_ok73 : (qCod 73).all (q_ok 73) = true := by decide +kernel
theorem q_ok74 : (qCod 74).all (q_ok 74) = true := by decide +kernel
theorem q_ok75 : (qCod 75).all (q_ok 75) = true := by decide +kernel
theorem q_ok76 : (qCod 76).all (q_ok 76) = true := by decide +kernel
theorem q_ok77 : (qCod 77).all (q_ok 77) = true := by decide +kernel
theorem q_ok78 : (qCod 78).all (q_ok 78) = true := by decide +kernel
theorem q_ok79 : (qCod 79).all (q_ok 79) = true := by decide +kernel
theorem q_ok80 : (qCod 80).all (q_ok 80) = true := by decide +kernel
theorem q_ok81 : (qCod 81).all (q_ok 81) = true := by decide +kernel
theorem q_ok82 : (qCod 82).all (q_ok 82) = true := by decide +kernel
theorem q_ok83 : (qCod 83).all (q_ok 83) = true := by decide +kernel
theorem q_ok84 : (qCod 84).all (q_ok 84) = true := by decide +kernel
theorem q_ok85 : (qCod 85).all (q_ok 85) = true := by decide +kernel
theorem q_ok86 : (qCod 86).all (q_ok 86) = true := by decide +kernel
theorem q_ok87 : (qCod 87).all (q_ok 87) = true := by decide +kernel
theorem q_ok88 : (qCod 88).all (q_ok 88) = true := by decide +kernel
theorem q_ok89 : (qCod 89).all (q_ok 89) = true := by decide +kernel
theorem q_ok90 : (qCod 90).all (q_ok 90) = true := by decide +kernel
theorem q_ok91 : (qCod 91).all (q_ok 91) = true := by decide +kernel
theorem q_ok92 : (qCod 92).all (q_ok 92) = true := by decide +kernel
theorem q_ok93 : (qCod 93).all (q_ok 93) = true := by decide +kernel
theorem q_ok94 : (qCod 94).all (q_ok 94) = true := by decide +kernel
theorem q_ok95 : (qCod 95).all (q_ok 95) = true := by decide +kernel
theorem q_ok96 : (qCod 96).all (q_ok 96) = true := by decide +kernel
theorem q_ok97 : (qCod 97).all (q_ok 97) = true := by decide +kernel
theorem q_ok98 : (qCod 98).all (q_ok 98) = true := by decide +kernel
theorem q_ok99 : (qCod 99).all (q_ok 99) = true := by decide +kernel
theorem q_ok100 : (qCod 100).all (q_ok 100) = true := by decide +kernel
theorem q_ok101 : (qCod 101).all (q_ok 101) = true := by decide +kernel
theorem q_ok102 : (qCod 102).all (q_ok 102) = true := by decide +kernel
theorem q_ok103 : (qCod 103).all (q_ok 103) = true := by decide +kernel
theorem q_ok104 : (qCod 104).all (q_ok 104) = true := by decide +kernel
theorem q_ok105 : (qCod 105).all (q_ok 105) = true := by decide +kernel
theorem q_ok106 : (qCod 106).all (q_ok 106) = true := by decide +kernel
theorem q_ok107 : (qCod 107).all (q_ok 107) = true := by decide +kernel
theorem q_ok108 : (qCod 108).all (q_ok 108) = true := by decide +kernel
theorem q_ok109 : (qCod 109).all (q_ok 109) = true := by decide +kernel
theorem q_ok110 : (qCod 110).all (q_ok 110) = true := by decide +kernel
theorem q_ok111 : (qCod 111).all (q_ok 111) = true := by decide +kernel
theorem q_ok112 : (qCod 112).all (q_ok 112) = true := by decide +kernel
theorem q_ok113 : (qCod 113).all (q_ok 113) = true := by decide +kernel
theorem q_ok114 : (qCod 114).all (q_ok 114) = true := by decide +kernel
theorem q_ok115 : (qCod 115).all (q_ok 115) = true := by decide +kernel
theorem q_ok116 : (qCod 116).all (q_ok 116) = true := by decide +kernel
theorem q_ok117 : (qCod 117).all (q_ok 117) = true := by decide +kernel
theorem q_ok118 : (qCod 118).all (q_ok 118) = true := by decide +kernel
theorem q_ok119 : (qCod 119).all (q_ok 119) = true := by decide +kernel
theorem q_ok120 : (qCod 120).all (q_ok 120) = true := by decide +kernel
theorem q_ok121 : (qCod 121).all (q_ok 121) = true := by decide +kernel
theorem q_ok122 : (qCod 122).all (q_ok 122) = true := by decide +kernel
theorem q_ok123 : (qCod 123).all (q_ok 123) = true := by decide +kernel
theorem q_ok124 : (qCod 124).all (q_ok 124) = true := by decide +kernel
theorem q_ok125 : (qCod 125).all (q_ok 125) = true := by decide +kernel
theorem q_ok126 : (qCod 126).all (q_ok 126) = true := by decide +kernel
theorem q_ok127 : (qCod 127).all (q_ok 127) = true := by decide +kernel
theorem q_ok128 : (qCod 128).all (q_ok 128) = true := by decide +kernel
theorem q_ok129 : (qCod 129).all (q_ok 129) = true := by decide +kernel
theorem q_ok130 : (qCod 130).all (q_ok 130) = true := by decide +kernel
theorem q_ok131 : (qCod 131).all (q_ok 131) = true := by decide +kernel
theorem q_ok132 : (qCod 132).all (q_ok 132) = true := by decide +kernel
theorem q_ok133 : (qCod 133).all (q_ok 133) = true := by decide +kernel
theorem q_ok134 : (qCod 134).all (q_ok 134) = true := by decide +kernel
theorem q_ok135 : (qCod 135).all (q_ok 135) = true := by decide +kernel
theorem q_ok136 : (qCod 136).all (q_ok 136) = true := by decide +kernel
end
section
/-! WORDS: what the tables say of the methods, fields and links that the code rows name. -/
def qFtOk (e : Nat × Nat × Nat × Nat) : Bool := decide (e.2.2.1 < (qC e.1).2.2) && decide (e.1 < 8) && decide (lw_tbl[e.2.2.2 + 41]? = some (.fieldLink (qC e.1).1 e.2.1 ((qC e.1).2.1 e.2.2.1).1 ((qC e.1).2.1 e.2.2.1).2.1 ((qC e.1).2.1 e.2.2.1).2.2.1))
theorem qFt_ok : qFtL.all qFtOk = true := by decide +kernel
def qLkOk (e : String × Nat × Nat × Nat × Nat) : Bool := match e.2.2.2.2 with
  | 2 => decide (e.1 = "CashRecycler$Magazine" ∧ e.2.1 = 18 ∧ e.2.2.1 = 29)
  | _ => decide (lw_tbl[e.2.2.2.1 + 41]? = some (.methodLink e.1 e.2.1 (qmY e.2.2.1)))
theorem qLk_ok : qLkL.all qLkOk = true := by decide +kernel
def qWp (j : Nat) : Nat × Nat × Nat × Nat := qWpL.getD j (0, 0, 0, 0)
def qWpOk (j : Nat) : Bool := decide (lw_tbl[(qWp j).1]? = some (.code (qmY j) (qmB j) (qmL j) (qmR j))) && decide (lw_tbl[(qWp j).2.2.2]? = some (.initialized (q_own j))) &&
  (if qmS j = true then decide (lw_tbl[(qWp j).2.1]? = some (.static (qmY j))) else decide (lw_tbl[(qWp j).2.1]? = some (.instanceMethod (qmY j))) && decide (lw_tbl[(qWp j).2.2.1]? = some (.selects (q_own j) (qmY j) (qmY j))) && decide (qmC j < 8) && decide ((qC (qmC j)).1 = q_own j)) &&
  decide ((qmY j).cls ≠ "java/lang/invoke/MethodHandle" ∧ (qmY j).cls ≠ "java/lang/invoke/VarHandle") && decide ((parseMethodDescriptor (qmY j).desc).map (fun d => d.parameters.length) = some (if qmS j = true then qmN j else qmN j - 1)) && plainName (qmY j).cls && decide (qmS j = true ∨ 1 ≤ qmN j) && decide (qmN j ≤ qmL j)
def qRg (a n : Nat) : List Nat := (List.range n).map (· + a)
theorem qWp_ok2 : (qRg 2 15).all qWpOk = true := by decide +kernel
theorem qWp_ok17 : (qRg 17 15).all qWpOk = true := by decide +kernel
theorem qWp_ok32 : (qRg 32 15).all qWpOk = true := by decide +kernel
theorem qWp_ok47 : (qRg 47 15).all qWpOk = true := by decide +kernel
theorem qWp_ok62 : (qRg 62 15).all qWpOk = true := by decide +kernel
theorem qWp_ok77 : (qRg 77 15).all qWpOk = true := by decide +kernel
theorem qWp_ok92 : (qRg 92 15).all qWpOk = true := by decide +kernel
theorem qWp_ok107 : (qRg 107 15).all qWpOk = true := by decide +kernel
theorem qWp_ok122 : (qRg 122 15).all qWpOk = true := by decide +kernel
theorem qWp_ok {j : Nat} (h2 : 2 ≤ j) (h : j < 137) : qWpOk j = true := by
  have key : ∀ a n, (qRg a n).all qWpOk = true → a ≤ j → j < a + n → qWpOk j = true := fun a n h h1 h3 => List.all_eq_true.mp h j (List.mem_map.mpr ⟨j - a, List.mem_range.mpr (by omega), by omega⟩)
  by_cases c2 : j < 17
  · exact key 2 15 qWp_ok2 (by omega) (by omega)
  by_cases c17 : j < 32
  · exact key 17 15 qWp_ok17 (by omega) (by omega)
  by_cases c32 : j < 47
  · exact key 32 15 qWp_ok32 (by omega) (by omega)
  by_cases c47 : j < 62
  · exact key 47 15 qWp_ok47 (by omega) (by omega)
  by_cases c62 : j < 77
  · exact key 62 15 qWp_ok62 (by omega) (by omega)
  by_cases c77 : j < 92
  · exact key 77 15 qWp_ok77 (by omega) (by omega)
  by_cases c92 : j < 107
  · exact key 92 15 qWp_ok92 (by omega) (by omega)
  by_cases c107 : j < 122
  · exact key 107 15 qWp_ok107 (by omega) (by omega)
  exact key 122 15 qWp_ok122 (by omega) (by omega)
def qLyOk (c : Nat) : Bool := (List.range (qC c).2.2).all (fun k => decide (lw_tbl[(qLyL.getD c []).getD k 0]? = some (u_lay (qC c).1 (qC c).2.1 k)) && decide (parseFieldDescriptor ((qC c).2.1 k).2.2.1 = some (qTy c k))) && (List.range (qC c).2.2).all (fun a => (List.range (qC c).2.2).all (fun b => a == b || decide (((qC c).2.1 a).2.1 ≠ ((qC c).2.1 b).2.1)))
theorem qLy_ok : (List.range 8).all qLyOk = true := by decide +kernel
theorem q_wMin : lw_tbl[442]? = some (.code Lib.Math.min.name Lib.Math.min.code 2 (some .int)) ∧ lw_tbl[441]? = some (.static Lib.Math.min.name) := by decide +kernel
theorem q_wAbs : lw_tbl[293]? = some (.code Lib.Math.abs.name Lib.Math.abs.code 1 (some .int)) ∧ lw_tbl[292]? = some (.static Lib.Math.abs.name) := by decide +kernel
theorem q_wMath : lw_tbl[55]? = some (.initialized "java/lang/Math") := by decide +kernel
theorem q_yMath : qmY 0 = Lib.Math.abs.name ∧ qmY 1 = Lib.Math.min.name := by decide +kernel
/-- the words that a method hands on: those that stay true as tables grow warmer -/
def q_WS : List Cond := lw_tbl.filter goodWord
theorem q_inW {w : Cond} (h : w ∈ lw_tbl) (hg : goodWord w = true) : w ∈ q_WS := List.mem_filter.mpr ⟨h, hg⟩
theorem q_inAt {w : Cond} {i : Nat} (h : lw_tbl[i]? = some w) (hg : goodWord w = true) : w ∈ q_WS := q_inW (List.mem_of_getElem? h) hg
def q_ws (j : Nat) : List Cond := .code (qmY j) (qmB j) (qmL j) (qmR j) :: q_WS
theorem q_goodIn {j : Nat} (h2 : 2 ≤ j) (h : j < 137) {big : List Cond} (hb : ∀ w ∈ q_WS, w ∈ big) : GoodIn big (q_ws j) := by
  have h1 := qWp_ok h2 h
  simp only [qWpOk, Bool.and_eq_true, decide_eq_true_eq] at h1
  intro w hw
  rcases List.mem_cons.mp hw with rfl | hw
  · exact ⟨hb _ (q_inAt h1.1.1.1.1.1.1.1 rfl), Or.inl rfl⟩
  · exact ⟨hb _ hw, good_of_word (List.mem_filter.mp hw).2⟩
theorem qOkAll : (List.range 137).all (fun j => (qCod j).all (q_ok j)) = true := by
  refine List.all_eq_true.mpr fun j hj => ?_
  have hj := List.mem_range.mp hj
  by_cases e0 : j = 0
  · subst e0; exact q_ok0
  by_cases e1 : j = 1
  · subst e1; exact q_ok1
  by_cases e2 : j = 2
  · subst e2; exact q_ok2
  by_cases e3 : j = 3
  · subst e3; exact q_ok3
  by_cases e4 : j = 4
  · subst e4; exact q_ok4
  by_cases e5 : j = 5
  · subst e5; exact q_ok5
  by_cases e6 : j = 6
  · subst e6; exact q_ok6
  by_cases e7 : j = 7
  · subst e7; exact q_ok7
  by_cases e8 : j = 8
  · subst e8; exact q_ok8
  by_cases e9 : j = 9
  · subst e9; exact q_ok9
  by_cases e10 : j = 10
  · subst e10; exact q_ok10
  by_cases e11 : j = 11
  · subst e11; exact q_ok11
  by_cases e12 : j = 12
  · subst e12; exact q_ok12
  by_cases e13 : j = 13
  · subst e13; exact q_ok13
  by_cases e14 : j = 14
  · subst e14; exact q_ok14
  by_cases e15 : j = 15
  · subst e15; exact q_ok15
  by_cases e16 : j = 16
  · subst e16; exact q_ok16
  by_cases e17 : j = 17
  · subst e17; exact q_ok17
  by_cases e18 : j = 18
  · subst e18; exact q_ok18
  by_cases e19 : j = 19
  · subst e19; exact q_ok19
  by_cases e20 : j = 20
  · subst e20; exact q_ok20
  by_cases e21 : j = 21
  · subst e21; exact q_ok21
  by_cases e22 : j = 22
  · subst e22; exact q_ok22
  by_cases e23 : j = 23
  · subst e23; exact q_ok23
  by_cases e24 : j = 24
  · subst e24; exact q_ok24
  by_cases e25 : j = 25
  · subst e25; exact q_ok25
  by_cases e26 : j = 26
  · subst e26; exact q_ok26
  by_cases e27 : j = 27
  · subst e27; exact q_ok27
  by_cases e28 : j = 28
  · subst e28; exact q_ok28
  by_cases e29 : j = 29
  · subst e29; exact q_ok29
  by_cases e30 : j = 30
  · subst e30; exact q_ok30
  by_cases e31 : j = 31
  · subst e31; exact q_ok31
  by_cases e32 : j = 32
  · subst e32; exact q_ok32
  by_cases e33 : j = 33
  · subst e33; exact q_ok33
  by_cases e34 : j = 34
  · subst e34; exact q_ok34
  by_cases e35 : j = 35
  · subst e35; exact q_ok35
  by_cases e36 : j = 36
  · subst e36; exact q_ok36
  by_cases e37 : j = 37
  · subst e37; exact q_ok37
  by_cases e38 : j = 38
  · subst e38; exact q_ok38
  by_cases e39 : j = 39
  · subst e39; exact q_ok39
  by_cases e40 : j = 40
  · subst e40; exact q_ok40
  by_cases e41 : j = 41
  · subst e41; exact q_ok41
  by_cases e42 : j = 42
  · subst e42; exact q_ok42
  by_cases e43 : j = 43
  · subst e43; exact q_ok43
  by_cases e44 : j = 44
  · subst e44; exact q_ok44
  by_cases e45 : j = 45
  · subst e45; exact q_ok45
  by_cases e46 : j = 46
  · subst e46; exact q_ok46
  by_cases e47 : j = 47
  · subst e47; exact q_ok47
  by_cases e48 : j = 48
  · subst e48; exact q_ok48
  by_cases e49 : j = 49
  · subst e49; exact q_ok49
  by_cases e50 : j = 50
  · subst e50; exact q_ok50
  by_cases e51 : j = 51
  · subst e51; exact q_ok51
  by_cases e52 : j = 52
  · subst e52; exact q_ok52
  by_cases e53 : j = 53
  · subst e53; exact q_ok53
  by_cases e54 : j = 54
  · subst e54; exact q_ok54
  by_cases e55 : j = 55
  · subst e55; exact q_ok55
  by_cases e56 : j = 56
  · subst e56; exact q_ok56
  by_cases e57 : j = 57
  · subst e57; exact q_ok57
  by_cases e58 : j = 58
  · subst e58; exact q_ok58
  by_cases e59 : j = 59
  · subst e59; exact q_ok59
  by_cases e60 : j = 60
  · subst e60; exact q_ok60
  by_cases e61 : j = 61
  · subst e61; exact q_ok61
  by_cases e62 : j = 62
  · subst e62; exact q_ok62
  by_cases e63 : j = 63
  · subst e63; exact q_ok63
  by_cases e64 : j = 64
  · subst e64; exact q_ok64
  by_cases e65 : j = 65
  · subst e65; exact q_ok65
  by_cases e66 : j = 66
  · subst e66; exact q_ok66
  by_cases e67 : j = 67
  · subst e67; exact q_ok67
  by_cases e68 : j = 68
  · subst e68; exact q_ok68
  by_cases e69 : j = 69
  · subst e69; exact q_ok69
  by_cases e70 : j = 70
  · subst e70; exact q_ok70
  by_cases e71 : j = 71
  · subst e71; exact q_ok71
  by_cases e72 : j = 72
  · subst e72; exact q_ok72
  by_cases e73 : j = 73
  · subst e73; exact q_ok73
  by_cases e74 : j = 74
  · subst e74; exact q_ok74
  by_cases e75 : j = 75
  · subst e75; exact q_ok75
  by_cases e76 : j = 76
  · subst e76; exact q_ok76
  by_cases e77 : j = 77
  · subst e77; exact q_ok77
  by_cases e78 : j = 78
  · subst e78; exact q_ok78
  by_cases e79 : j = 79
  · subst e79; exact q_ok79
  by_cases e80 : j = 80
  · subst e80; exact q_ok80
  by_cases e81 : j = 81
  · subst e81; exact q_ok81
  by_cases e82 : j = 82
  · subst e82; exact q_ok82
  by_cases e83 : j = 83
  · subst e83; exact q_ok83
  by_cases e84 : j = 84
  · subst e84; exact q_ok84
  by_cases e85 : j = 85
  · subst e85; exact q_ok85
  by_cases e86 : j = 86
  · subst e86; exact q_ok86
  by_cases e87 : j = 87
  · subst e87; exact q_ok87
  by_cases e88 : j = 88
  · subst e88; exact q_ok88
  by_cases e89 : j = 89
  · subst e89; exact q_ok89
  by_cases e90 : j = 90
  · subst e90; exact q_ok90
  by_cases e91 : j = 91
  · subst e91; exact q_ok91
  by_cases e92 : j = 92
  · subst e92; exact q_ok92
  by_cases e93 : j = 93
  · subst e93; exact q_ok93
  by_cases e94 : j = 94
  · subst e94; exact q_ok94
  by_cases e95 : j = 95
  · subst e95; exact q_ok95
  by_cases e96 : j = 96
  · subst e96; exact q_ok96
  by_cases e97 : j = 97
  · subst e97; exact q_ok97
  by_cases e98 : j = 98
  · subst e98; exact q_ok98
  by_cases e99 : j = 99
  · subst e99; exact q_ok99
  by_cases e100 : j = 100
  · subst e100; exact q_ok100
  by_cases e101 : j = 101
  · subst e101; exact q_ok101
  by_cases e102 : j = 102
  · subst e102; exact q_ok102
  by_cases e103 : j = 103
  · subst e103; exact q_ok103
  by_cases e104 : j = 104
  · subst e104; exact q_ok104
  by_cases e105 : j = 105
  · subst e105; exact q_ok105
  by_cases e106 : j = 106
  · subst e106; exact q_ok106
  by_cases e107 : j = 107
  · subst e107; exact q_ok107
  by_cases e108 : j = 108
  · subst e108; exact q_ok108
  by_cases e109 : j = 109
  · subst e109; exact q_ok109
  by_cases e110 : j = 110
  · subst e110; exact q_ok110
  by_cases e111 : j = 111
  · subst e111; exact q_ok111
  by_cases e112 : j = 112
  · subst e112; exact q_ok112
  by_cases e113 : j = 113
  · subst e113; exact q_ok113
  by_cases e114 : j = 114
  · subst e114; exact q_ok114
  by_cases e115 : j = 115
  · subst e115; exact q_ok115
  by_cases e116 : j = 116
  · subst e116; exact q_ok116
  by_cases e117 : j = 117
  · subst e117; exact q_ok117
  by_cases e118 : j = 118
  · subst e118; exact q_ok118
  by_cases e119 : j = 119
  · subst e119; exact q_ok119
  by_cases e120 : j = 120
  · subst e120; exact q_ok120
  by_cases e121 : j = 121
  · subst e121; exact q_ok121
  by_cases e122 : j = 122
  · subst e122; exact q_ok122
  by_cases e123 : j = 123
  · subst e123; exact q_ok123
  by_cases e124 : j = 124
  · subst e124; exact q_ok124
  by_cases e125 : j = 125
  · subst e125; exact q_ok125
  by_cases e126 : j = 126
  · subst e126; exact q_ok126
  by_cases e127 : j = 127
  · subst e127; exact q_ok127
  by_cases e128 : j = 128
  · subst e128; exact q_ok128
  by_cases e129 : j = 129
  · subst e129; exact q_ok129
  by_cases e130 : j = 130
  · subst e130; exact q_ok130
  by_cases e131 : j = 131
  · subst e131; exact q_ok131
  by_cases e132 : j = 132
  · subst e132; exact q_ok132
  by_cases e133 : j = 133
  · subst e133; exact q_ok133
  by_cases e134 : j = 134
  · subst e134; exact q_ok134
  by_cases e135 : j = 135
  · subst e135; exact q_ok135
  have e : j = 136 := by omega
  subst e; exact q_ok136
end
section
/-! THE WORLD OF A PURE HEAP, and what the checks give of a row of code. -/
def q_tr (ad : Nat → Nat) (v : PV) : Value := match v with
  | .inl x => .int x
  | .inr i => .ref (ad i)
theorem q_tr_cat (ad : Nat → Nat) (v : PV) : (q_tr ad v).category = 1 := by cases v <;> rfl
def q_tl (ad : Nat → Nat) (l : PL) : List (Nat × Value) := l.map (fun q => (q.1, q_tr ad q.2))
def q_fv (ad : Nat → Nat) (h : HP) (o k : Nat) : Value := match qRf o k with
  | some r => .ref (ad r)
  | none => .int (h o k)
def q_fs (ad : Nat → Nat) (h : HP) (o c : Nat) : List Value := (List.range (qC c).2.2).map (q_fv ad h o)
def q_cell (ad : Nat → Nat) (cI cZ cQ : ClassId) (h : HP) (o : Nat) : va_E := match qSh o with
  | some (.inl c) => .inr (c, q_fs ad h o c)
  | some (.inr (0, n)) => .inl (cI, n, .inl (h o))
  | some (.inr (1, n)) => .inl (cZ, n, .inl (h o))
  | some (.inr (2, n)) => .inl (cQ, n, .inr (.inr (.inr (.inr (fun k => (qRf o k).map ad)))))
  | _ => .inl (cI, 0, .inl (h o))
def q_W (ad : Nat → Nat) (cI cZ cQ : ClassId) (h : HP) : va_W := (List.range qNW).map (fun o => (ad o, q_cell ad cI cZ cQ h o))
def q_A (ad : Nat → Nat) : Nat → Prop := fun q => ∃ o, o < qNW ∧ q = ad o
theorem q_W_at {ad : Nat → Nat} {cI cZ cQ : ClassId} {h : HP} {o : Nat} (ho : o < qNW) : (q_W ad cI cZ cQ h)[o]? = some (ad o, q_cell ad cI cZ cQ h o) := by
  simp [q_W, ho]
theorem q_hu_ne {h : HP} {o k i : Nat} {x : Int32} (hi : i ≠ o) : hu h o k x i = h i := by
  funext b; simp [hu, hi]
theorem q_cell_ne {ad : Nat → Nat} {cI cZ cQ : ClassId} {h : HP} {o k i : Nat} {x : Int32} (hi : i ≠ o) : q_cell ad cI cZ cQ (hu h o k x) i = q_cell ad cI cZ cQ h i := by
  have e : q_fs ad (hu h o k x) i = q_fs ad h i := by
    funext c; simp only [q_fs]; congr 1; funext b; simp only [q_fv, q_hu_ne hi]
  simp only [q_cell, q_hu_ne hi, e]
theorem q_W_set {ad : Nat → Nat} {cI cZ cQ : ClassId} {h : HP} {o k : Nat} {x : Int32} : (q_W ad cI cZ cQ h).set o (ad o, q_cell ad cI cZ cQ (hu h o k x) o) = q_W ad cI cZ cQ (hu h o k x) := by
  apply List.ext_getElem?
  intro i
  rw [List.getElem?_set]
  by_cases hi : o = i
  · subst hi
    simp only [if_true]
    by_cases ho : o < qNW
    · rw [q_W_at ho]; simp [q_W, ho]
    · simp [q_W, ho]
  · rw [if_neg hi]
    by_cases ho : i < qNW
    · rw [q_W_at ho, q_W_at ho, q_cell_ne (fun e => hi e.symm)]
    · simp [q_W, ho]
theorem q_fs_put {ad : Nat → Nat} {h : HP} {o c k : Nat} {x : Int32} (hk : k < (qC c).2.2) (hr : qRf o k = none) : (q_fs ad h o c).set k (.int x) = q_fs ad (hu h o k x) o c := by
  apply List.ext_getElem?
  intro i
  rw [List.getElem?_set]
  by_cases hi : k = i
  · subst hi
    simp only [if_true]
    simp [q_fs, hk, q_fv, hr, hu]
  · rw [if_neg hi]
    have hi' : i ≠ k := fun e => hi e.symm
    by_cases hN : i < (qC c).2.2
    · simp [q_fs, hN, q_fv, hu_k hi']
    · simp [q_fs, hN]
theorem q_upd {h : HP} {o k : Nat} {x : Int32} : upd (h o) k x = hu h o k x o := by
  funext b; simp [upd, hu]
theorem q_D {ad : Nat → Nat} {cI cZ cQ : ClassId} {h : HP} (hd : ∀ i j, i < qNW → j < qNW → ad i = ad j → i = j) : va_D (q_A ad) (q_W ad cI cZ cQ h) := by
  have lt : ∀ {i : Nat} {q : Nat × va_E}, (q_W ad cI cZ cQ h)[i]? = some q → i < qNW ∧ q = (ad i, q_cell ad cI cZ cQ h i) := by
    intro i q hq
    by_cases hi : i < qNW
    · rw [q_W_at hi] at hq; exact ⟨hi, (Option.some.inj hq).symm⟩
    · simp [q_W, hi] at hq
  refine ⟨fun i j p q hp hq e => ?_, fun k q hq => ?_⟩
  · obtain ⟨h1, rfl⟩ := lt hp
    obtain ⟨h2, rfl⟩ := lt hq
    exact hd i j h1 h2 e
  · obtain ⟨h1, rfl⟩ := lt hq
    exact ⟨k, h1, rfl⟩
theorem q_sh_lt {o : Nat} {z : Nat ⊕ (Nat × Nat)} (h : qSh o = some z) : o < 48 := by
  have := (List.getElem?_eq_some_iff.mp h).1
  exact this
theorem q_sh_W {o : Nat} {z : Nat ⊕ (Nat × Nat)} (h : qSh o = some z) (hz : ∀ n, z ≠ .inr (3, n)) : o < qNW := by
  have h1 := q_sh_lt h
  by_cases e : o = 47
  · subst e
    exact absurd (Option.some.inj h).symm (hz 9)
  · show o < 47
    omega
theorem pl_at_mem : ∀ {l : PL} {k : Nat} {v : PV}, pl_at l k = some v → (k, v) ∈ l
  | (i, w) :: t, k, v, h => by
    simp only [pl_at] at h
    by_cases e : i = k
    · rw [if_pos e] at h; cases h; subst e; exact List.mem_cons_self
    · rw [if_neg e] at h; exact List.mem_cons_of_mem _ (pl_at_mem h)
theorem q_loc {ad : Nat → Nat} {ls : Array Slot} {nL : Nat} {l : PL} {k : Nat} {v : PV} (hl : lv_has ls nL (q_tl ad l)) (h : pl_at l k = some v) : ls[k]? = some (.val (q_tr ad v)) :=
  hl.2.2 (k, q_tr ad v) (List.mem_map.mpr ⟨(k, v), pl_at_mem h, rfl⟩)
theorem q_tl_put {ad : Nat → Nat} {l : PL} {i : Nat} {v : PV} : (i, q_tr ad v) :: (q_tl ad l).filter (fun q => !(q.1 == i) && !(q.1 + 1 == i && q.2.category == 2)) = q_tl ad (pl_put l i v) := by
  simp only [q_tl, pl_put, List.map_cons, List.filter_map]
  congr 2
  apply List.filter_congr
  intro q _
  simp [q_tr_cat]
theorem pe_at_mem : ∀ {c : List PE} {k : Nat} {v : Instr × Nat × List Nat}, pe_at c k = some v → (k, v) ∈ c
  | (i, w) :: t, k, v, h => by
    simp only [pe_at] at h
    by_cases e : i = k
    · rw [if_pos e] at h; cases h; subst e; exact List.mem_cons_self
    · rw [if_neg e] at h; exact List.mem_cons_of_mem _ (pe_at_mem h)
theorem q_row {j pc n : Nat} {i : Instr} {ax : List Nat} (hj : j < 137) (h : pe_at (qCod j) pc = some (i, n, ax)) : decode (qmB j) pc = .ok (i, n) ∧ q_okc j pc i n ax = true := by
  have h1 := List.all_eq_true.mp (List.all_eq_true.mp qOkAll j (List.mem_range.mpr hj)) _ (pe_at_mem h)
  simp only [q_ok, Bool.and_eq_true, decide_eq_true_eq] at h1
  exact h1
end
section
/-! ONE STEP of the pure machine within a method is a step of the machine. -/
def q_Tys (cI cZ cQ : ClassId) : List (ClassId × FieldType) := [(cI, .int), (cZ, .boolean), (cQ, .array .int)]
def q_Nest (U : State) : Prop := va_Nw (.methodLinkNest "CashRecycler$Magazine" 18 (qmY 29) "CashRecycler") U ∧ va_Nw (.fieldLinkNest "CashRecycler$Track" 26 "CashRecycler" "GOAL_SEGMENT" "[I" "CashRecycler") U
/-- what stays the same while the class and the reference run: the classes, the static array, the nest's links, that the world's cells are apart -/
def q_Sta (D : va_G) (ad : Nat → Nat) (cI cZ cQ : ClassId) (U : State) : Prop :=
  va_K D qCl (q_Tys cI cZ cQ) U ∧ va_Z "CashRecycler" "GOAL_SEGMENT" "[I" (.ref (ad qGS)) (q_A ad) U U.heap ∧ va_T .int (ad qGS) 9 (fun k => .int (qGf k)) (q_A ad) U U.heap ∧ q_Nest U ∧ ∀ i j, i < qNW → j < qNW → ad i = ad j → i = j
/-- what a method's own walk knows -/
def q_Env (p : Program) (s : State) (m : MethodId) (args : Array Value) (meth : Method) (c : Code) (j : Nat) : Prop :=
  p.tables.exec = Jvm.exec ∧ c.code = qmB j ∧ c.maxLocals = qmL j ∧ s.vm.findClass (q_own j) = some m.cls ∧ (∀ w ∈ q_WS, w.before args s = true) ∧ meth.sig.returnType = qmR j ∧ meth.locks = false
theorem q_class {c : Nat} (hc : c < 8) : qCl[c]? = some ((qC c).1, (qC c).2.1, (qC c).2.2) := by
  rcases (show c = 0 ∨ c = 1 ∨ c = 2 ∨ c = 3 ∨ c = 4 ∨ c = 5 ∨ c = 6 ∨ c = 7 by omega) with rfl | rfl | rfl | rfl | rfl | rfl | rfl | rfl <;> rfl
theorem q_lays {c : Nat} (hc : c < 8) : (∀ w ∈ u_ws (qC c).1 (qC c).2.1 (qC c).2.2, w ∈ q_WS) ∧ (∀ k, k < (qC c).2.2 → parseFieldDescriptor ((qC c).2.1 k).2.2.1 = some (qTy c k)) ∧ (∀ a, a < (qC c).2.2 → ∀ b, b < (qC c).2.2 → a ≠ b → ((qC c).2.1 a).2.1 ≠ ((qC c).2.1 b).2.1) := by
  have h := List.all_eq_true.mp qLy_ok c (List.mem_range.mpr hc)
  simp only [qLyOk, Bool.and_eq_true, List.all_eq_true, List.mem_range, decide_eq_true_eq, Bool.or_eq_true, beq_iff_eq] at h
  refine ⟨fun w hw => ?_, fun k hk => (h.1 k hk).2, fun a ha b hb hab => ?_⟩
  · obtain ⟨k, hk, rfl⟩ := List.mem_map.mp hw
    have hk := List.mem_range.mp hk
    refine q_inAt (h.1 k hk).1 ?_
    simp only [u_lay]
    split <;> rfl
  · rcases h.2 a ha b hb with e | e
    · exact absurd e hab
    · exact e
theorem q_field {c idx k : Nat} (h : qFtL.any (fun e => e.1 == c && e.2.1 == idx && e.2.2.1 == k) = true) : c < 8 ∧ k < (qC c).2.2 ∧ Cond.fieldLink (qC c).1 idx ((qC c).2.1 k).1 ((qC c).2.1 k).2.1 ((qC c).2.1 k).2.2.1 ∈ q_WS := by
  obtain ⟨e, he, hh⟩ := List.any_eq_true.mp h
  have h1 := List.all_eq_true.mp qFt_ok e he
  simp only [Bool.and_eq_true, beq_iff_eq] at hh
  obtain ⟨⟨rfl, rfl⟩, rfl⟩ := hh
  simp only [qFtOk, Bool.and_eq_true, decide_eq_true_eq] at h1
  exact ⟨h1.1.2, h1.1.1, q_inAt h1.2 rfl⟩
theorem q_qmC0 : (List.range 137).all (fun j => decide (8 ≤ qmC j) || decide ((qC (qmC j)).1 = q_own j)) = true := by decide +kernel
theorem q_qmC {j c : Nat} (hj : j < 137) (hc : qmC j = c) (h8 : c < 8) : (qC c).1 = q_own j := by
  have h := List.all_eq_true.mp q_qmC0 j (List.mem_range.mpr hj)
  simp only [Bool.or_eq_true, decide_eq_true_eq] at h
  subst hc
  exact h.resolve_left (by omega)
theorem q_only47 : (List.range 48).all (fun a => a == 47 || match qSh a with | some (.inr (3, _)) => false | _ => true) = true := by decide +kernel
theorem q_wGS : lw_tbl[600]? = some (.fieldLink "CashRecycler" 262 "CashRecycler" "GOAL_SEGMENT" "[I") := by decide +kernel
theorem q_tgs_at {pc : Nat} : ∀ {os : List Int} {gs : List Nat} {k g : Nat}, q_tgs pc os gs = true → gs[k]? = some g → ∃ o, os[k]? = some o ∧ (pc : Int) + o = (g : Int)
  | [], [], k, g, _, h => by cases k <;> cases h
  | o :: os, g0 :: gs, 0, g, h, hk => by
    simp only [q_tgs, q_tg, Bool.and_eq_true, decide_eq_true_eq] at h
    cases hk
    exact ⟨o, rfl, h.1⟩
  | o :: os, g0 :: gs, k + 1, g, h, hk => by
    simp only [q_tgs, Bool.and_eq_true] at h
    exact q_tgs_at (os := os) (gs := gs) h.2 hk
  | [], _ :: _, _, _, h, _ => by cases h
  | _ :: _, [], _, _, h, _ => by cases h
theorem q_lk_at {pc : Nat} {d : Int} {g : Nat} {x : Int} (hd : (pc : Int) + d = (g : Int)) : ∀ {ps : List (Int × Int)} {gs : List Nat}, q_tgs pc (ps.map (·.2)) gs = true → (pc : Int) + Op.lookupswitch.offset ps d x = (p_lk (ps.map (·.1)) gs g x : Int)
  | [], [], _ => by simpa [Op.lookupswitch.offset, p_lk] using hd
  | (a, o) :: ps, g0 :: gs, h => by
    simp only [List.map_cons, q_tgs, q_tg, Bool.and_eq_true, decide_eq_true_eq] at h
    simp only [Op.lookupswitch.offset, List.map_cons, p_lk]
    by_cases e : x = a
    · simp [e, h.1]
    · have e' : ¬ a = x := fun z => e z.symm
      simp only [if_neg e, if_neg e']
      exact q_lk_at hd h.2
  | [], _ :: _, h => by cases h
  | _ :: _, [], h => by cases h
theorem q_link {j idx j' how : Nat} (h : q_lnk j idx j' how = true) : (how = 2 ∧ q_own j = "CashRecycler$Magazine" ∧ idx = 18 ∧ j' = 29) ∨ (how ≠ 2 ∧ Cond.methodLink (q_own j) idx (qmY j') ∈ q_WS) := by
  obtain ⟨e, he, hh⟩ := List.any_eq_true.mp h
  have h1 := List.all_eq_true.mp qLk_ok e he
  simp only [Bool.and_eq_true, beq_iff_eq] at hh
  obtain ⟨⟨⟨e1, rfl⟩, rfl⟩, rfl⟩ := hh
  unfold qLkOk at h1
  split at h1
  · rename_i h2
    simp only [decide_eq_true_eq] at h1
    exact Or.inl ⟨h2, by rw [← e1]; exact h1.1, h1.2.1, h1.2.2⟩
  · rename_i h2
    simp only [decide_eq_true_eq] at h1
    exact Or.inr ⟨h2, by rw [← e1]; exact q_inAt h1 rfl⟩
theorem q_sum (ad : Nat → Nat) (t : List PV) : ((t.map (q_tr ad)).map fun v => v.category).sum = t.length := by
  induction t with
  | nil => rfl
  | cons v t ih => simp only [List.map_cons, List.sum_cons, ih, q_tr_cat, List.length_cons]; omega
theorem q_nb {x : Int32} (h : x = 0 ∨ x = 1) : narrow .boolean (.int x) = .int x ∧ fits .boolean (.int x) = true ∧ vp_nar .boolean x = x := by
  rcases h with rfl | rfl <;> decide +kernel
section QSTEP
variable {p : Program} {l : Launch} {e : Env} {R : Room} {s : State} {m : MethodId} {args : Array Value} {below : List Frame} {meth : Method} {c : Code} {H : Heap} {locs : List Loc} {cells slots : Nat} {Q : State → Prop}
variable {D : va_G} {ad : Nat → Nat} {cI cZ cQ : ClassId} {j : Nat} {ls : Array Slot}
set_option maxHeartbeats 4000000 in
set_option maxRecDepth 100000 in
theorem q_step1 (h2 : 2 ≤ j) (hj : j < 137) (hE : q_Env p s m args meth c j) (hSt : q_Sta D ad cI cZ cQ s) (hRf : qmF j ≤ R.frames) (hRl : qmW j ≤ R.locals) (hc0 : cells ≤ R.cells) (hs0 : slots ≤ R.slots)
    {pc : Nat} {L : PL} {st : List PV} {h : HP} {g : PG} (h1 : p1 j (pc, L, st, h) = some (.inl g)) (hl : lv_has ls (qmL j) (q_tl ad L)) (hP : va_P D qCl (q_W ad cI cZ cQ h) H) (hS : va_S (q_A ad) s.heap H locs)
    (kk : ∀ (ls' : Array Slot) (H' : Heap) (locs' : List Loc), lv_has ls' (qmL j) (q_tl ad g.2.1) → va_P D qCl (q_W ad cI cZ cQ g.2.2.2) H' → va_S (q_A ad) s.heap H' locs' → W p l e R s m args below meth c H' locs' cells slots Q (F0 m g.1 ls' (g.2.2.1.map (q_tr ad)))) :
    W p l e R s m args below meth c H locs cells slots Q (F0 m pc ls (st.map (q_tr ad))) := by
  obtain ⟨hx, hb, hml, hown, hts, hret, hlk⟩ := hE
  obtain ⟨hK, hZ, hT, hN, hap⟩ := hSt
  have hD : va_D (q_A ad) (q_W ad cI cZ cQ h) := q_D hap
  simp only [p1] at h1
  cases hq : pe_at (qCod j) pc with
  | none => rw [hq] at h1; cases h1
  | some w =>
    obtain ⟨i, n, ax⟩ := w
    rw [hq] at h1
    obtain ⟨hd, hok⟩ := q_row hj hq
    dsimp only at h1
    cases i with
    | iconst v =>
      simp only [q_okc, beq_iff_eq] at hok; subst hok
      simp only [p1i, p_int, Option.some.injEq, Sum.inl.injEq] at h1; subst h1
      exact lv_iconst hx hb hd rfl (kk ls H locs hl hP hS)
    | bipush v =>
      simp only [q_okc, beq_iff_eq] at hok; subst hok
      simp only [p1i, p_int, Option.some.injEq, Sum.inl.injEq] at h1; subst h1
      exact lv_bipush hx hb hd rfl (kk ls H locs hl hP hS)
    | sipush v =>
      simp only [q_okc, beq_iff_eq] at hok; subst hok
      simp only [p1i, p_int, Option.some.injEq, Sum.inl.injEq] at h1; subst h1
      exact lv_sipush hx hb hd rfl (kk ls H locs hl hP hS)
    | iload_n k =>
      simp only [q_okc, beq_iff_eq] at hok; subst hok
      simp only [p1i] at h1
      cases hv : pl_at L k.val with
      | none => rw [hv] at h1; cases h1
      | some v =>
        rw [hv] at h1
        cases v with
        | inr o => cases h1
        | inl x =>
          simp only [p_int, Option.some.injEq, Sum.inl.injEq] at h1; subst h1
          exact lv_iload_n hx hb hd rfl (q_loc hl hv) (kk ls H locs hl hP hS)
    | iload k =>
      simp only [q_okc, beq_iff_eq] at hok; subst hok
      simp only [p1i] at h1
      cases hv : pl_at L k with
      | none => rw [hv] at h1; cases h1
      | some v =>
        rw [hv] at h1
        cases v with
        | inr o => cases h1
        | inl x =>
          simp only [p_int, Option.some.injEq, Sum.inl.injEq] at h1; subst h1
          exact lv_iload hx hb hd (q_loc hl hv) (kk ls H locs hl hP hS)
    | aload_n k =>
      simp only [q_okc, beq_iff_eq] at hok; subst hok
      simp only [p1i] at h1
      cases hv : pl_at L k.val with
      | none => rw [hv] at h1; cases h1
      | some v =>
        rw [hv] at h1
        cases v with
        | inl o => cases h1
        | inr x =>
          simp only [Option.some.injEq, Sum.inl.injEq] at h1; subst h1
          exact lv_aload_n hx hb hd rfl (q_loc hl hv) (kk ls H locs hl hP hS)
    | istore_n k =>
      simp only [q_okc, beq_iff_eq] at hok; subst hok
      simp only [p1i] at h1
      rcases st with _ | ⟨x | o, t⟩
      · cases h1
      · dsimp only at h1
        split at h1
        · rename_i hk
          simp only [Option.some.injEq, Sum.inl.injEq] at h1; subst h1
          exact lv_istore_n hx hb hd rfl hl hk (q_tl_put (v := .inl x)) (fun ls' hl' => kk ls' H locs hl' hP hS)
        · cases h1
      · cases h1
    | istore k =>
      simp only [q_okc, beq_iff_eq] at hok; subst hok
      simp only [p1i] at h1
      rcases st with _ | ⟨x | o, t⟩
      · cases h1
      · dsimp only at h1
        split at h1
        · rename_i hk
          simp only [Option.some.injEq, Sum.inl.injEq] at h1; subst h1
          exact lv_istore hx hb hd hl hk (q_tl_put (v := .inl x)) (fun ls' hl' => kk ls' H locs hl' hP hS)
        · cases h1
      · cases h1
    | iinc k v =>
      simp only [q_okc, beq_iff_eq] at hok; subst hok
      simp only [p1i] at h1
      cases hv : pl_at L k with
      | none => rw [hv] at h1; cases h1
      | some v =>
        rw [hv] at h1
        cases v with
        | inr o => cases h1
        | inl x =>
          dsimp only at h1
          split at h1
          · rename_i hk
            simp only [Option.some.injEq, Sum.inl.injEq] at h1; subst h1
            obtain ⟨k0, hk0⟩ := List.getElem?_of_mem (List.mem_map.mpr ⟨(k, Sum.inl x), pl_at_mem hv, rfl⟩ : (k, q_tr ad (.inl x)) ∈ q_tl ad L)
            exact lv_iinc hx hb hd hl hk0 rfl hk (q_tl_put (v := .inl _)) (fun ls' hl' => kk ls' H locs hl' hP hS)
          · cases h1
    | dup =>
      simp only [q_okc, beq_iff_eq] at hok; subst hok
      simp only [p1i] at h1
      rcases st with _ | ⟨v, t⟩
      · cases h1
      · simp only [Option.some.injEq, Sum.inl.injEq] at h1; subst h1
        exact lv_dup hx hb hd (q_tr_cat ad v) (kk ls H locs hl hP hS)
    | dup2 =>
      simp only [q_okc, beq_iff_eq] at hok; subst hok
      simp only [p1i] at h1
      rcases st with _ | ⟨v, _ | ⟨u, t⟩⟩
      · cases h1
      · cases h1
      · simp only [Option.some.injEq, Sum.inl.injEq] at h1; subst h1
        exact lv_dup2_11 hx hb hd (q_tr_cat ad v) (q_tr_cat ad u) (kk ls H locs hl hP hS)
    | iadd =>
      simp only [q_okc, beq_iff_eq] at hok; subst hok
      simp only [p1i] at h1
      rcases st with _ | ⟨y | o, _ | ⟨x | o, t⟩⟩ <;> first | (cases h1; done) | skip
      simp only [p_int, Option.some.injEq, Sum.inl.injEq] at h1; subst h1
      exact lv_iadd hx hb hd (kk ls H locs hl hP hS)
    | isub =>
      simp only [q_okc, beq_iff_eq] at hok; subst hok
      simp only [p1i] at h1
      rcases st with _ | ⟨y | o, _ | ⟨x | o, t⟩⟩ <;> first | (cases h1; done) | skip
      simp only [p_int, Option.some.injEq, Sum.inl.injEq] at h1; subst h1
      exact lv_isub hx hb hd (kk ls H locs hl hP hS)
    | imul =>
      simp only [q_okc, beq_iff_eq] at hok; subst hok
      simp only [p1i] at h1
      rcases st with _ | ⟨y | o, _ | ⟨x | o, t⟩⟩ <;> first | (cases h1; done) | skip
      simp only [p_int, Option.some.injEq, Sum.inl.injEq] at h1; subst h1
      exact lv_imul hx hb hd (kk ls H locs hl hP hS)
    | idiv =>
      simp only [q_okc, beq_iff_eq] at hok; subst hok
      simp only [p1i] at h1
      rcases st with _ | ⟨y | o, _ | ⟨x | o, t⟩⟩ <;> first | (cases h1; done) | skip
      dsimp only at h1
      split at h1
      · cases h1
      · rename_i hy
        simp only [p_int, Option.some.injEq, Sum.inl.injEq] at h1; subst h1
        exact lv_idiv hx hb hd hy (kk ls H locs hl hP hS)
    | irem =>
      simp only [q_okc, beq_iff_eq] at hok; subst hok
      simp only [p1i] at h1
      rcases st with _ | ⟨y | o, _ | ⟨x | o, t⟩⟩ <;> first | (cases h1; done) | skip
      dsimp only at h1
      split at h1
      · cases h1
      · rename_i hy
        simp only [p_int, Option.some.injEq, Sum.inl.injEq] at h1; subst h1
        exact lv_irem hx hb hd hy (kk ls H locs hl hP hS)
    | ineg =>
      simp only [q_okc, beq_iff_eq] at hok; subst hok
      simp only [p1i] at h1
      rcases st with _ | ⟨x | o, t⟩ <;> first | (cases h1; done) | skip
      simp only [p_int, Option.some.injEq, Sum.inl.injEq] at h1; subst h1
      exact lv_ineg hx hb hd (kk ls H locs hl hP hS)
    | ifCond cn off =>
      simp only [q_okc, Bool.and_eq_true, beq_iff_eq] at hok
      obtain ⟨rfl, ht⟩ := hok
      rcases ax with _ | ⟨g', _ | ⟨a2, ax'⟩⟩ <;> first | (cases ht; done) | skip
      simp only [q_tg, decide_eq_true_eq] at ht
      rcases st with _ | ⟨x | o, t⟩ <;> first | (cases h1; done) | skip
      simp only [p1i] at h1
      cases cn with
      | eq =>
        simp only [p_br] at h1
        refine lv_if_eq hx hb hd ht (fun hc => ?_) (fun hc => ?_)
        · rw [if_pos hc] at h1; simp only [Option.some.injEq, Sum.inl.injEq] at h1; subst h1; exact kk ls H locs hl hP hS
        · rw [if_neg hc] at h1; simp only [Option.some.injEq, Sum.inl.injEq] at h1; subst h1; exact kk ls H locs hl hP hS
      | ne =>
        simp only [p_br] at h1
        refine lv_if_ne hx hb hd ht (fun hc => ?_) (fun hc => ?_)
        · rw [if_neg hc] at h1; simp only [Option.some.injEq, Sum.inl.injEq] at h1; subst h1; exact kk ls H locs hl hP hS
        · rw [if_pos hc] at h1; simp only [Option.some.injEq, Sum.inl.injEq] at h1; subst h1; exact kk ls H locs hl hP hS
      | lt =>
        simp only [p_br] at h1
        refine lv_if_lt hx hb hd ht (fun hc => ?_) (fun hc => ?_)
        · rw [if_pos hc] at h1; simp only [Option.some.injEq, Sum.inl.injEq] at h1; subst h1; exact kk ls H locs hl hP hS
        · rw [if_neg hc] at h1; simp only [Option.some.injEq, Sum.inl.injEq] at h1; subst h1; exact kk ls H locs hl hP hS
      | ge =>
        simp only [p_br] at h1
        refine lv_if_ge hx hb hd ht (fun hc => ?_) (fun hc => ?_)
        · rw [if_pos hc] at h1; simp only [Option.some.injEq, Sum.inl.injEq] at h1; subst h1; exact kk ls H locs hl hP hS
        · rw [if_neg hc] at h1; simp only [Option.some.injEq, Sum.inl.injEq] at h1; subst h1; exact kk ls H locs hl hP hS
      | gt =>
        simp only [p_br] at h1
        refine lv_if_gt hx hb hd ht (fun hc => ?_) (fun hc => ?_)
        · rw [if_pos hc] at h1; simp only [Option.some.injEq, Sum.inl.injEq] at h1; subst h1; exact kk ls H locs hl hP hS
        · rw [if_neg hc] at h1; simp only [Option.some.injEq, Sum.inl.injEq] at h1; subst h1; exact kk ls H locs hl hP hS
      | le =>
        simp only [p_br] at h1
        refine lv_if_le hx hb hd ht (fun hc => ?_) (fun hc => ?_)
        · rw [if_pos hc] at h1; simp only [Option.some.injEq, Sum.inl.injEq] at h1; subst h1; exact kk ls H locs hl hP hS
        · rw [if_neg hc] at h1; simp only [Option.some.injEq, Sum.inl.injEq] at h1; subst h1; exact kk ls H locs hl hP hS
    | if_icmp cn off =>
      simp only [q_okc, Bool.and_eq_true, beq_iff_eq] at hok
      obtain ⟨rfl, ht⟩ := hok
      rcases ax with _ | ⟨g', _ | ⟨a2, ax'⟩⟩ <;> first | (cases ht; done) | skip
      simp only [q_tg, decide_eq_true_eq] at ht
      rcases st with _ | ⟨y | o, _ | ⟨x | o, t⟩⟩ <;> first | (cases h1; done) | skip
      simp only [p1i] at h1
      cases cn with
      | eq =>
        simp only [p_br] at h1
        refine lv_icmp_eq hx hb hd ht (fun hc => ?_) (fun hc => ?_)
        · rw [if_pos hc] at h1; simp only [Option.some.injEq, Sum.inl.injEq] at h1; subst h1; exact kk ls H locs hl hP hS
        · rw [if_neg hc] at h1; simp only [Option.some.injEq, Sum.inl.injEq] at h1; subst h1; exact kk ls H locs hl hP hS
      | ne =>
        simp only [p_br] at h1
        refine lv_icmp_ne hx hb hd ht (fun hc => ?_) (fun hc => ?_)
        · rw [if_neg hc] at h1; simp only [Option.some.injEq, Sum.inl.injEq] at h1; subst h1; exact kk ls H locs hl hP hS
        · rw [if_pos hc] at h1; simp only [Option.some.injEq, Sum.inl.injEq] at h1; subst h1; exact kk ls H locs hl hP hS
      | lt =>
        simp only [p_br] at h1
        refine lv_icmp_lt hx hb hd ht (fun hc => ?_) (fun hc => ?_)
        · rw [if_pos hc] at h1; simp only [Option.some.injEq, Sum.inl.injEq] at h1; subst h1; exact kk ls H locs hl hP hS
        · rw [if_neg hc] at h1; simp only [Option.some.injEq, Sum.inl.injEq] at h1; subst h1; exact kk ls H locs hl hP hS
      | ge =>
        simp only [p_br] at h1
        refine lv_icmp_ge hx hb hd ht (fun hc => ?_) (fun hc => ?_)
        · rw [if_pos hc] at h1; simp only [Option.some.injEq, Sum.inl.injEq] at h1; subst h1; exact kk ls H locs hl hP hS
        · rw [if_neg hc] at h1; simp only [Option.some.injEq, Sum.inl.injEq] at h1; subst h1; exact kk ls H locs hl hP hS
      | gt =>
        simp only [p_br] at h1
        refine lv_icmp_gt hx hb hd ht (fun hc => ?_) (fun hc => ?_)
        · rw [if_pos hc] at h1; simp only [Option.some.injEq, Sum.inl.injEq] at h1; subst h1; exact kk ls H locs hl hP hS
        · rw [if_neg hc] at h1; simp only [Option.some.injEq, Sum.inl.injEq] at h1; subst h1; exact kk ls H locs hl hP hS
      | le =>
        simp only [p_br] at h1
        refine lv_icmp_le hx hb hd ht (fun hc => ?_) (fun hc => ?_)
        · rw [if_pos hc] at h1; simp only [Option.some.injEq, Sum.inl.injEq] at h1; subst h1; exact kk ls H locs hl hP hS
        · rw [if_neg hc] at h1; simp only [Option.some.injEq, Sum.inl.injEq] at h1; subst h1; exact kk ls H locs hl hP hS
    | goto off =>
      simp only [q_okc, Bool.and_eq_true, beq_iff_eq] at hok
      obtain ⟨rfl, ht⟩ := hok
      rcases ax with _ | ⟨g', _ | ⟨a2, ax'⟩⟩ <;> first | (cases ht; done) | skip
      simp only [q_tg, decide_eq_true_eq] at ht
      simp only [p1i, Option.some.injEq, Sum.inl.injEq] at h1; subst h1
      exact lv_goto hx hb hd ht (kk ls H locs hl hP hS)
    | tableswitch d lo hi offs =>
      simp only [q_okc, Bool.and_eq_true] at hok
      obtain ⟨-, ht⟩ := hok
      rcases ax with _ | ⟨g', gs⟩
      · cases ht
      simp only [q_tg, Bool.and_eq_true, decide_eq_true_eq] at ht
      rcases st with _ | ⟨x | o, t⟩ <;> first | (cases h1; done) | skip
      simp only [p1i] at h1
      split at h1
      · rename_i hc
        simp only [Option.some.injEq, Sum.inl.injEq] at h1; subst h1
        exact lv_tableOut hx hb hd hc ht.1 (kk ls H locs hl hP hS)
      · rename_i hc
        split at h1
        · rename_i g2 hg2
          simp only [Option.some.injEq, Sum.inl.injEq] at h1; subst h1
          obtain ⟨off, ho, ht2⟩ := q_tgs_at ht.2 hg2
          exact lv_tableIn hx hb hd (fun z => hc (Or.inl z)) (fun z => hc (Or.inr z)) (by rw [← Array.getElem?_toList]; exact ho) ht2 (kk ls H locs hl hP hS)
        · cases h1
    | lookupswitch d ps =>
      simp only [q_okc, Bool.and_eq_true] at hok
      obtain ⟨hs, ht⟩ := hok
      rcases ax with _ | ⟨g', gs⟩
      · cases ht
      simp only [q_tg, Bool.and_eq_true, decide_eq_true_eq] at ht
      rcases st with _ | ⟨x | o, t⟩ <;> first | (cases h1; done) | skip
      simp only [p1i, Option.some.injEq, Sum.inl.injEq] at h1; subst h1
      exact lv_lookup hx hb hd hs rfl (q_lk_at ht.1 ht.2) (kk ls H locs hl hP hS)
    | getfield idx =>
      simp only [q_okc, Bool.and_eq_true, beq_iff_eq] at hok
      obtain ⟨rfl, ht⟩ := hok
      rcases ax with _ | ⟨ci, _ | ⟨k, _ | ⟨a3, ax'⟩⟩⟩ <;> first | (cases ht; done) | skip
      simp only [Bool.and_eq_true, beq_iff_eq] at ht
      obtain ⟨h8, hk, hw⟩ := q_field ht.1
      have ho := q_qmC hj ht.2 h8
      rcases st with _ | ⟨x | o, t⟩ <;> first | (cases h1; done) | skip
      simp only [p1i] at h1
      split at h1
      · rename_i c' hsh
        split at h1
        · rename_i e; subst e
          have hoW : o < qNW := q_sh_W hsh (fun n z => by cases z)
          have he : (q_W ad cI cZ cQ h)[o]? = some (ad o, .inr (c', q_fs ad h o c')) := by rw [q_W_at hoW]; simp only [q_cell, hsh]
          have hv : (q_fs ad h o c')[k]? = some (q_fv ad h o k) := by simp [q_fs, hk]
          have hlink : (Cond.fieldLink (q_own j) idx ((qC c').2.1 k).1 ((qC c').2.1 k).2.1 ((qC c').2.1 k).2.2.1).before args s = true := by rw [← ho]; exact hts _ hw
          refine va_get (D := D) hx hb hts (q_lays h8).1 hown hK hP o he (q_class h8) k hk hlink (fun _ z => z) hv hd ?_
          split at h1
          · rename_i r hr
            simp only [Option.some.injEq, Sum.inl.injEq] at h1; subst h1
            have ev : q_fv ad h o k = q_tr ad (.inr r) := by simp only [q_fv, hr, q_tr]
            rw [ev]
            exact kk ls H locs hl hP hS
          · rename_i hr
            simp only [p_int, Option.some.injEq, Sum.inl.injEq] at h1; subst h1
            have ev : q_fv ad h o k = q_tr ad (.inl (h o k)) := by simp only [q_fv, hr, q_tr]
            rw [ev]
            exact kk ls H locs hl hP hS
        · cases h1
      · cases h1
    | putfield idx =>
      simp only [q_okc, Bool.and_eq_true, beq_iff_eq] at hok
      obtain ⟨rfl, ht⟩ := hok
      rcases ax with _ | ⟨ci, _ | ⟨k, _ | ⟨z, _ | ⟨a4, ax'⟩⟩⟩⟩ <;> first | (cases ht; done) | skip
      simp only [Bool.and_eq_true, beq_iff_eq, Bool.or_eq_true, decide_eq_true_eq, Bool.not_eq_true'] at ht
      obtain ⟨⟨⟨hf, hcj⟩, hz⟩, hfin⟩ := ht
      obtain ⟨h8, hk, hw⟩ := q_field hf
      have ho := q_qmC hj hcj h8
      rcases st with _ | ⟨v | o', _ | ⟨x | o, t⟩⟩ <;> first | (cases h1; done) | skip
      simp only [p1i] at h1
      split at h1
      · rename_i c' hsh
        split at h1
        · rename_i hcnd
          obtain ⟨rfl, hr, hv⟩ := hcnd
          simp only [Option.some.injEq, Sum.inl.injEq] at h1; subst h1
          have hoW : o < qNW := q_sh_W hsh (fun n z => by cases z)
          have he : (q_W ad cI cZ cQ h)[o]? = some (ad o, .inr (c', q_fs ad h o c')) := by rw [q_W_at hoW]; simp only [q_cell, hsh]
          have hlink : (Cond.fieldLink (q_own j) idx ((qC c').2.1 k).1 ((qC c').2.1 k).2.1 ((qC c').2.1 k).2.2.1).before args s = true := by rw [← ho]; exact hts _ hw
          have hty : narrow (qTy c' k) (.int v) = .int v ∧ fits (qTy c' k) (.int v) = true := by
            rcases hz with ⟨rfl, e⟩ | ⟨rfl, e⟩
            · rw [e]; exact ⟨rfl, rfl⟩
            · rw [e]; exact ⟨(q_nb (hv.resolve_left (by decide))).1, (q_nb (hv.resolve_left (by decide))).2.1⟩
          have e1 : (q_W ad cI cZ cQ h).set o (ad o, .inr (c', (q_fs ad h o c').set k (.int v))) = q_W ad cI cZ cQ (hu h o k v) := by
            have e2 := q_W_set (ad := ad) (cI := cI) (cZ := cZ) (cQ := cQ) (h := h) (o := o) (k := k) (x := v)
            simp only [q_cell, hsh] at e2
            rw [q_fs_put hk hr]
            exact e2
          refine va_put (D := D) hx hb hts (q_lays h8).1 (qTy c') (q_lays h8).2.1 (q_lays h8).2.2 hown hK hP hD hS o he (q_class h8) k hk hlink (fun _ z => z) hfin ((q_lays h8).2.1 k hk) hty.1 hty.2 (by simp [q_fs, hk]) hd (fun H1 locs1 hP1 hD1 hS1 => ?_)
          have hP1 : va_P D qCl ((q_W ad cI cZ cQ h).set o (ad o, .inr (c', (q_fs ad h o c').set k (.int v)))) H1 := hP1
          rw [e1] at hP1
          exact kk ls H1 locs1 hl hP1 hS1
        · cases h1
      · cases h1
    | getstatic idx =>
      simp only [q_okc, Bool.and_eq_true, beq_iff_eq] at hok
      obtain ⟨rfl, ht⟩ := hok
      rcases ax with _ | ⟨g', _ | ⟨a2, ax'⟩⟩ <;> first | (cases ht; done) | skip
      simp only [Bool.and_eq_true, beq_iff_eq, Bool.or_eq_true] at ht
      obtain ⟨rfl, ht⟩ := ht
      simp only [p1i, Option.some.injEq, Sum.inl.injEq] at h1; subst h1
      rcases ht with ⟨e1, rfl⟩ | ⟨e1, rfl⟩
      · rw [e1] at hown
        exact va_gets hx hb hZ hS hown (hts _ (q_inAt q_wGS rfl)) (fun _ z => z) hd (kk ls H locs hl hP hS)
      · rw [e1] at hown
        exact va_getsN hx hb hZ hS hown (va_Nw.use rfl hN.2) (fun _ z => z) hd (kk ls H locs hl hP hS)
    | iaload =>
      simp only [q_okc, beq_iff_eq] at hok; subst hok
      simp only [p1i] at h1
      rcases st with _ | ⟨i | o, _ | ⟨x | a, t⟩⟩ <;> first | (cases h1; done) | skip
      dsimp only at h1
      split at h1
      · rename_i n hsh
        split at h1
        · cases h1
        · rename_i hin
          simp only [p_int, Option.some.injEq, Sum.inl.injEq] at h1; subst h1
          have hoW : a < qNW := q_sh_W hsh (fun n z => by cases z)
          have he : (q_W ad cI cZ cQ h)[a]? = some (ad a, .inl (cI, n, .inl (h a))) := by rw [q_W_at hoW]; simp only [q_cell, hsh]
          exact va_iald hx hb hK hP a 0 he rfl hin hd (kk ls H locs hl hP hS)
      · rename_i n hsh
        split at h1
        · cases h1
        · rename_i hin
          simp only [p_int, Option.some.injEq, Sum.inl.injEq] at h1; subst h1
          have ha := q_sh_lt hsh
          have h47 : a = qGS := by
            have hh := List.all_eq_true.mp q_only47 a (List.mem_range.mpr ha)
            simp only [hsh, Bool.or_false, beq_iff_eq] at hh
            exact hh
          subst h47
          have hn9 : n = 9 := by cases hsh; rfl
          subst hn9
          exact va_ti hx hb hT hS hin rfl hd (kk ls H locs hl hP hS)
      · cases h1
    | baload =>
      simp only [q_okc, beq_iff_eq] at hok; subst hok
      simp only [p1i] at h1
      rcases st with _ | ⟨i | o, _ | ⟨x | a, t⟩⟩ <;> first | (cases h1; done) | skip
      dsimp only at h1
      split at h1
      · rename_i n hsh
        split at h1
        · cases h1
        · rename_i hin
          simp only [p_int, Option.some.injEq, Sum.inl.injEq] at h1; subst h1
          have hoW : a < qNW := q_sh_W hsh (fun n z => by cases z)
          have he : (q_W ad cI cZ cQ h)[a]? = some (ad a, .inl (cZ, n, .inl (h a))) := by rw [q_W_at hoW]; simp only [q_cell, hsh]
          exact va_zald hx hb hK hP a 1 he rfl hin hd (kk ls H locs hl hP hS)
      · cases h1
    | aaload =>
      simp only [q_okc, beq_iff_eq] at hok; subst hok
      simp only [p1i] at h1
      rcases st with _ | ⟨i | o, _ | ⟨x | a, t⟩⟩ <;> first | (cases h1; done) | skip
      dsimp only at h1
      split at h1
      · rename_i n hsh
        split at h1
        · cases h1
        · rename_i hin
          split at h1
          · rename_i r hr
            simp only [Option.some.injEq, Sum.inl.injEq] at h1; subst h1
            have hoW : a < qNW := q_sh_W hsh (fun n z => by cases z)
            have he : (q_W ad cI cZ cQ h)[a]? = some (ad a, .inl (cQ, n, .inr (.inr (.inr (.inr (fun k => (qRf a k).map ad)))))) := by rw [q_W_at hoW]; simp only [q_cell, hsh]
            have hlt : i.toNatClampNeg < n := Nat.not_le.mp fun q => hin (Or.inr q)
            refine W.aald (v := q_tr ad (.inr r)) (ty := .array .int) hx hb (hP a _ he) ((hK.2 2 _ rfl).1 n (fun j => va_rf ((qRf a j).map ad))) rfl (fun q => by cases q) (by show ¬ (i < 0 ∨ (arrV _ _ _).slots.size ≤ _); rw [arrV_size]; exact hin) (by show (arrV _ _ _).slots[_]? = _; rw [arrV_read _ _ hlt]; show some (va_rf ((qRf a i.toNatClampNeg).map ad)) = _; rw [hr]; rfl) rfl rfl hd ?_
            exact kk ls H locs hl hP hS
          · cases h1
      · cases h1
    | iastore =>
      simp only [q_okc, beq_iff_eq] at hok; subst hok
      simp only [p1i] at h1
      rcases st with _ | ⟨x | o, _ | ⟨i | o, _ | ⟨y | a, t⟩⟩⟩ <;> first | (cases h1; done) | skip
      dsimp only at h1
      split at h1
      · rename_i n hsh
        split at h1
        · cases h1
        · rename_i hin
          simp only [Option.some.injEq, Sum.inl.injEq] at h1; subst h1
          have hoW : a < qNW := q_sh_W hsh (fun n z => by cases z)
          have he : (q_W ad cI cZ cQ h)[a]? = some (ad a, .inl (cI, n, .inl (h a))) := by rw [q_W_at hoW]; simp only [q_cell, hsh]
          have e1 : (q_W ad cI cZ cQ h).set a (ad a, .inl (cI, n, .inl (upd (h a) i.toNatClampNeg x))) = q_W ad cI cZ cQ (hu h a i.toNatClampNeg x) := by
            have e2 := q_W_set (ad := ad) (cI := cI) (cZ := cZ) (cQ := cQ) (h := h) (o := a) (k := i.toNatClampNeg) (x := x)
            simp only [q_cell, hsh] at e2
            rw [q_upd]
            exact e2
          refine va_iast hx hb hK hP hD hS a 0 he rfl hin hd (fun H1 locs1 hP1 hD1 hS1 => ?_)
          rw [e1] at hP1
          exact kk ls H1 locs1 hl hP1 hS1
      · cases h1
    | bastore =>
      simp only [q_okc, beq_iff_eq] at hok; subst hok
      simp only [p1i] at h1
      rcases st with _ | ⟨x | o, _ | ⟨i | o, _ | ⟨y | a, t⟩⟩⟩ <;> first | (cases h1; done) | skip
      dsimp only at h1
      split at h1
      · rename_i n hsh
        split at h1
        · cases h1
        · rename_i hin
          split at h1
          · rename_i hx01
            simp only [Option.some.injEq, Sum.inl.injEq] at h1; subst h1
            have hoW : a < qNW := q_sh_W hsh (fun n z => by cases z)
            have he : (q_W ad cI cZ cQ h)[a]? = some (ad a, .inl (cZ, n, .inl (h a))) := by rw [q_W_at hoW]; simp only [q_cell, hsh]
            have e1 : (q_W ad cI cZ cQ h).set a (ad a, .inl (cZ, n, .inl (upd (h a) i.toNatClampNeg (vp_nar .boolean x)))) = q_W ad cI cZ cQ (hu h a i.toNatClampNeg x) := by
              have e2 := q_W_set (ad := ad) (cI := cI) (cZ := cZ) (cQ := cQ) (h := h) (o := a) (k := i.toNatClampNeg) (x := x)
              simp only [q_cell, hsh] at e2
              rw [(q_nb hx01).2.2, q_upd]
              exact e2
            refine va_zast hx hb hK hP hD hS a 1 he rfl hin hd (fun H1 locs1 hP1 hD1 hS1 => ?_)
            rw [e1] at hP1
            exact kk ls H1 locs1 hl hP1 hS1
          · cases h1
      · cases h1
    | invokestatic idx =>
      simp only [q_okc, Bool.and_eq_true, beq_iff_eq] at hok
      obtain ⟨rfl, ht⟩ := hok
      rcases ax with _ | ⟨j', _ | ⟨na, _ | ⟨a3, ax'⟩⟩⟩ <;> first | (cases ht; done) | skip
      simp only [Bool.and_eq_true, Bool.or_eq_true, q_cal, decide_eq_true_eq, beq_iff_eq] at ht
      obtain ⟨⟨hlnk, ⟨⟨hna, hj'⟩, hF⟩, hW⟩, hst⟩ := ht
      rcases j' with _ | _ | j'
      · have hw : Cond.methodLink (q_own j) idx (qmY 0) ∈ q_WS := by
          rcases hlnk with z | z <;> rcases q_link z with ⟨-, -, -, q⟩ | ⟨-, q⟩ <;> first | exact q | cases q
        rw [q_yMath.1] at hw
        have hW' : 20 ≤ qmW j := hW
        have hF' : 1 ≤ qmF j := hF
        rcases st with _ | ⟨x | o, t⟩ <;> first | (cases h1; done) | skip
        simp only [p1i] at h1
        split at h1
        · rename_i hlen
          simp only [p_int, Option.some.injEq, Sum.inl.injEq] at h1; subst h1
          exact va_mabs hx hb (hml.trans hl.1.symm) hown (hts _ hw) (hts _ (q_inAt q_wAbs.2 rfl)) (hts _ (q_inAt q_wMath rfl)) (hts _ (q_inAt q_wAbs.1 rfl)) (by omega) (by rw [q_sum]; omega) hc0 hs0 hd (kk ls H locs hl hP hS)
        · cases h1
      · have hw : Cond.methodLink (q_own j) idx (qmY 1) ∈ q_WS := by
          rcases hlnk with z | z <;> rcases q_link z with ⟨-, -, -, q⟩ | ⟨-, q⟩ <;> first | exact q | cases q
        rw [q_yMath.2] at hw
        have hW' : 21 ≤ qmW j := hW
        have hF' : 1 ≤ qmF j := hF
        rcases st with _ | ⟨y | o, _ | ⟨x | o, t⟩⟩ <;> first | (cases h1; done) | skip
        simp only [p1i] at h1
        split at h1
        · rename_i hlen
          simp only [p_int, Option.some.injEq, Sum.inl.injEq] at h1; subst h1
          exact va_mmin hx hb (hml.trans hl.1.symm) hown (hts _ hw) (hts _ (q_inAt q_wMin.2 rfl)) (hts _ (q_inAt q_wMath rfl)) (hts _ (q_inAt q_wMin.1 rfl)) (by omega) (by rw [q_sum]; omega) hc0 hs0 hd (kk ls H locs hl hP hS)
        · cases h1
      · simp only [p1i] at h1
        split at h1 <;> cases h1
    | invokevirtual idx =>
      simp only [p1i] at h1
      split at h1
      · split at h1 <;> cases h1
      · cases h1
    | ireturn =>
      simp only [p1i] at h1
      split at h1
      · split at h1 <;> cases h1
      · cases h1
    | return_ =>
      simp only [p1i] at h1
      split at h1 <;> cases h1
    | new idx =>
      simp only [p1i] at h1
      split at h1 <;> cases h1
    | _ => cases h1
end QSTEP
end
section
/-! A CALL of the pure machine is a call of the machine; a whole method keeps its contract. -/
def q_rm (j : Nat) : Room := { frames := qmF j, cells := 0, slots := 0, locals := qmW j }
def q_Pre (D : va_G) (ad : Nat → Nat) (cI cZ cQ : ClassId) (h : HP) (U : State) : Prop := va_P D qCl (q_W ad cI cZ cQ h) U.heap ∧ q_Sta D ad cI cZ cQ U
def q_Q (D : va_G) (ad : Nat → Nat) (cI cZ cQ : ClassId) (v : Option Int32) (h' : HP) : Array Value → State → Outcome → State → Prop := match v with
  | some r => va_Qi (fun (r' : Int32) (_ : Unit) => r' = r) (fun _ t => va_P D qCl (q_W ad cI cZ cQ h') t.heap) (q_A ad)
  | none => va_Qv (fun (_ : Unit) => True) (fun _ t => va_P D qCl (q_W ad cI cZ cQ h') t.heap) (q_A ad)
/-- the contract: method j, called with these values on this heap, comes to that end -/
def q_Met (l : Launch) (D : va_G) (ad : Nat → Nat) (cI cZ cQ : ClassId) (j : Nat) (as : List PV) (h : HP) (v : Option Int32) (h' : HP) : Prop :=
  Met l (qmY j) (q_ws j) (q_rm j) (va_Pc (as.map (q_tr ad)) (q_Pre D ad cI cZ cQ h)) (q_Q D ad cI cZ cQ v h') 0 0 (q_A ad)
theorem q_Sta_at {D : va_G} {ad : Nat → Nat} {cI cZ cQ : ClassId} {s U : State} {H : Heap} {locs : List Loc} (hSt : q_Sta D ad cI cZ cQ s) (hS : va_S (q_A ad) s.heap H locs) (hU : U.heap = H) (hW : s.WarmedH U.vm) : q_Sta D ad cI cZ cQ U := by
  obtain ⟨hK, hZ, hT, hN, hap⟩ := hSt
  subst hU
  exact ⟨va_K.moved hW.alike hK, (hZ.kept hS.2.1).moved hW.alike, (hT.kept hS.2.1).moved hW.alike, ⟨hN.1.warmM hW, hN.2.warmF hW⟩, hap⟩
theorem q_blind {D : va_G} {ad : Nat → Nat} {cI cZ cQ : ClassId} {as : List Value} {h : HP} : FrameBlind (va_Pc as (q_Pre D ad cI cZ cQ h)) := by
  intro a U g mk hv
  obtain ⟨h0, hP, hK, hZ, hT, hN, hap⟩ := hv
  exact ⟨h0, hP, va_K.moved (u := U) (U := U.calling g mk a) (Vm.Alike.refl U.vm) hK, va_Z.moved (u := U) (U := U.calling g mk a) (Vm.Alike.refl U.vm) hZ, va_T.moved (u := U) (U := U.calling g mk a) (Vm.Alike.refl U.vm) hT, ⟨hN.1.same rfl rfl, hN.2.same rfl rfl⟩, hap⟩
theorem q_recv {D : va_G} {ad : Nat → Nat} {cI cZ cQ : ClassId} {h : HP} {s : State} {H : Heap} {o c : Nat} (hK : va_K D qCl (q_Tys cI cZ cQ) s) (hP : va_P D qCl (q_W ad cI cZ cQ h) H) (hsh : qSh o = some (.inl c)) (h8 : c < 8) : ∃ cellB : Cell, H[ad o]? = some cellB ∧ cellB.vm.isStatics = false ∧ s.vm.findClass (qC c).1 = some cellB.cls := by
  have hoW : o < qNW := q_sh_W hsh (fun n z => by cases z)
  have he : (q_W ad cI cZ cQ h)[o]? = some (ad o, .inr (c, q_fs ad h o c)) := by rw [q_W_at hoW]; simp only [q_cell, hsh]
  obtain ⟨r, hr, cell, g1, g2, g3, -⟩ := hP o _ he
  have hk := (hK.1 c _ (q_class h8)).2.1
  exact ⟨cell, g1, by rw [g3]; rfl, by rw [g2]; exact hk⟩
theorem q_wp {j : Nat} (h2 : 2 ≤ j) (hj : j < 137) : Cond.initialized (q_own j) ∈ q_WS ∧ ((qmY j).cls ≠ "java/lang/invoke/MethodHandle" ∧ (qmY j).cls ≠ "java/lang/invoke/VarHandle") ∧ (parseMethodDescriptor (qmY j).desc).map (fun d => d.parameters.length) = some (if qmS j = true then qmN j else qmN j - 1) ∧ plainName (qmY j).cls = true ∧ (qmS j = true ∨ 1 ≤ qmN j) ∧ qmN j ≤ qmL j := by
  have h := qWp_ok h2 hj
  simp only [qWpOk, Bool.and_eq_true, decide_eq_true_eq] at h
  exact ⟨q_inAt h.1.1.1.1.1.1.2 rfl, h.1.1.1.1.2, h.1.1.1.2, h.1.1.2, h.1.2, h.2⟩
theorem q_wpI {j : Nat} (h2 : 2 ≤ j) (hj : j < 137) (hs : qmS j = false) : Cond.instanceMethod (qmY j) ∈ q_WS ∧ Cond.selects (q_own j) (qmY j) (qmY j) ∈ q_WS ∧ qmC j < 8 ∧ (qC (qmC j)).1 = q_own j := by
  have h := qWp_ok h2 hj
  simp only [qWpOk, Bool.and_eq_true, decide_eq_true_eq, hs, Bool.false_eq_true, if_false] at h
  have g := h.1.1.1.1.1.2
  exact ⟨q_inAt g.1.1.1 rfl, q_inAt g.1.1.2 rfl, g.1.2, g.2⟩
theorem q_wpS {j : Nat} (h2 : 2 ≤ j) (hj : j < 137) (hs : qmS j = true) : Cond.static (qmY j) ∈ q_WS := by
  have h := qWp_ok h2 hj
  simp only [qWpOk, Bool.and_eq_true, decide_eq_true_eq, hs, if_true] at h
  exact q_inAt h.1.1.1.1.1.2 rfl
section QCALL
variable {p : Program} {l : Launch} {e : Env} {R : Room} {s : State} {m : MethodId} {args : Array Value} {below : List Frame} {meth : Method} {c : Code} {H : Heap} {locs : List Loc} {cells slots : Nat} {Q : State → Prop}
variable {D : va_G} {ad : Nat → Nat} {cI cZ cQ : ClassId} {j : Nat} {ls : Array Slot}
/-- behind a call: an answer or none -/
theorem q_goon {a : Array Value} {pc : Nat} {st0 : List Value} {t : List PV} {v : Option Int32} {h' : HP} (hr : va_Run p l e R s m args below meth c H locs cells slots 0 0 (F0 m pc ls st0) (t.map (q_tr ad)) (q_Q D ad cI cZ cQ v h' a) (q_A ad)) (hS : va_S (q_A ad) s.heap H locs)
    (kk : ∀ (H' : Heap) (locs' : List Loc), va_P D qCl (q_W ad cI cZ cQ h') H' → va_S (q_A ad) s.heap H' locs' → W p l e R s m args below meth c H' locs' cells slots Q (F0 m (pc + 3) ls (((v.map Sum.inl).toList ++ t).map (q_tr ad)))) : W p l e R s m args below meth c H locs cells slots Q (F0 m pc ls st0) := by
  cases v with
  | some r =>
    refine va_calli (S := Unit) (a := a) hr hS (fun _ _ z => z) (fun _ z => z) (fun r' u t1 H1 locs1 ht hvm hpost hB hz hk hS1 => ?_)
    have hpost : r' = r := hpost
    subst hpost
    have hB : va_P D qCl (q_W ad cI cZ cQ h') t1.heap := hB
    rw [ht] at hB
    exact kk H1 locs1 hB hS1
  | none =>
    refine va_callv (S := Unit) (a := a) hr hS (fun _ _ z => z) (fun _ z => z) (fun u t1 H1 locs1 ht hvm hpost hB hz hk hS1 => ?_)
    have hB : va_P D qCl (q_W ad cI cZ cQ h') t1.heap := hB
    rw [ht] at hB
    exact kk H1 locs1 hB hS1
set_option maxHeartbeats 4000000 in
set_option maxRecDepth 100000 in
theorem q_call1 (hj : j < 137) (hE : q_Env p s m args meth c j) (hSt : q_Sta D ad cI cZ cQ s) (hRf : qmF j ≤ R.frames) (hRl : qmW j ≤ R.locals) (hc0 : cells ≤ R.cells) (hs0 : slots ≤ R.slots)
    {pc j' : Nat} {L : PL} {st as t : List PV} {h h' : HP} {v : Option Int32} (h1 : p1 j (pc, L, st, h) = some (.inr (.inr (j', as, t)))) (hM : 2 ≤ j' → j' < 137 → as.length = qmN j' → q_Met l D ad cI cZ cQ j' as h v h') (hl : lv_has ls (qmL j) (q_tl ad L)) (hP : va_P D qCl (q_W ad cI cZ cQ h) H) (hS : va_S (q_A ad) s.heap H locs)
    (kk : ∀ (H' : Heap) (locs' : List Loc), va_P D qCl (q_W ad cI cZ cQ h') H' → va_S (q_A ad) s.heap H' locs' → W p l e R s m args below meth c H' locs' cells slots Q (F0 m (pc + 3) ls (((v.map Sum.inl).toList ++ t).map (q_tr ad)))) :
    W p l e R s m args below meth c H locs cells slots Q (F0 m pc ls (st.map (q_tr ad))) := by
  obtain ⟨hx, hb, hml, hown, hts, hret, hlk⟩ := hE
  simp only [p1] at h1
  cases hq : pe_at (qCod j) pc with
  | none => rw [hq] at h1; cases h1
  | some w =>
    obtain ⟨i, n, ax⟩ := w
    rw [hq] at h1
    obtain ⟨hd, hok⟩ := q_row hj hq
    dsimp only at h1
    cases i with
    | invokevirtual idx =>
      simp only [q_okc, Bool.and_eq_true, beq_iff_eq] at hok
      obtain ⟨rfl, ht⟩ := hok
      rcases ax with _ | ⟨j'', _ | ⟨na, _ | ⟨a3, ax'⟩⟩⟩ <;> first | (cases ht; done) | skip
      simp only [Bool.and_eq_true, q_cal, decide_eq_true_eq, beq_iff_eq, Bool.not_eq_true'] at ht
      obtain ⟨⟨hlnk, ⟨⟨hna, hj'⟩, hF⟩, hW⟩, hst⟩ := ht
      simp only [p1i] at h1
      split at h1
      · rename_i hcnd
        obtain ⟨hn1, hn2, hrec⟩ := hcnd
        simp only [Option.some.injEq, Sum.inr.injEq, Prod.mk.injEq] at h1
        obtain ⟨rfl, rfl, rfl⟩ := h1
        have h2' : 2 ≤ j'' := by
          rcases j'' with _ | _ | k
          · exact absurd hst (by decide +kernel)
          · exact absurd hst (by decide +kernel)
          · omega
        have hlen : (st.take na).reverse.length = qmN j'' := by simp [List.length_take]; omega
        replace hM : Met l (qmY j'') (q_ws j'') (q_rm j'') (va_Pc ((st.take na).reverse.map (q_tr ad)) (q_Pre D ad cI cZ cQ h)) (q_Q D ad cI cZ cQ v h') 0 0 (q_A ad) := hM h2' hj' hlen
        have hw : Cond.methodLink (q_own j) idx (qmY j'') ∈ q_WS := by
          rcases q_link hlnk with ⟨q, -⟩ | ⟨-, q⟩
          · cases q
          · exact q
        obtain ⟨w1, w2, w8, wc⟩ := q_wpI h2' hj' hst
        obtain ⟨u1, u2, u3, -, -, -⟩ := q_wp h2' hj'
        rw [hst] at u3
        have hsplit : st = (st.take na).reverse.reverse ++ st.drop na := by rw [List.reverse_reverse, List.take_append_drop]
        have htl : (st.drop na).length ≤ 8 := by rw [List.length_drop]; omega
        generalize (st.take na).reverse = as at hrec hM hlen hsplit
        generalize st.drop na = t at hsplit htl kk
        subst hsplit
        simp only [p_recv, hst, Bool.false_or] at hrec
        rcases as with _ | ⟨x | o, as⟩
        · cases hrec
        · cases hrec
        · dsimp only at hrec
          split at hrec
          · rename_i c' hsh
            have hc' : c' = qmC j'' := by simpa using hrec
            subst hc'
            obtain ⟨cellB, b1, b2, b3⟩ := q_recv (s := s) hSt.1 hP hsh w8
            rw [wc] at b3
            have hrun := va_runV (p := p) (l := l) (e := e) (R := R) (s := s) (m := m) (args := args) (below := below) (meth := meth) (c := c) (H := H) (locs := locs) (cells := cells) (slots := slots) (Ts := q_WS) (own := q_own j) (C := q_own j'') (b := ad o) (As := as.map (q_tr ad)) (rest := t.map (q_tr ad)) (g := F0 m pc ls (((Sum.inr o :: as).reverse ++ t).map (q_tr ad))) ⟨hx, hb, hml, hown, hts⟩ hM
              (cw := ⟨callB_of (qmN j'' - 1) hts (q_goodIn h2' hj' (fun _ z => z)) rfl rfl rfl (hts _ u1) (hts _ hw) ⟨u2.1, u2.2, u3⟩ ⟨by show qmF j'' + 1 ≤ R.frames; omega, by show 8 + (qmL j'' + 11) + qmW j'' ≤ R.locals; omega⟩, hts _ w1, hts _ w2⟩)
              ⟨q_blind, ⟨cellB, b1, b2, b3⟩, fun U hU hWU => ⟨rfl, by rw [hU]; exact hP, q_Sta_at hSt hS hU hWU⟩⟩ rfl (by simp at hlen ⊢; omega) hl.1 (by simp [q_tr]) (by rw [q_sum]; show 2 * 0 + _ ≤ 8; omega) hd ⟨hc0, hs0⟩
            exact q_goon hrun hS kk
          · cases hrec
      · cases h1
    | invokestatic idx =>
      simp only [q_okc, Bool.and_eq_true, beq_iff_eq] at hok
      obtain ⟨rfl, ht⟩ := hok
      rcases ax with _ | ⟨j'', _ | ⟨na, _ | ⟨a3, ax'⟩⟩⟩ <;> first | (cases ht; done) | skip
      simp only [Bool.and_eq_true, Bool.or_eq_true, q_cal, decide_eq_true_eq, beq_iff_eq] at ht
      obtain ⟨⟨hlnk, ⟨⟨hna, hj'⟩, hF⟩, hW⟩, hst⟩ := ht
      have h2' : 2 ≤ j'' := by
        rcases j'' with _ | _ | k
        · simp only [p1i] at h1
          split at h1
          · split at h1 <;> cases h1
          · cases h1
        · simp only [p1i] at h1
          split at h1
          · split at h1 <;> cases h1
          · cases h1
        · omega
      obtain ⟨k, rfl⟩ : ∃ k, j'' = k + 2 := ⟨j'' - 2, by omega⟩
      simp only [p1i] at h1
      split at h1
      · rename_i hcnd
        obtain ⟨hn1, hn2⟩ := hcnd
        simp only [Option.some.injEq, Sum.inr.injEq, Prod.mk.injEq] at h1
        obtain ⟨rfl, rfl, rfl⟩ := h1
        have hlen : (st.take na).reverse.length = qmN (k + 2) := by simp [List.length_take]; omega
        replace hM : Met l (qmY (k + 2)) (q_ws (k + 2)) (q_rm (k + 2)) (va_Pc ((st.take na).reverse.map (q_tr ad)) (q_Pre D ad cI cZ cQ h)) (q_Q D ad cI cZ cQ v h') 0 0 (q_A ad) := hM h2' hj' hlen
        have w1 := q_wpS h2' hj' hst
        obtain ⟨u1, u2, u3, -, -, -⟩ := q_wp h2' hj'
        rw [hst] at u3
        have hsplit : st = (st.take na).reverse.reverse ++ st.drop na := by rw [List.reverse_reverse, List.take_append_drop]
        have htl : (st.drop na).length ≤ 8 := by rw [List.length_drop]; omega
        generalize (st.take na).reverse = as at hM hlen hsplit
        generalize st.drop na = t at hsplit htl kk
        subst hsplit
        have hroom : (q_rm (k + 2)).frames + 1 ≤ R.frames ∧ 8 + (qmL (k + 2) + 11) + (q_rm (k + 2)).locals ≤ R.locals := ⟨by show qmF (k + 2) + 1 ≤ R.frames; omega, by show 8 + (qmL (k + 2) + 11) + qmW (k + 2) ≤ R.locals; omega⟩
        have hpre : PreS s H (va_Pc (as.map (q_tr ad)) (q_Pre D ad cI cZ cQ h)) (as.map (q_tr ad)) := ⟨q_blind, fun U hU hWU => ⟨rfl, by rw [hU]; exact hP, q_Sta_at hSt hS hU hWU⟩⟩
        have hstk : (F0 m pc ls ((as.reverse ++ t).map (q_tr ad))).stack = (as.map (q_tr ad)).reverse ++ t.map (q_tr ad) := by simp
        have hbig : 2 * (F0 m pc ls ((as.reverse ++ t).map (q_tr ad))).monitorRoom + ((t.map (q_tr ad)).map fun v => v.category).sum ≤ 8 := by rw [q_sum]; show 2 * 0 + _ ≤ 8; omega
        rcases hlnk with z | z
        · have hw : Cond.methodLink (q_own j) idx (qmY (k + 2)) ∈ q_WS := by
            rcases q_link z with ⟨q, -⟩ | ⟨-, q⟩
            · cases q
            · exact q
          have hrun := va_runS (p := p) (l := l) (e := e) (R := R) (s := s) (m := m) (args := args) (below := below) (meth := meth) (c := c) (H := H) (locs := locs) (cells := cells) (slots := slots) (Ts := q_WS) (own := q_own j) (As := as.map (q_tr ad)) (rest := t.map (q_tr ad)) (g := F0 m pc ls ((as.reverse ++ t).map (q_tr ad))) ⟨hx, hb, hml, hown, hts⟩ hM
            (cw := ⟨callB_of (qmN (k + 2)) hts (q_goodIn h2' hj' (fun _ z => z)) rfl rfl rfl (hts _ u1) (hts _ hw) ⟨u2.1, u2.2, u3⟩ hroom, hts _ w1⟩) hpre rfl (by simp at hlen ⊢; omega) hl.1 hstk hbig hd ⟨hc0, hs0⟩
          exact q_goon hrun hS kk
        · rcases q_link z with ⟨-, q1, q2, q3⟩ | ⟨q, -⟩
          · have hw : va_Nw (.methodLinkNest (q_own j) idx (qmY (k + 2)) "CashRecycler") s := by rw [q1, q2, q3]; exact hSt.2.2.2.1.1
            have hrun := va_runSN (p := p) (l := l) (e := e) (R := R) (s := s) (m := m) (args := args) (below := below) (meth := meth) (c := c) (H := H) (locs := locs) (cells := cells) (slots := slots) (Ts := q_WS) (own := q_own j) (host := "CashRecycler") (As := as.map (q_tr ad)) (rest := t.map (q_tr ad)) (g := F0 m pc ls ((as.reverse ++ t).map (q_tr ad))) ⟨hx, hb, hml, hown, hts⟩ hM
              (cw := ⟨va_cnB (qmN (k + 2)) hts (q_goodIn h2' hj' (fun _ z => z)) rfl rfl rfl hw (hts _ u1) ⟨u2.1, u2.2, u3⟩ hroom, hts _ w1, trivial⟩) hpre rfl (by simp at hlen ⊢; omega) hl.1 hstk hbig hd ⟨hc0, hs0⟩
            exact q_goon hrun hS kk
          · exact absurd rfl q
      · cases h1
    | _ => exfalso; revert h1; simp only [p1i, p_int, p_br]; (repeat' split) <;> (intro z; cases z)
end QCALL
end
section
/-! WHOLE METHODS: what the pure machine answers, the machine answers. -/
theorem q_sl (ad : Nat → Nat) : ∀ as : List PV, (lg_sl (as.map (q_tr ad))).length = as.length
  | [] => rfl
  | v :: t => by
    have h := q_sl ad t
    simp only [lg_sl, List.map_cons, List.flatMap_cons, List.length_append, List.length_cons] at h ⊢
    rw [h, if_neg (by rw [q_tr_cat]; decide)]
    simp only [List.length_cons, List.length_nil]
    omega
theorem q_args (ad : Nat → Nat) : ∀ (as : List PV) (i : Nat), lv_args i (as.map (q_tr ad)) = q_tl ad (pl_in i as)
  | [], _ => rfl
  | v :: t, i => by
    simp only [List.map_cons, lv_args, pl_in, q_tl]
    rw [if_neg (by rw [q_tr_cat]; decide), q_args ad t (i + 1)]
    rfl
section QSOUND
variable {p : Program} {l : Launch} {e : Env} {R : Room} {s : State} {m : MethodId} {args : Array Value} {below : List Frame} {meth : Method} {c : Code} {cells slots : Nat} {Q : State → Prop}
variable {D : va_G} {ad : Nat → Nat} {cI cZ cQ : ClassId} {j : Nat}
theorem q_walk (h2 : 2 ≤ j) (hj : j < 137) (hE : q_Env p s m args meth c j) (hSt : q_Sta D ad cI cZ cQ s) (hRf : qmF j ≤ R.frames) (hRl : qmW j ≤ R.locals) (hc0 : cells ≤ R.cells) (hs0 : slots ≤ R.slots) {r : PO} {n : Nat}
    (IH : ∀ k, k < n → ∀ (j : Nat) (as : List PV) (h : HP) (v : Option Int32) (h' : HP), pm k j (0, pl_in 0 as, [], h) = some (.inl v, h') → 2 ≤ j → j < 137 → as.length = qmN j → q_Met l D ad cI cZ cQ j as h v h')
    (K : ∀ (pc : Nat) (L : PL) (st : List PV) (h : HP) (H : Heap) (locs : List Loc) (ls : Array Slot), p1 j (pc, L, st, h) = some (.inr (.inl r)) → lv_has ls (qmL j) (q_tl ad L) → va_P D qCl (q_W ad cI cZ cQ h) H → va_S (q_A ad) s.heap H locs → W p l e R s m args below meth c H locs cells slots Q (F0 m pc ls (st.map (q_tr ad)))) :
    ∀ k, k ≤ n → ∀ (pc : Nat) (L : PL) (st : List PV) (h : HP) (H : Heap) (locs : List Loc) (ls : Array Slot), pm k j (pc, L, st, h) = some r → lv_has ls (qmL j) (q_tl ad L) → va_P D qCl (q_W ad cI cZ cQ h) H → va_S (q_A ad) s.heap H locs → W p l e R s m args below meth c H locs cells slots Q (F0 m pc ls (st.map (q_tr ad))) := by
  intro k
  induction k with
  | zero => intro _ pc L st h H locs ls hp; cases hp
  | succ k ih =>
    intro hk pc L st h H locs ls hp hl hP hS
    rw [pm] at hp
    cases h1 : p1 j (pc, L, st, h) with
    | none => rw [h1] at hp; cases hp
    | some z =>
      rw [h1] at hp
      rcases z with g | r' | ⟨j', as, t⟩
      · dsimp only at hp
        exact q_step1 h2 hj hE hSt hRf hRl hc0 hs0 h1 hl hP hS (fun ls' H' locs' hl' hP' hS' => ih (by omega) g.1 g.2.1 g.2.2.1 g.2.2.2 H' locs' ls' hp hl' hP' hS')
      · dsimp only at hp
        cases hp
        exact K pc L st h H locs ls h1 hl hP hS
      · dsimp only at hp
        cases hq : pm k j' (0, pl_in 0 as, [], h) with
        | none => rw [hq] at hp; cases hp
        | some y =>
          rw [hq] at hp
          obtain ⟨o, h'⟩ := y
          cases o with
          | inr x => cases hp
          | inl v =>
            dsimp only at hp
            exact q_call1 hj hE hSt hRf hRl hc0 hs0 h1 (fun a b d => IH k (by omega) j' as h v h' hq a b d) hl hP hS (fun H' locs' hP' hS' => ih (by omega) (pc + 3) L _ h' H' locs' ls hp hl hP' hS')
theorem q_end (hj : j < 137) (hE : q_Env p s m args meth c j) {v : Option Int32} {h' : HP} {pc : Nat} {L : PL} {st : List PV} {h : HP} {H : Heap} {locs : List Loc} {ls : Array Slot} (h1 : p1 j (pc, L, st, h) = some (.inr (.inl (.inl v, h')))) (hP : va_P D qCl (q_W ad cI cZ cQ h) H) (hS : va_S (q_A ad) s.heap H locs) :
    W p l e R s m args below meth c H locs cells slots (MQ below (q_Q D ad cI cZ cQ v h') args s cells slots (q_A ad)) (F0 m pc ls (st.map (q_tr ad))) := by
  obtain ⟨hx, hb, hml, hown, hts, hret, hlk⟩ := hE
  simp only [p1] at h1
  cases hq : pe_at (qCod j) pc with
  | none => rw [hq] at h1; cases h1
  | some w =>
    obtain ⟨i, n, ax⟩ := w
    rw [hq] at h1
    obtain ⟨hd, hok⟩ := q_row hj hq
    dsimp only at h1
    cases i with
    | ireturn =>
      simp only [q_okc, Bool.and_eq_true, beq_iff_eq] at hok
      obtain ⟨rfl, ht⟩ := hok
      rcases ax with _ | ⟨z, _ | ⟨a2, ax'⟩⟩ <;> first | (cases ht; done) | skip
      simp only [Bool.and_eq_true, Bool.or_eq_true, beq_iff_eq, decide_eq_true_eq] at ht
      rcases st with _ | ⟨x | o, _ | ⟨y, t⟩⟩ <;> first | (cases h1; done) | skip
      simp only [p1i] at h1
      split at h1
      · rename_i hz
        simp only [Option.some.injEq, Sum.inr.injEq, Sum.inl.injEq, Prod.mk.injEq] at h1
        obtain ⟨rfl, rfl⟩ := h1
        have hqc : ∀ t : State, t.heap = H → s.WarmedH t.vm → q_Q D ad cI cZ cQ (some x) h args s (.returned (some (.int x))) t := fun t ht _ => ⟨⟨x, (), rfl, rfl, by show va_P _ _ _ t.heap; rw [ht]; exact hP⟩, hS.F ht⟩
        rcases ht with ⟨rfl, e1⟩ | ⟨rfl, e1⟩
        · exact W.zret hx hb (hret.trans e1) rfl hqc hS.2.2 hd
        · exact W.zret hx hb (hret.trans e1) (q_nb (hz.resolve_left (by decide))).1 hqc hS.2.2 hd
      · cases h1
    | return_ =>
      simp only [q_okc, Bool.and_eq_true, beq_iff_eq, decide_eq_true_eq] at hok
      obtain ⟨rfl, e1⟩ := hok
      rcases st with _ | ⟨x, t⟩ <;> first | (cases h1; done) | skip
      simp only [p1i, Option.some.injEq, Sum.inr.injEq, Sum.inl.injEq, Prod.mk.injEq] at h1
      obtain ⟨rfl, rfl⟩ := h1
      exact W.vret hx hb (hret.trans e1) (fun t ht _ => ⟨⟨(), rfl, trivial, by show va_P _ _ _ t.heap; rw [ht]; exact hP⟩, hS.F ht⟩) hS.2.2 hd
    | _ => exfalso; revert h1; simp only [p1i, p_int, p_br]; (repeat' split) <;> (intro z; cases z)
end QSOUND
theorem q_sound (l : Launch) (D : va_G) (ad : Nat → Nat) (cI cZ cQ : ClassId) : ∀ (n j : Nat) (as : List PV) (h : HP) (v : Option Int32) (h' : HP), pm n j (0, pl_in 0 as, [], h) = some (.inl v, h') → 2 ≤ j → j < 137 → as.length = qmN j → q_Met l D ad cI cZ cQ j as h v h' := by
  intro n
  induction n using Nat.strongRecOn with
  | _ n IH =>
    intro j as h v h' hp h2 hj hlen
    obtain ⟨u1, u2, u3, u4, u5, u6⟩ := q_wp h2 hj
    refine Met.ofW (cc := qmB j) (maxL := qmL j) (ret := qmR j) u4 rfl ?_
    intro p e s m args below meth c s₁ B hml hv
    obtain ⟨rfl, hP, hSt⟩ := hv
    have hE : q_Env p s m (as.map (q_tr ad)).toArray meth c j := ⟨B.exec, B.bytes, hml, findClass_of_methodNamed B.named, fun w hw => atoms_spec (ws := q_ws j) B.pre w (List.mem_cons_of_mem _ hw), B.returns, B.notSynchronized⟩
    have hl := lv_entry (as.map (q_tr ad)) (n := qmL j) (by rw [q_sl]; omega)
    rw [lg_entry_eq]
    rw [q_args] at hl
    have key := q_walk (p := p) (l := l) (e := e) (R := (headSpec (q_ws j) (q_rm j)).room) (below := below) (cells := 0) (slots := 0) (Q := MQ below (q_Q D ad cI cZ cQ v h') (as.map (q_tr ad)).toArray s 0 0 (q_A ad)) h2 hj hE hSt (show qmF j ≤ qmF j from Nat.le_refl _) (show qmW j ≤ qmW j from Nat.le_refl _) (Nat.zero_le _) (Nat.zero_le _) (r := (.inl v, h')) (n := n) IH (fun pc L st h H locs ls h1 hl' hP' hS' => q_end hj hE h1 hP' hS') n (Nat.le_refl _)
    exact key 0 (pl_in 0 as) [] h s.heap [] _ hp hl hP va_S.rf
/-- **a call of method j comes to the end that the pure machine gives it** -/
theorem q_met {l : Launch} {D : va_G} {ad : Nat → Nat} {cI cZ cQ : ClassId} {j : Nat} {as : List PV} {h h' : HP} {v : Option Int32} (hq : Ec j as h (.inl v, h')) (h2 : 2 ≤ j) (hj : j < 137) (hlen : as.length = qmN j) : q_Met l D ad cI cZ cQ j as h v h' := by
  obtain ⟨n, hn⟩ := hq
  exact q_sound l D ad cI cZ cQ n j as h v h' hn h2 hj hlen
end
section
/-! METHODS THAT THROW: the exception is made and thrown; the world stays as it was. -/
def q_steD : String := "[Ljava/lang/StackTraceElement;"
def q_lisD : String := "Ljava/util/List;"
def q_chn : List String := ["java/lang/RuntimeException", "java/lang/Exception"]
/-- what a throw asks beside the tables' words -/
def q_dcl : List MethodName := [⟨"java/lang/RuntimeException", "<init>", "()V"⟩, ⟨"java/lang/Exception", "<init>", "()V"⟩, ⟨"java/lang/Throwable", "<init>", "()V"⟩]
def q_Thr (ad : Nat → Nat) (U : State) : Prop := ((∀ x ∈ qEx, va_Nw (.castable x x) U) ∧ ∀ y ∈ q_dcl, va_Nw (.declares y) U) ∧ (va_Zq "java/lang/Throwable" "UNASSIGNED_STACK" q_steD (q_A ad) U U.heap ∧ va_Zq "java/lang/Throwable" "SUPPRESSED_SENTINEL" q_lisD (q_A ad) U U.heap) ∧
  va_Nw (.laysStatic "java/lang/Throwable" "UNASSIGNED_STACK" q_steD) U ∧ va_Nw (.laysStatic "java/lang/Throwable" "SUPPRESSED_SENTINEL" q_lisD) U
/-- no cell of the world is one of statics -/
theorem q_notStatics {D : va_G} {ad : Nat → Nat} {cI cZ cQ : ClassId} {h : HP} {H : Heap} {a : Nat} {cell : Cell} (hP : va_P D qCl (q_W ad cI cZ cQ h) H) (hc : H[a]? = some cell) (hs : cell.vm.isStatics = true) : ¬ q_A ad a := by
  rintro ⟨o, ho, rfl⟩
  have h1 := hP o _ (q_W_at ho)
  unfold va_at at h1
  split at h1
  · rename_i z hz
    rw [hc] at h1
    have e := Option.some.inj h1
    subst e
    revert hs
    unfold vp_cell
    split <;> (intro q; cases q)
  · obtain ⟨r, -, cell', g1, g2, g3, -⟩ := h1
    rw [hc] at g1
    cases g1
    rw [g3] at hs
    cases hs
theorem q_ls {D : va_G} {ad : Nat → Nat} {cI cZ cQ : ClassId} {h : HP} {s U : State} {H : Heap} {locs : List Loc} {C n d : String} (hP : va_P D qCl (q_W ad cI cZ cQ h) s.heap) (hS : va_S (q_A ad) s.heap H locs) (hU : U.heap = H) (hW : s.WarmedH U.vm) (hl : va_Nw (.laysStatic C n d) s) : va_Nw (.laysStatic C n d) U := by
  have h1 : (Cond.laysStatic C n d).before #[] (s.setVm U.vm) = true := Cond.before_shiftedFace (State.Shifted.of_warmed hW) _ rfl hl
  obtain ⟨c, k, i, f, a, cell, g1, g2, g3, g4, g5, g6, g7, g8, g9⟩ := Cond.laysStatic_spec (args := #[]) (first := s.setVm U.vm) (o := none) (s := s.setVm U.vm) (idx := []) h1
  have g5' : s.heap[a]? = some cell := g5
  have hA : ¬ q_A ad a := q_notStatics hP g5' g6
  have e5 : U.heap[a]? = some cell := by rw [hU, hS.2.1 a (Array.getElem?_eq_some_iff.mp g5').1 hA]; exact g5'
  have e1 : U.vm.findClass C = some c := g1
  have e2 : U.fieldFound? C n d = some (c, k, i, f) := g2
  show (Cond.laysStatic C n d).before #[] U = true
  simp [Cond.before, Cond.holds, Cond.value, e1, e2, g3, g4, e5, g6, g7, g8, g9]
theorem q_Thr_at {D : va_G} {ad : Nat → Nat} {cI cZ cQ : ClassId} {h : HP} {s U : State} {H : Heap} {locs : List Loc} (hT : q_Thr ad s) (hP : va_P D qCl (q_W ad cI cZ cQ h) s.heap) (hS : va_S (q_A ad) s.heap H locs) (hU : U.heap = H) (hW : s.WarmedH U.vm) : q_Thr ad U := by
  have hU' := hU
  subst hU'
  exact ⟨⟨fun x hx => (hT.1.1 x hx).warmC hW, fun y hy => (hT.1.2 y hy).warmD hW⟩, ⟨(hT.2.1.1.kept hS.2.1).moved hW.alike, (hT.2.1.2.kept hS.2.1).moved hW.alike⟩, q_ls hP hS rfl hW hT.2.2.1, q_ls hP hS rfl hW hT.2.2.2⟩
theorem q_isRef {C n d : String} {A : Nat → Prop} {U : State} {args : Array Value} (h : va_Zq C n d A U U.heap) : (Cond.isRef (.static C n d)).before args U = true := by
  have key : ∀ v : Value, (v = .null ∨ ∃ t, v = .ref t) → va_Z C n d v A U U.heap → (Cond.isRef (.static C n d)).before args U = true := by
    intro v hv hz
    obtain ⟨cf, kf, fi, f, a, cell, h1, h2, h3, h4, h5, h6, h7, h8⟩ := hz
    have ev : (Term.static C n d).eval args U none [] U = some v := by
      simp [Term.eval, State.fieldNamed?, h1, h2, h4, h5, h6, h7]
    rcases hv with rfl | ⟨t, rfl⟩ <;> simp [Cond.before, Cond.holds, Cond.value, ev]
  rcases h with h | ⟨t, h⟩
  · exact key _ (Or.inl rfl) h
  · exact key _ (Or.inr ⟨t, rfl⟩) h
def q_okw (w : Cond) : Bool := match w with
  | .isRef _ => true
  | .castable _ _ => true
  | .declares _ => true
  | .laysStatic _ _ _ => true
  | w => decide (w ∈ lw_tbl) && goodWord w
def q_atOk (ic : Nat) (x : String) : Bool := (Bundle.ownAtoms0 "CashRecycler" ic x q_chn).all q_okw
theorem q_at0 : q_atOk 73 "java/lang/IllegalArgumentException" = true := by decide +kernel
theorem q_at1 : q_atOk 76 "java/lang/IllegalStateException" = true := by decide +kernel
theorem q_at2 : q_atOk 101 "java/lang/UnsupportedOperationException" = true := by decide +kernel
theorem q_at3 : q_atOk 127 "java/util/NoSuchElementException" = true := by decide +kernel
theorem q_atR {ic : Nat} {x : String} {t : Term} (h : Cond.isRef t ∈ Bundle.ownAtoms0 "CashRecycler" ic x q_chn) : t = .static "java/lang/Throwable" "UNASSIGNED_STACK" q_steD ∨ t = .static "java/lang/Throwable" "SUPPRESSED_SENTINEL" q_lisD := by
  simp [Bundle.ownAtoms0, Bundle.throwableAtoms, Bundle.chain0Atoms, Bundle.passAtoms, q_chn, Bundle.tN, Bundle.steD, Bundle.listD] at h
  exact h
theorem q_atC {ic : Nat} {x a b : String} (h : Cond.castable a b ∈ Bundle.ownAtoms0 "CashRecycler" ic x q_chn) : a = x ∧ b = x := by
  simp [Bundle.ownAtoms0, Bundle.throwableAtoms, Bundle.chain0Atoms, Bundle.passAtoms, q_chn] at h
  exact h
theorem q_atD {ic : Nat} {x : String} {y : MethodName} (h : Cond.declares y ∈ Bundle.ownAtoms0 "CashRecycler" ic x q_chn) : y ∈ q_dcl := by
  simp [Bundle.ownAtoms0, Bundle.throwableAtoms, Bundle.chain0Atoms, Bundle.passAtoms, q_chn, Bundle.init0, Bundle.tN] at h
  simp only [q_dcl, List.mem_cons, List.not_mem_nil, or_false]
  exact h
theorem q_atL {ic : Nat} {x C n d : String} (h : Cond.laysStatic C n d ∈ Bundle.ownAtoms0 "CashRecycler" ic x q_chn) : (C = "java/lang/Throwable" ∧ n = "UNASSIGNED_STACK" ∧ d = q_steD) ∨ (C = "java/lang/Throwable" ∧ n = "SUPPRESSED_SENTINEL" ∧ d = q_lisD) := by
  simp [Bundle.ownAtoms0, Bundle.throwableAtoms, Bundle.chain0Atoms, Bundle.passAtoms, q_chn, Bundle.tN, Bundle.steD, Bundle.listD] at h
  exact h
/-- every word that the making of the exception asks -/
theorem q_atoms {ad : Nat → Nat} {s : State} {args : Array Value} {ic : Nat} {x : String} (hok : q_atOk ic x = true) (hx : x ∈ qEx) (hts : ∀ w ∈ q_WS, w.before args s = true) (hT : q_Thr ad s) : ∀ w ∈ Bundle.ownAtoms0 "CashRecycler" ic x q_chn, w.before args s = true := by
  intro w hw
  have h1 := List.all_eq_true.mp hok w hw
  unfold q_okw at h1
  split at h1
  · rename_i t
    rcases q_atR hw with rfl | rfl
    · exact q_isRef hT.2.1.1
    · exact q_isRef hT.2.1.2
  · rename_i a b
    obtain ⟨rfl, rfl⟩ := q_atC hw
    exact va_Nw.use rfl (hT.1.1 _ hx)
  · rename_i y
    exact va_Nw.use rfl (hT.1.2 y (q_atD hw))
  · rename_i C n d
    rcases q_atL hw with ⟨rfl, rfl, rfl⟩ | ⟨rfl, rfl, rfl⟩
    · exact hT.2.2.1
    · exact hT.2.2.2
  · simp only [Bool.and_eq_true, decide_eq_true_eq] at h1
    exact hts w (q_inW h1.1 h1.2)
end
section
/-! THE THROW ITSELF. A walk may be looked at as one that begins where it stands: so the constructor's law gives that the heap stays as it is there. -/
section QROOT
variable {p : Program} {l : Launch} {e : Env} {R : Room} {s : State} {m : MethodId} {args : Array Value} {below : List Frame} {meth : Method} {c : Code} {T : State} {locs : List Loc} {cells slots : Nat}
theorem q_reroot (X : Stand p l e R s m args below meth c T locs cells slots) {R' : Room} (hf : R'.frames ≤ R.frames) (hl : R'.locals ≤ R.locals) (hc : cells + R'.cells ≤ R.cells) (hs : slots + R'.slots ≤ R.slots) : Stand p l e R' (T.setFrames (.invoking m args :: below)) m args below meth c T [] 0 0 := by
  obtain ⟨g₀, hfr⟩ := X.frames_eq
  have hcur : T.cur < T.threads.size := State.cur_lt_of_frames hfr
  have hF : (T.setFrames (.invoking m args :: below)).frames = .invoking m args :: below := State.frames_setFrames _ hcur
  have hm' : (T.setFrames (.invoking m args :: below)).vm.method? m = some meth := X.method'
  obtain ⟨t, ht, -⟩ := State.frames_cons hF
  obtain ⟨t2, ht2, -⟩ := State.frames_cons hfr
  refine ⟨X.admits, X.cas, X.clock, hF, ?_, ?_, hm', X.code, X.here, X.tail, State.WarmedH.refl (T.setFrames (.invoking m args :: below)), (State.stackLimits_setFrames e.platform T _).symm, (State.stackBytes_setFrames T _).symm, ?_⟩
  · have hr := X.room
    have h1 := X.heapSize
    have h2 := X.used
    have h3 := X.book
    have e1 := State.localsInUse_invoking X.frames X.method X.code
    have e2 := State.localsInUse_invoking hF hm' X.code
    have e3 := State.stackLimits_setFrames e.platform T (.invoking m args :: below)
    have e4 := State.stackBytes_setFrames T (.invoking m args :: below)
    simp only [State.hasRoom, Bool.and_eq_true, decide_eq_true_eq] at hr ⊢
    rw [e3, e4, X.limits, X.bytes, hF, e2]
    rw [X.frames, e1] at hr
    obtain ⟨⟨⟨⟨r1, r2, r3, r4, r5, r6⟩, r7⟩, r8⟩, r9⟩ := hr
    refine ⟨⟨⟨⟨by omega, by omega, by omega, by omega, by omega, r6⟩, ?_⟩, ?_⟩, h3⟩
    · show T.heap.size + R'.cells ≤ _
      omega
    · show T.slotsUsed + R'.slots ≤ _
      omega
  · have hh := X.hears
    cases below with
    | nil => simp only [State.hears] at hh ⊢; rw [hm']; rw [X.method] at hh; exact hh
    | cons b r =>
      cases b <;> simp only [State.hears] at hh ⊢ <;> first
        | exact hh
        | (rw [hm']; rw [X.method] at hh; exact hh)
        | (rename_i g
           have e1 : (T.setFrames (.invoking m args :: .java g :: r)).code? g.method = s.code? g.method := by
             rw [State.code?_eq, State.code?_eq]
             show (T.vm.method? g.method).bind _ = _
             rw [X.warmed.alike.method?]
           rw [e1]; exact hh)
  · have h := (State.sameButNew.refl (T.setFrames (.invoking m args :: below)) ht).setFrames T.frames (State.cur_lt_of_frames hF)
    have e : (T.setFrames (.invoking m args :: below)).setFrames T.frames = T := by rw [State.setFrames_setFrames, State.setFrames_self ht2]
    rw [e] at h
    exact h
end QROOT
def q_exN (x : Nat) : String := qEx.getD x ""
/-- how a throw leaves things: the exception is a new cell of its class, the world is that of h', nothing else has changed -/
def q_QT (D : va_G) (ad : Nat → Nat) (cI cZ cQ : ClassId) (x : Nat) (h' : HP) (st : State) (ex : Addr) (t : State) : Prop :=
  (∃ ce : Cell, t.heap[ex]? = some ce ∧ ce.vm = .none ∧ st.vm.findClass (q_exN x) = some ce.cls) ∧ st.heap.size ≤ ex ∧ va_P D qCl (q_W ad cI cZ cQ h') t.heap ∧ va_F (q_A ad) st t ∧
  ∃ L : List Loc, (st.WarmedH t.vm ∧ st.sameButNew ({ t with vm := st.vm } : State) L 1 6) ∧ ∀ q ∈ L, q_A ad q.base
def q_MQT (below : List Frame) (D : va_G) (ad : Nat → Nat) (cI cZ cQ : ClassId) (x : Nat) (h' : HP) (s : State) : State → Prop := fun t => ∃ ex : Addr, t.status = .running ∧ Ended t below (.threw ex) ∧ q_QT D ad cI cZ cQ x h' s ex t
def q_xw (e : String × Nat × Nat × Nat) : Bool := decide (e.1 = "CashRecycler") && decide (e.2.2.2 < 4) && q_atOk e.2.2.1 (q_exN e.2.2.2) && decide (q_exN e.2.2.2 ∈ qEx) && decide (Cond.classLink "CashRecycler" e.2.1 (q_exN e.2.2.2) ∈ lw_tbl) && decide (Cond.instantiable (q_exN e.2.2.2) 6 ∈ lw_tbl) && decide (Cond.initialized (q_exN e.2.2.2) ∈ lw_tbl) && Bundle.fit (q_exN e.2.2.2)
theorem q_xok : qXtL.all q_xw = true := by decide +kernel
theorem q_fits : ∀ n ∈ q_chn, Bundle.fit n = true := by decide +kernel
section QTHROW
variable {p : Program} {l : Launch} {e : Env} {R : Room} {s : State} {m : MethodId} {args : Array Value} {below : List Frame} {meth : Method} {c : Code} {H : Heap} {locs : List Loc}
variable {D : va_G} {ad : Nat → Nat} {cI cZ cQ : ClassId} {j : Nat} {ls : Array Slot}
/-- the end of the making: invokespecial, athrow -/
theorem q_made (hx : p.tables.exec = Jvm.exec) (htr : e.platform.stackTraces = false) (hlk : meth.locks = false) (hnh : c.exceptionTable.isEmpty = true) {own cls : String} {ic : Nat} (hown : s.vm.findClass own = some m.cls) (hcls : Bundle.fit cls = true)
    (hat : ∀ w ∈ Bundle.ownAtoms0 own ic cls q_chn, w.before args s = true) {cX : ClassId} {kX : Class} (hfX : s.vm.findClass cls = some cX) (hkX : s.vm.classes[cX]? = some kX) (hH : H[s.heap.size]? = some (freshCell cX kX)) (hml : ls.size = c.maxLocals) {pc : Nat} (hd6 : decode c.code pc = .ok (.invokespecial ic, 3)) (hd9 : decode c.code (pc + 3) = .ok (.athrow, 1)) (hRf : 6 ≤ R.frames) (hRl : 90 ≤ R.locals) {Q : State → Prop}
    (hQ : ∀ (U : State) (ce : Cell), U.status = .running → Ended U below (.threw s.heap.size) → s.WarmedH U.vm → s.sameButNew ({ U with vm := s.vm } : State) [] 1 6 → U.heap[s.heap.size]? = some ce → Bundle.OwnCell args s cls s.heap.size .null ce → Q U) :
    W p l e R s m args below meth c H [] 1 6 Q (F0 m pc ls [.ref s.heap.size, .ref s.heap.size]) := by
  intro T hT X
  obtain ⟨U, u1, u2, u3, u4, u5, ce, u6, u7⟩ := X.ctorThrow0 (W := T) hx htr (own := own) (cls := cls) (names := q_chn) (ic := ic) hown hcls q_fits hat (fun x hx => by cases hx) (a := s.heap.size) hfX hkX (by rw [hT]; exact hH) (Nat.le_refl _) (g := F0 m pc ls [.ref s.heap.size, .ref s.heap.size]) rfl hml rfl rfl (rest := []) rfl hd6 hd9
    (fun x hx => by rw [Array.isEmpty_iff.mp hnh] at hx; cases hx) (by show 2 + 3 < R.frames; omega) (by show 2 * 0 + 1 + (13 * 3 + 41) ≤ R.locals; omega) hlk
  exact ⟨U, u1, hQ U ce u2 u3 u4 u5 u6 u7⟩
end QTHROW
end
section
/-! CONTRACTS OF METHODS THAT END IN A THROW. -/
section QENDT
variable {p : Program} {l : Launch} {e : Env} {R : Room} {s : State} {m : MethodId} {args : Array Value} {below : List Frame} {meth : Method} {c : Code} {H : Heap} {locs : List Loc}
variable {D : va_G} {ad : Nat → Nat} {cI cZ cQ : ClassId} {j : Nat} {ls : Array Slot}
set_option maxHeartbeats 4000000 in
theorem q_endT (hj : j < 137) (hE : q_Env p s m args meth c j) (hT : q_Thr ad s) {h0 : HP} (hP0 : va_P D qCl (q_W ad cI cZ cQ h0) s.heap) (htr : e.platform.stackTraces = false) (hnh : c.exceptionTable.isEmpty = true) (hRf : qmF j ≤ R.frames) (hRl : qmW j ≤ R.locals) (hRc : 1 ≤ R.cells) (hRs : 6 ≤ R.slots)
    {x : Nat} {h' : HP} {pc : Nat} {L : PL} {st : List PV} {h : HP} (h1 : p1 j (pc, L, st, h) = some (.inr (.inl (.inr x, h')))) (hl : lv_has ls (qmL j) (q_tl ad L)) (hP : va_P D qCl (q_W ad cI cZ cQ h) H) (hS : va_S (q_A ad) s.heap H locs) :
    W p l e R s m args below meth c H locs 0 0 (q_MQT below D ad cI cZ cQ x h' s) (F0 m pc ls (st.map (q_tr ad))) := by
  obtain ⟨hx, hb, hml, hown, hts, hret, hlk⟩ := hE
  simp only [p1] at h1
  cases hq : pe_at (qCod j) pc with
  | none => rw [hq] at h1; cases h1
  | some w =>
    obtain ⟨i, n, ax⟩ := w
    rw [hq] at h1
    obtain ⟨hd, hok⟩ := q_row hj hq
    dsimp only at h1
    cases i with
    | new idx =>
      simp only [q_okc, Bool.and_eq_true, beq_iff_eq] at hok
      obtain ⟨rfl, ht⟩ := hok
      rcases ax with _ | ⟨x', _ | ⟨k, _ | ⟨a3, ax'⟩⟩⟩ <;> first | (cases ht; done) | skip
      rcases st with _ | ⟨v, t⟩ <;> first | (cases h1; done) | skip
      simp only [p1i, Option.some.injEq, Sum.inr.injEq, Sum.inl.injEq, Prod.mk.injEq] at h1
      obtain ⟨rfl, rfl⟩ := h1
      simp only [Bool.and_eq_true, decide_eq_true_eq] at ht
      obtain ⟨⟨⟨⟨hany, hd3⟩, hd4⟩, hd7⟩, hF, hW⟩ := ht
      obtain ⟨q, hqm, hqe⟩ := List.any_eq_true.mp hany
      simp only [Bool.and_eq_true, beq_iff_eq] at hqe
      obtain ⟨⟨⟨q1, rfl⟩, rfl⟩, rfl⟩ := hqe
      have hxw := List.all_eq_true.mp q_xok q hqm
      simp only [q_xw, Bool.and_eq_true, decide_eq_true_eq] at hxw
      obtain ⟨⟨⟨⟨⟨⟨⟨w1, w2⟩, w3⟩, w4⟩, w5⟩, w6⟩, w7⟩, w8⟩ := hxw
      have hown2 : s.vm.findClass "CashRecycler" = some m.cls := by rw [← w1, q1]; exact hown
      intro T hTH X
      subst hTH
      have X' := q_reroot X (R' := { frames := R.frames, cells := 1, slots := 6, locals := R.locals }) (Nat.le_refl _) (Nat.le_refl _) (by show 0 + 1 ≤ _; omega) (by show 0 + 6 ≤ _; omega)
      have hW' : s.WarmedH (T.setFrames (.invoking m args :: below)).vm := X.warmed
      have hts' : ∀ w ∈ q_WS, w.before args (T.setFrames (.invoking m args :: below)) = true := fun w hw => word_at hW' (good_of_word (List.mem_filter.mp hw).2) (hts w hw)
      have hown' : (T.setFrames (.invoking m args :: below)).vm.findClass "CashRecycler" = some m.cls := by rw [hW'.alike.findClass]; exact hown2
      have hT' : q_Thr ad (T.setFrames (.invoking m args :: below)) := q_Thr_at hT hP0 hS rfl hW'
      have hat := q_atoms w3 w4 hts' hT'
      have hgoal : W p l e { frames := R.frames, cells := 1, slots := 6, locals := R.locals } (T.setFrames (.invoking m args :: below)) m args below meth c T.heap [] 0 0 (q_MQT below D ad cI cZ cQ q.2.2.2 h s) (F0 m pc ls []) := by
        refine W.newc hx hb hown' (hts' _ (q_inW w5 rfl)) (hts' _ (q_inW w6 rfl)) (hts' _ (q_inW w7 rfl)) rfl hd (Nat.le_refl _) (Nat.le_refl _) (fun cC kC f1 f2 f3 f4 => ?_)
        refine lv_dup hx hb hd3 rfl ?_
        have hsz : (T.setFrames (.invoking m args :: below)).heap.size = T.heap.size := rfl
        refine q_made (s := T.setFrames (.invoking m args :: below)) hx htr hlk hnh hown' w8 hat f1 f2 (by show (T.heap.push _)[T.heap.size]? = _; simp) (hl.1.trans hml.symm) (by rw [hb]; exact hd4) (by rw [hb]; exact hd7) (by show 6 ≤ R.frames; omega) (by show 90 ≤ R.locals; omega) (fun U ce u2 u3 u4 u5 u6 u7 => ?_)
        have keep : ∀ (a : Nat) (cell : Cell), T.heap[a]? = some cell → U.heap[a]? = some cell := fun a cell ha => State.sameButNew.old_cell (s := T.setFrames (.invoking m args :: below)) u5 ha
        have keep2 : ∀ a : Nat, a < T.heap.size → U.heap[a]? = T.heap[a]? := fun a ha => by
          rw [Array.getElem?_eq_getElem ha]
          exact keep a _ (Array.getElem?_eq_getElem ha)
        have hsz2 : T.heap.size ≤ U.heap.size := u5.2.1
        have hB : T.sameButNew (U.setVm T.vm) [] 1 6 := by
          refine ⟨?_, u5.2⟩
          have z := u5.1
          rw [State.setFrames_setFrames] at z
          exact z
        refine ⟨T.heap.size, u2, u3, ⟨ce, u6, u7.vm, ?_⟩, hS.1, hP.kept (fun k q hk => keep2 _ (hP k q hk).lt), ⟨Nat.le_trans hS.1 hsz2, fun a ha hA => by rw [keep2 a (Nat.lt_of_lt_of_le ha hS.1)]; exact hS.2.1 a ha hA⟩, locs, ⟨State.WarmedH.trans X.warmed u4, ?_⟩, hS.2.2⟩
        · have z := u7.cls
          rw [hW'.alike.findClass] at z
          exact z
        · have z := X.same.trans (hB.setVm s.vm)
          rw [List.append_nil] at z
          exact z
      obtain ⟨t, a1, b1⟩ := hgoal T rfl X'
      exact ⟨t, a1, b1⟩
    | _ => exfalso; revert h1; simp only [p1i, p_int, p_br]; (repeat' split) <;> (intro z; cases z)
end QENDT
end
section
/-! CAUGHT: an exception that a callee threw, in a method with handlers whose classes may still have to be resolved. -/
section QGO
variable {E : CtlPost} {e : Env} {d : Bool} {acts : List Action} {s : State} {f : JFrame} {a : Addr} {Q : Handler → Pre}
theorem q_goX {x : ExceptionTableEntry} {t : List ExceptionTableEntry} {c : ClassId} {vm' : Vm} {cell : Cell} (hx : covers x f.pc = true) (h0 : x.catchType ≠ 0) (hg : (Jvm.resolveClass f.method.cls x.catchType).Gives e.toSetting s.vm (.ok c) vm') (hsz : vm'.classes.size ≤ s.vm.classes.size)
    (hcell : s.heap[a]? = some cell) (hobj : ∀ k, cell.vm ≠ .statics k) (hk : ∃ k, vm'.classes[cell.cls]? = some k) (hc : ∃ k, vm'.classes[c]? = some k) :
    wp (findHandler.go f a (x :: t)) Q E e d acts s ↔ if vm'.assignable cell.cls c = true then Q (.found x.handlerPc) d acts (s.setVm vm') else wp (findHandler.go f a t) Q E e d acts (s.setVm vm') := by
  obtain ⟨ha, ht⟩ := hg.op (op := VmOp.resolveClass f.method.cls x.catchType) rfl
  simp only [covers] at hx
  cases hfit : vm'.assignable cell.cls c <;>
    simp [findHandler.go, hx, h0, ha, ht, hsz, hcell, hobj, hk, hc, hfit, VmOp.dirties, VmOp.acts]
/-- the search ends at that handler, and leaves those tables -/
def q_Finds (e : Env) (s : State) (f : JFrame) (a : Addr) (h : Handler) (vm' : Vm) : Prop :=
  ∀ (Q : Handler → Pre) (E : CtlPost) (d : Bool) (acts : List Action), wp (findHandler f a) Q E e d acts s ↔ Q h d acts (s.setVm vm')
theorem q_stepCatch {r : List Frame} {pc : Nat} {vm' : Vm} (hfind : q_Finds e s f a (.found pc) vm') : (stepThrowing e s a (.java f :: r)).Is ((s.setVm vm').setFrames (.java { f with pc := pc, stack := [.ref a] } :: r)) [] := by
  simp only [stepThrowing, searchFrame, vmDo]
  generalize hr : Sem.go _ e false [] s = res
  obtain ⟨as, rfl, ha⟩ := Sem.eq_ok_of hr (a := Handler.found pc) (s' := s.setVm vm') (acts' := []) (by simp [hfind _ _ _ _])
  exact ⟨rfl, ha⟩
end QGO
/-- the same of the search through a list of rows -/
def q_FG (e : Env) (s : State) (f : JFrame) (a : Addr) (es : List ExceptionTableEntry) (h : Handler) (vm' : Vm) : Prop :=
  ∀ (Q : Handler → Pre) (E : CtlPost) (d : Bool) (acts : List Action), wp (findHandler.go f a es) Q E e d acts s ↔ Q h d acts (s.setVm vm')
section QFG
variable {e : Env} {s U : State} {f : JFrame} {a : Addr} {x : ExceptionTableEntry} {t : List ExceptionTableEntry} {cell : Cell} {args : Array Value} {own X Y : String}
theorem q_fgX (hpl : e.platform.magicAccessors = ({} : Platform).magicAccessors) (hW : s.WarmedH U.vm) (hown : s.vm.findClass own = some f.method.cls) (hx : covers x f.pc = true) (h0 : x.catchType ≠ 0) (hlink : (Cond.classLink own x.catchType Y).before args s = true)
    (hcell : U.heap[a]? = some cell) (hvm : cell.vm = .none) (hX : s.vm.findClass X = some cell.cls) : ∃ (vm' : Vm) (cY : ClassId), s.WarmedH vm' ∧ s.vm.findClass Y = some cY ∧ ∀ (Q : Handler → Pre) (E : CtlPost) (d : Bool) (acts : List Action),
      wp (findHandler.go f a (x :: t)) Q E e d acts U ↔ if s.vm.assignable cell.cls cY = true then Q (.found x.handlerPc) d acts (U.setVm vm') else wp (findHandler.go f a t) Q E e d acts (U.setVm vm') := by
  obtain ⟨cY, hY, hcl⟩ := Cond.classLink_spec hown hlink e.platform hpl
  obtain ⟨hg, hw, -⟩ := State.classEntry (e := e) hW hcl
  refine ⟨_, cY, hw, hY, fun Q E d acts => ?_⟩
  have hal : U.vm.Alike (U.vm.noted f.method.cls x.catchType (.cls cY)) := hW.alike.symm.trans hw.alike
  obtain ⟨k1, hk1⟩ := Vm.classAt_of_findClass hX
  obtain ⟨k2, hk2⟩ := Vm.classAt_of_findClass hY
  obtain ⟨k1', hk1', -⟩ := hw.alike.2.2 _ _ hk1
  obtain ⟨k2', hk2', -⟩ := hw.alike.2.2 _ _ hk2
  rw [q_goX hx h0 hg (Vm.Alike.size_le hal) hcell (fun k z => by rw [hvm] at z; cases z) ⟨k1', hk1'⟩ ⟨k2', hk2'⟩, hw.alike.assignable]
theorem q_fg_hit (hpl : e.platform.magicAccessors = ({} : Platform).magicAccessors) (hW : s.WarmedH U.vm) (hown : s.vm.findClass own = some f.method.cls) (hx : covers x f.pc = true) (h0 : x.catchType ≠ 0) (hlink : (Cond.classLink own x.catchType X).before args s = true)
    (hcell : U.heap[a]? = some cell) (hvm : cell.vm = .none) (hX : s.vm.findClass X = some cell.cls) (hc : va_Nw (.castable X X) s) : ∃ vm', s.WarmedH vm' ∧ q_FG e U f a (x :: t) (.found x.handlerPc) vm' := by
  obtain ⟨vm', cY, hw, hY, key⟩ := q_fgX (t := t) hpl hW hown hx h0 hlink hcell hvm hX
  obtain ⟨c1, c2, g1, g2, g3⟩ := Cond.castable_spec hc
  cases hX.symm.trans g1
  cases hY.symm.trans g2
  exact ⟨vm', hw, fun Q E d acts => by rw [key, if_pos g3]⟩
theorem q_fg_pass (hpl : e.platform.magicAccessors = ({} : Platform).magicAccessors) (hW : s.WarmedH U.vm) (hown : s.vm.findClass own = some f.method.cls) (hx : covers x f.pc = true) (h0 : x.catchType ≠ 0) (hlink : (Cond.classLink own x.catchType Y).before args s = true)
    (hcell : U.heap[a]? = some cell) (hvm : cell.vm = .none) (hX : s.vm.findClass X = some cell.cls) (hc : va_Nc X Y s) {h : Handler} (hrest : ∀ vm1, s.WarmedH vm1 → ∃ vm', s.WarmedH vm' ∧ q_FG e (U.setVm vm1) f a t h vm') : ∃ vm', s.WarmedH vm' ∧ q_FG e U f a (x :: t) h vm' := by
  obtain ⟨vm1, cY, hw, hY, key⟩ := q_fgX (t := t) hpl hW hown hx h0 hlink hcell hvm hX
  obtain ⟨c1, c2, g1, g2, g3⟩ := hc
  cases hX.symm.trans g1
  cases hY.symm.trans g2
  obtain ⟨vm', hw', hg⟩ := hrest vm1 hw
  exact ⟨vm', hw', fun Q E d acts => by rw [key, if_neg (by rw [g3]; decide), hg]; rfl⟩
end QFG
theorem q_caught {tb : Tables} {e : Env} {s target : State} {g : JFrame} {c : Code} {below : List Frame} {a : Addr} (h : At s g.method c below) {pc : Nat} {vm' : Vm} (hfind : q_Finds e ((s.setTop g).pushFrame (.throwing a)) g a (.found pc) vm')
    (hrest : Steps tb e below ((s.setVm vm').setTop { g with pc := pc, stack := [.ref a] }) target) : Steps tb e below ((s.setTop g).pushFrame (.throwing a)) target := by
  obtain ⟨hgo, hw⟩ := h.throwing a
  refine Steps.head hgo hw ?_
  rw [stepThread_throwing (frames_entered h.top _), (q_stepCatch (s := (s.setTop g).pushFrame (.throwing a)) hfind).1]
  obtain ⟨g₀, hg⟩ := Option.isSome_iff_exists.mp h.top
  obtain ⟨r, hr⟩ := State.topJava?_eq_some.mp hg
  have hr' : (s.setVm vm').frames = .java g₀ :: r := hr
  rw [State.setTop_of_frames _ hr'] at hrest
  have e1 : (((s.setTop g).pushFrame (.throwing a)).setVm vm').setFrames (.java { g with pc := pc, stack := [.ref a] } :: s.frames.tail) = (s.setVm vm').setFrames (.java { g with pc := pc, stack := [.ref a] } :: r) := by
    rw [State.pushFrame, State.setTop_of_frames _ hr, hr]
    generalize (s.setFrames (.java g :: r)).frames = fr
    have e2 : ∀ (u : State) (fs : List Frame), (u.setVm vm').setFrames fs = (u.setFrames fs).setVm vm' := fun _ _ => rfl
    rw [e2, e2, State.setFrames_setFrames, State.setFrames_setFrames]
    rfl
  rw [e1]
  exact hrest
/-- a free contract whose end is a throw -/
abbrev q_FreeT (l : Launch) (y : MethodName) (ws : List Cond) (rm : Room) (Pc : Array Value → State → Prop) (Qt : State → Addr → State → Prop) : Prop :=
  MetFree l y (headSpec ws rm) Pc (fun _ _ _ _ _ => True) (fun _ st o t => ∃ ex : Addr, o = .threw ex ∧ Qt st ex t)
section QCT
variable {p : Program} {l : Launch} {e : Env} {R : Room} {s : State} {m : MethodId} {args : Array Value} {below : List Frame} {meth : Method} {c : Code} {H : Heap} {locs : List Loc} {cells slots : Nat} {Q : State → Prop}
variable {y : MethodName} {bytes cc : ByteArray} {maxL nL n index : Nat} {ret : Option FieldType} {ws : List Cond} {rm : Room} {Pc : Array Value → State → Prop} {Ts : List Cond} {own C : String} {b : Addr} {As rest : List Value} {g : JFrame}
variable {D : va_G} {ad : Nat → Nat} {cI cZ cQ : ClassId} {x : Nat} {h' : HP}
theorem q_callT (S : CallFix p m c cc nL s args Ts own) (hM : q_FreeT l y ws rm Pc (q_QT D ad cI cZ cQ x h')) (cw : CallW R s args own C index y bytes maxL ret ws rm 1 6 n) (hp : PreV s H C b Pc As)
    (hg : g.method = m) (hn : As.length = n) (hsize : g.locals.size = nL) (hstack : g.stack = As.reverse ++ .ref b :: rest) (hW : 2 * g.monitorRoom + (rest.map fun v => v.category).sum ≤ 8) (hdg : decode cc g.pc = .ok (.invokevirtual index, 3)) (hf : cells + 1 ≤ R.cells ∧ slots + 6 ≤ R.slots)
    {T : State} (hT : T.heap = H) (X : Stand p l e R s m args below meth c T locs cells slots) :
    ∃ (ex : Addr) (st₀ t T' : State) (L : List Loc), st₀.heap = H ∧ s.vm.Alike st₀.vm ∧ Stand p l e R s m args below meth c T' (locs ++ L) (cells + 1) (slots + 6) ∧ (∀ q ∈ L, q_A ad q.base) ∧ T'.heap = t.heap ∧ T'.vm = t.vm ∧ q_QT D ad cI cZ cQ x h' st₀ ex t ∧
      ∀ target, Steps p.tables e below ((T'.setTop { g with stack := rest }).pushFrame (.throwing ex)) target → Steps p.tables e below (T.setTop g) target := by
  obtain ⟨⟨hrc, hrs, hfr, hlo, hws, hcw, hcode, hini, hy, hlen, hl⟩, hin, hse⟩ := cw
  obtain ⟨hx, hb, hml, ho, -⟩ := S
  obtain ⟨hbl, ⟨cellB, hcB, hoB, hclB⟩, hPc⟩ := hp
  subst hb
  obtain ⟨mk, methM, hnamed, hmethM, hstM, habM⟩ := Cond.instanceMethod_spec hin
  obtain ⟨methM', cM, hmethM', hcM, -, hlM, -, -, -, hsigM⟩ := Cond.code_spec hnamed hcode
  cases hmethM.symm.trans hmethM'
  obtain ⟨c2, r2, m2, q1, q2, q3, q4, kP, hkP, hkPi⟩ := Cond.selects_spec hse
  cases hclB.symm.trans q1
  cases (State.methodFound?_of_named hnamed hy).symm.trans q2
  cases hnamed.symm.trans q3
  have hselP : selectMethod e.platform s.vm cellB.cls mk = .method mk := by rw [Launch.admits_selectMethod X.admits]; exact q4
  obtain ⟨vm₁, X₁, hstep₁⟩ := X.invokevirtual hx ho hl hnamed hmethM hstM hkP hkPi hy (a := b) (cell := cellB) (by rw [hT]; exact hcB)
    (fun z h => by rw [h] at hoB; cases hoB) hselP hmethM habM hkP hkPi (g := g) hg (argsL := As) (rest := rest) (hn.trans (hlen _ hsigM)) hstack hdg
  have hn1 : (T.setVm vm₁).methodNamed? y = some mk := X₁.named hnamed
  obtain ⟨kY, hkY, -⟩ := className_of_methodNamed hn1
  have hini1 : (Cond.initialized y.cls).before #[] (T.setVm vm₁) = true := word_at X₁.warmed (Or.inl rfl) hini
  have hinitY : kY.init = .initialized := Cond.initialized_spec (findClass_of_methodNamed hn1) hkY hini1
  have hm1 : (T.setVm vm₁).vm.method? mk = some methM := by rw [X₁.warmed.alike.method?]; exact hmethM
  have hA : At (T.setVm vm₁) ({ g with stack := rest } : JFrame).method c below := by show At (T.setVm vm₁) g.method c below; rw [hg]; exact X₁.here
  have happ : (headSpec ws rm).appliesLoose y e.platform ((T.setVm vm₁).calling { g with stack := rest } mk (Value.ref b :: As).toArray) = true :=
    Spec.appliesLoose_calling (g := { g with stack := rest }) hA hdg hn1 hkY hinitY
      (X₁.room_calling (g := { g with stack := rest }) (R' := (headSpec ws rm).room) (hsize.trans hml.symm) hm1 hcM hfr (by show 2 * g.monitorRoom + (rest.map fun v => v.category).sum + (cM.maxLocals + 11) + rm.locals ≤ R.locals; rw [hlM]; omega) (by show cells + rm.cells ≤ R.cells; rw [hrc]; exact hf.1) (by show slots + rm.slots ≤ R.slots; rw [hrs]; exact hf.2))
      (atoms_intro fun w hw => hws w hw _ _ X₁.warmed)
  obtain ⟨mid, hmid⟩ := hA.above
  have hfrm : ((T.setVm vm₁).setTop { g with stack := rest }).frames = (.java { g with stack := rest } :: mid) ++ below := by rw [State.frames_setTop' _ hA.top, hmid]; rfl
  have hPc1 := hbl _ _ { g with stack := rest } mk (hPc (T.setVm vm₁) hT X₁.warmed)
  obtain ⟨o, s₂, hsteps, -, hend, ex, rfl, hq⟩ := Steps.callFree hM p X₁.admits X₁.cas X₁.clock (acts := []) hfrm happ hPc1 trivial
  have hq' : q_QT D ad cI cZ cQ x h' ((T.setVm vm₁).calling { g with stack := rest } mk (Value.ref b :: As).toArray) ex s₂ := hq
  obtain ⟨-, -, -, -, L, ⟨w1, w2⟩, w3⟩ := id hq'
  have hend' : Ended s₂ (.java { g with stack := rest } :: below) (.threw ex) := by
    rw [State.frames_setTop' _ hA.top, X₁.tail] at hend
    exact hend
  obtain ⟨T', X', -, -, e1⟩ := X₁.outOfThrown (g := { g with stack := rest }) hg hend' w1 w2
  have eh : T'.heap = s₂.heap := by rw [e1]; simp [State.pushFrame, State.setFrames, State.setTop, State.modifyTopJava]
  have ev : T'.vm = s₂.vm := by rw [e1]; simp [State.pushFrame, State.setFrames, State.setTop, State.modifyTopJava]
  refine ⟨ex, (T.setVm vm₁).calling { g with stack := rest } mk (Value.ref b :: As).toArray, s₂, T', L, by show T.heap = H; exact hT, X₁.warmed.alike, X', w3, eh, ev, hq', fun target ht => hstep₁ _ fun acts => ?_⟩
  rw [doInvoke_state]
  rw [← e1] at ht
  exact hsteps.trans ht
end QCT
end
section
/-! THE CONTRACT of a method that throws, and the row of a call inside a try. -/
def q_rmT (j : Nat) : Room := { frames := qmF j, cells := 1, slots := 6, locals := qmW j }
def q_PreT (D : va_G) (ad : Nat → Nat) (cI cZ cQ : ClassId) (h : HP) (U : State) : Prop := q_Pre D ad cI cZ cQ h U ∧ q_Thr ad U
def q_MetT (l : Launch) (D : va_G) (ad : Nat → Nat) (cI cZ cQ : ClassId) (j : Nat) (as : List PV) (h : HP) (x : Nat) (h' : HP) : Prop :=
  q_FreeT l (qmY j) (q_ws j) (q_rmT j) (va_Pc (as.map (q_tr ad)) (q_PreT D ad cI cZ cQ h)) (q_QT D ad cI cZ cQ x h')
theorem q_blindT {D : va_G} {ad : Nat → Nat} {cI cZ cQ : ClassId} {as : List Value} {h : HP} : FrameBlind (va_Pc as (q_PreT D ad cI cZ cQ h)) := by
  intro a U g mk hv
  obtain ⟨h0, hP, ⟨t1, t2⟩, ⟨t3, t4⟩, t5, t6⟩ := hv
  refine ⟨h0, (q_blind a U g mk ⟨h0, hP⟩).2, ⟨fun x hx => (t1 x hx).same rfl rfl, fun y hy => (t2 y hy).same rfl rfl⟩, ⟨va_Zq.moved (u := U) (U := U.calling g mk a) (Vm.Alike.refl U.vm) t3, va_Zq.moved (u := U) (U := U.calling g mk a) (Vm.Alike.refl U.vm) t4⟩, t5, t6⟩
theorem q_soundT (l : Launch) (hfl : ∀ e : Env, l.admits e → e.platform.stackTraces = false) {D : va_G} {ad : Nat → Nat} {cI cZ cQ : ClassId} {j : Nat} {as : List PV} {h h' : HP} {x : Nat} (hq : Ec j as h (.inr x, h')) (h2 : 2 ≤ j) (hj : j < 137) (hlen : as.length = qmN j) : q_MetT l D ad cI cZ cQ j as h x h' := by
  obtain ⟨n, hp⟩ := hq
  obtain ⟨u1, u2, u3, u4, u5, u6⟩ := q_wp h2 hj
  unfold q_MetT
  refine MetFree.of_bodyS (code := qmB j) (maxLocals := qmL j) (ret := qmR j) u4 ?_ ?_
  · intro args s m hpre hn
    obtain ⟨meth, c, h1, h2, h3, h4, h5, h6, -, -⟩ := Cond.code_spec hn (atoms_spec (ws := q_ws j) hpre _ List.mem_cons_self)
    exact ⟨meth, c, h1, h2, h3, h4, h5, h6⟩
  · intro p e s m args below meth c s₁ B hml hv _
    obtain ⟨rfl, ⟨hP, hSt⟩, hT⟩ := hv
    have hts0 := atoms_spec (ws := q_ws j) B.pre
    have hE : q_Env p s m (as.map (q_tr ad)).toArray meth c j := ⟨B.exec, B.bytes, hml, findClass_of_methodNamed B.named, fun w hw => hts0 w (List.mem_cons_of_mem _ hw), B.returns, B.notSynchronized⟩
    have hnh : c.exceptionTable.isEmpty = true := B.noHandlers (hts0 _ List.mem_cons_self)
    have hl := lv_entry (as.map (q_tr ad)) (n := qmL j) (by rw [q_sl]; omega)
    rw [q_args] at hl
    have key := q_walk (p := p) (l := l) (e := e) (R := (headSpec (q_ws j) (q_rmT j)).room) (below := below) (cells := 0) (slots := 0) (Q := q_MQT below D ad cI cZ cQ x h' s) h2 hj hE hSt (show qmF j ≤ qmF j from Nat.le_refl _) (show qmW j ≤ qmW j from Nat.le_refl _) (Nat.zero_le _) (Nat.zero_le _) (r := (.inr x, h')) (n := n) (fun k _ j as h v h' hh a b d => q_sound l D ad cI cZ cQ k j as h v h' hh a b d)
      (fun pc L st h H locs ls h1 hl' hP' hS' => q_endT hj hE hT hP (hfl e B.admits) hnh (show qmF j ≤ qmF j from Nat.le_refl _) (show qmW j ≤ qmW j from Nat.le_refl _) (Nat.le_refl 1) (Nat.le_refl 6) h1 hl' hP' hS') n (Nat.le_refl _) 0 (pl_in 0 as) [] h s.heap [] _ hp hl hP va_S.rf
    have hh0 : s₁.heap = s.heap := by rw [B.state]; rfl
    rw [lg_entry_eq]
    obtain ⟨t, a1, ex, b1, b2, b3⟩ := key s₁ hh0 (Stand.of_body B)
    exact ⟨t, .threw ex, a1, b1, b2, ex, rfl, b3⟩
section QTRY
variable {p : Program} {l : Launch} {e : Env} {R : Room} {s : State} {m : MethodId} {args : Array Value} {below : List Frame} {meth : Method} {c : Code} {H : Heap} {locs : List Loc} {cells slots : Nat} {Q : State → Prop}
variable {y : MethodName} {bytes cc : ByteArray} {maxL nL n index : Nat} {ret : Option FieldType} {ws : List Cond} {rm : Room} {Pc : Array Value → State → Prop} {Ts : List Cond} {own C : String} {b : Addr} {As rest : List Value}
variable {D : va_G} {ad : Nat → Nat} {cI cZ cQ : ClassId} {x : Nat} {h' : HP} {A0 : Nat → Prop}
theorem q_tryW {pc : Nat} {ls : Array Slot} {st0 : List Value} (S : CallFix p m c cc nL s args Ts own) (hM : q_FreeT l y ws rm Pc (q_QT D ad cI cZ cQ x h')) (cw : CallW R s args own C index y bytes maxL ret ws rm 1 6 n) (hp : PreV s H C b Pc As)
    (hn : As.length = n) (hsize : ls.size = nL) (hstack : st0 = As.reverse ++ .ref b :: rest) (hW : (rest.map fun v => v.category).sum ≤ 8) (hdg : decode cc pc = .ok (.invokevirtual index, 3)) (hf : cells + 1 ≤ R.cells ∧ slots + 6 ≤ R.slots)
    (hS : va_S A0 s.heap H locs) (hA : ∀ q, q_A ad q → A0 q) {es : List ExceptionTableEntry} {hpc : Nat} (hes : c.exceptionTable.toList = es)
    (F : ∀ (U : State) (g : JFrame) (ex : Addr) (ce : Cell), U.heap[ex]? = some ce → ce.vm = .none → s.vm.findClass (q_exN x) = some ce.cls → s.WarmedH U.vm → g.method = m → g.pc = pc → e.platform.magicAccessors = ({} : Platform).magicAccessors → ∃ vm', s.WarmedH vm' ∧ q_FG e U g ex es (.found hpc) vm')
    (kk : ∀ (ex : Addr) (H1 : Heap) (locs1 : List Loc), va_P D qCl (q_W ad cI cZ cQ h') H1 → H.size ≤ H1.size → (∀ q : Nat, q < H.size → ¬ q_A ad q → H1[q]? = H[q]?) → va_S A0 s.heap H1 locs1 → W p l e R s m args below meth c H1 locs1 (cells + 1) (slots + 6) Q (F0 m hpc ls [.ref ex])) : W p l e R s m args below meth c H locs cells slots Q (F0 m pc ls st0) := by
  intro T hT X
  obtain ⟨ex, st₀, t, T', L, h0, hal, X', hL, e1, e2, hq, hst⟩ := q_callT (g := F0 m pc ls st0) S hM cw hp rfl hn hsize hstack (by show 2 * 0 + _ ≤ 8; omega) hdg hf hT X
  obtain ⟨⟨ce, c1, c2, c3⟩, hnew, hP1, ⟨hz, hk⟩, -⟩ := hq
  rw [h0] at hz hk
  rw [← e1] at c1 hP1 hz hk
  rw [hal.findClass] at c3
  have hpl : e.platform.magicAccessors = ({} : Platform).magicAccessors := by rw [X.admits.platform]
  obtain ⟨vm', hw, hfg⟩ := F ((T'.setTop (F0 m pc ls rest)).pushFrame (.throwing ex)) (F0 m pc ls rest) ex ce (by rw [throwing_heap]; exact c1) c2 c3 (by rw [throwing_vm]; exact X'.warmed) rfl rfl hpl
  have hS1 : va_S A0 s.heap T'.heap (locs ++ L) := ⟨Nat.le_trans hS.1 hz, fun q h1 h2 => by rw [hk q (Nat.lt_of_lt_of_le h1 hS.1) (fun z => h2 (hA q z))]; exact hS.2.1 q h1 h2, fun q hq => by
      rcases List.mem_append.mp hq with h | h
      · exact hS.2.2 q h
      · exact hA _ (hL q h)⟩
  obtain ⟨t2, a1, b1⟩ := kk ex T'.heap (locs ++ L) hP1 hz hk hS1 (T'.setVm vm') rfl (X'.noted hw)
  refine ⟨t2, hst t2 (q_caught (g := F0 m pc ls rest) X'.here (pc := hpc) (vm' := vm') ?_ a1), b1⟩
  intro Q E d acts
  rw [W.findHandler_eq (meth := meth) (code := c) (by rw [throwing_vm]; exact X'.method') X'.code, hes]
  exact hfg Q E d acts
end QTRY
end
section
/-! CALLS FROM THE LAW'S CLASS to the class and the reference: by what the pure machine answers. -/
theorem q_Wat {ad : Nat → Nat} {cI cZ cQ : ClassId} {h : HP} {q : Nat × va_E} {i : Nat} (hq : (q_W ad cI cZ cQ h)[i]? = some q) : i < qNW ∧ q = (ad i, q_cell ad cI cZ cQ h i) := by
  by_cases hi : i < qNW
  · rw [q_W_at hi] at hq; exact ⟨hi, (Option.some.inj hq).symm⟩
  · simp [q_W, hi] at hq
theorem q_own44 : (List.range 137).all (fun j => decide (j < 2) || qmS j || (decide (qmC j < 8) && decide ((qC (qmC j)).1 = q_own j))) = true := by decide +kernel
section QOUT
variable {p : Program} {l : Launch} {e : Env} {R : Room} {s : State} {m : MethodId} {args : Array Value} {below : List Frame} {meth : Method} {c : Code} {H : Heap} {locs : List Loc} {cells slots : Nat} {Q : State → Prop}
variable {cc : ByteArray} {nL : Nat} {D : va_G} {ad : Nat → Nat} {cI cZ cQ : ClassId} {A0 : Nat → Prop} {own : String}
theorem q_ucall {pc j ro idx : Nat} {as : List PV} {ls : Array Slot} {st0 rest : List Value} {h h' : HP} {v : Option Int32} (S : CallFix p m c cc nL s args q_WS own) (hK : va_K D qCl (q_Tys cI cZ cQ) s) (h2 : 2 ≤ j) (hj : j < 137) (hst : qmS j = false) (hq : Ec j (.inr ro :: as) h (.inl v, h')) (hsh : qSh ro = some (.inl (qmC j))) (hlen : as.length + 1 = qmN j)
    (hw : Cond.methodLink own idx (qmY j) ∈ q_WS) (hRf : qmF j + 1 ≤ R.frames) (hRl : 8 + (qmL j + 11) + qmW j ≤ R.locals) (hc0 : cells ≤ R.cells) (hs0 : slots ≤ R.slots) (hP : va_P D qCl (q_W ad cI cZ cQ h) H) (hS : va_S A0 s.heap H locs) (hA : ∀ q, q_A ad q → A0 q)
    (hSta : ∀ U : State, U.heap = H → s.WarmedH U.vm → q_Sta D ad cI cZ cQ U) (hsize : ls.size = nL) (hstack : st0 = (as.map (q_tr ad)).reverse ++ .ref (ad ro) :: rest) (hW : (rest.map fun v => v.category).sum ≤ 8) (hdg : decode cc pc = .ok (.invokevirtual idx, 3))
    (kk : ∀ (H1 : Heap) (locs1 : List Loc), va_P D qCl (q_W ad cI cZ cQ h') H1 → H.size ≤ H1.size → (∀ q : Nat, q < H.size → ¬ q_A ad q → H1[q]? = H[q]?) → va_S A0 s.heap H1 locs1 → W p l e R s m args below meth c H1 locs1 cells slots Q (F0 m (pc + 3) ls ((v.map Value.int).toList ++ rest))) : W p l e R s m args below meth c H locs cells slots Q (F0 m pc ls st0) := by
  have hM : Met l (qmY j) (q_ws j) (q_rm j) (va_Pc ((.inr ro :: as).map (q_tr ad)) (q_Pre D ad cI cZ cQ h)) (q_Q D ad cI cZ cQ v h') 0 0 (q_A ad) := q_met hq h2 hj (by simpa using hlen)
  obtain ⟨w1, w2, w8, wc⟩ := q_wpI h2 hj hst
  obtain ⟨u1, u2, u3, -, -, -⟩ := q_wp h2 hj
  rw [hst] at u3
  obtain ⟨cellB, b1, b2, b3⟩ := q_recv (s := s) hK hP hsh w8
  rw [wc] at b3
  have hts := S.2.2.2.2
  have hrun := va_runV (p := p) (l := l) (e := e) (R := R) (s := s) (m := m) (args := args) (below := below) (meth := meth) (c := c) (H := H) (locs := locs) (cells := cells) (slots := slots) (Ts := q_WS) (own := own) (C := q_own j) (b := ad ro) (As := as.map (q_tr ad)) (rest := rest) (g := F0 m pc ls st0) S hM
    (cw := ⟨callB_of (qmN j - 1) hts (q_goodIn h2 hj (fun _ z => z)) rfl rfl rfl (hts _ u1) (hts _ hw) ⟨u2.1, u2.2, u3⟩ ⟨hRf, hRl⟩, hts _ w1, hts _ w2⟩)
    ⟨q_blind, ⟨cellB, b1, b2, b3⟩, fun U hU hWU => ⟨rfl, by rw [hU]; exact hP, hSta U hU hWU⟩⟩ rfl (by simp; omega) hsize hstack (by show 2 * 0 + _ ≤ 8; omega) hdg ⟨hc0, hs0⟩
  cases v with
  | some r =>
    refine va_calli (S := Unit) (a := (Value.ref (ad ro) :: as.map (q_tr ad)).toArray) hrun hS (fun q _ z => hA q z) (fun q z => hA q z) (fun r' u t1 H1 locs1 ht hvm hpost hB hz hk hS1 => ?_)
    have hpost : r' = r := hpost
    subst hpost
    have hB : va_P D qCl (q_W ad cI cZ cQ h') t1.heap := hB
    rw [ht] at hB
    exact kk H1 locs1 hB hz hk hS1
  | none =>
    refine va_callv (S := Unit) (a := (Value.ref (ad ro) :: as.map (q_tr ad)).toArray) hrun hS (fun q _ z => hA q z) (fun q z => hA q z) (fun u t1 H1 locs1 ht hvm hpost hB hz hk hS1 => ?_)
    have hB : va_P D qCl (q_W ad cI cZ cQ h') t1.heap := hB
    rw [ht] at hB
    exact kk H1 locs1 hB hz hk hS1
theorem q_utry (hfl : ∀ e : Env, l.admits e → e.platform.stackTraces = false) {pc j ro idx x hpc : Nat} {as : List PV} {ls : Array Slot} {st0 rest : List Value} {h h' : HP} {es : List ExceptionTableEntry} (S : CallFix p m c cc nL s args q_WS own) (hK : va_K D qCl (q_Tys cI cZ cQ) s) (h2 : 2 ≤ j) (hj : j < 137) (hst : qmS j = false) (hq : Ec j (.inr ro :: as) h (.inr x, h')) (hsh : qSh ro = some (.inl (qmC j))) (hlen : as.length + 1 = qmN j)
    (hw : Cond.methodLink own idx (qmY j) ∈ q_WS) (hRf : qmF j + 1 ≤ R.frames) (hRl : 8 + (qmL j + 11) + qmW j ≤ R.locals) (hc0 : cells + 1 ≤ R.cells) (hs0 : slots + 6 ≤ R.slots) (hP : va_P D qCl (q_W ad cI cZ cQ h) H) (hS : va_S A0 s.heap H locs) (hA : ∀ q, q_A ad q → A0 q)
    (hSta : ∀ U : State, U.heap = H → s.WarmedH U.vm → q_Sta D ad cI cZ cQ U ∧ q_Thr ad U) (hsize : ls.size = nL) (hstack : st0 = (as.map (q_tr ad)).reverse ++ .ref (ad ro) :: rest) (hW : (rest.map fun v => v.category).sum ≤ 8) (hdg : decode cc pc = .ok (.invokevirtual idx, 3)) (hes : c.exceptionTable.toList = es)
    (F : ∀ (U : State) (g : JFrame) (ex : Addr) (ce : Cell), U.heap[ex]? = some ce → ce.vm = .none → s.vm.findClass (q_exN x) = some ce.cls → s.WarmedH U.vm → g.method = m → g.pc = pc → e.platform.magicAccessors = ({} : Platform).magicAccessors → ∃ vm', s.WarmedH vm' ∧ q_FG e U g ex es (.found hpc) vm')
    (kk : ∀ (ex : Addr) (H1 : Heap) (locs1 : List Loc), va_P D qCl (q_W ad cI cZ cQ h') H1 → H.size ≤ H1.size → (∀ q : Nat, q < H.size → ¬ q_A ad q → H1[q]? = H[q]?) → va_S A0 s.heap H1 locs1 → W p l e R s m args below meth c H1 locs1 (cells + 1) (slots + 6) Q (F0 m hpc ls [.ref ex])) : W p l e R s m args below meth c H locs cells slots Q (F0 m pc ls st0) := by
  have hM := q_soundT l hfl (D := D) (ad := ad) (cI := cI) (cZ := cZ) (cQ := cQ) hq h2 hj (by simpa using hlen)
  obtain ⟨w1, w2, w8, wc⟩ := q_wpI h2 hj hst
  obtain ⟨u1, u2, u3, -, -, -⟩ := q_wp h2 hj
  rw [hst] at u3
  obtain ⟨cellB, b1, b2, b3⟩ := q_recv (s := s) hK hP hsh w8
  rw [wc] at b3
  have hts := S.2.2.2.2
  exact q_tryW (b := ad ro) (As := as.map (q_tr ad)) (rest := rest) (C := q_own j) S hM
    (cw := ⟨callB_of (qmN j - 1) hts (q_goodIn h2 hj (fun _ z => z)) rfl rfl rfl (hts _ u1) (hts _ hw) ⟨u2.1, u2.2, u3⟩ ⟨hRf, hRl⟩, hts _ w1, hts _ w2⟩)
    ⟨q_blindT, ⟨cellB, b1, b2, b3⟩, fun U hU hWU => ⟨rfl, ⟨by rw [hU]; exact hP, (hSta U hU hWU).1⟩, (hSta U hU hWU).2⟩⟩ (by simp; omega) hsize hstack hW hdg ⟨hc0, hs0⟩ hS hA hes F kk
end QOUT
end
section
/-! THE LAW'S OWN WORLD: the class, the reference, and the array 'out'. -/
def q_O (aO : Nat) (cL : ClassId) (o : Int64) : va_W := [(aO, .inl (cL, 1, .inr (.inl (fun _ => o))))]
def q_J (ad : Nat → Nat) (cI cZ cQ : ClassId) (aO : Nat) (cL : ClassId) (h : HP) (o : Int64) : va_W := q_W ad cI cZ cQ h ++ q_O aO cL o
def q_AL (ad : Nat → Nat) (aO : Nat) : Nat → Prop := fun q => q_A ad q ∨ q = aO
theorem q_Wlen {ad : Nat → Nat} {cI cZ cQ : ClassId} {h : HP} : (q_W ad cI cZ cQ h).length = 47 := by simp [q_W, qNW]
section QJ
variable {D : va_G} {ad : Nat → Nat} {cI cZ cQ cL : ClassId} {aO : Nat} {h : HP} {o x : Int64} {H : Heap}
theorem q_J_47 : (q_J ad cI cZ cQ aO cL h o)[47]? = some (aO, .inl (cL, 1, .inr (.inl (fun _ => o)))) := by
  unfold q_J
  rw [List.getElem?_append_right (Nat.le_of_eq q_Wlen), q_Wlen]
  rfl
theorem q_J_lo {i : Nat} (hi : i < 47) : (q_J ad cI cZ cQ aO cL h o)[i]? = (q_W ad cI cZ cQ h)[i]? := by
  unfold q_J
  rw [List.getElem?_append_left (by rw [q_Wlen]; exact hi)]
theorem q_J_W (hP : va_P D qCl (q_J ad cI cZ cQ aO cL h o) H) : va_P D qCl (q_W ad cI cZ cQ h) H := fun k q hk => by
  obtain ⟨h1, -⟩ := q_Wat hk
  exact hP k q (by rw [q_J_lo h1]; exact hk)
theorem q_J_O (hP : va_P D qCl (q_J ad cI cZ cQ aO cL h o) H) : H[aO]? = some (vp_cell cL (1, .inr (.inl (fun _ => o)))) := hP 47 _ q_J_47
theorem q_J_mk (hP : va_P D qCl (q_W ad cI cZ cQ h) H) (hO : H[aO]? = some (vp_cell cL (1, .inr (.inl (fun _ => o))))) : va_P D qCl (q_J ad cI cZ cQ aO cL h o) H :=
  va_P.app hP (fun k q hk => by
    rcases k with _ | k
    · cases hk; exact hO
    · cases hk)
theorem q_J_D (hap : ∀ i j, i < qNW → j < qNW → ad i = ad j → i = j) (hO : ¬ q_A ad aO) {A : Nat → Prop} (hA : ∀ q, q_AL ad aO q → A q) : va_D A (q_J ad cI cZ cQ aO cL h o) := by
  refine va_D.app ((q_D hap).weaken (fun _ _ _ z => hA _ (Or.inl z))) ⟨fun i j p q hp hq _ => ?_, fun k q hk => ?_⟩ (fun i j p q hp hq e => ?_)
  · rcases i with _ | i <;> rcases j with _ | j <;> first | rfl | (cases hp; done) | (cases hq; done)
  · rcases k with _ | k
    · cases hk; exact hA _ (Or.inr rfl)
    · cases hk
  · obtain ⟨h1, rfl⟩ := q_Wat hp
    rcases j with _ | j
    · cases hq; exact hO ⟨i, h1, e.symm⟩
    · cases hq
theorem q_long1 {f : Nat → Int64} (hf : f 0 = x) : vp_cell cL (1, .inr (.inl f)) = vp_cell cL (1, .inr (.inl (fun _ => x))) := by
  rw [vp_cell_l, vp_cell_l]
  unfold arrV
  congr 1
  congr 1
  funext j
  have : j.val = 0 := by omega
  rw [this]
  show Value.long (f 0) = Value.long x
  rw [hf]
theorem q_J_set {f : Nat → Int64} (hf : f 0 = x) (hP : va_P D qCl ((q_J ad cI cZ cQ aO cL h o).set 47 (aO, .inl (cL, 1, .inr (.inl f)))) H) : va_P D qCl (q_J ad cI cZ cQ aO cL h x) H := by
  refine q_J_mk (fun k q hk => ?_) ?_
  · obtain ⟨h1, -⟩ := q_Wat hk
    have h1' : k < 47 := h1
    exact hP k q (by rw [List.getElem?_set_ne (by omega), q_J_lo h1]; exact hk)
  · have h1 := hP 47 (aO, .inl (cL, 1, .inr (.inl f))) (by rw [List.getElem?_set_self (by unfold q_J; rw [List.length_append, q_Wlen]; show 47 < 47 + 1; decide)])
    have h2 : H[aO]? = some (vp_cell cL (1, .inr (.inl f))) := h1
    rw [h2, q_long1 hf]
end QJ
/-- what the law's methods ask: the world, what stays, what a throw asks, that no exception is another -/
def q_PreL (D : va_G) (ad : Nat → Nat) (cI cZ cQ : ClassId) (aO : Nat) (cL : ClassId) (h : HP) (o : Int64) (U : State) : Prop :=
  va_P D qCl (q_J ad cI cZ cQ aO cL h o) U.heap ∧ q_Sta D ad cI cZ cQ U ∧ q_Thr ad U ∧ va_K D qCl [(cL, .long)] U ∧ (∀ X ∈ qEx, ∀ Y ∈ qEx, X ≠ Y → va_Nc X Y U) ∧ ¬ q_A ad aO
def q_MetL (l : Launch) (D : va_G) (ad : Nat → Nat) (cI cZ cQ : ClassId) (aO : Nat) (cL : ClassId) (y : MethodName) (ws : List Cond) (rm : Room) (av : List Value) (h : HP) (o : Int64) (k : Int32) (h' : HP) (o' : Int64) : Prop :=
  Met l y ws rm (va_Pc av (q_PreL D ad cI cZ cQ aO cL h o)) (va_Qi (fun (r : Int32) (_ : Unit) => r = k) (fun _ t => va_P D qCl (q_J ad cI cZ cQ aO cL h' o') t.heap) (q_AL ad aO)) 1 6 (q_AL ad aO)
theorem q_es1 {α β : Type} {f : α → β} {es : List α} {a : β} (h : es.map f = [a]) : ∃ e1, es = [e1] ∧ f e1 = a := by
  rcases es with _ | ⟨e1, _ | ⟨e2, es⟩⟩ <;> simp at h
  exact ⟨e1, rfl, h⟩
theorem q_es2 {α β : Type} {f : α → β} {es : List α} {a b : β} (h : es.map f = [a, b]) : ∃ e1 e2, es = [e1, e2] ∧ f e1 = a ∧ f e2 = b := by
  rcases es with _ | ⟨e1, _ | ⟨e2, _ | ⟨e3, es⟩⟩⟩ <;> simp at h
  exact ⟨e1, e2, rfl, h.1, h.2⟩
theorem q_es3 {α β : Type} {f : α → β} {es : List α} {a b d : β} (h : es.map f = [a, b, d]) : ∃ e1 e2 e3, es = [e1, e2, e3] ∧ f e1 = a ∧ f e2 = b ∧ f e3 = d := by
  rcases es with _ | ⟨e1, _ | ⟨e2, _ | ⟨e3, _ | ⟨e4, es⟩⟩⟩⟩ <;> simp at h
  exact ⟨e1, e2, e3, rfl, h.1, h.2.1, h.2.2⟩
end
section
/-! THE LAW'S SMALL METHODS, written by our own program (wip/whole/gen_wrap.py): each calls one method of the class and says 0, or which exception came. -/
theorem q_in01 : vp_in 0 1 := by unfold vp_in; decide +kernel
theorem q_pl : plainName "CashRecyclerLaw" = true := by decide +kernel
theorem cl_13 : lw_tbl[297]? = some (.classLink "CashRecyclerLaw" 13 "java/lang/IllegalArgumentException") := by decide +kernel
theorem cl_15 : lw_tbl[298]? = some (.classLink "CashRecyclerLaw" 15 "java/lang/IllegalStateException") := by decide +kernel
theorem cl_32 : lw_tbl[426]? = some (.classLink "CashRecyclerLaw" 32 "java/lang/UnsupportedOperationException") := by decide +kernel
theorem cl_45 : lw_tbl[624]? = some (.classLink "CashRecyclerLaw" 45 "java/util/NoSuchElementException") := by decide +kernel
theorem dw_insert_0 : decode method_3_code 0 = .ok (.aload_n 2, 1) := by decide +kernel
theorem dw_insert_1 : decode method_3_code 1 = .ok (.iconst 0, 1) := by decide +kernel
theorem dw_insert_2 : decode method_3_code 2 = .ok (.aload_n 0, 1) := by decide +kernel
theorem dw_insert_3 : decode method_3_code 3 = .ok (.iload_n 1, 1) := by decide +kernel
theorem dw_insert_4 : decode method_3_code 4 = .ok (.invokevirtual 7, 3) := by decide +kernel
theorem dw_insert_7 : decode method_3_code 7 = .ok (.i2l, 1) := by decide +kernel
theorem dw_insert_8 : decode method_3_code 8 = .ok (.lastore, 1) := by decide +kernel
theorem dw_insert_9 : decode method_3_code 9 = .ok (.goto 9, 3) := by decide +kernel
theorem dw_insert_12 : decode method_3_code 12 = .ok (.astore_n 3, 1) := by decide +kernel
theorem dw_insert_13 : decode method_3_code 13 = .ok (.iconst 1, 1) := by decide +kernel
theorem dw_insert_14 : decode method_3_code 14 = .ok (.ireturn, 1) := by decide +kernel
theorem dw_insert_15 : decode method_3_code 15 = .ok (.astore_n 3, 1) := by decide +kernel
theorem dw_insert_16 : decode method_3_code 16 = .ok (.iconst 2, 1) := by decide +kernel
theorem dw_insert_17 : decode method_3_code 17 = .ok (.ireturn, 1) := by decide +kernel
theorem dw_insert_18 : decode method_3_code 18 = .ok (.iconst 0, 1) := by decide +kernel
theorem dw_insert_19 : decode method_3_code 19 = .ok (.ireturn, 1) := by decide +kernel
theorem lw_insert : lw_tbl[299]? = some (.methodLink "CashRecyclerLaw" 7 (qmY 44)) := by decide +kernel
abbrev yw_insert : MethodName := ⟨"CashRecyclerLaw", "insert", "(LCashRecycler;I[J)I"⟩
def ws_insert : List Cond := .codeWith yw_insert method_3_code 4 (some .int) [(0, 9, 12, 13), (0, 9, 15, 15)] :: q_WS
def rw_insert : Room := { frames := qmF 44 + 1, cells := 1, slots := 6, locals := 8 + (qmL 44 + 11) + qmW 44 }
set_option maxHeartbeats 4000000 in
theorem w_insert_r {l : Launch} {D : va_G} {ad : Nat → Nat} {cI cZ cQ : ClassId} {aO : Nat} {cL : ClassId} {h h' : HP} {o : Int64} {a : Int32} {v : Int32} (hq : Ec 44 [.inr 0, .inl a] h (.inl (some v), h')) : q_MetL l D ad cI cZ cQ aO cL yw_insert ws_insert rw_insert [.ref (ad 0), .int a, .ref aO] h o 0 h' v.toInt64 := by
  refine va_MetW (cc := method_3_code) (maxL := 4) (ret := some .int) q_pl rfl ?_
  intro p e s m args below meth c s₁ B hml hv
  obtain ⟨rfl, hJ, hSt, hThr, hKL, hNc, hO⟩ := hv
  have hx := B.exec
  have hb := B.bytes
  have hr := B.returns
  have hts0 := atoms_spec (ws := ws_insert) B.pre
  have hts : ∀ w ∈ q_WS, w.before _ s = true := fun w hw => hts0 w (List.mem_cons_of_mem _ hw)
  have hown : s.vm.findClass "CashRecyclerLaw" = some m.cls := findClass_of_methodNamed B.named
  have hlk := B.notSynchronized
  have hl := lv_entry ([.ref (ad 0), .int a, .ref aO]) (n := 4) (Nat.le_of_ble_eq_true rfl)
  rw [lg_entry_eq]
  generalize (lg_sl ([.ref (ad 0), .int a, .ref aO]) ++ List.replicate (4 - (lg_sl ([.ref (ad 0), .int a, .ref aO])).length) Slot.unset).toArray = ls at hl ⊢
  have hl : lv_has ls 4 [(0, .ref (ad 0)), (1, .int a), (2, .ref aO)] := hl
  have hP := q_J_W hJ
  have hS : va_S (q_AL ad aO) s.heap s.heap [] := va_S.rf
  refine lv_aload_n hx hb dw_insert_0 rfl (lv_at hl 2 rfl) ?_
  refine lv_iconst (v := 0) hx hb dw_insert_1 (by decide) ?_
  refine lv_aload_n hx hb dw_insert_2 rfl (lv_at hl 0 rfl) ?_
  refine lv_iload_n hx hb dw_insert_3 rfl (lv_at hl 1 rfl) ?_
  refine q_ucall (j := 44) (ro := 0) (idx := 7) (as := [.inl a]) (rest := [.int 0, .ref aO]) (A0 := q_AL ad aO) ⟨hx, hb, hml, hown, hts⟩ hSt.1 (by decide) (by decide) rfl hq rfl rfl (q_inAt lw_insert rfl) (Nat.le_refl _) (Nat.le_refl _) (Nat.zero_le _) (Nat.zero_le _) hP hS (fun q z => Or.inl z) (fun U hU hW => q_Sta_at hSt va_S.rf hU hW) hl.1 rfl (Nat.le_of_ble_eq_true rfl) dw_insert_4 (fun H1 locs1 hP1 hz hk hS1 => ?_)
  have hJ1 : va_P D qCl (q_J ad cI cZ cQ aO cL h' o) H1 := q_J_mk hP1 (by rw [hk aO (Array.getElem?_eq_some_iff.mp (q_J_O hJ)).1 hO]; exact q_J_O hJ)
  refine lv_i2l (v := v.toInt64) hx hb dw_insert_7 rfl ?_
  refine va_last (D := D) (cl := qCl) (H0 := s.heap) (A := q_AL ad aO) hx hb hKL hJ1 (q_J_D hSt.2.2.2.2 hO (fun _ z => z)) hS1 47 0 q_J_47 rfl q_in01 dw_insert_8 (fun H2 locs2 hP2 hD2 hS2 => ?_)
  have hJ2 : va_P D qCl (q_J ad cI cZ cQ aO cL h' v.toInt64) H2 := q_J_set (by rfl) hP2
  refine lv_goto hx hb dw_insert_9 rfl ?_
  refine lv_iconst (v := 0) hx hb dw_insert_18 (by decide) ?_
  refine W.widen (k := 1) (n := 6) (by omega) (by omega) ?_
  exact W.iret hx hb hr (fun t ht _ => ⟨⟨0, (), rfl, rfl, by show va_P _ _ _ t.heap; rw [ht]; exact hJ2⟩, hS2.F ht⟩) hS2.2.2 dw_insert_19
set_option maxHeartbeats 4000000 in
theorem w_insert_t0 {l : Launch} {D : va_G} {ad : Nat → Nat} {cI cZ cQ : ClassId} {aO : Nat} {cL : ClassId} {h h' : HP} {o : Int64} {a : Int32} (hfl : ∀ e : Env, l.admits e → e.platform.stackTraces = false) (hq : Ec 44 [.inr 0, .inl a] h (.inr 0, h')) : q_MetL l D ad cI cZ cQ aO cL yw_insert ws_insert rw_insert [.ref (ad 0), .int a, .ref aO] h o 1 h' o := by
  refine va_MetW (cc := method_3_code) (maxL := 4) (ret := some .int) q_pl rfl ?_
  intro p e s m args below meth c s₁ B hml hv
  obtain ⟨rfl, hJ, hSt, hThr, hKL, hNc, hO⟩ := hv
  have hx := B.exec
  have hb := B.bytes
  have hr := B.returns
  have hts0 := atoms_spec (ws := ws_insert) B.pre
  have hts : ∀ w ∈ q_WS, w.before _ s = true := fun w hw => hts0 w (List.mem_cons_of_mem _ hw)
  have hown : s.vm.findClass "CashRecyclerLaw" = some m.cls := findClass_of_methodNamed B.named
  have hlk := B.notSynchronized
  have hl := lv_entry ([.ref (ad 0), .int a, .ref aO]) (n := 4) (Nat.le_of_ble_eq_true rfl)
  rw [lg_entry_eq]
  generalize (lg_sl ([.ref (ad 0), .int a, .ref aO]) ++ List.replicate (4 - (lg_sl ([.ref (ad 0), .int a, .ref aO])).length) Slot.unset).toArray = ls at hl ⊢
  have hl : lv_has ls 4 [(0, .ref (ad 0)), (1, .int a), (2, .ref aO)] := hl
  have hP := q_J_W hJ
  have hS : va_S (q_AL ad aO) s.heap s.heap [] := va_S.rf
  obtain ⟨m9, meth9, c9, g1, g2, g3, -, -, g4, -⟩ := Cond.codeWith_spec (hts0 _ List.mem_cons_self)
  cases B.named.symm.trans g1
  cases B.method.symm.trans g2
  cases (Stand.of_body B).code.symm.trans g3
  obtain ⟨e1, e2, hes, f1, f2⟩ := q_es2 g4
  simp only [Prod.mk.injEq] at f1
  simp only [Prod.mk.injEq] at f2
  refine lv_aload_n hx hb dw_insert_0 rfl (lv_at hl 2 rfl) ?_
  refine lv_iconst (v := 0) hx hb dw_insert_1 (by decide) ?_
  refine lv_aload_n hx hb dw_insert_2 rfl (lv_at hl 0 rfl) ?_
  refine lv_iload_n hx hb dw_insert_3 rfl (lv_at hl 1 rfl) ?_
  refine q_utry hfl (j := 44) (ro := 0) (idx := 7) (x := 0) (hpc := 12) (as := [.inl a]) (rest := [.int 0, .ref aO]) (A0 := q_AL ad aO) ⟨hx, hb, hml, hown, hts⟩ hSt.1 (by decide) (by decide) rfl hq rfl rfl (q_inAt lw_insert rfl) (Nat.le_refl _) (Nat.le_refl _) (Nat.le_refl _) (Nat.le_refl _) hP hS (fun q z => Or.inl z) (fun U hU hW => ⟨q_Sta_at hSt va_S.rf hU hW, q_Thr_at hThr hP va_S.rf hU hW⟩) hl.1 rfl (Nat.le_of_ble_eq_true rfl) dw_insert_4 hes ?_ (fun ex H1 locs1 hP1 hz hk hS1 => ?_)
  · intro U g ex ce z1 z2 z3 z4 z5 z6 hpl
    have key := q_fg_hit (e := e) (U := U) (f := g) (a := ex) (x := e1) (t := [e2]) (own := "CashRecyclerLaw") (X := q_exN 0) (args := _) hpl z4 (by rw [z5]; exact hown) (by simp [covers, f1, z6]) (by rw [f1.2.2.2]; decide) (by rw [f1.2.2.2]; exact hts _ (q_inAt cl_13 rfl)) z1 z2 z3 (hThr.1.1 _ (by decide +kernel))
    rw [f1.2.2.1] at key
    exact key
  · have hJ1 : va_P D qCl (q_J ad cI cZ cQ aO cL h' o) H1 := q_J_mk hP1 (by rw [hk aO (Array.getElem?_eq_some_iff.mp (q_J_O hJ)).1 hO]; exact q_J_O hJ)
    refine lv_astore_n hx hb dw_insert_12 rfl hl (by decide) rfl (fun ls9 hl9 => ?_)
    refine lv_iconst (v := 1) hx hb dw_insert_13 (by decide) ?_
    exact W.iret hx hb hr (fun t ht _ => ⟨⟨1, (), rfl, rfl, by show va_P _ _ _ t.heap; rw [ht]; exact hJ1⟩, hS1.F ht⟩) hS1.2.2 dw_insert_14
set_option maxHeartbeats 4000000 in
theorem w_insert_t1 {l : Launch} {D : va_G} {ad : Nat → Nat} {cI cZ cQ : ClassId} {aO : Nat} {cL : ClassId} {h h' : HP} {o : Int64} {a : Int32} (hfl : ∀ e : Env, l.admits e → e.platform.stackTraces = false) (hq : Ec 44 [.inr 0, .inl a] h (.inr 1, h')) : q_MetL l D ad cI cZ cQ aO cL yw_insert ws_insert rw_insert [.ref (ad 0), .int a, .ref aO] h o 2 h' o := by
  refine va_MetW (cc := method_3_code) (maxL := 4) (ret := some .int) q_pl rfl ?_
  intro p e s m args below meth c s₁ B hml hv
  obtain ⟨rfl, hJ, hSt, hThr, hKL, hNc, hO⟩ := hv
  have hx := B.exec
  have hb := B.bytes
  have hr := B.returns
  have hts0 := atoms_spec (ws := ws_insert) B.pre
  have hts : ∀ w ∈ q_WS, w.before _ s = true := fun w hw => hts0 w (List.mem_cons_of_mem _ hw)
  have hown : s.vm.findClass "CashRecyclerLaw" = some m.cls := findClass_of_methodNamed B.named
  have hlk := B.notSynchronized
  have hl := lv_entry ([.ref (ad 0), .int a, .ref aO]) (n := 4) (Nat.le_of_ble_eq_true rfl)
  rw [lg_entry_eq]
  generalize (lg_sl ([.ref (ad 0), .int a, .ref aO]) ++ List.replicate (4 - (lg_sl ([.ref (ad 0), .int a, .ref aO])).length) Slot.unset).toArray = ls at hl ⊢
  have hl : lv_has ls 4 [(0, .ref (ad 0)), (1, .int a), (2, .ref aO)] := hl
  have hP := q_J_W hJ
  have hS : va_S (q_AL ad aO) s.heap s.heap [] := va_S.rf
  obtain ⟨m9, meth9, c9, g1, g2, g3, -, -, g4, -⟩ := Cond.codeWith_spec (hts0 _ List.mem_cons_self)
  cases B.named.symm.trans g1
  cases B.method.symm.trans g2
  cases (Stand.of_body B).code.symm.trans g3
  obtain ⟨e1, e2, hes, f1, f2⟩ := q_es2 g4
  simp only [Prod.mk.injEq] at f1
  simp only [Prod.mk.injEq] at f2
  refine lv_aload_n hx hb dw_insert_0 rfl (lv_at hl 2 rfl) ?_
  refine lv_iconst (v := 0) hx hb dw_insert_1 (by decide) ?_
  refine lv_aload_n hx hb dw_insert_2 rfl (lv_at hl 0 rfl) ?_
  refine lv_iload_n hx hb dw_insert_3 rfl (lv_at hl 1 rfl) ?_
  refine q_utry hfl (j := 44) (ro := 0) (idx := 7) (x := 1) (hpc := 15) (as := [.inl a]) (rest := [.int 0, .ref aO]) (A0 := q_AL ad aO) ⟨hx, hb, hml, hown, hts⟩ hSt.1 (by decide) (by decide) rfl hq rfl rfl (q_inAt lw_insert rfl) (Nat.le_refl _) (Nat.le_refl _) (Nat.le_refl _) (Nat.le_refl _) hP hS (fun q z => Or.inl z) (fun U hU hW => ⟨q_Sta_at hSt va_S.rf hU hW, q_Thr_at hThr hP va_S.rf hU hW⟩) hl.1 rfl (Nat.le_of_ble_eq_true rfl) dw_insert_4 hes ?_ (fun ex H1 locs1 hP1 hz hk hS1 => ?_)
  · intro U g ex ce z1 z2 z3 z4 z5 z6 hpl
    refine q_fg_pass (x := e1) (own := "CashRecyclerLaw") (X := q_exN 1) (Y := "java/lang/IllegalArgumentException") hpl z4 (by rw [z5]; exact hown) (by simp [covers, f1, z6]) (by rw [f1.2.2.2]; decide) (by rw [f1.2.2.2]; exact hts _ (q_inAt cl_13 rfl)) (by first | exact z1 | exact z1) z2 z3 (hNc _ (by decide +kernel) _ (by decide +kernel) (by decide +kernel)) (fun vm1 z4 => ?_)
    have key := q_fg_hit (e := e) (U := (U.setVm vm1)) (f := g) (a := ex) (x := e2) (t := []) (own := "CashRecyclerLaw") (X := q_exN 1) (args := _) hpl z4 (by rw [z5]; exact hown) (by simp [covers, f2, z6]) (by rw [f2.2.2.2]; decide) (by rw [f2.2.2.2]; exact hts _ (q_inAt cl_15 rfl)) z1 z2 z3 (hThr.1.1 _ (by decide +kernel))
    rw [f2.2.2.1] at key
    exact key
  · have hJ1 : va_P D qCl (q_J ad cI cZ cQ aO cL h' o) H1 := q_J_mk hP1 (by rw [hk aO (Array.getElem?_eq_some_iff.mp (q_J_O hJ)).1 hO]; exact q_J_O hJ)
    refine lv_astore_n hx hb dw_insert_15 rfl hl (by decide) rfl (fun ls9 hl9 => ?_)
    refine lv_iconst (v := 2) hx hb dw_insert_16 (by decide) ?_
    exact W.iret hx hb hr (fun t ht _ => ⟨⟨2, (), rfl, rfl, by show va_P _ _ _ t.heap; rw [ht]; exact hJ1⟩, hS1.F ht⟩) hS1.2.2 dw_insert_17
theorem dw_verdict_0 : decode method_4_code 0 = .ok (.aload_n 2, 1) := by decide +kernel
theorem dw_verdict_1 : decode method_4_code 1 = .ok (.iconst 0, 1) := by decide +kernel
theorem dw_verdict_2 : decode method_4_code 2 = .ok (.aload_n 0, 1) := by decide +kernel
theorem dw_verdict_3 : decode method_4_code 3 = .ok (.iload_n 1, 1) := by decide +kernel
theorem dw_verdict_4 : decode method_4_code 4 = .ok (.invokevirtual 17, 3) := by decide +kernel
theorem dw_verdict_7 : decode method_4_code 7 = .ok (.i2l, 1) := by decide +kernel
theorem dw_verdict_8 : decode method_4_code 8 = .ok (.lastore, 1) := by decide +kernel
theorem dw_verdict_9 : decode method_4_code 9 = .ok (.goto 9, 3) := by decide +kernel
theorem dw_verdict_12 : decode method_4_code 12 = .ok (.astore_n 3, 1) := by decide +kernel
theorem dw_verdict_13 : decode method_4_code 13 = .ok (.iconst 1, 1) := by decide +kernel
theorem dw_verdict_14 : decode method_4_code 14 = .ok (.ireturn, 1) := by decide +kernel
theorem dw_verdict_15 : decode method_4_code 15 = .ok (.astore_n 3, 1) := by decide +kernel
theorem dw_verdict_16 : decode method_4_code 16 = .ok (.iconst 2, 1) := by decide +kernel
theorem dw_verdict_17 : decode method_4_code 17 = .ok (.ireturn, 1) := by decide +kernel
theorem dw_verdict_18 : decode method_4_code 18 = .ok (.iconst 0, 1) := by decide +kernel
theorem dw_verdict_19 : decode method_4_code 19 = .ok (.ireturn, 1) := by decide +kernel
theorem lw_verdict : lw_tbl[385]? = some (.methodLink "CashRecyclerLaw" 17 (qmY 45)) := by decide +kernel
abbrev yw_verdict : MethodName := ⟨"CashRecyclerLaw", "verdict", "(LCashRecycler;I[J)I"⟩
def ws_verdict : List Cond := .codeWith yw_verdict method_4_code 4 (some .int) [(0, 9, 12, 13), (0, 9, 15, 15)] :: q_WS
def rw_verdict : Room := { frames := qmF 45 + 1, cells := 1, slots := 6, locals := 8 + (qmL 45 + 11) + qmW 45 }
set_option maxHeartbeats 4000000 in
theorem w_verdict_r {l : Launch} {D : va_G} {ad : Nat → Nat} {cI cZ cQ : ClassId} {aO : Nat} {cL : ClassId} {h h' : HP} {o : Int64} {a : Int32} {v : Int32} (hq : Ec 45 [.inr 0, .inl a] h (.inl (some v), h')) : q_MetL l D ad cI cZ cQ aO cL yw_verdict ws_verdict rw_verdict [.ref (ad 0), .int a, .ref aO] h o 0 h' v.toInt64 := by
  refine va_MetW (cc := method_4_code) (maxL := 4) (ret := some .int) q_pl rfl ?_
  intro p e s m args below meth c s₁ B hml hv
  obtain ⟨rfl, hJ, hSt, hThr, hKL, hNc, hO⟩ := hv
  have hx := B.exec
  have hb := B.bytes
  have hr := B.returns
  have hts0 := atoms_spec (ws := ws_verdict) B.pre
  have hts : ∀ w ∈ q_WS, w.before _ s = true := fun w hw => hts0 w (List.mem_cons_of_mem _ hw)
  have hown : s.vm.findClass "CashRecyclerLaw" = some m.cls := findClass_of_methodNamed B.named
  have hlk := B.notSynchronized
  have hl := lv_entry ([.ref (ad 0), .int a, .ref aO]) (n := 4) (Nat.le_of_ble_eq_true rfl)
  rw [lg_entry_eq]
  generalize (lg_sl ([.ref (ad 0), .int a, .ref aO]) ++ List.replicate (4 - (lg_sl ([.ref (ad 0), .int a, .ref aO])).length) Slot.unset).toArray = ls at hl ⊢
  have hl : lv_has ls 4 [(0, .ref (ad 0)), (1, .int a), (2, .ref aO)] := hl
  have hP := q_J_W hJ
  have hS : va_S (q_AL ad aO) s.heap s.heap [] := va_S.rf
  refine lv_aload_n hx hb dw_verdict_0 rfl (lv_at hl 2 rfl) ?_
  refine lv_iconst (v := 0) hx hb dw_verdict_1 (by decide) ?_
  refine lv_aload_n hx hb dw_verdict_2 rfl (lv_at hl 0 rfl) ?_
  refine lv_iload_n hx hb dw_verdict_3 rfl (lv_at hl 1 rfl) ?_
  refine q_ucall (j := 45) (ro := 0) (idx := 17) (as := [.inl a]) (rest := [.int 0, .ref aO]) (A0 := q_AL ad aO) ⟨hx, hb, hml, hown, hts⟩ hSt.1 (by decide) (by decide) rfl hq rfl rfl (q_inAt lw_verdict rfl) (Nat.le_refl _) (Nat.le_refl _) (Nat.zero_le _) (Nat.zero_le _) hP hS (fun q z => Or.inl z) (fun U hU hW => q_Sta_at hSt va_S.rf hU hW) hl.1 rfl (Nat.le_of_ble_eq_true rfl) dw_verdict_4 (fun H1 locs1 hP1 hz hk hS1 => ?_)
  have hJ1 : va_P D qCl (q_J ad cI cZ cQ aO cL h' o) H1 := q_J_mk hP1 (by rw [hk aO (Array.getElem?_eq_some_iff.mp (q_J_O hJ)).1 hO]; exact q_J_O hJ)
  refine lv_i2l (v := v.toInt64) hx hb dw_verdict_7 rfl ?_
  refine va_last (D := D) (cl := qCl) (H0 := s.heap) (A := q_AL ad aO) hx hb hKL hJ1 (q_J_D hSt.2.2.2.2 hO (fun _ z => z)) hS1 47 0 q_J_47 rfl q_in01 dw_verdict_8 (fun H2 locs2 hP2 hD2 hS2 => ?_)
  have hJ2 : va_P D qCl (q_J ad cI cZ cQ aO cL h' v.toInt64) H2 := q_J_set (by rfl) hP2
  refine lv_goto hx hb dw_verdict_9 rfl ?_
  refine lv_iconst (v := 0) hx hb dw_verdict_18 (by decide) ?_
  refine W.widen (k := 1) (n := 6) (by omega) (by omega) ?_
  exact W.iret hx hb hr (fun t ht _ => ⟨⟨0, (), rfl, rfl, by show va_P _ _ _ t.heap; rw [ht]; exact hJ2⟩, hS2.F ht⟩) hS2.2.2 dw_verdict_19
set_option maxHeartbeats 4000000 in
theorem w_verdict_t0 {l : Launch} {D : va_G} {ad : Nat → Nat} {cI cZ cQ : ClassId} {aO : Nat} {cL : ClassId} {h h' : HP} {o : Int64} {a : Int32} (hfl : ∀ e : Env, l.admits e → e.platform.stackTraces = false) (hq : Ec 45 [.inr 0, .inl a] h (.inr 0, h')) : q_MetL l D ad cI cZ cQ aO cL yw_verdict ws_verdict rw_verdict [.ref (ad 0), .int a, .ref aO] h o 1 h' o := by
  refine va_MetW (cc := method_4_code) (maxL := 4) (ret := some .int) q_pl rfl ?_
  intro p e s m args below meth c s₁ B hml hv
  obtain ⟨rfl, hJ, hSt, hThr, hKL, hNc, hO⟩ := hv
  have hx := B.exec
  have hb := B.bytes
  have hr := B.returns
  have hts0 := atoms_spec (ws := ws_verdict) B.pre
  have hts : ∀ w ∈ q_WS, w.before _ s = true := fun w hw => hts0 w (List.mem_cons_of_mem _ hw)
  have hown : s.vm.findClass "CashRecyclerLaw" = some m.cls := findClass_of_methodNamed B.named
  have hlk := B.notSynchronized
  have hl := lv_entry ([.ref (ad 0), .int a, .ref aO]) (n := 4) (Nat.le_of_ble_eq_true rfl)
  rw [lg_entry_eq]
  generalize (lg_sl ([.ref (ad 0), .int a, .ref aO]) ++ List.replicate (4 - (lg_sl ([.ref (ad 0), .int a, .ref aO])).length) Slot.unset).toArray = ls at hl ⊢
  have hl : lv_has ls 4 [(0, .ref (ad 0)), (1, .int a), (2, .ref aO)] := hl
  have hP := q_J_W hJ
  have hS : va_S (q_AL ad aO) s.heap s.heap [] := va_S.rf
  obtain ⟨m9, meth9, c9, g1, g2, g3, -, -, g4, -⟩ := Cond.codeWith_spec (hts0 _ List.mem_cons_self)
  cases B.named.symm.trans g1
  cases B.method.symm.trans g2
  cases (Stand.of_body B).code.symm.trans g3
  obtain ⟨e1, e2, hes, f1, f2⟩ := q_es2 g4
  simp only [Prod.mk.injEq] at f1
  simp only [Prod.mk.injEq] at f2
  refine lv_aload_n hx hb dw_verdict_0 rfl (lv_at hl 2 rfl) ?_
  refine lv_iconst (v := 0) hx hb dw_verdict_1 (by decide) ?_
  refine lv_aload_n hx hb dw_verdict_2 rfl (lv_at hl 0 rfl) ?_
  refine lv_iload_n hx hb dw_verdict_3 rfl (lv_at hl 1 rfl) ?_
  refine q_utry hfl (j := 45) (ro := 0) (idx := 17) (x := 0) (hpc := 12) (as := [.inl a]) (rest := [.int 0, .ref aO]) (A0 := q_AL ad aO) ⟨hx, hb, hml, hown, hts⟩ hSt.1 (by decide) (by decide) rfl hq rfl rfl (q_inAt lw_verdict rfl) (Nat.le_refl _) (Nat.le_refl _) (Nat.le_refl _) (Nat.le_refl _) hP hS (fun q z => Or.inl z) (fun U hU hW => ⟨q_Sta_at hSt va_S.rf hU hW, q_Thr_at hThr hP va_S.rf hU hW⟩) hl.1 rfl (Nat.le_of_ble_eq_true rfl) dw_verdict_4 hes ?_ (fun ex H1 locs1 hP1 hz hk hS1 => ?_)
  · intro U g ex ce z1 z2 z3 z4 z5 z6 hpl
    have key := q_fg_hit (e := e) (U := U) (f := g) (a := ex) (x := e1) (t := [e2]) (own := "CashRecyclerLaw") (X := q_exN 0) (args := _) hpl z4 (by rw [z5]; exact hown) (by simp [covers, f1, z6]) (by rw [f1.2.2.2]; decide) (by rw [f1.2.2.2]; exact hts _ (q_inAt cl_13 rfl)) z1 z2 z3 (hThr.1.1 _ (by decide +kernel))
    rw [f1.2.2.1] at key
    exact key
  · have hJ1 : va_P D qCl (q_J ad cI cZ cQ aO cL h' o) H1 := q_J_mk hP1 (by rw [hk aO (Array.getElem?_eq_some_iff.mp (q_J_O hJ)).1 hO]; exact q_J_O hJ)
    refine lv_astore_n hx hb dw_verdict_12 rfl hl (by decide) rfl (fun ls9 hl9 => ?_)
    refine lv_iconst (v := 1) hx hb dw_verdict_13 (by decide) ?_
    exact W.iret hx hb hr (fun t ht _ => ⟨⟨1, (), rfl, rfl, by show va_P _ _ _ t.heap; rw [ht]; exact hJ1⟩, hS1.F ht⟩) hS1.2.2 dw_verdict_14
set_option maxHeartbeats 4000000 in
theorem w_verdict_t1 {l : Launch} {D : va_G} {ad : Nat → Nat} {cI cZ cQ : ClassId} {aO : Nat} {cL : ClassId} {h h' : HP} {o : Int64} {a : Int32} (hfl : ∀ e : Env, l.admits e → e.platform.stackTraces = false) (hq : Ec 45 [.inr 0, .inl a] h (.inr 1, h')) : q_MetL l D ad cI cZ cQ aO cL yw_verdict ws_verdict rw_verdict [.ref (ad 0), .int a, .ref aO] h o 2 h' o := by
  refine va_MetW (cc := method_4_code) (maxL := 4) (ret := some .int) q_pl rfl ?_
  intro p e s m args below meth c s₁ B hml hv
  obtain ⟨rfl, hJ, hSt, hThr, hKL, hNc, hO⟩ := hv
  have hx := B.exec
  have hb := B.bytes
  have hr := B.returns
  have hts0 := atoms_spec (ws := ws_verdict) B.pre
  have hts : ∀ w ∈ q_WS, w.before _ s = true := fun w hw => hts0 w (List.mem_cons_of_mem _ hw)
  have hown : s.vm.findClass "CashRecyclerLaw" = some m.cls := findClass_of_methodNamed B.named
  have hlk := B.notSynchronized
  have hl := lv_entry ([.ref (ad 0), .int a, .ref aO]) (n := 4) (Nat.le_of_ble_eq_true rfl)
  rw [lg_entry_eq]
  generalize (lg_sl ([.ref (ad 0), .int a, .ref aO]) ++ List.replicate (4 - (lg_sl ([.ref (ad 0), .int a, .ref aO])).length) Slot.unset).toArray = ls at hl ⊢
  have hl : lv_has ls 4 [(0, .ref (ad 0)), (1, .int a), (2, .ref aO)] := hl
  have hP := q_J_W hJ
  have hS : va_S (q_AL ad aO) s.heap s.heap [] := va_S.rf
  obtain ⟨m9, meth9, c9, g1, g2, g3, -, -, g4, -⟩ := Cond.codeWith_spec (hts0 _ List.mem_cons_self)
  cases B.named.symm.trans g1
  cases B.method.symm.trans g2
  cases (Stand.of_body B).code.symm.trans g3
  obtain ⟨e1, e2, hes, f1, f2⟩ := q_es2 g4
  simp only [Prod.mk.injEq] at f1
  simp only [Prod.mk.injEq] at f2
  refine lv_aload_n hx hb dw_verdict_0 rfl (lv_at hl 2 rfl) ?_
  refine lv_iconst (v := 0) hx hb dw_verdict_1 (by decide) ?_
  refine lv_aload_n hx hb dw_verdict_2 rfl (lv_at hl 0 rfl) ?_
  refine lv_iload_n hx hb dw_verdict_3 rfl (lv_at hl 1 rfl) ?_
  refine q_utry hfl (j := 45) (ro := 0) (idx := 17) (x := 1) (hpc := 15) (as := [.inl a]) (rest := [.int 0, .ref aO]) (A0 := q_AL ad aO) ⟨hx, hb, hml, hown, hts⟩ hSt.1 (by decide) (by decide) rfl hq rfl rfl (q_inAt lw_verdict rfl) (Nat.le_refl _) (Nat.le_refl _) (Nat.le_refl _) (Nat.le_refl _) hP hS (fun q z => Or.inl z) (fun U hU hW => ⟨q_Sta_at hSt va_S.rf hU hW, q_Thr_at hThr hP va_S.rf hU hW⟩) hl.1 rfl (Nat.le_of_ble_eq_true rfl) dw_verdict_4 hes ?_ (fun ex H1 locs1 hP1 hz hk hS1 => ?_)
  · intro U g ex ce z1 z2 z3 z4 z5 z6 hpl
    refine q_fg_pass (x := e1) (own := "CashRecyclerLaw") (X := q_exN 1) (Y := "java/lang/IllegalArgumentException") hpl z4 (by rw [z5]; exact hown) (by simp [covers, f1, z6]) (by rw [f1.2.2.2]; decide) (by rw [f1.2.2.2]; exact hts _ (q_inAt cl_13 rfl)) (by first | exact z1 | exact z1) z2 z3 (hNc _ (by decide +kernel) _ (by decide +kernel) (by decide +kernel)) (fun vm1 z4 => ?_)
    have key := q_fg_hit (e := e) (U := (U.setVm vm1)) (f := g) (a := ex) (x := e2) (t := []) (own := "CashRecyclerLaw") (X := q_exN 1) (args := _) hpl z4 (by rw [z5]; exact hown) (by simp [covers, f2, z6]) (by rw [f2.2.2.2]; decide) (by rw [f2.2.2.2]; exact hts _ (q_inAt cl_15 rfl)) z1 z2 z3 (hThr.1.1 _ (by decide +kernel))
    rw [f2.2.2.1] at key
    exact key
  · have hJ1 : va_P D qCl (q_J ad cI cZ cQ aO cL h' o) H1 := q_J_mk hP1 (by rw [hk aO (Array.getElem?_eq_some_iff.mp (q_J_O hJ)).1 hO]; exact q_J_O hJ)
    refine lv_astore_n hx hb dw_verdict_15 rfl hl (by decide) rfl (fun ls9 hl9 => ?_)
    refine lv_iconst (v := 2) hx hb dw_verdict_16 (by decide) ?_
    exact W.iret hx hb hr (fun t ht _ => ⟨⟨2, (), rfl, rfl, by show va_P _ _ _ t.heap; rw [ht]; exact hJ1⟩, hS1.F ht⟩) hS1.2.2 dw_verdict_17
theorem dw_deposit_0 : decode method_5_code 0 = .ok (.aload_n 0, 1) := by decide +kernel
theorem dw_deposit_1 : decode method_5_code 1 = .ok (.invokevirtual 20, 3) := by decide +kernel
theorem dw_deposit_4 : decode method_5_code 4 = .ok (.goto 6, 3) := by decide +kernel
theorem dw_deposit_7 : decode method_5_code 7 = .ok (.astore_n 1, 1) := by decide +kernel
theorem dw_deposit_8 : decode method_5_code 8 = .ok (.iconst 1, 1) := by decide +kernel
theorem dw_deposit_9 : decode method_5_code 9 = .ok (.ireturn, 1) := by decide +kernel
theorem dw_deposit_10 : decode method_5_code 10 = .ok (.iconst 0, 1) := by decide +kernel
theorem dw_deposit_11 : decode method_5_code 11 = .ok (.ireturn, 1) := by decide +kernel
theorem lw_deposit : lw_tbl[400]? = some (.methodLink "CashRecyclerLaw" 20 (qmY 47)) := by decide +kernel
abbrev yw_deposit : MethodName := ⟨"CashRecyclerLaw", "deposit", "(LCashRecycler;)I"⟩
def ws_deposit : List Cond := .codeWith yw_deposit method_5_code 2 (some .int) [(0, 4, 7, 15)] :: q_WS
def rw_deposit : Room := { frames := qmF 47 + 1, cells := 1, slots := 6, locals := 8 + (qmL 47 + 11) + qmW 47 }
set_option maxHeartbeats 4000000 in
theorem w_deposit_r {l : Launch} {D : va_G} {ad : Nat → Nat} {cI cZ cQ : ClassId} {aO : Nat} {cL : ClassId} {h h' : HP} {o : Int64} (hq : Ec 47 [.inr 0] h (.inl none, h')) : q_MetL l D ad cI cZ cQ aO cL yw_deposit ws_deposit rw_deposit [.ref (ad 0)] h o 0 h' o := by
  refine va_MetW (cc := method_5_code) (maxL := 2) (ret := some .int) q_pl rfl ?_
  intro p e s m args below meth c s₁ B hml hv
  obtain ⟨rfl, hJ, hSt, hThr, hKL, hNc, hO⟩ := hv
  have hx := B.exec
  have hb := B.bytes
  have hr := B.returns
  have hts0 := atoms_spec (ws := ws_deposit) B.pre
  have hts : ∀ w ∈ q_WS, w.before _ s = true := fun w hw => hts0 w (List.mem_cons_of_mem _ hw)
  have hown : s.vm.findClass "CashRecyclerLaw" = some m.cls := findClass_of_methodNamed B.named
  have hlk := B.notSynchronized
  have hl := lv_entry ([.ref (ad 0)]) (n := 2) (Nat.le_of_ble_eq_true rfl)
  rw [lg_entry_eq]
  generalize (lg_sl ([.ref (ad 0)]) ++ List.replicate (2 - (lg_sl ([.ref (ad 0)])).length) Slot.unset).toArray = ls at hl ⊢
  have hl : lv_has ls 2 [(0, .ref (ad 0))] := hl
  have hP := q_J_W hJ
  have hS : va_S (q_AL ad aO) s.heap s.heap [] := va_S.rf
  refine lv_aload_n hx hb dw_deposit_0 rfl (lv_at hl 0 rfl) ?_
  refine q_ucall (j := 47) (ro := 0) (idx := 20) (as := []) (rest := []) (A0 := q_AL ad aO) ⟨hx, hb, hml, hown, hts⟩ hSt.1 (by decide) (by decide) rfl hq rfl rfl (q_inAt lw_deposit rfl) (Nat.le_refl _) (Nat.le_refl _) (Nat.zero_le _) (Nat.zero_le _) hP hS (fun q z => Or.inl z) (fun U hU hW => q_Sta_at hSt va_S.rf hU hW) hl.1 rfl (Nat.le_of_ble_eq_true rfl) dw_deposit_1 (fun H1 locs1 hP1 hz hk hS1 => ?_)
  have hJ1 : va_P D qCl (q_J ad cI cZ cQ aO cL h' o) H1 := q_J_mk hP1 (by rw [hk aO (Array.getElem?_eq_some_iff.mp (q_J_O hJ)).1 hO]; exact q_J_O hJ)
  refine lv_goto hx hb dw_deposit_4 rfl ?_
  refine lv_iconst (v := 0) hx hb dw_deposit_10 (by decide) ?_
  refine W.widen (k := 1) (n := 6) (by omega) (by omega) ?_
  exact W.iret hx hb hr (fun t ht _ => ⟨⟨0, (), rfl, rfl, by show va_P _ _ _ t.heap; rw [ht]; exact hJ1⟩, hS1.F ht⟩) hS1.2.2 dw_deposit_11
set_option maxHeartbeats 4000000 in
theorem w_deposit_t1 {l : Launch} {D : va_G} {ad : Nat → Nat} {cI cZ cQ : ClassId} {aO : Nat} {cL : ClassId} {h h' : HP} {o : Int64} (hfl : ∀ e : Env, l.admits e → e.platform.stackTraces = false) (hq : Ec 47 [.inr 0] h (.inr 1, h')) : q_MetL l D ad cI cZ cQ aO cL yw_deposit ws_deposit rw_deposit [.ref (ad 0)] h o 1 h' o := by
  refine va_MetW (cc := method_5_code) (maxL := 2) (ret := some .int) q_pl rfl ?_
  intro p e s m args below meth c s₁ B hml hv
  obtain ⟨rfl, hJ, hSt, hThr, hKL, hNc, hO⟩ := hv
  have hx := B.exec
  have hb := B.bytes
  have hr := B.returns
  have hts0 := atoms_spec (ws := ws_deposit) B.pre
  have hts : ∀ w ∈ q_WS, w.before _ s = true := fun w hw => hts0 w (List.mem_cons_of_mem _ hw)
  have hown : s.vm.findClass "CashRecyclerLaw" = some m.cls := findClass_of_methodNamed B.named
  have hlk := B.notSynchronized
  have hl := lv_entry ([.ref (ad 0)]) (n := 2) (Nat.le_of_ble_eq_true rfl)
  rw [lg_entry_eq]
  generalize (lg_sl ([.ref (ad 0)]) ++ List.replicate (2 - (lg_sl ([.ref (ad 0)])).length) Slot.unset).toArray = ls at hl ⊢
  have hl : lv_has ls 2 [(0, .ref (ad 0))] := hl
  have hP := q_J_W hJ
  have hS : va_S (q_AL ad aO) s.heap s.heap [] := va_S.rf
  obtain ⟨m9, meth9, c9, g1, g2, g3, -, -, g4, -⟩ := Cond.codeWith_spec (hts0 _ List.mem_cons_self)
  cases B.named.symm.trans g1
  cases B.method.symm.trans g2
  cases (Stand.of_body B).code.symm.trans g3
  obtain ⟨e1, hes, f1⟩ := q_es1 g4
  simp only [Prod.mk.injEq] at f1
  refine lv_aload_n hx hb dw_deposit_0 rfl (lv_at hl 0 rfl) ?_
  refine q_utry hfl (j := 47) (ro := 0) (idx := 20) (x := 1) (hpc := 7) (as := []) (rest := []) (A0 := q_AL ad aO) ⟨hx, hb, hml, hown, hts⟩ hSt.1 (by decide) (by decide) rfl hq rfl rfl (q_inAt lw_deposit rfl) (Nat.le_refl _) (Nat.le_refl _) (Nat.le_refl _) (Nat.le_refl _) hP hS (fun q z => Or.inl z) (fun U hU hW => ⟨q_Sta_at hSt va_S.rf hU hW, q_Thr_at hThr hP va_S.rf hU hW⟩) hl.1 rfl (Nat.le_of_ble_eq_true rfl) dw_deposit_1 hes ?_ (fun ex H1 locs1 hP1 hz hk hS1 => ?_)
  · intro U g ex ce z1 z2 z3 z4 z5 z6 hpl
    have key := q_fg_hit (e := e) (U := U) (f := g) (a := ex) (x := e1) (t := []) (own := "CashRecyclerLaw") (X := q_exN 1) (args := _) hpl z4 (by rw [z5]; exact hown) (by simp [covers, f1, z6]) (by rw [f1.2.2.2]; decide) (by rw [f1.2.2.2]; exact hts _ (q_inAt cl_15 rfl)) z1 z2 z3 (hThr.1.1 _ (by decide +kernel))
    rw [f1.2.2.1] at key
    exact key
  · have hJ1 : va_P D qCl (q_J ad cI cZ cQ aO cL h' o) H1 := q_J_mk hP1 (by rw [hk aO (Array.getElem?_eq_some_iff.mp (q_J_O hJ)).1 hO]; exact q_J_O hJ)
    refine lv_astore_n hx hb dw_deposit_7 rfl hl (by decide) rfl (fun ls9 hl9 => ?_)
    refine lv_iconst (v := 1) hx hb dw_deposit_8 (by decide) ?_
    exact W.iret hx hb hr (fun t ht _ => ⟨⟨1, (), rfl, rfl, by show va_P _ _ _ t.heap; rw [ht]; exact hJ1⟩, hS1.F ht⟩) hS1.2.2 dw_deposit_9
theorem dw_confirm_0 : decode method_6_code 0 = .ok (.aload_n 0, 1) := by decide +kernel
theorem dw_confirm_1 : decode method_6_code 1 = .ok (.invokevirtual 23, 3) := by decide +kernel
theorem dw_confirm_4 : decode method_6_code 4 = .ok (.goto 6, 3) := by decide +kernel
theorem dw_confirm_7 : decode method_6_code 7 = .ok (.astore_n 1, 1) := by decide +kernel
theorem dw_confirm_8 : decode method_6_code 8 = .ok (.iconst 1, 1) := by decide +kernel
theorem dw_confirm_9 : decode method_6_code 9 = .ok (.ireturn, 1) := by decide +kernel
theorem dw_confirm_10 : decode method_6_code 10 = .ok (.iconst 0, 1) := by decide +kernel
theorem dw_confirm_11 : decode method_6_code 11 = .ok (.ireturn, 1) := by decide +kernel
theorem lw_confirm : lw_tbl[412]? = some (.methodLink "CashRecyclerLaw" 23 (qmY 48)) := by decide +kernel
abbrev yw_confirm : MethodName := ⟨"CashRecyclerLaw", "confirm", "(LCashRecycler;)I"⟩
def ws_confirm : List Cond := .codeWith yw_confirm method_6_code 2 (some .int) [(0, 4, 7, 15)] :: q_WS
def rw_confirm : Room := { frames := qmF 48 + 1, cells := 1, slots := 6, locals := 8 + (qmL 48 + 11) + qmW 48 }
set_option maxHeartbeats 4000000 in
theorem w_confirm_r {l : Launch} {D : va_G} {ad : Nat → Nat} {cI cZ cQ : ClassId} {aO : Nat} {cL : ClassId} {h h' : HP} {o : Int64} (hq : Ec 48 [.inr 0] h (.inl none, h')) : q_MetL l D ad cI cZ cQ aO cL yw_confirm ws_confirm rw_confirm [.ref (ad 0)] h o 0 h' o := by
  refine va_MetW (cc := method_6_code) (maxL := 2) (ret := some .int) q_pl rfl ?_
  intro p e s m args below meth c s₁ B hml hv
  obtain ⟨rfl, hJ, hSt, hThr, hKL, hNc, hO⟩ := hv
  have hx := B.exec
  have hb := B.bytes
  have hr := B.returns
  have hts0 := atoms_spec (ws := ws_confirm) B.pre
  have hts : ∀ w ∈ q_WS, w.before _ s = true := fun w hw => hts0 w (List.mem_cons_of_mem _ hw)
  have hown : s.vm.findClass "CashRecyclerLaw" = some m.cls := findClass_of_methodNamed B.named
  have hlk := B.notSynchronized
  have hl := lv_entry ([.ref (ad 0)]) (n := 2) (Nat.le_of_ble_eq_true rfl)
  rw [lg_entry_eq]
  generalize (lg_sl ([.ref (ad 0)]) ++ List.replicate (2 - (lg_sl ([.ref (ad 0)])).length) Slot.unset).toArray = ls at hl ⊢
  have hl : lv_has ls 2 [(0, .ref (ad 0))] := hl
  have hP := q_J_W hJ
  have hS : va_S (q_AL ad aO) s.heap s.heap [] := va_S.rf
  refine lv_aload_n hx hb dw_confirm_0 rfl (lv_at hl 0 rfl) ?_
  refine q_ucall (j := 48) (ro := 0) (idx := 23) (as := []) (rest := []) (A0 := q_AL ad aO) ⟨hx, hb, hml, hown, hts⟩ hSt.1 (by decide) (by decide) rfl hq rfl rfl (q_inAt lw_confirm rfl) (Nat.le_refl _) (Nat.le_refl _) (Nat.zero_le _) (Nat.zero_le _) hP hS (fun q z => Or.inl z) (fun U hU hW => q_Sta_at hSt va_S.rf hU hW) hl.1 rfl (Nat.le_of_ble_eq_true rfl) dw_confirm_1 (fun H1 locs1 hP1 hz hk hS1 => ?_)
  have hJ1 : va_P D qCl (q_J ad cI cZ cQ aO cL h' o) H1 := q_J_mk hP1 (by rw [hk aO (Array.getElem?_eq_some_iff.mp (q_J_O hJ)).1 hO]; exact q_J_O hJ)
  refine lv_goto hx hb dw_confirm_4 rfl ?_
  refine lv_iconst (v := 0) hx hb dw_confirm_10 (by decide) ?_
  refine W.widen (k := 1) (n := 6) (by omega) (by omega) ?_
  exact W.iret hx hb hr (fun t ht _ => ⟨⟨0, (), rfl, rfl, by show va_P _ _ _ t.heap; rw [ht]; exact hJ1⟩, hS1.F ht⟩) hS1.2.2 dw_confirm_11
set_option maxHeartbeats 4000000 in
theorem w_confirm_t1 {l : Launch} {D : va_G} {ad : Nat → Nat} {cI cZ cQ : ClassId} {aO : Nat} {cL : ClassId} {h h' : HP} {o : Int64} (hfl : ∀ e : Env, l.admits e → e.platform.stackTraces = false) (hq : Ec 48 [.inr 0] h (.inr 1, h')) : q_MetL l D ad cI cZ cQ aO cL yw_confirm ws_confirm rw_confirm [.ref (ad 0)] h o 1 h' o := by
  refine va_MetW (cc := method_6_code) (maxL := 2) (ret := some .int) q_pl rfl ?_
  intro p e s m args below meth c s₁ B hml hv
  obtain ⟨rfl, hJ, hSt, hThr, hKL, hNc, hO⟩ := hv
  have hx := B.exec
  have hb := B.bytes
  have hr := B.returns
  have hts0 := atoms_spec (ws := ws_confirm) B.pre
  have hts : ∀ w ∈ q_WS, w.before _ s = true := fun w hw => hts0 w (List.mem_cons_of_mem _ hw)
  have hown : s.vm.findClass "CashRecyclerLaw" = some m.cls := findClass_of_methodNamed B.named
  have hlk := B.notSynchronized
  have hl := lv_entry ([.ref (ad 0)]) (n := 2) (Nat.le_of_ble_eq_true rfl)
  rw [lg_entry_eq]
  generalize (lg_sl ([.ref (ad 0)]) ++ List.replicate (2 - (lg_sl ([.ref (ad 0)])).length) Slot.unset).toArray = ls at hl ⊢
  have hl : lv_has ls 2 [(0, .ref (ad 0))] := hl
  have hP := q_J_W hJ
  have hS : va_S (q_AL ad aO) s.heap s.heap [] := va_S.rf
  obtain ⟨m9, meth9, c9, g1, g2, g3, -, -, g4, -⟩ := Cond.codeWith_spec (hts0 _ List.mem_cons_self)
  cases B.named.symm.trans g1
  cases B.method.symm.trans g2
  cases (Stand.of_body B).code.symm.trans g3
  obtain ⟨e1, hes, f1⟩ := q_es1 g4
  simp only [Prod.mk.injEq] at f1
  refine lv_aload_n hx hb dw_confirm_0 rfl (lv_at hl 0 rfl) ?_
  refine q_utry hfl (j := 48) (ro := 0) (idx := 23) (x := 1) (hpc := 7) (as := []) (rest := []) (A0 := q_AL ad aO) ⟨hx, hb, hml, hown, hts⟩ hSt.1 (by decide) (by decide) rfl hq rfl rfl (q_inAt lw_confirm rfl) (Nat.le_refl _) (Nat.le_refl _) (Nat.le_refl _) (Nat.le_refl _) hP hS (fun q z => Or.inl z) (fun U hU hW => ⟨q_Sta_at hSt va_S.rf hU hW, q_Thr_at hThr hP va_S.rf hU hW⟩) hl.1 rfl (Nat.le_of_ble_eq_true rfl) dw_confirm_1 hes ?_ (fun ex H1 locs1 hP1 hz hk hS1 => ?_)
  · intro U g ex ce z1 z2 z3 z4 z5 z6 hpl
    have key := q_fg_hit (e := e) (U := U) (f := g) (a := ex) (x := e1) (t := []) (own := "CashRecyclerLaw") (X := q_exN 1) (args := _) hpl z4 (by rw [z5]; exact hown) (by simp [covers, f1, z6]) (by rw [f1.2.2.2]; decide) (by rw [f1.2.2.2]; exact hts _ (q_inAt cl_15 rfl)) z1 z2 z3 (hThr.1.1 _ (by decide +kernel))
    rw [f1.2.2.1] at key
    exact key
  · have hJ1 : va_P D qCl (q_J ad cI cZ cQ aO cL h' o) H1 := q_J_mk hP1 (by rw [hk aO (Array.getElem?_eq_some_iff.mp (q_J_O hJ)).1 hO]; exact q_J_O hJ)
    refine lv_astore_n hx hb dw_confirm_7 rfl hl (by decide) rfl (fun ls9 hl9 => ?_)
    refine lv_iconst (v := 1) hx hb dw_confirm_8 (by decide) ?_
    exact W.iret hx hb hr (fun t ht _ => ⟨⟨1, (), rfl, rfl, by show va_P _ _ _ t.heap; rw [ht]; exact hJ1⟩, hS1.F ht⟩) hS1.2.2 dw_confirm_9
theorem dw_giveBack_0 : decode method_7_code 0 = .ok (.aload_n 0, 1) := by decide +kernel
theorem dw_giveBack_1 : decode method_7_code 1 = .ok (.invokevirtual 26, 3) := by decide +kernel
theorem dw_giveBack_4 : decode method_7_code 4 = .ok (.goto 6, 3) := by decide +kernel
theorem dw_giveBack_7 : decode method_7_code 7 = .ok (.astore_n 1, 1) := by decide +kernel
theorem dw_giveBack_8 : decode method_7_code 8 = .ok (.iconst 1, 1) := by decide +kernel
theorem dw_giveBack_9 : decode method_7_code 9 = .ok (.ireturn, 1) := by decide +kernel
theorem dw_giveBack_10 : decode method_7_code 10 = .ok (.iconst 0, 1) := by decide +kernel
theorem dw_giveBack_11 : decode method_7_code 11 = .ok (.ireturn, 1) := by decide +kernel
theorem lw_giveBack : lw_tbl[419]? = some (.methodLink "CashRecyclerLaw" 26 (qmY 49)) := by decide +kernel
abbrev yw_giveBack : MethodName := ⟨"CashRecyclerLaw", "giveBack", "(LCashRecycler;)I"⟩
def ws_giveBack : List Cond := .codeWith yw_giveBack method_7_code 2 (some .int) [(0, 4, 7, 15)] :: q_WS
def rw_giveBack : Room := { frames := qmF 49 + 1, cells := 1, slots := 6, locals := 8 + (qmL 49 + 11) + qmW 49 }
set_option maxHeartbeats 4000000 in
theorem w_giveBack_r {l : Launch} {D : va_G} {ad : Nat → Nat} {cI cZ cQ : ClassId} {aO : Nat} {cL : ClassId} {h h' : HP} {o : Int64} (hq : Ec 49 [.inr 0] h (.inl none, h')) : q_MetL l D ad cI cZ cQ aO cL yw_giveBack ws_giveBack rw_giveBack [.ref (ad 0)] h o 0 h' o := by
  refine va_MetW (cc := method_7_code) (maxL := 2) (ret := some .int) q_pl rfl ?_
  intro p e s m args below meth c s₁ B hml hv
  obtain ⟨rfl, hJ, hSt, hThr, hKL, hNc, hO⟩ := hv
  have hx := B.exec
  have hb := B.bytes
  have hr := B.returns
  have hts0 := atoms_spec (ws := ws_giveBack) B.pre
  have hts : ∀ w ∈ q_WS, w.before _ s = true := fun w hw => hts0 w (List.mem_cons_of_mem _ hw)
  have hown : s.vm.findClass "CashRecyclerLaw" = some m.cls := findClass_of_methodNamed B.named
  have hlk := B.notSynchronized
  have hl := lv_entry ([.ref (ad 0)]) (n := 2) (Nat.le_of_ble_eq_true rfl)
  rw [lg_entry_eq]
  generalize (lg_sl ([.ref (ad 0)]) ++ List.replicate (2 - (lg_sl ([.ref (ad 0)])).length) Slot.unset).toArray = ls at hl ⊢
  have hl : lv_has ls 2 [(0, .ref (ad 0))] := hl
  have hP := q_J_W hJ
  have hS : va_S (q_AL ad aO) s.heap s.heap [] := va_S.rf
  refine lv_aload_n hx hb dw_giveBack_0 rfl (lv_at hl 0 rfl) ?_
  refine q_ucall (j := 49) (ro := 0) (idx := 26) (as := []) (rest := []) (A0 := q_AL ad aO) ⟨hx, hb, hml, hown, hts⟩ hSt.1 (by decide) (by decide) rfl hq rfl rfl (q_inAt lw_giveBack rfl) (Nat.le_refl _) (Nat.le_refl _) (Nat.zero_le _) (Nat.zero_le _) hP hS (fun q z => Or.inl z) (fun U hU hW => q_Sta_at hSt va_S.rf hU hW) hl.1 rfl (Nat.le_of_ble_eq_true rfl) dw_giveBack_1 (fun H1 locs1 hP1 hz hk hS1 => ?_)
  have hJ1 : va_P D qCl (q_J ad cI cZ cQ aO cL h' o) H1 := q_J_mk hP1 (by rw [hk aO (Array.getElem?_eq_some_iff.mp (q_J_O hJ)).1 hO]; exact q_J_O hJ)
  refine lv_goto hx hb dw_giveBack_4 rfl ?_
  refine lv_iconst (v := 0) hx hb dw_giveBack_10 (by decide) ?_
  refine W.widen (k := 1) (n := 6) (by omega) (by omega) ?_
  exact W.iret hx hb hr (fun t ht _ => ⟨⟨0, (), rfl, rfl, by show va_P _ _ _ t.heap; rw [ht]; exact hJ1⟩, hS1.F ht⟩) hS1.2.2 dw_giveBack_11
set_option maxHeartbeats 4000000 in
theorem w_giveBack_t1 {l : Launch} {D : va_G} {ad : Nat → Nat} {cI cZ cQ : ClassId} {aO : Nat} {cL : ClassId} {h h' : HP} {o : Int64} (hfl : ∀ e : Env, l.admits e → e.platform.stackTraces = false) (hq : Ec 49 [.inr 0] h (.inr 1, h')) : q_MetL l D ad cI cZ cQ aO cL yw_giveBack ws_giveBack rw_giveBack [.ref (ad 0)] h o 1 h' o := by
  refine va_MetW (cc := method_7_code) (maxL := 2) (ret := some .int) q_pl rfl ?_
  intro p e s m args below meth c s₁ B hml hv
  obtain ⟨rfl, hJ, hSt, hThr, hKL, hNc, hO⟩ := hv
  have hx := B.exec
  have hb := B.bytes
  have hr := B.returns
  have hts0 := atoms_spec (ws := ws_giveBack) B.pre
  have hts : ∀ w ∈ q_WS, w.before _ s = true := fun w hw => hts0 w (List.mem_cons_of_mem _ hw)
  have hown : s.vm.findClass "CashRecyclerLaw" = some m.cls := findClass_of_methodNamed B.named
  have hlk := B.notSynchronized
  have hl := lv_entry ([.ref (ad 0)]) (n := 2) (Nat.le_of_ble_eq_true rfl)
  rw [lg_entry_eq]
  generalize (lg_sl ([.ref (ad 0)]) ++ List.replicate (2 - (lg_sl ([.ref (ad 0)])).length) Slot.unset).toArray = ls at hl ⊢
  have hl : lv_has ls 2 [(0, .ref (ad 0))] := hl
  have hP := q_J_W hJ
  have hS : va_S (q_AL ad aO) s.heap s.heap [] := va_S.rf
  obtain ⟨m9, meth9, c9, g1, g2, g3, -, -, g4, -⟩ := Cond.codeWith_spec (hts0 _ List.mem_cons_self)
  cases B.named.symm.trans g1
  cases B.method.symm.trans g2
  cases (Stand.of_body B).code.symm.trans g3
  obtain ⟨e1, hes, f1⟩ := q_es1 g4
  simp only [Prod.mk.injEq] at f1
  refine lv_aload_n hx hb dw_giveBack_0 rfl (lv_at hl 0 rfl) ?_
  refine q_utry hfl (j := 49) (ro := 0) (idx := 26) (x := 1) (hpc := 7) (as := []) (rest := []) (A0 := q_AL ad aO) ⟨hx, hb, hml, hown, hts⟩ hSt.1 (by decide) (by decide) rfl hq rfl rfl (q_inAt lw_giveBack rfl) (Nat.le_refl _) (Nat.le_refl _) (Nat.le_refl _) (Nat.le_refl _) hP hS (fun q z => Or.inl z) (fun U hU hW => ⟨q_Sta_at hSt va_S.rf hU hW, q_Thr_at hThr hP va_S.rf hU hW⟩) hl.1 rfl (Nat.le_of_ble_eq_true rfl) dw_giveBack_1 hes ?_ (fun ex H1 locs1 hP1 hz hk hS1 => ?_)
  · intro U g ex ce z1 z2 z3 z4 z5 z6 hpl
    have key := q_fg_hit (e := e) (U := U) (f := g) (a := ex) (x := e1) (t := []) (own := "CashRecyclerLaw") (X := q_exN 1) (args := _) hpl z4 (by rw [z5]; exact hown) (by simp [covers, f1, z6]) (by rw [f1.2.2.2]; decide) (by rw [f1.2.2.2]; exact hts _ (q_inAt cl_15 rfl)) z1 z2 z3 (hThr.1.1 _ (by decide +kernel))
    rw [f1.2.2.1] at key
    exact key
  · have hJ1 : va_P D qCl (q_J ad cI cZ cQ aO cL h' o) H1 := q_J_mk hP1 (by rw [hk aO (Array.getElem?_eq_some_iff.mp (q_J_O hJ)).1 hO]; exact q_J_O hJ)
    refine lv_astore_n hx hb dw_giveBack_7 rfl hl (by decide) rfl (fun ls9 hl9 => ?_)
    refine lv_iconst (v := 1) hx hb dw_giveBack_8 (by decide) ?_
    exact W.iret hx hb hr (fun t ht _ => ⟨⟨1, (), rfl, rfl, by show va_P _ _ _ t.heap; rw [ht]; exact hJ1⟩, hS1.F ht⟩) hS1.2.2 dw_giveBack_9
theorem dw_payout_0 : decode method_8_code 0 = .ok (.aload_n 2, 1) := by decide +kernel
theorem dw_payout_1 : decode method_8_code 1 = .ok (.iconst 0, 1) := by decide +kernel
theorem dw_payout_2 : decode method_8_code 2 = .ok (.aload_n 0, 1) := by decide +kernel
theorem dw_payout_3 : decode method_8_code 3 = .ok (.iload_n 1, 1) := by decide +kernel
theorem dw_payout_4 : decode method_8_code 4 = .ok (.invokevirtual 29, 3) := by decide +kernel
theorem dw_payout_7 : decode method_8_code 7 = .ok (.i2l, 1) := by decide +kernel
theorem dw_payout_8 : decode method_8_code 8 = .ok (.lastore, 1) := by decide +kernel
theorem dw_payout_9 : decode method_8_code 9 = .ok (.goto 12, 3) := by decide +kernel
theorem dw_payout_12 : decode method_8_code 12 = .ok (.astore_n 3, 1) := by decide +kernel
theorem dw_payout_13 : decode method_8_code 13 = .ok (.iconst 1, 1) := by decide +kernel
theorem dw_payout_14 : decode method_8_code 14 = .ok (.ireturn, 1) := by decide +kernel
theorem dw_payout_15 : decode method_8_code 15 = .ok (.astore_n 3, 1) := by decide +kernel
theorem dw_payout_16 : decode method_8_code 16 = .ok (.iconst 2, 1) := by decide +kernel
theorem dw_payout_17 : decode method_8_code 17 = .ok (.ireturn, 1) := by decide +kernel
theorem dw_payout_18 : decode method_8_code 18 = .ok (.astore_n 3, 1) := by decide +kernel
theorem dw_payout_19 : decode method_8_code 19 = .ok (.iconst 3, 1) := by decide +kernel
theorem dw_payout_20 : decode method_8_code 20 = .ok (.ireturn, 1) := by decide +kernel
theorem dw_payout_21 : decode method_8_code 21 = .ok (.iconst 0, 1) := by decide +kernel
theorem dw_payout_22 : decode method_8_code 22 = .ok (.ireturn, 1) := by decide +kernel
theorem lw_payout : lw_tbl[427]? = some (.methodLink "CashRecyclerLaw" 29 (qmY 51)) := by decide +kernel
abbrev yw_payout : MethodName := ⟨"CashRecyclerLaw", "payout", "(LCashRecycler;I[J)I"⟩
def ws_payout : List Cond := .codeWith yw_payout method_8_code 4 (some .int) [(0, 9, 12, 13), (0, 9, 15, 15), (0, 9, 18, 32)] :: q_WS
def rw_payout : Room := { frames := qmF 51 + 1, cells := 1, slots := 6, locals := 8 + (qmL 51 + 11) + qmW 51 }
set_option maxHeartbeats 4000000 in
theorem w_payout_r {l : Launch} {D : va_G} {ad : Nat → Nat} {cI cZ cQ : ClassId} {aO : Nat} {cL : ClassId} {h h' : HP} {o : Int64} {a : Int32} {v : Int32} (hq : Ec 51 [.inr 0, .inl a] h (.inl (some v), h')) : q_MetL l D ad cI cZ cQ aO cL yw_payout ws_payout rw_payout [.ref (ad 0), .int a, .ref aO] h o 0 h' v.toInt64 := by
  refine va_MetW (cc := method_8_code) (maxL := 4) (ret := some .int) q_pl rfl ?_
  intro p e s m args below meth c s₁ B hml hv
  obtain ⟨rfl, hJ, hSt, hThr, hKL, hNc, hO⟩ := hv
  have hx := B.exec
  have hb := B.bytes
  have hr := B.returns
  have hts0 := atoms_spec (ws := ws_payout) B.pre
  have hts : ∀ w ∈ q_WS, w.before _ s = true := fun w hw => hts0 w (List.mem_cons_of_mem _ hw)
  have hown : s.vm.findClass "CashRecyclerLaw" = some m.cls := findClass_of_methodNamed B.named
  have hlk := B.notSynchronized
  have hl := lv_entry ([.ref (ad 0), .int a, .ref aO]) (n := 4) (Nat.le_of_ble_eq_true rfl)
  rw [lg_entry_eq]
  generalize (lg_sl ([.ref (ad 0), .int a, .ref aO]) ++ List.replicate (4 - (lg_sl ([.ref (ad 0), .int a, .ref aO])).length) Slot.unset).toArray = ls at hl ⊢
  have hl : lv_has ls 4 [(0, .ref (ad 0)), (1, .int a), (2, .ref aO)] := hl
  have hP := q_J_W hJ
  have hS : va_S (q_AL ad aO) s.heap s.heap [] := va_S.rf
  refine lv_aload_n hx hb dw_payout_0 rfl (lv_at hl 2 rfl) ?_
  refine lv_iconst (v := 0) hx hb dw_payout_1 (by decide) ?_
  refine lv_aload_n hx hb dw_payout_2 rfl (lv_at hl 0 rfl) ?_
  refine lv_iload_n hx hb dw_payout_3 rfl (lv_at hl 1 rfl) ?_
  refine q_ucall (j := 51) (ro := 0) (idx := 29) (as := [.inl a]) (rest := [.int 0, .ref aO]) (A0 := q_AL ad aO) ⟨hx, hb, hml, hown, hts⟩ hSt.1 (by decide) (by decide) rfl hq rfl rfl (q_inAt lw_payout rfl) (Nat.le_refl _) (Nat.le_refl _) (Nat.zero_le _) (Nat.zero_le _) hP hS (fun q z => Or.inl z) (fun U hU hW => q_Sta_at hSt va_S.rf hU hW) hl.1 rfl (Nat.le_of_ble_eq_true rfl) dw_payout_4 (fun H1 locs1 hP1 hz hk hS1 => ?_)
  have hJ1 : va_P D qCl (q_J ad cI cZ cQ aO cL h' o) H1 := q_J_mk hP1 (by rw [hk aO (Array.getElem?_eq_some_iff.mp (q_J_O hJ)).1 hO]; exact q_J_O hJ)
  refine lv_i2l (v := v.toInt64) hx hb dw_payout_7 rfl ?_
  refine va_last (D := D) (cl := qCl) (H0 := s.heap) (A := q_AL ad aO) hx hb hKL hJ1 (q_J_D hSt.2.2.2.2 hO (fun _ z => z)) hS1 47 0 q_J_47 rfl q_in01 dw_payout_8 (fun H2 locs2 hP2 hD2 hS2 => ?_)
  have hJ2 : va_P D qCl (q_J ad cI cZ cQ aO cL h' v.toInt64) H2 := q_J_set (by rfl) hP2
  refine lv_goto hx hb dw_payout_9 rfl ?_
  refine lv_iconst (v := 0) hx hb dw_payout_21 (by decide) ?_
  refine W.widen (k := 1) (n := 6) (by omega) (by omega) ?_
  exact W.iret hx hb hr (fun t ht _ => ⟨⟨0, (), rfl, rfl, by show va_P _ _ _ t.heap; rw [ht]; exact hJ2⟩, hS2.F ht⟩) hS2.2.2 dw_payout_22
set_option maxHeartbeats 4000000 in
theorem w_payout_t0 {l : Launch} {D : va_G} {ad : Nat → Nat} {cI cZ cQ : ClassId} {aO : Nat} {cL : ClassId} {h h' : HP} {o : Int64} {a : Int32} (hfl : ∀ e : Env, l.admits e → e.platform.stackTraces = false) (hq : Ec 51 [.inr 0, .inl a] h (.inr 0, h')) : q_MetL l D ad cI cZ cQ aO cL yw_payout ws_payout rw_payout [.ref (ad 0), .int a, .ref aO] h o 1 h' o := by
  refine va_MetW (cc := method_8_code) (maxL := 4) (ret := some .int) q_pl rfl ?_
  intro p e s m args below meth c s₁ B hml hv
  obtain ⟨rfl, hJ, hSt, hThr, hKL, hNc, hO⟩ := hv
  have hx := B.exec
  have hb := B.bytes
  have hr := B.returns
  have hts0 := atoms_spec (ws := ws_payout) B.pre
  have hts : ∀ w ∈ q_WS, w.before _ s = true := fun w hw => hts0 w (List.mem_cons_of_mem _ hw)
  have hown : s.vm.findClass "CashRecyclerLaw" = some m.cls := findClass_of_methodNamed B.named
  have hlk := B.notSynchronized
  have hl := lv_entry ([.ref (ad 0), .int a, .ref aO]) (n := 4) (Nat.le_of_ble_eq_true rfl)
  rw [lg_entry_eq]
  generalize (lg_sl ([.ref (ad 0), .int a, .ref aO]) ++ List.replicate (4 - (lg_sl ([.ref (ad 0), .int a, .ref aO])).length) Slot.unset).toArray = ls at hl ⊢
  have hl : lv_has ls 4 [(0, .ref (ad 0)), (1, .int a), (2, .ref aO)] := hl
  have hP := q_J_W hJ
  have hS : va_S (q_AL ad aO) s.heap s.heap [] := va_S.rf
  obtain ⟨m9, meth9, c9, g1, g2, g3, -, -, g4, -⟩ := Cond.codeWith_spec (hts0 _ List.mem_cons_self)
  cases B.named.symm.trans g1
  cases B.method.symm.trans g2
  cases (Stand.of_body B).code.symm.trans g3
  obtain ⟨e1, e2, e3, hes, f1, f2, f3⟩ := q_es3 g4
  simp only [Prod.mk.injEq] at f1
  simp only [Prod.mk.injEq] at f2
  simp only [Prod.mk.injEq] at f3
  refine lv_aload_n hx hb dw_payout_0 rfl (lv_at hl 2 rfl) ?_
  refine lv_iconst (v := 0) hx hb dw_payout_1 (by decide) ?_
  refine lv_aload_n hx hb dw_payout_2 rfl (lv_at hl 0 rfl) ?_
  refine lv_iload_n hx hb dw_payout_3 rfl (lv_at hl 1 rfl) ?_
  refine q_utry hfl (j := 51) (ro := 0) (idx := 29) (x := 0) (hpc := 12) (as := [.inl a]) (rest := [.int 0, .ref aO]) (A0 := q_AL ad aO) ⟨hx, hb, hml, hown, hts⟩ hSt.1 (by decide) (by decide) rfl hq rfl rfl (q_inAt lw_payout rfl) (Nat.le_refl _) (Nat.le_refl _) (Nat.le_refl _) (Nat.le_refl _) hP hS (fun q z => Or.inl z) (fun U hU hW => ⟨q_Sta_at hSt va_S.rf hU hW, q_Thr_at hThr hP va_S.rf hU hW⟩) hl.1 rfl (Nat.le_of_ble_eq_true rfl) dw_payout_4 hes ?_ (fun ex H1 locs1 hP1 hz hk hS1 => ?_)
  · intro U g ex ce z1 z2 z3 z4 z5 z6 hpl
    have key := q_fg_hit (e := e) (U := U) (f := g) (a := ex) (x := e1) (t := [e2, e3]) (own := "CashRecyclerLaw") (X := q_exN 0) (args := _) hpl z4 (by rw [z5]; exact hown) (by simp [covers, f1, z6]) (by rw [f1.2.2.2]; decide) (by rw [f1.2.2.2]; exact hts _ (q_inAt cl_13 rfl)) z1 z2 z3 (hThr.1.1 _ (by decide +kernel))
    rw [f1.2.2.1] at key
    exact key
  · have hJ1 : va_P D qCl (q_J ad cI cZ cQ aO cL h' o) H1 := q_J_mk hP1 (by rw [hk aO (Array.getElem?_eq_some_iff.mp (q_J_O hJ)).1 hO]; exact q_J_O hJ)
    refine lv_astore_n hx hb dw_payout_12 rfl hl (by decide) rfl (fun ls9 hl9 => ?_)
    refine lv_iconst (v := 1) hx hb dw_payout_13 (by decide) ?_
    exact W.iret hx hb hr (fun t ht _ => ⟨⟨1, (), rfl, rfl, by show va_P _ _ _ t.heap; rw [ht]; exact hJ1⟩, hS1.F ht⟩) hS1.2.2 dw_payout_14
set_option maxHeartbeats 4000000 in
theorem w_payout_t1 {l : Launch} {D : va_G} {ad : Nat → Nat} {cI cZ cQ : ClassId} {aO : Nat} {cL : ClassId} {h h' : HP} {o : Int64} {a : Int32} (hfl : ∀ e : Env, l.admits e → e.platform.stackTraces = false) (hq : Ec 51 [.inr 0, .inl a] h (.inr 1, h')) : q_MetL l D ad cI cZ cQ aO cL yw_payout ws_payout rw_payout [.ref (ad 0), .int a, .ref aO] h o 2 h' o := by
  refine va_MetW (cc := method_8_code) (maxL := 4) (ret := some .int) q_pl rfl ?_
  intro p e s m args below meth c s₁ B hml hv
  obtain ⟨rfl, hJ, hSt, hThr, hKL, hNc, hO⟩ := hv
  have hx := B.exec
  have hb := B.bytes
  have hr := B.returns
  have hts0 := atoms_spec (ws := ws_payout) B.pre
  have hts : ∀ w ∈ q_WS, w.before _ s = true := fun w hw => hts0 w (List.mem_cons_of_mem _ hw)
  have hown : s.vm.findClass "CashRecyclerLaw" = some m.cls := findClass_of_methodNamed B.named
  have hlk := B.notSynchronized
  have hl := lv_entry ([.ref (ad 0), .int a, .ref aO]) (n := 4) (Nat.le_of_ble_eq_true rfl)
  rw [lg_entry_eq]
  generalize (lg_sl ([.ref (ad 0), .int a, .ref aO]) ++ List.replicate (4 - (lg_sl ([.ref (ad 0), .int a, .ref aO])).length) Slot.unset).toArray = ls at hl ⊢
  have hl : lv_has ls 4 [(0, .ref (ad 0)), (1, .int a), (2, .ref aO)] := hl
  have hP := q_J_W hJ
  have hS : va_S (q_AL ad aO) s.heap s.heap [] := va_S.rf
  obtain ⟨m9, meth9, c9, g1, g2, g3, -, -, g4, -⟩ := Cond.codeWith_spec (hts0 _ List.mem_cons_self)
  cases B.named.symm.trans g1
  cases B.method.symm.trans g2
  cases (Stand.of_body B).code.symm.trans g3
  obtain ⟨e1, e2, e3, hes, f1, f2, f3⟩ := q_es3 g4
  simp only [Prod.mk.injEq] at f1
  simp only [Prod.mk.injEq] at f2
  simp only [Prod.mk.injEq] at f3
  refine lv_aload_n hx hb dw_payout_0 rfl (lv_at hl 2 rfl) ?_
  refine lv_iconst (v := 0) hx hb dw_payout_1 (by decide) ?_
  refine lv_aload_n hx hb dw_payout_2 rfl (lv_at hl 0 rfl) ?_
  refine lv_iload_n hx hb dw_payout_3 rfl (lv_at hl 1 rfl) ?_
  refine q_utry hfl (j := 51) (ro := 0) (idx := 29) (x := 1) (hpc := 15) (as := [.inl a]) (rest := [.int 0, .ref aO]) (A0 := q_AL ad aO) ⟨hx, hb, hml, hown, hts⟩ hSt.1 (by decide) (by decide) rfl hq rfl rfl (q_inAt lw_payout rfl) (Nat.le_refl _) (Nat.le_refl _) (Nat.le_refl _) (Nat.le_refl _) hP hS (fun q z => Or.inl z) (fun U hU hW => ⟨q_Sta_at hSt va_S.rf hU hW, q_Thr_at hThr hP va_S.rf hU hW⟩) hl.1 rfl (Nat.le_of_ble_eq_true rfl) dw_payout_4 hes ?_ (fun ex H1 locs1 hP1 hz hk hS1 => ?_)
  · intro U g ex ce z1 z2 z3 z4 z5 z6 hpl
    refine q_fg_pass (x := e1) (own := "CashRecyclerLaw") (X := q_exN 1) (Y := "java/lang/IllegalArgumentException") hpl z4 (by rw [z5]; exact hown) (by simp [covers, f1, z6]) (by rw [f1.2.2.2]; decide) (by rw [f1.2.2.2]; exact hts _ (q_inAt cl_13 rfl)) (by first | exact z1 | exact z1) z2 z3 (hNc _ (by decide +kernel) _ (by decide +kernel) (by decide +kernel)) (fun vm1 z4 => ?_)
    have key := q_fg_hit (e := e) (U := (U.setVm vm1)) (f := g) (a := ex) (x := e2) (t := [e3]) (own := "CashRecyclerLaw") (X := q_exN 1) (args := _) hpl z4 (by rw [z5]; exact hown) (by simp [covers, f2, z6]) (by rw [f2.2.2.2]; decide) (by rw [f2.2.2.2]; exact hts _ (q_inAt cl_15 rfl)) z1 z2 z3 (hThr.1.1 _ (by decide +kernel))
    rw [f2.2.2.1] at key
    exact key
  · have hJ1 : va_P D qCl (q_J ad cI cZ cQ aO cL h' o) H1 := q_J_mk hP1 (by rw [hk aO (Array.getElem?_eq_some_iff.mp (q_J_O hJ)).1 hO]; exact q_J_O hJ)
    refine lv_astore_n hx hb dw_payout_15 rfl hl (by decide) rfl (fun ls9 hl9 => ?_)
    refine lv_iconst (v := 2) hx hb dw_payout_16 (by decide) ?_
    exact W.iret hx hb hr (fun t ht _ => ⟨⟨2, (), rfl, rfl, by show va_P _ _ _ t.heap; rw [ht]; exact hJ1⟩, hS1.F ht⟩) hS1.2.2 dw_payout_17
set_option maxHeartbeats 4000000 in
theorem w_payout_t2 {l : Launch} {D : va_G} {ad : Nat → Nat} {cI cZ cQ : ClassId} {aO : Nat} {cL : ClassId} {h h' : HP} {o : Int64} {a : Int32} (hfl : ∀ e : Env, l.admits e → e.platform.stackTraces = false) (hq : Ec 51 [.inr 0, .inl a] h (.inr 2, h')) : q_MetL l D ad cI cZ cQ aO cL yw_payout ws_payout rw_payout [.ref (ad 0), .int a, .ref aO] h o 3 h' o := by
  refine va_MetW (cc := method_8_code) (maxL := 4) (ret := some .int) q_pl rfl ?_
  intro p e s m args below meth c s₁ B hml hv
  obtain ⟨rfl, hJ, hSt, hThr, hKL, hNc, hO⟩ := hv
  have hx := B.exec
  have hb := B.bytes
  have hr := B.returns
  have hts0 := atoms_spec (ws := ws_payout) B.pre
  have hts : ∀ w ∈ q_WS, w.before _ s = true := fun w hw => hts0 w (List.mem_cons_of_mem _ hw)
  have hown : s.vm.findClass "CashRecyclerLaw" = some m.cls := findClass_of_methodNamed B.named
  have hlk := B.notSynchronized
  have hl := lv_entry ([.ref (ad 0), .int a, .ref aO]) (n := 4) (Nat.le_of_ble_eq_true rfl)
  rw [lg_entry_eq]
  generalize (lg_sl ([.ref (ad 0), .int a, .ref aO]) ++ List.replicate (4 - (lg_sl ([.ref (ad 0), .int a, .ref aO])).length) Slot.unset).toArray = ls at hl ⊢
  have hl : lv_has ls 4 [(0, .ref (ad 0)), (1, .int a), (2, .ref aO)] := hl
  have hP := q_J_W hJ
  have hS : va_S (q_AL ad aO) s.heap s.heap [] := va_S.rf
  obtain ⟨m9, meth9, c9, g1, g2, g3, -, -, g4, -⟩ := Cond.codeWith_spec (hts0 _ List.mem_cons_self)
  cases B.named.symm.trans g1
  cases B.method.symm.trans g2
  cases (Stand.of_body B).code.symm.trans g3
  obtain ⟨e1, e2, e3, hes, f1, f2, f3⟩ := q_es3 g4
  simp only [Prod.mk.injEq] at f1
  simp only [Prod.mk.injEq] at f2
  simp only [Prod.mk.injEq] at f3
  refine lv_aload_n hx hb dw_payout_0 rfl (lv_at hl 2 rfl) ?_
  refine lv_iconst (v := 0) hx hb dw_payout_1 (by decide) ?_
  refine lv_aload_n hx hb dw_payout_2 rfl (lv_at hl 0 rfl) ?_
  refine lv_iload_n hx hb dw_payout_3 rfl (lv_at hl 1 rfl) ?_
  refine q_utry hfl (j := 51) (ro := 0) (idx := 29) (x := 2) (hpc := 18) (as := [.inl a]) (rest := [.int 0, .ref aO]) (A0 := q_AL ad aO) ⟨hx, hb, hml, hown, hts⟩ hSt.1 (by decide) (by decide) rfl hq rfl rfl (q_inAt lw_payout rfl) (Nat.le_refl _) (Nat.le_refl _) (Nat.le_refl _) (Nat.le_refl _) hP hS (fun q z => Or.inl z) (fun U hU hW => ⟨q_Sta_at hSt va_S.rf hU hW, q_Thr_at hThr hP va_S.rf hU hW⟩) hl.1 rfl (Nat.le_of_ble_eq_true rfl) dw_payout_4 hes ?_ (fun ex H1 locs1 hP1 hz hk hS1 => ?_)
  · intro U g ex ce z1 z2 z3 z4 z5 z6 hpl
    refine q_fg_pass (x := e1) (own := "CashRecyclerLaw") (X := q_exN 2) (Y := "java/lang/IllegalArgumentException") hpl z4 (by rw [z5]; exact hown) (by simp [covers, f1, z6]) (by rw [f1.2.2.2]; decide) (by rw [f1.2.2.2]; exact hts _ (q_inAt cl_13 rfl)) (by first | exact z1 | exact z1) z2 z3 (hNc _ (by decide +kernel) _ (by decide +kernel) (by decide +kernel)) (fun vm1 z4 => ?_)
    refine q_fg_pass (x := e2) (own := "CashRecyclerLaw") (X := q_exN 2) (Y := "java/lang/IllegalStateException") hpl z4 (by rw [z5]; exact hown) (by simp [covers, f2, z6]) (by rw [f2.2.2.2]; decide) (by rw [f2.2.2.2]; exact hts _ (q_inAt cl_15 rfl)) (by first | exact z1 | exact z1) z2 z3 (hNc _ (by decide +kernel) _ (by decide +kernel) (by decide +kernel)) (fun vm2 z4 => ?_)
    have key := q_fg_hit (e := e) (U := ((U.setVm vm1).setVm vm2)) (f := g) (a := ex) (x := e3) (t := []) (own := "CashRecyclerLaw") (X := q_exN 2) (args := _) hpl z4 (by rw [z5]; exact hown) (by simp [covers, f3, z6]) (by rw [f3.2.2.2]; decide) (by rw [f3.2.2.2]; exact hts _ (q_inAt cl_32 rfl)) z1 z2 z3 (hThr.1.1 _ (by decide +kernel))
    rw [f3.2.2.1] at key
    exact key
  · have hJ1 : va_P D qCl (q_J ad cI cZ cQ aO cL h' o) H1 := q_J_mk hP1 (by rw [hk aO (Array.getElem?_eq_some_iff.mp (q_J_O hJ)).1 hO]; exact q_J_O hJ)
    refine lv_astore_n hx hb dw_payout_18 rfl hl (by decide) rfl (fun ls9 hl9 => ?_)
    refine lv_iconst (v := 3) hx hb dw_payout_19 (by decide) ?_
    exact W.iret hx hb hr (fun t ht _ => ⟨⟨3, (), rfl, rfl, by show va_P _ _ _ t.heap; rw [ht]; exact hJ1⟩, hS1.F ht⟩) hS1.2.2 dw_payout_20
theorem dw_plan_0 : decode method_9_code 0 = .ok (.aload_n 3, 1) := by decide +kernel
theorem dw_plan_1 : decode method_9_code 1 = .ok (.iconst 0, 1) := by decide +kernel
theorem dw_plan_2 : decode method_9_code 2 = .ok (.aload_n 0, 1) := by decide +kernel
theorem dw_plan_3 : decode method_9_code 3 = .ok (.iload_n 1, 1) := by decide +kernel
theorem dw_plan_4 : decode method_9_code 4 = .ok (.iload_n 2, 1) := by decide +kernel
theorem dw_plan_5 : decode method_9_code 5 = .ok (.invokevirtual 34, 3) := by decide +kernel
theorem dw_plan_8 : decode method_9_code 8 = .ok (.i2l, 1) := by decide +kernel
theorem dw_plan_9 : decode method_9_code 9 = .ok (.lastore, 1) := by decide +kernel
theorem dw_plan_10 : decode method_9_code 10 = .ok (.goto 7, 3) := by decide +kernel
theorem dw_plan_13 : decode method_9_code 13 = .ok (.astore 4, 2) := by decide +kernel
theorem dw_plan_15 : decode method_9_code 15 = .ok (.iconst 1, 1) := by decide +kernel
theorem dw_plan_16 : decode method_9_code 16 = .ok (.ireturn, 1) := by decide +kernel
theorem dw_plan_17 : decode method_9_code 17 = .ok (.iconst 0, 1) := by decide +kernel
theorem dw_plan_18 : decode method_9_code 18 = .ok (.ireturn, 1) := by decide +kernel
theorem lw_plan : lw_tbl[469]? = some (.methodLink "CashRecyclerLaw" 34 (qmY 53)) := by decide +kernel
abbrev yw_plan : MethodName := ⟨"CashRecyclerLaw", "plan", "(LCashRecycler;II[J)I"⟩
def ws_plan : List Cond := .codeWith yw_plan method_9_code 5 (some .int) [(0, 10, 13, 13)] :: q_WS
def rw_plan : Room := { frames := qmF 53 + 1, cells := 1, slots := 6, locals := 8 + (qmL 53 + 11) + qmW 53 }
set_option maxHeartbeats 4000000 in
theorem w_plan_r {l : Launch} {D : va_G} {ad : Nat → Nat} {cI cZ cQ : ClassId} {aO : Nat} {cL : ClassId} {h h' : HP} {o : Int64} {a b : Int32} {v : Int32} (hq : Ec 53 [.inr 0, .inl a, .inl b] h (.inl (some v), h')) : q_MetL l D ad cI cZ cQ aO cL yw_plan ws_plan rw_plan [.ref (ad 0), .int a, .int b, .ref aO] h o 0 h' v.toInt64 := by
  refine va_MetW (cc := method_9_code) (maxL := 5) (ret := some .int) q_pl rfl ?_
  intro p e s m args below meth c s₁ B hml hv
  obtain ⟨rfl, hJ, hSt, hThr, hKL, hNc, hO⟩ := hv
  have hx := B.exec
  have hb := B.bytes
  have hr := B.returns
  have hts0 := atoms_spec (ws := ws_plan) B.pre
  have hts : ∀ w ∈ q_WS, w.before _ s = true := fun w hw => hts0 w (List.mem_cons_of_mem _ hw)
  have hown : s.vm.findClass "CashRecyclerLaw" = some m.cls := findClass_of_methodNamed B.named
  have hlk := B.notSynchronized
  have hl := lv_entry ([.ref (ad 0), .int a, .int b, .ref aO]) (n := 5) (Nat.le_of_ble_eq_true rfl)
  rw [lg_entry_eq]
  generalize (lg_sl ([.ref (ad 0), .int a, .int b, .ref aO]) ++ List.replicate (5 - (lg_sl ([.ref (ad 0), .int a, .int b, .ref aO])).length) Slot.unset).toArray = ls at hl ⊢
  have hl : lv_has ls 5 [(0, .ref (ad 0)), (1, .int a), (2, .int b), (3, .ref aO)] := hl
  have hP := q_J_W hJ
  have hS : va_S (q_AL ad aO) s.heap s.heap [] := va_S.rf
  refine lv_aload_n hx hb dw_plan_0 rfl (lv_at hl 3 rfl) ?_
  refine lv_iconst (v := 0) hx hb dw_plan_1 (by decide) ?_
  refine lv_aload_n hx hb dw_plan_2 rfl (lv_at hl 0 rfl) ?_
  refine lv_iload_n hx hb dw_plan_3 rfl (lv_at hl 1 rfl) ?_
  refine lv_iload_n hx hb dw_plan_4 rfl (lv_at hl 2 rfl) ?_
  refine q_ucall (j := 53) (ro := 0) (idx := 34) (as := [.inl a, .inl b]) (rest := [.int 0, .ref aO]) (A0 := q_AL ad aO) ⟨hx, hb, hml, hown, hts⟩ hSt.1 (by decide) (by decide) rfl hq rfl rfl (q_inAt lw_plan rfl) (Nat.le_refl _) (Nat.le_refl _) (Nat.zero_le _) (Nat.zero_le _) hP hS (fun q z => Or.inl z) (fun U hU hW => q_Sta_at hSt va_S.rf hU hW) hl.1 rfl (Nat.le_of_ble_eq_true rfl) dw_plan_5 (fun H1 locs1 hP1 hz hk hS1 => ?_)
  have hJ1 : va_P D qCl (q_J ad cI cZ cQ aO cL h' o) H1 := q_J_mk hP1 (by rw [hk aO (Array.getElem?_eq_some_iff.mp (q_J_O hJ)).1 hO]; exact q_J_O hJ)
  refine lv_i2l (v := v.toInt64) hx hb dw_plan_8 rfl ?_
  refine va_last (D := D) (cl := qCl) (H0 := s.heap) (A := q_AL ad aO) hx hb hKL hJ1 (q_J_D hSt.2.2.2.2 hO (fun _ z => z)) hS1 47 0 q_J_47 rfl q_in01 dw_plan_9 (fun H2 locs2 hP2 hD2 hS2 => ?_)
  have hJ2 : va_P D qCl (q_J ad cI cZ cQ aO cL h' v.toInt64) H2 := q_J_set (by rfl) hP2
  refine lv_goto hx hb dw_plan_10 rfl ?_
  refine lv_iconst (v := 0) hx hb dw_plan_17 (by decide) ?_
  refine W.widen (k := 1) (n := 6) (by omega) (by omega) ?_
  exact W.iret hx hb hr (fun t ht _ => ⟨⟨0, (), rfl, rfl, by show va_P _ _ _ t.heap; rw [ht]; exact hJ2⟩, hS2.F ht⟩) hS2.2.2 dw_plan_18
set_option maxHeartbeats 4000000 in
theorem w_plan_t0 {l : Launch} {D : va_G} {ad : Nat → Nat} {cI cZ cQ : ClassId} {aO : Nat} {cL : ClassId} {h h' : HP} {o : Int64} {a b : Int32} (hfl : ∀ e : Env, l.admits e → e.platform.stackTraces = false) (hq : Ec 53 [.inr 0, .inl a, .inl b] h (.inr 0, h')) : q_MetL l D ad cI cZ cQ aO cL yw_plan ws_plan rw_plan [.ref (ad 0), .int a, .int b, .ref aO] h o 1 h' o := by
  refine va_MetW (cc := method_9_code) (maxL := 5) (ret := some .int) q_pl rfl ?_
  intro p e s m args below meth c s₁ B hml hv
  obtain ⟨rfl, hJ, hSt, hThr, hKL, hNc, hO⟩ := hv
  have hx := B.exec
  have hb := B.bytes
  have hr := B.returns
  have hts0 := atoms_spec (ws := ws_plan) B.pre
  have hts : ∀ w ∈ q_WS, w.before _ s = true := fun w hw => hts0 w (List.mem_cons_of_mem _ hw)
  have hown : s.vm.findClass "CashRecyclerLaw" = some m.cls := findClass_of_methodNamed B.named
  have hlk := B.notSynchronized
  have hl := lv_entry ([.ref (ad 0), .int a, .int b, .ref aO]) (n := 5) (Nat.le_of_ble_eq_true rfl)
  rw [lg_entry_eq]
  generalize (lg_sl ([.ref (ad 0), .int a, .int b, .ref aO]) ++ List.replicate (5 - (lg_sl ([.ref (ad 0), .int a, .int b, .ref aO])).length) Slot.unset).toArray = ls at hl ⊢
  have hl : lv_has ls 5 [(0, .ref (ad 0)), (1, .int a), (2, .int b), (3, .ref aO)] := hl
  have hP := q_J_W hJ
  have hS : va_S (q_AL ad aO) s.heap s.heap [] := va_S.rf
  obtain ⟨m9, meth9, c9, g1, g2, g3, -, -, g4, -⟩ := Cond.codeWith_spec (hts0 _ List.mem_cons_self)
  cases B.named.symm.trans g1
  cases B.method.symm.trans g2
  cases (Stand.of_body B).code.symm.trans g3
  obtain ⟨e1, hes, f1⟩ := q_es1 g4
  simp only [Prod.mk.injEq] at f1
  refine lv_aload_n hx hb dw_plan_0 rfl (lv_at hl 3 rfl) ?_
  refine lv_iconst (v := 0) hx hb dw_plan_1 (by decide) ?_
  refine lv_aload_n hx hb dw_plan_2 rfl (lv_at hl 0 rfl) ?_
  refine lv_iload_n hx hb dw_plan_3 rfl (lv_at hl 1 rfl) ?_
  refine lv_iload_n hx hb dw_plan_4 rfl (lv_at hl 2 rfl) ?_
  refine q_utry hfl (j := 53) (ro := 0) (idx := 34) (x := 0) (hpc := 13) (as := [.inl a, .inl b]) (rest := [.int 0, .ref aO]) (A0 := q_AL ad aO) ⟨hx, hb, hml, hown, hts⟩ hSt.1 (by decide) (by decide) rfl hq rfl rfl (q_inAt lw_plan rfl) (Nat.le_refl _) (Nat.le_refl _) (Nat.le_refl _) (Nat.le_refl _) hP hS (fun q z => Or.inl z) (fun U hU hW => ⟨q_Sta_at hSt va_S.rf hU hW, q_Thr_at hThr hP va_S.rf hU hW⟩) hl.1 rfl (Nat.le_of_ble_eq_true rfl) dw_plan_5 hes ?_ (fun ex H1 locs1 hP1 hz hk hS1 => ?_)
  · intro U g ex ce z1 z2 z3 z4 z5 z6 hpl
    have key := q_fg_hit (e := e) (U := U) (f := g) (a := ex) (x := e1) (t := []) (own := "CashRecyclerLaw") (X := q_exN 0) (args := _) hpl z4 (by rw [z5]; exact hown) (by simp [covers, f1, z6]) (by rw [f1.2.2.2]; decide) (by rw [f1.2.2.2]; exact hts _ (q_inAt cl_13 rfl)) z1 z2 z3 (hThr.1.1 _ (by decide +kernel))
    rw [f1.2.2.1] at key
    exact key
  · have hJ1 : va_P D qCl (q_J ad cI cZ cQ aO cL h' o) H1 := q_J_mk hP1 (by rw [hk aO (Array.getElem?_eq_some_iff.mp (q_J_O hJ)).1 hO]; exact q_J_O hJ)
    refine lv_astore hx hb dw_plan_13 hl (by decide) rfl (fun ls9 hl9 => ?_)
    refine lv_iconst (v := 1) hx hb dw_plan_15 (by decide) ?_
    exact W.iret hx hb hr (fun t ht _ => ⟨⟨1, (), rfl, rfl, by show va_P _ _ _ t.heap; rw [ht]; exact hJ1⟩, hS1.F ht⟩) hS1.2.2 dw_plan_16
theorem dw_step_0 : decode method_10_code 0 = .ok (.aload_n 2, 1) := by decide +kernel
theorem dw_step_1 : decode method_10_code 1 = .ok (.iconst 0, 1) := by decide +kernel
theorem dw_step_2 : decode method_10_code 2 = .ok (.aload_n 0, 1) := by decide +kernel
theorem dw_step_3 : decode method_10_code 3 = .ok (.iload_n 1, 1) := by decide +kernel
theorem dw_step_4 : decode method_10_code 4 = .ok (.invokevirtual 38, 3) := by decide +kernel
theorem dw_step_7 : decode method_10_code 7 = .ok (.i2l, 1) := by decide +kernel
theorem dw_step_8 : decode method_10_code 8 = .ok (.lastore, 1) := by decide +kernel
theorem dw_step_9 : decode method_10_code 9 = .ok (.goto 6, 3) := by decide +kernel
theorem dw_step_12 : decode method_10_code 12 = .ok (.astore_n 3, 1) := by decide +kernel
theorem dw_step_13 : decode method_10_code 13 = .ok (.iconst 1, 1) := by decide +kernel
theorem dw_step_14 : decode method_10_code 14 = .ok (.ireturn, 1) := by decide +kernel
theorem dw_step_15 : decode method_10_code 15 = .ok (.iconst 0, 1) := by decide +kernel
theorem dw_step_16 : decode method_10_code 16 = .ok (.ireturn, 1) := by decide +kernel
theorem lw_step : lw_tbl[483]? = some (.methodLink "CashRecyclerLaw" 38 (qmY 68)) := by decide +kernel
abbrev yw_step : MethodName := ⟨"CashRecyclerLaw", "step", "(LCashRecycler;I[J)I"⟩
def ws_step : List Cond := .codeWith yw_step method_10_code 4 (some .int) [(0, 9, 12, 13)] :: q_WS
def rw_step : Room := { frames := qmF 68 + 1, cells := 1, slots := 6, locals := 8 + (qmL 68 + 11) + qmW 68 }
set_option maxHeartbeats 4000000 in
theorem w_step_r {l : Launch} {D : va_G} {ad : Nat → Nat} {cI cZ cQ : ClassId} {aO : Nat} {cL : ClassId} {h h' : HP} {o : Int64} {a : Int32} {v : Int32} (hq : Ec 68 [.inr 0, .inl a] h (.inl (some v), h')) : q_MetL l D ad cI cZ cQ aO cL yw_step ws_step rw_step [.ref (ad 0), .int a, .ref aO] h o 0 h' v.toInt64 := by
  refine va_MetW (cc := method_10_code) (maxL := 4) (ret := some .int) q_pl rfl ?_
  intro p e s m args below meth c s₁ B hml hv
  obtain ⟨rfl, hJ, hSt, hThr, hKL, hNc, hO⟩ := hv
  have hx := B.exec
  have hb := B.bytes
  have hr := B.returns
  have hts0 := atoms_spec (ws := ws_step) B.pre
  have hts : ∀ w ∈ q_WS, w.before _ s = true := fun w hw => hts0 w (List.mem_cons_of_mem _ hw)
  have hown : s.vm.findClass "CashRecyclerLaw" = some m.cls := findClass_of_methodNamed B.named
  have hlk := B.notSynchronized
  have hl := lv_entry ([.ref (ad 0), .int a, .ref aO]) (n := 4) (Nat.le_of_ble_eq_true rfl)
  rw [lg_entry_eq]
  generalize (lg_sl ([.ref (ad 0), .int a, .ref aO]) ++ List.replicate (4 - (lg_sl ([.ref (ad 0), .int a, .ref aO])).length) Slot.unset).toArray = ls at hl ⊢
  have hl : lv_has ls 4 [(0, .ref (ad 0)), (1, .int a), (2, .ref aO)] := hl
  have hP := q_J_W hJ
  have hS : va_S (q_AL ad aO) s.heap s.heap [] := va_S.rf
  refine lv_aload_n hx hb dw_step_0 rfl (lv_at hl 2 rfl) ?_
  refine lv_iconst (v := 0) hx hb dw_step_1 (by decide) ?_
  refine lv_aload_n hx hb dw_step_2 rfl (lv_at hl 0 rfl) ?_
  refine lv_iload_n hx hb dw_step_3 rfl (lv_at hl 1 rfl) ?_
  refine q_ucall (j := 68) (ro := 0) (idx := 38) (as := [.inl a]) (rest := [.int 0, .ref aO]) (A0 := q_AL ad aO) ⟨hx, hb, hml, hown, hts⟩ hSt.1 (by decide) (by decide) rfl hq rfl rfl (q_inAt lw_step rfl) (Nat.le_refl _) (Nat.le_refl _) (Nat.zero_le _) (Nat.zero_le _) hP hS (fun q z => Or.inl z) (fun U hU hW => q_Sta_at hSt va_S.rf hU hW) hl.1 rfl (Nat.le_of_ble_eq_true rfl) dw_step_4 (fun H1 locs1 hP1 hz hk hS1 => ?_)
  have hJ1 : va_P D qCl (q_J ad cI cZ cQ aO cL h' o) H1 := q_J_mk hP1 (by rw [hk aO (Array.getElem?_eq_some_iff.mp (q_J_O hJ)).1 hO]; exact q_J_O hJ)
  refine lv_i2l (v := v.toInt64) hx hb dw_step_7 rfl ?_
  refine va_last (D := D) (cl := qCl) (H0 := s.heap) (A := q_AL ad aO) hx hb hKL hJ1 (q_J_D hSt.2.2.2.2 hO (fun _ z => z)) hS1 47 0 q_J_47 rfl q_in01 dw_step_8 (fun H2 locs2 hP2 hD2 hS2 => ?_)
  have hJ2 : va_P D qCl (q_J ad cI cZ cQ aO cL h' v.toInt64) H2 := q_J_set (by rfl) hP2
  refine lv_goto hx hb dw_step_9 rfl ?_
  refine lv_iconst (v := 0) hx hb dw_step_15 (by decide) ?_
  refine W.widen (k := 1) (n := 6) (by omega) (by omega) ?_
  exact W.iret hx hb hr (fun t ht _ => ⟨⟨0, (), rfl, rfl, by show va_P _ _ _ t.heap; rw [ht]; exact hJ2⟩, hS2.F ht⟩) hS2.2.2 dw_step_16
set_option maxHeartbeats 4000000 in
theorem w_step_t0 {l : Launch} {D : va_G} {ad : Nat → Nat} {cI cZ cQ : ClassId} {aO : Nat} {cL : ClassId} {h h' : HP} {o : Int64} {a : Int32} (hfl : ∀ e : Env, l.admits e → e.platform.stackTraces = false) (hq : Ec 68 [.inr 0, .inl a] h (.inr 0, h')) : q_MetL l D ad cI cZ cQ aO cL yw_step ws_step rw_step [.ref (ad 0), .int a, .ref aO] h o 1 h' o := by
  refine va_MetW (cc := method_10_code) (maxL := 4) (ret := some .int) q_pl rfl ?_
  intro p e s m args below meth c s₁ B hml hv
  obtain ⟨rfl, hJ, hSt, hThr, hKL, hNc, hO⟩ := hv
  have hx := B.exec
  have hb := B.bytes
  have hr := B.returns
  have hts0 := atoms_spec (ws := ws_step) B.pre
  have hts : ∀ w ∈ q_WS, w.before _ s = true := fun w hw => hts0 w (List.mem_cons_of_mem _ hw)
  have hown : s.vm.findClass "CashRecyclerLaw" = some m.cls := findClass_of_methodNamed B.named
  have hlk := B.notSynchronized
  have hl := lv_entry ([.ref (ad 0), .int a, .ref aO]) (n := 4) (Nat.le_of_ble_eq_true rfl)
  rw [lg_entry_eq]
  generalize (lg_sl ([.ref (ad 0), .int a, .ref aO]) ++ List.replicate (4 - (lg_sl ([.ref (ad 0), .int a, .ref aO])).length) Slot.unset).toArray = ls at hl ⊢
  have hl : lv_has ls 4 [(0, .ref (ad 0)), (1, .int a), (2, .ref aO)] := hl
  have hP := q_J_W hJ
  have hS : va_S (q_AL ad aO) s.heap s.heap [] := va_S.rf
  obtain ⟨m9, meth9, c9, g1, g2, g3, -, -, g4, -⟩ := Cond.codeWith_spec (hts0 _ List.mem_cons_self)
  cases B.named.symm.trans g1
  cases B.method.symm.trans g2
  cases (Stand.of_body B).code.symm.trans g3
  obtain ⟨e1, hes, f1⟩ := q_es1 g4
  simp only [Prod.mk.injEq] at f1
  refine lv_aload_n hx hb dw_step_0 rfl (lv_at hl 2 rfl) ?_
  refine lv_iconst (v := 0) hx hb dw_step_1 (by decide) ?_
  refine lv_aload_n hx hb dw_step_2 rfl (lv_at hl 0 rfl) ?_
  refine lv_iload_n hx hb dw_step_3 rfl (lv_at hl 1 rfl) ?_
  refine q_utry hfl (j := 68) (ro := 0) (idx := 38) (x := 0) (hpc := 12) (as := [.inl a]) (rest := [.int 0, .ref aO]) (A0 := q_AL ad aO) ⟨hx, hb, hml, hown, hts⟩ hSt.1 (by decide) (by decide) rfl hq rfl rfl (q_inAt lw_step rfl) (Nat.le_refl _) (Nat.le_refl _) (Nat.le_refl _) (Nat.le_refl _) hP hS (fun q z => Or.inl z) (fun U hU hW => ⟨q_Sta_at hSt va_S.rf hU hW, q_Thr_at hThr hP va_S.rf hU hW⟩) hl.1 rfl (Nat.le_of_ble_eq_true rfl) dw_step_4 hes ?_ (fun ex H1 locs1 hP1 hz hk hS1 => ?_)
  · intro U g ex ce z1 z2 z3 z4 z5 z6 hpl
    have key := q_fg_hit (e := e) (U := U) (f := g) (a := ex) (x := e1) (t := []) (own := "CashRecyclerLaw") (X := q_exN 0) (args := _) hpl z4 (by rw [z5]; exact hown) (by simp [covers, f1, z6]) (by rw [f1.2.2.2]; decide) (by rw [f1.2.2.2]; exact hts _ (q_inAt cl_13 rfl)) z1 z2 z3 (hThr.1.1 _ (by decide +kernel))
    rw [f1.2.2.1] at key
    exact key
  · have hJ1 : va_P D qCl (q_J ad cI cZ cQ aO cL h' o) H1 := q_J_mk hP1 (by rw [hk aO (Array.getElem?_eq_some_iff.mp (q_J_O hJ)).1 hO]; exact q_J_O hJ)
    refine lv_astore_n hx hb dw_step_12 rfl hl (by decide) rfl (fun ls9 hl9 => ?_)
    refine lv_iconst (v := 1) hx hb dw_step_13 (by decide) ?_
    exact W.iret hx hb hr (fun t ht _ => ⟨⟨1, (), rfl, rfl, by show va_P _ _ _ t.heap; rw [ht]; exact hJ1⟩, hS1.F ht⟩) hS1.2.2 dw_step_14
theorem dw_stick_0 : decode method_11_code 0 = .ok (.aload_n 0, 1) := by decide +kernel
theorem dw_stick_1 : decode method_11_code 1 = .ok (.iload_n 1, 1) := by decide +kernel
theorem dw_stick_2 : decode method_11_code 2 = .ok (.invokevirtual 41, 3) := by decide +kernel
theorem dw_stick_5 : decode method_11_code 5 = .ok (.goto 9, 3) := by decide +kernel
theorem dw_stick_8 : decode method_11_code 8 = .ok (.astore_n 2, 1) := by decide +kernel
theorem dw_stick_9 : decode method_11_code 9 = .ok (.iconst 1, 1) := by decide +kernel
theorem dw_stick_10 : decode method_11_code 10 = .ok (.ireturn, 1) := by decide +kernel
theorem dw_stick_11 : decode method_11_code 11 = .ok (.astore_n 2, 1) := by decide +kernel
theorem dw_stick_12 : decode method_11_code 12 = .ok (.iconst 2, 1) := by decide +kernel
theorem dw_stick_13 : decode method_11_code 13 = .ok (.ireturn, 1) := by decide +kernel
theorem dw_stick_14 : decode method_11_code 14 = .ok (.iconst 0, 1) := by decide +kernel
theorem dw_stick_15 : decode method_11_code 15 = .ok (.ireturn, 1) := by decide +kernel
theorem lw_stick : lw_tbl[625]? = some (.methodLink "CashRecyclerLaw" 41 (qmY 71)) := by decide +kernel
abbrev yw_stick : MethodName := ⟨"CashRecyclerLaw", "stick", "(LCashRecycler;I)I"⟩
def ws_stick : List Cond := .codeWith yw_stick method_11_code 3 (some .int) [(0, 5, 8, 13), (0, 5, 11, 45)] :: q_WS
def rw_stick : Room := { frames := qmF 71 + 1, cells := 1, slots := 6, locals := 8 + (qmL 71 + 11) + qmW 71 }
set_option maxHeartbeats 4000000 in
theorem w_stick_r {l : Launch} {D : va_G} {ad : Nat → Nat} {cI cZ cQ : ClassId} {aO : Nat} {cL : ClassId} {h h' : HP} {o : Int64} {a : Int32} (hq : Ec 71 [.inr 0, .inl a] h (.inl none, h')) : q_MetL l D ad cI cZ cQ aO cL yw_stick ws_stick rw_stick [.ref (ad 0), .int a] h o 0 h' o := by
  refine va_MetW (cc := method_11_code) (maxL := 3) (ret := some .int) q_pl rfl ?_
  intro p e s m args below meth c s₁ B hml hv
  obtain ⟨rfl, hJ, hSt, hThr, hKL, hNc, hO⟩ := hv
  have hx := B.exec
  have hb := B.bytes
  have hr := B.returns
  have hts0 := atoms_spec (ws := ws_stick) B.pre
  have hts : ∀ w ∈ q_WS, w.before _ s = true := fun w hw => hts0 w (List.mem_cons_of_mem _ hw)
  have hown : s.vm.findClass "CashRecyclerLaw" = some m.cls := findClass_of_methodNamed B.named
  have hlk := B.notSynchronized
  have hl := lv_entry ([.ref (ad 0), .int a]) (n := 3) (Nat.le_of_ble_eq_true rfl)
  rw [lg_entry_eq]
  generalize (lg_sl ([.ref (ad 0), .int a]) ++ List.replicate (3 - (lg_sl ([.ref (ad 0), .int a])).length) Slot.unset).toArray = ls at hl ⊢
  have hl : lv_has ls 3 [(0, .ref (ad 0)), (1, .int a)] := hl
  have hP := q_J_W hJ
  have hS : va_S (q_AL ad aO) s.heap s.heap [] := va_S.rf
  refine lv_aload_n hx hb dw_stick_0 rfl (lv_at hl 0 rfl) ?_
  refine lv_iload_n hx hb dw_stick_1 rfl (lv_at hl 1 rfl) ?_
  refine q_ucall (j := 71) (ro := 0) (idx := 41) (as := [.inl a]) (rest := []) (A0 := q_AL ad aO) ⟨hx, hb, hml, hown, hts⟩ hSt.1 (by decide) (by decide) rfl hq rfl rfl (q_inAt lw_stick rfl) (Nat.le_refl _) (Nat.le_refl _) (Nat.zero_le _) (Nat.zero_le _) hP hS (fun q z => Or.inl z) (fun U hU hW => q_Sta_at hSt va_S.rf hU hW) hl.1 rfl (Nat.le_of_ble_eq_true rfl) dw_stick_2 (fun H1 locs1 hP1 hz hk hS1 => ?_)
  have hJ1 : va_P D qCl (q_J ad cI cZ cQ aO cL h' o) H1 := q_J_mk hP1 (by rw [hk aO (Array.getElem?_eq_some_iff.mp (q_J_O hJ)).1 hO]; exact q_J_O hJ)
  refine lv_goto hx hb dw_stick_5 rfl ?_
  refine lv_iconst (v := 0) hx hb dw_stick_14 (by decide) ?_
  refine W.widen (k := 1) (n := 6) (by omega) (by omega) ?_
  exact W.iret hx hb hr (fun t ht _ => ⟨⟨0, (), rfl, rfl, by show va_P _ _ _ t.heap; rw [ht]; exact hJ1⟩, hS1.F ht⟩) hS1.2.2 dw_stick_15
set_option maxHeartbeats 4000000 in
theorem w_stick_t0 {l : Launch} {D : va_G} {ad : Nat → Nat} {cI cZ cQ : ClassId} {aO : Nat} {cL : ClassId} {h h' : HP} {o : Int64} {a : Int32} (hfl : ∀ e : Env, l.admits e → e.platform.stackTraces = false) (hq : Ec 71 [.inr 0, .inl a] h (.inr 0, h')) : q_MetL l D ad cI cZ cQ aO cL yw_stick ws_stick rw_stick [.ref (ad 0), .int a] h o 1 h' o := by
  refine va_MetW (cc := method_11_code) (maxL := 3) (ret := some .int) q_pl rfl ?_
  intro p e s m args below meth c s₁ B hml hv
  obtain ⟨rfl, hJ, hSt, hThr, hKL, hNc, hO⟩ := hv
  have hx := B.exec
  have hb := B.bytes
  have hr := B.returns
  have hts0 := atoms_spec (ws := ws_stick) B.pre
  have hts : ∀ w ∈ q_WS, w.before _ s = true := fun w hw => hts0 w (List.mem_cons_of_mem _ hw)
  have hown : s.vm.findClass "CashRecyclerLaw" = some m.cls := findClass_of_methodNamed B.named
  have hlk := B.notSynchronized
  have hl := lv_entry ([.ref (ad 0), .int a]) (n := 3) (Nat.le_of_ble_eq_true rfl)
  rw [lg_entry_eq]
  generalize (lg_sl ([.ref (ad 0), .int a]) ++ List.replicate (3 - (lg_sl ([.ref (ad 0), .int a])).length) Slot.unset).toArray = ls at hl ⊢
  have hl : lv_has ls 3 [(0, .ref (ad 0)), (1, .int a)] := hl
  have hP := q_J_W hJ
  have hS : va_S (q_AL ad aO) s.heap s.heap [] := va_S.rf
  obtain ⟨m9, meth9, c9, g1, g2, g3, -, -, g4, -⟩ := Cond.codeWith_spec (hts0 _ List.mem_cons_self)
  cases B.named.symm.trans g1
  cases B.method.symm.trans g2
  cases (Stand.of_body B).code.symm.trans g3
  obtain ⟨e1, e2, hes, f1, f2⟩ := q_es2 g4
  simp only [Prod.mk.injEq] at f1
  simp only [Prod.mk.injEq] at f2
  refine lv_aload_n hx hb dw_stick_0 rfl (lv_at hl 0 rfl) ?_
  refine lv_iload_n hx hb dw_stick_1 rfl (lv_at hl 1 rfl) ?_
  refine q_utry hfl (j := 71) (ro := 0) (idx := 41) (x := 0) (hpc := 8) (as := [.inl a]) (rest := []) (A0 := q_AL ad aO) ⟨hx, hb, hml, hown, hts⟩ hSt.1 (by decide) (by decide) rfl hq rfl rfl (q_inAt lw_stick rfl) (Nat.le_refl _) (Nat.le_refl _) (Nat.le_refl _) (Nat.le_refl _) hP hS (fun q z => Or.inl z) (fun U hU hW => ⟨q_Sta_at hSt va_S.rf hU hW, q_Thr_at hThr hP va_S.rf hU hW⟩) hl.1 rfl (Nat.le_of_ble_eq_true rfl) dw_stick_2 hes ?_ (fun ex H1 locs1 hP1 hz hk hS1 => ?_)
  · intro U g ex ce z1 z2 z3 z4 z5 z6 hpl
    have key := q_fg_hit (e := e) (U := U) (f := g) (a := ex) (x := e1) (t := [e2]) (own := "CashRecyclerLaw") (X := q_exN 0) (args := _) hpl z4 (by rw [z5]; exact hown) (by simp [covers, f1, z6]) (by rw [f1.2.2.2]; decide) (by rw [f1.2.2.2]; exact hts _ (q_inAt cl_13 rfl)) z1 z2 z3 (hThr.1.1 _ (by decide +kernel))
    rw [f1.2.2.1] at key
    exact key
  · have hJ1 : va_P D qCl (q_J ad cI cZ cQ aO cL h' o) H1 := q_J_mk hP1 (by rw [hk aO (Array.getElem?_eq_some_iff.mp (q_J_O hJ)).1 hO]; exact q_J_O hJ)
    refine lv_astore_n hx hb dw_stick_8 rfl hl (by decide) rfl (fun ls9 hl9 => ?_)
    refine lv_iconst (v := 1) hx hb dw_stick_9 (by decide) ?_
    exact W.iret hx hb hr (fun t ht _ => ⟨⟨1, (), rfl, rfl, by show va_P _ _ _ t.heap; rw [ht]; exact hJ1⟩, hS1.F ht⟩) hS1.2.2 dw_stick_10
set_option maxHeartbeats 4000000 in
theorem w_stick_t3 {l : Launch} {D : va_G} {ad : Nat → Nat} {cI cZ cQ : ClassId} {aO : Nat} {cL : ClassId} {h h' : HP} {o : Int64} {a : Int32} (hfl : ∀ e : Env, l.admits e → e.platform.stackTraces = false) (hq : Ec 71 [.inr 0, .inl a] h (.inr 3, h')) : q_MetL l D ad cI cZ cQ aO cL yw_stick ws_stick rw_stick [.ref (ad 0), .int a] h o 2 h' o := by
  refine va_MetW (cc := method_11_code) (maxL := 3) (ret := some .int) q_pl rfl ?_
  intro p e s m args below meth c s₁ B hml hv
  obtain ⟨rfl, hJ, hSt, hThr, hKL, hNc, hO⟩ := hv
  have hx := B.exec
  have hb := B.bytes
  have hr := B.returns
  have hts0 := atoms_spec (ws := ws_stick) B.pre
  have hts : ∀ w ∈ q_WS, w.before _ s = true := fun w hw => hts0 w (List.mem_cons_of_mem _ hw)
  have hown : s.vm.findClass "CashRecyclerLaw" = some m.cls := findClass_of_methodNamed B.named
  have hlk := B.notSynchronized
  have hl := lv_entry ([.ref (ad 0), .int a]) (n := 3) (Nat.le_of_ble_eq_true rfl)
  rw [lg_entry_eq]
  generalize (lg_sl ([.ref (ad 0), .int a]) ++ List.replicate (3 - (lg_sl ([.ref (ad 0), .int a])).length) Slot.unset).toArray = ls at hl ⊢
  have hl : lv_has ls 3 [(0, .ref (ad 0)), (1, .int a)] := hl
  have hP := q_J_W hJ
  have hS : va_S (q_AL ad aO) s.heap s.heap [] := va_S.rf
  obtain ⟨m9, meth9, c9, g1, g2, g3, -, -, g4, -⟩ := Cond.codeWith_spec (hts0 _ List.mem_cons_self)
  cases B.named.symm.trans g1
  cases B.method.symm.trans g2
  cases (Stand.of_body B).code.symm.trans g3
  obtain ⟨e1, e2, hes, f1, f2⟩ := q_es2 g4
  simp only [Prod.mk.injEq] at f1
  simp only [Prod.mk.injEq] at f2
  refine lv_aload_n hx hb dw_stick_0 rfl (lv_at hl 0 rfl) ?_
  refine lv_iload_n hx hb dw_stick_1 rfl (lv_at hl 1 rfl) ?_
  refine q_utry hfl (j := 71) (ro := 0) (idx := 41) (x := 3) (hpc := 11) (as := [.inl a]) (rest := []) (A0 := q_AL ad aO) ⟨hx, hb, hml, hown, hts⟩ hSt.1 (by decide) (by decide) rfl hq rfl rfl (q_inAt lw_stick rfl) (Nat.le_refl _) (Nat.le_refl _) (Nat.le_refl _) (Nat.le_refl _) hP hS (fun q z => Or.inl z) (fun U hU hW => ⟨q_Sta_at hSt va_S.rf hU hW, q_Thr_at hThr hP va_S.rf hU hW⟩) hl.1 rfl (Nat.le_of_ble_eq_true rfl) dw_stick_2 hes ?_ (fun ex H1 locs1 hP1 hz hk hS1 => ?_)
  · intro U g ex ce z1 z2 z3 z4 z5 z6 hpl
    refine q_fg_pass (x := e1) (own := "CashRecyclerLaw") (X := q_exN 3) (Y := "java/lang/IllegalArgumentException") hpl z4 (by rw [z5]; exact hown) (by simp [covers, f1, z6]) (by rw [f1.2.2.2]; decide) (by rw [f1.2.2.2]; exact hts _ (q_inAt cl_13 rfl)) (by first | exact z1 | exact z1) z2 z3 (hNc _ (by decide +kernel) _ (by decide +kernel) (by decide +kernel)) (fun vm1 z4 => ?_)
    have key := q_fg_hit (e := e) (U := (U.setVm vm1)) (f := g) (a := ex) (x := e2) (t := []) (own := "CashRecyclerLaw") (X := q_exN 3) (args := _) hpl z4 (by rw [z5]; exact hown) (by simp [covers, f2, z6]) (by rw [f2.2.2.2]; decide) (by rw [f2.2.2.2]; exact hts _ (q_inAt cl_45 rfl)) z1 z2 z3 (hThr.1.1 _ (by decide +kernel))
    rw [f2.2.2.1] at key
    exact key
  · have hJ1 : va_P D qCl (q_J ad cI cZ cQ aO cL h' o) H1 := q_J_mk hP1 (by rw [hk aO (Array.getElem?_eq_some_iff.mp (q_J_O hJ)).1 hO]; exact q_J_O hJ)
    refine lv_astore_n hx hb dw_stick_11 rfl hl (by decide) rfl (fun ls9 hl9 => ?_)
    refine lv_iconst (v := 2) hx hb dw_stick_12 (by decide) ?_
    exact W.iret hx hb hr (fun t ht _ => ⟨⟨2, (), rfl, rfl, by show va_P _ _ _ t.heap; rw [ht]; exact hJ1⟩, hS1.F ht⟩) hS1.2.2 dw_stick_13
theorem dw_open_0 : decode method_12_code 0 = .ok (.aload_n 0, 1) := by decide +kernel
theorem dw_open_1 : decode method_12_code 1 = .ok (.invokevirtual 47, 3) := by decide +kernel
theorem dw_open_4 : decode method_12_code 4 = .ok (.goto 6, 3) := by decide +kernel
theorem dw_open_7 : decode method_12_code 7 = .ok (.astore_n 1, 1) := by decide +kernel
theorem dw_open_8 : decode method_12_code 8 = .ok (.iconst 1, 1) := by decide +kernel
theorem dw_open_9 : decode method_12_code 9 = .ok (.ireturn, 1) := by decide +kernel
theorem dw_open_10 : decode method_12_code 10 = .ok (.iconst 0, 1) := by decide +kernel
theorem dw_open_11 : decode method_12_code 11 = .ok (.ireturn, 1) := by decide +kernel
theorem lw_open : lw_tbl[654]? = some (.methodLink "CashRecyclerLaw" 47 (qmY 72)) := by decide +kernel
abbrev yw_open : MethodName := ⟨"CashRecyclerLaw", "open", "(LCashRecycler;)I"⟩
def ws_open : List Cond := .codeWith yw_open method_12_code 2 (some .int) [(0, 4, 7, 15)] :: q_WS
def rw_open : Room := { frames := qmF 72 + 1, cells := 1, slots := 6, locals := 8 + (qmL 72 + 11) + qmW 72 }
set_option maxHeartbeats 4000000 in
theorem w_open_r {l : Launch} {D : va_G} {ad : Nat → Nat} {cI cZ cQ : ClassId} {aO : Nat} {cL : ClassId} {h h' : HP} {o : Int64} (hq : Ec 72 [.inr 0] h (.inl none, h')) : q_MetL l D ad cI cZ cQ aO cL yw_open ws_open rw_open [.ref (ad 0)] h o 0 h' o := by
  refine va_MetW (cc := method_12_code) (maxL := 2) (ret := some .int) q_pl rfl ?_
  intro p e s m args below meth c s₁ B hml hv
  obtain ⟨rfl, hJ, hSt, hThr, hKL, hNc, hO⟩ := hv
  have hx := B.exec
  have hb := B.bytes
  have hr := B.returns
  have hts0 := atoms_spec (ws := ws_open) B.pre
  have hts : ∀ w ∈ q_WS, w.before _ s = true := fun w hw => hts0 w (List.mem_cons_of_mem _ hw)
  have hown : s.vm.findClass "CashRecyclerLaw" = some m.cls := findClass_of_methodNamed B.named
  have hlk := B.notSynchronized
  have hl := lv_entry ([.ref (ad 0)]) (n := 2) (Nat.le_of_ble_eq_true rfl)
  rw [lg_entry_eq]
  generalize (lg_sl ([.ref (ad 0)]) ++ List.replicate (2 - (lg_sl ([.ref (ad 0)])).length) Slot.unset).toArray = ls at hl ⊢
  have hl : lv_has ls 2 [(0, .ref (ad 0))] := hl
  have hP := q_J_W hJ
  have hS : va_S (q_AL ad aO) s.heap s.heap [] := va_S.rf
  refine lv_aload_n hx hb dw_open_0 rfl (lv_at hl 0 rfl) ?_
  refine q_ucall (j := 72) (ro := 0) (idx := 47) (as := []) (rest := []) (A0 := q_AL ad aO) ⟨hx, hb, hml, hown, hts⟩ hSt.1 (by decide) (by decide) rfl hq rfl rfl (q_inAt lw_open rfl) (Nat.le_refl _) (Nat.le_refl _) (Nat.zero_le _) (Nat.zero_le _) hP hS (fun q z => Or.inl z) (fun U hU hW => q_Sta_at hSt va_S.rf hU hW) hl.1 rfl (Nat.le_of_ble_eq_true rfl) dw_open_1 (fun H1 locs1 hP1 hz hk hS1 => ?_)
  have hJ1 : va_P D qCl (q_J ad cI cZ cQ aO cL h' o) H1 := q_J_mk hP1 (by rw [hk aO (Array.getElem?_eq_some_iff.mp (q_J_O hJ)).1 hO]; exact q_J_O hJ)
  refine lv_goto hx hb dw_open_4 rfl ?_
  refine lv_iconst (v := 0) hx hb dw_open_10 (by decide) ?_
  refine W.widen (k := 1) (n := 6) (by omega) (by omega) ?_
  exact W.iret hx hb hr (fun t ht _ => ⟨⟨0, (), rfl, rfl, by show va_P _ _ _ t.heap; rw [ht]; exact hJ1⟩, hS1.F ht⟩) hS1.2.2 dw_open_11
set_option maxHeartbeats 4000000 in
theorem w_open_t1 {l : Launch} {D : va_G} {ad : Nat → Nat} {cI cZ cQ : ClassId} {aO : Nat} {cL : ClassId} {h h' : HP} {o : Int64} (hfl : ∀ e : Env, l.admits e → e.platform.stackTraces = false) (hq : Ec 72 [.inr 0] h (.inr 1, h')) : q_MetL l D ad cI cZ cQ aO cL yw_open ws_open rw_open [.ref (ad 0)] h o 1 h' o := by
  refine va_MetW (cc := method_12_code) (maxL := 2) (ret := some .int) q_pl rfl ?_
  intro p e s m args below meth c s₁ B hml hv
  obtain ⟨rfl, hJ, hSt, hThr, hKL, hNc, hO⟩ := hv
  have hx := B.exec
  have hb := B.bytes
  have hr := B.returns
  have hts0 := atoms_spec (ws := ws_open) B.pre
  have hts : ∀ w ∈ q_WS, w.before _ s = true := fun w hw => hts0 w (List.mem_cons_of_mem _ hw)
  have hown : s.vm.findClass "CashRecyclerLaw" = some m.cls := findClass_of_methodNamed B.named
  have hlk := B.notSynchronized
  have hl := lv_entry ([.ref (ad 0)]) (n := 2) (Nat.le_of_ble_eq_true rfl)
  rw [lg_entry_eq]
  generalize (lg_sl ([.ref (ad 0)]) ++ List.replicate (2 - (lg_sl ([.ref (ad 0)])).length) Slot.unset).toArray = ls at hl ⊢
  have hl : lv_has ls 2 [(0, .ref (ad 0))] := hl
  have hP := q_J_W hJ
  have hS : va_S (q_AL ad aO) s.heap s.heap [] := va_S.rf
  obtain ⟨m9, meth9, c9, g1, g2, g3, -, -, g4, -⟩ := Cond.codeWith_spec (hts0 _ List.mem_cons_self)
  cases B.named.symm.trans g1
  cases B.method.symm.trans g2
  cases (Stand.of_body B).code.symm.trans g3
  obtain ⟨e1, hes, f1⟩ := q_es1 g4
  simp only [Prod.mk.injEq] at f1
  refine lv_aload_n hx hb dw_open_0 rfl (lv_at hl 0 rfl) ?_
  refine q_utry hfl (j := 72) (ro := 0) (idx := 47) (x := 1) (hpc := 7) (as := []) (rest := []) (A0 := q_AL ad aO) ⟨hx, hb, hml, hown, hts⟩ hSt.1 (by decide) (by decide) rfl hq rfl rfl (q_inAt lw_open rfl) (Nat.le_refl _) (Nat.le_refl _) (Nat.le_refl _) (Nat.le_refl _) hP hS (fun q z => Or.inl z) (fun U hU hW => ⟨q_Sta_at hSt va_S.rf hU hW, q_Thr_at hThr hP va_S.rf hU hW⟩) hl.1 rfl (Nat.le_of_ble_eq_true rfl) dw_open_1 hes ?_ (fun ex H1 locs1 hP1 hz hk hS1 => ?_)
  · intro U g ex ce z1 z2 z3 z4 z5 z6 hpl
    have key := q_fg_hit (e := e) (U := U) (f := g) (a := ex) (x := e1) (t := []) (own := "CashRecyclerLaw") (X := q_exN 1) (args := _) hpl z4 (by rw [z5]; exact hown) (by simp [covers, f1, z6]) (by rw [f1.2.2.2]; decide) (by rw [f1.2.2.2]; exact hts _ (q_inAt cl_15 rfl)) z1 z2 z3 (hThr.1.1 _ (by decide +kernel))
    rw [f1.2.2.1] at key
    exact key
  · have hJ1 : va_P D qCl (q_J ad cI cZ cQ aO cL h' o) H1 := q_J_mk hP1 (by rw [hk aO (Array.getElem?_eq_some_iff.mp (q_J_O hJ)).1 hO]; exact q_J_O hJ)
    refine lv_astore_n hx hb dw_open_7 rfl hl (by decide) rfl (fun ls9 hl9 => ?_)
    refine lv_iconst (v := 1) hx hb dw_open_8 (by decide) ?_
    exact W.iret hx hb hr (fun t ht _ => ⟨⟨1, (), rfl, rfl, by show va_P _ _ _ t.heap; rw [ht]; exact hJ1⟩, hS1.F ht⟩) hS1.2.2 dw_open_9
theorem dw_remove_0 : decode method_13_code 0 = .ok (.aload_n 2, 1) := by decide +kernel
theorem dw_remove_1 : decode method_13_code 1 = .ok (.iconst 0, 1) := by decide +kernel
theorem dw_remove_2 : decode method_13_code 2 = .ok (.aload_n 0, 1) := by decide +kernel
theorem dw_remove_3 : decode method_13_code 3 = .ok (.iload_n 1, 1) := by decide +kernel
theorem dw_remove_4 : decode method_13_code 4 = .ok (.invokevirtual 50, 3) := by decide +kernel
theorem dw_remove_7 : decode method_13_code 7 = .ok (.i2l, 1) := by decide +kernel
theorem dw_remove_8 : decode method_13_code 8 = .ok (.lastore, 1) := by decide +kernel
theorem dw_remove_9 : decode method_13_code 9 = .ok (.goto 12, 3) := by decide +kernel
theorem dw_remove_12 : decode method_13_code 12 = .ok (.astore_n 3, 1) := by decide +kernel
theorem dw_remove_13 : decode method_13_code 13 = .ok (.iconst 1, 1) := by decide +kernel
theorem dw_remove_14 : decode method_13_code 14 = .ok (.ireturn, 1) := by decide +kernel
theorem dw_remove_15 : decode method_13_code 15 = .ok (.astore_n 3, 1) := by decide +kernel
theorem dw_remove_16 : decode method_13_code 16 = .ok (.iconst 2, 1) := by decide +kernel
theorem dw_remove_17 : decode method_13_code 17 = .ok (.ireturn, 1) := by decide +kernel
theorem dw_remove_18 : decode method_13_code 18 = .ok (.astore_n 3, 1) := by decide +kernel
theorem dw_remove_19 : decode method_13_code 19 = .ok (.iconst 3, 1) := by decide +kernel
theorem dw_remove_20 : decode method_13_code 20 = .ok (.ireturn, 1) := by decide +kernel
theorem dw_remove_21 : decode method_13_code 21 = .ok (.iconst 0, 1) := by decide +kernel
theorem dw_remove_22 : decode method_13_code 22 = .ok (.ireturn, 1) := by decide +kernel
theorem lw_remove : lw_tbl[661]? = some (.methodLink "CashRecyclerLaw" 50 (qmY 73)) := by decide +kernel
abbrev yw_remove : MethodName := ⟨"CashRecyclerLaw", "remove", "(LCashRecycler;I[J)I"⟩
def ws_remove : List Cond := .codeWith yw_remove method_13_code 4 (some .int) [(0, 9, 12, 15), (0, 9, 15, 13), (0, 9, 18, 45)] :: q_WS
def rw_remove : Room := { frames := qmF 73 + 1, cells := 1, slots := 6, locals := 8 + (qmL 73 + 11) + qmW 73 }
set_option maxHeartbeats 4000000 in
theorem w_remove_r {l : Launch} {D : va_G} {ad : Nat → Nat} {cI cZ cQ : ClassId} {aO : Nat} {cL : ClassId} {h h' : HP} {o : Int64} {a : Int32} {v : Int32} (hq : Ec 73 [.inr 0, .inl a] h (.inl (some v), h')) : q_MetL l D ad cI cZ cQ aO cL yw_remove ws_remove rw_remove [.ref (ad 0), .int a, .ref aO] h o 0 h' v.toInt64 := by
  refine va_MetW (cc := method_13_code) (maxL := 4) (ret := some .int) q_pl rfl ?_
  intro p e s m args below meth c s₁ B hml hv
  obtain ⟨rfl, hJ, hSt, hThr, hKL, hNc, hO⟩ := hv
  have hx := B.exec
  have hb := B.bytes
  have hr := B.returns
  have hts0 := atoms_spec (ws := ws_remove) B.pre
  have hts : ∀ w ∈ q_WS, w.before _ s = true := fun w hw => hts0 w (List.mem_cons_of_mem _ hw)
  have hown : s.vm.findClass "CashRecyclerLaw" = some m.cls := findClass_of_methodNamed B.named
  have hlk := B.notSynchronized
  have hl := lv_entry ([.ref (ad 0), .int a, .ref aO]) (n := 4) (Nat.le_of_ble_eq_true rfl)
  rw [lg_entry_eq]
  generalize (lg_sl ([.ref (ad 0), .int a, .ref aO]) ++ List.replicate (4 - (lg_sl ([.ref (ad 0), .int a, .ref aO])).length) Slot.unset).toArray = ls at hl ⊢
  have hl : lv_has ls 4 [(0, .ref (ad 0)), (1, .int a), (2, .ref aO)] := hl
  have hP := q_J_W hJ
  have hS : va_S (q_AL ad aO) s.heap s.heap [] := va_S.rf
  refine lv_aload_n hx hb dw_remove_0 rfl (lv_at hl 2 rfl) ?_
  refine lv_iconst (v := 0) hx hb dw_remove_1 (by decide) ?_
  refine lv_aload_n hx hb dw_remove_2 rfl (lv_at hl 0 rfl) ?_
  refine lv_iload_n hx hb dw_remove_3 rfl (lv_at hl 1 rfl) ?_
  refine q_ucall (j := 73) (ro := 0) (idx := 50) (as := [.inl a]) (rest := [.int 0, .ref aO]) (A0 := q_AL ad aO) ⟨hx, hb, hml, hown, hts⟩ hSt.1 (by decide) (by decide) rfl hq rfl rfl (q_inAt lw_remove rfl) (Nat.le_refl _) (Nat.le_refl _) (Nat.zero_le _) (Nat.zero_le _) hP hS (fun q z => Or.inl z) (fun U hU hW => q_Sta_at hSt va_S.rf hU hW) hl.1 rfl (Nat.le_of_ble_eq_true rfl) dw_remove_4 (fun H1 locs1 hP1 hz hk hS1 => ?_)
  have hJ1 : va_P D qCl (q_J ad cI cZ cQ aO cL h' o) H1 := q_J_mk hP1 (by rw [hk aO (Array.getElem?_eq_some_iff.mp (q_J_O hJ)).1 hO]; exact q_J_O hJ)
  refine lv_i2l (v := v.toInt64) hx hb dw_remove_7 rfl ?_
  refine va_last (D := D) (cl := qCl) (H0 := s.heap) (A := q_AL ad aO) hx hb hKL hJ1 (q_J_D hSt.2.2.2.2 hO (fun _ z => z)) hS1 47 0 q_J_47 rfl q_in01 dw_remove_8 (fun H2 locs2 hP2 hD2 hS2 => ?_)
  have hJ2 : va_P D qCl (q_J ad cI cZ cQ aO cL h' v.toInt64) H2 := q_J_set (by rfl) hP2
  refine lv_goto hx hb dw_remove_9 rfl ?_
  refine lv_iconst (v := 0) hx hb dw_remove_21 (by decide) ?_
  refine W.widen (k := 1) (n := 6) (by omega) (by omega) ?_
  exact W.iret hx hb hr (fun t ht _ => ⟨⟨0, (), rfl, rfl, by show va_P _ _ _ t.heap; rw [ht]; exact hJ2⟩, hS2.F ht⟩) hS2.2.2 dw_remove_22
set_option maxHeartbeats 4000000 in
theorem w_remove_t1 {l : Launch} {D : va_G} {ad : Nat → Nat} {cI cZ cQ : ClassId} {aO : Nat} {cL : ClassId} {h h' : HP} {o : Int64} {a : Int32} (hfl : ∀ e : Env, l.admits e → e.platform.stackTraces = false) (hq : Ec 73 [.inr 0, .inl a] h (.inr 1, h')) : q_MetL l D ad cI cZ cQ aO cL yw_remove ws_remove rw_remove [.ref (ad 0), .int a, .ref aO] h o 1 h' o := by
  refine va_MetW (cc := method_13_code) (maxL := 4) (ret := some .int) q_pl rfl ?_
  intro p e s m args below meth c s₁ B hml hv
  obtain ⟨rfl, hJ, hSt, hThr, hKL, hNc, hO⟩ := hv
  have hx := B.exec
  have hb := B.bytes
  have hr := B.returns
  have hts0 := atoms_spec (ws := ws_remove) B.pre
  have hts : ∀ w ∈ q_WS, w.before _ s = true := fun w hw => hts0 w (List.mem_cons_of_mem _ hw)
  have hown : s.vm.findClass "CashRecyclerLaw" = some m.cls := findClass_of_methodNamed B.named
  have hlk := B.notSynchronized
  have hl := lv_entry ([.ref (ad 0), .int a, .ref aO]) (n := 4) (Nat.le_of_ble_eq_true rfl)
  rw [lg_entry_eq]
  generalize (lg_sl ([.ref (ad 0), .int a, .ref aO]) ++ List.replicate (4 - (lg_sl ([.ref (ad 0), .int a, .ref aO])).length) Slot.unset).toArray = ls at hl ⊢
  have hl : lv_has ls 4 [(0, .ref (ad 0)), (1, .int a), (2, .ref aO)] := hl
  have hP := q_J_W hJ
  have hS : va_S (q_AL ad aO) s.heap s.heap [] := va_S.rf
  obtain ⟨m9, meth9, c9, g1, g2, g3, -, -, g4, -⟩ := Cond.codeWith_spec (hts0 _ List.mem_cons_self)
  cases B.named.symm.trans g1
  cases B.method.symm.trans g2
  cases (Stand.of_body B).code.symm.trans g3
  obtain ⟨e1, e2, e3, hes, f1, f2, f3⟩ := q_es3 g4
  simp only [Prod.mk.injEq] at f1
  simp only [Prod.mk.injEq] at f2
  simp only [Prod.mk.injEq] at f3
  refine lv_aload_n hx hb dw_remove_0 rfl (lv_at hl 2 rfl) ?_
  refine lv_iconst (v := 0) hx hb dw_remove_1 (by decide) ?_
  refine lv_aload_n hx hb dw_remove_2 rfl (lv_at hl 0 rfl) ?_
  refine lv_iload_n hx hb dw_remove_3 rfl (lv_at hl 1 rfl) ?_
  refine q_utry hfl (j := 73) (ro := 0) (idx := 50) (x := 1) (hpc := 12) (as := [.inl a]) (rest := [.int 0, .ref aO]) (A0 := q_AL ad aO) ⟨hx, hb, hml, hown, hts⟩ hSt.1 (by decide) (by decide) rfl hq rfl rfl (q_inAt lw_remove rfl) (Nat.le_refl _) (Nat.le_refl _) (Nat.le_refl _) (Nat.le_refl _) hP hS (fun q z => Or.inl z) (fun U hU hW => ⟨q_Sta_at hSt va_S.rf hU hW, q_Thr_at hThr hP va_S.rf hU hW⟩) hl.1 rfl (Nat.le_of_ble_eq_true rfl) dw_remove_4 hes ?_ (fun ex H1 locs1 hP1 hz hk hS1 => ?_)
  · intro U g ex ce z1 z2 z3 z4 z5 z6 hpl
    have key := q_fg_hit (e := e) (U := U) (f := g) (a := ex) (x := e1) (t := [e2, e3]) (own := "CashRecyclerLaw") (X := q_exN 1) (args := _) hpl z4 (by rw [z5]; exact hown) (by simp [covers, f1, z6]) (by rw [f1.2.2.2]; decide) (by rw [f1.2.2.2]; exact hts _ (q_inAt cl_15 rfl)) z1 z2 z3 (hThr.1.1 _ (by decide +kernel))
    rw [f1.2.2.1] at key
    exact key
  · have hJ1 : va_P D qCl (q_J ad cI cZ cQ aO cL h' o) H1 := q_J_mk hP1 (by rw [hk aO (Array.getElem?_eq_some_iff.mp (q_J_O hJ)).1 hO]; exact q_J_O hJ)
    refine lv_astore_n hx hb dw_remove_12 rfl hl (by decide) rfl (fun ls9 hl9 => ?_)
    refine lv_iconst (v := 1) hx hb dw_remove_13 (by decide) ?_
    exact W.iret hx hb hr (fun t ht _ => ⟨⟨1, (), rfl, rfl, by show va_P _ _ _ t.heap; rw [ht]; exact hJ1⟩, hS1.F ht⟩) hS1.2.2 dw_remove_14
set_option maxHeartbeats 4000000 in
theorem w_remove_t0 {l : Launch} {D : va_G} {ad : Nat → Nat} {cI cZ cQ : ClassId} {aO : Nat} {cL : ClassId} {h h' : HP} {o : Int64} {a : Int32} (hfl : ∀ e : Env, l.admits e → e.platform.stackTraces = false) (hq : Ec 73 [.inr 0, .inl a] h (.inr 0, h')) : q_MetL l D ad cI cZ cQ aO cL yw_remove ws_remove rw_remove [.ref (ad 0), .int a, .ref aO] h o 2 h' o := by
  refine va_MetW (cc := method_13_code) (maxL := 4) (ret := some .int) q_pl rfl ?_
  intro p e s m args below meth c s₁ B hml hv
  obtain ⟨rfl, hJ, hSt, hThr, hKL, hNc, hO⟩ := hv
  have hx := B.exec
  have hb := B.bytes
  have hr := B.returns
  have hts0 := atoms_spec (ws := ws_remove) B.pre
  have hts : ∀ w ∈ q_WS, w.before _ s = true := fun w hw => hts0 w (List.mem_cons_of_mem _ hw)
  have hown : s.vm.findClass "CashRecyclerLaw" = some m.cls := findClass_of_methodNamed B.named
  have hlk := B.notSynchronized
  have hl := lv_entry ([.ref (ad 0), .int a, .ref aO]) (n := 4) (Nat.le_of_ble_eq_true rfl)
  rw [lg_entry_eq]
  generalize (lg_sl ([.ref (ad 0), .int a, .ref aO]) ++ List.replicate (4 - (lg_sl ([.ref (ad 0), .int a, .ref aO])).length) Slot.unset).toArray = ls at hl ⊢
  have hl : lv_has ls 4 [(0, .ref (ad 0)), (1, .int a), (2, .ref aO)] := hl
  have hP := q_J_W hJ
  have hS : va_S (q_AL ad aO) s.heap s.heap [] := va_S.rf
  obtain ⟨m9, meth9, c9, g1, g2, g3, -, -, g4, -⟩ := Cond.codeWith_spec (hts0 _ List.mem_cons_self)
  cases B.named.symm.trans g1
  cases B.method.symm.trans g2
  cases (Stand.of_body B).code.symm.trans g3
  obtain ⟨e1, e2, e3, hes, f1, f2, f3⟩ := q_es3 g4
  simp only [Prod.mk.injEq] at f1
  simp only [Prod.mk.injEq] at f2
  simp only [Prod.mk.injEq] at f3
  refine lv_aload_n hx hb dw_remove_0 rfl (lv_at hl 2 rfl) ?_
  refine lv_iconst (v := 0) hx hb dw_remove_1 (by decide) ?_
  refine lv_aload_n hx hb dw_remove_2 rfl (lv_at hl 0 rfl) ?_
  refine lv_iload_n hx hb dw_remove_3 rfl (lv_at hl 1 rfl) ?_
  refine q_utry hfl (j := 73) (ro := 0) (idx := 50) (x := 0) (hpc := 15) (as := [.inl a]) (rest := [.int 0, .ref aO]) (A0 := q_AL ad aO) ⟨hx, hb, hml, hown, hts⟩ hSt.1 (by decide) (by decide) rfl hq rfl rfl (q_inAt lw_remove rfl) (Nat.le_refl _) (Nat.le_refl _) (Nat.le_refl _) (Nat.le_refl _) hP hS (fun q z => Or.inl z) (fun U hU hW => ⟨q_Sta_at hSt va_S.rf hU hW, q_Thr_at hThr hP va_S.rf hU hW⟩) hl.1 rfl (Nat.le_of_ble_eq_true rfl) dw_remove_4 hes ?_ (fun ex H1 locs1 hP1 hz hk hS1 => ?_)
  · intro U g ex ce z1 z2 z3 z4 z5 z6 hpl
    refine q_fg_pass (x := e1) (own := "CashRecyclerLaw") (X := q_exN 0) (Y := "java/lang/IllegalStateException") hpl z4 (by rw [z5]; exact hown) (by simp [covers, f1, z6]) (by rw [f1.2.2.2]; decide) (by rw [f1.2.2.2]; exact hts _ (q_inAt cl_15 rfl)) (by first | exact z1 | exact z1) z2 z3 (hNc _ (by decide +kernel) _ (by decide +kernel) (by decide +kernel)) (fun vm1 z4 => ?_)
    have key := q_fg_hit (e := e) (U := (U.setVm vm1)) (f := g) (a := ex) (x := e2) (t := [e3]) (own := "CashRecyclerLaw") (X := q_exN 0) (args := _) hpl z4 (by rw [z5]; exact hown) (by simp [covers, f2, z6]) (by rw [f2.2.2.2]; decide) (by rw [f2.2.2.2]; exact hts _ (q_inAt cl_13 rfl)) z1 z2 z3 (hThr.1.1 _ (by decide +kernel))
    rw [f2.2.2.1] at key
    exact key
  · have hJ1 : va_P D qCl (q_J ad cI cZ cQ aO cL h' o) H1 := q_J_mk hP1 (by rw [hk aO (Array.getElem?_eq_some_iff.mp (q_J_O hJ)).1 hO]; exact q_J_O hJ)
    refine lv_astore_n hx hb dw_remove_15 rfl hl (by decide) rfl (fun ls9 hl9 => ?_)
    refine lv_iconst (v := 2) hx hb dw_remove_16 (by decide) ?_
    exact W.iret hx hb hr (fun t ht _ => ⟨⟨2, (), rfl, rfl, by show va_P _ _ _ t.heap; rw [ht]; exact hJ1⟩, hS1.F ht⟩) hS1.2.2 dw_remove_17
set_option maxHeartbeats 4000000 in
theorem w_remove_t3 {l : Launch} {D : va_G} {ad : Nat → Nat} {cI cZ cQ : ClassId} {aO : Nat} {cL : ClassId} {h h' : HP} {o : Int64} {a : Int32} (hfl : ∀ e : Env, l.admits e → e.platform.stackTraces = false) (hq : Ec 73 [.inr 0, .inl a] h (.inr 3, h')) : q_MetL l D ad cI cZ cQ aO cL yw_remove ws_remove rw_remove [.ref (ad 0), .int a, .ref aO] h o 3 h' o := by
  refine va_MetW (cc := method_13_code) (maxL := 4) (ret := some .int) q_pl rfl ?_
  intro p e s m args below meth c s₁ B hml hv
  obtain ⟨rfl, hJ, hSt, hThr, hKL, hNc, hO⟩ := hv
  have hx := B.exec
  have hb := B.bytes
  have hr := B.returns
  have hts0 := atoms_spec (ws := ws_remove) B.pre
  have hts : ∀ w ∈ q_WS, w.before _ s = true := fun w hw => hts0 w (List.mem_cons_of_mem _ hw)
  have hown : s.vm.findClass "CashRecyclerLaw" = some m.cls := findClass_of_methodNamed B.named
  have hlk := B.notSynchronized
  have hl := lv_entry ([.ref (ad 0), .int a, .ref aO]) (n := 4) (Nat.le_of_ble_eq_true rfl)
  rw [lg_entry_eq]
  generalize (lg_sl ([.ref (ad 0), .int a, .ref aO]) ++ List.replicate (4 - (lg_sl ([.ref (ad 0), .int a, .ref aO])).length) Slot.unset).toArray = ls at hl ⊢
  have hl : lv_has ls 4 [(0, .ref (ad 0)), (1, .int a), (2, .ref aO)] := hl
  have hP := q_J_W hJ
  have hS : va_S (q_AL ad aO) s.heap s.heap [] := va_S.rf
  obtain ⟨m9, meth9, c9, g1, g2, g3, -, -, g4, -⟩ := Cond.codeWith_spec (hts0 _ List.mem_cons_self)
  cases B.named.symm.trans g1
  cases B.method.symm.trans g2
  cases (Stand.of_body B).code.symm.trans g3
  obtain ⟨e1, e2, e3, hes, f1, f2, f3⟩ := q_es3 g4
  simp only [Prod.mk.injEq] at f1
  simp only [Prod.mk.injEq] at f2
  simp only [Prod.mk.injEq] at f3
  refine lv_aload_n hx hb dw_remove_0 rfl (lv_at hl 2 rfl) ?_
  refine lv_iconst (v := 0) hx hb dw_remove_1 (by decide) ?_
  refine lv_aload_n hx hb dw_remove_2 rfl (lv_at hl 0 rfl) ?_
  refine lv_iload_n hx hb dw_remove_3 rfl (lv_at hl 1 rfl) ?_
  refine q_utry hfl (j := 73) (ro := 0) (idx := 50) (x := 3) (hpc := 18) (as := [.inl a]) (rest := [.int 0, .ref aO]) (A0 := q_AL ad aO) ⟨hx, hb, hml, hown, hts⟩ hSt.1 (by decide) (by decide) rfl hq rfl rfl (q_inAt lw_remove rfl) (Nat.le_refl _) (Nat.le_refl _) (Nat.le_refl _) (Nat.le_refl _) hP hS (fun q z => Or.inl z) (fun U hU hW => ⟨q_Sta_at hSt va_S.rf hU hW, q_Thr_at hThr hP va_S.rf hU hW⟩) hl.1 rfl (Nat.le_of_ble_eq_true rfl) dw_remove_4 hes ?_ (fun ex H1 locs1 hP1 hz hk hS1 => ?_)
  · intro U g ex ce z1 z2 z3 z4 z5 z6 hpl
    refine q_fg_pass (x := e1) (own := "CashRecyclerLaw") (X := q_exN 3) (Y := "java/lang/IllegalStateException") hpl z4 (by rw [z5]; exact hown) (by simp [covers, f1, z6]) (by rw [f1.2.2.2]; decide) (by rw [f1.2.2.2]; exact hts _ (q_inAt cl_15 rfl)) (by first | exact z1 | exact z1) z2 z3 (hNc _ (by decide +kernel) _ (by decide +kernel) (by decide +kernel)) (fun vm1 z4 => ?_)
    refine q_fg_pass (x := e2) (own := "CashRecyclerLaw") (X := q_exN 3) (Y := "java/lang/IllegalArgumentException") hpl z4 (by rw [z5]; exact hown) (by simp [covers, f2, z6]) (by rw [f2.2.2.2]; decide) (by rw [f2.2.2.2]; exact hts _ (q_inAt cl_13 rfl)) (by first | exact z1 | exact z1) z2 z3 (hNc _ (by decide +kernel) _ (by decide +kernel) (by decide +kernel)) (fun vm2 z4 => ?_)
    have key := q_fg_hit (e := e) (U := ((U.setVm vm1).setVm vm2)) (f := g) (a := ex) (x := e3) (t := []) (own := "CashRecyclerLaw") (X := q_exN 3) (args := _) hpl z4 (by rw [z5]; exact hown) (by simp [covers, f3, z6]) (by rw [f3.2.2.2]; decide) (by rw [f3.2.2.2]; exact hts _ (q_inAt cl_45 rfl)) z1 z2 z3 (hThr.1.1 _ (by decide +kernel))
    rw [f3.2.2.1] at key
    exact key
  · have hJ1 : va_P D qCl (q_J ad cI cZ cQ aO cL h' o) H1 := q_J_mk hP1 (by rw [hk aO (Array.getElem?_eq_some_iff.mp (q_J_O hJ)).1 hO]; exact q_J_O hJ)
    refine lv_astore_n hx hb dw_remove_18 rfl hl (by decide) rfl (fun ls9 hl9 => ?_)
    refine lv_iconst (v := 3) hx hb dw_remove_19 (by decide) ?_
    exact W.iret hx hb hr (fun t ht _ => ⟨⟨3, (), rfl, rfl, by show va_P _ _ _ t.heap; rw [ht]; exact hJ1⟩, hS1.F ht⟩) hS1.2.2 dw_remove_20
theorem dw_free_0 : decode method_14_code 0 = .ok (.aload_n 2, 1) := by decide +kernel
theorem dw_free_1 : decode method_14_code 1 = .ok (.iconst 0, 1) := by decide +kernel
theorem dw_free_2 : decode method_14_code 2 = .ok (.aload_n 0, 1) := by decide +kernel
theorem dw_free_3 : decode method_14_code 3 = .ok (.iload_n 1, 1) := by decide +kernel
theorem dw_free_4 : decode method_14_code 4 = .ok (.invokevirtual 53, 3) := by decide +kernel
theorem dw_free_7 : decode method_14_code 7 = .ok (.ifCond .eq 7, 3) := by decide +kernel
theorem dw_free_10 : decode method_14_code 10 = .ok (.lconst 1, 1) := by decide +kernel
theorem dw_free_11 : decode method_14_code 11 = .ok (.goto 4, 3) := by decide +kernel
theorem dw_free_14 : decode method_14_code 14 = .ok (.lconst 0, 1) := by decide +kernel
theorem dw_free_15 : decode method_14_code 15 = .ok (.lastore, 1) := by decide +kernel
theorem dw_free_16 : decode method_14_code 16 = .ok (.goto 9, 3) := by decide +kernel
theorem dw_free_19 : decode method_14_code 19 = .ok (.astore_n 3, 1) := by decide +kernel
theorem dw_free_20 : decode method_14_code 20 = .ok (.iconst 1, 1) := by decide +kernel
theorem dw_free_21 : decode method_14_code 21 = .ok (.ireturn, 1) := by decide +kernel
theorem dw_free_22 : decode method_14_code 22 = .ok (.astore_n 3, 1) := by decide +kernel
theorem dw_free_23 : decode method_14_code 23 = .ok (.iconst 2, 1) := by decide +kernel
theorem dw_free_24 : decode method_14_code 24 = .ok (.ireturn, 1) := by decide +kernel
theorem dw_free_25 : decode method_14_code 25 = .ok (.iconst 0, 1) := by decide +kernel
theorem dw_free_26 : decode method_14_code 26 = .ok (.ireturn, 1) := by decide +kernel
theorem lw_free : lw_tbl[668]? = some (.methodLink "CashRecyclerLaw" 53 (qmY 74)) := by decide +kernel
abbrev yw_free : MethodName := ⟨"CashRecyclerLaw", "free", "(LCashRecycler;I[J)I"⟩
def ws_free : List Cond := .codeWith yw_free method_14_code 4 (some .int) [(0, 16, 19, 15), (0, 16, 22, 13)] :: q_WS
def rw_free : Room := { frames := qmF 74 + 1, cells := 1, slots := 6, locals := 8 + (qmL 74 + 11) + qmW 74 }
set_option maxHeartbeats 4000000 in
theorem w_free_r {l : Launch} {D : va_G} {ad : Nat → Nat} {cI cZ cQ : ClassId} {aO : Nat} {cL : ClassId} {h h' : HP} {o : Int64} {a : Int32} {v : Int32} (hq : Ec 74 [.inr 0, .inl a] h (.inl (some v), h')) : q_MetL l D ad cI cZ cQ aO cL yw_free ws_free rw_free [.ref (ad 0), .int a, .ref aO] h o 0 h' (if v = 0 then 0 else 1) := by
  refine va_MetW (cc := method_14_code) (maxL := 4) (ret := some .int) q_pl rfl ?_
  intro p e s m args below meth c s₁ B hml hv
  obtain ⟨rfl, hJ, hSt, hThr, hKL, hNc, hO⟩ := hv
  have hx := B.exec
  have hb := B.bytes
  have hr := B.returns
  have hts0 := atoms_spec (ws := ws_free) B.pre
  have hts : ∀ w ∈ q_WS, w.before _ s = true := fun w hw => hts0 w (List.mem_cons_of_mem _ hw)
  have hown : s.vm.findClass "CashRecyclerLaw" = some m.cls := findClass_of_methodNamed B.named
  have hlk := B.notSynchronized
  have hl := lv_entry ([.ref (ad 0), .int a, .ref aO]) (n := 4) (Nat.le_of_ble_eq_true rfl)
  rw [lg_entry_eq]
  generalize (lg_sl ([.ref (ad 0), .int a, .ref aO]) ++ List.replicate (4 - (lg_sl ([.ref (ad 0), .int a, .ref aO])).length) Slot.unset).toArray = ls at hl ⊢
  have hl : lv_has ls 4 [(0, .ref (ad 0)), (1, .int a), (2, .ref aO)] := hl
  have hP := q_J_W hJ
  have hS : va_S (q_AL ad aO) s.heap s.heap [] := va_S.rf
  refine lv_aload_n hx hb dw_free_0 rfl (lv_at hl 2 rfl) ?_
  refine lv_iconst (v := 0) hx hb dw_free_1 (by decide) ?_
  refine lv_aload_n hx hb dw_free_2 rfl (lv_at hl 0 rfl) ?_
  refine lv_iload_n hx hb dw_free_3 rfl (lv_at hl 1 rfl) ?_
  refine q_ucall (j := 74) (ro := 0) (idx := 53) (as := [.inl a]) (rest := [.int 0, .ref aO]) (A0 := q_AL ad aO) ⟨hx, hb, hml, hown, hts⟩ hSt.1 (by decide) (by decide) rfl hq rfl rfl (q_inAt lw_free rfl) (Nat.le_refl _) (Nat.le_refl _) (Nat.zero_le _) (Nat.zero_le _) hP hS (fun q z => Or.inl z) (fun U hU hW => q_Sta_at hSt va_S.rf hU hW) hl.1 rfl (Nat.le_of_ble_eq_true rfl) dw_free_4 (fun H1 locs1 hP1 hz hk hS1 => ?_)
  have hJ1 : va_P D qCl (q_J ad cI cZ cQ aO cL h' o) H1 := q_J_mk hP1 (by rw [hk aO (Array.getElem?_eq_some_iff.mp (q_J_O hJ)).1 hO]; exact q_J_O hJ)
  refine lv_if_eq hx hb dw_free_7 rfl (fun hc => ?_) (fun hc => ?_)
  · rw [if_pos hc]
    refine lv_lconst (v := 0) hx hb dw_free_14 (by decide) ?_
    refine va_last (D := D) (cl := qCl) (H0 := s.heap) (A := q_AL ad aO) hx hb hKL hJ1 (q_J_D hSt.2.2.2.2 hO (fun _ z => z)) hS1 47 0 q_J_47 rfl q_in01 dw_free_15 (fun H2 locs2 hP2 hD2 hS2 => ?_)
    have hJ2 : va_P D qCl (q_J ad cI cZ cQ aO cL h' 0) H2 := q_J_set (by rfl) hP2
    refine lv_goto hx hb dw_free_16 rfl ?_
    refine lv_iconst (v := 0) hx hb dw_free_25 (by decide) ?_
    refine W.widen (k := 1) (n := 6) (by omega) (by omega) ?_
    exact W.iret hx hb hr (fun t ht _ => ⟨⟨0, (), rfl, rfl, by show va_P _ _ _ t.heap; rw [ht]; exact hJ2⟩, hS2.F ht⟩) hS2.2.2 dw_free_26
  · rw [if_neg hc]
    refine lv_lconst (v := 1) hx hb dw_free_10 (by decide) ?_
    refine lv_goto hx hb dw_free_11 rfl ?_
    refine va_last (D := D) (cl := qCl) (H0 := s.heap) (A := q_AL ad aO) hx hb hKL hJ1 (q_J_D hSt.2.2.2.2 hO (fun _ z => z)) hS1 47 0 q_J_47 rfl q_in01 dw_free_15 (fun H2 locs2 hP2 hD2 hS2 => ?_)
    have hJ2 : va_P D qCl (q_J ad cI cZ cQ aO cL h' 1) H2 := q_J_set (by rfl) hP2
    refine lv_goto hx hb dw_free_16 rfl ?_
    refine lv_iconst (v := 0) hx hb dw_free_25 (by decide) ?_
    refine W.widen (k := 1) (n := 6) (by omega) (by omega) ?_
    exact W.iret hx hb hr (fun t ht _ => ⟨⟨0, (), rfl, rfl, by show va_P _ _ _ t.heap; rw [ht]; exact hJ2⟩, hS2.F ht⟩) hS2.2.2 dw_free_26
set_option maxHeartbeats 4000000 in
theorem w_free_t1 {l : Launch} {D : va_G} {ad : Nat → Nat} {cI cZ cQ : ClassId} {aO : Nat} {cL : ClassId} {h h' : HP} {o : Int64} {a : Int32} (hfl : ∀ e : Env, l.admits e → e.platform.stackTraces = false) (hq : Ec 74 [.inr 0, .inl a] h (.inr 1, h')) : q_MetL l D ad cI cZ cQ aO cL yw_free ws_free rw_free [.ref (ad 0), .int a, .ref aO] h o 1 h' o := by
  refine va_MetW (cc := method_14_code) (maxL := 4) (ret := some .int) q_pl rfl ?_
  intro p e s m args below meth c s₁ B hml hv
  obtain ⟨rfl, hJ, hSt, hThr, hKL, hNc, hO⟩ := hv
  have hx := B.exec
  have hb := B.bytes
  have hr := B.returns
  have hts0 := atoms_spec (ws := ws_free) B.pre
  have hts : ∀ w ∈ q_WS, w.before _ s = true := fun w hw => hts0 w (List.mem_cons_of_mem _ hw)
  have hown : s.vm.findClass "CashRecyclerLaw" = some m.cls := findClass_of_methodNamed B.named
  have hlk := B.notSynchronized
  have hl := lv_entry ([.ref (ad 0), .int a, .ref aO]) (n := 4) (Nat.le_of_ble_eq_true rfl)
  rw [lg_entry_eq]
  generalize (lg_sl ([.ref (ad 0), .int a, .ref aO]) ++ List.replicate (4 - (lg_sl ([.ref (ad 0), .int a, .ref aO])).length) Slot.unset).toArray = ls at hl ⊢
  have hl : lv_has ls 4 [(0, .ref (ad 0)), (1, .int a), (2, .ref aO)] := hl
  have hP := q_J_W hJ
  have hS : va_S (q_AL ad aO) s.heap s.heap [] := va_S.rf
  obtain ⟨m9, meth9, c9, g1, g2, g3, -, -, g4, -⟩ := Cond.codeWith_spec (hts0 _ List.mem_cons_self)
  cases B.named.symm.trans g1
  cases B.method.symm.trans g2
  cases (Stand.of_body B).code.symm.trans g3
  obtain ⟨e1, e2, hes, f1, f2⟩ := q_es2 g4
  simp only [Prod.mk.injEq] at f1
  simp only [Prod.mk.injEq] at f2
  refine lv_aload_n hx hb dw_free_0 rfl (lv_at hl 2 rfl) ?_
  refine lv_iconst (v := 0) hx hb dw_free_1 (by decide) ?_
  refine lv_aload_n hx hb dw_free_2 rfl (lv_at hl 0 rfl) ?_
  refine lv_iload_n hx hb dw_free_3 rfl (lv_at hl 1 rfl) ?_
  refine q_utry hfl (j := 74) (ro := 0) (idx := 53) (x := 1) (hpc := 19) (as := [.inl a]) (rest := [.int 0, .ref aO]) (A0 := q_AL ad aO) ⟨hx, hb, hml, hown, hts⟩ hSt.1 (by decide) (by decide) rfl hq rfl rfl (q_inAt lw_free rfl) (Nat.le_refl _) (Nat.le_refl _) (Nat.le_refl _) (Nat.le_refl _) hP hS (fun q z => Or.inl z) (fun U hU hW => ⟨q_Sta_at hSt va_S.rf hU hW, q_Thr_at hThr hP va_S.rf hU hW⟩) hl.1 rfl (Nat.le_of_ble_eq_true rfl) dw_free_4 hes ?_ (fun ex H1 locs1 hP1 hz hk hS1 => ?_)
  · intro U g ex ce z1 z2 z3 z4 z5 z6 hpl
    have key := q_fg_hit (e := e) (U := U) (f := g) (a := ex) (x := e1) (t := [e2]) (own := "CashRecyclerLaw") (X := q_exN 1) (args := _) hpl z4 (by rw [z5]; exact hown) (by simp [covers, f1, z6]) (by rw [f1.2.2.2]; decide) (by rw [f1.2.2.2]; exact hts _ (q_inAt cl_15 rfl)) z1 z2 z3 (hThr.1.1 _ (by decide +kernel))
    rw [f1.2.2.1] at key
    exact key
  · have hJ1 : va_P D qCl (q_J ad cI cZ cQ aO cL h' o) H1 := q_J_mk hP1 (by rw [hk aO (Array.getElem?_eq_some_iff.mp (q_J_O hJ)).1 hO]; exact q_J_O hJ)
    refine lv_astore_n hx hb dw_free_19 rfl hl (by decide) rfl (fun ls9 hl9 => ?_)
    refine lv_iconst (v := 1) hx hb dw_free_20 (by decide) ?_
    exact W.iret hx hb hr (fun t ht _ => ⟨⟨1, (), rfl, rfl, by show va_P _ _ _ t.heap; rw [ht]; exact hJ1⟩, hS1.F ht⟩) hS1.2.2 dw_free_21
set_option maxHeartbeats 4000000 in
theorem w_free_t0 {l : Launch} {D : va_G} {ad : Nat → Nat} {cI cZ cQ : ClassId} {aO : Nat} {cL : ClassId} {h h' : HP} {o : Int64} {a : Int32} (hfl : ∀ e : Env, l.admits e → e.platform.stackTraces = false) (hq : Ec 74 [.inr 0, .inl a] h (.inr 0, h')) : q_MetL l D ad cI cZ cQ aO cL yw_free ws_free rw_free [.ref (ad 0), .int a, .ref aO] h o 2 h' o := by
  refine va_MetW (cc := method_14_code) (maxL := 4) (ret := some .int) q_pl rfl ?_
  intro p e s m args below meth c s₁ B hml hv
  obtain ⟨rfl, hJ, hSt, hThr, hKL, hNc, hO⟩ := hv
  have hx := B.exec
  have hb := B.bytes
  have hr := B.returns
  have hts0 := atoms_spec (ws := ws_free) B.pre
  have hts : ∀ w ∈ q_WS, w.before _ s = true := fun w hw => hts0 w (List.mem_cons_of_mem _ hw)
  have hown : s.vm.findClass "CashRecyclerLaw" = some m.cls := findClass_of_methodNamed B.named
  have hlk := B.notSynchronized
  have hl := lv_entry ([.ref (ad 0), .int a, .ref aO]) (n := 4) (Nat.le_of_ble_eq_true rfl)
  rw [lg_entry_eq]
  generalize (lg_sl ([.ref (ad 0), .int a, .ref aO]) ++ List.replicate (4 - (lg_sl ([.ref (ad 0), .int a, .ref aO])).length) Slot.unset).toArray = ls at hl ⊢
  have hl : lv_has ls 4 [(0, .ref (ad 0)), (1, .int a), (2, .ref aO)] := hl
  have hP := q_J_W hJ
  have hS : va_S (q_AL ad aO) s.heap s.heap [] := va_S.rf
  obtain ⟨m9, meth9, c9, g1, g2, g3, -, -, g4, -⟩ := Cond.codeWith_spec (hts0 _ List.mem_cons_self)
  cases B.named.symm.trans g1
  cases B.method.symm.trans g2
  cases (Stand.of_body B).code.symm.trans g3
  obtain ⟨e1, e2, hes, f1, f2⟩ := q_es2 g4
  simp only [Prod.mk.injEq] at f1
  simp only [Prod.mk.injEq] at f2
  refine lv_aload_n hx hb dw_free_0 rfl (lv_at hl 2 rfl) ?_
  refine lv_iconst (v := 0) hx hb dw_free_1 (by decide) ?_
  refine lv_aload_n hx hb dw_free_2 rfl (lv_at hl 0 rfl) ?_
  refine lv_iload_n hx hb dw_free_3 rfl (lv_at hl 1 rfl) ?_
  refine q_utry hfl (j := 74) (ro := 0) (idx := 53) (x := 0) (hpc := 22) (as := [.inl a]) (rest := [.int 0, .ref aO]) (A0 := q_AL ad aO) ⟨hx, hb, hml, hown, hts⟩ hSt.1 (by decide) (by decide) rfl hq rfl rfl (q_inAt lw_free rfl) (Nat.le_refl _) (Nat.le_refl _) (Nat.le_refl _) (Nat.le_refl _) hP hS (fun q z => Or.inl z) (fun U hU hW => ⟨q_Sta_at hSt va_S.rf hU hW, q_Thr_at hThr hP va_S.rf hU hW⟩) hl.1 rfl (Nat.le_of_ble_eq_true rfl) dw_free_4 hes ?_ (fun ex H1 locs1 hP1 hz hk hS1 => ?_)
  · intro U g ex ce z1 z2 z3 z4 z5 z6 hpl
    refine q_fg_pass (x := e1) (own := "CashRecyclerLaw") (X := q_exN 0) (Y := "java/lang/IllegalStateException") hpl z4 (by rw [z5]; exact hown) (by simp [covers, f1, z6]) (by rw [f1.2.2.2]; decide) (by rw [f1.2.2.2]; exact hts _ (q_inAt cl_15 rfl)) (by first | exact z1 | exact z1) z2 z3 (hNc _ (by decide +kernel) _ (by decide +kernel) (by decide +kernel)) (fun vm1 z4 => ?_)
    have key := q_fg_hit (e := e) (U := (U.setVm vm1)) (f := g) (a := ex) (x := e2) (t := []) (own := "CashRecyclerLaw") (X := q_exN 0) (args := _) hpl z4 (by rw [z5]; exact hown) (by simp [covers, f2, z6]) (by rw [f2.2.2.2]; decide) (by rw [f2.2.2.2]; exact hts _ (q_inAt cl_13 rfl)) z1 z2 z3 (hThr.1.1 _ (by decide +kernel))
    rw [f2.2.2.1] at key
    exact key
  · have hJ1 : va_P D qCl (q_J ad cI cZ cQ aO cL h' o) H1 := q_J_mk hP1 (by rw [hk aO (Array.getElem?_eq_some_iff.mp (q_J_O hJ)).1 hO]; exact q_J_O hJ)
    refine lv_astore_n hx hb dw_free_22 rfl hl (by decide) rfl (fun ls9 hl9 => ?_)
    refine lv_iconst (v := 2) hx hb dw_free_23 (by decide) ?_
    exact W.iret hx hb hr (fun t ht _ => ⟨⟨2, (), rfl, rfl, by show va_P _ _ _ t.heap; rw [ht]; exact hJ1⟩, hS1.F ht⟩) hS1.2.2 dw_free_24
theorem dw_close_0 : decode method_15_code 0 = .ok (.aload_n 1, 1) := by decide +kernel
theorem dw_close_1 : decode method_15_code 1 = .ok (.iconst 0, 1) := by decide +kernel
theorem dw_close_2 : decode method_15_code 2 = .ok (.aload_n 0, 1) := by decide +kernel
theorem dw_close_3 : decode method_15_code 3 = .ok (.invokevirtual 57, 3) := by decide +kernel
theorem dw_close_6 : decode method_15_code 6 = .ok (.i2l, 1) := by decide +kernel
theorem dw_close_7 : decode method_15_code 7 = .ok (.lastore, 1) := by decide +kernel
theorem dw_close_8 : decode method_15_code 8 = .ok (.goto 6, 3) := by decide +kernel
theorem dw_close_11 : decode method_15_code 11 = .ok (.astore_n 2, 1) := by decide +kernel
theorem dw_close_12 : decode method_15_code 12 = .ok (.iconst 1, 1) := by decide +kernel
theorem dw_close_13 : decode method_15_code 13 = .ok (.ireturn, 1) := by decide +kernel
theorem dw_close_14 : decode method_15_code 14 = .ok (.iconst 0, 1) := by decide +kernel
theorem dw_close_15 : decode method_15_code 15 = .ok (.ireturn, 1) := by decide +kernel
theorem lw_close : lw_tbl[675]? = some (.methodLink "CashRecyclerLaw" 57 (qmY 78)) := by decide +kernel
abbrev yw_close : MethodName := ⟨"CashRecyclerLaw", "close", "(LCashRecycler;[J)I"⟩
def ws_close : List Cond := .codeWith yw_close method_15_code 3 (some .int) [(0, 8, 11, 15)] :: q_WS
def rw_close : Room := { frames := qmF 78 + 1, cells := 1, slots := 6, locals := 8 + (qmL 78 + 11) + qmW 78 }
set_option maxHeartbeats 4000000 in
theorem w_close_r {l : Launch} {D : va_G} {ad : Nat → Nat} {cI cZ cQ : ClassId} {aO : Nat} {cL : ClassId} {h h' : HP} {o : Int64} {v : Int32} (hq : Ec 78 [.inr 0] h (.inl (some v), h')) : q_MetL l D ad cI cZ cQ aO cL yw_close ws_close rw_close [.ref (ad 0), .ref aO] h o 0 h' v.toInt64 := by
  refine va_MetW (cc := method_15_code) (maxL := 3) (ret := some .int) q_pl rfl ?_
  intro p e s m args below meth c s₁ B hml hv
  obtain ⟨rfl, hJ, hSt, hThr, hKL, hNc, hO⟩ := hv
  have hx := B.exec
  have hb := B.bytes
  have hr := B.returns
  have hts0 := atoms_spec (ws := ws_close) B.pre
  have hts : ∀ w ∈ q_WS, w.before _ s = true := fun w hw => hts0 w (List.mem_cons_of_mem _ hw)
  have hown : s.vm.findClass "CashRecyclerLaw" = some m.cls := findClass_of_methodNamed B.named
  have hlk := B.notSynchronized
  have hl := lv_entry ([.ref (ad 0), .ref aO]) (n := 3) (Nat.le_of_ble_eq_true rfl)
  rw [lg_entry_eq]
  generalize (lg_sl ([.ref (ad 0), .ref aO]) ++ List.replicate (3 - (lg_sl ([.ref (ad 0), .ref aO])).length) Slot.unset).toArray = ls at hl ⊢
  have hl : lv_has ls 3 [(0, .ref (ad 0)), (1, .ref aO)] := hl
  have hP := q_J_W hJ
  have hS : va_S (q_AL ad aO) s.heap s.heap [] := va_S.rf
  refine lv_aload_n hx hb dw_close_0 rfl (lv_at hl 1 rfl) ?_
  refine lv_iconst (v := 0) hx hb dw_close_1 (by decide) ?_
  refine lv_aload_n hx hb dw_close_2 rfl (lv_at hl 0 rfl) ?_
  refine q_ucall (j := 78) (ro := 0) (idx := 57) (as := []) (rest := [.int 0, .ref aO]) (A0 := q_AL ad aO) ⟨hx, hb, hml, hown, hts⟩ hSt.1 (by decide) (by decide) rfl hq rfl rfl (q_inAt lw_close rfl) (Nat.le_refl _) (Nat.le_refl _) (Nat.zero_le _) (Nat.zero_le _) hP hS (fun q z => Or.inl z) (fun U hU hW => q_Sta_at hSt va_S.rf hU hW) hl.1 rfl (Nat.le_of_ble_eq_true rfl) dw_close_3 (fun H1 locs1 hP1 hz hk hS1 => ?_)
  have hJ1 : va_P D qCl (q_J ad cI cZ cQ aO cL h' o) H1 := q_J_mk hP1 (by rw [hk aO (Array.getElem?_eq_some_iff.mp (q_J_O hJ)).1 hO]; exact q_J_O hJ)
  refine lv_i2l (v := v.toInt64) hx hb dw_close_6 rfl ?_
  refine va_last (D := D) (cl := qCl) (H0 := s.heap) (A := q_AL ad aO) hx hb hKL hJ1 (q_J_D hSt.2.2.2.2 hO (fun _ z => z)) hS1 47 0 q_J_47 rfl q_in01 dw_close_7 (fun H2 locs2 hP2 hD2 hS2 => ?_)
  have hJ2 : va_P D qCl (q_J ad cI cZ cQ aO cL h' v.toInt64) H2 := q_J_set (by rfl) hP2
  refine lv_goto hx hb dw_close_8 rfl ?_
  refine lv_iconst (v := 0) hx hb dw_close_14 (by decide) ?_
  refine W.widen (k := 1) (n := 6) (by omega) (by omega) ?_
  exact W.iret hx hb hr (fun t ht _ => ⟨⟨0, (), rfl, rfl, by show va_P _ _ _ t.heap; rw [ht]; exact hJ2⟩, hS2.F ht⟩) hS2.2.2 dw_close_15
set_option maxHeartbeats 4000000 in
theorem w_close_t1 {l : Launch} {D : va_G} {ad : Nat → Nat} {cI cZ cQ : ClassId} {aO : Nat} {cL : ClassId} {h h' : HP} {o : Int64} (hfl : ∀ e : Env, l.admits e → e.platform.stackTraces = false) (hq : Ec 78 [.inr 0] h (.inr 1, h')) : q_MetL l D ad cI cZ cQ aO cL yw_close ws_close rw_close [.ref (ad 0), .ref aO] h o 1 h' o := by
  refine va_MetW (cc := method_15_code) (maxL := 3) (ret := some .int) q_pl rfl ?_
  intro p e s m args below meth c s₁ B hml hv
  obtain ⟨rfl, hJ, hSt, hThr, hKL, hNc, hO⟩ := hv
  have hx := B.exec
  have hb := B.bytes
  have hr := B.returns
  have hts0 := atoms_spec (ws := ws_close) B.pre
  have hts : ∀ w ∈ q_WS, w.before _ s = true := fun w hw => hts0 w (List.mem_cons_of_mem _ hw)
  have hown : s.vm.findClass "CashRecyclerLaw" = some m.cls := findClass_of_methodNamed B.named
  have hlk := B.notSynchronized
  have hl := lv_entry ([.ref (ad 0), .ref aO]) (n := 3) (Nat.le_of_ble_eq_true rfl)
  rw [lg_entry_eq]
  generalize (lg_sl ([.ref (ad 0), .ref aO]) ++ List.replicate (3 - (lg_sl ([.ref (ad 0), .ref aO])).length) Slot.unset).toArray = ls at hl ⊢
  have hl : lv_has ls 3 [(0, .ref (ad 0)), (1, .ref aO)] := hl
  have hP := q_J_W hJ
  have hS : va_S (q_AL ad aO) s.heap s.heap [] := va_S.rf
  obtain ⟨m9, meth9, c9, g1, g2, g3, -, -, g4, -⟩ := Cond.codeWith_spec (hts0 _ List.mem_cons_self)
  cases B.named.symm.trans g1
  cases B.method.symm.trans g2
  cases (Stand.of_body B).code.symm.trans g3
  obtain ⟨e1, hes, f1⟩ := q_es1 g4
  simp only [Prod.mk.injEq] at f1
  refine lv_aload_n hx hb dw_close_0 rfl (lv_at hl 1 rfl) ?_
  refine lv_iconst (v := 0) hx hb dw_close_1 (by decide) ?_
  refine lv_aload_n hx hb dw_close_2 rfl (lv_at hl 0 rfl) ?_
  refine q_utry hfl (j := 78) (ro := 0) (idx := 57) (x := 1) (hpc := 11) (as := []) (rest := [.int 0, .ref aO]) (A0 := q_AL ad aO) ⟨hx, hb, hml, hown, hts⟩ hSt.1 (by decide) (by decide) rfl hq rfl rfl (q_inAt lw_close rfl) (Nat.le_refl _) (Nat.le_refl _) (Nat.le_refl _) (Nat.le_refl _) hP hS (fun q z => Or.inl z) (fun U hU hW => ⟨q_Sta_at hSt va_S.rf hU hW, q_Thr_at hThr hP va_S.rf hU hW⟩) hl.1 rfl (Nat.le_of_ble_eq_true rfl) dw_close_3 hes ?_ (fun ex H1 locs1 hP1 hz hk hS1 => ?_)
  · intro U g ex ce z1 z2 z3 z4 z5 z6 hpl
    have key := q_fg_hit (e := e) (U := U) (f := g) (a := ex) (x := e1) (t := []) (own := "CashRecyclerLaw") (X := q_exN 1) (args := _) hpl z4 (by rw [z5]; exact hown) (by simp [covers, f1, z6]) (by rw [f1.2.2.2]; decide) (by rw [f1.2.2.2]; exact hts _ (q_inAt cl_15 rfl)) z1 z2 z3 (hThr.1.1 _ (by decide +kernel))
    rw [f1.2.2.1] at key
    exact key
  · have hJ1 : va_P D qCl (q_J ad cI cZ cQ aO cL h' o) H1 := q_J_mk hP1 (by rw [hk aO (Array.getElem?_eq_some_iff.mp (q_J_O hJ)).1 hO]; exact q_J_O hJ)
    refine lv_astore_n hx hb dw_close_11 rfl hl (by decide) rfl (fun ls9 hl9 => ?_)
    refine lv_iconst (v := 1) hx hb dw_close_12 (by decide) ?_
    exact W.iret hx hb hr (fun t ht _ => ⟨⟨1, (), rfl, rfl, by show va_P _ _ _ t.heap; rw [ht]; exact hJ1⟩, hS1.F ht⟩) hS1.2.2 dw_close_13
theorem dw_service_0 : decode method_16_code 0 = .ok (.aload_n 1, 1) := by decide +kernel
theorem dw_service_1 : decode method_16_code 1 = .ok (.iconst 0, 1) := by decide +kernel
theorem dw_service_2 : decode method_16_code 2 = .ok (.aload_n 0, 1) := by decide +kernel
theorem dw_service_3 : decode method_16_code 3 = .ok (.invokevirtual 61, 3) := by decide +kernel
theorem dw_service_6 : decode method_16_code 6 = .ok (.ifCond .eq 7, 3) := by decide +kernel
theorem dw_service_9 : decode method_16_code 9 = .ok (.lconst 1, 1) := by decide +kernel
theorem dw_service_10 : decode method_16_code 10 = .ok (.goto 4, 3) := by decide +kernel
theorem dw_service_13 : decode method_16_code 13 = .ok (.lconst 0, 1) := by decide +kernel
theorem dw_service_14 : decode method_16_code 14 = .ok (.lastore, 1) := by decide +kernel
theorem dw_service_15 : decode method_16_code 15 = .ok (.goto 6, 3) := by decide +kernel
theorem dw_service_18 : decode method_16_code 18 = .ok (.astore_n 2, 1) := by decide +kernel
theorem dw_service_19 : decode method_16_code 19 = .ok (.iconst 1, 1) := by decide +kernel
theorem dw_service_20 : decode method_16_code 20 = .ok (.ireturn, 1) := by decide +kernel
theorem dw_service_21 : decode method_16_code 21 = .ok (.iconst 0, 1) := by decide +kernel
theorem dw_service_22 : decode method_16_code 22 = .ok (.ireturn, 1) := by decide +kernel
theorem lw_service : lw_tbl[682]? = some (.methodLink "CashRecyclerLaw" 61 (qmY 81)) := by decide +kernel
abbrev yw_service : MethodName := ⟨"CashRecyclerLaw", "service", "(LCashRecycler;[J)I"⟩
def ws_service : List Cond := .codeWith yw_service method_16_code 3 (some .int) [(0, 15, 18, 15)] :: q_WS
def rw_service : Room := { frames := qmF 81 + 1, cells := 1, slots := 6, locals := 8 + (qmL 81 + 11) + qmW 81 }
set_option maxHeartbeats 4000000 in
theorem w_service_r {l : Launch} {D : va_G} {ad : Nat → Nat} {cI cZ cQ : ClassId} {aO : Nat} {cL : ClassId} {h h' : HP} {o : Int64} {v : Int32} (hq : Ec 81 [.inr 0] h (.inl (some v), h')) : q_MetL l D ad cI cZ cQ aO cL yw_service ws_service rw_service [.ref (ad 0), .ref aO] h o 0 h' (if v = 0 then 0 else 1) := by
  refine va_MetW (cc := method_16_code) (maxL := 3) (ret := some .int) q_pl rfl ?_
  intro p e s m args below meth c s₁ B hml hv
  obtain ⟨rfl, hJ, hSt, hThr, hKL, hNc, hO⟩ := hv
  have hx := B.exec
  have hb := B.bytes
  have hr := B.returns
  have hts0 := atoms_spec (ws := ws_service) B.pre
  have hts : ∀ w ∈ q_WS, w.before _ s = true := fun w hw => hts0 w (List.mem_cons_of_mem _ hw)
  have hown : s.vm.findClass "CashRecyclerLaw" = some m.cls := findClass_of_methodNamed B.named
  have hlk := B.notSynchronized
  have hl := lv_entry ([.ref (ad 0), .ref aO]) (n := 3) (Nat.le_of_ble_eq_true rfl)
  rw [lg_entry_eq]
  generalize (lg_sl ([.ref (ad 0), .ref aO]) ++ List.replicate (3 - (lg_sl ([.ref (ad 0), .ref aO])).length) Slot.unset).toArray = ls at hl ⊢
  have hl : lv_has ls 3 [(0, .ref (ad 0)), (1, .ref aO)] := hl
  have hP := q_J_W hJ
  have hS : va_S (q_AL ad aO) s.heap s.heap [] := va_S.rf
  refine lv_aload_n hx hb dw_service_0 rfl (lv_at hl 1 rfl) ?_
  refine lv_iconst (v := 0) hx hb dw_service_1 (by decide) ?_
  refine lv_aload_n hx hb dw_service_2 rfl (lv_at hl 0 rfl) ?_
  refine q_ucall (j := 81) (ro := 0) (idx := 61) (as := []) (rest := [.int 0, .ref aO]) (A0 := q_AL ad aO) ⟨hx, hb, hml, hown, hts⟩ hSt.1 (by decide) (by decide) rfl hq rfl rfl (q_inAt lw_service rfl) (Nat.le_refl _) (Nat.le_refl _) (Nat.zero_le _) (Nat.zero_le _) hP hS (fun q z => Or.inl z) (fun U hU hW => q_Sta_at hSt va_S.rf hU hW) hl.1 rfl (Nat.le_of_ble_eq_true rfl) dw_service_3 (fun H1 locs1 hP1 hz hk hS1 => ?_)
  have hJ1 : va_P D qCl (q_J ad cI cZ cQ aO cL h' o) H1 := q_J_mk hP1 (by rw [hk aO (Array.getElem?_eq_some_iff.mp (q_J_O hJ)).1 hO]; exact q_J_O hJ)
  refine lv_if_eq hx hb dw_service_6 rfl (fun hc => ?_) (fun hc => ?_)
  · rw [if_pos hc]
    refine lv_lconst (v := 0) hx hb dw_service_13 (by decide) ?_
    refine va_last (D := D) (cl := qCl) (H0 := s.heap) (A := q_AL ad aO) hx hb hKL hJ1 (q_J_D hSt.2.2.2.2 hO (fun _ z => z)) hS1 47 0 q_J_47 rfl q_in01 dw_service_14 (fun H2 locs2 hP2 hD2 hS2 => ?_)
    have hJ2 : va_P D qCl (q_J ad cI cZ cQ aO cL h' 0) H2 := q_J_set (by rfl) hP2
    refine lv_goto hx hb dw_service_15 rfl ?_
    refine lv_iconst (v := 0) hx hb dw_service_21 (by decide) ?_
    refine W.widen (k := 1) (n := 6) (by omega) (by omega) ?_
    exact W.iret hx hb hr (fun t ht _ => ⟨⟨0, (), rfl, rfl, by show va_P _ _ _ t.heap; rw [ht]; exact hJ2⟩, hS2.F ht⟩) hS2.2.2 dw_service_22
  · rw [if_neg hc]
    refine lv_lconst (v := 1) hx hb dw_service_9 (by decide) ?_
    refine lv_goto hx hb dw_service_10 rfl ?_
    refine va_last (D := D) (cl := qCl) (H0 := s.heap) (A := q_AL ad aO) hx hb hKL hJ1 (q_J_D hSt.2.2.2.2 hO (fun _ z => z)) hS1 47 0 q_J_47 rfl q_in01 dw_service_14 (fun H2 locs2 hP2 hD2 hS2 => ?_)
    have hJ2 : va_P D qCl (q_J ad cI cZ cQ aO cL h' 1) H2 := q_J_set (by rfl) hP2
    refine lv_goto hx hb dw_service_15 rfl ?_
    refine lv_iconst (v := 0) hx hb dw_service_21 (by decide) ?_
    refine W.widen (k := 1) (n := 6) (by omega) (by omega) ?_
    exact W.iret hx hb hr (fun t ht _ => ⟨⟨0, (), rfl, rfl, by show va_P _ _ _ t.heap; rw [ht]; exact hJ2⟩, hS2.F ht⟩) hS2.2.2 dw_service_22
set_option maxHeartbeats 4000000 in
theorem w_service_t1 {l : Launch} {D : va_G} {ad : Nat → Nat} {cI cZ cQ : ClassId} {aO : Nat} {cL : ClassId} {h h' : HP} {o : Int64} (hfl : ∀ e : Env, l.admits e → e.platform.stackTraces = false) (hq : Ec 81 [.inr 0] h (.inr 1, h')) : q_MetL l D ad cI cZ cQ aO cL yw_service ws_service rw_service [.ref (ad 0), .ref aO] h o 1 h' o := by
  refine va_MetW (cc := method_16_code) (maxL := 3) (ret := some .int) q_pl rfl ?_
  intro p e s m args below meth c s₁ B hml hv
  obtain ⟨rfl, hJ, hSt, hThr, hKL, hNc, hO⟩ := hv
  have hx := B.exec
  have hb := B.bytes
  have hr := B.returns
  have hts0 := atoms_spec (ws := ws_service) B.pre
  have hts : ∀ w ∈ q_WS, w.before _ s = true := fun w hw => hts0 w (List.mem_cons_of_mem _ hw)
  have hown : s.vm.findClass "CashRecyclerLaw" = some m.cls := findClass_of_methodNamed B.named
  have hlk := B.notSynchronized
  have hl := lv_entry ([.ref (ad 0), .ref aO]) (n := 3) (Nat.le_of_ble_eq_true rfl)
  rw [lg_entry_eq]
  generalize (lg_sl ([.ref (ad 0), .ref aO]) ++ List.replicate (3 - (lg_sl ([.ref (ad 0), .ref aO])).length) Slot.unset).toArray = ls at hl ⊢
  have hl : lv_has ls 3 [(0, .ref (ad 0)), (1, .ref aO)] := hl
  have hP := q_J_W hJ
  have hS : va_S (q_AL ad aO) s.heap s.heap [] := va_S.rf
  obtain ⟨m9, meth9, c9, g1, g2, g3, -, -, g4, -⟩ := Cond.codeWith_spec (hts0 _ List.mem_cons_self)
  cases B.named.symm.trans g1
  cases B.method.symm.trans g2
  cases (Stand.of_body B).code.symm.trans g3
  obtain ⟨e1, hes, f1⟩ := q_es1 g4
  simp only [Prod.mk.injEq] at f1
  refine lv_aload_n hx hb dw_service_0 rfl (lv_at hl 1 rfl) ?_
  refine lv_iconst (v := 0) hx hb dw_service_1 (by decide) ?_
  refine lv_aload_n hx hb dw_service_2 rfl (lv_at hl 0 rfl) ?_
  refine q_utry hfl (j := 81) (ro := 0) (idx := 61) (x := 1) (hpc := 18) (as := []) (rest := [.int 0, .ref aO]) (A0 := q_AL ad aO) ⟨hx, hb, hml, hown, hts⟩ hSt.1 (by decide) (by decide) rfl hq rfl rfl (q_inAt lw_service rfl) (Nat.le_refl _) (Nat.le_refl _) (Nat.le_refl _) (Nat.le_refl _) hP hS (fun q z => Or.inl z) (fun U hU hW => ⟨q_Sta_at hSt va_S.rf hU hW, q_Thr_at hThr hP va_S.rf hU hW⟩) hl.1 rfl (Nat.le_of_ble_eq_true rfl) dw_service_3 hes ?_ (fun ex H1 locs1 hP1 hz hk hS1 => ?_)
  · intro U g ex ce z1 z2 z3 z4 z5 z6 hpl
    have key := q_fg_hit (e := e) (U := U) (f := g) (a := ex) (x := e1) (t := []) (own := "CashRecyclerLaw") (X := q_exN 1) (args := _) hpl z4 (by rw [z5]; exact hown) (by simp [covers, f1, z6]) (by rw [f1.2.2.2]; decide) (by rw [f1.2.2.2]; exact hts _ (q_inAt cl_15 rfl)) z1 z2 z3 (hThr.1.1 _ (by decide +kernel))
    rw [f1.2.2.1] at key
    exact key
  · have hJ1 : va_P D qCl (q_J ad cI cZ cQ aO cL h' o) H1 := q_J_mk hP1 (by rw [hk aO (Array.getElem?_eq_some_iff.mp (q_J_O hJ)).1 hO]; exact q_J_O hJ)
    refine lv_astore_n hx hb dw_service_18 rfl hl (by decide) rfl (fun ls9 hl9 => ?_)
    refine lv_iconst (v := 1) hx hb dw_service_19 (by decide) ?_
    exact W.iret hx hb hr (fun t ht _ => ⟨⟨1, (), rfl, rfl, by show va_P _ _ _ t.heap; rw [ht]; exact hJ1⟩, hS1.F ht⟩) hS1.2.2 dw_service_20
theorem dw_kind_0 : decode method_17_code 0 = .ok (.aload_n 0, 1) := by decide +kernel
theorem dw_kind_1 : decode method_17_code 1 = .ok (.iload_n 1, 1) := by decide +kernel
theorem dw_kind_2 : decode method_17_code 2 = .ok (.iload_n 2, 1) := by decide +kernel
theorem dw_kind_3 : decode method_17_code 3 = .ok (.invokevirtual 65, 3) := by decide +kernel
theorem dw_kind_6 : decode method_17_code 6 = .ok (.goto 12, 3) := by decide +kernel
theorem dw_kind_9 : decode method_17_code 9 = .ok (.astore_n 3, 1) := by decide +kernel
theorem dw_kind_10 : decode method_17_code 10 = .ok (.iconst 1, 1) := by decide +kernel
theorem dw_kind_11 : decode method_17_code 11 = .ok (.ireturn, 1) := by decide +kernel
theorem dw_kind_12 : decode method_17_code 12 = .ok (.astore_n 3, 1) := by decide +kernel
theorem dw_kind_13 : decode method_17_code 13 = .ok (.iconst 2, 1) := by decide +kernel
theorem dw_kind_14 : decode method_17_code 14 = .ok (.ireturn, 1) := by decide +kernel
theorem dw_kind_15 : decode method_17_code 15 = .ok (.astore_n 3, 1) := by decide +kernel
theorem dw_kind_16 : decode method_17_code 16 = .ok (.iconst 3, 1) := by decide +kernel
theorem dw_kind_17 : decode method_17_code 17 = .ok (.ireturn, 1) := by decide +kernel
theorem dw_kind_18 : decode method_17_code 18 = .ok (.iconst 0, 1) := by decide +kernel
theorem dw_kind_19 : decode method_17_code 19 = .ok (.ireturn, 1) := by decide +kernel
theorem lw_kind : lw_tbl[689]? = some (.methodLink "CashRecyclerLaw" 65 (qmY 82)) := by decide +kernel
abbrev yw_kind : MethodName := ⟨"CashRecyclerLaw", "kind", "(LCashRecycler;II)I"⟩
def ws_kind : List Cond := .codeWith yw_kind method_17_code 4 (some .int) [(0, 6, 9, 15), (0, 6, 12, 13), (0, 6, 15, 32)] :: q_WS
def rw_kind : Room := { frames := qmF 82 + 1, cells := 1, slots := 6, locals := 8 + (qmL 82 + 11) + qmW 82 }
set_option maxHeartbeats 4000000 in
theorem w_kind_r {l : Launch} {D : va_G} {ad : Nat → Nat} {cI cZ cQ : ClassId} {aO : Nat} {cL : ClassId} {h h' : HP} {o : Int64} {a b : Int32} (hq : Ec 82 [.inr 0, .inl a, .inl b] h (.inl none, h')) : q_MetL l D ad cI cZ cQ aO cL yw_kind ws_kind rw_kind [.ref (ad 0), .int a, .int b] h o 0 h' o := by
  refine va_MetW (cc := method_17_code) (maxL := 4) (ret := some .int) q_pl rfl ?_
  intro p e s m args below meth c s₁ B hml hv
  obtain ⟨rfl, hJ, hSt, hThr, hKL, hNc, hO⟩ := hv
  have hx := B.exec
  have hb := B.bytes
  have hr := B.returns
  have hts0 := atoms_spec (ws := ws_kind) B.pre
  have hts : ∀ w ∈ q_WS, w.before _ s = true := fun w hw => hts0 w (List.mem_cons_of_mem _ hw)
  have hown : s.vm.findClass "CashRecyclerLaw" = some m.cls := findClass_of_methodNamed B.named
  have hlk := B.notSynchronized
  have hl := lv_entry ([.ref (ad 0), .int a, .int b]) (n := 4) (Nat.le_of_ble_eq_true rfl)
  rw [lg_entry_eq]
  generalize (lg_sl ([.ref (ad 0), .int a, .int b]) ++ List.replicate (4 - (lg_sl ([.ref (ad 0), .int a, .int b])).length) Slot.unset).toArray = ls at hl ⊢
  have hl : lv_has ls 4 [(0, .ref (ad 0)), (1, .int a), (2, .int b)] := hl
  have hP := q_J_W hJ
  have hS : va_S (q_AL ad aO) s.heap s.heap [] := va_S.rf
  refine lv_aload_n hx hb dw_kind_0 rfl (lv_at hl 0 rfl) ?_
  refine lv_iload_n hx hb dw_kind_1 rfl (lv_at hl 1 rfl) ?_
  refine lv_iload_n hx hb dw_kind_2 rfl (lv_at hl 2 rfl) ?_
  refine q_ucall (j := 82) (ro := 0) (idx := 65) (as := [.inl a, .inl b]) (rest := []) (A0 := q_AL ad aO) ⟨hx, hb, hml, hown, hts⟩ hSt.1 (by decide) (by decide) rfl hq rfl rfl (q_inAt lw_kind rfl) (Nat.le_refl _) (Nat.le_refl _) (Nat.zero_le _) (Nat.zero_le _) hP hS (fun q z => Or.inl z) (fun U hU hW => q_Sta_at hSt va_S.rf hU hW) hl.1 rfl (Nat.le_of_ble_eq_true rfl) dw_kind_3 (fun H1 locs1 hP1 hz hk hS1 => ?_)
  have hJ1 : va_P D qCl (q_J ad cI cZ cQ aO cL h' o) H1 := q_J_mk hP1 (by rw [hk aO (Array.getElem?_eq_some_iff.mp (q_J_O hJ)).1 hO]; exact q_J_O hJ)
  refine lv_goto hx hb dw_kind_6 rfl ?_
  refine lv_iconst (v := 0) hx hb dw_kind_18 (by decide) ?_
  refine W.widen (k := 1) (n := 6) (by omega) (by omega) ?_
  exact W.iret hx hb hr (fun t ht _ => ⟨⟨0, (), rfl, rfl, by show va_P _ _ _ t.heap; rw [ht]; exact hJ1⟩, hS1.F ht⟩) hS1.2.2 dw_kind_19
set_option maxHeartbeats 4000000 in
theorem w_kind_t1 {l : Launch} {D : va_G} {ad : Nat → Nat} {cI cZ cQ : ClassId} {aO : Nat} {cL : ClassId} {h h' : HP} {o : Int64} {a b : Int32} (hfl : ∀ e : Env, l.admits e → e.platform.stackTraces = false) (hq : Ec 82 [.inr 0, .inl a, .inl b] h (.inr 1, h')) : q_MetL l D ad cI cZ cQ aO cL yw_kind ws_kind rw_kind [.ref (ad 0), .int a, .int b] h o 1 h' o := by
  refine va_MetW (cc := method_17_code) (maxL := 4) (ret := some .int) q_pl rfl ?_
  intro p e s m args below meth c s₁ B hml hv
  obtain ⟨rfl, hJ, hSt, hThr, hKL, hNc, hO⟩ := hv
  have hx := B.exec
  have hb := B.bytes
  have hr := B.returns
  have hts0 := atoms_spec (ws := ws_kind) B.pre
  have hts : ∀ w ∈ q_WS, w.before _ s = true := fun w hw => hts0 w (List.mem_cons_of_mem _ hw)
  have hown : s.vm.findClass "CashRecyclerLaw" = some m.cls := findClass_of_methodNamed B.named
  have hlk := B.notSynchronized
  have hl := lv_entry ([.ref (ad 0), .int a, .int b]) (n := 4) (Nat.le_of_ble_eq_true rfl)
  rw [lg_entry_eq]
  generalize (lg_sl ([.ref (ad 0), .int a, .int b]) ++ List.replicate (4 - (lg_sl ([.ref (ad 0), .int a, .int b])).length) Slot.unset).toArray = ls at hl ⊢
  have hl : lv_has ls 4 [(0, .ref (ad 0)), (1, .int a), (2, .int b)] := hl
  have hP := q_J_W hJ
  have hS : va_S (q_AL ad aO) s.heap s.heap [] := va_S.rf
  obtain ⟨m9, meth9, c9, g1, g2, g3, -, -, g4, -⟩ := Cond.codeWith_spec (hts0 _ List.mem_cons_self)
  cases B.named.symm.trans g1
  cases B.method.symm.trans g2
  cases (Stand.of_body B).code.symm.trans g3
  obtain ⟨e1, e2, e3, hes, f1, f2, f3⟩ := q_es3 g4
  simp only [Prod.mk.injEq] at f1
  simp only [Prod.mk.injEq] at f2
  simp only [Prod.mk.injEq] at f3
  refine lv_aload_n hx hb dw_kind_0 rfl (lv_at hl 0 rfl) ?_
  refine lv_iload_n hx hb dw_kind_1 rfl (lv_at hl 1 rfl) ?_
  refine lv_iload_n hx hb dw_kind_2 rfl (lv_at hl 2 rfl) ?_
  refine q_utry hfl (j := 82) (ro := 0) (idx := 65) (x := 1) (hpc := 9) (as := [.inl a, .inl b]) (rest := []) (A0 := q_AL ad aO) ⟨hx, hb, hml, hown, hts⟩ hSt.1 (by decide) (by decide) rfl hq rfl rfl (q_inAt lw_kind rfl) (Nat.le_refl _) (Nat.le_refl _) (Nat.le_refl _) (Nat.le_refl _) hP hS (fun q z => Or.inl z) (fun U hU hW => ⟨q_Sta_at hSt va_S.rf hU hW, q_Thr_at hThr hP va_S.rf hU hW⟩) hl.1 rfl (Nat.le_of_ble_eq_true rfl) dw_kind_3 hes ?_ (fun ex H1 locs1 hP1 hz hk hS1 => ?_)
  · intro U g ex ce z1 z2 z3 z4 z5 z6 hpl
    have key := q_fg_hit (e := e) (U := U) (f := g) (a := ex) (x := e1) (t := [e2, e3]) (own := "CashRecyclerLaw") (X := q_exN 1) (args := _) hpl z4 (by rw [z5]; exact hown) (by simp [covers, f1, z6]) (by rw [f1.2.2.2]; decide) (by rw [f1.2.2.2]; exact hts _ (q_inAt cl_15 rfl)) z1 z2 z3 (hThr.1.1 _ (by decide +kernel))
    rw [f1.2.2.1] at key
    exact key
  · have hJ1 : va_P D qCl (q_J ad cI cZ cQ aO cL h' o) H1 := q_J_mk hP1 (by rw [hk aO (Array.getElem?_eq_some_iff.mp (q_J_O hJ)).1 hO]; exact q_J_O hJ)
    refine lv_astore_n hx hb dw_kind_9 rfl hl (by decide) rfl (fun ls9 hl9 => ?_)
    refine lv_iconst (v := 1) hx hb dw_kind_10 (by decide) ?_
    exact W.iret hx hb hr (fun t ht _ => ⟨⟨1, (), rfl, rfl, by show va_P _ _ _ t.heap; rw [ht]; exact hJ1⟩, hS1.F ht⟩) hS1.2.2 dw_kind_11
set_option maxHeartbeats 4000000 in
theorem w_kind_t0 {l : Launch} {D : va_G} {ad : Nat → Nat} {cI cZ cQ : ClassId} {aO : Nat} {cL : ClassId} {h h' : HP} {o : Int64} {a b : Int32} (hfl : ∀ e : Env, l.admits e → e.platform.stackTraces = false) (hq : Ec 82 [.inr 0, .inl a, .inl b] h (.inr 0, h')) : q_MetL l D ad cI cZ cQ aO cL yw_kind ws_kind rw_kind [.ref (ad 0), .int a, .int b] h o 2 h' o := by
  refine va_MetW (cc := method_17_code) (maxL := 4) (ret := some .int) q_pl rfl ?_
  intro p e s m args below meth c s₁ B hml hv
  obtain ⟨rfl, hJ, hSt, hThr, hKL, hNc, hO⟩ := hv
  have hx := B.exec
  have hb := B.bytes
  have hr := B.returns
  have hts0 := atoms_spec (ws := ws_kind) B.pre
  have hts : ∀ w ∈ q_WS, w.before _ s = true := fun w hw => hts0 w (List.mem_cons_of_mem _ hw)
  have hown : s.vm.findClass "CashRecyclerLaw" = some m.cls := findClass_of_methodNamed B.named
  have hlk := B.notSynchronized
  have hl := lv_entry ([.ref (ad 0), .int a, .int b]) (n := 4) (Nat.le_of_ble_eq_true rfl)
  rw [lg_entry_eq]
  generalize (lg_sl ([.ref (ad 0), .int a, .int b]) ++ List.replicate (4 - (lg_sl ([.ref (ad 0), .int a, .int b])).length) Slot.unset).toArray = ls at hl ⊢
  have hl : lv_has ls 4 [(0, .ref (ad 0)), (1, .int a), (2, .int b)] := hl
  have hP := q_J_W hJ
  have hS : va_S (q_AL ad aO) s.heap s.heap [] := va_S.rf
  obtain ⟨m9, meth9, c9, g1, g2, g3, -, -, g4, -⟩ := Cond.codeWith_spec (hts0 _ List.mem_cons_self)
  cases B.named.symm.trans g1
  cases B.method.symm.trans g2
  cases (Stand.of_body B).code.symm.trans g3
  obtain ⟨e1, e2, e3, hes, f1, f2, f3⟩ := q_es3 g4
  simp only [Prod.mk.injEq] at f1
  simp only [Prod.mk.injEq] at f2
  simp only [Prod.mk.injEq] at f3
  refine lv_aload_n hx hb dw_kind_0 rfl (lv_at hl 0 rfl) ?_
  refine lv_iload_n hx hb dw_kind_1 rfl (lv_at hl 1 rfl) ?_
  refine lv_iload_n hx hb dw_kind_2 rfl (lv_at hl 2 rfl) ?_
  refine q_utry hfl (j := 82) (ro := 0) (idx := 65) (x := 0) (hpc := 12) (as := [.inl a, .inl b]) (rest := []) (A0 := q_AL ad aO) ⟨hx, hb, hml, hown, hts⟩ hSt.1 (by decide) (by decide) rfl hq rfl rfl (q_inAt lw_kind rfl) (Nat.le_refl _) (Nat.le_refl _) (Nat.le_refl _) (Nat.le_refl _) hP hS (fun q z => Or.inl z) (fun U hU hW => ⟨q_Sta_at hSt va_S.rf hU hW, q_Thr_at hThr hP va_S.rf hU hW⟩) hl.1 rfl (Nat.le_of_ble_eq_true rfl) dw_kind_3 hes ?_ (fun ex H1 locs1 hP1 hz hk hS1 => ?_)
  · intro U g ex ce z1 z2 z3 z4 z5 z6 hpl
    refine q_fg_pass (x := e1) (own := "CashRecyclerLaw") (X := q_exN 0) (Y := "java/lang/IllegalStateException") hpl z4 (by rw [z5]; exact hown) (by simp [covers, f1, z6]) (by rw [f1.2.2.2]; decide) (by rw [f1.2.2.2]; exact hts _ (q_inAt cl_15 rfl)) (by first | exact z1 | exact z1) z2 z3 (hNc _ (by decide +kernel) _ (by decide +kernel) (by decide +kernel)) (fun vm1 z4 => ?_)
    have key := q_fg_hit (e := e) (U := (U.setVm vm1)) (f := g) (a := ex) (x := e2) (t := [e3]) (own := "CashRecyclerLaw") (X := q_exN 0) (args := _) hpl z4 (by rw [z5]; exact hown) (by simp [covers, f2, z6]) (by rw [f2.2.2.2]; decide) (by rw [f2.2.2.2]; exact hts _ (q_inAt cl_13 rfl)) z1 z2 z3 (hThr.1.1 _ (by decide +kernel))
    rw [f2.2.2.1] at key
    exact key
  · have hJ1 : va_P D qCl (q_J ad cI cZ cQ aO cL h' o) H1 := q_J_mk hP1 (by rw [hk aO (Array.getElem?_eq_some_iff.mp (q_J_O hJ)).1 hO]; exact q_J_O hJ)
    refine lv_astore_n hx hb dw_kind_12 rfl hl (by decide) rfl (fun ls9 hl9 => ?_)
    refine lv_iconst (v := 2) hx hb dw_kind_13 (by decide) ?_
    exact W.iret hx hb hr (fun t ht _ => ⟨⟨2, (), rfl, rfl, by show va_P _ _ _ t.heap; rw [ht]; exact hJ1⟩, hS1.F ht⟩) hS1.2.2 dw_kind_14
set_option maxHeartbeats 4000000 in
theorem w_kind_t2 {l : Launch} {D : va_G} {ad : Nat → Nat} {cI cZ cQ : ClassId} {aO : Nat} {cL : ClassId} {h h' : HP} {o : Int64} {a b : Int32} (hfl : ∀ e : Env, l.admits e → e.platform.stackTraces = false) (hq : Ec 82 [.inr 0, .inl a, .inl b] h (.inr 2, h')) : q_MetL l D ad cI cZ cQ aO cL yw_kind ws_kind rw_kind [.ref (ad 0), .int a, .int b] h o 3 h' o := by
  refine va_MetW (cc := method_17_code) (maxL := 4) (ret := some .int) q_pl rfl ?_
  intro p e s m args below meth c s₁ B hml hv
  obtain ⟨rfl, hJ, hSt, hThr, hKL, hNc, hO⟩ := hv
  have hx := B.exec
  have hb := B.bytes
  have hr := B.returns
  have hts0 := atoms_spec (ws := ws_kind) B.pre
  have hts : ∀ w ∈ q_WS, w.before _ s = true := fun w hw => hts0 w (List.mem_cons_of_mem _ hw)
  have hown : s.vm.findClass "CashRecyclerLaw" = some m.cls := findClass_of_methodNamed B.named
  have hlk := B.notSynchronized
  have hl := lv_entry ([.ref (ad 0), .int a, .int b]) (n := 4) (Nat.le_of_ble_eq_true rfl)
  rw [lg_entry_eq]
  generalize (lg_sl ([.ref (ad 0), .int a, .int b]) ++ List.replicate (4 - (lg_sl ([.ref (ad 0), .int a, .int b])).length) Slot.unset).toArray = ls at hl ⊢
  have hl : lv_has ls 4 [(0, .ref (ad 0)), (1, .int a), (2, .int b)] := hl
  have hP := q_J_W hJ
  have hS : va_S (q_AL ad aO) s.heap s.heap [] := va_S.rf
  obtain ⟨m9, meth9, c9, g1, g2, g3, -, -, g4, -⟩ := Cond.codeWith_spec (hts0 _ List.mem_cons_self)
  cases B.named.symm.trans g1
  cases B.method.symm.trans g2
  cases (Stand.of_body B).code.symm.trans g3
  obtain ⟨e1, e2, e3, hes, f1, f2, f3⟩ := q_es3 g4
  simp only [Prod.mk.injEq] at f1
  simp only [Prod.mk.injEq] at f2
  simp only [Prod.mk.injEq] at f3
  refine lv_aload_n hx hb dw_kind_0 rfl (lv_at hl 0 rfl) ?_
  refine lv_iload_n hx hb dw_kind_1 rfl (lv_at hl 1 rfl) ?_
  refine lv_iload_n hx hb dw_kind_2 rfl (lv_at hl 2 rfl) ?_
  refine q_utry hfl (j := 82) (ro := 0) (idx := 65) (x := 2) (hpc := 15) (as := [.inl a, .inl b]) (rest := []) (A0 := q_AL ad aO) ⟨hx, hb, hml, hown, hts⟩ hSt.1 (by decide) (by decide) rfl hq rfl rfl (q_inAt lw_kind rfl) (Nat.le_refl _) (Nat.le_refl _) (Nat.le_refl _) (Nat.le_refl _) hP hS (fun q z => Or.inl z) (fun U hU hW => ⟨q_Sta_at hSt va_S.rf hU hW, q_Thr_at hThr hP va_S.rf hU hW⟩) hl.1 rfl (Nat.le_of_ble_eq_true rfl) dw_kind_3 hes ?_ (fun ex H1 locs1 hP1 hz hk hS1 => ?_)
  · intro U g ex ce z1 z2 z3 z4 z5 z6 hpl
    refine q_fg_pass (x := e1) (own := "CashRecyclerLaw") (X := q_exN 2) (Y := "java/lang/IllegalStateException") hpl z4 (by rw [z5]; exact hown) (by simp [covers, f1, z6]) (by rw [f1.2.2.2]; decide) (by rw [f1.2.2.2]; exact hts _ (q_inAt cl_15 rfl)) (by first | exact z1 | exact z1) z2 z3 (hNc _ (by decide +kernel) _ (by decide +kernel) (by decide +kernel)) (fun vm1 z4 => ?_)
    refine q_fg_pass (x := e2) (own := "CashRecyclerLaw") (X := q_exN 2) (Y := "java/lang/IllegalArgumentException") hpl z4 (by rw [z5]; exact hown) (by simp [covers, f2, z6]) (by rw [f2.2.2.2]; decide) (by rw [f2.2.2.2]; exact hts _ (q_inAt cl_13 rfl)) (by first | exact z1 | exact z1) z2 z3 (hNc _ (by decide +kernel) _ (by decide +kernel) (by decide +kernel)) (fun vm2 z4 => ?_)
    have key := q_fg_hit (e := e) (U := ((U.setVm vm1).setVm vm2)) (f := g) (a := ex) (x := e3) (t := []) (own := "CashRecyclerLaw") (X := q_exN 2) (args := _) hpl z4 (by rw [z5]; exact hown) (by simp [covers, f3, z6]) (by rw [f3.2.2.2]; decide) (by rw [f3.2.2.2]; exact hts _ (q_inAt cl_32 rfl)) z1 z2 z3 (hThr.1.1 _ (by decide +kernel))
    rw [f3.2.2.1] at key
    exact key
  · have hJ1 : va_P D qCl (q_J ad cI cZ cQ aO cL h' o) H1 := q_J_mk hP1 (by rw [hk aO (Array.getElem?_eq_some_iff.mp (q_J_O hJ)).1 hO]; exact q_J_O hJ)
    refine lv_astore_n hx hb dw_kind_15 rfl hl (by decide) rfl (fun ls9 hl9 => ?_)
    refine lv_iconst (v := 3) hx hb dw_kind_16 (by decide) ?_
    exact W.iret hx hb hr (fun t ht _ => ⟨⟨3, (), rfl, rfl, by show va_P _ _ _ t.heap; rw [ht]; exact hJ1⟩, hS1.F ht⟩) hS1.2.2 dw_kind_17
theorem dw_refill_0 : decode method_18_code 0 = .ok (.aload_n 3, 1) := by decide +kernel
theorem dw_refill_1 : decode method_18_code 1 = .ok (.iconst 0, 1) := by decide +kernel
theorem dw_refill_2 : decode method_18_code 2 = .ok (.aload_n 0, 1) := by decide +kernel
theorem dw_refill_3 : decode method_18_code 3 = .ok (.iload_n 1, 1) := by decide +kernel
theorem dw_refill_4 : decode method_18_code 4 = .ok (.iload_n 2, 1) := by decide +kernel
theorem dw_refill_5 : decode method_18_code 5 = .ok (.invokevirtual 69, 3) := by decide +kernel
theorem dw_refill_8 : decode method_18_code 8 = .ok (.i2l, 1) := by decide +kernel
theorem dw_refill_9 : decode method_18_code 9 = .ok (.lastore, 1) := by decide +kernel
theorem dw_refill_10 : decode method_18_code 10 = .ok (.goto 11, 3) := by decide +kernel
theorem dw_refill_13 : decode method_18_code 13 = .ok (.astore 4, 2) := by decide +kernel
theorem dw_refill_15 : decode method_18_code 15 = .ok (.iconst 1, 1) := by decide +kernel
theorem dw_refill_16 : decode method_18_code 16 = .ok (.ireturn, 1) := by decide +kernel
theorem dw_refill_17 : decode method_18_code 17 = .ok (.astore 4, 2) := by decide +kernel
theorem dw_refill_19 : decode method_18_code 19 = .ok (.iconst 2, 1) := by decide +kernel
theorem dw_refill_20 : decode method_18_code 20 = .ok (.ireturn, 1) := by decide +kernel
theorem dw_refill_21 : decode method_18_code 21 = .ok (.iconst 0, 1) := by decide +kernel
theorem dw_refill_22 : decode method_18_code 22 = .ok (.ireturn, 1) := by decide +kernel
theorem lw_refill : lw_tbl[704]? = some (.methodLink "CashRecyclerLaw" 69 (qmY 83)) := by decide +kernel
abbrev yw_refill : MethodName := ⟨"CashRecyclerLaw", "refill", "(LCashRecycler;II[J)I"⟩
def ws_refill : List Cond := .codeWith yw_refill method_18_code 5 (some .int) [(0, 10, 13, 15), (0, 10, 17, 13)] :: q_WS
def rw_refill : Room := { frames := qmF 83 + 1, cells := 1, slots := 6, locals := 8 + (qmL 83 + 11) + qmW 83 }
set_option maxHeartbeats 4000000 in
theorem w_refill_r {l : Launch} {D : va_G} {ad : Nat → Nat} {cI cZ cQ : ClassId} {aO : Nat} {cL : ClassId} {h h' : HP} {o : Int64} {a b : Int32} {v : Int32} (hq : Ec 83 [.inr 0, .inl a, .inl b] h (.inl (some v), h')) : q_MetL l D ad cI cZ cQ aO cL yw_refill ws_refill rw_refill [.ref (ad 0), .int a, .int b, .ref aO] h o 0 h' v.toInt64 := by
  refine va_MetW (cc := method_18_code) (maxL := 5) (ret := some .int) q_pl rfl ?_
  intro p e s m args below meth c s₁ B hml hv
  obtain ⟨rfl, hJ, hSt, hThr, hKL, hNc, hO⟩ := hv
  have hx := B.exec
  have hb := B.bytes
  have hr := B.returns
  have hts0 := atoms_spec (ws := ws_refill) B.pre
  have hts : ∀ w ∈ q_WS, w.before _ s = true := fun w hw => hts0 w (List.mem_cons_of_mem _ hw)
  have hown : s.vm.findClass "CashRecyclerLaw" = some m.cls := findClass_of_methodNamed B.named
  have hlk := B.notSynchronized
  have hl := lv_entry ([.ref (ad 0), .int a, .int b, .ref aO]) (n := 5) (Nat.le_of_ble_eq_true rfl)
  rw [lg_entry_eq]
  generalize (lg_sl ([.ref (ad 0), .int a, .int b, .ref aO]) ++ List.replicate (5 - (lg_sl ([.ref (ad 0), .int a, .int b, .ref aO])).length) Slot.unset).toArray = ls at hl ⊢
  have hl : lv_has ls 5 [(0, .ref (ad 0)), (1, .int a), (2, .int b), (3, .ref aO)] := hl
  have hP := q_J_W hJ
  have hS : va_S (q_AL ad aO) s.heap s.heap [] := va_S.rf
  refine lv_aload_n hx hb dw_refill_0 rfl (lv_at hl 3 rfl) ?_
  refine lv_iconst (v := 0) hx hb dw_refill_1 (by decide) ?_
  refine lv_aload_n hx hb dw_refill_2 rfl (lv_at hl 0 rfl) ?_
  refine lv_iload_n hx hb dw_refill_3 rfl (lv_at hl 1 rfl) ?_
  refine lv_iload_n hx hb dw_refill_4 rfl (lv_at hl 2 rfl) ?_
  refine q_ucall (j := 83) (ro := 0) (idx := 69) (as := [.inl a, .inl b]) (rest := [.int 0, .ref aO]) (A0 := q_AL ad aO) ⟨hx, hb, hml, hown, hts⟩ hSt.1 (by decide) (by decide) rfl hq rfl rfl (q_inAt lw_refill rfl) (Nat.le_refl _) (Nat.le_refl _) (Nat.zero_le _) (Nat.zero_le _) hP hS (fun q z => Or.inl z) (fun U hU hW => q_Sta_at hSt va_S.rf hU hW) hl.1 rfl (Nat.le_of_ble_eq_true rfl) dw_refill_5 (fun H1 locs1 hP1 hz hk hS1 => ?_)
  have hJ1 : va_P D qCl (q_J ad cI cZ cQ aO cL h' o) H1 := q_J_mk hP1 (by rw [hk aO (Array.getElem?_eq_some_iff.mp (q_J_O hJ)).1 hO]; exact q_J_O hJ)
  refine lv_i2l (v := v.toInt64) hx hb dw_refill_8 rfl ?_
  refine va_last (D := D) (cl := qCl) (H0 := s.heap) (A := q_AL ad aO) hx hb hKL hJ1 (q_J_D hSt.2.2.2.2 hO (fun _ z => z)) hS1 47 0 q_J_47 rfl q_in01 dw_refill_9 (fun H2 locs2 hP2 hD2 hS2 => ?_)
  have hJ2 : va_P D qCl (q_J ad cI cZ cQ aO cL h' v.toInt64) H2 := q_J_set (by rfl) hP2
  refine lv_goto hx hb dw_refill_10 rfl ?_
  refine lv_iconst (v := 0) hx hb dw_refill_21 (by decide) ?_
  refine W.widen (k := 1) (n := 6) (by omega) (by omega) ?_
  exact W.iret hx hb hr (fun t ht _ => ⟨⟨0, (), rfl, rfl, by show va_P _ _ _ t.heap; rw [ht]; exact hJ2⟩, hS2.F ht⟩) hS2.2.2 dw_refill_22
set_option maxHeartbeats 4000000 in
theorem w_refill_t1 {l : Launch} {D : va_G} {ad : Nat → Nat} {cI cZ cQ : ClassId} {aO : Nat} {cL : ClassId} {h h' : HP} {o : Int64} {a b : Int32} (hfl : ∀ e : Env, l.admits e → e.platform.stackTraces = false) (hq : Ec 83 [.inr 0, .inl a, .inl b] h (.inr 1, h')) : q_MetL l D ad cI cZ cQ aO cL yw_refill ws_refill rw_refill [.ref (ad 0), .int a, .int b, .ref aO] h o 1 h' o := by
  refine va_MetW (cc := method_18_code) (maxL := 5) (ret := some .int) q_pl rfl ?_
  intro p e s m args below meth c s₁ B hml hv
  obtain ⟨rfl, hJ, hSt, hThr, hKL, hNc, hO⟩ := hv
  have hx := B.exec
  have hb := B.bytes
  have hr := B.returns
  have hts0 := atoms_spec (ws := ws_refill) B.pre
  have hts : ∀ w ∈ q_WS, w.before _ s = true := fun w hw => hts0 w (List.mem_cons_of_mem _ hw)
  have hown : s.vm.findClass "CashRecyclerLaw" = some m.cls := findClass_of_methodNamed B.named
  have hlk := B.notSynchronized
  have hl := lv_entry ([.ref (ad 0), .int a, .int b, .ref aO]) (n := 5) (Nat.le_of_ble_eq_true rfl)
  rw [lg_entry_eq]
  generalize (lg_sl ([.ref (ad 0), .int a, .int b, .ref aO]) ++ List.replicate (5 - (lg_sl ([.ref (ad 0), .int a, .int b, .ref aO])).length) Slot.unset).toArray = ls at hl ⊢
  have hl : lv_has ls 5 [(0, .ref (ad 0)), (1, .int a), (2, .int b), (3, .ref aO)] := hl
  have hP := q_J_W hJ
  have hS : va_S (q_AL ad aO) s.heap s.heap [] := va_S.rf
  obtain ⟨m9, meth9, c9, g1, g2, g3, -, -, g4, -⟩ := Cond.codeWith_spec (hts0 _ List.mem_cons_self)
  cases B.named.symm.trans g1
  cases B.method.symm.trans g2
  cases (Stand.of_body B).code.symm.trans g3
  obtain ⟨e1, e2, hes, f1, f2⟩ := q_es2 g4
  simp only [Prod.mk.injEq] at f1
  simp only [Prod.mk.injEq] at f2
  refine lv_aload_n hx hb dw_refill_0 rfl (lv_at hl 3 rfl) ?_
  refine lv_iconst (v := 0) hx hb dw_refill_1 (by decide) ?_
  refine lv_aload_n hx hb dw_refill_2 rfl (lv_at hl 0 rfl) ?_
  refine lv_iload_n hx hb dw_refill_3 rfl (lv_at hl 1 rfl) ?_
  refine lv_iload_n hx hb dw_refill_4 rfl (lv_at hl 2 rfl) ?_
  refine q_utry hfl (j := 83) (ro := 0) (idx := 69) (x := 1) (hpc := 13) (as := [.inl a, .inl b]) (rest := [.int 0, .ref aO]) (A0 := q_AL ad aO) ⟨hx, hb, hml, hown, hts⟩ hSt.1 (by decide) (by decide) rfl hq rfl rfl (q_inAt lw_refill rfl) (Nat.le_refl _) (Nat.le_refl _) (Nat.le_refl _) (Nat.le_refl _) hP hS (fun q z => Or.inl z) (fun U hU hW => ⟨q_Sta_at hSt va_S.rf hU hW, q_Thr_at hThr hP va_S.rf hU hW⟩) hl.1 rfl (Nat.le_of_ble_eq_true rfl) dw_refill_5 hes ?_ (fun ex H1 locs1 hP1 hz hk hS1 => ?_)
  · intro U g ex ce z1 z2 z3 z4 z5 z6 hpl
    have key := q_fg_hit (e := e) (U := U) (f := g) (a := ex) (x := e1) (t := [e2]) (own := "CashRecyclerLaw") (X := q_exN 1) (args := _) hpl z4 (by rw [z5]; exact hown) (by simp [covers, f1, z6]) (by rw [f1.2.2.2]; decide) (by rw [f1.2.2.2]; exact hts _ (q_inAt cl_15 rfl)) z1 z2 z3 (hThr.1.1 _ (by decide +kernel))
    rw [f1.2.2.1] at key
    exact key
  · have hJ1 : va_P D qCl (q_J ad cI cZ cQ aO cL h' o) H1 := q_J_mk hP1 (by rw [hk aO (Array.getElem?_eq_some_iff.mp (q_J_O hJ)).1 hO]; exact q_J_O hJ)
    refine lv_astore hx hb dw_refill_13 hl (by decide) rfl (fun ls9 hl9 => ?_)
    refine lv_iconst (v := 1) hx hb dw_refill_15 (by decide) ?_
    exact W.iret hx hb hr (fun t ht _ => ⟨⟨1, (), rfl, rfl, by show va_P _ _ _ t.heap; rw [ht]; exact hJ1⟩, hS1.F ht⟩) hS1.2.2 dw_refill_16
set_option maxHeartbeats 4000000 in
theorem w_refill_t0 {l : Launch} {D : va_G} {ad : Nat → Nat} {cI cZ cQ : ClassId} {aO : Nat} {cL : ClassId} {h h' : HP} {o : Int64} {a b : Int32} (hfl : ∀ e : Env, l.admits e → e.platform.stackTraces = false) (hq : Ec 83 [.inr 0, .inl a, .inl b] h (.inr 0, h')) : q_MetL l D ad cI cZ cQ aO cL yw_refill ws_refill rw_refill [.ref (ad 0), .int a, .int b, .ref aO] h o 2 h' o := by
  refine va_MetW (cc := method_18_code) (maxL := 5) (ret := some .int) q_pl rfl ?_
  intro p e s m args below meth c s₁ B hml hv
  obtain ⟨rfl, hJ, hSt, hThr, hKL, hNc, hO⟩ := hv
  have hx := B.exec
  have hb := B.bytes
  have hr := B.returns
  have hts0 := atoms_spec (ws := ws_refill) B.pre
  have hts : ∀ w ∈ q_WS, w.before _ s = true := fun w hw => hts0 w (List.mem_cons_of_mem _ hw)
  have hown : s.vm.findClass "CashRecyclerLaw" = some m.cls := findClass_of_methodNamed B.named
  have hlk := B.notSynchronized
  have hl := lv_entry ([.ref (ad 0), .int a, .int b, .ref aO]) (n := 5) (Nat.le_of_ble_eq_true rfl)
  rw [lg_entry_eq]
  generalize (lg_sl ([.ref (ad 0), .int a, .int b, .ref aO]) ++ List.replicate (5 - (lg_sl ([.ref (ad 0), .int a, .int b, .ref aO])).length) Slot.unset).toArray = ls at hl ⊢
  have hl : lv_has ls 5 [(0, .ref (ad 0)), (1, .int a), (2, .int b), (3, .ref aO)] := hl
  have hP := q_J_W hJ
  have hS : va_S (q_AL ad aO) s.heap s.heap [] := va_S.rf
  obtain ⟨m9, meth9, c9, g1, g2, g3, -, -, g4, -⟩ := Cond.codeWith_spec (hts0 _ List.mem_cons_self)
  cases B.named.symm.trans g1
  cases B.method.symm.trans g2
  cases (Stand.of_body B).code.symm.trans g3
  obtain ⟨e1, e2, hes, f1, f2⟩ := q_es2 g4
  simp only [Prod.mk.injEq] at f1
  simp only [Prod.mk.injEq] at f2
  refine lv_aload_n hx hb dw_refill_0 rfl (lv_at hl 3 rfl) ?_
  refine lv_iconst (v := 0) hx hb dw_refill_1 (by decide) ?_
  refine lv_aload_n hx hb dw_refill_2 rfl (lv_at hl 0 rfl) ?_
  refine lv_iload_n hx hb dw_refill_3 rfl (lv_at hl 1 rfl) ?_
  refine lv_iload_n hx hb dw_refill_4 rfl (lv_at hl 2 rfl) ?_
  refine q_utry hfl (j := 83) (ro := 0) (idx := 69) (x := 0) (hpc := 17) (as := [.inl a, .inl b]) (rest := [.int 0, .ref aO]) (A0 := q_AL ad aO) ⟨hx, hb, hml, hown, hts⟩ hSt.1 (by decide) (by decide) rfl hq rfl rfl (q_inAt lw_refill rfl) (Nat.le_refl _) (Nat.le_refl _) (Nat.le_refl _) (Nat.le_refl _) hP hS (fun q z => Or.inl z) (fun U hU hW => ⟨q_Sta_at hSt va_S.rf hU hW, q_Thr_at hThr hP va_S.rf hU hW⟩) hl.1 rfl (Nat.le_of_ble_eq_true rfl) dw_refill_5 hes ?_ (fun ex H1 locs1 hP1 hz hk hS1 => ?_)
  · intro U g ex ce z1 z2 z3 z4 z5 z6 hpl
    refine q_fg_pass (x := e1) (own := "CashRecyclerLaw") (X := q_exN 0) (Y := "java/lang/IllegalStateException") hpl z4 (by rw [z5]; exact hown) (by simp [covers, f1, z6]) (by rw [f1.2.2.2]; decide) (by rw [f1.2.2.2]; exact hts _ (q_inAt cl_15 rfl)) (by first | exact z1 | exact z1) z2 z3 (hNc _ (by decide +kernel) _ (by decide +kernel) (by decide +kernel)) (fun vm1 z4 => ?_)
    have key := q_fg_hit (e := e) (U := (U.setVm vm1)) (f := g) (a := ex) (x := e2) (t := []) (own := "CashRecyclerLaw") (X := q_exN 0) (args := _) hpl z4 (by rw [z5]; exact hown) (by simp [covers, f2, z6]) (by rw [f2.2.2.2]; decide) (by rw [f2.2.2.2]; exact hts _ (q_inAt cl_13 rfl)) z1 z2 z3 (hThr.1.1 _ (by decide +kernel))
    rw [f2.2.2.1] at key
    exact key
  · have hJ1 : va_P D qCl (q_J ad cI cZ cQ aO cL h' o) H1 := q_J_mk hP1 (by rw [hk aO (Array.getElem?_eq_some_iff.mp (q_J_O hJ)).1 hO]; exact q_J_O hJ)
    refine lv_astore hx hb dw_refill_17 hl (by decide) rfl (fun ls9 hl9 => ?_)
    refine lv_iconst (v := 2) hx hb dw_refill_19 (by decide) ?_
    exact W.iret hx hb hr (fun t ht _ => ⟨⟨2, (), rfl, rfl, by show va_P _ _ _ t.heap; rw [ht]; exact hJ1⟩, hS1.F ht⟩) hS1.2.2 dw_refill_20
theorem dw_empty_0 : decode method_19_code 0 = .ok (.aload_n 2, 1) := by decide +kernel
theorem dw_empty_1 : decode method_19_code 1 = .ok (.iconst 0, 1) := by decide +kernel
theorem dw_empty_2 : decode method_19_code 2 = .ok (.aload_n 0, 1) := by decide +kernel
theorem dw_empty_3 : decode method_19_code 3 = .ok (.iload_n 1, 1) := by decide +kernel
theorem dw_empty_4 : decode method_19_code 4 = .ok (.invokevirtual 72, 3) := by decide +kernel
theorem dw_empty_7 : decode method_19_code 7 = .ok (.i2l, 1) := by decide +kernel
theorem dw_empty_8 : decode method_19_code 8 = .ok (.lastore, 1) := by decide +kernel
theorem dw_empty_9 : decode method_19_code 9 = .ok (.goto 9, 3) := by decide +kernel
theorem dw_empty_12 : decode method_19_code 12 = .ok (.astore_n 3, 1) := by decide +kernel
theorem dw_empty_13 : decode method_19_code 13 = .ok (.iconst 1, 1) := by decide +kernel
theorem dw_empty_14 : decode method_19_code 14 = .ok (.ireturn, 1) := by decide +kernel
theorem dw_empty_15 : decode method_19_code 15 = .ok (.astore_n 3, 1) := by decide +kernel
theorem dw_empty_16 : decode method_19_code 16 = .ok (.iconst 2, 1) := by decide +kernel
theorem dw_empty_17 : decode method_19_code 17 = .ok (.ireturn, 1) := by decide +kernel
theorem dw_empty_18 : decode method_19_code 18 = .ok (.iconst 0, 1) := by decide +kernel
theorem dw_empty_19 : decode method_19_code 19 = .ok (.ireturn, 1) := by decide +kernel
theorem lw_empty : lw_tbl[711]? = some (.methodLink "CashRecyclerLaw" 72 (qmY 85)) := by decide +kernel
abbrev yw_empty : MethodName := ⟨"CashRecyclerLaw", "empty", "(LCashRecycler;I[J)I"⟩
def ws_empty : List Cond := .codeWith yw_empty method_19_code 4 (some .int) [(0, 9, 12, 15), (0, 9, 15, 13)] :: q_WS
def rw_empty : Room := { frames := qmF 85 + 1, cells := 1, slots := 6, locals := 8 + (qmL 85 + 11) + qmW 85 }
set_option maxHeartbeats 4000000 in
theorem w_empty_r {l : Launch} {D : va_G} {ad : Nat → Nat} {cI cZ cQ : ClassId} {aO : Nat} {cL : ClassId} {h h' : HP} {o : Int64} {a : Int32} {v : Int32} (hq : Ec 85 [.inr 0, .inl a] h (.inl (some v), h')) : q_MetL l D ad cI cZ cQ aO cL yw_empty ws_empty rw_empty [.ref (ad 0), .int a, .ref aO] h o 0 h' v.toInt64 := by
  refine va_MetW (cc := method_19_code) (maxL := 4) (ret := some .int) q_pl rfl ?_
  intro p e s m args below meth c s₁ B hml hv
  obtain ⟨rfl, hJ, hSt, hThr, hKL, hNc, hO⟩ := hv
  have hx := B.exec
  have hb := B.bytes
  have hr := B.returns
  have hts0 := atoms_spec (ws := ws_empty) B.pre
  have hts : ∀ w ∈ q_WS, w.before _ s = true := fun w hw => hts0 w (List.mem_cons_of_mem _ hw)
  have hown : s.vm.findClass "CashRecyclerLaw" = some m.cls := findClass_of_methodNamed B.named
  have hlk := B.notSynchronized
  have hl := lv_entry ([.ref (ad 0), .int a, .ref aO]) (n := 4) (Nat.le_of_ble_eq_true rfl)
  rw [lg_entry_eq]
  generalize (lg_sl ([.ref (ad 0), .int a, .ref aO]) ++ List.replicate (4 - (lg_sl ([.ref (ad 0), .int a, .ref aO])).length) Slot.unset).toArray = ls at hl ⊢
  have hl : lv_has ls 4 [(0, .ref (ad 0)), (1, .int a), (2, .ref aO)] := hl
  have hP := q_J_W hJ
  have hS : va_S (q_AL ad aO) s.heap s.heap [] := va_S.rf
  refine lv_aload_n hx hb dw_empty_0 rfl (lv_at hl 2 rfl) ?_
  refine lv_iconst (v := 0) hx hb dw_empty_1 (by decide) ?_
  refine lv_aload_n hx hb dw_empty_2 rfl (lv_at hl 0 rfl) ?_
  refine lv_iload_n hx hb dw_empty_3 rfl (lv_at hl 1 rfl) ?_
  refine q_ucall (j := 85) (ro := 0) (idx := 72) (as := [.inl a]) (rest := [.int 0, .ref aO]) (A0 := q_AL ad aO) ⟨hx, hb, hml, hown, hts⟩ hSt.1 (by decide) (by decide) rfl hq rfl rfl (q_inAt lw_empty rfl) (Nat.le_refl _) (Nat.le_refl _) (Nat.zero_le _) (Nat.zero_le _) hP hS (fun q z => Or.inl z) (fun U hU hW => q_Sta_at hSt va_S.rf hU hW) hl.1 rfl (Nat.le_of_ble_eq_true rfl) dw_empty_4 (fun H1 locs1 hP1 hz hk hS1 => ?_)
  have hJ1 : va_P D qCl (q_J ad cI cZ cQ aO cL h' o) H1 := q_J_mk hP1 (by rw [hk aO (Array.getElem?_eq_some_iff.mp (q_J_O hJ)).1 hO]; exact q_J_O hJ)
  refine lv_i2l (v := v.toInt64) hx hb dw_empty_7 rfl ?_
  refine va_last (D := D) (cl := qCl) (H0 := s.heap) (A := q_AL ad aO) hx hb hKL hJ1 (q_J_D hSt.2.2.2.2 hO (fun _ z => z)) hS1 47 0 q_J_47 rfl q_in01 dw_empty_8 (fun H2 locs2 hP2 hD2 hS2 => ?_)
  have hJ2 : va_P D qCl (q_J ad cI cZ cQ aO cL h' v.toInt64) H2 := q_J_set (by rfl) hP2
  refine lv_goto hx hb dw_empty_9 rfl ?_
  refine lv_iconst (v := 0) hx hb dw_empty_18 (by decide) ?_
  refine W.widen (k := 1) (n := 6) (by omega) (by omega) ?_
  exact W.iret hx hb hr (fun t ht _ => ⟨⟨0, (), rfl, rfl, by show va_P _ _ _ t.heap; rw [ht]; exact hJ2⟩, hS2.F ht⟩) hS2.2.2 dw_empty_19
set_option maxHeartbeats 4000000 in
theorem w_empty_t1 {l : Launch} {D : va_G} {ad : Nat → Nat} {cI cZ cQ : ClassId} {aO : Nat} {cL : ClassId} {h h' : HP} {o : Int64} {a : Int32} (hfl : ∀ e : Env, l.admits e → e.platform.stackTraces = false) (hq : Ec 85 [.inr 0, .inl a] h (.inr 1, h')) : q_MetL l D ad cI cZ cQ aO cL yw_empty ws_empty rw_empty [.ref (ad 0), .int a, .ref aO] h o 1 h' o := by
  refine va_MetW (cc := method_19_code) (maxL := 4) (ret := some .int) q_pl rfl ?_
  intro p e s m args below meth c s₁ B hml hv
  obtain ⟨rfl, hJ, hSt, hThr, hKL, hNc, hO⟩ := hv
  have hx := B.exec
  have hb := B.bytes
  have hr := B.returns
  have hts0 := atoms_spec (ws := ws_empty) B.pre
  have hts : ∀ w ∈ q_WS, w.before _ s = true := fun w hw => hts0 w (List.mem_cons_of_mem _ hw)
  have hown : s.vm.findClass "CashRecyclerLaw" = some m.cls := findClass_of_methodNamed B.named
  have hlk := B.notSynchronized
  have hl := lv_entry ([.ref (ad 0), .int a, .ref aO]) (n := 4) (Nat.le_of_ble_eq_true rfl)
  rw [lg_entry_eq]
  generalize (lg_sl ([.ref (ad 0), .int a, .ref aO]) ++ List.replicate (4 - (lg_sl ([.ref (ad 0), .int a, .ref aO])).length) Slot.unset).toArray = ls at hl ⊢
  have hl : lv_has ls 4 [(0, .ref (ad 0)), (1, .int a), (2, .ref aO)] := hl
  have hP := q_J_W hJ
  have hS : va_S (q_AL ad aO) s.heap s.heap [] := va_S.rf
  obtain ⟨m9, meth9, c9, g1, g2, g3, -, -, g4, -⟩ := Cond.codeWith_spec (hts0 _ List.mem_cons_self)
  cases B.named.symm.trans g1
  cases B.method.symm.trans g2
  cases (Stand.of_body B).code.symm.trans g3
  obtain ⟨e1, e2, hes, f1, f2⟩ := q_es2 g4
  simp only [Prod.mk.injEq] at f1
  simp only [Prod.mk.injEq] at f2
  refine lv_aload_n hx hb dw_empty_0 rfl (lv_at hl 2 rfl) ?_
  refine lv_iconst (v := 0) hx hb dw_empty_1 (by decide) ?_
  refine lv_aload_n hx hb dw_empty_2 rfl (lv_at hl 0 rfl) ?_
  refine lv_iload_n hx hb dw_empty_3 rfl (lv_at hl 1 rfl) ?_
  refine q_utry hfl (j := 85) (ro := 0) (idx := 72) (x := 1) (hpc := 12) (as := [.inl a]) (rest := [.int 0, .ref aO]) (A0 := q_AL ad aO) ⟨hx, hb, hml, hown, hts⟩ hSt.1 (by decide) (by decide) rfl hq rfl rfl (q_inAt lw_empty rfl) (Nat.le_refl _) (Nat.le_refl _) (Nat.le_refl _) (Nat.le_refl _) hP hS (fun q z => Or.inl z) (fun U hU hW => ⟨q_Sta_at hSt va_S.rf hU hW, q_Thr_at hThr hP va_S.rf hU hW⟩) hl.1 rfl (Nat.le_of_ble_eq_true rfl) dw_empty_4 hes ?_ (fun ex H1 locs1 hP1 hz hk hS1 => ?_)
  · intro U g ex ce z1 z2 z3 z4 z5 z6 hpl
    have key := q_fg_hit (e := e) (U := U) (f := g) (a := ex) (x := e1) (t := [e2]) (own := "CashRecyclerLaw") (X := q_exN 1) (args := _) hpl z4 (by rw [z5]; exact hown) (by simp [covers, f1, z6]) (by rw [f1.2.2.2]; decide) (by rw [f1.2.2.2]; exact hts _ (q_inAt cl_15 rfl)) z1 z2 z3 (hThr.1.1 _ (by decide +kernel))
    rw [f1.2.2.1] at key
    exact key
  · have hJ1 : va_P D qCl (q_J ad cI cZ cQ aO cL h' o) H1 := q_J_mk hP1 (by rw [hk aO (Array.getElem?_eq_some_iff.mp (q_J_O hJ)).1 hO]; exact q_J_O hJ)
    refine lv_astore_n hx hb dw_empty_12 rfl hl (by decide) rfl (fun ls9 hl9 => ?_)
    refine lv_iconst (v := 1) hx hb dw_empty_13 (by decide) ?_
    exact W.iret hx hb hr (fun t ht _ => ⟨⟨1, (), rfl, rfl, by show va_P _ _ _ t.heap; rw [ht]; exact hJ1⟩, hS1.F ht⟩) hS1.2.2 dw_empty_14
set_option maxHeartbeats 4000000 in
theorem w_empty_t0 {l : Launch} {D : va_G} {ad : Nat → Nat} {cI cZ cQ : ClassId} {aO : Nat} {cL : ClassId} {h h' : HP} {o : Int64} {a : Int32} (hfl : ∀ e : Env, l.admits e → e.platform.stackTraces = false) (hq : Ec 85 [.inr 0, .inl a] h (.inr 0, h')) : q_MetL l D ad cI cZ cQ aO cL yw_empty ws_empty rw_empty [.ref (ad 0), .int a, .ref aO] h o 2 h' o := by
  refine va_MetW (cc := method_19_code) (maxL := 4) (ret := some .int) q_pl rfl ?_
  intro p e s m args below meth c s₁ B hml hv
  obtain ⟨rfl, hJ, hSt, hThr, hKL, hNc, hO⟩ := hv
  have hx := B.exec
  have hb := B.bytes
  have hr := B.returns
  have hts0 := atoms_spec (ws := ws_empty) B.pre
  have hts : ∀ w ∈ q_WS, w.before _ s = true := fun w hw => hts0 w (List.mem_cons_of_mem _ hw)
  have hown : s.vm.findClass "CashRecyclerLaw" = some m.cls := findClass_of_methodNamed B.named
  have hlk := B.notSynchronized
  have hl := lv_entry ([.ref (ad 0), .int a, .ref aO]) (n := 4) (Nat.le_of_ble_eq_true rfl)
  rw [lg_entry_eq]
  generalize (lg_sl ([.ref (ad 0), .int a, .ref aO]) ++ List.replicate (4 - (lg_sl ([.ref (ad 0), .int a, .ref aO])).length) Slot.unset).toArray = ls at hl ⊢
  have hl : lv_has ls 4 [(0, .ref (ad 0)), (1, .int a), (2, .ref aO)] := hl
  have hP := q_J_W hJ
  have hS : va_S (q_AL ad aO) s.heap s.heap [] := va_S.rf
  obtain ⟨m9, meth9, c9, g1, g2, g3, -, -, g4, -⟩ := Cond.codeWith_spec (hts0 _ List.mem_cons_self)
  cases B.named.symm.trans g1
  cases B.method.symm.trans g2
  cases (Stand.of_body B).code.symm.trans g3
  obtain ⟨e1, e2, hes, f1, f2⟩ := q_es2 g4
  simp only [Prod.mk.injEq] at f1
  simp only [Prod.mk.injEq] at f2
  refine lv_aload_n hx hb dw_empty_0 rfl (lv_at hl 2 rfl) ?_
  refine lv_iconst (v := 0) hx hb dw_empty_1 (by decide) ?_
  refine lv_aload_n hx hb dw_empty_2 rfl (lv_at hl 0 rfl) ?_
  refine lv_iload_n hx hb dw_empty_3 rfl (lv_at hl 1 rfl) ?_
  refine q_utry hfl (j := 85) (ro := 0) (idx := 72) (x := 0) (hpc := 15) (as := [.inl a]) (rest := [.int 0, .ref aO]) (A0 := q_AL ad aO) ⟨hx, hb, hml, hown, hts⟩ hSt.1 (by decide) (by decide) rfl hq rfl rfl (q_inAt lw_empty rfl) (Nat.le_refl _) (Nat.le_refl _) (Nat.le_refl _) (Nat.le_refl _) hP hS (fun q z => Or.inl z) (fun U hU hW => ⟨q_Sta_at hSt va_S.rf hU hW, q_Thr_at hThr hP va_S.rf hU hW⟩) hl.1 rfl (Nat.le_of_ble_eq_true rfl) dw_empty_4 hes ?_ (fun ex H1 locs1 hP1 hz hk hS1 => ?_)
  · intro U g ex ce z1 z2 z3 z4 z5 z6 hpl
    refine q_fg_pass (x := e1) (own := "CashRecyclerLaw") (X := q_exN 0) (Y := "java/lang/IllegalStateException") hpl z4 (by rw [z5]; exact hown) (by simp [covers, f1, z6]) (by rw [f1.2.2.2]; decide) (by rw [f1.2.2.2]; exact hts _ (q_inAt cl_15 rfl)) (by first | exact z1 | exact z1) z2 z3 (hNc _ (by decide +kernel) _ (by decide +kernel) (by decide +kernel)) (fun vm1 z4 => ?_)
    have key := q_fg_hit (e := e) (U := (U.setVm vm1)) (f := g) (a := ex) (x := e2) (t := []) (own := "CashRecyclerLaw") (X := q_exN 0) (args := _) hpl z4 (by rw [z5]; exact hown) (by simp [covers, f2, z6]) (by rw [f2.2.2.2]; decide) (by rw [f2.2.2.2]; exact hts _ (q_inAt cl_13 rfl)) z1 z2 z3 (hThr.1.1 _ (by decide +kernel))
    rw [f2.2.2.1] at key
    exact key
  · have hJ1 : va_P D qCl (q_J ad cI cZ cQ aO cL h' o) H1 := q_J_mk hP1 (by rw [hk aO (Array.getElem?_eq_some_iff.mp (q_J_O hJ)).1 hO]; exact q_J_O hJ)
    refine lv_astore_n hx hb dw_empty_15 rfl hl (by decide) rfl (fun ls9 hl9 => ?_)
    refine lv_iconst (v := 2) hx hb dw_empty_16 (by decide) ?_
    exact W.iret hx hb hr (fun t ht _ => ⟨⟨2, (), rfl, rfl, by show va_P _ _ _ t.heap; rw [ht]; exact hJ1⟩, hS1.F ht⟩) hS1.2.2 dw_empty_17
theorem dw_notes_0 : decode method_20_code 0 = .ok (.aload_n 3, 1) := by decide +kernel
theorem dw_notes_1 : decode method_20_code 1 = .ok (.iconst 0, 1) := by decide +kernel
theorem dw_notes_2 : decode method_20_code 2 = .ok (.aload_n 0, 1) := by decide +kernel
theorem dw_notes_3 : decode method_20_code 3 = .ok (.iload_n 1, 1) := by decide +kernel
theorem dw_notes_4 : decode method_20_code 4 = .ok (.iload_n 2, 1) := by decide +kernel
theorem dw_notes_5 : decode method_20_code 5 = .ok (.invokevirtual 75, 3) := by decide +kernel
theorem dw_notes_8 : decode method_20_code 8 = .ok (.i2l, 1) := by decide +kernel
theorem dw_notes_9 : decode method_20_code 9 = .ok (.lastore, 1) := by decide +kernel
theorem dw_notes_10 : decode method_20_code 10 = .ok (.goto 7, 3) := by decide +kernel
theorem dw_notes_13 : decode method_20_code 13 = .ok (.astore 4, 2) := by decide +kernel
theorem dw_notes_15 : decode method_20_code 15 = .ok (.iconst 1, 1) := by decide +kernel
theorem dw_notes_16 : decode method_20_code 16 = .ok (.ireturn, 1) := by decide +kernel
theorem dw_notes_17 : decode method_20_code 17 = .ok (.iconst 0, 1) := by decide +kernel
theorem dw_notes_18 : decode method_20_code 18 = .ok (.ireturn, 1) := by decide +kernel
theorem lw_notes : lw_tbl[722]? = some (.methodLink "CashRecyclerLaw" 75 (qmY 88)) := by decide +kernel
abbrev yw_notes : MethodName := ⟨"CashRecyclerLaw", "notes", "(LCashRecycler;II[J)I"⟩
def ws_notes : List Cond := .codeWith yw_notes method_20_code 5 (some .int) [(0, 10, 13, 13)] :: q_WS
def rw_notes : Room := { frames := qmF 88 + 1, cells := 1, slots := 6, locals := 8 + (qmL 88 + 11) + qmW 88 }
set_option maxHeartbeats 4000000 in
theorem w_notes_r {l : Launch} {D : va_G} {ad : Nat → Nat} {cI cZ cQ : ClassId} {aO : Nat} {cL : ClassId} {h h' : HP} {o : Int64} {a b : Int32} {v : Int32} (hq : Ec 88 [.inr 0, .inl a, .inl b] h (.inl (some v), h')) : q_MetL l D ad cI cZ cQ aO cL yw_notes ws_notes rw_notes [.ref (ad 0), .int a, .int b, .ref aO] h o 0 h' v.toInt64 := by
  refine va_MetW (cc := method_20_code) (maxL := 5) (ret := some .int) q_pl rfl ?_
  intro p e s m args below meth c s₁ B hml hv
  obtain ⟨rfl, hJ, hSt, hThr, hKL, hNc, hO⟩ := hv
  have hx := B.exec
  have hb := B.bytes
  have hr := B.returns
  have hts0 := atoms_spec (ws := ws_notes) B.pre
  have hts : ∀ w ∈ q_WS, w.before _ s = true := fun w hw => hts0 w (List.mem_cons_of_mem _ hw)
  have hown : s.vm.findClass "CashRecyclerLaw" = some m.cls := findClass_of_methodNamed B.named
  have hlk := B.notSynchronized
  have hl := lv_entry ([.ref (ad 0), .int a, .int b, .ref aO]) (n := 5) (Nat.le_of_ble_eq_true rfl)
  rw [lg_entry_eq]
  generalize (lg_sl ([.ref (ad 0), .int a, .int b, .ref aO]) ++ List.replicate (5 - (lg_sl ([.ref (ad 0), .int a, .int b, .ref aO])).length) Slot.unset).toArray = ls at hl ⊢
  have hl : lv_has ls 5 [(0, .ref (ad 0)), (1, .int a), (2, .int b), (3, .ref aO)] := hl
  have hP := q_J_W hJ
  have hS : va_S (q_AL ad aO) s.heap s.heap [] := va_S.rf
  refine lv_aload_n hx hb dw_notes_0 rfl (lv_at hl 3 rfl) ?_
  refine lv_iconst (v := 0) hx hb dw_notes_1 (by decide) ?_
  refine lv_aload_n hx hb dw_notes_2 rfl (lv_at hl 0 rfl) ?_
  refine lv_iload_n hx hb dw_notes_3 rfl (lv_at hl 1 rfl) ?_
  refine lv_iload_n hx hb dw_notes_4 rfl (lv_at hl 2 rfl) ?_
  refine q_ucall (j := 88) (ro := 0) (idx := 75) (as := [.inl a, .inl b]) (rest := [.int 0, .ref aO]) (A0 := q_AL ad aO) ⟨hx, hb, hml, hown, hts⟩ hSt.1 (by decide) (by decide) rfl hq rfl rfl (q_inAt lw_notes rfl) (Nat.le_refl _) (Nat.le_refl _) (Nat.zero_le _) (Nat.zero_le _) hP hS (fun q z => Or.inl z) (fun U hU hW => q_Sta_at hSt va_S.rf hU hW) hl.1 rfl (Nat.le_of_ble_eq_true rfl) dw_notes_5 (fun H1 locs1 hP1 hz hk hS1 => ?_)
  have hJ1 : va_P D qCl (q_J ad cI cZ cQ aO cL h' o) H1 := q_J_mk hP1 (by rw [hk aO (Array.getElem?_eq_some_iff.mp (q_J_O hJ)).1 hO]; exact q_J_O hJ)
  refine lv_i2l (v := v.toInt64) hx hb dw_notes_8 rfl ?_
  refine va_last (D := D) (cl := qCl) (H0 := s.heap) (A := q_AL ad aO) hx hb hKL hJ1 (q_J_D hSt.2.2.2.2 hO (fun _ z => z)) hS1 47 0 q_J_47 rfl q_in01 dw_notes_9 (fun H2 locs2 hP2 hD2 hS2 => ?_)
  have hJ2 : va_P D qCl (q_J ad cI cZ cQ aO cL h' v.toInt64) H2 := q_J_set (by rfl) hP2
  refine lv_goto hx hb dw_notes_10 rfl ?_
  refine lv_iconst (v := 0) hx hb dw_notes_17 (by decide) ?_
  refine W.widen (k := 1) (n := 6) (by omega) (by omega) ?_
  exact W.iret hx hb hr (fun t ht _ => ⟨⟨0, (), rfl, rfl, by show va_P _ _ _ t.heap; rw [ht]; exact hJ2⟩, hS2.F ht⟩) hS2.2.2 dw_notes_18
set_option maxHeartbeats 4000000 in
theorem w_notes_t0 {l : Launch} {D : va_G} {ad : Nat → Nat} {cI cZ cQ : ClassId} {aO : Nat} {cL : ClassId} {h h' : HP} {o : Int64} {a b : Int32} (hfl : ∀ e : Env, l.admits e → e.platform.stackTraces = false) (hq : Ec 88 [.inr 0, .inl a, .inl b] h (.inr 0, h')) : q_MetL l D ad cI cZ cQ aO cL yw_notes ws_notes rw_notes [.ref (ad 0), .int a, .int b, .ref aO] h o 1 h' o := by
  refine va_MetW (cc := method_20_code) (maxL := 5) (ret := some .int) q_pl rfl ?_
  intro p e s m args below meth c s₁ B hml hv
  obtain ⟨rfl, hJ, hSt, hThr, hKL, hNc, hO⟩ := hv
  have hx := B.exec
  have hb := B.bytes
  have hr := B.returns
  have hts0 := atoms_spec (ws := ws_notes) B.pre
  have hts : ∀ w ∈ q_WS, w.before _ s = true := fun w hw => hts0 w (List.mem_cons_of_mem _ hw)
  have hown : s.vm.findClass "CashRecyclerLaw" = some m.cls := findClass_of_methodNamed B.named
  have hlk := B.notSynchronized
  have hl := lv_entry ([.ref (ad 0), .int a, .int b, .ref aO]) (n := 5) (Nat.le_of_ble_eq_true rfl)
  rw [lg_entry_eq]
  generalize (lg_sl ([.ref (ad 0), .int a, .int b, .ref aO]) ++ List.replicate (5 - (lg_sl ([.ref (ad 0), .int a, .int b, .ref aO])).length) Slot.unset).toArray = ls at hl ⊢
  have hl : lv_has ls 5 [(0, .ref (ad 0)), (1, .int a), (2, .int b), (3, .ref aO)] := hl
  have hP := q_J_W hJ
  have hS : va_S (q_AL ad aO) s.heap s.heap [] := va_S.rf
  obtain ⟨m9, meth9, c9, g1, g2, g3, -, -, g4, -⟩ := Cond.codeWith_spec (hts0 _ List.mem_cons_self)
  cases B.named.symm.trans g1
  cases B.method.symm.trans g2
  cases (Stand.of_body B).code.symm.trans g3
  obtain ⟨e1, hes, f1⟩ := q_es1 g4
  simp only [Prod.mk.injEq] at f1
  refine lv_aload_n hx hb dw_notes_0 rfl (lv_at hl 3 rfl) ?_
  refine lv_iconst (v := 0) hx hb dw_notes_1 (by decide) ?_
  refine lv_aload_n hx hb dw_notes_2 rfl (lv_at hl 0 rfl) ?_
  refine lv_iload_n hx hb dw_notes_3 rfl (lv_at hl 1 rfl) ?_
  refine lv_iload_n hx hb dw_notes_4 rfl (lv_at hl 2 rfl) ?_
  refine q_utry hfl (j := 88) (ro := 0) (idx := 75) (x := 0) (hpc := 13) (as := [.inl a, .inl b]) (rest := [.int 0, .ref aO]) (A0 := q_AL ad aO) ⟨hx, hb, hml, hown, hts⟩ hSt.1 (by decide) (by decide) rfl hq rfl rfl (q_inAt lw_notes rfl) (Nat.le_refl _) (Nat.le_refl _) (Nat.le_refl _) (Nat.le_refl _) hP hS (fun q z => Or.inl z) (fun U hU hW => ⟨q_Sta_at hSt va_S.rf hU hW, q_Thr_at hThr hP va_S.rf hU hW⟩) hl.1 rfl (Nat.le_of_ble_eq_true rfl) dw_notes_5 hes ?_ (fun ex H1 locs1 hP1 hz hk hS1 => ?_)
  · intro U g ex ce z1 z2 z3 z4 z5 z6 hpl
    have key := q_fg_hit (e := e) (U := U) (f := g) (a := ex) (x := e1) (t := []) (own := "CashRecyclerLaw") (X := q_exN 0) (args := _) hpl z4 (by rw [z5]; exact hown) (by simp [covers, f1, z6]) (by rw [f1.2.2.2]; decide) (by rw [f1.2.2.2]; exact hts _ (q_inAt cl_13 rfl)) z1 z2 z3 (hThr.1.1 _ (by decide +kernel))
    rw [f1.2.2.1] at key
    exact key
  · have hJ1 : va_P D qCl (q_J ad cI cZ cQ aO cL h' o) H1 := q_J_mk hP1 (by rw [hk aO (Array.getElem?_eq_some_iff.mp (q_J_O hJ)).1 hO]; exact q_J_O hJ)
    refine lv_astore hx hb dw_notes_13 hl (by decide) rfl (fun ls9 hl9 => ?_)
    refine lv_iconst (v := 1) hx hb dw_notes_15 (by decide) ?_
    exact W.iret hx hb hr (fun t ht _ => ⟨⟨1, (), rfl, rfl, by show va_P _ _ _ t.heap; rw [ht]; exact hJ1⟩, hS1.F ht⟩) hS1.2.2 dw_notes_16
theorem dw_cassette_0 : decode method_21_code 0 = .ok (.aload_n 3, 1) := by decide +kernel
theorem dw_cassette_1 : decode method_21_code 1 = .ok (.iconst 0, 1) := by decide +kernel
theorem dw_cassette_2 : decode method_21_code 2 = .ok (.aload_n 0, 1) := by decide +kernel
theorem dw_cassette_3 : decode method_21_code 3 = .ok (.iload_n 1, 1) := by decide +kernel
theorem dw_cassette_4 : decode method_21_code 4 = .ok (.iload_n 2, 1) := by decide +kernel
theorem dw_cassette_5 : decode method_21_code 5 = .ok (.invokevirtual 78, 3) := by decide +kernel
theorem dw_cassette_8 : decode method_21_code 8 = .ok (.i2l, 1) := by decide +kernel
theorem dw_cassette_9 : decode method_21_code 9 = .ok (.lastore, 1) := by decide +kernel
theorem dw_cassette_10 : decode method_21_code 10 = .ok (.goto 7, 3) := by decide +kernel
theorem dw_cassette_13 : decode method_21_code 13 = .ok (.astore 4, 2) := by decide +kernel
theorem dw_cassette_15 : decode method_21_code 15 = .ok (.iconst 1, 1) := by decide +kernel
theorem dw_cassette_16 : decode method_21_code 16 = .ok (.ireturn, 1) := by decide +kernel
theorem dw_cassette_17 : decode method_21_code 17 = .ok (.iconst 0, 1) := by decide +kernel
theorem dw_cassette_18 : decode method_21_code 18 = .ok (.ireturn, 1) := by decide +kernel
theorem lw_cassette : lw_tbl[729]? = some (.methodLink "CashRecyclerLaw" 78 (qmY 89)) := by decide +kernel
abbrev yw_cassette : MethodName := ⟨"CashRecyclerLaw", "cassette", "(LCashRecycler;II[J)I"⟩
def ws_cassette : List Cond := .codeWith yw_cassette method_21_code 5 (some .int) [(0, 10, 13, 13)] :: q_WS
def rw_cassette : Room := { frames := qmF 89 + 1, cells := 1, slots := 6, locals := 8 + (qmL 89 + 11) + qmW 89 }
set_option maxHeartbeats 4000000 in
theorem w_cassette_r {l : Launch} {D : va_G} {ad : Nat → Nat} {cI cZ cQ : ClassId} {aO : Nat} {cL : ClassId} {h h' : HP} {o : Int64} {a b : Int32} {v : Int32} (hq : Ec 89 [.inr 0, .inl a, .inl b] h (.inl (some v), h')) : q_MetL l D ad cI cZ cQ aO cL yw_cassette ws_cassette rw_cassette [.ref (ad 0), .int a, .int b, .ref aO] h o 0 h' v.toInt64 := by
  refine va_MetW (cc := method_21_code) (maxL := 5) (ret := some .int) q_pl rfl ?_
  intro p e s m args below meth c s₁ B hml hv
  obtain ⟨rfl, hJ, hSt, hThr, hKL, hNc, hO⟩ := hv
  have hx := B.exec
  have hb := B.bytes
  have hr := B.returns
  have hts0 := atoms_spec (ws := ws_cassette) B.pre
  have hts : ∀ w ∈ q_WS, w.before _ s = true := fun w hw => hts0 w (List.mem_cons_of_mem _ hw)
  have hown : s.vm.findClass "CashRecyclerLaw" = some m.cls := findClass_of_methodNamed B.named
  have hlk := B.notSynchronized
  have hl := lv_entry ([.ref (ad 0), .int a, .int b, .ref aO]) (n := 5) (Nat.le_of_ble_eq_true rfl)
  rw [lg_entry_eq]
  generalize (lg_sl ([.ref (ad 0), .int a, .int b, .ref aO]) ++ List.replicate (5 - (lg_sl ([.ref (ad 0), .int a, .int b, .ref aO])).length) Slot.unset).toArray = ls at hl ⊢
  have hl : lv_has ls 5 [(0, .ref (ad 0)), (1, .int a), (2, .int b), (3, .ref aO)] := hl
  have hP := q_J_W hJ
  have hS : va_S (q_AL ad aO) s.heap s.heap [] := va_S.rf
  refine lv_aload_n hx hb dw_cassette_0 rfl (lv_at hl 3 rfl) ?_
  refine lv_iconst (v := 0) hx hb dw_cassette_1 (by decide) ?_
  refine lv_aload_n hx hb dw_cassette_2 rfl (lv_at hl 0 rfl) ?_
  refine lv_iload_n hx hb dw_cassette_3 rfl (lv_at hl 1 rfl) ?_
  refine lv_iload_n hx hb dw_cassette_4 rfl (lv_at hl 2 rfl) ?_
  refine q_ucall (j := 89) (ro := 0) (idx := 78) (as := [.inl a, .inl b]) (rest := [.int 0, .ref aO]) (A0 := q_AL ad aO) ⟨hx, hb, hml, hown, hts⟩ hSt.1 (by decide) (by decide) rfl hq rfl rfl (q_inAt lw_cassette rfl) (Nat.le_refl _) (Nat.le_refl _) (Nat.zero_le _) (Nat.zero_le _) hP hS (fun q z => Or.inl z) (fun U hU hW => q_Sta_at hSt va_S.rf hU hW) hl.1 rfl (Nat.le_of_ble_eq_true rfl) dw_cassette_5 (fun H1 locs1 hP1 hz hk hS1 => ?_)
  have hJ1 : va_P D qCl (q_J ad cI cZ cQ aO cL h' o) H1 := q_J_mk hP1 (by rw [hk aO (Array.getElem?_eq_some_iff.mp (q_J_O hJ)).1 hO]; exact q_J_O hJ)
  refine lv_i2l (v := v.toInt64) hx hb dw_cassette_8 rfl ?_
  refine va_last (D := D) (cl := qCl) (H0 := s.heap) (A := q_AL ad aO) hx hb hKL hJ1 (q_J_D hSt.2.2.2.2 hO (fun _ z => z)) hS1 47 0 q_J_47 rfl q_in01 dw_cassette_9 (fun H2 locs2 hP2 hD2 hS2 => ?_)
  have hJ2 : va_P D qCl (q_J ad cI cZ cQ aO cL h' v.toInt64) H2 := q_J_set (by rfl) hP2
  refine lv_goto hx hb dw_cassette_10 rfl ?_
  refine lv_iconst (v := 0) hx hb dw_cassette_17 (by decide) ?_
  refine W.widen (k := 1) (n := 6) (by omega) (by omega) ?_
  exact W.iret hx hb hr (fun t ht _ => ⟨⟨0, (), rfl, rfl, by show va_P _ _ _ t.heap; rw [ht]; exact hJ2⟩, hS2.F ht⟩) hS2.2.2 dw_cassette_18
set_option maxHeartbeats 4000000 in
theorem w_cassette_t0 {l : Launch} {D : va_G} {ad : Nat → Nat} {cI cZ cQ : ClassId} {aO : Nat} {cL : ClassId} {h h' : HP} {o : Int64} {a b : Int32} (hfl : ∀ e : Env, l.admits e → e.platform.stackTraces = false) (hq : Ec 89 [.inr 0, .inl a, .inl b] h (.inr 0, h')) : q_MetL l D ad cI cZ cQ aO cL yw_cassette ws_cassette rw_cassette [.ref (ad 0), .int a, .int b, .ref aO] h o 1 h' o := by
  refine va_MetW (cc := method_21_code) (maxL := 5) (ret := some .int) q_pl rfl ?_
  intro p e s m args below meth c s₁ B hml hv
  obtain ⟨rfl, hJ, hSt, hThr, hKL, hNc, hO⟩ := hv
  have hx := B.exec
  have hb := B.bytes
  have hr := B.returns
  have hts0 := atoms_spec (ws := ws_cassette) B.pre
  have hts : ∀ w ∈ q_WS, w.before _ s = true := fun w hw => hts0 w (List.mem_cons_of_mem _ hw)
  have hown : s.vm.findClass "CashRecyclerLaw" = some m.cls := findClass_of_methodNamed B.named
  have hlk := B.notSynchronized
  have hl := lv_entry ([.ref (ad 0), .int a, .int b, .ref aO]) (n := 5) (Nat.le_of_ble_eq_true rfl)
  rw [lg_entry_eq]
  generalize (lg_sl ([.ref (ad 0), .int a, .int b, .ref aO]) ++ List.replicate (5 - (lg_sl ([.ref (ad 0), .int a, .int b, .ref aO])).length) Slot.unset).toArray = ls at hl ⊢
  have hl : lv_has ls 5 [(0, .ref (ad 0)), (1, .int a), (2, .int b), (3, .ref aO)] := hl
  have hP := q_J_W hJ
  have hS : va_S (q_AL ad aO) s.heap s.heap [] := va_S.rf
  obtain ⟨m9, meth9, c9, g1, g2, g3, -, -, g4, -⟩ := Cond.codeWith_spec (hts0 _ List.mem_cons_self)
  cases B.named.symm.trans g1
  cases B.method.symm.trans g2
  cases (Stand.of_body B).code.symm.trans g3
  obtain ⟨e1, hes, f1⟩ := q_es1 g4
  simp only [Prod.mk.injEq] at f1
  refine lv_aload_n hx hb dw_cassette_0 rfl (lv_at hl 3 rfl) ?_
  refine lv_iconst (v := 0) hx hb dw_cassette_1 (by decide) ?_
  refine lv_aload_n hx hb dw_cassette_2 rfl (lv_at hl 0 rfl) ?_
  refine lv_iload_n hx hb dw_cassette_3 rfl (lv_at hl 1 rfl) ?_
  refine lv_iload_n hx hb dw_cassette_4 rfl (lv_at hl 2 rfl) ?_
  refine q_utry hfl (j := 89) (ro := 0) (idx := 78) (x := 0) (hpc := 13) (as := [.inl a, .inl b]) (rest := [.int 0, .ref aO]) (A0 := q_AL ad aO) ⟨hx, hb, hml, hown, hts⟩ hSt.1 (by decide) (by decide) rfl hq rfl rfl (q_inAt lw_cassette rfl) (Nat.le_refl _) (Nat.le_refl _) (Nat.le_refl _) (Nat.le_refl _) hP hS (fun q z => Or.inl z) (fun U hU hW => ⟨q_Sta_at hSt va_S.rf hU hW, q_Thr_at hThr hP va_S.rf hU hW⟩) hl.1 rfl (Nat.le_of_ble_eq_true rfl) dw_cassette_5 hes ?_ (fun ex H1 locs1 hP1 hz hk hS1 => ?_)
  · intro U g ex ce z1 z2 z3 z4 z5 z6 hpl
    have key := q_fg_hit (e := e) (U := U) (f := g) (a := ex) (x := e1) (t := []) (own := "CashRecyclerLaw") (X := q_exN 0) (args := _) hpl z4 (by rw [z5]; exact hown) (by simp [covers, f1, z6]) (by rw [f1.2.2.2]; decide) (by rw [f1.2.2.2]; exact hts _ (q_inAt cl_13 rfl)) z1 z2 z3 (hThr.1.1 _ (by decide +kernel))
    rw [f1.2.2.1] at key
    exact key
  · have hJ1 : va_P D qCl (q_J ad cI cZ cQ aO cL h' o) H1 := q_J_mk hP1 (by rw [hk aO (Array.getElem?_eq_some_iff.mp (q_J_O hJ)).1 hO]; exact q_J_O hJ)
    refine lv_astore hx hb dw_cassette_13 hl (by decide) rfl (fun ls9 hl9 => ?_)
    refine lv_iconst (v := 1) hx hb dw_cassette_15 (by decide) ?_
    exact W.iret hx hb hr (fun t ht _ => ⟨⟨1, (), rfl, rfl, by show va_P _ _ _ t.heap; rw [ht]; exact hJ1⟩, hS1.F ht⟩) hS1.2.2 dw_cassette_16
theorem dw_belt_0 : decode method_22_code 0 = .ok (.aload_n 3, 1) := by decide +kernel
theorem dw_belt_1 : decode method_22_code 1 = .ok (.iconst 0, 1) := by decide +kernel
theorem dw_belt_2 : decode method_22_code 2 = .ok (.aload_n 0, 1) := by decide +kernel
theorem dw_belt_3 : decode method_22_code 3 = .ok (.iload_n 1, 1) := by decide +kernel
theorem dw_belt_4 : decode method_22_code 4 = .ok (.iload_n 2, 1) := by decide +kernel
theorem dw_belt_5 : decode method_22_code 5 = .ok (.invokevirtual 81, 3) := by decide +kernel
theorem dw_belt_8 : decode method_22_code 8 = .ok (.i2l, 1) := by decide +kernel
theorem dw_belt_9 : decode method_22_code 9 = .ok (.lastore, 1) := by decide +kernel
theorem dw_belt_10 : decode method_22_code 10 = .ok (.goto 7, 3) := by decide +kernel
theorem dw_belt_13 : decode method_22_code 13 = .ok (.astore 4, 2) := by decide +kernel
theorem dw_belt_15 : decode method_22_code 15 = .ok (.iconst 1, 1) := by decide +kernel
theorem dw_belt_16 : decode method_22_code 16 = .ok (.ireturn, 1) := by decide +kernel
theorem dw_belt_17 : decode method_22_code 17 = .ok (.iconst 0, 1) := by decide +kernel
theorem dw_belt_18 : decode method_22_code 18 = .ok (.ireturn, 1) := by decide +kernel
theorem lw_belt : lw_tbl[736]? = some (.methodLink "CashRecyclerLaw" 81 (qmY 90)) := by decide +kernel
abbrev yw_belt : MethodName := ⟨"CashRecyclerLaw", "belt", "(LCashRecycler;II[J)I"⟩
def ws_belt : List Cond := .codeWith yw_belt method_22_code 5 (some .int) [(0, 10, 13, 13)] :: q_WS
def rw_belt : Room := { frames := qmF 90 + 1, cells := 1, slots := 6, locals := 8 + (qmL 90 + 11) + qmW 90 }
set_option maxHeartbeats 4000000 in
theorem w_belt_r {l : Launch} {D : va_G} {ad : Nat → Nat} {cI cZ cQ : ClassId} {aO : Nat} {cL : ClassId} {h h' : HP} {o : Int64} {a b : Int32} {v : Int32} (hq : Ec 90 [.inr 0, .inl a, .inl b] h (.inl (some v), h')) : q_MetL l D ad cI cZ cQ aO cL yw_belt ws_belt rw_belt [.ref (ad 0), .int a, .int b, .ref aO] h o 0 h' v.toInt64 := by
  refine va_MetW (cc := method_22_code) (maxL := 5) (ret := some .int) q_pl rfl ?_
  intro p e s m args below meth c s₁ B hml hv
  obtain ⟨rfl, hJ, hSt, hThr, hKL, hNc, hO⟩ := hv
  have hx := B.exec
  have hb := B.bytes
  have hr := B.returns
  have hts0 := atoms_spec (ws := ws_belt) B.pre
  have hts : ∀ w ∈ q_WS, w.before _ s = true := fun w hw => hts0 w (List.mem_cons_of_mem _ hw)
  have hown : s.vm.findClass "CashRecyclerLaw" = some m.cls := findClass_of_methodNamed B.named
  have hlk := B.notSynchronized
  have hl := lv_entry ([.ref (ad 0), .int a, .int b, .ref aO]) (n := 5) (Nat.le_of_ble_eq_true rfl)
  rw [lg_entry_eq]
  generalize (lg_sl ([.ref (ad 0), .int a, .int b, .ref aO]) ++ List.replicate (5 - (lg_sl ([.ref (ad 0), .int a, .int b, .ref aO])).length) Slot.unset).toArray = ls at hl ⊢
  have hl : lv_has ls 5 [(0, .ref (ad 0)), (1, .int a), (2, .int b), (3, .ref aO)] := hl
  have hP := q_J_W hJ
  have hS : va_S (q_AL ad aO) s.heap s.heap [] := va_S.rf
  refine lv_aload_n hx hb dw_belt_0 rfl (lv_at hl 3 rfl) ?_
  refine lv_iconst (v := 0) hx hb dw_belt_1 (by decide) ?_
  refine lv_aload_n hx hb dw_belt_2 rfl (lv_at hl 0 rfl) ?_
  refine lv_iload_n hx hb dw_belt_3 rfl (lv_at hl 1 rfl) ?_
  refine lv_iload_n hx hb dw_belt_4 rfl (lv_at hl 2 rfl) ?_
  refine q_ucall (j := 90) (ro := 0) (idx := 81) (as := [.inl a, .inl b]) (rest := [.int 0, .ref aO]) (A0 := q_AL ad aO) ⟨hx, hb, hml, hown, hts⟩ hSt.1 (by decide) (by decide) rfl hq rfl rfl (q_inAt lw_belt rfl) (Nat.le_refl _) (Nat.le_refl _) (Nat.zero_le _) (Nat.zero_le _) hP hS (fun q z => Or.inl z) (fun U hU hW => q_Sta_at hSt va_S.rf hU hW) hl.1 rfl (Nat.le_of_ble_eq_true rfl) dw_belt_5 (fun H1 locs1 hP1 hz hk hS1 => ?_)
  have hJ1 : va_P D qCl (q_J ad cI cZ cQ aO cL h' o) H1 := q_J_mk hP1 (by rw [hk aO (Array.getElem?_eq_some_iff.mp (q_J_O hJ)).1 hO]; exact q_J_O hJ)
  refine lv_i2l (v := v.toInt64) hx hb dw_belt_8 rfl ?_
  refine va_last (D := D) (cl := qCl) (H0 := s.heap) (A := q_AL ad aO) hx hb hKL hJ1 (q_J_D hSt.2.2.2.2 hO (fun _ z => z)) hS1 47 0 q_J_47 rfl q_in01 dw_belt_9 (fun H2 locs2 hP2 hD2 hS2 => ?_)
  have hJ2 : va_P D qCl (q_J ad cI cZ cQ aO cL h' v.toInt64) H2 := q_J_set (by rfl) hP2
  refine lv_goto hx hb dw_belt_10 rfl ?_
  refine lv_iconst (v := 0) hx hb dw_belt_17 (by decide) ?_
  refine W.widen (k := 1) (n := 6) (by omega) (by omega) ?_
  exact W.iret hx hb hr (fun t ht _ => ⟨⟨0, (), rfl, rfl, by show va_P _ _ _ t.heap; rw [ht]; exact hJ2⟩, hS2.F ht⟩) hS2.2.2 dw_belt_18
set_option maxHeartbeats 4000000 in
theorem w_belt_t0 {l : Launch} {D : va_G} {ad : Nat → Nat} {cI cZ cQ : ClassId} {aO : Nat} {cL : ClassId} {h h' : HP} {o : Int64} {a b : Int32} (hfl : ∀ e : Env, l.admits e → e.platform.stackTraces = false) (hq : Ec 90 [.inr 0, .inl a, .inl b] h (.inr 0, h')) : q_MetL l D ad cI cZ cQ aO cL yw_belt ws_belt rw_belt [.ref (ad 0), .int a, .int b, .ref aO] h o 1 h' o := by
  refine va_MetW (cc := method_22_code) (maxL := 5) (ret := some .int) q_pl rfl ?_
  intro p e s m args below meth c s₁ B hml hv
  obtain ⟨rfl, hJ, hSt, hThr, hKL, hNc, hO⟩ := hv
  have hx := B.exec
  have hb := B.bytes
  have hr := B.returns
  have hts0 := atoms_spec (ws := ws_belt) B.pre
  have hts : ∀ w ∈ q_WS, w.before _ s = true := fun w hw => hts0 w (List.mem_cons_of_mem _ hw)
  have hown : s.vm.findClass "CashRecyclerLaw" = some m.cls := findClass_of_methodNamed B.named
  have hlk := B.notSynchronized
  have hl := lv_entry ([.ref (ad 0), .int a, .int b, .ref aO]) (n := 5) (Nat.le_of_ble_eq_true rfl)
  rw [lg_entry_eq]
  generalize (lg_sl ([.ref (ad 0), .int a, .int b, .ref aO]) ++ List.replicate (5 - (lg_sl ([.ref (ad 0), .int a, .int b, .ref aO])).length) Slot.unset).toArray = ls at hl ⊢
  have hl : lv_has ls 5 [(0, .ref (ad 0)), (1, .int a), (2, .int b), (3, .ref aO)] := hl
  have hP := q_J_W hJ
  have hS : va_S (q_AL ad aO) s.heap s.heap [] := va_S.rf
  obtain ⟨m9, meth9, c9, g1, g2, g3, -, -, g4, -⟩ := Cond.codeWith_spec (hts0 _ List.mem_cons_self)
  cases B.named.symm.trans g1
  cases B.method.symm.trans g2
  cases (Stand.of_body B).code.symm.trans g3
  obtain ⟨e1, hes, f1⟩ := q_es1 g4
  simp only [Prod.mk.injEq] at f1
  refine lv_aload_n hx hb dw_belt_0 rfl (lv_at hl 3 rfl) ?_
  refine lv_iconst (v := 0) hx hb dw_belt_1 (by decide) ?_
  refine lv_aload_n hx hb dw_belt_2 rfl (lv_at hl 0 rfl) ?_
  refine lv_iload_n hx hb dw_belt_3 rfl (lv_at hl 1 rfl) ?_
  refine lv_iload_n hx hb dw_belt_4 rfl (lv_at hl 2 rfl) ?_
  refine q_utry hfl (j := 90) (ro := 0) (idx := 81) (x := 0) (hpc := 13) (as := [.inl a, .inl b]) (rest := [.int 0, .ref aO]) (A0 := q_AL ad aO) ⟨hx, hb, hml, hown, hts⟩ hSt.1 (by decide) (by decide) rfl hq rfl rfl (q_inAt lw_belt rfl) (Nat.le_refl _) (Nat.le_refl _) (Nat.le_refl _) (Nat.le_refl _) hP hS (fun q z => Or.inl z) (fun U hU hW => ⟨q_Sta_at hSt va_S.rf hU hW, q_Thr_at hThr hP va_S.rf hU hW⟩) hl.1 rfl (Nat.le_of_ble_eq_true rfl) dw_belt_5 hes ?_ (fun ex H1 locs1 hP1 hz hk hS1 => ?_)
  · intro U g ex ce z1 z2 z3 z4 z5 z6 hpl
    have key := q_fg_hit (e := e) (U := U) (f := g) (a := ex) (x := e1) (t := []) (own := "CashRecyclerLaw") (X := q_exN 0) (args := _) hpl z4 (by rw [z5]; exact hown) (by simp [covers, f1, z6]) (by rw [f1.2.2.2]; decide) (by rw [f1.2.2.2]; exact hts _ (q_inAt cl_13 rfl)) z1 z2 z3 (hThr.1.1 _ (by decide +kernel))
    rw [f1.2.2.1] at key
    exact key
  · have hJ1 : va_P D qCl (q_J ad cI cZ cQ aO cL h' o) H1 := q_J_mk hP1 (by rw [hk aO (Array.getElem?_eq_some_iff.mp (q_J_O hJ)).1 hO]; exact q_J_O hJ)
    refine lv_astore hx hb dw_belt_13 hl (by decide) rfl (fun ls9 hl9 => ?_)
    refine lv_iconst (v := 1) hx hb dw_belt_15 (by decide) ?_
    exact W.iret hx hb hr (fun t ht _ => ⟨⟨1, (), rfl, rfl, by show va_P _ _ _ t.heap; rw [ht]; exact hJ1⟩, hS1.F ht⟩) hS1.2.2 dw_belt_16
end
section
/-! WHAT THE LAW'S OWN WALK KNOWS, and its calls of the small methods. -/
def q_A0 (s : State) : Nat → Prop := fun q => s.heap.size ≤ q
/-- what holds at the law's start, and is used at every call -/
def q_Law (D : va_G) (ad : Nat → Nat) (cI cZ cQ : ClassId) (aO : Nat) (cL : ClassId) (s : State) : Prop :=
  (va_K D qCl (q_Tys cI cZ cQ) s ∧ va_Z "CashRecycler" "GOAL_SEGMENT" "[I" (.ref (ad qGS)) (q_A0 s) s s.heap ∧ va_T .int (ad qGS) 9 (fun k => .int (qGf k)) (q_A0 s) s s.heap ∧ q_Nest s ∧ ∀ i j, i < qNW → j < qNW → ad i = ad j → i = j) ∧
  (((∀ x ∈ qEx, va_Nw (.castable x x) s) ∧ ∀ y ∈ q_dcl, va_Nw (.declares y) s) ∧ (va_Zq "java/lang/Throwable" "UNASSIGNED_STACK" q_steD (q_A0 s) s s.heap ∧ va_Zq "java/lang/Throwable" "SUPPRESSED_SENTINEL" q_lisD (q_A0 s) s s.heap) ∧
    va_Nw (.laysStatic "java/lang/Throwable" "UNASSIGNED_STACK" q_steD) s ∧ va_Nw (.laysStatic "java/lang/Throwable" "SUPPRESSED_SENTINEL" q_lisD) s) ∧
  va_K D qCl [(cL, .long)] s ∧ (∀ X ∈ qEx, ∀ Y ∈ qEx, X ≠ Y → va_Nc X Y s) ∧ ¬ q_A ad aO ∧ (∀ q, q_AL ad aO q → q_A0 s q)
theorem q_ls0 {s U : State} {H : Heap} {locs : List Loc} {C n d : String} (hS : va_S (q_A0 s) s.heap H locs) (hU : U.heap = H) (hW : s.WarmedH U.vm) (hl : va_Nw (.laysStatic C n d) s) : va_Nw (.laysStatic C n d) U := by
  have h1 : (Cond.laysStatic C n d).before #[] (s.setVm U.vm) = true := Cond.before_shiftedFace (State.Shifted.of_warmed hW) _ rfl hl
  obtain ⟨c, k, i, f, a, cell, g1, g2, g3, g4, g5, g6, g7, g8, g9⟩ := Cond.laysStatic_spec (args := #[]) (first := s.setVm U.vm) (o := none) (s := s.setVm U.vm) (idx := []) h1
  have g5' : s.heap[a]? = some cell := g5
  have hlt := (Array.getElem?_eq_some_iff.mp g5').1
  have e5 : U.heap[a]? = some cell := by rw [hU, hS.2.1 a hlt (fun z => by have : s.heap.size ≤ a := z; omega)]; exact g5'
  have e1 : U.vm.findClass C = some c := g1
  have e2 : U.fieldFound? C n d = some (c, k, i, f) := g2
  show (Cond.laysStatic C n d).before #[] U = true
  simp [Cond.before, Cond.holds, Cond.value, e1, e2, g3, g4, e5, g6, g7, g8, g9]
section QLAW
variable {D : va_G} {ad : Nat → Nat} {cI cZ cQ cL : ClassId} {aO : Nat} {s U : State} {H : Heap} {locs : List Loc} {h : HP} {o : Int64}
theorem q_Law_sta (hL : q_Law D ad cI cZ cQ aO cL s) (hS : va_S (q_A0 s) s.heap H locs) (hU : U.heap = H) (hW : s.WarmedH U.vm) : q_Sta D ad cI cZ cQ U := by
  obtain ⟨⟨hK, hZ, hT, hN, hap⟩, -, -, -, -, hA⟩ := hL
  subst hU
  exact ⟨va_K.moved hW.alike hK, ((hZ.kept hS.2.1).moved hW.alike).narrow (fun q z => hA q (Or.inl z)), ((hT.kept hS.2.1).moved hW.alike).narrow (fun q z => hA q (Or.inl z)), ⟨hN.1.warmM hW, hN.2.warmF hW⟩, hap⟩
theorem q_Law_thr (hL : q_Law D ad cI cZ cQ aO cL s) (hS : va_S (q_A0 s) s.heap H locs) (hU : U.heap = H) (hW : s.WarmedH U.vm) : q_Thr ad U := by
  obtain ⟨-, ⟨⟨t1, t2⟩, ⟨t3, t4⟩, t5, t6⟩, -, -, -, hA⟩ := hL
  have e1 := q_ls0 hS hU hW t5
  have e2 := q_ls0 hS hU hW t6
  subst hU
  exact ⟨⟨fun x hx => (t1 x hx).warmC hW, fun y hy => (t2 y hy).warmD hW⟩, ⟨((t3.kept hS.2.1).moved hW.alike).narrow (fun q z => hA q (Or.inl z)), ((t4.kept hS.2.1).moved hW.alike).narrow (fun q z => hA q (Or.inl z))⟩, e1, e2⟩
theorem q_Law_pre (hL : q_Law D ad cI cZ cQ aO cL s) (hS : va_S (q_A0 s) s.heap H locs) (hJ : va_P D qCl (q_J ad cI cZ cQ aO cL h o) H) (hU : U.heap = H) (hW : s.WarmedH U.vm) : q_PreL D ad cI cZ cQ aO cL h o U := by
  have h1 := q_Law_sta hL hS hU hW
  have h2 := q_Law_thr hL hS hU hW
  obtain ⟨-, -, hKL, hNc, hO, -⟩ := hL
  subst hU
  exact ⟨hJ, h1, h2, va_K.moved hW.alike hKL, fun X hX Y hY hne => (hNc X hX Y hY hne).moved hW.alike, hO⟩
end QLAW
theorem q_blindL {D : va_G} {ad : Nat → Nat} {cI cZ cQ cL : ClassId} {aO : Nat} {as : List Value} {h : HP} {o : Int64} : FrameBlind (va_Pc as (q_PreL D ad cI cZ cQ aO cL h o)) := by
  intro a U g mk hv
  obtain ⟨h0, hJ, ⟨hK, hZ, hT, hN, hap⟩, ⟨⟨t1, t2⟩, ⟨t3, t4⟩, t5, t6⟩, hKL, hNc, hO⟩ := hv
  exact ⟨h0, hJ, ⟨va_K.moved (u := U) (U := U.calling g mk a) (Vm.Alike.refl U.vm) hK, va_Z.moved (u := U) (U := U.calling g mk a) (Vm.Alike.refl U.vm) hZ, va_T.moved (u := U) (U := U.calling g mk a) (Vm.Alike.refl U.vm) hT, ⟨hN.1.same rfl rfl, hN.2.same rfl rfl⟩, hap⟩,
    ⟨⟨fun x hx => (t1 x hx).same rfl rfl, fun y hy => (t2 y hy).same rfl rfl⟩, ⟨va_Zq.moved (u := U) (U := U.calling g mk a) (Vm.Alike.refl U.vm) t3, va_Zq.moved (u := U) (U := U.calling g mk a) (Vm.Alike.refl U.vm) t4⟩, t5, t6⟩,
    va_K.moved (u := U) (U := U.calling g mk a) (Vm.Alike.refl U.vm) hKL, fun X hX Y hY hne => (hNc X hX Y hY hne).moved (u := U) (U := U.calling g mk a) (Vm.Alike.refl U.vm), hO⟩
section QSW
variable {p : Program} {l : Launch} {e : Env} {R : Room} {s : State} {m : MethodId} {args : Array Value} {below : List Frame} {meth : Method} {c : Code} {H : Heap} {locs : List Loc} {cells slots : Nat} {Q : State → Prop}
variable {y : MethodName} {bytes cc : ByteArray} {maxL nL mc ms n index : Nat} {ret : Option FieldType} {hh : List (Nat × Nat × Nat × Nat)} {ws : List Cond} {rm : Room} {Pc : Array Value → State → Prop} {Qc : Array Value → State → Outcome → State → Prop} {free : Addr → Prop} {Ts : List Cond} {own : String} {As rest : List Value} {g : JFrame}
/-- a call of a static method that has handlers -/
theorem q_runSW (S : CallFix p m c cc nL s args Ts own) (hM : Met l y ws rm Pc Qc mc ms free) (hrc : rm.cells = mc) (hrs : rm.slots = ms) (hfr : rm.frames + 1 ≤ R.frames) (hlo : 8 + (maxL + 11) + rm.locals ≤ R.locals)
    (hws : ∀ w ∈ ws, ∀ (a' : Array Value) (U : State), s.WarmedH U.vm → w.before a' U = true) (hcw : Cond.codeWith y bytes maxL ret hh ∈ ws) (hcode : (Cond.codeWith y bytes maxL ret hh).before args s = true) (hini : (Cond.initialized y.cls).before args s = true) (hstat : (Cond.static y).before args s = true)
    (hl : (Cond.methodLink own index y).before args s = true) (hy : y.cls ≠ "java/lang/invoke/MethodHandle" ∧ y.cls ≠ "java/lang/invoke/VarHandle") (hlen : ∀ sig, parseMethodDescriptor y.desc = some sig → As.length = sig.parameters.length) (hp : PreS s H Pc As)
    (hg : g.method = m) (hsize : g.locals.size = nL) (hstack : g.stack = As.reverse ++ rest) (hW : 2 * g.monitorRoom + (rest.map fun v => v.category).sum ≤ 8) (hdg : decode cc g.pc = .ok (.invokestatic index, 3)) (hf : cells + mc ≤ R.cells ∧ slots + ms ≤ R.slots) :
    va_Run p l e R s m args below meth c H locs cells slots mc ms g rest (Qc As.toArray) (free) := by
  obtain ⟨hx, hb, hml, ho, -⟩ := S
  subst hb
  have hK : Back l R p e below s args y 3 8 (PreOf R mc ms Pc) (PostOf Qc mc ms free) := va_backW (hh := hh) (bytes := bytes) (maxL := maxL) (ret := ret) hM hp.1 hrc hrs hfr hlo hws hcw (fun a' U hW => word_at hW (Or.inl rfl) hini)
  obtain ⟨mk, methM, cM, hnamed, hmethM, -, -, -, -, -, -, hsig⟩ := Cond.codeWith_spec hcode
  have hstatic : methM.isStatic = true := Cond.static_spec hnamed hmethM hstat
  obtain ⟨kP, hkP, -⟩ := className_of_methodNamed hnamed
  have hinitP : kP.init = .initialized := Cond.initialized_spec (findClass_of_methodNamed hnamed) hkP hini
  intro T hT X
  obtain ⟨vm₁, X₁, hstep₁⟩ := X.invokestatic hx ho hl hnamed hmethM hstatic hkP hinitP hy (g := g) hg (argsL := As) (rest := rest) (hlen _ hsig) hstack hdg
  obtain ⟨v, ⟨U', l2, c2, s2⟩, X', ⟨g', mk', t, L, e1, e2, hq, h1, hL, h2, h3⟩, hsteps⟩ := hK m meth c ⟨T.setVm vm₁, locs, cells, slots⟩ { g with stack := rest } (.invokestatic index) mk As.toArray X₁ hg (hsize.trans hml.symm) hdg hW (X₁.named hnamed) ⟨hf.1, hf.2, hp.2 (T.setVm vm₁) hT X₁.warmed⟩
  dsimp only [Pt.U, Pt.locs, Pt.cells, Pt.slots] at X' e1 e2 h1 h2 h3 hsteps
  subst h1; subst h2; subst h3
  exact ⟨v, (T.setVm vm₁).calling g' mk' As.toArray, t, U', L, hT, X', hL, e1, e2, hq, fun target h => hstep₁ _ fun acts => by rw [doInvoke_state]; exact hsteps.trans h⟩
end QSW
end
section
/-! ROWS FOR WALKS OF THE PURE MACHINE: a row of code is looked up, and what it does is computed, both by rfl. -/
section EROWS
variable {j pc n : Nat} {i : Instr} {ax : List Nat} {l : PL} {st : List PV} {h : HP} {r : PO}
theorem e_p1 (hc : pe_at (qCod j) pc = some (i, n, ax)) : p1 j (pc, l, st, h) = p1i j i n ax pc l st h := by
  simp only [p1, hc]
theorem e_st {pc' : Nat} {l' : PL} {st' : List PV} {h' : HP} (hc : pe_at (qCod j) pc = some (i, n, ax)) (hs : p1i j i n ax pc l st h = some (.inl (pc', l', st', h'))) (k : Ev j (pc', l', st', h') r) : Ev j (pc, l, st, h) r :=
  e_step (by rw [e_p1 hc, hs]) k
/-- a check that must not hold (an index that is out, a divisor that is zero) -/
theorem e_no {pc' : Nat} {l' : PL} {st' : List PV} {h' : HP} {P : Prop} [Decidable P] (hc : pe_at (qCod j) pc = some (i, n, ax)) (hs : p1i j i n ax pc l st h = if P then none else some (.inl (pc', l', st', h'))) (hP : ¬ P) (k : Ev j (pc', l', st', h') r) : Ev j (pc, l, st, h) r :=
  e_step (by rw [e_p1 hc, hs, if_neg hP]) k
/-- a check that must hold -/
theorem e_yes {pc' : Nat} {l' : PL} {st' : List PV} {h' : HP} {P : Prop} [Decidable P] (hc : pe_at (qCod j) pc = some (i, n, ax)) (hs : p1i j i n ax pc l st h = if P then some (.inl (pc', l', st', h')) else none) (hP : P) (k : Ev j (pc', l', st', h') r) : Ev j (pc, l, st, h) r :=
  e_step (by rw [e_p1 hc, hs, if_pos hP]) k
/-- a branch -/
theorem e_br {p1' p2' : Nat} {l1 l2 : PL} {s1 s2 : List PV} {h1 h2 : HP} {P : Prop} [Decidable P] (hc : pe_at (qCod j) pc = some (i, n, ax)) (hs : p1i j i n ax pc l st h = if P then some (.inl (p1', l1, s1, h1)) else some (.inl (p2', l2, s2, h2))) (k1 : P → Ev j (p1', l1, s1, h1) r) (k2 : ¬ P → Ev j (p2', l2, s2, h2) r) : Ev j (pc, l, st, h) r := by
  by_cases hP : P
  · exact e_step (by rw [e_p1 hc, hs, if_pos hP]) (k1 hP)
  · exact e_step (by rw [e_p1 hc, hs, if_neg hP]) (k2 hP)
theorem e_t {p1' p2' : Nat} {l1 l2 : PL} {s1 s2 : List PV} {h1 h2 : HP} {P : Prop} [Decidable P] (hc : pe_at (qCod j) pc = some (i, n, ax)) (hs : p1i j i n ax pc l st h = if P then some (.inl (p1', l1, s1, h1)) else some (.inl (p2', l2, s2, h2))) (hP : P) (k1 : Ev j (p1', l1, s1, h1) r) : Ev j (pc, l, st, h) r :=
  e_step (by rw [e_p1 hc, hs, if_pos hP]) k1
theorem e_f {p1' p2' : Nat} {l1 l2 : PL} {s1 s2 : List PV} {h1 h2 : HP} {P : Prop} [Decidable P] (hc : pe_at (qCod j) pc = some (i, n, ax)) (hs : p1i j i n ax pc l st h = if P then some (.inl (p1', l1, s1, h1)) else some (.inl (p2', l2, s2, h2))) (hP : ¬ P) (k2 : Ev j (p2', l2, s2, h2) r) : Ev j (pc, l, st, h) r :=
  e_step (by rw [e_p1 hc, hs, if_neg hP]) k2
theorem e_end (hc : pe_at (qCod j) pc = some (i, n, ax)) (hs : p1i j i n ax pc l st h = some (.inr (.inl r))) : Ev j (pc, l, st, h) r :=
  e_ret (by rw [e_p1 hc, hs])
theorem e_endY {P : Prop} [Decidable P] (hc : pe_at (qCod j) pc = some (i, n, ax)) (hs : p1i j i n ax pc l st h = if P then some (.inr (.inl r)) else none) (hP : P) : Ev j (pc, l, st, h) r :=
  e_ret (by rw [e_p1 hc, hs, if_pos hP])
theorem e_ca {j' : Nat} {as t : List PV} {v : Option Int32} {h' : HP} {P : Prop} [Decidable P] (hc : pe_at (qCod j) pc = some (i, n, ax)) (hs : p1i j i n ax pc l st h = if P then some (.inr (.inr (j', as, t))) else none) (hP : P) (q : Ec j' as h (.inl v, h')) (k : Ev j (pc + 3, l, (v.map Sum.inl).toList ++ t, h') r) : Ev j (pc, l, st, h) r :=
  e_call (by rw [e_p1 hc, hs, if_pos hP]) q k
end EROWS
end
section
/-! THE LAW CALLS one of its small methods. -/
theorem l_init : lw_tbl[41]? = some (.initialized "CashRecyclerLaw") := by decide +kernel
section QLC
variable {p : Program} {l : Launch} {e : Env} {R : Room} {s : State} {m : MethodId} {args : Array Value} {below : List Frame} {meth : Method} {c : Code} {H : Heap} {locs : List Loc} {cells slots : Nat} {Q : State → Prop}
variable {D : va_G} {ad : Nat → Nat} {cI cZ cQ cL : ClassId} {aO : Nat} {h h1 : HP} {o o1 : Int64} {k : Int32} {cc : ByteArray} {nL : Nat}
theorem q_lcall {y : MethodName} {bytes : ByteArray} {maxL idx pc : Nat} {hh : List (Nat × Nat × Nat × Nat)} {av st0 : List Value} {rm : Room} {ls : Array Slot} (S : CallFix p m c cc nL s args q_WS "CashRecyclerLaw") (hL : q_Law D ad cI cZ cQ aO cL s) (hM : q_MetL l D ad cI cZ cQ aO cL y (.codeWith y bytes maxL (some .int) hh :: q_WS) rm av h o k h1 o1)
    (hrc : rm.cells = 1) (hrs : rm.slots = 6) (hfr : rm.frames + 1 ≤ R.frames) (hlo : 8 + (maxL + 11) + rm.locals ≤ R.locals) (hcw : Cond.codeWith y bytes maxL (some .int) hh ∈ q_WS) (hst : Cond.static y ∈ q_WS) (hlk : Cond.methodLink "CashRecyclerLaw" idx y ∈ q_WS) (hy : y.cls = "CashRecyclerLaw") (hd : (parseMethodDescriptor y.desc).map (fun d => d.parameters.length) = some av.length)
    (hJ : va_P D qCl (q_J ad cI cZ cQ aO cL h o) H) (hS : va_S (q_A0 s) s.heap H locs) (hc : cells + 1 ≤ R.cells) (hs : slots + 6 ≤ R.slots) (hsize : ls.size = nL) (hstk : st0 = av.reverse) (hdg : decode cc pc = .ok (.invokestatic idx, 3))
    (kk : ∀ (H1 : Heap) (locs1 : List Loc), va_P D qCl (q_J ad cI cZ cQ aO cL h1 o1) H1 → va_S (q_A0 s) s.heap H1 locs1 → W p l e R s m args below meth c H1 locs1 (cells + 1) (slots + 6) Q (F0 m (pc + 3) ls [.int k])) : W p l e R s m args below meth c H locs cells slots Q (F0 m pc ls st0) := by
  have hts := S.2.2.2.2
  have hrun := q_runSW (p := p) (l := l) (e := e) (R := R) (s := s) (m := m) (args := args) (below := below) (meth := meth) (c := c) (H := H) (locs := locs) (cells := cells) (slots := slots) (g := F0 m pc ls st0) (As := av) (rest := []) S hM hrc hrs hfr hlo
    (pay_in hts (fun w hw => by
      rcases List.mem_cons.mp hw with rfl | hw
      · exact ⟨hcw, Or.inl rfl⟩
      · exact ⟨hw, good_of_word (List.mem_filter.mp hw).2⟩)) List.mem_cons_self (hts _ hcw) (by rw [hy]; exact hts _ (q_inAt l_init rfl)) (hts _ hst) (hts _ hlk) (by rw [hy]; decide)
    (fun sig hsig => by rw [hsig] at hd; exact (Option.some.inj hd).symm) ⟨q_blindL, fun U hU hWU => ⟨rfl, q_Law_pre hL hS hJ hU hWU⟩⟩ rfl hsize (by rw [hstk, List.append_nil]) (by show 2 * 0 + 0 ≤ 8; omega) hdg ⟨hc, hs⟩
  refine va_calli (S := Unit) (a := av.toArray) (H0 := s.heap) (A0 := q_A0 s) hrun hS (fun q _ z => hL.2.2.2.2.2 q z) (fun q z => hL.2.2.2.2.2 q z) (fun k9 u9 t9 H1 locs1 ht9 hvm9 hk9 hB9 hz9 hkk9 hS1 => ?_)
  have hk9 : k9 = k := hk9
  subst hk9
  have hJ1 : va_P D qCl (q_J ad cI cZ cQ aO cL h1 o1) t9.heap := hB9
  rw [ht9] at hJ1
  exact kk H1 locs1 hJ1 hS1
end QLC
end
section
/-! the law's instructions, 1 -/
theorem dl_0 : decode code 0 = .ok (.new 8, 3) := by decide +kernel
theorem dl_3 : decode code 3 = .ok (.dup, 1) := by decide +kernel
theorem dl_4 : decode code 4 = .ok (.invokespecial 84, 3) := by decide +kernel
theorem dl_7 : decode code 7 = .ok (.astore_n 1, 1) := by decide +kernel
theorem dl_8 : decode code 8 = .ok (.new 85, 3) := by decide +kernel
theorem dl_11 : decode code 11 = .ok (.dup, 1) := by decide +kernel
theorem dl_12 : decode code 12 = .ok (.invokespecial 87, 3) := by decide +kernel
theorem dl_15 : decode code 15 = .ok (.astore_n 2, 1) := by decide +kernel
theorem dl_16 : decode code 16 = .ok (.iconst 1, 1) := by decide +kernel
theorem dl_17 : decode code 17 = .ok (.newarray .long, 2) := by decide +kernel
theorem dl_19 : decode code 19 = .ok (.astore_n 3, 1) := by decide +kernel
theorem dl_20 : decode code 20 = .ok (.iconst 0, 1) := by decide +kernel
theorem dl_21 : decode code 21 = .ok (.istore 4, 2) := by decide +kernel
theorem dl_23 : decode code 23 = .ok (.iload 4, 2) := by decide +kernel
theorem dl_25 : decode code 25 = .ok (.aload_n 0, 1) := by decide +kernel
theorem dl_26 : decode code 26 = .ok (.arraylength, 1) := by decide +kernel
theorem dl_27 : decode code 27 = .ok (.iconst 3, 1) := by decide +kernel
theorem dl_28 : decode code 28 = .ok (.isub, 1) := by decide +kernel
theorem dl_29 : decode code 29 = .ok (.if_icmp .gt 1191, 3) := by decide +kernel
theorem dl_32 : decode code 32 = .ok (.aload_n 0, 1) := by decide +kernel
theorem dl_33 : decode code 33 = .ok (.iload 4, 2) := by decide +kernel
theorem dl_35 : decode code 35 = .ok (.iaload, 1) := by decide +kernel
theorem dl_36 : decode code 36 = .ok (.bipush 31, 2) := by decide +kernel
theorem dl_38 : decode code 38 = .ok (.iand, 1) := by decide +kernel
theorem dl_39 : decode code 39 = .ok (.tableswitch 1175 0 23 #[109, 165, 221, 245, 269, 293, 349, 417, 473, 486, 522, 546, 602, 665, 709, 722, 773, 821, 889, 945, 958, 1026, 1094, 1162], 109) := by decide +kernel
theorem dl_148 : decode code 148 = .ok (.aload_n 1, 1) := by decide +kernel
theorem dl_149 : decode code 149 = .ok (.aload_n 0, 1) := by decide +kernel
theorem dl_150 : decode code 150 = .ok (.iload 4, 2) := by decide +kernel
theorem dl_152 : decode code 152 = .ok (.iconst 1, 1) := by decide +kernel
theorem dl_153 : decode code 153 = .ok (.iadd, 1) := by decide +kernel
theorem dl_154 : decode code 154 = .ok (.iaload, 1) := by decide +kernel
theorem dl_155 : decode code 155 = .ok (.aload_n 3, 1) := by decide +kernel
theorem dl_156 : decode code 156 = .ok (.invokestatic 88, 3) := by decide +kernel
theorem dl_159 : decode code 159 = .ok (.istore 5, 2) := by decide +kernel
theorem dl_161 : decode code 161 = .ok (.aload_n 2, 1) := by decide +kernel
theorem dl_162 : decode code 162 = .ok (.aload_n 0, 1) := by decide +kernel
theorem dl_163 : decode code 163 = .ok (.iload 4, 2) := by decide +kernel
theorem dl_165 : decode code 165 = .ok (.iconst 1, 1) := by decide +kernel
theorem dl_166 : decode code 166 = .ok (.iadd, 1) := by decide +kernel
theorem dl_167 : decode code 167 = .ok (.iaload, 1) := by decide +kernel
theorem dl_168 : decode code 168 = .ok (.invokevirtual 93, 3) := by decide +kernel
theorem dl_171 : decode code 171 = .ok (.istore 6, 2) := by decide +kernel
theorem dl_173 : decode code 173 = .ok (.aload_n 2, 1) := by decide +kernel
theorem dl_174 : decode code 174 = .ok (.invokevirtual 94, 3) := by decide +kernel
theorem dl_177 : decode code 177 = .ok (.iload 5, 2) := by decide +kernel
theorem dl_179 : decode code 179 = .ok (.if_icmp .eq 5, 3) := by decide +kernel
theorem dl_182 : decode code 182 = .ok (.iconst 0, 1) := by decide +kernel
theorem dl_183 : decode code 183 = .ok (.ireturn, 1) := by decide +kernel
theorem dl_184 : decode code 184 = .ok (.iload 5, 2) := by decide +kernel
theorem dl_186 : decode code 186 = .ok (.ifCond .ne 15, 3) := by decide +kernel
theorem dl_189 : decode code 189 = .ok (.aload_n 3, 1) := by decide +kernel
theorem dl_190 : decode code 190 = .ok (.iconst 0, 1) := by decide +kernel
theorem dl_191 : decode code 191 = .ok (.laload, 1) := by decide +kernel
theorem dl_192 : decode code 192 = .ok (.iload 6, 2) := by decide +kernel
theorem dl_194 : decode code 194 = .ok (.i2l, 1) := by decide +kernel
theorem dl_195 : decode code 195 = .ok (.lcmp, 1) := by decide +kernel
theorem dl_196 : decode code 196 = .ok (.ifCond .eq 5, 3) := by decide +kernel
theorem dl_199 : decode code 199 = .ok (.iconst 0, 1) := by decide +kernel
theorem dl_200 : decode code 200 = .ok (.ireturn, 1) := by decide +kernel
theorem dl_201 : decode code 201 = .ok (.goto 1013, 3) := by decide +kernel
theorem dl_204 : decode code 204 = .ok (.aload_n 1, 1) := by decide +kernel
theorem dl_205 : decode code 205 = .ok (.aload_n 0, 1) := by decide +kernel
theorem dl_206 : decode code 206 = .ok (.iload 4, 2) := by decide +kernel
theorem dl_208 : decode code 208 = .ok (.iconst 1, 1) := by decide +kernel
theorem dl_209 : decode code 209 = .ok (.iadd, 1) := by decide +kernel
theorem dl_210 : decode code 210 = .ok (.iaload, 1) := by decide +kernel
theorem dl_211 : decode code 211 = .ok (.aload_n 3, 1) := by decide +kernel
theorem dl_212 : decode code 212 = .ok (.invokestatic 97, 3) := by decide +kernel
theorem dl_215 : decode code 215 = .ok (.istore 5, 2) := by decide +kernel
theorem dl_217 : decode code 217 = .ok (.aload_n 2, 1) := by decide +kernel
theorem dl_218 : decode code 218 = .ok (.aload_n 0, 1) := by decide +kernel
theorem dl_219 : decode code 219 = .ok (.iload 4, 2) := by decide +kernel
theorem dl_221 : decode code 221 = .ok (.iconst 1, 1) := by decide +kernel
theorem dl_222 : decode code 222 = .ok (.iadd, 1) := by decide +kernel
theorem dl_223 : decode code 223 = .ok (.iaload, 1) := by decide +kernel
theorem dl_224 : decode code 224 = .ok (.invokevirtual 99, 3) := by decide +kernel
theorem dl_227 : decode code 227 = .ok (.istore 6, 2) := by decide +kernel
theorem dl_229 : decode code 229 = .ok (.aload_n 2, 1) := by decide +kernel
theorem dl_230 : decode code 230 = .ok (.invokevirtual 94, 3) := by decide +kernel
theorem dl_233 : decode code 233 = .ok (.iload 5, 2) := by decide +kernel
theorem dl_235 : decode code 235 = .ok (.if_icmp .eq 5, 3) := by decide +kernel
theorem dl_238 : decode code 238 = .ok (.iconst 0, 1) := by decide +kernel
theorem dl_239 : decode code 239 = .ok (.ireturn, 1) := by decide +kernel
theorem dl_240 : decode code 240 = .ok (.iload 5, 2) := by decide +kernel
theorem dl_242 : decode code 242 = .ok (.ifCond .ne 15, 3) := by decide +kernel
theorem dl_245 : decode code 245 = .ok (.aload_n 3, 1) := by decide +kernel
theorem dl_246 : decode code 246 = .ok (.iconst 0, 1) := by decide +kernel
theorem dl_247 : decode code 247 = .ok (.laload, 1) := by decide +kernel
theorem dl_248 : decode code 248 = .ok (.iload 6, 2) := by decide +kernel
theorem dl_250 : decode code 250 = .ok (.i2l, 1) := by decide +kernel
theorem dl_251 : decode code 251 = .ok (.lcmp, 1) := by decide +kernel
theorem dl_252 : decode code 252 = .ok (.ifCond .eq 5, 3) := by decide +kernel
theorem dl_255 : decode code 255 = .ok (.iconst 0, 1) := by decide +kernel
theorem dl_256 : decode code 256 = .ok (.ireturn, 1) := by decide +kernel
theorem dl_257 : decode code 257 = .ok (.goto 957, 3) := by decide +kernel
theorem dl_260 : decode code 260 = .ok (.aload_n 1, 1) := by decide +kernel
theorem dl_261 : decode code 261 = .ok (.invokestatic 100, 3) := by decide +kernel
theorem dl_264 : decode code 264 = .ok (.istore 5, 2) := by decide +kernel
theorem dl_266 : decode code 266 = .ok (.aload_n 2, 1) := by decide +kernel
theorem dl_267 : decode code 267 = .ok (.invokevirtual 103, 3) := by decide +kernel
theorem dl_270 : decode code 270 = .ok (.aload_n 2, 1) := by decide +kernel
theorem dl_271 : decode code 271 = .ok (.invokevirtual 94, 3) := by decide +kernel
theorem dl_274 : decode code 274 = .ok (.iload 5, 2) := by decide +kernel
theorem dl_276 : decode code 276 = .ok (.if_icmp .eq 5, 3) := by decide +kernel
theorem dl_279 : decode code 279 = .ok (.iconst 0, 1) := by decide +kernel
theorem dl_280 : decode code 280 = .ok (.ireturn, 1) := by decide +kernel
theorem dl_281 : decode code 281 = .ok (.goto 933, 3) := by decide +kernel
theorem dl_284 : decode code 284 = .ok (.aload_n 1, 1) := by decide +kernel
theorem dl_285 : decode code 285 = .ok (.invokestatic 104, 3) := by decide +kernel
theorem dl_288 : decode code 288 = .ok (.istore 5, 2) := by decide +kernel
theorem dl_290 : decode code 290 = .ok (.aload_n 2, 1) := by decide +kernel
theorem dl_291 : decode code 291 = .ok (.invokevirtual 106, 3) := by decide +kernel
theorem dl_294 : decode code 294 = .ok (.aload_n 2, 1) := by decide +kernel
theorem dl_295 : decode code 295 = .ok (.invokevirtual 94, 3) := by decide +kernel
theorem dl_298 : decode code 298 = .ok (.iload 5, 2) := by decide +kernel
theorem dl_300 : decode code 300 = .ok (.if_icmp .eq 5, 3) := by decide +kernel
theorem dl_303 : decode code 303 = .ok (.iconst 0, 1) := by decide +kernel
theorem dl_304 : decode code 304 = .ok (.ireturn, 1) := by decide +kernel
theorem dl_305 : decode code 305 = .ok (.goto 909, 3) := by decide +kernel
theorem dl_308 : decode code 308 = .ok (.aload_n 1, 1) := by decide +kernel
theorem dl_309 : decode code 309 = .ok (.invokestatic 107, 3) := by decide +kernel
theorem dl_312 : decode code 312 = .ok (.istore 5, 2) := by decide +kernel
theorem dl_314 : decode code 314 = .ok (.aload_n 2, 1) := by decide +kernel
theorem dl_315 : decode code 315 = .ok (.invokevirtual 109, 3) := by decide +kernel
theorem dl_318 : decode code 318 = .ok (.aload_n 2, 1) := by decide +kernel
theorem dl_319 : decode code 319 = .ok (.invokevirtual 94, 3) := by decide +kernel
theorem dl_322 : decode code 322 = .ok (.iload 5, 2) := by decide +kernel
theorem dl_324 : decode code 324 = .ok (.if_icmp .eq 5, 3) := by decide +kernel
theorem dl_327 : decode code 327 = .ok (.iconst 0, 1) := by decide +kernel
theorem dl_328 : decode code 328 = .ok (.ireturn, 1) := by decide +kernel
theorem dl_329 : decode code 329 = .ok (.goto 885, 3) := by decide +kernel
theorem dl_332 : decode code 332 = .ok (.aload_n 1, 1) := by decide +kernel
theorem dl_333 : decode code 333 = .ok (.aload_n 0, 1) := by decide +kernel
theorem dl_334 : decode code 334 = .ok (.iload 4, 2) := by decide +kernel
theorem dl_336 : decode code 336 = .ok (.iconst 1, 1) := by decide +kernel
theorem dl_337 : decode code 337 = .ok (.iadd, 1) := by decide +kernel
theorem dl_338 : decode code 338 = .ok (.iaload, 1) := by decide +kernel
theorem dl_339 : decode code 339 = .ok (.aload_n 3, 1) := by decide +kernel
theorem dl_340 : decode code 340 = .ok (.invokestatic 110, 3) := by decide +kernel
theorem dl_343 : decode code 343 = .ok (.istore 5, 2) := by decide +kernel
theorem dl_345 : decode code 345 = .ok (.aload_n 2, 1) := by decide +kernel
theorem dl_346 : decode code 346 = .ok (.aload_n 0, 1) := by decide +kernel
theorem dl_347 : decode code 347 = .ok (.iload 4, 2) := by decide +kernel
theorem dl_349 : decode code 349 = .ok (.iconst 1, 1) := by decide +kernel
theorem dl_350 : decode code 350 = .ok (.iadd, 1) := by decide +kernel
theorem dl_351 : decode code 351 = .ok (.iaload, 1) := by decide +kernel
theorem dl_352 : decode code 352 = .ok (.invokevirtual 112, 3) := by decide +kernel
theorem dl_355 : decode code 355 = .ok (.istore 6, 2) := by decide +kernel
theorem dl_357 : decode code 357 = .ok (.aload_n 2, 1) := by decide +kernel
theorem dl_358 : decode code 358 = .ok (.invokevirtual 94, 3) := by decide +kernel
theorem dl_361 : decode code 361 = .ok (.iload 5, 2) := by decide +kernel
theorem dl_363 : decode code 363 = .ok (.if_icmp .eq 5, 3) := by decide +kernel
theorem dl_366 : decode code 366 = .ok (.iconst 0, 1) := by decide +kernel
theorem dl_367 : decode code 367 = .ok (.ireturn, 1) := by decide +kernel
theorem dl_368 : decode code 368 = .ok (.iload 5, 2) := by decide +kernel
theorem dl_370 : decode code 370 = .ok (.ifCond .ne 15, 3) := by decide +kernel
theorem dl_373 : decode code 373 = .ok (.aload_n 3, 1) := by decide +kernel
theorem dl_374 : decode code 374 = .ok (.iconst 0, 1) := by decide +kernel
theorem dl_375 : decode code 375 = .ok (.laload, 1) := by decide +kernel
theorem dl_376 : decode code 376 = .ok (.iload 6, 2) := by decide +kernel
theorem dl_378 : decode code 378 = .ok (.i2l, 1) := by decide +kernel
theorem dl_379 : decode code 379 = .ok (.lcmp, 1) := by decide +kernel
theorem dl_380 : decode code 380 = .ok (.ifCond .eq 5, 3) := by decide +kernel
theorem dl_383 : decode code 383 = .ok (.iconst 0, 1) := by decide +kernel
theorem dl_384 : decode code 384 = .ok (.ireturn, 1) := by decide +kernel
theorem dl_385 : decode code 385 = .ok (.goto 829, 3) := by decide +kernel
theorem dl_388 : decode code 388 = .ok (.aload_n 1, 1) := by decide +kernel
theorem dl_389 : decode code 389 = .ok (.aload_n 0, 1) := by decide +kernel
theorem dl_390 : decode code 390 = .ok (.iload 4, 2) := by decide +kernel
theorem dl_392 : decode code 392 = .ok (.iconst 1, 1) := by decide +kernel
theorem dl_393 : decode code 393 = .ok (.iadd, 1) := by decide +kernel
theorem dl_394 : decode code 394 = .ok (.iaload, 1) := by decide +kernel
theorem dl_395 : decode code 395 = .ok (.aload_n 0, 1) := by decide +kernel
theorem dl_396 : decode code 396 = .ok (.iload 4, 2) := by decide +kernel
theorem dl_398 : decode code 398 = .ok (.iconst 2, 1) := by decide +kernel
theorem dl_399 : decode code 399 = .ok (.iadd, 1) := by decide +kernel
theorem dl_400 : decode code 400 = .ok (.iaload, 1) := by decide +kernel
theorem dl_401 : decode code 401 = .ok (.aload_n 3, 1) := by decide +kernel
theorem dl_402 : decode code 402 = .ok (.invokestatic 113, 3) := by decide +kernel
theorem dl_405 : decode code 405 = .ok (.istore 5, 2) := by decide +kernel
theorem dl_407 : decode code 407 = .ok (.aload_n 2, 1) := by decide +kernel
theorem dl_408 : decode code 408 = .ok (.aload_n 0, 1) := by decide +kernel
theorem dl_409 : decode code 409 = .ok (.iload 4, 2) := by decide +kernel
theorem dl_411 : decode code 411 = .ok (.iconst 1, 1) := by decide +kernel
theorem dl_412 : decode code 412 = .ok (.iadd, 1) := by decide +kernel
theorem dl_413 : decode code 413 = .ok (.iaload, 1) := by decide +kernel
theorem dl_414 : decode code 414 = .ok (.aload_n 0, 1) := by decide +kernel
theorem dl_415 : decode code 415 = .ok (.iload 4, 2) := by decide +kernel
theorem dl_417 : decode code 417 = .ok (.iconst 2, 1) := by decide +kernel
theorem dl_418 : decode code 418 = .ok (.iadd, 1) := by decide +kernel
theorem dl_419 : decode code 419 = .ok (.iaload, 1) := by decide +kernel
theorem dl_420 : decode code 420 = .ok (.invokevirtual 116, 3) := by decide +kernel
theorem dl_423 : decode code 423 = .ok (.istore 6, 2) := by decide +kernel
theorem dl_425 : decode code 425 = .ok (.aload_n 2, 1) := by decide +kernel
theorem dl_426 : decode code 426 = .ok (.invokevirtual 94, 3) := by decide +kernel
theorem dl_429 : decode code 429 = .ok (.iload 5, 2) := by decide +kernel
theorem dl_431 : decode code 431 = .ok (.if_icmp .eq 5, 3) := by decide +kernel
theorem dl_434 : decode code 434 = .ok (.iconst 0, 1) := by decide +kernel
theorem dl_435 : decode code 435 = .ok (.ireturn, 1) := by decide +kernel
theorem dl_436 : decode code 436 = .ok (.iload 5, 2) := by decide +kernel
theorem dl_438 : decode code 438 = .ok (.ifCond .ne 15, 3) := by decide +kernel
theorem dl_441 : decode code 441 = .ok (.aload_n 3, 1) := by decide +kernel
theorem dl_442 : decode code 442 = .ok (.iconst 0, 1) := by decide +kernel
theorem dl_443 : decode code 443 = .ok (.laload, 1) := by decide +kernel
theorem dl_444 : decode code 444 = .ok (.iload 6, 2) := by decide +kernel
theorem dl_446 : decode code 446 = .ok (.i2l, 1) := by decide +kernel
theorem dl_447 : decode code 447 = .ok (.lcmp, 1) := by decide +kernel
theorem dl_448 : decode code 448 = .ok (.ifCond .eq 5, 3) := by decide +kernel
theorem dl_451 : decode code 451 = .ok (.iconst 0, 1) := by decide +kernel
theorem dl_452 : decode code 452 = .ok (.ireturn, 1) := by decide +kernel
theorem dl_453 : decode code 453 = .ok (.goto 761, 3) := by decide +kernel
theorem dl_456 : decode code 456 = .ok (.aload_n 1, 1) := by decide +kernel
theorem dl_457 : decode code 457 = .ok (.aload_n 0, 1) := by decide +kernel
theorem dl_458 : decode code 458 = .ok (.iload 4, 2) := by decide +kernel
theorem dl_460 : decode code 460 = .ok (.iconst 1, 1) := by decide +kernel
theorem dl_461 : decode code 461 = .ok (.iadd, 1) := by decide +kernel
theorem dl_462 : decode code 462 = .ok (.iaload, 1) := by decide +kernel
theorem dl_463 : decode code 463 = .ok (.aload_n 3, 1) := by decide +kernel
theorem dl_464 : decode code 464 = .ok (.invokestatic 117, 3) := by decide +kernel
theorem dl_467 : decode code 467 = .ok (.istore 5, 2) := by decide +kernel
theorem dl_469 : decode code 469 = .ok (.aload_n 2, 1) := by decide +kernel
theorem dl_470 : decode code 470 = .ok (.aload_n 0, 1) := by decide +kernel
theorem dl_471 : decode code 471 = .ok (.iload 4, 2) := by decide +kernel
theorem dl_473 : decode code 473 = .ok (.iconst 1, 1) := by decide +kernel
theorem dl_474 : decode code 474 = .ok (.iadd, 1) := by decide +kernel
theorem dl_475 : decode code 475 = .ok (.iaload, 1) := by decide +kernel
theorem dl_476 : decode code 476 = .ok (.invokevirtual 119, 3) := by decide +kernel
theorem dl_479 : decode code 479 = .ok (.istore 6, 2) := by decide +kernel
theorem dl_481 : decode code 481 = .ok (.aload_n 2, 1) := by decide +kernel
end
section
/-! the law's instructions, 2 -/
theorem dl_482 : decode code 482 = .ok (.invokevirtual 94, 3) := by decide +kernel
theorem dl_485 : decode code 485 = .ok (.iload 5, 2) := by decide +kernel
theorem dl_487 : decode code 487 = .ok (.if_icmp .eq 5, 3) := by decide +kernel
theorem dl_490 : decode code 490 = .ok (.iconst 0, 1) := by decide +kernel
theorem dl_491 : decode code 491 = .ok (.ireturn, 1) := by decide +kernel
theorem dl_492 : decode code 492 = .ok (.iload 5, 2) := by decide +kernel
theorem dl_494 : decode code 494 = .ok (.ifCond .ne 15, 3) := by decide +kernel
theorem dl_497 : decode code 497 = .ok (.aload_n 3, 1) := by decide +kernel
theorem dl_498 : decode code 498 = .ok (.iconst 0, 1) := by decide +kernel
theorem dl_499 : decode code 499 = .ok (.laload, 1) := by decide +kernel
theorem dl_500 : decode code 500 = .ok (.iload 6, 2) := by decide +kernel
theorem dl_502 : decode code 502 = .ok (.i2l, 1) := by decide +kernel
theorem dl_503 : decode code 503 = .ok (.lcmp, 1) := by decide +kernel
theorem dl_504 : decode code 504 = .ok (.ifCond .eq 5, 3) := by decide +kernel
theorem dl_507 : decode code 507 = .ok (.iconst 0, 1) := by decide +kernel
theorem dl_508 : decode code 508 = .ok (.ireturn, 1) := by decide +kernel
theorem dl_509 : decode code 509 = .ok (.goto 705, 3) := by decide +kernel
theorem dl_512 : decode code 512 = .ok (.aload_n 1, 1) := by decide +kernel
theorem dl_513 : decode code 513 = .ok (.invokevirtual 120, 3) := by decide +kernel
theorem dl_516 : decode code 516 = .ok (.aload_n 2, 1) := by decide +kernel
theorem dl_517 : decode code 517 = .ok (.invokevirtual 123, 3) := by decide +kernel
theorem dl_520 : decode code 520 = .ok (.if_icmp .eq 694, 3) := by decide +kernel
theorem dl_523 : decode code 523 = .ok (.iconst 0, 1) := by decide +kernel
theorem dl_524 : decode code 524 = .ok (.ireturn, 1) := by decide +kernel
theorem dl_525 : decode code 525 = .ok (.aload_n 1, 1) := by decide +kernel
theorem dl_526 : decode code 526 = .ok (.aload_n 0, 1) := by decide +kernel
theorem dl_527 : decode code 527 = .ok (.iload 4, 2) := by decide +kernel
theorem dl_529 : decode code 529 = .ok (.iconst 1, 1) := by decide +kernel
theorem dl_530 : decode code 530 = .ok (.iadd, 1) := by decide +kernel
theorem dl_531 : decode code 531 = .ok (.iaload, 1) := by decide +kernel
theorem dl_532 : decode code 532 = .ok (.invokestatic 124, 3) := by decide +kernel
theorem dl_535 : decode code 535 = .ok (.istore 5, 2) := by decide +kernel
theorem dl_537 : decode code 537 = .ok (.aload_n 2, 1) := by decide +kernel
theorem dl_538 : decode code 538 = .ok (.aload_n 0, 1) := by decide +kernel
theorem dl_539 : decode code 539 = .ok (.iload 4, 2) := by decide +kernel
theorem dl_541 : decode code 541 = .ok (.iconst 1, 1) := by decide +kernel
theorem dl_542 : decode code 542 = .ok (.iadd, 1) := by decide +kernel
theorem dl_543 : decode code 543 = .ok (.iaload, 1) := by decide +kernel
theorem dl_544 : decode code 544 = .ok (.invokevirtual 127, 3) := by decide +kernel
theorem dl_547 : decode code 547 = .ok (.aload_n 2, 1) := by decide +kernel
theorem dl_548 : decode code 548 = .ok (.invokevirtual 94, 3) := by decide +kernel
theorem dl_551 : decode code 551 = .ok (.iload 5, 2) := by decide +kernel
theorem dl_553 : decode code 553 = .ok (.if_icmp .eq 5, 3) := by decide +kernel
theorem dl_556 : decode code 556 = .ok (.iconst 0, 1) := by decide +kernel
theorem dl_557 : decode code 557 = .ok (.ireturn, 1) := by decide +kernel
theorem dl_558 : decode code 558 = .ok (.goto 656, 3) := by decide +kernel
theorem dl_561 : decode code 561 = .ok (.aload_n 1, 1) := by decide +kernel
theorem dl_562 : decode code 562 = .ok (.invokestatic 128, 3) := by decide +kernel
theorem dl_565 : decode code 565 = .ok (.istore 5, 2) := by decide +kernel
theorem dl_567 : decode code 567 = .ok (.aload_n 2, 1) := by decide +kernel
theorem dl_568 : decode code 568 = .ok (.invokevirtual 130, 3) := by decide +kernel
theorem dl_571 : decode code 571 = .ok (.aload_n 2, 1) := by decide +kernel
theorem dl_572 : decode code 572 = .ok (.invokevirtual 94, 3) := by decide +kernel
theorem dl_575 : decode code 575 = .ok (.iload 5, 2) := by decide +kernel
theorem dl_577 : decode code 577 = .ok (.if_icmp .eq 5, 3) := by decide +kernel
theorem dl_580 : decode code 580 = .ok (.iconst 0, 1) := by decide +kernel
theorem dl_581 : decode code 581 = .ok (.ireturn, 1) := by decide +kernel
theorem dl_582 : decode code 582 = .ok (.goto 632, 3) := by decide +kernel
theorem dl_585 : decode code 585 = .ok (.aload_n 1, 1) := by decide +kernel
theorem dl_586 : decode code 586 = .ok (.aload_n 0, 1) := by decide +kernel
theorem dl_587 : decode code 587 = .ok (.iload 4, 2) := by decide +kernel
theorem dl_589 : decode code 589 = .ok (.iconst 1, 1) := by decide +kernel
theorem dl_590 : decode code 590 = .ok (.iadd, 1) := by decide +kernel
theorem dl_591 : decode code 591 = .ok (.iaload, 1) := by decide +kernel
theorem dl_592 : decode code 592 = .ok (.aload_n 3, 1) := by decide +kernel
theorem dl_593 : decode code 593 = .ok (.invokestatic 131, 3) := by decide +kernel
theorem dl_596 : decode code 596 = .ok (.istore 5, 2) := by decide +kernel
theorem dl_598 : decode code 598 = .ok (.aload_n 2, 1) := by decide +kernel
theorem dl_599 : decode code 599 = .ok (.aload_n 0, 1) := by decide +kernel
theorem dl_600 : decode code 600 = .ok (.iload 4, 2) := by decide +kernel
theorem dl_602 : decode code 602 = .ok (.iconst 1, 1) := by decide +kernel
theorem dl_603 : decode code 603 = .ok (.iadd, 1) := by decide +kernel
theorem dl_604 : decode code 604 = .ok (.iaload, 1) := by decide +kernel
theorem dl_605 : decode code 605 = .ok (.invokevirtual 133, 3) := by decide +kernel
theorem dl_608 : decode code 608 = .ok (.istore 6, 2) := by decide +kernel
theorem dl_610 : decode code 610 = .ok (.aload_n 2, 1) := by decide +kernel
theorem dl_611 : decode code 611 = .ok (.invokevirtual 94, 3) := by decide +kernel
theorem dl_614 : decode code 614 = .ok (.iload 5, 2) := by decide +kernel
theorem dl_616 : decode code 616 = .ok (.if_icmp .eq 5, 3) := by decide +kernel
theorem dl_619 : decode code 619 = .ok (.iconst 0, 1) := by decide +kernel
theorem dl_620 : decode code 620 = .ok (.ireturn, 1) := by decide +kernel
theorem dl_621 : decode code 621 = .ok (.iload 5, 2) := by decide +kernel
theorem dl_623 : decode code 623 = .ok (.ifCond .ne 15, 3) := by decide +kernel
theorem dl_626 : decode code 626 = .ok (.aload_n 3, 1) := by decide +kernel
theorem dl_627 : decode code 627 = .ok (.iconst 0, 1) := by decide +kernel
theorem dl_628 : decode code 628 = .ok (.laload, 1) := by decide +kernel
theorem dl_629 : decode code 629 = .ok (.iload 6, 2) := by decide +kernel
theorem dl_631 : decode code 631 = .ok (.i2l, 1) := by decide +kernel
theorem dl_632 : decode code 632 = .ok (.lcmp, 1) := by decide +kernel
theorem dl_633 : decode code 633 = .ok (.ifCond .eq 5, 3) := by decide +kernel
theorem dl_636 : decode code 636 = .ok (.iconst 0, 1) := by decide +kernel
theorem dl_637 : decode code 637 = .ok (.ireturn, 1) := by decide +kernel
theorem dl_638 : decode code 638 = .ok (.goto 576, 3) := by decide +kernel
theorem dl_641 : decode code 641 = .ok (.aload_n 1, 1) := by decide +kernel
theorem dl_642 : decode code 642 = .ok (.aload_n 0, 1) := by decide +kernel
theorem dl_643 : decode code 643 = .ok (.iload 4, 2) := by decide +kernel
theorem dl_645 : decode code 645 = .ok (.iconst 1, 1) := by decide +kernel
theorem dl_646 : decode code 646 = .ok (.iadd, 1) := by decide +kernel
theorem dl_647 : decode code 647 = .ok (.iaload, 1) := by decide +kernel
theorem dl_648 : decode code 648 = .ok (.aload_n 3, 1) := by decide +kernel
theorem dl_649 : decode code 649 = .ok (.invokestatic 134, 3) := by decide +kernel
theorem dl_652 : decode code 652 = .ok (.istore 5, 2) := by decide +kernel
theorem dl_654 : decode code 654 = .ok (.aload_n 2, 1) := by decide +kernel
theorem dl_655 : decode code 655 = .ok (.aload_n 0, 1) := by decide +kernel
theorem dl_656 : decode code 656 = .ok (.iload 4, 2) := by decide +kernel
theorem dl_658 : decode code 658 = .ok (.iconst 1, 1) := by decide +kernel
theorem dl_659 : decode code 659 = .ok (.iadd, 1) := by decide +kernel
theorem dl_660 : decode code 660 = .ok (.iaload, 1) := by decide +kernel
theorem dl_661 : decode code 661 = .ok (.invokevirtual 136, 3) := by decide +kernel
theorem dl_664 : decode code 664 = .ok (.istore 6, 2) := by decide +kernel
theorem dl_666 : decode code 666 = .ok (.aload_n 2, 1) := by decide +kernel
theorem dl_667 : decode code 667 = .ok (.invokevirtual 94, 3) := by decide +kernel
theorem dl_670 : decode code 670 = .ok (.iload 5, 2) := by decide +kernel
theorem dl_672 : decode code 672 = .ok (.if_icmp .eq 5, 3) := by decide +kernel
theorem dl_675 : decode code 675 = .ok (.iconst 0, 1) := by decide +kernel
theorem dl_676 : decode code 676 = .ok (.ireturn, 1) := by decide +kernel
theorem dl_677 : decode code 677 = .ok (.iload 5, 2) := by decide +kernel
theorem dl_679 : decode code 679 = .ok (.ifCond .ne 22, 3) := by decide +kernel
theorem dl_682 : decode code 682 = .ok (.aload_n 3, 1) := by decide +kernel
theorem dl_683 : decode code 683 = .ok (.iconst 0, 1) := by decide +kernel
theorem dl_684 : decode code 684 = .ok (.laload, 1) := by decide +kernel
theorem dl_685 : decode code 685 = .ok (.iload 6, 2) := by decide +kernel
theorem dl_687 : decode code 687 = .ok (.ifCond .eq 7, 3) := by decide +kernel
theorem dl_690 : decode code 690 = .ok (.lconst 1, 1) := by decide +kernel
theorem dl_691 : decode code 691 = .ok (.goto 4, 3) := by decide +kernel
theorem dl_694 : decode code 694 = .ok (.lconst 0, 1) := by decide +kernel
theorem dl_695 : decode code 695 = .ok (.lcmp, 1) := by decide +kernel
theorem dl_696 : decode code 696 = .ok (.ifCond .eq 5, 3) := by decide +kernel
theorem dl_699 : decode code 699 = .ok (.iconst 0, 1) := by decide +kernel
theorem dl_700 : decode code 700 = .ok (.ireturn, 1) := by decide +kernel
theorem dl_701 : decode code 701 = .ok (.goto 513, 3) := by decide +kernel
theorem dl_704 : decode code 704 = .ok (.aload_n 1, 1) := by decide +kernel
theorem dl_705 : decode code 705 = .ok (.aload_n 3, 1) := by decide +kernel
theorem dl_706 : decode code 706 = .ok (.invokestatic 137, 3) := by decide +kernel
theorem dl_709 : decode code 709 = .ok (.istore 5, 2) := by decide +kernel
theorem dl_711 : decode code 711 = .ok (.aload_n 2, 1) := by decide +kernel
theorem dl_712 : decode code 712 = .ok (.invokevirtual 140, 3) := by decide +kernel
theorem dl_715 : decode code 715 = .ok (.istore 6, 2) := by decide +kernel
theorem dl_717 : decode code 717 = .ok (.aload_n 2, 1) := by decide +kernel
theorem dl_718 : decode code 718 = .ok (.invokevirtual 94, 3) := by decide +kernel
theorem dl_721 : decode code 721 = .ok (.iload 5, 2) := by decide +kernel
theorem dl_723 : decode code 723 = .ok (.if_icmp .eq 5, 3) := by decide +kernel
theorem dl_726 : decode code 726 = .ok (.iconst 0, 1) := by decide +kernel
theorem dl_727 : decode code 727 = .ok (.ireturn, 1) := by decide +kernel
theorem dl_728 : decode code 728 = .ok (.iload 5, 2) := by decide +kernel
theorem dl_730 : decode code 730 = .ok (.ifCond .ne 15, 3) := by decide +kernel
theorem dl_733 : decode code 733 = .ok (.aload_n 3, 1) := by decide +kernel
theorem dl_734 : decode code 734 = .ok (.iconst 0, 1) := by decide +kernel
theorem dl_735 : decode code 735 = .ok (.laload, 1) := by decide +kernel
theorem dl_736 : decode code 736 = .ok (.iload 6, 2) := by decide +kernel
theorem dl_738 : decode code 738 = .ok (.i2l, 1) := by decide +kernel
theorem dl_739 : decode code 739 = .ok (.lcmp, 1) := by decide +kernel
theorem dl_740 : decode code 740 = .ok (.ifCond .eq 5, 3) := by decide +kernel
theorem dl_743 : decode code 743 = .ok (.iconst 0, 1) := by decide +kernel
theorem dl_744 : decode code 744 = .ok (.ireturn, 1) := by decide +kernel
theorem dl_745 : decode code 745 = .ok (.goto 469, 3) := by decide +kernel
theorem dl_748 : decode code 748 = .ok (.aload_n 1, 1) := by decide +kernel
theorem dl_749 : decode code 749 = .ok (.invokevirtual 141, 3) := by decide +kernel
theorem dl_752 : decode code 752 = .ok (.aload_n 2, 1) := by decide +kernel
theorem dl_753 : decode code 753 = .ok (.invokevirtual 144, 3) := by decide +kernel
theorem dl_756 : decode code 756 = .ok (.if_icmp .eq 458, 3) := by decide +kernel
theorem dl_759 : decode code 759 = .ok (.iconst 0, 1) := by decide +kernel
theorem dl_760 : decode code 760 = .ok (.ireturn, 1) := by decide +kernel
theorem dl_761 : decode code 761 = .ok (.aload_n 1, 1) := by decide +kernel
theorem dl_762 : decode code 762 = .ok (.aload_n 3, 1) := by decide +kernel
theorem dl_763 : decode code 763 = .ok (.invokestatic 145, 3) := by decide +kernel
theorem dl_766 : decode code 766 = .ok (.istore 5, 2) := by decide +kernel
theorem dl_768 : decode code 768 = .ok (.aload_n 2, 1) := by decide +kernel
theorem dl_769 : decode code 769 = .ok (.invokevirtual 147, 3) := by decide +kernel
theorem dl_772 : decode code 772 = .ok (.istore 6, 2) := by decide +kernel
theorem dl_774 : decode code 774 = .ok (.aload_n 2, 1) := by decide +kernel
theorem dl_775 : decode code 775 = .ok (.invokevirtual 94, 3) := by decide +kernel
theorem dl_778 : decode code 778 = .ok (.iload 5, 2) := by decide +kernel
theorem dl_780 : decode code 780 = .ok (.if_icmp .eq 5, 3) := by decide +kernel
theorem dl_783 : decode code 783 = .ok (.iconst 0, 1) := by decide +kernel
theorem dl_784 : decode code 784 = .ok (.ireturn, 1) := by decide +kernel
theorem dl_785 : decode code 785 = .ok (.iload 5, 2) := by decide +kernel
theorem dl_787 : decode code 787 = .ok (.ifCond .ne 22, 3) := by decide +kernel
theorem dl_790 : decode code 790 = .ok (.aload_n 3, 1) := by decide +kernel
theorem dl_791 : decode code 791 = .ok (.iconst 0, 1) := by decide +kernel
theorem dl_792 : decode code 792 = .ok (.laload, 1) := by decide +kernel
theorem dl_793 : decode code 793 = .ok (.iload 6, 2) := by decide +kernel
theorem dl_795 : decode code 795 = .ok (.ifCond .eq 7, 3) := by decide +kernel
theorem dl_798 : decode code 798 = .ok (.lconst 1, 1) := by decide +kernel
theorem dl_799 : decode code 799 = .ok (.goto 4, 3) := by decide +kernel
theorem dl_802 : decode code 802 = .ok (.lconst 0, 1) := by decide +kernel
theorem dl_803 : decode code 803 = .ok (.lcmp, 1) := by decide +kernel
theorem dl_804 : decode code 804 = .ok (.ifCond .eq 5, 3) := by decide +kernel
theorem dl_807 : decode code 807 = .ok (.iconst 0, 1) := by decide +kernel
theorem dl_808 : decode code 808 = .ok (.ireturn, 1) := by decide +kernel
theorem dl_809 : decode code 809 = .ok (.goto 405, 3) := by decide +kernel
theorem dl_812 : decode code 812 = .ok (.aload_n 1, 1) := by decide +kernel
theorem dl_813 : decode code 813 = .ok (.aload_n 0, 1) := by decide +kernel
theorem dl_814 : decode code 814 = .ok (.iload 4, 2) := by decide +kernel
theorem dl_816 : decode code 816 = .ok (.iconst 1, 1) := by decide +kernel
theorem dl_817 : decode code 817 = .ok (.iadd, 1) := by decide +kernel
theorem dl_818 : decode code 818 = .ok (.iaload, 1) := by decide +kernel
theorem dl_819 : decode code 819 = .ok (.aload_n 0, 1) := by decide +kernel
theorem dl_820 : decode code 820 = .ok (.iload 4, 2) := by decide +kernel
theorem dl_822 : decode code 822 = .ok (.iconst 2, 1) := by decide +kernel
theorem dl_823 : decode code 823 = .ok (.iadd, 1) := by decide +kernel
theorem dl_824 : decode code 824 = .ok (.iaload, 1) := by decide +kernel
theorem dl_825 : decode code 825 = .ok (.invokestatic 148, 3) := by decide +kernel
theorem dl_828 : decode code 828 = .ok (.istore 5, 2) := by decide +kernel
theorem dl_830 : decode code 830 = .ok (.aload_n 2, 1) := by decide +kernel
theorem dl_831 : decode code 831 = .ok (.aload_n 0, 1) := by decide +kernel
theorem dl_832 : decode code 832 = .ok (.iload 4, 2) := by decide +kernel
theorem dl_834 : decode code 834 = .ok (.iconst 1, 1) := by decide +kernel
theorem dl_835 : decode code 835 = .ok (.iadd, 1) := by decide +kernel
theorem dl_836 : decode code 836 = .ok (.iaload, 1) := by decide +kernel
theorem dl_837 : decode code 837 = .ok (.aload_n 0, 1) := by decide +kernel
theorem dl_838 : decode code 838 = .ok (.iload 4, 2) := by decide +kernel
theorem dl_840 : decode code 840 = .ok (.iconst 2, 1) := by decide +kernel
theorem dl_841 : decode code 841 = .ok (.iadd, 1) := by decide +kernel
theorem dl_842 : decode code 842 = .ok (.iaload, 1) := by decide +kernel
theorem dl_843 : decode code 843 = .ok (.invokevirtual 151, 3) := by decide +kernel
theorem dl_846 : decode code 846 = .ok (.aload_n 2, 1) := by decide +kernel
theorem dl_847 : decode code 847 = .ok (.invokevirtual 94, 3) := by decide +kernel
theorem dl_850 : decode code 850 = .ok (.iload 5, 2) := by decide +kernel
theorem dl_852 : decode code 852 = .ok (.if_icmp .eq 5, 3) := by decide +kernel
theorem dl_855 : decode code 855 = .ok (.iconst 0, 1) := by decide +kernel
theorem dl_856 : decode code 856 = .ok (.ireturn, 1) := by decide +kernel
theorem dl_857 : decode code 857 = .ok (.goto 357, 3) := by decide +kernel
theorem dl_860 : decode code 860 = .ok (.aload_n 1, 1) := by decide +kernel
theorem dl_861 : decode code 861 = .ok (.aload_n 0, 1) := by decide +kernel
theorem dl_862 : decode code 862 = .ok (.iload 4, 2) := by decide +kernel
theorem dl_864 : decode code 864 = .ok (.iconst 1, 1) := by decide +kernel
theorem dl_865 : decode code 865 = .ok (.iadd, 1) := by decide +kernel
theorem dl_866 : decode code 866 = .ok (.iaload, 1) := by decide +kernel
end
section
/-! the law's instructions, 3 -/
theorem dl_867 : decode code 867 = .ok (.aload_n 0, 1) := by decide +kernel
theorem dl_868 : decode code 868 = .ok (.iload 4, 2) := by decide +kernel
theorem dl_870 : decode code 870 = .ok (.iconst 2, 1) := by decide +kernel
theorem dl_871 : decode code 871 = .ok (.iadd, 1) := by decide +kernel
theorem dl_872 : decode code 872 = .ok (.iaload, 1) := by decide +kernel
theorem dl_873 : decode code 873 = .ok (.aload_n 3, 1) := by decide +kernel
theorem dl_874 : decode code 874 = .ok (.invokestatic 152, 3) := by decide +kernel
theorem dl_877 : decode code 877 = .ok (.istore 5, 2) := by decide +kernel
theorem dl_879 : decode code 879 = .ok (.aload_n 2, 1) := by decide +kernel
theorem dl_880 : decode code 880 = .ok (.aload_n 0, 1) := by decide +kernel
theorem dl_881 : decode code 881 = .ok (.iload 4, 2) := by decide +kernel
theorem dl_883 : decode code 883 = .ok (.iconst 1, 1) := by decide +kernel
theorem dl_884 : decode code 884 = .ok (.iadd, 1) := by decide +kernel
theorem dl_885 : decode code 885 = .ok (.iaload, 1) := by decide +kernel
theorem dl_886 : decode code 886 = .ok (.aload_n 0, 1) := by decide +kernel
theorem dl_887 : decode code 887 = .ok (.iload 4, 2) := by decide +kernel
theorem dl_889 : decode code 889 = .ok (.iconst 2, 1) := by decide +kernel
theorem dl_890 : decode code 890 = .ok (.iadd, 1) := by decide +kernel
theorem dl_891 : decode code 891 = .ok (.iaload, 1) := by decide +kernel
theorem dl_892 : decode code 892 = .ok (.invokevirtual 154, 3) := by decide +kernel
theorem dl_895 : decode code 895 = .ok (.istore 6, 2) := by decide +kernel
theorem dl_897 : decode code 897 = .ok (.aload_n 2, 1) := by decide +kernel
theorem dl_898 : decode code 898 = .ok (.invokevirtual 94, 3) := by decide +kernel
theorem dl_901 : decode code 901 = .ok (.iload 5, 2) := by decide +kernel
theorem dl_903 : decode code 903 = .ok (.if_icmp .eq 5, 3) := by decide +kernel
theorem dl_906 : decode code 906 = .ok (.iconst 0, 1) := by decide +kernel
theorem dl_907 : decode code 907 = .ok (.ireturn, 1) := by decide +kernel
theorem dl_908 : decode code 908 = .ok (.iload 5, 2) := by decide +kernel
theorem dl_910 : decode code 910 = .ok (.ifCond .ne 15, 3) := by decide +kernel
theorem dl_913 : decode code 913 = .ok (.aload_n 3, 1) := by decide +kernel
theorem dl_914 : decode code 914 = .ok (.iconst 0, 1) := by decide +kernel
theorem dl_915 : decode code 915 = .ok (.laload, 1) := by decide +kernel
theorem dl_916 : decode code 916 = .ok (.iload 6, 2) := by decide +kernel
theorem dl_918 : decode code 918 = .ok (.i2l, 1) := by decide +kernel
theorem dl_919 : decode code 919 = .ok (.lcmp, 1) := by decide +kernel
theorem dl_920 : decode code 920 = .ok (.ifCond .eq 5, 3) := by decide +kernel
theorem dl_923 : decode code 923 = .ok (.iconst 0, 1) := by decide +kernel
theorem dl_924 : decode code 924 = .ok (.ireturn, 1) := by decide +kernel
theorem dl_925 : decode code 925 = .ok (.goto 289, 3) := by decide +kernel
theorem dl_928 : decode code 928 = .ok (.aload_n 1, 1) := by decide +kernel
theorem dl_929 : decode code 929 = .ok (.aload_n 0, 1) := by decide +kernel
theorem dl_930 : decode code 930 = .ok (.iload 4, 2) := by decide +kernel
theorem dl_932 : decode code 932 = .ok (.iconst 1, 1) := by decide +kernel
theorem dl_933 : decode code 933 = .ok (.iadd, 1) := by decide +kernel
theorem dl_934 : decode code 934 = .ok (.iaload, 1) := by decide +kernel
theorem dl_935 : decode code 935 = .ok (.aload_n 3, 1) := by decide +kernel
theorem dl_936 : decode code 936 = .ok (.invokestatic 155, 3) := by decide +kernel
theorem dl_939 : decode code 939 = .ok (.istore 5, 2) := by decide +kernel
theorem dl_941 : decode code 941 = .ok (.aload_n 2, 1) := by decide +kernel
theorem dl_942 : decode code 942 = .ok (.aload_n 0, 1) := by decide +kernel
theorem dl_943 : decode code 943 = .ok (.iload 4, 2) := by decide +kernel
theorem dl_945 : decode code 945 = .ok (.iconst 1, 1) := by decide +kernel
theorem dl_946 : decode code 946 = .ok (.iadd, 1) := by decide +kernel
theorem dl_947 : decode code 947 = .ok (.iaload, 1) := by decide +kernel
theorem dl_948 : decode code 948 = .ok (.invokevirtual 157, 3) := by decide +kernel
theorem dl_951 : decode code 951 = .ok (.istore 6, 2) := by decide +kernel
theorem dl_953 : decode code 953 = .ok (.aload_n 2, 1) := by decide +kernel
theorem dl_954 : decode code 954 = .ok (.invokevirtual 94, 3) := by decide +kernel
theorem dl_957 : decode code 957 = .ok (.iload 5, 2) := by decide +kernel
theorem dl_959 : decode code 959 = .ok (.if_icmp .eq 5, 3) := by decide +kernel
theorem dl_962 : decode code 962 = .ok (.iconst 0, 1) := by decide +kernel
theorem dl_963 : decode code 963 = .ok (.ireturn, 1) := by decide +kernel
theorem dl_964 : decode code 964 = .ok (.iload 5, 2) := by decide +kernel
theorem dl_966 : decode code 966 = .ok (.ifCond .ne 15, 3) := by decide +kernel
theorem dl_969 : decode code 969 = .ok (.aload_n 3, 1) := by decide +kernel
theorem dl_970 : decode code 970 = .ok (.iconst 0, 1) := by decide +kernel
theorem dl_971 : decode code 971 = .ok (.laload, 1) := by decide +kernel
theorem dl_972 : decode code 972 = .ok (.iload 6, 2) := by decide +kernel
theorem dl_974 : decode code 974 = .ok (.i2l, 1) := by decide +kernel
theorem dl_975 : decode code 975 = .ok (.lcmp, 1) := by decide +kernel
theorem dl_976 : decode code 976 = .ok (.ifCond .eq 5, 3) := by decide +kernel
theorem dl_979 : decode code 979 = .ok (.iconst 0, 1) := by decide +kernel
theorem dl_980 : decode code 980 = .ok (.ireturn, 1) := by decide +kernel
theorem dl_981 : decode code 981 = .ok (.goto 233, 3) := by decide +kernel
theorem dl_984 : decode code 984 = .ok (.aload_n 1, 1) := by decide +kernel
theorem dl_985 : decode code 985 = .ok (.invokevirtual 158, 3) := by decide +kernel
theorem dl_988 : decode code 988 = .ok (.aload_n 2, 1) := by decide +kernel
theorem dl_989 : decode code 989 = .ok (.invokevirtual 161, 3) := by decide +kernel
theorem dl_992 : decode code 992 = .ok (.if_icmp .eq 222, 3) := by decide +kernel
theorem dl_995 : decode code 995 = .ok (.iconst 0, 1) := by decide +kernel
theorem dl_996 : decode code 996 = .ok (.ireturn, 1) := by decide +kernel
theorem dl_997 : decode code 997 = .ok (.aload_n 1, 1) := by decide +kernel
theorem dl_998 : decode code 998 = .ok (.aload_n 0, 1) := by decide +kernel
theorem dl_999 : decode code 999 = .ok (.iload 4, 2) := by decide +kernel
theorem dl_1001 : decode code 1001 = .ok (.iconst 1, 1) := by decide +kernel
theorem dl_1002 : decode code 1002 = .ok (.iadd, 1) := by decide +kernel
theorem dl_1003 : decode code 1003 = .ok (.iaload, 1) := by decide +kernel
theorem dl_1004 : decode code 1004 = .ok (.aload_n 0, 1) := by decide +kernel
theorem dl_1005 : decode code 1005 = .ok (.iload 4, 2) := by decide +kernel
theorem dl_1007 : decode code 1007 = .ok (.iconst 2, 1) := by decide +kernel
theorem dl_1008 : decode code 1008 = .ok (.iadd, 1) := by decide +kernel
theorem dl_1009 : decode code 1009 = .ok (.iaload, 1) := by decide +kernel
theorem dl_1010 : decode code 1010 = .ok (.aload_n 3, 1) := by decide +kernel
theorem dl_1011 : decode code 1011 = .ok (.invokestatic 162, 3) := by decide +kernel
theorem dl_1014 : decode code 1014 = .ok (.istore 5, 2) := by decide +kernel
theorem dl_1016 : decode code 1016 = .ok (.aload_n 2, 1) := by decide +kernel
theorem dl_1017 : decode code 1017 = .ok (.aload_n 0, 1) := by decide +kernel
theorem dl_1018 : decode code 1018 = .ok (.iload 4, 2) := by decide +kernel
theorem dl_1020 : decode code 1020 = .ok (.iconst 1, 1) := by decide +kernel
theorem dl_1021 : decode code 1021 = .ok (.iadd, 1) := by decide +kernel
theorem dl_1022 : decode code 1022 = .ok (.iaload, 1) := by decide +kernel
theorem dl_1023 : decode code 1023 = .ok (.aload_n 0, 1) := by decide +kernel
theorem dl_1024 : decode code 1024 = .ok (.iload 4, 2) := by decide +kernel
theorem dl_1026 : decode code 1026 = .ok (.iconst 2, 1) := by decide +kernel
theorem dl_1027 : decode code 1027 = .ok (.iadd, 1) := by decide +kernel
theorem dl_1028 : decode code 1028 = .ok (.iaload, 1) := by decide +kernel
theorem dl_1029 : decode code 1029 = .ok (.invokevirtual 164, 3) := by decide +kernel
theorem dl_1032 : decode code 1032 = .ok (.istore 6, 2) := by decide +kernel
theorem dl_1034 : decode code 1034 = .ok (.aload_n 2, 1) := by decide +kernel
theorem dl_1035 : decode code 1035 = .ok (.invokevirtual 94, 3) := by decide +kernel
theorem dl_1038 : decode code 1038 = .ok (.iload 5, 2) := by decide +kernel
theorem dl_1040 : decode code 1040 = .ok (.if_icmp .eq 5, 3) := by decide +kernel
theorem dl_1043 : decode code 1043 = .ok (.iconst 0, 1) := by decide +kernel
theorem dl_1044 : decode code 1044 = .ok (.ireturn, 1) := by decide +kernel
theorem dl_1045 : decode code 1045 = .ok (.iload 5, 2) := by decide +kernel
theorem dl_1047 : decode code 1047 = .ok (.ifCond .ne 15, 3) := by decide +kernel
theorem dl_1050 : decode code 1050 = .ok (.aload_n 3, 1) := by decide +kernel
theorem dl_1051 : decode code 1051 = .ok (.iconst 0, 1) := by decide +kernel
theorem dl_1052 : decode code 1052 = .ok (.laload, 1) := by decide +kernel
theorem dl_1053 : decode code 1053 = .ok (.iload 6, 2) := by decide +kernel
theorem dl_1055 : decode code 1055 = .ok (.i2l, 1) := by decide +kernel
theorem dl_1056 : decode code 1056 = .ok (.lcmp, 1) := by decide +kernel
theorem dl_1057 : decode code 1057 = .ok (.ifCond .eq 5, 3) := by decide +kernel
theorem dl_1060 : decode code 1060 = .ok (.iconst 0, 1) := by decide +kernel
theorem dl_1061 : decode code 1061 = .ok (.ireturn, 1) := by decide +kernel
theorem dl_1062 : decode code 1062 = .ok (.goto 152, 3) := by decide +kernel
theorem dl_1065 : decode code 1065 = .ok (.aload_n 1, 1) := by decide +kernel
theorem dl_1066 : decode code 1066 = .ok (.aload_n 0, 1) := by decide +kernel
theorem dl_1067 : decode code 1067 = .ok (.iload 4, 2) := by decide +kernel
theorem dl_1069 : decode code 1069 = .ok (.iconst 1, 1) := by decide +kernel
theorem dl_1070 : decode code 1070 = .ok (.iadd, 1) := by decide +kernel
theorem dl_1071 : decode code 1071 = .ok (.iaload, 1) := by decide +kernel
theorem dl_1072 : decode code 1072 = .ok (.aload_n 0, 1) := by decide +kernel
theorem dl_1073 : decode code 1073 = .ok (.iload 4, 2) := by decide +kernel
theorem dl_1075 : decode code 1075 = .ok (.iconst 2, 1) := by decide +kernel
theorem dl_1076 : decode code 1076 = .ok (.iadd, 1) := by decide +kernel
theorem dl_1077 : decode code 1077 = .ok (.iaload, 1) := by decide +kernel
theorem dl_1078 : decode code 1078 = .ok (.aload_n 3, 1) := by decide +kernel
theorem dl_1079 : decode code 1079 = .ok (.invokestatic 165, 3) := by decide +kernel
theorem dl_1082 : decode code 1082 = .ok (.istore 5, 2) := by decide +kernel
theorem dl_1084 : decode code 1084 = .ok (.aload_n 2, 1) := by decide +kernel
theorem dl_1085 : decode code 1085 = .ok (.aload_n 0, 1) := by decide +kernel
theorem dl_1086 : decode code 1086 = .ok (.iload 4, 2) := by decide +kernel
theorem dl_1088 : decode code 1088 = .ok (.iconst 1, 1) := by decide +kernel
theorem dl_1089 : decode code 1089 = .ok (.iadd, 1) := by decide +kernel
theorem dl_1090 : decode code 1090 = .ok (.iaload, 1) := by decide +kernel
theorem dl_1091 : decode code 1091 = .ok (.aload_n 0, 1) := by decide +kernel
theorem dl_1092 : decode code 1092 = .ok (.iload 4, 2) := by decide +kernel
theorem dl_1094 : decode code 1094 = .ok (.iconst 2, 1) := by decide +kernel
theorem dl_1095 : decode code 1095 = .ok (.iadd, 1) := by decide +kernel
theorem dl_1096 : decode code 1096 = .ok (.iaload, 1) := by decide +kernel
theorem dl_1097 : decode code 1097 = .ok (.invokevirtual 167, 3) := by decide +kernel
theorem dl_1100 : decode code 1100 = .ok (.istore 6, 2) := by decide +kernel
theorem dl_1102 : decode code 1102 = .ok (.aload_n 2, 1) := by decide +kernel
theorem dl_1103 : decode code 1103 = .ok (.invokevirtual 94, 3) := by decide +kernel
theorem dl_1106 : decode code 1106 = .ok (.iload 5, 2) := by decide +kernel
theorem dl_1108 : decode code 1108 = .ok (.if_icmp .eq 5, 3) := by decide +kernel
theorem dl_1111 : decode code 1111 = .ok (.iconst 0, 1) := by decide +kernel
theorem dl_1112 : decode code 1112 = .ok (.ireturn, 1) := by decide +kernel
theorem dl_1113 : decode code 1113 = .ok (.iload 5, 2) := by decide +kernel
theorem dl_1115 : decode code 1115 = .ok (.ifCond .ne 15, 3) := by decide +kernel
theorem dl_1118 : decode code 1118 = .ok (.aload_n 3, 1) := by decide +kernel
theorem dl_1119 : decode code 1119 = .ok (.iconst 0, 1) := by decide +kernel
theorem dl_1120 : decode code 1120 = .ok (.laload, 1) := by decide +kernel
theorem dl_1121 : decode code 1121 = .ok (.iload 6, 2) := by decide +kernel
theorem dl_1123 : decode code 1123 = .ok (.i2l, 1) := by decide +kernel
theorem dl_1124 : decode code 1124 = .ok (.lcmp, 1) := by decide +kernel
theorem dl_1125 : decode code 1125 = .ok (.ifCond .eq 5, 3) := by decide +kernel
theorem dl_1128 : decode code 1128 = .ok (.iconst 0, 1) := by decide +kernel
theorem dl_1129 : decode code 1129 = .ok (.ireturn, 1) := by decide +kernel
theorem dl_1130 : decode code 1130 = .ok (.goto 84, 3) := by decide +kernel
theorem dl_1133 : decode code 1133 = .ok (.aload_n 1, 1) := by decide +kernel
theorem dl_1134 : decode code 1134 = .ok (.aload_n 0, 1) := by decide +kernel
theorem dl_1135 : decode code 1135 = .ok (.iload 4, 2) := by decide +kernel
theorem dl_1137 : decode code 1137 = .ok (.iconst 1, 1) := by decide +kernel
theorem dl_1138 : decode code 1138 = .ok (.iadd, 1) := by decide +kernel
theorem dl_1139 : decode code 1139 = .ok (.iaload, 1) := by decide +kernel
theorem dl_1140 : decode code 1140 = .ok (.aload_n 0, 1) := by decide +kernel
theorem dl_1141 : decode code 1141 = .ok (.iload 4, 2) := by decide +kernel
theorem dl_1143 : decode code 1143 = .ok (.iconst 2, 1) := by decide +kernel
theorem dl_1144 : decode code 1144 = .ok (.iadd, 1) := by decide +kernel
theorem dl_1145 : decode code 1145 = .ok (.iaload, 1) := by decide +kernel
theorem dl_1146 : decode code 1146 = .ok (.aload_n 3, 1) := by decide +kernel
theorem dl_1147 : decode code 1147 = .ok (.invokestatic 168, 3) := by decide +kernel
theorem dl_1150 : decode code 1150 = .ok (.istore 5, 2) := by decide +kernel
theorem dl_1152 : decode code 1152 = .ok (.aload_n 2, 1) := by decide +kernel
theorem dl_1153 : decode code 1153 = .ok (.aload_n 0, 1) := by decide +kernel
theorem dl_1154 : decode code 1154 = .ok (.iload 4, 2) := by decide +kernel
theorem dl_1156 : decode code 1156 = .ok (.iconst 1, 1) := by decide +kernel
theorem dl_1157 : decode code 1157 = .ok (.iadd, 1) := by decide +kernel
theorem dl_1158 : decode code 1158 = .ok (.iaload, 1) := by decide +kernel
theorem dl_1159 : decode code 1159 = .ok (.aload_n 0, 1) := by decide +kernel
theorem dl_1160 : decode code 1160 = .ok (.iload 4, 2) := by decide +kernel
theorem dl_1162 : decode code 1162 = .ok (.iconst 2, 1) := by decide +kernel
theorem dl_1163 : decode code 1163 = .ok (.iadd, 1) := by decide +kernel
theorem dl_1164 : decode code 1164 = .ok (.iaload, 1) := by decide +kernel
theorem dl_1165 : decode code 1165 = .ok (.invokevirtual 170, 3) := by decide +kernel
theorem dl_1168 : decode code 1168 = .ok (.istore 6, 2) := by decide +kernel
theorem dl_1170 : decode code 1170 = .ok (.aload_n 2, 1) := by decide +kernel
theorem dl_1171 : decode code 1171 = .ok (.invokevirtual 94, 3) := by decide +kernel
theorem dl_1174 : decode code 1174 = .ok (.iload 5, 2) := by decide +kernel
theorem dl_1176 : decode code 1176 = .ok (.if_icmp .eq 5, 3) := by decide +kernel
theorem dl_1179 : decode code 1179 = .ok (.iconst 0, 1) := by decide +kernel
theorem dl_1180 : decode code 1180 = .ok (.ireturn, 1) := by decide +kernel
theorem dl_1181 : decode code 1181 = .ok (.iload 5, 2) := by decide +kernel
theorem dl_1183 : decode code 1183 = .ok (.ifCond .ne 15, 3) := by decide +kernel
theorem dl_1186 : decode code 1186 = .ok (.aload_n 3, 1) := by decide +kernel
theorem dl_1187 : decode code 1187 = .ok (.iconst 0, 1) := by decide +kernel
theorem dl_1188 : decode code 1188 = .ok (.laload, 1) := by decide +kernel
theorem dl_1189 : decode code 1189 = .ok (.iload 6, 2) := by decide +kernel
theorem dl_1191 : decode code 1191 = .ok (.i2l, 1) := by decide +kernel
theorem dl_1192 : decode code 1192 = .ok (.lcmp, 1) := by decide +kernel
theorem dl_1193 : decode code 1193 = .ok (.ifCond .eq 5, 3) := by decide +kernel
theorem dl_1196 : decode code 1196 = .ok (.iconst 0, 1) := by decide +kernel
theorem dl_1197 : decode code 1197 = .ok (.ireturn, 1) := by decide +kernel
theorem dl_1198 : decode code 1198 = .ok (.goto 16, 3) := by decide +kernel
theorem dl_1201 : decode code 1201 = .ok (.aload_n 1, 1) := by decide +kernel
theorem dl_1202 : decode code 1202 = .ok (.invokevirtual 171, 3) := by decide +kernel
theorem dl_1205 : decode code 1205 = .ok (.aload_n 2, 1) := by decide +kernel
theorem dl_1206 : decode code 1206 = .ok (.invokevirtual 174, 3) := by decide +kernel
theorem dl_1209 : decode code 1209 = .ok (.if_icmp .eq 5, 3) := by decide +kernel
theorem dl_1212 : decode code 1212 = .ok (.iconst 0, 1) := by decide +kernel
theorem dl_1213 : decode code 1213 = .ok (.ireturn, 1) := by decide +kernel
theorem dl_1214 : decode code 1214 = .ok (.iinc 4 3, 3) := by decide +kernel
theorem dl_1217 : decode code 1217 = .ok (.goto (-1194), 3) := by decide +kernel
theorem dl_1220 : decode code 1220 = .ok (.iconst 1, 1) := by decide +kernel
theorem dl_1221 : decode code 1221 = .ok (.ireturn, 1) := by decide +kernel
end
section
/-! THE LAW'S CASES, written by our own program (wip/whole/gen_law.py): from a case's first instruction to the loop's end, given what the small method, the reference's method and thrown() come to. -/
theorem q_nI2 (a : Nat) : nI a + 2 = nI (a + 2) := nI_add a 2
theorem q_cmp0 (x : Int64) : lg_cmp x x = 0 := by simp [lg_cmp]
theorem ll_93 : lw_tbl[826]? = some (.methodLink "CashRecyclerLaw" 93 (qmY 96)) := by decide +kernel
theorem ll_94 : lw_tbl[822]? = some (.methodLink "CashRecyclerLaw" 94 (qmY 92)) := by decide +kernel
theorem lc_insert_w : lw_tbl[294]? = some (.methodLink "CashRecyclerLaw" 88 yw_insert) ∧ lw_tbl[295]? = some (.static yw_insert) ∧ lw_tbl[296]? = some (.codeWith yw_insert method_3_code 4 (some .int) [(0, 9, 12, 13), (0, 9, 15, 15)]) ∧ (parseMethodDescriptor yw_insert.desc).map (fun d => d.parameters.length) = some 3 := by decide +kernel
set_option maxHeartbeats 4000000 in
theorem lc_insert {p : Program} {l : Launch} {e : Env} {s : State} {m : MethodId} {below : List Frame} {meth : Method} {c : Code} {H : Heap} {locs : List Loc} {cells slots : Nat} {Q : State → Prop} {D : va_G} {ad : Nat → Nat} {cI cZ cQ cL : ClassId} {aO b Ln i : Nat} {xs : Nat → Int32} {ls : Array Slot} {h h1 h2 : HP} {o o1 : Int64} (hx : p.tables.exec = Jvm.exec) (hb : c.code = code) (hml : c.maxLocals = 7) (hown : s.vm.findClass "CashRecyclerLaw" = some m.cls) (hts : ∀ w ∈ q_WS, w.before #[Value.ref b] s = true) (hX : va_X b Ln xs s s.heap) (hbl : b < s.heap.size) (hL : q_Law D ad cI cZ cQ aO cL s) (hi : i + 2 < Ln) (hLn : Ln ≤ 1536) (hc : cells + 1 ≤ 664929) (hs : slots + 6 ≤ 7101316) (hl : lv_has ls 7 [(0, .ref b), (1, .ref (ad 0)), (2, .ref (ad 30)), (3, .ref aO), (4, .int (nI i))]) (hJ : va_P D qCl (q_J ad cI cZ cQ aO cL h o) H) (hS : va_S (q_A0 s) s.heap H locs) {k : Int32} {v : Int32} (hW : q_MetL l D ad cI cZ cQ aO cL yw_insert ws_insert rw_insert [.ref (ad 0), .int (xs (i + 1)), .ref aO] h o k h1 o1) (hM : Ec 96 [.inr 30, .inl (xs (i + 1))] h1 (.inl (some v), h2)) (hth : h2 30 0 = k) (hT : Ec 92 [.inr 30] h2 (.inl (some (h2 30 0)), h2)) (hout : k = 0 → o1 = v.toInt64) (kk : ∀ (ls' : Array Slot) (H' : Heap) (locs' : List Loc), lv_has ls' 7 [(0, .ref b), (1, .ref (ad 0)), (2, .ref (ad 30)), (3, .ref aO), (4, .int (nI i))] → va_P D qCl (q_J ad cI cZ cQ aO cL h2 o1) H' → va_S (q_A0 s) s.heap H' locs' → W p l e room_1 s m #[Value.ref b] below meth c H' locs' (cells + 1) (slots + 6) Q (F0 m 1214 ls' [])) : W p l e room_1 s m #[Value.ref b] below meth c H locs cells slots Q (F0 m 148 ls []) := by
  refine lv_aload_n hx hb dl_148 rfl (lv_at hl 1 rfl) ?_
  refine lv_aload_n hx hb dl_149 rfl (lv_at hl 0 rfl) ?_
  refine lv_iload hx hb dl_150 (lv_at hl 4 rfl) ?_
  refine lv_iconst (v := 1) hx hb dl_152 (by decide) ?_
  refine lv_iadd hx hb dl_153 ?_
  rw [nI_1]
  refine va_sld hx hb hX hbl (fun z => by have : s.heap.size ≤ b := z; omega) hS (nI_in (by omega) (by omega)) dl_154 ?_
  rw [nI_clamp (show i + 1 < 2 ^ 31 by omega)]
  refine lv_aload_n hx hb dl_155 rfl (lv_at hl 3 rfl) ?_
  refine q_lcall (idx := 88) ⟨hx, hb, hml, hown, hts⟩ hL hW rfl rfl (by decide +kernel) (by decide +kernel) (q_inAt lc_insert_w.2.2.1 rfl) (q_inAt lc_insert_w.2.1 rfl) (q_inAt lc_insert_w.1 rfl) rfl lc_insert_w.2.2.2 hJ hS hc hs hl.1 rfl dl_156 (fun H1 locs1 hJ1 hS1 => ?_)
  refine lv_istore hx hb dl_159 hl (by decide) rfl (fun ls5 hl => ?_)
  have hl : lv_has ls5 7 [(5, .int k), (0, .ref b), (1, .ref (ad 0)), (2, .ref (ad 30)), (3, .ref aO), (4, .int (nI i))] := hl
  refine lv_aload_n hx hb dl_161 rfl (lv_at hl 3 rfl) ?_
  refine lv_aload_n hx hb dl_162 rfl (lv_at hl 1 rfl) ?_
  refine lv_iload hx hb dl_163 (lv_at hl 5 rfl) ?_
  refine lv_iconst (v := 1) hx hb dl_165 (by decide) ?_
  refine lv_iadd hx hb dl_166 ?_
  rw [nI_1]
  refine va_sld hx hb hX hbl (fun z => by have : s.heap.size ≤ b := z; omega) hS1 (nI_in (by omega) (by omega)) dl_167 ?_
  rw [nI_clamp (show i + 1 < 2 ^ 31 by omega)]
  refine q_ucall (j := 96) (ro := 30) (idx := 93) (as := [.inl (xs (i + 1))]) (rest := []) (A0 := q_A0 s) ⟨hx, hb, hml, hown, hts⟩ hL.1.1 (by decide) (by decide) rfl hM rfl rfl (q_inAt ll_93 rfl) (by decide +kernel) (by decide +kernel) (by show (cells + 1) ≤ 664929; omega) (by show (slots + 6) ≤ 7101316; omega) (q_J_W hJ1) hS1 (fun q z => hL.2.2.2.2.2 q (Or.inl z)) (fun U hU hWU => q_Law_sta hL hS1 hU hWU) hl.1 rfl (Nat.le_of_ble_eq_true rfl) dl_168 (fun G0 gl0 hG0 gz0 gk0 hSg0 => ?_)
  have hJg0 : va_P D qCl (q_J ad cI cZ cQ aO cL h2 o1) G0 := q_J_mk hG0 (by rw [gk0 aO (Array.getElem?_eq_some_iff.mp (q_J_O hJ1)).1 hL.2.2.2.2.1]; exact q_J_O hJ1)
  refine lv_istore hx hb dl_171 hl (by decide) rfl (fun ls6 hl => ?_)
  have hl : lv_has ls6 7 [(6, .int v), (5, .int k), (0, .ref b), (1, .ref (ad 0)), (2, .ref (ad 30)), (3, .ref aO), (4, .int (nI i))] := hl
  refine lv_aload_n hx hb dl_173 rfl (lv_at hl 4 rfl) ?_
  refine q_ucall (j := 92) (ro := 30) (idx := 94) (as := []) (rest := []) (A0 := q_A0 s) ⟨hx, hb, hml, hown, hts⟩ hL.1.1 (by decide) (by decide) rfl hT rfl rfl (q_inAt ll_94 rfl) (by decide +kernel) (by decide +kernel) (by show (cells + 1) ≤ 664929; omega) (by show (slots + 6) ≤ 7101316; omega) (q_J_W hJg0) hSg0 (fun q z => hL.2.2.2.2.2 q (Or.inl z)) (fun U hU hWU => q_Law_sta hL hSg0 hU hWU) hl.1 rfl (Nat.le_of_ble_eq_true rfl) dl_174 (fun G1 gl1 hG1 gz1 gk1 hSg1 => ?_)
  have hJg1 : va_P D qCl (q_J ad cI cZ cQ aO cL h2 o1) G1 := q_J_mk hG1 (by rw [gk1 aO (Array.getElem?_eq_some_iff.mp (q_J_O hJg0)).1 hL.2.2.2.2.1]; exact q_J_O hJg0)
  refine lv_iload hx hb dl_177 (lv_at hl 1 rfl) ?_
  refine lv_icmp_eq hx hb dl_179 rfl (fun _ => ?_) (fun hc9 => absurd hth hc9)
  refine lv_iload hx hb dl_184 (lv_at hl 1 rfl) ?_
  refine lv_if_ne hx hb dl_186 rfl (fun hk0 => ?_) (fun hk0 => ?_)
  · refine lv_goto hx hb dl_201 rfl ?_
    exact kk _ _ _ (lv_sub hl [2, 3, 4, 5, 6] rfl) hJg1 hSg1
  · have ho := hout hk0
    refine lv_aload_n hx hb dl_189 rfl (lv_at hl 5 rfl) ?_
    refine lv_iconst (v := 0) hx hb dl_190 (by decide) ?_
    refine va_lald (D := D) (cl := qCl) hx hb hL.2.2.1 hJg1 47 0 q_J_47 rfl q_in01 dl_191 ?_
    show W _ _ _ _ _ _ _ _ _ _ _ _ _ _ _ (F0 m _ _ [.long o1])
    rw [ho]
    refine lv_iload hx hb dl_192 (lv_at hl 0 rfl) ?_
    refine lv_i2l (v := v.toInt64) hx hb dl_194 rfl ?_
    refine W.lcmp hx hb dl_195 ?_
    rw [q_cmp0]
    refine lv_if_eq hx hb dl_196 rfl (fun _ => ?_) (fun hc9 => absurd rfl hc9)
    refine lv_goto hx hb dl_201 rfl ?_
    exact kk _ _ _ (lv_sub hl [2, 3, 4, 5, 6] rfl) hJg1 hSg1
theorem ll_99 : lw_tbl[830]? = some (.methodLink "CashRecyclerLaw" 99 (qmY 97)) := by decide +kernel
theorem lc_verdict_w : lw_tbl[382]? = some (.methodLink "CashRecyclerLaw" 97 yw_verdict) ∧ lw_tbl[383]? = some (.static yw_verdict) ∧ lw_tbl[384]? = some (.codeWith yw_verdict method_4_code 4 (some .int) [(0, 9, 12, 13), (0, 9, 15, 15)]) ∧ (parseMethodDescriptor yw_verdict.desc).map (fun d => d.parameters.length) = some 3 := by decide +kernel
set_option maxHeartbeats 4000000 in
theorem lc_verdict {p : Program} {l : Launch} {e : Env} {s : State} {m : MethodId} {below : List Frame} {meth : Method} {c : Code} {H : Heap} {locs : List Loc} {cells slots : Nat} {Q : State → Prop} {D : va_G} {ad : Nat → Nat} {cI cZ cQ cL : ClassId} {aO b Ln i : Nat} {xs : Nat → Int32} {ls : Array Slot} {h h1 h2 : HP} {o o1 : Int64} (hx : p.tables.exec = Jvm.exec) (hb : c.code = code) (hml : c.maxLocals = 7) (hown : s.vm.findClass "CashRecyclerLaw" = some m.cls) (hts : ∀ w ∈ q_WS, w.before #[Value.ref b] s = true) (hX : va_X b Ln xs s s.heap) (hbl : b < s.heap.size) (hL : q_Law D ad cI cZ cQ aO cL s) (hi : i + 2 < Ln) (hLn : Ln ≤ 1536) (hc : cells + 1 ≤ 664929) (hs : slots + 6 ≤ 7101316) (hl : lv_has ls 7 [(0, .ref b), (1, .ref (ad 0)), (2, .ref (ad 30)), (3, .ref aO), (4, .int (nI i))]) (hJ : va_P D qCl (q_J ad cI cZ cQ aO cL h o) H) (hS : va_S (q_A0 s) s.heap H locs) {k : Int32} {v : Int32} (hW : q_MetL l D ad cI cZ cQ aO cL yw_verdict ws_verdict rw_verdict [.ref (ad 0), .int (xs (i + 1)), .ref aO] h o k h1 o1) (hM : Ec 97 [.inr 30, .inl (xs (i + 1))] h1 (.inl (some v), h2)) (hth : h2 30 0 = k) (hT : Ec 92 [.inr 30] h2 (.inl (some (h2 30 0)), h2)) (hout : k = 0 → o1 = v.toInt64) (kk : ∀ (ls' : Array Slot) (H' : Heap) (locs' : List Loc), lv_has ls' 7 [(0, .ref b), (1, .ref (ad 0)), (2, .ref (ad 30)), (3, .ref aO), (4, .int (nI i))] → va_P D qCl (q_J ad cI cZ cQ aO cL h2 o1) H' → va_S (q_A0 s) s.heap H' locs' → W p l e room_1 s m #[Value.ref b] below meth c H' locs' (cells + 1) (slots + 6) Q (F0 m 1214 ls' [])) : W p l e room_1 s m #[Value.ref b] below meth c H locs cells slots Q (F0 m 204 ls []) := by
  refine lv_aload_n hx hb dl_204 rfl (lv_at hl 1 rfl) ?_
  refine lv_aload_n hx hb dl_205 rfl (lv_at hl 0 rfl) ?_
  refine lv_iload hx hb dl_206 (lv_at hl 4 rfl) ?_
  refine lv_iconst (v := 1) hx hb dl_208 (by decide) ?_
  refine lv_iadd hx hb dl_209 ?_
  rw [nI_1]
  refine va_sld hx hb hX hbl (fun z => by have : s.heap.size ≤ b := z; omega) hS (nI_in (by omega) (by omega)) dl_210 ?_
  rw [nI_clamp (show i + 1 < 2 ^ 31 by omega)]
  refine lv_aload_n hx hb dl_211 rfl (lv_at hl 3 rfl) ?_
  refine q_lcall (idx := 97) ⟨hx, hb, hml, hown, hts⟩ hL hW rfl rfl (by decide +kernel) (by decide +kernel) (q_inAt lc_verdict_w.2.2.1 rfl) (q_inAt lc_verdict_w.2.1 rfl) (q_inAt lc_verdict_w.1 rfl) rfl lc_verdict_w.2.2.2 hJ hS hc hs hl.1 rfl dl_212 (fun H1 locs1 hJ1 hS1 => ?_)
  refine lv_istore hx hb dl_215 hl (by decide) rfl (fun ls5 hl => ?_)
  have hl : lv_has ls5 7 [(5, .int k), (0, .ref b), (1, .ref (ad 0)), (2, .ref (ad 30)), (3, .ref aO), (4, .int (nI i))] := hl
  refine lv_aload_n hx hb dl_217 rfl (lv_at hl 3 rfl) ?_
  refine lv_aload_n hx hb dl_218 rfl (lv_at hl 1 rfl) ?_
  refine lv_iload hx hb dl_219 (lv_at hl 5 rfl) ?_
  refine lv_iconst (v := 1) hx hb dl_221 (by decide) ?_
  refine lv_iadd hx hb dl_222 ?_
  rw [nI_1]
  refine va_sld hx hb hX hbl (fun z => by have : s.heap.size ≤ b := z; omega) hS1 (nI_in (by omega) (by omega)) dl_223 ?_
  rw [nI_clamp (show i + 1 < 2 ^ 31 by omega)]
  refine q_ucall (j := 97) (ro := 30) (idx := 99) (as := [.inl (xs (i + 1))]) (rest := []) (A0 := q_A0 s) ⟨hx, hb, hml, hown, hts⟩ hL.1.1 (by decide) (by decide) rfl hM rfl rfl (q_inAt ll_99 rfl) (by decide +kernel) (by decide +kernel) (by show (cells + 1) ≤ 664929; omega) (by show (slots + 6) ≤ 7101316; omega) (q_J_W hJ1) hS1 (fun q z => hL.2.2.2.2.2 q (Or.inl z)) (fun U hU hWU => q_Law_sta hL hS1 hU hWU) hl.1 rfl (Nat.le_of_ble_eq_true rfl) dl_224 (fun G0 gl0 hG0 gz0 gk0 hSg0 => ?_)
  have hJg0 : va_P D qCl (q_J ad cI cZ cQ aO cL h2 o1) G0 := q_J_mk hG0 (by rw [gk0 aO (Array.getElem?_eq_some_iff.mp (q_J_O hJ1)).1 hL.2.2.2.2.1]; exact q_J_O hJ1)
  refine lv_istore hx hb dl_227 hl (by decide) rfl (fun ls6 hl => ?_)
  have hl : lv_has ls6 7 [(6, .int v), (5, .int k), (0, .ref b), (1, .ref (ad 0)), (2, .ref (ad 30)), (3, .ref aO), (4, .int (nI i))] := hl
  refine lv_aload_n hx hb dl_229 rfl (lv_at hl 4 rfl) ?_
  refine q_ucall (j := 92) (ro := 30) (idx := 94) (as := []) (rest := []) (A0 := q_A0 s) ⟨hx, hb, hml, hown, hts⟩ hL.1.1 (by decide) (by decide) rfl hT rfl rfl (q_inAt ll_94 rfl) (by decide +kernel) (by decide +kernel) (by show (cells + 1) ≤ 664929; omega) (by show (slots + 6) ≤ 7101316; omega) (q_J_W hJg0) hSg0 (fun q z => hL.2.2.2.2.2 q (Or.inl z)) (fun U hU hWU => q_Law_sta hL hSg0 hU hWU) hl.1 rfl (Nat.le_of_ble_eq_true rfl) dl_230 (fun G1 gl1 hG1 gz1 gk1 hSg1 => ?_)
  have hJg1 : va_P D qCl (q_J ad cI cZ cQ aO cL h2 o1) G1 := q_J_mk hG1 (by rw [gk1 aO (Array.getElem?_eq_some_iff.mp (q_J_O hJg0)).1 hL.2.2.2.2.1]; exact q_J_O hJg0)
  refine lv_iload hx hb dl_233 (lv_at hl 1 rfl) ?_
  refine lv_icmp_eq hx hb dl_235 rfl (fun _ => ?_) (fun hc9 => absurd hth hc9)
  refine lv_iload hx hb dl_240 (lv_at hl 1 rfl) ?_
  refine lv_if_ne hx hb dl_242 rfl (fun hk0 => ?_) (fun hk0 => ?_)
  · refine lv_goto hx hb dl_257 rfl ?_
    exact kk _ _ _ (lv_sub hl [2, 3, 4, 5, 6] rfl) hJg1 hSg1
  · have ho := hout hk0
    refine lv_aload_n hx hb dl_245 rfl (lv_at hl 5 rfl) ?_
    refine lv_iconst (v := 0) hx hb dl_246 (by decide) ?_
    refine va_lald (D := D) (cl := qCl) hx hb hL.2.2.1 hJg1 47 0 q_J_47 rfl q_in01 dl_247 ?_
    show W _ _ _ _ _ _ _ _ _ _ _ _ _ _ _ (F0 m _ _ [.long o1])
    rw [ho]
    refine lv_iload hx hb dl_248 (lv_at hl 0 rfl) ?_
    refine lv_i2l (v := v.toInt64) hx hb dl_250 rfl ?_
    refine W.lcmp hx hb dl_251 ?_
    rw [q_cmp0]
    refine lv_if_eq hx hb dl_252 rfl (fun _ => ?_) (fun hc9 => absurd rfl hc9)
    refine lv_goto hx hb dl_257 rfl ?_
    exact kk _ _ _ (lv_sub hl [2, 3, 4, 5, 6] rfl) hJg1 hSg1
theorem ll_103 : lw_tbl[834]? = some (.methodLink "CashRecyclerLaw" 103 (qmY 98)) := by decide +kernel
theorem lc_deposit_w : lw_tbl[397]? = some (.methodLink "CashRecyclerLaw" 100 yw_deposit) ∧ lw_tbl[398]? = some (.static yw_deposit) ∧ lw_tbl[399]? = some (.codeWith yw_deposit method_5_code 2 (some .int) [(0, 4, 7, 15)]) ∧ (parseMethodDescriptor yw_deposit.desc).map (fun d => d.parameters.length) = some 1 := by decide +kernel
set_option maxHeartbeats 4000000 in
theorem lc_deposit {p : Program} {l : Launch} {e : Env} {s : State} {m : MethodId} {below : List Frame} {meth : Method} {c : Code} {H : Heap} {locs : List Loc} {cells slots : Nat} {Q : State → Prop} {D : va_G} {ad : Nat → Nat} {cI cZ cQ cL : ClassId} {aO b Ln i : Nat} {xs : Nat → Int32} {ls : Array Slot} {h h1 h2 : HP} {o o1 : Int64} (hx : p.tables.exec = Jvm.exec) (hb : c.code = code) (hml : c.maxLocals = 7) (hown : s.vm.findClass "CashRecyclerLaw" = some m.cls) (hts : ∀ w ∈ q_WS, w.before #[Value.ref b] s = true) (hX : va_X b Ln xs s s.heap) (hbl : b < s.heap.size) (hL : q_Law D ad cI cZ cQ aO cL s) (hi : i + 2 < Ln) (hLn : Ln ≤ 1536) (hc : cells + 1 ≤ 664929) (hs : slots + 6 ≤ 7101316) (hl : lv_has ls 7 [(0, .ref b), (1, .ref (ad 0)), (2, .ref (ad 30)), (3, .ref aO), (4, .int (nI i))]) (hJ : va_P D qCl (q_J ad cI cZ cQ aO cL h o) H) (hS : va_S (q_A0 s) s.heap H locs) {k : Int32} (hW : q_MetL l D ad cI cZ cQ aO cL yw_deposit ws_deposit rw_deposit [.ref (ad 0)] h o k h1 o1) (hM : Ec 98 [.inr 30] h1 (.inl none, h2)) (hth : h2 30 0 = k) (hT : Ec 92 [.inr 30] h2 (.inl (some (h2 30 0)), h2)) (kk : ∀ (ls' : Array Slot) (H' : Heap) (locs' : List Loc), lv_has ls' 7 [(0, .ref b), (1, .ref (ad 0)), (2, .ref (ad 30)), (3, .ref aO), (4, .int (nI i))] → va_P D qCl (q_J ad cI cZ cQ aO cL h2 o1) H' → va_S (q_A0 s) s.heap H' locs' → W p l e room_1 s m #[Value.ref b] below meth c H' locs' (cells + 1) (slots + 6) Q (F0 m 1214 ls' [])) : W p l e room_1 s m #[Value.ref b] below meth c H locs cells slots Q (F0 m 260 ls []) := by
  refine lv_aload_n hx hb dl_260 rfl (lv_at hl 1 rfl) ?_
  refine q_lcall (idx := 100) ⟨hx, hb, hml, hown, hts⟩ hL hW rfl rfl (by decide +kernel) (by decide +kernel) (q_inAt lc_deposit_w.2.2.1 rfl) (q_inAt lc_deposit_w.2.1 rfl) (q_inAt lc_deposit_w.1 rfl) rfl lc_deposit_w.2.2.2 hJ hS hc hs hl.1 rfl dl_261 (fun H1 locs1 hJ1 hS1 => ?_)
  refine lv_istore hx hb dl_264 hl (by decide) rfl (fun ls5 hl => ?_)
  have hl : lv_has ls5 7 [(5, .int k), (0, .ref b), (1, .ref (ad 0)), (2, .ref (ad 30)), (3, .ref aO), (4, .int (nI i))] := hl
  refine lv_aload_n hx hb dl_266 rfl (lv_at hl 3 rfl) ?_
  refine q_ucall (j := 98) (ro := 30) (idx := 103) (as := []) (rest := []) (A0 := q_A0 s) ⟨hx, hb, hml, hown, hts⟩ hL.1.1 (by decide) (by decide) rfl hM rfl rfl (q_inAt ll_103 rfl) (by decide +kernel) (by decide +kernel) (by show (cells + 1) ≤ 664929; omega) (by show (slots + 6) ≤ 7101316; omega) (q_J_W hJ1) hS1 (fun q z => hL.2.2.2.2.2 q (Or.inl z)) (fun U hU hWU => q_Law_sta hL hS1 hU hWU) hl.1 rfl (Nat.le_of_ble_eq_true rfl) dl_267 (fun G0 gl0 hG0 gz0 gk0 hSg0 => ?_)
  have hJg0 : va_P D qCl (q_J ad cI cZ cQ aO cL h2 o1) G0 := q_J_mk hG0 (by rw [gk0 aO (Array.getElem?_eq_some_iff.mp (q_J_O hJ1)).1 hL.2.2.2.2.1]; exact q_J_O hJ1)
  refine lv_aload_n hx hb dl_270 rfl (lv_at hl 3 rfl) ?_
  refine q_ucall (j := 92) (ro := 30) (idx := 94) (as := []) (rest := []) (A0 := q_A0 s) ⟨hx, hb, hml, hown, hts⟩ hL.1.1 (by decide) (by decide) rfl hT rfl rfl (q_inAt ll_94 rfl) (by decide +kernel) (by decide +kernel) (by show (cells + 1) ≤ 664929; omega) (by show (slots + 6) ≤ 7101316; omega) (q_J_W hJg0) hSg0 (fun q z => hL.2.2.2.2.2 q (Or.inl z)) (fun U hU hWU => q_Law_sta hL hSg0 hU hWU) hl.1 rfl (Nat.le_of_ble_eq_true rfl) dl_271 (fun G1 gl1 hG1 gz1 gk1 hSg1 => ?_)
  have hJg1 : va_P D qCl (q_J ad cI cZ cQ aO cL h2 o1) G1 := q_J_mk hG1 (by rw [gk1 aO (Array.getElem?_eq_some_iff.mp (q_J_O hJg0)).1 hL.2.2.2.2.1]; exact q_J_O hJg0)
  refine lv_iload hx hb dl_274 (lv_at hl 0 rfl) ?_
  refine lv_icmp_eq hx hb dl_276 rfl (fun _ => ?_) (fun hc9 => absurd hth hc9)
  refine lv_goto hx hb dl_281 rfl ?_
  exact kk _ _ _ (lv_sub hl [1, 2, 3, 4, 5] rfl) hJg1 hSg1
theorem ll_106 : lw_tbl[841]? = some (.methodLink "CashRecyclerLaw" 106 (qmY 99)) := by decide +kernel
theorem lc_confirm_w : lw_tbl[409]? = some (.methodLink "CashRecyclerLaw" 104 yw_confirm) ∧ lw_tbl[410]? = some (.static yw_confirm) ∧ lw_tbl[411]? = some (.codeWith yw_confirm method_6_code 2 (some .int) [(0, 4, 7, 15)]) ∧ (parseMethodDescriptor yw_confirm.desc).map (fun d => d.parameters.length) = some 1 := by decide +kernel
set_option maxHeartbeats 4000000 in
theorem lc_confirm {p : Program} {l : Launch} {e : Env} {s : State} {m : MethodId} {below : List Frame} {meth : Method} {c : Code} {H : Heap} {locs : List Loc} {cells slots : Nat} {Q : State → Prop} {D : va_G} {ad : Nat → Nat} {cI cZ cQ cL : ClassId} {aO b Ln i : Nat} {xs : Nat → Int32} {ls : Array Slot} {h h1 h2 : HP} {o o1 : Int64} (hx : p.tables.exec = Jvm.exec) (hb : c.code = code) (hml : c.maxLocals = 7) (hown : s.vm.findClass "CashRecyclerLaw" = some m.cls) (hts : ∀ w ∈ q_WS, w.before #[Value.ref b] s = true) (hX : va_X b Ln xs s s.heap) (hbl : b < s.heap.size) (hL : q_Law D ad cI cZ cQ aO cL s) (hi : i + 2 < Ln) (hLn : Ln ≤ 1536) (hc : cells + 1 ≤ 664929) (hs : slots + 6 ≤ 7101316) (hl : lv_has ls 7 [(0, .ref b), (1, .ref (ad 0)), (2, .ref (ad 30)), (3, .ref aO), (4, .int (nI i))]) (hJ : va_P D qCl (q_J ad cI cZ cQ aO cL h o) H) (hS : va_S (q_A0 s) s.heap H locs) {k : Int32} (hW : q_MetL l D ad cI cZ cQ aO cL yw_confirm ws_confirm rw_confirm [.ref (ad 0)] h o k h1 o1) (hM : Ec 99 [.inr 30] h1 (.inl none, h2)) (hth : h2 30 0 = k) (hT : Ec 92 [.inr 30] h2 (.inl (some (h2 30 0)), h2)) (kk : ∀ (ls' : Array Slot) (H' : Heap) (locs' : List Loc), lv_has ls' 7 [(0, .ref b), (1, .ref (ad 0)), (2, .ref (ad 30)), (3, .ref aO), (4, .int (nI i))] → va_P D qCl (q_J ad cI cZ cQ aO cL h2 o1) H' → va_S (q_A0 s) s.heap H' locs' → W p l e room_1 s m #[Value.ref b] below meth c H' locs' (cells + 1) (slots + 6) Q (F0 m 1214 ls' [])) : W p l e room_1 s m #[Value.ref b] below meth c H locs cells slots Q (F0 m 284 ls []) := by
  refine lv_aload_n hx hb dl_284 rfl (lv_at hl 1 rfl) ?_
  refine q_lcall (idx := 104) ⟨hx, hb, hml, hown, hts⟩ hL hW rfl rfl (by decide +kernel) (by decide +kernel) (q_inAt lc_confirm_w.2.2.1 rfl) (q_inAt lc_confirm_w.2.1 rfl) (q_inAt lc_confirm_w.1 rfl) rfl lc_confirm_w.2.2.2 hJ hS hc hs hl.1 rfl dl_285 (fun H1 locs1 hJ1 hS1 => ?_)
  refine lv_istore hx hb dl_288 hl (by decide) rfl (fun ls5 hl => ?_)
  have hl : lv_has ls5 7 [(5, .int k), (0, .ref b), (1, .ref (ad 0)), (2, .ref (ad 30)), (3, .ref aO), (4, .int (nI i))] := hl
  refine lv_aload_n hx hb dl_290 rfl (lv_at hl 3 rfl) ?_
  refine q_ucall (j := 99) (ro := 30) (idx := 106) (as := []) (rest := []) (A0 := q_A0 s) ⟨hx, hb, hml, hown, hts⟩ hL.1.1 (by decide) (by decide) rfl hM rfl rfl (q_inAt ll_106 rfl) (by decide +kernel) (by decide +kernel) (by show (cells + 1) ≤ 664929; omega) (by show (slots + 6) ≤ 7101316; omega) (q_J_W hJ1) hS1 (fun q z => hL.2.2.2.2.2 q (Or.inl z)) (fun U hU hWU => q_Law_sta hL hS1 hU hWU) hl.1 rfl (Nat.le_of_ble_eq_true rfl) dl_291 (fun G0 gl0 hG0 gz0 gk0 hSg0 => ?_)
  have hJg0 : va_P D qCl (q_J ad cI cZ cQ aO cL h2 o1) G0 := q_J_mk hG0 (by rw [gk0 aO (Array.getElem?_eq_some_iff.mp (q_J_O hJ1)).1 hL.2.2.2.2.1]; exact q_J_O hJ1)
  refine lv_aload_n hx hb dl_294 rfl (lv_at hl 3 rfl) ?_
  refine q_ucall (j := 92) (ro := 30) (idx := 94) (as := []) (rest := []) (A0 := q_A0 s) ⟨hx, hb, hml, hown, hts⟩ hL.1.1 (by decide) (by decide) rfl hT rfl rfl (q_inAt ll_94 rfl) (by decide +kernel) (by decide +kernel) (by show (cells + 1) ≤ 664929; omega) (by show (slots + 6) ≤ 7101316; omega) (q_J_W hJg0) hSg0 (fun q z => hL.2.2.2.2.2 q (Or.inl z)) (fun U hU hWU => q_Law_sta hL hSg0 hU hWU) hl.1 rfl (Nat.le_of_ble_eq_true rfl) dl_295 (fun G1 gl1 hG1 gz1 gk1 hSg1 => ?_)
  have hJg1 : va_P D qCl (q_J ad cI cZ cQ aO cL h2 o1) G1 := q_J_mk hG1 (by rw [gk1 aO (Array.getElem?_eq_some_iff.mp (q_J_O hJg0)).1 hL.2.2.2.2.1]; exact q_J_O hJg0)
  refine lv_iload hx hb dl_298 (lv_at hl 0 rfl) ?_
  refine lv_icmp_eq hx hb dl_300 rfl (fun _ => ?_) (fun hc9 => absurd hth hc9)
  refine lv_goto hx hb dl_305 rfl ?_
  exact kk _ _ _ (lv_sub hl [1, 2, 3, 4, 5] rfl) hJg1 hSg1
theorem ll_109 : lw_tbl[845]? = some (.methodLink "CashRecyclerLaw" 109 (qmY 100)) := by decide +kernel
theorem lc_giveBack_w : lw_tbl[416]? = some (.methodLink "CashRecyclerLaw" 107 yw_giveBack) ∧ lw_tbl[417]? = some (.static yw_giveBack) ∧ lw_tbl[418]? = some (.codeWith yw_giveBack method_7_code 2 (some .int) [(0, 4, 7, 15)]) ∧ (parseMethodDescriptor yw_giveBack.desc).map (fun d => d.parameters.length) = some 1 := by decide +kernel
set_option maxHeartbeats 4000000 in
theorem lc_giveBack {p : Program} {l : Launch} {e : Env} {s : State} {m : MethodId} {below : List Frame} {meth : Method} {c : Code} {H : Heap} {locs : List Loc} {cells slots : Nat} {Q : State → Prop} {D : va_G} {ad : Nat → Nat} {cI cZ cQ cL : ClassId} {aO b Ln i : Nat} {xs : Nat → Int32} {ls : Array Slot} {h h1 h2 : HP} {o o1 : Int64} (hx : p.tables.exec = Jvm.exec) (hb : c.code = code) (hml : c.maxLocals = 7) (hown : s.vm.findClass "CashRecyclerLaw" = some m.cls) (hts : ∀ w ∈ q_WS, w.before #[Value.ref b] s = true) (hX : va_X b Ln xs s s.heap) (hbl : b < s.heap.size) (hL : q_Law D ad cI cZ cQ aO cL s) (hi : i + 2 < Ln) (hLn : Ln ≤ 1536) (hc : cells + 1 ≤ 664929) (hs : slots + 6 ≤ 7101316) (hl : lv_has ls 7 [(0, .ref b), (1, .ref (ad 0)), (2, .ref (ad 30)), (3, .ref aO), (4, .int (nI i))]) (hJ : va_P D qCl (q_J ad cI cZ cQ aO cL h o) H) (hS : va_S (q_A0 s) s.heap H locs) {k : Int32} (hW : q_MetL l D ad cI cZ cQ aO cL yw_giveBack ws_giveBack rw_giveBack [.ref (ad 0)] h o k h1 o1) (hM : Ec 100 [.inr 30] h1 (.inl none, h2)) (hth : h2 30 0 = k) (hT : Ec 92 [.inr 30] h2 (.inl (some (h2 30 0)), h2)) (kk : ∀ (ls' : Array Slot) (H' : Heap) (locs' : List Loc), lv_has ls' 7 [(0, .ref b), (1, .ref (ad 0)), (2, .ref (ad 30)), (3, .ref aO), (4, .int (nI i))] → va_P D qCl (q_J ad cI cZ cQ aO cL h2 o1) H' → va_S (q_A0 s) s.heap H' locs' → W p l e room_1 s m #[Value.ref b] below meth c H' locs' (cells + 1) (slots + 6) Q (F0 m 1214 ls' [])) : W p l e room_1 s m #[Value.ref b] below meth c H locs cells slots Q (F0 m 308 ls []) := by
  refine lv_aload_n hx hb dl_308 rfl (lv_at hl 1 rfl) ?_
  refine q_lcall (idx := 107) ⟨hx, hb, hml, hown, hts⟩ hL hW rfl rfl (by decide +kernel) (by decide +kernel) (q_inAt lc_giveBack_w.2.2.1 rfl) (q_inAt lc_giveBack_w.2.1 rfl) (q_inAt lc_giveBack_w.1 rfl) rfl lc_giveBack_w.2.2.2 hJ hS hc hs hl.1 rfl dl_309 (fun H1 locs1 hJ1 hS1 => ?_)
  refine lv_istore hx hb dl_312 hl (by decide) rfl (fun ls5 hl => ?_)
  have hl : lv_has ls5 7 [(5, .int k), (0, .ref b), (1, .ref (ad 0)), (2, .ref (ad 30)), (3, .ref aO), (4, .int (nI i))] := hl
  refine lv_aload_n hx hb dl_314 rfl (lv_at hl 3 rfl) ?_
  refine q_ucall (j := 100) (ro := 30) (idx := 109) (as := []) (rest := []) (A0 := q_A0 s) ⟨hx, hb, hml, hown, hts⟩ hL.1.1 (by decide) (by decide) rfl hM rfl rfl (q_inAt ll_109 rfl) (by decide +kernel) (by decide +kernel) (by show (cells + 1) ≤ 664929; omega) (by show (slots + 6) ≤ 7101316; omega) (q_J_W hJ1) hS1 (fun q z => hL.2.2.2.2.2 q (Or.inl z)) (fun U hU hWU => q_Law_sta hL hS1 hU hWU) hl.1 rfl (Nat.le_of_ble_eq_true rfl) dl_315 (fun G0 gl0 hG0 gz0 gk0 hSg0 => ?_)
  have hJg0 : va_P D qCl (q_J ad cI cZ cQ aO cL h2 o1) G0 := q_J_mk hG0 (by rw [gk0 aO (Array.getElem?_eq_some_iff.mp (q_J_O hJ1)).1 hL.2.2.2.2.1]; exact q_J_O hJ1)
  refine lv_aload_n hx hb dl_318 rfl (lv_at hl 3 rfl) ?_
  refine q_ucall (j := 92) (ro := 30) (idx := 94) (as := []) (rest := []) (A0 := q_A0 s) ⟨hx, hb, hml, hown, hts⟩ hL.1.1 (by decide) (by decide) rfl hT rfl rfl (q_inAt ll_94 rfl) (by decide +kernel) (by decide +kernel) (by show (cells + 1) ≤ 664929; omega) (by show (slots + 6) ≤ 7101316; omega) (q_J_W hJg0) hSg0 (fun q z => hL.2.2.2.2.2 q (Or.inl z)) (fun U hU hWU => q_Law_sta hL hSg0 hU hWU) hl.1 rfl (Nat.le_of_ble_eq_true rfl) dl_319 (fun G1 gl1 hG1 gz1 gk1 hSg1 => ?_)
  have hJg1 : va_P D qCl (q_J ad cI cZ cQ aO cL h2 o1) G1 := q_J_mk hG1 (by rw [gk1 aO (Array.getElem?_eq_some_iff.mp (q_J_O hJg0)).1 hL.2.2.2.2.1]; exact q_J_O hJg0)
  refine lv_iload hx hb dl_322 (lv_at hl 0 rfl) ?_
  refine lv_icmp_eq hx hb dl_324 rfl (fun _ => ?_) (fun hc9 => absurd hth hc9)
  refine lv_goto hx hb dl_329 rfl ?_
  exact kk _ _ _ (lv_sub hl [1, 2, 3, 4, 5] rfl) hJg1 hSg1
theorem ll_112 : lw_tbl[849]? = some (.methodLink "CashRecyclerLaw" 112 (qmY 104)) := by decide +kernel
theorem lc_payout_w : lw_tbl[423]? = some (.methodLink "CashRecyclerLaw" 110 yw_payout) ∧ lw_tbl[424]? = some (.static yw_payout) ∧ lw_tbl[425]? = some (.codeWith yw_payout method_8_code 4 (some .int) [(0, 9, 12, 13), (0, 9, 15, 15), (0, 9, 18, 32)]) ∧ (parseMethodDescriptor yw_payout.desc).map (fun d => d.parameters.length) = some 3 := by decide +kernel
set_option maxHeartbeats 4000000 in
theorem lc_payout {p : Program} {l : Launch} {e : Env} {s : State} {m : MethodId} {below : List Frame} {meth : Method} {c : Code} {H : Heap} {locs : List Loc} {cells slots : Nat} {Q : State → Prop} {D : va_G} {ad : Nat → Nat} {cI cZ cQ cL : ClassId} {aO b Ln i : Nat} {xs : Nat → Int32} {ls : Array Slot} {h h1 h2 : HP} {o o1 : Int64} (hx : p.tables.exec = Jvm.exec) (hb : c.code = code) (hml : c.maxLocals = 7) (hown : s.vm.findClass "CashRecyclerLaw" = some m.cls) (hts : ∀ w ∈ q_WS, w.before #[Value.ref b] s = true) (hX : va_X b Ln xs s s.heap) (hbl : b < s.heap.size) (hL : q_Law D ad cI cZ cQ aO cL s) (hi : i + 2 < Ln) (hLn : Ln ≤ 1536) (hc : cells + 1 ≤ 664929) (hs : slots + 6 ≤ 7101316) (hl : lv_has ls 7 [(0, .ref b), (1, .ref (ad 0)), (2, .ref (ad 30)), (3, .ref aO), (4, .int (nI i))]) (hJ : va_P D qCl (q_J ad cI cZ cQ aO cL h o) H) (hS : va_S (q_A0 s) s.heap H locs) {k : Int32} {v : Int32} (hW : q_MetL l D ad cI cZ cQ aO cL yw_payout ws_payout rw_payout [.ref (ad 0), .int (xs (i + 1)), .ref aO] h o k h1 o1) (hM : Ec 104 [.inr 30, .inl (xs (i + 1))] h1 (.inl (some v), h2)) (hth : h2 30 0 = k) (hT : Ec 92 [.inr 30] h2 (.inl (some (h2 30 0)), h2)) (hout : k = 0 → o1 = v.toInt64) (kk : ∀ (ls' : Array Slot) (H' : Heap) (locs' : List Loc), lv_has ls' 7 [(0, .ref b), (1, .ref (ad 0)), (2, .ref (ad 30)), (3, .ref aO), (4, .int (nI i))] → va_P D qCl (q_J ad cI cZ cQ aO cL h2 o1) H' → va_S (q_A0 s) s.heap H' locs' → W p l e room_1 s m #[Value.ref b] below meth c H' locs' (cells + 1) (slots + 6) Q (F0 m 1214 ls' [])) : W p l e room_1 s m #[Value.ref b] below meth c H locs cells slots Q (F0 m 332 ls []) := by
  refine lv_aload_n hx hb dl_332 rfl (lv_at hl 1 rfl) ?_
  refine lv_aload_n hx hb dl_333 rfl (lv_at hl 0 rfl) ?_
  refine lv_iload hx hb dl_334 (lv_at hl 4 rfl) ?_
  refine lv_iconst (v := 1) hx hb dl_336 (by decide) ?_
  refine lv_iadd hx hb dl_337 ?_
  rw [nI_1]
  refine va_sld hx hb hX hbl (fun z => by have : s.heap.size ≤ b := z; omega) hS (nI_in (by omega) (by omega)) dl_338 ?_
  rw [nI_clamp (show i + 1 < 2 ^ 31 by omega)]
  refine lv_aload_n hx hb dl_339 rfl (lv_at hl 3 rfl) ?_
  refine q_lcall (idx := 110) ⟨hx, hb, hml, hown, hts⟩ hL hW rfl rfl (by decide +kernel) (by decide +kernel) (q_inAt lc_payout_w.2.2.1 rfl) (q_inAt lc_payout_w.2.1 rfl) (q_inAt lc_payout_w.1 rfl) rfl lc_payout_w.2.2.2 hJ hS hc hs hl.1 rfl dl_340 (fun H1 locs1 hJ1 hS1 => ?_)
  refine lv_istore hx hb dl_343 hl (by decide) rfl (fun ls5 hl => ?_)
  have hl : lv_has ls5 7 [(5, .int k), (0, .ref b), (1, .ref (ad 0)), (2, .ref (ad 30)), (3, .ref aO), (4, .int (nI i))] := hl
  refine lv_aload_n hx hb dl_345 rfl (lv_at hl 3 rfl) ?_
  refine lv_aload_n hx hb dl_346 rfl (lv_at hl 1 rfl) ?_
  refine lv_iload hx hb dl_347 (lv_at hl 5 rfl) ?_
  refine lv_iconst (v := 1) hx hb dl_349 (by decide) ?_
  refine lv_iadd hx hb dl_350 ?_
  rw [nI_1]
  refine va_sld hx hb hX hbl (fun z => by have : s.heap.size ≤ b := z; omega) hS1 (nI_in (by omega) (by omega)) dl_351 ?_
  rw [nI_clamp (show i + 1 < 2 ^ 31 by omega)]
  refine q_ucall (j := 104) (ro := 30) (idx := 112) (as := [.inl (xs (i + 1))]) (rest := []) (A0 := q_A0 s) ⟨hx, hb, hml, hown, hts⟩ hL.1.1 (by decide) (by decide) rfl hM rfl rfl (q_inAt ll_112 rfl) (by decide +kernel) (by decide +kernel) (by show (cells + 1) ≤ 664929; omega) (by show (slots + 6) ≤ 7101316; omega) (q_J_W hJ1) hS1 (fun q z => hL.2.2.2.2.2 q (Or.inl z)) (fun U hU hWU => q_Law_sta hL hS1 hU hWU) hl.1 rfl (Nat.le_of_ble_eq_true rfl) dl_352 (fun G0 gl0 hG0 gz0 gk0 hSg0 => ?_)
  have hJg0 : va_P D qCl (q_J ad cI cZ cQ aO cL h2 o1) G0 := q_J_mk hG0 (by rw [gk0 aO (Array.getElem?_eq_some_iff.mp (q_J_O hJ1)).1 hL.2.2.2.2.1]; exact q_J_O hJ1)
  refine lv_istore hx hb dl_355 hl (by decide) rfl (fun ls6 hl => ?_)
  have hl : lv_has ls6 7 [(6, .int v), (5, .int k), (0, .ref b), (1, .ref (ad 0)), (2, .ref (ad 30)), (3, .ref aO), (4, .int (nI i))] := hl
  refine lv_aload_n hx hb dl_357 rfl (lv_at hl 4 rfl) ?_
  refine q_ucall (j := 92) (ro := 30) (idx := 94) (as := []) (rest := []) (A0 := q_A0 s) ⟨hx, hb, hml, hown, hts⟩ hL.1.1 (by decide) (by decide) rfl hT rfl rfl (q_inAt ll_94 rfl) (by decide +kernel) (by decide +kernel) (by show (cells + 1) ≤ 664929; omega) (by show (slots + 6) ≤ 7101316; omega) (q_J_W hJg0) hSg0 (fun q z => hL.2.2.2.2.2 q (Or.inl z)) (fun U hU hWU => q_Law_sta hL hSg0 hU hWU) hl.1 rfl (Nat.le_of_ble_eq_true rfl) dl_358 (fun G1 gl1 hG1 gz1 gk1 hSg1 => ?_)
  have hJg1 : va_P D qCl (q_J ad cI cZ cQ aO cL h2 o1) G1 := q_J_mk hG1 (by rw [gk1 aO (Array.getElem?_eq_some_iff.mp (q_J_O hJg0)).1 hL.2.2.2.2.1]; exact q_J_O hJg0)
  refine lv_iload hx hb dl_361 (lv_at hl 1 rfl) ?_
  refine lv_icmp_eq hx hb dl_363 rfl (fun _ => ?_) (fun hc9 => absurd hth hc9)
  refine lv_iload hx hb dl_368 (lv_at hl 1 rfl) ?_
  refine lv_if_ne hx hb dl_370 rfl (fun hk0 => ?_) (fun hk0 => ?_)
  · refine lv_goto hx hb dl_385 rfl ?_
    exact kk _ _ _ (lv_sub hl [2, 3, 4, 5, 6] rfl) hJg1 hSg1
  · have ho := hout hk0
    refine lv_aload_n hx hb dl_373 rfl (lv_at hl 5 rfl) ?_
    refine lv_iconst (v := 0) hx hb dl_374 (by decide) ?_
    refine va_lald (D := D) (cl := qCl) hx hb hL.2.2.1 hJg1 47 0 q_J_47 rfl q_in01 dl_375 ?_
    show W _ _ _ _ _ _ _ _ _ _ _ _ _ _ _ (F0 m _ _ [.long o1])
    rw [ho]
    refine lv_iload hx hb dl_376 (lv_at hl 0 rfl) ?_
    refine lv_i2l (v := v.toInt64) hx hb dl_378 rfl ?_
    refine W.lcmp hx hb dl_379 ?_
    rw [q_cmp0]
    refine lv_if_eq hx hb dl_380 rfl (fun _ => ?_) (fun hc9 => absurd rfl hc9)
    refine lv_goto hx hb dl_385 rfl ?_
    exact kk _ _ _ (lv_sub hl [2, 3, 4, 5, 6] rfl) hJg1 hSg1
theorem ll_116 : lw_tbl[865]? = some (.methodLink "CashRecyclerLaw" 116 (qmY 105)) := by decide +kernel
theorem lc_plan_w : lw_tbl[466]? = some (.methodLink "CashRecyclerLaw" 113 yw_plan) ∧ lw_tbl[467]? = some (.static yw_plan) ∧ lw_tbl[468]? = some (.codeWith yw_plan method_9_code 5 (some .int) [(0, 10, 13, 13)]) ∧ (parseMethodDescriptor yw_plan.desc).map (fun d => d.parameters.length) = some 4 := by decide +kernel
set_option maxHeartbeats 4000000 in
theorem lc_plan {p : Program} {l : Launch} {e : Env} {s : State} {m : MethodId} {below : List Frame} {meth : Method} {c : Code} {H : Heap} {locs : List Loc} {cells slots : Nat} {Q : State → Prop} {D : va_G} {ad : Nat → Nat} {cI cZ cQ cL : ClassId} {aO b Ln i : Nat} {xs : Nat → Int32} {ls : Array Slot} {h h1 h2 : HP} {o o1 : Int64} (hx : p.tables.exec = Jvm.exec) (hb : c.code = code) (hml : c.maxLocals = 7) (hown : s.vm.findClass "CashRecyclerLaw" = some m.cls) (hts : ∀ w ∈ q_WS, w.before #[Value.ref b] s = true) (hX : va_X b Ln xs s s.heap) (hbl : b < s.heap.size) (hL : q_Law D ad cI cZ cQ aO cL s) (hi : i + 2 < Ln) (hLn : Ln ≤ 1536) (hc : cells + 1 ≤ 664929) (hs : slots + 6 ≤ 7101316) (hl : lv_has ls 7 [(0, .ref b), (1, .ref (ad 0)), (2, .ref (ad 30)), (3, .ref aO), (4, .int (nI i))]) (hJ : va_P D qCl (q_J ad cI cZ cQ aO cL h o) H) (hS : va_S (q_A0 s) s.heap H locs) {k : Int32} {v : Int32} (hW : q_MetL l D ad cI cZ cQ aO cL yw_plan ws_plan rw_plan [.ref (ad 0), .int (xs (i + 1)), .int (xs (i + 2)), .ref aO] h o k h1 o1) (hM : Ec 105 [.inr 30, .inl (xs (i + 1)), .inl (xs (i + 2))] h1 (.inl (some v), h2)) (hth : h2 30 0 = k) (hT : Ec 92 [.inr 30] h2 (.inl (some (h2 30 0)), h2)) (hout : k = 0 → o1 = v.toInt64) (kk : ∀ (ls' : Array Slot) (H' : Heap) (locs' : List Loc), lv_has ls' 7 [(0, .ref b), (1, .ref (ad 0)), (2, .ref (ad 30)), (3, .ref aO), (4, .int (nI i))] → va_P D qCl (q_J ad cI cZ cQ aO cL h2 o1) H' → va_S (q_A0 s) s.heap H' locs' → W p l e room_1 s m #[Value.ref b] below meth c H' locs' (cells + 1) (slots + 6) Q (F0 m 1214 ls' [])) : W p l e room_1 s m #[Value.ref b] below meth c H locs cells slots Q (F0 m 388 ls []) := by
  refine lv_aload_n hx hb dl_388 rfl (lv_at hl 1 rfl) ?_
  refine lv_aload_n hx hb dl_389 rfl (lv_at hl 0 rfl) ?_
  refine lv_iload hx hb dl_390 (lv_at hl 4 rfl) ?_
  refine lv_iconst (v := 1) hx hb dl_392 (by decide) ?_
  refine lv_iadd hx hb dl_393 ?_
  rw [nI_1]
  refine va_sld hx hb hX hbl (fun z => by have : s.heap.size ≤ b := z; omega) hS (nI_in (by omega) (by omega)) dl_394 ?_
  rw [nI_clamp (show i + 1 < 2 ^ 31 by omega)]
  refine lv_aload_n hx hb dl_395 rfl (lv_at hl 0 rfl) ?_
  refine lv_iload hx hb dl_396 (lv_at hl 4 rfl) ?_
  refine lv_iconst (v := 2) hx hb dl_398 (by decide) ?_
  refine lv_iadd hx hb dl_399 ?_
  rw [q_nI2]
  refine va_sld hx hb hX hbl (fun z => by have : s.heap.size ≤ b := z; omega) hS (nI_in (by omega) (by omega)) dl_400 ?_
  rw [nI_clamp (show i + 2 < 2 ^ 31 by omega)]
  refine lv_aload_n hx hb dl_401 rfl (lv_at hl 3 rfl) ?_
  refine q_lcall (idx := 113) ⟨hx, hb, hml, hown, hts⟩ hL hW rfl rfl (by decide +kernel) (by decide +kernel) (q_inAt lc_plan_w.2.2.1 rfl) (q_inAt lc_plan_w.2.1 rfl) (q_inAt lc_plan_w.1 rfl) rfl lc_plan_w.2.2.2 hJ hS hc hs hl.1 rfl dl_402 (fun H1 locs1 hJ1 hS1 => ?_)
  refine lv_istore hx hb dl_405 hl (by decide) rfl (fun ls5 hl => ?_)
  have hl : lv_has ls5 7 [(5, .int k), (0, .ref b), (1, .ref (ad 0)), (2, .ref (ad 30)), (3, .ref aO), (4, .int (nI i))] := hl
  refine lv_aload_n hx hb dl_407 rfl (lv_at hl 3 rfl) ?_
  refine lv_aload_n hx hb dl_408 rfl (lv_at hl 1 rfl) ?_
  refine lv_iload hx hb dl_409 (lv_at hl 5 rfl) ?_
  refine lv_iconst (v := 1) hx hb dl_411 (by decide) ?_
  refine lv_iadd hx hb dl_412 ?_
  rw [nI_1]
  refine va_sld hx hb hX hbl (fun z => by have : s.heap.size ≤ b := z; omega) hS1 (nI_in (by omega) (by omega)) dl_413 ?_
  rw [nI_clamp (show i + 1 < 2 ^ 31 by omega)]
  refine lv_aload_n hx hb dl_414 rfl (lv_at hl 1 rfl) ?_
  refine lv_iload hx hb dl_415 (lv_at hl 5 rfl) ?_
  refine lv_iconst (v := 2) hx hb dl_417 (by decide) ?_
  refine lv_iadd hx hb dl_418 ?_
  rw [q_nI2]
  refine va_sld hx hb hX hbl (fun z => by have : s.heap.size ≤ b := z; omega) hS1 (nI_in (by omega) (by omega)) dl_419 ?_
  rw [nI_clamp (show i + 2 < 2 ^ 31 by omega)]
  refine q_ucall (j := 105) (ro := 30) (idx := 116) (as := [.inl (xs (i + 1)), .inl (xs (i + 2))]) (rest := []) (A0 := q_A0 s) ⟨hx, hb, hml, hown, hts⟩ hL.1.1 (by decide) (by decide) rfl hM rfl rfl (q_inAt ll_116 rfl) (by decide +kernel) (by decide +kernel) (by show (cells + 1) ≤ 664929; omega) (by show (slots + 6) ≤ 7101316; omega) (q_J_W hJ1) hS1 (fun q z => hL.2.2.2.2.2 q (Or.inl z)) (fun U hU hWU => q_Law_sta hL hS1 hU hWU) hl.1 rfl (Nat.le_of_ble_eq_true rfl) dl_420 (fun G0 gl0 hG0 gz0 gk0 hSg0 => ?_)
  have hJg0 : va_P D qCl (q_J ad cI cZ cQ aO cL h2 o1) G0 := q_J_mk hG0 (by rw [gk0 aO (Array.getElem?_eq_some_iff.mp (q_J_O hJ1)).1 hL.2.2.2.2.1]; exact q_J_O hJ1)
  refine lv_istore hx hb dl_423 hl (by decide) rfl (fun ls6 hl => ?_)
  have hl : lv_has ls6 7 [(6, .int v), (5, .int k), (0, .ref b), (1, .ref (ad 0)), (2, .ref (ad 30)), (3, .ref aO), (4, .int (nI i))] := hl
  refine lv_aload_n hx hb dl_425 rfl (lv_at hl 4 rfl) ?_
  refine q_ucall (j := 92) (ro := 30) (idx := 94) (as := []) (rest := []) (A0 := q_A0 s) ⟨hx, hb, hml, hown, hts⟩ hL.1.1 (by decide) (by decide) rfl hT rfl rfl (q_inAt ll_94 rfl) (by decide +kernel) (by decide +kernel) (by show (cells + 1) ≤ 664929; omega) (by show (slots + 6) ≤ 7101316; omega) (q_J_W hJg0) hSg0 (fun q z => hL.2.2.2.2.2 q (Or.inl z)) (fun U hU hWU => q_Law_sta hL hSg0 hU hWU) hl.1 rfl (Nat.le_of_ble_eq_true rfl) dl_426 (fun G1 gl1 hG1 gz1 gk1 hSg1 => ?_)
  have hJg1 : va_P D qCl (q_J ad cI cZ cQ aO cL h2 o1) G1 := q_J_mk hG1 (by rw [gk1 aO (Array.getElem?_eq_some_iff.mp (q_J_O hJg0)).1 hL.2.2.2.2.1]; exact q_J_O hJg0)
  refine lv_iload hx hb dl_429 (lv_at hl 1 rfl) ?_
  refine lv_icmp_eq hx hb dl_431 rfl (fun _ => ?_) (fun hc9 => absurd hth hc9)
  refine lv_iload hx hb dl_436 (lv_at hl 1 rfl) ?_
  refine lv_if_ne hx hb dl_438 rfl (fun hk0 => ?_) (fun hk0 => ?_)
  · refine lv_goto hx hb dl_453 rfl ?_
    exact kk _ _ _ (lv_sub hl [2, 3, 4, 5, 6] rfl) hJg1 hSg1
  · have ho := hout hk0
    refine lv_aload_n hx hb dl_441 rfl (lv_at hl 5 rfl) ?_
    refine lv_iconst (v := 0) hx hb dl_442 (by decide) ?_
    refine va_lald (D := D) (cl := qCl) hx hb hL.2.2.1 hJg1 47 0 q_J_47 rfl q_in01 dl_443 ?_
    show W _ _ _ _ _ _ _ _ _ _ _ _ _ _ _ (F0 m _ _ [.long o1])
    rw [ho]
    refine lv_iload hx hb dl_444 (lv_at hl 0 rfl) ?_
    refine lv_i2l (v := v.toInt64) hx hb dl_446 rfl ?_
    refine W.lcmp hx hb dl_447 ?_
    rw [q_cmp0]
    refine lv_if_eq hx hb dl_448 rfl (fun _ => ?_) (fun hc9 => absurd rfl hc9)
    refine lv_goto hx hb dl_453 rfl ?_
    exact kk _ _ _ (lv_sub hl [2, 3, 4, 5, 6] rfl) hJg1 hSg1
theorem ll_119 : lw_tbl[869]? = some (.methodLink "CashRecyclerLaw" 119 (qmY 114)) := by decide +kernel
theorem lc_step_w : lw_tbl[480]? = some (.methodLink "CashRecyclerLaw" 117 yw_step) ∧ lw_tbl[481]? = some (.static yw_step) ∧ lw_tbl[482]? = some (.codeWith yw_step method_10_code 4 (some .int) [(0, 9, 12, 13)]) ∧ (parseMethodDescriptor yw_step.desc).map (fun d => d.parameters.length) = some 3 := by decide +kernel
set_option maxHeartbeats 4000000 in
theorem lc_step {p : Program} {l : Launch} {e : Env} {s : State} {m : MethodId} {below : List Frame} {meth : Method} {c : Code} {H : Heap} {locs : List Loc} {cells slots : Nat} {Q : State → Prop} {D : va_G} {ad : Nat → Nat} {cI cZ cQ cL : ClassId} {aO b Ln i : Nat} {xs : Nat → Int32} {ls : Array Slot} {h h1 h2 : HP} {o o1 : Int64} (hx : p.tables.exec = Jvm.exec) (hb : c.code = code) (hml : c.maxLocals = 7) (hown : s.vm.findClass "CashRecyclerLaw" = some m.cls) (hts : ∀ w ∈ q_WS, w.before #[Value.ref b] s = true) (hX : va_X b Ln xs s s.heap) (hbl : b < s.heap.size) (hL : q_Law D ad cI cZ cQ aO cL s) (hi : i + 2 < Ln) (hLn : Ln ≤ 1536) (hc : cells + 1 ≤ 664929) (hs : slots + 6 ≤ 7101316) (hl : lv_has ls 7 [(0, .ref b), (1, .ref (ad 0)), (2, .ref (ad 30)), (3, .ref aO), (4, .int (nI i))]) (hJ : va_P D qCl (q_J ad cI cZ cQ aO cL h o) H) (hS : va_S (q_A0 s) s.heap H locs) {k : Int32} {v : Int32} (hW : q_MetL l D ad cI cZ cQ aO cL yw_step ws_step rw_step [.ref (ad 0), .int (xs (i + 1)), .ref aO] h o k h1 o1) (hM : Ec 114 [.inr 30, .inl (xs (i + 1))] h1 (.inl (some v), h2)) (hth : h2 30 0 = k) (hT : Ec 92 [.inr 30] h2 (.inl (some (h2 30 0)), h2)) (hout : k = 0 → o1 = v.toInt64) (kk : ∀ (ls' : Array Slot) (H' : Heap) (locs' : List Loc), lv_has ls' 7 [(0, .ref b), (1, .ref (ad 0)), (2, .ref (ad 30)), (3, .ref aO), (4, .int (nI i))] → va_P D qCl (q_J ad cI cZ cQ aO cL h2 o1) H' → va_S (q_A0 s) s.heap H' locs' → W p l e room_1 s m #[Value.ref b] below meth c H' locs' (cells + 1) (slots + 6) Q (F0 m 1214 ls' [])) : W p l e room_1 s m #[Value.ref b] below meth c H locs cells slots Q (F0 m 456 ls []) := by
  refine lv_aload_n hx hb dl_456 rfl (lv_at hl 1 rfl) ?_
  refine lv_aload_n hx hb dl_457 rfl (lv_at hl 0 rfl) ?_
  refine lv_iload hx hb dl_458 (lv_at hl 4 rfl) ?_
  refine lv_iconst (v := 1) hx hb dl_460 (by decide) ?_
  refine lv_iadd hx hb dl_461 ?_
  rw [nI_1]
  refine va_sld hx hb hX hbl (fun z => by have : s.heap.size ≤ b := z; omega) hS (nI_in (by omega) (by omega)) dl_462 ?_
  rw [nI_clamp (show i + 1 < 2 ^ 31 by omega)]
  refine lv_aload_n hx hb dl_463 rfl (lv_at hl 3 rfl) ?_
  refine q_lcall (idx := 117) ⟨hx, hb, hml, hown, hts⟩ hL hW rfl rfl (by decide +kernel) (by decide +kernel) (q_inAt lc_step_w.2.2.1 rfl) (q_inAt lc_step_w.2.1 rfl) (q_inAt lc_step_w.1 rfl) rfl lc_step_w.2.2.2 hJ hS hc hs hl.1 rfl dl_464 (fun H1 locs1 hJ1 hS1 => ?_)
  refine lv_istore hx hb dl_467 hl (by decide) rfl (fun ls5 hl => ?_)
  have hl : lv_has ls5 7 [(5, .int k), (0, .ref b), (1, .ref (ad 0)), (2, .ref (ad 30)), (3, .ref aO), (4, .int (nI i))] := hl
  refine lv_aload_n hx hb dl_469 rfl (lv_at hl 3 rfl) ?_
  refine lv_aload_n hx hb dl_470 rfl (lv_at hl 1 rfl) ?_
  refine lv_iload hx hb dl_471 (lv_at hl 5 rfl) ?_
  refine lv_iconst (v := 1) hx hb dl_473 (by decide) ?_
  refine lv_iadd hx hb dl_474 ?_
  rw [nI_1]
  refine va_sld hx hb hX hbl (fun z => by have : s.heap.size ≤ b := z; omega) hS1 (nI_in (by omega) (by omega)) dl_475 ?_
  rw [nI_clamp (show i + 1 < 2 ^ 31 by omega)]
  refine q_ucall (j := 114) (ro := 30) (idx := 119) (as := [.inl (xs (i + 1))]) (rest := []) (A0 := q_A0 s) ⟨hx, hb, hml, hown, hts⟩ hL.1.1 (by decide) (by decide) rfl hM rfl rfl (q_inAt ll_119 rfl) (by decide +kernel) (by decide +kernel) (by show (cells + 1) ≤ 664929; omega) (by show (slots + 6) ≤ 7101316; omega) (q_J_W hJ1) hS1 (fun q z => hL.2.2.2.2.2 q (Or.inl z)) (fun U hU hWU => q_Law_sta hL hS1 hU hWU) hl.1 rfl (Nat.le_of_ble_eq_true rfl) dl_476 (fun G0 gl0 hG0 gz0 gk0 hSg0 => ?_)
  have hJg0 : va_P D qCl (q_J ad cI cZ cQ aO cL h2 o1) G0 := q_J_mk hG0 (by rw [gk0 aO (Array.getElem?_eq_some_iff.mp (q_J_O hJ1)).1 hL.2.2.2.2.1]; exact q_J_O hJ1)
  refine lv_istore hx hb dl_479 hl (by decide) rfl (fun ls6 hl => ?_)
  have hl : lv_has ls6 7 [(6, .int v), (5, .int k), (0, .ref b), (1, .ref (ad 0)), (2, .ref (ad 30)), (3, .ref aO), (4, .int (nI i))] := hl
  refine lv_aload_n hx hb dl_481 rfl (lv_at hl 4 rfl) ?_
  refine q_ucall (j := 92) (ro := 30) (idx := 94) (as := []) (rest := []) (A0 := q_A0 s) ⟨hx, hb, hml, hown, hts⟩ hL.1.1 (by decide) (by decide) rfl hT rfl rfl (q_inAt ll_94 rfl) (by decide +kernel) (by decide +kernel) (by show (cells + 1) ≤ 664929; omega) (by show (slots + 6) ≤ 7101316; omega) (q_J_W hJg0) hSg0 (fun q z => hL.2.2.2.2.2 q (Or.inl z)) (fun U hU hWU => q_Law_sta hL hSg0 hU hWU) hl.1 rfl (Nat.le_of_ble_eq_true rfl) dl_482 (fun G1 gl1 hG1 gz1 gk1 hSg1 => ?_)
  have hJg1 : va_P D qCl (q_J ad cI cZ cQ aO cL h2 o1) G1 := q_J_mk hG1 (by rw [gk1 aO (Array.getElem?_eq_some_iff.mp (q_J_O hJg0)).1 hL.2.2.2.2.1]; exact q_J_O hJg0)
  refine lv_iload hx hb dl_485 (lv_at hl 1 rfl) ?_
  refine lv_icmp_eq hx hb dl_487 rfl (fun _ => ?_) (fun hc9 => absurd hth hc9)
  refine lv_iload hx hb dl_492 (lv_at hl 1 rfl) ?_
  refine lv_if_ne hx hb dl_494 rfl (fun hk0 => ?_) (fun hk0 => ?_)
  · refine lv_goto hx hb dl_509 rfl ?_
    exact kk _ _ _ (lv_sub hl [2, 3, 4, 5, 6] rfl) hJg1 hSg1
  · have ho := hout hk0
    refine lv_aload_n hx hb dl_497 rfl (lv_at hl 5 rfl) ?_
    refine lv_iconst (v := 0) hx hb dl_498 (by decide) ?_
    refine va_lald (D := D) (cl := qCl) hx hb hL.2.2.1 hJg1 47 0 q_J_47 rfl q_in01 dl_499 ?_
    show W _ _ _ _ _ _ _ _ _ _ _ _ _ _ _ (F0 m _ _ [.long o1])
    rw [ho]
    refine lv_iload hx hb dl_500 (lv_at hl 0 rfl) ?_
    refine lv_i2l (v := v.toInt64) hx hb dl_502 rfl ?_
    refine W.lcmp hx hb dl_503 ?_
    rw [q_cmp0]
    refine lv_if_eq hx hb dl_504 rfl (fun _ => ?_) (fun hc9 => absurd rfl hc9)
    refine lv_goto hx hb dl_509 rfl ?_
    exact kk _ _ _ (lv_sub hl [2, 3, 4, 5, 6] rfl) hJg1 hSg1
theorem ll_120 : lw_tbl[194]? = some (.methodLink "CashRecyclerLaw" 120 (qmY 69)) := by decide +kernel
theorem ll_123 : lw_tbl[912]? = some (.methodLink "CashRecyclerLaw" 123 (qmY 115)) := by decide +kernel
set_option maxHeartbeats 4000000 in
theorem lc_taken {p : Program} {l : Launch} {e : Env} {s : State} {m : MethodId} {below : List Frame} {meth : Method} {c : Code} {H : Heap} {locs : List Loc} {cells slots : Nat} {Q : State → Prop} {D : va_G} {ad : Nat → Nat} {cI cZ cQ cL : ClassId} {aO b Ln i : Nat} {xs : Nat → Int32} {ls : Array Slot} {h h1 h2 : HP} {o o1 : Int64} (hx : p.tables.exec = Jvm.exec) (hb : c.code = code) (hml : c.maxLocals = 7) (hown : s.vm.findClass "CashRecyclerLaw" = some m.cls) (hts : ∀ w ∈ q_WS, w.before #[Value.ref b] s = true) (hX : va_X b Ln xs s s.heap) (hbl : b < s.heap.size) (hL : q_Law D ad cI cZ cQ aO cL s) (hi : i + 2 < Ln) (hLn : Ln ≤ 1536) (hc : cells + 1 ≤ 664929) (hs : slots + 6 ≤ 7101316) (hl : lv_has ls 7 [(0, .ref b), (1, .ref (ad 0)), (2, .ref (ad 30)), (3, .ref aO), (4, .int (nI i))]) (hJ : va_P D qCl (q_J ad cI cZ cQ aO cL h o) H) (hS : va_S (q_A0 s) s.heap H locs) {v : Int32} (hC : Ec 69 [.inr 0] h (.inl (some v), h1)) (hM : Ec 115 [.inr 30] h1 (.inl (some v), h2)) (kk : ∀ (ls' : Array Slot) (H' : Heap) (locs' : List Loc), lv_has ls' 7 [(0, .ref b), (1, .ref (ad 0)), (2, .ref (ad 30)), (3, .ref aO), (4, .int (nI i))] → va_P D qCl (q_J ad cI cZ cQ aO cL h2 o) H' → va_S (q_A0 s) s.heap H' locs' → W p l e room_1 s m #[Value.ref b] below meth c H' locs' (cells + 1) (slots + 6) Q (F0 m 1214 ls' [])) : W p l e room_1 s m #[Value.ref b] below meth c H locs cells slots Q (F0 m 512 ls []) := by
  refine lv_aload_n hx hb dl_512 rfl (lv_at hl 1 rfl) ?_
  refine q_ucall (j := 69) (ro := 0) (idx := 120) (as := []) (rest := []) (A0 := q_A0 s) ⟨hx, hb, hml, hown, hts⟩ hL.1.1 (by decide) (by decide) rfl hC rfl rfl (q_inAt ll_120 rfl) (by decide +kernel) (by decide +kernel) (by show cells ≤ 664929; omega) (by show slots ≤ 7101316; omega) (q_J_W hJ) hS (fun q z => hL.2.2.2.2.2 q (Or.inl z)) (fun U hU hWU => q_Law_sta hL hS hU hWU) hl.1 rfl (Nat.le_of_ble_eq_true rfl) dl_513 (fun G0 gl0 hG0 gz0 gk0 hSg0 => ?_)
  have hJg0 : va_P D qCl (q_J ad cI cZ cQ aO cL h1 o) G0 := q_J_mk hG0 (by rw [gk0 aO (Array.getElem?_eq_some_iff.mp (q_J_O hJ)).1 hL.2.2.2.2.1]; exact q_J_O hJ)
  refine lv_aload_n hx hb dl_516 rfl (lv_at hl 2 rfl) ?_
  refine q_ucall (j := 115) (ro := 30) (idx := 123) (as := []) (rest := [.int v]) (A0 := q_A0 s) ⟨hx, hb, hml, hown, hts⟩ hL.1.1 (by decide) (by decide) rfl hM rfl rfl (q_inAt ll_123 rfl) (by decide +kernel) (by decide +kernel) (by show cells ≤ 664929; omega) (by show slots ≤ 7101316; omega) (q_J_W hJg0) hSg0 (fun q z => hL.2.2.2.2.2 q (Or.inl z)) (fun U hU hWU => q_Law_sta hL hSg0 hU hWU) hl.1 rfl (Nat.le_of_ble_eq_true rfl) dl_517 (fun G1 gl1 hG1 gz1 gk1 hSg1 => ?_)
  have hJg1 : va_P D qCl (q_J ad cI cZ cQ aO cL h2 o) G1 := q_J_mk hG1 (by rw [gk1 aO (Array.getElem?_eq_some_iff.mp (q_J_O hJg0)).1 hL.2.2.2.2.1]; exact q_J_O hJg0)
  refine lv_icmp_eq hx hb dl_520 rfl (fun _ => ?_) (fun hc9 => absurd rfl hc9)
  refine W.widen (k := cells + 1) (n := slots + 6) (by omega) (by omega) ?_
  exact kk _ _ _ hl hJg1 hSg1
theorem ll_127 : lw_tbl[916]? = some (.methodLink "CashRecyclerLaw" 127 (qmY 116)) := by decide +kernel
theorem lc_stick_w : lw_tbl[621]? = some (.methodLink "CashRecyclerLaw" 124 yw_stick) ∧ lw_tbl[622]? = some (.static yw_stick) ∧ lw_tbl[623]? = some (.codeWith yw_stick method_11_code 3 (some .int) [(0, 5, 8, 13), (0, 5, 11, 45)]) ∧ (parseMethodDescriptor yw_stick.desc).map (fun d => d.parameters.length) = some 2 := by decide +kernel
set_option maxHeartbeats 4000000 in
theorem lc_stick {p : Program} {l : Launch} {e : Env} {s : State} {m : MethodId} {below : List Frame} {meth : Method} {c : Code} {H : Heap} {locs : List Loc} {cells slots : Nat} {Q : State → Prop} {D : va_G} {ad : Nat → Nat} {cI cZ cQ cL : ClassId} {aO b Ln i : Nat} {xs : Nat → Int32} {ls : Array Slot} {h h1 h2 : HP} {o o1 : Int64} (hx : p.tables.exec = Jvm.exec) (hb : c.code = code) (hml : c.maxLocals = 7) (hown : s.vm.findClass "CashRecyclerLaw" = some m.cls) (hts : ∀ w ∈ q_WS, w.before #[Value.ref b] s = true) (hX : va_X b Ln xs s s.heap) (hbl : b < s.heap.size) (hL : q_Law D ad cI cZ cQ aO cL s) (hi : i + 2 < Ln) (hLn : Ln ≤ 1536) (hc : cells + 1 ≤ 664929) (hs : slots + 6 ≤ 7101316) (hl : lv_has ls 7 [(0, .ref b), (1, .ref (ad 0)), (2, .ref (ad 30)), (3, .ref aO), (4, .int (nI i))]) (hJ : va_P D qCl (q_J ad cI cZ cQ aO cL h o) H) (hS : va_S (q_A0 s) s.heap H locs) {k : Int32} (hW : q_MetL l D ad cI cZ cQ aO cL yw_stick ws_stick rw_stick [.ref (ad 0), .int (xs (i + 1))] h o k h1 o1) (hM : Ec 116 [.inr 30, .inl (xs (i + 1))] h1 (.inl none, h2)) (hth : h2 30 0 = k) (hT : Ec 92 [.inr 30] h2 (.inl (some (h2 30 0)), h2)) (kk : ∀ (ls' : Array Slot) (H' : Heap) (locs' : List Loc), lv_has ls' 7 [(0, .ref b), (1, .ref (ad 0)), (2, .ref (ad 30)), (3, .ref aO), (4, .int (nI i))] → va_P D qCl (q_J ad cI cZ cQ aO cL h2 o1) H' → va_S (q_A0 s) s.heap H' locs' → W p l e room_1 s m #[Value.ref b] below meth c H' locs' (cells + 1) (slots + 6) Q (F0 m 1214 ls' [])) : W p l e room_1 s m #[Value.ref b] below meth c H locs cells slots Q (F0 m 525 ls []) := by
  refine lv_aload_n hx hb dl_525 rfl (lv_at hl 1 rfl) ?_
  refine lv_aload_n hx hb dl_526 rfl (lv_at hl 0 rfl) ?_
  refine lv_iload hx hb dl_527 (lv_at hl 4 rfl) ?_
  refine lv_iconst (v := 1) hx hb dl_529 (by decide) ?_
  refine lv_iadd hx hb dl_530 ?_
  rw [nI_1]
  refine va_sld hx hb hX hbl (fun z => by have : s.heap.size ≤ b := z; omega) hS (nI_in (by omega) (by omega)) dl_531 ?_
  rw [nI_clamp (show i + 1 < 2 ^ 31 by omega)]
  refine q_lcall (idx := 124) ⟨hx, hb, hml, hown, hts⟩ hL hW rfl rfl (by decide +kernel) (by decide +kernel) (q_inAt lc_stick_w.2.2.1 rfl) (q_inAt lc_stick_w.2.1 rfl) (q_inAt lc_stick_w.1 rfl) rfl lc_stick_w.2.2.2 hJ hS hc hs hl.1 rfl dl_532 (fun H1 locs1 hJ1 hS1 => ?_)
  refine lv_istore hx hb dl_535 hl (by decide) rfl (fun ls5 hl => ?_)
  have hl : lv_has ls5 7 [(5, .int k), (0, .ref b), (1, .ref (ad 0)), (2, .ref (ad 30)), (3, .ref aO), (4, .int (nI i))] := hl
  refine lv_aload_n hx hb dl_537 rfl (lv_at hl 3 rfl) ?_
  refine lv_aload_n hx hb dl_538 rfl (lv_at hl 1 rfl) ?_
  refine lv_iload hx hb dl_539 (lv_at hl 5 rfl) ?_
  refine lv_iconst (v := 1) hx hb dl_541 (by decide) ?_
  refine lv_iadd hx hb dl_542 ?_
  rw [nI_1]
  refine va_sld hx hb hX hbl (fun z => by have : s.heap.size ≤ b := z; omega) hS1 (nI_in (by omega) (by omega)) dl_543 ?_
  rw [nI_clamp (show i + 1 < 2 ^ 31 by omega)]
  refine q_ucall (j := 116) (ro := 30) (idx := 127) (as := [.inl (xs (i + 1))]) (rest := []) (A0 := q_A0 s) ⟨hx, hb, hml, hown, hts⟩ hL.1.1 (by decide) (by decide) rfl hM rfl rfl (q_inAt ll_127 rfl) (by decide +kernel) (by decide +kernel) (by show (cells + 1) ≤ 664929; omega) (by show (slots + 6) ≤ 7101316; omega) (q_J_W hJ1) hS1 (fun q z => hL.2.2.2.2.2 q (Or.inl z)) (fun U hU hWU => q_Law_sta hL hS1 hU hWU) hl.1 rfl (Nat.le_of_ble_eq_true rfl) dl_544 (fun G0 gl0 hG0 gz0 gk0 hSg0 => ?_)
  have hJg0 : va_P D qCl (q_J ad cI cZ cQ aO cL h2 o1) G0 := q_J_mk hG0 (by rw [gk0 aO (Array.getElem?_eq_some_iff.mp (q_J_O hJ1)).1 hL.2.2.2.2.1]; exact q_J_O hJ1)
  refine lv_aload_n hx hb dl_547 rfl (lv_at hl 3 rfl) ?_
  refine q_ucall (j := 92) (ro := 30) (idx := 94) (as := []) (rest := []) (A0 := q_A0 s) ⟨hx, hb, hml, hown, hts⟩ hL.1.1 (by decide) (by decide) rfl hT rfl rfl (q_inAt ll_94 rfl) (by decide +kernel) (by decide +kernel) (by show (cells + 1) ≤ 664929; omega) (by show (slots + 6) ≤ 7101316; omega) (q_J_W hJg0) hSg0 (fun q z => hL.2.2.2.2.2 q (Or.inl z)) (fun U hU hWU => q_Law_sta hL hSg0 hU hWU) hl.1 rfl (Nat.le_of_ble_eq_true rfl) dl_548 (fun G1 gl1 hG1 gz1 gk1 hSg1 => ?_)
  have hJg1 : va_P D qCl (q_J ad cI cZ cQ aO cL h2 o1) G1 := q_J_mk hG1 (by rw [gk1 aO (Array.getElem?_eq_some_iff.mp (q_J_O hJg0)).1 hL.2.2.2.2.1]; exact q_J_O hJg0)
  refine lv_iload hx hb dl_551 (lv_at hl 0 rfl) ?_
  refine lv_icmp_eq hx hb dl_553 rfl (fun _ => ?_) (fun hc9 => absurd hth hc9)
  refine lv_goto hx hb dl_558 rfl ?_
  exact kk _ _ _ (lv_sub hl [1, 2, 3, 4, 5] rfl) hJg1 hSg1
theorem ll_130 : lw_tbl[920]? = some (.methodLink "CashRecyclerLaw" 130 (qmY 117)) := by decide +kernel
theorem lc_open_w : lw_tbl[651]? = some (.methodLink "CashRecyclerLaw" 128 yw_open) ∧ lw_tbl[652]? = some (.static yw_open) ∧ lw_tbl[653]? = some (.codeWith yw_open method_12_code 2 (some .int) [(0, 4, 7, 15)]) ∧ (parseMethodDescriptor yw_open.desc).map (fun d => d.parameters.length) = some 1 := by decide +kernel
set_option maxHeartbeats 4000000 in
theorem lc_open {p : Program} {l : Launch} {e : Env} {s : State} {m : MethodId} {below : List Frame} {meth : Method} {c : Code} {H : Heap} {locs : List Loc} {cells slots : Nat} {Q : State → Prop} {D : va_G} {ad : Nat → Nat} {cI cZ cQ cL : ClassId} {aO b Ln i : Nat} {xs : Nat → Int32} {ls : Array Slot} {h h1 h2 : HP} {o o1 : Int64} (hx : p.tables.exec = Jvm.exec) (hb : c.code = code) (hml : c.maxLocals = 7) (hown : s.vm.findClass "CashRecyclerLaw" = some m.cls) (hts : ∀ w ∈ q_WS, w.before #[Value.ref b] s = true) (hX : va_X b Ln xs s s.heap) (hbl : b < s.heap.size) (hL : q_Law D ad cI cZ cQ aO cL s) (hi : i + 2 < Ln) (hLn : Ln ≤ 1536) (hc : cells + 1 ≤ 664929) (hs : slots + 6 ≤ 7101316) (hl : lv_has ls 7 [(0, .ref b), (1, .ref (ad 0)), (2, .ref (ad 30)), (3, .ref aO), (4, .int (nI i))]) (hJ : va_P D qCl (q_J ad cI cZ cQ aO cL h o) H) (hS : va_S (q_A0 s) s.heap H locs) {k : Int32} (hW : q_MetL l D ad cI cZ cQ aO cL yw_open ws_open rw_open [.ref (ad 0)] h o k h1 o1) (hM : Ec 117 [.inr 30] h1 (.inl none, h2)) (hth : h2 30 0 = k) (hT : Ec 92 [.inr 30] h2 (.inl (some (h2 30 0)), h2)) (kk : ∀ (ls' : Array Slot) (H' : Heap) (locs' : List Loc), lv_has ls' 7 [(0, .ref b), (1, .ref (ad 0)), (2, .ref (ad 30)), (3, .ref aO), (4, .int (nI i))] → va_P D qCl (q_J ad cI cZ cQ aO cL h2 o1) H' → va_S (q_A0 s) s.heap H' locs' → W p l e room_1 s m #[Value.ref b] below meth c H' locs' (cells + 1) (slots + 6) Q (F0 m 1214 ls' [])) : W p l e room_1 s m #[Value.ref b] below meth c H locs cells slots Q (F0 m 561 ls []) := by
  refine lv_aload_n hx hb dl_561 rfl (lv_at hl 1 rfl) ?_
  refine q_lcall (idx := 128) ⟨hx, hb, hml, hown, hts⟩ hL hW rfl rfl (by decide +kernel) (by decide +kernel) (q_inAt lc_open_w.2.2.1 rfl) (q_inAt lc_open_w.2.1 rfl) (q_inAt lc_open_w.1 rfl) rfl lc_open_w.2.2.2 hJ hS hc hs hl.1 rfl dl_562 (fun H1 locs1 hJ1 hS1 => ?_)
  refine lv_istore hx hb dl_565 hl (by decide) rfl (fun ls5 hl => ?_)
  have hl : lv_has ls5 7 [(5, .int k), (0, .ref b), (1, .ref (ad 0)), (2, .ref (ad 30)), (3, .ref aO), (4, .int (nI i))] := hl
  refine lv_aload_n hx hb dl_567 rfl (lv_at hl 3 rfl) ?_
  refine q_ucall (j := 117) (ro := 30) (idx := 130) (as := []) (rest := []) (A0 := q_A0 s) ⟨hx, hb, hml, hown, hts⟩ hL.1.1 (by decide) (by decide) rfl hM rfl rfl (q_inAt ll_130 rfl) (by decide +kernel) (by decide +kernel) (by show (cells + 1) ≤ 664929; omega) (by show (slots + 6) ≤ 7101316; omega) (q_J_W hJ1) hS1 (fun q z => hL.2.2.2.2.2 q (Or.inl z)) (fun U hU hWU => q_Law_sta hL hS1 hU hWU) hl.1 rfl (Nat.le_of_ble_eq_true rfl) dl_568 (fun G0 gl0 hG0 gz0 gk0 hSg0 => ?_)
  have hJg0 : va_P D qCl (q_J ad cI cZ cQ aO cL h2 o1) G0 := q_J_mk hG0 (by rw [gk0 aO (Array.getElem?_eq_some_iff.mp (q_J_O hJ1)).1 hL.2.2.2.2.1]; exact q_J_O hJ1)
  refine lv_aload_n hx hb dl_571 rfl (lv_at hl 3 rfl) ?_
  refine q_ucall (j := 92) (ro := 30) (idx := 94) (as := []) (rest := []) (A0 := q_A0 s) ⟨hx, hb, hml, hown, hts⟩ hL.1.1 (by decide) (by decide) rfl hT rfl rfl (q_inAt ll_94 rfl) (by decide +kernel) (by decide +kernel) (by show (cells + 1) ≤ 664929; omega) (by show (slots + 6) ≤ 7101316; omega) (q_J_W hJg0) hSg0 (fun q z => hL.2.2.2.2.2 q (Or.inl z)) (fun U hU hWU => q_Law_sta hL hSg0 hU hWU) hl.1 rfl (Nat.le_of_ble_eq_true rfl) dl_572 (fun G1 gl1 hG1 gz1 gk1 hSg1 => ?_)
  have hJg1 : va_P D qCl (q_J ad cI cZ cQ aO cL h2 o1) G1 := q_J_mk hG1 (by rw [gk1 aO (Array.getElem?_eq_some_iff.mp (q_J_O hJg0)).1 hL.2.2.2.2.1]; exact q_J_O hJg0)
  refine lv_iload hx hb dl_575 (lv_at hl 0 rfl) ?_
  refine lv_icmp_eq hx hb dl_577 rfl (fun _ => ?_) (fun hc9 => absurd hth hc9)
  refine lv_goto hx hb dl_582 rfl ?_
  exact kk _ _ _ (lv_sub hl [1, 2, 3, 4, 5] rfl) hJg1 hSg1
theorem ll_133 : lw_tbl[924]? = some (.methodLink "CashRecyclerLaw" 133 (qmY 118)) := by decide +kernel
theorem lc_remove_w : lw_tbl[658]? = some (.methodLink "CashRecyclerLaw" 131 yw_remove) ∧ lw_tbl[659]? = some (.static yw_remove) ∧ lw_tbl[660]? = some (.codeWith yw_remove method_13_code 4 (some .int) [(0, 9, 12, 15), (0, 9, 15, 13), (0, 9, 18, 45)]) ∧ (parseMethodDescriptor yw_remove.desc).map (fun d => d.parameters.length) = some 3 := by decide +kernel
set_option maxHeartbeats 4000000 in
theorem lc_remove {p : Program} {l : Launch} {e : Env} {s : State} {m : MethodId} {below : List Frame} {meth : Method} {c : Code} {H : Heap} {locs : List Loc} {cells slots : Nat} {Q : State → Prop} {D : va_G} {ad : Nat → Nat} {cI cZ cQ cL : ClassId} {aO b Ln i : Nat} {xs : Nat → Int32} {ls : Array Slot} {h h1 h2 : HP} {o o1 : Int64} (hx : p.tables.exec = Jvm.exec) (hb : c.code = code) (hml : c.maxLocals = 7) (hown : s.vm.findClass "CashRecyclerLaw" = some m.cls) (hts : ∀ w ∈ q_WS, w.before #[Value.ref b] s = true) (hX : va_X b Ln xs s s.heap) (hbl : b < s.heap.size) (hL : q_Law D ad cI cZ cQ aO cL s) (hi : i + 2 < Ln) (hLn : Ln ≤ 1536) (hc : cells + 1 ≤ 664929) (hs : slots + 6 ≤ 7101316) (hl : lv_has ls 7 [(0, .ref b), (1, .ref (ad 0)), (2, .ref (ad 30)), (3, .ref aO), (4, .int (nI i))]) (hJ : va_P D qCl (q_J ad cI cZ cQ aO cL h o) H) (hS : va_S (q_A0 s) s.heap H locs) {k : Int32} {v : Int32} (hW : q_MetL l D ad cI cZ cQ aO cL yw_remove ws_remove rw_remove [.ref (ad 0), .int (xs (i + 1)), .ref aO] h o k h1 o1) (hM : Ec 118 [.inr 30, .inl (xs (i + 1))] h1 (.inl (some v), h2)) (hth : h2 30 0 = k) (hT : Ec 92 [.inr 30] h2 (.inl (some (h2 30 0)), h2)) (hout : k = 0 → o1 = v.toInt64) (kk : ∀ (ls' : Array Slot) (H' : Heap) (locs' : List Loc), lv_has ls' 7 [(0, .ref b), (1, .ref (ad 0)), (2, .ref (ad 30)), (3, .ref aO), (4, .int (nI i))] → va_P D qCl (q_J ad cI cZ cQ aO cL h2 o1) H' → va_S (q_A0 s) s.heap H' locs' → W p l e room_1 s m #[Value.ref b] below meth c H' locs' (cells + 1) (slots + 6) Q (F0 m 1214 ls' [])) : W p l e room_1 s m #[Value.ref b] below meth c H locs cells slots Q (F0 m 585 ls []) := by
  refine lv_aload_n hx hb dl_585 rfl (lv_at hl 1 rfl) ?_
  refine lv_aload_n hx hb dl_586 rfl (lv_at hl 0 rfl) ?_
  refine lv_iload hx hb dl_587 (lv_at hl 4 rfl) ?_
  refine lv_iconst (v := 1) hx hb dl_589 (by decide) ?_
  refine lv_iadd hx hb dl_590 ?_
  rw [nI_1]
  refine va_sld hx hb hX hbl (fun z => by have : s.heap.size ≤ b := z; omega) hS (nI_in (by omega) (by omega)) dl_591 ?_
  rw [nI_clamp (show i + 1 < 2 ^ 31 by omega)]
  refine lv_aload_n hx hb dl_592 rfl (lv_at hl 3 rfl) ?_
  refine q_lcall (idx := 131) ⟨hx, hb, hml, hown, hts⟩ hL hW rfl rfl (by decide +kernel) (by decide +kernel) (q_inAt lc_remove_w.2.2.1 rfl) (q_inAt lc_remove_w.2.1 rfl) (q_inAt lc_remove_w.1 rfl) rfl lc_remove_w.2.2.2 hJ hS hc hs hl.1 rfl dl_593 (fun H1 locs1 hJ1 hS1 => ?_)
  refine lv_istore hx hb dl_596 hl (by decide) rfl (fun ls5 hl => ?_)
  have hl : lv_has ls5 7 [(5, .int k), (0, .ref b), (1, .ref (ad 0)), (2, .ref (ad 30)), (3, .ref aO), (4, .int (nI i))] := hl
  refine lv_aload_n hx hb dl_598 rfl (lv_at hl 3 rfl) ?_
  refine lv_aload_n hx hb dl_599 rfl (lv_at hl 1 rfl) ?_
  refine lv_iload hx hb dl_600 (lv_at hl 5 rfl) ?_
  refine lv_iconst (v := 1) hx hb dl_602 (by decide) ?_
  refine lv_iadd hx hb dl_603 ?_
  rw [nI_1]
  refine va_sld hx hb hX hbl (fun z => by have : s.heap.size ≤ b := z; omega) hS1 (nI_in (by omega) (by omega)) dl_604 ?_
  rw [nI_clamp (show i + 1 < 2 ^ 31 by omega)]
  refine q_ucall (j := 118) (ro := 30) (idx := 133) (as := [.inl (xs (i + 1))]) (rest := []) (A0 := q_A0 s) ⟨hx, hb, hml, hown, hts⟩ hL.1.1 (by decide) (by decide) rfl hM rfl rfl (q_inAt ll_133 rfl) (by decide +kernel) (by decide +kernel) (by show (cells + 1) ≤ 664929; omega) (by show (slots + 6) ≤ 7101316; omega) (q_J_W hJ1) hS1 (fun q z => hL.2.2.2.2.2 q (Or.inl z)) (fun U hU hWU => q_Law_sta hL hS1 hU hWU) hl.1 rfl (Nat.le_of_ble_eq_true rfl) dl_605 (fun G0 gl0 hG0 gz0 gk0 hSg0 => ?_)
  have hJg0 : va_P D qCl (q_J ad cI cZ cQ aO cL h2 o1) G0 := q_J_mk hG0 (by rw [gk0 aO (Array.getElem?_eq_some_iff.mp (q_J_O hJ1)).1 hL.2.2.2.2.1]; exact q_J_O hJ1)
  refine lv_istore hx hb dl_608 hl (by decide) rfl (fun ls6 hl => ?_)
  have hl : lv_has ls6 7 [(6, .int v), (5, .int k), (0, .ref b), (1, .ref (ad 0)), (2, .ref (ad 30)), (3, .ref aO), (4, .int (nI i))] := hl
  refine lv_aload_n hx hb dl_610 rfl (lv_at hl 4 rfl) ?_
  refine q_ucall (j := 92) (ro := 30) (idx := 94) (as := []) (rest := []) (A0 := q_A0 s) ⟨hx, hb, hml, hown, hts⟩ hL.1.1 (by decide) (by decide) rfl hT rfl rfl (q_inAt ll_94 rfl) (by decide +kernel) (by decide +kernel) (by show (cells + 1) ≤ 664929; omega) (by show (slots + 6) ≤ 7101316; omega) (q_J_W hJg0) hSg0 (fun q z => hL.2.2.2.2.2 q (Or.inl z)) (fun U hU hWU => q_Law_sta hL hSg0 hU hWU) hl.1 rfl (Nat.le_of_ble_eq_true rfl) dl_611 (fun G1 gl1 hG1 gz1 gk1 hSg1 => ?_)
  have hJg1 : va_P D qCl (q_J ad cI cZ cQ aO cL h2 o1) G1 := q_J_mk hG1 (by rw [gk1 aO (Array.getElem?_eq_some_iff.mp (q_J_O hJg0)).1 hL.2.2.2.2.1]; exact q_J_O hJg0)
  refine lv_iload hx hb dl_614 (lv_at hl 1 rfl) ?_
  refine lv_icmp_eq hx hb dl_616 rfl (fun _ => ?_) (fun hc9 => absurd hth hc9)
  refine lv_iload hx hb dl_621 (lv_at hl 1 rfl) ?_
  refine lv_if_ne hx hb dl_623 rfl (fun hk0 => ?_) (fun hk0 => ?_)
  · refine lv_goto hx hb dl_638 rfl ?_
    exact kk _ _ _ (lv_sub hl [2, 3, 4, 5, 6] rfl) hJg1 hSg1
  · have ho := hout hk0
    refine lv_aload_n hx hb dl_626 rfl (lv_at hl 5 rfl) ?_
    refine lv_iconst (v := 0) hx hb dl_627 (by decide) ?_
    refine va_lald (D := D) (cl := qCl) hx hb hL.2.2.1 hJg1 47 0 q_J_47 rfl q_in01 dl_628 ?_
    show W _ _ _ _ _ _ _ _ _ _ _ _ _ _ _ (F0 m _ _ [.long o1])
    rw [ho]
    refine lv_iload hx hb dl_629 (lv_at hl 0 rfl) ?_
    refine lv_i2l (v := v.toInt64) hx hb dl_631 rfl ?_
    refine W.lcmp hx hb dl_632 ?_
    rw [q_cmp0]
    refine lv_if_eq hx hb dl_633 rfl (fun _ => ?_) (fun hc9 => absurd rfl hc9)
    refine lv_goto hx hb dl_638 rfl ?_
    exact kk _ _ _ (lv_sub hl [2, 3, 4, 5, 6] rfl) hJg1 hSg1
theorem ll_136 : lw_tbl[928]? = some (.methodLink "CashRecyclerLaw" 136 (qmY 119)) := by decide +kernel
theorem lc_free_w : lw_tbl[665]? = some (.methodLink "CashRecyclerLaw" 134 yw_free) ∧ lw_tbl[666]? = some (.static yw_free) ∧ lw_tbl[667]? = some (.codeWith yw_free method_14_code 4 (some .int) [(0, 16, 19, 15), (0, 16, 22, 13)]) ∧ (parseMethodDescriptor yw_free.desc).map (fun d => d.parameters.length) = some 3 := by decide +kernel
set_option maxHeartbeats 4000000 in
theorem lc_free {p : Program} {l : Launch} {e : Env} {s : State} {m : MethodId} {below : List Frame} {meth : Method} {c : Code} {H : Heap} {locs : List Loc} {cells slots : Nat} {Q : State → Prop} {D : va_G} {ad : Nat → Nat} {cI cZ cQ cL : ClassId} {aO b Ln i : Nat} {xs : Nat → Int32} {ls : Array Slot} {h h1 h2 : HP} {o o1 : Int64} (hx : p.tables.exec = Jvm.exec) (hb : c.code = code) (hml : c.maxLocals = 7) (hown : s.vm.findClass "CashRecyclerLaw" = some m.cls) (hts : ∀ w ∈ q_WS, w.before #[Value.ref b] s = true) (hX : va_X b Ln xs s s.heap) (hbl : b < s.heap.size) (hL : q_Law D ad cI cZ cQ aO cL s) (hi : i + 2 < Ln) (hLn : Ln ≤ 1536) (hc : cells + 1 ≤ 664929) (hs : slots + 6 ≤ 7101316) (hl : lv_has ls 7 [(0, .ref b), (1, .ref (ad 0)), (2, .ref (ad 30)), (3, .ref aO), (4, .int (nI i))]) (hJ : va_P D qCl (q_J ad cI cZ cQ aO cL h o) H) (hS : va_S (q_A0 s) s.heap H locs) {k : Int32} {v : Int32} (hW : q_MetL l D ad cI cZ cQ aO cL yw_free ws_free rw_free [.ref (ad 0), .int (xs (i + 1)), .ref aO] h o k h1 o1) (hM : Ec 119 [.inr 30, .inl (xs (i + 1))] h1 (.inl (some v), h2)) (hth : h2 30 0 = k) (hT : Ec 92 [.inr 30] h2 (.inl (some (h2 30 0)), h2)) (hout : k = 0 → o1 = (if v = 0 then 0 else 1)) (kk : ∀ (ls' : Array Slot) (H' : Heap) (locs' : List Loc), lv_has ls' 7 [(0, .ref b), (1, .ref (ad 0)), (2, .ref (ad 30)), (3, .ref aO), (4, .int (nI i))] → va_P D qCl (q_J ad cI cZ cQ aO cL h2 o1) H' → va_S (q_A0 s) s.heap H' locs' → W p l e room_1 s m #[Value.ref b] below meth c H' locs' (cells + 1) (slots + 6) Q (F0 m 1214 ls' [])) : W p l e room_1 s m #[Value.ref b] below meth c H locs cells slots Q (F0 m 641 ls []) := by
  refine lv_aload_n hx hb dl_641 rfl (lv_at hl 1 rfl) ?_
  refine lv_aload_n hx hb dl_642 rfl (lv_at hl 0 rfl) ?_
  refine lv_iload hx hb dl_643 (lv_at hl 4 rfl) ?_
  refine lv_iconst (v := 1) hx hb dl_645 (by decide) ?_
  refine lv_iadd hx hb dl_646 ?_
  rw [nI_1]
  refine va_sld hx hb hX hbl (fun z => by have : s.heap.size ≤ b := z; omega) hS (nI_in (by omega) (by omega)) dl_647 ?_
  rw [nI_clamp (show i + 1 < 2 ^ 31 by omega)]
  refine lv_aload_n hx hb dl_648 rfl (lv_at hl 3 rfl) ?_
  refine q_lcall (idx := 134) ⟨hx, hb, hml, hown, hts⟩ hL hW rfl rfl (by decide +kernel) (by decide +kernel) (q_inAt lc_free_w.2.2.1 rfl) (q_inAt lc_free_w.2.1 rfl) (q_inAt lc_free_w.1 rfl) rfl lc_free_w.2.2.2 hJ hS hc hs hl.1 rfl dl_649 (fun H1 locs1 hJ1 hS1 => ?_)
  refine lv_istore hx hb dl_652 hl (by decide) rfl (fun ls5 hl => ?_)
  have hl : lv_has ls5 7 [(5, .int k), (0, .ref b), (1, .ref (ad 0)), (2, .ref (ad 30)), (3, .ref aO), (4, .int (nI i))] := hl
  refine lv_aload_n hx hb dl_654 rfl (lv_at hl 3 rfl) ?_
  refine lv_aload_n hx hb dl_655 rfl (lv_at hl 1 rfl) ?_
  refine lv_iload hx hb dl_656 (lv_at hl 5 rfl) ?_
  refine lv_iconst (v := 1) hx hb dl_658 (by decide) ?_
  refine lv_iadd hx hb dl_659 ?_
  rw [nI_1]
  refine va_sld hx hb hX hbl (fun z => by have : s.heap.size ≤ b := z; omega) hS1 (nI_in (by omega) (by omega)) dl_660 ?_
  rw [nI_clamp (show i + 1 < 2 ^ 31 by omega)]
  refine q_ucall (j := 119) (ro := 30) (idx := 136) (as := [.inl (xs (i + 1))]) (rest := []) (A0 := q_A0 s) ⟨hx, hb, hml, hown, hts⟩ hL.1.1 (by decide) (by decide) rfl hM rfl rfl (q_inAt ll_136 rfl) (by decide +kernel) (by decide +kernel) (by show (cells + 1) ≤ 664929; omega) (by show (slots + 6) ≤ 7101316; omega) (q_J_W hJ1) hS1 (fun q z => hL.2.2.2.2.2 q (Or.inl z)) (fun U hU hWU => q_Law_sta hL hS1 hU hWU) hl.1 rfl (Nat.le_of_ble_eq_true rfl) dl_661 (fun G0 gl0 hG0 gz0 gk0 hSg0 => ?_)
  have hJg0 : va_P D qCl (q_J ad cI cZ cQ aO cL h2 o1) G0 := q_J_mk hG0 (by rw [gk0 aO (Array.getElem?_eq_some_iff.mp (q_J_O hJ1)).1 hL.2.2.2.2.1]; exact q_J_O hJ1)
  refine lv_istore hx hb dl_664 hl (by decide) rfl (fun ls6 hl => ?_)
  have hl : lv_has ls6 7 [(6, .int v), (5, .int k), (0, .ref b), (1, .ref (ad 0)), (2, .ref (ad 30)), (3, .ref aO), (4, .int (nI i))] := hl
  refine lv_aload_n hx hb dl_666 rfl (lv_at hl 4 rfl) ?_
  refine q_ucall (j := 92) (ro := 30) (idx := 94) (as := []) (rest := []) (A0 := q_A0 s) ⟨hx, hb, hml, hown, hts⟩ hL.1.1 (by decide) (by decide) rfl hT rfl rfl (q_inAt ll_94 rfl) (by decide +kernel) (by decide +kernel) (by show (cells + 1) ≤ 664929; omega) (by show (slots + 6) ≤ 7101316; omega) (q_J_W hJg0) hSg0 (fun q z => hL.2.2.2.2.2 q (Or.inl z)) (fun U hU hWU => q_Law_sta hL hSg0 hU hWU) hl.1 rfl (Nat.le_of_ble_eq_true rfl) dl_667 (fun G1 gl1 hG1 gz1 gk1 hSg1 => ?_)
  have hJg1 : va_P D qCl (q_J ad cI cZ cQ aO cL h2 o1) G1 := q_J_mk hG1 (by rw [gk1 aO (Array.getElem?_eq_some_iff.mp (q_J_O hJg0)).1 hL.2.2.2.2.1]; exact q_J_O hJg0)
  refine lv_iload hx hb dl_670 (lv_at hl 1 rfl) ?_
  refine lv_icmp_eq hx hb dl_672 rfl (fun _ => ?_) (fun hc9 => absurd hth hc9)
  refine lv_iload hx hb dl_677 (lv_at hl 1 rfl) ?_
  refine lv_if_ne hx hb dl_679 rfl (fun hk0 => ?_) (fun hk0 => ?_)
  · refine lv_goto hx hb dl_701 rfl ?_
    exact kk _ _ _ (lv_sub hl [2, 3, 4, 5, 6] rfl) hJg1 hSg1
  · have ho := hout hk0
    refine lv_aload_n hx hb dl_682 rfl (lv_at hl 5 rfl) ?_
    refine lv_iconst (v := 0) hx hb dl_683 (by decide) ?_
    refine va_lald (D := D) (cl := qCl) hx hb hL.2.2.1 hJg1 47 0 q_J_47 rfl q_in01 dl_684 ?_
    show W _ _ _ _ _ _ _ _ _ _ _ _ _ _ _ (F0 m _ _ [.long o1])
    rw [ho]
    refine lv_iload hx hb dl_685 (lv_at hl 0 rfl) ?_
    refine lv_if_eq hx hb dl_687 rfl (fun hv0 => ?_) (fun hv0 => ?_)
    · rw [if_pos hv0]
      refine lv_lconst (v := 0) hx hb dl_694 (by decide) ?_
      refine W.lcmp hx hb dl_695 ?_
      rw [q_cmp0]
      refine lv_if_eq hx hb dl_696 rfl (fun _ => ?_) (fun hc9 => absurd rfl hc9)
      refine lv_goto hx hb dl_701 rfl ?_
      exact kk _ _ _ (lv_sub hl [2, 3, 4, 5, 6] rfl) hJg1 hSg1
    · rw [if_neg hv0]
      refine lv_lconst (v := 1) hx hb dl_690 (by decide) ?_
      refine lv_goto hx hb dl_691 rfl ?_
      refine W.lcmp hx hb dl_695 ?_
      rw [q_cmp0]
      refine lv_if_eq hx hb dl_696 rfl (fun _ => ?_) (fun hc9 => absurd rfl hc9)
      refine lv_goto hx hb dl_701 rfl ?_
      exact kk _ _ _ (lv_sub hl [2, 3, 4, 5, 6] rfl) hJg1 hSg1
theorem ll_140 : lw_tbl[932]? = some (.methodLink "CashRecyclerLaw" 140 (qmY 123)) := by decide +kernel
theorem lc_close_w : lw_tbl[672]? = some (.methodLink "CashRecyclerLaw" 137 yw_close) ∧ lw_tbl[673]? = some (.static yw_close) ∧ lw_tbl[674]? = some (.codeWith yw_close method_15_code 3 (some .int) [(0, 8, 11, 15)]) ∧ (parseMethodDescriptor yw_close.desc).map (fun d => d.parameters.length) = some 2 := by decide +kernel
set_option maxHeartbeats 4000000 in
theorem lc_close {p : Program} {l : Launch} {e : Env} {s : State} {m : MethodId} {below : List Frame} {meth : Method} {c : Code} {H : Heap} {locs : List Loc} {cells slots : Nat} {Q : State → Prop} {D : va_G} {ad : Nat → Nat} {cI cZ cQ cL : ClassId} {aO b Ln i : Nat} {xs : Nat → Int32} {ls : Array Slot} {h h1 h2 : HP} {o o1 : Int64} (hx : p.tables.exec = Jvm.exec) (hb : c.code = code) (hml : c.maxLocals = 7) (hown : s.vm.findClass "CashRecyclerLaw" = some m.cls) (hts : ∀ w ∈ q_WS, w.before #[Value.ref b] s = true) (hX : va_X b Ln xs s s.heap) (hbl : b < s.heap.size) (hL : q_Law D ad cI cZ cQ aO cL s) (hi : i + 2 < Ln) (hLn : Ln ≤ 1536) (hc : cells + 1 ≤ 664929) (hs : slots + 6 ≤ 7101316) (hl : lv_has ls 7 [(0, .ref b), (1, .ref (ad 0)), (2, .ref (ad 30)), (3, .ref aO), (4, .int (nI i))]) (hJ : va_P D qCl (q_J ad cI cZ cQ aO cL h o) H) (hS : va_S (q_A0 s) s.heap H locs) {k : Int32} {v : Int32} (hW : q_MetL l D ad cI cZ cQ aO cL yw_close ws_close rw_close [.ref (ad 0), .ref aO] h o k h1 o1) (hM : Ec 123 [.inr 30] h1 (.inl (some v), h2)) (hth : h2 30 0 = k) (hT : Ec 92 [.inr 30] h2 (.inl (some (h2 30 0)), h2)) (hout : k = 0 → o1 = v.toInt64) (kk : ∀ (ls' : Array Slot) (H' : Heap) (locs' : List Loc), lv_has ls' 7 [(0, .ref b), (1, .ref (ad 0)), (2, .ref (ad 30)), (3, .ref aO), (4, .int (nI i))] → va_P D qCl (q_J ad cI cZ cQ aO cL h2 o1) H' → va_S (q_A0 s) s.heap H' locs' → W p l e room_1 s m #[Value.ref b] below meth c H' locs' (cells + 1) (slots + 6) Q (F0 m 1214 ls' [])) : W p l e room_1 s m #[Value.ref b] below meth c H locs cells slots Q (F0 m 704 ls []) := by
  refine lv_aload_n hx hb dl_704 rfl (lv_at hl 1 rfl) ?_
  refine lv_aload_n hx hb dl_705 rfl (lv_at hl 3 rfl) ?_
  refine q_lcall (idx := 137) ⟨hx, hb, hml, hown, hts⟩ hL hW rfl rfl (by decide +kernel) (by decide +kernel) (q_inAt lc_close_w.2.2.1 rfl) (q_inAt lc_close_w.2.1 rfl) (q_inAt lc_close_w.1 rfl) rfl lc_close_w.2.2.2 hJ hS hc hs hl.1 rfl dl_706 (fun H1 locs1 hJ1 hS1 => ?_)
  refine lv_istore hx hb dl_709 hl (by decide) rfl (fun ls5 hl => ?_)
  have hl : lv_has ls5 7 [(5, .int k), (0, .ref b), (1, .ref (ad 0)), (2, .ref (ad 30)), (3, .ref aO), (4, .int (nI i))] := hl
  refine lv_aload_n hx hb dl_711 rfl (lv_at hl 3 rfl) ?_
  refine q_ucall (j := 123) (ro := 30) (idx := 140) (as := []) (rest := []) (A0 := q_A0 s) ⟨hx, hb, hml, hown, hts⟩ hL.1.1 (by decide) (by decide) rfl hM rfl rfl (q_inAt ll_140 rfl) (by decide +kernel) (by decide +kernel) (by show (cells + 1) ≤ 664929; omega) (by show (slots + 6) ≤ 7101316; omega) (q_J_W hJ1) hS1 (fun q z => hL.2.2.2.2.2 q (Or.inl z)) (fun U hU hWU => q_Law_sta hL hS1 hU hWU) hl.1 rfl (Nat.le_of_ble_eq_true rfl) dl_712 (fun G0 gl0 hG0 gz0 gk0 hSg0 => ?_)
  have hJg0 : va_P D qCl (q_J ad cI cZ cQ aO cL h2 o1) G0 := q_J_mk hG0 (by rw [gk0 aO (Array.getElem?_eq_some_iff.mp (q_J_O hJ1)).1 hL.2.2.2.2.1]; exact q_J_O hJ1)
  refine lv_istore hx hb dl_715 hl (by decide) rfl (fun ls6 hl => ?_)
  have hl : lv_has ls6 7 [(6, .int v), (5, .int k), (0, .ref b), (1, .ref (ad 0)), (2, .ref (ad 30)), (3, .ref aO), (4, .int (nI i))] := hl
  refine lv_aload_n hx hb dl_717 rfl (lv_at hl 4 rfl) ?_
  refine q_ucall (j := 92) (ro := 30) (idx := 94) (as := []) (rest := []) (A0 := q_A0 s) ⟨hx, hb, hml, hown, hts⟩ hL.1.1 (by decide) (by decide) rfl hT rfl rfl (q_inAt ll_94 rfl) (by decide +kernel) (by decide +kernel) (by show (cells + 1) ≤ 664929; omega) (by show (slots + 6) ≤ 7101316; omega) (q_J_W hJg0) hSg0 (fun q z => hL.2.2.2.2.2 q (Or.inl z)) (fun U hU hWU => q_Law_sta hL hSg0 hU hWU) hl.1 rfl (Nat.le_of_ble_eq_true rfl) dl_718 (fun G1 gl1 hG1 gz1 gk1 hSg1 => ?_)
  have hJg1 : va_P D qCl (q_J ad cI cZ cQ aO cL h2 o1) G1 := q_J_mk hG1 (by rw [gk1 aO (Array.getElem?_eq_some_iff.mp (q_J_O hJg0)).1 hL.2.2.2.2.1]; exact q_J_O hJg0)
  refine lv_iload hx hb dl_721 (lv_at hl 1 rfl) ?_
  refine lv_icmp_eq hx hb dl_723 rfl (fun _ => ?_) (fun hc9 => absurd hth hc9)
  refine lv_iload hx hb dl_728 (lv_at hl 1 rfl) ?_
  refine lv_if_ne hx hb dl_730 rfl (fun hk0 => ?_) (fun hk0 => ?_)
  · refine lv_goto hx hb dl_745 rfl ?_
    exact kk _ _ _ (lv_sub hl [2, 3, 4, 5, 6] rfl) hJg1 hSg1
  · have ho := hout hk0
    refine lv_aload_n hx hb dl_733 rfl (lv_at hl 5 rfl) ?_
    refine lv_iconst (v := 0) hx hb dl_734 (by decide) ?_
    refine va_lald (D := D) (cl := qCl) hx hb hL.2.2.1 hJg1 47 0 q_J_47 rfl q_in01 dl_735 ?_
    show W _ _ _ _ _ _ _ _ _ _ _ _ _ _ _ (F0 m _ _ [.long o1])
    rw [ho]
    refine lv_iload hx hb dl_736 (lv_at hl 0 rfl) ?_
    refine lv_i2l (v := v.toInt64) hx hb dl_738 rfl ?_
    refine W.lcmp hx hb dl_739 ?_
    rw [q_cmp0]
    refine lv_if_eq hx hb dl_740 rfl (fun _ => ?_) (fun hc9 => absurd rfl hc9)
    refine lv_goto hx hb dl_745 rfl ?_
    exact kk _ _ _ (lv_sub hl [2, 3, 4, 5, 6] rfl) hJg1 hSg1
theorem ll_141 : lw_tbl[206]? = some (.methodLink "CashRecyclerLaw" 141 (qmY 80)) := by decide +kernel
theorem ll_144 : lw_tbl[948]? = some (.methodLink "CashRecyclerLaw" 144 (qmY 124)) := by decide +kernel
set_option maxHeartbeats 4000000 in
theorem lc_power {p : Program} {l : Launch} {e : Env} {s : State} {m : MethodId} {below : List Frame} {meth : Method} {c : Code} {H : Heap} {locs : List Loc} {cells slots : Nat} {Q : State → Prop} {D : va_G} {ad : Nat → Nat} {cI cZ cQ cL : ClassId} {aO b Ln i : Nat} {xs : Nat → Int32} {ls : Array Slot} {h h1 h2 : HP} {o o1 : Int64} (hx : p.tables.exec = Jvm.exec) (hb : c.code = code) (hml : c.maxLocals = 7) (hown : s.vm.findClass "CashRecyclerLaw" = some m.cls) (hts : ∀ w ∈ q_WS, w.before #[Value.ref b] s = true) (hX : va_X b Ln xs s s.heap) (hbl : b < s.heap.size) (hL : q_Law D ad cI cZ cQ aO cL s) (hi : i + 2 < Ln) (hLn : Ln ≤ 1536) (hc : cells + 1 ≤ 664929) (hs : slots + 6 ≤ 7101316) (hl : lv_has ls 7 [(0, .ref b), (1, .ref (ad 0)), (2, .ref (ad 30)), (3, .ref aO), (4, .int (nI i))]) (hJ : va_P D qCl (q_J ad cI cZ cQ aO cL h o) H) (hS : va_S (q_A0 s) s.heap H locs) {v : Int32} (hC : Ec 80 [.inr 0] h (.inl (some v), h1)) (hM : Ec 124 [.inr 30] h1 (.inl (some v), h2)) (kk : ∀ (ls' : Array Slot) (H' : Heap) (locs' : List Loc), lv_has ls' 7 [(0, .ref b), (1, .ref (ad 0)), (2, .ref (ad 30)), (3, .ref aO), (4, .int (nI i))] → va_P D qCl (q_J ad cI cZ cQ aO cL h2 o) H' → va_S (q_A0 s) s.heap H' locs' → W p l e room_1 s m #[Value.ref b] below meth c H' locs' (cells + 1) (slots + 6) Q (F0 m 1214 ls' [])) : W p l e room_1 s m #[Value.ref b] below meth c H locs cells slots Q (F0 m 748 ls []) := by
  refine lv_aload_n hx hb dl_748 rfl (lv_at hl 1 rfl) ?_
  refine q_ucall (j := 80) (ro := 0) (idx := 141) (as := []) (rest := []) (A0 := q_A0 s) ⟨hx, hb, hml, hown, hts⟩ hL.1.1 (by decide) (by decide) rfl hC rfl rfl (q_inAt ll_141 rfl) (by decide +kernel) (by decide +kernel) (by show cells ≤ 664929; omega) (by show slots ≤ 7101316; omega) (q_J_W hJ) hS (fun q z => hL.2.2.2.2.2 q (Or.inl z)) (fun U hU hWU => q_Law_sta hL hS hU hWU) hl.1 rfl (Nat.le_of_ble_eq_true rfl) dl_749 (fun G0 gl0 hG0 gz0 gk0 hSg0 => ?_)
  have hJg0 : va_P D qCl (q_J ad cI cZ cQ aO cL h1 o) G0 := q_J_mk hG0 (by rw [gk0 aO (Array.getElem?_eq_some_iff.mp (q_J_O hJ)).1 hL.2.2.2.2.1]; exact q_J_O hJ)
  refine lv_aload_n hx hb dl_752 rfl (lv_at hl 2 rfl) ?_
  refine q_ucall (j := 124) (ro := 30) (idx := 144) (as := []) (rest := [.int v]) (A0 := q_A0 s) ⟨hx, hb, hml, hown, hts⟩ hL.1.1 (by decide) (by decide) rfl hM rfl rfl (q_inAt ll_144 rfl) (by decide +kernel) (by decide +kernel) (by show cells ≤ 664929; omega) (by show slots ≤ 7101316; omega) (q_J_W hJg0) hSg0 (fun q z => hL.2.2.2.2.2 q (Or.inl z)) (fun U hU hWU => q_Law_sta hL hSg0 hU hWU) hl.1 rfl (Nat.le_of_ble_eq_true rfl) dl_753 (fun G1 gl1 hG1 gz1 gk1 hSg1 => ?_)
  have hJg1 : va_P D qCl (q_J ad cI cZ cQ aO cL h2 o) G1 := q_J_mk hG1 (by rw [gk1 aO (Array.getElem?_eq_some_iff.mp (q_J_O hJg0)).1 hL.2.2.2.2.1]; exact q_J_O hJg0)
  refine lv_icmp_eq hx hb dl_756 rfl (fun _ => ?_) (fun hc9 => absurd rfl hc9)
  refine W.widen (k := cells + 1) (n := slots + 6) (by omega) (by omega) ?_
  exact kk _ _ _ hl hJg1 hSg1
theorem ll_147 : lw_tbl[952]? = some (.methodLink "CashRecyclerLaw" 147 (qmY 125)) := by decide +kernel
theorem lc_service_w : lw_tbl[679]? = some (.methodLink "CashRecyclerLaw" 145 yw_service) ∧ lw_tbl[680]? = some (.static yw_service) ∧ lw_tbl[681]? = some (.codeWith yw_service method_16_code 3 (some .int) [(0, 15, 18, 15)]) ∧ (parseMethodDescriptor yw_service.desc).map (fun d => d.parameters.length) = some 2 := by decide +kernel
set_option maxHeartbeats 4000000 in
theorem lc_service {p : Program} {l : Launch} {e : Env} {s : State} {m : MethodId} {below : List Frame} {meth : Method} {c : Code} {H : Heap} {locs : List Loc} {cells slots : Nat} {Q : State → Prop} {D : va_G} {ad : Nat → Nat} {cI cZ cQ cL : ClassId} {aO b Ln i : Nat} {xs : Nat → Int32} {ls : Array Slot} {h h1 h2 : HP} {o o1 : Int64} (hx : p.tables.exec = Jvm.exec) (hb : c.code = code) (hml : c.maxLocals = 7) (hown : s.vm.findClass "CashRecyclerLaw" = some m.cls) (hts : ∀ w ∈ q_WS, w.before #[Value.ref b] s = true) (hX : va_X b Ln xs s s.heap) (hbl : b < s.heap.size) (hL : q_Law D ad cI cZ cQ aO cL s) (hi : i + 2 < Ln) (hLn : Ln ≤ 1536) (hc : cells + 1 ≤ 664929) (hs : slots + 6 ≤ 7101316) (hl : lv_has ls 7 [(0, .ref b), (1, .ref (ad 0)), (2, .ref (ad 30)), (3, .ref aO), (4, .int (nI i))]) (hJ : va_P D qCl (q_J ad cI cZ cQ aO cL h o) H) (hS : va_S (q_A0 s) s.heap H locs) {k : Int32} {v : Int32} (hW : q_MetL l D ad cI cZ cQ aO cL yw_service ws_service rw_service [.ref (ad 0), .ref aO] h o k h1 o1) (hM : Ec 125 [.inr 30] h1 (.inl (some v), h2)) (hth : h2 30 0 = k) (hT : Ec 92 [.inr 30] h2 (.inl (some (h2 30 0)), h2)) (hout : k = 0 → o1 = (if v = 0 then 0 else 1)) (kk : ∀ (ls' : Array Slot) (H' : Heap) (locs' : List Loc), lv_has ls' 7 [(0, .ref b), (1, .ref (ad 0)), (2, .ref (ad 30)), (3, .ref aO), (4, .int (nI i))] → va_P D qCl (q_J ad cI cZ cQ aO cL h2 o1) H' → va_S (q_A0 s) s.heap H' locs' → W p l e room_1 s m #[Value.ref b] below meth c H' locs' (cells + 1) (slots + 6) Q (F0 m 1214 ls' [])) : W p l e room_1 s m #[Value.ref b] below meth c H locs cells slots Q (F0 m 761 ls []) := by
  refine lv_aload_n hx hb dl_761 rfl (lv_at hl 1 rfl) ?_
  refine lv_aload_n hx hb dl_762 rfl (lv_at hl 3 rfl) ?_
  refine q_lcall (idx := 145) ⟨hx, hb, hml, hown, hts⟩ hL hW rfl rfl (by decide +kernel) (by decide +kernel) (q_inAt lc_service_w.2.2.1 rfl) (q_inAt lc_service_w.2.1 rfl) (q_inAt lc_service_w.1 rfl) rfl lc_service_w.2.2.2 hJ hS hc hs hl.1 rfl dl_763 (fun H1 locs1 hJ1 hS1 => ?_)
  refine lv_istore hx hb dl_766 hl (by decide) rfl (fun ls5 hl => ?_)
  have hl : lv_has ls5 7 [(5, .int k), (0, .ref b), (1, .ref (ad 0)), (2, .ref (ad 30)), (3, .ref aO), (4, .int (nI i))] := hl
  refine lv_aload_n hx hb dl_768 rfl (lv_at hl 3 rfl) ?_
  refine q_ucall (j := 125) (ro := 30) (idx := 147) (as := []) (rest := []) (A0 := q_A0 s) ⟨hx, hb, hml, hown, hts⟩ hL.1.1 (by decide) (by decide) rfl hM rfl rfl (q_inAt ll_147 rfl) (by decide +kernel) (by decide +kernel) (by show (cells + 1) ≤ 664929; omega) (by show (slots + 6) ≤ 7101316; omega) (q_J_W hJ1) hS1 (fun q z => hL.2.2.2.2.2 q (Or.inl z)) (fun U hU hWU => q_Law_sta hL hS1 hU hWU) hl.1 rfl (Nat.le_of_ble_eq_true rfl) dl_769 (fun G0 gl0 hG0 gz0 gk0 hSg0 => ?_)
  have hJg0 : va_P D qCl (q_J ad cI cZ cQ aO cL h2 o1) G0 := q_J_mk hG0 (by rw [gk0 aO (Array.getElem?_eq_some_iff.mp (q_J_O hJ1)).1 hL.2.2.2.2.1]; exact q_J_O hJ1)
  refine lv_istore hx hb dl_772 hl (by decide) rfl (fun ls6 hl => ?_)
  have hl : lv_has ls6 7 [(6, .int v), (5, .int k), (0, .ref b), (1, .ref (ad 0)), (2, .ref (ad 30)), (3, .ref aO), (4, .int (nI i))] := hl
  refine lv_aload_n hx hb dl_774 rfl (lv_at hl 4 rfl) ?_
  refine q_ucall (j := 92) (ro := 30) (idx := 94) (as := []) (rest := []) (A0 := q_A0 s) ⟨hx, hb, hml, hown, hts⟩ hL.1.1 (by decide) (by decide) rfl hT rfl rfl (q_inAt ll_94 rfl) (by decide +kernel) (by decide +kernel) (by show (cells + 1) ≤ 664929; omega) (by show (slots + 6) ≤ 7101316; omega) (q_J_W hJg0) hSg0 (fun q z => hL.2.2.2.2.2 q (Or.inl z)) (fun U hU hWU => q_Law_sta hL hSg0 hU hWU) hl.1 rfl (Nat.le_of_ble_eq_true rfl) dl_775 (fun G1 gl1 hG1 gz1 gk1 hSg1 => ?_)
  have hJg1 : va_P D qCl (q_J ad cI cZ cQ aO cL h2 o1) G1 := q_J_mk hG1 (by rw [gk1 aO (Array.getElem?_eq_some_iff.mp (q_J_O hJg0)).1 hL.2.2.2.2.1]; exact q_J_O hJg0)
  refine lv_iload hx hb dl_778 (lv_at hl 1 rfl) ?_
  refine lv_icmp_eq hx hb dl_780 rfl (fun _ => ?_) (fun hc9 => absurd hth hc9)
  refine lv_iload hx hb dl_785 (lv_at hl 1 rfl) ?_
  refine lv_if_ne hx hb dl_787 rfl (fun hk0 => ?_) (fun hk0 => ?_)
  · refine lv_goto hx hb dl_809 rfl ?_
    exact kk _ _ _ (lv_sub hl [2, 3, 4, 5, 6] rfl) hJg1 hSg1
  · have ho := hout hk0
    refine lv_aload_n hx hb dl_790 rfl (lv_at hl 5 rfl) ?_
    refine lv_iconst (v := 0) hx hb dl_791 (by decide) ?_
    refine va_lald (D := D) (cl := qCl) hx hb hL.2.2.1 hJg1 47 0 q_J_47 rfl q_in01 dl_792 ?_
    show W _ _ _ _ _ _ _ _ _ _ _ _ _ _ _ (F0 m _ _ [.long o1])
    rw [ho]
    refine lv_iload hx hb dl_793 (lv_at hl 0 rfl) ?_
    refine lv_if_eq hx hb dl_795 rfl (fun hv0 => ?_) (fun hv0 => ?_)
    · rw [if_pos hv0]
      refine lv_lconst (v := 0) hx hb dl_802 (by decide) ?_
      refine W.lcmp hx hb dl_803 ?_
      rw [q_cmp0]
      refine lv_if_eq hx hb dl_804 rfl (fun _ => ?_) (fun hc9 => absurd rfl hc9)
      refine lv_goto hx hb dl_809 rfl ?_
      exact kk _ _ _ (lv_sub hl [2, 3, 4, 5, 6] rfl) hJg1 hSg1
    · rw [if_neg hv0]
      refine lv_lconst (v := 1) hx hb dl_798 (by decide) ?_
      refine lv_goto hx hb dl_799 rfl ?_
      refine W.lcmp hx hb dl_803 ?_
      rw [q_cmp0]
      refine lv_if_eq hx hb dl_804 rfl (fun _ => ?_) (fun hc9 => absurd rfl hc9)
      refine lv_goto hx hb dl_809 rfl ?_
      exact kk _ _ _ (lv_sub hl [2, 3, 4, 5, 6] rfl) hJg1 hSg1
theorem ll_151 : lw_tbl[956]? = some (.methodLink "CashRecyclerLaw" 151 (qmY 126)) := by decide +kernel
theorem lc_kind_w : lw_tbl[686]? = some (.methodLink "CashRecyclerLaw" 148 yw_kind) ∧ lw_tbl[687]? = some (.static yw_kind) ∧ lw_tbl[688]? = some (.codeWith yw_kind method_17_code 4 (some .int) [(0, 6, 9, 15), (0, 6, 12, 13), (0, 6, 15, 32)]) ∧ (parseMethodDescriptor yw_kind.desc).map (fun d => d.parameters.length) = some 3 := by decide +kernel
set_option maxHeartbeats 4000000 in
theorem lc_kind {p : Program} {l : Launch} {e : Env} {s : State} {m : MethodId} {below : List Frame} {meth : Method} {c : Code} {H : Heap} {locs : List Loc} {cells slots : Nat} {Q : State → Prop} {D : va_G} {ad : Nat → Nat} {cI cZ cQ cL : ClassId} {aO b Ln i : Nat} {xs : Nat → Int32} {ls : Array Slot} {h h1 h2 : HP} {o o1 : Int64} (hx : p.tables.exec = Jvm.exec) (hb : c.code = code) (hml : c.maxLocals = 7) (hown : s.vm.findClass "CashRecyclerLaw" = some m.cls) (hts : ∀ w ∈ q_WS, w.before #[Value.ref b] s = true) (hX : va_X b Ln xs s s.heap) (hbl : b < s.heap.size) (hL : q_Law D ad cI cZ cQ aO cL s) (hi : i + 2 < Ln) (hLn : Ln ≤ 1536) (hc : cells + 1 ≤ 664929) (hs : slots + 6 ≤ 7101316) (hl : lv_has ls 7 [(0, .ref b), (1, .ref (ad 0)), (2, .ref (ad 30)), (3, .ref aO), (4, .int (nI i))]) (hJ : va_P D qCl (q_J ad cI cZ cQ aO cL h o) H) (hS : va_S (q_A0 s) s.heap H locs) {k : Int32} (hW : q_MetL l D ad cI cZ cQ aO cL yw_kind ws_kind rw_kind [.ref (ad 0), .int (xs (i + 1)), .int (xs (i + 2))] h o k h1 o1) (hM : Ec 126 [.inr 30, .inl (xs (i + 1)), .inl (xs (i + 2))] h1 (.inl none, h2)) (hth : h2 30 0 = k) (hT : Ec 92 [.inr 30] h2 (.inl (some (h2 30 0)), h2)) (kk : ∀ (ls' : Array Slot) (H' : Heap) (locs' : List Loc), lv_has ls' 7 [(0, .ref b), (1, .ref (ad 0)), (2, .ref (ad 30)), (3, .ref aO), (4, .int (nI i))] → va_P D qCl (q_J ad cI cZ cQ aO cL h2 o1) H' → va_S (q_A0 s) s.heap H' locs' → W p l e room_1 s m #[Value.ref b] below meth c H' locs' (cells + 1) (slots + 6) Q (F0 m 1214 ls' [])) : W p l e room_1 s m #[Value.ref b] below meth c H locs cells slots Q (F0 m 812 ls []) := by
  refine lv_aload_n hx hb dl_812 rfl (lv_at hl 1 rfl) ?_
  refine lv_aload_n hx hb dl_813 rfl (lv_at hl 0 rfl) ?_
  refine lv_iload hx hb dl_814 (lv_at hl 4 rfl) ?_
  refine lv_iconst (v := 1) hx hb dl_816 (by decide) ?_
  refine lv_iadd hx hb dl_817 ?_
  rw [nI_1]
  refine va_sld hx hb hX hbl (fun z => by have : s.heap.size ≤ b := z; omega) hS (nI_in (by omega) (by omega)) dl_818 ?_
  rw [nI_clamp (show i + 1 < 2 ^ 31 by omega)]
  refine lv_aload_n hx hb dl_819 rfl (lv_at hl 0 rfl) ?_
  refine lv_iload hx hb dl_820 (lv_at hl 4 rfl) ?_
  refine lv_iconst (v := 2) hx hb dl_822 (by decide) ?_
  refine lv_iadd hx hb dl_823 ?_
  rw [q_nI2]
  refine va_sld hx hb hX hbl (fun z => by have : s.heap.size ≤ b := z; omega) hS (nI_in (by omega) (by omega)) dl_824 ?_
  rw [nI_clamp (show i + 2 < 2 ^ 31 by omega)]
  refine q_lcall (idx := 148) ⟨hx, hb, hml, hown, hts⟩ hL hW rfl rfl (by decide +kernel) (by decide +kernel) (q_inAt lc_kind_w.2.2.1 rfl) (q_inAt lc_kind_w.2.1 rfl) (q_inAt lc_kind_w.1 rfl) rfl lc_kind_w.2.2.2 hJ hS hc hs hl.1 rfl dl_825 (fun H1 locs1 hJ1 hS1 => ?_)
  refine lv_istore hx hb dl_828 hl (by decide) rfl (fun ls5 hl => ?_)
  have hl : lv_has ls5 7 [(5, .int k), (0, .ref b), (1, .ref (ad 0)), (2, .ref (ad 30)), (3, .ref aO), (4, .int (nI i))] := hl
  refine lv_aload_n hx hb dl_830 rfl (lv_at hl 3 rfl) ?_
  refine lv_aload_n hx hb dl_831 rfl (lv_at hl 1 rfl) ?_
  refine lv_iload hx hb dl_832 (lv_at hl 5 rfl) ?_
  refine lv_iconst (v := 1) hx hb dl_834 (by decide) ?_
  refine lv_iadd hx hb dl_835 ?_
  rw [nI_1]
  refine va_sld hx hb hX hbl (fun z => by have : s.heap.size ≤ b := z; omega) hS1 (nI_in (by omega) (by omega)) dl_836 ?_
  rw [nI_clamp (show i + 1 < 2 ^ 31 by omega)]
  refine lv_aload_n hx hb dl_837 rfl (lv_at hl 1 rfl) ?_
  refine lv_iload hx hb dl_838 (lv_at hl 5 rfl) ?_
  refine lv_iconst (v := 2) hx hb dl_840 (by decide) ?_
  refine lv_iadd hx hb dl_841 ?_
  rw [q_nI2]
  refine va_sld hx hb hX hbl (fun z => by have : s.heap.size ≤ b := z; omega) hS1 (nI_in (by omega) (by omega)) dl_842 ?_
  rw [nI_clamp (show i + 2 < 2 ^ 31 by omega)]
  refine q_ucall (j := 126) (ro := 30) (idx := 151) (as := [.inl (xs (i + 1)), .inl (xs (i + 2))]) (rest := []) (A0 := q_A0 s) ⟨hx, hb, hml, hown, hts⟩ hL.1.1 (by decide) (by decide) rfl hM rfl rfl (q_inAt ll_151 rfl) (by decide +kernel) (by decide +kernel) (by show (cells + 1) ≤ 664929; omega) (by show (slots + 6) ≤ 7101316; omega) (q_J_W hJ1) hS1 (fun q z => hL.2.2.2.2.2 q (Or.inl z)) (fun U hU hWU => q_Law_sta hL hS1 hU hWU) hl.1 rfl (Nat.le_of_ble_eq_true rfl) dl_843 (fun G0 gl0 hG0 gz0 gk0 hSg0 => ?_)
  have hJg0 : va_P D qCl (q_J ad cI cZ cQ aO cL h2 o1) G0 := q_J_mk hG0 (by rw [gk0 aO (Array.getElem?_eq_some_iff.mp (q_J_O hJ1)).1 hL.2.2.2.2.1]; exact q_J_O hJ1)
  refine lv_aload_n hx hb dl_846 rfl (lv_at hl 3 rfl) ?_
  refine q_ucall (j := 92) (ro := 30) (idx := 94) (as := []) (rest := []) (A0 := q_A0 s) ⟨hx, hb, hml, hown, hts⟩ hL.1.1 (by decide) (by decide) rfl hT rfl rfl (q_inAt ll_94 rfl) (by decide +kernel) (by decide +kernel) (by show (cells + 1) ≤ 664929; omega) (by show (slots + 6) ≤ 7101316; omega) (q_J_W hJg0) hSg0 (fun q z => hL.2.2.2.2.2 q (Or.inl z)) (fun U hU hWU => q_Law_sta hL hSg0 hU hWU) hl.1 rfl (Nat.le_of_ble_eq_true rfl) dl_847 (fun G1 gl1 hG1 gz1 gk1 hSg1 => ?_)
  have hJg1 : va_P D qCl (q_J ad cI cZ cQ aO cL h2 o1) G1 := q_J_mk hG1 (by rw [gk1 aO (Array.getElem?_eq_some_iff.mp (q_J_O hJg0)).1 hL.2.2.2.2.1]; exact q_J_O hJg0)
  refine lv_iload hx hb dl_850 (lv_at hl 0 rfl) ?_
  refine lv_icmp_eq hx hb dl_852 rfl (fun _ => ?_) (fun hc9 => absurd hth hc9)
  refine lv_goto hx hb dl_857 rfl ?_
  exact kk _ _ _ (lv_sub hl [1, 2, 3, 4, 5] rfl) hJg1 hSg1
theorem ll_154 : lw_tbl[960]? = some (.methodLink "CashRecyclerLaw" 154 (qmY 127)) := by decide +kernel
theorem lc_refill_w : lw_tbl[701]? = some (.methodLink "CashRecyclerLaw" 152 yw_refill) ∧ lw_tbl[702]? = some (.static yw_refill) ∧ lw_tbl[703]? = some (.codeWith yw_refill method_18_code 5 (some .int) [(0, 10, 13, 15), (0, 10, 17, 13)]) ∧ (parseMethodDescriptor yw_refill.desc).map (fun d => d.parameters.length) = some 4 := by decide +kernel
set_option maxHeartbeats 4000000 in
theorem lc_refill {p : Program} {l : Launch} {e : Env} {s : State} {m : MethodId} {below : List Frame} {meth : Method} {c : Code} {H : Heap} {locs : List Loc} {cells slots : Nat} {Q : State → Prop} {D : va_G} {ad : Nat → Nat} {cI cZ cQ cL : ClassId} {aO b Ln i : Nat} {xs : Nat → Int32} {ls : Array Slot} {h h1 h2 : HP} {o o1 : Int64} (hx : p.tables.exec = Jvm.exec) (hb : c.code = code) (hml : c.maxLocals = 7) (hown : s.vm.findClass "CashRecyclerLaw" = some m.cls) (hts : ∀ w ∈ q_WS, w.before #[Value.ref b] s = true) (hX : va_X b Ln xs s s.heap) (hbl : b < s.heap.size) (hL : q_Law D ad cI cZ cQ aO cL s) (hi : i + 2 < Ln) (hLn : Ln ≤ 1536) (hc : cells + 1 ≤ 664929) (hs : slots + 6 ≤ 7101316) (hl : lv_has ls 7 [(0, .ref b), (1, .ref (ad 0)), (2, .ref (ad 30)), (3, .ref aO), (4, .int (nI i))]) (hJ : va_P D qCl (q_J ad cI cZ cQ aO cL h o) H) (hS : va_S (q_A0 s) s.heap H locs) {k : Int32} {v : Int32} (hW : q_MetL l D ad cI cZ cQ aO cL yw_refill ws_refill rw_refill [.ref (ad 0), .int (xs (i + 1)), .int (xs (i + 2)), .ref aO] h o k h1 o1) (hM : Ec 127 [.inr 30, .inl (xs (i + 1)), .inl (xs (i + 2))] h1 (.inl (some v), h2)) (hth : h2 30 0 = k) (hT : Ec 92 [.inr 30] h2 (.inl (some (h2 30 0)), h2)) (hout : k = 0 → o1 = v.toInt64) (kk : ∀ (ls' : Array Slot) (H' : Heap) (locs' : List Loc), lv_has ls' 7 [(0, .ref b), (1, .ref (ad 0)), (2, .ref (ad 30)), (3, .ref aO), (4, .int (nI i))] → va_P D qCl (q_J ad cI cZ cQ aO cL h2 o1) H' → va_S (q_A0 s) s.heap H' locs' → W p l e room_1 s m #[Value.ref b] below meth c H' locs' (cells + 1) (slots + 6) Q (F0 m 1214 ls' [])) : W p l e room_1 s m #[Value.ref b] below meth c H locs cells slots Q (F0 m 860 ls []) := by
  refine lv_aload_n hx hb dl_860 rfl (lv_at hl 1 rfl) ?_
  refine lv_aload_n hx hb dl_861 rfl (lv_at hl 0 rfl) ?_
  refine lv_iload hx hb dl_862 (lv_at hl 4 rfl) ?_
  refine lv_iconst (v := 1) hx hb dl_864 (by decide) ?_
  refine lv_iadd hx hb dl_865 ?_
  rw [nI_1]
  refine va_sld hx hb hX hbl (fun z => by have : s.heap.size ≤ b := z; omega) hS (nI_in (by omega) (by omega)) dl_866 ?_
  rw [nI_clamp (show i + 1 < 2 ^ 31 by omega)]
  refine lv_aload_n hx hb dl_867 rfl (lv_at hl 0 rfl) ?_
  refine lv_iload hx hb dl_868 (lv_at hl 4 rfl) ?_
  refine lv_iconst (v := 2) hx hb dl_870 (by decide) ?_
  refine lv_iadd hx hb dl_871 ?_
  rw [q_nI2]
  refine va_sld hx hb hX hbl (fun z => by have : s.heap.size ≤ b := z; omega) hS (nI_in (by omega) (by omega)) dl_872 ?_
  rw [nI_clamp (show i + 2 < 2 ^ 31 by omega)]
  refine lv_aload_n hx hb dl_873 rfl (lv_at hl 3 rfl) ?_
  refine q_lcall (idx := 152) ⟨hx, hb, hml, hown, hts⟩ hL hW rfl rfl (by decide +kernel) (by decide +kernel) (q_inAt lc_refill_w.2.2.1 rfl) (q_inAt lc_refill_w.2.1 rfl) (q_inAt lc_refill_w.1 rfl) rfl lc_refill_w.2.2.2 hJ hS hc hs hl.1 rfl dl_874 (fun H1 locs1 hJ1 hS1 => ?_)
  refine lv_istore hx hb dl_877 hl (by decide) rfl (fun ls5 hl => ?_)
  have hl : lv_has ls5 7 [(5, .int k), (0, .ref b), (1, .ref (ad 0)), (2, .ref (ad 30)), (3, .ref aO), (4, .int (nI i))] := hl
  refine lv_aload_n hx hb dl_879 rfl (lv_at hl 3 rfl) ?_
  refine lv_aload_n hx hb dl_880 rfl (lv_at hl 1 rfl) ?_
  refine lv_iload hx hb dl_881 (lv_at hl 5 rfl) ?_
  refine lv_iconst (v := 1) hx hb dl_883 (by decide) ?_
  refine lv_iadd hx hb dl_884 ?_
  rw [nI_1]
  refine va_sld hx hb hX hbl (fun z => by have : s.heap.size ≤ b := z; omega) hS1 (nI_in (by omega) (by omega)) dl_885 ?_
  rw [nI_clamp (show i + 1 < 2 ^ 31 by omega)]
  refine lv_aload_n hx hb dl_886 rfl (lv_at hl 1 rfl) ?_
  refine lv_iload hx hb dl_887 (lv_at hl 5 rfl) ?_
  refine lv_iconst (v := 2) hx hb dl_889 (by decide) ?_
  refine lv_iadd hx hb dl_890 ?_
  rw [q_nI2]
  refine va_sld hx hb hX hbl (fun z => by have : s.heap.size ≤ b := z; omega) hS1 (nI_in (by omega) (by omega)) dl_891 ?_
  rw [nI_clamp (show i + 2 < 2 ^ 31 by omega)]
  refine q_ucall (j := 127) (ro := 30) (idx := 154) (as := [.inl (xs (i + 1)), .inl (xs (i + 2))]) (rest := []) (A0 := q_A0 s) ⟨hx, hb, hml, hown, hts⟩ hL.1.1 (by decide) (by decide) rfl hM rfl rfl (q_inAt ll_154 rfl) (by decide +kernel) (by decide +kernel) (by show (cells + 1) ≤ 664929; omega) (by show (slots + 6) ≤ 7101316; omega) (q_J_W hJ1) hS1 (fun q z => hL.2.2.2.2.2 q (Or.inl z)) (fun U hU hWU => q_Law_sta hL hS1 hU hWU) hl.1 rfl (Nat.le_of_ble_eq_true rfl) dl_892 (fun G0 gl0 hG0 gz0 gk0 hSg0 => ?_)
  have hJg0 : va_P D qCl (q_J ad cI cZ cQ aO cL h2 o1) G0 := q_J_mk hG0 (by rw [gk0 aO (Array.getElem?_eq_some_iff.mp (q_J_O hJ1)).1 hL.2.2.2.2.1]; exact q_J_O hJ1)
  refine lv_istore hx hb dl_895 hl (by decide) rfl (fun ls6 hl => ?_)
  have hl : lv_has ls6 7 [(6, .int v), (5, .int k), (0, .ref b), (1, .ref (ad 0)), (2, .ref (ad 30)), (3, .ref aO), (4, .int (nI i))] := hl
  refine lv_aload_n hx hb dl_897 rfl (lv_at hl 4 rfl) ?_
  refine q_ucall (j := 92) (ro := 30) (idx := 94) (as := []) (rest := []) (A0 := q_A0 s) ⟨hx, hb, hml, hown, hts⟩ hL.1.1 (by decide) (by decide) rfl hT rfl rfl (q_inAt ll_94 rfl) (by decide +kernel) (by decide +kernel) (by show (cells + 1) ≤ 664929; omega) (by show (slots + 6) ≤ 7101316; omega) (q_J_W hJg0) hSg0 (fun q z => hL.2.2.2.2.2 q (Or.inl z)) (fun U hU hWU => q_Law_sta hL hSg0 hU hWU) hl.1 rfl (Nat.le_of_ble_eq_true rfl) dl_898 (fun G1 gl1 hG1 gz1 gk1 hSg1 => ?_)
  have hJg1 : va_P D qCl (q_J ad cI cZ cQ aO cL h2 o1) G1 := q_J_mk hG1 (by rw [gk1 aO (Array.getElem?_eq_some_iff.mp (q_J_O hJg0)).1 hL.2.2.2.2.1]; exact q_J_O hJg0)
  refine lv_iload hx hb dl_901 (lv_at hl 1 rfl) ?_
  refine lv_icmp_eq hx hb dl_903 rfl (fun _ => ?_) (fun hc9 => absurd hth hc9)
  refine lv_iload hx hb dl_908 (lv_at hl 1 rfl) ?_
  refine lv_if_ne hx hb dl_910 rfl (fun hk0 => ?_) (fun hk0 => ?_)
  · refine lv_goto hx hb dl_925 rfl ?_
    exact kk _ _ _ (lv_sub hl [2, 3, 4, 5, 6] rfl) hJg1 hSg1
  · have ho := hout hk0
    refine lv_aload_n hx hb dl_913 rfl (lv_at hl 5 rfl) ?_
    refine lv_iconst (v := 0) hx hb dl_914 (by decide) ?_
    refine va_lald (D := D) (cl := qCl) hx hb hL.2.2.1 hJg1 47 0 q_J_47 rfl q_in01 dl_915 ?_
    show W _ _ _ _ _ _ _ _ _ _ _ _ _ _ _ (F0 m _ _ [.long o1])
    rw [ho]
    refine lv_iload hx hb dl_916 (lv_at hl 0 rfl) ?_
    refine lv_i2l (v := v.toInt64) hx hb dl_918 rfl ?_
    refine W.lcmp hx hb dl_919 ?_
    rw [q_cmp0]
    refine lv_if_eq hx hb dl_920 rfl (fun _ => ?_) (fun hc9 => absurd rfl hc9)
    refine lv_goto hx hb dl_925 rfl ?_
    exact kk _ _ _ (lv_sub hl [2, 3, 4, 5, 6] rfl) hJg1 hSg1
theorem ll_157 : lw_tbl[964]? = some (.methodLink "CashRecyclerLaw" 157 (qmY 128)) := by decide +kernel
theorem lc_empty_w : lw_tbl[708]? = some (.methodLink "CashRecyclerLaw" 155 yw_empty) ∧ lw_tbl[709]? = some (.static yw_empty) ∧ lw_tbl[710]? = some (.codeWith yw_empty method_19_code 4 (some .int) [(0, 9, 12, 15), (0, 9, 15, 13)]) ∧ (parseMethodDescriptor yw_empty.desc).map (fun d => d.parameters.length) = some 3 := by decide +kernel
set_option maxHeartbeats 4000000 in
theorem lc_empty {p : Program} {l : Launch} {e : Env} {s : State} {m : MethodId} {below : List Frame} {meth : Method} {c : Code} {H : Heap} {locs : List Loc} {cells slots : Nat} {Q : State → Prop} {D : va_G} {ad : Nat → Nat} {cI cZ cQ cL : ClassId} {aO b Ln i : Nat} {xs : Nat → Int32} {ls : Array Slot} {h h1 h2 : HP} {o o1 : Int64} (hx : p.tables.exec = Jvm.exec) (hb : c.code = code) (hml : c.maxLocals = 7) (hown : s.vm.findClass "CashRecyclerLaw" = some m.cls) (hts : ∀ w ∈ q_WS, w.before #[Value.ref b] s = true) (hX : va_X b Ln xs s s.heap) (hbl : b < s.heap.size) (hL : q_Law D ad cI cZ cQ aO cL s) (hi : i + 2 < Ln) (hLn : Ln ≤ 1536) (hc : cells + 1 ≤ 664929) (hs : slots + 6 ≤ 7101316) (hl : lv_has ls 7 [(0, .ref b), (1, .ref (ad 0)), (2, .ref (ad 30)), (3, .ref aO), (4, .int (nI i))]) (hJ : va_P D qCl (q_J ad cI cZ cQ aO cL h o) H) (hS : va_S (q_A0 s) s.heap H locs) {k : Int32} {v : Int32} (hW : q_MetL l D ad cI cZ cQ aO cL yw_empty ws_empty rw_empty [.ref (ad 0), .int (xs (i + 1)), .ref aO] h o k h1 o1) (hM : Ec 128 [.inr 30, .inl (xs (i + 1))] h1 (.inl (some v), h2)) (hth : h2 30 0 = k) (hT : Ec 92 [.inr 30] h2 (.inl (some (h2 30 0)), h2)) (hout : k = 0 → o1 = v.toInt64) (kk : ∀ (ls' : Array Slot) (H' : Heap) (locs' : List Loc), lv_has ls' 7 [(0, .ref b), (1, .ref (ad 0)), (2, .ref (ad 30)), (3, .ref aO), (4, .int (nI i))] → va_P D qCl (q_J ad cI cZ cQ aO cL h2 o1) H' → va_S (q_A0 s) s.heap H' locs' → W p l e room_1 s m #[Value.ref b] below meth c H' locs' (cells + 1) (slots + 6) Q (F0 m 1214 ls' [])) : W p l e room_1 s m #[Value.ref b] below meth c H locs cells slots Q (F0 m 928 ls []) := by
  refine lv_aload_n hx hb dl_928 rfl (lv_at hl 1 rfl) ?_
  refine lv_aload_n hx hb dl_929 rfl (lv_at hl 0 rfl) ?_
  refine lv_iload hx hb dl_930 (lv_at hl 4 rfl) ?_
  refine lv_iconst (v := 1) hx hb dl_932 (by decide) ?_
  refine lv_iadd hx hb dl_933 ?_
  rw [nI_1]
  refine va_sld hx hb hX hbl (fun z => by have : s.heap.size ≤ b := z; omega) hS (nI_in (by omega) (by omega)) dl_934 ?_
  rw [nI_clamp (show i + 1 < 2 ^ 31 by omega)]
  refine lv_aload_n hx hb dl_935 rfl (lv_at hl 3 rfl) ?_
  refine q_lcall (idx := 155) ⟨hx, hb, hml, hown, hts⟩ hL hW rfl rfl (by decide +kernel) (by decide +kernel) (q_inAt lc_empty_w.2.2.1 rfl) (q_inAt lc_empty_w.2.1 rfl) (q_inAt lc_empty_w.1 rfl) rfl lc_empty_w.2.2.2 hJ hS hc hs hl.1 rfl dl_936 (fun H1 locs1 hJ1 hS1 => ?_)
  refine lv_istore hx hb dl_939 hl (by decide) rfl (fun ls5 hl => ?_)
  have hl : lv_has ls5 7 [(5, .int k), (0, .ref b), (1, .ref (ad 0)), (2, .ref (ad 30)), (3, .ref aO), (4, .int (nI i))] := hl
  refine lv_aload_n hx hb dl_941 rfl (lv_at hl 3 rfl) ?_
  refine lv_aload_n hx hb dl_942 rfl (lv_at hl 1 rfl) ?_
  refine lv_iload hx hb dl_943 (lv_at hl 5 rfl) ?_
  refine lv_iconst (v := 1) hx hb dl_945 (by decide) ?_
  refine lv_iadd hx hb dl_946 ?_
  rw [nI_1]
  refine va_sld hx hb hX hbl (fun z => by have : s.heap.size ≤ b := z; omega) hS1 (nI_in (by omega) (by omega)) dl_947 ?_
  rw [nI_clamp (show i + 1 < 2 ^ 31 by omega)]
  refine q_ucall (j := 128) (ro := 30) (idx := 157) (as := [.inl (xs (i + 1))]) (rest := []) (A0 := q_A0 s) ⟨hx, hb, hml, hown, hts⟩ hL.1.1 (by decide) (by decide) rfl hM rfl rfl (q_inAt ll_157 rfl) (by decide +kernel) (by decide +kernel) (by show (cells + 1) ≤ 664929; omega) (by show (slots + 6) ≤ 7101316; omega) (q_J_W hJ1) hS1 (fun q z => hL.2.2.2.2.2 q (Or.inl z)) (fun U hU hWU => q_Law_sta hL hS1 hU hWU) hl.1 rfl (Nat.le_of_ble_eq_true rfl) dl_948 (fun G0 gl0 hG0 gz0 gk0 hSg0 => ?_)
  have hJg0 : va_P D qCl (q_J ad cI cZ cQ aO cL h2 o1) G0 := q_J_mk hG0 (by rw [gk0 aO (Array.getElem?_eq_some_iff.mp (q_J_O hJ1)).1 hL.2.2.2.2.1]; exact q_J_O hJ1)
  refine lv_istore hx hb dl_951 hl (by decide) rfl (fun ls6 hl => ?_)
  have hl : lv_has ls6 7 [(6, .int v), (5, .int k), (0, .ref b), (1, .ref (ad 0)), (2, .ref (ad 30)), (3, .ref aO), (4, .int (nI i))] := hl
  refine lv_aload_n hx hb dl_953 rfl (lv_at hl 4 rfl) ?_
  refine q_ucall (j := 92) (ro := 30) (idx := 94) (as := []) (rest := []) (A0 := q_A0 s) ⟨hx, hb, hml, hown, hts⟩ hL.1.1 (by decide) (by decide) rfl hT rfl rfl (q_inAt ll_94 rfl) (by decide +kernel) (by decide +kernel) (by show (cells + 1) ≤ 664929; omega) (by show (slots + 6) ≤ 7101316; omega) (q_J_W hJg0) hSg0 (fun q z => hL.2.2.2.2.2 q (Or.inl z)) (fun U hU hWU => q_Law_sta hL hSg0 hU hWU) hl.1 rfl (Nat.le_of_ble_eq_true rfl) dl_954 (fun G1 gl1 hG1 gz1 gk1 hSg1 => ?_)
  have hJg1 : va_P D qCl (q_J ad cI cZ cQ aO cL h2 o1) G1 := q_J_mk hG1 (by rw [gk1 aO (Array.getElem?_eq_some_iff.mp (q_J_O hJg0)).1 hL.2.2.2.2.1]; exact q_J_O hJg0)
  refine lv_iload hx hb dl_957 (lv_at hl 1 rfl) ?_
  refine lv_icmp_eq hx hb dl_959 rfl (fun _ => ?_) (fun hc9 => absurd hth hc9)
  refine lv_iload hx hb dl_964 (lv_at hl 1 rfl) ?_
  refine lv_if_ne hx hb dl_966 rfl (fun hk0 => ?_) (fun hk0 => ?_)
  · refine lv_goto hx hb dl_981 rfl ?_
    exact kk _ _ _ (lv_sub hl [2, 3, 4, 5, 6] rfl) hJg1 hSg1
  · have ho := hout hk0
    refine lv_aload_n hx hb dl_969 rfl (lv_at hl 5 rfl) ?_
    refine lv_iconst (v := 0) hx hb dl_970 (by decide) ?_
    refine va_lald (D := D) (cl := qCl) hx hb hL.2.2.1 hJg1 47 0 q_J_47 rfl q_in01 dl_971 ?_
    show W _ _ _ _ _ _ _ _ _ _ _ _ _ _ _ (F0 m _ _ [.long o1])
    rw [ho]
    refine lv_iload hx hb dl_972 (lv_at hl 0 rfl) ?_
    refine lv_i2l (v := v.toInt64) hx hb dl_974 rfl ?_
    refine W.lcmp hx hb dl_975 ?_
    rw [q_cmp0]
    refine lv_if_eq hx hb dl_976 rfl (fun _ => ?_) (fun hc9 => absurd rfl hc9)
    refine lv_goto hx hb dl_981 rfl ?_
    exact kk _ _ _ (lv_sub hl [2, 3, 4, 5, 6] rfl) hJg1 hSg1
theorem ll_158 : lw_tbl[263]? = some (.methodLink "CashRecyclerLaw" 158 (qmY 86)) := by decide +kernel
theorem ll_161 : lw_tbl[968]? = some (.methodLink "CashRecyclerLaw" 161 (qmY 129)) := by decide +kernel
set_option maxHeartbeats 4000000 in
theorem lc_state {p : Program} {l : Launch} {e : Env} {s : State} {m : MethodId} {below : List Frame} {meth : Method} {c : Code} {H : Heap} {locs : List Loc} {cells slots : Nat} {Q : State → Prop} {D : va_G} {ad : Nat → Nat} {cI cZ cQ cL : ClassId} {aO b Ln i : Nat} {xs : Nat → Int32} {ls : Array Slot} {h h1 h2 : HP} {o o1 : Int64} (hx : p.tables.exec = Jvm.exec) (hb : c.code = code) (hml : c.maxLocals = 7) (hown : s.vm.findClass "CashRecyclerLaw" = some m.cls) (hts : ∀ w ∈ q_WS, w.before #[Value.ref b] s = true) (hX : va_X b Ln xs s s.heap) (hbl : b < s.heap.size) (hL : q_Law D ad cI cZ cQ aO cL s) (hi : i + 2 < Ln) (hLn : Ln ≤ 1536) (hc : cells + 1 ≤ 664929) (hs : slots + 6 ≤ 7101316) (hl : lv_has ls 7 [(0, .ref b), (1, .ref (ad 0)), (2, .ref (ad 30)), (3, .ref aO), (4, .int (nI i))]) (hJ : va_P D qCl (q_J ad cI cZ cQ aO cL h o) H) (hS : va_S (q_A0 s) s.heap H locs) {v : Int32} (hC : Ec 86 [.inr 0] h (.inl (some v), h1)) (hM : Ec 129 [.inr 30] h1 (.inl (some v), h2)) (kk : ∀ (ls' : Array Slot) (H' : Heap) (locs' : List Loc), lv_has ls' 7 [(0, .ref b), (1, .ref (ad 0)), (2, .ref (ad 30)), (3, .ref aO), (4, .int (nI i))] → va_P D qCl (q_J ad cI cZ cQ aO cL h2 o) H' → va_S (q_A0 s) s.heap H' locs' → W p l e room_1 s m #[Value.ref b] below meth c H' locs' (cells + 1) (slots + 6) Q (F0 m 1214 ls' [])) : W p l e room_1 s m #[Value.ref b] below meth c H locs cells slots Q (F0 m 984 ls []) := by
  refine lv_aload_n hx hb dl_984 rfl (lv_at hl 1 rfl) ?_
  refine q_ucall (j := 86) (ro := 0) (idx := 158) (as := []) (rest := []) (A0 := q_A0 s) ⟨hx, hb, hml, hown, hts⟩ hL.1.1 (by decide) (by decide) rfl hC rfl rfl (q_inAt ll_158 rfl) (by decide +kernel) (by decide +kernel) (by show cells ≤ 664929; omega) (by show slots ≤ 7101316; omega) (q_J_W hJ) hS (fun q z => hL.2.2.2.2.2 q (Or.inl z)) (fun U hU hWU => q_Law_sta hL hS hU hWU) hl.1 rfl (Nat.le_of_ble_eq_true rfl) dl_985 (fun G0 gl0 hG0 gz0 gk0 hSg0 => ?_)
  have hJg0 : va_P D qCl (q_J ad cI cZ cQ aO cL h1 o) G0 := q_J_mk hG0 (by rw [gk0 aO (Array.getElem?_eq_some_iff.mp (q_J_O hJ)).1 hL.2.2.2.2.1]; exact q_J_O hJ)
  refine lv_aload_n hx hb dl_988 rfl (lv_at hl 2 rfl) ?_
  refine q_ucall (j := 129) (ro := 30) (idx := 161) (as := []) (rest := [.int v]) (A0 := q_A0 s) ⟨hx, hb, hml, hown, hts⟩ hL.1.1 (by decide) (by decide) rfl hM rfl rfl (q_inAt ll_161 rfl) (by decide +kernel) (by decide +kernel) (by show cells ≤ 664929; omega) (by show slots ≤ 7101316; omega) (q_J_W hJg0) hSg0 (fun q z => hL.2.2.2.2.2 q (Or.inl z)) (fun U hU hWU => q_Law_sta hL hSg0 hU hWU) hl.1 rfl (Nat.le_of_ble_eq_true rfl) dl_989 (fun G1 gl1 hG1 gz1 gk1 hSg1 => ?_)
  have hJg1 : va_P D qCl (q_J ad cI cZ cQ aO cL h2 o) G1 := q_J_mk hG1 (by rw [gk1 aO (Array.getElem?_eq_some_iff.mp (q_J_O hJg0)).1 hL.2.2.2.2.1]; exact q_J_O hJg0)
  refine lv_icmp_eq hx hb dl_992 rfl (fun _ => ?_) (fun hc9 => absurd rfl hc9)
  refine W.widen (k := cells + 1) (n := slots + 6) (by omega) (by omega) ?_
  exact kk _ _ _ hl hJg1 hSg1
theorem ll_164 : lw_tbl[972]? = some (.methodLink "CashRecyclerLaw" 164 (qmY 133)) := by decide +kernel
theorem lc_notes_w : lw_tbl[719]? = some (.methodLink "CashRecyclerLaw" 162 yw_notes) ∧ lw_tbl[720]? = some (.static yw_notes) ∧ lw_tbl[721]? = some (.codeWith yw_notes method_20_code 5 (some .int) [(0, 10, 13, 13)]) ∧ (parseMethodDescriptor yw_notes.desc).map (fun d => d.parameters.length) = some 4 := by decide +kernel
set_option maxHeartbeats 4000000 in
theorem lc_notes {p : Program} {l : Launch} {e : Env} {s : State} {m : MethodId} {below : List Frame} {meth : Method} {c : Code} {H : Heap} {locs : List Loc} {cells slots : Nat} {Q : State → Prop} {D : va_G} {ad : Nat → Nat} {cI cZ cQ cL : ClassId} {aO b Ln i : Nat} {xs : Nat → Int32} {ls : Array Slot} {h h1 h2 : HP} {o o1 : Int64} (hx : p.tables.exec = Jvm.exec) (hb : c.code = code) (hml : c.maxLocals = 7) (hown : s.vm.findClass "CashRecyclerLaw" = some m.cls) (hts : ∀ w ∈ q_WS, w.before #[Value.ref b] s = true) (hX : va_X b Ln xs s s.heap) (hbl : b < s.heap.size) (hL : q_Law D ad cI cZ cQ aO cL s) (hi : i + 2 < Ln) (hLn : Ln ≤ 1536) (hc : cells + 1 ≤ 664929) (hs : slots + 6 ≤ 7101316) (hl : lv_has ls 7 [(0, .ref b), (1, .ref (ad 0)), (2, .ref (ad 30)), (3, .ref aO), (4, .int (nI i))]) (hJ : va_P D qCl (q_J ad cI cZ cQ aO cL h o) H) (hS : va_S (q_A0 s) s.heap H locs) {k : Int32} {v : Int32} (hW : q_MetL l D ad cI cZ cQ aO cL yw_notes ws_notes rw_notes [.ref (ad 0), .int (xs (i + 1)), .int (xs (i + 2)), .ref aO] h o k h1 o1) (hM : Ec 133 [.inr 30, .inl (xs (i + 1)), .inl (xs (i + 2))] h1 (.inl (some v), h2)) (hth : h2 30 0 = k) (hT : Ec 92 [.inr 30] h2 (.inl (some (h2 30 0)), h2)) (hout : k = 0 → o1 = v.toInt64) (kk : ∀ (ls' : Array Slot) (H' : Heap) (locs' : List Loc), lv_has ls' 7 [(0, .ref b), (1, .ref (ad 0)), (2, .ref (ad 30)), (3, .ref aO), (4, .int (nI i))] → va_P D qCl (q_J ad cI cZ cQ aO cL h2 o1) H' → va_S (q_A0 s) s.heap H' locs' → W p l e room_1 s m #[Value.ref b] below meth c H' locs' (cells + 1) (slots + 6) Q (F0 m 1214 ls' [])) : W p l e room_1 s m #[Value.ref b] below meth c H locs cells slots Q (F0 m 997 ls []) := by
  refine lv_aload_n hx hb dl_997 rfl (lv_at hl 1 rfl) ?_
  refine lv_aload_n hx hb dl_998 rfl (lv_at hl 0 rfl) ?_
  refine lv_iload hx hb dl_999 (lv_at hl 4 rfl) ?_
  refine lv_iconst (v := 1) hx hb dl_1001 (by decide) ?_
  refine lv_iadd hx hb dl_1002 ?_
  rw [nI_1]
  refine va_sld hx hb hX hbl (fun z => by have : s.heap.size ≤ b := z; omega) hS (nI_in (by omega) (by omega)) dl_1003 ?_
  rw [nI_clamp (show i + 1 < 2 ^ 31 by omega)]
  refine lv_aload_n hx hb dl_1004 rfl (lv_at hl 0 rfl) ?_
  refine lv_iload hx hb dl_1005 (lv_at hl 4 rfl) ?_
  refine lv_iconst (v := 2) hx hb dl_1007 (by decide) ?_
  refine lv_iadd hx hb dl_1008 ?_
  rw [q_nI2]
  refine va_sld hx hb hX hbl (fun z => by have : s.heap.size ≤ b := z; omega) hS (nI_in (by omega) (by omega)) dl_1009 ?_
  rw [nI_clamp (show i + 2 < 2 ^ 31 by omega)]
  refine lv_aload_n hx hb dl_1010 rfl (lv_at hl 3 rfl) ?_
  refine q_lcall (idx := 162) ⟨hx, hb, hml, hown, hts⟩ hL hW rfl rfl (by decide +kernel) (by decide +kernel) (q_inAt lc_notes_w.2.2.1 rfl) (q_inAt lc_notes_w.2.1 rfl) (q_inAt lc_notes_w.1 rfl) rfl lc_notes_w.2.2.2 hJ hS hc hs hl.1 rfl dl_1011 (fun H1 locs1 hJ1 hS1 => ?_)
  refine lv_istore hx hb dl_1014 hl (by decide) rfl (fun ls5 hl => ?_)
  have hl : lv_has ls5 7 [(5, .int k), (0, .ref b), (1, .ref (ad 0)), (2, .ref (ad 30)), (3, .ref aO), (4, .int (nI i))] := hl
  refine lv_aload_n hx hb dl_1016 rfl (lv_at hl 3 rfl) ?_
  refine lv_aload_n hx hb dl_1017 rfl (lv_at hl 1 rfl) ?_
  refine lv_iload hx hb dl_1018 (lv_at hl 5 rfl) ?_
  refine lv_iconst (v := 1) hx hb dl_1020 (by decide) ?_
  refine lv_iadd hx hb dl_1021 ?_
  rw [nI_1]
  refine va_sld hx hb hX hbl (fun z => by have : s.heap.size ≤ b := z; omega) hS1 (nI_in (by omega) (by omega)) dl_1022 ?_
  rw [nI_clamp (show i + 1 < 2 ^ 31 by omega)]
  refine lv_aload_n hx hb dl_1023 rfl (lv_at hl 1 rfl) ?_
  refine lv_iload hx hb dl_1024 (lv_at hl 5 rfl) ?_
  refine lv_iconst (v := 2) hx hb dl_1026 (by decide) ?_
  refine lv_iadd hx hb dl_1027 ?_
  rw [q_nI2]
  refine va_sld hx hb hX hbl (fun z => by have : s.heap.size ≤ b := z; omega) hS1 (nI_in (by omega) (by omega)) dl_1028 ?_
  rw [nI_clamp (show i + 2 < 2 ^ 31 by omega)]
  refine q_ucall (j := 133) (ro := 30) (idx := 164) (as := [.inl (xs (i + 1)), .inl (xs (i + 2))]) (rest := []) (A0 := q_A0 s) ⟨hx, hb, hml, hown, hts⟩ hL.1.1 (by decide) (by decide) rfl hM rfl rfl (q_inAt ll_164 rfl) (by decide +kernel) (by decide +kernel) (by show (cells + 1) ≤ 664929; omega) (by show (slots + 6) ≤ 7101316; omega) (q_J_W hJ1) hS1 (fun q z => hL.2.2.2.2.2 q (Or.inl z)) (fun U hU hWU => q_Law_sta hL hS1 hU hWU) hl.1 rfl (Nat.le_of_ble_eq_true rfl) dl_1029 (fun G0 gl0 hG0 gz0 gk0 hSg0 => ?_)
  have hJg0 : va_P D qCl (q_J ad cI cZ cQ aO cL h2 o1) G0 := q_J_mk hG0 (by rw [gk0 aO (Array.getElem?_eq_some_iff.mp (q_J_O hJ1)).1 hL.2.2.2.2.1]; exact q_J_O hJ1)
  refine lv_istore hx hb dl_1032 hl (by decide) rfl (fun ls6 hl => ?_)
  have hl : lv_has ls6 7 [(6, .int v), (5, .int k), (0, .ref b), (1, .ref (ad 0)), (2, .ref (ad 30)), (3, .ref aO), (4, .int (nI i))] := hl
  refine lv_aload_n hx hb dl_1034 rfl (lv_at hl 4 rfl) ?_
  refine q_ucall (j := 92) (ro := 30) (idx := 94) (as := []) (rest := []) (A0 := q_A0 s) ⟨hx, hb, hml, hown, hts⟩ hL.1.1 (by decide) (by decide) rfl hT rfl rfl (q_inAt ll_94 rfl) (by decide +kernel) (by decide +kernel) (by show (cells + 1) ≤ 664929; omega) (by show (slots + 6) ≤ 7101316; omega) (q_J_W hJg0) hSg0 (fun q z => hL.2.2.2.2.2 q (Or.inl z)) (fun U hU hWU => q_Law_sta hL hSg0 hU hWU) hl.1 rfl (Nat.le_of_ble_eq_true rfl) dl_1035 (fun G1 gl1 hG1 gz1 gk1 hSg1 => ?_)
  have hJg1 : va_P D qCl (q_J ad cI cZ cQ aO cL h2 o1) G1 := q_J_mk hG1 (by rw [gk1 aO (Array.getElem?_eq_some_iff.mp (q_J_O hJg0)).1 hL.2.2.2.2.1]; exact q_J_O hJg0)
  refine lv_iload hx hb dl_1038 (lv_at hl 1 rfl) ?_
  refine lv_icmp_eq hx hb dl_1040 rfl (fun _ => ?_) (fun hc9 => absurd hth hc9)
  refine lv_iload hx hb dl_1045 (lv_at hl 1 rfl) ?_
  refine lv_if_ne hx hb dl_1047 rfl (fun hk0 => ?_) (fun hk0 => ?_)
  · refine lv_goto hx hb dl_1062 rfl ?_
    exact kk _ _ _ (lv_sub hl [2, 3, 4, 5, 6] rfl) hJg1 hSg1
  · have ho := hout hk0
    refine lv_aload_n hx hb dl_1050 rfl (lv_at hl 5 rfl) ?_
    refine lv_iconst (v := 0) hx hb dl_1051 (by decide) ?_
    refine va_lald (D := D) (cl := qCl) hx hb hL.2.2.1 hJg1 47 0 q_J_47 rfl q_in01 dl_1052 ?_
    show W _ _ _ _ _ _ _ _ _ _ _ _ _ _ _ (F0 m _ _ [.long o1])
    rw [ho]
    refine lv_iload hx hb dl_1053 (lv_at hl 0 rfl) ?_
    refine lv_i2l (v := v.toInt64) hx hb dl_1055 rfl ?_
    refine W.lcmp hx hb dl_1056 ?_
    rw [q_cmp0]
    refine lv_if_eq hx hb dl_1057 rfl (fun _ => ?_) (fun hc9 => absurd rfl hc9)
    refine lv_goto hx hb dl_1062 rfl ?_
    exact kk _ _ _ (lv_sub hl [2, 3, 4, 5, 6] rfl) hJg1 hSg1
theorem ll_167 : lw_tbl[988]? = some (.methodLink "CashRecyclerLaw" 167 (qmY 134)) := by decide +kernel
theorem lc_cassette_w : lw_tbl[726]? = some (.methodLink "CashRecyclerLaw" 165 yw_cassette) ∧ lw_tbl[727]? = some (.static yw_cassette) ∧ lw_tbl[728]? = some (.codeWith yw_cassette method_21_code 5 (some .int) [(0, 10, 13, 13)]) ∧ (parseMethodDescriptor yw_cassette.desc).map (fun d => d.parameters.length) = some 4 := by decide +kernel
set_option maxHeartbeats 4000000 in
theorem lc_cassette {p : Program} {l : Launch} {e : Env} {s : State} {m : MethodId} {below : List Frame} {meth : Method} {c : Code} {H : Heap} {locs : List Loc} {cells slots : Nat} {Q : State → Prop} {D : va_G} {ad : Nat → Nat} {cI cZ cQ cL : ClassId} {aO b Ln i : Nat} {xs : Nat → Int32} {ls : Array Slot} {h h1 h2 : HP} {o o1 : Int64} (hx : p.tables.exec = Jvm.exec) (hb : c.code = code) (hml : c.maxLocals = 7) (hown : s.vm.findClass "CashRecyclerLaw" = some m.cls) (hts : ∀ w ∈ q_WS, w.before #[Value.ref b] s = true) (hX : va_X b Ln xs s s.heap) (hbl : b < s.heap.size) (hL : q_Law D ad cI cZ cQ aO cL s) (hi : i + 2 < Ln) (hLn : Ln ≤ 1536) (hc : cells + 1 ≤ 664929) (hs : slots + 6 ≤ 7101316) (hl : lv_has ls 7 [(0, .ref b), (1, .ref (ad 0)), (2, .ref (ad 30)), (3, .ref aO), (4, .int (nI i))]) (hJ : va_P D qCl (q_J ad cI cZ cQ aO cL h o) H) (hS : va_S (q_A0 s) s.heap H locs) {k : Int32} {v : Int32} (hW : q_MetL l D ad cI cZ cQ aO cL yw_cassette ws_cassette rw_cassette [.ref (ad 0), .int (xs (i + 1)), .int (xs (i + 2)), .ref aO] h o k h1 o1) (hM : Ec 134 [.inr 30, .inl (xs (i + 1)), .inl (xs (i + 2))] h1 (.inl (some v), h2)) (hth : h2 30 0 = k) (hT : Ec 92 [.inr 30] h2 (.inl (some (h2 30 0)), h2)) (hout : k = 0 → o1 = v.toInt64) (kk : ∀ (ls' : Array Slot) (H' : Heap) (locs' : List Loc), lv_has ls' 7 [(0, .ref b), (1, .ref (ad 0)), (2, .ref (ad 30)), (3, .ref aO), (4, .int (nI i))] → va_P D qCl (q_J ad cI cZ cQ aO cL h2 o1) H' → va_S (q_A0 s) s.heap H' locs' → W p l e room_1 s m #[Value.ref b] below meth c H' locs' (cells + 1) (slots + 6) Q (F0 m 1214 ls' [])) : W p l e room_1 s m #[Value.ref b] below meth c H locs cells slots Q (F0 m 1065 ls []) := by
  refine lv_aload_n hx hb dl_1065 rfl (lv_at hl 1 rfl) ?_
  refine lv_aload_n hx hb dl_1066 rfl (lv_at hl 0 rfl) ?_
  refine lv_iload hx hb dl_1067 (lv_at hl 4 rfl) ?_
  refine lv_iconst (v := 1) hx hb dl_1069 (by decide) ?_
  refine lv_iadd hx hb dl_1070 ?_
  rw [nI_1]
  refine va_sld hx hb hX hbl (fun z => by have : s.heap.size ≤ b := z; omega) hS (nI_in (by omega) (by omega)) dl_1071 ?_
  rw [nI_clamp (show i + 1 < 2 ^ 31 by omega)]
  refine lv_aload_n hx hb dl_1072 rfl (lv_at hl 0 rfl) ?_
  refine lv_iload hx hb dl_1073 (lv_at hl 4 rfl) ?_
  refine lv_iconst (v := 2) hx hb dl_1075 (by decide) ?_
  refine lv_iadd hx hb dl_1076 ?_
  rw [q_nI2]
  refine va_sld hx hb hX hbl (fun z => by have : s.heap.size ≤ b := z; omega) hS (nI_in (by omega) (by omega)) dl_1077 ?_
  rw [nI_clamp (show i + 2 < 2 ^ 31 by omega)]
  refine lv_aload_n hx hb dl_1078 rfl (lv_at hl 3 rfl) ?_
  refine q_lcall (idx := 165) ⟨hx, hb, hml, hown, hts⟩ hL hW rfl rfl (by decide +kernel) (by decide +kernel) (q_inAt lc_cassette_w.2.2.1 rfl) (q_inAt lc_cassette_w.2.1 rfl) (q_inAt lc_cassette_w.1 rfl) rfl lc_cassette_w.2.2.2 hJ hS hc hs hl.1 rfl dl_1079 (fun H1 locs1 hJ1 hS1 => ?_)
  refine lv_istore hx hb dl_1082 hl (by decide) rfl (fun ls5 hl => ?_)
  have hl : lv_has ls5 7 [(5, .int k), (0, .ref b), (1, .ref (ad 0)), (2, .ref (ad 30)), (3, .ref aO), (4, .int (nI i))] := hl
  refine lv_aload_n hx hb dl_1084 rfl (lv_at hl 3 rfl) ?_
  refine lv_aload_n hx hb dl_1085 rfl (lv_at hl 1 rfl) ?_
  refine lv_iload hx hb dl_1086 (lv_at hl 5 rfl) ?_
  refine lv_iconst (v := 1) hx hb dl_1088 (by decide) ?_
  refine lv_iadd hx hb dl_1089 ?_
  rw [nI_1]
  refine va_sld hx hb hX hbl (fun z => by have : s.heap.size ≤ b := z; omega) hS1 (nI_in (by omega) (by omega)) dl_1090 ?_
  rw [nI_clamp (show i + 1 < 2 ^ 31 by omega)]
  refine lv_aload_n hx hb dl_1091 rfl (lv_at hl 1 rfl) ?_
  refine lv_iload hx hb dl_1092 (lv_at hl 5 rfl) ?_
  refine lv_iconst (v := 2) hx hb dl_1094 (by decide) ?_
  refine lv_iadd hx hb dl_1095 ?_
  rw [q_nI2]
  refine va_sld hx hb hX hbl (fun z => by have : s.heap.size ≤ b := z; omega) hS1 (nI_in (by omega) (by omega)) dl_1096 ?_
  rw [nI_clamp (show i + 2 < 2 ^ 31 by omega)]
  refine q_ucall (j := 134) (ro := 30) (idx := 167) (as := [.inl (xs (i + 1)), .inl (xs (i + 2))]) (rest := []) (A0 := q_A0 s) ⟨hx, hb, hml, hown, hts⟩ hL.1.1 (by decide) (by decide) rfl hM rfl rfl (q_inAt ll_167 rfl) (by decide +kernel) (by decide +kernel) (by show (cells + 1) ≤ 664929; omega) (by show (slots + 6) ≤ 7101316; omega) (q_J_W hJ1) hS1 (fun q z => hL.2.2.2.2.2 q (Or.inl z)) (fun U hU hWU => q_Law_sta hL hS1 hU hWU) hl.1 rfl (Nat.le_of_ble_eq_true rfl) dl_1097 (fun G0 gl0 hG0 gz0 gk0 hSg0 => ?_)
  have hJg0 : va_P D qCl (q_J ad cI cZ cQ aO cL h2 o1) G0 := q_J_mk hG0 (by rw [gk0 aO (Array.getElem?_eq_some_iff.mp (q_J_O hJ1)).1 hL.2.2.2.2.1]; exact q_J_O hJ1)
  refine lv_istore hx hb dl_1100 hl (by decide) rfl (fun ls6 hl => ?_)
  have hl : lv_has ls6 7 [(6, .int v), (5, .int k), (0, .ref b), (1, .ref (ad 0)), (2, .ref (ad 30)), (3, .ref aO), (4, .int (nI i))] := hl
  refine lv_aload_n hx hb dl_1102 rfl (lv_at hl 4 rfl) ?_
  refine q_ucall (j := 92) (ro := 30) (idx := 94) (as := []) (rest := []) (A0 := q_A0 s) ⟨hx, hb, hml, hown, hts⟩ hL.1.1 (by decide) (by decide) rfl hT rfl rfl (q_inAt ll_94 rfl) (by decide +kernel) (by decide +kernel) (by show (cells + 1) ≤ 664929; omega) (by show (slots + 6) ≤ 7101316; omega) (q_J_W hJg0) hSg0 (fun q z => hL.2.2.2.2.2 q (Or.inl z)) (fun U hU hWU => q_Law_sta hL hSg0 hU hWU) hl.1 rfl (Nat.le_of_ble_eq_true rfl) dl_1103 (fun G1 gl1 hG1 gz1 gk1 hSg1 => ?_)
  have hJg1 : va_P D qCl (q_J ad cI cZ cQ aO cL h2 o1) G1 := q_J_mk hG1 (by rw [gk1 aO (Array.getElem?_eq_some_iff.mp (q_J_O hJg0)).1 hL.2.2.2.2.1]; exact q_J_O hJg0)
  refine lv_iload hx hb dl_1106 (lv_at hl 1 rfl) ?_
  refine lv_icmp_eq hx hb dl_1108 rfl (fun _ => ?_) (fun hc9 => absurd hth hc9)
  refine lv_iload hx hb dl_1113 (lv_at hl 1 rfl) ?_
  refine lv_if_ne hx hb dl_1115 rfl (fun hk0 => ?_) (fun hk0 => ?_)
  · refine lv_goto hx hb dl_1130 rfl ?_
    exact kk _ _ _ (lv_sub hl [2, 3, 4, 5, 6] rfl) hJg1 hSg1
  · have ho := hout hk0
    refine lv_aload_n hx hb dl_1118 rfl (lv_at hl 5 rfl) ?_
    refine lv_iconst (v := 0) hx hb dl_1119 (by decide) ?_
    refine va_lald (D := D) (cl := qCl) hx hb hL.2.2.1 hJg1 47 0 q_J_47 rfl q_in01 dl_1120 ?_
    show W _ _ _ _ _ _ _ _ _ _ _ _ _ _ _ (F0 m _ _ [.long o1])
    rw [ho]
    refine lv_iload hx hb dl_1121 (lv_at hl 0 rfl) ?_
    refine lv_i2l (v := v.toInt64) hx hb dl_1123 rfl ?_
    refine W.lcmp hx hb dl_1124 ?_
    rw [q_cmp0]
    refine lv_if_eq hx hb dl_1125 rfl (fun _ => ?_) (fun hc9 => absurd rfl hc9)
    refine lv_goto hx hb dl_1130 rfl ?_
    exact kk _ _ _ (lv_sub hl [2, 3, 4, 5, 6] rfl) hJg1 hSg1
theorem ll_170 : lw_tbl[992]? = some (.methodLink "CashRecyclerLaw" 170 (qmY 135)) := by decide +kernel
theorem lc_belt_w : lw_tbl[733]? = some (.methodLink "CashRecyclerLaw" 168 yw_belt) ∧ lw_tbl[734]? = some (.static yw_belt) ∧ lw_tbl[735]? = some (.codeWith yw_belt method_22_code 5 (some .int) [(0, 10, 13, 13)]) ∧ (parseMethodDescriptor yw_belt.desc).map (fun d => d.parameters.length) = some 4 := by decide +kernel
set_option maxHeartbeats 4000000 in
theorem lc_belt {p : Program} {l : Launch} {e : Env} {s : State} {m : MethodId} {below : List Frame} {meth : Method} {c : Code} {H : Heap} {locs : List Loc} {cells slots : Nat} {Q : State → Prop} {D : va_G} {ad : Nat → Nat} {cI cZ cQ cL : ClassId} {aO b Ln i : Nat} {xs : Nat → Int32} {ls : Array Slot} {h h1 h2 : HP} {o o1 : Int64} (hx : p.tables.exec = Jvm.exec) (hb : c.code = code) (hml : c.maxLocals = 7) (hown : s.vm.findClass "CashRecyclerLaw" = some m.cls) (hts : ∀ w ∈ q_WS, w.before #[Value.ref b] s = true) (hX : va_X b Ln xs s s.heap) (hbl : b < s.heap.size) (hL : q_Law D ad cI cZ cQ aO cL s) (hi : i + 2 < Ln) (hLn : Ln ≤ 1536) (hc : cells + 1 ≤ 664929) (hs : slots + 6 ≤ 7101316) (hl : lv_has ls 7 [(0, .ref b), (1, .ref (ad 0)), (2, .ref (ad 30)), (3, .ref aO), (4, .int (nI i))]) (hJ : va_P D qCl (q_J ad cI cZ cQ aO cL h o) H) (hS : va_S (q_A0 s) s.heap H locs) {k : Int32} {v : Int32} (hW : q_MetL l D ad cI cZ cQ aO cL yw_belt ws_belt rw_belt [.ref (ad 0), .int (xs (i + 1)), .int (xs (i + 2)), .ref aO] h o k h1 o1) (hM : Ec 135 [.inr 30, .inl (xs (i + 1)), .inl (xs (i + 2))] h1 (.inl (some v), h2)) (hth : h2 30 0 = k) (hT : Ec 92 [.inr 30] h2 (.inl (some (h2 30 0)), h2)) (hout : k = 0 → o1 = v.toInt64) (kk : ∀ (ls' : Array Slot) (H' : Heap) (locs' : List Loc), lv_has ls' 7 [(0, .ref b), (1, .ref (ad 0)), (2, .ref (ad 30)), (3, .ref aO), (4, .int (nI i))] → va_P D qCl (q_J ad cI cZ cQ aO cL h2 o1) H' → va_S (q_A0 s) s.heap H' locs' → W p l e room_1 s m #[Value.ref b] below meth c H' locs' (cells + 1) (slots + 6) Q (F0 m 1214 ls' [])) : W p l e room_1 s m #[Value.ref b] below meth c H locs cells slots Q (F0 m 1133 ls []) := by
  refine lv_aload_n hx hb dl_1133 rfl (lv_at hl 1 rfl) ?_
  refine lv_aload_n hx hb dl_1134 rfl (lv_at hl 0 rfl) ?_
  refine lv_iload hx hb dl_1135 (lv_at hl 4 rfl) ?_
  refine lv_iconst (v := 1) hx hb dl_1137 (by decide) ?_
  refine lv_iadd hx hb dl_1138 ?_
  rw [nI_1]
  refine va_sld hx hb hX hbl (fun z => by have : s.heap.size ≤ b := z; omega) hS (nI_in (by omega) (by omega)) dl_1139 ?_
  rw [nI_clamp (show i + 1 < 2 ^ 31 by omega)]
  refine lv_aload_n hx hb dl_1140 rfl (lv_at hl 0 rfl) ?_
  refine lv_iload hx hb dl_1141 (lv_at hl 4 rfl) ?_
  refine lv_iconst (v := 2) hx hb dl_1143 (by decide) ?_
  refine lv_iadd hx hb dl_1144 ?_
  rw [q_nI2]
  refine va_sld hx hb hX hbl (fun z => by have : s.heap.size ≤ b := z; omega) hS (nI_in (by omega) (by omega)) dl_1145 ?_
  rw [nI_clamp (show i + 2 < 2 ^ 31 by omega)]
  refine lv_aload_n hx hb dl_1146 rfl (lv_at hl 3 rfl) ?_
  refine q_lcall (idx := 168) ⟨hx, hb, hml, hown, hts⟩ hL hW rfl rfl (by decide +kernel) (by decide +kernel) (q_inAt lc_belt_w.2.2.1 rfl) (q_inAt lc_belt_w.2.1 rfl) (q_inAt lc_belt_w.1 rfl) rfl lc_belt_w.2.2.2 hJ hS hc hs hl.1 rfl dl_1147 (fun H1 locs1 hJ1 hS1 => ?_)
  refine lv_istore hx hb dl_1150 hl (by decide) rfl (fun ls5 hl => ?_)
  have hl : lv_has ls5 7 [(5, .int k), (0, .ref b), (1, .ref (ad 0)), (2, .ref (ad 30)), (3, .ref aO), (4, .int (nI i))] := hl
  refine lv_aload_n hx hb dl_1152 rfl (lv_at hl 3 rfl) ?_
  refine lv_aload_n hx hb dl_1153 rfl (lv_at hl 1 rfl) ?_
  refine lv_iload hx hb dl_1154 (lv_at hl 5 rfl) ?_
  refine lv_iconst (v := 1) hx hb dl_1156 (by decide) ?_
  refine lv_iadd hx hb dl_1157 ?_
  rw [nI_1]
  refine va_sld hx hb hX hbl (fun z => by have : s.heap.size ≤ b := z; omega) hS1 (nI_in (by omega) (by omega)) dl_1158 ?_
  rw [nI_clamp (show i + 1 < 2 ^ 31 by omega)]
  refine lv_aload_n hx hb dl_1159 rfl (lv_at hl 1 rfl) ?_
  refine lv_iload hx hb dl_1160 (lv_at hl 5 rfl) ?_
  refine lv_iconst (v := 2) hx hb dl_1162 (by decide) ?_
  refine lv_iadd hx hb dl_1163 ?_
  rw [q_nI2]
  refine va_sld hx hb hX hbl (fun z => by have : s.heap.size ≤ b := z; omega) hS1 (nI_in (by omega) (by omega)) dl_1164 ?_
  rw [nI_clamp (show i + 2 < 2 ^ 31 by omega)]
  refine q_ucall (j := 135) (ro := 30) (idx := 170) (as := [.inl (xs (i + 1)), .inl (xs (i + 2))]) (rest := []) (A0 := q_A0 s) ⟨hx, hb, hml, hown, hts⟩ hL.1.1 (by decide) (by decide) rfl hM rfl rfl (q_inAt ll_170 rfl) (by decide +kernel) (by decide +kernel) (by show (cells + 1) ≤ 664929; omega) (by show (slots + 6) ≤ 7101316; omega) (q_J_W hJ1) hS1 (fun q z => hL.2.2.2.2.2 q (Or.inl z)) (fun U hU hWU => q_Law_sta hL hS1 hU hWU) hl.1 rfl (Nat.le_of_ble_eq_true rfl) dl_1165 (fun G0 gl0 hG0 gz0 gk0 hSg0 => ?_)
  have hJg0 : va_P D qCl (q_J ad cI cZ cQ aO cL h2 o1) G0 := q_J_mk hG0 (by rw [gk0 aO (Array.getElem?_eq_some_iff.mp (q_J_O hJ1)).1 hL.2.2.2.2.1]; exact q_J_O hJ1)
  refine lv_istore hx hb dl_1168 hl (by decide) rfl (fun ls6 hl => ?_)
  have hl : lv_has ls6 7 [(6, .int v), (5, .int k), (0, .ref b), (1, .ref (ad 0)), (2, .ref (ad 30)), (3, .ref aO), (4, .int (nI i))] := hl
  refine lv_aload_n hx hb dl_1170 rfl (lv_at hl 4 rfl) ?_
  refine q_ucall (j := 92) (ro := 30) (idx := 94) (as := []) (rest := []) (A0 := q_A0 s) ⟨hx, hb, hml, hown, hts⟩ hL.1.1 (by decide) (by decide) rfl hT rfl rfl (q_inAt ll_94 rfl) (by decide +kernel) (by decide +kernel) (by show (cells + 1) ≤ 664929; omega) (by show (slots + 6) ≤ 7101316; omega) (q_J_W hJg0) hSg0 (fun q z => hL.2.2.2.2.2 q (Or.inl z)) (fun U hU hWU => q_Law_sta hL hSg0 hU hWU) hl.1 rfl (Nat.le_of_ble_eq_true rfl) dl_1171 (fun G1 gl1 hG1 gz1 gk1 hSg1 => ?_)
  have hJg1 : va_P D qCl (q_J ad cI cZ cQ aO cL h2 o1) G1 := q_J_mk hG1 (by rw [gk1 aO (Array.getElem?_eq_some_iff.mp (q_J_O hJg0)).1 hL.2.2.2.2.1]; exact q_J_O hJg0)
  refine lv_iload hx hb dl_1174 (lv_at hl 1 rfl) ?_
  refine lv_icmp_eq hx hb dl_1176 rfl (fun _ => ?_) (fun hc9 => absurd hth hc9)
  refine lv_iload hx hb dl_1181 (lv_at hl 1 rfl) ?_
  refine lv_if_ne hx hb dl_1183 rfl (fun hk0 => ?_) (fun hk0 => ?_)
  · refine lv_goto hx hb dl_1198 rfl ?_
    exact kk _ _ _ (lv_sub hl [2, 3, 4, 5, 6] rfl) hJg1 hSg1
  · have ho := hout hk0
    refine lv_aload_n hx hb dl_1186 rfl (lv_at hl 5 rfl) ?_
    refine lv_iconst (v := 0) hx hb dl_1187 (by decide) ?_
    refine va_lald (D := D) (cl := qCl) hx hb hL.2.2.1 hJg1 47 0 q_J_47 rfl q_in01 dl_1188 ?_
    show W _ _ _ _ _ _ _ _ _ _ _ _ _ _ _ (F0 m _ _ [.long o1])
    rw [ho]
    refine lv_iload hx hb dl_1189 (lv_at hl 0 rfl) ?_
    refine lv_i2l (v := v.toInt64) hx hb dl_1191 rfl ?_
    refine W.lcmp hx hb dl_1192 ?_
    rw [q_cmp0]
    refine lv_if_eq hx hb dl_1193 rfl (fun _ => ?_) (fun hc9 => absurd rfl hc9)
    refine lv_goto hx hb dl_1198 rfl ?_
    exact kk _ _ _ (lv_sub hl [2, 3, 4, 5, 6] rfl) hJg1 hSg1
theorem ll_171 : lw_tbl[267]? = some (.methodLink "CashRecyclerLaw" 171 (qmY 91)) := by decide +kernel
theorem ll_174 : lw_tbl[996]? = some (.methodLink "CashRecyclerLaw" 174 (qmY 136)) := by decide +kernel
set_option maxHeartbeats 4000000 in
theorem lc_balance {p : Program} {l : Launch} {e : Env} {s : State} {m : MethodId} {below : List Frame} {meth : Method} {c : Code} {H : Heap} {locs : List Loc} {cells slots : Nat} {Q : State → Prop} {D : va_G} {ad : Nat → Nat} {cI cZ cQ cL : ClassId} {aO b Ln i : Nat} {xs : Nat → Int32} {ls : Array Slot} {h h1 h2 : HP} {o o1 : Int64} (hx : p.tables.exec = Jvm.exec) (hb : c.code = code) (hml : c.maxLocals = 7) (hown : s.vm.findClass "CashRecyclerLaw" = some m.cls) (hts : ∀ w ∈ q_WS, w.before #[Value.ref b] s = true) (hX : va_X b Ln xs s s.heap) (hbl : b < s.heap.size) (hL : q_Law D ad cI cZ cQ aO cL s) (hi : i + 2 < Ln) (hLn : Ln ≤ 1536) (hc : cells + 1 ≤ 664929) (hs : slots + 6 ≤ 7101316) (hl : lv_has ls 7 [(0, .ref b), (1, .ref (ad 0)), (2, .ref (ad 30)), (3, .ref aO), (4, .int (nI i))]) (hJ : va_P D qCl (q_J ad cI cZ cQ aO cL h o) H) (hS : va_S (q_A0 s) s.heap H locs) {v : Int32} (hC : Ec 91 [.inr 0] h (.inl (some v), h1)) (hM : Ec 136 [.inr 30] h1 (.inl (some v), h2)) (kk : ∀ (ls' : Array Slot) (H' : Heap) (locs' : List Loc), lv_has ls' 7 [(0, .ref b), (1, .ref (ad 0)), (2, .ref (ad 30)), (3, .ref aO), (4, .int (nI i))] → va_P D qCl (q_J ad cI cZ cQ aO cL h2 o) H' → va_S (q_A0 s) s.heap H' locs' → W p l e room_1 s m #[Value.ref b] below meth c H' locs' (cells + 1) (slots + 6) Q (F0 m 1214 ls' [])) : W p l e room_1 s m #[Value.ref b] below meth c H locs cells slots Q (F0 m 1201 ls []) := by
  refine lv_aload_n hx hb dl_1201 rfl (lv_at hl 1 rfl) ?_
  refine q_ucall (j := 91) (ro := 0) (idx := 171) (as := []) (rest := []) (A0 := q_A0 s) ⟨hx, hb, hml, hown, hts⟩ hL.1.1 (by decide) (by decide) rfl hC rfl rfl (q_inAt ll_171 rfl) (by decide +kernel) (by decide +kernel) (by show cells ≤ 664929; omega) (by show slots ≤ 7101316; omega) (q_J_W hJ) hS (fun q z => hL.2.2.2.2.2 q (Or.inl z)) (fun U hU hWU => q_Law_sta hL hS hU hWU) hl.1 rfl (Nat.le_of_ble_eq_true rfl) dl_1202 (fun G0 gl0 hG0 gz0 gk0 hSg0 => ?_)
  have hJg0 : va_P D qCl (q_J ad cI cZ cQ aO cL h1 o) G0 := q_J_mk hG0 (by rw [gk0 aO (Array.getElem?_eq_some_iff.mp (q_J_O hJ)).1 hL.2.2.2.2.1]; exact q_J_O hJ)
  refine lv_aload_n hx hb dl_1205 rfl (lv_at hl 2 rfl) ?_
  refine q_ucall (j := 136) (ro := 30) (idx := 174) (as := []) (rest := [.int v]) (A0 := q_A0 s) ⟨hx, hb, hml, hown, hts⟩ hL.1.1 (by decide) (by decide) rfl hM rfl rfl (q_inAt ll_174 rfl) (by decide +kernel) (by decide +kernel) (by show cells ≤ 664929; omega) (by show slots ≤ 7101316; omega) (q_J_W hJg0) hSg0 (fun q z => hL.2.2.2.2.2 q (Or.inl z)) (fun U hU hWU => q_Law_sta hL hSg0 hU hWU) hl.1 rfl (Nat.le_of_ble_eq_true rfl) dl_1206 (fun G1 gl1 hG1 gz1 gk1 hSg1 => ?_)
  have hJg1 : va_P D qCl (q_J ad cI cZ cQ aO cL h2 o) G1 := q_J_mk hG1 (by rw [gk1 aO (Array.getElem?_eq_some_iff.mp (q_J_O hJg0)).1 hL.2.2.2.2.1]; exact q_J_O hJg0)
  refine lv_icmp_eq hx hb dl_1209 rfl (fun _ => ?_) (fun hc9 => absurd rfl hc9)
  refine W.widen (k := cells + 1) (n := slots + 6) (by omega) (by omega) ?_
  exact kk _ _ _ hl hJg1 hSg1
end
section
/-! THE LAW'S LOOP, over an invariant of the pure heap and what each call comes to (written by wip/whole/gen_loop.py). -/
theorem m_thrown (h : HP) : Ec 92 [.inr 30] h (.inl (some (h 30 0)), h) := by
  unfold Ec
  refine e_st rfl rfl ?_
  refine e_st rfl rfl ?_
  exact e_end rfl rfl
/-- a call that may throw: class and reference come to the same, or both say which exception -/
def q_opW (I : HP → Prop) (jC jM : Nat) (cs : List Nat) (vf : Bool) (as : List PV) : Prop := ∀ h, I h →
  (∃ (v : Option Int32) (h1 h2 : HP), v.isSome = vf ∧ Ec jC (.inr 0 :: as) h (.inl v, h1) ∧ Ec jM (.inr 30 :: as) h1 (.inl v, h2) ∧ h2 30 0 = 0 ∧ I h2) ∨
  (∃ (t x : Nat) (v : Option Int32) (h1 h2 : HP), cs[t]? = some x ∧ v.isSome = vf ∧ Ec jC (.inr 0 :: as) h (.inr x, h1) ∧ Ec jM (.inr 30 :: as) h1 (.inl v, h2) ∧ h2 30 0 = nI (t + 1) ∧ I h2)
/-- the same of methods whose answer is a truth value -/
def q_opZ (I : HP → Prop) (jC jM : Nat) (cs : List Nat) (as : List PV) : Prop := ∀ h, I h →
  (∃ (v : Int32) (h1 h2 : HP), Ec jC (.inr 0 :: as) h (.inl (some v), h1) ∧ Ec jM (.inr 30 :: as) h1 (.inl (some v), h2) ∧ h2 30 0 = 0 ∧ I h2) ∨
  (∃ (t x : Nat) (v : Int32) (h1 h2 : HP), cs[t]? = some x ∧ Ec jC (.inr 0 :: as) h (.inr x, h1) ∧ Ec jM (.inr 30 :: as) h1 (.inl (some v), h2) ∧ h2 30 0 = nI (t + 1) ∧ I h2)
def q_opD (I : HP → Prop) (jC jM : Nat) : Prop := ∀ h, I h → ∃ (v : Int32) (h1 h2 : HP), Ec jC [.inr 0] h (.inl (some v), h1) ∧ Ec jM [.inr 30] h1 (.inl (some v), h2) ∧ I h2
theorem q_some {v : Option Int32} (h : v.isSome = true) : ∃ x, v = some x := by cases v with
  | none => cases h
  | some x => exact ⟨x, rfl⟩
theorem q_none {v : Option Int32} (h : v.isSome = false) : v = none := by cases v with
  | none => rfl
  | some x => cases h
/-- what is to be shown of the class and the reference, call by call -/
def q_All (I : HP → Prop) : Prop :=
  (∀ a : Int32, q_opW I 44 96 [0, 1] true [.inl a]) ∧
  (∀ a : Int32, q_opW I 45 97 [0, 1] true [.inl a]) ∧
  (q_opW I 47 98 [1] false []) ∧
  (q_opW I 48 99 [1] false []) ∧
  (q_opW I 49 100 [1] false []) ∧
  (∀ a : Int32, q_opW I 51 104 [0, 1, 2] true [.inl a]) ∧
  (∀ a b : Int32, q_opW I 53 105 [0] true [.inl a, .inl b]) ∧
  (∀ a : Int32, q_opW I 68 114 [0] true [.inl a]) ∧
  q_opD I 69 115 ∧
  (∀ a : Int32, q_opW I 71 116 [0, 3] false [.inl a]) ∧
  (q_opW I 72 117 [1] false []) ∧
  (∀ a : Int32, q_opW I 73 118 [1, 0, 3] true [.inl a]) ∧
  (∀ a : Int32, q_opZ I 74 119 [1, 0] [.inl a]) ∧
  (q_opW I 78 123 [1] true []) ∧
  q_opD I 80 124 ∧
  (q_opZ I 81 125 [1] []) ∧
  (∀ a b : Int32, q_opW I 82 126 [1, 0, 2] false [.inl a, .inl b]) ∧
  (∀ a b : Int32, q_opW I 83 127 [1, 0] true [.inl a, .inl b]) ∧
  (∀ a : Int32, q_opW I 85 128 [1, 0] true [.inl a]) ∧
  q_opD I 86 129 ∧
  (∀ a b : Int32, q_opW I 88 133 [0] true [.inl a, .inl b]) ∧
  (∀ a b : Int32, q_opW I 89 134 [0] true [.inl a, .inl b]) ∧
  (∀ a b : Int32, q_opW I 90 135 [0] true [.inl a, .inl b]) ∧
  q_opD I 91 136
theorem lk_insert {p : Program} {l : Launch} {e : Env} {s : State} {m : MethodId} {below : List Frame} {meth : Method} {c : Code} {H : Heap} {locs : List Loc} {cells slots : Nat} {Q : State → Prop} {D : va_G} {ad : Nat → Nat} {cI cZ cQ cL : ClassId} {aO b Ln i : Nat} {xs : Nat → Int32} {ls : Array Slot} {h : HP} {o : Int64} {I : HP → Prop} (hfl : ∀ e : Env, l.admits e → e.platform.stackTraces = false) (hx : p.tables.exec = Jvm.exec) (hb : c.code = code) (hml : c.maxLocals = 7) (hown : s.vm.findClass "CashRecyclerLaw" = some m.cls) (hts : ∀ w ∈ q_WS, w.before #[Value.ref b] s = true) (hX : va_X b Ln xs s s.heap) (hbl : b < s.heap.size) (hL : q_Law D ad cI cZ cQ aO cL s) (hi : i + 2 < Ln) (hLn : Ln ≤ 1536) (hc : cells + 1 ≤ 664929) (hs : slots + 6 ≤ 7101316) (hl : lv_has ls 7 [(0, .ref b), (1, .ref (ad 0)), (2, .ref (ad 30)), (3, .ref aO), (4, .int (nI i))]) (hJ : va_P D qCl (q_J ad cI cZ cQ aO cL h o) H) (hS : va_S (q_A0 s) s.heap H locs) (hI : I h) (hop : q_opW I 44 96 [0, 1] true [.inl (xs (i + 1))]) (kk : ∀ (h' : HP) (o' : Int64) (ls' : Array Slot) (H' : Heap) (locs' : List Loc), I h' → lv_has ls' 7 [(0, .ref b), (1, .ref (ad 0)), (2, .ref (ad 30)), (3, .ref aO), (4, .int (nI i))] → va_P D qCl (q_J ad cI cZ cQ aO cL h' o') H' → va_S (q_A0 s) s.heap H' locs' → W p l e room_1 s m #[Value.ref b] below meth c H' locs' (cells + 1) (slots + 6) Q (F0 m 1214 ls' [])) : W p l e room_1 s m #[Value.ref b] below meth c H locs cells slots Q (F0 m 148 ls []) := by
  rcases hop h hI with ⟨v, h1, h2, hv, hC, hM, hth, hI2⟩ | ⟨t, x, v, h1, h2, ht, hv, hC, hM, hth, hI2⟩
  · obtain ⟨v, rfl⟩ := q_some hv
    exact lc_insert (o1 := v.toInt64) hx hb hml hown hts hX hbl hL hi hLn hc hs hl hJ hS (w_insert_r hC) hM hth (m_thrown h2) (fun _ => rfl) (fun ls' H' locs' z1 z2 z3 => kk h2 _ ls' H' locs' hI2 z1 z2 z3)
  · obtain ⟨v, rfl⟩ := q_some hv
    rcases t with _ | _ | t
    · cases ht
      exact lc_insert (o1 := o) (k := 1) hx hb hml hown hts hX hbl hL hi hLn hc hs hl hJ hS (w_insert_t0 hfl hC) hM hth (m_thrown h2) (fun z => absurd z (by decide)) (fun ls' H' locs' z1 z2 z3 => kk h2 _ ls' H' locs' hI2 z1 z2 z3)
    · cases ht
      exact lc_insert (o1 := o) (k := 2) hx hb hml hown hts hX hbl hL hi hLn hc hs hl hJ hS (w_insert_t1 hfl hC) hM hth (m_thrown h2) (fun z => absurd z (by decide)) (fun ls' H' locs' z1 z2 z3 => kk h2 _ ls' H' locs' hI2 z1 z2 z3)
    · cases ht
theorem lk_verdict {p : Program} {l : Launch} {e : Env} {s : State} {m : MethodId} {below : List Frame} {meth : Method} {c : Code} {H : Heap} {locs : List Loc} {cells slots : Nat} {Q : State → Prop} {D : va_G} {ad : Nat → Nat} {cI cZ cQ cL : ClassId} {aO b Ln i : Nat} {xs : Nat → Int32} {ls : Array Slot} {h : HP} {o : Int64} {I : HP → Prop} (hfl : ∀ e : Env, l.admits e → e.platform.stackTraces = false) (hx : p.tables.exec = Jvm.exec) (hb : c.code = code) (hml : c.maxLocals = 7) (hown : s.vm.findClass "CashRecyclerLaw" = some m.cls) (hts : ∀ w ∈ q_WS, w.before #[Value.ref b] s = true) (hX : va_X b Ln xs s s.heap) (hbl : b < s.heap.size) (hL : q_Law D ad cI cZ cQ aO cL s) (hi : i + 2 < Ln) (hLn : Ln ≤ 1536) (hc : cells + 1 ≤ 664929) (hs : slots + 6 ≤ 7101316) (hl : lv_has ls 7 [(0, .ref b), (1, .ref (ad 0)), (2, .ref (ad 30)), (3, .ref aO), (4, .int (nI i))]) (hJ : va_P D qCl (q_J ad cI cZ cQ aO cL h o) H) (hS : va_S (q_A0 s) s.heap H locs) (hI : I h) (hop : q_opW I 45 97 [0, 1] true [.inl (xs (i + 1))]) (kk : ∀ (h' : HP) (o' : Int64) (ls' : Array Slot) (H' : Heap) (locs' : List Loc), I h' → lv_has ls' 7 [(0, .ref b), (1, .ref (ad 0)), (2, .ref (ad 30)), (3, .ref aO), (4, .int (nI i))] → va_P D qCl (q_J ad cI cZ cQ aO cL h' o') H' → va_S (q_A0 s) s.heap H' locs' → W p l e room_1 s m #[Value.ref b] below meth c H' locs' (cells + 1) (slots + 6) Q (F0 m 1214 ls' [])) : W p l e room_1 s m #[Value.ref b] below meth c H locs cells slots Q (F0 m 204 ls []) := by
  rcases hop h hI with ⟨v, h1, h2, hv, hC, hM, hth, hI2⟩ | ⟨t, x, v, h1, h2, ht, hv, hC, hM, hth, hI2⟩
  · obtain ⟨v, rfl⟩ := q_some hv
    exact lc_verdict (o1 := v.toInt64) hx hb hml hown hts hX hbl hL hi hLn hc hs hl hJ hS (w_verdict_r hC) hM hth (m_thrown h2) (fun _ => rfl) (fun ls' H' locs' z1 z2 z3 => kk h2 _ ls' H' locs' hI2 z1 z2 z3)
  · obtain ⟨v, rfl⟩ := q_some hv
    rcases t with _ | _ | t
    · cases ht
      exact lc_verdict (o1 := o) (k := 1) hx hb hml hown hts hX hbl hL hi hLn hc hs hl hJ hS (w_verdict_t0 hfl hC) hM hth (m_thrown h2) (fun z => absurd z (by decide)) (fun ls' H' locs' z1 z2 z3 => kk h2 _ ls' H' locs' hI2 z1 z2 z3)
    · cases ht
      exact lc_verdict (o1 := o) (k := 2) hx hb hml hown hts hX hbl hL hi hLn hc hs hl hJ hS (w_verdict_t1 hfl hC) hM hth (m_thrown h2) (fun z => absurd z (by decide)) (fun ls' H' locs' z1 z2 z3 => kk h2 _ ls' H' locs' hI2 z1 z2 z3)
    · cases ht
theorem lk_deposit {p : Program} {l : Launch} {e : Env} {s : State} {m : MethodId} {below : List Frame} {meth : Method} {c : Code} {H : Heap} {locs : List Loc} {cells slots : Nat} {Q : State → Prop} {D : va_G} {ad : Nat → Nat} {cI cZ cQ cL : ClassId} {aO b Ln i : Nat} {xs : Nat → Int32} {ls : Array Slot} {h : HP} {o : Int64} {I : HP → Prop} (hfl : ∀ e : Env, l.admits e → e.platform.stackTraces = false) (hx : p.tables.exec = Jvm.exec) (hb : c.code = code) (hml : c.maxLocals = 7) (hown : s.vm.findClass "CashRecyclerLaw" = some m.cls) (hts : ∀ w ∈ q_WS, w.before #[Value.ref b] s = true) (hX : va_X b Ln xs s s.heap) (hbl : b < s.heap.size) (hL : q_Law D ad cI cZ cQ aO cL s) (hi : i + 2 < Ln) (hLn : Ln ≤ 1536) (hc : cells + 1 ≤ 664929) (hs : slots + 6 ≤ 7101316) (hl : lv_has ls 7 [(0, .ref b), (1, .ref (ad 0)), (2, .ref (ad 30)), (3, .ref aO), (4, .int (nI i))]) (hJ : va_P D qCl (q_J ad cI cZ cQ aO cL h o) H) (hS : va_S (q_A0 s) s.heap H locs) (hI : I h) (hop : q_opW I 47 98 [1] false []) (kk : ∀ (h' : HP) (o' : Int64) (ls' : Array Slot) (H' : Heap) (locs' : List Loc), I h' → lv_has ls' 7 [(0, .ref b), (1, .ref (ad 0)), (2, .ref (ad 30)), (3, .ref aO), (4, .int (nI i))] → va_P D qCl (q_J ad cI cZ cQ aO cL h' o') H' → va_S (q_A0 s) s.heap H' locs' → W p l e room_1 s m #[Value.ref b] below meth c H' locs' (cells + 1) (slots + 6) Q (F0 m 1214 ls' [])) : W p l e room_1 s m #[Value.ref b] below meth c H locs cells slots Q (F0 m 260 ls []) := by
  rcases hop h hI with ⟨v, h1, h2, hv, hC, hM, hth, hI2⟩ | ⟨t, x, v, h1, h2, ht, hv, hC, hM, hth, hI2⟩
  · obtain rfl := q_none hv
    exact lc_deposit (o1 := o) hx hb hml hown hts hX hbl hL hi hLn hc hs hl hJ hS (w_deposit_r hC) hM hth (m_thrown h2) (fun ls' H' locs' z1 z2 z3 => kk h2 _ ls' H' locs' hI2 z1 z2 z3)
  · obtain rfl := q_none hv
    rcases t with _ | t
    · cases ht
      exact lc_deposit (o1 := o) (k := 1) hx hb hml hown hts hX hbl hL hi hLn hc hs hl hJ hS (w_deposit_t1 hfl hC) hM hth (m_thrown h2) (fun ls' H' locs' z1 z2 z3 => kk h2 _ ls' H' locs' hI2 z1 z2 z3)
    · cases ht
theorem lk_confirm {p : Program} {l : Launch} {e : Env} {s : State} {m : MethodId} {below : List Frame} {meth : Method} {c : Code} {H : Heap} {locs : List Loc} {cells slots : Nat} {Q : State → Prop} {D : va_G} {ad : Nat → Nat} {cI cZ cQ cL : ClassId} {aO b Ln i : Nat} {xs : Nat → Int32} {ls : Array Slot} {h : HP} {o : Int64} {I : HP → Prop} (hfl : ∀ e : Env, l.admits e → e.platform.stackTraces = false) (hx : p.tables.exec = Jvm.exec) (hb : c.code = code) (hml : c.maxLocals = 7) (hown : s.vm.findClass "CashRecyclerLaw" = some m.cls) (hts : ∀ w ∈ q_WS, w.before #[Value.ref b] s = true) (hX : va_X b Ln xs s s.heap) (hbl : b < s.heap.size) (hL : q_Law D ad cI cZ cQ aO cL s) (hi : i + 2 < Ln) (hLn : Ln ≤ 1536) (hc : cells + 1 ≤ 664929) (hs : slots + 6 ≤ 7101316) (hl : lv_has ls 7 [(0, .ref b), (1, .ref (ad 0)), (2, .ref (ad 30)), (3, .ref aO), (4, .int (nI i))]) (hJ : va_P D qCl (q_J ad cI cZ cQ aO cL h o) H) (hS : va_S (q_A0 s) s.heap H locs) (hI : I h) (hop : q_opW I 48 99 [1] false []) (kk : ∀ (h' : HP) (o' : Int64) (ls' : Array Slot) (H' : Heap) (locs' : List Loc), I h' → lv_has ls' 7 [(0, .ref b), (1, .ref (ad 0)), (2, .ref (ad 30)), (3, .ref aO), (4, .int (nI i))] → va_P D qCl (q_J ad cI cZ cQ aO cL h' o') H' → va_S (q_A0 s) s.heap H' locs' → W p l e room_1 s m #[Value.ref b] below meth c H' locs' (cells + 1) (slots + 6) Q (F0 m 1214 ls' [])) : W p l e room_1 s m #[Value.ref b] below meth c H locs cells slots Q (F0 m 284 ls []) := by
  rcases hop h hI with ⟨v, h1, h2, hv, hC, hM, hth, hI2⟩ | ⟨t, x, v, h1, h2, ht, hv, hC, hM, hth, hI2⟩
  · obtain rfl := q_none hv
    exact lc_confirm (o1 := o) hx hb hml hown hts hX hbl hL hi hLn hc hs hl hJ hS (w_confirm_r hC) hM hth (m_thrown h2) (fun ls' H' locs' z1 z2 z3 => kk h2 _ ls' H' locs' hI2 z1 z2 z3)
  · obtain rfl := q_none hv
    rcases t with _ | t
    · cases ht
      exact lc_confirm (o1 := o) (k := 1) hx hb hml hown hts hX hbl hL hi hLn hc hs hl hJ hS (w_confirm_t1 hfl hC) hM hth (m_thrown h2) (fun ls' H' locs' z1 z2 z3 => kk h2 _ ls' H' locs' hI2 z1 z2 z3)
    · cases ht
theorem lk_giveBack {p : Program} {l : Launch} {e : Env} {s : State} {m : MethodId} {below : List Frame} {meth : Method} {c : Code} {H : Heap} {locs : List Loc} {cells slots : Nat} {Q : State → Prop} {D : va_G} {ad : Nat → Nat} {cI cZ cQ cL : ClassId} {aO b Ln i : Nat} {xs : Nat → Int32} {ls : Array Slot} {h : HP} {o : Int64} {I : HP → Prop} (hfl : ∀ e : Env, l.admits e → e.platform.stackTraces = false) (hx : p.tables.exec = Jvm.exec) (hb : c.code = code) (hml : c.maxLocals = 7) (hown : s.vm.findClass "CashRecyclerLaw" = some m.cls) (hts : ∀ w ∈ q_WS, w.before #[Value.ref b] s = true) (hX : va_X b Ln xs s s.heap) (hbl : b < s.heap.size) (hL : q_Law D ad cI cZ cQ aO cL s) (hi : i + 2 < Ln) (hLn : Ln ≤ 1536) (hc : cells + 1 ≤ 664929) (hs : slots + 6 ≤ 7101316) (hl : lv_has ls 7 [(0, .ref b), (1, .ref (ad 0)), (2, .ref (ad 30)), (3, .ref aO), (4, .int (nI i))]) (hJ : va_P D qCl (q_J ad cI cZ cQ aO cL h o) H) (hS : va_S (q_A0 s) s.heap H locs) (hI : I h) (hop : q_opW I 49 100 [1] false []) (kk : ∀ (h' : HP) (o' : Int64) (ls' : Array Slot) (H' : Heap) (locs' : List Loc), I h' → lv_has ls' 7 [(0, .ref b), (1, .ref (ad 0)), (2, .ref (ad 30)), (3, .ref aO), (4, .int (nI i))] → va_P D qCl (q_J ad cI cZ cQ aO cL h' o') H' → va_S (q_A0 s) s.heap H' locs' → W p l e room_1 s m #[Value.ref b] below meth c H' locs' (cells + 1) (slots + 6) Q (F0 m 1214 ls' [])) : W p l e room_1 s m #[Value.ref b] below meth c H locs cells slots Q (F0 m 308 ls []) := by
  rcases hop h hI with ⟨v, h1, h2, hv, hC, hM, hth, hI2⟩ | ⟨t, x, v, h1, h2, ht, hv, hC, hM, hth, hI2⟩
  · obtain rfl := q_none hv
    exact lc_giveBack (o1 := o) hx hb hml hown hts hX hbl hL hi hLn hc hs hl hJ hS (w_giveBack_r hC) hM hth (m_thrown h2) (fun ls' H' locs' z1 z2 z3 => kk h2 _ ls' H' locs' hI2 z1 z2 z3)
  · obtain rfl := q_none hv
    rcases t with _ | t
    · cases ht
      exact lc_giveBack (o1 := o) (k := 1) hx hb hml hown hts hX hbl hL hi hLn hc hs hl hJ hS (w_giveBack_t1 hfl hC) hM hth (m_thrown h2) (fun ls' H' locs' z1 z2 z3 => kk h2 _ ls' H' locs' hI2 z1 z2 z3)
    · cases ht
theorem lk_payout {p : Program} {l : Launch} {e : Env} {s : State} {m : MethodId} {below : List Frame} {meth : Method} {c : Code} {H : Heap} {locs : List Loc} {cells slots : Nat} {Q : State → Prop} {D : va_G} {ad : Nat → Nat} {cI cZ cQ cL : ClassId} {aO b Ln i : Nat} {xs : Nat → Int32} {ls : Array Slot} {h : HP} {o : Int64} {I : HP → Prop} (hfl : ∀ e : Env, l.admits e → e.platform.stackTraces = false) (hx : p.tables.exec = Jvm.exec) (hb : c.code = code) (hml : c.maxLocals = 7) (hown : s.vm.findClass "CashRecyclerLaw" = some m.cls) (hts : ∀ w ∈ q_WS, w.before #[Value.ref b] s = true) (hX : va_X b Ln xs s s.heap) (hbl : b < s.heap.size) (hL : q_Law D ad cI cZ cQ aO cL s) (hi : i + 2 < Ln) (hLn : Ln ≤ 1536) (hc : cells + 1 ≤ 664929) (hs : slots + 6 ≤ 7101316) (hl : lv_has ls 7 [(0, .ref b), (1, .ref (ad 0)), (2, .ref (ad 30)), (3, .ref aO), (4, .int (nI i))]) (hJ : va_P D qCl (q_J ad cI cZ cQ aO cL h o) H) (hS : va_S (q_A0 s) s.heap H locs) (hI : I h) (hop : q_opW I 51 104 [0, 1, 2] true [.inl (xs (i + 1))]) (kk : ∀ (h' : HP) (o' : Int64) (ls' : Array Slot) (H' : Heap) (locs' : List Loc), I h' → lv_has ls' 7 [(0, .ref b), (1, .ref (ad 0)), (2, .ref (ad 30)), (3, .ref aO), (4, .int (nI i))] → va_P D qCl (q_J ad cI cZ cQ aO cL h' o') H' → va_S (q_A0 s) s.heap H' locs' → W p l e room_1 s m #[Value.ref b] below meth c H' locs' (cells + 1) (slots + 6) Q (F0 m 1214 ls' [])) : W p l e room_1 s m #[Value.ref b] below meth c H locs cells slots Q (F0 m 332 ls []) := by
  rcases hop h hI with ⟨v, h1, h2, hv, hC, hM, hth, hI2⟩ | ⟨t, x, v, h1, h2, ht, hv, hC, hM, hth, hI2⟩
  · obtain ⟨v, rfl⟩ := q_some hv
    exact lc_payout (o1 := v.toInt64) hx hb hml hown hts hX hbl hL hi hLn hc hs hl hJ hS (w_payout_r hC) hM hth (m_thrown h2) (fun _ => rfl) (fun ls' H' locs' z1 z2 z3 => kk h2 _ ls' H' locs' hI2 z1 z2 z3)
  · obtain ⟨v, rfl⟩ := q_some hv
    rcases t with _ | _ | _ | t
    · cases ht
      exact lc_payout (o1 := o) (k := 1) hx hb hml hown hts hX hbl hL hi hLn hc hs hl hJ hS (w_payout_t0 hfl hC) hM hth (m_thrown h2) (fun z => absurd z (by decide)) (fun ls' H' locs' z1 z2 z3 => kk h2 _ ls' H' locs' hI2 z1 z2 z3)
    · cases ht
      exact lc_payout (o1 := o) (k := 2) hx hb hml hown hts hX hbl hL hi hLn hc hs hl hJ hS (w_payout_t1 hfl hC) hM hth (m_thrown h2) (fun z => absurd z (by decide)) (fun ls' H' locs' z1 z2 z3 => kk h2 _ ls' H' locs' hI2 z1 z2 z3)
    · cases ht
      exact lc_payout (o1 := o) (k := 3) hx hb hml hown hts hX hbl hL hi hLn hc hs hl hJ hS (w_payout_t2 hfl hC) hM hth (m_thrown h2) (fun z => absurd z (by decide)) (fun ls' H' locs' z1 z2 z3 => kk h2 _ ls' H' locs' hI2 z1 z2 z3)
    · cases ht
theorem lk_plan {p : Program} {l : Launch} {e : Env} {s : State} {m : MethodId} {below : List Frame} {meth : Method} {c : Code} {H : Heap} {locs : List Loc} {cells slots : Nat} {Q : State → Prop} {D : va_G} {ad : Nat → Nat} {cI cZ cQ cL : ClassId} {aO b Ln i : Nat} {xs : Nat → Int32} {ls : Array Slot} {h : HP} {o : Int64} {I : HP → Prop} (hfl : ∀ e : Env, l.admits e → e.platform.stackTraces = false) (hx : p.tables.exec = Jvm.exec) (hb : c.code = code) (hml : c.maxLocals = 7) (hown : s.vm.findClass "CashRecyclerLaw" = some m.cls) (hts : ∀ w ∈ q_WS, w.before #[Value.ref b] s = true) (hX : va_X b Ln xs s s.heap) (hbl : b < s.heap.size) (hL : q_Law D ad cI cZ cQ aO cL s) (hi : i + 2 < Ln) (hLn : Ln ≤ 1536) (hc : cells + 1 ≤ 664929) (hs : slots + 6 ≤ 7101316) (hl : lv_has ls 7 [(0, .ref b), (1, .ref (ad 0)), (2, .ref (ad 30)), (3, .ref aO), (4, .int (nI i))]) (hJ : va_P D qCl (q_J ad cI cZ cQ aO cL h o) H) (hS : va_S (q_A0 s) s.heap H locs) (hI : I h) (hop : q_opW I 53 105 [0] true [.inl (xs (i + 1)), .inl (xs (i + 2))]) (kk : ∀ (h' : HP) (o' : Int64) (ls' : Array Slot) (H' : Heap) (locs' : List Loc), I h' → lv_has ls' 7 [(0, .ref b), (1, .ref (ad 0)), (2, .ref (ad 30)), (3, .ref aO), (4, .int (nI i))] → va_P D qCl (q_J ad cI cZ cQ aO cL h' o') H' → va_S (q_A0 s) s.heap H' locs' → W p l e room_1 s m #[Value.ref b] below meth c H' locs' (cells + 1) (slots + 6) Q (F0 m 1214 ls' [])) : W p l e room_1 s m #[Value.ref b] below meth c H locs cells slots Q (F0 m 388 ls []) := by
  rcases hop h hI with ⟨v, h1, h2, hv, hC, hM, hth, hI2⟩ | ⟨t, x, v, h1, h2, ht, hv, hC, hM, hth, hI2⟩
  · obtain ⟨v, rfl⟩ := q_some hv
    exact lc_plan (o1 := v.toInt64) hx hb hml hown hts hX hbl hL hi hLn hc hs hl hJ hS (w_plan_r hC) hM hth (m_thrown h2) (fun _ => rfl) (fun ls' H' locs' z1 z2 z3 => kk h2 _ ls' H' locs' hI2 z1 z2 z3)
  · obtain ⟨v, rfl⟩ := q_some hv
    rcases t with _ | t
    · cases ht
      exact lc_plan (o1 := o) (k := 1) hx hb hml hown hts hX hbl hL hi hLn hc hs hl hJ hS (w_plan_t0 hfl hC) hM hth (m_thrown h2) (fun z => absurd z (by decide)) (fun ls' H' locs' z1 z2 z3 => kk h2 _ ls' H' locs' hI2 z1 z2 z3)
    · cases ht
theorem lk_step {p : Program} {l : Launch} {e : Env} {s : State} {m : MethodId} {below : List Frame} {meth : Method} {c : Code} {H : Heap} {locs : List Loc} {cells slots : Nat} {Q : State → Prop} {D : va_G} {ad : Nat → Nat} {cI cZ cQ cL : ClassId} {aO b Ln i : Nat} {xs : Nat → Int32} {ls : Array Slot} {h : HP} {o : Int64} {I : HP → Prop} (hfl : ∀ e : Env, l.admits e → e.platform.stackTraces = false) (hx : p.tables.exec = Jvm.exec) (hb : c.code = code) (hml : c.maxLocals = 7) (hown : s.vm.findClass "CashRecyclerLaw" = some m.cls) (hts : ∀ w ∈ q_WS, w.before #[Value.ref b] s = true) (hX : va_X b Ln xs s s.heap) (hbl : b < s.heap.size) (hL : q_Law D ad cI cZ cQ aO cL s) (hi : i + 2 < Ln) (hLn : Ln ≤ 1536) (hc : cells + 1 ≤ 664929) (hs : slots + 6 ≤ 7101316) (hl : lv_has ls 7 [(0, .ref b), (1, .ref (ad 0)), (2, .ref (ad 30)), (3, .ref aO), (4, .int (nI i))]) (hJ : va_P D qCl (q_J ad cI cZ cQ aO cL h o) H) (hS : va_S (q_A0 s) s.heap H locs) (hI : I h) (hop : q_opW I 68 114 [0] true [.inl (xs (i + 1))]) (kk : ∀ (h' : HP) (o' : Int64) (ls' : Array Slot) (H' : Heap) (locs' : List Loc), I h' → lv_has ls' 7 [(0, .ref b), (1, .ref (ad 0)), (2, .ref (ad 30)), (3, .ref aO), (4, .int (nI i))] → va_P D qCl (q_J ad cI cZ cQ aO cL h' o') H' → va_S (q_A0 s) s.heap H' locs' → W p l e room_1 s m #[Value.ref b] below meth c H' locs' (cells + 1) (slots + 6) Q (F0 m 1214 ls' [])) : W p l e room_1 s m #[Value.ref b] below meth c H locs cells slots Q (F0 m 456 ls []) := by
  rcases hop h hI with ⟨v, h1, h2, hv, hC, hM, hth, hI2⟩ | ⟨t, x, v, h1, h2, ht, hv, hC, hM, hth, hI2⟩
  · obtain ⟨v, rfl⟩ := q_some hv
    exact lc_step (o1 := v.toInt64) hx hb hml hown hts hX hbl hL hi hLn hc hs hl hJ hS (w_step_r hC) hM hth (m_thrown h2) (fun _ => rfl) (fun ls' H' locs' z1 z2 z3 => kk h2 _ ls' H' locs' hI2 z1 z2 z3)
  · obtain ⟨v, rfl⟩ := q_some hv
    rcases t with _ | t
    · cases ht
      exact lc_step (o1 := o) (k := 1) hx hb hml hown hts hX hbl hL hi hLn hc hs hl hJ hS (w_step_t0 hfl hC) hM hth (m_thrown h2) (fun z => absurd z (by decide)) (fun ls' H' locs' z1 z2 z3 => kk h2 _ ls' H' locs' hI2 z1 z2 z3)
    · cases ht
theorem lk_taken {p : Program} {l : Launch} {e : Env} {s : State} {m : MethodId} {below : List Frame} {meth : Method} {c : Code} {H : Heap} {locs : List Loc} {cells slots : Nat} {Q : State → Prop} {D : va_G} {ad : Nat → Nat} {cI cZ cQ cL : ClassId} {aO b Ln i : Nat} {xs : Nat → Int32} {ls : Array Slot} {h : HP} {o : Int64} {I : HP → Prop} (hfl : ∀ e : Env, l.admits e → e.platform.stackTraces = false) (hx : p.tables.exec = Jvm.exec) (hb : c.code = code) (hml : c.maxLocals = 7) (hown : s.vm.findClass "CashRecyclerLaw" = some m.cls) (hts : ∀ w ∈ q_WS, w.before #[Value.ref b] s = true) (hX : va_X b Ln xs s s.heap) (hbl : b < s.heap.size) (hL : q_Law D ad cI cZ cQ aO cL s) (hi : i + 2 < Ln) (hLn : Ln ≤ 1536) (hc : cells + 1 ≤ 664929) (hs : slots + 6 ≤ 7101316) (hl : lv_has ls 7 [(0, .ref b), (1, .ref (ad 0)), (2, .ref (ad 30)), (3, .ref aO), (4, .int (nI i))]) (hJ : va_P D qCl (q_J ad cI cZ cQ aO cL h o) H) (hS : va_S (q_A0 s) s.heap H locs) (hI : I h) (hop : q_opD I 69 115) (kk : ∀ (h' : HP) (o' : Int64) (ls' : Array Slot) (H' : Heap) (locs' : List Loc), I h' → lv_has ls' 7 [(0, .ref b), (1, .ref (ad 0)), (2, .ref (ad 30)), (3, .ref aO), (4, .int (nI i))] → va_P D qCl (q_J ad cI cZ cQ aO cL h' o') H' → va_S (q_A0 s) s.heap H' locs' → W p l e room_1 s m #[Value.ref b] below meth c H' locs' (cells + 1) (slots + 6) Q (F0 m 1214 ls' [])) : W p l e room_1 s m #[Value.ref b] below meth c H locs cells slots Q (F0 m 512 ls []) := by
  obtain ⟨v, h1, h2, hC, hM, hI2⟩ := hop h hI
  exact lc_taken (o1 := o) hx hb hml hown hts hX hbl hL hi hLn hc hs hl hJ hS hC hM (fun ls' H' locs' z1 z2 z3 => kk h2 o ls' H' locs' hI2 z1 z2 z3)
theorem lk_stick {p : Program} {l : Launch} {e : Env} {s : State} {m : MethodId} {below : List Frame} {meth : Method} {c : Code} {H : Heap} {locs : List Loc} {cells slots : Nat} {Q : State → Prop} {D : va_G} {ad : Nat → Nat} {cI cZ cQ cL : ClassId} {aO b Ln i : Nat} {xs : Nat → Int32} {ls : Array Slot} {h : HP} {o : Int64} {I : HP → Prop} (hfl : ∀ e : Env, l.admits e → e.platform.stackTraces = false) (hx : p.tables.exec = Jvm.exec) (hb : c.code = code) (hml : c.maxLocals = 7) (hown : s.vm.findClass "CashRecyclerLaw" = some m.cls) (hts : ∀ w ∈ q_WS, w.before #[Value.ref b] s = true) (hX : va_X b Ln xs s s.heap) (hbl : b < s.heap.size) (hL : q_Law D ad cI cZ cQ aO cL s) (hi : i + 2 < Ln) (hLn : Ln ≤ 1536) (hc : cells + 1 ≤ 664929) (hs : slots + 6 ≤ 7101316) (hl : lv_has ls 7 [(0, .ref b), (1, .ref (ad 0)), (2, .ref (ad 30)), (3, .ref aO), (4, .int (nI i))]) (hJ : va_P D qCl (q_J ad cI cZ cQ aO cL h o) H) (hS : va_S (q_A0 s) s.heap H locs) (hI : I h) (hop : q_opW I 71 116 [0, 3] false [.inl (xs (i + 1))]) (kk : ∀ (h' : HP) (o' : Int64) (ls' : Array Slot) (H' : Heap) (locs' : List Loc), I h' → lv_has ls' 7 [(0, .ref b), (1, .ref (ad 0)), (2, .ref (ad 30)), (3, .ref aO), (4, .int (nI i))] → va_P D qCl (q_J ad cI cZ cQ aO cL h' o') H' → va_S (q_A0 s) s.heap H' locs' → W p l e room_1 s m #[Value.ref b] below meth c H' locs' (cells + 1) (slots + 6) Q (F0 m 1214 ls' [])) : W p l e room_1 s m #[Value.ref b] below meth c H locs cells slots Q (F0 m 525 ls []) := by
  rcases hop h hI with ⟨v, h1, h2, hv, hC, hM, hth, hI2⟩ | ⟨t, x, v, h1, h2, ht, hv, hC, hM, hth, hI2⟩
  · obtain rfl := q_none hv
    exact lc_stick (o1 := o) hx hb hml hown hts hX hbl hL hi hLn hc hs hl hJ hS (w_stick_r hC) hM hth (m_thrown h2) (fun ls' H' locs' z1 z2 z3 => kk h2 _ ls' H' locs' hI2 z1 z2 z3)
  · obtain rfl := q_none hv
    rcases t with _ | _ | t
    · cases ht
      exact lc_stick (o1 := o) (k := 1) hx hb hml hown hts hX hbl hL hi hLn hc hs hl hJ hS (w_stick_t0 hfl hC) hM hth (m_thrown h2) (fun ls' H' locs' z1 z2 z3 => kk h2 _ ls' H' locs' hI2 z1 z2 z3)
    · cases ht
      exact lc_stick (o1 := o) (k := 2) hx hb hml hown hts hX hbl hL hi hLn hc hs hl hJ hS (w_stick_t3 hfl hC) hM hth (m_thrown h2) (fun ls' H' locs' z1 z2 z3 => kk h2 _ ls' H' locs' hI2 z1 z2 z3)
    · cases ht
theorem lk_open {p : Program} {l : Launch} {e : Env} {s : State} {m : MethodId} {below : List Frame} {meth : Method} {c : Code} {H : Heap} {locs : List Loc} {cells slots : Nat} {Q : State → Prop} {D : va_G} {ad : Nat → Nat} {cI cZ cQ cL : ClassId} {aO b Ln i : Nat} {xs : Nat → Int32} {ls : Array Slot} {h : HP} {o : Int64} {I : HP → Prop} (hfl : ∀ e : Env, l.admits e → e.platform.stackTraces = false) (hx : p.tables.exec = Jvm.exec) (hb : c.code = code) (hml : c.maxLocals = 7) (hown : s.vm.findClass "CashRecyclerLaw" = some m.cls) (hts : ∀ w ∈ q_WS, w.before #[Value.ref b] s = true) (hX : va_X b Ln xs s s.heap) (hbl : b < s.heap.size) (hL : q_Law D ad cI cZ cQ aO cL s) (hi : i + 2 < Ln) (hLn : Ln ≤ 1536) (hc : cells + 1 ≤ 664929) (hs : slots + 6 ≤ 7101316) (hl : lv_has ls 7 [(0, .ref b), (1, .ref (ad 0)), (2, .ref (ad 30)), (3, .ref aO), (4, .int (nI i))]) (hJ : va_P D qCl (q_J ad cI cZ cQ aO cL h o) H) (hS : va_S (q_A0 s) s.heap H locs) (hI : I h) (hop : q_opW I 72 117 [1] false []) (kk : ∀ (h' : HP) (o' : Int64) (ls' : Array Slot) (H' : Heap) (locs' : List Loc), I h' → lv_has ls' 7 [(0, .ref b), (1, .ref (ad 0)), (2, .ref (ad 30)), (3, .ref aO), (4, .int (nI i))] → va_P D qCl (q_J ad cI cZ cQ aO cL h' o') H' → va_S (q_A0 s) s.heap H' locs' → W p l e room_1 s m #[Value.ref b] below meth c H' locs' (cells + 1) (slots + 6) Q (F0 m 1214 ls' [])) : W p l e room_1 s m #[Value.ref b] below meth c H locs cells slots Q (F0 m 561 ls []) := by
  rcases hop h hI with ⟨v, h1, h2, hv, hC, hM, hth, hI2⟩ | ⟨t, x, v, h1, h2, ht, hv, hC, hM, hth, hI2⟩
  · obtain rfl := q_none hv
    exact lc_open (o1 := o) hx hb hml hown hts hX hbl hL hi hLn hc hs hl hJ hS (w_open_r hC) hM hth (m_thrown h2) (fun ls' H' locs' z1 z2 z3 => kk h2 _ ls' H' locs' hI2 z1 z2 z3)
  · obtain rfl := q_none hv
    rcases t with _ | t
    · cases ht
      exact lc_open (o1 := o) (k := 1) hx hb hml hown hts hX hbl hL hi hLn hc hs hl hJ hS (w_open_t1 hfl hC) hM hth (m_thrown h2) (fun ls' H' locs' z1 z2 z3 => kk h2 _ ls' H' locs' hI2 z1 z2 z3)
    · cases ht
theorem lk_remove {p : Program} {l : Launch} {e : Env} {s : State} {m : MethodId} {below : List Frame} {meth : Method} {c : Code} {H : Heap} {locs : List Loc} {cells slots : Nat} {Q : State → Prop} {D : va_G} {ad : Nat → Nat} {cI cZ cQ cL : ClassId} {aO b Ln i : Nat} {xs : Nat → Int32} {ls : Array Slot} {h : HP} {o : Int64} {I : HP → Prop} (hfl : ∀ e : Env, l.admits e → e.platform.stackTraces = false) (hx : p.tables.exec = Jvm.exec) (hb : c.code = code) (hml : c.maxLocals = 7) (hown : s.vm.findClass "CashRecyclerLaw" = some m.cls) (hts : ∀ w ∈ q_WS, w.before #[Value.ref b] s = true) (hX : va_X b Ln xs s s.heap) (hbl : b < s.heap.size) (hL : q_Law D ad cI cZ cQ aO cL s) (hi : i + 2 < Ln) (hLn : Ln ≤ 1536) (hc : cells + 1 ≤ 664929) (hs : slots + 6 ≤ 7101316) (hl : lv_has ls 7 [(0, .ref b), (1, .ref (ad 0)), (2, .ref (ad 30)), (3, .ref aO), (4, .int (nI i))]) (hJ : va_P D qCl (q_J ad cI cZ cQ aO cL h o) H) (hS : va_S (q_A0 s) s.heap H locs) (hI : I h) (hop : q_opW I 73 118 [1, 0, 3] true [.inl (xs (i + 1))]) (kk : ∀ (h' : HP) (o' : Int64) (ls' : Array Slot) (H' : Heap) (locs' : List Loc), I h' → lv_has ls' 7 [(0, .ref b), (1, .ref (ad 0)), (2, .ref (ad 30)), (3, .ref aO), (4, .int (nI i))] → va_P D qCl (q_J ad cI cZ cQ aO cL h' o') H' → va_S (q_A0 s) s.heap H' locs' → W p l e room_1 s m #[Value.ref b] below meth c H' locs' (cells + 1) (slots + 6) Q (F0 m 1214 ls' [])) : W p l e room_1 s m #[Value.ref b] below meth c H locs cells slots Q (F0 m 585 ls []) := by
  rcases hop h hI with ⟨v, h1, h2, hv, hC, hM, hth, hI2⟩ | ⟨t, x, v, h1, h2, ht, hv, hC, hM, hth, hI2⟩
  · obtain ⟨v, rfl⟩ := q_some hv
    exact lc_remove (o1 := v.toInt64) hx hb hml hown hts hX hbl hL hi hLn hc hs hl hJ hS (w_remove_r hC) hM hth (m_thrown h2) (fun _ => rfl) (fun ls' H' locs' z1 z2 z3 => kk h2 _ ls' H' locs' hI2 z1 z2 z3)
  · obtain ⟨v, rfl⟩ := q_some hv
    rcases t with _ | _ | _ | t
    · cases ht
      exact lc_remove (o1 := o) (k := 1) hx hb hml hown hts hX hbl hL hi hLn hc hs hl hJ hS (w_remove_t1 hfl hC) hM hth (m_thrown h2) (fun z => absurd z (by decide)) (fun ls' H' locs' z1 z2 z3 => kk h2 _ ls' H' locs' hI2 z1 z2 z3)
    · cases ht
      exact lc_remove (o1 := o) (k := 2) hx hb hml hown hts hX hbl hL hi hLn hc hs hl hJ hS (w_remove_t0 hfl hC) hM hth (m_thrown h2) (fun z => absurd z (by decide)) (fun ls' H' locs' z1 z2 z3 => kk h2 _ ls' H' locs' hI2 z1 z2 z3)
    · cases ht
      exact lc_remove (o1 := o) (k := 3) hx hb hml hown hts hX hbl hL hi hLn hc hs hl hJ hS (w_remove_t3 hfl hC) hM hth (m_thrown h2) (fun z => absurd z (by decide)) (fun ls' H' locs' z1 z2 z3 => kk h2 _ ls' H' locs' hI2 z1 z2 z3)
    · cases ht
theorem lk_free {p : Program} {l : Launch} {e : Env} {s : State} {m : MethodId} {below : List Frame} {meth : Method} {c : Code} {H : Heap} {locs : List Loc} {cells slots : Nat} {Q : State → Prop} {D : va_G} {ad : Nat → Nat} {cI cZ cQ cL : ClassId} {aO b Ln i : Nat} {xs : Nat → Int32} {ls : Array Slot} {h : HP} {o : Int64} {I : HP → Prop} (hfl : ∀ e : Env, l.admits e → e.platform.stackTraces = false) (hx : p.tables.exec = Jvm.exec) (hb : c.code = code) (hml : c.maxLocals = 7) (hown : s.vm.findClass "CashRecyclerLaw" = some m.cls) (hts : ∀ w ∈ q_WS, w.before #[Value.ref b] s = true) (hX : va_X b Ln xs s s.heap) (hbl : b < s.heap.size) (hL : q_Law D ad cI cZ cQ aO cL s) (hi : i + 2 < Ln) (hLn : Ln ≤ 1536) (hc : cells + 1 ≤ 664929) (hs : slots + 6 ≤ 7101316) (hl : lv_has ls 7 [(0, .ref b), (1, .ref (ad 0)), (2, .ref (ad 30)), (3, .ref aO), (4, .int (nI i))]) (hJ : va_P D qCl (q_J ad cI cZ cQ aO cL h o) H) (hS : va_S (q_A0 s) s.heap H locs) (hI : I h) (hop : q_opZ I 74 119 [1, 0] [.inl (xs (i + 1))]) (kk : ∀ (h' : HP) (o' : Int64) (ls' : Array Slot) (H' : Heap) (locs' : List Loc), I h' → lv_has ls' 7 [(0, .ref b), (1, .ref (ad 0)), (2, .ref (ad 30)), (3, .ref aO), (4, .int (nI i))] → va_P D qCl (q_J ad cI cZ cQ aO cL h' o') H' → va_S (q_A0 s) s.heap H' locs' → W p l e room_1 s m #[Value.ref b] below meth c H' locs' (cells + 1) (slots + 6) Q (F0 m 1214 ls' [])) : W p l e room_1 s m #[Value.ref b] below meth c H locs cells slots Q (F0 m 641 ls []) := by
  rcases hop h hI with ⟨v, h1, h2, hC, hM, hth, hI2⟩ | ⟨t, x, v, h1, h2, ht, hC, hM, hth, hI2⟩
  · skip
    exact lc_free (o1 := (if v = 0 then 0 else 1)) hx hb hml hown hts hX hbl hL hi hLn hc hs hl hJ hS (w_free_r hC) hM hth (m_thrown h2) (fun _ => rfl) (fun ls' H' locs' z1 z2 z3 => kk h2 _ ls' H' locs' hI2 z1 z2 z3)
  · skip
    rcases t with _ | _ | t
    · cases ht
      exact lc_free (o1 := o) (k := 1) hx hb hml hown hts hX hbl hL hi hLn hc hs hl hJ hS (w_free_t1 hfl hC) hM hth (m_thrown h2) (fun z => absurd z (by decide)) (fun ls' H' locs' z1 z2 z3 => kk h2 _ ls' H' locs' hI2 z1 z2 z3)
    · cases ht
      exact lc_free (o1 := o) (k := 2) hx hb hml hown hts hX hbl hL hi hLn hc hs hl hJ hS (w_free_t0 hfl hC) hM hth (m_thrown h2) (fun z => absurd z (by decide)) (fun ls' H' locs' z1 z2 z3 => kk h2 _ ls' H' locs' hI2 z1 z2 z3)
    · cases ht
theorem lk_close {p : Program} {l : Launch} {e : Env} {s : State} {m : MethodId} {below : List Frame} {meth : Method} {c : Code} {H : Heap} {locs : List Loc} {cells slots : Nat} {Q : State → Prop} {D : va_G} {ad : Nat → Nat} {cI cZ cQ cL : ClassId} {aO b Ln i : Nat} {xs : Nat → Int32} {ls : Array Slot} {h : HP} {o : Int64} {I : HP → Prop} (hfl : ∀ e : Env, l.admits e → e.platform.stackTraces = false) (hx : p.tables.exec = Jvm.exec) (hb : c.code = code) (hml : c.maxLocals = 7) (hown : s.vm.findClass "CashRecyclerLaw" = some m.cls) (hts : ∀ w ∈ q_WS, w.before #[Value.ref b] s = true) (hX : va_X b Ln xs s s.heap) (hbl : b < s.heap.size) (hL : q_Law D ad cI cZ cQ aO cL s) (hi : i + 2 < Ln) (hLn : Ln ≤ 1536) (hc : cells + 1 ≤ 664929) (hs : slots + 6 ≤ 7101316) (hl : lv_has ls 7 [(0, .ref b), (1, .ref (ad 0)), (2, .ref (ad 30)), (3, .ref aO), (4, .int (nI i))]) (hJ : va_P D qCl (q_J ad cI cZ cQ aO cL h o) H) (hS : va_S (q_A0 s) s.heap H locs) (hI : I h) (hop : q_opW I 78 123 [1] true []) (kk : ∀ (h' : HP) (o' : Int64) (ls' : Array Slot) (H' : Heap) (locs' : List Loc), I h' → lv_has ls' 7 [(0, .ref b), (1, .ref (ad 0)), (2, .ref (ad 30)), (3, .ref aO), (4, .int (nI i))] → va_P D qCl (q_J ad cI cZ cQ aO cL h' o') H' → va_S (q_A0 s) s.heap H' locs' → W p l e room_1 s m #[Value.ref b] below meth c H' locs' (cells + 1) (slots + 6) Q (F0 m 1214 ls' [])) : W p l e room_1 s m #[Value.ref b] below meth c H locs cells slots Q (F0 m 704 ls []) := by
  rcases hop h hI with ⟨v, h1, h2, hv, hC, hM, hth, hI2⟩ | ⟨t, x, v, h1, h2, ht, hv, hC, hM, hth, hI2⟩
  · obtain ⟨v, rfl⟩ := q_some hv
    exact lc_close (o1 := v.toInt64) hx hb hml hown hts hX hbl hL hi hLn hc hs hl hJ hS (w_close_r hC) hM hth (m_thrown h2) (fun _ => rfl) (fun ls' H' locs' z1 z2 z3 => kk h2 _ ls' H' locs' hI2 z1 z2 z3)
  · obtain ⟨v, rfl⟩ := q_some hv
    rcases t with _ | t
    · cases ht
      exact lc_close (o1 := o) (k := 1) hx hb hml hown hts hX hbl hL hi hLn hc hs hl hJ hS (w_close_t1 hfl hC) hM hth (m_thrown h2) (fun z => absurd z (by decide)) (fun ls' H' locs' z1 z2 z3 => kk h2 _ ls' H' locs' hI2 z1 z2 z3)
    · cases ht
theorem lk_power {p : Program} {l : Launch} {e : Env} {s : State} {m : MethodId} {below : List Frame} {meth : Method} {c : Code} {H : Heap} {locs : List Loc} {cells slots : Nat} {Q : State → Prop} {D : va_G} {ad : Nat → Nat} {cI cZ cQ cL : ClassId} {aO b Ln i : Nat} {xs : Nat → Int32} {ls : Array Slot} {h : HP} {o : Int64} {I : HP → Prop} (hfl : ∀ e : Env, l.admits e → e.platform.stackTraces = false) (hx : p.tables.exec = Jvm.exec) (hb : c.code = code) (hml : c.maxLocals = 7) (hown : s.vm.findClass "CashRecyclerLaw" = some m.cls) (hts : ∀ w ∈ q_WS, w.before #[Value.ref b] s = true) (hX : va_X b Ln xs s s.heap) (hbl : b < s.heap.size) (hL : q_Law D ad cI cZ cQ aO cL s) (hi : i + 2 < Ln) (hLn : Ln ≤ 1536) (hc : cells + 1 ≤ 664929) (hs : slots + 6 ≤ 7101316) (hl : lv_has ls 7 [(0, .ref b), (1, .ref (ad 0)), (2, .ref (ad 30)), (3, .ref aO), (4, .int (nI i))]) (hJ : va_P D qCl (q_J ad cI cZ cQ aO cL h o) H) (hS : va_S (q_A0 s) s.heap H locs) (hI : I h) (hop : q_opD I 80 124) (kk : ∀ (h' : HP) (o' : Int64) (ls' : Array Slot) (H' : Heap) (locs' : List Loc), I h' → lv_has ls' 7 [(0, .ref b), (1, .ref (ad 0)), (2, .ref (ad 30)), (3, .ref aO), (4, .int (nI i))] → va_P D qCl (q_J ad cI cZ cQ aO cL h' o') H' → va_S (q_A0 s) s.heap H' locs' → W p l e room_1 s m #[Value.ref b] below meth c H' locs' (cells + 1) (slots + 6) Q (F0 m 1214 ls' [])) : W p l e room_1 s m #[Value.ref b] below meth c H locs cells slots Q (F0 m 748 ls []) := by
  obtain ⟨v, h1, h2, hC, hM, hI2⟩ := hop h hI
  exact lc_power (o1 := o) hx hb hml hown hts hX hbl hL hi hLn hc hs hl hJ hS hC hM (fun ls' H' locs' z1 z2 z3 => kk h2 o ls' H' locs' hI2 z1 z2 z3)
theorem lk_service {p : Program} {l : Launch} {e : Env} {s : State} {m : MethodId} {below : List Frame} {meth : Method} {c : Code} {H : Heap} {locs : List Loc} {cells slots : Nat} {Q : State → Prop} {D : va_G} {ad : Nat → Nat} {cI cZ cQ cL : ClassId} {aO b Ln i : Nat} {xs : Nat → Int32} {ls : Array Slot} {h : HP} {o : Int64} {I : HP → Prop} (hfl : ∀ e : Env, l.admits e → e.platform.stackTraces = false) (hx : p.tables.exec = Jvm.exec) (hb : c.code = code) (hml : c.maxLocals = 7) (hown : s.vm.findClass "CashRecyclerLaw" = some m.cls) (hts : ∀ w ∈ q_WS, w.before #[Value.ref b] s = true) (hX : va_X b Ln xs s s.heap) (hbl : b < s.heap.size) (hL : q_Law D ad cI cZ cQ aO cL s) (hi : i + 2 < Ln) (hLn : Ln ≤ 1536) (hc : cells + 1 ≤ 664929) (hs : slots + 6 ≤ 7101316) (hl : lv_has ls 7 [(0, .ref b), (1, .ref (ad 0)), (2, .ref (ad 30)), (3, .ref aO), (4, .int (nI i))]) (hJ : va_P D qCl (q_J ad cI cZ cQ aO cL h o) H) (hS : va_S (q_A0 s) s.heap H locs) (hI : I h) (hop : q_opZ I 81 125 [1] []) (kk : ∀ (h' : HP) (o' : Int64) (ls' : Array Slot) (H' : Heap) (locs' : List Loc), I h' → lv_has ls' 7 [(0, .ref b), (1, .ref (ad 0)), (2, .ref (ad 30)), (3, .ref aO), (4, .int (nI i))] → va_P D qCl (q_J ad cI cZ cQ aO cL h' o') H' → va_S (q_A0 s) s.heap H' locs' → W p l e room_1 s m #[Value.ref b] below meth c H' locs' (cells + 1) (slots + 6) Q (F0 m 1214 ls' [])) : W p l e room_1 s m #[Value.ref b] below meth c H locs cells slots Q (F0 m 761 ls []) := by
  rcases hop h hI with ⟨v, h1, h2, hC, hM, hth, hI2⟩ | ⟨t, x, v, h1, h2, ht, hC, hM, hth, hI2⟩
  · skip
    exact lc_service (o1 := (if v = 0 then 0 else 1)) hx hb hml hown hts hX hbl hL hi hLn hc hs hl hJ hS (w_service_r hC) hM hth (m_thrown h2) (fun _ => rfl) (fun ls' H' locs' z1 z2 z3 => kk h2 _ ls' H' locs' hI2 z1 z2 z3)
  · skip
    rcases t with _ | t
    · cases ht
      exact lc_service (o1 := o) (k := 1) hx hb hml hown hts hX hbl hL hi hLn hc hs hl hJ hS (w_service_t1 hfl hC) hM hth (m_thrown h2) (fun z => absurd z (by decide)) (fun ls' H' locs' z1 z2 z3 => kk h2 _ ls' H' locs' hI2 z1 z2 z3)
    · cases ht
theorem lk_kind {p : Program} {l : Launch} {e : Env} {s : State} {m : MethodId} {below : List Frame} {meth : Method} {c : Code} {H : Heap} {locs : List Loc} {cells slots : Nat} {Q : State → Prop} {D : va_G} {ad : Nat → Nat} {cI cZ cQ cL : ClassId} {aO b Ln i : Nat} {xs : Nat → Int32} {ls : Array Slot} {h : HP} {o : Int64} {I : HP → Prop} (hfl : ∀ e : Env, l.admits e → e.platform.stackTraces = false) (hx : p.tables.exec = Jvm.exec) (hb : c.code = code) (hml : c.maxLocals = 7) (hown : s.vm.findClass "CashRecyclerLaw" = some m.cls) (hts : ∀ w ∈ q_WS, w.before #[Value.ref b] s = true) (hX : va_X b Ln xs s s.heap) (hbl : b < s.heap.size) (hL : q_Law D ad cI cZ cQ aO cL s) (hi : i + 2 < Ln) (hLn : Ln ≤ 1536) (hc : cells + 1 ≤ 664929) (hs : slots + 6 ≤ 7101316) (hl : lv_has ls 7 [(0, .ref b), (1, .ref (ad 0)), (2, .ref (ad 30)), (3, .ref aO), (4, .int (nI i))]) (hJ : va_P D qCl (q_J ad cI cZ cQ aO cL h o) H) (hS : va_S (q_A0 s) s.heap H locs) (hI : I h) (hop : q_opW I 82 126 [1, 0, 2] false [.inl (xs (i + 1)), .inl (xs (i + 2))]) (kk : ∀ (h' : HP) (o' : Int64) (ls' : Array Slot) (H' : Heap) (locs' : List Loc), I h' → lv_has ls' 7 [(0, .ref b), (1, .ref (ad 0)), (2, .ref (ad 30)), (3, .ref aO), (4, .int (nI i))] → va_P D qCl (q_J ad cI cZ cQ aO cL h' o') H' → va_S (q_A0 s) s.heap H' locs' → W p l e room_1 s m #[Value.ref b] below meth c H' locs' (cells + 1) (slots + 6) Q (F0 m 1214 ls' [])) : W p l e room_1 s m #[Value.ref b] below meth c H locs cells slots Q (F0 m 812 ls []) := by
  rcases hop h hI with ⟨v, h1, h2, hv, hC, hM, hth, hI2⟩ | ⟨t, x, v, h1, h2, ht, hv, hC, hM, hth, hI2⟩
  · obtain rfl := q_none hv
    exact lc_kind (o1 := o) hx hb hml hown hts hX hbl hL hi hLn hc hs hl hJ hS (w_kind_r hC) hM hth (m_thrown h2) (fun ls' H' locs' z1 z2 z3 => kk h2 _ ls' H' locs' hI2 z1 z2 z3)
  · obtain rfl := q_none hv
    rcases t with _ | _ | _ | t
    · cases ht
      exact lc_kind (o1 := o) (k := 1) hx hb hml hown hts hX hbl hL hi hLn hc hs hl hJ hS (w_kind_t1 hfl hC) hM hth (m_thrown h2) (fun ls' H' locs' z1 z2 z3 => kk h2 _ ls' H' locs' hI2 z1 z2 z3)
    · cases ht
      exact lc_kind (o1 := o) (k := 2) hx hb hml hown hts hX hbl hL hi hLn hc hs hl hJ hS (w_kind_t0 hfl hC) hM hth (m_thrown h2) (fun ls' H' locs' z1 z2 z3 => kk h2 _ ls' H' locs' hI2 z1 z2 z3)
    · cases ht
      exact lc_kind (o1 := o) (k := 3) hx hb hml hown hts hX hbl hL hi hLn hc hs hl hJ hS (w_kind_t2 hfl hC) hM hth (m_thrown h2) (fun ls' H' locs' z1 z2 z3 => kk h2 _ ls' H' locs' hI2 z1 z2 z3)
    · cases ht
theorem lk_refill {p : Program} {l : Launch} {e : Env} {s : State} {m : MethodId} {below : List Frame} {meth : Method} {c : Code} {H : Heap} {locs : List Loc} {cells slots : Nat} {Q : State → Prop} {D : va_G} {ad : Nat → Nat} {cI cZ cQ cL : ClassId} {aO b Ln i : Nat} {xs : Nat → Int32} {ls : Array Slot} {h : HP} {o : Int64} {I : HP → Prop} (hfl : ∀ e : Env, l.admits e → e.platform.stackTraces = false) (hx : p.tables.exec = Jvm.exec) (hb : c.code = code) (hml : c.maxLocals = 7) (hown : s.vm.findClass "CashRecyclerLaw" = some m.cls) (hts : ∀ w ∈ q_WS, w.before #[Value.ref b] s = true) (hX : va_X b Ln xs s s.heap) (hbl : b < s.heap.size) (hL : q_Law D ad cI cZ cQ aO cL s) (hi : i + 2 < Ln) (hLn : Ln ≤ 1536) (hc : cells + 1 ≤ 664929) (hs : slots + 6 ≤ 7101316) (hl : lv_has ls 7 [(0, .ref b), (1, .ref (ad 0)), (2, .ref (ad 30)), (3, .ref aO), (4, .int (nI i))]) (hJ : va_P D qCl (q_J ad cI cZ cQ aO cL h o) H) (hS : va_S (q_A0 s) s.heap H locs) (hI : I h) (hop : q_opW I 83 127 [1, 0] true [.inl (xs (i + 1)), .inl (xs (i + 2))]) (kk : ∀ (h' : HP) (o' : Int64) (ls' : Array Slot) (H' : Heap) (locs' : List Loc), I h' → lv_has ls' 7 [(0, .ref b), (1, .ref (ad 0)), (2, .ref (ad 30)), (3, .ref aO), (4, .int (nI i))] → va_P D qCl (q_J ad cI cZ cQ aO cL h' o') H' → va_S (q_A0 s) s.heap H' locs' → W p l e room_1 s m #[Value.ref b] below meth c H' locs' (cells + 1) (slots + 6) Q (F0 m 1214 ls' [])) : W p l e room_1 s m #[Value.ref b] below meth c H locs cells slots Q (F0 m 860 ls []) := by
  rcases hop h hI with ⟨v, h1, h2, hv, hC, hM, hth, hI2⟩ | ⟨t, x, v, h1, h2, ht, hv, hC, hM, hth, hI2⟩
  · obtain ⟨v, rfl⟩ := q_some hv
    exact lc_refill (o1 := v.toInt64) hx hb hml hown hts hX hbl hL hi hLn hc hs hl hJ hS (w_refill_r hC) hM hth (m_thrown h2) (fun _ => rfl) (fun ls' H' locs' z1 z2 z3 => kk h2 _ ls' H' locs' hI2 z1 z2 z3)
  · obtain ⟨v, rfl⟩ := q_some hv
    rcases t with _ | _ | t
    · cases ht
      exact lc_refill (o1 := o) (k := 1) hx hb hml hown hts hX hbl hL hi hLn hc hs hl hJ hS (w_refill_t1 hfl hC) hM hth (m_thrown h2) (fun z => absurd z (by decide)) (fun ls' H' locs' z1 z2 z3 => kk h2 _ ls' H' locs' hI2 z1 z2 z3)
    · cases ht
      exact lc_refill (o1 := o) (k := 2) hx hb hml hown hts hX hbl hL hi hLn hc hs hl hJ hS (w_refill_t0 hfl hC) hM hth (m_thrown h2) (fun z => absurd z (by decide)) (fun ls' H' locs' z1 z2 z3 => kk h2 _ ls' H' locs' hI2 z1 z2 z3)
    · cases ht
theorem lk_empty {p : Program} {l : Launch} {e : Env} {s : State} {m : MethodId} {below : List Frame} {meth : Method} {c : Code} {H : Heap} {locs : List Loc} {cells slots : Nat} {Q : State → Prop} {D : va_G} {ad : Nat → Nat} {cI cZ cQ cL : ClassId} {aO b Ln i : Nat} {xs : Nat → Int32} {ls : Array Slot} {h : HP} {o : Int64} {I : HP → Prop} (hfl : ∀ e : Env, l.admits e → e.platform.stackTraces = false) (hx : p.tables.exec = Jvm.exec) (hb : c.code = code) (hml : c.maxLocals = 7) (hown : s.vm.findClass "CashRecyclerLaw" = some m.cls) (hts : ∀ w ∈ q_WS, w.before #[Value.ref b] s = true) (hX : va_X b Ln xs s s.heap) (hbl : b < s.heap.size) (hL : q_Law D ad cI cZ cQ aO cL s) (hi : i + 2 < Ln) (hLn : Ln ≤ 1536) (hc : cells + 1 ≤ 664929) (hs : slots + 6 ≤ 7101316) (hl : lv_has ls 7 [(0, .ref b), (1, .ref (ad 0)), (2, .ref (ad 30)), (3, .ref aO), (4, .int (nI i))]) (hJ : va_P D qCl (q_J ad cI cZ cQ aO cL h o) H) (hS : va_S (q_A0 s) s.heap H locs) (hI : I h) (hop : q_opW I 85 128 [1, 0] true [.inl (xs (i + 1))]) (kk : ∀ (h' : HP) (o' : Int64) (ls' : Array Slot) (H' : Heap) (locs' : List Loc), I h' → lv_has ls' 7 [(0, .ref b), (1, .ref (ad 0)), (2, .ref (ad 30)), (3, .ref aO), (4, .int (nI i))] → va_P D qCl (q_J ad cI cZ cQ aO cL h' o') H' → va_S (q_A0 s) s.heap H' locs' → W p l e room_1 s m #[Value.ref b] below meth c H' locs' (cells + 1) (slots + 6) Q (F0 m 1214 ls' [])) : W p l e room_1 s m #[Value.ref b] below meth c H locs cells slots Q (F0 m 928 ls []) := by
  rcases hop h hI with ⟨v, h1, h2, hv, hC, hM, hth, hI2⟩ | ⟨t, x, v, h1, h2, ht, hv, hC, hM, hth, hI2⟩
  · obtain ⟨v, rfl⟩ := q_some hv
    exact lc_empty (o1 := v.toInt64) hx hb hml hown hts hX hbl hL hi hLn hc hs hl hJ hS (w_empty_r hC) hM hth (m_thrown h2) (fun _ => rfl) (fun ls' H' locs' z1 z2 z3 => kk h2 _ ls' H' locs' hI2 z1 z2 z3)
  · obtain ⟨v, rfl⟩ := q_some hv
    rcases t with _ | _ | t
    · cases ht
      exact lc_empty (o1 := o) (k := 1) hx hb hml hown hts hX hbl hL hi hLn hc hs hl hJ hS (w_empty_t1 hfl hC) hM hth (m_thrown h2) (fun z => absurd z (by decide)) (fun ls' H' locs' z1 z2 z3 => kk h2 _ ls' H' locs' hI2 z1 z2 z3)
    · cases ht
      exact lc_empty (o1 := o) (k := 2) hx hb hml hown hts hX hbl hL hi hLn hc hs hl hJ hS (w_empty_t0 hfl hC) hM hth (m_thrown h2) (fun z => absurd z (by decide)) (fun ls' H' locs' z1 z2 z3 => kk h2 _ ls' H' locs' hI2 z1 z2 z3)
    · cases ht
theorem lk_state {p : Program} {l : Launch} {e : Env} {s : State} {m : MethodId} {below : List Frame} {meth : Method} {c : Code} {H : Heap} {locs : List Loc} {cells slots : Nat} {Q : State → Prop} {D : va_G} {ad : Nat → Nat} {cI cZ cQ cL : ClassId} {aO b Ln i : Nat} {xs : Nat → Int32} {ls : Array Slot} {h : HP} {o : Int64} {I : HP → Prop} (hfl : ∀ e : Env, l.admits e → e.platform.stackTraces = false) (hx : p.tables.exec = Jvm.exec) (hb : c.code = code) (hml : c.maxLocals = 7) (hown : s.vm.findClass "CashRecyclerLaw" = some m.cls) (hts : ∀ w ∈ q_WS, w.before #[Value.ref b] s = true) (hX : va_X b Ln xs s s.heap) (hbl : b < s.heap.size) (hL : q_Law D ad cI cZ cQ aO cL s) (hi : i + 2 < Ln) (hLn : Ln ≤ 1536) (hc : cells + 1 ≤ 664929) (hs : slots + 6 ≤ 7101316) (hl : lv_has ls 7 [(0, .ref b), (1, .ref (ad 0)), (2, .ref (ad 30)), (3, .ref aO), (4, .int (nI i))]) (hJ : va_P D qCl (q_J ad cI cZ cQ aO cL h o) H) (hS : va_S (q_A0 s) s.heap H locs) (hI : I h) (hop : q_opD I 86 129) (kk : ∀ (h' : HP) (o' : Int64) (ls' : Array Slot) (H' : Heap) (locs' : List Loc), I h' → lv_has ls' 7 [(0, .ref b), (1, .ref (ad 0)), (2, .ref (ad 30)), (3, .ref aO), (4, .int (nI i))] → va_P D qCl (q_J ad cI cZ cQ aO cL h' o') H' → va_S (q_A0 s) s.heap H' locs' → W p l e room_1 s m #[Value.ref b] below meth c H' locs' (cells + 1) (slots + 6) Q (F0 m 1214 ls' [])) : W p l e room_1 s m #[Value.ref b] below meth c H locs cells slots Q (F0 m 984 ls []) := by
  obtain ⟨v, h1, h2, hC, hM, hI2⟩ := hop h hI
  exact lc_state (o1 := o) hx hb hml hown hts hX hbl hL hi hLn hc hs hl hJ hS hC hM (fun ls' H' locs' z1 z2 z3 => kk h2 o ls' H' locs' hI2 z1 z2 z3)
theorem lk_notes {p : Program} {l : Launch} {e : Env} {s : State} {m : MethodId} {below : List Frame} {meth : Method} {c : Code} {H : Heap} {locs : List Loc} {cells slots : Nat} {Q : State → Prop} {D : va_G} {ad : Nat → Nat} {cI cZ cQ cL : ClassId} {aO b Ln i : Nat} {xs : Nat → Int32} {ls : Array Slot} {h : HP} {o : Int64} {I : HP → Prop} (hfl : ∀ e : Env, l.admits e → e.platform.stackTraces = false) (hx : p.tables.exec = Jvm.exec) (hb : c.code = code) (hml : c.maxLocals = 7) (hown : s.vm.findClass "CashRecyclerLaw" = some m.cls) (hts : ∀ w ∈ q_WS, w.before #[Value.ref b] s = true) (hX : va_X b Ln xs s s.heap) (hbl : b < s.heap.size) (hL : q_Law D ad cI cZ cQ aO cL s) (hi : i + 2 < Ln) (hLn : Ln ≤ 1536) (hc : cells + 1 ≤ 664929) (hs : slots + 6 ≤ 7101316) (hl : lv_has ls 7 [(0, .ref b), (1, .ref (ad 0)), (2, .ref (ad 30)), (3, .ref aO), (4, .int (nI i))]) (hJ : va_P D qCl (q_J ad cI cZ cQ aO cL h o) H) (hS : va_S (q_A0 s) s.heap H locs) (hI : I h) (hop : q_opW I 88 133 [0] true [.inl (xs (i + 1)), .inl (xs (i + 2))]) (kk : ∀ (h' : HP) (o' : Int64) (ls' : Array Slot) (H' : Heap) (locs' : List Loc), I h' → lv_has ls' 7 [(0, .ref b), (1, .ref (ad 0)), (2, .ref (ad 30)), (3, .ref aO), (4, .int (nI i))] → va_P D qCl (q_J ad cI cZ cQ aO cL h' o') H' → va_S (q_A0 s) s.heap H' locs' → W p l e room_1 s m #[Value.ref b] below meth c H' locs' (cells + 1) (slots + 6) Q (F0 m 1214 ls' [])) : W p l e room_1 s m #[Value.ref b] below meth c H locs cells slots Q (F0 m 997 ls []) := by
  rcases hop h hI with ⟨v, h1, h2, hv, hC, hM, hth, hI2⟩ | ⟨t, x, v, h1, h2, ht, hv, hC, hM, hth, hI2⟩
  · obtain ⟨v, rfl⟩ := q_some hv
    exact lc_notes (o1 := v.toInt64) hx hb hml hown hts hX hbl hL hi hLn hc hs hl hJ hS (w_notes_r hC) hM hth (m_thrown h2) (fun _ => rfl) (fun ls' H' locs' z1 z2 z3 => kk h2 _ ls' H' locs' hI2 z1 z2 z3)
  · obtain ⟨v, rfl⟩ := q_some hv
    rcases t with _ | t
    · cases ht
      exact lc_notes (o1 := o) (k := 1) hx hb hml hown hts hX hbl hL hi hLn hc hs hl hJ hS (w_notes_t0 hfl hC) hM hth (m_thrown h2) (fun z => absurd z (by decide)) (fun ls' H' locs' z1 z2 z3 => kk h2 _ ls' H' locs' hI2 z1 z2 z3)
    · cases ht
theorem lk_cassette {p : Program} {l : Launch} {e : Env} {s : State} {m : MethodId} {below : List Frame} {meth : Method} {c : Code} {H : Heap} {locs : List Loc} {cells slots : Nat} {Q : State → Prop} {D : va_G} {ad : Nat → Nat} {cI cZ cQ cL : ClassId} {aO b Ln i : Nat} {xs : Nat → Int32} {ls : Array Slot} {h : HP} {o : Int64} {I : HP → Prop} (hfl : ∀ e : Env, l.admits e → e.platform.stackTraces = false) (hx : p.tables.exec = Jvm.exec) (hb : c.code = code) (hml : c.maxLocals = 7) (hown : s.vm.findClass "CashRecyclerLaw" = some m.cls) (hts : ∀ w ∈ q_WS, w.before #[Value.ref b] s = true) (hX : va_X b Ln xs s s.heap) (hbl : b < s.heap.size) (hL : q_Law D ad cI cZ cQ aO cL s) (hi : i + 2 < Ln) (hLn : Ln ≤ 1536) (hc : cells + 1 ≤ 664929) (hs : slots + 6 ≤ 7101316) (hl : lv_has ls 7 [(0, .ref b), (1, .ref (ad 0)), (2, .ref (ad 30)), (3, .ref aO), (4, .int (nI i))]) (hJ : va_P D qCl (q_J ad cI cZ cQ aO cL h o) H) (hS : va_S (q_A0 s) s.heap H locs) (hI : I h) (hop : q_opW I 89 134 [0] true [.inl (xs (i + 1)), .inl (xs (i + 2))]) (kk : ∀ (h' : HP) (o' : Int64) (ls' : Array Slot) (H' : Heap) (locs' : List Loc), I h' → lv_has ls' 7 [(0, .ref b), (1, .ref (ad 0)), (2, .ref (ad 30)), (3, .ref aO), (4, .int (nI i))] → va_P D qCl (q_J ad cI cZ cQ aO cL h' o') H' → va_S (q_A0 s) s.heap H' locs' → W p l e room_1 s m #[Value.ref b] below meth c H' locs' (cells + 1) (slots + 6) Q (F0 m 1214 ls' [])) : W p l e room_1 s m #[Value.ref b] below meth c H locs cells slots Q (F0 m 1065 ls []) := by
  rcases hop h hI with ⟨v, h1, h2, hv, hC, hM, hth, hI2⟩ | ⟨t, x, v, h1, h2, ht, hv, hC, hM, hth, hI2⟩
  · obtain ⟨v, rfl⟩ := q_some hv
    exact lc_cassette (o1 := v.toInt64) hx hb hml hown hts hX hbl hL hi hLn hc hs hl hJ hS (w_cassette_r hC) hM hth (m_thrown h2) (fun _ => rfl) (fun ls' H' locs' z1 z2 z3 => kk h2 _ ls' H' locs' hI2 z1 z2 z3)
  · obtain ⟨v, rfl⟩ := q_some hv
    rcases t with _ | t
    · cases ht
      exact lc_cassette (o1 := o) (k := 1) hx hb hml hown hts hX hbl hL hi hLn hc hs hl hJ hS (w_cassette_t0 hfl hC) hM hth (m_thrown h2) (fun z => absurd z (by decide)) (fun ls' H' locs' z1 z2 z3 => kk h2 _ ls' H' locs' hI2 z1 z2 z3)
    · cases ht
theorem lk_belt {p : Program} {l : Launch} {e : Env} {s : State} {m : MethodId} {below : List Frame} {meth : Method} {c : Code} {H : Heap} {locs : List Loc} {cells slots : Nat} {Q : State → Prop} {D : va_G} {ad : Nat → Nat} {cI cZ cQ cL : ClassId} {aO b Ln i : Nat} {xs : Nat → Int32} {ls : Array Slot} {h : HP} {o : Int64} {I : HP → Prop} (hfl : ∀ e : Env, l.admits e → e.platform.stackTraces = false) (hx : p.tables.exec = Jvm.exec) (hb : c.code = code) (hml : c.maxLocals = 7) (hown : s.vm.findClass "CashRecyclerLaw" = some m.cls) (hts : ∀ w ∈ q_WS, w.before #[Value.ref b] s = true) (hX : va_X b Ln xs s s.heap) (hbl : b < s.heap.size) (hL : q_Law D ad cI cZ cQ aO cL s) (hi : i + 2 < Ln) (hLn : Ln ≤ 1536) (hc : cells + 1 ≤ 664929) (hs : slots + 6 ≤ 7101316) (hl : lv_has ls 7 [(0, .ref b), (1, .ref (ad 0)), (2, .ref (ad 30)), (3, .ref aO), (4, .int (nI i))]) (hJ : va_P D qCl (q_J ad cI cZ cQ aO cL h o) H) (hS : va_S (q_A0 s) s.heap H locs) (hI : I h) (hop : q_opW I 90 135 [0] true [.inl (xs (i + 1)), .inl (xs (i + 2))]) (kk : ∀ (h' : HP) (o' : Int64) (ls' : Array Slot) (H' : Heap) (locs' : List Loc), I h' → lv_has ls' 7 [(0, .ref b), (1, .ref (ad 0)), (2, .ref (ad 30)), (3, .ref aO), (4, .int (nI i))] → va_P D qCl (q_J ad cI cZ cQ aO cL h' o') H' → va_S (q_A0 s) s.heap H' locs' → W p l e room_1 s m #[Value.ref b] below meth c H' locs' (cells + 1) (slots + 6) Q (F0 m 1214 ls' [])) : W p l e room_1 s m #[Value.ref b] below meth c H locs cells slots Q (F0 m 1133 ls []) := by
  rcases hop h hI with ⟨v, h1, h2, hv, hC, hM, hth, hI2⟩ | ⟨t, x, v, h1, h2, ht, hv, hC, hM, hth, hI2⟩
  · obtain ⟨v, rfl⟩ := q_some hv
    exact lc_belt (o1 := v.toInt64) hx hb hml hown hts hX hbl hL hi hLn hc hs hl hJ hS (w_belt_r hC) hM hth (m_thrown h2) (fun _ => rfl) (fun ls' H' locs' z1 z2 z3 => kk h2 _ ls' H' locs' hI2 z1 z2 z3)
  · obtain ⟨v, rfl⟩ := q_some hv
    rcases t with _ | t
    · cases ht
      exact lc_belt (o1 := o) (k := 1) hx hb hml hown hts hX hbl hL hi hLn hc hs hl hJ hS (w_belt_t0 hfl hC) hM hth (m_thrown h2) (fun z => absurd z (by decide)) (fun ls' H' locs' z1 z2 z3 => kk h2 _ ls' H' locs' hI2 z1 z2 z3)
    · cases ht
theorem lk_balance {p : Program} {l : Launch} {e : Env} {s : State} {m : MethodId} {below : List Frame} {meth : Method} {c : Code} {H : Heap} {locs : List Loc} {cells slots : Nat} {Q : State → Prop} {D : va_G} {ad : Nat → Nat} {cI cZ cQ cL : ClassId} {aO b Ln i : Nat} {xs : Nat → Int32} {ls : Array Slot} {h : HP} {o : Int64} {I : HP → Prop} (hfl : ∀ e : Env, l.admits e → e.platform.stackTraces = false) (hx : p.tables.exec = Jvm.exec) (hb : c.code = code) (hml : c.maxLocals = 7) (hown : s.vm.findClass "CashRecyclerLaw" = some m.cls) (hts : ∀ w ∈ q_WS, w.before #[Value.ref b] s = true) (hX : va_X b Ln xs s s.heap) (hbl : b < s.heap.size) (hL : q_Law D ad cI cZ cQ aO cL s) (hi : i + 2 < Ln) (hLn : Ln ≤ 1536) (hc : cells + 1 ≤ 664929) (hs : slots + 6 ≤ 7101316) (hl : lv_has ls 7 [(0, .ref b), (1, .ref (ad 0)), (2, .ref (ad 30)), (3, .ref aO), (4, .int (nI i))]) (hJ : va_P D qCl (q_J ad cI cZ cQ aO cL h o) H) (hS : va_S (q_A0 s) s.heap H locs) (hI : I h) (hop : q_opD I 91 136) (kk : ∀ (h' : HP) (o' : Int64) (ls' : Array Slot) (H' : Heap) (locs' : List Loc), I h' → lv_has ls' 7 [(0, .ref b), (1, .ref (ad 0)), (2, .ref (ad 30)), (3, .ref aO), (4, .int (nI i))] → va_P D qCl (q_J ad cI cZ cQ aO cL h' o') H' → va_S (q_A0 s) s.heap H' locs' → W p l e room_1 s m #[Value.ref b] below meth c H' locs' (cells + 1) (slots + 6) Q (F0 m 1214 ls' [])) : W p l e room_1 s m #[Value.ref b] below meth c H locs cells slots Q (F0 m 1201 ls []) := by
  obtain ⟨v, h1, h2, hC, hM, hI2⟩ := hop h hI
  exact lc_balance (o1 := o) hx hb hml hown hts hX hbl hL hi hLn hc hs hl hJ hS hC hM (fun ls' H' locs' z1 z2 z3 => kk h2 o ls' H' locs' hI2 z1 z2 z3)
end
section
/-! THE CLAIM OUT OF ONE WALK OF THE LAW'S BODY. Your part is whole_start (and what it stands on); all else here is the same for every law, but numbers. -/
def R_law : String := "CashRecyclerLaw"
def lw_P (b : Addr) (xs : List Int32) (args : Array Value) (s : State) : Prop := args = #[.ref b] ∧ s.IntsAt b xs ∧ xs.length ≤ 1536 ∧ (Jvm.Cond.and given_1 narrow_1).before args s = true
def lw_Q (_ : Array Value) (s : State) (o : Outcome) (t : State) : Prop := o = .returned (some (.int 1)) ∧ Framed s o t [] 664929 7101316
def lw_Z (below : List Frame) (a : Array Value) (s : State) : State → Prop := fun t => ∃ o, t.status = .running ∧ Ended t below o ∧ lw_Q a s o t
/-- the law's own end, with 1 on the stack, nothing written that was there before, its room as the claim has it -/
theorem lw_ret {p : Program} {l : Launch} {e : Env} {s : State} {m : MethodId} {below : List Frame} {meth : Method} {c : Code} {b : Nat} (hx : p.tables.exec = Jvm.exec) (hb : c.code = code) (hr : meth.sig.returnType = ret) (hlocks : meth.locks = false) {pc : Nat} {H : Heap} {ls : Array Slot} (hdg : decode code pc = .ok (.ireturn, 1)) : W p l e room_1 s m #[Value.ref b] below meth c H [] 664929 7101316 (lw_Z below #[Value.ref b] s) (F0 m pc ls [.int 1]) := by
  intro T hT X
  obtain ⟨fs, hret, hrun, hended, hW, hframe⟩ := X.leave (v := some (.int 1)) (hlocks := hlocks) (fun h => by rw [hr] at h; cases h)
  have hmeth' : T.vm.method? m = some meth := X.method'
  refine ⟨T.setFrames fs, ?_, .returned (some (.int 1)), hrun, hended, rfl, ⟨_, rfl⟩, hW, hframe⟩
  jvm_step X.here [X.here.top, hx, hb, hdg, hmeth', hr, ret, narrow_b1]
  (try refine ⟨rfl, ?_⟩); (try refine ⟨rfl, ?_⟩)
  first | (intro acts; rw [hret _ acts rfl rfl rfl]) | rw [hret _ _ rfl rfl rfl]
  exact Steps.refl _
/-- what holds at the law's entry: the machine, the code, the tables' words (any of lw_tbl by 'hts w (by decide +kernel)'), the script of L ints xs at the cell b, what the Statement gives of the start (any of its parts by flat_of_before) -/
def lw_At (p : Program) (s : State) (m : MethodId) (meth : Method) (c : Code) (b L : Nat) (xs : Nat → Int32) : Prop :=
  p.tables.exec = Jvm.exec ∧ c.code = code ∧ meth.sig.returnType = ret ∧ c.maxLocals = 7 ∧ s.vm.findClass R_law = some m.cls ∧ (∀ w ∈ lw_tbl, w.before #[Value.ref b] s = true) ∧ va_X b L xs s s.heap ∧ b < s.heap.size ∧ meth.locks = false ∧ (Jvm.Cond.and given_1 narrow_1).before #[Value.ref b] s = true
end
section
/-! THE LOOP AND ITS END. -/
set_option maxHeartbeats 8000000 in
theorem law_loop {p : Program} {l : Launch} {e : Env} {s : State} {m : MethodId} {below : List Frame} {meth : Method} {c : Code} {D : va_G} {ad : Nat → Nat} {cI cZ cQ cL : ClassId} {aO b Ln : Nat} {xs : Nat → Int32} {I : HP → Prop} (hfl : ∀ e : Env, l.admits e → e.platform.stackTraces = false) (hx : p.tables.exec = Jvm.exec) (hb : c.code = code) (hml : c.maxLocals = 7) (hr : meth.sig.returnType = ret) (hlk : meth.locks = false) (hown : s.vm.findClass "CashRecyclerLaw" = some m.cls) (hts : ∀ w ∈ q_WS, w.before #[Value.ref b] s = true) (hX : va_X b Ln xs s s.heap) (hbl : b < s.heap.size) (hL : q_Law D ad cI cZ cQ aO cL s) (hLn : Ln ≤ 1536) (hAll : q_All I) :
    ∀ (n i cells slots : Nat) (h : HP) (o : Int64) (H : Heap) (locs : List Loc) (ls : Array Slot), Ln ≤ i + n → i ≤ Ln + 2 → cells + n + 1 ≤ 664929 → slots + 6 * n + 6 ≤ 7101316 → I h → lv_has ls 7 [(0, .ref b), (1, .ref (ad 0)), (2, .ref (ad 30)), (3, .ref aO), (4, .int (nI i))] → va_P D qCl (q_J ad cI cZ cQ aO cL h o) H → va_S (q_A0 s) s.heap H locs → W p l e room_1 s m #[Value.ref b] below meth c H locs cells slots (lw_Z below #[Value.ref b] s) (F0 m 23 ls []) := by
  intro n
  induction n using Nat.strongRecOn with
  | _ n ih =>
    intro i cells slots h o H locs ls hn hi2 hc hs hI hl hJ hS
    refine lv_iload hx hb dl_23 (lv_at hl 4 rfl) ?_
    refine lv_aload_n hx hb dl_25 rfl (lv_at hl 0 rfl) ?_
    refine va_slen hx hb hX hbl (fun z => by have : s.heap.size ≤ b := z; omega) hS dl_26 ?_
    refine lv_iconst (v := 3) hx hb dl_27 (by decide) ?_
    refine lv_isub hx hb dl_28 ?_
    refine lv_icmp_gt hx hb dl_29 rfl (fun hgt => ?_) (fun hgt => ?_)
    · refine lv_iconst (v := 1) hx hb dl_1220 (by decide) ?_
      refine va_forget hS.2.2 ?_
      refine W.widen (k := 664929) (n := 7101316) (by omega) (by omega) ?_
      exact lw_ret hx hb hr hlk dl_1221
    · have hlt : i + 2 < Ln := by
        have e1 : (Int32.ofNat Ln - 3 : Int32) = nI Ln - nI 3 := rfl
        rw [e1] at hgt
        by_cases h3 : Ln < 3
        · exfalso
          apply hgt
          rw [Int32.lt_iff_toInt_lt, pk_sub_toInt (by omega) (by decide), nI_toInt (by omega)]
          omega
        · rw [Int32.lt_iff_toInt_lt, pk_sub_toInt (by omega) (by decide), nI_toInt (by omega)] at hgt
          omega
      have hend : ∀ (h' : HP) (o' : Int64) (ls' : Array Slot) (H' : Heap) (locs' : List Loc), I h' → lv_has ls' 7 [(0, .ref b), (1, .ref (ad 0)), (2, .ref (ad 30)), (3, .ref aO), (4, .int (nI i))] → va_P D qCl (q_J ad cI cZ cQ aO cL h' o') H' → va_S (q_A0 s) s.heap H' locs' → W p l e room_1 s m #[Value.ref b] below meth c H' locs' (cells + 1) (slots + 6) (lw_Z below #[Value.ref b] s) (F0 m 1214 ls' []) := by
        intro h' o' ls' H' locs' hI' hl' hJ' hS'
        refine lv_iinc (k := 4) hx hb dl_1214 hl' rfl rfl (by decide) rfl (fun ls2 hl2 => ?_)
        refine lv_goto hx hb dl_1217 rfl ?_
        have e3 : nI i + Int32.ofInt 3 = nI (i + 3) := nI_add i 3
        have hl3 : lv_has ls2 7 [(0, .ref b), (1, .ref (ad 0)), (2, .ref (ad 30)), (3, .ref aO), (4, .int (nI (i + 3)))] := by
          rw [← e3]
          exact lv_sub hl2 [1, 2, 3, 4, 0] rfl
        exact ih (n - 3) (by omega) (i + 3) (cells + 1) (slots + 6) h' o' H' locs' ls2 (by omega) (by omega) (by omega) (by omega) hI' hl3 hJ' hS'
      obtain ⟨op0, op1, op2, op3, op4, op5, op6, op7, op8, op9, op10, op11, op12, op13, op14, op15, op16, op17, op18, op19, op20, op21, op22, op23⟩ := hAll
      refine lv_aload_n hx hb dl_32 rfl (lv_at hl 0 rfl) ?_
      refine lv_iload hx hb dl_33 (lv_at hl 4 rfl) ?_
      refine va_sld hx hb hX hbl (fun z => by have : s.heap.size ≤ b := z; omega) hS (nI_in (by omega) (by omega)) dl_35 ?_
      refine lv_bipush (v := 31) hx hb dl_36 (by decide) ?_
      refine lv_iand hx hb dl_38 ?_
      obtain ⟨j, hj, ej⟩ := pk_andE (xs (nI i).toNatClampNeg) (m := 31) 5 (by decide)
      rw [ej]
      have hj' : (nI j).toInt = (j : Int) := nI_toInt (by omega)
      by_cases hbig : 24 ≤ j
      · refine lv_tableOut (tgt := 1214) hx hb dl_39 (Or.inr (by rw [hj']; omega)) rfl ?_
        refine W.widen (k := cells + 1) (n := slots + 6) (by omega) (by omega) ?_
        exact hend h o ls H locs hI hl hJ hS
      · rcases (show j = 0 ∨ j = 1 ∨ j = 2 ∨ j = 3 ∨ j = 4 ∨ j = 5 ∨ j = 6 ∨ j = 7 ∨ j = 8 ∨ j = 9 ∨ j = 10 ∨ j = 11 ∨ j = 12 ∨ j = 13 ∨ j = 14 ∨ j = 15 ∨ j = 16 ∨ j = 17 ∨ j = 18 ∨ j = 19 ∨ j = 20 ∨ j = 21 ∨ j = 22 ∨ j = 23 by omega) with rfl | rfl | rfl | rfl | rfl | rfl | rfl | rfl | rfl | rfl | rfl | rfl | rfl | rfl | rfl | rfl | rfl | rfl | rfl | rfl | rfl | rfl | rfl | rfl
        · refine lv_tableIn (off := 109) (tgt := 148) hx hb dl_39 (by rw [hj']; decide) (by rw [hj']; decide) (by rw [hj']; rfl) rfl ?_
          exact lk_insert hfl hx hb hml hown hts hX hbl hL hlt hLn (by omega) (by omega) hl hJ hS hI (op0 (xs (i + 1))) hend
        · refine lv_tableIn (off := 165) (tgt := 204) hx hb dl_39 (by rw [hj']; decide) (by rw [hj']; decide) (by rw [hj']; rfl) rfl ?_
          exact lk_verdict hfl hx hb hml hown hts hX hbl hL hlt hLn (by omega) (by omega) hl hJ hS hI (op1 (xs (i + 1))) hend
        · refine lv_tableIn (off := 221) (tgt := 260) hx hb dl_39 (by rw [hj']; decide) (by rw [hj']; decide) (by rw [hj']; rfl) rfl ?_
          exact lk_deposit hfl hx hb hml hown hts hX hbl hL hlt hLn (by omega) (by omega) hl hJ hS hI (op2) hend
        · refine lv_tableIn (off := 245) (tgt := 284) hx hb dl_39 (by rw [hj']; decide) (by rw [hj']; decide) (by rw [hj']; rfl) rfl ?_
          exact lk_confirm hfl hx hb hml hown hts hX hbl hL hlt hLn (by omega) (by omega) hl hJ hS hI (op3) hend
        · refine lv_tableIn (off := 269) (tgt := 308) hx hb dl_39 (by rw [hj']; decide) (by rw [hj']; decide) (by rw [hj']; rfl) rfl ?_
          exact lk_giveBack hfl hx hb hml hown hts hX hbl hL hlt hLn (by omega) (by omega) hl hJ hS hI (op4) hend
        · refine lv_tableIn (off := 293) (tgt := 332) hx hb dl_39 (by rw [hj']; decide) (by rw [hj']; decide) (by rw [hj']; rfl) rfl ?_
          exact lk_payout hfl hx hb hml hown hts hX hbl hL hlt hLn (by omega) (by omega) hl hJ hS hI (op5 (xs (i + 1))) hend
        · refine lv_tableIn (off := 349) (tgt := 388) hx hb dl_39 (by rw [hj']; decide) (by rw [hj']; decide) (by rw [hj']; rfl) rfl ?_
          exact lk_plan hfl hx hb hml hown hts hX hbl hL hlt hLn (by omega) (by omega) hl hJ hS hI (op6 (xs (i + 1)) (xs (i + 2))) hend
        · refine lv_tableIn (off := 417) (tgt := 456) hx hb dl_39 (by rw [hj']; decide) (by rw [hj']; decide) (by rw [hj']; rfl) rfl ?_
          exact lk_step hfl hx hb hml hown hts hX hbl hL hlt hLn (by omega) (by omega) hl hJ hS hI (op7 (xs (i + 1))) hend
        · refine lv_tableIn (off := 473) (tgt := 512) hx hb dl_39 (by rw [hj']; decide) (by rw [hj']; decide) (by rw [hj']; rfl) rfl ?_
          exact lk_taken hfl hx hb hml hown hts hX hbl hL hlt hLn (by omega) (by omega) hl hJ hS hI (op8) hend
        · refine lv_tableIn (off := 486) (tgt := 525) hx hb dl_39 (by rw [hj']; decide) (by rw [hj']; decide) (by rw [hj']; rfl) rfl ?_
          exact lk_stick hfl hx hb hml hown hts hX hbl hL hlt hLn (by omega) (by omega) hl hJ hS hI (op9 (xs (i + 1))) hend
        · refine lv_tableIn (off := 522) (tgt := 561) hx hb dl_39 (by rw [hj']; decide) (by rw [hj']; decide) (by rw [hj']; rfl) rfl ?_
          exact lk_open hfl hx hb hml hown hts hX hbl hL hlt hLn (by omega) (by omega) hl hJ hS hI (op10) hend
        · refine lv_tableIn (off := 546) (tgt := 585) hx hb dl_39 (by rw [hj']; decide) (by rw [hj']; decide) (by rw [hj']; rfl) rfl ?_
          exact lk_remove hfl hx hb hml hown hts hX hbl hL hlt hLn (by omega) (by omega) hl hJ hS hI (op11 (xs (i + 1))) hend
        · refine lv_tableIn (off := 602) (tgt := 641) hx hb dl_39 (by rw [hj']; decide) (by rw [hj']; decide) (by rw [hj']; rfl) rfl ?_
          exact lk_free hfl hx hb hml hown hts hX hbl hL hlt hLn (by omega) (by omega) hl hJ hS hI (op12 (xs (i + 1))) hend
        · refine lv_tableIn (off := 665) (tgt := 704) hx hb dl_39 (by rw [hj']; decide) (by rw [hj']; decide) (by rw [hj']; rfl) rfl ?_
          exact lk_close hfl hx hb hml hown hts hX hbl hL hlt hLn (by omega) (by omega) hl hJ hS hI (op13) hend
        · refine lv_tableIn (off := 709) (tgt := 748) hx hb dl_39 (by rw [hj']; decide) (by rw [hj']; decide) (by rw [hj']; rfl) rfl ?_
          exact lk_power hfl hx hb hml hown hts hX hbl hL hlt hLn (by omega) (by omega) hl hJ hS hI (op14) hend
        · refine lv_tableIn (off := 722) (tgt := 761) hx hb dl_39 (by rw [hj']; decide) (by rw [hj']; decide) (by rw [hj']; rfl) rfl ?_
          exact lk_service hfl hx hb hml hown hts hX hbl hL hlt hLn (by omega) (by omega) hl hJ hS hI (op15) hend
        · refine lv_tableIn (off := 773) (tgt := 812) hx hb dl_39 (by rw [hj']; decide) (by rw [hj']; decide) (by rw [hj']; rfl) rfl ?_
          exact lk_kind hfl hx hb hml hown hts hX hbl hL hlt hLn (by omega) (by omega) hl hJ hS hI (op16 (xs (i + 1)) (xs (i + 2))) hend
        · refine lv_tableIn (off := 821) (tgt := 860) hx hb dl_39 (by rw [hj']; decide) (by rw [hj']; decide) (by rw [hj']; rfl) rfl ?_
          exact lk_refill hfl hx hb hml hown hts hX hbl hL hlt hLn (by omega) (by omega) hl hJ hS hI (op17 (xs (i + 1)) (xs (i + 2))) hend
        · refine lv_tableIn (off := 889) (tgt := 928) hx hb dl_39 (by rw [hj']; decide) (by rw [hj']; decide) (by rw [hj']; rfl) rfl ?_
          exact lk_empty hfl hx hb hml hown hts hX hbl hL hlt hLn (by omega) (by omega) hl hJ hS hI (op18 (xs (i + 1))) hend
        · refine lv_tableIn (off := 945) (tgt := 984) hx hb dl_39 (by rw [hj']; decide) (by rw [hj']; decide) (by rw [hj']; rfl) rfl ?_
          exact lk_state hfl hx hb hml hown hts hX hbl hL hlt hLn (by omega) (by omega) hl hJ hS hI (op19) hend
        · refine lv_tableIn (off := 958) (tgt := 997) hx hb dl_39 (by rw [hj']; decide) (by rw [hj']; decide) (by rw [hj']; rfl) rfl ?_
          exact lk_notes hfl hx hb hml hown hts hX hbl hL hlt hLn (by omega) (by omega) hl hJ hS hI (op20 (xs (i + 1)) (xs (i + 2))) hend
        · refine lv_tableIn (off := 1026) (tgt := 1065) hx hb dl_39 (by rw [hj']; decide) (by rw [hj']; decide) (by rw [hj']; rfl) rfl ?_
          exact lk_cassette hfl hx hb hml hown hts hX hbl hL hlt hLn (by omega) (by omega) hl hJ hS hI (op21 (xs (i + 1)) (xs (i + 2))) hend
        · refine lv_tableIn (off := 1094) (tgt := 1133) hx hb dl_39 (by rw [hj']; decide) (by rw [hj']; decide) (by rw [hj']; rfl) rfl ?_
          exact lk_belt hfl hx hb hml hown hts hX hbl hL hlt hLn (by omega) (by omega) hl hJ hS hI (op22 (xs (i + 1)) (xs (i + 2))) hend
        · refine lv_tableIn (off := 1162) (tgt := 1201) hx hb dl_39 (by rw [hj']; decide) (by rw [hj']; decide) (by rw [hj']; rfl) rfl ?_
          exact lk_balance hfl hx hb hml hown hts hX hbl hL hlt hLn (by omega) (by omega) hl hJ hS hI (op23) hend
end
section
/-! WORDS FOR THE PURE PART. -/
/-- method j comes from here to an end of which F holds -/
def Wp (j : Nat) (c : PG) (F : PO → Prop) : Prop := ∃ r, Ev j c r ∧ F r
section WROWS
variable {j pc n : Nat} {i : Instr} {ax : List Nat} {l : PL} {st : List PV} {h : HP} {F : PO → Prop}
theorem w_st {pc' : Nat} {l' : PL} {st' : List PV} {h' : HP} (hc : pe_at (qCod j) pc = some (i, n, ax)) (hs : p1i j i n ax pc l st h = some (.inl (pc', l', st', h'))) (k : Wp j (pc', l', st', h') F) : Wp j (pc, l, st, h) F := by
  obtain ⟨r, h1, h2⟩ := k
  exact ⟨r, e_st hc hs h1, h2⟩
theorem w_no {pc' : Nat} {l' : PL} {st' : List PV} {h' : HP} {P : Prop} [Decidable P] (hc : pe_at (qCod j) pc = some (i, n, ax)) (hs : p1i j i n ax pc l st h = if P then none else some (.inl (pc', l', st', h'))) (hP : ¬ P) (k : Wp j (pc', l', st', h') F) : Wp j (pc, l, st, h) F := by
  obtain ⟨r, h1, h2⟩ := k
  exact ⟨r, e_no hc hs hP h1, h2⟩
theorem w_yes {pc' : Nat} {l' : PL} {st' : List PV} {h' : HP} {P : Prop} [Decidable P] (hc : pe_at (qCod j) pc = some (i, n, ax)) (hs : p1i j i n ax pc l st h = if P then some (.inl (pc', l', st', h')) else none) (hP : P) (k : Wp j (pc', l', st', h') F) : Wp j (pc, l, st, h) F := by
  obtain ⟨r, h1, h2⟩ := k
  exact ⟨r, e_yes hc hs hP h1, h2⟩
theorem w_br {p1' p2' : Nat} {l1 l2 : PL} {s1 s2 : List PV} {h1 h2 : HP} {P : Prop} [Decidable P] (hc : pe_at (qCod j) pc = some (i, n, ax)) (hs : p1i j i n ax pc l st h = if P then some (.inl (p1', l1, s1, h1)) else some (.inl (p2', l2, s2, h2))) (k1 : P → Wp j (p1', l1, s1, h1) F) (k2 : ¬ P → Wp j (p2', l2, s2, h2) F) : Wp j (pc, l, st, h) F := by
  by_cases hP : P
  · obtain ⟨r, q1, q2⟩ := k1 hP
    exact ⟨r, e_t hc hs hP q1, q2⟩
  · obtain ⟨r, q1, q2⟩ := k2 hP
    exact ⟨r, e_f hc hs hP q1, q2⟩
theorem w_end {r : PO} (hc : pe_at (qCod j) pc = some (i, n, ax)) (hs : p1i j i n ax pc l st h = some (.inr (.inl r))) (k : F r) : Wp j (pc, l, st, h) F := ⟨r, e_end hc hs, k⟩
theorem w_endY {r : PO} {P : Prop} [Decidable P] (hc : pe_at (qCod j) pc = some (i, n, ax)) (hs : p1i j i n ax pc l st h = if P then some (.inr (.inl r)) else none) (hP : P) (k : F r) : Wp j (pc, l, st, h) F := ⟨r, e_endY hc hs hP, k⟩
theorem w_ca {j' : Nat} {as t : List PV} {v : Option Int32} {h' : HP} (hc : pe_at (qCod j) pc = some (i, n, ax)) (hs : p1i j i n ax pc l st h = some (.inr (.inr (j', as, t)))) (q : Ec j' as h (.inl v, h')) (k : Wp j (pc + 3, l, (v.map Sum.inl).toList ++ t, h') F) : Wp j (pc, l, st, h) F := by
  obtain ⟨r, q1, q2⟩ := k
  exact ⟨r, e_call (by rw [e_p1 hc, hs]) q q1, q2⟩
/-- a callee is walked in its caller's place -/
theorem w_in {j' : Nat} {as t : List PV} (hc : pe_at (qCod j) pc = some (i, n, ax)) (hs : p1i j i n ax pc l st h = some (.inr (.inr (j', as, t)))) (k : Wp j' (0, pl_in 0 as, [], h) (fun r => ∃ v h', r = (.inl v, h') ∧ Wp j (pc + 3, l, (v.map Sum.inl).toList ++ t, h') F)) : Wp j (pc, l, st, h) F := by
  obtain ⟨r, q1, v, h', rfl, r2, q2, q3⟩ := k
  exact ⟨r2, e_call (by rw [e_p1 hc, hs]) q1 q2, q3⟩
theorem w_up {v : Option Int32} {h' : HP} {G : Option Int32 → HP → Prop} (k : G v h') : (fun r : PO => ∃ v h', r = (.inl v, h') ∧ G v h') (.inl v, h') := ⟨v, h', rfl, k⟩
theorem w_fin {as : List PV} {r : PO} (k : Wp j (0, pl_in 0 as, [], h) (fun z => z = r)) : Ec j as h r := by
  obtain ⟨z, h1, rfl⟩ := k
  exact h1
end WROWS
/-- a truth value as an int -/
def bI (P : Prop) [Decidable P] : Int32 := if P then 1 else 0
end
section
/-! LOCALITY: methods of one side neither read nor write the cells of the other. -/
def mix (S : Nat → Bool) (g k : HP) : HP := fun a b => if S a = true then g a b else k a b
theorem mix_at {S : Nat → Bool} {g k : HP} {o i : Nat} (h : S o = true) : mix S g k o i = g o i := by simp [mix, h]
theorem hu_mix {S : Nat → Bool} {g k : HP} {o i : Nat} {v : Int32} (h : S o = true) : hu (mix S g k) o i v = mix S (hu g o i v) k := by
  funext a b
  simp only [hu, mix]
  by_cases e : a = o
  · subst e; simp [h]
  · simp [e]
def lift (S : Nat → Bool) (k : HP) : PG ⊕ (PO ⊕ (Nat × List PV × List PV)) → PG ⊕ (PO ⊕ (Nat × List PV × List PV))
  | .inl (pc, l, st, h) => .inl (pc, l, st, mix S h k)
  | .inr (.inl (o, h)) => .inr (.inl (o, mix S h k))
  | .inr (.inr c) => .inr (.inr c)
def okV (S : Nat → Bool) : PV → Prop
  | .inl _ => True
  | .inr o => S o = true
def okS (S : Nat → Bool) (st : List PV) : Prop := ∀ v ∈ st, okV S v
def okL (S : Nat → Bool) (l : PL) : Prop := ∀ q ∈ l, okV S q.2
theorem br_map {α β : Type} {f : α → β} {c : ClassFile.Cond} {x y : Int32} {A B : α} : p_br c x y (f A) (f B) = f (p_br c x y A B) := by
  cases c <;> simp only [p_br] <;> split <;> rfl
set_option maxHeartbeats 8000000 in
theorem loc_eq {S : Nat → Bool} {j : Nat} {i : Instr} {n : Nat} {ax : List Nat} {pc : Nat} {l : PL} {st : List PV} {g k : HP} (hs : okS S st) : p1i j i n ax pc l st (mix S g k) = (p1i j i n ax pc l st g).map (lift S k) := by
  cases i
  case ifCond c o =>
    dsimp only [p1i]
    split
    · exact br_map (f := Option.map (lift S k)) (A := some (.inl (_, _, _, g))) (B := some (.inl (_, _, _, g)))
    · rfl
  case if_icmp c o =>
    dsimp only [p1i]
    split
    · exact br_map (f := Option.map (lift S k)) (A := some (.inl (_, _, _, g))) (B := some (.inl (_, _, _, g)))
    · rfl
  case getfield f =>
    dsimp only [p1i]
    split
    · rename_i o t ci kk
      have ho : S o = true := hs (.inr o) List.mem_cons_self
      split
      · split
        · split
          · rfl
          · rw [mix_at ho]; rfl
        · rfl
      · rfl
    · rfl
  case putfield f =>
    dsimp only [p1i]
    split
    · rename_i v o t ci kk z
      have ho : S o = true := hs (.inr o) (List.mem_cons_of_mem _ List.mem_cons_self)
      split
      · split
        · rw [hu_mix ho]; rfl
        · rfl
      · rfl
    · rfl
  case iaload =>
    dsimp only [p1i]
    split
    · rename_i x a t
      have ho : S a = true := hs (.inr a) (List.mem_cons_of_mem _ List.mem_cons_self)
      split
      · split
        · rfl
        · rw [mix_at ho]; rfl
      · split <;> rfl
      · rfl
    · rfl
  case baload =>
    dsimp only [p1i]
    split
    · rename_i x a t
      have ho : S a = true := hs (.inr a) (List.mem_cons_of_mem _ List.mem_cons_self)
      split
      · split
        · rfl
        · rw [mix_at ho]; rfl
      · rfl
    · rfl
  case iastore =>
    dsimp only [p1i]
    split
    · rename_i v x a t
      have ho : S a = true := hs (.inr a) (List.mem_cons_of_mem _ (List.mem_cons_of_mem _ List.mem_cons_self))
      split
      · split
        · rfl
        · rw [hu_mix ho]; rfl
      · rfl
    · rfl
  case bastore =>
    dsimp only [p1i]
    split
    · rename_i v x a t
      have ho : S a = true := hs (.inr a) (List.mem_cons_of_mem _ (List.mem_cons_of_mem _ List.mem_cons_self))
      split
      · split
        · rfl
        · split
          · rw [hu_mix ho]; rfl
          · rfl
      · rfl
    · rfl
  all_goals first
    | rfl
    | (dsimp only [p1i]; split <;> rfl)
    | (dsimp only [p1i]; split <;> first | rfl | (split <;> rfl))
    | (dsimp only [p1i]; split <;> first | rfl | (split <;> first | rfl | (split <;> first | rfl | (split <;> rfl))))
end
section
/-! LOCALITY, second half: references stay on their side; whole runs. -/
def q_lok1 (S T : Nat → Bool) (i : Instr) (ax : List Nat) : Bool := match i, ax with
  | .getstatic _, [g] => S g
  | .invokevirtual _, [j', _] => T j'
  | .invokestatic _, [j', _] => Nat.ble j' 1 || T j'
  | _, _ => true
def okz (S T : Nat → Bool) : PG ⊕ (PO ⊕ (Nat × List PV × List PV)) → Prop
  | .inl (_, l, st, _) => okL S l ∧ okS S st
  | .inr (.inl _) => True
  | .inr (.inr (j', as, t)) => T j' = true ∧ okS S as ∧ okS S t
theorem okS_cons {S : Nat → Bool} {v : PV} {t : List PV} : okS S (v :: t) ↔ okV S v ∧ okS S t := by simp [okS]
theorem okS_nil {S : Nat → Bool} : okS S [] := fun _ h => absurd h List.not_mem_nil
theorem okL_put {S : Nat → Bool} {l : PL} {i : Nat} {v : PV} (hl : okL S l) (hv : okV S v) : okL S (pl_put l i v) := by
  intro q hq
  rcases List.mem_cons.mp hq with rfl | h
  · exact hv
  · exact hl q (List.mem_filter.mp h).1
theorem okL_at {S : Nat → Bool} : ∀ {l : PL} {k : Nat} {v : PV}, okL S l → pl_at l k = some v → okV S v
  | [], _, _, _, h => by cases h
  | (i, w) :: t, k, v, hl, h => by
    simp only [pl_at] at h
    split at h
    · cases h
      exact hl (i, w) List.mem_cons_self
    · exact okL_at (fun q hq => hl q (List.mem_cons_of_mem _ hq)) h
theorem okL_in {S : Nat → Bool} : ∀ {as : List PV} {i : Nat}, okS S as → okL S (pl_in i as)
  | [], _, _ => fun _ h => absurd h List.not_mem_nil
  | v :: t, i, h => by
    intro q hq
    rcases List.mem_cons.mp hq with rfl | hq
    · exact h v List.mem_cons_self
    · exact okL_in (fun w hw => h w (List.mem_cons_of_mem _ hw)) q hq
theorem okS_sub {S : Nat → Bool} {a b : List PV} (h : okS S b) (hab : ∀ v ∈ a, v ∈ b) : okS S a := fun v hv => h v (hab v hv)
set_option maxHeartbeats 8000000 in
theorem loc_ok {S T : Nat → Bool} (hR : ∀ o k r, S o = true → qRf o k = some r → S r = true) {j : Nat} {i : Instr} {n : Nat} {ax : List Nat} {pc : Nat} {l : PL} {st : List PV} {g : HP} {z : PG ⊕ (PO ⊕ (Nat × List PV × List PV))} (hck : q_lok1 S T i ax = true) (hl : okL S l) (hs : okS S st) (h : p1i j i n ax pc l st g = some z) : okz S T z := by
  cases i
  case ifCond c o =>
    dsimp only [p1i] at h
    split at h
    · cases c <;> simp only [p_br] at h <;> split at h <;> cases h <;> exact ⟨hl, (okS_cons.mp hs).2⟩
    · cases h
  case if_icmp c o =>
    dsimp only [p1i] at h
    split at h
    · cases c <;> simp only [p_br] at h <;> split at h <;> cases h <;> exact ⟨hl, (okS_cons.mp (okS_cons.mp hs).2).2⟩
    · cases h
  case aload_n k =>
    dsimp only [p1i] at h
    split at h
    · rename_i hq
      cases h
      exact ⟨hl, okS_cons.mpr ⟨okL_at hl hq, hs⟩⟩
    · cases h
  case getfield f =>
    dsimp only [p1i, p_int] at h
    split at h
    · have ho := (okS_cons.mp hs).1
      split at h
      · split at h
        · split at h
          · rename_i hr
            cases h
            exact ⟨hl, okS_cons.mpr ⟨hR _ _ _ ho hr, (okS_cons.mp hs).2⟩⟩
          · cases h
            exact ⟨hl, okS_cons.mpr ⟨trivial, (okS_cons.mp hs).2⟩⟩
        · cases h
      · cases h
    · cases h
  case aaload =>
    dsimp only [p1i, p_int] at h
    split at h
    · have ho := (okS_cons.mp (okS_cons.mp hs).2).1
      split at h
      · split at h
        · cases h
        · split at h
          · rename_i hr
            cases h
            exact ⟨hl, okS_cons.mpr ⟨hR _ _ _ ho hr, (okS_cons.mp (okS_cons.mp hs).2).2⟩⟩
          · cases h
      · cases h
    · cases h
  case getstatic f =>
    dsimp only [p1i] at h
    split at h
    · cases h
      exact ⟨hl, okS_cons.mpr ⟨hck, hs⟩⟩
    · cases h
  case invokevirtual f =>
    dsimp only [p1i] at h
    split at h
    · split at h
      · cases h
        exact ⟨hck, okS_sub hs (fun v hv => List.mem_of_mem_take (List.mem_reverse.mp hv)), okS_sub hs (fun v hv => List.mem_of_mem_drop hv)⟩
      · cases h
    · cases h
  case invokestatic f =>
    dsimp only [p1i, p_int] at h
    split at h
    · split at h
      · split at h
        · cases h
          exact ⟨hl, okS_cons.mpr ⟨trivial, (okS_cons.mp hs).2⟩⟩
        · cases h
      · cases h
    · split at h
      · split at h
        · cases h
          exact ⟨hl, okS_cons.mpr ⟨trivial, (okS_cons.mp (okS_cons.mp hs).2).2⟩⟩
        · cases h
      · cases h
    · rename_i j' na n0 n1
      have hT : T j' = true := by
        simp only [q_lok1, Bool.or_eq_true] at hck
        rcases hck with e | e
        · exfalso
          have e := Nat.le_of_ble_eq_true e
          rcases (show j' = 0 ∨ j' = 1 by omega) with rfl | rfl
          · exact n0 rfl
          · exact n1 rfl
        · exact e
      split at h
      · cases h
        exact ⟨hT, okS_sub hs (fun v hv => List.mem_of_mem_take (List.mem_reverse.mp hv)), okS_sub hs (fun v hv => List.mem_of_mem_drop hv)⟩
      · cases h
    · cases h
  all_goals first
    | (cases h; done)
    | skip
  all_goals dsimp only [p1i, p_int] at h
  all_goals repeat' split at h
  all_goals first
    | (cases h; done)
    | (cases h; exact trivial)
    | (cases h; exact ⟨hl, hs⟩)
    | (cases h; exact ⟨hl, okS_cons.mpr ⟨trivial, hs⟩⟩)
    | (cases h; (try simp only [okS_cons] at hs); refine ⟨?_, ?_⟩ <;> first | exact hl | exact hs | exact okL_put hl trivial | (simp_all [okV, okS_cons]; done))
theorem e_det {j : Nat} {c : PG} {r r' : PO} (h : Ev j c r) (h' : Ev j c r') : r = r' := by
  obtain ⟨n, hn⟩ := h
  obtain ⟨m, hm⟩ := h'
  have e1 := pm_le hn (Nat.le_max_left n m)
  have e2 := pm_le hm (Nat.le_max_right n m)
  exact Option.some.inj (e1.symm.trans e2)
theorem pe_mem : ∀ {L : List PE} {pc : Nat} {r : Instr × Nat × List Nat}, pe_at L pc = some r → (pc, r) ∈ L
  | [], _, _, h => by cases h
  | (i, v) :: t, k, r, h => by
    simp only [pe_at] at h
    split at h
    · rename_i e
      cases h
      subst e
      exact List.mem_cons_self
    · exact List.mem_cons_of_mem _ (pe_mem h)
/-- the methods of T keep to the cells of S -/
def q_Loc (S T : Nat → Bool) : Prop := (∀ o k r, S o = true → qRf o k = some r → S r = true) ∧ ∀ j, T j = true → ∀ e ∈ qCod j, q_lok1 S T e.2.1 e.2.2.2 = true
theorem loc_p1 {S T : Nat → Bool} (hL : q_Loc S T) {j pc : Nat} {l : PL} {st : List PV} {g k : HP} {z : PG ⊕ (PO ⊕ (Nat × List PV × List PV))} (hj : T j = true) (hl : okL S l) (hs : okS S st) (h : p1 j (pc, l, st, g) = some z) : p1 j (pc, l, st, mix S g k) = some (lift S k z) ∧ okz S T z := by
  cases hp : pe_at (qCod j) pc with
  | none => simp only [p1, hp] at h; cases h
  | some r =>
    obtain ⟨i, n, ax⟩ := r
    have h : p1i j i n ax pc l st g = some z := by simpa only [p1, hp] using h
    have hck := hL.2 j hj _ (pe_mem hp)
    refine ⟨?_, loc_ok hL.1 hck hl hs h⟩
    simp only [p1, hp]
    rw [loc_eq hs, h]
    rfl
theorem loc_pm {S T : Nat → Bool} (hL : q_Loc S T) {k : HP} : ∀ (n j pc : Nat) (l : PL) (st : List PV) (g : HP) (r : PO), T j = true → okL S l → okS S st → pm n j (pc, l, st, g) = some r → pm n j (pc, l, st, mix S g k) = some (r.1, mix S r.2 k) := by
  intro n
  induction n with
  | zero => intro j pc l st g r _ _ _ h; cases h
  | succ n ih =>
    intro j pc l st g r hj hl hs h
    rw [pm] at h ⊢
    cases hp : p1 j (pc, l, st, g) with
    | none => rw [hp] at h; cases h
    | some z =>
      obtain ⟨e1, e2⟩ := loc_p1 hL (k := k) hj hl hs hp
      rw [e1]
      rw [hp] at h
      rcases z with ⟨pc', l', st', g'⟩ | ⟨o, g'⟩ | ⟨j', as, t⟩
      · exact ih _ _ _ _ _ _ hj e2.1 e2.2 h
      · cases h
        rfl
      · dsimp only [lift] at h ⊢
        cases hq : pm n j' (0, pl_in 0 as, [], g) with
        | none => rw [hq] at h; cases h
        | some y =>
          rw [hq] at h
          rw [ih _ _ _ _ _ _ e2.1 (okL_in e2.2.1) okS_nil hq]
          obtain ⟨o, g'⟩ := y
          cases o with
          | inr x => cases h
          | inl v =>
            dsimp only at h ⊢
            refine ih _ _ _ _ _ _ hj hl ?_ h
            intro w hw
            rcases List.mem_append.mp hw with hw | hw
            · cases v with
              | none => cases hw
              | some x =>
                rcases List.mem_cons.mp hw with rfl | hw
                · trivial
                · cases hw
            · exact e2.2.2 w hw
theorem ec_mix {S T : Nat → Bool} (hL : q_Loc S T) {j : Nat} {as : List PV} {g g' k : HP} {o : Option Int32 ⊕ Nat} (hj : T j = true) (ha : okS S as) (h : Ec j as g (o, g')) : Ec j as (mix S g k) (o, mix S g' k) := by
  obtain ⟨n, hn⟩ := h
  exact ⟨n, loc_pm hL n j 0 _ [] g _ hj (okL_in ha) okS_nil hn⟩
theorem mix_self {S : Nat → Bool} {g : HP} : mix S g g = g := by
  funext a b
  simp [mix]
/-- a run of one side leaves the other side's cells alone -/
theorem ec_keep {S T : Nat → Bool} (hL : q_Loc S T) {j : Nat} {as : List PV} {g g' : HP} {o : Option Int32 ⊕ Nat} (hj : T j = true) (ha : okS S as) (h : Ec j as g (o, g')) {a : Nat} (hS : S a = false) : g' a = g a := by
  have h2 := ec_mix hL (k := g) hj ha h
  rw [mix_self] at h2
  have e := e_det h h2
  have e : g' = mix S g' g := congrArg Prod.snd e
  rw [e]
  funext b
  simp [mix, hS]
def q_SC (a : Nat) : Bool := Nat.blt a 30 || Nat.beq a 47
def q_SM (a : Nat) : Bool := Nat.ble 30 a && !(Nat.beq a 47)
def q_TC (j : Nat) : Bool := Nat.blt j 92
def q_TM (j : Nat) : Bool := Nat.ble 92 j
theorem q_RfC : (List.range 48).all (fun o => (qRfL.getD o []).all (fun r => match r with | some r => (!(q_SC o) || q_SC r) && (!(q_SM o) || q_SM r) | none => true)) = true := by decide +kernel
theorem q_RfB {o k r : Nat} (h : qRf o k = some r) : (q_SC o = true → q_SC r = true) ∧ (q_SM o = true → q_SM r = true) := by
  have ho : o < 48 := by
    apply Decidable.byContradiction
    intro hn
    have e : qRfL.getD o [] = [] := by
      rw [List.getD_eq_getElem?_getD, List.getElem?_eq_none (by have : qRfL.length = 48 := rfl; omega)]
      rfl
    simp only [qRf, e] at h
    cases h
  have h1 := List.all_eq_true.mp q_RfC o (List.mem_range.mpr ho)
  have hm : some r ∈ qRfL.getD o [] := by
    have h2 : (qRfL.getD o [])[k]? = some (some r) := by
      simp only [qRf, List.getD_eq_getElem?_getD] at h ⊢
      cases hq : (qRfL[o]?.getD [])[k]? with
      | none => rw [hq] at h; cases h
      | some y => rw [hq] at h; exact congrArg some h
    exact List.mem_of_getElem? h2
  have h3 := List.all_eq_true.mp h1 _ hm
  simp only [Bool.and_eq_true, Bool.or_eq_true, Bool.not_eq_true'] at h3
  constructor
  · intro e
    rcases h3.1 with e' | e'
    · rw [e] at e'; cases e'
    · exact e'
  · intro e
    rcases h3.2 with e' | e'
    · rw [e] at e'; cases e'
    · exact e'
theorem q_cods : (List.range 137).all (fun j => (qCod j).all (fun e => (!(q_TC j) || q_lok1 q_SC q_TC e.2.1 e.2.2.2) && (!(q_TM j) || q_lok1 q_SM q_TM e.2.1 e.2.2.2))) = true := by decide +kernel
theorem q_LocC : q_Loc q_SC q_TC := by
  refine ⟨fun o k r h1 h2 => (q_RfB h2).1 h1, fun j hj e he => ?_⟩
  have hlt : j < 137 := by have := Nat.le_of_ble_eq_true hj; omega
  have h := List.all_eq_true.mp (List.all_eq_true.mp q_cods j (List.mem_range.mpr hlt)) e he
  simp only [Bool.and_eq_true, Bool.or_eq_true, Bool.not_eq_true'] at h
  rcases h.1 with e' | e'
  · rw [hj] at e'; cases e'
  · exact e'
theorem q_LocM : q_Loc q_SM q_TM := by
  refine ⟨fun o k r h1 h2 => (q_RfB h2).2 h1, fun j hj e he => ?_⟩
  by_cases hlt : j < 137
  · have h := List.all_eq_true.mp (List.all_eq_true.mp q_cods j (List.mem_range.mpr hlt)) e he
    simp only [Bool.and_eq_true, Bool.or_eq_true, Bool.not_eq_true'] at h
    rcases h.2 with e' | e'
    · rw [hj] at e'; cases e'
    · exact e'
  · exfalso
    have e0 : qCod j = [] := by
      have e1 : qCodL.length = 137 := by decide +kernel
      simp only [qCod, List.getD_eq_getElem?_getD]
      rw [List.getElem?_eq_none (by omega)]
      rfl
    rw [e0] at he
    cases he
end
section
/-! PAIRS OF RUNS: a call of the class on one heap, the reference's on another, tied by a relation; out of that what the law's loop asks. -/
/-- the relation looks at the class's cells of the one heap and the reference's cells of the other -/
def q_Dep (R : HP → HP → Prop) : Prop := ∀ (c m c' m' : HP), (∀ a, a < 30 → c' a = c a) → (∀ a, 30 ≤ a → a < 47 → m' a = m a) → R c m → R c' m'
def P_run (jC jM : Nat) (as : List PV) (c m : HP) (F : PO → PO → Prop) : Prop := Wp jC (0, pl_in 0 (.inr 0 :: as), [], c) (fun rc => Wp jM (0, pl_in 0 (.inr 30 :: as), [], m) (fun rm => F rc rm))
def P_W (R : HP → HP → Prop) (jC jM : Nat) (cs : List Nat) (vf : Bool) (as : List PV) : Prop := ∀ c m, R c m → P_run jC jM as c m (fun rc rm => R rc.2 rm.2 ∧ ∃ v : Option Int32, rm.1 = .inl v ∧ v.isSome = vf ∧ ((rc.1 = .inl v ∧ rm.2 30 0 = 0) ∨ ∃ t x, cs[t]? = some x ∧ rc.1 = .inr x ∧ rm.2 30 0 = nI (t + 1)))
def P_D (R : HP → HP → Prop) (jC jM : Nat) : Prop := ∀ c m, R c m → P_run jC jM [] c m (fun rc rm => R rc.2 rm.2 ∧ ∃ v : Int32, rm.1 = .inl (some v) ∧ rc.1 = .inl (some v))
theorem P_seq {R : HP → HP → Prop} (hD : q_Dep R) {jC jM : Nat} (hC : jC < 92) (hM : 92 ≤ jM) {as : List PV} (ha : ∀ v ∈ as, ∃ x, v = Sum.inl x) {h c' m' : HP} {oc om : Option Int32 ⊕ Nat} (rc : Ec jC (.inr 0 :: as) h (oc, c')) (rm : Ec jM (.inr 30 :: as) h (om, m')) (hR : R c' m') :
    ∃ h2, Ec jM (.inr 30 :: as) c' (om, h2) ∧ h2 30 0 = m' 30 0 ∧ R h2 h2 := by
  have oC : okS q_SC (.inr 0 :: as) := okS_cons.mpr ⟨rfl, fun v hv => by obtain ⟨x, rfl⟩ := ha v hv; trivial⟩
  have oM : okS q_SM (.inr 30 :: as) := okS_cons.mpr ⟨rfl, fun v hv => by obtain ⟨x, rfl⟩ := ha v hv; trivial⟩
  have tC : q_TC jC = true := Nat.ble_eq_true_of_le hC
  have tM : q_TM jM = true := Nat.ble_eq_true_of_le hM
  have e : mix q_SM h c' = c' := by
    funext a b
    simp only [mix]
    split
    · rename_i hs
      simp only [q_SM, Bool.and_eq_true, Bool.not_eq_true'] at hs
      have h1 := Nat.le_of_ble_eq_true hs.1
      have hk := ec_keep q_LocC tC oC rc (a := a) (by
        simp only [q_SC, Bool.or_eq_false_iff]
        refine ⟨?_, hs.2⟩
        cases hb : Nat.blt a 30 with
        | false => rfl
        | true => exact absurd (Nat.le_of_ble_eq_true hb) (by omega))
      rw [hk]
    · rfl
  have h2 := ec_mix q_LocM (k := c') tM oM rm
  rw [e] at h2
  refine ⟨_, h2, rfl, hD c' m' _ _ ?_ ?_ hR⟩
  · intro a ha
    funext b
    have : q_SM a = false := by
      simp only [q_SM, Bool.and_eq_false_iff]
      left
      cases hb : Nat.ble 30 a with
      | false => rfl
      | true => exact absurd (Nat.le_of_ble_eq_true hb) (by omega)
    simp [mix, this]
  · intro a ha hb
    funext b
    have : q_SM a = true := by
      simp only [q_SM, Bool.and_eq_true, Bool.not_eq_true']
      refine ⟨Nat.ble_eq_true_of_le ha, ?_⟩
      cases hq : Nat.beq a 47 with
      | false => rfl
      | true => exact absurd (Nat.eq_of_beq_eq_true hq) (by omega)
    simp [mix, this]
theorem P_opW {R : HP → HP → Prop} (hD : q_Dep R) {jC jM : Nat} (hC : jC < 92) (hM : 92 ≤ jM) {cs : List Nat} {vf : Bool} {as : List PV} (ha : ∀ v ∈ as, ∃ x, v = Sum.inl x) (h : P_W R jC jM cs vf as) : q_opW (fun h => R h h) jC jM cs vf as := by
  intro g hg
  obtain ⟨⟨oc, c'⟩, rc, ⟨om, m'⟩, rm, hR, v, e1, e2, e3⟩ := h g g hg
  dsimp only at hR e1 e2 e3
  subst e1
  obtain ⟨h2, q1, q2, q3⟩ := P_seq hD hC hM ha rc rm hR
  rcases e3 with ⟨rfl, e4⟩ | ⟨t, x, e5, rfl, e6⟩
  · exact Or.inl ⟨v, c', h2, e2, rc, q1, by rw [q2, e4], q3⟩
  · exact Or.inr ⟨t, x, v, c', h2, e5, e2, rc, q1, by rw [q2, e6], q3⟩
theorem P_opZ {R : HP → HP → Prop} (hD : q_Dep R) {jC jM : Nat} (hC : jC < 92) (hM : 92 ≤ jM) {cs : List Nat} {as : List PV} (ha : ∀ v ∈ as, ∃ x, v = Sum.inl x) (h : P_W R jC jM cs true as) : q_opZ (fun h => R h h) jC jM cs as := by
  intro g hg
  rcases P_opW hD hC hM ha h g hg with ⟨v, h1, h2, hv, a1, a2, a3, a4⟩ | ⟨t, x, v, h1, h2, ht, hv, a1, a2, a3, a4⟩
  · obtain ⟨v, rfl⟩ := q_some hv
    exact Or.inl ⟨v, h1, h2, a1, a2, a3, a4⟩
  · obtain ⟨v, rfl⟩ := q_some hv
    exact Or.inr ⟨t, x, v, h1, h2, ht, a1, a2, a3, a4⟩
theorem P_opD {R : HP → HP → Prop} (hD : q_Dep R) {jC jM : Nat} (hC : jC < 92) (hM : 92 ≤ jM) (h : P_D R jC jM) : q_opD (fun h => R h h) jC jM := by
  intro g hg
  obtain ⟨⟨oc, c'⟩, rc, ⟨om, m'⟩, rm, hR, v, e1, e2⟩ := h g g hg
  dsimp only at hR e1 e2
  subst e1 e2
  obtain ⟨h2, q1, q2, q3⟩ := P_seq hD hC hM (as := []) (fun _ h => absurd h List.not_mem_nil) rc rm hR
  exact ⟨v, c', h2, rc, q1, q3⟩
end
section
/-! THE RELATION between the class's cells (c) and the reference's (m). -/
/-- the constants of the code, as ints of naturals -/
theorem kc : (0 : Int32) = nI 0 ∧ Int32.ofInt 0 = nI 0 ∧ Int32.ofInt 1 = nI 1 ∧ Int32.ofInt 2 = nI 2 ∧ Int32.ofInt 3 = nI 3 ∧ Int32.ofInt 4 = nI 4 ∧ Int32.ofInt 5 = nI 5 ∧ (Int8.ofInt 6).toInt32 = nI 6 ∧ (Int8.ofInt 7).toInt32 = nI 7 ∧ (Int8.ofInt 8).toInt32 = nI 8 ∧ (Int8.ofInt 9).toInt32 = nI 9 ∧ (Int8.ofInt 10).toInt32 = nI 10 ∧ (Int8.ofInt 20).toInt32 = nI 20 ∧ (Int8.ofInt 21).toInt32 = nI 21 ∧ (Int8.ofInt 24).toInt32 = nI 24 ∧ (Int8.ofInt 30).toInt32 = nI 30 ∧ (Int8.ofInt 40).toInt32 = nI 40 ∧ (Int8.ofInt 100).toInt32 = nI 100 ∧ (Int16.ofInt 400).toInt32 = nI 400 ∧ Int32.ofInt (-1) = -1 := by decide +kernel
/-- the sum of f over 0 .. n - 1 -/
def sm (f : Nat → Nat) : Nat → Nat
  | 0 => 0
  | n + 1 => sm f n + f n
theorem sm_eq {f g : Nat → Nat} : ∀ {n : Nat}, (∀ i, i < n → f i = g i) → sm f n = sm g n
  | 0, _ => rfl
  | n + 1, h => by
    simp only [sm]
    rw [sm_eq (n := n) (fun i hi => h i (by omega)), h n (by omega)]
theorem sm_at {f g : Nat → Nat} {s : Nat} : ∀ {n : Nat}, s < n → (∀ i, i < n → i ≠ s → f i = g i) → sm f n + g s = sm g n + f s
  | 0, h, _ => absurd h (by omega)
  | n + 1, h, e => by
    simp only [sm]
    by_cases hs : s = n
    · subst hs
      rw [sm_eq (f := f) (g := g) (n := s) (fun i hi => e i (by omega) (by omega))]
      omega
    · have := sm_at (f := f) (g := g) (s := s) (n := n) (by omega) (fun i hi hn => e i (by omega) hn)
      have := e n (by omega) (fun z => hs z.symm)
      omega
theorem sm_le {f : Nat → Nat} {b : Nat} : ∀ {n : Nat}, (∀ i, i < n → f i ≤ b) → sm f n ≤ n * b
  | 0, _ => by simp [sm]
  | n + 1, h => by
    have h1 := sm_le (f := f) (b := b) (n := n) (fun i hi => h i (by omega))
    have h2 := h n (by omega)
    simp only [sm, Nat.succ_mul]
    omega
theorem sm_one {f : Nat → Nat} {s : Nat} : ∀ {n : Nat}, s < n → f s ≤ sm f n
  | 0, h => absurd h (by omega)
  | n + 1, h => by
    simp only [sm]
    by_cases hs : s = n
    · subst hs; omega
    · have := sm_one (f := f) (s := s) (n := n) (by omega)
      omega
/-- how many notes there are on the belt, by goals -/
def nN (g : Nat → Int32) : Nat := sm (fun s => if g s = -1 then 0 else 1) 10
/-- how many notes of a kind the cassettes hold -/
def stk (ks ns : Nat → Int32) (k : Nat) : Nat := sm (fun i => if ks i = nI k then (ns i).toNatClampNeg else 0) 4
def r_fl (c m : HP) : Prop := (∃ t, t ≤ 8 ∧ c 0 7 = nI t ∧ m 30 1 = nI t) ∧ (∃ t, t ≤ 40 ∧ c 0 8 = nI t ∧ m 30 5 = nI t) ∧ (c 0 9 = nI 1 ∧ m 30 2 = nI 0 ∨ c 0 9 = nI 0 ∧ m 30 2 = nI 1) ∧ (∃ t, t ≤ 1 ∧ c 0 10 = nI t ∧ m 30 3 = nI t) ∧ (∃ t, t ≤ 1 ∧ c 0 11 = nI t ∧ m 30 4 = nI t)
def r_vd (c m : HP) : Prop := ∃ f w, f < 40 ∧ w ≤ 40 ∧ c 1 1 = nI f ∧ c 1 2 = nI w ∧ m 30 7 = nI w ∧ ∀ i, i < w → c 2 ((f + i) % 40) = m 31 i
/-- a segment without a note -/
def r_no (c m : HP) (s : Nat) : Prop := c 5 s = -1 ∧ m 32 s = -1 ∧ c 6 s = nI 0 ∧ (m 34 s = nI 0 ∨ m 34 s = nI 1)
/-- a segment with a note of kind k for goal g that sticks (1) or not (0) -/
def r_nt (c m : HP) (s k g t : Nat) : Prop := c 4 s = nI k ∧ m 32 s = nI k ∧ c 5 s = nI g ∧ m 33 s = nI g ∧ c 6 s = nI t ∧ m 34 s = nI t
def r_sg (c m : HP) (s : Nat) : Prop := r_no c m s ∨ ∃ k g t, k ≤ 5 ∧ g ≤ 8 ∧ t ≤ 1 ∧ (g = 0 → s < 2) ∧ r_nt c m s k g t
def r_bt (c m : HP) : Prop := ∀ s, s < 10 → r_sg c m s
def r_sz (c : HP) : Prop := c 3 3 = nI (nN (c 5))
def r_es (c m : HP) : Prop := ∃ e, e ≤ 24 ∧ c 7 1 = nI e ∧ m 30 12 = nI e ∧ ∀ i, i < e → ∃ k, k ≤ 5 ∧ c 8 i = nI k ∧ m 35 i = nI k
def r_mg (c m : HP) : Prop := ∀ i, i < 4 → ∃ k n, 1 ≤ k ∧ k ≤ 5 ∧ n ≤ 30 ∧ c 10 i = nI k ∧ m 36 i = nI k ∧ c 11 i = nI n ∧ m 37 i = nI n
def r_bk (c m : HP) : Prop := ∀ k, k < 6 → c 16 k = m 38 k ∧ c 18 k = m 39 k ∧ c 19 k = m 40 k ∧ c 20 k = m 41 k ∧ c 21 k = m 42 k ∧ c 22 k = m 43 k ∧ c 23 k = m 44 k
def r_py (c m : HP) : Prop := m 45 0 = nI 0 ∧ (c 0 7 = nI 5 → ∃ q : Nat → Nat, (∀ k, 1 ≤ k → k ≤ 5 → c 29 k = nI (q k) ∧ m 45 k = nI (q k) ∧ q k ≤ stk (m 36) (m 37) k) ∧ c 27 2 = nI (q 1 + q 2 + q 3 + q 4 + q 5))
def RR (c m : HP) : Prop := r_fl c m ∧ r_vd c m ∧ r_bt c m ∧ r_sz c ∧ r_es c m ∧ r_mg c m ∧ r_bk c m ∧ r_py c m
theorem RR_dep : q_Dep RR := by
  intro c m c' m' hc hm h
  have e1 := hc 0 (by decide)
  have e2 := hc 1 (by decide)
  have e3 := hc 2 (by decide)
  have e4 := hc 3 (by decide)
  have e5 := hc 4 (by decide)
  have e6 := hc 5 (by decide)
  have e7 := hc 6 (by decide)
  have e8 := hc 7 (by decide)
  have e9 := hc 8 (by decide)
  have f1 := hc 10 (by decide)
  have f2 := hc 11 (by decide)
  have f3 := hc 16 (by decide)
  have f4 := hc 18 (by decide)
  have f5 := hc 19 (by decide)
  have f6 := hc 20 (by decide)
  have f7 := hc 21 (by decide)
  have f8 := hc 22 (by decide)
  have f9 := hc 23 (by decide)
  have g1 := hc 29 (by decide)
  have g2 := hc 27 (by decide)
  have m0 := hm 30 (by decide) (by decide)
  have m1 := hm 31 (by decide) (by decide)
  have m2 := hm 32 (by decide) (by decide)
  have m3 := hm 33 (by decide) (by decide)
  have m4 := hm 34 (by decide) (by decide)
  have m5 := hm 35 (by decide) (by decide)
  have m6 := hm 36 (by decide) (by decide)
  have m7 := hm 37 (by decide) (by decide)
  have m8 := hm 38 (by decide) (by decide)
  have m9 := hm 39 (by decide) (by decide)
  have n0 := hm 40 (by decide) (by decide)
  have n1 := hm 41 (by decide) (by decide)
  have n2 := hm 42 (by decide) (by decide)
  have n3 := hm 43 (by decide) (by decide)
  have n4 := hm 44 (by decide) (by decide)
  have n5 := hm 45 (by decide) (by decide)
  simp only [RR, r_fl, r_vd, r_bt, r_sg, r_no, r_nt, r_sz, r_es, r_mg, r_bk, r_py, e1, e2, e3, e4, e5, e6, e7, e8, e9, f1, f2, f3, f4, f5, f6, f7, f8, f9, g1, g2, m0, m1, m2, m3, m4, m5, m6, m7, m8, m9, n0, n1, n2, n3, n4, n5] at h ⊢
  exact h
end
section
/-! CALLS WITHOUT LOOPS. -/
/-- what a pair of runs of a call that may throw comes to -/
def P_F (cs : List Nat) (vf : Bool) (rc rm : PO) : Prop := RR rc.2 rm.2 ∧ ∃ v : Option Int32, rm.1 = .inl v ∧ v.isSome = vf ∧ ((rc.1 = .inl v ∧ rm.2 30 0 = 0) ∨ ∃ t x, cs[t]? = some x ∧ rc.1 = .inr x ∧ rm.2 30 0 = nI (t + 1))
theorem P_Wof {jC jM : Nat} {cs : List Nat} {vf : Bool} {as : List PV} (h : ∀ c m, RR c m → P_run jC jM as c m (P_F cs vf)) : P_W RR jC jM cs vf as := h
theorem f_x (t : Nat) {x : Nat} {cs : List Nat} {vf : Bool} {v : Option Int32} {c m : HP} (hR : RR c m) (hv : v.isSome = vf) (hx : cs[t]? = some x) (hm : m 30 0 = nI (t + 1)) : P_F cs vf (.inr x, c) (.inl v, m) := ⟨hR, v, rfl, hv, Or.inr ⟨t, x, hx, rfl, hm⟩⟩
theorem f_r {cs : List Nat} {vf : Bool} {v w : Option Int32} {c m : HP} (hR : RR c m) (hv : v.isSome = vf) (hw : w = v) (hm : m 30 0 = nI 0) : P_F cs vf (.inl w, c) (.inl v, m) := ⟨hR, v, rfl, hv, Or.inl ⟨by rw [hw], hm⟩⟩
set_option maxHeartbeats 2000000 in
theorem o_insert (n : Int32) : P_W RR 44 96 [0, 1] true [.inl n] := by
  refine P_Wof fun c m hR => ?_
  have hR0 := hR
  obtain ⟨⟨hst, ⟨u, hu1, hu2, hu3⟩, hpw, hop, hsb⟩, hvd, hbt, hsz, hes, hmg, hbk, hpy⟩ := hR
  unfold P_run
  repeat' first
    | refine w_st rfl rfl ?_
    | refine w_no rfl rfl ?_ ?_
    | refine w_br rfl rfl (fun _ => ?_) (fun _ => ?_)
    | refine w_end rfl rfl ?_
    | refine w_endY rfl rfl ?_ ?_
  all_goals try contradiction
  all_goals first
    | exact f_x 0 hR0 rfl rfl rfl
    | exact f_x 1 hR0 rfl rfl rfl
    | (exfalso; simp only [hu2, hu3] at *; contradiction)
    | skip
  rename_i h1 h2 h3 _ _ _
  simp only [hu2, kc] at h1 h2 h3
  have h1' : ¬ n < 0 := fun z => h1 (by rw [Int32.lt_iff_toInt_lt] at z ⊢; have e0 : (0 : Int32).toInt = 0 := rfl; have e1 : (nI 1).toInt = 1 := rfl; omega)
  obtain ⟨j, hj, rfl⟩ := nI_of2 (n := 20) rfl h1' h2
  rw [nI_add, nI_leI (by omega) (by omega)] at h3
  have e : (nI u + nI j : Int32) = nI (u + j) := nI_add u j
  refine f_r ⟨⟨hst, ⟨u + j, h3, ?_, ?_⟩, hpw, hop, hsb⟩, hvd, hbt, hsz, hes, hmg, hbk, hpy⟩ rfl ?_ rfl
  · show c 0 8 + nI j = _
    rw [hu2, e]
  · show m 30 5 + nI j = _
    rw [hu3, e]
  · show some (c 0 8 + nI j) = some (m 30 5 + nI j)
    rw [hu2, hu3]
set_option maxHeartbeats 2000000 in
theorem o_state : P_D RR 86 129 := by
  intro c m hR
  have hR0 := hR
  obtain ⟨⟨⟨t, ht, h1, h2⟩, hsl, hpw, hop, hsb⟩, hvd, hbt, hsz, hes, hmg, hbk, hpy⟩ := hR
  unfold P_run
  repeat' first
    | refine w_st rfl rfl ?_
    | refine w_end rfl rfl ?_
  refine ⟨hR0, m 30 1, rfl, ?_⟩
  show Sum.inl (some (c 0 7)) = _
  rw [h1, h2]
end
section
/-! MORE CALLS WITHOUT LOOPS (written by wip/whole/gen_ops.py). -/
set_option maxHeartbeats 8000000 in
theorem o_confirm : P_W RR 48 99 [1] false [] := by
  refine P_Wof fun c m hR => ?_
  have hR0 := hR
  obtain ⟨⟨⟨t, ht, h1, h2⟩, ⟨u, hu1, hu2, hu3⟩, hpw, ⟨op, hop1, hop2, hop3⟩, hsb⟩, hvd, hbt, hsz, hes, hmg, hbk, hpy⟩ := hR
  have hpp : ∃ pw, pw ≤ 1 ∧ c 0 9 = nI pw ∧ m 30 2 = nI (1 - pw) := by
    rcases hpw with ⟨a, b⟩ | ⟨a, b⟩
    · exact ⟨1, by decide, a, b⟩
    · exact ⟨0, by decide, a, b⟩
  obtain ⟨pw, hp, p1, p2⟩ := hpp
  unfold P_run
  repeat' first
    | refine w_st rfl rfl ?_
    | refine w_no rfl rfl ?_ ?_
    | refine w_yes rfl rfl ?_ ?_
    | refine w_br rfl rfl (fun _ => ?_) (fun _ => ?_)
    | refine w_in rfl rfl ?_
    | refine w_end rfl rfl ?_
    | refine w_endY rfl rfl ?_ ?_
    | refine w_up ?_
  all_goals try contradiction
  all_goals try exact f_x 0 hR0 rfl rfl rfl
  all_goals try (exfalso; simp (disch := omega) only [p1, p2, h1, h2, hu2, hu3, hop2, hop3, kc, nI_eq, Int32.lt_iff_toInt_lt, Int32.le_iff_toInt_le, nI_toInt] at * <;> first | contradiction | omega)
  exact f_r ⟨⟨⟨3, by decide, rfl, rfl⟩, ⟨u, hu1, hu2, hu3⟩, hpw, ⟨op, hop1, hop2, hop3⟩, hsb⟩, hvd, hbt, hsz, hes, hmg, hbk, hpy.1, fun z => absurd (show Int32.ofInt 3 = nI 5 from z) (by decide)⟩ rfl rfl rfl

set_option maxHeartbeats 8000000 in
theorem o_giveBack : P_W RR 49 100 [1] false [] := by
  refine P_Wof fun c m hR => ?_
  have hR0 := hR
  obtain ⟨⟨⟨t, ht, h1, h2⟩, ⟨u, hu1, hu2, hu3⟩, hpw, ⟨op, hop1, hop2, hop3⟩, hsb⟩, hvd, hbt, hsz, hes, hmg, hbk, hpy⟩ := hR
  have hpp : ∃ pw, pw ≤ 1 ∧ c 0 9 = nI pw ∧ m 30 2 = nI (1 - pw) := by
    rcases hpw with ⟨a, b⟩ | ⟨a, b⟩
    · exact ⟨1, by decide, a, b⟩
    · exact ⟨0, by decide, a, b⟩
  obtain ⟨pw, hp, p1, p2⟩ := hpp
  unfold P_run
  repeat' first
    | refine w_st rfl rfl ?_
    | refine w_no rfl rfl ?_ ?_
    | refine w_yes rfl rfl ?_ ?_
    | refine w_br rfl rfl (fun _ => ?_) (fun _ => ?_)
    | refine w_in rfl rfl ?_
    | refine w_end rfl rfl ?_
    | refine w_endY rfl rfl ?_ ?_
    | refine w_up ?_
  all_goals try contradiction
  all_goals try exact f_x 0 hR0 rfl rfl rfl
  all_goals try (exfalso; simp (disch := omega) only [p1, p2, h1, h2, hu2, hu3, hop2, hop3, kc, nI_eq, Int32.lt_iff_toInt_lt, Int32.le_iff_toInt_le, nI_toInt] at * <;> first | contradiction | omega)
  exact f_r ⟨⟨⟨4, by decide, rfl, rfl⟩, ⟨u, hu1, hu2, hu3⟩, hpw, ⟨op, hop1, hop2, hop3⟩, hsb⟩, hvd, hbt, hsz, hes, hmg, hbk, hpy.1, fun z => absurd (show Int32.ofInt 4 = nI 5 from z) (by decide)⟩ rfl rfl rfl

set_option maxHeartbeats 8000000 in
theorem o_open : P_W RR 72 117 [1] false [] := by
  refine P_Wof fun c m hR => ?_
  have hR0 := hR
  obtain ⟨⟨⟨t, ht, h1, h2⟩, ⟨u, hu1, hu2, hu3⟩, hpw, ⟨op, hop1, hop2, hop3⟩, hsb⟩, hvd, hbt, hsz, hes, hmg, hbk, hpy⟩ := hR
  have hpp : ∃ pw, pw ≤ 1 ∧ c 0 9 = nI pw ∧ m 30 2 = nI (1 - pw) := by
    rcases hpw with ⟨a, b⟩ | ⟨a, b⟩
    · exact ⟨1, by decide, a, b⟩
    · exact ⟨0, by decide, a, b⟩
  obtain ⟨pw, hp, p1, p2⟩ := hpp
  unfold P_run
  repeat' first
    | refine w_st rfl rfl ?_
    | refine w_no rfl rfl ?_ ?_
    | refine w_yes rfl rfl ?_ ?_
    | refine w_br rfl rfl (fun _ => ?_) (fun _ => ?_)
    | refine w_in rfl rfl ?_
    | refine w_end rfl rfl ?_
    | refine w_endY rfl rfl ?_ ?_
    | refine w_up ?_
  all_goals try contradiction
  all_goals try exact f_x 0 hR0 rfl rfl rfl
  all_goals try (exfalso; simp (disch := omega) only [p1, p2, h1, h2, hu2, hu3, hop2, hop3, kc, nI_eq, Int32.lt_iff_toInt_lt, Int32.le_iff_toInt_le, nI_toInt] at * <;> first | contradiction | omega)
  exact f_r ⟨⟨⟨t, ht, h1, h2⟩, ⟨u, hu1, hu2, hu3⟩, hpw, ⟨1, by decide, rfl, rfl⟩, hsb⟩, hvd, hbt, hsz, hes, hmg, hbk, hpy⟩ rfl rfl rfl

set_option maxHeartbeats 8000000 in
theorem o_service : P_W RR 81 125 [1] true [] := by
  refine P_Wof fun c m hR => ?_
  have hR0 := hR
  obtain ⟨⟨⟨t, ht, h1, h2⟩, ⟨u, hu1, hu2, hu3⟩, hpw, ⟨op, hop1, hop2, hop3⟩, hsb⟩, hvd, hbt, hsz, hes, hmg, hbk, hpy⟩ := hR
  have hpp : ∃ pw, pw ≤ 1 ∧ c 0 9 = nI pw ∧ m 30 2 = nI (1 - pw) := by
    rcases hpw with ⟨a, b⟩ | ⟨a, b⟩
    · exact ⟨1, by decide, a, b⟩
    · exact ⟨0, by decide, a, b⟩
  obtain ⟨pw, hp, p1, p2⟩ := hpp
  unfold P_run
  repeat' first
    | refine w_st rfl rfl ?_
    | refine w_no rfl rfl ?_ ?_
    | refine w_yes rfl rfl ?_ ?_
    | refine w_br rfl rfl (fun _ => ?_) (fun _ => ?_)
    | refine w_in rfl rfl ?_
    | refine w_end rfl rfl ?_
    | refine w_endY rfl rfl ?_ ?_
    | refine w_up ?_
  all_goals try contradiction
  all_goals try exact f_x 0 hR0 rfl rfl rfl
  all_goals try (exfalso; simp (disch := omega) only [p1, p2, h1, h2, hu2, hu3, hop2, hop3, kc, nI_eq, Int32.lt_iff_toInt_lt, Int32.le_iff_toInt_le, nI_toInt] at * <;> first | contradiction | omega)
  · exact f_r ⟨⟨⟨8, by decide, rfl, rfl⟩, ⟨u, hu1, hu2, hu3⟩, hpw, ⟨op, hop1, hop2, hop3⟩, hsb⟩, hvd, hbt, hsz, hes, hmg, hbk, hpy.1, fun z => absurd (show Int32.ofInt 8 = nI 5 from z) (by decide)⟩ rfl rfl rfl
  · exact f_r ⟨⟨⟨0, by decide, rfl, rfl⟩, ⟨u, hu1, hu2, hu3⟩, hpw, ⟨op, hop1, hop2, hop3⟩, hsb⟩, hvd, hbt, hsz, hes, hmg, hbk, hpy.1, fun z => absurd (show Int32.ofInt 0 = nI 5 from z) (by decide)⟩ rfl rfl rfl
end
section
/-! CALLS ON ONE SEGMENT (written by wip/whole/gen_ops2.py). -/
theorem nI_m1 {n : Nat} (h : n < 2 ^ 31) : (nI n = -1) = False := by
  apply eq_false
  intro e
  have e1 := congrArg Int32.toInt e
  rw [nI_toInt h] at e1
  have e2 : (-1 : Int32).toInt = -1 := by decide
  omega
theorem bt_at {c m c' m' : HP} {j : Nat} (h : r_bt c m) (e : ∀ s, s ≠ j → c' 4 s = c 4 s ∧ c' 5 s = c 5 s ∧ c' 6 s = c 6 s ∧ m' 32 s = m 32 s ∧ m' 33 s = m 33 s ∧ m' 34 s = m 34 s) (hj : r_sg c' m' j) : r_bt c' m' := by
  intro s hs
  by_cases es : s = j
  · subst es
    exact hj
  · obtain ⟨a1, a2, a3, a4, a5, a6⟩ := e s es
    have h0 := h s hs
    simp only [r_sg, r_no, r_nt, a1, a2, a3, a4, a5, a6] at h0 ⊢
    exact h0
/-- an index of 0 .. n: below, above, in -/
theorem ix3 (x : Int32) (n : Nat) (hn : n + 1 < 2 ^ 31) : ((x < nI 0) = True) ∨ (((x < nI 0) = False) ∧ ((nI (n + 1) ≤ x) = True) ∧ ((nI n < x) = True) ∧ ((x ≤ nI n) = False)) ∨ ∃ j, j < n + 1 ∧ x = nI j := by
  rcases pk_ix x (n := n + 1) hn with h | h | h
  · exact Or.inl (eq_true h)
  · refine Or.inr (Or.inl ⟨eq_false ?_, eq_true h, eq_true ?_, eq_false ?_⟩) <;> simp only [Int32.lt_iff_toInt_lt, Int32.le_iff_toInt_le] at h ⊢ <;> rw [nI_toInt (by omega)] at h ⊢ <;> omega
  · exact Or.inr (Or.inr h)

set_option maxHeartbeats 8000000 in
theorem o_belt (s w : Int32) : P_W RR 90 135 [0] true [.inl s, .inl w] := by
  refine P_Wof fun c m hR => ?_
  have hR0 := hR
  obtain ⟨⟨⟨t, ht, h1, h2⟩, ⟨u, hu1, hu2, hu3⟩, hpw, ⟨op, hop1, hop2, hop3⟩, hsb⟩, hvd, hbt, hsz, hes, hmg, hbk, hpy⟩ := hR
  rcases ix3 s 9 (by decide) with e1 | ⟨e1, e2, e3, e4⟩ | ⟨j, hj, rfl⟩
  · unfold P_run
    repeat' first
      | refine w_st rfl rfl ?_
      | refine w_no rfl rfl ?_ ?_
      | (refine w_br rfl rfl (fun z => ?_) (fun z => ?_) <;> try (first | contradiction | (simp (disch := omega) only [hop2, hop3, e1, kc, nI_eq, nI_ltI, nI_leI, nI_m1, hu_o, not_true_eq_false] at z; first | done | omega)))
      | refine w_in rfl rfl ?_
      | refine w_end rfl rfl ?_
      | refine w_endY rfl rfl ?_ ?_
      | refine w_up ?_
    all_goals try exact f_x 0 hR0 rfl rfl rfl
    all_goals try (exfalso; simp (disch := omega) only [hop2, hop3, e1, kc, nI_eq, nI_ltI, nI_leI, nI_m1, hu_o, not_true_eq_false] at * <;> first | contradiction | omega)
  · unfold P_run
    repeat' first
      | refine w_st rfl rfl ?_
      | refine w_no rfl rfl ?_ ?_
      | (refine w_br rfl rfl (fun z => ?_) (fun z => ?_) <;> try (first | contradiction | (simp (disch := omega) only [hop2, hop3, e1, e2, e3, e4, kc, nI_eq, nI_ltI, nI_leI, nI_m1, hu_o, not_true_eq_false] at z; first | done | omega)))
      | refine w_in rfl rfl ?_
      | refine w_end rfl rfl ?_
      | refine w_endY rfl rfl ?_ ?_
      | refine w_up ?_
    all_goals try exact f_x 0 hR0 rfl rfl rfl
    all_goals try (exfalso; simp (disch := omega) only [hop2, hop3, e1, e2, e3, e4, kc, nI_eq, nI_ltI, nI_leI, nI_m1, hu_o, not_true_eq_false] at * <;> first | contradiction | omega)
  · have ej : (nI j).toNatClampNeg = j := nI_clamp (by omega)
    rcases hbt j hj with ⟨q1, q2, q3, q4⟩ | ⟨k, g, y, hk, hg, hy, hgs, b1, b2, b3, b4, b5, b6⟩
    · unfold P_run
      repeat' first
        | refine w_st rfl rfl ?_
        | refine w_no rfl rfl (nI_in hj (by decide)) ?_
        | refine w_no rfl rfl ?_ ?_
        | (refine w_br rfl rfl (fun z => ?_) (fun z => ?_) <;> try (first | contradiction | (simp (disch := omega) only [q1, q2, q3, hop2, hop3, ej, kc, nI_eq, nI_ltI, nI_leI, nI_m1, hu_o, not_true_eq_false] at z; first | done | omega)))
        | refine w_in rfl rfl ?_
        | refine w_end rfl rfl ?_
        | refine w_endY rfl rfl ?_ ?_
        | refine w_up ?_
      all_goals try (right; simp only [ej, q1, q2, q3]; decide)
      all_goals try exact f_x 0 hR0 rfl rfl rfl
      all_goals try (exfalso; simp (disch := omega) only [q1, q2, q3, hop2, hop3, ej, kc, nI_eq, nI_ltI, nI_leI, nI_m1, hu_o, not_true_eq_false] at * <;> first | contradiction | omega)
      all_goals (refine f_r hR0 rfl ?_ rfl; simp (disch := omega) only [ej, q1, q2, kc, hu_o]; done)
    · rcases (show y = 0 ∨ y = 1 by omega) with rfl | rfl
      all_goals unfold P_run
      all_goals
        repeat' first
          | refine w_st rfl rfl ?_
          | refine w_no rfl rfl (nI_in hj (by decide)) ?_
          | refine w_no rfl rfl ?_ ?_
          | (refine w_br rfl rfl (fun z => ?_) (fun z => ?_) <;> try (first | contradiction | (simp (disch := omega) only [b1, b2, b3, b4, b5, b6, hop2, hop3, ej, kc, nI_eq, nI_ltI, nI_leI, nI_m1, hu_o, not_true_eq_false] at z; first | done | omega)))
          | refine w_in rfl rfl ?_
          | refine w_end rfl rfl ?_
          | refine w_endY rfl rfl ?_ ?_
          | refine w_up ?_
      all_goals try (right; simp only [ej, b1, b2, b3, b4, b5, b6]; decide)
      all_goals try exact f_x 0 hR0 rfl rfl rfl
      all_goals try (exfalso; simp (disch := omega) only [b1, b2, b3, b4, b5, b6, hop2, hop3, ej, kc, nI_eq, nI_ltI, nI_leI, nI_m1, hu_o, not_true_eq_false] at * <;> first | contradiction | omega)
      all_goals (refine f_r hR0 rfl ?_ rfl; simp (disch := omega) only [ej, b1, b2, b3, b4, b5, b6, kc, hu_o]; done)

set_option maxHeartbeats 8000000 in
theorem o_stick (s : Int32) : P_W RR 71 116 [0, 3] false [.inl s] := by
  refine P_Wof fun c m hR => ?_
  have hR0 := hR
  obtain ⟨⟨⟨t, ht, h1, h2⟩, ⟨u, hu1, hu2, hu3⟩, hpw, ⟨op, hop1, hop2, hop3⟩, hsb⟩, hvd, hbt, hsz, hes, hmg, hbk, hpy⟩ := hR
  rcases ix3 s 9 (by decide) with e1 | ⟨e1, e2, e3, e4⟩ | ⟨j, hj, rfl⟩
  · unfold P_run
    repeat' first
      | refine w_st rfl rfl ?_
      | refine w_no rfl rfl ?_ ?_
      | (refine w_br rfl rfl (fun z => ?_) (fun z => ?_) <;> try (first | contradiction | (simp (disch := omega) only [hop2, hop3, e1, kc, nI_eq, nI_ltI, nI_leI, nI_m1, hu_o, not_true_eq_false] at z; first | done | omega)))
      | refine w_in rfl rfl ?_
      | refine w_end rfl rfl ?_
      | refine w_endY rfl rfl ?_ ?_
      | refine w_up ?_
    all_goals try exact f_x 0 hR0 rfl rfl rfl
    all_goals try exact f_x 1 hR0 rfl rfl rfl
    all_goals try (exfalso; simp (disch := omega) only [hop2, hop3, e1, kc, nI_eq, nI_ltI, nI_leI, nI_m1, hu_o, not_true_eq_false] at * <;> first | contradiction | omega)
  · unfold P_run
    repeat' first
      | refine w_st rfl rfl ?_
      | refine w_no rfl rfl ?_ ?_
      | (refine w_br rfl rfl (fun z => ?_) (fun z => ?_) <;> try (first | contradiction | (simp (disch := omega) only [hop2, hop3, e1, e2, e3, e4, kc, nI_eq, nI_ltI, nI_leI, nI_m1, hu_o, not_true_eq_false] at z; first | done | omega)))
      | refine w_in rfl rfl ?_
      | refine w_end rfl rfl ?_
      | refine w_endY rfl rfl ?_ ?_
      | refine w_up ?_
    all_goals try exact f_x 0 hR0 rfl rfl rfl
    all_goals try exact f_x 1 hR0 rfl rfl rfl
    all_goals try (exfalso; simp (disch := omega) only [hop2, hop3, e1, e2, e3, e4, kc, nI_eq, nI_ltI, nI_leI, nI_m1, hu_o, not_true_eq_false] at * <;> first | contradiction | omega)
  · have ej : (nI j).toNatClampNeg = j := nI_clamp (by omega)
    rcases hbt j hj with ⟨q1, q2, q3, q4⟩ | ⟨k, g, y, hk, hg, hy, hgs, b1, b2, b3, b4, b5, b6⟩
    · unfold P_run
      repeat' first
        | refine w_st rfl rfl ?_
        | refine w_no rfl rfl (nI_in hj (by decide)) ?_
        | refine w_no rfl rfl ?_ ?_
        | (refine w_br rfl rfl (fun z => ?_) (fun z => ?_) <;> try (first | contradiction | (simp (disch := omega) only [q1, q2, q3, hop2, hop3, ej, kc, nI_eq, nI_ltI, nI_leI, nI_m1, hu_o, not_true_eq_false] at z; first | done | omega)))
        | refine w_in rfl rfl ?_
        | refine w_end rfl rfl ?_
        | refine w_endY rfl rfl ?_ ?_
        | refine w_up ?_
      all_goals try (right; simp only [ej, q1, q2, q3]; decide)
      all_goals try exact f_x 0 hR0 rfl rfl rfl
      all_goals try exact f_x 1 hR0 rfl rfl rfl
      all_goals try (exfalso; simp (disch := omega) only [q1, q2, q3, hop2, hop3, ej, kc, nI_eq, nI_ltI, nI_leI, nI_m1, hu_o, not_true_eq_false] at * <;> first | contradiction | omega)
    · rcases (show y = 0 ∨ y = 1 by omega) with rfl | rfl
      all_goals unfold P_run
      all_goals
        repeat' first
          | refine w_st rfl rfl ?_
          | refine w_no rfl rfl (nI_in hj (by decide)) ?_
          | refine w_no rfl rfl ?_ ?_
          | (refine w_br rfl rfl (fun z => ?_) (fun z => ?_) <;> try (first | contradiction | (simp (disch := omega) only [b1, b2, b3, b4, b5, b6, hop2, hop3, ej, kc, nI_eq, nI_ltI, nI_leI, nI_m1, hu_o, not_true_eq_false] at z; first | done | omega)))
          | refine w_in rfl rfl ?_
          | refine w_end rfl rfl ?_
          | refine w_endY rfl rfl ?_ ?_
          | refine w_up ?_
      all_goals try (right; simp only [ej, b1, b2, b3, b4, b5, b6]; decide)
      all_goals try exact f_x 0 hR0 rfl rfl rfl
      all_goals try exact f_x 1 hR0 rfl rfl rfl
      all_goals try (exfalso; simp (disch := omega) only [b1, b2, b3, b4, b5, b6, hop2, hop3, ej, kc, nI_eq, nI_ltI, nI_leI, nI_m1, hu_o, not_true_eq_false] at * <;> first | contradiction | omega)
      all_goals refine f_r ⟨⟨⟨t, ht, h1, h2⟩, ⟨u, hu1, hu2, hu3⟩, hpw, ⟨op, hop1, hop2, hop3⟩, hsb⟩, hvd, bt_at (j := j) hbt (fun s hs => ?_) (Or.inr ⟨k, g, 1, hk, hg, by decide, hgs, ?_⟩), hsz, hes, hmg, hbk, hpy⟩ rfl rfl rfl
      all_goals first | (simp only [ej, hu]; simp [hs]; done) | (simp only [ej, r_nt, hu]; simp [b1, b2, b3, b4, kc]; done)

set_option maxHeartbeats 8000000 in
theorem o_free (s : Int32) : P_W RR 74 119 [1, 0] true [.inl s] := by
  refine P_Wof fun c m hR => ?_
  have hR0 := hR
  obtain ⟨⟨⟨t, ht, h1, h2⟩, ⟨u, hu1, hu2, hu3⟩, hpw, ⟨op, hop1, hop2, hop3⟩, hsb⟩, hvd, hbt, hsz, hes, hmg, hbk, hpy⟩ := hR
  rcases ix3 s 9 (by decide) with e1 | ⟨e1, e2, e3, e4⟩ | ⟨j, hj, rfl⟩
  · unfold P_run
    repeat' first
      | refine w_st rfl rfl ?_
      | refine w_no rfl rfl ?_ ?_
      | (refine w_br rfl rfl (fun z => ?_) (fun z => ?_) <;> try (first | contradiction | (simp (disch := omega) only [hop2, hop3, e1, kc, nI_eq, nI_ltI, nI_leI, nI_m1, hu_o, not_true_eq_false] at z; first | done | omega)))
      | refine w_in rfl rfl ?_
      | refine w_end rfl rfl ?_
      | refine w_endY rfl rfl ?_ ?_
      | refine w_up ?_
    all_goals try exact f_x 0 hR0 rfl rfl rfl
    all_goals try exact f_x 1 hR0 rfl rfl rfl
    all_goals try (exfalso; simp (disch := omega) only [hop2, hop3, e1, kc, nI_eq, nI_ltI, nI_leI, nI_m1, hu_o, not_true_eq_false] at * <;> first | contradiction | omega)
  · unfold P_run
    repeat' first
      | refine w_st rfl rfl ?_
      | refine w_no rfl rfl ?_ ?_
      | (refine w_br rfl rfl (fun z => ?_) (fun z => ?_) <;> try (first | contradiction | (simp (disch := omega) only [hop2, hop3, e1, e2, e3, e4, kc, nI_eq, nI_ltI, nI_leI, nI_m1, hu_o, not_true_eq_false] at z; first | done | omega)))
      | refine w_in rfl rfl ?_
      | refine w_end rfl rfl ?_
      | refine w_endY rfl rfl ?_ ?_
      | refine w_up ?_
    all_goals try exact f_x 0 hR0 rfl rfl rfl
    all_goals try exact f_x 1 hR0 rfl rfl rfl
    all_goals try (exfalso; simp (disch := omega) only [hop2, hop3, e1, e2, e3, e4, kc, nI_eq, nI_ltI, nI_leI, nI_m1, hu_o, not_true_eq_false] at * <;> first | contradiction | omega)
  · have ej : (nI j).toNatClampNeg = j := nI_clamp (by omega)
    rcases hbt j hj with ⟨q1, q2, q3, q4⟩ | ⟨k, g, y, hk, hg, hy, hgs, b1, b2, b3, b4, b5, b6⟩
    · unfold P_run
      repeat' first
        | refine w_st rfl rfl ?_
        | refine w_no rfl rfl (nI_in hj (by decide)) ?_
        | refine w_no rfl rfl ?_ ?_
        | (refine w_br rfl rfl (fun z => ?_) (fun z => ?_) <;> try (first | contradiction | (simp (disch := omega) only [q1, q2, q3, hop2, hop3, ej, kc, nI_eq, nI_ltI, nI_leI, nI_m1, hu_o, not_true_eq_false] at z; first | done | omega)))
        | refine w_in rfl rfl ?_
        | refine w_end rfl rfl ?_
        | refine w_endY rfl rfl ?_ ?_
        | refine w_up ?_
      all_goals try (right; simp only [ej, q1, q2, q3]; decide)
      all_goals try exact f_x 0 hR0 rfl rfl rfl
      all_goals try exact f_x 1 hR0 rfl rfl rfl
      all_goals try (exfalso; simp (disch := omega) only [q1, q2, q3, hop2, hop3, ej, kc, nI_eq, nI_ltI, nI_leI, nI_m1, hu_o, not_true_eq_false] at * <;> first | contradiction | omega)
      all_goals refine f_r ⟨⟨⟨t, ht, h1, h2⟩, ⟨u, hu1, hu2, hu3⟩, hpw, ⟨op, hop1, hop2, hop3⟩, hsb⟩, hvd, bt_at (j := j) hbt (fun s hs => ?_) (Or.inl ?_), hsz, hes, hmg, hbk, hpy⟩ rfl ?_ rfl
      all_goals first | (simp only [ej, hu]; simp [hs]; done) | (simp only [ej, r_no, hu]; simp [q1, q2, kc]; done) | (simp (disch := omega) only [ej, q3, kc, hu_o]; done)
    · rcases (show y = 0 ∨ y = 1 by omega) with rfl | rfl
      all_goals unfold P_run
      all_goals
        repeat' first
          | refine w_st rfl rfl ?_
          | refine w_no rfl rfl (nI_in hj (by decide)) ?_
          | refine w_no rfl rfl ?_ ?_
          | (refine w_br rfl rfl (fun z => ?_) (fun z => ?_) <;> try (first | contradiction | (simp (disch := omega) only [b1, b2, b3, b4, b5, b6, hop2, hop3, ej, kc, nI_eq, nI_ltI, nI_leI, nI_m1, hu_o, not_true_eq_false] at z; first | done | omega)))
          | refine w_in rfl rfl ?_
          | refine w_end rfl rfl ?_
          | refine w_endY rfl rfl ?_ ?_
          | refine w_up ?_
      all_goals try (right; simp only [ej, b1, b2, b3, b4, b5, b6]; decide)
      all_goals try exact f_x 0 hR0 rfl rfl rfl
      all_goals try exact f_x 1 hR0 rfl rfl rfl
      all_goals try (exfalso; simp (disch := omega) only [b1, b2, b3, b4, b5, b6, hop2, hop3, ej, kc, nI_eq, nI_ltI, nI_leI, nI_m1, hu_o, not_true_eq_false] at * <;> first | contradiction | omega)
      all_goals refine f_r ⟨⟨⟨t, ht, h1, h2⟩, ⟨u, hu1, hu2, hu3⟩, hpw, ⟨op, hop1, hop2, hop3⟩, hsb⟩, hvd, bt_at (j := j) hbt (fun s hs => ?_) (Or.inr ⟨k, g, 0, hk, hg, by decide, hgs, ?_⟩), hsz, hes, hmg, hbk, hpy⟩ rfl ?_ rfl
      all_goals first | (simp only [ej, hu]; simp [hs]; done) | (simp only [ej, r_nt, hu]; simp [b1, b2, b3, b4, kc]; done) | (simp (disch := omega) only [ej, b5, kc, hu_o]; done)
end
section
/-! REMOVE AND THE CALLS ON CASSETTES (written by wip/whole/gen_ops3.py). -/
theorem nN_clr {g g' : Nat → Int32} {j : Nat} (hj : j < 10) (e : ∀ i, i ≠ j → g' i = g i) (h1 : g j ≠ -1) (h2 : g' j = -1) : nN g = nN g' + 1 := by
  have h := sm_at (f := fun s => if g s = -1 then 0 else 1) (g := fun s => if g' s = -1 then 0 else 1) hj (fun i _ hi => by simp only [e i hi])
  simp only [if_neg h1, if_pos h2] at h
  simp only [nN]
  omega
theorem bk_add {c m c' m' : HP} {k : Nat} {x : Int32} (a b : Nat) (h : r_bk c m) (hc : c' = hu c a k (c a k + x)) (hm : m' = hu m b k (m b k + x)) (hab : (a, b) ∈ [(16, 38), (18, 39), (19, 40), (20, 41), (21, 42), (22, 43), (23, 44)]) : r_bk c' m' := by
  subst hc hm
  intro i hi
  obtain ⟨q1, q2, q3, q4, q5, q6, q7⟩ := h i hi
  simp only [List.mem_cons, Prod.mk.injEq, List.not_mem_nil, or_false] at hab
  by_cases e : i = k
  · subst e
    rcases hab with ⟨rfl, rfl⟩ | ⟨rfl, rfl⟩ | ⟨rfl, rfl⟩ | ⟨rfl, rfl⟩ | ⟨rfl, rfl⟩ | ⟨rfl, rfl⟩ | ⟨rfl, rfl⟩ <;> simp [hu, q1, q2, q3, q4, q5, q6, q7]
  · rcases hab with ⟨rfl, rfl⟩ | ⟨rfl, rfl⟩ | ⟨rfl, rfl⟩ | ⟨rfl, rfl⟩ | ⟨rfl, rfl⟩ | ⟨rfl, rfl⟩ | ⟨rfl, rfl⟩ <;> simp [hu, e, q1, q2, q3, q4, q5, q6, q7]

set_option maxHeartbeats 3000000 in
theorem o_remove (s : Int32) : P_W RR 73 118 [1, 0, 3] true [.inl s] := by
  refine P_Wof fun c m hR => ?_
  have hR0 := hR
  obtain ⟨⟨⟨t, ht, h1, h2⟩, ⟨u, hu1, hu2, hu3⟩, hpw, ⟨op, hop1, hop2, hop3⟩, hsb⟩, hvd, hbt, hsz, hes, hmg, hbk, hpy⟩ := hR
  rcases ix3 s 9 (by decide) with e1 | ⟨e1, e2, e3, e4⟩ | ⟨j, hj, rfl⟩
  · unfold P_run
    repeat' first
      | refine w_st rfl rfl ?_
      | refine w_no rfl rfl ?_ ?_
      | (refine w_br rfl rfl (fun z => ?_) (fun z => ?_) <;> try (first | contradiction | (simp (disch := omega) only [hop2, hop3, e1, kc, nI_eq, nI_ltI, nI_leI, nI_m1, hu_o, not_true_eq_false] at z; first | done | omega)))
      | refine w_in rfl rfl ?_
      | refine w_end rfl rfl ?_
      | refine w_endY rfl rfl ?_ ?_
      | refine w_up ?_
    all_goals try exact f_x 0 hR0 rfl rfl rfl
    all_goals try exact f_x 1 hR0 rfl rfl rfl
    all_goals try exact f_x 2 hR0 rfl rfl rfl
    all_goals try (exfalso; simp (disch := omega) only [hop2, hop3, e1, kc, nI_eq, nI_ltI, nI_leI, nI_m1, hu_o, not_true_eq_false] at * <;> first | contradiction | omega)
  · unfold P_run
    repeat' first
      | refine w_st rfl rfl ?_
      | refine w_no rfl rfl ?_ ?_
      | (refine w_br rfl rfl (fun z => ?_) (fun z => ?_) <;> try (first | contradiction | (simp (disch := omega) only [hop2, hop3, e1, e2, e3, e4, kc, nI_eq, nI_ltI, nI_leI, nI_m1, hu_o, not_true_eq_false] at z; first | done | omega)))
      | refine w_in rfl rfl ?_
      | refine w_end rfl rfl ?_
      | refine w_endY rfl rfl ?_ ?_
      | refine w_up ?_
    all_goals try exact f_x 0 hR0 rfl rfl rfl
    all_goals try exact f_x 1 hR0 rfl rfl rfl
    all_goals try exact f_x 2 hR0 rfl rfl rfl
    all_goals try (exfalso; simp (disch := omega) only [hop2, hop3, e1, e2, e3, e4, kc, nI_eq, nI_ltI, nI_leI, nI_m1, hu_o, not_true_eq_false] at * <;> first | contradiction | omega)
  · have ej : (nI j).toNatClampNeg = j := nI_clamp (by omega)
    rcases hbt j hj with ⟨q1, q2, q3, q4⟩ | ⟨k, g, y, hk, hg, hy, hgs, b1, b2, b3, b4, b5, b6⟩
    · unfold P_run
      repeat' first
        | refine w_st rfl rfl ?_
        | refine w_no rfl rfl ?_ ?_
        | (refine w_br rfl rfl (fun z => ?_) (fun z => ?_) <;> try (first | contradiction | (simp (disch := omega) only [q1, q2, q3, hop2, hop3, ej, kc, nI_eq, nI_ltI, nI_leI, nI_m1, hu_o, not_true_eq_false] at z; first | done | omega)))
        | refine w_in rfl rfl ?_
        | refine w_end rfl rfl ?_
        | refine w_endY rfl rfl ?_ ?_
        | refine w_up ?_
      all_goals try (intro z; simp (disch := omega) only [q1, q2, q3, ej, nI_clamp, kc, nI_ltI, hu_o] at z <;> omega)
      all_goals try (right; simp only [ej, q1, q2, q3]; decide)
      all_goals try exact f_x 0 hR0 rfl rfl rfl
      all_goals try exact f_x 1 hR0 rfl rfl rfl
      all_goals try exact f_x 2 hR0 rfl rfl rfl
      all_goals try (exfalso; simp (disch := omega) only [q1, q2, q3, hop2, hop3, ej, kc, nI_eq, nI_ltI, nI_leI, nI_m1, hu_o, not_true_eq_false] at * <;> first | contradiction | omega)
    · rcases (show y = 0 ∨ y = 1 by omega) with rfl | rfl
      all_goals unfold P_run
      all_goals
        repeat' first
          | refine w_st rfl rfl ?_
          | refine w_no rfl rfl ?_ ?_
          | (refine w_br rfl rfl (fun z => ?_) (fun z => ?_) <;> try (first | contradiction | (simp (disch := omega) only [b1, b2, b3, b4, b5, b6, hop2, hop3, ej, kc, nI_eq, nI_ltI, nI_leI, nI_m1, hu_o, not_true_eq_false] at z; first | done | omega)))
          | refine w_in rfl rfl ?_
          | refine w_end rfl rfl ?_
          | refine w_endY rfl rfl ?_ ?_
          | refine w_up ?_
      all_goals try (intro z; simp (disch := omega) only [b1, b2, b3, b4, b5, b6, ej, nI_clamp, kc, nI_ltI, hu_o] at z <;> omega)
      all_goals try (right; simp only [ej, b1, b2, b3, b4, b5, b6]; decide)
      all_goals try exact f_x 0 hR0 rfl rfl rfl
      all_goals try exact f_x 1 hR0 rfl rfl rfl
      all_goals try exact f_x 2 hR0 rfl rfl rfl
      all_goals try (exfalso; simp (disch := omega) only [b1, b2, b3, b4, b5, b6, hop2, hop3, ej, kc, nI_eq, nI_ltI, nI_leI, nI_m1, hu_o, not_true_eq_false] at * <;> first | contradiction | omega)
      all_goals
        have ek : (nI k).toNatClampNeg = k := nI_clamp (by omega)
        simp (disch := omega) only [ej, b1, b2, ek, hu_o, kc]
        refine f_r ⟨⟨⟨t, ht, h1, h2⟩, ⟨u, hu1, hu2, hu3⟩, hpw, ⟨op, hop1, hop2, hop3⟩, hsb⟩, hvd, bt_at (j := j) hbt (fun s hs => ?_) (Or.inl ?_), ?_, hes, hmg, ?_, hpy⟩ rfl rfl rfl
        · simp only [hu]; simp [hs]
        · simp [r_no, hu, kc]
        · show c 3 3 - nI 1 = nI (nN _)
          rw [hsz, nN_clr (g := c 5) (g' := hu c 5 j (-1) 5) hj (fun i hi => by simp [hu, hi]) (by rw [b3]; exact of_eq_false (nI_m1 (by omega))) (by simp [hu])]
          exact nI_pred _
        · exact (bk_add (k := k) (x := nI 1) 22 43 hbk rfl rfl (by decide) : r_bk (hu c 22 k (c 22 k + nI 1)) (hu m 43 k (m 43 k + nI 1)))
end
section
/-! THE CALLS ON CASSETTES (written by wip/whole/gen_ops4.py). -/
theorem ixK (x : Int32) (n : Nat) (hn : n + 1 < 2 ^ 31) : ((x < nI 1) = True) ∨ (((x < nI 1) = False) ∧ ((nI n < x) = True) ∧ (∀ r, r ≤ n → (x ≤ nI r) = False)) ∨ ∃ j, 1 ≤ j ∧ j ≤ n ∧ x = nI j := by
  by_cases h1 : x < nI 1
  · exact Or.inl (eq_true h1)
  · by_cases h2 : x ≤ nI n
    · refine Or.inr (Or.inr ?_)
      have h0 : ¬ x < 0 := fun z => h1 (by
        simp only [Int32.lt_iff_toInt_lt] at z ⊢
        have e0 : (0 : Int32).toInt = 0 := rfl
        have e1 : (nI 1).toInt = 1 := rfl
        omega)
      obtain ⟨j, hj, rfl⟩ := nI_of2 (n := n) (nI_toInt (by omega)) h0 h2
      refine ⟨j, ?_, hj, rfl⟩
      rw [nI_ltI (by omega) (by decide)] at h1
      omega
    · refine Or.inr (Or.inl ⟨eq_false h1, eq_true ?_, fun r hr => eq_false ?_⟩)
      · simp only [Int32.lt_iff_toInt_lt, Int32.le_iff_toInt_le] at h2 ⊢
        omega
      · simp only [Int32.le_iff_toInt_le] at h2 ⊢
        rw [nI_toInt (by omega)] at h2 ⊢
        omega

set_option maxHeartbeats 3000000 in
theorem o_cassette (x w : Int32) : P_W RR 89 134 [0] true [.inl x, .inl w] := by
  refine P_Wof fun c m hR => ?_
  have hR0 := hR
  obtain ⟨⟨⟨t, ht, h1, h2⟩, ⟨u, hu1, hu2, hu3⟩, hpw, ⟨op, hop1, hop2, hop3⟩, hsb⟩, hvd, hbt, hsz, hes, hmg, hbk, hpy⟩ := hR
  rcases ix3 x 3 (by decide) with e1 | ⟨e1, e2, e3, e4⟩ | ⟨j, hj, rfl⟩
  · unfold P_run
    repeat' first
      | refine w_st rfl rfl ?_
      | refine w_no rfl rfl ?_ ?_
      | (refine w_br rfl rfl (fun z => ?_) (fun z => ?_) <;> try (first | contradiction | (simp (disch := omega) only [e1, kc, nI_eq, nI_ltI, nI_leI, nI_m1, hu_o, not_true_eq_false] at z; first | done | omega)))
      | refine w_in rfl rfl ?_
      | refine w_end rfl rfl ?_
      | refine w_endY rfl rfl ?_ ?_
      | refine w_up ?_
    all_goals try (intro z; simp (disch := omega) only [e1, nI_clamp, kc, nI_ltI, hu_o] at z <;> omega)
    all_goals try exact f_x 0 hR0 rfl rfl rfl
    all_goals try (exfalso; simp (disch := omega) only [e1, kc, nI_eq, nI_ltI, nI_leI, nI_m1, hu_o, not_true_eq_false] at * <;> first | contradiction | omega)
  · unfold P_run
    repeat' first
      | refine w_st rfl rfl ?_
      | refine w_no rfl rfl ?_ ?_
      | (refine w_br rfl rfl (fun z => ?_) (fun z => ?_) <;> try (first | contradiction | (simp (disch := omega) only [e1, e2, e3, e4, kc, nI_eq, nI_ltI, nI_leI, nI_m1, hu_o, not_true_eq_false] at z; first | done | omega)))
      | refine w_in rfl rfl ?_
      | refine w_end rfl rfl ?_
      | refine w_endY rfl rfl ?_ ?_
      | refine w_up ?_
    all_goals try (intro z; simp (disch := omega) only [e1, e2, e3, e4, nI_clamp, kc, nI_ltI, hu_o] at z <;> omega)
    all_goals try exact f_x 0 hR0 rfl rfl rfl
    all_goals try (exfalso; simp (disch := omega) only [e1, e2, e3, e4, kc, nI_eq, nI_ltI, nI_leI, nI_m1, hu_o, not_true_eq_false] at * <;> first | contradiction | omega)
  · have ej : (nI j).toNatClampNeg = j := nI_clamp (by omega)
    obtain ⟨k, n, hk1, hk2, hn, b1, b2, b3, b4⟩ := hmg j hj
    unfold P_run
    repeat' first
      | refine w_st rfl rfl ?_
      | refine w_no rfl rfl ?_ ?_
      | (refine w_br rfl rfl (fun z => ?_) (fun z => ?_) <;> try (first | contradiction | (simp (disch := omega) only [ej, b1, b2, b3, b4, kc, nI_eq, nI_ltI, nI_leI, nI_m1, hu_o, not_true_eq_false] at z; first | done | omega)))
      | refine w_in rfl rfl ?_
      | refine w_end rfl rfl ?_
      | refine w_endY rfl rfl ?_ ?_
      | refine w_up ?_
    all_goals try (intro z; simp (disch := omega) only [ej, b1, b2, b3, b4, nI_clamp, kc, nI_ltI, hu_o] at z <;> omega)
    all_goals try exact f_x 0 hR0 rfl rfl rfl
    all_goals try (exfalso; simp (disch := omega) only [ej, b1, b2, b3, b4, kc, nI_eq, nI_ltI, nI_leI, nI_m1, hu_o, not_true_eq_false] at * <;> first | contradiction | omega)
    all_goals (refine f_r hR0 rfl ?_ rfl; simp (disch := omega) only [ej, b1, b2, b3, b4, kc, hu_o]; done)

set_option maxHeartbeats 3000000 in
theorem o_kind (x y : Int32) : P_W RR 82 126 [1, 0, 2] false [.inl x, .inl y] := by
  refine P_Wof fun c m hR => ?_
  have hR0 := hR
  obtain ⟨⟨⟨t, ht, h1, h2⟩, ⟨u, hu1, hu2, hu3⟩, hpw, ⟨op, hop1, hop2, hop3⟩, hsb⟩, hvd, hbt, hsz, hes, hmg, hbk, hpy⟩ := hR
  have hpp : ∃ pw, pw ≤ 1 ∧ c 0 9 = nI pw ∧ m 30 2 = nI (1 - pw) := by
    rcases hpw with ⟨a, b⟩ | ⟨a, b⟩
    · exact ⟨1, by decide, a, b⟩
    · exact ⟨0, by decide, a, b⟩
  obtain ⟨pw, hp, p1, p2⟩ := hpp
  by_cases hrd : pw = 1 ∧ t = 8
  · obtain ⟨rfl, rfl⟩ := hrd
    rcases ix3 x 3 (by decide) with e1 | ⟨e1, e2, e3, e4⟩ | ⟨j, hj, rfl⟩
    · unfold P_run
      repeat' first
        | refine w_st rfl rfl ?_
        | refine w_no rfl rfl ?_ ?_
        | (refine w_br rfl rfl (fun z => ?_) (fun z => ?_) <;> try (first | contradiction | (simp (disch := omega) only [p1, p2, h1, h2, e1, kc, nI_eq, nI_ltI, nI_leI, nI_m1, hu_o, not_true_eq_false] at z; first | done | omega)))
        | refine w_in rfl rfl ?_
        | refine w_end rfl rfl ?_
        | refine w_endY rfl rfl ?_ ?_
        | refine w_up ?_
      all_goals try (intro z; simp (disch := omega) only [p1, p2, h1, h2, e1, nI_clamp, kc, nI_ltI, hu_o] at z <;> omega)
      all_goals try exact f_x 0 hR0 rfl rfl rfl
      all_goals try exact f_x 1 hR0 rfl rfl rfl
      all_goals try exact f_x 2 hR0 rfl rfl rfl
      all_goals try (exfalso; simp (disch := omega) only [p1, p2, h1, h2, e1, kc, nI_eq, nI_ltI, nI_leI, nI_m1, hu_o, not_true_eq_false] at * <;> first | contradiction | omega)
    · unfold P_run
      repeat' first
        | refine w_st rfl rfl ?_
        | refine w_no rfl rfl ?_ ?_
        | (refine w_br rfl rfl (fun z => ?_) (fun z => ?_) <;> try (first | contradiction | (simp (disch := omega) only [p1, p2, h1, h2, e1, e2, e3, e4, kc, nI_eq, nI_ltI, nI_leI, nI_m1, hu_o, not_true_eq_false] at z; first | done | omega)))
        | refine w_in rfl rfl ?_
        | refine w_end rfl rfl ?_
        | refine w_endY rfl rfl ?_ ?_
        | refine w_up ?_
      all_goals try (intro z; simp (disch := omega) only [p1, p2, h1, h2, e1, e2, e3, e4, nI_clamp, kc, nI_ltI, hu_o] at z <;> omega)
      all_goals try exact f_x 0 hR0 rfl rfl rfl
      all_goals try exact f_x 1 hR0 rfl rfl rfl
      all_goals try exact f_x 2 hR0 rfl rfl rfl
      all_goals try (exfalso; simp (disch := omega) only [p1, p2, h1, h2, e1, e2, e3, e4, kc, nI_eq, nI_ltI, nI_leI, nI_m1, hu_o, not_true_eq_false] at * <;> first | contradiction | omega)
    · have ej : (nI j).toNatClampNeg = j := nI_clamp (by omega)
      obtain ⟨k, n, hk1, hk2, hn, b1, b2, b3, b4⟩ := hmg j hj
      rcases ixK y 5 (by decide) with e1 | ⟨e1, e2, e3⟩ | ⟨q, hq1, hq2, rfl⟩
      · unfold P_run
        repeat' first
          | refine w_st rfl rfl ?_
          | refine w_no rfl rfl ?_ ?_
          | (refine w_br rfl rfl (fun z => ?_) (fun z => ?_) <;> try (first | contradiction | (simp (disch := omega) only [p1, p2, h1, h2, e1, ej, kc, nI_eq, nI_ltI, nI_leI, nI_m1, hu_o, not_true_eq_false] at z; first | done | omega)))
          | refine w_in rfl rfl ?_
          | refine w_end rfl rfl ?_
          | refine w_endY rfl rfl ?_ ?_
          | refine w_up ?_
        all_goals try (intro z; simp (disch := omega) only [p1, p2, h1, h2, e1, ej, nI_clamp, kc, nI_ltI, hu_o] at z <;> omega)
        all_goals try exact f_x 0 hR0 rfl rfl rfl
        all_goals try exact f_x 1 hR0 rfl rfl rfl
        all_goals try exact f_x 2 hR0 rfl rfl rfl
        all_goals try (exfalso; simp (disch := omega) only [p1, p2, h1, h2, e1, ej, kc, nI_eq, nI_ltI, nI_leI, nI_m1, hu_o, not_true_eq_false] at * <;> first | contradiction | omega)
      · unfold P_run
        repeat' first
          | refine w_st rfl rfl ?_
          | refine w_no rfl rfl ?_ ?_
          | (refine w_br rfl rfl (fun z => ?_) (fun z => ?_) <;> try (first | contradiction | (simp (disch := omega) only [p1, p2, h1, h2, e1, e2, e3, ej, kc, nI_eq, nI_ltI, nI_leI, nI_m1, hu_o, not_true_eq_false] at z; first | done | omega)))
          | refine w_in rfl rfl ?_
          | refine w_end rfl rfl ?_
          | refine w_endY rfl rfl ?_ ?_
          | refine w_up ?_
        all_goals try (intro z; simp (disch := omega) only [p1, p2, h1, h2, e1, e2, e3, ej, nI_clamp, kc, nI_ltI, hu_o] at z <;> omega)
        all_goals try exact f_x 0 hR0 rfl rfl rfl
        all_goals try exact f_x 1 hR0 rfl rfl rfl
        all_goals try exact f_x 2 hR0 rfl rfl rfl
        all_goals try (exfalso; simp (disch := omega) only [p1, p2, h1, h2, e1, e2, e3, ej, kc, nI_eq, nI_ltI, nI_leI, nI_m1, hu_o, not_true_eq_false] at * <;> first | contradiction | omega)
      · unfold P_run
        repeat' first
          | refine w_st rfl rfl ?_
          | refine w_no rfl rfl ?_ ?_
          | (refine w_br rfl rfl (fun z => ?_) (fun z => ?_) <;> try (first | contradiction | (simp (disch := omega) only [p1, p2, h1, h2, b1, b2, b3, b4, ej, kc, nI_eq, nI_ltI, nI_leI, nI_m1, hu_o, not_true_eq_false] at z; first | done | omega)))
          | refine w_in rfl rfl ?_
          | refine w_end rfl rfl ?_
          | refine w_endY rfl rfl ?_ ?_
          | refine w_up ?_
        all_goals try (intro z; simp (disch := omega) only [p1, p2, h1, h2, b1, b2, b3, b4, ej, nI_clamp, kc, nI_ltI, hu_o] at z <;> omega)
        all_goals try exact f_x 0 hR0 rfl rfl rfl
        all_goals try exact f_x 1 hR0 rfl rfl rfl
        all_goals try exact f_x 2 hR0 rfl rfl rfl
        all_goals try (exfalso; simp (disch := omega) only [p1, p2, h1, h2, b1, b2, b3, b4, ej, kc, nI_eq, nI_ltI, nI_leI, nI_m1, hu_o, not_true_eq_false] at * <;> first | contradiction | omega)
        simp (disch := omega) only [ej, kc, hu_o]
        refine f_r ⟨⟨⟨8, ht, h1, h2⟩, ⟨u, hu1, hu2, hu3⟩, hpw, ⟨op, hop1, hop2, hop3⟩, hsb⟩, hvd, hbt, hsz, hes, fun i hi => ?_, hbk, hpy.1, fun z => absurd (h1.symm.trans z) (by decide)⟩ rfl rfl rfl
        by_cases e : i = j
        · subst e; exact ⟨q, n, hq1, hq2, hn, by simp [hu], by simp [hu], b3, b4⟩
        · obtain ⟨k', n', r⟩ := hmg i hi; exact ⟨k', n', by simpa [hu, e] using r⟩
  · rcases (show pw = 0 ∨ pw = 1 by omega) with rfl | rfl
    · unfold P_run
      repeat' first
        | refine w_st rfl rfl ?_
        | refine w_no rfl rfl ?_ ?_
        | (refine w_br rfl rfl (fun z => ?_) (fun z => ?_) <;> try (first | contradiction | (simp (disch := omega) only [p1, p2, h1, h2, kc, nI_eq, nI_ltI, nI_leI, nI_m1, hu_o, not_true_eq_false] at z; first | done | omega)))
        | refine w_in rfl rfl ?_
        | refine w_end rfl rfl ?_
        | refine w_endY rfl rfl ?_ ?_
        | refine w_up ?_
      all_goals try (intro z; simp (disch := omega) only [p1, p2, h1, h2, nI_clamp, kc, nI_ltI, hu_o] at z <;> omega)
      all_goals try exact f_x 0 hR0 rfl rfl rfl
      all_goals try exact f_x 1 hR0 rfl rfl rfl
      all_goals try exact f_x 2 hR0 rfl rfl rfl
      all_goals try (exfalso; simp (disch := omega) only [p1, p2, h1, h2, kc, nI_eq, nI_ltI, nI_leI, nI_m1, hu_o, not_true_eq_false] at * <;> first | contradiction | omega)
    · have ht8 : t ≠ 8 := fun z => hrd ⟨rfl, z⟩
      unfold P_run
      repeat' first
        | refine w_st rfl rfl ?_
        | refine w_no rfl rfl ?_ ?_
        | (refine w_br rfl rfl (fun z => ?_) (fun z => ?_) <;> try (first | contradiction | (simp (disch := omega) only [p1, p2, h1, h2, kc, nI_eq, nI_ltI, nI_leI, nI_m1, hu_o, not_true_eq_false] at z; first | done | omega)))
        | refine w_in rfl rfl ?_
        | refine w_end rfl rfl ?_
        | refine w_endY rfl rfl ?_ ?_
        | refine w_up ?_
      all_goals try (intro z; simp (disch := omega) only [p1, p2, h1, h2, nI_clamp, kc, nI_ltI, hu_o] at z <;> omega)
      all_goals try exact f_x 0 hR0 rfl rfl rfl
      all_goals try exact f_x 1 hR0 rfl rfl rfl
      all_goals try exact f_x 2 hR0 rfl rfl rfl
      all_goals try (exfalso; simp (disch := omega) only [p1, p2, h1, h2, kc, nI_eq, nI_ltI, nI_leI, nI_m1, hu_o, not_true_eq_false] at * <;> first | contradiction | omega)
end
section
/-! REFILL (written by wip/whole/gen_ops4.py). -/
set_option maxHeartbeats 3000000 in
theorem o_refill (x y : Int32) : P_W RR 83 127 [1, 0] true [.inl x, .inl y] := by
  refine P_Wof fun c m hR => ?_
  have hR0 := hR
  obtain ⟨⟨⟨t, ht, h1, h2⟩, ⟨u, hu1, hu2, hu3⟩, hpw, ⟨op, hop1, hop2, hop3⟩, hsb⟩, hvd, hbt, hsz, hes, hmg, hbk, hpy⟩ := hR
  have hpp : ∃ pw, pw ≤ 1 ∧ c 0 9 = nI pw ∧ m 30 2 = nI (1 - pw) := by
    rcases hpw with ⟨a, b⟩ | ⟨a, b⟩
    · exact ⟨1, by decide, a, b⟩
    · exact ⟨0, by decide, a, b⟩
  obtain ⟨pw, hp, p1, p2⟩ := hpp
  by_cases hrd : pw = 1 ∧ t = 8
  · obtain ⟨rfl, rfl⟩ := hrd
    rcases ix3 x 3 (by decide) with e1 | ⟨e1, e2, e3, e4⟩ | ⟨j, hj, rfl⟩
    · unfold P_run
      repeat' first
        | refine w_st rfl rfl ?_
        | refine w_no rfl rfl ?_ ?_
        | (refine w_br rfl rfl (fun z => ?_) (fun z => ?_) <;> try (first | contradiction | (simp (disch := omega) only [p1, p2, h1, h2, e1, kc, nI_eq, nI_ltI, nI_leI, nI_m1, hu_o, not_true_eq_false] at z; first | done | omega)))
        | refine w_in rfl rfl ?_
        | refine w_end rfl rfl ?_
        | refine w_endY rfl rfl ?_ ?_
        | refine w_up ?_
      all_goals try (intro z; simp (disch := omega) only [p1, p2, h1, h2, e1, nI_clamp, kc, nI_ltI, hu_o] at z <;> omega)
      all_goals try exact f_x 0 hR0 rfl rfl rfl
      all_goals try exact f_x 1 hR0 rfl rfl rfl
      all_goals try (exfalso; simp (disch := omega) only [p1, p2, h1, h2, e1, kc, nI_eq, nI_ltI, nI_leI, nI_m1, hu_o, not_true_eq_false] at * <;> first | contradiction | omega)
    · unfold P_run
      repeat' first
        | refine w_st rfl rfl ?_
        | refine w_no rfl rfl ?_ ?_
        | (refine w_br rfl rfl (fun z => ?_) (fun z => ?_) <;> try (first | contradiction | (simp (disch := omega) only [p1, p2, h1, h2, e1, e2, e3, e4, kc, nI_eq, nI_ltI, nI_leI, nI_m1, hu_o, not_true_eq_false] at z; first | done | omega)))
        | refine w_in rfl rfl ?_
        | refine w_end rfl rfl ?_
        | refine w_endY rfl rfl ?_ ?_
        | refine w_up ?_
      all_goals try (intro z; simp (disch := omega) only [p1, p2, h1, h2, e1, e2, e3, e4, nI_clamp, kc, nI_ltI, hu_o] at z <;> omega)
      all_goals try exact f_x 0 hR0 rfl rfl rfl
      all_goals try exact f_x 1 hR0 rfl rfl rfl
      all_goals try (exfalso; simp (disch := omega) only [p1, p2, h1, h2, e1, e2, e3, e4, kc, nI_eq, nI_ltI, nI_leI, nI_m1, hu_o, not_true_eq_false] at * <;> first | contradiction | omega)
    · have ej : (nI j).toNatClampNeg = j := nI_clamp (by omega)
      obtain ⟨k, n, hk1, hk2, hn, b1, b2, b3, b4⟩ := hmg j hj
      have er : nI 30 - nI n = nI (30 - n) := pk_sub hn
      rcases ixK y 30 (by decide) with e1 | ⟨e1, e2, e3⟩ | ⟨q, hq1, hq2, rfl⟩
      · unfold P_run
        repeat' first
          | refine w_st rfl rfl ?_
          | refine w_no rfl rfl ?_ ?_
          | (refine w_br rfl rfl (fun z => ?_) (fun z => ?_) <;> try (first | contradiction | (simp (disch := omega) only [p1, p2, h1, h2, b3, b4, er, e1, ej, kc, nI_eq, nI_ltI, nI_leI, nI_m1, hu_o, not_true_eq_false] at z; first | done | omega)))
          | refine w_in rfl rfl ?_
          | refine w_end rfl rfl ?_
          | refine w_endY rfl rfl ?_ ?_
          | refine w_up ?_
        all_goals try (intro z; simp (disch := omega) only [p1, p2, h1, h2, b3, b4, er, e1, ej, nI_clamp, kc, nI_ltI, hu_o] at z <;> omega)
        all_goals try exact f_x 0 hR0 rfl rfl rfl
        all_goals try exact f_x 1 hR0 rfl rfl rfl
        all_goals try (exfalso; simp (disch := omega) only [p1, p2, h1, h2, b3, b4, er, e1, ej, kc, nI_eq, nI_ltI, nI_leI, nI_m1, hu_o, not_true_eq_false] at * <;> first | contradiction | omega)
      · unfold P_run
        repeat' first
          | refine w_st rfl rfl ?_
          | refine w_no rfl rfl ?_ ?_
          | (refine w_br rfl rfl (fun z => ?_) (fun z => ?_) <;> try (first | contradiction | (simp (disch := omega) only [p1, p2, h1, h2, b3, b4, er, e1, e2, e3, ej, kc, nI_eq, nI_ltI, nI_leI, nI_m1, hu_o, not_true_eq_false] at z; first | done | omega)))
          | refine w_in rfl rfl ?_
          | refine w_end rfl rfl ?_
          | refine w_endY rfl rfl ?_ ?_
          | refine w_up ?_
        all_goals try (intro z; simp (disch := omega) only [p1, p2, h1, h2, b3, b4, er, e1, e2, e3, ej, nI_clamp, kc, nI_ltI, hu_o] at z <;> omega)
        all_goals try exact f_x 0 hR0 rfl rfl rfl
        all_goals try exact f_x 1 hR0 rfl rfl rfl
        all_goals try (exfalso; simp (disch := omega) only [p1, p2, h1, h2, b3, b4, er, e1, e2, e3, ej, kc, nI_eq, nI_ltI, nI_leI, nI_m1, hu_o, not_true_eq_false] at * <;> first | contradiction | omega)
      · have ek : (nI k).toNatClampNeg = k := nI_clamp (by omega)
        by_cases hq : q ≤ 30 - n
        · unfold P_run
          repeat' first
            | refine w_st rfl rfl ?_
            | refine w_no rfl rfl ?_ ?_
            | (refine w_br rfl rfl (fun z => ?_) (fun z => ?_) <;> try (first | contradiction | (simp (disch := omega) only [p1, p2, h1, h2, b1, b2, b3, b4, er, ej, nI_add, kc, nI_eq, nI_ltI, nI_leI, nI_m1, hu_o, not_true_eq_false] at z; first | done | omega)))
            | refine w_in rfl rfl ?_
            | refine w_end rfl rfl ?_
            | refine w_endY rfl rfl ?_ ?_
            | refine w_up ?_
          all_goals try (intro z; simp (disch := omega) only [p1, p2, h1, h2, b1, b2, b3, b4, er, ej, nI_add, nI_clamp, kc, nI_ltI, hu_o] at z <;> omega)
          all_goals try exact f_x 0 hR0 rfl rfl rfl
          all_goals try exact f_x 1 hR0 rfl rfl rfl
          all_goals try (exfalso; simp (disch := omega) only [p1, p2, h1, h2, b1, b2, b3, b4, er, ej, nI_add, kc, nI_eq, nI_ltI, nI_leI, nI_m1, hu_o, not_true_eq_false] at * <;> first | contradiction | omega)
          simp (disch := omega) only [ej, kc, hu_o, b1, b2, b3, b4, ek]
          refine f_r ⟨⟨⟨8, ht, h1, h2⟩, ⟨u, hu1, hu2, hu3⟩, hpw, ⟨op, hop1, hop2, hop3⟩, hsb⟩, hvd, hbt, hsz, hes, fun i hi => ?_, (bk_add (k := k) (x := nI q) 23 44 hbk rfl rfl (by decide) : r_bk (hu c 23 k (c 23 k + nI q)) (hu m 44 k (m 44 k + nI q))), hpy.1, fun z => absurd (h1.symm.trans z) (by decide)⟩ rfl ?_ rfl
          · by_cases e : i = j
            · subst e; exact ⟨k, n + q, hk1, hk2, by omega, by simp [hu, b1], by simp [hu, b2], by simp [hu, nI_add], by simp [hu, nI_add]⟩
            · obtain ⟨k', n', r⟩ := hmg i hi; exact ⟨k', n', by simpa [hu, e] using r⟩
          · simp [hu]
        · unfold P_run
          repeat' first
            | refine w_st rfl rfl ?_
            | refine w_no rfl rfl ?_ ?_
            | (refine w_br rfl rfl (fun z => ?_) (fun z => ?_) <;> try (first | contradiction | (simp (disch := omega) only [p1, p2, h1, h2, b1, b2, b3, b4, er, ej, nI_add, kc, nI_eq, nI_ltI, nI_leI, nI_m1, hu_o, not_true_eq_false] at z; first | done | omega)))
            | refine w_in rfl rfl ?_
            | refine w_end rfl rfl ?_
            | refine w_endY rfl rfl ?_ ?_
            | refine w_up ?_
          all_goals try (intro z; simp (disch := omega) only [p1, p2, h1, h2, b1, b2, b3, b4, er, ej, nI_add, nI_clamp, kc, nI_ltI, hu_o] at z <;> omega)
          all_goals try exact f_x 0 hR0 rfl rfl rfl
          all_goals try exact f_x 1 hR0 rfl rfl rfl
          all_goals try (exfalso; simp (disch := omega) only [p1, p2, h1, h2, b1, b2, b3, b4, er, ej, nI_add, kc, nI_eq, nI_ltI, nI_leI, nI_m1, hu_o, not_true_eq_false] at * <;> first | contradiction | omega)
  · rcases (show pw = 0 ∨ pw = 1 by omega) with rfl | rfl
    · unfold P_run
      repeat' first
        | refine w_st rfl rfl ?_
        | refine w_no rfl rfl ?_ ?_
        | (refine w_br rfl rfl (fun z => ?_) (fun z => ?_) <;> try (first | contradiction | (simp (disch := omega) only [p1, p2, h1, h2, kc, nI_eq, nI_ltI, nI_leI, nI_m1, hu_o, not_true_eq_false] at z; first | done | omega)))
        | refine w_in rfl rfl ?_
        | refine w_end rfl rfl ?_
        | refine w_endY rfl rfl ?_ ?_
        | refine w_up ?_
      all_goals try (intro z; simp (disch := omega) only [p1, p2, h1, h2, nI_clamp, kc, nI_ltI, hu_o] at z <;> omega)
      all_goals try exact f_x 0 hR0 rfl rfl rfl
      all_goals try exact f_x 1 hR0 rfl rfl rfl
      all_goals try (exfalso; simp (disch := omega) only [p1, p2, h1, h2, kc, nI_eq, nI_ltI, nI_leI, nI_m1, hu_o, not_true_eq_false] at * <;> first | contradiction | omega)
    · have ht8 : t ≠ 8 := fun z => hrd ⟨rfl, z⟩
      unfold P_run
      repeat' first
        | refine w_st rfl rfl ?_
        | refine w_no rfl rfl ?_ ?_
        | (refine w_br rfl rfl (fun z => ?_) (fun z => ?_) <;> try (first | contradiction | (simp (disch := omega) only [p1, p2, h1, h2, kc, nI_eq, nI_ltI, nI_leI, nI_m1, hu_o, not_true_eq_false] at z; first | done | omega)))
        | refine w_in rfl rfl ?_
        | refine w_end rfl rfl ?_
        | refine w_endY rfl rfl ?_ ?_
        | refine w_up ?_
      all_goals try (intro z; simp (disch := omega) only [p1, p2, h1, h2, nI_clamp, kc, nI_ltI, hu_o] at z <;> omega)
      all_goals try exact f_x 0 hR0 rfl rfl rfl
      all_goals try exact f_x 1 hR0 rfl rfl rfl
      all_goals try (exfalso; simp (disch := omega) only [p1, p2, h1, h2, kc, nI_eq, nI_ltI, nI_leI, nI_m1, hu_o, not_true_eq_false] at * <;> first | contradiction | omega)
end
section
/-! VERDICT (written by wip/whole/gen_ops5.py). -/
set_option maxHeartbeats 3000000 in
theorem o_verdict (x : Int32) : P_W RR 45 97 [0, 1] true [.inl x] := by
  refine P_Wof fun c m hR => ?_
  have hR0 := hR
  obtain ⟨⟨⟨t, ht, h1, h2⟩, ⟨u, hu1, hu2, hu3⟩, hpw, ⟨op, hop1, hop2, hop3⟩, hsb⟩, hvd, hbt, hsz, hes, hmg, hbk, hpy⟩ := hR
  obtain ⟨f, w, hf, hw, v1, v2, v3, v4⟩ := hvd
  rcases ix3 x 6 (by decide) with e1 | ⟨e1, e2, e3, e4⟩ | ⟨j, hj, rfl⟩
  · unfold P_run
    repeat' first
      | refine w_st rfl rfl ?_
      | refine w_no rfl rfl ?_ ?_
      | (refine w_br rfl rfl (fun z => ?_) (fun z => ?_) <;> try (first | contradiction | (simp (disch := omega) only [e1, kc, nI_eq, nI_ltI, nI_leI, nI_m1, hu_o, hu_k, not_true_eq_false] at z; first | done | omega)))
      | refine w_in rfl rfl ?_
      | refine w_end rfl rfl ?_
      | refine w_endY rfl rfl ?_ ?_
      | refine w_up ?_
    all_goals try (intro z; simp (disch := omega) only [e1, nI_clamp, kc, nI_ltI, hu_o, hu_k] at z <;> omega)
    all_goals try exact f_x 0 hR0 rfl rfl rfl
    all_goals try exact f_x 1 hR0 rfl rfl rfl
    all_goals try (exfalso; simp (disch := omega) only [e1, kc, nI_eq, nI_ltI, nI_leI, nI_m1, hu_o, hu_k, not_true_eq_false] at * <;> first | contradiction | omega)
  · unfold P_run
    repeat' first
      | refine w_st rfl rfl ?_
      | refine w_no rfl rfl ?_ ?_
      | (refine w_br rfl rfl (fun z => ?_) (fun z => ?_) <;> try (first | contradiction | (simp (disch := omega) only [e1, e2, e3, e4, kc, nI_eq, nI_ltI, nI_leI, nI_m1, hu_o, hu_k, not_true_eq_false] at z; first | done | omega)))
      | refine w_in rfl rfl ?_
      | refine w_end rfl rfl ?_
      | refine w_endY rfl rfl ?_ ?_
      | refine w_up ?_
    all_goals try (intro z; simp (disch := omega) only [e1, e2, e3, e4, nI_clamp, kc, nI_ltI, hu_o, hu_k] at z <;> omega)
    all_goals try exact f_x 0 hR0 rfl rfl rfl
    all_goals try exact f_x 1 hR0 rfl rfl rfl
    all_goals try (exfalso; simp (disch := omega) only [e1, e2, e3, e4, kc, nI_eq, nI_ltI, nI_leI, nI_m1, hu_o, hu_k, not_true_eq_false] at * <;> first | contradiction | omega)
  · by_cases hw4 : w = 40
    · subst hw4
      unfold P_run
      repeat' first
        | refine w_st rfl rfl ?_
        | refine w_no rfl rfl ?_ ?_
        | (refine w_br rfl rfl (fun z => ?_) (fun z => ?_) <;> try (first | contradiction | (simp (disch := omega) only [v1, v2, v3, kc, nI_eq, nI_ltI, nI_leI, nI_m1, hu_o, hu_k, not_true_eq_false] at z; first | done | omega)))
        | refine w_in rfl rfl ?_
        | refine w_end rfl rfl ?_
        | refine w_endY rfl rfl ?_ ?_
        | refine w_up ?_
      all_goals try (intro z; simp (disch := omega) only [v1, v2, v3, nI_clamp, kc, nI_ltI, hu_o, hu_k] at z <;> omega)
      all_goals try exact f_x 0 hR0 rfl rfl rfl
      all_goals try exact f_x 1 hR0 rfl rfl rfl
      all_goals try (exfalso; simp (disch := omega) only [v1, v2, v3, kc, nI_eq, nI_ltI, nI_leI, nI_m1, hu_o, hu_k, not_true_eq_false] at * <;> first | contradiction | omega)
    · have er : (f + w) % 40 < 40 := Nat.mod_lt _ (by decide)
      have ew : (nI w).toNatClampNeg = w := nI_clamp (by omega)
      have ei : (nI ((f + w) % 40)).toNatClampNeg = (f + w) % 40 := nI_clamp (by omega)
      unfold P_run
      repeat' first
        | refine w_st rfl rfl ?_
        | refine w_no rfl rfl ?_ ?_
        | (refine w_br rfl rfl (fun z => ?_) (fun z => ?_) <;> try (first | contradiction | (simp (disch := omega) only [v1, v2, v3, nI_add, pk_rem, kc, nI_eq, nI_ltI, nI_leI, nI_m1, hu_o, hu_k, not_true_eq_false] at z; first | done | omega)))
        | refine w_in rfl rfl ?_
        | refine w_end rfl rfl ?_
        | refine w_endY rfl rfl ?_ ?_
        | refine w_up ?_
      all_goals try (intro z; simp (disch := omega) only [v1, v2, v3, nI_add, pk_rem, nI_clamp, kc, nI_ltI, hu_o, hu_k] at z <;> omega)
      all_goals try exact f_x 0 hR0 rfl rfl rfl
      all_goals try exact f_x 1 hR0 rfl rfl rfl
      all_goals try (exfalso; simp (disch := omega) only [v1, v2, v3, nI_add, pk_rem, kc, nI_eq, nI_ltI, nI_leI, nI_m1, hu_o, hu_k, not_true_eq_false] at * <;> first | contradiction | omega)
      simp (disch := omega) only [kc, hu_o, hu_k, v1, v2, v3, nI_add, pk_rem, ew, ei]
      refine f_r ⟨⟨⟨t, ht, h1, h2⟩, ⟨u, hu1, hu2, hu3⟩, hpw, ⟨op, hop1, hop2, hop3⟩, hsb⟩, ⟨f, w + 1, hf, by omega, v1, rfl, rfl, fun i hi => ?_⟩, hbt, hsz, hes, hmg, hbk, hpy⟩ rfl ?_ rfl
      · by_cases e : i = w
        · subst e; simp [hu]
        · have e2 : ¬ (f + i) % 40 = (f + w) % 40 := by omega
          have := v4 i (by omega)
          simpa [hu, e, e2] using this
      · simp [hu]
end
section
/-! DEPOSIT (written by wip/whole/gen_ops6.py). -/
theorem nI0_add (x : Int32) : nI 0 + x = x := by
  show 0 + x = x
  exact Int32.zero_add x
set_option maxHeartbeats 3000000 in
theorem o_deposit : P_W RR 47 98 [1] false [] := by
  refine P_Wof fun c m hR => ?_
  have hR0 := hR
  obtain ⟨⟨⟨t, ht, h1, h2⟩, ⟨u, hu1, hu2, hu3⟩, hpw, ⟨op, hop1, hop2, hop3⟩, hsb⟩, hvd, hbt, hsz, hes, hmg, hbk, hpy⟩ := hR
  have hpp : ∃ pw, pw ≤ 1 ∧ c 0 9 = nI pw ∧ m 30 2 = nI (1 - pw) := by
    rcases hpw with ⟨a, b⟩ | ⟨a, b⟩
    · exact ⟨1, by decide, a, b⟩
    · exact ⟨0, by decide, a, b⟩
  obtain ⟨pw, hp, p1, p2⟩ := hpp
  have a0 : c 19 0 = m 40 0 := (hbk 0 (by decide)).2.2.1
  have a1 : c 19 1 = m 40 1 := (hbk 1 (by decide)).2.2.1
  have a2 : c 19 2 = m 40 2 := (hbk 2 (by decide)).2.2.1
  have a3 : c 19 3 = m 40 3 := (hbk 3 (by decide)).2.2.1
  have a4 : c 19 4 = m 40 4 := (hbk 4 (by decide)).2.2.1
  have a5 : c 19 5 = m 40 5 := (hbk 5 (by decide)).2.2.1
  by_cases hrd : pw = 1 ∧ t = 0
  · obtain ⟨rfl, rfl⟩ := hrd
    by_cases hu0 : u = 0
    · subst hu0
      unfold P_run
      repeat' first
        | refine w_st rfl rfl ?_
        | refine w_no rfl rfl ?_ ?_
        | (refine w_br rfl rfl (fun z => ?_) (fun z => ?_) <;> try (first | contradiction | (simp (disch := omega) only [p1, p2, h1, h2, hu2, hu3, kc, nI_eq, nI_ltI, nI_leI, nI_m1, hu_o, hu_k, not_true_eq_false] at z; first | done | omega)))
        | refine w_in rfl rfl ?_
        | refine w_end rfl rfl ?_
        | refine w_endY rfl rfl ?_ ?_
        | refine w_up ?_
      all_goals try (intro z; simp (disch := omega) only [p1, p2, h1, h2, hu2, hu3, nI_clamp, kc, nI_ltI, hu_o, hu_k] at z <;> omega)
      all_goals try exact f_x 0 hR0 rfl rfl rfl
      all_goals try (exfalso; simp (disch := omega) only [p1, p2, h1, h2, hu2, hu3, kc, nI_eq, nI_ltI, nI_leI, nI_m1, hu_o, hu_k, not_true_eq_false] at * <;> first | contradiction | omega)
    · unfold P_run
      repeat' first
        | refine w_st rfl rfl ?_
        | refine w_no rfl rfl ?_ ?_
        | (refine w_br rfl rfl (fun z => ?_) (fun z => ?_) <;> try (first | contradiction | (simp (disch := omega) only [p1, p2, h1, h2, hu2, hu3, a0, a1, a2, a3, a4, a5, nI_add, nI_clamp, nI0_add, Nat.reduceAdd, kc, nI_eq, nI_ltI, nI_leI, nI_m1, hu_o, hu_k, not_true_eq_false] at z; first | done | omega)))
        | refine w_in rfl rfl ?_
        | refine w_end rfl rfl ?_
        | refine w_endY rfl rfl ?_ ?_
        | refine w_up ?_
      all_goals try (intro z; simp (disch := omega) only [p1, p2, h1, h2, hu2, hu3, a0, a1, a2, a3, a4, a5, nI_add, nI_clamp, nI0_add, Nat.reduceAdd, nI_clamp, kc, nI_ltI, hu_o, hu_k] at z <;> omega)
      all_goals try exact f_x 0 hR0 rfl rfl rfl
      all_goals try (exfalso; simp (disch := omega) only [p1, p2, h1, h2, hu2, hu3, a0, a1, a2, a3, a4, a5, nI_add, nI_clamp, nI0_add, Nat.reduceAdd, kc, nI_eq, nI_ltI, nI_leI, nI_m1, hu_o, hu_k, not_true_eq_false] at * <;> first | contradiction | omega)
      exact f_r ⟨⟨⟨1, by decide, rfl, rfl⟩, ⟨u, hu1, hu2, hu3⟩, hpw, ⟨op, hop1, hop2, hop3⟩, hsb⟩, hvd, hbt, hsz, hes, hmg, hbk, hpy.1, fun z => absurd (show Int32.ofInt 1 = nI 5 from z) (by decide)⟩ rfl rfl rfl
  · rcases (show pw = 0 ∨ pw = 1 by omega) with rfl | rfl
    · unfold P_run
      repeat' first
        | refine w_st rfl rfl ?_
        | refine w_no rfl rfl ?_ ?_
        | (refine w_br rfl rfl (fun z => ?_) (fun z => ?_) <;> try (first | contradiction | (simp (disch := omega) only [p1, p2, h1, h2, kc, nI_eq, nI_ltI, nI_leI, nI_m1, hu_o, hu_k, not_true_eq_false] at z; first | done | omega)))
        | refine w_in rfl rfl ?_
        | refine w_end rfl rfl ?_
        | refine w_endY rfl rfl ?_ ?_
        | refine w_up ?_
      all_goals try (intro z; simp (disch := omega) only [p1, p2, h1, h2, nI_clamp, kc, nI_ltI, hu_o, hu_k] at z <;> omega)
      all_goals try exact f_x 0 hR0 rfl rfl rfl
      all_goals try (exfalso; simp (disch := omega) only [p1, p2, h1, h2, kc, nI_eq, nI_ltI, nI_leI, nI_m1, hu_o, hu_k, not_true_eq_false] at * <;> first | contradiction | omega)
    · have ht8 : t ≠ 0 := fun z => hrd ⟨rfl, z⟩
      unfold P_run
      repeat' first
        | refine w_st rfl rfl ?_
        | refine w_no rfl rfl ?_ ?_
        | (refine w_br rfl rfl (fun z => ?_) (fun z => ?_) <;> try (first | contradiction | (simp (disch := omega) only [p1, p2, h1, h2, kc, nI_eq, nI_ltI, nI_leI, nI_m1, hu_o, hu_k, not_true_eq_false] at z; first | done | omega)))
        | refine w_in rfl rfl ?_
        | refine w_end rfl rfl ?_
        | refine w_endY rfl rfl ?_ ?_
        | refine w_up ?_
      all_goals try (intro z; simp (disch := omega) only [p1, p2, h1, h2, nI_clamp, kc, nI_ltI, hu_o, hu_k] at z <;> omega)
      all_goals try exact f_x 0 hR0 rfl rfl rfl
      all_goals try (exfalso; simp (disch := omega) only [p1, p2, h1, h2, kc, nI_eq, nI_ltI, nI_leI, nI_m1, hu_o, hu_k, not_true_eq_false] at * <;> first | contradiction | omega)
end
section
/-! TAKEN (written by wip/whole/gen_ops7.py). -/
set_option maxHeartbeats 3000000 in
theorem o_taken : P_D RR 69 115 := by
  intro c m hR
  have hR0 := hR
  obtain ⟨⟨⟨t, ht, h1, h2⟩, ⟨u, hu1, hu2, hu3⟩, hpw, ⟨op, hop1, hop2, hop3⟩, hsb⟩, hvd, hbt, hsz, hes, hmg, hbk, hpy⟩ := hR
  have a0 : c 19 0 = m 40 0 := (hbk 0 (by decide)).2.2.1
  have a1 : c 19 1 = m 40 1 := (hbk 1 (by decide)).2.2.1
  have a2 : c 19 2 = m 40 2 := (hbk 2 (by decide)).2.2.1
  have a3 : c 19 3 = m 40 3 := (hbk 3 (by decide)).2.2.1
  have a4 : c 19 4 = m 40 4 := (hbk 4 (by decide)).2.2.1
  have a5 : c 19 5 = m 40 5 := (hbk 5 (by decide)).2.2.1
  unfold P_run
  repeat' first
    | refine w_st rfl rfl ?_
    | refine w_no rfl rfl ?_ ?_
    | (refine w_br rfl rfl (fun z => ?_) (fun z => ?_) <;> try (first | contradiction | (simp (disch := omega) only [a0, a1, a2, a3, a4, a5, kc, nI_eq, nI_ltI, nI_leI, nI_m1, hu_o, hu_k, not_true_eq_false] at z; first | done | omega)))
    | refine w_in rfl rfl ?_
    | refine w_end rfl rfl ?_
    | refine w_endY rfl rfl ?_ ?_
    | refine w_up ?_
  simp (disch := omega) only [kc, nI_add, nI_clamp, Nat.reduceAdd, hu_same, hu_o, hu_k, nI0_add, a0, a1, a2, a3, a4, a5]
  refine ⟨⟨⟨⟨t, ht, h1, h2⟩, ⟨u, hu1, hu2, hu3⟩, hpw, ⟨op, hop1, hop2, hop3⟩, hsb⟩, hvd, hbt, hsz, hes, hmg, fun k hk => ?_, hpy⟩, _, rfl, rfl⟩
  have b := hbk k hk
  rcases (show k = 0 ∨ k = 1 ∨ k = 2 ∨ k = 3 ∨ k = 4 ∨ k = 5 by omega) with rfl | rfl | rfl | rfl | rfl | rfl <;> obtain ⟨b1, b2, b3, b4, b5, b6, b7⟩ := b <;> exact ⟨b1, b2, rfl, (by show c 20 _ + m 40 _ = m 41 _ + m 40 _; rw [b4]), b5, b6, b7⟩
end
section
/-! ROWS THAT STOP AT A LOOP'S HEAD (method a, pc b), and the first counting loop. -/
section GROWS
variable {j pc n : Nat} {i : Instr} {ax : List Nat} {l : PL} {st : List PV} {h : HP} {F : PO → Prop}
theorem g_st (a b : Nat) {pc' : Nat} {l' : PL} {st' : List PV} {h' : HP} (_ : (Nat.beq pc b && Nat.beq j a) = false) (hc : pe_at (qCod j) pc = some (i, n, ax)) (hs : p1i j i n ax pc l st h = some (.inl (pc', l', st', h'))) (k : Wp j (pc', l', st', h') F) : Wp j (pc, l, st, h) F := w_st hc hs k
theorem g_no (a b : Nat) {pc' : Nat} {l' : PL} {st' : List PV} {h' : HP} {P : Prop} [Decidable P] (_ : (Nat.beq pc b && Nat.beq j a) = false) (hc : pe_at (qCod j) pc = some (i, n, ax)) (hs : p1i j i n ax pc l st h = if P then none else some (.inl (pc', l', st', h'))) (hP : ¬ P) (k : Wp j (pc', l', st', h') F) : Wp j (pc, l, st, h) F := w_no hc hs hP k
theorem g_br (a b : Nat) {p1' p2' : Nat} {l1 l2 : PL} {s1 s2 : List PV} {h1 h2 : HP} {P : Prop} [Decidable P] (_ : (Nat.beq pc b && Nat.beq j a) = false) (hc : pe_at (qCod j) pc = some (i, n, ax)) (hs : p1i j i n ax pc l st h = if P then some (.inl (p1', l1, s1, h1)) else some (.inl (p2', l2, s2, h2))) (k1 : P → Wp j (p1', l1, s1, h1) F) (k2 : ¬ P → Wp j (p2', l2, s2, h2) F) : Wp j (pc, l, st, h) F := w_br hc hs k1 k2
end GROWS
set_option maxHeartbeats 2000000 in
theorem m_onBelt_loop (h : HP) : ∀ (d s : Nat), s + d = 10 → Wp 95 (4, [(2, .inl (nI s)), (1, .inl (nI (sm (fun s => if h 32 s = -1 then 0 else 1) s))), (0, .inr 30)], [], h) (fun r => r = (.inl (some (nI (nN (h 32)))), h)) := by
  intro d
  induction d with
  | zero =>
    intro s hs
    obtain rfl : s = 10 := by omega
    repeat' first
      | refine w_st rfl rfl ?_
      | refine w_end rfl rfl ?_
    rfl
  | succ d ih =>
    intro s hs
    refine w_st rfl rfl ?_
    refine w_st rfl rfl ?_
    refine w_br rfl rfl (fun z => ?_) (fun z => ?_)
    · exfalso
      simp (disch := omega) only [kc, nI_leI] at z
      omega
    · clear z
      repeat' first
        | refine g_st 95 4 rfl rfl rfl ?_
        | refine g_no 95 4 rfl rfl rfl ?_ ?_
        | refine g_br 95 4 rfl rfl rfl (fun z => ?_) (fun z => ?_)
      · exact nI_in (by omega) (by decide)
      · rw [nI_clamp (by omega)] at z
        have e := ih (s + 1) (by omega)
        simp only [sm, if_pos (show h 32 s = -1 from z)] at e
        simp only [kc, nI_add]
        exact e
      · rw [nI_clamp (by omega)] at z
        have e := ih (s + 1) (by omega)
        simp only [sm, if_neg (show ¬ h 32 s = -1 from z)] at e
        simp only [kc, nI_add]
        exact e
theorem m_onBelt (h : HP) : Ec 95 [.inr 30] h (.inl (some (nI (nN (h 32)))), h) := by
  refine w_fin ?_
  refine w_st rfl rfl ?_
  refine w_st rfl rfl ?_
  refine w_st rfl rfl ?_
  refine w_st rfl rfl ?_
  exact m_onBelt_loop h 10 0 rfl
end
section
/-! COUNTING LOOPS (written by wip/whole/gen_count.py). -/
set_option maxHeartbeats 2000000 in
theorem c_count_loop (h : HP) (x : Int32) : ∀ (d s : Nat), s + d = 10 → Wp 18 (4, [(3, .inl (nI s)), (2, .inl (nI (sm (fun s => if ¬ h 5 s = -1 ∧ h 4 s = x then 1 else 0) s))), (0, .inr 3), (1, .inl x)], [], h) (fun r => r = (.inl (some (nI (sm (fun s => if ¬ h 5 s = -1 ∧ h 4 s = x then 1 else 0) 10))), h)) := by
  intro d
  induction d with
  | zero =>
    intro s hs
    obtain rfl : s = 10 := by omega
    repeat' first
      | refine w_st rfl rfl ?_
      | refine w_end rfl rfl ?_
    rfl
  | succ d ih =>
    intro s hs
    have ec : (nI s).toNatClampNeg = s := nI_clamp (by omega)
    refine w_st rfl rfl ?_
    refine w_st rfl rfl ?_
    refine w_br rfl rfl (fun z => ?_) (fun z => ?_)
    · exfalso
      simp (disch := omega) only [kc, nI_leI] at z
      omega
    · clear z
      repeat' first
        | refine g_st 18 4 rfl rfl rfl ?_
        | refine g_no 18 4 rfl rfl rfl ?_ ?_
        | refine g_br 18 4 rfl rfl rfl (fun z => ?_) (fun z => ?_)
        | refine w_in rfl rfl ?_
        | refine w_end rfl rfl ?_
        | refine w_endY rfl rfl ?_ ?_
        | refine w_up ?_
      all_goals try exact nI_in (by omega) (by decide)
      all_goals
        have e := ih (s + 1) (by omega)
        clear ih
        simp only [ec, kc] at *
        simp only [sm, *, if_true, if_false, and_true, and_false, not_true_eq_false, not_false_eq_true, ite_true, ite_false, ne_eq] at e
        simp only [nI_add]
        exact e
theorem c_count (h : HP) (x : Int32) : Ec 18 [.inr 3, .inl x] h (.inl (some (nI (sm (fun s => if ¬ h 5 s = -1 ∧ h 4 s = x then 1 else 0) 10))), h) := by
  refine w_fin ?_
  refine w_st rfl rfl ?_
  refine w_st rfl rfl ?_
  refine w_st rfl rfl ?_
  refine w_st rfl rfl ?_
  exact c_count_loop h x 10 0 rfl

set_option maxHeartbeats 2000000 in
theorem c_going_loop (h : HP) (x : Int32) : ∀ (d s : Nat), s + d = 10 → Wp 19 (4, [(3, .inl (nI s)), (2, .inl (nI (sm (fun s => if h 5 s = x then 1 else 0) s))), (0, .inr 3), (1, .inl x)], [], h) (fun r => r = (.inl (some (nI (sm (fun s => if h 5 s = x then 1 else 0) 10))), h)) := by
  intro d
  induction d with
  | zero =>
    intro s hs
    obtain rfl : s = 10 := by omega
    repeat' first
      | refine w_st rfl rfl ?_
      | refine w_end rfl rfl ?_
    rfl
  | succ d ih =>
    intro s hs
    have ec : (nI s).toNatClampNeg = s := nI_clamp (by omega)
    refine w_st rfl rfl ?_
    refine w_st rfl rfl ?_
    refine w_br rfl rfl (fun z => ?_) (fun z => ?_)
    · exfalso
      simp (disch := omega) only [kc, nI_leI] at z
      omega
    · clear z
      repeat' first
        | refine g_st 19 4 rfl rfl rfl ?_
        | refine g_no 19 4 rfl rfl rfl ?_ ?_
        | refine g_br 19 4 rfl rfl rfl (fun z => ?_) (fun z => ?_)
        | refine w_in rfl rfl ?_
        | refine w_end rfl rfl ?_
        | refine w_endY rfl rfl ?_ ?_
        | refine w_up ?_
      all_goals try exact nI_in (by omega) (by decide)
      all_goals
        have e := ih (s + 1) (by omega)
        clear ih
        simp only [ec, kc] at *
        simp only [sm, *, if_true, if_false, and_true, and_false, not_true_eq_false, not_false_eq_true, ite_true, ite_false, ne_eq] at e
        simp only [nI_add]
        exact e
theorem c_going (h : HP) (x : Int32) : Ec 19 [.inr 3, .inl x] h (.inl (some (nI (sm (fun s => if h 5 s = x then 1 else 0) 10))), h) := by
  refine w_fin ?_
  refine w_st rfl rfl ?_
  refine w_st rfl rfl ?_
  refine w_st rfl rfl ?_
  refine w_st rfl rfl ?_
  exact c_going_loop h x 10 0 rfl

set_option maxHeartbeats 2000000 in
theorem m_ofBelt_loop (h : HP) (x : Int32) : ∀ (d s : Nat), s + d = 10 → Wp 131 (4, [(3, .inl (nI s)), (2, .inl (nI (sm (fun s => if h 32 s = x then 1 else 0) s))), (0, .inr 30), (1, .inl x)], [], h) (fun r => r = (.inl (some (nI (sm (fun s => if h 32 s = x then 1 else 0) 10))), h)) := by
  intro d
  induction d with
  | zero =>
    intro s hs
    obtain rfl : s = 10 := by omega
    repeat' first
      | refine w_st rfl rfl ?_
      | refine w_end rfl rfl ?_
    rfl
  | succ d ih =>
    intro s hs
    have ec : (nI s).toNatClampNeg = s := nI_clamp (by omega)
    refine w_st rfl rfl ?_
    refine w_st rfl rfl ?_
    refine w_br rfl rfl (fun z => ?_) (fun z => ?_)
    · exfalso
      simp (disch := omega) only [kc, nI_leI] at z
      omega
    · clear z
      repeat' first
        | refine g_st 131 4 rfl rfl rfl ?_
        | refine g_no 131 4 rfl rfl rfl ?_ ?_
        | refine g_br 131 4 rfl rfl rfl (fun z => ?_) (fun z => ?_)
        | refine w_in rfl rfl ?_
        | refine w_end rfl rfl ?_
        | refine w_endY rfl rfl ?_ ?_
        | refine w_up ?_
      all_goals try exact nI_in (by omega) (by decide)
      all_goals
        have e := ih (s + 1) (by omega)
        clear ih
        simp only [ec, kc] at *
        simp only [sm, *, if_true, if_false, and_true, and_false, not_true_eq_false, not_false_eq_true, ite_true, ite_false, ne_eq] at e
        simp only [nI_add]
        exact e
theorem m_ofBelt (h : HP) (x : Int32) : Ec 131 [.inr 30, .inl x] h (.inl (some (nI (sm (fun s => if h 32 s = x then 1 else 0) 10))), h) := by
  refine w_fin ?_
  refine w_st rfl rfl ?_
  refine w_st rfl rfl ?_
  refine w_st rfl rfl ?_
  refine w_st rfl rfl ?_
  exact m_ofBelt_loop h x 10 0 rfl
end
section
/-! SUMMING LOOPS OVER THE CASSETTES, COUNTS OVER THE PILE (written by wip/whole/gen_sum.py). -/

set_option maxHeartbeats 2000000 in
theorem m_inStores_loop (h : HP) (x : Int32) (hv : ∀ s, s < 4 → ∃ n, n ≤ 30 ∧ h 37 s = nI n) : ∀ (d s : Nat), s + d = 4 → Wp 101 (4, [(3, .inl (nI s)), (2, .inl (nI (sm (fun s => if h 36 s = x then (h 37 s).toNatClampNeg else 0) s))), (0, .inr 30), (1, .inl x)], [], h) (fun r => r = (.inl (some (nI (sm (fun s => if h 36 s = x then (h 37 s).toNatClampNeg else 0) 4))), h)) := by
  intro d
  induction d with
  | zero =>
    intro s hs
    obtain rfl : s = 4 := by omega
    repeat' first
      | refine w_st rfl rfl ?_
      | refine w_end rfl rfl ?_
    rfl
  | succ d ih =>
    intro s hs
    have ec : (nI s).toNatClampNeg = s := nI_clamp (by omega)
    obtain ⟨n, hn, en⟩ := hv s (by omega)
    have em : (nI n).toNatClampNeg = n := nI_clamp (by omega)
    refine w_st rfl rfl ?_
    refine w_st rfl rfl ?_
    refine w_br rfl rfl (fun z => ?_) (fun z => ?_)
    · exfalso
      simp (disch := omega) only [kc, nI_leI] at z
      omega
    · clear z
      repeat' first
        | refine g_st 101 4 rfl rfl rfl ?_
        | refine g_no 101 4 rfl rfl rfl ?_ ?_
        | refine g_br 101 4 rfl rfl rfl (fun z => ?_) (fun z => ?_)
        | refine w_in rfl rfl ?_
        | refine w_end rfl rfl ?_
        | refine w_endY rfl rfl ?_ ?_
        | refine w_up ?_
      all_goals try exact nI_in (by omega) (by decide)
      all_goals
        have e9 := ih (s + 1) (by omega)
        clear ih hv
        simp only [ec, kc] at *
        simp only [sm, *, if_true, if_false, and_true, and_false, not_true_eq_false, not_false_eq_true, ite_true, ite_false, ne_eq] at e9
        simp only [nI_add, en]
        exact e9
theorem m_inStores (h : HP) (x : Int32) (hv : ∀ s, s < 4 → ∃ n, n ≤ 30 ∧ h 37 s = nI n) : Ec 101 [.inr 30, .inl x] h (.inl (some (nI (sm (fun s => if h 36 s = x then (h 37 s).toNatClampNeg else 0) 4))), h) := by
  refine w_fin ?_
  refine w_st rfl rfl ?_
  refine w_st rfl rfl ?_
  refine w_st rfl rfl ?_
  refine w_st rfl rfl ?_
  exact m_inStores_loop h x hv 4 0 (by omega)

set_option maxHeartbeats 2000000 in
theorem c_magCount_loop (h : HP) (x : Int32) (hv : ∀ s, s < 4 → ∃ n, n ≤ 30 ∧ h 11 s = nI n) : ∀ (d s : Nat), s + d = 4 → Wp 32 (4, [(3, .inl (nI s)), (2, .inl (nI (sm (fun s => if h 10 s = x then (h 11 s).toNatClampNeg else 0) s))), (0, .inr 9), (1, .inl x)], [], h) (fun r => r = (.inl (some (nI (sm (fun s => if h 10 s = x then (h 11 s).toNatClampNeg else 0) 4))), h)) := by
  intro d
  induction d with
  | zero =>
    intro s hs
    obtain rfl : s = 4 := by omega
    repeat' first
      | refine w_st rfl rfl ?_
      | refine w_end rfl rfl ?_
    rfl
  | succ d ih =>
    intro s hs
    have ec : (nI s).toNatClampNeg = s := nI_clamp (by omega)
    obtain ⟨n, hn, en⟩ := hv s (by omega)
    have em : (nI n).toNatClampNeg = n := nI_clamp (by omega)
    refine w_st rfl rfl ?_
    refine w_st rfl rfl ?_
    refine w_br rfl rfl (fun z => ?_) (fun z => ?_)
    · exfalso
      simp (disch := omega) only [kc, nI_leI] at z
      omega
    · clear z
      repeat' first
        | refine g_st 32 4 rfl rfl rfl ?_
        | refine g_no 32 4 rfl rfl rfl ?_ ?_
        | refine g_br 32 4 rfl rfl rfl (fun z => ?_) (fun z => ?_)
        | refine w_in rfl rfl ?_
        | refine w_end rfl rfl ?_
        | refine w_endY rfl rfl ?_ ?_
        | refine w_up ?_
      all_goals try exact nI_in (by omega) (by decide)
      all_goals
        have e9 := ih (s + 1) (by omega)
        clear ih hv
        simp only [ec, kc] at *
        simp only [sm, *, if_true, if_false, and_true, and_false, not_true_eq_false, not_false_eq_true, ite_true, ite_false, ne_eq] at e9
        simp only [nI_add, en]
        exact e9
theorem c_magCount (h : HP) (x : Int32) (hv : ∀ s, s < 4 → ∃ n, n ≤ 30 ∧ h 11 s = nI n) : Ec 32 [.inr 9, .inl x] h (.inl (some (nI (sm (fun s => if h 10 s = x then (h 11 s).toNatClampNeg else 0) 4))), h) := by
  refine w_fin ?_
  refine w_st rfl rfl ?_
  refine w_st rfl rfl ?_
  refine w_st rfl rfl ?_
  refine w_st rfl rfl ?_
  exact c_magCount_loop h x hv 4 0 (by omega)

set_option maxHeartbeats 2000000 in
theorem c_escCount_loop (h : HP) (x : Int32) (e : Nat) (hv : e ≤ 24 ∧ h 7 1 = nI e) : ∀ (d s : Nat), s + d = e → Wp 23 (4, [(3, .inl (nI s)), (2, .inl (nI (sm (fun s => if h 8 s = x then 1 else 0) s))), (0, .inr 7), (1, .inl x)], [], h) (fun r => r = (.inl (some (nI (sm (fun s => if h 8 s = x then 1 else 0) e))), h)) := by
  intro d
  induction d with
  | zero =>
    intro s hs
    obtain rfl : s = e := by omega
    refine w_st rfl rfl ?_
    refine w_st rfl rfl ?_
    refine w_st rfl rfl ?_
    refine w_br rfl rfl (fun z => ?_) (fun z => ?_)
    · refine w_st rfl rfl ?_
      exact w_end rfl rfl rfl
    · exfalso
      have hv1 := hv.1
      simp (disch := omega) only [kc, nI_leI, hv.2] at z
      omega
  | succ d ih =>
    intro s hs
    have ec : (nI s).toNatClampNeg = s := nI_clamp (by omega)
    have hv1 := hv.1
    refine w_st rfl rfl ?_
    refine w_st rfl rfl ?_
    refine w_st rfl rfl ?_
    refine w_br rfl rfl (fun z => ?_) (fun z => ?_)
    · exfalso
      simp (disch := omega) only [kc, nI_leI, hv.2] at z
      omega
    · clear z
      repeat' first
        | refine g_st 23 4 rfl rfl rfl ?_
        | refine g_no 23 4 rfl rfl rfl ?_ ?_
        | refine g_br 23 4 rfl rfl rfl (fun z => ?_) (fun z => ?_)
        | refine w_in rfl rfl ?_
        | refine w_end rfl rfl ?_
        | refine w_endY rfl rfl ?_ ?_
        | refine w_up ?_
      all_goals try exact nI_in (by omega) (by decide)
      all_goals
        have e9 := ih (s + 1) (by omega)
        clear ih hv
        simp only [ec, kc] at *
        simp only [sm, *, if_true, if_false, and_true, and_false, not_true_eq_false, not_false_eq_true, ite_true, ite_false, ne_eq] at e9
        simp only [nI_add]
        exact e9
theorem c_escCount (h : HP) (x : Int32) (e : Nat) (hv : e ≤ 24 ∧ h 7 1 = nI e) : Ec 23 [.inr 7, .inl x] h (.inl (some (nI (sm (fun s => if h 8 s = x then 1 else 0) e))), h) := by
  refine w_fin ?_
  refine w_st rfl rfl ?_
  refine w_st rfl rfl ?_
  refine w_st rfl rfl ?_
  refine w_st rfl rfl ?_
  exact c_escCount_loop h x e hv e 0 (by omega)

set_option maxHeartbeats 2000000 in
theorem m_inPile_loop (h : HP) (x : Int32) (e : Nat) (hv : e ≤ 24 ∧ h 30 12 = nI e) : ∀ (d s : Nat), s + d = e → Wp 130 (4, [(3, .inl (nI s)), (2, .inl (nI (sm (fun s => if h 35 s = x then 1 else 0) s))), (0, .inr 30), (1, .inl x)], [], h) (fun r => r = (.inl (some (nI (sm (fun s => if h 35 s = x then 1 else 0) e))), h)) := by
  intro d
  induction d with
  | zero =>
    intro s hs
    obtain rfl : s = e := by omega
    refine w_st rfl rfl ?_
    refine w_st rfl rfl ?_
    refine w_st rfl rfl ?_
    refine w_br rfl rfl (fun z => ?_) (fun z => ?_)
    · refine w_st rfl rfl ?_
      exact w_end rfl rfl rfl
    · exfalso
      have hv1 := hv.1
      simp (disch := omega) only [kc, nI_leI, hv.2] at z
      omega
  | succ d ih =>
    intro s hs
    have ec : (nI s).toNatClampNeg = s := nI_clamp (by omega)
    have hv1 := hv.1
    refine w_st rfl rfl ?_
    refine w_st rfl rfl ?_
    refine w_st rfl rfl ?_
    refine w_br rfl rfl (fun z => ?_) (fun z => ?_)
    · exfalso
      simp (disch := omega) only [kc, nI_leI, hv.2] at z
      omega
    · clear z
      repeat' first
        | refine g_st 130 4 rfl rfl rfl ?_
        | refine g_no 130 4 rfl rfl rfl ?_ ?_
        | refine g_br 130 4 rfl rfl rfl (fun z => ?_) (fun z => ?_)
        | refine w_in rfl rfl ?_
        | refine w_end rfl rfl ?_
        | refine w_endY rfl rfl ?_ ?_
        | refine w_up ?_
      all_goals try exact nI_in (by omega) (by decide)
      all_goals
        have e9 := ih (s + 1) (by omega)
        clear ih hv
        simp only [ec, kc] at *
        simp only [sm, *, if_true, if_false, and_true, and_false, not_true_eq_false, not_false_eq_true, ite_true, ite_false, ne_eq] at e9
        simp only [nI_add]
        exact e9
theorem m_inPile (h : HP) (x : Int32) (e : Nat) (hv : e ≤ 24 ∧ h 30 12 = nI e) : Ec 130 [.inr 30, .inl x] h (.inl (some (nI (sm (fun s => if h 35 s = x then 1 else 0) e))), h) := by
  refine w_fin ?_
  refine w_st rfl rfl ?_
  refine w_st rfl rfl ?_
  refine w_st rfl rfl ?_
  refine w_st rfl rfl ?_
  exact m_inPile_loop h x e hv e 0 (by omega)
end
section
/-! THE TWO SIDES COUNT ALIKE. -/
theorem k_belt {c m : HP} (h : r_bt c m) (k : Nat) (hk : k ≤ 5) : sm (fun s => if ¬ c 5 s = -1 ∧ c 4 s = nI k then 1 else 0) 10 = sm (fun s => if m 32 s = nI k then 1 else 0) 10 := by
  refine sm_eq (fun s hs => ?_)
  rcases h s hs with ⟨q1, q2, q3, q4⟩ | ⟨k', g, y, hk', hg, hy, hgs, b1, b2, b3, b4, b5, b6⟩
  · have e : ¬ (-1 : Int32) = nI k := fun z => of_eq_false (nI_m1 (n := k) (by omega)) z.symm
    simp only [q1, q2, not_true_eq_false, false_and, if_false, if_neg e]
  · have e : ¬ nI g = -1 := of_eq_false (nI_m1 (by omega))
    simp only [b1, b2, b3, e, not_false_eq_true, true_and]
theorem k_size {c m : HP} (h : r_bt c m) : nN (c 5) = nN (m 32) := by
  refine sm_eq (fun s hs => ?_)
  rcases h s hs with ⟨q1, q2, q3, q4⟩ | ⟨k', g, y, hk', hg, hy, hgs, b1, b2, b3, b4, b5, b6⟩
  · simp only [q1, q2]
  · have e : ¬ nI g = -1 := of_eq_false (nI_m1 (by omega))
    have e2 : ¬ nI k' = -1 := of_eq_false (nI_m1 (by omega))
    simp only [b2, b3, e, e2]
theorem k_pile {c m : HP} {e : Nat} (h : ∀ i, i < e → ∃ k, k ≤ 5 ∧ c 8 i = nI k ∧ m 35 i = nI k) (x : Int32) : sm (fun s => if c 8 s = x then 1 else 0) e = sm (fun s => if m 35 s = x then 1 else 0) e := by
  refine sm_eq (fun s hs => ?_)
  obtain ⟨k, _, h1, h2⟩ := h s hs
  simp only [h1, h2]
theorem k_mag {c m : HP} (h : r_mg c m) (x : Int32) : sm (fun s => if c 10 s = x then (c 11 s).toNatClampNeg else 0) 4 = sm (fun s => if m 36 s = x then (m 37 s).toNatClampNeg else 0) 4 := by
  refine sm_eq (fun s hs => ?_)
  obtain ⟨k, n, _, _, _, h1, h2, h3, h4⟩ := h s hs
  simp only [h1, h2, h3, h4]
theorem k_going {c m : HP} (h : r_bt c m) (g : Nat) (hg0 : g ≤ 8) : sm (fun s => if c 5 s = nI g then 1 else 0) 10 = sm (fun s => if ¬ m 32 s = -1 ∧ m 33 s = nI g then 1 else 0) 10 := by
  refine sm_eq (fun s hs => ?_)
  rcases h s hs with ⟨q1, q2, q3, q4⟩ | ⟨k', g', y, hk', hg, hy, hgs, b1, b2, b3, b4, b5, b6⟩
  · have e : ¬ (-1 : Int32) = nI g := fun z => of_eq_false (nI_m1 (n := g) (by omega)) z.symm
    simp only [q1, q2, not_true_eq_false, false_and, if_false, if_neg e]
  · have e2 : ¬ nI k' = -1 := of_eq_false (nI_m1 (by omega))
    simp only [b2, b3, b4, e2, not_false_eq_true, true_and]
end
section
/-! HOW MANY NOTES OF A KIND LIE AT A PLACE: both sides answer alike (written by wip/whole/gen_cn.py). -/
set_option maxHeartbeats 3000000 in
theorem cn2 {c m : HP} (hR : RR c m) (p k : Nat) (hp : p ≤ 10) (hk : k ≤ 5) : ∃ v, Ec 87 [.inr 0, .inl (nI p), .inl (nI k)] c (.inl (some v), c) ∧ Ec 132 [.inr 30, .inl (nI p), .inl (nI k)] m (.inl (some v), m) := by
  obtain ⟨⟨hst, ⟨u, hu1, hu2, hu3⟩, hpw, hop, hsb⟩, hvd, hbt, hsz, ⟨e, he, es1, es2, es3⟩, hmg, hbk, hpy⟩ := hR
  obtain ⟨k1, k2, k3, k4, k5, k6, k7⟩ := hbk k (by omega)
  have ek : (nI k).toNatClampNeg = k := nI_clamp (by omega)
  have hc4 : ∀ s, s < 4 → ∃ n, n ≤ 30 ∧ c 11 s = nI n := fun s hs => by
    obtain ⟨_, n, _, _, hn, _, _, h3, _⟩ := hmg s hs
    exact ⟨n, hn, h3⟩
  have hm4 : ∀ s, s < 4 → ∃ n, n ≤ 30 ∧ m 37 s = nI n := fun s hs => by
    obtain ⟨_, n, _, _, hn, _, _, _, h4⟩ := hmg s hs
    exact ⟨n, hn, h4⟩
  rcases (show p = 0 ∨ p = 1 ∨ p = 2 ∨ p = 3 ∨ p = 4 ∨ p = 5 ∨ p = 6 ∨ p = 7 ∨ p = 8 ∨ p = 9 ∨ p = 10 by omega) with rfl | rfl | rfl | rfl | rfl | rfl | rfl | rfl | rfl | rfl | rfl
  · refine ⟨(nI (sm (fun s => if m 35 s = nI k then 1 else 0) e)), w_fin ?_, w_fin ?_⟩
    · repeat' first
        | refine w_st rfl rfl ?_
        | refine w_ca rfl rfl (c_escCount c (nI k) e ⟨he, es1⟩) ?_
        | refine w_no rfl rfl ?_ ?_
        | refine w_br rfl rfl (fun z => ?_) (fun z => ?_)
        | refine w_in rfl rfl ?_
        | refine w_end rfl rfl ?_
        | refine w_up ?_
      all_goals try (intro z; simp (disch := omega) only [nI_clamp, kc, nI_ltI] at z <;> omega)
      all_goals first | rfl | (rw [k_pile es3]) | (rw [k_mag hmg]) | (rw [k_belt hbt k hk])
    · repeat' first
        | refine w_st rfl rfl ?_
        | refine w_ca rfl rfl (m_inPile m (nI k) e ⟨he, es2⟩) ?_
        | refine w_no rfl rfl ?_ ?_
        | refine w_br rfl rfl (fun z => ?_) (fun z => ?_)
        | refine w_in rfl rfl ?_
        | refine w_end rfl rfl ?_
        | refine w_up ?_
      all_goals try (intro z; simp (disch := omega) only [nI_clamp, kc, nI_ltI] at z <;> omega)
      all_goals first | rfl | (rw [k_pile es3]) | (rw [k_mag hmg]) | (rw [k_belt hbt k hk])
  · refine ⟨(nI (sm (fun s => if m 36 s = nI k then (m 37 s).toNatClampNeg else 0) 4)), w_fin ?_, w_fin ?_⟩
    · repeat' first
        | refine w_st rfl rfl ?_
        | refine w_ca rfl rfl (c_magCount c (nI k) hc4) ?_
        | refine w_no rfl rfl ?_ ?_
        | refine w_br rfl rfl (fun z => ?_) (fun z => ?_)
        | refine w_in rfl rfl ?_
        | refine w_end rfl rfl ?_
        | refine w_up ?_
      all_goals try (intro z; simp (disch := omega) only [nI_clamp, kc, nI_ltI] at z <;> omega)
      all_goals first | rfl | (rw [k_pile es3]) | (rw [k_mag hmg]) | (rw [k_belt hbt k hk])
    · repeat' first
        | refine w_st rfl rfl ?_
        | refine w_ca rfl rfl (m_inStores m (nI k) hm4) ?_
        | refine w_no rfl rfl ?_ ?_
        | refine w_br rfl rfl (fun z => ?_) (fun z => ?_)
        | refine w_in rfl rfl ?_
        | refine w_end rfl rfl ?_
        | refine w_up ?_
      all_goals try (intro z; simp (disch := omega) only [nI_clamp, kc, nI_ltI] at z <;> omega)
      all_goals first | rfl | (rw [k_pile es3]) | (rw [k_mag hmg]) | (rw [k_belt hbt k hk])
  · refine ⟨(m 38 k), w_fin ?_, w_fin ?_⟩
    · repeat' first
        | refine w_st rfl rfl ?_
        | refine w_no rfl rfl ?_ ?_
        | refine w_br rfl rfl (fun z => ?_) (fun z => ?_)
        | refine w_in rfl rfl ?_
        | refine w_end rfl rfl ?_
        | refine w_up ?_
      all_goals try (intro z; simp (disch := omega) only [nI_clamp, kc, nI_ltI] at z <;> omega)
      all_goals first | (show (Sum.inl (some (c 16 (nI k).toNatClampNeg)), c) = _; simp only [ek, k1, k2, k3, k4, k5, k6, k7]; done)
    · repeat' first
        | refine w_st rfl rfl ?_
        | refine w_no rfl rfl ?_ ?_
        | refine w_br rfl rfl (fun z => ?_) (fun z => ?_)
        | refine w_in rfl rfl ?_
        | refine w_end rfl rfl ?_
        | refine w_up ?_
      all_goals try (intro z; simp (disch := omega) only [nI_clamp, kc, nI_ltI] at z <;> omega)
      all_goals simp only [ek, k1, k2, k3, k4, k5, k6, k7]
      all_goals try rfl
  · refine ⟨(nI (sm (fun s => if m 32 s = nI k then 1 else 0) 10)), w_fin ?_, w_fin ?_⟩
    · repeat' first
        | refine w_st rfl rfl ?_
        | refine w_ca rfl rfl (c_count c (nI k)) ?_
        | refine w_no rfl rfl ?_ ?_
        | refine w_br rfl rfl (fun z => ?_) (fun z => ?_)
        | refine w_in rfl rfl ?_
        | refine w_end rfl rfl ?_
        | refine w_up ?_
      all_goals try (intro z; simp (disch := omega) only [nI_clamp, kc, nI_ltI] at z <;> omega)
      all_goals first | rfl | (rw [k_pile es3]) | (rw [k_mag hmg]) | (rw [k_belt hbt k hk])
    · repeat' first
        | refine w_st rfl rfl ?_
        | refine w_ca rfl rfl (m_ofBelt m (nI k)) ?_
        | refine w_no rfl rfl ?_ ?_
        | refine w_br rfl rfl (fun z => ?_) (fun z => ?_)
        | refine w_in rfl rfl ?_
        | refine w_end rfl rfl ?_
        | refine w_up ?_
      all_goals try (intro z; simp (disch := omega) only [nI_clamp, kc, nI_ltI] at z <;> omega)
      all_goals first | rfl | (rw [k_pile es3]) | (rw [k_mag hmg]) | (rw [k_belt hbt k hk])
  · refine ⟨(m 39 k), w_fin ?_, w_fin ?_⟩
    · repeat' first
        | refine w_st rfl rfl ?_
        | refine w_no rfl rfl ?_ ?_
        | refine w_br rfl rfl (fun z => ?_) (fun z => ?_)
        | refine w_in rfl rfl ?_
        | refine w_end rfl rfl ?_
        | refine w_up ?_
      all_goals try (intro z; simp (disch := omega) only [nI_clamp, kc, nI_ltI] at z <;> omega)
      all_goals first | (show (Sum.inl (some (c 18 (nI k).toNatClampNeg)), c) = _; simp only [ek, k1, k2, k3, k4, k5, k6, k7]; done)
    · repeat' first
        | refine w_st rfl rfl ?_
        | refine w_no rfl rfl ?_ ?_
        | refine w_br rfl rfl (fun z => ?_) (fun z => ?_)
        | refine w_in rfl rfl ?_
        | refine w_end rfl rfl ?_
        | refine w_up ?_
      all_goals try (intro z; simp (disch := omega) only [nI_clamp, kc, nI_ltI] at z <;> omega)
      all_goals simp only [ek, k1, k2, k3, k4, k5, k6, k7]
      all_goals try rfl
  · refine ⟨(m 40 k), w_fin ?_, w_fin ?_⟩
    · repeat' first
        | refine w_st rfl rfl ?_
        | refine w_no rfl rfl ?_ ?_
        | refine w_br rfl rfl (fun z => ?_) (fun z => ?_)
        | refine w_in rfl rfl ?_
        | refine w_end rfl rfl ?_
        | refine w_up ?_
      all_goals try (intro z; simp (disch := omega) only [nI_clamp, kc, nI_ltI] at z <;> omega)
      all_goals first | (show (Sum.inl (some (c 19 (nI k).toNatClampNeg)), c) = _; simp only [ek, k1, k2, k3, k4, k5, k6, k7]; done)
    · repeat' first
        | refine w_st rfl rfl ?_
        | refine w_no rfl rfl ?_ ?_
        | refine w_br rfl rfl (fun z => ?_) (fun z => ?_)
        | refine w_in rfl rfl ?_
        | refine w_end rfl rfl ?_
        | refine w_up ?_
      all_goals try (intro z; simp (disch := omega) only [nI_clamp, kc, nI_ltI] at z <;> omega)
      all_goals simp only [ek, k1, k2, k3, k4, k5, k6, k7]
      all_goals try rfl
  · refine ⟨(m 41 k), w_fin ?_, w_fin ?_⟩
    · repeat' first
        | refine w_st rfl rfl ?_
        | refine w_no rfl rfl ?_ ?_
        | refine w_br rfl rfl (fun z => ?_) (fun z => ?_)
        | refine w_in rfl rfl ?_
        | refine w_end rfl rfl ?_
        | refine w_up ?_
      all_goals try (intro z; simp (disch := omega) only [nI_clamp, kc, nI_ltI] at z <;> omega)
      all_goals first | (show (Sum.inl (some (c 20 (nI k).toNatClampNeg)), c) = _; simp only [ek, k1, k2, k3, k4, k5, k6, k7]; done)
    · repeat' first
        | refine w_st rfl rfl ?_
        | refine w_no rfl rfl ?_ ?_
        | refine w_br rfl rfl (fun z => ?_) (fun z => ?_)
        | refine w_in rfl rfl ?_
        | refine w_end rfl rfl ?_
        | refine w_up ?_
      all_goals try (intro z; simp (disch := omega) only [nI_clamp, kc, nI_ltI] at z <;> omega)
      all_goals simp only [ek, k1, k2, k3, k4, k5, k6, k7]
      all_goals try rfl
  · refine ⟨(m 42 k), w_fin ?_, w_fin ?_⟩
    · repeat' first
        | refine w_st rfl rfl ?_
        | refine w_no rfl rfl ?_ ?_
        | refine w_br rfl rfl (fun z => ?_) (fun z => ?_)
        | refine w_in rfl rfl ?_
        | refine w_end rfl rfl ?_
        | refine w_up ?_
      all_goals try (intro z; simp (disch := omega) only [nI_clamp, kc, nI_ltI] at z <;> omega)
      all_goals first | (show (Sum.inl (some (c 21 (nI k).toNatClampNeg)), c) = _; simp only [ek, k1, k2, k3, k4, k5, k6, k7]; done)
    · repeat' first
        | refine w_st rfl rfl ?_
        | refine w_no rfl rfl ?_ ?_
        | refine w_br rfl rfl (fun z => ?_) (fun z => ?_)
        | refine w_in rfl rfl ?_
        | refine w_end rfl rfl ?_
        | refine w_up ?_
      all_goals try (intro z; simp (disch := omega) only [nI_clamp, kc, nI_ltI] at z <;> omega)
      all_goals simp only [ek, k1, k2, k3, k4, k5, k6, k7]
      all_goals try rfl
  · refine ⟨(m 43 k), w_fin ?_, w_fin ?_⟩
    · repeat' first
        | refine w_st rfl rfl ?_
        | refine w_no rfl rfl ?_ ?_
        | refine w_br rfl rfl (fun z => ?_) (fun z => ?_)
        | refine w_in rfl rfl ?_
        | refine w_end rfl rfl ?_
        | refine w_up ?_
      all_goals try (intro z; simp (disch := omega) only [nI_clamp, kc, nI_ltI] at z <;> omega)
      all_goals first | (show (Sum.inl (some (c 22 (nI k).toNatClampNeg)), c) = _; simp only [ek, k1, k2, k3, k4, k5, k6, k7]; done)
    · repeat' first
        | refine w_st rfl rfl ?_
        | refine w_no rfl rfl ?_ ?_
        | refine w_br rfl rfl (fun z => ?_) (fun z => ?_)
        | refine w_in rfl rfl ?_
        | refine w_end rfl rfl ?_
        | refine w_up ?_
      all_goals try (intro z; simp (disch := omega) only [nI_clamp, kc, nI_ltI] at z <;> omega)
      all_goals simp only [ek, k1, k2, k3, k4, k5, k6, k7]
      all_goals try rfl
  · refine ⟨(m 44 k), w_fin ?_, w_fin ?_⟩
    · repeat' first
        | refine w_st rfl rfl ?_
        | refine w_no rfl rfl ?_ ?_
        | refine w_br rfl rfl (fun z => ?_) (fun z => ?_)
        | refine w_in rfl rfl ?_
        | refine w_end rfl rfl ?_
        | refine w_up ?_
      all_goals try (intro z; simp (disch := omega) only [nI_clamp, kc, nI_ltI] at z <;> omega)
      all_goals first | (show (Sum.inl (some (c 23 (nI k).toNatClampNeg)), c) = _; simp only [ek, k1, k2, k3, k4, k5, k6, k7]; done)
    · repeat' first
        | refine w_st rfl rfl ?_
        | refine w_no rfl rfl ?_ ?_
        | refine w_br rfl rfl (fun z => ?_) (fun z => ?_)
        | refine w_in rfl rfl ?_
        | refine w_end rfl rfl ?_
        | refine w_up ?_
      all_goals try (intro z; simp (disch := omega) only [nI_clamp, kc, nI_ltI] at z <;> omega)
      all_goals simp only [ek, k1, k2, k3, k4, k5, k6, k7]
      all_goals try rfl
  · refine ⟨(if nI k = 0 then m 30 5 else Int32.ofInt 0), w_fin ?_, w_fin ?_⟩
    · repeat' first
        | refine w_st rfl rfl ?_
        | refine w_no rfl rfl ?_ ?_
        | refine w_br rfl rfl (fun z => ?_) (fun z => ?_)
        | refine w_in rfl rfl ?_
        | refine w_end rfl rfl ?_
        | refine w_up ?_
      all_goals try (intro z; simp (disch := omega) only [nI_clamp, kc, nI_ltI] at z <;> omega)
      all_goals first | (rw [if_pos (by assumption)]; show (Sum.inl (some (c 0 8)), c) = _; rw [hu2, hu3]; done) | (rw [if_neg (by assumption)]; done)
    · repeat' first
        | refine w_st rfl rfl ?_
        | refine w_no rfl rfl ?_ ?_
        | refine w_br rfl rfl (fun z => ?_) (fun z => ?_)
        | refine w_in rfl rfl ?_
        | refine w_end rfl rfl ?_
        | refine w_up ?_
      all_goals try (intro z; simp (disch := omega) only [nI_clamp, kc, nI_ltI] at z <;> omega)
      all_goals first | (rw [if_pos (by assumption)]; done) | (rw [if_neg (by assumption)]; done)
end
section
/-! NOTES (written by wip/whole/gen_ops8.py). -/
set_option maxHeartbeats 3000000 in
theorem o_notes (x y : Int32) : P_W RR 88 133 [0] true [.inl x, .inl y] := by
  refine P_Wof fun c m hR => ?_
  have hR0 := hR
  obtain ⟨⟨⟨t, ht, h1, h2⟩, ⟨u, hu1, hu2, hu3⟩, hpw, ⟨op, hop1, hop2, hop3⟩, hsb⟩, hvd, hbt, hsz, hes, hmg, hbk, hpy⟩ := hR
  rcases ix3 x 10 (by decide) with e1 | ⟨e1, e2, e3, e4⟩ | ⟨j, hj, rfl⟩
  · unfold P_run
    repeat' first
      | refine w_st rfl rfl ?_
      | refine w_no rfl rfl ?_ ?_
      | (refine w_br rfl rfl (fun z => ?_) (fun z => ?_) <;> try (first | contradiction | (simp (disch := omega) only [e1, kc, nI_eq, nI_ltI, nI_leI, nI_m1, hu_o, hu_k, not_true_eq_false] at z; first | done | omega)))
      | refine w_in rfl rfl ?_
      | refine w_end rfl rfl ?_
      | refine w_endY rfl rfl ?_ ?_
      | refine w_up ?_
    all_goals try (intro z; simp (disch := omega) only [e1, nI_clamp, kc, nI_ltI, hu_o, hu_k] at z <;> omega)
    all_goals try exact f_x 0 hR0 rfl rfl rfl
    all_goals try (exfalso; simp (disch := omega) only [e1, kc, nI_eq, nI_ltI, nI_leI, nI_m1, hu_o, hu_k, not_true_eq_false] at * <;> first | contradiction | omega)
  · unfold P_run
    repeat' first
      | refine w_st rfl rfl ?_
      | refine w_no rfl rfl ?_ ?_
      | (refine w_br rfl rfl (fun z => ?_) (fun z => ?_) <;> try (first | contradiction | (simp (disch := omega) only [e1, e2, e3, e4, kc, nI_eq, nI_ltI, nI_leI, nI_m1, hu_o, hu_k, not_true_eq_false] at z; first | done | omega)))
      | refine w_in rfl rfl ?_
      | refine w_end rfl rfl ?_
      | refine w_endY rfl rfl ?_ ?_
      | refine w_up ?_
    all_goals try (intro z; simp (disch := omega) only [e1, e2, e3, e4, nI_clamp, kc, nI_ltI, hu_o, hu_k] at z <;> omega)
    all_goals try exact f_x 0 hR0 rfl rfl rfl
    all_goals try (exfalso; simp (disch := omega) only [e1, e2, e3, e4, kc, nI_eq, nI_ltI, nI_leI, nI_m1, hu_o, hu_k, not_true_eq_false] at * <;> first | contradiction | omega)
  · rcases ix3 y 5 (by decide) with e1 | ⟨e1, e2, e3, e4⟩ | ⟨k, hk, rfl⟩
    · unfold P_run
      repeat' first
        | refine w_st rfl rfl ?_
        | refine w_no rfl rfl ?_ ?_
        | (refine w_br rfl rfl (fun z => ?_) (fun z => ?_) <;> try (first | contradiction | (simp (disch := omega) only [e1, kc, nI_eq, nI_ltI, nI_leI, nI_m1, hu_o, hu_k, not_true_eq_false] at z; first | done | omega)))
        | refine w_in rfl rfl ?_
        | refine w_end rfl rfl ?_
        | refine w_endY rfl rfl ?_ ?_
        | refine w_up ?_
      all_goals try (intro z; simp (disch := omega) only [e1, nI_clamp, kc, nI_ltI, hu_o, hu_k] at z <;> omega)
      all_goals try exact f_x 0 hR0 rfl rfl rfl
      all_goals try (exfalso; simp (disch := omega) only [e1, kc, nI_eq, nI_ltI, nI_leI, nI_m1, hu_o, hu_k, not_true_eq_false] at * <;> first | contradiction | omega)
    · unfold P_run
      repeat' first
        | refine w_st rfl rfl ?_
        | refine w_no rfl rfl ?_ ?_
        | (refine w_br rfl rfl (fun z => ?_) (fun z => ?_) <;> try (first | contradiction | (simp (disch := omega) only [e1, e2, e3, e4, kc, nI_eq, nI_ltI, nI_leI, nI_m1, hu_o, hu_k, not_true_eq_false] at z; first | done | omega)))
        | refine w_in rfl rfl ?_
        | refine w_end rfl rfl ?_
        | refine w_endY rfl rfl ?_ ?_
        | refine w_up ?_
      all_goals try (intro z; simp (disch := omega) only [e1, e2, e3, e4, nI_clamp, kc, nI_ltI, hu_o, hu_k] at z <;> omega)
      all_goals try exact f_x 0 hR0 rfl rfl rfl
      all_goals try (exfalso; simp (disch := omega) only [e1, e2, e3, e4, kc, nI_eq, nI_ltI, nI_leI, nI_m1, hu_o, hu_k, not_true_eq_false] at * <;> first | contradiction | omega)
    · obtain ⟨v, hC, hM⟩ := cn2 (c := c) (m := hu m 30 0 (Int32.ofInt 0)) hR0 j k (by omega) (by omega)
      unfold P_run
      repeat' first
        | refine w_st rfl rfl ?_
        | refine w_ca rfl rfl hC ?_
        | refine w_ca rfl rfl hM ?_
        | refine w_no rfl rfl ?_ ?_
        | (refine w_br rfl rfl (fun z => ?_) (fun z => ?_) <;> try (first | contradiction | (simp (disch := omega) only [kc, nI_eq, nI_ltI, nI_leI, nI_m1, hu_o, hu_k, not_true_eq_false] at z; first | done | omega)))
        | refine w_in rfl rfl ?_
        | refine w_end rfl rfl ?_
        | refine w_endY rfl rfl ?_ ?_
        | refine w_up ?_
      exact f_r hR0 rfl rfl rfl
end
section
/-! EMPTY (written by wip/whole/gen_ops9.py). -/
set_option maxHeartbeats 3000000 in
theorem o_empty (x : Int32) : P_W RR 85 128 [1, 0] true [.inl x] := by
  refine P_Wof fun c m hR => ?_
  have hR0 := hR
  obtain ⟨⟨⟨t, ht, h1, h2⟩, ⟨u, hu1, hu2, hu3⟩, hpw, ⟨op, hop1, hop2, hop3⟩, hsb⟩, hvd, hbt, hsz, hes, hmg, hbk, hpy⟩ := hR
  have hpp : ∃ pw, pw ≤ 1 ∧ c 0 9 = nI pw ∧ m 30 2 = nI (1 - pw) := by
    rcases hpw with ⟨a, b⟩ | ⟨a, b⟩
    · exact ⟨1, by decide, a, b⟩
    · exact ⟨0, by decide, a, b⟩
  obtain ⟨pw, hp, p1, p2⟩ := hpp
  by_cases hrd : pw = 1 ∧ t = 8
  · obtain ⟨rfl, rfl⟩ := hrd
    rcases ix3 x 5 (by decide) with e1 | ⟨e1, e2, e3, e4⟩ | ⟨j, hj, rfl⟩
    · have x0 : ∀ r, r < 10 → (x = nI r) = False := fun r hr => eq_false (fun z => by subst z; exact nI_pos (by omega) (of_eq_true e1))
      have x1 : (nI 4 ≤ x) = False := eq_false (fun z => by have z1 := of_eq_true e1; simp only [Int32.lt_iff_toInt_lt, Int32.le_iff_toInt_le] at z z1; have q1 : (nI 4).toInt = 4 := rfl; have q2 : (nI 0).toInt = 0 := rfl; omega)
      unfold P_run
      repeat' first
        | refine w_st rfl rfl ?_
        | refine w_no rfl rfl ?_ ?_
        | (refine w_br rfl rfl (fun z => ?_) (fun z => ?_) <;> try (first | contradiction | (simp (disch := omega) only [p1, p2, h1, h2, e1, x0, x1, kc, nI_eq, nI_ltI, nI_leI, nI_m1, hu_o, hu_k, not_true_eq_false] at z; first | done | omega)))
        | refine w_in rfl rfl ?_
        | refine w_end rfl rfl ?_
        | refine w_endY rfl rfl ?_ ?_
        | refine w_up ?_
      all_goals try (intro z; simp (disch := omega) only [p1, p2, h1, h2, e1, x0, x1, nI_clamp, kc, nI_ltI, hu_o, hu_k] at z <;> omega)
      all_goals try exact f_x 0 hR0 rfl rfl rfl
      all_goals try exact f_x 1 hR0 rfl rfl rfl
      all_goals try (exfalso; simp (disch := omega) only [p1, p2, h1, h2, e1, x0, x1, kc, nI_eq, nI_ltI, nI_leI, nI_m1, hu_o, hu_k, not_true_eq_false] at * <;> first | contradiction | omega)
    · have x0 : ∀ r, r < 6 → (x = nI r) = False := fun r hr => eq_false (fun z => by subst z; have z1 := of_eq_true e2; rw [nI_leI (by omega) (by omega)] at z1; omega)
      have x1 : (nI 4 ≤ x) = True := eq_true (by have z1 := of_eq_true e2; simp only [Int32.le_iff_toInt_le] at z1 ⊢; have q1 : (nI 4).toInt = 4 := rfl; have q2 : (nI (5 + 1)).toInt = 6 := rfl; omega)
      unfold P_run
      repeat' first
        | refine w_st rfl rfl ?_
        | refine w_no rfl rfl ?_ ?_
        | (refine w_br rfl rfl (fun z => ?_) (fun z => ?_) <;> try (first | contradiction | (simp (disch := omega) only [p1, p2, h1, h2, e1, e2, e3, e4, x0, x1, kc, nI_eq, nI_ltI, nI_leI, nI_m1, hu_o, hu_k, not_true_eq_false] at z; first | done | omega)))
        | refine w_in rfl rfl ?_
        | refine w_end rfl rfl ?_
        | refine w_endY rfl rfl ?_ ?_
        | refine w_up ?_
      all_goals try (intro z; simp (disch := omega) only [p1, p2, h1, h2, e1, e2, e3, e4, x0, x1, nI_clamp, kc, nI_ltI, hu_o, hu_k] at z <;> omega)
      all_goals try exact f_x 0 hR0 rfl rfl rfl
      all_goals try exact f_x 1 hR0 rfl rfl rfl
      all_goals try (exfalso; simp (disch := omega) only [p1, p2, h1, h2, e1, e2, e3, e4, x0, x1, kc, nI_eq, nI_ltI, nI_leI, nI_m1, hu_o, hu_k, not_true_eq_false] at * <;> first | contradiction | omega)
    · by_cases hj4 : j < 4
      · have ej : (nI j).toNatClampNeg = j := nI_clamp (by omega)
        obtain ⟨k, n, hk1, hk2, hn, b1, b2, b3, b4⟩ := hmg j hj4
        have ek : (nI k).toNatClampNeg = k := nI_clamp (by omega)
        unfold P_run
        repeat' first
          | refine w_st rfl rfl ?_
          | refine w_no rfl rfl ?_ ?_
          | (refine w_br rfl rfl (fun z => ?_) (fun z => ?_) <;> try (first | contradiction | (simp (disch := omega) only [p1, p2, h1, h2, b1, b2, b3, b4, ej, kc, nI_eq, nI_ltI, nI_leI, nI_m1, hu_o, hu_k, not_true_eq_false] at z; first | done | omega)))
          | refine w_in rfl rfl ?_
          | refine w_end rfl rfl ?_
          | refine w_endY rfl rfl ?_ ?_
          | refine w_up ?_
        all_goals try (intro z; simp (disch := omega) only [p1, p2, h1, h2, b1, b2, b3, b4, ej, nI_clamp, kc, nI_ltI, hu_o, hu_k] at z <;> omega)
        all_goals try exact f_x 0 hR0 rfl rfl rfl
        all_goals try exact f_x 1 hR0 rfl rfl rfl
        all_goals try (exfalso; simp (disch := omega) only [p1, p2, h1, h2, b1, b2, b3, b4, ej, kc, nI_eq, nI_ltI, nI_leI, nI_m1, hu_o, hu_k, not_true_eq_false] at * <;> first | contradiction | omega)
        simp (disch := omega) only [ej, kc, hu_o, b1, b2, b3, b4, ek]
        refine f_r ⟨⟨⟨8, ht, h1, h2⟩, ⟨u, hu1, hu2, hu3⟩, hpw, ⟨op, hop1, hop2, hop3⟩, hsb⟩, hvd, hbt, hsz, hes, fun i hi => ?_, (bk_add (k := k) (x := nI n) 21 42 hbk rfl rfl (by decide) : r_bk (hu c 21 k (c 21 k + nI n)) (hu m 42 k (m 42 k + nI n))), hpy.1, fun z => absurd (h1.symm.trans z) (by decide)⟩ rfl rfl rfl
        by_cases e : i = j
        · subst e; exact ⟨k, 0, hk1, hk2, by omega, by simp [hu, b1], by simp [hu, b2], by simp only [hu]; simp [Int32.add_right_neg, nI_0], by simp [hu]⟩
        · obtain ⟨k', n', r⟩ := hmg i hi; exact ⟨k', n', by simpa [hu, e] using r⟩
      · rcases (show j = 4 ∨ j = 5 by omega) with rfl | rfl
        · have a0 : c 16 0 = m 38 0 := (hbk 0 (by decide)).1
          have a1 : c 16 1 = m 38 1 := (hbk 1 (by decide)).1
          have a2 : c 16 2 = m 38 2 := (hbk 2 (by decide)).1
          have a3 : c 16 3 = m 38 3 := (hbk 3 (by decide)).1
          have a4 : c 16 4 = m 38 4 := (hbk 4 (by decide)).1
          have a5 : c 16 5 = m 38 5 := (hbk 5 (by decide)).1
          unfold P_run
          repeat' first
            | refine w_st rfl rfl ?_
            | refine w_no rfl rfl ?_ ?_
            | (refine w_br rfl rfl (fun z => ?_) (fun z => ?_) <;> try (first | contradiction | (simp (disch := omega) only [p1, p2, h1, h2, kc, nI_eq, nI_ltI, nI_leI, nI_m1, hu_o, hu_k, not_true_eq_false] at z; first | done | omega)))
            | refine w_in rfl rfl ?_
            | refine w_end rfl rfl ?_
            | refine w_endY rfl rfl ?_ ?_
            | refine w_up ?_
          all_goals try (intro z; simp (disch := omega) only [p1, p2, h1, h2, nI_clamp, kc, nI_ltI, hu_o, hu_k] at z <;> omega)
          all_goals try exact f_x 0 hR0 rfl rfl rfl
          all_goals try exact f_x 1 hR0 rfl rfl rfl
          all_goals try (exfalso; simp (disch := omega) only [p1, p2, h1, h2, kc, nI_eq, nI_ltI, nI_leI, nI_m1, hu_o, hu_k, not_true_eq_false] at * <;> first | contradiction | omega)
          simp (disch := omega) only [kc, nI_add, nI_clamp, Nat.reduceAdd, hu_same, hu_o, hu_k, nI0_add, a0, a1, a2, a3, a4, a5]
          refine f_r ⟨⟨⟨8, ht, h1, h2⟩, ⟨u, hu1, hu2, hu3⟩, hpw, ⟨op, hop1, hop2, hop3⟩, hsb⟩, hvd, hbt, hsz, hes, hmg, fun k hk => ?_, hpy.1, fun z => absurd (h1.symm.trans z) (by decide)⟩ rfl rfl rfl
          have b := hbk k hk
          rcases (show k = 0 ∨ k = 1 ∨ k = 2 ∨ k = 3 ∨ k = 4 ∨ k = 5 by omega) with rfl | rfl | rfl | rfl | rfl | rfl <;> obtain ⟨b1, b2, b3, b4, b5, b6, b7⟩ := b <;> exact ⟨rfl, b2, b3, b4, (by show c 21 _ + m 38 _ = m 42 _ + m 38 _; rw [b5]), b6, b7⟩
        · have a0 : c 18 0 = m 39 0 := (hbk 0 (by decide)).2.1
          have a1 : c 18 1 = m 39 1 := (hbk 1 (by decide)).2.1
          have a2 : c 18 2 = m 39 2 := (hbk 2 (by decide)).2.1
          have a3 : c 18 3 = m 39 3 := (hbk 3 (by decide)).2.1
          have a4 : c 18 4 = m 39 4 := (hbk 4 (by decide)).2.1
          have a5 : c 18 5 = m 39 5 := (hbk 5 (by decide)).2.1
          unfold P_run
          repeat' first
            | refine w_st rfl rfl ?_
            | refine w_no rfl rfl ?_ ?_
            | (refine w_br rfl rfl (fun z => ?_) (fun z => ?_) <;> try (first | contradiction | (simp (disch := omega) only [p1, p2, h1, h2, kc, nI_eq, nI_ltI, nI_leI, nI_m1, hu_o, hu_k, not_true_eq_false] at z; first | done | omega)))
            | refine w_in rfl rfl ?_
            | refine w_end rfl rfl ?_
            | refine w_endY rfl rfl ?_ ?_
            | refine w_up ?_
          all_goals try (intro z; simp (disch := omega) only [p1, p2, h1, h2, nI_clamp, kc, nI_ltI, hu_o, hu_k] at z <;> omega)
          all_goals try exact f_x 0 hR0 rfl rfl rfl
          all_goals try exact f_x 1 hR0 rfl rfl rfl
          all_goals try (exfalso; simp (disch := omega) only [p1, p2, h1, h2, kc, nI_eq, nI_ltI, nI_leI, nI_m1, hu_o, hu_k, not_true_eq_false] at * <;> first | contradiction | omega)
          simp (disch := omega) only [kc, nI_add, nI_clamp, Nat.reduceAdd, hu_same, hu_o, hu_k, nI0_add, a0, a1, a2, a3, a4, a5]
          refine f_r ⟨⟨⟨8, ht, h1, h2⟩, ⟨u, hu1, hu2, hu3⟩, hpw, ⟨op, hop1, hop2, hop3⟩, hsb⟩, hvd, hbt, hsz, hes, hmg, fun k hk => ?_, hpy.1, fun z => absurd (h1.symm.trans z) (by decide)⟩ rfl rfl rfl
          have b := hbk k hk
          rcases (show k = 0 ∨ k = 1 ∨ k = 2 ∨ k = 3 ∨ k = 4 ∨ k = 5 by omega) with rfl | rfl | rfl | rfl | rfl | rfl <;> obtain ⟨b1, b2, b3, b4, b5, b6, b7⟩ := b <;> exact ⟨b1, rfl, b3, b4, (by show c 21 _ + m 39 _ = m 42 _ + m 39 _; rw [b5]), b6, b7⟩
  · rcases (show pw = 0 ∨ pw = 1 by omega) with rfl | rfl
    · unfold P_run
      repeat' first
        | refine w_st rfl rfl ?_
        | refine w_no rfl rfl ?_ ?_
        | (refine w_br rfl rfl (fun z => ?_) (fun z => ?_) <;> try (first | contradiction | (simp (disch := omega) only [p1, p2, h1, h2, kc, nI_eq, nI_ltI, nI_leI, nI_m1, hu_o, hu_k, not_true_eq_false] at z; first | done | omega)))
        | refine w_in rfl rfl ?_
        | refine w_end rfl rfl ?_
        | refine w_endY rfl rfl ?_ ?_
        | refine w_up ?_
      all_goals try (intro z; simp (disch := omega) only [p1, p2, h1, h2, nI_clamp, kc, nI_ltI, hu_o, hu_k] at z <;> omega)
      all_goals try exact f_x 0 hR0 rfl rfl rfl
      all_goals try exact f_x 1 hR0 rfl rfl rfl
      all_goals try (exfalso; simp (disch := omega) only [p1, p2, h1, h2, kc, nI_eq, nI_ltI, nI_leI, nI_m1, hu_o, hu_k, not_true_eq_false] at * <;> first | contradiction | omega)
    · have ht8 : t ≠ 8 := fun z => hrd ⟨rfl, z⟩
      unfold P_run
      repeat' first
        | refine w_st rfl rfl ?_
        | refine w_no rfl rfl ?_ ?_
        | (refine w_br rfl rfl (fun z => ?_) (fun z => ?_) <;> try (first | contradiction | (simp (disch := omega) only [p1, p2, h1, h2, kc, nI_eq, nI_ltI, nI_leI, nI_m1, hu_o, hu_k, not_true_eq_false] at z; first | done | omega)))
        | refine w_in rfl rfl ?_
        | refine w_end rfl rfl ?_
        | refine w_endY rfl rfl ?_ ?_
        | refine w_up ?_
      all_goals try (intro z; simp (disch := omega) only [p1, p2, h1, h2, nI_clamp, kc, nI_ltI, hu_o, hu_k] at z <;> omega)
      all_goals try exact f_x 0 hR0 rfl rfl rfl
      all_goals try exact f_x 1 hR0 rfl rfl rfl
      all_goals try (exfalso; simp (disch := omega) only [p1, p2, h1, h2, kc, nI_eq, nI_ltI, nI_leI, nI_m1, hu_o, hu_k, not_true_eq_false] at * <;> first | contradiction | omega)
end
