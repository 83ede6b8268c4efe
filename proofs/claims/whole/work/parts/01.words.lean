-- ===== PART A: goes FIRST, ahead of the names: the tables' words, and 'selects' of the private methods out of them =====
/-- a private method of a class that the tables say can be made, by its rows of tables_1 -/
def lw_okq (q : MethodName × Nat) : Prop := (q.1.cls ≠ "java/lang/invoke/MethodHandle" ∧ q.1.cls ≠ "java/lang/invoke/VarHandle") ∧ Cond.instantiable q.1.cls q.2 ∈ tables_1 ∧ Cond.privateMethod q.1 ∈ tables_1 ∧ Cond.instanceMethod q.1 ∈ tables_1
theorem lw_p0 : lw_okq (⟨"TanRow", "finding", "(I)I"⟩, 7) := ⟨⟨by decide +kernel, by decide +kernel⟩, List.mem_of_getElem? (i := 16) (by decide +kernel), List.mem_of_getElem? (i := 156) (by decide +kernel), List.mem_of_getElem? (i := 157) (by decide +kernel)⟩
theorem lw_p1 : lw_okq (⟨"TanRow", "isPerson", "(I)Z"⟩, 7) := ⟨⟨by decide +kernel, by decide +kernel⟩, List.mem_of_getElem? (i := 16) (by decide +kernel), List.mem_of_getElem? (i := 224) (by decide +kernel), List.mem_of_getElem? (i := 225) (by decide +kernel)⟩
theorem lw_p2 : lw_okq (⟨"TanRow$Shore", "browned", "(IIII)I"⟩, 11) := ⟨⟨by decide +kernel, by decide +kernel⟩, List.mem_of_getElem? (i := 24) (by decide +kernel), List.mem_of_getElem? (i := 312) (by decide +kernel), List.mem_of_getElem? (i := 313) (by decide +kernel)⟩
theorem lw_p3 : lw_okq (⟨"TanRow$Shore", "burn", "(II)V"⟩, 11) := ⟨⟨by decide +kernel, by decide +kernel⟩, List.mem_of_getElem? (i := 24) (by decide +kernel), List.mem_of_getElem? (i := 323) (by decide +kernel), List.mem_of_getElem? (i := 324) (by decide +kernel)⟩
theorem lw_p4 : lw_okq (⟨"TanRow", "startTrial", "()V"⟩, 7) := ⟨⟨by decide +kernel, by decide +kernel⟩, List.mem_of_getElem? (i := 16) (by decide +kernel), List.mem_of_getElem? (i := 332) (by decide +kernel), List.mem_of_getElem? (i := 333) (by decide +kernel)⟩
theorem lw_p5 : lw_okq (⟨"TanRow", "brownWith", "(IIII)I"⟩, 7) := ⟨⟨by decide +kernel, by decide +kernel⟩, List.mem_of_getElem? (i := 16) (by decide +kernel), List.mem_of_getElem? (i := 388) (by decide +kernel), List.mem_of_getElem? (i := 389) (by decide +kernel)⟩
theorem lw_p6 : lw_okq (⟨"TanRow$Text", "advance", "()V"⟩, 6) := ⟨⟨by decide +kernel, by decide +kernel⟩, List.mem_of_getElem? (i := 79) (by decide +kernel), List.mem_of_getElem? (i := 416) (by decide +kernel), List.mem_of_getElem? (i := 417) (by decide +kernel)⟩
theorem lw_p7 : lw_okq (⟨"TanRow$Text", "passWord", "()V"⟩, 6) := ⟨⟨by decide +kernel, by decide +kernel⟩, List.mem_of_getElem? (i := 79) (by decide +kernel), List.mem_of_getElem? (i := 423) (by decide +kernel), List.mem_of_getElem? (i := 424) (by decide +kernel)⟩
theorem lw_p8 : lw_okq (⟨"TanRow$Text", "passNumber", "()V"⟩, 6) := ⟨⟨by decide +kernel, by decide +kernel⟩, List.mem_of_getElem? (i := 79) (by decide +kernel), List.mem_of_getElem? (i := 430) (by decide +kernel), List.mem_of_getElem? (i := 431) (by decide +kernel)⟩
theorem lw_p9 : lw_okq (⟨"TanRow$Text", "readItem", "(LTanRow$Shore;)Z"⟩, 6) := ⟨⟨by decide +kernel, by decide +kernel⟩, List.mem_of_getElem? (i := 79) (by decide +kernel), List.mem_of_getElem? (i := 435) (by decide +kernel), List.mem_of_getElem? (i := 436) (by decide +kernel)⟩
theorem lw_p10 : lw_okq (⟨"TanRow$Text", "isWord", "(Ljava/lang/String;)Z"⟩, 6) := ⟨⟨by decide +kernel, by decide +kernel⟩, List.mem_of_getElem? (i := 79) (by decide +kernel), List.mem_of_getElem? (i := 440) (by decide +kernel), List.mem_of_getElem? (i := 441) (by decide +kernel)⟩
theorem lw_p11 : lw_okq (⟨"TanRow$Text", "readSun", "(LTanRow$Shore;)Z"⟩, 6) := ⟨⟨by decide +kernel, by decide +kernel⟩, List.mem_of_getElem? (i := 79) (by decide +kernel), List.mem_of_getElem? (i := 492) (by decide +kernel), List.mem_of_getElem? (i := 493) (by decide +kernel)⟩
theorem lw_p12 : lw_okq (⟨"TanRow$Text", "isNumberTo", "(I)Z"⟩, 6) := ⟨⟨by decide +kernel, by decide +kernel⟩, List.mem_of_getElem? (i := 79) (by decide +kernel), List.mem_of_getElem? (i := 496) (by decide +kernel), List.mem_of_getElem? (i := 497) (by decide +kernel)⟩
theorem lw_p13 : lw_okq (⟨"TanRow$Text", "readGoes", "(LTanRow$Shore;)Z"⟩, 6) := ⟨⟨by decide +kernel, by decide +kernel⟩, List.mem_of_getElem? (i := 79) (by decide +kernel), List.mem_of_getElem? (i := 501) (by decide +kernel), List.mem_of_getElem? (i := 502) (by decide +kernel)⟩
theorem lw_p14 : lw_okq (⟨"TanRow$Text", "kindNamed", "()I"⟩, 6) := ⟨⟨by decide +kernel, by decide +kernel⟩, List.mem_of_getElem? (i := 79) (by decide +kernel), List.mem_of_getElem? (i := 506) (by decide +kernel), List.mem_of_getElem? (i := 507) (by decide +kernel)⟩
theorem lw_p15 : lw_okq (⟨"TanRow$Text", "readPerson", "(LTanRow$Shore;I)Z"⟩, 6) := ⟨⟨by decide +kernel, by decide +kernel⟩, List.mem_of_getElem? (i := 79) (by decide +kernel), List.mem_of_getElem? (i := 519) (by decide +kernel), List.mem_of_getElem? (i := 520) (by decide +kernel)⟩
def lw_privs_1 : List (MethodName × Nat) := [(⟨"TanRow", "finding", "(I)I"⟩, 7), (⟨"TanRow", "isPerson", "(I)Z"⟩, 7), (⟨"TanRow$Shore", "browned", "(IIII)I"⟩, 11), (⟨"TanRow$Shore", "burn", "(II)V"⟩, 11), (⟨"TanRow", "startTrial", "()V"⟩, 7), (⟨"TanRow", "brownWith", "(IIII)I"⟩, 7), (⟨"TanRow$Text", "advance", "()V"⟩, 6), (⟨"TanRow$Text", "passWord", "()V"⟩, 6), (⟨"TanRow$Text", "passNumber", "()V"⟩, 6), (⟨"TanRow$Text", "readItem", "(LTanRow$Shore;)Z"⟩, 6), (⟨"TanRow$Text", "isWord", "(Ljava/lang/String;)Z"⟩, 6), (⟨"TanRow$Text", "readSun", "(LTanRow$Shore;)Z"⟩, 6), (⟨"TanRow$Text", "isNumberTo", "(I)Z"⟩, 6), (⟨"TanRow$Text", "readGoes", "(LTanRow$Shore;)Z"⟩, 6), (⟨"TanRow$Text", "kindNamed", "()I"⟩, 6), (⟨"TanRow$Text", "readPerson", "(LTanRow$Shore;I)Z"⟩, 6)]
theorem lw_r1 : ∀ q ∈ lw_privs_1, lw_okq q := List.forall_mem_cons.mpr ⟨lw_p0, List.forall_mem_cons.mpr ⟨lw_p1, List.forall_mem_cons.mpr ⟨lw_p2, List.forall_mem_cons.mpr ⟨lw_p3, List.forall_mem_cons.mpr ⟨lw_p4, List.forall_mem_cons.mpr ⟨lw_p5, List.forall_mem_cons.mpr ⟨lw_p6, List.forall_mem_cons.mpr ⟨lw_p7, List.forall_mem_cons.mpr ⟨lw_p8, List.forall_mem_cons.mpr ⟨lw_p9, List.forall_mem_cons.mpr ⟨lw_p10, List.forall_mem_cons.mpr ⟨lw_p11, List.forall_mem_cons.mpr ⟨lw_p12, List.forall_mem_cons.mpr ⟨lw_p13, List.forall_mem_cons.mpr ⟨lw_p14, List.forall_mem_cons.mpr ⟨lw_p15, fun _ h => absurd h List.not_mem_nil⟩⟩⟩⟩⟩⟩⟩⟩⟩⟩⟩⟩⟩⟩⟩⟩
theorem lw_p16 : lw_okq (⟨"TanRow", "sheetAt", "(I)LTanRow$Sheet;"⟩, 7) := ⟨⟨by decide +kernel, by decide +kernel⟩, List.mem_of_getElem? (i := 16) (by decide +kernel), List.mem_of_getElem? (i := 532) (by decide +kernel), List.mem_of_getElem? (i := 533) (by decide +kernel)⟩
theorem lw_p17 : lw_okq (⟨"TanRow", "trialGoesAs", "(LTanRow$Sheet;I)Z"⟩, 7) := ⟨⟨by decide +kernel, by decide +kernel⟩, List.mem_of_getElem? (i := 16) (by decide +kernel), List.mem_of_getElem? (i := 579) (by decide +kernel), List.mem_of_getElem? (i := 580) (by decide +kernel)⟩
theorem lw_p18 : lw_okq (⟨"TanRowModel", "becomes", "(II)I"⟩, 16) := ⟨⟨by decide +kernel, by decide +kernel⟩, List.mem_of_getElem? (i := 613) (by decide +kernel), List.mem_of_getElem? (i := 675) (by decide +kernel), List.mem_of_getElem? (i := 676) (by decide +kernel)⟩
theorem lw_p19 : lw_okq (⟨"TanRowModel", "finds", "(I)I"⟩, 16) := ⟨⟨by decide +kernel, by decide +kernel⟩, List.mem_of_getElem? (i := 613) (by decide +kernel), List.mem_of_getElem? (i := 680) (by decide +kernel), List.mem_of_getElem? (i := 681) (by decide +kernel)⟩
theorem lw_p20 : lw_okq (⟨"TanRowModel", "onChair", "(I)I"⟩, 16) := ⟨⟨by decide +kernel, by decide +kernel⟩, List.mem_of_getElem? (i := 613) (by decide +kernel), List.mem_of_getElem? (i := 688) (by decide +kernel), List.mem_of_getElem? (i := 689) (by decide +kernel)⟩
theorem lw_p21 : lw_okq (⟨"TanRowModel", "it", "(II)I"⟩, 16) := ⟨⟨by decide +kernel, by decide +kernel⟩, List.mem_of_getElem? (i := 613) (by decide +kernel), List.mem_of_getElem? (i := 692) (by decide +kernel), List.mem_of_getElem? (i := 693) (by decide +kernel)⟩
theorem lw_p22 : lw_okq (⟨"TanRowModel", "sunNow", "()I"⟩, 16) := ⟨⟨by decide +kernel, by decide +kernel⟩, List.mem_of_getElem? (i := 613) (by decide +kernel), List.mem_of_getElem? (i := 700) (by decide +kernel), List.mem_of_getElem? (i := 701) (by decide +kernel)⟩
theorem lw_p23 : lw_okq (⟨"TanRowModel", "sitters", "()I"⟩, 16) := ⟨⟨by decide +kernel, by decide +kernel⟩, List.mem_of_getElem? (i := 613) (by decide +kernel), List.mem_of_getElem? (i := 704) (by decide +kernel), List.mem_of_getElem? (i := 705) (by decide +kernel)⟩
theorem lw_p24 : lw_okq (⟨"TanRowModel", "sits", "(I)Z"⟩, 16) := ⟨⟨by decide +kernel, by decide +kernel⟩, List.mem_of_getElem? (i := 613) (by decide +kernel), List.mem_of_getElem? (i := 708) (by decide +kernel), List.mem_of_getElem? (i := 709) (by decide +kernel)⟩
theorem lw_p25 : lw_okq (⟨"TanRowModel", "evenOnes", "()I"⟩, 16) := ⟨⟨by decide +kernel, by decide +kernel⟩, List.mem_of_getElem? (i := 613) (by decide +kernel), List.mem_of_getElem? (i := 712) (by decide +kernel), List.mem_of_getElem? (i := 713) (by decide +kernel)⟩
theorem lw_p26 : lw_okq (⟨"TanRowModel", "isEven", "(I)Z"⟩, 16) := ⟨⟨by decide +kernel, by decide +kernel⟩, List.mem_of_getElem? (i := 613) (by decide +kernel), List.mem_of_getElem? (i := 716) (by decide +kernel), List.mem_of_getElem? (i := 717) (by decide +kernel)⟩
theorem lw_p27 : lw_okq (⟨"TanRowModel", "allBrown", "()I"⟩, 16) := ⟨⟨by decide +kernel, by decide +kernel⟩, List.mem_of_getElem? (i := 613) (by decide +kernel), List.mem_of_getElem? (i := 720) (by decide +kernel), List.mem_of_getElem? (i := 721) (by decide +kernel)⟩
theorem lw_p28 : lw_okq (⟨"TanRowModel", "sums", "(I)I"⟩, 16) := ⟨⟨by decide +kernel, by decide +kernel⟩, List.mem_of_getElem? (i := 613) (by decide +kernel), List.mem_of_getElem? (i := 724) (by decide +kernel), List.mem_of_getElem? (i := 725) (by decide +kernel)⟩
theorem lw_p29 : lw_okq (⟨"TanRowModel", "comesAs", "(III)I"⟩, 16) := ⟨⟨by decide +kernel, by decide +kernel⟩, List.mem_of_getElem? (i := 613) (by decide +kernel), List.mem_of_getElem? (i := 733) (by decide +kernel), List.mem_of_getElem? (i := 734) (by decide +kernel)⟩
theorem lw_p30 : lw_okq (⟨"TanRowModel", "put", "(III)V"⟩, 16) := ⟨⟨by decide +kernel, by decide +kernel⟩, List.mem_of_getElem? (i := 613) (by decide +kernel), List.mem_of_getElem? (i := 737) (by decide +kernel), List.mem_of_getElem? (i := 738) (by decide +kernel)⟩
theorem lw_p31 : lw_okq (⟨"TanRowModel", "isPerson", "(I)Z"⟩, 16) := ⟨⟨by decide +kernel, by decide +kernel⟩, List.mem_of_getElem? (i := 613) (by decide +kernel), List.mem_of_getElem? (i := 745) (by decide +kernel), List.mem_of_getElem? (i := 746) (by decide +kernel)⟩
def lw_privs_2 : List (MethodName × Nat) := [(⟨"TanRow", "sheetAt", "(I)LTanRow$Sheet;"⟩, 7), (⟨"TanRow", "trialGoesAs", "(LTanRow$Sheet;I)Z"⟩, 7), (⟨"TanRowModel", "becomes", "(II)I"⟩, 16), (⟨"TanRowModel", "finds", "(I)I"⟩, 16), (⟨"TanRowModel", "onChair", "(I)I"⟩, 16), (⟨"TanRowModel", "it", "(II)I"⟩, 16), (⟨"TanRowModel", "sunNow", "()I"⟩, 16), (⟨"TanRowModel", "sitters", "()I"⟩, 16), (⟨"TanRowModel", "sits", "(I)Z"⟩, 16), (⟨"TanRowModel", "evenOnes", "()I"⟩, 16), (⟨"TanRowModel", "isEven", "(I)Z"⟩, 16), (⟨"TanRowModel", "allBrown", "()I"⟩, 16), (⟨"TanRowModel", "sums", "(I)I"⟩, 16), (⟨"TanRowModel", "comesAs", "(III)I"⟩, 16), (⟨"TanRowModel", "put", "(III)V"⟩, 16), (⟨"TanRowModel", "isPerson", "(I)Z"⟩, 16)]
theorem lw_r2 : ∀ q ∈ lw_privs_2, lw_okq q := List.forall_mem_cons.mpr ⟨lw_p16, List.forall_mem_cons.mpr ⟨lw_p17, List.forall_mem_cons.mpr ⟨lw_p18, List.forall_mem_cons.mpr ⟨lw_p19, List.forall_mem_cons.mpr ⟨lw_p20, List.forall_mem_cons.mpr ⟨lw_p21, List.forall_mem_cons.mpr ⟨lw_p22, List.forall_mem_cons.mpr ⟨lw_p23, List.forall_mem_cons.mpr ⟨lw_p24, List.forall_mem_cons.mpr ⟨lw_p25, List.forall_mem_cons.mpr ⟨lw_p26, List.forall_mem_cons.mpr ⟨lw_p27, List.forall_mem_cons.mpr ⟨lw_p28, List.forall_mem_cons.mpr ⟨lw_p29, List.forall_mem_cons.mpr ⟨lw_p30, List.forall_mem_cons.mpr ⟨lw_p31, fun _ h => absurd h List.not_mem_nil⟩⟩⟩⟩⟩⟩⟩⟩⟩⟩⟩⟩⟩⟩⟩⟩
theorem lw_p32 : lw_okq (⟨"TanRowModel", "fades", "(I)I"⟩, 16) := ⟨⟨by decide +kernel, by decide +kernel⟩, List.mem_of_getElem? (i := 613) (by decide +kernel), List.mem_of_getElem? (i := 749) (by decide +kernel), List.mem_of_getElem? (i := 750) (by decide +kernel)⟩
theorem lw_p33 : lw_okq (⟨"TanRowModel", "beside", "(II)I"⟩, 16) := ⟨⟨by decide +kernel, by decide +kernel⟩, List.mem_of_getElem? (i := 613) (by decide +kernel), List.mem_of_getElem? (i := 753) (by decide +kernel), List.mem_of_getElem? (i := 754) (by decide +kernel)⟩
theorem lw_p34 : lw_okq (⟨"TanRowModel", "burnsFrom", "(I)I"⟩, 16) := ⟨⟨by decide +kernel, by decide +kernel⟩, List.mem_of_getElem? (i := 613) (by decide +kernel), List.mem_of_getElem? (i := 757) (by decide +kernel), List.mem_of_getElem? (i := 758) (by decide +kernel)⟩
theorem lw_p35 : lw_okq (⟨"TanRowModel", "brownOf", "(I)I"⟩, 16) := ⟨⟨by decide +kernel, by decide +kernel⟩, List.mem_of_getElem? (i := 613) (by decide +kernel), List.mem_of_getElem? (i := 773) (by decide +kernel), List.mem_of_getElem? (i := 774) (by decide +kernel)⟩
theorem lw_p36 : lw_okq (⟨"TanRowModel", "isFreeFor", "(II)Z"⟩, 16) := ⟨⟨by decide +kernel, by decide +kernel⟩, List.mem_of_getElem? (i := 613) (by decide +kernel), List.mem_of_getElem? (i := 782) (by decide +kernel), List.mem_of_getElem? (i := 783) (by decide +kernel)⟩
theorem lw_p37 : lw_okq (⟨"TanRowModel", "givenTo", "(II)I"⟩, 16) := ⟨⟨by decide +kernel, by decide +kernel⟩, List.mem_of_getElem? (i := 613) (by decide +kernel), List.mem_of_getElem? (i := 791) (by decide +kernel), List.mem_of_getElem? (i := 792) (by decide +kernel)⟩
theorem lw_p38 : lw_okq (⟨"TanRowModel", "glows", "(III)I"⟩, 16) := ⟨⟨by decide +kernel, by decide +kernel⟩, List.mem_of_getElem? (i := 613) (by decide +kernel), List.mem_of_getElem? (i := 795) (by decide +kernel), List.mem_of_getElem? (i := 796) (by decide +kernel)⟩
theorem lw_p39 : lw_okq (⟨"TanRowModel", "goesFor", "(I)V"⟩, 16) := ⟨⟨by decide +kernel, by decide +kernel⟩, List.mem_of_getElem? (i := 613) (by decide +kernel), List.mem_of_getElem? (i := 804) (by decide +kernel), List.mem_of_getElem? (i := 805) (by decide +kernel)⟩
theorem lw_p40 : lw_okq (⟨"TanRowModel", "goes", "()V"⟩, 16) := ⟨⟨by decide +kernel, by decide +kernel⟩, List.mem_of_getElem? (i := 613) (by decide +kernel), List.mem_of_getElem? (i := 808) (by decide +kernel), List.mem_of_getElem? (i := 809) (by decide +kernel)⟩
theorem lw_p41 : lw_okq (⟨"TanRowModel", "browns", "(II)V"⟩, 16) := ⟨⟨by decide +kernel, by decide +kernel⟩, List.mem_of_getElem? (i := 613) (by decide +kernel), List.mem_of_getElem? (i := 812) (by decide +kernel), List.mem_of_getElem? (i := 813) (by decide +kernel)⟩
theorem lw_p42 : lw_okq (⟨"TanRowModel", "takesOf", "(II)I"⟩, 16) := ⟨⟨by decide +kernel, by decide +kernel⟩, List.mem_of_getElem? (i := 613) (by decide +kernel), List.mem_of_getElem? (i := 816) (by decide +kernel), List.mem_of_getElem? (i := 817) (by decide +kernel)⟩
theorem lw_p43 : lw_okq (⟨"TanRowModel", "thinks", "()V"⟩, 16) := ⟨⟨by decide +kernel, by decide +kernel⟩, List.mem_of_getElem? (i := 613) (by decide +kernel), List.mem_of_getElem? (i := 827) (by decide +kernel), List.mem_of_getElem? (i := 828) (by decide +kernel)⟩
theorem lw_p44 : lw_okq (⟨"TanRowModel", "putsBack", "()V"⟩, 16) := ⟨⟨by decide +kernel, by decide +kernel⟩, List.mem_of_getElem? (i := 613) (by decide +kernel), List.mem_of_getElem? (i := 834) (by decide +kernel), List.mem_of_getElem? (i := 835) (by decide +kernel)⟩
theorem lw_p45 : lw_okq (⟨"TanRowModel", "brownOn", "(II)I"⟩, 16) := ⟨⟨by decide +kernel, by decide +kernel⟩, List.mem_of_getElem? (i := 613) (by decide +kernel), List.mem_of_getElem? (i := 855) (by decide +kernel), List.mem_of_getElem? (i := 856) (by decide +kernel)⟩
theorem lw_p46 : lw_okq (⟨"TanRowModel", "orNone", "(I)I"⟩, 16) := ⟨⟨by decide +kernel, by decide +kernel⟩, List.mem_of_getElem? (i := 613) (by decide +kernel), List.mem_of_getElem? (i := 863) (by decide +kernel), List.mem_of_getElem? (i := 864) (by decide +kernel)⟩
theorem lw_p47 : lw_okq (⟨"TanRowModel", "areTwo", "(II)Z"⟩, 16) := ⟨⟨by decide +kernel, by decide +kernel⟩, List.mem_of_getElem? (i := 613) (by decide +kernel), List.mem_of_getElem? (i := 883) (by decide +kernel), List.mem_of_getElem? (i := 884) (by decide +kernel)⟩
def lw_privs_3 : List (MethodName × Nat) := [(⟨"TanRowModel", "fades", "(I)I"⟩, 16), (⟨"TanRowModel", "beside", "(II)I"⟩, 16), (⟨"TanRowModel", "burnsFrom", "(I)I"⟩, 16), (⟨"TanRowModel", "brownOf", "(I)I"⟩, 16), (⟨"TanRowModel", "isFreeFor", "(II)Z"⟩, 16), (⟨"TanRowModel", "givenTo", "(II)I"⟩, 16), (⟨"TanRowModel", "glows", "(III)I"⟩, 16), (⟨"TanRowModel", "goesFor", "(I)V"⟩, 16), (⟨"TanRowModel", "goes", "()V"⟩, 16), (⟨"TanRowModel", "browns", "(II)V"⟩, 16), (⟨"TanRowModel", "takesOf", "(II)I"⟩, 16), (⟨"TanRowModel", "thinks", "()V"⟩, 16), (⟨"TanRowModel", "putsBack", "()V"⟩, 16), (⟨"TanRowModel", "brownOn", "(II)I"⟩, 16), (⟨"TanRowModel", "orNone", "(I)I"⟩, 16), (⟨"TanRowModel", "areTwo", "(II)Z"⟩, 16)]
theorem lw_r3 : ∀ q ∈ lw_privs_3, lw_okq q := List.forall_mem_cons.mpr ⟨lw_p32, List.forall_mem_cons.mpr ⟨lw_p33, List.forall_mem_cons.mpr ⟨lw_p34, List.forall_mem_cons.mpr ⟨lw_p35, List.forall_mem_cons.mpr ⟨lw_p36, List.forall_mem_cons.mpr ⟨lw_p37, List.forall_mem_cons.mpr ⟨lw_p38, List.forall_mem_cons.mpr ⟨lw_p39, List.forall_mem_cons.mpr ⟨lw_p40, List.forall_mem_cons.mpr ⟨lw_p41, List.forall_mem_cons.mpr ⟨lw_p42, List.forall_mem_cons.mpr ⟨lw_p43, List.forall_mem_cons.mpr ⟨lw_p44, List.forall_mem_cons.mpr ⟨lw_p45, List.forall_mem_cons.mpr ⟨lw_p46, List.forall_mem_cons.mpr ⟨lw_p47, fun _ h => absurd h List.not_mem_nil⟩⟩⟩⟩⟩⟩⟩⟩⟩⟩⟩⟩⟩⟩⟩⟩
theorem lw_p48 : lw_okq (⟨"TanRowModel", "reads", "()V"⟩, 16) := ⟨⟨by decide +kernel, by decide +kernel⟩, List.mem_of_getElem? (i := 613) (by decide +kernel), List.mem_of_getElem? (i := 903) (by decide +kernel), List.mem_of_getElem? (i := 904) (by decide +kernel)⟩
theorem lw_p49 : lw_okq (⟨"TanRowModel", "isByte", "(III)Z"⟩, 16) := ⟨⟨by decide +kernel, by decide +kernel⟩, List.mem_of_getElem? (i := 613) (by decide +kernel), List.mem_of_getElem? (i := 907) (by decide +kernel), List.mem_of_getElem? (i := 908) (by decide +kernel)⟩
theorem lw_p50 : lw_okq (⟨"TanRowModel", "wordHere", "()I"⟩, 16) := ⟨⟨by decide +kernel, by decide +kernel⟩, List.mem_of_getElem? (i := 613) (by decide +kernel), List.mem_of_getElem? (i := 911) (by decide +kernel), List.mem_of_getElem? (i := 912) (by decide +kernel)⟩
theorem lw_p51 : lw_okq (⟨"TanRowModel", "isName", "(II)Z"⟩, 16) := ⟨⟨by decide +kernel, by decide +kernel⟩, List.mem_of_getElem? (i := 613) (by decide +kernel), List.mem_of_getElem? (i := 915) (by decide +kernel), List.mem_of_getElem? (i := 916) (by decide +kernel)⟩
theorem lw_p52 : lw_okq (⟨"TanRowModel", "item", "()V"⟩, 16) := ⟨⟨by decide +kernel, by decide +kernel⟩, List.mem_of_getElem? (i := 613) (by decide +kernel), List.mem_of_getElem? (i := 921) (by decide +kernel), List.mem_of_getElem? (i := 922) (by decide +kernel)⟩
theorem lw_p53 : lw_okq (⟨"TanRowModel", "personItem", "()V"⟩, 16) := ⟨⟨by decide +kernel, by decide +kernel⟩, List.mem_of_getElem? (i := 613) (by decide +kernel), List.mem_of_getElem? (i := 925) (by decide +kernel), List.mem_of_getElem? (i := 926) (by decide +kernel)⟩
theorem lw_p54 : lw_okq (⟨"TanRowModel", "perhaps", "(IIII)I"⟩, 16) := ⟨⟨by decide +kernel, by decide +kernel⟩, List.mem_of_getElem? (i := 613) (by decide +kernel), List.mem_of_getElem? (i := 929) (by decide +kernel), List.mem_of_getElem? (i := 930) (by decide +kernel)⟩
theorem lw_p55 : lw_okq (⟨"TanRowModel", "passes", "(I)Z"⟩, 16) := ⟨⟨by decide +kernel, by decide +kernel⟩, List.mem_of_getElem? (i := 613) (by decide +kernel), List.mem_of_getElem? (i := 933) (by decide +kernel), List.mem_of_getElem? (i := 934) (by decide +kernel)⟩
theorem lw_p56 : lw_okq (⟨"TanRowModel", "number", "(II)I"⟩, 16) := ⟨⟨by decide +kernel, by decide +kernel⟩, List.mem_of_getElem? (i := 613) (by decide +kernel), List.mem_of_getElem? (i := 937) (by decide +kernel), List.mem_of_getElem? (i := 938) (by decide +kernel)⟩
theorem lw_p57 : lw_okq (⟨"TanRowModel", "sunItem", "()V"⟩, 16) := ⟨⟨by decide +kernel, by decide +kernel⟩, List.mem_of_getElem? (i := 613) (by decide +kernel), List.mem_of_getElem? (i := 941) (by decide +kernel), List.mem_of_getElem? (i := 942) (by decide +kernel)⟩
theorem lw_p58 : lw_okq (⟨"TanRowModel", "notThere", "(I)I"⟩, 16) := ⟨⟨by decide +kernel, by decide +kernel⟩, List.mem_of_getElem? (i := 613) (by decide +kernel), List.mem_of_getElem? (i := 957) (by decide +kernel), List.mem_of_getElem? (i := 958) (by decide +kernel)⟩
theorem lw_p59 : lw_okq (⟨"TanRowModel", "notCopied", "(IIIII)I"⟩, 16) := ⟨⟨by decide +kernel, by decide +kernel⟩, List.mem_of_getElem? (i := 613) (by decide +kernel), List.mem_of_getElem? (i := 969) (by decide +kernel), List.mem_of_getElem? (i := 970) (by decide +kernel)⟩
theorem lw_p60 : lw_okq (⟨"TanRowModel", "isBook", "(II)Z"⟩, 16) := ⟨⟨by decide +kernel, by decide +kernel⟩, List.mem_of_getElem? (i := 613) (by decide +kernel), List.mem_of_getElem? (i := 985) (by decide +kernel), List.mem_of_getElem? (i := 986) (by decide +kernel)⟩
theorem lw_p61 : lw_okq (⟨"TanRowModel", "howManySit", "()I"⟩, 16) := ⟨⟨by decide +kernel, by decide +kernel⟩, List.mem_of_getElem? (i := 613) (by decide +kernel), List.mem_of_getElem? (i := 1005) (by decide +kernel), List.mem_of_getElem? (i := 1006) (by decide +kernel)⟩
theorem lw_p62 : lw_okq (⟨"TanRowModel", "allSun", "()I"⟩, 16) := ⟨⟨by decide +kernel, by decide +kernel⟩, List.mem_of_getElem? (i := 613) (by decide +kernel), List.mem_of_getElem? (i := 1009) (by decide +kernel), List.mem_of_getElem? (i := 1010) (by decide +kernel)⟩
def lw_privs_4 : List (MethodName × Nat) := [(⟨"TanRowModel", "reads", "()V"⟩, 16), (⟨"TanRowModel", "isByte", "(III)Z"⟩, 16), (⟨"TanRowModel", "wordHere", "()I"⟩, 16), (⟨"TanRowModel", "isName", "(II)Z"⟩, 16), (⟨"TanRowModel", "item", "()V"⟩, 16), (⟨"TanRowModel", "personItem", "()V"⟩, 16), (⟨"TanRowModel", "perhaps", "(IIII)I"⟩, 16), (⟨"TanRowModel", "passes", "(I)Z"⟩, 16), (⟨"TanRowModel", "number", "(II)I"⟩, 16), (⟨"TanRowModel", "sunItem", "()V"⟩, 16), (⟨"TanRowModel", "notThere", "(I)I"⟩, 16), (⟨"TanRowModel", "notCopied", "(IIIII)I"⟩, 16), (⟨"TanRowModel", "isBook", "(II)Z"⟩, 16), (⟨"TanRowModel", "howManySit", "()I"⟩, 16), (⟨"TanRowModel", "allSun", "()I"⟩, 16)]
theorem lw_r4 : ∀ q ∈ lw_privs_4, lw_okq q := List.forall_mem_cons.mpr ⟨lw_p48, List.forall_mem_cons.mpr ⟨lw_p49, List.forall_mem_cons.mpr ⟨lw_p50, List.forall_mem_cons.mpr ⟨lw_p51, List.forall_mem_cons.mpr ⟨lw_p52, List.forall_mem_cons.mpr ⟨lw_p53, List.forall_mem_cons.mpr ⟨lw_p54, List.forall_mem_cons.mpr ⟨lw_p55, List.forall_mem_cons.mpr ⟨lw_p56, List.forall_mem_cons.mpr ⟨lw_p57, List.forall_mem_cons.mpr ⟨lw_p58, List.forall_mem_cons.mpr ⟨lw_p59, List.forall_mem_cons.mpr ⟨lw_p60, List.forall_mem_cons.mpr ⟨lw_p61, List.forall_mem_cons.mpr ⟨lw_p62, fun _ h => absurd h List.not_mem_nil⟩⟩⟩⟩⟩⟩⟩⟩⟩⟩⟩⟩⟩⟩⟩
def lw_privs : List (MethodName × Nat) := lw_privs_1 ++ (lw_privs_2 ++ (lw_privs_3 ++ (lw_privs_4)))
def lw_tbl : List Cond := k2_sels lw_privs ++ tables_1
theorem lw_privs_ok : ∀ q ∈ lw_privs, lw_okq q := by
  show ∀ q ∈ lw_privs_1 ++ (lw_privs_2 ++ (lw_privs_3 ++ (lw_privs_4))), lw_okq q
  exact List.forall_mem_append.mpr ⟨lw_r1, List.forall_mem_append.mpr ⟨lw_r2, List.forall_mem_append.mpr ⟨lw_r3, lw_r4⟩⟩⟩
/-! ===== BEGIN printed: names, fields, word lists, decode rows ===== -/
def RX0 : String := "TanRow$Sheet"
def TX0 : u_T := fun k => match k with
  | 0 => ("TanRow$Sheet", "bits", "I", false)
  | 1 => ("TanRow$Sheet", "size", "I", false)
  | _ => ("TanRow$Sheet", "numbers", "[J", true)
def tyX0 : Nat → FieldType := fun k => match k with
  | 0 => .int
  | 1 => .int
  | _ => .array .long
abbrev wsX00 : List Cond := u_ws RX0 TX0 3
theorem nmX0 : ∀ a, a < 3 → ∀ b, b < 3 → a ≠ b → (TX0 a).2.1 ≠ (TX0 b).2.1 := by decide +kernel
theorem tyX0_ok : ∀ k, k < 3 → parseFieldDescriptor (TX0 k).2.2.1 = some (tyX0 k) := by decide +kernel
abbrev cX0_init : ByteArray := prog_2_method_1_code
def yX0_init : MethodName := ⟨RX0, "<init>", "()V"⟩
abbrev cX0_isMissing : ByteArray := prog_2_method_2_code
def yX0_isMissing : MethodName := ⟨RX0, "isMissing", "()Z"⟩
abbrev cX0_begin : ByteArray := prog_2_method_3_code
def yX0_begin : MethodName := ⟨RX0, "begin", "(II)V"⟩
abbrev cX0_has : ByteArray := prog_2_method_4_code
def yX0_has : MethodName := ⟨RX0, "has", "(II)Z"⟩
abbrev cX0_put : ByteArray := prog_2_method_5_code
def yX0_put : MethodName := ⟨RX0, "put", "(IJ)V"⟩
def RX1 : String := "TanRow$Shore"
def TX1 : u_T := fun k => match k with
  | 0 => ("TanRow$Shore", "hour", "I", false)
  | 1 => ("TanRow$Shore", "people", "I", false)
  | 2 => ("TanRow$Shore", "suns", "[I", true)
  | 3 => ("TanRow$Shore", "sitters", "[I", true)
  | 4 => ("TanRow$Shore", "kinds", "[I", true)
  | 5 => ("TanRow$Shore", "chairs", "[I", true)
  | 6 => ("TanRow$Shore", "lefts", "[I", true)
  | 7 => ("TanRow$Shore", "rights", "[I", true)
  | 8 => ("TanRow$Shore", "burnts", "[I", true)
  | 9 => ("TanRow$Shore", "fromLeft", "[I", true)
  | _ => ("TanRow$Shore", "fromRight", "[I", true)
def tyX1 : Nat → FieldType := fun k => match k with
  | 0 => .int
  | 1 => .int
  | 2 => .array .int
  | 3 => .array .int
  | 4 => .array .int
  | 5 => .array .int
  | 6 => .array .int
  | 7 => .array .int
  | 8 => .array .int
  | 9 => .array .int
  | _ => .array .int
abbrev wsX10 : List Cond := u_ws RX1 TX1 11
theorem nmX1 : ∀ a, a < 11 → ∀ b, b < 11 → a ≠ b → (TX1 a).2.1 ≠ (TX1 b).2.1 := by decide +kernel
theorem tyX1_ok : ∀ k, k < 11 → parseFieldDescriptor (TX1 k).2.2.1 = some (tyX1 k) := by decide +kernel
abbrev cX1_init : ByteArray := prog_3_method_1_code
def yX1_init : MethodName := ⟨RX1, "<init>", "()V"⟩
abbrev cX1_become : ByteArray := prog_3_method_2_code
def yX1_become : MethodName := ⟨RX1, "become", "(LTanRow$Shore;)V"⟩
abbrev cX1_place : ByteArray := prog_3_method_3_code
def yX1_place : MethodName := ⟨RX1, "place", "()I"⟩
abbrev cX1_sunNow : ByteArray := prog_3_method_4_code
def yX1_sunNow : MethodName := ⟨RX1, "sunNow", "()I"⟩
abbrev cX1_sunOfAll : ByteArray := prog_3_method_5_code
def yX1_sunOfAll : MethodName := ⟨RX1, "sunOfAll", "()I"⟩
abbrev cX1_add : ByteArray := prog_3_method_6_code
def yX1_add : MethodName := ⟨RX1, "add", "(II)I"⟩
abbrev cX1_sits : ByteArray := prog_3_method_7_code
def yX1_sits : MethodName := ⟨RX1, "sits", "(I)Z"⟩
abbrev cX1_isFreeFor : ByteArray := prog_3_method_8_code
def yX1_isFreeFor : MethodName := ⟨RX1, "isFreeFor", "(II)Z"⟩
abbrev cX1_seat : ByteArray := prog_3_method_9_code
def yX1_seat : MethodName := ⟨RX1, "seat", "(II)V"⟩
abbrev cX1_swap : ByteArray := prog_3_method_10_code
def yX1_swap : MethodName := ⟨RX1, "swap", "(II)V"⟩
abbrev cX1_neighbour : ByteArray := prog_3_method_11_code
def yX1_neighbour : MethodName := ⟨RX1, "neighbour", "(II)I"⟩
abbrev cX1_setOfSitters : ByteArray := prog_3_method_12_code
def yX1_setOfSitters : MethodName := ⟨RX1, "setOfSitters", "()I"⟩
abbrev cX1_setOfEven : ByteArray := prog_3_method_13_code
def yX1_setOfEven : MethodName := ⟨RX1, "setOfEven", "()I"⟩
abbrev cX1_isEven : ByteArray := prog_3_method_14_code
def yX1_isEven : MethodName := ⟨RX1, "isEven", "(I)Z"⟩
abbrev cX1_brownOf : ByteArray := prog_3_method_15_code
def yX1_brownOf : MethodName := ⟨RX1, "brownOf", "(I)I"⟩
abbrev cX1_brownOfAll : ByteArray := prog_3_method_16_code
def yX1_brownOfAll : MethodName := ⟨RX1, "brownOfAll", "()I"⟩
abbrev cX1_burntOfAll : ByteArray := prog_3_method_17_code
def yX1_burntOfAll : MethodName := ⟨RX1, "burntOfAll", "()I"⟩
abbrev cX1_fadesOf : ByteArray := prog_3_method_18_code
def yX1_fadesOf : MethodName := ⟨RX1, "fadesOf", "(I)I"⟩
abbrev cX1_givenLeft : ByteArray := prog_3_method_19_code
def yX1_givenLeft : MethodName := ⟨RX1, "givenLeft", "(I)I"⟩
abbrev cX1_givenRight : ByteArray := prog_3_method_20_code
def yX1_givenRight : MethodName := ⟨RX1, "givenRight", "(I)I"⟩
abbrev cX1_goOn : ByteArray := prog_3_method_21_code
def yX1_goOn : MethodName := ⟨RX1, "goOn", "(I)V"⟩
abbrev cX1_passHour : ByteArray := prog_3_method_22_code
def yX1_passHour : MethodName := ⟨RX1, "passHour", "()V"⟩
abbrev cX1_browned : ByteArray := prog_3_method_23_code
def yX1_browned : MethodName := ⟨RX1, "browned", "(IIII)I"⟩
abbrev cX1_burn : ByteArray := prog_3_method_24_code
def yX1_burn : MethodName := ⟨RX1, "burn", "(II)V"⟩
def RX2 : String := "TanRow$Text"
def TX2 : u_T := fun k => match k with
  | 0 => ("TanRow$Text", "size", "I", false)
  | 1 => ("TanRow$Text", "tape", "[I", true)
  | 2 => ("TanRow$Text", "sort", "I", false)
  | 3 => ("TanRow$Text", "start", "I", false)
  | 4 => ("TanRow$Text", "end", "I", false)
  | _ => ("TanRow$Text", "number", "I", false)
def tyX2 : Nat → FieldType := fun k => match k with
  | 0 => .int
  | 1 => .array .int
  | 2 => .int
  | 3 => .int
  | 4 => .int
  | _ => .int
abbrev wsX20 : List Cond := u_ws RX2 TX2 6
theorem nmX2 : ∀ a, a < 6 → ∀ b, b < 6 → a ≠ b → (TX2 a).2.1 ≠ (TX2 b).2.1 := by decide +kernel
theorem tyX2_ok : ∀ k, k < 6 → parseFieldDescriptor (TX2 k).2.2.1 = some (tyX2 k) := by decide +kernel
abbrev cX2_init : ByteArray := prog_4_method_1_code
def yX2_init : MethodName := ⟨RX2, "<init>", "()V"⟩
abbrev cX2_append : ByteArray := prog_4_method_2_code
def yX2_append : MethodName := ⟨RX2, "append", "(I)V"⟩
abbrev cX2_readAll : ByteArray := prog_4_method_3_code
def yX2_readAll : MethodName := ⟨RX2, "readAll", "(LTanRow$Shore;)I"⟩
abbrev cX2_readItem : ByteArray := prog_4_method_4_code
def yX2_readItem : MethodName := ⟨RX2, "readItem", "(LTanRow$Shore;)Z"⟩
abbrev cX2_readPerson : ByteArray := prog_4_method_5_code
def yX2_readPerson : MethodName := ⟨RX2, "readPerson", "(LTanRow$Shore;I)Z"⟩
abbrev cX2_readSun : ByteArray := prog_4_method_6_code
def yX2_readSun : MethodName := ⟨RX2, "readSun", "(LTanRow$Shore;)Z"⟩
abbrev cX2_readGoes : ByteArray := prog_4_method_7_code
def yX2_readGoes : MethodName := ⟨RX2, "readGoes", "(LTanRow$Shore;)Z"⟩
abbrev cX2_isNumberTo : ByteArray := prog_4_method_8_code
def yX2_isNumberTo : MethodName := ⟨RX2, "isNumberTo", "(I)Z"⟩
abbrev cX2_isWord : ByteArray := prog_4_method_9_code
def yX2_isWord : MethodName := ⟨RX2, "isWord", "(Ljava/lang/String;)Z"⟩
abbrev cX2_kindNamed : ByteArray := prog_4_method_10_code
def yX2_kindNamed : MethodName := ⟨RX2, "kindNamed", "()I"⟩
abbrev cX2_nameOf : ByteArray := prog_4_method_11_code
def yX2_nameOf : MethodName := ⟨RX2, "nameOf", "(I)Ljava/lang/String;"⟩
abbrev cX2_advance : ByteArray := prog_4_method_12_code
def yX2_advance : MethodName := ⟨RX2, "advance", "()V"⟩
abbrev cX2_passWord : ByteArray := prog_4_method_13_code
def yX2_passWord : MethodName := ⟨RX2, "passWord", "()V"⟩
abbrev cX2_passNumber : ByteArray := prog_4_method_14_code
def yX2_passNumber : MethodName := ⟨RX2, "passNumber", "()V"⟩
abbrev cX2_isLetter : ByteArray := prog_4_method_15_code
def yX2_isLetter : MethodName := ⟨RX2, "isLetter", "(I)Z"⟩
abbrev cX2_isDigit : ByteArray := prog_4_method_16_code
def yX2_isDigit : MethodName := ⟨RX2, "isDigit", "(I)Z"⟩
def RX3 : String := "TanRow$Ways"
def TX3 : u_T := fun k => match k with
  | _ => ("", "", "", false)
def tyX3 : Nat → FieldType := fun k => match k with
  | _ => .int
abbrev wsX30 : List Cond := u_ws RX3 TX3 0
theorem nmX3 : ∀ a, a < 0 → ∀ b, b < 0 → a ≠ b → (TX3 a).2.1 ≠ (TX3 b).2.1 := by decide +kernel
theorem tyX3_ok : ∀ k, k < 0 → parseFieldDescriptor (TX3 k).2.2.1 = some (tyX3 k) := by decide +kernel
abbrev cX3_isOrIsUnder : ByteArray := prog_5_method_2_code
def yX3_isOrIsUnder : MethodName := ⟨RX3, "isOrIsUnder", "(II)Z"⟩
abbrev cX3_glows : ByteArray := prog_5_method_3_code
def yX3_glows : MethodName := ⟨RX3, "glows", "(IIII)I"⟩
abbrev cX3_takes : ByteArray := prog_5_method_4_code
def yX3_takes : MethodName := ⟨RX3, "takes", "(II)I"⟩
abbrev cX3_fades : ByteArray := prog_5_method_5_code
def yX3_fades : MethodName := ⟨RX3, "fades", "(IIZ)I"⟩
abbrev cX3_burnsFrom : ByteArray := prog_5_method_6_code
def yX3_burnsFrom : MethodName := ⟨RX3, "burnsFrom", "(I)I"⟩
def RX4 : String := "TanRow"
def TX4 : u_T := fun k => match k with
  | 0 => ("TanRow", "shore", "LTanRow$Shore;", true)
  | 1 => ("TanRow", "trial", "LTanRow$Shore;", true)
  | 2 => ("TanRow", "kept", "LTanRow$Shore;", true)
  | 3 => ("TanRow", "text", "LTanRow$Text;", true)
  | 4 => ("TanRow", "sheets", "[LTanRow$Sheet;", true)
  | 5 => ("TanRow", "findings", "[I", true)
  | _ => ("TanRow", "keeps", "Z", false)
def tyX4 : Nat → FieldType := fun k => match k with
  | 0 => .object "TanRow$Shore"
  | 1 => .object "TanRow$Shore"
  | 2 => .object "TanRow$Shore"
  | 3 => .object "TanRow$Text"
  | 4 => .array (.object "TanRow$Sheet")
  | 5 => .array .int
  | _ => .boolean
abbrev wsX40 : List Cond := u_ws RX4 TX4 7
theorem nmX4 : ∀ a, a < 7 → ∀ b, b < 7 → a ≠ b → (TX4 a).2.1 ≠ (TX4 b).2.1 := by decide +kernel
theorem tyX4_ok : ∀ k, k < 7 → parseFieldDescriptor (TX4 k).2.2.1 = some (tyX4 k) := by decide +kernel
abbrev cX4_init : ByteArray := prog_1_method_1_code
def yX4_init : MethodName := ⟨RX4, "<init>", "()V"⟩
abbrev cX4_sun : ByteArray := prog_1_method_2_code
def yX4_sun : MethodName := ⟨RX4, "sun", "(II)I"⟩
abbrev cX4_chair : ByteArray := prog_1_method_3_code
def yX4_chair : MethodName := ⟨RX4, "chair", "(I)I"⟩
abbrev cX4_now : ByteArray := prog_1_method_4_code
def yX4_now : MethodName := ⟨RX4, "now", "(I)I"⟩
abbrev cX4_person : ByteArray := prog_1_method_5_code
def yX4_person : MethodName := ⟨RX4, "person", "(I)I"⟩
abbrev cX4_of : ByteArray := prog_1_method_6_code
def yX4_of : MethodName := ⟨RX4, "of", "(II)I"⟩
abbrev cX4_set : ByteArray := prog_1_method_7_code
def yX4_set : MethodName := ⟨RX4, "set", "(III)I"⟩
abbrev cX4_turn : ByteArray := prog_1_method_8_code
def yX4_turn : MethodName := ⟨RX4, "turn", "(II)I"⟩
abbrev cX4_as : ByteArray := prog_1_method_9_code
def yX4_as : MethodName := ⟨RX4, "as", "(II)I"⟩
abbrev cX4_sit : ByteArray := prog_1_method_10_code
def yX4_sit : MethodName := ⟨RX4, "sit", "(II)I"⟩
abbrev cX4_given : ByteArray := prog_1_method_11_code
def yX4_given : MethodName := ⟨RX4, "given", "(II)I"⟩
abbrev cX4_hours : ByteArray := prog_1_method_12_code
def yX4_hours : MethodName := ⟨RX4, "hours", "(I)I"⟩
abbrev cX4_on : ByteArray := prog_1_method_13_code
def yX4_on : MethodName := ⟨RX4, "on", "(III)I"⟩
abbrev cX4_brown : ByteArray := prog_1_method_14_code
def yX4_brown : MethodName := ⟨RX4, "brown", "(II)I"⟩
abbrev cX4_burns : ByteArray := prog_1_method_15_code
def yX4_burns : MethodName := ⟨RX4, "burns", "(I)I"⟩
abbrev cX4_even : ByteArray := prog_1_method_16_code
def yX4_even : MethodName := ⟨RX4, "even", "(I)I"⟩
abbrev cX4_where : ByteArray := prog_1_method_17_code
def yX4_where : MethodName := ⟨RX4, "where", "(II)I"⟩
abbrev cX4_change : ByteArray := prog_1_method_18_code
def yX4_change : MethodName := ⟨RX4, "change", "(II)I"⟩
abbrev cX4_kind : ByteArray := prog_1_method_19_code
def yX4_kind : MethodName := ⟨RX4, "kind", "(II)I"⟩
abbrev cX4_send : ByteArray := prog_1_method_20_code
def yX4_send : MethodName := ⟨RX4, "send", "(I)I"⟩
abbrev cX4_cloud : ByteArray := prog_1_method_21_code
def yX4_cloud : MethodName := ⟨RX4, "cloud", "(I)I"⟩
abbrev cX4_enough : ByteArray := prog_1_method_22_code
def yX4_enough : MethodName := ⟨RX4, "enough", "(IIII)I"⟩
abbrev cX4_brownest : ByteArray := prog_1_method_23_code
def yX4_brownest : MethodName := ⟨RX4, "brownest", "(I)I"⟩
abbrev cX4_feed : ByteArray := prog_1_method_24_code
def yX4_feed : MethodName := ⟨RX4, "feed", "(II)I"⟩
abbrev cX4_wipe : ByteArray := prog_1_method_25_code
def yX4_wipe : MethodName := ⟨RX4, "wipe", "()I"⟩
abbrev cX4_esplanade : ByteArray := prog_1_method_26_code
def yX4_esplanade : MethodName := ⟨RX4, "esplanade", "()I"⟩
abbrev cX4_sheet : ByteArray := prog_1_method_27_code
def yX4_sheet : MethodName := ⟨RX4, "sheet", "(III)I"⟩
abbrev cX4_write : ByteArray := prog_1_method_28_code
def yX4_write : MethodName := ⟨RX4, "write", "(IIJ)J"⟩
abbrev cX4_copy : ByteArray := prog_1_method_29_code
def yX4_copy : MethodName := ⟨RX4, "copy", "(IIIII)I"⟩
abbrev cX4_lays : ByteArray := prog_1_method_30_code
def yX4_lays : MethodName := ⟨RX4, "lays", "(I)I"⟩
abbrev cX4_book : ByteArray := prog_1_method_31_code
def yX4_book : MethodName := ⟨RX4, "book", "(II)I"⟩
abbrev cX4_read : ByteArray := prog_1_method_32_code
def yX4_read : MethodName := ⟨RX4, "read", "(III)I"⟩
abbrev cX4_image : ByteArray := prog_1_method_33_code
def yX4_image : MethodName := ⟨RX4, "image", "()I"⟩
abbrev cX4_undo : ByteArray := prog_1_method_34_code
def yX4_undo : MethodName := ⟨RX4, "undo", "()I"⟩
abbrev cX4_tear : ByteArray := prog_1_method_35_code
def yX4_tear : MethodName := ⟨RX4, "tear", "()I"⟩
abbrev cX4_count : ByteArray := prog_1_method_36_code
def yX4_count : MethodName := ⟨RX4, "count", "(I)I"⟩
abbrev cX4_status : ByteArray := prog_1_method_37_code
def yX4_status : MethodName := ⟨RX4, "status", "(I)I"⟩
abbrev cX4_finding : ByteArray := prog_1_method_38_code
def yX4_finding : MethodName := ⟨RX4, "finding", "(I)I"⟩
abbrev cX4_within : ByteArray := prog_1_method_39_code
def yX4_within : MethodName := ⟨RX4, "within", "(III)Z"⟩
abbrev cX4_isKind : ByteArray := prog_1_method_40_code
def yX4_isKind : MethodName := ⟨RX4, "isKind", "(I)Z"⟩
abbrev cX4_isPerson : ByteArray := prog_1_method_41_code
def yX4_isPerson : MethodName := ⟨RX4, "isPerson", "(I)Z"⟩
abbrev cX4_sheetAt : ByteArray := prog_1_method_42_code
def yX4_sheetAt : MethodName := ⟨RX4, "sheetAt", "(I)LTanRow$Sheet;"⟩
abbrev cX4_startTrial : ByteArray := prog_1_method_43_code
def yX4_startTrial : MethodName := ⟨RX4, "startTrial", "()V"⟩
abbrev cX4_brownWith : ByteArray := prog_1_method_44_code
def yX4_brownWith : MethodName := ⟨RX4, "brownWith", "(IIII)I"⟩
abbrev cX4_trialGoesAs : ByteArray := prog_1_method_45_code
def yX4_trialGoesAs : MethodName := ⟨RX4, "trialGoesAs", "(LTanRow$Sheet;I)Z"⟩
def RX5 : String := "TanRowModel"
def TX5 : u_T := fun k => match k with
  | 0 => ("TanRowModel", "m", "[I", true)
  | 1 => ("TanRowModel", "kept", "[I", true)
  | 2 => ("TanRowModel", "was", "[I", true)
  | 3 => ("TanRowModel", "isKept", "Z", false)
  | 4 => ("TanRowModel", "found", "[I", true)
  | 5 => ("TanRowModel", "gifts", "[I", true)
  | 6 => ("TanRowModel", "tape", "[I", true)
  | 7 => ("TanRowModel", "taped", "I", false)
  | 8 => ("TanRowModel", "token", "I", false)
  | 9 => ("TanRowModel", "begin", "I", false)
  | 10 => ("TanRowModel", "at", "I", false)
  | 11 => ("TanRowModel", "value", "I", false)
  | 12 => ("TanRowModel", "bad", "Z", false)
  | 13 => ("TanRowModel", "bitsOf", "[I", true)
  | 14 => ("TanRowModel", "sizeOf", "[I", true)
  | _ => ("TanRowModel", "cells", "[J", true)
def tyX5 : Nat → FieldType := fun k => match k with
  | 0 => .array .int
  | 1 => .array .int
  | 2 => .array .int
  | 3 => .boolean
  | 4 => .array .int
  | 5 => .array .int
  | 6 => .array .int
  | 7 => .int
  | 8 => .int
  | 9 => .int
  | 10 => .int
  | 11 => .int
  | 12 => .boolean
  | 13 => .array .int
  | 14 => .array .int
  | _ => .array .long
abbrev wsX50 : List Cond := u_ws RX5 TX5 16
theorem nmX5 : ∀ a, a < 16 → ∀ b, b < 16 → a ≠ b → (TX5 a).2.1 ≠ (TX5 b).2.1 := by decide +kernel
theorem tyX5_ok : ∀ k, k < 16 → parseFieldDescriptor (TX5 k).2.2.1 = some (tyX5 k) := by decide +kernel
abbrev cX5_init : ByteArray := prog_7_method_1_code
def yX5_init : MethodName := ⟨RX5, "<init>", "()V"⟩
abbrev cX5_finds : ByteArray := prog_7_method_2_code
def yX5_finds : MethodName := ⟨RX5, "finds", "(I)I"⟩
abbrev cX5_orNone : ByteArray := prog_7_method_3_code
def yX5_orNone : MethodName := ⟨RX5, "orNone", "(I)I"⟩
abbrev cX5_in : ByteArray := prog_7_method_4_code
def yX5_in : MethodName := ⟨RX5, "in", "(JII)Z"⟩
abbrev cX5_held : ByteArray := prog_7_method_5_code
def yX5_held : MethodName := ⟨RX5, "held", "(III)I"⟩
abbrev cX5_copyAll : ByteArray := prog_7_method_6_code
def yX5_copyAll : MethodName := ⟨RX5, "copyAll", "([I[I)V"⟩
abbrev cX5_becomes : ByteArray := prog_7_method_7_code
def yX5_becomes : MethodName := ⟨RX5, "becomes", "(II)I"⟩
abbrev cX5_isPerson : ByteArray := prog_7_method_8_code
def yX5_isPerson : MethodName := ⟨RX5, "isPerson", "(I)Z"⟩
abbrev cX5_areTwo : ByteArray := prog_7_method_9_code
def yX5_areTwo : MethodName := ⟨RX5, "areTwo", "(II)Z"⟩
abbrev cX5_it : ByteArray := prog_7_method_10_code
def yX5_it : MethodName := ⟨RX5, "it", "(II)I"⟩
abbrev cX5_put : ByteArray := prog_7_method_11_code
def yX5_put : MethodName := ⟨RX5, "put", "(III)V"⟩
abbrev cX5_sunNow : ByteArray := prog_7_method_12_code
def yX5_sunNow : MethodName := ⟨RX5, "sunNow", "()I"⟩
abbrev cX5_onChair : ByteArray := prog_7_method_13_code
def yX5_onChair : MethodName := ⟨RX5, "onChair", "(I)I"⟩
abbrev cX5_sits : ByteArray := prog_7_method_14_code
def yX5_sits : MethodName := ⟨RX5, "sits", "(I)Z"⟩
abbrev cX5_beside : ByteArray := prog_7_method_15_code
def yX5_beside : MethodName := ⟨RX5, "beside", "(II)I"⟩
abbrev cX5_glows : ByteArray := prog_7_method_16_code
def yX5_glows : MethodName := ⟨RX5, "glows", "(III)I"⟩
abbrev cX5_takesOf : ByteArray := prog_7_method_17_code
def yX5_takesOf : MethodName := ⟨RX5, "takesOf", "(II)I"⟩
abbrev cX5_fades : ByteArray := prog_7_method_18_code
def yX5_fades : MethodName := ⟨RX5, "fades", "(I)I"⟩
abbrev cX5_burnsFrom : ByteArray := prog_7_method_19_code
def yX5_burnsFrom : MethodName := ⟨RX5, "burnsFrom", "(I)I"⟩
abbrev cX5_brownOf : ByteArray := prog_7_method_20_code
def yX5_brownOf : MethodName := ⟨RX5, "brownOf", "(I)I"⟩
abbrev cX5_isEven : ByteArray := prog_7_method_21_code
def yX5_isEven : MethodName := ⟨RX5, "isEven", "(I)Z"⟩
abbrev cX5_givenTo : ByteArray := prog_7_method_22_code
def yX5_givenTo : MethodName := ⟨RX5, "givenTo", "(II)I"⟩
abbrev cX5_sun : ByteArray := prog_7_method_23_code
def yX5_sun : MethodName := ⟨RX5, "sun", "(II)I"⟩
abbrev cX5_chair : ByteArray := prog_7_method_24_code
def yX5_chair : MethodName := ⟨RX5, "chair", "(I)I"⟩
abbrev cX5_sums : ByteArray := prog_7_method_25_code
def yX5_sums : MethodName := ⟨RX5, "sums", "(I)I"⟩
abbrev cX5_allBrown : ByteArray := prog_7_method_26_code
def yX5_allBrown : MethodName := ⟨RX5, "allBrown", "()I"⟩
abbrev cX5_sitters : ByteArray := prog_7_method_27_code
def yX5_sitters : MethodName := ⟨RX5, "sitters", "()I"⟩
abbrev cX5_evenOnes : ByteArray := prog_7_method_28_code
def yX5_evenOnes : MethodName := ⟨RX5, "evenOnes", "()I"⟩
abbrev cX5_now : ByteArray := prog_7_method_29_code
def yX5_now : MethodName := ⟨RX5, "now", "(I)I"⟩
abbrev cX5_comesAs : ByteArray := prog_7_method_30_code
def yX5_comesAs : MethodName := ⟨RX5, "comesAs", "(III)I"⟩
abbrev cX5_person : ByteArray := prog_7_method_31_code
def yX5_person : MethodName := ⟨RX5, "person", "(I)I"⟩
abbrev cX5_of : ByteArray := prog_7_method_32_code
def yX5_of : MethodName := ⟨RX5, "of", "(II)I"⟩
abbrev cX5_set : ByteArray := prog_7_method_33_code
def yX5_set : MethodName := ⟨RX5, "set", "(III)I"⟩
abbrev cX5_turn : ByteArray := prog_7_method_34_code
def yX5_turn : MethodName := ⟨RX5, "turn", "(II)I"⟩
abbrev cX5_as : ByteArray := prog_7_method_35_code
def yX5_as : MethodName := ⟨RX5, "as", "(II)I"⟩
abbrev cX5_isFreeFor : ByteArray := prog_7_method_36_code
def yX5_isFreeFor : MethodName := ⟨RX5, "isFreeFor", "(II)Z"⟩
abbrev cX5_sit : ByteArray := prog_7_method_37_code
def yX5_sit : MethodName := ⟨RX5, "sit", "(II)I"⟩
abbrev cX5_given : ByteArray := prog_7_method_38_code
def yX5_given : MethodName := ⟨RX5, "given", "(II)I"⟩
abbrev cX5_browns : ByteArray := prog_7_method_39_code
def yX5_browns : MethodName := ⟨RX5, "browns", "(II)V"⟩
abbrev cX5_goes : ByteArray := prog_7_method_40_code
def yX5_goes : MethodName := ⟨RX5, "goes", "()V"⟩
abbrev cX5_goesFor : ByteArray := prog_7_method_41_code
def yX5_goesFor : MethodName := ⟨RX5, "goesFor", "(I)V"⟩
abbrev cX5_hours : ByteArray := prog_7_method_42_code
def yX5_hours : MethodName := ⟨RX5, "hours", "(I)I"⟩
abbrev cX5_thinks : ByteArray := prog_7_method_43_code
def yX5_thinks : MethodName := ⟨RX5, "thinks", "()V"⟩
abbrev cX5_putsBack : ByteArray := prog_7_method_44_code
def yX5_putsBack : MethodName := ⟨RX5, "putsBack", "()V"⟩
abbrev cX5_on : ByteArray := prog_7_method_45_code
def yX5_on : MethodName := ⟨RX5, "on", "(III)I"⟩
abbrev cX5_brown : ByteArray := prog_7_method_46_code
def yX5_brown : MethodName := ⟨RX5, "brown", "(II)I"⟩
abbrev cX5_burns : ByteArray := prog_7_method_47_code
def yX5_burns : MethodName := ⟨RX5, "burns", "(I)I"⟩
abbrev cX5_even : ByteArray := prog_7_method_48_code
def yX5_even : MethodName := ⟨RX5, "even", "(I)I"⟩
abbrev cX5_brownOn : ByteArray := prog_7_method_49_code
def yX5_brownOn : MethodName := ⟨RX5, "brownOn", "(II)I"⟩
abbrev cX5_where : ByteArray := prog_7_method_50_code
def yX5_where : MethodName := ⟨RX5, "where", "(II)I"⟩
abbrev cX5_change : ByteArray := prog_7_method_51_code
def yX5_change : MethodName := ⟨RX5, "change", "(II)I"⟩
abbrev cX5_kind : ByteArray := prog_7_method_52_code
def yX5_kind : MethodName := ⟨RX5, "kind", "(II)I"⟩
abbrev cX5_send : ByteArray := prog_7_method_53_code
def yX5_send : MethodName := ⟨RX5, "send", "(I)I"⟩
abbrev cX5_cloud : ByteArray := prog_7_method_54_code
def yX5_cloud : MethodName := ⟨RX5, "cloud", "(I)I"⟩
abbrev cX5_enough : ByteArray := prog_7_method_55_code
def yX5_enough : MethodName := ⟨RX5, "enough", "(IIII)I"⟩
abbrev cX5_brownest : ByteArray := prog_7_method_56_code
def yX5_brownest : MethodName := ⟨RX5, "brownest", "(I)I"⟩
abbrev cX5_feed : ByteArray := prog_7_method_57_code
def yX5_feed : MethodName := ⟨RX5, "feed", "(II)I"⟩
abbrev cX5_wipe : ByteArray := prog_7_method_58_code
def yX5_wipe : MethodName := ⟨RX5, "wipe", "()I"⟩
abbrev cX5_isByte : ByteArray := prog_7_method_59_code
def yX5_isByte : MethodName := ⟨RX5, "isByte", "(III)Z"⟩
abbrev cX5_isName : ByteArray := prog_7_method_60_code
def yX5_isName : MethodName := ⟨RX5, "isName", "(II)Z"⟩
abbrev cX5_wordHere : ByteArray := prog_7_method_61_code
def yX5_wordHere : MethodName := ⟨RX5, "wordHere", "()I"⟩
abbrev cX5_reads : ByteArray := prog_7_method_62_code
def yX5_reads : MethodName := ⟨RX5, "reads", "()V"⟩
abbrev cX5_passes : ByteArray := prog_7_method_63_code
def yX5_passes : MethodName := ⟨RX5, "passes", "(I)Z"⟩
abbrev cX5_number : ByteArray := prog_7_method_64_code
def yX5_number : MethodName := ⟨RX5, "number", "(II)I"⟩
abbrev cX5_perhaps : ByteArray := prog_7_method_65_code
def yX5_perhaps : MethodName := ⟨RX5, "perhaps", "(IIII)I"⟩
abbrev cX5_personItem : ByteArray := prog_7_method_66_code
def yX5_personItem : MethodName := ⟨RX5, "personItem", "()V"⟩
abbrev cX5_sunItem : ByteArray := prog_7_method_67_code
def yX5_sunItem : MethodName := ⟨RX5, "sunItem", "()V"⟩
abbrev cX5_item : ByteArray := prog_7_method_68_code
def yX5_item : MethodName := ⟨RX5, "item", "()V"⟩
abbrev cX5_esplanade : ByteArray := prog_7_method_69_code
def yX5_esplanade : MethodName := ⟨RX5, "esplanade", "()I"⟩
abbrev cX5_isSheet : ByteArray := prog_7_method_70_code
def yX5_isSheet : MethodName := ⟨RX5, "isSheet", "(I)Z"⟩
abbrev cX5_sheet : ByteArray := prog_7_method_71_code
def yX5_sheet : MethodName := ⟨RX5, "sheet", "(III)I"⟩
abbrev cX5_notThere : ByteArray := prog_7_method_72_code
def yX5_notThere : MethodName := ⟨RX5, "notThere", "(I)I"⟩
abbrev cX5_cutTo : ByteArray := prog_7_method_73_code
def yX5_cutTo : MethodName := ⟨RX5, "cutTo", "(IJ)J"⟩
abbrev cX5_write : ByteArray := prog_7_method_74_code
def yX5_write : MethodName := ⟨RX5, "write", "(IIJ)J"⟩
abbrev cX5_notCopied : ByteArray := prog_7_method_75_code
def yX5_notCopied : MethodName := ⟨RX5, "notCopied", "(IIIII)I"⟩
abbrev cX5_copy : ByteArray := prog_7_method_76_code
def yX5_copy : MethodName := ⟨RX5, "copy", "(IIIII)I"⟩
abbrev cX5_lays : ByteArray := prog_7_method_77_code
def yX5_lays : MethodName := ⟨RX5, "lays", "(I)I"⟩
abbrev cX5_book : ByteArray := prog_7_method_78_code
def yX5_book : MethodName := ⟨RX5, "book", "(II)I"⟩
abbrev cX5_isBook : ByteArray := prog_7_method_79_code
def yX5_isBook : MethodName := ⟨RX5, "isBook", "(II)Z"⟩
abbrev cX5_read : ByteArray := prog_7_method_80_code
def yX5_read : MethodName := ⟨RX5, "read", "(III)I"⟩
abbrev cX5_image : ByteArray := prog_7_method_81_code
def yX5_image : MethodName := ⟨RX5, "image", "()I"⟩
abbrev cX5_undo : ByteArray := prog_7_method_82_code
def yX5_undo : MethodName := ⟨RX5, "undo", "()I"⟩
abbrev cX5_tear : ByteArray := prog_7_method_83_code
def yX5_tear : MethodName := ⟨RX5, "tear", "()I"⟩
abbrev cX5_allSun : ByteArray := prog_7_method_84_code
def yX5_allSun : MethodName := ⟨RX5, "allSun", "()I"⟩
abbrev cX5_howManySit : ByteArray := prog_7_method_85_code
def yX5_howManySit : MethodName := ⟨RX5, "howManySit", "()I"⟩
abbrev cX5_count : ByteArray := prog_7_method_86_code
def yX5_count : MethodName := ⟨RX5, "count", "(I)I"⟩
abbrev cX5_status : ByteArray := prog_7_method_87_code
def yX5_status : MethodName := ⟨RX5, "status", "(I)I"⟩
def RJ6 : String := "java/lang/Integer"
abbrev cJ6_bitCount_0f7a4 : ByteArray := prog_8_method_49_code
def yJ6_bitCount_0f7a4 : MethodName := ⟨RJ6, "bitCount", "(I)I"⟩
def RJ9 : String := "java/lang/Math"
abbrev cJ9_abs_0f7a4 : ByteArray := prog_9_method_59_code
def yJ9_abs_0f7a4 : MethodName := ⟨RJ9, "abs", "(I)I"⟩
abbrev cJ9_max_7cf53 : ByteArray := prog_9_method_65_code
def yJ9_max_7cf53 : MethodName := ⟨RJ9, "max", "(II)I"⟩
abbrev cJ9_min_7cf53 : ByteArray := prog_9_method_69_code
def yJ9_min_7cf53 : MethodName := ⟨RJ9, "min", "(II)I"⟩
def RJ0 : String := "java/lang/String"
abbrev cJ0_length_8abf5 : ByteArray := prog_10_method_54_code
def yJ0_length_8abf5 : MethodName := ⟨RJ0, "length", "()I"⟩
abbrev cJ0_charAt_5068e : ByteArray := prog_10_method_56_code
def yJ0_charAt_5068e : MethodName := ⟨RJ0, "charAt", "(I)C"⟩
abbrev cJ0_coder_7d493 : ByteArray := prog_10_method_152_code
def yJ0_coder_7d493 : MethodName := ⟨RJ0, "coder", "()B"⟩
abbrev cJ0_isLatin1_aae02 : ByteArray := prog_10_method_154_code
def yJ0_isLatin1_aae02 : MethodName := ⟨RJ0, "isLatin1", "()Z"⟩
abbrev cJ0_checkIndex_df160 : ByteArray := prog_10_method_155_code
def yJ0_checkIndex_df160 : MethodName := ⟨RJ0, "checkIndex", "(II)V"⟩
def RJ1 : String := "java/lang/StringLatin1"
abbrev cJ1_charAt_3b067 : ByteArray := prog_11_method_2_code
def yJ1_charAt_3b067 : MethodName := ⟨RJ1, "charAt", "([BI)C"⟩
def RJ2 : String := "java/lang/StringUTF16"
abbrev cJ2_getChar_3b067 : ByteArray := prog_12_method_5_code
def yJ2_getChar_3b067 : MethodName := ⟨RJ2, "getChar", "([BI)C"⟩
abbrev cJ2_length_9d52b : ByteArray := prog_12_method_6_code
def yJ2_length_9d52b : MethodName := ⟨RJ2, "length", "([B)I"⟩
abbrev cJ2_charAt_3b067 : ByteArray := prog_12_method_83_code
def yJ2_charAt_3b067 : MethodName := ⟨RJ2, "charAt", "([BI)C"⟩
abbrev cJ2_checkIndex_2214a : ByteArray := prog_12_method_91_code
def yJ2_checkIndex_2214a : MethodName := ⟨RJ2, "checkIndex", "(I[B)V"⟩
def RJ10 : String := "java/lang/System"
def RJ7 : String := "java/util/Arrays"
abbrev cJ7_fill_d0a16 : ByteArray := prog_14_method_101_code
def yJ7_fill_d0a16 : MethodName := ⟨RJ7, "fill", "([JJ)V"⟩
abbrev cJ7_fill_53178 : ByteArray := prog_14_method_103_code
def yJ7_fill_53178 : MethodName := ⟨RJ7, "fill", "([II)V"⟩
def RJ3 : String := "jdk/internal/util/Preconditions"
abbrev cJ3_checkIndex_8e157 : ByteArray := prog_15_method_11_code
def yJ3_checkIndex_8e157 : MethodName := ⟨RJ3, "checkIndex", "(IILjava/util/function/BiFunction;)I"⟩
def RL : String := "TanRowLaw"
abbrev cL_law : ByteArray := code
def yL_law : MethodName := ⟨RL, "law", "([I)Z"⟩
def tb : List Cond := lw_tbl.filter goodWord
theorem tbm_0 {w : Cond} (h : w ∈ k2_sels lw_privs) (g : goodWord w = true) : w ∈ tb := List.mem_filter.mpr ⟨List.mem_append_left _ h, g⟩
theorem tbm_1 {w : Cond} (h : w ∈ tables_1_1) (g : goodWord w = true) : w ∈ tb := List.mem_filter.mpr ⟨List.mem_append_right _ (List.mem_append_left _ h), g⟩
theorem tbm_2 {w : Cond} (h : w ∈ tables_1_2) (g : goodWord w = true) : w ∈ tb := List.mem_filter.mpr ⟨List.mem_append_right _ (List.mem_append_right _ (List.mem_append_left _ h)), g⟩
theorem tbm_3 {w : Cond} (h : w ∈ tables_1_3) (g : goodWord w = true) : w ∈ tb := List.mem_filter.mpr ⟨List.mem_append_right _ (List.mem_append_right _ (List.mem_append_right _ (List.mem_append_left _ h))), g⟩
theorem tbm_4 {w : Cond} (h : w ∈ tables_1_4) (g : goodWord w = true) : w ∈ tb := List.mem_filter.mpr ⟨List.mem_append_right _ (List.mem_append_right _ (List.mem_append_right _ (List.mem_append_right _ (List.mem_append_left _ h)))), g⟩
theorem tbm_5 {w : Cond} (h : w ∈ tables_1_5) (g : goodWord w = true) : w ∈ tb := List.mem_filter.mpr ⟨List.mem_append_right _ (List.mem_append_right _ (List.mem_append_right _ (List.mem_append_right _ (List.mem_append_right _ h)))), g⟩
theorem tb_good {w : Cond} (h : w ∈ tb) : (w.onTables && w.keeps) = true ∨ ∃ ty, w = .arrayClass ty := good_of_word (List.mem_filter.mp h).2
theorem tb_in {c c' : Cond} (h : c' ∈ tb) : GoodIn (c :: tb) (c' :: tb) := fun w hw => (List.mem_cons.mp hw).elim (fun e => by subst e; exact ⟨List.mem_cons_of_mem _ h, tb_good h⟩) (fun h => ⟨List.mem_cons_of_mem _ h, tb_good h⟩)
theorem in_L : Cond.initialized RL ∈ tb := tbm_1 (List.mem_of_getElem? (i := 0) (by decide +kernel)) rfl
theorem in_X4 : Cond.initialized RX4 ∈ tb := tbm_1 (List.mem_of_getElem? (i := 1) (by decide +kernel)) rfl
theorem in_X1 : Cond.initialized RX1 ∈ tb := tbm_1 (List.mem_of_getElem? (i := 2) (by decide +kernel)) rfl
theorem in_J7 : Cond.initialized RJ7 ∈ tb := tbm_1 (List.mem_of_getElem? (i := 3) (by decide +kernel)) rfl
theorem in_X2 : Cond.initialized RX2 ∈ tb := tbm_1 (List.mem_of_getElem? (i := 4) (by decide +kernel)) rfl
theorem in_X0 : Cond.initialized RX0 ∈ tb := tbm_1 (List.mem_of_getElem? (i := 5) (by decide +kernel)) rfl
theorem in_X5 : Cond.initialized RX5 ∈ tb := tbm_1 (List.mem_of_getElem? (i := 6) (by decide +kernel)) rfl
theorem in_J9 : Cond.initialized RJ9 ∈ tb := tbm_1 (List.mem_of_getElem? (i := 7) (by decide +kernel)) rfl
theorem in_X3 : Cond.initialized RX3 ∈ tb := tbm_1 (List.mem_of_getElem? (i := 8) (by decide +kernel)) rfl
theorem in_J10 : Cond.initialized RJ10 ∈ tb := tbm_1 (List.mem_of_getElem? (i := 9) (by decide +kernel)) rfl
theorem in_J0 : Cond.initialized RJ0 ∈ tb := tbm_1 (List.mem_of_getElem? (i := 10) (by decide +kernel)) rfl
theorem in_J1 : Cond.initialized RJ1 ∈ tb := tbm_1 (List.mem_of_getElem? (i := 11) (by decide +kernel)) rfl
theorem in_J3 : Cond.initialized RJ3 ∈ tb := tbm_1 (List.mem_of_getElem? (i := 12) (by decide +kernel)) rfl
theorem in_J2 : Cond.initialized RJ2 ∈ tb := tbm_1 (List.mem_of_getElem? (i := 13) (by decide +kernel)) rfl
theorem in_J6 : Cond.initialized RJ6 ∈ tb := tbm_1 (List.mem_of_getElem? (i := 14) (by decide +kernel)) rfl
theorem cl_L_7 : Cond.classLink RL 7 RX4 ∈ tb := tbm_1 (List.mem_of_getElem? (i := 15) (by decide +kernel)) rfl
theorem it_X4 : Cond.instantiable RX4 7 ∈ tb := tbm_1 (List.mem_of_getElem? (i := 16) (by decide +kernel)) rfl
theorem ml_L_9 : Cond.methodLink RL 9 yX4_init ∈ tb := tbm_1 (List.mem_of_getElem? (i := 17) (by decide +kernel)) rfl
theorem im_X4_init : Cond.instanceMethod yX4_init ∈ tb := tbm_1 (List.mem_of_getElem? (i := 18) (by decide +kernel)) rfl
theorem co_X4_init : Cond.code yX4_init cX4_init 2 none ∈ tb := tbm_1 (List.mem_of_getElem? (i := 19) (by decide +kernel)) rfl
theorem ml_X4_1 : Cond.methodLink RX4 1 objectInit ∈ tb := tbm_1 (List.mem_of_getElem? (i := 20) (by decide +kernel)) rfl
theorem im_O_init : Cond.instanceMethod objectInit ∈ tb := tbm_1 (List.mem_of_getElem? (i := 21) (by decide +kernel)) rfl
theorem co_O_init : Cond.code objectInit ⟨#[0xb1]⟩ 1 none ∈ tb := tbm_1 (List.mem_of_getElem? (i := 22) (by decide +kernel)) rfl
theorem cl_X4_7 : Cond.classLink RX4 7 RX1 ∈ tb := tbm_1 (List.mem_of_getElem? (i := 23) (by decide +kernel)) rfl
theorem it_X1 : Cond.instantiable RX1 11 ∈ tb := tbm_1 (List.mem_of_getElem? (i := 24) (by decide +kernel)) rfl
theorem ml_X4_9 : Cond.methodLink RX4 9 yX1_init ∈ tb := tbm_1 (List.mem_of_getElem? (i := 25) (by decide +kernel)) rfl
theorem im_X1_init : Cond.instanceMethod yX1_init ∈ tb := tbm_1 (List.mem_of_getElem? (i := 26) (by decide +kernel)) rfl
theorem co_X1_init : Cond.code yX1_init cX1_init 2 none ∈ tb := tbm_1 (List.mem_of_getElem? (i := 27) (by decide +kernel)) rfl
theorem ml_X1_3 : Cond.methodLink RX1 3 objectInit ∈ tb := tbm_1 (List.mem_of_getElem? (i := 28) (by decide +kernel)) rfl
theorem ml_X1_46 : Cond.methodLink RX1 46 yJ7_fill_53178 ∈ tb := tbm_1 (List.mem_of_getElem? (i := 29) (by decide +kernel)) rfl
theorem st_J7_fill_53178 : Cond.static yJ7_fill_53178 ∈ tb := tbm_1 (List.mem_of_getElem? (i := 30) (by decide +kernel)) rfl
theorem co_J7_fill_53178 : Cond.code yJ7_fill_53178 cJ7_fill_53178 4 none ∈ tb := tbm_1 (List.mem_of_getElem? (i := 31) (by decide +kernel)) rfl
theorem fl_X1_9 : Cond.fieldLink RX1 9 "TanRow$Shore" "hour" "I" ∈ tb := tbm_1 (List.mem_of_getElem? (i := 32) (by decide +kernel)) rfl
theorem fl_X4_59 : Cond.fieldLink RX4 59 "TanRow$Shore" "hour" "I" ∈ tb := tbm_1 (List.mem_of_getElem? (i := 33) (by decide +kernel)) rfl
theorem fl_X1_15 : Cond.fieldLink RX1 15 "TanRow$Shore" "people" "I" ∈ tb := tbm_1 (List.mem_of_getElem? (i := 34) (by decide +kernel)) rfl
theorem fl_X2_56 : Cond.fieldLink RX2 56 "TanRow$Shore" "people" "I" ∈ tb := tbm_1 (List.mem_of_getElem? (i := 35) (by decide +kernel)) rfl
theorem fl_X4_86 : Cond.fieldLink RX4 86 "TanRow$Shore" "people" "I" ∈ tb := tbm_1 (List.mem_of_getElem? (i := 36) (by decide +kernel)) rfl
theorem fl_X1_18 : Cond.fieldLink RX1 18 "TanRow$Shore" "suns" "[I" ∈ tb := tbm_1 (List.mem_of_getElem? (i := 37) (by decide +kernel)) rfl
theorem fl_X4_53 : Cond.fieldLink RX4 53 "TanRow$Shore" "suns" "[I" ∈ tb := tbm_1 (List.mem_of_getElem? (i := 38) (by decide +kernel)) rfl
theorem fl_X2_85 : Cond.fieldLink RX2 85 "TanRow$Shore" "suns" "[I" ∈ tb := tbm_1 (List.mem_of_getElem? (i := 39) (by decide +kernel)) rfl
theorem fl_X1_22 : Cond.fieldLink RX1 22 "TanRow$Shore" "sitters" "[I" ∈ tb := tbm_1 (List.mem_of_getElem? (i := 40) (by decide +kernel)) rfl
theorem fl_X4_56 : Cond.fieldLink RX4 56 "TanRow$Shore" "sitters" "[I" ∈ tb := tbm_1 (List.mem_of_getElem? (i := 41) (by decide +kernel)) rfl
theorem fl_X1_25 : Cond.fieldLink RX1 25 "TanRow$Shore" "kinds" "[I" ∈ tb := tbm_1 (List.mem_of_getElem? (i := 42) (by decide +kernel)) rfl
theorem fl_X4_97 : Cond.fieldLink RX4 97 "TanRow$Shore" "kinds" "[I" ∈ tb := tbm_1 (List.mem_of_getElem? (i := 43) (by decide +kernel)) rfl
theorem fl_X1_28 : Cond.fieldLink RX1 28 "TanRow$Shore" "chairs" "[I" ∈ tb := tbm_1 (List.mem_of_getElem? (i := 44) (by decide +kernel)) rfl
theorem fl_X4_100 : Cond.fieldLink RX4 100 "TanRow$Shore" "chairs" "[I" ∈ tb := tbm_1 (List.mem_of_getElem? (i := 45) (by decide +kernel)) rfl
theorem fl_X1_31 : Cond.fieldLink RX1 31 "TanRow$Shore" "lefts" "[I" ∈ tb := tbm_1 (List.mem_of_getElem? (i := 46) (by decide +kernel)) rfl
theorem fl_X4_103 : Cond.fieldLink RX4 103 "TanRow$Shore" "lefts" "[I" ∈ tb := tbm_1 (List.mem_of_getElem? (i := 47) (by decide +kernel)) rfl
theorem fl_X1_34 : Cond.fieldLink RX1 34 "TanRow$Shore" "rights" "[I" ∈ tb := tbm_1 (List.mem_of_getElem? (i := 48) (by decide +kernel)) rfl
theorem fl_X4_106 : Cond.fieldLink RX4 106 "TanRow$Shore" "rights" "[I" ∈ tb := tbm_1 (List.mem_of_getElem? (i := 49) (by decide +kernel)) rfl
theorem fl_X1_37 : Cond.fieldLink RX1 37 "TanRow$Shore" "burnts" "[I" ∈ tb := tbm_1 (List.mem_of_getElem? (i := 50) (by decide +kernel)) rfl
theorem fl_X4_109 : Cond.fieldLink RX4 109 "TanRow$Shore" "burnts" "[I" ∈ tb := tbm_1 (List.mem_of_getElem? (i := 51) (by decide +kernel)) rfl
theorem fl_X1_40 : Cond.fieldLink RX1 40 "TanRow$Shore" "fromLeft" "[I" ∈ tb := tbm_1 (List.mem_of_getElem? (i := 52) (by decide +kernel)) rfl
theorem fl_X1_43 : Cond.fieldLink RX1 43 "TanRow$Shore" "fromRight" "[I" ∈ tb := tbm_1 (List.mem_of_getElem? (i := 53) (by decide +kernel)) rfl
theorem ac_77 : Cond.arrayClass FieldType.int ∈ tb := tbm_1 (List.mem_of_getElem? (i := 77) (by decide +kernel)) rfl
theorem cl_X4_22 : Cond.classLink RX4 22 RX2 ∈ tb := tbm_1 (List.mem_of_getElem? (i := 78) (by decide +kernel)) rfl
theorem it_X2 : Cond.instantiable RX2 6 ∈ tb := tbm_1 (List.mem_of_getElem? (i := 79) (by decide +kernel)) rfl
theorem im_X2_init : Cond.instanceMethod yX2_init ∈ tb := tbm_1 (List.mem_of_getElem? (i := 81) (by decide +kernel)) rfl
theorem co_X2_init : Cond.code yX2_init cX2_init 1 none ∈ tb := tbm_1 (List.mem_of_getElem? (i := 82) (by decide +kernel)) rfl
theorem ml_X2_3 : Cond.methodLink RX2 3 objectInit ∈ tb := tbm_1 (List.mem_of_getElem? (i := 83) (by decide +kernel)) rfl
theorem fl_X2_9 : Cond.fieldLink RX2 9 "TanRow$Text" "size" "I" ∈ tb := tbm_1 (List.mem_of_getElem? (i := 84) (by decide +kernel)) rfl
theorem fl_X4_170 : Cond.fieldLink RX4 170 "TanRow$Text" "size" "I" ∈ tb := tbm_1 (List.mem_of_getElem? (i := 85) (by decide +kernel)) rfl
theorem fl_X2_15 : Cond.fieldLink RX2 15 "TanRow$Text" "tape" "[I" ∈ tb := tbm_1 (List.mem_of_getElem? (i := 86) (by decide +kernel)) rfl
theorem fl_X2_19 : Cond.fieldLink RX2 19 "TanRow$Text" "sort" "I" ∈ tb := tbm_1 (List.mem_of_getElem? (i := 87) (by decide +kernel)) rfl
theorem fl_X2_22 : Cond.fieldLink RX2 22 "TanRow$Text" "start" "I" ∈ tb := tbm_1 (List.mem_of_getElem? (i := 88) (by decide +kernel)) rfl
theorem fl_X2_25 : Cond.fieldLink RX2 25 "TanRow$Text" "end" "I" ∈ tb := tbm_1 (List.mem_of_getElem? (i := 89) (by decide +kernel)) rfl
theorem fl_X2_28 : Cond.fieldLink RX2 28 "TanRow$Text" "number" "I" ∈ tb := tbm_1 (List.mem_of_getElem? (i := 90) (by decide +kernel)) rfl
theorem cl_X4_29 : Cond.classLink RX4 29 RX0 ∈ tb := tbm_1 (List.mem_of_getElem? (i := 104) (by decide +kernel)) rfl
theorem it_X0 : Cond.instantiable RX0 3 ∈ tb := tbm_1 (List.mem_of_getElem? (i := 106) (by decide +kernel)) rfl
theorem im_X0_init : Cond.instanceMethod yX0_init ∈ tb := tbm_1 (List.mem_of_getElem? (i := 108) (by decide +kernel)) rfl
theorem co_X0_init : Cond.code yX0_init cX0_init 1 none ∈ tb := tbm_1 (List.mem_of_getElem? (i := 109) (by decide +kernel)) rfl
theorem ml_X0_3 : Cond.methodLink RX0 3 objectInit ∈ tb := tbm_1 (List.mem_of_getElem? (i := 110) (by decide +kernel)) rfl
theorem fl_X0_9 : Cond.fieldLink RX0 9 "TanRow$Sheet" "bits" "I" ∈ tb := tbm_1 (List.mem_of_getElem? (i := 111) (by decide +kernel)) rfl
theorem fl_X4_206 : Cond.fieldLink RX4 206 "TanRow$Sheet" "bits" "I" ∈ tb := tbm_1 (List.mem_of_getElem? (i := 112) (by decide +kernel)) rfl
theorem fl_X0_15 : Cond.fieldLink RX0 15 "TanRow$Sheet" "size" "I" ∈ tb := tbm_1 (List.mem_of_getElem? (i := 113) (by decide +kernel)) rfl
theorem fl_X4_192 : Cond.fieldLink RX4 192 "TanRow$Sheet" "size" "I" ∈ tb := tbm_1 (List.mem_of_getElem? (i := 114) (by decide +kernel)) rfl
theorem fl_X0_18 : Cond.fieldLink RX0 18 "TanRow$Sheet" "numbers" "[J" ∈ tb := tbm_1 (List.mem_of_getElem? (i := 115) (by decide +kernel)) rfl
theorem fl_X4_198 : Cond.fieldLink RX4 198 "TanRow$Sheet" "numbers" "[J" ∈ tb := tbm_1 (List.mem_of_getElem? (i := 116) (by decide +kernel)) rfl
theorem ac_124 : Cond.arrayClass FieldType.long ∈ tb := tbm_1 (List.mem_of_getElem? (i := 124) (by decide +kernel)) rfl
theorem fl_X4_10 : Cond.fieldLink RX4 10 "TanRow" "shore" "LTanRow$Shore;" ∈ tb := tbm_1 (List.mem_of_getElem? (i := 125) (by decide +kernel)) rfl
theorem fl_X4_16 : Cond.fieldLink RX4 16 "TanRow" "trial" "LTanRow$Shore;" ∈ tb := tbm_1 (List.mem_of_getElem? (i := 126) (by decide +kernel)) rfl
theorem fl_X4_19 : Cond.fieldLink RX4 19 "TanRow" "kept" "LTanRow$Shore;" ∈ tb := tbm_1 (List.mem_of_getElem? (i := 127) (by decide +kernel)) rfl
theorem fl_X4_25 : Cond.fieldLink RX4 25 "TanRow" "text" "LTanRow$Text;" ∈ tb := tbm_1 (List.mem_of_getElem? (i := 128) (by decide +kernel)) rfl
theorem fl_X4_31 : Cond.fieldLink RX4 31 "TanRow" "sheets" "[LTanRow$Sheet;" ∈ tb := tbm_1 (List.mem_of_getElem? (i := 129) (by decide +kernel)) rfl
theorem fl_X4_35 : Cond.fieldLink RX4 35 "TanRow" "findings" "[I" ∈ tb := tbm_1 (List.mem_of_getElem? (i := 130) (by decide +kernel)) rfl
theorem fl_X4_39 : Cond.fieldLink RX4 39 "TanRow" "keeps" "Z" ∈ tb := tbm_1 (List.mem_of_getElem? (i := 131) (by decide +kernel)) rfl
theorem ml_L_13 : Cond.methodLink RL 13 yX4_sun ∈ tb := tbm_1 (List.mem_of_getElem? (i := 147) (by decide +kernel)) rfl
theorem im_X4_sun : Cond.instanceMethod yX4_sun ∈ tb := tbm_1 (List.mem_of_getElem? (i := 148) (by decide +kernel)) rfl
theorem se_X4_sun : Cond.selects RX4 yX4_sun yX4_sun ∈ tb := tbm_1 (List.mem_of_getElem? (i := 149) (by decide +kernel)) rfl
theorem co_X4_sun : Cond.code yX4_sun cX4_sun 4 (some FieldType.int) ∈ tb := tbm_1 (List.mem_of_getElem? (i := 150) (by decide +kernel)) rfl
theorem ml_X4_44 : Cond.methodLink RX4 44 yX4_within ∈ tb := tbm_1 (List.mem_of_getElem? (i := 151) (by decide +kernel)) rfl
theorem st_X4_within : Cond.static yX4_within ∈ tb := tbm_1 (List.mem_of_getElem? (i := 152) (by decide +kernel)) rfl
theorem co_X4_within : Cond.code yX4_within cX4_within 3 (some FieldType.boolean) ∈ tb := tbm_1 (List.mem_of_getElem? (i := 153) (by decide +kernel)) rfl
theorem ct_X4_48 : Cond.constant RX4 48 (-1000000001) ∈ tb := tbm_1 (List.mem_of_getElem? (i := 154) (by decide +kernel)) rfl
theorem ml_X4_49 : Cond.methodLink RX4 49 yX4_finding ∈ tb := tbm_1 (List.mem_of_getElem? (i := 155) (by decide +kernel)) rfl
theorem im_X4_finding : Cond.instanceMethod yX4_finding ∈ tb := tbm_1 (List.mem_of_getElem? (i := 157) (by decide +kernel)) rfl
theorem co_X4_finding : Cond.code yX4_finding cX4_finding 3 (some FieldType.int) ∈ tb := tbm_1 (List.mem_of_getElem? (i := 158) (by decide +kernel)) rfl
theorem ml_L_18 : Cond.methodLink RL 18 yX4_chair ∈ tb := tbm_1 (List.mem_of_getElem? (i := 159) (by decide +kernel)) rfl
theorem im_X4_chair : Cond.instanceMethod yX4_chair ∈ tb := tbm_1 (List.mem_of_getElem? (i := 160) (by decide +kernel)) rfl
theorem se_X4_chair : Cond.selects RX4 yX4_chair yX4_chair ∈ tb := tbm_1 (List.mem_of_getElem? (i := 161) (by decide +kernel)) rfl
theorem co_X4_chair : Cond.code yX4_chair cX4_chair 2 (some FieldType.int) ∈ tb := tbm_1 (List.mem_of_getElem? (i := 162) (by decide +kernel)) rfl
theorem ml_L_23 : Cond.methodLink RL 23 yX4_now ∈ tb := tbm_1 (List.mem_of_getElem? (i := 163) (by decide +kernel)) rfl
theorem im_X4_now : Cond.instanceMethod yX4_now ∈ tb := tbm_1 (List.mem_of_getElem? (i := 164) (by decide +kernel)) rfl
theorem se_X4_now : Cond.selects RX4 yX4_now yX4_now ∈ tb := tbm_1 (List.mem_of_getElem? (i := 165) (by decide +kernel)) rfl
theorem co_X4_now : Cond.code yX4_now cX4_now 2 (some FieldType.int) ∈ tb := tbm_1 (List.mem_of_getElem? (i := 166) (by decide +kernel)) rfl
theorem ml_X4_63 : Cond.methodLink RX4 63 yX1_place ∈ tb := tbm_1 (List.mem_of_getElem? (i := 167) (by decide +kernel)) rfl
theorem im_X1_place : Cond.instanceMethod yX1_place ∈ tb := tbm_1 (List.mem_of_getElem? (i := 168) (by decide +kernel)) rfl
theorem se_X1_place : Cond.selects RX1 yX1_place yX1_place ∈ tb := tbm_1 (List.mem_of_getElem? (i := 169) (by decide +kernel)) rfl
theorem co_X1_place : Cond.code yX1_place cX1_place 1 (some FieldType.int) ∈ tb := tbm_1 (List.mem_of_getElem? (i := 170) (by decide +kernel)) rfl
theorem ml_X4_67 : Cond.methodLink RX4 67 yX1_sunNow ∈ tb := tbm_1 (List.mem_of_getElem? (i := 171) (by decide +kernel)) rfl
theorem im_X1_sunNow : Cond.instanceMethod yX1_sunNow ∈ tb := tbm_1 (List.mem_of_getElem? (i := 172) (by decide +kernel)) rfl
theorem se_X1_sunNow : Cond.selects RX1 yX1_sunNow yX1_sunNow ∈ tb := tbm_1 (List.mem_of_getElem? (i := 173) (by decide +kernel)) rfl
theorem co_X1_sunNow : Cond.code yX1_sunNow cX1_sunNow 1 (some FieldType.int) ∈ tb := tbm_1 (List.mem_of_getElem? (i := 174) (by decide +kernel)) rfl
theorem ml_X1_58 : Cond.methodLink RX1 58 yX1_place ∈ tb := tbm_1 (List.mem_of_getElem? (i := 175) (by decide +kernel)) rfl
theorem ml_X4_70 : Cond.methodLink RX4 70 yX1_setOfSitters ∈ tb := tbm_1 (List.mem_of_getElem? (i := 176) (by decide +kernel)) rfl
theorem im_X1_setOfSitters : Cond.instanceMethod yX1_setOfSitters ∈ tb := tbm_1 (List.mem_of_getElem? (i := 177) (by decide +kernel)) rfl
theorem se_X1_setOfSitters : Cond.selects RX1 yX1_setOfSitters yX1_setOfSitters ∈ tb := tbm_1 (List.mem_of_getElem? (i := 178) (by decide +kernel)) rfl
theorem co_X1_setOfSitters : Cond.code yX1_setOfSitters cX1_setOfSitters 3 (some FieldType.int) ∈ tb := tbm_1 (List.mem_of_getElem? (i := 179) (by decide +kernel)) rfl
theorem ml_X1_66 : Cond.methodLink RX1 66 yX1_sits ∈ tb := tbm_1 (List.mem_of_getElem? (i := 180) (by decide +kernel)) rfl
theorem im_X1_sits : Cond.instanceMethod yX1_sits ∈ tb := tbm_1 (List.mem_of_getElem? (i := 181) (by decide +kernel)) rfl
theorem se_X1_sits : Cond.selects RX1 yX1_sits yX1_sits ∈ tb := tbm_1 (List.mem_of_getElem? (i := 182) (by decide +kernel)) rfl
theorem co_X1_sits : Cond.code yX1_sits cX1_sits 2 (some FieldType.boolean) ∈ tb := tbm_1 (List.mem_of_getElem? (i := 183) (by decide +kernel)) rfl
theorem ml_X4_73 : Cond.methodLink RX4 73 yX1_setOfEven ∈ tb := tbm_1 (List.mem_of_getElem? (i := 184) (by decide +kernel)) rfl
theorem im_X1_setOfEven : Cond.instanceMethod yX1_setOfEven ∈ tb := tbm_1 (List.mem_of_getElem? (i := 185) (by decide +kernel)) rfl
theorem se_X1_setOfEven : Cond.selects RX1 yX1_setOfEven yX1_setOfEven ∈ tb := tbm_1 (List.mem_of_getElem? (i := 186) (by decide +kernel)) rfl
theorem co_X1_setOfEven : Cond.code yX1_setOfEven cX1_setOfEven 3 (some FieldType.int) ∈ tb := tbm_1 (List.mem_of_getElem? (i := 187) (by decide +kernel)) rfl
theorem ml_X1_74 : Cond.methodLink RX1 74 yX1_isEven ∈ tb := tbm_1 (List.mem_of_getElem? (i := 188) (by decide +kernel)) rfl
theorem im_X1_isEven : Cond.instanceMethod yX1_isEven ∈ tb := tbm_1 (List.mem_of_getElem? (i := 189) (by decide +kernel)) rfl
theorem se_X1_isEven : Cond.selects RX1 yX1_isEven yX1_isEven ∈ tb := tbm_1 (List.mem_of_getElem? (i := 190) (by decide +kernel)) rfl
theorem co_X1_isEven : Cond.code yX1_isEven cX1_isEven 2 (some FieldType.boolean) ∈ tb := tbm_1 (List.mem_of_getElem? (i := 191) (by decide +kernel)) rfl
theorem ml_X1_77 : Cond.methodLink RX1 77 Lib.Math.abs.name ∈ tb := tbm_1 (List.mem_of_getElem? (i := 192) (by decide +kernel)) rfl
theorem st_abs : Cond.static Lib.Math.abs.name ∈ tb := tbm_1 (List.mem_of_getElem? (i := 193) (by decide +kernel)) rfl
theorem co_abs : Cond.code Lib.Math.abs.name Lib.Math.abs.code 1 (some .int) ∈ tb := tbm_1 (List.mem_of_getElem? (i := 194) (by decide +kernel)) rfl
theorem ml_X4_76 : Cond.methodLink RX4 76 yX1_brownOfAll ∈ tb := tbm_1 (List.mem_of_getElem? (i := 195) (by decide +kernel)) rfl
theorem im_X1_brownOfAll : Cond.instanceMethod yX1_brownOfAll ∈ tb := tbm_1 (List.mem_of_getElem? (i := 196) (by decide +kernel)) rfl
theorem se_X1_brownOfAll : Cond.selects RX1 yX1_brownOfAll yX1_brownOfAll ∈ tb := tbm_1 (List.mem_of_getElem? (i := 197) (by decide +kernel)) rfl
theorem co_X1_brownOfAll : Cond.code yX1_brownOfAll cX1_brownOfAll 3 (some FieldType.int) ∈ tb := tbm_1 (List.mem_of_getElem? (i := 198) (by decide +kernel)) rfl
theorem ml_X1_83 : Cond.methodLink RX1 83 yX1_brownOf ∈ tb := tbm_1 (List.mem_of_getElem? (i := 199) (by decide +kernel)) rfl
theorem im_X1_brownOf : Cond.instanceMethod yX1_brownOf ∈ tb := tbm_1 (List.mem_of_getElem? (i := 200) (by decide +kernel)) rfl
theorem se_X1_brownOf : Cond.selects RX1 yX1_brownOf yX1_brownOf ∈ tb := tbm_1 (List.mem_of_getElem? (i := 201) (by decide +kernel)) rfl
theorem co_X1_brownOf : Cond.code yX1_brownOf cX1_brownOf 2 (some FieldType.int) ∈ tb := tbm_1 (List.mem_of_getElem? (i := 202) (by decide +kernel)) rfl
theorem ml_X4_79 : Cond.methodLink RX4 79 yX1_burntOfAll ∈ tb := tbm_1 (List.mem_of_getElem? (i := 203) (by decide +kernel)) rfl
theorem im_X1_burntOfAll : Cond.instanceMethod yX1_burntOfAll ∈ tb := tbm_1 (List.mem_of_getElem? (i := 204) (by decide +kernel)) rfl
theorem se_X1_burntOfAll : Cond.selects RX1 yX1_burntOfAll yX1_burntOfAll ∈ tb := tbm_1 (List.mem_of_getElem? (i := 205) (by decide +kernel)) rfl
theorem co_X1_burntOfAll : Cond.code yX1_burntOfAll cX1_burntOfAll 3 (some FieldType.int) ∈ tb := tbm_1 (List.mem_of_getElem? (i := 206) (by decide +kernel)) rfl
theorem ml_L_27 : Cond.methodLink RL 27 yX4_person ∈ tb := tbm_1 (List.mem_of_getElem? (i := 207) (by decide +kernel)) rfl
theorem im_X4_person : Cond.instanceMethod yX4_person ∈ tb := tbm_1 (List.mem_of_getElem? (i := 208) (by decide +kernel)) rfl
theorem se_X4_person : Cond.selects RX4 yX4_person yX4_person ∈ tb := tbm_1 (List.mem_of_getElem? (i := 209) (by decide +kernel)) rfl
theorem co_X4_person : Cond.code yX4_person cX4_person 2 (some FieldType.int) ∈ tb := tbm_1 (List.mem_of_getElem? (i := 210) (by decide +kernel)) rfl
theorem ml_X4_82 : Cond.methodLink RX4 82 yX4_isKind ∈ tb := tbm_1 (List.mem_of_getElem? (i := 211) (by decide +kernel)) rfl
theorem st_X4_isKind : Cond.static yX4_isKind ∈ tb := tbm_1 (List.mem_of_getElem? (i := 212) (by decide +kernel)) rfl
theorem co_X4_isKind : Cond.code yX4_isKind cX4_isKind 1 (some FieldType.boolean) ∈ tb := tbm_1 (List.mem_of_getElem? (i := 213) (by decide +kernel)) rfl
theorem ct_X4_89 : Cond.constant RX4 89 (-1000000002) ∈ tb := tbm_1 (List.mem_of_getElem? (i := 214) (by decide +kernel)) rfl
theorem ml_X4_90 : Cond.methodLink RX4 90 yX1_add ∈ tb := tbm_1 (List.mem_of_getElem? (i := 215) (by decide +kernel)) rfl
theorem im_X1_add : Cond.instanceMethod yX1_add ∈ tb := tbm_1 (List.mem_of_getElem? (i := 216) (by decide +kernel)) rfl
theorem se_X1_add : Cond.selects RX1 yX1_add yX1_add ∈ tb := tbm_1 (List.mem_of_getElem? (i := 217) (by decide +kernel)) rfl
theorem co_X1_add : Cond.code yX1_add cX1_add 4 (some FieldType.int) ∈ tb := tbm_1 (List.mem_of_getElem? (i := 218) (by decide +kernel)) rfl
theorem ml_L_31 : Cond.methodLink RL 31 yX4_of ∈ tb := tbm_1 (List.mem_of_getElem? (i := 219) (by decide +kernel)) rfl
theorem im_X4_of : Cond.instanceMethod yX4_of ∈ tb := tbm_1 (List.mem_of_getElem? (i := 220) (by decide +kernel)) rfl
theorem se_X4_of : Cond.selects RX4 yX4_of yX4_of ∈ tb := tbm_1 (List.mem_of_getElem? (i := 221) (by decide +kernel)) rfl
theorem co_X4_of : Cond.code yX4_of cX4_of 3 (some FieldType.int) ∈ tb := tbm_1 (List.mem_of_getElem? (i := 222) (by decide +kernel)) rfl
theorem ml_X4_94 : Cond.methodLink RX4 94 yX4_isPerson ∈ tb := tbm_1 (List.mem_of_getElem? (i := 223) (by decide +kernel)) rfl
theorem im_X4_isPerson : Cond.instanceMethod yX4_isPerson ∈ tb := tbm_1 (List.mem_of_getElem? (i := 225) (by decide +kernel)) rfl
theorem co_X4_isPerson : Cond.code yX4_isPerson cX4_isPerson 2 (some FieldType.boolean) ∈ tb := tbm_1 (List.mem_of_getElem? (i := 226) (by decide +kernel)) rfl
theorem ml_X4_112 : Cond.methodLink RX4 112 yX1_fadesOf ∈ tb := tbm_1 (List.mem_of_getElem? (i := 227) (by decide +kernel)) rfl
theorem im_X1_fadesOf : Cond.instanceMethod yX1_fadesOf ∈ tb := tbm_1 (List.mem_of_getElem? (i := 228) (by decide +kernel)) rfl
theorem se_X1_fadesOf : Cond.selects RX1 yX1_fadesOf yX1_fadesOf ∈ tb := tbm_1 (List.mem_of_getElem? (i := 229) (by decide +kernel)) rfl
theorem co_X1_fadesOf : Cond.code yX1_fadesOf cX1_fadesOf 3 (some FieldType.int) ∈ tb := tbm_1 (List.mem_of_getElem? (i := 230) (by decide +kernel)) rfl
theorem ml_X1_86 : Cond.methodLink RX1 86 yX1_neighbour ∈ tb := tbm_1 (List.mem_of_getElem? (i := 231) (by decide +kernel)) rfl
theorem im_X1_neighbour : Cond.instanceMethod yX1_neighbour ∈ tb := tbm_1 (List.mem_of_getElem? (i := 232) (by decide +kernel)) rfl
theorem se_X1_neighbour : Cond.selects RX1 yX1_neighbour yX1_neighbour ∈ tb := tbm_1 (List.mem_of_getElem? (i := 233) (by decide +kernel)) rfl
theorem co_X1_neighbour : Cond.code yX1_neighbour cX1_neighbour 4 (some FieldType.int) ∈ tb := tbm_1 (List.mem_of_getElem? (i := 234) (by decide +kernel)) rfl
theorem ml_X1_90 : Cond.methodLink RX1 90 yX1_sunNow ∈ tb := tbm_1 (List.mem_of_getElem? (i := 236) (by decide +kernel)) rfl
theorem ml_X1_93 : Cond.methodLink RX1 93 yX3_fades ∈ tb := tbm_1 (List.mem_of_getElem? (i := 237) (by decide +kernel)) rfl
theorem st_X3_fades : Cond.static yX3_fades ∈ tb := tbm_1 (List.mem_of_getElem? (i := 238) (by decide +kernel)) rfl
theorem co_X3_fades : Cond.code yX3_fades cX3_fades 3 (some FieldType.int) ∈ tb := tbm_1 (List.mem_of_getElem? (i := 239) (by decide +kernel)) rfl
theorem ml_X4_115 : Cond.methodLink RX4 115 yX3_burnsFrom ∈ tb := tbm_2 (List.mem_of_getElem? (i := 0) (by decide +kernel)) rfl
theorem st_X3_burnsFrom : Cond.static yX3_burnsFrom ∈ tb := tbm_2 (List.mem_of_getElem? (i := 1) (by decide +kernel)) rfl
theorem co_X3_burnsFrom : Cond.code yX3_burnsFrom cX3_burnsFrom 1 (some FieldType.int) ∈ tb := tbm_2 (List.mem_of_getElem? (i := 2) (by decide +kernel)) rfl
theorem ml_X4_120 : Cond.methodLink RX4 120 yX1_neighbour ∈ tb := tbm_2 (List.mem_of_getElem? (i := 3) (by decide +kernel)) rfl
theorem ml_L_35 : Cond.methodLink RL 35 yX4_set ∈ tb := tbm_2 (List.mem_of_getElem? (i := 4) (by decide +kernel)) rfl
theorem im_X4_set : Cond.instanceMethod yX4_set ∈ tb := tbm_2 (List.mem_of_getElem? (i := 5) (by decide +kernel)) rfl
theorem se_X4_set : Cond.selects RX4 yX4_set yX4_set ∈ tb := tbm_2 (List.mem_of_getElem? (i := 6) (by decide +kernel)) rfl
theorem co_X4_set : Cond.code yX4_set cX4_set 6 (some FieldType.int) ∈ tb := tbm_2 (List.mem_of_getElem? (i := 7) (by decide +kernel)) rfl
theorem ml_L_40 : Cond.methodLink RL 40 yX4_turn ∈ tb := tbm_2 (List.mem_of_getElem? (i := 8) (by decide +kernel)) rfl
theorem im_X4_turn : Cond.instanceMethod yX4_turn ∈ tb := tbm_2 (List.mem_of_getElem? (i := 9) (by decide +kernel)) rfl
theorem se_X4_turn : Cond.selects RX4 yX4_turn yX4_turn ∈ tb := tbm_2 (List.mem_of_getElem? (i := 10) (by decide +kernel)) rfl
theorem co_X4_turn : Cond.code yX4_turn cX4_turn 4 (some FieldType.int) ∈ tb := tbm_2 (List.mem_of_getElem? (i := 11) (by decide +kernel)) rfl
theorem ml_L_44 : Cond.methodLink RL 44 yX4_as ∈ tb := tbm_2 (List.mem_of_getElem? (i := 12) (by decide +kernel)) rfl
theorem im_X4_as : Cond.instanceMethod yX4_as ∈ tb := tbm_2 (List.mem_of_getElem? (i := 13) (by decide +kernel)) rfl
theorem se_X4_as : Cond.selects RX4 yX4_as yX4_as ∈ tb := tbm_2 (List.mem_of_getElem? (i := 14) (by decide +kernel)) rfl
theorem co_X4_as : Cond.code yX4_as cX4_as 3 (some FieldType.int) ∈ tb := tbm_2 (List.mem_of_getElem? (i := 15) (by decide +kernel)) rfl
theorem ml_X4_123 : Cond.methodLink RX4 123 yX3_isOrIsUnder ∈ tb := tbm_2 (List.mem_of_getElem? (i := 16) (by decide +kernel)) rfl
theorem st_X3_isOrIsUnder : Cond.static yX3_isOrIsUnder ∈ tb := tbm_2 (List.mem_of_getElem? (i := 17) (by decide +kernel)) rfl
theorem co_X3_isOrIsUnder : Cond.code yX3_isOrIsUnder cX3_isOrIsUnder 4 (some FieldType.boolean) ∈ tb := tbm_2 (List.mem_of_getElem? (i := 18) (by decide +kernel)) rfl
theorem fl_X3_13 : Cond.fieldLink RX3 13 "TanRow$Ways" "ABOVE" "[I" ∈ tb := tbm_2 (List.mem_of_getElem? (i := 20) (by decide +kernel)) rfl
theorem ct_X4_127 : Cond.constant RX4 127 (-1000000003) ∈ tb := tbm_2 (List.mem_of_getElem? (i := 22) (by decide +kernel)) rfl
theorem ml_X4_128 : Cond.methodLink RX4 128 yX1_brownOf ∈ tb := tbm_2 (List.mem_of_getElem? (i := 23) (by decide +kernel)) rfl
theorem ml_L_48 : Cond.methodLink RL 48 yX4_sit ∈ tb := tbm_2 (List.mem_of_getElem? (i := 24) (by decide +kernel)) rfl
theorem im_X4_sit : Cond.instanceMethod yX4_sit ∈ tb := tbm_2 (List.mem_of_getElem? (i := 25) (by decide +kernel)) rfl
theorem se_X4_sit : Cond.selects RX4 yX4_sit yX4_sit ∈ tb := tbm_2 (List.mem_of_getElem? (i := 26) (by decide +kernel)) rfl
theorem co_X4_sit : Cond.code yX4_sit cX4_sit 4 (some FieldType.int) ∈ tb := tbm_2 (List.mem_of_getElem? (i := 27) (by decide +kernel)) rfl
theorem ml_X4_131 : Cond.methodLink RX4 131 yX1_isFreeFor ∈ tb := tbm_2 (List.mem_of_getElem? (i := 28) (by decide +kernel)) rfl
theorem im_X1_isFreeFor : Cond.instanceMethod yX1_isFreeFor ∈ tb := tbm_2 (List.mem_of_getElem? (i := 29) (by decide +kernel)) rfl
theorem se_X1_isFreeFor : Cond.selects RX1 yX1_isFreeFor yX1_isFreeFor ∈ tb := tbm_2 (List.mem_of_getElem? (i := 30) (by decide +kernel)) rfl
theorem co_X1_isFreeFor : Cond.code yX1_isFreeFor cX1_isFreeFor 3 (some FieldType.boolean) ∈ tb := tbm_2 (List.mem_of_getElem? (i := 31) (by decide +kernel)) rfl
theorem ct_X4_134 : Cond.constant RX4 134 (-1000000005) ∈ tb := tbm_2 (List.mem_of_getElem? (i := 32) (by decide +kernel)) rfl
theorem ml_X4_135 : Cond.methodLink RX4 135 yX1_seat ∈ tb := tbm_2 (List.mem_of_getElem? (i := 33) (by decide +kernel)) rfl
theorem im_X1_seat : Cond.instanceMethod yX1_seat ∈ tb := tbm_2 (List.mem_of_getElem? (i := 34) (by decide +kernel)) rfl
theorem se_X1_seat : Cond.selects RX1 yX1_seat yX1_seat ∈ tb := tbm_2 (List.mem_of_getElem? (i := 35) (by decide +kernel)) rfl
theorem co_X1_seat : Cond.code yX1_seat cX1_seat 3 none ∈ tb := tbm_2 (List.mem_of_getElem? (i := 36) (by decide +kernel)) rfl
theorem ml_L_52 : Cond.methodLink RL 52 yX4_given ∈ tb := tbm_2 (List.mem_of_getElem? (i := 37) (by decide +kernel)) rfl
theorem im_X4_given : Cond.instanceMethod yX4_given ∈ tb := tbm_2 (List.mem_of_getElem? (i := 38) (by decide +kernel)) rfl
theorem se_X4_given : Cond.selects RX4 yX4_given yX4_given ∈ tb := tbm_2 (List.mem_of_getElem? (i := 39) (by decide +kernel)) rfl
theorem co_X4_given : Cond.code yX4_given cX4_given 3 (some FieldType.int) ∈ tb := tbm_2 (List.mem_of_getElem? (i := 40) (by decide +kernel)) rfl
theorem ml_X4_139 : Cond.methodLink RX4 139 yX1_givenLeft ∈ tb := tbm_2 (List.mem_of_getElem? (i := 41) (by decide +kernel)) rfl
theorem im_X1_givenLeft : Cond.instanceMethod yX1_givenLeft ∈ tb := tbm_2 (List.mem_of_getElem? (i := 42) (by decide +kernel)) rfl
theorem se_X1_givenLeft : Cond.selects RX1 yX1_givenLeft yX1_givenLeft ∈ tb := tbm_2 (List.mem_of_getElem? (i := 43) (by decide +kernel)) rfl
theorem co_X1_givenLeft : Cond.code yX1_givenLeft cX1_givenLeft 3 (some FieldType.int) ∈ tb := tbm_2 (List.mem_of_getElem? (i := 44) (by decide +kernel)) rfl
theorem ml_X1_99 : Cond.methodLink RX1 99 yX3_glows ∈ tb := tbm_2 (List.mem_of_getElem? (i := 45) (by decide +kernel)) rfl
theorem st_X3_glows : Cond.static yX3_glows ∈ tb := tbm_2 (List.mem_of_getElem? (i := 46) (by decide +kernel)) rfl
theorem co_X3_glows : Cond.code yX3_glows cX3_glows 5 (some FieldType.int) ∈ tb := tbm_2 (List.mem_of_getElem? (i := 47) (by decide +kernel)) rfl
theorem ml_X3_19 : Cond.methodLink RX3 19 Lib.Math.max.name ∈ tb := tbm_2 (List.mem_of_getElem? (i := 48) (by decide +kernel)) rfl
theorem st_max : Cond.static Lib.Math.max.name ∈ tb := tbm_2 (List.mem_of_getElem? (i := 49) (by decide +kernel)) rfl
theorem co_max : Cond.code Lib.Math.max.name Lib.Math.max.code 2 (some .int) ∈ tb := tbm_2 (List.mem_of_getElem? (i := 50) (by decide +kernel)) rfl
theorem ml_X4_142 : Cond.methodLink RX4 142 yX1_givenRight ∈ tb := tbm_2 (List.mem_of_getElem? (i := 51) (by decide +kernel)) rfl
theorem im_X1_givenRight : Cond.instanceMethod yX1_givenRight ∈ tb := tbm_2 (List.mem_of_getElem? (i := 52) (by decide +kernel)) rfl
theorem se_X1_givenRight : Cond.selects RX1 yX1_givenRight yX1_givenRight ∈ tb := tbm_2 (List.mem_of_getElem? (i := 53) (by decide +kernel)) rfl
theorem co_X1_givenRight : Cond.code yX1_givenRight cX1_givenRight 3 (some FieldType.int) ∈ tb := tbm_2 (List.mem_of_getElem? (i := 54) (by decide +kernel)) rfl
theorem ml_L_56 : Cond.methodLink RL 56 yX4_hours ∈ tb := tbm_2 (List.mem_of_getElem? (i := 55) (by decide +kernel)) rfl
theorem im_X4_hours : Cond.instanceMethod yX4_hours ∈ tb := tbm_2 (List.mem_of_getElem? (i := 56) (by decide +kernel)) rfl
theorem se_X4_hours : Cond.selects RX4 yX4_hours yX4_hours ∈ tb := tbm_2 (List.mem_of_getElem? (i := 57) (by decide +kernel)) rfl
theorem co_X4_hours : Cond.code yX4_hours cX4_hours 2 (some FieldType.int) ∈ tb := tbm_2 (List.mem_of_getElem? (i := 58) (by decide +kernel)) rfl
theorem ct_X4_145 : Cond.constant RX4 145 (99999) ∈ tb := tbm_2 (List.mem_of_getElem? (i := 59) (by decide +kernel)) rfl
theorem ml_X4_146 : Cond.methodLink RX4 146 yX1_goOn ∈ tb := tbm_2 (List.mem_of_getElem? (i := 60) (by decide +kernel)) rfl
theorem im_X1_goOn : Cond.instanceMethod yX1_goOn ∈ tb := tbm_2 (List.mem_of_getElem? (i := 61) (by decide +kernel)) rfl
theorem se_X1_goOn : Cond.selects RX1 yX1_goOn yX1_goOn ∈ tb := tbm_2 (List.mem_of_getElem? (i := 62) (by decide +kernel)) rfl
theorem co_X1_goOn : Cond.code yX1_goOn cX1_goOn 3 none ∈ tb := tbm_2 (List.mem_of_getElem? (i := 63) (by decide +kernel)) rfl
theorem ml_X1_103 : Cond.methodLink RX1 103 yX1_passHour ∈ tb := tbm_2 (List.mem_of_getElem? (i := 64) (by decide +kernel)) rfl
theorem im_X1_passHour : Cond.instanceMethod yX1_passHour ∈ tb := tbm_2 (List.mem_of_getElem? (i := 65) (by decide +kernel)) rfl
theorem se_X1_passHour : Cond.selects RX1 yX1_passHour yX1_passHour ∈ tb := tbm_2 (List.mem_of_getElem? (i := 66) (by decide +kernel)) rfl
theorem co_X1_passHour : Cond.code yX1_passHour cX1_passHour 3 none ∈ tb := tbm_2 (List.mem_of_getElem? (i := 67) (by decide +kernel)) rfl
theorem ml_X1_106 : Cond.methodLink RX1 106 yX1_givenLeft ∈ tb := tbm_2 (List.mem_of_getElem? (i := 68) (by decide +kernel)) rfl
theorem ml_X1_109 : Cond.methodLink RX1 109 yX1_givenRight ∈ tb := tbm_2 (List.mem_of_getElem? (i := 69) (by decide +kernel)) rfl
theorem ml_X1_112 : Cond.methodLink RX1 112 yX1_fadesOf ∈ tb := tbm_2 (List.mem_of_getElem? (i := 70) (by decide +kernel)) rfl
theorem ml_X1_115 : Cond.methodLink RX1 115 yX1_browned ∈ tb := tbm_2 (List.mem_of_getElem? (i := 71) (by decide +kernel)) rfl
theorem im_X1_browned : Cond.instanceMethod yX1_browned ∈ tb := tbm_2 (List.mem_of_getElem? (i := 73) (by decide +kernel)) rfl
theorem co_X1_browned : Cond.code yX1_browned cX1_browned 6 (some FieldType.int) ∈ tb := tbm_2 (List.mem_of_getElem? (i := 74) (by decide +kernel)) rfl
theorem ml_X1_121 : Cond.methodLink RX1 121 yX3_takes ∈ tb := tbm_2 (List.mem_of_getElem? (i := 75) (by decide +kernel)) rfl
theorem st_X3_takes : Cond.static yX3_takes ∈ tb := tbm_2 (List.mem_of_getElem? (i := 76) (by decide +kernel)) rfl
theorem co_X3_takes : Cond.code yX3_takes cX3_takes 2 (some FieldType.int) ∈ tb := tbm_2 (List.mem_of_getElem? (i := 77) (by decide +kernel)) rfl
theorem ml_X1_124 : Cond.methodLink RX1 124 Lib.Math.min.name ∈ tb := tbm_2 (List.mem_of_getElem? (i := 78) (by decide +kernel)) rfl
theorem st_min : Cond.static Lib.Math.min.name ∈ tb := tbm_2 (List.mem_of_getElem? (i := 79) (by decide +kernel)) rfl
theorem co_min : Cond.code Lib.Math.min.name Lib.Math.min.code 2 (some .int) ∈ tb := tbm_2 (List.mem_of_getElem? (i := 80) (by decide +kernel)) rfl
theorem ml_X1_127 : Cond.methodLink RX1 127 Lib.Math.max.name ∈ tb := tbm_2 (List.mem_of_getElem? (i := 81) (by decide +kernel)) rfl
theorem ml_X1_118 : Cond.methodLink RX1 118 yX1_burn ∈ tb := tbm_2 (List.mem_of_getElem? (i := 82) (by decide +kernel)) rfl
theorem im_X1_burn : Cond.instanceMethod yX1_burn ∈ tb := tbm_2 (List.mem_of_getElem? (i := 84) (by decide +kernel)) rfl
theorem co_X1_burn : Cond.code yX1_burn cX1_burn 3 none ∈ tb := tbm_2 (List.mem_of_getElem? (i := 85) (by decide +kernel)) rfl
theorem ml_X1_130 : Cond.methodLink RX1 130 yX3_burnsFrom ∈ tb := tbm_2 (List.mem_of_getElem? (i := 86) (by decide +kernel)) rfl
theorem ml_L_60 : Cond.methodLink RL 60 yX4_on ∈ tb := tbm_2 (List.mem_of_getElem? (i := 87) (by decide +kernel)) rfl
theorem im_X4_on : Cond.instanceMethod yX4_on ∈ tb := tbm_2 (List.mem_of_getElem? (i := 88) (by decide +kernel)) rfl
theorem se_X4_on : Cond.selects RX4 yX4_on yX4_on ∈ tb := tbm_2 (List.mem_of_getElem? (i := 89) (by decide +kernel)) rfl
theorem co_X4_on : Cond.code yX4_on cX4_on 5 (some FieldType.int) ∈ tb := tbm_2 (List.mem_of_getElem? (i := 90) (by decide +kernel)) rfl
theorem ml_X4_150 : Cond.methodLink RX4 150 yX4_startTrial ∈ tb := tbm_2 (List.mem_of_getElem? (i := 91) (by decide +kernel)) rfl
theorem im_X4_startTrial : Cond.instanceMethod yX4_startTrial ∈ tb := tbm_2 (List.mem_of_getElem? (i := 93) (by decide +kernel)) rfl
theorem co_X4_startTrial : Cond.code yX4_startTrial cX4_startTrial 1 none ∈ tb := tbm_2 (List.mem_of_getElem? (i := 94) (by decide +kernel)) rfl
theorem ml_X4_180 : Cond.methodLink RX4 180 yX1_become ∈ tb := tbm_2 (List.mem_of_getElem? (i := 95) (by decide +kernel)) rfl
theorem im_X1_become : Cond.instanceMethod yX1_become ∈ tb := tbm_2 (List.mem_of_getElem? (i := 96) (by decide +kernel)) rfl
theorem se_X1_become : Cond.selects RX1 yX1_become yX1_become ∈ tb := tbm_2 (List.mem_of_getElem? (i := 97) (by decide +kernel)) rfl
theorem co_X1_become : Cond.code yX1_become cX1_become 2 none ∈ tb := tbm_2 (List.mem_of_getElem? (i := 98) (by decide +kernel)) rfl
theorem ml_X1_52 : Cond.methodLink RX1 52 arraycopyName ∈ tb := tbm_2 (List.mem_of_getElem? (i := 99) (by decide +kernel)) rfl
theorem st_arraycopy : Cond.static arraycopyName ∈ tb := tbm_2 (List.mem_of_getElem? (i := 100) (by decide +kernel)) rfl
theorem na_arraycopy : Cond.native arraycopyName ∈ tb := tbm_2 (List.mem_of_getElem? (i := 101) (by decide +kernel)) rfl
theorem ml_L_64 : Cond.methodLink RL 64 yX4_brown ∈ tb := tbm_2 (List.mem_of_getElem? (i := 102) (by decide +kernel)) rfl
theorem im_X4_brown : Cond.instanceMethod yX4_brown ∈ tb := tbm_2 (List.mem_of_getElem? (i := 103) (by decide +kernel)) rfl
theorem se_X4_brown : Cond.selects RX4 yX4_brown yX4_brown ∈ tb := tbm_2 (List.mem_of_getElem? (i := 104) (by decide +kernel)) rfl
theorem co_X4_brown : Cond.code yX4_brown cX4_brown 4 (some FieldType.int) ∈ tb := tbm_2 (List.mem_of_getElem? (i := 105) (by decide +kernel)) rfl
theorem ml_X4_153 : Cond.methodLink RX4 153 yX1_passHour ∈ tb := tbm_2 (List.mem_of_getElem? (i := 106) (by decide +kernel)) rfl
theorem ct_X4_156 : Cond.constant RX4 156 (-1000000004) ∈ tb := tbm_2 (List.mem_of_getElem? (i := 107) (by decide +kernel)) rfl
theorem ml_L_68 : Cond.methodLink RL 68 yX4_burns ∈ tb := tbm_2 (List.mem_of_getElem? (i := 108) (by decide +kernel)) rfl
theorem im_X4_burns : Cond.instanceMethod yX4_burns ∈ tb := tbm_2 (List.mem_of_getElem? (i := 109) (by decide +kernel)) rfl
theorem se_X4_burns : Cond.selects RX4 yX4_burns yX4_burns ∈ tb := tbm_2 (List.mem_of_getElem? (i := 110) (by decide +kernel)) rfl
theorem co_X4_burns : Cond.code yX4_burns cX4_burns 3 (some FieldType.int) ∈ tb := tbm_2 (List.mem_of_getElem? (i := 111) (by decide +kernel)) rfl
theorem ml_L_72 : Cond.methodLink RL 72 yX4_even ∈ tb := tbm_2 (List.mem_of_getElem? (i := 112) (by decide +kernel)) rfl
theorem im_X4_even : Cond.instanceMethod yX4_even ∈ tb := tbm_2 (List.mem_of_getElem? (i := 113) (by decide +kernel)) rfl
theorem se_X4_even : Cond.selects RX4 yX4_even yX4_even ∈ tb := tbm_2 (List.mem_of_getElem? (i := 114) (by decide +kernel)) rfl
theorem co_X4_even : Cond.code yX4_even cX4_even 3 (some FieldType.int) ∈ tb := tbm_2 (List.mem_of_getElem? (i := 115) (by decide +kernel)) rfl
theorem ml_X4_157 : Cond.methodLink RX4 157 yX1_isEven ∈ tb := tbm_2 (List.mem_of_getElem? (i := 116) (by decide +kernel)) rfl
theorem ml_L_76 : Cond.methodLink RL 76 yX4_where ∈ tb := tbm_2 (List.mem_of_getElem? (i := 117) (by decide +kernel)) rfl
theorem im_X4_where : Cond.instanceMethod yX4_where ∈ tb := tbm_2 (List.mem_of_getElem? (i := 118) (by decide +kernel)) rfl
theorem se_X4_where : Cond.selects RX4 yX4_where yX4_where ∈ tb := tbm_2 (List.mem_of_getElem? (i := 119) (by decide +kernel)) rfl
theorem co_X4_where : Cond.code yX4_where cX4_where 6 (some FieldType.int) ∈ tb := tbm_2 (List.mem_of_getElem? (i := 120) (by decide +kernel)) rfl
theorem ml_L_80 : Cond.methodLink RL 80 yX4_change ∈ tb := tbm_2 (List.mem_of_getElem? (i := 121) (by decide +kernel)) rfl
theorem im_X4_change : Cond.instanceMethod yX4_change ∈ tb := tbm_2 (List.mem_of_getElem? (i := 122) (by decide +kernel)) rfl
theorem se_X4_change : Cond.selects RX4 yX4_change yX4_change ∈ tb := tbm_2 (List.mem_of_getElem? (i := 123) (by decide +kernel)) rfl
theorem co_X4_change : Cond.code yX4_change cX4_change 7 (some FieldType.int) ∈ tb := tbm_2 (List.mem_of_getElem? (i := 124) (by decide +kernel)) rfl
theorem ml_X4_160 : Cond.methodLink RX4 160 yX1_sits ∈ tb := tbm_2 (List.mem_of_getElem? (i := 125) (by decide +kernel)) rfl
theorem ml_X4_163 : Cond.methodLink RX4 163 yX1_swap ∈ tb := tbm_2 (List.mem_of_getElem? (i := 126) (by decide +kernel)) rfl
theorem im_X1_swap : Cond.instanceMethod yX1_swap ∈ tb := tbm_2 (List.mem_of_getElem? (i := 127) (by decide +kernel)) rfl
theorem se_X1_swap : Cond.selects RX1 yX1_swap yX1_swap ∈ tb := tbm_2 (List.mem_of_getElem? (i := 128) (by decide +kernel)) rfl
theorem co_X1_swap : Cond.code yX1_swap cX1_swap 5 none ∈ tb := tbm_2 (List.mem_of_getElem? (i := 129) (by decide +kernel)) rfl
theorem ml_X1_62 : Cond.methodLink RX1 62 yX1_seat ∈ tb := tbm_2 (List.mem_of_getElem? (i := 130) (by decide +kernel)) rfl
theorem ml_L_84 : Cond.methodLink RL 84 yX4_kind ∈ tb := tbm_2 (List.mem_of_getElem? (i := 131) (by decide +kernel)) rfl
theorem im_X4_kind : Cond.instanceMethod yX4_kind ∈ tb := tbm_2 (List.mem_of_getElem? (i := 132) (by decide +kernel)) rfl
theorem se_X4_kind : Cond.selects RX4 yX4_kind yX4_kind ∈ tb := tbm_2 (List.mem_of_getElem? (i := 133) (by decide +kernel)) rfl
theorem co_X4_kind : Cond.code yX4_kind cX4_kind 6 (some FieldType.int) ∈ tb := tbm_2 (List.mem_of_getElem? (i := 134) (by decide +kernel)) rfl
theorem ml_L_88 : Cond.methodLink RL 88 yX4_send ∈ tb := tbm_2 (List.mem_of_getElem? (i := 135) (by decide +kernel)) rfl
theorem im_X4_send : Cond.instanceMethod yX4_send ∈ tb := tbm_2 (List.mem_of_getElem? (i := 136) (by decide +kernel)) rfl
theorem se_X4_send : Cond.selects RX4 yX4_send yX4_send ∈ tb := tbm_2 (List.mem_of_getElem? (i := 137) (by decide +kernel)) rfl
theorem co_X4_send : Cond.code yX4_send cX4_send 6 (some FieldType.int) ∈ tb := tbm_2 (List.mem_of_getElem? (i := 138) (by decide +kernel)) rfl
theorem ml_L_92 : Cond.methodLink RL 92 yX4_cloud ∈ tb := tbm_2 (List.mem_of_getElem? (i := 139) (by decide +kernel)) rfl
theorem im_X4_cloud : Cond.instanceMethod yX4_cloud ∈ tb := tbm_2 (List.mem_of_getElem? (i := 140) (by decide +kernel)) rfl
theorem se_X4_cloud : Cond.selects RX4 yX4_cloud yX4_cloud ∈ tb := tbm_2 (List.mem_of_getElem? (i := 141) (by decide +kernel)) rfl
theorem co_X4_cloud : Cond.code yX4_cloud cX4_cloud 6 (some FieldType.int) ∈ tb := tbm_2 (List.mem_of_getElem? (i := 142) (by decide +kernel)) rfl
theorem ml_L_96 : Cond.methodLink RL 96 yX4_enough ∈ tb := tbm_2 (List.mem_of_getElem? (i := 143) (by decide +kernel)) rfl
theorem im_X4_enough : Cond.instanceMethod yX4_enough ∈ tb := tbm_2 (List.mem_of_getElem? (i := 144) (by decide +kernel)) rfl
theorem se_X4_enough : Cond.selects RX4 yX4_enough yX4_enough ∈ tb := tbm_2 (List.mem_of_getElem? (i := 145) (by decide +kernel)) rfl
theorem co_X4_enough : Cond.code yX4_enough cX4_enough 9 (some FieldType.int) ∈ tb := tbm_2 (List.mem_of_getElem? (i := 146) (by decide +kernel)) rfl
theorem ml_X4_166 : Cond.methodLink RX4 166 yX4_brownWith ∈ tb := tbm_2 (List.mem_of_getElem? (i := 147) (by decide +kernel)) rfl
theorem im_X4_brownWith : Cond.instanceMethod yX4_brownWith ∈ tb := tbm_2 (List.mem_of_getElem? (i := 149) (by decide +kernel)) rfl
theorem co_X4_brownWith : Cond.code yX4_brownWith cX4_brownWith 5 (some FieldType.int) ∈ tb := tbm_2 (List.mem_of_getElem? (i := 150) (by decide +kernel)) rfl
theorem ml_L_101 : Cond.methodLink RL 101 yX4_brownest ∈ tb := tbm_2 (List.mem_of_getElem? (i := 151) (by decide +kernel)) rfl
theorem im_X4_brownest : Cond.instanceMethod yX4_brownest ∈ tb := tbm_2 (List.mem_of_getElem? (i := 152) (by decide +kernel)) rfl
theorem se_X4_brownest : Cond.selects RX4 yX4_brownest yX4_brownest ∈ tb := tbm_2 (List.mem_of_getElem? (i := 153) (by decide +kernel)) rfl
theorem co_X4_brownest : Cond.code yX4_brownest cX4_brownest 5 (some FieldType.int) ∈ tb := tbm_2 (List.mem_of_getElem? (i := 154) (by decide +kernel)) rfl
theorem ml_L_105 : Cond.methodLink RL 105 yX4_feed ∈ tb := tbm_2 (List.mem_of_getElem? (i := 155) (by decide +kernel)) rfl
theorem im_X4_feed : Cond.instanceMethod yX4_feed ∈ tb := tbm_2 (List.mem_of_getElem? (i := 156) (by decide +kernel)) rfl
theorem se_X4_feed : Cond.selects RX4 yX4_feed yX4_feed ∈ tb := tbm_2 (List.mem_of_getElem? (i := 157) (by decide +kernel)) rfl
theorem co_X4_feed : Cond.code yX4_feed cX4_feed 4 (some FieldType.int) ∈ tb := tbm_2 (List.mem_of_getElem? (i := 158) (by decide +kernel)) rfl
theorem ml_X4_173 : Cond.methodLink RX4 173 yX2_append ∈ tb := tbm_2 (List.mem_of_getElem? (i := 159) (by decide +kernel)) rfl
theorem im_X2_append : Cond.instanceMethod yX2_append ∈ tb := tbm_2 (List.mem_of_getElem? (i := 160) (by decide +kernel)) rfl
theorem se_X2_append : Cond.selects RX2 yX2_append yX2_append ∈ tb := tbm_2 (List.mem_of_getElem? (i := 161) (by decide +kernel)) rfl
theorem co_X2_append : Cond.code yX2_append cX2_append 2 none ∈ tb := tbm_2 (List.mem_of_getElem? (i := 162) (by decide +kernel)) rfl
theorem ml_L_109 : Cond.methodLink RL 109 yX4_wipe ∈ tb := tbm_2 (List.mem_of_getElem? (i := 163) (by decide +kernel)) rfl
theorem im_X4_wipe : Cond.instanceMethod yX4_wipe ∈ tb := tbm_2 (List.mem_of_getElem? (i := 164) (by decide +kernel)) rfl
theorem se_X4_wipe : Cond.selects RX4 yX4_wipe yX4_wipe ∈ tb := tbm_2 (List.mem_of_getElem? (i := 165) (by decide +kernel)) rfl
theorem co_X4_wipe : Cond.code yX4_wipe cX4_wipe 2 (some FieldType.int) ∈ tb := tbm_2 (List.mem_of_getElem? (i := 166) (by decide +kernel)) rfl
theorem ml_L_114 : Cond.methodLink RL 114 yX4_esplanade ∈ tb := tbm_2 (List.mem_of_getElem? (i := 167) (by decide +kernel)) rfl
theorem im_X4_esplanade : Cond.instanceMethod yX4_esplanade ∈ tb := tbm_2 (List.mem_of_getElem? (i := 168) (by decide +kernel)) rfl
theorem se_X4_esplanade : Cond.selects RX4 yX4_esplanade yX4_esplanade ∈ tb := tbm_2 (List.mem_of_getElem? (i := 169) (by decide +kernel)) rfl
theorem co_X4_esplanade : Cond.code yX4_esplanade cX4_esplanade 2 (some FieldType.int) ∈ tb := tbm_2 (List.mem_of_getElem? (i := 170) (by decide +kernel)) rfl
theorem ml_X4_176 : Cond.methodLink RX4 176 yX2_readAll ∈ tb := tbm_2 (List.mem_of_getElem? (i := 171) (by decide +kernel)) rfl
theorem im_X2_readAll : Cond.instanceMethod yX2_readAll ∈ tb := tbm_2 (List.mem_of_getElem? (i := 172) (by decide +kernel)) rfl
theorem se_X2_readAll : Cond.selects RX2 yX2_readAll yX2_readAll ∈ tb := tbm_2 (List.mem_of_getElem? (i := 173) (by decide +kernel)) rfl
theorem co_X2_readAll : Cond.code yX2_readAll cX2_readAll 3 (some FieldType.int) ∈ tb := tbm_2 (List.mem_of_getElem? (i := 174) (by decide +kernel)) rfl
theorem ml_X2_31 : Cond.methodLink RX2 31 yX2_advance ∈ tb := tbm_2 (List.mem_of_getElem? (i := 175) (by decide +kernel)) rfl
theorem im_X2_advance : Cond.instanceMethod yX2_advance ∈ tb := tbm_2 (List.mem_of_getElem? (i := 177) (by decide +kernel)) rfl
theorem co_X2_advance : Cond.code yX2_advance cX2_advance 1 none ∈ tb := tbm_2 (List.mem_of_getElem? (i := 178) (by decide +kernel)) rfl
theorem ml_X2_113 : Cond.methodLink RX2 113 yX2_isLetter ∈ tb := tbm_2 (List.mem_of_getElem? (i := 179) (by decide +kernel)) rfl
theorem st_X2_isLetter : Cond.static yX2_isLetter ∈ tb := tbm_2 (List.mem_of_getElem? (i := 180) (by decide +kernel)) rfl
theorem co_X2_isLetter : Cond.code yX2_isLetter cX2_isLetter 1 (some FieldType.boolean) ∈ tb := tbm_2 (List.mem_of_getElem? (i := 181) (by decide +kernel)) rfl
theorem ml_X2_116 : Cond.methodLink RX2 116 yX2_passWord ∈ tb := tbm_2 (List.mem_of_getElem? (i := 182) (by decide +kernel)) rfl
theorem im_X2_passWord : Cond.instanceMethod yX2_passWord ∈ tb := tbm_2 (List.mem_of_getElem? (i := 184) (by decide +kernel)) rfl
theorem co_X2_passWord : Cond.code yX2_passWord cX2_passWord 1 none ∈ tb := tbm_2 (List.mem_of_getElem? (i := 185) (by decide +kernel)) rfl
theorem ml_X2_119 : Cond.methodLink RX2 119 yX2_isDigit ∈ tb := tbm_2 (List.mem_of_getElem? (i := 186) (by decide +kernel)) rfl
theorem st_X2_isDigit : Cond.static yX2_isDigit ∈ tb := tbm_2 (List.mem_of_getElem? (i := 187) (by decide +kernel)) rfl
theorem co_X2_isDigit : Cond.code yX2_isDigit cX2_isDigit 1 (some FieldType.boolean) ∈ tb := tbm_2 (List.mem_of_getElem? (i := 188) (by decide +kernel)) rfl
theorem ml_X2_122 : Cond.methodLink RX2 122 yX2_passNumber ∈ tb := tbm_2 (List.mem_of_getElem? (i := 189) (by decide +kernel)) rfl
theorem im_X2_passNumber : Cond.instanceMethod yX2_passNumber ∈ tb := tbm_2 (List.mem_of_getElem? (i := 191) (by decide +kernel)) rfl
theorem co_X2_passNumber : Cond.code yX2_passNumber cX2_passNumber 1 none ∈ tb := tbm_2 (List.mem_of_getElem? (i := 192) (by decide +kernel)) rfl
theorem ml_X2_125 : Cond.methodLink RX2 125 Lib.Math.min.name ∈ tb := tbm_2 (List.mem_of_getElem? (i := 193) (by decide +kernel)) rfl
theorem ml_X2_34 : Cond.methodLink RX2 34 yX2_readItem ∈ tb := tbm_2 (List.mem_of_getElem? (i := 194) (by decide +kernel)) rfl
theorem im_X2_readItem : Cond.instanceMethod yX2_readItem ∈ tb := tbm_2 (List.mem_of_getElem? (i := 196) (by decide +kernel)) rfl
theorem co_X2_readItem : Cond.code yX2_readItem cX2_readItem 3 (some FieldType.boolean) ∈ tb := tbm_2 (List.mem_of_getElem? (i := 197) (by decide +kernel)) rfl
theorem ml_X2_40 : Cond.methodLink RX2 40 yX2_isWord ∈ tb := tbm_2 (List.mem_of_getElem? (i := 199) (by decide +kernel)) rfl
theorem im_X2_isWord : Cond.instanceMethod yX2_isWord ∈ tb := tbm_2 (List.mem_of_getElem? (i := 201) (by decide +kernel)) rfl
theorem co_X2_isWord : Cond.code yX2_isWord cX2_isWord 3 (some FieldType.boolean) ∈ tb := tbm_2 (List.mem_of_getElem? (i := 202) (by decide +kernel)) rfl
theorem ml_X2_88 : Cond.methodLink RX2 88 yJ0_length_8abf5 ∈ tb := tbm_2 (List.mem_of_getElem? (i := 203) (by decide +kernel)) rfl
theorem im_J0_length_8abf5 : Cond.instanceMethod yJ0_length_8abf5 ∈ tb := tbm_2 (List.mem_of_getElem? (i := 204) (by decide +kernel)) rfl
theorem se_J0_length_8abf5 : Cond.selects RJ0 yJ0_length_8abf5 yJ0_length_8abf5 ∈ tb := tbm_2 (List.mem_of_getElem? (i := 205) (by decide +kernel)) rfl
theorem co_J0_length_8abf5 : Cond.code yJ0_length_8abf5 cJ0_length_8abf5 1 (some FieldType.int) ∈ tb := tbm_2 (List.mem_of_getElem? (i := 206) (by decide +kernel)) rfl
theorem ml_J0_335 : Cond.methodLink RJ0 335 yJ0_coder_7d493 ∈ tb := tbm_2 (List.mem_of_getElem? (i := 207) (by decide +kernel)) rfl
theorem im_J0_coder_7d493 : Cond.instanceMethod yJ0_coder_7d493 ∈ tb := tbm_2 (List.mem_of_getElem? (i := 208) (by decide +kernel)) rfl
theorem se_J0_coder_7d493 : Cond.selects RJ0 yJ0_coder_7d493 yJ0_coder_7d493 ∈ tb := tbm_2 (List.mem_of_getElem? (i := 209) (by decide +kernel)) rfl
theorem co_J0_coder_7d493 : Cond.code yJ0_coder_7d493 cJ0_coder_7d493 1 (some FieldType.byte) ∈ tb := tbm_2 (List.mem_of_getElem? (i := 210) (by decide +kernel)) rfl
theorem fl_J0_38 : Cond.fieldLink RJ0 38 "java/lang/String" "COMPACT_STRINGS" "Z" ∈ tb := tbm_2 (List.mem_of_getElem? (i := 211) (by decide +kernel)) rfl
theorem ml_X2_93 : Cond.methodLink RX2 93 yJ0_charAt_5068e ∈ tb := tbm_2 (List.mem_of_getElem? (i := 213) (by decide +kernel)) rfl
theorem im_J0_charAt_5068e : Cond.instanceMethod yJ0_charAt_5068e ∈ tb := tbm_2 (List.mem_of_getElem? (i := 214) (by decide +kernel)) rfl
theorem se_J0_charAt_5068e : Cond.selects RJ0 yJ0_charAt_5068e yJ0_charAt_5068e ∈ tb := tbm_2 (List.mem_of_getElem? (i := 215) (by decide +kernel)) rfl
theorem co_J0_charAt_5068e : Cond.code yJ0_charAt_5068e cJ0_charAt_5068e 2 (some FieldType.char) ∈ tb := tbm_2 (List.mem_of_getElem? (i := 216) (by decide +kernel)) rfl
theorem ml_J0_492 : Cond.methodLink RJ0 492 yJ0_isLatin1_aae02 ∈ tb := tbm_2 (List.mem_of_getElem? (i := 217) (by decide +kernel)) rfl
theorem im_J0_isLatin1_aae02 : Cond.instanceMethod yJ0_isLatin1_aae02 ∈ tb := tbm_2 (List.mem_of_getElem? (i := 218) (by decide +kernel)) rfl
theorem se_J0_isLatin1_aae02 : Cond.selects RJ0 yJ0_isLatin1_aae02 yJ0_isLatin1_aae02 ∈ tb := tbm_2 (List.mem_of_getElem? (i := 219) (by decide +kernel)) rfl
theorem co_J0_isLatin1_aae02 : Cond.code yJ0_isLatin1_aae02 cJ0_isLatin1_aae02 1 (some FieldType.boolean) ∈ tb := tbm_2 (List.mem_of_getElem? (i := 220) (by decide +kernel)) rfl
theorem ml_J0_495 : Cond.methodLink RJ0 495 yJ1_charAt_3b067 ∈ tb := tbm_2 (List.mem_of_getElem? (i := 221) (by decide +kernel)) rfl
theorem st_J1_charAt_3b067 : Cond.static yJ1_charAt_3b067 ∈ tb := tbm_2 (List.mem_of_getElem? (i := 222) (by decide +kernel)) rfl
theorem co_J1_charAt_3b067 : Cond.code yJ1_charAt_3b067 cJ1_charAt_3b067 2 (some FieldType.char) ∈ tb := tbm_2 (List.mem_of_getElem? (i := 223) (by decide +kernel)) rfl
theorem ml_J1_9 : Cond.methodLink RJ1 9 yJ0_checkIndex_df160 ∈ tb := tbm_2 (List.mem_of_getElem? (i := 224) (by decide +kernel)) rfl
theorem st_J0_checkIndex_df160 : Cond.static yJ0_checkIndex_df160 ∈ tb := tbm_2 (List.mem_of_getElem? (i := 225) (by decide +kernel)) rfl
theorem co_J0_checkIndex_df160 : Cond.code yJ0_checkIndex_df160 cJ0_checkIndex_df160 2 none ∈ tb := tbm_2 (List.mem_of_getElem? (i := 226) (by decide +kernel)) rfl
theorem fl_J0_1053 : Cond.fieldLink RJ0 1053 "jdk/internal/util/Preconditions" "SIOOBE_FORMATTER" "Ljava/util/function/BiFunction;" ∈ tb := tbm_2 (List.mem_of_getElem? (i := 227) (by decide +kernel)) rfl
theorem ml_J0_1059 : Cond.methodLink RJ0 1059 yJ3_checkIndex_8e157 ∈ tb := tbm_2 (List.mem_of_getElem? (i := 229) (by decide +kernel)) rfl
theorem st_J3_checkIndex_8e157 : Cond.static yJ3_checkIndex_8e157 ∈ tb := tbm_2 (List.mem_of_getElem? (i := 230) (by decide +kernel)) rfl
theorem co_J3_checkIndex_8e157 : Cond.code yJ3_checkIndex_8e157 cJ3_checkIndex_8e157 3 (some FieldType.int) ∈ tb := tbm_2 (List.mem_of_getElem? (i := 231) (by decide +kernel)) rfl
theorem ml_J0_498 : Cond.methodLink RJ0 498 yJ2_charAt_3b067 ∈ tb := tbm_2 (List.mem_of_getElem? (i := 232) (by decide +kernel)) rfl
theorem st_J2_charAt_3b067 : Cond.static yJ2_charAt_3b067 ∈ tb := tbm_2 (List.mem_of_getElem? (i := 233) (by decide +kernel)) rfl
theorem co_J2_charAt_3b067 : Cond.code yJ2_charAt_3b067 cJ2_charAt_3b067 2 (some FieldType.char) ∈ tb := tbm_2 (List.mem_of_getElem? (i := 234) (by decide +kernel)) rfl
theorem ml_J2_67 : Cond.methodLink RJ2 67 yJ2_checkIndex_2214a ∈ tb := tbm_2 (List.mem_of_getElem? (i := 235) (by decide +kernel)) rfl
theorem st_J2_checkIndex_2214a : Cond.static yJ2_checkIndex_2214a ∈ tb := tbm_2 (List.mem_of_getElem? (i := 236) (by decide +kernel)) rfl
theorem co_J2_checkIndex_2214a : Cond.code yJ2_checkIndex_2214a cJ2_checkIndex_2214a 2 none ∈ tb := tbm_2 (List.mem_of_getElem? (i := 237) (by decide +kernel)) rfl
theorem ml_J2_48 : Cond.methodLink RJ2 48 yJ2_length_9d52b ∈ tb := tbm_2 (List.mem_of_getElem? (i := 238) (by decide +kernel)) rfl
theorem st_J2_length_9d52b : Cond.static yJ2_length_9d52b ∈ tb := tbm_2 (List.mem_of_getElem? (i := 239) (by decide +kernel)) rfl
theorem co_J2_length_9d52b : Cond.code yJ2_length_9d52b cJ2_length_9d52b 1 (some FieldType.int) ∈ tb := tbm_3 (List.mem_of_getElem? (i := 0) (by decide +kernel)) rfl
theorem ml_J2_414 : Cond.methodLink RJ2 414 yJ0_checkIndex_df160 ∈ tb := tbm_3 (List.mem_of_getElem? (i := 1) (by decide +kernel)) rfl
theorem ml_J2_71 : Cond.methodLink RJ2 71 yJ2_getChar_3b067 ∈ tb := tbm_3 (List.mem_of_getElem? (i := 2) (by decide +kernel)) rfl
theorem st_J2_getChar_3b067 : Cond.static yJ2_getChar_3b067 ∈ tb := tbm_3 (List.mem_of_getElem? (i := 3) (by decide +kernel)) rfl
theorem co_J2_getChar_3b067 : Cond.code yJ2_getChar_3b067 cJ2_getChar_3b067 2 (some FieldType.char) ∈ tb := tbm_3 (List.mem_of_getElem? (i := 4) (by decide +kernel)) rfl
theorem fl_J2_44 : Cond.fieldLink RJ2 44 "java/lang/StringUTF16" "$assertionsDisabled" "Z" ∈ tb := tbm_3 (List.mem_of_getElem? (i := 5) (by decide +kernel)) rfl
theorem fl_J2_59 : Cond.fieldLink RJ2 59 "java/lang/StringUTF16" "HI_BYTE_SHIFT" "I" ∈ tb := tbm_3 (List.mem_of_getElem? (i := 7) (by decide +kernel)) rfl
theorem fl_J2_63 : Cond.fieldLink RJ2 63 "java/lang/StringUTF16" "LO_BYTE_SHIFT" "I" ∈ tb := tbm_3 (List.mem_of_getElem? (i := 9) (by decide +kernel)) rfl
theorem ml_X2_44 : Cond.methodLink RX2 44 yX2_readSun ∈ tb := tbm_3 (List.mem_of_getElem? (i := 11) (by decide +kernel)) rfl
theorem im_X2_readSun : Cond.instanceMethod yX2_readSun ∈ tb := tbm_3 (List.mem_of_getElem? (i := 13) (by decide +kernel)) rfl
theorem co_X2_readSun : Cond.code yX2_readSun cX2_readSun 3 (some FieldType.boolean) ∈ tb := tbm_3 (List.mem_of_getElem? (i := 14) (by decide +kernel)) rfl
theorem ml_X2_67 : Cond.methodLink RX2 67 yX2_isNumberTo ∈ tb := tbm_3 (List.mem_of_getElem? (i := 15) (by decide +kernel)) rfl
theorem im_X2_isNumberTo : Cond.instanceMethod yX2_isNumberTo ∈ tb := tbm_3 (List.mem_of_getElem? (i := 17) (by decide +kernel)) rfl
theorem co_X2_isNumberTo : Cond.code yX2_isNumberTo cX2_isNumberTo 2 (some FieldType.boolean) ∈ tb := tbm_3 (List.mem_of_getElem? (i := 18) (by decide +kernel)) rfl
theorem ml_X2_49 : Cond.methodLink RX2 49 yX2_readGoes ∈ tb := tbm_3 (List.mem_of_getElem? (i := 20) (by decide +kernel)) rfl
theorem im_X2_readGoes : Cond.instanceMethod yX2_readGoes ∈ tb := tbm_3 (List.mem_of_getElem? (i := 22) (by decide +kernel)) rfl
theorem co_X2_readGoes : Cond.code yX2_readGoes cX2_readGoes 2 (some FieldType.boolean) ∈ tb := tbm_3 (List.mem_of_getElem? (i := 23) (by decide +kernel)) rfl
theorem ml_X2_81 : Cond.methodLink RX2 81 yX1_seat ∈ tb := tbm_3 (List.mem_of_getElem? (i := 24) (by decide +kernel)) rfl
theorem ml_X2_52 : Cond.methodLink RX2 52 yX2_kindNamed ∈ tb := tbm_3 (List.mem_of_getElem? (i := 25) (by decide +kernel)) rfl
theorem im_X2_kindNamed : Cond.instanceMethod yX2_kindNamed ∈ tb := tbm_3 (List.mem_of_getElem? (i := 27) (by decide +kernel)) rfl
theorem co_X2_kindNamed : Cond.code yX2_kindNamed cX2_kindNamed 2 (some FieldType.int) ∈ tb := tbm_3 (List.mem_of_getElem? (i := 28) (by decide +kernel)) rfl
theorem ml_X2_97 : Cond.methodLink RX2 97 yX2_nameOf ∈ tb := tbm_3 (List.mem_of_getElem? (i := 29) (by decide +kernel)) rfl
theorem st_X2_nameOf : Cond.static yX2_nameOf ∈ tb := tbm_3 (List.mem_of_getElem? (i := 30) (by decide +kernel)) rfl
theorem co_X2_nameOf : Cond.code yX2_nameOf cX2_nameOf 1 (some (FieldType.object "java/lang/String")) ∈ tb := tbm_3 (List.mem_of_getElem? (i := 31) (by decide +kernel)) rfl
theorem ml_X2_61 : Cond.methodLink RX2 61 yX2_readPerson ∈ tb := tbm_3 (List.mem_of_getElem? (i := 38) (by decide +kernel)) rfl
theorem im_X2_readPerson : Cond.instanceMethod yX2_readPerson ∈ tb := tbm_3 (List.mem_of_getElem? (i := 40) (by decide +kernel)) rfl
theorem co_X2_readPerson : Cond.code yX2_readPerson cX2_readPerson 5 (some FieldType.boolean) ∈ tb := tbm_3 (List.mem_of_getElem? (i := 41) (by decide +kernel)) rfl
theorem ml_X2_71 : Cond.methodLink RX2 71 yX1_add ∈ tb := tbm_3 (List.mem_of_getElem? (i := 43) (by decide +kernel)) rfl
theorem ml_X2_77 : Cond.methodLink RX2 77 yX1_isFreeFor ∈ tb := tbm_3 (List.mem_of_getElem? (i := 45) (by decide +kernel)) rfl
theorem ac_46 : Cond.arrayClass FieldType.byte ∈ tb := tbm_3 (List.mem_of_getElem? (i := 46) (by decide +kernel)) rfl
theorem ml_L_118 : Cond.methodLink RL 118 yX4_sheet ∈ tb := tbm_3 (List.mem_of_getElem? (i := 47) (by decide +kernel)) rfl
theorem im_X4_sheet : Cond.instanceMethod yX4_sheet ∈ tb := tbm_3 (List.mem_of_getElem? (i := 48) (by decide +kernel)) rfl
theorem se_X4_sheet : Cond.selects RX4 yX4_sheet yX4_sheet ∈ tb := tbm_3 (List.mem_of_getElem? (i := 49) (by decide +kernel)) rfl
theorem co_X4_sheet : Cond.code yX4_sheet cX4_sheet 5 (some FieldType.int) ∈ tb := tbm_3 (List.mem_of_getElem? (i := 50) (by decide +kernel)) rfl
theorem ml_X4_184 : Cond.methodLink RX4 184 yX4_sheetAt ∈ tb := tbm_3 (List.mem_of_getElem? (i := 51) (by decide +kernel)) rfl
theorem im_X4_sheetAt : Cond.instanceMethod yX4_sheetAt ∈ tb := tbm_3 (List.mem_of_getElem? (i := 53) (by decide +kernel)) rfl
theorem co_X4_sheetAt : Cond.code yX4_sheetAt cX4_sheetAt 2 (some (FieldType.object "TanRow$Sheet")) ∈ tb := tbm_3 (List.mem_of_getElem? (i := 54) (by decide +kernel)) rfl
theorem ct_X4_188 : Cond.constant RX4 188 (-1000000007) ∈ tb := tbm_3 (List.mem_of_getElem? (i := 55) (by decide +kernel)) rfl
theorem ml_X4_189 : Cond.methodLink RX4 189 yX0_begin ∈ tb := tbm_3 (List.mem_of_getElem? (i := 56) (by decide +kernel)) rfl
theorem im_X0_begin : Cond.instanceMethod yX0_begin ∈ tb := tbm_3 (List.mem_of_getElem? (i := 57) (by decide +kernel)) rfl
theorem se_X0_begin : Cond.selects RX0 yX0_begin yX0_begin ∈ tb := tbm_3 (List.mem_of_getElem? (i := 58) (by decide +kernel)) rfl
theorem co_X0_begin : Cond.code yX0_begin cX0_begin 3 none ∈ tb := tbm_3 (List.mem_of_getElem? (i := 59) (by decide +kernel)) rfl
theorem ml_X0_22 : Cond.methodLink RX0 22 yJ7_fill_d0a16 ∈ tb := tbm_3 (List.mem_of_getElem? (i := 60) (by decide +kernel)) rfl
theorem st_J7_fill_d0a16 : Cond.static yJ7_fill_d0a16 ∈ tb := tbm_3 (List.mem_of_getElem? (i := 61) (by decide +kernel)) rfl
theorem co_J7_fill_d0a16 : Cond.code yJ7_fill_d0a16 cJ7_fill_d0a16 5 none ∈ tb := tbm_3 (List.mem_of_getElem? (i := 62) (by decide +kernel)) rfl
theorem ml_L_124 : Cond.methodLink RL 124 yX4_write ∈ tb := tbm_3 (List.mem_of_getElem? (i := 63) (by decide +kernel)) rfl
theorem im_X4_write : Cond.instanceMethod yX4_write ∈ tb := tbm_3 (List.mem_of_getElem? (i := 64) (by decide +kernel)) rfl
theorem se_X4_write : Cond.selects RX4 yX4_write yX4_write ∈ tb := tbm_3 (List.mem_of_getElem? (i := 65) (by decide +kernel)) rfl
theorem co_X4_write : Cond.code yX4_write cX4_write 8 (some FieldType.long) ∈ tb := tbm_3 (List.mem_of_getElem? (i := 66) (by decide +kernel)) rfl
theorem ml_X4_193 : Cond.methodLink RX4 193 yX0_isMissing ∈ tb := tbm_3 (List.mem_of_getElem? (i := 67) (by decide +kernel)) rfl
theorem im_X0_isMissing : Cond.instanceMethod yX0_isMissing ∈ tb := tbm_3 (List.mem_of_getElem? (i := 68) (by decide +kernel)) rfl
theorem se_X0_isMissing : Cond.selects RX0 yX0_isMissing yX0_isMissing ∈ tb := tbm_3 (List.mem_of_getElem? (i := 69) (by decide +kernel)) rfl
theorem co_X0_isMissing : Cond.code yX0_isMissing cX0_isMissing 1 (some FieldType.boolean) ∈ tb := tbm_3 (List.mem_of_getElem? (i := 70) (by decide +kernel)) rfl
theorem ct_X4_197 : Cond.constant RX4 197 (-1000000006) ∈ tb := tbm_3 (List.mem_of_getElem? (i := 71) (by decide +kernel)) rfl
theorem ml_X4_202 : Cond.methodLink RX4 202 yX0_put ∈ tb := tbm_3 (List.mem_of_getElem? (i := 72) (by decide +kernel)) rfl
theorem im_X0_put : Cond.instanceMethod yX0_put ∈ tb := tbm_3 (List.mem_of_getElem? (i := 73) (by decide +kernel)) rfl
theorem se_X0_put : Cond.selects RX0 yX0_put yX0_put ∈ tb := tbm_3 (List.mem_of_getElem? (i := 74) (by decide +kernel)) rfl
theorem co_X0_put : Cond.code yX0_put cX0_put 4 none ∈ tb := tbm_3 (List.mem_of_getElem? (i := 75) (by decide +kernel)) rfl
theorem ml_L_129 : Cond.methodLink RL 129 yX4_copy ∈ tb := tbm_3 (List.mem_of_getElem? (i := 76) (by decide +kernel)) rfl
theorem im_X4_copy : Cond.instanceMethod yX4_copy ∈ tb := tbm_3 (List.mem_of_getElem? (i := 77) (by decide +kernel)) rfl
theorem se_X4_copy : Cond.selects RX4 yX4_copy yX4_copy ∈ tb := tbm_3 (List.mem_of_getElem? (i := 78) (by decide +kernel)) rfl
theorem co_X4_copy : Cond.code yX4_copy cX4_copy 8 (some FieldType.int) ∈ tb := tbm_3 (List.mem_of_getElem? (i := 79) (by decide +kernel)) rfl
theorem ml_X4_209 : Cond.methodLink RX4 209 yX0_has ∈ tb := tbm_3 (List.mem_of_getElem? (i := 80) (by decide +kernel)) rfl
theorem im_X0_has : Cond.instanceMethod yX0_has ∈ tb := tbm_3 (List.mem_of_getElem? (i := 81) (by decide +kernel)) rfl
theorem se_X0_has : Cond.selects RX0 yX0_has yX0_has ∈ tb := tbm_3 (List.mem_of_getElem? (i := 82) (by decide +kernel)) rfl
theorem co_X0_has : Cond.code yX0_has cX0_has 3 (some FieldType.boolean) ∈ tb := tbm_3 (List.mem_of_getElem? (i := 83) (by decide +kernel)) rfl
theorem ml_X4_212 : Cond.methodLink RX4 212 arraycopyName ∈ tb := tbm_3 (List.mem_of_getElem? (i := 84) (by decide +kernel)) rfl
theorem ml_L_134 : Cond.methodLink RL 134 yX4_lays ∈ tb := tbm_3 (List.mem_of_getElem? (i := 85) (by decide +kernel)) rfl
theorem im_X4_lays : Cond.instanceMethod yX4_lays ∈ tb := tbm_3 (List.mem_of_getElem? (i := 86) (by decide +kernel)) rfl
theorem se_X4_lays : Cond.selects RX4 yX4_lays yX4_lays ∈ tb := tbm_3 (List.mem_of_getElem? (i := 87) (by decide +kernel)) rfl
theorem co_X4_lays : Cond.code yX4_lays cX4_lays 7 (some FieldType.int) ∈ tb := tbm_3 (List.mem_of_getElem? (i := 88) (by decide +kernel)) rfl
theorem ct_X4_218 : Cond.constantLong RX4 218 (9) ∈ tb := tbm_3 (List.mem_of_getElem? (i := 89) (by decide +kernel)) rfl
theorem ml_L_138 : Cond.methodLink RL 138 yX4_book ∈ tb := tbm_3 (List.mem_of_getElem? (i := 90) (by decide +kernel)) rfl
theorem im_X4_book : Cond.instanceMethod yX4_book ∈ tb := tbm_3 (List.mem_of_getElem? (i := 91) (by decide +kernel)) rfl
theorem se_X4_book : Cond.selects RX4 yX4_book yX4_book ∈ tb := tbm_3 (List.mem_of_getElem? (i := 92) (by decide +kernel)) rfl
theorem co_X4_book : Cond.code yX4_book cX4_book 5 (some FieldType.int) ∈ tb := tbm_3 (List.mem_of_getElem? (i := 93) (by decide +kernel)) rfl
theorem ml_L_142 : Cond.methodLink RL 142 yX4_read ∈ tb := tbm_3 (List.mem_of_getElem? (i := 94) (by decide +kernel)) rfl
theorem im_X4_read : Cond.instanceMethod yX4_read ∈ tb := tbm_3 (List.mem_of_getElem? (i := 95) (by decide +kernel)) rfl
theorem se_X4_read : Cond.selects RX4 yX4_read yX4_read ∈ tb := tbm_3 (List.mem_of_getElem? (i := 96) (by decide +kernel)) rfl
theorem co_X4_read : Cond.code yX4_read cX4_read 8 (some FieldType.int) ∈ tb := tbm_3 (List.mem_of_getElem? (i := 97) (by decide +kernel)) rfl
theorem ml_X4_220 : Cond.methodLink RX4 220 yX4_trialGoesAs ∈ tb := tbm_3 (List.mem_of_getElem? (i := 98) (by decide +kernel)) rfl
theorem im_X4_trialGoesAs : Cond.instanceMethod yX4_trialGoesAs ∈ tb := tbm_3 (List.mem_of_getElem? (i := 100) (by decide +kernel)) rfl
theorem co_X4_trialGoesAs : Cond.code yX4_trialGoesAs cX4_trialGoesAs 4 (some FieldType.boolean) ∈ tb := tbm_3 (List.mem_of_getElem? (i := 101) (by decide +kernel)) rfl
theorem ml_L_146 : Cond.methodLink RL 146 yX4_image ∈ tb := tbm_3 (List.mem_of_getElem? (i := 102) (by decide +kernel)) rfl
theorem im_X4_image : Cond.instanceMethod yX4_image ∈ tb := tbm_3 (List.mem_of_getElem? (i := 103) (by decide +kernel)) rfl
theorem se_X4_image : Cond.selects RX4 yX4_image yX4_image ∈ tb := tbm_3 (List.mem_of_getElem? (i := 104) (by decide +kernel)) rfl
theorem co_X4_image : Cond.code yX4_image cX4_image 1 (some FieldType.int) ∈ tb := tbm_3 (List.mem_of_getElem? (i := 105) (by decide +kernel)) rfl
theorem ml_L_150 : Cond.methodLink RL 150 yX4_undo ∈ tb := tbm_3 (List.mem_of_getElem? (i := 106) (by decide +kernel)) rfl
theorem im_X4_undo : Cond.instanceMethod yX4_undo ∈ tb := tbm_3 (List.mem_of_getElem? (i := 107) (by decide +kernel)) rfl
theorem se_X4_undo : Cond.selects RX4 yX4_undo yX4_undo ∈ tb := tbm_3 (List.mem_of_getElem? (i := 108) (by decide +kernel)) rfl
theorem co_X4_undo : Cond.code yX4_undo cX4_undo 1 (some FieldType.int) ∈ tb := tbm_3 (List.mem_of_getElem? (i := 109) (by decide +kernel)) rfl
theorem ml_L_154 : Cond.methodLink RL 154 yX4_tear ∈ tb := tbm_3 (List.mem_of_getElem? (i := 110) (by decide +kernel)) rfl
theorem im_X4_tear : Cond.instanceMethod yX4_tear ∈ tb := tbm_3 (List.mem_of_getElem? (i := 111) (by decide +kernel)) rfl
theorem se_X4_tear : Cond.selects RX4 yX4_tear yX4_tear ∈ tb := tbm_3 (List.mem_of_getElem? (i := 112) (by decide +kernel)) rfl
theorem co_X4_tear : Cond.code yX4_tear cX4_tear 2 (some FieldType.int) ∈ tb := tbm_3 (List.mem_of_getElem? (i := 113) (by decide +kernel)) rfl
theorem ml_L_158 : Cond.methodLink RL 158 yX4_count ∈ tb := tbm_3 (List.mem_of_getElem? (i := 114) (by decide +kernel)) rfl
theorem im_X4_count : Cond.instanceMethod yX4_count ∈ tb := tbm_3 (List.mem_of_getElem? (i := 115) (by decide +kernel)) rfl
theorem se_X4_count : Cond.selects RX4 yX4_count yX4_count ∈ tb := tbm_3 (List.mem_of_getElem? (i := 116) (by decide +kernel)) rfl
theorem co_X4_count : Cond.code yX4_count cX4_count 2 (some FieldType.int) ∈ tb := tbm_3 (List.mem_of_getElem? (i := 117) (by decide +kernel)) rfl
theorem ml_X4_224 : Cond.methodLink RX4 224 yJ6_bitCount_0f7a4 ∈ tb := tbm_3 (List.mem_of_getElem? (i := 118) (by decide +kernel)) rfl
theorem st_J6_bitCount_0f7a4 : Cond.static yJ6_bitCount_0f7a4 ∈ tb := tbm_3 (List.mem_of_getElem? (i := 119) (by decide +kernel)) rfl
theorem co_J6_bitCount_0f7a4 : Cond.code yJ6_bitCount_0f7a4 cJ6_bitCount_0f7a4 1 (some FieldType.int) ∈ tb := tbm_3 (List.mem_of_getElem? (i := 120) (by decide +kernel)) rfl
theorem ct_J6_265 : Cond.constant RJ6 265 (1431655765) ∈ tb := tbm_3 (List.mem_of_getElem? (i := 121) (by decide +kernel)) rfl
theorem ct_J6_266 : Cond.constant RJ6 266 (858993459) ∈ tb := tbm_3 (List.mem_of_getElem? (i := 122) (by decide +kernel)) rfl
theorem ct_J6_267 : Cond.constant RJ6 267 (252645135) ∈ tb := tbm_3 (List.mem_of_getElem? (i := 123) (by decide +kernel)) rfl
theorem ml_X4_229 : Cond.methodLink RX4 229 yX1_sunOfAll ∈ tb := tbm_3 (List.mem_of_getElem? (i := 124) (by decide +kernel)) rfl
theorem im_X1_sunOfAll : Cond.instanceMethod yX1_sunOfAll ∈ tb := tbm_3 (List.mem_of_getElem? (i := 125) (by decide +kernel)) rfl
theorem se_X1_sunOfAll : Cond.selects RX1 yX1_sunOfAll yX1_sunOfAll ∈ tb := tbm_3 (List.mem_of_getElem? (i := 126) (by decide +kernel)) rfl
theorem co_X1_sunOfAll : Cond.code yX1_sunOfAll cX1_sunOfAll 3 (some FieldType.int) ∈ tb := tbm_3 (List.mem_of_getElem? (i := 127) (by decide +kernel)) rfl
theorem ml_L_162 : Cond.methodLink RL 162 yX4_status ∈ tb := tbm_3 (List.mem_of_getElem? (i := 128) (by decide +kernel)) rfl
theorem im_X4_status : Cond.instanceMethod yX4_status ∈ tb := tbm_3 (List.mem_of_getElem? (i := 129) (by decide +kernel)) rfl
theorem se_X4_status : Cond.selects RX4 yX4_status yX4_status ∈ tb := tbm_3 (List.mem_of_getElem? (i := 130) (by decide +kernel)) rfl
theorem co_X4_status : Cond.code yX4_status cX4_status 4 (some FieldType.int) ∈ tb := tbm_3 (List.mem_of_getElem? (i := 131) (by decide +kernel)) rfl
theorem cl_L_10 : Cond.classLink RL 10 RX5 ∈ tb := tbm_3 (List.mem_of_getElem? (i := 132) (by decide +kernel)) rfl
theorem it_X5 : Cond.instantiable RX5 16 ∈ tb := tbm_3 (List.mem_of_getElem? (i := 133) (by decide +kernel)) rfl
theorem ml_L_12 : Cond.methodLink RL 12 yX5_init ∈ tb := tbm_3 (List.mem_of_getElem? (i := 134) (by decide +kernel)) rfl
theorem im_X5_init : Cond.instanceMethod yX5_init ∈ tb := tbm_3 (List.mem_of_getElem? (i := 135) (by decide +kernel)) rfl
theorem co_X5_init : Cond.code yX5_init cX5_init 2 none ∈ tb := tbm_3 (List.mem_of_getElem? (i := 136) (by decide +kernel)) rfl
theorem ml_X5_3 : Cond.methodLink RX5 3 objectInit ∈ tb := tbm_3 (List.mem_of_getElem? (i := 137) (by decide +kernel)) rfl
theorem fl_X5_9 : Cond.fieldLink RX5 9 "TanRowModel" "m" "[I" ∈ tb := tbm_3 (List.mem_of_getElem? (i := 138) (by decide +kernel)) rfl
theorem fl_X5_13 : Cond.fieldLink RX5 13 "TanRowModel" "kept" "[I" ∈ tb := tbm_3 (List.mem_of_getElem? (i := 139) (by decide +kernel)) rfl
theorem fl_X5_16 : Cond.fieldLink RX5 16 "TanRowModel" "was" "[I" ∈ tb := tbm_3 (List.mem_of_getElem? (i := 140) (by decide +kernel)) rfl
theorem fl_X5_228 : Cond.fieldLink RX5 228 "TanRowModel" "isKept" "Z" ∈ tb := tbm_3 (List.mem_of_getElem? (i := 141) (by decide +kernel)) rfl
theorem fl_X5_19 : Cond.fieldLink RX5 19 "TanRowModel" "found" "[I" ∈ tb := tbm_3 (List.mem_of_getElem? (i := 142) (by decide +kernel)) rfl
theorem fl_X5_22 : Cond.fieldLink RX5 22 "TanRowModel" "gifts" "[I" ∈ tb := tbm_3 (List.mem_of_getElem? (i := 143) (by decide +kernel)) rfl
theorem fl_X5_25 : Cond.fieldLink RX5 25 "TanRowModel" "tape" "[I" ∈ tb := tbm_3 (List.mem_of_getElem? (i := 144) (by decide +kernel)) rfl
theorem fl_X5_154 : Cond.fieldLink RX5 154 "TanRowModel" "taped" "I" ∈ tb := tbm_3 (List.mem_of_getElem? (i := 145) (by decide +kernel)) rfl
theorem fl_X5_177 : Cond.fieldLink RX5 177 "TanRowModel" "token" "I" ∈ tb := tbm_3 (List.mem_of_getElem? (i := 146) (by decide +kernel)) rfl
theorem fl_X5_161 : Cond.fieldLink RX5 161 "TanRowModel" "begin" "I" ∈ tb := tbm_3 (List.mem_of_getElem? (i := 147) (by decide +kernel)) rfl
theorem fl_X5_164 : Cond.fieldLink RX5 164 "TanRowModel" "at" "I" ∈ tb := tbm_3 (List.mem_of_getElem? (i := 148) (by decide +kernel)) rfl
theorem fl_X5_174 : Cond.fieldLink RX5 174 "TanRowModel" "value" "I" ∈ tb := tbm_3 (List.mem_of_getElem? (i := 149) (by decide +kernel)) rfl
theorem fl_X5_183 : Cond.fieldLink RX5 183 "TanRowModel" "bad" "Z" ∈ tb := tbm_3 (List.mem_of_getElem? (i := 150) (by decide +kernel)) rfl
theorem fl_X5_28 : Cond.fieldLink RX5 28 "TanRowModel" "bitsOf" "[I" ∈ tb := tbm_3 (List.mem_of_getElem? (i := 151) (by decide +kernel)) rfl
theorem fl_X5_31 : Cond.fieldLink RX5 31 "TanRowModel" "sizeOf" "[I" ∈ tb := tbm_3 (List.mem_of_getElem? (i := 152) (by decide +kernel)) rfl
theorem fl_X5_34 : Cond.fieldLink RX5 34 "TanRowModel" "cells" "[J" ∈ tb := tbm_3 (List.mem_of_getElem? (i := 153) (by decide +kernel)) rfl
theorem ml_L_17 : Cond.methodLink RL 17 yX5_sun ∈ tb := tbm_3 (List.mem_of_getElem? (i := 187) (by decide +kernel)) rfl
theorem im_X5_sun : Cond.instanceMethod yX5_sun ∈ tb := tbm_3 (List.mem_of_getElem? (i := 188) (by decide +kernel)) rfl
theorem se_X5_sun : Cond.selects RX5 yX5_sun yX5_sun ∈ tb := tbm_3 (List.mem_of_getElem? (i := 189) (by decide +kernel)) rfl
theorem co_X5_sun : Cond.code yX5_sun cX5_sun 3 (some FieldType.int) ∈ tb := tbm_3 (List.mem_of_getElem? (i := 190) (by decide +kernel)) rfl
theorem ml_X5_44 : Cond.methodLink RX5 44 yX5_in ∈ tb := tbm_3 (List.mem_of_getElem? (i := 191) (by decide +kernel)) rfl
theorem st_X5_in : Cond.static yX5_in ∈ tb := tbm_3 (List.mem_of_getElem? (i := 192) (by decide +kernel)) rfl
theorem co_X5_in : Cond.code yX5_in cX5_in 4 (some FieldType.boolean) ∈ tb := tbm_3 (List.mem_of_getElem? (i := 193) (by decide +kernel)) rfl
theorem ml_X5_73 : Cond.methodLink RX5 73 yX5_becomes ∈ tb := tbm_3 (List.mem_of_getElem? (i := 194) (by decide +kernel)) rfl
theorem im_X5_becomes : Cond.instanceMethod yX5_becomes ∈ tb := tbm_3 (List.mem_of_getElem? (i := 196) (by decide +kernel)) rfl
theorem co_X5_becomes : Cond.code yX5_becomes cX5_becomes 4 (some FieldType.int) ∈ tb := tbm_3 (List.mem_of_getElem? (i := 197) (by decide +kernel)) rfl
theorem ct_X5_38 : Cond.constant RX5 38 (-1000000001) ∈ tb := tbm_3 (List.mem_of_getElem? (i := 198) (by decide +kernel)) rfl
theorem ml_X5_40 : Cond.methodLink RX5 40 yX5_finds ∈ tb := tbm_3 (List.mem_of_getElem? (i := 199) (by decide +kernel)) rfl
theorem im_X5_finds : Cond.instanceMethod yX5_finds ∈ tb := tbm_3 (List.mem_of_getElem? (i := 201) (by decide +kernel)) rfl
theorem co_X5_finds : Cond.code yX5_finds cX5_finds 2 (some FieldType.int) ∈ tb := tbm_3 (List.mem_of_getElem? (i := 202) (by decide +kernel)) rfl
theorem ml_L_22 : Cond.methodLink RL 22 yX5_chair ∈ tb := tbm_3 (List.mem_of_getElem? (i := 203) (by decide +kernel)) rfl
theorem im_X5_chair : Cond.instanceMethod yX5_chair ∈ tb := tbm_3 (List.mem_of_getElem? (i := 204) (by decide +kernel)) rfl
theorem se_X5_chair : Cond.selects RX5 yX5_chair yX5_chair ∈ tb := tbm_3 (List.mem_of_getElem? (i := 205) (by decide +kernel)) rfl
theorem co_X5_chair : Cond.code yX5_chair cX5_chair 2 (some FieldType.int) ∈ tb := tbm_3 (List.mem_of_getElem? (i := 206) (by decide +kernel)) rfl
theorem ml_X5_59 : Cond.methodLink RX5 59 yX5_onChair ∈ tb := tbm_3 (List.mem_of_getElem? (i := 207) (by decide +kernel)) rfl
theorem im_X5_onChair : Cond.instanceMethod yX5_onChair ∈ tb := tbm_3 (List.mem_of_getElem? (i := 209) (by decide +kernel)) rfl
theorem co_X5_onChair : Cond.code yX5_onChair cX5_onChair 4 (some FieldType.int) ∈ tb := tbm_3 (List.mem_of_getElem? (i := 210) (by decide +kernel)) rfl
theorem ml_X5_52 : Cond.methodLink RX5 52 yX5_it ∈ tb := tbm_3 (List.mem_of_getElem? (i := 211) (by decide +kernel)) rfl
theorem im_X5_it : Cond.instanceMethod yX5_it ∈ tb := tbm_3 (List.mem_of_getElem? (i := 213) (by decide +kernel)) rfl
theorem co_X5_it : Cond.code yX5_it cX5_it 3 (some FieldType.int) ∈ tb := tbm_3 (List.mem_of_getElem? (i := 214) (by decide +kernel)) rfl
theorem ml_L_26 : Cond.methodLink RL 26 yX5_now ∈ tb := tbm_3 (List.mem_of_getElem? (i := 215) (by decide +kernel)) rfl
theorem im_X5_now : Cond.instanceMethod yX5_now ∈ tb := tbm_3 (List.mem_of_getElem? (i := 216) (by decide +kernel)) rfl
theorem se_X5_now : Cond.selects RX5 yX5_now yX5_now ∈ tb := tbm_3 (List.mem_of_getElem? (i := 217) (by decide +kernel)) rfl
theorem co_X5_now : Cond.code yX5_now cX5_now 2 (some FieldType.int) ∈ tb := tbm_3 (List.mem_of_getElem? (i := 218) (by decide +kernel)) rfl
theorem ml_X5_62 : Cond.methodLink RX5 62 yX5_sunNow ∈ tb := tbm_3 (List.mem_of_getElem? (i := 219) (by decide +kernel)) rfl
theorem im_X5_sunNow : Cond.instanceMethod yX5_sunNow ∈ tb := tbm_3 (List.mem_of_getElem? (i := 221) (by decide +kernel)) rfl
theorem co_X5_sunNow : Cond.code yX5_sunNow cX5_sunNow 1 (some FieldType.int) ∈ tb := tbm_3 (List.mem_of_getElem? (i := 222) (by decide +kernel)) rfl
theorem ml_X5_82 : Cond.methodLink RX5 82 yX5_sitters ∈ tb := tbm_3 (List.mem_of_getElem? (i := 223) (by decide +kernel)) rfl
theorem im_X5_sitters : Cond.instanceMethod yX5_sitters ∈ tb := tbm_3 (List.mem_of_getElem? (i := 225) (by decide +kernel)) rfl
theorem co_X5_sitters : Cond.code yX5_sitters cX5_sitters 3 (some FieldType.int) ∈ tb := tbm_3 (List.mem_of_getElem? (i := 226) (by decide +kernel)) rfl
theorem ml_X5_56 : Cond.methodLink RX5 56 yX5_sits ∈ tb := tbm_3 (List.mem_of_getElem? (i := 227) (by decide +kernel)) rfl
theorem im_X5_sits : Cond.instanceMethod yX5_sits ∈ tb := tbm_3 (List.mem_of_getElem? (i := 229) (by decide +kernel)) rfl
theorem co_X5_sits : Cond.code yX5_sits cX5_sits 2 (some FieldType.boolean) ∈ tb := tbm_3 (List.mem_of_getElem? (i := 230) (by decide +kernel)) rfl
theorem ml_X5_85 : Cond.methodLink RX5 85 yX5_evenOnes ∈ tb := tbm_3 (List.mem_of_getElem? (i := 231) (by decide +kernel)) rfl
theorem im_X5_evenOnes : Cond.instanceMethod yX5_evenOnes ∈ tb := tbm_3 (List.mem_of_getElem? (i := 233) (by decide +kernel)) rfl
theorem co_X5_evenOnes : Cond.code yX5_evenOnes cX5_evenOnes 3 (some FieldType.int) ∈ tb := tbm_3 (List.mem_of_getElem? (i := 234) (by decide +kernel)) rfl
theorem ml_X5_79 : Cond.methodLink RX5 79 yX5_isEven ∈ tb := tbm_3 (List.mem_of_getElem? (i := 235) (by decide +kernel)) rfl
theorem im_X5_isEven : Cond.instanceMethod yX5_isEven ∈ tb := tbm_3 (List.mem_of_getElem? (i := 237) (by decide +kernel)) rfl
theorem co_X5_isEven : Cond.code yX5_isEven cX5_isEven 2 (some FieldType.boolean) ∈ tb := tbm_3 (List.mem_of_getElem? (i := 238) (by decide +kernel)) rfl
theorem ml_X5_88 : Cond.methodLink RX5 88 yX5_allBrown ∈ tb := tbm_3 (List.mem_of_getElem? (i := 239) (by decide +kernel)) rfl
theorem im_X5_allBrown : Cond.instanceMethod yX5_allBrown ∈ tb := tbm_4 (List.mem_of_getElem? (i := 1) (by decide +kernel)) rfl
theorem co_X5_allBrown : Cond.code yX5_allBrown cX5_allBrown 1 (some FieldType.int) ∈ tb := tbm_4 (List.mem_of_getElem? (i := 2) (by decide +kernel)) rfl
theorem ml_X5_76 : Cond.methodLink RX5 76 yX5_sums ∈ tb := tbm_4 (List.mem_of_getElem? (i := 3) (by decide +kernel)) rfl
theorem im_X5_sums : Cond.instanceMethod yX5_sums ∈ tb := tbm_4 (List.mem_of_getElem? (i := 5) (by decide +kernel)) rfl
theorem co_X5_sums : Cond.code yX5_sums cX5_sums 4 (some FieldType.int) ∈ tb := tbm_4 (List.mem_of_getElem? (i := 6) (by decide +kernel)) rfl
theorem ml_L_30 : Cond.methodLink RL 30 yX5_person ∈ tb := tbm_4 (List.mem_of_getElem? (i := 7) (by decide +kernel)) rfl
theorem im_X5_person : Cond.instanceMethod yX5_person ∈ tb := tbm_4 (List.mem_of_getElem? (i := 8) (by decide +kernel)) rfl
theorem se_X5_person : Cond.selects RX5 yX5_person yX5_person ∈ tb := tbm_4 (List.mem_of_getElem? (i := 9) (by decide +kernel)) rfl
theorem co_X5_person : Cond.code yX5_person cX5_person 2 (some FieldType.int) ∈ tb := tbm_4 (List.mem_of_getElem? (i := 10) (by decide +kernel)) rfl
theorem ct_X5_95 : Cond.constant RX5 95 (-1000000002) ∈ tb := tbm_4 (List.mem_of_getElem? (i := 11) (by decide +kernel)) rfl
theorem ml_X5_96 : Cond.methodLink RX5 96 yX5_comesAs ∈ tb := tbm_4 (List.mem_of_getElem? (i := 12) (by decide +kernel)) rfl
theorem im_X5_comesAs : Cond.instanceMethod yX5_comesAs ∈ tb := tbm_4 (List.mem_of_getElem? (i := 14) (by decide +kernel)) rfl
theorem co_X5_comesAs : Cond.code yX5_comesAs cX5_comesAs 5 (some FieldType.int) ∈ tb := tbm_4 (List.mem_of_getElem? (i := 15) (by decide +kernel)) rfl
theorem ml_X5_91 : Cond.methodLink RX5 91 yX5_put ∈ tb := tbm_4 (List.mem_of_getElem? (i := 16) (by decide +kernel)) rfl
theorem im_X5_put : Cond.instanceMethod yX5_put ∈ tb := tbm_4 (List.mem_of_getElem? (i := 18) (by decide +kernel)) rfl
theorem co_X5_put : Cond.code yX5_put cX5_put 4 none ∈ tb := tbm_4 (List.mem_of_getElem? (i := 19) (by decide +kernel)) rfl
theorem ml_L_34 : Cond.methodLink RL 34 yX5_of ∈ tb := tbm_4 (List.mem_of_getElem? (i := 20) (by decide +kernel)) rfl
theorem im_X5_of : Cond.instanceMethod yX5_of ∈ tb := tbm_4 (List.mem_of_getElem? (i := 21) (by decide +kernel)) rfl
theorem se_X5_of : Cond.selects RX5 yX5_of yX5_of ∈ tb := tbm_4 (List.mem_of_getElem? (i := 22) (by decide +kernel)) rfl
theorem co_X5_of : Cond.code yX5_of cX5_of 3 (some FieldType.int) ∈ tb := tbm_4 (List.mem_of_getElem? (i := 23) (by decide +kernel)) rfl
theorem ml_X5_48 : Cond.methodLink RX5 48 yX5_isPerson ∈ tb := tbm_4 (List.mem_of_getElem? (i := 24) (by decide +kernel)) rfl
theorem im_X5_isPerson : Cond.instanceMethod yX5_isPerson ∈ tb := tbm_4 (List.mem_of_getElem? (i := 26) (by decide +kernel)) rfl
theorem co_X5_isPerson : Cond.code yX5_isPerson cX5_isPerson 2 (some FieldType.boolean) ∈ tb := tbm_4 (List.mem_of_getElem? (i := 27) (by decide +kernel)) rfl
theorem ml_X5_99 : Cond.methodLink RX5 99 yX5_fades ∈ tb := tbm_4 (List.mem_of_getElem? (i := 28) (by decide +kernel)) rfl
theorem im_X5_fades : Cond.instanceMethod yX5_fades ∈ tb := tbm_4 (List.mem_of_getElem? (i := 30) (by decide +kernel)) rfl
theorem co_X5_fades : Cond.code yX5_fades cX5_fades 3 (some FieldType.int) ∈ tb := tbm_4 (List.mem_of_getElem? (i := 31) (by decide +kernel)) rfl
theorem ml_X5_66 : Cond.methodLink RX5 66 yX5_beside ∈ tb := tbm_4 (List.mem_of_getElem? (i := 32) (by decide +kernel)) rfl
theorem im_X5_beside : Cond.instanceMethod yX5_beside ∈ tb := tbm_4 (List.mem_of_getElem? (i := 34) (by decide +kernel)) rfl
theorem co_X5_beside : Cond.code yX5_beside cX5_beside 4 (some FieldType.int) ∈ tb := tbm_4 (List.mem_of_getElem? (i := 35) (by decide +kernel)) rfl
theorem ml_X5_102 : Cond.methodLink RX5 102 yX5_burnsFrom ∈ tb := tbm_4 (List.mem_of_getElem? (i := 36) (by decide +kernel)) rfl
theorem im_X5_burnsFrom : Cond.instanceMethod yX5_burnsFrom ∈ tb := tbm_4 (List.mem_of_getElem? (i := 38) (by decide +kernel)) rfl
theorem co_X5_burnsFrom : Cond.code yX5_burnsFrom cX5_burnsFrom 2 (some FieldType.int) ∈ tb := tbm_4 (List.mem_of_getElem? (i := 39) (by decide +kernel)) rfl
theorem ml_L_39 : Cond.methodLink RL 39 yX5_set ∈ tb := tbm_4 (List.mem_of_getElem? (i := 40) (by decide +kernel)) rfl
theorem im_X5_set : Cond.instanceMethod yX5_set ∈ tb := tbm_4 (List.mem_of_getElem? (i := 41) (by decide +kernel)) rfl
theorem se_X5_set : Cond.selects RX5 yX5_set yX5_set ∈ tb := tbm_4 (List.mem_of_getElem? (i := 42) (by decide +kernel)) rfl
theorem co_X5_set : Cond.code yX5_set cX5_set 5 (some FieldType.int) ∈ tb := tbm_4 (List.mem_of_getElem? (i := 43) (by decide +kernel)) rfl
theorem ml_L_43 : Cond.methodLink RL 43 yX5_turn ∈ tb := tbm_4 (List.mem_of_getElem? (i := 44) (by decide +kernel)) rfl
theorem im_X5_turn : Cond.instanceMethod yX5_turn ∈ tb := tbm_4 (List.mem_of_getElem? (i := 45) (by decide +kernel)) rfl
theorem se_X5_turn : Cond.selects RX5 yX5_turn yX5_turn ∈ tb := tbm_4 (List.mem_of_getElem? (i := 46) (by decide +kernel)) rfl
theorem co_X5_turn : Cond.code yX5_turn cX5_turn 3 (some FieldType.int) ∈ tb := tbm_4 (List.mem_of_getElem? (i := 47) (by decide +kernel)) rfl
theorem ml_L_47 : Cond.methodLink RL 47 yX5_as ∈ tb := tbm_4 (List.mem_of_getElem? (i := 48) (by decide +kernel)) rfl
theorem im_X5_as : Cond.instanceMethod yX5_as ∈ tb := tbm_4 (List.mem_of_getElem? (i := 49) (by decide +kernel)) rfl
theorem se_X5_as : Cond.selects RX5 yX5_as yX5_as ∈ tb := tbm_4 (List.mem_of_getElem? (i := 50) (by decide +kernel)) rfl
theorem co_X5_as : Cond.code yX5_as cX5_as 5 (some FieldType.int) ∈ tb := tbm_4 (List.mem_of_getElem? (i := 51) (by decide +kernel)) rfl
theorem ml_X5_105 : Cond.methodLink RX5 105 yX5_brownOf ∈ tb := tbm_4 (List.mem_of_getElem? (i := 52) (by decide +kernel)) rfl
theorem im_X5_brownOf : Cond.instanceMethod yX5_brownOf ∈ tb := tbm_4 (List.mem_of_getElem? (i := 54) (by decide +kernel)) rfl
theorem co_X5_brownOf : Cond.code yX5_brownOf cX5_brownOf 2 (some FieldType.int) ∈ tb := tbm_4 (List.mem_of_getElem? (i := 55) (by decide +kernel)) rfl
theorem ct_X5_108 : Cond.constant RX5 108 (-1000000003) ∈ tb := tbm_4 (List.mem_of_getElem? (i := 56) (by decide +kernel)) rfl
theorem ml_L_51 : Cond.methodLink RL 51 yX5_sit ∈ tb := tbm_4 (List.mem_of_getElem? (i := 57) (by decide +kernel)) rfl
theorem im_X5_sit : Cond.instanceMethod yX5_sit ∈ tb := tbm_4 (List.mem_of_getElem? (i := 58) (by decide +kernel)) rfl
theorem se_X5_sit : Cond.selects RX5 yX5_sit yX5_sit ∈ tb := tbm_4 (List.mem_of_getElem? (i := 59) (by decide +kernel)) rfl
theorem co_X5_sit : Cond.code yX5_sit cX5_sit 3 (some FieldType.int) ∈ tb := tbm_4 (List.mem_of_getElem? (i := 60) (by decide +kernel)) rfl
theorem ml_X5_109 : Cond.methodLink RX5 109 yX5_isFreeFor ∈ tb := tbm_4 (List.mem_of_getElem? (i := 61) (by decide +kernel)) rfl
theorem im_X5_isFreeFor : Cond.instanceMethod yX5_isFreeFor ∈ tb := tbm_4 (List.mem_of_getElem? (i := 63) (by decide +kernel)) rfl
theorem co_X5_isFreeFor : Cond.code yX5_isFreeFor cX5_isFreeFor 4 (some FieldType.boolean) ∈ tb := tbm_4 (List.mem_of_getElem? (i := 64) (by decide +kernel)) rfl
theorem ct_X5_113 : Cond.constant RX5 113 (-1000000005) ∈ tb := tbm_4 (List.mem_of_getElem? (i := 65) (by decide +kernel)) rfl
theorem ml_L_55 : Cond.methodLink RL 55 yX5_given ∈ tb := tbm_4 (List.mem_of_getElem? (i := 66) (by decide +kernel)) rfl
theorem im_X5_given : Cond.instanceMethod yX5_given ∈ tb := tbm_4 (List.mem_of_getElem? (i := 67) (by decide +kernel)) rfl
theorem se_X5_given : Cond.selects RX5 yX5_given yX5_given ∈ tb := tbm_4 (List.mem_of_getElem? (i := 68) (by decide +kernel)) rfl
theorem co_X5_given : Cond.code yX5_given cX5_given 3 (some FieldType.int) ∈ tb := tbm_4 (List.mem_of_getElem? (i := 69) (by decide +kernel)) rfl
theorem ml_X5_114 : Cond.methodLink RX5 114 yX5_givenTo ∈ tb := tbm_4 (List.mem_of_getElem? (i := 70) (by decide +kernel)) rfl
theorem im_X5_givenTo : Cond.instanceMethod yX5_givenTo ∈ tb := tbm_4 (List.mem_of_getElem? (i := 72) (by decide +kernel)) rfl
theorem co_X5_givenTo : Cond.code yX5_givenTo cX5_givenTo 4 (some FieldType.int) ∈ tb := tbm_4 (List.mem_of_getElem? (i := 73) (by decide +kernel)) rfl
theorem ml_X5_69 : Cond.methodLink RX5 69 yX5_glows ∈ tb := tbm_4 (List.mem_of_getElem? (i := 74) (by decide +kernel)) rfl
theorem im_X5_glows : Cond.instanceMethod yX5_glows ∈ tb := tbm_4 (List.mem_of_getElem? (i := 76) (by decide +kernel)) rfl
theorem co_X5_glows : Cond.code yX5_glows cX5_glows 7 (some FieldType.int) ∈ tb := tbm_4 (List.mem_of_getElem? (i := 77) (by decide +kernel)) rfl
theorem ml_L_59 : Cond.methodLink RL 59 yX5_hours ∈ tb := tbm_4 (List.mem_of_getElem? (i := 78) (by decide +kernel)) rfl
theorem im_X5_hours : Cond.instanceMethod yX5_hours ∈ tb := tbm_4 (List.mem_of_getElem? (i := 79) (by decide +kernel)) rfl
theorem se_X5_hours : Cond.selects RX5 yX5_hours yX5_hours ∈ tb := tbm_4 (List.mem_of_getElem? (i := 80) (by decide +kernel)) rfl
theorem co_X5_hours : Cond.code yX5_hours cX5_hours 2 (some FieldType.int) ∈ tb := tbm_4 (List.mem_of_getElem? (i := 81) (by decide +kernel)) rfl
theorem ct_X5_130 : Cond.constant RX5 130 (99999) ∈ tb := tbm_4 (List.mem_of_getElem? (i := 82) (by decide +kernel)) rfl
theorem ml_X5_131 : Cond.methodLink RX5 131 yX5_goesFor ∈ tb := tbm_4 (List.mem_of_getElem? (i := 83) (by decide +kernel)) rfl
theorem im_X5_goesFor : Cond.instanceMethod yX5_goesFor ∈ tb := tbm_4 (List.mem_of_getElem? (i := 85) (by decide +kernel)) rfl
theorem co_X5_goesFor : Cond.code yX5_goesFor cX5_goesFor 3 none ∈ tb := tbm_4 (List.mem_of_getElem? (i := 86) (by decide +kernel)) rfl
theorem ml_X5_127 : Cond.methodLink RX5 127 yX5_goes ∈ tb := tbm_4 (List.mem_of_getElem? (i := 87) (by decide +kernel)) rfl
theorem im_X5_goes : Cond.instanceMethod yX5_goes ∈ tb := tbm_4 (List.mem_of_getElem? (i := 89) (by decide +kernel)) rfl
theorem co_X5_goes : Cond.code yX5_goes cX5_goes 2 none ∈ tb := tbm_4 (List.mem_of_getElem? (i := 90) (by decide +kernel)) rfl
theorem ml_X5_123 : Cond.methodLink RX5 123 yX5_browns ∈ tb := tbm_4 (List.mem_of_getElem? (i := 91) (by decide +kernel)) rfl
theorem im_X5_browns : Cond.instanceMethod yX5_browns ∈ tb := tbm_4 (List.mem_of_getElem? (i := 93) (by decide +kernel)) rfl
theorem co_X5_browns : Cond.code yX5_browns cX5_browns 4 none ∈ tb := tbm_4 (List.mem_of_getElem? (i := 94) (by decide +kernel)) rfl
theorem ml_X5_117 : Cond.methodLink RX5 117 yX5_takesOf ∈ tb := tbm_4 (List.mem_of_getElem? (i := 95) (by decide +kernel)) rfl
theorem im_X5_takesOf : Cond.instanceMethod yX5_takesOf ∈ tb := tbm_4 (List.mem_of_getElem? (i := 97) (by decide +kernel)) rfl
theorem co_X5_takesOf : Cond.code yX5_takesOf cX5_takesOf 3 (some FieldType.int) ∈ tb := tbm_4 (List.mem_of_getElem? (i := 98) (by decide +kernel)) rfl
theorem ml_X5_120 : Cond.methodLink RX5 120 yX5_held ∈ tb := tbm_4 (List.mem_of_getElem? (i := 99) (by decide +kernel)) rfl
theorem st_X5_held : Cond.static yX5_held ∈ tb := tbm_4 (List.mem_of_getElem? (i := 100) (by decide +kernel)) rfl
theorem co_X5_held : Cond.code yX5_held cX5_held 3 (some FieldType.int) ∈ tb := tbm_4 (List.mem_of_getElem? (i := 101) (by decide +kernel)) rfl
theorem ml_L_63 : Cond.methodLink RL 63 yX5_on ∈ tb := tbm_4 (List.mem_of_getElem? (i := 102) (by decide +kernel)) rfl
theorem im_X5_on : Cond.instanceMethod yX5_on ∈ tb := tbm_4 (List.mem_of_getElem? (i := 103) (by decide +kernel)) rfl
theorem se_X5_on : Cond.selects RX5 yX5_on yX5_on ∈ tb := tbm_4 (List.mem_of_getElem? (i := 104) (by decide +kernel)) rfl
theorem co_X5_on : Cond.code yX5_on cX5_on 5 (some FieldType.int) ∈ tb := tbm_4 (List.mem_of_getElem? (i := 105) (by decide +kernel)) rfl
theorem ml_X5_139 : Cond.methodLink RX5 139 yX5_thinks ∈ tb := tbm_4 (List.mem_of_getElem? (i := 106) (by decide +kernel)) rfl
theorem im_X5_thinks : Cond.instanceMethod yX5_thinks ∈ tb := tbm_4 (List.mem_of_getElem? (i := 108) (by decide +kernel)) rfl
theorem co_X5_thinks : Cond.code yX5_thinks cX5_thinks 1 none ∈ tb := tbm_4 (List.mem_of_getElem? (i := 109) (by decide +kernel)) rfl
theorem ml_X5_135 : Cond.methodLink RX5 135 yX5_copyAll ∈ tb := tbm_4 (List.mem_of_getElem? (i := 110) (by decide +kernel)) rfl
theorem st_X5_copyAll : Cond.static yX5_copyAll ∈ tb := tbm_4 (List.mem_of_getElem? (i := 111) (by decide +kernel)) rfl
theorem co_X5_copyAll : Cond.code yX5_copyAll cX5_copyAll 3 none ∈ tb := tbm_4 (List.mem_of_getElem? (i := 112) (by decide +kernel)) rfl
theorem ml_X5_142 : Cond.methodLink RX5 142 yX5_putsBack ∈ tb := tbm_4 (List.mem_of_getElem? (i := 113) (by decide +kernel)) rfl
theorem im_X5_putsBack : Cond.instanceMethod yX5_putsBack ∈ tb := tbm_4 (List.mem_of_getElem? (i := 115) (by decide +kernel)) rfl
theorem co_X5_putsBack : Cond.code yX5_putsBack cX5_putsBack 1 none ∈ tb := tbm_4 (List.mem_of_getElem? (i := 116) (by decide +kernel)) rfl
theorem ml_L_67 : Cond.methodLink RL 67 yX5_brown ∈ tb := tbm_4 (List.mem_of_getElem? (i := 117) (by decide +kernel)) rfl
theorem im_X5_brown : Cond.instanceMethod yX5_brown ∈ tb := tbm_4 (List.mem_of_getElem? (i := 118) (by decide +kernel)) rfl
theorem se_X5_brown : Cond.selects RX5 yX5_brown yX5_brown ∈ tb := tbm_4 (List.mem_of_getElem? (i := 119) (by decide +kernel)) rfl
theorem co_X5_brown : Cond.code yX5_brown cX5_brown 4 (some FieldType.int) ∈ tb := tbm_4 (List.mem_of_getElem? (i := 120) (by decide +kernel)) rfl
theorem ct_X5_39 : Cond.constant RX5 39 (-1000000004) ∈ tb := tbm_4 (List.mem_of_getElem? (i := 121) (by decide +kernel)) rfl
theorem ml_L_71 : Cond.methodLink RL 71 yX5_burns ∈ tb := tbm_4 (List.mem_of_getElem? (i := 122) (by decide +kernel)) rfl
theorem im_X5_burns : Cond.instanceMethod yX5_burns ∈ tb := tbm_4 (List.mem_of_getElem? (i := 123) (by decide +kernel)) rfl
theorem se_X5_burns : Cond.selects RX5 yX5_burns yX5_burns ∈ tb := tbm_4 (List.mem_of_getElem? (i := 124) (by decide +kernel)) rfl
theorem co_X5_burns : Cond.code yX5_burns cX5_burns 4 (some FieldType.int) ∈ tb := tbm_4 (List.mem_of_getElem? (i := 125) (by decide +kernel)) rfl
theorem ml_L_75 : Cond.methodLink RL 75 yX5_even ∈ tb := tbm_4 (List.mem_of_getElem? (i := 126) (by decide +kernel)) rfl
theorem im_X5_even : Cond.instanceMethod yX5_even ∈ tb := tbm_4 (List.mem_of_getElem? (i := 127) (by decide +kernel)) rfl
theorem se_X5_even : Cond.selects RX5 yX5_even yX5_even ∈ tb := tbm_4 (List.mem_of_getElem? (i := 128) (by decide +kernel)) rfl
theorem co_X5_even : Cond.code yX5_even cX5_even 3 (some FieldType.int) ∈ tb := tbm_4 (List.mem_of_getElem? (i := 129) (by decide +kernel)) rfl
theorem ml_L_79 : Cond.methodLink RL 79 yX5_where ∈ tb := tbm_4 (List.mem_of_getElem? (i := 130) (by decide +kernel)) rfl
theorem im_X5_where : Cond.instanceMethod yX5_where ∈ tb := tbm_4 (List.mem_of_getElem? (i := 131) (by decide +kernel)) rfl
theorem se_X5_where : Cond.selects RX5 yX5_where yX5_where ∈ tb := tbm_4 (List.mem_of_getElem? (i := 132) (by decide +kernel)) rfl
theorem co_X5_where : Cond.code yX5_where cX5_where 7 (some FieldType.int) ∈ tb := tbm_4 (List.mem_of_getElem? (i := 133) (by decide +kernel)) rfl
theorem ml_X5_145 : Cond.methodLink RX5 145 yX5_brownOn ∈ tb := tbm_4 (List.mem_of_getElem? (i := 134) (by decide +kernel)) rfl
theorem im_X5_brownOn : Cond.instanceMethod yX5_brownOn ∈ tb := tbm_4 (List.mem_of_getElem? (i := 136) (by decide +kernel)) rfl
theorem co_X5_brownOn : Cond.code yX5_brownOn cX5_brownOn 4 (some FieldType.int) ∈ tb := tbm_4 (List.mem_of_getElem? (i := 137) (by decide +kernel)) rfl
theorem ml_L_83 : Cond.methodLink RL 83 yX5_change ∈ tb := tbm_4 (List.mem_of_getElem? (i := 138) (by decide +kernel)) rfl
theorem im_X5_change : Cond.instanceMethod yX5_change ∈ tb := tbm_4 (List.mem_of_getElem? (i := 139) (by decide +kernel)) rfl
theorem se_X5_change : Cond.selects RX5 yX5_change yX5_change ∈ tb := tbm_4 (List.mem_of_getElem? (i := 140) (by decide +kernel)) rfl
theorem co_X5_change : Cond.code yX5_change cX5_change 7 (some FieldType.int) ∈ tb := tbm_4 (List.mem_of_getElem? (i := 141) (by decide +kernel)) rfl
theorem ml_X5_148 : Cond.methodLink RX5 148 yX5_orNone ∈ tb := tbm_4 (List.mem_of_getElem? (i := 142) (by decide +kernel)) rfl
theorem im_X5_orNone : Cond.instanceMethod yX5_orNone ∈ tb := tbm_4 (List.mem_of_getElem? (i := 144) (by decide +kernel)) rfl
theorem co_X5_orNone : Cond.code yX5_orNone cX5_orNone 2 (some FieldType.int) ∈ tb := tbm_4 (List.mem_of_getElem? (i := 145) (by decide +kernel)) rfl
theorem ml_L_87 : Cond.methodLink RL 87 yX5_kind ∈ tb := tbm_4 (List.mem_of_getElem? (i := 146) (by decide +kernel)) rfl
theorem im_X5_kind : Cond.instanceMethod yX5_kind ∈ tb := tbm_4 (List.mem_of_getElem? (i := 147) (by decide +kernel)) rfl
theorem se_X5_kind : Cond.selects RX5 yX5_kind yX5_kind ∈ tb := tbm_4 (List.mem_of_getElem? (i := 148) (by decide +kernel)) rfl
theorem co_X5_kind : Cond.code yX5_kind cX5_kind 7 (some FieldType.int) ∈ tb := tbm_4 (List.mem_of_getElem? (i := 149) (by decide +kernel)) rfl
theorem ml_L_91 : Cond.methodLink RL 91 yX5_send ∈ tb := tbm_4 (List.mem_of_getElem? (i := 150) (by decide +kernel)) rfl
theorem im_X5_send : Cond.instanceMethod yX5_send ∈ tb := tbm_4 (List.mem_of_getElem? (i := 151) (by decide +kernel)) rfl
theorem se_X5_send : Cond.selects RX5 yX5_send yX5_send ∈ tb := tbm_4 (List.mem_of_getElem? (i := 152) (by decide +kernel)) rfl
theorem co_X5_send : Cond.code yX5_send cX5_send 7 (some FieldType.int) ∈ tb := tbm_4 (List.mem_of_getElem? (i := 153) (by decide +kernel)) rfl
theorem ml_L_95 : Cond.methodLink RL 95 yX5_cloud ∈ tb := tbm_4 (List.mem_of_getElem? (i := 154) (by decide +kernel)) rfl
theorem im_X5_cloud : Cond.instanceMethod yX5_cloud ∈ tb := tbm_4 (List.mem_of_getElem? (i := 155) (by decide +kernel)) rfl
theorem se_X5_cloud : Cond.selects RX5 yX5_cloud yX5_cloud ∈ tb := tbm_4 (List.mem_of_getElem? (i := 156) (by decide +kernel)) rfl
theorem co_X5_cloud : Cond.code yX5_cloud cX5_cloud 7 (some FieldType.int) ∈ tb := tbm_4 (List.mem_of_getElem? (i := 157) (by decide +kernel)) rfl
theorem ml_L_100 : Cond.methodLink RL 100 yX5_enough ∈ tb := tbm_4 (List.mem_of_getElem? (i := 158) (by decide +kernel)) rfl
theorem im_X5_enough : Cond.instanceMethod yX5_enough ∈ tb := tbm_4 (List.mem_of_getElem? (i := 159) (by decide +kernel)) rfl
theorem se_X5_enough : Cond.selects RX5 yX5_enough yX5_enough ∈ tb := tbm_4 (List.mem_of_getElem? (i := 160) (by decide +kernel)) rfl
theorem co_X5_enough : Cond.code yX5_enough cX5_enough 7 (some FieldType.int) ∈ tb := tbm_4 (List.mem_of_getElem? (i := 161) (by decide +kernel)) rfl
theorem ml_X5_151 : Cond.methodLink RX5 151 yX5_areTwo ∈ tb := tbm_4 (List.mem_of_getElem? (i := 162) (by decide +kernel)) rfl
theorem im_X5_areTwo : Cond.instanceMethod yX5_areTwo ∈ tb := tbm_4 (List.mem_of_getElem? (i := 164) (by decide +kernel)) rfl
theorem co_X5_areTwo : Cond.code yX5_areTwo cX5_areTwo 3 (some FieldType.boolean) ∈ tb := tbm_4 (List.mem_of_getElem? (i := 165) (by decide +kernel)) rfl
theorem ml_L_104 : Cond.methodLink RL 104 yX5_brownest ∈ tb := tbm_4 (List.mem_of_getElem? (i := 166) (by decide +kernel)) rfl
theorem im_X5_brownest : Cond.instanceMethod yX5_brownest ∈ tb := tbm_4 (List.mem_of_getElem? (i := 167) (by decide +kernel)) rfl
theorem se_X5_brownest : Cond.selects RX5 yX5_brownest yX5_brownest ∈ tb := tbm_4 (List.mem_of_getElem? (i := 168) (by decide +kernel)) rfl
theorem co_X5_brownest : Cond.code yX5_brownest cX5_brownest 4 (some FieldType.int) ∈ tb := tbm_4 (List.mem_of_getElem? (i := 169) (by decide +kernel)) rfl
theorem ml_L_108 : Cond.methodLink RL 108 yX5_feed ∈ tb := tbm_4 (List.mem_of_getElem? (i := 170) (by decide +kernel)) rfl
theorem im_X5_feed : Cond.instanceMethod yX5_feed ∈ tb := tbm_4 (List.mem_of_getElem? (i := 171) (by decide +kernel)) rfl
theorem se_X5_feed : Cond.selects RX5 yX5_feed yX5_feed ∈ tb := tbm_4 (List.mem_of_getElem? (i := 172) (by decide +kernel)) rfl
theorem co_X5_feed : Cond.code yX5_feed cX5_feed 4 (some FieldType.int) ∈ tb := tbm_4 (List.mem_of_getElem? (i := 173) (by decide +kernel)) rfl
theorem ml_L_113 : Cond.methodLink RL 113 yX5_wipe ∈ tb := tbm_4 (List.mem_of_getElem? (i := 174) (by decide +kernel)) rfl
theorem im_X5_wipe : Cond.instanceMethod yX5_wipe ∈ tb := tbm_4 (List.mem_of_getElem? (i := 175) (by decide +kernel)) rfl
theorem se_X5_wipe : Cond.selects RX5 yX5_wipe yX5_wipe ∈ tb := tbm_4 (List.mem_of_getElem? (i := 176) (by decide +kernel)) rfl
theorem co_X5_wipe : Cond.code yX5_wipe cX5_wipe 2 (some FieldType.int) ∈ tb := tbm_4 (List.mem_of_getElem? (i := 177) (by decide +kernel)) rfl
theorem ml_L_117 : Cond.methodLink RL 117 yX5_esplanade ∈ tb := tbm_4 (List.mem_of_getElem? (i := 178) (by decide +kernel)) rfl
theorem im_X5_esplanade : Cond.instanceMethod yX5_esplanade ∈ tb := tbm_4 (List.mem_of_getElem? (i := 179) (by decide +kernel)) rfl
theorem se_X5_esplanade : Cond.selects RX5 yX5_esplanade yX5_esplanade ∈ tb := tbm_4 (List.mem_of_getElem? (i := 180) (by decide +kernel)) rfl
theorem co_X5_esplanade : Cond.code yX5_esplanade cX5_esplanade 2 (some FieldType.int) ∈ tb := tbm_4 (List.mem_of_getElem? (i := 181) (by decide +kernel)) rfl
theorem ml_X5_187 : Cond.methodLink RX5 187 yX5_reads ∈ tb := tbm_4 (List.mem_of_getElem? (i := 182) (by decide +kernel)) rfl
theorem im_X5_reads : Cond.instanceMethod yX5_reads ∈ tb := tbm_4 (List.mem_of_getElem? (i := 184) (by decide +kernel)) rfl
theorem co_X5_reads : Cond.code yX5_reads cX5_reads 1 none ∈ tb := tbm_4 (List.mem_of_getElem? (i := 185) (by decide +kernel)) rfl
theorem ml_X5_170 : Cond.methodLink RX5 170 yX5_isByte ∈ tb := tbm_4 (List.mem_of_getElem? (i := 186) (by decide +kernel)) rfl
theorem im_X5_isByte : Cond.instanceMethod yX5_isByte ∈ tb := tbm_4 (List.mem_of_getElem? (i := 188) (by decide +kernel)) rfl
theorem co_X5_isByte : Cond.code yX5_isByte cX5_isByte 4 (some FieldType.boolean) ∈ tb := tbm_4 (List.mem_of_getElem? (i := 189) (by decide +kernel)) rfl
theorem ml_X5_180 : Cond.methodLink RX5 180 yX5_wordHere ∈ tb := tbm_4 (List.mem_of_getElem? (i := 190) (by decide +kernel)) rfl
theorem im_X5_wordHere : Cond.instanceMethod yX5_wordHere ∈ tb := tbm_4 (List.mem_of_getElem? (i := 192) (by decide +kernel)) rfl
theorem co_X5_wordHere : Cond.code yX5_wordHere cX5_wordHere 2 (some FieldType.int) ∈ tb := tbm_4 (List.mem_of_getElem? (i := 193) (by decide +kernel)) rfl
theorem ml_X5_167 : Cond.methodLink RX5 167 yX5_isName ∈ tb := tbm_4 (List.mem_of_getElem? (i := 194) (by decide +kernel)) rfl
theorem im_X5_isName : Cond.instanceMethod yX5_isName ∈ tb := tbm_4 (List.mem_of_getElem? (i := 196) (by decide +kernel)) rfl
theorem co_X5_isName : Cond.code yX5_isName cX5_isName 5 (some FieldType.boolean) ∈ tb := tbm_4 (List.mem_of_getElem? (i := 197) (by decide +kernel)) rfl
theorem fl_X5_158 : Cond.fieldLink RX5 158 "TanRowModel" "NAMES" "[I" ∈ tb := tbm_4 (List.mem_of_getElem? (i := 198) (by decide +kernel)) rfl
theorem ml_X5_206 : Cond.methodLink RX5 206 yX5_item ∈ tb := tbm_4 (List.mem_of_getElem? (i := 200) (by decide +kernel)) rfl
theorem im_X5_item : Cond.instanceMethod yX5_item ∈ tb := tbm_4 (List.mem_of_getElem? (i := 202) (by decide +kernel)) rfl
theorem co_X5_item : Cond.code yX5_item cX5_item 2 none ∈ tb := tbm_4 (List.mem_of_getElem? (i := 203) (by decide +kernel)) rfl
theorem ml_X5_200 : Cond.methodLink RX5 200 yX5_personItem ∈ tb := tbm_4 (List.mem_of_getElem? (i := 204) (by decide +kernel)) rfl
theorem im_X5_personItem : Cond.instanceMethod yX5_personItem ∈ tb := tbm_4 (List.mem_of_getElem? (i := 206) (by decide +kernel)) rfl
theorem co_X5_personItem : Cond.code yX5_personItem cX5_personItem 5 none ∈ tb := tbm_4 (List.mem_of_getElem? (i := 207) (by decide +kernel)) rfl
theorem ml_X5_196 : Cond.methodLink RX5 196 yX5_perhaps ∈ tb := tbm_4 (List.mem_of_getElem? (i := 208) (by decide +kernel)) rfl
theorem im_X5_perhaps : Cond.instanceMethod yX5_perhaps ∈ tb := tbm_4 (List.mem_of_getElem? (i := 210) (by decide +kernel)) rfl
theorem co_X5_perhaps : Cond.code yX5_perhaps cX5_perhaps 5 (some FieldType.int) ∈ tb := tbm_4 (List.mem_of_getElem? (i := 211) (by decide +kernel)) rfl
theorem ml_X5_190 : Cond.methodLink RX5 190 yX5_passes ∈ tb := tbm_4 (List.mem_of_getElem? (i := 212) (by decide +kernel)) rfl
theorem im_X5_passes : Cond.instanceMethod yX5_passes ∈ tb := tbm_4 (List.mem_of_getElem? (i := 214) (by decide +kernel)) rfl
theorem co_X5_passes : Cond.code yX5_passes cX5_passes 2 (some FieldType.boolean) ∈ tb := tbm_4 (List.mem_of_getElem? (i := 215) (by decide +kernel)) rfl
theorem ml_X5_193 : Cond.methodLink RX5 193 yX5_number ∈ tb := tbm_4 (List.mem_of_getElem? (i := 216) (by decide +kernel)) rfl
theorem im_X5_number : Cond.instanceMethod yX5_number ∈ tb := tbm_4 (List.mem_of_getElem? (i := 218) (by decide +kernel)) rfl
theorem co_X5_number : Cond.code yX5_number cX5_number 4 (some FieldType.int) ∈ tb := tbm_4 (List.mem_of_getElem? (i := 219) (by decide +kernel)) rfl
theorem ml_X5_203 : Cond.methodLink RX5 203 yX5_sunItem ∈ tb := tbm_4 (List.mem_of_getElem? (i := 220) (by decide +kernel)) rfl
theorem im_X5_sunItem : Cond.instanceMethod yX5_sunItem ∈ tb := tbm_4 (List.mem_of_getElem? (i := 222) (by decide +kernel)) rfl
theorem co_X5_sunItem : Cond.code yX5_sunItem cX5_sunItem 3 none ∈ tb := tbm_4 (List.mem_of_getElem? (i := 223) (by decide +kernel)) rfl
theorem ml_L_121 : Cond.methodLink RL 121 yX5_sheet ∈ tb := tbm_4 (List.mem_of_getElem? (i := 224) (by decide +kernel)) rfl
theorem im_X5_sheet : Cond.instanceMethod yX5_sheet ∈ tb := tbm_4 (List.mem_of_getElem? (i := 225) (by decide +kernel)) rfl
theorem se_X5_sheet : Cond.selects RX5 yX5_sheet yX5_sheet ∈ tb := tbm_4 (List.mem_of_getElem? (i := 226) (by decide +kernel)) rfl
theorem co_X5_sheet : Cond.code yX5_sheet cX5_sheet 5 (some FieldType.int) ∈ tb := tbm_4 (List.mem_of_getElem? (i := 227) (by decide +kernel)) rfl
theorem ml_X5_209 : Cond.methodLink RX5 209 yX5_isSheet ∈ tb := tbm_4 (List.mem_of_getElem? (i := 228) (by decide +kernel)) rfl
theorem st_X5_isSheet : Cond.static yX5_isSheet ∈ tb := tbm_4 (List.mem_of_getElem? (i := 229) (by decide +kernel)) rfl
theorem co_X5_isSheet : Cond.code yX5_isSheet cX5_isSheet 1 (some FieldType.boolean) ∈ tb := tbm_4 (List.mem_of_getElem? (i := 230) (by decide +kernel)) rfl
theorem ct_X5_212 : Cond.constant RX5 212 (-1000000007) ∈ tb := tbm_4 (List.mem_of_getElem? (i := 231) (by decide +kernel)) rfl
theorem ml_L_128 : Cond.methodLink RL 128 yX5_write ∈ tb := tbm_4 (List.mem_of_getElem? (i := 232) (by decide +kernel)) rfl
theorem im_X5_write : Cond.instanceMethod yX5_write ∈ tb := tbm_4 (List.mem_of_getElem? (i := 233) (by decide +kernel)) rfl
theorem se_X5_write : Cond.selects RX5 yX5_write yX5_write ∈ tb := tbm_4 (List.mem_of_getElem? (i := 234) (by decide +kernel)) rfl
theorem co_X5_write : Cond.code yX5_write cX5_write 8 (some FieldType.long) ∈ tb := tbm_4 (List.mem_of_getElem? (i := 235) (by decide +kernel)) rfl
theorem ml_X5_214 : Cond.methodLink RX5 214 yX5_notThere ∈ tb := tbm_4 (List.mem_of_getElem? (i := 236) (by decide +kernel)) rfl
theorem im_X5_notThere : Cond.instanceMethod yX5_notThere ∈ tb := tbm_4 (List.mem_of_getElem? (i := 238) (by decide +kernel)) rfl
theorem co_X5_notThere : Cond.code yX5_notThere cX5_notThere 2 (some FieldType.int) ∈ tb := tbm_4 (List.mem_of_getElem? (i := 239) (by decide +kernel)) rfl
theorem ct_X5_213 : Cond.constant RX5 213 (-1000000006) ∈ tb := tbm_5 (List.mem_of_getElem? (i := 0) (by decide +kernel)) rfl
theorem ml_X5_217 : Cond.methodLink RX5 217 yX5_cutTo ∈ tb := tbm_5 (List.mem_of_getElem? (i := 1) (by decide +kernel)) rfl
theorem st_X5_cutTo : Cond.static yX5_cutTo ∈ tb := tbm_5 (List.mem_of_getElem? (i := 2) (by decide +kernel)) rfl
theorem co_X5_cutTo : Cond.code yX5_cutTo cX5_cutTo 3 (some FieldType.long) ∈ tb := tbm_5 (List.mem_of_getElem? (i := 3) (by decide +kernel)) rfl
theorem ml_L_133 : Cond.methodLink RL 133 yX5_copy ∈ tb := tbm_5 (List.mem_of_getElem? (i := 4) (by decide +kernel)) rfl
theorem im_X5_copy : Cond.instanceMethod yX5_copy ∈ tb := tbm_5 (List.mem_of_getElem? (i := 5) (by decide +kernel)) rfl
theorem se_X5_copy : Cond.selects RX5 yX5_copy yX5_copy ∈ tb := tbm_5 (List.mem_of_getElem? (i := 6) (by decide +kernel)) rfl
theorem co_X5_copy : Cond.code yX5_copy cX5_copy 9 (some FieldType.int) ∈ tb := tbm_5 (List.mem_of_getElem? (i := 7) (by decide +kernel)) rfl
theorem ml_X5_221 : Cond.methodLink RX5 221 yX5_notCopied ∈ tb := tbm_5 (List.mem_of_getElem? (i := 8) (by decide +kernel)) rfl
theorem im_X5_notCopied : Cond.instanceMethod yX5_notCopied ∈ tb := tbm_5 (List.mem_of_getElem? (i := 10) (by decide +kernel)) rfl
theorem co_X5_notCopied : Cond.code yX5_notCopied cX5_notCopied 7 (some FieldType.int) ∈ tb := tbm_5 (List.mem_of_getElem? (i := 11) (by decide +kernel)) rfl
theorem ml_L_137 : Cond.methodLink RL 137 yX5_lays ∈ tb := tbm_5 (List.mem_of_getElem? (i := 12) (by decide +kernel)) rfl
theorem im_X5_lays : Cond.instanceMethod yX5_lays ∈ tb := tbm_5 (List.mem_of_getElem? (i := 13) (by decide +kernel)) rfl
theorem se_X5_lays : Cond.selects RX5 yX5_lays yX5_lays ∈ tb := tbm_5 (List.mem_of_getElem? (i := 14) (by decide +kernel)) rfl
theorem co_X5_lays : Cond.code yX5_lays cX5_lays 5 (some FieldType.int) ∈ tb := tbm_5 (List.mem_of_getElem? (i := 15) (by decide +kernel)) rfl
theorem ml_L_141 : Cond.methodLink RL 141 yX5_book ∈ tb := tbm_5 (List.mem_of_getElem? (i := 16) (by decide +kernel)) rfl
theorem im_X5_book : Cond.instanceMethod yX5_book ∈ tb := tbm_5 (List.mem_of_getElem? (i := 17) (by decide +kernel)) rfl
theorem se_X5_book : Cond.selects RX5 yX5_book yX5_book ∈ tb := tbm_5 (List.mem_of_getElem? (i := 18) (by decide +kernel)) rfl
theorem co_X5_book : Cond.code yX5_book cX5_book 5 (some FieldType.int) ∈ tb := tbm_5 (List.mem_of_getElem? (i := 19) (by decide +kernel)) rfl
theorem ml_L_145 : Cond.methodLink RL 145 yX5_read ∈ tb := tbm_5 (List.mem_of_getElem? (i := 20) (by decide +kernel)) rfl
theorem im_X5_read : Cond.instanceMethod yX5_read ∈ tb := tbm_5 (List.mem_of_getElem? (i := 21) (by decide +kernel)) rfl
theorem se_X5_read : Cond.selects RX5 yX5_read yX5_read ∈ tb := tbm_5 (List.mem_of_getElem? (i := 22) (by decide +kernel)) rfl
theorem co_X5_read : Cond.code yX5_read cX5_read 7 (some FieldType.int) ∈ tb := tbm_5 (List.mem_of_getElem? (i := 23) (by decide +kernel)) rfl
theorem ml_X5_225 : Cond.methodLink RX5 225 yX5_isBook ∈ tb := tbm_5 (List.mem_of_getElem? (i := 24) (by decide +kernel)) rfl
theorem im_X5_isBook : Cond.instanceMethod yX5_isBook ∈ tb := tbm_5 (List.mem_of_getElem? (i := 26) (by decide +kernel)) rfl
theorem co_X5_isBook : Cond.code yX5_isBook cX5_isBook 5 (some FieldType.boolean) ∈ tb := tbm_5 (List.mem_of_getElem? (i := 27) (by decide +kernel)) rfl
theorem ml_L_149 : Cond.methodLink RL 149 yX5_image ∈ tb := tbm_5 (List.mem_of_getElem? (i := 28) (by decide +kernel)) rfl
theorem im_X5_image : Cond.instanceMethod yX5_image ∈ tb := tbm_5 (List.mem_of_getElem? (i := 29) (by decide +kernel)) rfl
theorem se_X5_image : Cond.selects RX5 yX5_image yX5_image ∈ tb := tbm_5 (List.mem_of_getElem? (i := 30) (by decide +kernel)) rfl
theorem co_X5_image : Cond.code yX5_image cX5_image 1 (some FieldType.int) ∈ tb := tbm_5 (List.mem_of_getElem? (i := 31) (by decide +kernel)) rfl
theorem ml_L_153 : Cond.methodLink RL 153 yX5_undo ∈ tb := tbm_5 (List.mem_of_getElem? (i := 32) (by decide +kernel)) rfl
theorem im_X5_undo : Cond.instanceMethod yX5_undo ∈ tb := tbm_5 (List.mem_of_getElem? (i := 33) (by decide +kernel)) rfl
theorem se_X5_undo : Cond.selects RX5 yX5_undo yX5_undo ∈ tb := tbm_5 (List.mem_of_getElem? (i := 34) (by decide +kernel)) rfl
theorem co_X5_undo : Cond.code yX5_undo cX5_undo 1 (some FieldType.int) ∈ tb := tbm_5 (List.mem_of_getElem? (i := 35) (by decide +kernel)) rfl
theorem ml_L_157 : Cond.methodLink RL 157 yX5_tear ∈ tb := tbm_5 (List.mem_of_getElem? (i := 36) (by decide +kernel)) rfl
theorem im_X5_tear : Cond.instanceMethod yX5_tear ∈ tb := tbm_5 (List.mem_of_getElem? (i := 37) (by decide +kernel)) rfl
theorem se_X5_tear : Cond.selects RX5 yX5_tear yX5_tear ∈ tb := tbm_5 (List.mem_of_getElem? (i := 38) (by decide +kernel)) rfl
theorem co_X5_tear : Cond.code yX5_tear cX5_tear 2 (some FieldType.int) ∈ tb := tbm_5 (List.mem_of_getElem? (i := 39) (by decide +kernel)) rfl
theorem ml_L_161 : Cond.methodLink RL 161 yX5_count ∈ tb := tbm_5 (List.mem_of_getElem? (i := 40) (by decide +kernel)) rfl
theorem im_X5_count : Cond.instanceMethod yX5_count ∈ tb := tbm_5 (List.mem_of_getElem? (i := 41) (by decide +kernel)) rfl
theorem se_X5_count : Cond.selects RX5 yX5_count yX5_count ∈ tb := tbm_5 (List.mem_of_getElem? (i := 42) (by decide +kernel)) rfl
theorem co_X5_count : Cond.code yX5_count cX5_count 2 (some FieldType.int) ∈ tb := tbm_5 (List.mem_of_getElem? (i := 43) (by decide +kernel)) rfl
theorem ml_X5_231 : Cond.methodLink RX5 231 yX5_howManySit ∈ tb := tbm_5 (List.mem_of_getElem? (i := 44) (by decide +kernel)) rfl
theorem im_X5_howManySit : Cond.instanceMethod yX5_howManySit ∈ tb := tbm_5 (List.mem_of_getElem? (i := 46) (by decide +kernel)) rfl
theorem co_X5_howManySit : Cond.code yX5_howManySit cX5_howManySit 3 (some FieldType.int) ∈ tb := tbm_5 (List.mem_of_getElem? (i := 47) (by decide +kernel)) rfl
theorem ml_X5_234 : Cond.methodLink RX5 234 yX5_allSun ∈ tb := tbm_5 (List.mem_of_getElem? (i := 48) (by decide +kernel)) rfl
theorem im_X5_allSun : Cond.instanceMethod yX5_allSun ∈ tb := tbm_5 (List.mem_of_getElem? (i := 50) (by decide +kernel)) rfl
theorem co_X5_allSun : Cond.code yX5_allSun cX5_allSun 3 (some FieldType.int) ∈ tb := tbm_5 (List.mem_of_getElem? (i := 51) (by decide +kernel)) rfl
theorem ml_L_165 : Cond.methodLink RL 165 yX5_status ∈ tb := tbm_5 (List.mem_of_getElem? (i := 52) (by decide +kernel)) rfl
theorem im_X5_status : Cond.instanceMethod yX5_status ∈ tb := tbm_5 (List.mem_of_getElem? (i := 53) (by decide +kernel)) rfl
theorem se_X5_status : Cond.selects RX5 yX5_status yX5_status ∈ tb := tbm_5 (List.mem_of_getElem? (i := 54) (by decide +kernel)) rfl
theorem co_X5_status : Cond.code yX5_status cX5_status 4 (some FieldType.int) ∈ tb := tbm_5 (List.mem_of_getElem? (i := 55) (by decide +kernel)) rfl
theorem ct_L_122 : Cond.constantLong RL 122 (4294967295) ∈ tb := tbm_5 (List.mem_of_getElem? (i := 56) (by decide +kernel)) rfl
theorem fl_J0_9 : Cond.fieldLink RJ0 9 "java/lang/String" "value" "[B" ∈ tb := tbm_5 (List.mem_of_getElem? (i := 57) (by decide +kernel)) rfl
theorem fl_J0_15 : Cond.fieldLink RJ0 15 "java/lang/String" "coder" "B" ∈ tb := tbm_5 (List.mem_of_getElem? (i := 58) (by decide +kernel)) rfl
theorem se_X4_finding : Cond.selects RX4 yX4_finding yX4_finding ∈ tb := tbm_0 (List.mem_of_getElem? (i := 0) (by decide +kernel)) rfl
theorem se_X4_isPerson : Cond.selects RX4 yX4_isPerson yX4_isPerson ∈ tb := tbm_0 (List.mem_of_getElem? (i := 1) (by decide +kernel)) rfl
theorem se_X1_browned : Cond.selects RX1 yX1_browned yX1_browned ∈ tb := tbm_0 (List.mem_of_getElem? (i := 2) (by decide +kernel)) rfl
theorem se_X1_burn : Cond.selects RX1 yX1_burn yX1_burn ∈ tb := tbm_0 (List.mem_of_getElem? (i := 3) (by decide +kernel)) rfl
theorem se_X4_startTrial : Cond.selects RX4 yX4_startTrial yX4_startTrial ∈ tb := tbm_0 (List.mem_of_getElem? (i := 4) (by decide +kernel)) rfl
theorem se_X4_brownWith : Cond.selects RX4 yX4_brownWith yX4_brownWith ∈ tb := tbm_0 (List.mem_of_getElem? (i := 5) (by decide +kernel)) rfl
theorem se_X2_advance : Cond.selects RX2 yX2_advance yX2_advance ∈ tb := tbm_0 (List.mem_of_getElem? (i := 6) (by decide +kernel)) rfl
theorem se_X2_passWord : Cond.selects RX2 yX2_passWord yX2_passWord ∈ tb := tbm_0 (List.mem_of_getElem? (i := 7) (by decide +kernel)) rfl
theorem se_X2_passNumber : Cond.selects RX2 yX2_passNumber yX2_passNumber ∈ tb := tbm_0 (List.mem_of_getElem? (i := 8) (by decide +kernel)) rfl
theorem se_X2_readItem : Cond.selects RX2 yX2_readItem yX2_readItem ∈ tb := tbm_0 (List.mem_of_getElem? (i := 9) (by decide +kernel)) rfl
theorem se_X2_isWord : Cond.selects RX2 yX2_isWord yX2_isWord ∈ tb := tbm_0 (List.mem_of_getElem? (i := 10) (by decide +kernel)) rfl
theorem se_X2_readSun : Cond.selects RX2 yX2_readSun yX2_readSun ∈ tb := tbm_0 (List.mem_of_getElem? (i := 11) (by decide +kernel)) rfl
theorem se_X2_isNumberTo : Cond.selects RX2 yX2_isNumberTo yX2_isNumberTo ∈ tb := tbm_0 (List.mem_of_getElem? (i := 12) (by decide +kernel)) rfl
theorem se_X2_readGoes : Cond.selects RX2 yX2_readGoes yX2_readGoes ∈ tb := tbm_0 (List.mem_of_getElem? (i := 13) (by decide +kernel)) rfl
theorem se_X2_kindNamed : Cond.selects RX2 yX2_kindNamed yX2_kindNamed ∈ tb := tbm_0 (List.mem_of_getElem? (i := 14) (by decide +kernel)) rfl
theorem se_X2_readPerson : Cond.selects RX2 yX2_readPerson yX2_readPerson ∈ tb := tbm_0 (List.mem_of_getElem? (i := 15) (by decide +kernel)) rfl
theorem se_X4_sheetAt : Cond.selects RX4 yX4_sheetAt yX4_sheetAt ∈ tb := tbm_0 (List.mem_of_getElem? (i := 16) (by decide +kernel)) rfl
theorem se_X4_trialGoesAs : Cond.selects RX4 yX4_trialGoesAs yX4_trialGoesAs ∈ tb := tbm_0 (List.mem_of_getElem? (i := 17) (by decide +kernel)) rfl
theorem se_X5_becomes : Cond.selects RX5 yX5_becomes yX5_becomes ∈ tb := tbm_0 (List.mem_of_getElem? (i := 18) (by decide +kernel)) rfl
theorem se_X5_finds : Cond.selects RX5 yX5_finds yX5_finds ∈ tb := tbm_0 (List.mem_of_getElem? (i := 19) (by decide +kernel)) rfl
theorem se_X5_onChair : Cond.selects RX5 yX5_onChair yX5_onChair ∈ tb := tbm_0 (List.mem_of_getElem? (i := 20) (by decide +kernel)) rfl
theorem se_X5_it : Cond.selects RX5 yX5_it yX5_it ∈ tb := tbm_0 (List.mem_of_getElem? (i := 21) (by decide +kernel)) rfl
theorem se_X5_sunNow : Cond.selects RX5 yX5_sunNow yX5_sunNow ∈ tb := tbm_0 (List.mem_of_getElem? (i := 22) (by decide +kernel)) rfl
theorem se_X5_sitters : Cond.selects RX5 yX5_sitters yX5_sitters ∈ tb := tbm_0 (List.mem_of_getElem? (i := 23) (by decide +kernel)) rfl
theorem se_X5_sits : Cond.selects RX5 yX5_sits yX5_sits ∈ tb := tbm_0 (List.mem_of_getElem? (i := 24) (by decide +kernel)) rfl
theorem se_X5_evenOnes : Cond.selects RX5 yX5_evenOnes yX5_evenOnes ∈ tb := tbm_0 (List.mem_of_getElem? (i := 25) (by decide +kernel)) rfl
theorem se_X5_isEven : Cond.selects RX5 yX5_isEven yX5_isEven ∈ tb := tbm_0 (List.mem_of_getElem? (i := 26) (by decide +kernel)) rfl
theorem se_X5_allBrown : Cond.selects RX5 yX5_allBrown yX5_allBrown ∈ tb := tbm_0 (List.mem_of_getElem? (i := 27) (by decide +kernel)) rfl
theorem se_X5_sums : Cond.selects RX5 yX5_sums yX5_sums ∈ tb := tbm_0 (List.mem_of_getElem? (i := 28) (by decide +kernel)) rfl
theorem se_X5_comesAs : Cond.selects RX5 yX5_comesAs yX5_comesAs ∈ tb := tbm_0 (List.mem_of_getElem? (i := 29) (by decide +kernel)) rfl
theorem se_X5_put : Cond.selects RX5 yX5_put yX5_put ∈ tb := tbm_0 (List.mem_of_getElem? (i := 30) (by decide +kernel)) rfl
theorem se_X5_isPerson : Cond.selects RX5 yX5_isPerson yX5_isPerson ∈ tb := tbm_0 (List.mem_of_getElem? (i := 31) (by decide +kernel)) rfl
theorem se_X5_fades : Cond.selects RX5 yX5_fades yX5_fades ∈ tb := tbm_0 (List.mem_of_getElem? (i := 32) (by decide +kernel)) rfl
theorem se_X5_beside : Cond.selects RX5 yX5_beside yX5_beside ∈ tb := tbm_0 (List.mem_of_getElem? (i := 33) (by decide +kernel)) rfl
theorem se_X5_burnsFrom : Cond.selects RX5 yX5_burnsFrom yX5_burnsFrom ∈ tb := tbm_0 (List.mem_of_getElem? (i := 34) (by decide +kernel)) rfl
theorem se_X5_brownOf : Cond.selects RX5 yX5_brownOf yX5_brownOf ∈ tb := tbm_0 (List.mem_of_getElem? (i := 35) (by decide +kernel)) rfl
theorem se_X5_isFreeFor : Cond.selects RX5 yX5_isFreeFor yX5_isFreeFor ∈ tb := tbm_0 (List.mem_of_getElem? (i := 36) (by decide +kernel)) rfl
theorem se_X5_givenTo : Cond.selects RX5 yX5_givenTo yX5_givenTo ∈ tb := tbm_0 (List.mem_of_getElem? (i := 37) (by decide +kernel)) rfl
theorem se_X5_glows : Cond.selects RX5 yX5_glows yX5_glows ∈ tb := tbm_0 (List.mem_of_getElem? (i := 38) (by decide +kernel)) rfl
theorem se_X5_goesFor : Cond.selects RX5 yX5_goesFor yX5_goesFor ∈ tb := tbm_0 (List.mem_of_getElem? (i := 39) (by decide +kernel)) rfl
theorem se_X5_goes : Cond.selects RX5 yX5_goes yX5_goes ∈ tb := tbm_0 (List.mem_of_getElem? (i := 40) (by decide +kernel)) rfl
theorem se_X5_browns : Cond.selects RX5 yX5_browns yX5_browns ∈ tb := tbm_0 (List.mem_of_getElem? (i := 41) (by decide +kernel)) rfl
theorem se_X5_takesOf : Cond.selects RX5 yX5_takesOf yX5_takesOf ∈ tb := tbm_0 (List.mem_of_getElem? (i := 42) (by decide +kernel)) rfl
theorem se_X5_thinks : Cond.selects RX5 yX5_thinks yX5_thinks ∈ tb := tbm_0 (List.mem_of_getElem? (i := 43) (by decide +kernel)) rfl
theorem se_X5_putsBack : Cond.selects RX5 yX5_putsBack yX5_putsBack ∈ tb := tbm_0 (List.mem_of_getElem? (i := 44) (by decide +kernel)) rfl
theorem se_X5_brownOn : Cond.selects RX5 yX5_brownOn yX5_brownOn ∈ tb := tbm_0 (List.mem_of_getElem? (i := 45) (by decide +kernel)) rfl
theorem se_X5_orNone : Cond.selects RX5 yX5_orNone yX5_orNone ∈ tb := tbm_0 (List.mem_of_getElem? (i := 46) (by decide +kernel)) rfl
theorem se_X5_areTwo : Cond.selects RX5 yX5_areTwo yX5_areTwo ∈ tb := tbm_0 (List.mem_of_getElem? (i := 47) (by decide +kernel)) rfl
theorem se_X5_reads : Cond.selects RX5 yX5_reads yX5_reads ∈ tb := tbm_0 (List.mem_of_getElem? (i := 48) (by decide +kernel)) rfl
theorem se_X5_isByte : Cond.selects RX5 yX5_isByte yX5_isByte ∈ tb := tbm_0 (List.mem_of_getElem? (i := 49) (by decide +kernel)) rfl
theorem se_X5_wordHere : Cond.selects RX5 yX5_wordHere yX5_wordHere ∈ tb := tbm_0 (List.mem_of_getElem? (i := 50) (by decide +kernel)) rfl
theorem se_X5_isName : Cond.selects RX5 yX5_isName yX5_isName ∈ tb := tbm_0 (List.mem_of_getElem? (i := 51) (by decide +kernel)) rfl
theorem se_X5_item : Cond.selects RX5 yX5_item yX5_item ∈ tb := tbm_0 (List.mem_of_getElem? (i := 52) (by decide +kernel)) rfl
theorem se_X5_personItem : Cond.selects RX5 yX5_personItem yX5_personItem ∈ tb := tbm_0 (List.mem_of_getElem? (i := 53) (by decide +kernel)) rfl
theorem se_X5_perhaps : Cond.selects RX5 yX5_perhaps yX5_perhaps ∈ tb := tbm_0 (List.mem_of_getElem? (i := 54) (by decide +kernel)) rfl
theorem se_X5_passes : Cond.selects RX5 yX5_passes yX5_passes ∈ tb := tbm_0 (List.mem_of_getElem? (i := 55) (by decide +kernel)) rfl
theorem se_X5_number : Cond.selects RX5 yX5_number yX5_number ∈ tb := tbm_0 (List.mem_of_getElem? (i := 56) (by decide +kernel)) rfl
theorem se_X5_sunItem : Cond.selects RX5 yX5_sunItem yX5_sunItem ∈ tb := tbm_0 (List.mem_of_getElem? (i := 57) (by decide +kernel)) rfl
theorem se_X5_notThere : Cond.selects RX5 yX5_notThere yX5_notThere ∈ tb := tbm_0 (List.mem_of_getElem? (i := 58) (by decide +kernel)) rfl
theorem se_X5_notCopied : Cond.selects RX5 yX5_notCopied yX5_notCopied ∈ tb := tbm_0 (List.mem_of_getElem? (i := 59) (by decide +kernel)) rfl
theorem se_X5_isBook : Cond.selects RX5 yX5_isBook yX5_isBook ∈ tb := tbm_0 (List.mem_of_getElem? (i := 60) (by decide +kernel)) rfl
theorem se_X5_howManySit : Cond.selects RX5 yX5_howManySit yX5_howManySit ∈ tb := tbm_0 (List.mem_of_getElem? (i := 61) (by decide +kernel)) rfl
theorem se_X5_allSun : Cond.selects RX5 yX5_allSun yX5_allSun ∈ tb := tbm_0 (List.mem_of_getElem? (i := 62) (by decide +kernel)) rfl
theorem inX0 : ∀ w ∈ wsX00, w ∈ tb := by decide +kernel
theorem inX1 : ∀ w ∈ wsX10, w ∈ tb := by decide +kernel
theorem inX2 : ∀ w ∈ wsX20, w ∈ tb := by decide +kernel
theorem inX4 : ∀ w ∈ wsX40, w ∈ tb := by decide +kernel
theorem inX5 : ∀ w ∈ wsX50, w ∈ tb := by decide +kernel
