section
-- ===== PART A: goes FIRST, ahead of the names: the tables' words, and 'selects' of the private methods out of them =====
/-- a private method of a class that the tables say can be made, by its rows of tables_1 -/
def lw_okq (q : MethodName × Nat) : Prop := (q.1.cls ≠ "java/lang/invoke/MethodHandle" ∧ q.1.cls ≠ "java/lang/invoke/VarHandle") ∧ Cond.instantiable q.1.cls q.2 ∈ tables_1 ∧ Cond.privateMethod q.1 ∈ tables_1 ∧ Cond.instanceMethod q.1 ∈ tables_1
theorem lw_p0 : lw_okq (⟨"TanRow", "finding", "(I)I"⟩, 7) := ⟨⟨by decide +kernel, by decide +kernel⟩, List.mem_of_getElem? (i := 16) (by decide +kernel), List.mem_of_getElem? (i := 156) (by decide +kernel), List.mem_of_getElem? (i := 157) (by decide +kernel)⟩
theorem lw_p1 : lw_okq (⟨"TanRow", "isPerson", "(I)Z"⟩, 7) := ⟨⟨by decide +kernel, by decide +kernel⟩, List.mem_of_getElem? (i := 16) (by decide +kernel), List.mem_of_getElem? (i := 224) (by decide +kernel), List.mem_of_getElem? (i := 225) (by decide +kernel)⟩
theorem lw_p2 : lw_okq (⟨"TanRow$Shore", "browned", "(IIII)I"⟩, 11) := ⟨⟨by decide +kernel, by decide +kernel⟩, List.mem_of_getElem? (i := 24) (by decide +kernel), List.mem_of_getElem? (i := 312) (by decide +kernel), List.mem_of_getElem? (i := 313) (by decide +kernel)⟩
theorem lw_p3 : lw_okq (⟨"TanRow$Shore", "burn", "(II)V"⟩, 11) := ⟨⟨by decide +kernel, by decide +kernel⟩, List.mem_of_getElem? (i := 24) (by decide +kernel), List.mem_of_getElem? (i := 323) (by decide +kernel), List.mem_of_getElem? (i := 324) (by decide +kernel)⟩
theorem lw_p4 : lw_okq (⟨"TanRow", "startTrial", "()V"⟩, 7) := ⟨⟨by decide +kernel, by decide +kernel⟩, List.mem_of_getElem? (i := 16) (by decide +kernel), List.mem_of_getElem? (i := 332) (by decide +kernel), List.mem_of_getElem? (i := 333) (by decide +kernel)⟩
theorem lw_p5 : lw_okq (⟨"TanRow", "brownWith", "(IIII)I"⟩, 7) := ⟨⟨by decide +kernel, by decide +kernel⟩, List.mem_of_getElem? (i := 16) (by decide +kernel), List.mem_of_getElem? (i := 388) (by decide +kernel), List.mem_of_getElem? (i := 389) (by decide +kernel)⟩
theorem lw_p6 : lw_okq (⟨"TanRow$Text", "advance", "()V"⟩, 6) := ⟨⟨by decide +kernel, by decide +kernel⟩, List.mem_of_getElem? (i := 79) (by decide +kernel), List.mem_of_getElem? (i := 416) (by decide +kernel), List.mem_of_getElem? (i := 417) (by decide +kernel)⟩
theorem lw_p7 : lw_okq (⟨"TanRow$Text", "passWord", "()V"⟩, 6) := ⟨⟨by decide +kernel, by decide +kernel⟩, List.mem_of_getElem? (i := 79) (by decide +kernel), List.mem_of_getElem? (i := 423) (by decide +kernel), List.mem_of_getElem? (i := 424) (by decide +kernel)⟩
theorem lw_p8 : lw_okq (⟨"TanRow$Text", "passNumber", "()V"⟩, 6) := ⟨⟨by decide +kernel, by decide +kernel⟩, List.mem_of_getElem? (i := 79) (by decide +kernel), List.mem_of_getElem? (i := 430) (by decide +kernel), List.mem_of_getElem? (i := 431) (by decide +kernel)⟩
theorem lw_p9 : lw_okq (⟨"TanRow$Text", "readItem", "(LTanRow$Shore;)Z"⟩, 6) := ⟨⟨by decide +kernel, by decide +kernel⟩, List.mem_of_getElem? (i := 79) (by decide +kernel), List.mem_of_getElem? (i := 435) (by decide +kernel), List.mem_of_getElem? (i := 436) (by decide +kernel)⟩
theorem lw_p10 : lw_okq (⟨"TanRow$Text", "isWord", "(Ljava/lang/String;)Z"⟩, 6) := ⟨⟨by decide +kernel, by decide +kernel⟩, List.mem_of_getElem? (i := 79) (by decide +kernel), List.mem_of_getElem? (i := 440) (by decide +kernel), List.mem_of_getElem? (i := 441) (by decide +kernel)⟩
theorem lw_p11 : lw_okq (⟨"TanRow$Text", "readSun", "(LTanRow$Shore;)Z"⟩, 6) := ⟨⟨by decide +kernel, by decide +kernel⟩, List.mem_of_getElem? (i := 79) (by decide +kernel), List.mem_of_getElem? (i := 492) (by decide +kernel), List.mem_of_getElem? (i := 493) (by decide +kernel)⟩
theorem lw_p12 : lw_okq (⟨"TanRow$Text", "isNumberTo", "(I)Z"⟩, 6) := ⟨⟨by decide +kernel, by decide +kernel⟩, List.mem_of_getElem? (i := 79) (by decide +kernel), List.mem_of_getElem? (i := 496) (by decide +kernel), List.mem_of_getElem? (i := 497) (by decide +kernel)⟩
theorem lw_p13 : lw_okq (⟨"TanRow$Text", "readGoes", "(LTanRow$Shore;)Z"⟩, 6) := ⟨⟨by decide +kernel, by decide +kernel⟩, List.mem_of_getElem? (i := 79) (by decide +kernel), List.mem_of_getElem? (i := 501) (by decide +kernel), List.mem_of_getElem? (i := 502) (by decide +kernel)⟩
theorem lw_p14 : lw_okq (⟨"TanRow$Text", "kindNamed", "()I"⟩, 6) := ⟨⟨by decide +kernel, by decide +kernel⟩, List.mem_of_getElem? (i := 79) (by decide +kernel), List.mem_of_getElem? (i := 506) (by decide +kernel), List.mem_of_getElem? (i := 507) (by decide +kernel)⟩
theorem lw_p15 : lw_okq (⟨"TanRow$Text", "readPerson", "(LTanRow$Shore;I)Z"⟩, 6) := ⟨⟨by decide +kernel, by decide +kernel⟩, List.mem_of_getElem? (i := 79) (by decide +kernel), List.mem_of_getElem? (i := 519) (by decide +kernel), List.mem_of_getElem? (i := 520) (by decide +kernel)⟩
def lw_privs_1 : List (MethodName × Nat) := [(⟨"TanRow", "finding", "(I)I"⟩, 7), (⟨"TanRow", "isPerson", "(I)Z"⟩, 7), (⟨"TanRow$Shore", "browned", "(IIII)I"⟩, 11), (⟨"TanRow$Shore", "burn", "(II)V"⟩, 11), (⟨"TanRow", "startTrial", "()V"⟩, 7), (⟨"TanRow", "brownWith", "(IIII)I"⟩, 7), (⟨"TanRow$Text", "advance", "()V"⟩, 6), (⟨"TanRow$Text", "passWord", "()V"⟩, 6), (⟨"TanRow$Text", "passNumber", "()V"⟩, 6), (⟨"TanRow$Text", "readItem", "(LTanRow$Shore;)Z"⟩, 6), (⟨"TanRow$Text", "isWord", "(Ljava/lang/String;)Z"⟩, 6), (⟨"TanRow$Text", "readSun", "(LTanRow$Shore;)Z"⟩, 6), (⟨"TanRow$Text", "isNumberTo", "(I)Z"⟩, 6), (⟨"TanRow$Text", "readGoes", "(LTanRow$Shore;)Z"⟩, 6), (⟨"TanRow$Text", "kindNamed", "()I"⟩, 6), (⟨"TanRow$Text", "readPerson", "(LTanRow$Shore;I)Z"⟩, 6)]
theorem lw_r1 : ∀ q ∈ lw_privs_1, lw_okq q := List.forall_mem_cons.mpr ⟨lw_p0, List.forall_mem_cons.mpr ⟨lw_p1, List.forall_mem_cons.mpr ⟨lw_p2, List.forall_mem_cons.mpr ⟨lw_p3, List.forall_mem_cons.mpr ⟨lw_p4, List.forall_mem_cons.mpr ⟨lw_p5, List.forall_mem_cons.mpr ⟨lw_p6, List.forall_mem_cons.mpr ⟨lw_p7, List.forall_mem_cons.mpr ⟨lw_p8, List.forall_mem_cons.mpr ⟨lw_p9, List.forall_mem_cons.mpr ⟨lw_p10, List.forall_mem_cons.mpr ⟨lw_p11, List.forall_mem_cons.mpr ⟨lw_p12, List.forall_mem_cons.mpr ⟨lw_p13, List.forall_mem_cons.mpr ⟨lw_p14, List.forall_mem_cons.mpr ⟨lw_p15, fun _ h => absurd h List.not_mem_nil⟩⟩⟩⟩⟩⟩⟩⟩⟩⟩⟩⟩⟩⟩⟩⟩
theorem lw_p16 : lw_okq (⟨"TanRow", "sheetAt", "(I)LTanRow$Sheet;"⟩, 7) := ⟨⟨by decide +kernel, by decide +kernel⟩, List.mem_of_getElem? (i := 16) (by decide +kernel), List.mem_of_getElem? (i := 532) (by decide +kernel), List.mem_of_getElem? (i := 533) (by decide +kernel)⟩
theorem lw_p17 : lw_okq (⟨"TanRow", "trialGoesAs", "(LTanRow$Sheet;I)Z"⟩, 7) := ⟨⟨by decide +kernel, by decide +kernel⟩, List.mem_of_getElem? (i := 16) (by decide +kernel), List.mem_of_getElem? (i := 579) (by decide +kernel), List.mem_of_getElem? (i := 580) (by decide +kernel)⟩
theorem lw_p18 : lw_okq (⟨"TanRowModel", "becomes", "(II)I"⟩, 16) := ⟨⟨by decide +kernel, by decide +kernel⟩, List.mem_of_getElem? (i := 613) (by decide +kernel), List.mem_of_getElem? (i := 675) (by decide +kernel), List.mem_of_getElem? (i := 676) (by decide +kernel)⟩
theorem lw_p19 : lw_okq (⟨"TanRowModel", "finds", "(I)I"⟩, 16) := ⟨⟨by decide +kernel, by decide +kernel⟩, List.mem_of_getElem? (i := 613) (by decide +kernel), List.mem_of_getElem? (i := 680) (by decide +kernel), List.mem_of_getElem? (i := 681) (by decide +kernel)⟩
theorem lw_p20 : lw_okq (⟨"TanRowModel", "onChair", "(I)I"⟩, 16) := ⟨⟨by decide +kernel, by decide +kernel⟩, List.mem_of_getElem? (i := 613) (by decide +kernel), List.mem_of_getElem? (i := 688) (by decide +kernel), List.mem_of_getElem? (i := 689) (by decide +kernel)⟩
theorem lw_p21 : lw_okq (⟨"TanRowModel", "it", "(II)I"⟩, 16) := ⟨⟨by decide +kernel, by decide +kernel⟩, List.mem_of_getElem? (i := 613) (by decide +kernel), List.mem_of_getElem? (i := 692) (by decide +kernel), List.mem_of_getElem? (i := 693) (by decide +kernel)⟩
theorem lw_p22 : lw_okq (⟨"TanRowModel", "sunNow", "()I"⟩, 16) := ⟨⟨by decide +kernel, by decide +kernel⟩, List.mem_of_getElem? (i := 613) (by decide +kernel), List.mem_of_getElem? (i := 700) (by decide +kernel), List.mem_of_getElem? (i := 701) (by decide +kernel)⟩
theorem lw_p23 : lw_okq (⟨"TanRowModel", "sitters", "()I"⟩, 16) := ⟨⟨by decide +kernel, by decide +kernel⟩, List.mem_of_getElem? (i := 613) (by decide +kernel), List.mem_of_getElem? (i := 704) (by decide +kernel), List.mem_of_getElem? (i := 705) (by decide +kernel)⟩
theorem lw_p24 : lw_okq (⟨"TanRowModel", "sits", "(I)Z"⟩, 16) := ⟨⟨by decide +kernel, by decide +kernel⟩, List.mem_of_getElem? (i := 613) (by decide +kernel), List.mem_of_getElem? (i := 708) (by decide +kernel), List.mem_of_getElem? (i := 709) (by decide +kernel)⟩
theorem lw_p25 : lw_okq (⟨"TanRowModel", "evenOnes", "()I"⟩, 16) := ⟨⟨by decide +kernel, by decide +kernel⟩, List.mem_of_getElem? (i := 613) (by decide +kernel), List.mem_of_getElem? (i := 712) (by decide +kernel), List.mem_of_getElem? (i := 713) (by decide +kernel)⟩
theorem lw_p26 : lw_okq (⟨"TanRowModel", "isEven", "(I)Z"⟩, 16) := ⟨⟨by decide +kernel, by decide +kernel⟩, List.mem_of_getElem? (i := 613) (by decide +kernel), List.mem_of_getElem? (i := 716) (by decide +kernel), List.mem_of_getElem? (i := 717) (by decide +kernel)⟩
theorem lw_p27 : lw_okq (⟨"TanRowModel", "allBrown", "()I"⟩, 16) := ⟨⟨by decide +kernel, by decide +kernel⟩, List.mem_of_getElem? (i := 613) (by decide +kernel), List.mem_of_getElem? (i := 720) (by decide +kernel), List.mem_of_getElem? (i := 721) (by decide +kernel)⟩
theorem lw_p28 : lw_okq (⟨"TanRowModel", "sums", "(I)I"⟩, 16) := ⟨⟨by decide +kernel, by decide +kernel⟩, List.mem_of_getElem? (i := 613) (by decide +kernel), List.mem_of_getElem? (i := 724) (by decide +kernel), List.mem_of_getElem? (i := 725) (by decide +kernel)⟩
theorem lw_p29 : lw_okq (⟨"TanRowModel", "comesAs", "(III)I"⟩, 16) := ⟨⟨by decide +kernel, by decide +kernel⟩, List.mem_of_getElem? (i := 613) (by decide +kernel), List.mem_of_getElem? (i := 733) (by decide +kernel), List.mem_of_getElem? (i := 734) (by decide +kernel)⟩
theorem lw_p30 : lw_okq (⟨"TanRowModel", "put", "(III)V"⟩, 16) := ⟨⟨by decide +kernel, by decide +kernel⟩, List.mem_of_getElem? (i := 613) (by decide +kernel), List.mem_of_getElem? (i := 737) (by decide +kernel), List.mem_of_getElem? (i := 738) (by decide +kernel)⟩
theorem lw_p31 : lw_okq (⟨"TanRowModel", "isPerson", "(I)Z"⟩, 16) := ⟨⟨by decide +kernel, by decide +kernel⟩, List.mem_of_getElem? (i := 613) (by decide +kernel), List.mem_of_getElem? (i := 745) (by decide +kernel), List.mem_of_getElem? (i := 746) (by decide +kernel)⟩
def lw_privs_2 : List (MethodName × Nat) := [(⟨"TanRow", "sheetAt", "(I)LTanRow$Sheet;"⟩, 7), (⟨"TanRow", "trialGoesAs", "(LTanRow$Sheet;I)Z"⟩, 7), (⟨"TanRowModel", "becomes", "(II)I"⟩, 16), (⟨"TanRowModel", "finds", "(I)I"⟩, 16), (⟨"TanRowModel", "onChair", "(I)I"⟩, 16), (⟨"TanRowModel", "it", "(II)I"⟩, 16), (⟨"TanRowModel", "sunNow", "()I"⟩, 16), (⟨"TanRowModel", "sitters", "()I"⟩, 16), (⟨"TanRowModel", "sits", "(I)Z"⟩, 16), (⟨"TanRowModel", "evenOnes", "()I"⟩, 16), (⟨"TanRowModel", "isEven", "(I)Z"⟩, 16), (⟨"TanRowModel", "allBrown", "()I"⟩, 16), (⟨"TanRowModel", "sums", "(I)I"⟩, 16), (⟨"TanRowModel", "comesAs", "(III)I"⟩, 16), (⟨"TanRowModel", "put", "(III)V"⟩, 16), (⟨"TanRowModel", "isPerson", "(I)Z"⟩, 16)]
theorem lw_r2 : ∀ q ∈ lw_privs_2, lw_okq q := List.forall_mem_cons.mpr ⟨lw_p16, List.forall_mem_cons.mpr ⟨lw_p17, List.forall_mem_cons.mpr ⟨lw_p18, List.forall_mem_cons.mpr ⟨lw_p19, List.forall_mem_cons.mpr ⟨lw_p20, List.forall_mem_cons.mpr ⟨lw_p21, List.forall_mem_cons.mpr ⟨lw_p22, List.forall_mem_cons.mpr ⟨lw_p23, List.forall_mem_cons.mpr ⟨lw_p24, List.forall_mem_cons.mpr ⟨lw_p25, List.forall_mem_cons.mpr ⟨lw_p26, List.forall_mem_cons.mpr ⟨lw_p27, List.forall_mem_cons.mpr ⟨lw_p28, List.forall_mem_cons.mpr ⟨lw_p29, List.forall_mem_cons.mpr ⟨lw_p30, List.forall_mem_cons.mpr ⟨lw_p31, fun _ h => absurd h List.not_mem_nil⟩⟩⟩⟩⟩⟩⟩⟩⟩⟩⟩⟩⟩⟩⟩⟩
theorem lw_p32 : lw_okq (⟨"TanRowModel", "fades", "(I)I"⟩, 16) := ⟨⟨by decide +kernel, by decide +kernel⟩, List.mem_of_getElem? (i := 613) (by decide +kernel), List.mem_of_getElem? (i := 749) (by decide +kernel), List.mem_of_getElem? (i := 750) (by decide +kernel)⟩
theorem lw_p33 : lw_okq (⟨"TanRowModel", "beside", "(II)I"⟩, 16) := ⟨⟨by decide +kernel, by decide +kernel⟩, List.mem_of_getElem? (i := 613) (by decide +kernel), List.mem_of_getElem? (i := 753) (by decide +kernel), List.mem_of_getElem? (i := 754) (by decide +kernel)⟩
theorem lw_p34 : lw_okq (⟨"TanRowModel", "burnsFrom", "(I)I"⟩, 16) := ⟨⟨by decide +kernel, by decide +kernel⟩, List.mem_of_getElem? (i := 613) (by decide +kernel), List.mem_of_getElem? (i := 757) (by decide +kernel), List.mem_of_getElem? (i := 758) (by decide +kernel)⟩
theorem lw_p35 : lw_okq (⟨"TanRowModel", "brownOf", "(I)I"⟩, 16) := ⟨⟨by decide +kernel, by decide +kernel⟩, List.mem_of_getElem? (i := 613) (by decide +kernel), List.mem_of_getElem? (i := 773) (by decide +kernel), List.mem_of_getElem? (i := 774) (by decide +kernel)⟩
theorem lw_p36 : lw_okq (⟨"TanRowModel", "isFreeFor", "(II)Z"⟩, 16) := ⟨⟨by decide +kernel, by decide +kernel⟩, List.mem_of_getElem? (i := 613) (by decide +kernel), List.mem_of_getElem? (i := 782) (by decide +kernel), List.mem_of_getElem? (i := 783) (by decide +kernel)⟩
theorem lw_p37 : lw_okq (⟨"TanRowModel", "givenTo", "(II)I"⟩, 16) := ⟨⟨by decide +kernel, by decide +kernel⟩, List.mem_of_getElem? (i := 613) (by decide +kernel), List.mem_of_getElem? (i := 791) (by decide +kernel), List.mem_of_getElem? (i := 792) (by decide +kernel)⟩
theorem lw_p38 : lw_okq (⟨"TanRowModel", "glows", "(III)I"⟩, 16) := ⟨⟨by decide +kernel, by decide +kernel⟩, List.mem_of_getElem? (i := 613) (by decide +kernel), List.mem_of_getElem? (i := 795) (by decide +kernel), List.mem_of_getElem? (i := 796) (by decide +kernel)⟩
theorem lw_p39 : lw_okq (⟨"TanRowModel", "goesFor", "(I)V"⟩, 16) := ⟨⟨by decide +kernel, by decide +kernel⟩, List.mem_of_getElem? (i := 613) (by decide +kernel), List.mem_of_getElem? (i := 804) (by decide +kernel), List.mem_of_getElem? (i := 805) (by decide +kernel)⟩
theorem lw_p40 : lw_okq (⟨"TanRowModel", "goes", "()V"⟩, 16) := ⟨⟨by decide +kernel, by decide +kernel⟩, List.mem_of_getElem? (i := 613) (by decide +kernel), List.mem_of_getElem? (i := 808) (by decide +kernel), List.mem_of_getElem? (i := 809) (by decide +kernel)⟩
theorem lw_p41 : lw_okq (⟨"TanRowModel", "browns", "(II)V"⟩, 16) := ⟨⟨by decide +kernel, by decide +kernel⟩, List.mem_of_getElem? (i := 613) (by decide +kernel), List.mem_of_getElem? (i := 812) (by decide +kernel), List.mem_of_getElem? (i := 813) (by decide +kernel)⟩
theorem lw_p42 : lw_okq (⟨"TanRowModel", "takesOf", "(II)I"⟩, 16) := ⟨⟨by decide +kernel, by decide +kernel⟩, List.mem_of_getElem? (i := 613) (by decide +kernel), List.mem_of_getElem? (i := 816) (by decide +kernel), List.mem_of_getElem? (i := 817) (by decide +kernel)⟩
theorem lw_p43 : lw_okq (⟨"TanRowModel", "thinks", "()V"⟩, 16) := ⟨⟨by decide +kernel, by decide +kernel⟩, List.mem_of_getElem? (i := 613) (by decide +kernel), List.mem_of_getElem? (i := 827) (by decide +kernel), List.mem_of_getElem? (i := 828) (by decide +kernel)⟩
theorem lw_p44 : lw_okq (⟨"TanRowModel", "putsBack", "()V"⟩, 16) := ⟨⟨by decide +kernel, by decide +kernel⟩, List.mem_of_getElem? (i := 613) (by decide +kernel), List.mem_of_getElem? (i := 834) (by decide +kernel), List.mem_of_getElem? (i := 835) (by decide +kernel)⟩
theorem lw_p45 : lw_okq (⟨"TanRowModel", "brownOn", "(II)I"⟩, 16) := ⟨⟨by decide +kernel, by decide +kernel⟩, List.mem_of_getElem? (i := 613) (by decide +kernel), List.mem_of_getElem? (i := 855) (by decide +kernel), List.mem_of_getElem? (i := 856) (by decide +kernel)⟩
theorem lw_p46 : lw_okq (⟨"TanRowModel", "orNone", "(I)I"⟩, 16) := ⟨⟨by decide +kernel, by decide +kernel⟩, List.mem_of_getElem? (i := 613) (by decide +kernel), List.mem_of_getElem? (i := 863) (by decide +kernel), List.mem_of_getElem? (i := 864) (by decide +kernel)⟩
theorem lw_p47 : lw_okq (⟨"TanRowModel", "areTwo", "(II)Z"⟩, 16) := ⟨⟨by decide +kernel, by decide +kernel⟩, List.mem_of_getElem? (i := 613) (by decide +kernel), List.mem_of_getElem? (i := 883) (by decide +kernel), List.mem_of_getElem? (i := 884) (by decide +kernel)⟩
def lw_privs_3 : List (MethodName × Nat) := [(⟨"TanRowModel", "fades", "(I)I"⟩, 16), (⟨"TanRowModel", "beside", "(II)I"⟩, 16), (⟨"TanRowModel", "burnsFrom", "(I)I"⟩, 16), (⟨"TanRowModel", "brownOf", "(I)I"⟩, 16), (⟨"TanRowModel", "isFreeFor", "(II)Z"⟩, 16), (⟨"TanRowModel", "givenTo", "(II)I"⟩, 16), (⟨"TanRowModel", "glows", "(III)I"⟩, 16), (⟨"TanRowModel", "goesFor", "(I)V"⟩, 16), (⟨"TanRowModel", "goes", "()V"⟩, 16), (⟨"TanRowModel", "browns", "(II)V"⟩, 16), (⟨"TanRowModel", "takesOf", "(II)I"⟩, 16), (⟨"TanRowModel", "thinks", "()V"⟩, 16), (⟨"TanRowModel", "putsBack", "()V"⟩, 16), (⟨"TanRowModel", "brownOn", "(II)I"⟩, 16), (⟨"TanRowModel", "orNone", "(I)I"⟩, 16), (⟨"TanRowModel", "areTwo", "(II)Z"⟩, 16)]
theorem lw_r3 : ∀ q ∈ lw_privs_3, lw_okq q := List.forall_mem_cons.mpr ⟨lw_p32, List.forall_mem_cons.mpr ⟨lw_p33, List.forall_mem_cons.mpr ⟨lw_p34, List.forall_mem_cons.mpr ⟨lw_p35, List.forall_mem_cons.mpr ⟨lw_p36, List.forall_mem_cons.mpr ⟨lw_p37, List.forall_mem_cons.mpr ⟨lw_p38, List.forall_mem_cons.mpr ⟨lw_p39, List.forall_mem_cons.mpr ⟨lw_p40, List.forall_mem_cons.mpr ⟨lw_p41, List.forall_mem_cons.mpr ⟨lw_p42, List.forall_mem_cons.mpr ⟨lw_p43, List.forall_mem_cons.mpr ⟨lw_p44, List.forall_mem_cons.mpr ⟨lw_p45, List.forall_mem_cons.mpr ⟨lw_p46, List.forall_mem_cons.mpr ⟨lw_p47, fun _ h => absurd h List.not_mem_nil⟩⟩⟩⟩⟩⟩⟩⟩⟩⟩⟩⟩⟩⟩⟩⟩
theorem lw_p48 : lw_okq (⟨"TanRowModel", "reads", "()V"⟩, 16) := ⟨⟨by decide +kernel, by decide +kernel⟩, List.mem_of_getElem? (i := 613) (by decide +kernel), List.mem_of_getElem? (i := 903) (by decide +kernel), List.mem_of_getElem? (i := 904) (by decide +kernel)⟩
theorem lw_p49 : lw_okq (⟨"TanRowModel", "isByte", "(III)Z"⟩, 16) := ⟨⟨by decide +kernel, by decide +kernel⟩, List.mem_of_getElem? (i := 613) (by decide +kernel), List.mem_of_getElem? (i := 907) (by decide +kernel), List.mem_of_getElem? (i := 908) (by decide +kernel)⟩
theorem lw_p50 : lw_okq (⟨"TanRowModel", "wordHere", "()I"⟩, 16) := ⟨⟨by decide +kernel, by decide +kernel⟩, List.mem_of_getElem? (i := 613) (by decide +kernel), List.mem_of_getElem? (i := 911) (by decide +kernel), List.mem_of_getElem? (i := 912) (by decide +kernel)⟩
theorem lw_p51 : lw_okq (⟨"TanRowModel", "isName", "(II)Z"⟩, 16) := ⟨⟨by decide +kernel, by decide +kernel⟩, List.mem_of_getElem? (i := 613) (by decide +kernel), List.mem_of_getElem? (i := 915) (by decide +kernel), List.mem_of_getElem? (i := 916) (by decide +kernel)⟩
theorem lw_p52 : lw_okq (⟨"TanRowModel", "item", "()V"⟩, 16) := ⟨⟨by decide +kernel, by decide +kernel⟩, List.mem_of_getElem? (i := 613) (by decide +kernel), List.mem_of_getElem? (i := 921) (by decide +kernel), List.mem_of_getElem? (i := 922) (by decide +kernel)⟩
theorem lw_p53 : lw_okq (⟨"TanRowModel", "personItem", "()V"⟩, 16) := ⟨⟨by decide +kernel, by decide +kernel⟩, List.mem_of_getElem? (i := 613) (by decide +kernel), List.mem_of_getElem? (i := 925) (by decide +kernel), List.mem_of_getElem? (i := 926) (by decide +kernel)⟩
theorem lw_p54 : lw_okq (⟨"TanRowModel", "perhaps", "(IIII)I"⟩, 16) := ⟨⟨by decide +kernel, by decide +kernel⟩, List.mem_of_getElem? (i := 613) (by decide +kernel), List.mem_of_getElem? (i := 929) (by decide +kernel), List.mem_of_getElem? (i := 930) (by decide +kernel)⟩
theorem lw_p55 : lw_okq (⟨"TanRowModel", "passes", "(I)Z"⟩, 16) := ⟨⟨by decide +kernel, by decide +kernel⟩, List.mem_of_getElem? (i := 613) (by decide +kernel), List.mem_of_getElem? (i := 933) (by decide +kernel), List.mem_of_getElem? (i := 934) (by decide +kernel)⟩
theorem lw_p56 : lw_okq (⟨"TanRowModel", "number", "(II)I"⟩, 16) := ⟨⟨by decide +kernel, by decide +kernel⟩, List.mem_of_getElem? (i := 613) (by decide +kernel), List.mem_of_getElem? (i := 937) (by decide +kernel), List.mem_of_getElem? (i := 938) (by decide +kernel)⟩
theorem lw_p57 : lw_okq (⟨"TanRowModel", "sunItem", "()V"⟩, 16) := ⟨⟨by decide +kernel, by decide +kernel⟩, List.mem_of_getElem? (i := 613) (by decide +kernel), List.mem_of_getElem? (i := 941) (by decide +kernel), List.mem_of_getElem? (i := 942) (by decide +kernel)⟩
theorem lw_p58 : lw_okq (⟨"TanRowModel", "notThere", "(I)I"⟩, 16) := ⟨⟨by decide +kernel, by decide +kernel⟩, List.mem_of_getElem? (i := 613) (by decide +kernel), List.mem_of_getElem? (i := 957) (by decide +kernel), List.mem_of_getElem? (i := 958) (by decide +kernel)⟩
theorem lw_p59 : lw_okq (⟨"TanRowModel", "notCopied", "(IIIII)I"⟩, 16) := ⟨⟨by decide +kernel, by decide +kernel⟩, List.mem_of_getElem? (i := 613) (by decide +kernel), List.mem_of_getElem? (i := 969) (by decide +kernel), List.mem_of_getElem? (i := 970) (by decide +kernel)⟩
theorem lw_p60 : lw_okq (⟨"TanRowModel", "isBook", "(II)Z"⟩, 16) := ⟨⟨by decide +kernel, by decide +kernel⟩, List.mem_of_getElem? (i := 613) (by decide +kernel), List.mem_of_getElem? (i := 985) (by decide +kernel), List.mem_of_getElem? (i := 986) (by decide +kernel)⟩
theorem lw_p61 : lw_okq (⟨"TanRowModel", "howManySit", "()I"⟩, 16) := ⟨⟨by decide +kernel, by decide +kernel⟩, List.mem_of_getElem? (i := 613) (by decide +kernel), List.mem_of_getElem? (i := 1005) (by decide +kernel), List.mem_of_getElem? (i := 1006) (by decide +kernel)⟩
theorem lw_p62 : lw_okq (⟨"TanRowModel", "allSun", "()I"⟩, 16) := ⟨⟨by decide +kernel, by decide +kernel⟩, List.mem_of_getElem? (i := 613) (by decide +kernel), List.mem_of_getElem? (i := 1009) (by decide +kernel), List.mem_of_getElem? (i := 1010) (by decide +kernel)⟩
def lw_privs_4 : List (MethodName × Nat) := [(⟨"TanRowModel", "reads", "()V"⟩, 16), (⟨"TanRowModel", "isByte", "(III)Z"⟩, 16), (⟨"TanRowModel", "wordHere", "()I"⟩, 16), (⟨"TanRowModel", "isName", "(II)Z"⟩, 16), (⟨"TanRowModel", "item", "()V"⟩, 16), (⟨"TanRowModel", "personItem", "()V"⟩, 16), (⟨"TanRowModel", "perhaps", "(IIII)I"⟩, 16), (⟨"TanRowModel", "passes", "(I)Z"⟩, 16), (⟨"TanRowModel", "number", "(II)I"⟩, 16), (⟨"TanRowModel", "sunItem", "()V"⟩, 16), (⟨"TanRowModel", "notThere", "(I)I"⟩, 16), (⟨"TanRowModel", "notCopied", "(IIIII)I"⟩, 16), (⟨"TanRowModel", "isBook", "(II)Z"⟩, 16), (⟨"TanRowModel", "howManySit", "()I"⟩, 16), (⟨"TanRowModel", "allSun", "()I"⟩, 16)]
theorem lw_r4 : ∀ q ∈ lw_privs_4, lw_okq q := List.forall_mem_cons.mpr ⟨lw_p48, List.forall_mem_cons.mpr ⟨lw_p49, List.forall_mem_cons.mpr ⟨lw_p50, List.forall_mem_cons.mpr ⟨lw_p51, List.forall_mem_cons.mpr ⟨lw_p52, List.forall_mem_cons.mpr ⟨lw_p53, List.forall_mem_cons.mpr ⟨lw_p54, List.forall_mem_cons.mpr ⟨lw_p55, List.forall_mem_cons.mpr ⟨lw_p56, List.forall_mem_cons.mpr ⟨lw_p57, List.forall_mem_cons.mpr ⟨lw_p58, List.forall_mem_cons.mpr ⟨lw_p59, List.forall_mem_cons.mpr ⟨lw_p60, List.forall_mem_cons.mpr ⟨lw_p61, List.forall_mem_cons.mpr ⟨lw_p62, fun _ h => absurd h List.not_mem_nil⟩⟩⟩⟩⟩⟩⟩⟩⟩⟩⟩⟩⟩⟩⟩
def lw_privs : List (MethodName × Nat) := lw_privs_1 ++ (lw_privs_2 ++ (lw_privs_3 ++ (lw_privs_4)))
def lw_tbl : List Cond := k2_sels lw_privs ++ tables_1
theorem lw_privs_ok : ∀ q ∈ lw_privs, lw_okq q := by
  show ∀ q ∈ lw_privs_1 ++ (lw_privs_2 ++ (lw_privs_3 ++ (lw_privs_4))), lw_okq q
  exact List.forall_mem_append.mpr ⟨lw_r1, List.forall_mem_append.mpr ⟨lw_r2, List.forall_mem_append.mpr ⟨lw_r3, lw_r4⟩⟩⟩
/-! ===== BEGIN printed: names, fields, word lists, decode rows ===== -/
def RX0 : String := "TanRow$Sheet"
def TX0 : u_T := fun k => match k with
  | 0 => ("TanRow$Sheet", "bits", "I", false)
  | 1 => ("TanRow$Sheet", "size", "I", false)
  | _ => ("TanRow$Sheet", "numbers", "[J", true)
def tyX0 : Nat → FieldType := fun k => match k with
  | 0 => .int
  | 1 => .int
  | _ => .array .long
abbrev wsX00 : List Cond := u_ws RX0 TX0 3
theorem nmX0 : ∀ a, a < 3 → ∀ b, b < 3 → a ≠ b → (TX0 a).2.1 ≠ (TX0 b).2.1 := by decide +kernel
theorem tyX0_ok : ∀ k, k < 3 → parseFieldDescriptor (TX0 k).2.2.1 = some (tyX0 k) := by decide +kernel
abbrev cX0_init : ByteArray := prog_2_method_1_code
def yX0_init : MethodName := ⟨RX0, "<init>", "()V"⟩
abbrev cX0_isMissing : ByteArray := prog_2_method_2_code
def yX0_isMissing : MethodName := ⟨RX0, "isMissing", "()Z"⟩
abbrev cX0_begin : ByteArray := prog_2_method_3_code
def yX0_begin : MethodName := ⟨RX0, "begin", "(II)V"⟩
abbrev cX0_has : ByteArray := prog_2_method_4_code
def yX0_has : MethodName := ⟨RX0, "has", "(II)Z"⟩
abbrev cX0_put : ByteArray := prog_2_method_5_code
def yX0_put : MethodName := ⟨RX0, "put", "(IJ)V"⟩
def RX1 : String := "TanRow$Shore"
def TX1 : u_T := fun k => match k with
  | 0 => ("TanRow$Shore", "hour", "I", false)
  | 1 => ("TanRow$Shore", "people", "I", false)
  | 2 => ("TanRow$Shore", "suns", "[I", true)
  | 3 => ("TanRow$Shore", "sitters", "[I", true)
  | 4 => ("TanRow$Shore", "kinds", "[I", true)
  | 5 => ("TanRow$Shore", "chairs", "[I", true)
  | 6 => ("TanRow$Shore", "lefts", "[I", true)
  | 7 => ("TanRow$Shore", "rights", "[I", true)
  | 8 => ("TanRow$Shore", "burnts", "[I", true)
  | 9 => ("TanRow$Shore", "fromLeft", "[I", true)
  | _ => ("TanRow$Shore", "fromRight", "[I", true)
def tyX1 : Nat → FieldType := fun k => match k with
  | 0 => .int
  | 1 => .int
  | 2 => .array .int
  | 3 => .array .int
  | 4 => .array .int
  | 5 => .array .int
  | 6 => .array .int
  | 7 => .array .int
  | 8 => .array .int
  | 9 => .array .int
  | _ => .array .int
abbrev wsX10 : List Cond := u_ws RX1 TX1 11
theorem nmX1 : ∀ a, a < 11 → ∀ b, b < 11 → a ≠ b → (TX1 a).2.1 ≠ (TX1 b).2.1 := by decide +kernel
theorem tyX1_ok : ∀ k, k < 11 → parseFieldDescriptor (TX1 k).2.2.1 = some (tyX1 k) := by decide +kernel
abbrev cX1_init : ByteArray := prog_3_method_1_code
def yX1_init : MethodName := ⟨RX1, "<init>", "()V"⟩
abbrev cX1_become : ByteArray := prog_3_method_2_code
def yX1_become : MethodName := ⟨RX1, "become", "(LTanRow$Shore;)V"⟩
abbrev cX1_place : ByteArray := prog_3_method_3_code
def yX1_place : MethodName := ⟨RX1, "place", "()I"⟩
abbrev cX1_sunNow : ByteArray := prog_3_method_4_code
def yX1_sunNow : MethodName := ⟨RX1, "sunNow", "()I"⟩
abbrev cX1_sunOfAll : ByteArray := prog_3_method_5_code
def yX1_sunOfAll : MethodName := ⟨RX1, "sunOfAll", "()I"⟩
abbrev cX1_add : ByteArray := prog_3_method_6_code
def yX1_add : MethodName := ⟨RX1, "add", "(II)I"⟩
abbrev cX1_sits : ByteArray := prog_3_method_7_code
def yX1_sits : MethodName := ⟨RX1, "sits", "(I)Z"⟩
abbrev cX1_isFreeFor : ByteArray := prog_3_method_8_code
def yX1_isFreeFor : MethodName := ⟨RX1, "isFreeFor", "(II)Z"⟩
abbrev cX1_seat : ByteArray := prog_3_method_9_code
def yX1_seat : MethodName := ⟨RX1, "seat", "(II)V"⟩
abbrev cX1_swap : ByteArray := prog_3_method_10_code
def yX1_swap : MethodName := ⟨RX1, "swap", "(II)V"⟩
abbrev cX1_neighbour : ByteArray := prog_3_method_11_code
def yX1_neighbour : MethodName := ⟨RX1, "neighbour", "(II)I"⟩
abbrev cX1_setOfSitters : ByteArray := prog_3_method_12_code
def yX1_setOfSitters : MethodName := ⟨RX1, "setOfSitters", "()I"⟩
abbrev cX1_setOfEven : ByteArray := prog_3_method_13_code
def yX1_setOfEven : MethodName := ⟨RX1, "setOfEven", "()I"⟩
abbrev cX1_isEven : ByteArray := prog_3_method_14_code
def yX1_isEven : MethodName := ⟨RX1, "isEven", "(I)Z"⟩
abbrev cX1_brownOf : ByteArray := prog_3_method_15_code
def yX1_brownOf : MethodName := ⟨RX1, "brownOf", "(I)I"⟩
abbrev cX1_brownOfAll : ByteArray := prog_3_method_16_code
def yX1_brownOfAll : MethodName := ⟨RX1, "brownOfAll", "()I"⟩
abbrev cX1_burntOfAll : ByteArray := prog_3_method_17_code
def yX1_burntOfAll : MethodName := ⟨RX1, "burntOfAll", "()I"⟩
abbrev cX1_fadesOf : ByteArray := prog_3_method_18_code
def yX1_fadesOf : MethodName := ⟨RX1, "fadesOf", "(I)I"⟩
abbrev cX1_givenLeft : ByteArray := prog_3_method_19_code
def yX1_givenLeft : MethodName := ⟨RX1, "givenLeft", "(I)I"⟩
abbrev cX1_givenRight : ByteArray := prog_3_method_20_code
def yX1_givenRight : MethodName := ⟨RX1, "givenRight", "(I)I"⟩
abbrev cX1_goOn : ByteArray := prog_3_method_21_code
def yX1_goOn : MethodName := ⟨RX1, "goOn", "(I)V"⟩
abbrev cX1_passHour : ByteArray := prog_3_method_22_code
def yX1_passHour : MethodName := ⟨RX1, "passHour", "()V"⟩
abbrev cX1_browned : ByteArray := prog_3_method_23_code
def yX1_browned : MethodName := ⟨RX1, "browned", "(IIII)I"⟩
abbrev cX1_burn : ByteArray := prog_3_method_24_code
def yX1_burn : MethodName := ⟨RX1, "burn", "(II)V"⟩
def RX2 : String := "TanRow$Text"
def TX2 : u_T := fun k => match k with
  | 0 => ("TanRow$Text", "size", "I", false)
  | 1 => ("TanRow$Text", "tape", "[I", true)
  | 2 => ("TanRow$Text", "sort", "I", false)
  | 3 => ("TanRow$Text", "start", "I", false)
  | 4 => ("TanRow$Text", "end", "I", false)
  | _ => ("TanRow$Text", "number", "I", false)
def tyX2 : Nat → FieldType := fun k => match k with
  | 0 => .int
  | 1 => .array .int
  | 2 => .int
  | 3 => .int
  | 4 => .int
  | _ => .int
abbrev wsX20 : List Cond := u_ws RX2 TX2 6
theorem nmX2 : ∀ a, a < 6 → ∀ b, b < 6 → a ≠ b → (TX2 a).2.1 ≠ (TX2 b).2.1 := by decide +kernel
theorem tyX2_ok : ∀ k, k < 6 → parseFieldDescriptor (TX2 k).2.2.1 = some (tyX2 k) := by decide +kernel
abbrev cX2_init : ByteArray := prog_4_method_1_code
def yX2_init : MethodName := ⟨RX2, "<init>", "()V"⟩
abbrev cX2_append : ByteArray := prog_4_method_2_code
def yX2_append : MethodName := ⟨RX2, "append", "(I)V"⟩
abbrev cX2_readAll : ByteArray := prog_4_method_3_code
def yX2_readAll : MethodName := ⟨RX2, "readAll", "(LTanRow$Shore;)I"⟩
abbrev cX2_readItem : ByteArray := prog_4_method_4_code
def yX2_readItem : MethodName := ⟨RX2, "readItem", "(LTanRow$Shore;)Z"⟩
abbrev cX2_readPerson : ByteArray := prog_4_method_5_code
def yX2_readPerson : MethodName := ⟨RX2, "readPerson", "(LTanRow$Shore;I)Z"⟩
abbrev cX2_readSun : ByteArray := prog_4_method_6_code
def yX2_readSun : MethodName := ⟨RX2, "readSun", "(LTanRow$Shore;)Z"⟩
abbrev cX2_readGoes : ByteArray := prog_4_method_7_code
def yX2_readGoes : MethodName := ⟨RX2, "readGoes", "(LTanRow$Shore;)Z"⟩
abbrev cX2_isNumberTo : ByteArray := prog_4_method_8_code
def yX2_isNumberTo : MethodName := ⟨RX2, "isNumberTo", "(I)Z"⟩
abbrev cX2_isWord : ByteArray := prog_4_method_9_code
def yX2_isWord : MethodName := ⟨RX2, "isWord", "(Ljava/lang/String;)Z"⟩
abbrev cX2_kindNamed : ByteArray := prog_4_method_10_code
def yX2_kindNamed : MethodName := ⟨RX2, "kindNamed", "()I"⟩
abbrev cX2_nameOf : ByteArray := prog_4_method_11_code
def yX2_nameOf : MethodName := ⟨RX2, "nameOf", "(I)Ljava/lang/String;"⟩
abbrev cX2_advance : ByteArray := prog_4_method_12_code
def yX2_advance : MethodName := ⟨RX2, "advance", "()V"⟩
abbrev cX2_passWord : ByteArray := prog_4_method_13_code
def yX2_passWord : MethodName := ⟨RX2, "passWord", "()V"⟩
abbrev cX2_passNumber : ByteArray := prog_4_method_14_code
def yX2_passNumber : MethodName := ⟨RX2, "passNumber", "()V"⟩
abbrev cX2_isLetter : ByteArray := prog_4_method_15_code
def yX2_isLetter : MethodName := ⟨RX2, "isLetter", "(I)Z"⟩
abbrev cX2_isDigit : ByteArray := prog_4_method_16_code
def yX2_isDigit : MethodName := ⟨RX2, "isDigit", "(I)Z"⟩
def RX3 : String := "TanRow$Ways"
def TX3 : u_T := fun k => match k with
  | _ => ("", "", "", false)
def tyX3 : Nat → FieldType := fun k => match k with
  | _ => .int
abbrev wsX30 : List Cond := u_ws RX3 TX3 0
theorem nmX3 : ∀ a, a < 0 → ∀ b, b < 0 → a ≠ b → (TX3 a).2.1 ≠ (TX3 b).2.1 := by decide +kernel
theorem tyX3_ok : ∀ k, k < 0 → parseFieldDescriptor (TX3 k).2.2.1 = some (tyX3 k) := by decide +kernel
abbrev cX3_isOrIsUnder : ByteArray := prog_5_method_2_code
def yX3_isOrIsUnder : MethodName := ⟨RX3, "isOrIsUnder", "(II)Z"⟩
abbrev cX3_glows : ByteArray := prog_5_method_3_code
def yX3_glows : MethodName := ⟨RX3, "glows", "(IIII)I"⟩
abbrev cX3_takes : ByteArray := prog_5_method_4_code
def yX3_takes : MethodName := ⟨RX3, "takes", "(II)I"⟩
abbrev cX3_fades : ByteArray := prog_5_method_5_code
def yX3_fades : MethodName := ⟨RX3, "fades", "(IIZ)I"⟩
abbrev cX3_burnsFrom : ByteArray := prog_5_method_6_code
def yX3_burnsFrom : MethodName := ⟨RX3, "burnsFrom", "(I)I"⟩
def RX4 : String := "TanRow"
def TX4 : u_T := fun k => match k with
  | 0 => ("TanRow", "shore", "LTanRow$Shore;", true)
  | 1 => ("TanRow", "trial", "LTanRow$Shore;", true)
  | 2 => ("TanRow", "kept", "LTanRow$Shore;", true)
  | 3 => ("TanRow", "text", "LTanRow$Text;", true)
  | 4 => ("TanRow", "sheets", "[LTanRow$Sheet;", true)
  | 5 => ("TanRow", "findings", "[I", true)
  | _ => ("TanRow", "keeps", "Z", false)
def tyX4 : Nat → FieldType := fun k => match k with
  | 0 => .object "TanRow$Shore"
  | 1 => .object "TanRow$Shore"
  | 2 => .object "TanRow$Shore"
  | 3 => .object "TanRow$Text"
  | 4 => .array (.object "TanRow$Sheet")
  | 5 => .array .int
  | _ => .boolean
abbrev wsX40 : List Cond := u_ws RX4 TX4 7
theorem nmX4 : ∀ a, a < 7 → ∀ b, b < 7 → a ≠ b → (TX4 a).2.1 ≠ (TX4 b).2.1 := by decide +kernel
theorem tyX4_ok : ∀ k, k < 7 → parseFieldDescriptor (TX4 k).2.2.1 = some (tyX4 k) := by decide +kernel
abbrev cX4_init : ByteArray := prog_1_method_1_code
def yX4_init : MethodName := ⟨RX4, "<init>", "()V"⟩
abbrev cX4_sun : ByteArray := prog_1_method_2_code
def yX4_sun : MethodName := ⟨RX4, "sun", "(II)I"⟩
abbrev cX4_chair : ByteArray := prog_1_method_3_code
def yX4_chair : MethodName := ⟨RX4, "chair", "(I)I"⟩
abbrev cX4_now : ByteArray := prog_1_method_4_code
def yX4_now : MethodName := ⟨RX4, "now", "(I)I"⟩
abbrev cX4_person : ByteArray := prog_1_method_5_code
def yX4_person : MethodName := ⟨RX4, "person", "(I)I"⟩
abbrev cX4_of : ByteArray := prog_1_method_6_code
def yX4_of : MethodName := ⟨RX4, "of", "(II)I"⟩
abbrev cX4_set : ByteArray := prog_1_method_7_code
def yX4_set : MethodName := ⟨RX4, "set", "(III)I"⟩
abbrev cX4_turn : ByteArray := prog_1_method_8_code
def yX4_turn : MethodName := ⟨RX4, "turn", "(II)I"⟩
abbrev cX4_as : ByteArray := prog_1_method_9_code
def yX4_as : MethodName := ⟨RX4, "as", "(II)I"⟩
abbrev cX4_sit : ByteArray := prog_1_method_10_code
def yX4_sit : MethodName := ⟨RX4, "sit", "(II)I"⟩
abbrev cX4_given : ByteArray := prog_1_method_11_code
def yX4_given : MethodName := ⟨RX4, "given", "(II)I"⟩
abbrev cX4_hours : ByteArray := prog_1_method_12_code
def yX4_hours : MethodName := ⟨RX4, "hours", "(I)I"⟩
abbrev cX4_on : ByteArray := prog_1_method_13_code
def yX4_on : MethodName := ⟨RX4, "on", "(III)I"⟩
abbrev cX4_brown : ByteArray := prog_1_method_14_code
def yX4_brown : MethodName := ⟨RX4, "brown", "(II)I"⟩
abbrev cX4_burns : ByteArray := prog_1_method_15_code
def yX4_burns : MethodName := ⟨RX4, "burns", "(I)I"⟩
abbrev cX4_even : ByteArray := prog_1_method_16_code
def yX4_even : MethodName := ⟨RX4, "even", "(I)I"⟩
abbrev cX4_where : ByteArray := prog_1_method_17_code
def yX4_where : MethodName := ⟨RX4, "where", "(II)I"⟩
abbrev cX4_change : ByteArray := prog_1_method_18_code
def yX4_change : MethodName := ⟨RX4, "change", "(II)I"⟩
abbrev cX4_kind : ByteArray := prog_1_method_19_code
def yX4_kind : MethodName := ⟨RX4, "kind", "(II)I"⟩
abbrev cX4_send : ByteArray := prog_1_method_20_code
def yX4_send : MethodName := ⟨RX4, "send", "(I)I"⟩
abbrev cX4_cloud : ByteArray := prog_1_method_21_code
def yX4_cloud : MethodName := ⟨RX4, "cloud", "(I)I"⟩
abbrev cX4_enough : ByteArray := prog_1_method_22_code
def yX4_enough : MethodName := ⟨RX4, "enough", "(IIII)I"⟩
abbrev cX4_brownest : ByteArray := prog_1_method_23_code
def yX4_brownest : MethodName := ⟨RX4, "brownest", "(I)I"⟩
abbrev cX4_feed : ByteArray := prog_1_method_24_code
def yX4_feed : MethodName := ⟨RX4, "feed", "(II)I"⟩
abbrev cX4_wipe : ByteArray := prog_1_method_25_code
def yX4_wipe : MethodName := ⟨RX4, "wipe", "()I"⟩
abbrev cX4_esplanade : ByteArray := prog_1_method_26_code
def yX4_esplanade : MethodName := ⟨RX4, "esplanade", "()I"⟩
abbrev cX4_sheet : ByteArray := prog_1_method_27_code
def yX4_sheet : MethodName := ⟨RX4, "sheet", "(III)I"⟩
abbrev cX4_write : ByteArray := prog_1_method_28_code
def yX4_write : MethodName := ⟨RX4, "write", "(IIJ)J"⟩
abbrev cX4_copy : ByteArray := prog_1_method_29_code
def yX4_copy : MethodName := ⟨RX4, "copy", "(IIIII)I"⟩
abbrev cX4_lays : ByteArray := prog_1_method_30_code
def yX4_lays : MethodName := ⟨RX4, "lays", "(I)I"⟩
abbrev cX4_book : ByteArray := prog_1_method_31_code
def yX4_book : MethodName := ⟨RX4, "book", "(II)I"⟩
abbrev cX4_read : ByteArray := prog_1_method_32_code
def yX4_read : MethodName := ⟨RX4, "read", "(III)I"⟩
abbrev cX4_image : ByteArray := prog_1_method_33_code
def yX4_image : MethodName := ⟨RX4, "image", "()I"⟩
abbrev cX4_undo : ByteArray := prog_1_method_34_code
def yX4_undo : MethodName := ⟨RX4, "undo", "()I"⟩
abbrev cX4_tear : ByteArray := prog_1_method_35_code
def yX4_tear : MethodName := ⟨RX4, "tear", "()I"⟩
abbrev cX4_count : ByteArray := prog_1_method_36_code
def yX4_count : MethodName := ⟨RX4, "count", "(I)I"⟩
abbrev cX4_status : ByteArray := prog_1_method_37_code
def yX4_status : MethodName := ⟨RX4, "status", "(I)I"⟩
abbrev cX4_finding : ByteArray := prog_1_method_38_code
def yX4_finding : MethodName := ⟨RX4, "finding", "(I)I"⟩
abbrev cX4_within : ByteArray := prog_1_method_39_code
def yX4_within : MethodName := ⟨RX4, "within", "(III)Z"⟩
abbrev cX4_isKind : ByteArray := prog_1_method_40_code
def yX4_isKind : MethodName := ⟨RX4, "isKind", "(I)Z"⟩
abbrev cX4_isPerson : ByteArray := prog_1_method_41_code
def yX4_isPerson : MethodName := ⟨RX4, "isPerson", "(I)Z"⟩
abbrev cX4_sheetAt : ByteArray := prog_1_method_42_code
def yX4_sheetAt : MethodName := ⟨RX4, "sheetAt", "(I)LTanRow$Sheet;"⟩
abbrev cX4_startTrial : ByteArray := prog_1_method_43_code
def yX4_startTrial : MethodName := ⟨RX4, "startTrial", "()V"⟩
abbrev cX4_brownWith : ByteArray := prog_1_method_44_code
def yX4_brownWith : MethodName := ⟨RX4, "brownWith", "(IIII)I"⟩
abbrev cX4_trialGoesAs : ByteArray := prog_1_method_45_code
def yX4_trialGoesAs : MethodName := ⟨RX4, "trialGoesAs", "(LTanRow$Sheet;I)Z"⟩
def RX5 : String := "TanRowModel"
def TX5 : u_T := fun k => match k with
  | 0 => ("TanRowModel", "m", "[I", true)
  | 1 => ("TanRowModel", "kept", "[I", true)
  | 2 => ("TanRowModel", "was", "[I", true)
  | 3 => ("TanRowModel", "isKept", "Z", false)
  | 4 => ("TanRowModel", "found", "[I", true)
  | 5 => ("TanRowModel", "gifts", "[I", true)
  | 6 => ("TanRowModel", "tape", "[I", true)
  | 7 => ("TanRowModel", "taped", "I", false)
  | 8 => ("TanRowModel", "token", "I", false)
  | 9 => ("TanRowModel", "begin", "I", false)
  | 10 => ("TanRowModel", "at", "I", false)
  | 11 => ("TanRowModel", "value", "I", false)
  | 12 => ("TanRowModel", "bad", "Z", false)
  | 13 => ("TanRowModel", "bitsOf", "[I", true)
  | 14 => ("TanRowModel", "sizeOf", "[I", true)
  | _ => ("TanRowModel", "cells", "[J", true)
def tyX5 : Nat → FieldType := fun k => match k with
  | 0 => .array .int
  | 1 => .array .int
  | 2 => .array .int
  | 3 => .boolean
  | 4 => .array .int
  | 5 => .array .int
  | 6 => .array .int
  | 7 => .int
  | 8 => .int
  | 9 => .int
  | 10 => .int
  | 11 => .int
  | 12 => .boolean
  | 13 => .array .int
  | 14 => .array .int
  | _ => .array .long
abbrev wsX50 : List Cond := u_ws RX5 TX5 16
theorem nmX5 : ∀ a, a < 16 → ∀ b, b < 16 → a ≠ b → (TX5 a).2.1 ≠ (TX5 b).2.1 := by decide +kernel
theorem tyX5_ok : ∀ k, k < 16 → parseFieldDescriptor (TX5 k).2.2.1 = some (tyX5 k) := by decide +kernel
abbrev cX5_init : ByteArray := prog_7_method_1_code
def yX5_init : MethodName := ⟨RX5, "<init>", "()V"⟩
abbrev cX5_finds : ByteArray := prog_7_method_2_code
def yX5_finds : MethodName := ⟨RX5, "finds", "(I)I"⟩
abbrev cX5_orNone : ByteArray := prog_7_method_3_code
def yX5_orNone : MethodName := ⟨RX5, "orNone", "(I)I"⟩
abbrev cX5_in : ByteArray := prog_7_method_4_code
def yX5_in : MethodName := ⟨RX5, "in", "(JII)Z"⟩
abbrev cX5_held : ByteArray := prog_7_method_5_code
def yX5_held : MethodName := ⟨RX5, "held", "(III)I"⟩
abbrev cX5_copyAll : ByteArray := prog_7_method_6_code
def yX5_copyAll : MethodName := ⟨RX5, "copyAll", "([I[I)V"⟩
abbrev cX5_becomes : ByteArray := prog_7_method_7_code
def yX5_becomes : MethodName := ⟨RX5, "becomes", "(II)I"⟩
abbrev cX5_isPerson : ByteArray := prog_7_method_8_code
def yX5_isPerson : MethodName := ⟨RX5, "isPerson", "(I)Z"⟩
abbrev cX5_areTwo : ByteArray := prog_7_method_9_code
def yX5_areTwo : MethodName := ⟨RX5, "areTwo", "(II)Z"⟩
abbrev cX5_it : ByteArray := prog_7_method_10_code
def yX5_it : MethodName := ⟨RX5, "it", "(II)I"⟩
abbrev cX5_put : ByteArray := prog_7_method_11_code
def yX5_put : MethodName := ⟨RX5, "put", "(III)V"⟩
abbrev cX5_sunNow : ByteArray := prog_7_method_12_code
def yX5_sunNow : MethodName := ⟨RX5, "sunNow", "()I"⟩
abbrev cX5_onChair : ByteArray := prog_7_method_13_code
def yX5_onChair : MethodName := ⟨RX5, "onChair", "(I)I"⟩
abbrev cX5_sits : ByteArray := prog_7_method_14_code
def yX5_sits : MethodName := ⟨RX5, "sits", "(I)Z"⟩
abbrev cX5_beside : ByteArray := prog_7_method_15_code
def yX5_beside : MethodName := ⟨RX5, "beside", "(II)I"⟩
abbrev cX5_glows : ByteArray := prog_7_method_16_code
def yX5_glows : MethodName := ⟨RX5, "glows", "(III)I"⟩
abbrev cX5_takesOf : ByteArray := prog_7_method_17_code
def yX5_takesOf : MethodName := ⟨RX5, "takesOf", "(II)I"⟩
abbrev cX5_fades : ByteArray := prog_7_method_18_code
def yX5_fades : MethodName := ⟨RX5, "fades", "(I)I"⟩
abbrev cX5_burnsFrom : ByteArray := prog_7_method_19_code
def yX5_burnsFrom : MethodName := ⟨RX5, "burnsFrom", "(I)I"⟩
abbrev cX5_brownOf : ByteArray := prog_7_method_20_code
def yX5_brownOf : MethodName := ⟨RX5, "brownOf", "(I)I"⟩
abbrev cX5_isEven : ByteArray := prog_7_method_21_code
def yX5_isEven : MethodName := ⟨RX5, "isEven", "(I)Z"⟩
abbrev cX5_givenTo : ByteArray := prog_7_method_22_code
def yX5_givenTo : MethodName := ⟨RX5, "givenTo", "(II)I"⟩
abbrev cX5_sun : ByteArray := prog_7_method_23_code
def yX5_sun : MethodName := ⟨RX5, "sun", "(II)I"⟩
abbrev cX5_chair : ByteArray := prog_7_method_24_code
def yX5_chair : MethodName := ⟨RX5, "chair", "(I)I"⟩
abbrev cX5_sums : ByteArray := prog_7_method_25_code
def yX5_sums : MethodName := ⟨RX5, "sums", "(I)I"⟩
abbrev cX5_allBrown : ByteArray := prog_7_method_26_code
def yX5_allBrown : MethodName := ⟨RX5, "allBrown", "()I"⟩
abbrev cX5_sitters : ByteArray := prog_7_method_27_code
def yX5_sitters : MethodName := ⟨RX5, "sitters", "()I"⟩
abbrev cX5_evenOnes : ByteArray := prog_7_method_28_code
def yX5_evenOnes : MethodName := ⟨RX5, "evenOnes", "()I"⟩
abbrev cX5_now : ByteArray := prog_7_method_29_code
def yX5_now : MethodName := ⟨RX5, "now", "(I)I"⟩
abbrev cX5_comesAs : ByteArray := prog_7_method_30_code
def yX5_comesAs : MethodName := ⟨RX5, "comesAs", "(III)I"⟩
abbrev cX5_person : ByteArray := prog_7_method_31_code
def yX5_person : MethodName := ⟨RX5, "person", "(I)I"⟩
abbrev cX5_of : ByteArray := prog_7_method_32_code
def yX5_of : MethodName := ⟨RX5, "of", "(II)I"⟩
abbrev cX5_set : ByteArray := prog_7_method_33_code
def yX5_set : MethodName := ⟨RX5, "set", "(III)I"⟩
abbrev cX5_turn : ByteArray := prog_7_method_34_code
def yX5_turn : MethodName := ⟨RX5, "turn", "(II)I"⟩
abbrev cX5_as : ByteArray := prog_7_method_35_code
def yX5_as : MethodName := ⟨RX5, "as", "(II)I"⟩
abbrev cX5_isFreeFor : ByteArray := prog_7_method_36_code
def yX5_isFreeFor : MethodName := ⟨RX5, "isFreeFor", "(II)Z"⟩
abbrev cX5_sit : ByteArray := prog_7_method_37_code
def yX5_sit : MethodName := ⟨RX5, "sit", "(II)I"⟩
abbrev cX5_given : ByteArray := prog_7_method_38_code
def yX5_given : MethodName := ⟨RX5, "given", "(II)I"⟩
abbrev cX5_browns : ByteArray := prog_7_method_39_code
def yX5_browns : MethodName := ⟨RX5, "browns", "(II)V"⟩
abbrev cX5_goes : ByteArray := prog_7_method_40_code
def yX5_goes : MethodName := ⟨RX5, "goes", "()V"⟩
abbrev cX5_goesFor : ByteArray := prog_7_method_41_code
def yX5_goesFor : MethodName := ⟨RX5, "goesFor", "(I)V"⟩
abbrev cX5_hours : ByteArray := prog_7_method_42_code
def yX5_hours : MethodName := ⟨RX5, "hours", "(I)I"⟩
abbrev cX5_thinks : ByteArray := prog_7_method_43_code
def yX5_thinks : MethodName := ⟨RX5, "thinks", "()V"⟩
abbrev cX5_putsBack : ByteArray := prog_7_method_44_code
def yX5_putsBack : MethodName := ⟨RX5, "putsBack", "()V"⟩
abbrev cX5_on : ByteArray := prog_7_method_45_code
def yX5_on : MethodName := ⟨RX5, "on", "(III)I"⟩
abbrev cX5_brown : ByteArray := prog_7_method_46_code
def yX5_brown : MethodName := ⟨RX5, "brown", "(II)I"⟩
abbrev cX5_burns : ByteArray := prog_7_method_47_code
def yX5_burns : MethodName := ⟨RX5, "burns", "(I)I"⟩
abbrev cX5_even : ByteArray := prog_7_method_48_code
def yX5_even : MethodName := ⟨RX5, "even", "(I)I"⟩
abbrev cX5_brownOn : ByteArray := prog_7_method_49_code
def yX5_brownOn : MethodName := ⟨RX5, "brownOn", "(II)I"⟩
abbrev cX5_where : ByteArray := prog_7_method_50_code
def yX5_where : MethodName := ⟨RX5, "where", "(II)I"⟩
abbrev cX5_change : ByteArray := prog_7_method_51_code
def yX5_change : MethodName := ⟨RX5, "change", "(II)I"⟩
abbrev cX5_kind : ByteArray := prog_7_method_52_code
def yX5_kind : MethodName := ⟨RX5, "kind", "(II)I"⟩
abbrev cX5_send : ByteArray := prog_7_method_53_code
def yX5_send : MethodName := ⟨RX5, "send", "(I)I"⟩
abbrev cX5_cloud : ByteArray := prog_7_method_54_code
def yX5_cloud : MethodName := ⟨RX5, "cloud", "(I)I"⟩
abbrev cX5_enough : ByteArray := prog_7_method_55_code
def yX5_enough : MethodName := ⟨RX5, "enough", "(IIII)I"⟩
abbrev cX5_brownest : ByteArray := prog_7_method_56_code
def yX5_brownest : MethodName := ⟨RX5, "brownest", "(I)I"⟩
abbrev cX5_feed : ByteArray := prog_7_method_57_code
def yX5_feed : MethodName := ⟨RX5, "feed", "(II)I"⟩
abbrev cX5_wipe : ByteArray := prog_7_method_58_code
def yX5_wipe : MethodName := ⟨RX5, "wipe", "()I"⟩
abbrev cX5_isByte : ByteArray := prog_7_method_59_code
def yX5_isByte : MethodName := ⟨RX5, "isByte", "(III)Z"⟩
abbrev cX5_isName : ByteArray := prog_7_method_60_code
def yX5_isName : MethodName := ⟨RX5, "isName", "(II)Z"⟩
abbrev cX5_wordHere : ByteArray := prog_7_method_61_code
def yX5_wordHere : MethodName := ⟨RX5, "wordHere", "()I"⟩
abbrev cX5_reads : ByteArray := prog_7_method_62_code
def yX5_reads : MethodName := ⟨RX5, "reads", "()V"⟩
abbrev cX5_passes : ByteArray := prog_7_method_63_code
def yX5_passes : MethodName := ⟨RX5, "passes", "(I)Z"⟩
abbrev cX5_number : ByteArray := prog_7_method_64_code
def yX5_number : MethodName := ⟨RX5, "number", "(II)I"⟩
abbrev cX5_perhaps : ByteArray := prog_7_method_65_code
def yX5_perhaps : MethodName := ⟨RX5, "perhaps", "(IIII)I"⟩
abbrev cX5_personItem : ByteArray := prog_7_method_66_code
def yX5_personItem : MethodName := ⟨RX5, "personItem", "()V"⟩
abbrev cX5_sunItem : ByteArray := prog_7_method_67_code
def yX5_sunItem : MethodName := ⟨RX5, "sunItem", "()V"⟩
abbrev cX5_item : ByteArray := prog_7_method_68_code
def yX5_item : MethodName := ⟨RX5, "item", "()V"⟩
abbrev cX5_esplanade : ByteArray := prog_7_method_69_code
def yX5_esplanade : MethodName := ⟨RX5, "esplanade", "()I"⟩
abbrev cX5_isSheet : ByteArray := prog_7_method_70_code
def yX5_isSheet : MethodName := ⟨RX5, "isSheet", "(I)Z"⟩
abbrev cX5_sheet : ByteArray := prog_7_method_71_code
def yX5_sheet : MethodName := ⟨RX5, "sheet", "(III)I"⟩
abbrev cX5_notThere : ByteArray := prog_7_method_72_code
def yX5_notThere : MethodName := ⟨RX5, "notThere", "(I)I"⟩
abbrev cX5_cutTo : ByteArray := prog_7_method_73_code
def yX5_cutTo : MethodName := ⟨RX5, "cutTo", "(IJ)J"⟩
abbrev cX5_write : ByteArray := prog_7_method_74_code
def yX5_write : MethodName := ⟨RX5, "write", "(IIJ)J"⟩
abbrev cX5_notCopied : ByteArray := prog_7_method_75_code
def yX5_notCopied : MethodName := ⟨RX5, "notCopied", "(IIIII)I"⟩
abbrev cX5_copy : ByteArray := prog_7_method_76_code
def yX5_copy : MethodName := ⟨RX5, "copy", "(IIIII)I"⟩
abbrev cX5_lays : ByteArray := prog_7_method_77_code
def yX5_lays : MethodName := ⟨RX5, "lays", "(I)I"⟩
abbrev cX5_book : ByteArray := prog_7_method_78_code
def yX5_book : MethodName := ⟨RX5, "book", "(II)I"⟩
abbrev cX5_isBook : ByteArray := prog_7_method_79_code
def yX5_isBook : MethodName := ⟨RX5, "isBook", "(II)Z"⟩
abbrev cX5_read : ByteArray := prog_7_method_80_code
def yX5_read : MethodName := ⟨RX5, "read", "(III)I"⟩
abbrev cX5_image : ByteArray := prog_7_method_81_code
def yX5_image : MethodName := ⟨RX5, "image", "()I"⟩
abbrev cX5_undo : ByteArray := prog_7_method_82_code
def yX5_undo : MethodName := ⟨RX5, "undo", "()I"⟩
abbrev cX5_tear : ByteArray := prog_7_method_83_code
def yX5_tear : MethodName := ⟨RX5, "tear", "()I"⟩
abbrev cX5_allSun : ByteArray := prog_7_method_84_code
def yX5_allSun : MethodName := ⟨RX5, "allSun", "()I"⟩
abbrev cX5_howManySit : ByteArray := prog_7_method_85_code
def yX5_howManySit : MethodName := ⟨RX5, "howManySit", "()I"⟩
abbrev cX5_count : ByteArray := prog_7_method_86_code
def yX5_count : MethodName := ⟨RX5, "count", "(I)I"⟩
abbrev cX5_status : ByteArray := prog_7_method_87_code
def yX5_status : MethodName := ⟨RX5, "status", "(I)I"⟩
def RJ6 : String := "java/lang/Integer"
abbrev cJ6_bitCount_0f7a4 : ByteArray := prog_8_method_49_code
def yJ6_bitCount_0f7a4 : MethodName := ⟨RJ6, "bitCount", "(I)I"⟩
def RJ9 : String := "java/lang/Math"
abbrev cJ9_abs_0f7a4 : ByteArray := prog_9_method_59_code
def yJ9_abs_0f7a4 : MethodName := ⟨RJ9, "abs", "(I)I"⟩
abbrev cJ9_max_7cf53 : ByteArray := prog_9_method_65_code
def yJ9_max_7cf53 : MethodName := ⟨RJ9, "max", "(II)I"⟩
abbrev cJ9_min_7cf53 : ByteArray := prog_9_method_69_code
def yJ9_min_7cf53 : MethodName := ⟨RJ9, "min", "(II)I"⟩
def RJ0 : String := "java/lang/String"
abbrev cJ0_length_8abf5 : ByteArray := prog_10_method_54_code
def yJ0_length_8abf5 : MethodName := ⟨RJ0, "length", "()I"⟩
abbrev cJ0_charAt_5068e : ByteArray := prog_10_method_56_code
def yJ0_charAt_5068e : MethodName := ⟨RJ0, "charAt", "(I)C"⟩
abbrev cJ0_coder_7d493 : ByteArray := prog_10_method_152_code
def yJ0_coder_7d493 : MethodName := ⟨RJ0, "coder", "()B"⟩
abbrev cJ0_isLatin1_aae02 : ByteArray := prog_10_method_154_code
def yJ0_isLatin1_aae02 : MethodName := ⟨RJ0, "isLatin1", "()Z"⟩
abbrev cJ0_checkIndex_df160 : ByteArray := prog_10_method_155_code
def yJ0_checkIndex_df160 : MethodName := ⟨RJ0, "checkIndex", "(II)V"⟩
def RJ1 : String := "java/lang/StringLatin1"
abbrev cJ1_charAt_3b067 : ByteArray := prog_11_method_2_code
def yJ1_charAt_3b067 : MethodName := ⟨RJ1, "charAt", "([BI)C"⟩
def RJ2 : String := "java/lang/StringUTF16"
abbrev cJ2_getChar_3b067 : ByteArray := prog_12_method_5_code
def yJ2_getChar_3b067 : MethodName := ⟨RJ2, "getChar", "([BI)C"⟩
abbrev cJ2_length_9d52b : ByteArray := prog_12_method_6_code
def yJ2_length_9d52b : MethodName := ⟨RJ2, "length", "([B)I"⟩
abbrev cJ2_charAt_3b067 : ByteArray := prog_12_method_83_code
def yJ2_charAt_3b067 : MethodName := ⟨RJ2, "charAt", "([BI)C"⟩
abbrev cJ2_checkIndex_2214a : ByteArray := prog_12_method_91_code
def yJ2_checkIndex_2214a : MethodName := ⟨RJ2, "checkIndex", "(I[B)V"⟩
def RJ10 : String := "java/lang/System"
def RJ7 : String := "java/util/Arrays"
abbrev cJ7_fill_d0a16 : ByteArray := prog_14_method_101_code
def yJ7_fill_d0a16 : MethodName := ⟨RJ7, "fill", "([JJ)V"⟩
abbrev cJ7_fill_53178 : ByteArray := prog_14_method_103_code
def yJ7_fill_53178 : MethodName := ⟨RJ7, "fill", "([II)V"⟩
def RJ3 : String := "jdk/internal/util/Preconditions"
abbrev cJ3_checkIndex_8e157 : ByteArray := prog_15_method_11_code
def yJ3_checkIndex_8e157 : MethodName := ⟨RJ3, "checkIndex", "(IILjava/util/function/BiFunction;)I"⟩
def RL : String := "TanRowLaw"
abbrev cL_law : ByteArray := code
def yL_law : MethodName := ⟨RL, "law", "([I)Z"⟩
def tb : List Cond := lw_tbl.filter goodWord
theorem tbm_0 {w : Cond} (h : w ∈ k2_sels lw_privs) (g : goodWord w = true) : w ∈ tb := List.mem_filter.mpr ⟨List.mem_append_left _ h, g⟩
theorem tbm_1 {w : Cond} (h : w ∈ tables_1_1) (g : goodWord w = true) : w ∈ tb := List.mem_filter.mpr ⟨List.mem_append_right _ (List.mem_append_left _ h), g⟩
theorem tbm_2 {w : Cond} (h : w ∈ tables_1_2) (g : goodWord w = true) : w ∈ tb := List.mem_filter.mpr ⟨List.mem_append_right _ (List.mem_append_right _ (List.mem_append_left _ h)), g⟩
theorem tbm_3 {w : Cond} (h : w ∈ tables_1_3) (g : goodWord w = true) : w ∈ tb := List.mem_filter.mpr ⟨List.mem_append_right _ (List.mem_append_right _ (List.mem_append_right _ (List.mem_append_left _ h))), g⟩
theorem tbm_4 {w : Cond} (h : w ∈ tables_1_4) (g : goodWord w = true) : w ∈ tb := List.mem_filter.mpr ⟨List.mem_append_right _ (List.mem_append_right _ (List.mem_append_right _ (List.mem_append_right _ (List.mem_append_left _ h)))), g⟩
theorem tbm_5 {w : Cond} (h : w ∈ tables_1_5) (g : goodWord w = true) : w ∈ tb := List.mem_filter.mpr ⟨List.mem_append_right _ (List.mem_append_right _ (List.mem_append_right _ (List.mem_append_right _ (List.mem_append_right _ h)))), g⟩
theorem tb_good {w : Cond} (h : w ∈ tb) : (w.onTables && w.keeps) = true ∨ ∃ ty, w = .arrayClass ty := good_of_word (List.mem_filter.mp h).2
theorem tb_in {c c' : Cond} (h : c' ∈ tb) : GoodIn (c :: tb) (c' :: tb) := fun w hw => (List.mem_cons.mp hw).elim (fun e => by subst e; exact ⟨List.mem_cons_of_mem _ h, tb_good h⟩) (fun h => ⟨List.mem_cons_of_mem _ h, tb_good h⟩)
theorem in_L : Cond.initialized RL ∈ tb := tbm_1 (List.mem_of_getElem? (i := 0) (by decide +kernel)) rfl
theorem in_X4 : Cond.initialized RX4 ∈ tb := tbm_1 (List.mem_of_getElem? (i := 1) (by decide +kernel)) rfl
theorem in_X1 : Cond.initialized RX1 ∈ tb := tbm_1 (List.mem_of_getElem? (i := 2) (by decide +kernel)) rfl
theorem in_J7 : Cond.initialized RJ7 ∈ tb := tbm_1 (List.mem_of_getElem? (i := 3) (by decide +kernel)) rfl
theorem in_X2 : Cond.initialized RX2 ∈ tb := tbm_1 (List.mem_of_getElem? (i := 4) (by decide +kernel)) rfl
theorem in_X0 : Cond.initialized RX0 ∈ tb := tbm_1 (List.mem_of_getElem? (i := 5) (by decide +kernel)) rfl
theorem in_X5 : Cond.initialized RX5 ∈ tb := tbm_1 (List.mem_of_getElem? (i := 6) (by decide +kernel)) rfl
theorem in_J9 : Cond.initialized RJ9 ∈ tb := tbm_1 (List.mem_of_getElem? (i := 7) (by decide +kernel)) rfl
theorem in_X3 : Cond.initialized RX3 ∈ tb := tbm_1 (List.mem_of_getElem? (i := 8) (by decide +kernel)) rfl
theorem in_J10 : Cond.initialized RJ10 ∈ tb := tbm_1 (List.mem_of_getElem? (i := 9) (by decide +kernel)) rfl
theorem in_J0 : Cond.initialized RJ0 ∈ tb := tbm_1 (List.mem_of_getElem? (i := 10) (by decide +kernel)) rfl
theorem in_J1 : Cond.initialized RJ1 ∈ tb := tbm_1 (List.mem_of_getElem? (i := 11) (by decide +kernel)) rfl
theorem in_J3 : Cond.initialized RJ3 ∈ tb := tbm_1 (List.mem_of_getElem? (i := 12) (by decide +kernel)) rfl
theorem in_J2 : Cond.initialized RJ2 ∈ tb := tbm_1 (List.mem_of_getElem? (i := 13) (by decide +kernel)) rfl
theorem in_J6 : Cond.initialized RJ6 ∈ tb := tbm_1 (List.mem_of_getElem? (i := 14) (by decide +kernel)) rfl
theorem cl_L_7 : Cond.classLink RL 7 RX4 ∈ tb := tbm_1 (List.mem_of_getElem? (i := 15) (by decide +kernel)) rfl
theorem it_X4 : Cond.instantiable RX4 7 ∈ tb := tbm_1 (List.mem_of_getElem? (i := 16) (by decide +kernel)) rfl
theorem ml_L_9 : Cond.methodLink RL 9 yX4_init ∈ tb := tbm_1 (List.mem_of_getElem? (i := 17) (by decide +kernel)) rfl
theorem im_X4_init : Cond.instanceMethod yX4_init ∈ tb := tbm_1 (List.mem_of_getElem? (i := 18) (by decide +kernel)) rfl
theorem co_X4_init : Cond.code yX4_init cX4_init 2 none ∈ tb := tbm_1 (List.mem_of_getElem? (i := 19) (by decide +kernel)) rfl
theorem ml_X4_1 : Cond.methodLink RX4 1 objectInit ∈ tb := tbm_1 (List.mem_of_getElem? (i := 20) (by decide +kernel)) rfl
theorem im_O_init : Cond.instanceMethod objectInit ∈ tb := tbm_1 (List.mem_of_getElem? (i := 21) (by decide +kernel)) rfl
theorem co_O_init : Cond.code objectInit ⟨#[0xb1]⟩ 1 none ∈ tb := tbm_1 (List.mem_of_getElem? (i := 22) (by decide +kernel)) rfl
theorem cl_X4_7 : Cond.classLink RX4 7 RX1 ∈ tb := tbm_1 (List.mem_of_getElem? (i := 23) (by decide +kernel)) rfl
theorem it_X1 : Cond.instantiable RX1 11 ∈ tb := tbm_1 (List.mem_of_getElem? (i := 24) (by decide +kernel)) rfl
theorem ml_X4_9 : Cond.methodLink RX4 9 yX1_init ∈ tb := tbm_1 (List.mem_of_getElem? (i := 25) (by decide +kernel)) rfl
theorem im_X1_init : Cond.instanceMethod yX1_init ∈ tb := tbm_1 (List.mem_of_getElem? (i := 26) (by decide +kernel)) rfl
theorem co_X1_init : Cond.code yX1_init cX1_init 2 none ∈ tb := tbm_1 (List.mem_of_getElem? (i := 27) (by decide +kernel)) rfl
theorem ml_X1_3 : Cond.methodLink RX1 3 objectInit ∈ tb := tbm_1 (List.mem_of_getElem? (i := 28) (by decide +kernel)) rfl
theorem ml_X1_46 : Cond.methodLink RX1 46 yJ7_fill_53178 ∈ tb := tbm_1 (List.mem_of_getElem? (i := 29) (by decide +kernel)) rfl
theorem st_J7_fill_53178 : Cond.static yJ7_fill_53178 ∈ tb := tbm_1 (List.mem_of_getElem? (i := 30) (by decide +kernel)) rfl
theorem co_J7_fill_53178 : Cond.code yJ7_fill_53178 cJ7_fill_53178 4 none ∈ tb := tbm_1 (List.mem_of_getElem? (i := 31) (by decide +kernel)) rfl
theorem fl_X1_9 : Cond.fieldLink RX1 9 "TanRow$Shore" "hour" "I" ∈ tb := tbm_1 (List.mem_of_getElem? (i := 32) (by decide +kernel)) rfl
theorem fl_X4_59 : Cond.fieldLink RX4 59 "TanRow$Shore" "hour" "I" ∈ tb := tbm_1 (List.mem_of_getElem? (i := 33) (by decide +kernel)) rfl
theorem fl_X1_15 : Cond.fieldLink RX1 15 "TanRow$Shore" "people" "I" ∈ tb := tbm_1 (List.mem_of_getElem? (i := 34) (by decide +kernel)) rfl
theorem fl_X2_56 : Cond.fieldLink RX2 56 "TanRow$Shore" "people" "I" ∈ tb := tbm_1 (List.mem_of_getElem? (i := 35) (by decide +kernel)) rfl
theorem fl_X4_86 : Cond.fieldLink RX4 86 "TanRow$Shore" "people" "I" ∈ tb := tbm_1 (List.mem_of_getElem? (i := 36) (by decide +kernel)) rfl
theorem fl_X1_18 : Cond.fieldLink RX1 18 "TanRow$Shore" "suns" "[I" ∈ tb := tbm_1 (List.mem_of_getElem? (i := 37) (by decide +kernel)) rfl
theorem fl_X4_53 : Cond.fieldLink RX4 53 "TanRow$Shore" "suns" "[I" ∈ tb := tbm_1 (List.mem_of_getElem? (i := 38) (by decide +kernel)) rfl
theorem fl_X2_85 : Cond.fieldLink RX2 85 "TanRow$Shore" "suns" "[I" ∈ tb := tbm_1 (List.mem_of_getElem? (i := 39) (by decide +kernel)) rfl
theorem fl_X1_22 : Cond.fieldLink RX1 22 "TanRow$Shore" "sitters" "[I" ∈ tb := tbm_1 (List.mem_of_getElem? (i := 40) (by decide +kernel)) rfl
theorem fl_X4_56 : Cond.fieldLink RX4 56 "TanRow$Shore" "sitters" "[I" ∈ tb := tbm_1 (List.mem_of_getElem? (i := 41) (by decide +kernel)) rfl
theorem fl_X1_25 : Cond.fieldLink RX1 25 "TanRow$Shore" "kinds" "[I" ∈ tb := tbm_1 (List.mem_of_getElem? (i := 42) (by decide +kernel)) rfl
theorem fl_X4_97 : Cond.fieldLink RX4 97 "TanRow$Shore" "kinds" "[I" ∈ tb := tbm_1 (List.mem_of_getElem? (i := 43) (by decide +kernel)) rfl
theorem fl_X1_28 : Cond.fieldLink RX1 28 "TanRow$Shore" "chairs" "[I" ∈ tb := tbm_1 (List.mem_of_getElem? (i := 44) (by decide +kernel)) rfl
theorem fl_X4_100 : Cond.fieldLink RX4 100 "TanRow$Shore" "chairs" "[I" ∈ tb := tbm_1 (List.mem_of_getElem? (i := 45) (by decide +kernel)) rfl
theorem fl_X1_31 : Cond.fieldLink RX1 31 "TanRow$Shore" "lefts" "[I" ∈ tb := tbm_1 (List.mem_of_getElem? (i := 46) (by decide +kernel)) rfl
theorem fl_X4_103 : Cond.fieldLink RX4 103 "TanRow$Shore" "lefts" "[I" ∈ tb := tbm_1 (List.mem_of_getElem? (i := 47) (by decide +kernel)) rfl
theorem fl_X1_34 : Cond.fieldLink RX1 34 "TanRow$Shore" "rights" "[I" ∈ tb := tbm_1 (List.mem_of_getElem? (i := 48) (by decide +kernel)) rfl
theorem fl_X4_106 : Cond.fieldLink RX4 106 "TanRow$Shore" "rights" "[I" ∈ tb := tbm_1 (List.mem_of_getElem? (i := 49) (by decide +kernel)) rfl
theorem fl_X1_37 : Cond.fieldLink RX1 37 "TanRow$Shore" "burnts" "[I" ∈ tb := tbm_1 (List.mem_of_getElem? (i := 50) (by decide +kernel)) rfl
theorem fl_X4_109 : Cond.fieldLink RX4 109 "TanRow$Shore" "burnts" "[I" ∈ tb := tbm_1 (List.mem_of_getElem? (i := 51) (by decide +kernel)) rfl
theorem fl_X1_40 : Cond.fieldLink RX1 40 "TanRow$Shore" "fromLeft" "[I" ∈ tb := tbm_1 (List.mem_of_getElem? (i := 52) (by decide +kernel)) rfl
theorem fl_X1_43 : Cond.fieldLink RX1 43 "TanRow$Shore" "fromRight" "[I" ∈ tb := tbm_1 (List.mem_of_getElem? (i := 53) (by decide +kernel)) rfl
theorem ac_77 : Cond.arrayClass FieldType.int ∈ tb := tbm_1 (List.mem_of_getElem? (i := 77) (by decide +kernel)) rfl
theorem cl_X4_22 : Cond.classLink RX4 22 RX2 ∈ tb := tbm_1 (List.mem_of_getElem? (i := 78) (by decide +kernel)) rfl
theorem it_X2 : Cond.instantiable RX2 6 ∈ tb := tbm_1 (List.mem_of_getElem? (i := 79) (by decide +kernel)) rfl
theorem im_X2_init : Cond.instanceMethod yX2_init ∈ tb := tbm_1 (List.mem_of_getElem? (i := 81) (by decide +kernel)) rfl
theorem co_X2_init : Cond.code yX2_init cX2_init 1 none ∈ tb := tbm_1 (List.mem_of_getElem? (i := 82) (by decide +kernel)) rfl
theorem ml_X2_3 : Cond.methodLink RX2 3 objectInit ∈ tb := tbm_1 (List.mem_of_getElem? (i := 83) (by decide +kernel)) rfl
theorem fl_X2_9 : Cond.fieldLink RX2 9 "TanRow$Text" "size" "I" ∈ tb := tbm_1 (List.mem_of_getElem? (i := 84) (by decide +kernel)) rfl
theorem fl_X4_170 : Cond.fieldLink RX4 170 "TanRow$Text" "size" "I" ∈ tb := tbm_1 (List.mem_of_getElem? (i := 85) (by decide +kernel)) rfl
theorem fl_X2_15 : Cond.fieldLink RX2 15 "TanRow$Text" "tape" "[I" ∈ tb := tbm_1 (List.mem_of_getElem? (i := 86) (by decide +kernel)) rfl
theorem fl_X2_19 : Cond.fieldLink RX2 19 "TanRow$Text" "sort" "I" ∈ tb := tbm_1 (List.mem_of_getElem? (i := 87) (by decide +kernel)) rfl
theorem fl_X2_22 : Cond.fieldLink RX2 22 "TanRow$Text" "start" "I" ∈ tb := tbm_1 (List.mem_of_getElem? (i := 88) (by decide +kernel)) rfl
theorem fl_X2_25 : Cond.fieldLink RX2 25 "TanRow$Text" "end" "I" ∈ tb := tbm_1 (List.mem_of_getElem? (i := 89) (by decide +kernel)) rfl
theorem fl_X2_28 : Cond.fieldLink RX2 28 "TanRow$Text" "number" "I" ∈ tb := tbm_1 (List.mem_of_getElem? (i := 90) (by decide +kernel)) rfl
theorem cl_X4_29 : Cond.classLink RX4 29 RX0 ∈ tb := tbm_1 (List.mem_of_getElem? (i := 104) (by decide +kernel)) rfl
theorem it_X0 : Cond.instantiable RX0 3 ∈ tb := tbm_1 (List.mem_of_getElem? (i := 106) (by decide +kernel)) rfl
theorem im_X0_init : Cond.instanceMethod yX0_init ∈ tb := tbm_1 (List.mem_of_getElem? (i := 108) (by decide +kernel)) rfl
theorem co_X0_init : Cond.code yX0_init cX0_init 1 none ∈ tb := tbm_1 (List.mem_of_getElem? (i := 109) (by decide +kernel)) rfl
theorem ml_X0_3 : Cond.methodLink RX0 3 objectInit ∈ tb := tbm_1 (List.mem_of_getElem? (i := 110) (by decide +kernel)) rfl
theorem fl_X0_9 : Cond.fieldLink RX0 9 "TanRow$Sheet" "bits" "I" ∈ tb := tbm_1 (List.mem_of_getElem? (i := 111) (by decide +kernel)) rfl
theorem fl_X4_206 : Cond.fieldLink RX4 206 "TanRow$Sheet" "bits" "I" ∈ tb := tbm_1 (List.mem_of_getElem? (i := 112) (by decide +kernel)) rfl
theorem fl_X0_15 : Cond.fieldLink RX0 15 "TanRow$Sheet" "size" "I" ∈ tb := tbm_1 (List.mem_of_getElem? (i := 113) (by decide +kernel)) rfl
theorem fl_X4_192 : Cond.fieldLink RX4 192 "TanRow$Sheet" "size" "I" ∈ tb := tbm_1 (List.mem_of_getElem? (i := 114) (by decide +kernel)) rfl
theorem fl_X0_18 : Cond.fieldLink RX0 18 "TanRow$Sheet" "numbers" "[J" ∈ tb := tbm_1 (List.mem_of_getElem? (i := 115) (by decide +kernel)) rfl
theorem fl_X4_198 : Cond.fieldLink RX4 198 "TanRow$Sheet" "numbers" "[J" ∈ tb := tbm_1 (List.mem_of_getElem? (i := 116) (by decide +kernel)) rfl
theorem ac_124 : Cond.arrayClass FieldType.long ∈ tb := tbm_1 (List.mem_of_getElem? (i := 124) (by decide +kernel)) rfl
theorem fl_X4_10 : Cond.fieldLink RX4 10 "TanRow" "shore" "LTanRow$Shore;" ∈ tb := tbm_1 (List.mem_of_getElem? (i := 125) (by decide +kernel)) rfl
theorem fl_X4_16 : Cond.fieldLink RX4 16 "TanRow" "trial" "LTanRow$Shore;" ∈ tb := tbm_1 (List.mem_of_getElem? (i := 126) (by decide +kernel)) rfl
theorem fl_X4_19 : Cond.fieldLink RX4 19 "TanRow" "kept" "LTanRow$Shore;" ∈ tb := tbm_1 (List.mem_of_getElem? (i := 127) (by decide +kernel)) rfl
theorem fl_X4_25 : Cond.fieldLink RX4 25 "TanRow" "text" "LTanRow$Text;" ∈ tb := tbm_1 (List.mem_of_getElem? (i := 128) (by decide +kernel)) rfl
theorem fl_X4_31 : Cond.fieldLink RX4 31 "TanRow" "sheets" "[LTanRow$Sheet;" ∈ tb := tbm_1 (List.mem_of_getElem? (i := 129) (by decide +kernel)) rfl
theorem fl_X4_35 : Cond.fieldLink RX4 35 "TanRow" "findings" "[I" ∈ tb := tbm_1 (List.mem_of_getElem? (i := 130) (by decide +kernel)) rfl
theorem fl_X4_39 : Cond.fieldLink RX4 39 "TanRow" "keeps" "Z" ∈ tb := tbm_1 (List.mem_of_getElem? (i := 131) (by decide +kernel)) rfl
theorem ml_L_13 : Cond.methodLink RL 13 yX4_sun ∈ tb := tbm_1 (List.mem_of_getElem? (i := 147) (by decide +kernel)) rfl
theorem im_X4_sun : Cond.instanceMethod yX4_sun ∈ tb := tbm_1 (List.mem_of_getElem? (i := 148) (by decide +kernel)) rfl
theorem se_X4_sun : Cond.selects RX4 yX4_sun yX4_sun ∈ tb := tbm_1 (List.mem_of_getElem? (i := 149) (by decide +kernel)) rfl
theorem co_X4_sun : Cond.code yX4_sun cX4_sun 4 (some FieldType.int) ∈ tb := tbm_1 (List.mem_of_getElem? (i := 150) (by decide +kernel)) rfl
theorem ml_X4_44 : Cond.methodLink RX4 44 yX4_within ∈ tb := tbm_1 (List.mem_of_getElem? (i := 151) (by decide +kernel)) rfl
theorem st_X4_within : Cond.static yX4_within ∈ tb := tbm_1 (List.mem_of_getElem? (i := 152) (by decide +kernel)) rfl
theorem co_X4_within : Cond.code yX4_within cX4_within 3 (some FieldType.boolean) ∈ tb := tbm_1 (List.mem_of_getElem? (i := 153) (by decide +kernel)) rfl
theorem ct_X4_48 : Cond.constant RX4 48 (-1000000001) ∈ tb := tbm_1 (List.mem_of_getElem? (i := 154) (by decide +kernel)) rfl
theorem ml_X4_49 : Cond.methodLink RX4 49 yX4_finding ∈ tb := tbm_1 (List.mem_of_getElem? (i := 155) (by decide +kernel)) rfl
theorem im_X4_finding : Cond.instanceMethod yX4_finding ∈ tb := tbm_1 (List.mem_of_getElem? (i := 157) (by decide +kernel)) rfl
theorem co_X4_finding : Cond.code yX4_finding cX4_finding 3 (some FieldType.int) ∈ tb := tbm_1 (List.mem_of_getElem? (i := 158) (by decide +kernel)) rfl
theorem ml_L_18 : Cond.methodLink RL 18 yX4_chair ∈ tb := tbm_1 (List.mem_of_getElem? (i := 159) (by decide +kernel)) rfl
theorem im_X4_chair : Cond.instanceMethod yX4_chair ∈ tb := tbm_1 (List.mem_of_getElem? (i := 160) (by decide +kernel)) rfl
theorem se_X4_chair : Cond.selects RX4 yX4_chair yX4_chair ∈ tb := tbm_1 (List.mem_of_getElem? (i := 161) (by decide +kernel)) rfl
theorem co_X4_chair : Cond.code yX4_chair cX4_chair 2 (some FieldType.int) ∈ tb := tbm_1 (List.mem_of_getElem? (i := 162) (by decide +kernel)) rfl
theorem ml_L_23 : Cond.methodLink RL 23 yX4_now ∈ tb := tbm_1 (List.mem_of_getElem? (i := 163) (by decide +kernel)) rfl
theorem im_X4_now : Cond.instanceMethod yX4_now ∈ tb := tbm_1 (List.mem_of_getElem? (i := 164) (by decide +kernel)) rfl
theorem se_X4_now : Cond.selects RX4 yX4_now yX4_now ∈ tb := tbm_1 (List.mem_of_getElem? (i := 165) (by decide +kernel)) rfl
theorem co_X4_now : Cond.code yX4_now cX4_now 2 (some FieldType.int) ∈ tb := tbm_1 (List.mem_of_getElem? (i := 166) (by decide +kernel)) rfl
theorem ml_X4_63 : Cond.methodLink RX4 63 yX1_place ∈ tb := tbm_1 (List.mem_of_getElem? (i := 167) (by decide +kernel)) rfl
theorem im_X1_place : Cond.instanceMethod yX1_place ∈ tb := tbm_1 (List.mem_of_getElem? (i := 168) (by decide +kernel)) rfl
theorem se_X1_place : Cond.selects RX1 yX1_place yX1_place ∈ tb := tbm_1 (List.mem_of_getElem? (i := 169) (by decide +kernel)) rfl
theorem co_X1_place : Cond.code yX1_place cX1_place 1 (some FieldType.int) ∈ tb := tbm_1 (List.mem_of_getElem? (i := 170) (by decide +kernel)) rfl
theorem ml_X4_67 : Cond.methodLink RX4 67 yX1_sunNow ∈ tb := tbm_1 (List.mem_of_getElem? (i := 171) (by decide +kernel)) rfl
theorem im_X1_sunNow : Cond.instanceMethod yX1_sunNow ∈ tb := tbm_1 (List.mem_of_getElem? (i := 172) (by decide +kernel)) rfl
theorem se_X1_sunNow : Cond.selects RX1 yX1_sunNow yX1_sunNow ∈ tb := tbm_1 (List.mem_of_getElem? (i := 173) (by decide +kernel)) rfl
theorem co_X1_sunNow : Cond.code yX1_sunNow cX1_sunNow 1 (some FieldType.int) ∈ tb := tbm_1 (List.mem_of_getElem? (i := 174) (by decide +kernel)) rfl
theorem ml_X1_58 : Cond.methodLink RX1 58 yX1_place ∈ tb := tbm_1 (List.mem_of_getElem? (i := 175) (by decide +kernel)) rfl
theorem ml_X4_70 : Cond.methodLink RX4 70 yX1_setOfSitters ∈ tb := tbm_1 (List.mem_of_getElem? (i := 176) (by decide +kernel)) rfl
theorem im_X1_setOfSitters : Cond.instanceMethod yX1_setOfSitters ∈ tb := tbm_1 (List.mem_of_getElem? (i := 177) (by decide +kernel)) rfl
theorem se_X1_setOfSitters : Cond.selects RX1 yX1_setOfSitters yX1_setOfSitters ∈ tb := tbm_1 (List.mem_of_getElem? (i := 178) (by decide +kernel)) rfl
theorem co_X1_setOfSitters : Cond.code yX1_setOfSitters cX1_setOfSitters 3 (some FieldType.int) ∈ tb := tbm_1 (List.mem_of_getElem? (i := 179) (by decide +kernel)) rfl
theorem ml_X1_66 : Cond.methodLink RX1 66 yX1_sits ∈ tb := tbm_1 (List.mem_of_getElem? (i := 180) (by decide +kernel)) rfl
theorem im_X1_sits : Cond.instanceMethod yX1_sits ∈ tb := tbm_1 (List.mem_of_getElem? (i := 181) (by decide +kernel)) rfl
theorem se_X1_sits : Cond.selects RX1 yX1_sits yX1_sits ∈ tb := tbm_1 (List.mem_of_getElem? (i := 182) (by decide +kernel)) rfl
theorem co_X1_sits : Cond.code yX1_sits cX1_sits 2 (some FieldType.boolean) ∈ tb := tbm_1 (List.mem_of_getElem? (i := 183) (by decide +kernel)) rfl
theorem ml_X4_73 : Cond.methodLink RX4 73 yX1_setOfEven ∈ tb := tbm_1 (List.mem_of_getElem? (i := 184) (by decide +kernel)) rfl
theorem im_X1_setOfEven : Cond.instanceMethod yX1_setOfEven ∈ tb := tbm_1 (List.mem_of_getElem? (i := 185) (by decide +kernel)) rfl
theorem se_X1_setOfEven : Cond.selects RX1 yX1_setOfEven yX1_setOfEven ∈ tb := tbm_1 (List.mem_of_getElem? (i := 186) (by decide +kernel)) rfl
theorem co_X1_setOfEven : Cond.code yX1_setOfEven cX1_setOfEven 3 (some FieldType.int) ∈ tb := tbm_1 (List.mem_of_getElem? (i := 187) (by decide +kernel)) rfl
theorem ml_X1_74 : Cond.methodLink RX1 74 yX1_isEven ∈ tb := tbm_1 (List.mem_of_getElem? (i := 188) (by decide +kernel)) rfl
theorem im_X1_isEven : Cond.instanceMethod yX1_isEven ∈ tb := tbm_1 (List.mem_of_getElem? (i := 189) (by decide +kernel)) rfl
theorem se_X1_isEven : Cond.selects RX1 yX1_isEven yX1_isEven ∈ tb := tbm_1 (List.mem_of_getElem? (i := 190) (by decide +kernel)) rfl
theorem co_X1_isEven : Cond.code yX1_isEven cX1_isEven 2 (some FieldType.boolean) ∈ tb := tbm_1 (List.mem_of_getElem? (i := 191) (by decide +kernel)) rfl
theorem ml_X1_77 : Cond.methodLink RX1 77 Lib.Math.abs.name ∈ tb := tbm_1 (List.mem_of_getElem? (i := 192) (by decide +kernel)) rfl
theorem st_abs : Cond.static Lib.Math.abs.name ∈ tb := tbm_1 (List.mem_of_getElem? (i := 193) (by decide +kernel)) rfl
theorem co_abs : Cond.code Lib.Math.abs.name Lib.Math.abs.code 1 (some .int) ∈ tb := tbm_1 (List.mem_of_getElem? (i := 194) (by decide +kernel)) rfl
theorem ml_X4_76 : Cond.methodLink RX4 76 yX1_brownOfAll ∈ tb := tbm_1 (List.mem_of_getElem? (i := 195) (by decide +kernel)) rfl
theorem im_X1_brownOfAll : Cond.instanceMethod yX1_brownOfAll ∈ tb := tbm_1 (List.mem_of_getElem? (i := 196) (by decide +kernel)) rfl
theorem se_X1_brownOfAll : Cond.selects RX1 yX1_brownOfAll yX1_brownOfAll ∈ tb := tbm_1 (List.mem_of_getElem? (i := 197) (by decide +kernel)) rfl
theorem co_X1_brownOfAll : Cond.code yX1_brownOfAll cX1_brownOfAll 3 (some FieldType.int) ∈ tb := tbm_1 (List.mem_of_getElem? (i := 198) (by decide +kernel)) rfl
theorem ml_X1_83 : Cond.methodLink RX1 83 yX1_brownOf ∈ tb := tbm_1 (List.mem_of_getElem? (i := 199) (by decide +kernel)) rfl
theorem im_X1_brownOf : Cond.instanceMethod yX1_brownOf ∈ tb := tbm_1 (List.mem_of_getElem? (i := 200) (by decide +kernel)) rfl
theorem se_X1_brownOf : Cond.selects RX1 yX1_brownOf yX1_brownOf ∈ tb := tbm_1 (List.mem_of_getElem? (i := 201) (by decide +kernel)) rfl
theorem co_X1_brownOf : Cond.code yX1_brownOf cX1_brownOf 2 (some FieldType.int) ∈ tb := tbm_1 (List.mem_of_getElem? (i := 202) (by decide +kernel)) rfl
theorem ml_X4_79 : Cond.methodLink RX4 79 yX1_burntOfAll ∈ tb := tbm_1 (List.mem_of_getElem? (i := 203) (by decide +kernel)) rfl
theorem im_X1_burntOfAll : Cond.instanceMethod yX1_burntOfAll ∈ tb := tbm_1 (List.mem_of_getElem? (i := 204) (by decide +kernel)) rfl
theorem se_X1_burntOfAll : Cond.selects RX1 yX1_burntOfAll yX1_burntOfAll ∈ tb := tbm_1 (List.mem_of_getElem? (i := 205) (by decide +kernel)) rfl
theorem co_X1_burntOfAll : Cond.code yX1_burntOfAll cX1_burntOfAll 3 (some FieldType.int) ∈ tb := tbm_1 (List.mem_of_getElem? (i := 206) (by decide +kernel)) rfl
theorem ml_L_27 : Cond.methodLink RL 27 yX4_person ∈ tb := tbm_1 (List.mem_of_getElem? (i := 207) (by decide +kernel)) rfl
theorem im_X4_person : Cond.instanceMethod yX4_person ∈ tb := tbm_1 (List.mem_of_getElem? (i := 208) (by decide +kernel)) rfl
theorem se_X4_person : Cond.selects RX4 yX4_person yX4_person ∈ tb := tbm_1 (List.mem_of_getElem? (i := 209) (by decide +kernel)) rfl
theorem co_X4_person : Cond.code yX4_person cX4_person 2 (some FieldType.int) ∈ tb := tbm_1 (List.mem_of_getElem? (i := 210) (by decide +kernel)) rfl
theorem ml_X4_82 : Cond.methodLink RX4 82 yX4_isKind ∈ tb := tbm_1 (List.mem_of_getElem? (i := 211) (by decide +kernel)) rfl
theorem st_X4_isKind : Cond.static yX4_isKind ∈ tb := tbm_1 (List.mem_of_getElem? (i := 212) (by decide +kernel)) rfl
theorem co_X4_isKind : Cond.code yX4_isKind cX4_isKind 1 (some FieldType.boolean) ∈ tb := tbm_1 (List.mem_of_getElem? (i := 213) (by decide +kernel)) rfl
theorem ct_X4_89 : Cond.constant RX4 89 (-1000000002) ∈ tb := tbm_1 (List.mem_of_getElem? (i := 214) (by decide +kernel)) rfl
theorem ml_X4_90 : Cond.methodLink RX4 90 yX1_add ∈ tb := tbm_1 (List.mem_of_getElem? (i := 215) (by decide +kernel)) rfl
theorem im_X1_add : Cond.instanceMethod yX1_add ∈ tb := tbm_1 (List.mem_of_getElem? (i := 216) (by decide +kernel)) rfl
theorem se_X1_add : Cond.selects RX1 yX1_add yX1_add ∈ tb := tbm_1 (List.mem_of_getElem? (i := 217) (by decide +kernel)) rfl
theorem co_X1_add : Cond.code yX1_add cX1_add 4 (some FieldType.int) ∈ tb := tbm_1 (List.mem_of_getElem? (i := 218) (by decide +kernel)) rfl
theorem ml_L_31 : Cond.methodLink RL 31 yX4_of ∈ tb := tbm_1 (List.mem_of_getElem? (i := 219) (by decide +kernel)) rfl
theorem im_X4_of : Cond.instanceMethod yX4_of ∈ tb := tbm_1 (List.mem_of_getElem? (i := 220) (by decide +kernel)) rfl
theorem se_X4_of : Cond.selects RX4 yX4_of yX4_of ∈ tb := tbm_1 (List.mem_of_getElem? (i := 221) (by decide +kernel)) rfl
theorem co_X4_of : Cond.code yX4_of cX4_of 3 (some FieldType.int) ∈ tb := tbm_1 (List.mem_of_getElem? (i := 222) (by decide +kernel)) rfl
theorem ml_X4_94 : Cond.methodLink RX4 94 yX4_isPerson ∈ tb := tbm_1 (List.mem_of_getElem? (i := 223) (by decide +kernel)) rfl
theorem im_X4_isPerson : Cond.instanceMethod yX4_isPerson ∈ tb := tbm_1 (List.mem_of_getElem? (i := 225) (by decide +kernel)) rfl
theorem co_X4_isPerson : Cond.code yX4_isPerson cX4_isPerson 2 (some FieldType.boolean) ∈ tb := tbm_1 (List.mem_of_getElem? (i := 226) (by decide +kernel)) rfl
theorem ml_X4_112 : Cond.methodLink RX4 112 yX1_fadesOf ∈ tb := tbm_1 (List.mem_of_getElem? (i := 227) (by decide +kernel)) rfl
theorem im_X1_fadesOf : Cond.instanceMethod yX1_fadesOf ∈ tb := tbm_1 (List.mem_of_getElem? (i := 228) (by decide +kernel)) rfl
theorem se_X1_fadesOf : Cond.selects RX1 yX1_fadesOf yX1_fadesOf ∈ tb := tbm_1 (List.mem_of_getElem? (i := 229) (by decide +kernel)) rfl
theorem co_X1_fadesOf : Cond.code yX1_fadesOf cX1_fadesOf 3 (some FieldType.int) ∈ tb := tbm_1 (List.mem_of_getElem? (i := 230) (by decide +kernel)) rfl
theorem ml_X1_86 : Cond.methodLink RX1 86 yX1_neighbour ∈ tb := tbm_1 (List.mem_of_getElem? (i := 231) (by decide +kernel)) rfl
theorem im_X1_neighbour : Cond.instanceMethod yX1_neighbour ∈ tb := tbm_1 (List.mem_of_getElem? (i := 232) (by decide +kernel)) rfl
theorem se_X1_neighbour : Cond.selects RX1 yX1_neighbour yX1_neighbour ∈ tb := tbm_1 (List.mem_of_getElem? (i := 233) (by decide +kernel)) rfl
theorem co_X1_neighbour : Cond.code yX1_neighbour cX1_neighbour 4 (some FieldType.int) ∈ tb := tbm_1 (List.mem_of_getElem? (i := 234) (by decide +kernel)) rfl
theorem ml_X1_90 : Cond.methodLink RX1 90 yX1_sunNow ∈ tb := tbm_1 (List.mem_of_getElem? (i := 236) (by decide +kernel)) rfl
theorem ml_X1_93 : Cond.methodLink RX1 93 yX3_fades ∈ tb := tbm_1 (List.mem_of_getElem? (i := 237) (by decide +kernel)) rfl
theorem st_X3_fades : Cond.static yX3_fades ∈ tb := tbm_1 (List.mem_of_getElem? (i := 238) (by decide +kernel)) rfl
theorem co_X3_fades : Cond.code yX3_fades cX3_fades 3 (some FieldType.int) ∈ tb := tbm_1 (List.mem_of_getElem? (i := 239) (by decide +kernel)) rfl
theorem ml_X4_115 : Cond.methodLink RX4 115 yX3_burnsFrom ∈ tb := tbm_2 (List.mem_of_getElem? (i := 0) (by decide +kernel)) rfl
theorem st_X3_burnsFrom : Cond.static yX3_burnsFrom ∈ tb := tbm_2 (List.mem_of_getElem? (i := 1) (by decide +kernel)) rfl
theorem co_X3_burnsFrom : Cond.code yX3_burnsFrom cX3_burnsFrom 1 (some FieldType.int) ∈ tb := tbm_2 (List.mem_of_getElem? (i := 2) (by decide +kernel)) rfl
theorem ml_X4_120 : Cond.methodLink RX4 120 yX1_neighbour ∈ tb := tbm_2 (List.mem_of_getElem? (i := 3) (by decide +kernel)) rfl
theorem ml_L_35 : Cond.methodLink RL 35 yX4_set ∈ tb := tbm_2 (List.mem_of_getElem? (i := 4) (by decide +kernel)) rfl
theorem im_X4_set : Cond.instanceMethod yX4_set ∈ tb := tbm_2 (List.mem_of_getElem? (i := 5) (by decide +kernel)) rfl
theorem se_X4_set : Cond.selects RX4 yX4_set yX4_set ∈ tb := tbm_2 (List.mem_of_getElem? (i := 6) (by decide +kernel)) rfl
theorem co_X4_set : Cond.code yX4_set cX4_set 6 (some FieldType.int) ∈ tb := tbm_2 (List.mem_of_getElem? (i := 7) (by decide +kernel)) rfl
theorem ml_L_40 : Cond.methodLink RL 40 yX4_turn ∈ tb := tbm_2 (List.mem_of_getElem? (i := 8) (by decide +kernel)) rfl
theorem im_X4_turn : Cond.instanceMethod yX4_turn ∈ tb := tbm_2 (List.mem_of_getElem? (i := 9) (by decide +kernel)) rfl
theorem se_X4_turn : Cond.selects RX4 yX4_turn yX4_turn ∈ tb := tbm_2 (List.mem_of_getElem? (i := 10) (by decide +kernel)) rfl
theorem co_X4_turn : Cond.code yX4_turn cX4_turn 4 (some FieldType.int) ∈ tb := tbm_2 (List.mem_of_getElem? (i := 11) (by decide +kernel)) rfl
theorem ml_L_44 : Cond.methodLink RL 44 yX4_as ∈ tb := tbm_2 (List.mem_of_getElem? (i := 12) (by decide +kernel)) rfl
theorem im_X4_as : Cond.instanceMethod yX4_as ∈ tb := tbm_2 (List.mem_of_getElem? (i := 13) (by decide +kernel)) rfl
theorem se_X4_as : Cond.selects RX4 yX4_as yX4_as ∈ tb := tbm_2 (List.mem_of_getElem? (i := 14) (by decide +kernel)) rfl
theorem co_X4_as : Cond.code yX4_as cX4_as 3 (some FieldType.int) ∈ tb := tbm_2 (List.mem_of_getElem? (i := 15) (by decide +kernel)) rfl
theorem ml_X4_123 : Cond.methodLink RX4 123 yX3_isOrIsUnder ∈ tb := tbm_2 (List.mem_of_getElem? (i := 16) (by decide +kernel)) rfl
theorem st_X3_isOrIsUnder : Cond.static yX3_isOrIsUnder ∈ tb := tbm_2 (List.mem_of_getElem? (i := 17) (by decide +kernel)) rfl
theorem co_X3_isOrIsUnder : Cond.code yX3_isOrIsUnder cX3_isOrIsUnder 4 (some FieldType.boolean) ∈ tb := tbm_2 (List.mem_of_getElem? (i := 18) (by decide +kernel)) rfl
theorem fl_X3_13 : Cond.fieldLink RX3 13 "TanRow$Ways" "ABOVE" "[I" ∈ tb := tbm_2 (List.mem_of_getElem? (i := 20) (by decide +kernel)) rfl
theorem ct_X4_127 : Cond.constant RX4 127 (-1000000003) ∈ tb := tbm_2 (List.mem_of_getElem? (i := 22) (by decide +kernel)) rfl
theorem ml_X4_128 : Cond.methodLink RX4 128 yX1_brownOf ∈ tb := tbm_2 (List.mem_of_getElem? (i := 23) (by decide +kernel)) rfl
theorem ml_L_48 : Cond.methodLink RL 48 yX4_sit ∈ tb := tbm_2 (List.mem_of_getElem? (i := 24) (by decide +kernel)) rfl
theorem im_X4_sit : Cond.instanceMethod yX4_sit ∈ tb := tbm_2 (List.mem_of_getElem? (i := 25) (by decide +kernel)) rfl
theorem se_X4_sit : Cond.selects RX4 yX4_sit yX4_sit ∈ tb := tbm_2 (List.mem_of_getElem? (i := 26) (by decide +kernel)) rfl
theorem co_X4_sit : Cond.code yX4_sit cX4_sit 4 (some FieldType.int) ∈ tb := tbm_2 (List.mem_of_getElem? (i := 27) (by decide +kernel)) rfl
theorem ml_X4_131 : Cond.methodLink RX4 131 yX1_isFreeFor ∈ tb := tbm_2 (List.mem_of_getElem? (i := 28) (by decide +kernel)) rfl
theorem im_X1_isFreeFor : Cond.instanceMethod yX1_isFreeFor ∈ tb := tbm_2 (List.mem_of_getElem? (i := 29) (by decide +kernel)) rfl
theorem se_X1_isFreeFor : Cond.selects RX1 yX1_isFreeFor yX1_isFreeFor ∈ tb := tbm_2 (List.mem_of_getElem? (i := 30) (by decide +kernel)) rfl
theorem co_X1_isFreeFor : Cond.code yX1_isFreeFor cX1_isFreeFor 3 (some FieldType.boolean) ∈ tb := tbm_2 (List.mem_of_getElem? (i := 31) (by decide +kernel)) rfl
theorem ct_X4_134 : Cond.constant RX4 134 (-1000000005) ∈ tb := tbm_2 (List.mem_of_getElem? (i := 32) (by decide +kernel)) rfl
theorem ml_X4_135 : Cond.methodLink RX4 135 yX1_seat ∈ tb := tbm_2 (List.mem_of_getElem? (i := 33) (by decide +kernel)) rfl
theorem im_X1_seat : Cond.instanceMethod yX1_seat ∈ tb := tbm_2 (List.mem_of_getElem? (i := 34) (by decide +kernel)) rfl
theorem se_X1_seat : Cond.selects RX1 yX1_seat yX1_seat ∈ tb := tbm_2 (List.mem_of_getElem? (i := 35) (by decide +kernel)) rfl
theorem co_X1_seat : Cond.code yX1_seat cX1_seat 3 none ∈ tb := tbm_2 (List.mem_of_getElem? (i := 36) (by decide +kernel)) rfl
theorem ml_L_52 : Cond.methodLink RL 52 yX4_given ∈ tb := tbm_2 (List.mem_of_getElem? (i := 37) (by decide +kernel)) rfl
theorem im_X4_given : Cond.instanceMethod yX4_given ∈ tb := tbm_2 (List.mem_of_getElem? (i := 38) (by decide +kernel)) rfl
theorem se_X4_given : Cond.selects RX4 yX4_given yX4_given ∈ tb := tbm_2 (List.mem_of_getElem? (i := 39) (by decide +kernel)) rfl
theorem co_X4_given : Cond.code yX4_given cX4_given 3 (some FieldType.int) ∈ tb := tbm_2 (List.mem_of_getElem? (i := 40) (by decide +kernel)) rfl
theorem ml_X4_139 : Cond.methodLink RX4 139 yX1_givenLeft ∈ tb := tbm_2 (List.mem_of_getElem? (i := 41) (by decide +kernel)) rfl
theorem im_X1_givenLeft : Cond.instanceMethod yX1_givenLeft ∈ tb := tbm_2 (List.mem_of_getElem? (i := 42) (by decide +kernel)) rfl
theorem se_X1_givenLeft : Cond.selects RX1 yX1_givenLeft yX1_givenLeft ∈ tb := tbm_2 (List.mem_of_getElem? (i := 43) (by decide +kernel)) rfl
theorem co_X1_givenLeft : Cond.code yX1_givenLeft cX1_givenLeft 3 (some FieldType.int) ∈ tb := tbm_2 (List.mem_of_getElem? (i := 44) (by decide +kernel)) rfl
theorem ml_X1_99 : Cond.methodLink RX1 99 yX3_glows ∈ tb := tbm_2 (List.mem_of_getElem? (i := 45) (by decide +kernel)) rfl
theorem st_X3_glows : Cond.static yX3_glows ∈ tb := tbm_2 (List.mem_of_getElem? (i := 46) (by decide +kernel)) rfl
theorem co_X3_glows : Cond.code yX3_glows cX3_glows 5 (some FieldType.int) ∈ tb := tbm_2 (List.mem_of_getElem? (i := 47) (by decide +kernel)) rfl
theorem ml_X3_19 : Cond.methodLink RX3 19 Lib.Math.max.name ∈ tb := tbm_2 (List.mem_of_getElem? (i := 48) (by decide +kernel)) rfl
theorem st_max : Cond.static Lib.Math.max.name ∈ tb := tbm_2 (List.mem_of_getElem? (i := 49) (by decide +kernel)) rfl
theorem co_max : Cond.code Lib.Math.max.name Lib.Math.max.code 2 (some .int) ∈ tb := tbm_2 (List.mem_of_getElem? (i := 50) (by decide +kernel)) rfl
theorem ml_X4_142 : Cond.methodLink RX4 142 yX1_givenRight ∈ tb := tbm_2 (List.mem_of_getElem? (i := 51) (by decide +kernel)) rfl
theorem im_X1_givenRight : Cond.instanceMethod yX1_givenRight ∈ tb := tbm_2 (List.mem_of_getElem? (i := 52) (by decide +kernel)) rfl
theorem se_X1_givenRight : Cond.selects RX1 yX1_givenRight yX1_givenRight ∈ tb := tbm_2 (List.mem_of_getElem? (i := 53) (by decide +kernel)) rfl
theorem co_X1_givenRight : Cond.code yX1_givenRight cX1_givenRight 3 (some FieldType.int) ∈ tb := tbm_2 (List.mem_of_getElem? (i := 54) (by decide +kernel)) rfl
theorem ml_L_56 : Cond.methodLink RL 56 yX4_hours ∈ tb := tbm_2 (List.mem_of_getElem? (i := 55) (by decide +kernel)) rfl
theorem im_X4_hours : Cond.instanceMethod yX4_hours ∈ tb := tbm_2 (List.mem_of_getElem? (i := 56) (by decide +kernel)) rfl
theorem se_X4_hours : Cond.selects RX4 yX4_hours yX4_hours ∈ tb := tbm_2 (List.mem_of_getElem? (i := 57) (by decide +kernel)) rfl
theorem co_X4_hours : Cond.code yX4_hours cX4_hours 2 (some FieldType.int) ∈ tb := tbm_2 (List.mem_of_getElem? (i := 58) (by decide +kernel)) rfl
theorem ct_X4_145 : Cond.constant RX4 145 (99999) ∈ tb := tbm_2 (List.mem_of_getElem? (i := 59) (by decide +kernel)) rfl
theorem ml_X4_146 : Cond.methodLink RX4 146 yX1_goOn ∈ tb := tbm_2 (List.mem_of_getElem? (i := 60) (by decide +kernel)) rfl
theorem im_X1_goOn : Cond.instanceMethod yX1_goOn ∈ tb := tbm_2 (List.mem_of_getElem? (i := 61) (by decide +kernel)) rfl
theorem se_X1_goOn : Cond.selects RX1 yX1_goOn yX1_goOn ∈ tb := tbm_2 (List.mem_of_getElem? (i := 62) (by decide +kernel)) rfl
theorem co_X1_goOn : Cond.code yX1_goOn cX1_goOn 3 none ∈ tb := tbm_2 (List.mem_of_getElem? (i := 63) (by decide +kernel)) rfl
theorem ml_X1_103 : Cond.methodLink RX1 103 yX1_passHour ∈ tb := tbm_2 (List.mem_of_getElem? (i := 64) (by decide +kernel)) rfl
theorem im_X1_passHour : Cond.instanceMethod yX1_passHour ∈ tb := tbm_2 (List.mem_of_getElem? (i := 65) (by decide +kernel)) rfl
theorem se_X1_passHour : Cond.selects RX1 yX1_passHour yX1_passHour ∈ tb := tbm_2 (List.mem_of_getElem? (i := 66) (by decide +kernel)) rfl
theorem co_X1_passHour : Cond.code yX1_passHour cX1_passHour 3 none ∈ tb := tbm_2 (List.mem_of_getElem? (i := 67) (by decide +kernel)) rfl
theorem ml_X1_106 : Cond.methodLink RX1 106 yX1_givenLeft ∈ tb := tbm_2 (List.mem_of_getElem? (i := 68) (by decide +kernel)) rfl
theorem ml_X1_109 : Cond.methodLink RX1 109 yX1_givenRight ∈ tb := tbm_2 (List.mem_of_getElem? (i := 69) (by decide +kernel)) rfl
theorem ml_X1_112 : Cond.methodLink RX1 112 yX1_fadesOf ∈ tb := tbm_2 (List.mem_of_getElem? (i := 70) (by decide +kernel)) rfl
theorem ml_X1_115 : Cond.methodLink RX1 115 yX1_browned ∈ tb := tbm_2 (List.mem_of_getElem? (i := 71) (by decide +kernel)) rfl
theorem im_X1_browned : Cond.instanceMethod yX1_browned ∈ tb := tbm_2 (List.mem_of_getElem? (i := 73) (by decide +kernel)) rfl
theorem co_X1_browned : Cond.code yX1_browned cX1_browned 6 (some FieldType.int) ∈ tb := tbm_2 (List.mem_of_getElem? (i := 74) (by decide +kernel)) rfl
theorem ml_X1_121 : Cond.methodLink RX1 121 yX3_takes ∈ tb := tbm_2 (List.mem_of_getElem? (i := 75) (by decide +kernel)) rfl
theorem st_X3_takes : Cond.static yX3_takes ∈ tb := tbm_2 (List.mem_of_getElem? (i := 76) (by decide +kernel)) rfl
theorem co_X3_takes : Cond.code yX3_takes cX3_takes 2 (some FieldType.int) ∈ tb := tbm_2 (List.mem_of_getElem? (i := 77) (by decide +kernel)) rfl
theorem ml_X1_124 : Cond.methodLink RX1 124 Lib.Math.min.name ∈ tb := tbm_2 (List.mem_of_getElem? (i := 78) (by decide +kernel)) rfl
theorem st_min : Cond.static Lib.Math.min.name ∈ tb := tbm_2 (List.mem_of_getElem? (i := 79) (by decide +kernel)) rfl
theorem co_min : Cond.code Lib.Math.min.name Lib.Math.min.code 2 (some .int) ∈ tb := tbm_2 (List.mem_of_getElem? (i := 80) (by decide +kernel)) rfl
theorem ml_X1_127 : Cond.methodLink RX1 127 Lib.Math.max.name ∈ tb := tbm_2 (List.mem_of_getElem? (i := 81) (by decide +kernel)) rfl
theorem ml_X1_118 : Cond.methodLink RX1 118 yX1_burn ∈ tb := tbm_2 (List.mem_of_getElem? (i := 82) (by decide +kernel)) rfl
theorem im_X1_burn : Cond.instanceMethod yX1_burn ∈ tb := tbm_2 (List.mem_of_getElem? (i := 84) (by decide +kernel)) rfl
theorem co_X1_burn : Cond.code yX1_burn cX1_burn 3 none ∈ tb := tbm_2 (List.mem_of_getElem? (i := 85) (by decide +kernel)) rfl
theorem ml_X1_130 : Cond.methodLink RX1 130 yX3_burnsFrom ∈ tb := tbm_2 (List.mem_of_getElem? (i := 86) (by decide +kernel)) rfl
theorem ml_L_60 : Cond.methodLink RL 60 yX4_on ∈ tb := tbm_2 (List.mem_of_getElem? (i := 87) (by decide +kernel)) rfl
theorem im_X4_on : Cond.instanceMethod yX4_on ∈ tb := tbm_2 (List.mem_of_getElem? (i := 88) (by decide +kernel)) rfl
theorem se_X4_on : Cond.selects RX4 yX4_on yX4_on ∈ tb := tbm_2 (List.mem_of_getElem? (i := 89) (by decide +kernel)) rfl
theorem co_X4_on : Cond.code yX4_on cX4_on 5 (some FieldType.int) ∈ tb := tbm_2 (List.mem_of_getElem? (i := 90) (by decide +kernel)) rfl
theorem ml_X4_150 : Cond.methodLink RX4 150 yX4_startTrial ∈ tb := tbm_2 (List.mem_of_getElem? (i := 91) (by decide +kernel)) rfl
theorem im_X4_startTrial : Cond.instanceMethod yX4_startTrial ∈ tb := tbm_2 (List.mem_of_getElem? (i := 93) (by decide +kernel)) rfl
theorem co_X4_startTrial : Cond.code yX4_startTrial cX4_startTrial 1 none ∈ tb := tbm_2 (List.mem_of_getElem? (i := 94) (by decide +kernel)) rfl
theorem ml_X4_180 : Cond.methodLink RX4 180 yX1_become ∈ tb := tbm_2 (List.mem_of_getElem? (i := 95) (by decide +kernel)) rfl
theorem im_X1_become : Cond.instanceMethod yX1_become ∈ tb := tbm_2 (List.mem_of_getElem? (i := 96) (by decide +kernel)) rfl
theorem se_X1_become : Cond.selects RX1 yX1_become yX1_become ∈ tb := tbm_2 (List.mem_of_getElem? (i := 97) (by decide +kernel)) rfl
theorem co_X1_become : Cond.code yX1_become cX1_become 2 none ∈ tb := tbm_2 (List.mem_of_getElem? (i := 98) (by decide +kernel)) rfl
theorem ml_X1_52 : Cond.methodLink RX1 52 arraycopyName ∈ tb := tbm_2 (List.mem_of_getElem? (i := 99) (by decide +kernel)) rfl
theorem st_arraycopy : Cond.static arraycopyName ∈ tb := tbm_2 (List.mem_of_getElem? (i := 100) (by decide +kernel)) rfl
theorem na_arraycopy : Cond.native arraycopyName ∈ tb := tbm_2 (List.mem_of_getElem? (i := 101) (by decide +kernel)) rfl
theorem ml_L_64 : Cond.methodLink RL 64 yX4_brown ∈ tb := tbm_2 (List.mem_of_getElem? (i := 102) (by decide +kernel)) rfl
theorem im_X4_brown : Cond.instanceMethod yX4_brown ∈ tb := tbm_2 (List.mem_of_getElem? (i := 103) (by decide +kernel)) rfl
theorem se_X4_brown : Cond.selects RX4 yX4_brown yX4_brown ∈ tb := tbm_2 (List.mem_of_getElem? (i := 104) (by decide +kernel)) rfl
theorem co_X4_brown : Cond.code yX4_brown cX4_brown 4 (some FieldType.int) ∈ tb := tbm_2 (List.mem_of_getElem? (i := 105) (by decide +kernel)) rfl
theorem ml_X4_153 : Cond.methodLink RX4 153 yX1_passHour ∈ tb := tbm_2 (List.mem_of_getElem? (i := 106) (by decide +kernel)) rfl
theorem ct_X4_156 : Cond.constant RX4 156 (-1000000004) ∈ tb := tbm_2 (List.mem_of_getElem? (i := 107) (by decide +kernel)) rfl
theorem ml_L_68 : Cond.methodLink RL 68 yX4_burns ∈ tb := tbm_2 (List.mem_of_getElem? (i := 108) (by decide +kernel)) rfl
theorem im_X4_burns : Cond.instanceMethod yX4_burns ∈ tb := tbm_2 (List.mem_of_getElem? (i := 109) (by decide +kernel)) rfl
theorem se_X4_burns : Cond.selects RX4 yX4_burns yX4_burns ∈ tb := tbm_2 (List.mem_of_getElem? (i := 110) (by decide +kernel)) rfl
theorem co_X4_burns : Cond.code yX4_burns cX4_burns 3 (some FieldType.int) ∈ tb := tbm_2 (List.mem_of_getElem? (i := 111) (by decide +kernel)) rfl
theorem ml_L_72 : Cond.methodLink RL 72 yX4_even ∈ tb := tbm_2 (List.mem_of_getElem? (i := 112) (by decide +kernel)) rfl
theorem im_X4_even : Cond.instanceMethod yX4_even ∈ tb := tbm_2 (List.mem_of_getElem? (i := 113) (by decide +kernel)) rfl
theorem se_X4_even : Cond.selects RX4 yX4_even yX4_even ∈ tb := tbm_2 (List.mem_of_getElem? (i := 114) (by decide +kernel)) rfl
theorem co_X4_even : Cond.code yX4_even cX4_even 3 (some FieldType.int) ∈ tb := tbm_2 (List.mem_of_getElem? (i := 115) (by decide +kernel)) rfl
theorem ml_X4_157 : Cond.methodLink RX4 157 yX1_isEven ∈ tb := tbm_2 (List.mem_of_getElem? (i := 116) (by decide +kernel)) rfl
theorem ml_L_76 : Cond.methodLink RL 76 yX4_where ∈ tb := tbm_2 (List.mem_of_getElem? (i := 117) (by decide +kernel)) rfl
theorem im_X4_where : Cond.instanceMethod yX4_where ∈ tb := tbm_2 (List.mem_of_getElem? (i := 118) (by decide +kernel)) rfl
theorem se_X4_where : Cond.selects RX4 yX4_where yX4_where ∈ tb := tbm_2 (List.mem_of_getElem? (i := 119) (by decide +kernel)) rfl
theorem co_X4_where : Cond.code yX4_where cX4_where 6 (some FieldType.int) ∈ tb := tbm_2 (List.mem_of_getElem? (i := 120) (by decide +kernel)) rfl
theorem ml_L_80 : Cond.methodLink RL 80 yX4_change ∈ tb := tbm_2 (List.mem_of_getElem? (i := 121) (by decide +kernel)) rfl
theorem im_X4_change : Cond.instanceMethod yX4_change ∈ tb := tbm_2 (List.mem_of_getElem? (i := 122) (by decide +kernel)) rfl
theorem se_X4_change : Cond.selects RX4 yX4_change yX4_change ∈ tb := tbm_2 (List.mem_of_getElem? (i := 123) (by decide +kernel)) rfl
theorem co_X4_change : Cond.code yX4_change cX4_change 7 (some FieldType.int) ∈ tb := tbm_2 (List.mem_of_getElem? (i := 124) (by decide +kernel)) rfl
theorem ml_X4_160 : Cond.methodLink RX4 160 yX1_sits ∈ tb := tbm_2 (List.mem_of_getElem? (i := 125) (by decide +kernel)) rfl
theorem ml_X4_163 : Cond.methodLink RX4 163 yX1_swap ∈ tb := tbm_2 (List.mem_of_getElem? (i := 126) (by decide +kernel)) rfl
theorem im_X1_swap : Cond.instanceMethod yX1_swap ∈ tb := tbm_2 (List.mem_of_getElem? (i := 127) (by decide +kernel)) rfl
theorem se_X1_swap : Cond.selects RX1 yX1_swap yX1_swap ∈ tb := tbm_2 (List.mem_of_getElem? (i := 128) (by decide +kernel)) rfl
theorem co_X1_swap : Cond.code yX1_swap cX1_swap 5 none ∈ tb := tbm_2 (List.mem_of_getElem? (i := 129) (by decide +kernel)) rfl
theorem ml_X1_62 : Cond.methodLink RX1 62 yX1_seat ∈ tb := tbm_2 (List.mem_of_getElem? (i := 130) (by decide +kernel)) rfl
theorem ml_L_84 : Cond.methodLink RL 84 yX4_kind ∈ tb := tbm_2 (List.mem_of_getElem? (i := 131) (by decide +kernel)) rfl
theorem im_X4_kind : Cond.instanceMethod yX4_kind ∈ tb := tbm_2 (List.mem_of_getElem? (i := 132) (by decide +kernel)) rfl
theorem se_X4_kind : Cond.selects RX4 yX4_kind yX4_kind ∈ tb := tbm_2 (List.mem_of_getElem? (i := 133) (by decide +kernel)) rfl
theorem co_X4_kind : Cond.code yX4_kind cX4_kind 6 (some FieldType.int) ∈ tb := tbm_2 (List.mem_of_getElem? (i := 134) (by decide +kernel)) rfl
theorem ml_L_88 : Cond.methodLink RL 88 yX4_send ∈ tb := tbm_2 (List.mem_of_getElem? (i := 135) (by decide +kernel)) rfl
theorem im_X4_send : Cond.instanceMethod yX4_send ∈ tb := tbm_2 (List.mem_of_getElem? (i := 136) (by decide +kernel)) rfl
theorem se_X4_send : Cond.selects RX4 yX4_send yX4_send ∈ tb := tbm_2 (List.mem_of_getElem? (i := 137) (by decide +kernel)) rfl
theorem co_X4_send : Cond.code yX4_send cX4_send 6 (some FieldType.int) ∈ tb := tbm_2 (List.mem_of_getElem? (i := 138) (by decide +kernel)) rfl
theorem ml_L_92 : Cond.methodLink RL 92 yX4_cloud ∈ tb := tbm_2 (List.mem_of_getElem? (i := 139) (by decide +kernel)) rfl
theorem im_X4_cloud : Cond.instanceMethod yX4_cloud ∈ tb := tbm_2 (List.mem_of_getElem? (i := 140) (by decide +kernel)) rfl
theorem se_X4_cloud : Cond.selects RX4 yX4_cloud yX4_cloud ∈ tb := tbm_2 (List.mem_of_getElem? (i := 141) (by decide +kernel)) rfl
theorem co_X4_cloud : Cond.code yX4_cloud cX4_cloud 6 (some FieldType.int) ∈ tb := tbm_2 (List.mem_of_getElem? (i := 142) (by decide +kernel)) rfl
theorem ml_L_96 : Cond.methodLink RL 96 yX4_enough ∈ tb := tbm_2 (List.mem_of_getElem? (i := 143) (by decide +kernel)) rfl
theorem im_X4_enough : Cond.instanceMethod yX4_enough ∈ tb := tbm_2 (List.mem_of_getElem? (i := 144) (by decide +kernel)) rfl
theorem se_X4_enough : Cond.selects RX4 yX4_enough yX4_enough ∈ tb := tbm_2 (List.mem_of_getElem? (i := 145) (by decide +kernel)) rfl
theorem co_X4_enough : Cond.code yX4_enough cX4_enough 9 (some FieldType.int) ∈ tb := tbm_2 (List.mem_of_getElem? (i := 146) (by decide +kernel)) rfl
theorem ml_X4_166 : Cond.methodLink RX4 166 yX4_brownWith ∈ tb := tbm_2 (List.mem_of_getElem? (i := 147) (by decide +kernel)) rfl
theorem im_X4_brownWith : Cond.instanceMethod yX4_brownWith ∈ tb := tbm_2 (List.mem_of_getElem? (i := 149) (by decide +kernel)) rfl
theorem co_X4_brownWith : Cond.code yX4_brownWith cX4_brownWith 5 (some FieldType.int) ∈ tb := tbm_2 (List.mem_of_getElem? (i := 150) (by decide +kernel)) rfl
theorem ml_L_101 : Cond.methodLink RL 101 yX4_brownest ∈ tb := tbm_2 (List.mem_of_getElem? (i := 151) (by decide +kernel)) rfl
theorem im_X4_brownest : Cond.instanceMethod yX4_brownest ∈ tb := tbm_2 (List.mem_of_getElem? (i := 152) (by decide +kernel)) rfl
theorem se_X4_brownest : Cond.selects RX4 yX4_brownest yX4_brownest ∈ tb := tbm_2 (List.mem_of_getElem? (i := 153) (by decide +kernel)) rfl
theorem co_X4_brownest : Cond.code yX4_brownest cX4_brownest 5 (some FieldType.int) ∈ tb := tbm_2 (List.mem_of_getElem? (i := 154) (by decide +kernel)) rfl
theorem ml_L_105 : Cond.methodLink RL 105 yX4_feed ∈ tb := tbm_2 (List.mem_of_getElem? (i := 155) (by decide +kernel)) rfl
theorem im_X4_feed : Cond.instanceMethod yX4_feed ∈ tb := tbm_2 (List.mem_of_getElem? (i := 156) (by decide +kernel)) rfl
theorem se_X4_feed : Cond.selects RX4 yX4_feed yX4_feed ∈ tb := tbm_2 (List.mem_of_getElem? (i := 157) (by decide +kernel)) rfl
theorem co_X4_feed : Cond.code yX4_feed cX4_feed 4 (some FieldType.int) ∈ tb := tbm_2 (List.mem_of_getElem? (i := 158) (by decide +kernel)) rfl
theorem ml_X4_173 : Cond.methodLink RX4 173 yX2_append ∈ tb := tbm_2 (List.mem_of_getElem? (i := 159) (by decide +kernel)) rfl
theorem im_X2_append : Cond.instanceMethod yX2_append ∈ tb := tbm_2 (List.mem_of_getElem? (i := 160) (by decide +kernel)) rfl
theorem se_X2_append : Cond.selects RX2 yX2_append yX2_append ∈ tb := tbm_2 (List.mem_of_getElem? (i := 161) (by decide +kernel)) rfl
theorem co_X2_append : Cond.code yX2_append cX2_append 2 none ∈ tb := tbm_2 (List.mem_of_getElem? (i := 162) (by decide +kernel)) rfl
theorem ml_L_109 : Cond.methodLink RL 109 yX4_wipe ∈ tb := tbm_2 (List.mem_of_getElem? (i := 163) (by decide +kernel)) rfl
theorem im_X4_wipe : Cond.instanceMethod yX4_wipe ∈ tb := tbm_2 (List.mem_of_getElem? (i := 164) (by decide +kernel)) rfl
theorem se_X4_wipe : Cond.selects RX4 yX4_wipe yX4_wipe ∈ tb := tbm_2 (List.mem_of_getElem? (i := 165) (by decide +kernel)) rfl
theorem co_X4_wipe : Cond.code yX4_wipe cX4_wipe 2 (some FieldType.int) ∈ tb := tbm_2 (List.mem_of_getElem? (i := 166) (by decide +kernel)) rfl
theorem ml_L_114 : Cond.methodLink RL 114 yX4_esplanade ∈ tb := tbm_2 (List.mem_of_getElem? (i := 167) (by decide +kernel)) rfl
theorem im_X4_esplanade : Cond.instanceMethod yX4_esplanade ∈ tb := tbm_2 (List.mem_of_getElem? (i := 168) (by decide +kernel)) rfl
theorem se_X4_esplanade : Cond.selects RX4 yX4_esplanade yX4_esplanade ∈ tb := tbm_2 (List.mem_of_getElem? (i := 169) (by decide +kernel)) rfl
theorem co_X4_esplanade : Cond.code yX4_esplanade cX4_esplanade 2 (some FieldType.int) ∈ tb := tbm_2 (List.mem_of_getElem? (i := 170) (by decide +kernel)) rfl
theorem ml_X4_176 : Cond.methodLink RX4 176 yX2_readAll ∈ tb := tbm_2 (List.mem_of_getElem? (i := 171) (by decide +kernel)) rfl
theorem im_X2_readAll : Cond.instanceMethod yX2_readAll ∈ tb := tbm_2 (List.mem_of_getElem? (i := 172) (by decide +kernel)) rfl
theorem se_X2_readAll : Cond.selects RX2 yX2_readAll yX2_readAll ∈ tb := tbm_2 (List.mem_of_getElem? (i := 173) (by decide +kernel)) rfl
theorem co_X2_readAll : Cond.code yX2_readAll cX2_readAll 3 (some FieldType.int) ∈ tb := tbm_2 (List.mem_of_getElem? (i := 174) (by decide +kernel)) rfl
theorem ml_X2_31 : Cond.methodLink RX2 31 yX2_advance ∈ tb := tbm_2 (List.mem_of_getElem? (i := 175) (by decide +kernel)) rfl
theorem im_X2_advance : Cond.instanceMethod yX2_advance ∈ tb := tbm_2 (List.mem_of_getElem? (i := 177) (by decide +kernel)) rfl
theorem co_X2_advance : Cond.code yX2_advance cX2_advance 1 none ∈ tb := tbm_2 (List.mem_of_getElem? (i := 178) (by decide +kernel)) rfl
theorem ml_X2_113 : Cond.methodLink RX2 113 yX2_isLetter ∈ tb := tbm_2 (List.mem_of_getElem? (i := 179) (by decide +kernel)) rfl
theorem st_X2_isLetter : Cond.static yX2_isLetter ∈ tb := tbm_2 (List.mem_of_getElem? (i := 180) (by decide +kernel)) rfl
theorem co_X2_isLetter : Cond.code yX2_isLetter cX2_isLetter 1 (some FieldType.boolean) ∈ tb := tbm_2 (List.mem_of_getElem? (i := 181) (by decide +kernel)) rfl
theorem ml_X2_116 : Cond.methodLink RX2 116 yX2_passWord ∈ tb := tbm_2 (List.mem_of_getElem? (i := 182) (by decide +kernel)) rfl
theorem im_X2_passWord : Cond.instanceMethod yX2_passWord ∈ tb := tbm_2 (List.mem_of_getElem? (i := 184) (by decide +kernel)) rfl
theorem co_X2_passWord : Cond.code yX2_passWord cX2_passWord 1 none ∈ tb := tbm_2 (List.mem_of_getElem? (i := 185) (by decide +kernel)) rfl
theorem ml_X2_119 : Cond.methodLink RX2 119 yX2_isDigit ∈ tb := tbm_2 (List.mem_of_getElem? (i := 186) (by decide +kernel)) rfl
theorem st_X2_isDigit : Cond.static yX2_isDigit ∈ tb := tbm_2 (List.mem_of_getElem? (i := 187) (by decide +kernel)) rfl
theorem co_X2_isDigit : Cond.code yX2_isDigit cX2_isDigit 1 (some FieldType.boolean) ∈ tb := tbm_2 (List.mem_of_getElem? (i := 188) (by decide +kernel)) rfl
theorem ml_X2_122 : Cond.methodLink RX2 122 yX2_passNumber ∈ tb := tbm_2 (List.mem_of_getElem? (i := 189) (by decide +kernel)) rfl
theorem im_X2_passNumber : Cond.instanceMethod yX2_passNumber ∈ tb := tbm_2 (List.mem_of_getElem? (i := 191) (by decide +kernel)) rfl
theorem co_X2_passNumber : Cond.code yX2_passNumber cX2_passNumber 1 none ∈ tb := tbm_2 (List.mem_of_getElem? (i := 192) (by decide +kernel)) rfl
theorem ml_X2_125 : Cond.methodLink RX2 125 Lib.Math.min.name ∈ tb := tbm_2 (List.mem_of_getElem? (i := 193) (by decide +kernel)) rfl
theorem ml_X2_34 : Cond.methodLink RX2 34 yX2_readItem ∈ tb := tbm_2 (List.mem_of_getElem? (i := 194) (by decide +kernel)) rfl
theorem im_X2_readItem : Cond.instanceMethod yX2_readItem ∈ tb := tbm_2 (List.mem_of_getElem? (i := 196) (by decide +kernel)) rfl
theorem co_X2_readItem : Cond.code yX2_readItem cX2_readItem 3 (some FieldType.boolean) ∈ tb := tbm_2 (List.mem_of_getElem? (i := 197) (by decide +kernel)) rfl
theorem ml_X2_40 : Cond.methodLink RX2 40 yX2_isWord ∈ tb := tbm_2 (List.mem_of_getElem? (i := 199) (by decide +kernel)) rfl
theorem im_X2_isWord : Cond.instanceMethod yX2_isWord ∈ tb := tbm_2 (List.mem_of_getElem? (i := 201) (by decide +kernel)) rfl
theorem co_X2_isWord : Cond.code yX2_isWord cX2_isWord 3 (some FieldType.boolean) ∈ tb := tbm_2 (List.mem_of_getElem? (i := 202) (by decide +kernel)) rfl
theorem ml_X2_88 : Cond.methodLink RX2 88 yJ0_length_8abf5 ∈ tb := tbm_2 (List.mem_of_getElem? (i := 203) (by decide +kernel)) rfl
theorem im_J0_length_8abf5 : Cond.instanceMethod yJ0_length_8abf5 ∈ tb := tbm_2 (List.mem_of_getElem? (i := 204) (by decide +kernel)) rfl
theorem se_J0_length_8abf5 : Cond.selects RJ0 yJ0_length_8abf5 yJ0_length_8abf5 ∈ tb := tbm_2 (List.mem_of_getElem? (i := 205) (by decide +kernel)) rfl
theorem co_J0_length_8abf5 : Cond.code yJ0_length_8abf5 cJ0_length_8abf5 1 (some FieldType.int) ∈ tb := tbm_2 (List.mem_of_getElem? (i := 206) (by decide +kernel)) rfl
theorem ml_J0_335 : Cond.methodLink RJ0 335 yJ0_coder_7d493 ∈ tb := tbm_2 (List.mem_of_getElem? (i := 207) (by decide +kernel)) rfl
theorem im_J0_coder_7d493 : Cond.instanceMethod yJ0_coder_7d493 ∈ tb := tbm_2 (List.mem_of_getElem? (i := 208) (by decide +kernel)) rfl
theorem se_J0_coder_7d493 : Cond.selects RJ0 yJ0_coder_7d493 yJ0_coder_7d493 ∈ tb := tbm_2 (List.mem_of_getElem? (i := 209) (by decide +kernel)) rfl
theorem co_J0_coder_7d493 : Cond.code yJ0_coder_7d493 cJ0_coder_7d493 1 (some FieldType.byte) ∈ tb := tbm_2 (List.mem_of_getElem? (i := 210) (by decide +kernel)) rfl
theorem fl_J0_38 : Cond.fieldLink RJ0 38 "java/lang/String" "COMPACT_STRINGS" "Z" ∈ tb := tbm_2 (List.mem_of_getElem? (i := 211) (by decide +kernel)) rfl
theorem ml_X2_93 : Cond.methodLink RX2 93 yJ0_charAt_5068e ∈ tb := tbm_2 (List.mem_of_getElem? (i := 213) (by decide +kernel)) rfl
theorem im_J0_charAt_5068e : Cond.instanceMethod yJ0_charAt_5068e ∈ tb := tbm_2 (List.mem_of_getElem? (i := 214) (by decide +kernel)) rfl
theorem se_J0_charAt_5068e : Cond.selects RJ0 yJ0_charAt_5068e yJ0_charAt_5068e ∈ tb := tbm_2 (List.mem_of_getElem? (i := 215) (by decide +kernel)) rfl
theorem co_J0_charAt_5068e : Cond.code yJ0_charAt_5068e cJ0_charAt_5068e 2 (some FieldType.char) ∈ tb := tbm_2 (List.mem_of_getElem? (i := 216) (by decide +kernel)) rfl
theorem ml_J0_492 : Cond.methodLink RJ0 492 yJ0_isLatin1_aae02 ∈ tb := tbm_2 (List.mem_of_getElem? (i := 217) (by decide +kernel)) rfl
theorem im_J0_isLatin1_aae02 : Cond.instanceMethod yJ0_isLatin1_aae02 ∈ tb := tbm_2 (List.mem_of_getElem? (i := 218) (by decide +kernel)) rfl
theorem se_J0_isLatin1_aae02 : Cond.selects RJ0 yJ0_isLatin1_aae02 yJ0_isLatin1_aae02 ∈ tb := tbm_2 (List.mem_of_getElem? (i := 219) (by decide +kernel)) rfl
theorem co_J0_isLatin1_aae02 : Cond.code yJ0_isLatin1_aae02 cJ0_isLatin1_aae02 1 (some FieldType.boolean) ∈ tb := tbm_2 (List.mem_of_getElem? (i := 220) (by decide +kernel)) rfl
theorem ml_J0_495 : Cond.methodLink RJ0 495 yJ1_charAt_3b067 ∈ tb := tbm_2 (List.mem_of_getElem? (i := 221) (by decide +kernel)) rfl
theorem st_J1_charAt_3b067 : Cond.static yJ1_charAt_3b067 ∈ tb := tbm_2 (List.mem_of_getElem? (i := 222) (by decide +kernel)) rfl
theorem co_J1_charAt_3b067 : Cond.code yJ1_charAt_3b067 cJ1_charAt_3b067 2 (some FieldType.char) ∈ tb := tbm_2 (List.mem_of_getElem? (i := 223) (by decide +kernel)) rfl
theorem ml_J1_9 : Cond.methodLink RJ1 9 yJ0_checkIndex_df160 ∈ tb := tbm_2 (List.mem_of_getElem? (i := 224) (by decide +kernel)) rfl
theorem st_J0_checkIndex_df160 : Cond.static yJ0_checkIndex_df160 ∈ tb := tbm_2 (List.mem_of_getElem? (i := 225) (by decide +kernel)) rfl
theorem co_J0_checkIndex_df160 : Cond.code yJ0_checkIndex_df160 cJ0_checkIndex_df160 2 none ∈ tb := tbm_2 (List.mem_of_getElem? (i := 226) (by decide +kernel)) rfl
theorem fl_J0_1053 : Cond.fieldLink RJ0 1053 "jdk/internal/util/Preconditions" "SIOOBE_FORMATTER" "Ljava/util/function/BiFunction;" ∈ tb := tbm_2 (List.mem_of_getElem? (i := 227) (by decide +kernel)) rfl
theorem ml_J0_1059 : Cond.methodLink RJ0 1059 yJ3_checkIndex_8e157 ∈ tb := tbm_2 (List.mem_of_getElem? (i := 229) (by decide +kernel)) rfl
theorem st_J3_checkIndex_8e157 : Cond.static yJ3_checkIndex_8e157 ∈ tb := tbm_2 (List.mem_of_getElem? (i := 230) (by decide +kernel)) rfl
theorem co_J3_checkIndex_8e157 : Cond.code yJ3_checkIndex_8e157 cJ3_checkIndex_8e157 3 (some FieldType.int) ∈ tb := tbm_2 (List.mem_of_getElem? (i := 231) (by decide +kernel)) rfl
theorem ml_J0_498 : Cond.methodLink RJ0 498 yJ2_charAt_3b067 ∈ tb := tbm_2 (List.mem_of_getElem? (i := 232) (by decide +kernel)) rfl
theorem st_J2_charAt_3b067 : Cond.static yJ2_charAt_3b067 ∈ tb := tbm_2 (List.mem_of_getElem? (i := 233) (by decide +kernel)) rfl
theorem co_J2_charAt_3b067 : Cond.code yJ2_charAt_3b067 cJ2_charAt_3b067 2 (some FieldType.char) ∈ tb := tbm_2 (List.mem_of_getElem? (i := 234) (by decide +kernel)) rfl
theorem ml_J2_67 : Cond.methodLink RJ2 67 yJ2_checkIndex_2214a ∈ tb := tbm_2 (List.mem_of_getElem? (i := 235) (by decide +kernel)) rfl
theorem st_J2_checkIndex_2214a : Cond.static yJ2_checkIndex_2214a ∈ tb := tbm_2 (List.mem_of_getElem? (i := 236) (by decide +kernel)) rfl
theorem co_J2_checkIndex_2214a : Cond.code yJ2_checkIndex_2214a cJ2_checkIndex_2214a 2 none ∈ tb := tbm_2 (List.mem_of_getElem? (i := 237) (by decide +kernel)) rfl
theorem ml_J2_48 : Cond.methodLink RJ2 48 yJ2_length_9d52b ∈ tb := tbm_2 (List.mem_of_getElem? (i := 238) (by decide +kernel)) rfl
theorem st_J2_length_9d52b : Cond.static yJ2_length_9d52b ∈ tb := tbm_2 (List.mem_of_getElem? (i := 239) (by decide +kernel)) rfl
theorem co_J2_length_9d52b : Cond.code yJ2_length_9d52b cJ2_length_9d52b 1 (some FieldType.int) ∈ tb := tbm_3 (List.mem_of_getElem? (i := 0) (by decide +kernel)) rfl
theorem ml_J2_414 : Cond.methodLink RJ2 414 yJ0_checkIndex_df160 ∈ tb := tbm_3 (List.mem_of_getElem? (i := 1) (by decide +kernel)) rfl
theorem ml_J2_71 : Cond.methodLink RJ2 71 yJ2_getChar_3b067 ∈ tb := tbm_3 (List.mem_of_getElem? (i := 2) (by decide +kernel)) rfl
theorem st_J2_getChar_3b067 : Cond.static yJ2_getChar_3b067 ∈ tb := tbm_3 (List.mem_of_getElem? (i := 3) (by decide +kernel)) rfl
theorem co_J2_getChar_3b067 : Cond.code yJ2_getChar_3b067 cJ2_getChar_3b067 2 (some FieldType.char) ∈ tb := tbm_3 (List.mem_of_getElem? (i := 4) (by decide +kernel)) rfl
theorem fl_J2_44 : Cond.fieldLink RJ2 44 "java/lang/StringUTF16" "$assertionsDisabled" "Z" ∈ tb := tbm_3 (List.mem_of_getElem? (i := 5) (by decide +kernel)) rfl
theorem fl_J2_59 : Cond.fieldLink RJ2 59 "java/lang/StringUTF16" "HI_BYTE_SHIFT" "I" ∈ tb := tbm_3 (List.mem_of_getElem? (i := 7) (by decide +kernel)) rfl
theorem fl_J2_63 : Cond.fieldLink RJ2 63 "java/lang/StringUTF16" "LO_BYTE_SHIFT" "I" ∈ tb := tbm_3 (List.mem_of_getElem? (i := 9) (by decide +kernel)) rfl
theorem ml_X2_44 : Cond.methodLink RX2 44 yX2_readSun ∈ tb := tbm_3 (List.mem_of_getElem? (i := 11) (by decide +kernel)) rfl
theorem im_X2_readSun : Cond.instanceMethod yX2_readSun ∈ tb := tbm_3 (List.mem_of_getElem? (i := 13) (by decide +kernel)) rfl
theorem co_X2_readSun : Cond.code yX2_readSun cX2_readSun 3 (some FieldType.boolean) ∈ tb := tbm_3 (List.mem_of_getElem? (i := 14) (by decide +kernel)) rfl
theorem ml_X2_67 : Cond.methodLink RX2 67 yX2_isNumberTo ∈ tb := tbm_3 (List.mem_of_getElem? (i := 15) (by decide +kernel)) rfl
theorem im_X2_isNumberTo : Cond.instanceMethod yX2_isNumberTo ∈ tb := tbm_3 (List.mem_of_getElem? (i := 17) (by decide +kernel)) rfl
theorem co_X2_isNumberTo : Cond.code yX2_isNumberTo cX2_isNumberTo 2 (some FieldType.boolean) ∈ tb := tbm_3 (List.mem_of_getElem? (i := 18) (by decide +kernel)) rfl
theorem ml_X2_49 : Cond.methodLink RX2 49 yX2_readGoes ∈ tb := tbm_3 (List.mem_of_getElem? (i := 20) (by decide +kernel)) rfl
theorem im_X2_readGoes : Cond.instanceMethod yX2_readGoes ∈ tb := tbm_3 (List.mem_of_getElem? (i := 22) (by decide +kernel)) rfl
theorem co_X2_readGoes : Cond.code yX2_readGoes cX2_readGoes 2 (some FieldType.boolean) ∈ tb := tbm_3 (List.mem_of_getElem? (i := 23) (by decide +kernel)) rfl
theorem ml_X2_81 : Cond.methodLink RX2 81 yX1_seat ∈ tb := tbm_3 (List.mem_of_getElem? (i := 24) (by decide +kernel)) rfl
theorem ml_X2_52 : Cond.methodLink RX2 52 yX2_kindNamed ∈ tb := tbm_3 (List.mem_of_getElem? (i := 25) (by decide +kernel)) rfl
theorem im_X2_kindNamed : Cond.instanceMethod yX2_kindNamed ∈ tb := tbm_3 (List.mem_of_getElem? (i := 27) (by decide +kernel)) rfl
theorem co_X2_kindNamed : Cond.code yX2_kindNamed cX2_kindNamed 2 (some FieldType.int) ∈ tb := tbm_3 (List.mem_of_getElem? (i := 28) (by decide +kernel)) rfl
theorem ml_X2_97 : Cond.methodLink RX2 97 yX2_nameOf ∈ tb := tbm_3 (List.mem_of_getElem? (i := 29) (by decide +kernel)) rfl
theorem st_X2_nameOf : Cond.static yX2_nameOf ∈ tb := tbm_3 (List.mem_of_getElem? (i := 30) (by decide +kernel)) rfl
theorem co_X2_nameOf : Cond.code yX2_nameOf cX2_nameOf 1 (some (FieldType.object "java/lang/String")) ∈ tb := tbm_3 (List.mem_of_getElem? (i := 31) (by decide +kernel)) rfl
theorem ml_X2_61 : Cond.methodLink RX2 61 yX2_readPerson ∈ tb := tbm_3 (List.mem_of_getElem? (i := 38) (by decide +kernel)) rfl
theorem im_X2_readPerson : Cond.instanceMethod yX2_readPerson ∈ tb := tbm_3 (List.mem_of_getElem? (i := 40) (by decide +kernel)) rfl
theorem co_X2_readPerson : Cond.code yX2_readPerson cX2_readPerson 5 (some FieldType.boolean) ∈ tb := tbm_3 (List.mem_of_getElem? (i := 41) (by decide +kernel)) rfl
theorem ml_X2_71 : Cond.methodLink RX2 71 yX1_add ∈ tb := tbm_3 (List.mem_of_getElem? (i := 43) (by decide +kernel)) rfl
theorem ml_X2_77 : Cond.methodLink RX2 77 yX1_isFreeFor ∈ tb := tbm_3 (List.mem_of_getElem? (i := 45) (by decide +kernel)) rfl
theorem ac_46 : Cond.arrayClass FieldType.byte ∈ tb := tbm_3 (List.mem_of_getElem? (i := 46) (by decide +kernel)) rfl
theorem ml_L_118 : Cond.methodLink RL 118 yX4_sheet ∈ tb := tbm_3 (List.mem_of_getElem? (i := 47) (by decide +kernel)) rfl
theorem im_X4_sheet : Cond.instanceMethod yX4_sheet ∈ tb := tbm_3 (List.mem_of_getElem? (i := 48) (by decide +kernel)) rfl
theorem se_X4_sheet : Cond.selects RX4 yX4_sheet yX4_sheet ∈ tb := tbm_3 (List.mem_of_getElem? (i := 49) (by decide +kernel)) rfl
theorem co_X4_sheet : Cond.code yX4_sheet cX4_sheet 5 (some FieldType.int) ∈ tb := tbm_3 (List.mem_of_getElem? (i := 50) (by decide +kernel)) rfl
theorem ml_X4_184 : Cond.methodLink RX4 184 yX4_sheetAt ∈ tb := tbm_3 (List.mem_of_getElem? (i := 51) (by decide +kernel)) rfl
theorem im_X4_sheetAt : Cond.instanceMethod yX4_sheetAt ∈ tb := tbm_3 (List.mem_of_getElem? (i := 53) (by decide +kernel)) rfl
theorem co_X4_sheetAt : Cond.code yX4_sheetAt cX4_sheetAt 2 (some (FieldType.object "TanRow$Sheet")) ∈ tb := tbm_3 (List.mem_of_getElem? (i := 54) (by decide +kernel)) rfl
theorem ct_X4_188 : Cond.constant RX4 188 (-1000000007) ∈ tb := tbm_3 (List.mem_of_getElem? (i := 55) (by decide +kernel)) rfl
theorem ml_X4_189 : Cond.methodLink RX4 189 yX0_begin ∈ tb := tbm_3 (List.mem_of_getElem? (i := 56) (by decide +kernel)) rfl
theorem im_X0_begin : Cond.instanceMethod yX0_begin ∈ tb := tbm_3 (List.mem_of_getElem? (i := 57) (by decide +kernel)) rfl
theorem se_X0_begin : Cond.selects RX0 yX0_begin yX0_begin ∈ tb := tbm_3 (List.mem_of_getElem? (i := 58) (by decide +kernel)) rfl
theorem co_X0_begin : Cond.code yX0_begin cX0_begin 3 none ∈ tb := tbm_3 (List.mem_of_getElem? (i := 59) (by decide +kernel)) rfl
theorem ml_X0_22 : Cond.methodLink RX0 22 yJ7_fill_d0a16 ∈ tb := tbm_3 (List.mem_of_getElem? (i := 60) (by decide +kernel)) rfl
theorem st_J7_fill_d0a16 : Cond.static yJ7_fill_d0a16 ∈ tb := tbm_3 (List.mem_of_getElem? (i := 61) (by decide +kernel)) rfl
theorem co_J7_fill_d0a16 : Cond.code yJ7_fill_d0a16 cJ7_fill_d0a16 5 none ∈ tb := tbm_3 (List.mem_of_getElem? (i := 62) (by decide +kernel)) rfl
theorem ml_L_124 : Cond.methodLink RL 124 yX4_write ∈ tb := tbm_3 (List.mem_of_getElem? (i := 63) (by decide +kernel)) rfl
theorem im_X4_write : Cond.instanceMethod yX4_write ∈ tb := tbm_3 (List.mem_of_getElem? (i := 64) (by decide +kernel)) rfl
theorem se_X4_write : Cond.selects RX4 yX4_write yX4_write ∈ tb := tbm_3 (List.mem_of_getElem? (i := 65) (by decide +kernel)) rfl
theorem co_X4_write : Cond.code yX4_write cX4_write 8 (some FieldType.long) ∈ tb := tbm_3 (List.mem_of_getElem? (i := 66) (by decide +kernel)) rfl
theorem ml_X4_193 : Cond.methodLink RX4 193 yX0_isMissing ∈ tb := tbm_3 (List.mem_of_getElem? (i := 67) (by decide +kernel)) rfl
theorem im_X0_isMissing : Cond.instanceMethod yX0_isMissing ∈ tb := tbm_3 (List.mem_of_getElem? (i := 68) (by decide +kernel)) rfl
theorem se_X0_isMissing : Cond.selects RX0 yX0_isMissing yX0_isMissing ∈ tb := tbm_3 (List.mem_of_getElem? (i := 69) (by decide +kernel)) rfl
theorem co_X0_isMissing : Cond.code yX0_isMissing cX0_isMissing 1 (some FieldType.boolean) ∈ tb := tbm_3 (List.mem_of_getElem? (i := 70) (by decide +kernel)) rfl
theorem ct_X4_197 : Cond.constant RX4 197 (-1000000006) ∈ tb := tbm_3 (List.mem_of_getElem? (i := 71) (by decide +kernel)) rfl
theorem ml_X4_202 : Cond.methodLink RX4 202 yX0_put ∈ tb := tbm_3 (List.mem_of_getElem? (i := 72) (by decide +kernel)) rfl
theorem im_X0_put : Cond.instanceMethod yX0_put ∈ tb := tbm_3 (List.mem_of_getElem? (i := 73) (by decide +kernel)) rfl
theorem se_X0_put : Cond.selects RX0 yX0_put yX0_put ∈ tb := tbm_3 (List.mem_of_getElem? (i := 74) (by decide +kernel)) rfl
theorem co_X0_put : Cond.code yX0_put cX0_put 4 none ∈ tb := tbm_3 (List.mem_of_getElem? (i := 75) (by decide +kernel)) rfl
theorem ml_L_129 : Cond.methodLink RL 129 yX4_copy ∈ tb := tbm_3 (List.mem_of_getElem? (i := 76) (by decide +kernel)) rfl
theorem im_X4_copy : Cond.instanceMethod yX4_copy ∈ tb := tbm_3 (List.mem_of_getElem? (i := 77) (by decide +kernel)) rfl
theorem se_X4_copy : Cond.selects RX4 yX4_copy yX4_copy ∈ tb := tbm_3 (List.mem_of_getElem? (i := 78) (by decide +kernel)) rfl
theorem co_X4_copy : Cond.code yX4_copy cX4_copy 8 (some FieldType.int) ∈ tb := tbm_3 (List.mem_of_getElem? (i := 79) (by decide +kernel)) rfl
theorem ml_X4_209 : Cond.methodLink RX4 209 yX0_has ∈ tb := tbm_3 (List.mem_of_getElem? (i := 80) (by decide +kernel)) rfl
theorem im_X0_has : Cond.instanceMethod yX0_has ∈ tb := tbm_3 (List.mem_of_getElem? (i := 81) (by decide +kernel)) rfl
theorem se_X0_has : Cond.selects RX0 yX0_has yX0_has ∈ tb := tbm_3 (List.mem_of_getElem? (i := 82) (by decide +kernel)) rfl
theorem co_X0_has : Cond.code yX0_has cX0_has 3 (some FieldType.boolean) ∈ tb := tbm_3 (List.mem_of_getElem? (i := 83) (by decide +kernel)) rfl
theorem ml_X4_212 : Cond.methodLink RX4 212 arraycopyName ∈ tb := tbm_3 (List.mem_of_getElem? (i := 84) (by decide +kernel)) rfl
theorem ml_L_134 : Cond.methodLink RL 134 yX4_lays ∈ tb := tbm_3 (List.mem_of_getElem? (i := 85) (by decide +kernel)) rfl
theorem im_X4_lays : Cond.instanceMethod yX4_lays ∈ tb := tbm_3 (List.mem_of_getElem? (i := 86) (by decide +kernel)) rfl
theorem se_X4_lays : Cond.selects RX4 yX4_lays yX4_lays ∈ tb := tbm_3 (List.mem_of_getElem? (i := 87) (by decide +kernel)) rfl
theorem co_X4_lays : Cond.code yX4_lays cX4_lays 7 (some FieldType.int) ∈ tb := tbm_3 (List.mem_of_getElem? (i := 88) (by decide +kernel)) rfl
theorem ct_X4_218 : Cond.constantLong RX4 218 (9) ∈ tb := tbm_3 (List.mem_of_getElem? (i := 89) (by decide +kernel)) rfl
theorem ml_L_138 : Cond.methodLink RL 138 yX4_book ∈ tb := tbm_3 (List.mem_of_getElem? (i := 90) (by decide +kernel)) rfl
theorem im_X4_book : Cond.instanceMethod yX4_book ∈ tb := tbm_3 (List.mem_of_getElem? (i := 91) (by decide +kernel)) rfl
theorem se_X4_book : Cond.selects RX4 yX4_book yX4_book ∈ tb := tbm_3 (List.mem_of_getElem? (i := 92) (by decide +kernel)) rfl
theorem co_X4_book : Cond.code yX4_book cX4_book 5 (some FieldType.int) ∈ tb := tbm_3 (List.mem_of_getElem? (i := 93) (by decide +kernel)) rfl
theorem ml_L_142 : Cond.methodLink RL 142 yX4_read ∈ tb := tbm_3 (List.mem_of_getElem? (i := 94) (by decide +kernel)) rfl
theorem im_X4_read : Cond.instanceMethod yX4_read ∈ tb := tbm_3 (List.mem_of_getElem? (i := 95) (by decide +kernel)) rfl
theorem se_X4_read : Cond.selects RX4 yX4_read yX4_read ∈ tb := tbm_3 (List.mem_of_getElem? (i := 96) (by decide +kernel)) rfl
theorem co_X4_read : Cond.code yX4_read cX4_read 8 (some FieldType.int) ∈ tb := tbm_3 (List.mem_of_getElem? (i := 97) (by decide +kernel)) rfl
theorem ml_X4_220 : Cond.methodLink RX4 220 yX4_trialGoesAs ∈ tb := tbm_3 (List.mem_of_getElem? (i := 98) (by decide +kernel)) rfl
theorem im_X4_trialGoesAs : Cond.instanceMethod yX4_trialGoesAs ∈ tb := tbm_3 (List.mem_of_getElem? (i := 100) (by decide +kernel)) rfl
theorem co_X4_trialGoesAs : Cond.code yX4_trialGoesAs cX4_trialGoesAs 4 (some FieldType.boolean) ∈ tb := tbm_3 (List.mem_of_getElem? (i := 101) (by decide +kernel)) rfl
theorem ml_L_146 : Cond.methodLink RL 146 yX4_image ∈ tb := tbm_3 (List.mem_of_getElem? (i := 102) (by decide +kernel)) rfl
theorem im_X4_image : Cond.instanceMethod yX4_image ∈ tb := tbm_3 (List.mem_of_getElem? (i := 103) (by decide +kernel)) rfl
theorem se_X4_image : Cond.selects RX4 yX4_image yX4_image ∈ tb := tbm_3 (List.mem_of_getElem? (i := 104) (by decide +kernel)) rfl
theorem co_X4_image : Cond.code yX4_image cX4_image 1 (some FieldType.int) ∈ tb := tbm_3 (List.mem_of_getElem? (i := 105) (by decide +kernel)) rfl
theorem ml_L_150 : Cond.methodLink RL 150 yX4_undo ∈ tb := tbm_3 (List.mem_of_getElem? (i := 106) (by decide +kernel)) rfl
theorem im_X4_undo : Cond.instanceMethod yX4_undo ∈ tb := tbm_3 (List.mem_of_getElem? (i := 107) (by decide +kernel)) rfl
theorem se_X4_undo : Cond.selects RX4 yX4_undo yX4_undo ∈ tb := tbm_3 (List.mem_of_getElem? (i := 108) (by decide +kernel)) rfl
theorem co_X4_undo : Cond.code yX4_undo cX4_undo 1 (some FieldType.int) ∈ tb := tbm_3 (List.mem_of_getElem? (i := 109) (by decide +kernel)) rfl
theorem ml_L_154 : Cond.methodLink RL 154 yX4_tear ∈ tb := tbm_3 (List.mem_of_getElem? (i := 110) (by decide +kernel)) rfl
theorem im_X4_tear : Cond.instanceMethod yX4_tear ∈ tb := tbm_3 (List.mem_of_getElem? (i := 111) (by decide +kernel)) rfl
theorem se_X4_tear : Cond.selects RX4 yX4_tear yX4_tear ∈ tb := tbm_3 (List.mem_of_getElem? (i := 112) (by decide +kernel)) rfl
theorem co_X4_tear : Cond.code yX4_tear cX4_tear 2 (some FieldType.int) ∈ tb := tbm_3 (List.mem_of_getElem? (i := 113) (by decide +kernel)) rfl
theorem ml_L_158 : Cond.methodLink RL 158 yX4_count ∈ tb := tbm_3 (List.mem_of_getElem? (i := 114) (by decide +kernel)) rfl
theorem im_X4_count : Cond.instanceMethod yX4_count ∈ tb := tbm_3 (List.mem_of_getElem? (i := 115) (by decide +kernel)) rfl
theorem se_X4_count : Cond.selects RX4 yX4_count yX4_count ∈ tb := tbm_3 (List.mem_of_getElem? (i := 116) (by decide +kernel)) rfl
theorem co_X4_count : Cond.code yX4_count cX4_count 2 (some FieldType.int) ∈ tb := tbm_3 (List.mem_of_getElem? (i := 117) (by decide +kernel)) rfl
theorem ml_X4_224 : Cond.methodLink RX4 224 yJ6_bitCount_0f7a4 ∈ tb := tbm_3 (List.mem_of_getElem? (i := 118) (by decide +kernel)) rfl
theorem st_J6_bitCount_0f7a4 : Cond.static yJ6_bitCount_0f7a4 ∈ tb := tbm_3 (List.mem_of_getElem? (i := 119) (by decide +kernel)) rfl
theorem co_J6_bitCount_0f7a4 : Cond.code yJ6_bitCount_0f7a4 cJ6_bitCount_0f7a4 1 (some FieldType.int) ∈ tb := tbm_3 (List.mem_of_getElem? (i := 120) (by decide +kernel)) rfl
theorem ct_J6_265 : Cond.constant RJ6 265 (1431655765) ∈ tb := tbm_3 (List.mem_of_getElem? (i := 121) (by decide +kernel)) rfl
theorem ct_J6_266 : Cond.constant RJ6 266 (858993459) ∈ tb := tbm_3 (List.mem_of_getElem? (i := 122) (by decide +kernel)) rfl
theorem ct_J6_267 : Cond.constant RJ6 267 (252645135) ∈ tb := tbm_3 (List.mem_of_getElem? (i := 123) (by decide +kernel)) rfl
theorem ml_X4_229 : Cond.methodLink RX4 229 yX1_sunOfAll ∈ tb := tbm_3 (List.mem_of_getElem? (i := 124) (by decide +kernel)) rfl
theorem im_X1_sunOfAll : Cond.instanceMethod yX1_sunOfAll ∈ tb := tbm_3 (List.mem_of_getElem? (i := 125) (by decide +kernel)) rfl
theorem se_X1_sunOfAll : Cond.selects RX1 yX1_sunOfAll yX1_sunOfAll ∈ tb := tbm_3 (List.mem_of_getElem? (i := 126) (by decide +kernel)) rfl
theorem co_X1_sunOfAll : Cond.code yX1_sunOfAll cX1_sunOfAll 3 (some FieldType.int) ∈ tb := tbm_3 (List.mem_of_getElem? (i := 127) (by decide +kernel)) rfl
theorem ml_L_162 : Cond.methodLink RL 162 yX4_status ∈ tb := tbm_3 (List.mem_of_getElem? (i := 128) (by decide +kernel)) rfl
theorem im_X4_status : Cond.instanceMethod yX4_status ∈ tb := tbm_3 (List.mem_of_getElem? (i := 129) (by decide +kernel)) rfl
theorem se_X4_status : Cond.selects RX4 yX4_status yX4_status ∈ tb := tbm_3 (List.mem_of_getElem? (i := 130) (by decide +kernel)) rfl
theorem co_X4_status : Cond.code yX4_status cX4_status 4 (some FieldType.int) ∈ tb := tbm_3 (List.mem_of_getElem? (i := 131) (by decide +kernel)) rfl
theorem cl_L_10 : Cond.classLink RL 10 RX5 ∈ tb := tbm_3 (List.mem_of_getElem? (i := 132) (by decide +kernel)) rfl
theorem it_X5 : Cond.instantiable RX5 16 ∈ tb := tbm_3 (List.mem_of_getElem? (i := 133) (by decide +kernel)) rfl
theorem ml_L_12 : Cond.methodLink RL 12 yX5_init ∈ tb := tbm_3 (List.mem_of_getElem? (i := 134) (by decide +kernel)) rfl
theorem im_X5_init : Cond.instanceMethod yX5_init ∈ tb := tbm_3 (List.mem_of_getElem? (i := 135) (by decide +kernel)) rfl
theorem co_X5_init : Cond.code yX5_init cX5_init 2 none ∈ tb := tbm_3 (List.mem_of_getElem? (i := 136) (by decide +kernel)) rfl
theorem ml_X5_3 : Cond.methodLink RX5 3 objectInit ∈ tb := tbm_3 (List.mem_of_getElem? (i := 137) (by decide +kernel)) rfl
theorem fl_X5_9 : Cond.fieldLink RX5 9 "TanRowModel" "m" "[I" ∈ tb := tbm_3 (List.mem_of_getElem? (i := 138) (by decide +kernel)) rfl
theorem fl_X5_13 : Cond.fieldLink RX5 13 "TanRowModel" "kept" "[I" ∈ tb := tbm_3 (List.mem_of_getElem? (i := 139) (by decide +kernel)) rfl
theorem fl_X5_16 : Cond.fieldLink RX5 16 "TanRowModel" "was" "[I" ∈ tb := tbm_3 (List.mem_of_getElem? (i := 140) (by decide +kernel)) rfl
theorem fl_X5_228 : Cond.fieldLink RX5 228 "TanRowModel" "isKept" "Z" ∈ tb := tbm_3 (List.mem_of_getElem? (i := 141) (by decide +kernel)) rfl
theorem fl_X5_19 : Cond.fieldLink RX5 19 "TanRowModel" "found" "[I" ∈ tb := tbm_3 (List.mem_of_getElem? (i := 142) (by decide +kernel)) rfl
theorem fl_X5_22 : Cond.fieldLink RX5 22 "TanRowModel" "gifts" "[I" ∈ tb := tbm_3 (List.mem_of_getElem? (i := 143) (by decide +kernel)) rfl
theorem fl_X5_25 : Cond.fieldLink RX5 25 "TanRowModel" "tape" "[I" ∈ tb := tbm_3 (List.mem_of_getElem? (i := 144) (by decide +kernel)) rfl
theorem fl_X5_154 : Cond.fieldLink RX5 154 "TanRowModel" "taped" "I" ∈ tb := tbm_3 (List.mem_of_getElem? (i := 145) (by decide +kernel)) rfl
theorem fl_X5_177 : Cond.fieldLink RX5 177 "TanRowModel" "token" "I" ∈ tb := tbm_3 (List.mem_of_getElem? (i := 146) (by decide +kernel)) rfl
theorem fl_X5_161 : Cond.fieldLink RX5 161 "TanRowModel" "begin" "I" ∈ tb := tbm_3 (List.mem_of_getElem? (i := 147) (by decide +kernel)) rfl
theorem fl_X5_164 : Cond.fieldLink RX5 164 "TanRowModel" "at" "I" ∈ tb := tbm_3 (List.mem_of_getElem? (i := 148) (by decide +kernel)) rfl
theorem fl_X5_174 : Cond.fieldLink RX5 174 "TanRowModel" "value" "I" ∈ tb := tbm_3 (List.mem_of_getElem? (i := 149) (by decide +kernel)) rfl
theorem fl_X5_183 : Cond.fieldLink RX5 183 "TanRowModel" "bad" "Z" ∈ tb := tbm_3 (List.mem_of_getElem? (i := 150) (by decide +kernel)) rfl
theorem fl_X5_28 : Cond.fieldLink RX5 28 "TanRowModel" "bitsOf" "[I" ∈ tb := tbm_3 (List.mem_of_getElem? (i := 151) (by decide +kernel)) rfl
theorem fl_X5_31 : Cond.fieldLink RX5 31 "TanRowModel" "sizeOf" "[I" ∈ tb := tbm_3 (List.mem_of_getElem? (i := 152) (by decide +kernel)) rfl
theorem fl_X5_34 : Cond.fieldLink RX5 34 "TanRowModel" "cells" "[J" ∈ tb := tbm_3 (List.mem_of_getElem? (i := 153) (by decide +kernel)) rfl
theorem ml_L_17 : Cond.methodLink RL 17 yX5_sun ∈ tb := tbm_3 (List.mem_of_getElem? (i := 187) (by decide +kernel)) rfl
theorem im_X5_sun : Cond.instanceMethod yX5_sun ∈ tb := tbm_3 (List.mem_of_getElem? (i := 188) (by decide +kernel)) rfl
theorem se_X5_sun : Cond.selects RX5 yX5_sun yX5_sun ∈ tb := tbm_3 (List.mem_of_getElem? (i := 189) (by decide +kernel)) rfl
theorem co_X5_sun : Cond.code yX5_sun cX5_sun 3 (some FieldType.int) ∈ tb := tbm_3 (List.mem_of_getElem? (i := 190) (by decide +kernel)) rfl
theorem ml_X5_44 : Cond.methodLink RX5 44 yX5_in ∈ tb := tbm_3 (List.mem_of_getElem? (i := 191) (by decide +kernel)) rfl
theorem st_X5_in : Cond.static yX5_in ∈ tb := tbm_3 (List.mem_of_getElem? (i := 192) (by decide +kernel)) rfl
theorem co_X5_in : Cond.code yX5_in cX5_in 4 (some FieldType.boolean) ∈ tb := tbm_3 (List.mem_of_getElem? (i := 193) (by decide +kernel)) rfl
theorem ml_X5_73 : Cond.methodLink RX5 73 yX5_becomes ∈ tb := tbm_3 (List.mem_of_getElem? (i := 194) (by decide +kernel)) rfl
theorem im_X5_becomes : Cond.instanceMethod yX5_becomes ∈ tb := tbm_3 (List.mem_of_getElem? (i := 196) (by decide +kernel)) rfl
theorem co_X5_becomes : Cond.code yX5_becomes cX5_becomes 4 (some FieldType.int) ∈ tb := tbm_3 (List.mem_of_getElem? (i := 197) (by decide +kernel)) rfl
theorem ct_X5_38 : Cond.constant RX5 38 (-1000000001) ∈ tb := tbm_3 (List.mem_of_getElem? (i := 198) (by decide +kernel)) rfl
theorem ml_X5_40 : Cond.methodLink RX5 40 yX5_finds ∈ tb := tbm_3 (List.mem_of_getElem? (i := 199) (by decide +kernel)) rfl
theorem im_X5_finds : Cond.instanceMethod yX5_finds ∈ tb := tbm_3 (List.mem_of_getElem? (i := 201) (by decide +kernel)) rfl
theorem co_X5_finds : Cond.code yX5_finds cX5_finds 2 (some FieldType.int) ∈ tb := tbm_3 (List.mem_of_getElem? (i := 202) (by decide +kernel)) rfl
theorem ml_L_22 : Cond.methodLink RL 22 yX5_chair ∈ tb := tbm_3 (List.mem_of_getElem? (i := 203) (by decide +kernel)) rfl
theorem im_X5_chair : Cond.instanceMethod yX5_chair ∈ tb := tbm_3 (List.mem_of_getElem? (i := 204) (by decide +kernel)) rfl
theorem se_X5_chair : Cond.selects RX5 yX5_chair yX5_chair ∈ tb := tbm_3 (List.mem_of_getElem? (i := 205) (by decide +kernel)) rfl
theorem co_X5_chair : Cond.code yX5_chair cX5_chair 2 (some FieldType.int) ∈ tb := tbm_3 (List.mem_of_getElem? (i := 206) (by decide +kernel)) rfl
theorem ml_X5_59 : Cond.methodLink RX5 59 yX5_onChair ∈ tb := tbm_3 (List.mem_of_getElem? (i := 207) (by decide +kernel)) rfl
theorem im_X5_onChair : Cond.instanceMethod yX5_onChair ∈ tb := tbm_3 (List.mem_of_getElem? (i := 209) (by decide +kernel)) rfl
theorem co_X5_onChair : Cond.code yX5_onChair cX5_onChair 4 (some FieldType.int) ∈ tb := tbm_3 (List.mem_of_getElem? (i := 210) (by decide +kernel)) rfl
theorem ml_X5_52 : Cond.methodLink RX5 52 yX5_it ∈ tb := tbm_3 (List.mem_of_getElem? (i := 211) (by decide +kernel)) rfl
theorem im_X5_it : Cond.instanceMethod yX5_it ∈ tb := tbm_3 (List.mem_of_getElem? (i := 213) (by decide +kernel)) rfl
theorem co_X5_it : Cond.code yX5_it cX5_it 3 (some FieldType.int) ∈ tb := tbm_3 (List.mem_of_getElem? (i := 214) (by decide +kernel)) rfl
theorem ml_L_26 : Cond.methodLink RL 26 yX5_now ∈ tb := tbm_3 (List.mem_of_getElem? (i := 215) (by decide +kernel)) rfl
theorem im_X5_now : Cond.instanceMethod yX5_now ∈ tb := tbm_3 (List.mem_of_getElem? (i := 216) (by decide +kernel)) rfl
theorem se_X5_now : Cond.selects RX5 yX5_now yX5_now ∈ tb := tbm_3 (List.mem_of_getElem? (i := 217) (by decide +kernel)) rfl
theorem co_X5_now : Cond.code yX5_now cX5_now 2 (some FieldType.int) ∈ tb := tbm_3 (List.mem_of_getElem? (i := 218) (by decide +kernel)) rfl
theorem ml_X5_62 : Cond.methodLink RX5 62 yX5_sunNow ∈ tb := tbm_3 (List.mem_of_getElem? (i := 219) (by decide +kernel)) rfl
theorem im_X5_sunNow : Cond.instanceMethod yX5_sunNow ∈ tb := tbm_3 (List.mem_of_getElem? (i := 221) (by decide +kernel)) rfl
theorem co_X5_sunNow : Cond.code yX5_sunNow cX5_sunNow 1 (some FieldType.int) ∈ tb := tbm_3 (List.mem_of_getElem? (i := 222) (by decide +kernel)) rfl
theorem ml_X5_82 : Cond.methodLink RX5 82 yX5_sitters ∈ tb := tbm_3 (List.mem_of_getElem? (i := 223) (by decide +kernel)) rfl
theorem im_X5_sitters : Cond.instanceMethod yX5_sitters ∈ tb := tbm_3 (List.mem_of_getElem? (i := 225) (by decide +kernel)) rfl
theorem co_X5_sitters : Cond.code yX5_sitters cX5_sitters 3 (some FieldType.int) ∈ tb := tbm_3 (List.mem_of_getElem? (i := 226) (by decide +kernel)) rfl
theorem ml_X5_56 : Cond.methodLink RX5 56 yX5_sits ∈ tb := tbm_3 (List.mem_of_getElem? (i := 227) (by decide +kernel)) rfl
theorem im_X5_sits : Cond.instanceMethod yX5_sits ∈ tb := tbm_3 (List.mem_of_getElem? (i := 229) (by decide +kernel)) rfl
theorem co_X5_sits : Cond.code yX5_sits cX5_sits 2 (some FieldType.boolean) ∈ tb := tbm_3 (List.mem_of_getElem? (i := 230) (by decide +kernel)) rfl
theorem ml_X5_85 : Cond.methodLink RX5 85 yX5_evenOnes ∈ tb := tbm_3 (List.mem_of_getElem? (i := 231) (by decide +kernel)) rfl
theorem im_X5_evenOnes : Cond.instanceMethod yX5_evenOnes ∈ tb := tbm_3 (List.mem_of_getElem? (i := 233) (by decide +kernel)) rfl
theorem co_X5_evenOnes : Cond.code yX5_evenOnes cX5_evenOnes 3 (some FieldType.int) ∈ tb := tbm_3 (List.mem_of_getElem? (i := 234) (by decide +kernel)) rfl
theorem ml_X5_79 : Cond.methodLink RX5 79 yX5_isEven ∈ tb := tbm_3 (List.mem_of_getElem? (i := 235) (by decide +kernel)) rfl
theorem im_X5_isEven : Cond.instanceMethod yX5_isEven ∈ tb := tbm_3 (List.mem_of_getElem? (i := 237) (by decide +kernel)) rfl
theorem co_X5_isEven : Cond.code yX5_isEven cX5_isEven 2 (some FieldType.boolean) ∈ tb := tbm_3 (List.mem_of_getElem? (i := 238) (by decide +kernel)) rfl
theorem ml_X5_88 : Cond.methodLink RX5 88 yX5_allBrown ∈ tb := tbm_3 (List.mem_of_getElem? (i := 239) (by decide +kernel)) rfl
theorem im_X5_allBrown : Cond.instanceMethod yX5_allBrown ∈ tb := tbm_4 (List.mem_of_getElem? (i := 1) (by decide +kernel)) rfl
theorem co_X5_allBrown : Cond.code yX5_allBrown cX5_allBrown 1 (some FieldType.int) ∈ tb := tbm_4 (List.mem_of_getElem? (i := 2) (by decide +kernel)) rfl
theorem ml_X5_76 : Cond.methodLink RX5 76 yX5_sums ∈ tb := tbm_4 (List.mem_of_getElem? (i := 3) (by decide +kernel)) rfl
theorem im_X5_sums : Cond.instanceMethod yX5_sums ∈ tb := tbm_4 (List.mem_of_getElem? (i := 5) (by decide +kernel)) rfl
theorem co_X5_sums : Cond.code yX5_sums cX5_sums 4 (some FieldType.int) ∈ tb := tbm_4 (List.mem_of_getElem? (i := 6) (by decide +kernel)) rfl
theorem ml_L_30 : Cond.methodLink RL 30 yX5_person ∈ tb := tbm_4 (List.mem_of_getElem? (i := 7) (by decide +kernel)) rfl
theorem im_X5_person : Cond.instanceMethod yX5_person ∈ tb := tbm_4 (List.mem_of_getElem? (i := 8) (by decide +kernel)) rfl
theorem se_X5_person : Cond.selects RX5 yX5_person yX5_person ∈ tb := tbm_4 (List.mem_of_getElem? (i := 9) (by decide +kernel)) rfl
theorem co_X5_person : Cond.code yX5_person cX5_person 2 (some FieldType.int) ∈ tb := tbm_4 (List.mem_of_getElem? (i := 10) (by decide +kernel)) rfl
theorem ct_X5_95 : Cond.constant RX5 95 (-1000000002) ∈ tb := tbm_4 (List.mem_of_getElem? (i := 11) (by decide +kernel)) rfl
theorem ml_X5_96 : Cond.methodLink RX5 96 yX5_comesAs ∈ tb := tbm_4 (List.mem_of_getElem? (i := 12) (by decide +kernel)) rfl
theorem im_X5_comesAs : Cond.instanceMethod yX5_comesAs ∈ tb := tbm_4 (List.mem_of_getElem? (i := 14) (by decide +kernel)) rfl
theorem co_X5_comesAs : Cond.code yX5_comesAs cX5_comesAs 5 (some FieldType.int) ∈ tb := tbm_4 (List.mem_of_getElem? (i := 15) (by decide +kernel)) rfl
theorem ml_X5_91 : Cond.methodLink RX5 91 yX5_put ∈ tb := tbm_4 (List.mem_of_getElem? (i := 16) (by decide +kernel)) rfl
theorem im_X5_put : Cond.instanceMethod yX5_put ∈ tb := tbm_4 (List.mem_of_getElem? (i := 18) (by decide +kernel)) rfl
theorem co_X5_put : Cond.code yX5_put cX5_put 4 none ∈ tb := tbm_4 (List.mem_of_getElem? (i := 19) (by decide +kernel)) rfl
theorem ml_L_34 : Cond.methodLink RL 34 yX5_of ∈ tb := tbm_4 (List.mem_of_getElem? (i := 20) (by decide +kernel)) rfl
theorem im_X5_of : Cond.instanceMethod yX5_of ∈ tb := tbm_4 (List.mem_of_getElem? (i := 21) (by decide +kernel)) rfl
theorem se_X5_of : Cond.selects RX5 yX5_of yX5_of ∈ tb := tbm_4 (List.mem_of_getElem? (i := 22) (by decide +kernel)) rfl
theorem co_X5_of : Cond.code yX5_of cX5_of 3 (some FieldType.int) ∈ tb := tbm_4 (List.mem_of_getElem? (i := 23) (by decide +kernel)) rfl
theorem ml_X5_48 : Cond.methodLink RX5 48 yX5_isPerson ∈ tb := tbm_4 (List.mem_of_getElem? (i := 24) (by decide +kernel)) rfl
theorem im_X5_isPerson : Cond.instanceMethod yX5_isPerson ∈ tb := tbm_4 (List.mem_of_getElem? (i := 26) (by decide +kernel)) rfl
theorem co_X5_isPerson : Cond.code yX5_isPerson cX5_isPerson 2 (some FieldType.boolean) ∈ tb := tbm_4 (List.mem_of_getElem? (i := 27) (by decide +kernel)) rfl
theorem ml_X5_99 : Cond.methodLink RX5 99 yX5_fades ∈ tb := tbm_4 (List.mem_of_getElem? (i := 28) (by decide +kernel)) rfl
theorem im_X5_fades : Cond.instanceMethod yX5_fades ∈ tb := tbm_4 (List.mem_of_getElem? (i := 30) (by decide +kernel)) rfl
theorem co_X5_fades : Cond.code yX5_fades cX5_fades 3 (some FieldType.int) ∈ tb := tbm_4 (List.mem_of_getElem? (i := 31) (by decide +kernel)) rfl
theorem ml_X5_66 : Cond.methodLink RX5 66 yX5_beside ∈ tb := tbm_4 (List.mem_of_getElem? (i := 32) (by decide +kernel)) rfl
theorem im_X5_beside : Cond.instanceMethod yX5_beside ∈ tb := tbm_4 (List.mem_of_getElem? (i := 34) (by decide +kernel)) rfl
theorem co_X5_beside : Cond.code yX5_beside cX5_beside 4 (some FieldType.int) ∈ tb := tbm_4 (List.mem_of_getElem? (i := 35) (by decide +kernel)) rfl
theorem ml_X5_102 : Cond.methodLink RX5 102 yX5_burnsFrom ∈ tb := tbm_4 (List.mem_of_getElem? (i := 36) (by decide +kernel)) rfl
theorem im_X5_burnsFrom : Cond.instanceMethod yX5_burnsFrom ∈ tb := tbm_4 (List.mem_of_getElem? (i := 38) (by decide +kernel)) rfl
theorem co_X5_burnsFrom : Cond.code yX5_burnsFrom cX5_burnsFrom 2 (some FieldType.int) ∈ tb := tbm_4 (List.mem_of_getElem? (i := 39) (by decide +kernel)) rfl
theorem ml_L_39 : Cond.methodLink RL 39 yX5_set ∈ tb := tbm_4 (List.mem_of_getElem? (i := 40) (by decide +kernel)) rfl
theorem im_X5_set : Cond.instanceMethod yX5_set ∈ tb := tbm_4 (List.mem_of_getElem? (i := 41) (by decide +kernel)) rfl
theorem se_X5_set : Cond.selects RX5 yX5_set yX5_set ∈ tb := tbm_4 (List.mem_of_getElem? (i := 42) (by decide +kernel)) rfl
theorem co_X5_set : Cond.code yX5_set cX5_set 5 (some FieldType.int) ∈ tb := tbm_4 (List.mem_of_getElem? (i := 43) (by decide +kernel)) rfl
theorem ml_L_43 : Cond.methodLink RL 43 yX5_turn ∈ tb := tbm_4 (List.mem_of_getElem? (i := 44) (by decide +kernel)) rfl
theorem im_X5_turn : Cond.instanceMethod yX5_turn ∈ tb := tbm_4 (List.mem_of_getElem? (i := 45) (by decide +kernel)) rfl
theorem se_X5_turn : Cond.selects RX5 yX5_turn yX5_turn ∈ tb := tbm_4 (List.mem_of_getElem? (i := 46) (by decide +kernel)) rfl
theorem co_X5_turn : Cond.code yX5_turn cX5_turn 3 (some FieldType.int) ∈ tb := tbm_4 (List.mem_of_getElem? (i := 47) (by decide +kernel)) rfl
theorem ml_L_47 : Cond.methodLink RL 47 yX5_as ∈ tb := tbm_4 (List.mem_of_getElem? (i := 48) (by decide +kernel)) rfl
theorem im_X5_as : Cond.instanceMethod yX5_as ∈ tb := tbm_4 (List.mem_of_getElem? (i := 49) (by decide +kernel)) rfl
theorem se_X5_as : Cond.selects RX5 yX5_as yX5_as ∈ tb := tbm_4 (List.mem_of_getElem? (i := 50) (by decide +kernel)) rfl
theorem co_X5_as : Cond.code yX5_as cX5_as 5 (some FieldType.int) ∈ tb := tbm_4 (List.mem_of_getElem? (i := 51) (by decide +kernel)) rfl
theorem ml_X5_105 : Cond.methodLink RX5 105 yX5_brownOf ∈ tb := tbm_4 (List.mem_of_getElem? (i := 52) (by decide +kernel)) rfl
theorem im_X5_brownOf : Cond.instanceMethod yX5_brownOf ∈ tb := tbm_4 (List.mem_of_getElem? (i := 54) (by decide +kernel)) rfl
theorem co_X5_brownOf : Cond.code yX5_brownOf cX5_brownOf 2 (some FieldType.int) ∈ tb := tbm_4 (List.mem_of_getElem? (i := 55) (by decide +kernel)) rfl
theorem ct_X5_108 : Cond.constant RX5 108 (-1000000003) ∈ tb := tbm_4 (List.mem_of_getElem? (i := 56) (by decide +kernel)) rfl
theorem ml_L_51 : Cond.methodLink RL 51 yX5_sit ∈ tb := tbm_4 (List.mem_of_getElem? (i := 57) (by decide +kernel)) rfl
theorem im_X5_sit : Cond.instanceMethod yX5_sit ∈ tb := tbm_4 (List.mem_of_getElem? (i := 58) (by decide +kernel)) rfl
theorem se_X5_sit : Cond.selects RX5 yX5_sit yX5_sit ∈ tb := tbm_4 (List.mem_of_getElem? (i := 59) (by decide +kernel)) rfl
theorem co_X5_sit : Cond.code yX5_sit cX5_sit 3 (some FieldType.int) ∈ tb := tbm_4 (List.mem_of_getElem? (i := 60) (by decide +kernel)) rfl
theorem ml_X5_109 : Cond.methodLink RX5 109 yX5_isFreeFor ∈ tb := tbm_4 (List.mem_of_getElem? (i := 61) (by decide +kernel)) rfl
theorem im_X5_isFreeFor : Cond.instanceMethod yX5_isFreeFor ∈ tb := tbm_4 (List.mem_of_getElem? (i := 63) (by decide +kernel)) rfl
theorem co_X5_isFreeFor : Cond.code yX5_isFreeFor cX5_isFreeFor 4 (some FieldType.boolean) ∈ tb := tbm_4 (List.mem_of_getElem? (i := 64) (by decide +kernel)) rfl
theorem ct_X5_113 : Cond.constant RX5 113 (-1000000005) ∈ tb := tbm_4 (List.mem_of_getElem? (i := 65) (by decide +kernel)) rfl
theorem ml_L_55 : Cond.methodLink RL 55 yX5_given ∈ tb := tbm_4 (List.mem_of_getElem? (i := 66) (by decide +kernel)) rfl
theorem im_X5_given : Cond.instanceMethod yX5_given ∈ tb := tbm_4 (List.mem_of_getElem? (i := 67) (by decide +kernel)) rfl
theorem se_X5_given : Cond.selects RX5 yX5_given yX5_given ∈ tb := tbm_4 (List.mem_of_getElem? (i := 68) (by decide +kernel)) rfl
theorem co_X5_given : Cond.code yX5_given cX5_given 3 (some FieldType.int) ∈ tb := tbm_4 (List.mem_of_getElem? (i := 69) (by decide +kernel)) rfl
theorem ml_X5_114 : Cond.methodLink RX5 114 yX5_givenTo ∈ tb := tbm_4 (List.mem_of_getElem? (i := 70) (by decide +kernel)) rfl
theorem im_X5_givenTo : Cond.instanceMethod yX5_givenTo ∈ tb := tbm_4 (List.mem_of_getElem? (i := 72) (by decide +kernel)) rfl
theorem co_X5_givenTo : Cond.code yX5_givenTo cX5_givenTo 4 (some FieldType.int) ∈ tb := tbm_4 (List.mem_of_getElem? (i := 73) (by decide +kernel)) rfl
theorem ml_X5_69 : Cond.methodLink RX5 69 yX5_glows ∈ tb := tbm_4 (List.mem_of_getElem? (i := 74) (by decide +kernel)) rfl
theorem im_X5_glows : Cond.instanceMethod yX5_glows ∈ tb := tbm_4 (List.mem_of_getElem? (i := 76) (by decide +kernel)) rfl
theorem co_X5_glows : Cond.code yX5_glows cX5_glows 7 (some FieldType.int) ∈ tb := tbm_4 (List.mem_of_getElem? (i := 77) (by decide +kernel)) rfl
theorem ml_L_59 : Cond.methodLink RL 59 yX5_hours ∈ tb := tbm_4 (List.mem_of_getElem? (i := 78) (by decide +kernel)) rfl
theorem im_X5_hours : Cond.instanceMethod yX5_hours ∈ tb := tbm_4 (List.mem_of_getElem? (i := 79) (by decide +kernel)) rfl
theorem se_X5_hours : Cond.selects RX5 yX5_hours yX5_hours ∈ tb := tbm_4 (List.mem_of_getElem? (i := 80) (by decide +kernel)) rfl
theorem co_X5_hours : Cond.code yX5_hours cX5_hours 2 (some FieldType.int) ∈ tb := tbm_4 (List.mem_of_getElem? (i := 81) (by decide +kernel)) rfl
theorem ct_X5_130 : Cond.constant RX5 130 (99999) ∈ tb := tbm_4 (List.mem_of_getElem? (i := 82) (by decide +kernel)) rfl
theorem ml_X5_131 : Cond.methodLink RX5 131 yX5_goesFor ∈ tb := tbm_4 (List.mem_of_getElem? (i := 83) (by decide +kernel)) rfl
theorem im_X5_goesFor : Cond.instanceMethod yX5_goesFor ∈ tb := tbm_4 (List.mem_of_getElem? (i := 85) (by decide +kernel)) rfl
theorem co_X5_goesFor : Cond.code yX5_goesFor cX5_goesFor 3 none ∈ tb := tbm_4 (List.mem_of_getElem? (i := 86) (by decide +kernel)) rfl
theorem ml_X5_127 : Cond.methodLink RX5 127 yX5_goes ∈ tb := tbm_4 (List.mem_of_getElem? (i := 87) (by decide +kernel)) rfl
theorem im_X5_goes : Cond.instanceMethod yX5_goes ∈ tb := tbm_4 (List.mem_of_getElem? (i := 89) (by decide +kernel)) rfl
theorem co_X5_goes : Cond.code yX5_goes cX5_goes 2 none ∈ tb := tbm_4 (List.mem_of_getElem? (i := 90) (by decide +kernel)) rfl
theorem ml_X5_123 : Cond.methodLink RX5 123 yX5_browns ∈ tb := tbm_4 (List.mem_of_getElem? (i := 91) (by decide +kernel)) rfl
theorem im_X5_browns : Cond.instanceMethod yX5_browns ∈ tb := tbm_4 (List.mem_of_getElem? (i := 93) (by decide +kernel)) rfl
theorem co_X5_browns : Cond.code yX5_browns cX5_browns 4 none ∈ tb := tbm_4 (List.mem_of_getElem? (i := 94) (by decide +kernel)) rfl
theorem ml_X5_117 : Cond.methodLink RX5 117 yX5_takesOf ∈ tb := tbm_4 (List.mem_of_getElem? (i := 95) (by decide +kernel)) rfl
theorem im_X5_takesOf : Cond.instanceMethod yX5_takesOf ∈ tb := tbm_4 (List.mem_of_getElem? (i := 97) (by decide +kernel)) rfl
theorem co_X5_takesOf : Cond.code yX5_takesOf cX5_takesOf 3 (some FieldType.int) ∈ tb := tbm_4 (List.mem_of_getElem? (i := 98) (by decide +kernel)) rfl
theorem ml_X5_120 : Cond.methodLink RX5 120 yX5_held ∈ tb := tbm_4 (List.mem_of_getElem? (i := 99) (by decide +kernel)) rfl
theorem st_X5_held : Cond.static yX5_held ∈ tb := tbm_4 (List.mem_of_getElem? (i := 100) (by decide +kernel)) rfl
theorem co_X5_held : Cond.code yX5_held cX5_held 3 (some FieldType.int) ∈ tb := tbm_4 (List.mem_of_getElem? (i := 101) (by decide +kernel)) rfl
theorem ml_L_63 : Cond.methodLink RL 63 yX5_on ∈ tb := tbm_4 (List.mem_of_getElem? (i := 102) (by decide +kernel)) rfl
theorem im_X5_on : Cond.instanceMethod yX5_on ∈ tb := tbm_4 (List.mem_of_getElem? (i := 103) (by decide +kernel)) rfl
theorem se_X5_on : Cond.selects RX5 yX5_on yX5_on ∈ tb := tbm_4 (List.mem_of_getElem? (i := 104) (by decide +kernel)) rfl
theorem co_X5_on : Cond.code yX5_on cX5_on 5 (some FieldType.int) ∈ tb := tbm_4 (List.mem_of_getElem? (i := 105) (by decide +kernel)) rfl
theorem ml_X5_139 : Cond.methodLink RX5 139 yX5_thinks ∈ tb := tbm_4 (List.mem_of_getElem? (i := 106) (by decide +kernel)) rfl
theorem im_X5_thinks : Cond.instanceMethod yX5_thinks ∈ tb := tbm_4 (List.mem_of_getElem? (i := 108) (by decide +kernel)) rfl
theorem co_X5_thinks : Cond.code yX5_thinks cX5_thinks 1 none ∈ tb := tbm_4 (List.mem_of_getElem? (i := 109) (by decide +kernel)) rfl
theorem ml_X5_135 : Cond.methodLink RX5 135 yX5_copyAll ∈ tb := tbm_4 (List.mem_of_getElem? (i := 110) (by decide +kernel)) rfl
theorem st_X5_copyAll : Cond.static yX5_copyAll ∈ tb := tbm_4 (List.mem_of_getElem? (i := 111) (by decide +kernel)) rfl
theorem co_X5_copyAll : Cond.code yX5_copyAll cX5_copyAll 3 none ∈ tb := tbm_4 (List.mem_of_getElem? (i := 112) (by decide +kernel)) rfl
theorem ml_X5_142 : Cond.methodLink RX5 142 yX5_putsBack ∈ tb := tbm_4 (List.mem_of_getElem? (i := 113) (by decide +kernel)) rfl
theorem im_X5_putsBack : Cond.instanceMethod yX5_putsBack ∈ tb := tbm_4 (List.mem_of_getElem? (i := 115) (by decide +kernel)) rfl
theorem co_X5_putsBack : Cond.code yX5_putsBack cX5_putsBack 1 none ∈ tb := tbm_4 (List.mem_of_getElem? (i := 116) (by decide +kernel)) rfl
theorem ml_L_67 : Cond.methodLink RL 67 yX5_brown ∈ tb := tbm_4 (List.mem_of_getElem? (i := 117) (by decide +kernel)) rfl
theorem im_X5_brown : Cond.instanceMethod yX5_brown ∈ tb := tbm_4 (List.mem_of_getElem? (i := 118) (by decide +kernel)) rfl
theorem se_X5_brown : Cond.selects RX5 yX5_brown yX5_brown ∈ tb := tbm_4 (List.mem_of_getElem? (i := 119) (by decide +kernel)) rfl
theorem co_X5_brown : Cond.code yX5_brown cX5_brown 4 (some FieldType.int) ∈ tb := tbm_4 (List.mem_of_getElem? (i := 120) (by decide +kernel)) rfl
theorem ct_X5_39 : Cond.constant RX5 39 (-1000000004) ∈ tb := tbm_4 (List.mem_of_getElem? (i := 121) (by decide +kernel)) rfl
theorem ml_L_71 : Cond.methodLink RL 71 yX5_burns ∈ tb := tbm_4 (List.mem_of_getElem? (i := 122) (by decide +kernel)) rfl
theorem im_X5_burns : Cond.instanceMethod yX5_burns ∈ tb := tbm_4 (List.mem_of_getElem? (i := 123) (by decide +kernel)) rfl
theorem se_X5_burns : Cond.selects RX5 yX5_burns yX5_burns ∈ tb := tbm_4 (List.mem_of_getElem? (i := 124) (by decide +kernel)) rfl
theorem co_X5_burns : Cond.code yX5_burns cX5_burns 4 (some FieldType.int) ∈ tb := tbm_4 (List.mem_of_getElem? (i := 125) (by decide +kernel)) rfl
theorem ml_L_75 : Cond.methodLink RL 75 yX5_even ∈ tb := tbm_4 (List.mem_of_getElem? (i := 126) (by decide +kernel)) rfl
theorem im_X5_even : Cond.instanceMethod yX5_even ∈ tb := tbm_4 (List.mem_of_getElem? (i := 127) (by decide +kernel)) rfl
theorem se_X5_even : Cond.selects RX5 yX5_even yX5_even ∈ tb := tbm_4 (List.mem_of_getElem? (i := 128) (by decide +kernel)) rfl
theorem co_X5_even : Cond.code yX5_even cX5_even 3 (some FieldType.int) ∈ tb := tbm_4 (List.mem_of_getElem? (i := 129) (by decide +kernel)) rfl
theorem ml_L_79 : Cond.methodLink RL 79 yX5_where ∈ tb := tbm_4 (List.mem_of_getElem? (i := 130) (by decide +kernel)) rfl
theorem im_X5_where : Cond.instanceMethod yX5_where ∈ tb := tbm_4 (List.mem_of_getElem? (i := 131) (by decide +kernel)) rfl
theorem se_X5_where : Cond.selects RX5 yX5_where yX5_where ∈ tb := tbm_4 (List.mem_of_getElem? (i := 132) (by decide +kernel)) rfl
theorem co_X5_where : Cond.code yX5_where cX5_where 7 (some FieldType.int) ∈ tb := tbm_4 (List.mem_of_getElem? (i := 133) (by decide +kernel)) rfl
theorem ml_X5_145 : Cond.methodLink RX5 145 yX5_brownOn ∈ tb := tbm_4 (List.mem_of_getElem? (i := 134) (by decide +kernel)) rfl
theorem im_X5_brownOn : Cond.instanceMethod yX5_brownOn ∈ tb := tbm_4 (List.mem_of_getElem? (i := 136) (by decide +kernel)) rfl
theorem co_X5_brownOn : Cond.code yX5_brownOn cX5_brownOn 4 (some FieldType.int) ∈ tb := tbm_4 (List.mem_of_getElem? (i := 137) (by decide +kernel)) rfl
theorem ml_L_83 : Cond.methodLink RL 83 yX5_change ∈ tb := tbm_4 (List.mem_of_getElem? (i := 138) (by decide +kernel)) rfl
theorem im_X5_change : Cond.instanceMethod yX5_change ∈ tb := tbm_4 (List.mem_of_getElem? (i := 139) (by decide +kernel)) rfl
theorem se_X5_change : Cond.selects RX5 yX5_change yX5_change ∈ tb := tbm_4 (List.mem_of_getElem? (i := 140) (by decide +kernel)) rfl
theorem co_X5_change : Cond.code yX5_change cX5_change 7 (some FieldType.int) ∈ tb := tbm_4 (List.mem_of_getElem? (i := 141) (by decide +kernel)) rfl
theorem ml_X5_148 : Cond.methodLink RX5 148 yX5_orNone ∈ tb := tbm_4 (List.mem_of_getElem? (i := 142) (by decide +kernel)) rfl
theorem im_X5_orNone : Cond.instanceMethod yX5_orNone ∈ tb := tbm_4 (List.mem_of_getElem? (i := 144) (by decide +kernel)) rfl
theorem co_X5_orNone : Cond.code yX5_orNone cX5_orNone 2 (some FieldType.int) ∈ tb := tbm_4 (List.mem_of_getElem? (i := 145) (by decide +kernel)) rfl
theorem ml_L_87 : Cond.methodLink RL 87 yX5_kind ∈ tb := tbm_4 (List.mem_of_getElem? (i := 146) (by decide +kernel)) rfl
theorem im_X5_kind : Cond.instanceMethod yX5_kind ∈ tb := tbm_4 (List.mem_of_getElem? (i := 147) (by decide +kernel)) rfl
theorem se_X5_kind : Cond.selects RX5 yX5_kind yX5_kind ∈ tb := tbm_4 (List.mem_of_getElem? (i := 148) (by decide +kernel)) rfl
theorem co_X5_kind : Cond.code yX5_kind cX5_kind 7 (some FieldType.int) ∈ tb := tbm_4 (List.mem_of_getElem? (i := 149) (by decide +kernel)) rfl
theorem ml_L_91 : Cond.methodLink RL 91 yX5_send ∈ tb := tbm_4 (List.mem_of_getElem? (i := 150) (by decide +kernel)) rfl
theorem im_X5_send : Cond.instanceMethod yX5_send ∈ tb := tbm_4 (List.mem_of_getElem? (i := 151) (by decide +kernel)) rfl
theorem se_X5_send : Cond.selects RX5 yX5_send yX5_send ∈ tb := tbm_4 (List.mem_of_getElem? (i := 152) (by decide +kernel)) rfl
theorem co_X5_send : Cond.code yX5_send cX5_send 7 (some FieldType.int) ∈ tb := tbm_4 (List.mem_of_getElem? (i := 153) (by decide +kernel)) rfl
theorem ml_L_95 : Cond.methodLink RL 95 yX5_cloud ∈ tb := tbm_4 (List.mem_of_getElem? (i := 154) (by decide +kernel)) rfl
theorem im_X5_cloud : Cond.instanceMethod yX5_cloud ∈ tb := tbm_4 (List.mem_of_getElem? (i := 155) (by decide +kernel)) rfl
theorem se_X5_cloud : Cond.selects RX5 yX5_cloud yX5_cloud ∈ tb := tbm_4 (List.mem_of_getElem? (i := 156) (by decide +kernel)) rfl
theorem co_X5_cloud : Cond.code yX5_cloud cX5_cloud 7 (some FieldType.int) ∈ tb := tbm_4 (List.mem_of_getElem? (i := 157) (by decide +kernel)) rfl
theorem ml_L_100 : Cond.methodLink RL 100 yX5_enough ∈ tb := tbm_4 (List.mem_of_getElem? (i := 158) (by decide +kernel)) rfl
theorem im_X5_enough : Cond.instanceMethod yX5_enough ∈ tb := tbm_4 (List.mem_of_getElem? (i := 159) (by decide +kernel)) rfl
theorem se_X5_enough : Cond.selects RX5 yX5_enough yX5_enough ∈ tb := tbm_4 (List.mem_of_getElem? (i := 160) (by decide +kernel)) rfl
theorem co_X5_enough : Cond.code yX5_enough cX5_enough 7 (some FieldType.int) ∈ tb := tbm_4 (List.mem_of_getElem? (i := 161) (by decide +kernel)) rfl
theorem ml_X5_151 : Cond.methodLink RX5 151 yX5_areTwo ∈ tb := tbm_4 (List.mem_of_getElem? (i := 162) (by decide +kernel)) rfl
theorem im_X5_areTwo : Cond.instanceMethod yX5_areTwo ∈ tb := tbm_4 (List.mem_of_getElem? (i := 164) (by decide +kernel)) rfl
theorem co_X5_areTwo : Cond.code yX5_areTwo cX5_areTwo 3 (some FieldType.boolean) ∈ tb := tbm_4 (List.mem_of_getElem? (i := 165) (by decide +kernel)) rfl
theorem ml_L_104 : Cond.methodLink RL 104 yX5_brownest ∈ tb := tbm_4 (List.mem_of_getElem? (i := 166) (by decide +kernel)) rfl
theorem im_X5_brownest : Cond.instanceMethod yX5_brownest ∈ tb := tbm_4 (List.mem_of_getElem? (i := 167) (by decide +kernel)) rfl
theorem se_X5_brownest : Cond.selects RX5 yX5_brownest yX5_brownest ∈ tb := tbm_4 (List.mem_of_getElem? (i := 168) (by decide +kernel)) rfl
theorem co_X5_brownest : Cond.code yX5_brownest cX5_brownest 4 (some FieldType.int) ∈ tb := tbm_4 (List.mem_of_getElem? (i := 169) (by decide +kernel)) rfl
theorem ml_L_108 : Cond.methodLink RL 108 yX5_feed ∈ tb := tbm_4 (List.mem_of_getElem? (i := 170) (by decide +kernel)) rfl
theorem im_X5_feed : Cond.instanceMethod yX5_feed ∈ tb := tbm_4 (List.mem_of_getElem? (i := 171) (by decide +kernel)) rfl
theorem se_X5_feed : Cond.selects RX5 yX5_feed yX5_feed ∈ tb := tbm_4 (List.mem_of_getElem? (i := 172) (by decide +kernel)) rfl
theorem co_X5_feed : Cond.code yX5_feed cX5_feed 4 (some FieldType.int) ∈ tb := tbm_4 (List.mem_of_getElem? (i := 173) (by decide +kernel)) rfl
theorem ml_L_113 : Cond.methodLink RL 113 yX5_wipe ∈ tb := tbm_4 (List.mem_of_getElem? (i := 174) (by decide +kernel)) rfl
theorem im_X5_wipe : Cond.instanceMethod yX5_wipe ∈ tb := tbm_4 (List.mem_of_getElem? (i := 175) (by decide +kernel)) rfl
theorem se_X5_wipe : Cond.selects RX5 yX5_wipe yX5_wipe ∈ tb := tbm_4 (List.mem_of_getElem? (i := 176) (by decide +kernel)) rfl
theorem co_X5_wipe : Cond.code yX5_wipe cX5_wipe 2 (some FieldType.int) ∈ tb := tbm_4 (List.mem_of_getElem? (i := 177) (by decide +kernel)) rfl
theorem ml_L_117 : Cond.methodLink RL 117 yX5_esplanade ∈ tb := tbm_4 (List.mem_of_getElem? (i := 178) (by decide +kernel)) rfl
theorem im_X5_esplanade : Cond.instanceMethod yX5_esplanade ∈ tb := tbm_4 (List.mem_of_getElem? (i := 179) (by decide +kernel)) rfl
theorem se_X5_esplanade : Cond.selects RX5 yX5_esplanade yX5_esplanade ∈ tb := tbm_4 (List.mem_of_getElem? (i := 180) (by decide +kernel)) rfl
theorem co_X5_esplanade : Cond.code yX5_esplanade cX5_esplanade 2 (some FieldType.int) ∈ tb := tbm_4 (List.mem_of_getElem? (i := 181) (by decide +kernel)) rfl
theorem ml_X5_187 : Cond.methodLink RX5 187 yX5_reads ∈ tb := tbm_4 (List.mem_of_getElem? (i := 182) (by decide +kernel)) rfl
theorem im_X5_reads : Cond.instanceMethod yX5_reads ∈ tb := tbm_4 (List.mem_of_getElem? (i := 184) (by decide +kernel)) rfl
theorem co_X5_reads : Cond.code yX5_reads cX5_reads 1 none ∈ tb := tbm_4 (List.mem_of_getElem? (i := 185) (by decide +kernel)) rfl
theorem ml_X5_170 : Cond.methodLink RX5 170 yX5_isByte ∈ tb := tbm_4 (List.mem_of_getElem? (i := 186) (by decide +kernel)) rfl
theorem im_X5_isByte : Cond.instanceMethod yX5_isByte ∈ tb := tbm_4 (List.mem_of_getElem? (i := 188) (by decide +kernel)) rfl
theorem co_X5_isByte : Cond.code yX5_isByte cX5_isByte 4 (some FieldType.boolean) ∈ tb := tbm_4 (List.mem_of_getElem? (i := 189) (by decide +kernel)) rfl
theorem ml_X5_180 : Cond.methodLink RX5 180 yX5_wordHere ∈ tb := tbm_4 (List.mem_of_getElem? (i := 190) (by decide +kernel)) rfl
theorem im_X5_wordHere : Cond.instanceMethod yX5_wordHere ∈ tb := tbm_4 (List.mem_of_getElem? (i := 192) (by decide +kernel)) rfl
theorem co_X5_wordHere : Cond.code yX5_wordHere cX5_wordHere 2 (some FieldType.int) ∈ tb := tbm_4 (List.mem_of_getElem? (i := 193) (by decide +kernel)) rfl
theorem ml_X5_167 : Cond.methodLink RX5 167 yX5_isName ∈ tb := tbm_4 (List.mem_of_getElem? (i := 194) (by decide +kernel)) rfl
theorem im_X5_isName : Cond.instanceMethod yX5_isName ∈ tb := tbm_4 (List.mem_of_getElem? (i := 196) (by decide +kernel)) rfl
theorem co_X5_isName : Cond.code yX5_isName cX5_isName 5 (some FieldType.boolean) ∈ tb := tbm_4 (List.mem_of_getElem? (i := 197) (by decide +kernel)) rfl
theorem fl_X5_158 : Cond.fieldLink RX5 158 "TanRowModel" "NAMES" "[I" ∈ tb := tbm_4 (List.mem_of_getElem? (i := 198) (by decide +kernel)) rfl
theorem ml_X5_206 : Cond.methodLink RX5 206 yX5_item ∈ tb := tbm_4 (List.mem_of_getElem? (i := 200) (by decide +kernel)) rfl
theorem im_X5_item : Cond.instanceMethod yX5_item ∈ tb := tbm_4 (List.mem_of_getElem? (i := 202) (by decide +kernel)) rfl
theorem co_X5_item : Cond.code yX5_item cX5_item 2 none ∈ tb := tbm_4 (List.mem_of_getElem? (i := 203) (by decide +kernel)) rfl
theorem ml_X5_200 : Cond.methodLink RX5 200 yX5_personItem ∈ tb := tbm_4 (List.mem_of_getElem? (i := 204) (by decide +kernel)) rfl
theorem im_X5_personItem : Cond.instanceMethod yX5_personItem ∈ tb := tbm_4 (List.mem_of_getElem? (i := 206) (by decide +kernel)) rfl
theorem co_X5_personItem : Cond.code yX5_personItem cX5_personItem 5 none ∈ tb := tbm_4 (List.mem_of_getElem? (i := 207) (by decide +kernel)) rfl
theorem ml_X5_196 : Cond.methodLink RX5 196 yX5_perhaps ∈ tb := tbm_4 (List.mem_of_getElem? (i := 208) (by decide +kernel)) rfl
theorem im_X5_perhaps : Cond.instanceMethod yX5_perhaps ∈ tb := tbm_4 (List.mem_of_getElem? (i := 210) (by decide +kernel)) rfl
theorem co_X5_perhaps : Cond.code yX5_perhaps cX5_perhaps 5 (some FieldType.int) ∈ tb := tbm_4 (List.mem_of_getElem? (i := 211) (by decide +kernel)) rfl
theorem ml_X5_190 : Cond.methodLink RX5 190 yX5_passes ∈ tb := tbm_4 (List.mem_of_getElem? (i := 212) (by decide +kernel)) rfl
theorem im_X5_passes : Cond.instanceMethod yX5_passes ∈ tb := tbm_4 (List.mem_of_getElem? (i := 214) (by decide +kernel)) rfl
theorem co_X5_passes : Cond.code yX5_passes cX5_passes 2 (some FieldType.boolean) ∈ tb := tbm_4 (List.mem_of_getElem? (i := 215) (by decide +kernel)) rfl
theorem ml_X5_193 : Cond.methodLink RX5 193 yX5_number ∈ tb := tbm_4 (List.mem_of_getElem? (i := 216) (by decide +kernel)) rfl
theorem im_X5_number : Cond.instanceMethod yX5_number ∈ tb := tbm_4 (List.mem_of_getElem? (i := 218) (by decide +kernel)) rfl
theorem co_X5_number : Cond.code yX5_number cX5_number 4 (some FieldType.int) ∈ tb := tbm_4 (List.mem_of_getElem? (i := 219) (by decide +kernel)) rfl
theorem ml_X5_203 : Cond.methodLink RX5 203 yX5_sunItem ∈ tb := tbm_4 (List.mem_of_getElem? (i := 220) (by decide +kernel)) rfl
theorem im_X5_sunItem : Cond.instanceMethod yX5_sunItem ∈ tb := tbm_4 (List.mem_of_getElem? (i := 222) (by decide +kernel)) rfl
theorem co_X5_sunItem : Cond.code yX5_sunItem cX5_sunItem 3 none ∈ tb := tbm_4 (List.mem_of_getElem? (i := 223) (by decide +kernel)) rfl
theorem ml_L_121 : Cond.methodLink RL 121 yX5_sheet ∈ tb := tbm_4 (List.mem_of_getElem? (i := 224) (by decide +kernel)) rfl
theorem im_X5_sheet : Cond.instanceMethod yX5_sheet ∈ tb := tbm_4 (List.mem_of_getElem? (i := 225) (by decide +kernel)) rfl
theorem se_X5_sheet : Cond.selects RX5 yX5_sheet yX5_sheet ∈ tb := tbm_4 (List.mem_of_getElem? (i := 226) (by decide +kernel)) rfl
theorem co_X5_sheet : Cond.code yX5_sheet cX5_sheet 5 (some FieldType.int) ∈ tb := tbm_4 (List.mem_of_getElem? (i := 227) (by decide +kernel)) rfl
theorem ml_X5_209 : Cond.methodLink RX5 209 yX5_isSheet ∈ tb := tbm_4 (List.mem_of_getElem? (i := 228) (by decide +kernel)) rfl
theorem st_X5_isSheet : Cond.static yX5_isSheet ∈ tb := tbm_4 (List.mem_of_getElem? (i := 229) (by decide +kernel)) rfl
theorem co_X5_isSheet : Cond.code yX5_isSheet cX5_isSheet 1 (some FieldType.boolean) ∈ tb := tbm_4 (List.mem_of_getElem? (i := 230) (by decide +kernel)) rfl
theorem ct_X5_212 : Cond.constant RX5 212 (-1000000007) ∈ tb := tbm_4 (List.mem_of_getElem? (i := 231) (by decide +kernel)) rfl
theorem ml_L_128 : Cond.methodLink RL 128 yX5_write ∈ tb := tbm_4 (List.mem_of_getElem? (i := 232) (by decide +kernel)) rfl
theorem im_X5_write : Cond.instanceMethod yX5_write ∈ tb := tbm_4 (List.mem_of_getElem? (i := 233) (by decide +kernel)) rfl
theorem se_X5_write : Cond.selects RX5 yX5_write yX5_write ∈ tb := tbm_4 (List.mem_of_getElem? (i := 234) (by decide +kernel)) rfl
theorem co_X5_write : Cond.code yX5_write cX5_write 8 (some FieldType.long) ∈ tb := tbm_4 (List.mem_of_getElem? (i := 235) (by decide +kernel)) rfl
theorem ml_X5_214 : Cond.methodLink RX5 214 yX5_notThere ∈ tb := tbm_4 (List.mem_of_getElem? (i := 236) (by decide +kernel)) rfl
theorem im_X5_notThere : Cond.instanceMethod yX5_notThere ∈ tb := tbm_4 (List.mem_of_getElem? (i := 238) (by decide +kernel)) rfl
theorem co_X5_notThere : Cond.code yX5_notThere cX5_notThere 2 (some FieldType.int) ∈ tb := tbm_4 (List.mem_of_getElem? (i := 239) (by decide +kernel)) rfl
theorem ct_X5_213 : Cond.constant RX5 213 (-1000000006) ∈ tb := tbm_5 (List.mem_of_getElem? (i := 0) (by decide +kernel)) rfl
theorem ml_X5_217 : Cond.methodLink RX5 217 yX5_cutTo ∈ tb := tbm_5 (List.mem_of_getElem? (i := 1) (by decide +kernel)) rfl
theorem st_X5_cutTo : Cond.static yX5_cutTo ∈ tb := tbm_5 (List.mem_of_getElem? (i := 2) (by decide +kernel)) rfl
theorem co_X5_cutTo : Cond.code yX5_cutTo cX5_cutTo 3 (some FieldType.long) ∈ tb := tbm_5 (List.mem_of_getElem? (i := 3) (by decide +kernel)) rfl
theorem ml_L_133 : Cond.methodLink RL 133 yX5_copy ∈ tb := tbm_5 (List.mem_of_getElem? (i := 4) (by decide +kernel)) rfl
theorem im_X5_copy : Cond.instanceMethod yX5_copy ∈ tb := tbm_5 (List.mem_of_getElem? (i := 5) (by decide +kernel)) rfl
theorem se_X5_copy : Cond.selects RX5 yX5_copy yX5_copy ∈ tb := tbm_5 (List.mem_of_getElem? (i := 6) (by decide +kernel)) rfl
theorem co_X5_copy : Cond.code yX5_copy cX5_copy 9 (some FieldType.int) ∈ tb := tbm_5 (List.mem_of_getElem? (i := 7) (by decide +kernel)) rfl
theorem ml_X5_221 : Cond.methodLink RX5 221 yX5_notCopied ∈ tb := tbm_5 (List.mem_of_getElem? (i := 8) (by decide +kernel)) rfl
theorem im_X5_notCopied : Cond.instanceMethod yX5_notCopied ∈ tb := tbm_5 (List.mem_of_getElem? (i := 10) (by decide +kernel)) rfl
theorem co_X5_notCopied : Cond.code yX5_notCopied cX5_notCopied 7 (some FieldType.int) ∈ tb := tbm_5 (List.mem_of_getElem? (i := 11) (by decide +kernel)) rfl
theorem ml_L_137 : Cond.methodLink RL 137 yX5_lays ∈ tb := tbm_5 (List.mem_of_getElem? (i := 12) (by decide +kernel)) rfl
theorem im_X5_lays : Cond.instanceMethod yX5_lays ∈ tb := tbm_5 (List.mem_of_getElem? (i := 13) (by decide +kernel)) rfl
theorem se_X5_lays : Cond.selects RX5 yX5_lays yX5_lays ∈ tb := tbm_5 (List.mem_of_getElem? (i := 14) (by decide +kernel)) rfl
theorem co_X5_lays : Cond.code yX5_lays cX5_lays 5 (some FieldType.int) ∈ tb := tbm_5 (List.mem_of_getElem? (i := 15) (by decide +kernel)) rfl
theorem ml_L_141 : Cond.methodLink RL 141 yX5_book ∈ tb := tbm_5 (List.mem_of_getElem? (i := 16) (by decide +kernel)) rfl
theorem im_X5_book : Cond.instanceMethod yX5_book ∈ tb := tbm_5 (List.mem_of_getElem? (i := 17) (by decide +kernel)) rfl
theorem se_X5_book : Cond.selects RX5 yX5_book yX5_book ∈ tb := tbm_5 (List.mem_of_getElem? (i := 18) (by decide +kernel)) rfl
theorem co_X5_book : Cond.code yX5_book cX5_book 5 (some FieldType.int) ∈ tb := tbm_5 (List.mem_of_getElem? (i := 19) (by decide +kernel)) rfl
theorem ml_L_145 : Cond.methodLink RL 145 yX5_read ∈ tb := tbm_5 (List.mem_of_getElem? (i := 20) (by decide +kernel)) rfl
theorem im_X5_read : Cond.instanceMethod yX5_read ∈ tb := tbm_5 (List.mem_of_getElem? (i := 21) (by decide +kernel)) rfl
theorem se_X5_read : Cond.selects RX5 yX5_read yX5_read ∈ tb := tbm_5 (List.mem_of_getElem? (i := 22) (by decide +kernel)) rfl
theorem co_X5_read : Cond.code yX5_read cX5_read 7 (some FieldType.int) ∈ tb := tbm_5 (List.mem_of_getElem? (i := 23) (by decide +kernel)) rfl
theorem ml_X5_225 : Cond.methodLink RX5 225 yX5_isBook ∈ tb := tbm_5 (List.mem_of_getElem? (i := 24) (by decide +kernel)) rfl
theorem im_X5_isBook : Cond.instanceMethod yX5_isBook ∈ tb := tbm_5 (List.mem_of_getElem? (i := 26) (by decide +kernel)) rfl
theorem co_X5_isBook : Cond.code yX5_isBook cX5_isBook 5 (some FieldType.boolean) ∈ tb := tbm_5 (List.mem_of_getElem? (i := 27) (by decide +kernel)) rfl
theorem ml_L_149 : Cond.methodLink RL 149 yX5_image ∈ tb := tbm_5 (List.mem_of_getElem? (i := 28) (by decide +kernel)) rfl
theorem im_X5_image : Cond.instanceMethod yX5_image ∈ tb := tbm_5 (List.mem_of_getElem? (i := 29) (by decide +kernel)) rfl
theorem se_X5_image : Cond.selects RX5 yX5_image yX5_image ∈ tb := tbm_5 (List.mem_of_getElem? (i := 30) (by decide +kernel)) rfl
theorem co_X5_image : Cond.code yX5_image cX5_image 1 (some FieldType.int) ∈ tb := tbm_5 (List.mem_of_getElem? (i := 31) (by decide +kernel)) rfl
theorem ml_L_153 : Cond.methodLink RL 153 yX5_undo ∈ tb := tbm_5 (List.mem_of_getElem? (i := 32) (by decide +kernel)) rfl
theorem im_X5_undo : Cond.instanceMethod yX5_undo ∈ tb := tbm_5 (List.mem_of_getElem? (i := 33) (by decide +kernel)) rfl
theorem se_X5_undo : Cond.selects RX5 yX5_undo yX5_undo ∈ tb := tbm_5 (List.mem_of_getElem? (i := 34) (by decide +kernel)) rfl
theorem co_X5_undo : Cond.code yX5_undo cX5_undo 1 (some FieldType.int) ∈ tb := tbm_5 (List.mem_of_getElem? (i := 35) (by decide +kernel)) rfl
theorem ml_L_157 : Cond.methodLink RL 157 yX5_tear ∈ tb := tbm_5 (List.mem_of_getElem? (i := 36) (by decide +kernel)) rfl
theorem im_X5_tear : Cond.instanceMethod yX5_tear ∈ tb := tbm_5 (List.mem_of_getElem? (i := 37) (by decide +kernel)) rfl
theorem se_X5_tear : Cond.selects RX5 yX5_tear yX5_tear ∈ tb := tbm_5 (List.mem_of_getElem? (i := 38) (by decide +kernel)) rfl
theorem co_X5_tear : Cond.code yX5_tear cX5_tear 2 (some FieldType.int) ∈ tb := tbm_5 (List.mem_of_getElem? (i := 39) (by decide +kernel)) rfl
theorem ml_L_161 : Cond.methodLink RL 161 yX5_count ∈ tb := tbm_5 (List.mem_of_getElem? (i := 40) (by decide +kernel)) rfl
theorem im_X5_count : Cond.instanceMethod yX5_count ∈ tb := tbm_5 (List.mem_of_getElem? (i := 41) (by decide +kernel)) rfl
theorem se_X5_count : Cond.selects RX5 yX5_count yX5_count ∈ tb := tbm_5 (List.mem_of_getElem? (i := 42) (by decide +kernel)) rfl
theorem co_X5_count : Cond.code yX5_count cX5_count 2 (some FieldType.int) ∈ tb := tbm_5 (List.mem_of_getElem? (i := 43) (by decide +kernel)) rfl
theorem ml_X5_231 : Cond.methodLink RX5 231 yX5_howManySit ∈ tb := tbm_5 (List.mem_of_getElem? (i := 44) (by decide +kernel)) rfl
theorem im_X5_howManySit : Cond.instanceMethod yX5_howManySit ∈ tb := tbm_5 (List.mem_of_getElem? (i := 46) (by decide +kernel)) rfl
theorem co_X5_howManySit : Cond.code yX5_howManySit cX5_howManySit 3 (some FieldType.int) ∈ tb := tbm_5 (List.mem_of_getElem? (i := 47) (by decide +kernel)) rfl
theorem ml_X5_234 : Cond.methodLink RX5 234 yX5_allSun ∈ tb := tbm_5 (List.mem_of_getElem? (i := 48) (by decide +kernel)) rfl
theorem im_X5_allSun : Cond.instanceMethod yX5_allSun ∈ tb := tbm_5 (List.mem_of_getElem? (i := 50) (by decide +kernel)) rfl
theorem co_X5_allSun : Cond.code yX5_allSun cX5_allSun 3 (some FieldType.int) ∈ tb := tbm_5 (List.mem_of_getElem? (i := 51) (by decide +kernel)) rfl
theorem ml_L_165 : Cond.methodLink RL 165 yX5_status ∈ tb := tbm_5 (List.mem_of_getElem? (i := 52) (by decide +kernel)) rfl
theorem im_X5_status : Cond.instanceMethod yX5_status ∈ tb := tbm_5 (List.mem_of_getElem? (i := 53) (by decide +kernel)) rfl
theorem se_X5_status : Cond.selects RX5 yX5_status yX5_status ∈ tb := tbm_5 (List.mem_of_getElem? (i := 54) (by decide +kernel)) rfl
theorem co_X5_status : Cond.code yX5_status cX5_status 4 (some FieldType.int) ∈ tb := tbm_5 (List.mem_of_getElem? (i := 55) (by decide +kernel)) rfl
theorem ct_L_122 : Cond.constantLong RL 122 (4294967295) ∈ tb := tbm_5 (List.mem_of_getElem? (i := 56) (by decide +kernel)) rfl
theorem fl_J0_9 : Cond.fieldLink RJ0 9 "java/lang/String" "value" "[B" ∈ tb := tbm_5 (List.mem_of_getElem? (i := 57) (by decide +kernel)) rfl
theorem fl_J0_15 : Cond.fieldLink RJ0 15 "java/lang/String" "coder" "B" ∈ tb := tbm_5 (List.mem_of_getElem? (i := 58) (by decide +kernel)) rfl
theorem se_X4_finding : Cond.selects RX4 yX4_finding yX4_finding ∈ tb := tbm_0 (List.mem_of_getElem? (i := 0) (by decide +kernel)) rfl
theorem se_X4_isPerson : Cond.selects RX4 yX4_isPerson yX4_isPerson ∈ tb := tbm_0 (List.mem_of_getElem? (i := 1) (by decide +kernel)) rfl
theorem se_X1_browned : Cond.selects RX1 yX1_browned yX1_browned ∈ tb := tbm_0 (List.mem_of_getElem? (i := 2) (by decide +kernel)) rfl
theorem se_X1_burn : Cond.selects RX1 yX1_burn yX1_burn ∈ tb := tbm_0 (List.mem_of_getElem? (i := 3) (by decide +kernel)) rfl
theorem se_X4_startTrial : Cond.selects RX4 yX4_startTrial yX4_startTrial ∈ tb := tbm_0 (List.mem_of_getElem? (i := 4) (by decide +kernel)) rfl
theorem se_X4_brownWith : Cond.selects RX4 yX4_brownWith yX4_brownWith ∈ tb := tbm_0 (List.mem_of_getElem? (i := 5) (by decide +kernel)) rfl
theorem se_X2_advance : Cond.selects RX2 yX2_advance yX2_advance ∈ tb := tbm_0 (List.mem_of_getElem? (i := 6) (by decide +kernel)) rfl
theorem se_X2_passWord : Cond.selects RX2 yX2_passWord yX2_passWord ∈ tb := tbm_0 (List.mem_of_getElem? (i := 7) (by decide +kernel)) rfl
theorem se_X2_passNumber : Cond.selects RX2 yX2_passNumber yX2_passNumber ∈ tb := tbm_0 (List.mem_of_getElem? (i := 8) (by decide +kernel)) rfl
theorem se_X2_readItem : Cond.selects RX2 yX2_readItem yX2_readItem ∈ tb := tbm_0 (List.mem_of_getElem? (i := 9) (by decide +kernel)) rfl
theorem se_X2_isWord : Cond.selects RX2 yX2_isWord yX2_isWord ∈ tb := tbm_0 (List.mem_of_getElem? (i := 10) (by decide +kernel)) rfl
theorem se_X2_readSun : Cond.selects RX2 yX2_readSun yX2_readSun ∈ tb := tbm_0 (List.mem_of_getElem? (i := 11) (by decide +kernel)) rfl
theorem se_X2_isNumberTo : Cond.selects RX2 yX2_isNumberTo yX2_isNumberTo ∈ tb := tbm_0 (List.mem_of_getElem? (i := 12) (by decide +kernel)) rfl
theorem se_X2_readGoes : Cond.selects RX2 yX2_readGoes yX2_readGoes ∈ tb := tbm_0 (List.mem_of_getElem? (i := 13) (by decide +kernel)) rfl
theorem se_X2_kindNamed : Cond.selects RX2 yX2_kindNamed yX2_kindNamed ∈ tb := tbm_0 (List.mem_of_getElem? (i := 14) (by decide +kernel)) rfl
theorem se_X2_readPerson : Cond.selects RX2 yX2_readPerson yX2_readPerson ∈ tb := tbm_0 (List.mem_of_getElem? (i := 15) (by decide +kernel)) rfl
theorem se_X4_sheetAt : Cond.selects RX4 yX4_sheetAt yX4_sheetAt ∈ tb := tbm_0 (List.mem_of_getElem? (i := 16) (by decide +kernel)) rfl
theorem se_X4_trialGoesAs : Cond.selects RX4 yX4_trialGoesAs yX4_trialGoesAs ∈ tb := tbm_0 (List.mem_of_getElem? (i := 17) (by decide +kernel)) rfl
theorem se_X5_becomes : Cond.selects RX5 yX5_becomes yX5_becomes ∈ tb := tbm_0 (List.mem_of_getElem? (i := 18) (by decide +kernel)) rfl
theorem se_X5_finds : Cond.selects RX5 yX5_finds yX5_finds ∈ tb := tbm_0 (List.mem_of_getElem? (i := 19) (by decide +kernel)) rfl
theorem se_X5_onChair : Cond.selects RX5 yX5_onChair yX5_onChair ∈ tb := tbm_0 (List.mem_of_getElem? (i := 20) (by decide +kernel)) rfl
theorem se_X5_it : Cond.selects RX5 yX5_it yX5_it ∈ tb := tbm_0 (List.mem_of_getElem? (i := 21) (by decide +kernel)) rfl
theorem se_X5_sunNow : Cond.selects RX5 yX5_sunNow yX5_sunNow ∈ tb := tbm_0 (List.mem_of_getElem? (i := 22) (by decide +kernel)) rfl
theorem se_X5_sitters : Cond.selects RX5 yX5_sitters yX5_sitters ∈ tb := tbm_0 (List.mem_of_getElem? (i := 23) (by decide +kernel)) rfl
theorem se_X5_sits : Cond.selects RX5 yX5_sits yX5_sits ∈ tb := tbm_0 (List.mem_of_getElem? (i := 24) (by decide +kernel)) rfl
theorem se_X5_evenOnes : Cond.selects RX5 yX5_evenOnes yX5_evenOnes ∈ tb := tbm_0 (List.mem_of_getElem? (i := 25) (by decide +kernel)) rfl
theorem se_X5_isEven : Cond.selects RX5 yX5_isEven yX5_isEven ∈ tb := tbm_0 (List.mem_of_getElem? (i := 26) (by decide +kernel)) rfl
theorem se_X5_allBrown : Cond.selects RX5 yX5_allBrown yX5_allBrown ∈ tb := tbm_0 (List.mem_of_getElem? (i := 27) (by decide +kernel)) rfl
theorem se_X5_sums : Cond.selects RX5 yX5_sums yX5_sums ∈ tb := tbm_0 (List.mem_of_getElem? (i := 28) (by decide +kernel)) rfl
theorem se_X5_comesAs : Cond.selects RX5 yX5_comesAs yX5_comesAs ∈ tb := tbm_0 (List.mem_of_getElem? (i := 29) (by decide +kernel)) rfl
theorem se_X5_put : Cond.selects RX5 yX5_put yX5_put ∈ tb := tbm_0 (List.mem_of_getElem? (i := 30) (by decide +kernel)) rfl
theorem se_X5_isPerson : Cond.selects RX5 yX5_isPerson yX5_isPerson ∈ tb := tbm_0 (List.mem_of_getElem? (i := 31) (by decide +kernel)) rfl
theorem se_X5_fades : Cond.selects RX5 yX5_fades yX5_fades ∈ tb := tbm_0 (List.mem_of_getElem? (i := 32) (by decide +kernel)) rfl
theorem se_X5_beside : Cond.selects RX5 yX5_beside yX5_beside ∈ tb := tbm_0 (List.mem_of_getElem? (i := 33) (by decide +kernel)) rfl
theorem se_X5_burnsFrom : Cond.selects RX5 yX5_burnsFrom yX5_burnsFrom ∈ tb := tbm_0 (List.mem_of_getElem? (i := 34) (by decide +kernel)) rfl
theorem se_X5_brownOf : Cond.selects RX5 yX5_brownOf yX5_brownOf ∈ tb := tbm_0 (List.mem_of_getElem? (i := 35) (by decide +kernel)) rfl
theorem se_X5_isFreeFor : Cond.selects RX5 yX5_isFreeFor yX5_isFreeFor ∈ tb := tbm_0 (List.mem_of_getElem? (i := 36) (by decide +kernel)) rfl
theorem se_X5_givenTo : Cond.selects RX5 yX5_givenTo yX5_givenTo ∈ tb := tbm_0 (List.mem_of_getElem? (i := 37) (by decide +kernel)) rfl
theorem se_X5_glows : Cond.selects RX5 yX5_glows yX5_glows ∈ tb := tbm_0 (List.mem_of_getElem? (i := 38) (by decide +kernel)) rfl
theorem se_X5_goesFor : Cond.selects RX5 yX5_goesFor yX5_goesFor ∈ tb := tbm_0 (List.mem_of_getElem? (i := 39) (by decide +kernel)) rfl
theorem se_X5_goes : Cond.selects RX5 yX5_goes yX5_goes ∈ tb := tbm_0 (List.mem_of_getElem? (i := 40) (by decide +kernel)) rfl
theorem se_X5_browns : Cond.selects RX5 yX5_browns yX5_browns ∈ tb := tbm_0 (List.mem_of_getElem? (i := 41) (by decide +kernel)) rfl
theorem se_X5_takesOf : Cond.selects RX5 yX5_takesOf yX5_takesOf ∈ tb := tbm_0 (List.mem_of_getElem? (i := 42) (by decide +kernel)) rfl
theorem se_X5_thinks : Cond.selects RX5 yX5_thinks yX5_thinks ∈ tb := tbm_0 (List.mem_of_getElem? (i := 43) (by decide +kernel)) rfl
theorem se_X5_putsBack : Cond.selects RX5 yX5_putsBack yX5_putsBack ∈ tb := tbm_0 (List.mem_of_getElem? (i := 44) (by decide +kernel)) rfl
theorem se_X5_brownOn : Cond.selects RX5 yX5_brownOn yX5_brownOn ∈ tb := tbm_0 (List.mem_of_getElem? (i := 45) (by decide +kernel)) rfl
theorem se_X5_orNone : Cond.selects RX5 yX5_orNone yX5_orNone ∈ tb := tbm_0 (List.mem_of_getElem? (i := 46) (by decide +kernel)) rfl
theorem se_X5_areTwo : Cond.selects RX5 yX5_areTwo yX5_areTwo ∈ tb := tbm_0 (List.mem_of_getElem? (i := 47) (by decide +kernel)) rfl
theorem se_X5_reads : Cond.selects RX5 yX5_reads yX5_reads ∈ tb := tbm_0 (List.mem_of_getElem? (i := 48) (by decide +kernel)) rfl
theorem se_X5_isByte : Cond.selects RX5 yX5_isByte yX5_isByte ∈ tb := tbm_0 (List.mem_of_getElem? (i := 49) (by decide +kernel)) rfl
theorem se_X5_wordHere : Cond.selects RX5 yX5_wordHere yX5_wordHere ∈ tb := tbm_0 (List.mem_of_getElem? (i := 50) (by decide +kernel)) rfl
theorem se_X5_isName : Cond.selects RX5 yX5_isName yX5_isName ∈ tb := tbm_0 (List.mem_of_getElem? (i := 51) (by decide +kernel)) rfl
theorem se_X5_item : Cond.selects RX5 yX5_item yX5_item ∈ tb := tbm_0 (List.mem_of_getElem? (i := 52) (by decide +kernel)) rfl
theorem se_X5_personItem : Cond.selects RX5 yX5_personItem yX5_personItem ∈ tb := tbm_0 (List.mem_of_getElem? (i := 53) (by decide +kernel)) rfl
theorem se_X5_perhaps : Cond.selects RX5 yX5_perhaps yX5_perhaps ∈ tb := tbm_0 (List.mem_of_getElem? (i := 54) (by decide +kernel)) rfl
theorem se_X5_passes : Cond.selects RX5 yX5_passes yX5_passes ∈ tb := tbm_0 (List.mem_of_getElem? (i := 55) (by decide +kernel)) rfl
theorem se_X5_number : Cond.selects RX5 yX5_number yX5_number ∈ tb := tbm_0 (List.mem_of_getElem? (i := 56) (by decide +kernel)) rfl
theorem se_X5_sunItem : Cond.selects RX5 yX5_sunItem yX5_sunItem ∈ tb := tbm_0 (List.mem_of_getElem? (i := 57) (by decide +kernel)) rfl
theorem se_X5_notThere : Cond.selects RX5 yX5_notThere yX5_notThere ∈ tb := tbm_0 (List.mem_of_getElem? (i := 58) (by decide +kernel)) rfl
theorem se_X5_notCopied : Cond.selects RX5 yX5_notCopied yX5_notCopied ∈ tb := tbm_0 (List.mem_of_getElem? (i := 59) (by decide +kernel)) rfl
theorem se_X5_isBook : Cond.selects RX5 yX5_isBook yX5_isBook ∈ tb := tbm_0 (List.mem_of_getElem? (i := 60) (by decide +kernel)) rfl
theorem se_X5_howManySit : Cond.selects RX5 yX5_howManySit yX5_howManySit ∈ tb := tbm_0 (List.mem_of_getElem? (i := 61) (by decide +kernel)) rfl
theorem se_X5_allSun : Cond.selects RX5 yX5_allSun yX5_allSun ∈ tb := tbm_0 (List.mem_of_getElem? (i := 62) (by decide +kernel)) rfl
theorem inX0 : ∀ w ∈ wsX00, w ∈ tb := by decide +kernel
theorem inX1 : ∀ w ∈ wsX10, w ∈ tb := by decide +kernel
theorem inX2 : ∀ w ∈ wsX20, w ∈ tb := by decide +kernel
theorem inX4 : ∀ w ∈ wsX40, w ∈ tb := by decide +kernel
theorem inX5 : ∀ w ∈ wsX50, w ∈ tb := by decide +kernel
end
section
theorem dX5_init_0 : decode cX5_init 0 = .ok (.aload_n 0, 1) := by decide +kernel
theorem dX5_init_1 : decode cX5_init 1 = .ok (.invokespecial 3, 3) := by decide +kernel
theorem dX5_init_4 : decode cX5_init 4 = .ok (.aload_n 0, 1) := by decide +kernel
theorem dX5_init_5 : decode cX5_init 5 = .ok (.bipush 52, 2) := by decide +kernel
theorem dX5_init_7 : decode cX5_init 7 = .ok (.newarray .int, 2) := by decide +kernel
theorem dX5_init_9 : decode cX5_init 9 = .ok (.putfield 9, 3) := by decide +kernel
theorem dX5_init_12 : decode cX5_init 12 = .ok (.aload_n 0, 1) := by decide +kernel
theorem dX5_init_13 : decode cX5_init 13 = .ok (.bipush 52, 2) := by decide +kernel
theorem dX5_init_15 : decode cX5_init 15 = .ok (.newarray .int, 2) := by decide +kernel
theorem dX5_init_17 : decode cX5_init 17 = .ok (.putfield 13, 3) := by decide +kernel
theorem dX5_init_20 : decode cX5_init 20 = .ok (.aload_n 0, 1) := by decide +kernel
theorem dX5_init_21 : decode cX5_init 21 = .ok (.bipush 52, 2) := by decide +kernel
theorem dX5_init_23 : decode cX5_init 23 = .ok (.newarray .int, 2) := by decide +kernel
theorem dX5_init_25 : decode cX5_init 25 = .ok (.putfield 16, 3) := by decide +kernel
theorem dX5_init_28 : decode cX5_init 28 = .ok (.aload_n 0, 1) := by decide +kernel
theorem dX5_init_29 : decode cX5_init 29 = .ok (.bipush 7, 2) := by decide +kernel
theorem dX5_init_31 : decode cX5_init 31 = .ok (.newarray .int, 2) := by decide +kernel
theorem dX5_init_33 : decode cX5_init 33 = .ok (.putfield 19, 3) := by decide +kernel
theorem dX5_init_36 : decode cX5_init 36 = .ok (.aload_n 0, 1) := by decide +kernel
theorem dX5_init_37 : decode cX5_init 37 = .ok (.bipush 16, 2) := by decide +kernel
theorem dX5_init_39 : decode cX5_init 39 = .ok (.newarray .int, 2) := by decide +kernel
theorem dX5_init_41 : decode cX5_init 41 = .ok (.putfield 22, 3) := by decide +kernel
theorem dX5_init_44 : decode cX5_init 44 = .ok (.aload_n 0, 1) := by decide +kernel
theorem dX5_init_45 : decode cX5_init 45 = .ok (.bipush 120, 2) := by decide +kernel
theorem dX5_init_47 : decode cX5_init 47 = .ok (.newarray .int, 2) := by decide +kernel
theorem dX5_init_49 : decode cX5_init 49 = .ok (.putfield 25, 3) := by decide +kernel
theorem dX5_init_52 : decode cX5_init 52 = .ok (.aload_n 0, 1) := by decide +kernel
theorem dX5_init_53 : decode cX5_init 53 = .ok (.iconst 4, 1) := by decide +kernel
theorem dX5_init_54 : decode cX5_init 54 = .ok (.newarray .int, 2) := by decide +kernel
theorem dX5_init_56 : decode cX5_init 56 = .ok (.putfield 28, 3) := by decide +kernel
theorem dX5_init_59 : decode cX5_init 59 = .ok (.aload_n 0, 1) := by decide +kernel
theorem dX5_init_60 : decode cX5_init 60 = .ok (.iconst 4, 1) := by decide +kernel
theorem dX5_init_61 : decode cX5_init 61 = .ok (.newarray .int, 2) := by decide +kernel
theorem dX5_init_63 : decode cX5_init 63 = .ok (.putfield 31, 3) := by decide +kernel
theorem dX5_init_66 : decode cX5_init 66 = .ok (.aload_n 0, 1) := by decide +kernel
theorem dX5_init_67 : decode cX5_init 67 = .ok (.sipush 160, 3) := by decide +kernel
theorem dX5_init_70 : decode cX5_init 70 = .ok (.newarray .long, 2) := by decide +kernel
theorem dX5_init_72 : decode cX5_init 72 = .ok (.putfield 34, 3) := by decide +kernel
theorem dX5_init_75 : decode cX5_init 75 = .ok (.iconst 0, 1) := by decide +kernel
theorem dX5_init_76 : decode cX5_init 76 = .ok (.istore_n 1, 1) := by decide +kernel
theorem dX5_init_77 : decode cX5_init 77 = .ok (.iload_n 1, 1) := by decide +kernel
theorem dX5_init_78 : decode cX5_init 78 = .ok (.bipush 10, 2) := by decide +kernel
theorem dX5_init_80 : decode cX5_init 80 = .ok (.if_icmp .ge 23, 3) := by decide +kernel
theorem dX5_init_83 : decode cX5_init 83 = .ok (.aload_n 0, 1) := by decide +kernel
theorem dX5_init_84 : decode cX5_init 84 = .ok (.getfield 9, 3) := by decide +kernel
theorem dX5_init_87 : decode cX5_init 87 = .ok (.iconst 2, 1) := by decide +kernel
theorem dX5_init_88 : decode cX5_init 88 = .ok (.iload_n 1, 1) := by decide +kernel
theorem dX5_init_89 : decode cX5_init 89 = .ok (.iadd, 1) := by decide +kernel
theorem dX5_init_90 : decode cX5_init 90 = .ok (.iconst 3, 1) := by decide +kernel
theorem dX5_init_91 : decode cX5_init 91 = .ok (.iload_n 1, 1) := by decide +kernel
theorem dX5_init_92 : decode cX5_init 92 = .ok (.imul, 1) := by decide +kernel
theorem dX5_init_93 : decode cX5_init 93 = .ok (.bipush 10, 2) := by decide +kernel
theorem dX5_init_95 : decode cX5_init 95 = .ok (.irem, 1) := by decide +kernel
theorem dX5_init_96 : decode cX5_init 96 = .ok (.iastore, 1) := by decide +kernel
theorem dX5_init_97 : decode cX5_init 97 = .ok (.iinc 1 1, 3) := by decide +kernel
theorem dX5_init_100 : decode cX5_init 100 = .ok (.goto (-23), 3) := by decide +kernel
theorem dX5_init_103 : decode cX5_init 103 = .ok (.return_, 1) := by decide +kernel
theorem dX5_finds_0 : decode cX5_finds 0 = .ok (.aload_n 0, 1) := by decide +kernel
theorem dX5_finds_1 : decode cX5_finds 1 = .ok (.getfield 19, 3) := by decide +kernel
theorem dX5_finds_4 : decode cX5_finds 4 = .ok (.ldc 38, 2) := by decide +kernel
theorem dX5_finds_6 : decode cX5_finds 6 = .ok (.iload_n 1, 1) := by decide +kernel
theorem dX5_finds_7 : decode cX5_finds 7 = .ok (.isub, 1) := by decide +kernel
theorem dX5_finds_8 : decode cX5_finds 8 = .ok (.dup2, 1) := by decide +kernel
theorem dX5_finds_9 : decode cX5_finds 9 = .ok (.iaload, 1) := by decide +kernel
theorem dX5_finds_10 : decode cX5_finds 10 = .ok (.iconst 1, 1) := by decide +kernel
theorem dX5_finds_11 : decode cX5_finds 11 = .ok (.iadd, 1) := by decide +kernel
theorem dX5_finds_12 : decode cX5_finds 12 = .ok (.iastore, 1) := by decide +kernel
theorem dX5_finds_13 : decode cX5_finds 13 = .ok (.iload_n 1, 1) := by decide +kernel
theorem dX5_finds_14 : decode cX5_finds 14 = .ok (.ireturn, 1) := by decide +kernel
theorem dX5_orNone_0 : decode cX5_orNone 0 = .ok (.iload_n 1, 1) := by decide +kernel
theorem dX5_orNone_1 : decode cX5_orNone 1 = .ok (.ifCond .ge 12, 3) := by decide +kernel
theorem dX5_orNone_4 : decode cX5_orNone 4 = .ok (.aload_n 0, 1) := by decide +kernel
theorem dX5_orNone_5 : decode cX5_orNone 5 = .ok (.ldc 39, 2) := by decide +kernel
theorem dX5_orNone_7 : decode cX5_orNone 7 = .ok (.invokevirtual 40, 3) := by decide +kernel
theorem dX5_orNone_10 : decode cX5_orNone 10 = .ok (.goto 4, 3) := by decide +kernel
theorem dX5_orNone_13 : decode cX5_orNone 13 = .ok (.iload_n 1, 1) := by decide +kernel
theorem dX5_orNone_14 : decode cX5_orNone 14 = .ok (.ireturn, 1) := by decide +kernel
theorem dX5_in_0 : decode cX5_in 0 = .ok (.lload_n 0, 1) := by decide +kernel
theorem dX5_in_1 : decode cX5_in 1 = .ok (.iload_n 2, 1) := by decide +kernel
theorem dX5_in_2 : decode cX5_in 2 = .ok (.i2l, 1) := by decide +kernel
theorem dX5_in_3 : decode cX5_in 3 = .ok (.lcmp, 1) := by decide +kernel
theorem dX5_in_4 : decode cX5_in 4 = .ok (.ifCond .lt 14, 3) := by decide +kernel
theorem dX5_in_7 : decode cX5_in 7 = .ok (.lload_n 0, 1) := by decide +kernel
theorem dX5_in_8 : decode cX5_in 8 = .ok (.iload_n 3, 1) := by decide +kernel
theorem dX5_in_9 : decode cX5_in 9 = .ok (.i2l, 1) := by decide +kernel
theorem dX5_in_10 : decode cX5_in 10 = .ok (.lcmp, 1) := by decide +kernel
theorem dX5_in_11 : decode cX5_in 11 = .ok (.ifCond .gt 7, 3) := by decide +kernel
theorem dX5_in_14 : decode cX5_in 14 = .ok (.iconst 1, 1) := by decide +kernel
theorem dX5_in_15 : decode cX5_in 15 = .ok (.goto 4, 3) := by decide +kernel
theorem dX5_in_18 : decode cX5_in 18 = .ok (.iconst 0, 1) := by decide +kernel
theorem dX5_in_19 : decode cX5_in 19 = .ok (.ireturn, 1) := by decide +kernel
theorem dX5_held_0 : decode cX5_held 0 = .ok (.iload_n 0, 1) := by decide +kernel
theorem dX5_held_1 : decode cX5_held 1 = .ok (.iload_n 1, 1) := by decide +kernel
theorem dX5_held_2 : decode cX5_held 2 = .ok (.if_icmp .ge 7, 3) := by decide +kernel
theorem dX5_held_5 : decode cX5_held 5 = .ok (.iload_n 1, 1) := by decide +kernel
theorem dX5_held_6 : decode cX5_held 6 = .ok (.goto 13, 3) := by decide +kernel
theorem dX5_held_9 : decode cX5_held 9 = .ok (.iload_n 0, 1) := by decide +kernel
theorem dX5_held_10 : decode cX5_held 10 = .ok (.iload_n 2, 1) := by decide +kernel
theorem dX5_held_11 : decode cX5_held 11 = .ok (.if_icmp .le 7, 3) := by decide +kernel
theorem dX5_held_14 : decode cX5_held 14 = .ok (.iload_n 2, 1) := by decide +kernel
theorem dX5_held_15 : decode cX5_held 15 = .ok (.goto 4, 3) := by decide +kernel
theorem dX5_held_18 : decode cX5_held 18 = .ok (.iload_n 0, 1) := by decide +kernel
theorem dX5_held_19 : decode cX5_held 19 = .ok (.ireturn, 1) := by decide +kernel
theorem dX5_copyAll_0 : decode cX5_copyAll 0 = .ok (.iconst 0, 1) := by decide +kernel
theorem dX5_copyAll_1 : decode cX5_copyAll 1 = .ok (.istore_n 2, 1) := by decide +kernel
theorem dX5_copyAll_2 : decode cX5_copyAll 2 = .ok (.iload_n 2, 1) := by decide +kernel
theorem dX5_copyAll_3 : decode cX5_copyAll 3 = .ok (.bipush 52, 2) := by decide +kernel
theorem dX5_copyAll_5 : decode cX5_copyAll 5 = .ok (.if_icmp .ge 15, 3) := by decide +kernel
theorem dX5_copyAll_8 : decode cX5_copyAll 8 = .ok (.aload_n 1, 1) := by decide +kernel
theorem dX5_copyAll_9 : decode cX5_copyAll 9 = .ok (.iload_n 2, 1) := by decide +kernel
theorem dX5_copyAll_10 : decode cX5_copyAll 10 = .ok (.aload_n 0, 1) := by decide +kernel
theorem dX5_copyAll_11 : decode cX5_copyAll 11 = .ok (.iload_n 2, 1) := by decide +kernel
theorem dX5_copyAll_12 : decode cX5_copyAll 12 = .ok (.iaload, 1) := by decide +kernel
theorem dX5_copyAll_13 : decode cX5_copyAll 13 = .ok (.iastore, 1) := by decide +kernel
theorem dX5_copyAll_14 : decode cX5_copyAll 14 = .ok (.iinc 2 1, 3) := by decide +kernel
theorem dX5_copyAll_17 : decode cX5_copyAll 17 = .ok (.goto (-15), 3) := by decide +kernel
theorem dX5_copyAll_20 : decode cX5_copyAll 20 = .ok (.return_, 1) := by decide +kernel
theorem dX5_becomes_0 : decode cX5_becomes 0 = .ok (.aload_n 0, 1) := by decide +kernel
theorem dX5_becomes_1 : decode cX5_becomes 1 = .ok (.getfield 9, 3) := by decide +kernel
theorem dX5_becomes_4 : decode cX5_becomes 4 = .ok (.iload_n 1, 1) := by decide +kernel
theorem dX5_becomes_5 : decode cX5_becomes 5 = .ok (.iaload, 1) := by decide +kernel
theorem dX5_becomes_6 : decode cX5_becomes 6 = .ok (.istore_n 3, 1) := by decide +kernel
theorem dX5_becomes_7 : decode cX5_becomes 7 = .ok (.aload_n 0, 1) := by decide +kernel
theorem dX5_becomes_8 : decode cX5_becomes 8 = .ok (.getfield 9, 3) := by decide +kernel
theorem dX5_becomes_11 : decode cX5_becomes 11 = .ok (.iload_n 1, 1) := by decide +kernel
theorem dX5_becomes_12 : decode cX5_becomes 12 = .ok (.iload_n 2, 1) := by decide +kernel
theorem dX5_becomes_13 : decode cX5_becomes 13 = .ok (.iastore, 1) := by decide +kernel
theorem dX5_becomes_14 : decode cX5_becomes 14 = .ok (.iload_n 3, 1) := by decide +kernel
theorem dX5_becomes_15 : decode cX5_becomes 15 = .ok (.ireturn, 1) := by decide +kernel
theorem dX5_isPerson_0 : decode cX5_isPerson 0 = .ok (.iload_n 1, 1) := by decide +kernel
theorem dX5_isPerson_1 : decode cX5_isPerson 1 = .ok (.i2l, 1) := by decide +kernel
theorem dX5_isPerson_2 : decode cX5_isPerson 2 = .ok (.iconst 0, 1) := by decide +kernel
theorem dX5_isPerson_3 : decode cX5_isPerson 3 = .ok (.aload_n 0, 1) := by decide +kernel
theorem dX5_isPerson_4 : decode cX5_isPerson 4 = .ok (.getfield 9, 3) := by decide +kernel
theorem dX5_isPerson_7 : decode cX5_isPerson 7 = .ok (.iconst 1, 1) := by decide +kernel
theorem dX5_isPerson_8 : decode cX5_isPerson 8 = .ok (.iaload, 1) := by decide +kernel
theorem dX5_isPerson_9 : decode cX5_isPerson 9 = .ok (.iconst 1, 1) := by decide +kernel
theorem dX5_isPerson_10 : decode cX5_isPerson 10 = .ok (.isub, 1) := by decide +kernel
theorem dX5_isPerson_11 : decode cX5_isPerson 11 = .ok (.invokestatic 44, 3) := by decide +kernel
theorem dX5_isPerson_14 : decode cX5_isPerson 14 = .ok (.ireturn, 1) := by decide +kernel
theorem dX5_areTwo_0 : decode cX5_areTwo 0 = .ok (.aload_n 0, 1) := by decide +kernel
theorem dX5_areTwo_1 : decode cX5_areTwo 1 = .ok (.iload_n 1, 1) := by decide +kernel
theorem dX5_areTwo_2 : decode cX5_areTwo 2 = .ok (.invokevirtual 48, 3) := by decide +kernel
theorem dX5_areTwo_5 : decode cX5_areTwo 5 = .ok (.ifCond .eq 20, 3) := by decide +kernel
theorem dX5_areTwo_8 : decode cX5_areTwo 8 = .ok (.aload_n 0, 1) := by decide +kernel
theorem dX5_areTwo_9 : decode cX5_areTwo 9 = .ok (.iload_n 2, 1) := by decide +kernel
theorem dX5_areTwo_10 : decode cX5_areTwo 10 = .ok (.invokevirtual 48, 3) := by decide +kernel
theorem dX5_areTwo_13 : decode cX5_areTwo 13 = .ok (.ifCond .eq 12, 3) := by decide +kernel
theorem dX5_areTwo_16 : decode cX5_areTwo 16 = .ok (.iload_n 1, 1) := by decide +kernel
theorem dX5_areTwo_17 : decode cX5_areTwo 17 = .ok (.iload_n 2, 1) := by decide +kernel
theorem dX5_areTwo_18 : decode cX5_areTwo 18 = .ok (.if_icmp .eq 7, 3) := by decide +kernel
theorem dX5_areTwo_21 : decode cX5_areTwo 21 = .ok (.iconst 1, 1) := by decide +kernel
theorem dX5_areTwo_22 : decode cX5_areTwo 22 = .ok (.goto 4, 3) := by decide +kernel
theorem dX5_areTwo_25 : decode cX5_areTwo 25 = .ok (.iconst 0, 1) := by decide +kernel
theorem dX5_areTwo_26 : decode cX5_areTwo 26 = .ok (.ireturn, 1) := by decide +kernel
theorem dX5_it_0 : decode cX5_it 0 = .ok (.aload_n 0, 1) := by decide +kernel
theorem dX5_it_1 : decode cX5_it 1 = .ok (.getfield 9, 3) := by decide +kernel
theorem dX5_it_4 : decode cX5_it 4 = .ok (.bipush 12, 2) := by decide +kernel
theorem dX5_it_6 : decode cX5_it 6 = .ok (.iconst 5, 1) := by decide +kernel
theorem dX5_it_7 : decode cX5_it 7 = .ok (.iload_n 1, 1) := by decide +kernel
theorem dX5_it_8 : decode cX5_it 8 = .ok (.imul, 1) := by decide +kernel
theorem dX5_it_9 : decode cX5_it 9 = .ok (.iadd, 1) := by decide +kernel
theorem dX5_it_10 : decode cX5_it 10 = .ok (.iload_n 2, 1) := by decide +kernel
theorem dX5_it_11 : decode cX5_it 11 = .ok (.iadd, 1) := by decide +kernel
theorem dX5_it_12 : decode cX5_it 12 = .ok (.iaload, 1) := by decide +kernel
theorem dX5_it_13 : decode cX5_it 13 = .ok (.ireturn, 1) := by decide +kernel
theorem dX5_put_0 : decode cX5_put 0 = .ok (.aload_n 0, 1) := by decide +kernel
theorem dX5_put_1 : decode cX5_put 1 = .ok (.getfield 9, 3) := by decide +kernel
theorem dX5_put_4 : decode cX5_put 4 = .ok (.bipush 12, 2) := by decide +kernel
theorem dX5_put_6 : decode cX5_put 6 = .ok (.iconst 5, 1) := by decide +kernel
theorem dX5_put_7 : decode cX5_put 7 = .ok (.iload_n 1, 1) := by decide +kernel
theorem dX5_put_8 : decode cX5_put 8 = .ok (.imul, 1) := by decide +kernel
theorem dX5_put_9 : decode cX5_put 9 = .ok (.iadd, 1) := by decide +kernel
theorem dX5_put_10 : decode cX5_put 10 = .ok (.iload_n 2, 1) := by decide +kernel
theorem dX5_put_11 : decode cX5_put 11 = .ok (.iadd, 1) := by decide +kernel
theorem dX5_put_12 : decode cX5_put 12 = .ok (.iload_n 3, 1) := by decide +kernel
theorem dX5_put_13 : decode cX5_put 13 = .ok (.iastore, 1) := by decide +kernel
theorem dX5_put_14 : decode cX5_put 14 = .ok (.return_, 1) := by decide +kernel
theorem dX5_sunNow_0 : decode cX5_sunNow 0 = .ok (.aload_n 0, 1) := by decide +kernel
theorem dX5_sunNow_1 : decode cX5_sunNow 1 = .ok (.getfield 9, 3) := by decide +kernel
theorem dX5_sunNow_4 : decode cX5_sunNow 4 = .ok (.iconst 2, 1) := by decide +kernel
theorem dX5_sunNow_5 : decode cX5_sunNow 5 = .ok (.aload_n 0, 1) := by decide +kernel
theorem dX5_sunNow_6 : decode cX5_sunNow 6 = .ok (.getfield 9, 3) := by decide +kernel
theorem dX5_sunNow_9 : decode cX5_sunNow 9 = .ok (.iconst 0, 1) := by decide +kernel
theorem dX5_sunNow_10 : decode cX5_sunNow 10 = .ok (.iaload, 1) := by decide +kernel
theorem dX5_sunNow_11 : decode cX5_sunNow 11 = .ok (.bipush 10, 2) := by decide +kernel
theorem dX5_sunNow_13 : decode cX5_sunNow 13 = .ok (.irem, 1) := by decide +kernel
theorem dX5_sunNow_14 : decode cX5_sunNow 14 = .ok (.iadd, 1) := by decide +kernel
theorem dX5_sunNow_15 : decode cX5_sunNow 15 = .ok (.iaload, 1) := by decide +kernel
theorem dX5_sunNow_16 : decode cX5_sunNow 16 = .ok (.ireturn, 1) := by decide +kernel
theorem dX5_onChair_0 : decode cX5_onChair 0 = .ok (.iconst (-1), 1) := by decide +kernel
theorem dX5_onChair_1 : decode cX5_onChair 1 = .ok (.istore_n 2, 1) := by decide +kernel
theorem dX5_onChair_2 : decode cX5_onChair 2 = .ok (.iconst 0, 1) := by decide +kernel
theorem dX5_onChair_3 : decode cX5_onChair 3 = .ok (.istore_n 3, 1) := by decide +kernel
theorem dX5_onChair_4 : decode cX5_onChair 4 = .ok (.iload_n 3, 1) := by decide +kernel
theorem dX5_onChair_5 : decode cX5_onChair 5 = .ok (.aload_n 0, 1) := by decide +kernel
theorem dX5_onChair_6 : decode cX5_onChair 6 = .ok (.getfield 9, 3) := by decide +kernel
theorem dX5_onChair_9 : decode cX5_onChair 9 = .ok (.iconst 1, 1) := by decide +kernel
theorem dX5_onChair_10 : decode cX5_onChair 10 = .ok (.iaload, 1) := by decide +kernel
theorem dX5_onChair_11 : decode cX5_onChair 11 = .ok (.if_icmp .ge 25, 3) := by decide +kernel
theorem dX5_onChair_14 : decode cX5_onChair 14 = .ok (.aload_n 0, 1) := by decide +kernel
theorem dX5_onChair_15 : decode cX5_onChair 15 = .ok (.iload_n 3, 1) := by decide +kernel
theorem dX5_onChair_16 : decode cX5_onChair 16 = .ok (.iconst 1, 1) := by decide +kernel
theorem dX5_onChair_17 : decode cX5_onChair 17 = .ok (.invokevirtual 52, 3) := by decide +kernel
theorem dX5_onChair_20 : decode cX5_onChair 20 = .ok (.iload_n 1, 1) := by decide +kernel
theorem dX5_onChair_21 : decode cX5_onChair 21 = .ok (.if_icmp .ne 7, 3) := by decide +kernel
theorem dX5_onChair_24 : decode cX5_onChair 24 = .ok (.iload_n 3, 1) := by decide +kernel
theorem dX5_onChair_25 : decode cX5_onChair 25 = .ok (.goto 4, 3) := by decide +kernel
theorem dX5_onChair_28 : decode cX5_onChair 28 = .ok (.iload_n 2, 1) := by decide +kernel
theorem dX5_onChair_29 : decode cX5_onChair 29 = .ok (.istore_n 2, 1) := by decide +kernel
theorem dX5_onChair_30 : decode cX5_onChair 30 = .ok (.iinc 3 1, 3) := by decide +kernel
theorem dX5_onChair_33 : decode cX5_onChair 33 = .ok (.goto (-29), 3) := by decide +kernel
theorem dX5_onChair_36 : decode cX5_onChair 36 = .ok (.iload_n 2, 1) := by decide +kernel
theorem dX5_onChair_37 : decode cX5_onChair 37 = .ok (.ireturn, 1) := by decide +kernel
theorem dX5_sits_0 : decode cX5_sits 0 = .ok (.aload_n 0, 1) := by decide +kernel
theorem dX5_sits_1 : decode cX5_sits 1 = .ok (.iload_n 1, 1) := by decide +kernel
theorem dX5_sits_2 : decode cX5_sits 2 = .ok (.iconst 1, 1) := by decide +kernel
theorem dX5_sits_3 : decode cX5_sits 3 = .ok (.invokevirtual 52, 3) := by decide +kernel
theorem dX5_sits_6 : decode cX5_sits 6 = .ok (.ifCond .lt 7, 3) := by decide +kernel
theorem dX5_sits_9 : decode cX5_sits 9 = .ok (.iconst 1, 1) := by decide +kernel
theorem dX5_sits_10 : decode cX5_sits 10 = .ok (.goto 4, 3) := by decide +kernel
theorem dX5_sits_13 : decode cX5_sits 13 = .ok (.iconst 0, 1) := by decide +kernel
theorem dX5_sits_14 : decode cX5_sits 14 = .ok (.ireturn, 1) := by decide +kernel
theorem dX5_beside_0 : decode cX5_beside 0 = .ok (.aload_n 0, 1) := by decide +kernel
theorem dX5_beside_1 : decode cX5_beside 1 = .ok (.iload_n 1, 1) := by decide +kernel
theorem dX5_beside_2 : decode cX5_beside 2 = .ok (.iconst 1, 1) := by decide +kernel
theorem dX5_beside_3 : decode cX5_beside 3 = .ok (.invokevirtual 52, 3) := by decide +kernel
theorem dX5_beside_6 : decode cX5_beside 6 = .ok (.iload_n 2, 1) := by decide +kernel
theorem dX5_beside_7 : decode cX5_beside 7 = .ok (.ifCond .ne 7, 3) := by decide +kernel
theorem dX5_beside_10 : decode cX5_beside 10 = .ok (.iconst (-1), 1) := by decide +kernel
theorem dX5_beside_11 : decode cX5_beside 11 = .ok (.goto 4, 3) := by decide +kernel
theorem dX5_beside_14 : decode cX5_beside 14 = .ok (.iconst 1, 1) := by decide +kernel
theorem dX5_beside_15 : decode cX5_beside 15 = .ok (.iadd, 1) := by decide +kernel
theorem dX5_beside_16 : decode cX5_beside 16 = .ok (.istore_n 3, 1) := by decide +kernel
theorem dX5_beside_17 : decode cX5_beside 17 = .ok (.aload_n 0, 1) := by decide +kernel
theorem dX5_beside_18 : decode cX5_beside 18 = .ok (.iload_n 1, 1) := by decide +kernel
theorem dX5_beside_19 : decode cX5_beside 19 = .ok (.invokevirtual 56, 3) := by decide +kernel
theorem dX5_beside_22 : decode cX5_beside 22 = .ok (.ifCond .eq 14, 3) := by decide +kernel
theorem dX5_beside_25 : decode cX5_beside 25 = .ok (.iload_n 3, 1) := by decide +kernel
theorem dX5_beside_26 : decode cX5_beside 26 = .ok (.i2l, 1) := by decide +kernel
theorem dX5_beside_27 : decode cX5_beside 27 = .ok (.iconst 0, 1) := by decide +kernel
theorem dX5_beside_28 : decode cX5_beside 28 = .ok (.bipush 9, 2) := by decide +kernel
theorem dX5_beside_30 : decode cX5_beside 30 = .ok (.invokestatic 44, 3) := by decide +kernel
theorem dX5_beside_33 : decode cX5_beside 33 = .ok (.ifCond .ne 7, 3) := by decide +kernel
theorem dX5_beside_36 : decode cX5_beside 36 = .ok (.iconst (-1), 1) := by decide +kernel
theorem dX5_beside_37 : decode cX5_beside 37 = .ok (.goto 8, 3) := by decide +kernel
theorem dX5_beside_40 : decode cX5_beside 40 = .ok (.aload_n 0, 1) := by decide +kernel
theorem dX5_beside_41 : decode cX5_beside 41 = .ok (.iload_n 3, 1) := by decide +kernel
theorem dX5_beside_42 : decode cX5_beside 42 = .ok (.invokevirtual 59, 3) := by decide +kernel
theorem dX5_beside_45 : decode cX5_beside 45 = .ok (.ireturn, 1) := by decide +kernel
theorem dX5_glows_0 : decode cX5_glows 0 = .ok (.aload_n 0, 1) := by decide +kernel
theorem dX5_glows_1 : decode cX5_glows 1 = .ok (.invokevirtual 62, 3) := by decide +kernel
theorem dX5_glows_4 : decode cX5_glows 4 = .ok (.istore 4, 2) := by decide +kernel
theorem dX5_glows_6 : decode cX5_glows 6 = .ok (.iload_n 2, 1) := by decide +kernel
theorem dX5_glows_7 : decode cX5_glows 7 = .ok (.bipush 20, 2) := by decide +kernel
theorem dX5_glows_9 : decode cX5_glows 9 = .ok (.idiv, 1) := by decide +kernel
theorem dX5_glows_10 : decode cX5_glows 10 = .ok (.iload 4, 2) := by decide +kernel
theorem dX5_glows_12 : decode cX5_glows 12 = .ok (.imul, 1) := by decide +kernel
theorem dX5_glows_13 : decode cX5_glows 13 = .ok (.bipush 9, 2) := by decide +kernel
theorem dX5_glows_15 : decode cX5_glows 15 = .ok (.idiv, 1) := by decide +kernel
theorem dX5_glows_16 : decode cX5_glows 16 = .ok (.istore 5, 2) := by decide +kernel
theorem dX5_glows_18 : decode cX5_glows 18 = .ok (.aload_n 0, 1) := by decide +kernel
theorem dX5_glows_19 : decode cX5_glows 19 = .ok (.iload_n 3, 1) := by decide +kernel
theorem dX5_glows_20 : decode cX5_glows 20 = .ok (.iconst 0, 1) := by decide +kernel
theorem dX5_glows_21 : decode cX5_glows 21 = .ok (.invokevirtual 52, 3) := by decide +kernel
theorem dX5_glows_24 : decode cX5_glows 24 = .ok (.iconst 4, 1) := by decide +kernel
theorem dX5_glows_25 : decode cX5_glows 25 = .ok (.if_icmp .ne 12, 3) := by decide +kernel
theorem dX5_glows_28 : decode cX5_glows 28 = .ok (.iconst 2, 1) := by decide +kernel
theorem dX5_glows_29 : decode cX5_glows 29 = .ok (.iload 5, 2) := by decide +kernel
theorem dX5_glows_31 : decode cX5_glows 31 = .ok (.iconst 2, 1) := by decide +kernel
theorem dX5_glows_32 : decode cX5_glows 32 = .ok (.idiv, 1) := by decide +kernel
theorem dX5_glows_33 : decode cX5_glows 33 = .ok (.imul, 1) := by decide +kernel
theorem dX5_glows_34 : decode cX5_glows 34 = .ok (.goto 7, 3) := by decide +kernel
theorem dX5_glows_37 : decode cX5_glows 37 = .ok (.iload 5, 2) := by decide +kernel
theorem dX5_glows_39 : decode cX5_glows 39 = .ok (.iconst 2, 1) := by decide +kernel
theorem dX5_glows_40 : decode cX5_glows 40 = .ok (.idiv, 1) := by decide +kernel
theorem dX5_glows_41 : decode cX5_glows 41 = .ok (.istore 6, 2) := by decide +kernel
theorem dX5_glows_43 : decode cX5_glows 43 = .ok (.iload 4, 2) := by decide +kernel
theorem dX5_glows_45 : decode cX5_glows 45 = .ok (.ifCond .ne 5, 3) := by decide +kernel
theorem dX5_glows_48 : decode cX5_glows 48 = .ok (.iconst 0, 1) := by decide +kernel
theorem dX5_glows_49 : decode cX5_glows 49 = .ok (.ireturn, 1) := by decide +kernel
theorem dX5_glows_50 : decode cX5_glows 50 = .ok (.aload_n 0, 1) := by decide +kernel
theorem dX5_glows_51 : decode cX5_glows 51 = .ok (.iload_n 1, 1) := by decide +kernel
theorem dX5_glows_52 : decode cX5_glows 52 = .ok (.iconst 0, 1) := by decide +kernel
theorem dX5_glows_53 : decode cX5_glows 53 = .ok (.invokevirtual 52, 3) := by decide +kernel
theorem dX5_glows_56 : decode cX5_glows 56 = .ok (.tableswitch 67 1 5 #[36, 41, 46, 49, 52], 36) := by decide +kernel
theorem dX5_glows_92 : decode cX5_glows 92 = .ok (.iload 5, 2) := by decide +kernel
theorem dX5_glows_94 : decode cX5_glows 94 = .ok (.iconst 3, 1) := by decide +kernel
theorem dX5_glows_95 : decode cX5_glows 95 = .ok (.iadd, 1) := by decide +kernel
theorem dX5_glows_96 : decode cX5_glows 96 = .ok (.ireturn, 1) := by decide +kernel
theorem dX5_glows_97 : decode cX5_glows 97 = .ok (.iload 5, 2) := by decide +kernel
theorem dX5_glows_99 : decode cX5_glows 99 = .ok (.iconst 2, 1) := by decide +kernel
theorem dX5_glows_100 : decode cX5_glows 100 = .ok (.idiv, 1) := by decide +kernel
theorem dX5_glows_101 : decode cX5_glows 101 = .ok (.ireturn, 1) := by decide +kernel
theorem dX5_glows_102 : decode cX5_glows 102 = .ok (.bipush 9, 2) := by decide +kernel
theorem dX5_glows_104 : decode cX5_glows 104 = .ok (.ireturn, 1) := by decide +kernel
theorem dX5_glows_105 : decode cX5_glows 105 = .ok (.iload 6, 2) := by decide +kernel
theorem dX5_glows_107 : decode cX5_glows 107 = .ok (.ireturn, 1) := by decide +kernel
theorem dX5_glows_108 : decode cX5_glows 108 = .ok (.iload 5, 2) := by decide +kernel
theorem dX5_glows_110 : decode cX5_glows 110 = .ok (.iconst 1, 1) := by decide +kernel
theorem dX5_glows_111 : decode cX5_glows 111 = .ok (.if_icmp .le 10, 3) := by decide +kernel
theorem dX5_glows_114 : decode cX5_glows 114 = .ok (.iload 5, 2) := by decide +kernel
theorem dX5_glows_116 : decode cX5_glows 116 = .ok (.iconst 1, 1) := by decide +kernel
theorem dX5_glows_117 : decode cX5_glows 117 = .ok (.isub, 1) := by decide +kernel
theorem dX5_glows_118 : decode cX5_glows 118 = .ok (.goto 4, 3) := by decide +kernel
theorem dX5_glows_121 : decode cX5_glows 121 = .ok (.iconst 0, 1) := by decide +kernel
theorem dX5_glows_122 : decode cX5_glows 122 = .ok (.ireturn, 1) := by decide +kernel
theorem dX5_glows_123 : decode cX5_glows 123 = .ok (.iload 5, 2) := by decide +kernel
theorem dX5_glows_125 : decode cX5_glows 125 = .ok (.ireturn, 1) := by decide +kernel
theorem dX5_takesOf_0 : decode cX5_takesOf 0 = .ok (.aload_n 0, 1) := by decide +kernel
theorem dX5_takesOf_1 : decode cX5_takesOf 1 = .ok (.iload_n 1, 1) := by decide +kernel
theorem dX5_takesOf_2 : decode cX5_takesOf 2 = .ok (.iconst 0, 1) := by decide +kernel
theorem dX5_takesOf_3 : decode cX5_takesOf 3 = .ok (.invokevirtual 52, 3) := by decide +kernel
theorem dX5_takesOf_6 : decode cX5_takesOf 6 = .ok (.tableswitch 66 1 5 #[34, 38, 50, 38, 52], 34) := by decide +kernel
theorem dX5_takesOf_40 : decode cX5_takesOf 40 = .ok (.iload_n 2, 1) := by decide +kernel
theorem dX5_takesOf_41 : decode cX5_takesOf 41 = .ok (.iconst 2, 1) := by decide +kernel
theorem dX5_takesOf_42 : decode cX5_takesOf 42 = .ok (.idiv, 1) := by decide +kernel
theorem dX5_takesOf_43 : decode cX5_takesOf 43 = .ok (.ireturn, 1) := by decide +kernel
theorem dX5_takesOf_44 : decode cX5_takesOf 44 = .ok (.iload_n 2, 1) := by decide +kernel
theorem dX5_takesOf_45 : decode cX5_takesOf 45 = .ok (.ifCond .le 9, 3) := by decide +kernel
theorem dX5_takesOf_48 : decode cX5_takesOf 48 = .ok (.iload_n 2, 1) := by decide +kernel
theorem dX5_takesOf_49 : decode cX5_takesOf 49 = .ok (.iconst 1, 1) := by decide +kernel
theorem dX5_takesOf_50 : decode cX5_takesOf 50 = .ok (.iadd, 1) := by decide +kernel
theorem dX5_takesOf_51 : decode cX5_takesOf 51 = .ok (.goto 4, 3) := by decide +kernel
theorem dX5_takesOf_54 : decode cX5_takesOf 54 = .ok (.iconst 0, 1) := by decide +kernel
theorem dX5_takesOf_55 : decode cX5_takesOf 55 = .ok (.ireturn, 1) := by decide +kernel
theorem dX5_takesOf_56 : decode cX5_takesOf 56 = .ok (.iconst 0, 1) := by decide +kernel
theorem dX5_takesOf_57 : decode cX5_takesOf 57 = .ok (.ireturn, 1) := by decide +kernel
theorem dX5_takesOf_58 : decode cX5_takesOf 58 = .ok (.iload_n 2, 1) := by decide +kernel
theorem dX5_takesOf_59 : decode cX5_takesOf 59 = .ok (.ifCond .le 11, 3) := by decide +kernel
theorem dX5_takesOf_62 : decode cX5_takesOf 62 = .ok (.iload_n 2, 1) := by decide +kernel
theorem dX5_takesOf_63 : decode cX5_takesOf 63 = .ok (.iconst 2, 1) := by decide +kernel
theorem dX5_takesOf_64 : decode cX5_takesOf 64 = .ok (.idiv, 1) := by decide +kernel
theorem dX5_takesOf_65 : decode cX5_takesOf 65 = .ok (.iconst 2, 1) := by decide +kernel
theorem dX5_takesOf_66 : decode cX5_takesOf 66 = .ok (.iadd, 1) := by decide +kernel
theorem dX5_takesOf_67 : decode cX5_takesOf 67 = .ok (.goto 4, 3) := by decide +kernel
theorem dX5_takesOf_70 : decode cX5_takesOf 70 = .ok (.iconst 0, 1) := by decide +kernel
theorem dX5_takesOf_71 : decode cX5_takesOf 71 = .ok (.ireturn, 1) := by decide +kernel
theorem dX5_takesOf_72 : decode cX5_takesOf 72 = .ok (.iload_n 2, 1) := by decide +kernel
theorem dX5_takesOf_73 : decode cX5_takesOf 73 = .ok (.ireturn, 1) := by decide +kernel
theorem dX5_fades_0 : decode cX5_fades 0 = .ok (.aload_n 0, 1) := by decide +kernel
theorem dX5_fades_1 : decode cX5_fades 1 = .ok (.invokevirtual 62, 3) := by decide +kernel
theorem dX5_fades_4 : decode cX5_fades 4 = .ok (.ifCond .ne 7, 3) := by decide +kernel
theorem dX5_fades_7 : decode cX5_fades 7 = .ok (.iconst 1, 1) := by decide +kernel
theorem dX5_fades_8 : decode cX5_fades 8 = .ok (.goto 4, 3) := by decide +kernel
theorem dX5_fades_11 : decode cX5_fades 11 = .ok (.iconst 0, 1) := by decide +kernel
theorem dX5_fades_12 : decode cX5_fades 12 = .ok (.istore_n 2, 1) := by decide +kernel
theorem dX5_fades_13 : decode cX5_fades 13 = .ok (.aload_n 0, 1) := by decide +kernel
theorem dX5_fades_14 : decode cX5_fades 14 = .ok (.iload_n 1, 1) := by decide +kernel
theorem dX5_fades_15 : decode cX5_fades 15 = .ok (.iconst 0, 1) := by decide +kernel
theorem dX5_fades_16 : decode cX5_fades 16 = .ok (.invokevirtual 52, 3) := by decide +kernel
theorem dX5_fades_19 : decode cX5_fades 19 = .ok (.tableswitch 63 1 5 #[33, 35, 63, 37, 61], 33) := by decide +kernel
theorem dX5_fades_52 : decode cX5_fades 52 = .ok (.iconst 0, 1) := by decide +kernel
theorem dX5_fades_53 : decode cX5_fades 53 = .ok (.ireturn, 1) := by decide +kernel
theorem dX5_fades_54 : decode cX5_fades 54 = .ok (.iconst 1, 1) := by decide +kernel
theorem dX5_fades_55 : decode cX5_fades 55 = .ok (.ireturn, 1) := by decide +kernel
theorem dX5_fades_56 : decode cX5_fades 56 = .ok (.aload_n 0, 1) := by decide +kernel
theorem dX5_fades_57 : decode cX5_fades 57 = .ok (.iload_n 1, 1) := by decide +kernel
theorem dX5_fades_58 : decode cX5_fades 58 = .ok (.iconst 0, 1) := by decide +kernel
theorem dX5_fades_59 : decode cX5_fades 59 = .ok (.invokevirtual 66, 3) := by decide +kernel
theorem dX5_fades_62 : decode cX5_fades 62 = .ok (.ifCond .lt 16, 3) := by decide +kernel
theorem dX5_fades_65 : decode cX5_fades 65 = .ok (.aload_n 0, 1) := by decide +kernel
theorem dX5_fades_66 : decode cX5_fades 66 = .ok (.iload_n 1, 1) := by decide +kernel
theorem dX5_fades_67 : decode cX5_fades 67 = .ok (.iconst 1, 1) := by decide +kernel
theorem dX5_fades_68 : decode cX5_fades 68 = .ok (.invokevirtual 66, 3) := by decide +kernel
theorem dX5_fades_71 : decode cX5_fades 71 = .ok (.ifCond .lt 7, 3) := by decide +kernel
theorem dX5_fades_74 : decode cX5_fades 74 = .ok (.iconst 0, 1) := by decide +kernel
theorem dX5_fades_75 : decode cX5_fades 75 = .ok (.goto 4, 3) := by decide +kernel
theorem dX5_fades_78 : decode cX5_fades 78 = .ok (.iconst 1, 1) := by decide +kernel
theorem dX5_fades_79 : decode cX5_fades 79 = .ok (.ireturn, 1) := by decide +kernel
theorem dX5_fades_80 : decode cX5_fades 80 = .ok (.iconst 2, 1) := by decide +kernel
theorem dX5_fades_81 : decode cX5_fades 81 = .ok (.ireturn, 1) := by decide +kernel
theorem dX5_fades_82 : decode cX5_fades 82 = .ok (.iload_n 2, 1) := by decide +kernel
theorem dX5_fades_83 : decode cX5_fades 83 = .ok (.ireturn, 1) := by decide +kernel
theorem dX5_burnsFrom_0 : decode cX5_burnsFrom 0 = .ok (.aload_n 0, 1) := by decide +kernel
theorem dX5_burnsFrom_1 : decode cX5_burnsFrom 1 = .ok (.iload_n 1, 1) := by decide +kernel
theorem dX5_burnsFrom_2 : decode cX5_burnsFrom 2 = .ok (.iconst 0, 1) := by decide +kernel
theorem dX5_burnsFrom_3 : decode cX5_burnsFrom 3 = .ok (.invokevirtual 52, 3) := by decide +kernel
theorem dX5_burnsFrom_6 : decode cX5_burnsFrom 6 = .ok (.tableswitch 43 1 5 #[34, 37, 43, 37, 40], 34) := by decide +kernel
theorem dX5_burnsFrom_40 : decode cX5_burnsFrom 40 = .ok (.bipush 40, 2) := by decide +kernel
theorem dX5_burnsFrom_42 : decode cX5_burnsFrom 42 = .ok (.ireturn, 1) := by decide +kernel
theorem dX5_burnsFrom_43 : decode cX5_burnsFrom 43 = .ok (.bipush 8, 2) := by decide +kernel
theorem dX5_burnsFrom_45 : decode cX5_burnsFrom 45 = .ok (.ireturn, 1) := by decide +kernel
theorem dX5_burnsFrom_46 : decode cX5_burnsFrom 46 = .ok (.bipush 20, 2) := by decide +kernel
theorem dX5_burnsFrom_48 : decode cX5_burnsFrom 48 = .ok (.ireturn, 1) := by decide +kernel
theorem dX5_burnsFrom_49 : decode cX5_burnsFrom 49 = .ok (.bipush 12, 2) := by decide +kernel
theorem dX5_burnsFrom_51 : decode cX5_burnsFrom 51 = .ok (.ireturn, 1) := by decide +kernel
theorem dX5_brownOf_0 : decode cX5_brownOf 0 = .ok (.aload_n 0, 1) := by decide +kernel
theorem dX5_brownOf_1 : decode cX5_brownOf 1 = .ok (.iload_n 1, 1) := by decide +kernel
theorem dX5_brownOf_2 : decode cX5_brownOf 2 = .ok (.iconst 2, 1) := by decide +kernel
theorem dX5_brownOf_3 : decode cX5_brownOf 3 = .ok (.invokevirtual 52, 3) := by decide +kernel
theorem dX5_brownOf_6 : decode cX5_brownOf 6 = .ok (.aload_n 0, 1) := by decide +kernel
theorem dX5_brownOf_7 : decode cX5_brownOf 7 = .ok (.iload_n 1, 1) := by decide +kernel
theorem dX5_brownOf_8 : decode cX5_brownOf 8 = .ok (.iconst 3, 1) := by decide +kernel
theorem dX5_brownOf_9 : decode cX5_brownOf 9 = .ok (.invokevirtual 52, 3) := by decide +kernel
theorem dX5_brownOf_12 : decode cX5_brownOf 12 = .ok (.iadd, 1) := by decide +kernel
theorem dX5_brownOf_13 : decode cX5_brownOf 13 = .ok (.ireturn, 1) := by decide +kernel
theorem dX5_isEven_0 : decode cX5_isEven 0 = .ok (.aload_n 0, 1) := by decide +kernel
theorem dX5_isEven_1 : decode cX5_isEven 1 = .ok (.iload_n 1, 1) := by decide +kernel
theorem dX5_isEven_2 : decode cX5_isEven 2 = .ok (.iconst 2, 1) := by decide +kernel
theorem dX5_isEven_3 : decode cX5_isEven 3 = .ok (.invokevirtual 52, 3) := by decide +kernel
theorem dX5_isEven_6 : decode cX5_isEven 6 = .ok (.aload_n 0, 1) := by decide +kernel
theorem dX5_isEven_7 : decode cX5_isEven 7 = .ok (.iload_n 1, 1) := by decide +kernel
theorem dX5_isEven_8 : decode cX5_isEven 8 = .ok (.iconst 3, 1) := by decide +kernel
theorem dX5_isEven_9 : decode cX5_isEven 9 = .ok (.invokevirtual 52, 3) := by decide +kernel
theorem dX5_isEven_12 : decode cX5_isEven 12 = .ok (.isub, 1) := by decide +kernel
theorem dX5_isEven_13 : decode cX5_isEven 13 = .ok (.i2l, 1) := by decide +kernel
theorem dX5_isEven_14 : decode cX5_isEven 14 = .ok (.bipush (-5), 2) := by decide +kernel
theorem dX5_isEven_16 : decode cX5_isEven 16 = .ok (.iconst 5, 1) := by decide +kernel
theorem dX5_isEven_17 : decode cX5_isEven 17 = .ok (.invokestatic 44, 3) := by decide +kernel
theorem dX5_isEven_20 : decode cX5_isEven 20 = .ok (.ireturn, 1) := by decide +kernel
theorem dX5_givenTo_0 : decode cX5_givenTo 0 = .ok (.aload_n 0, 1) := by decide +kernel
theorem dX5_givenTo_1 : decode cX5_givenTo 1 = .ok (.iload_n 1, 1) := by decide +kernel
theorem dX5_givenTo_2 : decode cX5_givenTo 2 = .ok (.iload_n 2, 1) := by decide +kernel
theorem dX5_givenTo_3 : decode cX5_givenTo 3 = .ok (.invokevirtual 66, 3) := by decide +kernel
theorem dX5_givenTo_6 : decode cX5_givenTo 6 = .ok (.istore_n 3, 1) := by decide +kernel
theorem dX5_givenTo_7 : decode cX5_givenTo 7 = .ok (.iload_n 3, 1) := by decide +kernel
theorem dX5_givenTo_8 : decode cX5_givenTo 8 = .ok (.ifCond .ge 7, 3) := by decide +kernel
theorem dX5_givenTo_11 : decode cX5_givenTo 11 = .ok (.iconst 0, 1) := by decide +kernel
theorem dX5_givenTo_12 : decode cX5_givenTo 12 = .ok (.goto 23, 3) := by decide +kernel
theorem dX5_givenTo_15 : decode cX5_givenTo 15 = .ok (.aload_n 0, 1) := by decide +kernel
theorem dX5_givenTo_16 : decode cX5_givenTo 16 = .ok (.iload_n 3, 1) := by decide +kernel
theorem dX5_givenTo_17 : decode cX5_givenTo 17 = .ok (.aload_n 0, 1) := by decide +kernel
theorem dX5_givenTo_18 : decode cX5_givenTo 18 = .ok (.iload_n 3, 1) := by decide +kernel
theorem dX5_givenTo_19 : decode cX5_givenTo 19 = .ok (.iload_n 2, 1) := by decide +kernel
theorem dX5_givenTo_20 : decode cX5_givenTo 20 = .ok (.ifCond .ne 7, 3) := by decide +kernel
theorem dX5_givenTo_23 : decode cX5_givenTo 23 = .ok (.iconst 3, 1) := by decide +kernel
theorem dX5_givenTo_24 : decode cX5_givenTo 24 = .ok (.goto 4, 3) := by decide +kernel
theorem dX5_givenTo_27 : decode cX5_givenTo 27 = .ok (.iconst 2, 1) := by decide +kernel
theorem dX5_givenTo_28 : decode cX5_givenTo 28 = .ok (.invokevirtual 52, 3) := by decide +kernel
theorem dX5_givenTo_31 : decode cX5_givenTo 31 = .ok (.iload_n 1, 1) := by decide +kernel
theorem dX5_givenTo_32 : decode cX5_givenTo 32 = .ok (.invokevirtual 69, 3) := by decide +kernel
theorem dX5_givenTo_35 : decode cX5_givenTo 35 = .ok (.ireturn, 1) := by decide +kernel
theorem dX5_sun_0 : decode cX5_sun 0 = .ok (.iload_n 1, 1) := by decide +kernel
theorem dX5_sun_1 : decode cX5_sun 1 = .ok (.i2l, 1) := by decide +kernel
theorem dX5_sun_2 : decode cX5_sun 2 = .ok (.iconst 0, 1) := by decide +kernel
theorem dX5_sun_3 : decode cX5_sun 3 = .ok (.bipush 9, 2) := by decide +kernel
theorem dX5_sun_5 : decode cX5_sun 5 = .ok (.invokestatic 44, 3) := by decide +kernel
theorem dX5_sun_8 : decode cX5_sun 8 = .ok (.ifCond .eq 25, 3) := by decide +kernel
theorem dX5_sun_11 : decode cX5_sun 11 = .ok (.iload_n 2, 1) := by decide +kernel
theorem dX5_sun_12 : decode cX5_sun 12 = .ok (.i2l, 1) := by decide +kernel
theorem dX5_sun_13 : decode cX5_sun 13 = .ok (.iconst 0, 1) := by decide +kernel
theorem dX5_sun_14 : decode cX5_sun 14 = .ok (.bipush 9, 2) := by decide +kernel
theorem dX5_sun_16 : decode cX5_sun 16 = .ok (.invokestatic 44, 3) := by decide +kernel
theorem dX5_sun_19 : decode cX5_sun 19 = .ok (.ifCond .eq 14, 3) := by decide +kernel
theorem dX5_sun_22 : decode cX5_sun 22 = .ok (.aload_n 0, 1) := by decide +kernel
theorem dX5_sun_23 : decode cX5_sun 23 = .ok (.iconst 2, 1) := by decide +kernel
theorem dX5_sun_24 : decode cX5_sun 24 = .ok (.iload_n 1, 1) := by decide +kernel
theorem dX5_sun_25 : decode cX5_sun 25 = .ok (.iadd, 1) := by decide +kernel
theorem dX5_sun_26 : decode cX5_sun 26 = .ok (.iload_n 2, 1) := by decide +kernel
theorem dX5_sun_27 : decode cX5_sun 27 = .ok (.invokevirtual 73, 3) := by decide +kernel
theorem dX5_sun_30 : decode cX5_sun 30 = .ok (.goto 9, 3) := by decide +kernel
theorem dX5_sun_33 : decode cX5_sun 33 = .ok (.aload_n 0, 1) := by decide +kernel
theorem dX5_sun_34 : decode cX5_sun 34 = .ok (.ldc 38, 2) := by decide +kernel
theorem dX5_sun_36 : decode cX5_sun 36 = .ok (.invokevirtual 40, 3) := by decide +kernel
theorem dX5_sun_39 : decode cX5_sun 39 = .ok (.ireturn, 1) := by decide +kernel
theorem dX5_chair_0 : decode cX5_chair 0 = .ok (.iload_n 1, 1) := by decide +kernel
theorem dX5_chair_1 : decode cX5_chair 1 = .ok (.i2l, 1) := by decide +kernel
theorem dX5_chair_2 : decode cX5_chair 2 = .ok (.iconst 0, 1) := by decide +kernel
theorem dX5_chair_3 : decode cX5_chair 3 = .ok (.bipush 9, 2) := by decide +kernel
theorem dX5_chair_5 : decode cX5_chair 5 = .ok (.invokestatic 44, 3) := by decide +kernel
theorem dX5_chair_8 : decode cX5_chair 8 = .ok (.ifCond .eq 11, 3) := by decide +kernel
theorem dX5_chair_11 : decode cX5_chair 11 = .ok (.aload_n 0, 1) := by decide +kernel
theorem dX5_chair_12 : decode cX5_chair 12 = .ok (.iload_n 1, 1) := by decide +kernel
theorem dX5_chair_13 : decode cX5_chair 13 = .ok (.invokevirtual 59, 3) := by decide +kernel
theorem dX5_chair_16 : decode cX5_chair 16 = .ok (.goto 9, 3) := by decide +kernel
theorem dX5_chair_19 : decode cX5_chair 19 = .ok (.aload_n 0, 1) := by decide +kernel
theorem dX5_chair_20 : decode cX5_chair 20 = .ok (.ldc 38, 2) := by decide +kernel
theorem dX5_chair_22 : decode cX5_chair 22 = .ok (.invokevirtual 40, 3) := by decide +kernel
theorem dX5_chair_25 : decode cX5_chair 25 = .ok (.ireturn, 1) := by decide +kernel
theorem dX5_sums_0 : decode cX5_sums 0 = .ok (.iconst 0, 1) := by decide +kernel
theorem dX5_sums_1 : decode cX5_sums 1 = .ok (.istore_n 2, 1) := by decide +kernel
theorem dX5_sums_2 : decode cX5_sums 2 = .ok (.iconst 0, 1) := by decide +kernel
theorem dX5_sums_3 : decode cX5_sums 3 = .ok (.istore_n 3, 1) := by decide +kernel
theorem dX5_sums_4 : decode cX5_sums 4 = .ok (.iload_n 3, 1) := by decide +kernel
theorem dX5_sums_5 : decode cX5_sums 5 = .ok (.aload_n 0, 1) := by decide +kernel
theorem dX5_sums_6 : decode cX5_sums 6 = .ok (.getfield 9, 3) := by decide +kernel
theorem dX5_sums_9 : decode cX5_sums 9 = .ok (.iconst 1, 1) := by decide +kernel
theorem dX5_sums_10 : decode cX5_sums 10 = .ok (.iaload, 1) := by decide +kernel
theorem dX5_sums_11 : decode cX5_sums 11 = .ok (.if_icmp .ge 18, 3) := by decide +kernel
theorem dX5_sums_14 : decode cX5_sums 14 = .ok (.iload_n 2, 1) := by decide +kernel
theorem dX5_sums_15 : decode cX5_sums 15 = .ok (.aload_n 0, 1) := by decide +kernel
theorem dX5_sums_16 : decode cX5_sums 16 = .ok (.iload_n 3, 1) := by decide +kernel
theorem dX5_sums_17 : decode cX5_sums 17 = .ok (.iload_n 1, 1) := by decide +kernel
theorem dX5_sums_18 : decode cX5_sums 18 = .ok (.invokevirtual 52, 3) := by decide +kernel
theorem dX5_sums_21 : decode cX5_sums 21 = .ok (.iadd, 1) := by decide +kernel
theorem dX5_sums_22 : decode cX5_sums 22 = .ok (.istore_n 2, 1) := by decide +kernel
theorem dX5_sums_23 : decode cX5_sums 23 = .ok (.iinc 3 1, 3) := by decide +kernel
theorem dX5_sums_26 : decode cX5_sums 26 = .ok (.goto (-22), 3) := by decide +kernel
theorem dX5_sums_29 : decode cX5_sums 29 = .ok (.iload_n 2, 1) := by decide +kernel
theorem dX5_sums_30 : decode cX5_sums 30 = .ok (.ireturn, 1) := by decide +kernel
theorem dX5_allBrown_0 : decode cX5_allBrown 0 = .ok (.aload_n 0, 1) := by decide +kernel
theorem dX5_allBrown_1 : decode cX5_allBrown 1 = .ok (.iconst 2, 1) := by decide +kernel
theorem dX5_allBrown_2 : decode cX5_allBrown 2 = .ok (.invokevirtual 76, 3) := by decide +kernel
theorem dX5_allBrown_5 : decode cX5_allBrown 5 = .ok (.aload_n 0, 1) := by decide +kernel
theorem dX5_allBrown_6 : decode cX5_allBrown 6 = .ok (.iconst 3, 1) := by decide +kernel
theorem dX5_allBrown_7 : decode cX5_allBrown 7 = .ok (.invokevirtual 76, 3) := by decide +kernel
theorem dX5_allBrown_10 : decode cX5_allBrown 10 = .ok (.iadd, 1) := by decide +kernel
theorem dX5_allBrown_11 : decode cX5_allBrown 11 = .ok (.ireturn, 1) := by decide +kernel
theorem dX5_sitters_0 : decode cX5_sitters 0 = .ok (.iconst 0, 1) := by decide +kernel
theorem dX5_sitters_1 : decode cX5_sitters 1 = .ok (.istore_n 1, 1) := by decide +kernel
theorem dX5_sitters_2 : decode cX5_sitters 2 = .ok (.iconst 0, 1) := by decide +kernel
theorem dX5_sitters_3 : decode cX5_sitters 3 = .ok (.istore_n 2, 1) := by decide +kernel
theorem dX5_sitters_4 : decode cX5_sitters 4 = .ok (.iload_n 2, 1) := by decide +kernel
theorem dX5_sitters_5 : decode cX5_sitters 5 = .ok (.aload_n 0, 1) := by decide +kernel
theorem dX5_sitters_6 : decode cX5_sitters 6 = .ok (.getfield 9, 3) := by decide +kernel
theorem dX5_sitters_9 : decode cX5_sitters 9 = .ok (.iconst 1, 1) := by decide +kernel
theorem dX5_sitters_10 : decode cX5_sitters 10 = .ok (.iaload, 1) := by decide +kernel
theorem dX5_sitters_11 : decode cX5_sitters 11 = .ok (.if_icmp .ge 27, 3) := by decide +kernel
theorem dX5_sitters_14 : decode cX5_sitters 14 = .ok (.iload_n 1, 1) := by decide +kernel
theorem dX5_sitters_15 : decode cX5_sitters 15 = .ok (.aload_n 0, 1) := by decide +kernel
theorem dX5_sitters_16 : decode cX5_sitters 16 = .ok (.iload_n 2, 1) := by decide +kernel
theorem dX5_sitters_17 : decode cX5_sitters 17 = .ok (.invokevirtual 56, 3) := by decide +kernel
theorem dX5_sitters_20 : decode cX5_sitters 20 = .ok (.ifCond .eq 9, 3) := by decide +kernel
theorem dX5_sitters_23 : decode cX5_sitters 23 = .ok (.iconst 1, 1) := by decide +kernel
theorem dX5_sitters_24 : decode cX5_sitters 24 = .ok (.iload_n 2, 1) := by decide +kernel
theorem dX5_sitters_25 : decode cX5_sitters 25 = .ok (.ishl, 1) := by decide +kernel
theorem dX5_sitters_26 : decode cX5_sitters 26 = .ok (.goto 4, 3) := by decide +kernel
theorem dX5_sitters_29 : decode cX5_sitters 29 = .ok (.iconst 0, 1) := by decide +kernel
theorem dX5_sitters_30 : decode cX5_sitters 30 = .ok (.ior, 1) := by decide +kernel
theorem dX5_sitters_31 : decode cX5_sitters 31 = .ok (.istore_n 1, 1) := by decide +kernel
theorem dX5_sitters_32 : decode cX5_sitters 32 = .ok (.iinc 2 1, 3) := by decide +kernel
theorem dX5_sitters_35 : decode cX5_sitters 35 = .ok (.goto (-31), 3) := by decide +kernel
theorem dX5_sitters_38 : decode cX5_sitters 38 = .ok (.iload_n 1, 1) := by decide +kernel
theorem dX5_sitters_39 : decode cX5_sitters 39 = .ok (.ireturn, 1) := by decide +kernel
theorem dX5_evenOnes_0 : decode cX5_evenOnes 0 = .ok (.iconst 0, 1) := by decide +kernel
theorem dX5_evenOnes_1 : decode cX5_evenOnes 1 = .ok (.istore_n 1, 1) := by decide +kernel
theorem dX5_evenOnes_2 : decode cX5_evenOnes 2 = .ok (.iconst 0, 1) := by decide +kernel
theorem dX5_evenOnes_3 : decode cX5_evenOnes 3 = .ok (.istore_n 2, 1) := by decide +kernel
theorem dX5_evenOnes_4 : decode cX5_evenOnes 4 = .ok (.iload_n 2, 1) := by decide +kernel
theorem dX5_evenOnes_5 : decode cX5_evenOnes 5 = .ok (.aload_n 0, 1) := by decide +kernel
theorem dX5_evenOnes_6 : decode cX5_evenOnes 6 = .ok (.getfield 9, 3) := by decide +kernel
theorem dX5_evenOnes_9 : decode cX5_evenOnes 9 = .ok (.iconst 1, 1) := by decide +kernel
theorem dX5_evenOnes_10 : decode cX5_evenOnes 10 = .ok (.iaload, 1) := by decide +kernel
theorem dX5_evenOnes_11 : decode cX5_evenOnes 11 = .ok (.if_icmp .ge 27, 3) := by decide +kernel
theorem dX5_evenOnes_14 : decode cX5_evenOnes 14 = .ok (.iload_n 1, 1) := by decide +kernel
theorem dX5_evenOnes_15 : decode cX5_evenOnes 15 = .ok (.aload_n 0, 1) := by decide +kernel
theorem dX5_evenOnes_16 : decode cX5_evenOnes 16 = .ok (.iload_n 2, 1) := by decide +kernel
theorem dX5_evenOnes_17 : decode cX5_evenOnes 17 = .ok (.invokevirtual 79, 3) := by decide +kernel
theorem dX5_evenOnes_20 : decode cX5_evenOnes 20 = .ok (.ifCond .eq 9, 3) := by decide +kernel
theorem dX5_evenOnes_23 : decode cX5_evenOnes 23 = .ok (.iconst 1, 1) := by decide +kernel
theorem dX5_evenOnes_24 : decode cX5_evenOnes 24 = .ok (.iload_n 2, 1) := by decide +kernel
theorem dX5_evenOnes_25 : decode cX5_evenOnes 25 = .ok (.ishl, 1) := by decide +kernel
theorem dX5_evenOnes_26 : decode cX5_evenOnes 26 = .ok (.goto 4, 3) := by decide +kernel
theorem dX5_evenOnes_29 : decode cX5_evenOnes 29 = .ok (.iconst 0, 1) := by decide +kernel
theorem dX5_evenOnes_30 : decode cX5_evenOnes 30 = .ok (.ior, 1) := by decide +kernel
theorem dX5_evenOnes_31 : decode cX5_evenOnes 31 = .ok (.istore_n 1, 1) := by decide +kernel
theorem dX5_evenOnes_32 : decode cX5_evenOnes 32 = .ok (.iinc 2 1, 3) := by decide +kernel
theorem dX5_evenOnes_35 : decode cX5_evenOnes 35 = .ok (.goto (-31), 3) := by decide +kernel
theorem dX5_evenOnes_38 : decode cX5_evenOnes 38 = .ok (.iload_n 1, 1) := by decide +kernel
theorem dX5_evenOnes_39 : decode cX5_evenOnes 39 = .ok (.ireturn, 1) := by decide +kernel
theorem dX5_now_0 : decode cX5_now 0 = .ok (.iload_n 1, 1) := by decide +kernel
theorem dX5_now_1 : decode cX5_now 1 = .ok (.tableswitch 86 0 6 #[43, 50, 60, 65, 70, 75, 80], 43) := by decide +kernel
theorem dX5_now_44 : decode cX5_now 44 = .ok (.aload_n 0, 1) := by decide +kernel
theorem dX5_now_45 : decode cX5_now 45 = .ok (.getfield 9, 3) := by decide +kernel
theorem dX5_now_48 : decode cX5_now 48 = .ok (.iconst 0, 1) := by decide +kernel
theorem dX5_now_49 : decode cX5_now 49 = .ok (.iaload, 1) := by decide +kernel
theorem dX5_now_50 : decode cX5_now 50 = .ok (.ireturn, 1) := by decide +kernel
theorem dX5_now_51 : decode cX5_now 51 = .ok (.aload_n 0, 1) := by decide +kernel
theorem dX5_now_52 : decode cX5_now 52 = .ok (.getfield 9, 3) := by decide +kernel
theorem dX5_now_55 : decode cX5_now 55 = .ok (.iconst 0, 1) := by decide +kernel
theorem dX5_now_56 : decode cX5_now 56 = .ok (.iaload, 1) := by decide +kernel
theorem dX5_now_57 : decode cX5_now 57 = .ok (.bipush 10, 2) := by decide +kernel
theorem dX5_now_59 : decode cX5_now 59 = .ok (.irem, 1) := by decide +kernel
theorem dX5_now_60 : decode cX5_now 60 = .ok (.ireturn, 1) := by decide +kernel
theorem dX5_now_61 : decode cX5_now 61 = .ok (.aload_n 0, 1) := by decide +kernel
theorem dX5_now_62 : decode cX5_now 62 = .ok (.invokevirtual 62, 3) := by decide +kernel
theorem dX5_now_65 : decode cX5_now 65 = .ok (.ireturn, 1) := by decide +kernel
theorem dX5_now_66 : decode cX5_now 66 = .ok (.aload_n 0, 1) := by decide +kernel
theorem dX5_now_67 : decode cX5_now 67 = .ok (.invokevirtual 82, 3) := by decide +kernel
theorem dX5_now_70 : decode cX5_now 70 = .ok (.ireturn, 1) := by decide +kernel
theorem dX5_now_71 : decode cX5_now 71 = .ok (.aload_n 0, 1) := by decide +kernel
theorem dX5_now_72 : decode cX5_now 72 = .ok (.invokevirtual 85, 3) := by decide +kernel
theorem dX5_now_75 : decode cX5_now 75 = .ok (.ireturn, 1) := by decide +kernel
theorem dX5_now_76 : decode cX5_now 76 = .ok (.aload_n 0, 1) := by decide +kernel
theorem dX5_now_77 : decode cX5_now 77 = .ok (.invokevirtual 88, 3) := by decide +kernel
theorem dX5_now_80 : decode cX5_now 80 = .ok (.ireturn, 1) := by decide +kernel
theorem dX5_now_81 : decode cX5_now 81 = .ok (.aload_n 0, 1) := by decide +kernel
theorem dX5_now_82 : decode cX5_now 82 = .ok (.iconst 4, 1) := by decide +kernel
theorem dX5_now_83 : decode cX5_now 83 = .ok (.invokevirtual 76, 3) := by decide +kernel
theorem dX5_now_86 : decode cX5_now 86 = .ok (.ireturn, 1) := by decide +kernel
theorem dX5_now_87 : decode cX5_now 87 = .ok (.aload_n 0, 1) := by decide +kernel
theorem dX5_now_88 : decode cX5_now 88 = .ok (.ldc 38, 2) := by decide +kernel
theorem dX5_now_90 : decode cX5_now 90 = .ok (.invokevirtual 40, 3) := by decide +kernel
theorem dX5_now_93 : decode cX5_now 93 = .ok (.ireturn, 1) := by decide +kernel
theorem dX5_comesAs_0 : decode cX5_comesAs 0 = .ok (.aload_n 0, 1) := by decide +kernel
theorem dX5_comesAs_1 : decode cX5_comesAs 1 = .ok (.getfield 9, 3) := by decide +kernel
theorem dX5_comesAs_4 : decode cX5_comesAs 4 = .ok (.iconst 1, 1) := by decide +kernel
theorem dX5_comesAs_5 : decode cX5_comesAs 5 = .ok (.iaload, 1) := by decide +kernel
theorem dX5_comesAs_6 : decode cX5_comesAs 6 = .ok (.istore 4, 2) := by decide +kernel
theorem dX5_comesAs_8 : decode cX5_comesAs 8 = .ok (.aload_n 0, 1) := by decide +kernel
theorem dX5_comesAs_9 : decode cX5_comesAs 9 = .ok (.getfield 9, 3) := by decide +kernel
theorem dX5_comesAs_12 : decode cX5_comesAs 12 = .ok (.iconst 1, 1) := by decide +kernel
theorem dX5_comesAs_13 : decode cX5_comesAs 13 = .ok (.dup2, 1) := by decide +kernel
theorem dX5_comesAs_14 : decode cX5_comesAs 14 = .ok (.iaload, 1) := by decide +kernel
theorem dX5_comesAs_15 : decode cX5_comesAs 15 = .ok (.iconst 1, 1) := by decide +kernel
theorem dX5_comesAs_16 : decode cX5_comesAs 16 = .ok (.iadd, 1) := by decide +kernel
theorem dX5_comesAs_17 : decode cX5_comesAs 17 = .ok (.iastore, 1) := by decide +kernel
theorem dX5_comesAs_18 : decode cX5_comesAs 18 = .ok (.aload_n 0, 1) := by decide +kernel
theorem dX5_comesAs_19 : decode cX5_comesAs 19 = .ok (.iload 4, 2) := by decide +kernel
theorem dX5_comesAs_21 : decode cX5_comesAs 21 = .ok (.iconst 0, 1) := by decide +kernel
theorem dX5_comesAs_22 : decode cX5_comesAs 22 = .ok (.iload_n 1, 1) := by decide +kernel
theorem dX5_comesAs_23 : decode cX5_comesAs 23 = .ok (.invokevirtual 91, 3) := by decide +kernel
theorem dX5_comesAs_26 : decode cX5_comesAs 26 = .ok (.aload_n 0, 1) := by decide +kernel
theorem dX5_comesAs_27 : decode cX5_comesAs 27 = .ok (.iload 4, 2) := by decide +kernel
theorem dX5_comesAs_29 : decode cX5_comesAs 29 = .ok (.iconst 1, 1) := by decide +kernel
theorem dX5_comesAs_30 : decode cX5_comesAs 30 = .ok (.iload_n 3, 1) := by decide +kernel
theorem dX5_comesAs_31 : decode cX5_comesAs 31 = .ok (.invokevirtual 91, 3) := by decide +kernel
theorem dX5_comesAs_34 : decode cX5_comesAs 34 = .ok (.aload_n 0, 1) := by decide +kernel
theorem dX5_comesAs_35 : decode cX5_comesAs 35 = .ok (.iload 4, 2) := by decide +kernel
theorem dX5_comesAs_37 : decode cX5_comesAs 37 = .ok (.iconst 2, 1) := by decide +kernel
theorem dX5_comesAs_38 : decode cX5_comesAs 38 = .ok (.iload_n 2, 1) := by decide +kernel
theorem dX5_comesAs_39 : decode cX5_comesAs 39 = .ok (.invokevirtual 91, 3) := by decide +kernel
theorem dX5_comesAs_42 : decode cX5_comesAs 42 = .ok (.aload_n 0, 1) := by decide +kernel
theorem dX5_comesAs_43 : decode cX5_comesAs 43 = .ok (.iload 4, 2) := by decide +kernel
theorem dX5_comesAs_45 : decode cX5_comesAs 45 = .ok (.iconst 3, 1) := by decide +kernel
theorem dX5_comesAs_46 : decode cX5_comesAs 46 = .ok (.iload_n 2, 1) := by decide +kernel
theorem dX5_comesAs_47 : decode cX5_comesAs 47 = .ok (.invokevirtual 91, 3) := by decide +kernel
theorem dX5_comesAs_50 : decode cX5_comesAs 50 = .ok (.aload_n 0, 1) := by decide +kernel
theorem dX5_comesAs_51 : decode cX5_comesAs 51 = .ok (.iload 4, 2) := by decide +kernel
theorem dX5_comesAs_53 : decode cX5_comesAs 53 = .ok (.iconst 4, 1) := by decide +kernel
theorem dX5_comesAs_54 : decode cX5_comesAs 54 = .ok (.iconst 0, 1) := by decide +kernel
theorem dX5_comesAs_55 : decode cX5_comesAs 55 = .ok (.invokevirtual 91, 3) := by decide +kernel
theorem dX5_comesAs_58 : decode cX5_comesAs 58 = .ok (.iload 4, 2) := by decide +kernel
theorem dX5_comesAs_60 : decode cX5_comesAs 60 = .ok (.ireturn, 1) := by decide +kernel
theorem dX5_person_0 : decode cX5_person 0 = .ok (.iload_n 1, 1) := by decide +kernel
theorem dX5_person_1 : decode cX5_person 1 = .ok (.i2l, 1) := by decide +kernel
theorem dX5_person_2 : decode cX5_person 2 = .ok (.iconst 0, 1) := by decide +kernel
theorem dX5_person_3 : decode cX5_person 3 = .ok (.iconst 5, 1) := by decide +kernel
theorem dX5_person_4 : decode cX5_person 4 = .ok (.invokestatic 44, 3) := by decide +kernel
theorem dX5_person_7 : decode cX5_person 7 = .ok (.ifCond .ne 10, 3) := by decide +kernel
theorem dX5_person_10 : decode cX5_person 10 = .ok (.aload_n 0, 1) := by decide +kernel
theorem dX5_person_11 : decode cX5_person 11 = .ok (.ldc 38, 2) := by decide +kernel
theorem dX5_person_13 : decode cX5_person 13 = .ok (.invokevirtual 40, 3) := by decide +kernel
theorem dX5_person_16 : decode cX5_person 16 = .ok (.ireturn, 1) := by decide +kernel
theorem dX5_person_17 : decode cX5_person 17 = .ok (.aload_n 0, 1) := by decide +kernel
theorem dX5_person_18 : decode cX5_person 18 = .ok (.getfield 9, 3) := by decide +kernel
theorem dX5_person_21 : decode cX5_person 21 = .ok (.iconst 1, 1) := by decide +kernel
theorem dX5_person_22 : decode cX5_person 22 = .ok (.iaload, 1) := by decide +kernel
theorem dX5_person_23 : decode cX5_person 23 = .ok (.bipush 8, 2) := by decide +kernel
theorem dX5_person_25 : decode cX5_person 25 = .ok (.if_icmp .ne 12, 3) := by decide +kernel
theorem dX5_person_28 : decode cX5_person 28 = .ok (.aload_n 0, 1) := by decide +kernel
theorem dX5_person_29 : decode cX5_person 29 = .ok (.ldc 95, 2) := by decide +kernel
theorem dX5_person_31 : decode cX5_person 31 = .ok (.invokevirtual 40, 3) := by decide +kernel
theorem dX5_person_34 : decode cX5_person 34 = .ok (.goto 11, 3) := by decide +kernel
theorem dX5_person_37 : decode cX5_person 37 = .ok (.aload_n 0, 1) := by decide +kernel
theorem dX5_person_38 : decode cX5_person 38 = .ok (.iload_n 1, 1) := by decide +kernel
theorem dX5_person_39 : decode cX5_person 39 = .ok (.bipush 20, 2) := by decide +kernel
theorem dX5_person_41 : decode cX5_person 41 = .ok (.iconst (-1), 1) := by decide +kernel
theorem dX5_person_42 : decode cX5_person 42 = .ok (.invokevirtual 96, 3) := by decide +kernel
theorem dX5_person_45 : decode cX5_person 45 = .ok (.ireturn, 1) := by decide +kernel
theorem dX5_of_0 : decode cX5_of 0 = .ok (.aload_n 0, 1) := by decide +kernel
theorem dX5_of_1 : decode cX5_of 1 = .ok (.iload_n 1, 1) := by decide +kernel
theorem dX5_of_2 : decode cX5_of 2 = .ok (.invokevirtual 48, 3) := by decide +kernel
theorem dX5_of_5 : decode cX5_of 5 = .ok (.ifCond .eq 14, 3) := by decide +kernel
theorem dX5_of_8 : decode cX5_of 8 = .ok (.iload_n 2, 1) := by decide +kernel
theorem dX5_of_9 : decode cX5_of 9 = .ok (.i2l, 1) := by decide +kernel
theorem dX5_of_10 : decode cX5_of 10 = .ok (.iconst 0, 1) := by decide +kernel
theorem dX5_of_11 : decode cX5_of 11 = .ok (.bipush 8, 2) := by decide +kernel
theorem dX5_of_13 : decode cX5_of 13 = .ok (.invokestatic 44, 3) := by decide +kernel
theorem dX5_of_16 : decode cX5_of 16 = .ok (.ifCond .ne 10, 3) := by decide +kernel
theorem dX5_of_19 : decode cX5_of 19 = .ok (.aload_n 0, 1) := by decide +kernel
theorem dX5_of_20 : decode cX5_of 20 = .ok (.ldc 38, 2) := by decide +kernel
theorem dX5_of_22 : decode cX5_of 22 = .ok (.invokevirtual 40, 3) := by decide +kernel
theorem dX5_of_25 : decode cX5_of 25 = .ok (.ireturn, 1) := by decide +kernel
theorem dX5_of_26 : decode cX5_of 26 = .ok (.iload_n 2, 1) := by decide +kernel
theorem dX5_of_27 : decode cX5_of 27 = .ok (.tableswitch 55 5 8 #[29, 35, 41, 48], 29) := by decide +kernel
theorem dX5_of_56 : decode cX5_of 56 = .ok (.aload_n 0, 1) := by decide +kernel
theorem dX5_of_57 : decode cX5_of 57 = .ok (.iload_n 1, 1) := by decide +kernel
theorem dX5_of_58 : decode cX5_of 58 = .ok (.invokevirtual 99, 3) := by decide +kernel
theorem dX5_of_61 : decode cX5_of 61 = .ok (.ireturn, 1) := by decide +kernel
theorem dX5_of_62 : decode cX5_of 62 = .ok (.aload_n 0, 1) := by decide +kernel
theorem dX5_of_63 : decode cX5_of 63 = .ok (.iload_n 1, 1) := by decide +kernel
theorem dX5_of_64 : decode cX5_of 64 = .ok (.invokevirtual 102, 3) := by decide +kernel
theorem dX5_of_67 : decode cX5_of 67 = .ok (.ireturn, 1) := by decide +kernel
theorem dX5_of_68 : decode cX5_of 68 = .ok (.aload_n 0, 1) := by decide +kernel
theorem dX5_of_69 : decode cX5_of 69 = .ok (.iload_n 1, 1) := by decide +kernel
theorem dX5_of_70 : decode cX5_of 70 = .ok (.iconst 0, 1) := by decide +kernel
theorem dX5_of_71 : decode cX5_of 71 = .ok (.invokevirtual 66, 3) := by decide +kernel
theorem dX5_of_74 : decode cX5_of 74 = .ok (.ireturn, 1) := by decide +kernel
theorem dX5_of_75 : decode cX5_of 75 = .ok (.aload_n 0, 1) := by decide +kernel
theorem dX5_of_76 : decode cX5_of 76 = .ok (.iload_n 1, 1) := by decide +kernel
theorem dX5_of_77 : decode cX5_of 77 = .ok (.iconst 1, 1) := by decide +kernel
theorem dX5_of_78 : decode cX5_of 78 = .ok (.invokevirtual 66, 3) := by decide +kernel
theorem dX5_of_81 : decode cX5_of 81 = .ok (.ireturn, 1) := by decide +kernel
theorem dX5_of_82 : decode cX5_of 82 = .ok (.aload_n 0, 1) := by decide +kernel
theorem dX5_of_83 : decode cX5_of 83 = .ok (.iload_n 1, 1) := by decide +kernel
theorem dX5_of_84 : decode cX5_of 84 = .ok (.iload_n 2, 1) := by decide +kernel
theorem dX5_of_85 : decode cX5_of 85 = .ok (.invokevirtual 52, 3) := by decide +kernel
theorem dX5_of_88 : decode cX5_of 88 = .ok (.ireturn, 1) := by decide +kernel
theorem dX5_set_0 : decode cX5_set 0 = .ok (.aload_n 0, 1) := by decide +kernel
theorem dX5_set_1 : decode cX5_set 1 = .ok (.iload_n 1, 1) := by decide +kernel
theorem dX5_set_2 : decode cX5_set 2 = .ok (.invokevirtual 48, 3) := by decide +kernel
theorem dX5_set_5 : decode cX5_set 5 = .ok (.ifCond .eq 40, 3) := by decide +kernel
theorem dX5_set_8 : decode cX5_set 8 = .ok (.iload_n 2, 1) := by decide +kernel
theorem dX5_set_9 : decode cX5_set 9 = .ok (.i2l, 1) := by decide +kernel
theorem dX5_set_10 : decode cX5_set 10 = .ok (.iconst 2, 1) := by decide +kernel
theorem dX5_set_11 : decode cX5_set 11 = .ok (.iconst 4, 1) := by decide +kernel
theorem dX5_set_12 : decode cX5_set 12 = .ok (.invokestatic 44, 3) := by decide +kernel
theorem dX5_set_15 : decode cX5_set 15 = .ok (.ifCond .eq 30, 3) := by decide +kernel
theorem dX5_set_18 : decode cX5_set 18 = .ok (.iload_n 3, 1) := by decide +kernel
theorem dX5_set_19 : decode cX5_set 19 = .ok (.i2l, 1) := by decide +kernel
theorem dX5_set_20 : decode cX5_set 20 = .ok (.iconst 0, 1) := by decide +kernel
theorem dX5_set_21 : decode cX5_set 21 = .ok (.iload_n 2, 1) := by decide +kernel
theorem dX5_set_22 : decode cX5_set 22 = .ok (.iconst 4, 1) := by decide +kernel
theorem dX5_set_23 : decode cX5_set 23 = .ok (.if_icmp .ne 9, 3) := by decide +kernel
theorem dX5_set_26 : decode cX5_set 26 = .ok (.sipush 9999, 3) := by decide +kernel
theorem dX5_set_29 : decode cX5_set 29 = .ok (.goto 6, 3) := by decide +kernel
theorem dX5_set_32 : decode cX5_set 32 = .ok (.sipush 200, 3) := by decide +kernel
theorem dX5_set_35 : decode cX5_set 35 = .ok (.invokestatic 44, 3) := by decide +kernel
theorem dX5_set_38 : decode cX5_set 38 = .ok (.ifCond .eq 7, 3) := by decide +kernel
theorem dX5_set_41 : decode cX5_set 41 = .ok (.iconst 1, 1) := by decide +kernel
theorem dX5_set_42 : decode cX5_set 42 = .ok (.goto 4, 3) := by decide +kernel
theorem dX5_set_45 : decode cX5_set 45 = .ok (.iconst 0, 1) := by decide +kernel
theorem dX5_set_46 : decode cX5_set 46 = .ok (.istore 4, 2) := by decide +kernel
theorem dX5_set_48 : decode cX5_set 48 = .ok (.iload 4, 2) := by decide +kernel
theorem dX5_set_50 : decode cX5_set 50 = .ok (.ifCond .eq 19, 3) := by decide +kernel
theorem dX5_set_53 : decode cX5_set 53 = .ok (.aload_n 0, 1) := by decide +kernel
theorem dX5_set_54 : decode cX5_set 54 = .ok (.bipush 12, 2) := by decide +kernel
theorem dX5_set_56 : decode cX5_set 56 = .ok (.iconst 5, 1) := by decide +kernel
theorem dX5_set_57 : decode cX5_set 57 = .ok (.iload_n 1, 1) := by decide +kernel
theorem dX5_set_58 : decode cX5_set 58 = .ok (.imul, 1) := by decide +kernel
theorem dX5_set_59 : decode cX5_set 59 = .ok (.iadd, 1) := by decide +kernel
theorem dX5_set_60 : decode cX5_set 60 = .ok (.iload_n 2, 1) := by decide +kernel
theorem dX5_set_61 : decode cX5_set 61 = .ok (.iadd, 1) := by decide +kernel
theorem dX5_set_62 : decode cX5_set 62 = .ok (.iload_n 3, 1) := by decide +kernel
theorem dX5_set_63 : decode cX5_set 63 = .ok (.invokevirtual 73, 3) := by decide +kernel
theorem dX5_set_66 : decode cX5_set 66 = .ok (.goto 9, 3) := by decide +kernel
theorem dX5_set_69 : decode cX5_set 69 = .ok (.aload_n 0, 1) := by decide +kernel
theorem dX5_set_70 : decode cX5_set 70 = .ok (.ldc 38, 2) := by decide +kernel
theorem dX5_set_72 : decode cX5_set 72 = .ok (.invokevirtual 40, 3) := by decide +kernel
theorem dX5_set_75 : decode cX5_set 75 = .ok (.ireturn, 1) := by decide +kernel
theorem dX5_turn_0 : decode cX5_turn 0 = .ok (.aload_n 0, 1) := by decide +kernel
theorem dX5_turn_1 : decode cX5_turn 1 = .ok (.iload_n 1, 1) := by decide +kernel
theorem dX5_turn_2 : decode cX5_turn 2 = .ok (.invokevirtual 48, 3) := by decide +kernel
theorem dX5_turn_5 : decode cX5_turn 5 = .ok (.ifCond .eq 27, 3) := by decide +kernel
theorem dX5_turn_8 : decode cX5_turn 8 = .ok (.iload_n 2, 1) := by decide +kernel
theorem dX5_turn_9 : decode cX5_turn 9 = .ok (.i2l, 1) := by decide +kernel
theorem dX5_turn_10 : decode cX5_turn 10 = .ok (.iconst 0, 1) := by decide +kernel
theorem dX5_turn_11 : decode cX5_turn 11 = .ok (.iconst 5, 1) := by decide +kernel
theorem dX5_turn_12 : decode cX5_turn 12 = .ok (.invokestatic 44, 3) := by decide +kernel
theorem dX5_turn_15 : decode cX5_turn 15 = .ok (.ifCond .eq 17, 3) := by decide +kernel
theorem dX5_turn_18 : decode cX5_turn 18 = .ok (.aload_n 0, 1) := by decide +kernel
theorem dX5_turn_19 : decode cX5_turn 19 = .ok (.bipush 12, 2) := by decide +kernel
theorem dX5_turn_21 : decode cX5_turn 21 = .ok (.iconst 5, 1) := by decide +kernel
theorem dX5_turn_22 : decode cX5_turn 22 = .ok (.iload_n 1, 1) := by decide +kernel
theorem dX5_turn_23 : decode cX5_turn 23 = .ok (.imul, 1) := by decide +kernel
theorem dX5_turn_24 : decode cX5_turn 24 = .ok (.iadd, 1) := by decide +kernel
theorem dX5_turn_25 : decode cX5_turn 25 = .ok (.iload_n 2, 1) := by decide +kernel
theorem dX5_turn_26 : decode cX5_turn 26 = .ok (.invokevirtual 73, 3) := by decide +kernel
theorem dX5_turn_29 : decode cX5_turn 29 = .ok (.goto 9, 3) := by decide +kernel
theorem dX5_turn_32 : decode cX5_turn 32 = .ok (.aload_n 0, 1) := by decide +kernel
theorem dX5_turn_33 : decode cX5_turn 33 = .ok (.ldc 38, 2) := by decide +kernel
theorem dX5_turn_35 : decode cX5_turn 35 = .ok (.invokevirtual 40, 3) := by decide +kernel
theorem dX5_turn_38 : decode cX5_turn 38 = .ok (.ireturn, 1) := by decide +kernel
theorem dX5_as_0 : decode cX5_as 0 = .ok (.aload_n 0, 1) := by decide +kernel
theorem dX5_as_1 : decode cX5_as 1 = .ok (.iload_n 1, 1) := by decide +kernel
theorem dX5_as_2 : decode cX5_as 2 = .ok (.invokevirtual 48, 3) := by decide +kernel
theorem dX5_as_5 : decode cX5_as 5 = .ok (.ifCond .eq 13, 3) := by decide +kernel
theorem dX5_as_8 : decode cX5_as 8 = .ok (.iload_n 2, 1) := by decide +kernel
theorem dX5_as_9 : decode cX5_as 9 = .ok (.i2l, 1) := by decide +kernel
theorem dX5_as_10 : decode cX5_as 10 = .ok (.iconst 0, 1) := by decide +kernel
theorem dX5_as_11 : decode cX5_as 11 = .ok (.iconst 5, 1) := by decide +kernel
theorem dX5_as_12 : decode cX5_as 12 = .ok (.invokestatic 44, 3) := by decide +kernel
theorem dX5_as_15 : decode cX5_as 15 = .ok (.ifCond .ne 10, 3) := by decide +kernel
theorem dX5_as_18 : decode cX5_as 18 = .ok (.aload_n 0, 1) := by decide +kernel
theorem dX5_as_19 : decode cX5_as 19 = .ok (.ldc 38, 2) := by decide +kernel
theorem dX5_as_21 : decode cX5_as 21 = .ok (.invokevirtual 40, 3) := by decide +kernel
theorem dX5_as_24 : decode cX5_as 24 = .ok (.ireturn, 1) := by decide +kernel
theorem dX5_as_25 : decode cX5_as 25 = .ok (.aload_n 0, 1) := by decide +kernel
theorem dX5_as_26 : decode cX5_as 26 = .ok (.iload_n 1, 1) := by decide +kernel
theorem dX5_as_27 : decode cX5_as 27 = .ok (.iconst 0, 1) := by decide +kernel
theorem dX5_as_28 : decode cX5_as 28 = .ok (.invokevirtual 52, 3) := by decide +kernel
theorem dX5_as_31 : decode cX5_as 31 = .ok (.istore_n 3, 1) := by decide +kernel
theorem dX5_as_32 : decode cX5_as 32 = .ok (.iload_n 2, 1) := by decide +kernel
theorem dX5_as_33 : decode cX5_as 33 = .ok (.ifCond .eq 28, 3) := by decide +kernel
theorem dX5_as_36 : decode cX5_as 36 = .ok (.iload_n 2, 1) := by decide +kernel
theorem dX5_as_37 : decode cX5_as 37 = .ok (.iload_n 3, 1) := by decide +kernel
theorem dX5_as_38 : decode cX5_as 38 = .ok (.if_icmp .eq 23, 3) := by decide +kernel
theorem dX5_as_41 : decode cX5_as 41 = .ok (.iload_n 2, 1) := by decide +kernel
theorem dX5_as_42 : decode cX5_as 42 = .ok (.iconst 2, 1) := by decide +kernel
theorem dX5_as_43 : decode cX5_as 43 = .ok (.if_icmp .ne 8, 3) := by decide +kernel
theorem dX5_as_46 : decode cX5_as 46 = .ok (.iload_n 3, 1) := by decide +kernel
theorem dX5_as_47 : decode cX5_as 47 = .ok (.iconst 4, 1) := by decide +kernel
theorem dX5_as_48 : decode cX5_as 48 = .ok (.if_icmp .eq 13, 3) := by decide +kernel
theorem dX5_as_51 : decode cX5_as 51 = .ok (.iload_n 2, 1) := by decide +kernel
theorem dX5_as_52 : decode cX5_as 52 = .ok (.iconst 1, 1) := by decide +kernel
theorem dX5_as_53 : decode cX5_as 53 = .ok (.if_icmp .ne 12, 3) := by decide +kernel
theorem dX5_as_56 : decode cX5_as 56 = .ok (.iload_n 3, 1) := by decide +kernel
theorem dX5_as_57 : decode cX5_as 57 = .ok (.iconst 5, 1) := by decide +kernel
theorem dX5_as_58 : decode cX5_as 58 = .ok (.if_icmp .ne 7, 3) := by decide +kernel
theorem dX5_as_61 : decode cX5_as 61 = .ok (.iconst 1, 1) := by decide +kernel
theorem dX5_as_62 : decode cX5_as 62 = .ok (.goto 4, 3) := by decide +kernel
theorem dX5_as_65 : decode cX5_as 65 = .ok (.iconst 0, 1) := by decide +kernel
theorem dX5_as_66 : decode cX5_as 66 = .ok (.istore 4, 2) := by decide +kernel
theorem dX5_as_68 : decode cX5_as 68 = .ok (.iload 4, 2) := by decide +kernel
theorem dX5_as_70 : decode cX5_as 70 = .ok (.ifCond .eq 11, 3) := by decide +kernel
theorem dX5_as_73 : decode cX5_as 73 = .ok (.aload_n 0, 1) := by decide +kernel
theorem dX5_as_74 : decode cX5_as 74 = .ok (.iload_n 1, 1) := by decide +kernel
theorem dX5_as_75 : decode cX5_as 75 = .ok (.invokevirtual 105, 3) := by decide +kernel
theorem dX5_as_78 : decode cX5_as 78 = .ok (.goto 9, 3) := by decide +kernel
theorem dX5_as_81 : decode cX5_as 81 = .ok (.aload_n 0, 1) := by decide +kernel
theorem dX5_as_82 : decode cX5_as 82 = .ok (.ldc 108, 2) := by decide +kernel
theorem dX5_as_84 : decode cX5_as 84 = .ok (.invokevirtual 40, 3) := by decide +kernel
theorem dX5_as_87 : decode cX5_as 87 = .ok (.ireturn, 1) := by decide +kernel
theorem dX5_isFreeFor_0 : decode cX5_isFreeFor 0 = .ok (.iload_n 1, 1) := by decide +kernel
theorem dX5_isFreeFor_1 : decode cX5_isFreeFor 1 = .ok (.ifCond .ge 7, 3) := by decide +kernel
theorem dX5_isFreeFor_4 : decode cX5_isFreeFor 4 = .ok (.iconst (-1), 1) := by decide +kernel
theorem dX5_isFreeFor_5 : decode cX5_isFreeFor 5 = .ok (.goto 8, 3) := by decide +kernel
theorem dX5_isFreeFor_8 : decode cX5_isFreeFor 8 = .ok (.aload_n 0, 1) := by decide +kernel
theorem dX5_isFreeFor_9 : decode cX5_isFreeFor 9 = .ok (.iload_n 1, 1) := by decide +kernel
theorem dX5_isFreeFor_10 : decode cX5_isFreeFor 10 = .ok (.invokevirtual 59, 3) := by decide +kernel
theorem dX5_isFreeFor_13 : decode cX5_isFreeFor 13 = .ok (.istore_n 3, 1) := by decide +kernel
theorem dX5_isFreeFor_14 : decode cX5_isFreeFor 14 = .ok (.iload_n 3, 1) := by decide +kernel
theorem dX5_isFreeFor_15 : decode cX5_isFreeFor 15 = .ok (.ifCond .lt 8, 3) := by decide +kernel
theorem dX5_isFreeFor_18 : decode cX5_isFreeFor 18 = .ok (.iload_n 3, 1) := by decide +kernel
theorem dX5_isFreeFor_19 : decode cX5_isFreeFor 19 = .ok (.iload_n 2, 1) := by decide +kernel
theorem dX5_isFreeFor_20 : decode cX5_isFreeFor 20 = .ok (.if_icmp .ne 7, 3) := by decide +kernel
theorem dX5_isFreeFor_23 : decode cX5_isFreeFor 23 = .ok (.iconst 1, 1) := by decide +kernel
theorem dX5_isFreeFor_24 : decode cX5_isFreeFor 24 = .ok (.goto 4, 3) := by decide +kernel
theorem dX5_isFreeFor_27 : decode cX5_isFreeFor 27 = .ok (.iconst 0, 1) := by decide +kernel
theorem dX5_isFreeFor_28 : decode cX5_isFreeFor 28 = .ok (.ireturn, 1) := by decide +kernel
theorem dX5_sit_0 : decode cX5_sit 0 = .ok (.aload_n 0, 1) := by decide +kernel
theorem dX5_sit_1 : decode cX5_sit 1 = .ok (.iload_n 1, 1) := by decide +kernel
theorem dX5_sit_2 : decode cX5_sit 2 = .ok (.invokevirtual 48, 3) := by decide +kernel
theorem dX5_sit_5 : decode cX5_sit 5 = .ok (.ifCond .eq 14, 3) := by decide +kernel
theorem dX5_sit_8 : decode cX5_sit 8 = .ok (.iload_n 2, 1) := by decide +kernel
theorem dX5_sit_9 : decode cX5_sit 9 = .ok (.i2l, 1) := by decide +kernel
theorem dX5_sit_10 : decode cX5_sit 10 = .ok (.iconst (-1), 1) := by decide +kernel
theorem dX5_sit_11 : decode cX5_sit 11 = .ok (.bipush 9, 2) := by decide +kernel
theorem dX5_sit_13 : decode cX5_sit 13 = .ok (.invokestatic 44, 3) := by decide +kernel
theorem dX5_sit_16 : decode cX5_sit 16 = .ok (.ifCond .ne 10, 3) := by decide +kernel
theorem dX5_sit_19 : decode cX5_sit 19 = .ok (.aload_n 0, 1) := by decide +kernel
theorem dX5_sit_20 : decode cX5_sit 20 = .ok (.ldc 38, 2) := by decide +kernel
theorem dX5_sit_22 : decode cX5_sit 22 = .ok (.invokevirtual 40, 3) := by decide +kernel
theorem dX5_sit_25 : decode cX5_sit 25 = .ok (.ireturn, 1) := by decide +kernel
theorem dX5_sit_26 : decode cX5_sit 26 = .ok (.aload_n 0, 1) := by decide +kernel
theorem dX5_sit_27 : decode cX5_sit 27 = .ok (.iload_n 2, 1) := by decide +kernel
theorem dX5_sit_28 : decode cX5_sit 28 = .ok (.iload_n 1, 1) := by decide +kernel
theorem dX5_sit_29 : decode cX5_sit 29 = .ok (.invokevirtual 109, 3) := by decide +kernel
theorem dX5_sit_32 : decode cX5_sit 32 = .ok (.ifCond .eq 19, 3) := by decide +kernel
theorem dX5_sit_35 : decode cX5_sit 35 = .ok (.aload_n 0, 1) := by decide +kernel
theorem dX5_sit_36 : decode cX5_sit 36 = .ok (.bipush 12, 2) := by decide +kernel
theorem dX5_sit_38 : decode cX5_sit 38 = .ok (.iconst 5, 1) := by decide +kernel
theorem dX5_sit_39 : decode cX5_sit 39 = .ok (.iload_n 1, 1) := by decide +kernel
theorem dX5_sit_40 : decode cX5_sit 40 = .ok (.imul, 1) := by decide +kernel
theorem dX5_sit_41 : decode cX5_sit 41 = .ok (.iadd, 1) := by decide +kernel
theorem dX5_sit_42 : decode cX5_sit 42 = .ok (.iconst 1, 1) := by decide +kernel
theorem dX5_sit_43 : decode cX5_sit 43 = .ok (.iadd, 1) := by decide +kernel
theorem dX5_sit_44 : decode cX5_sit 44 = .ok (.iload_n 2, 1) := by decide +kernel
theorem dX5_sit_45 : decode cX5_sit 45 = .ok (.invokevirtual 73, 3) := by decide +kernel
theorem dX5_sit_48 : decode cX5_sit 48 = .ok (.goto 9, 3) := by decide +kernel
theorem dX5_sit_51 : decode cX5_sit 51 = .ok (.aload_n 0, 1) := by decide +kernel
theorem dX5_sit_52 : decode cX5_sit 52 = .ok (.ldc 113, 2) := by decide +kernel
theorem dX5_sit_54 : decode cX5_sit 54 = .ok (.invokevirtual 40, 3) := by decide +kernel
theorem dX5_sit_57 : decode cX5_sit 57 = .ok (.ireturn, 1) := by decide +kernel
theorem dX5_given_0 : decode cX5_given 0 = .ok (.aload_n 0, 1) := by decide +kernel
theorem dX5_given_1 : decode cX5_given 1 = .ok (.iload_n 1, 1) := by decide +kernel
theorem dX5_given_2 : decode cX5_given 2 = .ok (.invokevirtual 48, 3) := by decide +kernel
theorem dX5_given_5 : decode cX5_given 5 = .ok (.ifCond .eq 22, 3) := by decide +kernel
theorem dX5_given_8 : decode cX5_given 8 = .ok (.iload_n 2, 1) := by decide +kernel
theorem dX5_given_9 : decode cX5_given 9 = .ok (.i2l, 1) := by decide +kernel
theorem dX5_given_10 : decode cX5_given 10 = .ok (.iconst 0, 1) := by decide +kernel
theorem dX5_given_11 : decode cX5_given 11 = .ok (.iconst 1, 1) := by decide +kernel
theorem dX5_given_12 : decode cX5_given 12 = .ok (.invokestatic 44, 3) := by decide +kernel
theorem dX5_given_15 : decode cX5_given 15 = .ok (.ifCond .eq 12, 3) := by decide +kernel
theorem dX5_given_18 : decode cX5_given 18 = .ok (.aload_n 0, 1) := by decide +kernel
theorem dX5_given_19 : decode cX5_given 19 = .ok (.iload_n 1, 1) := by decide +kernel
theorem dX5_given_20 : decode cX5_given 20 = .ok (.iload_n 2, 1) := by decide +kernel
theorem dX5_given_21 : decode cX5_given 21 = .ok (.invokevirtual 114, 3) := by decide +kernel
theorem dX5_given_24 : decode cX5_given 24 = .ok (.goto 9, 3) := by decide +kernel
theorem dX5_given_27 : decode cX5_given 27 = .ok (.aload_n 0, 1) := by decide +kernel
theorem dX5_given_28 : decode cX5_given 28 = .ok (.ldc 38, 2) := by decide +kernel
theorem dX5_given_30 : decode cX5_given 30 = .ok (.invokevirtual 40, 3) := by decide +kernel
theorem dX5_given_33 : decode cX5_given 33 = .ok (.ireturn, 1) := by decide +kernel
theorem dX5_browns_0 : decode cX5_browns 0 = .ok (.aload_n 0, 1) := by decide +kernel
theorem dX5_browns_1 : decode cX5_browns 1 = .ok (.getfield 22, 3) := by decide +kernel
theorem dX5_browns_4 : decode cX5_browns 4 = .ok (.iconst 2, 1) := by decide +kernel
theorem dX5_browns_5 : decode cX5_browns 5 = .ok (.iload_n 1, 1) := by decide +kernel
theorem dX5_browns_6 : decode cX5_browns 6 = .ok (.imul, 1) := by decide +kernel
theorem dX5_browns_7 : decode cX5_browns 7 = .ok (.iload_n 2, 1) := by decide +kernel
theorem dX5_browns_8 : decode cX5_browns 8 = .ok (.iadd, 1) := by decide +kernel
theorem dX5_browns_9 : decode cX5_browns 9 = .ok (.iaload, 1) := by decide +kernel
theorem dX5_browns_10 : decode cX5_browns 10 = .ok (.istore_n 3, 1) := by decide +kernel
theorem dX5_browns_11 : decode cX5_browns 11 = .ok (.aload_n 0, 1) := by decide +kernel
theorem dX5_browns_12 : decode cX5_browns 12 = .ok (.iload_n 1, 1) := by decide +kernel
theorem dX5_browns_13 : decode cX5_browns 13 = .ok (.iconst 2, 1) := by decide +kernel
theorem dX5_browns_14 : decode cX5_browns 14 = .ok (.iload_n 2, 1) := by decide +kernel
theorem dX5_browns_15 : decode cX5_browns 15 = .ok (.iadd, 1) := by decide +kernel
theorem dX5_browns_16 : decode cX5_browns 16 = .ok (.aload_n 0, 1) := by decide +kernel
theorem dX5_browns_17 : decode cX5_browns 17 = .ok (.iload_n 1, 1) := by decide +kernel
theorem dX5_browns_18 : decode cX5_browns 18 = .ok (.iconst 2, 1) := by decide +kernel
theorem dX5_browns_19 : decode cX5_browns 19 = .ok (.iload_n 2, 1) := by decide +kernel
theorem dX5_browns_20 : decode cX5_browns 20 = .ok (.iadd, 1) := by decide +kernel
theorem dX5_browns_21 : decode cX5_browns 21 = .ok (.invokevirtual 52, 3) := by decide +kernel
theorem dX5_browns_24 : decode cX5_browns 24 = .ok (.aload_n 0, 1) := by decide +kernel
theorem dX5_browns_25 : decode cX5_browns 25 = .ok (.iload_n 1, 1) := by decide +kernel
theorem dX5_browns_26 : decode cX5_browns 26 = .ok (.iload_n 3, 1) := by decide +kernel
theorem dX5_browns_27 : decode cX5_browns 27 = .ok (.invokevirtual 117, 3) := by decide +kernel
theorem dX5_browns_30 : decode cX5_browns 30 = .ok (.iadd, 1) := by decide +kernel
theorem dX5_browns_31 : decode cX5_browns 31 = .ok (.aload_n 0, 1) := by decide +kernel
theorem dX5_browns_32 : decode cX5_browns 32 = .ok (.iload_n 1, 1) := by decide +kernel
theorem dX5_browns_33 : decode cX5_browns 33 = .ok (.invokevirtual 99, 3) := by decide +kernel
theorem dX5_browns_36 : decode cX5_browns 36 = .ok (.isub, 1) := by decide +kernel
theorem dX5_browns_37 : decode cX5_browns 37 = .ok (.iconst 0, 1) := by decide +kernel
theorem dX5_browns_38 : decode cX5_browns 38 = .ok (.sipush 200, 3) := by decide +kernel
theorem dX5_browns_41 : decode cX5_browns 41 = .ok (.invokestatic 120, 3) := by decide +kernel
theorem dX5_browns_44 : decode cX5_browns 44 = .ok (.invokevirtual 91, 3) := by decide +kernel
theorem dX5_browns_47 : decode cX5_browns 47 = .ok (.aload_n 0, 1) := by decide +kernel
theorem dX5_browns_48 : decode cX5_browns 48 = .ok (.iload_n 1, 1) := by decide +kernel
theorem dX5_browns_49 : decode cX5_browns 49 = .ok (.iconst 4, 1) := by decide +kernel
theorem dX5_browns_50 : decode cX5_browns 50 = .ok (.aload_n 0, 1) := by decide +kernel
theorem dX5_browns_51 : decode cX5_browns 51 = .ok (.iload_n 1, 1) := by decide +kernel
theorem dX5_browns_52 : decode cX5_browns 52 = .ok (.iconst 4, 1) := by decide +kernel
theorem dX5_browns_53 : decode cX5_browns 53 = .ok (.invokevirtual 52, 3) := by decide +kernel
theorem dX5_browns_56 : decode cX5_browns 56 = .ok (.iload_n 3, 1) := by decide +kernel
theorem dX5_browns_57 : decode cX5_browns 57 = .ok (.aload_n 0, 1) := by decide +kernel
theorem dX5_browns_58 : decode cX5_browns 58 = .ok (.iload_n 1, 1) := by decide +kernel
theorem dX5_browns_59 : decode cX5_browns 59 = .ok (.invokevirtual 102, 3) := by decide +kernel
theorem dX5_browns_62 : decode cX5_browns 62 = .ok (.if_icmp .lt 7, 3) := by decide +kernel
theorem dX5_browns_65 : decode cX5_browns 65 = .ok (.iconst 1, 1) := by decide +kernel
theorem dX5_browns_66 : decode cX5_browns 66 = .ok (.goto 4, 3) := by decide +kernel
theorem dX5_browns_69 : decode cX5_browns 69 = .ok (.iconst 0, 1) := by decide +kernel
theorem dX5_browns_70 : decode cX5_browns 70 = .ok (.iadd, 1) := by decide +kernel
theorem dX5_browns_71 : decode cX5_browns 71 = .ok (.iconst 0, 1) := by decide +kernel
theorem dX5_browns_72 : decode cX5_browns 72 = .ok (.sipush 9999, 3) := by decide +kernel
theorem dX5_browns_75 : decode cX5_browns 75 = .ok (.invokestatic 120, 3) := by decide +kernel
theorem dX5_browns_78 : decode cX5_browns 78 = .ok (.invokevirtual 91, 3) := by decide +kernel
theorem dX5_browns_81 : decode cX5_browns 81 = .ok (.return_, 1) := by decide +kernel
theorem dX5_goes_0 : decode cX5_goes 0 = .ok (.iconst 0, 1) := by decide +kernel
theorem dX5_goes_1 : decode cX5_goes 1 = .ok (.istore_n 1, 1) := by decide +kernel
theorem dX5_goes_2 : decode cX5_goes 2 = .ok (.iload_n 1, 1) := by decide +kernel
theorem dX5_goes_3 : decode cX5_goes 3 = .ok (.iconst 2, 1) := by decide +kernel
theorem dX5_goes_4 : decode cX5_goes 4 = .ok (.aload_n 0, 1) := by decide +kernel
theorem dX5_goes_5 : decode cX5_goes 5 = .ok (.getfield 9, 3) := by decide +kernel
theorem dX5_goes_8 : decode cX5_goes 8 = .ok (.iconst 1, 1) := by decide +kernel
theorem dX5_goes_9 : decode cX5_goes 9 = .ok (.iaload, 1) := by decide +kernel
theorem dX5_goes_10 : decode cX5_goes 10 = .ok (.imul, 1) := by decide +kernel
theorem dX5_goes_11 : decode cX5_goes 11 = .ok (.if_icmp .ge 25, 3) := by decide +kernel
theorem dX5_goes_14 : decode cX5_goes 14 = .ok (.aload_n 0, 1) := by decide +kernel
theorem dX5_goes_15 : decode cX5_goes 15 = .ok (.getfield 22, 3) := by decide +kernel
theorem dX5_goes_18 : decode cX5_goes 18 = .ok (.iload_n 1, 1) := by decide +kernel
theorem dX5_goes_19 : decode cX5_goes 19 = .ok (.aload_n 0, 1) := by decide +kernel
theorem dX5_goes_20 : decode cX5_goes 20 = .ok (.iload_n 1, 1) := by decide +kernel
theorem dX5_goes_21 : decode cX5_goes 21 = .ok (.iconst 2, 1) := by decide +kernel
theorem dX5_goes_22 : decode cX5_goes 22 = .ok (.idiv, 1) := by decide +kernel
theorem dX5_goes_23 : decode cX5_goes 23 = .ok (.iload_n 1, 1) := by decide +kernel
theorem dX5_goes_24 : decode cX5_goes 24 = .ok (.iconst 2, 1) := by decide +kernel
theorem dX5_goes_25 : decode cX5_goes 25 = .ok (.irem, 1) := by decide +kernel
theorem dX5_goes_26 : decode cX5_goes 26 = .ok (.invokevirtual 114, 3) := by decide +kernel
theorem dX5_goes_29 : decode cX5_goes 29 = .ok (.iastore, 1) := by decide +kernel
theorem dX5_goes_30 : decode cX5_goes 30 = .ok (.iinc 1 1, 3) := by decide +kernel
theorem dX5_goes_33 : decode cX5_goes 33 = .ok (.goto (-31), 3) := by decide +kernel
theorem dX5_goes_36 : decode cX5_goes 36 = .ok (.iconst 0, 1) := by decide +kernel
theorem dX5_goes_37 : decode cX5_goes 37 = .ok (.istore_n 1, 1) := by decide +kernel
theorem dX5_goes_38 : decode cX5_goes 38 = .ok (.iload_n 1, 1) := by decide +kernel
theorem dX5_goes_39 : decode cX5_goes 39 = .ok (.iconst 2, 1) := by decide +kernel
theorem dX5_goes_40 : decode cX5_goes 40 = .ok (.aload_n 0, 1) := by decide +kernel
theorem dX5_goes_41 : decode cX5_goes 41 = .ok (.getfield 9, 3) := by decide +kernel
theorem dX5_goes_44 : decode cX5_goes 44 = .ok (.iconst 1, 1) := by decide +kernel
theorem dX5_goes_45 : decode cX5_goes 45 = .ok (.iaload, 1) := by decide +kernel
theorem dX5_goes_46 : decode cX5_goes 46 = .ok (.imul, 1) := by decide +kernel
theorem dX5_goes_47 : decode cX5_goes 47 = .ok (.if_icmp .ge 29, 3) := by decide +kernel
theorem dX5_goes_50 : decode cX5_goes 50 = .ok (.aload_n 0, 1) := by decide +kernel
theorem dX5_goes_51 : decode cX5_goes 51 = .ok (.iload_n 1, 1) := by decide +kernel
theorem dX5_goes_52 : decode cX5_goes 52 = .ok (.iconst 2, 1) := by decide +kernel
theorem dX5_goes_53 : decode cX5_goes 53 = .ok (.idiv, 1) := by decide +kernel
theorem dX5_goes_54 : decode cX5_goes 54 = .ok (.invokevirtual 56, 3) := by decide +kernel
theorem dX5_goes_57 : decode cX5_goes 57 = .ok (.ifCond .eq 13, 3) := by decide +kernel
theorem dX5_goes_60 : decode cX5_goes 60 = .ok (.aload_n 0, 1) := by decide +kernel
theorem dX5_goes_61 : decode cX5_goes 61 = .ok (.iload_n 1, 1) := by decide +kernel
theorem dX5_goes_62 : decode cX5_goes 62 = .ok (.iconst 2, 1) := by decide +kernel
theorem dX5_goes_63 : decode cX5_goes 63 = .ok (.idiv, 1) := by decide +kernel
theorem dX5_goes_64 : decode cX5_goes 64 = .ok (.iload_n 1, 1) := by decide +kernel
theorem dX5_goes_65 : decode cX5_goes 65 = .ok (.iconst 2, 1) := by decide +kernel
theorem dX5_goes_66 : decode cX5_goes 66 = .ok (.irem, 1) := by decide +kernel
theorem dX5_goes_67 : decode cX5_goes 67 = .ok (.invokevirtual 123, 3) := by decide +kernel
theorem dX5_goes_70 : decode cX5_goes 70 = .ok (.iinc 1 1, 3) := by decide +kernel
theorem dX5_goes_73 : decode cX5_goes 73 = .ok (.goto (-35), 3) := by decide +kernel
theorem dX5_goes_76 : decode cX5_goes 76 = .ok (.aload_n 0, 1) := by decide +kernel
theorem dX5_goes_77 : decode cX5_goes 77 = .ok (.getfield 9, 3) := by decide +kernel
theorem dX5_goes_80 : decode cX5_goes 80 = .ok (.iconst 0, 1) := by decide +kernel
theorem dX5_goes_81 : decode cX5_goes 81 = .ok (.dup2, 1) := by decide +kernel
theorem dX5_goes_82 : decode cX5_goes 82 = .ok (.iaload, 1) := by decide +kernel
theorem dX5_goes_83 : decode cX5_goes 83 = .ok (.iconst 1, 1) := by decide +kernel
theorem dX5_goes_84 : decode cX5_goes 84 = .ok (.iadd, 1) := by decide +kernel
theorem dX5_goes_85 : decode cX5_goes 85 = .ok (.iastore, 1) := by decide +kernel
theorem dX5_goes_86 : decode cX5_goes 86 = .ok (.return_, 1) := by decide +kernel
theorem dX5_goesFor_0 : decode cX5_goesFor 0 = .ok (.iconst 0, 1) := by decide +kernel
theorem dX5_goesFor_1 : decode cX5_goesFor 1 = .ok (.istore_n 2, 1) := by decide +kernel
theorem dX5_goesFor_2 : decode cX5_goesFor 2 = .ok (.iload_n 2, 1) := by decide +kernel
theorem dX5_goesFor_3 : decode cX5_goesFor 3 = .ok (.iload_n 1, 1) := by decide +kernel
theorem dX5_goesFor_4 : decode cX5_goesFor 4 = .ok (.if_icmp .ge 13, 3) := by decide +kernel
theorem dX5_goesFor_7 : decode cX5_goesFor 7 = .ok (.aload_n 0, 1) := by decide +kernel
theorem dX5_goesFor_8 : decode cX5_goesFor 8 = .ok (.invokevirtual 127, 3) := by decide +kernel
theorem dX5_goesFor_11 : decode cX5_goesFor 11 = .ok (.iinc 2 1, 3) := by decide +kernel
theorem dX5_goesFor_14 : decode cX5_goesFor 14 = .ok (.goto (-12), 3) := by decide +kernel
theorem dX5_goesFor_17 : decode cX5_goesFor 17 = .ok (.return_, 1) := by decide +kernel
theorem dX5_hours_0 : decode cX5_hours 0 = .ok (.iload_n 1, 1) := by decide +kernel
theorem dX5_hours_1 : decode cX5_hours 1 = .ok (.i2l, 1) := by decide +kernel
theorem dX5_hours_2 : decode cX5_hours 2 = .ok (.iconst 1, 1) := by decide +kernel
theorem dX5_hours_3 : decode cX5_hours 3 = .ok (.bipush 100, 2) := by decide +kernel
theorem dX5_hours_5 : decode cX5_hours 5 = .ok (.invokestatic 44, 3) := by decide +kernel
theorem dX5_hours_8 : decode cX5_hours 8 = .ok (.ifCond .ne 10, 3) := by decide +kernel
theorem dX5_hours_11 : decode cX5_hours 11 = .ok (.aload_n 0, 1) := by decide +kernel
theorem dX5_hours_12 : decode cX5_hours 12 = .ok (.ldc 38, 2) := by decide +kernel
theorem dX5_hours_14 : decode cX5_hours 14 = .ok (.invokevirtual 40, 3) := by decide +kernel
theorem dX5_hours_17 : decode cX5_hours 17 = .ok (.ireturn, 1) := by decide +kernel
theorem dX5_hours_18 : decode cX5_hours 18 = .ok (.aload_n 0, 1) := by decide +kernel
theorem dX5_hours_19 : decode cX5_hours 19 = .ok (.getfield 9, 3) := by decide +kernel
theorem dX5_hours_22 : decode cX5_hours 22 = .ok (.iconst 0, 1) := by decide +kernel
theorem dX5_hours_23 : decode cX5_hours 23 = .ok (.iaload, 1) := by decide +kernel
theorem dX5_hours_24 : decode cX5_hours 24 = .ok (.iload_n 1, 1) := by decide +kernel
theorem dX5_hours_25 : decode cX5_hours 25 = .ok (.iadd, 1) := by decide +kernel
theorem dX5_hours_26 : decode cX5_hours 26 = .ok (.ldc 130, 2) := by decide +kernel
theorem dX5_hours_28 : decode cX5_hours 28 = .ok (.if_icmp .le 10, 3) := by decide +kernel
theorem dX5_hours_31 : decode cX5_hours 31 = .ok (.aload_n 0, 1) := by decide +kernel
theorem dX5_hours_32 : decode cX5_hours 32 = .ok (.ldc 113, 2) := by decide +kernel
theorem dX5_hours_34 : decode cX5_hours 34 = .ok (.invokevirtual 40, 3) := by decide +kernel
theorem dX5_hours_37 : decode cX5_hours 37 = .ok (.ireturn, 1) := by decide +kernel
theorem dX5_hours_38 : decode cX5_hours 38 = .ok (.aload_n 0, 1) := by decide +kernel
theorem dX5_hours_39 : decode cX5_hours 39 = .ok (.iload_n 1, 1) := by decide +kernel
theorem dX5_hours_40 : decode cX5_hours 40 = .ok (.invokevirtual 131, 3) := by decide +kernel
theorem dX5_hours_43 : decode cX5_hours 43 = .ok (.aload_n 0, 1) := by decide +kernel
theorem dX5_hours_44 : decode cX5_hours 44 = .ok (.invokevirtual 88, 3) := by decide +kernel
theorem dX5_hours_47 : decode cX5_hours 47 = .ok (.ireturn, 1) := by decide +kernel
theorem dX5_thinks_0 : decode cX5_thinks 0 = .ok (.aload_n 0, 1) := by decide +kernel
theorem dX5_thinks_1 : decode cX5_thinks 1 = .ok (.getfield 9, 3) := by decide +kernel
theorem dX5_thinks_4 : decode cX5_thinks 4 = .ok (.aload_n 0, 1) := by decide +kernel
theorem dX5_thinks_5 : decode cX5_thinks 5 = .ok (.getfield 16, 3) := by decide +kernel
theorem dX5_thinks_8 : decode cX5_thinks 8 = .ok (.invokestatic 135, 3) := by decide +kernel
theorem dX5_thinks_11 : decode cX5_thinks 11 = .ok (.return_, 1) := by decide +kernel
theorem dX5_putsBack_0 : decode cX5_putsBack 0 = .ok (.aload_n 0, 1) := by decide +kernel
theorem dX5_putsBack_1 : decode cX5_putsBack 1 = .ok (.getfield 16, 3) := by decide +kernel
theorem dX5_putsBack_4 : decode cX5_putsBack 4 = .ok (.aload_n 0, 1) := by decide +kernel
theorem dX5_putsBack_5 : decode cX5_putsBack 5 = .ok (.getfield 9, 3) := by decide +kernel
theorem dX5_putsBack_8 : decode cX5_putsBack 8 = .ok (.invokestatic 135, 3) := by decide +kernel
theorem dX5_putsBack_11 : decode cX5_putsBack 11 = .ok (.return_, 1) := by decide +kernel
theorem dX5_on_0 : decode cX5_on 0 = .ok (.aload_n 0, 1) := by decide +kernel
theorem dX5_on_1 : decode cX5_on 1 = .ok (.iload_n 1, 1) := by decide +kernel
theorem dX5_on_2 : decode cX5_on 2 = .ok (.invokevirtual 48, 3) := by decide +kernel
theorem dX5_on_5 : decode cX5_on 5 = .ok (.ifCond .eq 25, 3) := by decide +kernel
theorem dX5_on_8 : decode cX5_on 8 = .ok (.iload_n 2, 1) := by decide +kernel
theorem dX5_on_9 : decode cX5_on 9 = .ok (.i2l, 1) := by decide +kernel
theorem dX5_on_10 : decode cX5_on 10 = .ok (.iconst 0, 1) := by decide +kernel
theorem dX5_on_11 : decode cX5_on 11 = .ok (.sipush 200, 3) := by decide +kernel
theorem dX5_on_14 : decode cX5_on 14 = .ok (.invokestatic 44, 3) := by decide +kernel
theorem dX5_on_17 : decode cX5_on 17 = .ok (.ifCond .eq 13, 3) := by decide +kernel
theorem dX5_on_20 : decode cX5_on 20 = .ok (.iload_n 3, 1) := by decide +kernel
theorem dX5_on_21 : decode cX5_on 21 = .ok (.i2l, 1) := by decide +kernel
theorem dX5_on_22 : decode cX5_on 22 = .ok (.iconst 0, 1) := by decide +kernel
theorem dX5_on_23 : decode cX5_on 23 = .ok (.iconst 2, 1) := by decide +kernel
theorem dX5_on_24 : decode cX5_on 24 = .ok (.invokestatic 44, 3) := by decide +kernel
theorem dX5_on_27 : decode cX5_on 27 = .ok (.ifCond .ne 10, 3) := by decide +kernel
theorem dX5_on_30 : decode cX5_on 30 = .ok (.aload_n 0, 1) := by decide +kernel
theorem dX5_on_31 : decode cX5_on 31 = .ok (.ldc 38, 2) := by decide +kernel
theorem dX5_on_33 : decode cX5_on 33 = .ok (.invokevirtual 40, 3) := by decide +kernel
theorem dX5_on_36 : decode cX5_on 36 = .ok (.ireturn, 1) := by decide +kernel
theorem dX5_on_37 : decode cX5_on 37 = .ok (.aload_n 0, 1) := by decide +kernel
theorem dX5_on_38 : decode cX5_on 38 = .ok (.invokevirtual 139, 3) := by decide +kernel
theorem dX5_on_41 : decode cX5_on 41 = .ok (.aload_n 0, 1) := by decide +kernel
theorem dX5_on_42 : decode cX5_on 42 = .ok (.iload_n 2, 1) := by decide +kernel
theorem dX5_on_43 : decode cX5_on 43 = .ok (.invokevirtual 131, 3) := by decide +kernel
theorem dX5_on_46 : decode cX5_on 46 = .ok (.aload_n 0, 1) := by decide +kernel
theorem dX5_on_47 : decode cX5_on 47 = .ok (.iload_n 1, 1) := by decide +kernel
theorem dX5_on_48 : decode cX5_on 48 = .ok (.iconst 2, 1) := by decide +kernel
theorem dX5_on_49 : decode cX5_on 49 = .ok (.iload_n 3, 1) := by decide +kernel
theorem dX5_on_50 : decode cX5_on 50 = .ok (.iadd, 1) := by decide +kernel
theorem dX5_on_51 : decode cX5_on 51 = .ok (.invokevirtual 52, 3) := by decide +kernel
theorem dX5_on_54 : decode cX5_on 54 = .ok (.istore 4, 2) := by decide +kernel
theorem dX5_on_56 : decode cX5_on 56 = .ok (.aload_n 0, 1) := by decide +kernel
theorem dX5_on_57 : decode cX5_on 57 = .ok (.invokevirtual 142, 3) := by decide +kernel
theorem dX5_on_60 : decode cX5_on 60 = .ok (.iload 4, 2) := by decide +kernel
theorem dX5_on_62 : decode cX5_on 62 = .ok (.ireturn, 1) := by decide +kernel
theorem dX5_brown_0 : decode cX5_brown 0 = .ok (.aload_n 0, 1) := by decide +kernel
theorem dX5_brown_1 : decode cX5_brown 1 = .ok (.iload_n 1, 1) := by decide +kernel
theorem dX5_brown_2 : decode cX5_brown 2 = .ok (.invokevirtual 48, 3) := by decide +kernel
theorem dX5_brown_5 : decode cX5_brown 5 = .ok (.ifCond .eq 15, 3) := by decide +kernel
theorem dX5_brown_8 : decode cX5_brown 8 = .ok (.iload_n 2, 1) := by decide +kernel
theorem dX5_brown_9 : decode cX5_brown 9 = .ok (.i2l, 1) := by decide +kernel
theorem dX5_brown_10 : decode cX5_brown 10 = .ok (.iconst 0, 1) := by decide +kernel
theorem dX5_brown_11 : decode cX5_brown 11 = .ok (.sipush 400, 3) := by decide +kernel
theorem dX5_brown_14 : decode cX5_brown 14 = .ok (.invokestatic 44, 3) := by decide +kernel
theorem dX5_brown_17 : decode cX5_brown 17 = .ok (.ifCond .ne 10, 3) := by decide +kernel
theorem dX5_brown_20 : decode cX5_brown 20 = .ok (.aload_n 0, 1) := by decide +kernel
theorem dX5_brown_21 : decode cX5_brown 21 = .ok (.ldc 38, 2) := by decide +kernel
theorem dX5_brown_23 : decode cX5_brown 23 = .ok (.invokevirtual 40, 3) := by decide +kernel
theorem dX5_brown_26 : decode cX5_brown 26 = .ok (.ireturn, 1) := by decide +kernel
theorem dX5_brown_27 : decode cX5_brown 27 = .ok (.aload_n 0, 1) := by decide +kernel
theorem dX5_brown_28 : decode cX5_brown 28 = .ok (.invokevirtual 139, 3) := by decide +kernel
theorem dX5_brown_31 : decode cX5_brown 31 = .ok (.iconst 0, 1) := by decide +kernel
theorem dX5_brown_32 : decode cX5_brown 32 = .ok (.istore_n 3, 1) := by decide +kernel
theorem dX5_brown_33 : decode cX5_brown 33 = .ok (.iload_n 3, 1) := by decide +kernel
theorem dX5_brown_34 : decode cX5_brown 34 = .ok (.sipush 200, 3) := by decide +kernel
theorem dX5_brown_37 : decode cX5_brown 37 = .ok (.if_icmp .gt 22, 3) := by decide +kernel
theorem dX5_brown_40 : decode cX5_brown 40 = .ok (.aload_n 0, 1) := by decide +kernel
theorem dX5_brown_41 : decode cX5_brown 41 = .ok (.iload_n 1, 1) := by decide +kernel
theorem dX5_brown_42 : decode cX5_brown 42 = .ok (.invokevirtual 105, 3) := by decide +kernel
theorem dX5_brown_45 : decode cX5_brown 45 = .ok (.iload_n 2, 1) := by decide +kernel
theorem dX5_brown_46 : decode cX5_brown 46 = .ok (.if_icmp .ge 13, 3) := by decide +kernel
theorem dX5_brown_49 : decode cX5_brown 49 = .ok (.aload_n 0, 1) := by decide +kernel
theorem dX5_brown_50 : decode cX5_brown 50 = .ok (.invokevirtual 127, 3) := by decide +kernel
theorem dX5_brown_53 : decode cX5_brown 53 = .ok (.iinc 3 1, 3) := by decide +kernel
theorem dX5_brown_56 : decode cX5_brown 56 = .ok (.goto (-23), 3) := by decide +kernel
theorem dX5_brown_59 : decode cX5_brown 59 = .ok (.aload_n 0, 1) := by decide +kernel
theorem dX5_brown_60 : decode cX5_brown 60 = .ok (.invokevirtual 142, 3) := by decide +kernel
theorem dX5_brown_63 : decode cX5_brown 63 = .ok (.iload_n 3, 1) := by decide +kernel
theorem dX5_brown_64 : decode cX5_brown 64 = .ok (.sipush 200, 3) := by decide +kernel
theorem dX5_brown_67 : decode cX5_brown 67 = .ok (.if_icmp .le 12, 3) := by decide +kernel
theorem dX5_brown_70 : decode cX5_brown 70 = .ok (.aload_n 0, 1) := by decide +kernel
theorem dX5_brown_71 : decode cX5_brown 71 = .ok (.ldc 39, 2) := by decide +kernel
theorem dX5_brown_73 : decode cX5_brown 73 = .ok (.invokevirtual 40, 3) := by decide +kernel
theorem dX5_brown_76 : decode cX5_brown 76 = .ok (.goto 4, 3) := by decide +kernel
theorem dX5_brown_79 : decode cX5_brown 79 = .ok (.iload_n 3, 1) := by decide +kernel
theorem dX5_brown_80 : decode cX5_brown 80 = .ok (.ireturn, 1) := by decide +kernel
theorem dX5_burns_0 : decode cX5_burns 0 = .ok (.aload_n 0, 1) := by decide +kernel
theorem dX5_burns_1 : decode cX5_burns 1 = .ok (.iload_n 1, 1) := by decide +kernel
theorem dX5_burns_2 : decode cX5_burns 2 = .ok (.invokevirtual 48, 3) := by decide +kernel
theorem dX5_burns_5 : decode cX5_burns 5 = .ok (.ifCond .ne 10, 3) := by decide +kernel
theorem dX5_burns_8 : decode cX5_burns 8 = .ok (.aload_n 0, 1) := by decide +kernel
theorem dX5_burns_9 : decode cX5_burns 9 = .ok (.ldc 38, 2) := by decide +kernel
theorem dX5_burns_11 : decode cX5_burns 11 = .ok (.invokevirtual 40, 3) := by decide +kernel
theorem dX5_burns_14 : decode cX5_burns 14 = .ok (.ireturn, 1) := by decide +kernel
theorem dX5_burns_15 : decode cX5_burns 15 = .ok (.aload_n 0, 1) := by decide +kernel
theorem dX5_burns_16 : decode cX5_burns 16 = .ok (.invokevirtual 139, 3) := by decide +kernel
theorem dX5_burns_19 : decode cX5_burns 19 = .ok (.aload_n 0, 1) := by decide +kernel
theorem dX5_burns_20 : decode cX5_burns 20 = .ok (.iload_n 1, 1) := by decide +kernel
theorem dX5_burns_21 : decode cX5_burns 21 = .ok (.iconst 4, 1) := by decide +kernel
theorem dX5_burns_22 : decode cX5_burns 22 = .ok (.invokevirtual 52, 3) := by decide +kernel
theorem dX5_burns_25 : decode cX5_burns 25 = .ok (.istore_n 2, 1) := by decide +kernel
theorem dX5_burns_26 : decode cX5_burns 26 = .ok (.iconst 1, 1) := by decide +kernel
theorem dX5_burns_27 : decode cX5_burns 27 = .ok (.istore_n 3, 1) := by decide +kernel
theorem dX5_burns_28 : decode cX5_burns 28 = .ok (.aload_n 0, 1) := by decide +kernel
theorem dX5_burns_29 : decode cX5_burns 29 = .ok (.invokevirtual 127, 3) := by decide +kernel
theorem dX5_burns_32 : decode cX5_burns 32 = .ok (.iload_n 3, 1) := by decide +kernel
theorem dX5_burns_33 : decode cX5_burns 33 = .ok (.sipush 200, 3) := by decide +kernel
theorem dX5_burns_36 : decode cX5_burns 36 = .ok (.if_icmp .gt 23, 3) := by decide +kernel
theorem dX5_burns_39 : decode cX5_burns 39 = .ok (.aload_n 0, 1) := by decide +kernel
theorem dX5_burns_40 : decode cX5_burns 40 = .ok (.iload_n 1, 1) := by decide +kernel
theorem dX5_burns_41 : decode cX5_burns 41 = .ok (.iconst 4, 1) := by decide +kernel
theorem dX5_burns_42 : decode cX5_burns 42 = .ok (.invokevirtual 52, 3) := by decide +kernel
theorem dX5_burns_45 : decode cX5_burns 45 = .ok (.iload_n 2, 1) := by decide +kernel
theorem dX5_burns_46 : decode cX5_burns 46 = .ok (.if_icmp .ne 13, 3) := by decide +kernel
theorem dX5_burns_49 : decode cX5_burns 49 = .ok (.aload_n 0, 1) := by decide +kernel
theorem dX5_burns_50 : decode cX5_burns 50 = .ok (.invokevirtual 127, 3) := by decide +kernel
theorem dX5_burns_53 : decode cX5_burns 53 = .ok (.iinc 3 1, 3) := by decide +kernel
theorem dX5_burns_56 : decode cX5_burns 56 = .ok (.goto (-24), 3) := by decide +kernel
theorem dX5_burns_59 : decode cX5_burns 59 = .ok (.aload_n 0, 1) := by decide +kernel
theorem dX5_burns_60 : decode cX5_burns 60 = .ok (.invokevirtual 142, 3) := by decide +kernel
theorem dX5_burns_63 : decode cX5_burns 63 = .ok (.iload_n 3, 1) := by decide +kernel
theorem dX5_burns_64 : decode cX5_burns 64 = .ok (.sipush 200, 3) := by decide +kernel
theorem dX5_burns_67 : decode cX5_burns 67 = .ok (.if_icmp .le 12, 3) := by decide +kernel
theorem dX5_burns_70 : decode cX5_burns 70 = .ok (.aload_n 0, 1) := by decide +kernel
theorem dX5_burns_71 : decode cX5_burns 71 = .ok (.ldc 39, 2) := by decide +kernel
theorem dX5_burns_73 : decode cX5_burns 73 = .ok (.invokevirtual 40, 3) := by decide +kernel
theorem dX5_burns_76 : decode cX5_burns 76 = .ok (.goto 4, 3) := by decide +kernel
theorem dX5_burns_79 : decode cX5_burns 79 = .ok (.iload_n 3, 1) := by decide +kernel
theorem dX5_burns_80 : decode cX5_burns 80 = .ok (.ireturn, 1) := by decide +kernel
theorem dX5_even_0 : decode cX5_even 0 = .ok (.aload_n 0, 1) := by decide +kernel
theorem dX5_even_1 : decode cX5_even 1 = .ok (.iload_n 1, 1) := by decide +kernel
theorem dX5_even_2 : decode cX5_even 2 = .ok (.invokevirtual 48, 3) := by decide +kernel
theorem dX5_even_5 : decode cX5_even 5 = .ok (.ifCond .ne 10, 3) := by decide +kernel
theorem dX5_even_8 : decode cX5_even 8 = .ok (.aload_n 0, 1) := by decide +kernel
theorem dX5_even_9 : decode cX5_even 9 = .ok (.ldc 38, 2) := by decide +kernel
theorem dX5_even_11 : decode cX5_even 11 = .ok (.invokevirtual 40, 3) := by decide +kernel
theorem dX5_even_14 : decode cX5_even 14 = .ok (.ireturn, 1) := by decide +kernel
theorem dX5_even_15 : decode cX5_even 15 = .ok (.aload_n 0, 1) := by decide +kernel
theorem dX5_even_16 : decode cX5_even 16 = .ok (.invokevirtual 139, 3) := by decide +kernel
theorem dX5_even_19 : decode cX5_even 19 = .ok (.iconst 0, 1) := by decide +kernel
theorem dX5_even_20 : decode cX5_even 20 = .ok (.istore_n 2, 1) := by decide +kernel
theorem dX5_even_21 : decode cX5_even 21 = .ok (.iload_n 2, 1) := by decide +kernel
theorem dX5_even_22 : decode cX5_even 22 = .ok (.sipush 200, 3) := by decide +kernel
theorem dX5_even_25 : decode cX5_even 25 = .ok (.if_icmp .gt 21, 3) := by decide +kernel
theorem dX5_even_28 : decode cX5_even 28 = .ok (.aload_n 0, 1) := by decide +kernel
theorem dX5_even_29 : decode cX5_even 29 = .ok (.iload_n 1, 1) := by decide +kernel
theorem dX5_even_30 : decode cX5_even 30 = .ok (.invokevirtual 79, 3) := by decide +kernel
theorem dX5_even_33 : decode cX5_even 33 = .ok (.ifCond .ne 13, 3) := by decide +kernel
theorem dX5_even_36 : decode cX5_even 36 = .ok (.aload_n 0, 1) := by decide +kernel
theorem dX5_even_37 : decode cX5_even 37 = .ok (.invokevirtual 127, 3) := by decide +kernel
theorem dX5_even_40 : decode cX5_even 40 = .ok (.iinc 2 1, 3) := by decide +kernel
theorem dX5_even_43 : decode cX5_even 43 = .ok (.goto (-22), 3) := by decide +kernel
theorem dX5_even_46 : decode cX5_even 46 = .ok (.aload_n 0, 1) := by decide +kernel
theorem dX5_even_47 : decode cX5_even 47 = .ok (.invokevirtual 142, 3) := by decide +kernel
theorem dX5_even_50 : decode cX5_even 50 = .ok (.iload_n 2, 1) := by decide +kernel
theorem dX5_even_51 : decode cX5_even 51 = .ok (.sipush 200, 3) := by decide +kernel
theorem dX5_even_54 : decode cX5_even 54 = .ok (.if_icmp .le 12, 3) := by decide +kernel
theorem dX5_even_57 : decode cX5_even 57 = .ok (.aload_n 0, 1) := by decide +kernel
theorem dX5_even_58 : decode cX5_even 58 = .ok (.ldc 39, 2) := by decide +kernel
theorem dX5_even_60 : decode cX5_even 60 = .ok (.invokevirtual 40, 3) := by decide +kernel
theorem dX5_even_63 : decode cX5_even 63 = .ok (.goto 4, 3) := by decide +kernel
theorem dX5_even_66 : decode cX5_even 66 = .ok (.iload_n 2, 1) := by decide +kernel
theorem dX5_even_67 : decode cX5_even 67 = .ok (.ireturn, 1) := by decide +kernel
theorem dX5_brownOn_0 : decode cX5_brownOn 0 = .ok (.aload_n 0, 1) := by decide +kernel
theorem dX5_brownOn_1 : decode cX5_brownOn 1 = .ok (.iload_n 2, 1) := by decide +kernel
theorem dX5_brownOn_2 : decode cX5_brownOn 2 = .ok (.invokevirtual 131, 3) := by decide +kernel
theorem dX5_brownOn_5 : decode cX5_brownOn 5 = .ok (.aload_n 0, 1) := by decide +kernel
theorem dX5_brownOn_6 : decode cX5_brownOn 6 = .ok (.iload_n 1, 1) := by decide +kernel
theorem dX5_brownOn_7 : decode cX5_brownOn 7 = .ok (.invokevirtual 105, 3) := by decide +kernel
theorem dX5_brownOn_10 : decode cX5_brownOn 10 = .ok (.istore_n 3, 1) := by decide +kernel
theorem dX5_brownOn_11 : decode cX5_brownOn 11 = .ok (.aload_n 0, 1) := by decide +kernel
theorem dX5_brownOn_12 : decode cX5_brownOn 12 = .ok (.invokevirtual 142, 3) := by decide +kernel
theorem dX5_brownOn_15 : decode cX5_brownOn 15 = .ok (.iload_n 3, 1) := by decide +kernel
theorem dX5_brownOn_16 : decode cX5_brownOn 16 = .ok (.ireturn, 1) := by decide +kernel
theorem dX5_where_0 : decode cX5_where 0 = .ok (.aload_n 0, 1) := by decide +kernel
theorem dX5_where_1 : decode cX5_where 1 = .ok (.iload_n 1, 1) := by decide +kernel
theorem dX5_where_2 : decode cX5_where 2 = .ok (.invokevirtual 48, 3) := by decide +kernel
theorem dX5_where_5 : decode cX5_where 5 = .ok (.ifCond .eq 14, 3) := by decide +kernel
theorem dX5_where_8 : decode cX5_where 8 = .ok (.iload_n 2, 1) := by decide +kernel
theorem dX5_where_9 : decode cX5_where 9 = .ok (.i2l, 1) := by decide +kernel
theorem dX5_where_10 : decode cX5_where 10 = .ok (.iconst 1, 1) := by decide +kernel
theorem dX5_where_11 : decode cX5_where 11 = .ok (.bipush 60, 2) := by decide +kernel
theorem dX5_where_13 : decode cX5_where 13 = .ok (.invokestatic 44, 3) := by decide +kernel
theorem dX5_where_16 : decode cX5_where 16 = .ok (.ifCond .ne 10, 3) := by decide +kernel
theorem dX5_where_19 : decode cX5_where 19 = .ok (.aload_n 0, 1) := by decide +kernel
theorem dX5_where_20 : decode cX5_where 20 = .ok (.ldc 38, 2) := by decide +kernel
theorem dX5_where_22 : decode cX5_where 22 = .ok (.invokevirtual 40, 3) := by decide +kernel
theorem dX5_where_25 : decode cX5_where 25 = .ok (.ireturn, 1) := by decide +kernel
theorem dX5_where_26 : decode cX5_where 26 = .ok (.aload_n 0, 1) := by decide +kernel
theorem dX5_where_27 : decode cX5_where 27 = .ok (.invokevirtual 139, 3) := by decide +kernel
theorem dX5_where_30 : decode cX5_where 30 = .ok (.iconst (-1), 1) := by decide +kernel
theorem dX5_where_31 : decode cX5_where 31 = .ok (.istore_n 3, 1) := by decide +kernel
theorem dX5_where_32 : decode cX5_where 32 = .ok (.iconst (-1), 1) := by decide +kernel
theorem dX5_where_33 : decode cX5_where 33 = .ok (.istore 4, 2) := by decide +kernel
theorem dX5_where_35 : decode cX5_where 35 = .ok (.iconst 0, 1) := by decide +kernel
theorem dX5_where_36 : decode cX5_where 36 = .ok (.istore 5, 2) := by decide +kernel
theorem dX5_where_38 : decode cX5_where 38 = .ok (.iload 5, 2) := by decide +kernel
theorem dX5_where_40 : decode cX5_where 40 = .ok (.bipush 10, 2) := by decide +kernel
theorem dX5_where_42 : decode cX5_where 42 = .ok (.if_icmp .ge 65, 3) := by decide +kernel
theorem dX5_where_45 : decode cX5_where 45 = .ok (.aload_n 0, 1) := by decide +kernel
theorem dX5_where_46 : decode cX5_where 46 = .ok (.iload 5, 2) := by decide +kernel
theorem dX5_where_48 : decode cX5_where 48 = .ok (.iload_n 1, 1) := by decide +kernel
theorem dX5_where_49 : decode cX5_where 49 = .ok (.invokevirtual 109, 3) := by decide +kernel
theorem dX5_where_52 : decode cX5_where 52 = .ok (.ifCond .eq 49, 3) := by decide +kernel
theorem dX5_where_55 : decode cX5_where 55 = .ok (.aload_n 0, 1) := by decide +kernel
theorem dX5_where_56 : decode cX5_where 56 = .ok (.iload_n 1, 1) := by decide +kernel
theorem dX5_where_57 : decode cX5_where 57 = .ok (.iconst 1, 1) := by decide +kernel
theorem dX5_where_58 : decode cX5_where 58 = .ok (.iload 5, 2) := by decide +kernel
theorem dX5_where_60 : decode cX5_where 60 = .ok (.invokevirtual 91, 3) := by decide +kernel
theorem dX5_where_63 : decode cX5_where 63 = .ok (.aload_n 0, 1) := by decide +kernel
theorem dX5_where_64 : decode cX5_where 64 = .ok (.iload_n 1, 1) := by decide +kernel
theorem dX5_where_65 : decode cX5_where 65 = .ok (.iload_n 2, 1) := by decide +kernel
theorem dX5_where_66 : decode cX5_where 66 = .ok (.invokevirtual 145, 3) := by decide +kernel
theorem dX5_where_69 : decode cX5_where 69 = .ok (.istore 6, 2) := by decide +kernel
theorem dX5_where_71 : decode cX5_where 71 = .ok (.iload 6, 2) := by decide +kernel
theorem dX5_where_73 : decode cX5_where 73 = .ok (.iload 4, 2) := by decide +kernel
theorem dX5_where_75 : decode cX5_where 75 = .ok (.if_icmp .le 8, 3) := by decide +kernel
theorem dX5_where_78 : decode cX5_where 78 = .ok (.iload 5, 2) := by decide +kernel
theorem dX5_where_80 : decode cX5_where 80 = .ok (.goto 4, 3) := by decide +kernel
theorem dX5_where_83 : decode cX5_where 83 = .ok (.iload_n 3, 1) := by decide +kernel
theorem dX5_where_84 : decode cX5_where 84 = .ok (.istore_n 3, 1) := by decide +kernel
theorem dX5_where_85 : decode cX5_where 85 = .ok (.iload 6, 2) := by decide +kernel
theorem dX5_where_87 : decode cX5_where 87 = .ok (.iload 4, 2) := by decide +kernel
theorem dX5_where_89 : decode cX5_where 89 = .ok (.if_icmp .le 8, 3) := by decide +kernel
theorem dX5_where_92 : decode cX5_where 92 = .ok (.iload 6, 2) := by decide +kernel
theorem dX5_where_94 : decode cX5_where 94 = .ok (.goto 5, 3) := by decide +kernel
theorem dX5_where_97 : decode cX5_where 97 = .ok (.iload 4, 2) := by decide +kernel
theorem dX5_where_99 : decode cX5_where 99 = .ok (.istore 4, 2) := by decide +kernel
theorem dX5_where_101 : decode cX5_where 101 = .ok (.iinc 5 1, 3) := by decide +kernel
theorem dX5_where_104 : decode cX5_where 104 = .ok (.goto (-66), 3) := by decide +kernel
theorem dX5_where_107 : decode cX5_where 107 = .ok (.iload_n 3, 1) := by decide +kernel
theorem dX5_where_108 : decode cX5_where 108 = .ok (.ireturn, 1) := by decide +kernel
theorem dX5_change_0 : decode cX5_change 0 = .ok (.aload_n 0, 1) := by decide +kernel
theorem dX5_change_1 : decode cX5_change 1 = .ok (.iload_n 1, 1) := by decide +kernel
theorem dX5_change_2 : decode cX5_change 2 = .ok (.invokevirtual 48, 3) := by decide +kernel
theorem dX5_change_5 : decode cX5_change 5 = .ok (.ifCond .eq 14, 3) := by decide +kernel
theorem dX5_change_8 : decode cX5_change 8 = .ok (.iload_n 2, 1) := by decide +kernel
theorem dX5_change_9 : decode cX5_change 9 = .ok (.i2l, 1) := by decide +kernel
theorem dX5_change_10 : decode cX5_change 10 = .ok (.iconst 1, 1) := by decide +kernel
theorem dX5_change_11 : decode cX5_change 11 = .ok (.bipush 60, 2) := by decide +kernel
theorem dX5_change_13 : decode cX5_change 13 = .ok (.invokestatic 44, 3) := by decide +kernel
theorem dX5_change_16 : decode cX5_change 16 = .ok (.ifCond .ne 10, 3) := by decide +kernel
theorem dX5_change_19 : decode cX5_change 19 = .ok (.aload_n 0, 1) := by decide +kernel
theorem dX5_change_20 : decode cX5_change 20 = .ok (.ldc 38, 2) := by decide +kernel
theorem dX5_change_22 : decode cX5_change 22 = .ok (.invokevirtual 40, 3) := by decide +kernel
theorem dX5_change_25 : decode cX5_change 25 = .ok (.ireturn, 1) := by decide +kernel
theorem dX5_change_26 : decode cX5_change 26 = .ok (.aload_n 0, 1) := by decide +kernel
theorem dX5_change_27 : decode cX5_change 27 = .ok (.iload_n 1, 1) := by decide +kernel
theorem dX5_change_28 : decode cX5_change 28 = .ok (.invokevirtual 56, 3) := by decide +kernel
theorem dX5_change_31 : decode cX5_change 31 = .ok (.ifCond .ne 10, 3) := by decide +kernel
theorem dX5_change_34 : decode cX5_change 34 = .ok (.aload_n 0, 1) := by decide +kernel
theorem dX5_change_35 : decode cX5_change 35 = .ok (.ldc 113, 2) := by decide +kernel
theorem dX5_change_37 : decode cX5_change 37 = .ok (.invokevirtual 40, 3) := by decide +kernel
theorem dX5_change_40 : decode cX5_change 40 = .ok (.ireturn, 1) := by decide +kernel
theorem dX5_change_41 : decode cX5_change 41 = .ok (.aload_n 0, 1) := by decide +kernel
theorem dX5_change_42 : decode cX5_change 42 = .ok (.invokevirtual 139, 3) := by decide +kernel
theorem dX5_change_45 : decode cX5_change 45 = .ok (.iconst (-1), 1) := by decide +kernel
theorem dX5_change_46 : decode cX5_change 46 = .ok (.istore_n 3, 1) := by decide +kernel
theorem dX5_change_47 : decode cX5_change 47 = .ok (.iconst (-1), 1) := by decide +kernel
theorem dX5_change_48 : decode cX5_change 48 = .ok (.istore 4, 2) := by decide +kernel
theorem dX5_change_50 : decode cX5_change 50 = .ok (.iconst 0, 1) := by decide +kernel
theorem dX5_change_51 : decode cX5_change 51 = .ok (.istore 5, 2) := by decide +kernel
theorem dX5_change_53 : decode cX5_change 53 = .ok (.iload 5, 2) := by decide +kernel
theorem dX5_change_55 : decode cX5_change 55 = .ok (.aload_n 0, 1) := by decide +kernel
theorem dX5_change_56 : decode cX5_change 56 = .ok (.getfield 9, 3) := by decide +kernel
theorem dX5_change_59 : decode cX5_change 59 = .ok (.iconst 1, 1) := by decide +kernel
theorem dX5_change_60 : decode cX5_change 60 = .ok (.iaload, 1) := by decide +kernel
theorem dX5_change_61 : decode cX5_change 61 = .ok (.if_icmp .ge 110, 3) := by decide +kernel
theorem dX5_change_64 : decode cX5_change 64 = .ok (.iload 5, 2) := by decide +kernel
theorem dX5_change_66 : decode cX5_change 66 = .ok (.iload_n 1, 1) := by decide +kernel
theorem dX5_change_67 : decode cX5_change 67 = .ok (.if_icmp .eq 98, 3) := by decide +kernel
theorem dX5_change_70 : decode cX5_change 70 = .ok (.aload_n 0, 1) := by decide +kernel
theorem dX5_change_71 : decode cX5_change 71 = .ok (.iload 5, 2) := by decide +kernel
theorem dX5_change_73 : decode cX5_change 73 = .ok (.invokevirtual 56, 3) := by decide +kernel
theorem dX5_change_76 : decode cX5_change 76 = .ok (.ifCond .eq 89, 3) := by decide +kernel
theorem dX5_change_79 : decode cX5_change 79 = .ok (.aload_n 0, 1) := by decide +kernel
theorem dX5_change_80 : decode cX5_change 80 = .ok (.iload_n 1, 1) := by decide +kernel
theorem dX5_change_81 : decode cX5_change 81 = .ok (.iconst 1, 1) := by decide +kernel
theorem dX5_change_82 : decode cX5_change 82 = .ok (.aload_n 0, 1) := by decide +kernel
theorem dX5_change_83 : decode cX5_change 83 = .ok (.iload 5, 2) := by decide +kernel
theorem dX5_change_85 : decode cX5_change 85 = .ok (.iconst 1, 1) := by decide +kernel
theorem dX5_change_86 : decode cX5_change 86 = .ok (.invokevirtual 52, 3) := by decide +kernel
theorem dX5_change_89 : decode cX5_change 89 = .ok (.invokevirtual 91, 3) := by decide +kernel
theorem dX5_change_92 : decode cX5_change 92 = .ok (.aload_n 0, 1) := by decide +kernel
theorem dX5_change_93 : decode cX5_change 93 = .ok (.iload 5, 2) := by decide +kernel
theorem dX5_change_95 : decode cX5_change 95 = .ok (.iconst 1, 1) := by decide +kernel
theorem dX5_change_96 : decode cX5_change 96 = .ok (.aload_n 0, 1) := by decide +kernel
theorem dX5_change_97 : decode cX5_change 97 = .ok (.getfield 16, 3) := by decide +kernel
theorem dX5_change_100 : decode cX5_change 100 = .ok (.bipush 12, 2) := by decide +kernel
theorem dX5_change_102 : decode cX5_change 102 = .ok (.iconst 5, 1) := by decide +kernel
theorem dX5_change_103 : decode cX5_change 103 = .ok (.iload_n 1, 1) := by decide +kernel
theorem dX5_change_104 : decode cX5_change 104 = .ok (.imul, 1) := by decide +kernel
theorem dX5_change_105 : decode cX5_change 105 = .ok (.iadd, 1) := by decide +kernel
theorem dX5_change_106 : decode cX5_change 106 = .ok (.iconst 1, 1) := by decide +kernel
theorem dX5_change_107 : decode cX5_change 107 = .ok (.iadd, 1) := by decide +kernel
theorem dX5_change_108 : decode cX5_change 108 = .ok (.iaload, 1) := by decide +kernel
theorem dX5_change_109 : decode cX5_change 109 = .ok (.invokevirtual 91, 3) := by decide +kernel
theorem dX5_change_112 : decode cX5_change 112 = .ok (.aload_n 0, 1) := by decide +kernel
theorem dX5_change_113 : decode cX5_change 113 = .ok (.iload_n 2, 1) := by decide +kernel
theorem dX5_change_114 : decode cX5_change 114 = .ok (.invokevirtual 131, 3) := by decide +kernel
theorem dX5_change_117 : decode cX5_change 117 = .ok (.aload_n 0, 1) := by decide +kernel
theorem dX5_change_118 : decode cX5_change 118 = .ok (.iload_n 1, 1) := by decide +kernel
theorem dX5_change_119 : decode cX5_change 119 = .ok (.invokevirtual 105, 3) := by decide +kernel
theorem dX5_change_122 : decode cX5_change 122 = .ok (.aload_n 0, 1) := by decide +kernel
theorem dX5_change_123 : decode cX5_change 123 = .ok (.iload 5, 2) := by decide +kernel
theorem dX5_change_125 : decode cX5_change 125 = .ok (.invokevirtual 105, 3) := by decide +kernel
theorem dX5_change_128 : decode cX5_change 128 = .ok (.iadd, 1) := by decide +kernel
theorem dX5_change_129 : decode cX5_change 129 = .ok (.istore 6, 2) := by decide +kernel
theorem dX5_change_131 : decode cX5_change 131 = .ok (.aload_n 0, 1) := by decide +kernel
theorem dX5_change_132 : decode cX5_change 132 = .ok (.invokevirtual 142, 3) := by decide +kernel
theorem dX5_change_135 : decode cX5_change 135 = .ok (.iload 6, 2) := by decide +kernel
theorem dX5_change_137 : decode cX5_change 137 = .ok (.iload 4, 2) := by decide +kernel
theorem dX5_change_139 : decode cX5_change 139 = .ok (.if_icmp .le 8, 3) := by decide +kernel
theorem dX5_change_142 : decode cX5_change 142 = .ok (.iload 5, 2) := by decide +kernel
theorem dX5_change_144 : decode cX5_change 144 = .ok (.goto 4, 3) := by decide +kernel
theorem dX5_change_147 : decode cX5_change 147 = .ok (.iload_n 3, 1) := by decide +kernel
theorem dX5_change_148 : decode cX5_change 148 = .ok (.istore_n 3, 1) := by decide +kernel
theorem dX5_change_149 : decode cX5_change 149 = .ok (.iload 6, 2) := by decide +kernel
theorem dX5_change_151 : decode cX5_change 151 = .ok (.iload 4, 2) := by decide +kernel
theorem dX5_change_153 : decode cX5_change 153 = .ok (.if_icmp .le 8, 3) := by decide +kernel
theorem dX5_change_156 : decode cX5_change 156 = .ok (.iload 6, 2) := by decide +kernel
theorem dX5_change_158 : decode cX5_change 158 = .ok (.goto 5, 3) := by decide +kernel
theorem dX5_change_161 : decode cX5_change 161 = .ok (.iload 4, 2) := by decide +kernel
theorem dX5_change_163 : decode cX5_change 163 = .ok (.istore 4, 2) := by decide +kernel
theorem dX5_change_165 : decode cX5_change 165 = .ok (.iinc 5 1, 3) := by decide +kernel
theorem dX5_change_168 : decode cX5_change 168 = .ok (.goto (-115), 3) := by decide +kernel
theorem dX5_change_171 : decode cX5_change 171 = .ok (.aload_n 0, 1) := by decide +kernel
theorem dX5_change_172 : decode cX5_change 172 = .ok (.iload_n 3, 1) := by decide +kernel
theorem dX5_change_173 : decode cX5_change 173 = .ok (.invokevirtual 148, 3) := by decide +kernel
theorem dX5_change_176 : decode cX5_change 176 = .ok (.ireturn, 1) := by decide +kernel
theorem dX5_kind_0 : decode cX5_kind 0 = .ok (.aload_n 0, 1) := by decide +kernel
theorem dX5_kind_1 : decode cX5_kind 1 = .ok (.iload_n 1, 1) := by decide +kernel
theorem dX5_kind_2 : decode cX5_kind 2 = .ok (.invokevirtual 48, 3) := by decide +kernel
theorem dX5_kind_5 : decode cX5_kind 5 = .ok (.ifCond .eq 14, 3) := by decide +kernel
theorem dX5_kind_8 : decode cX5_kind 8 = .ok (.iload_n 2, 1) := by decide +kernel
theorem dX5_kind_9 : decode cX5_kind 9 = .ok (.i2l, 1) := by decide +kernel
theorem dX5_kind_10 : decode cX5_kind 10 = .ok (.iconst 1, 1) := by decide +kernel
theorem dX5_kind_11 : decode cX5_kind 11 = .ok (.bipush 60, 2) := by decide +kernel
theorem dX5_kind_13 : decode cX5_kind 13 = .ok (.invokestatic 44, 3) := by decide +kernel
theorem dX5_kind_16 : decode cX5_kind 16 = .ok (.ifCond .ne 10, 3) := by decide +kernel
theorem dX5_kind_19 : decode cX5_kind 19 = .ok (.aload_n 0, 1) := by decide +kernel
theorem dX5_kind_20 : decode cX5_kind 20 = .ok (.ldc 38, 2) := by decide +kernel
theorem dX5_kind_22 : decode cX5_kind 22 = .ok (.invokevirtual 40, 3) := by decide +kernel
theorem dX5_kind_25 : decode cX5_kind 25 = .ok (.ireturn, 1) := by decide +kernel
theorem dX5_kind_26 : decode cX5_kind 26 = .ok (.aload_n 0, 1) := by decide +kernel
theorem dX5_kind_27 : decode cX5_kind 27 = .ok (.invokevirtual 139, 3) := by decide +kernel
theorem dX5_kind_30 : decode cX5_kind 30 = .ok (.iconst 0, 1) := by decide +kernel
theorem dX5_kind_31 : decode cX5_kind 31 = .ok (.istore_n 3, 1) := by decide +kernel
theorem dX5_kind_32 : decode cX5_kind 32 = .ok (.iconst (-1), 1) := by decide +kernel
theorem dX5_kind_33 : decode cX5_kind 33 = .ok (.istore 4, 2) := by decide +kernel
theorem dX5_kind_35 : decode cX5_kind 35 = .ok (.iconst 0, 1) := by decide +kernel
theorem dX5_kind_36 : decode cX5_kind 36 = .ok (.istore 5, 2) := by decide +kernel
theorem dX5_kind_38 : decode cX5_kind 38 = .ok (.iload 5, 2) := by decide +kernel
theorem dX5_kind_40 : decode cX5_kind 40 = .ok (.iconst 5, 1) := by decide +kernel
theorem dX5_kind_41 : decode cX5_kind 41 = .ok (.if_icmp .gt 55, 3) := by decide +kernel
theorem dX5_kind_44 : decode cX5_kind 44 = .ok (.aload_n 0, 1) := by decide +kernel
theorem dX5_kind_45 : decode cX5_kind 45 = .ok (.iload_n 1, 1) := by decide +kernel
theorem dX5_kind_46 : decode cX5_kind 46 = .ok (.iconst 0, 1) := by decide +kernel
theorem dX5_kind_47 : decode cX5_kind 47 = .ok (.iload 5, 2) := by decide +kernel
theorem dX5_kind_49 : decode cX5_kind 49 = .ok (.invokevirtual 91, 3) := by decide +kernel
theorem dX5_kind_52 : decode cX5_kind 52 = .ok (.aload_n 0, 1) := by decide +kernel
theorem dX5_kind_53 : decode cX5_kind 53 = .ok (.iload_n 1, 1) := by decide +kernel
theorem dX5_kind_54 : decode cX5_kind 54 = .ok (.iload_n 2, 1) := by decide +kernel
theorem dX5_kind_55 : decode cX5_kind 55 = .ok (.invokevirtual 145, 3) := by decide +kernel
theorem dX5_kind_58 : decode cX5_kind 58 = .ok (.istore 6, 2) := by decide +kernel
theorem dX5_kind_60 : decode cX5_kind 60 = .ok (.iload 6, 2) := by decide +kernel
theorem dX5_kind_62 : decode cX5_kind 62 = .ok (.iload 4, 2) := by decide +kernel
theorem dX5_kind_64 : decode cX5_kind 64 = .ok (.if_icmp .le 8, 3) := by decide +kernel
theorem dX5_kind_67 : decode cX5_kind 67 = .ok (.iload 5, 2) := by decide +kernel
theorem dX5_kind_69 : decode cX5_kind 69 = .ok (.goto 4, 3) := by decide +kernel
theorem dX5_kind_72 : decode cX5_kind 72 = .ok (.iload_n 3, 1) := by decide +kernel
theorem dX5_kind_73 : decode cX5_kind 73 = .ok (.istore_n 3, 1) := by decide +kernel
theorem dX5_kind_74 : decode cX5_kind 74 = .ok (.iload 6, 2) := by decide +kernel
theorem dX5_kind_76 : decode cX5_kind 76 = .ok (.iload 4, 2) := by decide +kernel
theorem dX5_kind_78 : decode cX5_kind 78 = .ok (.if_icmp .le 8, 3) := by decide +kernel
theorem dX5_kind_81 : decode cX5_kind 81 = .ok (.iload 6, 2) := by decide +kernel
theorem dX5_kind_83 : decode cX5_kind 83 = .ok (.goto 5, 3) := by decide +kernel
theorem dX5_kind_86 : decode cX5_kind 86 = .ok (.iload 4, 2) := by decide +kernel
theorem dX5_kind_88 : decode cX5_kind 88 = .ok (.istore 4, 2) := by decide +kernel
theorem dX5_kind_90 : decode cX5_kind 90 = .ok (.iinc 5 1, 3) := by decide +kernel
theorem dX5_kind_93 : decode cX5_kind 93 = .ok (.goto (-55), 3) := by decide +kernel
theorem dX5_kind_96 : decode cX5_kind 96 = .ok (.iload_n 3, 1) := by decide +kernel
theorem dX5_kind_97 : decode cX5_kind 97 = .ok (.ireturn, 1) := by decide +kernel
theorem dX5_send_0 : decode cX5_send 0 = .ok (.iload_n 1, 1) := by decide +kernel
theorem dX5_send_1 : decode cX5_send 1 = .ok (.i2l, 1) := by decide +kernel
theorem dX5_send_2 : decode cX5_send 2 = .ok (.iconst 1, 1) := by decide +kernel
theorem dX5_send_3 : decode cX5_send 3 = .ok (.bipush 60, 2) := by decide +kernel
theorem dX5_send_5 : decode cX5_send 5 = .ok (.invokestatic 44, 3) := by decide +kernel
theorem dX5_send_8 : decode cX5_send 8 = .ok (.ifCond .ne 10, 3) := by decide +kernel
theorem dX5_send_11 : decode cX5_send 11 = .ok (.aload_n 0, 1) := by decide +kernel
theorem dX5_send_12 : decode cX5_send 12 = .ok (.ldc 38, 2) := by decide +kernel
theorem dX5_send_14 : decode cX5_send 14 = .ok (.invokevirtual 40, 3) := by decide +kernel
theorem dX5_send_17 : decode cX5_send 17 = .ok (.ireturn, 1) := by decide +kernel
theorem dX5_send_18 : decode cX5_send 18 = .ok (.aload_n 0, 1) := by decide +kernel
theorem dX5_send_19 : decode cX5_send 19 = .ok (.invokevirtual 139, 3) := by decide +kernel
theorem dX5_send_22 : decode cX5_send 22 = .ok (.iconst (-1), 1) := by decide +kernel
theorem dX5_send_23 : decode cX5_send 23 = .ok (.istore_n 2, 1) := by decide +kernel
theorem dX5_send_24 : decode cX5_send 24 = .ok (.iconst 0, 1) := by decide +kernel
theorem dX5_send_25 : decode cX5_send 25 = .ok (.istore_n 3, 1) := by decide +kernel
theorem dX5_send_26 : decode cX5_send 26 = .ok (.iconst 0, 1) := by decide +kernel
theorem dX5_send_27 : decode cX5_send 27 = .ok (.istore 4, 2) := by decide +kernel
theorem dX5_send_29 : decode cX5_send 29 = .ok (.iload 4, 2) := by decide +kernel
theorem dX5_send_31 : decode cX5_send 31 = .ok (.aload_n 0, 1) := by decide +kernel
theorem dX5_send_32 : decode cX5_send 32 = .ok (.getfield 9, 3) := by decide +kernel
theorem dX5_send_35 : decode cX5_send 35 = .ok (.iconst 1, 1) := by decide +kernel
theorem dX5_send_36 : decode cX5_send 36 = .ok (.iaload, 1) := by decide +kernel
theorem dX5_send_37 : decode cX5_send 37 = .ok (.if_icmp .ge 83, 3) := by decide +kernel
theorem dX5_send_40 : decode cX5_send 40 = .ok (.aload_n 0, 1) := by decide +kernel
theorem dX5_send_41 : decode cX5_send 41 = .ok (.iload 4, 2) := by decide +kernel
theorem dX5_send_43 : decode cX5_send 43 = .ok (.invokevirtual 56, 3) := by decide +kernel
theorem dX5_send_46 : decode cX5_send 46 = .ok (.ifCond .eq 68, 3) := by decide +kernel
theorem dX5_send_49 : decode cX5_send 49 = .ok (.aload_n 0, 1) := by decide +kernel
theorem dX5_send_50 : decode cX5_send 50 = .ok (.iload 4, 2) := by decide +kernel
theorem dX5_send_52 : decode cX5_send 52 = .ok (.iconst 1, 1) := by decide +kernel
theorem dX5_send_53 : decode cX5_send 53 = .ok (.iconst (-1), 1) := by decide +kernel
theorem dX5_send_54 : decode cX5_send 54 = .ok (.invokevirtual 91, 3) := by decide +kernel
theorem dX5_send_57 : decode cX5_send 57 = .ok (.aload_n 0, 1) := by decide +kernel
theorem dX5_send_58 : decode cX5_send 58 = .ok (.iload_n 1, 1) := by decide +kernel
theorem dX5_send_59 : decode cX5_send 59 = .ok (.invokevirtual 131, 3) := by decide +kernel
theorem dX5_send_62 : decode cX5_send 62 = .ok (.aload_n 0, 1) := by decide +kernel
theorem dX5_send_63 : decode cX5_send 63 = .ok (.iconst 4, 1) := by decide +kernel
theorem dX5_send_64 : decode cX5_send 64 = .ok (.invokevirtual 76, 3) := by decide +kernel
theorem dX5_send_67 : decode cX5_send 67 = .ok (.istore 5, 2) := by decide +kernel
theorem dX5_send_69 : decode cX5_send 69 = .ok (.aload_n 0, 1) := by decide +kernel
theorem dX5_send_70 : decode cX5_send 70 = .ok (.invokevirtual 142, 3) := by decide +kernel
theorem dX5_send_73 : decode cX5_send 73 = .ok (.iload_n 2, 1) := by decide +kernel
theorem dX5_send_74 : decode cX5_send 74 = .ok (.ifCond .lt 9, 3) := by decide +kernel
theorem dX5_send_77 : decode cX5_send 77 = .ok (.iload 5, 2) := by decide +kernel
theorem dX5_send_79 : decode cX5_send 79 = .ok (.iload_n 3, 1) := by decide +kernel
theorem dX5_send_80 : decode cX5_send 80 = .ok (.if_icmp .ge 7, 3) := by decide +kernel
theorem dX5_send_83 : decode cX5_send 83 = .ok (.iconst 1, 1) := by decide +kernel
theorem dX5_send_84 : decode cX5_send 84 = .ok (.goto 4, 3) := by decide +kernel
theorem dX5_send_87 : decode cX5_send 87 = .ok (.iconst 0, 1) := by decide +kernel
theorem dX5_send_88 : decode cX5_send 88 = .ok (.istore 6, 2) := by decide +kernel
theorem dX5_send_90 : decode cX5_send 90 = .ok (.iload 6, 2) := by decide +kernel
theorem dX5_send_92 : decode cX5_send 92 = .ok (.ifCond .eq 8, 3) := by decide +kernel
theorem dX5_send_95 : decode cX5_send 95 = .ok (.iload 4, 2) := by decide +kernel
theorem dX5_send_97 : decode cX5_send 97 = .ok (.goto 4, 3) := by decide +kernel
theorem dX5_send_100 : decode cX5_send 100 = .ok (.iload_n 2, 1) := by decide +kernel
theorem dX5_send_101 : decode cX5_send 101 = .ok (.istore_n 2, 1) := by decide +kernel
theorem dX5_send_102 : decode cX5_send 102 = .ok (.iload 6, 2) := by decide +kernel
theorem dX5_send_104 : decode cX5_send 104 = .ok (.ifCond .eq 8, 3) := by decide +kernel
theorem dX5_send_107 : decode cX5_send 107 = .ok (.iload 5, 2) := by decide +kernel
theorem dX5_send_109 : decode cX5_send 109 = .ok (.goto 4, 3) := by decide +kernel
theorem dX5_send_112 : decode cX5_send 112 = .ok (.iload_n 3, 1) := by decide +kernel
theorem dX5_send_113 : decode cX5_send 113 = .ok (.istore_n 3, 1) := by decide +kernel
theorem dX5_send_114 : decode cX5_send 114 = .ok (.iinc 4 1, 3) := by decide +kernel
theorem dX5_send_117 : decode cX5_send 117 = .ok (.goto (-88), 3) := by decide +kernel
theorem dX5_send_120 : decode cX5_send 120 = .ok (.aload_n 0, 1) := by decide +kernel
theorem dX5_send_121 : decode cX5_send 121 = .ok (.iload_n 2, 1) := by decide +kernel
theorem dX5_send_122 : decode cX5_send 122 = .ok (.invokevirtual 148, 3) := by decide +kernel
theorem dX5_send_125 : decode cX5_send 125 = .ok (.ireturn, 1) := by decide +kernel
theorem dX5_cloud_0 : decode cX5_cloud 0 = .ok (.iload_n 1, 1) := by decide +kernel
theorem dX5_cloud_1 : decode cX5_cloud 1 = .ok (.i2l, 1) := by decide +kernel
theorem dX5_cloud_2 : decode cX5_cloud 2 = .ok (.iconst 1, 1) := by decide +kernel
theorem dX5_cloud_3 : decode cX5_cloud 3 = .ok (.bipush 60, 2) := by decide +kernel
theorem dX5_cloud_5 : decode cX5_cloud 5 = .ok (.invokestatic 44, 3) := by decide +kernel
theorem dX5_cloud_8 : decode cX5_cloud 8 = .ok (.ifCond .ne 10, 3) := by decide +kernel
theorem dX5_cloud_11 : decode cX5_cloud 11 = .ok (.aload_n 0, 1) := by decide +kernel
theorem dX5_cloud_12 : decode cX5_cloud 12 = .ok (.ldc 38, 2) := by decide +kernel
theorem dX5_cloud_14 : decode cX5_cloud 14 = .ok (.invokevirtual 40, 3) := by decide +kernel
theorem dX5_cloud_17 : decode cX5_cloud 17 = .ok (.ireturn, 1) := by decide +kernel
theorem dX5_cloud_18 : decode cX5_cloud 18 = .ok (.aload_n 0, 1) := by decide +kernel
theorem dX5_cloud_19 : decode cX5_cloud 19 = .ok (.invokevirtual 139, 3) := by decide +kernel
theorem dX5_cloud_22 : decode cX5_cloud 22 = .ok (.iconst (-1), 1) := by decide +kernel
theorem dX5_cloud_23 : decode cX5_cloud 23 = .ok (.istore_n 2, 1) := by decide +kernel
theorem dX5_cloud_24 : decode cX5_cloud 24 = .ok (.iconst 0, 1) := by decide +kernel
theorem dX5_cloud_25 : decode cX5_cloud 25 = .ok (.istore_n 3, 1) := by decide +kernel
theorem dX5_cloud_26 : decode cX5_cloud 26 = .ok (.iconst 0, 1) := by decide +kernel
theorem dX5_cloud_27 : decode cX5_cloud 27 = .ok (.istore 4, 2) := by decide +kernel
theorem dX5_cloud_29 : decode cX5_cloud 29 = .ok (.iload 4, 2) := by decide +kernel
theorem dX5_cloud_31 : decode cX5_cloud 31 = .ok (.bipush 10, 2) := by decide +kernel
theorem dX5_cloud_33 : decode cX5_cloud 33 = .ok (.if_icmp .ge 75, 3) := by decide +kernel
theorem dX5_cloud_36 : decode cX5_cloud 36 = .ok (.aload_n 0, 1) := by decide +kernel
theorem dX5_cloud_37 : decode cX5_cloud 37 = .ok (.getfield 9, 3) := by decide +kernel
theorem dX5_cloud_40 : decode cX5_cloud 40 = .ok (.iconst 2, 1) := by decide +kernel
theorem dX5_cloud_41 : decode cX5_cloud 41 = .ok (.iload 4, 2) := by decide +kernel
theorem dX5_cloud_43 : decode cX5_cloud 43 = .ok (.iadd, 1) := by decide +kernel
theorem dX5_cloud_44 : decode cX5_cloud 44 = .ok (.iconst 0, 1) := by decide +kernel
theorem dX5_cloud_45 : decode cX5_cloud 45 = .ok (.iastore, 1) := by decide +kernel
theorem dX5_cloud_46 : decode cX5_cloud 46 = .ok (.aload_n 0, 1) := by decide +kernel
theorem dX5_cloud_47 : decode cX5_cloud 47 = .ok (.iload_n 1, 1) := by decide +kernel
theorem dX5_cloud_48 : decode cX5_cloud 48 = .ok (.invokevirtual 131, 3) := by decide +kernel
theorem dX5_cloud_51 : decode cX5_cloud 51 = .ok (.aload_n 0, 1) := by decide +kernel
theorem dX5_cloud_52 : decode cX5_cloud 52 = .ok (.invokevirtual 88, 3) := by decide +kernel
theorem dX5_cloud_55 : decode cX5_cloud 55 = .ok (.istore 5, 2) := by decide +kernel
theorem dX5_cloud_57 : decode cX5_cloud 57 = .ok (.aload_n 0, 1) := by decide +kernel
theorem dX5_cloud_58 : decode cX5_cloud 58 = .ok (.invokevirtual 142, 3) := by decide +kernel
theorem dX5_cloud_61 : decode cX5_cloud 61 = .ok (.iload_n 2, 1) := by decide +kernel
theorem dX5_cloud_62 : decode cX5_cloud 62 = .ok (.ifCond .lt 9, 3) := by decide +kernel
theorem dX5_cloud_65 : decode cX5_cloud 65 = .ok (.iload 5, 2) := by decide +kernel
theorem dX5_cloud_67 : decode cX5_cloud 67 = .ok (.iload_n 3, 1) := by decide +kernel
theorem dX5_cloud_68 : decode cX5_cloud 68 = .ok (.if_icmp .ge 7, 3) := by decide +kernel
theorem dX5_cloud_71 : decode cX5_cloud 71 = .ok (.iconst 1, 1) := by decide +kernel
theorem dX5_cloud_72 : decode cX5_cloud 72 = .ok (.goto 4, 3) := by decide +kernel
theorem dX5_cloud_75 : decode cX5_cloud 75 = .ok (.iconst 0, 1) := by decide +kernel
theorem dX5_cloud_76 : decode cX5_cloud 76 = .ok (.istore 6, 2) := by decide +kernel
theorem dX5_cloud_78 : decode cX5_cloud 78 = .ok (.iload 6, 2) := by decide +kernel
theorem dX5_cloud_80 : decode cX5_cloud 80 = .ok (.ifCond .eq 8, 3) := by decide +kernel
theorem dX5_cloud_83 : decode cX5_cloud 83 = .ok (.iload 4, 2) := by decide +kernel
theorem dX5_cloud_85 : decode cX5_cloud 85 = .ok (.goto 4, 3) := by decide +kernel
theorem dX5_cloud_88 : decode cX5_cloud 88 = .ok (.iload_n 2, 1) := by decide +kernel
theorem dX5_cloud_89 : decode cX5_cloud 89 = .ok (.istore_n 2, 1) := by decide +kernel
theorem dX5_cloud_90 : decode cX5_cloud 90 = .ok (.iload 6, 2) := by decide +kernel
theorem dX5_cloud_92 : decode cX5_cloud 92 = .ok (.ifCond .eq 8, 3) := by decide +kernel
theorem dX5_cloud_95 : decode cX5_cloud 95 = .ok (.iload 5, 2) := by decide +kernel
theorem dX5_cloud_97 : decode cX5_cloud 97 = .ok (.goto 4, 3) := by decide +kernel
theorem dX5_cloud_100 : decode cX5_cloud 100 = .ok (.iload_n 3, 1) := by decide +kernel
theorem dX5_cloud_101 : decode cX5_cloud 101 = .ok (.istore_n 3, 1) := by decide +kernel
theorem dX5_cloud_102 : decode cX5_cloud 102 = .ok (.iinc 4 1, 3) := by decide +kernel
theorem dX5_cloud_105 : decode cX5_cloud 105 = .ok (.goto (-76), 3) := by decide +kernel
theorem dX5_cloud_108 : decode cX5_cloud 108 = .ok (.iload_n 2, 1) := by decide +kernel
theorem dX5_cloud_109 : decode cX5_cloud 109 = .ok (.ireturn, 1) := by decide +kernel
theorem dX5_enough_0 : decode cX5_enough 0 = .ok (.aload_n 0, 1) := by decide +kernel
theorem dX5_enough_1 : decode cX5_enough 1 = .ok (.iload_n 1, 1) := by decide +kernel
theorem dX5_enough_2 : decode cX5_enough 2 = .ok (.iload_n 2, 1) := by decide +kernel
theorem dX5_enough_3 : decode cX5_enough 3 = .ok (.invokevirtual 151, 3) := by decide +kernel
theorem dX5_enough_6 : decode cX5_enough 6 = .ok (.ifCond .eq 27, 3) := by decide +kernel
theorem dX5_enough_9 : decode cX5_enough 9 = .ok (.iload_n 3, 1) := by decide +kernel
theorem dX5_enough_10 : decode cX5_enough 10 = .ok (.i2l, 1) := by decide +kernel
theorem dX5_enough_11 : decode cX5_enough 11 = .ok (.iconst 1, 1) := by decide +kernel
theorem dX5_enough_12 : decode cX5_enough 12 = .ok (.bipush 60, 2) := by decide +kernel
theorem dX5_enough_14 : decode cX5_enough 14 = .ok (.invokestatic 44, 3) := by decide +kernel
theorem dX5_enough_17 : decode cX5_enough 17 = .ok (.ifCond .eq 16, 3) := by decide +kernel
theorem dX5_enough_20 : decode cX5_enough 20 = .ok (.iload 4, 2) := by decide +kernel
theorem dX5_enough_22 : decode cX5_enough 22 = .ok (.i2l, 1) := by decide +kernel
theorem dX5_enough_23 : decode cX5_enough 23 = .ok (.iconst 0, 1) := by decide +kernel
theorem dX5_enough_24 : decode cX5_enough 24 = .ok (.sipush 400, 3) := by decide +kernel
theorem dX5_enough_27 : decode cX5_enough 27 = .ok (.invokestatic 44, 3) := by decide +kernel
theorem dX5_enough_30 : decode cX5_enough 30 = .ok (.ifCond .ne 10, 3) := by decide +kernel
theorem dX5_enough_33 : decode cX5_enough 33 = .ok (.aload_n 0, 1) := by decide +kernel
theorem dX5_enough_34 : decode cX5_enough 34 = .ok (.ldc 38, 2) := by decide +kernel
theorem dX5_enough_36 : decode cX5_enough 36 = .ok (.invokevirtual 40, 3) := by decide +kernel
theorem dX5_enough_39 : decode cX5_enough 39 = .ok (.ireturn, 1) := by decide +kernel
theorem dX5_enough_40 : decode cX5_enough 40 = .ok (.aload_n 0, 1) := by decide +kernel
theorem dX5_enough_41 : decode cX5_enough 41 = .ok (.invokevirtual 139, 3) := by decide +kernel
theorem dX5_enough_44 : decode cX5_enough 44 = .ok (.iconst (-1), 1) := by decide +kernel
theorem dX5_enough_45 : decode cX5_enough 45 = .ok (.istore 5, 2) := by decide +kernel
theorem dX5_enough_47 : decode cX5_enough 47 = .ok (.iconst 0, 1) := by decide +kernel
theorem dX5_enough_48 : decode cX5_enough 48 = .ok (.istore 6, 2) := by decide +kernel
theorem dX5_enough_50 : decode cX5_enough 50 = .ok (.iload 6, 2) := by decide +kernel
theorem dX5_enough_52 : decode cX5_enough 52 = .ok (.sipush 200, 3) := by decide +kernel
theorem dX5_enough_55 : decode cX5_enough 55 = .ok (.if_icmp .gt 41, 3) := by decide +kernel
theorem dX5_enough_58 : decode cX5_enough 58 = .ok (.iload 5, 2) := by decide +kernel
theorem dX5_enough_60 : decode cX5_enough 60 = .ok (.ifCond .ge 36, 3) := by decide +kernel
theorem dX5_enough_63 : decode cX5_enough 63 = .ok (.aload_n 0, 1) := by decide +kernel
theorem dX5_enough_64 : decode cX5_enough 64 = .ok (.iload_n 1, 1) := by decide +kernel
theorem dX5_enough_65 : decode cX5_enough 65 = .ok (.iconst 2, 1) := by decide +kernel
theorem dX5_enough_66 : decode cX5_enough 66 = .ok (.iload 6, 2) := by decide +kernel
theorem dX5_enough_68 : decode cX5_enough 68 = .ok (.invokevirtual 91, 3) := by decide +kernel
theorem dX5_enough_71 : decode cX5_enough 71 = .ok (.aload_n 0, 1) := by decide +kernel
theorem dX5_enough_72 : decode cX5_enough 72 = .ok (.iload_n 2, 1) := by decide +kernel
theorem dX5_enough_73 : decode cX5_enough 73 = .ok (.iload_n 3, 1) := by decide +kernel
theorem dX5_enough_74 : decode cX5_enough 74 = .ok (.invokevirtual 145, 3) := by decide +kernel
theorem dX5_enough_77 : decode cX5_enough 77 = .ok (.iload 4, 2) := by decide +kernel
theorem dX5_enough_79 : decode cX5_enough 79 = .ok (.if_icmp .lt 8, 3) := by decide +kernel
theorem dX5_enough_82 : decode cX5_enough 82 = .ok (.iload 6, 2) := by decide +kernel
theorem dX5_enough_84 : decode cX5_enough 84 = .ok (.goto 4, 3) := by decide +kernel
theorem dX5_enough_87 : decode cX5_enough 87 = .ok (.iconst (-1), 1) := by decide +kernel
theorem dX5_enough_88 : decode cX5_enough 88 = .ok (.istore 5, 2) := by decide +kernel
theorem dX5_enough_90 : decode cX5_enough 90 = .ok (.iinc 6 1, 3) := by decide +kernel
theorem dX5_enough_93 : decode cX5_enough 93 = .ok (.goto (-43), 3) := by decide +kernel
theorem dX5_enough_96 : decode cX5_enough 96 = .ok (.aload_n 0, 1) := by decide +kernel
theorem dX5_enough_97 : decode cX5_enough 97 = .ok (.iload 5, 2) := by decide +kernel
theorem dX5_enough_99 : decode cX5_enough 99 = .ok (.invokevirtual 148, 3) := by decide +kernel
theorem dX5_enough_102 : decode cX5_enough 102 = .ok (.ireturn, 1) := by decide +kernel
theorem dX5_brownest_0 : decode cX5_brownest 0 = .ok (.iload_n 1, 1) := by decide +kernel
theorem dX5_brownest_1 : decode cX5_brownest 1 = .ok (.i2l, 1) := by decide +kernel
theorem dX5_brownest_2 : decode cX5_brownest 2 = .ok (.iconst 0, 1) := by decide +kernel
theorem dX5_brownest_3 : decode cX5_brownest 3 = .ok (.sipush 200, 3) := by decide +kernel
theorem dX5_brownest_6 : decode cX5_brownest 6 = .ok (.invokestatic 44, 3) := by decide +kernel
theorem dX5_brownest_9 : decode cX5_brownest 9 = .ok (.ifCond .ne 10, 3) := by decide +kernel
theorem dX5_brownest_12 : decode cX5_brownest 12 = .ok (.aload_n 0, 1) := by decide +kernel
theorem dX5_brownest_13 : decode cX5_brownest 13 = .ok (.ldc 38, 2) := by decide +kernel
theorem dX5_brownest_15 : decode cX5_brownest 15 = .ok (.invokevirtual 40, 3) := by decide +kernel
theorem dX5_brownest_18 : decode cX5_brownest 18 = .ok (.ireturn, 1) := by decide +kernel
theorem dX5_brownest_19 : decode cX5_brownest 19 = .ok (.aload_n 0, 1) := by decide +kernel
theorem dX5_brownest_20 : decode cX5_brownest 20 = .ok (.invokevirtual 139, 3) := by decide +kernel
theorem dX5_brownest_23 : decode cX5_brownest 23 = .ok (.aload_n 0, 1) := by decide +kernel
theorem dX5_brownest_24 : decode cX5_brownest 24 = .ok (.iload_n 1, 1) := by decide +kernel
theorem dX5_brownest_25 : decode cX5_brownest 25 = .ok (.invokevirtual 131, 3) := by decide +kernel
theorem dX5_brownest_28 : decode cX5_brownest 28 = .ok (.iconst (-1), 1) := by decide +kernel
theorem dX5_brownest_29 : decode cX5_brownest 29 = .ok (.istore_n 2, 1) := by decide +kernel
theorem dX5_brownest_30 : decode cX5_brownest 30 = .ok (.iconst 0, 1) := by decide +kernel
theorem dX5_brownest_31 : decode cX5_brownest 31 = .ok (.istore_n 3, 1) := by decide +kernel
theorem dX5_brownest_32 : decode cX5_brownest 32 = .ok (.iload_n 3, 1) := by decide +kernel
theorem dX5_brownest_33 : decode cX5_brownest 33 = .ok (.aload_n 0, 1) := by decide +kernel
theorem dX5_brownest_34 : decode cX5_brownest 34 = .ok (.getfield 9, 3) := by decide +kernel
theorem dX5_brownest_37 : decode cX5_brownest 37 = .ok (.iconst 1, 1) := by decide +kernel
theorem dX5_brownest_38 : decode cX5_brownest 38 = .ok (.iaload, 1) := by decide +kernel
theorem dX5_brownest_39 : decode cX5_brownest 39 = .ok (.if_icmp .ge 32, 3) := by decide +kernel
theorem dX5_brownest_42 : decode cX5_brownest 42 = .ok (.iload_n 2, 1) := by decide +kernel
theorem dX5_brownest_43 : decode cX5_brownest 43 = .ok (.ifCond .lt 16, 3) := by decide +kernel
theorem dX5_brownest_46 : decode cX5_brownest 46 = .ok (.aload_n 0, 1) := by decide +kernel
theorem dX5_brownest_47 : decode cX5_brownest 47 = .ok (.iload_n 3, 1) := by decide +kernel
theorem dX5_brownest_48 : decode cX5_brownest 48 = .ok (.invokevirtual 105, 3) := by decide +kernel
theorem dX5_brownest_51 : decode cX5_brownest 51 = .ok (.aload_n 0, 1) := by decide +kernel
theorem dX5_brownest_52 : decode cX5_brownest 52 = .ok (.iload_n 2, 1) := by decide +kernel
theorem dX5_brownest_53 : decode cX5_brownest 53 = .ok (.invokevirtual 105, 3) := by decide +kernel
theorem dX5_brownest_56 : decode cX5_brownest 56 = .ok (.if_icmp .le 7, 3) := by decide +kernel
theorem dX5_brownest_59 : decode cX5_brownest 59 = .ok (.iload_n 3, 1) := by decide +kernel
theorem dX5_brownest_60 : decode cX5_brownest 60 = .ok (.goto 4, 3) := by decide +kernel
theorem dX5_brownest_63 : decode cX5_brownest 63 = .ok (.iload_n 2, 1) := by decide +kernel
theorem dX5_brownest_64 : decode cX5_brownest 64 = .ok (.istore_n 2, 1) := by decide +kernel
theorem dX5_brownest_65 : decode cX5_brownest 65 = .ok (.iinc 3 1, 3) := by decide +kernel
theorem dX5_brownest_68 : decode cX5_brownest 68 = .ok (.goto (-36), 3) := by decide +kernel
theorem dX5_brownest_71 : decode cX5_brownest 71 = .ok (.aload_n 0, 1) := by decide +kernel
theorem dX5_brownest_72 : decode cX5_brownest 72 = .ok (.invokevirtual 142, 3) := by decide +kernel
theorem dX5_brownest_75 : decode cX5_brownest 75 = .ok (.aload_n 0, 1) := by decide +kernel
theorem dX5_brownest_76 : decode cX5_brownest 76 = .ok (.iload_n 2, 1) := by decide +kernel
theorem dX5_brownest_77 : decode cX5_brownest 77 = .ok (.invokevirtual 148, 3) := by decide +kernel
theorem dX5_brownest_80 : decode cX5_brownest 80 = .ok (.ireturn, 1) := by decide +kernel
theorem dX5_feed_0 : decode cX5_feed 0 = .ok (.iload_n 2, 1) := by decide +kernel
theorem dX5_feed_1 : decode cX5_feed 1 = .ok (.i2l, 1) := by decide +kernel
theorem dX5_feed_2 : decode cX5_feed 2 = .ok (.iconst 1, 1) := by decide +kernel
theorem dX5_feed_3 : decode cX5_feed 3 = .ok (.iconst 4, 1) := by decide +kernel
theorem dX5_feed_4 : decode cX5_feed 4 = .ok (.invokestatic 44, 3) := by decide +kernel
theorem dX5_feed_7 : decode cX5_feed 7 = .ok (.ifCond .ne 10, 3) := by decide +kernel
theorem dX5_feed_10 : decode cX5_feed 10 = .ok (.aload_n 0, 1) := by decide +kernel
theorem dX5_feed_11 : decode cX5_feed 11 = .ok (.ldc 38, 2) := by decide +kernel
theorem dX5_feed_13 : decode cX5_feed 13 = .ok (.invokevirtual 40, 3) := by decide +kernel
theorem dX5_feed_16 : decode cX5_feed 16 = .ok (.ireturn, 1) := by decide +kernel
theorem dX5_feed_17 : decode cX5_feed 17 = .ok (.aload_n 0, 1) := by decide +kernel
theorem dX5_feed_18 : decode cX5_feed 18 = .ok (.getfield 154, 3) := by decide +kernel
theorem dX5_feed_21 : decode cX5_feed 21 = .ok (.iload_n 2, 1) := by decide +kernel
theorem dX5_feed_22 : decode cX5_feed 22 = .ok (.iadd, 1) := by decide +kernel
theorem dX5_feed_23 : decode cX5_feed 23 = .ok (.bipush 120, 2) := by decide +kernel
theorem dX5_feed_25 : decode cX5_feed 25 = .ok (.if_icmp .le 10, 3) := by decide +kernel
theorem dX5_feed_28 : decode cX5_feed 28 = .ok (.aload_n 0, 1) := by decide +kernel
theorem dX5_feed_29 : decode cX5_feed 29 = .ok (.ldc 95, 2) := by decide +kernel
theorem dX5_feed_31 : decode cX5_feed 31 = .ok (.invokevirtual 40, 3) := by decide +kernel
theorem dX5_feed_34 : decode cX5_feed 34 = .ok (.ireturn, 1) := by decide +kernel
theorem dX5_feed_35 : decode cX5_feed 35 = .ok (.iload_n 2, 1) := by decide +kernel
theorem dX5_feed_36 : decode cX5_feed 36 = .ok (.iconst 1, 1) := by decide +kernel
theorem dX5_feed_37 : decode cX5_feed 37 = .ok (.isub, 1) := by decide +kernel
theorem dX5_feed_38 : decode cX5_feed 38 = .ok (.istore_n 3, 1) := by decide +kernel
theorem dX5_feed_39 : decode cX5_feed 39 = .ok (.iload_n 3, 1) := by decide +kernel
theorem dX5_feed_40 : decode cX5_feed 40 = .ok (.ifCond .lt 38, 3) := by decide +kernel
theorem dX5_feed_43 : decode cX5_feed 43 = .ok (.aload_n 0, 1) := by decide +kernel
theorem dX5_feed_44 : decode cX5_feed 44 = .ok (.getfield 25, 3) := by decide +kernel
theorem dX5_feed_47 : decode cX5_feed 47 = .ok (.aload_n 0, 1) := by decide +kernel
theorem dX5_feed_48 : decode cX5_feed 48 = .ok (.getfield 154, 3) := by decide +kernel
theorem dX5_feed_51 : decode cX5_feed 51 = .ok (.iload_n 1, 1) := by decide +kernel
theorem dX5_feed_52 : decode cX5_feed 52 = .ok (.bipush 8, 2) := by decide +kernel
theorem dX5_feed_54 : decode cX5_feed 54 = .ok (.iload_n 3, 1) := by decide +kernel
theorem dX5_feed_55 : decode cX5_feed 55 = .ok (.imul, 1) := by decide +kernel
theorem dX5_feed_56 : decode cX5_feed 56 = .ok (.ishr, 1) := by decide +kernel
theorem dX5_feed_57 : decode cX5_feed 57 = .ok (.sipush 255, 3) := by decide +kernel
theorem dX5_feed_60 : decode cX5_feed 60 = .ok (.iand, 1) := by decide +kernel
theorem dX5_feed_61 : decode cX5_feed 61 = .ok (.iastore, 1) := by decide +kernel
theorem dX5_feed_62 : decode cX5_feed 62 = .ok (.aload_n 0, 1) := by decide +kernel
theorem dX5_feed_63 : decode cX5_feed 63 = .ok (.dup, 1) := by decide +kernel
theorem dX5_feed_64 : decode cX5_feed 64 = .ok (.getfield 154, 3) := by decide +kernel
theorem dX5_feed_67 : decode cX5_feed 67 = .ok (.iconst 1, 1) := by decide +kernel
theorem dX5_feed_68 : decode cX5_feed 68 = .ok (.iadd, 1) := by decide +kernel
theorem dX5_feed_69 : decode cX5_feed 69 = .ok (.putfield 154, 3) := by decide +kernel
theorem dX5_feed_72 : decode cX5_feed 72 = .ok (.iinc 3 (-1), 3) := by decide +kernel
theorem dX5_feed_75 : decode cX5_feed 75 = .ok (.goto (-36), 3) := by decide +kernel
theorem dX5_feed_78 : decode cX5_feed 78 = .ok (.aload_n 0, 1) := by decide +kernel
theorem dX5_feed_79 : decode cX5_feed 79 = .ok (.getfield 154, 3) := by decide +kernel
theorem dX5_feed_82 : decode cX5_feed 82 = .ok (.ireturn, 1) := by decide +kernel
theorem dX5_wipe_0 : decode cX5_wipe 0 = .ok (.aload_n 0, 1) := by decide +kernel
theorem dX5_wipe_1 : decode cX5_wipe 1 = .ok (.getfield 154, 3) := by decide +kernel
theorem dX5_wipe_4 : decode cX5_wipe 4 = .ok (.istore_n 1, 1) := by decide +kernel
theorem dX5_wipe_5 : decode cX5_wipe 5 = .ok (.aload_n 0, 1) := by decide +kernel
theorem dX5_wipe_6 : decode cX5_wipe 6 = .ok (.iconst 0, 1) := by decide +kernel
theorem dX5_wipe_7 : decode cX5_wipe 7 = .ok (.putfield 154, 3) := by decide +kernel
theorem dX5_wipe_10 : decode cX5_wipe 10 = .ok (.iload_n 1, 1) := by decide +kernel
theorem dX5_wipe_11 : decode cX5_wipe 11 = .ok (.ireturn, 1) := by decide +kernel
theorem dX5_isByte_0 : decode cX5_isByte 0 = .ok (.iload_n 1, 1) := by decide +kernel
theorem dX5_isByte_1 : decode cX5_isByte 1 = .ok (.aload_n 0, 1) := by decide +kernel
theorem dX5_isByte_2 : decode cX5_isByte 2 = .ok (.getfield 154, 3) := by decide +kernel
theorem dX5_isByte_5 : decode cX5_isByte 5 = .ok (.if_icmp .ge 22, 3) := by decide +kernel
theorem dX5_isByte_8 : decode cX5_isByte 8 = .ok (.aload_n 0, 1) := by decide +kernel
theorem dX5_isByte_9 : decode cX5_isByte 9 = .ok (.getfield 25, 3) := by decide +kernel
theorem dX5_isByte_12 : decode cX5_isByte 12 = .ok (.iload_n 1, 1) := by decide +kernel
theorem dX5_isByte_13 : decode cX5_isByte 13 = .ok (.iaload, 1) := by decide +kernel
theorem dX5_isByte_14 : decode cX5_isByte 14 = .ok (.i2l, 1) := by decide +kernel
theorem dX5_isByte_15 : decode cX5_isByte 15 = .ok (.iload_n 2, 1) := by decide +kernel
theorem dX5_isByte_16 : decode cX5_isByte 16 = .ok (.iload_n 3, 1) := by decide +kernel
theorem dX5_isByte_17 : decode cX5_isByte 17 = .ok (.invokestatic 44, 3) := by decide +kernel
theorem dX5_isByte_20 : decode cX5_isByte 20 = .ok (.ifCond .eq 7, 3) := by decide +kernel
theorem dX5_isByte_23 : decode cX5_isByte 23 = .ok (.iconst 1, 1) := by decide +kernel
theorem dX5_isByte_24 : decode cX5_isByte 24 = .ok (.goto 4, 3) := by decide +kernel
theorem dX5_isByte_27 : decode cX5_isByte 27 = .ok (.iconst 0, 1) := by decide +kernel
theorem dX5_isByte_28 : decode cX5_isByte 28 = .ok (.ireturn, 1) := by decide +kernel
theorem dX5_isName_0 : decode cX5_isName 0 = .ok (.iload_n 2, 1) := by decide +kernel
theorem dX5_isName_1 : decode cX5_isName 1 = .ok (.bipush 7, 2) := by decide +kernel
theorem dX5_isName_3 : decode cX5_isName 3 = .ok (.if_icmp .gt 26, 3) := by decide +kernel
theorem dX5_isName_6 : decode cX5_isName 6 = .ok (.iload_n 2, 1) := by decide +kernel
theorem dX5_isName_7 : decode cX5_isName 7 = .ok (.bipush 7, 2) := by decide +kernel
theorem dX5_isName_9 : decode cX5_isName 9 = .ok (.if_icmp .eq 16, 3) := by decide +kernel
theorem dX5_isName_12 : decode cX5_isName 12 = .ok (.getstatic 158, 3) := by decide +kernel
theorem dX5_isName_15 : decode cX5_isName 15 = .ok (.bipush 7, 2) := by decide +kernel
theorem dX5_isName_17 : decode cX5_isName 17 = .ok (.iload_n 1, 1) := by decide +kernel
theorem dX5_isName_18 : decode cX5_isName 18 = .ok (.imul, 1) := by decide +kernel
theorem dX5_isName_19 : decode cX5_isName 19 = .ok (.iload_n 2, 1) := by decide +kernel
theorem dX5_isName_20 : decode cX5_isName 20 = .ok (.iadd, 1) := by decide +kernel
theorem dX5_isName_21 : decode cX5_isName 21 = .ok (.iaload, 1) := by decide +kernel
theorem dX5_isName_22 : decode cX5_isName 22 = .ok (.ifCond .ne 7, 3) := by decide +kernel
theorem dX5_isName_25 : decode cX5_isName 25 = .ok (.iconst 1, 1) := by decide +kernel
theorem dX5_isName_26 : decode cX5_isName 26 = .ok (.goto 4, 3) := by decide +kernel
theorem dX5_isName_29 : decode cX5_isName 29 = .ok (.iconst 0, 1) := by decide +kernel
theorem dX5_isName_30 : decode cX5_isName 30 = .ok (.istore_n 3, 1) := by decide +kernel
theorem dX5_isName_31 : decode cX5_isName 31 = .ok (.iconst 0, 1) := by decide +kernel
theorem dX5_isName_32 : decode cX5_isName 32 = .ok (.istore 4, 2) := by decide +kernel
theorem dX5_isName_34 : decode cX5_isName 34 = .ok (.iload 4, 2) := by decide +kernel
theorem dX5_isName_36 : decode cX5_isName 36 = .ok (.iload_n 2, 1) := by decide +kernel
theorem dX5_isName_37 : decode cX5_isName 37 = .ok (.if_icmp .ge 45, 3) := by decide +kernel
theorem dX5_isName_40 : decode cX5_isName 40 = .ok (.iload_n 3, 1) := by decide +kernel
theorem dX5_isName_41 : decode cX5_isName 41 = .ok (.ifCond .eq 41, 3) := by decide +kernel
theorem dX5_isName_44 : decode cX5_isName 44 = .ok (.getstatic 158, 3) := by decide +kernel
theorem dX5_isName_47 : decode cX5_isName 47 = .ok (.bipush 7, 2) := by decide +kernel
theorem dX5_isName_49 : decode cX5_isName 49 = .ok (.iload_n 1, 1) := by decide +kernel
theorem dX5_isName_50 : decode cX5_isName 50 = .ok (.imul, 1) := by decide +kernel
theorem dX5_isName_51 : decode cX5_isName 51 = .ok (.iload 4, 2) := by decide +kernel
theorem dX5_isName_53 : decode cX5_isName 53 = .ok (.iadd, 1) := by decide +kernel
theorem dX5_isName_54 : decode cX5_isName 54 = .ok (.iaload, 1) := by decide +kernel
theorem dX5_isName_55 : decode cX5_isName 55 = .ok (.aload_n 0, 1) := by decide +kernel
theorem dX5_isName_56 : decode cX5_isName 56 = .ok (.getfield 25, 3) := by decide +kernel
theorem dX5_isName_59 : decode cX5_isName 59 = .ok (.aload_n 0, 1) := by decide +kernel
theorem dX5_isName_60 : decode cX5_isName 60 = .ok (.getfield 161, 3) := by decide +kernel
theorem dX5_isName_63 : decode cX5_isName 63 = .ok (.iload 4, 2) := by decide +kernel
theorem dX5_isName_65 : decode cX5_isName 65 = .ok (.iadd, 1) := by decide +kernel
theorem dX5_isName_66 : decode cX5_isName 66 = .ok (.iaload, 1) := by decide +kernel
theorem dX5_isName_67 : decode cX5_isName 67 = .ok (.if_icmp .ne 7, 3) := by decide +kernel
theorem dX5_isName_70 : decode cX5_isName 70 = .ok (.iconst 1, 1) := by decide +kernel
theorem dX5_isName_71 : decode cX5_isName 71 = .ok (.goto 4, 3) := by decide +kernel
theorem dX5_isName_74 : decode cX5_isName 74 = .ok (.iconst 0, 1) := by decide +kernel
theorem dX5_isName_75 : decode cX5_isName 75 = .ok (.istore_n 3, 1) := by decide +kernel
theorem dX5_isName_76 : decode cX5_isName 76 = .ok (.iinc 4 1, 3) := by decide +kernel
theorem dX5_isName_79 : decode cX5_isName 79 = .ok (.goto (-45), 3) := by decide +kernel
theorem dX5_isName_82 : decode cX5_isName 82 = .ok (.iload_n 3, 1) := by decide +kernel
theorem dX5_isName_83 : decode cX5_isName 83 = .ok (.ireturn, 1) := by decide +kernel
theorem dX5_wordHere_0 : decode cX5_wordHere 0 = .ok (.iconst 0, 1) := by decide +kernel
theorem dX5_wordHere_1 : decode cX5_wordHere 1 = .ok (.istore_n 1, 1) := by decide +kernel
theorem dX5_wordHere_2 : decode cX5_wordHere 2 = .ok (.iload_n 1, 1) := by decide +kernel
theorem dX5_wordHere_3 : decode cX5_wordHere 3 = .ok (.bipush 10, 2) := by decide +kernel
theorem dX5_wordHere_5 : decode cX5_wordHere 5 = .ok (.if_icmp .ge 26, 3) := by decide +kernel
theorem dX5_wordHere_8 : decode cX5_wordHere 8 = .ok (.aload_n 0, 1) := by decide +kernel
theorem dX5_wordHere_9 : decode cX5_wordHere 9 = .ok (.iload_n 1, 1) := by decide +kernel
theorem dX5_wordHere_10 : decode cX5_wordHere 10 = .ok (.aload_n 0, 1) := by decide +kernel
theorem dX5_wordHere_11 : decode cX5_wordHere 11 = .ok (.getfield 164, 3) := by decide +kernel
theorem dX5_wordHere_14 : decode cX5_wordHere 14 = .ok (.aload_n 0, 1) := by decide +kernel
theorem dX5_wordHere_15 : decode cX5_wordHere 15 = .ok (.getfield 161, 3) := by decide +kernel
theorem dX5_wordHere_18 : decode cX5_wordHere 18 = .ok (.isub, 1) := by decide +kernel
theorem dX5_wordHere_19 : decode cX5_wordHere 19 = .ok (.invokevirtual 167, 3) := by decide +kernel
theorem dX5_wordHere_22 : decode cX5_wordHere 22 = .ok (.ifCond .ne 9, 3) := by decide +kernel
theorem dX5_wordHere_25 : decode cX5_wordHere 25 = .ok (.iinc 1 1, 3) := by decide +kernel
theorem dX5_wordHere_28 : decode cX5_wordHere 28 = .ok (.goto (-26), 3) := by decide +kernel
theorem dX5_wordHere_31 : decode cX5_wordHere 31 = .ok (.iload_n 1, 1) := by decide +kernel
theorem dX5_wordHere_32 : decode cX5_wordHere 32 = .ok (.bipush 10, 2) := by decide +kernel
theorem dX5_wordHere_34 : decode cX5_wordHere 34 = .ok (.if_icmp .ge 7, 3) := by decide +kernel
theorem dX5_wordHere_37 : decode cX5_wordHere 37 = .ok (.iload_n 1, 1) := by decide +kernel
theorem dX5_wordHere_38 : decode cX5_wordHere 38 = .ok (.goto 5, 3) := by decide +kernel
theorem dX5_wordHere_41 : decode cX5_wordHere 41 = .ok (.bipush 23, 2) := by decide +kernel
theorem dX5_wordHere_43 : decode cX5_wordHere 43 = .ok (.ireturn, 1) := by decide +kernel
theorem dX5_reads_0 : decode cX5_reads 0 = .ok (.aload_n 0, 1) := by decide +kernel
theorem dX5_reads_1 : decode cX5_reads 1 = .ok (.aload_n 0, 1) := by decide +kernel
theorem dX5_reads_2 : decode cX5_reads 2 = .ok (.getfield 164, 3) := by decide +kernel
theorem dX5_reads_5 : decode cX5_reads 5 = .ok (.bipush 32, 2) := by decide +kernel
theorem dX5_reads_7 : decode cX5_reads 7 = .ok (.bipush 32, 2) := by decide +kernel
theorem dX5_reads_9 : decode cX5_reads 9 = .ok (.invokevirtual 170, 3) := by decide +kernel
theorem dX5_reads_12 : decode cX5_reads 12 = .ok (.ifCond .eq 16, 3) := by decide +kernel
theorem dX5_reads_15 : decode cX5_reads 15 = .ok (.aload_n 0, 1) := by decide +kernel
theorem dX5_reads_16 : decode cX5_reads 16 = .ok (.dup, 1) := by decide +kernel
theorem dX5_reads_17 : decode cX5_reads 17 = .ok (.getfield 164, 3) := by decide +kernel
theorem dX5_reads_20 : decode cX5_reads 20 = .ok (.iconst 1, 1) := by decide +kernel
theorem dX5_reads_21 : decode cX5_reads 21 = .ok (.iadd, 1) := by decide +kernel
theorem dX5_reads_22 : decode cX5_reads 22 = .ok (.putfield 164, 3) := by decide +kernel
theorem dX5_reads_25 : decode cX5_reads 25 = .ok (.goto (-25), 3) := by decide +kernel
theorem dX5_reads_28 : decode cX5_reads 28 = .ok (.aload_n 0, 1) := by decide +kernel
theorem dX5_reads_29 : decode cX5_reads 29 = .ok (.aload_n 0, 1) := by decide +kernel
theorem dX5_reads_30 : decode cX5_reads 30 = .ok (.getfield 164, 3) := by decide +kernel
theorem dX5_reads_33 : decode cX5_reads 33 = .ok (.putfield 161, 3) := by decide +kernel
theorem dX5_reads_36 : decode cX5_reads 36 = .ok (.aload_n 0, 1) := by decide +kernel
theorem dX5_reads_37 : decode cX5_reads 37 = .ok (.iconst 0, 1) := by decide +kernel
theorem dX5_reads_38 : decode cX5_reads 38 = .ok (.putfield 174, 3) := by decide +kernel
theorem dX5_reads_41 : decode cX5_reads 41 = .ok (.aload_n 0, 1) := by decide +kernel
theorem dX5_reads_42 : decode cX5_reads 42 = .ok (.getfield 164, 3) := by decide +kernel
theorem dX5_reads_45 : decode cX5_reads 45 = .ok (.aload_n 0, 1) := by decide +kernel
theorem dX5_reads_46 : decode cX5_reads 46 = .ok (.getfield 154, 3) := by decide +kernel
theorem dX5_reads_49 : decode cX5_reads 49 = .ok (.if_icmp .ne 12, 3) := by decide +kernel
theorem dX5_reads_52 : decode cX5_reads 52 = .ok (.aload_n 0, 1) := by decide +kernel
theorem dX5_reads_53 : decode cX5_reads 53 = .ok (.bipush 22, 2) := by decide +kernel
theorem dX5_reads_55 : decode cX5_reads 55 = .ok (.putfield 177, 3) := by decide +kernel
theorem dX5_reads_58 : decode cX5_reads 58 = .ok (.goto 186, 3) := by decide +kernel
theorem dX5_reads_61 : decode cX5_reads 61 = .ok (.aload_n 0, 1) := by decide +kernel
theorem dX5_reads_62 : decode cX5_reads 62 = .ok (.aload_n 0, 1) := by decide +kernel
theorem dX5_reads_63 : decode cX5_reads 63 = .ok (.getfield 164, 3) := by decide +kernel
theorem dX5_reads_66 : decode cX5_reads 66 = .ok (.bipush 97, 2) := by decide +kernel
theorem dX5_reads_68 : decode cX5_reads 68 = .ok (.bipush 122, 2) := by decide +kernel
theorem dX5_reads_70 : decode cX5_reads 70 = .ok (.invokevirtual 170, 3) := by decide +kernel
theorem dX5_reads_73 : decode cX5_reads 73 = .ok (.ifCond .eq 42, 3) := by decide +kernel
theorem dX5_reads_76 : decode cX5_reads 76 = .ok (.aload_n 0, 1) := by decide +kernel
theorem dX5_reads_77 : decode cX5_reads 77 = .ok (.aload_n 0, 1) := by decide +kernel
theorem dX5_reads_78 : decode cX5_reads 78 = .ok (.getfield 164, 3) := by decide +kernel
theorem dX5_reads_81 : decode cX5_reads 81 = .ok (.bipush 97, 2) := by decide +kernel
theorem dX5_reads_83 : decode cX5_reads 83 = .ok (.bipush 122, 2) := by decide +kernel
theorem dX5_reads_85 : decode cX5_reads 85 = .ok (.invokevirtual 170, 3) := by decide +kernel
theorem dX5_reads_88 : decode cX5_reads 88 = .ok (.ifCond .eq 16, 3) := by decide +kernel
theorem dX5_reads_91 : decode cX5_reads 91 = .ok (.aload_n 0, 1) := by decide +kernel
theorem dX5_reads_92 : decode cX5_reads 92 = .ok (.dup, 1) := by decide +kernel
theorem dX5_reads_93 : decode cX5_reads 93 = .ok (.getfield 164, 3) := by decide +kernel
theorem dX5_reads_96 : decode cX5_reads 96 = .ok (.iconst 1, 1) := by decide +kernel
theorem dX5_reads_97 : decode cX5_reads 97 = .ok (.iadd, 1) := by decide +kernel
theorem dX5_reads_98 : decode cX5_reads 98 = .ok (.putfield 164, 3) := by decide +kernel
theorem dX5_reads_101 : decode cX5_reads 101 = .ok (.goto (-25), 3) := by decide +kernel
theorem dX5_reads_104 : decode cX5_reads 104 = .ok (.aload_n 0, 1) := by decide +kernel
theorem dX5_reads_105 : decode cX5_reads 105 = .ok (.aload_n 0, 1) := by decide +kernel
theorem dX5_reads_106 : decode cX5_reads 106 = .ok (.invokevirtual 180, 3) := by decide +kernel
theorem dX5_reads_109 : decode cX5_reads 109 = .ok (.putfield 177, 3) := by decide +kernel
theorem dX5_reads_112 : decode cX5_reads 112 = .ok (.goto 132, 3) := by decide +kernel
theorem dX5_reads_115 : decode cX5_reads 115 = .ok (.aload_n 0, 1) := by decide +kernel
theorem dX5_reads_116 : decode cX5_reads 116 = .ok (.aload_n 0, 1) := by decide +kernel
theorem dX5_reads_117 : decode cX5_reads 117 = .ok (.getfield 164, 3) := by decide +kernel
theorem dX5_reads_120 : decode cX5_reads 120 = .ok (.bipush 48, 2) := by decide +kernel
theorem dX5_reads_122 : decode cX5_reads 122 = .ok (.bipush 57, 2) := by decide +kernel
theorem dX5_reads_124 : decode cX5_reads 124 = .ok (.invokevirtual 170, 3) := by decide +kernel
theorem dX5_reads_127 : decode cX5_reads 127 = .ok (.ifCond .eq 81, 3) := by decide +kernel
theorem dX5_reads_130 : decode cX5_reads 130 = .ok (.aload_n 0, 1) := by decide +kernel
theorem dX5_reads_131 : decode cX5_reads 131 = .ok (.aload_n 0, 1) := by decide +kernel
theorem dX5_reads_132 : decode cX5_reads 132 = .ok (.getfield 164, 3) := by decide +kernel
theorem dX5_reads_135 : decode cX5_reads 135 = .ok (.bipush 48, 2) := by decide +kernel
theorem dX5_reads_137 : decode cX5_reads 137 = .ok (.bipush 57, 2) := by decide +kernel
theorem dX5_reads_139 : decode cX5_reads 139 = .ok (.invokevirtual 170, 3) := by decide +kernel
theorem dX5_reads_142 : decode cX5_reads 142 = .ok (.ifCond .eq 57, 3) := by decide +kernel
theorem dX5_reads_145 : decode cX5_reads 145 = .ok (.aload_n 0, 1) := by decide +kernel
theorem dX5_reads_146 : decode cX5_reads 146 = .ok (.aload_n 0, 1) := by decide +kernel
theorem dX5_reads_147 : decode cX5_reads 147 = .ok (.getfield 174, 3) := by decide +kernel
theorem dX5_reads_150 : decode cX5_reads 150 = .ok (.sipush 999, 3) := by decide +kernel
theorem dX5_reads_153 : decode cX5_reads 153 = .ok (.if_icmp .le 10, 3) := by decide +kernel
theorem dX5_reads_156 : decode cX5_reads 156 = .ok (.aload_n 0, 1) := by decide +kernel
theorem dX5_reads_157 : decode cX5_reads 157 = .ok (.getfield 174, 3) := by decide +kernel
theorem dX5_reads_160 : decode cX5_reads 160 = .ok (.goto 23, 3) := by decide +kernel
theorem dX5_reads_163 : decode cX5_reads 163 = .ok (.bipush 10, 2) := by decide +kernel
theorem dX5_reads_165 : decode cX5_reads 165 = .ok (.aload_n 0, 1) := by decide +kernel
theorem dX5_reads_166 : decode cX5_reads 166 = .ok (.getfield 174, 3) := by decide +kernel
theorem dX5_reads_169 : decode cX5_reads 169 = .ok (.imul, 1) := by decide +kernel
theorem dX5_reads_170 : decode cX5_reads 170 = .ok (.aload_n 0, 1) := by decide +kernel
theorem dX5_reads_171 : decode cX5_reads 171 = .ok (.getfield 25, 3) := by decide +kernel
theorem dX5_reads_174 : decode cX5_reads 174 = .ok (.aload_n 0, 1) := by decide +kernel
theorem dX5_reads_175 : decode cX5_reads 175 = .ok (.getfield 164, 3) := by decide +kernel
theorem dX5_reads_178 : decode cX5_reads 178 = .ok (.iaload, 1) := by decide +kernel
theorem dX5_reads_179 : decode cX5_reads 179 = .ok (.iadd, 1) := by decide +kernel
theorem dX5_reads_180 : decode cX5_reads 180 = .ok (.bipush 48, 2) := by decide +kernel
theorem dX5_reads_182 : decode cX5_reads 182 = .ok (.isub, 1) := by decide +kernel
theorem dX5_reads_183 : decode cX5_reads 183 = .ok (.putfield 174, 3) := by decide +kernel
theorem dX5_reads_186 : decode cX5_reads 186 = .ok (.aload_n 0, 1) := by decide +kernel
theorem dX5_reads_187 : decode cX5_reads 187 = .ok (.dup, 1) := by decide +kernel
theorem dX5_reads_188 : decode cX5_reads 188 = .ok (.getfield 164, 3) := by decide +kernel
theorem dX5_reads_191 : decode cX5_reads 191 = .ok (.iconst 1, 1) := by decide +kernel
theorem dX5_reads_192 : decode cX5_reads 192 = .ok (.iadd, 1) := by decide +kernel
theorem dX5_reads_193 : decode cX5_reads 193 = .ok (.putfield 164, 3) := by decide +kernel
theorem dX5_reads_196 : decode cX5_reads 196 = .ok (.goto (-66), 3) := by decide +kernel
theorem dX5_reads_199 : decode cX5_reads 199 = .ok (.aload_n 0, 1) := by decide +kernel
theorem dX5_reads_200 : decode cX5_reads 200 = .ok (.bipush 20, 2) := by decide +kernel
theorem dX5_reads_202 : decode cX5_reads 202 = .ok (.putfield 177, 3) := by decide +kernel
theorem dX5_reads_205 : decode cX5_reads 205 = .ok (.goto 39, 3) := by decide +kernel
theorem dX5_reads_208 : decode cX5_reads 208 = .ok (.aload_n 0, 1) := by decide +kernel
theorem dX5_reads_209 : decode cX5_reads 209 = .ok (.aload_n 0, 1) := by decide +kernel
theorem dX5_reads_210 : decode cX5_reads 210 = .ok (.aload_n 0, 1) := by decide +kernel
theorem dX5_reads_211 : decode cX5_reads 211 = .ok (.getfield 164, 3) := by decide +kernel
theorem dX5_reads_214 : decode cX5_reads 214 = .ok (.bipush 59, 2) := by decide +kernel
theorem dX5_reads_216 : decode cX5_reads 216 = .ok (.bipush 59, 2) := by decide +kernel
theorem dX5_reads_218 : decode cX5_reads 218 = .ok (.invokevirtual 170, 3) := by decide +kernel
theorem dX5_reads_221 : decode cX5_reads 221 = .ok (.ifCond .eq 8, 3) := by decide +kernel
theorem dX5_reads_224 : decode cX5_reads 224 = .ok (.bipush 21, 2) := by decide +kernel
theorem dX5_reads_226 : decode cX5_reads 226 = .ok (.goto 5, 3) := by decide +kernel
theorem dX5_reads_229 : decode cX5_reads 229 = .ok (.bipush 23, 2) := by decide +kernel
theorem dX5_reads_231 : decode cX5_reads 231 = .ok (.putfield 177, 3) := by decide +kernel
theorem dX5_reads_234 : decode cX5_reads 234 = .ok (.aload_n 0, 1) := by decide +kernel
theorem dX5_reads_235 : decode cX5_reads 235 = .ok (.dup, 1) := by decide +kernel
theorem dX5_reads_236 : decode cX5_reads 236 = .ok (.getfield 164, 3) := by decide +kernel
theorem dX5_reads_239 : decode cX5_reads 239 = .ok (.iconst 1, 1) := by decide +kernel
theorem dX5_reads_240 : decode cX5_reads 240 = .ok (.iadd, 1) := by decide +kernel
theorem dX5_reads_241 : decode cX5_reads 241 = .ok (.putfield 164, 3) := by decide +kernel
theorem dX5_reads_244 : decode cX5_reads 244 = .ok (.return_, 1) := by decide +kernel
theorem dX5_passes_0 : decode cX5_passes 0 = .ok (.aload_n 0, 1) := by decide +kernel
theorem dX5_passes_1 : decode cX5_passes 1 = .ok (.getfield 183, 3) := by decide +kernel
theorem dX5_passes_4 : decode cX5_passes 4 = .ok (.ifCond .ne 11, 3) := by decide +kernel
theorem dX5_passes_7 : decode cX5_passes 7 = .ok (.aload_n 0, 1) := by decide +kernel
theorem dX5_passes_8 : decode cX5_passes 8 = .ok (.getfield 177, 3) := by decide +kernel
theorem dX5_passes_11 : decode cX5_passes 11 = .ok (.iload_n 1, 1) := by decide +kernel
theorem dX5_passes_12 : decode cX5_passes 12 = .ok (.if_icmp .eq 5, 3) := by decide +kernel
theorem dX5_passes_15 : decode cX5_passes 15 = .ok (.iconst 0, 1) := by decide +kernel
theorem dX5_passes_16 : decode cX5_passes 16 = .ok (.ireturn, 1) := by decide +kernel
theorem dX5_passes_17 : decode cX5_passes 17 = .ok (.aload_n 0, 1) := by decide +kernel
theorem dX5_passes_18 : decode cX5_passes 18 = .ok (.invokevirtual 187, 3) := by decide +kernel
theorem dX5_passes_21 : decode cX5_passes 21 = .ok (.iconst 1, 1) := by decide +kernel
theorem dX5_passes_22 : decode cX5_passes 22 = .ok (.ireturn, 1) := by decide +kernel
theorem dX5_number_0 : decode cX5_number 0 = .ok (.aload_n 0, 1) := by decide +kernel
theorem dX5_number_1 : decode cX5_number 1 = .ok (.getfield 174, 3) := by decide +kernel
theorem dX5_number_4 : decode cX5_number 4 = .ok (.istore_n 3, 1) := by decide +kernel
theorem dX5_number_5 : decode cX5_number 5 = .ok (.aload_n 0, 1) := by decide +kernel
theorem dX5_number_6 : decode cX5_number 6 = .ok (.aload_n 0, 1) := by decide +kernel
theorem dX5_number_7 : decode cX5_number 7 = .ok (.getfield 183, 3) := by decide +kernel
theorem dX5_number_10 : decode cX5_number 10 = .ok (.ifCond .ne 22, 3) := by decide +kernel
theorem dX5_number_13 : decode cX5_number 13 = .ok (.aload_n 0, 1) := by decide +kernel
theorem dX5_number_14 : decode cX5_number 14 = .ok (.getfield 177, 3) := by decide +kernel
theorem dX5_number_17 : decode cX5_number 17 = .ok (.bipush 20, 2) := by decide +kernel
theorem dX5_number_19 : decode cX5_number 19 = .ok (.if_icmp .ne 13, 3) := by decide +kernel
theorem dX5_number_22 : decode cX5_number 22 = .ok (.iload_n 3, 1) := by decide +kernel
theorem dX5_number_23 : decode cX5_number 23 = .ok (.i2l, 1) := by decide +kernel
theorem dX5_number_24 : decode cX5_number 24 = .ok (.iload_n 1, 1) := by decide +kernel
theorem dX5_number_25 : decode cX5_number 25 = .ok (.iload_n 2, 1) := by decide +kernel
theorem dX5_number_26 : decode cX5_number 26 = .ok (.invokestatic 44, 3) := by decide +kernel
theorem dX5_number_29 : decode cX5_number 29 = .ok (.ifCond .ne 7, 3) := by decide +kernel
theorem dX5_number_32 : decode cX5_number 32 = .ok (.iconst 1, 1) := by decide +kernel
theorem dX5_number_33 : decode cX5_number 33 = .ok (.goto 4, 3) := by decide +kernel
theorem dX5_number_36 : decode cX5_number 36 = .ok (.iconst 0, 1) := by decide +kernel
theorem dX5_number_37 : decode cX5_number 37 = .ok (.putfield 183, 3) := by decide +kernel
theorem dX5_number_40 : decode cX5_number 40 = .ok (.aload_n 0, 1) := by decide +kernel
theorem dX5_number_41 : decode cX5_number 41 = .ok (.getfield 183, 3) := by decide +kernel
theorem dX5_number_44 : decode cX5_number 44 = .ok (.ifCond .ne 7, 3) := by decide +kernel
theorem dX5_number_47 : decode cX5_number 47 = .ok (.aload_n 0, 1) := by decide +kernel
theorem dX5_number_48 : decode cX5_number 48 = .ok (.invokevirtual 187, 3) := by decide +kernel
theorem dX5_number_51 : decode cX5_number 51 = .ok (.iload_n 3, 1) := by decide +kernel
theorem dX5_number_52 : decode cX5_number 52 = .ok (.ireturn, 1) := by decide +kernel
theorem dX5_perhaps_0 : decode cX5_perhaps 0 = .ok (.aload_n 0, 1) := by decide +kernel
theorem dX5_perhaps_1 : decode cX5_perhaps 1 = .ok (.iload_n 1, 1) := by decide +kernel
theorem dX5_perhaps_2 : decode cX5_perhaps 2 = .ok (.invokevirtual 190, 3) := by decide +kernel
theorem dX5_perhaps_5 : decode cX5_perhaps 5 = .ok (.ifCond .eq 12, 3) := by decide +kernel
theorem dX5_perhaps_8 : decode cX5_perhaps 8 = .ok (.aload_n 0, 1) := by decide +kernel
theorem dX5_perhaps_9 : decode cX5_perhaps 9 = .ok (.iload_n 2, 1) := by decide +kernel
theorem dX5_perhaps_10 : decode cX5_perhaps 10 = .ok (.iload_n 3, 1) := by decide +kernel
theorem dX5_perhaps_11 : decode cX5_perhaps 11 = .ok (.invokevirtual 193, 3) := by decide +kernel
theorem dX5_perhaps_14 : decode cX5_perhaps 14 = .ok (.goto 5, 3) := by decide +kernel
theorem dX5_perhaps_17 : decode cX5_perhaps 17 = .ok (.iload 4, 2) := by decide +kernel
theorem dX5_perhaps_19 : decode cX5_perhaps 19 = .ok (.ireturn, 1) := by decide +kernel
theorem dX5_personItem_0 : decode cX5_personItem 0 = .ok (.aload_n 0, 1) := by decide +kernel
theorem dX5_personItem_1 : decode cX5_personItem 1 = .ok (.getfield 177, 3) := by decide +kernel
theorem dX5_personItem_4 : decode cX5_personItem 4 = .ok (.istore_n 1, 1) := by decide +kernel
theorem dX5_personItem_5 : decode cX5_personItem 5 = .ok (.aload_n 0, 1) := by decide +kernel
theorem dX5_personItem_6 : decode cX5_personItem 6 = .ok (.aload_n 0, 1) := by decide +kernel
theorem dX5_personItem_7 : decode cX5_personItem 7 = .ok (.getfield 9, 3) := by decide +kernel
theorem dX5_personItem_10 : decode cX5_personItem 10 = .ok (.iconst 1, 1) := by decide +kernel
theorem dX5_personItem_11 : decode cX5_personItem 11 = .ok (.iaload, 1) := by decide +kernel
theorem dX5_personItem_12 : decode cX5_personItem 12 = .ok (.bipush 8, 2) := by decide +kernel
theorem dX5_personItem_14 : decode cX5_personItem 14 = .ok (.if_icmp .ne 7, 3) := by decide +kernel
theorem dX5_personItem_17 : decode cX5_personItem 17 = .ok (.iconst 1, 1) := by decide +kernel
theorem dX5_personItem_18 : decode cX5_personItem 18 = .ok (.goto 4, 3) := by decide +kernel
theorem dX5_personItem_21 : decode cX5_personItem 21 = .ok (.iconst 0, 1) := by decide +kernel
theorem dX5_personItem_22 : decode cX5_personItem 22 = .ok (.putfield 183, 3) := by decide +kernel
theorem dX5_personItem_25 : decode cX5_personItem 25 = .ok (.aload_n 0, 1) := by decide +kernel
theorem dX5_personItem_26 : decode cX5_personItem 26 = .ok (.getfield 183, 3) := by decide +kernel
theorem dX5_personItem_29 : decode cX5_personItem 29 = .ok (.ifCond .eq 4, 3) := by decide +kernel
theorem dX5_personItem_32 : decode cX5_personItem 32 = .ok (.return_, 1) := by decide +kernel
theorem dX5_personItem_33 : decode cX5_personItem 33 = .ok (.aload_n 0, 1) := by decide +kernel
theorem dX5_personItem_34 : decode cX5_personItem 34 = .ok (.invokevirtual 187, 3) := by decide +kernel
theorem dX5_personItem_37 : decode cX5_personItem 37 = .ok (.aload_n 0, 1) := by decide +kernel
theorem dX5_personItem_38 : decode cX5_personItem 38 = .ok (.bipush 6, 2) := by decide +kernel
theorem dX5_personItem_40 : decode cX5_personItem 40 = .ok (.iconst 0, 1) := by decide +kernel
theorem dX5_personItem_41 : decode cX5_personItem 41 = .ok (.sipush 200, 3) := by decide +kernel
theorem dX5_personItem_44 : decode cX5_personItem 44 = .ok (.bipush 20, 2) := by decide +kernel
theorem dX5_personItem_46 : decode cX5_personItem 46 = .ok (.invokevirtual 196, 3) := by decide +kernel
theorem dX5_personItem_49 : decode cX5_personItem 49 = .ok (.istore_n 2, 1) := by decide +kernel
theorem dX5_personItem_50 : decode cX5_personItem 50 = .ok (.iconst (-1), 1) := by decide +kernel
theorem dX5_personItem_51 : decode cX5_personItem 51 = .ok (.istore_n 3, 1) := by decide +kernel
theorem dX5_personItem_52 : decode cX5_personItem 52 = .ok (.aload_n 0, 1) := by decide +kernel
theorem dX5_personItem_53 : decode cX5_personItem 53 = .ok (.bipush 7, 2) := by decide +kernel
theorem dX5_personItem_55 : decode cX5_personItem 55 = .ok (.invokevirtual 190, 3) := by decide +kernel
theorem dX5_personItem_58 : decode cX5_personItem 58 = .ok (.ifCond .eq 54, 3) := by decide +kernel
theorem dX5_personItem_61 : decode cX5_personItem 61 = .ok (.aload_n 0, 1) := by decide +kernel
theorem dX5_personItem_62 : decode cX5_personItem 62 = .ok (.aload_n 0, 1) := by decide +kernel
theorem dX5_personItem_63 : decode cX5_personItem 63 = .ok (.getfield 177, 3) := by decide +kernel
theorem dX5_personItem_66 : decode cX5_personItem 66 = .ok (.bipush 20, 2) := by decide +kernel
theorem dX5_personItem_68 : decode cX5_personItem 68 = .ok (.if_icmp .ne 32, 3) := by decide +kernel
theorem dX5_personItem_71 : decode cX5_personItem 71 = .ok (.aload_n 0, 1) := by decide +kernel
theorem dX5_personItem_72 : decode cX5_personItem 72 = .ok (.getfield 174, 3) := by decide +kernel
theorem dX5_personItem_75 : decode cX5_personItem 75 = .ok (.i2l, 1) := by decide +kernel
theorem dX5_personItem_76 : decode cX5_personItem 76 = .ok (.iconst 0, 1) := by decide +kernel
theorem dX5_personItem_77 : decode cX5_personItem 77 = .ok (.bipush 9, 2) := by decide +kernel
theorem dX5_personItem_79 : decode cX5_personItem 79 = .ok (.invokestatic 44, 3) := by decide +kernel
theorem dX5_personItem_82 : decode cX5_personItem 82 = .ok (.ifCond .eq 18, 3) := by decide +kernel
theorem dX5_personItem_85 : decode cX5_personItem 85 = .ok (.aload_n 0, 1) := by decide +kernel
theorem dX5_personItem_86 : decode cX5_personItem 86 = .ok (.aload_n 0, 1) := by decide +kernel
theorem dX5_personItem_87 : decode cX5_personItem 87 = .ok (.getfield 174, 3) := by decide +kernel
theorem dX5_personItem_90 : decode cX5_personItem 90 = .ok (.invokevirtual 59, 3) := by decide +kernel
theorem dX5_personItem_93 : decode cX5_personItem 93 = .ok (.ifCond .lt 7, 3) := by decide +kernel
theorem dX5_personItem_96 : decode cX5_personItem 96 = .ok (.iconst 1, 1) := by decide +kernel
theorem dX5_personItem_97 : decode cX5_personItem 97 = .ok (.goto 4, 3) := by decide +kernel
theorem dX5_personItem_100 : decode cX5_personItem 100 = .ok (.iconst 0, 1) := by decide +kernel
theorem dX5_personItem_101 : decode cX5_personItem 101 = .ok (.putfield 183, 3) := by decide +kernel
theorem dX5_personItem_104 : decode cX5_personItem 104 = .ok (.aload_n 0, 1) := by decide +kernel
theorem dX5_personItem_105 : decode cX5_personItem 105 = .ok (.iconst 0, 1) := by decide +kernel
theorem dX5_personItem_106 : decode cX5_personItem 106 = .ok (.bipush 9, 2) := by decide +kernel
theorem dX5_personItem_108 : decode cX5_personItem 108 = .ok (.invokevirtual 193, 3) := by decide +kernel
theorem dX5_personItem_111 : decode cX5_personItem 111 = .ok (.istore_n 3, 1) := by decide +kernel
theorem dX5_personItem_112 : decode cX5_personItem 112 = .ok (.aload_n 0, 1) := by decide +kernel
theorem dX5_personItem_113 : decode cX5_personItem 113 = .ok (.getfield 183, 3) := by decide +kernel
theorem dX5_personItem_116 : decode cX5_personItem 116 = .ok (.ifCond .ne 12, 3) := by decide +kernel
theorem dX5_personItem_119 : decode cX5_personItem 119 = .ok (.aload_n 0, 1) := by decide +kernel
theorem dX5_personItem_120 : decode cX5_personItem 120 = .ok (.iload_n 1, 1) := by decide +kernel
theorem dX5_personItem_121 : decode cX5_personItem 121 = .ok (.iload_n 2, 1) := by decide +kernel
theorem dX5_personItem_122 : decode cX5_personItem 122 = .ok (.iload_n 3, 1) := by decide +kernel
theorem dX5_personItem_123 : decode cX5_personItem 123 = .ok (.invokevirtual 96, 3) := by decide +kernel
theorem dX5_personItem_126 : decode cX5_personItem 126 = .ok (.istore 4, 2) := by decide +kernel
theorem dX5_personItem_128 : decode cX5_personItem 128 = .ok (.return_, 1) := by decide +kernel
theorem dX5_sunItem_0 : decode cX5_sunItem 0 = .ok (.aload_n 0, 1) := by decide +kernel
theorem dX5_sunItem_1 : decode cX5_sunItem 1 = .ok (.iconst 0, 1) := by decide +kernel
theorem dX5_sunItem_2 : decode cX5_sunItem 2 = .ok (.bipush 9, 2) := by decide +kernel
theorem dX5_sunItem_4 : decode cX5_sunItem 4 = .ok (.invokevirtual 193, 3) := by decide +kernel
theorem dX5_sunItem_7 : decode cX5_sunItem 7 = .ok (.istore_n 1, 1) := by decide +kernel
theorem dX5_sunItem_8 : decode cX5_sunItem 8 = .ok (.aload_n 0, 1) := by decide +kernel
theorem dX5_sunItem_9 : decode cX5_sunItem 9 = .ok (.iconst 0, 1) := by decide +kernel
theorem dX5_sunItem_10 : decode cX5_sunItem 10 = .ok (.bipush 9, 2) := by decide +kernel
theorem dX5_sunItem_12 : decode cX5_sunItem 12 = .ok (.invokevirtual 193, 3) := by decide +kernel
theorem dX5_sunItem_15 : decode cX5_sunItem 15 = .ok (.istore_n 2, 1) := by decide +kernel
theorem dX5_sunItem_16 : decode cX5_sunItem 16 = .ok (.aload_n 0, 1) := by decide +kernel
theorem dX5_sunItem_17 : decode cX5_sunItem 17 = .ok (.getfield 183, 3) := by decide +kernel
theorem dX5_sunItem_20 : decode cX5_sunItem 20 = .ok (.ifCond .ne 12, 3) := by decide +kernel
theorem dX5_sunItem_23 : decode cX5_sunItem 23 = .ok (.aload_n 0, 1) := by decide +kernel
theorem dX5_sunItem_24 : decode cX5_sunItem 24 = .ok (.getfield 9, 3) := by decide +kernel
theorem dX5_sunItem_27 : decode cX5_sunItem 27 = .ok (.iconst 2, 1) := by decide +kernel
theorem dX5_sunItem_28 : decode cX5_sunItem 28 = .ok (.iload_n 1, 1) := by decide +kernel
theorem dX5_sunItem_29 : decode cX5_sunItem 29 = .ok (.iadd, 1) := by decide +kernel
theorem dX5_sunItem_30 : decode cX5_sunItem 30 = .ok (.iload_n 2, 1) := by decide +kernel
theorem dX5_sunItem_31 : decode cX5_sunItem 31 = .ok (.iastore, 1) := by decide +kernel
theorem dX5_sunItem_32 : decode cX5_sunItem 32 = .ok (.return_, 1) := by decide +kernel
theorem dX5_item_0 : decode cX5_item 0 = .ok (.aload_n 0, 1) := by decide +kernel
theorem dX5_item_1 : decode cX5_item 1 = .ok (.getfield 177, 3) := by decide +kernel
theorem dX5_item_4 : decode cX5_item 4 = .ok (.iconst 5, 1) := by decide +kernel
theorem dX5_item_5 : decode cX5_item 5 = .ok (.if_icmp .gt 10, 3) := by decide +kernel
theorem dX5_item_8 : decode cX5_item 8 = .ok (.aload_n 0, 1) := by decide +kernel
theorem dX5_item_9 : decode cX5_item 9 = .ok (.invokevirtual 200, 3) := by decide +kernel
theorem dX5_item_12 : decode cX5_item 12 = .ok (.goto 64, 3) := by decide +kernel
theorem dX5_item_15 : decode cX5_item 15 = .ok (.aload_n 0, 1) := by decide +kernel
theorem dX5_item_16 : decode cX5_item 16 = .ok (.bipush 8, 2) := by decide +kernel
theorem dX5_item_18 : decode cX5_item 18 = .ok (.invokevirtual 190, 3) := by decide +kernel
theorem dX5_item_21 : decode cX5_item 21 = .ok (.ifCond .eq 10, 3) := by decide +kernel
theorem dX5_item_24 : decode cX5_item 24 = .ok (.aload_n 0, 1) := by decide +kernel
theorem dX5_item_25 : decode cX5_item 25 = .ok (.invokevirtual 203, 3) := by decide +kernel
theorem dX5_item_28 : decode cX5_item 28 = .ok (.goto 48, 3) := by decide +kernel
theorem dX5_item_31 : decode cX5_item 31 = .ok (.aload_n 0, 1) := by decide +kernel
theorem dX5_item_32 : decode cX5_item 32 = .ok (.bipush 9, 2) := by decide +kernel
theorem dX5_item_34 : decode cX5_item 34 = .ok (.invokevirtual 190, 3) := by decide +kernel
theorem dX5_item_37 : decode cX5_item 37 = .ok (.ifCond .eq 34, 3) := by decide +kernel
theorem dX5_item_40 : decode cX5_item 40 = .ok (.aload_n 0, 1) := by decide +kernel
theorem dX5_item_41 : decode cX5_item 41 = .ok (.iconst 0, 1) := by decide +kernel
theorem dX5_item_42 : decode cX5_item 42 = .ok (.aload_n 0, 1) := by decide +kernel
theorem dX5_item_43 : decode cX5_item 43 = .ok (.getfield 9, 3) := by decide +kernel
theorem dX5_item_46 : decode cX5_item 46 = .ok (.iconst 1, 1) := by decide +kernel
theorem dX5_item_47 : decode cX5_item 47 = .ok (.iaload, 1) := by decide +kernel
theorem dX5_item_48 : decode cX5_item 48 = .ok (.iconst 1, 1) := by decide +kernel
theorem dX5_item_49 : decode cX5_item 49 = .ok (.isub, 1) := by decide +kernel
theorem dX5_item_50 : decode cX5_item 50 = .ok (.invokevirtual 193, 3) := by decide +kernel
theorem dX5_item_53 : decode cX5_item 53 = .ok (.istore_n 1, 1) := by decide +kernel
theorem dX5_item_54 : decode cX5_item 54 = .ok (.aload_n 0, 1) := by decide +kernel
theorem dX5_item_55 : decode cX5_item 55 = .ok (.getfield 183, 3) := by decide +kernel
theorem dX5_item_58 : decode cX5_item 58 = .ok (.ifCond .ne 10, 3) := by decide +kernel
theorem dX5_item_61 : decode cX5_item 61 = .ok (.aload_n 0, 1) := by decide +kernel
theorem dX5_item_62 : decode cX5_item 62 = .ok (.iload_n 1, 1) := by decide +kernel
theorem dX5_item_63 : decode cX5_item 63 = .ok (.iconst 1, 1) := by decide +kernel
theorem dX5_item_64 : decode cX5_item 64 = .ok (.iconst (-1), 1) := by decide +kernel
theorem dX5_item_65 : decode cX5_item 65 = .ok (.invokevirtual 91, 3) := by decide +kernel
theorem dX5_item_68 : decode cX5_item 68 = .ok (.goto 8, 3) := by decide +kernel
theorem dX5_item_71 : decode cX5_item 71 = .ok (.aload_n 0, 1) := by decide +kernel
theorem dX5_item_72 : decode cX5_item 72 = .ok (.iconst 1, 1) := by decide +kernel
theorem dX5_item_73 : decode cX5_item 73 = .ok (.putfield 183, 3) := by decide +kernel
theorem dX5_item_76 : decode cX5_item 76 = .ok (.return_, 1) := by decide +kernel
theorem dX5_esplanade_0 : decode cX5_esplanade 0 = .ok (.aload_n 0, 1) := by decide +kernel
theorem dX5_esplanade_1 : decode cX5_esplanade 1 = .ok (.invokevirtual 139, 3) := by decide +kernel
theorem dX5_esplanade_4 : decode cX5_esplanade 4 = .ok (.aload_n 0, 1) := by decide +kernel
theorem dX5_esplanade_5 : decode cX5_esplanade 5 = .ok (.iconst 0, 1) := by decide +kernel
theorem dX5_esplanade_6 : decode cX5_esplanade 6 = .ok (.putfield 164, 3) := by decide +kernel
theorem dX5_esplanade_9 : decode cX5_esplanade 9 = .ok (.aload_n 0, 1) := by decide +kernel
theorem dX5_esplanade_10 : decode cX5_esplanade 10 = .ok (.iconst 0, 1) := by decide +kernel
theorem dX5_esplanade_11 : decode cX5_esplanade 11 = .ok (.putfield 183, 3) := by decide +kernel
theorem dX5_esplanade_14 : decode cX5_esplanade 14 = .ok (.aload_n 0, 1) := by decide +kernel
theorem dX5_esplanade_15 : decode cX5_esplanade 15 = .ok (.invokevirtual 187, 3) := by decide +kernel
theorem dX5_esplanade_18 : decode cX5_esplanade 18 = .ok (.aload_n 0, 1) := by decide +kernel
theorem dX5_esplanade_19 : decode cX5_esplanade 19 = .ok (.invokevirtual 206, 3) := by decide +kernel
theorem dX5_esplanade_22 : decode cX5_esplanade 22 = .ok (.iconst 1, 1) := by decide +kernel
theorem dX5_esplanade_23 : decode cX5_esplanade 23 = .ok (.istore_n 1, 1) := by decide +kernel
theorem dX5_esplanade_24 : decode cX5_esplanade 24 = .ok (.aload_n 0, 1) := by decide +kernel
theorem dX5_esplanade_25 : decode cX5_esplanade 25 = .ok (.bipush 21, 2) := by decide +kernel
theorem dX5_esplanade_27 : decode cX5_esplanade 27 = .ok (.invokevirtual 190, 3) := by decide +kernel
theorem dX5_esplanade_30 : decode cX5_esplanade 30 = .ok (.ifCond .eq 13, 3) := by decide +kernel
theorem dX5_esplanade_33 : decode cX5_esplanade 33 = .ok (.aload_n 0, 1) := by decide +kernel
theorem dX5_esplanade_34 : decode cX5_esplanade 34 = .ok (.invokevirtual 206, 3) := by decide +kernel
theorem dX5_esplanade_37 : decode cX5_esplanade 37 = .ok (.iinc 1 1, 3) := by decide +kernel
theorem dX5_esplanade_40 : decode cX5_esplanade 40 = .ok (.goto (-16), 3) := by decide +kernel
theorem dX5_esplanade_43 : decode cX5_esplanade 43 = .ok (.aload_n 0, 1) := by decide +kernel
theorem dX5_esplanade_44 : decode cX5_esplanade 44 = .ok (.aload_n 0, 1) := by decide +kernel
theorem dX5_esplanade_45 : decode cX5_esplanade 45 = .ok (.getfield 183, 3) := by decide +kernel
theorem dX5_esplanade_48 : decode cX5_esplanade 48 = .ok (.ifCond .ne 12, 3) := by decide +kernel
theorem dX5_esplanade_51 : decode cX5_esplanade 51 = .ok (.aload_n 0, 1) := by decide +kernel
theorem dX5_esplanade_52 : decode cX5_esplanade 52 = .ok (.getfield 177, 3) := by decide +kernel
theorem dX5_esplanade_55 : decode cX5_esplanade 55 = .ok (.bipush 22, 2) := by decide +kernel
theorem dX5_esplanade_57 : decode cX5_esplanade 57 = .ok (.if_icmp .eq 7, 3) := by decide +kernel
theorem dX5_esplanade_60 : decode cX5_esplanade 60 = .ok (.iconst 1, 1) := by decide +kernel
theorem dX5_esplanade_61 : decode cX5_esplanade 61 = .ok (.goto 4, 3) := by decide +kernel
theorem dX5_esplanade_64 : decode cX5_esplanade 64 = .ok (.iconst 0, 1) := by decide +kernel
theorem dX5_esplanade_65 : decode cX5_esplanade 65 = .ok (.putfield 183, 3) := by decide +kernel
theorem dX5_esplanade_68 : decode cX5_esplanade 68 = .ok (.aload_n 0, 1) := by decide +kernel
theorem dX5_esplanade_69 : decode cX5_esplanade 69 = .ok (.iconst 0, 1) := by decide +kernel
theorem dX5_esplanade_70 : decode cX5_esplanade 70 = .ok (.putfield 154, 3) := by decide +kernel
theorem dX5_esplanade_73 : decode cX5_esplanade 73 = .ok (.aload_n 0, 1) := by decide +kernel
theorem dX5_esplanade_74 : decode cX5_esplanade 74 = .ok (.getfield 183, 3) := by decide +kernel
theorem dX5_esplanade_77 : decode cX5_esplanade 77 = .ok (.ifCond .ne 5, 3) := by decide +kernel
theorem dX5_esplanade_80 : decode cX5_esplanade 80 = .ok (.iload_n 1, 1) := by decide +kernel
theorem dX5_esplanade_81 : decode cX5_esplanade 81 = .ok (.ireturn, 1) := by decide +kernel
theorem dX5_esplanade_82 : decode cX5_esplanade 82 = .ok (.aload_n 0, 1) := by decide +kernel
theorem dX5_esplanade_83 : decode cX5_esplanade 83 = .ok (.invokevirtual 142, 3) := by decide +kernel
theorem dX5_esplanade_86 : decode cX5_esplanade 86 = .ok (.iconst (-1), 1) := by decide +kernel
theorem dX5_esplanade_87 : decode cX5_esplanade 87 = .ok (.aload_n 0, 1) := by decide +kernel
theorem dX5_esplanade_88 : decode cX5_esplanade 88 = .ok (.getfield 161, 3) := by decide +kernel
theorem dX5_esplanade_91 : decode cX5_esplanade 91 = .ok (.isub, 1) := by decide +kernel
theorem dX5_esplanade_92 : decode cX5_esplanade 92 = .ok (.ireturn, 1) := by decide +kernel
theorem dX5_isSheet_0 : decode cX5_isSheet 0 = .ok (.iload_n 0, 1) := by decide +kernel
theorem dX5_isSheet_1 : decode cX5_isSheet 1 = .ok (.i2l, 1) := by decide +kernel
theorem dX5_isSheet_2 : decode cX5_isSheet 2 = .ok (.iconst 0, 1) := by decide +kernel
theorem dX5_isSheet_3 : decode cX5_isSheet 3 = .ok (.iconst 3, 1) := by decide +kernel
theorem dX5_isSheet_4 : decode cX5_isSheet 4 = .ok (.invokestatic 44, 3) := by decide +kernel
theorem dX5_isSheet_7 : decode cX5_isSheet 7 = .ok (.ireturn, 1) := by decide +kernel
theorem dX5_sheet_0 : decode cX5_sheet 0 = .ok (.iload_n 1, 1) := by decide +kernel
theorem dX5_sheet_1 : decode cX5_sheet 1 = .ok (.invokestatic 209, 3) := by decide +kernel
theorem dX5_sheet_4 : decode cX5_sheet 4 = .ok (.ifCond .eq 25, 3) := by decide +kernel
theorem dX5_sheet_7 : decode cX5_sheet 7 = .ok (.iload_n 2, 1) := by decide +kernel
theorem dX5_sheet_8 : decode cX5_sheet 8 = .ok (.ifCond .eq 28, 3) := by decide +kernel
theorem dX5_sheet_11 : decode cX5_sheet 11 = .ok (.iload_n 2, 1) := by decide +kernel
theorem dX5_sheet_12 : decode cX5_sheet 12 = .ok (.bipush 8, 2) := by decide +kernel
theorem dX5_sheet_14 : decode cX5_sheet 14 = .ok (.if_icmp .eq 22, 3) := by decide +kernel
theorem dX5_sheet_17 : decode cX5_sheet 17 = .ok (.iload_n 2, 1) := by decide +kernel
theorem dX5_sheet_18 : decode cX5_sheet 18 = .ok (.bipush 16, 2) := by decide +kernel
theorem dX5_sheet_20 : decode cX5_sheet 20 = .ok (.if_icmp .eq 16, 3) := by decide +kernel
theorem dX5_sheet_23 : decode cX5_sheet 23 = .ok (.iload_n 2, 1) := by decide +kernel
theorem dX5_sheet_24 : decode cX5_sheet 24 = .ok (.bipush 64, 2) := by decide +kernel
theorem dX5_sheet_26 : decode cX5_sheet 26 = .ok (.if_icmp .eq 10, 3) := by decide +kernel
theorem dX5_sheet_29 : decode cX5_sheet 29 = .ok (.aload_n 0, 1) := by decide +kernel
theorem dX5_sheet_30 : decode cX5_sheet 30 = .ok (.ldc 38, 2) := by decide +kernel
theorem dX5_sheet_32 : decode cX5_sheet 32 = .ok (.invokevirtual 40, 3) := by decide +kernel
theorem dX5_sheet_35 : decode cX5_sheet 35 = .ok (.ireturn, 1) := by decide +kernel
theorem dX5_sheet_36 : decode cX5_sheet 36 = .ok (.iload_n 3, 1) := by decide +kernel
theorem dX5_sheet_37 : decode cX5_sheet 37 = .ok (.ifCond .ge 10, 3) := by decide +kernel
theorem dX5_sheet_40 : decode cX5_sheet 40 = .ok (.aload_n 0, 1) := by decide +kernel
theorem dX5_sheet_41 : decode cX5_sheet 41 = .ok (.ldc 212, 2) := by decide +kernel
theorem dX5_sheet_43 : decode cX5_sheet 43 = .ok (.invokevirtual 40, 3) := by decide +kernel
theorem dX5_sheet_46 : decode cX5_sheet 46 = .ok (.ireturn, 1) := by decide +kernel
theorem dX5_sheet_47 : decode cX5_sheet 47 = .ok (.iload_n 3, 1) := by decide +kernel
theorem dX5_sheet_48 : decode cX5_sheet 48 = .ok (.bipush 40, 2) := by decide +kernel
theorem dX5_sheet_50 : decode cX5_sheet 50 = .ok (.if_icmp .le 10, 3) := by decide +kernel
theorem dX5_sheet_53 : decode cX5_sheet 53 = .ok (.aload_n 0, 1) := by decide +kernel
theorem dX5_sheet_54 : decode cX5_sheet 54 = .ok (.ldc 38, 2) := by decide +kernel
theorem dX5_sheet_56 : decode cX5_sheet 56 = .ok (.invokevirtual 40, 3) := by decide +kernel
theorem dX5_sheet_59 : decode cX5_sheet 59 = .ok (.ireturn, 1) := by decide +kernel
theorem dX5_sheet_60 : decode cX5_sheet 60 = .ok (.aload_n 0, 1) := by decide +kernel
theorem dX5_sheet_61 : decode cX5_sheet 61 = .ok (.getfield 28, 3) := by decide +kernel
theorem dX5_sheet_64 : decode cX5_sheet 64 = .ok (.iload_n 1, 1) := by decide +kernel
theorem dX5_sheet_65 : decode cX5_sheet 65 = .ok (.iload_n 2, 1) := by decide +kernel
theorem dX5_sheet_66 : decode cX5_sheet 66 = .ok (.iastore, 1) := by decide +kernel
theorem dX5_sheet_67 : decode cX5_sheet 67 = .ok (.aload_n 0, 1) := by decide +kernel
theorem dX5_sheet_68 : decode cX5_sheet 68 = .ok (.getfield 31, 3) := by decide +kernel
theorem dX5_sheet_71 : decode cX5_sheet 71 = .ok (.iload_n 1, 1) := by decide +kernel
theorem dX5_sheet_72 : decode cX5_sheet 72 = .ok (.iload_n 2, 1) := by decide +kernel
theorem dX5_sheet_73 : decode cX5_sheet 73 = .ok (.ifCond .ne 7, 3) := by decide +kernel
theorem dX5_sheet_76 : decode cX5_sheet 76 = .ok (.iconst 0, 1) := by decide +kernel
theorem dX5_sheet_77 : decode cX5_sheet 77 = .ok (.goto 4, 3) := by decide +kernel
theorem dX5_sheet_80 : decode cX5_sheet 80 = .ok (.iload_n 3, 1) := by decide +kernel
theorem dX5_sheet_81 : decode cX5_sheet 81 = .ok (.iastore, 1) := by decide +kernel
theorem dX5_sheet_82 : decode cX5_sheet 82 = .ok (.iconst 0, 1) := by decide +kernel
theorem dX5_sheet_83 : decode cX5_sheet 83 = .ok (.istore 4, 2) := by decide +kernel
theorem dX5_sheet_85 : decode cX5_sheet 85 = .ok (.iload 4, 2) := by decide +kernel
theorem dX5_sheet_87 : decode cX5_sheet 87 = .ok (.bipush 40, 2) := by decide +kernel
theorem dX5_sheet_89 : decode cX5_sheet 89 = .ok (.if_icmp .ge 22, 3) := by decide +kernel
theorem dX5_sheet_92 : decode cX5_sheet 92 = .ok (.aload_n 0, 1) := by decide +kernel
theorem dX5_sheet_93 : decode cX5_sheet 93 = .ok (.getfield 34, 3) := by decide +kernel
theorem dX5_sheet_96 : decode cX5_sheet 96 = .ok (.bipush 40, 2) := by decide +kernel
theorem dX5_sheet_98 : decode cX5_sheet 98 = .ok (.iload_n 1, 1) := by decide +kernel
theorem dX5_sheet_99 : decode cX5_sheet 99 = .ok (.imul, 1) := by decide +kernel
theorem dX5_sheet_100 : decode cX5_sheet 100 = .ok (.iload 4, 2) := by decide +kernel
theorem dX5_sheet_102 : decode cX5_sheet 102 = .ok (.iadd, 1) := by decide +kernel
theorem dX5_sheet_103 : decode cX5_sheet 103 = .ok (.lconst 0, 1) := by decide +kernel
theorem dX5_sheet_104 : decode cX5_sheet 104 = .ok (.lastore, 1) := by decide +kernel
theorem dX5_sheet_105 : decode cX5_sheet 105 = .ok (.iinc 4 1, 3) := by decide +kernel
theorem dX5_sheet_108 : decode cX5_sheet 108 = .ok (.goto (-23), 3) := by decide +kernel
theorem dX5_sheet_111 : decode cX5_sheet 111 = .ok (.aload_n 0, 1) := by decide +kernel
theorem dX5_sheet_112 : decode cX5_sheet 112 = .ok (.getfield 31, 3) := by decide +kernel
theorem dX5_sheet_115 : decode cX5_sheet 115 = .ok (.iload_n 1, 1) := by decide +kernel
theorem dX5_sheet_116 : decode cX5_sheet 116 = .ok (.iaload, 1) := by decide +kernel
theorem dX5_sheet_117 : decode cX5_sheet 117 = .ok (.ireturn, 1) := by decide +kernel
theorem dX5_notThere_0 : decode cX5_notThere 0 = .ok (.iload_n 1, 1) := by decide +kernel
theorem dX5_notThere_1 : decode cX5_notThere 1 = .ok (.invokestatic 209, 3) := by decide +kernel
theorem dX5_notThere_4 : decode cX5_notThere 4 = .ok (.ifCond .ne 8, 3) := by decide +kernel
theorem dX5_notThere_7 : decode cX5_notThere 7 = .ok (.ldc 38, 2) := by decide +kernel
theorem dX5_notThere_9 : decode cX5_notThere 9 = .ok (.goto 18, 3) := by decide +kernel
theorem dX5_notThere_12 : decode cX5_notThere 12 = .ok (.aload_n 0, 1) := by decide +kernel
theorem dX5_notThere_13 : decode cX5_notThere 13 = .ok (.getfield 28, 3) := by decide +kernel
theorem dX5_notThere_16 : decode cX5_notThere 16 = .ok (.iload_n 1, 1) := by decide +kernel
theorem dX5_notThere_17 : decode cX5_notThere 17 = .ok (.iaload, 1) := by decide +kernel
theorem dX5_notThere_18 : decode cX5_notThere 18 = .ok (.ifCond .ne 8, 3) := by decide +kernel
theorem dX5_notThere_21 : decode cX5_notThere 21 = .ok (.ldc 213, 2) := by decide +kernel
theorem dX5_notThere_23 : decode cX5_notThere 23 = .ok (.goto 4, 3) := by decide +kernel
theorem dX5_notThere_26 : decode cX5_notThere 26 = .ok (.iconst 0, 1) := by decide +kernel
theorem dX5_notThere_27 : decode cX5_notThere 27 = .ok (.ireturn, 1) := by decide +kernel
theorem dX5_cutTo_0 : decode cX5_cutTo 0 = .ok (.iload_n 0, 1) := by decide +kernel
theorem dX5_cutTo_1 : decode cX5_cutTo 1 = .ok (.bipush 8, 2) := by decide +kernel
theorem dX5_cutTo_3 : decode cX5_cutTo 3 = .ok (.if_icmp .ne 10, 3) := by decide +kernel
theorem dX5_cutTo_6 : decode cX5_cutTo 6 = .ok (.lload_n 1, 1) := by decide +kernel
theorem dX5_cutTo_7 : decode cX5_cutTo 7 = .ok (.l2i, 1) := by decide +kernel
theorem dX5_cutTo_8 : decode cX5_cutTo 8 = .ok (.i2b, 1) := by decide +kernel
theorem dX5_cutTo_9 : decode cX5_cutTo 9 = .ok (.i2l, 1) := by decide +kernel
theorem dX5_cutTo_10 : decode cX5_cutTo 10 = .ok (.goto 17, 3) := by decide +kernel
theorem dX5_cutTo_13 : decode cX5_cutTo 13 = .ok (.iload_n 0, 1) := by decide +kernel
theorem dX5_cutTo_14 : decode cX5_cutTo 14 = .ok (.bipush 16, 2) := by decide +kernel
theorem dX5_cutTo_16 : decode cX5_cutTo 16 = .ok (.if_icmp .ne 10, 3) := by decide +kernel
theorem dX5_cutTo_19 : decode cX5_cutTo 19 = .ok (.lload_n 1, 1) := by decide +kernel
theorem dX5_cutTo_20 : decode cX5_cutTo 20 = .ok (.l2i, 1) := by decide +kernel
theorem dX5_cutTo_21 : decode cX5_cutTo 21 = .ok (.i2s, 1) := by decide +kernel
theorem dX5_cutTo_22 : decode cX5_cutTo 22 = .ok (.i2l, 1) := by decide +kernel
theorem dX5_cutTo_23 : decode cX5_cutTo 23 = .ok (.goto 4, 3) := by decide +kernel
theorem dX5_cutTo_26 : decode cX5_cutTo 26 = .ok (.lload_n 1, 1) := by decide +kernel
theorem dX5_cutTo_27 : decode cX5_cutTo 27 = .ok (.lreturn, 1) := by decide +kernel
theorem dX5_write_0 : decode cX5_write 0 = .ok (.aload_n 0, 1) := by decide +kernel
theorem dX5_write_1 : decode cX5_write 1 = .ok (.iload_n 1, 1) := by decide +kernel
theorem dX5_write_2 : decode cX5_write 2 = .ok (.invokevirtual 214, 3) := by decide +kernel
theorem dX5_write_5 : decode cX5_write 5 = .ok (.istore 5, 2) := by decide +kernel
theorem dX5_write_7 : decode cX5_write 7 = .ok (.iload 5, 2) := by decide +kernel
theorem dX5_write_9 : decode cX5_write 9 = .ok (.ifCond .ne 24, 3) := by decide +kernel
theorem dX5_write_12 : decode cX5_write 12 = .ok (.iload_n 2, 1) := by decide +kernel
theorem dX5_write_13 : decode cX5_write 13 = .ok (.i2l, 1) := by decide +kernel
theorem dX5_write_14 : decode cX5_write 14 = .ok (.iconst 0, 1) := by decide +kernel
theorem dX5_write_15 : decode cX5_write 15 = .ok (.aload_n 0, 1) := by decide +kernel
theorem dX5_write_16 : decode cX5_write 16 = .ok (.getfield 31, 3) := by decide +kernel
theorem dX5_write_19 : decode cX5_write 19 = .ok (.iload_n 1, 1) := by decide +kernel
theorem dX5_write_20 : decode cX5_write 20 = .ok (.iaload, 1) := by decide +kernel
theorem dX5_write_21 : decode cX5_write 21 = .ok (.iconst 1, 1) := by decide +kernel
theorem dX5_write_22 : decode cX5_write 22 = .ok (.isub, 1) := by decide +kernel
theorem dX5_write_23 : decode cX5_write 23 = .ok (.invokestatic 44, 3) := by decide +kernel
theorem dX5_write_26 : decode cX5_write 26 = .ok (.ifCond .ne 7, 3) := by decide +kernel
theorem dX5_write_29 : decode cX5_write 29 = .ok (.ldc 38, 2) := by decide +kernel
theorem dX5_write_31 : decode cX5_write 31 = .ok (.istore 5, 2) := by decide +kernel
theorem dX5_write_33 : decode cX5_write 33 = .ok (.iload 5, 2) := by decide +kernel
theorem dX5_write_35 : decode cX5_write 35 = .ok (.ifCond .eq 11, 3) := by decide +kernel
theorem dX5_write_38 : decode cX5_write 38 = .ok (.aload_n 0, 1) := by decide +kernel
theorem dX5_write_39 : decode cX5_write 39 = .ok (.iload 5, 2) := by decide +kernel
theorem dX5_write_41 : decode cX5_write 41 = .ok (.invokevirtual 40, 3) := by decide +kernel
theorem dX5_write_44 : decode cX5_write 44 = .ok (.i2l, 1) := by decide +kernel
theorem dX5_write_45 : decode cX5_write 45 = .ok (.lreturn, 1) := by decide +kernel
theorem dX5_write_46 : decode cX5_write 46 = .ok (.aload_n 0, 1) := by decide +kernel
theorem dX5_write_47 : decode cX5_write 47 = .ok (.getfield 34, 3) := by decide +kernel
theorem dX5_write_50 : decode cX5_write 50 = .ok (.bipush 40, 2) := by decide +kernel
theorem dX5_write_52 : decode cX5_write 52 = .ok (.iload_n 1, 1) := by decide +kernel
theorem dX5_write_53 : decode cX5_write 53 = .ok (.imul, 1) := by decide +kernel
theorem dX5_write_54 : decode cX5_write 54 = .ok (.iload_n 2, 1) := by decide +kernel
theorem dX5_write_55 : decode cX5_write 55 = .ok (.iadd, 1) := by decide +kernel
theorem dX5_write_56 : decode cX5_write 56 = .ok (.laload, 1) := by decide +kernel
theorem dX5_write_57 : decode cX5_write 57 = .ok (.lstore 6, 2) := by decide +kernel
theorem dX5_write_59 : decode cX5_write 59 = .ok (.aload_n 0, 1) := by decide +kernel
theorem dX5_write_60 : decode cX5_write 60 = .ok (.getfield 34, 3) := by decide +kernel
theorem dX5_write_63 : decode cX5_write 63 = .ok (.bipush 40, 2) := by decide +kernel
theorem dX5_write_65 : decode cX5_write 65 = .ok (.iload_n 1, 1) := by decide +kernel
theorem dX5_write_66 : decode cX5_write 66 = .ok (.imul, 1) := by decide +kernel
theorem dX5_write_67 : decode cX5_write 67 = .ok (.iload_n 2, 1) := by decide +kernel
theorem dX5_write_68 : decode cX5_write 68 = .ok (.iadd, 1) := by decide +kernel
theorem dX5_write_69 : decode cX5_write 69 = .ok (.aload_n 0, 1) := by decide +kernel
theorem dX5_write_70 : decode cX5_write 70 = .ok (.getfield 28, 3) := by decide +kernel
theorem dX5_write_73 : decode cX5_write 73 = .ok (.iload_n 1, 1) := by decide +kernel
theorem dX5_write_74 : decode cX5_write 74 = .ok (.iaload, 1) := by decide +kernel
theorem dX5_write_75 : decode cX5_write 75 = .ok (.lload_n 3, 1) := by decide +kernel
theorem dX5_write_76 : decode cX5_write 76 = .ok (.invokestatic 217, 3) := by decide +kernel
theorem dX5_write_79 : decode cX5_write 79 = .ok (.lastore, 1) := by decide +kernel
theorem dX5_write_80 : decode cX5_write 80 = .ok (.lload 6, 2) := by decide +kernel
theorem dX5_write_82 : decode cX5_write 82 = .ok (.lreturn, 1) := by decide +kernel
theorem dX5_notCopied_0 : decode cX5_notCopied 0 = .ok (.iload_n 1, 1) := by decide +kernel
theorem dX5_notCopied_1 : decode cX5_notCopied 1 = .ok (.invokestatic 209, 3) := by decide +kernel
theorem dX5_notCopied_4 : decode cX5_notCopied 4 = .ok (.ifCond .eq 10, 3) := by decide +kernel
theorem dX5_notCopied_7 : decode cX5_notCopied 7 = .ok (.iload_n 3, 1) := by decide +kernel
theorem dX5_notCopied_8 : decode cX5_notCopied 8 = .ok (.invokestatic 209, 3) := by decide +kernel
theorem dX5_notCopied_11 : decode cX5_notCopied 11 = .ok (.ifCond .ne 6, 3) := by decide +kernel
theorem dX5_notCopied_14 : decode cX5_notCopied 14 = .ok (.ldc 38, 2) := by decide +kernel
theorem dX5_notCopied_16 : decode cX5_notCopied 16 = .ok (.ireturn, 1) := by decide +kernel
theorem dX5_notCopied_17 : decode cX5_notCopied 17 = .ok (.aload_n 0, 1) := by decide +kernel
theorem dX5_notCopied_18 : decode cX5_notCopied 18 = .ok (.getfield 28, 3) := by decide +kernel
theorem dX5_notCopied_21 : decode cX5_notCopied 21 = .ok (.iload_n 1, 1) := by decide +kernel
theorem dX5_notCopied_22 : decode cX5_notCopied 22 = .ok (.iaload, 1) := by decide +kernel
theorem dX5_notCopied_23 : decode cX5_notCopied 23 = .ok (.ifCond .eq 12, 3) := by decide +kernel
theorem dX5_notCopied_26 : decode cX5_notCopied 26 = .ok (.aload_n 0, 1) := by decide +kernel
theorem dX5_notCopied_27 : decode cX5_notCopied 27 = .ok (.getfield 28, 3) := by decide +kernel
theorem dX5_notCopied_30 : decode cX5_notCopied 30 = .ok (.iload_n 3, 1) := by decide +kernel
theorem dX5_notCopied_31 : decode cX5_notCopied 31 = .ok (.iaload, 1) := by decide +kernel
theorem dX5_notCopied_32 : decode cX5_notCopied 32 = .ok (.ifCond .ne 6, 3) := by decide +kernel
theorem dX5_notCopied_35 : decode cX5_notCopied 35 = .ok (.ldc 213, 2) := by decide +kernel
theorem dX5_notCopied_37 : decode cX5_notCopied 37 = .ok (.ireturn, 1) := by decide +kernel
theorem dX5_notCopied_38 : decode cX5_notCopied 38 = .ok (.aload_n 0, 1) := by decide +kernel
theorem dX5_notCopied_39 : decode cX5_notCopied 39 = .ok (.getfield 28, 3) := by decide +kernel
theorem dX5_notCopied_42 : decode cX5_notCopied 42 = .ok (.iload_n 1, 1) := by decide +kernel
theorem dX5_notCopied_43 : decode cX5_notCopied 43 = .ok (.iaload, 1) := by decide +kernel
theorem dX5_notCopied_44 : decode cX5_notCopied 44 = .ok (.aload_n 0, 1) := by decide +kernel
theorem dX5_notCopied_45 : decode cX5_notCopied 45 = .ok (.getfield 28, 3) := by decide +kernel
theorem dX5_notCopied_48 : decode cX5_notCopied 48 = .ok (.iload_n 3, 1) := by decide +kernel
theorem dX5_notCopied_49 : decode cX5_notCopied 49 = .ok (.iaload, 1) := by decide +kernel
theorem dX5_notCopied_50 : decode cX5_notCopied 50 = .ok (.if_icmp .eq 6, 3) := by decide +kernel
theorem dX5_notCopied_53 : decode cX5_notCopied 53 = .ok (.ldc 108, 2) := by decide +kernel
theorem dX5_notCopied_55 : decode cX5_notCopied 55 = .ok (.ireturn, 1) := by decide +kernel
theorem dX5_notCopied_56 : decode cX5_notCopied 56 = .ok (.iload 5, 2) := by decide +kernel
theorem dX5_notCopied_58 : decode cX5_notCopied 58 = .ok (.ifCond .lt 43, 3) := by decide +kernel
theorem dX5_notCopied_61 : decode cX5_notCopied 61 = .ok (.iload_n 2, 1) := by decide +kernel
theorem dX5_notCopied_62 : decode cX5_notCopied 62 = .ok (.ifCond .lt 39, 3) := by decide +kernel
theorem dX5_notCopied_65 : decode cX5_notCopied 65 = .ok (.iload 4, 2) := by decide +kernel
theorem dX5_notCopied_67 : decode cX5_notCopied 67 = .ok (.ifCond .lt 34, 3) := by decide +kernel
theorem dX5_notCopied_70 : decode cX5_notCopied 70 = .ok (.iload 5, 2) := by decide +kernel
theorem dX5_notCopied_72 : decode cX5_notCopied 72 = .ok (.aload_n 0, 1) := by decide +kernel
theorem dX5_notCopied_73 : decode cX5_notCopied 73 = .ok (.getfield 31, 3) := by decide +kernel
theorem dX5_notCopied_76 : decode cX5_notCopied 76 = .ok (.iload_n 1, 1) := by decide +kernel
theorem dX5_notCopied_77 : decode cX5_notCopied 77 = .ok (.iaload, 1) := by decide +kernel
theorem dX5_notCopied_78 : decode cX5_notCopied 78 = .ok (.iload_n 2, 1) := by decide +kernel
theorem dX5_notCopied_79 : decode cX5_notCopied 79 = .ok (.isub, 1) := by decide +kernel
theorem dX5_notCopied_80 : decode cX5_notCopied 80 = .ok (.if_icmp .gt 21, 3) := by decide +kernel
theorem dX5_notCopied_83 : decode cX5_notCopied 83 = .ok (.iload 5, 2) := by decide +kernel
theorem dX5_notCopied_85 : decode cX5_notCopied 85 = .ok (.aload_n 0, 1) := by decide +kernel
theorem dX5_notCopied_86 : decode cX5_notCopied 86 = .ok (.getfield 31, 3) := by decide +kernel
theorem dX5_notCopied_89 : decode cX5_notCopied 89 = .ok (.iload_n 3, 1) := by decide +kernel
theorem dX5_notCopied_90 : decode cX5_notCopied 90 = .ok (.iaload, 1) := by decide +kernel
theorem dX5_notCopied_91 : decode cX5_notCopied 91 = .ok (.iload 4, 2) := by decide +kernel
theorem dX5_notCopied_93 : decode cX5_notCopied 93 = .ok (.isub, 1) := by decide +kernel
theorem dX5_notCopied_94 : decode cX5_notCopied 94 = .ok (.if_icmp .gt 7, 3) := by decide +kernel
theorem dX5_notCopied_97 : decode cX5_notCopied 97 = .ok (.iconst 1, 1) := by decide +kernel
theorem dX5_notCopied_98 : decode cX5_notCopied 98 = .ok (.goto 4, 3) := by decide +kernel
theorem dX5_notCopied_101 : decode cX5_notCopied 101 = .ok (.iconst 0, 1) := by decide +kernel
theorem dX5_notCopied_102 : decode cX5_notCopied 102 = .ok (.istore 6, 2) := by decide +kernel
theorem dX5_notCopied_104 : decode cX5_notCopied 104 = .ok (.iload 6, 2) := by decide +kernel
theorem dX5_notCopied_106 : decode cX5_notCopied 106 = .ok (.ifCond .eq 7, 3) := by decide +kernel
theorem dX5_notCopied_109 : decode cX5_notCopied 109 = .ok (.iconst 0, 1) := by decide +kernel
theorem dX5_notCopied_110 : decode cX5_notCopied 110 = .ok (.goto 5, 3) := by decide +kernel
theorem dX5_notCopied_113 : decode cX5_notCopied 113 = .ok (.ldc 38, 2) := by decide +kernel
theorem dX5_notCopied_115 : decode cX5_notCopied 115 = .ok (.ireturn, 1) := by decide +kernel
theorem dX5_copy_0 : decode cX5_copy 0 = .ok (.aload_n 0, 1) := by decide +kernel
theorem dX5_copy_1 : decode cX5_copy 1 = .ok (.iload_n 1, 1) := by decide +kernel
theorem dX5_copy_2 : decode cX5_copy 2 = .ok (.iload_n 2, 1) := by decide +kernel
theorem dX5_copy_3 : decode cX5_copy 3 = .ok (.iload_n 3, 1) := by decide +kernel
theorem dX5_copy_4 : decode cX5_copy 4 = .ok (.iload 4, 2) := by decide +kernel
theorem dX5_copy_6 : decode cX5_copy 6 = .ok (.iload 5, 2) := by decide +kernel
theorem dX5_copy_8 : decode cX5_copy 8 = .ok (.invokevirtual 221, 3) := by decide +kernel
theorem dX5_copy_11 : decode cX5_copy 11 = .ok (.istore 6, 2) := by decide +kernel
theorem dX5_copy_13 : decode cX5_copy 13 = .ok (.iload 6, 2) := by decide +kernel
theorem dX5_copy_15 : decode cX5_copy 15 = .ok (.ifCond .eq 10, 3) := by decide +kernel
theorem dX5_copy_18 : decode cX5_copy 18 = .ok (.aload_n 0, 1) := by decide +kernel
theorem dX5_copy_19 : decode cX5_copy 19 = .ok (.iload 6, 2) := by decide +kernel
theorem dX5_copy_21 : decode cX5_copy 21 = .ok (.invokevirtual 40, 3) := by decide +kernel
theorem dX5_copy_24 : decode cX5_copy 24 = .ok (.ireturn, 1) := by decide +kernel
theorem dX5_copy_25 : decode cX5_copy 25 = .ok (.iconst 0, 1) := by decide +kernel
theorem dX5_copy_26 : decode cX5_copy 26 = .ok (.istore 7, 2) := by decide +kernel
theorem dX5_copy_28 : decode cX5_copy 28 = .ok (.iload 7, 2) := by decide +kernel
theorem dX5_copy_30 : decode cX5_copy 30 = .ok (.iload 5, 2) := by decide +kernel
theorem dX5_copy_32 : decode cX5_copy 32 = .ok (.if_icmp .ge 58, 3) := by decide +kernel
theorem dX5_copy_35 : decode cX5_copy 35 = .ok (.iload_n 2, 1) := by decide +kernel
theorem dX5_copy_36 : decode cX5_copy 36 = .ok (.iload 4, 2) := by decide +kernel
theorem dX5_copy_38 : decode cX5_copy 38 = .ok (.if_icmp .ge 13, 3) := by decide +kernel
theorem dX5_copy_41 : decode cX5_copy 41 = .ok (.iload 5, 2) := by decide +kernel
theorem dX5_copy_43 : decode cX5_copy 43 = .ok (.iconst 1, 1) := by decide +kernel
theorem dX5_copy_44 : decode cX5_copy 44 = .ok (.isub, 1) := by decide +kernel
theorem dX5_copy_45 : decode cX5_copy 45 = .ok (.iload 7, 2) := by decide +kernel
theorem dX5_copy_47 : decode cX5_copy 47 = .ok (.isub, 1) := by decide +kernel
theorem dX5_copy_48 : decode cX5_copy 48 = .ok (.goto 5, 3) := by decide +kernel
theorem dX5_copy_51 : decode cX5_copy 51 = .ok (.iload 7, 2) := by decide +kernel
theorem dX5_copy_53 : decode cX5_copy 53 = .ok (.istore 8, 2) := by decide +kernel
theorem dX5_copy_55 : decode cX5_copy 55 = .ok (.aload_n 0, 1) := by decide +kernel
theorem dX5_copy_56 : decode cX5_copy 56 = .ok (.getfield 34, 3) := by decide +kernel
theorem dX5_copy_59 : decode cX5_copy 59 = .ok (.bipush 40, 2) := by decide +kernel
theorem dX5_copy_61 : decode cX5_copy 61 = .ok (.iload_n 3, 1) := by decide +kernel
theorem dX5_copy_62 : decode cX5_copy 62 = .ok (.imul, 1) := by decide +kernel
theorem dX5_copy_63 : decode cX5_copy 63 = .ok (.iload 4, 2) := by decide +kernel
theorem dX5_copy_65 : decode cX5_copy 65 = .ok (.iadd, 1) := by decide +kernel
theorem dX5_copy_66 : decode cX5_copy 66 = .ok (.iload 8, 2) := by decide +kernel
theorem dX5_copy_68 : decode cX5_copy 68 = .ok (.iadd, 1) := by decide +kernel
theorem dX5_copy_69 : decode cX5_copy 69 = .ok (.aload_n 0, 1) := by decide +kernel
theorem dX5_copy_70 : decode cX5_copy 70 = .ok (.getfield 34, 3) := by decide +kernel
theorem dX5_copy_73 : decode cX5_copy 73 = .ok (.bipush 40, 2) := by decide +kernel
theorem dX5_copy_75 : decode cX5_copy 75 = .ok (.iload_n 1, 1) := by decide +kernel
theorem dX5_copy_76 : decode cX5_copy 76 = .ok (.imul, 1) := by decide +kernel
theorem dX5_copy_77 : decode cX5_copy 77 = .ok (.iload_n 2, 1) := by decide +kernel
theorem dX5_copy_78 : decode cX5_copy 78 = .ok (.iadd, 1) := by decide +kernel
theorem dX5_copy_79 : decode cX5_copy 79 = .ok (.iload 8, 2) := by decide +kernel
theorem dX5_copy_81 : decode cX5_copy 81 = .ok (.iadd, 1) := by decide +kernel
theorem dX5_copy_82 : decode cX5_copy 82 = .ok (.laload, 1) := by decide +kernel
theorem dX5_copy_83 : decode cX5_copy 83 = .ok (.lastore, 1) := by decide +kernel
theorem dX5_copy_84 : decode cX5_copy 84 = .ok (.iinc 7 1, 3) := by decide +kernel
theorem dX5_copy_87 : decode cX5_copy 87 = .ok (.goto (-59), 3) := by decide +kernel
theorem dX5_copy_90 : decode cX5_copy 90 = .ok (.iload 5, 2) := by decide +kernel
theorem dX5_copy_92 : decode cX5_copy 92 = .ok (.ireturn, 1) := by decide +kernel
theorem dX5_lays_0 : decode cX5_lays 0 = .ok (.aload_n 0, 1) := by decide +kernel
theorem dX5_lays_1 : decode cX5_lays 1 = .ok (.iload_n 1, 1) := by decide +kernel
theorem dX5_lays_2 : decode cX5_lays 2 = .ok (.invokevirtual 214, 3) := by decide +kernel
theorem dX5_lays_5 : decode cX5_lays 5 = .ok (.istore_n 2, 1) := by decide +kernel
theorem dX5_lays_6 : decode cX5_lays 6 = .ok (.iload_n 2, 1) := by decide +kernel
theorem dX5_lays_7 : decode cX5_lays 7 = .ok (.ifCond .eq 9, 3) := by decide +kernel
theorem dX5_lays_10 : decode cX5_lays 10 = .ok (.aload_n 0, 1) := by decide +kernel
theorem dX5_lays_11 : decode cX5_lays 11 = .ok (.iload_n 2, 1) := by decide +kernel
theorem dX5_lays_12 : decode cX5_lays 12 = .ok (.invokevirtual 40, 3) := by decide +kernel
theorem dX5_lays_15 : decode cX5_lays 15 = .ok (.ireturn, 1) := by decide +kernel
theorem dX5_lays_16 : decode cX5_lays 16 = .ok (.iconst 0, 1) := by decide +kernel
theorem dX5_lays_17 : decode cX5_lays 17 = .ok (.istore_n 3, 1) := by decide +kernel
theorem dX5_lays_18 : decode cX5_lays 18 = .ok (.iconst 0, 1) := by decide +kernel
theorem dX5_lays_19 : decode cX5_lays 19 = .ok (.istore 4, 2) := by decide +kernel
theorem dX5_lays_21 : decode cX5_lays 21 = .ok (.iload 4, 2) := by decide +kernel
theorem dX5_lays_23 : decode cX5_lays 23 = .ok (.aload_n 0, 1) := by decide +kernel
theorem dX5_lays_24 : decode cX5_lays 24 = .ok (.getfield 31, 3) := by decide +kernel
theorem dX5_lays_27 : decode cX5_lays 27 = .ok (.iload_n 1, 1) := by decide +kernel
theorem dX5_lays_28 : decode cX5_lays 28 = .ok (.iaload, 1) := by decide +kernel
theorem dX5_lays_29 : decode cX5_lays 29 = .ok (.if_icmp .ge 62, 3) := by decide +kernel
theorem dX5_lays_32 : decode cX5_lays 32 = .ok (.iload 4, 2) := by decide +kernel
theorem dX5_lays_34 : decode cX5_lays 34 = .ok (.bipush 10, 2) := by decide +kernel
theorem dX5_lays_36 : decode cX5_lays 36 = .ok (.if_icmp .ge 55, 3) := by decide +kernel
theorem dX5_lays_39 : decode cX5_lays 39 = .ok (.aload_n 0, 1) := by decide +kernel
theorem dX5_lays_40 : decode cX5_lays 40 = .ok (.getfield 34, 3) := by decide +kernel
theorem dX5_lays_43 : decode cX5_lays 43 = .ok (.bipush 40, 2) := by decide +kernel
theorem dX5_lays_45 : decode cX5_lays 45 = .ok (.iload_n 1, 1) := by decide +kernel
theorem dX5_lays_46 : decode cX5_lays 46 = .ok (.imul, 1) := by decide +kernel
theorem dX5_lays_47 : decode cX5_lays 47 = .ok (.iload 4, 2) := by decide +kernel
theorem dX5_lays_49 : decode cX5_lays 49 = .ok (.iadd, 1) := by decide +kernel
theorem dX5_lays_50 : decode cX5_lays 50 = .ok (.laload, 1) := by decide +kernel
theorem dX5_lays_51 : decode cX5_lays 51 = .ok (.iconst 0, 1) := by decide +kernel
theorem dX5_lays_52 : decode cX5_lays 52 = .ok (.bipush 9, 2) := by decide +kernel
theorem dX5_lays_54 : decode cX5_lays 54 = .ok (.invokestatic 44, 3) := by decide +kernel
theorem dX5_lays_57 : decode cX5_lays 57 = .ok (.ifCond .eq 28, 3) := by decide +kernel
theorem dX5_lays_60 : decode cX5_lays 60 = .ok (.aload_n 0, 1) := by decide +kernel
theorem dX5_lays_61 : decode cX5_lays 61 = .ok (.getfield 9, 3) := by decide +kernel
theorem dX5_lays_64 : decode cX5_lays 64 = .ok (.iconst 2, 1) := by decide +kernel
theorem dX5_lays_65 : decode cX5_lays 65 = .ok (.iload 4, 2) := by decide +kernel
theorem dX5_lays_67 : decode cX5_lays 67 = .ok (.iadd, 1) := by decide +kernel
theorem dX5_lays_68 : decode cX5_lays 68 = .ok (.aload_n 0, 1) := by decide +kernel
theorem dX5_lays_69 : decode cX5_lays 69 = .ok (.getfield 34, 3) := by decide +kernel
theorem dX5_lays_72 : decode cX5_lays 72 = .ok (.bipush 40, 2) := by decide +kernel
theorem dX5_lays_74 : decode cX5_lays 74 = .ok (.iload_n 1, 1) := by decide +kernel
theorem dX5_lays_75 : decode cX5_lays 75 = .ok (.imul, 1) := by decide +kernel
theorem dX5_lays_76 : decode cX5_lays 76 = .ok (.iload 4, 2) := by decide +kernel
theorem dX5_lays_78 : decode cX5_lays 78 = .ok (.iadd, 1) := by decide +kernel
theorem dX5_lays_79 : decode cX5_lays 79 = .ok (.laload, 1) := by decide +kernel
theorem dX5_lays_80 : decode cX5_lays 80 = .ok (.l2i, 1) := by decide +kernel
theorem dX5_lays_81 : decode cX5_lays 81 = .ok (.iastore, 1) := by decide +kernel
theorem dX5_lays_82 : decode cX5_lays 82 = .ok (.iinc 3 1, 3) := by decide +kernel
theorem dX5_lays_85 : decode cX5_lays 85 = .ok (.iinc 4 1, 3) := by decide +kernel
theorem dX5_lays_88 : decode cX5_lays 88 = .ok (.goto (-67), 3) := by decide +kernel
theorem dX5_lays_91 : decode cX5_lays 91 = .ok (.iload_n 3, 1) := by decide +kernel
theorem dX5_lays_92 : decode cX5_lays 92 = .ok (.ireturn, 1) := by decide +kernel
theorem dX5_book_0 : decode cX5_book 0 = .ok (.aload_n 0, 1) := by decide +kernel
theorem dX5_book_1 : decode cX5_book 1 = .ok (.iload_n 1, 1) := by decide +kernel
theorem dX5_book_2 : decode cX5_book 2 = .ok (.invokevirtual 214, 3) := by decide +kernel
theorem dX5_book_5 : decode cX5_book 5 = .ok (.istore_n 3, 1) := by decide +kernel
theorem dX5_book_6 : decode cX5_book 6 = .ok (.iload_n 3, 1) := by decide +kernel
theorem dX5_book_7 : decode cX5_book 7 = .ok (.ifCond .ne 16, 3) := by decide +kernel
theorem dX5_book_10 : decode cX5_book 10 = .ok (.aload_n 0, 1) := by decide +kernel
theorem dX5_book_11 : decode cX5_book 11 = .ok (.iload_n 2, 1) := by decide +kernel
theorem dX5_book_12 : decode cX5_book 12 = .ok (.invokevirtual 48, 3) := by decide +kernel
theorem dX5_book_15 : decode cX5_book 15 = .ok (.ifCond .ne 8, 3) := by decide +kernel
theorem dX5_book_18 : decode cX5_book 18 = .ok (.ldc 38, 2) := by decide +kernel
theorem dX5_book_20 : decode cX5_book 20 = .ok (.goto 4, 3) := by decide +kernel
theorem dX5_book_23 : decode cX5_book 23 = .ok (.iload_n 3, 1) := by decide +kernel
theorem dX5_book_24 : decode cX5_book 24 = .ok (.istore_n 3, 1) := by decide +kernel
theorem dX5_book_25 : decode cX5_book 25 = .ok (.iload_n 3, 1) := by decide +kernel
theorem dX5_book_26 : decode cX5_book 26 = .ok (.ifCond .eq 9, 3) := by decide +kernel
theorem dX5_book_29 : decode cX5_book 29 = .ok (.aload_n 0, 1) := by decide +kernel
theorem dX5_book_30 : decode cX5_book 30 = .ok (.iload_n 3, 1) := by decide +kernel
theorem dX5_book_31 : decode cX5_book 31 = .ok (.invokevirtual 40, 3) := by decide +kernel
theorem dX5_book_34 : decode cX5_book 34 = .ok (.ireturn, 1) := by decide +kernel
theorem dX5_book_35 : decode cX5_book 35 = .ok (.aload_n 0, 1) := by decide +kernel
theorem dX5_book_36 : decode cX5_book 36 = .ok (.invokevirtual 139, 3) := by decide +kernel
theorem dX5_book_39 : decode cX5_book 39 = .ok (.iconst 0, 1) := by decide +kernel
theorem dX5_book_40 : decode cX5_book 40 = .ok (.istore 4, 2) := by decide +kernel
theorem dX5_book_42 : decode cX5_book 42 = .ok (.iload 4, 2) := by decide +kernel
theorem dX5_book_44 : decode cX5_book 44 = .ok (.aload_n 0, 1) := by decide +kernel
theorem dX5_book_45 : decode cX5_book 45 = .ok (.getfield 31, 3) := by decide +kernel
theorem dX5_book_48 : decode cX5_book 48 = .ok (.iload_n 1, 1) := by decide +kernel
theorem dX5_book_49 : decode cX5_book 49 = .ok (.iaload, 1) := by decide +kernel
theorem dX5_book_50 : decode cX5_book 50 = .ok (.if_icmp .ge 40, 3) := by decide +kernel
theorem dX5_book_53 : decode cX5_book 53 = .ok (.aload_n 0, 1) := by decide +kernel
theorem dX5_book_54 : decode cX5_book 54 = .ok (.getfield 34, 3) := by decide +kernel
theorem dX5_book_57 : decode cX5_book 57 = .ok (.bipush 40, 2) := by decide +kernel
theorem dX5_book_59 : decode cX5_book 59 = .ok (.iload_n 1, 1) := by decide +kernel
theorem dX5_book_60 : decode cX5_book 60 = .ok (.imul, 1) := by decide +kernel
theorem dX5_book_61 : decode cX5_book 61 = .ok (.iload 4, 2) := by decide +kernel
theorem dX5_book_63 : decode cX5_book 63 = .ok (.iadd, 1) := by decide +kernel
theorem dX5_book_64 : decode cX5_book 64 = .ok (.aload_n 0, 1) := by decide +kernel
theorem dX5_book_65 : decode cX5_book 65 = .ok (.getfield 28, 3) := by decide +kernel
theorem dX5_book_68 : decode cX5_book 68 = .ok (.iload_n 1, 1) := by decide +kernel
theorem dX5_book_69 : decode cX5_book 69 = .ok (.iaload, 1) := by decide +kernel
theorem dX5_book_70 : decode cX5_book 70 = .ok (.aload_n 0, 1) := by decide +kernel
theorem dX5_book_71 : decode cX5_book 71 = .ok (.iload_n 2, 1) := by decide +kernel
theorem dX5_book_72 : decode cX5_book 72 = .ok (.invokevirtual 105, 3) := by decide +kernel
theorem dX5_book_75 : decode cX5_book 75 = .ok (.i2l, 1) := by decide +kernel
theorem dX5_book_76 : decode cX5_book 76 = .ok (.invokestatic 217, 3) := by decide +kernel
theorem dX5_book_79 : decode cX5_book 79 = .ok (.lastore, 1) := by decide +kernel
theorem dX5_book_80 : decode cX5_book 80 = .ok (.aload_n 0, 1) := by decide +kernel
theorem dX5_book_81 : decode cX5_book 81 = .ok (.invokevirtual 127, 3) := by decide +kernel
theorem dX5_book_84 : decode cX5_book 84 = .ok (.iinc 4 1, 3) := by decide +kernel
theorem dX5_book_87 : decode cX5_book 87 = .ok (.goto (-45), 3) := by decide +kernel
theorem dX5_book_90 : decode cX5_book 90 = .ok (.aload_n 0, 1) := by decide +kernel
theorem dX5_book_91 : decode cX5_book 91 = .ok (.invokevirtual 142, 3) := by decide +kernel
theorem dX5_book_94 : decode cX5_book 94 = .ok (.aload_n 0, 1) := by decide +kernel
theorem dX5_book_95 : decode cX5_book 95 = .ok (.getfield 31, 3) := by decide +kernel
theorem dX5_book_98 : decode cX5_book 98 = .ok (.iload_n 1, 1) := by decide +kernel
theorem dX5_book_99 : decode cX5_book 99 = .ok (.iaload, 1) := by decide +kernel
theorem dX5_book_100 : decode cX5_book 100 = .ok (.ireturn, 1) := by decide +kernel
theorem dX5_isBook_0 : decode cX5_isBook 0 = .ok (.iconst 1, 1) := by decide +kernel
theorem dX5_isBook_1 : decode cX5_isBook 1 = .ok (.istore_n 3, 1) := by decide +kernel
theorem dX5_isBook_2 : decode cX5_isBook 2 = .ok (.iconst 0, 1) := by decide +kernel
theorem dX5_isBook_3 : decode cX5_isBook 3 = .ok (.istore 4, 2) := by decide +kernel
theorem dX5_isBook_5 : decode cX5_isBook 5 = .ok (.iload 4, 2) := by decide +kernel
theorem dX5_isBook_7 : decode cX5_isBook 7 = .ok (.aload_n 0, 1) := by decide +kernel
theorem dX5_isBook_8 : decode cX5_isBook 8 = .ok (.getfield 31, 3) := by decide +kernel
theorem dX5_isBook_11 : decode cX5_isBook 11 = .ok (.iload_n 1, 1) := by decide +kernel
theorem dX5_isBook_12 : decode cX5_isBook 12 = .ok (.iaload, 1) := by decide +kernel
theorem dX5_isBook_13 : decode cX5_isBook 13 = .ok (.if_icmp .ge 45, 3) := by decide +kernel
theorem dX5_isBook_16 : decode cX5_isBook 16 = .ok (.iload_n 3, 1) := by decide +kernel
theorem dX5_isBook_17 : decode cX5_isBook 17 = .ok (.ifCond .eq 41, 3) := by decide +kernel
theorem dX5_isBook_20 : decode cX5_isBook 20 = .ok (.aload_n 0, 1) := by decide +kernel
theorem dX5_isBook_21 : decode cX5_isBook 21 = .ok (.getfield 34, 3) := by decide +kernel
theorem dX5_isBook_24 : decode cX5_isBook 24 = .ok (.bipush 40, 2) := by decide +kernel
theorem dX5_isBook_26 : decode cX5_isBook 26 = .ok (.iload_n 1, 1) := by decide +kernel
theorem dX5_isBook_27 : decode cX5_isBook 27 = .ok (.imul, 1) := by decide +kernel
theorem dX5_isBook_28 : decode cX5_isBook 28 = .ok (.iload 4, 2) := by decide +kernel
theorem dX5_isBook_30 : decode cX5_isBook 30 = .ok (.iadd, 1) := by decide +kernel
theorem dX5_isBook_31 : decode cX5_isBook 31 = .ok (.laload, 1) := by decide +kernel
theorem dX5_isBook_32 : decode cX5_isBook 32 = .ok (.aload_n 0, 1) := by decide +kernel
theorem dX5_isBook_33 : decode cX5_isBook 33 = .ok (.iload_n 2, 1) := by decide +kernel
theorem dX5_isBook_34 : decode cX5_isBook 34 = .ok (.invokevirtual 105, 3) := by decide +kernel
theorem dX5_isBook_37 : decode cX5_isBook 37 = .ok (.i2l, 1) := by decide +kernel
theorem dX5_isBook_38 : decode cX5_isBook 38 = .ok (.lcmp, 1) := by decide +kernel
theorem dX5_isBook_39 : decode cX5_isBook 39 = .ok (.ifCond .ne 7, 3) := by decide +kernel
theorem dX5_isBook_42 : decode cX5_isBook 42 = .ok (.iconst 1, 1) := by decide +kernel
theorem dX5_isBook_43 : decode cX5_isBook 43 = .ok (.goto 4, 3) := by decide +kernel
theorem dX5_isBook_46 : decode cX5_isBook 46 = .ok (.iconst 0, 1) := by decide +kernel
theorem dX5_isBook_47 : decode cX5_isBook 47 = .ok (.istore_n 3, 1) := by decide +kernel
theorem dX5_isBook_48 : decode cX5_isBook 48 = .ok (.aload_n 0, 1) := by decide +kernel
theorem dX5_isBook_49 : decode cX5_isBook 49 = .ok (.invokevirtual 127, 3) := by decide +kernel
theorem dX5_isBook_52 : decode cX5_isBook 52 = .ok (.iinc 4 1, 3) := by decide +kernel
theorem dX5_isBook_55 : decode cX5_isBook 55 = .ok (.goto (-50), 3) := by decide +kernel
theorem dX5_isBook_58 : decode cX5_isBook 58 = .ok (.aload_n 0, 1) := by decide +kernel
theorem dX5_isBook_59 : decode cX5_isBook 59 = .ok (.invokevirtual 142, 3) := by decide +kernel
theorem dX5_isBook_62 : decode cX5_isBook 62 = .ok (.iload_n 3, 1) := by decide +kernel
theorem dX5_isBook_63 : decode cX5_isBook 63 = .ok (.ireturn, 1) := by decide +kernel
theorem dX5_read_0 : decode cX5_read 0 = .ok (.aload_n 0, 1) := by decide +kernel
theorem dX5_read_1 : decode cX5_read 1 = .ok (.iload_n 1, 1) := by decide +kernel
theorem dX5_read_2 : decode cX5_read 2 = .ok (.invokevirtual 214, 3) := by decide +kernel
theorem dX5_read_5 : decode cX5_read 5 = .ok (.istore 4, 2) := by decide +kernel
theorem dX5_read_7 : decode cX5_read 7 = .ok (.iload 4, 2) := by decide +kernel
theorem dX5_read_9 : decode cX5_read 9 = .ok (.ifCond .ne 17, 3) := by decide +kernel
theorem dX5_read_12 : decode cX5_read 12 = .ok (.aload_n 0, 1) := by decide +kernel
theorem dX5_read_13 : decode cX5_read 13 = .ok (.iload_n 2, 1) := by decide +kernel
theorem dX5_read_14 : decode cX5_read 14 = .ok (.iload_n 3, 1) := by decide +kernel
theorem dX5_read_15 : decode cX5_read 15 = .ok (.invokevirtual 151, 3) := by decide +kernel
theorem dX5_read_18 : decode cX5_read 18 = .ok (.ifCond .ne 8, 3) := by decide +kernel
theorem dX5_read_21 : decode cX5_read 21 = .ok (.ldc 38, 2) := by decide +kernel
theorem dX5_read_23 : decode cX5_read 23 = .ok (.goto 5, 3) := by decide +kernel
theorem dX5_read_26 : decode cX5_read 26 = .ok (.iload 4, 2) := by decide +kernel
theorem dX5_read_28 : decode cX5_read 28 = .ok (.istore 4, 2) := by decide +kernel
theorem dX5_read_30 : decode cX5_read 30 = .ok (.iload 4, 2) := by decide +kernel
theorem dX5_read_32 : decode cX5_read 32 = .ok (.ifCond .eq 10, 3) := by decide +kernel
theorem dX5_read_35 : decode cX5_read 35 = .ok (.aload_n 0, 1) := by decide +kernel
theorem dX5_read_36 : decode cX5_read 36 = .ok (.iload 4, 2) := by decide +kernel
theorem dX5_read_38 : decode cX5_read 38 = .ok (.invokevirtual 40, 3) := by decide +kernel
theorem dX5_read_41 : decode cX5_read 41 = .ok (.ireturn, 1) := by decide +kernel
theorem dX5_read_42 : decode cX5_read 42 = .ok (.aload_n 0, 1) := by decide +kernel
theorem dX5_read_43 : decode cX5_read 43 = .ok (.invokevirtual 139, 3) := by decide +kernel
theorem dX5_read_46 : decode cX5_read 46 = .ok (.iconst 0, 1) := by decide +kernel
theorem dX5_read_47 : decode cX5_read 47 = .ok (.istore 5, 2) := by decide +kernel
theorem dX5_read_49 : decode cX5_read 49 = .ok (.iconst 0, 1) := by decide +kernel
theorem dX5_read_50 : decode cX5_read 50 = .ok (.istore 6, 2) := by decide +kernel
theorem dX5_read_52 : decode cX5_read 52 = .ok (.iload 6, 2) := by decide +kernel
theorem dX5_read_54 : decode cX5_read 54 = .ok (.bipush 36, 2) := by decide +kernel
theorem dX5_read_56 : decode cX5_read 56 = .ok (.if_icmp .ge 50, 3) := by decide +kernel
theorem dX5_read_59 : decode cX5_read 59 = .ok (.aload_n 0, 1) := by decide +kernel
theorem dX5_read_60 : decode cX5_read 60 = .ok (.iload_n 2, 1) := by decide +kernel
theorem dX5_read_61 : decode cX5_read 61 = .ok (.iconst 0, 1) := by decide +kernel
theorem dX5_read_62 : decode cX5_read 62 = .ok (.iload 6, 2) := by decide +kernel
theorem dX5_read_64 : decode cX5_read 64 = .ok (.bipush 6, 2) := by decide +kernel
theorem dX5_read_66 : decode cX5_read 66 = .ok (.idiv, 1) := by decide +kernel
theorem dX5_read_67 : decode cX5_read 67 = .ok (.invokevirtual 91, 3) := by decide +kernel
theorem dX5_read_70 : decode cX5_read 70 = .ok (.aload_n 0, 1) := by decide +kernel
theorem dX5_read_71 : decode cX5_read 71 = .ok (.iload_n 3, 1) := by decide +kernel
theorem dX5_read_72 : decode cX5_read 72 = .ok (.iconst 0, 1) := by decide +kernel
theorem dX5_read_73 : decode cX5_read 73 = .ok (.iload 6, 2) := by decide +kernel
theorem dX5_read_75 : decode cX5_read 75 = .ok (.bipush 6, 2) := by decide +kernel
theorem dX5_read_77 : decode cX5_read 77 = .ok (.irem, 1) := by decide +kernel
theorem dX5_read_78 : decode cX5_read 78 = .ok (.invokevirtual 91, 3) := by decide +kernel
theorem dX5_read_81 : decode cX5_read 81 = .ok (.iload 5, 2) := by decide +kernel
theorem dX5_read_83 : decode cX5_read 83 = .ok (.aload_n 0, 1) := by decide +kernel
theorem dX5_read_84 : decode cX5_read 84 = .ok (.iload_n 1, 1) := by decide +kernel
theorem dX5_read_85 : decode cX5_read 85 = .ok (.iload_n 2, 1) := by decide +kernel
theorem dX5_read_86 : decode cX5_read 86 = .ok (.invokevirtual 225, 3) := by decide +kernel
theorem dX5_read_89 : decode cX5_read 89 = .ok (.ifCond .eq 7, 3) := by decide +kernel
theorem dX5_read_92 : decode cX5_read 92 = .ok (.iconst 1, 1) := by decide +kernel
theorem dX5_read_93 : decode cX5_read 93 = .ok (.goto 4, 3) := by decide +kernel
theorem dX5_read_96 : decode cX5_read 96 = .ok (.iconst 0, 1) := by decide +kernel
theorem dX5_read_97 : decode cX5_read 97 = .ok (.iadd, 1) := by decide +kernel
theorem dX5_read_98 : decode cX5_read 98 = .ok (.istore 5, 2) := by decide +kernel
theorem dX5_read_100 : decode cX5_read 100 = .ok (.iinc 6 1, 3) := by decide +kernel
theorem dX5_read_103 : decode cX5_read 103 = .ok (.goto (-51), 3) := by decide +kernel
theorem dX5_read_106 : decode cX5_read 106 = .ok (.iload 5, 2) := by decide +kernel
theorem dX5_read_108 : decode cX5_read 108 = .ok (.ireturn, 1) := by decide +kernel
theorem dX5_image_0 : decode cX5_image 0 = .ok (.aload_n 0, 1) := by decide +kernel
theorem dX5_image_1 : decode cX5_image 1 = .ok (.getfield 9, 3) := by decide +kernel
theorem dX5_image_4 : decode cX5_image 4 = .ok (.aload_n 0, 1) := by decide +kernel
theorem dX5_image_5 : decode cX5_image 5 = .ok (.getfield 13, 3) := by decide +kernel
theorem dX5_image_8 : decode cX5_image 8 = .ok (.invokestatic 135, 3) := by decide +kernel
theorem dX5_image_11 : decode cX5_image 11 = .ok (.aload_n 0, 1) := by decide +kernel
theorem dX5_image_12 : decode cX5_image 12 = .ok (.iconst 1, 1) := by decide +kernel
theorem dX5_image_13 : decode cX5_image 13 = .ok (.putfield 228, 3) := by decide +kernel
theorem dX5_image_16 : decode cX5_image 16 = .ok (.iconst 1, 1) := by decide +kernel
theorem dX5_image_17 : decode cX5_image 17 = .ok (.ireturn, 1) := by decide +kernel
theorem dX5_undo_0 : decode cX5_undo 0 = .ok (.aload_n 0, 1) := by decide +kernel
theorem dX5_undo_1 : decode cX5_undo 1 = .ok (.getfield 228, 3) := by decide +kernel
theorem dX5_undo_4 : decode cX5_undo 4 = .ok (.ifCond .ne 10, 3) := by decide +kernel
theorem dX5_undo_7 : decode cX5_undo 7 = .ok (.aload_n 0, 1) := by decide +kernel
theorem dX5_undo_8 : decode cX5_undo 8 = .ok (.ldc 39, 2) := by decide +kernel
theorem dX5_undo_10 : decode cX5_undo 10 = .ok (.invokevirtual 40, 3) := by decide +kernel
theorem dX5_undo_13 : decode cX5_undo 13 = .ok (.ireturn, 1) := by decide +kernel
theorem dX5_undo_14 : decode cX5_undo 14 = .ok (.aload_n 0, 1) := by decide +kernel
theorem dX5_undo_15 : decode cX5_undo 15 = .ok (.getfield 13, 3) := by decide +kernel
theorem dX5_undo_18 : decode cX5_undo 18 = .ok (.aload_n 0, 1) := by decide +kernel
theorem dX5_undo_19 : decode cX5_undo 19 = .ok (.getfield 9, 3) := by decide +kernel
theorem dX5_undo_22 : decode cX5_undo 22 = .ok (.invokestatic 135, 3) := by decide +kernel
theorem dX5_undo_25 : decode cX5_undo 25 = .ok (.aload_n 0, 1) := by decide +kernel
theorem dX5_undo_26 : decode cX5_undo 26 = .ok (.getfield 9, 3) := by decide +kernel
theorem dX5_undo_29 : decode cX5_undo 29 = .ok (.iconst 1, 1) := by decide +kernel
theorem dX5_undo_30 : decode cX5_undo 30 = .ok (.iaload, 1) := by decide +kernel
theorem dX5_undo_31 : decode cX5_undo 31 = .ok (.ireturn, 1) := by decide +kernel
theorem dX5_tear_0 : decode cX5_tear 0 = .ok (.aload_n 0, 1) := by decide +kernel
theorem dX5_tear_1 : decode cX5_tear 1 = .ok (.getfield 228, 3) := by decide +kernel
theorem dX5_tear_4 : decode cX5_tear 4 = .ok (.ifCond .eq 7, 3) := by decide +kernel
theorem dX5_tear_7 : decode cX5_tear 7 = .ok (.iconst 1, 1) := by decide +kernel
theorem dX5_tear_8 : decode cX5_tear 8 = .ok (.goto 4, 3) := by decide +kernel
theorem dX5_tear_11 : decode cX5_tear 11 = .ok (.iconst 0, 1) := by decide +kernel
theorem dX5_tear_12 : decode cX5_tear 12 = .ok (.istore_n 1, 1) := by decide +kernel
theorem dX5_tear_13 : decode cX5_tear 13 = .ok (.aload_n 0, 1) := by decide +kernel
theorem dX5_tear_14 : decode cX5_tear 14 = .ok (.iconst 0, 1) := by decide +kernel
theorem dX5_tear_15 : decode cX5_tear 15 = .ok (.putfield 228, 3) := by decide +kernel
theorem dX5_tear_18 : decode cX5_tear 18 = .ok (.iload_n 1, 1) := by decide +kernel
theorem dX5_tear_19 : decode cX5_tear 19 = .ok (.ireturn, 1) := by decide +kernel
theorem dX5_allSun_0 : decode cX5_allSun 0 = .ok (.iconst 0, 1) := by decide +kernel
theorem dX5_allSun_1 : decode cX5_allSun 1 = .ok (.istore_n 1, 1) := by decide +kernel
theorem dX5_allSun_2 : decode cX5_allSun 2 = .ok (.iconst 0, 1) := by decide +kernel
theorem dX5_allSun_3 : decode cX5_allSun 3 = .ok (.istore_n 2, 1) := by decide +kernel
theorem dX5_allSun_4 : decode cX5_allSun 4 = .ok (.iload_n 2, 1) := by decide +kernel
theorem dX5_allSun_5 : decode cX5_allSun 5 = .ok (.bipush 10, 2) := by decide +kernel
theorem dX5_allSun_7 : decode cX5_allSun 7 = .ok (.if_icmp .ge 20, 3) := by decide +kernel
theorem dX5_allSun_10 : decode cX5_allSun 10 = .ok (.iload_n 1, 1) := by decide +kernel
theorem dX5_allSun_11 : decode cX5_allSun 11 = .ok (.aload_n 0, 1) := by decide +kernel
theorem dX5_allSun_12 : decode cX5_allSun 12 = .ok (.getfield 9, 3) := by decide +kernel
theorem dX5_allSun_15 : decode cX5_allSun 15 = .ok (.iconst 2, 1) := by decide +kernel
theorem dX5_allSun_16 : decode cX5_allSun 16 = .ok (.iload_n 2, 1) := by decide +kernel
theorem dX5_allSun_17 : decode cX5_allSun 17 = .ok (.iadd, 1) := by decide +kernel
theorem dX5_allSun_18 : decode cX5_allSun 18 = .ok (.iaload, 1) := by decide +kernel
theorem dX5_allSun_19 : decode cX5_allSun 19 = .ok (.iadd, 1) := by decide +kernel
theorem dX5_allSun_20 : decode cX5_allSun 20 = .ok (.istore_n 1, 1) := by decide +kernel
theorem dX5_allSun_21 : decode cX5_allSun 21 = .ok (.iinc 2 1, 3) := by decide +kernel
theorem dX5_allSun_24 : decode cX5_allSun 24 = .ok (.goto (-20), 3) := by decide +kernel
theorem dX5_allSun_27 : decode cX5_allSun 27 = .ok (.iload_n 1, 1) := by decide +kernel
theorem dX5_allSun_28 : decode cX5_allSun 28 = .ok (.ireturn, 1) := by decide +kernel
theorem dX5_howManySit_0 : decode cX5_howManySit 0 = .ok (.iconst 0, 1) := by decide +kernel
theorem dX5_howManySit_1 : decode cX5_howManySit 1 = .ok (.istore_n 1, 1) := by decide +kernel
theorem dX5_howManySit_2 : decode cX5_howManySit 2 = .ok (.iconst 0, 1) := by decide +kernel
theorem dX5_howManySit_3 : decode cX5_howManySit 3 = .ok (.istore_n 2, 1) := by decide +kernel
theorem dX5_howManySit_4 : decode cX5_howManySit 4 = .ok (.iload_n 2, 1) := by decide +kernel
theorem dX5_howManySit_5 : decode cX5_howManySit 5 = .ok (.aload_n 0, 1) := by decide +kernel
theorem dX5_howManySit_6 : decode cX5_howManySit 6 = .ok (.getfield 9, 3) := by decide +kernel
theorem dX5_howManySit_9 : decode cX5_howManySit 9 = .ok (.iconst 1, 1) := by decide +kernel
theorem dX5_howManySit_10 : decode cX5_howManySit 10 = .ok (.iaload, 1) := by decide +kernel
theorem dX5_howManySit_11 : decode cX5_howManySit 11 = .ok (.if_icmp .ge 25, 3) := by decide +kernel
theorem dX5_howManySit_14 : decode cX5_howManySit 14 = .ok (.iload_n 1, 1) := by decide +kernel
theorem dX5_howManySit_15 : decode cX5_howManySit 15 = .ok (.aload_n 0, 1) := by decide +kernel
theorem dX5_howManySit_16 : decode cX5_howManySit 16 = .ok (.iload_n 2, 1) := by decide +kernel
theorem dX5_howManySit_17 : decode cX5_howManySit 17 = .ok (.invokevirtual 56, 3) := by decide +kernel
theorem dX5_howManySit_20 : decode cX5_howManySit 20 = .ok (.ifCond .eq 7, 3) := by decide +kernel
theorem dX5_howManySit_23 : decode cX5_howManySit 23 = .ok (.iconst 1, 1) := by decide +kernel
theorem dX5_howManySit_24 : decode cX5_howManySit 24 = .ok (.goto 4, 3) := by decide +kernel
theorem dX5_howManySit_27 : decode cX5_howManySit 27 = .ok (.iconst 0, 1) := by decide +kernel
theorem dX5_howManySit_28 : decode cX5_howManySit 28 = .ok (.iadd, 1) := by decide +kernel
theorem dX5_howManySit_29 : decode cX5_howManySit 29 = .ok (.istore_n 1, 1) := by decide +kernel
theorem dX5_howManySit_30 : decode cX5_howManySit 30 = .ok (.iinc 2 1, 3) := by decide +kernel
theorem dX5_howManySit_33 : decode cX5_howManySit 33 = .ok (.goto (-29), 3) := by decide +kernel
theorem dX5_howManySit_36 : decode cX5_howManySit 36 = .ok (.iload_n 1, 1) := by decide +kernel
theorem dX5_howManySit_37 : decode cX5_howManySit 37 = .ok (.ireturn, 1) := by decide +kernel
theorem dX5_count_0 : decode cX5_count 0 = .ok (.iload_n 1, 1) := by decide +kernel
theorem dX5_count_1 : decode cX5_count 1 = .ok (.tableswitch 53 0 3 #[31, 38, 43, 48], 31) := by decide +kernel
theorem dX5_count_32 : decode cX5_count 32 = .ok (.aload_n 0, 1) := by decide +kernel
theorem dX5_count_33 : decode cX5_count 33 = .ok (.getfield 9, 3) := by decide +kernel
theorem dX5_count_36 : decode cX5_count 36 = .ok (.iconst 1, 1) := by decide +kernel
theorem dX5_count_37 : decode cX5_count 37 = .ok (.iaload, 1) := by decide +kernel
theorem dX5_count_38 : decode cX5_count 38 = .ok (.ireturn, 1) := by decide +kernel
theorem dX5_count_39 : decode cX5_count 39 = .ok (.aload_n 0, 1) := by decide +kernel
theorem dX5_count_40 : decode cX5_count 40 = .ok (.getfield 154, 3) := by decide +kernel
theorem dX5_count_43 : decode cX5_count 43 = .ok (.ireturn, 1) := by decide +kernel
theorem dX5_count_44 : decode cX5_count 44 = .ok (.aload_n 0, 1) := by decide +kernel
theorem dX5_count_45 : decode cX5_count 45 = .ok (.invokevirtual 231, 3) := by decide +kernel
theorem dX5_count_48 : decode cX5_count 48 = .ok (.ireturn, 1) := by decide +kernel
theorem dX5_count_49 : decode cX5_count 49 = .ok (.aload_n 0, 1) := by decide +kernel
theorem dX5_count_50 : decode cX5_count 50 = .ok (.invokevirtual 234, 3) := by decide +kernel
theorem dX5_count_53 : decode cX5_count 53 = .ok (.ireturn, 1) := by decide +kernel
theorem dX5_count_54 : decode cX5_count 54 = .ok (.aload_n 0, 1) := by decide +kernel
theorem dX5_count_55 : decode cX5_count 55 = .ok (.ldc 38, 2) := by decide +kernel
theorem dX5_count_57 : decode cX5_count 57 = .ok (.invokevirtual 40, 3) := by decide +kernel
theorem dX5_count_60 : decode cX5_count 60 = .ok (.ireturn, 1) := by decide +kernel
theorem dX5_status_0 : decode cX5_status 0 = .ok (.iload_n 1, 1) := by decide +kernel
theorem dX5_status_1 : decode cX5_status 1 = .ok (.i2l, 1) := by decide +kernel
theorem dX5_status_2 : decode cX5_status 2 = .ok (.iconst (-1), 1) := by decide +kernel
theorem dX5_status_3 : decode cX5_status 3 = .ok (.bipush 6, 2) := by decide +kernel
theorem dX5_status_5 : decode cX5_status 5 = .ok (.invokestatic 44, 3) := by decide +kernel
theorem dX5_status_8 : decode cX5_status 8 = .ok (.ifCond .ne 10, 3) := by decide +kernel
theorem dX5_status_11 : decode cX5_status 11 = .ok (.aload_n 0, 1) := by decide +kernel
theorem dX5_status_12 : decode cX5_status 12 = .ok (.ldc 38, 2) := by decide +kernel
theorem dX5_status_14 : decode cX5_status 14 = .ok (.invokevirtual 40, 3) := by decide +kernel
theorem dX5_status_17 : decode cX5_status 17 = .ok (.ireturn, 1) := by decide +kernel
theorem dX5_status_18 : decode cX5_status 18 = .ok (.iconst 0, 1) := by decide +kernel
theorem dX5_status_19 : decode cX5_status 19 = .ok (.istore_n 2, 1) := by decide +kernel
theorem dX5_status_20 : decode cX5_status 20 = .ok (.iconst 0, 1) := by decide +kernel
theorem dX5_status_21 : decode cX5_status 21 = .ok (.istore_n 3, 1) := by decide +kernel
theorem dX5_status_22 : decode cX5_status 22 = .ok (.iload_n 3, 1) := by decide +kernel
theorem dX5_status_23 : decode cX5_status 23 = .ok (.bipush 7, 2) := by decide +kernel
theorem dX5_status_25 : decode cX5_status 25 = .ok (.if_icmp .ge 31, 3) := by decide +kernel
theorem dX5_status_28 : decode cX5_status 28 = .ok (.iload_n 2, 1) := by decide +kernel
theorem dX5_status_29 : decode cX5_status 29 = .ok (.iload_n 1, 1) := by decide +kernel
theorem dX5_status_30 : decode cX5_status 30 = .ok (.ifCond .lt 8, 3) := by decide +kernel
theorem dX5_status_33 : decode cX5_status 33 = .ok (.iload_n 1, 1) := by decide +kernel
theorem dX5_status_34 : decode cX5_status 34 = .ok (.iload_n 3, 1) := by decide +kernel
theorem dX5_status_35 : decode cX5_status 35 = .ok (.if_icmp .ne 12, 3) := by decide +kernel
theorem dX5_status_38 : decode cX5_status 38 = .ok (.aload_n 0, 1) := by decide +kernel
theorem dX5_status_39 : decode cX5_status 39 = .ok (.getfield 19, 3) := by decide +kernel
theorem dX5_status_42 : decode cX5_status 42 = .ok (.iload_n 3, 1) := by decide +kernel
theorem dX5_status_43 : decode cX5_status 43 = .ok (.iaload, 1) := by decide +kernel
theorem dX5_status_44 : decode cX5_status 44 = .ok (.goto 4, 3) := by decide +kernel
theorem dX5_status_47 : decode cX5_status 47 = .ok (.iconst 0, 1) := by decide +kernel
theorem dX5_status_48 : decode cX5_status 48 = .ok (.iadd, 1) := by decide +kernel
theorem dX5_status_49 : decode cX5_status 49 = .ok (.istore_n 2, 1) := by decide +kernel
theorem dX5_status_50 : decode cX5_status 50 = .ok (.iinc 3 1, 3) := by decide +kernel
theorem dX5_status_53 : decode cX5_status 53 = .ok (.goto (-31), 3) := by decide +kernel
theorem dX5_status_56 : decode cX5_status 56 = .ok (.iload_n 2, 1) := by decide +kernel
theorem dX5_status_57 : decode cX5_status 57 = .ok (.ireturn, 1) := by decide +kernel
end
section
theorem dX0_init_0 : decode cX0_init 0 = .ok (.aload_n 0, 1) := by decide +kernel
theorem dX0_init_1 : decode cX0_init 1 = .ok (.invokespecial 3, 3) := by decide +kernel
theorem dX0_init_4 : decode cX0_init 4 = .ok (.aload_n 0, 1) := by decide +kernel
theorem dX0_init_5 : decode cX0_init 5 = .ok (.iconst 0, 1) := by decide +kernel
theorem dX0_init_6 : decode cX0_init 6 = .ok (.putfield 9, 3) := by decide +kernel
theorem dX0_init_9 : decode cX0_init 9 = .ok (.aload_n 0, 1) := by decide +kernel
theorem dX0_init_10 : decode cX0_init 10 = .ok (.iconst 0, 1) := by decide +kernel
theorem dX0_init_11 : decode cX0_init 11 = .ok (.putfield 15, 3) := by decide +kernel
theorem dX0_init_14 : decode cX0_init 14 = .ok (.aload_n 0, 1) := by decide +kernel
theorem dX0_init_15 : decode cX0_init 15 = .ok (.bipush 40, 2) := by decide +kernel
theorem dX0_init_17 : decode cX0_init 17 = .ok (.newarray .long, 2) := by decide +kernel
theorem dX0_init_19 : decode cX0_init 19 = .ok (.putfield 18, 3) := by decide +kernel
theorem dX0_init_22 : decode cX0_init 22 = .ok (.return_, 1) := by decide +kernel
theorem dX0_isMissing_0 : decode cX0_isMissing 0 = .ok (.aload_n 0, 1) := by decide +kernel
theorem dX0_isMissing_1 : decode cX0_isMissing 1 = .ok (.getfield 9, 3) := by decide +kernel
theorem dX0_isMissing_4 : decode cX0_isMissing 4 = .ok (.ifCond .ne 7, 3) := by decide +kernel
theorem dX0_isMissing_7 : decode cX0_isMissing 7 = .ok (.iconst 1, 1) := by decide +kernel
theorem dX0_isMissing_8 : decode cX0_isMissing 8 = .ok (.goto 4, 3) := by decide +kernel
theorem dX0_isMissing_11 : decode cX0_isMissing 11 = .ok (.iconst 0, 1) := by decide +kernel
theorem dX0_isMissing_12 : decode cX0_isMissing 12 = .ok (.ireturn, 1) := by decide +kernel
theorem dX0_begin_0 : decode cX0_begin 0 = .ok (.aload_n 0, 1) := by decide +kernel
theorem dX0_begin_1 : decode cX0_begin 1 = .ok (.iload_n 1, 1) := by decide +kernel
theorem dX0_begin_2 : decode cX0_begin 2 = .ok (.putfield 9, 3) := by decide +kernel
theorem dX0_begin_5 : decode cX0_begin 5 = .ok (.aload_n 0, 1) := by decide +kernel
theorem dX0_begin_6 : decode cX0_begin 6 = .ok (.iload_n 1, 1) := by decide +kernel
theorem dX0_begin_7 : decode cX0_begin 7 = .ok (.ifCond .ne 7, 3) := by decide +kernel
theorem dX0_begin_10 : decode cX0_begin 10 = .ok (.iconst 0, 1) := by decide +kernel
theorem dX0_begin_11 : decode cX0_begin 11 = .ok (.goto 4, 3) := by decide +kernel
theorem dX0_begin_14 : decode cX0_begin 14 = .ok (.iload_n 2, 1) := by decide +kernel
theorem dX0_begin_15 : decode cX0_begin 15 = .ok (.putfield 15, 3) := by decide +kernel
theorem dX0_begin_18 : decode cX0_begin 18 = .ok (.aload_n 0, 1) := by decide +kernel
theorem dX0_begin_19 : decode cX0_begin 19 = .ok (.getfield 18, 3) := by decide +kernel
theorem dX0_begin_22 : decode cX0_begin 22 = .ok (.lconst 0, 1) := by decide +kernel
theorem dX0_begin_23 : decode cX0_begin 23 = .ok (.invokestatic 22, 3) := by decide +kernel
theorem dX0_begin_26 : decode cX0_begin 26 = .ok (.return_, 1) := by decide +kernel
theorem dX0_has_0 : decode cX0_has 0 = .ok (.iload_n 1, 1) := by decide +kernel
theorem dX0_has_1 : decode cX0_has 1 = .ok (.ifCond .lt 29, 3) := by decide +kernel
theorem dX0_has_4 : decode cX0_has 4 = .ok (.iload_n 2, 1) := by decide +kernel
theorem dX0_has_5 : decode cX0_has 5 = .ok (.ifCond .lt 25, 3) := by decide +kernel
theorem dX0_has_8 : decode cX0_has 8 = .ok (.iload_n 1, 1) := by decide +kernel
theorem dX0_has_9 : decode cX0_has 9 = .ok (.aload_n 0, 1) := by decide +kernel
theorem dX0_has_10 : decode cX0_has 10 = .ok (.getfield 15, 3) := by decide +kernel
theorem dX0_has_13 : decode cX0_has 13 = .ok (.if_icmp .gt 17, 3) := by decide +kernel
theorem dX0_has_16 : decode cX0_has 16 = .ok (.iload_n 2, 1) := by decide +kernel
theorem dX0_has_17 : decode cX0_has 17 = .ok (.aload_n 0, 1) := by decide +kernel
theorem dX0_has_18 : decode cX0_has 18 = .ok (.getfield 15, 3) := by decide +kernel
theorem dX0_has_21 : decode cX0_has 21 = .ok (.iload_n 1, 1) := by decide +kernel
theorem dX0_has_22 : decode cX0_has 22 = .ok (.isub, 1) := by decide +kernel
theorem dX0_has_23 : decode cX0_has 23 = .ok (.if_icmp .gt 7, 3) := by decide +kernel
theorem dX0_has_26 : decode cX0_has 26 = .ok (.iconst 1, 1) := by decide +kernel
theorem dX0_has_27 : decode cX0_has 27 = .ok (.goto 4, 3) := by decide +kernel
theorem dX0_has_30 : decode cX0_has 30 = .ok (.iconst 0, 1) := by decide +kernel
theorem dX0_has_31 : decode cX0_has 31 = .ok (.ireturn, 1) := by decide +kernel
theorem dX0_put_0 : decode cX0_put 0 = .ok (.aload_n 0, 1) := by decide +kernel
theorem dX0_put_1 : decode cX0_put 1 = .ok (.getfield 18, 3) := by decide +kernel
theorem dX0_put_4 : decode cX0_put 4 = .ok (.iload_n 1, 1) := by decide +kernel
theorem dX0_put_5 : decode cX0_put 5 = .ok (.aload_n 0, 1) := by decide +kernel
theorem dX0_put_6 : decode cX0_put 6 = .ok (.getfield 9, 3) := by decide +kernel
theorem dX0_put_9 : decode cX0_put 9 = .ok (.bipush 8, 2) := by decide +kernel
theorem dX0_put_11 : decode cX0_put 11 = .ok (.if_icmp .ne 10, 3) := by decide +kernel
theorem dX0_put_14 : decode cX0_put 14 = .ok (.lload_n 2, 1) := by decide +kernel
theorem dX0_put_15 : decode cX0_put 15 = .ok (.l2i, 1) := by decide +kernel
theorem dX0_put_16 : decode cX0_put 16 = .ok (.i2b, 1) := by decide +kernel
theorem dX0_put_17 : decode cX0_put 17 = .ok (.i2l, 1) := by decide +kernel
theorem dX0_put_18 : decode cX0_put 18 = .ok (.goto 20, 3) := by decide +kernel
theorem dX0_put_21 : decode cX0_put 21 = .ok (.aload_n 0, 1) := by decide +kernel
theorem dX0_put_22 : decode cX0_put 22 = .ok (.getfield 9, 3) := by decide +kernel
theorem dX0_put_25 : decode cX0_put 25 = .ok (.bipush 16, 2) := by decide +kernel
theorem dX0_put_27 : decode cX0_put 27 = .ok (.if_icmp .ne 10, 3) := by decide +kernel
theorem dX0_put_30 : decode cX0_put 30 = .ok (.lload_n 2, 1) := by decide +kernel
theorem dX0_put_31 : decode cX0_put 31 = .ok (.l2i, 1) := by decide +kernel
theorem dX0_put_32 : decode cX0_put 32 = .ok (.i2s, 1) := by decide +kernel
theorem dX0_put_33 : decode cX0_put 33 = .ok (.i2l, 1) := by decide +kernel
theorem dX0_put_34 : decode cX0_put 34 = .ok (.goto 4, 3) := by decide +kernel
theorem dX0_put_37 : decode cX0_put 37 = .ok (.lload_n 2, 1) := by decide +kernel
theorem dX0_put_38 : decode cX0_put 38 = .ok (.lastore, 1) := by decide +kernel
theorem dX0_put_39 : decode cX0_put 39 = .ok (.return_, 1) := by decide +kernel
theorem dX1_init_0 : decode cX1_init 0 = .ok (.aload_n 0, 1) := by decide +kernel
theorem dX1_init_1 : decode cX1_init 1 = .ok (.invokespecial 3, 3) := by decide +kernel
theorem dX1_init_4 : decode cX1_init 4 = .ok (.aload_n 0, 1) := by decide +kernel
theorem dX1_init_5 : decode cX1_init 5 = .ok (.iconst 0, 1) := by decide +kernel
theorem dX1_init_6 : decode cX1_init 6 = .ok (.putfield 9, 3) := by decide +kernel
theorem dX1_init_9 : decode cX1_init 9 = .ok (.aload_n 0, 1) := by decide +kernel
theorem dX1_init_10 : decode cX1_init 10 = .ok (.iconst 0, 1) := by decide +kernel
theorem dX1_init_11 : decode cX1_init 11 = .ok (.putfield 15, 3) := by decide +kernel
theorem dX1_init_14 : decode cX1_init 14 = .ok (.aload_n 0, 1) := by decide +kernel
theorem dX1_init_15 : decode cX1_init 15 = .ok (.bipush 10, 2) := by decide +kernel
theorem dX1_init_17 : decode cX1_init 17 = .ok (.newarray .int, 2) := by decide +kernel
theorem dX1_init_19 : decode cX1_init 19 = .ok (.putfield 18, 3) := by decide +kernel
theorem dX1_init_22 : decode cX1_init 22 = .ok (.aload_n 0, 1) := by decide +kernel
theorem dX1_init_23 : decode cX1_init 23 = .ok (.bipush 10, 2) := by decide +kernel
theorem dX1_init_25 : decode cX1_init 25 = .ok (.newarray .int, 2) := by decide +kernel
theorem dX1_init_27 : decode cX1_init 27 = .ok (.putfield 22, 3) := by decide +kernel
theorem dX1_init_30 : decode cX1_init 30 = .ok (.aload_n 0, 1) := by decide +kernel
theorem dX1_init_31 : decode cX1_init 31 = .ok (.bipush 8, 2) := by decide +kernel
theorem dX1_init_33 : decode cX1_init 33 = .ok (.newarray .int, 2) := by decide +kernel
theorem dX1_init_35 : decode cX1_init 35 = .ok (.putfield 25, 3) := by decide +kernel
theorem dX1_init_38 : decode cX1_init 38 = .ok (.aload_n 0, 1) := by decide +kernel
theorem dX1_init_39 : decode cX1_init 39 = .ok (.bipush 8, 2) := by decide +kernel
theorem dX1_init_41 : decode cX1_init 41 = .ok (.newarray .int, 2) := by decide +kernel
theorem dX1_init_43 : decode cX1_init 43 = .ok (.putfield 28, 3) := by decide +kernel
theorem dX1_init_46 : decode cX1_init 46 = .ok (.aload_n 0, 1) := by decide +kernel
theorem dX1_init_47 : decode cX1_init 47 = .ok (.bipush 8, 2) := by decide +kernel
theorem dX1_init_49 : decode cX1_init 49 = .ok (.newarray .int, 2) := by decide +kernel
theorem dX1_init_51 : decode cX1_init 51 = .ok (.putfield 31, 3) := by decide +kernel
theorem dX1_init_54 : decode cX1_init 54 = .ok (.aload_n 0, 1) := by decide +kernel
theorem dX1_init_55 : decode cX1_init 55 = .ok (.bipush 8, 2) := by decide +kernel
theorem dX1_init_57 : decode cX1_init 57 = .ok (.newarray .int, 2) := by decide +kernel
theorem dX1_init_59 : decode cX1_init 59 = .ok (.putfield 34, 3) := by decide +kernel
theorem dX1_init_62 : decode cX1_init 62 = .ok (.aload_n 0, 1) := by decide +kernel
theorem dX1_init_63 : decode cX1_init 63 = .ok (.bipush 8, 2) := by decide +kernel
theorem dX1_init_65 : decode cX1_init 65 = .ok (.newarray .int, 2) := by decide +kernel
theorem dX1_init_67 : decode cX1_init 67 = .ok (.putfield 37, 3) := by decide +kernel
theorem dX1_init_70 : decode cX1_init 70 = .ok (.aload_n 0, 1) := by decide +kernel
theorem dX1_init_71 : decode cX1_init 71 = .ok (.bipush 8, 2) := by decide +kernel
theorem dX1_init_73 : decode cX1_init 73 = .ok (.newarray .int, 2) := by decide +kernel
theorem dX1_init_75 : decode cX1_init 75 = .ok (.putfield 40, 3) := by decide +kernel
theorem dX1_init_78 : decode cX1_init 78 = .ok (.aload_n 0, 1) := by decide +kernel
theorem dX1_init_79 : decode cX1_init 79 = .ok (.bipush 8, 2) := by decide +kernel
theorem dX1_init_81 : decode cX1_init 81 = .ok (.newarray .int, 2) := by decide +kernel
theorem dX1_init_83 : decode cX1_init 83 = .ok (.putfield 43, 3) := by decide +kernel
theorem dX1_init_86 : decode cX1_init 86 = .ok (.iconst 0, 1) := by decide +kernel
theorem dX1_init_87 : decode cX1_init 87 = .ok (.istore_n 1, 1) := by decide +kernel
theorem dX1_init_88 : decode cX1_init 88 = .ok (.iload_n 1, 1) := by decide +kernel
theorem dX1_init_89 : decode cX1_init 89 = .ok (.bipush 10, 2) := by decide +kernel
theorem dX1_init_91 : decode cX1_init 91 = .ok (.if_icmp .ge 21, 3) := by decide +kernel
theorem dX1_init_94 : decode cX1_init 94 = .ok (.aload_n 0, 1) := by decide +kernel
theorem dX1_init_95 : decode cX1_init 95 = .ok (.getfield 18, 3) := by decide +kernel
theorem dX1_init_98 : decode cX1_init 98 = .ok (.iload_n 1, 1) := by decide +kernel
theorem dX1_init_99 : decode cX1_init 99 = .ok (.iconst 3, 1) := by decide +kernel
theorem dX1_init_100 : decode cX1_init 100 = .ok (.iload_n 1, 1) := by decide +kernel
theorem dX1_init_101 : decode cX1_init 101 = .ok (.imul, 1) := by decide +kernel
theorem dX1_init_102 : decode cX1_init 102 = .ok (.bipush 10, 2) := by decide +kernel
theorem dX1_init_104 : decode cX1_init 104 = .ok (.irem, 1) := by decide +kernel
theorem dX1_init_105 : decode cX1_init 105 = .ok (.iastore, 1) := by decide +kernel
theorem dX1_init_106 : decode cX1_init 106 = .ok (.iinc 1 1, 3) := by decide +kernel
theorem dX1_init_109 : decode cX1_init 109 = .ok (.goto (-21), 3) := by decide +kernel
theorem dX1_init_112 : decode cX1_init 112 = .ok (.aload_n 0, 1) := by decide +kernel
theorem dX1_init_113 : decode cX1_init 113 = .ok (.getfield 22, 3) := by decide +kernel
theorem dX1_init_116 : decode cX1_init 116 = .ok (.iconst (-1), 1) := by decide +kernel
theorem dX1_init_117 : decode cX1_init 117 = .ok (.invokestatic 46, 3) := by decide +kernel
theorem dX1_init_120 : decode cX1_init 120 = .ok (.aload_n 0, 1) := by decide +kernel
theorem dX1_init_121 : decode cX1_init 121 = .ok (.getfield 28, 3) := by decide +kernel
theorem dX1_init_124 : decode cX1_init 124 = .ok (.iconst (-1), 1) := by decide +kernel
theorem dX1_init_125 : decode cX1_init 125 = .ok (.invokestatic 46, 3) := by decide +kernel
theorem dX1_init_128 : decode cX1_init 128 = .ok (.return_, 1) := by decide +kernel
theorem dX1_become_0 : decode cX1_become 0 = .ok (.aload_n 0, 1) := by decide +kernel
theorem dX1_become_1 : decode cX1_become 1 = .ok (.aload_n 1, 1) := by decide +kernel
theorem dX1_become_2 : decode cX1_become 2 = .ok (.getfield 9, 3) := by decide +kernel
theorem dX1_become_5 : decode cX1_become 5 = .ok (.putfield 9, 3) := by decide +kernel
theorem dX1_become_8 : decode cX1_become 8 = .ok (.aload_n 0, 1) := by decide +kernel
theorem dX1_become_9 : decode cX1_become 9 = .ok (.aload_n 1, 1) := by decide +kernel
theorem dX1_become_10 : decode cX1_become 10 = .ok (.getfield 15, 3) := by decide +kernel
theorem dX1_become_13 : decode cX1_become 13 = .ok (.putfield 15, 3) := by decide +kernel
theorem dX1_become_16 : decode cX1_become 16 = .ok (.aload_n 1, 1) := by decide +kernel
theorem dX1_become_17 : decode cX1_become 17 = .ok (.getfield 18, 3) := by decide +kernel
theorem dX1_become_20 : decode cX1_become 20 = .ok (.iconst 0, 1) := by decide +kernel
theorem dX1_become_21 : decode cX1_become 21 = .ok (.aload_n 0, 1) := by decide +kernel
theorem dX1_become_22 : decode cX1_become 22 = .ok (.getfield 18, 3) := by decide +kernel
theorem dX1_become_25 : decode cX1_become 25 = .ok (.iconst 0, 1) := by decide +kernel
theorem dX1_become_26 : decode cX1_become 26 = .ok (.bipush 10, 2) := by decide +kernel
theorem dX1_become_28 : decode cX1_become 28 = .ok (.invokestatic 52, 3) := by decide +kernel
theorem dX1_become_31 : decode cX1_become 31 = .ok (.aload_n 1, 1) := by decide +kernel
theorem dX1_become_32 : decode cX1_become 32 = .ok (.getfield 22, 3) := by decide +kernel
theorem dX1_become_35 : decode cX1_become 35 = .ok (.iconst 0, 1) := by decide +kernel
theorem dX1_become_36 : decode cX1_become 36 = .ok (.aload_n 0, 1) := by decide +kernel
theorem dX1_become_37 : decode cX1_become 37 = .ok (.getfield 22, 3) := by decide +kernel
theorem dX1_become_40 : decode cX1_become 40 = .ok (.iconst 0, 1) := by decide +kernel
theorem dX1_become_41 : decode cX1_become 41 = .ok (.bipush 10, 2) := by decide +kernel
theorem dX1_become_43 : decode cX1_become 43 = .ok (.invokestatic 52, 3) := by decide +kernel
theorem dX1_become_46 : decode cX1_become 46 = .ok (.aload_n 1, 1) := by decide +kernel
theorem dX1_become_47 : decode cX1_become 47 = .ok (.getfield 25, 3) := by decide +kernel
theorem dX1_become_50 : decode cX1_become 50 = .ok (.iconst 0, 1) := by decide +kernel
theorem dX1_become_51 : decode cX1_become 51 = .ok (.aload_n 0, 1) := by decide +kernel
theorem dX1_become_52 : decode cX1_become 52 = .ok (.getfield 25, 3) := by decide +kernel
theorem dX1_become_55 : decode cX1_become 55 = .ok (.iconst 0, 1) := by decide +kernel
theorem dX1_become_56 : decode cX1_become 56 = .ok (.bipush 8, 2) := by decide +kernel
theorem dX1_become_58 : decode cX1_become 58 = .ok (.invokestatic 52, 3) := by decide +kernel
theorem dX1_become_61 : decode cX1_become 61 = .ok (.aload_n 1, 1) := by decide +kernel
theorem dX1_become_62 : decode cX1_become 62 = .ok (.getfield 28, 3) := by decide +kernel
theorem dX1_become_65 : decode cX1_become 65 = .ok (.iconst 0, 1) := by decide +kernel
theorem dX1_become_66 : decode cX1_become 66 = .ok (.aload_n 0, 1) := by decide +kernel
theorem dX1_become_67 : decode cX1_become 67 = .ok (.getfield 28, 3) := by decide +kernel
theorem dX1_become_70 : decode cX1_become 70 = .ok (.iconst 0, 1) := by decide +kernel
theorem dX1_become_71 : decode cX1_become 71 = .ok (.bipush 8, 2) := by decide +kernel
theorem dX1_become_73 : decode cX1_become 73 = .ok (.invokestatic 52, 3) := by decide +kernel
theorem dX1_become_76 : decode cX1_become 76 = .ok (.aload_n 1, 1) := by decide +kernel
theorem dX1_become_77 : decode cX1_become 77 = .ok (.getfield 31, 3) := by decide +kernel
theorem dX1_become_80 : decode cX1_become 80 = .ok (.iconst 0, 1) := by decide +kernel
theorem dX1_become_81 : decode cX1_become 81 = .ok (.aload_n 0, 1) := by decide +kernel
theorem dX1_become_82 : decode cX1_become 82 = .ok (.getfield 31, 3) := by decide +kernel
theorem dX1_become_85 : decode cX1_become 85 = .ok (.iconst 0, 1) := by decide +kernel
theorem dX1_become_86 : decode cX1_become 86 = .ok (.bipush 8, 2) := by decide +kernel
theorem dX1_become_88 : decode cX1_become 88 = .ok (.invokestatic 52, 3) := by decide +kernel
theorem dX1_become_91 : decode cX1_become 91 = .ok (.aload_n 1, 1) := by decide +kernel
theorem dX1_become_92 : decode cX1_become 92 = .ok (.getfield 34, 3) := by decide +kernel
theorem dX1_become_95 : decode cX1_become 95 = .ok (.iconst 0, 1) := by decide +kernel
theorem dX1_become_96 : decode cX1_become 96 = .ok (.aload_n 0, 1) := by decide +kernel
theorem dX1_become_97 : decode cX1_become 97 = .ok (.getfield 34, 3) := by decide +kernel
theorem dX1_become_100 : decode cX1_become 100 = .ok (.iconst 0, 1) := by decide +kernel
theorem dX1_become_101 : decode cX1_become 101 = .ok (.bipush 8, 2) := by decide +kernel
theorem dX1_become_103 : decode cX1_become 103 = .ok (.invokestatic 52, 3) := by decide +kernel
theorem dX1_become_106 : decode cX1_become 106 = .ok (.aload_n 1, 1) := by decide +kernel
theorem dX1_become_107 : decode cX1_become 107 = .ok (.getfield 37, 3) := by decide +kernel
theorem dX1_become_110 : decode cX1_become 110 = .ok (.iconst 0, 1) := by decide +kernel
theorem dX1_become_111 : decode cX1_become 111 = .ok (.aload_n 0, 1) := by decide +kernel
theorem dX1_become_112 : decode cX1_become 112 = .ok (.getfield 37, 3) := by decide +kernel
theorem dX1_become_115 : decode cX1_become 115 = .ok (.iconst 0, 1) := by decide +kernel
theorem dX1_become_116 : decode cX1_become 116 = .ok (.bipush 8, 2) := by decide +kernel
theorem dX1_become_118 : decode cX1_become 118 = .ok (.invokestatic 52, 3) := by decide +kernel
theorem dX1_become_121 : decode cX1_become 121 = .ok (.return_, 1) := by decide +kernel
theorem dX1_place_0 : decode cX1_place 0 = .ok (.aload_n 0, 1) := by decide +kernel
theorem dX1_place_1 : decode cX1_place 1 = .ok (.getfield 9, 3) := by decide +kernel
theorem dX1_place_4 : decode cX1_place 4 = .ok (.bipush 10, 2) := by decide +kernel
theorem dX1_place_6 : decode cX1_place 6 = .ok (.irem, 1) := by decide +kernel
theorem dX1_place_7 : decode cX1_place 7 = .ok (.ireturn, 1) := by decide +kernel
theorem dX1_sunNow_0 : decode cX1_sunNow 0 = .ok (.aload_n 0, 1) := by decide +kernel
theorem dX1_sunNow_1 : decode cX1_sunNow 1 = .ok (.getfield 18, 3) := by decide +kernel
theorem dX1_sunNow_4 : decode cX1_sunNow 4 = .ok (.aload_n 0, 1) := by decide +kernel
theorem dX1_sunNow_5 : decode cX1_sunNow 5 = .ok (.invokevirtual 58, 3) := by decide +kernel
theorem dX1_sunNow_8 : decode cX1_sunNow 8 = .ok (.iaload, 1) := by decide +kernel
theorem dX1_sunNow_9 : decode cX1_sunNow 9 = .ok (.ireturn, 1) := by decide +kernel
theorem dX1_sunOfAll_0 : decode cX1_sunOfAll 0 = .ok (.iconst 0, 1) := by decide +kernel
theorem dX1_sunOfAll_1 : decode cX1_sunOfAll 1 = .ok (.istore_n 1, 1) := by decide +kernel
theorem dX1_sunOfAll_2 : decode cX1_sunOfAll 2 = .ok (.iconst 0, 1) := by decide +kernel
theorem dX1_sunOfAll_3 : decode cX1_sunOfAll 3 = .ok (.istore_n 2, 1) := by decide +kernel
theorem dX1_sunOfAll_4 : decode cX1_sunOfAll 4 = .ok (.iload_n 2, 1) := by decide +kernel
theorem dX1_sunOfAll_5 : decode cX1_sunOfAll 5 = .ok (.bipush 10, 2) := by decide +kernel
theorem dX1_sunOfAll_7 : decode cX1_sunOfAll 7 = .ok (.if_icmp .ge 18, 3) := by decide +kernel
theorem dX1_sunOfAll_10 : decode cX1_sunOfAll 10 = .ok (.iload_n 1, 1) := by decide +kernel
theorem dX1_sunOfAll_11 : decode cX1_sunOfAll 11 = .ok (.aload_n 0, 1) := by decide +kernel
theorem dX1_sunOfAll_12 : decode cX1_sunOfAll 12 = .ok (.getfield 18, 3) := by decide +kernel
theorem dX1_sunOfAll_15 : decode cX1_sunOfAll 15 = .ok (.iload_n 2, 1) := by decide +kernel
theorem dX1_sunOfAll_16 : decode cX1_sunOfAll 16 = .ok (.iaload, 1) := by decide +kernel
theorem dX1_sunOfAll_17 : decode cX1_sunOfAll 17 = .ok (.iadd, 1) := by decide +kernel
theorem dX1_sunOfAll_18 : decode cX1_sunOfAll 18 = .ok (.istore_n 1, 1) := by decide +kernel
theorem dX1_sunOfAll_19 : decode cX1_sunOfAll 19 = .ok (.iinc 2 1, 3) := by decide +kernel
theorem dX1_sunOfAll_22 : decode cX1_sunOfAll 22 = .ok (.goto (-18), 3) := by decide +kernel
theorem dX1_sunOfAll_25 : decode cX1_sunOfAll 25 = .ok (.iload_n 1, 1) := by decide +kernel
theorem dX1_sunOfAll_26 : decode cX1_sunOfAll 26 = .ok (.ireturn, 1) := by decide +kernel
theorem dX1_add_0 : decode cX1_add 0 = .ok (.aload_n 0, 1) := by decide +kernel
theorem dX1_add_1 : decode cX1_add 1 = .ok (.getfield 15, 3) := by decide +kernel
theorem dX1_add_4 : decode cX1_add 4 = .ok (.istore_n 3, 1) := by decide +kernel
theorem dX1_add_5 : decode cX1_add 5 = .ok (.aload_n 0, 1) := by decide +kernel
theorem dX1_add_6 : decode cX1_add 6 = .ok (.getfield 25, 3) := by decide +kernel
theorem dX1_add_9 : decode cX1_add 9 = .ok (.iload_n 3, 1) := by decide +kernel
theorem dX1_add_10 : decode cX1_add 10 = .ok (.iload_n 1, 1) := by decide +kernel
theorem dX1_add_11 : decode cX1_add 11 = .ok (.iastore, 1) := by decide +kernel
theorem dX1_add_12 : decode cX1_add 12 = .ok (.aload_n 0, 1) := by decide +kernel
theorem dX1_add_13 : decode cX1_add 13 = .ok (.getfield 28, 3) := by decide +kernel
theorem dX1_add_16 : decode cX1_add 16 = .ok (.iload_n 3, 1) := by decide +kernel
theorem dX1_add_17 : decode cX1_add 17 = .ok (.iconst (-1), 1) := by decide +kernel
theorem dX1_add_18 : decode cX1_add 18 = .ok (.iastore, 1) := by decide +kernel
theorem dX1_add_19 : decode cX1_add 19 = .ok (.aload_n 0, 1) := by decide +kernel
theorem dX1_add_20 : decode cX1_add 20 = .ok (.getfield 31, 3) := by decide +kernel
theorem dX1_add_23 : decode cX1_add 23 = .ok (.iload_n 3, 1) := by decide +kernel
theorem dX1_add_24 : decode cX1_add 24 = .ok (.iload_n 2, 1) := by decide +kernel
theorem dX1_add_25 : decode cX1_add 25 = .ok (.iastore, 1) := by decide +kernel
theorem dX1_add_26 : decode cX1_add 26 = .ok (.aload_n 0, 1) := by decide +kernel
theorem dX1_add_27 : decode cX1_add 27 = .ok (.getfield 34, 3) := by decide +kernel
theorem dX1_add_30 : decode cX1_add 30 = .ok (.iload_n 3, 1) := by decide +kernel
theorem dX1_add_31 : decode cX1_add 31 = .ok (.iload_n 2, 1) := by decide +kernel
theorem dX1_add_32 : decode cX1_add 32 = .ok (.iastore, 1) := by decide +kernel
theorem dX1_add_33 : decode cX1_add 33 = .ok (.aload_n 0, 1) := by decide +kernel
theorem dX1_add_34 : decode cX1_add 34 = .ok (.getfield 37, 3) := by decide +kernel
theorem dX1_add_37 : decode cX1_add 37 = .ok (.iload_n 3, 1) := by decide +kernel
theorem dX1_add_38 : decode cX1_add 38 = .ok (.iconst 0, 1) := by decide +kernel
theorem dX1_add_39 : decode cX1_add 39 = .ok (.iastore, 1) := by decide +kernel
theorem dX1_add_40 : decode cX1_add 40 = .ok (.aload_n 0, 1) := by decide +kernel
theorem dX1_add_41 : decode cX1_add 41 = .ok (.iload_n 3, 1) := by decide +kernel
theorem dX1_add_42 : decode cX1_add 42 = .ok (.iconst 1, 1) := by decide +kernel
theorem dX1_add_43 : decode cX1_add 43 = .ok (.iadd, 1) := by decide +kernel
theorem dX1_add_44 : decode cX1_add 44 = .ok (.putfield 15, 3) := by decide +kernel
theorem dX1_add_47 : decode cX1_add 47 = .ok (.iload_n 3, 1) := by decide +kernel
theorem dX1_add_48 : decode cX1_add 48 = .ok (.ireturn, 1) := by decide +kernel
theorem dX1_sits_0 : decode cX1_sits 0 = .ok (.aload_n 0, 1) := by decide +kernel
theorem dX1_sits_1 : decode cX1_sits 1 = .ok (.getfield 28, 3) := by decide +kernel
theorem dX1_sits_4 : decode cX1_sits 4 = .ok (.iload_n 1, 1) := by decide +kernel
theorem dX1_sits_5 : decode cX1_sits 5 = .ok (.iaload, 1) := by decide +kernel
theorem dX1_sits_6 : decode cX1_sits 6 = .ok (.ifCond .lt 7, 3) := by decide +kernel
theorem dX1_sits_9 : decode cX1_sits 9 = .ok (.iconst 1, 1) := by decide +kernel
theorem dX1_sits_10 : decode cX1_sits 10 = .ok (.goto 4, 3) := by decide +kernel
theorem dX1_sits_13 : decode cX1_sits 13 = .ok (.iconst 0, 1) := by decide +kernel
theorem dX1_sits_14 : decode cX1_sits 14 = .ok (.ireturn, 1) := by decide +kernel
theorem dX1_isFreeFor_0 : decode cX1_isFreeFor 0 = .ok (.aload_n 0, 1) := by decide +kernel
theorem dX1_isFreeFor_1 : decode cX1_isFreeFor 1 = .ok (.getfield 22, 3) := by decide +kernel
theorem dX1_isFreeFor_4 : decode cX1_isFreeFor 4 = .ok (.iload_n 2, 1) := by decide +kernel
theorem dX1_isFreeFor_5 : decode cX1_isFreeFor 5 = .ok (.iaload, 1) := by decide +kernel
theorem dX1_isFreeFor_6 : decode cX1_isFreeFor 6 = .ok (.ifCond .lt 13, 3) := by decide +kernel
theorem dX1_isFreeFor_9 : decode cX1_isFreeFor 9 = .ok (.aload_n 0, 1) := by decide +kernel
theorem dX1_isFreeFor_10 : decode cX1_isFreeFor 10 = .ok (.getfield 22, 3) := by decide +kernel
theorem dX1_isFreeFor_13 : decode cX1_isFreeFor 13 = .ok (.iload_n 2, 1) := by decide +kernel
theorem dX1_isFreeFor_14 : decode cX1_isFreeFor 14 = .ok (.iaload, 1) := by decide +kernel
theorem dX1_isFreeFor_15 : decode cX1_isFreeFor 15 = .ok (.iload_n 1, 1) := by decide +kernel
theorem dX1_isFreeFor_16 : decode cX1_isFreeFor 16 = .ok (.if_icmp .ne 7, 3) := by decide +kernel
theorem dX1_isFreeFor_19 : decode cX1_isFreeFor 19 = .ok (.iconst 1, 1) := by decide +kernel
theorem dX1_isFreeFor_20 : decode cX1_isFreeFor 20 = .ok (.goto 4, 3) := by decide +kernel
theorem dX1_isFreeFor_23 : decode cX1_isFreeFor 23 = .ok (.iconst 0, 1) := by decide +kernel
theorem dX1_isFreeFor_24 : decode cX1_isFreeFor 24 = .ok (.ireturn, 1) := by decide +kernel
theorem dX1_seat_0 : decode cX1_seat 0 = .ok (.aload_n 0, 1) := by decide +kernel
theorem dX1_seat_1 : decode cX1_seat 1 = .ok (.getfield 28, 3) := by decide +kernel
theorem dX1_seat_4 : decode cX1_seat 4 = .ok (.iload_n 1, 1) := by decide +kernel
theorem dX1_seat_5 : decode cX1_seat 5 = .ok (.iaload, 1) := by decide +kernel
theorem dX1_seat_6 : decode cX1_seat 6 = .ok (.ifCond .lt 15, 3) := by decide +kernel
theorem dX1_seat_9 : decode cX1_seat 9 = .ok (.aload_n 0, 1) := by decide +kernel
theorem dX1_seat_10 : decode cX1_seat 10 = .ok (.getfield 22, 3) := by decide +kernel
theorem dX1_seat_13 : decode cX1_seat 13 = .ok (.aload_n 0, 1) := by decide +kernel
theorem dX1_seat_14 : decode cX1_seat 14 = .ok (.getfield 28, 3) := by decide +kernel
theorem dX1_seat_17 : decode cX1_seat 17 = .ok (.iload_n 1, 1) := by decide +kernel
theorem dX1_seat_18 : decode cX1_seat 18 = .ok (.iaload, 1) := by decide +kernel
theorem dX1_seat_19 : decode cX1_seat 19 = .ok (.iconst (-1), 1) := by decide +kernel
theorem dX1_seat_20 : decode cX1_seat 20 = .ok (.iastore, 1) := by decide +kernel
theorem dX1_seat_21 : decode cX1_seat 21 = .ok (.aload_n 0, 1) := by decide +kernel
theorem dX1_seat_22 : decode cX1_seat 22 = .ok (.getfield 28, 3) := by decide +kernel
theorem dX1_seat_25 : decode cX1_seat 25 = .ok (.iload_n 1, 1) := by decide +kernel
theorem dX1_seat_26 : decode cX1_seat 26 = .ok (.iload_n 2, 1) := by decide +kernel
theorem dX1_seat_27 : decode cX1_seat 27 = .ok (.iastore, 1) := by decide +kernel
theorem dX1_seat_28 : decode cX1_seat 28 = .ok (.iload_n 2, 1) := by decide +kernel
theorem dX1_seat_29 : decode cX1_seat 29 = .ok (.ifCond .lt 10, 3) := by decide +kernel
theorem dX1_seat_32 : decode cX1_seat 32 = .ok (.aload_n 0, 1) := by decide +kernel
theorem dX1_seat_33 : decode cX1_seat 33 = .ok (.getfield 22, 3) := by decide +kernel
theorem dX1_seat_36 : decode cX1_seat 36 = .ok (.iload_n 2, 1) := by decide +kernel
theorem dX1_seat_37 : decode cX1_seat 37 = .ok (.iload_n 1, 1) := by decide +kernel
theorem dX1_seat_38 : decode cX1_seat 38 = .ok (.iastore, 1) := by decide +kernel
theorem dX1_seat_39 : decode cX1_seat 39 = .ok (.return_, 1) := by decide +kernel
theorem dX1_swap_0 : decode cX1_swap 0 = .ok (.aload_n 0, 1) := by decide +kernel
theorem dX1_swap_1 : decode cX1_swap 1 = .ok (.getfield 28, 3) := by decide +kernel
theorem dX1_swap_4 : decode cX1_swap 4 = .ok (.iload_n 1, 1) := by decide +kernel
theorem dX1_swap_5 : decode cX1_swap 5 = .ok (.iaload, 1) := by decide +kernel
theorem dX1_swap_6 : decode cX1_swap 6 = .ok (.istore_n 3, 1) := by decide +kernel
theorem dX1_swap_7 : decode cX1_swap 7 = .ok (.aload_n 0, 1) := by decide +kernel
theorem dX1_swap_8 : decode cX1_swap 8 = .ok (.getfield 28, 3) := by decide +kernel
theorem dX1_swap_11 : decode cX1_swap 11 = .ok (.iload_n 2, 1) := by decide +kernel
theorem dX1_swap_12 : decode cX1_swap 12 = .ok (.iaload, 1) := by decide +kernel
theorem dX1_swap_13 : decode cX1_swap 13 = .ok (.istore 4, 2) := by decide +kernel
theorem dX1_swap_15 : decode cX1_swap 15 = .ok (.aload_n 0, 1) := by decide +kernel
theorem dX1_swap_16 : decode cX1_swap 16 = .ok (.iload_n 1, 1) := by decide +kernel
theorem dX1_swap_17 : decode cX1_swap 17 = .ok (.iconst (-1), 1) := by decide +kernel
theorem dX1_swap_18 : decode cX1_swap 18 = .ok (.invokevirtual 62, 3) := by decide +kernel
theorem dX1_swap_21 : decode cX1_swap 21 = .ok (.aload_n 0, 1) := by decide +kernel
theorem dX1_swap_22 : decode cX1_swap 22 = .ok (.iload_n 2, 1) := by decide +kernel
theorem dX1_swap_23 : decode cX1_swap 23 = .ok (.iload_n 3, 1) := by decide +kernel
theorem dX1_swap_24 : decode cX1_swap 24 = .ok (.invokevirtual 62, 3) := by decide +kernel
theorem dX1_swap_27 : decode cX1_swap 27 = .ok (.aload_n 0, 1) := by decide +kernel
theorem dX1_swap_28 : decode cX1_swap 28 = .ok (.iload_n 1, 1) := by decide +kernel
theorem dX1_swap_29 : decode cX1_swap 29 = .ok (.iload 4, 2) := by decide +kernel
theorem dX1_swap_31 : decode cX1_swap 31 = .ok (.invokevirtual 62, 3) := by decide +kernel
theorem dX1_swap_34 : decode cX1_swap 34 = .ok (.return_, 1) := by decide +kernel
theorem dX1_neighbour_0 : decode cX1_neighbour 0 = .ok (.aload_n 0, 1) := by decide +kernel
theorem dX1_neighbour_1 : decode cX1_neighbour 1 = .ok (.getfield 28, 3) := by decide +kernel
theorem dX1_neighbour_4 : decode cX1_neighbour 4 = .ok (.iload_n 1, 1) := by decide +kernel
theorem dX1_neighbour_5 : decode cX1_neighbour 5 = .ok (.iaload, 1) := by decide +kernel
theorem dX1_neighbour_6 : decode cX1_neighbour 6 = .ok (.iload_n 2, 1) := by decide +kernel
theorem dX1_neighbour_7 : decode cX1_neighbour 7 = .ok (.iadd, 1) := by decide +kernel
theorem dX1_neighbour_8 : decode cX1_neighbour 8 = .ok (.istore_n 3, 1) := by decide +kernel
theorem dX1_neighbour_9 : decode cX1_neighbour 9 = .ok (.aload_n 0, 1) := by decide +kernel
theorem dX1_neighbour_10 : decode cX1_neighbour 10 = .ok (.iload_n 1, 1) := by decide +kernel
theorem dX1_neighbour_11 : decode cX1_neighbour 11 = .ok (.invokevirtual 66, 3) := by decide +kernel
theorem dX1_neighbour_14 : decode cX1_neighbour 14 = .ok (.ifCond .eq 22, 3) := by decide +kernel
theorem dX1_neighbour_17 : decode cX1_neighbour 17 = .ok (.iload_n 3, 1) := by decide +kernel
theorem dX1_neighbour_18 : decode cX1_neighbour 18 = .ok (.iconst 0, 1) := by decide +kernel
theorem dX1_neighbour_19 : decode cX1_neighbour 19 = .ok (.bipush 9, 2) := by decide +kernel
theorem dX1_neighbour_21 : decode cX1_neighbour 21 = .ok (.invokestatic 70, 3) := by decide +kernel
theorem dX1_neighbour_24 : decode cX1_neighbour 24 = .ok (.ifCond .eq 12, 3) := by decide +kernel
theorem dX1_neighbour_27 : decode cX1_neighbour 27 = .ok (.aload_n 0, 1) := by decide +kernel
theorem dX1_neighbour_28 : decode cX1_neighbour 28 = .ok (.getfield 22, 3) := by decide +kernel
theorem dX1_neighbour_31 : decode cX1_neighbour 31 = .ok (.iload_n 3, 1) := by decide +kernel
theorem dX1_neighbour_32 : decode cX1_neighbour 32 = .ok (.iaload, 1) := by decide +kernel
theorem dX1_neighbour_33 : decode cX1_neighbour 33 = .ok (.goto 4, 3) := by decide +kernel
theorem dX1_neighbour_36 : decode cX1_neighbour 36 = .ok (.iconst (-1), 1) := by decide +kernel
theorem dX1_neighbour_37 : decode cX1_neighbour 37 = .ok (.ireturn, 1) := by decide +kernel
theorem dX1_setOfSitters_0 : decode cX1_setOfSitters 0 = .ok (.iconst 0, 1) := by decide +kernel
theorem dX1_setOfSitters_1 : decode cX1_setOfSitters 1 = .ok (.istore_n 1, 1) := by decide +kernel
theorem dX1_setOfSitters_2 : decode cX1_setOfSitters 2 = .ok (.iconst 0, 1) := by decide +kernel
theorem dX1_setOfSitters_3 : decode cX1_setOfSitters 3 = .ok (.istore_n 2, 1) := by decide +kernel
theorem dX1_setOfSitters_4 : decode cX1_setOfSitters 4 = .ok (.iload_n 2, 1) := by decide +kernel
theorem dX1_setOfSitters_5 : decode cX1_setOfSitters 5 = .ok (.aload_n 0, 1) := by decide +kernel
theorem dX1_setOfSitters_6 : decode cX1_setOfSitters 6 = .ok (.getfield 15, 3) := by decide +kernel
theorem dX1_setOfSitters_9 : decode cX1_setOfSitters 9 = .ok (.if_icmp .ge 23, 3) := by decide +kernel
theorem dX1_setOfSitters_12 : decode cX1_setOfSitters 12 = .ok (.aload_n 0, 1) := by decide +kernel
theorem dX1_setOfSitters_13 : decode cX1_setOfSitters 13 = .ok (.iload_n 2, 1) := by decide +kernel
theorem dX1_setOfSitters_14 : decode cX1_setOfSitters 14 = .ok (.invokevirtual 66, 3) := by decide +kernel
theorem dX1_setOfSitters_17 : decode cX1_setOfSitters 17 = .ok (.ifCond .eq 9, 3) := by decide +kernel
theorem dX1_setOfSitters_20 : decode cX1_setOfSitters 20 = .ok (.iload_n 1, 1) := by decide +kernel
theorem dX1_setOfSitters_21 : decode cX1_setOfSitters 21 = .ok (.iconst 1, 1) := by decide +kernel
theorem dX1_setOfSitters_22 : decode cX1_setOfSitters 22 = .ok (.iload_n 2, 1) := by decide +kernel
theorem dX1_setOfSitters_23 : decode cX1_setOfSitters 23 = .ok (.ishl, 1) := by decide +kernel
theorem dX1_setOfSitters_24 : decode cX1_setOfSitters 24 = .ok (.ior, 1) := by decide +kernel
theorem dX1_setOfSitters_25 : decode cX1_setOfSitters 25 = .ok (.istore_n 1, 1) := by decide +kernel
theorem dX1_setOfSitters_26 : decode cX1_setOfSitters 26 = .ok (.iinc 2 1, 3) := by decide +kernel
theorem dX1_setOfSitters_29 : decode cX1_setOfSitters 29 = .ok (.goto (-25), 3) := by decide +kernel
theorem dX1_setOfSitters_32 : decode cX1_setOfSitters 32 = .ok (.iload_n 1, 1) := by decide +kernel
theorem dX1_setOfSitters_33 : decode cX1_setOfSitters 33 = .ok (.ireturn, 1) := by decide +kernel
theorem dX1_setOfEven_0 : decode cX1_setOfEven 0 = .ok (.iconst 0, 1) := by decide +kernel
theorem dX1_setOfEven_1 : decode cX1_setOfEven 1 = .ok (.istore_n 1, 1) := by decide +kernel
theorem dX1_setOfEven_2 : decode cX1_setOfEven 2 = .ok (.iconst 0, 1) := by decide +kernel
theorem dX1_setOfEven_3 : decode cX1_setOfEven 3 = .ok (.istore_n 2, 1) := by decide +kernel
theorem dX1_setOfEven_4 : decode cX1_setOfEven 4 = .ok (.iload_n 2, 1) := by decide +kernel
theorem dX1_setOfEven_5 : decode cX1_setOfEven 5 = .ok (.aload_n 0, 1) := by decide +kernel
theorem dX1_setOfEven_6 : decode cX1_setOfEven 6 = .ok (.getfield 15, 3) := by decide +kernel
theorem dX1_setOfEven_9 : decode cX1_setOfEven 9 = .ok (.if_icmp .ge 23, 3) := by decide +kernel
theorem dX1_setOfEven_12 : decode cX1_setOfEven 12 = .ok (.aload_n 0, 1) := by decide +kernel
theorem dX1_setOfEven_13 : decode cX1_setOfEven 13 = .ok (.iload_n 2, 1) := by decide +kernel
theorem dX1_setOfEven_14 : decode cX1_setOfEven 14 = .ok (.invokevirtual 74, 3) := by decide +kernel
theorem dX1_setOfEven_17 : decode cX1_setOfEven 17 = .ok (.ifCond .eq 9, 3) := by decide +kernel
theorem dX1_setOfEven_20 : decode cX1_setOfEven 20 = .ok (.iload_n 1, 1) := by decide +kernel
theorem dX1_setOfEven_21 : decode cX1_setOfEven 21 = .ok (.iconst 1, 1) := by decide +kernel
theorem dX1_setOfEven_22 : decode cX1_setOfEven 22 = .ok (.iload_n 2, 1) := by decide +kernel
theorem dX1_setOfEven_23 : decode cX1_setOfEven 23 = .ok (.ishl, 1) := by decide +kernel
theorem dX1_setOfEven_24 : decode cX1_setOfEven 24 = .ok (.ior, 1) := by decide +kernel
theorem dX1_setOfEven_25 : decode cX1_setOfEven 25 = .ok (.istore_n 1, 1) := by decide +kernel
theorem dX1_setOfEven_26 : decode cX1_setOfEven 26 = .ok (.iinc 2 1, 3) := by decide +kernel
theorem dX1_setOfEven_29 : decode cX1_setOfEven 29 = .ok (.goto (-25), 3) := by decide +kernel
theorem dX1_setOfEven_32 : decode cX1_setOfEven 32 = .ok (.iload_n 1, 1) := by decide +kernel
theorem dX1_setOfEven_33 : decode cX1_setOfEven 33 = .ok (.ireturn, 1) := by decide +kernel
theorem dX1_isEven_0 : decode cX1_isEven 0 = .ok (.aload_n 0, 1) := by decide +kernel
theorem dX1_isEven_1 : decode cX1_isEven 1 = .ok (.getfield 31, 3) := by decide +kernel
theorem dX1_isEven_4 : decode cX1_isEven 4 = .ok (.iload_n 1, 1) := by decide +kernel
theorem dX1_isEven_5 : decode cX1_isEven 5 = .ok (.iaload, 1) := by decide +kernel
theorem dX1_isEven_6 : decode cX1_isEven 6 = .ok (.aload_n 0, 1) := by decide +kernel
theorem dX1_isEven_7 : decode cX1_isEven 7 = .ok (.getfield 34, 3) := by decide +kernel
theorem dX1_isEven_10 : decode cX1_isEven 10 = .ok (.iload_n 1, 1) := by decide +kernel
theorem dX1_isEven_11 : decode cX1_isEven 11 = .ok (.iaload, 1) := by decide +kernel
theorem dX1_isEven_12 : decode cX1_isEven 12 = .ok (.isub, 1) := by decide +kernel
theorem dX1_isEven_13 : decode cX1_isEven 13 = .ok (.invokestatic 77, 3) := by decide +kernel
theorem dX1_isEven_16 : decode cX1_isEven 16 = .ok (.iconst 5, 1) := by decide +kernel
theorem dX1_isEven_17 : decode cX1_isEven 17 = .ok (.if_icmp .gt 7, 3) := by decide +kernel
theorem dX1_isEven_20 : decode cX1_isEven 20 = .ok (.iconst 1, 1) := by decide +kernel
theorem dX1_isEven_21 : decode cX1_isEven 21 = .ok (.goto 4, 3) := by decide +kernel
theorem dX1_isEven_24 : decode cX1_isEven 24 = .ok (.iconst 0, 1) := by decide +kernel
theorem dX1_isEven_25 : decode cX1_isEven 25 = .ok (.ireturn, 1) := by decide +kernel
theorem dX1_brownOf_0 : decode cX1_brownOf 0 = .ok (.aload_n 0, 1) := by decide +kernel
theorem dX1_brownOf_1 : decode cX1_brownOf 1 = .ok (.getfield 31, 3) := by decide +kernel
theorem dX1_brownOf_4 : decode cX1_brownOf 4 = .ok (.iload_n 1, 1) := by decide +kernel
theorem dX1_brownOf_5 : decode cX1_brownOf 5 = .ok (.iaload, 1) := by decide +kernel
theorem dX1_brownOf_6 : decode cX1_brownOf 6 = .ok (.aload_n 0, 1) := by decide +kernel
theorem dX1_brownOf_7 : decode cX1_brownOf 7 = .ok (.getfield 34, 3) := by decide +kernel
theorem dX1_brownOf_10 : decode cX1_brownOf 10 = .ok (.iload_n 1, 1) := by decide +kernel
theorem dX1_brownOf_11 : decode cX1_brownOf 11 = .ok (.iaload, 1) := by decide +kernel
theorem dX1_brownOf_12 : decode cX1_brownOf 12 = .ok (.iadd, 1) := by decide +kernel
theorem dX1_brownOf_13 : decode cX1_brownOf 13 = .ok (.ireturn, 1) := by decide +kernel
theorem dX1_brownOfAll_0 : decode cX1_brownOfAll 0 = .ok (.iconst 0, 1) := by decide +kernel
theorem dX1_brownOfAll_1 : decode cX1_brownOfAll 1 = .ok (.istore_n 1, 1) := by decide +kernel
theorem dX1_brownOfAll_2 : decode cX1_brownOfAll 2 = .ok (.iconst 0, 1) := by decide +kernel
theorem dX1_brownOfAll_3 : decode cX1_brownOfAll 3 = .ok (.istore_n 2, 1) := by decide +kernel
theorem dX1_brownOfAll_4 : decode cX1_brownOfAll 4 = .ok (.iload_n 2, 1) := by decide +kernel
theorem dX1_brownOfAll_5 : decode cX1_brownOfAll 5 = .ok (.aload_n 0, 1) := by decide +kernel
theorem dX1_brownOfAll_6 : decode cX1_brownOfAll 6 = .ok (.getfield 15, 3) := by decide +kernel
theorem dX1_brownOfAll_9 : decode cX1_brownOfAll 9 = .ok (.if_icmp .ge 17, 3) := by decide +kernel
theorem dX1_brownOfAll_12 : decode cX1_brownOfAll 12 = .ok (.iload_n 1, 1) := by decide +kernel
theorem dX1_brownOfAll_13 : decode cX1_brownOfAll 13 = .ok (.aload_n 0, 1) := by decide +kernel
theorem dX1_brownOfAll_14 : decode cX1_brownOfAll 14 = .ok (.iload_n 2, 1) := by decide +kernel
theorem dX1_brownOfAll_15 : decode cX1_brownOfAll 15 = .ok (.invokevirtual 83, 3) := by decide +kernel
theorem dX1_brownOfAll_18 : decode cX1_brownOfAll 18 = .ok (.iadd, 1) := by decide +kernel
theorem dX1_brownOfAll_19 : decode cX1_brownOfAll 19 = .ok (.istore_n 1, 1) := by decide +kernel
theorem dX1_brownOfAll_20 : decode cX1_brownOfAll 20 = .ok (.iinc 2 1, 3) := by decide +kernel
theorem dX1_brownOfAll_23 : decode cX1_brownOfAll 23 = .ok (.goto (-19), 3) := by decide +kernel
theorem dX1_brownOfAll_26 : decode cX1_brownOfAll 26 = .ok (.iload_n 1, 1) := by decide +kernel
theorem dX1_brownOfAll_27 : decode cX1_brownOfAll 27 = .ok (.ireturn, 1) := by decide +kernel
theorem dX1_burntOfAll_0 : decode cX1_burntOfAll 0 = .ok (.iconst 0, 1) := by decide +kernel
theorem dX1_burntOfAll_1 : decode cX1_burntOfAll 1 = .ok (.istore_n 1, 1) := by decide +kernel
theorem dX1_burntOfAll_2 : decode cX1_burntOfAll 2 = .ok (.iconst 0, 1) := by decide +kernel
theorem dX1_burntOfAll_3 : decode cX1_burntOfAll 3 = .ok (.istore_n 2, 1) := by decide +kernel
theorem dX1_burntOfAll_4 : decode cX1_burntOfAll 4 = .ok (.iload_n 2, 1) := by decide +kernel
theorem dX1_burntOfAll_5 : decode cX1_burntOfAll 5 = .ok (.aload_n 0, 1) := by decide +kernel
theorem dX1_burntOfAll_6 : decode cX1_burntOfAll 6 = .ok (.getfield 15, 3) := by decide +kernel
theorem dX1_burntOfAll_9 : decode cX1_burntOfAll 9 = .ok (.if_icmp .ge 18, 3) := by decide +kernel
theorem dX1_burntOfAll_12 : decode cX1_burntOfAll 12 = .ok (.iload_n 1, 1) := by decide +kernel
theorem dX1_burntOfAll_13 : decode cX1_burntOfAll 13 = .ok (.aload_n 0, 1) := by decide +kernel
theorem dX1_burntOfAll_14 : decode cX1_burntOfAll 14 = .ok (.getfield 37, 3) := by decide +kernel
theorem dX1_burntOfAll_17 : decode cX1_burntOfAll 17 = .ok (.iload_n 2, 1) := by decide +kernel
theorem dX1_burntOfAll_18 : decode cX1_burntOfAll 18 = .ok (.iaload, 1) := by decide +kernel
theorem dX1_burntOfAll_19 : decode cX1_burntOfAll 19 = .ok (.iadd, 1) := by decide +kernel
theorem dX1_burntOfAll_20 : decode cX1_burntOfAll 20 = .ok (.istore_n 1, 1) := by decide +kernel
theorem dX1_burntOfAll_21 : decode cX1_burntOfAll 21 = .ok (.iinc 2 1, 3) := by decide +kernel
theorem dX1_burntOfAll_24 : decode cX1_burntOfAll 24 = .ok (.goto (-20), 3) := by decide +kernel
theorem dX1_burntOfAll_27 : decode cX1_burntOfAll 27 = .ok (.iload_n 1, 1) := by decide +kernel
theorem dX1_burntOfAll_28 : decode cX1_burntOfAll 28 = .ok (.ireturn, 1) := by decide +kernel
theorem dX1_fadesOf_0 : decode cX1_fadesOf 0 = .ok (.aload_n 0, 1) := by decide +kernel
theorem dX1_fadesOf_1 : decode cX1_fadesOf 1 = .ok (.iload_n 1, 1) := by decide +kernel
theorem dX1_fadesOf_2 : decode cX1_fadesOf 2 = .ok (.iconst (-1), 1) := by decide +kernel
theorem dX1_fadesOf_3 : decode cX1_fadesOf 3 = .ok (.invokevirtual 86, 3) := by decide +kernel
theorem dX1_fadesOf_6 : decode cX1_fadesOf 6 = .ok (.ifCond .lt 16, 3) := by decide +kernel
theorem dX1_fadesOf_9 : decode cX1_fadesOf 9 = .ok (.aload_n 0, 1) := by decide +kernel
theorem dX1_fadesOf_10 : decode cX1_fadesOf 10 = .ok (.iload_n 1, 1) := by decide +kernel
theorem dX1_fadesOf_11 : decode cX1_fadesOf 11 = .ok (.iconst 1, 1) := by decide +kernel
theorem dX1_fadesOf_12 : decode cX1_fadesOf 12 = .ok (.invokevirtual 86, 3) := by decide +kernel
theorem dX1_fadesOf_15 : decode cX1_fadesOf 15 = .ok (.ifCond .lt 7, 3) := by decide +kernel
theorem dX1_fadesOf_18 : decode cX1_fadesOf 18 = .ok (.iconst 1, 1) := by decide +kernel
theorem dX1_fadesOf_19 : decode cX1_fadesOf 19 = .ok (.goto 4, 3) := by decide +kernel
theorem dX1_fadesOf_22 : decode cX1_fadesOf 22 = .ok (.iconst 0, 1) := by decide +kernel
theorem dX1_fadesOf_23 : decode cX1_fadesOf 23 = .ok (.istore_n 2, 1) := by decide +kernel
theorem dX1_fadesOf_24 : decode cX1_fadesOf 24 = .ok (.aload_n 0, 1) := by decide +kernel
theorem dX1_fadesOf_25 : decode cX1_fadesOf 25 = .ok (.getfield 25, 3) := by decide +kernel
theorem dX1_fadesOf_28 : decode cX1_fadesOf 28 = .ok (.iload_n 1, 1) := by decide +kernel
theorem dX1_fadesOf_29 : decode cX1_fadesOf 29 = .ok (.iaload, 1) := by decide +kernel
theorem dX1_fadesOf_30 : decode cX1_fadesOf 30 = .ok (.aload_n 0, 1) := by decide +kernel
theorem dX1_fadesOf_31 : decode cX1_fadesOf 31 = .ok (.invokevirtual 90, 3) := by decide +kernel
theorem dX1_fadesOf_34 : decode cX1_fadesOf 34 = .ok (.iload_n 2, 1) := by decide +kernel
theorem dX1_fadesOf_35 : decode cX1_fadesOf 35 = .ok (.invokestatic 93, 3) := by decide +kernel
theorem dX1_fadesOf_38 : decode cX1_fadesOf 38 = .ok (.ireturn, 1) := by decide +kernel
theorem dX1_givenLeft_0 : decode cX1_givenLeft 0 = .ok (.aload_n 0, 1) := by decide +kernel
theorem dX1_givenLeft_1 : decode cX1_givenLeft 1 = .ok (.iload_n 1, 1) := by decide +kernel
theorem dX1_givenLeft_2 : decode cX1_givenLeft 2 = .ok (.iconst (-1), 1) := by decide +kernel
theorem dX1_givenLeft_3 : decode cX1_givenLeft 3 = .ok (.invokevirtual 86, 3) := by decide +kernel
theorem dX1_givenLeft_6 : decode cX1_givenLeft 6 = .ok (.istore_n 2, 1) := by decide +kernel
theorem dX1_givenLeft_7 : decode cX1_givenLeft 7 = .ok (.iload_n 2, 1) := by decide +kernel
theorem dX1_givenLeft_8 : decode cX1_givenLeft 8 = .ok (.ifCond .ge 7, 3) := by decide +kernel
theorem dX1_givenLeft_11 : decode cX1_givenLeft 11 = .ok (.iconst 0, 1) := by decide +kernel
theorem dX1_givenLeft_12 : decode cX1_givenLeft 12 = .ok (.goto 28, 3) := by decide +kernel
theorem dX1_givenLeft_15 : decode cX1_givenLeft 15 = .ok (.aload_n 0, 1) := by decide +kernel
theorem dX1_givenLeft_16 : decode cX1_givenLeft 16 = .ok (.getfield 25, 3) := by decide +kernel
theorem dX1_givenLeft_19 : decode cX1_givenLeft 19 = .ok (.iload_n 2, 1) := by decide +kernel
theorem dX1_givenLeft_20 : decode cX1_givenLeft 20 = .ok (.iaload, 1) := by decide +kernel
theorem dX1_givenLeft_21 : decode cX1_givenLeft 21 = .ok (.aload_n 0, 1) := by decide +kernel
theorem dX1_givenLeft_22 : decode cX1_givenLeft 22 = .ok (.getfield 34, 3) := by decide +kernel
theorem dX1_givenLeft_25 : decode cX1_givenLeft 25 = .ok (.iload_n 2, 1) := by decide +kernel
theorem dX1_givenLeft_26 : decode cX1_givenLeft 26 = .ok (.iaload, 1) := by decide +kernel
theorem dX1_givenLeft_27 : decode cX1_givenLeft 27 = .ok (.aload_n 0, 1) := by decide +kernel
theorem dX1_givenLeft_28 : decode cX1_givenLeft 28 = .ok (.invokevirtual 90, 3) := by decide +kernel
theorem dX1_givenLeft_31 : decode cX1_givenLeft 31 = .ok (.aload_n 0, 1) := by decide +kernel
theorem dX1_givenLeft_32 : decode cX1_givenLeft 32 = .ok (.getfield 25, 3) := by decide +kernel
theorem dX1_givenLeft_35 : decode cX1_givenLeft 35 = .ok (.iload_n 1, 1) := by decide +kernel
theorem dX1_givenLeft_36 : decode cX1_givenLeft 36 = .ok (.iaload, 1) := by decide +kernel
theorem dX1_givenLeft_37 : decode cX1_givenLeft 37 = .ok (.invokestatic 99, 3) := by decide +kernel
theorem dX1_givenLeft_40 : decode cX1_givenLeft 40 = .ok (.ireturn, 1) := by decide +kernel
theorem dX1_givenRight_0 : decode cX1_givenRight 0 = .ok (.aload_n 0, 1) := by decide +kernel
theorem dX1_givenRight_1 : decode cX1_givenRight 1 = .ok (.iload_n 1, 1) := by decide +kernel
theorem dX1_givenRight_2 : decode cX1_givenRight 2 = .ok (.iconst 1, 1) := by decide +kernel
theorem dX1_givenRight_3 : decode cX1_givenRight 3 = .ok (.invokevirtual 86, 3) := by decide +kernel
theorem dX1_givenRight_6 : decode cX1_givenRight 6 = .ok (.istore_n 2, 1) := by decide +kernel
theorem dX1_givenRight_7 : decode cX1_givenRight 7 = .ok (.iload_n 2, 1) := by decide +kernel
theorem dX1_givenRight_8 : decode cX1_givenRight 8 = .ok (.ifCond .ge 7, 3) := by decide +kernel
theorem dX1_givenRight_11 : decode cX1_givenRight 11 = .ok (.iconst 0, 1) := by decide +kernel
theorem dX1_givenRight_12 : decode cX1_givenRight 12 = .ok (.goto 28, 3) := by decide +kernel
theorem dX1_givenRight_15 : decode cX1_givenRight 15 = .ok (.aload_n 0, 1) := by decide +kernel
theorem dX1_givenRight_16 : decode cX1_givenRight 16 = .ok (.getfield 25, 3) := by decide +kernel
theorem dX1_givenRight_19 : decode cX1_givenRight 19 = .ok (.iload_n 2, 1) := by decide +kernel
theorem dX1_givenRight_20 : decode cX1_givenRight 20 = .ok (.iaload, 1) := by decide +kernel
theorem dX1_givenRight_21 : decode cX1_givenRight 21 = .ok (.aload_n 0, 1) := by decide +kernel
theorem dX1_givenRight_22 : decode cX1_givenRight 22 = .ok (.getfield 31, 3) := by decide +kernel
theorem dX1_givenRight_25 : decode cX1_givenRight 25 = .ok (.iload_n 2, 1) := by decide +kernel
theorem dX1_givenRight_26 : decode cX1_givenRight 26 = .ok (.iaload, 1) := by decide +kernel
theorem dX1_givenRight_27 : decode cX1_givenRight 27 = .ok (.aload_n 0, 1) := by decide +kernel
theorem dX1_givenRight_28 : decode cX1_givenRight 28 = .ok (.invokevirtual 90, 3) := by decide +kernel
theorem dX1_givenRight_31 : decode cX1_givenRight 31 = .ok (.aload_n 0, 1) := by decide +kernel
theorem dX1_givenRight_32 : decode cX1_givenRight 32 = .ok (.getfield 25, 3) := by decide +kernel
theorem dX1_givenRight_35 : decode cX1_givenRight 35 = .ok (.iload_n 1, 1) := by decide +kernel
theorem dX1_givenRight_36 : decode cX1_givenRight 36 = .ok (.iaload, 1) := by decide +kernel
theorem dX1_givenRight_37 : decode cX1_givenRight 37 = .ok (.invokestatic 99, 3) := by decide +kernel
theorem dX1_givenRight_40 : decode cX1_givenRight 40 = .ok (.ireturn, 1) := by decide +kernel
theorem dX1_goOn_0 : decode cX1_goOn 0 = .ok (.iconst 0, 1) := by decide +kernel
theorem dX1_goOn_1 : decode cX1_goOn 1 = .ok (.istore_n 2, 1) := by decide +kernel
theorem dX1_goOn_2 : decode cX1_goOn 2 = .ok (.iload_n 2, 1) := by decide +kernel
theorem dX1_goOn_3 : decode cX1_goOn 3 = .ok (.iload_n 1, 1) := by decide +kernel
theorem dX1_goOn_4 : decode cX1_goOn 4 = .ok (.if_icmp .ge 13, 3) := by decide +kernel
theorem dX1_goOn_7 : decode cX1_goOn 7 = .ok (.aload_n 0, 1) := by decide +kernel
theorem dX1_goOn_8 : decode cX1_goOn 8 = .ok (.invokevirtual 103, 3) := by decide +kernel
theorem dX1_goOn_11 : decode cX1_goOn 11 = .ok (.iinc 2 1, 3) := by decide +kernel
theorem dX1_goOn_14 : decode cX1_goOn 14 = .ok (.goto (-12), 3) := by decide +kernel
theorem dX1_goOn_17 : decode cX1_goOn 17 = .ok (.return_, 1) := by decide +kernel
theorem dX1_passHour_0 : decode cX1_passHour 0 = .ok (.iconst 0, 1) := by decide +kernel
theorem dX1_passHour_1 : decode cX1_passHour 1 = .ok (.istore_n 1, 1) := by decide +kernel
theorem dX1_passHour_2 : decode cX1_passHour 2 = .ok (.iload_n 1, 1) := by decide +kernel
theorem dX1_passHour_3 : decode cX1_passHour 3 = .ok (.aload_n 0, 1) := by decide +kernel
theorem dX1_passHour_4 : decode cX1_passHour 4 = .ok (.getfield 15, 3) := by decide +kernel
theorem dX1_passHour_7 : decode cX1_passHour 7 = .ok (.if_icmp .ge 31, 3) := by decide +kernel
theorem dX1_passHour_10 : decode cX1_passHour 10 = .ok (.aload_n 0, 1) := by decide +kernel
theorem dX1_passHour_11 : decode cX1_passHour 11 = .ok (.getfield 40, 3) := by decide +kernel
theorem dX1_passHour_14 : decode cX1_passHour 14 = .ok (.iload_n 1, 1) := by decide +kernel
theorem dX1_passHour_15 : decode cX1_passHour 15 = .ok (.aload_n 0, 1) := by decide +kernel
theorem dX1_passHour_16 : decode cX1_passHour 16 = .ok (.iload_n 1, 1) := by decide +kernel
theorem dX1_passHour_17 : decode cX1_passHour 17 = .ok (.invokevirtual 106, 3) := by decide +kernel
theorem dX1_passHour_20 : decode cX1_passHour 20 = .ok (.iastore, 1) := by decide +kernel
theorem dX1_passHour_21 : decode cX1_passHour 21 = .ok (.aload_n 0, 1) := by decide +kernel
theorem dX1_passHour_22 : decode cX1_passHour 22 = .ok (.getfield 43, 3) := by decide +kernel
theorem dX1_passHour_25 : decode cX1_passHour 25 = .ok (.iload_n 1, 1) := by decide +kernel
theorem dX1_passHour_26 : decode cX1_passHour 26 = .ok (.aload_n 0, 1) := by decide +kernel
theorem dX1_passHour_27 : decode cX1_passHour 27 = .ok (.iload_n 1, 1) := by decide +kernel
theorem dX1_passHour_28 : decode cX1_passHour 28 = .ok (.invokevirtual 109, 3) := by decide +kernel
theorem dX1_passHour_31 : decode cX1_passHour 31 = .ok (.iastore, 1) := by decide +kernel
theorem dX1_passHour_32 : decode cX1_passHour 32 = .ok (.iinc 1 1, 3) := by decide +kernel
theorem dX1_passHour_35 : decode cX1_passHour 35 = .ok (.goto (-33), 3) := by decide +kernel
theorem dX1_passHour_38 : decode cX1_passHour 38 = .ok (.iconst 0, 1) := by decide +kernel
theorem dX1_passHour_39 : decode cX1_passHour 39 = .ok (.istore_n 1, 1) := by decide +kernel
theorem dX1_passHour_40 : decode cX1_passHour 40 = .ok (.iload_n 1, 1) := by decide +kernel
theorem dX1_passHour_41 : decode cX1_passHour 41 = .ok (.aload_n 0, 1) := by decide +kernel
theorem dX1_passHour_42 : decode cX1_passHour 42 = .ok (.getfield 15, 3) := by decide +kernel
theorem dX1_passHour_45 : decode cX1_passHour 45 = .ok (.if_icmp .ge 93, 3) := by decide +kernel
theorem dX1_passHour_48 : decode cX1_passHour 48 = .ok (.aload_n 0, 1) := by decide +kernel
theorem dX1_passHour_49 : decode cX1_passHour 49 = .ok (.iload_n 1, 1) := by decide +kernel
theorem dX1_passHour_50 : decode cX1_passHour 50 = .ok (.invokevirtual 66, 3) := by decide +kernel
theorem dX1_passHour_53 : decode cX1_passHour 53 = .ok (.ifCond .eq 79, 3) := by decide +kernel
theorem dX1_passHour_56 : decode cX1_passHour 56 = .ok (.aload_n 0, 1) := by decide +kernel
theorem dX1_passHour_57 : decode cX1_passHour 57 = .ok (.iload_n 1, 1) := by decide +kernel
theorem dX1_passHour_58 : decode cX1_passHour 58 = .ok (.invokevirtual 112, 3) := by decide +kernel
theorem dX1_passHour_61 : decode cX1_passHour 61 = .ok (.istore_n 2, 1) := by decide +kernel
theorem dX1_passHour_62 : decode cX1_passHour 62 = .ok (.aload_n 0, 1) := by decide +kernel
theorem dX1_passHour_63 : decode cX1_passHour 63 = .ok (.getfield 31, 3) := by decide +kernel
theorem dX1_passHour_66 : decode cX1_passHour 66 = .ok (.iload_n 1, 1) := by decide +kernel
theorem dX1_passHour_67 : decode cX1_passHour 67 = .ok (.aload_n 0, 1) := by decide +kernel
theorem dX1_passHour_68 : decode cX1_passHour 68 = .ok (.iload_n 1, 1) := by decide +kernel
theorem dX1_passHour_69 : decode cX1_passHour 69 = .ok (.aload_n 0, 1) := by decide +kernel
theorem dX1_passHour_70 : decode cX1_passHour 70 = .ok (.getfield 31, 3) := by decide +kernel
theorem dX1_passHour_73 : decode cX1_passHour 73 = .ok (.iload_n 1, 1) := by decide +kernel
theorem dX1_passHour_74 : decode cX1_passHour 74 = .ok (.iaload, 1) := by decide +kernel
theorem dX1_passHour_75 : decode cX1_passHour 75 = .ok (.aload_n 0, 1) := by decide +kernel
theorem dX1_passHour_76 : decode cX1_passHour 76 = .ok (.getfield 40, 3) := by decide +kernel
theorem dX1_passHour_79 : decode cX1_passHour 79 = .ok (.iload_n 1, 1) := by decide +kernel
theorem dX1_passHour_80 : decode cX1_passHour 80 = .ok (.iaload, 1) := by decide +kernel
theorem dX1_passHour_81 : decode cX1_passHour 81 = .ok (.iload_n 2, 1) := by decide +kernel
theorem dX1_passHour_82 : decode cX1_passHour 82 = .ok (.invokevirtual 115, 3) := by decide +kernel
theorem dX1_passHour_85 : decode cX1_passHour 85 = .ok (.iastore, 1) := by decide +kernel
theorem dX1_passHour_86 : decode cX1_passHour 86 = .ok (.aload_n 0, 1) := by decide +kernel
theorem dX1_passHour_87 : decode cX1_passHour 87 = .ok (.getfield 34, 3) := by decide +kernel
theorem dX1_passHour_90 : decode cX1_passHour 90 = .ok (.iload_n 1, 1) := by decide +kernel
theorem dX1_passHour_91 : decode cX1_passHour 91 = .ok (.aload_n 0, 1) := by decide +kernel
theorem dX1_passHour_92 : decode cX1_passHour 92 = .ok (.iload_n 1, 1) := by decide +kernel
theorem dX1_passHour_93 : decode cX1_passHour 93 = .ok (.aload_n 0, 1) := by decide +kernel
theorem dX1_passHour_94 : decode cX1_passHour 94 = .ok (.getfield 34, 3) := by decide +kernel
theorem dX1_passHour_97 : decode cX1_passHour 97 = .ok (.iload_n 1, 1) := by decide +kernel
theorem dX1_passHour_98 : decode cX1_passHour 98 = .ok (.iaload, 1) := by decide +kernel
theorem dX1_passHour_99 : decode cX1_passHour 99 = .ok (.aload_n 0, 1) := by decide +kernel
theorem dX1_passHour_100 : decode cX1_passHour 100 = .ok (.getfield 43, 3) := by decide +kernel
theorem dX1_passHour_103 : decode cX1_passHour 103 = .ok (.iload_n 1, 1) := by decide +kernel
theorem dX1_passHour_104 : decode cX1_passHour 104 = .ok (.iaload, 1) := by decide +kernel
theorem dX1_passHour_105 : decode cX1_passHour 105 = .ok (.iload_n 2, 1) := by decide +kernel
theorem dX1_passHour_106 : decode cX1_passHour 106 = .ok (.invokevirtual 115, 3) := by decide +kernel
theorem dX1_passHour_109 : decode cX1_passHour 109 = .ok (.iastore, 1) := by decide +kernel
theorem dX1_passHour_110 : decode cX1_passHour 110 = .ok (.aload_n 0, 1) := by decide +kernel
theorem dX1_passHour_111 : decode cX1_passHour 111 = .ok (.iload_n 1, 1) := by decide +kernel
theorem dX1_passHour_112 : decode cX1_passHour 112 = .ok (.aload_n 0, 1) := by decide +kernel
theorem dX1_passHour_113 : decode cX1_passHour 113 = .ok (.getfield 40, 3) := by decide +kernel
theorem dX1_passHour_116 : decode cX1_passHour 116 = .ok (.iload_n 1, 1) := by decide +kernel
theorem dX1_passHour_117 : decode cX1_passHour 117 = .ok (.iaload, 1) := by decide +kernel
theorem dX1_passHour_118 : decode cX1_passHour 118 = .ok (.invokevirtual 118, 3) := by decide +kernel
theorem dX1_passHour_121 : decode cX1_passHour 121 = .ok (.aload_n 0, 1) := by decide +kernel
theorem dX1_passHour_122 : decode cX1_passHour 122 = .ok (.iload_n 1, 1) := by decide +kernel
theorem dX1_passHour_123 : decode cX1_passHour 123 = .ok (.aload_n 0, 1) := by decide +kernel
theorem dX1_passHour_124 : decode cX1_passHour 124 = .ok (.getfield 43, 3) := by decide +kernel
theorem dX1_passHour_127 : decode cX1_passHour 127 = .ok (.iload_n 1, 1) := by decide +kernel
theorem dX1_passHour_128 : decode cX1_passHour 128 = .ok (.iaload, 1) := by decide +kernel
theorem dX1_passHour_129 : decode cX1_passHour 129 = .ok (.invokevirtual 118, 3) := by decide +kernel
theorem dX1_passHour_132 : decode cX1_passHour 132 = .ok (.iinc 1 1, 3) := by decide +kernel
theorem dX1_passHour_135 : decode cX1_passHour 135 = .ok (.goto (-95), 3) := by decide +kernel
theorem dX1_passHour_138 : decode cX1_passHour 138 = .ok (.aload_n 0, 1) := by decide +kernel
theorem dX1_passHour_139 : decode cX1_passHour 139 = .ok (.dup, 1) := by decide +kernel
theorem dX1_passHour_140 : decode cX1_passHour 140 = .ok (.getfield 9, 3) := by decide +kernel
theorem dX1_passHour_143 : decode cX1_passHour 143 = .ok (.iconst 1, 1) := by decide +kernel
theorem dX1_passHour_144 : decode cX1_passHour 144 = .ok (.iadd, 1) := by decide +kernel
theorem dX1_passHour_145 : decode cX1_passHour 145 = .ok (.putfield 9, 3) := by decide +kernel
theorem dX1_passHour_148 : decode cX1_passHour 148 = .ok (.return_, 1) := by decide +kernel
theorem dX1_browned_0 : decode cX1_browned 0 = .ok (.iload_n 2, 1) := by decide +kernel
theorem dX1_browned_1 : decode cX1_browned 1 = .ok (.aload_n 0, 1) := by decide +kernel
theorem dX1_browned_2 : decode cX1_browned 2 = .ok (.getfield 25, 3) := by decide +kernel
theorem dX1_browned_5 : decode cX1_browned 5 = .ok (.iload_n 1, 1) := by decide +kernel
theorem dX1_browned_6 : decode cX1_browned 6 = .ok (.iaload, 1) := by decide +kernel
theorem dX1_browned_7 : decode cX1_browned 7 = .ok (.iload_n 3, 1) := by decide +kernel
theorem dX1_browned_8 : decode cX1_browned 8 = .ok (.invokestatic 121, 3) := by decide +kernel
theorem dX1_browned_11 : decode cX1_browned 11 = .ok (.iadd, 1) := by decide +kernel
theorem dX1_browned_12 : decode cX1_browned 12 = .ok (.iload 4, 2) := by decide +kernel
theorem dX1_browned_14 : decode cX1_browned 14 = .ok (.isub, 1) := by decide +kernel
theorem dX1_browned_15 : decode cX1_browned 15 = .ok (.istore 5, 2) := by decide +kernel
theorem dX1_browned_17 : decode cX1_browned 17 = .ok (.iconst 0, 1) := by decide +kernel
theorem dX1_browned_18 : decode cX1_browned 18 = .ok (.sipush 200, 3) := by decide +kernel
theorem dX1_browned_21 : decode cX1_browned 21 = .ok (.iload 5, 2) := by decide +kernel
theorem dX1_browned_23 : decode cX1_browned 23 = .ok (.invokestatic 124, 3) := by decide +kernel
theorem dX1_browned_26 : decode cX1_browned 26 = .ok (.invokestatic 127, 3) := by decide +kernel
theorem dX1_browned_29 : decode cX1_browned 29 = .ok (.ireturn, 1) := by decide +kernel
theorem dX1_burn_0 : decode cX1_burn 0 = .ok (.iload_n 2, 1) := by decide +kernel
theorem dX1_burn_1 : decode cX1_burn 1 = .ok (.aload_n 0, 1) := by decide +kernel
theorem dX1_burn_2 : decode cX1_burn 2 = .ok (.getfield 25, 3) := by decide +kernel
theorem dX1_burn_5 : decode cX1_burn 5 = .ok (.iload_n 1, 1) := by decide +kernel
theorem dX1_burn_6 : decode cX1_burn 6 = .ok (.iaload, 1) := by decide +kernel
theorem dX1_burn_7 : decode cX1_burn 7 = .ok (.invokestatic 130, 3) := by decide +kernel
theorem dX1_burn_10 : decode cX1_burn 10 = .ok (.if_icmp .lt 25, 3) := by decide +kernel
theorem dX1_burn_13 : decode cX1_burn 13 = .ok (.aload_n 0, 1) := by decide +kernel
theorem dX1_burn_14 : decode cX1_burn 14 = .ok (.getfield 37, 3) := by decide +kernel
theorem dX1_burn_17 : decode cX1_burn 17 = .ok (.iload_n 1, 1) := by decide +kernel
theorem dX1_burn_18 : decode cX1_burn 18 = .ok (.iaload, 1) := by decide +kernel
theorem dX1_burn_19 : decode cX1_burn 19 = .ok (.sipush 9999, 3) := by decide +kernel
theorem dX1_burn_22 : decode cX1_burn 22 = .ok (.if_icmp .ge 13, 3) := by decide +kernel
theorem dX1_burn_25 : decode cX1_burn 25 = .ok (.aload_n 0, 1) := by decide +kernel
theorem dX1_burn_26 : decode cX1_burn 26 = .ok (.getfield 37, 3) := by decide +kernel
theorem dX1_burn_29 : decode cX1_burn 29 = .ok (.iload_n 1, 1) := by decide +kernel
theorem dX1_burn_30 : decode cX1_burn 30 = .ok (.dup2, 1) := by decide +kernel
theorem dX1_burn_31 : decode cX1_burn 31 = .ok (.iaload, 1) := by decide +kernel
theorem dX1_burn_32 : decode cX1_burn 32 = .ok (.iconst 1, 1) := by decide +kernel
theorem dX1_burn_33 : decode cX1_burn 33 = .ok (.iadd, 1) := by decide +kernel
theorem dX1_burn_34 : decode cX1_burn 34 = .ok (.iastore, 1) := by decide +kernel
theorem dX1_burn_35 : decode cX1_burn 35 = .ok (.return_, 1) := by decide +kernel
theorem dX2_init_0 : decode cX2_init 0 = .ok (.aload_n 0, 1) := by decide +kernel
theorem dX2_init_1 : decode cX2_init 1 = .ok (.invokespecial 3, 3) := by decide +kernel
theorem dX2_init_4 : decode cX2_init 4 = .ok (.aload_n 0, 1) := by decide +kernel
theorem dX2_init_5 : decode cX2_init 5 = .ok (.iconst 0, 1) := by decide +kernel
theorem dX2_init_6 : decode cX2_init 6 = .ok (.putfield 9, 3) := by decide +kernel
theorem dX2_init_9 : decode cX2_init 9 = .ok (.aload_n 0, 1) := by decide +kernel
theorem dX2_init_10 : decode cX2_init 10 = .ok (.bipush 120, 2) := by decide +kernel
theorem dX2_init_12 : decode cX2_init 12 = .ok (.newarray .int, 2) := by decide +kernel
theorem dX2_init_14 : decode cX2_init 14 = .ok (.putfield 15, 3) := by decide +kernel
theorem dX2_init_17 : decode cX2_init 17 = .ok (.aload_n 0, 1) := by decide +kernel
theorem dX2_init_18 : decode cX2_init 18 = .ok (.iconst 0, 1) := by decide +kernel
theorem dX2_init_19 : decode cX2_init 19 = .ok (.putfield 19, 3) := by decide +kernel
theorem dX2_init_22 : decode cX2_init 22 = .ok (.aload_n 0, 1) := by decide +kernel
theorem dX2_init_23 : decode cX2_init 23 = .ok (.iconst 0, 1) := by decide +kernel
theorem dX2_init_24 : decode cX2_init 24 = .ok (.putfield 22, 3) := by decide +kernel
theorem dX2_init_27 : decode cX2_init 27 = .ok (.aload_n 0, 1) := by decide +kernel
theorem dX2_init_28 : decode cX2_init 28 = .ok (.iconst 0, 1) := by decide +kernel
theorem dX2_init_29 : decode cX2_init 29 = .ok (.putfield 25, 3) := by decide +kernel
theorem dX2_init_32 : decode cX2_init 32 = .ok (.aload_n 0, 1) := by decide +kernel
theorem dX2_init_33 : decode cX2_init 33 = .ok (.iconst 0, 1) := by decide +kernel
theorem dX2_init_34 : decode cX2_init 34 = .ok (.putfield 28, 3) := by decide +kernel
theorem dX2_init_37 : decode cX2_init 37 = .ok (.return_, 1) := by decide +kernel
theorem dX2_append_0 : decode cX2_append 0 = .ok (.aload_n 0, 1) := by decide +kernel
theorem dX2_append_1 : decode cX2_append 1 = .ok (.getfield 9, 3) := by decide +kernel
theorem dX2_append_4 : decode cX2_append 4 = .ok (.bipush 120, 2) := by decide +kernel
theorem dX2_append_6 : decode cX2_append 6 = .ok (.if_icmp .ge 23, 3) := by decide +kernel
theorem dX2_append_9 : decode cX2_append 9 = .ok (.aload_n 0, 1) := by decide +kernel
theorem dX2_append_10 : decode cX2_append 10 = .ok (.getfield 15, 3) := by decide +kernel
theorem dX2_append_13 : decode cX2_append 13 = .ok (.aload_n 0, 1) := by decide +kernel
theorem dX2_append_14 : decode cX2_append 14 = .ok (.getfield 9, 3) := by decide +kernel
theorem dX2_append_17 : decode cX2_append 17 = .ok (.iload_n 1, 1) := by decide +kernel
theorem dX2_append_18 : decode cX2_append 18 = .ok (.iastore, 1) := by decide +kernel
theorem dX2_append_19 : decode cX2_append 19 = .ok (.aload_n 0, 1) := by decide +kernel
theorem dX2_append_20 : decode cX2_append 20 = .ok (.dup, 1) := by decide +kernel
theorem dX2_append_21 : decode cX2_append 21 = .ok (.getfield 9, 3) := by decide +kernel
theorem dX2_append_24 : decode cX2_append 24 = .ok (.iconst 1, 1) := by decide +kernel
theorem dX2_append_25 : decode cX2_append 25 = .ok (.iadd, 1) := by decide +kernel
theorem dX2_append_26 : decode cX2_append 26 = .ok (.putfield 9, 3) := by decide +kernel
theorem dX2_append_29 : decode cX2_append 29 = .ok (.return_, 1) := by decide +kernel
theorem dX2_readAll_0 : decode cX2_readAll 0 = .ok (.aload_n 0, 1) := by decide +kernel
theorem dX2_readAll_1 : decode cX2_readAll 1 = .ok (.iconst 0, 1) := by decide +kernel
theorem dX2_readAll_2 : decode cX2_readAll 2 = .ok (.putfield 25, 3) := by decide +kernel
theorem dX2_readAll_5 : decode cX2_readAll 5 = .ok (.aload_n 0, 1) := by decide +kernel
theorem dX2_readAll_6 : decode cX2_readAll 6 = .ok (.invokevirtual 31, 3) := by decide +kernel
theorem dX2_readAll_9 : decode cX2_readAll 9 = .ok (.iconst 1, 1) := by decide +kernel
theorem dX2_readAll_10 : decode cX2_readAll 10 = .ok (.istore_n 2, 1) := by decide +kernel
theorem dX2_readAll_11 : decode cX2_readAll 11 = .ok (.iload_n 2, 1) := by decide +kernel
theorem dX2_readAll_12 : decode cX2_readAll 12 = .ok (.bipush 120, 2) := by decide +kernel
theorem dX2_readAll_14 : decode cX2_readAll 14 = .ok (.if_icmp .gt 52, 3) := by decide +kernel
theorem dX2_readAll_17 : decode cX2_readAll 17 = .ok (.aload_n 0, 1) := by decide +kernel
theorem dX2_readAll_18 : decode cX2_readAll 18 = .ok (.aload_n 1, 1) := by decide +kernel
theorem dX2_readAll_19 : decode cX2_readAll 19 = .ok (.invokevirtual 34, 3) := by decide +kernel
theorem dX2_readAll_22 : decode cX2_readAll 22 = .ok (.ifCond .ne 10, 3) := by decide +kernel
theorem dX2_readAll_25 : decode cX2_readAll 25 = .ok (.iconst (-1), 1) := by decide +kernel
theorem dX2_readAll_26 : decode cX2_readAll 26 = .ok (.aload_n 0, 1) := by decide +kernel
theorem dX2_readAll_27 : decode cX2_readAll 27 = .ok (.getfield 22, 3) := by decide +kernel
theorem dX2_readAll_30 : decode cX2_readAll 30 = .ok (.isub, 1) := by decide +kernel
theorem dX2_readAll_31 : decode cX2_readAll 31 = .ok (.ireturn, 1) := by decide +kernel
theorem dX2_readAll_32 : decode cX2_readAll 32 = .ok (.aload_n 0, 1) := by decide +kernel
theorem dX2_readAll_33 : decode cX2_readAll 33 = .ok (.getfield 19, 3) := by decide +kernel
theorem dX2_readAll_36 : decode cX2_readAll 36 = .ok (.ifCond .ne 5, 3) := by decide +kernel
theorem dX2_readAll_39 : decode cX2_readAll 39 = .ok (.iload_n 2, 1) := by decide +kernel
theorem dX2_readAll_40 : decode cX2_readAll 40 = .ok (.ireturn, 1) := by decide +kernel
theorem dX2_readAll_41 : decode cX2_readAll 41 = .ok (.aload_n 0, 1) := by decide +kernel
theorem dX2_readAll_42 : decode cX2_readAll 42 = .ok (.getfield 19, 3) := by decide +kernel
theorem dX2_readAll_45 : decode cX2_readAll 45 = .ok (.iconst 3, 1) := by decide +kernel
theorem dX2_readAll_46 : decode cX2_readAll 46 = .ok (.if_icmp .eq 10, 3) := by decide +kernel
theorem dX2_readAll_49 : decode cX2_readAll 49 = .ok (.iconst (-1), 1) := by decide +kernel
theorem dX2_readAll_50 : decode cX2_readAll 50 = .ok (.aload_n 0, 1) := by decide +kernel
theorem dX2_readAll_51 : decode cX2_readAll 51 = .ok (.getfield 22, 3) := by decide +kernel
theorem dX2_readAll_54 : decode cX2_readAll 54 = .ok (.isub, 1) := by decide +kernel
theorem dX2_readAll_55 : decode cX2_readAll 55 = .ok (.ireturn, 1) := by decide +kernel
theorem dX2_readAll_56 : decode cX2_readAll 56 = .ok (.aload_n 0, 1) := by decide +kernel
theorem dX2_readAll_57 : decode cX2_readAll 57 = .ok (.invokevirtual 31, 3) := by decide +kernel
theorem dX2_readAll_60 : decode cX2_readAll 60 = .ok (.iinc 2 1, 3) := by decide +kernel
theorem dX2_readAll_63 : decode cX2_readAll 63 = .ok (.goto (-52), 3) := by decide +kernel
theorem dX2_readAll_66 : decode cX2_readAll 66 = .ok (.iconst (-1), 1) := by decide +kernel
theorem dX2_readAll_67 : decode cX2_readAll 67 = .ok (.aload_n 0, 1) := by decide +kernel
theorem dX2_readAll_68 : decode cX2_readAll 68 = .ok (.getfield 22, 3) := by decide +kernel
theorem dX2_readAll_71 : decode cX2_readAll 71 = .ok (.isub, 1) := by decide +kernel
theorem dX2_readAll_72 : decode cX2_readAll 72 = .ok (.ireturn, 1) := by decide +kernel
theorem dX2_readItem_0 : decode cX2_readItem 0 = .ok (.aload_n 0, 1) := by decide +kernel
theorem dX2_readItem_1 : decode cX2_readItem 1 = .ok (.ldc 38, 2) := by decide +kernel
theorem dX2_readItem_3 : decode cX2_readItem 3 = .ok (.invokevirtual 40, 3) := by decide +kernel
theorem dX2_readItem_6 : decode cX2_readItem 6 = .ok (.ifCond .eq 9, 3) := by decide +kernel
theorem dX2_readItem_9 : decode cX2_readItem 9 = .ok (.aload_n 0, 1) := by decide +kernel
theorem dX2_readItem_10 : decode cX2_readItem 10 = .ok (.aload_n 1, 1) := by decide +kernel
theorem dX2_readItem_11 : decode cX2_readItem 11 = .ok (.invokevirtual 44, 3) := by decide +kernel
theorem dX2_readItem_14 : decode cX2_readItem 14 = .ok (.ireturn, 1) := by decide +kernel
theorem dX2_readItem_15 : decode cX2_readItem 15 = .ok (.aload_n 0, 1) := by decide +kernel
theorem dX2_readItem_16 : decode cX2_readItem 16 = .ok (.ldc 47, 2) := by decide +kernel
theorem dX2_readItem_18 : decode cX2_readItem 18 = .ok (.invokevirtual 40, 3) := by decide +kernel
theorem dX2_readItem_21 : decode cX2_readItem 21 = .ok (.ifCond .eq 9, 3) := by decide +kernel
theorem dX2_readItem_24 : decode cX2_readItem 24 = .ok (.aload_n 0, 1) := by decide +kernel
theorem dX2_readItem_25 : decode cX2_readItem 25 = .ok (.aload_n 1, 1) := by decide +kernel
theorem dX2_readItem_26 : decode cX2_readItem 26 = .ok (.invokevirtual 49, 3) := by decide +kernel
theorem dX2_readItem_29 : decode cX2_readItem 29 = .ok (.ireturn, 1) := by decide +kernel
theorem dX2_readItem_30 : decode cX2_readItem 30 = .ok (.aload_n 0, 1) := by decide +kernel
theorem dX2_readItem_31 : decode cX2_readItem 31 = .ok (.invokevirtual 52, 3) := by decide +kernel
theorem dX2_readItem_34 : decode cX2_readItem 34 = .ok (.istore_n 2, 1) := by decide +kernel
theorem dX2_readItem_35 : decode cX2_readItem 35 = .ok (.iload_n 2, 1) := by decide +kernel
theorem dX2_readItem_36 : decode cX2_readItem 36 = .ok (.ifCond .lt 12, 3) := by decide +kernel
theorem dX2_readItem_39 : decode cX2_readItem 39 = .ok (.aload_n 1, 1) := by decide +kernel
theorem dX2_readItem_40 : decode cX2_readItem 40 = .ok (.getfield 56, 3) := by decide +kernel
theorem dX2_readItem_43 : decode cX2_readItem 43 = .ok (.bipush 8, 2) := by decide +kernel
theorem dX2_readItem_45 : decode cX2_readItem 45 = .ok (.if_icmp .lt 5, 3) := by decide +kernel
theorem dX2_readItem_48 : decode cX2_readItem 48 = .ok (.iconst 0, 1) := by decide +kernel
theorem dX2_readItem_49 : decode cX2_readItem 49 = .ok (.ireturn, 1) := by decide +kernel
theorem dX2_readItem_50 : decode cX2_readItem 50 = .ok (.aload_n 0, 1) := by decide +kernel
theorem dX2_readItem_51 : decode cX2_readItem 51 = .ok (.invokevirtual 31, 3) := by decide +kernel
theorem dX2_readItem_54 : decode cX2_readItem 54 = .ok (.aload_n 0, 1) := by decide +kernel
theorem dX2_readItem_55 : decode cX2_readItem 55 = .ok (.aload_n 1, 1) := by decide +kernel
theorem dX2_readItem_56 : decode cX2_readItem 56 = .ok (.iload_n 2, 1) := by decide +kernel
theorem dX2_readItem_57 : decode cX2_readItem 57 = .ok (.invokevirtual 61, 3) := by decide +kernel
theorem dX2_readItem_60 : decode cX2_readItem 60 = .ok (.ireturn, 1) := by decide +kernel
theorem dX2_readPerson_0 : decode cX2_readPerson 0 = .ok (.bipush 20, 2) := by decide +kernel
theorem dX2_readPerson_2 : decode cX2_readPerson 2 = .ok (.istore_n 3, 1) := by decide +kernel
theorem dX2_readPerson_3 : decode cX2_readPerson 3 = .ok (.aload_n 0, 1) := by decide +kernel
theorem dX2_readPerson_4 : decode cX2_readPerson 4 = .ok (.ldc 65, 2) := by decide +kernel
theorem dX2_readPerson_6 : decode cX2_readPerson 6 = .ok (.invokevirtual 40, 3) := by decide +kernel
theorem dX2_readPerson_9 : decode cX2_readPerson 9 = .ok (.ifCond .eq 28, 3) := by decide +kernel
theorem dX2_readPerson_12 : decode cX2_readPerson 12 = .ok (.aload_n 0, 1) := by decide +kernel
theorem dX2_readPerson_13 : decode cX2_readPerson 13 = .ok (.invokevirtual 31, 3) := by decide +kernel
theorem dX2_readPerson_16 : decode cX2_readPerson 16 = .ok (.aload_n 0, 1) := by decide +kernel
theorem dX2_readPerson_17 : decode cX2_readPerson 17 = .ok (.sipush 200, 3) := by decide +kernel
theorem dX2_readPerson_20 : decode cX2_readPerson 20 = .ok (.invokevirtual 67, 3) := by decide +kernel
theorem dX2_readPerson_23 : decode cX2_readPerson 23 = .ok (.ifCond .ne 5, 3) := by decide +kernel
theorem dX2_readPerson_26 : decode cX2_readPerson 26 = .ok (.iconst 0, 1) := by decide +kernel
theorem dX2_readPerson_27 : decode cX2_readPerson 27 = .ok (.ireturn, 1) := by decide +kernel
theorem dX2_readPerson_28 : decode cX2_readPerson 28 = .ok (.aload_n 0, 1) := by decide +kernel
theorem dX2_readPerson_29 : decode cX2_readPerson 29 = .ok (.getfield 28, 3) := by decide +kernel
theorem dX2_readPerson_32 : decode cX2_readPerson 32 = .ok (.istore_n 3, 1) := by decide +kernel
theorem dX2_readPerson_33 : decode cX2_readPerson 33 = .ok (.aload_n 0, 1) := by decide +kernel
theorem dX2_readPerson_34 : decode cX2_readPerson 34 = .ok (.invokevirtual 31, 3) := by decide +kernel
theorem dX2_readPerson_37 : decode cX2_readPerson 37 = .ok (.aload_n 1, 1) := by decide +kernel
theorem dX2_readPerson_38 : decode cX2_readPerson 38 = .ok (.iload_n 2, 1) := by decide +kernel
theorem dX2_readPerson_39 : decode cX2_readPerson 39 = .ok (.iload_n 3, 1) := by decide +kernel
theorem dX2_readPerson_40 : decode cX2_readPerson 40 = .ok (.invokevirtual 71, 3) := by decide +kernel
theorem dX2_readPerson_43 : decode cX2_readPerson 43 = .ok (.istore 4, 2) := by decide +kernel
theorem dX2_readPerson_45 : decode cX2_readPerson 45 = .ok (.aload_n 0, 1) := by decide +kernel
theorem dX2_readPerson_46 : decode cX2_readPerson 46 = .ok (.ldc 75, 2) := by decide +kernel
theorem dX2_readPerson_48 : decode cX2_readPerson 48 = .ok (.invokevirtual 40, 3) := by decide +kernel
theorem dX2_readPerson_51 : decode cX2_readPerson 51 = .ok (.ifCond .eq 45, 3) := by decide +kernel
theorem dX2_readPerson_54 : decode cX2_readPerson 54 = .ok (.aload_n 0, 1) := by decide +kernel
theorem dX2_readPerson_55 : decode cX2_readPerson 55 = .ok (.invokevirtual 31, 3) := by decide +kernel
theorem dX2_readPerson_58 : decode cX2_readPerson 58 = .ok (.aload_n 0, 1) := by decide +kernel
theorem dX2_readPerson_59 : decode cX2_readPerson 59 = .ok (.bipush 9, 2) := by decide +kernel
theorem dX2_readPerson_61 : decode cX2_readPerson 61 = .ok (.invokevirtual 67, 3) := by decide +kernel
theorem dX2_readPerson_64 : decode cX2_readPerson 64 = .ok (.ifCond .eq 16, 3) := by decide +kernel
theorem dX2_readPerson_67 : decode cX2_readPerson 67 = .ok (.aload_n 1, 1) := by decide +kernel
theorem dX2_readPerson_68 : decode cX2_readPerson 68 = .ok (.iload 4, 2) := by decide +kernel
theorem dX2_readPerson_70 : decode cX2_readPerson 70 = .ok (.aload_n 0, 1) := by decide +kernel
theorem dX2_readPerson_71 : decode cX2_readPerson 71 = .ok (.getfield 28, 3) := by decide +kernel
theorem dX2_readPerson_74 : decode cX2_readPerson 74 = .ok (.invokevirtual 77, 3) := by decide +kernel
theorem dX2_readPerson_77 : decode cX2_readPerson 77 = .ok (.ifCond .ne 5, 3) := by decide +kernel
theorem dX2_readPerson_80 : decode cX2_readPerson 80 = .ok (.iconst 0, 1) := by decide +kernel
theorem dX2_readPerson_81 : decode cX2_readPerson 81 = .ok (.ireturn, 1) := by decide +kernel
theorem dX2_readPerson_82 : decode cX2_readPerson 82 = .ok (.aload_n 1, 1) := by decide +kernel
theorem dX2_readPerson_83 : decode cX2_readPerson 83 = .ok (.iload 4, 2) := by decide +kernel
theorem dX2_readPerson_85 : decode cX2_readPerson 85 = .ok (.aload_n 0, 1) := by decide +kernel
theorem dX2_readPerson_86 : decode cX2_readPerson 86 = .ok (.getfield 28, 3) := by decide +kernel
theorem dX2_readPerson_89 : decode cX2_readPerson 89 = .ok (.invokevirtual 81, 3) := by decide +kernel
theorem dX2_readPerson_92 : decode cX2_readPerson 92 = .ok (.aload_n 0, 1) := by decide +kernel
theorem dX2_readPerson_93 : decode cX2_readPerson 93 = .ok (.invokevirtual 31, 3) := by decide +kernel
theorem dX2_readPerson_96 : decode cX2_readPerson 96 = .ok (.iconst 1, 1) := by decide +kernel
theorem dX2_readPerson_97 : decode cX2_readPerson 97 = .ok (.ireturn, 1) := by decide +kernel
theorem dX2_readSun_0 : decode cX2_readSun 0 = .ok (.aload_n 0, 1) := by decide +kernel
theorem dX2_readSun_1 : decode cX2_readSun 1 = .ok (.invokevirtual 31, 3) := by decide +kernel
theorem dX2_readSun_4 : decode cX2_readSun 4 = .ok (.aload_n 0, 1) := by decide +kernel
theorem dX2_readSun_5 : decode cX2_readSun 5 = .ok (.bipush 9, 2) := by decide +kernel
theorem dX2_readSun_7 : decode cX2_readSun 7 = .ok (.invokevirtual 67, 3) := by decide +kernel
theorem dX2_readSun_10 : decode cX2_readSun 10 = .ok (.ifCond .ne 5, 3) := by decide +kernel
theorem dX2_readSun_13 : decode cX2_readSun 13 = .ok (.iconst 0, 1) := by decide +kernel
theorem dX2_readSun_14 : decode cX2_readSun 14 = .ok (.ireturn, 1) := by decide +kernel
theorem dX2_readSun_15 : decode cX2_readSun 15 = .ok (.aload_n 0, 1) := by decide +kernel
theorem dX2_readSun_16 : decode cX2_readSun 16 = .ok (.getfield 28, 3) := by decide +kernel
theorem dX2_readSun_19 : decode cX2_readSun 19 = .ok (.istore_n 2, 1) := by decide +kernel
theorem dX2_readSun_20 : decode cX2_readSun 20 = .ok (.aload_n 0, 1) := by decide +kernel
theorem dX2_readSun_21 : decode cX2_readSun 21 = .ok (.invokevirtual 31, 3) := by decide +kernel
theorem dX2_readSun_24 : decode cX2_readSun 24 = .ok (.aload_n 0, 1) := by decide +kernel
theorem dX2_readSun_25 : decode cX2_readSun 25 = .ok (.bipush 9, 2) := by decide +kernel
theorem dX2_readSun_27 : decode cX2_readSun 27 = .ok (.invokevirtual 67, 3) := by decide +kernel
theorem dX2_readSun_30 : decode cX2_readSun 30 = .ok (.ifCond .ne 5, 3) := by decide +kernel
theorem dX2_readSun_33 : decode cX2_readSun 33 = .ok (.iconst 0, 1) := by decide +kernel
theorem dX2_readSun_34 : decode cX2_readSun 34 = .ok (.ireturn, 1) := by decide +kernel
theorem dX2_readSun_35 : decode cX2_readSun 35 = .ok (.aload_n 1, 1) := by decide +kernel
theorem dX2_readSun_36 : decode cX2_readSun 36 = .ok (.getfield 85, 3) := by decide +kernel
theorem dX2_readSun_39 : decode cX2_readSun 39 = .ok (.iload_n 2, 1) := by decide +kernel
theorem dX2_readSun_40 : decode cX2_readSun 40 = .ok (.aload_n 0, 1) := by decide +kernel
theorem dX2_readSun_41 : decode cX2_readSun 41 = .ok (.getfield 28, 3) := by decide +kernel
theorem dX2_readSun_44 : decode cX2_readSun 44 = .ok (.iastore, 1) := by decide +kernel
theorem dX2_readSun_45 : decode cX2_readSun 45 = .ok (.aload_n 0, 1) := by decide +kernel
theorem dX2_readSun_46 : decode cX2_readSun 46 = .ok (.invokevirtual 31, 3) := by decide +kernel
theorem dX2_readSun_49 : decode cX2_readSun 49 = .ok (.iconst 1, 1) := by decide +kernel
theorem dX2_readSun_50 : decode cX2_readSun 50 = .ok (.ireturn, 1) := by decide +kernel
theorem dX2_readGoes_0 : decode cX2_readGoes 0 = .ok (.aload_n 0, 1) := by decide +kernel
theorem dX2_readGoes_1 : decode cX2_readGoes 1 = .ok (.invokevirtual 31, 3) := by decide +kernel
theorem dX2_readGoes_4 : decode cX2_readGoes 4 = .ok (.aload_n 0, 1) := by decide +kernel
theorem dX2_readGoes_5 : decode cX2_readGoes 5 = .ok (.aload_n 1, 1) := by decide +kernel
theorem dX2_readGoes_6 : decode cX2_readGoes 6 = .ok (.getfield 56, 3) := by decide +kernel
theorem dX2_readGoes_9 : decode cX2_readGoes 9 = .ok (.iconst 1, 1) := by decide +kernel
theorem dX2_readGoes_10 : decode cX2_readGoes 10 = .ok (.isub, 1) := by decide +kernel
theorem dX2_readGoes_11 : decode cX2_readGoes 11 = .ok (.invokevirtual 67, 3) := by decide +kernel
theorem dX2_readGoes_14 : decode cX2_readGoes 14 = .ok (.ifCond .ne 5, 3) := by decide +kernel
theorem dX2_readGoes_17 : decode cX2_readGoes 17 = .ok (.iconst 0, 1) := by decide +kernel
theorem dX2_readGoes_18 : decode cX2_readGoes 18 = .ok (.ireturn, 1) := by decide +kernel
theorem dX2_readGoes_19 : decode cX2_readGoes 19 = .ok (.aload_n 1, 1) := by decide +kernel
theorem dX2_readGoes_20 : decode cX2_readGoes 20 = .ok (.aload_n 0, 1) := by decide +kernel
theorem dX2_readGoes_21 : decode cX2_readGoes 21 = .ok (.getfield 28, 3) := by decide +kernel
theorem dX2_readGoes_24 : decode cX2_readGoes 24 = .ok (.iconst (-1), 1) := by decide +kernel
theorem dX2_readGoes_25 : decode cX2_readGoes 25 = .ok (.invokevirtual 81, 3) := by decide +kernel
theorem dX2_readGoes_28 : decode cX2_readGoes 28 = .ok (.aload_n 0, 1) := by decide +kernel
theorem dX2_readGoes_29 : decode cX2_readGoes 29 = .ok (.invokevirtual 31, 3) := by decide +kernel
theorem dX2_readGoes_32 : decode cX2_readGoes 32 = .ok (.iconst 1, 1) := by decide +kernel
theorem dX2_readGoes_33 : decode cX2_readGoes 33 = .ok (.ireturn, 1) := by decide +kernel
theorem dX2_isNumberTo_0 : decode cX2_isNumberTo 0 = .ok (.aload_n 0, 1) := by decide +kernel
theorem dX2_isNumberTo_1 : decode cX2_isNumberTo 1 = .ok (.getfield 19, 3) := by decide +kernel
theorem dX2_isNumberTo_4 : decode cX2_isNumberTo 4 = .ok (.iconst 2, 1) := by decide +kernel
theorem dX2_isNumberTo_5 : decode cX2_isNumberTo 5 = .ok (.if_icmp .ne 15, 3) := by decide +kernel
theorem dX2_isNumberTo_8 : decode cX2_isNumberTo 8 = .ok (.aload_n 0, 1) := by decide +kernel
theorem dX2_isNumberTo_9 : decode cX2_isNumberTo 9 = .ok (.getfield 28, 3) := by decide +kernel
theorem dX2_isNumberTo_12 : decode cX2_isNumberTo 12 = .ok (.iload_n 1, 1) := by decide +kernel
theorem dX2_isNumberTo_13 : decode cX2_isNumberTo 13 = .ok (.if_icmp .gt 7, 3) := by decide +kernel
theorem dX2_isNumberTo_16 : decode cX2_isNumberTo 16 = .ok (.iconst 1, 1) := by decide +kernel
theorem dX2_isNumberTo_17 : decode cX2_isNumberTo 17 = .ok (.goto 4, 3) := by decide +kernel
theorem dX2_isNumberTo_20 : decode cX2_isNumberTo 20 = .ok (.iconst 0, 1) := by decide +kernel
theorem dX2_isNumberTo_21 : decode cX2_isNumberTo 21 = .ok (.ireturn, 1) := by decide +kernel
theorem dX2_isWord_0 : decode cX2_isWord 0 = .ok (.aload_n 0, 1) := by decide +kernel
theorem dX2_isWord_1 : decode cX2_isWord 1 = .ok (.getfield 19, 3) := by decide +kernel
theorem dX2_isWord_4 : decode cX2_isWord 4 = .ok (.iconst 1, 1) := by decide +kernel
theorem dX2_isWord_5 : decode cX2_isWord 5 = .ok (.if_icmp .ne 19, 3) := by decide +kernel
theorem dX2_isWord_8 : decode cX2_isWord 8 = .ok (.aload_n 0, 1) := by decide +kernel
theorem dX2_isWord_9 : decode cX2_isWord 9 = .ok (.getfield 25, 3) := by decide +kernel
theorem dX2_isWord_12 : decode cX2_isWord 12 = .ok (.aload_n 0, 1) := by decide +kernel
theorem dX2_isWord_13 : decode cX2_isWord 13 = .ok (.getfield 22, 3) := by decide +kernel
theorem dX2_isWord_16 : decode cX2_isWord 16 = .ok (.isub, 1) := by decide +kernel
theorem dX2_isWord_17 : decode cX2_isWord 17 = .ok (.aload_n 1, 1) := by decide +kernel
theorem dX2_isWord_18 : decode cX2_isWord 18 = .ok (.invokevirtual 88, 3) := by decide +kernel
theorem dX2_isWord_21 : decode cX2_isWord 21 = .ok (.if_icmp .eq 5, 3) := by decide +kernel
theorem dX2_isWord_24 : decode cX2_isWord 24 = .ok (.iconst 0, 1) := by decide +kernel
theorem dX2_isWord_25 : decode cX2_isWord 25 = .ok (.ireturn, 1) := by decide +kernel
theorem dX2_isWord_26 : decode cX2_isWord 26 = .ok (.iconst 0, 1) := by decide +kernel
theorem dX2_isWord_27 : decode cX2_isWord 27 = .ok (.istore_n 2, 1) := by decide +kernel
theorem dX2_isWord_28 : decode cX2_isWord 28 = .ok (.iload_n 2, 1) := by decide +kernel
theorem dX2_isWord_29 : decode cX2_isWord 29 = .ok (.aload_n 1, 1) := by decide +kernel
theorem dX2_isWord_30 : decode cX2_isWord 30 = .ok (.invokevirtual 88, 3) := by decide +kernel
theorem dX2_isWord_33 : decode cX2_isWord 33 = .ok (.if_icmp .ge 30, 3) := by decide +kernel
theorem dX2_isWord_36 : decode cX2_isWord 36 = .ok (.aload_n 0, 1) := by decide +kernel
theorem dX2_isWord_37 : decode cX2_isWord 37 = .ok (.getfield 15, 3) := by decide +kernel
theorem dX2_isWord_40 : decode cX2_isWord 40 = .ok (.aload_n 0, 1) := by decide +kernel
theorem dX2_isWord_41 : decode cX2_isWord 41 = .ok (.getfield 22, 3) := by decide +kernel
theorem dX2_isWord_44 : decode cX2_isWord 44 = .ok (.iload_n 2, 1) := by decide +kernel
theorem dX2_isWord_45 : decode cX2_isWord 45 = .ok (.iadd, 1) := by decide +kernel
theorem dX2_isWord_46 : decode cX2_isWord 46 = .ok (.iaload, 1) := by decide +kernel
theorem dX2_isWord_47 : decode cX2_isWord 47 = .ok (.aload_n 1, 1) := by decide +kernel
theorem dX2_isWord_48 : decode cX2_isWord 48 = .ok (.iload_n 2, 1) := by decide +kernel
theorem dX2_isWord_49 : decode cX2_isWord 49 = .ok (.invokevirtual 93, 3) := by decide +kernel
theorem dX2_isWord_52 : decode cX2_isWord 52 = .ok (.if_icmp .eq 5, 3) := by decide +kernel
theorem dX2_isWord_55 : decode cX2_isWord 55 = .ok (.iconst 0, 1) := by decide +kernel
theorem dX2_isWord_56 : decode cX2_isWord 56 = .ok (.ireturn, 1) := by decide +kernel
theorem dX2_isWord_57 : decode cX2_isWord 57 = .ok (.iinc 2 1, 3) := by decide +kernel
theorem dX2_isWord_60 : decode cX2_isWord 60 = .ok (.goto (-32), 3) := by decide +kernel
theorem dX2_isWord_63 : decode cX2_isWord 63 = .ok (.iconst 1, 1) := by decide +kernel
theorem dX2_isWord_64 : decode cX2_isWord 64 = .ok (.ireturn, 1) := by decide +kernel
theorem dX2_kindNamed_0 : decode cX2_kindNamed 0 = .ok (.iconst 0, 1) := by decide +kernel
theorem dX2_kindNamed_1 : decode cX2_kindNamed 1 = .ok (.istore_n 1, 1) := by decide +kernel
theorem dX2_kindNamed_2 : decode cX2_kindNamed 2 = .ok (.iload_n 1, 1) := by decide +kernel
theorem dX2_kindNamed_3 : decode cX2_kindNamed 3 = .ok (.bipush 6, 2) := by decide +kernel
theorem dX2_kindNamed_5 : decode cX2_kindNamed 5 = .ok (.if_icmp .ge 22, 3) := by decide +kernel
theorem dX2_kindNamed_8 : decode cX2_kindNamed 8 = .ok (.aload_n 0, 1) := by decide +kernel
theorem dX2_kindNamed_9 : decode cX2_kindNamed 9 = .ok (.iload_n 1, 1) := by decide +kernel
theorem dX2_kindNamed_10 : decode cX2_kindNamed 10 = .ok (.invokestatic 97, 3) := by decide +kernel
theorem dX2_kindNamed_13 : decode cX2_kindNamed 13 = .ok (.invokevirtual 40, 3) := by decide +kernel
theorem dX2_kindNamed_16 : decode cX2_kindNamed 16 = .ok (.ifCond .eq 5, 3) := by decide +kernel
theorem dX2_kindNamed_19 : decode cX2_kindNamed 19 = .ok (.iload_n 1, 1) := by decide +kernel
theorem dX2_kindNamed_20 : decode cX2_kindNamed 20 = .ok (.ireturn, 1) := by decide +kernel
theorem dX2_kindNamed_21 : decode cX2_kindNamed 21 = .ok (.iinc 1 1, 3) := by decide +kernel
theorem dX2_kindNamed_24 : decode cX2_kindNamed 24 = .ok (.goto (-22), 3) := by decide +kernel
theorem dX2_kindNamed_27 : decode cX2_kindNamed 27 = .ok (.iconst (-1), 1) := by decide +kernel
theorem dX2_kindNamed_28 : decode cX2_kindNamed 28 = .ok (.ireturn, 1) := by decide +kernel
theorem dX2_nameOf_0 : decode cX2_nameOf 0 = .ok (.iload_n 0, 1) := by decide +kernel
theorem dX2_nameOf_1 : decode cX2_nameOf 1 = .ok (.tableswitch 50 1 5 #[35, 38, 41, 44, 47], 35) := by decide +kernel
theorem dX2_nameOf_36 : decode cX2_nameOf 36 = .ok (.ldc 101, 2) := by decide +kernel
theorem dX2_nameOf_38 : decode cX2_nameOf 38 = .ok (.areturn, 1) := by decide +kernel
theorem dX2_nameOf_39 : decode cX2_nameOf 39 = .ok (.ldc 103, 2) := by decide +kernel
theorem dX2_nameOf_41 : decode cX2_nameOf 41 = .ok (.areturn, 1) := by decide +kernel
theorem dX2_nameOf_42 : decode cX2_nameOf 42 = .ok (.ldc 105, 2) := by decide +kernel
theorem dX2_nameOf_44 : decode cX2_nameOf 44 = .ok (.areturn, 1) := by decide +kernel
theorem dX2_nameOf_45 : decode cX2_nameOf 45 = .ok (.ldc 107, 2) := by decide +kernel
theorem dX2_nameOf_47 : decode cX2_nameOf 47 = .ok (.areturn, 1) := by decide +kernel
theorem dX2_nameOf_48 : decode cX2_nameOf 48 = .ok (.ldc 109, 2) := by decide +kernel
theorem dX2_nameOf_50 : decode cX2_nameOf 50 = .ok (.areturn, 1) := by decide +kernel
theorem dX2_nameOf_51 : decode cX2_nameOf 51 = .ok (.ldc 111, 2) := by decide +kernel
theorem dX2_nameOf_53 : decode cX2_nameOf 53 = .ok (.areturn, 1) := by decide +kernel
theorem dX2_advance_0 : decode cX2_advance 0 = .ok (.aload_n 0, 1) := by decide +kernel
theorem dX2_advance_1 : decode cX2_advance 1 = .ok (.aload_n 0, 1) := by decide +kernel
theorem dX2_advance_2 : decode cX2_advance 2 = .ok (.getfield 25, 3) := by decide +kernel
theorem dX2_advance_5 : decode cX2_advance 5 = .ok (.putfield 22, 3) := by decide +kernel
theorem dX2_advance_8 : decode cX2_advance 8 = .ok (.aload_n 0, 1) := by decide +kernel
theorem dX2_advance_9 : decode cX2_advance 9 = .ok (.getfield 22, 3) := by decide +kernel
theorem dX2_advance_12 : decode cX2_advance 12 = .ok (.aload_n 0, 1) := by decide +kernel
theorem dX2_advance_13 : decode cX2_advance 13 = .ok (.getfield 9, 3) := by decide +kernel
theorem dX2_advance_16 : decode cX2_advance 16 = .ok (.if_icmp .ge 30, 3) := by decide +kernel
theorem dX2_advance_19 : decode cX2_advance 19 = .ok (.aload_n 0, 1) := by decide +kernel
theorem dX2_advance_20 : decode cX2_advance 20 = .ok (.getfield 15, 3) := by decide +kernel
theorem dX2_advance_23 : decode cX2_advance 23 = .ok (.aload_n 0, 1) := by decide +kernel
theorem dX2_advance_24 : decode cX2_advance 24 = .ok (.getfield 22, 3) := by decide +kernel
theorem dX2_advance_27 : decode cX2_advance 27 = .ok (.iaload, 1) := by decide +kernel
theorem dX2_advance_28 : decode cX2_advance 28 = .ok (.bipush 32, 2) := by decide +kernel
theorem dX2_advance_30 : decode cX2_advance 30 = .ok (.if_icmp .ne 16, 3) := by decide +kernel
theorem dX2_advance_33 : decode cX2_advance 33 = .ok (.aload_n 0, 1) := by decide +kernel
theorem dX2_advance_34 : decode cX2_advance 34 = .ok (.dup, 1) := by decide +kernel
theorem dX2_advance_35 : decode cX2_advance 35 = .ok (.getfield 22, 3) := by decide +kernel
theorem dX2_advance_38 : decode cX2_advance 38 = .ok (.iconst 1, 1) := by decide +kernel
theorem dX2_advance_39 : decode cX2_advance 39 = .ok (.iadd, 1) := by decide +kernel
theorem dX2_advance_40 : decode cX2_advance 40 = .ok (.putfield 22, 3) := by decide +kernel
theorem dX2_advance_43 : decode cX2_advance 43 = .ok (.goto (-35), 3) := by decide +kernel
theorem dX2_advance_46 : decode cX2_advance 46 = .ok (.aload_n 0, 1) := by decide +kernel
theorem dX2_advance_47 : decode cX2_advance 47 = .ok (.aload_n 0, 1) := by decide +kernel
theorem dX2_advance_48 : decode cX2_advance 48 = .ok (.getfield 22, 3) := by decide +kernel
theorem dX2_advance_51 : decode cX2_advance 51 = .ok (.putfield 25, 3) := by decide +kernel
theorem dX2_advance_54 : decode cX2_advance 54 = .ok (.aload_n 0, 1) := by decide +kernel
theorem dX2_advance_55 : decode cX2_advance 55 = .ok (.getfield 22, 3) := by decide +kernel
theorem dX2_advance_58 : decode cX2_advance 58 = .ok (.aload_n 0, 1) := by decide +kernel
theorem dX2_advance_59 : decode cX2_advance 59 = .ok (.getfield 9, 3) := by decide +kernel
theorem dX2_advance_62 : decode cX2_advance 62 = .ok (.if_icmp .lt 11, 3) := by decide +kernel
theorem dX2_advance_65 : decode cX2_advance 65 = .ok (.aload_n 0, 1) := by decide +kernel
theorem dX2_advance_66 : decode cX2_advance 66 = .ok (.iconst 0, 1) := by decide +kernel
theorem dX2_advance_67 : decode cX2_advance 67 = .ok (.putfield 19, 3) := by decide +kernel
theorem dX2_advance_70 : decode cX2_advance 70 = .ok (.goto 90, 3) := by decide +kernel
theorem dX2_advance_73 : decode cX2_advance 73 = .ok (.aload_n 0, 1) := by decide +kernel
theorem dX2_advance_74 : decode cX2_advance 74 = .ok (.getfield 15, 3) := by decide +kernel
theorem dX2_advance_77 : decode cX2_advance 77 = .ok (.aload_n 0, 1) := by decide +kernel
theorem dX2_advance_78 : decode cX2_advance 78 = .ok (.getfield 22, 3) := by decide +kernel
theorem dX2_advance_81 : decode cX2_advance 81 = .ok (.iaload, 1) := by decide +kernel
theorem dX2_advance_82 : decode cX2_advance 82 = .ok (.invokestatic 113, 3) := by decide +kernel
theorem dX2_advance_85 : decode cX2_advance 85 = .ok (.ifCond .eq 15, 3) := by decide +kernel
theorem dX2_advance_88 : decode cX2_advance 88 = .ok (.aload_n 0, 1) := by decide +kernel
theorem dX2_advance_89 : decode cX2_advance 89 = .ok (.iconst 1, 1) := by decide +kernel
theorem dX2_advance_90 : decode cX2_advance 90 = .ok (.putfield 19, 3) := by decide +kernel
theorem dX2_advance_93 : decode cX2_advance 93 = .ok (.aload_n 0, 1) := by decide +kernel
theorem dX2_advance_94 : decode cX2_advance 94 = .ok (.invokevirtual 116, 3) := by decide +kernel
theorem dX2_advance_97 : decode cX2_advance 97 = .ok (.goto 63, 3) := by decide +kernel
theorem dX2_advance_100 : decode cX2_advance 100 = .ok (.aload_n 0, 1) := by decide +kernel
theorem dX2_advance_101 : decode cX2_advance 101 = .ok (.getfield 15, 3) := by decide +kernel
theorem dX2_advance_104 : decode cX2_advance 104 = .ok (.aload_n 0, 1) := by decide +kernel
theorem dX2_advance_105 : decode cX2_advance 105 = .ok (.getfield 22, 3) := by decide +kernel
theorem dX2_advance_108 : decode cX2_advance 108 = .ok (.iaload, 1) := by decide +kernel
theorem dX2_advance_109 : decode cX2_advance 109 = .ok (.invokestatic 119, 3) := by decide +kernel
theorem dX2_advance_112 : decode cX2_advance 112 = .ok (.ifCond .eq 15, 3) := by decide +kernel
theorem dX2_advance_115 : decode cX2_advance 115 = .ok (.aload_n 0, 1) := by decide +kernel
theorem dX2_advance_116 : decode cX2_advance 116 = .ok (.iconst 2, 1) := by decide +kernel
theorem dX2_advance_117 : decode cX2_advance 117 = .ok (.putfield 19, 3) := by decide +kernel
theorem dX2_advance_120 : decode cX2_advance 120 = .ok (.aload_n 0, 1) := by decide +kernel
theorem dX2_advance_121 : decode cX2_advance 121 = .ok (.invokevirtual 122, 3) := by decide +kernel
theorem dX2_advance_124 : decode cX2_advance 124 = .ok (.goto 36, 3) := by decide +kernel
theorem dX2_advance_127 : decode cX2_advance 127 = .ok (.aload_n 0, 1) := by decide +kernel
theorem dX2_advance_128 : decode cX2_advance 128 = .ok (.aload_n 0, 1) := by decide +kernel
theorem dX2_advance_129 : decode cX2_advance 129 = .ok (.getfield 15, 3) := by decide +kernel
theorem dX2_advance_132 : decode cX2_advance 132 = .ok (.aload_n 0, 1) := by decide +kernel
theorem dX2_advance_133 : decode cX2_advance 133 = .ok (.getfield 22, 3) := by decide +kernel
theorem dX2_advance_136 : decode cX2_advance 136 = .ok (.iaload, 1) := by decide +kernel
theorem dX2_advance_137 : decode cX2_advance 137 = .ok (.bipush 59, 2) := by decide +kernel
theorem dX2_advance_139 : decode cX2_advance 139 = .ok (.if_icmp .ne 7, 3) := by decide +kernel
theorem dX2_advance_142 : decode cX2_advance 142 = .ok (.iconst 3, 1) := by decide +kernel
theorem dX2_advance_143 : decode cX2_advance 143 = .ok (.goto 4, 3) := by decide +kernel
theorem dX2_advance_146 : decode cX2_advance 146 = .ok (.iconst 4, 1) := by decide +kernel
theorem dX2_advance_147 : decode cX2_advance 147 = .ok (.putfield 19, 3) := by decide +kernel
theorem dX2_advance_150 : decode cX2_advance 150 = .ok (.aload_n 0, 1) := by decide +kernel
theorem dX2_advance_151 : decode cX2_advance 151 = .ok (.aload_n 0, 1) := by decide +kernel
theorem dX2_advance_152 : decode cX2_advance 152 = .ok (.getfield 22, 3) := by decide +kernel
theorem dX2_advance_155 : decode cX2_advance 155 = .ok (.iconst 1, 1) := by decide +kernel
theorem dX2_advance_156 : decode cX2_advance 156 = .ok (.iadd, 1) := by decide +kernel
theorem dX2_advance_157 : decode cX2_advance 157 = .ok (.putfield 25, 3) := by decide +kernel
theorem dX2_advance_160 : decode cX2_advance 160 = .ok (.return_, 1) := by decide +kernel
theorem dX2_passWord_0 : decode cX2_passWord 0 = .ok (.aload_n 0, 1) := by decide +kernel
theorem dX2_passWord_1 : decode cX2_passWord 1 = .ok (.getfield 25, 3) := by decide +kernel
theorem dX2_passWord_4 : decode cX2_passWord 4 = .ok (.aload_n 0, 1) := by decide +kernel
theorem dX2_passWord_5 : decode cX2_passWord 5 = .ok (.getfield 9, 3) := by decide +kernel
theorem dX2_passWord_8 : decode cX2_passWord 8 = .ok (.if_icmp .ge 31, 3) := by decide +kernel
theorem dX2_passWord_11 : decode cX2_passWord 11 = .ok (.aload_n 0, 1) := by decide +kernel
theorem dX2_passWord_12 : decode cX2_passWord 12 = .ok (.getfield 15, 3) := by decide +kernel
theorem dX2_passWord_15 : decode cX2_passWord 15 = .ok (.aload_n 0, 1) := by decide +kernel
theorem dX2_passWord_16 : decode cX2_passWord 16 = .ok (.getfield 25, 3) := by decide +kernel
theorem dX2_passWord_19 : decode cX2_passWord 19 = .ok (.iaload, 1) := by decide +kernel
theorem dX2_passWord_20 : decode cX2_passWord 20 = .ok (.invokestatic 113, 3) := by decide +kernel
theorem dX2_passWord_23 : decode cX2_passWord 23 = .ok (.ifCond .eq 16, 3) := by decide +kernel
theorem dX2_passWord_26 : decode cX2_passWord 26 = .ok (.aload_n 0, 1) := by decide +kernel
theorem dX2_passWord_27 : decode cX2_passWord 27 = .ok (.dup, 1) := by decide +kernel
theorem dX2_passWord_28 : decode cX2_passWord 28 = .ok (.getfield 25, 3) := by decide +kernel
theorem dX2_passWord_31 : decode cX2_passWord 31 = .ok (.iconst 1, 1) := by decide +kernel
theorem dX2_passWord_32 : decode cX2_passWord 32 = .ok (.iadd, 1) := by decide +kernel
theorem dX2_passWord_33 : decode cX2_passWord 33 = .ok (.putfield 25, 3) := by decide +kernel
theorem dX2_passWord_36 : decode cX2_passWord 36 = .ok (.goto (-36), 3) := by decide +kernel
theorem dX2_passWord_39 : decode cX2_passWord 39 = .ok (.return_, 1) := by decide +kernel
theorem dX2_passNumber_0 : decode cX2_passNumber 0 = .ok (.aload_n 0, 1) := by decide +kernel
theorem dX2_passNumber_1 : decode cX2_passNumber 1 = .ok (.iconst 0, 1) := by decide +kernel
theorem dX2_passNumber_2 : decode cX2_passNumber 2 = .ok (.putfield 28, 3) := by decide +kernel
theorem dX2_passNumber_5 : decode cX2_passNumber 5 = .ok (.aload_n 0, 1) := by decide +kernel
theorem dX2_passNumber_6 : decode cX2_passNumber 6 = .ok (.getfield 25, 3) := by decide +kernel
theorem dX2_passNumber_9 : decode cX2_passNumber 9 = .ok (.aload_n 0, 1) := by decide +kernel
theorem dX2_passNumber_10 : decode cX2_passNumber 10 = .ok (.getfield 9, 3) := by decide +kernel
theorem dX2_passNumber_13 : decode cX2_passNumber 13 = .ok (.if_icmp .ge 61, 3) := by decide +kernel
theorem dX2_passNumber_16 : decode cX2_passNumber 16 = .ok (.aload_n 0, 1) := by decide +kernel
theorem dX2_passNumber_17 : decode cX2_passNumber 17 = .ok (.getfield 15, 3) := by decide +kernel
theorem dX2_passNumber_20 : decode cX2_passNumber 20 = .ok (.aload_n 0, 1) := by decide +kernel
theorem dX2_passNumber_21 : decode cX2_passNumber 21 = .ok (.getfield 25, 3) := by decide +kernel
theorem dX2_passNumber_24 : decode cX2_passNumber 24 = .ok (.iaload, 1) := by decide +kernel
theorem dX2_passNumber_25 : decode cX2_passNumber 25 = .ok (.invokestatic 119, 3) := by decide +kernel
theorem dX2_passNumber_28 : decode cX2_passNumber 28 = .ok (.ifCond .eq 46, 3) := by decide +kernel
theorem dX2_passNumber_31 : decode cX2_passNumber 31 = .ok (.aload_n 0, 1) := by decide +kernel
theorem dX2_passNumber_32 : decode cX2_passNumber 32 = .ok (.sipush 1000, 3) := by decide +kernel
theorem dX2_passNumber_35 : decode cX2_passNumber 35 = .ok (.aload_n 0, 1) := by decide +kernel
theorem dX2_passNumber_36 : decode cX2_passNumber 36 = .ok (.getfield 28, 3) := by decide +kernel
theorem dX2_passNumber_39 : decode cX2_passNumber 39 = .ok (.bipush 10, 2) := by decide +kernel
theorem dX2_passNumber_41 : decode cX2_passNumber 41 = .ok (.imul, 1) := by decide +kernel
theorem dX2_passNumber_42 : decode cX2_passNumber 42 = .ok (.aload_n 0, 1) := by decide +kernel
theorem dX2_passNumber_43 : decode cX2_passNumber 43 = .ok (.getfield 15, 3) := by decide +kernel
theorem dX2_passNumber_46 : decode cX2_passNumber 46 = .ok (.aload_n 0, 1) := by decide +kernel
theorem dX2_passNumber_47 : decode cX2_passNumber 47 = .ok (.getfield 25, 3) := by decide +kernel
theorem dX2_passNumber_50 : decode cX2_passNumber 50 = .ok (.iaload, 1) := by decide +kernel
theorem dX2_passNumber_51 : decode cX2_passNumber 51 = .ok (.iadd, 1) := by decide +kernel
theorem dX2_passNumber_52 : decode cX2_passNumber 52 = .ok (.bipush 48, 2) := by decide +kernel
theorem dX2_passNumber_54 : decode cX2_passNumber 54 = .ok (.isub, 1) := by decide +kernel
theorem dX2_passNumber_55 : decode cX2_passNumber 55 = .ok (.invokestatic 125, 3) := by decide +kernel
theorem dX2_passNumber_58 : decode cX2_passNumber 58 = .ok (.putfield 28, 3) := by decide +kernel
theorem dX2_passNumber_61 : decode cX2_passNumber 61 = .ok (.aload_n 0, 1) := by decide +kernel
theorem dX2_passNumber_62 : decode cX2_passNumber 62 = .ok (.dup, 1) := by decide +kernel
theorem dX2_passNumber_63 : decode cX2_passNumber 63 = .ok (.getfield 25, 3) := by decide +kernel
theorem dX2_passNumber_66 : decode cX2_passNumber 66 = .ok (.iconst 1, 1) := by decide +kernel
theorem dX2_passNumber_67 : decode cX2_passNumber 67 = .ok (.iadd, 1) := by decide +kernel
theorem dX2_passNumber_68 : decode cX2_passNumber 68 = .ok (.putfield 25, 3) := by decide +kernel
theorem dX2_passNumber_71 : decode cX2_passNumber 71 = .ok (.goto (-66), 3) := by decide +kernel
theorem dX2_passNumber_74 : decode cX2_passNumber 74 = .ok (.return_, 1) := by decide +kernel
theorem dX2_isLetter_0 : decode cX2_isLetter 0 = .ok (.iload_n 0, 1) := by decide +kernel
theorem dX2_isLetter_1 : decode cX2_isLetter 1 = .ok (.bipush 97, 2) := by decide +kernel
theorem dX2_isLetter_3 : decode cX2_isLetter 3 = .ok (.if_icmp .lt 13, 3) := by decide +kernel
theorem dX2_isLetter_6 : decode cX2_isLetter 6 = .ok (.iload_n 0, 1) := by decide +kernel
theorem dX2_isLetter_7 : decode cX2_isLetter 7 = .ok (.bipush 122, 2) := by decide +kernel
theorem dX2_isLetter_9 : decode cX2_isLetter 9 = .ok (.if_icmp .gt 7, 3) := by decide +kernel
theorem dX2_isLetter_12 : decode cX2_isLetter 12 = .ok (.iconst 1, 1) := by decide +kernel
theorem dX2_isLetter_13 : decode cX2_isLetter 13 = .ok (.goto 4, 3) := by decide +kernel
theorem dX2_isLetter_16 : decode cX2_isLetter 16 = .ok (.iconst 0, 1) := by decide +kernel
theorem dX2_isLetter_17 : decode cX2_isLetter 17 = .ok (.ireturn, 1) := by decide +kernel
theorem dX2_isDigit_0 : decode cX2_isDigit 0 = .ok (.iload_n 0, 1) := by decide +kernel
theorem dX2_isDigit_1 : decode cX2_isDigit 1 = .ok (.bipush 48, 2) := by decide +kernel
theorem dX2_isDigit_3 : decode cX2_isDigit 3 = .ok (.if_icmp .lt 13, 3) := by decide +kernel
theorem dX2_isDigit_6 : decode cX2_isDigit 6 = .ok (.iload_n 0, 1) := by decide +kernel
theorem dX2_isDigit_7 : decode cX2_isDigit 7 = .ok (.bipush 57, 2) := by decide +kernel
theorem dX2_isDigit_9 : decode cX2_isDigit 9 = .ok (.if_icmp .gt 7, 3) := by decide +kernel
theorem dX2_isDigit_12 : decode cX2_isDigit 12 = .ok (.iconst 1, 1) := by decide +kernel
theorem dX2_isDigit_13 : decode cX2_isDigit 13 = .ok (.goto 4, 3) := by decide +kernel
theorem dX2_isDigit_16 : decode cX2_isDigit 16 = .ok (.iconst 0, 1) := by decide +kernel
theorem dX2_isDigit_17 : decode cX2_isDigit 17 = .ok (.ireturn, 1) := by decide +kernel
theorem dX3_isOrIsUnder_0 : decode cX3_isOrIsUnder 0 = .ok (.iload_n 0, 1) := by decide +kernel
theorem dX3_isOrIsUnder_1 : decode cX3_isOrIsUnder 1 = .ok (.istore_n 2, 1) := by decide +kernel
theorem dX3_isOrIsUnder_2 : decode cX3_isOrIsUnder 2 = .ok (.iconst 0, 1) := by decide +kernel
theorem dX3_isOrIsUnder_3 : decode cX3_isOrIsUnder 3 = .ok (.istore_n 3, 1) := by decide +kernel
theorem dX3_isOrIsUnder_4 : decode cX3_isOrIsUnder 4 = .ok (.iload_n 3, 1) := by decide +kernel
theorem dX3_isOrIsUnder_5 : decode cX3_isOrIsUnder 5 = .ok (.bipush 6, 2) := by decide +kernel
theorem dX3_isOrIsUnder_7 : decode cX3_isOrIsUnder 7 = .ok (.if_icmp .ge 29, 3) := by decide +kernel
theorem dX3_isOrIsUnder_10 : decode cX3_isOrIsUnder 10 = .ok (.iload_n 2, 1) := by decide +kernel
theorem dX3_isOrIsUnder_11 : decode cX3_isOrIsUnder 11 = .ok (.invokestatic 9, 3) := by decide +kernel
theorem dX3_isOrIsUnder_14 : decode cX3_isOrIsUnder 14 = .ok (.ifCond .eq 22, 3) := by decide +kernel
theorem dX3_isOrIsUnder_17 : decode cX3_isOrIsUnder 17 = .ok (.iload_n 2, 1) := by decide +kernel
theorem dX3_isOrIsUnder_18 : decode cX3_isOrIsUnder 18 = .ok (.iload_n 1, 1) := by decide +kernel
theorem dX3_isOrIsUnder_19 : decode cX3_isOrIsUnder 19 = .ok (.if_icmp .ne 5, 3) := by decide +kernel
theorem dX3_isOrIsUnder_22 : decode cX3_isOrIsUnder 22 = .ok (.iconst 1, 1) := by decide +kernel
theorem dX3_isOrIsUnder_23 : decode cX3_isOrIsUnder 23 = .ok (.ireturn, 1) := by decide +kernel
theorem dX3_isOrIsUnder_24 : decode cX3_isOrIsUnder 24 = .ok (.getstatic 13, 3) := by decide +kernel
theorem dX3_isOrIsUnder_27 : decode cX3_isOrIsUnder 27 = .ok (.iload_n 2, 1) := by decide +kernel
theorem dX3_isOrIsUnder_28 : decode cX3_isOrIsUnder 28 = .ok (.iaload, 1) := by decide +kernel
theorem dX3_isOrIsUnder_29 : decode cX3_isOrIsUnder 29 = .ok (.istore_n 2, 1) := by decide +kernel
theorem dX3_isOrIsUnder_30 : decode cX3_isOrIsUnder 30 = .ok (.iinc 3 1, 3) := by decide +kernel
theorem dX3_isOrIsUnder_33 : decode cX3_isOrIsUnder 33 = .ok (.goto (-29), 3) := by decide +kernel
theorem dX3_isOrIsUnder_36 : decode cX3_isOrIsUnder 36 = .ok (.iconst 0, 1) := by decide +kernel
theorem dX3_isOrIsUnder_37 : decode cX3_isOrIsUnder 37 = .ok (.ireturn, 1) := by decide +kernel
theorem dX3_glows_0 : decode cX3_glows 0 = .ok (.iload_n 2, 1) := by decide +kernel
theorem dX3_glows_1 : decode cX3_glows 1 = .ok (.ifCond .ne 5, 3) := by decide +kernel
theorem dX3_glows_4 : decode cX3_glows 4 = .ok (.iconst 0, 1) := by decide +kernel
theorem dX3_glows_5 : decode cX3_glows 5 = .ok (.ireturn, 1) := by decide +kernel
theorem dX3_glows_6 : decode cX3_glows 6 = .ok (.iload_n 1, 1) := by decide +kernel
theorem dX3_glows_7 : decode cX3_glows 7 = .ok (.bipush 20, 2) := by decide +kernel
theorem dX3_glows_9 : decode cX3_glows 9 = .ok (.idiv, 1) := by decide +kernel
theorem dX3_glows_10 : decode cX3_glows 10 = .ok (.iload_n 2, 1) := by decide +kernel
theorem dX3_glows_11 : decode cX3_glows 11 = .ok (.imul, 1) := by decide +kernel
theorem dX3_glows_12 : decode cX3_glows 12 = .ok (.bipush 9, 2) := by decide +kernel
theorem dX3_glows_14 : decode cX3_glows 14 = .ok (.idiv, 1) := by decide +kernel
theorem dX3_glows_15 : decode cX3_glows 15 = .ok (.istore 4, 2) := by decide +kernel
theorem dX3_glows_17 : decode cX3_glows 17 = .ok (.iload_n 0, 1) := by decide +kernel
theorem dX3_glows_18 : decode cX3_glows 18 = .ok (.tableswitch 74 1 5 #[34, 39, 44, 47, 63], 34) := by decide +kernel
theorem dX3_glows_52 : decode cX3_glows 52 = .ok (.iload 4, 2) := by decide +kernel
theorem dX3_glows_54 : decode cX3_glows 54 = .ok (.iconst 3, 1) := by decide +kernel
theorem dX3_glows_55 : decode cX3_glows 55 = .ok (.iadd, 1) := by decide +kernel
theorem dX3_glows_56 : decode cX3_glows 56 = .ok (.ireturn, 1) := by decide +kernel
theorem dX3_glows_57 : decode cX3_glows 57 = .ok (.iload 4, 2) := by decide +kernel
theorem dX3_glows_59 : decode cX3_glows 59 = .ok (.iconst 2, 1) := by decide +kernel
theorem dX3_glows_60 : decode cX3_glows 60 = .ok (.idiv, 1) := by decide +kernel
theorem dX3_glows_61 : decode cX3_glows 61 = .ok (.ireturn, 1) := by decide +kernel
theorem dX3_glows_62 : decode cX3_glows 62 = .ok (.bipush 9, 2) := by decide +kernel
theorem dX3_glows_64 : decode cX3_glows 64 = .ok (.ireturn, 1) := by decide +kernel
theorem dX3_glows_65 : decode cX3_glows 65 = .ok (.iload 4, 2) := by decide +kernel
theorem dX3_glows_67 : decode cX3_glows 67 = .ok (.iconst 2, 1) := by decide +kernel
theorem dX3_glows_68 : decode cX3_glows 68 = .ok (.idiv, 1) := by decide +kernel
theorem dX3_glows_69 : decode cX3_glows 69 = .ok (.iload_n 3, 1) := by decide +kernel
theorem dX3_glows_70 : decode cX3_glows 70 = .ok (.iconst 4, 1) := by decide +kernel
theorem dX3_glows_71 : decode cX3_glows 71 = .ok (.if_icmp .ne 7, 3) := by decide +kernel
theorem dX3_glows_74 : decode cX3_glows 74 = .ok (.iconst 2, 1) := by decide +kernel
theorem dX3_glows_75 : decode cX3_glows 75 = .ok (.goto 4, 3) := by decide +kernel
theorem dX3_glows_78 : decode cX3_glows 78 = .ok (.iconst 1, 1) := by decide +kernel
theorem dX3_glows_79 : decode cX3_glows 79 = .ok (.imul, 1) := by decide +kernel
theorem dX3_glows_80 : decode cX3_glows 80 = .ok (.ireturn, 1) := by decide +kernel
theorem dX3_glows_81 : decode cX3_glows 81 = .ok (.iconst 0, 1) := by decide +kernel
theorem dX3_glows_82 : decode cX3_glows 82 = .ok (.iload 4, 2) := by decide +kernel
theorem dX3_glows_84 : decode cX3_glows 84 = .ok (.iconst 3, 1) := by decide +kernel
theorem dX3_glows_85 : decode cX3_glows 85 = .ok (.iadd, 1) := by decide +kernel
theorem dX3_glows_86 : decode cX3_glows 86 = .ok (.iconst 4, 1) := by decide +kernel
theorem dX3_glows_87 : decode cX3_glows 87 = .ok (.isub, 1) := by decide +kernel
theorem dX3_glows_88 : decode cX3_glows 88 = .ok (.invokestatic 19, 3) := by decide +kernel
theorem dX3_glows_91 : decode cX3_glows 91 = .ok (.ireturn, 1) := by decide +kernel
theorem dX3_glows_92 : decode cX3_glows 92 = .ok (.iload 4, 2) := by decide +kernel
theorem dX3_glows_94 : decode cX3_glows 94 = .ok (.ireturn, 1) := by decide +kernel
theorem dX3_takes_0 : decode cX3_takes 0 = .ok (.iload_n 1, 1) := by decide +kernel
theorem dX3_takes_1 : decode cX3_takes 1 = .ok (.ifCond .ne 5, 3) := by decide +kernel
theorem dX3_takes_4 : decode cX3_takes 4 = .ok (.iconst 0, 1) := by decide +kernel
theorem dX3_takes_5 : decode cX3_takes 5 = .ok (.ireturn, 1) := by decide +kernel
theorem dX3_takes_6 : decode cX3_takes 6 = .ok (.iload_n 0, 1) := by decide +kernel
theorem dX3_takes_7 : decode cX3_takes 7 = .ok (.tableswitch 53 1 5 #[33, 37, 41, 43, 47], 33) := by decide +kernel
theorem dX3_takes_40 : decode cX3_takes 40 = .ok (.iload_n 1, 1) := by decide +kernel
theorem dX3_takes_41 : decode cX3_takes 41 = .ok (.iconst 2, 1) := by decide +kernel
theorem dX3_takes_42 : decode cX3_takes 42 = .ok (.idiv, 1) := by decide +kernel
theorem dX3_takes_43 : decode cX3_takes 43 = .ok (.ireturn, 1) := by decide +kernel
theorem dX3_takes_44 : decode cX3_takes 44 = .ok (.iload_n 1, 1) := by decide +kernel
theorem dX3_takes_45 : decode cX3_takes 45 = .ok (.iconst 1, 1) := by decide +kernel
theorem dX3_takes_46 : decode cX3_takes 46 = .ok (.iadd, 1) := by decide +kernel
theorem dX3_takes_47 : decode cX3_takes 47 = .ok (.ireturn, 1) := by decide +kernel
theorem dX3_takes_48 : decode cX3_takes 48 = .ok (.iconst 0, 1) := by decide +kernel
theorem dX3_takes_49 : decode cX3_takes 49 = .ok (.ireturn, 1) := by decide +kernel
theorem dX3_takes_50 : decode cX3_takes 50 = .ok (.iload_n 1, 1) := by decide +kernel
theorem dX3_takes_51 : decode cX3_takes 51 = .ok (.iconst 1, 1) := by decide +kernel
theorem dX3_takes_52 : decode cX3_takes 52 = .ok (.iadd, 1) := by decide +kernel
theorem dX3_takes_53 : decode cX3_takes 53 = .ok (.ireturn, 1) := by decide +kernel
theorem dX3_takes_54 : decode cX3_takes 54 = .ok (.iload_n 1, 1) := by decide +kernel
theorem dX3_takes_55 : decode cX3_takes 55 = .ok (.iconst 2, 1) := by decide +kernel
theorem dX3_takes_56 : decode cX3_takes 56 = .ok (.idiv, 1) := by decide +kernel
theorem dX3_takes_57 : decode cX3_takes 57 = .ok (.iconst 2, 1) := by decide +kernel
theorem dX3_takes_58 : decode cX3_takes 58 = .ok (.iadd, 1) := by decide +kernel
theorem dX3_takes_59 : decode cX3_takes 59 = .ok (.ireturn, 1) := by decide +kernel
theorem dX3_takes_60 : decode cX3_takes 60 = .ok (.iload_n 1, 1) := by decide +kernel
theorem dX3_takes_61 : decode cX3_takes 61 = .ok (.ireturn, 1) := by decide +kernel
theorem dX3_fades_0 : decode cX3_fades 0 = .ok (.iload_n 0, 1) := by decide +kernel
theorem dX3_fades_1 : decode cX3_fades 1 = .ok (.tableswitch 51 1 5 #[35, 37, 51, 39, 49], 35) := by decide +kernel
theorem dX3_fades_36 : decode cX3_fades 36 = .ok (.iconst 0, 1) := by decide +kernel
theorem dX3_fades_37 : decode cX3_fades 37 = .ok (.ireturn, 1) := by decide +kernel
theorem dX3_fades_38 : decode cX3_fades 38 = .ok (.iconst 1, 1) := by decide +kernel
theorem dX3_fades_39 : decode cX3_fades 39 = .ok (.ireturn, 1) := by decide +kernel
theorem dX3_fades_40 : decode cX3_fades 40 = .ok (.iload_n 2, 1) := by decide +kernel
theorem dX3_fades_41 : decode cX3_fades 41 = .ok (.ifCond .eq 7, 3) := by decide +kernel
theorem dX3_fades_44 : decode cX3_fades 44 = .ok (.iconst 0, 1) := by decide +kernel
theorem dX3_fades_45 : decode cX3_fades 45 = .ok (.goto 4, 3) := by decide +kernel
theorem dX3_fades_48 : decode cX3_fades 48 = .ok (.iconst 1, 1) := by decide +kernel
theorem dX3_fades_49 : decode cX3_fades 49 = .ok (.ireturn, 1) := by decide +kernel
theorem dX3_fades_50 : decode cX3_fades 50 = .ok (.iconst 2, 1) := by decide +kernel
theorem dX3_fades_51 : decode cX3_fades 51 = .ok (.ireturn, 1) := by decide +kernel
theorem dX3_fades_52 : decode cX3_fades 52 = .ok (.iload_n 1, 1) := by decide +kernel
theorem dX3_fades_53 : decode cX3_fades 53 = .ok (.ifCond .ne 7, 3) := by decide +kernel
theorem dX3_fades_56 : decode cX3_fades 56 = .ok (.iconst 1, 1) := by decide +kernel
theorem dX3_fades_57 : decode cX3_fades 57 = .ok (.goto 4, 3) := by decide +kernel
theorem dX3_fades_60 : decode cX3_fades 60 = .ok (.iconst 0, 1) := by decide +kernel
theorem dX3_fades_61 : decode cX3_fades 61 = .ok (.ireturn, 1) := by decide +kernel
theorem dX3_burnsFrom_0 : decode cX3_burnsFrom 0 = .ok (.iload_n 0, 1) := by decide +kernel
theorem dX3_burnsFrom_1 : decode cX3_burnsFrom 1 = .ok (.tableswitch 47 1 5 #[35, 38, 47, 41, 44], 35) := by decide +kernel
theorem dX3_burnsFrom_36 : decode cX3_burnsFrom 36 = .ok (.bipush 40, 2) := by decide +kernel
theorem dX3_burnsFrom_38 : decode cX3_burnsFrom 38 = .ok (.ireturn, 1) := by decide +kernel
theorem dX3_burnsFrom_39 : decode cX3_burnsFrom 39 = .ok (.bipush 8, 2) := by decide +kernel
theorem dX3_burnsFrom_41 : decode cX3_burnsFrom 41 = .ok (.ireturn, 1) := by decide +kernel
theorem dX3_burnsFrom_42 : decode cX3_burnsFrom 42 = .ok (.bipush 8, 2) := by decide +kernel
theorem dX3_burnsFrom_44 : decode cX3_burnsFrom 44 = .ok (.ireturn, 1) := by decide +kernel
theorem dX3_burnsFrom_45 : decode cX3_burnsFrom 45 = .ok (.bipush 20, 2) := by decide +kernel
theorem dX3_burnsFrom_47 : decode cX3_burnsFrom 47 = .ok (.ireturn, 1) := by decide +kernel
theorem dX3_burnsFrom_48 : decode cX3_burnsFrom 48 = .ok (.bipush 12, 2) := by decide +kernel
theorem dX3_burnsFrom_50 : decode cX3_burnsFrom 50 = .ok (.ireturn, 1) := by decide +kernel
theorem dX4_init_0 : decode cX4_init 0 = .ok (.aload_n 0, 1) := by decide +kernel
theorem dX4_init_1 : decode cX4_init 1 = .ok (.invokespecial 1, 3) := by decide +kernel
theorem dX4_init_4 : decode cX4_init 4 = .ok (.aload_n 0, 1) := by decide +kernel
theorem dX4_init_5 : decode cX4_init 5 = .ok (.new 7, 3) := by decide +kernel
theorem dX4_init_8 : decode cX4_init 8 = .ok (.dup, 1) := by decide +kernel
theorem dX4_init_9 : decode cX4_init 9 = .ok (.invokespecial 9, 3) := by decide +kernel
theorem dX4_init_12 : decode cX4_init 12 = .ok (.putfield 10, 3) := by decide +kernel
theorem dX4_init_15 : decode cX4_init 15 = .ok (.aload_n 0, 1) := by decide +kernel
theorem dX4_init_16 : decode cX4_init 16 = .ok (.new 7, 3) := by decide +kernel
theorem dX4_init_19 : decode cX4_init 19 = .ok (.dup, 1) := by decide +kernel
theorem dX4_init_20 : decode cX4_init 20 = .ok (.invokespecial 9, 3) := by decide +kernel
theorem dX4_init_23 : decode cX4_init 23 = .ok (.putfield 16, 3) := by decide +kernel
theorem dX4_init_26 : decode cX4_init 26 = .ok (.aload_n 0, 1) := by decide +kernel
theorem dX4_init_27 : decode cX4_init 27 = .ok (.new 7, 3) := by decide +kernel
theorem dX4_init_30 : decode cX4_init 30 = .ok (.dup, 1) := by decide +kernel
theorem dX4_init_31 : decode cX4_init 31 = .ok (.invokespecial 9, 3) := by decide +kernel
theorem dX4_init_34 : decode cX4_init 34 = .ok (.putfield 19, 3) := by decide +kernel
theorem dX4_init_37 : decode cX4_init 37 = .ok (.aload_n 0, 1) := by decide +kernel
theorem dX4_init_38 : decode cX4_init 38 = .ok (.new 22, 3) := by decide +kernel
theorem dX4_init_41 : decode cX4_init 41 = .ok (.dup, 1) := by decide +kernel
theorem dX4_init_42 : decode cX4_init 42 = .ok (.invokespecial 24, 3) := by decide +kernel
theorem dX4_init_45 : decode cX4_init 45 = .ok (.putfield 25, 3) := by decide +kernel
theorem dX4_init_48 : decode cX4_init 48 = .ok (.aload_n 0, 1) := by decide +kernel
theorem dX4_init_49 : decode cX4_init 49 = .ok (.iconst 4, 1) := by decide +kernel
theorem dX4_init_50 : decode cX4_init 50 = .ok (.anewarray 29, 3) := by decide +kernel
theorem dX4_init_53 : decode cX4_init 53 = .ok (.putfield 31, 3) := by decide +kernel
theorem dX4_init_56 : decode cX4_init 56 = .ok (.aload_n 0, 1) := by decide +kernel
theorem dX4_init_57 : decode cX4_init 57 = .ok (.bipush 7, 2) := by decide +kernel
theorem dX4_init_59 : decode cX4_init 59 = .ok (.newarray .int, 2) := by decide +kernel
theorem dX4_init_61 : decode cX4_init 61 = .ok (.putfield 35, 3) := by decide +kernel
theorem dX4_init_64 : decode cX4_init 64 = .ok (.aload_n 0, 1) := by decide +kernel
theorem dX4_init_65 : decode cX4_init 65 = .ok (.iconst 0, 1) := by decide +kernel
theorem dX4_init_66 : decode cX4_init 66 = .ok (.putfield 39, 3) := by decide +kernel
theorem dX4_init_69 : decode cX4_init 69 = .ok (.iconst 0, 1) := by decide +kernel
theorem dX4_init_70 : decode cX4_init 70 = .ok (.istore_n 1, 1) := by decide +kernel
theorem dX4_init_71 : decode cX4_init 71 = .ok (.iload_n 1, 1) := by decide +kernel
theorem dX4_init_72 : decode cX4_init 72 = .ok (.iconst 4, 1) := by decide +kernel
theorem dX4_init_73 : decode cX4_init 73 = .ok (.if_icmp .ge 22, 3) := by decide +kernel
theorem dX4_init_76 : decode cX4_init 76 = .ok (.aload_n 0, 1) := by decide +kernel
theorem dX4_init_77 : decode cX4_init 77 = .ok (.getfield 31, 3) := by decide +kernel
theorem dX4_init_80 : decode cX4_init 80 = .ok (.iload_n 1, 1) := by decide +kernel
theorem dX4_init_81 : decode cX4_init 81 = .ok (.new 29, 3) := by decide +kernel
theorem dX4_init_84 : decode cX4_init 84 = .ok (.dup, 1) := by decide +kernel
theorem dX4_init_85 : decode cX4_init 85 = .ok (.invokespecial 43, 3) := by decide +kernel
theorem dX4_init_88 : decode cX4_init 88 = .ok (.aastore, 1) := by decide +kernel
theorem dX4_init_89 : decode cX4_init 89 = .ok (.iinc 1 1, 3) := by decide +kernel
theorem dX4_init_92 : decode cX4_init 92 = .ok (.goto (-21), 3) := by decide +kernel
theorem dX4_init_95 : decode cX4_init 95 = .ok (.return_, 1) := by decide +kernel
theorem dX4_sun_0 : decode cX4_sun 0 = .ok (.iload_n 1, 1) := by decide +kernel
theorem dX4_sun_1 : decode cX4_sun 1 = .ok (.iconst 0, 1) := by decide +kernel
theorem dX4_sun_2 : decode cX4_sun 2 = .ok (.bipush 9, 2) := by decide +kernel
theorem dX4_sun_4 : decode cX4_sun 4 = .ok (.invokestatic 44, 3) := by decide +kernel
theorem dX4_sun_7 : decode cX4_sun 7 = .ok (.ifCond .eq 13, 3) := by decide +kernel
theorem dX4_sun_10 : decode cX4_sun 10 = .ok (.iload_n 2, 1) := by decide +kernel
theorem dX4_sun_11 : decode cX4_sun 11 = .ok (.iconst 0, 1) := by decide +kernel
theorem dX4_sun_12 : decode cX4_sun 12 = .ok (.bipush 9, 2) := by decide +kernel
theorem dX4_sun_14 : decode cX4_sun 14 = .ok (.invokestatic 44, 3) := by decide +kernel
theorem dX4_sun_17 : decode cX4_sun 17 = .ok (.ifCond .ne 10, 3) := by decide +kernel
theorem dX4_sun_20 : decode cX4_sun 20 = .ok (.aload_n 0, 1) := by decide +kernel
theorem dX4_sun_21 : decode cX4_sun 21 = .ok (.ldc 48, 2) := by decide +kernel
theorem dX4_sun_23 : decode cX4_sun 23 = .ok (.invokevirtual 49, 3) := by decide +kernel
theorem dX4_sun_26 : decode cX4_sun 26 = .ok (.ireturn, 1) := by decide +kernel
theorem dX4_sun_27 : decode cX4_sun 27 = .ok (.aload_n 0, 1) := by decide +kernel
theorem dX4_sun_28 : decode cX4_sun 28 = .ok (.getfield 10, 3) := by decide +kernel
theorem dX4_sun_31 : decode cX4_sun 31 = .ok (.getfield 53, 3) := by decide +kernel
theorem dX4_sun_34 : decode cX4_sun 34 = .ok (.iload_n 1, 1) := by decide +kernel
theorem dX4_sun_35 : decode cX4_sun 35 = .ok (.iaload, 1) := by decide +kernel
theorem dX4_sun_36 : decode cX4_sun 36 = .ok (.istore_n 3, 1) := by decide +kernel
theorem dX4_sun_37 : decode cX4_sun 37 = .ok (.aload_n 0, 1) := by decide +kernel
theorem dX4_sun_38 : decode cX4_sun 38 = .ok (.getfield 10, 3) := by decide +kernel
theorem dX4_sun_41 : decode cX4_sun 41 = .ok (.getfield 53, 3) := by decide +kernel
theorem dX4_sun_44 : decode cX4_sun 44 = .ok (.iload_n 1, 1) := by decide +kernel
theorem dX4_sun_45 : decode cX4_sun 45 = .ok (.iload_n 2, 1) := by decide +kernel
theorem dX4_sun_46 : decode cX4_sun 46 = .ok (.iastore, 1) := by decide +kernel
theorem dX4_sun_47 : decode cX4_sun 47 = .ok (.iload_n 3, 1) := by decide +kernel
theorem dX4_sun_48 : decode cX4_sun 48 = .ok (.ireturn, 1) := by decide +kernel
theorem dX4_chair_0 : decode cX4_chair 0 = .ok (.iload_n 1, 1) := by decide +kernel
theorem dX4_chair_1 : decode cX4_chair 1 = .ok (.iconst 0, 1) := by decide +kernel
theorem dX4_chair_2 : decode cX4_chair 2 = .ok (.bipush 9, 2) := by decide +kernel
theorem dX4_chair_4 : decode cX4_chair 4 = .ok (.invokestatic 44, 3) := by decide +kernel
theorem dX4_chair_7 : decode cX4_chair 7 = .ok (.ifCond .eq 15, 3) := by decide +kernel
theorem dX4_chair_10 : decode cX4_chair 10 = .ok (.aload_n 0, 1) := by decide +kernel
theorem dX4_chair_11 : decode cX4_chair 11 = .ok (.getfield 10, 3) := by decide +kernel
theorem dX4_chair_14 : decode cX4_chair 14 = .ok (.getfield 56, 3) := by decide +kernel
theorem dX4_chair_17 : decode cX4_chair 17 = .ok (.iload_n 1, 1) := by decide +kernel
theorem dX4_chair_18 : decode cX4_chair 18 = .ok (.iaload, 1) := by decide +kernel
theorem dX4_chair_19 : decode cX4_chair 19 = .ok (.goto 9, 3) := by decide +kernel
theorem dX4_chair_22 : decode cX4_chair 22 = .ok (.aload_n 0, 1) := by decide +kernel
theorem dX4_chair_23 : decode cX4_chair 23 = .ok (.ldc 48, 2) := by decide +kernel
theorem dX4_chair_25 : decode cX4_chair 25 = .ok (.invokevirtual 49, 3) := by decide +kernel
theorem dX4_chair_28 : decode cX4_chair 28 = .ok (.ireturn, 1) := by decide +kernel
theorem dX4_now_0 : decode cX4_now 0 = .ok (.iload_n 1, 1) := by decide +kernel
theorem dX4_now_1 : decode cX4_now 1 = .ok (.tableswitch 99 0 6 #[43, 51, 59, 67, 75, 83, 91], 43) := by decide +kernel
theorem dX4_now_44 : decode cX4_now 44 = .ok (.aload_n 0, 1) := by decide +kernel
theorem dX4_now_45 : decode cX4_now 45 = .ok (.getfield 10, 3) := by decide +kernel
theorem dX4_now_48 : decode cX4_now 48 = .ok (.getfield 59, 3) := by decide +kernel
theorem dX4_now_51 : decode cX4_now 51 = .ok (.ireturn, 1) := by decide +kernel
theorem dX4_now_52 : decode cX4_now 52 = .ok (.aload_n 0, 1) := by decide +kernel
theorem dX4_now_53 : decode cX4_now 53 = .ok (.getfield 10, 3) := by decide +kernel
theorem dX4_now_56 : decode cX4_now 56 = .ok (.invokevirtual 63, 3) := by decide +kernel
theorem dX4_now_59 : decode cX4_now 59 = .ok (.ireturn, 1) := by decide +kernel
theorem dX4_now_60 : decode cX4_now 60 = .ok (.aload_n 0, 1) := by decide +kernel
theorem dX4_now_61 : decode cX4_now 61 = .ok (.getfield 10, 3) := by decide +kernel
theorem dX4_now_64 : decode cX4_now 64 = .ok (.invokevirtual 67, 3) := by decide +kernel
theorem dX4_now_67 : decode cX4_now 67 = .ok (.ireturn, 1) := by decide +kernel
theorem dX4_now_68 : decode cX4_now 68 = .ok (.aload_n 0, 1) := by decide +kernel
theorem dX4_now_69 : decode cX4_now 69 = .ok (.getfield 10, 3) := by decide +kernel
theorem dX4_now_72 : decode cX4_now 72 = .ok (.invokevirtual 70, 3) := by decide +kernel
theorem dX4_now_75 : decode cX4_now 75 = .ok (.ireturn, 1) := by decide +kernel
theorem dX4_now_76 : decode cX4_now 76 = .ok (.aload_n 0, 1) := by decide +kernel
theorem dX4_now_77 : decode cX4_now 77 = .ok (.getfield 10, 3) := by decide +kernel
theorem dX4_now_80 : decode cX4_now 80 = .ok (.invokevirtual 73, 3) := by decide +kernel
theorem dX4_now_83 : decode cX4_now 83 = .ok (.ireturn, 1) := by decide +kernel
theorem dX4_now_84 : decode cX4_now 84 = .ok (.aload_n 0, 1) := by decide +kernel
theorem dX4_now_85 : decode cX4_now 85 = .ok (.getfield 10, 3) := by decide +kernel
theorem dX4_now_88 : decode cX4_now 88 = .ok (.invokevirtual 76, 3) := by decide +kernel
theorem dX4_now_91 : decode cX4_now 91 = .ok (.ireturn, 1) := by decide +kernel
theorem dX4_now_92 : decode cX4_now 92 = .ok (.aload_n 0, 1) := by decide +kernel
theorem dX4_now_93 : decode cX4_now 93 = .ok (.getfield 10, 3) := by decide +kernel
theorem dX4_now_96 : decode cX4_now 96 = .ok (.invokevirtual 79, 3) := by decide +kernel
theorem dX4_now_99 : decode cX4_now 99 = .ok (.ireturn, 1) := by decide +kernel
theorem dX4_now_100 : decode cX4_now 100 = .ok (.aload_n 0, 1) := by decide +kernel
theorem dX4_now_101 : decode cX4_now 101 = .ok (.ldc 48, 2) := by decide +kernel
theorem dX4_now_103 : decode cX4_now 103 = .ok (.invokevirtual 49, 3) := by decide +kernel
theorem dX4_now_106 : decode cX4_now 106 = .ok (.ireturn, 1) := by decide +kernel
theorem dX4_person_0 : decode cX4_person 0 = .ok (.iload_n 1, 1) := by decide +kernel
theorem dX4_person_1 : decode cX4_person 1 = .ok (.invokestatic 82, 3) := by decide +kernel
theorem dX4_person_4 : decode cX4_person 4 = .ok (.ifCond .ne 10, 3) := by decide +kernel
theorem dX4_person_7 : decode cX4_person 7 = .ok (.aload_n 0, 1) := by decide +kernel
theorem dX4_person_8 : decode cX4_person 8 = .ok (.ldc 48, 2) := by decide +kernel
theorem dX4_person_10 : decode cX4_person 10 = .ok (.invokevirtual 49, 3) := by decide +kernel
theorem dX4_person_13 : decode cX4_person 13 = .ok (.ireturn, 1) := by decide +kernel
theorem dX4_person_14 : decode cX4_person 14 = .ok (.aload_n 0, 1) := by decide +kernel
theorem dX4_person_15 : decode cX4_person 15 = .ok (.getfield 10, 3) := by decide +kernel
theorem dX4_person_18 : decode cX4_person 18 = .ok (.getfield 86, 3) := by decide +kernel
theorem dX4_person_21 : decode cX4_person 21 = .ok (.bipush 8, 2) := by decide +kernel
theorem dX4_person_23 : decode cX4_person 23 = .ok (.if_icmp .lt 10, 3) := by decide +kernel
theorem dX4_person_26 : decode cX4_person 26 = .ok (.aload_n 0, 1) := by decide +kernel
theorem dX4_person_27 : decode cX4_person 27 = .ok (.ldc 89, 2) := by decide +kernel
theorem dX4_person_29 : decode cX4_person 29 = .ok (.invokevirtual 49, 3) := by decide +kernel
theorem dX4_person_32 : decode cX4_person 32 = .ok (.ireturn, 1) := by decide +kernel
theorem dX4_person_33 : decode cX4_person 33 = .ok (.aload_n 0, 1) := by decide +kernel
theorem dX4_person_34 : decode cX4_person 34 = .ok (.getfield 10, 3) := by decide +kernel
theorem dX4_person_37 : decode cX4_person 37 = .ok (.iload_n 1, 1) := by decide +kernel
theorem dX4_person_38 : decode cX4_person 38 = .ok (.bipush 20, 2) := by decide +kernel
theorem dX4_person_40 : decode cX4_person 40 = .ok (.invokevirtual 90, 3) := by decide +kernel
theorem dX4_person_43 : decode cX4_person 43 = .ok (.ireturn, 1) := by decide +kernel
theorem dX4_of_0 : decode cX4_of 0 = .ok (.aload_n 0, 1) := by decide +kernel
theorem dX4_of_1 : decode cX4_of 1 = .ok (.iload_n 1, 1) := by decide +kernel
theorem dX4_of_2 : decode cX4_of 2 = .ok (.invokevirtual 94, 3) := by decide +kernel
theorem dX4_of_5 : decode cX4_of 5 = .ok (.ifCond .ne 10, 3) := by decide +kernel
theorem dX4_of_8 : decode cX4_of 8 = .ok (.aload_n 0, 1) := by decide +kernel
theorem dX4_of_9 : decode cX4_of 9 = .ok (.ldc 48, 2) := by decide +kernel
theorem dX4_of_11 : decode cX4_of 11 = .ok (.invokevirtual 49, 3) := by decide +kernel
theorem dX4_of_14 : decode cX4_of 14 = .ok (.ireturn, 1) := by decide +kernel
theorem dX4_of_15 : decode cX4_of 15 = .ok (.iload_n 2, 1) := by decide +kernel
theorem dX4_of_16 : decode cX4_of 16 = .ok (.tableswitch 144 0 8 #[52, 62, 72, 82, 92, 102, 111, 124, 134], 52) := by decide +kernel
theorem dX4_of_68 : decode cX4_of 68 = .ok (.aload_n 0, 1) := by decide +kernel
theorem dX4_of_69 : decode cX4_of 69 = .ok (.getfield 10, 3) := by decide +kernel
theorem dX4_of_72 : decode cX4_of 72 = .ok (.getfield 97, 3) := by decide +kernel
theorem dX4_of_75 : decode cX4_of 75 = .ok (.iload_n 1, 1) := by decide +kernel
theorem dX4_of_76 : decode cX4_of 76 = .ok (.iaload, 1) := by decide +kernel
theorem dX4_of_77 : decode cX4_of 77 = .ok (.ireturn, 1) := by decide +kernel
theorem dX4_of_78 : decode cX4_of 78 = .ok (.aload_n 0, 1) := by decide +kernel
theorem dX4_of_79 : decode cX4_of 79 = .ok (.getfield 10, 3) := by decide +kernel
theorem dX4_of_82 : decode cX4_of 82 = .ok (.getfield 100, 3) := by decide +kernel
theorem dX4_of_85 : decode cX4_of 85 = .ok (.iload_n 1, 1) := by decide +kernel
theorem dX4_of_86 : decode cX4_of 86 = .ok (.iaload, 1) := by decide +kernel
theorem dX4_of_87 : decode cX4_of 87 = .ok (.ireturn, 1) := by decide +kernel
theorem dX4_of_88 : decode cX4_of 88 = .ok (.aload_n 0, 1) := by decide +kernel
theorem dX4_of_89 : decode cX4_of 89 = .ok (.getfield 10, 3) := by decide +kernel
theorem dX4_of_92 : decode cX4_of 92 = .ok (.getfield 103, 3) := by decide +kernel
theorem dX4_of_95 : decode cX4_of 95 = .ok (.iload_n 1, 1) := by decide +kernel
theorem dX4_of_96 : decode cX4_of 96 = .ok (.iaload, 1) := by decide +kernel
theorem dX4_of_97 : decode cX4_of 97 = .ok (.ireturn, 1) := by decide +kernel
theorem dX4_of_98 : decode cX4_of 98 = .ok (.aload_n 0, 1) := by decide +kernel
theorem dX4_of_99 : decode cX4_of 99 = .ok (.getfield 10, 3) := by decide +kernel
theorem dX4_of_102 : decode cX4_of 102 = .ok (.getfield 106, 3) := by decide +kernel
theorem dX4_of_105 : decode cX4_of 105 = .ok (.iload_n 1, 1) := by decide +kernel
theorem dX4_of_106 : decode cX4_of 106 = .ok (.iaload, 1) := by decide +kernel
theorem dX4_of_107 : decode cX4_of 107 = .ok (.ireturn, 1) := by decide +kernel
theorem dX4_of_108 : decode cX4_of 108 = .ok (.aload_n 0, 1) := by decide +kernel
theorem dX4_of_109 : decode cX4_of 109 = .ok (.getfield 10, 3) := by decide +kernel
theorem dX4_of_112 : decode cX4_of 112 = .ok (.getfield 109, 3) := by decide +kernel
theorem dX4_of_115 : decode cX4_of 115 = .ok (.iload_n 1, 1) := by decide +kernel
theorem dX4_of_116 : decode cX4_of 116 = .ok (.iaload, 1) := by decide +kernel
theorem dX4_of_117 : decode cX4_of 117 = .ok (.ireturn, 1) := by decide +kernel
theorem dX4_of_118 : decode cX4_of 118 = .ok (.aload_n 0, 1) := by decide +kernel
theorem dX4_of_119 : decode cX4_of 119 = .ok (.getfield 10, 3) := by decide +kernel
theorem dX4_of_122 : decode cX4_of 122 = .ok (.iload_n 1, 1) := by decide +kernel
theorem dX4_of_123 : decode cX4_of 123 = .ok (.invokevirtual 112, 3) := by decide +kernel
theorem dX4_of_126 : decode cX4_of 126 = .ok (.ireturn, 1) := by decide +kernel
theorem dX4_of_127 : decode cX4_of 127 = .ok (.aload_n 0, 1) := by decide +kernel
theorem dX4_of_128 : decode cX4_of 128 = .ok (.getfield 10, 3) := by decide +kernel
theorem dX4_of_131 : decode cX4_of 131 = .ok (.getfield 97, 3) := by decide +kernel
theorem dX4_of_134 : decode cX4_of 134 = .ok (.iload_n 1, 1) := by decide +kernel
theorem dX4_of_135 : decode cX4_of 135 = .ok (.iaload, 1) := by decide +kernel
theorem dX4_of_136 : decode cX4_of 136 = .ok (.invokestatic 115, 3) := by decide +kernel
theorem dX4_of_139 : decode cX4_of 139 = .ok (.ireturn, 1) := by decide +kernel
theorem dX4_of_140 : decode cX4_of 140 = .ok (.aload_n 0, 1) := by decide +kernel
theorem dX4_of_141 : decode cX4_of 141 = .ok (.getfield 10, 3) := by decide +kernel
theorem dX4_of_144 : decode cX4_of 144 = .ok (.iload_n 1, 1) := by decide +kernel
theorem dX4_of_145 : decode cX4_of 145 = .ok (.iconst (-1), 1) := by decide +kernel
theorem dX4_of_146 : decode cX4_of 146 = .ok (.invokevirtual 120, 3) := by decide +kernel
theorem dX4_of_149 : decode cX4_of 149 = .ok (.ireturn, 1) := by decide +kernel
theorem dX4_of_150 : decode cX4_of 150 = .ok (.aload_n 0, 1) := by decide +kernel
theorem dX4_of_151 : decode cX4_of 151 = .ok (.getfield 10, 3) := by decide +kernel
theorem dX4_of_154 : decode cX4_of 154 = .ok (.iload_n 1, 1) := by decide +kernel
theorem dX4_of_155 : decode cX4_of 155 = .ok (.iconst 1, 1) := by decide +kernel
theorem dX4_of_156 : decode cX4_of 156 = .ok (.invokevirtual 120, 3) := by decide +kernel
theorem dX4_of_159 : decode cX4_of 159 = .ok (.ireturn, 1) := by decide +kernel
theorem dX4_of_160 : decode cX4_of 160 = .ok (.aload_n 0, 1) := by decide +kernel
theorem dX4_of_161 : decode cX4_of 161 = .ok (.ldc 48, 2) := by decide +kernel
theorem dX4_of_163 : decode cX4_of 163 = .ok (.invokevirtual 49, 3) := by decide +kernel
theorem dX4_of_166 : decode cX4_of 166 = .ok (.ireturn, 1) := by decide +kernel
theorem dX4_set_0 : decode cX4_set 0 = .ok (.aload_n 0, 1) := by decide +kernel
theorem dX4_set_1 : decode cX4_set 1 = .ok (.iload_n 1, 1) := by decide +kernel
theorem dX4_set_2 : decode cX4_set 2 = .ok (.invokevirtual 94, 3) := by decide +kernel
theorem dX4_set_5 : decode cX4_set 5 = .ok (.ifCond .eq 12, 3) := by decide +kernel
theorem dX4_set_8 : decode cX4_set 8 = .ok (.iload_n 2, 1) := by decide +kernel
theorem dX4_set_9 : decode cX4_set 9 = .ok (.iconst 2, 1) := by decide +kernel
theorem dX4_set_10 : decode cX4_set 10 = .ok (.iconst 4, 1) := by decide +kernel
theorem dX4_set_11 : decode cX4_set 11 = .ok (.invokestatic 44, 3) := by decide +kernel
theorem dX4_set_14 : decode cX4_set 14 = .ok (.ifCond .ne 10, 3) := by decide +kernel
theorem dX4_set_17 : decode cX4_set 17 = .ok (.aload_n 0, 1) := by decide +kernel
theorem dX4_set_18 : decode cX4_set 18 = .ok (.ldc 48, 2) := by decide +kernel
theorem dX4_set_20 : decode cX4_set 20 = .ok (.invokevirtual 49, 3) := by decide +kernel
theorem dX4_set_23 : decode cX4_set 23 = .ok (.ireturn, 1) := by decide +kernel
theorem dX4_set_24 : decode cX4_set 24 = .ok (.iload_n 3, 1) := by decide +kernel
theorem dX4_set_25 : decode cX4_set 25 = .ok (.iconst 0, 1) := by decide +kernel
theorem dX4_set_26 : decode cX4_set 26 = .ok (.iload_n 2, 1) := by decide +kernel
theorem dX4_set_27 : decode cX4_set 27 = .ok (.iconst 4, 1) := by decide +kernel
theorem dX4_set_28 : decode cX4_set 28 = .ok (.if_icmp .ne 9, 3) := by decide +kernel
theorem dX4_set_31 : decode cX4_set 31 = .ok (.sipush 9999, 3) := by decide +kernel
theorem dX4_set_34 : decode cX4_set 34 = .ok (.goto 6, 3) := by decide +kernel
theorem dX4_set_37 : decode cX4_set 37 = .ok (.sipush 200, 3) := by decide +kernel
theorem dX4_set_40 : decode cX4_set 40 = .ok (.invokestatic 44, 3) := by decide +kernel
theorem dX4_set_43 : decode cX4_set 43 = .ok (.ifCond .ne 10, 3) := by decide +kernel
theorem dX4_set_46 : decode cX4_set 46 = .ok (.aload_n 0, 1) := by decide +kernel
theorem dX4_set_47 : decode cX4_set 47 = .ok (.ldc 48, 2) := by decide +kernel
theorem dX4_set_49 : decode cX4_set 49 = .ok (.invokevirtual 49, 3) := by decide +kernel
theorem dX4_set_52 : decode cX4_set 52 = .ok (.ireturn, 1) := by decide +kernel
theorem dX4_set_53 : decode cX4_set 53 = .ok (.iload_n 2, 1) := by decide +kernel
theorem dX4_set_54 : decode cX4_set 54 = .ok (.iconst 2, 1) := by decide +kernel
theorem dX4_set_55 : decode cX4_set 55 = .ok (.if_icmp .ne 13, 3) := by decide +kernel
theorem dX4_set_58 : decode cX4_set 58 = .ok (.aload_n 0, 1) := by decide +kernel
theorem dX4_set_59 : decode cX4_set 59 = .ok (.getfield 10, 3) := by decide +kernel
theorem dX4_set_62 : decode cX4_set 62 = .ok (.getfield 103, 3) := by decide +kernel
theorem dX4_set_65 : decode cX4_set 65 = .ok (.goto 25, 3) := by decide +kernel
theorem dX4_set_68 : decode cX4_set 68 = .ok (.iload_n 2, 1) := by decide +kernel
theorem dX4_set_69 : decode cX4_set 69 = .ok (.iconst 3, 1) := by decide +kernel
theorem dX4_set_70 : decode cX4_set 70 = .ok (.if_icmp .ne 13, 3) := by decide +kernel
theorem dX4_set_73 : decode cX4_set 73 = .ok (.aload_n 0, 1) := by decide +kernel
theorem dX4_set_74 : decode cX4_set 74 = .ok (.getfield 10, 3) := by decide +kernel
theorem dX4_set_77 : decode cX4_set 77 = .ok (.getfield 106, 3) := by decide +kernel
theorem dX4_set_80 : decode cX4_set 80 = .ok (.goto 10, 3) := by decide +kernel
theorem dX4_set_83 : decode cX4_set 83 = .ok (.aload_n 0, 1) := by decide +kernel
theorem dX4_set_84 : decode cX4_set 84 = .ok (.getfield 10, 3) := by decide +kernel
theorem dX4_set_87 : decode cX4_set 87 = .ok (.getfield 109, 3) := by decide +kernel
theorem dX4_set_90 : decode cX4_set 90 = .ok (.astore 4, 2) := by decide +kernel
theorem dX4_set_92 : decode cX4_set 92 = .ok (.aload 4, 2) := by decide +kernel
theorem dX4_set_94 : decode cX4_set 94 = .ok (.iload_n 1, 1) := by decide +kernel
theorem dX4_set_95 : decode cX4_set 95 = .ok (.iaload, 1) := by decide +kernel
theorem dX4_set_96 : decode cX4_set 96 = .ok (.istore 5, 2) := by decide +kernel
theorem dX4_set_98 : decode cX4_set 98 = .ok (.aload 4, 2) := by decide +kernel
theorem dX4_set_100 : decode cX4_set 100 = .ok (.iload_n 1, 1) := by decide +kernel
theorem dX4_set_101 : decode cX4_set 101 = .ok (.iload_n 3, 1) := by decide +kernel
theorem dX4_set_102 : decode cX4_set 102 = .ok (.iastore, 1) := by decide +kernel
theorem dX4_set_103 : decode cX4_set 103 = .ok (.iload 5, 2) := by decide +kernel
theorem dX4_set_105 : decode cX4_set 105 = .ok (.ireturn, 1) := by decide +kernel
theorem dX4_turn_0 : decode cX4_turn 0 = .ok (.aload_n 0, 1) := by decide +kernel
theorem dX4_turn_1 : decode cX4_turn 1 = .ok (.iload_n 1, 1) := by decide +kernel
theorem dX4_turn_2 : decode cX4_turn 2 = .ok (.invokevirtual 94, 3) := by decide +kernel
theorem dX4_turn_5 : decode cX4_turn 5 = .ok (.ifCond .eq 10, 3) := by decide +kernel
theorem dX4_turn_8 : decode cX4_turn 8 = .ok (.iload_n 2, 1) := by decide +kernel
theorem dX4_turn_9 : decode cX4_turn 9 = .ok (.invokestatic 82, 3) := by decide +kernel
theorem dX4_turn_12 : decode cX4_turn 12 = .ok (.ifCond .ne 10, 3) := by decide +kernel
theorem dX4_turn_15 : decode cX4_turn 15 = .ok (.aload_n 0, 1) := by decide +kernel
theorem dX4_turn_16 : decode cX4_turn 16 = .ok (.ldc 48, 2) := by decide +kernel
theorem dX4_turn_18 : decode cX4_turn 18 = .ok (.invokevirtual 49, 3) := by decide +kernel
theorem dX4_turn_21 : decode cX4_turn 21 = .ok (.ireturn, 1) := by decide +kernel
theorem dX4_turn_22 : decode cX4_turn 22 = .ok (.aload_n 0, 1) := by decide +kernel
theorem dX4_turn_23 : decode cX4_turn 23 = .ok (.getfield 10, 3) := by decide +kernel
theorem dX4_turn_26 : decode cX4_turn 26 = .ok (.getfield 97, 3) := by decide +kernel
theorem dX4_turn_29 : decode cX4_turn 29 = .ok (.iload_n 1, 1) := by decide +kernel
theorem dX4_turn_30 : decode cX4_turn 30 = .ok (.iaload, 1) := by decide +kernel
theorem dX4_turn_31 : decode cX4_turn 31 = .ok (.istore_n 3, 1) := by decide +kernel
theorem dX4_turn_32 : decode cX4_turn 32 = .ok (.aload_n 0, 1) := by decide +kernel
theorem dX4_turn_33 : decode cX4_turn 33 = .ok (.getfield 10, 3) := by decide +kernel
theorem dX4_turn_36 : decode cX4_turn 36 = .ok (.getfield 97, 3) := by decide +kernel
theorem dX4_turn_39 : decode cX4_turn 39 = .ok (.iload_n 1, 1) := by decide +kernel
theorem dX4_turn_40 : decode cX4_turn 40 = .ok (.iload_n 2, 1) := by decide +kernel
theorem dX4_turn_41 : decode cX4_turn 41 = .ok (.iastore, 1) := by decide +kernel
theorem dX4_turn_42 : decode cX4_turn 42 = .ok (.iload_n 3, 1) := by decide +kernel
theorem dX4_turn_43 : decode cX4_turn 43 = .ok (.ireturn, 1) := by decide +kernel
theorem dX4_as_0 : decode cX4_as 0 = .ok (.aload_n 0, 1) := by decide +kernel
theorem dX4_as_1 : decode cX4_as 1 = .ok (.iload_n 1, 1) := by decide +kernel
theorem dX4_as_2 : decode cX4_as 2 = .ok (.invokevirtual 94, 3) := by decide +kernel
theorem dX4_as_5 : decode cX4_as 5 = .ok (.ifCond .eq 10, 3) := by decide +kernel
theorem dX4_as_8 : decode cX4_as 8 = .ok (.iload_n 2, 1) := by decide +kernel
theorem dX4_as_9 : decode cX4_as 9 = .ok (.invokestatic 82, 3) := by decide +kernel
theorem dX4_as_12 : decode cX4_as 12 = .ok (.ifCond .ne 10, 3) := by decide +kernel
theorem dX4_as_15 : decode cX4_as 15 = .ok (.aload_n 0, 1) := by decide +kernel
theorem dX4_as_16 : decode cX4_as 16 = .ok (.ldc 48, 2) := by decide +kernel
theorem dX4_as_18 : decode cX4_as 18 = .ok (.invokevirtual 49, 3) := by decide +kernel
theorem dX4_as_21 : decode cX4_as 21 = .ok (.ireturn, 1) := by decide +kernel
theorem dX4_as_22 : decode cX4_as 22 = .ok (.aload_n 0, 1) := by decide +kernel
theorem dX4_as_23 : decode cX4_as 23 = .ok (.getfield 10, 3) := by decide +kernel
theorem dX4_as_26 : decode cX4_as 26 = .ok (.getfield 97, 3) := by decide +kernel
theorem dX4_as_29 : decode cX4_as 29 = .ok (.iload_n 1, 1) := by decide +kernel
theorem dX4_as_30 : decode cX4_as 30 = .ok (.iaload, 1) := by decide +kernel
theorem dX4_as_31 : decode cX4_as 31 = .ok (.iload_n 2, 1) := by decide +kernel
theorem dX4_as_32 : decode cX4_as 32 = .ok (.invokestatic 123, 3) := by decide +kernel
theorem dX4_as_35 : decode cX4_as 35 = .ok (.ifCond .ne 10, 3) := by decide +kernel
theorem dX4_as_38 : decode cX4_as 38 = .ok (.aload_n 0, 1) := by decide +kernel
theorem dX4_as_39 : decode cX4_as 39 = .ok (.ldc 127, 2) := by decide +kernel
theorem dX4_as_41 : decode cX4_as 41 = .ok (.invokevirtual 49, 3) := by decide +kernel
theorem dX4_as_44 : decode cX4_as 44 = .ok (.ireturn, 1) := by decide +kernel
theorem dX4_as_45 : decode cX4_as 45 = .ok (.aload_n 0, 1) := by decide +kernel
theorem dX4_as_46 : decode cX4_as 46 = .ok (.getfield 10, 3) := by decide +kernel
theorem dX4_as_49 : decode cX4_as 49 = .ok (.iload_n 1, 1) := by decide +kernel
theorem dX4_as_50 : decode cX4_as 50 = .ok (.invokevirtual 128, 3) := by decide +kernel
theorem dX4_as_53 : decode cX4_as 53 = .ok (.ireturn, 1) := by decide +kernel
theorem dX4_sit_0 : decode cX4_sit 0 = .ok (.aload_n 0, 1) := by decide +kernel
theorem dX4_sit_1 : decode cX4_sit 1 = .ok (.iload_n 1, 1) := by decide +kernel
theorem dX4_sit_2 : decode cX4_sit 2 = .ok (.invokevirtual 94, 3) := by decide +kernel
theorem dX4_sit_5 : decode cX4_sit 5 = .ok (.ifCond .eq 13, 3) := by decide +kernel
theorem dX4_sit_8 : decode cX4_sit 8 = .ok (.iload_n 2, 1) := by decide +kernel
theorem dX4_sit_9 : decode cX4_sit 9 = .ok (.iconst (-1), 1) := by decide +kernel
theorem dX4_sit_10 : decode cX4_sit 10 = .ok (.bipush 9, 2) := by decide +kernel
theorem dX4_sit_12 : decode cX4_sit 12 = .ok (.invokestatic 44, 3) := by decide +kernel
theorem dX4_sit_15 : decode cX4_sit 15 = .ok (.ifCond .ne 10, 3) := by decide +kernel
theorem dX4_sit_18 : decode cX4_sit 18 = .ok (.aload_n 0, 1) := by decide +kernel
theorem dX4_sit_19 : decode cX4_sit 19 = .ok (.ldc 48, 2) := by decide +kernel
theorem dX4_sit_21 : decode cX4_sit 21 = .ok (.invokevirtual 49, 3) := by decide +kernel
theorem dX4_sit_24 : decode cX4_sit 24 = .ok (.ireturn, 1) := by decide +kernel
theorem dX4_sit_25 : decode cX4_sit 25 = .ok (.iload_n 2, 1) := by decide +kernel
theorem dX4_sit_26 : decode cX4_sit 26 = .ok (.ifCond .lt 22, 3) := by decide +kernel
theorem dX4_sit_29 : decode cX4_sit 29 = .ok (.aload_n 0, 1) := by decide +kernel
theorem dX4_sit_30 : decode cX4_sit 30 = .ok (.getfield 10, 3) := by decide +kernel
theorem dX4_sit_33 : decode cX4_sit 33 = .ok (.iload_n 1, 1) := by decide +kernel
theorem dX4_sit_34 : decode cX4_sit 34 = .ok (.iload_n 2, 1) := by decide +kernel
theorem dX4_sit_35 : decode cX4_sit 35 = .ok (.invokevirtual 131, 3) := by decide +kernel
theorem dX4_sit_38 : decode cX4_sit 38 = .ok (.ifCond .ne 10, 3) := by decide +kernel
theorem dX4_sit_41 : decode cX4_sit 41 = .ok (.aload_n 0, 1) := by decide +kernel
theorem dX4_sit_42 : decode cX4_sit 42 = .ok (.ldc 134, 2) := by decide +kernel
theorem dX4_sit_44 : decode cX4_sit 44 = .ok (.invokevirtual 49, 3) := by decide +kernel
theorem dX4_sit_47 : decode cX4_sit 47 = .ok (.ireturn, 1) := by decide +kernel
theorem dX4_sit_48 : decode cX4_sit 48 = .ok (.aload_n 0, 1) := by decide +kernel
theorem dX4_sit_49 : decode cX4_sit 49 = .ok (.getfield 10, 3) := by decide +kernel
theorem dX4_sit_52 : decode cX4_sit 52 = .ok (.getfield 100, 3) := by decide +kernel
theorem dX4_sit_55 : decode cX4_sit 55 = .ok (.iload_n 1, 1) := by decide +kernel
theorem dX4_sit_56 : decode cX4_sit 56 = .ok (.iaload, 1) := by decide +kernel
theorem dX4_sit_57 : decode cX4_sit 57 = .ok (.istore_n 3, 1) := by decide +kernel
theorem dX4_sit_58 : decode cX4_sit 58 = .ok (.aload_n 0, 1) := by decide +kernel
theorem dX4_sit_59 : decode cX4_sit 59 = .ok (.getfield 10, 3) := by decide +kernel
theorem dX4_sit_62 : decode cX4_sit 62 = .ok (.iload_n 1, 1) := by decide +kernel
theorem dX4_sit_63 : decode cX4_sit 63 = .ok (.iload_n 2, 1) := by decide +kernel
theorem dX4_sit_64 : decode cX4_sit 64 = .ok (.invokevirtual 135, 3) := by decide +kernel
theorem dX4_sit_67 : decode cX4_sit 67 = .ok (.iload_n 3, 1) := by decide +kernel
theorem dX4_sit_68 : decode cX4_sit 68 = .ok (.ireturn, 1) := by decide +kernel
theorem dX4_given_0 : decode cX4_given 0 = .ok (.aload_n 0, 1) := by decide +kernel
theorem dX4_given_1 : decode cX4_given 1 = .ok (.iload_n 1, 1) := by decide +kernel
theorem dX4_given_2 : decode cX4_given 2 = .ok (.invokevirtual 94, 3) := by decide +kernel
theorem dX4_given_5 : decode cX4_given 5 = .ok (.ifCond .eq 12, 3) := by decide +kernel
theorem dX4_given_8 : decode cX4_given 8 = .ok (.iload_n 2, 1) := by decide +kernel
theorem dX4_given_9 : decode cX4_given 9 = .ok (.iconst 0, 1) := by decide +kernel
theorem dX4_given_10 : decode cX4_given 10 = .ok (.iconst 1, 1) := by decide +kernel
theorem dX4_given_11 : decode cX4_given 11 = .ok (.invokestatic 44, 3) := by decide +kernel
theorem dX4_given_14 : decode cX4_given 14 = .ok (.ifCond .ne 10, 3) := by decide +kernel
theorem dX4_given_17 : decode cX4_given 17 = .ok (.aload_n 0, 1) := by decide +kernel
theorem dX4_given_18 : decode cX4_given 18 = .ok (.ldc 48, 2) := by decide +kernel
theorem dX4_given_20 : decode cX4_given 20 = .ok (.invokevirtual 49, 3) := by decide +kernel
theorem dX4_given_23 : decode cX4_given 23 = .ok (.ireturn, 1) := by decide +kernel
theorem dX4_given_24 : decode cX4_given 24 = .ok (.iload_n 2, 1) := by decide +kernel
theorem dX4_given_25 : decode cX4_given 25 = .ok (.ifCond .ne 14, 3) := by decide +kernel
theorem dX4_given_28 : decode cX4_given 28 = .ok (.aload_n 0, 1) := by decide +kernel
theorem dX4_given_29 : decode cX4_given 29 = .ok (.getfield 10, 3) := by decide +kernel
theorem dX4_given_32 : decode cX4_given 32 = .ok (.iload_n 1, 1) := by decide +kernel
theorem dX4_given_33 : decode cX4_given 33 = .ok (.invokevirtual 139, 3) := by decide +kernel
theorem dX4_given_36 : decode cX4_given 36 = .ok (.goto 11, 3) := by decide +kernel
theorem dX4_given_39 : decode cX4_given 39 = .ok (.aload_n 0, 1) := by decide +kernel
theorem dX4_given_40 : decode cX4_given 40 = .ok (.getfield 10, 3) := by decide +kernel
theorem dX4_given_43 : decode cX4_given 43 = .ok (.iload_n 1, 1) := by decide +kernel
theorem dX4_given_44 : decode cX4_given 44 = .ok (.invokevirtual 142, 3) := by decide +kernel
theorem dX4_given_47 : decode cX4_given 47 = .ok (.ireturn, 1) := by decide +kernel
theorem dX4_hours_0 : decode cX4_hours 0 = .ok (.iload_n 1, 1) := by decide +kernel
theorem dX4_hours_1 : decode cX4_hours 1 = .ok (.iconst 1, 1) := by decide +kernel
theorem dX4_hours_2 : decode cX4_hours 2 = .ok (.bipush 100, 2) := by decide +kernel
theorem dX4_hours_4 : decode cX4_hours 4 = .ok (.invokestatic 44, 3) := by decide +kernel
theorem dX4_hours_7 : decode cX4_hours 7 = .ok (.ifCond .ne 10, 3) := by decide +kernel
theorem dX4_hours_10 : decode cX4_hours 10 = .ok (.aload_n 0, 1) := by decide +kernel
theorem dX4_hours_11 : decode cX4_hours 11 = .ok (.ldc 48, 2) := by decide +kernel
theorem dX4_hours_13 : decode cX4_hours 13 = .ok (.invokevirtual 49, 3) := by decide +kernel
theorem dX4_hours_16 : decode cX4_hours 16 = .ok (.ireturn, 1) := by decide +kernel
theorem dX4_hours_17 : decode cX4_hours 17 = .ok (.aload_n 0, 1) := by decide +kernel
theorem dX4_hours_18 : decode cX4_hours 18 = .ok (.getfield 10, 3) := by decide +kernel
theorem dX4_hours_21 : decode cX4_hours 21 = .ok (.getfield 59, 3) := by decide +kernel
theorem dX4_hours_24 : decode cX4_hours 24 = .ok (.iload_n 1, 1) := by decide +kernel
theorem dX4_hours_25 : decode cX4_hours 25 = .ok (.iadd, 1) := by decide +kernel
theorem dX4_hours_26 : decode cX4_hours 26 = .ok (.ldc 145, 2) := by decide +kernel
theorem dX4_hours_28 : decode cX4_hours 28 = .ok (.if_icmp .le 10, 3) := by decide +kernel
theorem dX4_hours_31 : decode cX4_hours 31 = .ok (.aload_n 0, 1) := by decide +kernel
theorem dX4_hours_32 : decode cX4_hours 32 = .ok (.ldc 134, 2) := by decide +kernel
theorem dX4_hours_34 : decode cX4_hours 34 = .ok (.invokevirtual 49, 3) := by decide +kernel
theorem dX4_hours_37 : decode cX4_hours 37 = .ok (.ireturn, 1) := by decide +kernel
theorem dX4_hours_38 : decode cX4_hours 38 = .ok (.aload_n 0, 1) := by decide +kernel
theorem dX4_hours_39 : decode cX4_hours 39 = .ok (.getfield 10, 3) := by decide +kernel
theorem dX4_hours_42 : decode cX4_hours 42 = .ok (.iload_n 1, 1) := by decide +kernel
theorem dX4_hours_43 : decode cX4_hours 43 = .ok (.invokevirtual 146, 3) := by decide +kernel
theorem dX4_hours_46 : decode cX4_hours 46 = .ok (.aload_n 0, 1) := by decide +kernel
theorem dX4_hours_47 : decode cX4_hours 47 = .ok (.getfield 10, 3) := by decide +kernel
theorem dX4_hours_50 : decode cX4_hours 50 = .ok (.invokevirtual 76, 3) := by decide +kernel
theorem dX4_hours_53 : decode cX4_hours 53 = .ok (.ireturn, 1) := by decide +kernel
theorem dX4_on_0 : decode cX4_on 0 = .ok (.aload_n 0, 1) := by decide +kernel
theorem dX4_on_1 : decode cX4_on 1 = .ok (.iload_n 1, 1) := by decide +kernel
theorem dX4_on_2 : decode cX4_on 2 = .ok (.invokevirtual 94, 3) := by decide +kernel
theorem dX4_on_5 : decode cX4_on 5 = .ok (.ifCond .eq 23, 3) := by decide +kernel
theorem dX4_on_8 : decode cX4_on 8 = .ok (.iload_n 2, 1) := by decide +kernel
theorem dX4_on_9 : decode cX4_on 9 = .ok (.iconst 0, 1) := by decide +kernel
theorem dX4_on_10 : decode cX4_on 10 = .ok (.sipush 200, 3) := by decide +kernel
theorem dX4_on_13 : decode cX4_on 13 = .ok (.invokestatic 44, 3) := by decide +kernel
theorem dX4_on_16 : decode cX4_on 16 = .ok (.ifCond .eq 12, 3) := by decide +kernel
theorem dX4_on_19 : decode cX4_on 19 = .ok (.iload_n 3, 1) := by decide +kernel
theorem dX4_on_20 : decode cX4_on 20 = .ok (.iconst 0, 1) := by decide +kernel
theorem dX4_on_21 : decode cX4_on 21 = .ok (.iconst 2, 1) := by decide +kernel
theorem dX4_on_22 : decode cX4_on 22 = .ok (.invokestatic 44, 3) := by decide +kernel
theorem dX4_on_25 : decode cX4_on 25 = .ok (.ifCond .ne 10, 3) := by decide +kernel
theorem dX4_on_28 : decode cX4_on 28 = .ok (.aload_n 0, 1) := by decide +kernel
theorem dX4_on_29 : decode cX4_on 29 = .ok (.ldc 48, 2) := by decide +kernel
theorem dX4_on_31 : decode cX4_on 31 = .ok (.invokevirtual 49, 3) := by decide +kernel
theorem dX4_on_34 : decode cX4_on 34 = .ok (.ireturn, 1) := by decide +kernel
theorem dX4_on_35 : decode cX4_on 35 = .ok (.aload_n 0, 1) := by decide +kernel
theorem dX4_on_36 : decode cX4_on 36 = .ok (.invokevirtual 150, 3) := by decide +kernel
theorem dX4_on_39 : decode cX4_on 39 = .ok (.aload_n 0, 1) := by decide +kernel
theorem dX4_on_40 : decode cX4_on 40 = .ok (.getfield 16, 3) := by decide +kernel
theorem dX4_on_43 : decode cX4_on 43 = .ok (.iload_n 2, 1) := by decide +kernel
theorem dX4_on_44 : decode cX4_on 44 = .ok (.invokevirtual 146, 3) := by decide +kernel
theorem dX4_on_47 : decode cX4_on 47 = .ok (.iload_n 3, 1) := by decide +kernel
theorem dX4_on_48 : decode cX4_on 48 = .ok (.ifCond .ne 13, 3) := by decide +kernel
theorem dX4_on_51 : decode cX4_on 51 = .ok (.aload_n 0, 1) := by decide +kernel
theorem dX4_on_52 : decode cX4_on 52 = .ok (.getfield 16, 3) := by decide +kernel
theorem dX4_on_55 : decode cX4_on 55 = .ok (.getfield 103, 3) := by decide +kernel
theorem dX4_on_58 : decode cX4_on 58 = .ok (.goto 25, 3) := by decide +kernel
theorem dX4_on_61 : decode cX4_on 61 = .ok (.iload_n 3, 1) := by decide +kernel
theorem dX4_on_62 : decode cX4_on 62 = .ok (.iconst 1, 1) := by decide +kernel
theorem dX4_on_63 : decode cX4_on 63 = .ok (.if_icmp .ne 13, 3) := by decide +kernel
theorem dX4_on_66 : decode cX4_on 66 = .ok (.aload_n 0, 1) := by decide +kernel
theorem dX4_on_67 : decode cX4_on 67 = .ok (.getfield 16, 3) := by decide +kernel
theorem dX4_on_70 : decode cX4_on 70 = .ok (.getfield 106, 3) := by decide +kernel
theorem dX4_on_73 : decode cX4_on 73 = .ok (.goto 10, 3) := by decide +kernel
theorem dX4_on_76 : decode cX4_on 76 = .ok (.aload_n 0, 1) := by decide +kernel
theorem dX4_on_77 : decode cX4_on 77 = .ok (.getfield 16, 3) := by decide +kernel
theorem dX4_on_80 : decode cX4_on 80 = .ok (.getfield 109, 3) := by decide +kernel
theorem dX4_on_83 : decode cX4_on 83 = .ok (.astore 4, 2) := by decide +kernel
theorem dX4_on_85 : decode cX4_on 85 = .ok (.aload 4, 2) := by decide +kernel
theorem dX4_on_87 : decode cX4_on 87 = .ok (.iload_n 1, 1) := by decide +kernel
theorem dX4_on_88 : decode cX4_on 88 = .ok (.iaload, 1) := by decide +kernel
theorem dX4_on_89 : decode cX4_on 89 = .ok (.ireturn, 1) := by decide +kernel
theorem dX4_brown_0 : decode cX4_brown 0 = .ok (.aload_n 0, 1) := by decide +kernel
theorem dX4_brown_1 : decode cX4_brown 1 = .ok (.iload_n 1, 1) := by decide +kernel
theorem dX4_brown_2 : decode cX4_brown 2 = .ok (.invokevirtual 94, 3) := by decide +kernel
theorem dX4_brown_5 : decode cX4_brown 5 = .ok (.ifCond .eq 14, 3) := by decide +kernel
theorem dX4_brown_8 : decode cX4_brown 8 = .ok (.iload_n 2, 1) := by decide +kernel
theorem dX4_brown_9 : decode cX4_brown 9 = .ok (.iconst 0, 1) := by decide +kernel
theorem dX4_brown_10 : decode cX4_brown 10 = .ok (.sipush 400, 3) := by decide +kernel
theorem dX4_brown_13 : decode cX4_brown 13 = .ok (.invokestatic 44, 3) := by decide +kernel
theorem dX4_brown_16 : decode cX4_brown 16 = .ok (.ifCond .ne 10, 3) := by decide +kernel
theorem dX4_brown_19 : decode cX4_brown 19 = .ok (.aload_n 0, 1) := by decide +kernel
theorem dX4_brown_20 : decode cX4_brown 20 = .ok (.ldc 48, 2) := by decide +kernel
theorem dX4_brown_22 : decode cX4_brown 22 = .ok (.invokevirtual 49, 3) := by decide +kernel
theorem dX4_brown_25 : decode cX4_brown 25 = .ok (.ireturn, 1) := by decide +kernel
theorem dX4_brown_26 : decode cX4_brown 26 = .ok (.aload_n 0, 1) := by decide +kernel
theorem dX4_brown_27 : decode cX4_brown 27 = .ok (.invokevirtual 150, 3) := by decide +kernel
theorem dX4_brown_30 : decode cX4_brown 30 = .ok (.iconst 0, 1) := by decide +kernel
theorem dX4_brown_31 : decode cX4_brown 31 = .ok (.istore_n 3, 1) := by decide +kernel
theorem dX4_brown_32 : decode cX4_brown 32 = .ok (.iload_n 3, 1) := by decide +kernel
theorem dX4_brown_33 : decode cX4_brown 33 = .ok (.sipush 200, 3) := by decide +kernel
theorem dX4_brown_36 : decode cX4_brown 36 = .ok (.if_icmp .gt 30, 3) := by decide +kernel
theorem dX4_brown_39 : decode cX4_brown 39 = .ok (.aload_n 0, 1) := by decide +kernel
theorem dX4_brown_40 : decode cX4_brown 40 = .ok (.getfield 16, 3) := by decide +kernel
theorem dX4_brown_43 : decode cX4_brown 43 = .ok (.iload_n 1, 1) := by decide +kernel
theorem dX4_brown_44 : decode cX4_brown 44 = .ok (.invokevirtual 128, 3) := by decide +kernel
theorem dX4_brown_47 : decode cX4_brown 47 = .ok (.iload_n 2, 1) := by decide +kernel
theorem dX4_brown_48 : decode cX4_brown 48 = .ok (.if_icmp .lt 5, 3) := by decide +kernel
theorem dX4_brown_51 : decode cX4_brown 51 = .ok (.iload_n 3, 1) := by decide +kernel
theorem dX4_brown_52 : decode cX4_brown 52 = .ok (.ireturn, 1) := by decide +kernel
theorem dX4_brown_53 : decode cX4_brown 53 = .ok (.aload_n 0, 1) := by decide +kernel
theorem dX4_brown_54 : decode cX4_brown 54 = .ok (.getfield 16, 3) := by decide +kernel
theorem dX4_brown_57 : decode cX4_brown 57 = .ok (.invokevirtual 153, 3) := by decide +kernel
theorem dX4_brown_60 : decode cX4_brown 60 = .ok (.iinc 3 1, 3) := by decide +kernel
theorem dX4_brown_63 : decode cX4_brown 63 = .ok (.goto (-31), 3) := by decide +kernel
theorem dX4_brown_66 : decode cX4_brown 66 = .ok (.aload_n 0, 1) := by decide +kernel
theorem dX4_brown_67 : decode cX4_brown 67 = .ok (.ldc 156, 2) := by decide +kernel
theorem dX4_brown_69 : decode cX4_brown 69 = .ok (.invokevirtual 49, 3) := by decide +kernel
theorem dX4_brown_72 : decode cX4_brown 72 = .ok (.ireturn, 1) := by decide +kernel
theorem dX4_burns_0 : decode cX4_burns 0 = .ok (.aload_n 0, 1) := by decide +kernel
theorem dX4_burns_1 : decode cX4_burns 1 = .ok (.iload_n 1, 1) := by decide +kernel
theorem dX4_burns_2 : decode cX4_burns 2 = .ok (.invokevirtual 94, 3) := by decide +kernel
theorem dX4_burns_5 : decode cX4_burns 5 = .ok (.ifCond .ne 10, 3) := by decide +kernel
theorem dX4_burns_8 : decode cX4_burns 8 = .ok (.aload_n 0, 1) := by decide +kernel
theorem dX4_burns_9 : decode cX4_burns 9 = .ok (.ldc 48, 2) := by decide +kernel
theorem dX4_burns_11 : decode cX4_burns 11 = .ok (.invokevirtual 49, 3) := by decide +kernel
theorem dX4_burns_14 : decode cX4_burns 14 = .ok (.ireturn, 1) := by decide +kernel
theorem dX4_burns_15 : decode cX4_burns 15 = .ok (.aload_n 0, 1) := by decide +kernel
theorem dX4_burns_16 : decode cX4_burns 16 = .ok (.invokevirtual 150, 3) := by decide +kernel
theorem dX4_burns_19 : decode cX4_burns 19 = .ok (.iconst 1, 1) := by decide +kernel
theorem dX4_burns_20 : decode cX4_burns 20 = .ok (.istore_n 2, 1) := by decide +kernel
theorem dX4_burns_21 : decode cX4_burns 21 = .ok (.iload_n 2, 1) := by decide +kernel
theorem dX4_burns_22 : decode cX4_burns 22 = .ok (.sipush 200, 3) := by decide +kernel
theorem dX4_burns_25 : decode cX4_burns 25 = .ok (.if_icmp .gt 39, 3) := by decide +kernel
theorem dX4_burns_28 : decode cX4_burns 28 = .ok (.aload_n 0, 1) := by decide +kernel
theorem dX4_burns_29 : decode cX4_burns 29 = .ok (.getfield 16, 3) := by decide +kernel
theorem dX4_burns_32 : decode cX4_burns 32 = .ok (.invokevirtual 153, 3) := by decide +kernel
theorem dX4_burns_35 : decode cX4_burns 35 = .ok (.aload_n 0, 1) := by decide +kernel
theorem dX4_burns_36 : decode cX4_burns 36 = .ok (.getfield 16, 3) := by decide +kernel
theorem dX4_burns_39 : decode cX4_burns 39 = .ok (.getfield 109, 3) := by decide +kernel
theorem dX4_burns_42 : decode cX4_burns 42 = .ok (.iload_n 1, 1) := by decide +kernel
theorem dX4_burns_43 : decode cX4_burns 43 = .ok (.iaload, 1) := by decide +kernel
theorem dX4_burns_44 : decode cX4_burns 44 = .ok (.aload_n 0, 1) := by decide +kernel
theorem dX4_burns_45 : decode cX4_burns 45 = .ok (.getfield 10, 3) := by decide +kernel
theorem dX4_burns_48 : decode cX4_burns 48 = .ok (.getfield 109, 3) := by decide +kernel
theorem dX4_burns_51 : decode cX4_burns 51 = .ok (.iload_n 1, 1) := by decide +kernel
theorem dX4_burns_52 : decode cX4_burns 52 = .ok (.iaload, 1) := by decide +kernel
theorem dX4_burns_53 : decode cX4_burns 53 = .ok (.if_icmp .le 5, 3) := by decide +kernel
theorem dX4_burns_56 : decode cX4_burns 56 = .ok (.iload_n 2, 1) := by decide +kernel
theorem dX4_burns_57 : decode cX4_burns 57 = .ok (.ireturn, 1) := by decide +kernel
theorem dX4_burns_58 : decode cX4_burns 58 = .ok (.iinc 2 1, 3) := by decide +kernel
theorem dX4_burns_61 : decode cX4_burns 61 = .ok (.goto (-40), 3) := by decide +kernel
theorem dX4_burns_64 : decode cX4_burns 64 = .ok (.aload_n 0, 1) := by decide +kernel
theorem dX4_burns_65 : decode cX4_burns 65 = .ok (.ldc 156, 2) := by decide +kernel
theorem dX4_burns_67 : decode cX4_burns 67 = .ok (.invokevirtual 49, 3) := by decide +kernel
theorem dX4_burns_70 : decode cX4_burns 70 = .ok (.ireturn, 1) := by decide +kernel
theorem dX4_even_0 : decode cX4_even 0 = .ok (.aload_n 0, 1) := by decide +kernel
theorem dX4_even_1 : decode cX4_even 1 = .ok (.iload_n 1, 1) := by decide +kernel
theorem dX4_even_2 : decode cX4_even 2 = .ok (.invokevirtual 94, 3) := by decide +kernel
theorem dX4_even_5 : decode cX4_even 5 = .ok (.ifCond .ne 10, 3) := by decide +kernel
theorem dX4_even_8 : decode cX4_even 8 = .ok (.aload_n 0, 1) := by decide +kernel
theorem dX4_even_9 : decode cX4_even 9 = .ok (.ldc 48, 2) := by decide +kernel
theorem dX4_even_11 : decode cX4_even 11 = .ok (.invokevirtual 49, 3) := by decide +kernel
theorem dX4_even_14 : decode cX4_even 14 = .ok (.ireturn, 1) := by decide +kernel
theorem dX4_even_15 : decode cX4_even 15 = .ok (.aload_n 0, 1) := by decide +kernel
theorem dX4_even_16 : decode cX4_even 16 = .ok (.invokevirtual 150, 3) := by decide +kernel
theorem dX4_even_19 : decode cX4_even 19 = .ok (.iconst 0, 1) := by decide +kernel
theorem dX4_even_20 : decode cX4_even 20 = .ok (.istore_n 2, 1) := by decide +kernel
theorem dX4_even_21 : decode cX4_even 21 = .ok (.iload_n 2, 1) := by decide +kernel
theorem dX4_even_22 : decode cX4_even 22 = .ok (.sipush 200, 3) := by decide +kernel
theorem dX4_even_25 : decode cX4_even 25 = .ok (.if_icmp .gt 29, 3) := by decide +kernel
theorem dX4_even_28 : decode cX4_even 28 = .ok (.aload_n 0, 1) := by decide +kernel
theorem dX4_even_29 : decode cX4_even 29 = .ok (.getfield 16, 3) := by decide +kernel
theorem dX4_even_32 : decode cX4_even 32 = .ok (.iload_n 1, 1) := by decide +kernel
theorem dX4_even_33 : decode cX4_even 33 = .ok (.invokevirtual 157, 3) := by decide +kernel
theorem dX4_even_36 : decode cX4_even 36 = .ok (.ifCond .eq 5, 3) := by decide +kernel
theorem dX4_even_39 : decode cX4_even 39 = .ok (.iload_n 2, 1) := by decide +kernel
theorem dX4_even_40 : decode cX4_even 40 = .ok (.ireturn, 1) := by decide +kernel
theorem dX4_even_41 : decode cX4_even 41 = .ok (.aload_n 0, 1) := by decide +kernel
theorem dX4_even_42 : decode cX4_even 42 = .ok (.getfield 16, 3) := by decide +kernel
theorem dX4_even_45 : decode cX4_even 45 = .ok (.invokevirtual 153, 3) := by decide +kernel
theorem dX4_even_48 : decode cX4_even 48 = .ok (.iinc 2 1, 3) := by decide +kernel
theorem dX4_even_51 : decode cX4_even 51 = .ok (.goto (-30), 3) := by decide +kernel
theorem dX4_even_54 : decode cX4_even 54 = .ok (.aload_n 0, 1) := by decide +kernel
theorem dX4_even_55 : decode cX4_even 55 = .ok (.ldc 156, 2) := by decide +kernel
theorem dX4_even_57 : decode cX4_even 57 = .ok (.invokevirtual 49, 3) := by decide +kernel
theorem dX4_even_60 : decode cX4_even 60 = .ok (.ireturn, 1) := by decide +kernel
theorem dX4_where_0 : decode cX4_where 0 = .ok (.aload_n 0, 1) := by decide +kernel
theorem dX4_where_1 : decode cX4_where 1 = .ok (.iload_n 1, 1) := by decide +kernel
theorem dX4_where_2 : decode cX4_where 2 = .ok (.invokevirtual 94, 3) := by decide +kernel
theorem dX4_where_5 : decode cX4_where 5 = .ok (.ifCond .eq 13, 3) := by decide +kernel
theorem dX4_where_8 : decode cX4_where 8 = .ok (.iload_n 2, 1) := by decide +kernel
theorem dX4_where_9 : decode cX4_where 9 = .ok (.iconst 1, 1) := by decide +kernel
theorem dX4_where_10 : decode cX4_where 10 = .ok (.bipush 60, 2) := by decide +kernel
theorem dX4_where_12 : decode cX4_where 12 = .ok (.invokestatic 44, 3) := by decide +kernel
theorem dX4_where_15 : decode cX4_where 15 = .ok (.ifCond .ne 10, 3) := by decide +kernel
theorem dX4_where_18 : decode cX4_where 18 = .ok (.aload_n 0, 1) := by decide +kernel
theorem dX4_where_19 : decode cX4_where 19 = .ok (.ldc 48, 2) := by decide +kernel
theorem dX4_where_21 : decode cX4_where 21 = .ok (.invokevirtual 49, 3) := by decide +kernel
theorem dX4_where_24 : decode cX4_where 24 = .ok (.ireturn, 1) := by decide +kernel
theorem dX4_where_25 : decode cX4_where 25 = .ok (.iconst (-1), 1) := by decide +kernel
theorem dX4_where_26 : decode cX4_where 26 = .ok (.istore_n 3, 1) := by decide +kernel
theorem dX4_where_27 : decode cX4_where 27 = .ok (.iconst (-1), 1) := by decide +kernel
theorem dX4_where_28 : decode cX4_where 28 = .ok (.istore 4, 2) := by decide +kernel
theorem dX4_where_30 : decode cX4_where 30 = .ok (.iconst 0, 1) := by decide +kernel
theorem dX4_where_31 : decode cX4_where 31 = .ok (.istore 5, 2) := by decide +kernel
theorem dX4_where_33 : decode cX4_where 33 = .ok (.iload 5, 2) := by decide +kernel
theorem dX4_where_35 : decode cX4_where 35 = .ok (.bipush 10, 2) := by decide +kernel
theorem dX4_where_37 : decode cX4_where 37 = .ok (.if_icmp .ge 70, 3) := by decide +kernel
theorem dX4_where_40 : decode cX4_where 40 = .ok (.aload_n 0, 1) := by decide +kernel
theorem dX4_where_41 : decode cX4_where 41 = .ok (.getfield 10, 3) := by decide +kernel
theorem dX4_where_44 : decode cX4_where 44 = .ok (.iload_n 1, 1) := by decide +kernel
theorem dX4_where_45 : decode cX4_where 45 = .ok (.iload 5, 2) := by decide +kernel
theorem dX4_where_47 : decode cX4_where 47 = .ok (.invokevirtual 131, 3) := by decide +kernel
theorem dX4_where_50 : decode cX4_where 50 = .ok (.ifCond .eq 51, 3) := by decide +kernel
theorem dX4_where_53 : decode cX4_where 53 = .ok (.aload_n 0, 1) := by decide +kernel
theorem dX4_where_54 : decode cX4_where 54 = .ok (.invokevirtual 150, 3) := by decide +kernel
theorem dX4_where_57 : decode cX4_where 57 = .ok (.aload_n 0, 1) := by decide +kernel
theorem dX4_where_58 : decode cX4_where 58 = .ok (.getfield 16, 3) := by decide +kernel
theorem dX4_where_61 : decode cX4_where 61 = .ok (.iload_n 1, 1) := by decide +kernel
theorem dX4_where_62 : decode cX4_where 62 = .ok (.iload 5, 2) := by decide +kernel
theorem dX4_where_64 : decode cX4_where 64 = .ok (.invokevirtual 135, 3) := by decide +kernel
theorem dX4_where_67 : decode cX4_where 67 = .ok (.aload_n 0, 1) := by decide +kernel
theorem dX4_where_68 : decode cX4_where 68 = .ok (.getfield 16, 3) := by decide +kernel
theorem dX4_where_71 : decode cX4_where 71 = .ok (.iload_n 2, 1) := by decide +kernel
theorem dX4_where_72 : decode cX4_where 72 = .ok (.invokevirtual 146, 3) := by decide +kernel
theorem dX4_where_75 : decode cX4_where 75 = .ok (.aload_n 0, 1) := by decide +kernel
theorem dX4_where_76 : decode cX4_where 76 = .ok (.getfield 16, 3) := by decide +kernel
theorem dX4_where_79 : decode cX4_where 79 = .ok (.iload_n 1, 1) := by decide +kernel
theorem dX4_where_80 : decode cX4_where 80 = .ok (.invokevirtual 128, 3) := by decide +kernel
theorem dX4_where_83 : decode cX4_where 83 = .ok (.iload 4, 2) := by decide +kernel
theorem dX4_where_85 : decode cX4_where 85 = .ok (.if_icmp .le 16, 3) := by decide +kernel
theorem dX4_where_88 : decode cX4_where 88 = .ok (.aload_n 0, 1) := by decide +kernel
theorem dX4_where_89 : decode cX4_where 89 = .ok (.getfield 16, 3) := by decide +kernel
theorem dX4_where_92 : decode cX4_where 92 = .ok (.iload_n 1, 1) := by decide +kernel
theorem dX4_where_93 : decode cX4_where 93 = .ok (.invokevirtual 128, 3) := by decide +kernel
theorem dX4_where_96 : decode cX4_where 96 = .ok (.istore 4, 2) := by decide +kernel
theorem dX4_where_98 : decode cX4_where 98 = .ok (.iload 5, 2) := by decide +kernel
theorem dX4_where_100 : decode cX4_where 100 = .ok (.istore_n 3, 1) := by decide +kernel
theorem dX4_where_101 : decode cX4_where 101 = .ok (.iinc 5 1, 3) := by decide +kernel
theorem dX4_where_104 : decode cX4_where 104 = .ok (.goto (-71), 3) := by decide +kernel
theorem dX4_where_107 : decode cX4_where 107 = .ok (.iload_n 3, 1) := by decide +kernel
theorem dX4_where_108 : decode cX4_where 108 = .ok (.ireturn, 1) := by decide +kernel
theorem dX4_change_0 : decode cX4_change 0 = .ok (.aload_n 0, 1) := by decide +kernel
theorem dX4_change_1 : decode cX4_change 1 = .ok (.iload_n 1, 1) := by decide +kernel
theorem dX4_change_2 : decode cX4_change 2 = .ok (.invokevirtual 94, 3) := by decide +kernel
theorem dX4_change_5 : decode cX4_change 5 = .ok (.ifCond .eq 13, 3) := by decide +kernel
theorem dX4_change_8 : decode cX4_change 8 = .ok (.iload_n 2, 1) := by decide +kernel
theorem dX4_change_9 : decode cX4_change 9 = .ok (.iconst 1, 1) := by decide +kernel
theorem dX4_change_10 : decode cX4_change 10 = .ok (.bipush 60, 2) := by decide +kernel
theorem dX4_change_12 : decode cX4_change 12 = .ok (.invokestatic 44, 3) := by decide +kernel
theorem dX4_change_15 : decode cX4_change 15 = .ok (.ifCond .ne 10, 3) := by decide +kernel
theorem dX4_change_18 : decode cX4_change 18 = .ok (.aload_n 0, 1) := by decide +kernel
theorem dX4_change_19 : decode cX4_change 19 = .ok (.ldc 48, 2) := by decide +kernel
theorem dX4_change_21 : decode cX4_change 21 = .ok (.invokevirtual 49, 3) := by decide +kernel
theorem dX4_change_24 : decode cX4_change 24 = .ok (.ireturn, 1) := by decide +kernel
theorem dX4_change_25 : decode cX4_change 25 = .ok (.aload_n 0, 1) := by decide +kernel
theorem dX4_change_26 : decode cX4_change 26 = .ok (.getfield 10, 3) := by decide +kernel
theorem dX4_change_29 : decode cX4_change 29 = .ok (.iload_n 1, 1) := by decide +kernel
theorem dX4_change_30 : decode cX4_change 30 = .ok (.invokevirtual 160, 3) := by decide +kernel
theorem dX4_change_33 : decode cX4_change 33 = .ok (.ifCond .ne 10, 3) := by decide +kernel
theorem dX4_change_36 : decode cX4_change 36 = .ok (.aload_n 0, 1) := by decide +kernel
theorem dX4_change_37 : decode cX4_change 37 = .ok (.ldc 134, 2) := by decide +kernel
theorem dX4_change_39 : decode cX4_change 39 = .ok (.invokevirtual 49, 3) := by decide +kernel
theorem dX4_change_42 : decode cX4_change 42 = .ok (.ireturn, 1) := by decide +kernel
theorem dX4_change_43 : decode cX4_change 43 = .ok (.iconst (-1), 1) := by decide +kernel
theorem dX4_change_44 : decode cX4_change 44 = .ok (.istore_n 3, 1) := by decide +kernel
theorem dX4_change_45 : decode cX4_change 45 = .ok (.iconst (-1), 1) := by decide +kernel
theorem dX4_change_46 : decode cX4_change 46 = .ok (.istore 4, 2) := by decide +kernel
theorem dX4_change_48 : decode cX4_change 48 = .ok (.iconst 0, 1) := by decide +kernel
theorem dX4_change_49 : decode cX4_change 49 = .ok (.istore 5, 2) := by decide +kernel
theorem dX4_change_51 : decode cX4_change 51 = .ok (.iload 5, 2) := by decide +kernel
theorem dX4_change_53 : decode cX4_change 53 = .ok (.aload_n 0, 1) := by decide +kernel
theorem dX4_change_54 : decode cX4_change 54 = .ok (.getfield 10, 3) := by decide +kernel
theorem dX4_change_57 : decode cX4_change 57 = .ok (.getfield 86, 3) := by decide +kernel
theorem dX4_change_60 : decode cX4_change 60 = .ok (.if_icmp .ge 83, 3) := by decide +kernel
theorem dX4_change_63 : decode cX4_change 63 = .ok (.iload 5, 2) := by decide +kernel
theorem dX4_change_65 : decode cX4_change 65 = .ok (.iload_n 1, 1) := by decide +kernel
theorem dX4_change_66 : decode cX4_change 66 = .ok (.if_icmp .eq 71, 3) := by decide +kernel
theorem dX4_change_69 : decode cX4_change 69 = .ok (.aload_n 0, 1) := by decide +kernel
theorem dX4_change_70 : decode cX4_change 70 = .ok (.getfield 10, 3) := by decide +kernel
theorem dX4_change_73 : decode cX4_change 73 = .ok (.iload 5, 2) := by decide +kernel
theorem dX4_change_75 : decode cX4_change 75 = .ok (.invokevirtual 160, 3) := by decide +kernel
theorem dX4_change_78 : decode cX4_change 78 = .ok (.ifCond .eq 59, 3) := by decide +kernel
theorem dX4_change_81 : decode cX4_change 81 = .ok (.aload_n 0, 1) := by decide +kernel
theorem dX4_change_82 : decode cX4_change 82 = .ok (.invokevirtual 150, 3) := by decide +kernel
theorem dX4_change_85 : decode cX4_change 85 = .ok (.aload_n 0, 1) := by decide +kernel
theorem dX4_change_86 : decode cX4_change 86 = .ok (.getfield 16, 3) := by decide +kernel
theorem dX4_change_89 : decode cX4_change 89 = .ok (.iload_n 1, 1) := by decide +kernel
theorem dX4_change_90 : decode cX4_change 90 = .ok (.iload 5, 2) := by decide +kernel
theorem dX4_change_92 : decode cX4_change 92 = .ok (.invokevirtual 163, 3) := by decide +kernel
theorem dX4_change_95 : decode cX4_change 95 = .ok (.aload_n 0, 1) := by decide +kernel
theorem dX4_change_96 : decode cX4_change 96 = .ok (.getfield 16, 3) := by decide +kernel
theorem dX4_change_99 : decode cX4_change 99 = .ok (.iload_n 2, 1) := by decide +kernel
theorem dX4_change_100 : decode cX4_change 100 = .ok (.invokevirtual 146, 3) := by decide +kernel
theorem dX4_change_103 : decode cX4_change 103 = .ok (.aload_n 0, 1) := by decide +kernel
theorem dX4_change_104 : decode cX4_change 104 = .ok (.getfield 16, 3) := by decide +kernel
theorem dX4_change_107 : decode cX4_change 107 = .ok (.iload_n 1, 1) := by decide +kernel
theorem dX4_change_108 : decode cX4_change 108 = .ok (.invokevirtual 128, 3) := by decide +kernel
theorem dX4_change_111 : decode cX4_change 111 = .ok (.aload_n 0, 1) := by decide +kernel
theorem dX4_change_112 : decode cX4_change 112 = .ok (.getfield 16, 3) := by decide +kernel
theorem dX4_change_115 : decode cX4_change 115 = .ok (.iload 5, 2) := by decide +kernel
theorem dX4_change_117 : decode cX4_change 117 = .ok (.invokevirtual 128, 3) := by decide +kernel
theorem dX4_change_120 : decode cX4_change 120 = .ok (.iadd, 1) := by decide +kernel
theorem dX4_change_121 : decode cX4_change 121 = .ok (.istore 6, 2) := by decide +kernel
theorem dX4_change_123 : decode cX4_change 123 = .ok (.iload 6, 2) := by decide +kernel
theorem dX4_change_125 : decode cX4_change 125 = .ok (.iload 4, 2) := by decide +kernel
theorem dX4_change_127 : decode cX4_change 127 = .ok (.if_icmp .le 10, 3) := by decide +kernel
theorem dX4_change_130 : decode cX4_change 130 = .ok (.iload 6, 2) := by decide +kernel
theorem dX4_change_132 : decode cX4_change 132 = .ok (.istore 4, 2) := by decide +kernel
theorem dX4_change_134 : decode cX4_change 134 = .ok (.iload 5, 2) := by decide +kernel
theorem dX4_change_136 : decode cX4_change 136 = .ok (.istore_n 3, 1) := by decide +kernel
theorem dX4_change_137 : decode cX4_change 137 = .ok (.iinc 5 1, 3) := by decide +kernel
theorem dX4_change_140 : decode cX4_change 140 = .ok (.goto (-89), 3) := by decide +kernel
theorem dX4_change_143 : decode cX4_change 143 = .ok (.iload_n 3, 1) := by decide +kernel
theorem dX4_change_144 : decode cX4_change 144 = .ok (.ifCond .lt 7, 3) := by decide +kernel
theorem dX4_change_147 : decode cX4_change 147 = .ok (.iload_n 3, 1) := by decide +kernel
theorem dX4_change_148 : decode cX4_change 148 = .ok (.goto 9, 3) := by decide +kernel
theorem dX4_change_151 : decode cX4_change 151 = .ok (.aload_n 0, 1) := by decide +kernel
theorem dX4_change_152 : decode cX4_change 152 = .ok (.ldc 156, 2) := by decide +kernel
theorem dX4_change_154 : decode cX4_change 154 = .ok (.invokevirtual 49, 3) := by decide +kernel
theorem dX4_change_157 : decode cX4_change 157 = .ok (.ireturn, 1) := by decide +kernel
theorem dX4_kind_0 : decode cX4_kind 0 = .ok (.aload_n 0, 1) := by decide +kernel
theorem dX4_kind_1 : decode cX4_kind 1 = .ok (.iload_n 1, 1) := by decide +kernel
theorem dX4_kind_2 : decode cX4_kind 2 = .ok (.invokevirtual 94, 3) := by decide +kernel
theorem dX4_kind_5 : decode cX4_kind 5 = .ok (.ifCond .eq 13, 3) := by decide +kernel
theorem dX4_kind_8 : decode cX4_kind 8 = .ok (.iload_n 2, 1) := by decide +kernel
theorem dX4_kind_9 : decode cX4_kind 9 = .ok (.iconst 1, 1) := by decide +kernel
theorem dX4_kind_10 : decode cX4_kind 10 = .ok (.bipush 60, 2) := by decide +kernel
theorem dX4_kind_12 : decode cX4_kind 12 = .ok (.invokestatic 44, 3) := by decide +kernel
theorem dX4_kind_15 : decode cX4_kind 15 = .ok (.ifCond .ne 10, 3) := by decide +kernel
theorem dX4_kind_18 : decode cX4_kind 18 = .ok (.aload_n 0, 1) := by decide +kernel
theorem dX4_kind_19 : decode cX4_kind 19 = .ok (.ldc 48, 2) := by decide +kernel
theorem dX4_kind_21 : decode cX4_kind 21 = .ok (.invokevirtual 49, 3) := by decide +kernel
theorem dX4_kind_24 : decode cX4_kind 24 = .ok (.ireturn, 1) := by decide +kernel
theorem dX4_kind_25 : decode cX4_kind 25 = .ok (.iconst (-1), 1) := by decide +kernel
theorem dX4_kind_26 : decode cX4_kind 26 = .ok (.istore_n 3, 1) := by decide +kernel
theorem dX4_kind_27 : decode cX4_kind 27 = .ok (.iconst (-1), 1) := by decide +kernel
theorem dX4_kind_28 : decode cX4_kind 28 = .ok (.istore 4, 2) := by decide +kernel
theorem dX4_kind_30 : decode cX4_kind 30 = .ok (.iconst 0, 1) := by decide +kernel
theorem dX4_kind_31 : decode cX4_kind 31 = .ok (.istore 5, 2) := by decide +kernel
theorem dX4_kind_33 : decode cX4_kind 33 = .ok (.iload 5, 2) := by decide +kernel
theorem dX4_kind_35 : decode cX4_kind 35 = .ok (.bipush 6, 2) := by decide +kernel
theorem dX4_kind_37 : decode cX4_kind 37 = .ok (.if_icmp .ge 58, 3) := by decide +kernel
theorem dX4_kind_40 : decode cX4_kind 40 = .ok (.aload_n 0, 1) := by decide +kernel
theorem dX4_kind_41 : decode cX4_kind 41 = .ok (.invokevirtual 150, 3) := by decide +kernel
theorem dX4_kind_44 : decode cX4_kind 44 = .ok (.aload_n 0, 1) := by decide +kernel
theorem dX4_kind_45 : decode cX4_kind 45 = .ok (.getfield 16, 3) := by decide +kernel
theorem dX4_kind_48 : decode cX4_kind 48 = .ok (.getfield 97, 3) := by decide +kernel
theorem dX4_kind_51 : decode cX4_kind 51 = .ok (.iload_n 1, 1) := by decide +kernel
theorem dX4_kind_52 : decode cX4_kind 52 = .ok (.iload 5, 2) := by decide +kernel
theorem dX4_kind_54 : decode cX4_kind 54 = .ok (.iastore, 1) := by decide +kernel
theorem dX4_kind_55 : decode cX4_kind 55 = .ok (.aload_n 0, 1) := by decide +kernel
theorem dX4_kind_56 : decode cX4_kind 56 = .ok (.getfield 16, 3) := by decide +kernel
theorem dX4_kind_59 : decode cX4_kind 59 = .ok (.iload_n 2, 1) := by decide +kernel
theorem dX4_kind_60 : decode cX4_kind 60 = .ok (.invokevirtual 146, 3) := by decide +kernel
theorem dX4_kind_63 : decode cX4_kind 63 = .ok (.aload_n 0, 1) := by decide +kernel
theorem dX4_kind_64 : decode cX4_kind 64 = .ok (.getfield 16, 3) := by decide +kernel
theorem dX4_kind_67 : decode cX4_kind 67 = .ok (.iload_n 1, 1) := by decide +kernel
theorem dX4_kind_68 : decode cX4_kind 68 = .ok (.invokevirtual 128, 3) := by decide +kernel
theorem dX4_kind_71 : decode cX4_kind 71 = .ok (.iload 4, 2) := by decide +kernel
theorem dX4_kind_73 : decode cX4_kind 73 = .ok (.if_icmp .le 16, 3) := by decide +kernel
theorem dX4_kind_76 : decode cX4_kind 76 = .ok (.aload_n 0, 1) := by decide +kernel
theorem dX4_kind_77 : decode cX4_kind 77 = .ok (.getfield 16, 3) := by decide +kernel
theorem dX4_kind_80 : decode cX4_kind 80 = .ok (.iload_n 1, 1) := by decide +kernel
theorem dX4_kind_81 : decode cX4_kind 81 = .ok (.invokevirtual 128, 3) := by decide +kernel
theorem dX4_kind_84 : decode cX4_kind 84 = .ok (.istore 4, 2) := by decide +kernel
theorem dX4_kind_86 : decode cX4_kind 86 = .ok (.iload 5, 2) := by decide +kernel
theorem dX4_kind_88 : decode cX4_kind 88 = .ok (.istore_n 3, 1) := by decide +kernel
theorem dX4_kind_89 : decode cX4_kind 89 = .ok (.iinc 5 1, 3) := by decide +kernel
theorem dX4_kind_92 : decode cX4_kind 92 = .ok (.goto (-59), 3) := by decide +kernel
theorem dX4_kind_95 : decode cX4_kind 95 = .ok (.iload_n 3, 1) := by decide +kernel
theorem dX4_kind_96 : decode cX4_kind 96 = .ok (.ireturn, 1) := by decide +kernel
theorem dX4_send_0 : decode cX4_send 0 = .ok (.iload_n 1, 1) := by decide +kernel
theorem dX4_send_1 : decode cX4_send 1 = .ok (.iconst 1, 1) := by decide +kernel
theorem dX4_send_2 : decode cX4_send 2 = .ok (.bipush 60, 2) := by decide +kernel
theorem dX4_send_4 : decode cX4_send 4 = .ok (.invokestatic 44, 3) := by decide +kernel
theorem dX4_send_7 : decode cX4_send 7 = .ok (.ifCond .ne 10, 3) := by decide +kernel
theorem dX4_send_10 : decode cX4_send 10 = .ok (.aload_n 0, 1) := by decide +kernel
theorem dX4_send_11 : decode cX4_send 11 = .ok (.ldc 48, 2) := by decide +kernel
theorem dX4_send_13 : decode cX4_send 13 = .ok (.invokevirtual 49, 3) := by decide +kernel
theorem dX4_send_16 : decode cX4_send 16 = .ok (.ireturn, 1) := by decide +kernel
theorem dX4_send_17 : decode cX4_send 17 = .ok (.iconst (-1), 1) := by decide +kernel
theorem dX4_send_18 : decode cX4_send 18 = .ok (.istore_n 2, 1) := by decide +kernel
theorem dX4_send_19 : decode cX4_send 19 = .ok (.iconst 0, 1) := by decide +kernel
theorem dX4_send_20 : decode cX4_send 20 = .ok (.istore_n 3, 1) := by decide +kernel
theorem dX4_send_21 : decode cX4_send 21 = .ok (.iconst 0, 1) := by decide +kernel
theorem dX4_send_22 : decode cX4_send 22 = .ok (.istore 4, 2) := by decide +kernel
theorem dX4_send_24 : decode cX4_send 24 = .ok (.iload 4, 2) := by decide +kernel
theorem dX4_send_26 : decode cX4_send 26 = .ok (.aload_n 0, 1) := by decide +kernel
theorem dX4_send_27 : decode cX4_send 27 = .ok (.getfield 10, 3) := by decide +kernel
theorem dX4_send_30 : decode cX4_send 30 = .ok (.getfield 86, 3) := by decide +kernel
theorem dX4_send_33 : decode cX4_send 33 = .ok (.if_icmp .ge 68, 3) := by decide +kernel
theorem dX4_send_36 : decode cX4_send 36 = .ok (.aload_n 0, 1) := by decide +kernel
theorem dX4_send_37 : decode cX4_send 37 = .ok (.getfield 10, 3) := by decide +kernel
theorem dX4_send_40 : decode cX4_send 40 = .ok (.iload 4, 2) := by decide +kernel
theorem dX4_send_42 : decode cX4_send 42 = .ok (.invokevirtual 160, 3) := by decide +kernel
theorem dX4_send_45 : decode cX4_send 45 = .ok (.ifCond .eq 50, 3) := by decide +kernel
theorem dX4_send_48 : decode cX4_send 48 = .ok (.aload_n 0, 1) := by decide +kernel
theorem dX4_send_49 : decode cX4_send 49 = .ok (.invokevirtual 150, 3) := by decide +kernel
theorem dX4_send_52 : decode cX4_send 52 = .ok (.aload_n 0, 1) := by decide +kernel
theorem dX4_send_53 : decode cX4_send 53 = .ok (.getfield 16, 3) := by decide +kernel
theorem dX4_send_56 : decode cX4_send 56 = .ok (.iload 4, 2) := by decide +kernel
theorem dX4_send_58 : decode cX4_send 58 = .ok (.iconst (-1), 1) := by decide +kernel
theorem dX4_send_59 : decode cX4_send 59 = .ok (.invokevirtual 135, 3) := by decide +kernel
theorem dX4_send_62 : decode cX4_send 62 = .ok (.aload_n 0, 1) := by decide +kernel
theorem dX4_send_63 : decode cX4_send 63 = .ok (.getfield 16, 3) := by decide +kernel
theorem dX4_send_66 : decode cX4_send 66 = .ok (.iload_n 1, 1) := by decide +kernel
theorem dX4_send_67 : decode cX4_send 67 = .ok (.invokevirtual 146, 3) := by decide +kernel
theorem dX4_send_70 : decode cX4_send 70 = .ok (.aload_n 0, 1) := by decide +kernel
theorem dX4_send_71 : decode cX4_send 71 = .ok (.getfield 16, 3) := by decide +kernel
theorem dX4_send_74 : decode cX4_send 74 = .ok (.invokevirtual 79, 3) := by decide +kernel
theorem dX4_send_77 : decode cX4_send 77 = .ok (.istore 5, 2) := by decide +kernel
theorem dX4_send_79 : decode cX4_send 79 = .ok (.iload_n 2, 1) := by decide +kernel
theorem dX4_send_80 : decode cX4_send 80 = .ok (.ifCond .lt 9, 3) := by decide +kernel
theorem dX4_send_83 : decode cX4_send 83 = .ok (.iload 5, 2) := by decide +kernel
theorem dX4_send_85 : decode cX4_send 85 = .ok (.iload_n 3, 1) := by decide +kernel
theorem dX4_send_86 : decode cX4_send 86 = .ok (.if_icmp .ge 9, 3) := by decide +kernel
theorem dX4_send_89 : decode cX4_send 89 = .ok (.iload 5, 2) := by decide +kernel
theorem dX4_send_91 : decode cX4_send 91 = .ok (.istore_n 3, 1) := by decide +kernel
theorem dX4_send_92 : decode cX4_send 92 = .ok (.iload 4, 2) := by decide +kernel
theorem dX4_send_94 : decode cX4_send 94 = .ok (.istore_n 2, 1) := by decide +kernel
theorem dX4_send_95 : decode cX4_send 95 = .ok (.iinc 4 1, 3) := by decide +kernel
theorem dX4_send_98 : decode cX4_send 98 = .ok (.goto (-74), 3) := by decide +kernel
theorem dX4_send_101 : decode cX4_send 101 = .ok (.iload_n 2, 1) := by decide +kernel
theorem dX4_send_102 : decode cX4_send 102 = .ok (.ifCond .lt 7, 3) := by decide +kernel
theorem dX4_send_105 : decode cX4_send 105 = .ok (.iload_n 2, 1) := by decide +kernel
theorem dX4_send_106 : decode cX4_send 106 = .ok (.goto 9, 3) := by decide +kernel
theorem dX4_send_109 : decode cX4_send 109 = .ok (.aload_n 0, 1) := by decide +kernel
theorem dX4_send_110 : decode cX4_send 110 = .ok (.ldc 156, 2) := by decide +kernel
theorem dX4_send_112 : decode cX4_send 112 = .ok (.invokevirtual 49, 3) := by decide +kernel
theorem dX4_send_115 : decode cX4_send 115 = .ok (.ireturn, 1) := by decide +kernel
theorem dX4_cloud_0 : decode cX4_cloud 0 = .ok (.iload_n 1, 1) := by decide +kernel
theorem dX4_cloud_1 : decode cX4_cloud 1 = .ok (.iconst 1, 1) := by decide +kernel
theorem dX4_cloud_2 : decode cX4_cloud 2 = .ok (.bipush 60, 2) := by decide +kernel
theorem dX4_cloud_4 : decode cX4_cloud 4 = .ok (.invokestatic 44, 3) := by decide +kernel
theorem dX4_cloud_7 : decode cX4_cloud 7 = .ok (.ifCond .ne 10, 3) := by decide +kernel
theorem dX4_cloud_10 : decode cX4_cloud 10 = .ok (.aload_n 0, 1) := by decide +kernel
theorem dX4_cloud_11 : decode cX4_cloud 11 = .ok (.ldc 48, 2) := by decide +kernel
theorem dX4_cloud_13 : decode cX4_cloud 13 = .ok (.invokevirtual 49, 3) := by decide +kernel
theorem dX4_cloud_16 : decode cX4_cloud 16 = .ok (.ireturn, 1) := by decide +kernel
theorem dX4_cloud_17 : decode cX4_cloud 17 = .ok (.iconst (-1), 1) := by decide +kernel
theorem dX4_cloud_18 : decode cX4_cloud 18 = .ok (.istore_n 2, 1) := by decide +kernel
theorem dX4_cloud_19 : decode cX4_cloud 19 = .ok (.iconst 0, 1) := by decide +kernel
theorem dX4_cloud_20 : decode cX4_cloud 20 = .ok (.istore_n 3, 1) := by decide +kernel
theorem dX4_cloud_21 : decode cX4_cloud 21 = .ok (.iconst 0, 1) := by decide +kernel
theorem dX4_cloud_22 : decode cX4_cloud 22 = .ok (.istore 4, 2) := by decide +kernel
theorem dX4_cloud_24 : decode cX4_cloud 24 = .ok (.iload 4, 2) := by decide +kernel
theorem dX4_cloud_26 : decode cX4_cloud 26 = .ok (.bipush 10, 2) := by decide +kernel
theorem dX4_cloud_28 : decode cX4_cloud 28 = .ok (.if_icmp .ge 57, 3) := by decide +kernel
theorem dX4_cloud_31 : decode cX4_cloud 31 = .ok (.aload_n 0, 1) := by decide +kernel
theorem dX4_cloud_32 : decode cX4_cloud 32 = .ok (.invokevirtual 150, 3) := by decide +kernel
theorem dX4_cloud_35 : decode cX4_cloud 35 = .ok (.aload_n 0, 1) := by decide +kernel
theorem dX4_cloud_36 : decode cX4_cloud 36 = .ok (.getfield 16, 3) := by decide +kernel
theorem dX4_cloud_39 : decode cX4_cloud 39 = .ok (.getfield 53, 3) := by decide +kernel
theorem dX4_cloud_42 : decode cX4_cloud 42 = .ok (.iload 4, 2) := by decide +kernel
theorem dX4_cloud_44 : decode cX4_cloud 44 = .ok (.iconst 0, 1) := by decide +kernel
theorem dX4_cloud_45 : decode cX4_cloud 45 = .ok (.iastore, 1) := by decide +kernel
theorem dX4_cloud_46 : decode cX4_cloud 46 = .ok (.aload_n 0, 1) := by decide +kernel
theorem dX4_cloud_47 : decode cX4_cloud 47 = .ok (.getfield 16, 3) := by decide +kernel
theorem dX4_cloud_50 : decode cX4_cloud 50 = .ok (.iload_n 1, 1) := by decide +kernel
theorem dX4_cloud_51 : decode cX4_cloud 51 = .ok (.invokevirtual 146, 3) := by decide +kernel
theorem dX4_cloud_54 : decode cX4_cloud 54 = .ok (.aload_n 0, 1) := by decide +kernel
theorem dX4_cloud_55 : decode cX4_cloud 55 = .ok (.getfield 16, 3) := by decide +kernel
theorem dX4_cloud_58 : decode cX4_cloud 58 = .ok (.invokevirtual 76, 3) := by decide +kernel
theorem dX4_cloud_61 : decode cX4_cloud 61 = .ok (.istore 5, 2) := by decide +kernel
theorem dX4_cloud_63 : decode cX4_cloud 63 = .ok (.iload_n 2, 1) := by decide +kernel
theorem dX4_cloud_64 : decode cX4_cloud 64 = .ok (.ifCond .lt 9, 3) := by decide +kernel
theorem dX4_cloud_67 : decode cX4_cloud 67 = .ok (.iload 5, 2) := by decide +kernel
theorem dX4_cloud_69 : decode cX4_cloud 69 = .ok (.iload_n 3, 1) := by decide +kernel
theorem dX4_cloud_70 : decode cX4_cloud 70 = .ok (.if_icmp .ge 9, 3) := by decide +kernel
theorem dX4_cloud_73 : decode cX4_cloud 73 = .ok (.iload 5, 2) := by decide +kernel
theorem dX4_cloud_75 : decode cX4_cloud 75 = .ok (.istore_n 3, 1) := by decide +kernel
theorem dX4_cloud_76 : decode cX4_cloud 76 = .ok (.iload 4, 2) := by decide +kernel
theorem dX4_cloud_78 : decode cX4_cloud 78 = .ok (.istore_n 2, 1) := by decide +kernel
theorem dX4_cloud_79 : decode cX4_cloud 79 = .ok (.iinc 4 1, 3) := by decide +kernel
theorem dX4_cloud_82 : decode cX4_cloud 82 = .ok (.goto (-58), 3) := by decide +kernel
theorem dX4_cloud_85 : decode cX4_cloud 85 = .ok (.iload_n 2, 1) := by decide +kernel
theorem dX4_cloud_86 : decode cX4_cloud 86 = .ok (.ireturn, 1) := by decide +kernel
theorem dX4_enough_0 : decode cX4_enough 0 = .ok (.aload_n 0, 1) := by decide +kernel
theorem dX4_enough_1 : decode cX4_enough 1 = .ok (.iload_n 1, 1) := by decide +kernel
theorem dX4_enough_2 : decode cX4_enough 2 = .ok (.invokevirtual 94, 3) := by decide +kernel
theorem dX4_enough_5 : decode cX4_enough 5 = .ok (.ifCond .eq 16, 3) := by decide +kernel
theorem dX4_enough_8 : decode cX4_enough 8 = .ok (.aload_n 0, 1) := by decide +kernel
theorem dX4_enough_9 : decode cX4_enough 9 = .ok (.iload_n 2, 1) := by decide +kernel
theorem dX4_enough_10 : decode cX4_enough 10 = .ok (.invokevirtual 94, 3) := by decide +kernel
theorem dX4_enough_13 : decode cX4_enough 13 = .ok (.ifCond .eq 8, 3) := by decide +kernel
theorem dX4_enough_16 : decode cX4_enough 16 = .ok (.iload_n 1, 1) := by decide +kernel
theorem dX4_enough_17 : decode cX4_enough 17 = .ok (.iload_n 2, 1) := by decide +kernel
theorem dX4_enough_18 : decode cX4_enough 18 = .ok (.if_icmp .ne 10, 3) := by decide +kernel
theorem dX4_enough_21 : decode cX4_enough 21 = .ok (.aload_n 0, 1) := by decide +kernel
theorem dX4_enough_22 : decode cX4_enough 22 = .ok (.ldc 48, 2) := by decide +kernel
theorem dX4_enough_24 : decode cX4_enough 24 = .ok (.invokevirtual 49, 3) := by decide +kernel
theorem dX4_enough_27 : decode cX4_enough 27 = .ok (.ireturn, 1) := by decide +kernel
theorem dX4_enough_28 : decode cX4_enough 28 = .ok (.iload_n 3, 1) := by decide +kernel
theorem dX4_enough_29 : decode cX4_enough 29 = .ok (.iconst 1, 1) := by decide +kernel
theorem dX4_enough_30 : decode cX4_enough 30 = .ok (.bipush 60, 2) := by decide +kernel
theorem dX4_enough_32 : decode cX4_enough 32 = .ok (.invokestatic 44, 3) := by decide +kernel
theorem dX4_enough_35 : decode cX4_enough 35 = .ok (.ifCond .eq 15, 3) := by decide +kernel
theorem dX4_enough_38 : decode cX4_enough 38 = .ok (.iload 4, 2) := by decide +kernel
theorem dX4_enough_40 : decode cX4_enough 40 = .ok (.iconst 0, 1) := by decide +kernel
theorem dX4_enough_41 : decode cX4_enough 41 = .ok (.sipush 400, 3) := by decide +kernel
theorem dX4_enough_44 : decode cX4_enough 44 = .ok (.invokestatic 44, 3) := by decide +kernel
theorem dX4_enough_47 : decode cX4_enough 47 = .ok (.ifCond .ne 10, 3) := by decide +kernel
theorem dX4_enough_50 : decode cX4_enough 50 = .ok (.aload_n 0, 1) := by decide +kernel
theorem dX4_enough_51 : decode cX4_enough 51 = .ok (.ldc 48, 2) := by decide +kernel
theorem dX4_enough_53 : decode cX4_enough 53 = .ok (.invokevirtual 49, 3) := by decide +kernel
theorem dX4_enough_56 : decode cX4_enough 56 = .ok (.ireturn, 1) := by decide +kernel
theorem dX4_enough_57 : decode cX4_enough 57 = .ok (.aload_n 0, 1) := by decide +kernel
theorem dX4_enough_58 : decode cX4_enough 58 = .ok (.iload_n 1, 1) := by decide +kernel
theorem dX4_enough_59 : decode cX4_enough 59 = .ok (.sipush 200, 3) := by decide +kernel
theorem dX4_enough_62 : decode cX4_enough 62 = .ok (.iload_n 2, 1) := by decide +kernel
theorem dX4_enough_63 : decode cX4_enough 63 = .ok (.iload_n 3, 1) := by decide +kernel
theorem dX4_enough_64 : decode cX4_enough 64 = .ok (.invokevirtual 166, 3) := by decide +kernel
theorem dX4_enough_67 : decode cX4_enough 67 = .ok (.iload 4, 2) := by decide +kernel
theorem dX4_enough_69 : decode cX4_enough 69 = .ok (.if_icmp .ge 10, 3) := by decide +kernel
theorem dX4_enough_72 : decode cX4_enough 72 = .ok (.aload_n 0, 1) := by decide +kernel
theorem dX4_enough_73 : decode cX4_enough 73 = .ok (.ldc 156, 2) := by decide +kernel
theorem dX4_enough_75 : decode cX4_enough 75 = .ok (.invokevirtual 49, 3) := by decide +kernel
theorem dX4_enough_78 : decode cX4_enough 78 = .ok (.ireturn, 1) := by decide +kernel
theorem dX4_enough_79 : decode cX4_enough 79 = .ok (.iconst 0, 1) := by decide +kernel
theorem dX4_enough_80 : decode cX4_enough 80 = .ok (.istore 5, 2) := by decide +kernel
theorem dX4_enough_82 : decode cX4_enough 82 = .ok (.sipush 200, 3) := by decide +kernel
theorem dX4_enough_85 : decode cX4_enough 85 = .ok (.istore 6, 2) := by decide +kernel
theorem dX4_enough_87 : decode cX4_enough 87 = .ok (.iconst 0, 1) := by decide +kernel
theorem dX4_enough_88 : decode cX4_enough 88 = .ok (.istore 7, 2) := by decide +kernel
theorem dX4_enough_90 : decode cX4_enough 90 = .ok (.iload 7, 2) := by decide +kernel
theorem dX4_enough_92 : decode cX4_enough 92 = .ok (.sipush 200, 3) := by decide +kernel
theorem dX4_enough_95 : decode cX4_enough 95 = .ok (.if_icmp .ge 52, 3) := by decide +kernel
theorem dX4_enough_98 : decode cX4_enough 98 = .ok (.iload 5, 2) := by decide +kernel
theorem dX4_enough_100 : decode cX4_enough 100 = .ok (.iload 6, 2) := by decide +kernel
theorem dX4_enough_102 : decode cX4_enough 102 = .ok (.if_icmp .ge 45, 3) := by decide +kernel
theorem dX4_enough_105 : decode cX4_enough 105 = .ok (.iload 5, 2) := by decide +kernel
theorem dX4_enough_107 : decode cX4_enough 107 = .ok (.iload 6, 2) := by decide +kernel
theorem dX4_enough_109 : decode cX4_enough 109 = .ok (.iadd, 1) := by decide +kernel
theorem dX4_enough_110 : decode cX4_enough 110 = .ok (.iconst 2, 1) := by decide +kernel
theorem dX4_enough_111 : decode cX4_enough 111 = .ok (.idiv, 1) := by decide +kernel
theorem dX4_enough_112 : decode cX4_enough 112 = .ok (.istore 8, 2) := by decide +kernel
theorem dX4_enough_114 : decode cX4_enough 114 = .ok (.aload_n 0, 1) := by decide +kernel
theorem dX4_enough_115 : decode cX4_enough 115 = .ok (.iload_n 1, 1) := by decide +kernel
theorem dX4_enough_116 : decode cX4_enough 116 = .ok (.iload 8, 2) := by decide +kernel
theorem dX4_enough_118 : decode cX4_enough 118 = .ok (.iload_n 2, 1) := by decide +kernel
theorem dX4_enough_119 : decode cX4_enough 119 = .ok (.iload_n 3, 1) := by decide +kernel
theorem dX4_enough_120 : decode cX4_enough 120 = .ok (.invokevirtual 166, 3) := by decide +kernel
theorem dX4_enough_123 : decode cX4_enough 123 = .ok (.iload 4, 2) := by decide +kernel
theorem dX4_enough_125 : decode cX4_enough 125 = .ok (.if_icmp .lt 10, 3) := by decide +kernel
theorem dX4_enough_128 : decode cX4_enough 128 = .ok (.iload 8, 2) := by decide +kernel
theorem dX4_enough_130 : decode cX4_enough 130 = .ok (.istore 6, 2) := by decide +kernel
theorem dX4_enough_132 : decode cX4_enough 132 = .ok (.goto 9, 3) := by decide +kernel
theorem dX4_enough_135 : decode cX4_enough 135 = .ok (.iload 8, 2) := by decide +kernel
theorem dX4_enough_137 : decode cX4_enough 137 = .ok (.iconst 1, 1) := by decide +kernel
theorem dX4_enough_138 : decode cX4_enough 138 = .ok (.iadd, 1) := by decide +kernel
theorem dX4_enough_139 : decode cX4_enough 139 = .ok (.istore 5, 2) := by decide +kernel
theorem dX4_enough_141 : decode cX4_enough 141 = .ok (.iinc 7 1, 3) := by decide +kernel
theorem dX4_enough_144 : decode cX4_enough 144 = .ok (.goto (-54), 3) := by decide +kernel
theorem dX4_enough_147 : decode cX4_enough 147 = .ok (.iload 6, 2) := by decide +kernel
theorem dX4_enough_149 : decode cX4_enough 149 = .ok (.ireturn, 1) := by decide +kernel
theorem dX4_brownest_0 : decode cX4_brownest 0 = .ok (.iload_n 1, 1) := by decide +kernel
theorem dX4_brownest_1 : decode cX4_brownest 1 = .ok (.iconst 0, 1) := by decide +kernel
theorem dX4_brownest_2 : decode cX4_brownest 2 = .ok (.sipush 200, 3) := by decide +kernel
theorem dX4_brownest_5 : decode cX4_brownest 5 = .ok (.invokestatic 44, 3) := by decide +kernel
theorem dX4_brownest_8 : decode cX4_brownest 8 = .ok (.ifCond .ne 10, 3) := by decide +kernel
theorem dX4_brownest_11 : decode cX4_brownest 11 = .ok (.aload_n 0, 1) := by decide +kernel
theorem dX4_brownest_12 : decode cX4_brownest 12 = .ok (.ldc 48, 2) := by decide +kernel
theorem dX4_brownest_14 : decode cX4_brownest 14 = .ok (.invokevirtual 49, 3) := by decide +kernel
theorem dX4_brownest_17 : decode cX4_brownest 17 = .ok (.ireturn, 1) := by decide +kernel
theorem dX4_brownest_18 : decode cX4_brownest 18 = .ok (.aload_n 0, 1) := by decide +kernel
theorem dX4_brownest_19 : decode cX4_brownest 19 = .ok (.invokevirtual 150, 3) := by decide +kernel
theorem dX4_brownest_22 : decode cX4_brownest 22 = .ok (.aload_n 0, 1) := by decide +kernel
theorem dX4_brownest_23 : decode cX4_brownest 23 = .ok (.getfield 16, 3) := by decide +kernel
theorem dX4_brownest_26 : decode cX4_brownest 26 = .ok (.iload_n 1, 1) := by decide +kernel
theorem dX4_brownest_27 : decode cX4_brownest 27 = .ok (.invokevirtual 146, 3) := by decide +kernel
theorem dX4_brownest_30 : decode cX4_brownest 30 = .ok (.iconst (-1), 1) := by decide +kernel
theorem dX4_brownest_31 : decode cX4_brownest 31 = .ok (.istore_n 2, 1) := by decide +kernel
theorem dX4_brownest_32 : decode cX4_brownest 32 = .ok (.iconst (-1), 1) := by decide +kernel
theorem dX4_brownest_33 : decode cX4_brownest 33 = .ok (.istore_n 3, 1) := by decide +kernel
theorem dX4_brownest_34 : decode cX4_brownest 34 = .ok (.iconst 0, 1) := by decide +kernel
theorem dX4_brownest_35 : decode cX4_brownest 35 = .ok (.istore 4, 2) := by decide +kernel
theorem dX4_brownest_37 : decode cX4_brownest 37 = .ok (.iload 4, 2) := by decide +kernel
theorem dX4_brownest_39 : decode cX4_brownest 39 = .ok (.aload_n 0, 1) := by decide +kernel
theorem dX4_brownest_40 : decode cX4_brownest 40 = .ok (.getfield 16, 3) := by decide +kernel
theorem dX4_brownest_43 : decode cX4_brownest 43 = .ok (.getfield 86, 3) := by decide +kernel
theorem dX4_brownest_46 : decode cX4_brownest 46 = .ok (.if_icmp .ge 35, 3) := by decide +kernel
theorem dX4_brownest_49 : decode cX4_brownest 49 = .ok (.aload_n 0, 1) := by decide +kernel
theorem dX4_brownest_50 : decode cX4_brownest 50 = .ok (.getfield 16, 3) := by decide +kernel
theorem dX4_brownest_53 : decode cX4_brownest 53 = .ok (.iload 4, 2) := by decide +kernel
theorem dX4_brownest_55 : decode cX4_brownest 55 = .ok (.invokevirtual 128, 3) := by decide +kernel
theorem dX4_brownest_58 : decode cX4_brownest 58 = .ok (.iload_n 3, 1) := by decide +kernel
theorem dX4_brownest_59 : decode cX4_brownest 59 = .ok (.if_icmp .le 16, 3) := by decide +kernel
theorem dX4_brownest_62 : decode cX4_brownest 62 = .ok (.aload_n 0, 1) := by decide +kernel
theorem dX4_brownest_63 : decode cX4_brownest 63 = .ok (.getfield 16, 3) := by decide +kernel
theorem dX4_brownest_66 : decode cX4_brownest 66 = .ok (.iload 4, 2) := by decide +kernel
theorem dX4_brownest_68 : decode cX4_brownest 68 = .ok (.invokevirtual 128, 3) := by decide +kernel
theorem dX4_brownest_71 : decode cX4_brownest 71 = .ok (.istore_n 3, 1) := by decide +kernel
theorem dX4_brownest_72 : decode cX4_brownest 72 = .ok (.iload 4, 2) := by decide +kernel
theorem dX4_brownest_74 : decode cX4_brownest 74 = .ok (.istore_n 2, 1) := by decide +kernel
theorem dX4_brownest_75 : decode cX4_brownest 75 = .ok (.iinc 4 1, 3) := by decide +kernel
theorem dX4_brownest_78 : decode cX4_brownest 78 = .ok (.goto (-41), 3) := by decide +kernel
theorem dX4_brownest_81 : decode cX4_brownest 81 = .ok (.iload_n 2, 1) := by decide +kernel
theorem dX4_brownest_82 : decode cX4_brownest 82 = .ok (.ifCond .lt 7, 3) := by decide +kernel
theorem dX4_brownest_85 : decode cX4_brownest 85 = .ok (.iload_n 2, 1) := by decide +kernel
theorem dX4_brownest_86 : decode cX4_brownest 86 = .ok (.goto 9, 3) := by decide +kernel
theorem dX4_brownest_89 : decode cX4_brownest 89 = .ok (.aload_n 0, 1) := by decide +kernel
theorem dX4_brownest_90 : decode cX4_brownest 90 = .ok (.ldc 156, 2) := by decide +kernel
theorem dX4_brownest_92 : decode cX4_brownest 92 = .ok (.invokevirtual 49, 3) := by decide +kernel
theorem dX4_brownest_95 : decode cX4_brownest 95 = .ok (.ireturn, 1) := by decide +kernel
theorem dX4_feed_0 : decode cX4_feed 0 = .ok (.iload_n 2, 1) := by decide +kernel
theorem dX4_feed_1 : decode cX4_feed 1 = .ok (.iconst 1, 1) := by decide +kernel
theorem dX4_feed_2 : decode cX4_feed 2 = .ok (.iconst 4, 1) := by decide +kernel
theorem dX4_feed_3 : decode cX4_feed 3 = .ok (.invokestatic 44, 3) := by decide +kernel
theorem dX4_feed_6 : decode cX4_feed 6 = .ok (.ifCond .ne 10, 3) := by decide +kernel
theorem dX4_feed_9 : decode cX4_feed 9 = .ok (.aload_n 0, 1) := by decide +kernel
theorem dX4_feed_10 : decode cX4_feed 10 = .ok (.ldc 48, 2) := by decide +kernel
theorem dX4_feed_12 : decode cX4_feed 12 = .ok (.invokevirtual 49, 3) := by decide +kernel
theorem dX4_feed_15 : decode cX4_feed 15 = .ok (.ireturn, 1) := by decide +kernel
theorem dX4_feed_16 : decode cX4_feed 16 = .ok (.aload_n 0, 1) := by decide +kernel
theorem dX4_feed_17 : decode cX4_feed 17 = .ok (.getfield 25, 3) := by decide +kernel
theorem dX4_feed_20 : decode cX4_feed 20 = .ok (.getfield 170, 3) := by decide +kernel
theorem dX4_feed_23 : decode cX4_feed 23 = .ok (.iload_n 2, 1) := by decide +kernel
theorem dX4_feed_24 : decode cX4_feed 24 = .ok (.iadd, 1) := by decide +kernel
theorem dX4_feed_25 : decode cX4_feed 25 = .ok (.bipush 120, 2) := by decide +kernel
theorem dX4_feed_27 : decode cX4_feed 27 = .ok (.if_icmp .le 10, 3) := by decide +kernel
theorem dX4_feed_30 : decode cX4_feed 30 = .ok (.aload_n 0, 1) := by decide +kernel
theorem dX4_feed_31 : decode cX4_feed 31 = .ok (.ldc 89, 2) := by decide +kernel
theorem dX4_feed_33 : decode cX4_feed 33 = .ok (.invokevirtual 49, 3) := by decide +kernel
theorem dX4_feed_36 : decode cX4_feed 36 = .ok (.ireturn, 1) := by decide +kernel
theorem dX4_feed_37 : decode cX4_feed 37 = .ok (.iload_n 2, 1) := by decide +kernel
theorem dX4_feed_38 : decode cX4_feed 38 = .ok (.iconst 1, 1) := by decide +kernel
theorem dX4_feed_39 : decode cX4_feed 39 = .ok (.isub, 1) := by decide +kernel
theorem dX4_feed_40 : decode cX4_feed 40 = .ok (.istore_n 3, 1) := by decide +kernel
theorem dX4_feed_41 : decode cX4_feed 41 = .ok (.iload_n 3, 1) := by decide +kernel
theorem dX4_feed_42 : decode cX4_feed 42 = .ok (.ifCond .lt 26, 3) := by decide +kernel
theorem dX4_feed_45 : decode cX4_feed 45 = .ok (.aload_n 0, 1) := by decide +kernel
theorem dX4_feed_46 : decode cX4_feed 46 = .ok (.getfield 25, 3) := by decide +kernel
theorem dX4_feed_49 : decode cX4_feed 49 = .ok (.iload_n 1, 1) := by decide +kernel
theorem dX4_feed_50 : decode cX4_feed 50 = .ok (.bipush 8, 2) := by decide +kernel
theorem dX4_feed_52 : decode cX4_feed 52 = .ok (.iload_n 3, 1) := by decide +kernel
theorem dX4_feed_53 : decode cX4_feed 53 = .ok (.imul, 1) := by decide +kernel
theorem dX4_feed_54 : decode cX4_feed 54 = .ok (.iushr, 1) := by decide +kernel
theorem dX4_feed_55 : decode cX4_feed 55 = .ok (.sipush 255, 3) := by decide +kernel
theorem dX4_feed_58 : decode cX4_feed 58 = .ok (.iand, 1) := by decide +kernel
theorem dX4_feed_59 : decode cX4_feed 59 = .ok (.invokevirtual 173, 3) := by decide +kernel
theorem dX4_feed_62 : decode cX4_feed 62 = .ok (.iinc 3 (-1), 3) := by decide +kernel
theorem dX4_feed_65 : decode cX4_feed 65 = .ok (.goto (-24), 3) := by decide +kernel
theorem dX4_feed_68 : decode cX4_feed 68 = .ok (.aload_n 0, 1) := by decide +kernel
theorem dX4_feed_69 : decode cX4_feed 69 = .ok (.getfield 25, 3) := by decide +kernel
theorem dX4_feed_72 : decode cX4_feed 72 = .ok (.getfield 170, 3) := by decide +kernel
theorem dX4_feed_75 : decode cX4_feed 75 = .ok (.ireturn, 1) := by decide +kernel
theorem dX4_wipe_0 : decode cX4_wipe 0 = .ok (.aload_n 0, 1) := by decide +kernel
theorem dX4_wipe_1 : decode cX4_wipe 1 = .ok (.getfield 25, 3) := by decide +kernel
theorem dX4_wipe_4 : decode cX4_wipe 4 = .ok (.getfield 170, 3) := by decide +kernel
theorem dX4_wipe_7 : decode cX4_wipe 7 = .ok (.istore_n 1, 1) := by decide +kernel
theorem dX4_wipe_8 : decode cX4_wipe 8 = .ok (.aload_n 0, 1) := by decide +kernel
theorem dX4_wipe_9 : decode cX4_wipe 9 = .ok (.getfield 25, 3) := by decide +kernel
theorem dX4_wipe_12 : decode cX4_wipe 12 = .ok (.iconst 0, 1) := by decide +kernel
theorem dX4_wipe_13 : decode cX4_wipe 13 = .ok (.putfield 170, 3) := by decide +kernel
theorem dX4_wipe_16 : decode cX4_wipe 16 = .ok (.iload_n 1, 1) := by decide +kernel
theorem dX4_wipe_17 : decode cX4_wipe 17 = .ok (.ireturn, 1) := by decide +kernel
theorem dX4_esplanade_0 : decode cX4_esplanade 0 = .ok (.aload_n 0, 1) := by decide +kernel
theorem dX4_esplanade_1 : decode cX4_esplanade 1 = .ok (.invokevirtual 150, 3) := by decide +kernel
theorem dX4_esplanade_4 : decode cX4_esplanade 4 = .ok (.aload_n 0, 1) := by decide +kernel
theorem dX4_esplanade_5 : decode cX4_esplanade 5 = .ok (.getfield 25, 3) := by decide +kernel
theorem dX4_esplanade_8 : decode cX4_esplanade 8 = .ok (.aload_n 0, 1) := by decide +kernel
theorem dX4_esplanade_9 : decode cX4_esplanade 9 = .ok (.getfield 16, 3) := by decide +kernel
theorem dX4_esplanade_12 : decode cX4_esplanade 12 = .ok (.invokevirtual 176, 3) := by decide +kernel
theorem dX4_esplanade_15 : decode cX4_esplanade 15 = .ok (.istore_n 1, 1) := by decide +kernel
theorem dX4_esplanade_16 : decode cX4_esplanade 16 = .ok (.aload_n 0, 1) := by decide +kernel
theorem dX4_esplanade_17 : decode cX4_esplanade 17 = .ok (.getfield 25, 3) := by decide +kernel
theorem dX4_esplanade_20 : decode cX4_esplanade 20 = .ok (.iconst 0, 1) := by decide +kernel
theorem dX4_esplanade_21 : decode cX4_esplanade 21 = .ok (.putfield 170, 3) := by decide +kernel
theorem dX4_esplanade_24 : decode cX4_esplanade 24 = .ok (.iload_n 1, 1) := by decide +kernel
theorem dX4_esplanade_25 : decode cX4_esplanade 25 = .ok (.ifCond .lt 14, 3) := by decide +kernel
theorem dX4_esplanade_28 : decode cX4_esplanade 28 = .ok (.aload_n 0, 1) := by decide +kernel
theorem dX4_esplanade_29 : decode cX4_esplanade 29 = .ok (.getfield 10, 3) := by decide +kernel
theorem dX4_esplanade_32 : decode cX4_esplanade 32 = .ok (.aload_n 0, 1) := by decide +kernel
theorem dX4_esplanade_33 : decode cX4_esplanade 33 = .ok (.getfield 16, 3) := by decide +kernel
theorem dX4_esplanade_36 : decode cX4_esplanade 36 = .ok (.invokevirtual 180, 3) := by decide +kernel
theorem dX4_esplanade_39 : decode cX4_esplanade 39 = .ok (.iload_n 1, 1) := by decide +kernel
theorem dX4_esplanade_40 : decode cX4_esplanade 40 = .ok (.ireturn, 1) := by decide +kernel
theorem dX4_sheet_0 : decode cX4_sheet 0 = .ok (.aload_n 0, 1) := by decide +kernel
theorem dX4_sheet_1 : decode cX4_sheet 1 = .ok (.iload_n 1, 1) := by decide +kernel
theorem dX4_sheet_2 : decode cX4_sheet 2 = .ok (.invokevirtual 184, 3) := by decide +kernel
theorem dX4_sheet_5 : decode cX4_sheet 5 = .ok (.astore 4, 2) := by decide +kernel
theorem dX4_sheet_7 : decode cX4_sheet 7 = .ok (.aload 4, 2) := by decide +kernel
theorem dX4_sheet_9 : decode cX4_sheet 9 = .ok (.ifnull 25, 3) := by decide +kernel
theorem dX4_sheet_12 : decode cX4_sheet 12 = .ok (.iload_n 2, 1) := by decide +kernel
theorem dX4_sheet_13 : decode cX4_sheet 13 = .ok (.ifCond .eq 28, 3) := by decide +kernel
theorem dX4_sheet_16 : decode cX4_sheet 16 = .ok (.iload_n 2, 1) := by decide +kernel
theorem dX4_sheet_17 : decode cX4_sheet 17 = .ok (.bipush 8, 2) := by decide +kernel
theorem dX4_sheet_19 : decode cX4_sheet 19 = .ok (.if_icmp .eq 22, 3) := by decide +kernel
theorem dX4_sheet_22 : decode cX4_sheet 22 = .ok (.iload_n 2, 1) := by decide +kernel
theorem dX4_sheet_23 : decode cX4_sheet 23 = .ok (.bipush 16, 2) := by decide +kernel
theorem dX4_sheet_25 : decode cX4_sheet 25 = .ok (.if_icmp .eq 16, 3) := by decide +kernel
theorem dX4_sheet_28 : decode cX4_sheet 28 = .ok (.iload_n 2, 1) := by decide +kernel
theorem dX4_sheet_29 : decode cX4_sheet 29 = .ok (.bipush 64, 2) := by decide +kernel
theorem dX4_sheet_31 : decode cX4_sheet 31 = .ok (.if_icmp .eq 10, 3) := by decide +kernel
theorem dX4_sheet_34 : decode cX4_sheet 34 = .ok (.aload_n 0, 1) := by decide +kernel
theorem dX4_sheet_35 : decode cX4_sheet 35 = .ok (.ldc 48, 2) := by decide +kernel
theorem dX4_sheet_37 : decode cX4_sheet 37 = .ok (.invokevirtual 49, 3) := by decide +kernel
theorem dX4_sheet_40 : decode cX4_sheet 40 = .ok (.ireturn, 1) := by decide +kernel
theorem dX4_sheet_41 : decode cX4_sheet 41 = .ok (.iload_n 3, 1) := by decide +kernel
theorem dX4_sheet_42 : decode cX4_sheet 42 = .ok (.ifCond .ge 10, 3) := by decide +kernel
theorem dX4_sheet_45 : decode cX4_sheet 45 = .ok (.aload_n 0, 1) := by decide +kernel
theorem dX4_sheet_46 : decode cX4_sheet 46 = .ok (.ldc 188, 2) := by decide +kernel
theorem dX4_sheet_48 : decode cX4_sheet 48 = .ok (.invokevirtual 49, 3) := by decide +kernel
theorem dX4_sheet_51 : decode cX4_sheet 51 = .ok (.ireturn, 1) := by decide +kernel
theorem dX4_sheet_52 : decode cX4_sheet 52 = .ok (.iload_n 3, 1) := by decide +kernel
theorem dX4_sheet_53 : decode cX4_sheet 53 = .ok (.bipush 40, 2) := by decide +kernel
theorem dX4_sheet_55 : decode cX4_sheet 55 = .ok (.if_icmp .le 10, 3) := by decide +kernel
theorem dX4_sheet_58 : decode cX4_sheet 58 = .ok (.aload_n 0, 1) := by decide +kernel
theorem dX4_sheet_59 : decode cX4_sheet 59 = .ok (.ldc 48, 2) := by decide +kernel
theorem dX4_sheet_61 : decode cX4_sheet 61 = .ok (.invokevirtual 49, 3) := by decide +kernel
theorem dX4_sheet_64 : decode cX4_sheet 64 = .ok (.ireturn, 1) := by decide +kernel
theorem dX4_sheet_65 : decode cX4_sheet 65 = .ok (.aload 4, 2) := by decide +kernel
theorem dX4_sheet_67 : decode cX4_sheet 67 = .ok (.iload_n 2, 1) := by decide +kernel
theorem dX4_sheet_68 : decode cX4_sheet 68 = .ok (.iload_n 3, 1) := by decide +kernel
theorem dX4_sheet_69 : decode cX4_sheet 69 = .ok (.invokevirtual 189, 3) := by decide +kernel
theorem dX4_sheet_72 : decode cX4_sheet 72 = .ok (.aload 4, 2) := by decide +kernel
theorem dX4_sheet_74 : decode cX4_sheet 74 = .ok (.getfield 192, 3) := by decide +kernel
theorem dX4_sheet_77 : decode cX4_sheet 77 = .ok (.ireturn, 1) := by decide +kernel
theorem dX4_write_0 : decode cX4_write 0 = .ok (.aload_n 0, 1) := by decide +kernel
theorem dX4_write_1 : decode cX4_write 1 = .ok (.iload_n 1, 1) := by decide +kernel
theorem dX4_write_2 : decode cX4_write 2 = .ok (.invokevirtual 184, 3) := by decide +kernel
theorem dX4_write_5 : decode cX4_write 5 = .ok (.astore 5, 2) := by decide +kernel
theorem dX4_write_7 : decode cX4_write 7 = .ok (.aload 5, 2) := by decide +kernel
theorem dX4_write_9 : decode cX4_write 9 = .ok (.ifnonnull 11, 3) := by decide +kernel
theorem dX4_write_12 : decode cX4_write 12 = .ok (.aload_n 0, 1) := by decide +kernel
theorem dX4_write_13 : decode cX4_write 13 = .ok (.ldc 48, 2) := by decide +kernel
theorem dX4_write_15 : decode cX4_write 15 = .ok (.invokevirtual 49, 3) := by decide +kernel
theorem dX4_write_18 : decode cX4_write 18 = .ok (.i2l, 1) := by decide +kernel
theorem dX4_write_19 : decode cX4_write 19 = .ok (.lreturn, 1) := by decide +kernel
theorem dX4_write_20 : decode cX4_write 20 = .ok (.aload 5, 2) := by decide +kernel
theorem dX4_write_22 : decode cX4_write 22 = .ok (.invokevirtual 193, 3) := by decide +kernel
theorem dX4_write_25 : decode cX4_write 25 = .ok (.ifCond .eq 11, 3) := by decide +kernel
theorem dX4_write_28 : decode cX4_write 28 = .ok (.aload_n 0, 1) := by decide +kernel
theorem dX4_write_29 : decode cX4_write 29 = .ok (.ldc 197, 2) := by decide +kernel
theorem dX4_write_31 : decode cX4_write 31 = .ok (.invokevirtual 49, 3) := by decide +kernel
theorem dX4_write_34 : decode cX4_write 34 = .ok (.i2l, 1) := by decide +kernel
theorem dX4_write_35 : decode cX4_write 35 = .ok (.lreturn, 1) := by decide +kernel
theorem dX4_write_36 : decode cX4_write 36 = .ok (.iload_n 2, 1) := by decide +kernel
theorem dX4_write_37 : decode cX4_write 37 = .ok (.iconst 0, 1) := by decide +kernel
theorem dX4_write_38 : decode cX4_write 38 = .ok (.aload 5, 2) := by decide +kernel
theorem dX4_write_40 : decode cX4_write 40 = .ok (.getfield 192, 3) := by decide +kernel
theorem dX4_write_43 : decode cX4_write 43 = .ok (.iconst 1, 1) := by decide +kernel
theorem dX4_write_44 : decode cX4_write 44 = .ok (.isub, 1) := by decide +kernel
theorem dX4_write_45 : decode cX4_write 45 = .ok (.invokestatic 44, 3) := by decide +kernel
theorem dX4_write_48 : decode cX4_write 48 = .ok (.ifCond .ne 11, 3) := by decide +kernel
theorem dX4_write_51 : decode cX4_write 51 = .ok (.aload_n 0, 1) := by decide +kernel
theorem dX4_write_52 : decode cX4_write 52 = .ok (.ldc 48, 2) := by decide +kernel
theorem dX4_write_54 : decode cX4_write 54 = .ok (.invokevirtual 49, 3) := by decide +kernel
theorem dX4_write_57 : decode cX4_write 57 = .ok (.i2l, 1) := by decide +kernel
theorem dX4_write_58 : decode cX4_write 58 = .ok (.lreturn, 1) := by decide +kernel
theorem dX4_write_59 : decode cX4_write 59 = .ok (.aload 5, 2) := by decide +kernel
theorem dX4_write_61 : decode cX4_write 61 = .ok (.getfield 198, 3) := by decide +kernel
theorem dX4_write_64 : decode cX4_write 64 = .ok (.iload_n 2, 1) := by decide +kernel
theorem dX4_write_65 : decode cX4_write 65 = .ok (.laload, 1) := by decide +kernel
theorem dX4_write_66 : decode cX4_write 66 = .ok (.lstore 6, 2) := by decide +kernel
theorem dX4_write_68 : decode cX4_write 68 = .ok (.aload 5, 2) := by decide +kernel
theorem dX4_write_70 : decode cX4_write 70 = .ok (.iload_n 2, 1) := by decide +kernel
theorem dX4_write_71 : decode cX4_write 71 = .ok (.lload_n 3, 1) := by decide +kernel
theorem dX4_write_72 : decode cX4_write 72 = .ok (.invokevirtual 202, 3) := by decide +kernel
theorem dX4_write_75 : decode cX4_write 75 = .ok (.lload 6, 2) := by decide +kernel
theorem dX4_write_77 : decode cX4_write 77 = .ok (.lreturn, 1) := by decide +kernel
theorem dX4_copy_0 : decode cX4_copy 0 = .ok (.aload_n 0, 1) := by decide +kernel
theorem dX4_copy_1 : decode cX4_copy 1 = .ok (.iload_n 1, 1) := by decide +kernel
theorem dX4_copy_2 : decode cX4_copy 2 = .ok (.invokevirtual 184, 3) := by decide +kernel
theorem dX4_copy_5 : decode cX4_copy 5 = .ok (.astore 6, 2) := by decide +kernel
theorem dX4_copy_7 : decode cX4_copy 7 = .ok (.aload_n 0, 1) := by decide +kernel
theorem dX4_copy_8 : decode cX4_copy 8 = .ok (.iload_n 3, 1) := by decide +kernel
theorem dX4_copy_9 : decode cX4_copy 9 = .ok (.invokevirtual 184, 3) := by decide +kernel
theorem dX4_copy_12 : decode cX4_copy 12 = .ok (.astore 7, 2) := by decide +kernel
theorem dX4_copy_14 : decode cX4_copy 14 = .ok (.aload 6, 2) := by decide +kernel
theorem dX4_copy_16 : decode cX4_copy 16 = .ok (.ifnull 8, 3) := by decide +kernel
theorem dX4_copy_19 : decode cX4_copy 19 = .ok (.aload 7, 2) := by decide +kernel
theorem dX4_copy_21 : decode cX4_copy 21 = .ok (.ifnonnull 10, 3) := by decide +kernel
theorem dX4_copy_24 : decode cX4_copy 24 = .ok (.aload_n 0, 1) := by decide +kernel
theorem dX4_copy_25 : decode cX4_copy 25 = .ok (.ldc 48, 2) := by decide +kernel
theorem dX4_copy_27 : decode cX4_copy 27 = .ok (.invokevirtual 49, 3) := by decide +kernel
theorem dX4_copy_30 : decode cX4_copy 30 = .ok (.ireturn, 1) := by decide +kernel
theorem dX4_copy_31 : decode cX4_copy 31 = .ok (.aload 6, 2) := by decide +kernel
theorem dX4_copy_33 : decode cX4_copy 33 = .ok (.invokevirtual 193, 3) := by decide +kernel
theorem dX4_copy_36 : decode cX4_copy 36 = .ok (.ifCond .ne 11, 3) := by decide +kernel
theorem dX4_copy_39 : decode cX4_copy 39 = .ok (.aload 7, 2) := by decide +kernel
theorem dX4_copy_41 : decode cX4_copy 41 = .ok (.invokevirtual 193, 3) := by decide +kernel
theorem dX4_copy_44 : decode cX4_copy 44 = .ok (.ifCond .eq 10, 3) := by decide +kernel
theorem dX4_copy_47 : decode cX4_copy 47 = .ok (.aload_n 0, 1) := by decide +kernel
theorem dX4_copy_48 : decode cX4_copy 48 = .ok (.ldc 197, 2) := by decide +kernel
theorem dX4_copy_50 : decode cX4_copy 50 = .ok (.invokevirtual 49, 3) := by decide +kernel
theorem dX4_copy_53 : decode cX4_copy 53 = .ok (.ireturn, 1) := by decide +kernel
theorem dX4_copy_54 : decode cX4_copy 54 = .ok (.aload 6, 2) := by decide +kernel
theorem dX4_copy_56 : decode cX4_copy 56 = .ok (.getfield 206, 3) := by decide +kernel
theorem dX4_copy_59 : decode cX4_copy 59 = .ok (.aload 7, 2) := by decide +kernel
theorem dX4_copy_61 : decode cX4_copy 61 = .ok (.getfield 206, 3) := by decide +kernel
theorem dX4_copy_64 : decode cX4_copy 64 = .ok (.if_icmp .eq 10, 3) := by decide +kernel
theorem dX4_copy_67 : decode cX4_copy 67 = .ok (.aload_n 0, 1) := by decide +kernel
theorem dX4_copy_68 : decode cX4_copy 68 = .ok (.ldc 127, 2) := by decide +kernel
theorem dX4_copy_70 : decode cX4_copy 70 = .ok (.invokevirtual 49, 3) := by decide +kernel
theorem dX4_copy_73 : decode cX4_copy 73 = .ok (.ireturn, 1) := by decide +kernel
theorem dX4_copy_74 : decode cX4_copy 74 = .ok (.aload 6, 2) := by decide +kernel
theorem dX4_copy_76 : decode cX4_copy 76 = .ok (.iload_n 2, 1) := by decide +kernel
theorem dX4_copy_77 : decode cX4_copy 77 = .ok (.iload 5, 2) := by decide +kernel
theorem dX4_copy_79 : decode cX4_copy 79 = .ok (.invokevirtual 209, 3) := by decide +kernel
theorem dX4_copy_82 : decode cX4_copy 82 = .ok (.ifCond .eq 15, 3) := by decide +kernel
theorem dX4_copy_85 : decode cX4_copy 85 = .ok (.aload 7, 2) := by decide +kernel
theorem dX4_copy_87 : decode cX4_copy 87 = .ok (.iload 4, 2) := by decide +kernel
theorem dX4_copy_89 : decode cX4_copy 89 = .ok (.iload 5, 2) := by decide +kernel
theorem dX4_copy_91 : decode cX4_copy 91 = .ok (.invokevirtual 209, 3) := by decide +kernel
theorem dX4_copy_94 : decode cX4_copy 94 = .ok (.ifCond .ne 10, 3) := by decide +kernel
theorem dX4_copy_97 : decode cX4_copy 97 = .ok (.aload_n 0, 1) := by decide +kernel
theorem dX4_copy_98 : decode cX4_copy 98 = .ok (.ldc 48, 2) := by decide +kernel
theorem dX4_copy_100 : decode cX4_copy 100 = .ok (.invokevirtual 49, 3) := by decide +kernel
theorem dX4_copy_103 : decode cX4_copy 103 = .ok (.ireturn, 1) := by decide +kernel
theorem dX4_copy_104 : decode cX4_copy 104 = .ok (.aload 6, 2) := by decide +kernel
theorem dX4_copy_106 : decode cX4_copy 106 = .ok (.getfield 198, 3) := by decide +kernel
theorem dX4_copy_109 : decode cX4_copy 109 = .ok (.iload_n 2, 1) := by decide +kernel
theorem dX4_copy_110 : decode cX4_copy 110 = .ok (.aload 7, 2) := by decide +kernel
theorem dX4_copy_112 : decode cX4_copy 112 = .ok (.getfield 198, 3) := by decide +kernel
theorem dX4_copy_115 : decode cX4_copy 115 = .ok (.iload 4, 2) := by decide +kernel
theorem dX4_copy_117 : decode cX4_copy 117 = .ok (.iload 5, 2) := by decide +kernel
theorem dX4_copy_119 : decode cX4_copy 119 = .ok (.invokestatic 212, 3) := by decide +kernel
theorem dX4_copy_122 : decode cX4_copy 122 = .ok (.iload 5, 2) := by decide +kernel
theorem dX4_copy_124 : decode cX4_copy 124 = .ok (.ireturn, 1) := by decide +kernel
theorem dX4_lays_0 : decode cX4_lays 0 = .ok (.aload_n 0, 1) := by decide +kernel
theorem dX4_lays_1 : decode cX4_lays 1 = .ok (.iload_n 1, 1) := by decide +kernel
theorem dX4_lays_2 : decode cX4_lays 2 = .ok (.invokevirtual 184, 3) := by decide +kernel
theorem dX4_lays_5 : decode cX4_lays 5 = .ok (.astore_n 2, 1) := by decide +kernel
theorem dX4_lays_6 : decode cX4_lays 6 = .ok (.aload_n 2, 1) := by decide +kernel
theorem dX4_lays_7 : decode cX4_lays 7 = .ok (.ifnonnull 10, 3) := by decide +kernel
theorem dX4_lays_10 : decode cX4_lays 10 = .ok (.aload_n 0, 1) := by decide +kernel
theorem dX4_lays_11 : decode cX4_lays 11 = .ok (.ldc 48, 2) := by decide +kernel
theorem dX4_lays_13 : decode cX4_lays 13 = .ok (.invokevirtual 49, 3) := by decide +kernel
theorem dX4_lays_16 : decode cX4_lays 16 = .ok (.ireturn, 1) := by decide +kernel
theorem dX4_lays_17 : decode cX4_lays 17 = .ok (.aload_n 2, 1) := by decide +kernel
theorem dX4_lays_18 : decode cX4_lays 18 = .ok (.invokevirtual 193, 3) := by decide +kernel
theorem dX4_lays_21 : decode cX4_lays 21 = .ok (.ifCond .eq 10, 3) := by decide +kernel
theorem dX4_lays_24 : decode cX4_lays 24 = .ok (.aload_n 0, 1) := by decide +kernel
theorem dX4_lays_25 : decode cX4_lays 25 = .ok (.ldc 197, 2) := by decide +kernel
theorem dX4_lays_27 : decode cX4_lays 27 = .ok (.invokevirtual 49, 3) := by decide +kernel
theorem dX4_lays_30 : decode cX4_lays 30 = .ok (.ireturn, 1) := by decide +kernel
theorem dX4_lays_31 : decode cX4_lays 31 = .ok (.iconst 0, 1) := by decide +kernel
theorem dX4_lays_32 : decode cX4_lays 32 = .ok (.istore_n 3, 1) := by decide +kernel
theorem dX4_lays_33 : decode cX4_lays 33 = .ok (.iconst 0, 1) := by decide +kernel
theorem dX4_lays_34 : decode cX4_lays 34 = .ok (.istore 4, 2) := by decide +kernel
theorem dX4_lays_36 : decode cX4_lays 36 = .ok (.iload 4, 2) := by decide +kernel
theorem dX4_lays_38 : decode cX4_lays 38 = .ok (.aload_n 2, 1) := by decide +kernel
theorem dX4_lays_39 : decode cX4_lays 39 = .ok (.getfield 192, 3) := by decide +kernel
theorem dX4_lays_42 : decode cX4_lays 42 = .ok (.if_icmp .ge 57, 3) := by decide +kernel
theorem dX4_lays_45 : decode cX4_lays 45 = .ok (.iload 4, 2) := by decide +kernel
theorem dX4_lays_47 : decode cX4_lays 47 = .ok (.bipush 10, 2) := by decide +kernel
theorem dX4_lays_49 : decode cX4_lays 49 = .ok (.if_icmp .ge 50, 3) := by decide +kernel
theorem dX4_lays_52 : decode cX4_lays 52 = .ok (.aload_n 2, 1) := by decide +kernel
theorem dX4_lays_53 : decode cX4_lays 53 = .ok (.getfield 198, 3) := by decide +kernel
theorem dX4_lays_56 : decode cX4_lays 56 = .ok (.iload 4, 2) := by decide +kernel
theorem dX4_lays_58 : decode cX4_lays 58 = .ok (.laload, 1) := by decide +kernel
theorem dX4_lays_59 : decode cX4_lays 59 = .ok (.lstore 5, 2) := by decide +kernel
theorem dX4_lays_61 : decode cX4_lays 61 = .ok (.lload 5, 2) := by decide +kernel
theorem dX4_lays_63 : decode cX4_lays 63 = .ok (.lconst 0, 1) := by decide +kernel
theorem dX4_lays_64 : decode cX4_lays 64 = .ok (.lcmp, 1) := by decide +kernel
theorem dX4_lays_65 : decode cX4_lays 65 = .ok (.ifCond .lt 28, 3) := by decide +kernel
theorem dX4_lays_68 : decode cX4_lays 68 = .ok (.lload 5, 2) := by decide +kernel
theorem dX4_lays_70 : decode cX4_lays 70 = .ok (.ldc2_w 218, 3) := by decide +kernel
theorem dX4_lays_73 : decode cX4_lays 73 = .ok (.lcmp, 1) := by decide +kernel
theorem dX4_lays_74 : decode cX4_lays 74 = .ok (.ifCond .gt 19, 3) := by decide +kernel
theorem dX4_lays_77 : decode cX4_lays 77 = .ok (.aload_n 0, 1) := by decide +kernel
theorem dX4_lays_78 : decode cX4_lays 78 = .ok (.getfield 10, 3) := by decide +kernel
theorem dX4_lays_81 : decode cX4_lays 81 = .ok (.getfield 53, 3) := by decide +kernel
theorem dX4_lays_84 : decode cX4_lays 84 = .ok (.iload 4, 2) := by decide +kernel
theorem dX4_lays_86 : decode cX4_lays 86 = .ok (.lload 5, 2) := by decide +kernel
theorem dX4_lays_88 : decode cX4_lays 88 = .ok (.l2i, 1) := by decide +kernel
theorem dX4_lays_89 : decode cX4_lays 89 = .ok (.iastore, 1) := by decide +kernel
theorem dX4_lays_90 : decode cX4_lays 90 = .ok (.iinc 3 1, 3) := by decide +kernel
theorem dX4_lays_93 : decode cX4_lays 93 = .ok (.iinc 4 1, 3) := by decide +kernel
theorem dX4_lays_96 : decode cX4_lays 96 = .ok (.goto (-60), 3) := by decide +kernel
theorem dX4_lays_99 : decode cX4_lays 99 = .ok (.iload_n 3, 1) := by decide +kernel
theorem dX4_lays_100 : decode cX4_lays 100 = .ok (.ireturn, 1) := by decide +kernel
theorem dX4_book_0 : decode cX4_book 0 = .ok (.aload_n 0, 1) := by decide +kernel
theorem dX4_book_1 : decode cX4_book 1 = .ok (.iload_n 1, 1) := by decide +kernel
theorem dX4_book_2 : decode cX4_book 2 = .ok (.invokevirtual 184, 3) := by decide +kernel
theorem dX4_book_5 : decode cX4_book 5 = .ok (.astore_n 3, 1) := by decide +kernel
theorem dX4_book_6 : decode cX4_book 6 = .ok (.aload_n 3, 1) := by decide +kernel
theorem dX4_book_7 : decode cX4_book 7 = .ok (.ifnonnull 10, 3) := by decide +kernel
theorem dX4_book_10 : decode cX4_book 10 = .ok (.aload_n 0, 1) := by decide +kernel
theorem dX4_book_11 : decode cX4_book 11 = .ok (.ldc 48, 2) := by decide +kernel
theorem dX4_book_13 : decode cX4_book 13 = .ok (.invokevirtual 49, 3) := by decide +kernel
theorem dX4_book_16 : decode cX4_book 16 = .ok (.ireturn, 1) := by decide +kernel
theorem dX4_book_17 : decode cX4_book 17 = .ok (.aload_n 3, 1) := by decide +kernel
theorem dX4_book_18 : decode cX4_book 18 = .ok (.invokevirtual 193, 3) := by decide +kernel
theorem dX4_book_21 : decode cX4_book 21 = .ok (.ifCond .eq 10, 3) := by decide +kernel
theorem dX4_book_24 : decode cX4_book 24 = .ok (.aload_n 0, 1) := by decide +kernel
theorem dX4_book_25 : decode cX4_book 25 = .ok (.ldc 197, 2) := by decide +kernel
theorem dX4_book_27 : decode cX4_book 27 = .ok (.invokevirtual 49, 3) := by decide +kernel
theorem dX4_book_30 : decode cX4_book 30 = .ok (.ireturn, 1) := by decide +kernel
theorem dX4_book_31 : decode cX4_book 31 = .ok (.aload_n 0, 1) := by decide +kernel
theorem dX4_book_32 : decode cX4_book 32 = .ok (.iload_n 2, 1) := by decide +kernel
theorem dX4_book_33 : decode cX4_book 33 = .ok (.invokevirtual 94, 3) := by decide +kernel
theorem dX4_book_36 : decode cX4_book 36 = .ok (.ifCond .ne 10, 3) := by decide +kernel
theorem dX4_book_39 : decode cX4_book 39 = .ok (.aload_n 0, 1) := by decide +kernel
theorem dX4_book_40 : decode cX4_book 40 = .ok (.ldc 48, 2) := by decide +kernel
theorem dX4_book_42 : decode cX4_book 42 = .ok (.invokevirtual 49, 3) := by decide +kernel
theorem dX4_book_45 : decode cX4_book 45 = .ok (.ireturn, 1) := by decide +kernel
theorem dX4_book_46 : decode cX4_book 46 = .ok (.aload_n 0, 1) := by decide +kernel
theorem dX4_book_47 : decode cX4_book 47 = .ok (.invokevirtual 150, 3) := by decide +kernel
theorem dX4_book_50 : decode cX4_book 50 = .ok (.iconst 0, 1) := by decide +kernel
theorem dX4_book_51 : decode cX4_book 51 = .ok (.istore 4, 2) := by decide +kernel
theorem dX4_book_53 : decode cX4_book 53 = .ok (.iload 4, 2) := by decide +kernel
theorem dX4_book_55 : decode cX4_book 55 = .ok (.aload_n 3, 1) := by decide +kernel
theorem dX4_book_56 : decode cX4_book 56 = .ok (.getfield 192, 3) := by decide +kernel
theorem dX4_book_59 : decode cX4_book 59 = .ok (.if_icmp .ge 31, 3) := by decide +kernel
theorem dX4_book_62 : decode cX4_book 62 = .ok (.aload_n 3, 1) := by decide +kernel
theorem dX4_book_63 : decode cX4_book 63 = .ok (.iload 4, 2) := by decide +kernel
theorem dX4_book_65 : decode cX4_book 65 = .ok (.aload_n 0, 1) := by decide +kernel
theorem dX4_book_66 : decode cX4_book 66 = .ok (.getfield 16, 3) := by decide +kernel
theorem dX4_book_69 : decode cX4_book 69 = .ok (.iload_n 2, 1) := by decide +kernel
theorem dX4_book_70 : decode cX4_book 70 = .ok (.invokevirtual 128, 3) := by decide +kernel
theorem dX4_book_73 : decode cX4_book 73 = .ok (.i2l, 1) := by decide +kernel
theorem dX4_book_74 : decode cX4_book 74 = .ok (.invokevirtual 202, 3) := by decide +kernel
theorem dX4_book_77 : decode cX4_book 77 = .ok (.aload_n 0, 1) := by decide +kernel
theorem dX4_book_78 : decode cX4_book 78 = .ok (.getfield 16, 3) := by decide +kernel
theorem dX4_book_81 : decode cX4_book 81 = .ok (.invokevirtual 153, 3) := by decide +kernel
theorem dX4_book_84 : decode cX4_book 84 = .ok (.iinc 4 1, 3) := by decide +kernel
theorem dX4_book_87 : decode cX4_book 87 = .ok (.goto (-34), 3) := by decide +kernel
theorem dX4_book_90 : decode cX4_book 90 = .ok (.aload_n 3, 1) := by decide +kernel
theorem dX4_book_91 : decode cX4_book 91 = .ok (.getfield 192, 3) := by decide +kernel
theorem dX4_book_94 : decode cX4_book 94 = .ok (.ireturn, 1) := by decide +kernel
theorem dX4_read_0 : decode cX4_read 0 = .ok (.aload_n 0, 1) := by decide +kernel
theorem dX4_read_1 : decode cX4_read 1 = .ok (.iload_n 1, 1) := by decide +kernel
theorem dX4_read_2 : decode cX4_read 2 = .ok (.invokevirtual 184, 3) := by decide +kernel
theorem dX4_read_5 : decode cX4_read 5 = .ok (.astore 4, 2) := by decide +kernel
theorem dX4_read_7 : decode cX4_read 7 = .ok (.aload 4, 2) := by decide +kernel
theorem dX4_read_9 : decode cX4_read 9 = .ok (.ifnonnull 10, 3) := by decide +kernel
theorem dX4_read_12 : decode cX4_read 12 = .ok (.aload_n 0, 1) := by decide +kernel
theorem dX4_read_13 : decode cX4_read 13 = .ok (.ldc 48, 2) := by decide +kernel
theorem dX4_read_15 : decode cX4_read 15 = .ok (.invokevirtual 49, 3) := by decide +kernel
theorem dX4_read_18 : decode cX4_read 18 = .ok (.ireturn, 1) := by decide +kernel
theorem dX4_read_19 : decode cX4_read 19 = .ok (.aload 4, 2) := by decide +kernel
theorem dX4_read_21 : decode cX4_read 21 = .ok (.invokevirtual 193, 3) := by decide +kernel
theorem dX4_read_24 : decode cX4_read 24 = .ok (.ifCond .eq 10, 3) := by decide +kernel
theorem dX4_read_27 : decode cX4_read 27 = .ok (.aload_n 0, 1) := by decide +kernel
theorem dX4_read_28 : decode cX4_read 28 = .ok (.ldc 197, 2) := by decide +kernel
theorem dX4_read_30 : decode cX4_read 30 = .ok (.invokevirtual 49, 3) := by decide +kernel
theorem dX4_read_33 : decode cX4_read 33 = .ok (.ireturn, 1) := by decide +kernel
theorem dX4_read_34 : decode cX4_read 34 = .ok (.aload_n 0, 1) := by decide +kernel
theorem dX4_read_35 : decode cX4_read 35 = .ok (.iload_n 2, 1) := by decide +kernel
theorem dX4_read_36 : decode cX4_read 36 = .ok (.invokevirtual 94, 3) := by decide +kernel
theorem dX4_read_39 : decode cX4_read 39 = .ok (.ifCond .eq 16, 3) := by decide +kernel
theorem dX4_read_42 : decode cX4_read 42 = .ok (.aload_n 0, 1) := by decide +kernel
theorem dX4_read_43 : decode cX4_read 43 = .ok (.iload_n 3, 1) := by decide +kernel
theorem dX4_read_44 : decode cX4_read 44 = .ok (.invokevirtual 94, 3) := by decide +kernel
theorem dX4_read_47 : decode cX4_read 47 = .ok (.ifCond .eq 8, 3) := by decide +kernel
theorem dX4_read_50 : decode cX4_read 50 = .ok (.iload_n 2, 1) := by decide +kernel
theorem dX4_read_51 : decode cX4_read 51 = .ok (.iload_n 3, 1) := by decide +kernel
theorem dX4_read_52 : decode cX4_read 52 = .ok (.if_icmp .ne 10, 3) := by decide +kernel
theorem dX4_read_55 : decode cX4_read 55 = .ok (.aload_n 0, 1) := by decide +kernel
theorem dX4_read_56 : decode cX4_read 56 = .ok (.ldc 48, 2) := by decide +kernel
theorem dX4_read_58 : decode cX4_read 58 = .ok (.invokevirtual 49, 3) := by decide +kernel
theorem dX4_read_61 : decode cX4_read 61 = .ok (.ireturn, 1) := by decide +kernel
theorem dX4_read_62 : decode cX4_read 62 = .ok (.iconst 0, 1) := by decide +kernel
theorem dX4_read_63 : decode cX4_read 63 = .ok (.istore 5, 2) := by decide +kernel
theorem dX4_read_65 : decode cX4_read 65 = .ok (.iconst 0, 1) := by decide +kernel
theorem dX4_read_66 : decode cX4_read 66 = .ok (.istore 6, 2) := by decide +kernel
theorem dX4_read_68 : decode cX4_read 68 = .ok (.iload 6, 2) := by decide +kernel
theorem dX4_read_70 : decode cX4_read 70 = .ok (.bipush 6, 2) := by decide +kernel
theorem dX4_read_72 : decode cX4_read 72 = .ok (.if_icmp .ge 64, 3) := by decide +kernel
theorem dX4_read_75 : decode cX4_read 75 = .ok (.iconst 0, 1) := by decide +kernel
theorem dX4_read_76 : decode cX4_read 76 = .ok (.istore 7, 2) := by decide +kernel
theorem dX4_read_78 : decode cX4_read 78 = .ok (.iload 7, 2) := by decide +kernel
theorem dX4_read_80 : decode cX4_read 80 = .ok (.bipush 6, 2) := by decide +kernel
theorem dX4_read_82 : decode cX4_read 82 = .ok (.if_icmp .ge 48, 3) := by decide +kernel
theorem dX4_read_85 : decode cX4_read 85 = .ok (.aload_n 0, 1) := by decide +kernel
theorem dX4_read_86 : decode cX4_read 86 = .ok (.invokevirtual 150, 3) := by decide +kernel
theorem dX4_read_89 : decode cX4_read 89 = .ok (.aload_n 0, 1) := by decide +kernel
theorem dX4_read_90 : decode cX4_read 90 = .ok (.getfield 16, 3) := by decide +kernel
theorem dX4_read_93 : decode cX4_read 93 = .ok (.getfield 97, 3) := by decide +kernel
theorem dX4_read_96 : decode cX4_read 96 = .ok (.iload_n 2, 1) := by decide +kernel
theorem dX4_read_97 : decode cX4_read 97 = .ok (.iload 6, 2) := by decide +kernel
theorem dX4_read_99 : decode cX4_read 99 = .ok (.iastore, 1) := by decide +kernel
theorem dX4_read_100 : decode cX4_read 100 = .ok (.aload_n 0, 1) := by decide +kernel
theorem dX4_read_101 : decode cX4_read 101 = .ok (.getfield 16, 3) := by decide +kernel
theorem dX4_read_104 : decode cX4_read 104 = .ok (.getfield 97, 3) := by decide +kernel
theorem dX4_read_107 : decode cX4_read 107 = .ok (.iload_n 3, 1) := by decide +kernel
theorem dX4_read_108 : decode cX4_read 108 = .ok (.iload 7, 2) := by decide +kernel
theorem dX4_read_110 : decode cX4_read 110 = .ok (.iastore, 1) := by decide +kernel
theorem dX4_read_111 : decode cX4_read 111 = .ok (.aload_n 0, 1) := by decide +kernel
theorem dX4_read_112 : decode cX4_read 112 = .ok (.aload 4, 2) := by decide +kernel
theorem dX4_read_114 : decode cX4_read 114 = .ok (.iload_n 2, 1) := by decide +kernel
theorem dX4_read_115 : decode cX4_read 115 = .ok (.invokevirtual 220, 3) := by decide +kernel
theorem dX4_read_118 : decode cX4_read 118 = .ok (.ifCond .eq 6, 3) := by decide +kernel
theorem dX4_read_121 : decode cX4_read 121 = .ok (.iinc 5 1, 3) := by decide +kernel
theorem dX4_read_124 : decode cX4_read 124 = .ok (.iinc 7 1, 3) := by decide +kernel
theorem dX4_read_127 : decode cX4_read 127 = .ok (.goto (-49), 3) := by decide +kernel
theorem dX4_read_130 : decode cX4_read 130 = .ok (.iinc 6 1, 3) := by decide +kernel
theorem dX4_read_133 : decode cX4_read 133 = .ok (.goto (-65), 3) := by decide +kernel
theorem dX4_read_136 : decode cX4_read 136 = .ok (.iload 5, 2) := by decide +kernel
theorem dX4_read_138 : decode cX4_read 138 = .ok (.ireturn, 1) := by decide +kernel
theorem dX4_image_0 : decode cX4_image 0 = .ok (.aload_n 0, 1) := by decide +kernel
theorem dX4_image_1 : decode cX4_image 1 = .ok (.getfield 19, 3) := by decide +kernel
theorem dX4_image_4 : decode cX4_image 4 = .ok (.aload_n 0, 1) := by decide +kernel
theorem dX4_image_5 : decode cX4_image 5 = .ok (.getfield 10, 3) := by decide +kernel
theorem dX4_image_8 : decode cX4_image 8 = .ok (.invokevirtual 180, 3) := by decide +kernel
theorem dX4_image_11 : decode cX4_image 11 = .ok (.aload_n 0, 1) := by decide +kernel
theorem dX4_image_12 : decode cX4_image 12 = .ok (.iconst 1, 1) := by decide +kernel
theorem dX4_image_13 : decode cX4_image 13 = .ok (.putfield 39, 3) := by decide +kernel
theorem dX4_image_16 : decode cX4_image 16 = .ok (.iconst 1, 1) := by decide +kernel
theorem dX4_image_17 : decode cX4_image 17 = .ok (.ireturn, 1) := by decide +kernel
theorem dX4_undo_0 : decode cX4_undo 0 = .ok (.aload_n 0, 1) := by decide +kernel
theorem dX4_undo_1 : decode cX4_undo 1 = .ok (.getfield 39, 3) := by decide +kernel
theorem dX4_undo_4 : decode cX4_undo 4 = .ok (.ifCond .ne 10, 3) := by decide +kernel
theorem dX4_undo_7 : decode cX4_undo 7 = .ok (.aload_n 0, 1) := by decide +kernel
theorem dX4_undo_8 : decode cX4_undo 8 = .ok (.ldc 156, 2) := by decide +kernel
theorem dX4_undo_10 : decode cX4_undo 10 = .ok (.invokevirtual 49, 3) := by decide +kernel
theorem dX4_undo_13 : decode cX4_undo 13 = .ok (.ireturn, 1) := by decide +kernel
theorem dX4_undo_14 : decode cX4_undo 14 = .ok (.aload_n 0, 1) := by decide +kernel
theorem dX4_undo_15 : decode cX4_undo 15 = .ok (.getfield 10, 3) := by decide +kernel
theorem dX4_undo_18 : decode cX4_undo 18 = .ok (.aload_n 0, 1) := by decide +kernel
theorem dX4_undo_19 : decode cX4_undo 19 = .ok (.getfield 19, 3) := by decide +kernel
theorem dX4_undo_22 : decode cX4_undo 22 = .ok (.invokevirtual 180, 3) := by decide +kernel
theorem dX4_undo_25 : decode cX4_undo 25 = .ok (.aload_n 0, 1) := by decide +kernel
theorem dX4_undo_26 : decode cX4_undo 26 = .ok (.getfield 10, 3) := by decide +kernel
theorem dX4_undo_29 : decode cX4_undo 29 = .ok (.getfield 86, 3) := by decide +kernel
theorem dX4_undo_32 : decode cX4_undo 32 = .ok (.ireturn, 1) := by decide +kernel
theorem dX4_tear_0 : decode cX4_tear 0 = .ok (.aload_n 0, 1) := by decide +kernel
theorem dX4_tear_1 : decode cX4_tear 1 = .ok (.getfield 39, 3) := by decide +kernel
theorem dX4_tear_4 : decode cX4_tear 4 = .ok (.ifCond .eq 7, 3) := by decide +kernel
theorem dX4_tear_7 : decode cX4_tear 7 = .ok (.iconst 1, 1) := by decide +kernel
theorem dX4_tear_8 : decode cX4_tear 8 = .ok (.goto 4, 3) := by decide +kernel
theorem dX4_tear_11 : decode cX4_tear 11 = .ok (.iconst 0, 1) := by decide +kernel
theorem dX4_tear_12 : decode cX4_tear 12 = .ok (.istore_n 1, 1) := by decide +kernel
theorem dX4_tear_13 : decode cX4_tear 13 = .ok (.aload_n 0, 1) := by decide +kernel
theorem dX4_tear_14 : decode cX4_tear 14 = .ok (.iconst 0, 1) := by decide +kernel
theorem dX4_tear_15 : decode cX4_tear 15 = .ok (.putfield 39, 3) := by decide +kernel
theorem dX4_tear_18 : decode cX4_tear 18 = .ok (.iload_n 1, 1) := by decide +kernel
theorem dX4_tear_19 : decode cX4_tear 19 = .ok (.ireturn, 1) := by decide +kernel
theorem dX4_count_0 : decode cX4_count 0 = .ok (.iload_n 1, 1) := by decide +kernel
theorem dX4_count_1 : decode cX4_count 1 = .ok (.tableswitch 66 0 3 #[31, 39, 47, 58], 31) := by decide +kernel
theorem dX4_count_32 : decode cX4_count 32 = .ok (.aload_n 0, 1) := by decide +kernel
theorem dX4_count_33 : decode cX4_count 33 = .ok (.getfield 10, 3) := by decide +kernel
theorem dX4_count_36 : decode cX4_count 36 = .ok (.getfield 86, 3) := by decide +kernel
theorem dX4_count_39 : decode cX4_count 39 = .ok (.ireturn, 1) := by decide +kernel
theorem dX4_count_40 : decode cX4_count 40 = .ok (.aload_n 0, 1) := by decide +kernel
theorem dX4_count_41 : decode cX4_count 41 = .ok (.getfield 25, 3) := by decide +kernel
theorem dX4_count_44 : decode cX4_count 44 = .ok (.getfield 170, 3) := by decide +kernel
theorem dX4_count_47 : decode cX4_count 47 = .ok (.ireturn, 1) := by decide +kernel
theorem dX4_count_48 : decode cX4_count 48 = .ok (.aload_n 0, 1) := by decide +kernel
theorem dX4_count_49 : decode cX4_count 49 = .ok (.getfield 10, 3) := by decide +kernel
theorem dX4_count_52 : decode cX4_count 52 = .ok (.invokevirtual 70, 3) := by decide +kernel
theorem dX4_count_55 : decode cX4_count 55 = .ok (.invokestatic 224, 3) := by decide +kernel
theorem dX4_count_58 : decode cX4_count 58 = .ok (.ireturn, 1) := by decide +kernel
theorem dX4_count_59 : decode cX4_count 59 = .ok (.aload_n 0, 1) := by decide +kernel
theorem dX4_count_60 : decode cX4_count 60 = .ok (.getfield 10, 3) := by decide +kernel
theorem dX4_count_63 : decode cX4_count 63 = .ok (.invokevirtual 229, 3) := by decide +kernel
theorem dX4_count_66 : decode cX4_count 66 = .ok (.ireturn, 1) := by decide +kernel
theorem dX4_count_67 : decode cX4_count 67 = .ok (.aload_n 0, 1) := by decide +kernel
theorem dX4_count_68 : decode cX4_count 68 = .ok (.ldc 48, 2) := by decide +kernel
theorem dX4_count_70 : decode cX4_count 70 = .ok (.invokevirtual 49, 3) := by decide +kernel
theorem dX4_count_73 : decode cX4_count 73 = .ok (.ireturn, 1) := by decide +kernel
theorem dX4_status_0 : decode cX4_status 0 = .ok (.iload_n 1, 1) := by decide +kernel
theorem dX4_status_1 : decode cX4_status 1 = .ok (.iconst (-1), 1) := by decide +kernel
theorem dX4_status_2 : decode cX4_status 2 = .ok (.bipush 6, 2) := by decide +kernel
theorem dX4_status_4 : decode cX4_status 4 = .ok (.invokestatic 44, 3) := by decide +kernel
theorem dX4_status_7 : decode cX4_status 7 = .ok (.ifCond .ne 10, 3) := by decide +kernel
theorem dX4_status_10 : decode cX4_status 10 = .ok (.aload_n 0, 1) := by decide +kernel
theorem dX4_status_11 : decode cX4_status 11 = .ok (.ldc 48, 2) := by decide +kernel
theorem dX4_status_13 : decode cX4_status 13 = .ok (.invokevirtual 49, 3) := by decide +kernel
theorem dX4_status_16 : decode cX4_status 16 = .ok (.ireturn, 1) := by decide +kernel
theorem dX4_status_17 : decode cX4_status 17 = .ok (.iload_n 1, 1) := by decide +kernel
theorem dX4_status_18 : decode cX4_status 18 = .ok (.ifCond .lt 10, 3) := by decide +kernel
theorem dX4_status_21 : decode cX4_status 21 = .ok (.aload_n 0, 1) := by decide +kernel
theorem dX4_status_22 : decode cX4_status 22 = .ok (.getfield 35, 3) := by decide +kernel
theorem dX4_status_25 : decode cX4_status 25 = .ok (.iload_n 1, 1) := by decide +kernel
theorem dX4_status_26 : decode cX4_status 26 = .ok (.iaload, 1) := by decide +kernel
theorem dX4_status_27 : decode cX4_status 27 = .ok (.ireturn, 1) := by decide +kernel
theorem dX4_status_28 : decode cX4_status 28 = .ok (.iconst 0, 1) := by decide +kernel
theorem dX4_status_29 : decode cX4_status 29 = .ok (.istore_n 2, 1) := by decide +kernel
theorem dX4_status_30 : decode cX4_status 30 = .ok (.iconst 0, 1) := by decide +kernel
theorem dX4_status_31 : decode cX4_status 31 = .ok (.istore_n 3, 1) := by decide +kernel
theorem dX4_status_32 : decode cX4_status 32 = .ok (.iload_n 3, 1) := by decide +kernel
theorem dX4_status_33 : decode cX4_status 33 = .ok (.bipush 7, 2) := by decide +kernel
theorem dX4_status_35 : decode cX4_status 35 = .ok (.if_icmp .ge 18, 3) := by decide +kernel
theorem dX4_status_38 : decode cX4_status 38 = .ok (.iload_n 2, 1) := by decide +kernel
theorem dX4_status_39 : decode cX4_status 39 = .ok (.aload_n 0, 1) := by decide +kernel
theorem dX4_status_40 : decode cX4_status 40 = .ok (.getfield 35, 3) := by decide +kernel
theorem dX4_status_43 : decode cX4_status 43 = .ok (.iload_n 3, 1) := by decide +kernel
theorem dX4_status_44 : decode cX4_status 44 = .ok (.iaload, 1) := by decide +kernel
theorem dX4_status_45 : decode cX4_status 45 = .ok (.iadd, 1) := by decide +kernel
theorem dX4_status_46 : decode cX4_status 46 = .ok (.istore_n 2, 1) := by decide +kernel
theorem dX4_status_47 : decode cX4_status 47 = .ok (.iinc 3 1, 3) := by decide +kernel
theorem dX4_status_50 : decode cX4_status 50 = .ok (.goto (-18), 3) := by decide +kernel
theorem dX4_status_53 : decode cX4_status 53 = .ok (.iload_n 2, 1) := by decide +kernel
theorem dX4_status_54 : decode cX4_status 54 = .ok (.ireturn, 1) := by decide +kernel
theorem dX4_finding_0 : decode cX4_finding 0 = .ok (.ldc 48, 2) := by decide +kernel
theorem dX4_finding_2 : decode cX4_finding 2 = .ok (.iload_n 1, 1) := by decide +kernel
theorem dX4_finding_3 : decode cX4_finding 3 = .ok (.isub, 1) := by decide +kernel
theorem dX4_finding_4 : decode cX4_finding 4 = .ok (.istore_n 2, 1) := by decide +kernel
theorem dX4_finding_5 : decode cX4_finding 5 = .ok (.iload_n 2, 1) := by decide +kernel
theorem dX4_finding_6 : decode cX4_finding 6 = .ok (.iconst 0, 1) := by decide +kernel
theorem dX4_finding_7 : decode cX4_finding 7 = .ok (.bipush 6, 2) := by decide +kernel
theorem dX4_finding_9 : decode cX4_finding 9 = .ok (.invokestatic 44, 3) := by decide +kernel
theorem dX4_finding_12 : decode cX4_finding 12 = .ok (.ifCond .eq 13, 3) := by decide +kernel
theorem dX4_finding_15 : decode cX4_finding 15 = .ok (.aload_n 0, 1) := by decide +kernel
theorem dX4_finding_16 : decode cX4_finding 16 = .ok (.getfield 35, 3) := by decide +kernel
theorem dX4_finding_19 : decode cX4_finding 19 = .ok (.iload_n 2, 1) := by decide +kernel
theorem dX4_finding_20 : decode cX4_finding 20 = .ok (.dup2, 1) := by decide +kernel
theorem dX4_finding_21 : decode cX4_finding 21 = .ok (.iaload, 1) := by decide +kernel
theorem dX4_finding_22 : decode cX4_finding 22 = .ok (.iconst 1, 1) := by decide +kernel
theorem dX4_finding_23 : decode cX4_finding 23 = .ok (.iadd, 1) := by decide +kernel
theorem dX4_finding_24 : decode cX4_finding 24 = .ok (.iastore, 1) := by decide +kernel
theorem dX4_finding_25 : decode cX4_finding 25 = .ok (.iload_n 1, 1) := by decide +kernel
theorem dX4_finding_26 : decode cX4_finding 26 = .ok (.ireturn, 1) := by decide +kernel
theorem dX4_within_0 : decode cX4_within 0 = .ok (.iload_n 0, 1) := by decide +kernel
theorem dX4_within_1 : decode cX4_within 1 = .ok (.iload_n 1, 1) := by decide +kernel
theorem dX4_within_2 : decode cX4_within 2 = .ok (.if_icmp .lt 12, 3) := by decide +kernel
theorem dX4_within_5 : decode cX4_within 5 = .ok (.iload_n 0, 1) := by decide +kernel
theorem dX4_within_6 : decode cX4_within 6 = .ok (.iload_n 2, 1) := by decide +kernel
theorem dX4_within_7 : decode cX4_within 7 = .ok (.if_icmp .gt 7, 3) := by decide +kernel
theorem dX4_within_10 : decode cX4_within 10 = .ok (.iconst 1, 1) := by decide +kernel
theorem dX4_within_11 : decode cX4_within 11 = .ok (.goto 4, 3) := by decide +kernel
theorem dX4_within_14 : decode cX4_within 14 = .ok (.iconst 0, 1) := by decide +kernel
theorem dX4_within_15 : decode cX4_within 15 = .ok (.ireturn, 1) := by decide +kernel
theorem dX4_isKind_0 : decode cX4_isKind 0 = .ok (.iload_n 0, 1) := by decide +kernel
theorem dX4_isKind_1 : decode cX4_isKind 1 = .ok (.iconst 0, 1) := by decide +kernel
theorem dX4_isKind_2 : decode cX4_isKind 2 = .ok (.iconst 5, 1) := by decide +kernel
theorem dX4_isKind_3 : decode cX4_isKind 3 = .ok (.invokestatic 44, 3) := by decide +kernel
theorem dX4_isKind_6 : decode cX4_isKind 6 = .ok (.ireturn, 1) := by decide +kernel
theorem dX4_isPerson_0 : decode cX4_isPerson 0 = .ok (.iload_n 1, 1) := by decide +kernel
theorem dX4_isPerson_1 : decode cX4_isPerson 1 = .ok (.iconst 0, 1) := by decide +kernel
theorem dX4_isPerson_2 : decode cX4_isPerson 2 = .ok (.aload_n 0, 1) := by decide +kernel
theorem dX4_isPerson_3 : decode cX4_isPerson 3 = .ok (.getfield 10, 3) := by decide +kernel
theorem dX4_isPerson_6 : decode cX4_isPerson 6 = .ok (.getfield 86, 3) := by decide +kernel
theorem dX4_isPerson_9 : decode cX4_isPerson 9 = .ok (.iconst 1, 1) := by decide +kernel
theorem dX4_isPerson_10 : decode cX4_isPerson 10 = .ok (.isub, 1) := by decide +kernel
theorem dX4_isPerson_11 : decode cX4_isPerson 11 = .ok (.invokestatic 44, 3) := by decide +kernel
theorem dX4_isPerson_14 : decode cX4_isPerson 14 = .ok (.ireturn, 1) := by decide +kernel
theorem dX4_sheetAt_0 : decode cX4_sheetAt 0 = .ok (.iload_n 1, 1) := by decide +kernel
theorem dX4_sheetAt_1 : decode cX4_sheetAt 1 = .ok (.iconst 0, 1) := by decide +kernel
theorem dX4_sheetAt_2 : decode cX4_sheetAt 2 = .ok (.iconst 3, 1) := by decide +kernel
theorem dX4_sheetAt_3 : decode cX4_sheetAt 3 = .ok (.invokestatic 44, 3) := by decide +kernel
theorem dX4_sheetAt_6 : decode cX4_sheetAt 6 = .ok (.ifCond .eq 12, 3) := by decide +kernel
theorem dX4_sheetAt_9 : decode cX4_sheetAt 9 = .ok (.aload_n 0, 1) := by decide +kernel
theorem dX4_sheetAt_10 : decode cX4_sheetAt 10 = .ok (.getfield 31, 3) := by decide +kernel
theorem dX4_sheetAt_13 : decode cX4_sheetAt 13 = .ok (.iload_n 1, 1) := by decide +kernel
theorem dX4_sheetAt_14 : decode cX4_sheetAt 14 = .ok (.aaload, 1) := by decide +kernel
theorem dX4_sheetAt_15 : decode cX4_sheetAt 15 = .ok (.goto 4, 3) := by decide +kernel
theorem dX4_sheetAt_18 : decode cX4_sheetAt 18 = .ok (.aconst_null, 1) := by decide +kernel
theorem dX4_sheetAt_19 : decode cX4_sheetAt 19 = .ok (.areturn, 1) := by decide +kernel
theorem dX4_startTrial_0 : decode cX4_startTrial 0 = .ok (.aload_n 0, 1) := by decide +kernel
theorem dX4_startTrial_1 : decode cX4_startTrial 1 = .ok (.getfield 16, 3) := by decide +kernel
theorem dX4_startTrial_4 : decode cX4_startTrial 4 = .ok (.aload_n 0, 1) := by decide +kernel
theorem dX4_startTrial_5 : decode cX4_startTrial 5 = .ok (.getfield 10, 3) := by decide +kernel
theorem dX4_startTrial_8 : decode cX4_startTrial 8 = .ok (.invokevirtual 180, 3) := by decide +kernel
theorem dX4_startTrial_11 : decode cX4_startTrial 11 = .ok (.return_, 1) := by decide +kernel
theorem dX4_brownWith_0 : decode cX4_brownWith 0 = .ok (.aload_n 0, 1) := by decide +kernel
theorem dX4_brownWith_1 : decode cX4_brownWith 1 = .ok (.invokevirtual 150, 3) := by decide +kernel
theorem dX4_brownWith_4 : decode cX4_brownWith 4 = .ok (.aload_n 0, 1) := by decide +kernel
theorem dX4_brownWith_5 : decode cX4_brownWith 5 = .ok (.getfield 16, 3) := by decide +kernel
theorem dX4_brownWith_8 : decode cX4_brownWith 8 = .ok (.getfield 103, 3) := by decide +kernel
theorem dX4_brownWith_11 : decode cX4_brownWith 11 = .ok (.iload_n 1, 1) := by decide +kernel
theorem dX4_brownWith_12 : decode cX4_brownWith 12 = .ok (.iload_n 2, 1) := by decide +kernel
theorem dX4_brownWith_13 : decode cX4_brownWith 13 = .ok (.iastore, 1) := by decide +kernel
theorem dX4_brownWith_14 : decode cX4_brownWith 14 = .ok (.aload_n 0, 1) := by decide +kernel
theorem dX4_brownWith_15 : decode cX4_brownWith 15 = .ok (.getfield 16, 3) := by decide +kernel
theorem dX4_brownWith_18 : decode cX4_brownWith 18 = .ok (.iload 4, 2) := by decide +kernel
theorem dX4_brownWith_20 : decode cX4_brownWith 20 = .ok (.invokevirtual 146, 3) := by decide +kernel
theorem dX4_brownWith_23 : decode cX4_brownWith 23 = .ok (.aload_n 0, 1) := by decide +kernel
theorem dX4_brownWith_24 : decode cX4_brownWith 24 = .ok (.getfield 16, 3) := by decide +kernel
theorem dX4_brownWith_27 : decode cX4_brownWith 27 = .ok (.iload_n 3, 1) := by decide +kernel
theorem dX4_brownWith_28 : decode cX4_brownWith 28 = .ok (.invokevirtual 128, 3) := by decide +kernel
theorem dX4_brownWith_31 : decode cX4_brownWith 31 = .ok (.ireturn, 1) := by decide +kernel
theorem dX4_trialGoesAs_0 : decode cX4_trialGoesAs 0 = .ok (.iconst 0, 1) := by decide +kernel
theorem dX4_trialGoesAs_1 : decode cX4_trialGoesAs 1 = .ok (.istore_n 3, 1) := by decide +kernel
theorem dX4_trialGoesAs_2 : decode cX4_trialGoesAs 2 = .ok (.iload_n 3, 1) := by decide +kernel
theorem dX4_trialGoesAs_3 : decode cX4_trialGoesAs 3 = .ok (.aload_n 1, 1) := by decide +kernel
theorem dX4_trialGoesAs_4 : decode cX4_trialGoesAs 4 = .ok (.getfield 192, 3) := by decide +kernel
theorem dX4_trialGoesAs_7 : decode cX4_trialGoesAs 7 = .ok (.if_icmp .ge 37, 3) := by decide +kernel
theorem dX4_trialGoesAs_10 : decode cX4_trialGoesAs 10 = .ok (.aload_n 1, 1) := by decide +kernel
theorem dX4_trialGoesAs_11 : decode cX4_trialGoesAs 11 = .ok (.getfield 198, 3) := by decide +kernel
theorem dX4_trialGoesAs_14 : decode cX4_trialGoesAs 14 = .ok (.iload_n 3, 1) := by decide +kernel
theorem dX4_trialGoesAs_15 : decode cX4_trialGoesAs 15 = .ok (.laload, 1) := by decide +kernel
theorem dX4_trialGoesAs_16 : decode cX4_trialGoesAs 16 = .ok (.aload_n 0, 1) := by decide +kernel
theorem dX4_trialGoesAs_17 : decode cX4_trialGoesAs 17 = .ok (.getfield 16, 3) := by decide +kernel
theorem dX4_trialGoesAs_20 : decode cX4_trialGoesAs 20 = .ok (.iload_n 2, 1) := by decide +kernel
theorem dX4_trialGoesAs_21 : decode cX4_trialGoesAs 21 = .ok (.invokevirtual 128, 3) := by decide +kernel
theorem dX4_trialGoesAs_24 : decode cX4_trialGoesAs 24 = .ok (.i2l, 1) := by decide +kernel
theorem dX4_trialGoesAs_25 : decode cX4_trialGoesAs 25 = .ok (.lcmp, 1) := by decide +kernel
theorem dX4_trialGoesAs_26 : decode cX4_trialGoesAs 26 = .ok (.ifCond .eq 5, 3) := by decide +kernel
theorem dX4_trialGoesAs_29 : decode cX4_trialGoesAs 29 = .ok (.iconst 0, 1) := by decide +kernel
theorem dX4_trialGoesAs_30 : decode cX4_trialGoesAs 30 = .ok (.ireturn, 1) := by decide +kernel
theorem dX4_trialGoesAs_31 : decode cX4_trialGoesAs 31 = .ok (.aload_n 0, 1) := by decide +kernel
theorem dX4_trialGoesAs_32 : decode cX4_trialGoesAs 32 = .ok (.getfield 16, 3) := by decide +kernel
theorem dX4_trialGoesAs_35 : decode cX4_trialGoesAs 35 = .ok (.invokevirtual 153, 3) := by decide +kernel
theorem dX4_trialGoesAs_38 : decode cX4_trialGoesAs 38 = .ok (.iinc 3 1, 3) := by decide +kernel
theorem dX4_trialGoesAs_41 : decode cX4_trialGoesAs 41 = .ok (.goto (-39), 3) := by decide +kernel
theorem dX4_trialGoesAs_44 : decode cX4_trialGoesAs 44 = .ok (.iconst 1, 1) := by decide +kernel
theorem dX4_trialGoesAs_45 : decode cX4_trialGoesAs 45 = .ok (.ireturn, 1) := by decide +kernel
end
section
theorem dJ6_bitCount_0f7a4_0 : decode cJ6_bitCount_0f7a4 0 = .ok (.iload_n 0, 1) := by decide +kernel
theorem dJ6_bitCount_0f7a4_1 : decode cJ6_bitCount_0f7a4 1 = .ok (.iload_n 0, 1) := by decide +kernel
theorem dJ6_bitCount_0f7a4_2 : decode cJ6_bitCount_0f7a4 2 = .ok (.iconst 1, 1) := by decide +kernel
theorem dJ6_bitCount_0f7a4_3 : decode cJ6_bitCount_0f7a4 3 = .ok (.iushr, 1) := by decide +kernel
theorem dJ6_bitCount_0f7a4_4 : decode cJ6_bitCount_0f7a4 4 = .ok (.ldc_w 265, 3) := by decide +kernel
theorem dJ6_bitCount_0f7a4_7 : decode cJ6_bitCount_0f7a4 7 = .ok (.iand, 1) := by decide +kernel
theorem dJ6_bitCount_0f7a4_8 : decode cJ6_bitCount_0f7a4 8 = .ok (.isub, 1) := by decide +kernel
theorem dJ6_bitCount_0f7a4_9 : decode cJ6_bitCount_0f7a4 9 = .ok (.istore_n 0, 1) := by decide +kernel
theorem dJ6_bitCount_0f7a4_10 : decode cJ6_bitCount_0f7a4 10 = .ok (.iload_n 0, 1) := by decide +kernel
theorem dJ6_bitCount_0f7a4_11 : decode cJ6_bitCount_0f7a4 11 = .ok (.ldc_w 266, 3) := by decide +kernel
theorem dJ6_bitCount_0f7a4_14 : decode cJ6_bitCount_0f7a4 14 = .ok (.iand, 1) := by decide +kernel
theorem dJ6_bitCount_0f7a4_15 : decode cJ6_bitCount_0f7a4 15 = .ok (.iload_n 0, 1) := by decide +kernel
theorem dJ6_bitCount_0f7a4_16 : decode cJ6_bitCount_0f7a4 16 = .ok (.iconst 2, 1) := by decide +kernel
theorem dJ6_bitCount_0f7a4_17 : decode cJ6_bitCount_0f7a4 17 = .ok (.iushr, 1) := by decide +kernel
theorem dJ6_bitCount_0f7a4_18 : decode cJ6_bitCount_0f7a4 18 = .ok (.ldc_w 266, 3) := by decide +kernel
theorem dJ6_bitCount_0f7a4_21 : decode cJ6_bitCount_0f7a4 21 = .ok (.iand, 1) := by decide +kernel
theorem dJ6_bitCount_0f7a4_22 : decode cJ6_bitCount_0f7a4 22 = .ok (.iadd, 1) := by decide +kernel
theorem dJ6_bitCount_0f7a4_23 : decode cJ6_bitCount_0f7a4 23 = .ok (.istore_n 0, 1) := by decide +kernel
theorem dJ6_bitCount_0f7a4_24 : decode cJ6_bitCount_0f7a4 24 = .ok (.iload_n 0, 1) := by decide +kernel
theorem dJ6_bitCount_0f7a4_25 : decode cJ6_bitCount_0f7a4 25 = .ok (.iload_n 0, 1) := by decide +kernel
theorem dJ6_bitCount_0f7a4_26 : decode cJ6_bitCount_0f7a4 26 = .ok (.iconst 4, 1) := by decide +kernel
theorem dJ6_bitCount_0f7a4_27 : decode cJ6_bitCount_0f7a4 27 = .ok (.iushr, 1) := by decide +kernel
theorem dJ6_bitCount_0f7a4_28 : decode cJ6_bitCount_0f7a4 28 = .ok (.iadd, 1) := by decide +kernel
theorem dJ6_bitCount_0f7a4_29 : decode cJ6_bitCount_0f7a4 29 = .ok (.ldc_w 267, 3) := by decide +kernel
theorem dJ6_bitCount_0f7a4_32 : decode cJ6_bitCount_0f7a4 32 = .ok (.iand, 1) := by decide +kernel
theorem dJ6_bitCount_0f7a4_33 : decode cJ6_bitCount_0f7a4 33 = .ok (.istore_n 0, 1) := by decide +kernel
theorem dJ6_bitCount_0f7a4_34 : decode cJ6_bitCount_0f7a4 34 = .ok (.iload_n 0, 1) := by decide +kernel
theorem dJ6_bitCount_0f7a4_35 : decode cJ6_bitCount_0f7a4 35 = .ok (.iload_n 0, 1) := by decide +kernel
theorem dJ6_bitCount_0f7a4_36 : decode cJ6_bitCount_0f7a4 36 = .ok (.bipush 8, 2) := by decide +kernel
theorem dJ6_bitCount_0f7a4_38 : decode cJ6_bitCount_0f7a4 38 = .ok (.iushr, 1) := by decide +kernel
theorem dJ6_bitCount_0f7a4_39 : decode cJ6_bitCount_0f7a4 39 = .ok (.iadd, 1) := by decide +kernel
theorem dJ6_bitCount_0f7a4_40 : decode cJ6_bitCount_0f7a4 40 = .ok (.istore_n 0, 1) := by decide +kernel
theorem dJ6_bitCount_0f7a4_41 : decode cJ6_bitCount_0f7a4 41 = .ok (.iload_n 0, 1) := by decide +kernel
theorem dJ6_bitCount_0f7a4_42 : decode cJ6_bitCount_0f7a4 42 = .ok (.iload_n 0, 1) := by decide +kernel
theorem dJ6_bitCount_0f7a4_43 : decode cJ6_bitCount_0f7a4 43 = .ok (.bipush 16, 2) := by decide +kernel
theorem dJ6_bitCount_0f7a4_45 : decode cJ6_bitCount_0f7a4 45 = .ok (.iushr, 1) := by decide +kernel
theorem dJ6_bitCount_0f7a4_46 : decode cJ6_bitCount_0f7a4 46 = .ok (.iadd, 1) := by decide +kernel
theorem dJ6_bitCount_0f7a4_47 : decode cJ6_bitCount_0f7a4 47 = .ok (.istore_n 0, 1) := by decide +kernel
theorem dJ6_bitCount_0f7a4_48 : decode cJ6_bitCount_0f7a4 48 = .ok (.iload_n 0, 1) := by decide +kernel
theorem dJ6_bitCount_0f7a4_49 : decode cJ6_bitCount_0f7a4 49 = .ok (.bipush 63, 2) := by decide +kernel
theorem dJ6_bitCount_0f7a4_51 : decode cJ6_bitCount_0f7a4 51 = .ok (.iand, 1) := by decide +kernel
theorem dJ6_bitCount_0f7a4_52 : decode cJ6_bitCount_0f7a4 52 = .ok (.ireturn, 1) := by decide +kernel
theorem dJ9_abs_0f7a4_0 : decode cJ9_abs_0f7a4 0 = .ok (.iload_n 0, 1) := by decide +kernel
theorem dJ9_abs_0f7a4_1 : decode cJ9_abs_0f7a4 1 = .ok (.ifCond .ge 8, 3) := by decide +kernel
theorem dJ9_abs_0f7a4_4 : decode cJ9_abs_0f7a4 4 = .ok (.iload_n 0, 1) := by decide +kernel
theorem dJ9_abs_0f7a4_5 : decode cJ9_abs_0f7a4 5 = .ok (.ineg, 1) := by decide +kernel
theorem dJ9_abs_0f7a4_6 : decode cJ9_abs_0f7a4 6 = .ok (.goto 4, 3) := by decide +kernel
theorem dJ9_abs_0f7a4_9 : decode cJ9_abs_0f7a4 9 = .ok (.iload_n 0, 1) := by decide +kernel
theorem dJ9_abs_0f7a4_10 : decode cJ9_abs_0f7a4 10 = .ok (.ireturn, 1) := by decide +kernel
theorem dJ9_max_7cf53_0 : decode cJ9_max_7cf53 0 = .ok (.iload_n 0, 1) := by decide +kernel
theorem dJ9_max_7cf53_1 : decode cJ9_max_7cf53 1 = .ok (.iload_n 1, 1) := by decide +kernel
theorem dJ9_max_7cf53_2 : decode cJ9_max_7cf53 2 = .ok (.if_icmp .lt 7, 3) := by decide +kernel
theorem dJ9_max_7cf53_5 : decode cJ9_max_7cf53 5 = .ok (.iload_n 0, 1) := by decide +kernel
theorem dJ9_max_7cf53_6 : decode cJ9_max_7cf53 6 = .ok (.goto 4, 3) := by decide +kernel
theorem dJ9_max_7cf53_9 : decode cJ9_max_7cf53 9 = .ok (.iload_n 1, 1) := by decide +kernel
theorem dJ9_max_7cf53_10 : decode cJ9_max_7cf53 10 = .ok (.ireturn, 1) := by decide +kernel
theorem dJ9_min_7cf53_0 : decode cJ9_min_7cf53 0 = .ok (.iload_n 0, 1) := by decide +kernel
theorem dJ9_min_7cf53_1 : decode cJ9_min_7cf53 1 = .ok (.iload_n 1, 1) := by decide +kernel
theorem dJ9_min_7cf53_2 : decode cJ9_min_7cf53 2 = .ok (.if_icmp .gt 7, 3) := by decide +kernel
theorem dJ9_min_7cf53_5 : decode cJ9_min_7cf53 5 = .ok (.iload_n 0, 1) := by decide +kernel
theorem dJ9_min_7cf53_6 : decode cJ9_min_7cf53 6 = .ok (.goto 4, 3) := by decide +kernel
theorem dJ9_min_7cf53_9 : decode cJ9_min_7cf53 9 = .ok (.iload_n 1, 1) := by decide +kernel
theorem dJ9_min_7cf53_10 : decode cJ9_min_7cf53 10 = .ok (.ireturn, 1) := by decide +kernel
theorem dJ0_length_8abf5_0 : decode cJ0_length_8abf5 0 = .ok (.aload_n 0, 1) := by decide +kernel
theorem dJ0_length_8abf5_1 : decode cJ0_length_8abf5 1 = .ok (.getfield 9, 3) := by decide +kernel
theorem dJ0_length_8abf5_4 : decode cJ0_length_8abf5 4 = .ok (.arraylength, 1) := by decide +kernel
theorem dJ0_length_8abf5_5 : decode cJ0_length_8abf5 5 = .ok (.aload_n 0, 1) := by decide +kernel
theorem dJ0_length_8abf5_6 : decode cJ0_length_8abf5 6 = .ok (.invokevirtual 335, 3) := by decide +kernel
theorem dJ0_length_8abf5_9 : decode cJ0_length_8abf5 9 = .ok (.ishr, 1) := by decide +kernel
theorem dJ0_length_8abf5_10 : decode cJ0_length_8abf5 10 = .ok (.ireturn, 1) := by decide +kernel
theorem dJ0_charAt_5068e_0 : decode cJ0_charAt_5068e 0 = .ok (.aload_n 0, 1) := by decide +kernel
theorem dJ0_charAt_5068e_1 : decode cJ0_charAt_5068e 1 = .ok (.invokevirtual 492, 3) := by decide +kernel
theorem dJ0_charAt_5068e_4 : decode cJ0_charAt_5068e 4 = .ok (.ifCond .eq 12, 3) := by decide +kernel
theorem dJ0_charAt_5068e_7 : decode cJ0_charAt_5068e 7 = .ok (.aload_n 0, 1) := by decide +kernel
theorem dJ0_charAt_5068e_8 : decode cJ0_charAt_5068e 8 = .ok (.getfield 9, 3) := by decide +kernel
theorem dJ0_charAt_5068e_11 : decode cJ0_charAt_5068e 11 = .ok (.iload_n 1, 1) := by decide +kernel
theorem dJ0_charAt_5068e_12 : decode cJ0_charAt_5068e 12 = .ok (.invokestatic 495, 3) := by decide +kernel
theorem dJ0_charAt_5068e_15 : decode cJ0_charAt_5068e 15 = .ok (.ireturn, 1) := by decide +kernel
theorem dJ0_charAt_5068e_16 : decode cJ0_charAt_5068e 16 = .ok (.aload_n 0, 1) := by decide +kernel
theorem dJ0_charAt_5068e_17 : decode cJ0_charAt_5068e 17 = .ok (.getfield 9, 3) := by decide +kernel
theorem dJ0_charAt_5068e_20 : decode cJ0_charAt_5068e 20 = .ok (.iload_n 1, 1) := by decide +kernel
theorem dJ0_charAt_5068e_21 : decode cJ0_charAt_5068e 21 = .ok (.invokestatic 498, 3) := by decide +kernel
theorem dJ0_charAt_5068e_24 : decode cJ0_charAt_5068e 24 = .ok (.ireturn, 1) := by decide +kernel
theorem dJ0_coder_7d493_0 : decode cJ0_coder_7d493 0 = .ok (.getstatic 38, 3) := by decide +kernel
theorem dJ0_coder_7d493_3 : decode cJ0_coder_7d493 3 = .ok (.ifCond .eq 10, 3) := by decide +kernel
theorem dJ0_coder_7d493_6 : decode cJ0_coder_7d493 6 = .ok (.aload_n 0, 1) := by decide +kernel
theorem dJ0_coder_7d493_7 : decode cJ0_coder_7d493 7 = .ok (.getfield 15, 3) := by decide +kernel
theorem dJ0_coder_7d493_10 : decode cJ0_coder_7d493 10 = .ok (.goto 4, 3) := by decide +kernel
theorem dJ0_coder_7d493_13 : decode cJ0_coder_7d493 13 = .ok (.iconst 1, 1) := by decide +kernel
theorem dJ0_coder_7d493_14 : decode cJ0_coder_7d493 14 = .ok (.ireturn, 1) := by decide +kernel
theorem dJ0_isLatin1_aae02_0 : decode cJ0_isLatin1_aae02 0 = .ok (.getstatic 38, 3) := by decide +kernel
theorem dJ0_isLatin1_aae02_3 : decode cJ0_isLatin1_aae02 3 = .ok (.ifCond .eq 14, 3) := by decide +kernel
theorem dJ0_isLatin1_aae02_6 : decode cJ0_isLatin1_aae02 6 = .ok (.aload_n 0, 1) := by decide +kernel
theorem dJ0_isLatin1_aae02_7 : decode cJ0_isLatin1_aae02 7 = .ok (.getfield 15, 3) := by decide +kernel
theorem dJ0_isLatin1_aae02_10 : decode cJ0_isLatin1_aae02 10 = .ok (.ifCond .ne 7, 3) := by decide +kernel
theorem dJ0_isLatin1_aae02_13 : decode cJ0_isLatin1_aae02 13 = .ok (.iconst 1, 1) := by decide +kernel
theorem dJ0_isLatin1_aae02_14 : decode cJ0_isLatin1_aae02 14 = .ok (.goto 4, 3) := by decide +kernel
theorem dJ0_isLatin1_aae02_17 : decode cJ0_isLatin1_aae02 17 = .ok (.iconst 0, 1) := by decide +kernel
theorem dJ0_isLatin1_aae02_18 : decode cJ0_isLatin1_aae02 18 = .ok (.ireturn, 1) := by decide +kernel
theorem dJ0_checkIndex_df160_0 : decode cJ0_checkIndex_df160 0 = .ok (.iload_n 0, 1) := by decide +kernel
theorem dJ0_checkIndex_df160_1 : decode cJ0_checkIndex_df160 1 = .ok (.iload_n 1, 1) := by decide +kernel
theorem dJ0_checkIndex_df160_2 : decode cJ0_checkIndex_df160 2 = .ok (.getstatic 1053, 3) := by decide +kernel
theorem dJ0_checkIndex_df160_5 : decode cJ0_checkIndex_df160 5 = .ok (.invokestatic 1059, 3) := by decide +kernel
theorem dJ0_checkIndex_df160_8 : decode cJ0_checkIndex_df160 8 = .ok (.pop, 1) := by decide +kernel
theorem dJ0_checkIndex_df160_9 : decode cJ0_checkIndex_df160 9 = .ok (.return_, 1) := by decide +kernel
theorem dJ1_charAt_3b067_0 : decode cJ1_charAt_3b067 0 = .ok (.iload_n 1, 1) := by decide +kernel
theorem dJ1_charAt_3b067_1 : decode cJ1_charAt_3b067 1 = .ok (.aload_n 0, 1) := by decide +kernel
theorem dJ1_charAt_3b067_2 : decode cJ1_charAt_3b067 2 = .ok (.arraylength, 1) := by decide +kernel
theorem dJ1_charAt_3b067_3 : decode cJ1_charAt_3b067 3 = .ok (.invokestatic 9, 3) := by decide +kernel
theorem dJ1_charAt_3b067_6 : decode cJ1_charAt_3b067 6 = .ok (.aload_n 0, 1) := by decide +kernel
theorem dJ1_charAt_3b067_7 : decode cJ1_charAt_3b067 7 = .ok (.iload_n 1, 1) := by decide +kernel
theorem dJ1_charAt_3b067_8 : decode cJ1_charAt_3b067 8 = .ok (.baload, 1) := by decide +kernel
theorem dJ1_charAt_3b067_9 : decode cJ1_charAt_3b067 9 = .ok (.sipush 255, 3) := by decide +kernel
theorem dJ1_charAt_3b067_12 : decode cJ1_charAt_3b067 12 = .ok (.iand, 1) := by decide +kernel
theorem dJ1_charAt_3b067_13 : decode cJ1_charAt_3b067 13 = .ok (.i2c, 1) := by decide +kernel
theorem dJ1_charAt_3b067_14 : decode cJ1_charAt_3b067 14 = .ok (.ireturn, 1) := by decide +kernel
theorem dJ2_getChar_3b067_0 : decode cJ2_getChar_3b067 0 = .ok (.getstatic 44, 3) := by decide +kernel
theorem dJ2_getChar_3b067_3 : decode cJ2_getChar_3b067 3 = .ok (.ifCond .ne 25, 3) := by decide +kernel
theorem dJ2_getChar_3b067_6 : decode cJ2_getChar_3b067 6 = .ok (.iload_n 1, 1) := by decide +kernel
theorem dJ2_getChar_3b067_7 : decode cJ2_getChar_3b067 7 = .ok (.ifCond .lt 11, 3) := by decide +kernel
theorem dJ2_getChar_3b067_10 : decode cJ2_getChar_3b067 10 = .ok (.iload_n 1, 1) := by decide +kernel
theorem dJ2_getChar_3b067_11 : decode cJ2_getChar_3b067 11 = .ok (.aload_n 0, 1) := by decide +kernel
theorem dJ2_getChar_3b067_12 : decode cJ2_getChar_3b067 12 = .ok (.invokestatic 48, 3) := by decide +kernel
theorem dJ2_getChar_3b067_15 : decode cJ2_getChar_3b067 15 = .ok (.if_icmp .lt 13, 3) := by decide +kernel
theorem dJ2_getChar_3b067_18 : decode cJ2_getChar_3b067 18 = .ok (.new 52, 3) := by decide +kernel
theorem dJ2_getChar_3b067_21 : decode cJ2_getChar_3b067 21 = .ok (.dup, 1) := by decide +kernel
theorem dJ2_getChar_3b067_22 : decode cJ2_getChar_3b067 22 = .ok (.ldc 54, 2) := by decide +kernel
theorem dJ2_getChar_3b067_24 : decode cJ2_getChar_3b067 24 = .ok (.invokespecial 56, 3) := by decide +kernel
theorem dJ2_getChar_3b067_27 : decode cJ2_getChar_3b067 27 = .ok (.athrow, 1) := by decide +kernel
theorem dJ2_getChar_3b067_28 : decode cJ2_getChar_3b067 28 = .ok (.iload_n 1, 1) := by decide +kernel
theorem dJ2_getChar_3b067_29 : decode cJ2_getChar_3b067 29 = .ok (.iconst 1, 1) := by decide +kernel
theorem dJ2_getChar_3b067_30 : decode cJ2_getChar_3b067 30 = .ok (.ishl, 1) := by decide +kernel
theorem dJ2_getChar_3b067_31 : decode cJ2_getChar_3b067 31 = .ok (.istore_n 1, 1) := by decide +kernel
theorem dJ2_getChar_3b067_32 : decode cJ2_getChar_3b067 32 = .ok (.aload_n 0, 1) := by decide +kernel
theorem dJ2_getChar_3b067_33 : decode cJ2_getChar_3b067 33 = .ok (.iload_n 1, 1) := by decide +kernel
theorem dJ2_getChar_3b067_34 : decode cJ2_getChar_3b067 34 = .ok (.iinc 1 1, 3) := by decide +kernel
theorem dJ2_getChar_3b067_37 : decode cJ2_getChar_3b067 37 = .ok (.baload, 1) := by decide +kernel
theorem dJ2_getChar_3b067_38 : decode cJ2_getChar_3b067 38 = .ok (.sipush 255, 3) := by decide +kernel
theorem dJ2_getChar_3b067_41 : decode cJ2_getChar_3b067 41 = .ok (.iand, 1) := by decide +kernel
theorem dJ2_getChar_3b067_42 : decode cJ2_getChar_3b067 42 = .ok (.getstatic 59, 3) := by decide +kernel
theorem dJ2_getChar_3b067_45 : decode cJ2_getChar_3b067 45 = .ok (.ishl, 1) := by decide +kernel
theorem dJ2_getChar_3b067_46 : decode cJ2_getChar_3b067 46 = .ok (.aload_n 0, 1) := by decide +kernel
theorem dJ2_getChar_3b067_47 : decode cJ2_getChar_3b067 47 = .ok (.iload_n 1, 1) := by decide +kernel
theorem dJ2_getChar_3b067_48 : decode cJ2_getChar_3b067 48 = .ok (.baload, 1) := by decide +kernel
theorem dJ2_getChar_3b067_49 : decode cJ2_getChar_3b067 49 = .ok (.sipush 255, 3) := by decide +kernel
theorem dJ2_getChar_3b067_52 : decode cJ2_getChar_3b067 52 = .ok (.iand, 1) := by decide +kernel
theorem dJ2_getChar_3b067_53 : decode cJ2_getChar_3b067 53 = .ok (.getstatic 63, 3) := by decide +kernel
theorem dJ2_getChar_3b067_56 : decode cJ2_getChar_3b067 56 = .ok (.ishl, 1) := by decide +kernel
theorem dJ2_getChar_3b067_57 : decode cJ2_getChar_3b067 57 = .ok (.ior, 1) := by decide +kernel
theorem dJ2_getChar_3b067_58 : decode cJ2_getChar_3b067 58 = .ok (.i2c, 1) := by decide +kernel
theorem dJ2_getChar_3b067_59 : decode cJ2_getChar_3b067 59 = .ok (.ireturn, 1) := by decide +kernel
theorem dJ2_length_9d52b_0 : decode cJ2_length_9d52b 0 = .ok (.aload_n 0, 1) := by decide +kernel
theorem dJ2_length_9d52b_1 : decode cJ2_length_9d52b 1 = .ok (.arraylength, 1) := by decide +kernel
theorem dJ2_length_9d52b_2 : decode cJ2_length_9d52b 2 = .ok (.iconst 1, 1) := by decide +kernel
theorem dJ2_length_9d52b_3 : decode cJ2_length_9d52b 3 = .ok (.ishr, 1) := by decide +kernel
theorem dJ2_length_9d52b_4 : decode cJ2_length_9d52b 4 = .ok (.ireturn, 1) := by decide +kernel
theorem dJ2_charAt_3b067_0 : decode cJ2_charAt_3b067 0 = .ok (.iload_n 1, 1) := by decide +kernel
theorem dJ2_charAt_3b067_1 : decode cJ2_charAt_3b067 1 = .ok (.aload_n 0, 1) := by decide +kernel
theorem dJ2_charAt_3b067_2 : decode cJ2_charAt_3b067 2 = .ok (.invokestatic 67, 3) := by decide +kernel
theorem dJ2_charAt_3b067_5 : decode cJ2_charAt_3b067 5 = .ok (.aload_n 0, 1) := by decide +kernel
theorem dJ2_charAt_3b067_6 : decode cJ2_charAt_3b067 6 = .ok (.iload_n 1, 1) := by decide +kernel
theorem dJ2_charAt_3b067_7 : decode cJ2_charAt_3b067 7 = .ok (.invokestatic 71, 3) := by decide +kernel
theorem dJ2_charAt_3b067_10 : decode cJ2_charAt_3b067 10 = .ok (.ireturn, 1) := by decide +kernel
theorem dJ2_checkIndex_2214a_0 : decode cJ2_checkIndex_2214a 0 = .ok (.iload_n 0, 1) := by decide +kernel
theorem dJ2_checkIndex_2214a_1 : decode cJ2_checkIndex_2214a 1 = .ok (.aload_n 1, 1) := by decide +kernel
theorem dJ2_checkIndex_2214a_2 : decode cJ2_checkIndex_2214a 2 = .ok (.invokestatic 48, 3) := by decide +kernel
theorem dJ2_checkIndex_2214a_5 : decode cJ2_checkIndex_2214a 5 = .ok (.invokestatic 414, 3) := by decide +kernel
theorem dJ2_checkIndex_2214a_8 : decode cJ2_checkIndex_2214a 8 = .ok (.return_, 1) := by decide +kernel
theorem dJ7_fill_d0a16_0 : decode cJ7_fill_d0a16 0 = .ok (.iconst 0, 1) := by decide +kernel
theorem dJ7_fill_d0a16_1 : decode cJ7_fill_d0a16 1 = .ok (.istore_n 3, 1) := by decide +kernel
theorem dJ7_fill_d0a16_2 : decode cJ7_fill_d0a16 2 = .ok (.aload_n 0, 1) := by decide +kernel
theorem dJ7_fill_d0a16_3 : decode cJ7_fill_d0a16 3 = .ok (.arraylength, 1) := by decide +kernel
theorem dJ7_fill_d0a16_4 : decode cJ7_fill_d0a16 4 = .ok (.istore 4, 2) := by decide +kernel
theorem dJ7_fill_d0a16_6 : decode cJ7_fill_d0a16 6 = .ok (.iload_n 3, 1) := by decide +kernel
theorem dJ7_fill_d0a16_7 : decode cJ7_fill_d0a16 7 = .ok (.iload 4, 2) := by decide +kernel
theorem dJ7_fill_d0a16_9 : decode cJ7_fill_d0a16 9 = .ok (.if_icmp .ge 13, 3) := by decide +kernel
theorem dJ7_fill_d0a16_12 : decode cJ7_fill_d0a16 12 = .ok (.aload_n 0, 1) := by decide +kernel
theorem dJ7_fill_d0a16_13 : decode cJ7_fill_d0a16 13 = .ok (.iload_n 3, 1) := by decide +kernel
theorem dJ7_fill_d0a16_14 : decode cJ7_fill_d0a16 14 = .ok (.lload_n 1, 1) := by decide +kernel
theorem dJ7_fill_d0a16_15 : decode cJ7_fill_d0a16 15 = .ok (.lastore, 1) := by decide +kernel
theorem dJ7_fill_d0a16_16 : decode cJ7_fill_d0a16 16 = .ok (.iinc 3 1, 3) := by decide +kernel
theorem dJ7_fill_d0a16_19 : decode cJ7_fill_d0a16 19 = .ok (.goto (-13), 3) := by decide +kernel
theorem dJ7_fill_d0a16_22 : decode cJ7_fill_d0a16 22 = .ok (.return_, 1) := by decide +kernel
theorem dJ7_fill_53178_0 : decode cJ7_fill_53178 0 = .ok (.iconst 0, 1) := by decide +kernel
theorem dJ7_fill_53178_1 : decode cJ7_fill_53178 1 = .ok (.istore_n 2, 1) := by decide +kernel
theorem dJ7_fill_53178_2 : decode cJ7_fill_53178 2 = .ok (.aload_n 0, 1) := by decide +kernel
theorem dJ7_fill_53178_3 : decode cJ7_fill_53178 3 = .ok (.arraylength, 1) := by decide +kernel
theorem dJ7_fill_53178_4 : decode cJ7_fill_53178 4 = .ok (.istore_n 3, 1) := by decide +kernel
theorem dJ7_fill_53178_5 : decode cJ7_fill_53178 5 = .ok (.iload_n 2, 1) := by decide +kernel
theorem dJ7_fill_53178_6 : decode cJ7_fill_53178 6 = .ok (.iload_n 3, 1) := by decide +kernel
theorem dJ7_fill_53178_7 : decode cJ7_fill_53178 7 = .ok (.if_icmp .ge 13, 3) := by decide +kernel
theorem dJ7_fill_53178_10 : decode cJ7_fill_53178 10 = .ok (.aload_n 0, 1) := by decide +kernel
theorem dJ7_fill_53178_11 : decode cJ7_fill_53178 11 = .ok (.iload_n 2, 1) := by decide +kernel
theorem dJ7_fill_53178_12 : decode cJ7_fill_53178 12 = .ok (.iload_n 1, 1) := by decide +kernel
theorem dJ7_fill_53178_13 : decode cJ7_fill_53178 13 = .ok (.iastore, 1) := by decide +kernel
theorem dJ7_fill_53178_14 : decode cJ7_fill_53178 14 = .ok (.iinc 2 1, 3) := by decide +kernel
theorem dJ7_fill_53178_17 : decode cJ7_fill_53178 17 = .ok (.goto (-12), 3) := by decide +kernel
theorem dJ7_fill_53178_20 : decode cJ7_fill_53178 20 = .ok (.return_, 1) := by decide +kernel
theorem dJ3_checkIndex_8e157_0 : decode cJ3_checkIndex_8e157 0 = .ok (.iload_n 0, 1) := by decide +kernel
theorem dJ3_checkIndex_8e157_1 : decode cJ3_checkIndex_8e157 1 = .ok (.ifCond .lt 8, 3) := by decide +kernel
theorem dJ3_checkIndex_8e157_4 : decode cJ3_checkIndex_8e157 4 = .ok (.iload_n 0, 1) := by decide +kernel
theorem dJ3_checkIndex_8e157_5 : decode cJ3_checkIndex_8e157 5 = .ok (.iload_n 1, 1) := by decide +kernel
theorem dJ3_checkIndex_8e157_6 : decode cJ3_checkIndex_8e157 6 = .ok (.if_icmp .lt 10, 3) := by decide +kernel
theorem dJ3_checkIndex_8e157_9 : decode cJ3_checkIndex_8e157 9 = .ok (.aload_n 2, 1) := by decide +kernel
theorem dJ3_checkIndex_8e157_10 : decode cJ3_checkIndex_8e157 10 = .ok (.iload_n 0, 1) := by decide +kernel
theorem dJ3_checkIndex_8e157_11 : decode cJ3_checkIndex_8e157 11 = .ok (.iload_n 1, 1) := by decide +kernel
theorem dJ3_checkIndex_8e157_12 : decode cJ3_checkIndex_8e157 12 = .ok (.invokestatic 95, 3) := by decide +kernel
theorem dJ3_checkIndex_8e157_15 : decode cJ3_checkIndex_8e157 15 = .ok (.athrow, 1) := by decide +kernel
theorem dJ3_checkIndex_8e157_16 : decode cJ3_checkIndex_8e157 16 = .ok (.iload_n 0, 1) := by decide +kernel
theorem dJ3_checkIndex_8e157_17 : decode cJ3_checkIndex_8e157 17 = .ok (.ireturn, 1) := by decide +kernel
theorem dL_law_0 : decode cL_law 0 = .ok (.new 7, 3) := by decide +kernel
theorem dL_law_3 : decode cL_law 3 = .ok (.dup, 1) := by decide +kernel
theorem dL_law_4 : decode cL_law 4 = .ok (.invokespecial 9, 3) := by decide +kernel
theorem dL_law_7 : decode cL_law 7 = .ok (.astore_n 1, 1) := by decide +kernel
theorem dL_law_8 : decode cL_law 8 = .ok (.new 10, 3) := by decide +kernel
theorem dL_law_11 : decode cL_law 11 = .ok (.dup, 1) := by decide +kernel
theorem dL_law_12 : decode cL_law 12 = .ok (.invokespecial 12, 3) := by decide +kernel
theorem dL_law_15 : decode cL_law 15 = .ok (.astore_n 2, 1) := by decide +kernel
theorem dL_law_16 : decode cL_law 16 = .ok (.iconst 0, 1) := by decide +kernel
theorem dL_law_17 : decode cL_law 17 = .ok (.istore_n 3, 1) := by decide +kernel
theorem dL_law_18 : decode cL_law 18 = .ok (.iload_n 3, 1) := by decide +kernel
theorem dL_law_19 : decode cL_law 19 = .ok (.aload_n 0, 1) := by decide +kernel
theorem dL_law_20 : decode cL_law 20 = .ok (.arraylength, 1) := by decide +kernel
theorem dL_law_21 : decode cL_law 21 = .ok (.bipush 6, 2) := by decide +kernel
theorem dL_law_23 : decode cL_law 23 = .ok (.isub, 1) := by decide +kernel
theorem dL_law_24 : decode cL_law 24 = .ok (.if_icmp .gt 1273, 3) := by decide +kernel
theorem dL_law_27 : decode cL_law 27 = .ok (.aload_n 0, 1) := by decide +kernel
theorem dL_law_28 : decode cL_law 28 = .ok (.iload_n 3, 1) := by decide +kernel
theorem dL_law_29 : decode cL_law 29 = .ok (.iaload, 1) := by decide +kernel
theorem dL_law_30 : decode cL_law 30 = .ok (.bipush 63, 2) := by decide +kernel
theorem dL_law_32 : decode cL_law 32 = .ok (.iand, 1) := by decide +kernel
theorem dL_law_33 : decode cL_law 33 = .ok (.tableswitch 1258 0 35 #[159, 192, 215, 238, 261, 294, 337, 370, 403, 436, 469, 492, 535, 568, 591, 614, 647, 680, 713, 736, 759, 812, 835, 868, 881, 894, 937, 1011, 1074, 1097, 1130, 1173, 1186, 1199, 1212, 1235], 159) := by decide +kernel
theorem dL_law_192 : decode cL_law 192 = .ok (.aload_n 1, 1) := by decide +kernel
theorem dL_law_193 : decode cL_law 193 = .ok (.aload_n 0, 1) := by decide +kernel
theorem dL_law_194 : decode cL_law 194 = .ok (.iload_n 3, 1) := by decide +kernel
theorem dL_law_195 : decode cL_law 195 = .ok (.iconst 1, 1) := by decide +kernel
theorem dL_law_196 : decode cL_law 196 = .ok (.iadd, 1) := by decide +kernel
theorem dL_law_197 : decode cL_law 197 = .ok (.iaload, 1) := by decide +kernel
theorem dL_law_198 : decode cL_law 198 = .ok (.aload_n 0, 1) := by decide +kernel
theorem dL_law_199 : decode cL_law 199 = .ok (.iload_n 3, 1) := by decide +kernel
theorem dL_law_200 : decode cL_law 200 = .ok (.iconst 2, 1) := by decide +kernel
theorem dL_law_201 : decode cL_law 201 = .ok (.iadd, 1) := by decide +kernel
theorem dL_law_202 : decode cL_law 202 = .ok (.iaload, 1) := by decide +kernel
theorem dL_law_203 : decode cL_law 203 = .ok (.invokevirtual 13, 3) := by decide +kernel
theorem dL_law_206 : decode cL_law 206 = .ok (.aload_n 2, 1) := by decide +kernel
theorem dL_law_207 : decode cL_law 207 = .ok (.aload_n 0, 1) := by decide +kernel
theorem dL_law_208 : decode cL_law 208 = .ok (.iload_n 3, 1) := by decide +kernel
theorem dL_law_209 : decode cL_law 209 = .ok (.iconst 1, 1) := by decide +kernel
theorem dL_law_210 : decode cL_law 210 = .ok (.iadd, 1) := by decide +kernel
theorem dL_law_211 : decode cL_law 211 = .ok (.iaload, 1) := by decide +kernel
theorem dL_law_212 : decode cL_law 212 = .ok (.aload_n 0, 1) := by decide +kernel
theorem dL_law_213 : decode cL_law 213 = .ok (.iload_n 3, 1) := by decide +kernel
theorem dL_law_214 : decode cL_law 214 = .ok (.iconst 2, 1) := by decide +kernel
theorem dL_law_215 : decode cL_law 215 = .ok (.iadd, 1) := by decide +kernel
theorem dL_law_216 : decode cL_law 216 = .ok (.iaload, 1) := by decide +kernel
theorem dL_law_217 : decode cL_law 217 = .ok (.invokevirtual 17, 3) := by decide +kernel
theorem dL_law_220 : decode cL_law 220 = .ok (.if_icmp .eq 1071, 3) := by decide +kernel
theorem dL_law_223 : decode cL_law 223 = .ok (.iconst 0, 1) := by decide +kernel
theorem dL_law_224 : decode cL_law 224 = .ok (.ireturn, 1) := by decide +kernel
theorem dL_law_225 : decode cL_law 225 = .ok (.aload_n 1, 1) := by decide +kernel
theorem dL_law_226 : decode cL_law 226 = .ok (.aload_n 0, 1) := by decide +kernel
theorem dL_law_227 : decode cL_law 227 = .ok (.iload_n 3, 1) := by decide +kernel
theorem dL_law_228 : decode cL_law 228 = .ok (.iconst 1, 1) := by decide +kernel
theorem dL_law_229 : decode cL_law 229 = .ok (.iadd, 1) := by decide +kernel
theorem dL_law_230 : decode cL_law 230 = .ok (.iaload, 1) := by decide +kernel
theorem dL_law_231 : decode cL_law 231 = .ok (.invokevirtual 18, 3) := by decide +kernel
theorem dL_law_234 : decode cL_law 234 = .ok (.aload_n 2, 1) := by decide +kernel
theorem dL_law_235 : decode cL_law 235 = .ok (.aload_n 0, 1) := by decide +kernel
theorem dL_law_236 : decode cL_law 236 = .ok (.iload_n 3, 1) := by decide +kernel
theorem dL_law_237 : decode cL_law 237 = .ok (.iconst 1, 1) := by decide +kernel
theorem dL_law_238 : decode cL_law 238 = .ok (.iadd, 1) := by decide +kernel
theorem dL_law_239 : decode cL_law 239 = .ok (.iaload, 1) := by decide +kernel
theorem dL_law_240 : decode cL_law 240 = .ok (.invokevirtual 22, 3) := by decide +kernel
theorem dL_law_243 : decode cL_law 243 = .ok (.if_icmp .eq 1048, 3) := by decide +kernel
theorem dL_law_246 : decode cL_law 246 = .ok (.iconst 0, 1) := by decide +kernel
theorem dL_law_247 : decode cL_law 247 = .ok (.ireturn, 1) := by decide +kernel
theorem dL_law_248 : decode cL_law 248 = .ok (.aload_n 1, 1) := by decide +kernel
theorem dL_law_249 : decode cL_law 249 = .ok (.aload_n 0, 1) := by decide +kernel
theorem dL_law_250 : decode cL_law 250 = .ok (.iload_n 3, 1) := by decide +kernel
theorem dL_law_251 : decode cL_law 251 = .ok (.iconst 1, 1) := by decide +kernel
theorem dL_law_252 : decode cL_law 252 = .ok (.iadd, 1) := by decide +kernel
theorem dL_law_253 : decode cL_law 253 = .ok (.iaload, 1) := by decide +kernel
theorem dL_law_254 : decode cL_law 254 = .ok (.invokevirtual 23, 3) := by decide +kernel
theorem dL_law_257 : decode cL_law 257 = .ok (.aload_n 2, 1) := by decide +kernel
theorem dL_law_258 : decode cL_law 258 = .ok (.aload_n 0, 1) := by decide +kernel
theorem dL_law_259 : decode cL_law 259 = .ok (.iload_n 3, 1) := by decide +kernel
theorem dL_law_260 : decode cL_law 260 = .ok (.iconst 1, 1) := by decide +kernel
theorem dL_law_261 : decode cL_law 261 = .ok (.iadd, 1) := by decide +kernel
theorem dL_law_262 : decode cL_law 262 = .ok (.iaload, 1) := by decide +kernel
theorem dL_law_263 : decode cL_law 263 = .ok (.invokevirtual 26, 3) := by decide +kernel
theorem dL_law_266 : decode cL_law 266 = .ok (.if_icmp .eq 1025, 3) := by decide +kernel
theorem dL_law_269 : decode cL_law 269 = .ok (.iconst 0, 1) := by decide +kernel
theorem dL_law_270 : decode cL_law 270 = .ok (.ireturn, 1) := by decide +kernel
theorem dL_law_271 : decode cL_law 271 = .ok (.aload_n 1, 1) := by decide +kernel
theorem dL_law_272 : decode cL_law 272 = .ok (.aload_n 0, 1) := by decide +kernel
theorem dL_law_273 : decode cL_law 273 = .ok (.iload_n 3, 1) := by decide +kernel
theorem dL_law_274 : decode cL_law 274 = .ok (.iconst 1, 1) := by decide +kernel
theorem dL_law_275 : decode cL_law 275 = .ok (.iadd, 1) := by decide +kernel
theorem dL_law_276 : decode cL_law 276 = .ok (.iaload, 1) := by decide +kernel
theorem dL_law_277 : decode cL_law 277 = .ok (.invokevirtual 27, 3) := by decide +kernel
theorem dL_law_280 : decode cL_law 280 = .ok (.aload_n 2, 1) := by decide +kernel
theorem dL_law_281 : decode cL_law 281 = .ok (.aload_n 0, 1) := by decide +kernel
theorem dL_law_282 : decode cL_law 282 = .ok (.iload_n 3, 1) := by decide +kernel
theorem dL_law_283 : decode cL_law 283 = .ok (.iconst 1, 1) := by decide +kernel
theorem dL_law_284 : decode cL_law 284 = .ok (.iadd, 1) := by decide +kernel
theorem dL_law_285 : decode cL_law 285 = .ok (.iaload, 1) := by decide +kernel
theorem dL_law_286 : decode cL_law 286 = .ok (.invokevirtual 30, 3) := by decide +kernel
theorem dL_law_289 : decode cL_law 289 = .ok (.if_icmp .eq 1002, 3) := by decide +kernel
theorem dL_law_292 : decode cL_law 292 = .ok (.iconst 0, 1) := by decide +kernel
theorem dL_law_293 : decode cL_law 293 = .ok (.ireturn, 1) := by decide +kernel
theorem dL_law_294 : decode cL_law 294 = .ok (.aload_n 1, 1) := by decide +kernel
theorem dL_law_295 : decode cL_law 295 = .ok (.aload_n 0, 1) := by decide +kernel
theorem dL_law_296 : decode cL_law 296 = .ok (.iload_n 3, 1) := by decide +kernel
theorem dL_law_297 : decode cL_law 297 = .ok (.iconst 1, 1) := by decide +kernel
theorem dL_law_298 : decode cL_law 298 = .ok (.iadd, 1) := by decide +kernel
theorem dL_law_299 : decode cL_law 299 = .ok (.iaload, 1) := by decide +kernel
theorem dL_law_300 : decode cL_law 300 = .ok (.aload_n 0, 1) := by decide +kernel
theorem dL_law_301 : decode cL_law 301 = .ok (.iload_n 3, 1) := by decide +kernel
theorem dL_law_302 : decode cL_law 302 = .ok (.iconst 2, 1) := by decide +kernel
theorem dL_law_303 : decode cL_law 303 = .ok (.iadd, 1) := by decide +kernel
theorem dL_law_304 : decode cL_law 304 = .ok (.iaload, 1) := by decide +kernel
theorem dL_law_305 : decode cL_law 305 = .ok (.invokevirtual 31, 3) := by decide +kernel
theorem dL_law_308 : decode cL_law 308 = .ok (.aload_n 2, 1) := by decide +kernel
theorem dL_law_309 : decode cL_law 309 = .ok (.aload_n 0, 1) := by decide +kernel
theorem dL_law_310 : decode cL_law 310 = .ok (.iload_n 3, 1) := by decide +kernel
theorem dL_law_311 : decode cL_law 311 = .ok (.iconst 1, 1) := by decide +kernel
theorem dL_law_312 : decode cL_law 312 = .ok (.iadd, 1) := by decide +kernel
theorem dL_law_313 : decode cL_law 313 = .ok (.iaload, 1) := by decide +kernel
theorem dL_law_314 : decode cL_law 314 = .ok (.aload_n 0, 1) := by decide +kernel
theorem dL_law_315 : decode cL_law 315 = .ok (.iload_n 3, 1) := by decide +kernel
theorem dL_law_316 : decode cL_law 316 = .ok (.iconst 2, 1) := by decide +kernel
theorem dL_law_317 : decode cL_law 317 = .ok (.iadd, 1) := by decide +kernel
theorem dL_law_318 : decode cL_law 318 = .ok (.iaload, 1) := by decide +kernel
theorem dL_law_319 : decode cL_law 319 = .ok (.invokevirtual 34, 3) := by decide +kernel
theorem dL_law_322 : decode cL_law 322 = .ok (.if_icmp .eq 969, 3) := by decide +kernel
theorem dL_law_325 : decode cL_law 325 = .ok (.iconst 0, 1) := by decide +kernel
theorem dL_law_326 : decode cL_law 326 = .ok (.ireturn, 1) := by decide +kernel
theorem dL_law_327 : decode cL_law 327 = .ok (.aload_n 1, 1) := by decide +kernel
theorem dL_law_328 : decode cL_law 328 = .ok (.aload_n 0, 1) := by decide +kernel
theorem dL_law_329 : decode cL_law 329 = .ok (.iload_n 3, 1) := by decide +kernel
theorem dL_law_330 : decode cL_law 330 = .ok (.iconst 1, 1) := by decide +kernel
theorem dL_law_331 : decode cL_law 331 = .ok (.iadd, 1) := by decide +kernel
theorem dL_law_332 : decode cL_law 332 = .ok (.iaload, 1) := by decide +kernel
theorem dL_law_333 : decode cL_law 333 = .ok (.aload_n 0, 1) := by decide +kernel
theorem dL_law_334 : decode cL_law 334 = .ok (.iload_n 3, 1) := by decide +kernel
theorem dL_law_335 : decode cL_law 335 = .ok (.iconst 2, 1) := by decide +kernel
theorem dL_law_336 : decode cL_law 336 = .ok (.iadd, 1) := by decide +kernel
theorem dL_law_337 : decode cL_law 337 = .ok (.iaload, 1) := by decide +kernel
theorem dL_law_338 : decode cL_law 338 = .ok (.aload_n 0, 1) := by decide +kernel
theorem dL_law_339 : decode cL_law 339 = .ok (.iload_n 3, 1) := by decide +kernel
theorem dL_law_340 : decode cL_law 340 = .ok (.iconst 3, 1) := by decide +kernel
theorem dL_law_341 : decode cL_law 341 = .ok (.iadd, 1) := by decide +kernel
theorem dL_law_342 : decode cL_law 342 = .ok (.iaload, 1) := by decide +kernel
theorem dL_law_343 : decode cL_law 343 = .ok (.invokevirtual 35, 3) := by decide +kernel
theorem dL_law_346 : decode cL_law 346 = .ok (.aload_n 2, 1) := by decide +kernel
theorem dL_law_347 : decode cL_law 347 = .ok (.aload_n 0, 1) := by decide +kernel
theorem dL_law_348 : decode cL_law 348 = .ok (.iload_n 3, 1) := by decide +kernel
theorem dL_law_349 : decode cL_law 349 = .ok (.iconst 1, 1) := by decide +kernel
theorem dL_law_350 : decode cL_law 350 = .ok (.iadd, 1) := by decide +kernel
theorem dL_law_351 : decode cL_law 351 = .ok (.iaload, 1) := by decide +kernel
theorem dL_law_352 : decode cL_law 352 = .ok (.aload_n 0, 1) := by decide +kernel
theorem dL_law_353 : decode cL_law 353 = .ok (.iload_n 3, 1) := by decide +kernel
theorem dL_law_354 : decode cL_law 354 = .ok (.iconst 2, 1) := by decide +kernel
theorem dL_law_355 : decode cL_law 355 = .ok (.iadd, 1) := by decide +kernel
theorem dL_law_356 : decode cL_law 356 = .ok (.iaload, 1) := by decide +kernel
theorem dL_law_357 : decode cL_law 357 = .ok (.aload_n 0, 1) := by decide +kernel
theorem dL_law_358 : decode cL_law 358 = .ok (.iload_n 3, 1) := by decide +kernel
theorem dL_law_359 : decode cL_law 359 = .ok (.iconst 3, 1) := by decide +kernel
theorem dL_law_360 : decode cL_law 360 = .ok (.iadd, 1) := by decide +kernel
theorem dL_law_361 : decode cL_law 361 = .ok (.iaload, 1) := by decide +kernel
theorem dL_law_362 : decode cL_law 362 = .ok (.invokevirtual 39, 3) := by decide +kernel
theorem dL_law_365 : decode cL_law 365 = .ok (.if_icmp .eq 926, 3) := by decide +kernel
theorem dL_law_368 : decode cL_law 368 = .ok (.iconst 0, 1) := by decide +kernel
theorem dL_law_369 : decode cL_law 369 = .ok (.ireturn, 1) := by decide +kernel
theorem dL_law_370 : decode cL_law 370 = .ok (.aload_n 1, 1) := by decide +kernel
theorem dL_law_371 : decode cL_law 371 = .ok (.aload_n 0, 1) := by decide +kernel
theorem dL_law_372 : decode cL_law 372 = .ok (.iload_n 3, 1) := by decide +kernel
theorem dL_law_373 : decode cL_law 373 = .ok (.iconst 1, 1) := by decide +kernel
theorem dL_law_374 : decode cL_law 374 = .ok (.iadd, 1) := by decide +kernel
theorem dL_law_375 : decode cL_law 375 = .ok (.iaload, 1) := by decide +kernel
theorem dL_law_376 : decode cL_law 376 = .ok (.aload_n 0, 1) := by decide +kernel
theorem dL_law_377 : decode cL_law 377 = .ok (.iload_n 3, 1) := by decide +kernel
theorem dL_law_378 : decode cL_law 378 = .ok (.iconst 2, 1) := by decide +kernel
theorem dL_law_379 : decode cL_law 379 = .ok (.iadd, 1) := by decide +kernel
theorem dL_law_380 : decode cL_law 380 = .ok (.iaload, 1) := by decide +kernel
theorem dL_law_381 : decode cL_law 381 = .ok (.invokevirtual 40, 3) := by decide +kernel
theorem dL_law_384 : decode cL_law 384 = .ok (.aload_n 2, 1) := by decide +kernel
theorem dL_law_385 : decode cL_law 385 = .ok (.aload_n 0, 1) := by decide +kernel
theorem dL_law_386 : decode cL_law 386 = .ok (.iload_n 3, 1) := by decide +kernel
theorem dL_law_387 : decode cL_law 387 = .ok (.iconst 1, 1) := by decide +kernel
theorem dL_law_388 : decode cL_law 388 = .ok (.iadd, 1) := by decide +kernel
theorem dL_law_389 : decode cL_law 389 = .ok (.iaload, 1) := by decide +kernel
theorem dL_law_390 : decode cL_law 390 = .ok (.aload_n 0, 1) := by decide +kernel
theorem dL_law_391 : decode cL_law 391 = .ok (.iload_n 3, 1) := by decide +kernel
theorem dL_law_392 : decode cL_law 392 = .ok (.iconst 2, 1) := by decide +kernel
theorem dL_law_393 : decode cL_law 393 = .ok (.iadd, 1) := by decide +kernel
theorem dL_law_394 : decode cL_law 394 = .ok (.iaload, 1) := by decide +kernel
theorem dL_law_395 : decode cL_law 395 = .ok (.invokevirtual 43, 3) := by decide +kernel
theorem dL_law_398 : decode cL_law 398 = .ok (.if_icmp .eq 893, 3) := by decide +kernel
theorem dL_law_401 : decode cL_law 401 = .ok (.iconst 0, 1) := by decide +kernel
theorem dL_law_402 : decode cL_law 402 = .ok (.ireturn, 1) := by decide +kernel
theorem dL_law_403 : decode cL_law 403 = .ok (.aload_n 1, 1) := by decide +kernel
theorem dL_law_404 : decode cL_law 404 = .ok (.aload_n 0, 1) := by decide +kernel
theorem dL_law_405 : decode cL_law 405 = .ok (.iload_n 3, 1) := by decide +kernel
theorem dL_law_406 : decode cL_law 406 = .ok (.iconst 1, 1) := by decide +kernel
theorem dL_law_407 : decode cL_law 407 = .ok (.iadd, 1) := by decide +kernel
theorem dL_law_408 : decode cL_law 408 = .ok (.iaload, 1) := by decide +kernel
theorem dL_law_409 : decode cL_law 409 = .ok (.aload_n 0, 1) := by decide +kernel
theorem dL_law_410 : decode cL_law 410 = .ok (.iload_n 3, 1) := by decide +kernel
theorem dL_law_411 : decode cL_law 411 = .ok (.iconst 2, 1) := by decide +kernel
theorem dL_law_412 : decode cL_law 412 = .ok (.iadd, 1) := by decide +kernel
theorem dL_law_413 : decode cL_law 413 = .ok (.iaload, 1) := by decide +kernel
theorem dL_law_414 : decode cL_law 414 = .ok (.invokevirtual 44, 3) := by decide +kernel
theorem dL_law_417 : decode cL_law 417 = .ok (.aload_n 2, 1) := by decide +kernel
theorem dL_law_418 : decode cL_law 418 = .ok (.aload_n 0, 1) := by decide +kernel
theorem dL_law_419 : decode cL_law 419 = .ok (.iload_n 3, 1) := by decide +kernel
theorem dL_law_420 : decode cL_law 420 = .ok (.iconst 1, 1) := by decide +kernel
theorem dL_law_421 : decode cL_law 421 = .ok (.iadd, 1) := by decide +kernel
theorem dL_law_422 : decode cL_law 422 = .ok (.iaload, 1) := by decide +kernel
theorem dL_law_423 : decode cL_law 423 = .ok (.aload_n 0, 1) := by decide +kernel
theorem dL_law_424 : decode cL_law 424 = .ok (.iload_n 3, 1) := by decide +kernel
theorem dL_law_425 : decode cL_law 425 = .ok (.iconst 2, 1) := by decide +kernel
theorem dL_law_426 : decode cL_law 426 = .ok (.iadd, 1) := by decide +kernel
theorem dL_law_427 : decode cL_law 427 = .ok (.iaload, 1) := by decide +kernel
theorem dL_law_428 : decode cL_law 428 = .ok (.invokevirtual 47, 3) := by decide +kernel
theorem dL_law_431 : decode cL_law 431 = .ok (.if_icmp .eq 860, 3) := by decide +kernel
theorem dL_law_434 : decode cL_law 434 = .ok (.iconst 0, 1) := by decide +kernel
theorem dL_law_435 : decode cL_law 435 = .ok (.ireturn, 1) := by decide +kernel
theorem dL_law_436 : decode cL_law 436 = .ok (.aload_n 1, 1) := by decide +kernel
theorem dL_law_437 : decode cL_law 437 = .ok (.aload_n 0, 1) := by decide +kernel
theorem dL_law_438 : decode cL_law 438 = .ok (.iload_n 3, 1) := by decide +kernel
theorem dL_law_439 : decode cL_law 439 = .ok (.iconst 1, 1) := by decide +kernel
theorem dL_law_440 : decode cL_law 440 = .ok (.iadd, 1) := by decide +kernel
theorem dL_law_441 : decode cL_law 441 = .ok (.iaload, 1) := by decide +kernel
theorem dL_law_442 : decode cL_law 442 = .ok (.aload_n 0, 1) := by decide +kernel
theorem dL_law_443 : decode cL_law 443 = .ok (.iload_n 3, 1) := by decide +kernel
theorem dL_law_444 : decode cL_law 444 = .ok (.iconst 2, 1) := by decide +kernel
theorem dL_law_445 : decode cL_law 445 = .ok (.iadd, 1) := by decide +kernel
theorem dL_law_446 : decode cL_law 446 = .ok (.iaload, 1) := by decide +kernel
theorem dL_law_447 : decode cL_law 447 = .ok (.invokevirtual 48, 3) := by decide +kernel
theorem dL_law_450 : decode cL_law 450 = .ok (.aload_n 2, 1) := by decide +kernel
theorem dL_law_451 : decode cL_law 451 = .ok (.aload_n 0, 1) := by decide +kernel
theorem dL_law_452 : decode cL_law 452 = .ok (.iload_n 3, 1) := by decide +kernel
theorem dL_law_453 : decode cL_law 453 = .ok (.iconst 1, 1) := by decide +kernel
theorem dL_law_454 : decode cL_law 454 = .ok (.iadd, 1) := by decide +kernel
theorem dL_law_455 : decode cL_law 455 = .ok (.iaload, 1) := by decide +kernel
theorem dL_law_456 : decode cL_law 456 = .ok (.aload_n 0, 1) := by decide +kernel
theorem dL_law_457 : decode cL_law 457 = .ok (.iload_n 3, 1) := by decide +kernel
theorem dL_law_458 : decode cL_law 458 = .ok (.iconst 2, 1) := by decide +kernel
theorem dL_law_459 : decode cL_law 459 = .ok (.iadd, 1) := by decide +kernel
theorem dL_law_460 : decode cL_law 460 = .ok (.iaload, 1) := by decide +kernel
theorem dL_law_461 : decode cL_law 461 = .ok (.invokevirtual 51, 3) := by decide +kernel
theorem dL_law_464 : decode cL_law 464 = .ok (.if_icmp .eq 827, 3) := by decide +kernel
theorem dL_law_467 : decode cL_law 467 = .ok (.iconst 0, 1) := by decide +kernel
theorem dL_law_468 : decode cL_law 468 = .ok (.ireturn, 1) := by decide +kernel
theorem dL_law_469 : decode cL_law 469 = .ok (.aload_n 1, 1) := by decide +kernel
theorem dL_law_470 : decode cL_law 470 = .ok (.aload_n 0, 1) := by decide +kernel
theorem dL_law_471 : decode cL_law 471 = .ok (.iload_n 3, 1) := by decide +kernel
theorem dL_law_472 : decode cL_law 472 = .ok (.iconst 1, 1) := by decide +kernel
theorem dL_law_473 : decode cL_law 473 = .ok (.iadd, 1) := by decide +kernel
theorem dL_law_474 : decode cL_law 474 = .ok (.iaload, 1) := by decide +kernel
theorem dL_law_475 : decode cL_law 475 = .ok (.aload_n 0, 1) := by decide +kernel
theorem dL_law_476 : decode cL_law 476 = .ok (.iload_n 3, 1) := by decide +kernel
theorem dL_law_477 : decode cL_law 477 = .ok (.iconst 2, 1) := by decide +kernel
theorem dL_law_478 : decode cL_law 478 = .ok (.iadd, 1) := by decide +kernel
theorem dL_law_479 : decode cL_law 479 = .ok (.iaload, 1) := by decide +kernel
theorem dL_law_480 : decode cL_law 480 = .ok (.invokevirtual 52, 3) := by decide +kernel
theorem dL_law_483 : decode cL_law 483 = .ok (.aload_n 2, 1) := by decide +kernel
theorem dL_law_484 : decode cL_law 484 = .ok (.aload_n 0, 1) := by decide +kernel
theorem dL_law_485 : decode cL_law 485 = .ok (.iload_n 3, 1) := by decide +kernel
theorem dL_law_486 : decode cL_law 486 = .ok (.iconst 1, 1) := by decide +kernel
theorem dL_law_487 : decode cL_law 487 = .ok (.iadd, 1) := by decide +kernel
theorem dL_law_488 : decode cL_law 488 = .ok (.iaload, 1) := by decide +kernel
theorem dL_law_489 : decode cL_law 489 = .ok (.aload_n 0, 1) := by decide +kernel
theorem dL_law_490 : decode cL_law 490 = .ok (.iload_n 3, 1) := by decide +kernel
theorem dL_law_491 : decode cL_law 491 = .ok (.iconst 2, 1) := by decide +kernel
theorem dL_law_492 : decode cL_law 492 = .ok (.iadd, 1) := by decide +kernel
theorem dL_law_493 : decode cL_law 493 = .ok (.iaload, 1) := by decide +kernel
theorem dL_law_494 : decode cL_law 494 = .ok (.invokevirtual 55, 3) := by decide +kernel
theorem dL_law_497 : decode cL_law 497 = .ok (.if_icmp .eq 794, 3) := by decide +kernel
theorem dL_law_500 : decode cL_law 500 = .ok (.iconst 0, 1) := by decide +kernel
theorem dL_law_501 : decode cL_law 501 = .ok (.ireturn, 1) := by decide +kernel
theorem dL_law_502 : decode cL_law 502 = .ok (.aload_n 1, 1) := by decide +kernel
theorem dL_law_503 : decode cL_law 503 = .ok (.aload_n 0, 1) := by decide +kernel
theorem dL_law_504 : decode cL_law 504 = .ok (.iload_n 3, 1) := by decide +kernel
theorem dL_law_505 : decode cL_law 505 = .ok (.iconst 1, 1) := by decide +kernel
theorem dL_law_506 : decode cL_law 506 = .ok (.iadd, 1) := by decide +kernel
theorem dL_law_507 : decode cL_law 507 = .ok (.iaload, 1) := by decide +kernel
theorem dL_law_508 : decode cL_law 508 = .ok (.invokevirtual 56, 3) := by decide +kernel
theorem dL_law_511 : decode cL_law 511 = .ok (.aload_n 2, 1) := by decide +kernel
theorem dL_law_512 : decode cL_law 512 = .ok (.aload_n 0, 1) := by decide +kernel
theorem dL_law_513 : decode cL_law 513 = .ok (.iload_n 3, 1) := by decide +kernel
theorem dL_law_514 : decode cL_law 514 = .ok (.iconst 1, 1) := by decide +kernel
theorem dL_law_515 : decode cL_law 515 = .ok (.iadd, 1) := by decide +kernel
theorem dL_law_516 : decode cL_law 516 = .ok (.iaload, 1) := by decide +kernel
theorem dL_law_517 : decode cL_law 517 = .ok (.invokevirtual 59, 3) := by decide +kernel
theorem dL_law_520 : decode cL_law 520 = .ok (.if_icmp .eq 771, 3) := by decide +kernel
theorem dL_law_523 : decode cL_law 523 = .ok (.iconst 0, 1) := by decide +kernel
theorem dL_law_524 : decode cL_law 524 = .ok (.ireturn, 1) := by decide +kernel
theorem dL_law_525 : decode cL_law 525 = .ok (.aload_n 1, 1) := by decide +kernel
theorem dL_law_526 : decode cL_law 526 = .ok (.aload_n 0, 1) := by decide +kernel
theorem dL_law_527 : decode cL_law 527 = .ok (.iload_n 3, 1) := by decide +kernel
theorem dL_law_528 : decode cL_law 528 = .ok (.iconst 1, 1) := by decide +kernel
theorem dL_law_529 : decode cL_law 529 = .ok (.iadd, 1) := by decide +kernel
theorem dL_law_530 : decode cL_law 530 = .ok (.iaload, 1) := by decide +kernel
theorem dL_law_531 : decode cL_law 531 = .ok (.aload_n 0, 1) := by decide +kernel
theorem dL_law_532 : decode cL_law 532 = .ok (.iload_n 3, 1) := by decide +kernel
theorem dL_law_533 : decode cL_law 533 = .ok (.iconst 2, 1) := by decide +kernel
theorem dL_law_534 : decode cL_law 534 = .ok (.iadd, 1) := by decide +kernel
theorem dL_law_535 : decode cL_law 535 = .ok (.iaload, 1) := by decide +kernel
theorem dL_law_536 : decode cL_law 536 = .ok (.aload_n 0, 1) := by decide +kernel
theorem dL_law_537 : decode cL_law 537 = .ok (.iload_n 3, 1) := by decide +kernel
theorem dL_law_538 : decode cL_law 538 = .ok (.iconst 3, 1) := by decide +kernel
theorem dL_law_539 : decode cL_law 539 = .ok (.iadd, 1) := by decide +kernel
theorem dL_law_540 : decode cL_law 540 = .ok (.iaload, 1) := by decide +kernel
theorem dL_law_541 : decode cL_law 541 = .ok (.invokevirtual 60, 3) := by decide +kernel
theorem dL_law_544 : decode cL_law 544 = .ok (.aload_n 2, 1) := by decide +kernel
theorem dL_law_545 : decode cL_law 545 = .ok (.aload_n 0, 1) := by decide +kernel
theorem dL_law_546 : decode cL_law 546 = .ok (.iload_n 3, 1) := by decide +kernel
theorem dL_law_547 : decode cL_law 547 = .ok (.iconst 1, 1) := by decide +kernel
theorem dL_law_548 : decode cL_law 548 = .ok (.iadd, 1) := by decide +kernel
theorem dL_law_549 : decode cL_law 549 = .ok (.iaload, 1) := by decide +kernel
theorem dL_law_550 : decode cL_law 550 = .ok (.aload_n 0, 1) := by decide +kernel
theorem dL_law_551 : decode cL_law 551 = .ok (.iload_n 3, 1) := by decide +kernel
theorem dL_law_552 : decode cL_law 552 = .ok (.iconst 2, 1) := by decide +kernel
theorem dL_law_553 : decode cL_law 553 = .ok (.iadd, 1) := by decide +kernel
theorem dL_law_554 : decode cL_law 554 = .ok (.iaload, 1) := by decide +kernel
theorem dL_law_555 : decode cL_law 555 = .ok (.aload_n 0, 1) := by decide +kernel
theorem dL_law_556 : decode cL_law 556 = .ok (.iload_n 3, 1) := by decide +kernel
theorem dL_law_557 : decode cL_law 557 = .ok (.iconst 3, 1) := by decide +kernel
theorem dL_law_558 : decode cL_law 558 = .ok (.iadd, 1) := by decide +kernel
theorem dL_law_559 : decode cL_law 559 = .ok (.iaload, 1) := by decide +kernel
theorem dL_law_560 : decode cL_law 560 = .ok (.invokevirtual 63, 3) := by decide +kernel
theorem dL_law_563 : decode cL_law 563 = .ok (.if_icmp .eq 728, 3) := by decide +kernel
theorem dL_law_566 : decode cL_law 566 = .ok (.iconst 0, 1) := by decide +kernel
theorem dL_law_567 : decode cL_law 567 = .ok (.ireturn, 1) := by decide +kernel
theorem dL_law_568 : decode cL_law 568 = .ok (.aload_n 1, 1) := by decide +kernel
theorem dL_law_569 : decode cL_law 569 = .ok (.aload_n 0, 1) := by decide +kernel
theorem dL_law_570 : decode cL_law 570 = .ok (.iload_n 3, 1) := by decide +kernel
theorem dL_law_571 : decode cL_law 571 = .ok (.iconst 1, 1) := by decide +kernel
theorem dL_law_572 : decode cL_law 572 = .ok (.iadd, 1) := by decide +kernel
theorem dL_law_573 : decode cL_law 573 = .ok (.iaload, 1) := by decide +kernel
theorem dL_law_574 : decode cL_law 574 = .ok (.aload_n 0, 1) := by decide +kernel
theorem dL_law_575 : decode cL_law 575 = .ok (.iload_n 3, 1) := by decide +kernel
theorem dL_law_576 : decode cL_law 576 = .ok (.iconst 2, 1) := by decide +kernel
theorem dL_law_577 : decode cL_law 577 = .ok (.iadd, 1) := by decide +kernel
theorem dL_law_578 : decode cL_law 578 = .ok (.iaload, 1) := by decide +kernel
theorem dL_law_579 : decode cL_law 579 = .ok (.invokevirtual 64, 3) := by decide +kernel
theorem dL_law_582 : decode cL_law 582 = .ok (.aload_n 2, 1) := by decide +kernel
theorem dL_law_583 : decode cL_law 583 = .ok (.aload_n 0, 1) := by decide +kernel
theorem dL_law_584 : decode cL_law 584 = .ok (.iload_n 3, 1) := by decide +kernel
theorem dL_law_585 : decode cL_law 585 = .ok (.iconst 1, 1) := by decide +kernel
theorem dL_law_586 : decode cL_law 586 = .ok (.iadd, 1) := by decide +kernel
theorem dL_law_587 : decode cL_law 587 = .ok (.iaload, 1) := by decide +kernel
theorem dL_law_588 : decode cL_law 588 = .ok (.aload_n 0, 1) := by decide +kernel
theorem dL_law_589 : decode cL_law 589 = .ok (.iload_n 3, 1) := by decide +kernel
theorem dL_law_590 : decode cL_law 590 = .ok (.iconst 2, 1) := by decide +kernel
theorem dL_law_591 : decode cL_law 591 = .ok (.iadd, 1) := by decide +kernel
theorem dL_law_592 : decode cL_law 592 = .ok (.iaload, 1) := by decide +kernel
theorem dL_law_593 : decode cL_law 593 = .ok (.invokevirtual 67, 3) := by decide +kernel
theorem dL_law_596 : decode cL_law 596 = .ok (.if_icmp .eq 695, 3) := by decide +kernel
theorem dL_law_599 : decode cL_law 599 = .ok (.iconst 0, 1) := by decide +kernel
theorem dL_law_600 : decode cL_law 600 = .ok (.ireturn, 1) := by decide +kernel
theorem dL_law_601 : decode cL_law 601 = .ok (.aload_n 1, 1) := by decide +kernel
theorem dL_law_602 : decode cL_law 602 = .ok (.aload_n 0, 1) := by decide +kernel
theorem dL_law_603 : decode cL_law 603 = .ok (.iload_n 3, 1) := by decide +kernel
theorem dL_law_604 : decode cL_law 604 = .ok (.iconst 1, 1) := by decide +kernel
theorem dL_law_605 : decode cL_law 605 = .ok (.iadd, 1) := by decide +kernel
theorem dL_law_606 : decode cL_law 606 = .ok (.iaload, 1) := by decide +kernel
theorem dL_law_607 : decode cL_law 607 = .ok (.invokevirtual 68, 3) := by decide +kernel
theorem dL_law_610 : decode cL_law 610 = .ok (.aload_n 2, 1) := by decide +kernel
theorem dL_law_611 : decode cL_law 611 = .ok (.aload_n 0, 1) := by decide +kernel
theorem dL_law_612 : decode cL_law 612 = .ok (.iload_n 3, 1) := by decide +kernel
theorem dL_law_613 : decode cL_law 613 = .ok (.iconst 1, 1) := by decide +kernel
theorem dL_law_614 : decode cL_law 614 = .ok (.iadd, 1) := by decide +kernel
theorem dL_law_615 : decode cL_law 615 = .ok (.iaload, 1) := by decide +kernel
theorem dL_law_616 : decode cL_law 616 = .ok (.invokevirtual 71, 3) := by decide +kernel
theorem dL_law_619 : decode cL_law 619 = .ok (.if_icmp .eq 672, 3) := by decide +kernel
theorem dL_law_622 : decode cL_law 622 = .ok (.iconst 0, 1) := by decide +kernel
theorem dL_law_623 : decode cL_law 623 = .ok (.ireturn, 1) := by decide +kernel
theorem dL_law_624 : decode cL_law 624 = .ok (.aload_n 1, 1) := by decide +kernel
theorem dL_law_625 : decode cL_law 625 = .ok (.aload_n 0, 1) := by decide +kernel
theorem dL_law_626 : decode cL_law 626 = .ok (.iload_n 3, 1) := by decide +kernel
theorem dL_law_627 : decode cL_law 627 = .ok (.iconst 1, 1) := by decide +kernel
theorem dL_law_628 : decode cL_law 628 = .ok (.iadd, 1) := by decide +kernel
theorem dL_law_629 : decode cL_law 629 = .ok (.iaload, 1) := by decide +kernel
theorem dL_law_630 : decode cL_law 630 = .ok (.invokevirtual 72, 3) := by decide +kernel
theorem dL_law_633 : decode cL_law 633 = .ok (.aload_n 2, 1) := by decide +kernel
theorem dL_law_634 : decode cL_law 634 = .ok (.aload_n 0, 1) := by decide +kernel
theorem dL_law_635 : decode cL_law 635 = .ok (.iload_n 3, 1) := by decide +kernel
theorem dL_law_636 : decode cL_law 636 = .ok (.iconst 1, 1) := by decide +kernel
theorem dL_law_637 : decode cL_law 637 = .ok (.iadd, 1) := by decide +kernel
theorem dL_law_638 : decode cL_law 638 = .ok (.iaload, 1) := by decide +kernel
theorem dL_law_639 : decode cL_law 639 = .ok (.invokevirtual 75, 3) := by decide +kernel
theorem dL_law_642 : decode cL_law 642 = .ok (.if_icmp .eq 649, 3) := by decide +kernel
theorem dL_law_645 : decode cL_law 645 = .ok (.iconst 0, 1) := by decide +kernel
theorem dL_law_646 : decode cL_law 646 = .ok (.ireturn, 1) := by decide +kernel
theorem dL_law_647 : decode cL_law 647 = .ok (.aload_n 1, 1) := by decide +kernel
theorem dL_law_648 : decode cL_law 648 = .ok (.aload_n 0, 1) := by decide +kernel
theorem dL_law_649 : decode cL_law 649 = .ok (.iload_n 3, 1) := by decide +kernel
theorem dL_law_650 : decode cL_law 650 = .ok (.iconst 1, 1) := by decide +kernel
theorem dL_law_651 : decode cL_law 651 = .ok (.iadd, 1) := by decide +kernel
theorem dL_law_652 : decode cL_law 652 = .ok (.iaload, 1) := by decide +kernel
theorem dL_law_653 : decode cL_law 653 = .ok (.aload_n 0, 1) := by decide +kernel
theorem dL_law_654 : decode cL_law 654 = .ok (.iload_n 3, 1) := by decide +kernel
theorem dL_law_655 : decode cL_law 655 = .ok (.iconst 2, 1) := by decide +kernel
theorem dL_law_656 : decode cL_law 656 = .ok (.iadd, 1) := by decide +kernel
theorem dL_law_657 : decode cL_law 657 = .ok (.iaload, 1) := by decide +kernel
theorem dL_law_658 : decode cL_law 658 = .ok (.invokevirtual 76, 3) := by decide +kernel
theorem dL_law_661 : decode cL_law 661 = .ok (.aload_n 2, 1) := by decide +kernel
theorem dL_law_662 : decode cL_law 662 = .ok (.aload_n 0, 1) := by decide +kernel
theorem dL_law_663 : decode cL_law 663 = .ok (.iload_n 3, 1) := by decide +kernel
theorem dL_law_664 : decode cL_law 664 = .ok (.iconst 1, 1) := by decide +kernel
theorem dL_law_665 : decode cL_law 665 = .ok (.iadd, 1) := by decide +kernel
theorem dL_law_666 : decode cL_law 666 = .ok (.iaload, 1) := by decide +kernel
theorem dL_law_667 : decode cL_law 667 = .ok (.aload_n 0, 1) := by decide +kernel
theorem dL_law_668 : decode cL_law 668 = .ok (.iload_n 3, 1) := by decide +kernel
theorem dL_law_669 : decode cL_law 669 = .ok (.iconst 2, 1) := by decide +kernel
theorem dL_law_670 : decode cL_law 670 = .ok (.iadd, 1) := by decide +kernel
theorem dL_law_671 : decode cL_law 671 = .ok (.iaload, 1) := by decide +kernel
theorem dL_law_672 : decode cL_law 672 = .ok (.invokevirtual 79, 3) := by decide +kernel
theorem dL_law_675 : decode cL_law 675 = .ok (.if_icmp .eq 616, 3) := by decide +kernel
theorem dL_law_678 : decode cL_law 678 = .ok (.iconst 0, 1) := by decide +kernel
theorem dL_law_679 : decode cL_law 679 = .ok (.ireturn, 1) := by decide +kernel
theorem dL_law_680 : decode cL_law 680 = .ok (.aload_n 1, 1) := by decide +kernel
theorem dL_law_681 : decode cL_law 681 = .ok (.aload_n 0, 1) := by decide +kernel
theorem dL_law_682 : decode cL_law 682 = .ok (.iload_n 3, 1) := by decide +kernel
theorem dL_law_683 : decode cL_law 683 = .ok (.iconst 1, 1) := by decide +kernel
theorem dL_law_684 : decode cL_law 684 = .ok (.iadd, 1) := by decide +kernel
theorem dL_law_685 : decode cL_law 685 = .ok (.iaload, 1) := by decide +kernel
theorem dL_law_686 : decode cL_law 686 = .ok (.aload_n 0, 1) := by decide +kernel
theorem dL_law_687 : decode cL_law 687 = .ok (.iload_n 3, 1) := by decide +kernel
theorem dL_law_688 : decode cL_law 688 = .ok (.iconst 2, 1) := by decide +kernel
theorem dL_law_689 : decode cL_law 689 = .ok (.iadd, 1) := by decide +kernel
theorem dL_law_690 : decode cL_law 690 = .ok (.iaload, 1) := by decide +kernel
theorem dL_law_691 : decode cL_law 691 = .ok (.invokevirtual 80, 3) := by decide +kernel
theorem dL_law_694 : decode cL_law 694 = .ok (.aload_n 2, 1) := by decide +kernel
theorem dL_law_695 : decode cL_law 695 = .ok (.aload_n 0, 1) := by decide +kernel
theorem dL_law_696 : decode cL_law 696 = .ok (.iload_n 3, 1) := by decide +kernel
theorem dL_law_697 : decode cL_law 697 = .ok (.iconst 1, 1) := by decide +kernel
theorem dL_law_698 : decode cL_law 698 = .ok (.iadd, 1) := by decide +kernel
theorem dL_law_699 : decode cL_law 699 = .ok (.iaload, 1) := by decide +kernel
theorem dL_law_700 : decode cL_law 700 = .ok (.aload_n 0, 1) := by decide +kernel
theorem dL_law_701 : decode cL_law 701 = .ok (.iload_n 3, 1) := by decide +kernel
theorem dL_law_702 : decode cL_law 702 = .ok (.iconst 2, 1) := by decide +kernel
theorem dL_law_703 : decode cL_law 703 = .ok (.iadd, 1) := by decide +kernel
theorem dL_law_704 : decode cL_law 704 = .ok (.iaload, 1) := by decide +kernel
theorem dL_law_705 : decode cL_law 705 = .ok (.invokevirtual 83, 3) := by decide +kernel
theorem dL_law_708 : decode cL_law 708 = .ok (.if_icmp .eq 583, 3) := by decide +kernel
theorem dL_law_711 : decode cL_law 711 = .ok (.iconst 0, 1) := by decide +kernel
theorem dL_law_712 : decode cL_law 712 = .ok (.ireturn, 1) := by decide +kernel
theorem dL_law_713 : decode cL_law 713 = .ok (.aload_n 1, 1) := by decide +kernel
theorem dL_law_714 : decode cL_law 714 = .ok (.aload_n 0, 1) := by decide +kernel
theorem dL_law_715 : decode cL_law 715 = .ok (.iload_n 3, 1) := by decide +kernel
theorem dL_law_716 : decode cL_law 716 = .ok (.iconst 1, 1) := by decide +kernel
theorem dL_law_717 : decode cL_law 717 = .ok (.iadd, 1) := by decide +kernel
theorem dL_law_718 : decode cL_law 718 = .ok (.iaload, 1) := by decide +kernel
theorem dL_law_719 : decode cL_law 719 = .ok (.aload_n 0, 1) := by decide +kernel
theorem dL_law_720 : decode cL_law 720 = .ok (.iload_n 3, 1) := by decide +kernel
theorem dL_law_721 : decode cL_law 721 = .ok (.iconst 2, 1) := by decide +kernel
theorem dL_law_722 : decode cL_law 722 = .ok (.iadd, 1) := by decide +kernel
theorem dL_law_723 : decode cL_law 723 = .ok (.iaload, 1) := by decide +kernel
theorem dL_law_724 : decode cL_law 724 = .ok (.invokevirtual 84, 3) := by decide +kernel
theorem dL_law_727 : decode cL_law 727 = .ok (.aload_n 2, 1) := by decide +kernel
theorem dL_law_728 : decode cL_law 728 = .ok (.aload_n 0, 1) := by decide +kernel
theorem dL_law_729 : decode cL_law 729 = .ok (.iload_n 3, 1) := by decide +kernel
theorem dL_law_730 : decode cL_law 730 = .ok (.iconst 1, 1) := by decide +kernel
theorem dL_law_731 : decode cL_law 731 = .ok (.iadd, 1) := by decide +kernel
theorem dL_law_732 : decode cL_law 732 = .ok (.iaload, 1) := by decide +kernel
theorem dL_law_733 : decode cL_law 733 = .ok (.aload_n 0, 1) := by decide +kernel
theorem dL_law_734 : decode cL_law 734 = .ok (.iload_n 3, 1) := by decide +kernel
theorem dL_law_735 : decode cL_law 735 = .ok (.iconst 2, 1) := by decide +kernel
theorem dL_law_736 : decode cL_law 736 = .ok (.iadd, 1) := by decide +kernel
theorem dL_law_737 : decode cL_law 737 = .ok (.iaload, 1) := by decide +kernel
theorem dL_law_738 : decode cL_law 738 = .ok (.invokevirtual 87, 3) := by decide +kernel
theorem dL_law_741 : decode cL_law 741 = .ok (.if_icmp .eq 550, 3) := by decide +kernel
theorem dL_law_744 : decode cL_law 744 = .ok (.iconst 0, 1) := by decide +kernel
theorem dL_law_745 : decode cL_law 745 = .ok (.ireturn, 1) := by decide +kernel
theorem dL_law_746 : decode cL_law 746 = .ok (.aload_n 1, 1) := by decide +kernel
theorem dL_law_747 : decode cL_law 747 = .ok (.aload_n 0, 1) := by decide +kernel
theorem dL_law_748 : decode cL_law 748 = .ok (.iload_n 3, 1) := by decide +kernel
theorem dL_law_749 : decode cL_law 749 = .ok (.iconst 1, 1) := by decide +kernel
theorem dL_law_750 : decode cL_law 750 = .ok (.iadd, 1) := by decide +kernel
theorem dL_law_751 : decode cL_law 751 = .ok (.iaload, 1) := by decide +kernel
theorem dL_law_752 : decode cL_law 752 = .ok (.invokevirtual 88, 3) := by decide +kernel
theorem dL_law_755 : decode cL_law 755 = .ok (.aload_n 2, 1) := by decide +kernel
theorem dL_law_756 : decode cL_law 756 = .ok (.aload_n 0, 1) := by decide +kernel
theorem dL_law_757 : decode cL_law 757 = .ok (.iload_n 3, 1) := by decide +kernel
theorem dL_law_758 : decode cL_law 758 = .ok (.iconst 1, 1) := by decide +kernel
theorem dL_law_759 : decode cL_law 759 = .ok (.iadd, 1) := by decide +kernel
theorem dL_law_760 : decode cL_law 760 = .ok (.iaload, 1) := by decide +kernel
theorem dL_law_761 : decode cL_law 761 = .ok (.invokevirtual 91, 3) := by decide +kernel
theorem dL_law_764 : decode cL_law 764 = .ok (.if_icmp .eq 527, 3) := by decide +kernel
theorem dL_law_767 : decode cL_law 767 = .ok (.iconst 0, 1) := by decide +kernel
theorem dL_law_768 : decode cL_law 768 = .ok (.ireturn, 1) := by decide +kernel
theorem dL_law_769 : decode cL_law 769 = .ok (.aload_n 1, 1) := by decide +kernel
theorem dL_law_770 : decode cL_law 770 = .ok (.aload_n 0, 1) := by decide +kernel
theorem dL_law_771 : decode cL_law 771 = .ok (.iload_n 3, 1) := by decide +kernel
theorem dL_law_772 : decode cL_law 772 = .ok (.iconst 1, 1) := by decide +kernel
theorem dL_law_773 : decode cL_law 773 = .ok (.iadd, 1) := by decide +kernel
theorem dL_law_774 : decode cL_law 774 = .ok (.iaload, 1) := by decide +kernel
theorem dL_law_775 : decode cL_law 775 = .ok (.invokevirtual 92, 3) := by decide +kernel
theorem dL_law_778 : decode cL_law 778 = .ok (.aload_n 2, 1) := by decide +kernel
theorem dL_law_779 : decode cL_law 779 = .ok (.aload_n 0, 1) := by decide +kernel
theorem dL_law_780 : decode cL_law 780 = .ok (.iload_n 3, 1) := by decide +kernel
theorem dL_law_781 : decode cL_law 781 = .ok (.iconst 1, 1) := by decide +kernel
theorem dL_law_782 : decode cL_law 782 = .ok (.iadd, 1) := by decide +kernel
theorem dL_law_783 : decode cL_law 783 = .ok (.iaload, 1) := by decide +kernel
theorem dL_law_784 : decode cL_law 784 = .ok (.invokevirtual 95, 3) := by decide +kernel
theorem dL_law_787 : decode cL_law 787 = .ok (.if_icmp .eq 504, 3) := by decide +kernel
theorem dL_law_790 : decode cL_law 790 = .ok (.iconst 0, 1) := by decide +kernel
theorem dL_law_791 : decode cL_law 791 = .ok (.ireturn, 1) := by decide +kernel
theorem dL_law_792 : decode cL_law 792 = .ok (.aload_n 1, 1) := by decide +kernel
theorem dL_law_793 : decode cL_law 793 = .ok (.aload_n 0, 1) := by decide +kernel
theorem dL_law_794 : decode cL_law 794 = .ok (.iload_n 3, 1) := by decide +kernel
theorem dL_law_795 : decode cL_law 795 = .ok (.iconst 1, 1) := by decide +kernel
theorem dL_law_796 : decode cL_law 796 = .ok (.iadd, 1) := by decide +kernel
theorem dL_law_797 : decode cL_law 797 = .ok (.iaload, 1) := by decide +kernel
theorem dL_law_798 : decode cL_law 798 = .ok (.aload_n 0, 1) := by decide +kernel
theorem dL_law_799 : decode cL_law 799 = .ok (.iload_n 3, 1) := by decide +kernel
theorem dL_law_800 : decode cL_law 800 = .ok (.iconst 2, 1) := by decide +kernel
theorem dL_law_801 : decode cL_law 801 = .ok (.iadd, 1) := by decide +kernel
theorem dL_law_802 : decode cL_law 802 = .ok (.iaload, 1) := by decide +kernel
theorem dL_law_803 : decode cL_law 803 = .ok (.aload_n 0, 1) := by decide +kernel
theorem dL_law_804 : decode cL_law 804 = .ok (.iload_n 3, 1) := by decide +kernel
theorem dL_law_805 : decode cL_law 805 = .ok (.iconst 3, 1) := by decide +kernel
theorem dL_law_806 : decode cL_law 806 = .ok (.iadd, 1) := by decide +kernel
theorem dL_law_807 : decode cL_law 807 = .ok (.iaload, 1) := by decide +kernel
theorem dL_law_808 : decode cL_law 808 = .ok (.aload_n 0, 1) := by decide +kernel
theorem dL_law_809 : decode cL_law 809 = .ok (.iload_n 3, 1) := by decide +kernel
theorem dL_law_810 : decode cL_law 810 = .ok (.iconst 4, 1) := by decide +kernel
theorem dL_law_811 : decode cL_law 811 = .ok (.iadd, 1) := by decide +kernel
theorem dL_law_812 : decode cL_law 812 = .ok (.iaload, 1) := by decide +kernel
theorem dL_law_813 : decode cL_law 813 = .ok (.invokevirtual 96, 3) := by decide +kernel
theorem dL_law_816 : decode cL_law 816 = .ok (.aload_n 2, 1) := by decide +kernel
theorem dL_law_817 : decode cL_law 817 = .ok (.aload_n 0, 1) := by decide +kernel
theorem dL_law_818 : decode cL_law 818 = .ok (.iload_n 3, 1) := by decide +kernel
theorem dL_law_819 : decode cL_law 819 = .ok (.iconst 1, 1) := by decide +kernel
theorem dL_law_820 : decode cL_law 820 = .ok (.iadd, 1) := by decide +kernel
theorem dL_law_821 : decode cL_law 821 = .ok (.iaload, 1) := by decide +kernel
theorem dL_law_822 : decode cL_law 822 = .ok (.aload_n 0, 1) := by decide +kernel
theorem dL_law_823 : decode cL_law 823 = .ok (.iload_n 3, 1) := by decide +kernel
theorem dL_law_824 : decode cL_law 824 = .ok (.iconst 2, 1) := by decide +kernel
theorem dL_law_825 : decode cL_law 825 = .ok (.iadd, 1) := by decide +kernel
theorem dL_law_826 : decode cL_law 826 = .ok (.iaload, 1) := by decide +kernel
theorem dL_law_827 : decode cL_law 827 = .ok (.aload_n 0, 1) := by decide +kernel
theorem dL_law_828 : decode cL_law 828 = .ok (.iload_n 3, 1) := by decide +kernel
theorem dL_law_829 : decode cL_law 829 = .ok (.iconst 3, 1) := by decide +kernel
theorem dL_law_830 : decode cL_law 830 = .ok (.iadd, 1) := by decide +kernel
theorem dL_law_831 : decode cL_law 831 = .ok (.iaload, 1) := by decide +kernel
theorem dL_law_832 : decode cL_law 832 = .ok (.aload_n 0, 1) := by decide +kernel
theorem dL_law_833 : decode cL_law 833 = .ok (.iload_n 3, 1) := by decide +kernel
theorem dL_law_834 : decode cL_law 834 = .ok (.iconst 4, 1) := by decide +kernel
theorem dL_law_835 : decode cL_law 835 = .ok (.iadd, 1) := by decide +kernel
theorem dL_law_836 : decode cL_law 836 = .ok (.iaload, 1) := by decide +kernel
theorem dL_law_837 : decode cL_law 837 = .ok (.invokevirtual 100, 3) := by decide +kernel
theorem dL_law_840 : decode cL_law 840 = .ok (.if_icmp .eq 451, 3) := by decide +kernel
theorem dL_law_843 : decode cL_law 843 = .ok (.iconst 0, 1) := by decide +kernel
theorem dL_law_844 : decode cL_law 844 = .ok (.ireturn, 1) := by decide +kernel
theorem dL_law_845 : decode cL_law 845 = .ok (.aload_n 1, 1) := by decide +kernel
theorem dL_law_846 : decode cL_law 846 = .ok (.aload_n 0, 1) := by decide +kernel
theorem dL_law_847 : decode cL_law 847 = .ok (.iload_n 3, 1) := by decide +kernel
theorem dL_law_848 : decode cL_law 848 = .ok (.iconst 1, 1) := by decide +kernel
theorem dL_law_849 : decode cL_law 849 = .ok (.iadd, 1) := by decide +kernel
theorem dL_law_850 : decode cL_law 850 = .ok (.iaload, 1) := by decide +kernel
theorem dL_law_851 : decode cL_law 851 = .ok (.invokevirtual 101, 3) := by decide +kernel
theorem dL_law_854 : decode cL_law 854 = .ok (.aload_n 2, 1) := by decide +kernel
theorem dL_law_855 : decode cL_law 855 = .ok (.aload_n 0, 1) := by decide +kernel
theorem dL_law_856 : decode cL_law 856 = .ok (.iload_n 3, 1) := by decide +kernel
theorem dL_law_857 : decode cL_law 857 = .ok (.iconst 1, 1) := by decide +kernel
theorem dL_law_858 : decode cL_law 858 = .ok (.iadd, 1) := by decide +kernel
theorem dL_law_859 : decode cL_law 859 = .ok (.iaload, 1) := by decide +kernel
theorem dL_law_860 : decode cL_law 860 = .ok (.invokevirtual 104, 3) := by decide +kernel
theorem dL_law_863 : decode cL_law 863 = .ok (.if_icmp .eq 428, 3) := by decide +kernel
theorem dL_law_866 : decode cL_law 866 = .ok (.iconst 0, 1) := by decide +kernel
theorem dL_law_867 : decode cL_law 867 = .ok (.ireturn, 1) := by decide +kernel
theorem dL_law_868 : decode cL_law 868 = .ok (.aload_n 1, 1) := by decide +kernel
theorem dL_law_869 : decode cL_law 869 = .ok (.aload_n 0, 1) := by decide +kernel
theorem dL_law_870 : decode cL_law 870 = .ok (.iload_n 3, 1) := by decide +kernel
theorem dL_law_871 : decode cL_law 871 = .ok (.iconst 1, 1) := by decide +kernel
theorem dL_law_872 : decode cL_law 872 = .ok (.iadd, 1) := by decide +kernel
theorem dL_law_873 : decode cL_law 873 = .ok (.iaload, 1) := by decide +kernel
theorem dL_law_874 : decode cL_law 874 = .ok (.aload_n 0, 1) := by decide +kernel
theorem dL_law_875 : decode cL_law 875 = .ok (.iload_n 3, 1) := by decide +kernel
theorem dL_law_876 : decode cL_law 876 = .ok (.iconst 2, 1) := by decide +kernel
theorem dL_law_877 : decode cL_law 877 = .ok (.iadd, 1) := by decide +kernel
theorem dL_law_878 : decode cL_law 878 = .ok (.iaload, 1) := by decide +kernel
theorem dL_law_879 : decode cL_law 879 = .ok (.invokevirtual 105, 3) := by decide +kernel
theorem dL_law_882 : decode cL_law 882 = .ok (.aload_n 2, 1) := by decide +kernel
theorem dL_law_883 : decode cL_law 883 = .ok (.aload_n 0, 1) := by decide +kernel
theorem dL_law_884 : decode cL_law 884 = .ok (.iload_n 3, 1) := by decide +kernel
theorem dL_law_885 : decode cL_law 885 = .ok (.iconst 1, 1) := by decide +kernel
theorem dL_law_886 : decode cL_law 886 = .ok (.iadd, 1) := by decide +kernel
theorem dL_law_887 : decode cL_law 887 = .ok (.iaload, 1) := by decide +kernel
theorem dL_law_888 : decode cL_law 888 = .ok (.aload_n 0, 1) := by decide +kernel
theorem dL_law_889 : decode cL_law 889 = .ok (.iload_n 3, 1) := by decide +kernel
theorem dL_law_890 : decode cL_law 890 = .ok (.iconst 2, 1) := by decide +kernel
theorem dL_law_891 : decode cL_law 891 = .ok (.iadd, 1) := by decide +kernel
theorem dL_law_892 : decode cL_law 892 = .ok (.iaload, 1) := by decide +kernel
theorem dL_law_893 : decode cL_law 893 = .ok (.invokevirtual 108, 3) := by decide +kernel
theorem dL_law_896 : decode cL_law 896 = .ok (.if_icmp .eq 395, 3) := by decide +kernel
theorem dL_law_899 : decode cL_law 899 = .ok (.iconst 0, 1) := by decide +kernel
theorem dL_law_900 : decode cL_law 900 = .ok (.ireturn, 1) := by decide +kernel
theorem dL_law_901 : decode cL_law 901 = .ok (.aload_n 1, 1) := by decide +kernel
theorem dL_law_902 : decode cL_law 902 = .ok (.invokevirtual 109, 3) := by decide +kernel
theorem dL_law_905 : decode cL_law 905 = .ok (.aload_n 2, 1) := by decide +kernel
theorem dL_law_906 : decode cL_law 906 = .ok (.invokevirtual 113, 3) := by decide +kernel
theorem dL_law_909 : decode cL_law 909 = .ok (.if_icmp .eq 382, 3) := by decide +kernel
theorem dL_law_912 : decode cL_law 912 = .ok (.iconst 0, 1) := by decide +kernel
theorem dL_law_913 : decode cL_law 913 = .ok (.ireturn, 1) := by decide +kernel
theorem dL_law_914 : decode cL_law 914 = .ok (.aload_n 1, 1) := by decide +kernel
theorem dL_law_915 : decode cL_law 915 = .ok (.invokevirtual 114, 3) := by decide +kernel
theorem dL_law_918 : decode cL_law 918 = .ok (.aload_n 2, 1) := by decide +kernel
theorem dL_law_919 : decode cL_law 919 = .ok (.invokevirtual 117, 3) := by decide +kernel
theorem dL_law_922 : decode cL_law 922 = .ok (.if_icmp .eq 369, 3) := by decide +kernel
theorem dL_law_925 : decode cL_law 925 = .ok (.iconst 0, 1) := by decide +kernel
theorem dL_law_926 : decode cL_law 926 = .ok (.ireturn, 1) := by decide +kernel
theorem dL_law_927 : decode cL_law 927 = .ok (.aload_n 1, 1) := by decide +kernel
theorem dL_law_928 : decode cL_law 928 = .ok (.aload_n 0, 1) := by decide +kernel
theorem dL_law_929 : decode cL_law 929 = .ok (.iload_n 3, 1) := by decide +kernel
theorem dL_law_930 : decode cL_law 930 = .ok (.iconst 1, 1) := by decide +kernel
theorem dL_law_931 : decode cL_law 931 = .ok (.iadd, 1) := by decide +kernel
theorem dL_law_932 : decode cL_law 932 = .ok (.iaload, 1) := by decide +kernel
theorem dL_law_933 : decode cL_law 933 = .ok (.aload_n 0, 1) := by decide +kernel
theorem dL_law_934 : decode cL_law 934 = .ok (.iload_n 3, 1) := by decide +kernel
theorem dL_law_935 : decode cL_law 935 = .ok (.iconst 2, 1) := by decide +kernel
theorem dL_law_936 : decode cL_law 936 = .ok (.iadd, 1) := by decide +kernel
theorem dL_law_937 : decode cL_law 937 = .ok (.iaload, 1) := by decide +kernel
theorem dL_law_938 : decode cL_law 938 = .ok (.aload_n 0, 1) := by decide +kernel
theorem dL_law_939 : decode cL_law 939 = .ok (.iload_n 3, 1) := by decide +kernel
theorem dL_law_940 : decode cL_law 940 = .ok (.iconst 3, 1) := by decide +kernel
theorem dL_law_941 : decode cL_law 941 = .ok (.iadd, 1) := by decide +kernel
theorem dL_law_942 : decode cL_law 942 = .ok (.iaload, 1) := by decide +kernel
theorem dL_law_943 : decode cL_law 943 = .ok (.invokevirtual 118, 3) := by decide +kernel
theorem dL_law_946 : decode cL_law 946 = .ok (.aload_n 2, 1) := by decide +kernel
theorem dL_law_947 : decode cL_law 947 = .ok (.aload_n 0, 1) := by decide +kernel
theorem dL_law_948 : decode cL_law 948 = .ok (.iload_n 3, 1) := by decide +kernel
theorem dL_law_949 : decode cL_law 949 = .ok (.iconst 1, 1) := by decide +kernel
theorem dL_law_950 : decode cL_law 950 = .ok (.iadd, 1) := by decide +kernel
theorem dL_law_951 : decode cL_law 951 = .ok (.iaload, 1) := by decide +kernel
theorem dL_law_952 : decode cL_law 952 = .ok (.aload_n 0, 1) := by decide +kernel
theorem dL_law_953 : decode cL_law 953 = .ok (.iload_n 3, 1) := by decide +kernel
theorem dL_law_954 : decode cL_law 954 = .ok (.iconst 2, 1) := by decide +kernel
theorem dL_law_955 : decode cL_law 955 = .ok (.iadd, 1) := by decide +kernel
theorem dL_law_956 : decode cL_law 956 = .ok (.iaload, 1) := by decide +kernel
theorem dL_law_957 : decode cL_law 957 = .ok (.aload_n 0, 1) := by decide +kernel
theorem dL_law_958 : decode cL_law 958 = .ok (.iload_n 3, 1) := by decide +kernel
theorem dL_law_959 : decode cL_law 959 = .ok (.iconst 3, 1) := by decide +kernel
theorem dL_law_960 : decode cL_law 960 = .ok (.iadd, 1) := by decide +kernel
theorem dL_law_961 : decode cL_law 961 = .ok (.iaload, 1) := by decide +kernel
theorem dL_law_962 : decode cL_law 962 = .ok (.invokevirtual 121, 3) := by decide +kernel
theorem dL_law_965 : decode cL_law 965 = .ok (.if_icmp .eq 326, 3) := by decide +kernel
theorem dL_law_968 : decode cL_law 968 = .ok (.iconst 0, 1) := by decide +kernel
theorem dL_law_969 : decode cL_law 969 = .ok (.ireturn, 1) := by decide +kernel
theorem dL_law_970 : decode cL_law 970 = .ok (.aload_n 1, 1) := by decide +kernel
theorem dL_law_971 : decode cL_law 971 = .ok (.aload_n 0, 1) := by decide +kernel
theorem dL_law_972 : decode cL_law 972 = .ok (.iload_n 3, 1) := by decide +kernel
theorem dL_law_973 : decode cL_law 973 = .ok (.iconst 1, 1) := by decide +kernel
theorem dL_law_974 : decode cL_law 974 = .ok (.iadd, 1) := by decide +kernel
theorem dL_law_975 : decode cL_law 975 = .ok (.iaload, 1) := by decide +kernel
theorem dL_law_976 : decode cL_law 976 = .ok (.aload_n 0, 1) := by decide +kernel
theorem dL_law_977 : decode cL_law 977 = .ok (.iload_n 3, 1) := by decide +kernel
theorem dL_law_978 : decode cL_law 978 = .ok (.iconst 2, 1) := by decide +kernel
theorem dL_law_979 : decode cL_law 979 = .ok (.iadd, 1) := by decide +kernel
theorem dL_law_980 : decode cL_law 980 = .ok (.iaload, 1) := by decide +kernel
theorem dL_law_981 : decode cL_law 981 = .ok (.aload_n 0, 1) := by decide +kernel
theorem dL_law_982 : decode cL_law 982 = .ok (.iload_n 3, 1) := by decide +kernel
theorem dL_law_983 : decode cL_law 983 = .ok (.iconst 3, 1) := by decide +kernel
theorem dL_law_984 : decode cL_law 984 = .ok (.iadd, 1) := by decide +kernel
theorem dL_law_985 : decode cL_law 985 = .ok (.iaload, 1) := by decide +kernel
theorem dL_law_986 : decode cL_law 986 = .ok (.i2l, 1) := by decide +kernel
theorem dL_law_987 : decode cL_law 987 = .ok (.bipush 32, 2) := by decide +kernel
theorem dL_law_989 : decode cL_law 989 = .ok (.lshl, 1) := by decide +kernel
theorem dL_law_990 : decode cL_law 990 = .ok (.aload_n 0, 1) := by decide +kernel
theorem dL_law_991 : decode cL_law 991 = .ok (.iload_n 3, 1) := by decide +kernel
theorem dL_law_992 : decode cL_law 992 = .ok (.iconst 4, 1) := by decide +kernel
theorem dL_law_993 : decode cL_law 993 = .ok (.iadd, 1) := by decide +kernel
theorem dL_law_994 : decode cL_law 994 = .ok (.iaload, 1) := by decide +kernel
theorem dL_law_995 : decode cL_law 995 = .ok (.i2l, 1) := by decide +kernel
theorem dL_law_996 : decode cL_law 996 = .ok (.ldc2_w 122, 3) := by decide +kernel
theorem dL_law_999 : decode cL_law 999 = .ok (.land, 1) := by decide +kernel
theorem dL_law_1000 : decode cL_law 1000 = .ok (.lor, 1) := by decide +kernel
theorem dL_law_1001 : decode cL_law 1001 = .ok (.invokevirtual 124, 3) := by decide +kernel
theorem dL_law_1004 : decode cL_law 1004 = .ok (.aload_n 2, 1) := by decide +kernel
theorem dL_law_1005 : decode cL_law 1005 = .ok (.aload_n 0, 1) := by decide +kernel
theorem dL_law_1006 : decode cL_law 1006 = .ok (.iload_n 3, 1) := by decide +kernel
theorem dL_law_1007 : decode cL_law 1007 = .ok (.iconst 1, 1) := by decide +kernel
theorem dL_law_1008 : decode cL_law 1008 = .ok (.iadd, 1) := by decide +kernel
theorem dL_law_1009 : decode cL_law 1009 = .ok (.iaload, 1) := by decide +kernel
theorem dL_law_1010 : decode cL_law 1010 = .ok (.aload_n 0, 1) := by decide +kernel
theorem dL_law_1011 : decode cL_law 1011 = .ok (.iload_n 3, 1) := by decide +kernel
theorem dL_law_1012 : decode cL_law 1012 = .ok (.iconst 2, 1) := by decide +kernel
theorem dL_law_1013 : decode cL_law 1013 = .ok (.iadd, 1) := by decide +kernel
theorem dL_law_1014 : decode cL_law 1014 = .ok (.iaload, 1) := by decide +kernel
theorem dL_law_1015 : decode cL_law 1015 = .ok (.aload_n 0, 1) := by decide +kernel
theorem dL_law_1016 : decode cL_law 1016 = .ok (.iload_n 3, 1) := by decide +kernel
theorem dL_law_1017 : decode cL_law 1017 = .ok (.iconst 3, 1) := by decide +kernel
theorem dL_law_1018 : decode cL_law 1018 = .ok (.iadd, 1) := by decide +kernel
theorem dL_law_1019 : decode cL_law 1019 = .ok (.iaload, 1) := by decide +kernel
theorem dL_law_1020 : decode cL_law 1020 = .ok (.i2l, 1) := by decide +kernel
theorem dL_law_1021 : decode cL_law 1021 = .ok (.bipush 32, 2) := by decide +kernel
theorem dL_law_1023 : decode cL_law 1023 = .ok (.lshl, 1) := by decide +kernel
theorem dL_law_1024 : decode cL_law 1024 = .ok (.aload_n 0, 1) := by decide +kernel
theorem dL_law_1025 : decode cL_law 1025 = .ok (.iload_n 3, 1) := by decide +kernel
theorem dL_law_1026 : decode cL_law 1026 = .ok (.iconst 4, 1) := by decide +kernel
theorem dL_law_1027 : decode cL_law 1027 = .ok (.iadd, 1) := by decide +kernel
theorem dL_law_1028 : decode cL_law 1028 = .ok (.iaload, 1) := by decide +kernel
theorem dL_law_1029 : decode cL_law 1029 = .ok (.i2l, 1) := by decide +kernel
theorem dL_law_1030 : decode cL_law 1030 = .ok (.ldc2_w 122, 3) := by decide +kernel
theorem dL_law_1033 : decode cL_law 1033 = .ok (.land, 1) := by decide +kernel
theorem dL_law_1034 : decode cL_law 1034 = .ok (.lor, 1) := by decide +kernel
theorem dL_law_1035 : decode cL_law 1035 = .ok (.invokevirtual 128, 3) := by decide +kernel
theorem dL_law_1038 : decode cL_law 1038 = .ok (.lcmp, 1) := by decide +kernel
theorem dL_law_1039 : decode cL_law 1039 = .ok (.ifCond .eq 252, 3) := by decide +kernel
theorem dL_law_1042 : decode cL_law 1042 = .ok (.iconst 0, 1) := by decide +kernel
theorem dL_law_1043 : decode cL_law 1043 = .ok (.ireturn, 1) := by decide +kernel
theorem dL_law_1044 : decode cL_law 1044 = .ok (.aload_n 1, 1) := by decide +kernel
theorem dL_law_1045 : decode cL_law 1045 = .ok (.aload_n 0, 1) := by decide +kernel
theorem dL_law_1046 : decode cL_law 1046 = .ok (.iload_n 3, 1) := by decide +kernel
theorem dL_law_1047 : decode cL_law 1047 = .ok (.iconst 1, 1) := by decide +kernel
theorem dL_law_1048 : decode cL_law 1048 = .ok (.iadd, 1) := by decide +kernel
theorem dL_law_1049 : decode cL_law 1049 = .ok (.iaload, 1) := by decide +kernel
theorem dL_law_1050 : decode cL_law 1050 = .ok (.aload_n 0, 1) := by decide +kernel
theorem dL_law_1051 : decode cL_law 1051 = .ok (.iload_n 3, 1) := by decide +kernel
theorem dL_law_1052 : decode cL_law 1052 = .ok (.iconst 2, 1) := by decide +kernel
theorem dL_law_1053 : decode cL_law 1053 = .ok (.iadd, 1) := by decide +kernel
theorem dL_law_1054 : decode cL_law 1054 = .ok (.iaload, 1) := by decide +kernel
theorem dL_law_1055 : decode cL_law 1055 = .ok (.aload_n 0, 1) := by decide +kernel
theorem dL_law_1056 : decode cL_law 1056 = .ok (.iload_n 3, 1) := by decide +kernel
theorem dL_law_1057 : decode cL_law 1057 = .ok (.iconst 3, 1) := by decide +kernel
theorem dL_law_1058 : decode cL_law 1058 = .ok (.iadd, 1) := by decide +kernel
theorem dL_law_1059 : decode cL_law 1059 = .ok (.iaload, 1) := by decide +kernel
theorem dL_law_1060 : decode cL_law 1060 = .ok (.aload_n 0, 1) := by decide +kernel
theorem dL_law_1061 : decode cL_law 1061 = .ok (.iload_n 3, 1) := by decide +kernel
theorem dL_law_1062 : decode cL_law 1062 = .ok (.iconst 4, 1) := by decide +kernel
theorem dL_law_1063 : decode cL_law 1063 = .ok (.iadd, 1) := by decide +kernel
theorem dL_law_1064 : decode cL_law 1064 = .ok (.iaload, 1) := by decide +kernel
theorem dL_law_1065 : decode cL_law 1065 = .ok (.aload_n 0, 1) := by decide +kernel
theorem dL_law_1066 : decode cL_law 1066 = .ok (.iload_n 3, 1) := by decide +kernel
theorem dL_law_1067 : decode cL_law 1067 = .ok (.iconst 5, 1) := by decide +kernel
theorem dL_law_1068 : decode cL_law 1068 = .ok (.iadd, 1) := by decide +kernel
theorem dL_law_1069 : decode cL_law 1069 = .ok (.iaload, 1) := by decide +kernel
theorem dL_law_1070 : decode cL_law 1070 = .ok (.invokevirtual 129, 3) := by decide +kernel
theorem dL_law_1073 : decode cL_law 1073 = .ok (.aload_n 2, 1) := by decide +kernel
theorem dL_law_1074 : decode cL_law 1074 = .ok (.aload_n 0, 1) := by decide +kernel
theorem dL_law_1075 : decode cL_law 1075 = .ok (.iload_n 3, 1) := by decide +kernel
theorem dL_law_1076 : decode cL_law 1076 = .ok (.iconst 1, 1) := by decide +kernel
theorem dL_law_1077 : decode cL_law 1077 = .ok (.iadd, 1) := by decide +kernel
theorem dL_law_1078 : decode cL_law 1078 = .ok (.iaload, 1) := by decide +kernel
theorem dL_law_1079 : decode cL_law 1079 = .ok (.aload_n 0, 1) := by decide +kernel
theorem dL_law_1080 : decode cL_law 1080 = .ok (.iload_n 3, 1) := by decide +kernel
theorem dL_law_1081 : decode cL_law 1081 = .ok (.iconst 2, 1) := by decide +kernel
theorem dL_law_1082 : decode cL_law 1082 = .ok (.iadd, 1) := by decide +kernel
theorem dL_law_1083 : decode cL_law 1083 = .ok (.iaload, 1) := by decide +kernel
theorem dL_law_1084 : decode cL_law 1084 = .ok (.aload_n 0, 1) := by decide +kernel
theorem dL_law_1085 : decode cL_law 1085 = .ok (.iload_n 3, 1) := by decide +kernel
theorem dL_law_1086 : decode cL_law 1086 = .ok (.iconst 3, 1) := by decide +kernel
theorem dL_law_1087 : decode cL_law 1087 = .ok (.iadd, 1) := by decide +kernel
theorem dL_law_1088 : decode cL_law 1088 = .ok (.iaload, 1) := by decide +kernel
theorem dL_law_1089 : decode cL_law 1089 = .ok (.aload_n 0, 1) := by decide +kernel
theorem dL_law_1090 : decode cL_law 1090 = .ok (.iload_n 3, 1) := by decide +kernel
theorem dL_law_1091 : decode cL_law 1091 = .ok (.iconst 4, 1) := by decide +kernel
theorem dL_law_1092 : decode cL_law 1092 = .ok (.iadd, 1) := by decide +kernel
theorem dL_law_1093 : decode cL_law 1093 = .ok (.iaload, 1) := by decide +kernel
theorem dL_law_1094 : decode cL_law 1094 = .ok (.aload_n 0, 1) := by decide +kernel
theorem dL_law_1095 : decode cL_law 1095 = .ok (.iload_n 3, 1) := by decide +kernel
theorem dL_law_1096 : decode cL_law 1096 = .ok (.iconst 5, 1) := by decide +kernel
theorem dL_law_1097 : decode cL_law 1097 = .ok (.iadd, 1) := by decide +kernel
theorem dL_law_1098 : decode cL_law 1098 = .ok (.iaload, 1) := by decide +kernel
theorem dL_law_1099 : decode cL_law 1099 = .ok (.invokevirtual 133, 3) := by decide +kernel
theorem dL_law_1102 : decode cL_law 1102 = .ok (.if_icmp .eq 189, 3) := by decide +kernel
theorem dL_law_1105 : decode cL_law 1105 = .ok (.iconst 0, 1) := by decide +kernel
theorem dL_law_1106 : decode cL_law 1106 = .ok (.ireturn, 1) := by decide +kernel
theorem dL_law_1107 : decode cL_law 1107 = .ok (.aload_n 1, 1) := by decide +kernel
theorem dL_law_1108 : decode cL_law 1108 = .ok (.aload_n 0, 1) := by decide +kernel
theorem dL_law_1109 : decode cL_law 1109 = .ok (.iload_n 3, 1) := by decide +kernel
theorem dL_law_1110 : decode cL_law 1110 = .ok (.iconst 1, 1) := by decide +kernel
theorem dL_law_1111 : decode cL_law 1111 = .ok (.iadd, 1) := by decide +kernel
theorem dL_law_1112 : decode cL_law 1112 = .ok (.iaload, 1) := by decide +kernel
theorem dL_law_1113 : decode cL_law 1113 = .ok (.invokevirtual 134, 3) := by decide +kernel
theorem dL_law_1116 : decode cL_law 1116 = .ok (.aload_n 2, 1) := by decide +kernel
theorem dL_law_1117 : decode cL_law 1117 = .ok (.aload_n 0, 1) := by decide +kernel
theorem dL_law_1118 : decode cL_law 1118 = .ok (.iload_n 3, 1) := by decide +kernel
theorem dL_law_1119 : decode cL_law 1119 = .ok (.iconst 1, 1) := by decide +kernel
theorem dL_law_1120 : decode cL_law 1120 = .ok (.iadd, 1) := by decide +kernel
theorem dL_law_1121 : decode cL_law 1121 = .ok (.iaload, 1) := by decide +kernel
theorem dL_law_1122 : decode cL_law 1122 = .ok (.invokevirtual 137, 3) := by decide +kernel
theorem dL_law_1125 : decode cL_law 1125 = .ok (.if_icmp .eq 166, 3) := by decide +kernel
theorem dL_law_1128 : decode cL_law 1128 = .ok (.iconst 0, 1) := by decide +kernel
theorem dL_law_1129 : decode cL_law 1129 = .ok (.ireturn, 1) := by decide +kernel
theorem dL_law_1130 : decode cL_law 1130 = .ok (.aload_n 1, 1) := by decide +kernel
theorem dL_law_1131 : decode cL_law 1131 = .ok (.aload_n 0, 1) := by decide +kernel
theorem dL_law_1132 : decode cL_law 1132 = .ok (.iload_n 3, 1) := by decide +kernel
theorem dL_law_1133 : decode cL_law 1133 = .ok (.iconst 1, 1) := by decide +kernel
theorem dL_law_1134 : decode cL_law 1134 = .ok (.iadd, 1) := by decide +kernel
theorem dL_law_1135 : decode cL_law 1135 = .ok (.iaload, 1) := by decide +kernel
theorem dL_law_1136 : decode cL_law 1136 = .ok (.aload_n 0, 1) := by decide +kernel
theorem dL_law_1137 : decode cL_law 1137 = .ok (.iload_n 3, 1) := by decide +kernel
theorem dL_law_1138 : decode cL_law 1138 = .ok (.iconst 2, 1) := by decide +kernel
theorem dL_law_1139 : decode cL_law 1139 = .ok (.iadd, 1) := by decide +kernel
theorem dL_law_1140 : decode cL_law 1140 = .ok (.iaload, 1) := by decide +kernel
theorem dL_law_1141 : decode cL_law 1141 = .ok (.invokevirtual 138, 3) := by decide +kernel
theorem dL_law_1144 : decode cL_law 1144 = .ok (.aload_n 2, 1) := by decide +kernel
theorem dL_law_1145 : decode cL_law 1145 = .ok (.aload_n 0, 1) := by decide +kernel
theorem dL_law_1146 : decode cL_law 1146 = .ok (.iload_n 3, 1) := by decide +kernel
theorem dL_law_1147 : decode cL_law 1147 = .ok (.iconst 1, 1) := by decide +kernel
theorem dL_law_1148 : decode cL_law 1148 = .ok (.iadd, 1) := by decide +kernel
theorem dL_law_1149 : decode cL_law 1149 = .ok (.iaload, 1) := by decide +kernel
theorem dL_law_1150 : decode cL_law 1150 = .ok (.aload_n 0, 1) := by decide +kernel
theorem dL_law_1151 : decode cL_law 1151 = .ok (.iload_n 3, 1) := by decide +kernel
theorem dL_law_1152 : decode cL_law 1152 = .ok (.iconst 2, 1) := by decide +kernel
theorem dL_law_1153 : decode cL_law 1153 = .ok (.iadd, 1) := by decide +kernel
theorem dL_law_1154 : decode cL_law 1154 = .ok (.iaload, 1) := by decide +kernel
theorem dL_law_1155 : decode cL_law 1155 = .ok (.invokevirtual 141, 3) := by decide +kernel
theorem dL_law_1158 : decode cL_law 1158 = .ok (.if_icmp .eq 133, 3) := by decide +kernel
theorem dL_law_1161 : decode cL_law 1161 = .ok (.iconst 0, 1) := by decide +kernel
theorem dL_law_1162 : decode cL_law 1162 = .ok (.ireturn, 1) := by decide +kernel
theorem dL_law_1163 : decode cL_law 1163 = .ok (.aload_n 1, 1) := by decide +kernel
theorem dL_law_1164 : decode cL_law 1164 = .ok (.aload_n 0, 1) := by decide +kernel
theorem dL_law_1165 : decode cL_law 1165 = .ok (.iload_n 3, 1) := by decide +kernel
theorem dL_law_1166 : decode cL_law 1166 = .ok (.iconst 1, 1) := by decide +kernel
theorem dL_law_1167 : decode cL_law 1167 = .ok (.iadd, 1) := by decide +kernel
theorem dL_law_1168 : decode cL_law 1168 = .ok (.iaload, 1) := by decide +kernel
theorem dL_law_1169 : decode cL_law 1169 = .ok (.aload_n 0, 1) := by decide +kernel
theorem dL_law_1170 : decode cL_law 1170 = .ok (.iload_n 3, 1) := by decide +kernel
theorem dL_law_1171 : decode cL_law 1171 = .ok (.iconst 2, 1) := by decide +kernel
theorem dL_law_1172 : decode cL_law 1172 = .ok (.iadd, 1) := by decide +kernel
theorem dL_law_1173 : decode cL_law 1173 = .ok (.iaload, 1) := by decide +kernel
theorem dL_law_1174 : decode cL_law 1174 = .ok (.aload_n 0, 1) := by decide +kernel
theorem dL_law_1175 : decode cL_law 1175 = .ok (.iload_n 3, 1) := by decide +kernel
theorem dL_law_1176 : decode cL_law 1176 = .ok (.iconst 3, 1) := by decide +kernel
theorem dL_law_1177 : decode cL_law 1177 = .ok (.iadd, 1) := by decide +kernel
theorem dL_law_1178 : decode cL_law 1178 = .ok (.iaload, 1) := by decide +kernel
theorem dL_law_1179 : decode cL_law 1179 = .ok (.invokevirtual 142, 3) := by decide +kernel
theorem dL_law_1182 : decode cL_law 1182 = .ok (.aload_n 2, 1) := by decide +kernel
theorem dL_law_1183 : decode cL_law 1183 = .ok (.aload_n 0, 1) := by decide +kernel
theorem dL_law_1184 : decode cL_law 1184 = .ok (.iload_n 3, 1) := by decide +kernel
theorem dL_law_1185 : decode cL_law 1185 = .ok (.iconst 1, 1) := by decide +kernel
theorem dL_law_1186 : decode cL_law 1186 = .ok (.iadd, 1) := by decide +kernel
theorem dL_law_1187 : decode cL_law 1187 = .ok (.iaload, 1) := by decide +kernel
theorem dL_law_1188 : decode cL_law 1188 = .ok (.aload_n 0, 1) := by decide +kernel
theorem dL_law_1189 : decode cL_law 1189 = .ok (.iload_n 3, 1) := by decide +kernel
theorem dL_law_1190 : decode cL_law 1190 = .ok (.iconst 2, 1) := by decide +kernel
theorem dL_law_1191 : decode cL_law 1191 = .ok (.iadd, 1) := by decide +kernel
theorem dL_law_1192 : decode cL_law 1192 = .ok (.iaload, 1) := by decide +kernel
theorem dL_law_1193 : decode cL_law 1193 = .ok (.aload_n 0, 1) := by decide +kernel
theorem dL_law_1194 : decode cL_law 1194 = .ok (.iload_n 3, 1) := by decide +kernel
theorem dL_law_1195 : decode cL_law 1195 = .ok (.iconst 3, 1) := by decide +kernel
theorem dL_law_1196 : decode cL_law 1196 = .ok (.iadd, 1) := by decide +kernel
theorem dL_law_1197 : decode cL_law 1197 = .ok (.iaload, 1) := by decide +kernel
theorem dL_law_1198 : decode cL_law 1198 = .ok (.invokevirtual 145, 3) := by decide +kernel
theorem dL_law_1201 : decode cL_law 1201 = .ok (.if_icmp .eq 90, 3) := by decide +kernel
theorem dL_law_1204 : decode cL_law 1204 = .ok (.iconst 0, 1) := by decide +kernel
theorem dL_law_1205 : decode cL_law 1205 = .ok (.ireturn, 1) := by decide +kernel
theorem dL_law_1206 : decode cL_law 1206 = .ok (.aload_n 1, 1) := by decide +kernel
theorem dL_law_1207 : decode cL_law 1207 = .ok (.invokevirtual 146, 3) := by decide +kernel
theorem dL_law_1210 : decode cL_law 1210 = .ok (.aload_n 2, 1) := by decide +kernel
theorem dL_law_1211 : decode cL_law 1211 = .ok (.invokevirtual 149, 3) := by decide +kernel
theorem dL_law_1214 : decode cL_law 1214 = .ok (.if_icmp .eq 77, 3) := by decide +kernel
theorem dL_law_1217 : decode cL_law 1217 = .ok (.iconst 0, 1) := by decide +kernel
theorem dL_law_1218 : decode cL_law 1218 = .ok (.ireturn, 1) := by decide +kernel
theorem dL_law_1219 : decode cL_law 1219 = .ok (.aload_n 1, 1) := by decide +kernel
theorem dL_law_1220 : decode cL_law 1220 = .ok (.invokevirtual 150, 3) := by decide +kernel
theorem dL_law_1223 : decode cL_law 1223 = .ok (.aload_n 2, 1) := by decide +kernel
theorem dL_law_1224 : decode cL_law 1224 = .ok (.invokevirtual 153, 3) := by decide +kernel
theorem dL_law_1227 : decode cL_law 1227 = .ok (.if_icmp .eq 64, 3) := by decide +kernel
theorem dL_law_1230 : decode cL_law 1230 = .ok (.iconst 0, 1) := by decide +kernel
theorem dL_law_1231 : decode cL_law 1231 = .ok (.ireturn, 1) := by decide +kernel
theorem dL_law_1232 : decode cL_law 1232 = .ok (.aload_n 1, 1) := by decide +kernel
theorem dL_law_1233 : decode cL_law 1233 = .ok (.invokevirtual 154, 3) := by decide +kernel
theorem dL_law_1236 : decode cL_law 1236 = .ok (.aload_n 2, 1) := by decide +kernel
theorem dL_law_1237 : decode cL_law 1237 = .ok (.invokevirtual 157, 3) := by decide +kernel
theorem dL_law_1240 : decode cL_law 1240 = .ok (.if_icmp .eq 51, 3) := by decide +kernel
theorem dL_law_1243 : decode cL_law 1243 = .ok (.iconst 0, 1) := by decide +kernel
theorem dL_law_1244 : decode cL_law 1244 = .ok (.ireturn, 1) := by decide +kernel
theorem dL_law_1245 : decode cL_law 1245 = .ok (.aload_n 1, 1) := by decide +kernel
theorem dL_law_1246 : decode cL_law 1246 = .ok (.aload_n 0, 1) := by decide +kernel
theorem dL_law_1247 : decode cL_law 1247 = .ok (.iload_n 3, 1) := by decide +kernel
theorem dL_law_1248 : decode cL_law 1248 = .ok (.iconst 1, 1) := by decide +kernel
theorem dL_law_1249 : decode cL_law 1249 = .ok (.iadd, 1) := by decide +kernel
theorem dL_law_1250 : decode cL_law 1250 = .ok (.iaload, 1) := by decide +kernel
theorem dL_law_1251 : decode cL_law 1251 = .ok (.invokevirtual 158, 3) := by decide +kernel
theorem dL_law_1254 : decode cL_law 1254 = .ok (.aload_n 2, 1) := by decide +kernel
theorem dL_law_1255 : decode cL_law 1255 = .ok (.aload_n 0, 1) := by decide +kernel
theorem dL_law_1256 : decode cL_law 1256 = .ok (.iload_n 3, 1) := by decide +kernel
theorem dL_law_1257 : decode cL_law 1257 = .ok (.iconst 1, 1) := by decide +kernel
theorem dL_law_1258 : decode cL_law 1258 = .ok (.iadd, 1) := by decide +kernel
theorem dL_law_1259 : decode cL_law 1259 = .ok (.iaload, 1) := by decide +kernel
theorem dL_law_1260 : decode cL_law 1260 = .ok (.invokevirtual 161, 3) := by decide +kernel
theorem dL_law_1263 : decode cL_law 1263 = .ok (.if_icmp .eq 28, 3) := by decide +kernel
theorem dL_law_1266 : decode cL_law 1266 = .ok (.iconst 0, 1) := by decide +kernel
theorem dL_law_1267 : decode cL_law 1267 = .ok (.ireturn, 1) := by decide +kernel
theorem dL_law_1268 : decode cL_law 1268 = .ok (.aload_n 1, 1) := by decide +kernel
theorem dL_law_1269 : decode cL_law 1269 = .ok (.aload_n 0, 1) := by decide +kernel
theorem dL_law_1270 : decode cL_law 1270 = .ok (.iload_n 3, 1) := by decide +kernel
theorem dL_law_1271 : decode cL_law 1271 = .ok (.iconst 1, 1) := by decide +kernel
theorem dL_law_1272 : decode cL_law 1272 = .ok (.iadd, 1) := by decide +kernel
theorem dL_law_1273 : decode cL_law 1273 = .ok (.iaload, 1) := by decide +kernel
theorem dL_law_1274 : decode cL_law 1274 = .ok (.invokevirtual 162, 3) := by decide +kernel
theorem dL_law_1277 : decode cL_law 1277 = .ok (.aload_n 2, 1) := by decide +kernel
theorem dL_law_1278 : decode cL_law 1278 = .ok (.aload_n 0, 1) := by decide +kernel
theorem dL_law_1279 : decode cL_law 1279 = .ok (.iload_n 3, 1) := by decide +kernel
theorem dL_law_1280 : decode cL_law 1280 = .ok (.iconst 1, 1) := by decide +kernel
theorem dL_law_1281 : decode cL_law 1281 = .ok (.iadd, 1) := by decide +kernel
theorem dL_law_1282 : decode cL_law 1282 = .ok (.iaload, 1) := by decide +kernel
theorem dL_law_1283 : decode cL_law 1283 = .ok (.invokevirtual 165, 3) := by decide +kernel
theorem dL_law_1286 : decode cL_law 1286 = .ok (.if_icmp .eq 5, 3) := by decide +kernel
theorem dL_law_1289 : decode cL_law 1289 = .ok (.iconst 0, 1) := by decide +kernel
theorem dL_law_1290 : decode cL_law 1290 = .ok (.ireturn, 1) := by decide +kernel
theorem dL_law_1291 : decode cL_law 1291 = .ok (.iinc 3 6, 3) := by decide +kernel
theorem dL_law_1294 : decode cL_law 1294 = .ok (.goto (-1276), 3) := by decide +kernel
theorem dL_law_1297 : decode cL_law 1297 = .ok (.iconst 1, 1) := by decide +kernel
theorem dL_law_1298 : decode cL_law 1298 = .ok (.ireturn, 1) := by decide +kernel
end
section
/-! ===== numbers: Int on the machine's ints ===== -/
def iv (z : Int) : Int32 := Int32.ofInt z
def r32 (z : Int) : Prop := -2147483648 ≤ z ∧ z < 2147483648
theorem iv_bmod {z : Int} (h1 : -2147483648 ≤ z) (h2 : z < 2147483648) : z.bmod (2 ^ 32) = z := by
  rw [Int.bmod_eq_of_le (by omega) (by omega)]
theorem iv_toInt {z : Int} (h : r32 z) : (iv z).toInt = z := by
  unfold iv; rw [Int32.toInt_ofInt]; exact iv_bmod h.1 h.2
theorem iv_of (x : Int32) : iv x.toInt = x := Int32.ofInt_toInt x
theorem r32_of (x : Int32) : r32 x.toInt := by
  have h1 := Int32.le_toInt x
  have h2 := Int32.toInt_lt x
  constructor <;> omega
theorem iv_ex (x : Int32) : ∃ z : Int, r32 z ∧ x = iv z := ⟨x.toInt, r32_of x, (iv_of x).symm⟩
theorem iv_add (a b : Int) : iv a + iv b = iv (a + b) := (Int32.ofInt_add a b).symm
theorem iv_sub (a b : Int) : iv a - iv b = iv (a - b) := (Int32.ofInt_sub a b).symm
theorem iv_mul (a b : Int) : iv a * iv b = iv (a * b) := (Int32.ofInt_mul a b).symm
theorem iv_0 : iv 0 = 0 := by decide
theorem iv_1 : iv 1 = 1 := by decide
theorem iv_eq {a b : Int} (ha : r32 a) (hb : r32 b) : iv a = iv b ↔ a = b := by
  rw [← Int32.toInt_inj, iv_toInt ha, iv_toInt hb]
theorem iv_lt {a b : Int} (ha : r32 a) (hb : r32 b) : iv a < iv b ↔ a < b := by
  rw [Int32.lt_iff_toInt_lt, iv_toInt ha, iv_toInt hb]
theorem iv_le {a b : Int} (ha : r32 a) (hb : r32 b) : iv a ≤ iv b ↔ a ≤ b := by
  rw [Int32.le_iff_toInt_le, iv_toInt ha, iv_toInt hb]
theorem iv_div {a b : Int} (ha : 0 ≤ a) (ha2 : r32 a) (hb : 0 < b) (hb2 : r32 b) : iv a / iv b = iv (a / b) := by
  apply Int32.toInt_inj.mp
  have h1 : 0 ≤ a / b := Int.ediv_nonneg ha (Int.le_of_lt hb)
  have h2 : a / b ≤ a := Int.ediv_le_self b ha
  rw [lg_idiv_nonneg (by rw [iv_toInt ha2]; exact ha) (by rw [iv_toInt hb2]; exact hb), iv_toInt ha2, iv_toInt hb2, iv_toInt ⟨by omega, by have := ha2.2; omega⟩]
theorem iv_rem {a b : Int} (ha : 0 ≤ a) (ha2 : r32 a) (hb : 0 < b) (hb2 : r32 b) : iv a - iv a / iv b * iv b = iv (a % b) := by
  rw [iv_div ha ha2 hb hb2, iv_mul, iv_sub]
  congr 1
  have := Int.emod_add_mul_ediv a b
  have e : a / b * b = b * (a / b) := Int.mul_comm _ _
  omega
theorem iv_clamp {z : Int} (h : r32 z) : (iv z).toNatClampNeg = z.toNat := by
  show (iv z).toInt.toNat = z.toNat
  rw [iv_toInt h]
theorem iv_in {z : Int} {n : Nat} (h0 : 0 ≤ z) (h1 : z < n) (hn : (n : Int) < 2147483648) : vp_in (iv z) n := by
  rw [vp_in_iff, iv_toInt ⟨by omega, by omega⟩]; exact ⟨h0, h1⟩
def bz (P : Prop) [Decidable P] : Int := if P then 1 else 0
theorem bz_t {P : Prop} [Decidable P] (h : P) : bz P = 1 := if_pos h
theorem bz_f {P : Prop} [Decidable P] (h : ¬ P) : bz P = 0 := if_neg h
theorem bz_c {P : Prop} [Decidable P] : bz P = 0 ∨ bz P = 1 := by unfold bz; split <;> simp
theorem bz_eq {P Q : Prop} [Decidable P] [Decidable Q] (h : P ↔ Q) : bz P = bz Q := by unfold bz; simp only [h]
/-! ===== the world's words ===== -/
abbrev classes : List vw_C := [(RX0, TX0, 3), (RX1, TX1, 11), (RX2, TX2, 6), (RX4, TX4, 7), (RX5, TX5, 16)]
abbrev EV : Type := va_G × (ClassId × ClassId × ClassId) × (Nat × Nat × Nat) × (Nat → Nat) × (Nat → Nat)
abbrev eD (E : EV) : va_G := E.1
abbrev eI (E : EV) : ClassId := E.2.1.1
abbrev eJ (E : EV) : ClassId := E.2.1.2.1
abbrev eS (E : EV) : ClassId := E.2.1.2.2
abbrev eZ (E : EV) : Nat := E.2.2.1.1
abbrev eA (E : EV) : Nat := E.2.2.1.2.1
abbrev eN (E : EV) : Nat := E.2.2.1.2.2
abbrev eK (E : EV) : Nat → Nat := E.2.2.2.1
abbrev eV (E : EV) : Nat → Nat := E.2.2.2.2
abbrev tys (E : EV) : List (ClassId × FieldType) := [(eI E, .int), (eJ E, .long), (eS E, .object RX0)]
def strs : List (Nat × String) := [(38, "sun"), (47, "goes"), (111, "guest"), (101, "colonel"), (103, "invalid"), (105, "bore"), (107, "lover"), (109, "fake"), (65, "brown"), (75, "on")]
def strL : List Nat := strs.map (fun q => q.2.length)
def strB : List (List Int32) := strs.map (fun q => q.2.toList.map (fun ch => nI ch.toNat))
/-- what the vm's tables say, all along -/
def KK (E : EV) (U : State) : Prop := va_K (eD E) classes (tys E) U ∧ va_Nw (.methodLinkNest RX1 70 yX4_within RX4) U ∧ va_Nw (.methodLinkNest RX3 9 yX4_isKind RX4) U ∧ ∀ (i : Nat) (q : Nat × String), strs[i]? = some q → vk_R RX2 q.1 q.2 (eK E i) U
def aboveF : Nat → Value := fun j => .int (([-1, 0, 0, 0, 2, 1] : List Int32).getD j 0)
def namesL : List Int32 := [103, 117, 101, 115, 116, 0, 0, 99, 111, 108, 111, 110, 101, 108, 105, 110, 118, 97, 108, 105, 100, 98, 111, 114, 101, 0, 0, 0, 108, 111, 118, 101, 114, 0, 0, 102, 97, 107, 101, 0, 0, 0, 98, 114, 111, 119, 110, 0, 0, 111, 110, 0, 0, 0, 0, 0, 115, 117, 110, 0, 0, 0, 0, 103, 111, 101, 115, 0, 0, 0]
def namesF : Nat → Value := fun j => .int (namesL.getD j 0)
/-- what lies in the heap below the law's own cells, all along -/
def HH (E : EV) (U : State) (H : Heap) : Prop :=
  va_Z RX3 "ABOVE" "[I" (.ref (eA E)) (fun q => eZ E ≤ q) U H ∧ va_T .int (eA E) 6 aboveF (fun q => eZ E ≤ q) U H ∧
  va_Z RX5 "NAMES" "[I" (.ref (eN E)) (fun q => eZ E ≤ q) U H ∧ va_T .int (eN E) 70 namesF (fun q => eZ E ≤ q) U H ∧
  va_Z RJ0 "COMPACT_STRINGS" "Z" (.int 1) (fun q => eZ E ≤ q) U H ∧ va_Zq RJ3 "SIOOBE_FORMATTER" "Ljava/util/function/BiFunction;" (fun q => eZ E ≤ q) U H ∧
  vk_S 10 strL strB (eK E) (eV E) (fun q => eZ E ≤ q) U H
theorem KK.warm {E : EV} {s U : State} (hW : s.WarmedH U.vm) (h : KK E s) : KK E U := ⟨va_K.moved hW.alike h.1, va_Nw.warmM hW h.2.1, va_Nw.warmM hW h.2.2.1, fun i q hq => vk_R.warm hW (h.2.2.2 i q hq)⟩
theorem KK.same {E : EV} {s U : State} (hv : U.vm = s.vm) (h : KK E s) : KK E U := ⟨va_K.moved (by rw [hv]; exact Vm.Alike.refl _) h.1, va_Nw.same rfl hv.symm h.2.1, va_Nw.same rfl hv.symm h.2.2.1, fun i q hq => vk_R.same hv (h.2.2.2 i q hq)⟩
theorem HH.moved {E : EV} {u U : State} {H : Heap} (hvm : u.vm.Alike U.vm) (h : HH E u H) : HH E U H :=
  ⟨h.1.moved hvm, h.2.1.moved hvm, h.2.2.1.moved hvm, h.2.2.2.1.moved hvm, h.2.2.2.2.1.moved hvm, h.2.2.2.2.2.1.moved hvm, h.2.2.2.2.2.2.moved hvm⟩
theorem HH.kept {E : EV} {U : State} {H H1 : Heap} (h : HH E U H) (hq : ∀ a : Nat, a < H.size → ¬ eZ E ≤ a → H1[a]? = H[a]?) : HH E U H1 :=
  ⟨h.1.kept hq, h.2.1.kept hq, h.2.2.1.kept hq, h.2.2.2.1.kept hq, h.2.2.2.2.1.kept hq, h.2.2.2.2.2.1.kept hq, h.2.2.2.2.2.2.kept hq⟩
def inW (ws : va_W) (q : Nat) : Prop := ∃ (k : Nat) (e : va_E), ws[k]? = some (q, e)
theorem inW_map {ws : va_W} {q : Nat} : inW ws q ↔ q ∈ ws.map Prod.fst := by
  constructor
  · rintro ⟨k, e, h⟩
    exact List.mem_map.mpr ⟨(q, e), List.mem_of_getElem? h, rfl⟩
  · intro h
    obtain ⟨⟨a, e⟩, h1, h2⟩ := List.mem_map.mp h
    obtain ⟨k, hk⟩ := List.getElem?_of_mem h1
    exact ⟨k, e, by rw [hk]; cases h2; rfl⟩
theorem inW_same {ws ws' : va_W} (h : ws'.map Prod.fst = ws.map Prod.fst) {q : Nat} : inW ws' q ↔ inW ws q := by
  rw [inW_map, inW_map, h]
theorem map_at {ws ws' : va_W} (h : ws'.map Prod.fst = ws.map Prod.fst) {k : Nat} {q : Nat × va_E} (hk : ws'[k]? = some q) : ∃ e, ws[k]? = some (q.1, e) := by
  have h1 : (ws'.map Prod.fst)[k]? = some q.1 := by rw [List.getElem?_map, hk]; rfl
  rw [h, List.getElem?_map] at h1
  cases hw : ws[k]? with
  | none => rw [hw] at h1; cases h1
  | some x =>
    rw [hw] at h1
    obtain ⟨a, e⟩ := x
    have h2 : a = q.1 := Option.some.inj h1
    subst h2
    exact ⟨e, rfl⟩
theorem vaD_same {A : Nat → Prop} {ws ws' : va_W} (h : ws'.map Prod.fst = ws.map Prod.fst) (hD : va_D A ws) : va_D A ws' := by
  refine ⟨fun i j p q hi hj hpq => ?_, fun k q hk => ?_⟩
  · obtain ⟨e1, h1⟩ := map_at h hi
    obtain ⟨e2, h2⟩ := map_at h hj
    exact hD.1 i j _ _ h1 h2 hpq
  · obtain ⟨e1, h1⟩ := map_at h hk
    exact hD.2 k (q.1, e1) h1
/-- before a call -/
def Pre (E : EV) (ws : va_W) (av : List Value) : Array Value → State → Prop := fun v U => v = av.toArray ∧ va_P (eD E) classes ws U.heap ∧ va_D (fun q => eZ E ≤ q) ws ∧ KK E U ∧ HH E U U.heap
theorem Pre.blind (E : EV) (ws : va_W) (av : List Value) : FrameBlind (Pre E ws av) := fun _ U _ _ h => ⟨h.1, h.2.1, h.2.2.1, KK.same rfl h.2.2.2.1, HH.moved (u := U) (Vm.Alike.refl _) h.2.2.2.2⟩
/-- where a walk stands -/
def St (E : EV) (ws0 : va_W) (s : State) (H : Heap) (locs : List Loc) (ws : va_W) : Prop :=
  va_P (eD E) classes ws H ∧ va_S (inW ws0) s.heap H locs ∧ ws.map Prod.fst = ws0.map Prod.fst ∧ va_D (fun q => eZ E ≤ q) ws0 ∧ KK E s ∧ HH E s s.heap
theorem St.hh {E : EV} {ws0 : va_W} {s : State} {H : Heap} {locs : List Loc} {ws : va_W} (h : St E ws0 s H locs ws) : HH E s H :=
  h.2.2.2.2.2.kept (fun a h1 h2 => h.2.1.2.1 a h1 (fun ⟨k, e, hk⟩ => h2 (h.2.2.2.1.2 k _ hk)))
theorem St.d {E : EV} {ws0 : va_W} {s : State} {H : Heap} {locs : List Loc} {ws : va_W} (h : St E ws0 s H locs ws) : va_D (fun q => eZ E ≤ q) ws := vaD_same h.2.2.1 h.2.2.2.1
theorem St.dw {E : EV} {ws0 : va_W} {s : State} {H : Heap} {locs : List Loc} {ws : va_W} (h : St E ws0 s H locs ws) : va_D (inW ws0) ws := by
  refine ⟨h.d.1, fun k q hk => ?_⟩
  obtain ⟨e, he⟩ := map_at h.2.2.1 hk
  exact ⟨k, e, he⟩
/-- the method that runs -/
def Cx (p : Program) (s : State) (m : MethodId) (meth : Method) (c : Code) (args : Array Value) (own : String) (cc : ByteArray) (nL : Nat) (rt : Option FieldType) : Prop :=
  p.tables.exec = Jvm.exec ∧ c.code = cc ∧ c.maxLocals = nL ∧ s.vm.findClass own = some m.cls ∧ (∀ w ∈ tb, w.before args s = true) ∧ meth.sig.returnType = rt ∧ meth.locks = false
def MInf (y : MethodName) (C : String) (bytes : ByteArray) (maxL : Nat) (ret : Option FieldType) (n : Nat) : Prop := Cond.code y bytes maxL ret ∈ tb ∧ Cond.instanceMethod y ∈ tb ∧ Cond.selects C y y ∈ tb ∧ Cond.initialized C ∈ tb ∧ (y.cls = C ∧ y.cls ≠ "java/lang/invoke/MethodHandle" ∧ y.cls ≠ "java/lang/invoke/VarHandle" ∧ (parseMethodDescriptor y.desc).map (fun d => d.parameters.length) = some n)
def MInfS (y : MethodName) (bytes : ByteArray) (maxL : Nat) (ret : Option FieldType) (n : Nat) : Prop := Cond.code y bytes maxL ret ∈ tb ∧ Cond.static y ∈ tb ∧ Cond.initialized y.cls ∈ tb ∧ (y.cls ≠ "java/lang/invoke/MethodHandle" ∧ y.cls ≠ "java/lang/invoke/VarHandle" ∧ (parseMethodDescriptor y.desc).map (fun d => d.parameters.length) = some n)
/-! ===== contracts ===== -/
abbrev wz (y : MethodName) (bytes : ByteArray) (maxL : Nat) (ret : Option FieldType) : List Cond := Cond.code y bytes maxL ret :: tb
abbrev rmk (f n : Nat) : Room := { frames := f, cells := 0, slots := 0, locals := n }
/-- reads alone: an int -/
def MP (E : EV) (l : Launch) (y : MethodName) (bytes : ByteArray) (maxL : Nat) (ret : Option FieldType) (rm : Room) (ws : va_W) (av : List Value) (z : Int) : Prop := Met l y (wz y bytes maxL ret) rm (Pre E ws av) (vp_Si (fun r => r = iv z)) 0 0 (fun _ => False)
/-- reads alone: a long -/
def MPL (E : EV) (l : Launch) (y : MethodName) (bytes : ByteArray) (maxL : Nat) (ret : Option FieldType) (rm : Room) (ws : va_W) (av : List Value) (x : Int64) : Prop := Met l y (wz y bytes maxL ret) rm (Pre E ws av) (vp_Sl (fun r => r = x)) 0 0 (fun _ => False)
/-- reads alone: a reference or null -/
def MPQ (E : EV) (l : Launch) (y : MethodName) (bytes : ByteArray) (maxL : Nat) (ret : Option FieldType) (rm : Room) (ws : va_W) (av : List Value) (x : Option Nat) : Prop := Met l y (wz y bytes maxL ret) rm (Pre E ws av) (va_Sq (fun r => r = x)) 0 0 (fun _ => False)
/-- writes: an int, nothing, a long -/
def MI {S : Type} (E : EV) (l : Launch) (y : MethodName) (bytes : ByteArray) (maxL : Nat) (ret : Option FieldType) (rm : Room) (ws : va_W) (av : List Value) (post : Int32 → S → Prop) (ws' : S → va_W) : Prop := Met l y (wz y bytes maxL ret) rm (Pre E ws av) (va_Qi post (fun u t => va_P (eD E) classes (ws' u) t.heap) (inW ws)) 0 0 (inW ws)
def MV {S : Type} (E : EV) (l : Launch) (y : MethodName) (bytes : ByteArray) (maxL : Nat) (rm : Room) (ws : va_W) (av : List Value) (post : S → Prop) (ws' : S → va_W) : Prop := Met l y (wz y bytes maxL none) rm (Pre E ws av) (va_Qv post (fun u t => va_P (eD E) classes (ws' u) t.heap) (inW ws)) 0 0 (inW ws)
def MIL {S : Type} (E : EV) (l : Launch) (y : MethodName) (bytes : ByteArray) (maxL : Nat) (ret : Option FieldType) (rm : Room) (ws : va_W) (av : List Value) (post : Int64 → S → Prop) (ws' : S → va_W) : Prop := Met l y (wz y bytes maxL ret) rm (Pre E ws av) (va_Ql post (fun u t => va_P (eD E) classes (ws' u) t.heap) (inW ws)) 0 0 (inW ws)
theorem Met.go {l : Launch} {E : EV} {y : MethodName} {bytes : ByteArray} {maxL : Nat} {ret : Option FieldType} {rm : Room} {ws : va_W} {av : List Value} {Qc : Array Value → State → Outcome → State → Prop} {free : Addr → Prop} (hy : plainName y.cls = true) (hav : (lg_sl av).length ≤ maxL)
    (body : ∀ (p : Program) (e : Env) (s : State) (m : MethodId) (below : List Frame) (meth : Method) (c : Code) (ls : Array Slot), Cx p s m meth c av.toArray y.cls bytes maxL ret → St E ws s s.heap [] ws → lv_has ls maxL (lv_args 0 av) → W p l e rm s m av.toArray below meth c s.heap [] 0 0 (MQ below Qc av.toArray s 0 0 free) (F0 m 0 ls [])) :
    Met l y (wz y bytes maxL ret) rm (Pre E ws av) Qc 0 0 free := by
  refine Met.ofW (cc := bytes) (maxL := maxL) (ret := ret) hy rfl ?_
  intro p e s m args below meth c s₁ B hml hv
  obtain ⟨rfl, hP, hD, hK, hH⟩ := hv
  have hts := atoms_spec (ws := wz y bytes maxL ret) B.pre
  rw [lg_entry_eq]
  exact body p e s m below meth c _ ⟨B.exec, B.bytes, hml, findClass_of_methodNamed B.named, fun w hw => hts w (List.mem_cons_of_mem _ hw), B.returns, B.notSynchronized⟩ ⟨hP, va_S.rf, rfl, hD, hK, hH⟩ (lv_entry av hav)
section ZL
variable {p : Program} {l : Launch} {e : Env} {R : Room} {s : State} {m : MethodId} {args : Array Value} {below : List Frame} {meth : Method} {c : Code} {H : Heap} {locs : List Loc} {cells slots : Nat} {Q : State → Prop}
variable {own : String} {cc : ByteArray} {nL : Nat} {rt : Option FieldType} {pc : Nat} {ls : Array Slot} {rest : List Value} {E : EV} {ws0 ws : va_W}
/-! returns -/
theorem z_ret (X : Cx p s m meth c args own cc nL (some .int)) {z z' : Int} (h : z' = z) (d : decode cc pc = .ok (.ireturn, 1)) : W p l e R s m args below meth c s.heap [] cells slots (MQ below (vp_Si (fun r => r = iv z)) args s cells slots (fun _ => False)) (F0 m pc ls [.int (iv z')]) :=
  W.iret X.1 X.2.1 X.2.2.2.2.2.1 (fun t ht _ => ⟨_, rfl, by rw [h], ht⟩) (fun q hq => by cases hq) d X.2.2.2.2.2.2
theorem nar_bz {P : Prop} [Decidable P] : narrow .boolean (.int (iv (bz P))) = .int (iv (bz P)) := by
  rcases (bz_c (P := P)) with h | h <;> rw [h] <;> decide
theorem z_retb (X : Cx p s m meth c args own cc nL (some .boolean)) {z z' : Int} (hb : z' = 0 ∨ z' = 1) (h : z' = z) (d : decode cc pc = .ok (.ireturn, 1)) : W p l e R s m args below meth c s.heap [] cells slots (MQ below (vp_Si (fun r => r = iv z)) args s cells slots (fun _ => False)) (F0 m pc ls [.int (iv z')]) :=
  W.zret X.1 X.2.1 X.2.2.2.2.2.1 (by rcases hb with q | q <;> rw [q] <;> decide) (fun t ht _ => ⟨_, rfl, by rw [h], ht⟩) (fun q hq => by cases hq) d X.2.2.2.2.2.2
theorem z_retI {S : Type} {post : Int32 → S → Prop} {ws' : S → va_W} (X : Cx p s m meth c args own cc nL (some .int)) (h : St E ws0 s H locs ws) {v : Int32} (u : S) (hp : post v u) (hw : ws' u = ws) (d : decode cc pc = .ok (.ireturn, 1)) : W p l e R s m args below meth c H locs cells slots (MQ below (va_Qi post (fun u t => va_P (eD E) classes (ws' u) t.heap) (inW ws0)) args s cells slots (inW ws0)) (F0 m pc ls [.int v]) :=
  W.iret X.1 X.2.1 X.2.2.2.2.2.1 (fun t ht _ => ⟨⟨_, u, rfl, hp, by show va_P _ _ (ws' u) t.heap; rw [ht, hw]; exact h.1⟩, h.2.1.F ht⟩) h.2.1.2.2 d X.2.2.2.2.2.2
theorem z_retZ {S : Type} {post : Int32 → S → Prop} {ws' : S → va_W} (X : Cx p s m meth c args own cc nL (some .boolean)) (h : St E ws0 s H locs ws) {z' : Int} (hb : z' = 0 ∨ z' = 1) (u : S) (hp : post (iv z') u) (hw : ws' u = ws) (d : decode cc pc = .ok (.ireturn, 1)) : W p l e R s m args below meth c H locs cells slots (MQ below (va_Qi post (fun u t => va_P (eD E) classes (ws' u) t.heap) (inW ws0)) args s cells slots (inW ws0)) (F0 m pc ls [.int (iv z')]) :=
  W.zret X.1 X.2.1 X.2.2.2.2.2.1 (by rcases hb with q | q <;> rw [q] <;> decide) (fun t ht _ => ⟨⟨_, u, rfl, hp, by show va_P _ _ (ws' u) t.heap; rw [ht, hw]; exact h.1⟩, h.2.1.F ht⟩) h.2.1.2.2 d X.2.2.2.2.2.2
theorem z_retV {S : Type} {post : S → Prop} {ws' : S → va_W} (X : Cx p s m meth c args own cc nL none) (h : St E ws0 s H locs ws) (u : S) (hp : post u) (hw : ws' u = ws) (d : decode cc pc = .ok (.return_, 1)) : W p l e R s m args below meth c H locs cells slots (MQ below (va_Qv post (fun u t => va_P (eD E) classes (ws' u) t.heap) (inW ws0)) args s cells slots (inW ws0)) (F0 m pc ls []) :=
  W.vret X.1 X.2.1 X.2.2.2.2.2.1 (fun t ht _ => ⟨⟨u, rfl, hp, by show va_P _ _ (ws' u) t.heap; rw [ht, hw]; exact h.1⟩, h.2.1.F ht⟩) h.2.1.2.2 d X.2.2.2.2.2.2
/-! constants and arithmetic -/
theorem z_iconst (X : Cx p s m meth c args own cc nL rt) {n : Int} (d : decode cc pc = .ok (.iconst n, 1)) (k : W p l e R s m args below meth c H locs cells slots Q (F0 m (pc + 1) ls (.int (iv n) :: rest))) : W p l e R s m args below meth c H locs cells slots Q (F0 m pc ls rest) := lv_iconst X.1 X.2.1 d rfl k
theorem z_bipush (X : Cx p s m meth c args own cc nL rt) {n : Int} (hn : (Int8.ofInt n).toInt32 = iv n) (d : decode cc pc = .ok (.bipush n, 2)) (k : W p l e R s m args below meth c H locs cells slots Q (F0 m (pc + 2) ls (.int (iv n) :: rest))) : W p l e R s m args below meth c H locs cells slots Q (F0 m pc ls rest) := lv_bipush X.1 X.2.1 d hn k
theorem z_sipush (X : Cx p s m meth c args own cc nL rt) {n : Int} (hn : (Int16.ofInt n).toInt32 = iv n) (d : decode cc pc = .ok (.sipush n, 3)) (k : W p l e R s m args below meth c H locs cells slots Q (F0 m (pc + 3) ls (.int (iv n) :: rest))) : W p l e R s m args below meth c H locs cells slots Q (F0 m pc ls rest) := lv_sipush X.1 X.2.1 d hn k
theorem z_ldc (X : Cx p s m meth c args own cc nL rt) {z : Int} {index : Nat} {v : Int32} (hc : Cond.constant own index v ∈ tb) (hv : v = iv z) (d : decode cc pc = .ok (.ldc index, 2)) (k : W p l e R s m args below meth c H locs cells slots Q (F0 m (pc + 2) ls (.int (iv z) :: rest))) : W p l e R s m args below meth c H locs cells slots Q (F0 m pc ls rest) := lv_ldc X.1 X.2.1 X.2.2.2.1 (X.2.2.2.2.1 _ hc) d (hv ▸ k)
theorem z_iadd (X : Cx p s m meth c args own cc nL rt) {a b : Int} (d : decode cc pc = .ok (.iadd, 1)) (k : W p l e R s m args below meth c H locs cells slots Q (F0 m (pc + 1) ls (.int (iv (a + b)) :: rest))) : W p l e R s m args below meth c H locs cells slots Q (F0 m pc ls (.int (iv b) :: .int (iv a) :: rest)) := lv_iadd X.1 X.2.1 d ((iv_add a b).symm ▸ k)
theorem z_isub (X : Cx p s m meth c args own cc nL rt) {a b : Int} (d : decode cc pc = .ok (.isub, 1)) (k : W p l e R s m args below meth c H locs cells slots Q (F0 m (pc + 1) ls (.int (iv (a - b)) :: rest))) : W p l e R s m args below meth c H locs cells slots Q (F0 m pc ls (.int (iv b) :: .int (iv a) :: rest)) := lv_isub X.1 X.2.1 d ((iv_sub a b).symm ▸ k)
theorem z_imul (X : Cx p s m meth c args own cc nL rt) {a b : Int} (d : decode cc pc = .ok (.imul, 1)) (k : W p l e R s m args below meth c H locs cells slots Q (F0 m (pc + 1) ls (.int (iv (a * b)) :: rest))) : W p l e R s m args below meth c H locs cells slots Q (F0 m pc ls (.int (iv b) :: .int (iv a) :: rest)) := lv_imul X.1 X.2.1 d ((iv_mul a b).symm ▸ k)
theorem z_ne0 {b : Int} (hb : 0 < b) (hb2 : b < 2147483648) : ¬ iv b = 0 := by
  rw [← iv_0, iv_eq ⟨by omega, by omega⟩ ⟨by omega, by omega⟩]; omega
theorem z_idiv (X : Cx p s m meth c args own cc nL rt) {a b : Int} (ha : 0 ≤ a) (ha2 : a < 2147483648) (hb : 0 < b) (hb2 : b < 2147483648) (d : decode cc pc = .ok (.idiv, 1)) (k : W p l e R s m args below meth c H locs cells slots Q (F0 m (pc + 1) ls (.int (iv (a / b)) :: rest))) : W p l e R s m args below meth c H locs cells slots Q (F0 m pc ls (.int (iv b) :: .int (iv a) :: rest)) := lv_idiv X.1 X.2.1 d (z_ne0 hb hb2) ((iv_div ha ⟨by omega, ha2⟩ hb ⟨by omega, hb2⟩).symm ▸ k)
theorem z_irem (X : Cx p s m meth c args own cc nL rt) {a b : Int} (ha : 0 ≤ a) (ha2 : a < 2147483648) (hb : 0 < b) (hb2 : b < 2147483648) (d : decode cc pc = .ok (.irem, 1)) (k : W p l e R s m args below meth c H locs cells slots Q (F0 m (pc + 1) ls (.int (iv (a % b)) :: rest))) : W p l e R s m args below meth c H locs cells slots Q (F0 m pc ls (.int (iv b) :: .int (iv a) :: rest)) := lv_irem X.1 X.2.1 d (z_ne0 hb hb2) ((iv_rem ha ⟨by omega, ha2⟩ hb ⟨by omega, hb2⟩).symm ▸ k)
theorem z_iinc (X : Cx p s m meth c args own cc nL rt) {i k : Nat} {n a : Int} {lv lv' : List (Nat × Value)} (d : decode cc pc = .ok (.iinc i n, 3)) (h : lv_has ls nL lv) (hk : lv[k]? = some (i, .int (iv a))) (hn : i < nL) (hl : (i, Value.int (iv (a + n))) :: lv.filter (fun q => !(q.1 == i) && !(q.1 + 1 == i && q.2.category == 2)) = lv')
    (kk : ∀ ls' : Array Slot, lv_has ls' nL lv' → W p l e R s m args below meth c H locs cells slots Q (F0 m (pc + 3) ls' rest)) : W p l e R s m args below meth c H locs cells slots Q (F0 m pc ls rest) := lv_iinc (v := iv (a + n)) X.1 X.2.1 d h hk (iv_add a n) hn hl kk
/-! branches -/
theorem z_if_eq (X : Cx p s m meth c args own cc nL rt) {a : Int} {off : Int} {tgt : Nat} (ra : r32 a) (d : decode cc pc = .ok (.ifCond .eq off, 3)) (ht : (pc : Int) + off = (tgt : Int)) (kt : a = 0 → W p l e R s m args below meth c H locs cells slots Q (F0 m tgt ls rest)) (kf : a ≠ 0 → W p l e R s m args below meth c H locs cells slots Q (F0 m (pc + 3) ls rest)) : W p l e R s m args below meth c H locs cells slots Q (F0 m pc ls (.int (iv a) :: rest)) :=
  lv_if_eq X.1 X.2.1 d ht (fun h => kt ((iv_eq ra (by constructor <;> decide)).mp (h.trans iv_0.symm))) (fun h => kf (fun q => h (by rw [q]; exact iv_0)))
theorem z_if_ne (X : Cx p s m meth c args own cc nL rt) {a : Int} {off : Int} {tgt : Nat} (ra : r32 a) (d : decode cc pc = .ok (.ifCond .ne off, 3)) (ht : (pc : Int) + off = (tgt : Int)) (kt : a ≠ 0 → W p l e R s m args below meth c H locs cells slots Q (F0 m tgt ls rest)) (kf : a = 0 → W p l e R s m args below meth c H locs cells slots Q (F0 m (pc + 3) ls rest)) : W p l e R s m args below meth c H locs cells slots Q (F0 m pc ls (.int (iv a) :: rest)) :=
  lv_if_ne X.1 X.2.1 d ht (fun h => kt (fun q => h (by rw [q]; exact iv_0))) (fun h => kf ((iv_eq ra (by constructor <;> decide)).mp (h.trans iv_0.symm)))
theorem z_ifb_eq (X : Cx p s m meth c args own cc nL rt) {P : Prop} [Decidable P] {off : Int} {tgt : Nat} (d : decode cc pc = .ok (.ifCond .eq off, 3)) (ht : (pc : Int) + off = (tgt : Int)) (kt : ¬ P → W p l e R s m args below meth c H locs cells slots Q (F0 m tgt ls rest)) (kf : P → W p l e R s m args below meth c H locs cells slots Q (F0 m (pc + 3) ls rest)) : W p l e R s m args below meth c H locs cells slots Q (F0 m pc ls (.int (iv (bz P)) :: rest)) :=
  z_if_eq X (by rcases (bz_c (P := P)) with h | h <;> rw [h] <;> constructor <;> decide) d ht (fun h => kt (fun q => by rw [bz_t q] at h; cases h)) (fun h => kf (Classical.byContradiction fun q => h (bz_f q)))
theorem z_ifb_ne (X : Cx p s m meth c args own cc nL rt) {P : Prop} [Decidable P] {off : Int} {tgt : Nat} (d : decode cc pc = .ok (.ifCond .ne off, 3)) (ht : (pc : Int) + off = (tgt : Int)) (kt : P → W p l e R s m args below meth c H locs cells slots Q (F0 m tgt ls rest)) (kf : ¬ P → W p l e R s m args below meth c H locs cells slots Q (F0 m (pc + 3) ls rest)) : W p l e R s m args below meth c H locs cells slots Q (F0 m pc ls (.int (iv (bz P)) :: rest)) :=
  z_if_ne X (by rcases (bz_c (P := P)) with h | h <;> rw [h] <;> constructor <;> decide) d ht (fun h => kt (Classical.byContradiction fun q => h (bz_f q))) (fun h => kf (fun q => by rw [bz_t q] at h; cases h))
theorem r32_0 : r32 0 := by constructor <;> decide
theorem z_if_lt (X : Cx p s m meth c args own cc nL rt) {a : Int} {off : Int} {tgt : Nat} (ra : r32 a) (d : decode cc pc = .ok (.ifCond .lt off, 3)) (ht : (pc : Int) + off = (tgt : Int)) (kt : a < 0 → W p l e R s m args below meth c H locs cells slots Q (F0 m tgt ls rest)) (kf : 0 ≤ a → W p l e R s m args below meth c H locs cells slots Q (F0 m (pc + 3) ls rest)) : W p l e R s m args below meth c H locs cells slots Q (F0 m pc ls (.int (iv a) :: rest)) :=
  lv_if_lt X.1 X.2.1 d ht (fun h => kt (by rw [← iv_0, iv_lt ra r32_0] at h; exact h)) (fun h => kf (by rw [← iv_0, iv_lt ra r32_0] at h; omega))
theorem z_if_ge (X : Cx p s m meth c args own cc nL rt) {a : Int} {off : Int} {tgt : Nat} (ra : r32 a) (d : decode cc pc = .ok (.ifCond .ge off, 3)) (ht : (pc : Int) + off = (tgt : Int)) (kt : 0 ≤ a → W p l e R s m args below meth c H locs cells slots Q (F0 m tgt ls rest)) (kf : a < 0 → W p l e R s m args below meth c H locs cells slots Q (F0 m (pc + 3) ls rest)) : W p l e R s m args below meth c H locs cells slots Q (F0 m pc ls (.int (iv a) :: rest)) :=
  lv_if_ge X.1 X.2.1 d ht (fun h => kt (by rw [← iv_0, iv_le r32_0 ra] at h; exact h)) (fun h => kf (by rw [← iv_0, iv_le r32_0 ra] at h; omega))
theorem z_if_gt (X : Cx p s m meth c args own cc nL rt) {a : Int} {off : Int} {tgt : Nat} (ra : r32 a) (d : decode cc pc = .ok (.ifCond .gt off, 3)) (ht : (pc : Int) + off = (tgt : Int)) (kt : 0 < a → W p l e R s m args below meth c H locs cells slots Q (F0 m tgt ls rest)) (kf : a ≤ 0 → W p l e R s m args below meth c H locs cells slots Q (F0 m (pc + 3) ls rest)) : W p l e R s m args below meth c H locs cells slots Q (F0 m pc ls (.int (iv a) :: rest)) :=
  lv_if_gt X.1 X.2.1 d ht (fun h => kt (by rw [← iv_0, iv_lt r32_0 ra] at h; exact h)) (fun h => kf (by rw [← iv_0, iv_lt r32_0 ra] at h; omega))
theorem z_if_le (X : Cx p s m meth c args own cc nL rt) {a : Int} {off : Int} {tgt : Nat} (ra : r32 a) (d : decode cc pc = .ok (.ifCond .le off, 3)) (ht : (pc : Int) + off = (tgt : Int)) (kt : a ≤ 0 → W p l e R s m args below meth c H locs cells slots Q (F0 m tgt ls rest)) (kf : 0 < a → W p l e R s m args below meth c H locs cells slots Q (F0 m (pc + 3) ls rest)) : W p l e R s m args below meth c H locs cells slots Q (F0 m pc ls (.int (iv a) :: rest)) :=
  lv_if_le X.1 X.2.1 d ht (fun h => kt (by rw [← iv_0, iv_le ra r32_0] at h; exact h)) (fun h => kf (by rw [← iv_0, iv_le ra r32_0] at h; omega))
theorem z_ic_eq (X : Cx p s m meth c args own cc nL rt) {a b : Int} {off : Int} {tgt : Nat} (ra : r32 a) (rb : r32 b) (d : decode cc pc = .ok (.if_icmp .eq off, 3)) (ht : (pc : Int) + off = (tgt : Int)) (kt : a = b → W p l e R s m args below meth c H locs cells slots Q (F0 m tgt ls rest)) (kf : a ≠ b → W p l e R s m args below meth c H locs cells slots Q (F0 m (pc + 3) ls rest)) : W p l e R s m args below meth c H locs cells slots Q (F0 m pc ls (.int (iv b) :: .int (iv a) :: rest)) :=
  lv_icmp_eq X.1 X.2.1 d ht (fun h => kt ((iv_eq ra rb).mp h)) (fun h => kf (fun q => h (by rw [q])))
theorem z_ic_ne (X : Cx p s m meth c args own cc nL rt) {a b : Int} {off : Int} {tgt : Nat} (ra : r32 a) (rb : r32 b) (d : decode cc pc = .ok (.if_icmp .ne off, 3)) (ht : (pc : Int) + off = (tgt : Int)) (kt : a ≠ b → W p l e R s m args below meth c H locs cells slots Q (F0 m tgt ls rest)) (kf : a = b → W p l e R s m args below meth c H locs cells slots Q (F0 m (pc + 3) ls rest)) : W p l e R s m args below meth c H locs cells slots Q (F0 m pc ls (.int (iv b) :: .int (iv a) :: rest)) :=
  lv_icmp_ne X.1 X.2.1 d ht (fun h => kt (fun q => h (by rw [q]))) (fun h => kf ((iv_eq ra rb).mp h))
theorem z_ic_lt (X : Cx p s m meth c args own cc nL rt) {a b : Int} {off : Int} {tgt : Nat} (ra : r32 a) (rb : r32 b) (d : decode cc pc = .ok (.if_icmp .lt off, 3)) (ht : (pc : Int) + off = (tgt : Int)) (kt : a < b → W p l e R s m args below meth c H locs cells slots Q (F0 m tgt ls rest)) (kf : b ≤ a → W p l e R s m args below meth c H locs cells slots Q (F0 m (pc + 3) ls rest)) : W p l e R s m args below meth c H locs cells slots Q (F0 m pc ls (.int (iv b) :: .int (iv a) :: rest)) :=
  lv_icmp_lt X.1 X.2.1 d ht (fun h => kt ((iv_lt ra rb).mp h)) (fun h => kf (by rw [iv_lt ra rb] at h; omega))
theorem z_ic_ge (X : Cx p s m meth c args own cc nL rt) {a b : Int} {off : Int} {tgt : Nat} (ra : r32 a) (rb : r32 b) (d : decode cc pc = .ok (.if_icmp .ge off, 3)) (ht : (pc : Int) + off = (tgt : Int)) (kt : b ≤ a → W p l e R s m args below meth c H locs cells slots Q (F0 m tgt ls rest)) (kf : a < b → W p l e R s m args below meth c H locs cells slots Q (F0 m (pc + 3) ls rest)) : W p l e R s m args below meth c H locs cells slots Q (F0 m pc ls (.int (iv b) :: .int (iv a) :: rest)) :=
  lv_icmp_ge X.1 X.2.1 d ht (fun h => kt ((iv_le rb ra).mp h)) (fun h => kf (by rw [iv_le rb ra] at h; omega))
theorem z_ic_gt (X : Cx p s m meth c args own cc nL rt) {a b : Int} {off : Int} {tgt : Nat} (ra : r32 a) (rb : r32 b) (d : decode cc pc = .ok (.if_icmp .gt off, 3)) (ht : (pc : Int) + off = (tgt : Int)) (kt : b < a → W p l e R s m args below meth c H locs cells slots Q (F0 m tgt ls rest)) (kf : a ≤ b → W p l e R s m args below meth c H locs cells slots Q (F0 m (pc + 3) ls rest)) : W p l e R s m args below meth c H locs cells slots Q (F0 m pc ls (.int (iv b) :: .int (iv a) :: rest)) :=
  lv_icmp_gt X.1 X.2.1 d ht (fun h => kt ((iv_lt rb ra).mp h)) (fun h => kf (by rw [iv_lt rb ra] at h; omega))
theorem z_ic_le (X : Cx p s m meth c args own cc nL rt) {a b : Int} {off : Int} {tgt : Nat} (ra : r32 a) (rb : r32 b) (d : decode cc pc = .ok (.if_icmp .le off, 3)) (ht : (pc : Int) + off = (tgt : Int)) (kt : a ≤ b → W p l e R s m args below meth c H locs cells slots Q (F0 m tgt ls rest)) (kf : b < a → W p l e R s m args below meth c H locs cells slots Q (F0 m (pc + 3) ls rest)) : W p l e R s m args below meth c H locs cells slots Q (F0 m pc ls (.int (iv b) :: .int (iv a) :: rest)) :=
  lv_icmp_le X.1 X.2.1 d ht (fun h => kt ((iv_le ra rb).mp h)) (fun h => kf (by rw [iv_le ra rb] at h; omega))
theorem z_tabIn (X : Cx p s m meth c args own cc nL rt) {a : Int} (j : Int) {dflt lo hi off : Int} {offs : Array Int} {len tgt : Nat} (hj : a = j) (rj : r32 j) (h1 : ¬ j < lo) (h2 : ¬ hi < j) (d : decode cc pc = .ok (.tableswitch dflt lo hi offs, len)) (ho : offs[(j - lo).toNat]? = some off) (ht : (pc : Int) + off = (tgt : Int)) (k : W p l e R s m args below meth c H locs cells slots Q (F0 m tgt ls rest)) : W p l e R s m args below meth c H locs cells slots Q (F0 m pc ls (.int (iv a) :: rest)) := by
  subst hj
  exact lv_tableIn X.1 X.2.1 d (by rw [iv_toInt rj]; exact h1) (by rw [iv_toInt rj]; exact h2) (by rw [iv_toInt rj]; exact ho) ht k
theorem z_tabOut (X : Cx p s m meth c args own cc nL rt) {a : Int} {dflt lo hi : Int} {offs : Array Int} {len tgt : Nat} (ra : r32 a) (h : a < lo ∨ hi < a) (d : decode cc pc = .ok (.tableswitch dflt lo hi offs, len)) (ht : (pc : Int) + dflt = (tgt : Int)) (k : W p l e R s m args below meth c H locs cells slots Q (F0 m tgt ls rest)) : W p l e R s m args below meth c H locs cells slots Q (F0 m pc ls (.int (iv a) :: rest)) :=
  lv_tableOut X.1 X.2.1 d (by rw [iv_toInt ra]; exact h) ht k
/-! fields and arrays -/
theorem z_get (X : Cx p s m meth c args own cc nL rt) (h : St E ws0 s H locs ws) (ci q0 k : Nat) {C : String} {T : u_T} {N index : Nat} (hc : classes[ci]? = some (C, T, N)) (hin : ∀ w ∈ u_ws C T N, w ∈ tb) {a : Nat} {fs : List Value} (he : ws[q0]? = some (a, .inr (ci, fs))) (hk : k < N) (hl : Cond.fieldLink own index (T k).1 (T k).2.1 (T k).2.2.1 ∈ tb) {v : Value} (hv : fs[k]? = some v) (d : decode cc pc = .ok (.getfield index, 3))
    (kk : W p l e R s m args below meth c H locs cells slots Q (F0 m (pc + 3) ls (v :: rest))) : W p l e R s m args below meth c H locs cells slots Q (F0 m pc ls (.ref a :: rest)) :=
  va_get (D := eD E) (ci := ci) X.1 X.2.1 X.2.2.2.2.1 hin X.2.2.2.1 h.2.2.2.2.1.1 h.1 q0 he hc k hk (X.2.2.2.2.1 _ hl) (fun _ h9 => h9) hv d kk
theorem z_put (X : Cx p s m meth c args own cc nL rt) (h : St E ws0 s H locs ws) (ci q0 k : Nat) {C : String} {T : u_T} {N index : Nat} (hc : classes[ci]? = some (C, T, N)) (hin : ∀ w ∈ u_ws C T N, w ∈ tb) (ty0 : Nat → FieldType) (hty : ∀ k, k < N → parseFieldDescriptor (T k).2.2.1 = some (ty0 k)) (hnm : ∀ a, a < N → ∀ b, b < N → a ≠ b → (T a).2.1 ≠ (T b).2.1) {a : Nat} {fs : List Value} (he : ws[q0]? = some (a, .inr (ci, fs))) (hk : k < N) (hl : Cond.fieldLink own index (T k).1 (T k).2.1 (T k).2.2.1 ∈ tb) (hfin : (T k).2.2.2 = false) {v : Value} (hn : narrow (ty0 k) v = v) (hfit : fits (ty0 k) v = true) (hlen : k < fs.length) (d : decode cc pc = .ok (.putfield index, 3))
    (kk : ∀ (H1 : Heap) (locs1 : List Loc), St E ws0 s H1 locs1 (ws.set q0 (a, .inr (ci, fs.set k v))) → W p l e R s m args below meth c H1 locs1 cells slots Q (F0 m (pc + 3) ls rest)) : W p l e R s m args below meth c H locs cells slots Q (F0 m pc ls (v :: .ref a :: rest)) :=
  va_put (D := eD E) (ci := ci) X.1 X.2.1 X.2.2.2.2.1 hin ty0 hty hnm X.2.2.2.1 h.2.2.2.2.1.1 h.1 h.dw h.2.1 q0 he hc k hk (X.2.2.2.2.1 _ hl) (fun _ h9 => h9) hfin (hty k hk) hn hfit hlen d (fun H1 locs1 hP hD hS => kk H1 locs1 ⟨hP, hS, by
    rw [← h.2.2.1]
    apply List.ext_getElem?
    intro i
    rw [List.getElem?_map, List.getElem?_map, List.getElem?_set]
    split
    · next hi =>
      subst hi
      split
      · rw [he]; rfl
      · next hn => rw [List.getElem?_eq_none (by omega)]
    · rfl, h.2.2.2⟩)
theorem set_map {ws : va_W} {q0 a : Nat} {e0 e1 : va_E} (he : ws[q0]? = some (a, e0)) : (ws.set q0 (a, e1)).map Prod.fst = ws.map Prod.fst := by
  apply List.ext_getElem?
  intro i
  rw [List.getElem?_map, List.getElem?_map, List.getElem?_set]
  split
  · next hi =>
    subst hi
    split
    · rw [he]; rfl
    · next hn => rw [List.getElem?_eq_none (by omega)]
  · rfl
theorem z_iald (X : Cx p s m meth c args own cc nL rt) (h : St E ws0 s H locs ws) (q0 : Nat) {a n : Nat} {f : Nat → Int32} {z v : Int} (ha : ws[q0]? = some (a, .inl (eI E, n, .inl f))) (h0 : 0 ≤ z) (h1 : z < n) (hn : (n : Int) < 2147483648) (hv : f z.toNat = iv v) (d : decode cc pc = .ok (.iaload, 1))
    (kk : W p l e R s m args below meth c H locs cells slots Q (F0 m (pc + 1) ls (.int (iv v) :: rest))) : W p l e R s m args below meth c H locs cells slots Q (F0 m pc ls (.int (iv z) :: .ref a :: rest)) := by
  refine va_iald X.1 X.2.1 h.2.2.2.2.1.1 h.1 q0 0 ha rfl (iv_in h0 h1 hn) d ?_
  rw [iv_clamp ⟨by omega, by omega⟩, hv]
  exact kk
theorem z_iast (X : Cx p s m meth c args own cc nL rt) (h : St E ws0 s H locs ws) (q0 : Nat) {a n : Nat} {f : Nat → Int32} {z : Int} {v : Int32} (ha : ws[q0]? = some (a, .inl (eI E, n, .inl f))) (h0 : 0 ≤ z) (h1 : z < n) (hn : (n : Int) < 2147483648) (d : decode cc pc = .ok (.iastore, 1))
    (kk : ∀ (H1 : Heap) (locs1 : List Loc), St E ws0 s H1 locs1 (ws.set q0 (a, .inl (eI E, n, .inl (upd f z.toNat v)))) → W p l e R s m args below meth c H1 locs1 cells slots Q (F0 m (pc + 1) ls rest)) : W p l e R s m args below meth c H locs cells slots Q (F0 m pc ls (.int v :: .int (iv z) :: .ref a :: rest)) := by
  refine va_iast X.1 X.2.1 h.2.2.2.2.1.1 h.1 h.dw h.2.1 q0 0 ha rfl (iv_in h0 h1 hn) d (fun H1 locs1 hP hD hS => ?_)
  rw [iv_clamp ⟨by omega, by omega⟩] at hP
  exact kk H1 locs1 ⟨hP, hS, (set_map ha).trans h.2.2.1, h.2.2.2⟩
theorem z_lald (X : Cx p s m meth c args own cc nL rt) (h : St E ws0 s H locs ws) (q0 : Nat) {a n : Nat} {f : Nat → Int64} {z : Int} (ha : ws[q0]? = some (a, .inl (eJ E, n, .inr (.inl f)))) (h0 : 0 ≤ z) (h1 : z < n) (hn : (n : Int) < 2147483648) (d : decode cc pc = .ok (.laload, 1))
    (kk : W p l e R s m args below meth c H locs cells slots Q (F0 m (pc + 1) ls (.long (f z.toNat) :: rest))) : W p l e R s m args below meth c H locs cells slots Q (F0 m pc ls (.int (iv z) :: .ref a :: rest)) := by
  refine va_lald X.1 X.2.1 h.2.2.2.2.1.1 h.1 q0 1 ha rfl (iv_in h0 h1 hn) d ?_
  rw [iv_clamp ⟨by omega, by omega⟩]
  exact kk
theorem z_last (X : Cx p s m meth c args own cc nL rt) (h : St E ws0 s H locs ws) (q0 : Nat) {a n : Nat} {f : Nat → Int64} {z : Int} {v : Int64} (ha : ws[q0]? = some (a, .inl (eJ E, n, .inr (.inl f)))) (h0 : 0 ≤ z) (h1 : z < n) (hn : (n : Int) < 2147483648) (d : decode cc pc = .ok (.lastore, 1))
    (kk : ∀ (H1 : Heap) (locs1 : List Loc), St E ws0 s H1 locs1 (ws.set q0 (a, .inl (eJ E, n, .inr (.inl (vp_updL f z.toNat v))))) → W p l e R s m args below meth c H1 locs1 cells slots Q (F0 m (pc + 1) ls rest)) : W p l e R s m args below meth c H locs cells slots Q (F0 m pc ls (.long v :: .int (iv z) :: .ref a :: rest)) := by
  refine va_last X.1 X.2.1 h.2.2.2.2.1.1 h.1 h.dw h.2.1 q0 1 ha rfl (iv_in h0 h1 hn) d (fun H1 locs1 hP hD hS => ?_)
  rw [iv_clamp ⟨by omega, by omega⟩] at hP
  exact kk H1 locs1 ⟨hP, hS, (set_map ha).trans h.2.2.1, h.2.2.2⟩
end ZL
end
section
/-! ===== calls ===== -/
def Seg (wc ws : va_W) : Prop := ∃ Xs Ys : va_W, ws = Xs ++ (wc ++ Ys)
theorem Seg.rfl' (ws : va_W) : Seg ws ws := ⟨[], [], by simp⟩
theorem Seg.nil (ws : va_W) : Seg [] ws := ⟨[], ws, by simp⟩
theorem Seg.mk' {wc : va_W} (Xs Ys : va_W) : Seg wc (Xs ++ (wc ++ Ys)) := ⟨Xs, Ys, rfl⟩
theorem vaP_mem {D : va_G} {cl : List vw_C} {ws : va_W} {H : Heap} : va_P D cl ws H ↔ ∀ q ∈ ws, va_at D cl q H := by
  constructor
  · intro h q hq
    obtain ⟨k, hk⟩ := List.getElem?_of_mem hq
    exact h k q hk
  · intro h k q hk
    exact h q (List.mem_of_getElem? hk)
theorem vaD_mem {A : Nat → Prop} {ws : va_W} : va_D A ws ↔ (ws.map Prod.fst).Nodup ∧ ∀ q ∈ ws, A q.1 := by
  constructor
  · intro h
    refine ⟨?_, fun q hq => ?_⟩
    · rw [List.nodup_iff_pairwise_ne, List.pairwise_iff_getElem]
      intro i j hi hj hij he
      have hi' : i < ws.length := by simpa using hi
      have hj' : j < ws.length := by simpa using hj
      rw [List.getElem_map, List.getElem_map] at he
      have := h.1 i j _ _ (List.getElem?_eq_getElem hi') (List.getElem?_eq_getElem hj') he
      omega
    · obtain ⟨k, hk⟩ := List.getElem?_of_mem hq
      exact h.2 k q hk
  · intro h
    refine ⟨fun i j p q hi hj hpq => ?_, fun k q hk => h.2 q (List.mem_of_getElem? hk)⟩
    have hn := h.1
    rw [List.nodup_iff_pairwise_ne, List.pairwise_iff_getElem] at hn
    obtain ⟨hli, ei⟩ := List.getElem?_eq_some_iff.mp hi
    obtain ⟨hlj, ej⟩ := List.getElem?_eq_some_iff.mp hj
    rcases Nat.lt_trichotomy i j with h1 | h1 | h1
    · exact absurd (by rw [List.getElem_map, List.getElem_map, ei, ej]; exact hpq) (hn i j (by simpa using hli) (by simpa using hlj) h1)
    · exact h1
    · exact absurd (by rw [List.getElem_map, List.getElem_map, ei, ej]; exact hpq.symm) (hn j i (by simpa using hlj) (by simpa using hli) h1)
theorem Seg.p {D : va_G} {cl : List vw_C} {wc ws : va_W} {H : Heap} (hs : Seg wc ws) (h : va_P D cl ws H) : va_P D cl wc H := by
  obtain ⟨Xs, Ys, rfl⟩ := hs
  rw [vaP_mem] at h ⊢
  exact fun q hq => h q (by simp [hq])
theorem Seg.d {A : Nat → Prop} {wc ws : va_W} (hs : Seg wc ws) (h : va_D A ws) : va_D A wc := by
  obtain ⟨Xs, Ys, rfl⟩ := hs
  rw [vaD_mem] at h ⊢
  refine ⟨?_, fun q hq => h.2 q (by simp [hq])⟩
  have h1 := h.1
  rw [List.map_append, List.map_append, List.nodup_append] at h1
  have h2 := h1.2.1
  rw [List.nodup_append] at h2
  exact h2.1
theorem Seg.inW {wc ws ws0 : va_W} (hs : Seg wc ws) (hm : ws.map Prod.fst = ws0.map Prod.fst) {q : Nat} (h : inW wc q) : inW ws0 q := by
  obtain ⟨Xs, Ys, rfl⟩ := hs
  rw [← inW_same hm, inW_map]
  rw [inW_map] at h
  simp [h]
/-- behind a call: the segment anew, the rest as it was -/
theorem seg_join {A : Nat → Prop} {D : va_G} {cl : List vw_C} {Xs Ys wc w1 : va_W} {H H1 : Heap} (hP : va_P D cl (Xs ++ (wc ++ Ys)) H) (hD : va_D A (Xs ++ (wc ++ Ys))) (hk : ∀ q : Nat, q < H.size → ¬ inW wc q → H1[q]? = H[q]?) (hP1 : va_P D cl w1 H1) : va_P D cl (Xs ++ (w1 ++ Ys)) H1 := by
  rw [vaP_mem] at hP hP1 ⊢
  rw [vaD_mem] at hD
  have hn := hD.1
  rw [List.map_append, List.map_append, List.nodup_append] at hn
  have hn2 := hn.2.1
  rw [List.nodup_append] at hn2
  intro q hq
  rcases List.mem_append.mp hq with h | h
  · have ha := hP q (by simp [h])
    refine ha.kept (hk q.1 ha.lt (fun hw => ?_))
    rw [inW_map] at hw
    exact hn.2.2 q.1 (List.mem_map_of_mem h) q.1 (by simp only [List.mem_append]; exact Or.inl hw) rfl
  · rcases List.mem_append.mp h with h | h
    · exact hP1 q h
    · have ha := hP q (by simp [h])
      refine ha.kept (hk q.1 ha.lt (fun hw => ?_))
      rw [inW_map] at hw
      exact hn2.2.2 q.1 hw q.1 (List.mem_map_of_mem h) rfl
theorem good_V {own : String} {idx : Nat} {y : MethodName} {C : String} {bytes : ByteArray} {maxL : Nat} {ret : Option FieldType} {n : Nat} (mi : MInf y C bytes maxL ret n) (lk : Cond.methodLink own idx y ∈ tb) : GoodIn tb (wsV own idx C y (wz y bytes maxL ret)) := by
  intro w hw
  simp only [wsV, wz, List.mem_append, List.mem_cons, List.not_mem_nil, or_false] at hw
  have h : w ∈ tb := by
    rcases hw with (rfl | rfl | rfl | rfl) | (rfl | h)
    · exact lk
    · exact mi.2.1
    · exact mi.2.2.1
    · exact mi.2.2.2.1
    · exact mi.1
    · exact h
  exact ⟨h, tb_good h⟩
theorem good_S {y : MethodName} {bytes : ByteArray} {maxL : Nat} {ret : Option FieldType} (hc : Cond.code y bytes maxL ret ∈ tb) : GoodIn tb (wz y bytes maxL ret) := by
  intro w hw
  rcases List.mem_cons.mp hw with rfl | h
  · exact ⟨hc, tb_good hc⟩
  · exact ⟨h, tb_good h⟩
section ZC
variable {p : Program} {l : Launch} {e : Env} {R : Room} {s : State} {m : MethodId} {args : Array Value} {below : List Frame} {meth : Method} {c : Code} {H : Heap} {locs : List Loc} {cells slots : Nat} {Q : State → Prop}
variable {own : String} {cc : ByteArray} {nL : Nat} {rt : Option FieldType} {pc : Nat} {ls : Array Slot} {rest st : List Value} {E : EV} {ws0 ws : va_W}
variable {y : MethodName} {C : String} {bytes : ByteArray} {maxL n idx : Nat} {ret : Option FieldType} {rm : Room} {wc : va_W} {b : Nat} {As : List Value}
theorem pre_S (h : St E ws0 s H locs ws) (sg : Seg wc ws) {av : List Value} : ∀ U : State, U.heap = H → s.WarmedH U.vm → Pre E wc av av.toArray U := fun U hU hW => ⟨rfl, by rw [hU]; exact sg.p h.1, sg.d h.d, KK.warm hW h.2.2.2.2.1, by rw [hU]; exact HH.moved hW.alike h.hh⟩
theorem run_V (X : Cx p s m meth c args own cc nL rt) (h : St E ws0 s H locs ws) {Qc : Array Value → State → Outcome → State → Prop} {free : Addr → Prop} (hM : Met l y (wz y bytes maxL ret) rm (Pre E wc (.ref b :: As)) Qc 0 0 free) (mi : MInf y C bytes maxL ret n) (lk : Cond.methodLink own idx y ∈ tb) (hR : rm.frames + 1 ≤ R.frames ∧ 8 + (maxL + 11) + rm.locals ≤ R.locals) (hrm : rm.cells = 0 ∧ rm.slots = 0) (sg : Seg wc ws)
    (ci q0 : Nat) {q : vw_C} {fs : List Value} (hq : classes[ci]? = some q) (hqC : q.1 = C) (he : ws[q0]? = some (b, .inr (ci, fs))) (hn : As.length = n) (hl : ls.size = nL) (hst : st = As.reverse ++ .ref b :: rest) (hW : (rest.map fun v => v.category).sum ≤ 8) (hc : cells ≤ R.cells ∧ slots ≤ R.slots) (d : decode cc pc = .ok (.invokevirtual idx, 3)) :
    va_Run p l e R s m args below meth c H locs cells slots 0 0 (F0 m pc ls st) rest (Qc (Value.ref b :: As).toArray) free := by
  subst hqC
  exact va_runV (Ts := tb) (As := As) (rest := rest) ⟨X.1, X.2.1, X.2.2.1, X.2.2.2.1, X.2.2.2.2.1⟩ hM (cwV n X.2.2.2.2.1 (good_V mi lk) rfl hrm.1 hrm.2 mi.2.2.2.2 hR) ⟨Pre.blind E wc _, va_recv h.2.2.2.2.1.1 h.1 hq he, pre_S h sg⟩ rfl hn hl hst (lv_room (ls := ls) hW) d hc
theorem run_S (X : Cx p s m meth c args own cc nL rt) (h : St E ws0 s H locs ws) {Qc : Array Value → State → Outcome → State → Prop} {free : Addr → Prop} (hM : Met l y (wz y bytes maxL ret) rm (Pre E wc As) Qc 0 0 free) (mi : MInfS y bytes maxL ret n) (lk : Cond.methodLink own idx y ∈ tb) (hR : rm.frames + 1 ≤ R.frames ∧ 8 + (maxL + 11) + rm.locals ≤ R.locals) (hrm : rm.cells = 0 ∧ rm.slots = 0) (sg : Seg wc ws)
    (hn : As.length = n) (hl : ls.size = nL) (hst : st = As.reverse ++ rest) (hW : (rest.map fun v => v.category).sum ≤ 8) (hc : cells ≤ R.cells ∧ slots ≤ R.slots) (d : decode cc pc = .ok (.invokestatic idx, 3)) :
    va_Run p l e R s m args below meth c H locs cells slots 0 0 (F0 m pc ls st) rest (Qc As.toArray) free :=
  va_runS (Ts := tb) (As := As) (rest := rest) ⟨X.1, X.2.1, X.2.2.1, X.2.2.2.1, X.2.2.2.2.1⟩ hM ⟨callB_of n X.2.2.2.2.1 (good_S mi.1) rfl hrm.1 hrm.2 (X.2.2.2.2.1 _ mi.2.2.1) (X.2.2.2.2.1 _ lk) mi.2.2.2 hR, X.2.2.2.2.1 _ mi.2.1⟩ ⟨Pre.blind E wc _, pre_S h sg⟩ rfl hn hl hst (lv_room (ls := ls) hW) d hc
theorem run_N (X : Cx p s m meth c args own cc nL rt) (h : St E ws0 s H locs ws) {Qc : Array Value → State → Outcome → State → Prop} {free : Addr → Prop} (hM : Met l y (wz y bytes maxL ret) rm (Pre E wc As) Qc 0 0 free) (mi : MInfS y bytes maxL ret n) {host : String} (lk : va_Nw (.methodLinkNest own idx y host) s) (hR : rm.frames + 1 ≤ R.frames ∧ 8 + (maxL + 11) + rm.locals ≤ R.locals) (hrm : rm.cells = 0 ∧ rm.slots = 0) (sg : Seg wc ws)
    (hn : As.length = n) (hl : ls.size = nL) (hst : st = As.reverse ++ rest) (hW : (rest.map fun v => v.category).sum ≤ 8) (hc : cells ≤ R.cells ∧ slots ≤ R.slots) (d : decode cc pc = .ok (.invokestatic idx, 3)) :
    va_Run p l e R s m args below meth c H locs cells slots 0 0 (F0 m pc ls st) rest (Qc As.toArray) free :=
  va_runSN (Ts := tb) (As := As) (rest := rest) ⟨X.1, X.2.1, X.2.2.1, X.2.2.2.1, X.2.2.2.2.1⟩ hM ⟨va_cnB n X.2.2.2.2.1 (good_S mi.1) rfl hrm.1 hrm.2 lk (X.2.2.2.2.1 _ mi.2.2.1) mi.2.2.2 hR, X.2.2.2.2.1 _ mi.2.1, trivial⟩ ⟨Pre.blind E wc _, pre_S h sg⟩ rfl hn hl hst (lv_room (ls := ls) hW) d hc
/-! reading calls -/
theorem z_pi {a : Array Value} {z : Int} (hr : va_Run p l e R s m args below meth c H locs cells slots 0 0 (F0 m pc ls st) rest (vp_Si (fun r => r = iv z) a) (fun _ => False)) (kk : W p l e R s m args below meth c H locs cells slots Q (F0 m (pc + 3) ls (.int (iv z) :: rest))) : W p l e R s m args below meth c H locs cells slots Q (F0 m pc ls st) :=
  vp_callSi hr.run (fun r h => by subst h; exact kk)
theorem z_pl {a : Array Value} {x : Int64} (hr : va_Run p l e R s m args below meth c H locs cells slots 0 0 (F0 m pc ls st) rest (vp_Sl (fun r => r = x) a) (fun _ => False)) (kk : W p l e R s m args below meth c H locs cells slots Q (F0 m (pc + 3) ls (.long x :: rest))) : W p l e R s m args below meth c H locs cells slots Q (F0 m pc ls st) :=
  vp_callSl hr.run (fun r h => by subst h; exact kk)
theorem z_pq {a : Array Value} {x : Option Nat} (hr : va_Run p l e R s m args below meth c H locs cells slots 0 0 (F0 m pc ls st) rest (va_Sq (fun r => r = x) a) (fun _ => False)) (kk : W p l e R s m args below meth c H locs cells slots Q (F0 m (pc + 3) ls (va_rf x :: rest))) : W p l e R s m args below meth c H locs cells slots Q (F0 m pc ls st) :=
  va_csq hr.run (fun r h => by subst h; exact kk)
/-! writing calls, on a segment -/
theorem st_seg {Xs Ys w1 : va_W} {H1 : Heap} {locs1 : List Loc} (h : St E ws0 s H locs (Xs ++ (wc ++ Ys))) (hm : w1.map Prod.fst = wc.map Prod.fst) (hP1 : va_P (eD E) classes w1 H1) (hk : ∀ q : Nat, q < H.size → ¬ inW wc q → H1[q]? = H[q]?) (hS : va_S (inW ws0) s.heap H1 locs1) : St E ws0 s H1 locs1 (Xs ++ (w1 ++ Ys)) :=
  ⟨seg_join h.1 h.d hk hP1, hS, by rw [← h.2.2.1, List.map_append, List.map_append, List.map_append, List.map_append, hm], h.2.2.2⟩
theorem z_wi {S : Type} {post : Int32 → S → Prop} {wc' : S → va_W} {a : Array Value} {Xs Ys : va_W} (h : St E ws0 s H locs (Xs ++ (wc ++ Ys))) (hm : ∀ u, (wc' u).map Prod.fst = wc.map Prod.fst) (hr : va_Run p l e R s m args below meth c H locs cells slots 0 0 (F0 m pc ls st) rest (va_Qi post (fun u t => va_P (eD E) classes (wc' u) t.heap) (inW wc) a) (inW wc))
    (kk : ∀ (r : Int32) (u : S) (H1 : Heap) (locs1 : List Loc), post r u → St E ws0 s H1 locs1 (Xs ++ (wc' u ++ Ys)) → W p l e R s m args below meth c H1 locs1 cells slots Q (F0 m (pc + 3) ls (.int r :: rest))) : W p l e R s m args below meth c H locs cells slots Q (F0 m pc ls st) :=
  va_calli hr h.2.1 (fun _ _ z => (Seg.mk' Xs Ys).inW h.2.2.1 z) (fun _ z => (Seg.mk' Xs Ys).inW h.2.2.1 z) (fun r u t H1 locs1 ht _ hp hB _ hk hS => kk r u H1 locs1 hp (st_seg h (hm u) (by rw [← ht]; exact hB) hk hS))
theorem z_wl {S : Type} {post : Int64 → S → Prop} {wc' : S → va_W} {a : Array Value} {Xs Ys : va_W} (h : St E ws0 s H locs (Xs ++ (wc ++ Ys))) (hm : ∀ u, (wc' u).map Prod.fst = wc.map Prod.fst) (hr : va_Run p l e R s m args below meth c H locs cells slots 0 0 (F0 m pc ls st) rest (va_Ql post (fun u t => va_P (eD E) classes (wc' u) t.heap) (inW wc) a) (inW wc))
    (kk : ∀ (r : Int64) (u : S) (H1 : Heap) (locs1 : List Loc), post r u → St E ws0 s H1 locs1 (Xs ++ (wc' u ++ Ys)) → W p l e R s m args below meth c H1 locs1 cells slots Q (F0 m (pc + 3) ls (.long r :: rest))) : W p l e R s m args below meth c H locs cells slots Q (F0 m pc ls st) :=
  va_calll hr h.2.1 (fun _ _ z => (Seg.mk' Xs Ys).inW h.2.2.1 z) (fun _ z => (Seg.mk' Xs Ys).inW h.2.2.1 z) (fun r u t H1 locs1 ht _ hp hB _ hk hS => kk r u H1 locs1 hp (st_seg h (hm u) (by rw [← ht]; exact hB) hk hS))
theorem z_wv {S : Type} {post : S → Prop} {wc' : S → va_W} {a : Array Value} {Xs Ys : va_W} (h : St E ws0 s H locs (Xs ++ (wc ++ Ys))) (hm : ∀ u, (wc' u).map Prod.fst = wc.map Prod.fst) (hr : va_Run p l e R s m args below meth c H locs cells slots 0 0 (F0 m pc ls st) rest (va_Qv post (fun u t => va_P (eD E) classes (wc' u) t.heap) (inW wc) a) (inW wc))
    (kk : ∀ (u : S) (H1 : Heap) (locs1 : List Loc), post u → St E ws0 s H1 locs1 (Xs ++ (wc' u ++ Ys)) → W p l e R s m args below meth c H1 locs1 cells slots Q (F0 m (pc + 3) ls rest)) : W p l e R s m args below meth c H locs cells slots Q (F0 m pc ls st) :=
  va_callv hr h.2.1 (fun _ _ z => (Seg.mk' Xs Ys).inW h.2.2.1 z) (fun _ z => (Seg.mk' Xs Ys).inW h.2.2.1 z) (fun u t H1 locs1 ht _ hp hB _ hk hS => kk u H1 locs1 hp (st_seg h (hm u) (by rw [← ht]; exact hB) hk hS))
/-! writing calls, on the whole world -/
theorem seg_all (w : va_W) : [] ++ (w ++ []) = w := by simp
theorem z_ai {S : Type} {post : Int32 → S → Prop} {wc' : S → va_W} {a : Array Value} (h : St E ws0 s H locs wc) (hm : ∀ u, (wc' u).map Prod.fst = wc.map Prod.fst) (hr : va_Run p l e R s m args below meth c H locs cells slots 0 0 (F0 m pc ls st) rest (va_Qi post (fun u t => va_P (eD E) classes (wc' u) t.heap) (inW wc) a) (inW wc))
    (kk : ∀ (r : Int32) (u : S) (H1 : Heap) (locs1 : List Loc), post r u → St E ws0 s H1 locs1 (wc' u) → W p l e R s m args below meth c H1 locs1 cells slots Q (F0 m (pc + 3) ls (.int r :: rest))) : W p l e R s m args below meth c H locs cells slots Q (F0 m pc ls st) :=
  z_wi (Xs := []) (Ys := []) (by rw [seg_all]; exact h) hm hr (fun r u H1 locs1 hp h1 => kk r u H1 locs1 hp (by rw [seg_all] at h1; exact h1))
theorem z_al {S : Type} {post : Int64 → S → Prop} {wc' : S → va_W} {a : Array Value} (h : St E ws0 s H locs wc) (hm : ∀ u, (wc' u).map Prod.fst = wc.map Prod.fst) (hr : va_Run p l e R s m args below meth c H locs cells slots 0 0 (F0 m pc ls st) rest (va_Ql post (fun u t => va_P (eD E) classes (wc' u) t.heap) (inW wc) a) (inW wc))
    (kk : ∀ (r : Int64) (u : S) (H1 : Heap) (locs1 : List Loc), post r u → St E ws0 s H1 locs1 (wc' u) → W p l e R s m args below meth c H1 locs1 cells slots Q (F0 m (pc + 3) ls (.long r :: rest))) : W p l e R s m args below meth c H locs cells slots Q (F0 m pc ls st) :=
  z_wl (Xs := []) (Ys := []) (by rw [seg_all]; exact h) hm hr (fun r u H1 locs1 hp h1 => kk r u H1 locs1 hp (by rw [seg_all] at h1; exact h1))
theorem z_av {S : Type} {post : S → Prop} {wc' : S → va_W} {a : Array Value} (h : St E ws0 s H locs wc) (hm : ∀ u, (wc' u).map Prod.fst = wc.map Prod.fst) (hr : va_Run p l e R s m args below meth c H locs cells slots 0 0 (F0 m pc ls st) rest (va_Qv post (fun u t => va_P (eD E) classes (wc' u) t.heap) (inW wc) a) (inW wc))
    (kk : ∀ (u : S) (H1 : Heap) (locs1 : List Loc), post u → St E ws0 s H1 locs1 (wc' u) → W p l e R s m args below meth c H1 locs1 cells slots Q (F0 m (pc + 3) ls rest)) : W p l e R s m args below meth c H locs cells slots Q (F0 m pc ls st) :=
  z_wv (Xs := []) (Ys := []) (by rw [seg_all]; exact h) hm hr (fun u H1 locs1 hp h1 => kk u H1 locs1 hp (by rw [seg_all] at h1; exact h1))
end ZC
end
section
theorem mi_J7_fill_53178 : MInfS yJ7_fill_53178 cJ7_fill_53178 4 none 2 := ⟨co_J7_fill_53178, st_J7_fill_53178, in_J7, by decide +kernel⟩
theorem mi_X4_sun : MInf yX4_sun RX4 cX4_sun 4 (some FieldType.int) 2 := ⟨co_X4_sun, im_X4_sun, se_X4_sun, in_X4, by decide +kernel⟩
theorem mi_X4_within : MInfS yX4_within cX4_within 3 (some FieldType.boolean) 3 := ⟨co_X4_within, st_X4_within, in_X4, by decide +kernel⟩
theorem mi_X4_finding : MInf yX4_finding RX4 cX4_finding 3 (some FieldType.int) 1 := ⟨co_X4_finding, im_X4_finding, se_X4_finding, in_X4, by decide +kernel⟩
theorem mi_X4_chair : MInf yX4_chair RX4 cX4_chair 2 (some FieldType.int) 1 := ⟨co_X4_chair, im_X4_chair, se_X4_chair, in_X4, by decide +kernel⟩
theorem mi_X4_now : MInf yX4_now RX4 cX4_now 2 (some FieldType.int) 1 := ⟨co_X4_now, im_X4_now, se_X4_now, in_X4, by decide +kernel⟩
theorem mi_X1_place : MInf yX1_place RX1 cX1_place 1 (some FieldType.int) 0 := ⟨co_X1_place, im_X1_place, se_X1_place, in_X1, by decide +kernel⟩
theorem mi_X1_sunNow : MInf yX1_sunNow RX1 cX1_sunNow 1 (some FieldType.int) 0 := ⟨co_X1_sunNow, im_X1_sunNow, se_X1_sunNow, in_X1, by decide +kernel⟩
theorem mi_X1_setOfSitters : MInf yX1_setOfSitters RX1 cX1_setOfSitters 3 (some FieldType.int) 0 := ⟨co_X1_setOfSitters, im_X1_setOfSitters, se_X1_setOfSitters, in_X1, by decide +kernel⟩
theorem mi_X1_sits : MInf yX1_sits RX1 cX1_sits 2 (some FieldType.boolean) 1 := ⟨co_X1_sits, im_X1_sits, se_X1_sits, in_X1, by decide +kernel⟩
theorem mi_X1_setOfEven : MInf yX1_setOfEven RX1 cX1_setOfEven 3 (some FieldType.int) 0 := ⟨co_X1_setOfEven, im_X1_setOfEven, se_X1_setOfEven, in_X1, by decide +kernel⟩
theorem mi_X1_isEven : MInf yX1_isEven RX1 cX1_isEven 2 (some FieldType.boolean) 1 := ⟨co_X1_isEven, im_X1_isEven, se_X1_isEven, in_X1, by decide +kernel⟩
theorem mi_X1_brownOfAll : MInf yX1_brownOfAll RX1 cX1_brownOfAll 3 (some FieldType.int) 0 := ⟨co_X1_brownOfAll, im_X1_brownOfAll, se_X1_brownOfAll, in_X1, by decide +kernel⟩
theorem mi_X1_brownOf : MInf yX1_brownOf RX1 cX1_brownOf 2 (some FieldType.int) 1 := ⟨co_X1_brownOf, im_X1_brownOf, se_X1_brownOf, in_X1, by decide +kernel⟩
theorem mi_X1_burntOfAll : MInf yX1_burntOfAll RX1 cX1_burntOfAll 3 (some FieldType.int) 0 := ⟨co_X1_burntOfAll, im_X1_burntOfAll, se_X1_burntOfAll, in_X1, by decide +kernel⟩
theorem mi_X4_person : MInf yX4_person RX4 cX4_person 2 (some FieldType.int) 1 := ⟨co_X4_person, im_X4_person, se_X4_person, in_X4, by decide +kernel⟩
theorem mi_X4_isKind : MInfS yX4_isKind cX4_isKind 1 (some FieldType.boolean) 1 := ⟨co_X4_isKind, st_X4_isKind, in_X4, by decide +kernel⟩
theorem mi_X1_add : MInf yX1_add RX1 cX1_add 4 (some FieldType.int) 2 := ⟨co_X1_add, im_X1_add, se_X1_add, in_X1, by decide +kernel⟩
theorem mi_X4_of : MInf yX4_of RX4 cX4_of 3 (some FieldType.int) 2 := ⟨co_X4_of, im_X4_of, se_X4_of, in_X4, by decide +kernel⟩
theorem mi_X4_isPerson : MInf yX4_isPerson RX4 cX4_isPerson 2 (some FieldType.boolean) 1 := ⟨co_X4_isPerson, im_X4_isPerson, se_X4_isPerson, in_X4, by decide +kernel⟩
theorem mi_X1_fadesOf : MInf yX1_fadesOf RX1 cX1_fadesOf 3 (some FieldType.int) 1 := ⟨co_X1_fadesOf, im_X1_fadesOf, se_X1_fadesOf, in_X1, by decide +kernel⟩
theorem mi_X1_neighbour : MInf yX1_neighbour RX1 cX1_neighbour 4 (some FieldType.int) 2 := ⟨co_X1_neighbour, im_X1_neighbour, se_X1_neighbour, in_X1, by decide +kernel⟩
theorem mi_X3_fades : MInfS yX3_fades cX3_fades 3 (some FieldType.int) 3 := ⟨co_X3_fades, st_X3_fades, in_X3, by decide +kernel⟩
theorem mi_X3_burnsFrom : MInfS yX3_burnsFrom cX3_burnsFrom 1 (some FieldType.int) 1 := ⟨co_X3_burnsFrom, st_X3_burnsFrom, in_X3, by decide +kernel⟩
theorem mi_X4_set : MInf yX4_set RX4 cX4_set 6 (some FieldType.int) 3 := ⟨co_X4_set, im_X4_set, se_X4_set, in_X4, by decide +kernel⟩
theorem mi_X4_turn : MInf yX4_turn RX4 cX4_turn 4 (some FieldType.int) 2 := ⟨co_X4_turn, im_X4_turn, se_X4_turn, in_X4, by decide +kernel⟩
theorem mi_X4_as : MInf yX4_as RX4 cX4_as 3 (some FieldType.int) 2 := ⟨co_X4_as, im_X4_as, se_X4_as, in_X4, by decide +kernel⟩
theorem mi_X3_isOrIsUnder : MInfS yX3_isOrIsUnder cX3_isOrIsUnder 4 (some FieldType.boolean) 2 := ⟨co_X3_isOrIsUnder, st_X3_isOrIsUnder, in_X3, by decide +kernel⟩
theorem mi_X4_sit : MInf yX4_sit RX4 cX4_sit 4 (some FieldType.int) 2 := ⟨co_X4_sit, im_X4_sit, se_X4_sit, in_X4, by decide +kernel⟩
theorem mi_X1_isFreeFor : MInf yX1_isFreeFor RX1 cX1_isFreeFor 3 (some FieldType.boolean) 2 := ⟨co_X1_isFreeFor, im_X1_isFreeFor, se_X1_isFreeFor, in_X1, by decide +kernel⟩
theorem mi_X1_seat : MInf yX1_seat RX1 cX1_seat 3 none 2 := ⟨co_X1_seat, im_X1_seat, se_X1_seat, in_X1, by decide +kernel⟩
theorem mi_X4_given : MInf yX4_given RX4 cX4_given 3 (some FieldType.int) 2 := ⟨co_X4_given, im_X4_given, se_X4_given, in_X4, by decide +kernel⟩
theorem mi_X1_givenLeft : MInf yX1_givenLeft RX1 cX1_givenLeft 3 (some FieldType.int) 1 := ⟨co_X1_givenLeft, im_X1_givenLeft, se_X1_givenLeft, in_X1, by decide +kernel⟩
theorem mi_X3_glows : MInfS yX3_glows cX3_glows 5 (some FieldType.int) 4 := ⟨co_X3_glows, st_X3_glows, in_X3, by decide +kernel⟩
theorem mi_X1_givenRight : MInf yX1_givenRight RX1 cX1_givenRight 3 (some FieldType.int) 1 := ⟨co_X1_givenRight, im_X1_givenRight, se_X1_givenRight, in_X1, by decide +kernel⟩
theorem mi_X4_hours : MInf yX4_hours RX4 cX4_hours 2 (some FieldType.int) 1 := ⟨co_X4_hours, im_X4_hours, se_X4_hours, in_X4, by decide +kernel⟩
theorem mi_X1_goOn : MInf yX1_goOn RX1 cX1_goOn 3 none 1 := ⟨co_X1_goOn, im_X1_goOn, se_X1_goOn, in_X1, by decide +kernel⟩
theorem mi_X1_passHour : MInf yX1_passHour RX1 cX1_passHour 3 none 0 := ⟨co_X1_passHour, im_X1_passHour, se_X1_passHour, in_X1, by decide +kernel⟩
theorem mi_X1_browned : MInf yX1_browned RX1 cX1_browned 6 (some FieldType.int) 4 := ⟨co_X1_browned, im_X1_browned, se_X1_browned, in_X1, by decide +kernel⟩
theorem mi_X3_takes : MInfS yX3_takes cX3_takes 2 (some FieldType.int) 2 := ⟨co_X3_takes, st_X3_takes, in_X3, by decide +kernel⟩
theorem mi_X1_burn : MInf yX1_burn RX1 cX1_burn 3 none 2 := ⟨co_X1_burn, im_X1_burn, se_X1_burn, in_X1, by decide +kernel⟩
theorem mi_X4_on : MInf yX4_on RX4 cX4_on 5 (some FieldType.int) 3 := ⟨co_X4_on, im_X4_on, se_X4_on, in_X4, by decide +kernel⟩
theorem mi_X4_startTrial : MInf yX4_startTrial RX4 cX4_startTrial 1 none 0 := ⟨co_X4_startTrial, im_X4_startTrial, se_X4_startTrial, in_X4, by decide +kernel⟩
theorem mi_X1_become : MInf yX1_become RX1 cX1_become 2 none 1 := ⟨co_X1_become, im_X1_become, se_X1_become, in_X1, by decide +kernel⟩
theorem mi_X4_brown : MInf yX4_brown RX4 cX4_brown 4 (some FieldType.int) 2 := ⟨co_X4_brown, im_X4_brown, se_X4_brown, in_X4, by decide +kernel⟩
theorem mi_X4_burns : MInf yX4_burns RX4 cX4_burns 3 (some FieldType.int) 1 := ⟨co_X4_burns, im_X4_burns, se_X4_burns, in_X4, by decide +kernel⟩
theorem mi_X4_even : MInf yX4_even RX4 cX4_even 3 (some FieldType.int) 1 := ⟨co_X4_even, im_X4_even, se_X4_even, in_X4, by decide +kernel⟩
theorem mi_X4_where : MInf yX4_where RX4 cX4_where 6 (some FieldType.int) 2 := ⟨co_X4_where, im_X4_where, se_X4_where, in_X4, by decide +kernel⟩
theorem mi_X4_change : MInf yX4_change RX4 cX4_change 7 (some FieldType.int) 2 := ⟨co_X4_change, im_X4_change, se_X4_change, in_X4, by decide +kernel⟩
theorem mi_X1_swap : MInf yX1_swap RX1 cX1_swap 5 none 2 := ⟨co_X1_swap, im_X1_swap, se_X1_swap, in_X1, by decide +kernel⟩
theorem mi_X4_kind : MInf yX4_kind RX4 cX4_kind 6 (some FieldType.int) 2 := ⟨co_X4_kind, im_X4_kind, se_X4_kind, in_X4, by decide +kernel⟩
theorem mi_X4_send : MInf yX4_send RX4 cX4_send 6 (some FieldType.int) 1 := ⟨co_X4_send, im_X4_send, se_X4_send, in_X4, by decide +kernel⟩
theorem mi_X4_cloud : MInf yX4_cloud RX4 cX4_cloud 6 (some FieldType.int) 1 := ⟨co_X4_cloud, im_X4_cloud, se_X4_cloud, in_X4, by decide +kernel⟩
theorem mi_X4_enough : MInf yX4_enough RX4 cX4_enough 9 (some FieldType.int) 4 := ⟨co_X4_enough, im_X4_enough, se_X4_enough, in_X4, by decide +kernel⟩
theorem mi_X4_brownWith : MInf yX4_brownWith RX4 cX4_brownWith 5 (some FieldType.int) 4 := ⟨co_X4_brownWith, im_X4_brownWith, se_X4_brownWith, in_X4, by decide +kernel⟩
theorem mi_X4_brownest : MInf yX4_brownest RX4 cX4_brownest 5 (some FieldType.int) 1 := ⟨co_X4_brownest, im_X4_brownest, se_X4_brownest, in_X4, by decide +kernel⟩
theorem mi_X4_feed : MInf yX4_feed RX4 cX4_feed 4 (some FieldType.int) 2 := ⟨co_X4_feed, im_X4_feed, se_X4_feed, in_X4, by decide +kernel⟩
theorem mi_X2_append : MInf yX2_append RX2 cX2_append 2 none 1 := ⟨co_X2_append, im_X2_append, se_X2_append, in_X2, by decide +kernel⟩
theorem mi_X4_wipe : MInf yX4_wipe RX4 cX4_wipe 2 (some FieldType.int) 0 := ⟨co_X4_wipe, im_X4_wipe, se_X4_wipe, in_X4, by decide +kernel⟩
theorem mi_X4_esplanade : MInf yX4_esplanade RX4 cX4_esplanade 2 (some FieldType.int) 0 := ⟨co_X4_esplanade, im_X4_esplanade, se_X4_esplanade, in_X4, by decide +kernel⟩
theorem mi_X2_readAll : MInf yX2_readAll RX2 cX2_readAll 3 (some FieldType.int) 1 := ⟨co_X2_readAll, im_X2_readAll, se_X2_readAll, in_X2, by decide +kernel⟩
theorem mi_X2_advance : MInf yX2_advance RX2 cX2_advance 1 none 0 := ⟨co_X2_advance, im_X2_advance, se_X2_advance, in_X2, by decide +kernel⟩
theorem mi_X2_isLetter : MInfS yX2_isLetter cX2_isLetter 1 (some FieldType.boolean) 1 := ⟨co_X2_isLetter, st_X2_isLetter, in_X2, by decide +kernel⟩
theorem mi_X2_passWord : MInf yX2_passWord RX2 cX2_passWord 1 none 0 := ⟨co_X2_passWord, im_X2_passWord, se_X2_passWord, in_X2, by decide +kernel⟩
theorem mi_X2_isDigit : MInfS yX2_isDigit cX2_isDigit 1 (some FieldType.boolean) 1 := ⟨co_X2_isDigit, st_X2_isDigit, in_X2, by decide +kernel⟩
theorem mi_X2_passNumber : MInf yX2_passNumber RX2 cX2_passNumber 1 none 0 := ⟨co_X2_passNumber, im_X2_passNumber, se_X2_passNumber, in_X2, by decide +kernel⟩
theorem mi_X2_readItem : MInf yX2_readItem RX2 cX2_readItem 3 (some FieldType.boolean) 1 := ⟨co_X2_readItem, im_X2_readItem, se_X2_readItem, in_X2, by decide +kernel⟩
theorem mi_X2_isWord : MInf yX2_isWord RX2 cX2_isWord 3 (some FieldType.boolean) 1 := ⟨co_X2_isWord, im_X2_isWord, se_X2_isWord, in_X2, by decide +kernel⟩
theorem mi_J0_length_8abf5 : MInf yJ0_length_8abf5 RJ0 cJ0_length_8abf5 1 (some FieldType.int) 0 := ⟨co_J0_length_8abf5, im_J0_length_8abf5, se_J0_length_8abf5, in_J0, by decide +kernel⟩
theorem mi_J0_coder_7d493 : MInf yJ0_coder_7d493 RJ0 cJ0_coder_7d493 1 (some FieldType.byte) 0 := ⟨co_J0_coder_7d493, im_J0_coder_7d493, se_J0_coder_7d493, in_J0, by decide +kernel⟩
theorem mi_J0_charAt_5068e : MInf yJ0_charAt_5068e RJ0 cJ0_charAt_5068e 2 (some FieldType.char) 1 := ⟨co_J0_charAt_5068e, im_J0_charAt_5068e, se_J0_charAt_5068e, in_J0, by decide +kernel⟩
theorem mi_J0_isLatin1_aae02 : MInf yJ0_isLatin1_aae02 RJ0 cJ0_isLatin1_aae02 1 (some FieldType.boolean) 0 := ⟨co_J0_isLatin1_aae02, im_J0_isLatin1_aae02, se_J0_isLatin1_aae02, in_J0, by decide +kernel⟩
theorem mi_J1_charAt_3b067 : MInfS yJ1_charAt_3b067 cJ1_charAt_3b067 2 (some FieldType.char) 2 := ⟨co_J1_charAt_3b067, st_J1_charAt_3b067, in_J1, by decide +kernel⟩
theorem mi_J0_checkIndex_df160 : MInfS yJ0_checkIndex_df160 cJ0_checkIndex_df160 2 none 2 := ⟨co_J0_checkIndex_df160, st_J0_checkIndex_df160, in_J0, by decide +kernel⟩
theorem mi_J3_checkIndex_8e157 : MInfS yJ3_checkIndex_8e157 cJ3_checkIndex_8e157 3 (some FieldType.int) 3 := ⟨co_J3_checkIndex_8e157, st_J3_checkIndex_8e157, in_J3, by decide +kernel⟩
theorem mi_J2_charAt_3b067 : MInfS yJ2_charAt_3b067 cJ2_charAt_3b067 2 (some FieldType.char) 2 := ⟨co_J2_charAt_3b067, st_J2_charAt_3b067, in_J2, by decide +kernel⟩
theorem mi_J2_checkIndex_2214a : MInfS yJ2_checkIndex_2214a cJ2_checkIndex_2214a 2 none 2 := ⟨co_J2_checkIndex_2214a, st_J2_checkIndex_2214a, in_J2, by decide +kernel⟩
theorem mi_J2_length_9d52b : MInfS yJ2_length_9d52b cJ2_length_9d52b 1 (some FieldType.int) 1 := ⟨co_J2_length_9d52b, st_J2_length_9d52b, in_J2, by decide +kernel⟩
theorem mi_J2_getChar_3b067 : MInfS yJ2_getChar_3b067 cJ2_getChar_3b067 2 (some FieldType.char) 2 := ⟨co_J2_getChar_3b067, st_J2_getChar_3b067, in_J2, by decide +kernel⟩
theorem mi_X2_readSun : MInf yX2_readSun RX2 cX2_readSun 3 (some FieldType.boolean) 1 := ⟨co_X2_readSun, im_X2_readSun, se_X2_readSun, in_X2, by decide +kernel⟩
theorem mi_X2_isNumberTo : MInf yX2_isNumberTo RX2 cX2_isNumberTo 2 (some FieldType.boolean) 1 := ⟨co_X2_isNumberTo, im_X2_isNumberTo, se_X2_isNumberTo, in_X2, by decide +kernel⟩
theorem mi_X2_readGoes : MInf yX2_readGoes RX2 cX2_readGoes 2 (some FieldType.boolean) 1 := ⟨co_X2_readGoes, im_X2_readGoes, se_X2_readGoes, in_X2, by decide +kernel⟩
theorem mi_X2_kindNamed : MInf yX2_kindNamed RX2 cX2_kindNamed 2 (some FieldType.int) 0 := ⟨co_X2_kindNamed, im_X2_kindNamed, se_X2_kindNamed, in_X2, by decide +kernel⟩
theorem mi_X2_nameOf : MInfS yX2_nameOf cX2_nameOf 1 (some (FieldType.object "java/lang/String")) 1 := ⟨co_X2_nameOf, st_X2_nameOf, in_X2, by decide +kernel⟩
theorem mi_X2_readPerson : MInf yX2_readPerson RX2 cX2_readPerson 5 (some FieldType.boolean) 2 := ⟨co_X2_readPerson, im_X2_readPerson, se_X2_readPerson, in_X2, by decide +kernel⟩
theorem mi_X4_sheet : MInf yX4_sheet RX4 cX4_sheet 5 (some FieldType.int) 3 := ⟨co_X4_sheet, im_X4_sheet, se_X4_sheet, in_X4, by decide +kernel⟩
theorem mi_X4_sheetAt : MInf yX4_sheetAt RX4 cX4_sheetAt 2 (some (FieldType.object "TanRow$Sheet")) 1 := ⟨co_X4_sheetAt, im_X4_sheetAt, se_X4_sheetAt, in_X4, by decide +kernel⟩
theorem mi_X0_begin : MInf yX0_begin RX0 cX0_begin 3 none 2 := ⟨co_X0_begin, im_X0_begin, se_X0_begin, in_X0, by decide +kernel⟩
theorem mi_J7_fill_d0a16 : MInfS yJ7_fill_d0a16 cJ7_fill_d0a16 5 none 2 := ⟨co_J7_fill_d0a16, st_J7_fill_d0a16, in_J7, by decide +kernel⟩
theorem mi_X4_write : MInf yX4_write RX4 cX4_write 8 (some FieldType.long) 3 := ⟨co_X4_write, im_X4_write, se_X4_write, in_X4, by decide +kernel⟩
theorem mi_X0_isMissing : MInf yX0_isMissing RX0 cX0_isMissing 1 (some FieldType.boolean) 0 := ⟨co_X0_isMissing, im_X0_isMissing, se_X0_isMissing, in_X0, by decide +kernel⟩
theorem mi_X0_put : MInf yX0_put RX0 cX0_put 4 none 2 := ⟨co_X0_put, im_X0_put, se_X0_put, in_X0, by decide +kernel⟩
theorem mi_X4_copy : MInf yX4_copy RX4 cX4_copy 8 (some FieldType.int) 5 := ⟨co_X4_copy, im_X4_copy, se_X4_copy, in_X4, by decide +kernel⟩
theorem mi_X0_has : MInf yX0_has RX0 cX0_has 3 (some FieldType.boolean) 2 := ⟨co_X0_has, im_X0_has, se_X0_has, in_X0, by decide +kernel⟩
theorem mi_X4_lays : MInf yX4_lays RX4 cX4_lays 7 (some FieldType.int) 1 := ⟨co_X4_lays, im_X4_lays, se_X4_lays, in_X4, by decide +kernel⟩
theorem mi_X4_book : MInf yX4_book RX4 cX4_book 5 (some FieldType.int) 2 := ⟨co_X4_book, im_X4_book, se_X4_book, in_X4, by decide +kernel⟩
theorem mi_X4_read : MInf yX4_read RX4 cX4_read 8 (some FieldType.int) 3 := ⟨co_X4_read, im_X4_read, se_X4_read, in_X4, by decide +kernel⟩
theorem mi_X4_trialGoesAs : MInf yX4_trialGoesAs RX4 cX4_trialGoesAs 4 (some FieldType.boolean) 2 := ⟨co_X4_trialGoesAs, im_X4_trialGoesAs, se_X4_trialGoesAs, in_X4, by decide +kernel⟩
theorem mi_X4_image : MInf yX4_image RX4 cX4_image 1 (some FieldType.int) 0 := ⟨co_X4_image, im_X4_image, se_X4_image, in_X4, by decide +kernel⟩
theorem mi_X4_undo : MInf yX4_undo RX4 cX4_undo 1 (some FieldType.int) 0 := ⟨co_X4_undo, im_X4_undo, se_X4_undo, in_X4, by decide +kernel⟩
theorem mi_X4_tear : MInf yX4_tear RX4 cX4_tear 2 (some FieldType.int) 0 := ⟨co_X4_tear, im_X4_tear, se_X4_tear, in_X4, by decide +kernel⟩
theorem mi_X4_count : MInf yX4_count RX4 cX4_count 2 (some FieldType.int) 1 := ⟨co_X4_count, im_X4_count, se_X4_count, in_X4, by decide +kernel⟩
theorem mi_J6_bitCount_0f7a4 : MInfS yJ6_bitCount_0f7a4 cJ6_bitCount_0f7a4 1 (some FieldType.int) 1 := ⟨co_J6_bitCount_0f7a4, st_J6_bitCount_0f7a4, in_J6, by decide +kernel⟩
theorem mi_X1_sunOfAll : MInf yX1_sunOfAll RX1 cX1_sunOfAll 3 (some FieldType.int) 0 := ⟨co_X1_sunOfAll, im_X1_sunOfAll, se_X1_sunOfAll, in_X1, by decide +kernel⟩
theorem mi_X4_status : MInf yX4_status RX4 cX4_status 4 (some FieldType.int) 1 := ⟨co_X4_status, im_X4_status, se_X4_status, in_X4, by decide +kernel⟩
theorem mi_X5_sun : MInf yX5_sun RX5 cX5_sun 3 (some FieldType.int) 2 := ⟨co_X5_sun, im_X5_sun, se_X5_sun, in_X5, by decide +kernel⟩
theorem mi_X5_in : MInfS yX5_in cX5_in 4 (some FieldType.boolean) 3 := ⟨co_X5_in, st_X5_in, in_X5, by decide +kernel⟩
theorem mi_X5_becomes : MInf yX5_becomes RX5 cX5_becomes 4 (some FieldType.int) 2 := ⟨co_X5_becomes, im_X5_becomes, se_X5_becomes, in_X5, by decide +kernel⟩
theorem mi_X5_finds : MInf yX5_finds RX5 cX5_finds 2 (some FieldType.int) 1 := ⟨co_X5_finds, im_X5_finds, se_X5_finds, in_X5, by decide +kernel⟩
theorem mi_X5_chair : MInf yX5_chair RX5 cX5_chair 2 (some FieldType.int) 1 := ⟨co_X5_chair, im_X5_chair, se_X5_chair, in_X5, by decide +kernel⟩
theorem mi_X5_onChair : MInf yX5_onChair RX5 cX5_onChair 4 (some FieldType.int) 1 := ⟨co_X5_onChair, im_X5_onChair, se_X5_onChair, in_X5, by decide +kernel⟩
theorem mi_X5_it : MInf yX5_it RX5 cX5_it 3 (some FieldType.int) 2 := ⟨co_X5_it, im_X5_it, se_X5_it, in_X5, by decide +kernel⟩
theorem mi_X5_now : MInf yX5_now RX5 cX5_now 2 (some FieldType.int) 1 := ⟨co_X5_now, im_X5_now, se_X5_now, in_X5, by decide +kernel⟩
theorem mi_X5_sunNow : MInf yX5_sunNow RX5 cX5_sunNow 1 (some FieldType.int) 0 := ⟨co_X5_sunNow, im_X5_sunNow, se_X5_sunNow, in_X5, by decide +kernel⟩
theorem mi_X5_sitters : MInf yX5_sitters RX5 cX5_sitters 3 (some FieldType.int) 0 := ⟨co_X5_sitters, im_X5_sitters, se_X5_sitters, in_X5, by decide +kernel⟩
theorem mi_X5_sits : MInf yX5_sits RX5 cX5_sits 2 (some FieldType.boolean) 1 := ⟨co_X5_sits, im_X5_sits, se_X5_sits, in_X5, by decide +kernel⟩
theorem mi_X5_evenOnes : MInf yX5_evenOnes RX5 cX5_evenOnes 3 (some FieldType.int) 0 := ⟨co_X5_evenOnes, im_X5_evenOnes, se_X5_evenOnes, in_X5, by decide +kernel⟩
theorem mi_X5_isEven : MInf yX5_isEven RX5 cX5_isEven 2 (some FieldType.boolean) 1 := ⟨co_X5_isEven, im_X5_isEven, se_X5_isEven, in_X5, by decide +kernel⟩
theorem mi_X5_allBrown : MInf yX5_allBrown RX5 cX5_allBrown 1 (some FieldType.int) 0 := ⟨co_X5_allBrown, im_X5_allBrown, se_X5_allBrown, in_X5, by decide +kernel⟩
theorem mi_X5_sums : MInf yX5_sums RX5 cX5_sums 4 (some FieldType.int) 1 := ⟨co_X5_sums, im_X5_sums, se_X5_sums, in_X5, by decide +kernel⟩
theorem mi_X5_person : MInf yX5_person RX5 cX5_person 2 (some FieldType.int) 1 := ⟨co_X5_person, im_X5_person, se_X5_person, in_X5, by decide +kernel⟩
theorem mi_X5_comesAs : MInf yX5_comesAs RX5 cX5_comesAs 5 (some FieldType.int) 3 := ⟨co_X5_comesAs, im_X5_comesAs, se_X5_comesAs, in_X5, by decide +kernel⟩
theorem mi_X5_put : MInf yX5_put RX5 cX5_put 4 none 3 := ⟨co_X5_put, im_X5_put, se_X5_put, in_X5, by decide +kernel⟩
theorem mi_X5_of : MInf yX5_of RX5 cX5_of 3 (some FieldType.int) 2 := ⟨co_X5_of, im_X5_of, se_X5_of, in_X5, by decide +kernel⟩
theorem mi_X5_isPerson : MInf yX5_isPerson RX5 cX5_isPerson 2 (some FieldType.boolean) 1 := ⟨co_X5_isPerson, im_X5_isPerson, se_X5_isPerson, in_X5, by decide +kernel⟩
theorem mi_X5_fades : MInf yX5_fades RX5 cX5_fades 3 (some FieldType.int) 1 := ⟨co_X5_fades, im_X5_fades, se_X5_fades, in_X5, by decide +kernel⟩
theorem mi_X5_beside : MInf yX5_beside RX5 cX5_beside 4 (some FieldType.int) 2 := ⟨co_X5_beside, im_X5_beside, se_X5_beside, in_X5, by decide +kernel⟩
theorem mi_X5_burnsFrom : MInf yX5_burnsFrom RX5 cX5_burnsFrom 2 (some FieldType.int) 1 := ⟨co_X5_burnsFrom, im_X5_burnsFrom, se_X5_burnsFrom, in_X5, by decide +kernel⟩
theorem mi_X5_set : MInf yX5_set RX5 cX5_set 5 (some FieldType.int) 3 := ⟨co_X5_set, im_X5_set, se_X5_set, in_X5, by decide +kernel⟩
theorem mi_X5_turn : MInf yX5_turn RX5 cX5_turn 3 (some FieldType.int) 2 := ⟨co_X5_turn, im_X5_turn, se_X5_turn, in_X5, by decide +kernel⟩
theorem mi_X5_as : MInf yX5_as RX5 cX5_as 5 (some FieldType.int) 2 := ⟨co_X5_as, im_X5_as, se_X5_as, in_X5, by decide +kernel⟩
theorem mi_X5_brownOf : MInf yX5_brownOf RX5 cX5_brownOf 2 (some FieldType.int) 1 := ⟨co_X5_brownOf, im_X5_brownOf, se_X5_brownOf, in_X5, by decide +kernel⟩
theorem mi_X5_sit : MInf yX5_sit RX5 cX5_sit 3 (some FieldType.int) 2 := ⟨co_X5_sit, im_X5_sit, se_X5_sit, in_X5, by decide +kernel⟩
theorem mi_X5_isFreeFor : MInf yX5_isFreeFor RX5 cX5_isFreeFor 4 (some FieldType.boolean) 2 := ⟨co_X5_isFreeFor, im_X5_isFreeFor, se_X5_isFreeFor, in_X5, by decide +kernel⟩
theorem mi_X5_given : MInf yX5_given RX5 cX5_given 3 (some FieldType.int) 2 := ⟨co_X5_given, im_X5_given, se_X5_given, in_X5, by decide +kernel⟩
theorem mi_X5_givenTo : MInf yX5_givenTo RX5 cX5_givenTo 4 (some FieldType.int) 2 := ⟨co_X5_givenTo, im_X5_givenTo, se_X5_givenTo, in_X5, by decide +kernel⟩
theorem mi_X5_glows : MInf yX5_glows RX5 cX5_glows 7 (some FieldType.int) 3 := ⟨co_X5_glows, im_X5_glows, se_X5_glows, in_X5, by decide +kernel⟩
theorem mi_X5_hours : MInf yX5_hours RX5 cX5_hours 2 (some FieldType.int) 1 := ⟨co_X5_hours, im_X5_hours, se_X5_hours, in_X5, by decide +kernel⟩
theorem mi_X5_goesFor : MInf yX5_goesFor RX5 cX5_goesFor 3 none 1 := ⟨co_X5_goesFor, im_X5_goesFor, se_X5_goesFor, in_X5, by decide +kernel⟩
theorem mi_X5_goes : MInf yX5_goes RX5 cX5_goes 2 none 0 := ⟨co_X5_goes, im_X5_goes, se_X5_goes, in_X5, by decide +kernel⟩
theorem mi_X5_browns : MInf yX5_browns RX5 cX5_browns 4 none 2 := ⟨co_X5_browns, im_X5_browns, se_X5_browns, in_X5, by decide +kernel⟩
theorem mi_X5_takesOf : MInf yX5_takesOf RX5 cX5_takesOf 3 (some FieldType.int) 2 := ⟨co_X5_takesOf, im_X5_takesOf, se_X5_takesOf, in_X5, by decide +kernel⟩
theorem mi_X5_held : MInfS yX5_held cX5_held 3 (some FieldType.int) 3 := ⟨co_X5_held, st_X5_held, in_X5, by decide +kernel⟩
theorem mi_X5_on : MInf yX5_on RX5 cX5_on 5 (some FieldType.int) 3 := ⟨co_X5_on, im_X5_on, se_X5_on, in_X5, by decide +kernel⟩
theorem mi_X5_thinks : MInf yX5_thinks RX5 cX5_thinks 1 none 0 := ⟨co_X5_thinks, im_X5_thinks, se_X5_thinks, in_X5, by decide +kernel⟩
theorem mi_X5_copyAll : MInfS yX5_copyAll cX5_copyAll 3 none 2 := ⟨co_X5_copyAll, st_X5_copyAll, in_X5, by decide +kernel⟩
theorem mi_X5_putsBack : MInf yX5_putsBack RX5 cX5_putsBack 1 none 0 := ⟨co_X5_putsBack, im_X5_putsBack, se_X5_putsBack, in_X5, by decide +kernel⟩
theorem mi_X5_brown : MInf yX5_brown RX5 cX5_brown 4 (some FieldType.int) 2 := ⟨co_X5_brown, im_X5_brown, se_X5_brown, in_X5, by decide +kernel⟩
theorem mi_X5_burns : MInf yX5_burns RX5 cX5_burns 4 (some FieldType.int) 1 := ⟨co_X5_burns, im_X5_burns, se_X5_burns, in_X5, by decide +kernel⟩
theorem mi_X5_even : MInf yX5_even RX5 cX5_even 3 (some FieldType.int) 1 := ⟨co_X5_even, im_X5_even, se_X5_even, in_X5, by decide +kernel⟩
theorem mi_X5_where : MInf yX5_where RX5 cX5_where 7 (some FieldType.int) 2 := ⟨co_X5_where, im_X5_where, se_X5_where, in_X5, by decide +kernel⟩
theorem mi_X5_brownOn : MInf yX5_brownOn RX5 cX5_brownOn 4 (some FieldType.int) 2 := ⟨co_X5_brownOn, im_X5_brownOn, se_X5_brownOn, in_X5, by decide +kernel⟩
theorem mi_X5_change : MInf yX5_change RX5 cX5_change 7 (some FieldType.int) 2 := ⟨co_X5_change, im_X5_change, se_X5_change, in_X5, by decide +kernel⟩
theorem mi_X5_orNone : MInf yX5_orNone RX5 cX5_orNone 2 (some FieldType.int) 1 := ⟨co_X5_orNone, im_X5_orNone, se_X5_orNone, in_X5, by decide +kernel⟩
theorem mi_X5_kind : MInf yX5_kind RX5 cX5_kind 7 (some FieldType.int) 2 := ⟨co_X5_kind, im_X5_kind, se_X5_kind, in_X5, by decide +kernel⟩
theorem mi_X5_send : MInf yX5_send RX5 cX5_send 7 (some FieldType.int) 1 := ⟨co_X5_send, im_X5_send, se_X5_send, in_X5, by decide +kernel⟩
theorem mi_X5_cloud : MInf yX5_cloud RX5 cX5_cloud 7 (some FieldType.int) 1 := ⟨co_X5_cloud, im_X5_cloud, se_X5_cloud, in_X5, by decide +kernel⟩
theorem mi_X5_enough : MInf yX5_enough RX5 cX5_enough 7 (some FieldType.int) 4 := ⟨co_X5_enough, im_X5_enough, se_X5_enough, in_X5, by decide +kernel⟩
theorem mi_X5_areTwo : MInf yX5_areTwo RX5 cX5_areTwo 3 (some FieldType.boolean) 2 := ⟨co_X5_areTwo, im_X5_areTwo, se_X5_areTwo, in_X5, by decide +kernel⟩
theorem mi_X5_brownest : MInf yX5_brownest RX5 cX5_brownest 4 (some FieldType.int) 1 := ⟨co_X5_brownest, im_X5_brownest, se_X5_brownest, in_X5, by decide +kernel⟩
theorem mi_X5_feed : MInf yX5_feed RX5 cX5_feed 4 (some FieldType.int) 2 := ⟨co_X5_feed, im_X5_feed, se_X5_feed, in_X5, by decide +kernel⟩
theorem mi_X5_wipe : MInf yX5_wipe RX5 cX5_wipe 2 (some FieldType.int) 0 := ⟨co_X5_wipe, im_X5_wipe, se_X5_wipe, in_X5, by decide +kernel⟩
theorem mi_X5_esplanade : MInf yX5_esplanade RX5 cX5_esplanade 2 (some FieldType.int) 0 := ⟨co_X5_esplanade, im_X5_esplanade, se_X5_esplanade, in_X5, by decide +kernel⟩
theorem mi_X5_reads : MInf yX5_reads RX5 cX5_reads 1 none 0 := ⟨co_X5_reads, im_X5_reads, se_X5_reads, in_X5, by decide +kernel⟩
theorem mi_X5_isByte : MInf yX5_isByte RX5 cX5_isByte 4 (some FieldType.boolean) 3 := ⟨co_X5_isByte, im_X5_isByte, se_X5_isByte, in_X5, by decide +kernel⟩
theorem mi_X5_wordHere : MInf yX5_wordHere RX5 cX5_wordHere 2 (some FieldType.int) 0 := ⟨co_X5_wordHere, im_X5_wordHere, se_X5_wordHere, in_X5, by decide +kernel⟩
theorem mi_X5_isName : MInf yX5_isName RX5 cX5_isName 5 (some FieldType.boolean) 2 := ⟨co_X5_isName, im_X5_isName, se_X5_isName, in_X5, by decide +kernel⟩
theorem mi_X5_item : MInf yX5_item RX5 cX5_item 2 none 0 := ⟨co_X5_item, im_X5_item, se_X5_item, in_X5, by decide +kernel⟩
theorem mi_X5_personItem : MInf yX5_personItem RX5 cX5_personItem 5 none 0 := ⟨co_X5_personItem, im_X5_personItem, se_X5_personItem, in_X5, by decide +kernel⟩
theorem mi_X5_perhaps : MInf yX5_perhaps RX5 cX5_perhaps 5 (some FieldType.int) 4 := ⟨co_X5_perhaps, im_X5_perhaps, se_X5_perhaps, in_X5, by decide +kernel⟩
theorem mi_X5_passes : MInf yX5_passes RX5 cX5_passes 2 (some FieldType.boolean) 1 := ⟨co_X5_passes, im_X5_passes, se_X5_passes, in_X5, by decide +kernel⟩
theorem mi_X5_number : MInf yX5_number RX5 cX5_number 4 (some FieldType.int) 2 := ⟨co_X5_number, im_X5_number, se_X5_number, in_X5, by decide +kernel⟩
theorem mi_X5_sunItem : MInf yX5_sunItem RX5 cX5_sunItem 3 none 0 := ⟨co_X5_sunItem, im_X5_sunItem, se_X5_sunItem, in_X5, by decide +kernel⟩
theorem mi_X5_sheet : MInf yX5_sheet RX5 cX5_sheet 5 (some FieldType.int) 3 := ⟨co_X5_sheet, im_X5_sheet, se_X5_sheet, in_X5, by decide +kernel⟩
theorem mi_X5_isSheet : MInfS yX5_isSheet cX5_isSheet 1 (some FieldType.boolean) 1 := ⟨co_X5_isSheet, st_X5_isSheet, in_X5, by decide +kernel⟩
theorem mi_X5_write : MInf yX5_write RX5 cX5_write 8 (some FieldType.long) 3 := ⟨co_X5_write, im_X5_write, se_X5_write, in_X5, by decide +kernel⟩
theorem mi_X5_notThere : MInf yX5_notThere RX5 cX5_notThere 2 (some FieldType.int) 1 := ⟨co_X5_notThere, im_X5_notThere, se_X5_notThere, in_X5, by decide +kernel⟩
theorem mi_X5_cutTo : MInfS yX5_cutTo cX5_cutTo 3 (some FieldType.long) 2 := ⟨co_X5_cutTo, st_X5_cutTo, in_X5, by decide +kernel⟩
theorem mi_X5_copy : MInf yX5_copy RX5 cX5_copy 9 (some FieldType.int) 5 := ⟨co_X5_copy, im_X5_copy, se_X5_copy, in_X5, by decide +kernel⟩
theorem mi_X5_notCopied : MInf yX5_notCopied RX5 cX5_notCopied 7 (some FieldType.int) 5 := ⟨co_X5_notCopied, im_X5_notCopied, se_X5_notCopied, in_X5, by decide +kernel⟩
theorem mi_X5_lays : MInf yX5_lays RX5 cX5_lays 5 (some FieldType.int) 1 := ⟨co_X5_lays, im_X5_lays, se_X5_lays, in_X5, by decide +kernel⟩
theorem mi_X5_book : MInf yX5_book RX5 cX5_book 5 (some FieldType.int) 2 := ⟨co_X5_book, im_X5_book, se_X5_book, in_X5, by decide +kernel⟩
theorem mi_X5_read : MInf yX5_read RX5 cX5_read 7 (some FieldType.int) 3 := ⟨co_X5_read, im_X5_read, se_X5_read, in_X5, by decide +kernel⟩
theorem mi_X5_isBook : MInf yX5_isBook RX5 cX5_isBook 5 (some FieldType.boolean) 2 := ⟨co_X5_isBook, im_X5_isBook, se_X5_isBook, in_X5, by decide +kernel⟩
theorem mi_X5_image : MInf yX5_image RX5 cX5_image 1 (some FieldType.int) 0 := ⟨co_X5_image, im_X5_image, se_X5_image, in_X5, by decide +kernel⟩
theorem mi_X5_undo : MInf yX5_undo RX5 cX5_undo 1 (some FieldType.int) 0 := ⟨co_X5_undo, im_X5_undo, se_X5_undo, in_X5, by decide +kernel⟩
theorem mi_X5_tear : MInf yX5_tear RX5 cX5_tear 2 (some FieldType.int) 0 := ⟨co_X5_tear, im_X5_tear, se_X5_tear, in_X5, by decide +kernel⟩
theorem mi_X5_count : MInf yX5_count RX5 cX5_count 2 (some FieldType.int) 1 := ⟨co_X5_count, im_X5_count, se_X5_count, in_X5, by decide +kernel⟩
theorem mi_X5_howManySit : MInf yX5_howManySit RX5 cX5_howManySit 3 (some FieldType.int) 0 := ⟨co_X5_howManySit, im_X5_howManySit, se_X5_howManySit, in_X5, by decide +kernel⟩
theorem mi_X5_allSun : MInf yX5_allSun RX5 cX5_allSun 3 (some FieldType.int) 0 := ⟨co_X5_allSun, im_X5_allSun, se_X5_allSun, in_X5, by decide +kernel⟩
theorem mi_X5_status : MInf yX5_status RX5 cX5_status 4 (some FieldType.int) 1 := ⟨co_X5_status, im_X5_status, se_X5_status, in_X5, by decide +kernel⟩
end
section
/-! ===== the esplanade: hour, people, sun, what one is (0 kind, 1 chair, 2 left, 3 right, 4 burnt) ===== -/
abbrev Es : Type := Int × Int × (Int → Int) × (Int → Int → Int)
abbrev hr (A : Es) : Int := A.1
abbrev pe (A : Es) : Int := A.2.1
abbrev sn (A : Es) : Int → Int := A.2.2.1
abbrev pr (A : Es) : Int → Int → Int := A.2.2.2
def pu (A : Es) (w p v : Int) : Es := (hr A, pe A, sn A, fun w' p' => if w' = w ∧ p' = p then v else pr A w' p')
def su (A : Es) (i v : Int) : Es := (hr A, pe A, fun j => if j = i then v else sn A j, pr A)
def nw (A : Es) (k b : Int) : Es := (hr A, pe A + 1, sn A, fun w p => if p = pe A then (if w = 0 then k else if w = 1 then -1 else if w = 4 then 0 else b) else pr A w p)
/-- what holds of every esplanade -/
def IA (A : Es) : Prop := 0 ≤ hr A ∧ 0 ≤ pe A ∧ pe A ≤ 8 ∧ (∀ i, 0 ≤ i → i < 10 → 0 ≤ sn A i ∧ sn A i ≤ 9) ∧
  (∀ p, 0 ≤ p → p < pe A → 0 ≤ pr A 0 p ∧ pr A 0 p ≤ 5 ∧ -1 ≤ pr A 1 p ∧ pr A 1 p ≤ 9 ∧ 0 ≤ pr A 2 p ∧ pr A 2 p ≤ 200 ∧ 0 ≤ pr A 3 p ∧ pr A 3 p ≤ 200 ∧ 0 ≤ pr A 4 p ∧ pr A 4 p ≤ 9999) ∧
  (∀ p q, 0 ≤ p → p < pe A → 0 ≤ q → q < pe A → p ≠ q → 0 ≤ pr A 1 p → pr A 1 p ≠ pr A 1 q)
theorem IA.h0 {A : Es} (h : IA A) : 0 ≤ hr A := h.1
theorem IA.n0 {A : Es} (h : IA A) : 0 ≤ pe A := h.2.1
theorem IA.n8 {A : Es} (h : IA A) : pe A ≤ 8 := h.2.2.1
theorem IA.gS {A : Es} (h : IA A) {i : Int} (h0 : 0 ≤ i) (h1 : i < 10) : 0 ≤ sn A i ∧ sn A i ≤ 9 := h.2.2.2.1 i h0 h1
theorem IA.gP {A : Es} (h : IA A) {p : Int} (h0 : 0 ≤ p) (h1 : p < pe A) : 0 ≤ pr A 0 p ∧ pr A 0 p ≤ 5 ∧ -1 ≤ pr A 1 p ∧ pr A 1 p ≤ 9 ∧ 0 ≤ pr A 2 p ∧ pr A 2 p ≤ 200 ∧ 0 ≤ pr A 3 p ∧ pr A 3 p ≤ 200 ∧ 0 ≤ pr A 4 p ∧ pr A 4 p ≤ 9999 := h.2.2.2.2.1 p h0 h1
theorem IA.gP9 {A : Es} (h : IA A) {w p : Int} (w0 : 0 ≤ w) (w1 : w < 5) (h0 : 0 ≤ p) (h1 : p < pe A) : -1 ≤ pr A w p ∧ pr A w p ≤ 9999 := by
  have := h.gP h0 h1
  rcases (show w = 0 ∨ w = 1 ∨ w = 2 ∨ w = 3 ∨ w = 4 by omega) with rfl | rfl | rfl | rfl | rfl <;> omega
/-- who sits on a chair, of the first k -/
def onk (A : Es) (c : Int) : Nat → Int
  | 0 => -1
  | k + 1 => if pr A 1 (k : Int) = c then (k : Int) else onk A c k
def onC (A : Es) (c : Int) : Int := onk A c (pe A).toNat
theorem onk_rng (A : Es) (c : Int) : ∀ k : Nat, -1 ≤ onk A c k ∧ onk A c k < (k : Int) ∨ (k = 0 ∧ onk A c k = -1)
  | 0 => Or.inr ⟨rfl, rfl⟩
  | k + 1 => by
    have ih := onk_rng A c k
    left
    unfold onk
    split <;> omega
theorem onC_rng {A : Es} (h : IA A) (c : Int) : -1 ≤ onC A c ∧ onC A c < 8 ∧ (onC A c < pe A ∨ onC A c = -1) := by
  have h1 := onk_rng A c (pe A).toNat
  have h2 := h.n0
  have h3 := h.n8
  unfold onC
  omega
def sunN (A : Es) : Int := sn A (hr A % 10)
theorem sunN_rng {A : Es} (h : IA A) : 0 ≤ sunN A ∧ sunN A ≤ 9   := h.gS (by have := h.h0; omega) (by omega)
/-- who is beside one -/
def nb (A : Es) (p d : Int) : Int := if 0 ≤ pr A 1 p ∧ 0 ≤ pr A 1 p + d ∧ pr A 1 p + d ≤ 9 then onC A (pr A 1 p + d) else -1
theorem nb_rng {A : Es} (h : IA A) (p d : Int) : -1 ≤ nb A p d ∧ nb A p d < 8 ∧ (nb A p d < pe A ∨ nb A p d = -1) := by
  have h1 := onC_rng h (pr A 1 p + d)
  unfold nb
  split <;> omega
def glow (k b s t : Int) : Int := if s = 0 then 0 else if k = 1 then b / 20 * s / 9 + 3 else if k = 2 then b / 20 * s / 9 / 2 else if k = 3 then 9 else if k = 4 then (if t = 4 then 2 * (b / 20 * s / 9 / 2) else b / 20 * s / 9 / 2) else if k = 5 then (if 1 < b / 20 * s / 9 then b / 20 * s / 9 - 1 else 0) else b / 20 * s / 9
def take (k g : Int) : Int := if k = 1 then g / 2 else if k = 2 ∨ k = 4 then (if 0 < g then g + 1 else 0) else if k = 3 then 0 else if k = 5 then (if 0 < g then g / 2 + 2 else 0) else g
def fade (k s : Int) (b : Prop) [Decidable b] : Int := if k = 1 then 0 else if k = 2 then 1 else if k = 4 then (if b then 0 else 1) else if k = 5 then 2 else if s = 0 then 1 else 0
def burnF (k : Int) : Int := if k = 1 then 40 else if k = 2 ∨ k = 4 then 8 else if k = 5 then 20 else 12
theorem mul_rng {x y a b : Int} (h0 : 0 ≤ x) (h1 : x ≤ a) (h2 : 0 ≤ y) (h3 : y ≤ b) : 0 ≤ x * y ∧ x * y ≤ a * b := ⟨Int.mul_nonneg h0 h2, Int.mul_le_mul h1 h3 h2 (Int.le_trans h0 h1)⟩
theorem guest_rng {b s : Int} (h0 : 0 ≤ b) (h1 : b ≤ 200) (h2 : 0 ≤ s) (h3 : s ≤ 9) : 0 ≤ b / 20 * s ∧ b / 20 * s ≤ 90 := mul_rng (a := 10) (b := 9) (by omega) (by omega) h2 h3
theorem glow_rng {k b s t : Int} (h0 : 0 ≤ b) (h1 : b ≤ 200) (h2 : 0 ≤ s) (h3 : s ≤ 9) : 0 ≤ glow k b s t ∧ glow k b s t ≤ 13 := by
  have := guest_rng h0 h1 h2 h3
  unfold glow
  repeat' split
  all_goals omega
def gvq (A : Es) (p q w : Int) : Int := if q < 0 then 0 else glow (pr A 0 q) (pr A w q) (sunN A) (pr A 0 p)
def gv (A : Es) (p side : Int) : Int := if side = 0 then gvq A p (nb A p (-1)) 3 else gvq A p (nb A p 1) 2
theorem gvq_rng {A : Es} (h : IA A) (p d w : Int) (hw : w = 3 ∨ w = 2) : 0 ≤ gvq A p (nb A p d) w ∧ gvq A p (nb A p d) w ≤ 13 := by
  have h1 := nb_rng h p d
  have h2 := sunN_rng h
  unfold gvq
  split
  · omega
  · have h3 := h.gP (p := nb A p d) (by omega) (by omega)
    rcases hw with rfl | rfl <;> exact glow_rng (by omega) (by omega) h2.1 h2.2
theorem gv_rng {A : Es} (h : IA A) (p side : Int) : 0 ≤ gv A p side ∧ gv A p side ≤ 13 := by
  unfold gv
  split <;> exact gvq_rng h p _ _ (by omega)
def fdO (A : Es) (p : Int) : Int := fade (pr A 0 p) (sunN A) (0 ≤ nb A p (-1) ∧ 0 ≤ nb A p 1)
theorem fade_rng {k s : Int} {b : Prop} [Decidable b] : 0 ≤ fade k s b ∧ fade k s b ≤ 2 := by
  unfold fade
  repeat' split
  all_goals omega
theorem take_rng {k g : Int} (h0 : 0 ≤ g) (h1 : g ≤ 13) : 0 ≤ take k g ∧ take k g ≤ 14 := by
  unfold take
  repeat' split
  all_goals omega
theorem burnF_rng (k : Int) : 8 ≤ burnF k ∧ burnF k ≤ 40 := by
  unfold burnF
  repeat' split
  all_goals omega
def held (v lo hi : Int) : Int := if v < lo then lo else if hi < v then hi else v
def nside (A : Es) (p side : Int) : Int := held (pr A (2 + side) p + take (pr A 0 p) (gv A p side) - fdO A p) 0 200
def bn1 (k g b : Int) : Int := held (b + (if burnF k ≤ g then 1 else 0)) 0 9999
def nburn (A : Es) (p : Int) : Int := bn1 (pr A 0 p) (gv A p 1) (bn1 (pr A 0 p) (gv A p 0) (pr A 4 p))
/-- an hour -/
def step (A : Es) : Es := (hr A + 1, pe A, sn A, fun w p => if 0 ≤ pr A 1 p then (if w = 2 then nside A p 0 else if w = 3 then nside A p 1 else if w = 4 then nburn A p else pr A w p) else pr A w p)
def stepn (A : Es) : Nat → Es
  | 0 => A
  | k + 1 => step (stepn A k)
theorem held_rng {v lo hi : Int} (h : lo ≤ hi) : lo ≤ held v lo hi ∧ held v lo hi ≤ hi := by
  unfold held
  repeat' split
  all_goals omega
theorem step_IA {A : Es} (h : IA A) : IA (step A) := by
  obtain ⟨h1, h2, h3, h4, h5, h6⟩ := h
  refine ⟨by show 0 ≤ hr A + 1; omega, h2, h3, h4, fun p p0 p1 => ?_, fun p q p0 p1 q0 q1 hpq hc => ?_⟩
  · have := h5 p p0 p1
    by_cases hc : 0 ≤ pr A 1 p
    · have n0 : 0 ≤ nside A p 0 ∧ nside A p 0 ≤ 200 := held_rng (by omega)
      have n1 : 0 ≤ nside A p 1 ∧ nside A p 1 ≤ 200 := held_rng (by omega)
      have n2 : 0 ≤ nburn A p ∧ nburn A p ≤ 9999 := held_rng (by omega)
      have e : pr (step A) 0 p = pr A 0 p ∧ pr (step A) 1 p = pr A 1 p ∧ pr (step A) 2 p = nside A p 0 ∧ pr (step A) 3 p = nside A p 1 ∧ pr (step A) 4 p = nburn A p := by simp [step, pr, hc]
      omega
    · have e : ∀ w, pr (step A) w p = pr A w p := fun w => by simp [step, pr, hc]
      simp only [e]
      omega
  · have e : ∀ r, pr (step A) 1 r = pr A 1 r := fun r => by simp [step, pr]
    rw [e] at hc
    rw [e, e]
    exact h6 p q p0 p1 q0 q1 hpq hc
theorem stepn_IA {A : Es} (h : IA A) : ∀ n : Nat, IA (stepn A n)
  | 0 => h
  | n + 1 => step_IA (stepn_IA h n)
theorem stepn_pe (A : Es) : ∀ n : Nat, pe (stepn A n) = pe A
  | 0 => rfl
  | n + 1 => stepn_pe A n
theorem stepn_hr (A : Es) : ∀ n : Nat, hr (stepn A n) = hr A + n
  | 0 => by simp [stepn]
  | n + 1 => by
    have := stepn_hr A n
    show hr (stepn A n) + 1 = _
    rw [this]
    omega
def brn (A : Es) (p : Int) : Int := pr A 2 p + pr A 3 p
theorem brn_rng {A : Es} (h : IA A) {p : Int} (h0 : 0 ≤ p) (h1 : p < pe A) : 0 ≤ brn A p ∧ brn A p ≤ 400 := by
  have := h.gP h0 h1
  unfold brn
  omega
/-! ===== the reference's picture of it ===== -/
def RM (f : Nat → Int32) (A : Es) : Prop := f 0 = iv (hr A) ∧ f 1 = iv (pe A) ∧ (∀ i : Int, 0 ≤ i → i < 10 → f (2 + i).toNat = iv (sn A i)) ∧ ∀ w p : Int, 0 ≤ w → w < 5 → 0 ≤ p → p < pe A → f (12 + 5 * p + w).toNat = iv (pr A w p)
abbrev Mc : Type := (Nat → Int32) × (Nat → Int32) × (Nat → Int32) × Int32 × (Nat → Int32) × (Nat → Int32) × (Nat → Int32) × Int32 × Int32 × Int32 × Int32 × Int32 × Int32 × (Nat → Int32) × (Nat → Int32) × (Nat → Int64)
def wM (E : EV) (a : Nat → Nat) (G : Mc) : va_W := [(a 0, .inr (4, [.ref (a 1), .ref (a 2), .ref (a 3), .int G.2.2.2.1, .ref (a 4), .ref (a 5), .ref (a 6), .int G.2.2.2.2.2.2.2.1, .int G.2.2.2.2.2.2.2.2.1, .int G.2.2.2.2.2.2.2.2.2.1, .int G.2.2.2.2.2.2.2.2.2.2.1, .int G.2.2.2.2.2.2.2.2.2.2.2.1, .int G.2.2.2.2.2.2.2.2.2.2.2.2.1, .ref (a 7), .ref (a 8), .ref (a 9)])),
  (a 1, .inl (eI E, 52, .inl G.1)), (a 2, .inl (eI E, 52, .inl G.2.1)), (a 3, .inl (eI E, 52, .inl G.2.2.1)), (a 4, .inl (eI E, 7, .inl G.2.2.2.2.1)), (a 5, .inl (eI E, 16, .inl G.2.2.2.2.2.1)), (a 6, .inl (eI E, 120, .inl G.2.2.2.2.2.2.1)), (a 7, .inl (eI E, 4, .inl G.2.2.2.2.2.2.2.2.2.2.2.2.2.1)), (a 8, .inl (eI E, 4, .inl G.2.2.2.2.2.2.2.2.2.2.2.2.2.2.1)), (a 9, .inl (eJ E, 160, .inr (.inl G.2.2.2.2.2.2.2.2.2.2.2.2.2.2.2)))]
end
section
/-! ===== beginnings of walks: the end as a rule ===== -/
section GO
variable {l : Launch} {E : EV} {y : MethodName} {bytes : ByteArray} {maxL : Nat} {rm : Room} {ws : va_W} {av : List Value}
theorem goP {z : Int} (hy : plainName y.cls = true) (hav : (lg_sl av).length ≤ maxL)
    (body : ∀ (p : Program) (e : Env) (s : State) (m : MethodId) (below : List Frame) (meth : Method) (c : Code) (ls : Array Slot) (args : Array Value) (Q : State → Prop),
      (∀ (pc : Nat) (ls : Array Slot) (z' : Int), z' = z → decode bytes pc = .ok (.ireturn, 1) → W p l e rm s m args below meth c s.heap [] 0 0 Q (F0 m pc ls [.int (iv z')])) →
      Cx p s m meth c args y.cls bytes maxL (some .int) → St E ws s s.heap [] ws → lv_has ls maxL (lv_args 0 av) → W p l e rm s m args below meth c s.heap [] 0 0 Q (F0 m 0 ls [])) :
    MP E l y bytes maxL (some .int) rm ws av z :=
  Met.go hy hav (fun p e s m below meth c ls X h hl => body p e s m below meth c ls _ _ (fun pc ls z' hz d => z_ret X hz d) X h hl)
theorem goB {P : Prop} [Decidable P] (hy : plainName y.cls = true) (hav : (lg_sl av).length ≤ maxL)
    (body : ∀ (p : Program) (e : Env) (s : State) (m : MethodId) (below : List Frame) (meth : Method) (c : Code) (ls : Array Slot) (args : Array Value) (Q : State → Prop),
      (∀ (pc : Nat) (ls : Array Slot) (z' : Int), z' = bz P → decode bytes pc = .ok (.ireturn, 1) → W p l e rm s m args below meth c s.heap [] 0 0 Q (F0 m pc ls [.int (iv z')])) →
      Cx p s m meth c args y.cls bytes maxL (some .boolean) → St E ws s s.heap [] ws → lv_has ls maxL (lv_args 0 av) → W p l e rm s m args below meth c s.heap [] 0 0 Q (F0 m 0 ls [])) :
    MP E l y bytes maxL (some .boolean) rm ws av (bz P) :=
  Met.go hy hav (fun p e s m below meth c ls X h hl => body p e s m below meth c ls _ _ (fun pc ls z' hz d => z_retb X (by rw [hz]; exact bz_c) hz d) X h hl)
theorem goPL {x : Int64} (hy : plainName y.cls = true) (hav : (lg_sl av).length ≤ maxL)
    (body : ∀ (p : Program) (e : Env) (s : State) (m : MethodId) (below : List Frame) (meth : Method) (c : Code) (ls : Array Slot) (args : Array Value) (Q : State → Prop),
      (∀ (pc : Nat) (ls : Array Slot) (x' : Int64), x' = x → decode bytes pc = .ok (.lreturn, 1) → W p l e rm s m args below meth c s.heap [] 0 0 Q (F0 m pc ls [.long x'])) →
      Cx p s m meth c args y.cls bytes maxL (some .long) → St E ws s s.heap [] ws → lv_has ls maxL (lv_args 0 av) → W p l e rm s m args below meth c s.heap [] 0 0 Q (F0 m 0 ls [])) :
    MPL E l y bytes maxL (some .long) rm ws av x :=
  Met.go hy hav (fun p e s m below meth c ls X h hl => body p e s m below meth c ls _ _ (fun pc ls x' hz d => W.lret X.1 X.2.1 X.2.2.2.2.2.1 (fun t ht _ => ⟨_, rfl, hz, ht⟩) (fun q hq => by cases hq) d X.2.2.2.2.2.2) X h hl)
theorem goI {S : Type} {post : Int32 → S → Prop} {ws' : S → va_W} (hy : plainName y.cls = true) (hav : (lg_sl av).length ≤ maxL)
    (body : ∀ (p : Program) (e : Env) (s : State) (m : MethodId) (below : List Frame) (meth : Method) (c : Code) (ls : Array Slot) (args : Array Value) (Q : State → Prop),
      (∀ (H : Heap) (locs : List Loc) (pc : Nat) (ls : Array Slot) (v : Int32) (u : S), St E ws s H locs (ws' u) → post v u → decode bytes pc = .ok (.ireturn, 1) → W p l e rm s m args below meth c H locs 0 0 Q (F0 m pc ls [.int v])) →
      Cx p s m meth c args y.cls bytes maxL (some .int) → St E ws s s.heap [] ws → lv_has ls maxL (lv_args 0 av) → W p l e rm s m args below meth c s.heap [] 0 0 Q (F0 m 0 ls [])) :
    MI E l y bytes maxL (some .int) rm ws av post ws' :=
  Met.go hy hav (fun p e s m below meth c ls X h hl => body p e s m below meth c ls _ _ (fun H locs pc ls v u h1 hp d => z_retI X h1 u hp rfl d) X h hl)
theorem goZ {S : Type} {post : Int32 → S → Prop} {ws' : S → va_W} (hy : plainName y.cls = true) (hav : (lg_sl av).length ≤ maxL)
    (body : ∀ (p : Program) (e : Env) (s : State) (m : MethodId) (below : List Frame) (meth : Method) (c : Code) (ls : Array Slot) (args : Array Value) (Q : State → Prop),
      (∀ (H : Heap) (locs : List Loc) (pc : Nat) (ls : Array Slot) (z : Int) (u : S), St E ws s H locs (ws' u) → (z = 0 ∨ z = 1) → post (iv z) u → decode bytes pc = .ok (.ireturn, 1) → W p l e rm s m args below meth c H locs 0 0 Q (F0 m pc ls [.int (iv z)])) →
      Cx p s m meth c args y.cls bytes maxL (some .boolean) → St E ws s s.heap [] ws → lv_has ls maxL (lv_args 0 av) → W p l e rm s m args below meth c s.heap [] 0 0 Q (F0 m 0 ls [])) :
    MI E l y bytes maxL (some .boolean) rm ws av post ws' :=
  Met.go hy hav (fun p e s m below meth c ls X h hl => body p e s m below meth c ls _ _ (fun H locs pc ls z u h1 hz hp d => z_retZ X h1 hz u hp rfl d) X h hl)
theorem goV {S : Type} {post : S → Prop} {ws' : S → va_W} (hy : plainName y.cls = true) (hav : (lg_sl av).length ≤ maxL)
    (body : ∀ (p : Program) (e : Env) (s : State) (m : MethodId) (below : List Frame) (meth : Method) (c : Code) (ls : Array Slot) (args : Array Value) (Q : State → Prop),
      (∀ (H : Heap) (locs : List Loc) (pc : Nat) (ls : Array Slot) (u : S), St E ws s H locs (ws' u) → post u → decode bytes pc = .ok (.return_, 1) → W p l e rm s m args below meth c H locs 0 0 Q (F0 m pc ls [])) →
      Cx p s m meth c args y.cls bytes maxL none → St E ws s s.heap [] ws → lv_has ls maxL (lv_args 0 av) → W p l e rm s m args below meth c s.heap [] 0 0 Q (F0 m 0 ls [])) :
    MV E l y bytes maxL rm ws av post ws' :=
  Met.go hy hav (fun p e s m below meth c ls X h hl => body p e s m below meth c ls _ _ (fun H locs pc ls u h1 hp d => z_retV X h1 u hp rfl d) X h hl)
theorem goIL {S : Type} {post : Int64 → S → Prop} {ws' : S → va_W} (hy : plainName y.cls = true) (hav : (lg_sl av).length ≤ maxL)
    (body : ∀ (p : Program) (e : Env) (s : State) (m : MethodId) (below : List Frame) (meth : Method) (c : Code) (ls : Array Slot) (args : Array Value) (Q : State → Prop),
      (∀ (H : Heap) (locs : List Loc) (pc : Nat) (ls : Array Slot) (v : Int64) (u : S), St E ws s H locs (ws' u) → post v u → decode bytes pc = .ok (.lreturn, 1) → W p l e rm s m args below meth c H locs 0 0 Q (F0 m pc ls [.long v])) →
      Cx p s m meth c args y.cls bytes maxL (some .long) → St E ws s s.heap [] ws → lv_has ls maxL (lv_args 0 av) → W p l e rm s m args below meth c s.heap [] 0 0 Q (F0 m 0 ls [])) :
    MIL E l y bytes maxL (some .long) rm ws av post ws' :=
  Met.go hy hav (fun p e s m below meth c ls X h hl => body p e s m below meth c ls _ _ (fun H locs pc ls v u h1 hp d => W.lret X.1 X.2.1 X.2.2.2.2.2.1 (fun t ht _ => ⟨⟨_, u, rfl, hp, by show va_P _ _ (ws' u) t.heap; rw [ht]; exact h1.1⟩, h1.2.1.F ht⟩) h1.2.1.2.2 d X.2.2.2.2.2.2) X h hl)
end GO
/-! ===== longs compared; Math; booleans in fields ===== -/
def cmpz (a b : Int) : Int := if b < a then 1 else if a = b then 0 else -1
theorem cmpz_r (a b : Int) : r32 (cmpz a b) := by unfold cmpz r32; repeat' split
                                                  all_goals omega
theorem lg_cmpz (x y : Int64) : lg_cmp x y = iv (cmpz x.toInt y.toInt) := by
  unfold lg_cmp cmpz
  by_cases h1 : x > y
  · rw [if_pos h1, if_pos (Int64.lt_iff_toInt_lt.mp h1)]; decide
  · rw [if_neg h1, if_neg (fun q => h1 (Int64.lt_iff_toInt_lt.mpr q))]
    by_cases h2 : x = y
    · rw [if_pos h2, if_pos (by rw [h2])]; decide
    · rw [if_neg h2, if_neg (fun q => h2 (Int64.toInt_inj.mp q))]; decide
theorem i64_iv {z : Int} (h : r32 z) : (iv z).toInt64.toInt = z := by rw [Int32.toInt_toInt64, iv_toInt h]
theorem fit_bz {P : Prop} [Decidable P] : fits .boolean (.int (iv (bz P))) = true := by
  rcases (bz_c (P := P)) with h | h <;> rw [h] <;> decide
section ZM
variable {p : Program} {l : Launch} {e : Env} {R : Room} {s : State} {m : MethodId} {args : Array Value} {below : List Frame} {meth : Method} {c : Code} {H : Heap} {locs : List Loc} {cells slots : Nat} {Q : State → Prop}
variable {own : String} {cc : ByteArray} {nL : Nat} {rt : Option FieldType} {pc : Nat} {ls : Array Slot} {rest : List Value}
theorem z_lcmp (X : Cx p s m meth c args own cc nL rt) {x y : Int64} {a b : Int} (ha : x.toInt = a) (hb : y.toInt = b) (d : decode cc pc = .ok (.lcmp, 1)) (k : W p l e R s m args below meth c H locs cells slots Q (F0 m (pc + 1) ls (.int (iv (cmpz a b)) :: rest))) : W p l e R s m args below meth c H locs cells slots Q (F0 m pc ls (.long y :: .long x :: rest)) := by
  refine W.lcmp X.1 X.2.1 d ?_
  rw [lg_cmpz, ha, hb]
  exact k
theorem z_ifc_lt (X : Cx p s m meth c args own cc nL rt) {a b : Int} {off : Int} {tgt : Nat} (d : decode cc pc = .ok (.ifCond .lt off, 3)) (ht : (pc : Int) + off = (tgt : Int)) (kt : a < b → W p l e R s m args below meth c H locs cells slots Q (F0 m tgt ls rest)) (kf : b ≤ a → W p l e R s m args below meth c H locs cells slots Q (F0 m (pc + 3) ls rest)) : W p l e R s m args below meth c H locs cells slots Q (F0 m pc ls (.int (iv (cmpz a b)) :: rest)) :=
  z_if_lt X (cmpz_r a b) d ht (fun h => kt (by unfold cmpz at h; split at h; omega; split at h <;> omega)) (fun h => kf (by unfold cmpz at h; split at h; omega; split at h <;> omega))
theorem z_ifc_gt (X : Cx p s m meth c args own cc nL rt) {a b : Int} {off : Int} {tgt : Nat} (d : decode cc pc = .ok (.ifCond .gt off, 3)) (ht : (pc : Int) + off = (tgt : Int)) (kt : b < a → W p l e R s m args below meth c H locs cells slots Q (F0 m tgt ls rest)) (kf : a ≤ b → W p l e R s m args below meth c H locs cells slots Q (F0 m (pc + 3) ls rest)) : W p l e R s m args below meth c H locs cells slots Q (F0 m pc ls (.int (iv (cmpz a b)) :: rest)) :=
  z_if_gt X (cmpz_r a b) d ht (fun h => kt (by unfold cmpz at h; split at h; omega; split at h <;> omega)) (fun h => kf (by unfold cmpz at h; split at h; omega; split at h <;> omega))
theorem z_ifc_ne (X : Cx p s m meth c args own cc nL rt) {a b : Int} {off : Int} {tgt : Nat} (d : decode cc pc = .ok (.ifCond .ne off, 3)) (ht : (pc : Int) + off = (tgt : Int)) (kt : a ≠ b → W p l e R s m args below meth c H locs cells slots Q (F0 m tgt ls rest)) (kf : a = b → W p l e R s m args below meth c H locs cells slots Q (F0 m (pc + 3) ls rest)) : W p l e R s m args below meth c H locs cells slots Q (F0 m pc ls (.int (iv (cmpz a b)) :: rest)) :=
  z_if_ne X (cmpz_r a b) d ht (fun h => kt (by unfold cmpz at h; split at h; omega; split at h <;> omega)) (fun h => kf (by unfold cmpz at h; split at h; omega; split at h <;> omega))
theorem z_ifc_eq (X : Cx p s m meth c args own cc nL rt) {a b : Int} {off : Int} {tgt : Nat} (d : decode cc pc = .ok (.ifCond .eq off, 3)) (ht : (pc : Int) + off = (tgt : Int)) (kt : a = b → W p l e R s m args below meth c H locs cells slots Q (F0 m tgt ls rest)) (kf : a ≠ b → W p l e R s m args below meth c H locs cells slots Q (F0 m (pc + 3) ls rest)) : W p l e R s m args below meth c H locs cells slots Q (F0 m pc ls (.int (iv (cmpz a b)) :: rest)) :=
  z_if_eq X (cmpz_r a b) d ht (fun h => kt (by unfold cmpz at h; split at h; omega; split at h <;> omega)) (fun h => kf (by unfold cmpz at h; split at h; omega; split at h <;> omega))
theorem iv_if {P : Prop} [Decidable P] {x y : Int} : (if P then iv x else iv y) = iv (if P then x else y) := by split <;> rfl
theorem z_mmax (X : Cx p s m meth c args own cc nL rt) {a b : Int} {idx : Nat} (ra : r32 a) (rb : r32 b) (lk : Cond.methodLink own idx Lib.Math.max.name ∈ tb) (hf : 1 ≤ R.frames) (hl : (rest.map fun v => v.category).sum + 13 ≤ R.locals) (hc : cells ≤ R.cells) (hs : slots ≤ R.slots) (hz : ls.size = nL) (d : decode cc pc = .ok (.invokestatic idx, 3)) (k : W p l e R s m args below meth c H locs cells slots Q (F0 m (pc + 3) ls (.int (iv (if a < b then b else a)) :: rest))) : W p l e R s m args below meth c H locs cells slots Q (F0 m pc ls (.int (iv b) :: .int (iv a) :: rest)) := by
  refine va_mmax X.1 X.2.1 (by rw [X.2.2.1, hz]) X.2.2.2.1 (X.2.2.2.2.1 _ lk) (X.2.2.2.2.1 _ st_max) (X.2.2.2.2.1 _ in_J9) (X.2.2.2.2.1 _ co_max) hf hl hc hs d ?_
  simp only [iv_lt ra rb, iv_if]
  exact k
theorem z_mmin (X : Cx p s m meth c args own cc nL rt) {a b : Int} {idx : Nat} (ra : r32 a) (rb : r32 b) (lk : Cond.methodLink own idx Lib.Math.min.name ∈ tb) (hf : 1 ≤ R.frames) (hl : (rest.map fun v => v.category).sum + 13 ≤ R.locals) (hc : cells ≤ R.cells) (hs : slots ≤ R.slots) (hz : ls.size = nL) (d : decode cc pc = .ok (.invokestatic idx, 3)) (k : W p l e R s m args below meth c H locs cells slots Q (F0 m (pc + 3) ls (.int (iv (if b < a then b else a)) :: rest))) : W p l e R s m args below meth c H locs cells slots Q (F0 m pc ls (.int (iv b) :: .int (iv a) :: rest)) := by
  refine va_mmin X.1 X.2.1 (by rw [X.2.2.1, hz]) X.2.2.2.1 (X.2.2.2.2.1 _ lk) (X.2.2.2.2.1 _ st_min) (X.2.2.2.2.1 _ in_J9) (X.2.2.2.2.1 _ co_min) hf hl hc hs d ?_
  simp only [iv_lt rb ra, iv_if]
  exact k
theorem z_mabs (X : Cx p s m meth c args own cc nL rt) {a : Int} {idx : Nat} (ra : r32 a) (lk : Cond.methodLink own idx Lib.Math.abs.name ∈ tb) (hf : 1 ≤ R.frames) (hl : (rest.map fun v => v.category).sum + 13 ≤ R.locals) (hc : cells ≤ R.cells) (hs : slots ≤ R.slots) (hz : ls.size = nL) (d : decode cc pc = .ok (.invokestatic idx, 3)) (k : W p l e R s m args below meth c H locs cells slots Q (F0 m (pc + 3) ls (.int (iv (if 0 ≤ a then a else 0 - a)) :: rest))) : W p l e R s m args below meth c H locs cells slots Q (F0 m pc ls (.int (iv a) :: rest)) := by
  refine va_mabs X.1 X.2.1 (by rw [X.2.2.1, hz]) X.2.2.2.1 (X.2.2.2.2.1 _ lk) (X.2.2.2.2.1 _ st_abs) (X.2.2.2.2.1 _ in_J9) (X.2.2.2.2.1 _ co_abs) hf hl hc hs d ?_
  have e : (if 0 ≤ iv a then iv a else 0 - iv a) = iv (if 0 ≤ a then a else 0 - a) := by
    rw [← iv_0]; simp only [iv_le r32_0 ra, iv_sub, iv_if]
  rw [e]
  exact k
end ZM
end
section
variable {E : EV} {l : Launch} {a : Nat → Nat} {mm kp wa fd gf tp bt sz : Nat → Int32} {cl : Nat → Int64} {ik tn tk bg pt vl bd : Int} {A : Es}
set_option maxHeartbeats 4000000 in
theorem c_X5_in {x : Int64} {lo hi : Int} (rl : r32 lo) (rh : r32 hi) : MP E l yX5_in cX5_in 4 (some FieldType.boolean) (rmk 0 0) ([]) [.long (x), .int (iv (lo)), .int (iv (hi))] (bz (lo ≤ x.toInt ∧ x.toInt ≤ hi)) := by
  refine goB (by decide) (Nat.le_of_ble_eq_true rfl) ?_
  intro pp e s m below meth c ls args Q ret X h hl
  have hl : lv_has ls 4 [(0, .long (x)), (2, .int (iv (lo))), (3, .int (iv (hi)))] := hl
  refine lv_lload_n X.1 X.2.1 dX5_in_0 rfl (lv_at hl 0 rfl) ?_
  refine lv_iload_n X.1 X.2.1 dX5_in_1 rfl (lv_at hl 1 rfl) ?_
  refine lv_i2l (v := (iv (lo)).toInt64) X.1 X.2.1 dX5_in_2 rfl ?_
  refine z_lcmp (a := x.toInt) (b := lo) X rfl (i64_iv rl) dX5_in_3 ?_
  refine z_ifc_lt (tgt := 18) X dX5_in_4 (by decide) (fun c_4 => ?_) (fun c_4 => ?_)
  · refine z_iconst X dX5_in_18 ?_
    exact ret _ _ _ ((bz_f (by omega)).symm) dX5_in_19
  · refine lv_lload_n X.1 X.2.1 dX5_in_7 rfl (lv_at hl 0 rfl) ?_
    refine lv_iload_n X.1 X.2.1 dX5_in_8 rfl (lv_at hl 2 rfl) ?_
    refine lv_i2l (v := (iv (hi)).toInt64) X.1 X.2.1 dX5_in_9 rfl ?_
    refine z_lcmp (a := x.toInt) (b := hi) X rfl (i64_iv rh) dX5_in_10 ?_
    refine z_ifc_gt (tgt := 18) X dX5_in_11 (by decide) (fun c_11 => ?_) (fun c_11 => ?_)
    · refine z_iconst X dX5_in_18 ?_
      exact ret _ _ _ ((bz_f (by omega)).symm) dX5_in_19
    · refine z_iconst X dX5_in_14 ?_
      refine lv_goto (tgt := 19) X.1 X.2.1 dX5_in_15 (by decide) ?_
      exact ret _ _ _ ((bz_t (by omega)).symm) dX5_in_19

theorem c_inI {z lo hi : Int} (rz : r32 z) (rl : r32 lo) (rh : r32 hi) : MP E l yX5_in cX5_in 4 (some .boolean) (rmk 0 0) [] [.long (iv z).toInt64, .int (iv lo), .int (iv hi)] (bz (lo ≤ z ∧ z ≤ hi)) := by
  have h := c_X5_in (E := E) (l := l) (x := (iv z).toInt64) rl rh
  rw [bz_eq (Q := lo ≤ z ∧ z ≤ hi) (by rw [i64_iv rz])] at h
  exact h

set_option maxHeartbeats 4000000 in
theorem c_X5_held {v lo hi : Int} (rv : r32 v) (rl : r32 lo) (rh : r32 hi) : MP E l yX5_held cX5_held 3 (some FieldType.int) (rmk 0 0) ([]) [.int (iv (v)), .int (iv (lo)), .int (iv (hi))] (held v lo hi) := by
  refine goP (by decide) (Nat.le_of_ble_eq_true rfl) ?_
  intro pp e s m below meth c ls args Q ret X h hl
  have hl : lv_has ls 3 [(0, .int (iv (v))), (1, .int (iv (lo))), (2, .int (iv (hi)))] := hl
  refine lv_iload_n X.1 X.2.1 dX5_held_0 rfl (lv_at hl 0 rfl) ?_
  refine lv_iload_n X.1 X.2.1 dX5_held_1 rfl (lv_at hl 1 rfl) ?_
  refine z_ic_ge (tgt := 9) X rv rl dX5_held_2 (by decide) (fun c_2 => ?_) (fun c_2 => ?_)
  · refine lv_iload_n X.1 X.2.1 dX5_held_9 rfl (lv_at hl 0 rfl) ?_
    refine lv_iload_n X.1 X.2.1 dX5_held_10 rfl (lv_at hl 2 rfl) ?_
    refine z_ic_le (tgt := 18) X rv rh dX5_held_11 (by decide) (fun c_11 => ?_) (fun c_11 => ?_)
    · refine lv_iload_n X.1 X.2.1 dX5_held_18 rfl (lv_at hl 0 rfl) ?_
      exact ret _ _ _ (by unfold held; (repeat' split) <;> omega) dX5_held_19
    · refine lv_iload_n X.1 X.2.1 dX5_held_14 rfl (lv_at hl 2 rfl) ?_
      refine lv_goto (tgt := 19) X.1 X.2.1 dX5_held_15 (by decide) ?_
      exact ret _ _ _ (by unfold held; (repeat' split) <;> omega) dX5_held_19
  · refine lv_iload_n X.1 X.2.1 dX5_held_5 rfl (lv_at hl 1 rfl) ?_
    refine lv_goto (tgt := 19) X.1 X.2.1 dX5_held_6 (by decide) ?_
    exact ret _ _ _ (by unfold held; (repeat' split) <;> omega) dX5_held_19

set_option maxHeartbeats 4000000 in
theorem c_X5_it (hR : RM mm A) (hI : IA A) {p w : Int} (p0 : 0 ≤ p) (p1 : p < pe A) (w0 : 0 ≤ w) (w1 : w < 5) : MP E l yX5_it cX5_it 3 (some FieldType.int) (rmk 0 0) (wM E a (mm, kp, wa, (iv (ik)), fd, gf, tp, (iv (tn)), (iv (tk)), (iv (bg)), (iv (pt)), (iv (vl)), (iv (bd)), bt, sz, cl)) [.ref (a 0), .int (iv (p)), .int (iv (w))] (pr A w p) := by
  refine goP (by decide) (Nat.le_of_ble_eq_true rfl) ?_
  intro pp e s m below meth c ls args Q ret X h hl
  have hl : lv_has ls 3 [(0, .ref (a 0)), (1, .int (iv (p))), (2, .int (iv (w)))] := hl
  have n8 := hI.n8
  refine lv_aload_n X.1 X.2.1 dX5_it_0 rfl (lv_at hl 0 rfl) ?_
  refine z_get X h 4 0 0 rfl inX5 rfl (by decide) fl_X5_9 rfl dX5_it_1 ?_
  refine z_bipush X (by decide) dX5_it_4 ?_
  refine z_iconst X dX5_it_6 ?_
  refine lv_iload_n X.1 X.2.1 dX5_it_7 rfl (lv_at hl 1 rfl) ?_
  refine z_imul X dX5_it_8 ?_
  refine z_iadd X dX5_it_9 ?_
  refine lv_iload_n X.1 X.2.1 dX5_it_10 rfl (lv_at hl 2 rfl) ?_
  refine z_iadd X dX5_it_11 ?_
  refine z_iald (v := pr A w p) X h 1 rfl (by omega) (by omega) (by decide) (hR.2.2.2 w p (by omega) (by omega) (by omega) (by omega)) dX5_it_12 ?_
  exact ret _ _ _ (rfl) dX5_it_13

set_option maxHeartbeats 4000000 in
theorem c_X5_isPerson (hR : RM mm A) (hI : IA A) {p : Int} (rp : r32 p) : MP E l yX5_isPerson cX5_isPerson 2 (some FieldType.boolean) (rmk 1 23) (wM E a (mm, kp, wa, (iv (ik)), fd, gf, tp, (iv (tn)), (iv (tk)), (iv (bg)), (iv (pt)), (iv (vl)), (iv (bd)), bt, sz, cl)) [.ref (a 0), .int (iv (p))] (bz (0 ≤ p ∧ p < pe A)) := by
  refine goB (by decide) (Nat.le_of_ble_eq_true rfl) ?_
  intro pp e s m below meth c ls args Q ret X h hl
  have hl : lv_has ls 2 [(0, .ref (a 0)), (1, .int (iv (p)))] := hl
  have n8 := hI.n8
  have n0 := hI.n0
  refine lv_iload_n X.1 X.2.1 dX5_isPerson_0 rfl (lv_at hl 1 rfl) ?_
  refine lv_i2l (v := (iv (p)).toInt64) X.1 X.2.1 dX5_isPerson_1 rfl ?_
  refine z_iconst X dX5_isPerson_2 ?_
  refine lv_aload_n X.1 X.2.1 dX5_isPerson_3 rfl (lv_at hl 0 rfl) ?_
  refine z_get X h 4 0 0 rfl inX5 rfl (by decide) fl_X5_9 rfl dX5_isPerson_4 ?_
  refine z_iconst X dX5_isPerson_7 ?_
  refine z_iald (v := pe A) X h 1 rfl (by omega) (by omega) (by decide) hR.2.1 dX5_isPerson_8 ?_
  refine z_iconst X dX5_isPerson_9 ?_
  refine z_isub X dX5_isPerson_10 ?_
  refine z_pi (run_S (rest := []) X h (c_inI rp ⟨by decide, by decide⟩ ⟨by omega, by omega⟩) mi_X5_in ml_X5_44 ⟨Nat.le_of_ble_eq_true rfl, Nat.le_of_ble_eq_true rfl⟩ ⟨rfl, rfl⟩ (Seg.nil _) rfl hl.1 rfl (Nat.le_of_ble_eq_true rfl) ⟨Nat.zero_le _, Nat.zero_le _⟩ dX5_isPerson_11) ?_
  exact ret _ _ _ (bz_eq (by omega)) dX5_isPerson_14

set_option maxHeartbeats 4000000 in
theorem c_X5_areTwo (hR : RM mm A) (hI : IA A) {p o : Int} (rp : r32 p) (ro : r32 o) : MP E l yX5_areTwo cX5_areTwo 3 (some FieldType.boolean) (rmk 2 44) (wM E a (mm, kp, wa, (iv (ik)), fd, gf, tp, (iv (tn)), (iv (tk)), (iv (bg)), (iv (pt)), (iv (vl)), (iv (bd)), bt, sz, cl)) [.ref (a 0), .int (iv (p)), .int (iv (o))] (bz ((0 ≤ p ∧ p < pe A) ∧ (0 ≤ o ∧ o < pe A) ∧ p ≠ o)) := by
  refine goB (by decide) (Nat.le_of_ble_eq_true rfl) ?_
  intro pp e s m below meth c ls args Q ret X h hl
  have hl : lv_has ls 3 [(0, .ref (a 0)), (1, .int (iv (p))), (2, .int (iv (o)))] := hl
  refine lv_aload_n X.1 X.2.1 dX5_areTwo_0 rfl (lv_at hl 0 rfl) ?_
  refine lv_iload_n X.1 X.2.1 dX5_areTwo_1 rfl (lv_at hl 1 rfl) ?_
  refine z_pi (run_V (rest := []) X h (c_X5_isPerson (p := p) hR hI rp) mi_X5_isPerson ml_X5_48 ⟨Nat.le_of_ble_eq_true rfl, Nat.le_of_ble_eq_true rfl⟩ ⟨rfl, rfl⟩ (Seg.rfl' _) 4 0 rfl rfl rfl rfl hl.1 rfl (Nat.le_of_ble_eq_true rfl) ⟨Nat.zero_le _, Nat.zero_le _⟩ dX5_areTwo_2) ?_
  refine z_ifb_eq (tgt := 25) X dX5_areTwo_5 (by decide) (fun c_5 => ?_) (fun c_5 => ?_)
  · refine z_iconst X dX5_areTwo_25 ?_
    exact ret _ _ _ ((bz_f (by omega)).symm) dX5_areTwo_26
  · refine lv_aload_n X.1 X.2.1 dX5_areTwo_8 rfl (lv_at hl 0 rfl) ?_
    refine lv_iload_n X.1 X.2.1 dX5_areTwo_9 rfl (lv_at hl 2 rfl) ?_
    refine z_pi (run_V (rest := []) X h (c_X5_isPerson (p := o) hR hI ro) mi_X5_isPerson ml_X5_48 ⟨Nat.le_of_ble_eq_true rfl, Nat.le_of_ble_eq_true rfl⟩ ⟨rfl, rfl⟩ (Seg.rfl' _) 4 0 rfl rfl rfl rfl hl.1 rfl (Nat.le_of_ble_eq_true rfl) ⟨Nat.zero_le _, Nat.zero_le _⟩ dX5_areTwo_10) ?_
    refine z_ifb_eq (tgt := 25) X dX5_areTwo_13 (by decide) (fun c_13 => ?_) (fun c_13 => ?_)
    · refine z_iconst X dX5_areTwo_25 ?_
      exact ret _ _ _ ((bz_f (by omega)).symm) dX5_areTwo_26
    · refine lv_iload_n X.1 X.2.1 dX5_areTwo_16 rfl (lv_at hl 1 rfl) ?_
      refine lv_iload_n X.1 X.2.1 dX5_areTwo_17 rfl (lv_at hl 2 rfl) ?_
      refine z_ic_eq (tgt := 25) X rp ro dX5_areTwo_18 (by decide) (fun c_18 => ?_) (fun c_18 => ?_)
      · refine z_iconst X dX5_areTwo_25 ?_
        exact ret _ _ _ ((bz_f (by omega)).symm) dX5_areTwo_26
      · refine z_iconst X dX5_areTwo_21 ?_
        refine lv_goto (tgt := 26) X.1 X.2.1 dX5_areTwo_22 (by decide) ?_
        exact ret _ _ _ ((bz_t (by omega)).symm) dX5_areTwo_26

set_option maxHeartbeats 4000000 in
theorem c_X5_sunNow (hR : RM mm A) (hI : IA A) (hh : hr A < 1000000) : MP E l yX5_sunNow cX5_sunNow 1 (some FieldType.int) (rmk 0 0) (wM E a (mm, kp, wa, (iv (ik)), fd, gf, tp, (iv (tn)), (iv (tk)), (iv (bg)), (iv (pt)), (iv (vl)), (iv (bd)), bt, sz, cl)) [.ref (a 0)] (sunN A) := by
  refine goP (by decide) (Nat.le_of_ble_eq_true rfl) ?_
  intro pp e s m below meth c ls args Q ret X h hl
  have hl : lv_has ls 1 [(0, .ref (a 0))] := hl
  have h0 := hI.h0
  refine lv_aload_n X.1 X.2.1 dX5_sunNow_0 rfl (lv_at hl 0 rfl) ?_
  refine z_get X h 4 0 0 rfl inX5 rfl (by decide) fl_X5_9 rfl dX5_sunNow_1 ?_
  refine z_iconst X dX5_sunNow_4 ?_
  refine lv_aload_n X.1 X.2.1 dX5_sunNow_5 rfl (lv_at hl 0 rfl) ?_
  refine z_get X h 4 0 0 rfl inX5 rfl (by decide) fl_X5_9 rfl dX5_sunNow_6 ?_
  refine z_iconst X dX5_sunNow_9 ?_
  refine z_iald (v := hr A) X h 1 rfl (by omega) (by omega) (by decide) hR.1 dX5_sunNow_10 ?_
  refine z_bipush X (by decide) dX5_sunNow_11 ?_
  refine z_irem X (by omega) (by omega) (by omega) (by omega) dX5_sunNow_13 ?_
  refine z_iadd X dX5_sunNow_14 ?_
  refine z_iald (v := sn A (((hr A) % (10)))) X h 1 rfl (by omega) (by omega) (by decide) (hR.2.2.1 (((hr A) % (10))) (by omega) (by omega)) dX5_sunNow_15 ?_
  exact ret _ _ _ (rfl) dX5_sunNow_16

set_option maxHeartbeats 4000000 in
theorem c_X5_sits (hR : RM mm A) (hI : IA A) {p : Int} (p0 : 0 ≤ p) (p1 : p < pe A) : MP E l yX5_sits cX5_sits 2 (some FieldType.boolean) (rmk 1 22) (wM E a (mm, kp, wa, (iv (ik)), fd, gf, tp, (iv (tn)), (iv (tk)), (iv (bg)), (iv (pt)), (iv (vl)), (iv (bd)), bt, sz, cl)) [.ref (a 0), .int (iv (p))] (bz (0 ≤ pr A 1 p)) := by
  refine goB (by decide) (Nat.le_of_ble_eq_true rfl) ?_
  intro pp e s m below meth c ls args Q ret X h hl
  have hl : lv_has ls 2 [(0, .ref (a 0)), (1, .int (iv (p)))] := hl
  have q := hI.gP p0 p1
  refine lv_aload_n X.1 X.2.1 dX5_sits_0 rfl (lv_at hl 0 rfl) ?_
  refine lv_iload_n X.1 X.2.1 dX5_sits_1 rfl (lv_at hl 1 rfl) ?_
  refine z_iconst X dX5_sits_2 ?_
  refine z_pi (run_V (rest := []) X h (c_X5_it (p := p) (w := 1) hR hI (by omega) (by omega) (by omega) (by omega)) mi_X5_it ml_X5_52 ⟨Nat.le_of_ble_eq_true rfl, Nat.le_of_ble_eq_true rfl⟩ ⟨rfl, rfl⟩ (Seg.rfl' _) 4 0 rfl rfl rfl rfl hl.1 rfl (Nat.le_of_ble_eq_true rfl) ⟨Nat.zero_le _, Nat.zero_le _⟩ dX5_sits_3) ?_
  refine z_if_lt (tgt := 13) X ⟨by omega, by omega⟩ dX5_sits_6 (by decide) (fun c_6 => ?_) (fun c_6 => ?_)
  · refine z_iconst X dX5_sits_13 ?_
    exact ret _ _ _ ((bz_f (by omega)).symm) dX5_sits_14
  · refine z_iconst X dX5_sits_9 ?_
    refine lv_goto (tgt := 14) X.1 X.2.1 dX5_sits_10 (by decide) ?_
    exact ret _ _ _ ((bz_t (by omega)).symm) dX5_sits_14

set_option maxHeartbeats 4000000 in
theorem c_X5_onChair (hR : RM mm A) (hI : IA A) {ch : Int} (rc : r32 ch) : MP E l yX5_onChair cX5_onChair 4 (some FieldType.int) (rmk 1 22) (wM E a (mm, kp, wa, (iv (ik)), fd, gf, tp, (iv (tn)), (iv (tk)), (iv (bg)), (iv (pt)), (iv (vl)), (iv (bd)), bt, sz, cl)) [.ref (a 0), .int (iv (ch))] (onC A ch) := by
  refine goP (by decide) (Nat.le_of_ble_eq_true rfl) ?_
  intro pp e s m below meth c ls args Q ret X h hl
  have hl : lv_has ls 4 [(0, .ref (a 0)), (1, .int (iv (ch)))] := hl
  have n8 := hI.n8
  have n0 := hI.n0
  refine z_iconst X dX5_onChair_0 ?_
  refine lv_istore_n (lv' := [(2, .int (iv ((-1)))), (0, .ref (a 0)), (1, .int (iv (ch)))]) X.1 X.2.1 dX5_onChair_1 rfl hl (by decide) rfl (fun ls hl => ?_)
  refine z_iconst X dX5_onChair_2 ?_
  refine lv_istore_n (lv' := [(3, .int (iv (0))), (2, .int (iv ((-1)))), (0, .ref (a 0)), (1, .int (iv (ch)))]) X.1 X.2.1 dX5_onChair_3 rfl hl (by decide) rfl (fun ls hl => ?_)
  have L4 : ∀ (n : Nat) (i : Int) (w : Int), 0 ≤ i → i ≤ pe A → w = onk A ch i.toNat → pe A - i < (n : Int) → ∀ ls : Array Slot, lv_has ls 4 [(0, .ref (a 0)), (1, .int (iv (ch))), (2, .int (iv (w))), (3, .int (iv (i)))] → W pp l e (rmk 1 22) s m args below meth c s.heap [] 0 0 Q (F0 m 4 ls []) := by
    intro n
    induction n with
    | zero =>
      intro i w i0 i1 hw hn
      exfalso; omega
    | succ n ih =>
      intro i w i0 i1 hw hn ls hl
      have rw9 : -1 ≤ w ∧ w ≤ 8 := by have := onk_rng A ch i.toNat; have := hI.n8; omega
      refine lv_iload_n X.1 X.2.1 dX5_onChair_4 rfl (lv_at hl 3 rfl) ?_
      refine lv_aload_n X.1 X.2.1 dX5_onChair_5 rfl (lv_at hl 0 rfl) ?_
      refine z_get X h 4 0 0 rfl inX5 rfl (by decide) fl_X5_9 rfl dX5_onChair_6 ?_
      refine z_iconst X dX5_onChair_9 ?_
      refine z_iald (v := pe A) X h 1 rfl (by omega) (by omega) (by decide) hR.2.1 dX5_onChair_10 ?_
      refine z_ic_ge (tgt := 36) X ⟨by omega, by omega⟩ ⟨by omega, by omega⟩ dX5_onChair_11 (by decide) (fun c_11 => ?_) (fun c_11 => ?_)
      · refine lv_iload_n X.1 X.2.1 dX5_onChair_36 rfl (lv_at hl 2 rfl) ?_
        exact ret _ _ _ (by rw [hw, onC, show i = pe A by omega]) dX5_onChair_37
      · have q := hI.gP (p := i) (by omega) (by omega)
        refine lv_aload_n X.1 X.2.1 dX5_onChair_14 rfl (lv_at hl 0 rfl) ?_
        refine lv_iload_n X.1 X.2.1 dX5_onChair_15 rfl (lv_at hl 3 rfl) ?_
        refine z_iconst X dX5_onChair_16 ?_
        refine z_pi (run_V (rest := []) X h (c_X5_it (p := i) (w := 1) hR hI (by omega) (by omega) (by omega) (by omega)) mi_X5_it ml_X5_52 ⟨Nat.le_of_ble_eq_true rfl, Nat.le_of_ble_eq_true rfl⟩ ⟨rfl, rfl⟩ (Seg.rfl' _) 4 0 rfl rfl rfl rfl hl.1 rfl (Nat.le_of_ble_eq_true rfl) ⟨Nat.zero_le _, Nat.zero_le _⟩ dX5_onChair_17) ?_
        refine lv_iload_n X.1 X.2.1 dX5_onChair_20 rfl (lv_at hl 1 rfl) ?_
        refine z_ic_ne (tgt := 28) X ⟨by omega, by omega⟩ rc dX5_onChair_21 (by decide) (fun c_21 => ?_) (fun c_21 => ?_)
        · refine lv_iload_n X.1 X.2.1 dX5_onChair_28 rfl (lv_at hl 2 rfl) ?_
          refine lv_istore_n (lv' := [(2, .int (iv (w))), (0, .ref (a 0)), (1, .int (iv (ch))), (3, .int (iv (i)))]) X.1 X.2.1 dX5_onChair_29 rfl hl (by decide) rfl (fun ls hl => ?_)
          refine z_iinc (k := 3) (lv' := [(3, .int (iv (i + 1))), (2, .int (iv (w))), (0, .ref (a 0)), (1, .int (iv (ch)))]) X dX5_onChair_30 hl rfl (by decide) rfl (fun ls hl => ?_)
          refine lv_goto (tgt := 4) X.1 X.2.1 dX5_onChair_33 (by decide) ?_
          exact ih (i + 1) (w) (by omega) (by omega) (by rw [show (i + 1).toNat = i.toNat + 1 by omega, onk, Int.toNat_of_nonneg i0]; rw [if_neg (by omega)]; exact hw) (by omega) ls (lv_sub hl [2, 3, 1, 0] rfl)
        · refine lv_iload_n X.1 X.2.1 dX5_onChair_24 rfl (lv_at hl 3 rfl) ?_
          refine lv_goto (tgt := 29) X.1 X.2.1 dX5_onChair_25 (by decide) ?_
          refine lv_istore_n (lv' := [(2, .int (iv (i))), (0, .ref (a 0)), (1, .int (iv (ch))), (3, .int (iv (i)))]) X.1 X.2.1 dX5_onChair_29 rfl hl (by decide) rfl (fun ls hl => ?_)
          refine z_iinc (k := 3) (lv' := [(3, .int (iv (i + 1))), (2, .int (iv (i))), (0, .ref (a 0)), (1, .int (iv (ch)))]) X dX5_onChair_30 hl rfl (by decide) rfl (fun ls hl => ?_)
          refine lv_goto (tgt := 4) X.1 X.2.1 dX5_onChair_33 (by decide) ?_
          exact ih (i + 1) (i) (by omega) (by omega) (by rw [show (i + 1).toNat = i.toNat + 1 by omega, onk, Int.toNat_of_nonneg i0]; rw [if_pos (by omega)]) (by omega) ls (lv_sub hl [2, 3, 1, 0] rfl)
  exact L4 ((pe A - (0)).toNat + 1) (0) (-1) (by omega) (hI.n0) (rfl) (by omega) ls (lv_sub hl [2, 3, 1, 0] rfl)
end
section
def sumk (A : Es) (w : Int) : Nat → Int
  | 0 => 0
  | k + 1 => sumk A w k + pr A w (k : Int)
def sums (A : Es) (w : Int) : Int := sumk A w (pe A).toNat
def allB (A : Es) : Int := sums A 2 + sums A 3
theorem sumk_rng {A : Es} (h : IA A) {w : Int} (w2 : w = 2 ∨ w = 3 ∨ w = 4) : ∀ k : Nat, (k : Int) ≤ pe A → 0 ≤ sumk A w k ∧ sumk A w k ≤ 9999 * (k : Int)
  | 0, _ => by simp [sumk]
  | k + 1, hk => by
    have ih := sumk_rng h w2 k (by omega)
    have q := h.gP (p := (k : Int)) (by omega) (by omega)
    have e : 0 ≤ pr A w (k : Int) ∧ pr A w (k : Int) ≤ 9999 := by rcases w2 with rfl | rfl | rfl <;> omega
    unfold sumk
    omega
theorem sums_rng {A : Es} (h : IA A) {w : Int} (w2 : w = 2 ∨ w = 3 ∨ w = 4) : 0 ≤ sums A w ∧ sums A w ≤ 80000 := by
  have := sumk_rng h w2 (pe A).toNat (by have := h.n0; omega)
  have := h.n8
  unfold sums
  omega
def bset (b : Int → Bool) : Nat → Int32
  | 0 => iv 0
  | k + 1 => bset b k ||| (if b (k : Int) = true then iv 1 <<< (iv (k : Int) &&& 31) else iv 0)
def sitB (A : Es) (p : Int) : Bool := decide (0 ≤ pr A 1 p)
def evB (A : Es) (p : Int) : Bool := decide (-5 ≤ pr A 2 p - pr A 3 p ∧ pr A 2 p - pr A 3 p ≤ 5)
def setS (A : Es) : Int := (bset (sitB A) (pe A).toNat).toInt
def setE (A : Es) : Int := (bset (evB A) (pe A).toNat).toInt
def cntk (b : Int → Bool) : Nat → Int
  | 0 => 0
  | k + 1 => cntk b k + (if b (k : Int) = true then 1 else 0)
def cntS (A : Es) : Int := cntk (sitB A) (pe A).toNat
theorem cntk_rng (b : Int → Bool) : ∀ k : Nat, 0 ≤ cntk b k ∧ cntk b k ≤ (k : Int)
  | 0 => by simp [cntk]
  | k + 1 => by
    have := cntk_rng b k
    unfold cntk
    split <;> omega
def sunk (A : Es) : Nat → Int
  | 0 => 0
  | k + 1 => sunk A k + sn A (k : Int)
def allS (A : Es) : Int := sunk A 10
def free (A : Es) (c p : Int) : Prop := onC A c < 0 ∨ onC A c = p
theorem tn1 {i : Int} (h : 0 ≤ i) : (i + 1).toNat = i.toNat + 1 := by omega
theorem tnc {i : Int} (h : 0 ≤ i) : ((i.toNat : Nat) : Int) = i := by omega
end
section
variable {E : EV} {l : Launch} {a : Nat → Nat} {mm kp wa fd gf tp bt sz : Nat → Int32} {cl : Nat → Int64} {ik tn tk bg pt vl bd : Int} {A : Es}
set_option maxHeartbeats 4000000 in
theorem c_X5_beside0 (hR : RM mm A) (hI : IA A) {p : Int} (p0 : 0 ≤ p) (p1 : p < pe A) : MP E l yX5_beside cX5_beside 4 (some FieldType.int) (rmk 2 45) (wM E a (mm, kp, wa, (iv (ik)), fd, gf, tp, (iv (tn)), (iv (tk)), (iv (bg)), (iv (pt)), (iv (vl)), (iv (bd)), bt, sz, cl)) [.ref (a 0), .int (iv (p)), .int (iv (0))] (nb A p (-1)) := by
  refine goP (by decide) (Nat.le_of_ble_eq_true rfl) ?_
  intro pp e s m below meth c ls args Q ret X h hl
  have hl : lv_has ls 4 [(0, .ref (a 0)), (1, .int (iv (p))), (2, .int (iv (0)))] := hl
  have q := hI.gP p0 p1
  refine lv_aload_n X.1 X.2.1 dX5_beside_0 rfl (lv_at hl 0 rfl) ?_
  refine lv_iload_n X.1 X.2.1 dX5_beside_1 rfl (lv_at hl 1 rfl) ?_
  refine z_iconst X dX5_beside_2 ?_
  refine z_pi (run_V (rest := []) X h (c_X5_it (p := p) (w := 1) hR hI (by omega) (by omega) (by omega) (by omega)) mi_X5_it ml_X5_52 ⟨Nat.le_of_ble_eq_true rfl, Nat.le_of_ble_eq_true rfl⟩ ⟨rfl, rfl⟩ (Seg.rfl' _) 4 0 rfl rfl rfl rfl hl.1 rfl (Nat.le_of_ble_eq_true rfl) ⟨Nat.zero_le _, Nat.zero_le _⟩ dX5_beside_3) ?_
  refine lv_iload_n X.1 X.2.1 dX5_beside_6 rfl (lv_at hl 2 rfl) ?_
  refine z_if_ne (tgt := 14) X ⟨by decide, by decide⟩ dX5_beside_7 (by decide) (fun c_7 => ?_) (fun c_7 => ?_)
  · exact absurd c_7 (by decide)
  · refine z_iconst X dX5_beside_10 ?_
    refine lv_goto (tgt := 15) X.1 X.2.1 dX5_beside_11 (by decide) ?_
    refine z_iadd X dX5_beside_15 ?_
    refine lv_istore_n (lv' := [(3, .int (iv (pr A 1 p + (-1)))), (0, .ref (a 0)), (1, .int (iv (p))), (2, .int (iv (0)))]) X.1 X.2.1 dX5_beside_16 rfl hl (by decide) rfl (fun ls hl => ?_)
    refine lv_aload_n X.1 X.2.1 dX5_beside_17 rfl (lv_at hl 1 rfl) ?_
    refine lv_iload_n X.1 X.2.1 dX5_beside_18 rfl (lv_at hl 2 rfl) ?_
    refine z_pi (run_V (rest := []) X h (c_X5_sits (p := p) hR hI (by omega) (by omega)) mi_X5_sits ml_X5_56 ⟨Nat.le_of_ble_eq_true rfl, Nat.le_of_ble_eq_true rfl⟩ ⟨rfl, rfl⟩ (Seg.rfl' _) 4 0 rfl rfl rfl rfl hl.1 rfl (Nat.le_of_ble_eq_true rfl) ⟨Nat.zero_le _, Nat.zero_le _⟩ dX5_beside_19) ?_
    refine z_ifb_eq (tgt := 36) X dX5_beside_22 (by decide) (fun c_22 => ?_) (fun c_22 => ?_)
    · refine z_iconst X dX5_beside_36 ?_
      refine lv_goto (tgt := 45) X.1 X.2.1 dX5_beside_37 (by decide) ?_
      exact ret _ _ _ (by unfold nb; rw [if_neg (by omega)]) dX5_beside_45
    · refine lv_iload_n X.1 X.2.1 dX5_beside_25 rfl (lv_at hl 0 rfl) ?_
      refine lv_i2l (v := (iv (pr A 1 p + (-1))).toInt64) X.1 X.2.1 dX5_beside_26 rfl ?_
      refine z_iconst X dX5_beside_27 ?_
      refine z_bipush X (by decide) dX5_beside_28 ?_
      refine z_pi (run_S (rest := []) X h (c_inI ⟨by omega, by omega⟩ ⟨by decide, by decide⟩ ⟨by decide, by decide⟩) mi_X5_in ml_X5_44 ⟨Nat.le_of_ble_eq_true rfl, Nat.le_of_ble_eq_true rfl⟩ ⟨rfl, rfl⟩ (Seg.nil _) rfl hl.1 rfl (Nat.le_of_ble_eq_true rfl) ⟨Nat.zero_le _, Nat.zero_le _⟩ dX5_beside_30) ?_
      refine z_ifb_ne (tgt := 40) X dX5_beside_33 (by decide) (fun c_33 => ?_) (fun c_33 => ?_)
      · refine lv_aload_n X.1 X.2.1 dX5_beside_40 rfl (lv_at hl 1 rfl) ?_
        refine lv_iload_n X.1 X.2.1 dX5_beside_41 rfl (lv_at hl 0 rfl) ?_
        refine z_pi (run_V (rest := []) X h (c_X5_onChair (ch := pr A 1 p + (-1)) hR hI ⟨by omega, by omega⟩) mi_X5_onChair ml_X5_59 ⟨Nat.le_of_ble_eq_true rfl, Nat.le_of_ble_eq_true rfl⟩ ⟨rfl, rfl⟩ (Seg.rfl' _) 4 0 rfl rfl rfl rfl hl.1 rfl (Nat.le_of_ble_eq_true rfl) ⟨Nat.zero_le _, Nat.zero_le _⟩ dX5_beside_42) ?_
        exact ret _ _ _ (by unfold nb; rw [if_pos (by omega)]) dX5_beside_45
      · refine z_iconst X dX5_beside_36 ?_
        refine lv_goto (tgt := 45) X.1 X.2.1 dX5_beside_37 (by decide) ?_
        exact ret _ _ _ (by unfold nb; rw [if_neg (by omega)]) dX5_beside_45

set_option maxHeartbeats 4000000 in
theorem c_X5_beside1 (hR : RM mm A) (hI : IA A) {p : Int} (p0 : 0 ≤ p) (p1 : p < pe A) : MP E l yX5_beside cX5_beside 4 (some FieldType.int) (rmk 2 45) (wM E a (mm, kp, wa, (iv (ik)), fd, gf, tp, (iv (tn)), (iv (tk)), (iv (bg)), (iv (pt)), (iv (vl)), (iv (bd)), bt, sz, cl)) [.ref (a 0), .int (iv (p)), .int (iv (1))] (nb A p 1) := by
  refine goP (by decide) (Nat.le_of_ble_eq_true rfl) ?_
  intro pp e s m below meth c ls args Q ret X h hl
  have hl : lv_has ls 4 [(0, .ref (a 0)), (1, .int (iv (p))), (2, .int (iv (1)))] := hl
  have q := hI.gP p0 p1
  refine lv_aload_n X.1 X.2.1 dX5_beside_0 rfl (lv_at hl 0 rfl) ?_
  refine lv_iload_n X.1 X.2.1 dX5_beside_1 rfl (lv_at hl 1 rfl) ?_
  refine z_iconst X dX5_beside_2 ?_
  refine z_pi (run_V (rest := []) X h (c_X5_it (p := p) (w := 1) hR hI (by omega) (by omega) (by omega) (by omega)) mi_X5_it ml_X5_52 ⟨Nat.le_of_ble_eq_true rfl, Nat.le_of_ble_eq_true rfl⟩ ⟨rfl, rfl⟩ (Seg.rfl' _) 4 0 rfl rfl rfl rfl hl.1 rfl (Nat.le_of_ble_eq_true rfl) ⟨Nat.zero_le _, Nat.zero_le _⟩ dX5_beside_3) ?_
  refine lv_iload_n X.1 X.2.1 dX5_beside_6 rfl (lv_at hl 2 rfl) ?_
  refine z_if_ne (tgt := 14) X ⟨by decide, by decide⟩ dX5_beside_7 (by decide) (fun c_7 => ?_) (fun c_7 => ?_)
  · refine z_iconst X dX5_beside_14 ?_
    refine z_iadd X dX5_beside_15 ?_
    refine lv_istore_n (lv' := [(3, .int (iv (pr A 1 p + 1))), (0, .ref (a 0)), (1, .int (iv (p))), (2, .int (iv (1)))]) X.1 X.2.1 dX5_beside_16 rfl hl (by decide) rfl (fun ls hl => ?_)
    refine lv_aload_n X.1 X.2.1 dX5_beside_17 rfl (lv_at hl 1 rfl) ?_
    refine lv_iload_n X.1 X.2.1 dX5_beside_18 rfl (lv_at hl 2 rfl) ?_
    refine z_pi (run_V (rest := []) X h (c_X5_sits (p := p) hR hI (by omega) (by omega)) mi_X5_sits ml_X5_56 ⟨Nat.le_of_ble_eq_true rfl, Nat.le_of_ble_eq_true rfl⟩ ⟨rfl, rfl⟩ (Seg.rfl' _) 4 0 rfl rfl rfl rfl hl.1 rfl (Nat.le_of_ble_eq_true rfl) ⟨Nat.zero_le _, Nat.zero_le _⟩ dX5_beside_19) ?_
    refine z_ifb_eq (tgt := 36) X dX5_beside_22 (by decide) (fun c_22 => ?_) (fun c_22 => ?_)
    · refine z_iconst X dX5_beside_36 ?_
      refine lv_goto (tgt := 45) X.1 X.2.1 dX5_beside_37 (by decide) ?_
      exact ret _ _ _ (by unfold nb; rw [if_neg (by omega)]) dX5_beside_45
    · refine lv_iload_n X.1 X.2.1 dX5_beside_25 rfl (lv_at hl 0 rfl) ?_
      refine lv_i2l (v := (iv (pr A 1 p + 1)).toInt64) X.1 X.2.1 dX5_beside_26 rfl ?_
      refine z_iconst X dX5_beside_27 ?_
      refine z_bipush X (by decide) dX5_beside_28 ?_
      refine z_pi (run_S (rest := []) X h (c_inI ⟨by omega, by omega⟩ ⟨by decide, by decide⟩ ⟨by decide, by decide⟩) mi_X5_in ml_X5_44 ⟨Nat.le_of_ble_eq_true rfl, Nat.le_of_ble_eq_true rfl⟩ ⟨rfl, rfl⟩ (Seg.nil _) rfl hl.1 rfl (Nat.le_of_ble_eq_true rfl) ⟨Nat.zero_le _, Nat.zero_le _⟩ dX5_beside_30) ?_
      refine z_ifb_ne (tgt := 40) X dX5_beside_33 (by decide) (fun c_33 => ?_) (fun c_33 => ?_)
      · refine lv_aload_n X.1 X.2.1 dX5_beside_40 rfl (lv_at hl 1 rfl) ?_
        refine lv_iload_n X.1 X.2.1 dX5_beside_41 rfl (lv_at hl 0 rfl) ?_
        refine z_pi (run_V (rest := []) X h (c_X5_onChair (ch := pr A 1 p + 1) hR hI ⟨by omega, by omega⟩) mi_X5_onChair ml_X5_59 ⟨Nat.le_of_ble_eq_true rfl, Nat.le_of_ble_eq_true rfl⟩ ⟨rfl, rfl⟩ (Seg.rfl' _) 4 0 rfl rfl rfl rfl hl.1 rfl (Nat.le_of_ble_eq_true rfl) ⟨Nat.zero_le _, Nat.zero_le _⟩ dX5_beside_42) ?_
        exact ret _ _ _ (by unfold nb; rw [if_pos (by omega)]) dX5_beside_45
      · refine z_iconst X dX5_beside_36 ?_
        refine lv_goto (tgt := 45) X.1 X.2.1 dX5_beside_37 (by decide) ?_
        exact ret _ _ _ (by unfold nb; rw [if_neg (by omega)]) dX5_beside_45
  · exact absurd c_7 (by decide)

set_option maxHeartbeats 4000000 in
theorem c_X5_glows (hR : RM mm A) (hI : IA A) (hh : hr A < 1000000) {p b t : Int} (p0 : 0 ≤ p) (p1 : p < pe A) (b0 : 0 ≤ b) (b1 : b ≤ 200) (t0 : 0 ≤ t) (t1 : t < pe A) : MP E l yX5_glows cX5_glows 7 (some FieldType.int) (rmk 1 22) (wM E a (mm, kp, wa, (iv (ik)), fd, gf, tp, (iv (tn)), (iv (tk)), (iv (bg)), (iv (pt)), (iv (vl)), (iv (bd)), bt, sz, cl)) [.ref (a 0), .int (iv (p)), .int (iv (b)), .int (iv (t))] (glow (pr A 0 p) b (sunN A) (pr A 0 t)) := by
  refine goP (by decide) (Nat.le_of_ble_eq_true rfl) ?_
  intro pp e s m below meth c ls args Q ret X h hl
  have hl : lv_has ls 7 [(0, .ref (a 0)), (1, .int (iv (p))), (2, .int (iv (b))), (3, .int (iv (t)))] := hl
  have q := hI.gP p0 p1
  have qt := hI.gP t0 t1
  have sr := sunN_rng hI
  have gr := guest_rng b0 b1 sr.1 sr.2
  refine lv_aload_n X.1 X.2.1 dX5_glows_0 rfl (lv_at hl 0 rfl) ?_
  refine z_pi (run_V (rest := []) X h (c_X5_sunNow hR hI hh) mi_X5_sunNow ml_X5_62 ⟨Nat.le_of_ble_eq_true rfl, Nat.le_of_ble_eq_true rfl⟩ ⟨rfl, rfl⟩ (Seg.rfl' _) 4 0 rfl rfl rfl rfl hl.1 rfl (Nat.le_of_ble_eq_true rfl) ⟨Nat.zero_le _, Nat.zero_le _⟩ dX5_glows_1) ?_
  refine lv_istore (lv' := [(4, .int (iv (sunN A))), (0, .ref (a 0)), (1, .int (iv (p))), (2, .int (iv (b))), (3, .int (iv (t)))]) X.1 X.2.1 dX5_glows_4 hl (by decide) rfl (fun ls hl => ?_)
  refine lv_iload_n X.1 X.2.1 dX5_glows_6 rfl (lv_at hl 3 rfl) ?_
  refine z_bipush X (by decide) dX5_glows_7 ?_
  refine z_idiv X (by omega) (by omega) (by omega) (by omega) dX5_glows_9 ?_
  refine lv_iload X.1 X.2.1 dX5_glows_10 (lv_at hl 0 rfl) ?_
  refine z_imul X dX5_glows_12 ?_
  refine z_bipush X (by decide) dX5_glows_13 ?_
  refine z_idiv X (by omega) (by omega) (by omega) (by omega) dX5_glows_15 ?_
  refine lv_istore (lv' := [(5, .int (iv ((((b) / (20)) * (sunN A)) / (9)))), (4, .int (iv (sunN A))), (0, .ref (a 0)), (1, .int (iv (p))), (2, .int (iv (b))), (3, .int (iv (t)))]) X.1 X.2.1 dX5_glows_16 hl (by decide) rfl (fun ls hl => ?_)
  refine lv_aload_n X.1 X.2.1 dX5_glows_18 rfl (lv_at hl 2 rfl) ?_
  refine lv_iload_n X.1 X.2.1 dX5_glows_19 rfl (lv_at hl 5 rfl) ?_
  refine z_iconst X dX5_glows_20 ?_
  refine z_pi (run_V (rest := []) X h (c_X5_it (p := t) (w := 0) hR hI (by omega) (by omega) (by omega) (by omega)) mi_X5_it ml_X5_52 ⟨Nat.le_of_ble_eq_true rfl, Nat.le_of_ble_eq_true rfl⟩ ⟨rfl, rfl⟩ (Seg.rfl' _) 4 0 rfl rfl rfl rfl hl.1 rfl (Nat.le_of_ble_eq_true rfl) ⟨Nat.zero_le _, Nat.zero_le _⟩ dX5_glows_21) ?_
  refine z_iconst X dX5_glows_24 ?_
  refine z_ic_ne (tgt := 37) X ⟨by omega, by omega⟩ ⟨by decide, by decide⟩ dX5_glows_25 (by decide) (fun c_25 => ?_) (fun c_25 => ?_)
  · refine lv_iload X.1 X.2.1 dX5_glows_37 (lv_at hl 0 rfl) ?_
    refine z_iconst X dX5_glows_39 ?_
    refine z_idiv X (by omega) (by omega) (by omega) (by omega) dX5_glows_40 ?_
    refine lv_istore (lv' := [(6, .int (iv (((((b) / (20)) * (sunN A)) / (9)) / (2)))), (5, .int (iv ((((b) / (20)) * (sunN A)) / (9)))), (4, .int (iv (sunN A))), (0, .ref (a 0)), (1, .int (iv (p))), (2, .int (iv (b))), (3, .int (iv (t)))]) X.1 X.2.1 dX5_glows_41 hl (by decide) rfl (fun ls hl => ?_)
    refine lv_iload X.1 X.2.1 dX5_glows_43 (lv_at hl 2 rfl) ?_
    refine z_if_ne (tgt := 50) X ⟨by omega, by omega⟩ dX5_glows_45 (by decide) (fun c_45 => ?_) (fun c_45 => ?_)
    · refine lv_aload_n X.1 X.2.1 dX5_glows_50 rfl (lv_at hl 3 rfl) ?_
      refine lv_iload_n X.1 X.2.1 dX5_glows_51 rfl (lv_at hl 4 rfl) ?_
      refine z_iconst X dX5_glows_52 ?_
      refine z_pi (run_V (rest := []) X h (c_X5_it (p := p) (w := 0) hR hI (by omega) (by omega) (by omega) (by omega)) mi_X5_it ml_X5_52 ⟨Nat.le_of_ble_eq_true rfl, Nat.le_of_ble_eq_true rfl⟩ ⟨rfl, rfl⟩ (Seg.rfl' _) 4 0 rfl rfl rfl rfl hl.1 rfl (Nat.le_of_ble_eq_true rfl) ⟨Nat.zero_le _, Nat.zero_le _⟩ dX5_glows_53) ?_
      rcases (show pr A 0 p = 1 ∨ pr A 0 p = 2 ∨ pr A 0 p = 3 ∨ pr A 0 p = 4 ∨ pr A 0 p = 5 ∨ (pr A 0 p < 1 ∨ 5 < pr A 0 p) by omega) with c_56 | c_56 | c_56 | c_56 | c_56 | c_56
      · refine z_tabIn (tgt := 92) X 1 c_56 ⟨by decide, by decide⟩ (by decide) (by decide) dX5_glows_56 rfl (by decide) ?_
        refine lv_iload X.1 X.2.1 dX5_glows_92 (lv_at hl 1 rfl) ?_
        refine z_iconst X dX5_glows_94 ?_
        refine z_iadd X dX5_glows_95 ?_
        exact ret _ _ _ (by unfold glow; (repeat' split) <;> omega) dX5_glows_96
      · refine z_tabIn (tgt := 97) X 2 c_56 ⟨by decide, by decide⟩ (by decide) (by decide) dX5_glows_56 rfl (by decide) ?_
        refine lv_iload X.1 X.2.1 dX5_glows_97 (lv_at hl 1 rfl) ?_
        refine z_iconst X dX5_glows_99 ?_
        refine z_idiv X (by omega) (by omega) (by omega) (by omega) dX5_glows_100 ?_
        exact ret _ _ _ (by unfold glow; (repeat' split) <;> omega) dX5_glows_101
      · refine z_tabIn (tgt := 102) X 3 c_56 ⟨by decide, by decide⟩ (by decide) (by decide) dX5_glows_56 rfl (by decide) ?_
        refine z_bipush X (by decide) dX5_glows_102 ?_
        exact ret _ _ _ (by unfold glow; (repeat' split) <;> omega) dX5_glows_104
      · refine z_tabIn (tgt := 105) X 4 c_56 ⟨by decide, by decide⟩ (by decide) (by decide) dX5_glows_56 rfl (by decide) ?_
        refine lv_iload X.1 X.2.1 dX5_glows_105 (lv_at hl 0 rfl) ?_
        exact ret _ _ _ (by unfold glow; (repeat' split) <;> omega) dX5_glows_107
      · refine z_tabIn (tgt := 108) X 5 c_56 ⟨by decide, by decide⟩ (by decide) (by decide) dX5_glows_56 rfl (by decide) ?_
        refine lv_iload X.1 X.2.1 dX5_glows_108 (lv_at hl 1 rfl) ?_
        refine z_iconst X dX5_glows_110 ?_
        refine z_ic_le (tgt := 121) X ⟨by omega, by omega⟩ ⟨by decide, by decide⟩ dX5_glows_111 (by decide) (fun c_111 => ?_) (fun c_111 => ?_)
        · refine z_iconst X dX5_glows_121 ?_
          exact ret _ _ _ (by unfold glow; (repeat' split) <;> omega) dX5_glows_122
        · refine lv_iload X.1 X.2.1 dX5_glows_114 (lv_at hl 1 rfl) ?_
          refine z_iconst X dX5_glows_116 ?_
          refine z_isub X dX5_glows_117 ?_
          refine lv_goto (tgt := 122) X.1 X.2.1 dX5_glows_118 (by decide) ?_
          exact ret _ _ _ (by unfold glow; (repeat' split) <;> omega) dX5_glows_122
      · refine z_tabOut (tgt := 123) X ⟨by omega, by omega⟩ c_56 dX5_glows_56 (by decide) ?_
        refine lv_iload X.1 X.2.1 dX5_glows_123 (lv_at hl 1 rfl) ?_
        exact ret _ _ _ (by unfold glow; (repeat' split) <;> omega) dX5_glows_125
    · refine z_iconst X dX5_glows_48 ?_
      exact ret _ _ _ (by unfold glow; (repeat' split) <;> omega) dX5_glows_49
  · refine z_iconst X dX5_glows_28 ?_
    refine lv_iload X.1 X.2.1 dX5_glows_29 (lv_at hl 0 rfl) ?_
    refine z_iconst X dX5_glows_31 ?_
    refine z_idiv X (by omega) (by omega) (by omega) (by omega) dX5_glows_32 ?_
    refine z_imul X dX5_glows_33 ?_
    refine lv_goto (tgt := 41) X.1 X.2.1 dX5_glows_34 (by decide) ?_
    refine lv_istore (lv' := [(6, .int (iv (2 * (((((b) / (20)) * (sunN A)) / (9)) / (2))))), (5, .int (iv ((((b) / (20)) * (sunN A)) / (9)))), (4, .int (iv (sunN A))), (0, .ref (a 0)), (1, .int (iv (p))), (2, .int (iv (b))), (3, .int (iv (t)))]) X.1 X.2.1 dX5_glows_41 hl (by decide) rfl (fun ls hl => ?_)
    refine lv_iload X.1 X.2.1 dX5_glows_43 (lv_at hl 2 rfl) ?_
    refine z_if_ne (tgt := 50) X ⟨by omega, by omega⟩ dX5_glows_45 (by decide) (fun c_45 => ?_) (fun c_45 => ?_)
    · refine lv_aload_n X.1 X.2.1 dX5_glows_50 rfl (lv_at hl 3 rfl) ?_
      refine lv_iload_n X.1 X.2.1 dX5_glows_51 rfl (lv_at hl 4 rfl) ?_
      refine z_iconst X dX5_glows_52 ?_
      refine z_pi (run_V (rest := []) X h (c_X5_it (p := p) (w := 0) hR hI (by omega) (by omega) (by omega) (by omega)) mi_X5_it ml_X5_52 ⟨Nat.le_of_ble_eq_true rfl, Nat.le_of_ble_eq_true rfl⟩ ⟨rfl, rfl⟩ (Seg.rfl' _) 4 0 rfl rfl rfl rfl hl.1 rfl (Nat.le_of_ble_eq_true rfl) ⟨Nat.zero_le _, Nat.zero_le _⟩ dX5_glows_53) ?_
      rcases (show pr A 0 p = 1 ∨ pr A 0 p = 2 ∨ pr A 0 p = 3 ∨ pr A 0 p = 4 ∨ pr A 0 p = 5 ∨ (pr A 0 p < 1 ∨ 5 < pr A 0 p) by omega) with c_56 | c_56 | c_56 | c_56 | c_56 | c_56
      · refine z_tabIn (tgt := 92) X 1 c_56 ⟨by decide, by decide⟩ (by decide) (by decide) dX5_glows_56 rfl (by decide) ?_
        refine lv_iload X.1 X.2.1 dX5_glows_92 (lv_at hl 1 rfl) ?_
        refine z_iconst X dX5_glows_94 ?_
        refine z_iadd X dX5_glows_95 ?_
        exact ret _ _ _ (by unfold glow; (repeat' split) <;> omega) dX5_glows_96
      · refine z_tabIn (tgt := 97) X 2 c_56 ⟨by decide, by decide⟩ (by decide) (by decide) dX5_glows_56 rfl (by decide) ?_
        refine lv_iload X.1 X.2.1 dX5_glows_97 (lv_at hl 1 rfl) ?_
        refine z_iconst X dX5_glows_99 ?_
        refine z_idiv X (by omega) (by omega) (by omega) (by omega) dX5_glows_100 ?_
        exact ret _ _ _ (by unfold glow; (repeat' split) <;> omega) dX5_glows_101
      · refine z_tabIn (tgt := 102) X 3 c_56 ⟨by decide, by decide⟩ (by decide) (by decide) dX5_glows_56 rfl (by decide) ?_
        refine z_bipush X (by decide) dX5_glows_102 ?_
        exact ret _ _ _ (by unfold glow; (repeat' split) <;> omega) dX5_glows_104
      · refine z_tabIn (tgt := 105) X 4 c_56 ⟨by decide, by decide⟩ (by decide) (by decide) dX5_glows_56 rfl (by decide) ?_
        refine lv_iload X.1 X.2.1 dX5_glows_105 (lv_at hl 0 rfl) ?_
        exact ret _ _ _ (by unfold glow; (repeat' split) <;> omega) dX5_glows_107
      · refine z_tabIn (tgt := 108) X 5 c_56 ⟨by decide, by decide⟩ (by decide) (by decide) dX5_glows_56 rfl (by decide) ?_
        refine lv_iload X.1 X.2.1 dX5_glows_108 (lv_at hl 1 rfl) ?_
        refine z_iconst X dX5_glows_110 ?_
        refine z_ic_le (tgt := 121) X ⟨by omega, by omega⟩ ⟨by decide, by decide⟩ dX5_glows_111 (by decide) (fun c_111 => ?_) (fun c_111 => ?_)
        · refine z_iconst X dX5_glows_121 ?_
          exact ret _ _ _ (by unfold glow; (repeat' split) <;> omega) dX5_glows_122
        · refine lv_iload X.1 X.2.1 dX5_glows_114 (lv_at hl 1 rfl) ?_
          refine z_iconst X dX5_glows_116 ?_
          refine z_isub X dX5_glows_117 ?_
          refine lv_goto (tgt := 122) X.1 X.2.1 dX5_glows_118 (by decide) ?_
          exact ret _ _ _ (by unfold glow; (repeat' split) <;> omega) dX5_glows_122
      · refine z_tabOut (tgt := 123) X ⟨by omega, by omega⟩ c_56 dX5_glows_56 (by decide) ?_
        refine lv_iload X.1 X.2.1 dX5_glows_123 (lv_at hl 1 rfl) ?_
        exact ret _ _ _ (by unfold glow; (repeat' split) <;> omega) dX5_glows_125
    · refine z_iconst X dX5_glows_48 ?_
      exact ret _ _ _ (by unfold glow; (repeat' split) <;> omega) dX5_glows_49

set_option maxHeartbeats 4000000 in
theorem c_X5_takesOf (hR : RM mm A) (hI : IA A) {p : Int} (p0 : 0 ≤ p) (p1 : p < pe A) {gi : Int} (g0 : 0 ≤ gi) (g1 : gi ≤ 13) : MP E l yX5_takesOf cX5_takesOf 3 (some FieldType.int) (rmk 1 22) (wM E a (mm, kp, wa, (iv (ik)), fd, gf, tp, (iv (tn)), (iv (tk)), (iv (bg)), (iv (pt)), (iv (vl)), (iv (bd)), bt, sz, cl)) [.ref (a 0), .int (iv (p)), .int (iv (gi))] (take (pr A 0 p) gi) := by
  refine goP (by decide) (Nat.le_of_ble_eq_true rfl) ?_
  intro pp e s m below meth c ls args Q ret X h hl
  have hl : lv_has ls 3 [(0, .ref (a 0)), (1, .int (iv (p))), (2, .int (iv (gi)))] := hl
  have q := hI.gP p0 p1
  refine lv_aload_n X.1 X.2.1 dX5_takesOf_0 rfl (lv_at hl 0 rfl) ?_
  refine lv_iload_n X.1 X.2.1 dX5_takesOf_1 rfl (lv_at hl 1 rfl) ?_
  refine z_iconst X dX5_takesOf_2 ?_
  refine z_pi (run_V (rest := []) X h (c_X5_it (p := p) (w := 0) hR hI (by omega) (by omega) (by omega) (by omega)) mi_X5_it ml_X5_52 ⟨Nat.le_of_ble_eq_true rfl, Nat.le_of_ble_eq_true rfl⟩ ⟨rfl, rfl⟩ (Seg.rfl' _) 4 0 rfl rfl rfl rfl hl.1 rfl (Nat.le_of_ble_eq_true rfl) ⟨Nat.zero_le _, Nat.zero_le _⟩ dX5_takesOf_3) ?_
  rcases (show pr A 0 p = 1 ∨ pr A 0 p = 2 ∨ pr A 0 p = 3 ∨ pr A 0 p = 4 ∨ pr A 0 p = 5 ∨ (pr A 0 p < 1 ∨ 5 < pr A 0 p) by omega) with c_6 | c_6 | c_6 | c_6 | c_6 | c_6
  · refine z_tabIn (tgt := 40) X 1 c_6 ⟨by decide, by decide⟩ (by decide) (by decide) dX5_takesOf_6 rfl (by decide) ?_
    refine lv_iload_n X.1 X.2.1 dX5_takesOf_40 rfl (lv_at hl 2 rfl) ?_
    refine z_iconst X dX5_takesOf_41 ?_
    refine z_idiv X (by omega) (by omega) (by omega) (by omega) dX5_takesOf_42 ?_
    exact ret _ _ _ (by unfold take; (repeat' split) <;> omega) dX5_takesOf_43
  · refine z_tabIn (tgt := 44) X 2 c_6 ⟨by decide, by decide⟩ (by decide) (by decide) dX5_takesOf_6 rfl (by decide) ?_
    refine lv_iload_n X.1 X.2.1 dX5_takesOf_44 rfl (lv_at hl 2 rfl) ?_
    refine z_if_le (tgt := 54) X ⟨by omega, by omega⟩ dX5_takesOf_45 (by decide) (fun c_45 => ?_) (fun c_45 => ?_)
    · refine z_iconst X dX5_takesOf_54 ?_
      exact ret _ _ _ (by unfold take; (repeat' split) <;> omega) dX5_takesOf_55
    · refine lv_iload_n X.1 X.2.1 dX5_takesOf_48 rfl (lv_at hl 2 rfl) ?_
      refine z_iconst X dX5_takesOf_49 ?_
      refine z_iadd X dX5_takesOf_50 ?_
      refine lv_goto (tgt := 55) X.1 X.2.1 dX5_takesOf_51 (by decide) ?_
      exact ret _ _ _ (by unfold take; (repeat' split) <;> omega) dX5_takesOf_55
  · refine z_tabIn (tgt := 56) X 3 c_6 ⟨by decide, by decide⟩ (by decide) (by decide) dX5_takesOf_6 rfl (by decide) ?_
    refine z_iconst X dX5_takesOf_56 ?_
    exact ret _ _ _ (by unfold take; (repeat' split) <;> omega) dX5_takesOf_57
  · refine z_tabIn (tgt := 44) X 4 c_6 ⟨by decide, by decide⟩ (by decide) (by decide) dX5_takesOf_6 rfl (by decide) ?_
    refine lv_iload_n X.1 X.2.1 dX5_takesOf_44 rfl (lv_at hl 2 rfl) ?_
    refine z_if_le (tgt := 54) X ⟨by omega, by omega⟩ dX5_takesOf_45 (by decide) (fun c_45 => ?_) (fun c_45 => ?_)
    · refine z_iconst X dX5_takesOf_54 ?_
      exact ret _ _ _ (by unfold take; (repeat' split) <;> omega) dX5_takesOf_55
    · refine lv_iload_n X.1 X.2.1 dX5_takesOf_48 rfl (lv_at hl 2 rfl) ?_
      refine z_iconst X dX5_takesOf_49 ?_
      refine z_iadd X dX5_takesOf_50 ?_
      refine lv_goto (tgt := 55) X.1 X.2.1 dX5_takesOf_51 (by decide) ?_
      exact ret _ _ _ (by unfold take; (repeat' split) <;> omega) dX5_takesOf_55
  · refine z_tabIn (tgt := 58) X 5 c_6 ⟨by decide, by decide⟩ (by decide) (by decide) dX5_takesOf_6 rfl (by decide) ?_
    refine lv_iload_n X.1 X.2.1 dX5_takesOf_58 rfl (lv_at hl 2 rfl) ?_
    refine z_if_le (tgt := 70) X ⟨by omega, by omega⟩ dX5_takesOf_59 (by decide) (fun c_59 => ?_) (fun c_59 => ?_)
    · refine z_iconst X dX5_takesOf_70 ?_
      exact ret _ _ _ (by unfold take; (repeat' split) <;> omega) dX5_takesOf_71
    · refine lv_iload_n X.1 X.2.1 dX5_takesOf_62 rfl (lv_at hl 2 rfl) ?_
      refine z_iconst X dX5_takesOf_63 ?_
      refine z_idiv X (by omega) (by omega) (by omega) (by omega) dX5_takesOf_64 ?_
      refine z_iconst X dX5_takesOf_65 ?_
      refine z_iadd X dX5_takesOf_66 ?_
      refine lv_goto (tgt := 71) X.1 X.2.1 dX5_takesOf_67 (by decide) ?_
      exact ret _ _ _ (by unfold take; (repeat' split) <;> omega) dX5_takesOf_71
  · refine z_tabOut (tgt := 72) X ⟨by omega, by omega⟩ c_6 dX5_takesOf_6 (by decide) ?_
    refine lv_iload_n X.1 X.2.1 dX5_takesOf_72 rfl (lv_at hl 2 rfl) ?_
    exact ret _ _ _ (by unfold take; (repeat' split) <;> omega) dX5_takesOf_73

set_option maxHeartbeats 4000000 in
theorem c_X5_fades (hR : RM mm A) (hI : IA A) (hh : hr A < 1000000) {p : Int} (p0 : 0 ≤ p) (p1 : p < pe A) : MP E l yX5_fades cX5_fades 3 (some FieldType.int) (rmk 3 68) (wM E a (mm, kp, wa, (iv (ik)), fd, gf, tp, (iv (tn)), (iv (tk)), (iv (bg)), (iv (pt)), (iv (vl)), (iv (bd)), bt, sz, cl)) [.ref (a 0), .int (iv (p))] (fdO A p) := by
  refine goP (by decide) (Nat.le_of_ble_eq_true rfl) ?_
  intro pp e s m below meth c ls args Q ret X h hl
  have hl : lv_has ls 3 [(0, .ref (a 0)), (1, .int (iv (p)))] := hl
  have q := hI.gP p0 p1
  have sr := sunN_rng hI
  have b0 := nb_rng hI p (-1)
  have b1 := nb_rng hI p 1
  refine lv_aload_n X.1 X.2.1 dX5_fades_0 rfl (lv_at hl 0 rfl) ?_
  refine z_pi (run_V (rest := []) X h (c_X5_sunNow hR hI hh) mi_X5_sunNow ml_X5_62 ⟨Nat.le_of_ble_eq_true rfl, Nat.le_of_ble_eq_true rfl⟩ ⟨rfl, rfl⟩ (Seg.rfl' _) 4 0 rfl rfl rfl rfl hl.1 rfl (Nat.le_of_ble_eq_true rfl) ⟨Nat.zero_le _, Nat.zero_le _⟩ dX5_fades_1) ?_
  refine z_if_ne (tgt := 11) X ⟨by omega, by omega⟩ dX5_fades_4 (by decide) (fun c_4 => ?_) (fun c_4 => ?_)
  · refine z_iconst X dX5_fades_11 ?_
    refine lv_istore_n (lv' := [(2, .int (iv (0))), (0, .ref (a 0)), (1, .int (iv (p)))]) X.1 X.2.1 dX5_fades_12 rfl hl (by decide) rfl (fun ls hl => ?_)
    refine lv_aload_n X.1 X.2.1 dX5_fades_13 rfl (lv_at hl 1 rfl) ?_
    refine lv_iload_n X.1 X.2.1 dX5_fades_14 rfl (lv_at hl 2 rfl) ?_
    refine z_iconst X dX5_fades_15 ?_
    refine z_pi (run_V (rest := []) X h (c_X5_it (p := p) (w := 0) hR hI (by omega) (by omega) (by omega) (by omega)) mi_X5_it ml_X5_52 ⟨Nat.le_of_ble_eq_true rfl, Nat.le_of_ble_eq_true rfl⟩ ⟨rfl, rfl⟩ (Seg.rfl' _) 4 0 rfl rfl rfl rfl hl.1 rfl (Nat.le_of_ble_eq_true rfl) ⟨Nat.zero_le _, Nat.zero_le _⟩ dX5_fades_16) ?_
    rcases (show pr A 0 p = 1 ∨ pr A 0 p = 2 ∨ pr A 0 p = 3 ∨ pr A 0 p = 4 ∨ pr A 0 p = 5 ∨ (pr A 0 p < 1 ∨ 5 < pr A 0 p) by omega) with c_19 | c_19 | c_19 | c_19 | c_19 | c_19
    · refine z_tabIn (tgt := 52) X 1 c_19 ⟨by decide, by decide⟩ (by decide) (by decide) dX5_fades_19 rfl (by decide) ?_
      refine z_iconst X dX5_fades_52 ?_
      exact ret _ _ _ (by unfold fdO fade; (repeat' split) <;> omega) dX5_fades_53
    · refine z_tabIn (tgt := 54) X 2 c_19 ⟨by decide, by decide⟩ (by decide) (by decide) dX5_fades_19 rfl (by decide) ?_
      refine z_iconst X dX5_fades_54 ?_
      exact ret _ _ _ (by unfold fdO fade; (repeat' split) <;> omega) dX5_fades_55
    · refine z_tabIn (tgt := 82) X 3 c_19 ⟨by decide, by decide⟩ (by decide) (by decide) dX5_fades_19 rfl (by decide) ?_
      refine lv_iload_n X.1 X.2.1 dX5_fades_82 rfl (lv_at hl 0 rfl) ?_
      exact ret _ _ _ (by unfold fdO fade; (repeat' split) <;> omega) dX5_fades_83
    · refine z_tabIn (tgt := 56) X 4 c_19 ⟨by decide, by decide⟩ (by decide) (by decide) dX5_fades_19 rfl (by decide) ?_
      refine lv_aload_n X.1 X.2.1 dX5_fades_56 rfl (lv_at hl 1 rfl) ?_
      refine lv_iload_n X.1 X.2.1 dX5_fades_57 rfl (lv_at hl 2 rfl) ?_
      refine z_iconst X dX5_fades_58 ?_
      refine z_pi (run_V (rest := []) X h (c_X5_beside0 (p := p) hR hI (by omega) (by omega)) mi_X5_beside ml_X5_66 ⟨Nat.le_of_ble_eq_true rfl, Nat.le_of_ble_eq_true rfl⟩ ⟨rfl, rfl⟩ (Seg.rfl' _) 4 0 rfl rfl rfl rfl hl.1 rfl (Nat.le_of_ble_eq_true rfl) ⟨Nat.zero_le _, Nat.zero_le _⟩ dX5_fades_59) ?_
      refine z_if_lt (tgt := 78) X ⟨by omega, by omega⟩ dX5_fades_62 (by decide) (fun c_62 => ?_) (fun c_62 => ?_)
      · refine z_iconst X dX5_fades_78 ?_
        exact ret _ _ _ (by unfold fdO fade; (repeat' split) <;> omega) dX5_fades_79
      · refine lv_aload_n X.1 X.2.1 dX5_fades_65 rfl (lv_at hl 1 rfl) ?_
        refine lv_iload_n X.1 X.2.1 dX5_fades_66 rfl (lv_at hl 2 rfl) ?_
        refine z_iconst X dX5_fades_67 ?_
        refine z_pi (run_V (rest := []) X h (c_X5_beside1 (p := p) hR hI (by omega) (by omega)) mi_X5_beside ml_X5_66 ⟨Nat.le_of_ble_eq_true rfl, Nat.le_of_ble_eq_true rfl⟩ ⟨rfl, rfl⟩ (Seg.rfl' _) 4 0 rfl rfl rfl rfl hl.1 rfl (Nat.le_of_ble_eq_true rfl) ⟨Nat.zero_le _, Nat.zero_le _⟩ dX5_fades_68) ?_
        refine z_if_lt (tgt := 78) X ⟨by omega, by omega⟩ dX5_fades_71 (by decide) (fun c_71 => ?_) (fun c_71 => ?_)
        · refine z_iconst X dX5_fades_78 ?_
          exact ret _ _ _ (by unfold fdO fade; (repeat' split) <;> omega) dX5_fades_79
        · refine z_iconst X dX5_fades_74 ?_
          refine lv_goto (tgt := 79) X.1 X.2.1 dX5_fades_75 (by decide) ?_
          exact ret _ _ _ (by unfold fdO fade; (repeat' split) <;> omega) dX5_fades_79
    · refine z_tabIn (tgt := 80) X 5 c_19 ⟨by decide, by decide⟩ (by decide) (by decide) dX5_fades_19 rfl (by decide) ?_
      refine z_iconst X dX5_fades_80 ?_
      exact ret _ _ _ (by unfold fdO fade; (repeat' split) <;> omega) dX5_fades_81
    · refine z_tabOut (tgt := 82) X ⟨by omega, by omega⟩ c_19 dX5_fades_19 (by decide) ?_
      refine lv_iload_n X.1 X.2.1 dX5_fades_82 rfl (lv_at hl 0 rfl) ?_
      exact ret _ _ _ (by unfold fdO fade; (repeat' split) <;> omega) dX5_fades_83
  · refine z_iconst X dX5_fades_7 ?_
    refine lv_goto (tgt := 12) X.1 X.2.1 dX5_fades_8 (by decide) ?_
    refine lv_istore_n (lv' := [(2, .int (iv (1))), (0, .ref (a 0)), (1, .int (iv (p)))]) X.1 X.2.1 dX5_fades_12 rfl hl (by decide) rfl (fun ls hl => ?_)
    refine lv_aload_n X.1 X.2.1 dX5_fades_13 rfl (lv_at hl 1 rfl) ?_
    refine lv_iload_n X.1 X.2.1 dX5_fades_14 rfl (lv_at hl 2 rfl) ?_
    refine z_iconst X dX5_fades_15 ?_
    refine z_pi (run_V (rest := []) X h (c_X5_it (p := p) (w := 0) hR hI (by omega) (by omega) (by omega) (by omega)) mi_X5_it ml_X5_52 ⟨Nat.le_of_ble_eq_true rfl, Nat.le_of_ble_eq_true rfl⟩ ⟨rfl, rfl⟩ (Seg.rfl' _) 4 0 rfl rfl rfl rfl hl.1 rfl (Nat.le_of_ble_eq_true rfl) ⟨Nat.zero_le _, Nat.zero_le _⟩ dX5_fades_16) ?_
    rcases (show pr A 0 p = 1 ∨ pr A 0 p = 2 ∨ pr A 0 p = 3 ∨ pr A 0 p = 4 ∨ pr A 0 p = 5 ∨ (pr A 0 p < 1 ∨ 5 < pr A 0 p) by omega) with c_19 | c_19 | c_19 | c_19 | c_19 | c_19
    · refine z_tabIn (tgt := 52) X 1 c_19 ⟨by decide, by decide⟩ (by decide) (by decide) dX5_fades_19 rfl (by decide) ?_
      refine z_iconst X dX5_fades_52 ?_
      exact ret _ _ _ (by unfold fdO fade; (repeat' split) <;> omega) dX5_fades_53
    · refine z_tabIn (tgt := 54) X 2 c_19 ⟨by decide, by decide⟩ (by decide) (by decide) dX5_fades_19 rfl (by decide) ?_
      refine z_iconst X dX5_fades_54 ?_
      exact ret _ _ _ (by unfold fdO fade; (repeat' split) <;> omega) dX5_fades_55
    · refine z_tabIn (tgt := 82) X 3 c_19 ⟨by decide, by decide⟩ (by decide) (by decide) dX5_fades_19 rfl (by decide) ?_
      refine lv_iload_n X.1 X.2.1 dX5_fades_82 rfl (lv_at hl 0 rfl) ?_
      exact ret _ _ _ (by unfold fdO fade; (repeat' split) <;> omega) dX5_fades_83
    · refine z_tabIn (tgt := 56) X 4 c_19 ⟨by decide, by decide⟩ (by decide) (by decide) dX5_fades_19 rfl (by decide) ?_
      refine lv_aload_n X.1 X.2.1 dX5_fades_56 rfl (lv_at hl 1 rfl) ?_
      refine lv_iload_n X.1 X.2.1 dX5_fades_57 rfl (lv_at hl 2 rfl) ?_
      refine z_iconst X dX5_fades_58 ?_
      refine z_pi (run_V (rest := []) X h (c_X5_beside0 (p := p) hR hI (by omega) (by omega)) mi_X5_beside ml_X5_66 ⟨Nat.le_of_ble_eq_true rfl, Nat.le_of_ble_eq_true rfl⟩ ⟨rfl, rfl⟩ (Seg.rfl' _) 4 0 rfl rfl rfl rfl hl.1 rfl (Nat.le_of_ble_eq_true rfl) ⟨Nat.zero_le _, Nat.zero_le _⟩ dX5_fades_59) ?_
      refine z_if_lt (tgt := 78) X ⟨by omega, by omega⟩ dX5_fades_62 (by decide) (fun c_62 => ?_) (fun c_62 => ?_)
      · refine z_iconst X dX5_fades_78 ?_
        exact ret _ _ _ (by unfold fdO fade; (repeat' split) <;> omega) dX5_fades_79
      · refine lv_aload_n X.1 X.2.1 dX5_fades_65 rfl (lv_at hl 1 rfl) ?_
        refine lv_iload_n X.1 X.2.1 dX5_fades_66 rfl (lv_at hl 2 rfl) ?_
        refine z_iconst X dX5_fades_67 ?_
        refine z_pi (run_V (rest := []) X h (c_X5_beside1 (p := p) hR hI (by omega) (by omega)) mi_X5_beside ml_X5_66 ⟨Nat.le_of_ble_eq_true rfl, Nat.le_of_ble_eq_true rfl⟩ ⟨rfl, rfl⟩ (Seg.rfl' _) 4 0 rfl rfl rfl rfl hl.1 rfl (Nat.le_of_ble_eq_true rfl) ⟨Nat.zero_le _, Nat.zero_le _⟩ dX5_fades_68) ?_
        refine z_if_lt (tgt := 78) X ⟨by omega, by omega⟩ dX5_fades_71 (by decide) (fun c_71 => ?_) (fun c_71 => ?_)
        · refine z_iconst X dX5_fades_78 ?_
          exact ret _ _ _ (by unfold fdO fade; (repeat' split) <;> omega) dX5_fades_79
        · refine z_iconst X dX5_fades_74 ?_
          refine lv_goto (tgt := 79) X.1 X.2.1 dX5_fades_75 (by decide) ?_
          exact ret _ _ _ (by unfold fdO fade; (repeat' split) <;> omega) dX5_fades_79
    · refine z_tabIn (tgt := 80) X 5 c_19 ⟨by decide, by decide⟩ (by decide) (by decide) dX5_fades_19 rfl (by decide) ?_
      refine z_iconst X dX5_fades_80 ?_
      exact ret _ _ _ (by unfold fdO fade; (repeat' split) <;> omega) dX5_fades_81
    · refine z_tabOut (tgt := 82) X ⟨by omega, by omega⟩ c_19 dX5_fades_19 (by decide) ?_
      refine lv_iload_n X.1 X.2.1 dX5_fades_82 rfl (lv_at hl 0 rfl) ?_
      exact ret _ _ _ (by unfold fdO fade; (repeat' split) <;> omega) dX5_fades_83

set_option maxHeartbeats 4000000 in
theorem c_X5_burnsFrom (hR : RM mm A) (hI : IA A) {p : Int} (p0 : 0 ≤ p) (p1 : p < pe A) : MP E l yX5_burnsFrom cX5_burnsFrom 2 (some FieldType.int) (rmk 1 22) (wM E a (mm, kp, wa, (iv (ik)), fd, gf, tp, (iv (tn)), (iv (tk)), (iv (bg)), (iv (pt)), (iv (vl)), (iv (bd)), bt, sz, cl)) [.ref (a 0), .int (iv (p))] (burnF (pr A 0 p)) := by
  refine goP (by decide) (Nat.le_of_ble_eq_true rfl) ?_
  intro pp e s m below meth c ls args Q ret X h hl
  have hl : lv_has ls 2 [(0, .ref (a 0)), (1, .int (iv (p)))] := hl
  have q := hI.gP p0 p1
  refine lv_aload_n X.1 X.2.1 dX5_burnsFrom_0 rfl (lv_at hl 0 rfl) ?_
  refine lv_iload_n X.1 X.2.1 dX5_burnsFrom_1 rfl (lv_at hl 1 rfl) ?_
  refine z_iconst X dX5_burnsFrom_2 ?_
  refine z_pi (run_V (rest := []) X h (c_X5_it (p := p) (w := 0) hR hI (by omega) (by omega) (by omega) (by omega)) mi_X5_it ml_X5_52 ⟨Nat.le_of_ble_eq_true rfl, Nat.le_of_ble_eq_true rfl⟩ ⟨rfl, rfl⟩ (Seg.rfl' _) 4 0 rfl rfl rfl rfl hl.1 rfl (Nat.le_of_ble_eq_true rfl) ⟨Nat.zero_le _, Nat.zero_le _⟩ dX5_burnsFrom_3) ?_
  rcases (show pr A 0 p = 1 ∨ pr A 0 p = 2 ∨ pr A 0 p = 3 ∨ pr A 0 p = 4 ∨ pr A 0 p = 5 ∨ (pr A 0 p < 1 ∨ 5 < pr A 0 p) by omega) with c_6 | c_6 | c_6 | c_6 | c_6 | c_6
  · refine z_tabIn (tgt := 40) X 1 c_6 ⟨by decide, by decide⟩ (by decide) (by decide) dX5_burnsFrom_6 rfl (by decide) ?_
    refine z_bipush X (by decide) dX5_burnsFrom_40 ?_
    exact ret _ _ _ (by unfold burnF; (repeat' split) <;> omega) dX5_burnsFrom_42
  · refine z_tabIn (tgt := 43) X 2 c_6 ⟨by decide, by decide⟩ (by decide) (by decide) dX5_burnsFrom_6 rfl (by decide) ?_
    refine z_bipush X (by decide) dX5_burnsFrom_43 ?_
    exact ret _ _ _ (by unfold burnF; (repeat' split) <;> omega) dX5_burnsFrom_45
  · refine z_tabIn (tgt := 49) X 3 c_6 ⟨by decide, by decide⟩ (by decide) (by decide) dX5_burnsFrom_6 rfl (by decide) ?_
    refine z_bipush X (by decide) dX5_burnsFrom_49 ?_
    exact ret _ _ _ (by unfold burnF; (repeat' split) <;> omega) dX5_burnsFrom_51
  · refine z_tabIn (tgt := 43) X 4 c_6 ⟨by decide, by decide⟩ (by decide) (by decide) dX5_burnsFrom_6 rfl (by decide) ?_
    refine z_bipush X (by decide) dX5_burnsFrom_43 ?_
    exact ret _ _ _ (by unfold burnF; (repeat' split) <;> omega) dX5_burnsFrom_45
  · refine z_tabIn (tgt := 46) X 5 c_6 ⟨by decide, by decide⟩ (by decide) (by decide) dX5_burnsFrom_6 rfl (by decide) ?_
    refine z_bipush X (by decide) dX5_burnsFrom_46 ?_
    exact ret _ _ _ (by unfold burnF; (repeat' split) <;> omega) dX5_burnsFrom_48
  · refine z_tabOut (tgt := 49) X ⟨by omega, by omega⟩ c_6 dX5_burnsFrom_6 (by decide) ?_
    refine z_bipush X (by decide) dX5_burnsFrom_49 ?_
    exact ret _ _ _ (by unfold burnF; (repeat' split) <;> omega) dX5_burnsFrom_51

set_option maxHeartbeats 4000000 in
theorem c_X5_brownOf (hR : RM mm A) (hI : IA A) {p : Int} (p0 : 0 ≤ p) (p1 : p < pe A) : MP E l yX5_brownOf cX5_brownOf 2 (some FieldType.int) (rmk 1 22) (wM E a (mm, kp, wa, (iv (ik)), fd, gf, tp, (iv (tn)), (iv (tk)), (iv (bg)), (iv (pt)), (iv (vl)), (iv (bd)), bt, sz, cl)) [.ref (a 0), .int (iv (p))] (brn A p) := by
  refine goP (by decide) (Nat.le_of_ble_eq_true rfl) ?_
  intro pp e s m below meth c ls args Q ret X h hl
  have hl : lv_has ls 2 [(0, .ref (a 0)), (1, .int (iv (p)))] := hl
  have q := hI.gP p0 p1
  refine lv_aload_n X.1 X.2.1 dX5_brownOf_0 rfl (lv_at hl 0 rfl) ?_
  refine lv_iload_n X.1 X.2.1 dX5_brownOf_1 rfl (lv_at hl 1 rfl) ?_
  refine z_iconst X dX5_brownOf_2 ?_
  refine z_pi (run_V (rest := []) X h (c_X5_it (p := p) (w := 2) hR hI (by omega) (by omega) (by omega) (by omega)) mi_X5_it ml_X5_52 ⟨Nat.le_of_ble_eq_true rfl, Nat.le_of_ble_eq_true rfl⟩ ⟨rfl, rfl⟩ (Seg.rfl' _) 4 0 rfl rfl rfl rfl hl.1 rfl (Nat.le_of_ble_eq_true rfl) ⟨Nat.zero_le _, Nat.zero_le _⟩ dX5_brownOf_3) ?_
  refine lv_aload_n X.1 X.2.1 dX5_brownOf_6 rfl (lv_at hl 0 rfl) ?_
  refine lv_iload_n X.1 X.2.1 dX5_brownOf_7 rfl (lv_at hl 1 rfl) ?_
  refine z_iconst X dX5_brownOf_8 ?_
  refine z_pi (run_V (rest := [.int (iv (pr A 2 p))]) X h (c_X5_it (p := p) (w := 3) hR hI (by omega) (by omega) (by omega) (by omega)) mi_X5_it ml_X5_52 ⟨Nat.le_of_ble_eq_true rfl, Nat.le_of_ble_eq_true rfl⟩ ⟨rfl, rfl⟩ (Seg.rfl' _) 4 0 rfl rfl rfl rfl hl.1 rfl (Nat.le_of_ble_eq_true rfl) ⟨Nat.zero_le _, Nat.zero_le _⟩ dX5_brownOf_9) ?_
  refine z_iadd X dX5_brownOf_12 ?_
  exact ret _ _ _ (rfl) dX5_brownOf_13

set_option maxHeartbeats 4000000 in
theorem c_X5_isEven (hR : RM mm A) (hI : IA A) {p : Int} (p0 : 0 ≤ p) (p1 : p < pe A) : MP E l yX5_isEven cX5_isEven 2 (some FieldType.boolean) (rmk 1 23) (wM E a (mm, kp, wa, (iv (ik)), fd, gf, tp, (iv (tn)), (iv (tk)), (iv (bg)), (iv (pt)), (iv (vl)), (iv (bd)), bt, sz, cl)) [.ref (a 0), .int (iv (p))] (bz (evB A p = true)) := by
  refine goB (by decide) (Nat.le_of_ble_eq_true rfl) ?_
  intro pp e s m below meth c ls args Q ret X h hl
  have hl : lv_has ls 2 [(0, .ref (a 0)), (1, .int (iv (p)))] := hl
  have q := hI.gP p0 p1
  refine lv_aload_n X.1 X.2.1 dX5_isEven_0 rfl (lv_at hl 0 rfl) ?_
  refine lv_iload_n X.1 X.2.1 dX5_isEven_1 rfl (lv_at hl 1 rfl) ?_
  refine z_iconst X dX5_isEven_2 ?_
  refine z_pi (run_V (rest := []) X h (c_X5_it (p := p) (w := 2) hR hI (by omega) (by omega) (by omega) (by omega)) mi_X5_it ml_X5_52 ⟨Nat.le_of_ble_eq_true rfl, Nat.le_of_ble_eq_true rfl⟩ ⟨rfl, rfl⟩ (Seg.rfl' _) 4 0 rfl rfl rfl rfl hl.1 rfl (Nat.le_of_ble_eq_true rfl) ⟨Nat.zero_le _, Nat.zero_le _⟩ dX5_isEven_3) ?_
  refine lv_aload_n X.1 X.2.1 dX5_isEven_6 rfl (lv_at hl 0 rfl) ?_
  refine lv_iload_n X.1 X.2.1 dX5_isEven_7 rfl (lv_at hl 1 rfl) ?_
  refine z_iconst X dX5_isEven_8 ?_
  refine z_pi (run_V (rest := [.int (iv (pr A 2 p))]) X h (c_X5_it (p := p) (w := 3) hR hI (by omega) (by omega) (by omega) (by omega)) mi_X5_it ml_X5_52 ⟨Nat.le_of_ble_eq_true rfl, Nat.le_of_ble_eq_true rfl⟩ ⟨rfl, rfl⟩ (Seg.rfl' _) 4 0 rfl rfl rfl rfl hl.1 rfl (Nat.le_of_ble_eq_true rfl) ⟨Nat.zero_le _, Nat.zero_le _⟩ dX5_isEven_9) ?_
  refine z_isub X dX5_isEven_12 ?_
  refine lv_i2l (v := (iv (pr A 2 p - (pr A 3 p))).toInt64) X.1 X.2.1 dX5_isEven_13 rfl ?_
  refine z_bipush X (by decide) dX5_isEven_14 ?_
  refine z_iconst X dX5_isEven_16 ?_
  refine z_pi (run_S (rest := []) X h (c_inI ⟨by omega, by omega⟩ ⟨by decide, by decide⟩ ⟨by decide, by decide⟩) mi_X5_in ml_X5_44 ⟨Nat.le_of_ble_eq_true rfl, Nat.le_of_ble_eq_true rfl⟩ ⟨rfl, rfl⟩ (Seg.nil _) rfl hl.1 rfl (Nat.le_of_ble_eq_true rfl) ⟨Nat.zero_le _, Nat.zero_le _⟩ dX5_isEven_17) ?_
  exact ret _ _ _ (bz_eq (by unfold evB; simp)) dX5_isEven_20

set_option maxHeartbeats 4000000 in
theorem c_X5_givenTo0 (hR : RM mm A) (hI : IA A) (hh : hr A < 1000000) {p : Int} (p0 : 0 ≤ p) (p1 : p < pe A) : MP E l yX5_givenTo cX5_givenTo 4 (some FieldType.int) (rmk 3 68) (wM E a (mm, kp, wa, (iv (ik)), fd, gf, tp, (iv (tn)), (iv (tk)), (iv (bg)), (iv (pt)), (iv (vl)), (iv (bd)), bt, sz, cl)) [.ref (a 0), .int (iv (p)), .int (iv (0))] (gvq A p (nb A p (-1)) 3) := by
  refine goP (by decide) (Nat.le_of_ble_eq_true rfl) ?_
  intro pp e s m below meth c ls args Q ret X h hl
  have hl : lv_has ls 4 [(0, .ref (a 0)), (1, .int (iv (p))), (2, .int (iv (0)))] := hl
  have q := hI.gP p0 p1
  have b0 := nb_rng hI p (-1)
  refine lv_aload_n X.1 X.2.1 dX5_givenTo_0 rfl (lv_at hl 0 rfl) ?_
  refine lv_iload_n X.1 X.2.1 dX5_givenTo_1 rfl (lv_at hl 1 rfl) ?_
  refine lv_iload_n X.1 X.2.1 dX5_givenTo_2 rfl (lv_at hl 2 rfl) ?_
  refine z_pi (run_V (rest := []) X h (c_X5_beside0 (p := p) hR hI (by omega) (by omega)) mi_X5_beside ml_X5_66 ⟨Nat.le_of_ble_eq_true rfl, Nat.le_of_ble_eq_true rfl⟩ ⟨rfl, rfl⟩ (Seg.rfl' _) 4 0 rfl rfl rfl rfl hl.1 rfl (Nat.le_of_ble_eq_true rfl) ⟨Nat.zero_le _, Nat.zero_le _⟩ dX5_givenTo_3) ?_
  refine lv_istore_n (lv' := [(3, .int (iv (nb A p (-1)))), (0, .ref (a 0)), (1, .int (iv (p))), (2, .int (iv (0)))]) X.1 X.2.1 dX5_givenTo_6 rfl hl (by decide) rfl (fun ls hl => ?_)
  refine lv_iload_n X.1 X.2.1 dX5_givenTo_7 rfl (lv_at hl 0 rfl) ?_
  refine z_if_ge (tgt := 15) X ⟨by omega, by omega⟩ dX5_givenTo_8 (by decide) (fun c_8 => ?_) (fun c_8 => ?_)
  · have qn := hI.gP (p := nb A p (-1)) (by omega) (by omega)
    refine lv_aload_n X.1 X.2.1 dX5_givenTo_15 rfl (lv_at hl 1 rfl) ?_
    refine lv_iload_n X.1 X.2.1 dX5_givenTo_16 rfl (lv_at hl 0 rfl) ?_
    refine lv_aload_n X.1 X.2.1 dX5_givenTo_17 rfl (lv_at hl 1 rfl) ?_
    refine lv_iload_n X.1 X.2.1 dX5_givenTo_18 rfl (lv_at hl 0 rfl) ?_
    refine lv_iload_n X.1 X.2.1 dX5_givenTo_19 rfl (lv_at hl 3 rfl) ?_
    refine z_if_ne (tgt := 27) X ⟨by decide, by decide⟩ dX5_givenTo_20 (by decide) (fun c_20 => ?_) (fun c_20 => ?_)
    · exact absurd c_20 (by decide)
    · refine z_iconst X dX5_givenTo_23 ?_
      refine lv_goto (tgt := 28) X.1 X.2.1 dX5_givenTo_24 (by decide) ?_
      refine z_pi (run_V (rest := [.int (iv (nb A p (-1))), .ref (a 0)]) X h (c_X5_it (p := nb A p (-1)) (w := 3) hR hI (by omega) (by omega) (by omega) (by omega)) mi_X5_it ml_X5_52 ⟨Nat.le_of_ble_eq_true rfl, Nat.le_of_ble_eq_true rfl⟩ ⟨rfl, rfl⟩ (Seg.rfl' _) 4 0 rfl rfl rfl rfl hl.1 rfl (Nat.le_of_ble_eq_true rfl) ⟨Nat.zero_le _, Nat.zero_le _⟩ dX5_givenTo_28) ?_
      refine lv_iload_n X.1 X.2.1 dX5_givenTo_31 rfl (lv_at hl 2 rfl) ?_
      refine z_pi (run_V (rest := []) X h (c_X5_glows (p := nb A p (-1)) (b := pr A 3 (nb A p (-1))) (t := p) hR hI hh (by omega) (by omega) (by omega) (by omega) (by omega) (by omega)) mi_X5_glows ml_X5_69 ⟨Nat.le_of_ble_eq_true rfl, Nat.le_of_ble_eq_true rfl⟩ ⟨rfl, rfl⟩ (Seg.rfl' _) 4 0 rfl rfl rfl rfl hl.1 rfl (Nat.le_of_ble_eq_true rfl) ⟨Nat.zero_le _, Nat.zero_le _⟩ dX5_givenTo_32) ?_
      exact ret _ _ _ (by unfold gvq; first | rw [if_pos (by omega)] | rw [if_neg (by omega)]) dX5_givenTo_35
  · refine z_iconst X dX5_givenTo_11 ?_
    refine lv_goto (tgt := 35) X.1 X.2.1 dX5_givenTo_12 (by decide) ?_
    exact ret _ _ _ (by unfold gvq; first | rw [if_pos (by omega)] | rw [if_neg (by omega)]) dX5_givenTo_35

set_option maxHeartbeats 4000000 in
theorem c_X5_givenTo1 (hR : RM mm A) (hI : IA A) (hh : hr A < 1000000) {p : Int} (p0 : 0 ≤ p) (p1 : p < pe A) : MP E l yX5_givenTo cX5_givenTo 4 (some FieldType.int) (rmk 3 68) (wM E a (mm, kp, wa, (iv (ik)), fd, gf, tp, (iv (tn)), (iv (tk)), (iv (bg)), (iv (pt)), (iv (vl)), (iv (bd)), bt, sz, cl)) [.ref (a 0), .int (iv (p)), .int (iv (1))] (gvq A p (nb A p 1) 2) := by
  refine goP (by decide) (Nat.le_of_ble_eq_true rfl) ?_
  intro pp e s m below meth c ls args Q ret X h hl
  have hl : lv_has ls 4 [(0, .ref (a 0)), (1, .int (iv (p))), (2, .int (iv (1)))] := hl
  have q := hI.gP p0 p1
  have b0 := nb_rng hI p 1
  refine lv_aload_n X.1 X.2.1 dX5_givenTo_0 rfl (lv_at hl 0 rfl) ?_
  refine lv_iload_n X.1 X.2.1 dX5_givenTo_1 rfl (lv_at hl 1 rfl) ?_
  refine lv_iload_n X.1 X.2.1 dX5_givenTo_2 rfl (lv_at hl 2 rfl) ?_
  refine z_pi (run_V (rest := []) X h (c_X5_beside1 (p := p) hR hI (by omega) (by omega)) mi_X5_beside ml_X5_66 ⟨Nat.le_of_ble_eq_true rfl, Nat.le_of_ble_eq_true rfl⟩ ⟨rfl, rfl⟩ (Seg.rfl' _) 4 0 rfl rfl rfl rfl hl.1 rfl (Nat.le_of_ble_eq_true rfl) ⟨Nat.zero_le _, Nat.zero_le _⟩ dX5_givenTo_3) ?_
  refine lv_istore_n (lv' := [(3, .int (iv (nb A p 1))), (0, .ref (a 0)), (1, .int (iv (p))), (2, .int (iv (1)))]) X.1 X.2.1 dX5_givenTo_6 rfl hl (by decide) rfl (fun ls hl => ?_)
  refine lv_iload_n X.1 X.2.1 dX5_givenTo_7 rfl (lv_at hl 0 rfl) ?_
  refine z_if_ge (tgt := 15) X ⟨by omega, by omega⟩ dX5_givenTo_8 (by decide) (fun c_8 => ?_) (fun c_8 => ?_)
  · have qn := hI.gP (p := nb A p 1) (by omega) (by omega)
    refine lv_aload_n X.1 X.2.1 dX5_givenTo_15 rfl (lv_at hl 1 rfl) ?_
    refine lv_iload_n X.1 X.2.1 dX5_givenTo_16 rfl (lv_at hl 0 rfl) ?_
    refine lv_aload_n X.1 X.2.1 dX5_givenTo_17 rfl (lv_at hl 1 rfl) ?_
    refine lv_iload_n X.1 X.2.1 dX5_givenTo_18 rfl (lv_at hl 0 rfl) ?_
    refine lv_iload_n X.1 X.2.1 dX5_givenTo_19 rfl (lv_at hl 3 rfl) ?_
    refine z_if_ne (tgt := 27) X ⟨by decide, by decide⟩ dX5_givenTo_20 (by decide) (fun c_20 => ?_) (fun c_20 => ?_)
    · refine z_iconst X dX5_givenTo_27 ?_
      refine z_pi (run_V (rest := [.int (iv (nb A p 1)), .ref (a 0)]) X h (c_X5_it (p := nb A p 1) (w := 2) hR hI (by omega) (by omega) (by omega) (by omega)) mi_X5_it ml_X5_52 ⟨Nat.le_of_ble_eq_true rfl, Nat.le_of_ble_eq_true rfl⟩ ⟨rfl, rfl⟩ (Seg.rfl' _) 4 0 rfl rfl rfl rfl hl.1 rfl (Nat.le_of_ble_eq_true rfl) ⟨Nat.zero_le _, Nat.zero_le _⟩ dX5_givenTo_28) ?_
      refine lv_iload_n X.1 X.2.1 dX5_givenTo_31 rfl (lv_at hl 2 rfl) ?_
      refine z_pi (run_V (rest := []) X h (c_X5_glows (p := nb A p 1) (b := pr A 2 (nb A p 1)) (t := p) hR hI hh (by omega) (by omega) (by omega) (by omega) (by omega) (by omega)) mi_X5_glows ml_X5_69 ⟨Nat.le_of_ble_eq_true rfl, Nat.le_of_ble_eq_true rfl⟩ ⟨rfl, rfl⟩ (Seg.rfl' _) 4 0 rfl rfl rfl rfl hl.1 rfl (Nat.le_of_ble_eq_true rfl) ⟨Nat.zero_le _, Nat.zero_le _⟩ dX5_givenTo_32) ?_
      exact ret _ _ _ (by unfold gvq; first | rw [if_pos (by omega)] | rw [if_neg (by omega)]) dX5_givenTo_35
    · exact absurd c_20 (by decide)
  · refine z_iconst X dX5_givenTo_11 ?_
    refine lv_goto (tgt := 35) X.1 X.2.1 dX5_givenTo_12 (by decide) ?_
    exact ret _ _ _ (by unfold gvq; first | rw [if_pos (by omega)] | rw [if_neg (by omega)]) dX5_givenTo_35

theorem c_X5_givenTo (hR : RM mm A) (hI : IA A) (hh : hr A < 1000000) {p sd : Int} (p0 : 0 ≤ p) (p1 : p < pe A) (s0 : 0 ≤ sd) (s1 : sd ≤ 1) : MP E l yX5_givenTo cX5_givenTo 4 (some FieldType.int) (rmk 3 68) (wM E a (mm, kp, wa, (iv (ik)), fd, gf, tp, (iv (tn)), (iv (tk)), (iv (bg)), (iv (pt)), (iv (vl)), (iv (bd)), bt, sz, cl)) [.ref (a 0), .int (iv (p)), .int (iv (sd))] (gv A p sd) := by
  rcases (show sd = 0 ∨ sd = 1 by omega) with rfl | rfl
  · exact c_X5_givenTo0 hR hI hh p0 p1
  · exact c_X5_givenTo1 hR hI hh p0 p1

set_option maxHeartbeats 4000000 in
theorem c_X5_sums (hR : RM mm A) (hI : IA A) {wh : Int} (w0 : 0 ≤ wh) (w1 : wh < 5) : MP E l yX5_sums cX5_sums 4 (some FieldType.int) (rmk 1 22) (wM E a (mm, kp, wa, (iv (ik)), fd, gf, tp, (iv (tn)), (iv (tk)), (iv (bg)), (iv (pt)), (iv (vl)), (iv (bd)), bt, sz, cl)) [.ref (a 0), .int (iv (wh))] (sums A wh) := by
  refine goP (by decide) (Nat.le_of_ble_eq_true rfl) ?_
  intro pp e s m below meth c ls args Q ret X h hl
  have hl : lv_has ls 4 [(0, .ref (a 0)), (1, .int (iv (wh)))] := hl
  have n8 := hI.n8
  have n0 := hI.n0
  refine z_iconst X dX5_sums_0 ?_
  refine lv_istore_n (lv' := [(2, .int (iv (0))), (0, .ref (a 0)), (1, .int (iv (wh)))]) X.1 X.2.1 dX5_sums_1 rfl hl (by decide) rfl (fun ls hl => ?_)
  refine z_iconst X dX5_sums_2 ?_
  refine lv_istore_n (lv' := [(3, .int (iv (0))), (2, .int (iv (0))), (0, .ref (a 0)), (1, .int (iv (wh)))]) X.1 X.2.1 dX5_sums_3 rfl hl (by decide) rfl (fun ls hl => ?_)
  have L4 : ∀ (n : Nat) (i : Int) (w : Int), 0 ≤ i → i ≤ pe A → w = sumk A wh i.toNat → pe A - i < (n : Int) → ∀ ls : Array Slot, lv_has ls 4 [(0, .ref (a 0)), (1, .int (iv (wh))), (2, .int (iv (w))), (3, .int (iv (i)))] → W pp l e (rmk 1 22) s m args below meth c s.heap [] 0 0 Q (F0 m 4 ls []) := by
    intro n
    induction n with
    | zero =>
      intro i w i0 i1 hw hn
      exfalso; omega
    | succ n ih =>
      intro i w i0 i1 hw hn ls hl
      refine lv_iload_n X.1 X.2.1 dX5_sums_4 rfl (lv_at hl 3 rfl) ?_
      refine lv_aload_n X.1 X.2.1 dX5_sums_5 rfl (lv_at hl 0 rfl) ?_
      refine z_get X h 4 0 0 rfl inX5 rfl (by decide) fl_X5_9 rfl dX5_sums_6 ?_
      refine z_iconst X dX5_sums_9 ?_
      refine z_iald (v := pe A) X h 1 rfl (by omega) (by omega) (by decide) hR.2.1 dX5_sums_10 ?_
      refine z_ic_ge (tgt := 29) X ⟨by omega, by omega⟩ ⟨by omega, by omega⟩ dX5_sums_11 (by decide) (fun c_11 => ?_) (fun c_11 => ?_)
      · refine lv_iload_n X.1 X.2.1 dX5_sums_29 rfl (lv_at hl 2 rfl) ?_
        exact ret _ _ _ (by rw [hw, sums, show i = pe A by omega]) dX5_sums_30
      · refine lv_iload_n X.1 X.2.1 dX5_sums_14 rfl (lv_at hl 2 rfl) ?_
        refine lv_aload_n X.1 X.2.1 dX5_sums_15 rfl (lv_at hl 0 rfl) ?_
        refine lv_iload_n X.1 X.2.1 dX5_sums_16 rfl (lv_at hl 3 rfl) ?_
        refine lv_iload_n X.1 X.2.1 dX5_sums_17 rfl (lv_at hl 1 rfl) ?_
        refine z_pi (run_V (rest := [.int (iv (w))]) X h (c_X5_it (p := i) (w := wh) hR hI (by omega) (by omega) (by omega) (by omega)) mi_X5_it ml_X5_52 ⟨Nat.le_of_ble_eq_true rfl, Nat.le_of_ble_eq_true rfl⟩ ⟨rfl, rfl⟩ (Seg.rfl' _) 4 0 rfl rfl rfl rfl hl.1 rfl (Nat.le_of_ble_eq_true rfl) ⟨Nat.zero_le _, Nat.zero_le _⟩ dX5_sums_18) ?_
        refine z_iadd X dX5_sums_21 ?_
        refine lv_istore_n (lv' := [(2, .int (iv (w + (pr A wh i)))), (0, .ref (a 0)), (1, .int (iv (wh))), (3, .int (iv (i)))]) X.1 X.2.1 dX5_sums_22 rfl hl (by decide) rfl (fun ls hl => ?_)
        refine z_iinc (k := 3) (lv' := [(3, .int (iv (i + 1))), (2, .int (iv (w + (pr A wh i)))), (0, .ref (a 0)), (1, .int (iv (wh)))]) X dX5_sums_23 hl rfl (by decide) rfl (fun ls hl => ?_)
        refine lv_goto (tgt := 4) X.1 X.2.1 dX5_sums_26 (by decide) ?_
        exact ih (i + 1) (w + (pr A wh i)) (by omega) (by omega) (by rw [tn1 i0, sumk, tnc i0]; rw [hw]) (by omega) ls (lv_sub hl [2, 3, 1, 0] rfl)
  exact L4 ((pe A - (0) : Int).toNat + 1) (0) (0) (by omega) (by omega) (rfl) (by omega) ls (lv_sub hl [2, 3, 1, 0] rfl)

set_option maxHeartbeats 4000000 in
theorem c_X5_allBrown (hR : RM mm A) (hI : IA A) : MP E l yX5_allBrown cX5_allBrown 1 (some FieldType.int) (rmk 2 45) (wM E a (mm, kp, wa, (iv (ik)), fd, gf, tp, (iv (tn)), (iv (tk)), (iv (bg)), (iv (pt)), (iv (vl)), (iv (bd)), bt, sz, cl)) [.ref (a 0)] (allB A) := by
  refine goP (by decide) (Nat.le_of_ble_eq_true rfl) ?_
  intro pp e s m below meth c ls args Q ret X h hl
  have hl : lv_has ls 1 [(0, .ref (a 0))] := hl
  refine lv_aload_n X.1 X.2.1 dX5_allBrown_0 rfl (lv_at hl 0 rfl) ?_
  refine z_iconst X dX5_allBrown_1 ?_
  refine z_pi (run_V (rest := []) X h (c_X5_sums (wh := 2) hR hI (by decide) (by decide)) mi_X5_sums ml_X5_76 ⟨Nat.le_of_ble_eq_true rfl, Nat.le_of_ble_eq_true rfl⟩ ⟨rfl, rfl⟩ (Seg.rfl' _) 4 0 rfl rfl rfl rfl hl.1 rfl (Nat.le_of_ble_eq_true rfl) ⟨Nat.zero_le _, Nat.zero_le _⟩ dX5_allBrown_2) ?_
  refine lv_aload_n X.1 X.2.1 dX5_allBrown_5 rfl (lv_at hl 0 rfl) ?_
  refine z_iconst X dX5_allBrown_6 ?_
  refine z_pi (run_V (rest := [.int (iv (sums A 2))]) X h (c_X5_sums (wh := 3) hR hI (by decide) (by decide)) mi_X5_sums ml_X5_76 ⟨Nat.le_of_ble_eq_true rfl, Nat.le_of_ble_eq_true rfl⟩ ⟨rfl, rfl⟩ (Seg.rfl' _) 4 0 rfl rfl rfl rfl hl.1 rfl (Nat.le_of_ble_eq_true rfl) ⟨Nat.zero_le _, Nat.zero_le _⟩ dX5_allBrown_7) ?_
  refine z_iadd X dX5_allBrown_10 ?_
  exact ret _ _ _ (rfl) dX5_allBrown_11

set_option maxHeartbeats 4000000 in
theorem c_X5_sitters (hR : RM mm A) (hI : IA A) : MP E l yX5_sitters cX5_sitters 3 (some FieldType.int) (rmk 2 43) (wM E a (mm, kp, wa, (iv (ik)), fd, gf, tp, (iv (tn)), (iv (tk)), (iv (bg)), (iv (pt)), (iv (vl)), (iv (bd)), bt, sz, cl)) [.ref (a 0)] (setS A) := by
  refine goP (by decide) (Nat.le_of_ble_eq_true rfl) ?_
  intro pp e s m below meth c ls args Q ret X h hl
  have hl : lv_has ls 3 [(0, .ref (a 0))] := hl
  have n8 := hI.n8
  have n0 := hI.n0
  refine z_iconst X dX5_sitters_0 ?_
  refine lv_istore_n (lv' := [(1, .int (iv (0))), (0, .ref (a 0))]) X.1 X.2.1 dX5_sitters_1 rfl hl (by decide) rfl (fun ls hl => ?_)
  refine z_iconst X dX5_sitters_2 ?_
  refine lv_istore_n (lv' := [(2, .int (iv (0))), (1, .int (iv (0))), (0, .ref (a 0))]) X.1 X.2.1 dX5_sitters_3 rfl hl (by decide) rfl (fun ls hl => ?_)
  have L4 : ∀ (n : Nat) (i : Int) (w : Int32), 0 ≤ i → i ≤ pe A → w = bset (sitB A) i.toNat → pe A - i < (n : Int) → ∀ ls : Array Slot, lv_has ls 3 [(0, .ref (a 0)), (1, .int (w)), (2, .int (iv (i)))] → W pp l e (rmk 2 43) s m args below meth c s.heap [] 0 0 Q (F0 m 4 ls []) := by
    intro n
    induction n with
    | zero =>
      intro i w i0 i1 hw hn
      exfalso; omega
    | succ n ih =>
      intro i w i0 i1 hw hn ls hl
      refine lv_iload_n X.1 X.2.1 dX5_sitters_4 rfl (lv_at hl 2 rfl) ?_
      refine lv_aload_n X.1 X.2.1 dX5_sitters_5 rfl (lv_at hl 0 rfl) ?_
      refine z_get X h 4 0 0 rfl inX5 rfl (by decide) fl_X5_9 rfl dX5_sitters_6 ?_
      refine z_iconst X dX5_sitters_9 ?_
      refine z_iald (v := pe A) X h 1 rfl (by omega) (by omega) (by decide) hR.2.1 dX5_sitters_10 ?_
      refine z_ic_ge (tgt := 38) X ⟨by omega, by omega⟩ ⟨by omega, by omega⟩ dX5_sitters_11 (by decide) (fun c_11 => ?_) (fun c_11 => ?_)
      · refine lv_iload_n X.1 X.2.1 dX5_sitters_38 rfl (lv_at hl 1 rfl) ?_
        refine W.eq (g2 := F0 m 39 ls [.int (iv (w).toInt)]) (by rw [iv_of]) ?_
        exact ret _ _ _ (by rw [hw, setS, show i = pe A by omega]) dX5_sitters_39
      · refine lv_iload_n X.1 X.2.1 dX5_sitters_14 rfl (lv_at hl 1 rfl) ?_
        refine lv_aload_n X.1 X.2.1 dX5_sitters_15 rfl (lv_at hl 0 rfl) ?_
        refine lv_iload_n X.1 X.2.1 dX5_sitters_16 rfl (lv_at hl 2 rfl) ?_
        refine z_pi (run_V (rest := [.int (w)]) X h (c_X5_sits (p := i) hR hI (by omega) (by omega)) mi_X5_sits ml_X5_56 ⟨Nat.le_of_ble_eq_true rfl, Nat.le_of_ble_eq_true rfl⟩ ⟨rfl, rfl⟩ (Seg.rfl' _) 4 0 rfl rfl rfl rfl hl.1 rfl (Nat.le_of_ble_eq_true rfl) ⟨Nat.zero_le _, Nat.zero_le _⟩ dX5_sitters_17) ?_
        refine z_ifb_eq (tgt := 29) X dX5_sitters_20 (by decide) (fun c_20 => ?_) (fun c_20 => ?_)
        · refine z_iconst X dX5_sitters_29 ?_
          refine lv_ior X.1 X.2.1 dX5_sitters_30 ?_
          refine lv_istore_n (lv' := [(1, .int ((w) ||| (iv (0)))), (0, .ref (a 0)), (2, .int (iv (i)))]) X.1 X.2.1 dX5_sitters_31 rfl hl (by decide) rfl (fun ls hl => ?_)
          refine z_iinc (k := 2) (lv' := [(2, .int (iv (i + 1))), (1, .int ((w) ||| (iv (0)))), (0, .ref (a 0))]) X dX5_sitters_32 hl rfl (by decide) rfl (fun ls hl => ?_)
          refine lv_goto (tgt := 4) X.1 X.2.1 dX5_sitters_35 (by decide) ?_
          exact ih (i + 1) ((w) ||| (iv (0))) (by omega) (by omega) (by rw [tn1 i0, bset, tnc i0]; rw [hw]; first | rw [if_pos (by simp [sitB]; omega)] | rw [if_neg (by simp [sitB]; omega)]) (by omega) ls (lv_sub hl [2, 1, 0] rfl)
        · refine z_iconst X dX5_sitters_23 ?_
          refine lv_iload_n X.1 X.2.1 dX5_sitters_24 rfl (lv_at hl 2 rfl) ?_
          refine lv_ishl X.1 X.2.1 dX5_sitters_25 ?_
          refine lv_goto (tgt := 30) X.1 X.2.1 dX5_sitters_26 (by decide) ?_
          refine lv_ior X.1 X.2.1 dX5_sitters_30 ?_
          refine lv_istore_n (lv' := [(1, .int ((w) ||| (iv (1) <<< (iv (i) &&& 31)))), (0, .ref (a 0)), (2, .int (iv (i)))]) X.1 X.2.1 dX5_sitters_31 rfl hl (by decide) rfl (fun ls hl => ?_)
          refine z_iinc (k := 2) (lv' := [(2, .int (iv (i + 1))), (1, .int ((w) ||| (iv (1) <<< (iv (i) &&& 31)))), (0, .ref (a 0))]) X dX5_sitters_32 hl rfl (by decide) rfl (fun ls hl => ?_)
          refine lv_goto (tgt := 4) X.1 X.2.1 dX5_sitters_35 (by decide) ?_
          exact ih (i + 1) ((w) ||| (iv (1) <<< (iv (i) &&& 31))) (by omega) (by omega) (by rw [tn1 i0, bset, tnc i0]; rw [hw]; first | rw [if_pos (by simp [sitB]; omega)] | rw [if_neg (by simp [sitB]; omega)]) (by omega) ls (lv_sub hl [2, 1, 0] rfl)
  exact L4 ((pe A - (0) : Int).toNat + 1) (0) (iv 0) (by omega) (by omega) (rfl) (by omega) ls (lv_sub hl [2, 1, 0] rfl)

set_option maxHeartbeats 4000000 in
theorem c_X5_evenOnes (hR : RM mm A) (hI : IA A) : MP E l yX5_evenOnes cX5_evenOnes 3 (some FieldType.int) (rmk 2 44) (wM E a (mm, kp, wa, (iv (ik)), fd, gf, tp, (iv (tn)), (iv (tk)), (iv (bg)), (iv (pt)), (iv (vl)), (iv (bd)), bt, sz, cl)) [.ref (a 0)] (setE A) := by
  refine goP (by decide) (Nat.le_of_ble_eq_true rfl) ?_
  intro pp e s m below meth c ls args Q ret X h hl
  have hl : lv_has ls 3 [(0, .ref (a 0))] := hl
  have n8 := hI.n8
  have n0 := hI.n0
  refine z_iconst X dX5_evenOnes_0 ?_
  refine lv_istore_n (lv' := [(1, .int (iv (0))), (0, .ref (a 0))]) X.1 X.2.1 dX5_evenOnes_1 rfl hl (by decide) rfl (fun ls hl => ?_)
  refine z_iconst X dX5_evenOnes_2 ?_
  refine lv_istore_n (lv' := [(2, .int (iv (0))), (1, .int (iv (0))), (0, .ref (a 0))]) X.1 X.2.1 dX5_evenOnes_3 rfl hl (by decide) rfl (fun ls hl => ?_)
  have L4 : ∀ (n : Nat) (i : Int) (w : Int32), 0 ≤ i → i ≤ pe A → w = bset (evB A) i.toNat → pe A - i < (n : Int) → ∀ ls : Array Slot, lv_has ls 3 [(0, .ref (a 0)), (1, .int (w)), (2, .int (iv (i)))] → W pp l e (rmk 2 44) s m args below meth c s.heap [] 0 0 Q (F0 m 4 ls []) := by
    intro n
    induction n with
    | zero =>
      intro i w i0 i1 hw hn
      exfalso; omega
    | succ n ih =>
      intro i w i0 i1 hw hn ls hl
      refine lv_iload_n X.1 X.2.1 dX5_evenOnes_4 rfl (lv_at hl 2 rfl) ?_
      refine lv_aload_n X.1 X.2.1 dX5_evenOnes_5 rfl (lv_at hl 0 rfl) ?_
      refine z_get X h 4 0 0 rfl inX5 rfl (by decide) fl_X5_9 rfl dX5_evenOnes_6 ?_
      refine z_iconst X dX5_evenOnes_9 ?_
      refine z_iald (v := pe A) X h 1 rfl (by omega) (by omega) (by decide) hR.2.1 dX5_evenOnes_10 ?_
      refine z_ic_ge (tgt := 38) X ⟨by omega, by omega⟩ ⟨by omega, by omega⟩ dX5_evenOnes_11 (by decide) (fun c_11 => ?_) (fun c_11 => ?_)
      · refine lv_iload_n X.1 X.2.1 dX5_evenOnes_38 rfl (lv_at hl 1 rfl) ?_
        refine W.eq (g2 := F0 m 39 ls [.int (iv (w).toInt)]) (by rw [iv_of]) ?_
        exact ret _ _ _ (by rw [hw, setE, show i = pe A by omega]) dX5_evenOnes_39
      · refine lv_iload_n X.1 X.2.1 dX5_evenOnes_14 rfl (lv_at hl 1 rfl) ?_
        refine lv_aload_n X.1 X.2.1 dX5_evenOnes_15 rfl (lv_at hl 0 rfl) ?_
        refine lv_iload_n X.1 X.2.1 dX5_evenOnes_16 rfl (lv_at hl 2 rfl) ?_
        refine z_pi (run_V (rest := [.int (w)]) X h (c_X5_isEven (p := i) hR hI (by omega) (by omega)) mi_X5_isEven ml_X5_79 ⟨Nat.le_of_ble_eq_true rfl, Nat.le_of_ble_eq_true rfl⟩ ⟨rfl, rfl⟩ (Seg.rfl' _) 4 0 rfl rfl rfl rfl hl.1 rfl (Nat.le_of_ble_eq_true rfl) ⟨Nat.zero_le _, Nat.zero_le _⟩ dX5_evenOnes_17) ?_
        refine z_ifb_eq (tgt := 29) X dX5_evenOnes_20 (by decide) (fun c_20 => ?_) (fun c_20 => ?_)
        · refine z_iconst X dX5_evenOnes_29 ?_
          refine lv_ior X.1 X.2.1 dX5_evenOnes_30 ?_
          refine lv_istore_n (lv' := [(1, .int ((w) ||| (iv (0)))), (0, .ref (a 0)), (2, .int (iv (i)))]) X.1 X.2.1 dX5_evenOnes_31 rfl hl (by decide) rfl (fun ls hl => ?_)
          refine z_iinc (k := 2) (lv' := [(2, .int (iv (i + 1))), (1, .int ((w) ||| (iv (0)))), (0, .ref (a 0))]) X dX5_evenOnes_32 hl rfl (by decide) rfl (fun ls hl => ?_)
          refine lv_goto (tgt := 4) X.1 X.2.1 dX5_evenOnes_35 (by decide) ?_
          exact ih (i + 1) ((w) ||| (iv (0))) (by omega) (by omega) (by rw [tn1 i0, bset, tnc i0]; rw [hw]; first | rw [if_pos (by assumption)] | rw [if_neg (by assumption)]) (by omega) ls (lv_sub hl [2, 1, 0] rfl)
        · refine z_iconst X dX5_evenOnes_23 ?_
          refine lv_iload_n X.1 X.2.1 dX5_evenOnes_24 rfl (lv_at hl 2 rfl) ?_
          refine lv_ishl X.1 X.2.1 dX5_evenOnes_25 ?_
          refine lv_goto (tgt := 30) X.1 X.2.1 dX5_evenOnes_26 (by decide) ?_
          refine lv_ior X.1 X.2.1 dX5_evenOnes_30 ?_
          refine lv_istore_n (lv' := [(1, .int ((w) ||| (iv (1) <<< (iv (i) &&& 31)))), (0, .ref (a 0)), (2, .int (iv (i)))]) X.1 X.2.1 dX5_evenOnes_31 rfl hl (by decide) rfl (fun ls hl => ?_)
          refine z_iinc (k := 2) (lv' := [(2, .int (iv (i + 1))), (1, .int ((w) ||| (iv (1) <<< (iv (i) &&& 31)))), (0, .ref (a 0))]) X dX5_evenOnes_32 hl rfl (by decide) rfl (fun ls hl => ?_)
          refine lv_goto (tgt := 4) X.1 X.2.1 dX5_evenOnes_35 (by decide) ?_
          exact ih (i + 1) ((w) ||| (iv (1) <<< (iv (i) &&& 31))) (by omega) (by omega) (by rw [tn1 i0, bset, tnc i0]; rw [hw]; first | rw [if_pos (by assumption)] | rw [if_neg (by assumption)]) (by omega) ls (lv_sub hl [2, 1, 0] rfl)
  exact L4 ((pe A - (0) : Int).toNat + 1) (0) (iv 0) (by omega) (by omega) (rfl) (by omega) ls (lv_sub hl [2, 1, 0] rfl)

set_option maxHeartbeats 4000000 in
theorem c_X5_isFreeFor (hR : RM mm A) (hI : IA A) {ch p : Int} (c0 : -1 ≤ ch) (c1 : ch ≤ 9) (p0 : 0 ≤ p) (p1 : p < pe A) : MP E l yX5_isFreeFor cX5_isFreeFor 4 (some FieldType.boolean) (rmk 2 45) (wM E a (mm, kp, wa, (iv (ik)), fd, gf, tp, (iv (tn)), (iv (tk)), (iv (bg)), (iv (pt)), (iv (vl)), (iv (bd)), bt, sz, cl)) [.ref (a 0), .int (iv (ch)), .int (iv (p))] (bz (ch < 0 ∨ onC A ch < 0 ∨ onC A ch = p)) := by
  refine goB (by decide) (Nat.le_of_ble_eq_true rfl) ?_
  intro pp e s m below meth c ls args Q ret X h hl
  have hl : lv_has ls 4 [(0, .ref (a 0)), (1, .int (iv (ch))), (2, .int (iv (p)))] := hl
  have n8 := hI.n8
  have n0 := hI.n0
  have oc := onC_rng hI ch
  refine lv_iload_n X.1 X.2.1 dX5_isFreeFor_0 rfl (lv_at hl 1 rfl) ?_
  refine z_if_ge (tgt := 8) X ⟨by omega, by omega⟩ dX5_isFreeFor_1 (by decide) (fun c_1 => ?_) (fun c_1 => ?_)
  · refine lv_aload_n X.1 X.2.1 dX5_isFreeFor_8 rfl (lv_at hl 0 rfl) ?_
    refine lv_iload_n X.1 X.2.1 dX5_isFreeFor_9 rfl (lv_at hl 1 rfl) ?_
    refine z_pi (run_V (rest := []) X h (c_X5_onChair (ch := ch) hR hI ⟨by omega, by omega⟩) mi_X5_onChair ml_X5_59 ⟨Nat.le_of_ble_eq_true rfl, Nat.le_of_ble_eq_true rfl⟩ ⟨rfl, rfl⟩ (Seg.rfl' _) 4 0 rfl rfl rfl rfl hl.1 rfl (Nat.le_of_ble_eq_true rfl) ⟨Nat.zero_le _, Nat.zero_le _⟩ dX5_isFreeFor_10) ?_
    refine lv_istore_n (lv' := [(3, .int (iv (onC A ch))), (0, .ref (a 0)), (1, .int (iv (ch))), (2, .int (iv (p)))]) X.1 X.2.1 dX5_isFreeFor_13 rfl hl (by decide) rfl (fun ls hl => ?_)
    refine lv_iload_n X.1 X.2.1 dX5_isFreeFor_14 rfl (lv_at hl 0 rfl) ?_
    refine z_if_lt (tgt := 23) X ⟨by omega, by omega⟩ dX5_isFreeFor_15 (by decide) (fun c_15 => ?_) (fun c_15 => ?_)
    · refine z_iconst X dX5_isFreeFor_23 ?_
      refine lv_goto (tgt := 28) X.1 X.2.1 dX5_isFreeFor_24 (by decide) ?_
      exact ret _ _ _ ((bz_t (by omega)).symm) dX5_isFreeFor_28
    · refine lv_iload_n X.1 X.2.1 dX5_isFreeFor_18 rfl (lv_at hl 0 rfl) ?_
      refine lv_iload_n X.1 X.2.1 dX5_isFreeFor_19 rfl (lv_at hl 3 rfl) ?_
      refine z_ic_ne (tgt := 27) X ⟨by omega, by omega⟩ ⟨by omega, by omega⟩ dX5_isFreeFor_20 (by decide) (fun c_20 => ?_) (fun c_20 => ?_)
      · refine z_iconst X dX5_isFreeFor_27 ?_
        exact ret _ _ _ ((bz_f (by omega)).symm) dX5_isFreeFor_28
      · refine z_iconst X dX5_isFreeFor_23 ?_
        refine lv_goto (tgt := 28) X.1 X.2.1 dX5_isFreeFor_24 (by decide) ?_
        exact ret _ _ _ ((bz_t (by omega)).symm) dX5_isFreeFor_28
  · refine z_iconst X dX5_isFreeFor_4 ?_
    refine lv_goto (tgt := 13) X.1 X.2.1 dX5_isFreeFor_5 (by decide) ?_
    refine lv_istore_n (lv' := [(3, .int (iv ((-1)))), (0, .ref (a 0)), (1, .int (iv (ch))), (2, .int (iv (p)))]) X.1 X.2.1 dX5_isFreeFor_13 rfl hl (by decide) rfl (fun ls hl => ?_)
    refine lv_iload_n X.1 X.2.1 dX5_isFreeFor_14 rfl (lv_at hl 0 rfl) ?_
    refine z_if_lt (tgt := 23) X ⟨by decide, by decide⟩ dX5_isFreeFor_15 (by decide) (fun c_15 => ?_) (fun c_15 => ?_)
    · refine z_iconst X dX5_isFreeFor_23 ?_
      refine lv_goto (tgt := 28) X.1 X.2.1 dX5_isFreeFor_24 (by decide) ?_
      exact ret _ _ _ ((bz_t (by omega)).symm) dX5_isFreeFor_28
    · exact absurd c_15 (by decide)

set_option maxHeartbeats 4000000 in
theorem c_X5_allSun (hR : RM mm A) (hI : IA A) : MP E l yX5_allSun cX5_allSun 3 (some FieldType.int) (rmk 0 0) (wM E a (mm, kp, wa, (iv (ik)), fd, gf, tp, (iv (tn)), (iv (tk)), (iv (bg)), (iv (pt)), (iv (vl)), (iv (bd)), bt, sz, cl)) [.ref (a 0)] (allS A) := by
  refine goP (by decide) (Nat.le_of_ble_eq_true rfl) ?_
  intro pp e s m below meth c ls args Q ret X h hl
  have hl : lv_has ls 3 [(0, .ref (a 0))] := hl
  have n8 := hI.n8
  have n0 := hI.n0
  refine z_iconst X dX5_allSun_0 ?_
  refine lv_istore_n (lv' := [(1, .int (iv (0))), (0, .ref (a 0))]) X.1 X.2.1 dX5_allSun_1 rfl hl (by decide) rfl (fun ls hl => ?_)
  refine z_iconst X dX5_allSun_2 ?_
  refine lv_istore_n (lv' := [(2, .int (iv (0))), (1, .int (iv (0))), (0, .ref (a 0))]) X.1 X.2.1 dX5_allSun_3 rfl hl (by decide) rfl (fun ls hl => ?_)
  have L4 : ∀ (n : Nat) (i : Int) (w : Int), 0 ≤ i → i ≤ 10 → w = sunk A i.toNat → 10 - i < (n : Int) → ∀ ls : Array Slot, lv_has ls 3 [(0, .ref (a 0)), (1, .int (iv (w))), (2, .int (iv (i)))] → W pp l e (rmk 0 0) s m args below meth c s.heap [] 0 0 Q (F0 m 4 ls []) := by
    intro n
    induction n with
    | zero =>
      intro i w i0 i1 hw hn
      exfalso; omega
    | succ n ih =>
      intro i w i0 i1 hw hn ls hl
      refine lv_iload_n X.1 X.2.1 dX5_allSun_4 rfl (lv_at hl 2 rfl) ?_
      refine z_bipush X (by decide) dX5_allSun_5 ?_
      refine z_ic_ge (tgt := 27) X ⟨by omega, by omega⟩ ⟨by decide, by decide⟩ dX5_allSun_7 (by decide) (fun c_7 => ?_) (fun c_7 => ?_)
      · refine lv_iload_n X.1 X.2.1 dX5_allSun_27 rfl (lv_at hl 1 rfl) ?_
        exact ret _ _ _ (by rw [hw, allS, show i = 10 by omega]; rfl) dX5_allSun_28
      · refine lv_iload_n X.1 X.2.1 dX5_allSun_10 rfl (lv_at hl 1 rfl) ?_
        refine lv_aload_n X.1 X.2.1 dX5_allSun_11 rfl (lv_at hl 0 rfl) ?_
        refine z_get X h 4 0 0 rfl inX5 rfl (by decide) fl_X5_9 rfl dX5_allSun_12 ?_
        refine z_iconst X dX5_allSun_15 ?_
        refine lv_iload_n X.1 X.2.1 dX5_allSun_16 rfl (lv_at hl 2 rfl) ?_
        refine z_iadd X dX5_allSun_17 ?_
        refine z_iald (v := sn A i) X h 1 rfl (by omega) (by omega) (by decide) (hR.2.2.1 i (by omega) (by omega)) dX5_allSun_18 ?_
        refine z_iadd X dX5_allSun_19 ?_
        refine lv_istore_n (lv' := [(1, .int (iv (w + (sn A i)))), (0, .ref (a 0)), (2, .int (iv (i)))]) X.1 X.2.1 dX5_allSun_20 rfl hl (by decide) rfl (fun ls hl => ?_)
        refine z_iinc (k := 2) (lv' := [(2, .int (iv (i + 1))), (1, .int (iv (w + (sn A i)))), (0, .ref (a 0))]) X dX5_allSun_21 hl rfl (by decide) rfl (fun ls hl => ?_)
        refine lv_goto (tgt := 4) X.1 X.2.1 dX5_allSun_24 (by decide) ?_
        exact ih (i + 1) (w + (sn A i)) (by omega) (by omega) (by rw [tn1 i0, sunk, tnc i0]; rw [hw]) (by omega) ls (lv_sub hl [2, 1, 0] rfl)
  exact L4 ((10 - (0) : Int).toNat + 1) (0) (0) (by omega) (by omega) (rfl) (by omega) ls (lv_sub hl [2, 1, 0] rfl)

set_option maxHeartbeats 4000000 in
theorem c_X5_howManySit (hR : RM mm A) (hI : IA A) : MP E l yX5_howManySit cX5_howManySit 3 (some FieldType.int) (rmk 2 43) (wM E a (mm, kp, wa, (iv (ik)), fd, gf, tp, (iv (tn)), (iv (tk)), (iv (bg)), (iv (pt)), (iv (vl)), (iv (bd)), bt, sz, cl)) [.ref (a 0)] (cntS A) := by
  refine goP (by decide) (Nat.le_of_ble_eq_true rfl) ?_
  intro pp e s m below meth c ls args Q ret X h hl
  have hl : lv_has ls 3 [(0, .ref (a 0))] := hl
  have n8 := hI.n8
  have n0 := hI.n0
  refine z_iconst X dX5_howManySit_0 ?_
  refine lv_istore_n (lv' := [(1, .int (iv (0))), (0, .ref (a 0))]) X.1 X.2.1 dX5_howManySit_1 rfl hl (by decide) rfl (fun ls hl => ?_)
  refine z_iconst X dX5_howManySit_2 ?_
  refine lv_istore_n (lv' := [(2, .int (iv (0))), (1, .int (iv (0))), (0, .ref (a 0))]) X.1 X.2.1 dX5_howManySit_3 rfl hl (by decide) rfl (fun ls hl => ?_)
  have L4 : ∀ (n : Nat) (i : Int) (w : Int), 0 ≤ i → i ≤ pe A → w = cntk (sitB A) i.toNat → pe A - i < (n : Int) → ∀ ls : Array Slot, lv_has ls 3 [(0, .ref (a 0)), (1, .int (iv (w))), (2, .int (iv (i)))] → W pp l e (rmk 2 43) s m args below meth c s.heap [] 0 0 Q (F0 m 4 ls []) := by
    intro n
    induction n with
    | zero =>
      intro i w i0 i1 hw hn
      exfalso; omega
    | succ n ih =>
      intro i w i0 i1 hw hn ls hl
      refine lv_iload_n X.1 X.2.1 dX5_howManySit_4 rfl (lv_at hl 2 rfl) ?_
      refine lv_aload_n X.1 X.2.1 dX5_howManySit_5 rfl (lv_at hl 0 rfl) ?_
      refine z_get X h 4 0 0 rfl inX5 rfl (by decide) fl_X5_9 rfl dX5_howManySit_6 ?_
      refine z_iconst X dX5_howManySit_9 ?_
      refine z_iald (v := pe A) X h 1 rfl (by omega) (by omega) (by decide) hR.2.1 dX5_howManySit_10 ?_
      refine z_ic_ge (tgt := 36) X ⟨by omega, by omega⟩ ⟨by omega, by omega⟩ dX5_howManySit_11 (by decide) (fun c_11 => ?_) (fun c_11 => ?_)
      · refine lv_iload_n X.1 X.2.1 dX5_howManySit_36 rfl (lv_at hl 1 rfl) ?_
        exact ret _ _ _ (by rw [hw, cntS, show i = pe A by omega]) dX5_howManySit_37
      · refine lv_iload_n X.1 X.2.1 dX5_howManySit_14 rfl (lv_at hl 1 rfl) ?_
        refine lv_aload_n X.1 X.2.1 dX5_howManySit_15 rfl (lv_at hl 0 rfl) ?_
        refine lv_iload_n X.1 X.2.1 dX5_howManySit_16 rfl (lv_at hl 2 rfl) ?_
        refine z_pi (run_V (rest := [.int (iv (w))]) X h (c_X5_sits (p := i) hR hI (by omega) (by omega)) mi_X5_sits ml_X5_56 ⟨Nat.le_of_ble_eq_true rfl, Nat.le_of_ble_eq_true rfl⟩ ⟨rfl, rfl⟩ (Seg.rfl' _) 4 0 rfl rfl rfl rfl hl.1 rfl (Nat.le_of_ble_eq_true rfl) ⟨Nat.zero_le _, Nat.zero_le _⟩ dX5_howManySit_17) ?_
        refine z_ifb_eq (tgt := 27) X dX5_howManySit_20 (by decide) (fun c_20 => ?_) (fun c_20 => ?_)
        · refine z_iconst X dX5_howManySit_27 ?_
          refine z_iadd X dX5_howManySit_28 ?_
          refine lv_istore_n (lv' := [(1, .int (iv (w + 0))), (0, .ref (a 0)), (2, .int (iv (i)))]) X.1 X.2.1 dX5_howManySit_29 rfl hl (by decide) rfl (fun ls hl => ?_)
          refine z_iinc (k := 2) (lv' := [(2, .int (iv (i + 1))), (1, .int (iv (w + 0))), (0, .ref (a 0))]) X dX5_howManySit_30 hl rfl (by decide) rfl (fun ls hl => ?_)
          refine lv_goto (tgt := 4) X.1 X.2.1 dX5_howManySit_33 (by decide) ?_
          exact ih (i + 1) (w + 0) (by omega) (by omega) (by rw [tn1 i0, cntk, tnc i0]; rw [hw]; first | rw [if_pos (by simp [sitB]; omega)] | rw [if_neg (by simp [sitB]; omega)]) (by omega) ls (lv_sub hl [2, 1, 0] rfl)
        · refine z_iconst X dX5_howManySit_23 ?_
          refine lv_goto (tgt := 28) X.1 X.2.1 dX5_howManySit_24 (by decide) ?_
          refine z_iadd X dX5_howManySit_28 ?_
          refine lv_istore_n (lv' := [(1, .int (iv (w + 1))), (0, .ref (a 0)), (2, .int (iv (i)))]) X.1 X.2.1 dX5_howManySit_29 rfl hl (by decide) rfl (fun ls hl => ?_)
          refine z_iinc (k := 2) (lv' := [(2, .int (iv (i + 1))), (1, .int (iv (w + 1))), (0, .ref (a 0))]) X dX5_howManySit_30 hl rfl (by decide) rfl (fun ls hl => ?_)
          refine lv_goto (tgt := 4) X.1 X.2.1 dX5_howManySit_33 (by decide) ?_
          exact ih (i + 1) (w + 1) (by omega) (by omega) (by rw [tn1 i0, cntk, tnc i0]; rw [hw]; first | rw [if_pos (by simp [sitB]; omega)] | rw [if_neg (by simp [sitB]; omega)]) (by omega) ls (lv_sub hl [2, 1, 0] rfl)
  exact L4 ((pe A - (0) : Int).toNat + 1) (0) (0) (by omega) (by omega) (rfl) (by omega) ls (lv_sub hl [2, 1, 0] rfl)
end
section
/-! ===== what each call answers and does: the one mathematical value ===== -/
def bump (f : Int → Int) (k : Int) : Int → Int := fun j => if j = k then f j + 1 else f j
def fz (k : Int) : Int := -1000000001 - k
abbrev T3 : Type := Int × Es × (Int → Int)
def bad3 (A : Es) (f : Int → Int) (k : Int) : T3 := (fz k, A, bump f k)
abbrev isP (A : Es) (x : Int) : Prop := 0 ≤ x ∧ x < pe A
def q_sun (A : Es) (f : Int → Int) (x v : Int) : T3 := if (0 ≤ x ∧ x ≤ 9) ∧ (0 ≤ v ∧ v ≤ 9) then (sn A x, su A x v, f) else bad3 A f 0
def q_chair (A : Es) (f : Int → Int) (x : Int) : T3 := if 0 ≤ x ∧ x ≤ 9 then (onC A x, A, f) else bad3 A f 0
def q_now (A : Es) (f : Int → Int) (w : Int) : T3 := if w = 0 then (hr A, A, f) else if w = 1 then (hr A % 10, A, f) else if w = 2 then (sunN A, A, f) else if w = 3 then (setS A, A, f) else if w = 4 then (setE A, A, f) else if w = 5 then (allB A, A, f) else if w = 6 then (sums A 4, A, f) else bad3 A f 0
def q_person (A : Es) (f : Int → Int) (k : Int) : T3 := if ¬ (0 ≤ k ∧ k ≤ 5) then bad3 A f 0 else if pe A = 8 then bad3 A f 1 else (pe A, nw A k 20, f)
def q_of (A : Es) (f : Int → Int) (x w : Int) : T3 := if ¬ (isP A x ∧ 0 ≤ w ∧ w ≤ 8) then bad3 A f 0 else if w = 5 then (fdO A x, A, f) else if w = 6 then (burnF (pr A 0 x), A, f) else if w = 7 then (nb A x (-1), A, f) else if w = 8 then (nb A x 1, A, f) else (pr A w x, A, f)
def q_set (A : Es) (f : Int → Int) (x w v : Int) : T3 := if isP A x ∧ (2 ≤ w ∧ w ≤ 4) ∧ (0 ≤ v ∧ v ≤ (if w = 4 then 9999 else 200)) then (pr A w x, pu A w x v, f) else bad3 A f 0
def q_turn (A : Es) (f : Int → Int) (x k : Int) : T3 := if isP A x ∧ (0 ≤ k ∧ k ≤ 5) then (pr A 0 x, pu A 0 x k, f) else bad3 A f 0
def q_as (A : Es) (f : Int → Int) (x k : Int) : T3 := if ¬ (isP A x ∧ (0 ≤ k ∧ k ≤ 5)) then bad3 A f 0 else if k = 0 ∨ k = pr A 0 x ∨ (k = 2 ∧ pr A 0 x = 4) ∨ (k = 1 ∧ pr A 0 x = 5) then (brn A x, A, f) else bad3 A f 2
def q_sit (A : Es) (f : Int → Int) (x c : Int) : T3 := if ¬ (isP A x ∧ (-1 ≤ c ∧ c ≤ 9)) then bad3 A f 0 else if c < 0 ∨ onC A c < 0 ∨ onC A c = x then (pr A 1 x, pu A 1 x c, f) else bad3 A f 4
def q_given (A : Es) (f : Int → Int) (x d : Int) : T3 := if isP A x ∧ (0 ≤ d ∧ d ≤ 1) then (gv A x d, A, f) else bad3 A f 0
def q_hours (A : Es) (f : Int → Int) (n : Int) : T3 := if ¬ (1 ≤ n ∧ n ≤ 100) then bad3 A f 0 else if 99999 < hr A + n then bad3 A f 4 else (allB (stepn A n.toNat), stepn A n.toNat, f)
def q_on (A : Es) (f : Int → Int) (x n w : Int) : T3 := if isP A x ∧ (0 ≤ n ∧ n ≤ 200) ∧ (0 ≤ w ∧ w ≤ 2) then (pr (stepn A n.toNat) (2 + w) x, A, f) else bad3 A f 0
/-- the first from k on with P, of so many; else the one behind them -/
def fnd (P : Nat → Bool) (k : Nat) : Nat → Nat
  | 0 => k
  | n + 1 => if P k = true then k else fnd P (k + 1) n
def q_brown (A : Es) (f : Int → Int) (x v : Int) : T3 := if ¬ (isP A x ∧ (0 ≤ v ∧ v ≤ 400)) then bad3 A f 0 else if 200 < fnd (fun n => decide (v ≤ brn (stepn A n) x)) 0 201 then bad3 A f 3 else ((fnd (fun n => decide (v ≤ brn (stepn A n) x)) 0 201 : Nat), A, f)
def q_burns (A : Es) (f : Int → Int) (x : Int) : T3 := if ¬ isP A x then bad3 A f 0 else if 200 < fnd (fun n => decide (pr (stepn A n) 4 x ≠ pr A 4 x)) 1 200 then bad3 A f 3 else ((fnd (fun n => decide (pr (stepn A n) 4 x ≠ pr A 4 x)) 1 200 : Nat), A, f)
def q_even (A : Es) (f : Int → Int) (x : Int) : T3 := if ¬ isP A x then bad3 A f 0 else if 200 < fnd (fun n => evB (stepn A n) x) 0 201 then bad3 A f 3 else ((fnd (fun n => evB (stepn A n) x) 0 201 : Nat), A, f)
/-- the most, of several the least: of the first k, those that may -/
def mostk (may : Int → Bool) (val : Int → Int) : Nat → Int × Int
  | 0 => (-1, -1)
  | k + 1 => if may (k : Int) = true ∧ (mostk may val k).2 < val (k : Int) then ((k : Int), val (k : Int)) else mostk may val k
def leastk (may : Int → Bool) (val : Int → Int) : Nat → Int × Int
  | 0 => (-1, 0)
  | k + 1 => if may (k : Int) = true ∧ ((leastk may val k).1 < 0 ∨ val (k : Int) < (leastk may val k).2) then ((k : Int), val (k : Int)) else leastk may val k
def orN (A : Es) (f : Int → Int) (b : Int) : T3 := if b < 0 then bad3 A f 3 else (b, A, f)
def sw (A : Es) (x o : Int) : Es := pu (pu A 1 x (pr A 1 o)) 1 o (pr A 1 x)
def freeB (A : Es) (x c : Int) : Bool := decide (onC A c < 0 ∨ onC A c = x)
def q_where (A : Es) (f : Int → Int) (x n : Int) : T3 := if ¬ (isP A x ∧ (1 ≤ n ∧ n ≤ 60)) then bad3 A f 0 else ((mostk (freeB A x) (fun c => brn (stepn (pu A 1 x c) n.toNat) x) 10).1, A, f)
def q_change (A : Es) (f : Int → Int) (x n : Int) : T3 := if ¬ (isP A x ∧ (1 ≤ n ∧ n ≤ 60)) then bad3 A f 0 else if pr A 1 x < 0 then bad3 A f 4 else orN A f (mostk (fun o => decide (o ≠ x ∧ 0 ≤ pr A 1 o)) (fun o => brn (stepn (sw A x o) n.toNat) x + brn (stepn (sw A x o) n.toNat) o) (pe A).toNat).1
def q_kind (A : Es) (f : Int → Int) (x n : Int) : T3 := if ¬ (isP A x ∧ (1 ≤ n ∧ n ≤ 60)) then bad3 A f 0 else ((mostk (fun _ => true) (fun k => brn (stepn (pu A 0 x k) n.toNat) x) 6).1, A, f)
def q_send (A : Es) (f : Int → Int) (n : Int) : T3 := if ¬ (1 ≤ n ∧ n ≤ 60) then bad3 A f 0 else orN A f (leastk (sitB A) (fun p => sums (stepn (pu A 1 p (-1)) n.toNat) 4) (pe A).toNat).1
def q_cloud (A : Es) (f : Int → Int) (n : Int) : T3 := if ¬ (1 ≤ n ∧ n ≤ 60) then bad3 A f 0 else ((leastk (fun _ => true) (fun k => allB (stepn (su A k 0) n.toNat)) 10).1, A, f)
def q_enough (A : Es) (f : Int → Int) (x o n v : Int) : T3 := if ¬ (((0 ≤ x ∧ x < pe A) ∧ (0 ≤ o ∧ o < pe A) ∧ x ≠ o) ∧ (1 ≤ n ∧ n ≤ 60) ∧ (0 ≤ v ∧ v ≤ 400)) then bad3 A f 0 else if 200 < fnd (fun k => decide (v ≤ brn (stepn (pu A 2 x (k : Int)) n.toNat) o)) 0 201 then bad3 A f 3 else ((fnd (fun k => decide (v ≤ brn (stepn (pu A 2 x (k : Int)) n.toNat) o)) 0 201 : Nat), A, f)
def q_brownest (A : Es) (f : Int → Int) (n : Int) : T3 := if ¬ (0 ≤ n ∧ n ≤ 200) then bad3 A f 0 else orN A f (mostk (fun _ => true) (fun p => brn (stepn A n.toNat) p) (pe A).toNat).1
theorem fnd_le (P : Nat → Bool) : ∀ (n k : Nat), k ≤ fnd P k n ∧ fnd P k n ≤ k + n
  | 0, k => by simp [fnd]
  | n + 1, k => by
    have := fnd_le P n (k + 1)
    unfold fnd
    split <;> omega
theorem fnd_yes {P : Nat → Bool} {n k : Nat} (h : P k = true) : fnd P k (n + 1) = k := by unfold fnd; rw [if_pos h]
theorem fnd_no {P : Nat → Bool} {n k : Nat} (h : ¬ P k = true) : fnd P k (n + 1) = fnd P (k + 1) n := by conv => lhs; unfold fnd; rw [if_neg h]
theorem mostk_rng {may : Int → Bool} {val : Int → Int} : ∀ k : Nat, (∀ j : Int, 0 ≤ j → j < k → may j = true → 0 ≤ val j ∧ val j ≤ 800) → -1 ≤ (mostk may val k).1 ∧ (mostk may val k).1 < k + 1 ∧ -1 ≤ (mostk may val k).2 ∧ (mostk may val k).2 ≤ 800 ∧ ((mostk may val k).1 = -1 ∨ (mostk may val k).1 < k)
  | 0, _ => by simp [mostk]
  | k + 1, h => by
    have ih := mostk_rng k (fun j h0 h1 => h j h0 (by omega))
    unfold mostk
    split
    · next q => have := h (k : Int) (by omega) (by omega) q.1; dsimp only; omega
    · omega
theorem leastk_rng {may : Int → Bool} {val : Int → Int} : ∀ k : Nat, (∀ j : Int, 0 ≤ j → j < k → may j = true → 0 ≤ val j ∧ val j ≤ 1000000) → -1 ≤ (leastk may val k).1 ∧ (leastk may val k).1 < k + 1 ∧ 0 ≤ (leastk may val k).2 ∧ (leastk may val k).2 ≤ 1000000 ∧ ((leastk may val k).1 = -1 ∨ (leastk may val k).1 < k)
  | 0, _ => by simp [leastk]
  | k + 1, h => by
    have ih := leastk_rng k (fun j h0 h1 => h j h0 (by omega))
    unfold leastk
    split
    · next q => have := h (k : Int) (by omega) (by omega) q.1; dsimp only; omega
    · omega
/-! ===== pictures ===== -/
theorem pu_at (A : Es) (w p v w' p' : Int) : pr (pu A w p v) w' p' = if w' = w ∧ p' = p then v else pr A w' p' := rfl
theorem su_at (A : Es) (i v j : Int) : sn (su A i v) j = if j = i then v else sn A j := rfl
theorem nw_at (A : Es) (k b w p : Int) : pr (nw A k b) w p = if p = pe A then (if w = 0 then k else if w = 1 then -1 else if w = 4 then 0 else b) else pr A w p := rfl
theorem step_at (A : Es) (w p : Int) : pr (step A) w p = if 0 ≤ pr A 1 p then (if w = 2 then nside A p 0 else if w = 3 then nside A p 1 else if w = 4 then nburn A p else pr A w p) else pr A w p := rfl
def RF (n : Int) (f : Nat → Int32) (g : Int → Int) : Prop := ∀ i : Int, 0 ≤ i → i < n → f i.toNat = iv (g i)
theorem tn_ne {i j : Int} (hi : 0 ≤ i) (hj : 0 ≤ j) (h : i ≠ j) : ¬ i.toNat = j.toNat := by omega
theorem RF_bump {n : Int} {f : Nat → Int32} {g : Int → Int} {k : Int} (h : RF n f g) (k0 : 0 ≤ k) : RF n (upd f k.toNat (iv (g k + 1))) (bump g k) := by
  intro i i0 i1
  unfold upd bump
  by_cases hk : i = k
  · subst hk; rw [if_pos rfl, if_pos rfl]
  · rw [if_neg (tn_ne i0 k0 hk), if_neg hk]; exact h i i0 i1
theorem upd_ne {f : Nat → Int32} {k j : Nat} {x : Int32} (h : j ≠ k) : upd f k x j = f j := if_neg h
theorem upd_eq {f : Nat → Int32} {k : Nat} {x : Int32} : upd f k x k = x := if_pos rfl
theorem RM_pu {f : Nat → Int32} {A : Es} (h : RM f A) {w p v : Int} (w0 : 0 ≤ w) (w1 : w < 5) (p0 : 0 ≤ p) (p1 : p < pe A) : RM (upd f (12 + 5 * p + w).toNat (iv v)) (pu A w p v) := by
  refine ⟨?_, ?_, fun i i0 i1 => ?_, fun w' p' a0 a1 b0 b1 => ?_⟩
  · rw [upd_ne (by omega)]; exact h.1
  · rw [upd_ne (by omega)]; exact h.2.1
  · rw [upd_ne (by omega)]; exact h.2.2.1 i i0 i1
  · by_cases hq : w' = w ∧ p' = p
    · obtain ⟨rfl, rfl⟩ := hq
      rw [upd_eq, pu_at, if_pos ⟨rfl, rfl⟩]
    · rw [upd_ne (by omega)]
      show _ = iv (if w' = w ∧ p' = p then v else pr A w' p')
      rw [if_neg hq]
      exact h.2.2.2 w' p' a0 a1 b0 b1
theorem RM_su {f : Nat → Int32} {A : Es} (h : RM f A) {i v : Int} (i0 : 0 ≤ i) (i1 : i < 10) : RM (upd f (2 + i).toNat (iv v)) (su A i v) := by
  refine ⟨?_, ?_, fun j j0 j1 => ?_, fun w' p' a0 a1 b0 b1 => ?_⟩
  · rw [upd_ne (by omega)]; exact h.1
  · rw [upd_ne (by omega)]; exact h.2.1
  · show _ = iv (if j = i then v else sn A j)
    by_cases hq : j = i
    · subst hq; rw [upd_eq, if_pos rfl]
    · rw [upd_ne (by omega), if_neg hq]; exact h.2.2.1 j j0 j1
  · rw [upd_ne (by omega)]; exact h.2.2.2 w' p' a0 a1 b0 b1
theorem RM_hr {f : Nat → Int32} {A : Es} (h : RM f A) {v : Int} : RM (upd f (0 : Int).toNat (iv v)) (v, A.2) := by
  refine ⟨upd_eq, ?_, fun j j0 j1 => ?_, fun w' p' a0 a1 b0 b1 => ?_⟩
  · rw [upd_ne (by decide)]; exact h.2.1
  · rw [upd_ne (by show ¬ _ = 0; omega)]; exact h.2.2.1 j j0 j1
  · rw [upd_ne (by show ¬ _ = 0; omega)]; exact h.2.2.2 w' p' a0 a1 b0 b1
theorem RM_congr {f : Nat → Int32} {A B : Es} (h : RM f A) (e1 : hr A = hr B) (e2 : pe A = pe B) (e3 : ∀ i, 0 ≤ i → i < 10 → sn A i = sn B i) (e4 : ∀ w p, 0 ≤ w → w < 5 → 0 ≤ p → p < pe A → pr A w p = pr B w p) : RM f B :=
  ⟨by rw [← e1]; exact h.1, by rw [← e2]; exact h.2.1, fun i i0 i1 => by rw [← e3 i i0 i1]; exact h.2.2.1 i i0 i1, fun w p a0 a1 b0 b1 => by rw [← e4 w p a0 a1 b0 (by rw [e2]; exact b1)]; exact h.2.2.2 w p a0 a1 b0 (by rw [e2]; exact b1)⟩
def EQ52 (u f : Nat → Int32) : Prop := ∀ j : Nat, j < 52 → u j = f j
theorem RM_eq {u f : Nat → Int32} {A : Es} (h : RM f A) (n8 : pe A ≤ 8) (e : EQ52 u f) : RM u A :=
  ⟨by rw [e 0 (by decide)]; exact h.1, by rw [e 1 (by decide)]; exact h.2.1, fun i i0 i1 => by rw [e _ (by omega)]; exact h.2.2.1 i i0 i1, fun w p a0 a1 b0 b1 => by rw [e _ (by omega)]; exact h.2.2.2 w p a0 a1 b0 b1⟩
theorem EQ52.trans {a b c : Nat → Int32} (h : EQ52 a b) (h2 : EQ52 b c) : EQ52 a c := fun j hj => (h j hj).trans (h2 j hj)
theorem IA_pu {A : Es} (h : IA A) {w p v : Int} (p0 : 0 ≤ p) (p1 : p < pe A) (hw : (w = 0 ∧ 0 ≤ v ∧ v ≤ 5) ∨ ((w = 2 ∨ w = 3) ∧ 0 ≤ v ∧ v ≤ 200) ∨ (w = 4 ∧ 0 ≤ v ∧ v ≤ 9999) ∨ (w = 1 ∧ -1 ≤ v ∧ v ≤ 9 ∧ (v < 0 ∨ ∀ q, 0 ≤ q → q < pe A → q ≠ p → pr A 1 q ≠ v))) : IA (pu A w p v) := by
  obtain ⟨h1, h2, h3, h4, h5, h6⟩ := h
  refine ⟨h1, h2, h3, h4, fun q q0 q1 => ?_, fun q r q0 q1 r0 r1 hqr hc => ?_⟩
  · have := h5 q q0 q1
    have := h5 p p0 p1
    simp only [pu_at]
    by_cases hq : q = p
    · subst hq
      rcases hw with ⟨rfl, a⟩ | ⟨rfl | rfl, a⟩ | ⟨rfl, a⟩ | ⟨rfl, a⟩ <;> simp <;> omega
    · simp [hq]; omega
  · simp only [pu_at] at hc ⊢
    have k := h6 q r q0 q1 r0 r1 hqr
    by_cases h1w : w = 1
    · subst h1w
      simp only [true_and] at hc ⊢
      rcases hw with ⟨h, _⟩ | ⟨h | h, _⟩ | ⟨h, _⟩ | ⟨_, _, _, a⟩ <;> try omega
      by_cases hq : q = p
      · subst hq
        rw [if_pos rfl] at hc ⊢
        rw [if_neg (fun e => hqr e.symm)]
        rcases a with a | a
        · omega
        · exact fun e => a r r0 r1 (fun e => hqr e.symm) e.symm
      · rw [if_neg hq] at hc ⊢
        by_cases hr : r = p
        · subst hr
          rw [if_pos rfl]
          rcases a with a | a
          · omega
          · exact a q q0 q1 hq
        · rw [if_neg hr]; exact k hc
    · rw [if_neg (by omega)] at hc
      rw [if_neg (by omega), if_neg (by omega)]
      exact k hc
theorem IA_su {A : Es} (h : IA A) {i v : Int} (v0 : 0 ≤ v) (v1 : v ≤ 9) : IA (su A i v) := by
  obtain ⟨h1, h2, h3, h4, h5, h6⟩ := h
  refine ⟨h1, h2, h3, fun j j0 j1 => ?_, h5, h6⟩
  simp only [su_at]
  split
  · omega
  · exact h4 j j0 j1
theorem IA_nw {A : Es} (h : IA A) {k b : Int} (n8 : pe A < 8) (k0 : 0 ≤ k) (k1 : k ≤ 5) (b0 : 0 ≤ b) (b1 : b ≤ 200) : IA (nw A k b) := by
  obtain ⟨h1, h2, h3, h4, h5, h6⟩ := h
  refine ⟨h1, by show 0 ≤ pe A + 1; omega, by show pe A + 1 ≤ 8; omega, h4, fun q q0 q1 => ?_, fun q r q0 q1 r0 r1 hqr hc => ?_⟩
  · have q1 : q < pe A + 1 := q1
    simp only [nw_at]
    by_cases hq : q = pe A
    · simp [hq]; omega
    · have := h5 q q0 (by omega)
      simp [hq]; omega
  · have q1 : q < pe A + 1 := q1
    have r1 : r < pe A + 1 := r1
    simp only [nw_at] at hc ⊢
    by_cases hq : q = pe A
    · simp [hq] at hc
    · simp [hq] at hc ⊢
      by_cases hr : r = pe A
      · simp [hr]; omega
      · simp [hr]; exact h6 q r q0 (by omega) r0 (by omega) hqr hc
/-- who sits on a chair, by the chairs alone -/
theorem onk_in {A : Es} {c : Int} : ∀ k : Nat, 0 ≤ onk A c k → pr A 1 (onk A c k) = c
  | 0, h => by simp [onk] at h
  | k + 1, h => by
    unfold onk at h ⊢
    split
    · next q => exact q
    · next q => rw [if_neg q] at h; exact onk_in k h
theorem onk_no {A : Es} {c : Int} : ∀ k : Nat, onk A c k < 0 → ∀ j : Int, 0 ≤ j → j < k → pr A 1 j ≠ c
  | 0, _, j, _, _ => by omega
  | k + 1, h, j, j0, j1 => by
    unfold onk at h
    split at h
    · omega
    · next q =>
      by_cases hj : j = k
      · subst hj; exact q
      · exact onk_no k h j j0 (by omega)
theorem onC_in {A : Es} {c : Int} (h : 0 ≤ onC A c) : pr A 1 (onC A c) = c := onk_in _ h
theorem onC_no {A : Es} (hI : IA A) {c : Int} (h : onC A c < 0) {j : Int} (j0 : 0 ≤ j) (j1 : j < pe A) : pr A 1 j ≠ c := onk_no _ h j j0 (by have := hI.n0; omega)
/-- a free chair may be taken -/
theorem IA_sit {A : Es} (h : IA A) {p c : Int} (p0 : 0 ≤ p) (p1 : p < pe A) (c0 : -1 ≤ c) (c1 : c ≤ 9) (hf : c < 0 ∨ onC A c < 0 ∨ onC A c = p) : IA (pu A 1 p c) := by
  refine IA_pu h p0 p1 (Or.inr (Or.inr (Or.inr ⟨rfl, c0, c1, ?_⟩)))
  rcases hf with hf | hf | hf
  · exact Or.inl hf
  · exact Or.inr (fun q q0 q1 _ => onC_no h hf q0 q1)
  · by_cases hc : c < 0
    · exact Or.inl hc
    · refine Or.inr (fun q q0 q1 hq e => ?_)
      have e2 : pr A 1 p = c := by rw [← hf]; exact onC_in (by omega)
      exact h.2.2.2.2.2 p q p0 p1 q0 q1 (fun e => hq e.symm) (by omega) (by rw [e, e2])
end
