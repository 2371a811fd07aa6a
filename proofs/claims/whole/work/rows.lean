section
-- ===== PART A: goes FIRST, ahead of the names: the tables' words, and 'selects' of the private methods out of them =====
/-- a private method of a class that the tables say can be made, by its rows of tables_1 -/
def lw_okq (q : MethodName × Nat) : Prop := (q.1.cls ≠ "java/lang/invoke/MethodHandle" ∧ q.1.cls ≠ "java/lang/invoke/VarHandle") ∧ Cond.instantiable q.1.cls q.2 ∈ tables_1 ∧ Cond.privateMethod q.1 ∈ tables_1 ∧ Cond.instanceMethod q.1 ∈ tables_1
theorem lw_p0 : lw_okq (⟨"TreePlaces$State", "clearMarks", "()V"⟩, 7) := ⟨⟨by decide +kernel, by decide +kernel⟩, List.mem_of_getElem? (i := 19) (by decide +kernel), List.mem_of_getElem? (i := 57) (by decide +kernel), List.mem_of_getElem? (i := 58) (by decide +kernel)⟩
theorem lw_p1 : lw_okq (⟨"TreePlaces", "walk", "(I)I"⟩, 4) := ⟨⟨by decide +kernel, by decide +kernel⟩, List.mem_of_getElem? (i := 11) (by decide +kernel), List.mem_of_getElem? (i := 207) (by decide +kernel), List.mem_of_getElem? (i := 208) (by decide +kernel)⟩
theorem lw_p2 : lw_okq (⟨"TreePlaces$History", "slotAt", "(I)LTreePlaces$State;"⟩, 3) := ⟨⟨by decide +kernel, by decide +kernel⟩, List.mem_of_getElem? (i := 99) (by decide +kernel), List.mem_of_getElem? (i := 215) (by decide +kernel), List.mem_of_getElem? (i := 216) (by decide +kernel)⟩
theorem lw_p3 : lw_okq (⟨"TreePlaces$Tree", "next", "(I)I"⟩, 2) := ⟨⟨by decide +kernel, by decide +kernel⟩, List.mem_of_getElem? (i := 25) (by decide +kernel), List.mem_of_getElem? (i := 273) (by decide +kernel), List.mem_of_getElem? (i := 274) (by decide +kernel)⟩
theorem lw_p4 : lw_okq (⟨"TreePlaces$Tree", "ahead", "(I)I"⟩, 2) := ⟨⟨by decide +kernel, by decide +kernel⟩, List.mem_of_getElem? (i := 25) (by decide +kernel), List.mem_of_getElem? (i := 277) (by decide +kernel), List.mem_of_getElem? (i := 278) (by decide +kernel)⟩
theorem lw_p5 : lw_okq (⟨"TreePlaces$State", "numberOfKey", "(I)I"⟩, 7) := ⟨⟨by decide +kernel, by decide +kernel⟩, List.mem_of_getElem? (i := 19) (by decide +kernel), List.mem_of_getElem? (i := 306) (by decide +kernel), List.mem_of_getElem? (i := 307) (by decide +kernel)⟩
theorem lw_p6 : lw_okq (⟨"TreePlaces$State", "placeWithoutPart", "()I"⟩, 7) := ⟨⟨by decide +kernel, by decide +kernel⟩, List.mem_of_getElem? (i := 19) (by decide +kernel), List.mem_of_getElem? (i := 352) (by decide +kernel), List.mem_of_getElem? (i := 353) (by decide +kernel)⟩
theorem lw_p7 : lw_okq (⟨"TreePlaces$Scan", "reasonAgainst", "(I)I"⟩, 6) := ⟨⟨by decide +kernel, by decide +kernel⟩, List.mem_of_getElem? (i := 120) (by decide +kernel), List.mem_of_getElem? (i := 566) (by decide +kernel), List.mem_of_getElem? (i := 567) (by decide +kernel)⟩
theorem lw_p8 : lw_okq (⟨"TreePlaces$Scan", "passLetter", "(I)I"⟩, 6) := ⟨⟨by decide +kernel, by decide +kernel⟩, List.mem_of_getElem? (i := 120) (by decide +kernel), List.mem_of_getElem? (i := 570) (by decide +kernel), List.mem_of_getElem? (i := 571) (by decide +kernel)⟩
theorem lw_p9 : lw_okq (⟨"TreePlaces$Scan", "passOpening", "()I"⟩, 6) := ⟨⟨by decide +kernel, by decide +kernel⟩, List.mem_of_getElem? (i := 120) (by decide +kernel), List.mem_of_getElem? (i := 578) (by decide +kernel), List.mem_of_getElem? (i := 579) (by decide +kernel)⟩
theorem lw_p10 : lw_okq (⟨"TreePlaces$Scan", "passComma", "()I"⟩, 6) := ⟨⟨by decide +kernel, by decide +kernel⟩, List.mem_of_getElem? (i := 120) (by decide +kernel), List.mem_of_getElem? (i := 583) (by decide +kernel), List.mem_of_getElem? (i := 584) (by decide +kernel)⟩
theorem lw_p11 : lw_okq (⟨"TreePlaces$Scan", "passClosing", "()I"⟩, 6) := ⟨⟨by decide +kernel, by decide +kernel⟩, List.mem_of_getElem? (i := 120) (by decide +kernel), List.mem_of_getElem? (i := 587) (by decide +kernel), List.mem_of_getElem? (i := 588) (by decide +kernel)⟩
theorem lw_p12 : lw_okq (⟨"TreePlacesModel", "begins", "()V"⟩, 12) := ⟨⟨by decide +kernel, by decide +kernel⟩, List.mem_of_getElem? (i := 602) (by decide +kernel), List.mem_of_getElem? (i := 649) (by decide +kernel), List.mem_of_getElem? (i := 650) (by decide +kernel)⟩
theorem lw_p13 : lw_okq (⟨"TreePlacesModel", "place", "()I"⟩, 12) := ⟨⟨by decide +kernel, by decide +kernel⟩, List.mem_of_getElem? (i := 602) (by decide +kernel), List.mem_of_getElem? (i := 653) (by decide +kernel), List.mem_of_getElem? (i := 654) (by decide +kernel)⟩
theorem lw_p14 : lw_okq (⟨"TreePlacesModel", "numberOf", "(I)I"⟩, 12) := ⟨⟨by decide +kernel, by decide +kernel⟩, List.mem_of_getElem? (i := 602) (by decide +kernel), List.mem_of_getElem? (i := 657) (by decide +kernel), List.mem_of_getElem? (i := 658) (by decide +kernel)⟩
theorem lw_p15 : lw_okq (⟨"TreePlacesModel", "own", "(I)I"⟩, 12) := ⟨⟨by decide +kernel, by decide +kernel⟩, List.mem_of_getElem? (i := 602) (by decide +kernel), List.mem_of_getElem? (i := 661) (by decide +kernel), List.mem_of_getElem? (i := 662) (by decide +kernel)⟩
def lw_privs_1 : List (MethodName × Nat) := [(⟨"TreePlaces$State", "clearMarks", "()V"⟩, 7), (⟨"TreePlaces", "walk", "(I)I"⟩, 4), (⟨"TreePlaces$History", "slotAt", "(I)LTreePlaces$State;"⟩, 3), (⟨"TreePlaces$Tree", "next", "(I)I"⟩, 2), (⟨"TreePlaces$Tree", "ahead", "(I)I"⟩, 2), (⟨"TreePlaces$State", "numberOfKey", "(I)I"⟩, 7), (⟨"TreePlaces$State", "placeWithoutPart", "()I"⟩, 7), (⟨"TreePlaces$Scan", "reasonAgainst", "(I)I"⟩, 6), (⟨"TreePlaces$Scan", "passLetter", "(I)I"⟩, 6), (⟨"TreePlaces$Scan", "passOpening", "()I"⟩, 6), (⟨"TreePlaces$Scan", "passComma", "()I"⟩, 6), (⟨"TreePlaces$Scan", "passClosing", "()I"⟩, 6), (⟨"TreePlacesModel", "begins", "()V"⟩, 12), (⟨"TreePlacesModel", "place", "()I"⟩, 12), (⟨"TreePlacesModel", "numberOf", "(I)I"⟩, 12), (⟨"TreePlacesModel", "own", "(I)I"⟩, 12)]
theorem lw_r1 : ∀ q ∈ lw_privs_1, lw_okq q := List.forall_mem_cons.mpr ⟨lw_p0, List.forall_mem_cons.mpr ⟨lw_p1, List.forall_mem_cons.mpr ⟨lw_p2, List.forall_mem_cons.mpr ⟨lw_p3, List.forall_mem_cons.mpr ⟨lw_p4, List.forall_mem_cons.mpr ⟨lw_p5, List.forall_mem_cons.mpr ⟨lw_p6, List.forall_mem_cons.mpr ⟨lw_p7, List.forall_mem_cons.mpr ⟨lw_p8, List.forall_mem_cons.mpr ⟨lw_p9, List.forall_mem_cons.mpr ⟨lw_p10, List.forall_mem_cons.mpr ⟨lw_p11, List.forall_mem_cons.mpr ⟨lw_p12, List.forall_mem_cons.mpr ⟨lw_p13, List.forall_mem_cons.mpr ⟨lw_p14, List.forall_mem_cons.mpr ⟨lw_p15, fun _ h => absurd h List.not_mem_nil⟩⟩⟩⟩⟩⟩⟩⟩⟩⟩⟩⟩⟩⟩⟩⟩
theorem lw_p16 : lw_okq (⟨"TreePlacesModel", "children", "(I)I"⟩, 12) := ⟨⟨by decide +kernel, by decide +kernel⟩, List.mem_of_getElem? (i := 602) (by decide +kernel), List.mem_of_getElem? (i := 665) (by decide +kernel), List.mem_of_getElem? (i := 666) (by decide +kernel)⟩
theorem lw_p17 : lw_okq (⟨"TreePlacesModel", "end", "(I)I"⟩, 12) := ⟨⟨by decide +kernel, by decide +kernel⟩, List.mem_of_getElem? (i := 602) (by decide +kernel), List.mem_of_getElem? (i := 669) (by decide +kernel), List.mem_of_getElem? (i := 670) (by decide +kernel)⟩
theorem lw_p18 : lw_okq (⟨"TreePlacesModel", "deep", "(I)I"⟩, 12) := ⟨⟨by decide +kernel, by decide +kernel⟩, List.mem_of_getElem? (i := 602) (by decide +kernel), List.mem_of_getElem? (i := 673) (by decide +kernel), List.mem_of_getElem? (i := 674) (by decide +kernel)⟩
theorem lw_p19 : lw_okq (⟨"TreePlacesModel", "childOf", "(II)I"⟩, 12) := ⟨⟨by decide +kernel, by decide +kernel⟩, List.mem_of_getElem? (i := 602) (by decide +kernel), List.mem_of_getElem? (i := 677) (by decide +kernel), List.mem_of_getElem? (i := 678) (by decide +kernel)⟩
theorem lw_p20 : lw_okq (⟨"TreePlacesModel", "walks", "(I)I"⟩, 12) := ⟨⟨by decide +kernel, by decide +kernel⟩, List.mem_of_getElem? (i := 602) (by decide +kernel), List.mem_of_getElem? (i := 681) (by decide +kernel), List.mem_of_getElem? (i := 682) (by decide +kernel)⟩
theorem lw_p21 : lw_okq (⟨"TreePlacesModel", "acted", "(I)I"⟩, 12) := ⟨⟨by decide +kernel, by decide +kernel⟩, List.mem_of_getElem? (i := 602) (by decide +kernel), List.mem_of_getElem? (i := 685) (by decide +kernel), List.mem_of_getElem? (i := 686) (by decide +kernel)⟩
theorem lw_p22 : lw_okq (⟨"TreePlacesModel", "above", "(I)I"⟩, 12) := ⟨⟨by decide +kernel, by decide +kernel⟩, List.mem_of_getElem? (i := 602) (by decide +kernel), List.mem_of_getElem? (i := 693) (by decide +kernel), List.mem_of_getElem? (i := 694) (by decide +kernel)⟩
theorem lw_p23 : lw_okq (⟨"TreePlacesModel", "besides", "(IZ)I"⟩, 12) := ⟨⟨by decide +kernel, by decide +kernel⟩, List.mem_of_getElem? (i := 602) (by decide +kernel), List.mem_of_getElem? (i := 704) (by decide +kernel), List.mem_of_getElem? (i := 705) (by decide +kernel)⟩
theorem lw_p24 : lw_okq (⟨"TreePlacesModel", "isNode", "(I)Z"⟩, 12) := ⟨⟨by decide +kernel, by decide +kernel⟩, List.mem_of_getElem? (i := 602) (by decide +kernel), List.mem_of_getElem? (i := 712) (by decide +kernel), List.mem_of_getElem? (i := 713) (by decide +kernel)⟩
theorem lw_p25 : lw_okq (⟨"TreePlacesModel", "sign", "(I)I"⟩, 12) := ⟨⟨by decide +kernel, by decide +kernel⟩, List.mem_of_getElem? (i := 602) (by decide +kernel), List.mem_of_getElem? (i := 728) (by decide +kernel), List.mem_of_getElem? (i := 729) (by decide +kernel)⟩
theorem lw_p26 : lw_okq (⟨"TreePlacesModel", "opens", "(II)V"⟩, 12) := ⟨⟨by decide +kernel, by decide +kernel⟩, List.mem_of_getElem? (i := 602) (by decide +kernel), List.mem_of_getElem? (i := 736) (by decide +kernel), List.mem_of_getElem? (i := 737) (by decide +kernel)⟩
theorem lw_p27 : lw_okq (⟨"TreePlacesModel", "lays", "(III)V"⟩, 12) := ⟨⟨by decide +kernel, by decide +kernel⟩, List.mem_of_getElem? (i := 602) (by decide +kernel), List.mem_of_getElem? (i := 740) (by decide +kernel), List.mem_of_getElem? (i := 741) (by decide +kernel)⟩
theorem lw_p28 : lw_okq (⟨"TreePlacesModel", "goes", "()I"⟩, 12) := ⟨⟨by decide +kernel, by decide +kernel⟩, List.mem_of_getElem? (i := 602) (by decide +kernel), List.mem_of_getElem? (i := 752) (by decide +kernel), List.mem_of_getElem? (i := 753) (by decide +kernel)⟩
theorem lw_p29 : lw_okq (⟨"TreePlacesModel", "closes", "(II)V"⟩, 12) := ⟨⟨by decide +kernel, by decide +kernel⟩, List.mem_of_getElem? (i := 602) (by decide +kernel), List.mem_of_getElem? (i := 756) (by decide +kernel), List.mem_of_getElem? (i := 757) (by decide +kernel)⟩
theorem lw_p30 : lw_okq (⟨"TreePlacesModel", "forgets", "()V"⟩, 12) := ⟨⟨by decide +kernel, by decide +kernel⟩, List.mem_of_getElem? (i := 602) (by decide +kernel), List.mem_of_getElem? (i := 760) (by decide +kernel), List.mem_of_getElem? (i := 761) (by decide +kernel)⟩
theorem lw_p31 : lw_okq (⟨"TreePlacesModel", "clips", "()V"⟩, 12) := ⟨⟨by decide +kernel, by decide +kernel⟩, List.mem_of_getElem? (i := 602) (by decide +kernel), List.mem_of_getElem? (i := 768) (by decide +kernel), List.mem_of_getElem? (i := 769) (by decide +kernel)⟩
def lw_privs_2 : List (MethodName × Nat) := [(⟨"TreePlacesModel", "children", "(I)I"⟩, 12), (⟨"TreePlacesModel", "end", "(I)I"⟩, 12), (⟨"TreePlacesModel", "deep", "(I)I"⟩, 12), (⟨"TreePlacesModel", "childOf", "(II)I"⟩, 12), (⟨"TreePlacesModel", "walks", "(I)I"⟩, 12), (⟨"TreePlacesModel", "acted", "(I)I"⟩, 12), (⟨"TreePlacesModel", "above", "(I)I"⟩, 12), (⟨"TreePlacesModel", "besides", "(IZ)I"⟩, 12), (⟨"TreePlacesModel", "isNode", "(I)Z"⟩, 12), (⟨"TreePlacesModel", "sign", "(I)I"⟩, 12), (⟨"TreePlacesModel", "opens", "(II)V"⟩, 12), (⟨"TreePlacesModel", "lays", "(III)V"⟩, 12), (⟨"TreePlacesModel", "goes", "()I"⟩, 12), (⟨"TreePlacesModel", "closes", "(II)V"⟩, 12), (⟨"TreePlacesModel", "forgets", "()V"⟩, 12), (⟨"TreePlacesModel", "clips", "()V"⟩, 12)]
theorem lw_r2 : ∀ q ∈ lw_privs_2, lw_okq q := List.forall_mem_cons.mpr ⟨lw_p16, List.forall_mem_cons.mpr ⟨lw_p17, List.forall_mem_cons.mpr ⟨lw_p18, List.forall_mem_cons.mpr ⟨lw_p19, List.forall_mem_cons.mpr ⟨lw_p20, List.forall_mem_cons.mpr ⟨lw_p21, List.forall_mem_cons.mpr ⟨lw_p22, List.forall_mem_cons.mpr ⟨lw_p23, List.forall_mem_cons.mpr ⟨lw_p24, List.forall_mem_cons.mpr ⟨lw_p25, List.forall_mem_cons.mpr ⟨lw_p26, List.forall_mem_cons.mpr ⟨lw_p27, List.forall_mem_cons.mpr ⟨lw_p28, List.forall_mem_cons.mpr ⟨lw_p29, List.forall_mem_cons.mpr ⟨lw_p30, List.forall_mem_cons.mpr ⟨lw_p31, fun _ h => absurd h List.not_mem_nil⟩⟩⟩⟩⟩⟩⟩⟩⟩⟩⟩⟩⟩⟩⟩⟩
theorem lw_p32 : lw_okq (⟨"TreePlacesModel", "height", "(I)I"⟩, 12) := ⟨⟨by decide +kernel, by decide +kernel⟩, List.mem_of_getElem? (i := 602) (by decide +kernel), List.mem_of_getElem? (i := 780) (by decide +kernel), List.mem_of_getElem? (i := 781) (by decide +kernel)⟩
theorem lw_p33 : lw_okq (⟨"TreePlacesModel", "sinks", "(III)V"⟩, 12) := ⟨⟨by decide +kernel, by decide +kernel⟩, List.mem_of_getElem? (i := 602) (by decide +kernel), List.mem_of_getElem? (i := 784) (by decide +kernel), List.mem_of_getElem? (i := 785) (by decide +kernel)⟩
theorem lw_p34 : lw_okq (⟨"TreePlacesModel", "swaps", "(II)V"⟩, 12) := ⟨⟨by decide +kernel, by decide +kernel⟩, List.mem_of_getElem? (i := 602) (by decide +kernel), List.mem_of_getElem? (i := 796) (by decide +kernel), List.mem_of_getElem? (i := 797) (by decide +kernel)⟩
theorem lw_p35 : lw_okq (⟨"TreePlacesModel", "which", "(I)I"⟩, 12) := ⟨⟨by decide +kernel, by decide +kernel⟩, List.mem_of_getElem? (i := 602) (by decide +kernel), List.mem_of_getElem? (i := 800) (by decide +kernel), List.mem_of_getElem? (i := 801) (by decide +kernel)⟩
theorem lw_p36 : lw_okq (⟨"TreePlacesModel", "clipHeight", "()I"⟩, 12) := ⟨⟨by decide +kernel, by decide +kernel⟩, List.mem_of_getElem? (i := 602) (by decide +kernel), List.mem_of_getElem? (i := 808) (by decide +kernel), List.mem_of_getElem? (i := 809) (by decide +kernel)⟩
theorem lw_p37 : lw_okq (⟨"TreePlacesModel", "marksAt", "(I)I"⟩, 12) := ⟨⟨by decide +kernel, by decide +kernel⟩, List.mem_of_getElem? (i := 602) (by decide +kernel), List.mem_of_getElem? (i := 827) (by decide +kernel), List.mem_of_getElem? (i := 828) (by decide +kernel)⟩
theorem lw_p38 : lw_okq (⟨"TreePlacesModel", "leaves", "()I"⟩, 12) := ⟨⟨by decide +kernel, by decide +kernel⟩, List.mem_of_getElem? (i := 602) (by decide +kernel), List.mem_of_getElem? (i := 843) (by decide +kernel), List.mem_of_getElem? (i := 844) (by decide +kernel)⟩
theorem lw_p39 : lw_okq (⟨"TreePlacesModel", "unlike", "()I"⟩, 12) := ⟨⟨by decide +kernel, by decide +kernel⟩, List.mem_of_getElem? (i := 602) (by decide +kernel), List.mem_of_getElem? (i := 847) (by decide +kernel), List.mem_of_getElem? (i := 848) (by decide +kernel)⟩
theorem lw_p40 : lw_okq (⟨"TreePlacesModel", "areLike", "(II)Z"⟩, 12) := ⟨⟨by decide +kernel, by decide +kernel⟩, List.mem_of_getElem? (i := 602) (by decide +kernel), List.mem_of_getElem? (i := 855) (by decide +kernel), List.mem_of_getElem? (i := 856) (by decide +kernel)⟩
theorem lw_p41 : lw_okq (⟨"TreePlacesModel", "puts", "(I)V"⟩, 12) := ⟨⟨by decide +kernel, by decide +kernel⟩, List.mem_of_getElem? (i := 602) (by decide +kernel), List.mem_of_getElem? (i := 883) (by decide +kernel), List.mem_of_getElem? (i := 884) (by decide +kernel)⟩
theorem lw_p42 : lw_okq (⟨"TreePlacesModel", "isTree", "()Z"⟩, 12) := ⟨⟨by decide +kernel, by decide +kernel⟩, List.mem_of_getElem? (i := 602) (by decide +kernel), List.mem_of_getElem? (i := 891) (by decide +kernel), List.mem_of_getElem? (i := 892) (by decide +kernel)⟩
theorem lw_p43 : lw_okq (⟨"TreePlacesModel", "breaks", "(II)Z"⟩, 12) := ⟨⟨by decide +kernel, by decide +kernel⟩, List.mem_of_getElem? (i := 602) (by decide +kernel), List.mem_of_getElem? (i := 895) (by decide +kernel), List.mem_of_getElem? (i := 896) (by decide +kernel)⟩
def lw_privs_3 : List (MethodName × Nat) := [(⟨"TreePlacesModel", "height", "(I)I"⟩, 12), (⟨"TreePlacesModel", "sinks", "(III)V"⟩, 12), (⟨"TreePlacesModel", "swaps", "(II)V"⟩, 12), (⟨"TreePlacesModel", "which", "(I)I"⟩, 12), (⟨"TreePlacesModel", "clipHeight", "()I"⟩, 12), (⟨"TreePlacesModel", "marksAt", "(I)I"⟩, 12), (⟨"TreePlacesModel", "leaves", "()I"⟩, 12), (⟨"TreePlacesModel", "unlike", "()I"⟩, 12), (⟨"TreePlacesModel", "areLike", "(II)Z"⟩, 12), (⟨"TreePlacesModel", "puts", "(I)V"⟩, 12), (⟨"TreePlacesModel", "isTree", "()Z"⟩, 12), (⟨"TreePlacesModel", "breaks", "(II)Z"⟩, 12)]
theorem lw_r3 : ∀ q ∈ lw_privs_3, lw_okq q := List.forall_mem_cons.mpr ⟨lw_p32, List.forall_mem_cons.mpr ⟨lw_p33, List.forall_mem_cons.mpr ⟨lw_p34, List.forall_mem_cons.mpr ⟨lw_p35, List.forall_mem_cons.mpr ⟨lw_p36, List.forall_mem_cons.mpr ⟨lw_p37, List.forall_mem_cons.mpr ⟨lw_p38, List.forall_mem_cons.mpr ⟨lw_p39, List.forall_mem_cons.mpr ⟨lw_p40, List.forall_mem_cons.mpr ⟨lw_p41, List.forall_mem_cons.mpr ⟨lw_p42, List.forall_mem_cons.mpr ⟨lw_p43, fun _ h => absurd h List.not_mem_nil⟩⟩⟩⟩⟩⟩⟩⟩⟩⟩⟩⟩
def lw_privs : List (MethodName × Nat) := lw_privs_1 ++ (lw_privs_2 ++ (lw_privs_3))
def lw_tbl : List Cond := k2_sels lw_privs ++ tables_1
theorem lw_privs_ok : ∀ q ∈ lw_privs, lw_okq q := by
  show ∀ q ∈ lw_privs_1 ++ (lw_privs_2 ++ (lw_privs_3)), lw_okq q
  exact List.forall_mem_append.mpr ⟨lw_r1, List.forall_mem_append.mpr ⟨lw_r2, lw_r3⟩⟩
-- ===== end of PART A; then your names; then what follows =====
/-! ===== names, by program out of the printed claim ===== -/
def RX0 : String := "TreePlaces$History"
def TX0 : u_T := fun k => match k with
  | 0 => ("TreePlaces$History", "slots", "[LTreePlaces$State;", true)
  | 1 => ("TreePlaces$History", "oldest", "I", false)
  | _ => ("TreePlaces$History", "size", "I", false)
def tyX0 : Nat → FieldType := fun k => match k with
  | 0 => .array (.object "TreePlaces$State")
  | 1 => .int
  | _ => .int
abbrev wsX00 : List Cond := u_ws RX0 TX0 3
theorem nmX0 : ∀ a, a < 3 → ∀ b, b < 3 → a ≠ b → (TX0 a).2.1 ≠ (TX0 b).2.1 := by decide +kernel
theorem tyX0_ok : ∀ k, k < 3 → parseFieldDescriptor (TX0 k).2.2.1 = some (tyX0 k) := by decide +kernel
abbrev cX0_init : ByteArray := prog_2_method_1_code
def yX0_init : MethodName := ⟨RX0, "<init>", "()V"⟩
abbrev cX0_size : ByteArray := prog_2_method_2_code
def yX0_size : MethodName := ⟨RX0, "size", "()I"⟩
abbrev cX0_keep : ByteArray := prog_2_method_3_code
def yX0_keep : MethodName := ⟨RX0, "keep", "(LTreePlaces$State;)V"⟩
abbrev cX0_restore : ByteArray := prog_2_method_4_code
def yX0_restore : MethodName := ⟨RX0, "restore", "(LTreePlaces$State;)V"⟩
abbrev cX0_slotAt : ByteArray := prog_2_method_5_code
def yX0_slotAt : MethodName := ⟨RX0, "slotAt", "(I)LTreePlaces$State;"⟩
def RX1 : String := "TreePlaces$Row"
def TX1 : u_T := fun k => match k with
  | 0 => ("TreePlaces$Row", "cells", "[I", true)
  | _ => ("TreePlaces$Row", "size", "I", false)
def tyX1 : Nat → FieldType := fun k => match k with
  | 0 => .array .int
  | _ => .int
abbrev wsX10 : List Cond := u_ws RX1 TX1 2
theorem nmX1 : ∀ a, a < 2 → ∀ b, b < 2 → a ≠ b → (TX1 a).2.1 ≠ (TX1 b).2.1 := by decide +kernel
theorem tyX1_ok : ∀ k, k < 2 → parseFieldDescriptor (TX1 k).2.2.1 = some (tyX1 k) := by decide +kernel
abbrev cX1_init : ByteArray := prog_3_method_1_code
def yX1_init : MethodName := ⟨RX1, "<init>", "(I)V"⟩
abbrev cX1_size : ByteArray := prog_3_method_2_code
def yX1_size : MethodName := ⟨RX1, "size", "()I"⟩
abbrev cX1_at : ByteArray := prog_3_method_3_code
def yX1_at : MethodName := ⟨RX1, "at", "(I)I"⟩
abbrev cX1_put : ByteArray := prog_3_method_4_code
def yX1_put : MethodName := ⟨RX1, "put", "(II)V"⟩
abbrev cX1_add : ByteArray := prog_3_method_5_code
def yX1_add : MethodName := ⟨RX1, "add", "(I)V"⟩
abbrev cX1_putIn : ByteArray := prog_3_method_6_code
def yX1_putIn : MethodName := ⟨RX1, "putIn", "(II)V"⟩
abbrev cX1_takeOut : ByteArray := prog_3_method_7_code
def yX1_takeOut : MethodName := ⟨RX1, "takeOut", "(II)V"⟩
abbrev cX1_turnAbout : ByteArray := prog_3_method_8_code
def yX1_turnAbout : MethodName := ⟨RX1, "turnAbout", "(II)V"⟩
abbrev cX1_exchangeRuns : ByteArray := prog_3_method_9_code
def yX1_exchangeRuns : MethodName := ⟨RX1, "exchangeRuns", "(III)V"⟩
abbrev cX1_clear : ByteArray := prog_3_method_10_code
def yX1_clear : MethodName := ⟨RX1, "clear", "()V"⟩
abbrev cX1_takeFrom : ByteArray := prog_3_method_11_code
def yX1_takeFrom : MethodName := ⟨RX1, "takeFrom", "(LTreePlaces$Row;)V"⟩
def RX2 : String := "TreePlaces$Scan"
def TX2 : u_T := fun k => match k with
  | 0 => ("TreePlaces$Scan", "tree", "LTreePlaces$Tree;", true)
  | 1 => ("TreePlaces$Scan", "open", "LTreePlaces$Row;", true)
  | 2 => ("TreePlaces$Scan", "letterIsDue", "Z", false)
  | 3 => ("TreePlaces$Scan", "mayOpen", "Z", false)
  | 4 => ("TreePlaces$Scan", "faultPlace", "I", false)
  | _ => ("TreePlaces$Scan", "reason", "I", false)
def tyX2 : Nat → FieldType := fun k => match k with
  | 0 => .object "TreePlaces$Tree"
  | 1 => .object "TreePlaces$Row"
  | 2 => .boolean
  | 3 => .boolean
  | 4 => .int
  | _ => .int
abbrev wsX20 : List Cond := u_ws RX2 TX2 6
theorem nmX2 : ∀ a, a < 6 → ∀ b, b < 6 → a ≠ b → (TX2 a).2.1 ≠ (TX2 b).2.1 := by decide +kernel
theorem tyX2_ok : ∀ k, k < 6 → parseFieldDescriptor (TX2 k).2.2.1 = some (tyX2 k) := by decide +kernel
abbrev cX2_init : ByteArray := prog_4_method_1_code
def yX2_init : MethodName := ⟨RX2, "<init>", "()V"⟩
abbrev cX2_passOver : ByteArray := prog_4_method_2_code
def yX2_passOver : MethodName := ⟨RX2, "passOver", "(LTreePlaces$Row;)V"⟩
abbrev cX2_reasonAgainst : ByteArray := prog_4_method_3_code
def yX2_reasonAgainst : MethodName := ⟨RX2, "reasonAgainst", "(I)I"⟩
abbrev cX2_passLetter : ByteArray := prog_4_method_4_code
def yX2_passLetter : MethodName := ⟨RX2, "passLetter", "(I)I"⟩
abbrev cX2_passOpening : ByteArray := prog_4_method_5_code
def yX2_passOpening : MethodName := ⟨RX2, "passOpening", "()I"⟩
abbrev cX2_passComma : ByteArray := prog_4_method_6_code
def yX2_passComma : MethodName := ⟨RX2, "passComma", "()I"⟩
abbrev cX2_passClosing : ByteArray := prog_4_method_7_code
def yX2_passClosing : MethodName := ⟨RX2, "passClosing", "()I"⟩
def RX3 : String := "TreePlaces$State"
def TX3 : u_T := fun k => match k with
  | 0 => ("TreePlaces$State", "tree", "LTreePlaces$Tree;", true)
  | 1 => ("TreePlaces$State", "clip", "LTreePlaces$Tree;", true)
  | 2 => ("TreePlaces$State", "keys", "LTreePlaces$Row;", true)
  | 3 => ("TreePlaces$State", "walks", "LTreePlaces$Row;", true)
  | 4 => ("TreePlaces$State", "marks", "LTreePlaces$Row;", true)
  | 5 => ("TreePlaces$State", "place", "I", false)
  | _ => ("TreePlaces$State", "keysGiven", "I", false)
def tyX3 : Nat → FieldType := fun k => match k with
  | 0 => .object "TreePlaces$Tree"
  | 1 => .object "TreePlaces$Tree"
  | 2 => .object "TreePlaces$Row"
  | 3 => .object "TreePlaces$Row"
  | 4 => .object "TreePlaces$Row"
  | 5 => .int
  | _ => .int
abbrev wsX30 : List Cond := u_ws RX3 TX3 7
theorem nmX3 : ∀ a, a < 7 → ∀ b, b < 7 → a ≠ b → (TX3 a).2.1 ≠ (TX3 b).2.1 := by decide +kernel
theorem tyX3_ok : ∀ k, k < 7 → parseFieldDescriptor (TX3 k).2.2.1 = some (tyX3 k) := by decide +kernel
abbrev cX3_init : ByteArray := prog_5_method_1_code
def yX3_init : MethodName := ⟨RX3, "<init>", "()V"⟩
abbrev cX3_takeFrom : ByteArray := prog_5_method_2_code
def yX3_takeFrom : MethodName := ⟨RX3, "takeFrom", "(LTreePlaces$State;)V"⟩
abbrev cX3_beginWith : ByteArray := prog_5_method_3_code
def yX3_beginWith : MethodName := ⟨RX3, "beginWith", "(LTreePlaces$Tree;)V"⟩
abbrev cX3_clearMarks : ByteArray := prog_5_method_4_code
def yX3_clearMarks : MethodName := ⟨RX3, "clearMarks", "()V"⟩
abbrev cX3_putNodeIn : ByteArray := prog_5_method_5_code
def yX3_putNodeIn : MethodName := ⟨RX3, "putNodeIn", "(III)V"⟩
abbrev cX3_putTreeIn : ByteArray := prog_5_method_6_code
def yX3_putTreeIn : MethodName := ⟨RX3, "putTreeIn", "(LTreePlaces$Tree;II)V"⟩
abbrev cX3_takeNodesOut : ByteArray := prog_5_method_7_code
def yX3_takeNodesOut : MethodName := ⟨RX3, "takeNodesOut", "(II)V"⟩
abbrev cX3_takePlaceOut : ByteArray := prog_5_method_8_code
def yX3_takePlaceOut : MethodName := ⟨RX3, "takePlaceOut", "()I"⟩
abbrev cX3_placeWithoutPart : ByteArray := prog_5_method_9_code
def yX3_placeWithoutPart : MethodName := ⟨RX3, "placeWithoutPart", "()I"⟩
abbrev cX3_exchangeRuns : ByteArray := prog_5_method_10_code
def yX3_exchangeRuns : MethodName := ⟨RX3, "exchangeRuns", "(III)V"⟩
abbrev cX3_numberOfKey : ByteArray := prog_5_method_11_code
def yX3_numberOfKey : MethodName := ⟨RX3, "numberOfKey", "(I)I"⟩
abbrev cX3_walkTo : ByteArray := prog_5_method_12_code
def yX3_walkTo : MethodName := ⟨RX3, "walkTo", "(I)V"⟩
abbrev cX3_lastWalk : ByteArray := prog_5_method_13_code
def yX3_lastWalk : MethodName := ⟨RX3, "lastWalk", "()I"⟩
abbrev cX3_takeWalksBack : ByteArray := prog_5_method_14_code
def yX3_takeWalksBack : MethodName := ⟨RX3, "takeWalksBack", "(I)V"⟩
abbrev cX3_numberOfMark : ByteArray := prog_5_method_15_code
def yX3_numberOfMark : MethodName := ⟨RX3, "numberOfMark", "(I)I"⟩
abbrev cX3_putMarkAtPlace : ByteArray := prog_5_method_16_code
def yX3_putMarkAtPlace : MethodName := ⟨RX3, "putMarkAtPlace", "(I)V"⟩
abbrev cX3_marksAt : ByteArray := prog_5_method_17_code
def yX3_marksAt : MethodName := ⟨RX3, "marksAt", "(I)I"⟩
def RX4 : String := "TreePlaces$Tree"
def TX4 : u_T := fun k => match k with
  | 0 => ("TreePlaces$Tree", "letters", "LTreePlaces$Row;", true)
  | _ => ("TreePlaces$Tree", "depths", "LTreePlaces$Row;", true)
def tyX4 : Nat → FieldType := fun k => match k with
  | 0 => .object "TreePlaces$Row"
  | _ => .object "TreePlaces$Row"
abbrev wsX40 : List Cond := u_ws RX4 TX4 2
theorem nmX4 : ∀ a, a < 2 → ∀ b, b < 2 → a ≠ b → (TX4 a).2.1 ≠ (TX4 b).2.1 := by decide +kernel
theorem tyX4_ok : ∀ k, k < 2 → parseFieldDescriptor (TX4 k).2.2.1 = some (tyX4 k) := by decide +kernel
abbrev cX4_init : ByteArray := prog_6_method_1_code
def yX4_init : MethodName := ⟨RX4, "<init>", "()V"⟩
abbrev cX4_size : ByteArray := prog_6_method_2_code
def yX4_size : MethodName := ⟨RX4, "size", "()I"⟩
abbrev cX4_has : ByteArray := prog_6_method_3_code
def yX4_has : MethodName := ⟨RX4, "has", "(I)Z"⟩
abbrev cX4_letterOf : ByteArray := prog_6_method_4_code
def yX4_letterOf : MethodName := ⟨RX4, "letterOf", "(I)I"⟩
abbrev cX4_setLetter : ByteArray := prog_6_method_5_code
def yX4_setLetter : MethodName := ⟨RX4, "setLetter", "(II)V"⟩
abbrev cX4_depthOf : ByteArray := prog_6_method_6_code
def yX4_depthOf : MethodName := ⟨RX4, "depthOf", "(I)I"⟩
abbrev cX4_endOf : ByteArray := prog_6_method_7_code
def yX4_endOf : MethodName := ⟨RX4, "endOf", "(I)I"⟩
abbrev cX4_onSpine : ByteArray := prog_6_method_8_code
def yX4_onSpine : MethodName := ⟨RX4, "onSpine", "(II)I"⟩
abbrev cX4_above : ByteArray := prog_6_method_9_code
def yX4_above : MethodName := ⟨RX4, "above", "(I)I"⟩
abbrev cX4_childrenOf : ByteArray := prog_6_method_10_code
def yX4_childrenOf : MethodName := ⟨RX4, "childrenOf", "(I)I"⟩
abbrev cX4_startOfChild : ByteArray := prog_6_method_11_code
def yX4_startOfChild : MethodName := ⟨RX4, "startOfChild", "(II)I"⟩
abbrev cX4_childAt : ByteArray := prog_6_method_12_code
def yX4_childAt : MethodName := ⟨RX4, "childAt", "(II)I"⟩
abbrev cX4_turnOf : ByteArray := prog_6_method_13_code
def yX4_turnOf : MethodName := ⟨RX4, "turnOf", "(I)I"⟩
abbrev cX4_neighbour : ByteArray := prog_6_method_14_code
def yX4_neighbour : MethodName := ⟨RX4, "neighbour", "(II)I"⟩
abbrev cX4_next : ByteArray := prog_6_method_15_code
def yX4_next : MethodName := ⟨RX4, "next", "(I)I"⟩
abbrev cX4_ahead : ByteArray := prog_6_method_16_code
def yX4_ahead : MethodName := ⟨RX4, "ahead", "(I)I"⟩
abbrev cX4_heightOf : ByteArray := prog_6_method_17_code
def yX4_heightOf : MethodName := ⟨RX4, "heightOf", "(I)I"⟩
abbrev cX4_leaves : ByteArray := prog_6_method_18_code
def yX4_leaves : MethodName := ⟨RX4, "leaves", "()I"⟩
abbrev cX4_unlikeLetters : ByteArray := prog_6_method_19_code
def yX4_unlikeLetters : MethodName := ⟨RX4, "unlikeLetters", "()I"⟩
abbrev cX4_alike : ByteArray := prog_6_method_20_code
def yX4_alike : MethodName := ⟨RX4, "alike", "(II)Z"⟩
abbrev cX4_clear : ByteArray := prog_6_method_21_code
def yX4_clear : MethodName := ⟨RX4, "clear", "()V"⟩
abbrev cX4_putIn : ByteArray := prog_6_method_22_code
def yX4_putIn : MethodName := ⟨RX4, "putIn", "(III)V"⟩
abbrev cX4_takeOut : ByteArray := prog_6_method_23_code
def yX4_takeOut : MethodName := ⟨RX4, "takeOut", "(II)V"⟩
abbrev cX4_shiftDepths : ByteArray := prog_6_method_24_code
def yX4_shiftDepths : MethodName := ⟨RX4, "shiftDepths", "(III)V"⟩
abbrev cX4_exchangeRuns : ByteArray := prog_6_method_25_code
def yX4_exchangeRuns : MethodName := ⟨RX4, "exchangeRuns", "(III)V"⟩
abbrev cX4_takeFrom : ByteArray := prog_6_method_26_code
def yX4_takeFrom : MethodName := ⟨RX4, "takeFrom", "(LTreePlaces$Tree;)V"⟩
abbrev cX4_takePart : ByteArray := prog_6_method_27_code
def yX4_takePart : MethodName := ⟨RX4, "takePart", "(LTreePlaces$Tree;I)V"⟩
abbrev cX4_appendTo : ByteArray := prog_6_method_28_code
def yX4_appendTo : MethodName := ⟨RX4, "appendTo", "(LTreePlaces$Row;)V"⟩
abbrev cX4_appendClosings : ByteArray := prog_6_method_29_code
def yX4_appendClosings : MethodName := ⟨RX4, "appendClosings", "(LTreePlaces$Row;I)V"⟩
def RX5 : String := "TreePlaces"
def TX5 : u_T := fun k => match k with
  | 0 => ("TreePlaces", "now", "LTreePlaces$State;", true)
  | 1 => ("TreePlaces", "history", "LTreePlaces$History;", true)
  | 2 => ("TreePlaces", "text", "LTreePlaces$Row;", true)
  | _ => ("TreePlaces", "scan", "LTreePlaces$Scan;", true)
def tyX5 : Nat → FieldType := fun k => match k with
  | 0 => .object "TreePlaces$State"
  | 1 => .object "TreePlaces$History"
  | 2 => .object "TreePlaces$Row"
  | _ => .object "TreePlaces$Scan"
abbrev wsX50 : List Cond := u_ws RX5 TX5 4
theorem nmX5 : ∀ a, a < 4 → ∀ b, b < 4 → a ≠ b → (TX5 a).2.1 ≠ (TX5 b).2.1 := by decide +kernel
theorem tyX5_ok : ∀ k, k < 4 → parseFieldDescriptor (TX5 k).2.2.1 = some (tyX5 k) := by decide +kernel
abbrev cX5_init : ByteArray := prog_1_method_1_code
def yX5_init : MethodName := ⟨RX5, "<init>", "()V"⟩
abbrev cX5_down : ByteArray := prog_1_method_2_code
def yX5_down : MethodName := ⟨RX5, "down", "(I)I"⟩
abbrev cX5_up : ByteArray := prog_1_method_3_code
def yX5_up : MethodName := ⟨RX5, "up", "()I"⟩
abbrev cX5_side : ByteArray := prog_1_method_4_code
def yX5_side : MethodName := ⟨RX5, "side", "(I)I"⟩
abbrev cX5_step : ByteArray := prog_1_method_5_code
def yX5_step : MethodName := ⟨RX5, "step", "(I)I"⟩
abbrev cX5_top : ByteArray := prog_1_method_6_code
def yX5_top : MethodName := ⟨RX5, "top", "()I"⟩
abbrev cX5_back : ByteArray := prog_1_method_7_code
def yX5_back : MethodName := ⟨RX5, "back", "()I"⟩
abbrev cX5_letter : ByteArray := prog_1_method_8_code
def yX5_letter : MethodName := ⟨RX5, "letter", "(I)I"⟩
abbrev cX5_child : ByteArray := prog_1_method_9_code
def yX5_child : MethodName := ⟨RX5, "child", "(II)I"⟩
abbrev cX5_beside : ByteArray := prog_1_method_10_code
def yX5_beside : MethodName := ⟨RX5, "beside", "(II)I"⟩
abbrev cX5_delete : ByteArray := prog_1_method_11_code
def yX5_delete : MethodName := ⟨RX5, "delete", "()I"⟩
abbrev cX5_wrap : ByteArray := prog_1_method_12_code
def yX5_wrap : MethodName := ⟨RX5, "wrap", "(I)I"⟩
abbrev cX5_lift : ByteArray := prog_1_method_13_code
def yX5_lift : MethodName := ⟨RX5, "lift", "()I"⟩
abbrev cX5_exchange : ByteArray := prog_1_method_14_code
def yX5_exchange : MethodName := ⟨RX5, "exchange", "(I)I"⟩
abbrev cX5_cut : ByteArray := prog_1_method_15_code
def yX5_cut : MethodName := ⟨RX5, "cut", "()I"⟩
abbrev cX5_copy : ByteArray := prog_1_method_16_code
def yX5_copy : MethodName := ⟨RX5, "copy", "()I"⟩
abbrev cX5_paste : ByteArray := prog_1_method_17_code
def yX5_paste : MethodName := ⟨RX5, "paste", "(I)I"⟩
abbrev cX5_mark : ByteArray := prog_1_method_18_code
def yX5_mark : MethodName := ⟨RX5, "mark", "(I)I"⟩
abbrev cX5_goTo : ByteArray := prog_1_method_19_code
def yX5_goTo : MethodName := ⟨RX5, "goTo", "(I)I"⟩
abbrev cX5_nodeOf : ByteArray := prog_1_method_20_code
def yX5_nodeOf : MethodName := ⟨RX5, "nodeOf", "(II)I"⟩
abbrev cX5_spine : ByteArray := prog_1_method_21_code
def yX5_spine : MethodName := ⟨RX5, "spine", "(II)I"⟩
abbrev cX5_marked : ByteArray := prog_1_method_22_code
def yX5_marked : MethodName := ⟨RX5, "marked", "(I)I"⟩
abbrev cX5_count : ByteArray := prog_1_method_23_code
def yX5_count : MethodName := ⟨RX5, "count", "(I)I"⟩
abbrev cX5_like : ByteArray := prog_1_method_24_code
def yX5_like : MethodName := ⟨RX5, "like", "()I"⟩
abbrev cX5_meet : ByteArray := prog_1_method_25_code
def yX5_meet : MethodName := ⟨RX5, "meet", "(II)I"⟩
abbrev cX5_find : ByteArray := prog_1_method_26_code
def yX5_find : MethodName := ⟨RX5, "find", "(I)I"⟩
abbrev cX5_undo : ByteArray := prog_1_method_27_code
def yX5_undo : MethodName := ⟨RX5, "undo", "()I"⟩
abbrev cX5_type : ByteArray := prog_1_method_28_code
def yX5_type : MethodName := ⟨RX5, "type", "(I)I"⟩
abbrev cX5_clearText : ByteArray := prog_1_method_29_code
def yX5_clearText : MethodName := ⟨RX5, "clearText", "()I"⟩
abbrev cX5_write : ByteArray := prog_1_method_30_code
def yX5_write : MethodName := ⟨RX5, "write", "()I"⟩
abbrev cX5_fault : ByteArray := prog_1_method_31_code
def yX5_fault : MethodName := ⟨RX5, "fault", "(I)I"⟩
abbrev cX5_read : ByteArray := prog_1_method_32_code
def yX5_read : MethodName := ⟨RX5, "read", "()I"⟩
abbrev cX5_walk : ByteArray := prog_1_method_33_code
def yX5_walk : MethodName := ⟨RX5, "walk", "(I)I"⟩
abbrev cX5_orNotFound : ByteArray := prog_1_method_34_code
def yX5_orNotFound : MethodName := ⟨RX5, "orNotFound", "(I)I"⟩
abbrev cX5_isChoice : ByteArray := prog_1_method_35_code
def yX5_isChoice : MethodName := ⟨RX5, "isChoice", "(I)Z"⟩
abbrev cX5_isLetter : ByteArray := prog_1_method_36_code
def yX5_isLetter : MethodName := ⟨RX5, "isLetter", "(I)Z"⟩
abbrev cX5_isMark : ByteArray := prog_1_method_37_code
def yX5_isMark : MethodName := ⟨RX5, "isMark", "(I)Z"⟩
def RX6 : String := "TreePlacesModel"
def TX6 : u_T := fun k => match k with
  | 0 => ("TreePlacesModel", "s", "[I", true)
  | 1 => ("TreePlacesModel", "begun", "[I", true)
  | 2 => ("TreePlacesModel", "past", "[I", true)
  | 3 => ("TreePlacesModel", "states", "I", false)
  | 4 => ("TreePlacesModel", "aside", "[I", true)
  | 5 => ("TreePlacesModel", "text", "[I", true)
  | 6 => ("TreePlacesModel", "length", "I", false)
  | 7 => ("TreePlacesModel", "place1", "I", false)
  | 8 => ("TreePlacesModel", "reason", "I", false)
  | 9 => ("TreePlacesModel", "tolds", "I", false)
  | 10 => ("TreePlacesModel", "told", "[I", true)
  | _ => ("TreePlacesModel", "rows", "[I", true)
def tyX6 : Nat → FieldType := fun k => match k with
  | 0 => .array .int
  | 1 => .array .int
  | 2 => .array .int
  | 3 => .int
  | 4 => .array .int
  | 5 => .array .int
  | 6 => .int
  | 7 => .int
  | 8 => .int
  | 9 => .int
  | 10 => .array .int
  | _ => .array .int
abbrev wsX60 : List Cond := u_ws RX6 TX6 12
theorem nmX6 : ∀ a, a < 12 → ∀ b, b < 12 → a ≠ b → (TX6 a).2.1 ≠ (TX6 b).2.1 := by decide +kernel
theorem tyX6_ok : ∀ k, k < 12 → parseFieldDescriptor (TX6 k).2.2.1 = some (tyX6 k) := by decide +kernel
abbrev cX6_init : ByteArray := prog_8_method_1_code
def yX6_init : MethodName := ⟨RX6, "<init>", "()V"⟩
abbrev cX6_in : ByteArray := prog_8_method_3_code
def yX6_in : MethodName := ⟨RX6, "in", "(III)Z"⟩
abbrev cX6_begins : ByteArray := prog_8_method_4_code
def yX6_begins : MethodName := ⟨RX6, "begins", "()V"⟩
abbrev cX6_acted : ByteArray := prog_8_method_5_code
def yX6_acted : MethodName := ⟨RX6, "acted", "(I)I"⟩
abbrev cX6_sign : ByteArray := prog_8_method_6_code
def yX6_sign : MethodName := ⟨RX6, "sign", "(I)I"⟩
abbrev cX6_deep : ByteArray := prog_8_method_7_code
def yX6_deep : MethodName := ⟨RX6, "deep", "(I)I"⟩
abbrev cX6_own : ByteArray := prog_8_method_8_code
def yX6_own : MethodName := ⟨RX6, "own", "(I)I"⟩
abbrev cX6_isNode : ByteArray := prog_8_method_9_code
def yX6_isNode : MethodName := ⟨RX6, "isNode", "(I)Z"⟩
abbrev cX6_numberOf : ByteArray := prog_8_method_10_code
def yX6_numberOf : MethodName := ⟨RX6, "numberOf", "(I)I"⟩
abbrev cX6_place : ByteArray := prog_8_method_11_code
def yX6_place : MethodName := ⟨RX6, "place", "()I"⟩
abbrev cX6_end : ByteArray := prog_8_method_12_code
def yX6_end : MethodName := ⟨RX6, "end", "(I)I"⟩
abbrev cX6_above : ByteArray := prog_8_method_13_code
def yX6_above : MethodName := ⟨RX6, "above", "(I)I"⟩
abbrev cX6_children : ByteArray := prog_8_method_14_code
def yX6_children : MethodName := ⟨RX6, "children", "(I)I"⟩
abbrev cX6_childOf : ByteArray := prog_8_method_15_code
def yX6_childOf : MethodName := ⟨RX6, "childOf", "(II)I"⟩
abbrev cX6_which : ByteArray := prog_8_method_16_code
def yX6_which : MethodName := ⟨RX6, "which", "(I)I"⟩
abbrev cX6_besides : ByteArray := prog_8_method_17_code
def yX6_besides : MethodName := ⟨RX6, "besides", "(IZ)I"⟩
abbrev cX6_height : ByteArray := prog_8_method_18_code
def yX6_height : MethodName := ⟨RX6, "height", "(I)I"⟩
abbrev cX6_opens : ByteArray := prog_8_method_19_code
def yX6_opens : MethodName := ⟨RX6, "opens", "(II)V"⟩
abbrev cX6_closes : ByteArray := prog_8_method_20_code
def yX6_closes : MethodName := ⟨RX6, "closes", "(II)V"⟩
abbrev cX6_lays : ByteArray := prog_8_method_21_code
def yX6_lays : MethodName := ⟨RX6, "lays", "(III)V"⟩
abbrev cX6_sinks : ByteArray := prog_8_method_22_code
def yX6_sinks : MethodName := ⟨RX6, "sinks", "(III)V"⟩
abbrev cX6_walks : ByteArray := prog_8_method_23_code
def yX6_walks : MethodName := ⟨RX6, "walks", "(I)I"⟩
abbrev cX6_down : ByteArray := prog_8_method_24_code
def yX6_down : MethodName := ⟨RX6, "down", "(I)I"⟩
abbrev cX6_up : ByteArray := prog_8_method_25_code
def yX6_up : MethodName := ⟨RX6, "up", "()I"⟩
abbrev cX6_side : ByteArray := prog_8_method_26_code
def yX6_side : MethodName := ⟨RX6, "side", "(I)I"⟩
abbrev cX6_step : ByteArray := prog_8_method_27_code
def yX6_step : MethodName := ⟨RX6, "step", "(I)I"⟩
abbrev cX6_top : ByteArray := prog_8_method_28_code
def yX6_top : MethodName := ⟨RX6, "top", "()I"⟩
abbrev cX6_back : ByteArray := prog_8_method_29_code
def yX6_back : MethodName := ⟨RX6, "back", "()I"⟩
abbrev cX6_letter : ByteArray := prog_8_method_30_code
def yX6_letter : MethodName := ⟨RX6, "letter", "(I)I"⟩
abbrev cX6_child : ByteArray := prog_8_method_31_code
def yX6_child : MethodName := ⟨RX6, "child", "(II)I"⟩
abbrev cX6_beside : ByteArray := prog_8_method_32_code
def yX6_beside : MethodName := ⟨RX6, "beside", "(II)I"⟩
abbrev cX6_goes : ByteArray := prog_8_method_33_code
def yX6_goes : MethodName := ⟨RX6, "goes", "()I"⟩
abbrev cX6_clips : ByteArray := prog_8_method_34_code
def yX6_clips : MethodName := ⟨RX6, "clips", "()V"⟩
abbrev cX6_forgets : ByteArray := prog_8_method_35_code
def yX6_forgets : MethodName := ⟨RX6, "forgets", "()V"⟩
abbrev cX6_delete : ByteArray := prog_8_method_36_code
def yX6_delete : MethodName := ⟨RX6, "delete", "()I"⟩
abbrev cX6_cut : ByteArray := prog_8_method_37_code
def yX6_cut : MethodName := ⟨RX6, "cut", "()I"⟩
abbrev cX6_copy : ByteArray := prog_8_method_38_code
def yX6_copy : MethodName := ⟨RX6, "copy", "()I"⟩
abbrev cX6_wrap : ByteArray := prog_8_method_39_code
def yX6_wrap : MethodName := ⟨RX6, "wrap", "(I)I"⟩
abbrev cX6_lift : ByteArray := prog_8_method_40_code
def yX6_lift : MethodName := ⟨RX6, "lift", "()I"⟩
abbrev cX6_swaps : ByteArray := prog_8_method_41_code
def yX6_swaps : MethodName := ⟨RX6, "swaps", "(II)V"⟩
abbrev cX6_exchange : ByteArray := prog_8_method_42_code
def yX6_exchange : MethodName := ⟨RX6, "exchange", "(I)I"⟩
abbrev cX6_clipHeight : ByteArray := prog_8_method_43_code
def yX6_clipHeight : MethodName := ⟨RX6, "clipHeight", "()I"⟩
abbrev cX6_paste : ByteArray := prog_8_method_44_code
def yX6_paste : MethodName := ⟨RX6, "paste", "(I)I"⟩
abbrev cX6_mark : ByteArray := prog_8_method_45_code
def yX6_mark : MethodName := ⟨RX6, "mark", "(I)I"⟩
abbrev cX6_goTo : ByteArray := prog_8_method_46_code
def yX6_goTo : MethodName := ⟨RX6, "goTo", "(I)I"⟩
abbrev cX6_orNone : ByteArray := prog_8_method_47_code
def yX6_orNone : MethodName := ⟨RX6, "orNone", "(I)I"⟩
abbrev cX6_marksAt : ByteArray := prog_8_method_48_code
def yX6_marksAt : MethodName := ⟨RX6, "marksAt", "(I)I"⟩
abbrev cX6_nodeOf : ByteArray := prog_8_method_49_code
def yX6_nodeOf : MethodName := ⟨RX6, "nodeOf", "(II)I"⟩
abbrev cX6_spine : ByteArray := prog_8_method_50_code
def yX6_spine : MethodName := ⟨RX6, "spine", "(II)I"⟩
abbrev cX6_marked : ByteArray := prog_8_method_51_code
def yX6_marked : MethodName := ⟨RX6, "marked", "(I)I"⟩
abbrev cX6_leaves : ByteArray := prog_8_method_52_code
def yX6_leaves : MethodName := ⟨RX6, "leaves", "()I"⟩
abbrev cX6_unlike : ByteArray := prog_8_method_53_code
def yX6_unlike : MethodName := ⟨RX6, "unlike", "()I"⟩
abbrev cX6_count : ByteArray := prog_8_method_54_code
def yX6_count : MethodName := ⟨RX6, "count", "(I)I"⟩
abbrev cX6_areLike : ByteArray := prog_8_method_55_code
def yX6_areLike : MethodName := ⟨RX6, "areLike", "(II)Z"⟩
abbrev cX6_like : ByteArray := prog_8_method_56_code
def yX6_like : MethodName := ⟨RX6, "like", "()I"⟩
abbrev cX6_meet : ByteArray := prog_8_method_57_code
def yX6_meet : MethodName := ⟨RX6, "meet", "(II)I"⟩
abbrev cX6_find : ByteArray := prog_8_method_58_code
def yX6_find : MethodName := ⟨RX6, "find", "(I)I"⟩
abbrev cX6_undo : ByteArray := prog_8_method_59_code
def yX6_undo : MethodName := ⟨RX6, "undo", "()I"⟩
abbrev cX6_type : ByteArray := prog_8_method_60_code
def yX6_type : MethodName := ⟨RX6, "type", "(I)I"⟩
abbrev cX6_clearText : ByteArray := prog_8_method_61_code
def yX6_clearText : MethodName := ⟨RX6, "clearText", "()I"⟩
abbrev cX6_puts : ByteArray := prog_8_method_62_code
def yX6_puts : MethodName := ⟨RX6, "puts", "(I)V"⟩
abbrev cX6_write : ByteArray := prog_8_method_63_code
def yX6_write : MethodName := ⟨RX6, "write", "()I"⟩
abbrev cX6_breaks : ByteArray := prog_8_method_64_code
def yX6_breaks : MethodName := ⟨RX6, "breaks", "(II)Z"⟩
abbrev cX6_isTree : ByteArray := prog_8_method_65_code
def yX6_isTree : MethodName := ⟨RX6, "isTree", "()Z"⟩
abbrev cX6_fault : ByteArray := prog_8_method_66_code
def yX6_fault : MethodName := ⟨RX6, "fault", "(I)I"⟩
abbrev cX6_read : ByteArray := prog_8_method_67_code
def yX6_read : MethodName := ⟨RX6, "read", "()I"⟩
def RJ6 : String := "java/lang/Integer"
def TJ6 : u_T := fun k => match k with
  | _ => ("", "", "", false)
def tyJ6 : Nat → FieldType := fun k => match k with
  | _ => .int
abbrev wsJ60 : List Cond := u_ws RJ6 TJ6 0
theorem nmJ6 : ∀ a, a < 0 → ∀ b, b < 0 → a ≠ b → (TJ6 a).2.1 ≠ (TJ6 b).2.1 := by decide +kernel
theorem tyJ6_ok : ∀ k, k < 0 → parseFieldDescriptor (TJ6 k).2.2.1 = some (tyJ6 k) := by decide +kernel
abbrev cJ6_bitCount_0f7a4 : ByteArray := prog_9_method_49_code
def yJ6_bitCount_0f7a4 : MethodName := ⟨RJ6, "bitCount", "(I)I"⟩
def RJ9 : String := "java/lang/Math"
def TJ9 : u_T := fun k => match k with
  | _ => ("", "", "", false)
def tyJ9 : Nat → FieldType := fun k => match k with
  | _ => .int
abbrev wsJ90 : List Cond := u_ws RJ9 TJ9 0
theorem nmJ9 : ∀ a, a < 0 → ∀ b, b < 0 → a ≠ b → (TJ9 a).2.1 ≠ (TJ9 b).2.1 := by decide +kernel
theorem tyJ9_ok : ∀ k, k < 0 → parseFieldDescriptor (TJ9 k).2.2.1 = some (tyJ9 k) := by decide +kernel
abbrev cJ9_max_7cf53 : ByteArray := prog_10_method_65_code
def yJ9_max_7cf53 : MethodName := ⟨RJ9, "max", "(II)I"⟩
abbrev cJ9_min_7cf53 : ByteArray := prog_10_method_69_code
def yJ9_min_7cf53 : MethodName := ⟨RJ9, "min", "(II)I"⟩
def RL : String := "TreePlacesLaw"
abbrev cL_law : ByteArray := code
def yL_law : MethodName := ⟨RL, "law", "([I)Z"⟩
abbrev vwCl : List vw_C := [(RX0, TX0, 3), (RX1, TX1, 2), (RX2, TX2, 6), (RX3, TX3, 7), (RX4, TX4, 2), (RX5, TX5, 4), (RX6, TX6, 12)]
def TB : List Cond := lw_tbl.filter goodWord
theorem tbm {w : Cond} (i : Nat) (h : lw_tbl[i]? = some w) (hg : goodWord w = true) : w ∈ TB := List.mem_filter.mpr ⟨List.mem_of_getElem? h, hg⟩
theorem TB_good : ∀ w ∈ TB, (w.onTables && w.keeps) = true ∨ ∃ ty, w = .arrayClass ty := fun w hw => good_of_word (List.mem_filter.mp hw).2
theorem TB_in : ∀ w ∈ TB, w ∈ lw_tbl := fun w hw => (List.mem_filter.mp hw).1

theorem m_0 : Cond.selects RX3 yX3_clearMarks yX3_clearMarks ∈ TB := tbm 0 (by decide +kernel) rfl
theorem m_1 : Cond.selects RX5 yX5_walk yX5_walk ∈ TB := tbm 1 (by decide +kernel) rfl
theorem m_2 : Cond.selects RX0 yX0_slotAt yX0_slotAt ∈ TB := tbm 2 (by decide +kernel) rfl
theorem m_3 : Cond.selects RX4 yX4_next yX4_next ∈ TB := tbm 3 (by decide +kernel) rfl
theorem m_4 : Cond.selects RX4 yX4_ahead yX4_ahead ∈ TB := tbm 4 (by decide +kernel) rfl
theorem m_5 : Cond.selects RX3 yX3_numberOfKey yX3_numberOfKey ∈ TB := tbm 5 (by decide +kernel) rfl
theorem m_6 : Cond.selects RX3 yX3_placeWithoutPart yX3_placeWithoutPart ∈ TB := tbm 6 (by decide +kernel) rfl
theorem m_7 : Cond.selects RX2 yX2_reasonAgainst yX2_reasonAgainst ∈ TB := tbm 7 (by decide +kernel) rfl
theorem m_8 : Cond.selects RX2 yX2_passLetter yX2_passLetter ∈ TB := tbm 8 (by decide +kernel) rfl
theorem m_9 : Cond.selects RX2 yX2_passOpening yX2_passOpening ∈ TB := tbm 9 (by decide +kernel) rfl
theorem m_10 : Cond.selects RX2 yX2_passComma yX2_passComma ∈ TB := tbm 10 (by decide +kernel) rfl
theorem m_11 : Cond.selects RX2 yX2_passClosing yX2_passClosing ∈ TB := tbm 11 (by decide +kernel) rfl
theorem m_12 : Cond.selects RX6 yX6_begins yX6_begins ∈ TB := tbm 12 (by decide +kernel) rfl
theorem m_13 : Cond.selects RX6 yX6_place yX6_place ∈ TB := tbm 13 (by decide +kernel) rfl
theorem m_14 : Cond.selects RX6 yX6_numberOf yX6_numberOf ∈ TB := tbm 14 (by decide +kernel) rfl
theorem m_15 : Cond.selects RX6 yX6_own yX6_own ∈ TB := tbm 15 (by decide +kernel) rfl
theorem m_16 : Cond.selects RX6 yX6_children yX6_children ∈ TB := tbm 16 (by decide +kernel) rfl
theorem m_17 : Cond.selects RX6 yX6_end yX6_end ∈ TB := tbm 17 (by decide +kernel) rfl
theorem m_18 : Cond.selects RX6 yX6_deep yX6_deep ∈ TB := tbm 18 (by decide +kernel) rfl
theorem m_19 : Cond.selects RX6 yX6_childOf yX6_childOf ∈ TB := tbm 19 (by decide +kernel) rfl
theorem m_20 : Cond.selects RX6 yX6_walks yX6_walks ∈ TB := tbm 20 (by decide +kernel) rfl
theorem m_21 : Cond.selects RX6 yX6_acted yX6_acted ∈ TB := tbm 21 (by decide +kernel) rfl
theorem m_22 : Cond.selects RX6 yX6_above yX6_above ∈ TB := tbm 22 (by decide +kernel) rfl
theorem m_23 : Cond.selects RX6 yX6_besides yX6_besides ∈ TB := tbm 23 (by decide +kernel) rfl
theorem m_24 : Cond.selects RX6 yX6_isNode yX6_isNode ∈ TB := tbm 24 (by decide +kernel) rfl
theorem m_25 : Cond.selects RX6 yX6_sign yX6_sign ∈ TB := tbm 25 (by decide +kernel) rfl
theorem m_26 : Cond.selects RX6 yX6_opens yX6_opens ∈ TB := tbm 26 (by decide +kernel) rfl
theorem m_27 : Cond.selects RX6 yX6_lays yX6_lays ∈ TB := tbm 27 (by decide +kernel) rfl
theorem m_28 : Cond.selects RX6 yX6_goes yX6_goes ∈ TB := tbm 28 (by decide +kernel) rfl
theorem m_29 : Cond.selects RX6 yX6_closes yX6_closes ∈ TB := tbm 29 (by decide +kernel) rfl
theorem m_30 : Cond.selects RX6 yX6_forgets yX6_forgets ∈ TB := tbm 30 (by decide +kernel) rfl
theorem m_31 : Cond.selects RX6 yX6_clips yX6_clips ∈ TB := tbm 31 (by decide +kernel) rfl
theorem m_32 : Cond.selects RX6 yX6_height yX6_height ∈ TB := tbm 32 (by decide +kernel) rfl
theorem m_33 : Cond.selects RX6 yX6_sinks yX6_sinks ∈ TB := tbm 33 (by decide +kernel) rfl
theorem m_34 : Cond.selects RX6 yX6_swaps yX6_swaps ∈ TB := tbm 34 (by decide +kernel) rfl
theorem m_35 : Cond.selects RX6 yX6_which yX6_which ∈ TB := tbm 35 (by decide +kernel) rfl
theorem m_36 : Cond.selects RX6 yX6_clipHeight yX6_clipHeight ∈ TB := tbm 36 (by decide +kernel) rfl
theorem m_37 : Cond.selects RX6 yX6_marksAt yX6_marksAt ∈ TB := tbm 37 (by decide +kernel) rfl
theorem m_38 : Cond.selects RX6 yX6_leaves yX6_leaves ∈ TB := tbm 38 (by decide +kernel) rfl
theorem m_39 : Cond.selects RX6 yX6_unlike yX6_unlike ∈ TB := tbm 39 (by decide +kernel) rfl
theorem m_40 : Cond.selects RX6 yX6_areLike yX6_areLike ∈ TB := tbm 40 (by decide +kernel) rfl
theorem m_41 : Cond.selects RX6 yX6_puts yX6_puts ∈ TB := tbm 41 (by decide +kernel) rfl
theorem m_42 : Cond.selects RX6 yX6_isTree yX6_isTree ∈ TB := tbm 42 (by decide +kernel) rfl
theorem m_43 : Cond.selects RX6 yX6_breaks yX6_breaks ∈ TB := tbm 43 (by decide +kernel) rfl
theorem m_44 : Cond.initialized RL ∈ TB := tbm 44 (by decide +kernel) rfl
theorem m_45 : Cond.initialized RX5 ∈ TB := tbm 45 (by decide +kernel) rfl
theorem m_46 : Cond.initialized RX3 ∈ TB := tbm 46 (by decide +kernel) rfl
theorem m_47 : Cond.initialized RX4 ∈ TB := tbm 47 (by decide +kernel) rfl
theorem m_48 : Cond.initialized RX1 ∈ TB := tbm 48 (by decide +kernel) rfl
theorem m_49 : Cond.initialized RJ9 ∈ TB := tbm 49 (by decide +kernel) rfl
theorem m_50 : Cond.initialized RX0 ∈ TB := tbm 50 (by decide +kernel) rfl
theorem m_51 : Cond.initialized RX2 ∈ TB := tbm 51 (by decide +kernel) rfl
theorem m_52 : Cond.initialized RX6 ∈ TB := tbm 52 (by decide +kernel) rfl
theorem m_53 : Cond.initialized RJ6 ∈ TB := tbm 53 (by decide +kernel) rfl
theorem m_54 : Cond.classLink RL 7 RX5 ∈ TB := tbm 54 (by decide +kernel) rfl
theorem m_55 : Cond.instantiable RX5 4 ∈ TB := tbm 55 (by decide +kernel) rfl
theorem m_56 : Cond.methodLink RL 9 yX5_init ∈ TB := tbm 56 (by decide +kernel) rfl
theorem m_57 : Cond.instanceMethod yX5_init ∈ TB := tbm 57 (by decide +kernel) rfl
theorem m_58 : Cond.code yX5_init prog_1_method_1_code 1 none ∈ TB := tbm 58 (by decide +kernel) rfl
theorem m_59 : Cond.methodLink RX5 1 objectInit ∈ TB := tbm 59 (by decide +kernel) rfl
theorem m_60 : Cond.instanceMethod objectInit ∈ TB := tbm 60 (by decide +kernel) rfl
theorem m_61 : Cond.code objectInit object_method_1_code 1 none ∈ TB := tbm 61 (by decide +kernel) rfl
theorem m_62 : Cond.classLink RX5 7 RX3 ∈ TB := tbm 62 (by decide +kernel) rfl
theorem m_63 : Cond.instantiable RX3 7 ∈ TB := tbm 63 (by decide +kernel) rfl
theorem m_64 : Cond.methodLink RX5 9 yX3_init ∈ TB := tbm 64 (by decide +kernel) rfl
theorem m_65 : Cond.instanceMethod yX3_init ∈ TB := tbm 65 (by decide +kernel) rfl
theorem m_66 : Cond.code yX3_init prog_5_method_1_code 1 none ∈ TB := tbm 66 (by decide +kernel) rfl
theorem m_67 : Cond.methodLink RX3 3 objectInit ∈ TB := tbm 67 (by decide +kernel) rfl
theorem m_68 : Cond.classLink RX3 9 RX4 ∈ TB := tbm 68 (by decide +kernel) rfl
theorem m_69 : Cond.instantiable RX4 2 ∈ TB := tbm 69 (by decide +kernel) rfl
theorem m_70 : Cond.methodLinkNest RX3 11 yX4_init RX5 ∈ lw_tbl := List.mem_of_getElem? (i := 70) (by decide +kernel)
theorem m_71 : Cond.instanceMethod yX4_init ∈ TB := tbm 71 (by decide +kernel) rfl
theorem m_72 : Cond.code yX4_init prog_6_method_1_code 1 none ∈ TB := tbm 72 (by decide +kernel) rfl
theorem m_73 : Cond.methodLink RX4 3 objectInit ∈ TB := tbm 73 (by decide +kernel) rfl
theorem m_74 : Cond.classLink RX4 9 RX1 ∈ TB := tbm 74 (by decide +kernel) rfl
theorem m_75 : Cond.instantiable RX1 2 ∈ TB := tbm 75 (by decide +kernel) rfl
theorem m_76 : Cond.methodLink RX4 11 yX1_init ∈ TB := tbm 76 (by decide +kernel) rfl
theorem m_77 : Cond.instanceMethod yX1_init ∈ TB := tbm 77 (by decide +kernel) rfl
theorem m_78 : Cond.code yX1_init prog_3_method_1_code 2 none ∈ TB := tbm 78 (by decide +kernel) rfl
theorem m_79 : Cond.methodLink RX1 3 objectInit ∈ TB := tbm 79 (by decide +kernel) rfl
theorem m_80 : Cond.methodLink RX1 9 yJ9_max_7cf53 ∈ TB := tbm 80 (by decide +kernel) rfl
theorem m_81 : Cond.static yJ9_max_7cf53 ∈ TB := tbm 81 (by decide +kernel) rfl
theorem m_82 : Cond.code yJ9_max_7cf53 prog_10_method_65_code 2 (Option.some FieldType.int) ∈ TB := tbm 82 (by decide +kernel) rfl
theorem m_83 : Cond.fieldLink RX1 15 RX1 "cells" "[I" ∈ TB := tbm 83 (by decide +kernel) rfl
theorem m_84 : Cond.fieldLink RX1 21 RX1 "size" "I" ∈ TB := tbm 84 (by decide +kernel) rfl
theorem m_85 : Cond.laysFinal RX1 RX1 "cells" "[I" ∈ TB := tbm 85 (by decide +kernel) rfl
theorem m_87 : Cond.lays RX1 RX1 "size" "I" ∈ TB := tbm 87 (by decide +kernel) rfl
theorem m_90 : Cond.arrayClass FieldType.int ∈ TB := tbm 90 (by decide +kernel) rfl
theorem m_91 : Cond.fieldLink RX4 14 RX4 "letters" "LTreePlaces$Row;" ∈ TB := tbm 91 (by decide +kernel) rfl
theorem m_92 : Cond.fieldLink RX4 20 RX4 "depths" "LTreePlaces$Row;" ∈ TB := tbm 92 (by decide +kernel) rfl
theorem m_93 : Cond.laysFinal RX4 RX4 "letters" "LTreePlaces$Row;" ∈ TB := tbm 93 (by decide +kernel) rfl
theorem m_95 : Cond.laysFinal RX4 RX4 "depths" "LTreePlaces$Row;" ∈ TB := tbm 95 (by decide +kernel) rfl
theorem m_98 : Cond.classLink RX3 21 RX1 ∈ TB := tbm 98 (by decide +kernel) rfl
theorem m_99 : Cond.methodLink RX3 23 yX1_init ∈ TB := tbm 99 (by decide +kernel) rfl
theorem m_100 : Cond.methodLink RX3 36 yX3_clearMarks ∈ TB := tbm 100 (by decide +kernel) rfl
theorem m_102 : Cond.instanceMethod yX3_clearMarks ∈ TB := tbm 102 (by decide +kernel) rfl
theorem m_103 : Cond.code yX3_clearMarks prog_5_method_4_code 2 none ∈ TB := tbm 103 (by decide +kernel) rfl
theorem m_104 : Cond.methodLink RX3 56 yX1_clear ∈ TB := tbm 104 (by decide +kernel) rfl
theorem m_105 : Cond.instanceMethod yX1_clear ∈ TB := tbm 105 (by decide +kernel) rfl
theorem m_106 : Cond.selects RX1 yX1_clear yX1_clear ∈ TB := tbm 106 (by decide +kernel) rfl
theorem m_107 : Cond.code yX1_clear prog_3_method_10_code 1 none ∈ TB := tbm 107 (by decide +kernel) rfl
theorem m_108 : Cond.methodLink RX3 61 yX1_add ∈ TB := tbm 108 (by decide +kernel) rfl
theorem m_109 : Cond.instanceMethod yX1_add ∈ TB := tbm 109 (by decide +kernel) rfl
theorem m_110 : Cond.selects RX1 yX1_add yX1_add ∈ TB := tbm 110 (by decide +kernel) rfl
theorem m_111 : Cond.code yX1_add prog_3_method_5_code 2 none ∈ TB := tbm 111 (by decide +kernel) rfl
theorem m_112 : Cond.methodLink RX1 25 yX1_putIn ∈ TB := tbm 112 (by decide +kernel) rfl
theorem m_113 : Cond.instanceMethod yX1_putIn ∈ TB := tbm 113 (by decide +kernel) rfl
theorem m_114 : Cond.selects RX1 yX1_putIn yX1_putIn ∈ TB := tbm 114 (by decide +kernel) rfl
theorem m_115 : Cond.code yX1_putIn prog_3_method_6_code 4 none ∈ TB := tbm 115 (by decide +kernel) rfl
theorem m_116 : Cond.fieldLink RX3 12 RX3 "tree" "LTreePlaces$Tree;" ∈ TB := tbm 116 (by decide +kernel) rfl
theorem m_117 : Cond.fieldLinkNest RX5 43 RX3 "tree" "LTreePlaces$Tree;" RX5 ∈ lw_tbl := List.mem_of_getElem? (i := 117) (by decide +kernel)
theorem m_118 : Cond.fieldLink RX3 18 RX3 "clip" "LTreePlaces$Tree;" ∈ TB := tbm 118 (by decide +kernel) rfl
theorem m_119 : Cond.fieldLinkNest RX5 136 RX3 "clip" "LTreePlaces$Tree;" RX5 ∈ lw_tbl := List.mem_of_getElem? (i := 119) (by decide +kernel)
theorem m_120 : Cond.fieldLink RX3 26 RX3 "keys" "LTreePlaces$Row;" ∈ TB := tbm 120 (by decide +kernel) rfl
theorem m_121 : Cond.fieldLink RX3 30 RX3 "walks" "LTreePlaces$Row;" ∈ TB := tbm 121 (by decide +kernel) rfl
theorem m_122 : Cond.fieldLinkNest RX5 168 RX3 "walks" "LTreePlaces$Row;" RX5 ∈ lw_tbl := List.mem_of_getElem? (i := 122) (by decide +kernel)
theorem m_123 : Cond.fieldLink RX3 33 RX3 "marks" "LTreePlaces$Row;" ∈ TB := tbm 123 (by decide +kernel) rfl
theorem m_124 : Cond.fieldLinkNest RX5 47 RX3 "place" "I" RX5 ∈ lw_tbl := List.mem_of_getElem? (i := 124) (by decide +kernel)
theorem m_125 : Cond.fieldLink RX3 46 RX3 "place" "I" ∈ TB := tbm 125 (by decide +kernel) rfl
theorem m_126 : Cond.fieldLink RX3 50 RX3 "keysGiven" "I" ∈ TB := tbm 126 (by decide +kernel) rfl
theorem m_127 : Cond.laysFinal RX3 RX3 "tree" "LTreePlaces$Tree;" ∈ TB := tbm 127 (by decide +kernel) rfl
theorem m_129 : Cond.laysFinal RX3 RX3 "clip" "LTreePlaces$Tree;" ∈ TB := tbm 129 (by decide +kernel) rfl
theorem m_131 : Cond.laysFinal RX3 RX3 "keys" "LTreePlaces$Row;" ∈ TB := tbm 131 (by decide +kernel) rfl
theorem m_133 : Cond.laysFinal RX3 RX3 "walks" "LTreePlaces$Row;" ∈ TB := tbm 133 (by decide +kernel) rfl
theorem m_135 : Cond.laysFinal RX3 RX3 "marks" "LTreePlaces$Row;" ∈ TB := tbm 135 (by decide +kernel) rfl
theorem m_137 : Cond.lays RX3 RX3 "place" "I" ∈ TB := tbm 137 (by decide +kernel) rfl
theorem m_139 : Cond.lays RX3 RX3 "keysGiven" "I" ∈ TB := tbm 139 (by decide +kernel) rfl
theorem m_142 : Cond.classLink RX5 16 RX0 ∈ TB := tbm 142 (by decide +kernel) rfl
theorem m_143 : Cond.instantiable RX0 3 ∈ TB := tbm 143 (by decide +kernel) rfl
theorem m_144 : Cond.methodLink RX5 18 yX0_init ∈ TB := tbm 144 (by decide +kernel) rfl
theorem m_145 : Cond.instanceMethod yX0_init ∈ TB := tbm 145 (by decide +kernel) rfl
theorem m_146 : Cond.code yX0_init prog_2_method_1_code 2 none ∈ TB := tbm 146 (by decide +kernel) rfl
theorem m_147 : Cond.methodLink RX0 3 objectInit ∈ TB := tbm 147 (by decide +kernel) rfl
theorem m_148 : Cond.classLink RX0 9 RX3 ∈ TB := tbm 148 (by decide +kernel) rfl
theorem m_149 : Cond.arrayOver (FieldType.object RX3) ∈ lw_tbl := List.mem_of_getElem? (i := 149) (by decide +kernel)
theorem m_150 : Cond.methodLink RX0 17 yX3_init ∈ TB := tbm 150 (by decide +kernel) rfl
theorem m_151 : Cond.fieldLink RX0 11 RX0 "slots" "[LTreePlaces$State;" ∈ TB := tbm 151 (by decide +kernel) rfl
theorem m_152 : Cond.fieldLink RX0 22 RX0 "oldest" "I" ∈ TB := tbm 152 (by decide +kernel) rfl
theorem m_153 : Cond.fieldLink RX0 18 RX0 "size" "I" ∈ TB := tbm 153 (by decide +kernel) rfl
theorem m_154 : Cond.laysFinal RX0 RX0 "slots" "[LTreePlaces$State;" ∈ TB := tbm 154 (by decide +kernel) rfl
theorem m_156 : Cond.lays RX0 RX0 "oldest" "I" ∈ TB := tbm 156 (by decide +kernel) rfl
theorem m_158 : Cond.lays RX0 RX0 "size" "I" ∈ TB := tbm 158 (by decide +kernel) rfl
theorem m_161 : Cond.classLink RX5 23 RX1 ∈ TB := tbm 161 (by decide +kernel) rfl
theorem m_162 : Cond.methodLink RX5 25 yX1_init ∈ TB := tbm 162 (by decide +kernel) rfl
theorem m_163 : Cond.classLink RX5 32 RX2 ∈ TB := tbm 163 (by decide +kernel) rfl
theorem m_164 : Cond.instantiable RX2 6 ∈ TB := tbm 164 (by decide +kernel) rfl
theorem m_165 : Cond.methodLinkNest RX5 34 yX2_init RX5 ∈ lw_tbl := List.mem_of_getElem? (i := 165) (by decide +kernel)
theorem m_166 : Cond.instanceMethod yX2_init ∈ TB := tbm 166 (by decide +kernel) rfl
theorem m_167 : Cond.code yX2_init prog_4_method_1_code 1 none ∈ TB := tbm 167 (by decide +kernel) rfl
theorem m_168 : Cond.methodLink RX2 3 objectInit ∈ TB := tbm 168 (by decide +kernel) rfl
theorem m_169 : Cond.classLink RX2 9 RX4 ∈ TB := tbm 169 (by decide +kernel) rfl
theorem m_170 : Cond.methodLinkNest RX2 11 yX4_init RX5 ∈ lw_tbl := List.mem_of_getElem? (i := 170) (by decide +kernel)
theorem m_171 : Cond.classLink RX2 18 RX1 ∈ TB := tbm 171 (by decide +kernel) rfl
theorem m_172 : Cond.methodLink RX2 20 yX1_init ∈ TB := tbm 172 (by decide +kernel) rfl
theorem m_173 : Cond.fieldLink RX2 12 RX2 "tree" "LTreePlaces$Tree;" ∈ TB := tbm 173 (by decide +kernel) rfl
theorem m_174 : Cond.fieldLinkNest RX5 202 RX2 "tree" "LTreePlaces$Tree;" RX5 ∈ lw_tbl := List.mem_of_getElem? (i := 174) (by decide +kernel)
theorem m_175 : Cond.fieldLink RX2 23 RX2 "open" "LTreePlaces$Row;" ∈ TB := tbm 175 (by decide +kernel) rfl
theorem m_176 : Cond.fieldLink RX2 31 RX2 "letterIsDue" "Z" ∈ TB := tbm 176 (by decide +kernel) rfl
theorem m_177 : Cond.fieldLink RX2 78 RX2 "mayOpen" "Z" ∈ TB := tbm 177 (by decide +kernel) rfl
theorem m_178 : Cond.fieldLink RX2 43 RX2 "faultPlace" "I" ∈ TB := tbm 178 (by decide +kernel) rfl
theorem m_179 : Cond.fieldLinkNest RX5 199 RX2 "faultPlace" "I" RX5 ∈ lw_tbl := List.mem_of_getElem? (i := 179) (by decide +kernel)
theorem m_180 : Cond.fieldLink RX2 35 RX2 "reason" "I" ∈ TB := tbm 180 (by decide +kernel) rfl
theorem m_181 : Cond.fieldLinkNest RX5 196 RX2 "reason" "I" RX5 ∈ lw_tbl := List.mem_of_getElem? (i := 181) (by decide +kernel)
theorem m_182 : Cond.laysFinal RX2 RX2 "tree" "LTreePlaces$Tree;" ∈ TB := tbm 182 (by decide +kernel) rfl
theorem m_184 : Cond.laysFinal RX2 RX2 "open" "LTreePlaces$Row;" ∈ TB := tbm 184 (by decide +kernel) rfl
theorem m_186 : Cond.lays RX2 RX2 "letterIsDue" "Z" ∈ TB := tbm 186 (by decide +kernel) rfl
theorem m_188 : Cond.lays RX2 RX2 "mayOpen" "Z" ∈ TB := tbm 188 (by decide +kernel) rfl
theorem m_190 : Cond.lays RX2 RX2 "faultPlace" "I" ∈ TB := tbm 190 (by decide +kernel) rfl
theorem m_192 : Cond.lays RX2 RX2 "reason" "I" ∈ TB := tbm 192 (by decide +kernel) rfl
theorem m_195 : Cond.methodLink RX5 39 yX3_putNodeIn ∈ TB := tbm 195 (by decide +kernel) rfl
theorem m_196 : Cond.instanceMethod yX3_putNodeIn ∈ TB := tbm 196 (by decide +kernel) rfl
theorem m_197 : Cond.selects RX3 yX3_putNodeIn yX3_putNodeIn ∈ TB := tbm 197 (by decide +kernel) rfl
theorem m_198 : Cond.code yX3_putNodeIn prog_5_method_5_code 4 none ∈ TB := tbm 198 (by decide +kernel) rfl
theorem m_199 : Cond.methodLink RX3 64 yX4_putIn ∈ TB := tbm 199 (by decide +kernel) rfl
theorem m_200 : Cond.instanceMethod yX4_putIn ∈ TB := tbm 200 (by decide +kernel) rfl
theorem m_201 : Cond.selects RX4 yX4_putIn yX4_putIn ∈ TB := tbm 201 (by decide +kernel) rfl
theorem m_202 : Cond.code yX4_putIn prog_6_method_22_code 4 none ∈ TB := tbm 202 (by decide +kernel) rfl
theorem m_203 : Cond.methodLink RX4 77 yX1_putIn ∈ TB := tbm 203 (by decide +kernel) rfl
theorem m_204 : Cond.methodLink RX3 68 yX1_putIn ∈ TB := tbm 204 (by decide +kernel) rfl
theorem m_205 : Cond.fieldLink RX5 10 RX5 "now" "LTreePlaces$State;" ∈ TB := tbm 205 (by decide +kernel) rfl
theorem m_206 : Cond.fieldLink RX5 19 RX5 "history" "LTreePlaces$History;" ∈ TB := tbm 206 (by decide +kernel) rfl
theorem m_207 : Cond.fieldLink RX5 28 RX5 "text" "LTreePlaces$Row;" ∈ TB := tbm 207 (by decide +kernel) rfl
theorem m_208 : Cond.fieldLink RX5 35 RX5 "scan" "LTreePlaces$Scan;" ∈ TB := tbm 208 (by decide +kernel) rfl
theorem m_209 : Cond.laysFinal RX5 RX5 "now" "LTreePlaces$State;" ∈ TB := tbm 209 (by decide +kernel) rfl
theorem m_211 : Cond.laysFinal RX5 RX5 "history" "LTreePlaces$History;" ∈ TB := tbm 211 (by decide +kernel) rfl
theorem m_213 : Cond.laysFinal RX5 RX5 "text" "LTreePlaces$Row;" ∈ TB := tbm 213 (by decide +kernel) rfl
theorem m_215 : Cond.laysFinal RX5 RX5 "scan" "LTreePlaces$Scan;" ∈ TB := tbm 215 (by decide +kernel) rfl
theorem m_218 : Cond.methodLink RL 13 yX5_down ∈ TB := tbm 218 (by decide +kernel) rfl
theorem m_219 : Cond.instanceMethod yX5_down ∈ TB := tbm 219 (by decide +kernel) rfl
theorem m_220 : Cond.selects RX5 yX5_down yX5_down ∈ TB := tbm 220 (by decide +kernel) rfl
theorem m_221 : Cond.code yX5_down prog_1_method_2_code 2 (Option.some FieldType.int) ∈ TB := tbm 221 (by decide +kernel) rfl
theorem m_222 : Cond.methodLink RX5 51 yX4_childAt ∈ TB := tbm 222 (by decide +kernel) rfl
theorem m_223 : Cond.instanceMethod yX4_childAt ∈ TB := tbm 223 (by decide +kernel) rfl
theorem m_224 : Cond.selects RX4 yX4_childAt yX4_childAt ∈ TB := tbm 224 (by decide +kernel) rfl
theorem m_225 : Cond.code yX4_childAt prog_6_method_12_code 3 (Option.some FieldType.int) ∈ TB := tbm 225 (by decide +kernel) rfl
theorem m_226 : Cond.methodLink RX4 46 yX4_childrenOf ∈ TB := tbm 226 (by decide +kernel) rfl
theorem m_227 : Cond.instanceMethod yX4_childrenOf ∈ TB := tbm 227 (by decide +kernel) rfl
theorem m_228 : Cond.selects RX4 yX4_childrenOf yX4_childrenOf ∈ TB := tbm 228 (by decide +kernel) rfl
theorem m_229 : Cond.code yX4_childrenOf prog_6_method_10_code 5 (Option.some FieldType.int) ∈ TB := tbm 229 (by decide +kernel) rfl
theorem m_230 : Cond.methodLink RX4 43 yX4_endOf ∈ TB := tbm 230 (by decide +kernel) rfl
theorem m_231 : Cond.instanceMethod yX4_endOf ∈ TB := tbm 231 (by decide +kernel) rfl
theorem m_232 : Cond.selects RX4 yX4_endOf yX4_endOf ∈ TB := tbm 232 (by decide +kernel) rfl
theorem m_233 : Cond.code yX4_endOf prog_6_method_7_code 3 (Option.some FieldType.int) ∈ TB := tbm 233 (by decide +kernel) rfl
theorem m_234 : Cond.methodLink RX4 23 yX1_size ∈ TB := tbm 234 (by decide +kernel) rfl
theorem m_235 : Cond.instanceMethod yX1_size ∈ TB := tbm 235 (by decide +kernel) rfl
theorem m_236 : Cond.selects RX1 yX1_size yX1_size ∈ TB := tbm 236 (by decide +kernel) rfl
theorem m_237 : Cond.code yX1_size prog_3_method_2_code 1 (Option.some FieldType.int) ∈ TB := tbm 237 (by decide +kernel) rfl
theorem m_238 : Cond.methodLink RX4 28 yX1_at ∈ TB := tbm 238 (by decide +kernel) rfl
theorem m_239 : Cond.instanceMethod yX1_at ∈ TB := tbm 239 (by decide +kernel) rfl
theorem m_240 : Cond.selects RX1 yX1_at yX1_at ∈ TB := tbm 240 (by decide +kernel) rfl
theorem m_241 : Cond.code yX1_at prog_3_method_3_code 2 (Option.some FieldType.int) ∈ TB := tbm 241 (by decide +kernel) rfl
theorem m_242 : Cond.methodLink RX4 36 yX4_depthOf ∈ TB := tbm 242 (by decide +kernel) rfl
theorem m_243 : Cond.instanceMethod yX4_depthOf ∈ TB := tbm 243 (by decide +kernel) rfl
theorem m_244 : Cond.selects RX4 yX4_depthOf yX4_depthOf ∈ TB := tbm 244 (by decide +kernel) rfl
theorem m_245 : Cond.code yX4_depthOf prog_6_method_6_code 2 (Option.some FieldType.int) ∈ TB := tbm 245 (by decide +kernel) rfl
theorem m_246 : Cond.methodLink RX4 49 yX4_startOfChild ∈ TB := tbm 246 (by decide +kernel) rfl
theorem m_247 : Cond.instanceMethod yX4_startOfChild ∈ TB := tbm 247 (by decide +kernel) rfl
theorem m_248 : Cond.selects RX4 yX4_startOfChild yX4_startOfChild ∈ TB := tbm 248 (by decide +kernel) rfl
theorem m_249 : Cond.code yX4_startOfChild prog_6_method_11_code 6 (Option.some FieldType.int) ∈ TB := tbm 249 (by decide +kernel) rfl
theorem m_250 : Cond.methodLink RX5 57 yX5_walk ∈ TB := tbm 250 (by decide +kernel) rfl
theorem m_252 : Cond.instanceMethod yX5_walk ∈ TB := tbm 252 (by decide +kernel) rfl
theorem m_253 : Cond.code yX5_walk prog_1_method_33_code 2 (Option.some FieldType.int) ∈ TB := tbm 253 (by decide +kernel) rfl
theorem m_254 : Cond.methodLink RX5 81 yX0_keep ∈ TB := tbm 254 (by decide +kernel) rfl
theorem m_255 : Cond.instanceMethod yX0_keep ∈ TB := tbm 255 (by decide +kernel) rfl
theorem m_256 : Cond.selects RX0 yX0_keep yX0_keep ∈ TB := tbm 256 (by decide +kernel) rfl
theorem m_257 : Cond.code yX0_keep prog_2_method_3_code 3 none ∈ TB := tbm 257 (by decide +kernel) rfl
theorem m_258 : Cond.methodLink RX0 25 yX0_slotAt ∈ TB := tbm 258 (by decide +kernel) rfl
theorem m_260 : Cond.instanceMethod yX0_slotAt ∈ TB := tbm 260 (by decide +kernel) rfl
theorem m_261 : Cond.code yX0_slotAt prog_2_method_5_code 3 (Option.some (FieldType.object RX3)) ∈ TB := tbm 261 (by decide +kernel) rfl
theorem m_262 : Cond.methodLink RX0 29 yX3_takeFrom ∈ TB := tbm 262 (by decide +kernel) rfl
theorem m_263 : Cond.instanceMethod yX3_takeFrom ∈ TB := tbm 263 (by decide +kernel) rfl
theorem m_264 : Cond.selects RX3 yX3_takeFrom yX3_takeFrom ∈ TB := tbm 264 (by decide +kernel) rfl
theorem m_265 : Cond.code yX3_takeFrom prog_5_method_2_code 2 none ∈ TB := tbm 265 (by decide +kernel) rfl
theorem m_266 : Cond.methodLink RX3 39 yX4_takeFrom ∈ TB := tbm 266 (by decide +kernel) rfl
theorem m_267 : Cond.instanceMethod yX4_takeFrom ∈ TB := tbm 267 (by decide +kernel) rfl
theorem m_268 : Cond.selects RX4 yX4_takeFrom yX4_takeFrom ∈ TB := tbm 268 (by decide +kernel) rfl
theorem m_269 : Cond.code yX4_takeFrom prog_6_method_26_code 2 none ∈ TB := tbm 269 (by decide +kernel) rfl
theorem m_270 : Cond.methodLink RX4 87 yX1_takeFrom ∈ TB := tbm 270 (by decide +kernel) rfl
theorem m_271 : Cond.instanceMethod yX1_takeFrom ∈ TB := tbm 271 (by decide +kernel) rfl
theorem m_272 : Cond.selects RX1 yX1_takeFrom yX1_takeFrom ∈ TB := tbm 272 (by decide +kernel) rfl
theorem m_273 : Cond.code yX1_takeFrom prog_3_method_11_code 3 none ∈ TB := tbm 273 (by decide +kernel) rfl
theorem m_274 : Cond.methodLink RX1 39 yJ9_min_7cf53 ∈ TB := tbm 274 (by decide +kernel) rfl
theorem m_275 : Cond.static yJ9_min_7cf53 ∈ TB := tbm 275 (by decide +kernel) rfl
theorem m_276 : Cond.code yJ9_min_7cf53 prog_10_method_69_code 2 (Option.some FieldType.int) ∈ TB := tbm 276 (by decide +kernel) rfl
theorem m_277 : Cond.methodLink RX3 43 yX1_takeFrom ∈ TB := tbm 277 (by decide +kernel) rfl
theorem m_278 : Cond.methodLink RX5 207 yX3_walkTo ∈ TB := tbm 278 (by decide +kernel) rfl
theorem m_279 : Cond.instanceMethod yX3_walkTo ∈ TB := tbm 279 (by decide +kernel) rfl
theorem m_280 : Cond.selects RX3 yX3_walkTo yX3_walkTo ∈ TB := tbm 280 (by decide +kernel) rfl
theorem m_281 : Cond.code yX3_walkTo prog_5_method_12_code 2 none ∈ TB := tbm 281 (by decide +kernel) rfl
theorem m_282 : Cond.methodLink RX3 114 yX1_size ∈ TB := tbm 282 (by decide +kernel) rfl
theorem m_283 : Cond.methodLink RX3 88 yX1_takeOut ∈ TB := tbm 283 (by decide +kernel) rfl
theorem m_284 : Cond.instanceMethod yX1_takeOut ∈ TB := tbm 284 (by decide +kernel) rfl
theorem m_285 : Cond.selects RX1 yX1_takeOut yX1_takeOut ∈ TB := tbm 285 (by decide +kernel) rfl
theorem m_286 : Cond.code yX1_takeOut prog_3_method_7_code 4 none ∈ TB := tbm 286 (by decide +kernel) rfl
theorem m_287 : Cond.methodLink RX1 29 yX1_at ∈ TB := tbm 287 (by decide +kernel) rfl
theorem m_288 : Cond.methodLink RX1 33 yX1_put ∈ TB := tbm 288 (by decide +kernel) rfl
theorem m_289 : Cond.instanceMethod yX1_put ∈ TB := tbm 289 (by decide +kernel) rfl
theorem m_290 : Cond.selects RX1 yX1_put yX1_put ∈ TB := tbm 290 (by decide +kernel) rfl
theorem m_291 : Cond.code yX1_put prog_3_method_4_code 3 none ∈ TB := tbm 291 (by decide +kernel) rfl
theorem m_292 : Cond.methodLink RX3 115 yX1_at ∈ TB := tbm 292 (by decide +kernel) rfl
theorem m_293 : Cond.methodLink RL 18 yX5_up ∈ TB := tbm 293 (by decide +kernel) rfl
theorem m_294 : Cond.instanceMethod yX5_up ∈ TB := tbm 294 (by decide +kernel) rfl
theorem m_295 : Cond.selects RX5 yX5_up yX5_up ∈ TB := tbm 295 (by decide +kernel) rfl
theorem m_296 : Cond.code yX5_up prog_1_method_3_code 1 (Option.some FieldType.int) ∈ TB := tbm 296 (by decide +kernel) rfl
theorem m_297 : Cond.methodLink RX5 61 yX4_above ∈ TB := tbm 297 (by decide +kernel) rfl
theorem m_298 : Cond.instanceMethod yX4_above ∈ TB := tbm 298 (by decide +kernel) rfl
theorem m_299 : Cond.selects RX4 yX4_above yX4_above ∈ TB := tbm 299 (by decide +kernel) rfl
theorem m_300 : Cond.code yX4_above prog_6_method_9_code 2 (Option.some FieldType.int) ∈ TB := tbm 300 (by decide +kernel) rfl
theorem m_301 : Cond.methodLink RX4 39 yX4_onSpine ∈ TB := tbm 301 (by decide +kernel) rfl
theorem m_302 : Cond.instanceMethod yX4_onSpine ∈ TB := tbm 302 (by decide +kernel) rfl
theorem m_303 : Cond.selects RX4 yX4_onSpine yX4_onSpine ∈ TB := tbm 303 (by decide +kernel) rfl
theorem m_304 : Cond.code yX4_onSpine prog_6_method_8_code 4 (Option.some FieldType.int) ∈ TB := tbm 304 (by decide +kernel) rfl
theorem m_305 : Cond.methodLink RL 23 yX5_side ∈ TB := tbm 305 (by decide +kernel) rfl
theorem m_306 : Cond.instanceMethod yX5_side ∈ TB := tbm 306 (by decide +kernel) rfl
theorem m_307 : Cond.selects RX5 yX5_side yX5_side ∈ TB := tbm 307 (by decide +kernel) rfl
theorem m_308 : Cond.code yX5_side prog_1_method_4_code 2 (Option.some FieldType.int) ∈ TB := tbm 308 (by decide +kernel) rfl
theorem m_309 : Cond.methodLink RX5 64 yX5_isChoice ∈ TB := tbm 309 (by decide +kernel) rfl
theorem m_310 : Cond.static yX5_isChoice ∈ TB := tbm 310 (by decide +kernel) rfl
theorem m_311 : Cond.code yX5_isChoice prog_1_method_35_code 1 (Option.some FieldType.boolean) ∈ TB := tbm 311 (by decide +kernel) rfl
theorem m_312 : Cond.methodLink RX5 68 yX4_neighbour ∈ TB := tbm 312 (by decide +kernel) rfl
theorem m_313 : Cond.instanceMethod yX4_neighbour ∈ TB := tbm 313 (by decide +kernel) rfl
theorem m_314 : Cond.selects RX4 yX4_neighbour yX4_neighbour ∈ TB := tbm 314 (by decide +kernel) rfl
theorem m_315 : Cond.code yX4_neighbour prog_6_method_14_code 3 (Option.some FieldType.int) ∈ TB := tbm 315 (by decide +kernel) rfl
theorem m_316 : Cond.methodLink RX4 55 yX4_next ∈ TB := tbm 316 (by decide +kernel) rfl
theorem m_318 : Cond.instanceMethod yX4_next ∈ TB := tbm 318 (by decide +kernel) rfl
theorem m_319 : Cond.code yX4_next prog_6_method_15_code 3 (Option.some FieldType.int) ∈ TB := tbm 319 (by decide +kernel) rfl
theorem m_320 : Cond.methodLink RX4 58 yX4_ahead ∈ TB := tbm 320 (by decide +kernel) rfl
theorem m_322 : Cond.instanceMethod yX4_ahead ∈ TB := tbm 322 (by decide +kernel) rfl
theorem m_323 : Cond.code yX4_ahead prog_6_method_16_code 3 (Option.some FieldType.int) ∈ TB := tbm 323 (by decide +kernel) rfl
theorem m_324 : Cond.methodLink RL 27 yX5_step ∈ TB := tbm 324 (by decide +kernel) rfl
theorem m_325 : Cond.instanceMethod yX5_step ∈ TB := tbm 325 (by decide +kernel) rfl
theorem m_326 : Cond.selects RX5 yX5_step yX5_step ∈ TB := tbm 326 (by decide +kernel) rfl
theorem m_327 : Cond.code yX5_step prog_1_method_5_code 3 (Option.some FieldType.int) ∈ TB := tbm 327 (by decide +kernel) rfl
theorem m_328 : Cond.methodLink RX5 71 yX4_has ∈ TB := tbm 328 (by decide +kernel) rfl
theorem m_329 : Cond.instanceMethod yX4_has ∈ TB := tbm 329 (by decide +kernel) rfl
theorem m_330 : Cond.selects RX4 yX4_has yX4_has ∈ TB := tbm 330 (by decide +kernel) rfl
theorem m_331 : Cond.code yX4_has prog_6_method_3_code 2 (Option.some FieldType.boolean) ∈ TB := tbm 331 (by decide +kernel) rfl
theorem m_332 : Cond.methodLink RX4 27 yX4_size ∈ TB := tbm 332 (by decide +kernel) rfl
theorem m_333 : Cond.instanceMethod yX4_size ∈ TB := tbm 333 (by decide +kernel) rfl
theorem m_334 : Cond.selects RX4 yX4_size yX4_size ∈ TB := tbm 334 (by decide +kernel) rfl
theorem m_335 : Cond.code yX4_size prog_6_method_2_code 1 (Option.some FieldType.int) ∈ TB := tbm 335 (by decide +kernel) rfl
theorem m_336 : Cond.methodLink RL 31 yX5_top ∈ TB := tbm 336 (by decide +kernel) rfl
theorem m_337 : Cond.instanceMethod yX5_top ∈ TB := tbm 337 (by decide +kernel) rfl
theorem m_338 : Cond.selects RX5 yX5_top yX5_top ∈ TB := tbm 338 (by decide +kernel) rfl
theorem m_339 : Cond.code yX5_top prog_1_method_6_code 2 (Option.some FieldType.int) ∈ TB := tbm 339 (by decide +kernel) rfl
theorem m_340 : Cond.methodLink RX5 74 yX4_depthOf ∈ TB := tbm 340 (by decide +kernel) rfl
theorem m_341 : Cond.methodLink RL 35 yX5_back ∈ TB := tbm 341 (by decide +kernel) rfl
theorem m_342 : Cond.instanceMethod yX5_back ∈ TB := tbm 342 (by decide +kernel) rfl
theorem m_343 : Cond.selects RX5 yX5_back yX5_back ∈ TB := tbm 343 (by decide +kernel) rfl
theorem m_344 : Cond.code yX5_back prog_1_method_7_code 2 (Option.some FieldType.int) ∈ TB := tbm 344 (by decide +kernel) rfl
theorem m_345 : Cond.methodLink RX5 77 yX3_lastWalk ∈ TB := tbm 345 (by decide +kernel) rfl
theorem m_346 : Cond.instanceMethod yX3_lastWalk ∈ TB := tbm 346 (by decide +kernel) rfl
theorem m_347 : Cond.selects RX3 yX3_lastWalk yX3_lastWalk ∈ TB := tbm 347 (by decide +kernel) rfl
theorem m_348 : Cond.code yX3_lastWalk prog_5_method_13_code 3 (Option.some FieldType.int) ∈ TB := tbm 348 (by decide +kernel) rfl
theorem m_349 : Cond.methodLink RX3 118 yX3_numberOfKey ∈ TB := tbm 349 (by decide +kernel) rfl
theorem m_351 : Cond.instanceMethod yX3_numberOfKey ∈ TB := tbm 351 (by decide +kernel) rfl
theorem m_352 : Cond.code yX3_numberOfKey prog_5_method_11_code 3 (Option.some FieldType.int) ∈ TB := tbm 352 (by decide +kernel) rfl
theorem m_353 : Cond.methodLink RX5 85 yX3_takeWalksBack ∈ TB := tbm 353 (by decide +kernel) rfl
theorem m_354 : Cond.instanceMethod yX3_takeWalksBack ∈ TB := tbm 354 (by decide +kernel) rfl
theorem m_355 : Cond.selects RX3 yX3_takeWalksBack yX3_takeWalksBack ∈ TB := tbm 355 (by decide +kernel) rfl
theorem m_356 : Cond.code yX3_takeWalksBack prog_5_method_14_code 2 none ∈ TB := tbm 356 (by decide +kernel) rfl
theorem m_357 : Cond.methodLink RX3 105 yJ9_max_7cf53 ∈ TB := tbm 357 (by decide +kernel) rfl
theorem m_358 : Cond.methodLink RL 39 yX5_letter ∈ TB := tbm 358 (by decide +kernel) rfl
theorem m_359 : Cond.instanceMethod yX5_letter ∈ TB := tbm 359 (by decide +kernel) rfl
theorem m_360 : Cond.selects RX5 yX5_letter yX5_letter ∈ TB := tbm 360 (by decide +kernel) rfl
theorem m_361 : Cond.code yX5_letter prog_1_method_8_code 3 (Option.some FieldType.int) ∈ TB := tbm 361 (by decide +kernel) rfl
theorem m_362 : Cond.methodLink RX5 88 yX5_isLetter ∈ TB := tbm 362 (by decide +kernel) rfl
theorem m_363 : Cond.static yX5_isLetter ∈ TB := tbm 363 (by decide +kernel) rfl
theorem m_364 : Cond.code yX5_isLetter prog_1_method_36_code 1 (Option.some FieldType.boolean) ∈ TB := tbm 364 (by decide +kernel) rfl
theorem m_365 : Cond.methodLink RX5 91 yX4_letterOf ∈ TB := tbm 365 (by decide +kernel) rfl
theorem m_366 : Cond.instanceMethod yX4_letterOf ∈ TB := tbm 366 (by decide +kernel) rfl
theorem m_367 : Cond.selects RX4 yX4_letterOf yX4_letterOf ∈ TB := tbm 367 (by decide +kernel) rfl
theorem m_368 : Cond.code yX4_letterOf prog_6_method_4_code 2 (Option.some FieldType.int) ∈ TB := tbm 368 (by decide +kernel) rfl
theorem m_369 : Cond.methodLink RX5 94 yX4_setLetter ∈ TB := tbm 369 (by decide +kernel) rfl
theorem m_370 : Cond.instanceMethod yX4_setLetter ∈ TB := tbm 370 (by decide +kernel) rfl
theorem m_371 : Cond.selects RX4 yX4_setLetter yX4_setLetter ∈ TB := tbm 371 (by decide +kernel) rfl
theorem m_372 : Cond.code yX4_setLetter prog_6_method_5_code 3 none ∈ TB := tbm 372 (by decide +kernel) rfl
theorem m_373 : Cond.methodLink RX4 32 yX1_put ∈ TB := tbm 373 (by decide +kernel) rfl
theorem m_374 : Cond.methodLink RL 43 yX5_child ∈ TB := tbm 374 (by decide +kernel) rfl
theorem m_375 : Cond.instanceMethod yX5_child ∈ TB := tbm 375 (by decide +kernel) rfl
theorem m_376 : Cond.selects RX5 yX5_child yX5_child ∈ TB := tbm 376 (by decide +kernel) rfl
theorem m_377 : Cond.code yX5_child prog_1_method_9_code 5 (Option.some FieldType.int) ∈ TB := tbm 377 (by decide +kernel) rfl
theorem m_378 : Cond.methodLink RX5 98 yX4_childrenOf ∈ TB := tbm 378 (by decide +kernel) rfl
theorem m_379 : Cond.methodLink RX5 101 yX4_size ∈ TB := tbm 379 (by decide +kernel) rfl
theorem m_380 : Cond.methodLink RX5 104 yX4_startOfChild ∈ TB := tbm 380 (by decide +kernel) rfl
theorem m_381 : Cond.methodLink RL 48 yX5_beside ∈ TB := tbm 381 (by decide +kernel) rfl
theorem m_382 : Cond.instanceMethod yX5_beside ∈ TB := tbm 382 (by decide +kernel) rfl
theorem m_383 : Cond.selects RX5 yX5_beside yX5_beside ∈ TB := tbm 383 (by decide +kernel) rfl
theorem m_384 : Cond.code yX5_beside prog_1_method_10_code 6 (Option.some FieldType.int) ∈ TB := tbm 384 (by decide +kernel) rfl
theorem m_385 : Cond.methodLink RX5 107 yX4_endOf ∈ TB := tbm 385 (by decide +kernel) rfl
theorem m_386 : Cond.methodLink RL 52 yX5_delete ∈ TB := tbm 386 (by decide +kernel) rfl
theorem m_387 : Cond.instanceMethod yX5_delete ∈ TB := tbm 387 (by decide +kernel) rfl
theorem m_388 : Cond.selects RX5 yX5_delete yX5_delete ∈ TB := tbm 388 (by decide +kernel) rfl
theorem m_389 : Cond.code yX5_delete prog_1_method_11_code 1 (Option.some FieldType.int) ∈ TB := tbm 389 (by decide +kernel) rfl
theorem m_390 : Cond.methodLink RX5 110 yX3_takePlaceOut ∈ TB := tbm 390 (by decide +kernel) rfl
theorem m_391 : Cond.instanceMethod yX3_takePlaceOut ∈ TB := tbm 391 (by decide +kernel) rfl
theorem m_392 : Cond.selects RX3 yX3_takePlaceOut yX3_takePlaceOut ∈ TB := tbm 392 (by decide +kernel) rfl
theorem m_393 : Cond.code yX3_takePlaceOut prog_5_method_8_code 3 (Option.some FieldType.int) ∈ TB := tbm 393 (by decide +kernel) rfl
theorem m_394 : Cond.methodLink RX3 89 yX4_endOf ∈ TB := tbm 394 (by decide +kernel) rfl
theorem m_395 : Cond.methodLink RX3 92 yX3_placeWithoutPart ∈ TB := tbm 395 (by decide +kernel) rfl
theorem m_397 : Cond.instanceMethod yX3_placeWithoutPart ∈ TB := tbm 397 (by decide +kernel) rfl
theorem m_398 : Cond.code yX3_placeWithoutPart prog_5_method_9_code 2 (Option.some FieldType.int) ∈ TB := tbm 398 (by decide +kernel) rfl
theorem m_399 : Cond.methodLink RX3 98 yX4_neighbour ∈ TB := tbm 399 (by decide +kernel) rfl
theorem m_400 : Cond.methodLink RX3 102 yX4_above ∈ TB := tbm 400 (by decide +kernel) rfl
theorem m_401 : Cond.methodLink RX3 95 yX3_takeNodesOut ∈ TB := tbm 401 (by decide +kernel) rfl
theorem m_402 : Cond.instanceMethod yX3_takeNodesOut ∈ TB := tbm 402 (by decide +kernel) rfl
theorem m_403 : Cond.selects RX3 yX3_takeNodesOut yX3_takeNodesOut ∈ TB := tbm 403 (by decide +kernel) rfl
theorem m_404 : Cond.code yX3_takeNodesOut prog_5_method_7_code 3 none ∈ TB := tbm 404 (by decide +kernel) rfl
theorem m_405 : Cond.methodLink RX3 85 yX4_takeOut ∈ TB := tbm 405 (by decide +kernel) rfl
theorem m_406 : Cond.instanceMethod yX4_takeOut ∈ TB := tbm 406 (by decide +kernel) rfl
theorem m_407 : Cond.selects RX4 yX4_takeOut yX4_takeOut ∈ TB := tbm 407 (by decide +kernel) rfl
theorem m_408 : Cond.code yX4_takeOut prog_6_method_23_code 3 none ∈ TB := tbm 408 (by decide +kernel) rfl
theorem m_409 : Cond.methodLink RX4 80 yX1_takeOut ∈ TB := tbm 409 (by decide +kernel) rfl
theorem m_410 : Cond.methodLink RL 56 yX5_wrap ∈ TB := tbm 410 (by decide +kernel) rfl
theorem m_411 : Cond.instanceMethod yX5_wrap ∈ TB := tbm 411 (by decide +kernel) rfl
theorem m_412 : Cond.selects RX5 yX5_wrap yX5_wrap ∈ TB := tbm 412 (by decide +kernel) rfl
theorem m_413 : Cond.code yX5_wrap prog_1_method_12_code 3 (Option.some FieldType.int) ∈ TB := tbm 413 (by decide +kernel) rfl
theorem m_414 : Cond.methodLink RX5 113 yX4_heightOf ∈ TB := tbm 414 (by decide +kernel) rfl
theorem m_415 : Cond.instanceMethod yX4_heightOf ∈ TB := tbm 415 (by decide +kernel) rfl
theorem m_416 : Cond.selects RX4 yX4_heightOf yX4_heightOf ∈ TB := tbm 416 (by decide +kernel) rfl
theorem m_417 : Cond.code yX4_heightOf prog_6_method_17_code 5 (Option.some FieldType.int) ∈ TB := tbm 417 (by decide +kernel) rfl
theorem m_418 : Cond.methodLink RX4 61 yJ9_max_7cf53 ∈ TB := tbm 418 (by decide +kernel) rfl
theorem m_419 : Cond.methodLink RX5 116 yX4_shiftDepths ∈ TB := tbm 419 (by decide +kernel) rfl
theorem m_420 : Cond.instanceMethod yX4_shiftDepths ∈ TB := tbm 420 (by decide +kernel) rfl
theorem m_421 : Cond.selects RX4 yX4_shiftDepths yX4_shiftDepths ∈ TB := tbm 421 (by decide +kernel) rfl
theorem m_422 : Cond.code yX4_shiftDepths prog_6_method_24_code 5 none ∈ TB := tbm 422 (by decide +kernel) rfl
theorem m_423 : Cond.methodLink RL 60 yX5_lift ∈ TB := tbm 423 (by decide +kernel) rfl
theorem m_424 : Cond.instanceMethod yX5_lift ∈ TB := tbm 424 (by decide +kernel) rfl
theorem m_425 : Cond.selects RX5 yX5_lift yX5_lift ∈ TB := tbm 425 (by decide +kernel) rfl
theorem m_426 : Cond.code yX5_lift prog_1_method_13_code 3 (Option.some FieldType.int) ∈ TB := tbm 426 (by decide +kernel) rfl
theorem m_427 : Cond.methodLink RX5 119 yX3_takeNodesOut ∈ TB := tbm 427 (by decide +kernel) rfl
theorem m_428 : Cond.methodLink RL 64 yX5_exchange ∈ TB := tbm 428 (by decide +kernel) rfl
theorem m_429 : Cond.instanceMethod yX5_exchange ∈ TB := tbm 429 (by decide +kernel) rfl
theorem m_430 : Cond.selects RX5 yX5_exchange yX5_exchange ∈ TB := tbm 430 (by decide +kernel) rfl
theorem m_431 : Cond.code yX5_exchange prog_1_method_14_code 6 (Option.some FieldType.int) ∈ TB := tbm 431 (by decide +kernel) rfl
theorem m_432 : Cond.methodLink RX5 122 yJ9_max_7cf53 ∈ TB := tbm 432 (by decide +kernel) rfl
theorem m_433 : Cond.methodLink RX5 127 yJ9_min_7cf53 ∈ TB := tbm 433 (by decide +kernel) rfl
theorem m_434 : Cond.methodLink RX5 130 yX3_exchangeRuns ∈ TB := tbm 434 (by decide +kernel) rfl
theorem m_435 : Cond.instanceMethod yX3_exchangeRuns ∈ TB := tbm 435 (by decide +kernel) rfl
theorem m_436 : Cond.selects RX3 yX3_exchangeRuns yX3_exchangeRuns ∈ TB := tbm 436 (by decide +kernel) rfl
theorem m_437 : Cond.code yX3_exchangeRuns prog_5_method_10_code 4 none ∈ TB := tbm 437 (by decide +kernel) rfl
theorem m_438 : Cond.methodLink RX3 110 yX4_exchangeRuns ∈ TB := tbm 438 (by decide +kernel) rfl
theorem m_439 : Cond.instanceMethod yX4_exchangeRuns ∈ TB := tbm 439 (by decide +kernel) rfl
theorem m_440 : Cond.selects RX4 yX4_exchangeRuns yX4_exchangeRuns ∈ TB := tbm 440 (by decide +kernel) rfl
theorem m_441 : Cond.code yX4_exchangeRuns prog_6_method_25_code 4 none ∈ TB := tbm 441 (by decide +kernel) rfl
theorem m_442 : Cond.methodLink RX4 83 yX1_exchangeRuns ∈ TB := tbm 442 (by decide +kernel) rfl
theorem m_443 : Cond.instanceMethod yX1_exchangeRuns ∈ TB := tbm 443 (by decide +kernel) rfl
theorem m_444 : Cond.selects RX1 yX1_exchangeRuns yX1_exchangeRuns ∈ TB := tbm 444 (by decide +kernel) rfl
theorem m_445 : Cond.code yX1_exchangeRuns prog_3_method_9_code 4 none ∈ TB := tbm 445 (by decide +kernel) rfl
theorem m_446 : Cond.methodLink RX1 36 yX1_turnAbout ∈ TB := tbm 446 (by decide +kernel) rfl
theorem m_447 : Cond.instanceMethod yX1_turnAbout ∈ TB := tbm 447 (by decide +kernel) rfl
theorem m_448 : Cond.selects RX1 yX1_turnAbout yX1_turnAbout ∈ TB := tbm 448 (by decide +kernel) rfl
theorem m_449 : Cond.code yX1_turnAbout prog_3_method_8_code 6 none ∈ TB := tbm 449 (by decide +kernel) rfl
theorem m_450 : Cond.methodLink RX3 113 yX1_exchangeRuns ∈ TB := tbm 450 (by decide +kernel) rfl
theorem m_451 : Cond.methodLink RX5 133 yX4_turnOf ∈ TB := tbm 451 (by decide +kernel) rfl
theorem m_452 : Cond.instanceMethod yX4_turnOf ∈ TB := tbm 452 (by decide +kernel) rfl
theorem m_453 : Cond.selects RX4 yX4_turnOf yX4_turnOf ∈ TB := tbm 453 (by decide +kernel) rfl
theorem m_454 : Cond.code yX4_turnOf prog_6_method_13_code 5 (Option.some FieldType.int) ∈ TB := tbm 454 (by decide +kernel) rfl
theorem m_455 : Cond.methodLink RX4 52 yX4_above ∈ TB := tbm 455 (by decide +kernel) rfl
theorem m_456 : Cond.methodLink RL 68 yX5_cut ∈ TB := tbm 456 (by decide +kernel) rfl
theorem m_457 : Cond.instanceMethod yX5_cut ∈ TB := tbm 457 (by decide +kernel) rfl
theorem m_458 : Cond.selects RX5 yX5_cut yX5_cut ∈ TB := tbm 458 (by decide +kernel) rfl
theorem m_459 : Cond.code yX5_cut prog_1_method_15_code 1 (Option.some FieldType.int) ∈ TB := tbm 459 (by decide +kernel) rfl
theorem m_460 : Cond.methodLink RX5 139 yX4_takePart ∈ TB := tbm 460 (by decide +kernel) rfl
theorem m_461 : Cond.instanceMethod yX4_takePart ∈ TB := tbm 461 (by decide +kernel) rfl
theorem m_462 : Cond.selects RX4 yX4_takePart yX4_takePart ∈ TB := tbm 462 (by decide +kernel) rfl
theorem m_463 : Cond.code yX4_takePart prog_6_method_27_code 5 none ∈ TB := tbm 463 (by decide +kernel) rfl
theorem m_464 : Cond.methodLink RX4 91 yX4_clear ∈ TB := tbm 464 (by decide +kernel) rfl
theorem m_465 : Cond.instanceMethod yX4_clear ∈ TB := tbm 465 (by decide +kernel) rfl
theorem m_466 : Cond.selects RX4 yX4_clear yX4_clear ∈ TB := tbm 466 (by decide +kernel) rfl
theorem m_467 : Cond.code yX4_clear prog_6_method_21_code 1 none ∈ TB := tbm 467 (by decide +kernel) rfl
theorem m_468 : Cond.methodLink RX4 74 yX1_clear ∈ TB := tbm 468 (by decide +kernel) rfl
theorem m_469 : Cond.methodLink RX4 66 yX4_letterOf ∈ TB := tbm 469 (by decide +kernel) rfl
theorem m_470 : Cond.methodLink RX4 92 yX4_putIn ∈ TB := tbm 470 (by decide +kernel) rfl
theorem m_471 : Cond.methodLink RL 72 yX5_copy ∈ TB := tbm 471 (by decide +kernel) rfl
theorem m_472 : Cond.instanceMethod yX5_copy ∈ TB := tbm 472 (by decide +kernel) rfl
theorem m_473 : Cond.selects RX5 yX5_copy yX5_copy ∈ TB := tbm 473 (by decide +kernel) rfl
theorem m_474 : Cond.code yX5_copy prog_1_method_16_code 1 (Option.some FieldType.int) ∈ TB := tbm 474 (by decide +kernel) rfl
theorem m_475 : Cond.methodLink RL 76 yX5_paste ∈ TB := tbm 475 (by decide +kernel) rfl
theorem m_476 : Cond.instanceMethod yX5_paste ∈ TB := tbm 476 (by decide +kernel) rfl
theorem m_477 : Cond.selects RX5 yX5_paste yX5_paste ∈ TB := tbm 477 (by decide +kernel) rfl
theorem m_478 : Cond.code yX5_paste prog_1_method_17_code 4 (Option.some FieldType.int) ∈ TB := tbm 478 (by decide +kernel) rfl
theorem m_479 : Cond.methodLink RX5 143 yX3_putTreeIn ∈ TB := tbm 479 (by decide +kernel) rfl
theorem m_480 : Cond.instanceMethod yX3_putTreeIn ∈ TB := tbm 480 (by decide +kernel) rfl
theorem m_481 : Cond.selects RX3 yX3_putTreeIn yX3_putTreeIn ∈ TB := tbm 481 (by decide +kernel) rfl
theorem m_482 : Cond.code yX3_putTreeIn prog_5_method_6_code 6 none ∈ TB := tbm 482 (by decide +kernel) rfl
theorem m_483 : Cond.methodLink RX3 71 yX4_size ∈ TB := tbm 483 (by decide +kernel) rfl
theorem m_484 : Cond.methodLink RX3 75 yX4_letterOf ∈ TB := tbm 484 (by decide +kernel) rfl
theorem m_485 : Cond.methodLink RX3 79 yX4_depthOf ∈ TB := tbm 485 (by decide +kernel) rfl
theorem m_486 : Cond.methodLink RX3 82 yX3_putNodeIn ∈ TB := tbm 486 (by decide +kernel) rfl
theorem m_487 : Cond.methodLink RL 80 yX5_mark ∈ TB := tbm 487 (by decide +kernel) rfl
theorem m_488 : Cond.instanceMethod yX5_mark ∈ TB := tbm 488 (by decide +kernel) rfl
theorem m_489 : Cond.selects RX5 yX5_mark yX5_mark ∈ TB := tbm 489 (by decide +kernel) rfl
theorem m_490 : Cond.code yX5_mark prog_1_method_18_code 3 (Option.some FieldType.int) ∈ TB := tbm 490 (by decide +kernel) rfl
theorem m_491 : Cond.methodLink RX5 147 yX5_isMark ∈ TB := tbm 491 (by decide +kernel) rfl
theorem m_492 : Cond.static yX5_isMark ∈ TB := tbm 492 (by decide +kernel) rfl
theorem m_493 : Cond.code yX5_isMark prog_1_method_37_code 1 (Option.some FieldType.boolean) ∈ TB := tbm 493 (by decide +kernel) rfl
theorem m_494 : Cond.methodLink RX5 150 yX3_numberOfMark ∈ TB := tbm 494 (by decide +kernel) rfl
theorem m_495 : Cond.instanceMethod yX3_numberOfMark ∈ TB := tbm 495 (by decide +kernel) rfl
theorem m_496 : Cond.selects RX3 yX3_numberOfMark yX3_numberOfMark ∈ TB := tbm 496 (by decide +kernel) rfl
theorem m_497 : Cond.code yX3_numberOfMark prog_5_method_15_code 2 (Option.some FieldType.int) ∈ TB := tbm 497 (by decide +kernel) rfl
theorem m_498 : Cond.methodLink RX5 153 yX3_putMarkAtPlace ∈ TB := tbm 498 (by decide +kernel) rfl
theorem m_499 : Cond.instanceMethod yX3_putMarkAtPlace ∈ TB := tbm 499 (by decide +kernel) rfl
theorem m_500 : Cond.selects RX3 yX3_putMarkAtPlace yX3_putMarkAtPlace ∈ TB := tbm 500 (by decide +kernel) rfl
theorem m_501 : Cond.code yX3_putMarkAtPlace prog_5_method_16_code 2 none ∈ TB := tbm 501 (by decide +kernel) rfl
theorem m_502 : Cond.methodLink RX3 121 yX1_put ∈ TB := tbm 502 (by decide +kernel) rfl
theorem m_503 : Cond.methodLink RL 84 yX5_goTo ∈ TB := tbm 503 (by decide +kernel) rfl
theorem m_504 : Cond.instanceMethod yX5_goTo ∈ TB := tbm 504 (by decide +kernel) rfl
theorem m_505 : Cond.selects RX5 yX5_goTo yX5_goTo ∈ TB := tbm 505 (by decide +kernel) rfl
theorem m_506 : Cond.code yX5_goTo prog_1_method_19_code 2 (Option.some FieldType.int) ∈ TB := tbm 506 (by decide +kernel) rfl
theorem m_507 : Cond.methodLink RL 88 yX5_nodeOf ∈ TB := tbm 507 (by decide +kernel) rfl
theorem m_508 : Cond.instanceMethod yX5_nodeOf ∈ TB := tbm 508 (by decide +kernel) rfl
theorem m_509 : Cond.selects RX5 yX5_nodeOf yX5_nodeOf ∈ TB := tbm 509 (by decide +kernel) rfl
theorem m_510 : Cond.code yX5_nodeOf prog_1_method_20_code 3 (Option.some FieldType.int) ∈ TB := tbm 510 (by decide +kernel) rfl
theorem m_511 : Cond.methodLink RX5 156 yX5_orNotFound ∈ TB := tbm 511 (by decide +kernel) rfl
theorem m_512 : Cond.static yX5_orNotFound ∈ TB := tbm 512 (by decide +kernel) rfl
theorem m_513 : Cond.code yX5_orNotFound prog_1_method_34_code 1 (Option.some FieldType.int) ∈ TB := tbm 513 (by decide +kernel) rfl
theorem m_514 : Cond.methodLink RX5 159 yX3_marksAt ∈ TB := tbm 514 (by decide +kernel) rfl
theorem m_515 : Cond.instanceMethod yX3_marksAt ∈ TB := tbm 515 (by decide +kernel) rfl
theorem m_516 : Cond.selects RX3 yX3_marksAt yX3_marksAt ∈ TB := tbm 516 (by decide +kernel) rfl
theorem m_517 : Cond.code yX3_marksAt prog_5_method_17_code 4 (Option.some FieldType.int) ∈ TB := tbm 517 (by decide +kernel) rfl
theorem m_518 : Cond.methodLink RX3 124 yX3_numberOfMark ∈ TB := tbm 518 (by decide +kernel) rfl
theorem m_519 : Cond.methodLink RL 92 yX5_spine ∈ TB := tbm 519 (by decide +kernel) rfl
theorem m_520 : Cond.instanceMethod yX5_spine ∈ TB := tbm 520 (by decide +kernel) rfl
theorem m_521 : Cond.selects RX5 yX5_spine yX5_spine ∈ TB := tbm 521 (by decide +kernel) rfl
theorem m_522 : Cond.code yX5_spine prog_1_method_21_code 4 (Option.some FieldType.int) ∈ TB := tbm 522 (by decide +kernel) rfl
theorem m_523 : Cond.methodLink RX5 162 yX4_onSpine ∈ TB := tbm 523 (by decide +kernel) rfl
theorem m_524 : Cond.methodLink RL 96 yX5_marked ∈ TB := tbm 524 (by decide +kernel) rfl
theorem m_525 : Cond.instanceMethod yX5_marked ∈ TB := tbm 525 (by decide +kernel) rfl
theorem m_526 : Cond.selects RX5 yX5_marked yX5_marked ∈ TB := tbm 526 (by decide +kernel) rfl
theorem m_527 : Cond.code yX5_marked prog_1_method_22_code 2 (Option.some FieldType.int) ∈ TB := tbm 527 (by decide +kernel) rfl
theorem m_528 : Cond.methodLink RL 100 yX5_count ∈ TB := tbm 528 (by decide +kernel) rfl
theorem m_529 : Cond.instanceMethod yX5_count ∈ TB := tbm 529 (by decide +kernel) rfl
theorem m_530 : Cond.selects RX5 yX5_count yX5_count ∈ TB := tbm 530 (by decide +kernel) rfl
theorem m_531 : Cond.code yX5_count prog_1_method_23_code 2 (Option.some FieldType.int) ∈ TB := tbm 531 (by decide +kernel) rfl
theorem m_532 : Cond.methodLink RX5 165 yX4_leaves ∈ TB := tbm 532 (by decide +kernel) rfl
theorem m_533 : Cond.instanceMethod yX4_leaves ∈ TB := tbm 533 (by decide +kernel) rfl
theorem m_534 : Cond.selects RX4 yX4_leaves yX4_leaves ∈ TB := tbm 534 (by decide +kernel) rfl
theorem m_535 : Cond.code yX4_leaves prog_6_method_18_code 3 (Option.some FieldType.int) ∈ TB := tbm 535 (by decide +kernel) rfl
theorem m_536 : Cond.methodLink RX5 171 yX1_size ∈ TB := tbm 536 (by decide +kernel) rfl
theorem m_537 : Cond.methodLink RX5 172 yX0_size ∈ TB := tbm 537 (by decide +kernel) rfl
theorem m_538 : Cond.instanceMethod yX0_size ∈ TB := tbm 538 (by decide +kernel) rfl
theorem m_539 : Cond.selects RX0 yX0_size yX0_size ∈ TB := tbm 539 (by decide +kernel) rfl
theorem m_540 : Cond.code yX0_size prog_2_method_2_code 1 (Option.some FieldType.int) ∈ TB := tbm 540 (by decide +kernel) rfl
theorem m_541 : Cond.methodLink RX5 173 yX4_unlikeLetters ∈ TB := tbm 541 (by decide +kernel) rfl
theorem m_542 : Cond.instanceMethod yX4_unlikeLetters ∈ TB := tbm 542 (by decide +kernel) rfl
theorem m_543 : Cond.selects RX4 yX4_unlikeLetters yX4_unlikeLetters ∈ TB := tbm 543 (by decide +kernel) rfl
theorem m_544 : Cond.code yX4_unlikeLetters prog_6_method_19_code 3 (Option.some FieldType.int) ∈ TB := tbm 544 (by decide +kernel) rfl
theorem m_545 : Cond.methodLink RX4 69 yJ6_bitCount_0f7a4 ∈ TB := tbm 545 (by decide +kernel) rfl
theorem m_546 : Cond.static yJ6_bitCount_0f7a4 ∈ TB := tbm 546 (by decide +kernel) rfl
theorem m_547 : Cond.code yJ6_bitCount_0f7a4 prog_9_method_49_code 1 (Option.some FieldType.int) ∈ TB := tbm 547 (by decide +kernel) rfl
theorem m_548 : Cond.constant RJ6 265 (1431655765 : Int32) ∈ TB := tbm 548 (by decide +kernel) rfl
theorem m_549 : Cond.constant RJ6 266 (858993459 : Int32) ∈ TB := tbm 549 (by decide +kernel) rfl
theorem m_550 : Cond.constant RJ6 267 (252645135 : Int32) ∈ TB := tbm 550 (by decide +kernel) rfl
theorem m_551 : Cond.methodLink RL 104 yX5_like ∈ TB := tbm 551 (by decide +kernel) rfl
theorem m_552 : Cond.instanceMethod yX5_like ∈ TB := tbm 552 (by decide +kernel) rfl
theorem m_553 : Cond.selects RX5 yX5_like yX5_like ∈ TB := tbm 553 (by decide +kernel) rfl
theorem m_554 : Cond.code yX5_like prog_1_method_24_code 3 (Option.some FieldType.int) ∈ TB := tbm 554 (by decide +kernel) rfl
theorem m_555 : Cond.methodLink RX5 176 yX4_alike ∈ TB := tbm 555 (by decide +kernel) rfl
theorem m_556 : Cond.instanceMethod yX4_alike ∈ TB := tbm 556 (by decide +kernel) rfl
theorem m_557 : Cond.selects RX4 yX4_alike yX4_alike ∈ TB := tbm 557 (by decide +kernel) rfl
theorem m_558 : Cond.code yX4_alike prog_6_method_20_code 6 (Option.some FieldType.boolean) ∈ TB := tbm 558 (by decide +kernel) rfl
theorem m_559 : Cond.methodLink RL 108 yX5_meet ∈ TB := tbm 559 (by decide +kernel) rfl
theorem m_560 : Cond.instanceMethod yX5_meet ∈ TB := tbm 560 (by decide +kernel) rfl
theorem m_561 : Cond.selects RX5 yX5_meet yX5_meet ∈ TB := tbm 561 (by decide +kernel) rfl
theorem m_562 : Cond.code yX5_meet prog_1_method_25_code 5 (Option.some FieldType.int) ∈ TB := tbm 562 (by decide +kernel) rfl
theorem m_563 : Cond.methodLink RL 112 yX5_find ∈ TB := tbm 563 (by decide +kernel) rfl
theorem m_564 : Cond.instanceMethod yX5_find ∈ TB := tbm 564 (by decide +kernel) rfl
theorem m_565 : Cond.selects RX5 yX5_find yX5_find ∈ TB := tbm 565 (by decide +kernel) rfl
theorem m_566 : Cond.code yX5_find prog_1_method_26_code 3 (Option.some FieldType.int) ∈ TB := tbm 566 (by decide +kernel) rfl
theorem m_567 : Cond.methodLink RL 116 yX5_undo ∈ TB := tbm 567 (by decide +kernel) rfl
theorem m_568 : Cond.instanceMethod yX5_undo ∈ TB := tbm 568 (by decide +kernel) rfl
theorem m_569 : Cond.selects RX5 yX5_undo yX5_undo ∈ TB := tbm 569 (by decide +kernel) rfl
theorem m_570 : Cond.code yX5_undo prog_1_method_27_code 1 (Option.some FieldType.int) ∈ TB := tbm 570 (by decide +kernel) rfl
theorem m_571 : Cond.methodLink RX5 180 yX0_restore ∈ TB := tbm 571 (by decide +kernel) rfl
theorem m_572 : Cond.instanceMethod yX0_restore ∈ TB := tbm 572 (by decide +kernel) rfl
theorem m_573 : Cond.selects RX0 yX0_restore yX0_restore ∈ TB := tbm 573 (by decide +kernel) rfl
theorem m_574 : Cond.code yX0_restore prog_2_method_4_code 3 none ∈ TB := tbm 574 (by decide +kernel) rfl
theorem m_575 : Cond.methodLink RL 120 yX5_type ∈ TB := tbm 575 (by decide +kernel) rfl
theorem m_576 : Cond.instanceMethod yX5_type ∈ TB := tbm 576 (by decide +kernel) rfl
theorem m_577 : Cond.selects RX5 yX5_type yX5_type ∈ TB := tbm 577 (by decide +kernel) rfl
theorem m_578 : Cond.code yX5_type prog_1_method_28_code 2 (Option.some FieldType.int) ∈ TB := tbm 578 (by decide +kernel) rfl
theorem m_579 : Cond.methodLink RX5 183 yX1_add ∈ TB := tbm 579 (by decide +kernel) rfl
theorem m_580 : Cond.methodLink RL 124 yX5_clearText ∈ TB := tbm 580 (by decide +kernel) rfl
theorem m_581 : Cond.instanceMethod yX5_clearText ∈ TB := tbm 581 (by decide +kernel) rfl
theorem m_582 : Cond.selects RX5 yX5_clearText yX5_clearText ∈ TB := tbm 582 (by decide +kernel) rfl
theorem m_583 : Cond.code yX5_clearText prog_1_method_29_code 2 (Option.some FieldType.int) ∈ TB := tbm 583 (by decide +kernel) rfl
theorem m_584 : Cond.methodLink RX5 186 yX1_clear ∈ TB := tbm 584 (by decide +kernel) rfl
theorem m_585 : Cond.methodLink RL 128 yX5_write ∈ TB := tbm 585 (by decide +kernel) rfl
theorem m_586 : Cond.instanceMethod yX5_write ∈ TB := tbm 586 (by decide +kernel) rfl
theorem m_587 : Cond.selects RX5 yX5_write yX5_write ∈ TB := tbm 587 (by decide +kernel) rfl
theorem m_588 : Cond.code yX5_write prog_1_method_30_code 1 (Option.some FieldType.int) ∈ TB := tbm 588 (by decide +kernel) rfl
theorem m_589 : Cond.methodLink RX5 189 yX4_appendTo ∈ TB := tbm 589 (by decide +kernel) rfl
theorem m_590 : Cond.instanceMethod yX4_appendTo ∈ TB := tbm 590 (by decide +kernel) rfl
theorem m_591 : Cond.selects RX4 yX4_appendTo yX4_appendTo ∈ TB := tbm 591 (by decide +kernel) rfl
theorem m_592 : Cond.code yX4_appendTo prog_6_method_28_code 4 none ∈ TB := tbm 592 (by decide +kernel) rfl
theorem m_593 : Cond.methodLink RX4 94 yX1_add ∈ TB := tbm 593 (by decide +kernel) rfl
theorem m_594 : Cond.methodLink RX4 97 yX4_appendClosings ∈ TB := tbm 594 (by decide +kernel) rfl
theorem m_595 : Cond.static yX4_appendClosings ∈ TB := tbm 595 (by decide +kernel) rfl
theorem m_596 : Cond.code yX4_appendClosings prog_6_method_29_code 3 none ∈ TB := tbm 596 (by decide +kernel) rfl
theorem m_597 : Cond.methodLink RL 132 yX5_fault ∈ TB := tbm 597 (by decide +kernel) rfl
theorem m_598 : Cond.instanceMethod yX5_fault ∈ TB := tbm 598 (by decide +kernel) rfl
theorem m_599 : Cond.selects RX5 yX5_fault yX5_fault ∈ TB := tbm 599 (by decide +kernel) rfl
theorem m_600 : Cond.code yX5_fault prog_1_method_31_code 2 (Option.some FieldType.int) ∈ TB := tbm 600 (by decide +kernel) rfl
theorem m_601 : Cond.methodLink RX5 193 yX2_passOver ∈ TB := tbm 601 (by decide +kernel) rfl
theorem m_602 : Cond.instanceMethod yX2_passOver ∈ TB := tbm 602 (by decide +kernel) rfl
theorem m_603 : Cond.selects RX2 yX2_passOver yX2_passOver ∈ TB := tbm 603 (by decide +kernel) rfl
theorem m_604 : Cond.code yX2_passOver prog_4_method_2_code 3 none ∈ TB := tbm 604 (by decide +kernel) rfl
theorem m_605 : Cond.methodLink RX2 27 yX4_clear ∈ TB := tbm 605 (by decide +kernel) rfl
theorem m_606 : Cond.methodLink RX2 30 yX1_clear ∈ TB := tbm 606 (by decide +kernel) rfl
theorem m_607 : Cond.methodLink RX2 39 yX1_size ∈ TB := tbm 607 (by decide +kernel) rfl
theorem m_608 : Cond.methodLink RX2 46 yX1_at ∈ TB := tbm 608 (by decide +kernel) rfl
theorem m_609 : Cond.methodLink RX2 50 yX2_reasonAgainst ∈ TB := tbm 609 (by decide +kernel) rfl
theorem m_611 : Cond.instanceMethod yX2_reasonAgainst ∈ TB := tbm 611 (by decide +kernel) rfl
theorem m_612 : Cond.code yX2_reasonAgainst prog_4_method_3_code 2 (Option.some FieldType.int) ∈ TB := tbm 612 (by decide +kernel) rfl
theorem m_613 : Cond.methodLink RX2 53 yX2_passLetter ∈ TB := tbm 613 (by decide +kernel) rfl
theorem m_615 : Cond.instanceMethod yX2_passLetter ∈ TB := tbm 615 (by decide +kernel) rfl
theorem m_616 : Cond.code yX2_passLetter prog_4_method_4_code 3 (Option.some FieldType.int) ∈ TB := tbm 616 (by decide +kernel) rfl
theorem m_617 : Cond.methodLinkNest RX2 65 yX5_isLetter RX5 ∈ lw_tbl := List.mem_of_getElem? (i := 617) (by decide +kernel)
theorem m_618 : Cond.methodLink RX2 69 yX4_size ∈ TB := tbm 618 (by decide +kernel) rfl
theorem m_619 : Cond.methodLink RX2 70 yX4_putIn ∈ TB := tbm 619 (by decide +kernel) rfl
theorem m_620 : Cond.methodLink RX2 74 yX1_put ∈ TB := tbm 620 (by decide +kernel) rfl
theorem m_621 : Cond.methodLink RX2 56 yX2_passOpening ∈ TB := tbm 621 (by decide +kernel) rfl
theorem m_623 : Cond.instanceMethod yX2_passOpening ∈ TB := tbm 623 (by decide +kernel) rfl
theorem m_624 : Cond.code yX2_passOpening prog_4_method_5_code 1 (Option.some FieldType.int) ∈ TB := tbm 624 (by decide +kernel) rfl
theorem m_625 : Cond.methodLink RX2 81 yX1_add ∈ TB := tbm 625 (by decide +kernel) rfl
theorem m_626 : Cond.methodLink RX2 59 yX2_passComma ∈ TB := tbm 626 (by decide +kernel) rfl
theorem m_628 : Cond.instanceMethod yX2_passComma ∈ TB := tbm 628 (by decide +kernel) rfl
theorem m_629 : Cond.code yX2_passComma prog_4_method_6_code 1 (Option.some FieldType.int) ∈ TB := tbm 629 (by decide +kernel) rfl
theorem m_630 : Cond.methodLink RX2 62 yX2_passClosing ∈ TB := tbm 630 (by decide +kernel) rfl
theorem m_632 : Cond.instanceMethod yX2_passClosing ∈ TB := tbm 632 (by decide +kernel) rfl
theorem m_633 : Cond.code yX2_passClosing prog_4_method_7_code 1 (Option.some FieldType.int) ∈ TB := tbm 633 (by decide +kernel) rfl
theorem m_634 : Cond.methodLink RX2 84 yX1_takeOut ∈ TB := tbm 634 (by decide +kernel) rfl
theorem m_635 : Cond.methodLink RL 136 yX5_read ∈ TB := tbm 635 (by decide +kernel) rfl
theorem m_636 : Cond.instanceMethod yX5_read ∈ TB := tbm 636 (by decide +kernel) rfl
theorem m_637 : Cond.selects RX5 yX5_read yX5_read ∈ TB := tbm 637 (by decide +kernel) rfl
theorem m_638 : Cond.code yX5_read prog_1_method_32_code 1 (Option.some FieldType.int) ∈ TB := tbm 638 (by decide +kernel) rfl
theorem m_639 : Cond.methodLink RX5 203 yX3_beginWith ∈ TB := tbm 639 (by decide +kernel) rfl
theorem m_640 : Cond.instanceMethod yX3_beginWith ∈ TB := tbm 640 (by decide +kernel) rfl
theorem m_641 : Cond.selects RX3 yX3_beginWith yX3_beginWith ∈ TB := tbm 641 (by decide +kernel) rfl
theorem m_642 : Cond.code yX3_beginWith prog_5_method_3_code 2 none ∈ TB := tbm 642 (by decide +kernel) rfl
theorem m_643 : Cond.methodLink RX3 53 yX4_clear ∈ TB := tbm 643 (by decide +kernel) rfl
theorem m_644 : Cond.methodLink RX3 57 yX3_putTreeIn ∈ TB := tbm 644 (by decide +kernel) rfl
theorem m_645 : Cond.classLink RL 10 RX6 ∈ TB := tbm 645 (by decide +kernel) rfl
theorem m_646 : Cond.instantiable RX6 12 ∈ TB := tbm 646 (by decide +kernel) rfl
theorem m_647 : Cond.methodLink RL 12 yX6_init ∈ TB := tbm 647 (by decide +kernel) rfl
theorem m_648 : Cond.instanceMethod yX6_init ∈ TB := tbm 648 (by decide +kernel) rfl
theorem m_649 : Cond.code yX6_init prog_8_method_1_code 2 none ∈ TB := tbm 649 (by decide +kernel) rfl
theorem m_650 : Cond.methodLink RX6 1 objectInit ∈ TB := tbm 650 (by decide +kernel) rfl
theorem m_651 : Cond.fieldLink RX6 7 RX6 "s" "[I" ∈ TB := tbm 651 (by decide +kernel) rfl
theorem m_652 : Cond.fieldLink RX6 13 RX6 "begun" "[I" ∈ TB := tbm 652 (by decide +kernel) rfl
theorem m_653 : Cond.fieldLink RX6 16 RX6 "past" "[I" ∈ TB := tbm 653 (by decide +kernel) rfl
theorem m_654 : Cond.fieldLink RX6 31 RX6 "states" "I" ∈ TB := tbm 654 (by decide +kernel) rfl
theorem m_655 : Cond.fieldLink RX6 19 RX6 "aside" "[I" ∈ TB := tbm 655 (by decide +kernel) rfl
theorem m_656 : Cond.fieldLink RX6 22 RX6 "text" "[I" ∈ TB := tbm 656 (by decide +kernel) rfl
theorem m_657 : Cond.fieldLink RX6 130 RX6 "length" "I" ∈ TB := tbm 657 (by decide +kernel) rfl
theorem m_658 : Cond.fieldLink RX6 144 RX6 "place1" "I" ∈ TB := tbm 658 (by decide +kernel) rfl
theorem m_659 : Cond.fieldLink RX6 147 RX6 "reason" "I" ∈ TB := tbm 659 (by decide +kernel) rfl
theorem m_660 : Cond.fieldLink RX6 150 RX6 "tolds" "I" ∈ TB := tbm 660 (by decide +kernel) rfl
theorem m_661 : Cond.fieldLink RX6 25 RX6 "told" "[I" ∈ TB := tbm 661 (by decide +kernel) rfl
theorem m_662 : Cond.fieldLink RX6 28 RX6 "rows" "[I" ∈ TB := tbm 662 (by decide +kernel) rfl
theorem m_663 : Cond.laysFinal RX6 RX6 "s" "[I" ∈ TB := tbm 663 (by decide +kernel) rfl
theorem m_665 : Cond.laysFinal RX6 RX6 "begun" "[I" ∈ TB := tbm 665 (by decide +kernel) rfl
theorem m_667 : Cond.laysFinal RX6 RX6 "past" "[I" ∈ TB := tbm 667 (by decide +kernel) rfl
theorem m_669 : Cond.lays RX6 RX6 "states" "I" ∈ TB := tbm 669 (by decide +kernel) rfl
theorem m_671 : Cond.laysFinal RX6 RX6 "aside" "[I" ∈ TB := tbm 671 (by decide +kernel) rfl
theorem m_673 : Cond.laysFinal RX6 RX6 "text" "[I" ∈ TB := tbm 673 (by decide +kernel) rfl
theorem m_675 : Cond.lays RX6 RX6 "length" "I" ∈ TB := tbm 675 (by decide +kernel) rfl
theorem m_677 : Cond.lays RX6 RX6 "place1" "I" ∈ TB := tbm 677 (by decide +kernel) rfl
theorem m_679 : Cond.lays RX6 RX6 "reason" "I" ∈ TB := tbm 679 (by decide +kernel) rfl
theorem m_681 : Cond.lays RX6 RX6 "tolds" "I" ∈ TB := tbm 681 (by decide +kernel) rfl
theorem m_683 : Cond.laysFinal RX6 RX6 "told" "[I" ∈ TB := tbm 683 (by decide +kernel) rfl
theorem m_685 : Cond.laysFinal RX6 RX6 "rows" "[I" ∈ TB := tbm 685 (by decide +kernel) rfl
theorem m_688 : Cond.methodLink RL 17 yX6_down ∈ TB := tbm 688 (by decide +kernel) rfl
theorem m_689 : Cond.instanceMethod yX6_down ∈ TB := tbm 689 (by decide +kernel) rfl
theorem m_690 : Cond.selects RX6 yX6_down yX6_down ∈ TB := tbm 690 (by decide +kernel) rfl
theorem m_691 : Cond.code yX6_down prog_8_method_24_code 3 (Option.some FieldType.int) ∈ TB := tbm 691 (by decide +kernel) rfl
theorem m_692 : Cond.methodLink RX6 55 yX6_begins ∈ TB := tbm 692 (by decide +kernel) rfl
theorem m_694 : Cond.instanceMethod yX6_begins ∈ TB := tbm 694 (by decide +kernel) rfl
theorem m_695 : Cond.code yX6_begins prog_8_method_4_code 2 none ∈ TB := tbm 695 (by decide +kernel) rfl
theorem m_696 : Cond.methodLink RX6 58 yX6_place ∈ TB := tbm 696 (by decide +kernel) rfl
theorem m_698 : Cond.instanceMethod yX6_place ∈ TB := tbm 698 (by decide +kernel) rfl
theorem m_699 : Cond.code yX6_place prog_8_method_11_code 1 (Option.some FieldType.int) ∈ TB := tbm 699 (by decide +kernel) rfl
theorem m_700 : Cond.methodLink RX6 43 yX6_numberOf ∈ TB := tbm 700 (by decide +kernel) rfl
theorem m_702 : Cond.instanceMethod yX6_numberOf ∈ TB := tbm 702 (by decide +kernel) rfl
theorem m_703 : Cond.code yX6_numberOf prog_8_method_10_code 4 (Option.some FieldType.int) ∈ TB := tbm 703 (by decide +kernel) rfl
theorem m_704 : Cond.methodLink RX6 39 yX6_own ∈ TB := tbm 704 (by decide +kernel) rfl
theorem m_706 : Cond.instanceMethod yX6_own ∈ TB := tbm 706 (by decide +kernel) rfl
theorem m_707 : Cond.code yX6_own prog_8_method_8_code 2 (Option.some FieldType.int) ∈ TB := tbm 707 (by decide +kernel) rfl
theorem m_708 : Cond.methodLink RX6 62 yX6_children ∈ TB := tbm 708 (by decide +kernel) rfl
theorem m_710 : Cond.instanceMethod yX6_children ∈ TB := tbm 710 (by decide +kernel) rfl
theorem m_711 : Cond.code yX6_children prog_8_method_14_code 4 (Option.some FieldType.int) ∈ TB := tbm 711 (by decide +kernel) rfl
theorem m_712 : Cond.methodLink RX6 49 yX6_end ∈ TB := tbm 712 (by decide +kernel) rfl
theorem m_714 : Cond.instanceMethod yX6_end ∈ TB := tbm 714 (by decide +kernel) rfl
theorem m_715 : Cond.code yX6_end prog_8_method_12_code 3 (Option.some FieldType.int) ∈ TB := tbm 715 (by decide +kernel) rfl
theorem m_716 : Cond.methodLink RX6 46 yX6_deep ∈ TB := tbm 716 (by decide +kernel) rfl
theorem m_718 : Cond.instanceMethod yX6_deep ∈ TB := tbm 718 (by decide +kernel) rfl
theorem m_719 : Cond.code yX6_deep prog_8_method_7_code 2 (Option.some FieldType.int) ∈ TB := tbm 719 (by decide +kernel) rfl
theorem m_720 : Cond.methodLink RX6 65 yX6_childOf ∈ TB := tbm 720 (by decide +kernel) rfl
theorem m_722 : Cond.instanceMethod yX6_childOf ∈ TB := tbm 722 (by decide +kernel) rfl
theorem m_723 : Cond.code yX6_childOf prog_8_method_15_code 5 (Option.some FieldType.int) ∈ TB := tbm 723 (by decide +kernel) rfl
theorem m_724 : Cond.methodLink RX6 69 yX6_walks ∈ TB := tbm 724 (by decide +kernel) rfl
theorem m_726 : Cond.instanceMethod yX6_walks ∈ TB := tbm 726 (by decide +kernel) rfl
theorem m_727 : Cond.code yX6_walks prog_8_method_23_code 3 (Option.some FieldType.int) ∈ TB := tbm 727 (by decide +kernel) rfl
theorem m_728 : Cond.methodLink RX6 72 yX6_acted ∈ TB := tbm 728 (by decide +kernel) rfl
theorem m_730 : Cond.instanceMethod yX6_acted ∈ TB := tbm 730 (by decide +kernel) rfl
theorem m_731 : Cond.code yX6_acted prog_8_method_5_code 3 (Option.some FieldType.int) ∈ TB := tbm 731 (by decide +kernel) rfl
theorem m_732 : Cond.methodLink RL 22 yX6_up ∈ TB := tbm 732 (by decide +kernel) rfl
theorem m_733 : Cond.instanceMethod yX6_up ∈ TB := tbm 733 (by decide +kernel) rfl
theorem m_734 : Cond.selects RX6 yX6_up yX6_up ∈ TB := tbm 734 (by decide +kernel) rfl
theorem m_735 : Cond.code yX6_up prog_8_method_25_code 2 (Option.some FieldType.int) ∈ TB := tbm 735 (by decide +kernel) rfl
theorem m_736 : Cond.methodLink RX6 52 yX6_above ∈ TB := tbm 736 (by decide +kernel) rfl
theorem m_738 : Cond.instanceMethod yX6_above ∈ TB := tbm 738 (by decide +kernel) rfl
theorem m_739 : Cond.code yX6_above prog_8_method_13_code 3 (Option.some FieldType.int) ∈ TB := tbm 739 (by decide +kernel) rfl
theorem m_740 : Cond.methodLink RL 26 yX6_side ∈ TB := tbm 740 (by decide +kernel) rfl
theorem m_741 : Cond.instanceMethod yX6_side ∈ TB := tbm 741 (by decide +kernel) rfl
theorem m_742 : Cond.selects RX6 yX6_side yX6_side ∈ TB := tbm 742 (by decide +kernel) rfl
theorem m_743 : Cond.code yX6_side prog_8_method_26_code 3 (Option.some FieldType.int) ∈ TB := tbm 743 (by decide +kernel) rfl
theorem m_744 : Cond.methodLink RX6 35 yX6_in ∈ TB := tbm 744 (by decide +kernel) rfl
theorem m_745 : Cond.static yX6_in ∈ TB := tbm 745 (by decide +kernel) rfl
theorem m_746 : Cond.code yX6_in prog_8_method_3_code 3 (Option.some FieldType.boolean) ∈ TB := tbm 746 (by decide +kernel) rfl
theorem m_747 : Cond.methodLink RX6 75 yX6_besides ∈ TB := tbm 747 (by decide +kernel) rfl
theorem m_749 : Cond.instanceMethod yX6_besides ∈ TB := tbm 749 (by decide +kernel) rfl
theorem m_750 : Cond.code yX6_besides prog_8_method_17_code 5 (Option.some FieldType.int) ∈ TB := tbm 750 (by decide +kernel) rfl
theorem m_751 : Cond.methodLink RL 30 yX6_step ∈ TB := tbm 751 (by decide +kernel) rfl
theorem m_752 : Cond.instanceMethod yX6_step ∈ TB := tbm 752 (by decide +kernel) rfl
theorem m_753 : Cond.selects RX6 yX6_step yX6_step ∈ TB := tbm 753 (by decide +kernel) rfl
theorem m_754 : Cond.code yX6_step prog_8_method_27_code 3 (Option.some FieldType.int) ∈ TB := tbm 754 (by decide +kernel) rfl
theorem m_755 : Cond.methodLink RX6 79 yX6_isNode ∈ TB := tbm 755 (by decide +kernel) rfl
theorem m_757 : Cond.instanceMethod yX6_isNode ∈ TB := tbm 757 (by decide +kernel) rfl
theorem m_758 : Cond.code yX6_isNode prog_8_method_9_code 2 (Option.some FieldType.boolean) ∈ TB := tbm 758 (by decide +kernel) rfl
theorem m_759 : Cond.methodLink RL 34 yX6_top ∈ TB := tbm 759 (by decide +kernel) rfl
theorem m_760 : Cond.instanceMethod yX6_top ∈ TB := tbm 760 (by decide +kernel) rfl
theorem m_761 : Cond.selects RX6 yX6_top yX6_top ∈ TB := tbm 761 (by decide +kernel) rfl
theorem m_762 : Cond.code yX6_top prog_8_method_28_code 3 (Option.some FieldType.int) ∈ TB := tbm 762 (by decide +kernel) rfl
theorem m_763 : Cond.methodLink RL 38 yX6_back ∈ TB := tbm 763 (by decide +kernel) rfl
theorem m_764 : Cond.instanceMethod yX6_back ∈ TB := tbm 764 (by decide +kernel) rfl
theorem m_765 : Cond.selects RX6 yX6_back yX6_back ∈ TB := tbm 765 (by decide +kernel) rfl
theorem m_766 : Cond.code yX6_back prog_8_method_29_code 3 (Option.some FieldType.int) ∈ TB := tbm 766 (by decide +kernel) rfl
theorem m_767 : Cond.methodLink RL 42 yX6_letter ∈ TB := tbm 767 (by decide +kernel) rfl
theorem m_768 : Cond.instanceMethod yX6_letter ∈ TB := tbm 768 (by decide +kernel) rfl
theorem m_769 : Cond.selects RX6 yX6_letter yX6_letter ∈ TB := tbm 769 (by decide +kernel) rfl
theorem m_770 : Cond.code yX6_letter prog_8_method_30_code 4 (Option.some FieldType.int) ∈ TB := tbm 770 (by decide +kernel) rfl
theorem m_771 : Cond.methodLink RX6 83 yX6_sign ∈ TB := tbm 771 (by decide +kernel) rfl
theorem m_773 : Cond.instanceMethod yX6_sign ∈ TB := tbm 773 (by decide +kernel) rfl
theorem m_774 : Cond.code yX6_sign prog_8_method_6_code 2 (Option.some FieldType.int) ∈ TB := tbm 774 (by decide +kernel) rfl
theorem m_775 : Cond.methodLink RL 47 yX6_child ∈ TB := tbm 775 (by decide +kernel) rfl
theorem m_776 : Cond.instanceMethod yX6_child ∈ TB := tbm 776 (by decide +kernel) rfl
theorem m_777 : Cond.selects RX6 yX6_child yX6_child ∈ TB := tbm 777 (by decide +kernel) rfl
theorem m_778 : Cond.code yX6_child prog_8_method_31_code 5 (Option.some FieldType.int) ∈ TB := tbm 778 (by decide +kernel) rfl
theorem m_779 : Cond.methodLink RX6 86 yX6_opens ∈ TB := tbm 779 (by decide +kernel) rfl
theorem m_781 : Cond.instanceMethod yX6_opens ∈ TB := tbm 781 (by decide +kernel) rfl
theorem m_782 : Cond.code yX6_opens prog_8_method_19_code 4 none ∈ TB := tbm 782 (by decide +kernel) rfl
theorem m_783 : Cond.methodLink RX6 90 yX6_lays ∈ TB := tbm 783 (by decide +kernel) rfl
theorem m_785 : Cond.instanceMethod yX6_lays ∈ TB := tbm 785 (by decide +kernel) rfl
theorem m_786 : Cond.code yX6_lays prog_8_method_21_code 4 none ∈ TB := tbm 786 (by decide +kernel) rfl
theorem m_787 : Cond.methodLink RL 51 yX6_beside ∈ TB := tbm 787 (by decide +kernel) rfl
theorem m_788 : Cond.instanceMethod yX6_beside ∈ TB := tbm 788 (by decide +kernel) rfl
theorem m_789 : Cond.selects RX6 yX6_beside yX6_beside ∈ TB := tbm 789 (by decide +kernel) rfl
theorem m_790 : Cond.code yX6_beside prog_8_method_32_code 7 (Option.some FieldType.int) ∈ TB := tbm 790 (by decide +kernel) rfl
theorem m_791 : Cond.methodLink RL 55 yX6_delete ∈ TB := tbm 791 (by decide +kernel) rfl
theorem m_792 : Cond.instanceMethod yX6_delete ∈ TB := tbm 792 (by decide +kernel) rfl
theorem m_793 : Cond.selects RX6 yX6_delete yX6_delete ∈ TB := tbm 793 (by decide +kernel) rfl
theorem m_794 : Cond.code yX6_delete prog_8_method_36_code 2 (Option.some FieldType.int) ∈ TB := tbm 794 (by decide +kernel) rfl
theorem m_795 : Cond.methodLink RX6 97 yX6_goes ∈ TB := tbm 795 (by decide +kernel) rfl
theorem m_797 : Cond.instanceMethod yX6_goes ∈ TB := tbm 797 (by decide +kernel) rfl
theorem m_798 : Cond.code yX6_goes prog_8_method_33_code 4 (Option.some FieldType.int) ∈ TB := tbm 798 (by decide +kernel) rfl
theorem m_799 : Cond.methodLink RX6 94 yX6_closes ∈ TB := tbm 799 (by decide +kernel) rfl
theorem m_801 : Cond.instanceMethod yX6_closes ∈ TB := tbm 801 (by decide +kernel) rfl
theorem m_802 : Cond.code yX6_closes prog_8_method_20_code 4 none ∈ TB := tbm 802 (by decide +kernel) rfl
theorem m_803 : Cond.methodLink RX6 100 yX6_forgets ∈ TB := tbm 803 (by decide +kernel) rfl
theorem m_805 : Cond.instanceMethod yX6_forgets ∈ TB := tbm 805 (by decide +kernel) rfl
theorem m_806 : Cond.code yX6_forgets prog_8_method_35_code 2 none ∈ TB := tbm 806 (by decide +kernel) rfl
theorem m_807 : Cond.methodLink RL 71 yX6_cut ∈ TB := tbm 807 (by decide +kernel) rfl
theorem m_808 : Cond.instanceMethod yX6_cut ∈ TB := tbm 808 (by decide +kernel) rfl
theorem m_809 : Cond.selects RX6 yX6_cut yX6_cut ∈ TB := tbm 809 (by decide +kernel) rfl
theorem m_810 : Cond.code yX6_cut prog_8_method_37_code 2 (Option.some FieldType.int) ∈ TB := tbm 810 (by decide +kernel) rfl
theorem m_811 : Cond.methodLink RX6 103 yX6_clips ∈ TB := tbm 811 (by decide +kernel) rfl
theorem m_813 : Cond.instanceMethod yX6_clips ∈ TB := tbm 813 (by decide +kernel) rfl
theorem m_814 : Cond.code yX6_clips prog_8_method_34_code 3 none ∈ TB := tbm 814 (by decide +kernel) rfl
theorem m_815 : Cond.methodLink RL 75 yX6_copy ∈ TB := tbm 815 (by decide +kernel) rfl
theorem m_816 : Cond.instanceMethod yX6_copy ∈ TB := tbm 816 (by decide +kernel) rfl
theorem m_817 : Cond.selects RX6 yX6_copy yX6_copy ∈ TB := tbm 817 (by decide +kernel) rfl
theorem m_818 : Cond.code yX6_copy prog_8_method_38_code 1 (Option.some FieldType.int) ∈ TB := tbm 818 (by decide +kernel) rfl
theorem m_819 : Cond.methodLink RL 59 yX6_wrap ∈ TB := tbm 819 (by decide +kernel) rfl
theorem m_820 : Cond.instanceMethod yX6_wrap ∈ TB := tbm 820 (by decide +kernel) rfl
theorem m_821 : Cond.selects RX6 yX6_wrap yX6_wrap ∈ TB := tbm 821 (by decide +kernel) rfl
theorem m_822 : Cond.code yX6_wrap prog_8_method_39_code 4 (Option.some FieldType.int) ∈ TB := tbm 822 (by decide +kernel) rfl
theorem m_823 : Cond.methodLink RX6 106 yX6_height ∈ TB := tbm 823 (by decide +kernel) rfl
theorem m_825 : Cond.instanceMethod yX6_height ∈ TB := tbm 825 (by decide +kernel) rfl
theorem m_826 : Cond.code yX6_height prog_8_method_18_code 4 (Option.some FieldType.int) ∈ TB := tbm 826 (by decide +kernel) rfl
theorem m_827 : Cond.methodLink RX6 109 yX6_sinks ∈ TB := tbm 827 (by decide +kernel) rfl
theorem m_829 : Cond.instanceMethod yX6_sinks ∈ TB := tbm 829 (by decide +kernel) rfl
theorem m_830 : Cond.code yX6_sinks prog_8_method_22_code 5 none ∈ TB := tbm 830 (by decide +kernel) rfl
theorem m_831 : Cond.methodLink RL 63 yX6_lift ∈ TB := tbm 831 (by decide +kernel) rfl
theorem m_832 : Cond.instanceMethod yX6_lift ∈ TB := tbm 832 (by decide +kernel) rfl
theorem m_833 : Cond.selects RX6 yX6_lift yX6_lift ∈ TB := tbm 833 (by decide +kernel) rfl
theorem m_834 : Cond.code yX6_lift prog_8_method_40_code 5 (Option.some FieldType.int) ∈ TB := tbm 834 (by decide +kernel) rfl
theorem m_835 : Cond.methodLink RL 67 yX6_exchange ∈ TB := tbm 835 (by decide +kernel) rfl
theorem m_836 : Cond.instanceMethod yX6_exchange ∈ TB := tbm 836 (by decide +kernel) rfl
theorem m_837 : Cond.selects RX6 yX6_exchange yX6_exchange ∈ TB := tbm 837 (by decide +kernel) rfl
theorem m_838 : Cond.code yX6_exchange prog_8_method_42_code 4 (Option.some FieldType.int) ∈ TB := tbm 838 (by decide +kernel) rfl
theorem m_839 : Cond.methodLink RX6 112 yX6_swaps ∈ TB := tbm 839 (by decide +kernel) rfl
theorem m_841 : Cond.instanceMethod yX6_swaps ∈ TB := tbm 841 (by decide +kernel) rfl
theorem m_842 : Cond.code yX6_swaps prog_8_method_41_code 6 none ∈ TB := tbm 842 (by decide +kernel) rfl
theorem m_843 : Cond.methodLink RX6 115 yX6_which ∈ TB := tbm 843 (by decide +kernel) rfl
theorem m_845 : Cond.instanceMethod yX6_which ∈ TB := tbm 845 (by decide +kernel) rfl
theorem m_846 : Cond.code yX6_which prog_8_method_16_code 4 (Option.some FieldType.int) ∈ TB := tbm 846 (by decide +kernel) rfl
theorem m_847 : Cond.methodLink RL 79 yX6_paste ∈ TB := tbm 847 (by decide +kernel) rfl
theorem m_848 : Cond.instanceMethod yX6_paste ∈ TB := tbm 848 (by decide +kernel) rfl
theorem m_849 : Cond.selects RX6 yX6_paste yX6_paste ∈ TB := tbm 849 (by decide +kernel) rfl
theorem m_850 : Cond.code yX6_paste prog_8_method_44_code 6 (Option.some FieldType.int) ∈ TB := tbm 850 (by decide +kernel) rfl
theorem m_851 : Cond.methodLink RX6 118 yX6_clipHeight ∈ TB := tbm 851 (by decide +kernel) rfl
theorem m_853 : Cond.instanceMethod yX6_clipHeight ∈ TB := tbm 853 (by decide +kernel) rfl
theorem m_854 : Cond.code yX6_clipHeight prog_8_method_43_code 3 (Option.some FieldType.int) ∈ TB := tbm 854 (by decide +kernel) rfl
theorem m_855 : Cond.methodLink RL 83 yX6_mark ∈ TB := tbm 855 (by decide +kernel) rfl
theorem m_856 : Cond.instanceMethod yX6_mark ∈ TB := tbm 856 (by decide +kernel) rfl
theorem m_857 : Cond.selects RX6 yX6_mark yX6_mark ∈ TB := tbm 857 (by decide +kernel) rfl
theorem m_858 : Cond.code yX6_mark prog_8_method_45_code 3 (Option.some FieldType.int) ∈ TB := tbm 858 (by decide +kernel) rfl
theorem m_859 : Cond.methodLink RL 87 yX6_goTo ∈ TB := tbm 859 (by decide +kernel) rfl
theorem m_860 : Cond.instanceMethod yX6_goTo ∈ TB := tbm 860 (by decide +kernel) rfl
theorem m_861 : Cond.selects RX6 yX6_goTo yX6_goTo ∈ TB := tbm 861 (by decide +kernel) rfl
theorem m_862 : Cond.code yX6_goTo prog_8_method_46_code 3 (Option.some FieldType.int) ∈ TB := tbm 862 (by decide +kernel) rfl
theorem m_863 : Cond.methodLink RL 91 yX6_nodeOf ∈ TB := tbm 863 (by decide +kernel) rfl
theorem m_864 : Cond.instanceMethod yX6_nodeOf ∈ TB := tbm 864 (by decide +kernel) rfl
theorem m_865 : Cond.selects RX6 yX6_nodeOf yX6_nodeOf ∈ TB := tbm 865 (by decide +kernel) rfl
theorem m_866 : Cond.code yX6_nodeOf prog_8_method_49_code 3 (Option.some FieldType.int) ∈ TB := tbm 866 (by decide +kernel) rfl
theorem m_867 : Cond.methodLink RX6 121 yX6_orNone ∈ TB := tbm 867 (by decide +kernel) rfl
theorem m_868 : Cond.static yX6_orNone ∈ TB := tbm 868 (by decide +kernel) rfl
theorem m_869 : Cond.code yX6_orNone prog_8_method_47_code 1 (Option.some FieldType.int) ∈ TB := tbm 869 (by decide +kernel) rfl
theorem m_870 : Cond.methodLink RX6 124 yX6_marksAt ∈ TB := tbm 870 (by decide +kernel) rfl
theorem m_872 : Cond.instanceMethod yX6_marksAt ∈ TB := tbm 872 (by decide +kernel) rfl
theorem m_873 : Cond.code yX6_marksAt prog_8_method_48_code 4 (Option.some FieldType.int) ∈ TB := tbm 873 (by decide +kernel) rfl
theorem m_874 : Cond.methodLink RL 95 yX6_spine ∈ TB := tbm 874 (by decide +kernel) rfl
theorem m_875 : Cond.instanceMethod yX6_spine ∈ TB := tbm 875 (by decide +kernel) rfl
theorem m_876 : Cond.selects RX6 yX6_spine yX6_spine ∈ TB := tbm 876 (by decide +kernel) rfl
theorem m_877 : Cond.code yX6_spine prog_8_method_50_code 4 (Option.some FieldType.int) ∈ TB := tbm 877 (by decide +kernel) rfl
theorem m_878 : Cond.methodLink RL 99 yX6_marked ∈ TB := tbm 878 (by decide +kernel) rfl
theorem m_879 : Cond.instanceMethod yX6_marked ∈ TB := tbm 879 (by decide +kernel) rfl
theorem m_880 : Cond.selects RX6 yX6_marked yX6_marked ∈ TB := tbm 880 (by decide +kernel) rfl
theorem m_881 : Cond.code yX6_marked prog_8_method_51_code 2 (Option.some FieldType.int) ∈ TB := tbm 881 (by decide +kernel) rfl
theorem m_882 : Cond.methodLink RL 103 yX6_count ∈ TB := tbm 882 (by decide +kernel) rfl
theorem m_883 : Cond.instanceMethod yX6_count ∈ TB := tbm 883 (by decide +kernel) rfl
theorem m_884 : Cond.selects RX6 yX6_count yX6_count ∈ TB := tbm 884 (by decide +kernel) rfl
theorem m_885 : Cond.code yX6_count prog_8_method_54_code 2 (Option.some FieldType.int) ∈ TB := tbm 885 (by decide +kernel) rfl
theorem m_886 : Cond.methodLink RX6 127 yX6_leaves ∈ TB := tbm 886 (by decide +kernel) rfl
theorem m_888 : Cond.instanceMethod yX6_leaves ∈ TB := tbm 888 (by decide +kernel) rfl
theorem m_889 : Cond.code yX6_leaves prog_8_method_52_code 3 (Option.some FieldType.int) ∈ TB := tbm 889 (by decide +kernel) rfl
theorem m_890 : Cond.methodLink RX6 133 yX6_unlike ∈ TB := tbm 890 (by decide +kernel) rfl
theorem m_892 : Cond.instanceMethod yX6_unlike ∈ TB := tbm 892 (by decide +kernel) rfl
theorem m_893 : Cond.code yX6_unlike prog_8_method_53_code 4 (Option.some FieldType.int) ∈ TB := tbm 893 (by decide +kernel) rfl
theorem m_894 : Cond.methodLink RL 107 yX6_like ∈ TB := tbm 894 (by decide +kernel) rfl
theorem m_895 : Cond.instanceMethod yX6_like ∈ TB := tbm 895 (by decide +kernel) rfl
theorem m_896 : Cond.selects RX6 yX6_like yX6_like ∈ TB := tbm 896 (by decide +kernel) rfl
theorem m_897 : Cond.code yX6_like prog_8_method_56_code 4 (Option.some FieldType.int) ∈ TB := tbm 897 (by decide +kernel) rfl
theorem m_898 : Cond.methodLink RX6 136 yX6_areLike ∈ TB := tbm 898 (by decide +kernel) rfl
theorem m_900 : Cond.instanceMethod yX6_areLike ∈ TB := tbm 900 (by decide +kernel) rfl
theorem m_901 : Cond.code yX6_areLike prog_8_method_55_code 6 (Option.some FieldType.boolean) ∈ TB := tbm 901 (by decide +kernel) rfl
theorem m_902 : Cond.methodLink RL 111 yX6_meet ∈ TB := tbm 902 (by decide +kernel) rfl
theorem m_903 : Cond.instanceMethod yX6_meet ∈ TB := tbm 903 (by decide +kernel) rfl
theorem m_904 : Cond.selects RX6 yX6_meet yX6_meet ∈ TB := tbm 904 (by decide +kernel) rfl
theorem m_905 : Cond.code yX6_meet prog_8_method_57_code 6 (Option.some FieldType.int) ∈ TB := tbm 905 (by decide +kernel) rfl
theorem m_906 : Cond.methodLink RL 115 yX6_find ∈ TB := tbm 906 (by decide +kernel) rfl
theorem m_907 : Cond.instanceMethod yX6_find ∈ TB := tbm 907 (by decide +kernel) rfl
theorem m_908 : Cond.selects RX6 yX6_find yX6_find ∈ TB := tbm 908 (by decide +kernel) rfl
theorem m_909 : Cond.code yX6_find prog_8_method_58_code 5 (Option.some FieldType.int) ∈ TB := tbm 909 (by decide +kernel) rfl
theorem m_910 : Cond.methodLink RL 119 yX6_undo ∈ TB := tbm 910 (by decide +kernel) rfl
theorem m_911 : Cond.instanceMethod yX6_undo ∈ TB := tbm 911 (by decide +kernel) rfl
theorem m_912 : Cond.selects RX6 yX6_undo yX6_undo ∈ TB := tbm 912 (by decide +kernel) rfl
theorem m_913 : Cond.code yX6_undo prog_8_method_59_code 2 (Option.some FieldType.int) ∈ TB := tbm 913 (by decide +kernel) rfl
theorem m_914 : Cond.methodLink RL 123 yX6_type ∈ TB := tbm 914 (by decide +kernel) rfl
theorem m_915 : Cond.instanceMethod yX6_type ∈ TB := tbm 915 (by decide +kernel) rfl
theorem m_916 : Cond.selects RX6 yX6_type yX6_type ∈ TB := tbm 916 (by decide +kernel) rfl
theorem m_917 : Cond.code yX6_type prog_8_method_60_code 2 (Option.some FieldType.int) ∈ TB := tbm 917 (by decide +kernel) rfl
theorem m_918 : Cond.methodLink RL 127 yX6_clearText ∈ TB := tbm 918 (by decide +kernel) rfl
theorem m_919 : Cond.instanceMethod yX6_clearText ∈ TB := tbm 919 (by decide +kernel) rfl
theorem m_920 : Cond.selects RX6 yX6_clearText yX6_clearText ∈ TB := tbm 920 (by decide +kernel) rfl
theorem m_921 : Cond.code yX6_clearText prog_8_method_61_code 2 (Option.some FieldType.int) ∈ TB := tbm 921 (by decide +kernel) rfl
theorem m_922 : Cond.methodLink RL 131 yX6_write ∈ TB := tbm 922 (by decide +kernel) rfl
theorem m_923 : Cond.instanceMethod yX6_write ∈ TB := tbm 923 (by decide +kernel) rfl
theorem m_924 : Cond.selects RX6 yX6_write yX6_write ∈ TB := tbm 924 (by decide +kernel) rfl
theorem m_925 : Cond.code yX6_write prog_8_method_63_code 4 (Option.some FieldType.int) ∈ TB := tbm 925 (by decide +kernel) rfl
theorem m_926 : Cond.methodLink RX6 140 yX6_puts ∈ TB := tbm 926 (by decide +kernel) rfl
theorem m_928 : Cond.instanceMethod yX6_puts ∈ TB := tbm 928 (by decide +kernel) rfl
theorem m_929 : Cond.code yX6_puts prog_8_method_62_code 2 none ∈ TB := tbm 929 (by decide +kernel) rfl
theorem m_930 : Cond.methodLink RL 135 yX6_fault ∈ TB := tbm 930 (by decide +kernel) rfl
theorem m_931 : Cond.instanceMethod yX6_fault ∈ TB := tbm 931 (by decide +kernel) rfl
theorem m_932 : Cond.selects RX6 yX6_fault yX6_fault ∈ TB := tbm 932 (by decide +kernel) rfl
theorem m_933 : Cond.code yX6_fault prog_8_method_66_code 2 (Option.some FieldType.int) ∈ TB := tbm 933 (by decide +kernel) rfl
theorem m_934 : Cond.methodLink RX6 156 yX6_isTree ∈ TB := tbm 934 (by decide +kernel) rfl
theorem m_936 : Cond.instanceMethod yX6_isTree ∈ TB := tbm 936 (by decide +kernel) rfl
theorem m_937 : Cond.code yX6_isTree prog_8_method_65_code 5 (Option.some FieldType.boolean) ∈ TB := tbm 937 (by decide +kernel) rfl
theorem m_938 : Cond.methodLink RX6 153 yX6_breaks ∈ TB := tbm 938 (by decide +kernel) rfl
theorem m_940 : Cond.instanceMethod yX6_breaks ∈ TB := tbm 940 (by decide +kernel) rfl
theorem m_941 : Cond.code yX6_breaks prog_8_method_64_code 3 (Option.some FieldType.boolean) ∈ TB := tbm 941 (by decide +kernel) rfl
theorem m_942 : Cond.methodLink RL 139 yX6_read ∈ TB := tbm 942 (by decide +kernel) rfl
theorem m_943 : Cond.instanceMethod yX6_read ∈ TB := tbm 943 (by decide +kernel) rfl
theorem m_944 : Cond.selects RX6 yX6_read yX6_read ∈ TB := tbm 944 (by decide +kernel) rfl
theorem m_945 : Cond.code yX6_read prog_8_method_67_code 2 (Option.some FieldType.int) ∈ TB := tbm 945 (by decide +kernel) rfl
theorem inX0 : ∀ w ∈ wsX00, w ∈ TB := List.forall_mem_cons.mpr ⟨m_154, List.forall_mem_cons.mpr ⟨m_156, List.forall_mem_cons.mpr ⟨m_158, fun _ h => absurd h List.not_mem_nil⟩⟩⟩
theorem inX1 : ∀ w ∈ wsX10, w ∈ TB := List.forall_mem_cons.mpr ⟨m_85, List.forall_mem_cons.mpr ⟨m_87, fun _ h => absurd h List.not_mem_nil⟩⟩
theorem inX2 : ∀ w ∈ wsX20, w ∈ TB := List.forall_mem_cons.mpr ⟨m_182, List.forall_mem_cons.mpr ⟨m_184, List.forall_mem_cons.mpr ⟨m_186, List.forall_mem_cons.mpr ⟨m_188, List.forall_mem_cons.mpr ⟨m_190, List.forall_mem_cons.mpr ⟨m_192, fun _ h => absurd h List.not_mem_nil⟩⟩⟩⟩⟩⟩
theorem inX3 : ∀ w ∈ wsX30, w ∈ TB := List.forall_mem_cons.mpr ⟨m_127, List.forall_mem_cons.mpr ⟨m_129, List.forall_mem_cons.mpr ⟨m_131, List.forall_mem_cons.mpr ⟨m_133, List.forall_mem_cons.mpr ⟨m_135, List.forall_mem_cons.mpr ⟨m_137, List.forall_mem_cons.mpr ⟨m_139, fun _ h => absurd h List.not_mem_nil⟩⟩⟩⟩⟩⟩⟩
theorem inX4 : ∀ w ∈ wsX40, w ∈ TB := List.forall_mem_cons.mpr ⟨m_93, List.forall_mem_cons.mpr ⟨m_95, fun _ h => absurd h List.not_mem_nil⟩⟩
theorem inX5 : ∀ w ∈ wsX50, w ∈ TB := List.forall_mem_cons.mpr ⟨m_209, List.forall_mem_cons.mpr ⟨m_211, List.forall_mem_cons.mpr ⟨m_213, List.forall_mem_cons.mpr ⟨m_215, fun _ h => absurd h List.not_mem_nil⟩⟩⟩⟩
theorem inX6 : ∀ w ∈ wsX60, w ∈ TB := List.forall_mem_cons.mpr ⟨m_663, List.forall_mem_cons.mpr ⟨m_665, List.forall_mem_cons.mpr ⟨m_667, List.forall_mem_cons.mpr ⟨m_669, List.forall_mem_cons.mpr ⟨m_671, List.forall_mem_cons.mpr ⟨m_673, List.forall_mem_cons.mpr ⟨m_675, List.forall_mem_cons.mpr ⟨m_677, List.forall_mem_cons.mpr ⟨m_679, List.forall_mem_cons.mpr ⟨m_681, List.forall_mem_cons.mpr ⟨m_683, List.forall_mem_cons.mpr ⟨m_685, fun _ h => absurd h List.not_mem_nil⟩⟩⟩⟩⟩⟩⟩⟩⟩⟩⟩⟩
end
section
theorem dX0_init_0 : decode cX0_init 0 = .ok (.aload_n 0, 1) := by decide +kernel
theorem dX0_init_1 : decode cX0_init 1 = .ok (.invokespecial 3, 3) := by decide +kernel
theorem dX0_init_4 : decode cX0_init 4 = .ok (.aload_n 0, 1) := by decide +kernel
theorem dX0_init_5 : decode cX0_init 5 = .ok (.iconst 4, 1) := by decide +kernel
theorem dX0_init_6 : decode cX0_init 6 = .ok (.anewarray 9, 3) := by decide +kernel
theorem dX0_init_9 : decode cX0_init 9 = .ok (.putfield 11, 3) := by decide +kernel
theorem dX0_init_12 : decode cX0_init 12 = .ok (.iconst 0, 1) := by decide +kernel
theorem dX0_init_13 : decode cX0_init 13 = .ok (.istore_n 1, 1) := by decide +kernel
theorem dX0_init_14 : decode cX0_init 14 = .ok (.iload_n 1, 1) := by decide +kernel
theorem dX0_init_15 : decode cX0_init 15 = .ok (.aload_n 0, 1) := by decide +kernel
theorem dX0_init_16 : decode cX0_init 16 = .ok (.getfield 11, 3) := by decide +kernel
theorem dX0_init_19 : decode cX0_init 19 = .ok (.arraylength, 1) := by decide +kernel
theorem dX0_init_20 : decode cX0_init 20 = .ok (.if_icmp .ge 22, 3) := by decide +kernel
theorem dX0_init_23 : decode cX0_init 23 = .ok (.aload_n 0, 1) := by decide +kernel
theorem dX0_init_24 : decode cX0_init 24 = .ok (.getfield 11, 3) := by decide +kernel
theorem dX0_init_27 : decode cX0_init 27 = .ok (.iload_n 1, 1) := by decide +kernel
theorem dX0_init_28 : decode cX0_init 28 = .ok (.new 9, 3) := by decide +kernel
theorem dX0_init_31 : decode cX0_init 31 = .ok (.dup, 1) := by decide +kernel
theorem dX0_init_32 : decode cX0_init 32 = .ok (.invokespecial 17, 3) := by decide +kernel
theorem dX0_init_35 : decode cX0_init 35 = .ok (.aastore, 1) := by decide +kernel
theorem dX0_init_36 : decode cX0_init 36 = .ok (.iinc 1 1, 3) := by decide +kernel
theorem dX0_init_39 : decode cX0_init 39 = .ok (.goto (-25), 3) := by decide +kernel
theorem dX0_init_42 : decode cX0_init 42 = .ok (.return_, 1) := by decide +kernel
theorem dX0_size_0 : decode cX0_size 0 = .ok (.aload_n 0, 1) := by decide +kernel
theorem dX0_size_1 : decode cX0_size 1 = .ok (.getfield 18, 3) := by decide +kernel
theorem dX0_size_4 : decode cX0_size 4 = .ok (.ireturn, 1) := by decide +kernel
theorem dX0_keep_0 : decode cX0_keep 0 = .ok (.aload_n 0, 1) := by decide +kernel
theorem dX0_keep_1 : decode cX0_keep 1 = .ok (.getfield 18, 3) := by decide +kernel
theorem dX0_keep_4 : decode cX0_keep 4 = .ok (.iconst 4, 1) := by decide +kernel
theorem dX0_keep_5 : decode cX0_keep 5 = .ok (.if_icmp .lt 25, 3) := by decide +kernel
theorem dX0_keep_8 : decode cX0_keep 8 = .ok (.aload_n 0, 1) := by decide +kernel
theorem dX0_keep_9 : decode cX0_keep 9 = .ok (.aload_n 0, 1) := by decide +kernel
theorem dX0_keep_10 : decode cX0_keep 10 = .ok (.getfield 22, 3) := by decide +kernel
theorem dX0_keep_13 : decode cX0_keep 13 = .ok (.iconst 1, 1) := by decide +kernel
theorem dX0_keep_14 : decode cX0_keep 14 = .ok (.iadd, 1) := by decide +kernel
theorem dX0_keep_15 : decode cX0_keep 15 = .ok (.iconst 4, 1) := by decide +kernel
theorem dX0_keep_16 : decode cX0_keep 16 = .ok (.irem, 1) := by decide +kernel
theorem dX0_keep_17 : decode cX0_keep 17 = .ok (.putfield 22, 3) := by decide +kernel
theorem dX0_keep_20 : decode cX0_keep 20 = .ok (.aload_n 0, 1) := by decide +kernel
theorem dX0_keep_21 : decode cX0_keep 21 = .ok (.dup, 1) := by decide +kernel
theorem dX0_keep_22 : decode cX0_keep 22 = .ok (.getfield 18, 3) := by decide +kernel
theorem dX0_keep_25 : decode cX0_keep 25 = .ok (.iconst 1, 1) := by decide +kernel
theorem dX0_keep_26 : decode cX0_keep 26 = .ok (.isub, 1) := by decide +kernel
theorem dX0_keep_27 : decode cX0_keep 27 = .ok (.putfield 18, 3) := by decide +kernel
theorem dX0_keep_30 : decode cX0_keep 30 = .ok (.aload_n 0, 1) := by decide +kernel
theorem dX0_keep_31 : decode cX0_keep 31 = .ok (.aload_n 0, 1) := by decide +kernel
theorem dX0_keep_32 : decode cX0_keep 32 = .ok (.getfield 18, 3) := by decide +kernel
theorem dX0_keep_35 : decode cX0_keep 35 = .ok (.invokevirtual 25, 3) := by decide +kernel
theorem dX0_keep_38 : decode cX0_keep 38 = .ok (.astore_n 2, 1) := by decide +kernel
theorem dX0_keep_39 : decode cX0_keep 39 = .ok (.aload_n 2, 1) := by decide +kernel
theorem dX0_keep_40 : decode cX0_keep 40 = .ok (.ifnull 18, 3) := by decide +kernel
theorem dX0_keep_43 : decode cX0_keep 43 = .ok (.aload_n 2, 1) := by decide +kernel
theorem dX0_keep_44 : decode cX0_keep 44 = .ok (.aload_n 1, 1) := by decide +kernel
theorem dX0_keep_45 : decode cX0_keep 45 = .ok (.invokevirtual 29, 3) := by decide +kernel
theorem dX0_keep_48 : decode cX0_keep 48 = .ok (.aload_n 0, 1) := by decide +kernel
theorem dX0_keep_49 : decode cX0_keep 49 = .ok (.dup, 1) := by decide +kernel
theorem dX0_keep_50 : decode cX0_keep 50 = .ok (.getfield 18, 3) := by decide +kernel
theorem dX0_keep_53 : decode cX0_keep 53 = .ok (.iconst 1, 1) := by decide +kernel
theorem dX0_keep_54 : decode cX0_keep 54 = .ok (.iadd, 1) := by decide +kernel
theorem dX0_keep_55 : decode cX0_keep 55 = .ok (.putfield 18, 3) := by decide +kernel
theorem dX0_keep_58 : decode cX0_keep 58 = .ok (.return_, 1) := by decide +kernel
theorem dX0_restore_0 : decode cX0_restore 0 = .ok (.aload_n 0, 1) := by decide +kernel
theorem dX0_restore_1 : decode cX0_restore 1 = .ok (.getfield 18, 3) := by decide +kernel
theorem dX0_restore_4 : decode cX0_restore 4 = .ok (.ifCond .le 16, 3) := by decide +kernel
theorem dX0_restore_7 : decode cX0_restore 7 = .ok (.aload_n 0, 1) := by decide +kernel
theorem dX0_restore_8 : decode cX0_restore 8 = .ok (.aload_n 0, 1) := by decide +kernel
theorem dX0_restore_9 : decode cX0_restore 9 = .ok (.getfield 18, 3) := by decide +kernel
theorem dX0_restore_12 : decode cX0_restore 12 = .ok (.iconst 1, 1) := by decide +kernel
theorem dX0_restore_13 : decode cX0_restore 13 = .ok (.isub, 1) := by decide +kernel
theorem dX0_restore_14 : decode cX0_restore 14 = .ok (.invokevirtual 25, 3) := by decide +kernel
theorem dX0_restore_17 : decode cX0_restore 17 = .ok (.goto 4, 3) := by decide +kernel
theorem dX0_restore_20 : decode cX0_restore 20 = .ok (.aconst_null, 1) := by decide +kernel
theorem dX0_restore_21 : decode cX0_restore 21 = .ok (.astore_n 2, 1) := by decide +kernel
theorem dX0_restore_22 : decode cX0_restore 22 = .ok (.aload_n 2, 1) := by decide +kernel
theorem dX0_restore_23 : decode cX0_restore 23 = .ok (.ifnull 18, 3) := by decide +kernel
theorem dX0_restore_26 : decode cX0_restore 26 = .ok (.aload_n 1, 1) := by decide +kernel
theorem dX0_restore_27 : decode cX0_restore 27 = .ok (.aload_n 2, 1) := by decide +kernel
theorem dX0_restore_28 : decode cX0_restore 28 = .ok (.invokevirtual 29, 3) := by decide +kernel
theorem dX0_restore_31 : decode cX0_restore 31 = .ok (.aload_n 0, 1) := by decide +kernel
theorem dX0_restore_32 : decode cX0_restore 32 = .ok (.dup, 1) := by decide +kernel
theorem dX0_restore_33 : decode cX0_restore 33 = .ok (.getfield 18, 3) := by decide +kernel
theorem dX0_restore_36 : decode cX0_restore 36 = .ok (.iconst 1, 1) := by decide +kernel
theorem dX0_restore_37 : decode cX0_restore 37 = .ok (.isub, 1) := by decide +kernel
theorem dX0_restore_38 : decode cX0_restore 38 = .ok (.putfield 18, 3) := by decide +kernel
theorem dX0_restore_41 : decode cX0_restore 41 = .ok (.return_, 1) := by decide +kernel
theorem dX0_slotAt_0 : decode cX0_slotAt 0 = .ok (.aload_n 0, 1) := by decide +kernel
theorem dX0_slotAt_1 : decode cX0_slotAt 1 = .ok (.getfield 22, 3) := by decide +kernel
theorem dX0_slotAt_4 : decode cX0_slotAt 4 = .ok (.iload_n 1, 1) := by decide +kernel
theorem dX0_slotAt_5 : decode cX0_slotAt 5 = .ok (.iadd, 1) := by decide +kernel
theorem dX0_slotAt_6 : decode cX0_slotAt 6 = .ok (.iconst 4, 1) := by decide +kernel
theorem dX0_slotAt_7 : decode cX0_slotAt 7 = .ok (.irem, 1) := by decide +kernel
theorem dX0_slotAt_8 : decode cX0_slotAt 8 = .ok (.istore_n 2, 1) := by decide +kernel
theorem dX0_slotAt_9 : decode cX0_slotAt 9 = .ok (.iload_n 2, 1) := by decide +kernel
theorem dX0_slotAt_10 : decode cX0_slotAt 10 = .ok (.ifCond .lt 21, 3) := by decide +kernel
theorem dX0_slotAt_13 : decode cX0_slotAt 13 = .ok (.iload_n 2, 1) := by decide +kernel
theorem dX0_slotAt_14 : decode cX0_slotAt 14 = .ok (.aload_n 0, 1) := by decide +kernel
theorem dX0_slotAt_15 : decode cX0_slotAt 15 = .ok (.getfield 11, 3) := by decide +kernel
theorem dX0_slotAt_18 : decode cX0_slotAt 18 = .ok (.arraylength, 1) := by decide +kernel
theorem dX0_slotAt_19 : decode cX0_slotAt 19 = .ok (.if_icmp .ge 12, 3) := by decide +kernel
theorem dX0_slotAt_22 : decode cX0_slotAt 22 = .ok (.aload_n 0, 1) := by decide +kernel
theorem dX0_slotAt_23 : decode cX0_slotAt 23 = .ok (.getfield 11, 3) := by decide +kernel
theorem dX0_slotAt_26 : decode cX0_slotAt 26 = .ok (.iload_n 2, 1) := by decide +kernel
theorem dX0_slotAt_27 : decode cX0_slotAt 27 = .ok (.aaload, 1) := by decide +kernel
theorem dX0_slotAt_28 : decode cX0_slotAt 28 = .ok (.goto 4, 3) := by decide +kernel
theorem dX0_slotAt_31 : decode cX0_slotAt 31 = .ok (.aconst_null, 1) := by decide +kernel
theorem dX0_slotAt_32 : decode cX0_slotAt 32 = .ok (.areturn, 1) := by decide +kernel
theorem dX1_init_0 : decode cX1_init 0 = .ok (.aload_n 0, 1) := by decide +kernel
theorem dX1_init_1 : decode cX1_init 1 = .ok (.invokespecial 3, 3) := by decide +kernel
theorem dX1_init_4 : decode cX1_init 4 = .ok (.aload_n 0, 1) := by decide +kernel
theorem dX1_init_5 : decode cX1_init 5 = .ok (.iload_n 1, 1) := by decide +kernel
theorem dX1_init_6 : decode cX1_init 6 = .ok (.iconst 0, 1) := by decide +kernel
theorem dX1_init_7 : decode cX1_init 7 = .ok (.invokestatic 9, 3) := by decide +kernel
theorem dX1_init_10 : decode cX1_init 10 = .ok (.newarray .int, 2) := by decide +kernel
theorem dX1_init_12 : decode cX1_init 12 = .ok (.putfield 15, 3) := by decide +kernel
theorem dX1_init_15 : decode cX1_init 15 = .ok (.return_, 1) := by decide +kernel
theorem dX1_size_0 : decode cX1_size 0 = .ok (.aload_n 0, 1) := by decide +kernel
theorem dX1_size_1 : decode cX1_size 1 = .ok (.getfield 21, 3) := by decide +kernel
theorem dX1_size_4 : decode cX1_size 4 = .ok (.ireturn, 1) := by decide +kernel
theorem dX1_at_0 : decode cX1_at 0 = .ok (.iload_n 1, 1) := by decide +kernel
theorem dX1_at_1 : decode cX1_at 1 = .ok (.ifCond .lt 29, 3) := by decide +kernel
theorem dX1_at_4 : decode cX1_at 4 = .ok (.iload_n 1, 1) := by decide +kernel
theorem dX1_at_5 : decode cX1_at 5 = .ok (.aload_n 0, 1) := by decide +kernel
theorem dX1_at_6 : decode cX1_at 6 = .ok (.getfield 21, 3) := by decide +kernel
theorem dX1_at_9 : decode cX1_at 9 = .ok (.if_icmp .ge 21, 3) := by decide +kernel
theorem dX1_at_12 : decode cX1_at 12 = .ok (.iload_n 1, 1) := by decide +kernel
theorem dX1_at_13 : decode cX1_at 13 = .ok (.aload_n 0, 1) := by decide +kernel
theorem dX1_at_14 : decode cX1_at 14 = .ok (.getfield 15, 3) := by decide +kernel
theorem dX1_at_17 : decode cX1_at 17 = .ok (.arraylength, 1) := by decide +kernel
theorem dX1_at_18 : decode cX1_at 18 = .ok (.if_icmp .ge 12, 3) := by decide +kernel
theorem dX1_at_21 : decode cX1_at 21 = .ok (.aload_n 0, 1) := by decide +kernel
theorem dX1_at_22 : decode cX1_at 22 = .ok (.getfield 15, 3) := by decide +kernel
theorem dX1_at_25 : decode cX1_at 25 = .ok (.iload_n 1, 1) := by decide +kernel
theorem dX1_at_26 : decode cX1_at 26 = .ok (.iaload, 1) := by decide +kernel
theorem dX1_at_27 : decode cX1_at 27 = .ok (.goto 4, 3) := by decide +kernel
theorem dX1_at_30 : decode cX1_at 30 = .ok (.iconst (-1), 1) := by decide +kernel
theorem dX1_at_31 : decode cX1_at 31 = .ok (.ireturn, 1) := by decide +kernel
theorem dX1_put_0 : decode cX1_put 0 = .ok (.iload_n 1, 1) := by decide +kernel
theorem dX1_put_1 : decode cX1_put 1 = .ok (.ifCond .lt 27, 3) := by decide +kernel
theorem dX1_put_4 : decode cX1_put 4 = .ok (.iload_n 1, 1) := by decide +kernel
theorem dX1_put_5 : decode cX1_put 5 = .ok (.aload_n 0, 1) := by decide +kernel
theorem dX1_put_6 : decode cX1_put 6 = .ok (.getfield 21, 3) := by decide +kernel
theorem dX1_put_9 : decode cX1_put 9 = .ok (.if_icmp .ge 19, 3) := by decide +kernel
theorem dX1_put_12 : decode cX1_put 12 = .ok (.iload_n 1, 1) := by decide +kernel
theorem dX1_put_13 : decode cX1_put 13 = .ok (.aload_n 0, 1) := by decide +kernel
theorem dX1_put_14 : decode cX1_put 14 = .ok (.getfield 15, 3) := by decide +kernel
theorem dX1_put_17 : decode cX1_put 17 = .ok (.arraylength, 1) := by decide +kernel
theorem dX1_put_18 : decode cX1_put 18 = .ok (.if_icmp .ge 10, 3) := by decide +kernel
theorem dX1_put_21 : decode cX1_put 21 = .ok (.aload_n 0, 1) := by decide +kernel
theorem dX1_put_22 : decode cX1_put 22 = .ok (.getfield 15, 3) := by decide +kernel
theorem dX1_put_25 : decode cX1_put 25 = .ok (.iload_n 1, 1) := by decide +kernel
theorem dX1_put_26 : decode cX1_put 26 = .ok (.iload_n 2, 1) := by decide +kernel
theorem dX1_put_27 : decode cX1_put 27 = .ok (.iastore, 1) := by decide +kernel
theorem dX1_put_28 : decode cX1_put 28 = .ok (.return_, 1) := by decide +kernel
theorem dX1_add_0 : decode cX1_add 0 = .ok (.aload_n 0, 1) := by decide +kernel
theorem dX1_add_1 : decode cX1_add 1 = .ok (.aload_n 0, 1) := by decide +kernel
theorem dX1_add_2 : decode cX1_add 2 = .ok (.getfield 21, 3) := by decide +kernel
theorem dX1_add_5 : decode cX1_add 5 = .ok (.iload_n 1, 1) := by decide +kernel
theorem dX1_add_6 : decode cX1_add 6 = .ok (.invokevirtual 25, 3) := by decide +kernel
theorem dX1_add_9 : decode cX1_add 9 = .ok (.return_, 1) := by decide +kernel
theorem dX1_putIn_0 : decode cX1_putIn 0 = .ok (.iload_n 1, 1) := by decide +kernel
theorem dX1_putIn_1 : decode cX1_putIn 1 = .ok (.ifCond .lt 23, 3) := by decide +kernel
theorem dX1_putIn_4 : decode cX1_putIn 4 = .ok (.iload_n 1, 1) := by decide +kernel
theorem dX1_putIn_5 : decode cX1_putIn 5 = .ok (.aload_n 0, 1) := by decide +kernel
theorem dX1_putIn_6 : decode cX1_putIn 6 = .ok (.getfield 21, 3) := by decide +kernel
theorem dX1_putIn_9 : decode cX1_putIn 9 = .ok (.if_icmp .gt 15, 3) := by decide +kernel
theorem dX1_putIn_12 : decode cX1_putIn 12 = .ok (.aload_n 0, 1) := by decide +kernel
theorem dX1_putIn_13 : decode cX1_putIn 13 = .ok (.getfield 21, 3) := by decide +kernel
theorem dX1_putIn_16 : decode cX1_putIn 16 = .ok (.aload_n 0, 1) := by decide +kernel
theorem dX1_putIn_17 : decode cX1_putIn 17 = .ok (.getfield 15, 3) := by decide +kernel
theorem dX1_putIn_20 : decode cX1_putIn 20 = .ok (.arraylength, 1) := by decide +kernel
theorem dX1_putIn_21 : decode cX1_putIn 21 = .ok (.if_icmp .lt 4, 3) := by decide +kernel
theorem dX1_putIn_24 : decode cX1_putIn 24 = .ok (.return_, 1) := by decide +kernel
theorem dX1_putIn_25 : decode cX1_putIn 25 = .ok (.aload_n 0, 1) := by decide +kernel
theorem dX1_putIn_26 : decode cX1_putIn 26 = .ok (.getfield 21, 3) := by decide +kernel
theorem dX1_putIn_29 : decode cX1_putIn 29 = .ok (.istore_n 3, 1) := by decide +kernel
theorem dX1_putIn_30 : decode cX1_putIn 30 = .ok (.iload_n 3, 1) := by decide +kernel
theorem dX1_putIn_31 : decode cX1_putIn 31 = .ok (.iload_n 1, 1) := by decide +kernel
theorem dX1_putIn_32 : decode cX1_putIn 32 = .ok (.if_icmp .le 23, 3) := by decide +kernel
theorem dX1_putIn_35 : decode cX1_putIn 35 = .ok (.aload_n 0, 1) := by decide +kernel
theorem dX1_putIn_36 : decode cX1_putIn 36 = .ok (.getfield 15, 3) := by decide +kernel
theorem dX1_putIn_39 : decode cX1_putIn 39 = .ok (.iload_n 3, 1) := by decide +kernel
theorem dX1_putIn_40 : decode cX1_putIn 40 = .ok (.aload_n 0, 1) := by decide +kernel
theorem dX1_putIn_41 : decode cX1_putIn 41 = .ok (.getfield 15, 3) := by decide +kernel
theorem dX1_putIn_44 : decode cX1_putIn 44 = .ok (.iload_n 3, 1) := by decide +kernel
theorem dX1_putIn_45 : decode cX1_putIn 45 = .ok (.iconst 1, 1) := by decide +kernel
theorem dX1_putIn_46 : decode cX1_putIn 46 = .ok (.isub, 1) := by decide +kernel
theorem dX1_putIn_47 : decode cX1_putIn 47 = .ok (.iaload, 1) := by decide +kernel
theorem dX1_putIn_48 : decode cX1_putIn 48 = .ok (.iastore, 1) := by decide +kernel
theorem dX1_putIn_49 : decode cX1_putIn 49 = .ok (.iinc 3 (-1), 3) := by decide +kernel
theorem dX1_putIn_52 : decode cX1_putIn 52 = .ok (.goto (-22), 3) := by decide +kernel
theorem dX1_putIn_55 : decode cX1_putIn 55 = .ok (.aload_n 0, 1) := by decide +kernel
theorem dX1_putIn_56 : decode cX1_putIn 56 = .ok (.getfield 15, 3) := by decide +kernel
theorem dX1_putIn_59 : decode cX1_putIn 59 = .ok (.iload_n 1, 1) := by decide +kernel
theorem dX1_putIn_60 : decode cX1_putIn 60 = .ok (.iload_n 2, 1) := by decide +kernel
theorem dX1_putIn_61 : decode cX1_putIn 61 = .ok (.iastore, 1) := by decide +kernel
theorem dX1_putIn_62 : decode cX1_putIn 62 = .ok (.aload_n 0, 1) := by decide +kernel
theorem dX1_putIn_63 : decode cX1_putIn 63 = .ok (.dup, 1) := by decide +kernel
theorem dX1_putIn_64 : decode cX1_putIn 64 = .ok (.getfield 21, 3) := by decide +kernel
theorem dX1_putIn_67 : decode cX1_putIn 67 = .ok (.iconst 1, 1) := by decide +kernel
theorem dX1_putIn_68 : decode cX1_putIn 68 = .ok (.iadd, 1) := by decide +kernel
theorem dX1_putIn_69 : decode cX1_putIn 69 = .ok (.putfield 21, 3) := by decide +kernel
theorem dX1_putIn_72 : decode cX1_putIn 72 = .ok (.return_, 1) := by decide +kernel
theorem dX1_takeOut_0 : decode cX1_takeOut 0 = .ok (.iload_n 1, 1) := by decide +kernel
theorem dX1_takeOut_1 : decode cX1_takeOut 1 = .ok (.ifCond .lt 16, 3) := by decide +kernel
theorem dX1_takeOut_4 : decode cX1_takeOut 4 = .ok (.iload_n 2, 1) := by decide +kernel
theorem dX1_takeOut_5 : decode cX1_takeOut 5 = .ok (.iload_n 1, 1) := by decide +kernel
theorem dX1_takeOut_6 : decode cX1_takeOut 6 = .ok (.if_icmp .lt 11, 3) := by decide +kernel
theorem dX1_takeOut_9 : decode cX1_takeOut 9 = .ok (.iload_n 2, 1) := by decide +kernel
theorem dX1_takeOut_10 : decode cX1_takeOut 10 = .ok (.aload_n 0, 1) := by decide +kernel
theorem dX1_takeOut_11 : decode cX1_takeOut 11 = .ok (.getfield 21, 3) := by decide +kernel
theorem dX1_takeOut_14 : decode cX1_takeOut 14 = .ok (.if_icmp .le 4, 3) := by decide +kernel
theorem dX1_takeOut_17 : decode cX1_takeOut 17 = .ok (.return_, 1) := by decide +kernel
theorem dX1_takeOut_18 : decode cX1_takeOut 18 = .ok (.iload_n 2, 1) := by decide +kernel
theorem dX1_takeOut_19 : decode cX1_takeOut 19 = .ok (.istore_n 3, 1) := by decide +kernel
theorem dX1_takeOut_20 : decode cX1_takeOut 20 = .ok (.iload_n 3, 1) := by decide +kernel
theorem dX1_takeOut_21 : decode cX1_takeOut 21 = .ok (.aload_n 0, 1) := by decide +kernel
theorem dX1_takeOut_22 : decode cX1_takeOut 22 = .ok (.getfield 21, 3) := by decide +kernel
theorem dX1_takeOut_25 : decode cX1_takeOut 25 = .ok (.if_icmp .ge 23, 3) := by decide +kernel
theorem dX1_takeOut_28 : decode cX1_takeOut 28 = .ok (.aload_n 0, 1) := by decide +kernel
theorem dX1_takeOut_29 : decode cX1_takeOut 29 = .ok (.iload_n 1, 1) := by decide +kernel
theorem dX1_takeOut_30 : decode cX1_takeOut 30 = .ok (.iload_n 3, 1) := by decide +kernel
theorem dX1_takeOut_31 : decode cX1_takeOut 31 = .ok (.iadd, 1) := by decide +kernel
theorem dX1_takeOut_32 : decode cX1_takeOut 32 = .ok (.iload_n 2, 1) := by decide +kernel
theorem dX1_takeOut_33 : decode cX1_takeOut 33 = .ok (.isub, 1) := by decide +kernel
theorem dX1_takeOut_34 : decode cX1_takeOut 34 = .ok (.aload_n 0, 1) := by decide +kernel
theorem dX1_takeOut_35 : decode cX1_takeOut 35 = .ok (.iload_n 3, 1) := by decide +kernel
theorem dX1_takeOut_36 : decode cX1_takeOut 36 = .ok (.invokevirtual 29, 3) := by decide +kernel
theorem dX1_takeOut_39 : decode cX1_takeOut 39 = .ok (.invokevirtual 33, 3) := by decide +kernel
theorem dX1_takeOut_42 : decode cX1_takeOut 42 = .ok (.iinc 3 1, 3) := by decide +kernel
theorem dX1_takeOut_45 : decode cX1_takeOut 45 = .ok (.goto (-25), 3) := by decide +kernel
theorem dX1_takeOut_48 : decode cX1_takeOut 48 = .ok (.aload_n 0, 1) := by decide +kernel
theorem dX1_takeOut_49 : decode cX1_takeOut 49 = .ok (.dup, 1) := by decide +kernel
theorem dX1_takeOut_50 : decode cX1_takeOut 50 = .ok (.getfield 21, 3) := by decide +kernel
theorem dX1_takeOut_53 : decode cX1_takeOut 53 = .ok (.iload_n 2, 1) := by decide +kernel
theorem dX1_takeOut_54 : decode cX1_takeOut 54 = .ok (.iload_n 1, 1) := by decide +kernel
theorem dX1_takeOut_55 : decode cX1_takeOut 55 = .ok (.isub, 1) := by decide +kernel
theorem dX1_takeOut_56 : decode cX1_takeOut 56 = .ok (.isub, 1) := by decide +kernel
theorem dX1_takeOut_57 : decode cX1_takeOut 57 = .ok (.putfield 21, 3) := by decide +kernel
theorem dX1_takeOut_60 : decode cX1_takeOut 60 = .ok (.return_, 1) := by decide +kernel
theorem dX1_turnAbout_0 : decode cX1_turnAbout 0 = .ok (.iload_n 1, 1) := by decide +kernel
theorem dX1_turnAbout_1 : decode cX1_turnAbout 1 = .ok (.istore_n 3, 1) := by decide +kernel
theorem dX1_turnAbout_2 : decode cX1_turnAbout 2 = .ok (.iload_n 2, 1) := by decide +kernel
theorem dX1_turnAbout_3 : decode cX1_turnAbout 3 = .ok (.iconst 1, 1) := by decide +kernel
theorem dX1_turnAbout_4 : decode cX1_turnAbout 4 = .ok (.isub, 1) := by decide +kernel
theorem dX1_turnAbout_5 : decode cX1_turnAbout 5 = .ok (.istore 4, 2) := by decide +kernel
theorem dX1_turnAbout_7 : decode cX1_turnAbout 7 = .ok (.iload_n 3, 1) := by decide +kernel
theorem dX1_turnAbout_8 : decode cX1_turnAbout 8 = .ok (.iload 4, 2) := by decide +kernel
theorem dX1_turnAbout_10 : decode cX1_turnAbout 10 = .ok (.if_icmp .ge 38, 3) := by decide +kernel
theorem dX1_turnAbout_13 : decode cX1_turnAbout 13 = .ok (.aload_n 0, 1) := by decide +kernel
theorem dX1_turnAbout_14 : decode cX1_turnAbout 14 = .ok (.iload_n 3, 1) := by decide +kernel
theorem dX1_turnAbout_15 : decode cX1_turnAbout 15 = .ok (.invokevirtual 29, 3) := by decide +kernel
theorem dX1_turnAbout_18 : decode cX1_turnAbout 18 = .ok (.istore 5, 2) := by decide +kernel
theorem dX1_turnAbout_20 : decode cX1_turnAbout 20 = .ok (.aload_n 0, 1) := by decide +kernel
theorem dX1_turnAbout_21 : decode cX1_turnAbout 21 = .ok (.iload_n 3, 1) := by decide +kernel
theorem dX1_turnAbout_22 : decode cX1_turnAbout 22 = .ok (.aload_n 0, 1) := by decide +kernel
theorem dX1_turnAbout_23 : decode cX1_turnAbout 23 = .ok (.iload 4, 2) := by decide +kernel
theorem dX1_turnAbout_25 : decode cX1_turnAbout 25 = .ok (.invokevirtual 29, 3) := by decide +kernel
theorem dX1_turnAbout_28 : decode cX1_turnAbout 28 = .ok (.invokevirtual 33, 3) := by decide +kernel
theorem dX1_turnAbout_31 : decode cX1_turnAbout 31 = .ok (.aload_n 0, 1) := by decide +kernel
theorem dX1_turnAbout_32 : decode cX1_turnAbout 32 = .ok (.iload 4, 2) := by decide +kernel
theorem dX1_turnAbout_34 : decode cX1_turnAbout 34 = .ok (.iload 5, 2) := by decide +kernel
theorem dX1_turnAbout_36 : decode cX1_turnAbout 36 = .ok (.invokevirtual 33, 3) := by decide +kernel
theorem dX1_turnAbout_39 : decode cX1_turnAbout 39 = .ok (.iinc 3 1, 3) := by decide +kernel
theorem dX1_turnAbout_42 : decode cX1_turnAbout 42 = .ok (.iinc 4 (-1), 3) := by decide +kernel
theorem dX1_turnAbout_45 : decode cX1_turnAbout 45 = .ok (.goto (-38), 3) := by decide +kernel
theorem dX1_turnAbout_48 : decode cX1_turnAbout 48 = .ok (.return_, 1) := by decide +kernel
theorem dX1_exchangeRuns_0 : decode cX1_exchangeRuns 0 = .ok (.aload_n 0, 1) := by decide +kernel
theorem dX1_exchangeRuns_1 : decode cX1_exchangeRuns 1 = .ok (.iload_n 1, 1) := by decide +kernel
theorem dX1_exchangeRuns_2 : decode cX1_exchangeRuns 2 = .ok (.iload_n 3, 1) := by decide +kernel
theorem dX1_exchangeRuns_3 : decode cX1_exchangeRuns 3 = .ok (.invokevirtual 36, 3) := by decide +kernel
theorem dX1_exchangeRuns_6 : decode cX1_exchangeRuns 6 = .ok (.aload_n 0, 1) := by decide +kernel
theorem dX1_exchangeRuns_7 : decode cX1_exchangeRuns 7 = .ok (.iload_n 1, 1) := by decide +kernel
theorem dX1_exchangeRuns_8 : decode cX1_exchangeRuns 8 = .ok (.iload_n 1, 1) := by decide +kernel
theorem dX1_exchangeRuns_9 : decode cX1_exchangeRuns 9 = .ok (.iload_n 3, 1) := by decide +kernel
theorem dX1_exchangeRuns_10 : decode cX1_exchangeRuns 10 = .ok (.iadd, 1) := by decide +kernel
theorem dX1_exchangeRuns_11 : decode cX1_exchangeRuns 11 = .ok (.iload_n 2, 1) := by decide +kernel
theorem dX1_exchangeRuns_12 : decode cX1_exchangeRuns 12 = .ok (.isub, 1) := by decide +kernel
theorem dX1_exchangeRuns_13 : decode cX1_exchangeRuns 13 = .ok (.invokevirtual 36, 3) := by decide +kernel
theorem dX1_exchangeRuns_16 : decode cX1_exchangeRuns 16 = .ok (.aload_n 0, 1) := by decide +kernel
theorem dX1_exchangeRuns_17 : decode cX1_exchangeRuns 17 = .ok (.iload_n 1, 1) := by decide +kernel
theorem dX1_exchangeRuns_18 : decode cX1_exchangeRuns 18 = .ok (.iload_n 3, 1) := by decide +kernel
theorem dX1_exchangeRuns_19 : decode cX1_exchangeRuns 19 = .ok (.iadd, 1) := by decide +kernel
theorem dX1_exchangeRuns_20 : decode cX1_exchangeRuns 20 = .ok (.iload_n 2, 1) := by decide +kernel
theorem dX1_exchangeRuns_21 : decode cX1_exchangeRuns 21 = .ok (.isub, 1) := by decide +kernel
theorem dX1_exchangeRuns_22 : decode cX1_exchangeRuns 22 = .ok (.iload_n 3, 1) := by decide +kernel
theorem dX1_exchangeRuns_23 : decode cX1_exchangeRuns 23 = .ok (.invokevirtual 36, 3) := by decide +kernel
theorem dX1_exchangeRuns_26 : decode cX1_exchangeRuns 26 = .ok (.return_, 1) := by decide +kernel
theorem dX1_clear_0 : decode cX1_clear 0 = .ok (.aload_n 0, 1) := by decide +kernel
theorem dX1_clear_1 : decode cX1_clear 1 = .ok (.iconst 0, 1) := by decide +kernel
theorem dX1_clear_2 : decode cX1_clear 2 = .ok (.putfield 21, 3) := by decide +kernel
theorem dX1_clear_5 : decode cX1_clear 5 = .ok (.return_, 1) := by decide +kernel
theorem dX1_takeFrom_0 : decode cX1_takeFrom 0 = .ok (.aload_n 0, 1) := by decide +kernel
theorem dX1_takeFrom_1 : decode cX1_takeFrom 1 = .ok (.aload_n 1, 1) := by decide +kernel
theorem dX1_takeFrom_2 : decode cX1_takeFrom 2 = .ok (.getfield 21, 3) := by decide +kernel
theorem dX1_takeFrom_5 : decode cX1_takeFrom 5 = .ok (.aload_n 1, 1) := by decide +kernel
theorem dX1_takeFrom_6 : decode cX1_takeFrom 6 = .ok (.getfield 15, 3) := by decide +kernel
theorem dX1_takeFrom_9 : decode cX1_takeFrom 9 = .ok (.arraylength, 1) := by decide +kernel
theorem dX1_takeFrom_10 : decode cX1_takeFrom 10 = .ok (.aload_n 0, 1) := by decide +kernel
theorem dX1_takeFrom_11 : decode cX1_takeFrom 11 = .ok (.getfield 15, 3) := by decide +kernel
theorem dX1_takeFrom_14 : decode cX1_takeFrom 14 = .ok (.arraylength, 1) := by decide +kernel
theorem dX1_takeFrom_15 : decode cX1_takeFrom 15 = .ok (.invokestatic 39, 3) := by decide +kernel
theorem dX1_takeFrom_18 : decode cX1_takeFrom 18 = .ok (.invokestatic 39, 3) := by decide +kernel
theorem dX1_takeFrom_21 : decode cX1_takeFrom 21 = .ok (.putfield 21, 3) := by decide +kernel
theorem dX1_takeFrom_24 : decode cX1_takeFrom 24 = .ok (.iconst 0, 1) := by decide +kernel
theorem dX1_takeFrom_25 : decode cX1_takeFrom 25 = .ok (.istore_n 2, 1) := by decide +kernel
theorem dX1_takeFrom_26 : decode cX1_takeFrom 26 = .ok (.iload_n 2, 1) := by decide +kernel
theorem dX1_takeFrom_27 : decode cX1_takeFrom 27 = .ok (.aload_n 0, 1) := by decide +kernel
theorem dX1_takeFrom_28 : decode cX1_takeFrom 28 = .ok (.getfield 21, 3) := by decide +kernel
theorem dX1_takeFrom_31 : decode cX1_takeFrom 31 = .ok (.if_icmp .ge 21, 3) := by decide +kernel
theorem dX1_takeFrom_34 : decode cX1_takeFrom 34 = .ok (.aload_n 0, 1) := by decide +kernel
theorem dX1_takeFrom_35 : decode cX1_takeFrom 35 = .ok (.getfield 15, 3) := by decide +kernel
theorem dX1_takeFrom_38 : decode cX1_takeFrom 38 = .ok (.iload_n 2, 1) := by decide +kernel
theorem dX1_takeFrom_39 : decode cX1_takeFrom 39 = .ok (.aload_n 1, 1) := by decide +kernel
theorem dX1_takeFrom_40 : decode cX1_takeFrom 40 = .ok (.getfield 15, 3) := by decide +kernel
theorem dX1_takeFrom_43 : decode cX1_takeFrom 43 = .ok (.iload_n 2, 1) := by decide +kernel
theorem dX1_takeFrom_44 : decode cX1_takeFrom 44 = .ok (.iaload, 1) := by decide +kernel
theorem dX1_takeFrom_45 : decode cX1_takeFrom 45 = .ok (.iastore, 1) := by decide +kernel
theorem dX1_takeFrom_46 : decode cX1_takeFrom 46 = .ok (.iinc 2 1, 3) := by decide +kernel
theorem dX1_takeFrom_49 : decode cX1_takeFrom 49 = .ok (.goto (-23), 3) := by decide +kernel
theorem dX1_takeFrom_52 : decode cX1_takeFrom 52 = .ok (.return_, 1) := by decide +kernel
theorem dX2_init_0 : decode cX2_init 0 = .ok (.aload_n 0, 1) := by decide +kernel
theorem dX2_init_1 : decode cX2_init 1 = .ok (.invokespecial 3, 3) := by decide +kernel
theorem dX2_init_4 : decode cX2_init 4 = .ok (.aload_n 0, 1) := by decide +kernel
theorem dX2_init_5 : decode cX2_init 5 = .ok (.new 9, 3) := by decide +kernel
theorem dX2_init_8 : decode cX2_init 8 = .ok (.dup, 1) := by decide +kernel
theorem dX2_init_9 : decode cX2_init 9 = .ok (.invokespecial 11, 3) := by decide +kernel
theorem dX2_init_12 : decode cX2_init 12 = .ok (.putfield 12, 3) := by decide +kernel
theorem dX2_init_15 : decode cX2_init 15 = .ok (.aload_n 0, 1) := by decide +kernel
theorem dX2_init_16 : decode cX2_init 16 = .ok (.new 18, 3) := by decide +kernel
theorem dX2_init_19 : decode cX2_init 19 = .ok (.dup, 1) := by decide +kernel
theorem dX2_init_20 : decode cX2_init 20 = .ok (.bipush 7, 2) := by decide +kernel
theorem dX2_init_22 : decode cX2_init 22 = .ok (.invokespecial 20, 3) := by decide +kernel
theorem dX2_init_25 : decode cX2_init 25 = .ok (.putfield 23, 3) := by decide +kernel
theorem dX2_init_28 : decode cX2_init 28 = .ok (.return_, 1) := by decide +kernel
theorem dX2_passOver_0 : decode cX2_passOver 0 = .ok (.aload_n 0, 1) := by decide +kernel
theorem dX2_passOver_1 : decode cX2_passOver 1 = .ok (.getfield 12, 3) := by decide +kernel
theorem dX2_passOver_4 : decode cX2_passOver 4 = .ok (.invokevirtual 27, 3) := by decide +kernel
theorem dX2_passOver_7 : decode cX2_passOver 7 = .ok (.aload_n 0, 1) := by decide +kernel
theorem dX2_passOver_8 : decode cX2_passOver 8 = .ok (.getfield 23, 3) := by decide +kernel
theorem dX2_passOver_11 : decode cX2_passOver 11 = .ok (.invokevirtual 30, 3) := by decide +kernel
theorem dX2_passOver_14 : decode cX2_passOver 14 = .ok (.aload_n 0, 1) := by decide +kernel
theorem dX2_passOver_15 : decode cX2_passOver 15 = .ok (.iconst 1, 1) := by decide +kernel
theorem dX2_passOver_16 : decode cX2_passOver 16 = .ok (.putfield 31, 3) := by decide +kernel
theorem dX2_passOver_19 : decode cX2_passOver 19 = .ok (.aload_n 0, 1) := by decide +kernel
theorem dX2_passOver_20 : decode cX2_passOver 20 = .ok (.iconst 0, 1) := by decide +kernel
theorem dX2_passOver_21 : decode cX2_passOver 21 = .ok (.putfield 35, 3) := by decide +kernel
theorem dX2_passOver_24 : decode cX2_passOver 24 = .ok (.iconst 0, 1) := by decide +kernel
theorem dX2_passOver_25 : decode cX2_passOver 25 = .ok (.istore_n 2, 1) := by decide +kernel
theorem dX2_passOver_26 : decode cX2_passOver 26 = .ok (.iload_n 2, 1) := by decide +kernel
theorem dX2_passOver_27 : decode cX2_passOver 27 = .ok (.aload_n 1, 1) := by decide +kernel
theorem dX2_passOver_28 : decode cX2_passOver 28 = .ok (.invokevirtual 39, 3) := by decide +kernel
theorem dX2_passOver_31 : decode cX2_passOver 31 = .ok (.if_icmp .ge 34, 3) := by decide +kernel
theorem dX2_passOver_34 : decode cX2_passOver 34 = .ok (.aload_n 0, 1) := by decide +kernel
theorem dX2_passOver_35 : decode cX2_passOver 35 = .ok (.getfield 35, 3) := by decide +kernel
theorem dX2_passOver_38 : decode cX2_passOver 38 = .ok (.ifCond .ne 27, 3) := by decide +kernel
theorem dX2_passOver_41 : decode cX2_passOver 41 = .ok (.aload_n 0, 1) := by decide +kernel
theorem dX2_passOver_42 : decode cX2_passOver 42 = .ok (.iload_n 2, 1) := by decide +kernel
theorem dX2_passOver_43 : decode cX2_passOver 43 = .ok (.putfield 43, 3) := by decide +kernel
theorem dX2_passOver_46 : decode cX2_passOver 46 = .ok (.aload_n 0, 1) := by decide +kernel
theorem dX2_passOver_47 : decode cX2_passOver 47 = .ok (.aload_n 0, 1) := by decide +kernel
theorem dX2_passOver_48 : decode cX2_passOver 48 = .ok (.aload_n 1, 1) := by decide +kernel
theorem dX2_passOver_49 : decode cX2_passOver 49 = .ok (.iload_n 2, 1) := by decide +kernel
theorem dX2_passOver_50 : decode cX2_passOver 50 = .ok (.invokevirtual 46, 3) := by decide +kernel
theorem dX2_passOver_53 : decode cX2_passOver 53 = .ok (.invokevirtual 50, 3) := by decide +kernel
theorem dX2_passOver_56 : decode cX2_passOver 56 = .ok (.putfield 35, 3) := by decide +kernel
theorem dX2_passOver_59 : decode cX2_passOver 59 = .ok (.iinc 2 1, 3) := by decide +kernel
theorem dX2_passOver_62 : decode cX2_passOver 62 = .ok (.goto (-36), 3) := by decide +kernel
theorem dX2_passOver_65 : decode cX2_passOver 65 = .ok (.aload_n 0, 1) := by decide +kernel
theorem dX2_passOver_66 : decode cX2_passOver 66 = .ok (.getfield 35, 3) := by decide +kernel
theorem dX2_passOver_69 : decode cX2_passOver 69 = .ok (.ifCond .ne 33, 3) := by decide +kernel
theorem dX2_passOver_72 : decode cX2_passOver 72 = .ok (.aload_n 0, 1) := by decide +kernel
theorem dX2_passOver_73 : decode cX2_passOver 73 = .ok (.getfield 31, 3) := by decide +kernel
theorem dX2_passOver_76 : decode cX2_passOver 76 = .ok (.ifCond .ne 13, 3) := by decide +kernel
theorem dX2_passOver_79 : decode cX2_passOver 79 = .ok (.aload_n 0, 1) := by decide +kernel
theorem dX2_passOver_80 : decode cX2_passOver 80 = .ok (.getfield 23, 3) := by decide +kernel
theorem dX2_passOver_83 : decode cX2_passOver 83 = .ok (.invokevirtual 39, 3) := by decide +kernel
theorem dX2_passOver_86 : decode cX2_passOver 86 = .ok (.ifCond .le 16, 3) := by decide +kernel
theorem dX2_passOver_89 : decode cX2_passOver 89 = .ok (.aload_n 0, 1) := by decide +kernel
theorem dX2_passOver_90 : decode cX2_passOver 90 = .ok (.aload_n 1, 1) := by decide +kernel
theorem dX2_passOver_91 : decode cX2_passOver 91 = .ok (.invokevirtual 39, 3) := by decide +kernel
theorem dX2_passOver_94 : decode cX2_passOver 94 = .ok (.putfield 43, 3) := by decide +kernel
theorem dX2_passOver_97 : decode cX2_passOver 97 = .ok (.aload_n 0, 1) := by decide +kernel
theorem dX2_passOver_98 : decode cX2_passOver 98 = .ok (.iconst 1, 1) := by decide +kernel
theorem dX2_passOver_99 : decode cX2_passOver 99 = .ok (.putfield 35, 3) := by decide +kernel
theorem dX2_passOver_102 : decode cX2_passOver 102 = .ok (.return_, 1) := by decide +kernel
theorem dX2_reasonAgainst_0 : decode cX2_reasonAgainst 0 = .ok (.aload_n 0, 1) := by decide +kernel
theorem dX2_reasonAgainst_1 : decode cX2_reasonAgainst 1 = .ok (.getfield 31, 3) := by decide +kernel
theorem dX2_reasonAgainst_4 : decode cX2_reasonAgainst 4 = .ok (.ifCond .eq 12, 3) := by decide +kernel
theorem dX2_reasonAgainst_7 : decode cX2_reasonAgainst 7 = .ok (.aload_n 0, 1) := by decide +kernel
theorem dX2_reasonAgainst_8 : decode cX2_reasonAgainst 8 = .ok (.iload_n 1, 1) := by decide +kernel
theorem dX2_reasonAgainst_9 : decode cX2_reasonAgainst 9 = .ok (.bipush 97, 2) := by decide +kernel
theorem dX2_reasonAgainst_11 : decode cX2_reasonAgainst 11 = .ok (.isub, 1) := by decide +kernel
theorem dX2_reasonAgainst_12 : decode cX2_reasonAgainst 12 = .ok (.invokevirtual 53, 3) := by decide +kernel
theorem dX2_reasonAgainst_15 : decode cX2_reasonAgainst 15 = .ok (.ireturn, 1) := by decide +kernel
theorem dX2_reasonAgainst_16 : decode cX2_reasonAgainst 16 = .ok (.iload_n 1, 1) := by decide +kernel
theorem dX2_reasonAgainst_17 : decode cX2_reasonAgainst 17 = .ok (.bipush 40, 2) := by decide +kernel
theorem dX2_reasonAgainst_19 : decode cX2_reasonAgainst 19 = .ok (.if_icmp .ne 8, 3) := by decide +kernel
theorem dX2_reasonAgainst_22 : decode cX2_reasonAgainst 22 = .ok (.aload_n 0, 1) := by decide +kernel
theorem dX2_reasonAgainst_23 : decode cX2_reasonAgainst 23 = .ok (.invokevirtual 56, 3) := by decide +kernel
theorem dX2_reasonAgainst_26 : decode cX2_reasonAgainst 26 = .ok (.ireturn, 1) := by decide +kernel
theorem dX2_reasonAgainst_27 : decode cX2_reasonAgainst 27 = .ok (.aload_n 0, 1) := by decide +kernel
theorem dX2_reasonAgainst_28 : decode cX2_reasonAgainst 28 = .ok (.getfield 23, 3) := by decide +kernel
theorem dX2_reasonAgainst_31 : decode cX2_reasonAgainst 31 = .ok (.invokevirtual 39, 3) := by decide +kernel
theorem dX2_reasonAgainst_34 : decode cX2_reasonAgainst 34 = .ok (.ifCond .ne 5, 3) := by decide +kernel
theorem dX2_reasonAgainst_37 : decode cX2_reasonAgainst 37 = .ok (.iconst 1, 1) := by decide +kernel
theorem dX2_reasonAgainst_38 : decode cX2_reasonAgainst 38 = .ok (.ireturn, 1) := by decide +kernel
theorem dX2_reasonAgainst_39 : decode cX2_reasonAgainst 39 = .ok (.iload_n 1, 1) := by decide +kernel
theorem dX2_reasonAgainst_40 : decode cX2_reasonAgainst 40 = .ok (.bipush 44, 2) := by decide +kernel
theorem dX2_reasonAgainst_42 : decode cX2_reasonAgainst 42 = .ok (.if_icmp .ne 8, 3) := by decide +kernel
theorem dX2_reasonAgainst_45 : decode cX2_reasonAgainst 45 = .ok (.aload_n 0, 1) := by decide +kernel
theorem dX2_reasonAgainst_46 : decode cX2_reasonAgainst 46 = .ok (.invokevirtual 59, 3) := by decide +kernel
theorem dX2_reasonAgainst_49 : decode cX2_reasonAgainst 49 = .ok (.ireturn, 1) := by decide +kernel
theorem dX2_reasonAgainst_50 : decode cX2_reasonAgainst 50 = .ok (.iload_n 1, 1) := by decide +kernel
theorem dX2_reasonAgainst_51 : decode cX2_reasonAgainst 51 = .ok (.bipush 41, 2) := by decide +kernel
theorem dX2_reasonAgainst_53 : decode cX2_reasonAgainst 53 = .ok (.if_icmp .ne 8, 3) := by decide +kernel
theorem dX2_reasonAgainst_56 : decode cX2_reasonAgainst 56 = .ok (.aload_n 0, 1) := by decide +kernel
theorem dX2_reasonAgainst_57 : decode cX2_reasonAgainst 57 = .ok (.invokevirtual 62, 3) := by decide +kernel
theorem dX2_reasonAgainst_60 : decode cX2_reasonAgainst 60 = .ok (.ireturn, 1) := by decide +kernel
theorem dX2_reasonAgainst_61 : decode cX2_reasonAgainst 61 = .ok (.iconst 1, 1) := by decide +kernel
theorem dX2_reasonAgainst_62 : decode cX2_reasonAgainst 62 = .ok (.ireturn, 1) := by decide +kernel
theorem dX2_passLetter_0 : decode cX2_passLetter 0 = .ok (.iload_n 1, 1) := by decide +kernel
theorem dX2_passLetter_1 : decode cX2_passLetter 1 = .ok (.invokestatic 65, 3) := by decide +kernel
theorem dX2_passLetter_4 : decode cX2_passLetter 4 = .ok (.ifCond .ne 5, 3) := by decide +kernel
theorem dX2_passLetter_7 : decode cX2_passLetter 7 = .ok (.iconst 1, 1) := by decide +kernel
theorem dX2_passLetter_8 : decode cX2_passLetter 8 = .ok (.ireturn, 1) := by decide +kernel
theorem dX2_passLetter_9 : decode cX2_passLetter 9 = .ok (.aload_n 0, 1) := by decide +kernel
theorem dX2_passLetter_10 : decode cX2_passLetter 10 = .ok (.getfield 12, 3) := by decide +kernel
theorem dX2_passLetter_13 : decode cX2_passLetter 13 = .ok (.invokevirtual 69, 3) := by decide +kernel
theorem dX2_passLetter_16 : decode cX2_passLetter 16 = .ok (.bipush 40, 2) := by decide +kernel
theorem dX2_passLetter_18 : decode cX2_passLetter 18 = .ok (.if_icmp .lt 5, 3) := by decide +kernel
theorem dX2_passLetter_21 : decode cX2_passLetter 21 = .ok (.iconst 2, 1) := by decide +kernel
theorem dX2_passLetter_22 : decode cX2_passLetter 22 = .ok (.ireturn, 1) := by decide +kernel
theorem dX2_passLetter_23 : decode cX2_passLetter 23 = .ok (.aload_n 0, 1) := by decide +kernel
theorem dX2_passLetter_24 : decode cX2_passLetter 24 = .ok (.getfield 12, 3) := by decide +kernel
theorem dX2_passLetter_27 : decode cX2_passLetter 27 = .ok (.aload_n 0, 1) := by decide +kernel
theorem dX2_passLetter_28 : decode cX2_passLetter 28 = .ok (.getfield 12, 3) := by decide +kernel
theorem dX2_passLetter_31 : decode cX2_passLetter 31 = .ok (.invokevirtual 69, 3) := by decide +kernel
theorem dX2_passLetter_34 : decode cX2_passLetter 34 = .ok (.iload_n 1, 1) := by decide +kernel
theorem dX2_passLetter_35 : decode cX2_passLetter 35 = .ok (.aload_n 0, 1) := by decide +kernel
theorem dX2_passLetter_36 : decode cX2_passLetter 36 = .ok (.getfield 23, 3) := by decide +kernel
theorem dX2_passLetter_39 : decode cX2_passLetter 39 = .ok (.invokevirtual 39, 3) := by decide +kernel
theorem dX2_passLetter_42 : decode cX2_passLetter 42 = .ok (.invokevirtual 70, 3) := by decide +kernel
theorem dX2_passLetter_45 : decode cX2_passLetter 45 = .ok (.aload_n 0, 1) := by decide +kernel
theorem dX2_passLetter_46 : decode cX2_passLetter 46 = .ok (.getfield 23, 3) := by decide +kernel
theorem dX2_passLetter_49 : decode cX2_passLetter 49 = .ok (.invokevirtual 39, 3) := by decide +kernel
theorem dX2_passLetter_52 : decode cX2_passLetter 52 = .ok (.iconst 1, 1) := by decide +kernel
theorem dX2_passLetter_53 : decode cX2_passLetter 53 = .ok (.isub, 1) := by decide +kernel
theorem dX2_passLetter_54 : decode cX2_passLetter 54 = .ok (.istore_n 2, 1) := by decide +kernel
theorem dX2_passLetter_55 : decode cX2_passLetter 55 = .ok (.aload_n 0, 1) := by decide +kernel
theorem dX2_passLetter_56 : decode cX2_passLetter 56 = .ok (.getfield 23, 3) := by decide +kernel
theorem dX2_passLetter_59 : decode cX2_passLetter 59 = .ok (.iload_n 2, 1) := by decide +kernel
theorem dX2_passLetter_60 : decode cX2_passLetter 60 = .ok (.aload_n 0, 1) := by decide +kernel
theorem dX2_passLetter_61 : decode cX2_passLetter 61 = .ok (.getfield 23, 3) := by decide +kernel
theorem dX2_passLetter_64 : decode cX2_passLetter 64 = .ok (.iload_n 2, 1) := by decide +kernel
theorem dX2_passLetter_65 : decode cX2_passLetter 65 = .ok (.invokevirtual 46, 3) := by decide +kernel
theorem dX2_passLetter_68 : decode cX2_passLetter 68 = .ok (.iconst 1, 1) := by decide +kernel
theorem dX2_passLetter_69 : decode cX2_passLetter 69 = .ok (.iadd, 1) := by decide +kernel
theorem dX2_passLetter_70 : decode cX2_passLetter 70 = .ok (.invokevirtual 74, 3) := by decide +kernel
theorem dX2_passLetter_73 : decode cX2_passLetter 73 = .ok (.aload_n 0, 1) := by decide +kernel
theorem dX2_passLetter_74 : decode cX2_passLetter 74 = .ok (.iconst 0, 1) := by decide +kernel
theorem dX2_passLetter_75 : decode cX2_passLetter 75 = .ok (.putfield 31, 3) := by decide +kernel
theorem dX2_passLetter_78 : decode cX2_passLetter 78 = .ok (.aload_n 0, 1) := by decide +kernel
theorem dX2_passLetter_79 : decode cX2_passLetter 79 = .ok (.iconst 1, 1) := by decide +kernel
theorem dX2_passLetter_80 : decode cX2_passLetter 80 = .ok (.putfield 78, 3) := by decide +kernel
theorem dX2_passLetter_83 : decode cX2_passLetter 83 = .ok (.iconst 0, 1) := by decide +kernel
theorem dX2_passLetter_84 : decode cX2_passLetter 84 = .ok (.ireturn, 1) := by decide +kernel
theorem dX2_passOpening_0 : decode cX2_passOpening 0 = .ok (.aload_n 0, 1) := by decide +kernel
theorem dX2_passOpening_1 : decode cX2_passOpening 1 = .ok (.getfield 78, 3) := by decide +kernel
theorem dX2_passOpening_4 : decode cX2_passOpening 4 = .ok (.ifCond .ne 5, 3) := by decide +kernel
theorem dX2_passOpening_7 : decode cX2_passOpening 7 = .ok (.iconst 1, 1) := by decide +kernel
theorem dX2_passOpening_8 : decode cX2_passOpening 8 = .ok (.ireturn, 1) := by decide +kernel
theorem dX2_passOpening_9 : decode cX2_passOpening 9 = .ok (.aload_n 0, 1) := by decide +kernel
theorem dX2_passOpening_10 : decode cX2_passOpening 10 = .ok (.getfield 23, 3) := by decide +kernel
theorem dX2_passOpening_13 : decode cX2_passOpening 13 = .ok (.invokevirtual 39, 3) := by decide +kernel
theorem dX2_passOpening_16 : decode cX2_passOpening 16 = .ok (.bipush 7, 2) := by decide +kernel
theorem dX2_passOpening_18 : decode cX2_passOpening 18 = .ok (.if_icmp .lt 5, 3) := by decide +kernel
theorem dX2_passOpening_21 : decode cX2_passOpening 21 = .ok (.iconst 3, 1) := by decide +kernel
theorem dX2_passOpening_22 : decode cX2_passOpening 22 = .ok (.ireturn, 1) := by decide +kernel
theorem dX2_passOpening_23 : decode cX2_passOpening 23 = .ok (.aload_n 0, 1) := by decide +kernel
theorem dX2_passOpening_24 : decode cX2_passOpening 24 = .ok (.getfield 23, 3) := by decide +kernel
theorem dX2_passOpening_27 : decode cX2_passOpening 27 = .ok (.iconst 0, 1) := by decide +kernel
theorem dX2_passOpening_28 : decode cX2_passOpening 28 = .ok (.invokevirtual 81, 3) := by decide +kernel
theorem dX2_passOpening_31 : decode cX2_passOpening 31 = .ok (.aload_n 0, 1) := by decide +kernel
theorem dX2_passOpening_32 : decode cX2_passOpening 32 = .ok (.iconst 1, 1) := by decide +kernel
theorem dX2_passOpening_33 : decode cX2_passOpening 33 = .ok (.putfield 31, 3) := by decide +kernel
theorem dX2_passOpening_36 : decode cX2_passOpening 36 = .ok (.iconst 0, 1) := by decide +kernel
theorem dX2_passOpening_37 : decode cX2_passOpening 37 = .ok (.ireturn, 1) := by decide +kernel
theorem dX2_passComma_0 : decode cX2_passComma 0 = .ok (.aload_n 0, 1) := by decide +kernel
theorem dX2_passComma_1 : decode cX2_passComma 1 = .ok (.getfield 23, 3) := by decide +kernel
theorem dX2_passComma_4 : decode cX2_passComma 4 = .ok (.aload_n 0, 1) := by decide +kernel
theorem dX2_passComma_5 : decode cX2_passComma 5 = .ok (.getfield 23, 3) := by decide +kernel
theorem dX2_passComma_8 : decode cX2_passComma 8 = .ok (.invokevirtual 39, 3) := by decide +kernel
theorem dX2_passComma_11 : decode cX2_passComma 11 = .ok (.iconst 1, 1) := by decide +kernel
theorem dX2_passComma_12 : decode cX2_passComma 12 = .ok (.isub, 1) := by decide +kernel
theorem dX2_passComma_13 : decode cX2_passComma 13 = .ok (.invokevirtual 46, 3) := by decide +kernel
theorem dX2_passComma_16 : decode cX2_passComma 16 = .ok (.bipush 6, 2) := by decide +kernel
theorem dX2_passComma_18 : decode cX2_passComma 18 = .ok (.if_icmp .lt 5, 3) := by decide +kernel
theorem dX2_passComma_21 : decode cX2_passComma 21 = .ok (.iconst 4, 1) := by decide +kernel
theorem dX2_passComma_22 : decode cX2_passComma 22 = .ok (.ireturn, 1) := by decide +kernel
theorem dX2_passComma_23 : decode cX2_passComma 23 = .ok (.aload_n 0, 1) := by decide +kernel
theorem dX2_passComma_24 : decode cX2_passComma 24 = .ok (.iconst 1, 1) := by decide +kernel
theorem dX2_passComma_25 : decode cX2_passComma 25 = .ok (.putfield 31, 3) := by decide +kernel
theorem dX2_passComma_28 : decode cX2_passComma 28 = .ok (.iconst 0, 1) := by decide +kernel
theorem dX2_passComma_29 : decode cX2_passComma 29 = .ok (.ireturn, 1) := by decide +kernel
theorem dX2_passClosing_0 : decode cX2_passClosing 0 = .ok (.aload_n 0, 1) := by decide +kernel
theorem dX2_passClosing_1 : decode cX2_passClosing 1 = .ok (.getfield 23, 3) := by decide +kernel
theorem dX2_passClosing_4 : decode cX2_passClosing 4 = .ok (.aload_n 0, 1) := by decide +kernel
theorem dX2_passClosing_5 : decode cX2_passClosing 5 = .ok (.getfield 23, 3) := by decide +kernel
theorem dX2_passClosing_8 : decode cX2_passClosing 8 = .ok (.invokevirtual 39, 3) := by decide +kernel
theorem dX2_passClosing_11 : decode cX2_passClosing 11 = .ok (.iconst 1, 1) := by decide +kernel
theorem dX2_passClosing_12 : decode cX2_passClosing 12 = .ok (.isub, 1) := by decide +kernel
theorem dX2_passClosing_13 : decode cX2_passClosing 13 = .ok (.aload_n 0, 1) := by decide +kernel
theorem dX2_passClosing_14 : decode cX2_passClosing 14 = .ok (.getfield 23, 3) := by decide +kernel
theorem dX2_passClosing_17 : decode cX2_passClosing 17 = .ok (.invokevirtual 39, 3) := by decide +kernel
theorem dX2_passClosing_20 : decode cX2_passClosing 20 = .ok (.invokevirtual 84, 3) := by decide +kernel
theorem dX2_passClosing_23 : decode cX2_passClosing 23 = .ok (.aload_n 0, 1) := by decide +kernel
theorem dX2_passClosing_24 : decode cX2_passClosing 24 = .ok (.iconst 0, 1) := by decide +kernel
theorem dX2_passClosing_25 : decode cX2_passClosing 25 = .ok (.putfield 78, 3) := by decide +kernel
theorem dX2_passClosing_28 : decode cX2_passClosing 28 = .ok (.iconst 0, 1) := by decide +kernel
theorem dX2_passClosing_29 : decode cX2_passClosing 29 = .ok (.ireturn, 1) := by decide +kernel
theorem dX3_init_0 : decode cX3_init 0 = .ok (.aload_n 0, 1) := by decide +kernel
theorem dX3_init_1 : decode cX3_init 1 = .ok (.invokespecial 3, 3) := by decide +kernel
theorem dX3_init_4 : decode cX3_init 4 = .ok (.aload_n 0, 1) := by decide +kernel
theorem dX3_init_5 : decode cX3_init 5 = .ok (.new 9, 3) := by decide +kernel
theorem dX3_init_8 : decode cX3_init 8 = .ok (.dup, 1) := by decide +kernel
theorem dX3_init_9 : decode cX3_init 9 = .ok (.invokespecial 11, 3) := by decide +kernel
theorem dX3_init_12 : decode cX3_init 12 = .ok (.putfield 12, 3) := by decide +kernel
theorem dX3_init_15 : decode cX3_init 15 = .ok (.aload_n 0, 1) := by decide +kernel
theorem dX3_init_16 : decode cX3_init 16 = .ok (.new 9, 3) := by decide +kernel
theorem dX3_init_19 : decode cX3_init 19 = .ok (.dup, 1) := by decide +kernel
theorem dX3_init_20 : decode cX3_init 20 = .ok (.invokespecial 11, 3) := by decide +kernel
theorem dX3_init_23 : decode cX3_init 23 = .ok (.putfield 18, 3) := by decide +kernel
theorem dX3_init_26 : decode cX3_init 26 = .ok (.aload_n 0, 1) := by decide +kernel
theorem dX3_init_27 : decode cX3_init 27 = .ok (.new 21, 3) := by decide +kernel
theorem dX3_init_30 : decode cX3_init 30 = .ok (.dup, 1) := by decide +kernel
theorem dX3_init_31 : decode cX3_init 31 = .ok (.bipush 40, 2) := by decide +kernel
theorem dX3_init_33 : decode cX3_init 33 = .ok (.invokespecial 23, 3) := by decide +kernel
theorem dX3_init_36 : decode cX3_init 36 = .ok (.putfield 26, 3) := by decide +kernel
theorem dX3_init_39 : decode cX3_init 39 = .ok (.aload_n 0, 1) := by decide +kernel
theorem dX3_init_40 : decode cX3_init 40 = .ok (.new 21, 3) := by decide +kernel
theorem dX3_init_43 : decode cX3_init 43 = .ok (.dup, 1) := by decide +kernel
theorem dX3_init_44 : decode cX3_init 44 = .ok (.bipush 8, 2) := by decide +kernel
theorem dX3_init_46 : decode cX3_init 46 = .ok (.invokespecial 23, 3) := by decide +kernel
theorem dX3_init_49 : decode cX3_init 49 = .ok (.putfield 30, 3) := by decide +kernel
theorem dX3_init_52 : decode cX3_init 52 = .ok (.aload_n 0, 1) := by decide +kernel
theorem dX3_init_53 : decode cX3_init 53 = .ok (.new 21, 3) := by decide +kernel
theorem dX3_init_56 : decode cX3_init 56 = .ok (.dup, 1) := by decide +kernel
theorem dX3_init_57 : decode cX3_init 57 = .ok (.iconst 4, 1) := by decide +kernel
theorem dX3_init_58 : decode cX3_init 58 = .ok (.invokespecial 23, 3) := by decide +kernel
theorem dX3_init_61 : decode cX3_init 61 = .ok (.putfield 33, 3) := by decide +kernel
theorem dX3_init_64 : decode cX3_init 64 = .ok (.aload_n 0, 1) := by decide +kernel
theorem dX3_init_65 : decode cX3_init 65 = .ok (.invokevirtual 36, 3) := by decide +kernel
theorem dX3_init_68 : decode cX3_init 68 = .ok (.return_, 1) := by decide +kernel
theorem dX3_takeFrom_0 : decode cX3_takeFrom 0 = .ok (.aload_n 0, 1) := by decide +kernel
theorem dX3_takeFrom_1 : decode cX3_takeFrom 1 = .ok (.getfield 12, 3) := by decide +kernel
theorem dX3_takeFrom_4 : decode cX3_takeFrom 4 = .ok (.aload_n 1, 1) := by decide +kernel
theorem dX3_takeFrom_5 : decode cX3_takeFrom 5 = .ok (.getfield 12, 3) := by decide +kernel
theorem dX3_takeFrom_8 : decode cX3_takeFrom 8 = .ok (.invokevirtual 39, 3) := by decide +kernel
theorem dX3_takeFrom_11 : decode cX3_takeFrom 11 = .ok (.aload_n 0, 1) := by decide +kernel
theorem dX3_takeFrom_12 : decode cX3_takeFrom 12 = .ok (.getfield 18, 3) := by decide +kernel
theorem dX3_takeFrom_15 : decode cX3_takeFrom 15 = .ok (.aload_n 1, 1) := by decide +kernel
theorem dX3_takeFrom_16 : decode cX3_takeFrom 16 = .ok (.getfield 18, 3) := by decide +kernel
theorem dX3_takeFrom_19 : decode cX3_takeFrom 19 = .ok (.invokevirtual 39, 3) := by decide +kernel
theorem dX3_takeFrom_22 : decode cX3_takeFrom 22 = .ok (.aload_n 0, 1) := by decide +kernel
theorem dX3_takeFrom_23 : decode cX3_takeFrom 23 = .ok (.getfield 26, 3) := by decide +kernel
theorem dX3_takeFrom_26 : decode cX3_takeFrom 26 = .ok (.aload_n 1, 1) := by decide +kernel
theorem dX3_takeFrom_27 : decode cX3_takeFrom 27 = .ok (.getfield 26, 3) := by decide +kernel
theorem dX3_takeFrom_30 : decode cX3_takeFrom 30 = .ok (.invokevirtual 43, 3) := by decide +kernel
theorem dX3_takeFrom_33 : decode cX3_takeFrom 33 = .ok (.aload_n 0, 1) := by decide +kernel
theorem dX3_takeFrom_34 : decode cX3_takeFrom 34 = .ok (.getfield 30, 3) := by decide +kernel
theorem dX3_takeFrom_37 : decode cX3_takeFrom 37 = .ok (.aload_n 1, 1) := by decide +kernel
theorem dX3_takeFrom_38 : decode cX3_takeFrom 38 = .ok (.getfield 30, 3) := by decide +kernel
theorem dX3_takeFrom_41 : decode cX3_takeFrom 41 = .ok (.invokevirtual 43, 3) := by decide +kernel
theorem dX3_takeFrom_44 : decode cX3_takeFrom 44 = .ok (.aload_n 0, 1) := by decide +kernel
theorem dX3_takeFrom_45 : decode cX3_takeFrom 45 = .ok (.getfield 33, 3) := by decide +kernel
theorem dX3_takeFrom_48 : decode cX3_takeFrom 48 = .ok (.aload_n 1, 1) := by decide +kernel
theorem dX3_takeFrom_49 : decode cX3_takeFrom 49 = .ok (.getfield 33, 3) := by decide +kernel
theorem dX3_takeFrom_52 : decode cX3_takeFrom 52 = .ok (.invokevirtual 43, 3) := by decide +kernel
theorem dX3_takeFrom_55 : decode cX3_takeFrom 55 = .ok (.aload_n 0, 1) := by decide +kernel
theorem dX3_takeFrom_56 : decode cX3_takeFrom 56 = .ok (.aload_n 1, 1) := by decide +kernel
theorem dX3_takeFrom_57 : decode cX3_takeFrom 57 = .ok (.getfield 46, 3) := by decide +kernel
theorem dX3_takeFrom_60 : decode cX3_takeFrom 60 = .ok (.putfield 46, 3) := by decide +kernel
theorem dX3_takeFrom_63 : decode cX3_takeFrom 63 = .ok (.aload_n 0, 1) := by decide +kernel
theorem dX3_takeFrom_64 : decode cX3_takeFrom 64 = .ok (.aload_n 1, 1) := by decide +kernel
theorem dX3_takeFrom_65 : decode cX3_takeFrom 65 = .ok (.getfield 50, 3) := by decide +kernel
theorem dX3_takeFrom_68 : decode cX3_takeFrom 68 = .ok (.putfield 50, 3) := by decide +kernel
theorem dX3_takeFrom_71 : decode cX3_takeFrom 71 = .ok (.return_, 1) := by decide +kernel
theorem dX3_beginWith_0 : decode cX3_beginWith 0 = .ok (.aload_n 0, 1) := by decide +kernel
theorem dX3_beginWith_1 : decode cX3_beginWith 1 = .ok (.getfield 12, 3) := by decide +kernel
theorem dX3_beginWith_4 : decode cX3_beginWith 4 = .ok (.invokevirtual 53, 3) := by decide +kernel
theorem dX3_beginWith_7 : decode cX3_beginWith 7 = .ok (.aload_n 0, 1) := by decide +kernel
theorem dX3_beginWith_8 : decode cX3_beginWith 8 = .ok (.getfield 26, 3) := by decide +kernel
theorem dX3_beginWith_11 : decode cX3_beginWith 11 = .ok (.invokevirtual 56, 3) := by decide +kernel
theorem dX3_beginWith_14 : decode cX3_beginWith 14 = .ok (.aload_n 0, 1) := by decide +kernel
theorem dX3_beginWith_15 : decode cX3_beginWith 15 = .ok (.getfield 30, 3) := by decide +kernel
theorem dX3_beginWith_18 : decode cX3_beginWith 18 = .ok (.invokevirtual 56, 3) := by decide +kernel
theorem dX3_beginWith_21 : decode cX3_beginWith 21 = .ok (.aload_n 0, 1) := by decide +kernel
theorem dX3_beginWith_22 : decode cX3_beginWith 22 = .ok (.invokevirtual 36, 3) := by decide +kernel
theorem dX3_beginWith_25 : decode cX3_beginWith 25 = .ok (.aload_n 0, 1) := by decide +kernel
theorem dX3_beginWith_26 : decode cX3_beginWith 26 = .ok (.iconst 0, 1) := by decide +kernel
theorem dX3_beginWith_27 : decode cX3_beginWith 27 = .ok (.putfield 46, 3) := by decide +kernel
theorem dX3_beginWith_30 : decode cX3_beginWith 30 = .ok (.aload_n 0, 1) := by decide +kernel
theorem dX3_beginWith_31 : decode cX3_beginWith 31 = .ok (.aload_n 1, 1) := by decide +kernel
theorem dX3_beginWith_32 : decode cX3_beginWith 32 = .ok (.iconst 0, 1) := by decide +kernel
theorem dX3_beginWith_33 : decode cX3_beginWith 33 = .ok (.iconst 0, 1) := by decide +kernel
theorem dX3_beginWith_34 : decode cX3_beginWith 34 = .ok (.invokevirtual 57, 3) := by decide +kernel
theorem dX3_beginWith_37 : decode cX3_beginWith 37 = .ok (.return_, 1) := by decide +kernel
theorem dX3_clearMarks_0 : decode cX3_clearMarks 0 = .ok (.aload_n 0, 1) := by decide +kernel
theorem dX3_clearMarks_1 : decode cX3_clearMarks 1 = .ok (.getfield 33, 3) := by decide +kernel
theorem dX3_clearMarks_4 : decode cX3_clearMarks 4 = .ok (.invokevirtual 56, 3) := by decide +kernel
theorem dX3_clearMarks_7 : decode cX3_clearMarks 7 = .ok (.iconst 0, 1) := by decide +kernel
theorem dX3_clearMarks_8 : decode cX3_clearMarks 8 = .ok (.istore_n 1, 1) := by decide +kernel
theorem dX3_clearMarks_9 : decode cX3_clearMarks 9 = .ok (.iload_n 1, 1) := by decide +kernel
theorem dX3_clearMarks_10 : decode cX3_clearMarks 10 = .ok (.iconst 4, 1) := by decide +kernel
theorem dX3_clearMarks_11 : decode cX3_clearMarks 11 = .ok (.if_icmp .ge 17, 3) := by decide +kernel
theorem dX3_clearMarks_14 : decode cX3_clearMarks 14 = .ok (.aload_n 0, 1) := by decide +kernel
theorem dX3_clearMarks_15 : decode cX3_clearMarks 15 = .ok (.getfield 33, 3) := by decide +kernel
theorem dX3_clearMarks_18 : decode cX3_clearMarks 18 = .ok (.iconst (-1), 1) := by decide +kernel
theorem dX3_clearMarks_19 : decode cX3_clearMarks 19 = .ok (.invokevirtual 61, 3) := by decide +kernel
theorem dX3_clearMarks_22 : decode cX3_clearMarks 22 = .ok (.iinc 1 1, 3) := by decide +kernel
theorem dX3_clearMarks_25 : decode cX3_clearMarks 25 = .ok (.goto (-16), 3) := by decide +kernel
theorem dX3_clearMarks_28 : decode cX3_clearMarks 28 = .ok (.return_, 1) := by decide +kernel
theorem dX3_putNodeIn_0 : decode cX3_putNodeIn 0 = .ok (.aload_n 0, 1) := by decide +kernel
theorem dX3_putNodeIn_1 : decode cX3_putNodeIn 1 = .ok (.getfield 12, 3) := by decide +kernel
theorem dX3_putNodeIn_4 : decode cX3_putNodeIn 4 = .ok (.iload_n 1, 1) := by decide +kernel
theorem dX3_putNodeIn_5 : decode cX3_putNodeIn 5 = .ok (.iload_n 2, 1) := by decide +kernel
theorem dX3_putNodeIn_6 : decode cX3_putNodeIn 6 = .ok (.iload_n 3, 1) := by decide +kernel
theorem dX3_putNodeIn_7 : decode cX3_putNodeIn 7 = .ok (.invokevirtual 64, 3) := by decide +kernel
theorem dX3_putNodeIn_10 : decode cX3_putNodeIn 10 = .ok (.aload_n 0, 1) := by decide +kernel
theorem dX3_putNodeIn_11 : decode cX3_putNodeIn 11 = .ok (.getfield 26, 3) := by decide +kernel
theorem dX3_putNodeIn_14 : decode cX3_putNodeIn 14 = .ok (.iload_n 1, 1) := by decide +kernel
theorem dX3_putNodeIn_15 : decode cX3_putNodeIn 15 = .ok (.aload_n 0, 1) := by decide +kernel
theorem dX3_putNodeIn_16 : decode cX3_putNodeIn 16 = .ok (.getfield 50, 3) := by decide +kernel
theorem dX3_putNodeIn_19 : decode cX3_putNodeIn 19 = .ok (.invokevirtual 68, 3) := by decide +kernel
theorem dX3_putNodeIn_22 : decode cX3_putNodeIn 22 = .ok (.aload_n 0, 1) := by decide +kernel
theorem dX3_putNodeIn_23 : decode cX3_putNodeIn 23 = .ok (.dup, 1) := by decide +kernel
theorem dX3_putNodeIn_24 : decode cX3_putNodeIn 24 = .ok (.getfield 50, 3) := by decide +kernel
theorem dX3_putNodeIn_27 : decode cX3_putNodeIn 27 = .ok (.iconst 1, 1) := by decide +kernel
theorem dX3_putNodeIn_28 : decode cX3_putNodeIn 28 = .ok (.iadd, 1) := by decide +kernel
theorem dX3_putNodeIn_29 : decode cX3_putNodeIn 29 = .ok (.putfield 50, 3) := by decide +kernel
theorem dX3_putNodeIn_32 : decode cX3_putNodeIn 32 = .ok (.return_, 1) := by decide +kernel
theorem dX3_putTreeIn_0 : decode cX3_putTreeIn 0 = .ok (.aload_n 1, 1) := by decide +kernel
theorem dX3_putTreeIn_1 : decode cX3_putTreeIn 1 = .ok (.invokevirtual 71, 3) := by decide +kernel
theorem dX3_putTreeIn_4 : decode cX3_putTreeIn 4 = .ok (.istore 4, 2) := by decide +kernel
theorem dX3_putTreeIn_6 : decode cX3_putTreeIn 6 = .ok (.iconst 0, 1) := by decide +kernel
theorem dX3_putTreeIn_7 : decode cX3_putTreeIn 7 = .ok (.istore 5, 2) := by decide +kernel
theorem dX3_putTreeIn_9 : decode cX3_putTreeIn 9 = .ok (.iload 5, 2) := by decide +kernel
theorem dX3_putTreeIn_11 : decode cX3_putTreeIn 11 = .ok (.iload 4, 2) := by decide +kernel
theorem dX3_putTreeIn_13 : decode cX3_putTreeIn 13 = .ok (.if_icmp .ge 31, 3) := by decide +kernel
theorem dX3_putTreeIn_16 : decode cX3_putTreeIn 16 = .ok (.aload_n 0, 1) := by decide +kernel
theorem dX3_putTreeIn_17 : decode cX3_putTreeIn 17 = .ok (.iload_n 2, 1) := by decide +kernel
theorem dX3_putTreeIn_18 : decode cX3_putTreeIn 18 = .ok (.iload 5, 2) := by decide +kernel
theorem dX3_putTreeIn_20 : decode cX3_putTreeIn 20 = .ok (.iadd, 1) := by decide +kernel
theorem dX3_putTreeIn_21 : decode cX3_putTreeIn 21 = .ok (.aload_n 1, 1) := by decide +kernel
theorem dX3_putTreeIn_22 : decode cX3_putTreeIn 22 = .ok (.iload 5, 2) := by decide +kernel
theorem dX3_putTreeIn_24 : decode cX3_putTreeIn 24 = .ok (.invokevirtual 75, 3) := by decide +kernel
theorem dX3_putTreeIn_27 : decode cX3_putTreeIn 27 = .ok (.iload_n 3, 1) := by decide +kernel
theorem dX3_putTreeIn_28 : decode cX3_putTreeIn 28 = .ok (.aload_n 1, 1) := by decide +kernel
theorem dX3_putTreeIn_29 : decode cX3_putTreeIn 29 = .ok (.iload 5, 2) := by decide +kernel
theorem dX3_putTreeIn_31 : decode cX3_putTreeIn 31 = .ok (.invokevirtual 79, 3) := by decide +kernel
theorem dX3_putTreeIn_34 : decode cX3_putTreeIn 34 = .ok (.iadd, 1) := by decide +kernel
theorem dX3_putTreeIn_35 : decode cX3_putTreeIn 35 = .ok (.invokevirtual 82, 3) := by decide +kernel
theorem dX3_putTreeIn_38 : decode cX3_putTreeIn 38 = .ok (.iinc 5 1, 3) := by decide +kernel
theorem dX3_putTreeIn_41 : decode cX3_putTreeIn 41 = .ok (.goto (-32), 3) := by decide +kernel
theorem dX3_putTreeIn_44 : decode cX3_putTreeIn 44 = .ok (.return_, 1) := by decide +kernel
theorem dX3_takeNodesOut_0 : decode cX3_takeNodesOut 0 = .ok (.aload_n 0, 1) := by decide +kernel
theorem dX3_takeNodesOut_1 : decode cX3_takeNodesOut 1 = .ok (.getfield 12, 3) := by decide +kernel
theorem dX3_takeNodesOut_4 : decode cX3_takeNodesOut 4 = .ok (.iload_n 1, 1) := by decide +kernel
theorem dX3_takeNodesOut_5 : decode cX3_takeNodesOut 5 = .ok (.iload_n 2, 1) := by decide +kernel
theorem dX3_takeNodesOut_6 : decode cX3_takeNodesOut 6 = .ok (.invokevirtual 85, 3) := by decide +kernel
theorem dX3_takeNodesOut_9 : decode cX3_takeNodesOut 9 = .ok (.aload_n 0, 1) := by decide +kernel
theorem dX3_takeNodesOut_10 : decode cX3_takeNodesOut 10 = .ok (.getfield 26, 3) := by decide +kernel
theorem dX3_takeNodesOut_13 : decode cX3_takeNodesOut 13 = .ok (.iload_n 1, 1) := by decide +kernel
theorem dX3_takeNodesOut_14 : decode cX3_takeNodesOut 14 = .ok (.iload_n 2, 1) := by decide +kernel
theorem dX3_takeNodesOut_15 : decode cX3_takeNodesOut 15 = .ok (.invokevirtual 88, 3) := by decide +kernel
theorem dX3_takeNodesOut_18 : decode cX3_takeNodesOut 18 = .ok (.return_, 1) := by decide +kernel
theorem dX3_takePlaceOut_0 : decode cX3_takePlaceOut 0 = .ok (.aload_n 0, 1) := by decide +kernel
theorem dX3_takePlaceOut_1 : decode cX3_takePlaceOut 1 = .ok (.getfield 46, 3) := by decide +kernel
theorem dX3_takePlaceOut_4 : decode cX3_takePlaceOut 4 = .ok (.istore_n 1, 1) := by decide +kernel
theorem dX3_takePlaceOut_5 : decode cX3_takePlaceOut 5 = .ok (.aload_n 0, 1) := by decide +kernel
theorem dX3_takePlaceOut_6 : decode cX3_takePlaceOut 6 = .ok (.getfield 12, 3) := by decide +kernel
theorem dX3_takePlaceOut_9 : decode cX3_takePlaceOut 9 = .ok (.iload_n 1, 1) := by decide +kernel
theorem dX3_takePlaceOut_10 : decode cX3_takePlaceOut 10 = .ok (.invokevirtual 89, 3) := by decide +kernel
theorem dX3_takePlaceOut_13 : decode cX3_takePlaceOut 13 = .ok (.istore_n 2, 1) := by decide +kernel
theorem dX3_takePlaceOut_14 : decode cX3_takePlaceOut 14 = .ok (.aload_n 0, 1) := by decide +kernel
theorem dX3_takePlaceOut_15 : decode cX3_takePlaceOut 15 = .ok (.aload_n 0, 1) := by decide +kernel
theorem dX3_takePlaceOut_16 : decode cX3_takePlaceOut 16 = .ok (.invokevirtual 92, 3) := by decide +kernel
theorem dX3_takePlaceOut_19 : decode cX3_takePlaceOut 19 = .ok (.putfield 46, 3) := by decide +kernel
theorem dX3_takePlaceOut_22 : decode cX3_takePlaceOut 22 = .ok (.aload_n 0, 1) := by decide +kernel
theorem dX3_takePlaceOut_23 : decode cX3_takePlaceOut 23 = .ok (.iload_n 1, 1) := by decide +kernel
theorem dX3_takePlaceOut_24 : decode cX3_takePlaceOut 24 = .ok (.iload_n 2, 1) := by decide +kernel
theorem dX3_takePlaceOut_25 : decode cX3_takePlaceOut 25 = .ok (.invokevirtual 95, 3) := by decide +kernel
theorem dX3_takePlaceOut_28 : decode cX3_takePlaceOut 28 = .ok (.iload_n 2, 1) := by decide +kernel
theorem dX3_takePlaceOut_29 : decode cX3_takePlaceOut 29 = .ok (.iload_n 1, 1) := by decide +kernel
theorem dX3_takePlaceOut_30 : decode cX3_takePlaceOut 30 = .ok (.isub, 1) := by decide +kernel
theorem dX3_takePlaceOut_31 : decode cX3_takePlaceOut 31 = .ok (.ireturn, 1) := by decide +kernel
theorem dX3_placeWithoutPart_0 : decode cX3_placeWithoutPart 0 = .ok (.aload_n 0, 1) := by decide +kernel
theorem dX3_placeWithoutPart_1 : decode cX3_placeWithoutPart 1 = .ok (.getfield 12, 3) := by decide +kernel
theorem dX3_placeWithoutPart_4 : decode cX3_placeWithoutPart 4 = .ok (.aload_n 0, 1) := by decide +kernel
theorem dX3_placeWithoutPart_5 : decode cX3_placeWithoutPart 5 = .ok (.getfield 46, 3) := by decide +kernel
theorem dX3_placeWithoutPart_8 : decode cX3_placeWithoutPart 8 = .ok (.iconst 1, 1) := by decide +kernel
theorem dX3_placeWithoutPart_9 : decode cX3_placeWithoutPart 9 = .ok (.invokevirtual 98, 3) := by decide +kernel
theorem dX3_placeWithoutPart_12 : decode cX3_placeWithoutPart 12 = .ok (.iconst (-1), 1) := by decide +kernel
theorem dX3_placeWithoutPart_13 : decode cX3_placeWithoutPart 13 = .ok (.if_icmp .eq 8, 3) := by decide +kernel
theorem dX3_placeWithoutPart_16 : decode cX3_placeWithoutPart 16 = .ok (.aload_n 0, 1) := by decide +kernel
theorem dX3_placeWithoutPart_17 : decode cX3_placeWithoutPart 17 = .ok (.getfield 46, 3) := by decide +kernel
theorem dX3_placeWithoutPart_20 : decode cX3_placeWithoutPart 20 = .ok (.ireturn, 1) := by decide +kernel
theorem dX3_placeWithoutPart_21 : decode cX3_placeWithoutPart 21 = .ok (.aload_n 0, 1) := by decide +kernel
theorem dX3_placeWithoutPart_22 : decode cX3_placeWithoutPart 22 = .ok (.getfield 12, 3) := by decide +kernel
theorem dX3_placeWithoutPart_25 : decode cX3_placeWithoutPart 25 = .ok (.aload_n 0, 1) := by decide +kernel
theorem dX3_placeWithoutPart_26 : decode cX3_placeWithoutPart 26 = .ok (.getfield 46, 3) := by decide +kernel
theorem dX3_placeWithoutPart_29 : decode cX3_placeWithoutPart 29 = .ok (.iconst 0, 1) := by decide +kernel
theorem dX3_placeWithoutPart_30 : decode cX3_placeWithoutPart 30 = .ok (.invokevirtual 98, 3) := by decide +kernel
theorem dX3_placeWithoutPart_33 : decode cX3_placeWithoutPart 33 = .ok (.istore_n 1, 1) := by decide +kernel
theorem dX3_placeWithoutPart_34 : decode cX3_placeWithoutPart 34 = .ok (.iload_n 1, 1) := by decide +kernel
theorem dX3_placeWithoutPart_35 : decode cX3_placeWithoutPart 35 = .ok (.iconst (-1), 1) := by decide +kernel
theorem dX3_placeWithoutPart_36 : decode cX3_placeWithoutPart 36 = .ok (.if_icmp .eq 7, 3) := by decide +kernel
theorem dX3_placeWithoutPart_39 : decode cX3_placeWithoutPart 39 = .ok (.iload_n 1, 1) := by decide +kernel
theorem dX3_placeWithoutPart_40 : decode cX3_placeWithoutPart 40 = .ok (.goto 18, 3) := by decide +kernel
theorem dX3_placeWithoutPart_43 : decode cX3_placeWithoutPart 43 = .ok (.aload_n 0, 1) := by decide +kernel
theorem dX3_placeWithoutPart_44 : decode cX3_placeWithoutPart 44 = .ok (.getfield 12, 3) := by decide +kernel
theorem dX3_placeWithoutPart_47 : decode cX3_placeWithoutPart 47 = .ok (.aload_n 0, 1) := by decide +kernel
theorem dX3_placeWithoutPart_48 : decode cX3_placeWithoutPart 48 = .ok (.getfield 46, 3) := by decide +kernel
theorem dX3_placeWithoutPart_51 : decode cX3_placeWithoutPart 51 = .ok (.invokevirtual 102, 3) := by decide +kernel
theorem dX3_placeWithoutPart_54 : decode cX3_placeWithoutPart 54 = .ok (.iconst 0, 1) := by decide +kernel
theorem dX3_placeWithoutPart_55 : decode cX3_placeWithoutPart 55 = .ok (.invokestatic 105, 3) := by decide +kernel
theorem dX3_placeWithoutPart_58 : decode cX3_placeWithoutPart 58 = .ok (.ireturn, 1) := by decide +kernel
theorem dX3_exchangeRuns_0 : decode cX3_exchangeRuns 0 = .ok (.aload_n 0, 1) := by decide +kernel
theorem dX3_exchangeRuns_1 : decode cX3_exchangeRuns 1 = .ok (.getfield 12, 3) := by decide +kernel
theorem dX3_exchangeRuns_4 : decode cX3_exchangeRuns 4 = .ok (.iload_n 1, 1) := by decide +kernel
theorem dX3_exchangeRuns_5 : decode cX3_exchangeRuns 5 = .ok (.iload_n 2, 1) := by decide +kernel
theorem dX3_exchangeRuns_6 : decode cX3_exchangeRuns 6 = .ok (.iload_n 3, 1) := by decide +kernel
theorem dX3_exchangeRuns_7 : decode cX3_exchangeRuns 7 = .ok (.invokevirtual 110, 3) := by decide +kernel
theorem dX3_exchangeRuns_10 : decode cX3_exchangeRuns 10 = .ok (.aload_n 0, 1) := by decide +kernel
theorem dX3_exchangeRuns_11 : decode cX3_exchangeRuns 11 = .ok (.getfield 26, 3) := by decide +kernel
theorem dX3_exchangeRuns_14 : decode cX3_exchangeRuns 14 = .ok (.iload_n 1, 1) := by decide +kernel
theorem dX3_exchangeRuns_15 : decode cX3_exchangeRuns 15 = .ok (.iload_n 2, 1) := by decide +kernel
theorem dX3_exchangeRuns_16 : decode cX3_exchangeRuns 16 = .ok (.iload_n 3, 1) := by decide +kernel
theorem dX3_exchangeRuns_17 : decode cX3_exchangeRuns 17 = .ok (.invokevirtual 113, 3) := by decide +kernel
theorem dX3_exchangeRuns_20 : decode cX3_exchangeRuns 20 = .ok (.return_, 1) := by decide +kernel
theorem dX3_numberOfKey_0 : decode cX3_numberOfKey 0 = .ok (.iconst 0, 1) := by decide +kernel
theorem dX3_numberOfKey_1 : decode cX3_numberOfKey 1 = .ok (.istore_n 2, 1) := by decide +kernel
theorem dX3_numberOfKey_2 : decode cX3_numberOfKey 2 = .ok (.iload_n 2, 1) := by decide +kernel
theorem dX3_numberOfKey_3 : decode cX3_numberOfKey 3 = .ok (.aload_n 0, 1) := by decide +kernel
theorem dX3_numberOfKey_4 : decode cX3_numberOfKey 4 = .ok (.getfield 26, 3) := by decide +kernel
theorem dX3_numberOfKey_7 : decode cX3_numberOfKey 7 = .ok (.invokevirtual 114, 3) := by decide +kernel
theorem dX3_numberOfKey_10 : decode cX3_numberOfKey 10 = .ok (.if_icmp .ge 23, 3) := by decide +kernel
theorem dX3_numberOfKey_13 : decode cX3_numberOfKey 13 = .ok (.aload_n 0, 1) := by decide +kernel
theorem dX3_numberOfKey_14 : decode cX3_numberOfKey 14 = .ok (.getfield 26, 3) := by decide +kernel
theorem dX3_numberOfKey_17 : decode cX3_numberOfKey 17 = .ok (.iload_n 2, 1) := by decide +kernel
theorem dX3_numberOfKey_18 : decode cX3_numberOfKey 18 = .ok (.invokevirtual 115, 3) := by decide +kernel
theorem dX3_numberOfKey_21 : decode cX3_numberOfKey 21 = .ok (.iload_n 1, 1) := by decide +kernel
theorem dX3_numberOfKey_22 : decode cX3_numberOfKey 22 = .ok (.if_icmp .ne 5, 3) := by decide +kernel
theorem dX3_numberOfKey_25 : decode cX3_numberOfKey 25 = .ok (.iload_n 2, 1) := by decide +kernel
theorem dX3_numberOfKey_26 : decode cX3_numberOfKey 26 = .ok (.ireturn, 1) := by decide +kernel
theorem dX3_numberOfKey_27 : decode cX3_numberOfKey 27 = .ok (.iinc 2 1, 3) := by decide +kernel
theorem dX3_numberOfKey_30 : decode cX3_numberOfKey 30 = .ok (.goto (-28), 3) := by decide +kernel
theorem dX3_numberOfKey_33 : decode cX3_numberOfKey 33 = .ok (.iconst (-1), 1) := by decide +kernel
theorem dX3_numberOfKey_34 : decode cX3_numberOfKey 34 = .ok (.ireturn, 1) := by decide +kernel
theorem dX3_walkTo_0 : decode cX3_walkTo 0 = .ok (.iload_n 1, 1) := by decide +kernel
theorem dX3_walkTo_1 : decode cX3_walkTo 1 = .ok (.aload_n 0, 1) := by decide +kernel
theorem dX3_walkTo_2 : decode cX3_walkTo 2 = .ok (.getfield 46, 3) := by decide +kernel
theorem dX3_walkTo_5 : decode cX3_walkTo 5 = .ok (.if_icmp .ne 4, 3) := by decide +kernel
theorem dX3_walkTo_8 : decode cX3_walkTo 8 = .ok (.return_, 1) := by decide +kernel
theorem dX3_walkTo_9 : decode cX3_walkTo 9 = .ok (.aload_n 0, 1) := by decide +kernel
theorem dX3_walkTo_10 : decode cX3_walkTo 10 = .ok (.getfield 30, 3) := by decide +kernel
theorem dX3_walkTo_13 : decode cX3_walkTo 13 = .ok (.invokevirtual 114, 3) := by decide +kernel
theorem dX3_walkTo_16 : decode cX3_walkTo 16 = .ok (.bipush 8, 2) := by decide +kernel
theorem dX3_walkTo_18 : decode cX3_walkTo 18 = .ok (.if_icmp .lt 12, 3) := by decide +kernel
theorem dX3_walkTo_21 : decode cX3_walkTo 21 = .ok (.aload_n 0, 1) := by decide +kernel
theorem dX3_walkTo_22 : decode cX3_walkTo 22 = .ok (.getfield 30, 3) := by decide +kernel
theorem dX3_walkTo_25 : decode cX3_walkTo 25 = .ok (.iconst 0, 1) := by decide +kernel
theorem dX3_walkTo_26 : decode cX3_walkTo 26 = .ok (.iconst 1, 1) := by decide +kernel
theorem dX3_walkTo_27 : decode cX3_walkTo 27 = .ok (.invokevirtual 88, 3) := by decide +kernel
theorem dX3_walkTo_30 : decode cX3_walkTo 30 = .ok (.aload_n 0, 1) := by decide +kernel
theorem dX3_walkTo_31 : decode cX3_walkTo 31 = .ok (.getfield 30, 3) := by decide +kernel
theorem dX3_walkTo_34 : decode cX3_walkTo 34 = .ok (.aload_n 0, 1) := by decide +kernel
theorem dX3_walkTo_35 : decode cX3_walkTo 35 = .ok (.getfield 26, 3) := by decide +kernel
theorem dX3_walkTo_38 : decode cX3_walkTo 38 = .ok (.aload_n 0, 1) := by decide +kernel
theorem dX3_walkTo_39 : decode cX3_walkTo 39 = .ok (.getfield 46, 3) := by decide +kernel
theorem dX3_walkTo_42 : decode cX3_walkTo 42 = .ok (.invokevirtual 115, 3) := by decide +kernel
theorem dX3_walkTo_45 : decode cX3_walkTo 45 = .ok (.invokevirtual 61, 3) := by decide +kernel
theorem dX3_walkTo_48 : decode cX3_walkTo 48 = .ok (.aload_n 0, 1) := by decide +kernel
theorem dX3_walkTo_49 : decode cX3_walkTo 49 = .ok (.iload_n 1, 1) := by decide +kernel
theorem dX3_walkTo_50 : decode cX3_walkTo 50 = .ok (.putfield 46, 3) := by decide +kernel
theorem dX3_walkTo_53 : decode cX3_walkTo 53 = .ok (.return_, 1) := by decide +kernel
theorem dX3_lastWalk_0 : decode cX3_lastWalk 0 = .ok (.aload_n 0, 1) := by decide +kernel
theorem dX3_lastWalk_1 : decode cX3_lastWalk 1 = .ok (.getfield 30, 3) := by decide +kernel
theorem dX3_lastWalk_4 : decode cX3_lastWalk 4 = .ok (.invokevirtual 114, 3) := by decide +kernel
theorem dX3_lastWalk_7 : decode cX3_lastWalk 7 = .ok (.iconst 1, 1) := by decide +kernel
theorem dX3_lastWalk_8 : decode cX3_lastWalk 8 = .ok (.isub, 1) := by decide +kernel
theorem dX3_lastWalk_9 : decode cX3_lastWalk 9 = .ok (.istore_n 1, 1) := by decide +kernel
theorem dX3_lastWalk_10 : decode cX3_lastWalk 10 = .ok (.iload_n 1, 1) := by decide +kernel
theorem dX3_lastWalk_11 : decode cX3_lastWalk 11 = .ok (.ifCond .lt 37, 3) := by decide +kernel
theorem dX3_lastWalk_14 : decode cX3_lastWalk 14 = .ok (.aload_n 0, 1) := by decide +kernel
theorem dX3_lastWalk_15 : decode cX3_lastWalk 15 = .ok (.aload_n 0, 1) := by decide +kernel
theorem dX3_lastWalk_16 : decode cX3_lastWalk 16 = .ok (.getfield 30, 3) := by decide +kernel
theorem dX3_lastWalk_19 : decode cX3_lastWalk 19 = .ok (.iload_n 1, 1) := by decide +kernel
theorem dX3_lastWalk_20 : decode cX3_lastWalk 20 = .ok (.invokevirtual 115, 3) := by decide +kernel
theorem dX3_lastWalk_23 : decode cX3_lastWalk 23 = .ok (.invokevirtual 118, 3) := by decide +kernel
theorem dX3_lastWalk_26 : decode cX3_lastWalk 26 = .ok (.istore_n 2, 1) := by decide +kernel
theorem dX3_lastWalk_27 : decode cX3_lastWalk 27 = .ok (.iload_n 2, 1) := by decide +kernel
theorem dX3_lastWalk_28 : decode cX3_lastWalk 28 = .ok (.iconst (-1), 1) := by decide +kernel
theorem dX3_lastWalk_29 : decode cX3_lastWalk 29 = .ok (.if_icmp .eq 13, 3) := by decide +kernel
theorem dX3_lastWalk_32 : decode cX3_lastWalk 32 = .ok (.iload_n 2, 1) := by decide +kernel
theorem dX3_lastWalk_33 : decode cX3_lastWalk 33 = .ok (.aload_n 0, 1) := by decide +kernel
theorem dX3_lastWalk_34 : decode cX3_lastWalk 34 = .ok (.getfield 46, 3) := by decide +kernel
theorem dX3_lastWalk_37 : decode cX3_lastWalk 37 = .ok (.if_icmp .eq 5, 3) := by decide +kernel
theorem dX3_lastWalk_40 : decode cX3_lastWalk 40 = .ok (.iload_n 1, 1) := by decide +kernel
theorem dX3_lastWalk_41 : decode cX3_lastWalk 41 = .ok (.ireturn, 1) := by decide +kernel
theorem dX3_lastWalk_42 : decode cX3_lastWalk 42 = .ok (.iinc 1 (-1), 3) := by decide +kernel
theorem dX3_lastWalk_45 : decode cX3_lastWalk 45 = .ok (.goto (-35), 3) := by decide +kernel
theorem dX3_lastWalk_48 : decode cX3_lastWalk 48 = .ok (.iconst (-1), 1) := by decide +kernel
theorem dX3_lastWalk_49 : decode cX3_lastWalk 49 = .ok (.ireturn, 1) := by decide +kernel
theorem dX3_takeWalksBack_0 : decode cX3_takeWalksBack 0 = .ok (.aload_n 0, 1) := by decide +kernel
theorem dX3_takeWalksBack_1 : decode cX3_takeWalksBack 1 = .ok (.aload_n 0, 1) := by decide +kernel
theorem dX3_takeWalksBack_2 : decode cX3_takeWalksBack 2 = .ok (.aload_n 0, 1) := by decide +kernel
theorem dX3_takeWalksBack_3 : decode cX3_takeWalksBack 3 = .ok (.getfield 30, 3) := by decide +kernel
theorem dX3_takeWalksBack_6 : decode cX3_takeWalksBack 6 = .ok (.iload_n 1, 1) := by decide +kernel
theorem dX3_takeWalksBack_7 : decode cX3_takeWalksBack 7 = .ok (.invokevirtual 115, 3) := by decide +kernel
theorem dX3_takeWalksBack_10 : decode cX3_takeWalksBack 10 = .ok (.invokevirtual 118, 3) := by decide +kernel
theorem dX3_takeWalksBack_13 : decode cX3_takeWalksBack 13 = .ok (.iconst 0, 1) := by decide +kernel
theorem dX3_takeWalksBack_14 : decode cX3_takeWalksBack 14 = .ok (.invokestatic 105, 3) := by decide +kernel
theorem dX3_takeWalksBack_17 : decode cX3_takeWalksBack 17 = .ok (.putfield 46, 3) := by decide +kernel
theorem dX3_takeWalksBack_20 : decode cX3_takeWalksBack 20 = .ok (.aload_n 0, 1) := by decide +kernel
theorem dX3_takeWalksBack_21 : decode cX3_takeWalksBack 21 = .ok (.getfield 30, 3) := by decide +kernel
theorem dX3_takeWalksBack_24 : decode cX3_takeWalksBack 24 = .ok (.iload_n 1, 1) := by decide +kernel
theorem dX3_takeWalksBack_25 : decode cX3_takeWalksBack 25 = .ok (.aload_n 0, 1) := by decide +kernel
theorem dX3_takeWalksBack_26 : decode cX3_takeWalksBack 26 = .ok (.getfield 30, 3) := by decide +kernel
theorem dX3_takeWalksBack_29 : decode cX3_takeWalksBack 29 = .ok (.invokevirtual 114, 3) := by decide +kernel
theorem dX3_takeWalksBack_32 : decode cX3_takeWalksBack 32 = .ok (.invokevirtual 88, 3) := by decide +kernel
theorem dX3_takeWalksBack_35 : decode cX3_takeWalksBack 35 = .ok (.return_, 1) := by decide +kernel
theorem dX3_numberOfMark_0 : decode cX3_numberOfMark 0 = .ok (.aload_n 0, 1) := by decide +kernel
theorem dX3_numberOfMark_1 : decode cX3_numberOfMark 1 = .ok (.aload_n 0, 1) := by decide +kernel
theorem dX3_numberOfMark_2 : decode cX3_numberOfMark 2 = .ok (.getfield 33, 3) := by decide +kernel
theorem dX3_numberOfMark_5 : decode cX3_numberOfMark 5 = .ok (.iload_n 1, 1) := by decide +kernel
theorem dX3_numberOfMark_6 : decode cX3_numberOfMark 6 = .ok (.invokevirtual 115, 3) := by decide +kernel
theorem dX3_numberOfMark_9 : decode cX3_numberOfMark 9 = .ok (.invokevirtual 118, 3) := by decide +kernel
theorem dX3_numberOfMark_12 : decode cX3_numberOfMark 12 = .ok (.ireturn, 1) := by decide +kernel
theorem dX3_putMarkAtPlace_0 : decode cX3_putMarkAtPlace 0 = .ok (.aload_n 0, 1) := by decide +kernel
theorem dX3_putMarkAtPlace_1 : decode cX3_putMarkAtPlace 1 = .ok (.getfield 33, 3) := by decide +kernel
theorem dX3_putMarkAtPlace_4 : decode cX3_putMarkAtPlace 4 = .ok (.iload_n 1, 1) := by decide +kernel
theorem dX3_putMarkAtPlace_5 : decode cX3_putMarkAtPlace 5 = .ok (.aload_n 0, 1) := by decide +kernel
theorem dX3_putMarkAtPlace_6 : decode cX3_putMarkAtPlace 6 = .ok (.getfield 26, 3) := by decide +kernel
theorem dX3_putMarkAtPlace_9 : decode cX3_putMarkAtPlace 9 = .ok (.aload_n 0, 1) := by decide +kernel
theorem dX3_putMarkAtPlace_10 : decode cX3_putMarkAtPlace 10 = .ok (.getfield 46, 3) := by decide +kernel
theorem dX3_putMarkAtPlace_13 : decode cX3_putMarkAtPlace 13 = .ok (.invokevirtual 115, 3) := by decide +kernel
theorem dX3_putMarkAtPlace_16 : decode cX3_putMarkAtPlace 16 = .ok (.invokevirtual 121, 3) := by decide +kernel
theorem dX3_putMarkAtPlace_19 : decode cX3_putMarkAtPlace 19 = .ok (.return_, 1) := by decide +kernel
theorem dX3_marksAt_0 : decode cX3_marksAt 0 = .ok (.iconst 0, 1) := by decide +kernel
theorem dX3_marksAt_1 : decode cX3_marksAt 1 = .ok (.istore_n 2, 1) := by decide +kernel
theorem dX3_marksAt_2 : decode cX3_marksAt 2 = .ok (.iconst 0, 1) := by decide +kernel
theorem dX3_marksAt_3 : decode cX3_marksAt 3 = .ok (.istore_n 3, 1) := by decide +kernel
theorem dX3_marksAt_4 : decode cX3_marksAt 4 = .ok (.iload_n 3, 1) := by decide +kernel
theorem dX3_marksAt_5 : decode cX3_marksAt 5 = .ok (.iconst 4, 1) := by decide +kernel
theorem dX3_marksAt_6 : decode cX3_marksAt 6 = .ok (.if_icmp .ge 24, 3) := by decide +kernel
theorem dX3_marksAt_9 : decode cX3_marksAt 9 = .ok (.aload_n 0, 1) := by decide +kernel
theorem dX3_marksAt_10 : decode cX3_marksAt 10 = .ok (.iload_n 3, 1) := by decide +kernel
theorem dX3_marksAt_11 : decode cX3_marksAt 11 = .ok (.invokevirtual 124, 3) := by decide +kernel
theorem dX3_marksAt_14 : decode cX3_marksAt 14 = .ok (.iload_n 1, 1) := by decide +kernel
theorem dX3_marksAt_15 : decode cX3_marksAt 15 = .ok (.if_icmp .ne 9, 3) := by decide +kernel
theorem dX3_marksAt_18 : decode cX3_marksAt 18 = .ok (.iload_n 2, 1) := by decide +kernel
theorem dX3_marksAt_19 : decode cX3_marksAt 19 = .ok (.iconst 1, 1) := by decide +kernel
theorem dX3_marksAt_20 : decode cX3_marksAt 20 = .ok (.iload_n 3, 1) := by decide +kernel
theorem dX3_marksAt_21 : decode cX3_marksAt 21 = .ok (.ishl, 1) := by decide +kernel
theorem dX3_marksAt_22 : decode cX3_marksAt 22 = .ok (.ior, 1) := by decide +kernel
theorem dX3_marksAt_23 : decode cX3_marksAt 23 = .ok (.istore_n 2, 1) := by decide +kernel
theorem dX3_marksAt_24 : decode cX3_marksAt 24 = .ok (.iinc 3 1, 3) := by decide +kernel
theorem dX3_marksAt_27 : decode cX3_marksAt 27 = .ok (.goto (-23), 3) := by decide +kernel
theorem dX3_marksAt_30 : decode cX3_marksAt 30 = .ok (.iload_n 2, 1) := by decide +kernel
theorem dX3_marksAt_31 : decode cX3_marksAt 31 = .ok (.ireturn, 1) := by decide +kernel
theorem dX4_init_0 : decode cX4_init 0 = .ok (.aload_n 0, 1) := by decide +kernel
theorem dX4_init_1 : decode cX4_init 1 = .ok (.invokespecial 3, 3) := by decide +kernel
theorem dX4_init_4 : decode cX4_init 4 = .ok (.aload_n 0, 1) := by decide +kernel
theorem dX4_init_5 : decode cX4_init 5 = .ok (.new 9, 3) := by decide +kernel
theorem dX4_init_8 : decode cX4_init 8 = .ok (.dup, 1) := by decide +kernel
theorem dX4_init_9 : decode cX4_init 9 = .ok (.bipush 40, 2) := by decide +kernel
theorem dX4_init_11 : decode cX4_init 11 = .ok (.invokespecial 11, 3) := by decide +kernel
theorem dX4_init_14 : decode cX4_init 14 = .ok (.putfield 14, 3) := by decide +kernel
theorem dX4_init_17 : decode cX4_init 17 = .ok (.aload_n 0, 1) := by decide +kernel
theorem dX4_init_18 : decode cX4_init 18 = .ok (.new 9, 3) := by decide +kernel
theorem dX4_init_21 : decode cX4_init 21 = .ok (.dup, 1) := by decide +kernel
theorem dX4_init_22 : decode cX4_init 22 = .ok (.bipush 40, 2) := by decide +kernel
theorem dX4_init_24 : decode cX4_init 24 = .ok (.invokespecial 11, 3) := by decide +kernel
theorem dX4_init_27 : decode cX4_init 27 = .ok (.putfield 20, 3) := by decide +kernel
theorem dX4_init_30 : decode cX4_init 30 = .ok (.return_, 1) := by decide +kernel
theorem dX4_size_0 : decode cX4_size 0 = .ok (.aload_n 0, 1) := by decide +kernel
theorem dX4_size_1 : decode cX4_size 1 = .ok (.getfield 14, 3) := by decide +kernel
theorem dX4_size_4 : decode cX4_size 4 = .ok (.invokevirtual 23, 3) := by decide +kernel
theorem dX4_size_7 : decode cX4_size 7 = .ok (.ireturn, 1) := by decide +kernel
theorem dX4_has_0 : decode cX4_has 0 = .ok (.iload_n 1, 1) := by decide +kernel
theorem dX4_has_1 : decode cX4_has 1 = .ok (.ifCond .lt 15, 3) := by decide +kernel
theorem dX4_has_4 : decode cX4_has 4 = .ok (.iload_n 1, 1) := by decide +kernel
theorem dX4_has_5 : decode cX4_has 5 = .ok (.aload_n 0, 1) := by decide +kernel
theorem dX4_has_6 : decode cX4_has 6 = .ok (.invokevirtual 27, 3) := by decide +kernel
theorem dX4_has_9 : decode cX4_has 9 = .ok (.if_icmp .ge 7, 3) := by decide +kernel
theorem dX4_has_12 : decode cX4_has 12 = .ok (.iconst 1, 1) := by decide +kernel
theorem dX4_has_13 : decode cX4_has 13 = .ok (.goto 4, 3) := by decide +kernel
theorem dX4_has_16 : decode cX4_has 16 = .ok (.iconst 0, 1) := by decide +kernel
theorem dX4_has_17 : decode cX4_has 17 = .ok (.ireturn, 1) := by decide +kernel
theorem dX4_letterOf_0 : decode cX4_letterOf 0 = .ok (.aload_n 0, 1) := by decide +kernel
theorem dX4_letterOf_1 : decode cX4_letterOf 1 = .ok (.getfield 14, 3) := by decide +kernel
theorem dX4_letterOf_4 : decode cX4_letterOf 4 = .ok (.iload_n 1, 1) := by decide +kernel
theorem dX4_letterOf_5 : decode cX4_letterOf 5 = .ok (.invokevirtual 28, 3) := by decide +kernel
theorem dX4_letterOf_8 : decode cX4_letterOf 8 = .ok (.ireturn, 1) := by decide +kernel
theorem dX4_setLetter_0 : decode cX4_setLetter 0 = .ok (.aload_n 0, 1) := by decide +kernel
theorem dX4_setLetter_1 : decode cX4_setLetter 1 = .ok (.getfield 14, 3) := by decide +kernel
theorem dX4_setLetter_4 : decode cX4_setLetter 4 = .ok (.iload_n 1, 1) := by decide +kernel
theorem dX4_setLetter_5 : decode cX4_setLetter 5 = .ok (.iload_n 2, 1) := by decide +kernel
theorem dX4_setLetter_6 : decode cX4_setLetter 6 = .ok (.invokevirtual 32, 3) := by decide +kernel
theorem dX4_setLetter_9 : decode cX4_setLetter 9 = .ok (.return_, 1) := by decide +kernel
theorem dX4_depthOf_0 : decode cX4_depthOf 0 = .ok (.aload_n 0, 1) := by decide +kernel
theorem dX4_depthOf_1 : decode cX4_depthOf 1 = .ok (.getfield 20, 3) := by decide +kernel
theorem dX4_depthOf_4 : decode cX4_depthOf 4 = .ok (.iload_n 1, 1) := by decide +kernel
theorem dX4_depthOf_5 : decode cX4_depthOf 5 = .ok (.invokevirtual 28, 3) := by decide +kernel
theorem dX4_depthOf_8 : decode cX4_depthOf 8 = .ok (.ireturn, 1) := by decide +kernel
theorem dX4_endOf_0 : decode cX4_endOf 0 = .ok (.iload_n 1, 1) := by decide +kernel
theorem dX4_endOf_1 : decode cX4_endOf 1 = .ok (.iconst 1, 1) := by decide +kernel
theorem dX4_endOf_2 : decode cX4_endOf 2 = .ok (.iadd, 1) := by decide +kernel
theorem dX4_endOf_3 : decode cX4_endOf 3 = .ok (.istore_n 2, 1) := by decide +kernel
theorem dX4_endOf_4 : decode cX4_endOf 4 = .ok (.iload_n 2, 1) := by decide +kernel
theorem dX4_endOf_5 : decode cX4_endOf 5 = .ok (.aload_n 0, 1) := by decide +kernel
theorem dX4_endOf_6 : decode cX4_endOf 6 = .ok (.getfield 20, 3) := by decide +kernel
theorem dX4_endOf_9 : decode cX4_endOf 9 = .ok (.invokevirtual 23, 3) := by decide +kernel
theorem dX4_endOf_12 : decode cX4_endOf 12 = .ok (.if_icmp .ge 30, 3) := by decide +kernel
theorem dX4_endOf_15 : decode cX4_endOf 15 = .ok (.aload_n 0, 1) := by decide +kernel
theorem dX4_endOf_16 : decode cX4_endOf 16 = .ok (.getfield 20, 3) := by decide +kernel
theorem dX4_endOf_19 : decode cX4_endOf 19 = .ok (.iload_n 2, 1) := by decide +kernel
theorem dX4_endOf_20 : decode cX4_endOf 20 = .ok (.invokevirtual 28, 3) := by decide +kernel
theorem dX4_endOf_23 : decode cX4_endOf 23 = .ok (.aload_n 0, 1) := by decide +kernel
theorem dX4_endOf_24 : decode cX4_endOf 24 = .ok (.getfield 20, 3) := by decide +kernel
theorem dX4_endOf_27 : decode cX4_endOf 27 = .ok (.iload_n 1, 1) := by decide +kernel
theorem dX4_endOf_28 : decode cX4_endOf 28 = .ok (.invokevirtual 28, 3) := by decide +kernel
theorem dX4_endOf_31 : decode cX4_endOf 31 = .ok (.if_icmp .gt 5, 3) := by decide +kernel
theorem dX4_endOf_34 : decode cX4_endOf 34 = .ok (.iload_n 2, 1) := by decide +kernel
theorem dX4_endOf_35 : decode cX4_endOf 35 = .ok (.ireturn, 1) := by decide +kernel
theorem dX4_endOf_36 : decode cX4_endOf 36 = .ok (.iinc 2 1, 3) := by decide +kernel
theorem dX4_endOf_39 : decode cX4_endOf 39 = .ok (.goto (-35), 3) := by decide +kernel
theorem dX4_endOf_42 : decode cX4_endOf 42 = .ok (.aload_n 0, 1) := by decide +kernel
theorem dX4_endOf_43 : decode cX4_endOf 43 = .ok (.getfield 20, 3) := by decide +kernel
theorem dX4_endOf_46 : decode cX4_endOf 46 = .ok (.invokevirtual 23, 3) := by decide +kernel
theorem dX4_endOf_49 : decode cX4_endOf 49 = .ok (.ireturn, 1) := by decide +kernel
theorem dX4_onSpine_0 : decode cX4_onSpine 0 = .ok (.iload_n 2, 1) := by decide +kernel
theorem dX4_onSpine_1 : decode cX4_onSpine 1 = .ok (.ifCond .lt 12, 3) := by decide +kernel
theorem dX4_onSpine_4 : decode cX4_onSpine 4 = .ok (.iload_n 2, 1) := by decide +kernel
theorem dX4_onSpine_5 : decode cX4_onSpine 5 = .ok (.aload_n 0, 1) := by decide +kernel
theorem dX4_onSpine_6 : decode cX4_onSpine 6 = .ok (.iload_n 1, 1) := by decide +kernel
theorem dX4_onSpine_7 : decode cX4_onSpine 7 = .ok (.invokevirtual 36, 3) := by decide +kernel
theorem dX4_onSpine_10 : decode cX4_onSpine 10 = .ok (.if_icmp .le 5, 3) := by decide +kernel
theorem dX4_onSpine_13 : decode cX4_onSpine 13 = .ok (.iconst (-1), 1) := by decide +kernel
theorem dX4_onSpine_14 : decode cX4_onSpine 14 = .ok (.ireturn, 1) := by decide +kernel
theorem dX4_onSpine_15 : decode cX4_onSpine 15 = .ok (.iload_n 1, 1) := by decide +kernel
theorem dX4_onSpine_16 : decode cX4_onSpine 16 = .ok (.istore_n 3, 1) := by decide +kernel
theorem dX4_onSpine_17 : decode cX4_onSpine 17 = .ok (.iload_n 3, 1) := by decide +kernel
theorem dX4_onSpine_18 : decode cX4_onSpine 18 = .ok (.ifCond .lt 20, 3) := by decide +kernel
theorem dX4_onSpine_21 : decode cX4_onSpine 21 = .ok (.aload_n 0, 1) := by decide +kernel
theorem dX4_onSpine_22 : decode cX4_onSpine 22 = .ok (.iload_n 3, 1) := by decide +kernel
theorem dX4_onSpine_23 : decode cX4_onSpine 23 = .ok (.invokevirtual 36, 3) := by decide +kernel
theorem dX4_onSpine_26 : decode cX4_onSpine 26 = .ok (.iload_n 2, 1) := by decide +kernel
theorem dX4_onSpine_27 : decode cX4_onSpine 27 = .ok (.if_icmp .ne 5, 3) := by decide +kernel
theorem dX4_onSpine_30 : decode cX4_onSpine 30 = .ok (.iload_n 3, 1) := by decide +kernel
theorem dX4_onSpine_31 : decode cX4_onSpine 31 = .ok (.ireturn, 1) := by decide +kernel
theorem dX4_onSpine_32 : decode cX4_onSpine 32 = .ok (.iinc 3 (-1), 3) := by decide +kernel
theorem dX4_onSpine_35 : decode cX4_onSpine 35 = .ok (.goto (-18), 3) := by decide +kernel
theorem dX4_onSpine_38 : decode cX4_onSpine 38 = .ok (.iconst (-1), 1) := by decide +kernel
theorem dX4_onSpine_39 : decode cX4_onSpine 39 = .ok (.ireturn, 1) := by decide +kernel
theorem dX4_above_0 : decode cX4_above 0 = .ok (.aload_n 0, 1) := by decide +kernel
theorem dX4_above_1 : decode cX4_above 1 = .ok (.iload_n 1, 1) := by decide +kernel
theorem dX4_above_2 : decode cX4_above 2 = .ok (.aload_n 0, 1) := by decide +kernel
theorem dX4_above_3 : decode cX4_above 3 = .ok (.iload_n 1, 1) := by decide +kernel
theorem dX4_above_4 : decode cX4_above 4 = .ok (.invokevirtual 36, 3) := by decide +kernel
theorem dX4_above_7 : decode cX4_above 7 = .ok (.iconst 1, 1) := by decide +kernel
theorem dX4_above_8 : decode cX4_above 8 = .ok (.isub, 1) := by decide +kernel
theorem dX4_above_9 : decode cX4_above 9 = .ok (.invokevirtual 39, 3) := by decide +kernel
theorem dX4_above_12 : decode cX4_above 12 = .ok (.ireturn, 1) := by decide +kernel
theorem dX4_childrenOf_0 : decode cX4_childrenOf 0 = .ok (.iconst 0, 1) := by decide +kernel
theorem dX4_childrenOf_1 : decode cX4_childrenOf 1 = .ok (.istore_n 2, 1) := by decide +kernel
theorem dX4_childrenOf_2 : decode cX4_childrenOf 2 = .ok (.aload_n 0, 1) := by decide +kernel
theorem dX4_childrenOf_3 : decode cX4_childrenOf 3 = .ok (.iload_n 1, 1) := by decide +kernel
theorem dX4_childrenOf_4 : decode cX4_childrenOf 4 = .ok (.invokevirtual 43, 3) := by decide +kernel
theorem dX4_childrenOf_7 : decode cX4_childrenOf 7 = .ok (.istore_n 3, 1) := by decide +kernel
theorem dX4_childrenOf_8 : decode cX4_childrenOf 8 = .ok (.iload_n 1, 1) := by decide +kernel
theorem dX4_childrenOf_9 : decode cX4_childrenOf 9 = .ok (.iconst 1, 1) := by decide +kernel
theorem dX4_childrenOf_10 : decode cX4_childrenOf 10 = .ok (.iadd, 1) := by decide +kernel
theorem dX4_childrenOf_11 : decode cX4_childrenOf 11 = .ok (.istore 4, 2) := by decide +kernel
theorem dX4_childrenOf_13 : decode cX4_childrenOf 13 = .ok (.iload 4, 2) := by decide +kernel
theorem dX4_childrenOf_15 : decode cX4_childrenOf 15 = .ok (.iload_n 3, 1) := by decide +kernel
theorem dX4_childrenOf_16 : decode cX4_childrenOf 16 = .ok (.if_icmp .ge 28, 3) := by decide +kernel
theorem dX4_childrenOf_19 : decode cX4_childrenOf 19 = .ok (.aload_n 0, 1) := by decide +kernel
theorem dX4_childrenOf_20 : decode cX4_childrenOf 20 = .ok (.iload 4, 2) := by decide +kernel
theorem dX4_childrenOf_22 : decode cX4_childrenOf 22 = .ok (.invokevirtual 36, 3) := by decide +kernel
theorem dX4_childrenOf_25 : decode cX4_childrenOf 25 = .ok (.aload_n 0, 1) := by decide +kernel
theorem dX4_childrenOf_26 : decode cX4_childrenOf 26 = .ok (.iload_n 1, 1) := by decide +kernel
theorem dX4_childrenOf_27 : decode cX4_childrenOf 27 = .ok (.invokevirtual 36, 3) := by decide +kernel
theorem dX4_childrenOf_30 : decode cX4_childrenOf 30 = .ok (.iconst 1, 1) := by decide +kernel
theorem dX4_childrenOf_31 : decode cX4_childrenOf 31 = .ok (.iadd, 1) := by decide +kernel
theorem dX4_childrenOf_32 : decode cX4_childrenOf 32 = .ok (.if_icmp .ne 6, 3) := by decide +kernel
theorem dX4_childrenOf_35 : decode cX4_childrenOf 35 = .ok (.iinc 2 1, 3) := by decide +kernel
theorem dX4_childrenOf_38 : decode cX4_childrenOf 38 = .ok (.iinc 4 1, 3) := by decide +kernel
theorem dX4_childrenOf_41 : decode cX4_childrenOf 41 = .ok (.goto (-28), 3) := by decide +kernel
theorem dX4_childrenOf_44 : decode cX4_childrenOf 44 = .ok (.iload_n 2, 1) := by decide +kernel
theorem dX4_childrenOf_45 : decode cX4_childrenOf 45 = .ok (.ireturn, 1) := by decide +kernel
theorem dX4_startOfChild_0 : decode cX4_startOfChild 0 = .ok (.iload_n 2, 1) := by decide +kernel
theorem dX4_startOfChild_1 : decode cX4_startOfChild 1 = .ok (.istore_n 3, 1) := by decide +kernel
theorem dX4_startOfChild_2 : decode cX4_startOfChild 2 = .ok (.aload_n 0, 1) := by decide +kernel
theorem dX4_startOfChild_3 : decode cX4_startOfChild 3 = .ok (.iload_n 1, 1) := by decide +kernel
theorem dX4_startOfChild_4 : decode cX4_startOfChild 4 = .ok (.invokevirtual 43, 3) := by decide +kernel
theorem dX4_startOfChild_7 : decode cX4_startOfChild 7 = .ok (.istore 4, 2) := by decide +kernel
theorem dX4_startOfChild_9 : decode cX4_startOfChild 9 = .ok (.iload_n 1, 1) := by decide +kernel
theorem dX4_startOfChild_10 : decode cX4_startOfChild 10 = .ok (.iconst 1, 1) := by decide +kernel
theorem dX4_startOfChild_11 : decode cX4_startOfChild 11 = .ok (.iadd, 1) := by decide +kernel
theorem dX4_startOfChild_12 : decode cX4_startOfChild 12 = .ok (.istore 5, 2) := by decide +kernel
theorem dX4_startOfChild_14 : decode cX4_startOfChild 14 = .ok (.iload 5, 2) := by decide +kernel
theorem dX4_startOfChild_16 : decode cX4_startOfChild 16 = .ok (.iload 4, 2) := by decide +kernel
theorem dX4_startOfChild_18 : decode cX4_startOfChild 18 = .ok (.if_icmp .ge 35, 3) := by decide +kernel
theorem dX4_startOfChild_21 : decode cX4_startOfChild 21 = .ok (.aload_n 0, 1) := by decide +kernel
theorem dX4_startOfChild_22 : decode cX4_startOfChild 22 = .ok (.iload 5, 2) := by decide +kernel
theorem dX4_startOfChild_24 : decode cX4_startOfChild 24 = .ok (.invokevirtual 36, 3) := by decide +kernel
theorem dX4_startOfChild_27 : decode cX4_startOfChild 27 = .ok (.aload_n 0, 1) := by decide +kernel
theorem dX4_startOfChild_28 : decode cX4_startOfChild 28 = .ok (.iload_n 1, 1) := by decide +kernel
theorem dX4_startOfChild_29 : decode cX4_startOfChild 29 = .ok (.invokevirtual 36, 3) := by decide +kernel
theorem dX4_startOfChild_32 : decode cX4_startOfChild 32 = .ok (.iconst 1, 1) := by decide +kernel
theorem dX4_startOfChild_33 : decode cX4_startOfChild 33 = .ok (.iadd, 1) := by decide +kernel
theorem dX4_startOfChild_34 : decode cX4_startOfChild 34 = .ok (.if_icmp .ne 13, 3) := by decide +kernel
theorem dX4_startOfChild_37 : decode cX4_startOfChild 37 = .ok (.iload_n 3, 1) := by decide +kernel
theorem dX4_startOfChild_38 : decode cX4_startOfChild 38 = .ok (.ifCond .ne 6, 3) := by decide +kernel
theorem dX4_startOfChild_41 : decode cX4_startOfChild 41 = .ok (.iload 5, 2) := by decide +kernel
theorem dX4_startOfChild_43 : decode cX4_startOfChild 43 = .ok (.ireturn, 1) := by decide +kernel
theorem dX4_startOfChild_44 : decode cX4_startOfChild 44 = .ok (.iinc 3 (-1), 3) := by decide +kernel
theorem dX4_startOfChild_47 : decode cX4_startOfChild 47 = .ok (.iinc 5 1, 3) := by decide +kernel
theorem dX4_startOfChild_50 : decode cX4_startOfChild 50 = .ok (.goto (-36), 3) := by decide +kernel
theorem dX4_startOfChild_53 : decode cX4_startOfChild 53 = .ok (.iload 4, 2) := by decide +kernel
theorem dX4_startOfChild_55 : decode cX4_startOfChild 55 = .ok (.ireturn, 1) := by decide +kernel
theorem dX4_childAt_0 : decode cX4_childAt 0 = .ok (.iload_n 2, 1) := by decide +kernel
theorem dX4_childAt_1 : decode cX4_childAt 1 = .ok (.ifCond .lt 21, 3) := by decide +kernel
theorem dX4_childAt_4 : decode cX4_childAt 4 = .ok (.iload_n 2, 1) := by decide +kernel
theorem dX4_childAt_5 : decode cX4_childAt 5 = .ok (.aload_n 0, 1) := by decide +kernel
theorem dX4_childAt_6 : decode cX4_childAt 6 = .ok (.iload_n 1, 1) := by decide +kernel
theorem dX4_childAt_7 : decode cX4_childAt 7 = .ok (.invokevirtual 46, 3) := by decide +kernel
theorem dX4_childAt_10 : decode cX4_childAt 10 = .ok (.if_icmp .ge 12, 3) := by decide +kernel
theorem dX4_childAt_13 : decode cX4_childAt 13 = .ok (.aload_n 0, 1) := by decide +kernel
theorem dX4_childAt_14 : decode cX4_childAt 14 = .ok (.iload_n 1, 1) := by decide +kernel
theorem dX4_childAt_15 : decode cX4_childAt 15 = .ok (.iload_n 2, 1) := by decide +kernel
theorem dX4_childAt_16 : decode cX4_childAt 16 = .ok (.invokevirtual 49, 3) := by decide +kernel
theorem dX4_childAt_19 : decode cX4_childAt 19 = .ok (.goto 4, 3) := by decide +kernel
theorem dX4_childAt_22 : decode cX4_childAt 22 = .ok (.iconst (-1), 1) := by decide +kernel
theorem dX4_childAt_23 : decode cX4_childAt 23 = .ok (.ireturn, 1) := by decide +kernel
theorem dX4_turnOf_0 : decode cX4_turnOf 0 = .ok (.aload_n 0, 1) := by decide +kernel
theorem dX4_turnOf_1 : decode cX4_turnOf 1 = .ok (.iload_n 1, 1) := by decide +kernel
theorem dX4_turnOf_2 : decode cX4_turnOf 2 = .ok (.invokevirtual 52, 3) := by decide +kernel
theorem dX4_turnOf_5 : decode cX4_turnOf 5 = .ok (.istore_n 2, 1) := by decide +kernel
theorem dX4_turnOf_6 : decode cX4_turnOf 6 = .ok (.iload_n 2, 1) := by decide +kernel
theorem dX4_turnOf_7 : decode cX4_turnOf 7 = .ok (.iconst (-1), 1) := by decide +kernel
theorem dX4_turnOf_8 : decode cX4_turnOf 8 = .ok (.if_icmp .ne 5, 3) := by decide +kernel
theorem dX4_turnOf_11 : decode cX4_turnOf 11 = .ok (.iconst (-1), 1) := by decide +kernel
theorem dX4_turnOf_12 : decode cX4_turnOf 12 = .ok (.ireturn, 1) := by decide +kernel
theorem dX4_turnOf_13 : decode cX4_turnOf 13 = .ok (.iconst 0, 1) := by decide +kernel
theorem dX4_turnOf_14 : decode cX4_turnOf 14 = .ok (.istore_n 3, 1) := by decide +kernel
theorem dX4_turnOf_15 : decode cX4_turnOf 15 = .ok (.iload_n 2, 1) := by decide +kernel
theorem dX4_turnOf_16 : decode cX4_turnOf 16 = .ok (.iconst 1, 1) := by decide +kernel
theorem dX4_turnOf_17 : decode cX4_turnOf 17 = .ok (.iadd, 1) := by decide +kernel
theorem dX4_turnOf_18 : decode cX4_turnOf 18 = .ok (.istore 4, 2) := by decide +kernel
theorem dX4_turnOf_20 : decode cX4_turnOf 20 = .ok (.iload 4, 2) := by decide +kernel
theorem dX4_turnOf_22 : decode cX4_turnOf 22 = .ok (.iload_n 1, 1) := by decide +kernel
theorem dX4_turnOf_23 : decode cX4_turnOf 23 = .ok (.if_icmp .ge 26, 3) := by decide +kernel
theorem dX4_turnOf_26 : decode cX4_turnOf 26 = .ok (.aload_n 0, 1) := by decide +kernel
theorem dX4_turnOf_27 : decode cX4_turnOf 27 = .ok (.iload 4, 2) := by decide +kernel
theorem dX4_turnOf_29 : decode cX4_turnOf 29 = .ok (.invokevirtual 36, 3) := by decide +kernel
theorem dX4_turnOf_32 : decode cX4_turnOf 32 = .ok (.aload_n 0, 1) := by decide +kernel
theorem dX4_turnOf_33 : decode cX4_turnOf 33 = .ok (.iload_n 1, 1) := by decide +kernel
theorem dX4_turnOf_34 : decode cX4_turnOf 34 = .ok (.invokevirtual 36, 3) := by decide +kernel
theorem dX4_turnOf_37 : decode cX4_turnOf 37 = .ok (.if_icmp .ne 6, 3) := by decide +kernel
theorem dX4_turnOf_40 : decode cX4_turnOf 40 = .ok (.iinc 3 1, 3) := by decide +kernel
theorem dX4_turnOf_43 : decode cX4_turnOf 43 = .ok (.iinc 4 1, 3) := by decide +kernel
theorem dX4_turnOf_46 : decode cX4_turnOf 46 = .ok (.goto (-26), 3) := by decide +kernel
theorem dX4_turnOf_49 : decode cX4_turnOf 49 = .ok (.iload_n 3, 1) := by decide +kernel
theorem dX4_turnOf_50 : decode cX4_turnOf 50 = .ok (.ireturn, 1) := by decide +kernel
theorem dX4_neighbour_0 : decode cX4_neighbour 0 = .ok (.iload_n 2, 1) := by decide +kernel
theorem dX4_neighbour_1 : decode cX4_neighbour 1 = .ok (.iconst 1, 1) := by decide +kernel
theorem dX4_neighbour_2 : decode cX4_neighbour 2 = .ok (.if_icmp .ne 11, 3) := by decide +kernel
theorem dX4_neighbour_5 : decode cX4_neighbour 5 = .ok (.aload_n 0, 1) := by decide +kernel
theorem dX4_neighbour_6 : decode cX4_neighbour 6 = .ok (.iload_n 1, 1) := by decide +kernel
theorem dX4_neighbour_7 : decode cX4_neighbour 7 = .ok (.invokevirtual 55, 3) := by decide +kernel
theorem dX4_neighbour_10 : decode cX4_neighbour 10 = .ok (.goto 8, 3) := by decide +kernel
theorem dX4_neighbour_13 : decode cX4_neighbour 13 = .ok (.aload_n 0, 1) := by decide +kernel
theorem dX4_neighbour_14 : decode cX4_neighbour 14 = .ok (.iload_n 1, 1) := by decide +kernel
theorem dX4_neighbour_15 : decode cX4_neighbour 15 = .ok (.invokevirtual 58, 3) := by decide +kernel
theorem dX4_neighbour_18 : decode cX4_neighbour 18 = .ok (.ireturn, 1) := by decide +kernel
theorem dX4_next_0 : decode cX4_next 0 = .ok (.aload_n 0, 1) := by decide +kernel
theorem dX4_next_1 : decode cX4_next 1 = .ok (.iload_n 1, 1) := by decide +kernel
theorem dX4_next_2 : decode cX4_next 2 = .ok (.invokevirtual 43, 3) := by decide +kernel
theorem dX4_next_5 : decode cX4_next 5 = .ok (.istore_n 2, 1) := by decide +kernel
theorem dX4_next_6 : decode cX4_next 6 = .ok (.aload_n 0, 1) := by decide +kernel
theorem dX4_next_7 : decode cX4_next 7 = .ok (.iload_n 2, 1) := by decide +kernel
theorem dX4_next_8 : decode cX4_next 8 = .ok (.invokevirtual 36, 3) := by decide +kernel
theorem dX4_next_11 : decode cX4_next 11 = .ok (.aload_n 0, 1) := by decide +kernel
theorem dX4_next_12 : decode cX4_next 12 = .ok (.iload_n 1, 1) := by decide +kernel
theorem dX4_next_13 : decode cX4_next 13 = .ok (.invokevirtual 36, 3) := by decide +kernel
theorem dX4_next_16 : decode cX4_next 16 = .ok (.if_icmp .ne 7, 3) := by decide +kernel
theorem dX4_next_19 : decode cX4_next 19 = .ok (.iload_n 2, 1) := by decide +kernel
theorem dX4_next_20 : decode cX4_next 20 = .ok (.goto 4, 3) := by decide +kernel
theorem dX4_next_23 : decode cX4_next 23 = .ok (.iconst (-1), 1) := by decide +kernel
theorem dX4_next_24 : decode cX4_next 24 = .ok (.ireturn, 1) := by decide +kernel
theorem dX4_ahead_0 : decode cX4_ahead 0 = .ok (.iload_n 1, 1) := by decide +kernel
theorem dX4_ahead_1 : decode cX4_ahead 1 = .ok (.iconst 1, 1) := by decide +kernel
theorem dX4_ahead_2 : decode cX4_ahead 2 = .ok (.isub, 1) := by decide +kernel
theorem dX4_ahead_3 : decode cX4_ahead 3 = .ok (.istore_n 2, 1) := by decide +kernel
theorem dX4_ahead_4 : decode cX4_ahead 4 = .ok (.iload_n 2, 1) := by decide +kernel
theorem dX4_ahead_5 : decode cX4_ahead 5 = .ok (.ifCond .lt 37, 3) := by decide +kernel
theorem dX4_ahead_8 : decode cX4_ahead 8 = .ok (.aload_n 0, 1) := by decide +kernel
theorem dX4_ahead_9 : decode cX4_ahead 9 = .ok (.iload_n 2, 1) := by decide +kernel
theorem dX4_ahead_10 : decode cX4_ahead 10 = .ok (.invokevirtual 36, 3) := by decide +kernel
theorem dX4_ahead_13 : decode cX4_ahead 13 = .ok (.aload_n 0, 1) := by decide +kernel
theorem dX4_ahead_14 : decode cX4_ahead 14 = .ok (.iload_n 1, 1) := by decide +kernel
theorem dX4_ahead_15 : decode cX4_ahead 15 = .ok (.invokevirtual 36, 3) := by decide +kernel
theorem dX4_ahead_18 : decode cX4_ahead 18 = .ok (.if_icmp .lt 24, 3) := by decide +kernel
theorem dX4_ahead_21 : decode cX4_ahead 21 = .ok (.aload_n 0, 1) := by decide +kernel
theorem dX4_ahead_22 : decode cX4_ahead 22 = .ok (.iload_n 2, 1) := by decide +kernel
theorem dX4_ahead_23 : decode cX4_ahead 23 = .ok (.invokevirtual 36, 3) := by decide +kernel
theorem dX4_ahead_26 : decode cX4_ahead 26 = .ok (.aload_n 0, 1) := by decide +kernel
theorem dX4_ahead_27 : decode cX4_ahead 27 = .ok (.iload_n 1, 1) := by decide +kernel
theorem dX4_ahead_28 : decode cX4_ahead 28 = .ok (.invokevirtual 36, 3) := by decide +kernel
theorem dX4_ahead_31 : decode cX4_ahead 31 = .ok (.if_icmp .ne 5, 3) := by decide +kernel
theorem dX4_ahead_34 : decode cX4_ahead 34 = .ok (.iload_n 2, 1) := by decide +kernel
theorem dX4_ahead_35 : decode cX4_ahead 35 = .ok (.ireturn, 1) := by decide +kernel
theorem dX4_ahead_36 : decode cX4_ahead 36 = .ok (.iinc 2 (-1), 3) := by decide +kernel
theorem dX4_ahead_39 : decode cX4_ahead 39 = .ok (.goto (-35), 3) := by decide +kernel
theorem dX4_ahead_42 : decode cX4_ahead 42 = .ok (.iconst (-1), 1) := by decide +kernel
theorem dX4_ahead_43 : decode cX4_ahead 43 = .ok (.ireturn, 1) := by decide +kernel
theorem dX4_heightOf_0 : decode cX4_heightOf 0 = .ok (.aload_n 0, 1) := by decide +kernel
theorem dX4_heightOf_1 : decode cX4_heightOf 1 = .ok (.iload_n 1, 1) := by decide +kernel
theorem dX4_heightOf_2 : decode cX4_heightOf 2 = .ok (.invokevirtual 36, 3) := by decide +kernel
theorem dX4_heightOf_5 : decode cX4_heightOf 5 = .ok (.istore_n 2, 1) := by decide +kernel
theorem dX4_heightOf_6 : decode cX4_heightOf 6 = .ok (.aload_n 0, 1) := by decide +kernel
theorem dX4_heightOf_7 : decode cX4_heightOf 7 = .ok (.iload_n 1, 1) := by decide +kernel
theorem dX4_heightOf_8 : decode cX4_heightOf 8 = .ok (.invokevirtual 43, 3) := by decide +kernel
theorem dX4_heightOf_11 : decode cX4_heightOf 11 = .ok (.istore_n 3, 1) := by decide +kernel
theorem dX4_heightOf_12 : decode cX4_heightOf 12 = .ok (.iload_n 1, 1) := by decide +kernel
theorem dX4_heightOf_13 : decode cX4_heightOf 13 = .ok (.istore 4, 2) := by decide +kernel
theorem dX4_heightOf_15 : decode cX4_heightOf 15 = .ok (.iload 4, 2) := by decide +kernel
theorem dX4_heightOf_17 : decode cX4_heightOf 17 = .ok (.iload_n 3, 1) := by decide +kernel
theorem dX4_heightOf_18 : decode cX4_heightOf 18 = .ok (.if_icmp .ge 20, 3) := by decide +kernel
theorem dX4_heightOf_21 : decode cX4_heightOf 21 = .ok (.iload_n 2, 1) := by decide +kernel
theorem dX4_heightOf_22 : decode cX4_heightOf 22 = .ok (.aload_n 0, 1) := by decide +kernel
theorem dX4_heightOf_23 : decode cX4_heightOf 23 = .ok (.iload 4, 2) := by decide +kernel
theorem dX4_heightOf_25 : decode cX4_heightOf 25 = .ok (.invokevirtual 36, 3) := by decide +kernel
theorem dX4_heightOf_28 : decode cX4_heightOf 28 = .ok (.invokestatic 61, 3) := by decide +kernel
theorem dX4_heightOf_31 : decode cX4_heightOf 31 = .ok (.istore_n 2, 1) := by decide +kernel
theorem dX4_heightOf_32 : decode cX4_heightOf 32 = .ok (.iinc 4 1, 3) := by decide +kernel
theorem dX4_heightOf_35 : decode cX4_heightOf 35 = .ok (.goto (-20), 3) := by decide +kernel
theorem dX4_heightOf_38 : decode cX4_heightOf 38 = .ok (.iload_n 2, 1) := by decide +kernel
theorem dX4_heightOf_39 : decode cX4_heightOf 39 = .ok (.aload_n 0, 1) := by decide +kernel
theorem dX4_heightOf_40 : decode cX4_heightOf 40 = .ok (.iload_n 1, 1) := by decide +kernel
theorem dX4_heightOf_41 : decode cX4_heightOf 41 = .ok (.invokevirtual 36, 3) := by decide +kernel
theorem dX4_heightOf_44 : decode cX4_heightOf 44 = .ok (.isub, 1) := by decide +kernel
theorem dX4_heightOf_45 : decode cX4_heightOf 45 = .ok (.ireturn, 1) := by decide +kernel
theorem dX4_leaves_0 : decode cX4_leaves 0 = .ok (.iconst 0, 1) := by decide +kernel
theorem dX4_leaves_1 : decode cX4_leaves 1 = .ok (.istore_n 1, 1) := by decide +kernel
theorem dX4_leaves_2 : decode cX4_leaves 2 = .ok (.iconst 0, 1) := by decide +kernel
theorem dX4_leaves_3 : decode cX4_leaves 3 = .ok (.istore_n 2, 1) := by decide +kernel
theorem dX4_leaves_4 : decode cX4_leaves 4 = .ok (.iload_n 2, 1) := by decide +kernel
theorem dX4_leaves_5 : decode cX4_leaves 5 = .ok (.aload_n 0, 1) := by decide +kernel
theorem dX4_leaves_6 : decode cX4_leaves 6 = .ok (.invokevirtual 27, 3) := by decide +kernel
theorem dX4_leaves_9 : decode cX4_leaves 9 = .ok (.if_icmp .ge 20, 3) := by decide +kernel
theorem dX4_leaves_12 : decode cX4_leaves 12 = .ok (.aload_n 0, 1) := by decide +kernel
theorem dX4_leaves_13 : decode cX4_leaves 13 = .ok (.iload_n 2, 1) := by decide +kernel
theorem dX4_leaves_14 : decode cX4_leaves 14 = .ok (.invokevirtual 46, 3) := by decide +kernel
theorem dX4_leaves_17 : decode cX4_leaves 17 = .ok (.ifCond .ne 6, 3) := by decide +kernel
theorem dX4_leaves_20 : decode cX4_leaves 20 = .ok (.iinc 1 1, 3) := by decide +kernel
theorem dX4_leaves_23 : decode cX4_leaves 23 = .ok (.iinc 2 1, 3) := by decide +kernel
theorem dX4_leaves_26 : decode cX4_leaves 26 = .ok (.goto (-22), 3) := by decide +kernel
theorem dX4_leaves_29 : decode cX4_leaves 29 = .ok (.iload_n 1, 1) := by decide +kernel
theorem dX4_leaves_30 : decode cX4_leaves 30 = .ok (.ireturn, 1) := by decide +kernel
theorem dX4_unlikeLetters_0 : decode cX4_unlikeLetters 0 = .ok (.iconst 0, 1) := by decide +kernel
theorem dX4_unlikeLetters_1 : decode cX4_unlikeLetters 1 = .ok (.istore_n 1, 1) := by decide +kernel
theorem dX4_unlikeLetters_2 : decode cX4_unlikeLetters 2 = .ok (.iconst 0, 1) := by decide +kernel
theorem dX4_unlikeLetters_3 : decode cX4_unlikeLetters 3 = .ok (.istore_n 2, 1) := by decide +kernel
theorem dX4_unlikeLetters_4 : decode cX4_unlikeLetters 4 = .ok (.iload_n 2, 1) := by decide +kernel
theorem dX4_unlikeLetters_5 : decode cX4_unlikeLetters 5 = .ok (.aload_n 0, 1) := by decide +kernel
theorem dX4_unlikeLetters_6 : decode cX4_unlikeLetters 6 = .ok (.invokevirtual 27, 3) := by decide +kernel
theorem dX4_unlikeLetters_9 : decode cX4_unlikeLetters 9 = .ok (.if_icmp .ge 19, 3) := by decide +kernel
theorem dX4_unlikeLetters_12 : decode cX4_unlikeLetters 12 = .ok (.iload_n 1, 1) := by decide +kernel
theorem dX4_unlikeLetters_13 : decode cX4_unlikeLetters 13 = .ok (.iconst 1, 1) := by decide +kernel
theorem dX4_unlikeLetters_14 : decode cX4_unlikeLetters 14 = .ok (.aload_n 0, 1) := by decide +kernel
theorem dX4_unlikeLetters_15 : decode cX4_unlikeLetters 15 = .ok (.iload_n 2, 1) := by decide +kernel
theorem dX4_unlikeLetters_16 : decode cX4_unlikeLetters 16 = .ok (.invokevirtual 66, 3) := by decide +kernel
theorem dX4_unlikeLetters_19 : decode cX4_unlikeLetters 19 = .ok (.ishl, 1) := by decide +kernel
theorem dX4_unlikeLetters_20 : decode cX4_unlikeLetters 20 = .ok (.ior, 1) := by decide +kernel
theorem dX4_unlikeLetters_21 : decode cX4_unlikeLetters 21 = .ok (.istore_n 1, 1) := by decide +kernel
theorem dX4_unlikeLetters_22 : decode cX4_unlikeLetters 22 = .ok (.iinc 2 1, 3) := by decide +kernel
theorem dX4_unlikeLetters_25 : decode cX4_unlikeLetters 25 = .ok (.goto (-21), 3) := by decide +kernel
theorem dX4_unlikeLetters_28 : decode cX4_unlikeLetters 28 = .ok (.iload_n 1, 1) := by decide +kernel
theorem dX4_unlikeLetters_29 : decode cX4_unlikeLetters 29 = .ok (.invokestatic 69, 3) := by decide +kernel
theorem dX4_unlikeLetters_32 : decode cX4_unlikeLetters 32 = .ok (.ireturn, 1) := by decide +kernel
theorem dX4_alike_0 : decode cX4_alike 0 = .ok (.aload_n 0, 1) := by decide +kernel
theorem dX4_alike_1 : decode cX4_alike 1 = .ok (.iload_n 1, 1) := by decide +kernel
theorem dX4_alike_2 : decode cX4_alike 2 = .ok (.invokevirtual 43, 3) := by decide +kernel
theorem dX4_alike_5 : decode cX4_alike 5 = .ok (.iload_n 1, 1) := by decide +kernel
theorem dX4_alike_6 : decode cX4_alike 6 = .ok (.isub, 1) := by decide +kernel
theorem dX4_alike_7 : decode cX4_alike 7 = .ok (.istore_n 3, 1) := by decide +kernel
theorem dX4_alike_8 : decode cX4_alike 8 = .ok (.iload_n 3, 1) := by decide +kernel
theorem dX4_alike_9 : decode cX4_alike 9 = .ok (.aload_n 0, 1) := by decide +kernel
theorem dX4_alike_10 : decode cX4_alike 10 = .ok (.iload_n 2, 1) := by decide +kernel
theorem dX4_alike_11 : decode cX4_alike 11 = .ok (.invokevirtual 43, 3) := by decide +kernel
theorem dX4_alike_14 : decode cX4_alike 14 = .ok (.iload_n 2, 1) := by decide +kernel
theorem dX4_alike_15 : decode cX4_alike 15 = .ok (.isub, 1) := by decide +kernel
theorem dX4_alike_16 : decode cX4_alike 16 = .ok (.if_icmp .eq 5, 3) := by decide +kernel
theorem dX4_alike_19 : decode cX4_alike 19 = .ok (.iconst 0, 1) := by decide +kernel
theorem dX4_alike_20 : decode cX4_alike 20 = .ok (.ireturn, 1) := by decide +kernel
theorem dX4_alike_21 : decode cX4_alike 21 = .ok (.aload_n 0, 1) := by decide +kernel
theorem dX4_alike_22 : decode cX4_alike 22 = .ok (.iload_n 2, 1) := by decide +kernel
theorem dX4_alike_23 : decode cX4_alike 23 = .ok (.invokevirtual 36, 3) := by decide +kernel
theorem dX4_alike_26 : decode cX4_alike 26 = .ok (.aload_n 0, 1) := by decide +kernel
theorem dX4_alike_27 : decode cX4_alike 27 = .ok (.iload_n 1, 1) := by decide +kernel
theorem dX4_alike_28 : decode cX4_alike 28 = .ok (.invokevirtual 36, 3) := by decide +kernel
theorem dX4_alike_31 : decode cX4_alike 31 = .ok (.isub, 1) := by decide +kernel
theorem dX4_alike_32 : decode cX4_alike 32 = .ok (.istore 4, 2) := by decide +kernel
theorem dX4_alike_34 : decode cX4_alike 34 = .ok (.iconst 0, 1) := by decide +kernel
theorem dX4_alike_35 : decode cX4_alike 35 = .ok (.istore 5, 2) := by decide +kernel
theorem dX4_alike_37 : decode cX4_alike 37 = .ok (.iload 5, 2) := by decide +kernel
theorem dX4_alike_39 : decode cX4_alike 39 = .ok (.iload_n 3, 1) := by decide +kernel
theorem dX4_alike_40 : decode cX4_alike 40 = .ok (.if_icmp .ge 52, 3) := by decide +kernel
theorem dX4_alike_43 : decode cX4_alike 43 = .ok (.aload_n 0, 1) := by decide +kernel
theorem dX4_alike_44 : decode cX4_alike 44 = .ok (.iload_n 1, 1) := by decide +kernel
theorem dX4_alike_45 : decode cX4_alike 45 = .ok (.iload 5, 2) := by decide +kernel
theorem dX4_alike_47 : decode cX4_alike 47 = .ok (.iadd, 1) := by decide +kernel
theorem dX4_alike_48 : decode cX4_alike 48 = .ok (.invokevirtual 66, 3) := by decide +kernel
theorem dX4_alike_51 : decode cX4_alike 51 = .ok (.aload_n 0, 1) := by decide +kernel
theorem dX4_alike_52 : decode cX4_alike 52 = .ok (.iload_n 2, 1) := by decide +kernel
theorem dX4_alike_53 : decode cX4_alike 53 = .ok (.iload 5, 2) := by decide +kernel
theorem dX4_alike_55 : decode cX4_alike 55 = .ok (.iadd, 1) := by decide +kernel
theorem dX4_alike_56 : decode cX4_alike 56 = .ok (.invokevirtual 66, 3) := by decide +kernel
theorem dX4_alike_59 : decode cX4_alike 59 = .ok (.if_icmp .ne 25, 3) := by decide +kernel
theorem dX4_alike_62 : decode cX4_alike 62 = .ok (.aload_n 0, 1) := by decide +kernel
theorem dX4_alike_63 : decode cX4_alike 63 = .ok (.iload_n 1, 1) := by decide +kernel
theorem dX4_alike_64 : decode cX4_alike 64 = .ok (.iload 5, 2) := by decide +kernel
theorem dX4_alike_66 : decode cX4_alike 66 = .ok (.iadd, 1) := by decide +kernel
theorem dX4_alike_67 : decode cX4_alike 67 = .ok (.invokevirtual 36, 3) := by decide +kernel
theorem dX4_alike_70 : decode cX4_alike 70 = .ok (.iload 4, 2) := by decide +kernel
theorem dX4_alike_72 : decode cX4_alike 72 = .ok (.iadd, 1) := by decide +kernel
theorem dX4_alike_73 : decode cX4_alike 73 = .ok (.aload_n 0, 1) := by decide +kernel
theorem dX4_alike_74 : decode cX4_alike 74 = .ok (.iload_n 2, 1) := by decide +kernel
theorem dX4_alike_75 : decode cX4_alike 75 = .ok (.iload 5, 2) := by decide +kernel
theorem dX4_alike_77 : decode cX4_alike 77 = .ok (.iadd, 1) := by decide +kernel
theorem dX4_alike_78 : decode cX4_alike 78 = .ok (.invokevirtual 36, 3) := by decide +kernel
theorem dX4_alike_81 : decode cX4_alike 81 = .ok (.if_icmp .eq 5, 3) := by decide +kernel
theorem dX4_alike_84 : decode cX4_alike 84 = .ok (.iconst 0, 1) := by decide +kernel
theorem dX4_alike_85 : decode cX4_alike 85 = .ok (.ireturn, 1) := by decide +kernel
theorem dX4_alike_86 : decode cX4_alike 86 = .ok (.iinc 5 1, 3) := by decide +kernel
theorem dX4_alike_89 : decode cX4_alike 89 = .ok (.goto (-52), 3) := by decide +kernel
theorem dX4_alike_92 : decode cX4_alike 92 = .ok (.iconst 1, 1) := by decide +kernel
theorem dX4_alike_93 : decode cX4_alike 93 = .ok (.ireturn, 1) := by decide +kernel
theorem dX4_clear_0 : decode cX4_clear 0 = .ok (.aload_n 0, 1) := by decide +kernel
theorem dX4_clear_1 : decode cX4_clear 1 = .ok (.getfield 14, 3) := by decide +kernel
theorem dX4_clear_4 : decode cX4_clear 4 = .ok (.invokevirtual 74, 3) := by decide +kernel
theorem dX4_clear_7 : decode cX4_clear 7 = .ok (.aload_n 0, 1) := by decide +kernel
theorem dX4_clear_8 : decode cX4_clear 8 = .ok (.getfield 20, 3) := by decide +kernel
theorem dX4_clear_11 : decode cX4_clear 11 = .ok (.invokevirtual 74, 3) := by decide +kernel
theorem dX4_clear_14 : decode cX4_clear 14 = .ok (.return_, 1) := by decide +kernel
theorem dX4_putIn_0 : decode cX4_putIn 0 = .ok (.aload_n 0, 1) := by decide +kernel
theorem dX4_putIn_1 : decode cX4_putIn 1 = .ok (.getfield 14, 3) := by decide +kernel
theorem dX4_putIn_4 : decode cX4_putIn 4 = .ok (.iload_n 1, 1) := by decide +kernel
theorem dX4_putIn_5 : decode cX4_putIn 5 = .ok (.iload_n 2, 1) := by decide +kernel
theorem dX4_putIn_6 : decode cX4_putIn 6 = .ok (.invokevirtual 77, 3) := by decide +kernel
theorem dX4_putIn_9 : decode cX4_putIn 9 = .ok (.aload_n 0, 1) := by decide +kernel
theorem dX4_putIn_10 : decode cX4_putIn 10 = .ok (.getfield 20, 3) := by decide +kernel
theorem dX4_putIn_13 : decode cX4_putIn 13 = .ok (.iload_n 1, 1) := by decide +kernel
theorem dX4_putIn_14 : decode cX4_putIn 14 = .ok (.iload_n 3, 1) := by decide +kernel
theorem dX4_putIn_15 : decode cX4_putIn 15 = .ok (.invokevirtual 77, 3) := by decide +kernel
theorem dX4_putIn_18 : decode cX4_putIn 18 = .ok (.return_, 1) := by decide +kernel
theorem dX4_takeOut_0 : decode cX4_takeOut 0 = .ok (.aload_n 0, 1) := by decide +kernel
theorem dX4_takeOut_1 : decode cX4_takeOut 1 = .ok (.getfield 14, 3) := by decide +kernel
theorem dX4_takeOut_4 : decode cX4_takeOut 4 = .ok (.iload_n 1, 1) := by decide +kernel
theorem dX4_takeOut_5 : decode cX4_takeOut 5 = .ok (.iload_n 2, 1) := by decide +kernel
theorem dX4_takeOut_6 : decode cX4_takeOut 6 = .ok (.invokevirtual 80, 3) := by decide +kernel
theorem dX4_takeOut_9 : decode cX4_takeOut 9 = .ok (.aload_n 0, 1) := by decide +kernel
theorem dX4_takeOut_10 : decode cX4_takeOut 10 = .ok (.getfield 20, 3) := by decide +kernel
theorem dX4_takeOut_13 : decode cX4_takeOut 13 = .ok (.iload_n 1, 1) := by decide +kernel
theorem dX4_takeOut_14 : decode cX4_takeOut 14 = .ok (.iload_n 2, 1) := by decide +kernel
theorem dX4_takeOut_15 : decode cX4_takeOut 15 = .ok (.invokevirtual 80, 3) := by decide +kernel
theorem dX4_takeOut_18 : decode cX4_takeOut 18 = .ok (.return_, 1) := by decide +kernel
theorem dX4_shiftDepths_0 : decode cX4_shiftDepths 0 = .ok (.iload_n 1, 1) := by decide +kernel
theorem dX4_shiftDepths_1 : decode cX4_shiftDepths 1 = .ok (.istore 4, 2) := by decide +kernel
theorem dX4_shiftDepths_3 : decode cX4_shiftDepths 3 = .ok (.iload 4, 2) := by decide +kernel
theorem dX4_shiftDepths_5 : decode cX4_shiftDepths 5 = .ok (.iload_n 2, 1) := by decide +kernel
theorem dX4_shiftDepths_6 : decode cX4_shiftDepths 6 = .ok (.if_icmp .ge 29, 3) := by decide +kernel
theorem dX4_shiftDepths_9 : decode cX4_shiftDepths 9 = .ok (.aload_n 0, 1) := by decide +kernel
theorem dX4_shiftDepths_10 : decode cX4_shiftDepths 10 = .ok (.getfield 20, 3) := by decide +kernel
theorem dX4_shiftDepths_13 : decode cX4_shiftDepths 13 = .ok (.iload 4, 2) := by decide +kernel
theorem dX4_shiftDepths_15 : decode cX4_shiftDepths 15 = .ok (.aload_n 0, 1) := by decide +kernel
theorem dX4_shiftDepths_16 : decode cX4_shiftDepths 16 = .ok (.getfield 20, 3) := by decide +kernel
theorem dX4_shiftDepths_19 : decode cX4_shiftDepths 19 = .ok (.iload 4, 2) := by decide +kernel
theorem dX4_shiftDepths_21 : decode cX4_shiftDepths 21 = .ok (.invokevirtual 28, 3) := by decide +kernel
theorem dX4_shiftDepths_24 : decode cX4_shiftDepths 24 = .ok (.iload_n 3, 1) := by decide +kernel
theorem dX4_shiftDepths_25 : decode cX4_shiftDepths 25 = .ok (.iadd, 1) := by decide +kernel
theorem dX4_shiftDepths_26 : decode cX4_shiftDepths 26 = .ok (.invokevirtual 32, 3) := by decide +kernel
theorem dX4_shiftDepths_29 : decode cX4_shiftDepths 29 = .ok (.iinc 4 1, 3) := by decide +kernel
theorem dX4_shiftDepths_32 : decode cX4_shiftDepths 32 = .ok (.goto (-29), 3) := by decide +kernel
theorem dX4_shiftDepths_35 : decode cX4_shiftDepths 35 = .ok (.return_, 1) := by decide +kernel
theorem dX4_exchangeRuns_0 : decode cX4_exchangeRuns 0 = .ok (.aload_n 0, 1) := by decide +kernel
theorem dX4_exchangeRuns_1 : decode cX4_exchangeRuns 1 = .ok (.getfield 14, 3) := by decide +kernel
theorem dX4_exchangeRuns_4 : decode cX4_exchangeRuns 4 = .ok (.iload_n 1, 1) := by decide +kernel
theorem dX4_exchangeRuns_5 : decode cX4_exchangeRuns 5 = .ok (.iload_n 2, 1) := by decide +kernel
theorem dX4_exchangeRuns_6 : decode cX4_exchangeRuns 6 = .ok (.iload_n 3, 1) := by decide +kernel
theorem dX4_exchangeRuns_7 : decode cX4_exchangeRuns 7 = .ok (.invokevirtual 83, 3) := by decide +kernel
theorem dX4_exchangeRuns_10 : decode cX4_exchangeRuns 10 = .ok (.aload_n 0, 1) := by decide +kernel
theorem dX4_exchangeRuns_11 : decode cX4_exchangeRuns 11 = .ok (.getfield 20, 3) := by decide +kernel
theorem dX4_exchangeRuns_14 : decode cX4_exchangeRuns 14 = .ok (.iload_n 1, 1) := by decide +kernel
theorem dX4_exchangeRuns_15 : decode cX4_exchangeRuns 15 = .ok (.iload_n 2, 1) := by decide +kernel
theorem dX4_exchangeRuns_16 : decode cX4_exchangeRuns 16 = .ok (.iload_n 3, 1) := by decide +kernel
theorem dX4_exchangeRuns_17 : decode cX4_exchangeRuns 17 = .ok (.invokevirtual 83, 3) := by decide +kernel
theorem dX4_exchangeRuns_20 : decode cX4_exchangeRuns 20 = .ok (.return_, 1) := by decide +kernel
theorem dX4_takeFrom_0 : decode cX4_takeFrom 0 = .ok (.aload_n 0, 1) := by decide +kernel
theorem dX4_takeFrom_1 : decode cX4_takeFrom 1 = .ok (.getfield 14, 3) := by decide +kernel
theorem dX4_takeFrom_4 : decode cX4_takeFrom 4 = .ok (.aload_n 1, 1) := by decide +kernel
theorem dX4_takeFrom_5 : decode cX4_takeFrom 5 = .ok (.getfield 14, 3) := by decide +kernel
theorem dX4_takeFrom_8 : decode cX4_takeFrom 8 = .ok (.invokevirtual 87, 3) := by decide +kernel
theorem dX4_takeFrom_11 : decode cX4_takeFrom 11 = .ok (.aload_n 0, 1) := by decide +kernel
theorem dX4_takeFrom_12 : decode cX4_takeFrom 12 = .ok (.getfield 20, 3) := by decide +kernel
theorem dX4_takeFrom_15 : decode cX4_takeFrom 15 = .ok (.aload_n 1, 1) := by decide +kernel
theorem dX4_takeFrom_16 : decode cX4_takeFrom 16 = .ok (.getfield 20, 3) := by decide +kernel
theorem dX4_takeFrom_19 : decode cX4_takeFrom 19 = .ok (.invokevirtual 87, 3) := by decide +kernel
theorem dX4_takeFrom_22 : decode cX4_takeFrom 22 = .ok (.return_, 1) := by decide +kernel
theorem dX4_takePart_0 : decode cX4_takePart 0 = .ok (.aload_n 0, 1) := by decide +kernel
theorem dX4_takePart_1 : decode cX4_takePart 1 = .ok (.invokevirtual 91, 3) := by decide +kernel
theorem dX4_takePart_4 : decode cX4_takePart 4 = .ok (.aload_n 1, 1) := by decide +kernel
theorem dX4_takePart_5 : decode cX4_takePart 5 = .ok (.iload_n 2, 1) := by decide +kernel
theorem dX4_takePart_6 : decode cX4_takePart 6 = .ok (.invokevirtual 43, 3) := by decide +kernel
theorem dX4_takePart_9 : decode cX4_takePart 9 = .ok (.istore_n 3, 1) := by decide +kernel
theorem dX4_takePart_10 : decode cX4_takePart 10 = .ok (.iload_n 2, 1) := by decide +kernel
theorem dX4_takePart_11 : decode cX4_takePart 11 = .ok (.istore 4, 2) := by decide +kernel
theorem dX4_takePart_13 : decode cX4_takePart 13 = .ok (.iload 4, 2) := by decide +kernel
theorem dX4_takePart_15 : decode cX4_takePart 15 = .ok (.iload_n 3, 1) := by decide +kernel
theorem dX4_takePart_16 : decode cX4_takePart 16 = .ok (.if_icmp .ge 35, 3) := by decide +kernel
theorem dX4_takePart_19 : decode cX4_takePart 19 = .ok (.aload_n 0, 1) := by decide +kernel
theorem dX4_takePart_20 : decode cX4_takePart 20 = .ok (.aload_n 0, 1) := by decide +kernel
theorem dX4_takePart_21 : decode cX4_takePart 21 = .ok (.invokevirtual 27, 3) := by decide +kernel
theorem dX4_takePart_24 : decode cX4_takePart 24 = .ok (.aload_n 1, 1) := by decide +kernel
theorem dX4_takePart_25 : decode cX4_takePart 25 = .ok (.iload 4, 2) := by decide +kernel
theorem dX4_takePart_27 : decode cX4_takePart 27 = .ok (.invokevirtual 66, 3) := by decide +kernel
theorem dX4_takePart_30 : decode cX4_takePart 30 = .ok (.aload_n 1, 1) := by decide +kernel
theorem dX4_takePart_31 : decode cX4_takePart 31 = .ok (.iload 4, 2) := by decide +kernel
theorem dX4_takePart_33 : decode cX4_takePart 33 = .ok (.invokevirtual 36, 3) := by decide +kernel
theorem dX4_takePart_36 : decode cX4_takePart 36 = .ok (.aload_n 1, 1) := by decide +kernel
theorem dX4_takePart_37 : decode cX4_takePart 37 = .ok (.iload_n 2, 1) := by decide +kernel
theorem dX4_takePart_38 : decode cX4_takePart 38 = .ok (.invokevirtual 36, 3) := by decide +kernel
theorem dX4_takePart_41 : decode cX4_takePart 41 = .ok (.isub, 1) := by decide +kernel
theorem dX4_takePart_42 : decode cX4_takePart 42 = .ok (.invokevirtual 92, 3) := by decide +kernel
theorem dX4_takePart_45 : decode cX4_takePart 45 = .ok (.iinc 4 1, 3) := by decide +kernel
theorem dX4_takePart_48 : decode cX4_takePart 48 = .ok (.goto (-35), 3) := by decide +kernel
theorem dX4_takePart_51 : decode cX4_takePart 51 = .ok (.return_, 1) := by decide +kernel
theorem dX4_appendTo_0 : decode cX4_appendTo 0 = .ok (.iconst 0, 1) := by decide +kernel
theorem dX4_appendTo_1 : decode cX4_appendTo 1 = .ok (.istore_n 2, 1) := by decide +kernel
theorem dX4_appendTo_2 : decode cX4_appendTo 2 = .ok (.iconst 0, 1) := by decide +kernel
theorem dX4_appendTo_3 : decode cX4_appendTo 3 = .ok (.istore_n 3, 1) := by decide +kernel
theorem dX4_appendTo_4 : decode cX4_appendTo 4 = .ok (.iload_n 3, 1) := by decide +kernel
theorem dX4_appendTo_5 : decode cX4_appendTo 5 = .ok (.aload_n 0, 1) := by decide +kernel
theorem dX4_appendTo_6 : decode cX4_appendTo 6 = .ok (.invokevirtual 27, 3) := by decide +kernel
theorem dX4_appendTo_9 : decode cX4_appendTo 9 = .ok (.if_icmp .ge 66, 3) := by decide +kernel
theorem dX4_appendTo_12 : decode cX4_appendTo 12 = .ok (.aload_n 0, 1) := by decide +kernel
theorem dX4_appendTo_13 : decode cX4_appendTo 13 = .ok (.iload_n 3, 1) := by decide +kernel
theorem dX4_appendTo_14 : decode cX4_appendTo 14 = .ok (.invokevirtual 36, 3) := by decide +kernel
theorem dX4_appendTo_17 : decode cX4_appendTo 17 = .ok (.iload_n 2, 1) := by decide +kernel
theorem dX4_appendTo_18 : decode cX4_appendTo 18 = .ok (.if_icmp .le 12, 3) := by decide +kernel
theorem dX4_appendTo_21 : decode cX4_appendTo 21 = .ok (.aload_n 1, 1) := by decide +kernel
theorem dX4_appendTo_22 : decode cX4_appendTo 22 = .ok (.bipush 40, 2) := by decide +kernel
theorem dX4_appendTo_24 : decode cX4_appendTo 24 = .ok (.invokevirtual 94, 3) := by decide +kernel
theorem dX4_appendTo_27 : decode cX4_appendTo 27 = .ok (.goto 24, 3) := by decide +kernel
theorem dX4_appendTo_30 : decode cX4_appendTo 30 = .ok (.iload_n 3, 1) := by decide +kernel
theorem dX4_appendTo_31 : decode cX4_appendTo 31 = .ok (.ifCond .le 20, 3) := by decide +kernel
theorem dX4_appendTo_34 : decode cX4_appendTo 34 = .ok (.aload_n 1, 1) := by decide +kernel
theorem dX4_appendTo_35 : decode cX4_appendTo 35 = .ok (.iload_n 2, 1) := by decide +kernel
theorem dX4_appendTo_36 : decode cX4_appendTo 36 = .ok (.aload_n 0, 1) := by decide +kernel
theorem dX4_appendTo_37 : decode cX4_appendTo 37 = .ok (.iload_n 3, 1) := by decide +kernel
theorem dX4_appendTo_38 : decode cX4_appendTo 38 = .ok (.invokevirtual 36, 3) := by decide +kernel
theorem dX4_appendTo_41 : decode cX4_appendTo 41 = .ok (.isub, 1) := by decide +kernel
theorem dX4_appendTo_42 : decode cX4_appendTo 42 = .ok (.invokestatic 97, 3) := by decide +kernel
theorem dX4_appendTo_45 : decode cX4_appendTo 45 = .ok (.aload_n 1, 1) := by decide +kernel
theorem dX4_appendTo_46 : decode cX4_appendTo 46 = .ok (.bipush 44, 2) := by decide +kernel
theorem dX4_appendTo_48 : decode cX4_appendTo 48 = .ok (.invokevirtual 94, 3) := by decide +kernel
theorem dX4_appendTo_51 : decode cX4_appendTo 51 = .ok (.aload_n 0, 1) := by decide +kernel
theorem dX4_appendTo_52 : decode cX4_appendTo 52 = .ok (.iload_n 3, 1) := by decide +kernel
theorem dX4_appendTo_53 : decode cX4_appendTo 53 = .ok (.invokevirtual 36, 3) := by decide +kernel
theorem dX4_appendTo_56 : decode cX4_appendTo 56 = .ok (.istore_n 2, 1) := by decide +kernel
theorem dX4_appendTo_57 : decode cX4_appendTo 57 = .ok (.aload_n 1, 1) := by decide +kernel
theorem dX4_appendTo_58 : decode cX4_appendTo 58 = .ok (.bipush 97, 2) := by decide +kernel
theorem dX4_appendTo_60 : decode cX4_appendTo 60 = .ok (.aload_n 0, 1) := by decide +kernel
theorem dX4_appendTo_61 : decode cX4_appendTo 61 = .ok (.iload_n 3, 1) := by decide +kernel
theorem dX4_appendTo_62 : decode cX4_appendTo 62 = .ok (.invokevirtual 66, 3) := by decide +kernel
theorem dX4_appendTo_65 : decode cX4_appendTo 65 = .ok (.iadd, 1) := by decide +kernel
theorem dX4_appendTo_66 : decode cX4_appendTo 66 = .ok (.invokevirtual 94, 3) := by decide +kernel
theorem dX4_appendTo_69 : decode cX4_appendTo 69 = .ok (.iinc 3 1, 3) := by decide +kernel
theorem dX4_appendTo_72 : decode cX4_appendTo 72 = .ok (.goto (-68), 3) := by decide +kernel
theorem dX4_appendTo_75 : decode cX4_appendTo 75 = .ok (.aload_n 1, 1) := by decide +kernel
theorem dX4_appendTo_76 : decode cX4_appendTo 76 = .ok (.iload_n 2, 1) := by decide +kernel
theorem dX4_appendTo_77 : decode cX4_appendTo 77 = .ok (.invokestatic 97, 3) := by decide +kernel
theorem dX4_appendTo_80 : decode cX4_appendTo 80 = .ok (.return_, 1) := by decide +kernel
theorem dX4_appendClosings_0 : decode cX4_appendClosings 0 = .ok (.iconst 0, 1) := by decide +kernel
theorem dX4_appendClosings_1 : decode cX4_appendClosings 1 = .ok (.istore_n 2, 1) := by decide +kernel
theorem dX4_appendClosings_2 : decode cX4_appendClosings 2 = .ok (.iload_n 2, 1) := by decide +kernel
theorem dX4_appendClosings_3 : decode cX4_appendClosings 3 = .ok (.iload_n 1, 1) := by decide +kernel
theorem dX4_appendClosings_4 : decode cX4_appendClosings 4 = .ok (.if_icmp .ge 15, 3) := by decide +kernel
theorem dX4_appendClosings_7 : decode cX4_appendClosings 7 = .ok (.aload_n 0, 1) := by decide +kernel
theorem dX4_appendClosings_8 : decode cX4_appendClosings 8 = .ok (.bipush 41, 2) := by decide +kernel
theorem dX4_appendClosings_10 : decode cX4_appendClosings 10 = .ok (.invokevirtual 94, 3) := by decide +kernel
theorem dX4_appendClosings_13 : decode cX4_appendClosings 13 = .ok (.iinc 2 1, 3) := by decide +kernel
theorem dX4_appendClosings_16 : decode cX4_appendClosings 16 = .ok (.goto (-14), 3) := by decide +kernel
theorem dX4_appendClosings_19 : decode cX4_appendClosings 19 = .ok (.return_, 1) := by decide +kernel
theorem dX5_init_0 : decode cX5_init 0 = .ok (.aload_n 0, 1) := by decide +kernel
theorem dX5_init_1 : decode cX5_init 1 = .ok (.invokespecial 1, 3) := by decide +kernel
theorem dX5_init_4 : decode cX5_init 4 = .ok (.aload_n 0, 1) := by decide +kernel
theorem dX5_init_5 : decode cX5_init 5 = .ok (.new 7, 3) := by decide +kernel
theorem dX5_init_8 : decode cX5_init 8 = .ok (.dup, 1) := by decide +kernel
theorem dX5_init_9 : decode cX5_init 9 = .ok (.invokespecial 9, 3) := by decide +kernel
theorem dX5_init_12 : decode cX5_init 12 = .ok (.putfield 10, 3) := by decide +kernel
theorem dX5_init_15 : decode cX5_init 15 = .ok (.aload_n 0, 1) := by decide +kernel
theorem dX5_init_16 : decode cX5_init 16 = .ok (.new 16, 3) := by decide +kernel
theorem dX5_init_19 : decode cX5_init 19 = .ok (.dup, 1) := by decide +kernel
theorem dX5_init_20 : decode cX5_init 20 = .ok (.invokespecial 18, 3) := by decide +kernel
theorem dX5_init_23 : decode cX5_init 23 = .ok (.putfield 19, 3) := by decide +kernel
theorem dX5_init_26 : decode cX5_init 26 = .ok (.aload_n 0, 1) := by decide +kernel
theorem dX5_init_27 : decode cX5_init 27 = .ok (.new 23, 3) := by decide +kernel
theorem dX5_init_30 : decode cX5_init 30 = .ok (.dup, 1) := by decide +kernel
theorem dX5_init_31 : decode cX5_init 31 = .ok (.bipush 120, 2) := by decide +kernel
theorem dX5_init_33 : decode cX5_init 33 = .ok (.invokespecial 25, 3) := by decide +kernel
theorem dX5_init_36 : decode cX5_init 36 = .ok (.putfield 28, 3) := by decide +kernel
theorem dX5_init_39 : decode cX5_init 39 = .ok (.aload_n 0, 1) := by decide +kernel
theorem dX5_init_40 : decode cX5_init 40 = .ok (.new 32, 3) := by decide +kernel
theorem dX5_init_43 : decode cX5_init 43 = .ok (.dup, 1) := by decide +kernel
theorem dX5_init_44 : decode cX5_init 44 = .ok (.invokespecial 34, 3) := by decide +kernel
theorem dX5_init_47 : decode cX5_init 47 = .ok (.putfield 35, 3) := by decide +kernel
theorem dX5_init_50 : decode cX5_init 50 = .ok (.aload_n 0, 1) := by decide +kernel
theorem dX5_init_51 : decode cX5_init 51 = .ok (.getfield 10, 3) := by decide +kernel
theorem dX5_init_54 : decode cX5_init 54 = .ok (.iconst 0, 1) := by decide +kernel
theorem dX5_init_55 : decode cX5_init 55 = .ok (.iconst 0, 1) := by decide +kernel
theorem dX5_init_56 : decode cX5_init 56 = .ok (.iconst 0, 1) := by decide +kernel
theorem dX5_init_57 : decode cX5_init 57 = .ok (.invokevirtual 39, 3) := by decide +kernel
theorem dX5_init_60 : decode cX5_init 60 = .ok (.return_, 1) := by decide +kernel
theorem dX5_down_0 : decode cX5_down 0 = .ok (.iload_n 1, 1) := by decide +kernel
theorem dX5_down_1 : decode cX5_down 1 = .ok (.ifCond .ge 5, 3) := by decide +kernel
theorem dX5_down_4 : decode cX5_down 4 = .ok (.iconst (-1), 1) := by decide +kernel
theorem dX5_down_5 : decode cX5_down 5 = .ok (.ireturn, 1) := by decide +kernel
theorem dX5_down_6 : decode cX5_down 6 = .ok (.aload_n 0, 1) := by decide +kernel
theorem dX5_down_7 : decode cX5_down 7 = .ok (.aload_n 0, 1) := by decide +kernel
theorem dX5_down_8 : decode cX5_down 8 = .ok (.getfield 10, 3) := by decide +kernel
theorem dX5_down_11 : decode cX5_down 11 = .ok (.getfield 43, 3) := by decide +kernel
theorem dX5_down_14 : decode cX5_down 14 = .ok (.aload_n 0, 1) := by decide +kernel
theorem dX5_down_15 : decode cX5_down 15 = .ok (.getfield 10, 3) := by decide +kernel
theorem dX5_down_18 : decode cX5_down 18 = .ok (.getfield 47, 3) := by decide +kernel
theorem dX5_down_21 : decode cX5_down 21 = .ok (.iload_n 1, 1) := by decide +kernel
theorem dX5_down_22 : decode cX5_down 22 = .ok (.invokevirtual 51, 3) := by decide +kernel
theorem dX5_down_25 : decode cX5_down 25 = .ok (.invokevirtual 57, 3) := by decide +kernel
theorem dX5_down_28 : decode cX5_down 28 = .ok (.ireturn, 1) := by decide +kernel
theorem dX5_up_0 : decode cX5_up 0 = .ok (.aload_n 0, 1) := by decide +kernel
theorem dX5_up_1 : decode cX5_up 1 = .ok (.aload_n 0, 1) := by decide +kernel
theorem dX5_up_2 : decode cX5_up 2 = .ok (.getfield 10, 3) := by decide +kernel
theorem dX5_up_5 : decode cX5_up 5 = .ok (.getfield 43, 3) := by decide +kernel
theorem dX5_up_8 : decode cX5_up 8 = .ok (.aload_n 0, 1) := by decide +kernel
theorem dX5_up_9 : decode cX5_up 9 = .ok (.getfield 10, 3) := by decide +kernel
theorem dX5_up_12 : decode cX5_up 12 = .ok (.getfield 47, 3) := by decide +kernel
theorem dX5_up_15 : decode cX5_up 15 = .ok (.invokevirtual 61, 3) := by decide +kernel
theorem dX5_up_18 : decode cX5_up 18 = .ok (.invokevirtual 57, 3) := by decide +kernel
theorem dX5_up_21 : decode cX5_up 21 = .ok (.ireturn, 1) := by decide +kernel
theorem dX5_side_0 : decode cX5_side 0 = .ok (.iload_n 1, 1) := by decide +kernel
theorem dX5_side_1 : decode cX5_side 1 = .ok (.invokestatic 64, 3) := by decide +kernel
theorem dX5_side_4 : decode cX5_side 4 = .ok (.ifCond .ne 5, 3) := by decide +kernel
theorem dX5_side_7 : decode cX5_side 7 = .ok (.iconst (-1), 1) := by decide +kernel
theorem dX5_side_8 : decode cX5_side 8 = .ok (.ireturn, 1) := by decide +kernel
theorem dX5_side_9 : decode cX5_side 9 = .ok (.aload_n 0, 1) := by decide +kernel
theorem dX5_side_10 : decode cX5_side 10 = .ok (.aload_n 0, 1) := by decide +kernel
theorem dX5_side_11 : decode cX5_side 11 = .ok (.getfield 10, 3) := by decide +kernel
theorem dX5_side_14 : decode cX5_side 14 = .ok (.getfield 43, 3) := by decide +kernel
theorem dX5_side_17 : decode cX5_side 17 = .ok (.aload_n 0, 1) := by decide +kernel
theorem dX5_side_18 : decode cX5_side 18 = .ok (.getfield 10, 3) := by decide +kernel
theorem dX5_side_21 : decode cX5_side 21 = .ok (.getfield 47, 3) := by decide +kernel
theorem dX5_side_24 : decode cX5_side 24 = .ok (.iload_n 1, 1) := by decide +kernel
theorem dX5_side_25 : decode cX5_side 25 = .ok (.invokevirtual 68, 3) := by decide +kernel
theorem dX5_side_28 : decode cX5_side 28 = .ok (.invokevirtual 57, 3) := by decide +kernel
theorem dX5_side_31 : decode cX5_side 31 = .ok (.ireturn, 1) := by decide +kernel
theorem dX5_step_0 : decode cX5_step 0 = .ok (.iload_n 1, 1) := by decide +kernel
theorem dX5_step_1 : decode cX5_step 1 = .ok (.invokestatic 64, 3) := by decide +kernel
theorem dX5_step_4 : decode cX5_step 4 = .ok (.ifCond .ne 5, 3) := by decide +kernel
theorem dX5_step_7 : decode cX5_step 7 = .ok (.iconst (-1), 1) := by decide +kernel
theorem dX5_step_8 : decode cX5_step 8 = .ok (.ireturn, 1) := by decide +kernel
theorem dX5_step_9 : decode cX5_step 9 = .ok (.iload_n 1, 1) := by decide +kernel
theorem dX5_step_10 : decode cX5_step 10 = .ok (.iconst 1, 1) := by decide +kernel
theorem dX5_step_11 : decode cX5_step 11 = .ok (.if_icmp .ne 15, 3) := by decide +kernel
theorem dX5_step_14 : decode cX5_step 14 = .ok (.aload_n 0, 1) := by decide +kernel
theorem dX5_step_15 : decode cX5_step 15 = .ok (.getfield 10, 3) := by decide +kernel
theorem dX5_step_18 : decode cX5_step 18 = .ok (.getfield 47, 3) := by decide +kernel
theorem dX5_step_21 : decode cX5_step 21 = .ok (.iconst 1, 1) := by decide +kernel
theorem dX5_step_22 : decode cX5_step 22 = .ok (.iadd, 1) := by decide +kernel
theorem dX5_step_23 : decode cX5_step 23 = .ok (.goto 12, 3) := by decide +kernel
theorem dX5_step_26 : decode cX5_step 26 = .ok (.aload_n 0, 1) := by decide +kernel
theorem dX5_step_27 : decode cX5_step 27 = .ok (.getfield 10, 3) := by decide +kernel
theorem dX5_step_30 : decode cX5_step 30 = .ok (.getfield 47, 3) := by decide +kernel
theorem dX5_step_33 : decode cX5_step 33 = .ok (.iconst 1, 1) := by decide +kernel
theorem dX5_step_34 : decode cX5_step 34 = .ok (.isub, 1) := by decide +kernel
theorem dX5_step_35 : decode cX5_step 35 = .ok (.istore_n 2, 1) := by decide +kernel
theorem dX5_step_36 : decode cX5_step 36 = .ok (.aload_n 0, 1) := by decide +kernel
theorem dX5_step_37 : decode cX5_step 37 = .ok (.aload_n 0, 1) := by decide +kernel
theorem dX5_step_38 : decode cX5_step 38 = .ok (.getfield 10, 3) := by decide +kernel
theorem dX5_step_41 : decode cX5_step 41 = .ok (.getfield 43, 3) := by decide +kernel
theorem dX5_step_44 : decode cX5_step 44 = .ok (.iload_n 2, 1) := by decide +kernel
theorem dX5_step_45 : decode cX5_step 45 = .ok (.invokevirtual 71, 3) := by decide +kernel
theorem dX5_step_48 : decode cX5_step 48 = .ok (.ifCond .eq 7, 3) := by decide +kernel
theorem dX5_step_51 : decode cX5_step 51 = .ok (.iload_n 2, 1) := by decide +kernel
theorem dX5_step_52 : decode cX5_step 52 = .ok (.goto 4, 3) := by decide +kernel
theorem dX5_step_55 : decode cX5_step 55 = .ok (.iconst (-1), 1) := by decide +kernel
theorem dX5_step_56 : decode cX5_step 56 = .ok (.invokevirtual 57, 3) := by decide +kernel
theorem dX5_step_59 : decode cX5_step 59 = .ok (.ireturn, 1) := by decide +kernel
theorem dX5_top_0 : decode cX5_top 0 = .ok (.aload_n 0, 1) := by decide +kernel
theorem dX5_top_1 : decode cX5_top 1 = .ok (.getfield 10, 3) := by decide +kernel
theorem dX5_top_4 : decode cX5_top 4 = .ok (.getfield 43, 3) := by decide +kernel
theorem dX5_top_7 : decode cX5_top 7 = .ok (.aload_n 0, 1) := by decide +kernel
theorem dX5_top_8 : decode cX5_top 8 = .ok (.getfield 10, 3) := by decide +kernel
theorem dX5_top_11 : decode cX5_top 11 = .ok (.getfield 47, 3) := by decide +kernel
theorem dX5_top_14 : decode cX5_top 14 = .ok (.invokevirtual 74, 3) := by decide +kernel
theorem dX5_top_17 : decode cX5_top 17 = .ok (.istore_n 1, 1) := by decide +kernel
theorem dX5_top_18 : decode cX5_top 18 = .ok (.iload_n 1, 1) := by decide +kernel
theorem dX5_top_19 : decode cX5_top 19 = .ok (.ifCond .ne 6, 3) := by decide +kernel
theorem dX5_top_22 : decode cX5_top 22 = .ok (.bipush (-2), 2) := by decide +kernel
theorem dX5_top_24 : decode cX5_top 24 = .ok (.ireturn, 1) := by decide +kernel
theorem dX5_top_25 : decode cX5_top 25 = .ok (.aload_n 0, 1) := by decide +kernel
theorem dX5_top_26 : decode cX5_top 26 = .ok (.iconst 0, 1) := by decide +kernel
theorem dX5_top_27 : decode cX5_top 27 = .ok (.invokevirtual 57, 3) := by decide +kernel
theorem dX5_top_30 : decode cX5_top 30 = .ok (.pop, 1) := by decide +kernel
theorem dX5_top_31 : decode cX5_top 31 = .ok (.iload_n 1, 1) := by decide +kernel
theorem dX5_top_32 : decode cX5_top 32 = .ok (.ireturn, 1) := by decide +kernel
theorem dX5_back_0 : decode cX5_back 0 = .ok (.aload_n 0, 1) := by decide +kernel
theorem dX5_back_1 : decode cX5_back 1 = .ok (.getfield 10, 3) := by decide +kernel
theorem dX5_back_4 : decode cX5_back 4 = .ok (.invokevirtual 77, 3) := by decide +kernel
theorem dX5_back_7 : decode cX5_back 7 = .ok (.istore_n 1, 1) := by decide +kernel
theorem dX5_back_8 : decode cX5_back 8 = .ok (.iload_n 1, 1) := by decide +kernel
theorem dX5_back_9 : decode cX5_back 9 = .ok (.iconst (-1), 1) := by decide +kernel
theorem dX5_back_10 : decode cX5_back 10 = .ok (.if_icmp .ne 6, 3) := by decide +kernel
theorem dX5_back_13 : decode cX5_back 13 = .ok (.bipush (-2), 2) := by decide +kernel
theorem dX5_back_15 : decode cX5_back 15 = .ok (.ireturn, 1) := by decide +kernel
theorem dX5_back_16 : decode cX5_back 16 = .ok (.aload_n 0, 1) := by decide +kernel
theorem dX5_back_17 : decode cX5_back 17 = .ok (.getfield 19, 3) := by decide +kernel
theorem dX5_back_20 : decode cX5_back 20 = .ok (.aload_n 0, 1) := by decide +kernel
theorem dX5_back_21 : decode cX5_back 21 = .ok (.getfield 10, 3) := by decide +kernel
theorem dX5_back_24 : decode cX5_back 24 = .ok (.invokevirtual 81, 3) := by decide +kernel
theorem dX5_back_27 : decode cX5_back 27 = .ok (.aload_n 0, 1) := by decide +kernel
theorem dX5_back_28 : decode cX5_back 28 = .ok (.getfield 10, 3) := by decide +kernel
theorem dX5_back_31 : decode cX5_back 31 = .ok (.iload_n 1, 1) := by decide +kernel
theorem dX5_back_32 : decode cX5_back 32 = .ok (.invokevirtual 85, 3) := by decide +kernel
theorem dX5_back_35 : decode cX5_back 35 = .ok (.aload_n 0, 1) := by decide +kernel
theorem dX5_back_36 : decode cX5_back 36 = .ok (.getfield 10, 3) := by decide +kernel
theorem dX5_back_39 : decode cX5_back 39 = .ok (.getfield 47, 3) := by decide +kernel
theorem dX5_back_42 : decode cX5_back 42 = .ok (.ireturn, 1) := by decide +kernel
theorem dX5_letter_0 : decode cX5_letter 0 = .ok (.iload_n 1, 1) := by decide +kernel
theorem dX5_letter_1 : decode cX5_letter 1 = .ok (.invokestatic 88, 3) := by decide +kernel
theorem dX5_letter_4 : decode cX5_letter 4 = .ok (.ifCond .ne 5, 3) := by decide +kernel
theorem dX5_letter_7 : decode cX5_letter 7 = .ok (.iconst (-1), 1) := by decide +kernel
theorem dX5_letter_8 : decode cX5_letter 8 = .ok (.ireturn, 1) := by decide +kernel
theorem dX5_letter_9 : decode cX5_letter 9 = .ok (.aload_n 0, 1) := by decide +kernel
theorem dX5_letter_10 : decode cX5_letter 10 = .ok (.getfield 19, 3) := by decide +kernel
theorem dX5_letter_13 : decode cX5_letter 13 = .ok (.aload_n 0, 1) := by decide +kernel
theorem dX5_letter_14 : decode cX5_letter 14 = .ok (.getfield 10, 3) := by decide +kernel
theorem dX5_letter_17 : decode cX5_letter 17 = .ok (.invokevirtual 81, 3) := by decide +kernel
theorem dX5_letter_20 : decode cX5_letter 20 = .ok (.aload_n 0, 1) := by decide +kernel
theorem dX5_letter_21 : decode cX5_letter 21 = .ok (.getfield 10, 3) := by decide +kernel
theorem dX5_letter_24 : decode cX5_letter 24 = .ok (.getfield 43, 3) := by decide +kernel
theorem dX5_letter_27 : decode cX5_letter 27 = .ok (.aload_n 0, 1) := by decide +kernel
theorem dX5_letter_28 : decode cX5_letter 28 = .ok (.getfield 10, 3) := by decide +kernel
theorem dX5_letter_31 : decode cX5_letter 31 = .ok (.getfield 47, 3) := by decide +kernel
theorem dX5_letter_34 : decode cX5_letter 34 = .ok (.invokevirtual 91, 3) := by decide +kernel
theorem dX5_letter_37 : decode cX5_letter 37 = .ok (.istore_n 2, 1) := by decide +kernel
theorem dX5_letter_38 : decode cX5_letter 38 = .ok (.aload_n 0, 1) := by decide +kernel
theorem dX5_letter_39 : decode cX5_letter 39 = .ok (.getfield 10, 3) := by decide +kernel
theorem dX5_letter_42 : decode cX5_letter 42 = .ok (.getfield 43, 3) := by decide +kernel
theorem dX5_letter_45 : decode cX5_letter 45 = .ok (.aload_n 0, 1) := by decide +kernel
theorem dX5_letter_46 : decode cX5_letter 46 = .ok (.getfield 10, 3) := by decide +kernel
theorem dX5_letter_49 : decode cX5_letter 49 = .ok (.getfield 47, 3) := by decide +kernel
theorem dX5_letter_52 : decode cX5_letter 52 = .ok (.iload_n 1, 1) := by decide +kernel
theorem dX5_letter_53 : decode cX5_letter 53 = .ok (.invokevirtual 94, 3) := by decide +kernel
theorem dX5_letter_56 : decode cX5_letter 56 = .ok (.iload_n 2, 1) := by decide +kernel
theorem dX5_letter_57 : decode cX5_letter 57 = .ok (.ireturn, 1) := by decide +kernel
theorem dX5_child_0 : decode cX5_child 0 = .ok (.aload_n 0, 1) := by decide +kernel
theorem dX5_child_1 : decode cX5_child 1 = .ok (.getfield 10, 3) := by decide +kernel
theorem dX5_child_4 : decode cX5_child 4 = .ok (.getfield 43, 3) := by decide +kernel
theorem dX5_child_7 : decode cX5_child 7 = .ok (.aload_n 0, 1) := by decide +kernel
theorem dX5_child_8 : decode cX5_child 8 = .ok (.getfield 10, 3) := by decide +kernel
theorem dX5_child_11 : decode cX5_child 11 = .ok (.getfield 47, 3) := by decide +kernel
theorem dX5_child_14 : decode cX5_child 14 = .ok (.invokevirtual 98, 3) := by decide +kernel
theorem dX5_child_17 : decode cX5_child 17 = .ok (.istore_n 3, 1) := by decide +kernel
theorem dX5_child_18 : decode cX5_child 18 = .ok (.iload_n 1, 1) := by decide +kernel
theorem dX5_child_19 : decode cX5_child 19 = .ok (.ifCond .lt 15, 3) := by decide +kernel
theorem dX5_child_22 : decode cX5_child 22 = .ok (.iload_n 1, 1) := by decide +kernel
theorem dX5_child_23 : decode cX5_child 23 = .ok (.iload_n 3, 1) := by decide +kernel
theorem dX5_child_24 : decode cX5_child 24 = .ok (.if_icmp .gt 10, 3) := by decide +kernel
theorem dX5_child_27 : decode cX5_child 27 = .ok (.iload_n 2, 1) := by decide +kernel
theorem dX5_child_28 : decode cX5_child 28 = .ok (.invokestatic 88, 3) := by decide +kernel
theorem dX5_child_31 : decode cX5_child 31 = .ok (.ifCond .ne 5, 3) := by decide +kernel
theorem dX5_child_34 : decode cX5_child 34 = .ok (.iconst (-1), 1) := by decide +kernel
theorem dX5_child_35 : decode cX5_child 35 = .ok (.ireturn, 1) := by decide +kernel
theorem dX5_child_36 : decode cX5_child 36 = .ok (.aload_n 0, 1) := by decide +kernel
theorem dX5_child_37 : decode cX5_child 37 = .ok (.getfield 10, 3) := by decide +kernel
theorem dX5_child_40 : decode cX5_child 40 = .ok (.getfield 43, 3) := by decide +kernel
theorem dX5_child_43 : decode cX5_child 43 = .ok (.aload_n 0, 1) := by decide +kernel
theorem dX5_child_44 : decode cX5_child 44 = .ok (.getfield 10, 3) := by decide +kernel
theorem dX5_child_47 : decode cX5_child 47 = .ok (.getfield 47, 3) := by decide +kernel
theorem dX5_child_50 : decode cX5_child 50 = .ok (.invokevirtual 74, 3) := by decide +kernel
theorem dX5_child_53 : decode cX5_child 53 = .ok (.iconst 1, 1) := by decide +kernel
theorem dX5_child_54 : decode cX5_child 54 = .ok (.iadd, 1) := by decide +kernel
theorem dX5_child_55 : decode cX5_child 55 = .ok (.istore 4, 2) := by decide +kernel
theorem dX5_child_57 : decode cX5_child 57 = .ok (.aload_n 0, 1) := by decide +kernel
theorem dX5_child_58 : decode cX5_child 58 = .ok (.getfield 10, 3) := by decide +kernel
theorem dX5_child_61 : decode cX5_child 61 = .ok (.getfield 43, 3) := by decide +kernel
theorem dX5_child_64 : decode cX5_child 64 = .ok (.invokevirtual 101, 3) := by decide +kernel
theorem dX5_child_67 : decode cX5_child 67 = .ok (.bipush 40, 2) := by decide +kernel
theorem dX5_child_69 : decode cX5_child 69 = .ok (.if_icmp .ge 16, 3) := by decide +kernel
theorem dX5_child_72 : decode cX5_child 72 = .ok (.iload_n 3, 1) := by decide +kernel
theorem dX5_child_73 : decode cX5_child 73 = .ok (.bipush 6, 2) := by decide +kernel
theorem dX5_child_75 : decode cX5_child 75 = .ok (.if_icmp .ge 10, 3) := by decide +kernel
theorem dX5_child_78 : decode cX5_child 78 = .ok (.iload 4, 2) := by decide +kernel
theorem dX5_child_80 : decode cX5_child 80 = .ok (.bipush 7, 2) := by decide +kernel
theorem dX5_child_82 : decode cX5_child 82 = .ok (.if_icmp .le 6, 3) := by decide +kernel
theorem dX5_child_85 : decode cX5_child 85 = .ok (.bipush (-3), 2) := by decide +kernel
theorem dX5_child_87 : decode cX5_child 87 = .ok (.ireturn, 1) := by decide +kernel
theorem dX5_child_88 : decode cX5_child 88 = .ok (.aload_n 0, 1) := by decide +kernel
theorem dX5_child_89 : decode cX5_child 89 = .ok (.getfield 19, 3) := by decide +kernel
theorem dX5_child_92 : decode cX5_child 92 = .ok (.aload_n 0, 1) := by decide +kernel
theorem dX5_child_93 : decode cX5_child 93 = .ok (.getfield 10, 3) := by decide +kernel
theorem dX5_child_96 : decode cX5_child 96 = .ok (.invokevirtual 81, 3) := by decide +kernel
theorem dX5_child_99 : decode cX5_child 99 = .ok (.aload_n 0, 1) := by decide +kernel
theorem dX5_child_100 : decode cX5_child 100 = .ok (.getfield 10, 3) := by decide +kernel
theorem dX5_child_103 : decode cX5_child 103 = .ok (.aload_n 0, 1) := by decide +kernel
theorem dX5_child_104 : decode cX5_child 104 = .ok (.getfield 10, 3) := by decide +kernel
theorem dX5_child_107 : decode cX5_child 107 = .ok (.getfield 43, 3) := by decide +kernel
theorem dX5_child_110 : decode cX5_child 110 = .ok (.aload_n 0, 1) := by decide +kernel
theorem dX5_child_111 : decode cX5_child 111 = .ok (.getfield 10, 3) := by decide +kernel
theorem dX5_child_114 : decode cX5_child 114 = .ok (.getfield 47, 3) := by decide +kernel
theorem dX5_child_117 : decode cX5_child 117 = .ok (.iload_n 1, 1) := by decide +kernel
theorem dX5_child_118 : decode cX5_child 118 = .ok (.invokevirtual 104, 3) := by decide +kernel
theorem dX5_child_121 : decode cX5_child 121 = .ok (.iload_n 2, 1) := by decide +kernel
theorem dX5_child_122 : decode cX5_child 122 = .ok (.iload 4, 2) := by decide +kernel
theorem dX5_child_124 : decode cX5_child 124 = .ok (.invokevirtual 39, 3) := by decide +kernel
theorem dX5_child_127 : decode cX5_child 127 = .ok (.iload_n 3, 1) := by decide +kernel
theorem dX5_child_128 : decode cX5_child 128 = .ok (.iconst 1, 1) := by decide +kernel
theorem dX5_child_129 : decode cX5_child 129 = .ok (.iadd, 1) := by decide +kernel
theorem dX5_child_130 : decode cX5_child 130 = .ok (.ireturn, 1) := by decide +kernel
theorem dX5_beside_0 : decode cX5_beside 0 = .ok (.iload_n 1, 1) := by decide +kernel
theorem dX5_beside_1 : decode cX5_beside 1 = .ok (.invokestatic 64, 3) := by decide +kernel
theorem dX5_beside_4 : decode cX5_beside 4 = .ok (.ifCond .eq 10, 3) := by decide +kernel
theorem dX5_beside_7 : decode cX5_beside 7 = .ok (.iload_n 2, 1) := by decide +kernel
theorem dX5_beside_8 : decode cX5_beside 8 = .ok (.invokestatic 88, 3) := by decide +kernel
theorem dX5_beside_11 : decode cX5_beside 11 = .ok (.ifCond .ne 5, 3) := by decide +kernel
theorem dX5_beside_14 : decode cX5_beside 14 = .ok (.iconst (-1), 1) := by decide +kernel
theorem dX5_beside_15 : decode cX5_beside 15 = .ok (.ireturn, 1) := by decide +kernel
theorem dX5_beside_16 : decode cX5_beside 16 = .ok (.aload_n 0, 1) := by decide +kernel
theorem dX5_beside_17 : decode cX5_beside 17 = .ok (.getfield 10, 3) := by decide +kernel
theorem dX5_beside_20 : decode cX5_beside 20 = .ok (.getfield 43, 3) := by decide +kernel
theorem dX5_beside_23 : decode cX5_beside 23 = .ok (.aload_n 0, 1) := by decide +kernel
theorem dX5_beside_24 : decode cX5_beside 24 = .ok (.getfield 10, 3) := by decide +kernel
theorem dX5_beside_27 : decode cX5_beside 27 = .ok (.getfield 47, 3) := by decide +kernel
theorem dX5_beside_30 : decode cX5_beside 30 = .ok (.invokevirtual 61, 3) := by decide +kernel
theorem dX5_beside_33 : decode cX5_beside 33 = .ok (.istore_n 3, 1) := by decide +kernel
theorem dX5_beside_34 : decode cX5_beside 34 = .ok (.iload_n 3, 1) := by decide +kernel
theorem dX5_beside_35 : decode cX5_beside 35 = .ok (.iconst (-1), 1) := by decide +kernel
theorem dX5_beside_36 : decode cX5_beside 36 = .ok (.if_icmp .ne 6, 3) := by decide +kernel
theorem dX5_beside_39 : decode cX5_beside 39 = .ok (.bipush (-2), 2) := by decide +kernel
theorem dX5_beside_41 : decode cX5_beside 41 = .ok (.ireturn, 1) := by decide +kernel
theorem dX5_beside_42 : decode cX5_beside 42 = .ok (.aload_n 0, 1) := by decide +kernel
theorem dX5_beside_43 : decode cX5_beside 43 = .ok (.getfield 10, 3) := by decide +kernel
theorem dX5_beside_46 : decode cX5_beside 46 = .ok (.getfield 43, 3) := by decide +kernel
theorem dX5_beside_49 : decode cX5_beside 49 = .ok (.iload_n 3, 1) := by decide +kernel
theorem dX5_beside_50 : decode cX5_beside 50 = .ok (.invokevirtual 98, 3) := by decide +kernel
theorem dX5_beside_53 : decode cX5_beside 53 = .ok (.istore 4, 2) := by decide +kernel
theorem dX5_beside_55 : decode cX5_beside 55 = .ok (.aload_n 0, 1) := by decide +kernel
theorem dX5_beside_56 : decode cX5_beside 56 = .ok (.getfield 10, 3) := by decide +kernel
theorem dX5_beside_59 : decode cX5_beside 59 = .ok (.getfield 43, 3) := by decide +kernel
theorem dX5_beside_62 : decode cX5_beside 62 = .ok (.invokevirtual 101, 3) := by decide +kernel
theorem dX5_beside_65 : decode cX5_beside 65 = .ok (.bipush 40, 2) := by decide +kernel
theorem dX5_beside_67 : decode cX5_beside 67 = .ok (.if_icmp .ge 10, 3) := by decide +kernel
theorem dX5_beside_70 : decode cX5_beside 70 = .ok (.iload 4, 2) := by decide +kernel
theorem dX5_beside_72 : decode cX5_beside 72 = .ok (.bipush 6, 2) := by decide +kernel
theorem dX5_beside_74 : decode cX5_beside 74 = .ok (.if_icmp .lt 6, 3) := by decide +kernel
theorem dX5_beside_77 : decode cX5_beside 77 = .ok (.bipush (-3), 2) := by decide +kernel
theorem dX5_beside_79 : decode cX5_beside 79 = .ok (.ireturn, 1) := by decide +kernel
theorem dX5_beside_80 : decode cX5_beside 80 = .ok (.aload_n 0, 1) := by decide +kernel
theorem dX5_beside_81 : decode cX5_beside 81 = .ok (.getfield 19, 3) := by decide +kernel
theorem dX5_beside_84 : decode cX5_beside 84 = .ok (.aload_n 0, 1) := by decide +kernel
theorem dX5_beside_85 : decode cX5_beside 85 = .ok (.getfield 10, 3) := by decide +kernel
theorem dX5_beside_88 : decode cX5_beside 88 = .ok (.invokevirtual 81, 3) := by decide +kernel
theorem dX5_beside_91 : decode cX5_beside 91 = .ok (.aload_n 0, 1) := by decide +kernel
theorem dX5_beside_92 : decode cX5_beside 92 = .ok (.getfield 10, 3) := by decide +kernel
theorem dX5_beside_95 : decode cX5_beside 95 = .ok (.getfield 43, 3) := by decide +kernel
theorem dX5_beside_98 : decode cX5_beside 98 = .ok (.aload_n 0, 1) := by decide +kernel
theorem dX5_beside_99 : decode cX5_beside 99 = .ok (.getfield 10, 3) := by decide +kernel
theorem dX5_beside_102 : decode cX5_beside 102 = .ok (.getfield 47, 3) := by decide +kernel
theorem dX5_beside_105 : decode cX5_beside 105 = .ok (.invokevirtual 74, 3) := by decide +kernel
theorem dX5_beside_108 : decode cX5_beside 108 = .ok (.istore 5, 2) := by decide +kernel
theorem dX5_beside_110 : decode cX5_beside 110 = .ok (.iload_n 1, 1) := by decide +kernel
theorem dX5_beside_111 : decode cX5_beside 111 = .ok (.iconst 1, 1) := by decide +kernel
theorem dX5_beside_112 : decode cX5_beside 112 = .ok (.if_icmp .ne 33, 3) := by decide +kernel
theorem dX5_beside_115 : decode cX5_beside 115 = .ok (.aload_n 0, 1) := by decide +kernel
theorem dX5_beside_116 : decode cX5_beside 116 = .ok (.getfield 10, 3) := by decide +kernel
theorem dX5_beside_119 : decode cX5_beside 119 = .ok (.aload_n 0, 1) := by decide +kernel
theorem dX5_beside_120 : decode cX5_beside 120 = .ok (.getfield 10, 3) := by decide +kernel
theorem dX5_beside_123 : decode cX5_beside 123 = .ok (.getfield 43, 3) := by decide +kernel
theorem dX5_beside_126 : decode cX5_beside 126 = .ok (.aload_n 0, 1) := by decide +kernel
theorem dX5_beside_127 : decode cX5_beside 127 = .ok (.getfield 10, 3) := by decide +kernel
theorem dX5_beside_130 : decode cX5_beside 130 = .ok (.getfield 47, 3) := by decide +kernel
theorem dX5_beside_133 : decode cX5_beside 133 = .ok (.invokevirtual 107, 3) := by decide +kernel
theorem dX5_beside_136 : decode cX5_beside 136 = .ok (.iload_n 2, 1) := by decide +kernel
theorem dX5_beside_137 : decode cX5_beside 137 = .ok (.iload 5, 2) := by decide +kernel
theorem dX5_beside_139 : decode cX5_beside 139 = .ok (.invokevirtual 39, 3) := by decide +kernel
theorem dX5_beside_142 : decode cX5_beside 142 = .ok (.goto 33, 3) := by decide +kernel
theorem dX5_beside_145 : decode cX5_beside 145 = .ok (.aload_n 0, 1) := by decide +kernel
theorem dX5_beside_146 : decode cX5_beside 146 = .ok (.getfield 10, 3) := by decide +kernel
theorem dX5_beside_149 : decode cX5_beside 149 = .ok (.aload_n 0, 1) := by decide +kernel
theorem dX5_beside_150 : decode cX5_beside 150 = .ok (.getfield 10, 3) := by decide +kernel
theorem dX5_beside_153 : decode cX5_beside 153 = .ok (.getfield 47, 3) := by decide +kernel
theorem dX5_beside_156 : decode cX5_beside 156 = .ok (.iload_n 2, 1) := by decide +kernel
theorem dX5_beside_157 : decode cX5_beside 157 = .ok (.iload 5, 2) := by decide +kernel
theorem dX5_beside_159 : decode cX5_beside 159 = .ok (.invokevirtual 39, 3) := by decide +kernel
theorem dX5_beside_162 : decode cX5_beside 162 = .ok (.aload_n 0, 1) := by decide +kernel
theorem dX5_beside_163 : decode cX5_beside 163 = .ok (.getfield 10, 3) := by decide +kernel
theorem dX5_beside_166 : decode cX5_beside 166 = .ok (.dup, 1) := by decide +kernel
theorem dX5_beside_167 : decode cX5_beside 167 = .ok (.getfield 47, 3) := by decide +kernel
theorem dX5_beside_170 : decode cX5_beside 170 = .ok (.iconst 1, 1) := by decide +kernel
theorem dX5_beside_171 : decode cX5_beside 171 = .ok (.iadd, 1) := by decide +kernel
theorem dX5_beside_172 : decode cX5_beside 172 = .ok (.putfield 47, 3) := by decide +kernel
theorem dX5_beside_175 : decode cX5_beside 175 = .ok (.iload 4, 2) := by decide +kernel
theorem dX5_beside_177 : decode cX5_beside 177 = .ok (.iconst 1, 1) := by decide +kernel
theorem dX5_beside_178 : decode cX5_beside 178 = .ok (.iadd, 1) := by decide +kernel
theorem dX5_beside_179 : decode cX5_beside 179 = .ok (.ireturn, 1) := by decide +kernel
theorem dX5_delete_0 : decode cX5_delete 0 = .ok (.aload_n 0, 1) := by decide +kernel
theorem dX5_delete_1 : decode cX5_delete 1 = .ok (.getfield 10, 3) := by decide +kernel
theorem dX5_delete_4 : decode cX5_delete 4 = .ok (.getfield 47, 3) := by decide +kernel
theorem dX5_delete_7 : decode cX5_delete 7 = .ok (.ifCond .ne 6, 3) := by decide +kernel
theorem dX5_delete_10 : decode cX5_delete 10 = .ok (.bipush (-2), 2) := by decide +kernel
theorem dX5_delete_12 : decode cX5_delete 12 = .ok (.ireturn, 1) := by decide +kernel
theorem dX5_delete_13 : decode cX5_delete 13 = .ok (.aload_n 0, 1) := by decide +kernel
theorem dX5_delete_14 : decode cX5_delete 14 = .ok (.getfield 19, 3) := by decide +kernel
theorem dX5_delete_17 : decode cX5_delete 17 = .ok (.aload_n 0, 1) := by decide +kernel
theorem dX5_delete_18 : decode cX5_delete 18 = .ok (.getfield 10, 3) := by decide +kernel
theorem dX5_delete_21 : decode cX5_delete 21 = .ok (.invokevirtual 81, 3) := by decide +kernel
theorem dX5_delete_24 : decode cX5_delete 24 = .ok (.aload_n 0, 1) := by decide +kernel
theorem dX5_delete_25 : decode cX5_delete 25 = .ok (.getfield 10, 3) := by decide +kernel
theorem dX5_delete_28 : decode cX5_delete 28 = .ok (.invokevirtual 110, 3) := by decide +kernel
theorem dX5_delete_31 : decode cX5_delete 31 = .ok (.ireturn, 1) := by decide +kernel
theorem dX5_wrap_0 : decode cX5_wrap 0 = .ok (.iload_n 1, 1) := by decide +kernel
theorem dX5_wrap_1 : decode cX5_wrap 1 = .ok (.invokestatic 88, 3) := by decide +kernel
theorem dX5_wrap_4 : decode cX5_wrap 4 = .ok (.ifCond .ne 5, 3) := by decide +kernel
theorem dX5_wrap_7 : decode cX5_wrap 7 = .ok (.iconst (-1), 1) := by decide +kernel
theorem dX5_wrap_8 : decode cX5_wrap 8 = .ok (.ireturn, 1) := by decide +kernel
theorem dX5_wrap_9 : decode cX5_wrap 9 = .ok (.aload_n 0, 1) := by decide +kernel
theorem dX5_wrap_10 : decode cX5_wrap 10 = .ok (.getfield 10, 3) := by decide +kernel
theorem dX5_wrap_13 : decode cX5_wrap 13 = .ok (.getfield 43, 3) := by decide +kernel
theorem dX5_wrap_16 : decode cX5_wrap 16 = .ok (.aload_n 0, 1) := by decide +kernel
theorem dX5_wrap_17 : decode cX5_wrap 17 = .ok (.getfield 10, 3) := by decide +kernel
theorem dX5_wrap_20 : decode cX5_wrap 20 = .ok (.getfield 47, 3) := by decide +kernel
theorem dX5_wrap_23 : decode cX5_wrap 23 = .ok (.invokevirtual 74, 3) := by decide +kernel
theorem dX5_wrap_26 : decode cX5_wrap 26 = .ok (.istore_n 2, 1) := by decide +kernel
theorem dX5_wrap_27 : decode cX5_wrap 27 = .ok (.aload_n 0, 1) := by decide +kernel
theorem dX5_wrap_28 : decode cX5_wrap 28 = .ok (.getfield 10, 3) := by decide +kernel
theorem dX5_wrap_31 : decode cX5_wrap 31 = .ok (.getfield 43, 3) := by decide +kernel
theorem dX5_wrap_34 : decode cX5_wrap 34 = .ok (.invokevirtual 101, 3) := by decide +kernel
theorem dX5_wrap_37 : decode cX5_wrap 37 = .ok (.bipush 40, 2) := by decide +kernel
theorem dX5_wrap_39 : decode cX5_wrap 39 = .ok (.if_icmp .ge 27, 3) := by decide +kernel
theorem dX5_wrap_42 : decode cX5_wrap 42 = .ok (.iload_n 2, 1) := by decide +kernel
theorem dX5_wrap_43 : decode cX5_wrap 43 = .ok (.aload_n 0, 1) := by decide +kernel
theorem dX5_wrap_44 : decode cX5_wrap 44 = .ok (.getfield 10, 3) := by decide +kernel
theorem dX5_wrap_47 : decode cX5_wrap 47 = .ok (.getfield 43, 3) := by decide +kernel
theorem dX5_wrap_50 : decode cX5_wrap 50 = .ok (.aload_n 0, 1) := by decide +kernel
theorem dX5_wrap_51 : decode cX5_wrap 51 = .ok (.getfield 10, 3) := by decide +kernel
theorem dX5_wrap_54 : decode cX5_wrap 54 = .ok (.getfield 47, 3) := by decide +kernel
theorem dX5_wrap_57 : decode cX5_wrap 57 = .ok (.invokevirtual 113, 3) := by decide +kernel
theorem dX5_wrap_60 : decode cX5_wrap 60 = .ok (.iadd, 1) := by decide +kernel
theorem dX5_wrap_61 : decode cX5_wrap 61 = .ok (.bipush 7, 2) := by decide +kernel
theorem dX5_wrap_63 : decode cX5_wrap 63 = .ok (.if_icmp .lt 6, 3) := by decide +kernel
theorem dX5_wrap_66 : decode cX5_wrap 66 = .ok (.bipush (-3), 2) := by decide +kernel
theorem dX5_wrap_68 : decode cX5_wrap 68 = .ok (.ireturn, 1) := by decide +kernel
theorem dX5_wrap_69 : decode cX5_wrap 69 = .ok (.aload_n 0, 1) := by decide +kernel
theorem dX5_wrap_70 : decode cX5_wrap 70 = .ok (.getfield 19, 3) := by decide +kernel
theorem dX5_wrap_73 : decode cX5_wrap 73 = .ok (.aload_n 0, 1) := by decide +kernel
theorem dX5_wrap_74 : decode cX5_wrap 74 = .ok (.getfield 10, 3) := by decide +kernel
theorem dX5_wrap_77 : decode cX5_wrap 77 = .ok (.invokevirtual 81, 3) := by decide +kernel
theorem dX5_wrap_80 : decode cX5_wrap 80 = .ok (.aload_n 0, 1) := by decide +kernel
theorem dX5_wrap_81 : decode cX5_wrap 81 = .ok (.getfield 10, 3) := by decide +kernel
theorem dX5_wrap_84 : decode cX5_wrap 84 = .ok (.getfield 43, 3) := by decide +kernel
theorem dX5_wrap_87 : decode cX5_wrap 87 = .ok (.aload_n 0, 1) := by decide +kernel
theorem dX5_wrap_88 : decode cX5_wrap 88 = .ok (.getfield 10, 3) := by decide +kernel
theorem dX5_wrap_91 : decode cX5_wrap 91 = .ok (.getfield 47, 3) := by decide +kernel
theorem dX5_wrap_94 : decode cX5_wrap 94 = .ok (.aload_n 0, 1) := by decide +kernel
theorem dX5_wrap_95 : decode cX5_wrap 95 = .ok (.getfield 10, 3) := by decide +kernel
theorem dX5_wrap_98 : decode cX5_wrap 98 = .ok (.getfield 43, 3) := by decide +kernel
theorem dX5_wrap_101 : decode cX5_wrap 101 = .ok (.aload_n 0, 1) := by decide +kernel
theorem dX5_wrap_102 : decode cX5_wrap 102 = .ok (.getfield 10, 3) := by decide +kernel
theorem dX5_wrap_105 : decode cX5_wrap 105 = .ok (.getfield 47, 3) := by decide +kernel
theorem dX5_wrap_108 : decode cX5_wrap 108 = .ok (.invokevirtual 107, 3) := by decide +kernel
theorem dX5_wrap_111 : decode cX5_wrap 111 = .ok (.iconst 1, 1) := by decide +kernel
theorem dX5_wrap_112 : decode cX5_wrap 112 = .ok (.invokevirtual 116, 3) := by decide +kernel
theorem dX5_wrap_115 : decode cX5_wrap 115 = .ok (.aload_n 0, 1) := by decide +kernel
theorem dX5_wrap_116 : decode cX5_wrap 116 = .ok (.getfield 10, 3) := by decide +kernel
theorem dX5_wrap_119 : decode cX5_wrap 119 = .ok (.aload_n 0, 1) := by decide +kernel
theorem dX5_wrap_120 : decode cX5_wrap 120 = .ok (.getfield 10, 3) := by decide +kernel
theorem dX5_wrap_123 : decode cX5_wrap 123 = .ok (.getfield 47, 3) := by decide +kernel
theorem dX5_wrap_126 : decode cX5_wrap 126 = .ok (.iload_n 1, 1) := by decide +kernel
theorem dX5_wrap_127 : decode cX5_wrap 127 = .ok (.iload_n 2, 1) := by decide +kernel
theorem dX5_wrap_128 : decode cX5_wrap 128 = .ok (.invokevirtual 39, 3) := by decide +kernel
theorem dX5_wrap_131 : decode cX5_wrap 131 = .ok (.aload_n 0, 1) := by decide +kernel
theorem dX5_wrap_132 : decode cX5_wrap 132 = .ok (.getfield 10, 3) := by decide +kernel
theorem dX5_wrap_135 : decode cX5_wrap 135 = .ok (.getfield 43, 3) := by decide +kernel
theorem dX5_wrap_138 : decode cX5_wrap 138 = .ok (.invokevirtual 101, 3) := by decide +kernel
theorem dX5_wrap_141 : decode cX5_wrap 141 = .ok (.ireturn, 1) := by decide +kernel
theorem dX5_lift_0 : decode cX5_lift 0 = .ok (.aload_n 0, 1) := by decide +kernel
theorem dX5_lift_1 : decode cX5_lift 1 = .ok (.getfield 10, 3) := by decide +kernel
theorem dX5_lift_4 : decode cX5_lift 4 = .ok (.getfield 43, 3) := by decide +kernel
theorem dX5_lift_7 : decode cX5_lift 7 = .ok (.aload_n 0, 1) := by decide +kernel
theorem dX5_lift_8 : decode cX5_lift 8 = .ok (.getfield 10, 3) := by decide +kernel
theorem dX5_lift_11 : decode cX5_lift 11 = .ok (.getfield 47, 3) := by decide +kernel
theorem dX5_lift_14 : decode cX5_lift 14 = .ok (.invokevirtual 61, 3) := by decide +kernel
theorem dX5_lift_17 : decode cX5_lift 17 = .ok (.istore_n 1, 1) := by decide +kernel
theorem dX5_lift_18 : decode cX5_lift 18 = .ok (.aload_n 0, 1) := by decide +kernel
theorem dX5_lift_19 : decode cX5_lift 19 = .ok (.getfield 10, 3) := by decide +kernel
theorem dX5_lift_22 : decode cX5_lift 22 = .ok (.getfield 43, 3) := by decide +kernel
theorem dX5_lift_25 : decode cX5_lift 25 = .ok (.aload_n 0, 1) := by decide +kernel
theorem dX5_lift_26 : decode cX5_lift 26 = .ok (.getfield 10, 3) := by decide +kernel
theorem dX5_lift_29 : decode cX5_lift 29 = .ok (.getfield 47, 3) := by decide +kernel
theorem dX5_lift_32 : decode cX5_lift 32 = .ok (.invokevirtual 98, 3) := by decide +kernel
theorem dX5_lift_35 : decode cX5_lift 35 = .ok (.istore_n 2, 1) := by decide +kernel
theorem dX5_lift_36 : decode cX5_lift 36 = .ok (.iload_n 1, 1) := by decide +kernel
theorem dX5_lift_37 : decode cX5_lift 37 = .ok (.iconst (-1), 1) := by decide +kernel
theorem dX5_lift_38 : decode cX5_lift 38 = .ok (.if_icmp .ne 11, 3) := by decide +kernel
theorem dX5_lift_41 : decode cX5_lift 41 = .ok (.iload_n 2, 1) := by decide +kernel
theorem dX5_lift_42 : decode cX5_lift 42 = .ok (.iconst 1, 1) := by decide +kernel
theorem dX5_lift_43 : decode cX5_lift 43 = .ok (.if_icmp .eq 6, 3) := by decide +kernel
theorem dX5_lift_46 : decode cX5_lift 46 = .ok (.bipush (-2), 2) := by decide +kernel
theorem dX5_lift_48 : decode cX5_lift 48 = .ok (.ireturn, 1) := by decide +kernel
theorem dX5_lift_49 : decode cX5_lift 49 = .ok (.iload_n 1, 1) := by decide +kernel
theorem dX5_lift_50 : decode cX5_lift 50 = .ok (.iconst (-1), 1) := by decide +kernel
theorem dX5_lift_51 : decode cX5_lift 51 = .ok (.if_icmp .eq 26, 3) := by decide +kernel
theorem dX5_lift_54 : decode cX5_lift 54 = .ok (.aload_n 0, 1) := by decide +kernel
theorem dX5_lift_55 : decode cX5_lift 55 = .ok (.getfield 10, 3) := by decide +kernel
theorem dX5_lift_58 : decode cX5_lift 58 = .ok (.getfield 43, 3) := by decide +kernel
theorem dX5_lift_61 : decode cX5_lift 61 = .ok (.iload_n 1, 1) := by decide +kernel
theorem dX5_lift_62 : decode cX5_lift 62 = .ok (.invokevirtual 98, 3) := by decide +kernel
theorem dX5_lift_65 : decode cX5_lift 65 = .ok (.iconst 1, 1) := by decide +kernel
theorem dX5_lift_66 : decode cX5_lift 66 = .ok (.isub, 1) := by decide +kernel
theorem dX5_lift_67 : decode cX5_lift 67 = .ok (.iload_n 2, 1) := by decide +kernel
theorem dX5_lift_68 : decode cX5_lift 68 = .ok (.iadd, 1) := by decide +kernel
theorem dX5_lift_69 : decode cX5_lift 69 = .ok (.bipush 6, 2) := by decide +kernel
theorem dX5_lift_71 : decode cX5_lift 71 = .ok (.if_icmp .le 6, 3) := by decide +kernel
theorem dX5_lift_74 : decode cX5_lift 74 = .ok (.bipush (-3), 2) := by decide +kernel
theorem dX5_lift_76 : decode cX5_lift 76 = .ok (.ireturn, 1) := by decide +kernel
theorem dX5_lift_77 : decode cX5_lift 77 = .ok (.aload_n 0, 1) := by decide +kernel
theorem dX5_lift_78 : decode cX5_lift 78 = .ok (.getfield 19, 3) := by decide +kernel
theorem dX5_lift_81 : decode cX5_lift 81 = .ok (.aload_n 0, 1) := by decide +kernel
theorem dX5_lift_82 : decode cX5_lift 82 = .ok (.getfield 10, 3) := by decide +kernel
theorem dX5_lift_85 : decode cX5_lift 85 = .ok (.invokevirtual 81, 3) := by decide +kernel
theorem dX5_lift_88 : decode cX5_lift 88 = .ok (.iload_n 2, 1) := by decide +kernel
theorem dX5_lift_89 : decode cX5_lift 89 = .ok (.ifCond .ne 14, 3) := by decide +kernel
theorem dX5_lift_92 : decode cX5_lift 92 = .ok (.aload_n 0, 1) := by decide +kernel
theorem dX5_lift_93 : decode cX5_lift 93 = .ok (.getfield 10, 3) := by decide +kernel
theorem dX5_lift_96 : decode cX5_lift 96 = .ok (.invokevirtual 110, 3) := by decide +kernel
theorem dX5_lift_99 : decode cX5_lift 99 = .ok (.pop, 1) := by decide +kernel
theorem dX5_lift_100 : decode cX5_lift 100 = .ok (.goto 61, 3) := by decide +kernel
theorem dX5_lift_103 : decode cX5_lift 103 = .ok (.aload_n 0, 1) := by decide +kernel
theorem dX5_lift_104 : decode cX5_lift 104 = .ok (.getfield 10, 3) := by decide +kernel
theorem dX5_lift_107 : decode cX5_lift 107 = .ok (.getfield 43, 3) := by decide +kernel
theorem dX5_lift_110 : decode cX5_lift 110 = .ok (.aload_n 0, 1) := by decide +kernel
theorem dX5_lift_111 : decode cX5_lift 111 = .ok (.getfield 10, 3) := by decide +kernel
theorem dX5_lift_114 : decode cX5_lift 114 = .ok (.getfield 47, 3) := by decide +kernel
theorem dX5_lift_117 : decode cX5_lift 117 = .ok (.aload_n 0, 1) := by decide +kernel
theorem dX5_lift_118 : decode cX5_lift 118 = .ok (.getfield 10, 3) := by decide +kernel
theorem dX5_lift_121 : decode cX5_lift 121 = .ok (.getfield 43, 3) := by decide +kernel
theorem dX5_lift_124 : decode cX5_lift 124 = .ok (.aload_n 0, 1) := by decide +kernel
theorem dX5_lift_125 : decode cX5_lift 125 = .ok (.getfield 10, 3) := by decide +kernel
theorem dX5_lift_128 : decode cX5_lift 128 = .ok (.getfield 47, 3) := by decide +kernel
theorem dX5_lift_131 : decode cX5_lift 131 = .ok (.invokevirtual 107, 3) := by decide +kernel
theorem dX5_lift_134 : decode cX5_lift 134 = .ok (.iconst (-1), 1) := by decide +kernel
theorem dX5_lift_135 : decode cX5_lift 135 = .ok (.invokevirtual 116, 3) := by decide +kernel
theorem dX5_lift_138 : decode cX5_lift 138 = .ok (.aload_n 0, 1) := by decide +kernel
theorem dX5_lift_139 : decode cX5_lift 139 = .ok (.getfield 10, 3) := by decide +kernel
theorem dX5_lift_142 : decode cX5_lift 142 = .ok (.aload_n 0, 1) := by decide +kernel
theorem dX5_lift_143 : decode cX5_lift 143 = .ok (.getfield 10, 3) := by decide +kernel
theorem dX5_lift_146 : decode cX5_lift 146 = .ok (.getfield 47, 3) := by decide +kernel
theorem dX5_lift_149 : decode cX5_lift 149 = .ok (.aload_n 0, 1) := by decide +kernel
theorem dX5_lift_150 : decode cX5_lift 150 = .ok (.getfield 10, 3) := by decide +kernel
theorem dX5_lift_153 : decode cX5_lift 153 = .ok (.getfield 47, 3) := by decide +kernel
theorem dX5_lift_156 : decode cX5_lift 156 = .ok (.iconst 1, 1) := by decide +kernel
theorem dX5_lift_157 : decode cX5_lift 157 = .ok (.iadd, 1) := by decide +kernel
theorem dX5_lift_158 : decode cX5_lift 158 = .ok (.invokevirtual 119, 3) := by decide +kernel
theorem dX5_lift_161 : decode cX5_lift 161 = .ok (.iload_n 2, 1) := by decide +kernel
theorem dX5_lift_162 : decode cX5_lift 162 = .ok (.ireturn, 1) := by decide +kernel
theorem dX5_exchange_0 : decode cX5_exchange 0 = .ok (.iload_n 1, 1) := by decide +kernel
theorem dX5_exchange_1 : decode cX5_exchange 1 = .ok (.invokestatic 64, 3) := by decide +kernel
theorem dX5_exchange_4 : decode cX5_exchange 4 = .ok (.ifCond .ne 5, 3) := by decide +kernel
theorem dX5_exchange_7 : decode cX5_exchange 7 = .ok (.iconst (-1), 1) := by decide +kernel
theorem dX5_exchange_8 : decode cX5_exchange 8 = .ok (.ireturn, 1) := by decide +kernel
theorem dX5_exchange_9 : decode cX5_exchange 9 = .ok (.aload_n 0, 1) := by decide +kernel
theorem dX5_exchange_10 : decode cX5_exchange 10 = .ok (.getfield 10, 3) := by decide +kernel
theorem dX5_exchange_13 : decode cX5_exchange 13 = .ok (.getfield 43, 3) := by decide +kernel
theorem dX5_exchange_16 : decode cX5_exchange 16 = .ok (.aload_n 0, 1) := by decide +kernel
theorem dX5_exchange_17 : decode cX5_exchange 17 = .ok (.getfield 10, 3) := by decide +kernel
theorem dX5_exchange_20 : decode cX5_exchange 20 = .ok (.getfield 47, 3) := by decide +kernel
theorem dX5_exchange_23 : decode cX5_exchange 23 = .ok (.iload_n 1, 1) := by decide +kernel
theorem dX5_exchange_24 : decode cX5_exchange 24 = .ok (.invokevirtual 68, 3) := by decide +kernel
theorem dX5_exchange_27 : decode cX5_exchange 27 = .ok (.istore_n 2, 1) := by decide +kernel
theorem dX5_exchange_28 : decode cX5_exchange 28 = .ok (.iload_n 2, 1) := by decide +kernel
theorem dX5_exchange_29 : decode cX5_exchange 29 = .ok (.iconst (-1), 1) := by decide +kernel
theorem dX5_exchange_30 : decode cX5_exchange 30 = .ok (.if_icmp .ne 6, 3) := by decide +kernel
theorem dX5_exchange_33 : decode cX5_exchange 33 = .ok (.bipush (-2), 2) := by decide +kernel
theorem dX5_exchange_35 : decode cX5_exchange 35 = .ok (.ireturn, 1) := by decide +kernel
theorem dX5_exchange_36 : decode cX5_exchange 36 = .ok (.aload_n 0, 1) := by decide +kernel
theorem dX5_exchange_37 : decode cX5_exchange 37 = .ok (.getfield 19, 3) := by decide +kernel
theorem dX5_exchange_40 : decode cX5_exchange 40 = .ok (.aload_n 0, 1) := by decide +kernel
theorem dX5_exchange_41 : decode cX5_exchange 41 = .ok (.getfield 10, 3) := by decide +kernel
theorem dX5_exchange_44 : decode cX5_exchange 44 = .ok (.invokevirtual 81, 3) := by decide +kernel
theorem dX5_exchange_47 : decode cX5_exchange 47 = .ok (.aload_n 0, 1) := by decide +kernel
theorem dX5_exchange_48 : decode cX5_exchange 48 = .ok (.getfield 10, 3) := by decide +kernel
theorem dX5_exchange_51 : decode cX5_exchange 51 = .ok (.getfield 47, 3) := by decide +kernel
theorem dX5_exchange_54 : decode cX5_exchange 54 = .ok (.iload_n 2, 1) := by decide +kernel
theorem dX5_exchange_55 : decode cX5_exchange 55 = .ok (.invokestatic 122, 3) := by decide +kernel
theorem dX5_exchange_58 : decode cX5_exchange 58 = .ok (.istore_n 3, 1) := by decide +kernel
theorem dX5_exchange_59 : decode cX5_exchange 59 = .ok (.aload_n 0, 1) := by decide +kernel
theorem dX5_exchange_60 : decode cX5_exchange 60 = .ok (.getfield 10, 3) := by decide +kernel
theorem dX5_exchange_63 : decode cX5_exchange 63 = .ok (.getfield 43, 3) := by decide +kernel
theorem dX5_exchange_66 : decode cX5_exchange 66 = .ok (.iload_n 3, 1) := by decide +kernel
theorem dX5_exchange_67 : decode cX5_exchange 67 = .ok (.invokevirtual 107, 3) := by decide +kernel
theorem dX5_exchange_70 : decode cX5_exchange 70 = .ok (.istore 4, 2) := by decide +kernel
theorem dX5_exchange_72 : decode cX5_exchange 72 = .ok (.iload_n 1, 1) := by decide +kernel
theorem dX5_exchange_73 : decode cX5_exchange 73 = .ok (.iconst 1, 1) := by decide +kernel
theorem dX5_exchange_74 : decode cX5_exchange 74 = .ok (.if_icmp .ne 18, 3) := by decide +kernel
theorem dX5_exchange_77 : decode cX5_exchange 77 = .ok (.aload_n 0, 1) := by decide +kernel
theorem dX5_exchange_78 : decode cX5_exchange 78 = .ok (.getfield 10, 3) := by decide +kernel
theorem dX5_exchange_81 : decode cX5_exchange 81 = .ok (.getfield 47, 3) := by decide +kernel
theorem dX5_exchange_84 : decode cX5_exchange 84 = .ok (.iload 4, 2) := by decide +kernel
theorem dX5_exchange_86 : decode cX5_exchange 86 = .ok (.iadd, 1) := by decide +kernel
theorem dX5_exchange_87 : decode cX5_exchange 87 = .ok (.iload_n 3, 1) := by decide +kernel
theorem dX5_exchange_88 : decode cX5_exchange 88 = .ok (.isub, 1) := by decide +kernel
theorem dX5_exchange_89 : decode cX5_exchange 89 = .ok (.goto 4, 3) := by decide +kernel
theorem dX5_exchange_92 : decode cX5_exchange 92 = .ok (.iload_n 2, 1) := by decide +kernel
theorem dX5_exchange_93 : decode cX5_exchange 93 = .ok (.istore 5, 2) := by decide +kernel
theorem dX5_exchange_95 : decode cX5_exchange 95 = .ok (.aload_n 0, 1) := by decide +kernel
theorem dX5_exchange_96 : decode cX5_exchange 96 = .ok (.getfield 10, 3) := by decide +kernel
theorem dX5_exchange_99 : decode cX5_exchange 99 = .ok (.aload_n 0, 1) := by decide +kernel
theorem dX5_exchange_100 : decode cX5_exchange 100 = .ok (.getfield 10, 3) := by decide +kernel
theorem dX5_exchange_103 : decode cX5_exchange 103 = .ok (.getfield 47, 3) := by decide +kernel
theorem dX5_exchange_106 : decode cX5_exchange 106 = .ok (.iload_n 2, 1) := by decide +kernel
theorem dX5_exchange_107 : decode cX5_exchange 107 = .ok (.invokestatic 127, 3) := by decide +kernel
theorem dX5_exchange_110 : decode cX5_exchange 110 = .ok (.iload_n 3, 1) := by decide +kernel
theorem dX5_exchange_111 : decode cX5_exchange 111 = .ok (.iload 4, 2) := by decide +kernel
theorem dX5_exchange_113 : decode cX5_exchange 113 = .ok (.invokevirtual 130, 3) := by decide +kernel
theorem dX5_exchange_116 : decode cX5_exchange 116 = .ok (.aload_n 0, 1) := by decide +kernel
theorem dX5_exchange_117 : decode cX5_exchange 117 = .ok (.getfield 10, 3) := by decide +kernel
theorem dX5_exchange_120 : decode cX5_exchange 120 = .ok (.iload 5, 2) := by decide +kernel
theorem dX5_exchange_122 : decode cX5_exchange 122 = .ok (.putfield 47, 3) := by decide +kernel
theorem dX5_exchange_125 : decode cX5_exchange 125 = .ok (.aload_n 0, 1) := by decide +kernel
theorem dX5_exchange_126 : decode cX5_exchange 126 = .ok (.getfield 10, 3) := by decide +kernel
theorem dX5_exchange_129 : decode cX5_exchange 129 = .ok (.getfield 43, 3) := by decide +kernel
theorem dX5_exchange_132 : decode cX5_exchange 132 = .ok (.iload 5, 2) := by decide +kernel
theorem dX5_exchange_134 : decode cX5_exchange 134 = .ok (.invokevirtual 133, 3) := by decide +kernel
theorem dX5_exchange_137 : decode cX5_exchange 137 = .ok (.ireturn, 1) := by decide +kernel
theorem dX5_cut_0 : decode cX5_cut 0 = .ok (.aload_n 0, 1) := by decide +kernel
theorem dX5_cut_1 : decode cX5_cut 1 = .ok (.getfield 10, 3) := by decide +kernel
theorem dX5_cut_4 : decode cX5_cut 4 = .ok (.getfield 47, 3) := by decide +kernel
theorem dX5_cut_7 : decode cX5_cut 7 = .ok (.ifCond .ne 6, 3) := by decide +kernel
theorem dX5_cut_10 : decode cX5_cut 10 = .ok (.bipush (-2), 2) := by decide +kernel
theorem dX5_cut_12 : decode cX5_cut 12 = .ok (.ireturn, 1) := by decide +kernel
theorem dX5_cut_13 : decode cX5_cut 13 = .ok (.aload_n 0, 1) := by decide +kernel
theorem dX5_cut_14 : decode cX5_cut 14 = .ok (.getfield 19, 3) := by decide +kernel
theorem dX5_cut_17 : decode cX5_cut 17 = .ok (.aload_n 0, 1) := by decide +kernel
theorem dX5_cut_18 : decode cX5_cut 18 = .ok (.getfield 10, 3) := by decide +kernel
theorem dX5_cut_21 : decode cX5_cut 21 = .ok (.invokevirtual 81, 3) := by decide +kernel
theorem dX5_cut_24 : decode cX5_cut 24 = .ok (.aload_n 0, 1) := by decide +kernel
theorem dX5_cut_25 : decode cX5_cut 25 = .ok (.getfield 10, 3) := by decide +kernel
theorem dX5_cut_28 : decode cX5_cut 28 = .ok (.getfield 136, 3) := by decide +kernel
theorem dX5_cut_31 : decode cX5_cut 31 = .ok (.aload_n 0, 1) := by decide +kernel
theorem dX5_cut_32 : decode cX5_cut 32 = .ok (.getfield 10, 3) := by decide +kernel
theorem dX5_cut_35 : decode cX5_cut 35 = .ok (.getfield 43, 3) := by decide +kernel
theorem dX5_cut_38 : decode cX5_cut 38 = .ok (.aload_n 0, 1) := by decide +kernel
theorem dX5_cut_39 : decode cX5_cut 39 = .ok (.getfield 10, 3) := by decide +kernel
theorem dX5_cut_42 : decode cX5_cut 42 = .ok (.getfield 47, 3) := by decide +kernel
theorem dX5_cut_45 : decode cX5_cut 45 = .ok (.invokevirtual 139, 3) := by decide +kernel
theorem dX5_cut_48 : decode cX5_cut 48 = .ok (.aload_n 0, 1) := by decide +kernel
theorem dX5_cut_49 : decode cX5_cut 49 = .ok (.getfield 10, 3) := by decide +kernel
theorem dX5_cut_52 : decode cX5_cut 52 = .ok (.invokevirtual 110, 3) := by decide +kernel
theorem dX5_cut_55 : decode cX5_cut 55 = .ok (.ireturn, 1) := by decide +kernel
theorem dX5_copy_0 : decode cX5_copy 0 = .ok (.aload_n 0, 1) := by decide +kernel
theorem dX5_copy_1 : decode cX5_copy 1 = .ok (.getfield 19, 3) := by decide +kernel
theorem dX5_copy_4 : decode cX5_copy 4 = .ok (.aload_n 0, 1) := by decide +kernel
theorem dX5_copy_5 : decode cX5_copy 5 = .ok (.getfield 10, 3) := by decide +kernel
theorem dX5_copy_8 : decode cX5_copy 8 = .ok (.invokevirtual 81, 3) := by decide +kernel
theorem dX5_copy_11 : decode cX5_copy 11 = .ok (.aload_n 0, 1) := by decide +kernel
theorem dX5_copy_12 : decode cX5_copy 12 = .ok (.getfield 10, 3) := by decide +kernel
theorem dX5_copy_15 : decode cX5_copy 15 = .ok (.getfield 136, 3) := by decide +kernel
theorem dX5_copy_18 : decode cX5_copy 18 = .ok (.aload_n 0, 1) := by decide +kernel
theorem dX5_copy_19 : decode cX5_copy 19 = .ok (.getfield 10, 3) := by decide +kernel
theorem dX5_copy_22 : decode cX5_copy 22 = .ok (.getfield 43, 3) := by decide +kernel
theorem dX5_copy_25 : decode cX5_copy 25 = .ok (.aload_n 0, 1) := by decide +kernel
theorem dX5_copy_26 : decode cX5_copy 26 = .ok (.getfield 10, 3) := by decide +kernel
theorem dX5_copy_29 : decode cX5_copy 29 = .ok (.getfield 47, 3) := by decide +kernel
theorem dX5_copy_32 : decode cX5_copy 32 = .ok (.invokevirtual 139, 3) := by decide +kernel
theorem dX5_copy_35 : decode cX5_copy 35 = .ok (.aload_n 0, 1) := by decide +kernel
theorem dX5_copy_36 : decode cX5_copy 36 = .ok (.getfield 10, 3) := by decide +kernel
theorem dX5_copy_39 : decode cX5_copy 39 = .ok (.getfield 136, 3) := by decide +kernel
theorem dX5_copy_42 : decode cX5_copy 42 = .ok (.invokevirtual 101, 3) := by decide +kernel
theorem dX5_copy_45 : decode cX5_copy 45 = .ok (.ireturn, 1) := by decide +kernel
theorem dX5_paste_0 : decode cX5_paste 0 = .ok (.aload_n 0, 1) := by decide +kernel
theorem dX5_paste_1 : decode cX5_paste 1 = .ok (.getfield 10, 3) := by decide +kernel
theorem dX5_paste_4 : decode cX5_paste 4 = .ok (.getfield 43, 3) := by decide +kernel
theorem dX5_paste_7 : decode cX5_paste 7 = .ok (.aload_n 0, 1) := by decide +kernel
theorem dX5_paste_8 : decode cX5_paste 8 = .ok (.getfield 10, 3) := by decide +kernel
theorem dX5_paste_11 : decode cX5_paste 11 = .ok (.getfield 47, 3) := by decide +kernel
theorem dX5_paste_14 : decode cX5_paste 14 = .ok (.invokevirtual 98, 3) := by decide +kernel
theorem dX5_paste_17 : decode cX5_paste 17 = .ok (.istore_n 2, 1) := by decide +kernel
theorem dX5_paste_18 : decode cX5_paste 18 = .ok (.iload_n 1, 1) := by decide +kernel
theorem dX5_paste_19 : decode cX5_paste 19 = .ok (.ifCond .lt 8, 3) := by decide +kernel
theorem dX5_paste_22 : decode cX5_paste 22 = .ok (.iload_n 1, 1) := by decide +kernel
theorem dX5_paste_23 : decode cX5_paste 23 = .ok (.iload_n 2, 1) := by decide +kernel
theorem dX5_paste_24 : decode cX5_paste 24 = .ok (.if_icmp .le 5, 3) := by decide +kernel
theorem dX5_paste_27 : decode cX5_paste 27 = .ok (.iconst (-1), 1) := by decide +kernel
theorem dX5_paste_28 : decode cX5_paste 28 = .ok (.ireturn, 1) := by decide +kernel
theorem dX5_paste_29 : decode cX5_paste 29 = .ok (.aload_n 0, 1) := by decide +kernel
theorem dX5_paste_30 : decode cX5_paste 30 = .ok (.getfield 10, 3) := by decide +kernel
theorem dX5_paste_33 : decode cX5_paste 33 = .ok (.getfield 136, 3) := by decide +kernel
theorem dX5_paste_36 : decode cX5_paste 36 = .ok (.invokevirtual 101, 3) := by decide +kernel
theorem dX5_paste_39 : decode cX5_paste 39 = .ok (.ifCond .ne 6, 3) := by decide +kernel
theorem dX5_paste_42 : decode cX5_paste 42 = .ok (.bipush (-2), 2) := by decide +kernel
theorem dX5_paste_44 : decode cX5_paste 44 = .ok (.ireturn, 1) := by decide +kernel
theorem dX5_paste_45 : decode cX5_paste 45 = .ok (.aload_n 0, 1) := by decide +kernel
theorem dX5_paste_46 : decode cX5_paste 46 = .ok (.getfield 10, 3) := by decide +kernel
theorem dX5_paste_49 : decode cX5_paste 49 = .ok (.getfield 43, 3) := by decide +kernel
theorem dX5_paste_52 : decode cX5_paste 52 = .ok (.aload_n 0, 1) := by decide +kernel
theorem dX5_paste_53 : decode cX5_paste 53 = .ok (.getfield 10, 3) := by decide +kernel
theorem dX5_paste_56 : decode cX5_paste 56 = .ok (.getfield 47, 3) := by decide +kernel
theorem dX5_paste_59 : decode cX5_paste 59 = .ok (.invokevirtual 74, 3) := by decide +kernel
theorem dX5_paste_62 : decode cX5_paste 62 = .ok (.iconst 1, 1) := by decide +kernel
theorem dX5_paste_63 : decode cX5_paste 63 = .ok (.iadd, 1) := by decide +kernel
theorem dX5_paste_64 : decode cX5_paste 64 = .ok (.istore_n 3, 1) := by decide +kernel
theorem dX5_paste_65 : decode cX5_paste 65 = .ok (.aload_n 0, 1) := by decide +kernel
theorem dX5_paste_66 : decode cX5_paste 66 = .ok (.getfield 10, 3) := by decide +kernel
theorem dX5_paste_69 : decode cX5_paste 69 = .ok (.getfield 43, 3) := by decide +kernel
theorem dX5_paste_72 : decode cX5_paste 72 = .ok (.invokevirtual 101, 3) := by decide +kernel
theorem dX5_paste_75 : decode cX5_paste 75 = .ok (.aload_n 0, 1) := by decide +kernel
theorem dX5_paste_76 : decode cX5_paste 76 = .ok (.getfield 10, 3) := by decide +kernel
theorem dX5_paste_79 : decode cX5_paste 79 = .ok (.getfield 136, 3) := by decide +kernel
theorem dX5_paste_82 : decode cX5_paste 82 = .ok (.invokevirtual 101, 3) := by decide +kernel
theorem dX5_paste_85 : decode cX5_paste 85 = .ok (.iadd, 1) := by decide +kernel
theorem dX5_paste_86 : decode cX5_paste 86 = .ok (.bipush 40, 2) := by decide +kernel
theorem dX5_paste_88 : decode cX5_paste 88 = .ok (.if_icmp .gt 27, 3) := by decide +kernel
theorem dX5_paste_91 : decode cX5_paste 91 = .ok (.iload_n 2, 1) := by decide +kernel
theorem dX5_paste_92 : decode cX5_paste 92 = .ok (.bipush 6, 2) := by decide +kernel
theorem dX5_paste_94 : decode cX5_paste 94 = .ok (.if_icmp .ge 21, 3) := by decide +kernel
theorem dX5_paste_97 : decode cX5_paste 97 = .ok (.iload_n 3, 1) := by decide +kernel
theorem dX5_paste_98 : decode cX5_paste 98 = .ok (.aload_n 0, 1) := by decide +kernel
theorem dX5_paste_99 : decode cX5_paste 99 = .ok (.getfield 10, 3) := by decide +kernel
theorem dX5_paste_102 : decode cX5_paste 102 = .ok (.getfield 136, 3) := by decide +kernel
theorem dX5_paste_105 : decode cX5_paste 105 = .ok (.iconst 0, 1) := by decide +kernel
theorem dX5_paste_106 : decode cX5_paste 106 = .ok (.invokevirtual 113, 3) := by decide +kernel
theorem dX5_paste_109 : decode cX5_paste 109 = .ok (.iadd, 1) := by decide +kernel
theorem dX5_paste_110 : decode cX5_paste 110 = .ok (.bipush 7, 2) := by decide +kernel
theorem dX5_paste_112 : decode cX5_paste 112 = .ok (.if_icmp .le 6, 3) := by decide +kernel
theorem dX5_paste_115 : decode cX5_paste 115 = .ok (.bipush (-3), 2) := by decide +kernel
theorem dX5_paste_117 : decode cX5_paste 117 = .ok (.ireturn, 1) := by decide +kernel
theorem dX5_paste_118 : decode cX5_paste 118 = .ok (.aload_n 0, 1) := by decide +kernel
theorem dX5_paste_119 : decode cX5_paste 119 = .ok (.getfield 19, 3) := by decide +kernel
theorem dX5_paste_122 : decode cX5_paste 122 = .ok (.aload_n 0, 1) := by decide +kernel
theorem dX5_paste_123 : decode cX5_paste 123 = .ok (.getfield 10, 3) := by decide +kernel
theorem dX5_paste_126 : decode cX5_paste 126 = .ok (.invokevirtual 81, 3) := by decide +kernel
theorem dX5_paste_129 : decode cX5_paste 129 = .ok (.aload_n 0, 1) := by decide +kernel
theorem dX5_paste_130 : decode cX5_paste 130 = .ok (.getfield 10, 3) := by decide +kernel
theorem dX5_paste_133 : decode cX5_paste 133 = .ok (.aload_n 0, 1) := by decide +kernel
theorem dX5_paste_134 : decode cX5_paste 134 = .ok (.getfield 10, 3) := by decide +kernel
theorem dX5_paste_137 : decode cX5_paste 137 = .ok (.getfield 136, 3) := by decide +kernel
theorem dX5_paste_140 : decode cX5_paste 140 = .ok (.aload_n 0, 1) := by decide +kernel
theorem dX5_paste_141 : decode cX5_paste 141 = .ok (.getfield 10, 3) := by decide +kernel
theorem dX5_paste_144 : decode cX5_paste 144 = .ok (.getfield 43, 3) := by decide +kernel
theorem dX5_paste_147 : decode cX5_paste 147 = .ok (.aload_n 0, 1) := by decide +kernel
theorem dX5_paste_148 : decode cX5_paste 148 = .ok (.getfield 10, 3) := by decide +kernel
theorem dX5_paste_151 : decode cX5_paste 151 = .ok (.getfield 47, 3) := by decide +kernel
theorem dX5_paste_154 : decode cX5_paste 154 = .ok (.iload_n 1, 1) := by decide +kernel
theorem dX5_paste_155 : decode cX5_paste 155 = .ok (.invokevirtual 104, 3) := by decide +kernel
theorem dX5_paste_158 : decode cX5_paste 158 = .ok (.iload_n 3, 1) := by decide +kernel
theorem dX5_paste_159 : decode cX5_paste 159 = .ok (.invokevirtual 143, 3) := by decide +kernel
theorem dX5_paste_162 : decode cX5_paste 162 = .ok (.aload_n 0, 1) := by decide +kernel
theorem dX5_paste_163 : decode cX5_paste 163 = .ok (.getfield 10, 3) := by decide +kernel
theorem dX5_paste_166 : decode cX5_paste 166 = .ok (.getfield 43, 3) := by decide +kernel
theorem dX5_paste_169 : decode cX5_paste 169 = .ok (.invokevirtual 101, 3) := by decide +kernel
theorem dX5_paste_172 : decode cX5_paste 172 = .ok (.ireturn, 1) := by decide +kernel
theorem dX5_mark_0 : decode cX5_mark 0 = .ok (.iload_n 1, 1) := by decide +kernel
theorem dX5_mark_1 : decode cX5_mark 1 = .ok (.invokestatic 147, 3) := by decide +kernel
theorem dX5_mark_4 : decode cX5_mark 4 = .ok (.ifCond .ne 5, 3) := by decide +kernel
theorem dX5_mark_7 : decode cX5_mark 7 = .ok (.iconst (-1), 1) := by decide +kernel
theorem dX5_mark_8 : decode cX5_mark 8 = .ok (.ireturn, 1) := by decide +kernel
theorem dX5_mark_9 : decode cX5_mark 9 = .ok (.aload_n 0, 1) := by decide +kernel
theorem dX5_mark_10 : decode cX5_mark 10 = .ok (.getfield 19, 3) := by decide +kernel
theorem dX5_mark_13 : decode cX5_mark 13 = .ok (.aload_n 0, 1) := by decide +kernel
theorem dX5_mark_14 : decode cX5_mark 14 = .ok (.getfield 10, 3) := by decide +kernel
theorem dX5_mark_17 : decode cX5_mark 17 = .ok (.invokevirtual 81, 3) := by decide +kernel
theorem dX5_mark_20 : decode cX5_mark 20 = .ok (.aload_n 0, 1) := by decide +kernel
theorem dX5_mark_21 : decode cX5_mark 21 = .ok (.getfield 10, 3) := by decide +kernel
theorem dX5_mark_24 : decode cX5_mark 24 = .ok (.iload_n 1, 1) := by decide +kernel
theorem dX5_mark_25 : decode cX5_mark 25 = .ok (.invokevirtual 150, 3) := by decide +kernel
theorem dX5_mark_28 : decode cX5_mark 28 = .ok (.istore_n 2, 1) := by decide +kernel
theorem dX5_mark_29 : decode cX5_mark 29 = .ok (.aload_n 0, 1) := by decide +kernel
theorem dX5_mark_30 : decode cX5_mark 30 = .ok (.getfield 10, 3) := by decide +kernel
theorem dX5_mark_33 : decode cX5_mark 33 = .ok (.iload_n 1, 1) := by decide +kernel
theorem dX5_mark_34 : decode cX5_mark 34 = .ok (.invokevirtual 153, 3) := by decide +kernel
theorem dX5_mark_37 : decode cX5_mark 37 = .ok (.iload_n 2, 1) := by decide +kernel
theorem dX5_mark_38 : decode cX5_mark 38 = .ok (.iconst (-1), 1) := by decide +kernel
theorem dX5_mark_39 : decode cX5_mark 39 = .ok (.if_icmp .ne 8, 3) := by decide +kernel
theorem dX5_mark_42 : decode cX5_mark 42 = .ok (.bipush 100, 2) := by decide +kernel
theorem dX5_mark_44 : decode cX5_mark 44 = .ok (.goto 4, 3) := by decide +kernel
theorem dX5_mark_47 : decode cX5_mark 47 = .ok (.iload_n 2, 1) := by decide +kernel
theorem dX5_mark_48 : decode cX5_mark 48 = .ok (.ireturn, 1) := by decide +kernel
theorem dX5_goTo_0 : decode cX5_goTo 0 = .ok (.iload_n 1, 1) := by decide +kernel
theorem dX5_goTo_1 : decode cX5_goTo 1 = .ok (.invokestatic 147, 3) := by decide +kernel
theorem dX5_goTo_4 : decode cX5_goTo 4 = .ok (.ifCond .ne 5, 3) := by decide +kernel
theorem dX5_goTo_7 : decode cX5_goTo 7 = .ok (.iconst (-1), 1) := by decide +kernel
theorem dX5_goTo_8 : decode cX5_goTo 8 = .ok (.ireturn, 1) := by decide +kernel
theorem dX5_goTo_9 : decode cX5_goTo 9 = .ok (.aload_n 0, 1) := by decide +kernel
theorem dX5_goTo_10 : decode cX5_goTo 10 = .ok (.aload_n 0, 1) := by decide +kernel
theorem dX5_goTo_11 : decode cX5_goTo 11 = .ok (.getfield 10, 3) := by decide +kernel
theorem dX5_goTo_14 : decode cX5_goTo 14 = .ok (.iload_n 1, 1) := by decide +kernel
theorem dX5_goTo_15 : decode cX5_goTo 15 = .ok (.invokevirtual 150, 3) := by decide +kernel
theorem dX5_goTo_18 : decode cX5_goTo 18 = .ok (.invokevirtual 57, 3) := by decide +kernel
theorem dX5_goTo_21 : decode cX5_goTo 21 = .ok (.ireturn, 1) := by decide +kernel
theorem dX5_nodeOf_0 : decode cX5_nodeOf 0 = .ok (.aload_n 0, 1) := by decide +kernel
theorem dX5_nodeOf_1 : decode cX5_nodeOf 1 = .ok (.getfield 10, 3) := by decide +kernel
theorem dX5_nodeOf_4 : decode cX5_nodeOf 4 = .ok (.getfield 43, 3) := by decide +kernel
theorem dX5_nodeOf_7 : decode cX5_nodeOf 7 = .ok (.iload_n 1, 1) := by decide +kernel
theorem dX5_nodeOf_8 : decode cX5_nodeOf 8 = .ok (.invokevirtual 71, 3) := by decide +kernel
theorem dX5_nodeOf_11 : decode cX5_nodeOf 11 = .ok (.ifCond .ne 5, 3) := by decide +kernel
theorem dX5_nodeOf_14 : decode cX5_nodeOf 14 = .ok (.iconst (-1), 1) := by decide +kernel
theorem dX5_nodeOf_15 : decode cX5_nodeOf 15 = .ok (.ireturn, 1) := by decide +kernel
theorem dX5_nodeOf_16 : decode cX5_nodeOf 16 = .ok (.iload_n 2, 1) := by decide +kernel
theorem dX5_nodeOf_17 : decode cX5_nodeOf 17 = .ok (.tableswitch 148 0 7 #[47, 59, 71, 86, 98, 112, 127, 139], 47) := by decide +kernel
theorem dX5_nodeOf_64 : decode cX5_nodeOf 64 = .ok (.aload_n 0, 1) := by decide +kernel
theorem dX5_nodeOf_65 : decode cX5_nodeOf 65 = .ok (.getfield 10, 3) := by decide +kernel
theorem dX5_nodeOf_68 : decode cX5_nodeOf 68 = .ok (.getfield 43, 3) := by decide +kernel
theorem dX5_nodeOf_71 : decode cX5_nodeOf 71 = .ok (.iload_n 1, 1) := by decide +kernel
theorem dX5_nodeOf_72 : decode cX5_nodeOf 72 = .ok (.invokevirtual 91, 3) := by decide +kernel
theorem dX5_nodeOf_75 : decode cX5_nodeOf 75 = .ok (.ireturn, 1) := by decide +kernel
theorem dX5_nodeOf_76 : decode cX5_nodeOf 76 = .ok (.aload_n 0, 1) := by decide +kernel
theorem dX5_nodeOf_77 : decode cX5_nodeOf 77 = .ok (.getfield 10, 3) := by decide +kernel
theorem dX5_nodeOf_80 : decode cX5_nodeOf 80 = .ok (.getfield 43, 3) := by decide +kernel
theorem dX5_nodeOf_83 : decode cX5_nodeOf 83 = .ok (.iload_n 1, 1) := by decide +kernel
theorem dX5_nodeOf_84 : decode cX5_nodeOf 84 = .ok (.invokevirtual 98, 3) := by decide +kernel
theorem dX5_nodeOf_87 : decode cX5_nodeOf 87 = .ok (.ireturn, 1) := by decide +kernel
theorem dX5_nodeOf_88 : decode cX5_nodeOf 88 = .ok (.aload_n 0, 1) := by decide +kernel
theorem dX5_nodeOf_89 : decode cX5_nodeOf 89 = .ok (.getfield 10, 3) := by decide +kernel
theorem dX5_nodeOf_92 : decode cX5_nodeOf 92 = .ok (.getfield 43, 3) := by decide +kernel
theorem dX5_nodeOf_95 : decode cX5_nodeOf 95 = .ok (.iload_n 1, 1) := by decide +kernel
theorem dX5_nodeOf_96 : decode cX5_nodeOf 96 = .ok (.invokevirtual 61, 3) := by decide +kernel
theorem dX5_nodeOf_99 : decode cX5_nodeOf 99 = .ok (.invokestatic 156, 3) := by decide +kernel
theorem dX5_nodeOf_102 : decode cX5_nodeOf 102 = .ok (.ireturn, 1) := by decide +kernel
theorem dX5_nodeOf_103 : decode cX5_nodeOf 103 = .ok (.aload_n 0, 1) := by decide +kernel
theorem dX5_nodeOf_104 : decode cX5_nodeOf 104 = .ok (.getfield 10, 3) := by decide +kernel
theorem dX5_nodeOf_107 : decode cX5_nodeOf 107 = .ok (.getfield 43, 3) := by decide +kernel
theorem dX5_nodeOf_110 : decode cX5_nodeOf 110 = .ok (.iload_n 1, 1) := by decide +kernel
theorem dX5_nodeOf_111 : decode cX5_nodeOf 111 = .ok (.invokevirtual 74, 3) := by decide +kernel
theorem dX5_nodeOf_114 : decode cX5_nodeOf 114 = .ok (.ireturn, 1) := by decide +kernel
theorem dX5_nodeOf_115 : decode cX5_nodeOf 115 = .ok (.aload_n 0, 1) := by decide +kernel
theorem dX5_nodeOf_116 : decode cX5_nodeOf 116 = .ok (.getfield 10, 3) := by decide +kernel
theorem dX5_nodeOf_119 : decode cX5_nodeOf 119 = .ok (.getfield 43, 3) := by decide +kernel
theorem dX5_nodeOf_122 : decode cX5_nodeOf 122 = .ok (.iload_n 1, 1) := by decide +kernel
theorem dX5_nodeOf_123 : decode cX5_nodeOf 123 = .ok (.invokevirtual 107, 3) := by decide +kernel
theorem dX5_nodeOf_126 : decode cX5_nodeOf 126 = .ok (.iload_n 1, 1) := by decide +kernel
theorem dX5_nodeOf_127 : decode cX5_nodeOf 127 = .ok (.isub, 1) := by decide +kernel
theorem dX5_nodeOf_128 : decode cX5_nodeOf 128 = .ok (.ireturn, 1) := by decide +kernel
theorem dX5_nodeOf_129 : decode cX5_nodeOf 129 = .ok (.aload_n 0, 1) := by decide +kernel
theorem dX5_nodeOf_130 : decode cX5_nodeOf 130 = .ok (.getfield 10, 3) := by decide +kernel
theorem dX5_nodeOf_133 : decode cX5_nodeOf 133 = .ok (.getfield 43, 3) := by decide +kernel
theorem dX5_nodeOf_136 : decode cX5_nodeOf 136 = .ok (.iload_n 1, 1) := by decide +kernel
theorem dX5_nodeOf_137 : decode cX5_nodeOf 137 = .ok (.invokevirtual 133, 3) := by decide +kernel
theorem dX5_nodeOf_140 : decode cX5_nodeOf 140 = .ok (.invokestatic 156, 3) := by decide +kernel
theorem dX5_nodeOf_143 : decode cX5_nodeOf 143 = .ok (.ireturn, 1) := by decide +kernel
theorem dX5_nodeOf_144 : decode cX5_nodeOf 144 = .ok (.aload_n 0, 1) := by decide +kernel
theorem dX5_nodeOf_145 : decode cX5_nodeOf 145 = .ok (.getfield 10, 3) := by decide +kernel
theorem dX5_nodeOf_148 : decode cX5_nodeOf 148 = .ok (.getfield 43, 3) := by decide +kernel
theorem dX5_nodeOf_151 : decode cX5_nodeOf 151 = .ok (.iload_n 1, 1) := by decide +kernel
theorem dX5_nodeOf_152 : decode cX5_nodeOf 152 = .ok (.invokevirtual 113, 3) := by decide +kernel
theorem dX5_nodeOf_155 : decode cX5_nodeOf 155 = .ok (.ireturn, 1) := by decide +kernel
theorem dX5_nodeOf_156 : decode cX5_nodeOf 156 = .ok (.aload_n 0, 1) := by decide +kernel
theorem dX5_nodeOf_157 : decode cX5_nodeOf 157 = .ok (.getfield 10, 3) := by decide +kernel
theorem dX5_nodeOf_160 : decode cX5_nodeOf 160 = .ok (.iload_n 1, 1) := by decide +kernel
theorem dX5_nodeOf_161 : decode cX5_nodeOf 161 = .ok (.invokevirtual 159, 3) := by decide +kernel
theorem dX5_nodeOf_164 : decode cX5_nodeOf 164 = .ok (.ireturn, 1) := by decide +kernel
theorem dX5_nodeOf_165 : decode cX5_nodeOf 165 = .ok (.iconst (-1), 1) := by decide +kernel
theorem dX5_nodeOf_166 : decode cX5_nodeOf 166 = .ok (.ireturn, 1) := by decide +kernel
theorem dX5_spine_0 : decode cX5_spine 0 = .ok (.iload_n 1, 1) := by decide +kernel
theorem dX5_spine_1 : decode cX5_spine 1 = .ok (.ifCond .lt 12, 3) := by decide +kernel
theorem dX5_spine_4 : decode cX5_spine 4 = .ok (.iload_n 2, 1) := by decide +kernel
theorem dX5_spine_5 : decode cX5_spine 5 = .ok (.ifCond .lt 8, 3) := by decide +kernel
theorem dX5_spine_8 : decode cX5_spine 8 = .ok (.iload_n 2, 1) := by decide +kernel
theorem dX5_spine_9 : decode cX5_spine 9 = .ok (.iconst 2, 1) := by decide +kernel
theorem dX5_spine_10 : decode cX5_spine 10 = .ok (.if_icmp .le 5, 3) := by decide +kernel
theorem dX5_spine_13 : decode cX5_spine 13 = .ok (.iconst (-1), 1) := by decide +kernel
theorem dX5_spine_14 : decode cX5_spine 14 = .ok (.ireturn, 1) := by decide +kernel
theorem dX5_spine_15 : decode cX5_spine 15 = .ok (.aload_n 0, 1) := by decide +kernel
theorem dX5_spine_16 : decode cX5_spine 16 = .ok (.getfield 10, 3) := by decide +kernel
theorem dX5_spine_19 : decode cX5_spine 19 = .ok (.getfield 43, 3) := by decide +kernel
theorem dX5_spine_22 : decode cX5_spine 22 = .ok (.aload_n 0, 1) := by decide +kernel
theorem dX5_spine_23 : decode cX5_spine 23 = .ok (.getfield 10, 3) := by decide +kernel
theorem dX5_spine_26 : decode cX5_spine 26 = .ok (.getfield 47, 3) := by decide +kernel
theorem dX5_spine_29 : decode cX5_spine 29 = .ok (.iload_n 1, 1) := by decide +kernel
theorem dX5_spine_30 : decode cX5_spine 30 = .ok (.invokevirtual 162, 3) := by decide +kernel
theorem dX5_spine_33 : decode cX5_spine 33 = .ok (.istore_n 3, 1) := by decide +kernel
theorem dX5_spine_34 : decode cX5_spine 34 = .ok (.iload_n 3, 1) := by decide +kernel
theorem dX5_spine_35 : decode cX5_spine 35 = .ok (.iconst (-1), 1) := by decide +kernel
theorem dX5_spine_36 : decode cX5_spine 36 = .ok (.if_icmp .ne 6, 3) := by decide +kernel
theorem dX5_spine_39 : decode cX5_spine 39 = .ok (.bipush (-4), 2) := by decide +kernel
theorem dX5_spine_41 : decode cX5_spine 41 = .ok (.ireturn, 1) := by decide +kernel
theorem dX5_spine_42 : decode cX5_spine 42 = .ok (.iload_n 2, 1) := by decide +kernel
theorem dX5_spine_43 : decode cX5_spine 43 = .ok (.ifCond .ne 5, 3) := by decide +kernel
theorem dX5_spine_46 : decode cX5_spine 46 = .ok (.iload_n 3, 1) := by decide +kernel
theorem dX5_spine_47 : decode cX5_spine 47 = .ok (.ireturn, 1) := by decide +kernel
theorem dX5_spine_48 : decode cX5_spine 48 = .ok (.iload_n 2, 1) := by decide +kernel
theorem dX5_spine_49 : decode cX5_spine 49 = .ok (.iconst 1, 1) := by decide +kernel
theorem dX5_spine_50 : decode cX5_spine 50 = .ok (.if_icmp .ne 15, 3) := by decide +kernel
theorem dX5_spine_53 : decode cX5_spine 53 = .ok (.aload_n 0, 1) := by decide +kernel
theorem dX5_spine_54 : decode cX5_spine 54 = .ok (.getfield 10, 3) := by decide +kernel
theorem dX5_spine_57 : decode cX5_spine 57 = .ok (.getfield 43, 3) := by decide +kernel
theorem dX5_spine_60 : decode cX5_spine 60 = .ok (.iload_n 3, 1) := by decide +kernel
theorem dX5_spine_61 : decode cX5_spine 61 = .ok (.invokevirtual 91, 3) := by decide +kernel
theorem dX5_spine_64 : decode cX5_spine 64 = .ok (.ireturn, 1) := by decide +kernel
theorem dX5_spine_65 : decode cX5_spine 65 = .ok (.iload_n 3, 1) := by decide +kernel
theorem dX5_spine_66 : decode cX5_spine 66 = .ok (.ifCond .ne 7, 3) := by decide +kernel
theorem dX5_spine_69 : decode cX5_spine 69 = .ok (.iconst 0, 1) := by decide +kernel
theorem dX5_spine_70 : decode cX5_spine 70 = .ok (.goto 14, 3) := by decide +kernel
theorem dX5_spine_73 : decode cX5_spine 73 = .ok (.aload_n 0, 1) := by decide +kernel
theorem dX5_spine_74 : decode cX5_spine 74 = .ok (.getfield 10, 3) := by decide +kernel
theorem dX5_spine_77 : decode cX5_spine 77 = .ok (.getfield 43, 3) := by decide +kernel
theorem dX5_spine_80 : decode cX5_spine 80 = .ok (.iload_n 3, 1) := by decide +kernel
theorem dX5_spine_81 : decode cX5_spine 81 = .ok (.invokevirtual 133, 3) := by decide +kernel
theorem dX5_spine_84 : decode cX5_spine 84 = .ok (.ireturn, 1) := by decide +kernel
theorem dX5_marked_0 : decode cX5_marked 0 = .ok (.iload_n 1, 1) := by decide +kernel
theorem dX5_marked_1 : decode cX5_marked 1 = .ok (.invokestatic 147, 3) := by decide +kernel
theorem dX5_marked_4 : decode cX5_marked 4 = .ok (.ifCond .ne 5, 3) := by decide +kernel
theorem dX5_marked_7 : decode cX5_marked 7 = .ok (.iconst (-1), 1) := by decide +kernel
theorem dX5_marked_8 : decode cX5_marked 8 = .ok (.ireturn, 1) := by decide +kernel
theorem dX5_marked_9 : decode cX5_marked 9 = .ok (.aload_n 0, 1) := by decide +kernel
theorem dX5_marked_10 : decode cX5_marked 10 = .ok (.getfield 10, 3) := by decide +kernel
theorem dX5_marked_13 : decode cX5_marked 13 = .ok (.iload_n 1, 1) := by decide +kernel
theorem dX5_marked_14 : decode cX5_marked 14 = .ok (.invokevirtual 150, 3) := by decide +kernel
theorem dX5_marked_17 : decode cX5_marked 17 = .ok (.invokestatic 156, 3) := by decide +kernel
theorem dX5_marked_20 : decode cX5_marked 20 = .ok (.ireturn, 1) := by decide +kernel
theorem dX5_count_0 : decode cX5_count 0 = .ok (.iload_n 1, 1) := by decide +kernel
theorem dX5_count_1 : decode cX5_count 1 = .ok (.tableswitch 164 0 9 #[55, 66, 74, 92, 103, 115, 126, 137, 145, 153], 55) := by decide +kernel
theorem dX5_count_56 : decode cX5_count 56 = .ok (.aload_n 0, 1) := by decide +kernel
theorem dX5_count_57 : decode cX5_count 57 = .ok (.getfield 10, 3) := by decide +kernel
theorem dX5_count_60 : decode cX5_count 60 = .ok (.getfield 43, 3) := by decide +kernel
theorem dX5_count_63 : decode cX5_count 63 = .ok (.invokevirtual 101, 3) := by decide +kernel
theorem dX5_count_66 : decode cX5_count 66 = .ok (.ireturn, 1) := by decide +kernel
theorem dX5_count_67 : decode cX5_count 67 = .ok (.aload_n 0, 1) := by decide +kernel
theorem dX5_count_68 : decode cX5_count 68 = .ok (.getfield 10, 3) := by decide +kernel
theorem dX5_count_71 : decode cX5_count 71 = .ok (.getfield 47, 3) := by decide +kernel
theorem dX5_count_74 : decode cX5_count 74 = .ok (.ireturn, 1) := by decide +kernel
theorem dX5_count_75 : decode cX5_count 75 = .ok (.aload_n 0, 1) := by decide +kernel
theorem dX5_count_76 : decode cX5_count 76 = .ok (.getfield 10, 3) := by decide +kernel
theorem dX5_count_79 : decode cX5_count 79 = .ok (.getfield 43, 3) := by decide +kernel
theorem dX5_count_82 : decode cX5_count 82 = .ok (.aload_n 0, 1) := by decide +kernel
theorem dX5_count_83 : decode cX5_count 83 = .ok (.getfield 10, 3) := by decide +kernel
theorem dX5_count_86 : decode cX5_count 86 = .ok (.getfield 47, 3) := by decide +kernel
theorem dX5_count_89 : decode cX5_count 89 = .ok (.invokevirtual 74, 3) := by decide +kernel
theorem dX5_count_92 : decode cX5_count 92 = .ok (.ireturn, 1) := by decide +kernel
theorem dX5_count_93 : decode cX5_count 93 = .ok (.aload_n 0, 1) := by decide +kernel
theorem dX5_count_94 : decode cX5_count 94 = .ok (.getfield 10, 3) := by decide +kernel
theorem dX5_count_97 : decode cX5_count 97 = .ok (.getfield 43, 3) := by decide +kernel
theorem dX5_count_100 : decode cX5_count 100 = .ok (.invokevirtual 165, 3) := by decide +kernel
theorem dX5_count_103 : decode cX5_count 103 = .ok (.ireturn, 1) := by decide +kernel
theorem dX5_count_104 : decode cX5_count 104 = .ok (.aload_n 0, 1) := by decide +kernel
theorem dX5_count_105 : decode cX5_count 105 = .ok (.getfield 10, 3) := by decide +kernel
theorem dX5_count_108 : decode cX5_count 108 = .ok (.getfield 43, 3) := by decide +kernel
theorem dX5_count_111 : decode cX5_count 111 = .ok (.iconst 0, 1) := by decide +kernel
theorem dX5_count_112 : decode cX5_count 112 = .ok (.invokevirtual 113, 3) := by decide +kernel
theorem dX5_count_115 : decode cX5_count 115 = .ok (.ireturn, 1) := by decide +kernel
theorem dX5_count_116 : decode cX5_count 116 = .ok (.aload_n 0, 1) := by decide +kernel
theorem dX5_count_117 : decode cX5_count 117 = .ok (.getfield 10, 3) := by decide +kernel
theorem dX5_count_120 : decode cX5_count 120 = .ok (.getfield 168, 3) := by decide +kernel
theorem dX5_count_123 : decode cX5_count 123 = .ok (.invokevirtual 171, 3) := by decide +kernel
theorem dX5_count_126 : decode cX5_count 126 = .ok (.ireturn, 1) := by decide +kernel
theorem dX5_count_127 : decode cX5_count 127 = .ok (.aload_n 0, 1) := by decide +kernel
theorem dX5_count_128 : decode cX5_count 128 = .ok (.getfield 10, 3) := by decide +kernel
theorem dX5_count_131 : decode cX5_count 131 = .ok (.getfield 136, 3) := by decide +kernel
theorem dX5_count_134 : decode cX5_count 134 = .ok (.invokevirtual 101, 3) := by decide +kernel
theorem dX5_count_137 : decode cX5_count 137 = .ok (.ireturn, 1) := by decide +kernel
theorem dX5_count_138 : decode cX5_count 138 = .ok (.aload_n 0, 1) := by decide +kernel
theorem dX5_count_139 : decode cX5_count 139 = .ok (.getfield 19, 3) := by decide +kernel
theorem dX5_count_142 : decode cX5_count 142 = .ok (.invokevirtual 172, 3) := by decide +kernel
theorem dX5_count_145 : decode cX5_count 145 = .ok (.ireturn, 1) := by decide +kernel
theorem dX5_count_146 : decode cX5_count 146 = .ok (.aload_n 0, 1) := by decide +kernel
theorem dX5_count_147 : decode cX5_count 147 = .ok (.getfield 28, 3) := by decide +kernel
theorem dX5_count_150 : decode cX5_count 150 = .ok (.invokevirtual 171, 3) := by decide +kernel
theorem dX5_count_153 : decode cX5_count 153 = .ok (.ireturn, 1) := by decide +kernel
theorem dX5_count_154 : decode cX5_count 154 = .ok (.aload_n 0, 1) := by decide +kernel
theorem dX5_count_155 : decode cX5_count 155 = .ok (.getfield 10, 3) := by decide +kernel
theorem dX5_count_158 : decode cX5_count 158 = .ok (.getfield 43, 3) := by decide +kernel
theorem dX5_count_161 : decode cX5_count 161 = .ok (.invokevirtual 173, 3) := by decide +kernel
theorem dX5_count_164 : decode cX5_count 164 = .ok (.ireturn, 1) := by decide +kernel
theorem dX5_count_165 : decode cX5_count 165 = .ok (.iconst (-1), 1) := by decide +kernel
theorem dX5_count_166 : decode cX5_count 166 = .ok (.ireturn, 1) := by decide +kernel
theorem dX5_like_0 : decode cX5_like 0 = .ok (.iconst 0, 1) := by decide +kernel
theorem dX5_like_1 : decode cX5_like 1 = .ok (.istore_n 1, 1) := by decide +kernel
theorem dX5_like_2 : decode cX5_like 2 = .ok (.iconst 0, 1) := by decide +kernel
theorem dX5_like_3 : decode cX5_like 3 = .ok (.istore_n 2, 1) := by decide +kernel
theorem dX5_like_4 : decode cX5_like 4 = .ok (.iload_n 2, 1) := by decide +kernel
theorem dX5_like_5 : decode cX5_like 5 = .ok (.aload_n 0, 1) := by decide +kernel
theorem dX5_like_6 : decode cX5_like 6 = .ok (.getfield 10, 3) := by decide +kernel
theorem dX5_like_9 : decode cX5_like 9 = .ok (.getfield 43, 3) := by decide +kernel
theorem dX5_like_12 : decode cX5_like 12 = .ok (.invokevirtual 101, 3) := by decide +kernel
theorem dX5_like_15 : decode cX5_like 15 = .ok (.if_icmp .ge 33, 3) := by decide +kernel
theorem dX5_like_18 : decode cX5_like 18 = .ok (.aload_n 0, 1) := by decide +kernel
theorem dX5_like_19 : decode cX5_like 19 = .ok (.getfield 10, 3) := by decide +kernel
theorem dX5_like_22 : decode cX5_like 22 = .ok (.getfield 43, 3) := by decide +kernel
theorem dX5_like_25 : decode cX5_like 25 = .ok (.iload_n 2, 1) := by decide +kernel
theorem dX5_like_26 : decode cX5_like 26 = .ok (.aload_n 0, 1) := by decide +kernel
theorem dX5_like_27 : decode cX5_like 27 = .ok (.getfield 10, 3) := by decide +kernel
theorem dX5_like_30 : decode cX5_like 30 = .ok (.getfield 47, 3) := by decide +kernel
theorem dX5_like_33 : decode cX5_like 33 = .ok (.invokevirtual 176, 3) := by decide +kernel
theorem dX5_like_36 : decode cX5_like 36 = .ok (.ifCond .eq 6, 3) := by decide +kernel
theorem dX5_like_39 : decode cX5_like 39 = .ok (.iinc 1 1, 3) := by decide +kernel
theorem dX5_like_42 : decode cX5_like 42 = .ok (.iinc 2 1, 3) := by decide +kernel
theorem dX5_like_45 : decode cX5_like 45 = .ok (.goto (-41), 3) := by decide +kernel
theorem dX5_like_48 : decode cX5_like 48 = .ok (.iload_n 1, 1) := by decide +kernel
theorem dX5_like_49 : decode cX5_like 49 = .ok (.ireturn, 1) := by decide +kernel
theorem dX5_meet_0 : decode cX5_meet 0 = .ok (.aload_n 0, 1) := by decide +kernel
theorem dX5_meet_1 : decode cX5_meet 1 = .ok (.getfield 10, 3) := by decide +kernel
theorem dX5_meet_4 : decode cX5_meet 4 = .ok (.getfield 43, 3) := by decide +kernel
theorem dX5_meet_7 : decode cX5_meet 7 = .ok (.iload_n 1, 1) := by decide +kernel
theorem dX5_meet_8 : decode cX5_meet 8 = .ok (.invokevirtual 71, 3) := by decide +kernel
theorem dX5_meet_11 : decode cX5_meet 11 = .ok (.ifCond .eq 17, 3) := by decide +kernel
theorem dX5_meet_14 : decode cX5_meet 14 = .ok (.aload_n 0, 1) := by decide +kernel
theorem dX5_meet_15 : decode cX5_meet 15 = .ok (.getfield 10, 3) := by decide +kernel
theorem dX5_meet_18 : decode cX5_meet 18 = .ok (.getfield 43, 3) := by decide +kernel
theorem dX5_meet_21 : decode cX5_meet 21 = .ok (.iload_n 2, 1) := by decide +kernel
theorem dX5_meet_22 : decode cX5_meet 22 = .ok (.invokevirtual 71, 3) := by decide +kernel
theorem dX5_meet_25 : decode cX5_meet 25 = .ok (.ifCond .ne 5, 3) := by decide +kernel
theorem dX5_meet_28 : decode cX5_meet 28 = .ok (.iconst (-1), 1) := by decide +kernel
theorem dX5_meet_29 : decode cX5_meet 29 = .ok (.ireturn, 1) := by decide +kernel
theorem dX5_meet_30 : decode cX5_meet 30 = .ok (.iload_n 1, 1) := by decide +kernel
theorem dX5_meet_31 : decode cX5_meet 31 = .ok (.iload_n 2, 1) := by decide +kernel
theorem dX5_meet_32 : decode cX5_meet 32 = .ok (.invokestatic 122, 3) := by decide +kernel
theorem dX5_meet_35 : decode cX5_meet 35 = .ok (.istore_n 3, 1) := by decide +kernel
theorem dX5_meet_36 : decode cX5_meet 36 = .ok (.iload_n 1, 1) := by decide +kernel
theorem dX5_meet_37 : decode cX5_meet 37 = .ok (.iload_n 2, 1) := by decide +kernel
theorem dX5_meet_38 : decode cX5_meet 38 = .ok (.invokestatic 127, 3) := by decide +kernel
theorem dX5_meet_41 : decode cX5_meet 41 = .ok (.istore 4, 2) := by decide +kernel
theorem dX5_meet_43 : decode cX5_meet 43 = .ok (.iload 4, 2) := by decide +kernel
theorem dX5_meet_45 : decode cX5_meet 45 = .ok (.ifCond .le 28, 3) := by decide +kernel
theorem dX5_meet_48 : decode cX5_meet 48 = .ok (.aload_n 0, 1) := by decide +kernel
theorem dX5_meet_49 : decode cX5_meet 49 = .ok (.getfield 10, 3) := by decide +kernel
theorem dX5_meet_52 : decode cX5_meet 52 = .ok (.getfield 43, 3) := by decide +kernel
theorem dX5_meet_55 : decode cX5_meet 55 = .ok (.iload 4, 2) := by decide +kernel
theorem dX5_meet_57 : decode cX5_meet 57 = .ok (.invokevirtual 107, 3) := by decide +kernel
theorem dX5_meet_60 : decode cX5_meet 60 = .ok (.iload_n 3, 1) := by decide +kernel
theorem dX5_meet_61 : decode cX5_meet 61 = .ok (.if_icmp .le 6, 3) := by decide +kernel
theorem dX5_meet_64 : decode cX5_meet 64 = .ok (.iload 4, 2) := by decide +kernel
theorem dX5_meet_66 : decode cX5_meet 66 = .ok (.ireturn, 1) := by decide +kernel
theorem dX5_meet_67 : decode cX5_meet 67 = .ok (.iinc 4 (-1), 3) := by decide +kernel
theorem dX5_meet_70 : decode cX5_meet 70 = .ok (.goto (-27), 3) := by decide +kernel
theorem dX5_meet_73 : decode cX5_meet 73 = .ok (.iconst 0, 1) := by decide +kernel
theorem dX5_meet_74 : decode cX5_meet 74 = .ok (.ireturn, 1) := by decide +kernel
theorem dX5_find_0 : decode cX5_find 0 = .ok (.iload_n 1, 1) := by decide +kernel
theorem dX5_find_1 : decode cX5_find 1 = .ok (.invokestatic 88, 3) := by decide +kernel
theorem dX5_find_4 : decode cX5_find 4 = .ok (.ifCond .ne 5, 3) := by decide +kernel
theorem dX5_find_7 : decode cX5_find 7 = .ok (.iconst (-1), 1) := by decide +kernel
theorem dX5_find_8 : decode cX5_find 8 = .ok (.ireturn, 1) := by decide +kernel
theorem dX5_find_9 : decode cX5_find 9 = .ok (.aload_n 0, 1) := by decide +kernel
theorem dX5_find_10 : decode cX5_find 10 = .ok (.getfield 10, 3) := by decide +kernel
theorem dX5_find_13 : decode cX5_find 13 = .ok (.getfield 47, 3) := by decide +kernel
theorem dX5_find_16 : decode cX5_find 16 = .ok (.iconst 1, 1) := by decide +kernel
theorem dX5_find_17 : decode cX5_find 17 = .ok (.iadd, 1) := by decide +kernel
theorem dX5_find_18 : decode cX5_find 18 = .ok (.istore_n 2, 1) := by decide +kernel
theorem dX5_find_19 : decode cX5_find 19 = .ok (.iload_n 2, 1) := by decide +kernel
theorem dX5_find_20 : decode cX5_find 20 = .ok (.aload_n 0, 1) := by decide +kernel
theorem dX5_find_21 : decode cX5_find 21 = .ok (.getfield 10, 3) := by decide +kernel
theorem dX5_find_24 : decode cX5_find 24 = .ok (.getfield 43, 3) := by decide +kernel
theorem dX5_find_27 : decode cX5_find 27 = .ok (.invokevirtual 101, 3) := by decide +kernel
theorem dX5_find_30 : decode cX5_find 30 = .ok (.if_icmp .ge 26, 3) := by decide +kernel
theorem dX5_find_33 : decode cX5_find 33 = .ok (.aload_n 0, 1) := by decide +kernel
theorem dX5_find_34 : decode cX5_find 34 = .ok (.getfield 10, 3) := by decide +kernel
theorem dX5_find_37 : decode cX5_find 37 = .ok (.getfield 43, 3) := by decide +kernel
theorem dX5_find_40 : decode cX5_find 40 = .ok (.iload_n 2, 1) := by decide +kernel
theorem dX5_find_41 : decode cX5_find 41 = .ok (.invokevirtual 91, 3) := by decide +kernel
theorem dX5_find_44 : decode cX5_find 44 = .ok (.iload_n 1, 1) := by decide +kernel
theorem dX5_find_45 : decode cX5_find 45 = .ok (.if_icmp .ne 5, 3) := by decide +kernel
theorem dX5_find_48 : decode cX5_find 48 = .ok (.iload_n 2, 1) := by decide +kernel
theorem dX5_find_49 : decode cX5_find 49 = .ok (.ireturn, 1) := by decide +kernel
theorem dX5_find_50 : decode cX5_find 50 = .ok (.iinc 2 1, 3) := by decide +kernel
theorem dX5_find_53 : decode cX5_find 53 = .ok (.goto (-34), 3) := by decide +kernel
theorem dX5_find_56 : decode cX5_find 56 = .ok (.iconst 0, 1) := by decide +kernel
theorem dX5_find_57 : decode cX5_find 57 = .ok (.istore_n 2, 1) := by decide +kernel
theorem dX5_find_58 : decode cX5_find 58 = .ok (.iload_n 2, 1) := by decide +kernel
theorem dX5_find_59 : decode cX5_find 59 = .ok (.aload_n 0, 1) := by decide +kernel
theorem dX5_find_60 : decode cX5_find 60 = .ok (.getfield 10, 3) := by decide +kernel
theorem dX5_find_63 : decode cX5_find 63 = .ok (.getfield 47, 3) := by decide +kernel
theorem dX5_find_66 : decode cX5_find 66 = .ok (.if_icmp .gt 26, 3) := by decide +kernel
theorem dX5_find_69 : decode cX5_find 69 = .ok (.aload_n 0, 1) := by decide +kernel
theorem dX5_find_70 : decode cX5_find 70 = .ok (.getfield 10, 3) := by decide +kernel
theorem dX5_find_73 : decode cX5_find 73 = .ok (.getfield 43, 3) := by decide +kernel
theorem dX5_find_76 : decode cX5_find 76 = .ok (.iload_n 2, 1) := by decide +kernel
theorem dX5_find_77 : decode cX5_find 77 = .ok (.invokevirtual 91, 3) := by decide +kernel
theorem dX5_find_80 : decode cX5_find 80 = .ok (.iload_n 1, 1) := by decide +kernel
theorem dX5_find_81 : decode cX5_find 81 = .ok (.if_icmp .ne 5, 3) := by decide +kernel
theorem dX5_find_84 : decode cX5_find 84 = .ok (.iload_n 2, 1) := by decide +kernel
theorem dX5_find_85 : decode cX5_find 85 = .ok (.ireturn, 1) := by decide +kernel
theorem dX5_find_86 : decode cX5_find 86 = .ok (.iinc 2 1, 3) := by decide +kernel
theorem dX5_find_89 : decode cX5_find 89 = .ok (.goto (-31), 3) := by decide +kernel
theorem dX5_find_92 : decode cX5_find 92 = .ok (.bipush (-4), 2) := by decide +kernel
theorem dX5_find_94 : decode cX5_find 94 = .ok (.ireturn, 1) := by decide +kernel
theorem dX5_undo_0 : decode cX5_undo 0 = .ok (.aload_n 0, 1) := by decide +kernel
theorem dX5_undo_1 : decode cX5_undo 1 = .ok (.getfield 19, 3) := by decide +kernel
theorem dX5_undo_4 : decode cX5_undo 4 = .ok (.invokevirtual 172, 3) := by decide +kernel
theorem dX5_undo_7 : decode cX5_undo 7 = .ok (.ifCond .ne 6, 3) := by decide +kernel
theorem dX5_undo_10 : decode cX5_undo 10 = .ok (.bipush (-2), 2) := by decide +kernel
theorem dX5_undo_12 : decode cX5_undo 12 = .ok (.ireturn, 1) := by decide +kernel
theorem dX5_undo_13 : decode cX5_undo 13 = .ok (.aload_n 0, 1) := by decide +kernel
theorem dX5_undo_14 : decode cX5_undo 14 = .ok (.getfield 19, 3) := by decide +kernel
theorem dX5_undo_17 : decode cX5_undo 17 = .ok (.aload_n 0, 1) := by decide +kernel
theorem dX5_undo_18 : decode cX5_undo 18 = .ok (.getfield 10, 3) := by decide +kernel
theorem dX5_undo_21 : decode cX5_undo 21 = .ok (.invokevirtual 180, 3) := by decide +kernel
theorem dX5_undo_24 : decode cX5_undo 24 = .ok (.aload_n 0, 1) := by decide +kernel
theorem dX5_undo_25 : decode cX5_undo 25 = .ok (.getfield 19, 3) := by decide +kernel
theorem dX5_undo_28 : decode cX5_undo 28 = .ok (.invokevirtual 172, 3) := by decide +kernel
theorem dX5_undo_31 : decode cX5_undo 31 = .ok (.ireturn, 1) := by decide +kernel
theorem dX5_type_0 : decode cX5_type 0 = .ok (.iload_n 1, 1) := by decide +kernel
theorem dX5_type_1 : decode cX5_type 1 = .ok (.bipush 32, 2) := by decide +kernel
theorem dX5_type_3 : decode cX5_type 3 = .ok (.if_icmp .lt 9, 3) := by decide +kernel
theorem dX5_type_6 : decode cX5_type 6 = .ok (.iload_n 1, 1) := by decide +kernel
theorem dX5_type_7 : decode cX5_type 7 = .ok (.bipush 126, 2) := by decide +kernel
theorem dX5_type_9 : decode cX5_type 9 = .ok (.if_icmp .le 5, 3) := by decide +kernel
theorem dX5_type_12 : decode cX5_type 12 = .ok (.iconst (-1), 1) := by decide +kernel
theorem dX5_type_13 : decode cX5_type 13 = .ok (.ireturn, 1) := by decide +kernel
theorem dX5_type_14 : decode cX5_type 14 = .ok (.aload_n 0, 1) := by decide +kernel
theorem dX5_type_15 : decode cX5_type 15 = .ok (.getfield 28, 3) := by decide +kernel
theorem dX5_type_18 : decode cX5_type 18 = .ok (.invokevirtual 171, 3) := by decide +kernel
theorem dX5_type_21 : decode cX5_type 21 = .ok (.bipush 120, 2) := by decide +kernel
theorem dX5_type_23 : decode cX5_type 23 = .ok (.if_icmp .lt 6, 3) := by decide +kernel
theorem dX5_type_26 : decode cX5_type 26 = .ok (.bipush (-3), 2) := by decide +kernel
theorem dX5_type_28 : decode cX5_type 28 = .ok (.ireturn, 1) := by decide +kernel
theorem dX5_type_29 : decode cX5_type 29 = .ok (.aload_n 0, 1) := by decide +kernel
theorem dX5_type_30 : decode cX5_type 30 = .ok (.getfield 28, 3) := by decide +kernel
theorem dX5_type_33 : decode cX5_type 33 = .ok (.iload_n 1, 1) := by decide +kernel
theorem dX5_type_34 : decode cX5_type 34 = .ok (.invokevirtual 183, 3) := by decide +kernel
theorem dX5_type_37 : decode cX5_type 37 = .ok (.aload_n 0, 1) := by decide +kernel
theorem dX5_type_38 : decode cX5_type 38 = .ok (.getfield 28, 3) := by decide +kernel
theorem dX5_type_41 : decode cX5_type 41 = .ok (.invokevirtual 171, 3) := by decide +kernel
theorem dX5_type_44 : decode cX5_type 44 = .ok (.ireturn, 1) := by decide +kernel
theorem dX5_clearText_0 : decode cX5_clearText 0 = .ok (.aload_n 0, 1) := by decide +kernel
theorem dX5_clearText_1 : decode cX5_clearText 1 = .ok (.getfield 28, 3) := by decide +kernel
theorem dX5_clearText_4 : decode cX5_clearText 4 = .ok (.invokevirtual 171, 3) := by decide +kernel
theorem dX5_clearText_7 : decode cX5_clearText 7 = .ok (.istore_n 1, 1) := by decide +kernel
theorem dX5_clearText_8 : decode cX5_clearText 8 = .ok (.aload_n 0, 1) := by decide +kernel
theorem dX5_clearText_9 : decode cX5_clearText 9 = .ok (.getfield 28, 3) := by decide +kernel
theorem dX5_clearText_12 : decode cX5_clearText 12 = .ok (.invokevirtual 186, 3) := by decide +kernel
theorem dX5_clearText_15 : decode cX5_clearText 15 = .ok (.iload_n 1, 1) := by decide +kernel
theorem dX5_clearText_16 : decode cX5_clearText 16 = .ok (.ireturn, 1) := by decide +kernel
theorem dX5_write_0 : decode cX5_write 0 = .ok (.aload_n 0, 1) := by decide +kernel
theorem dX5_write_1 : decode cX5_write 1 = .ok (.getfield 28, 3) := by decide +kernel
theorem dX5_write_4 : decode cX5_write 4 = .ok (.invokevirtual 186, 3) := by decide +kernel
theorem dX5_write_7 : decode cX5_write 7 = .ok (.aload_n 0, 1) := by decide +kernel
theorem dX5_write_8 : decode cX5_write 8 = .ok (.getfield 10, 3) := by decide +kernel
theorem dX5_write_11 : decode cX5_write 11 = .ok (.getfield 43, 3) := by decide +kernel
theorem dX5_write_14 : decode cX5_write 14 = .ok (.aload_n 0, 1) := by decide +kernel
theorem dX5_write_15 : decode cX5_write 15 = .ok (.getfield 28, 3) := by decide +kernel
theorem dX5_write_18 : decode cX5_write 18 = .ok (.invokevirtual 189, 3) := by decide +kernel
theorem dX5_write_21 : decode cX5_write 21 = .ok (.aload_n 0, 1) := by decide +kernel
theorem dX5_write_22 : decode cX5_write 22 = .ok (.getfield 28, 3) := by decide +kernel
theorem dX5_write_25 : decode cX5_write 25 = .ok (.invokevirtual 171, 3) := by decide +kernel
theorem dX5_write_28 : decode cX5_write 28 = .ok (.ireturn, 1) := by decide +kernel
theorem dX5_fault_0 : decode cX5_fault 0 = .ok (.iload_n 1, 1) := by decide +kernel
theorem dX5_fault_1 : decode cX5_fault 1 = .ok (.invokestatic 64, 3) := by decide +kernel
theorem dX5_fault_4 : decode cX5_fault 4 = .ok (.ifCond .ne 5, 3) := by decide +kernel
theorem dX5_fault_7 : decode cX5_fault 7 = .ok (.iconst (-1), 1) := by decide +kernel
theorem dX5_fault_8 : decode cX5_fault 8 = .ok (.ireturn, 1) := by decide +kernel
theorem dX5_fault_9 : decode cX5_fault 9 = .ok (.aload_n 0, 1) := by decide +kernel
theorem dX5_fault_10 : decode cX5_fault 10 = .ok (.getfield 35, 3) := by decide +kernel
theorem dX5_fault_13 : decode cX5_fault 13 = .ok (.aload_n 0, 1) := by decide +kernel
theorem dX5_fault_14 : decode cX5_fault 14 = .ok (.getfield 28, 3) := by decide +kernel
theorem dX5_fault_17 : decode cX5_fault 17 = .ok (.invokevirtual 193, 3) := by decide +kernel
theorem dX5_fault_20 : decode cX5_fault 20 = .ok (.aload_n 0, 1) := by decide +kernel
theorem dX5_fault_21 : decode cX5_fault 21 = .ok (.getfield 35, 3) := by decide +kernel
theorem dX5_fault_24 : decode cX5_fault 24 = .ok (.getfield 196, 3) := by decide +kernel
theorem dX5_fault_27 : decode cX5_fault 27 = .ok (.ifCond .ne 6, 3) := by decide +kernel
theorem dX5_fault_30 : decode cX5_fault 30 = .ok (.bipush (-4), 2) := by decide +kernel
theorem dX5_fault_32 : decode cX5_fault 32 = .ok (.ireturn, 1) := by decide +kernel
theorem dX5_fault_33 : decode cX5_fault 33 = .ok (.iload_n 1, 1) := by decide +kernel
theorem dX5_fault_34 : decode cX5_fault 34 = .ok (.ifCond .ne 13, 3) := by decide +kernel
theorem dX5_fault_37 : decode cX5_fault 37 = .ok (.aload_n 0, 1) := by decide +kernel
theorem dX5_fault_38 : decode cX5_fault 38 = .ok (.getfield 35, 3) := by decide +kernel
theorem dX5_fault_41 : decode cX5_fault 41 = .ok (.getfield 199, 3) := by decide +kernel
theorem dX5_fault_44 : decode cX5_fault 44 = .ok (.goto 10, 3) := by decide +kernel
theorem dX5_fault_47 : decode cX5_fault 47 = .ok (.aload_n 0, 1) := by decide +kernel
theorem dX5_fault_48 : decode cX5_fault 48 = .ok (.getfield 35, 3) := by decide +kernel
theorem dX5_fault_51 : decode cX5_fault 51 = .ok (.getfield 196, 3) := by decide +kernel
theorem dX5_fault_54 : decode cX5_fault 54 = .ok (.ireturn, 1) := by decide +kernel
theorem dX5_read_0 : decode cX5_read 0 = .ok (.aload_n 0, 1) := by decide +kernel
theorem dX5_read_1 : decode cX5_read 1 = .ok (.getfield 35, 3) := by decide +kernel
theorem dX5_read_4 : decode cX5_read 4 = .ok (.aload_n 0, 1) := by decide +kernel
theorem dX5_read_5 : decode cX5_read 5 = .ok (.getfield 28, 3) := by decide +kernel
theorem dX5_read_8 : decode cX5_read 8 = .ok (.invokevirtual 193, 3) := by decide +kernel
theorem dX5_read_11 : decode cX5_read 11 = .ok (.aload_n 0, 1) := by decide +kernel
theorem dX5_read_12 : decode cX5_read 12 = .ok (.getfield 35, 3) := by decide +kernel
theorem dX5_read_15 : decode cX5_read 15 = .ok (.getfield 196, 3) := by decide +kernel
theorem dX5_read_18 : decode cX5_read 18 = .ok (.ifCond .eq 6, 3) := by decide +kernel
theorem dX5_read_21 : decode cX5_read 21 = .ok (.bipush (-2), 2) := by decide +kernel
theorem dX5_read_23 : decode cX5_read 23 = .ok (.ireturn, 1) := by decide +kernel
theorem dX5_read_24 : decode cX5_read 24 = .ok (.aload_n 0, 1) := by decide +kernel
theorem dX5_read_25 : decode cX5_read 25 = .ok (.getfield 19, 3) := by decide +kernel
theorem dX5_read_28 : decode cX5_read 28 = .ok (.aload_n 0, 1) := by decide +kernel
theorem dX5_read_29 : decode cX5_read 29 = .ok (.getfield 10, 3) := by decide +kernel
theorem dX5_read_32 : decode cX5_read 32 = .ok (.invokevirtual 81, 3) := by decide +kernel
theorem dX5_read_35 : decode cX5_read 35 = .ok (.aload_n 0, 1) := by decide +kernel
theorem dX5_read_36 : decode cX5_read 36 = .ok (.getfield 10, 3) := by decide +kernel
theorem dX5_read_39 : decode cX5_read 39 = .ok (.aload_n 0, 1) := by decide +kernel
theorem dX5_read_40 : decode cX5_read 40 = .ok (.getfield 35, 3) := by decide +kernel
theorem dX5_read_43 : decode cX5_read 43 = .ok (.getfield 202, 3) := by decide +kernel
theorem dX5_read_46 : decode cX5_read 46 = .ok (.invokevirtual 203, 3) := by decide +kernel
theorem dX5_read_49 : decode cX5_read 49 = .ok (.aload_n 0, 1) := by decide +kernel
theorem dX5_read_50 : decode cX5_read 50 = .ok (.getfield 10, 3) := by decide +kernel
theorem dX5_read_53 : decode cX5_read 53 = .ok (.getfield 43, 3) := by decide +kernel
theorem dX5_read_56 : decode cX5_read 56 = .ok (.invokevirtual 101, 3) := by decide +kernel
theorem dX5_read_59 : decode cX5_read 59 = .ok (.ireturn, 1) := by decide +kernel
theorem dX5_walk_0 : decode cX5_walk 0 = .ok (.iload_n 1, 1) := by decide +kernel
theorem dX5_walk_1 : decode cX5_walk 1 = .ok (.iconst (-1), 1) := by decide +kernel
theorem dX5_walk_2 : decode cX5_walk 2 = .ok (.if_icmp .ne 6, 3) := by decide +kernel
theorem dX5_walk_5 : decode cX5_walk 5 = .ok (.bipush (-2), 2) := by decide +kernel
theorem dX5_walk_7 : decode cX5_walk 7 = .ok (.ireturn, 1) := by decide +kernel
theorem dX5_walk_8 : decode cX5_walk 8 = .ok (.aload_n 0, 1) := by decide +kernel
theorem dX5_walk_9 : decode cX5_walk 9 = .ok (.getfield 19, 3) := by decide +kernel
theorem dX5_walk_12 : decode cX5_walk 12 = .ok (.aload_n 0, 1) := by decide +kernel
theorem dX5_walk_13 : decode cX5_walk 13 = .ok (.getfield 10, 3) := by decide +kernel
theorem dX5_walk_16 : decode cX5_walk 16 = .ok (.invokevirtual 81, 3) := by decide +kernel
theorem dX5_walk_19 : decode cX5_walk 19 = .ok (.aload_n 0, 1) := by decide +kernel
theorem dX5_walk_20 : decode cX5_walk 20 = .ok (.getfield 10, 3) := by decide +kernel
theorem dX5_walk_23 : decode cX5_walk 23 = .ok (.iload_n 1, 1) := by decide +kernel
theorem dX5_walk_24 : decode cX5_walk 24 = .ok (.invokevirtual 207, 3) := by decide +kernel
theorem dX5_walk_27 : decode cX5_walk 27 = .ok (.iload_n 1, 1) := by decide +kernel
theorem dX5_walk_28 : decode cX5_walk 28 = .ok (.ireturn, 1) := by decide +kernel
theorem dX5_orNotFound_0 : decode cX5_orNotFound 0 = .ok (.iload_n 0, 1) := by decide +kernel
theorem dX5_orNotFound_1 : decode cX5_orNotFound 1 = .ok (.iconst (-1), 1) := by decide +kernel
theorem dX5_orNotFound_2 : decode cX5_orNotFound 2 = .ok (.if_icmp .ne 8, 3) := by decide +kernel
theorem dX5_orNotFound_5 : decode cX5_orNotFound 5 = .ok (.bipush (-4), 2) := by decide +kernel
theorem dX5_orNotFound_7 : decode cX5_orNotFound 7 = .ok (.goto 4, 3) := by decide +kernel
theorem dX5_orNotFound_10 : decode cX5_orNotFound 10 = .ok (.iload_n 0, 1) := by decide +kernel
theorem dX5_orNotFound_11 : decode cX5_orNotFound 11 = .ok (.ireturn, 1) := by decide +kernel
theorem dX5_isChoice_0 : decode cX5_isChoice 0 = .ok (.iload_n 0, 1) := by decide +kernel
theorem dX5_isChoice_1 : decode cX5_isChoice 1 = .ok (.ifCond .eq 8, 3) := by decide +kernel
theorem dX5_isChoice_4 : decode cX5_isChoice 4 = .ok (.iload_n 0, 1) := by decide +kernel
theorem dX5_isChoice_5 : decode cX5_isChoice 5 = .ok (.iconst 1, 1) := by decide +kernel
theorem dX5_isChoice_6 : decode cX5_isChoice 6 = .ok (.if_icmp .ne 7, 3) := by decide +kernel
theorem dX5_isChoice_9 : decode cX5_isChoice 9 = .ok (.iconst 1, 1) := by decide +kernel
theorem dX5_isChoice_10 : decode cX5_isChoice 10 = .ok (.goto 4, 3) := by decide +kernel
theorem dX5_isChoice_13 : decode cX5_isChoice 13 = .ok (.iconst 0, 1) := by decide +kernel
theorem dX5_isChoice_14 : decode cX5_isChoice 14 = .ok (.ireturn, 1) := by decide +kernel
theorem dX5_isLetter_0 : decode cX5_isLetter 0 = .ok (.iload_n 0, 1) := by decide +kernel
theorem dX5_isLetter_1 : decode cX5_isLetter 1 = .ok (.ifCond .lt 13, 3) := by decide +kernel
theorem dX5_isLetter_4 : decode cX5_isLetter 4 = .ok (.iload_n 0, 1) := by decide +kernel
theorem dX5_isLetter_5 : decode cX5_isLetter 5 = .ok (.bipush 26, 2) := by decide +kernel
theorem dX5_isLetter_7 : decode cX5_isLetter 7 = .ok (.if_icmp .ge 7, 3) := by decide +kernel
theorem dX5_isLetter_10 : decode cX5_isLetter 10 = .ok (.iconst 1, 1) := by decide +kernel
theorem dX5_isLetter_11 : decode cX5_isLetter 11 = .ok (.goto 4, 3) := by decide +kernel
theorem dX5_isLetter_14 : decode cX5_isLetter 14 = .ok (.iconst 0, 1) := by decide +kernel
theorem dX5_isLetter_15 : decode cX5_isLetter 15 = .ok (.ireturn, 1) := by decide +kernel
theorem dX5_isMark_0 : decode cX5_isMark 0 = .ok (.iload_n 0, 1) := by decide +kernel
theorem dX5_isMark_1 : decode cX5_isMark 1 = .ok (.ifCond .lt 12, 3) := by decide +kernel
theorem dX5_isMark_4 : decode cX5_isMark 4 = .ok (.iload_n 0, 1) := by decide +kernel
theorem dX5_isMark_5 : decode cX5_isMark 5 = .ok (.iconst 4, 1) := by decide +kernel
theorem dX5_isMark_6 : decode cX5_isMark 6 = .ok (.if_icmp .ge 7, 3) := by decide +kernel
theorem dX5_isMark_9 : decode cX5_isMark 9 = .ok (.iconst 1, 1) := by decide +kernel
theorem dX5_isMark_10 : decode cX5_isMark 10 = .ok (.goto 4, 3) := by decide +kernel
theorem dX5_isMark_13 : decode cX5_isMark 13 = .ok (.iconst 0, 1) := by decide +kernel
theorem dX5_isMark_14 : decode cX5_isMark 14 = .ok (.ireturn, 1) := by decide +kernel
theorem dX6_init_0 : decode cX6_init 0 = .ok (.aload_n 0, 1) := by decide +kernel
theorem dX6_init_1 : decode cX6_init 1 = .ok (.invokespecial 1, 3) := by decide +kernel
theorem dX6_init_4 : decode cX6_init 4 = .ok (.aload_n 0, 1) := by decide +kernel
theorem dX6_init_5 : decode cX6_init 5 = .ok (.sipush 218, 3) := by decide +kernel
theorem dX6_init_8 : decode cX6_init 8 = .ok (.newarray .int, 2) := by decide +kernel
theorem dX6_init_10 : decode cX6_init 10 = .ok (.putfield 7, 3) := by decide +kernel
theorem dX6_init_13 : decode cX6_init 13 = .ok (.aload_n 0, 1) := by decide +kernel
theorem dX6_init_14 : decode cX6_init 14 = .ok (.sipush 218, 3) := by decide +kernel
theorem dX6_init_17 : decode cX6_init 17 = .ok (.newarray .int, 2) := by decide +kernel
theorem dX6_init_19 : decode cX6_init 19 = .ok (.putfield 13, 3) := by decide +kernel
theorem dX6_init_22 : decode cX6_init 22 = .ok (.aload_n 0, 1) := by decide +kernel
theorem dX6_init_23 : decode cX6_init 23 = .ok (.sipush 872, 3) := by decide +kernel
theorem dX6_init_26 : decode cX6_init 26 = .ok (.newarray .int, 2) := by decide +kernel
theorem dX6_init_28 : decode cX6_init 28 = .ok (.putfield 16, 3) := by decide +kernel
theorem dX6_init_31 : decode cX6_init 31 = .ok (.aload_n 0, 1) := by decide +kernel
theorem dX6_init_32 : decode cX6_init 32 = .ok (.bipush 120, 2) := by decide +kernel
theorem dX6_init_34 : decode cX6_init 34 = .ok (.newarray .int, 2) := by decide +kernel
theorem dX6_init_36 : decode cX6_init 36 = .ok (.putfield 19, 3) := by decide +kernel
theorem dX6_init_39 : decode cX6_init 39 = .ok (.aload_n 0, 1) := by decide +kernel
theorem dX6_init_40 : decode cX6_init 40 = .ok (.bipush 120, 2) := by decide +kernel
theorem dX6_init_42 : decode cX6_init 42 = .ok (.newarray .int, 2) := by decide +kernel
theorem dX6_init_44 : decode cX6_init 44 = .ok (.putfield 22, 3) := by decide +kernel
theorem dX6_init_47 : decode cX6_init 47 = .ok (.aload_n 0, 1) := by decide +kernel
theorem dX6_init_48 : decode cX6_init 48 = .ok (.bipush 80, 2) := by decide +kernel
theorem dX6_init_50 : decode cX6_init 50 = .ok (.newarray .int, 2) := by decide +kernel
theorem dX6_init_52 : decode cX6_init 52 = .ok (.putfield 25, 3) := by decide +kernel
theorem dX6_init_55 : decode cX6_init 55 = .ok (.aload_n 0, 1) := by decide +kernel
theorem dX6_init_56 : decode cX6_init 56 = .ok (.bipush 9, 2) := by decide +kernel
theorem dX6_init_58 : decode cX6_init 58 = .ok (.newarray .int, 2) := by decide +kernel
theorem dX6_init_60 : decode cX6_init 60 = .ok (.putfield 28, 3) := by decide +kernel
theorem dX6_init_63 : decode cX6_init 63 = .ok (.aload_n 0, 1) := by decide +kernel
theorem dX6_init_64 : decode cX6_init 64 = .ok (.getfield 7, 3) := by decide +kernel
theorem dX6_init_67 : decode cX6_init 67 = .ok (.iconst 0, 1) := by decide +kernel
theorem dX6_init_68 : decode cX6_init 68 = .ok (.iconst 1, 1) := by decide +kernel
theorem dX6_init_69 : decode cX6_init 69 = .ok (.iastore, 1) := by decide +kernel
theorem dX6_init_70 : decode cX6_init 70 = .ok (.aload_n 0, 1) := by decide +kernel
theorem dX6_init_71 : decode cX6_init 71 = .ok (.getfield 7, 3) := by decide +kernel
theorem dX6_init_74 : decode cX6_init 74 = .ok (.iconst 1, 1) := by decide +kernel
theorem dX6_init_75 : decode cX6_init 75 = .ok (.iconst 1, 1) := by decide +kernel
theorem dX6_init_76 : decode cX6_init 76 = .ok (.iastore, 1) := by decide +kernel
theorem dX6_init_77 : decode cX6_init 77 = .ok (.iconst 0, 1) := by decide +kernel
theorem dX6_init_78 : decode cX6_init 78 = .ok (.istore_n 1, 1) := by decide +kernel
theorem dX6_init_79 : decode cX6_init 79 = .ok (.iload_n 1, 1) := by decide +kernel
theorem dX6_init_80 : decode cX6_init 80 = .ok (.iconst 4, 1) := by decide +kernel
theorem dX6_init_81 : decode cX6_init 81 = .ok (.if_icmp .ge 18, 3) := by decide +kernel
theorem dX6_init_84 : decode cX6_init 84 = .ok (.aload_n 0, 1) := by decide +kernel
theorem dX6_init_85 : decode cX6_init 85 = .ok (.getfield 7, 3) := by decide +kernel
theorem dX6_init_88 : decode cX6_init 88 = .ok (.iconst 5, 1) := by decide +kernel
theorem dX6_init_89 : decode cX6_init 89 = .ok (.iload_n 1, 1) := by decide +kernel
theorem dX6_init_90 : decode cX6_init 90 = .ok (.iadd, 1) := by decide +kernel
theorem dX6_init_91 : decode cX6_init 91 = .ok (.iconst (-1), 1) := by decide +kernel
theorem dX6_init_92 : decode cX6_init 92 = .ok (.iastore, 1) := by decide +kernel
theorem dX6_init_93 : decode cX6_init 93 = .ok (.iinc 1 1, 3) := by decide +kernel
theorem dX6_init_96 : decode cX6_init 96 = .ok (.goto (-17), 3) := by decide +kernel
theorem dX6_init_99 : decode cX6_init 99 = .ok (.return_, 1) := by decide +kernel
theorem dX6_in_0 : decode cX6_in 0 = .ok (.iload_n 0, 1) := by decide +kernel
theorem dX6_in_1 : decode cX6_in 1 = .ok (.iload_n 1, 1) := by decide +kernel
theorem dX6_in_2 : decode cX6_in 2 = .ok (.if_icmp .lt 12, 3) := by decide +kernel
theorem dX6_in_5 : decode cX6_in 5 = .ok (.iload_n 0, 1) := by decide +kernel
theorem dX6_in_6 : decode cX6_in 6 = .ok (.iload_n 2, 1) := by decide +kernel
theorem dX6_in_7 : decode cX6_in 7 = .ok (.if_icmp .gt 7, 3) := by decide +kernel
theorem dX6_in_10 : decode cX6_in 10 = .ok (.iconst 1, 1) := by decide +kernel
theorem dX6_in_11 : decode cX6_in 11 = .ok (.goto 4, 3) := by decide +kernel
theorem dX6_in_14 : decode cX6_in 14 = .ok (.iconst 0, 1) := by decide +kernel
theorem dX6_in_15 : decode cX6_in 15 = .ok (.ireturn, 1) := by decide +kernel
theorem dX6_begins_0 : decode cX6_begins 0 = .ok (.iconst 0, 1) := by decide +kernel
theorem dX6_begins_1 : decode cX6_begins 1 = .ok (.istore_n 1, 1) := by decide +kernel
theorem dX6_begins_2 : decode cX6_begins 2 = .ok (.iload_n 1, 1) := by decide +kernel
theorem dX6_begins_3 : decode cX6_begins 3 = .ok (.sipush 218, 3) := by decide +kernel
theorem dX6_begins_6 : decode cX6_begins 6 = .ok (.if_icmp .ge 21, 3) := by decide +kernel
theorem dX6_begins_9 : decode cX6_begins 9 = .ok (.aload_n 0, 1) := by decide +kernel
theorem dX6_begins_10 : decode cX6_begins 10 = .ok (.getfield 13, 3) := by decide +kernel
theorem dX6_begins_13 : decode cX6_begins 13 = .ok (.iload_n 1, 1) := by decide +kernel
theorem dX6_begins_14 : decode cX6_begins 14 = .ok (.aload_n 0, 1) := by decide +kernel
theorem dX6_begins_15 : decode cX6_begins 15 = .ok (.getfield 7, 3) := by decide +kernel
theorem dX6_begins_18 : decode cX6_begins 18 = .ok (.iload_n 1, 1) := by decide +kernel
theorem dX6_begins_19 : decode cX6_begins 19 = .ok (.iaload, 1) := by decide +kernel
theorem dX6_begins_20 : decode cX6_begins 20 = .ok (.iastore, 1) := by decide +kernel
theorem dX6_begins_21 : decode cX6_begins 21 = .ok (.iinc 1 1, 3) := by decide +kernel
theorem dX6_begins_24 : decode cX6_begins 24 = .ok (.goto (-22), 3) := by decide +kernel
theorem dX6_begins_27 : decode cX6_begins 27 = .ok (.return_, 1) := by decide +kernel
theorem dX6_acted_0 : decode cX6_acted 0 = .ok (.iload_n 1, 1) := by decide +kernel
theorem dX6_acted_1 : decode cX6_acted 1 = .ok (.ifCond .ge 32, 3) := by decide +kernel
theorem dX6_acted_4 : decode cX6_acted 4 = .ok (.iconst 0, 1) := by decide +kernel
theorem dX6_acted_5 : decode cX6_acted 5 = .ok (.istore_n 2, 1) := by decide +kernel
theorem dX6_acted_6 : decode cX6_acted 6 = .ok (.iload_n 2, 1) := by decide +kernel
theorem dX6_acted_7 : decode cX6_acted 7 = .ok (.sipush 218, 3) := by decide +kernel
theorem dX6_acted_10 : decode cX6_acted 10 = .ok (.if_icmp .ge 21, 3) := by decide +kernel
theorem dX6_acted_13 : decode cX6_acted 13 = .ok (.aload_n 0, 1) := by decide +kernel
theorem dX6_acted_14 : decode cX6_acted 14 = .ok (.getfield 7, 3) := by decide +kernel
theorem dX6_acted_17 : decode cX6_acted 17 = .ok (.iload_n 2, 1) := by decide +kernel
theorem dX6_acted_18 : decode cX6_acted 18 = .ok (.aload_n 0, 1) := by decide +kernel
theorem dX6_acted_19 : decode cX6_acted 19 = .ok (.getfield 13, 3) := by decide +kernel
theorem dX6_acted_22 : decode cX6_acted 22 = .ok (.iload_n 2, 1) := by decide +kernel
theorem dX6_acted_23 : decode cX6_acted 23 = .ok (.iaload, 1) := by decide +kernel
theorem dX6_acted_24 : decode cX6_acted 24 = .ok (.iastore, 1) := by decide +kernel
theorem dX6_acted_25 : decode cX6_acted 25 = .ok (.iinc 2 1, 3) := by decide +kernel
theorem dX6_acted_28 : decode cX6_acted 28 = .ok (.goto (-22), 3) := by decide +kernel
theorem dX6_acted_31 : decode cX6_acted 31 = .ok (.iload_n 1, 1) := by decide +kernel
theorem dX6_acted_32 : decode cX6_acted 32 = .ok (.ireturn, 1) := by decide +kernel
theorem dX6_acted_33 : decode cX6_acted 33 = .ok (.aload_n 0, 1) := by decide +kernel
theorem dX6_acted_34 : decode cX6_acted 34 = .ok (.getfield 31, 3) := by decide +kernel
theorem dX6_acted_37 : decode cX6_acted 37 = .ok (.iconst 4, 1) := by decide +kernel
theorem dX6_acted_38 : decode cX6_acted 38 = .ok (.if_icmp .ne 44, 3) := by decide +kernel
theorem dX6_acted_41 : decode cX6_acted 41 = .ok (.iconst 0, 1) := by decide +kernel
theorem dX6_acted_42 : decode cX6_acted 42 = .ok (.istore_n 2, 1) := by decide +kernel
theorem dX6_acted_43 : decode cX6_acted 43 = .ok (.iload_n 2, 1) := by decide +kernel
theorem dX6_acted_44 : decode cX6_acted 44 = .ok (.sipush 654, 3) := by decide +kernel
theorem dX6_acted_47 : decode cX6_acted 47 = .ok (.if_icmp .ge 25, 3) := by decide +kernel
theorem dX6_acted_50 : decode cX6_acted 50 = .ok (.aload_n 0, 1) := by decide +kernel
theorem dX6_acted_51 : decode cX6_acted 51 = .ok (.getfield 16, 3) := by decide +kernel
theorem dX6_acted_54 : decode cX6_acted 54 = .ok (.iload_n 2, 1) := by decide +kernel
theorem dX6_acted_55 : decode cX6_acted 55 = .ok (.aload_n 0, 1) := by decide +kernel
theorem dX6_acted_56 : decode cX6_acted 56 = .ok (.getfield 16, 3) := by decide +kernel
theorem dX6_acted_59 : decode cX6_acted 59 = .ok (.iload_n 2, 1) := by decide +kernel
theorem dX6_acted_60 : decode cX6_acted 60 = .ok (.sipush 218, 3) := by decide +kernel
theorem dX6_acted_63 : decode cX6_acted 63 = .ok (.iadd, 1) := by decide +kernel
theorem dX6_acted_64 : decode cX6_acted 64 = .ok (.iaload, 1) := by decide +kernel
theorem dX6_acted_65 : decode cX6_acted 65 = .ok (.iastore, 1) := by decide +kernel
theorem dX6_acted_66 : decode cX6_acted 66 = .ok (.iinc 2 1, 3) := by decide +kernel
theorem dX6_acted_69 : decode cX6_acted 69 = .ok (.goto (-26), 3) := by decide +kernel
theorem dX6_acted_72 : decode cX6_acted 72 = .ok (.aload_n 0, 1) := by decide +kernel
theorem dX6_acted_73 : decode cX6_acted 73 = .ok (.dup, 1) := by decide +kernel
theorem dX6_acted_74 : decode cX6_acted 74 = .ok (.getfield 31, 3) := by decide +kernel
theorem dX6_acted_77 : decode cX6_acted 77 = .ok (.iconst 1, 1) := by decide +kernel
theorem dX6_acted_78 : decode cX6_acted 78 = .ok (.isub, 1) := by decide +kernel
theorem dX6_acted_79 : decode cX6_acted 79 = .ok (.putfield 31, 3) := by decide +kernel
theorem dX6_acted_82 : decode cX6_acted 82 = .ok (.iconst 0, 1) := by decide +kernel
theorem dX6_acted_83 : decode cX6_acted 83 = .ok (.istore_n 2, 1) := by decide +kernel
theorem dX6_acted_84 : decode cX6_acted 84 = .ok (.iload_n 2, 1) := by decide +kernel
theorem dX6_acted_85 : decode cX6_acted 85 = .ok (.sipush 218, 3) := by decide +kernel
theorem dX6_acted_88 : decode cX6_acted 88 = .ok (.if_icmp .ge 30, 3) := by decide +kernel
theorem dX6_acted_91 : decode cX6_acted 91 = .ok (.aload_n 0, 1) := by decide +kernel
theorem dX6_acted_92 : decode cX6_acted 92 = .ok (.getfield 16, 3) := by decide +kernel
theorem dX6_acted_95 : decode cX6_acted 95 = .ok (.sipush 218, 3) := by decide +kernel
theorem dX6_acted_98 : decode cX6_acted 98 = .ok (.aload_n 0, 1) := by decide +kernel
theorem dX6_acted_99 : decode cX6_acted 99 = .ok (.getfield 31, 3) := by decide +kernel
theorem dX6_acted_102 : decode cX6_acted 102 = .ok (.imul, 1) := by decide +kernel
theorem dX6_acted_103 : decode cX6_acted 103 = .ok (.iload_n 2, 1) := by decide +kernel
theorem dX6_acted_104 : decode cX6_acted 104 = .ok (.iadd, 1) := by decide +kernel
theorem dX6_acted_105 : decode cX6_acted 105 = .ok (.aload_n 0, 1) := by decide +kernel
theorem dX6_acted_106 : decode cX6_acted 106 = .ok (.getfield 13, 3) := by decide +kernel
theorem dX6_acted_109 : decode cX6_acted 109 = .ok (.iload_n 2, 1) := by decide +kernel
theorem dX6_acted_110 : decode cX6_acted 110 = .ok (.iaload, 1) := by decide +kernel
theorem dX6_acted_111 : decode cX6_acted 111 = .ok (.iastore, 1) := by decide +kernel
theorem dX6_acted_112 : decode cX6_acted 112 = .ok (.iinc 2 1, 3) := by decide +kernel
theorem dX6_acted_115 : decode cX6_acted 115 = .ok (.goto (-31), 3) := by decide +kernel
theorem dX6_acted_118 : decode cX6_acted 118 = .ok (.aload_n 0, 1) := by decide +kernel
theorem dX6_acted_119 : decode cX6_acted 119 = .ok (.dup, 1) := by decide +kernel
theorem dX6_acted_120 : decode cX6_acted 120 = .ok (.getfield 31, 3) := by decide +kernel
theorem dX6_acted_123 : decode cX6_acted 123 = .ok (.iconst 1, 1) := by decide +kernel
theorem dX6_acted_124 : decode cX6_acted 124 = .ok (.iadd, 1) := by decide +kernel
theorem dX6_acted_125 : decode cX6_acted 125 = .ok (.putfield 31, 3) := by decide +kernel
theorem dX6_acted_128 : decode cX6_acted 128 = .ok (.iload_n 1, 1) := by decide +kernel
theorem dX6_acted_129 : decode cX6_acted 129 = .ok (.ireturn, 1) := by decide +kernel
theorem dX6_sign_0 : decode cX6_sign 0 = .ok (.aload_n 0, 1) := by decide +kernel
theorem dX6_sign_1 : decode cX6_sign 1 = .ok (.getfield 7, 3) := by decide +kernel
theorem dX6_sign_4 : decode cX6_sign 4 = .ok (.bipush 18, 2) := by decide +kernel
theorem dX6_sign_6 : decode cX6_sign 6 = .ok (.iconst 3, 1) := by decide +kernel
theorem dX6_sign_7 : decode cX6_sign 7 = .ok (.iload_n 1, 1) := by decide +kernel
theorem dX6_sign_8 : decode cX6_sign 8 = .ok (.imul, 1) := by decide +kernel
theorem dX6_sign_9 : decode cX6_sign 9 = .ok (.iadd, 1) := by decide +kernel
theorem dX6_sign_10 : decode cX6_sign 10 = .ok (.iaload, 1) := by decide +kernel
theorem dX6_sign_11 : decode cX6_sign 11 = .ok (.ireturn, 1) := by decide +kernel
theorem dX6_deep_0 : decode cX6_deep 0 = .ok (.aload_n 0, 1) := by decide +kernel
theorem dX6_deep_1 : decode cX6_deep 1 = .ok (.getfield 7, 3) := by decide +kernel
theorem dX6_deep_4 : decode cX6_deep 4 = .ok (.bipush 18, 2) := by decide +kernel
theorem dX6_deep_6 : decode cX6_deep 6 = .ok (.iconst 3, 1) := by decide +kernel
theorem dX6_deep_7 : decode cX6_deep 7 = .ok (.iload_n 1, 1) := by decide +kernel
theorem dX6_deep_8 : decode cX6_deep 8 = .ok (.imul, 1) := by decide +kernel
theorem dX6_deep_9 : decode cX6_deep 9 = .ok (.iadd, 1) := by decide +kernel
theorem dX6_deep_10 : decode cX6_deep 10 = .ok (.iconst 1, 1) := by decide +kernel
theorem dX6_deep_11 : decode cX6_deep 11 = .ok (.iadd, 1) := by decide +kernel
theorem dX6_deep_12 : decode cX6_deep 12 = .ok (.iaload, 1) := by decide +kernel
theorem dX6_deep_13 : decode cX6_deep 13 = .ok (.ireturn, 1) := by decide +kernel
theorem dX6_own_0 : decode cX6_own 0 = .ok (.aload_n 0, 1) := by decide +kernel
theorem dX6_own_1 : decode cX6_own 1 = .ok (.getfield 7, 3) := by decide +kernel
theorem dX6_own_4 : decode cX6_own 4 = .ok (.bipush 18, 2) := by decide +kernel
theorem dX6_own_6 : decode cX6_own 6 = .ok (.iconst 3, 1) := by decide +kernel
theorem dX6_own_7 : decode cX6_own 7 = .ok (.iload_n 1, 1) := by decide +kernel
theorem dX6_own_8 : decode cX6_own 8 = .ok (.imul, 1) := by decide +kernel
theorem dX6_own_9 : decode cX6_own 9 = .ok (.iadd, 1) := by decide +kernel
theorem dX6_own_10 : decode cX6_own 10 = .ok (.iconst 2, 1) := by decide +kernel
theorem dX6_own_11 : decode cX6_own 11 = .ok (.iadd, 1) := by decide +kernel
theorem dX6_own_12 : decode cX6_own 12 = .ok (.iaload, 1) := by decide +kernel
theorem dX6_own_13 : decode cX6_own 13 = .ok (.ireturn, 1) := by decide +kernel
theorem dX6_isNode_0 : decode cX6_isNode 0 = .ok (.iload_n 1, 1) := by decide +kernel
theorem dX6_isNode_1 : decode cX6_isNode 1 = .ok (.iconst 0, 1) := by decide +kernel
theorem dX6_isNode_2 : decode cX6_isNode 2 = .ok (.aload_n 0, 1) := by decide +kernel
theorem dX6_isNode_3 : decode cX6_isNode 3 = .ok (.getfield 7, 3) := by decide +kernel
theorem dX6_isNode_6 : decode cX6_isNode 6 = .ok (.iconst 0, 1) := by decide +kernel
theorem dX6_isNode_7 : decode cX6_isNode 7 = .ok (.iaload, 1) := by decide +kernel
theorem dX6_isNode_8 : decode cX6_isNode 8 = .ok (.iconst 1, 1) := by decide +kernel
theorem dX6_isNode_9 : decode cX6_isNode 9 = .ok (.isub, 1) := by decide +kernel
theorem dX6_isNode_10 : decode cX6_isNode 10 = .ok (.invokestatic 35, 3) := by decide +kernel
theorem dX6_isNode_13 : decode cX6_isNode 13 = .ok (.ireturn, 1) := by decide +kernel
theorem dX6_numberOf_0 : decode cX6_numberOf 0 = .ok (.iconst (-1), 1) := by decide +kernel
theorem dX6_numberOf_1 : decode cX6_numberOf 1 = .ok (.istore_n 2, 1) := by decide +kernel
theorem dX6_numberOf_2 : decode cX6_numberOf 2 = .ok (.iconst 0, 1) := by decide +kernel
theorem dX6_numberOf_3 : decode cX6_numberOf 3 = .ok (.istore_n 3, 1) := by decide +kernel
theorem dX6_numberOf_4 : decode cX6_numberOf 4 = .ok (.iload_n 3, 1) := by decide +kernel
theorem dX6_numberOf_5 : decode cX6_numberOf 5 = .ok (.aload_n 0, 1) := by decide +kernel
theorem dX6_numberOf_6 : decode cX6_numberOf 6 = .ok (.getfield 7, 3) := by decide +kernel
theorem dX6_numberOf_9 : decode cX6_numberOf 9 = .ok (.iconst 0, 1) := by decide +kernel
theorem dX6_numberOf_10 : decode cX6_numberOf 10 = .ok (.iaload, 1) := by decide +kernel
theorem dX6_numberOf_11 : decode cX6_numberOf 11 = .ok (.if_icmp .ge 24, 3) := by decide +kernel
theorem dX6_numberOf_14 : decode cX6_numberOf 14 = .ok (.aload_n 0, 1) := by decide +kernel
theorem dX6_numberOf_15 : decode cX6_numberOf 15 = .ok (.iload_n 3, 1) := by decide +kernel
theorem dX6_numberOf_16 : decode cX6_numberOf 16 = .ok (.invokevirtual 39, 3) := by decide +kernel
theorem dX6_numberOf_19 : decode cX6_numberOf 19 = .ok (.iload_n 1, 1) := by decide +kernel
theorem dX6_numberOf_20 : decode cX6_numberOf 20 = .ok (.if_icmp .ne 7, 3) := by decide +kernel
theorem dX6_numberOf_23 : decode cX6_numberOf 23 = .ok (.iload_n 3, 1) := by decide +kernel
theorem dX6_numberOf_24 : decode cX6_numberOf 24 = .ok (.goto 4, 3) := by decide +kernel
theorem dX6_numberOf_27 : decode cX6_numberOf 27 = .ok (.iload_n 2, 1) := by decide +kernel
theorem dX6_numberOf_28 : decode cX6_numberOf 28 = .ok (.istore_n 2, 1) := by decide +kernel
theorem dX6_numberOf_29 : decode cX6_numberOf 29 = .ok (.iinc 3 1, 3) := by decide +kernel
theorem dX6_numberOf_32 : decode cX6_numberOf 32 = .ok (.goto (-28), 3) := by decide +kernel
theorem dX6_numberOf_35 : decode cX6_numberOf 35 = .ok (.iload_n 2, 1) := by decide +kernel
theorem dX6_numberOf_36 : decode cX6_numberOf 36 = .ok (.ireturn, 1) := by decide +kernel
theorem dX6_place_0 : decode cX6_place 0 = .ok (.aload_n 0, 1) := by decide +kernel
theorem dX6_place_1 : decode cX6_place 1 = .ok (.aload_n 0, 1) := by decide +kernel
theorem dX6_place_2 : decode cX6_place 2 = .ok (.getfield 7, 3) := by decide +kernel
theorem dX6_place_5 : decode cX6_place 5 = .ok (.iconst 2, 1) := by decide +kernel
theorem dX6_place_6 : decode cX6_place 6 = .ok (.iaload, 1) := by decide +kernel
theorem dX6_place_7 : decode cX6_place 7 = .ok (.invokevirtual 43, 3) := by decide +kernel
theorem dX6_place_10 : decode cX6_place 10 = .ok (.ireturn, 1) := by decide +kernel
theorem dX6_end_0 : decode cX6_end 0 = .ok (.iload_n 1, 1) := by decide +kernel
theorem dX6_end_1 : decode cX6_end 1 = .ok (.iconst 1, 1) := by decide +kernel
theorem dX6_end_2 : decode cX6_end 2 = .ok (.iadd, 1) := by decide +kernel
theorem dX6_end_3 : decode cX6_end 3 = .ok (.istore_n 2, 1) := by decide +kernel
theorem dX6_end_4 : decode cX6_end 4 = .ok (.iload_n 2, 1) := by decide +kernel
theorem dX6_end_5 : decode cX6_end 5 = .ok (.aload_n 0, 1) := by decide +kernel
theorem dX6_end_6 : decode cX6_end 6 = .ok (.getfield 7, 3) := by decide +kernel
theorem dX6_end_9 : decode cX6_end 9 = .ok (.iconst 0, 1) := by decide +kernel
theorem dX6_end_10 : decode cX6_end 10 = .ok (.iaload, 1) := by decide +kernel
theorem dX6_end_11 : decode cX6_end 11 = .ok (.if_icmp .ge 22, 3) := by decide +kernel
theorem dX6_end_14 : decode cX6_end 14 = .ok (.aload_n 0, 1) := by decide +kernel
theorem dX6_end_15 : decode cX6_end 15 = .ok (.iload_n 2, 1) := by decide +kernel
theorem dX6_end_16 : decode cX6_end 16 = .ok (.invokevirtual 46, 3) := by decide +kernel
theorem dX6_end_19 : decode cX6_end 19 = .ok (.aload_n 0, 1) := by decide +kernel
theorem dX6_end_20 : decode cX6_end 20 = .ok (.iload_n 1, 1) := by decide +kernel
theorem dX6_end_21 : decode cX6_end 21 = .ok (.invokevirtual 46, 3) := by decide +kernel
theorem dX6_end_24 : decode cX6_end 24 = .ok (.if_icmp .le 9, 3) := by decide +kernel
theorem dX6_end_27 : decode cX6_end 27 = .ok (.iinc 2 1, 3) := by decide +kernel
theorem dX6_end_30 : decode cX6_end 30 = .ok (.goto (-26), 3) := by decide +kernel
theorem dX6_end_33 : decode cX6_end 33 = .ok (.iload_n 2, 1) := by decide +kernel
theorem dX6_end_34 : decode cX6_end 34 = .ok (.ireturn, 1) := by decide +kernel
theorem dX6_above_0 : decode cX6_above 0 = .ok (.iload_n 1, 1) := by decide +kernel
theorem dX6_above_1 : decode cX6_above 1 = .ok (.iconst 1, 1) := by decide +kernel
theorem dX6_above_2 : decode cX6_above 2 = .ok (.isub, 1) := by decide +kernel
theorem dX6_above_3 : decode cX6_above 3 = .ok (.istore_n 2, 1) := by decide +kernel
theorem dX6_above_4 : decode cX6_above 4 = .ok (.iload_n 2, 1) := by decide +kernel
theorem dX6_above_5 : decode cX6_above 5 = .ok (.ifCond .lt 22, 3) := by decide +kernel
theorem dX6_above_8 : decode cX6_above 8 = .ok (.aload_n 0, 1) := by decide +kernel
theorem dX6_above_9 : decode cX6_above 9 = .ok (.iload_n 2, 1) := by decide +kernel
theorem dX6_above_10 : decode cX6_above 10 = .ok (.invokevirtual 46, 3) := by decide +kernel
theorem dX6_above_13 : decode cX6_above 13 = .ok (.aload_n 0, 1) := by decide +kernel
theorem dX6_above_14 : decode cX6_above 14 = .ok (.iload_n 1, 1) := by decide +kernel
theorem dX6_above_15 : decode cX6_above 15 = .ok (.invokevirtual 46, 3) := by decide +kernel
theorem dX6_above_18 : decode cX6_above 18 = .ok (.if_icmp .lt 9, 3) := by decide +kernel
theorem dX6_above_21 : decode cX6_above 21 = .ok (.iinc 2 (-1), 3) := by decide +kernel
theorem dX6_above_24 : decode cX6_above 24 = .ok (.goto (-20), 3) := by decide +kernel
theorem dX6_above_27 : decode cX6_above 27 = .ok (.iload_n 2, 1) := by decide +kernel
theorem dX6_above_28 : decode cX6_above 28 = .ok (.ireturn, 1) := by decide +kernel
theorem dX6_children_0 : decode cX6_children 0 = .ok (.iconst 0, 1) := by decide +kernel
theorem dX6_children_1 : decode cX6_children 1 = .ok (.istore_n 2, 1) := by decide +kernel
theorem dX6_children_2 : decode cX6_children 2 = .ok (.iload_n 1, 1) := by decide +kernel
theorem dX6_children_3 : decode cX6_children 3 = .ok (.iconst 1, 1) := by decide +kernel
theorem dX6_children_4 : decode cX6_children 4 = .ok (.iadd, 1) := by decide +kernel
theorem dX6_children_5 : decode cX6_children 5 = .ok (.istore_n 3, 1) := by decide +kernel
theorem dX6_children_6 : decode cX6_children 6 = .ok (.iload_n 3, 1) := by decide +kernel
theorem dX6_children_7 : decode cX6_children 7 = .ok (.aload_n 0, 1) := by decide +kernel
theorem dX6_children_8 : decode cX6_children 8 = .ok (.iload_n 1, 1) := by decide +kernel
theorem dX6_children_9 : decode cX6_children 9 = .ok (.invokevirtual 49, 3) := by decide +kernel
theorem dX6_children_12 : decode cX6_children 12 = .ok (.if_icmp .ge 32, 3) := by decide +kernel
theorem dX6_children_15 : decode cX6_children 15 = .ok (.iload_n 2, 1) := by decide +kernel
theorem dX6_children_16 : decode cX6_children 16 = .ok (.aload_n 0, 1) := by decide +kernel
theorem dX6_children_17 : decode cX6_children 17 = .ok (.iload_n 3, 1) := by decide +kernel
theorem dX6_children_18 : decode cX6_children 18 = .ok (.invokevirtual 46, 3) := by decide +kernel
theorem dX6_children_21 : decode cX6_children 21 = .ok (.aload_n 0, 1) := by decide +kernel
theorem dX6_children_22 : decode cX6_children 22 = .ok (.iload_n 1, 1) := by decide +kernel
theorem dX6_children_23 : decode cX6_children 23 = .ok (.invokevirtual 46, 3) := by decide +kernel
theorem dX6_children_26 : decode cX6_children 26 = .ok (.iconst 1, 1) := by decide +kernel
theorem dX6_children_27 : decode cX6_children 27 = .ok (.iadd, 1) := by decide +kernel
theorem dX6_children_28 : decode cX6_children 28 = .ok (.if_icmp .ne 7, 3) := by decide +kernel
theorem dX6_children_31 : decode cX6_children 31 = .ok (.iconst 1, 1) := by decide +kernel
theorem dX6_children_32 : decode cX6_children 32 = .ok (.goto 4, 3) := by decide +kernel
theorem dX6_children_35 : decode cX6_children 35 = .ok (.iconst 0, 1) := by decide +kernel
theorem dX6_children_36 : decode cX6_children 36 = .ok (.iadd, 1) := by decide +kernel
theorem dX6_children_37 : decode cX6_children 37 = .ok (.istore_n 2, 1) := by decide +kernel
theorem dX6_children_38 : decode cX6_children 38 = .ok (.iinc 3 1, 3) := by decide +kernel
theorem dX6_children_41 : decode cX6_children 41 = .ok (.goto (-35), 3) := by decide +kernel
theorem dX6_children_44 : decode cX6_children 44 = .ok (.iload_n 2, 1) := by decide +kernel
theorem dX6_children_45 : decode cX6_children 45 = .ok (.ireturn, 1) := by decide +kernel
theorem dX6_childOf_0 : decode cX6_childOf 0 = .ok (.iload_n 1, 1) := by decide +kernel
theorem dX6_childOf_1 : decode cX6_childOf 1 = .ok (.iconst 1, 1) := by decide +kernel
theorem dX6_childOf_2 : decode cX6_childOf 2 = .ok (.iadd, 1) := by decide +kernel
theorem dX6_childOf_3 : decode cX6_childOf 3 = .ok (.istore_n 3, 1) := by decide +kernel
theorem dX6_childOf_4 : decode cX6_childOf 4 = .ok (.iconst 0, 1) := by decide +kernel
theorem dX6_childOf_5 : decode cX6_childOf 5 = .ok (.istore 4, 2) := by decide +kernel
theorem dX6_childOf_7 : decode cX6_childOf 7 = .ok (.iload 4, 2) := by decide +kernel
theorem dX6_childOf_9 : decode cX6_childOf 9 = .ok (.iload_n 2, 1) := by decide +kernel
theorem dX6_childOf_10 : decode cX6_childOf 10 = .ok (.if_icmp .ge 15, 3) := by decide +kernel
theorem dX6_childOf_13 : decode cX6_childOf 13 = .ok (.aload_n 0, 1) := by decide +kernel
theorem dX6_childOf_14 : decode cX6_childOf 14 = .ok (.iload_n 3, 1) := by decide +kernel
theorem dX6_childOf_15 : decode cX6_childOf 15 = .ok (.invokevirtual 49, 3) := by decide +kernel
theorem dX6_childOf_18 : decode cX6_childOf 18 = .ok (.istore_n 3, 1) := by decide +kernel
theorem dX6_childOf_19 : decode cX6_childOf 19 = .ok (.iinc 4 1, 3) := by decide +kernel
theorem dX6_childOf_22 : decode cX6_childOf 22 = .ok (.goto (-15), 3) := by decide +kernel
theorem dX6_childOf_25 : decode cX6_childOf 25 = .ok (.iload_n 3, 1) := by decide +kernel
theorem dX6_childOf_26 : decode cX6_childOf 26 = .ok (.ireturn, 1) := by decide +kernel
theorem dX6_which_0 : decode cX6_which 0 = .ok (.iconst 0, 1) := by decide +kernel
theorem dX6_which_1 : decode cX6_which 1 = .ok (.istore_n 2, 1) := by decide +kernel
theorem dX6_which_2 : decode cX6_which 2 = .ok (.aload_n 0, 1) := by decide +kernel
theorem dX6_which_3 : decode cX6_which 3 = .ok (.iload_n 1, 1) := by decide +kernel
theorem dX6_which_4 : decode cX6_which 4 = .ok (.invokevirtual 52, 3) := by decide +kernel
theorem dX6_which_7 : decode cX6_which 7 = .ok (.iconst 1, 1) := by decide +kernel
theorem dX6_which_8 : decode cX6_which 8 = .ok (.iadd, 1) := by decide +kernel
theorem dX6_which_9 : decode cX6_which 9 = .ok (.istore_n 3, 1) := by decide +kernel
theorem dX6_which_10 : decode cX6_which 10 = .ok (.iload_n 3, 1) := by decide +kernel
theorem dX6_which_11 : decode cX6_which 11 = .ok (.iload_n 1, 1) := by decide +kernel
theorem dX6_which_12 : decode cX6_which 12 = .ok (.if_icmp .ge 30, 3) := by decide +kernel
theorem dX6_which_15 : decode cX6_which 15 = .ok (.iload_n 2, 1) := by decide +kernel
theorem dX6_which_16 : decode cX6_which 16 = .ok (.aload_n 0, 1) := by decide +kernel
theorem dX6_which_17 : decode cX6_which 17 = .ok (.iload_n 3, 1) := by decide +kernel
theorem dX6_which_18 : decode cX6_which 18 = .ok (.invokevirtual 46, 3) := by decide +kernel
theorem dX6_which_21 : decode cX6_which 21 = .ok (.aload_n 0, 1) := by decide +kernel
theorem dX6_which_22 : decode cX6_which 22 = .ok (.iload_n 1, 1) := by decide +kernel
theorem dX6_which_23 : decode cX6_which 23 = .ok (.invokevirtual 46, 3) := by decide +kernel
theorem dX6_which_26 : decode cX6_which 26 = .ok (.if_icmp .ne 7, 3) := by decide +kernel
theorem dX6_which_29 : decode cX6_which 29 = .ok (.iconst 1, 1) := by decide +kernel
theorem dX6_which_30 : decode cX6_which 30 = .ok (.goto 4, 3) := by decide +kernel
theorem dX6_which_33 : decode cX6_which 33 = .ok (.iconst 0, 1) := by decide +kernel
theorem dX6_which_34 : decode cX6_which 34 = .ok (.iadd, 1) := by decide +kernel
theorem dX6_which_35 : decode cX6_which 35 = .ok (.istore_n 2, 1) := by decide +kernel
theorem dX6_which_36 : decode cX6_which 36 = .ok (.iinc 3 1, 3) := by decide +kernel
theorem dX6_which_39 : decode cX6_which 39 = .ok (.goto (-29), 3) := by decide +kernel
theorem dX6_which_42 : decode cX6_which 42 = .ok (.iload_n 2, 1) := by decide +kernel
theorem dX6_which_43 : decode cX6_which 43 = .ok (.ireturn, 1) := by decide +kernel
theorem dX6_besides_0 : decode cX6_besides 0 = .ok (.iload_n 2, 1) := by decide +kernel
theorem dX6_besides_1 : decode cX6_besides 1 = .ok (.ifCond .eq 38, 3) := by decide +kernel
theorem dX6_besides_4 : decode cX6_besides 4 = .ok (.aload_n 0, 1) := by decide +kernel
theorem dX6_besides_5 : decode cX6_besides 5 = .ok (.iload_n 1, 1) := by decide +kernel
theorem dX6_besides_6 : decode cX6_besides 6 = .ok (.invokevirtual 49, 3) := by decide +kernel
theorem dX6_besides_9 : decode cX6_besides 9 = .ok (.istore_n 3, 1) := by decide +kernel
theorem dX6_besides_10 : decode cX6_besides 10 = .ok (.iload_n 3, 1) := by decide +kernel
theorem dX6_besides_11 : decode cX6_besides 11 = .ok (.aload_n 0, 1) := by decide +kernel
theorem dX6_besides_12 : decode cX6_besides 12 = .ok (.getfield 7, 3) := by decide +kernel
theorem dX6_besides_15 : decode cX6_besides 15 = .ok (.iconst 0, 1) := by decide +kernel
theorem dX6_besides_16 : decode cX6_besides 16 = .ok (.iaload, 1) := by decide +kernel
theorem dX6_besides_17 : decode cX6_besides 17 = .ok (.if_icmp .ge 20, 3) := by decide +kernel
theorem dX6_besides_20 : decode cX6_besides 20 = .ok (.aload_n 0, 1) := by decide +kernel
theorem dX6_besides_21 : decode cX6_besides 21 = .ok (.iload_n 3, 1) := by decide +kernel
theorem dX6_besides_22 : decode cX6_besides 22 = .ok (.invokevirtual 46, 3) := by decide +kernel
theorem dX6_besides_25 : decode cX6_besides 25 = .ok (.aload_n 0, 1) := by decide +kernel
theorem dX6_besides_26 : decode cX6_besides 26 = .ok (.iload_n 1, 1) := by decide +kernel
theorem dX6_besides_27 : decode cX6_besides 27 = .ok (.invokevirtual 46, 3) := by decide +kernel
theorem dX6_besides_30 : decode cX6_besides 30 = .ok (.if_icmp .ne 7, 3) := by decide +kernel
theorem dX6_besides_33 : decode cX6_besides 33 = .ok (.iload_n 3, 1) := by decide +kernel
theorem dX6_besides_34 : decode cX6_besides 34 = .ok (.goto 4, 3) := by decide +kernel
theorem dX6_besides_37 : decode cX6_besides 37 = .ok (.iconst (-1), 1) := by decide +kernel
theorem dX6_besides_38 : decode cX6_besides 38 = .ok (.ireturn, 1) := by decide +kernel
theorem dX6_besides_39 : decode cX6_besides 39 = .ok (.iconst (-1), 1) := by decide +kernel
theorem dX6_besides_40 : decode cX6_besides 40 = .ok (.istore_n 3, 1) := by decide +kernel
theorem dX6_besides_41 : decode cX6_besides 41 = .ok (.aload_n 0, 1) := by decide +kernel
theorem dX6_besides_42 : decode cX6_besides 42 = .ok (.iload_n 1, 1) := by decide +kernel
theorem dX6_besides_43 : decode cX6_besides 43 = .ok (.invokevirtual 52, 3) := by decide +kernel
theorem dX6_besides_46 : decode cX6_besides 46 = .ok (.iconst 1, 1) := by decide +kernel
theorem dX6_besides_47 : decode cX6_besides 47 = .ok (.iadd, 1) := by decide +kernel
theorem dX6_besides_48 : decode cX6_besides 48 = .ok (.istore 4, 2) := by decide +kernel
theorem dX6_besides_50 : decode cX6_besides 50 = .ok (.iload 4, 2) := by decide +kernel
theorem dX6_besides_52 : decode cX6_besides 52 = .ok (.iload_n 1, 1) := by decide +kernel
theorem dX6_besides_53 : decode cX6_besides 53 = .ok (.if_icmp .ge 30, 3) := by decide +kernel
theorem dX6_besides_56 : decode cX6_besides 56 = .ok (.aload_n 0, 1) := by decide +kernel
theorem dX6_besides_57 : decode cX6_besides 57 = .ok (.iload 4, 2) := by decide +kernel
theorem dX6_besides_59 : decode cX6_besides 59 = .ok (.invokevirtual 46, 3) := by decide +kernel
theorem dX6_besides_62 : decode cX6_besides 62 = .ok (.aload_n 0, 1) := by decide +kernel
theorem dX6_besides_63 : decode cX6_besides 63 = .ok (.iload_n 1, 1) := by decide +kernel
theorem dX6_besides_64 : decode cX6_besides 64 = .ok (.invokevirtual 46, 3) := by decide +kernel
theorem dX6_besides_67 : decode cX6_besides 67 = .ok (.if_icmp .ne 8, 3) := by decide +kernel
theorem dX6_besides_70 : decode cX6_besides 70 = .ok (.iload 4, 2) := by decide +kernel
theorem dX6_besides_72 : decode cX6_besides 72 = .ok (.goto 4, 3) := by decide +kernel
theorem dX6_besides_75 : decode cX6_besides 75 = .ok (.iload_n 3, 1) := by decide +kernel
theorem dX6_besides_76 : decode cX6_besides 76 = .ok (.istore_n 3, 1) := by decide +kernel
theorem dX6_besides_77 : decode cX6_besides 77 = .ok (.iinc 4 1, 3) := by decide +kernel
theorem dX6_besides_80 : decode cX6_besides 80 = .ok (.goto (-30), 3) := by decide +kernel
theorem dX6_besides_83 : decode cX6_besides 83 = .ok (.iload_n 3, 1) := by decide +kernel
theorem dX6_besides_84 : decode cX6_besides 84 = .ok (.ireturn, 1) := by decide +kernel
theorem dX6_height_0 : decode cX6_height 0 = .ok (.iconst 0, 1) := by decide +kernel
theorem dX6_height_1 : decode cX6_height 1 = .ok (.istore_n 2, 1) := by decide +kernel
theorem dX6_height_2 : decode cX6_height 2 = .ok (.iload_n 1, 1) := by decide +kernel
theorem dX6_height_3 : decode cX6_height 3 = .ok (.istore_n 3, 1) := by decide +kernel
theorem dX6_height_4 : decode cX6_height 4 = .ok (.iload_n 3, 1) := by decide +kernel
theorem dX6_height_5 : decode cX6_height 5 = .ok (.aload_n 0, 1) := by decide +kernel
theorem dX6_height_6 : decode cX6_height 6 = .ok (.iload_n 1, 1) := by decide +kernel
theorem dX6_height_7 : decode cX6_height 7 = .ok (.invokevirtual 49, 3) := by decide +kernel
theorem dX6_height_10 : decode cX6_height 10 = .ok (.if_icmp .ge 40, 3) := by decide +kernel
theorem dX6_height_13 : decode cX6_height 13 = .ok (.aload_n 0, 1) := by decide +kernel
theorem dX6_height_14 : decode cX6_height 14 = .ok (.iload_n 3, 1) := by decide +kernel
theorem dX6_height_15 : decode cX6_height 15 = .ok (.invokevirtual 46, 3) := by decide +kernel
theorem dX6_height_18 : decode cX6_height 18 = .ok (.aload_n 0, 1) := by decide +kernel
theorem dX6_height_19 : decode cX6_height 19 = .ok (.iload_n 1, 1) := by decide +kernel
theorem dX6_height_20 : decode cX6_height 20 = .ok (.invokevirtual 46, 3) := by decide +kernel
theorem dX6_height_23 : decode cX6_height 23 = .ok (.isub, 1) := by decide +kernel
theorem dX6_height_24 : decode cX6_height 24 = .ok (.iload_n 2, 1) := by decide +kernel
theorem dX6_height_25 : decode cX6_height 25 = .ok (.if_icmp .le 17, 3) := by decide +kernel
theorem dX6_height_28 : decode cX6_height 28 = .ok (.aload_n 0, 1) := by decide +kernel
theorem dX6_height_29 : decode cX6_height 29 = .ok (.iload_n 3, 1) := by decide +kernel
theorem dX6_height_30 : decode cX6_height 30 = .ok (.invokevirtual 46, 3) := by decide +kernel
theorem dX6_height_33 : decode cX6_height 33 = .ok (.aload_n 0, 1) := by decide +kernel
theorem dX6_height_34 : decode cX6_height 34 = .ok (.iload_n 1, 1) := by decide +kernel
theorem dX6_height_35 : decode cX6_height 35 = .ok (.invokevirtual 46, 3) := by decide +kernel
theorem dX6_height_38 : decode cX6_height 38 = .ok (.isub, 1) := by decide +kernel
theorem dX6_height_39 : decode cX6_height 39 = .ok (.goto 4, 3) := by decide +kernel
theorem dX6_height_42 : decode cX6_height 42 = .ok (.iload_n 2, 1) := by decide +kernel
theorem dX6_height_43 : decode cX6_height 43 = .ok (.istore_n 2, 1) := by decide +kernel
theorem dX6_height_44 : decode cX6_height 44 = .ok (.iinc 3 1, 3) := by decide +kernel
theorem dX6_height_47 : decode cX6_height 47 = .ok (.goto (-43), 3) := by decide +kernel
theorem dX6_height_50 : decode cX6_height 50 = .ok (.iload_n 2, 1) := by decide +kernel
theorem dX6_height_51 : decode cX6_height 51 = .ok (.ireturn, 1) := by decide +kernel
theorem dX6_opens_0 : decode cX6_opens 0 = .ok (.iconst 3, 1) := by decide +kernel
theorem dX6_opens_1 : decode cX6_opens 1 = .ok (.aload_n 0, 1) := by decide +kernel
theorem dX6_opens_2 : decode cX6_opens 2 = .ok (.getfield 7, 3) := by decide +kernel
theorem dX6_opens_5 : decode cX6_opens 5 = .ok (.iconst 0, 1) := by decide +kernel
theorem dX6_opens_6 : decode cX6_opens 6 = .ok (.iaload, 1) := by decide +kernel
theorem dX6_opens_7 : decode cX6_opens 7 = .ok (.imul, 1) := by decide +kernel
theorem dX6_opens_8 : decode cX6_opens 8 = .ok (.iconst 1, 1) := by decide +kernel
theorem dX6_opens_9 : decode cX6_opens 9 = .ok (.isub, 1) := by decide +kernel
theorem dX6_opens_10 : decode cX6_opens 10 = .ok (.istore_n 3, 1) := by decide +kernel
theorem dX6_opens_11 : decode cX6_opens 11 = .ok (.iload_n 3, 1) := by decide +kernel
theorem dX6_opens_12 : decode cX6_opens 12 = .ok (.iconst 3, 1) := by decide +kernel
theorem dX6_opens_13 : decode cX6_opens 13 = .ok (.iload_n 1, 1) := by decide +kernel
theorem dX6_opens_14 : decode cX6_opens 14 = .ok (.imul, 1) := by decide +kernel
theorem dX6_opens_15 : decode cX6_opens 15 = .ok (.if_icmp .lt 31, 3) := by decide +kernel
theorem dX6_opens_18 : decode cX6_opens 18 = .ok (.aload_n 0, 1) := by decide +kernel
theorem dX6_opens_19 : decode cX6_opens 19 = .ok (.getfield 7, 3) := by decide +kernel
theorem dX6_opens_22 : decode cX6_opens 22 = .ok (.bipush 18, 2) := by decide +kernel
theorem dX6_opens_24 : decode cX6_opens 24 = .ok (.iload_n 3, 1) := by decide +kernel
theorem dX6_opens_25 : decode cX6_opens 25 = .ok (.iadd, 1) := by decide +kernel
theorem dX6_opens_26 : decode cX6_opens 26 = .ok (.iconst 3, 1) := by decide +kernel
theorem dX6_opens_27 : decode cX6_opens 27 = .ok (.iload_n 2, 1) := by decide +kernel
theorem dX6_opens_28 : decode cX6_opens 28 = .ok (.imul, 1) := by decide +kernel
theorem dX6_opens_29 : decode cX6_opens 29 = .ok (.iadd, 1) := by decide +kernel
theorem dX6_opens_30 : decode cX6_opens 30 = .ok (.aload_n 0, 1) := by decide +kernel
theorem dX6_opens_31 : decode cX6_opens 31 = .ok (.getfield 7, 3) := by decide +kernel
theorem dX6_opens_34 : decode cX6_opens 34 = .ok (.bipush 18, 2) := by decide +kernel
theorem dX6_opens_36 : decode cX6_opens 36 = .ok (.iload_n 3, 1) := by decide +kernel
theorem dX6_opens_37 : decode cX6_opens 37 = .ok (.iadd, 1) := by decide +kernel
theorem dX6_opens_38 : decode cX6_opens 38 = .ok (.iaload, 1) := by decide +kernel
theorem dX6_opens_39 : decode cX6_opens 39 = .ok (.iastore, 1) := by decide +kernel
theorem dX6_opens_40 : decode cX6_opens 40 = .ok (.iinc 3 (-1), 3) := by decide +kernel
theorem dX6_opens_43 : decode cX6_opens 43 = .ok (.goto (-32), 3) := by decide +kernel
theorem dX6_opens_46 : decode cX6_opens 46 = .ok (.aload_n 0, 1) := by decide +kernel
theorem dX6_opens_47 : decode cX6_opens 47 = .ok (.getfield 7, 3) := by decide +kernel
theorem dX6_opens_50 : decode cX6_opens 50 = .ok (.iconst 0, 1) := by decide +kernel
theorem dX6_opens_51 : decode cX6_opens 51 = .ok (.dup2, 1) := by decide +kernel
theorem dX6_opens_52 : decode cX6_opens 52 = .ok (.iaload, 1) := by decide +kernel
theorem dX6_opens_53 : decode cX6_opens 53 = .ok (.iload_n 2, 1) := by decide +kernel
theorem dX6_opens_54 : decode cX6_opens 54 = .ok (.iadd, 1) := by decide +kernel
theorem dX6_opens_55 : decode cX6_opens 55 = .ok (.iastore, 1) := by decide +kernel
theorem dX6_opens_56 : decode cX6_opens 56 = .ok (.return_, 1) := by decide +kernel
theorem dX6_closes_0 : decode cX6_closes 0 = .ok (.aload_n 0, 1) := by decide +kernel
theorem dX6_closes_1 : decode cX6_closes 1 = .ok (.getfield 7, 3) := by decide +kernel
theorem dX6_closes_4 : decode cX6_closes 4 = .ok (.iconst 0, 1) := by decide +kernel
theorem dX6_closes_5 : decode cX6_closes 5 = .ok (.dup2, 1) := by decide +kernel
theorem dX6_closes_6 : decode cX6_closes 6 = .ok (.iaload, 1) := by decide +kernel
theorem dX6_closes_7 : decode cX6_closes 7 = .ok (.iload_n 2, 1) := by decide +kernel
theorem dX6_closes_8 : decode cX6_closes 8 = .ok (.isub, 1) := by decide +kernel
theorem dX6_closes_9 : decode cX6_closes 9 = .ok (.iastore, 1) := by decide +kernel
theorem dX6_closes_10 : decode cX6_closes 10 = .ok (.iconst 3, 1) := by decide +kernel
theorem dX6_closes_11 : decode cX6_closes 11 = .ok (.iload_n 1, 1) := by decide +kernel
theorem dX6_closes_12 : decode cX6_closes 12 = .ok (.imul, 1) := by decide +kernel
theorem dX6_closes_13 : decode cX6_closes 13 = .ok (.istore_n 3, 1) := by decide +kernel
theorem dX6_closes_14 : decode cX6_closes 14 = .ok (.iload_n 3, 1) := by decide +kernel
theorem dX6_closes_15 : decode cX6_closes 15 = .ok (.iconst 3, 1) := by decide +kernel
theorem dX6_closes_16 : decode cX6_closes 16 = .ok (.aload_n 0, 1) := by decide +kernel
theorem dX6_closes_17 : decode cX6_closes 17 = .ok (.getfield 7, 3) := by decide +kernel
theorem dX6_closes_20 : decode cX6_closes 20 = .ok (.iconst 0, 1) := by decide +kernel
theorem dX6_closes_21 : decode cX6_closes 21 = .ok (.iaload, 1) := by decide +kernel
theorem dX6_closes_22 : decode cX6_closes 22 = .ok (.imul, 1) := by decide +kernel
theorem dX6_closes_23 : decode cX6_closes 23 = .ok (.if_icmp .ge 31, 3) := by decide +kernel
theorem dX6_closes_26 : decode cX6_closes 26 = .ok (.aload_n 0, 1) := by decide +kernel
theorem dX6_closes_27 : decode cX6_closes 27 = .ok (.getfield 7, 3) := by decide +kernel
theorem dX6_closes_30 : decode cX6_closes 30 = .ok (.bipush 18, 2) := by decide +kernel
theorem dX6_closes_32 : decode cX6_closes 32 = .ok (.iload_n 3, 1) := by decide +kernel
theorem dX6_closes_33 : decode cX6_closes 33 = .ok (.iadd, 1) := by decide +kernel
theorem dX6_closes_34 : decode cX6_closes 34 = .ok (.aload_n 0, 1) := by decide +kernel
theorem dX6_closes_35 : decode cX6_closes 35 = .ok (.getfield 7, 3) := by decide +kernel
theorem dX6_closes_38 : decode cX6_closes 38 = .ok (.bipush 18, 2) := by decide +kernel
theorem dX6_closes_40 : decode cX6_closes 40 = .ok (.iload_n 3, 1) := by decide +kernel
theorem dX6_closes_41 : decode cX6_closes 41 = .ok (.iadd, 1) := by decide +kernel
theorem dX6_closes_42 : decode cX6_closes 42 = .ok (.iconst 3, 1) := by decide +kernel
theorem dX6_closes_43 : decode cX6_closes 43 = .ok (.iload_n 2, 1) := by decide +kernel
theorem dX6_closes_44 : decode cX6_closes 44 = .ok (.imul, 1) := by decide +kernel
theorem dX6_closes_45 : decode cX6_closes 45 = .ok (.iadd, 1) := by decide +kernel
theorem dX6_closes_46 : decode cX6_closes 46 = .ok (.iaload, 1) := by decide +kernel
theorem dX6_closes_47 : decode cX6_closes 47 = .ok (.iastore, 1) := by decide +kernel
theorem dX6_closes_48 : decode cX6_closes 48 = .ok (.iinc 3 1, 3) := by decide +kernel
theorem dX6_closes_51 : decode cX6_closes 51 = .ok (.goto (-37), 3) := by decide +kernel
theorem dX6_closes_54 : decode cX6_closes 54 = .ok (.return_, 1) := by decide +kernel
theorem dX6_lays_0 : decode cX6_lays 0 = .ok (.aload_n 0, 1) := by decide +kernel
theorem dX6_lays_1 : decode cX6_lays 1 = .ok (.getfield 7, 3) := by decide +kernel
theorem dX6_lays_4 : decode cX6_lays 4 = .ok (.bipush 18, 2) := by decide +kernel
theorem dX6_lays_6 : decode cX6_lays 6 = .ok (.iconst 3, 1) := by decide +kernel
theorem dX6_lays_7 : decode cX6_lays 7 = .ok (.iload_n 1, 1) := by decide +kernel
theorem dX6_lays_8 : decode cX6_lays 8 = .ok (.imul, 1) := by decide +kernel
theorem dX6_lays_9 : decode cX6_lays 9 = .ok (.iadd, 1) := by decide +kernel
theorem dX6_lays_10 : decode cX6_lays 10 = .ok (.iload_n 2, 1) := by decide +kernel
theorem dX6_lays_11 : decode cX6_lays 11 = .ok (.iastore, 1) := by decide +kernel
theorem dX6_lays_12 : decode cX6_lays 12 = .ok (.aload_n 0, 1) := by decide +kernel
theorem dX6_lays_13 : decode cX6_lays 13 = .ok (.getfield 7, 3) := by decide +kernel
theorem dX6_lays_16 : decode cX6_lays 16 = .ok (.bipush 18, 2) := by decide +kernel
theorem dX6_lays_18 : decode cX6_lays 18 = .ok (.iconst 3, 1) := by decide +kernel
theorem dX6_lays_19 : decode cX6_lays 19 = .ok (.iload_n 1, 1) := by decide +kernel
theorem dX6_lays_20 : decode cX6_lays 20 = .ok (.imul, 1) := by decide +kernel
theorem dX6_lays_21 : decode cX6_lays 21 = .ok (.iadd, 1) := by decide +kernel
theorem dX6_lays_22 : decode cX6_lays 22 = .ok (.iconst 1, 1) := by decide +kernel
theorem dX6_lays_23 : decode cX6_lays 23 = .ok (.iadd, 1) := by decide +kernel
theorem dX6_lays_24 : decode cX6_lays 24 = .ok (.iload_n 3, 1) := by decide +kernel
theorem dX6_lays_25 : decode cX6_lays 25 = .ok (.iastore, 1) := by decide +kernel
theorem dX6_lays_26 : decode cX6_lays 26 = .ok (.aload_n 0, 1) := by decide +kernel
theorem dX6_lays_27 : decode cX6_lays 27 = .ok (.getfield 7, 3) := by decide +kernel
theorem dX6_lays_30 : decode cX6_lays 30 = .ok (.bipush 18, 2) := by decide +kernel
theorem dX6_lays_32 : decode cX6_lays 32 = .ok (.iconst 3, 1) := by decide +kernel
theorem dX6_lays_33 : decode cX6_lays 33 = .ok (.iload_n 1, 1) := by decide +kernel
theorem dX6_lays_34 : decode cX6_lays 34 = .ok (.imul, 1) := by decide +kernel
theorem dX6_lays_35 : decode cX6_lays 35 = .ok (.iadd, 1) := by decide +kernel
theorem dX6_lays_36 : decode cX6_lays 36 = .ok (.iconst 2, 1) := by decide +kernel
theorem dX6_lays_37 : decode cX6_lays 37 = .ok (.iadd, 1) := by decide +kernel
theorem dX6_lays_38 : decode cX6_lays 38 = .ok (.aload_n 0, 1) := by decide +kernel
theorem dX6_lays_39 : decode cX6_lays 39 = .ok (.getfield 7, 3) := by decide +kernel
theorem dX6_lays_42 : decode cX6_lays 42 = .ok (.iconst 1, 1) := by decide +kernel
theorem dX6_lays_43 : decode cX6_lays 43 = .ok (.iaload, 1) := by decide +kernel
theorem dX6_lays_44 : decode cX6_lays 44 = .ok (.iastore, 1) := by decide +kernel
theorem dX6_lays_45 : decode cX6_lays 45 = .ok (.aload_n 0, 1) := by decide +kernel
theorem dX6_lays_46 : decode cX6_lays 46 = .ok (.getfield 7, 3) := by decide +kernel
theorem dX6_lays_49 : decode cX6_lays 49 = .ok (.iconst 1, 1) := by decide +kernel
theorem dX6_lays_50 : decode cX6_lays 50 = .ok (.dup2, 1) := by decide +kernel
theorem dX6_lays_51 : decode cX6_lays 51 = .ok (.iaload, 1) := by decide +kernel
theorem dX6_lays_52 : decode cX6_lays 52 = .ok (.iconst 1, 1) := by decide +kernel
theorem dX6_lays_53 : decode cX6_lays 53 = .ok (.iadd, 1) := by decide +kernel
theorem dX6_lays_54 : decode cX6_lays 54 = .ok (.iastore, 1) := by decide +kernel
theorem dX6_lays_55 : decode cX6_lays 55 = .ok (.return_, 1) := by decide +kernel
theorem dX6_sinks_0 : decode cX6_sinks 0 = .ok (.iload_n 1, 1) := by decide +kernel
theorem dX6_sinks_1 : decode cX6_sinks 1 = .ok (.istore 4, 2) := by decide +kernel
theorem dX6_sinks_3 : decode cX6_sinks 3 = .ok (.iload 4, 2) := by decide +kernel
theorem dX6_sinks_5 : decode cX6_sinks 5 = .ok (.iload_n 2, 1) := by decide +kernel
theorem dX6_sinks_6 : decode cX6_sinks 6 = .ok (.if_icmp .ge 27, 3) := by decide +kernel
theorem dX6_sinks_9 : decode cX6_sinks 9 = .ok (.aload_n 0, 1) := by decide +kernel
theorem dX6_sinks_10 : decode cX6_sinks 10 = .ok (.getfield 7, 3) := by decide +kernel
theorem dX6_sinks_13 : decode cX6_sinks 13 = .ok (.bipush 18, 2) := by decide +kernel
theorem dX6_sinks_15 : decode cX6_sinks 15 = .ok (.iconst 3, 1) := by decide +kernel
theorem dX6_sinks_16 : decode cX6_sinks 16 = .ok (.iload 4, 2) := by decide +kernel
theorem dX6_sinks_18 : decode cX6_sinks 18 = .ok (.imul, 1) := by decide +kernel
theorem dX6_sinks_19 : decode cX6_sinks 19 = .ok (.iadd, 1) := by decide +kernel
theorem dX6_sinks_20 : decode cX6_sinks 20 = .ok (.iconst 1, 1) := by decide +kernel
theorem dX6_sinks_21 : decode cX6_sinks 21 = .ok (.iadd, 1) := by decide +kernel
theorem dX6_sinks_22 : decode cX6_sinks 22 = .ok (.dup2, 1) := by decide +kernel
theorem dX6_sinks_23 : decode cX6_sinks 23 = .ok (.iaload, 1) := by decide +kernel
theorem dX6_sinks_24 : decode cX6_sinks 24 = .ok (.iload_n 3, 1) := by decide +kernel
theorem dX6_sinks_25 : decode cX6_sinks 25 = .ok (.iadd, 1) := by decide +kernel
theorem dX6_sinks_26 : decode cX6_sinks 26 = .ok (.iastore, 1) := by decide +kernel
theorem dX6_sinks_27 : decode cX6_sinks 27 = .ok (.iinc 4 1, 3) := by decide +kernel
theorem dX6_sinks_30 : decode cX6_sinks 30 = .ok (.goto (-27), 3) := by decide +kernel
theorem dX6_sinks_33 : decode cX6_sinks 33 = .ok (.return_, 1) := by decide +kernel
theorem dX6_walks_0 : decode cX6_walks 0 = .ok (.aload_n 0, 1) := by decide +kernel
theorem dX6_walks_1 : decode cX6_walks 1 = .ok (.iload_n 1, 1) := by decide +kernel
theorem dX6_walks_2 : decode cX6_walks 2 = .ok (.invokevirtual 39, 3) := by decide +kernel
theorem dX6_walks_5 : decode cX6_walks 5 = .ok (.aload_n 0, 1) := by decide +kernel
theorem dX6_walks_6 : decode cX6_walks 6 = .ok (.getfield 7, 3) := by decide +kernel
theorem dX6_walks_9 : decode cX6_walks 9 = .ok (.iconst 2, 1) := by decide +kernel
theorem dX6_walks_10 : decode cX6_walks 10 = .ok (.iaload, 1) := by decide +kernel
theorem dX6_walks_11 : decode cX6_walks 11 = .ok (.if_icmp .eq 99, 3) := by decide +kernel
theorem dX6_walks_14 : decode cX6_walks 14 = .ok (.aload_n 0, 1) := by decide +kernel
theorem dX6_walks_15 : decode cX6_walks 15 = .ok (.getfield 7, 3) := by decide +kernel
theorem dX6_walks_18 : decode cX6_walks 18 = .ok (.iconst 3, 1) := by decide +kernel
theorem dX6_walks_19 : decode cX6_walks 19 = .ok (.iaload, 1) := by decide +kernel
theorem dX6_walks_20 : decode cX6_walks 20 = .ok (.bipush 8, 2) := by decide +kernel
theorem dX6_walks_22 : decode cX6_walks 22 = .ok (.if_icmp .ne 47, 3) := by decide +kernel
theorem dX6_walks_25 : decode cX6_walks 25 = .ok (.iconst 0, 1) := by decide +kernel
theorem dX6_walks_26 : decode cX6_walks 26 = .ok (.istore_n 2, 1) := by decide +kernel
theorem dX6_walks_27 : decode cX6_walks 27 = .ok (.iload_n 2, 1) := by decide +kernel
theorem dX6_walks_28 : decode cX6_walks 28 = .ok (.bipush 7, 2) := by decide +kernel
theorem dX6_walks_30 : decode cX6_walks 30 = .ok (.if_icmp .ge 29, 3) := by decide +kernel
theorem dX6_walks_33 : decode cX6_walks 33 = .ok (.aload_n 0, 1) := by decide +kernel
theorem dX6_walks_34 : decode cX6_walks 34 = .ok (.getfield 7, 3) := by decide +kernel
theorem dX6_walks_37 : decode cX6_walks 37 = .ok (.bipush 9, 2) := by decide +kernel
theorem dX6_walks_39 : decode cX6_walks 39 = .ok (.iload_n 2, 1) := by decide +kernel
theorem dX6_walks_40 : decode cX6_walks 40 = .ok (.iadd, 1) := by decide +kernel
theorem dX6_walks_41 : decode cX6_walks 41 = .ok (.aload_n 0, 1) := by decide +kernel
theorem dX6_walks_42 : decode cX6_walks 42 = .ok (.getfield 7, 3) := by decide +kernel
theorem dX6_walks_45 : decode cX6_walks 45 = .ok (.bipush 9, 2) := by decide +kernel
theorem dX6_walks_47 : decode cX6_walks 47 = .ok (.iload_n 2, 1) := by decide +kernel
theorem dX6_walks_48 : decode cX6_walks 48 = .ok (.iadd, 1) := by decide +kernel
theorem dX6_walks_49 : decode cX6_walks 49 = .ok (.iconst 1, 1) := by decide +kernel
theorem dX6_walks_50 : decode cX6_walks 50 = .ok (.iadd, 1) := by decide +kernel
theorem dX6_walks_51 : decode cX6_walks 51 = .ok (.iaload, 1) := by decide +kernel
theorem dX6_walks_52 : decode cX6_walks 52 = .ok (.iastore, 1) := by decide +kernel
theorem dX6_walks_53 : decode cX6_walks 53 = .ok (.iinc 2 1, 3) := by decide +kernel
theorem dX6_walks_56 : decode cX6_walks 56 = .ok (.goto (-29), 3) := by decide +kernel
theorem dX6_walks_59 : decode cX6_walks 59 = .ok (.aload_n 0, 1) := by decide +kernel
theorem dX6_walks_60 : decode cX6_walks 60 = .ok (.getfield 7, 3) := by decide +kernel
theorem dX6_walks_63 : decode cX6_walks 63 = .ok (.iconst 3, 1) := by decide +kernel
theorem dX6_walks_64 : decode cX6_walks 64 = .ok (.dup2, 1) := by decide +kernel
theorem dX6_walks_65 : decode cX6_walks 65 = .ok (.iaload, 1) := by decide +kernel
theorem dX6_walks_66 : decode cX6_walks 66 = .ok (.iconst 1, 1) := by decide +kernel
theorem dX6_walks_67 : decode cX6_walks 67 = .ok (.isub, 1) := by decide +kernel
theorem dX6_walks_68 : decode cX6_walks 68 = .ok (.iastore, 1) := by decide +kernel
theorem dX6_walks_69 : decode cX6_walks 69 = .ok (.aload_n 0, 1) := by decide +kernel
theorem dX6_walks_70 : decode cX6_walks 70 = .ok (.getfield 7, 3) := by decide +kernel
theorem dX6_walks_73 : decode cX6_walks 73 = .ok (.bipush 9, 2) := by decide +kernel
theorem dX6_walks_75 : decode cX6_walks 75 = .ok (.aload_n 0, 1) := by decide +kernel
theorem dX6_walks_76 : decode cX6_walks 76 = .ok (.getfield 7, 3) := by decide +kernel
theorem dX6_walks_79 : decode cX6_walks 79 = .ok (.iconst 3, 1) := by decide +kernel
theorem dX6_walks_80 : decode cX6_walks 80 = .ok (.iaload, 1) := by decide +kernel
theorem dX6_walks_81 : decode cX6_walks 81 = .ok (.iadd, 1) := by decide +kernel
theorem dX6_walks_82 : decode cX6_walks 82 = .ok (.aload_n 0, 1) := by decide +kernel
theorem dX6_walks_83 : decode cX6_walks 83 = .ok (.getfield 7, 3) := by decide +kernel
theorem dX6_walks_86 : decode cX6_walks 86 = .ok (.iconst 2, 1) := by decide +kernel
theorem dX6_walks_87 : decode cX6_walks 87 = .ok (.iaload, 1) := by decide +kernel
theorem dX6_walks_88 : decode cX6_walks 88 = .ok (.iastore, 1) := by decide +kernel
theorem dX6_walks_89 : decode cX6_walks 89 = .ok (.aload_n 0, 1) := by decide +kernel
theorem dX6_walks_90 : decode cX6_walks 90 = .ok (.getfield 7, 3) := by decide +kernel
theorem dX6_walks_93 : decode cX6_walks 93 = .ok (.iconst 3, 1) := by decide +kernel
theorem dX6_walks_94 : decode cX6_walks 94 = .ok (.dup2, 1) := by decide +kernel
theorem dX6_walks_95 : decode cX6_walks 95 = .ok (.iaload, 1) := by decide +kernel
theorem dX6_walks_96 : decode cX6_walks 96 = .ok (.iconst 1, 1) := by decide +kernel
theorem dX6_walks_97 : decode cX6_walks 97 = .ok (.iadd, 1) := by decide +kernel
theorem dX6_walks_98 : decode cX6_walks 98 = .ok (.iastore, 1) := by decide +kernel
theorem dX6_walks_99 : decode cX6_walks 99 = .ok (.aload_n 0, 1) := by decide +kernel
theorem dX6_walks_100 : decode cX6_walks 100 = .ok (.getfield 7, 3) := by decide +kernel
theorem dX6_walks_103 : decode cX6_walks 103 = .ok (.iconst 2, 1) := by decide +kernel
theorem dX6_walks_104 : decode cX6_walks 104 = .ok (.aload_n 0, 1) := by decide +kernel
theorem dX6_walks_105 : decode cX6_walks 105 = .ok (.iload_n 1, 1) := by decide +kernel
theorem dX6_walks_106 : decode cX6_walks 106 = .ok (.invokevirtual 39, 3) := by decide +kernel
theorem dX6_walks_109 : decode cX6_walks 109 = .ok (.iastore, 1) := by decide +kernel
theorem dX6_walks_110 : decode cX6_walks 110 = .ok (.iload_n 1, 1) := by decide +kernel
theorem dX6_walks_111 : decode cX6_walks 111 = .ok (.ireturn, 1) := by decide +kernel
theorem dX6_down_0 : decode cX6_down 0 = .ok (.aload_n 0, 1) := by decide +kernel
theorem dX6_down_1 : decode cX6_down 1 = .ok (.invokevirtual 55, 3) := by decide +kernel
theorem dX6_down_4 : decode cX6_down 4 = .ok (.iload_n 1, 1) := by decide +kernel
theorem dX6_down_5 : decode cX6_down 5 = .ok (.ifCond .ge 5, 3) := by decide +kernel
theorem dX6_down_8 : decode cX6_down 8 = .ok (.iconst (-1), 1) := by decide +kernel
theorem dX6_down_9 : decode cX6_down 9 = .ok (.ireturn, 1) := by decide +kernel
theorem dX6_down_10 : decode cX6_down 10 = .ok (.aload_n 0, 1) := by decide +kernel
theorem dX6_down_11 : decode cX6_down 11 = .ok (.invokevirtual 58, 3) := by decide +kernel
theorem dX6_down_14 : decode cX6_down 14 = .ok (.istore_n 2, 1) := by decide +kernel
theorem dX6_down_15 : decode cX6_down 15 = .ok (.iload_n 1, 1) := by decide +kernel
theorem dX6_down_16 : decode cX6_down 16 = .ok (.aload_n 0, 1) := by decide +kernel
theorem dX6_down_17 : decode cX6_down 17 = .ok (.iload_n 2, 1) := by decide +kernel
theorem dX6_down_18 : decode cX6_down 18 = .ok (.invokevirtual 62, 3) := by decide +kernel
theorem dX6_down_21 : decode cX6_down 21 = .ok (.if_icmp .lt 8, 3) := by decide +kernel
theorem dX6_down_24 : decode cX6_down 24 = .ok (.bipush (-2), 2) := by decide +kernel
theorem dX6_down_26 : decode cX6_down 26 = .ok (.goto 17, 3) := by decide +kernel
theorem dX6_down_29 : decode cX6_down 29 = .ok (.aload_n 0, 1) := by decide +kernel
theorem dX6_down_30 : decode cX6_down 30 = .ok (.aload_n 0, 1) := by decide +kernel
theorem dX6_down_31 : decode cX6_down 31 = .ok (.aload_n 0, 1) := by decide +kernel
theorem dX6_down_32 : decode cX6_down 32 = .ok (.iload_n 2, 1) := by decide +kernel
theorem dX6_down_33 : decode cX6_down 33 = .ok (.iload_n 1, 1) := by decide +kernel
theorem dX6_down_34 : decode cX6_down 34 = .ok (.invokevirtual 65, 3) := by decide +kernel
theorem dX6_down_37 : decode cX6_down 37 = .ok (.invokevirtual 69, 3) := by decide +kernel
theorem dX6_down_40 : decode cX6_down 40 = .ok (.invokevirtual 72, 3) := by decide +kernel
theorem dX6_down_43 : decode cX6_down 43 = .ok (.ireturn, 1) := by decide +kernel
theorem dX6_up_0 : decode cX6_up 0 = .ok (.aload_n 0, 1) := by decide +kernel
theorem dX6_up_1 : decode cX6_up 1 = .ok (.invokevirtual 55, 3) := by decide +kernel
theorem dX6_up_4 : decode cX6_up 4 = .ok (.aload_n 0, 1) := by decide +kernel
theorem dX6_up_5 : decode cX6_up 5 = .ok (.aload_n 0, 1) := by decide +kernel
theorem dX6_up_6 : decode cX6_up 6 = .ok (.invokevirtual 58, 3) := by decide +kernel
theorem dX6_up_9 : decode cX6_up 9 = .ok (.invokevirtual 52, 3) := by decide +kernel
theorem dX6_up_12 : decode cX6_up 12 = .ok (.istore_n 1, 1) := by decide +kernel
theorem dX6_up_13 : decode cX6_up 13 = .ok (.iload_n 1, 1) := by decide +kernel
theorem dX6_up_14 : decode cX6_up 14 = .ok (.ifCond .ge 8, 3) := by decide +kernel
theorem dX6_up_17 : decode cX6_up 17 = .ok (.bipush (-2), 2) := by decide +kernel
theorem dX6_up_19 : decode cX6_up 19 = .ok (.goto 12, 3) := by decide +kernel
theorem dX6_up_22 : decode cX6_up 22 = .ok (.aload_n 0, 1) := by decide +kernel
theorem dX6_up_23 : decode cX6_up 23 = .ok (.aload_n 0, 1) := by decide +kernel
theorem dX6_up_24 : decode cX6_up 24 = .ok (.iload_n 1, 1) := by decide +kernel
theorem dX6_up_25 : decode cX6_up 25 = .ok (.invokevirtual 69, 3) := by decide +kernel
theorem dX6_up_28 : decode cX6_up 28 = .ok (.invokevirtual 72, 3) := by decide +kernel
theorem dX6_up_31 : decode cX6_up 31 = .ok (.ireturn, 1) := by decide +kernel
theorem dX6_side_0 : decode cX6_side 0 = .ok (.aload_n 0, 1) := by decide +kernel
theorem dX6_side_1 : decode cX6_side 1 = .ok (.invokevirtual 55, 3) := by decide +kernel
theorem dX6_side_4 : decode cX6_side 4 = .ok (.iload_n 1, 1) := by decide +kernel
theorem dX6_side_5 : decode cX6_side 5 = .ok (.iconst 0, 1) := by decide +kernel
theorem dX6_side_6 : decode cX6_side 6 = .ok (.iconst 1, 1) := by decide +kernel
theorem dX6_side_7 : decode cX6_side 7 = .ok (.invokestatic 35, 3) := by decide +kernel
theorem dX6_side_10 : decode cX6_side 10 = .ok (.ifCond .ne 5, 3) := by decide +kernel
theorem dX6_side_13 : decode cX6_side 13 = .ok (.iconst (-1), 1) := by decide +kernel
theorem dX6_side_14 : decode cX6_side 14 = .ok (.ireturn, 1) := by decide +kernel
theorem dX6_side_15 : decode cX6_side 15 = .ok (.aload_n 0, 1) := by decide +kernel
theorem dX6_side_16 : decode cX6_side 16 = .ok (.aload_n 0, 1) := by decide +kernel
theorem dX6_side_17 : decode cX6_side 17 = .ok (.invokevirtual 58, 3) := by decide +kernel
theorem dX6_side_20 : decode cX6_side 20 = .ok (.iload_n 1, 1) := by decide +kernel
theorem dX6_side_21 : decode cX6_side 21 = .ok (.iconst 1, 1) := by decide +kernel
theorem dX6_side_22 : decode cX6_side 22 = .ok (.if_icmp .ne 7, 3) := by decide +kernel
theorem dX6_side_25 : decode cX6_side 25 = .ok (.iconst 1, 1) := by decide +kernel
theorem dX6_side_26 : decode cX6_side 26 = .ok (.goto 4, 3) := by decide +kernel
theorem dX6_side_29 : decode cX6_side 29 = .ok (.iconst 0, 1) := by decide +kernel
theorem dX6_side_30 : decode cX6_side 30 = .ok (.invokevirtual 75, 3) := by decide +kernel
theorem dX6_side_33 : decode cX6_side 33 = .ok (.istore_n 2, 1) := by decide +kernel
theorem dX6_side_34 : decode cX6_side 34 = .ok (.iload_n 2, 1) := by decide +kernel
theorem dX6_side_35 : decode cX6_side 35 = .ok (.ifCond .ge 8, 3) := by decide +kernel
theorem dX6_side_38 : decode cX6_side 38 = .ok (.bipush (-2), 2) := by decide +kernel
theorem dX6_side_40 : decode cX6_side 40 = .ok (.goto 12, 3) := by decide +kernel
theorem dX6_side_43 : decode cX6_side 43 = .ok (.aload_n 0, 1) := by decide +kernel
theorem dX6_side_44 : decode cX6_side 44 = .ok (.aload_n 0, 1) := by decide +kernel
theorem dX6_side_45 : decode cX6_side 45 = .ok (.iload_n 2, 1) := by decide +kernel
theorem dX6_side_46 : decode cX6_side 46 = .ok (.invokevirtual 69, 3) := by decide +kernel
theorem dX6_side_49 : decode cX6_side 49 = .ok (.invokevirtual 72, 3) := by decide +kernel
theorem dX6_side_52 : decode cX6_side 52 = .ok (.ireturn, 1) := by decide +kernel
theorem dX6_step_0 : decode cX6_step 0 = .ok (.aload_n 0, 1) := by decide +kernel
theorem dX6_step_1 : decode cX6_step 1 = .ok (.invokevirtual 55, 3) := by decide +kernel
theorem dX6_step_4 : decode cX6_step 4 = .ok (.iload_n 1, 1) := by decide +kernel
theorem dX6_step_5 : decode cX6_step 5 = .ok (.iconst 0, 1) := by decide +kernel
theorem dX6_step_6 : decode cX6_step 6 = .ok (.iconst 1, 1) := by decide +kernel
theorem dX6_step_7 : decode cX6_step 7 = .ok (.invokestatic 35, 3) := by decide +kernel
theorem dX6_step_10 : decode cX6_step 10 = .ok (.ifCond .ne 5, 3) := by decide +kernel
theorem dX6_step_13 : decode cX6_step 13 = .ok (.iconst (-1), 1) := by decide +kernel
theorem dX6_step_14 : decode cX6_step 14 = .ok (.ireturn, 1) := by decide +kernel
theorem dX6_step_15 : decode cX6_step 15 = .ok (.aload_n 0, 1) := by decide +kernel
theorem dX6_step_16 : decode cX6_step 16 = .ok (.invokevirtual 58, 3) := by decide +kernel
theorem dX6_step_19 : decode cX6_step 19 = .ok (.iload_n 1, 1) := by decide +kernel
theorem dX6_step_20 : decode cX6_step 20 = .ok (.iconst 1, 1) := by decide +kernel
theorem dX6_step_21 : decode cX6_step 21 = .ok (.if_icmp .ne 7, 3) := by decide +kernel
theorem dX6_step_24 : decode cX6_step 24 = .ok (.iconst 1, 1) := by decide +kernel
theorem dX6_step_25 : decode cX6_step 25 = .ok (.goto 4, 3) := by decide +kernel
theorem dX6_step_28 : decode cX6_step 28 = .ok (.iconst (-1), 1) := by decide +kernel
theorem dX6_step_29 : decode cX6_step 29 = .ok (.iadd, 1) := by decide +kernel
theorem dX6_step_30 : decode cX6_step 30 = .ok (.istore_n 2, 1) := by decide +kernel
theorem dX6_step_31 : decode cX6_step 31 = .ok (.aload_n 0, 1) := by decide +kernel
theorem dX6_step_32 : decode cX6_step 32 = .ok (.iload_n 2, 1) := by decide +kernel
theorem dX6_step_33 : decode cX6_step 33 = .ok (.invokevirtual 79, 3) := by decide +kernel
theorem dX6_step_36 : decode cX6_step 36 = .ok (.ifCond .eq 15, 3) := by decide +kernel
theorem dX6_step_39 : decode cX6_step 39 = .ok (.aload_n 0, 1) := by decide +kernel
theorem dX6_step_40 : decode cX6_step 40 = .ok (.aload_n 0, 1) := by decide +kernel
theorem dX6_step_41 : decode cX6_step 41 = .ok (.iload_n 2, 1) := by decide +kernel
theorem dX6_step_42 : decode cX6_step 42 = .ok (.invokevirtual 69, 3) := by decide +kernel
theorem dX6_step_45 : decode cX6_step 45 = .ok (.invokevirtual 72, 3) := by decide +kernel
theorem dX6_step_48 : decode cX6_step 48 = .ok (.goto 5, 3) := by decide +kernel
theorem dX6_step_51 : decode cX6_step 51 = .ok (.bipush (-2), 2) := by decide +kernel
theorem dX6_step_53 : decode cX6_step 53 = .ok (.ireturn, 1) := by decide +kernel
theorem dX6_top_0 : decode cX6_top 0 = .ok (.aload_n 0, 1) := by decide +kernel
theorem dX6_top_1 : decode cX6_top 1 = .ok (.invokevirtual 55, 3) := by decide +kernel
theorem dX6_top_4 : decode cX6_top 4 = .ok (.aload_n 0, 1) := by decide +kernel
theorem dX6_top_5 : decode cX6_top 5 = .ok (.aload_n 0, 1) := by decide +kernel
theorem dX6_top_6 : decode cX6_top 6 = .ok (.invokevirtual 58, 3) := by decide +kernel
theorem dX6_top_9 : decode cX6_top 9 = .ok (.invokevirtual 46, 3) := by decide +kernel
theorem dX6_top_12 : decode cX6_top 12 = .ok (.istore_n 1, 1) := by decide +kernel
theorem dX6_top_13 : decode cX6_top 13 = .ok (.iload_n 1, 1) := by decide +kernel
theorem dX6_top_14 : decode cX6_top 14 = .ok (.ifCond .ne 6, 3) := by decide +kernel
theorem dX6_top_17 : decode cX6_top 17 = .ok (.bipush (-2), 2) := by decide +kernel
theorem dX6_top_19 : decode cX6_top 19 = .ok (.ireturn, 1) := by decide +kernel
theorem dX6_top_20 : decode cX6_top 20 = .ok (.aload_n 0, 1) := by decide +kernel
theorem dX6_top_21 : decode cX6_top 21 = .ok (.iconst 0, 1) := by decide +kernel
theorem dX6_top_22 : decode cX6_top 22 = .ok (.invokevirtual 69, 3) := by decide +kernel
theorem dX6_top_25 : decode cX6_top 25 = .ok (.istore_n 2, 1) := by decide +kernel
theorem dX6_top_26 : decode cX6_top 26 = .ok (.aload_n 0, 1) := by decide +kernel
theorem dX6_top_27 : decode cX6_top 27 = .ok (.iload_n 1, 1) := by decide +kernel
theorem dX6_top_28 : decode cX6_top 28 = .ok (.invokevirtual 72, 3) := by decide +kernel
theorem dX6_top_31 : decode cX6_top 31 = .ok (.ireturn, 1) := by decide +kernel
theorem dX6_back_0 : decode cX6_back 0 = .ok (.aload_n 0, 1) := by decide +kernel
theorem dX6_back_1 : decode cX6_back 1 = .ok (.invokevirtual 55, 3) := by decide +kernel
theorem dX6_back_4 : decode cX6_back 4 = .ok (.aload_n 0, 1) := by decide +kernel
theorem dX6_back_5 : decode cX6_back 5 = .ok (.getfield 7, 3) := by decide +kernel
theorem dX6_back_8 : decode cX6_back 8 = .ok (.iconst 3, 1) := by decide +kernel
theorem dX6_back_9 : decode cX6_back 9 = .ok (.iaload, 1) := by decide +kernel
theorem dX6_back_10 : decode cX6_back 10 = .ok (.istore_n 1, 1) := by decide +kernel
theorem dX6_back_11 : decode cX6_back 11 = .ok (.iload_n 1, 1) := by decide +kernel
theorem dX6_back_12 : decode cX6_back 12 = .ok (.ifCond .le 73, 3) := by decide +kernel
theorem dX6_back_15 : decode cX6_back 15 = .ok (.iinc 1 (-1), 3) := by decide +kernel
theorem dX6_back_18 : decode cX6_back 18 = .ok (.aload_n 0, 1) := by decide +kernel
theorem dX6_back_19 : decode cX6_back 19 = .ok (.aload_n 0, 1) := by decide +kernel
theorem dX6_back_20 : decode cX6_back 20 = .ok (.getfield 7, 3) := by decide +kernel
theorem dX6_back_23 : decode cX6_back 23 = .ok (.bipush 9, 2) := by decide +kernel
theorem dX6_back_25 : decode cX6_back 25 = .ok (.iload_n 1, 1) := by decide +kernel
theorem dX6_back_26 : decode cX6_back 26 = .ok (.iadd, 1) := by decide +kernel
theorem dX6_back_27 : decode cX6_back 27 = .ok (.iaload, 1) := by decide +kernel
theorem dX6_back_28 : decode cX6_back 28 = .ok (.invokevirtual 43, 3) := by decide +kernel
theorem dX6_back_31 : decode cX6_back 31 = .ok (.istore_n 2, 1) := by decide +kernel
theorem dX6_back_32 : decode cX6_back 32 = .ok (.iload_n 2, 1) := by decide +kernel
theorem dX6_back_33 : decode cX6_back 33 = .ok (.ifCond .lt 49, 3) := by decide +kernel
theorem dX6_back_36 : decode cX6_back 36 = .ok (.aload_n 0, 1) := by decide +kernel
theorem dX6_back_37 : decode cX6_back 37 = .ok (.getfield 7, 3) := by decide +kernel
theorem dX6_back_40 : decode cX6_back 40 = .ok (.bipush 9, 2) := by decide +kernel
theorem dX6_back_42 : decode cX6_back 42 = .ok (.iload_n 1, 1) := by decide +kernel
theorem dX6_back_43 : decode cX6_back 43 = .ok (.iadd, 1) := by decide +kernel
theorem dX6_back_44 : decode cX6_back 44 = .ok (.iaload, 1) := by decide +kernel
theorem dX6_back_45 : decode cX6_back 45 = .ok (.aload_n 0, 1) := by decide +kernel
theorem dX6_back_46 : decode cX6_back 46 = .ok (.getfield 7, 3) := by decide +kernel
theorem dX6_back_49 : decode cX6_back 49 = .ok (.iconst 2, 1) := by decide +kernel
theorem dX6_back_50 : decode cX6_back 50 = .ok (.iaload, 1) := by decide +kernel
theorem dX6_back_51 : decode cX6_back 51 = .ok (.if_icmp .eq 31, 3) := by decide +kernel
theorem dX6_back_54 : decode cX6_back 54 = .ok (.aload_n 0, 1) := by decide +kernel
theorem dX6_back_55 : decode cX6_back 55 = .ok (.getfield 7, 3) := by decide +kernel
theorem dX6_back_58 : decode cX6_back 58 = .ok (.iconst 2, 1) := by decide +kernel
theorem dX6_back_59 : decode cX6_back 59 = .ok (.aload_n 0, 1) := by decide +kernel
theorem dX6_back_60 : decode cX6_back 60 = .ok (.getfield 7, 3) := by decide +kernel
theorem dX6_back_63 : decode cX6_back 63 = .ok (.bipush 9, 2) := by decide +kernel
theorem dX6_back_65 : decode cX6_back 65 = .ok (.iload_n 1, 1) := by decide +kernel
theorem dX6_back_66 : decode cX6_back 66 = .ok (.iadd, 1) := by decide +kernel
theorem dX6_back_67 : decode cX6_back 67 = .ok (.iaload, 1) := by decide +kernel
theorem dX6_back_68 : decode cX6_back 68 = .ok (.iastore, 1) := by decide +kernel
theorem dX6_back_69 : decode cX6_back 69 = .ok (.aload_n 0, 1) := by decide +kernel
theorem dX6_back_70 : decode cX6_back 70 = .ok (.getfield 7, 3) := by decide +kernel
theorem dX6_back_73 : decode cX6_back 73 = .ok (.iconst 3, 1) := by decide +kernel
theorem dX6_back_74 : decode cX6_back 74 = .ok (.iload_n 1, 1) := by decide +kernel
theorem dX6_back_75 : decode cX6_back 75 = .ok (.iastore, 1) := by decide +kernel
theorem dX6_back_76 : decode cX6_back 76 = .ok (.aload_n 0, 1) := by decide +kernel
theorem dX6_back_77 : decode cX6_back 77 = .ok (.iload_n 2, 1) := by decide +kernel
theorem dX6_back_78 : decode cX6_back 78 = .ok (.invokevirtual 72, 3) := by decide +kernel
theorem dX6_back_81 : decode cX6_back 81 = .ok (.ireturn, 1) := by decide +kernel
theorem dX6_back_82 : decode cX6_back 82 = .ok (.goto (-71), 3) := by decide +kernel
theorem dX6_back_85 : decode cX6_back 85 = .ok (.bipush (-2), 2) := by decide +kernel
theorem dX6_back_87 : decode cX6_back 87 = .ok (.ireturn, 1) := by decide +kernel
theorem dX6_letter_0 : decode cX6_letter 0 = .ok (.aload_n 0, 1) := by decide +kernel
theorem dX6_letter_1 : decode cX6_letter 1 = .ok (.invokevirtual 55, 3) := by decide +kernel
theorem dX6_letter_4 : decode cX6_letter 4 = .ok (.iload_n 1, 1) := by decide +kernel
theorem dX6_letter_5 : decode cX6_letter 5 = .ok (.iconst 0, 1) := by decide +kernel
theorem dX6_letter_6 : decode cX6_letter 6 = .ok (.bipush 25, 2) := by decide +kernel
theorem dX6_letter_8 : decode cX6_letter 8 = .ok (.invokestatic 35, 3) := by decide +kernel
theorem dX6_letter_11 : decode cX6_letter 11 = .ok (.ifCond .ne 5, 3) := by decide +kernel
theorem dX6_letter_14 : decode cX6_letter 14 = .ok (.iconst (-1), 1) := by decide +kernel
theorem dX6_letter_15 : decode cX6_letter 15 = .ok (.ireturn, 1) := by decide +kernel
theorem dX6_letter_16 : decode cX6_letter 16 = .ok (.aload_n 0, 1) := by decide +kernel
theorem dX6_letter_17 : decode cX6_letter 17 = .ok (.invokevirtual 58, 3) := by decide +kernel
theorem dX6_letter_20 : decode cX6_letter 20 = .ok (.istore_n 2, 1) := by decide +kernel
theorem dX6_letter_21 : decode cX6_letter 21 = .ok (.aload_n 0, 1) := by decide +kernel
theorem dX6_letter_22 : decode cX6_letter 22 = .ok (.iload_n 2, 1) := by decide +kernel
theorem dX6_letter_23 : decode cX6_letter 23 = .ok (.invokevirtual 83, 3) := by decide +kernel
theorem dX6_letter_26 : decode cX6_letter 26 = .ok (.istore_n 3, 1) := by decide +kernel
theorem dX6_letter_27 : decode cX6_letter 27 = .ok (.aload_n 0, 1) := by decide +kernel
theorem dX6_letter_28 : decode cX6_letter 28 = .ok (.getfield 7, 3) := by decide +kernel
theorem dX6_letter_31 : decode cX6_letter 31 = .ok (.bipush 18, 2) := by decide +kernel
theorem dX6_letter_33 : decode cX6_letter 33 = .ok (.iconst 3, 1) := by decide +kernel
theorem dX6_letter_34 : decode cX6_letter 34 = .ok (.iload_n 2, 1) := by decide +kernel
theorem dX6_letter_35 : decode cX6_letter 35 = .ok (.imul, 1) := by decide +kernel
theorem dX6_letter_36 : decode cX6_letter 36 = .ok (.iadd, 1) := by decide +kernel
theorem dX6_letter_37 : decode cX6_letter 37 = .ok (.iload_n 1, 1) := by decide +kernel
theorem dX6_letter_38 : decode cX6_letter 38 = .ok (.iastore, 1) := by decide +kernel
theorem dX6_letter_39 : decode cX6_letter 39 = .ok (.aload_n 0, 1) := by decide +kernel
theorem dX6_letter_40 : decode cX6_letter 40 = .ok (.iload_n 3, 1) := by decide +kernel
theorem dX6_letter_41 : decode cX6_letter 41 = .ok (.invokevirtual 72, 3) := by decide +kernel
theorem dX6_letter_44 : decode cX6_letter 44 = .ok (.ireturn, 1) := by decide +kernel
theorem dX6_child_0 : decode cX6_child 0 = .ok (.aload_n 0, 1) := by decide +kernel
theorem dX6_child_1 : decode cX6_child 1 = .ok (.invokevirtual 55, 3) := by decide +kernel
theorem dX6_child_4 : decode cX6_child 4 = .ok (.aload_n 0, 1) := by decide +kernel
theorem dX6_child_5 : decode cX6_child 5 = .ok (.invokevirtual 58, 3) := by decide +kernel
theorem dX6_child_8 : decode cX6_child 8 = .ok (.istore_n 3, 1) := by decide +kernel
theorem dX6_child_9 : decode cX6_child 9 = .ok (.iload_n 1, 1) := by decide +kernel
theorem dX6_child_10 : decode cX6_child 10 = .ok (.iconst 0, 1) := by decide +kernel
theorem dX6_child_11 : decode cX6_child 11 = .ok (.aload_n 0, 1) := by decide +kernel
theorem dX6_child_12 : decode cX6_child 12 = .ok (.iload_n 3, 1) := by decide +kernel
theorem dX6_child_13 : decode cX6_child 13 = .ok (.invokevirtual 62, 3) := by decide +kernel
theorem dX6_child_16 : decode cX6_child 16 = .ok (.invokestatic 35, 3) := by decide +kernel
theorem dX6_child_19 : decode cX6_child 19 = .ok (.ifCond .eq 13, 3) := by decide +kernel
theorem dX6_child_22 : decode cX6_child 22 = .ok (.iload_n 2, 1) := by decide +kernel
theorem dX6_child_23 : decode cX6_child 23 = .ok (.iconst 0, 1) := by decide +kernel
theorem dX6_child_24 : decode cX6_child 24 = .ok (.bipush 25, 2) := by decide +kernel
theorem dX6_child_26 : decode cX6_child 26 = .ok (.invokestatic 35, 3) := by decide +kernel
theorem dX6_child_29 : decode cX6_child 29 = .ok (.ifCond .ne 5, 3) := by decide +kernel
theorem dX6_child_32 : decode cX6_child 32 = .ok (.iconst (-1), 1) := by decide +kernel
theorem dX6_child_33 : decode cX6_child 33 = .ok (.ireturn, 1) := by decide +kernel
theorem dX6_child_34 : decode cX6_child 34 = .ok (.aload_n 0, 1) := by decide +kernel
theorem dX6_child_35 : decode cX6_child 35 = .ok (.getfield 7, 3) := by decide +kernel
theorem dX6_child_38 : decode cX6_child 38 = .ok (.iconst 0, 1) := by decide +kernel
theorem dX6_child_39 : decode cX6_child 39 = .ok (.iaload, 1) := by decide +kernel
theorem dX6_child_40 : decode cX6_child 40 = .ok (.bipush 40, 2) := by decide +kernel
theorem dX6_child_42 : decode cX6_child 42 = .ok (.if_icmp .eq 23, 3) := by decide +kernel
theorem dX6_child_45 : decode cX6_child 45 = .ok (.aload_n 0, 1) := by decide +kernel
theorem dX6_child_46 : decode cX6_child 46 = .ok (.iload_n 3, 1) := by decide +kernel
theorem dX6_child_47 : decode cX6_child 47 = .ok (.invokevirtual 62, 3) := by decide +kernel
theorem dX6_child_50 : decode cX6_child 50 = .ok (.bipush 6, 2) := by decide +kernel
theorem dX6_child_52 : decode cX6_child 52 = .ok (.if_icmp .eq 13, 3) := by decide +kernel
theorem dX6_child_55 : decode cX6_child 55 = .ok (.aload_n 0, 1) := by decide +kernel
theorem dX6_child_56 : decode cX6_child 56 = .ok (.iload_n 3, 1) := by decide +kernel
theorem dX6_child_57 : decode cX6_child 57 = .ok (.invokevirtual 46, 3) := by decide +kernel
theorem dX6_child_60 : decode cX6_child 60 = .ok (.bipush 7, 2) := by decide +kernel
theorem dX6_child_62 : decode cX6_child 62 = .ok (.if_icmp .ne 6, 3) := by decide +kernel
theorem dX6_child_65 : decode cX6_child 65 = .ok (.bipush (-3), 2) := by decide +kernel
theorem dX6_child_67 : decode cX6_child 67 = .ok (.ireturn, 1) := by decide +kernel
theorem dX6_child_68 : decode cX6_child 68 = .ok (.aload_n 0, 1) := by decide +kernel
theorem dX6_child_69 : decode cX6_child 69 = .ok (.iload_n 3, 1) := by decide +kernel
theorem dX6_child_70 : decode cX6_child 70 = .ok (.iload_n 1, 1) := by decide +kernel
theorem dX6_child_71 : decode cX6_child 71 = .ok (.invokevirtual 65, 3) := by decide +kernel
theorem dX6_child_74 : decode cX6_child 74 = .ok (.istore 4, 2) := by decide +kernel
theorem dX6_child_76 : decode cX6_child 76 = .ok (.aload_n 0, 1) := by decide +kernel
theorem dX6_child_77 : decode cX6_child 77 = .ok (.iload 4, 2) := by decide +kernel
theorem dX6_child_79 : decode cX6_child 79 = .ok (.iconst 1, 1) := by decide +kernel
theorem dX6_child_80 : decode cX6_child 80 = .ok (.invokevirtual 86, 3) := by decide +kernel
theorem dX6_child_83 : decode cX6_child 83 = .ok (.aload_n 0, 1) := by decide +kernel
theorem dX6_child_84 : decode cX6_child 84 = .ok (.iload 4, 2) := by decide +kernel
theorem dX6_child_86 : decode cX6_child 86 = .ok (.iload_n 2, 1) := by decide +kernel
theorem dX6_child_87 : decode cX6_child 87 = .ok (.aload_n 0, 1) := by decide +kernel
theorem dX6_child_88 : decode cX6_child 88 = .ok (.iload_n 3, 1) := by decide +kernel
theorem dX6_child_89 : decode cX6_child 89 = .ok (.invokevirtual 46, 3) := by decide +kernel
theorem dX6_child_92 : decode cX6_child 92 = .ok (.iconst 1, 1) := by decide +kernel
theorem dX6_child_93 : decode cX6_child 93 = .ok (.iadd, 1) := by decide +kernel
theorem dX6_child_94 : decode cX6_child 94 = .ok (.invokevirtual 90, 3) := by decide +kernel
theorem dX6_child_97 : decode cX6_child 97 = .ok (.aload_n 0, 1) := by decide +kernel
theorem dX6_child_98 : decode cX6_child 98 = .ok (.aload_n 0, 1) := by decide +kernel
theorem dX6_child_99 : decode cX6_child 99 = .ok (.iload_n 3, 1) := by decide +kernel
theorem dX6_child_100 : decode cX6_child 100 = .ok (.invokevirtual 62, 3) := by decide +kernel
theorem dX6_child_103 : decode cX6_child 103 = .ok (.invokevirtual 72, 3) := by decide +kernel
theorem dX6_child_106 : decode cX6_child 106 = .ok (.ireturn, 1) := by decide +kernel
theorem dX6_beside_0 : decode cX6_beside 0 = .ok (.aload_n 0, 1) := by decide +kernel
theorem dX6_beside_1 : decode cX6_beside 1 = .ok (.invokevirtual 55, 3) := by decide +kernel
theorem dX6_beside_4 : decode cX6_beside 4 = .ok (.iload_n 1, 1) := by decide +kernel
theorem dX6_beside_5 : decode cX6_beside 5 = .ok (.iconst 0, 1) := by decide +kernel
theorem dX6_beside_6 : decode cX6_beside 6 = .ok (.iconst 1, 1) := by decide +kernel
theorem dX6_beside_7 : decode cX6_beside 7 = .ok (.invokestatic 35, 3) := by decide +kernel
theorem dX6_beside_10 : decode cX6_beside 10 = .ok (.ifCond .eq 13, 3) := by decide +kernel
theorem dX6_beside_13 : decode cX6_beside 13 = .ok (.iload_n 2, 1) := by decide +kernel
theorem dX6_beside_14 : decode cX6_beside 14 = .ok (.iconst 0, 1) := by decide +kernel
theorem dX6_beside_15 : decode cX6_beside 15 = .ok (.bipush 25, 2) := by decide +kernel
theorem dX6_beside_17 : decode cX6_beside 17 = .ok (.invokestatic 35, 3) := by decide +kernel
theorem dX6_beside_20 : decode cX6_beside 20 = .ok (.ifCond .ne 5, 3) := by decide +kernel
theorem dX6_beside_23 : decode cX6_beside 23 = .ok (.iconst (-1), 1) := by decide +kernel
theorem dX6_beside_24 : decode cX6_beside 24 = .ok (.ireturn, 1) := by decide +kernel
theorem dX6_beside_25 : decode cX6_beside 25 = .ok (.aload_n 0, 1) := by decide +kernel
theorem dX6_beside_26 : decode cX6_beside 26 = .ok (.invokevirtual 58, 3) := by decide +kernel
theorem dX6_beside_29 : decode cX6_beside 29 = .ok (.istore_n 3, 1) := by decide +kernel
theorem dX6_beside_30 : decode cX6_beside 30 = .ok (.aload_n 0, 1) := by decide +kernel
theorem dX6_beside_31 : decode cX6_beside 31 = .ok (.iload_n 3, 1) := by decide +kernel
theorem dX6_beside_32 : decode cX6_beside 32 = .ok (.invokevirtual 52, 3) := by decide +kernel
theorem dX6_beside_35 : decode cX6_beside 35 = .ok (.istore 4, 2) := by decide +kernel
theorem dX6_beside_37 : decode cX6_beside 37 = .ok (.iload 4, 2) := by decide +kernel
theorem dX6_beside_39 : decode cX6_beside 39 = .ok (.ifCond .ge 6, 3) := by decide +kernel
theorem dX6_beside_42 : decode cX6_beside 42 = .ok (.bipush (-2), 2) := by decide +kernel
theorem dX6_beside_44 : decode cX6_beside 44 = .ok (.ireturn, 1) := by decide +kernel
theorem dX6_beside_45 : decode cX6_beside 45 = .ok (.aload_n 0, 1) := by decide +kernel
theorem dX6_beside_46 : decode cX6_beside 46 = .ok (.getfield 7, 3) := by decide +kernel
theorem dX6_beside_49 : decode cX6_beside 49 = .ok (.iconst 0, 1) := by decide +kernel
theorem dX6_beside_50 : decode cX6_beside 50 = .ok (.iaload, 1) := by decide +kernel
theorem dX6_beside_51 : decode cX6_beside 51 = .ok (.bipush 40, 2) := by decide +kernel
theorem dX6_beside_53 : decode cX6_beside 53 = .ok (.if_icmp .eq 14, 3) := by decide +kernel
theorem dX6_beside_56 : decode cX6_beside 56 = .ok (.aload_n 0, 1) := by decide +kernel
theorem dX6_beside_57 : decode cX6_beside 57 = .ok (.iload 4, 2) := by decide +kernel
theorem dX6_beside_59 : decode cX6_beside 59 = .ok (.invokevirtual 62, 3) := by decide +kernel
theorem dX6_beside_62 : decode cX6_beside 62 = .ok (.bipush 6, 2) := by decide +kernel
theorem dX6_beside_64 : decode cX6_beside 64 = .ok (.if_icmp .ne 6, 3) := by decide +kernel
theorem dX6_beside_67 : decode cX6_beside 67 = .ok (.bipush (-3), 2) := by decide +kernel
theorem dX6_beside_69 : decode cX6_beside 69 = .ok (.ireturn, 1) := by decide +kernel
theorem dX6_beside_70 : decode cX6_beside 70 = .ok (.aload_n 0, 1) := by decide +kernel
theorem dX6_beside_71 : decode cX6_beside 71 = .ok (.iload_n 3, 1) := by decide +kernel
theorem dX6_beside_72 : decode cX6_beside 72 = .ok (.invokevirtual 46, 3) := by decide +kernel
theorem dX6_beside_75 : decode cX6_beside 75 = .ok (.istore 5, 2) := by decide +kernel
theorem dX6_beside_77 : decode cX6_beside 77 = .ok (.iload_n 1, 1) := by decide +kernel
theorem dX6_beside_78 : decode cX6_beside 78 = .ok (.iconst 1, 1) := by decide +kernel
theorem dX6_beside_79 : decode cX6_beside 79 = .ok (.if_icmp .ne 11, 3) := by decide +kernel
theorem dX6_beside_82 : decode cX6_beside 82 = .ok (.aload_n 0, 1) := by decide +kernel
theorem dX6_beside_83 : decode cX6_beside 83 = .ok (.iload_n 3, 1) := by decide +kernel
theorem dX6_beside_84 : decode cX6_beside 84 = .ok (.invokevirtual 49, 3) := by decide +kernel
theorem dX6_beside_87 : decode cX6_beside 87 = .ok (.goto 4, 3) := by decide +kernel
theorem dX6_beside_90 : decode cX6_beside 90 = .ok (.iload_n 3, 1) := by decide +kernel
theorem dX6_beside_91 : decode cX6_beside 91 = .ok (.istore 6, 2) := by decide +kernel
theorem dX6_beside_93 : decode cX6_beside 93 = .ok (.aload_n 0, 1) := by decide +kernel
theorem dX6_beside_94 : decode cX6_beside 94 = .ok (.iload 6, 2) := by decide +kernel
theorem dX6_beside_96 : decode cX6_beside 96 = .ok (.iconst 1, 1) := by decide +kernel
theorem dX6_beside_97 : decode cX6_beside 97 = .ok (.invokevirtual 86, 3) := by decide +kernel
theorem dX6_beside_100 : decode cX6_beside 100 = .ok (.aload_n 0, 1) := by decide +kernel
theorem dX6_beside_101 : decode cX6_beside 101 = .ok (.iload 6, 2) := by decide +kernel
theorem dX6_beside_103 : decode cX6_beside 103 = .ok (.iload_n 2, 1) := by decide +kernel
theorem dX6_beside_104 : decode cX6_beside 104 = .ok (.iload 5, 2) := by decide +kernel
theorem dX6_beside_106 : decode cX6_beside 106 = .ok (.invokevirtual 90, 3) := by decide +kernel
theorem dX6_beside_109 : decode cX6_beside 109 = .ok (.aload_n 0, 1) := by decide +kernel
theorem dX6_beside_110 : decode cX6_beside 110 = .ok (.aload_n 0, 1) := by decide +kernel
theorem dX6_beside_111 : decode cX6_beside 111 = .ok (.iload 4, 2) := by decide +kernel
theorem dX6_beside_113 : decode cX6_beside 113 = .ok (.invokevirtual 62, 3) := by decide +kernel
theorem dX6_beside_116 : decode cX6_beside 116 = .ok (.invokevirtual 72, 3) := by decide +kernel
theorem dX6_beside_119 : decode cX6_beside 119 = .ok (.ireturn, 1) := by decide +kernel
theorem dX6_goes_0 : decode cX6_goes 0 = .ok (.aload_n 0, 1) := by decide +kernel
theorem dX6_goes_1 : decode cX6_goes 1 = .ok (.invokevirtual 58, 3) := by decide +kernel
theorem dX6_goes_4 : decode cX6_goes 4 = .ok (.istore_n 1, 1) := by decide +kernel
theorem dX6_goes_5 : decode cX6_goes 5 = .ok (.aload_n 0, 1) := by decide +kernel
theorem dX6_goes_6 : decode cX6_goes 6 = .ok (.iload_n 1, 1) := by decide +kernel
theorem dX6_goes_7 : decode cX6_goes 7 = .ok (.invokevirtual 49, 3) := by decide +kernel
theorem dX6_goes_10 : decode cX6_goes 10 = .ok (.iload_n 1, 1) := by decide +kernel
theorem dX6_goes_11 : decode cX6_goes 11 = .ok (.isub, 1) := by decide +kernel
theorem dX6_goes_12 : decode cX6_goes 12 = .ok (.istore_n 2, 1) := by decide +kernel
theorem dX6_goes_13 : decode cX6_goes 13 = .ok (.aload_n 0, 1) := by decide +kernel
theorem dX6_goes_14 : decode cX6_goes 14 = .ok (.iload_n 1, 1) := by decide +kernel
theorem dX6_goes_15 : decode cX6_goes 15 = .ok (.iconst 1, 1) := by decide +kernel
theorem dX6_goes_16 : decode cX6_goes 16 = .ok (.invokevirtual 75, 3) := by decide +kernel
theorem dX6_goes_19 : decode cX6_goes 19 = .ok (.istore_n 3, 1) := by decide +kernel
theorem dX6_goes_20 : decode cX6_goes 20 = .ok (.iload_n 3, 1) := by decide +kernel
theorem dX6_goes_21 : decode cX6_goes 21 = .ok (.ifCond .ge 12, 3) := by decide +kernel
theorem dX6_goes_24 : decode cX6_goes 24 = .ok (.aload_n 0, 1) := by decide +kernel
theorem dX6_goes_25 : decode cX6_goes 25 = .ok (.iload_n 1, 1) := by decide +kernel
theorem dX6_goes_26 : decode cX6_goes 26 = .ok (.iconst 0, 1) := by decide +kernel
theorem dX6_goes_27 : decode cX6_goes 27 = .ok (.invokevirtual 75, 3) := by decide +kernel
theorem dX6_goes_30 : decode cX6_goes 30 = .ok (.goto 4, 3) := by decide +kernel
theorem dX6_goes_33 : decode cX6_goes 33 = .ok (.iload_n 3, 1) := by decide +kernel
theorem dX6_goes_34 : decode cX6_goes 34 = .ok (.istore_n 3, 1) := by decide +kernel
theorem dX6_goes_35 : decode cX6_goes 35 = .ok (.iload_n 3, 1) := by decide +kernel
theorem dX6_goes_36 : decode cX6_goes 36 = .ok (.ifCond .ge 11, 3) := by decide +kernel
theorem dX6_goes_39 : decode cX6_goes 39 = .ok (.aload_n 0, 1) := by decide +kernel
theorem dX6_goes_40 : decode cX6_goes 40 = .ok (.iload_n 1, 1) := by decide +kernel
theorem dX6_goes_41 : decode cX6_goes 41 = .ok (.invokevirtual 52, 3) := by decide +kernel
theorem dX6_goes_44 : decode cX6_goes 44 = .ok (.goto 4, 3) := by decide +kernel
theorem dX6_goes_47 : decode cX6_goes 47 = .ok (.iload_n 3, 1) := by decide +kernel
theorem dX6_goes_48 : decode cX6_goes 48 = .ok (.istore_n 3, 1) := by decide +kernel
theorem dX6_goes_49 : decode cX6_goes 49 = .ok (.aload_n 0, 1) := by decide +kernel
theorem dX6_goes_50 : decode cX6_goes 50 = .ok (.getfield 7, 3) := by decide +kernel
theorem dX6_goes_53 : decode cX6_goes 53 = .ok (.iconst 2, 1) := by decide +kernel
theorem dX6_goes_54 : decode cX6_goes 54 = .ok (.aload_n 0, 1) := by decide +kernel
theorem dX6_goes_55 : decode cX6_goes 55 = .ok (.iload_n 3, 1) := by decide +kernel
theorem dX6_goes_56 : decode cX6_goes 56 = .ok (.invokevirtual 39, 3) := by decide +kernel
theorem dX6_goes_59 : decode cX6_goes 59 = .ok (.iastore, 1) := by decide +kernel
theorem dX6_goes_60 : decode cX6_goes 60 = .ok (.aload_n 0, 1) := by decide +kernel
theorem dX6_goes_61 : decode cX6_goes 61 = .ok (.iload_n 1, 1) := by decide +kernel
theorem dX6_goes_62 : decode cX6_goes 62 = .ok (.iload_n 2, 1) := by decide +kernel
theorem dX6_goes_63 : decode cX6_goes 63 = .ok (.invokevirtual 94, 3) := by decide +kernel
theorem dX6_goes_66 : decode cX6_goes 66 = .ok (.iload_n 2, 1) := by decide +kernel
theorem dX6_goes_67 : decode cX6_goes 67 = .ok (.ireturn, 1) := by decide +kernel
theorem dX6_clips_0 : decode cX6_clips 0 = .ok (.aload_n 0, 1) := by decide +kernel
theorem dX6_clips_1 : decode cX6_clips 1 = .ok (.invokevirtual 58, 3) := by decide +kernel
theorem dX6_clips_4 : decode cX6_clips 4 = .ok (.istore_n 1, 1) := by decide +kernel
theorem dX6_clips_5 : decode cX6_clips 5 = .ok (.aload_n 0, 1) := by decide +kernel
theorem dX6_clips_6 : decode cX6_clips 6 = .ok (.getfield 7, 3) := by decide +kernel
theorem dX6_clips_9 : decode cX6_clips 9 = .ok (.iconst 4, 1) := by decide +kernel
theorem dX6_clips_10 : decode cX6_clips 10 = .ok (.aload_n 0, 1) := by decide +kernel
theorem dX6_clips_11 : decode cX6_clips 11 = .ok (.iload_n 1, 1) := by decide +kernel
theorem dX6_clips_12 : decode cX6_clips 12 = .ok (.invokevirtual 49, 3) := by decide +kernel
theorem dX6_clips_15 : decode cX6_clips 15 = .ok (.iload_n 1, 1) := by decide +kernel
theorem dX6_clips_16 : decode cX6_clips 16 = .ok (.isub, 1) := by decide +kernel
theorem dX6_clips_17 : decode cX6_clips 17 = .ok (.iastore, 1) := by decide +kernel
theorem dX6_clips_18 : decode cX6_clips 18 = .ok (.iconst 0, 1) := by decide +kernel
theorem dX6_clips_19 : decode cX6_clips 19 = .ok (.istore_n 2, 1) := by decide +kernel
theorem dX6_clips_20 : decode cX6_clips 20 = .ok (.iload_n 2, 1) := by decide +kernel
theorem dX6_clips_21 : decode cX6_clips 21 = .ok (.aload_n 0, 1) := by decide +kernel
theorem dX6_clips_22 : decode cX6_clips 22 = .ok (.getfield 7, 3) := by decide +kernel
theorem dX6_clips_25 : decode cX6_clips 25 = .ok (.iconst 4, 1) := by decide +kernel
theorem dX6_clips_26 : decode cX6_clips 26 = .ok (.iaload, 1) := by decide +kernel
theorem dX6_clips_27 : decode cX6_clips 27 = .ok (.if_icmp .ge 55, 3) := by decide +kernel
theorem dX6_clips_30 : decode cX6_clips 30 = .ok (.aload_n 0, 1) := by decide +kernel
theorem dX6_clips_31 : decode cX6_clips 31 = .ok (.getfield 7, 3) := by decide +kernel
theorem dX6_clips_34 : decode cX6_clips 34 = .ok (.sipush 138, 3) := by decide +kernel
theorem dX6_clips_37 : decode cX6_clips 37 = .ok (.iconst 2, 1) := by decide +kernel
theorem dX6_clips_38 : decode cX6_clips 38 = .ok (.iload_n 2, 1) := by decide +kernel
theorem dX6_clips_39 : decode cX6_clips 39 = .ok (.imul, 1) := by decide +kernel
theorem dX6_clips_40 : decode cX6_clips 40 = .ok (.iadd, 1) := by decide +kernel
theorem dX6_clips_41 : decode cX6_clips 41 = .ok (.aload_n 0, 1) := by decide +kernel
theorem dX6_clips_42 : decode cX6_clips 42 = .ok (.iload_n 1, 1) := by decide +kernel
theorem dX6_clips_43 : decode cX6_clips 43 = .ok (.iload_n 2, 1) := by decide +kernel
theorem dX6_clips_44 : decode cX6_clips 44 = .ok (.iadd, 1) := by decide +kernel
theorem dX6_clips_45 : decode cX6_clips 45 = .ok (.invokevirtual 83, 3) := by decide +kernel
theorem dX6_clips_48 : decode cX6_clips 48 = .ok (.iastore, 1) := by decide +kernel
theorem dX6_clips_49 : decode cX6_clips 49 = .ok (.aload_n 0, 1) := by decide +kernel
theorem dX6_clips_50 : decode cX6_clips 50 = .ok (.getfield 7, 3) := by decide +kernel
theorem dX6_clips_53 : decode cX6_clips 53 = .ok (.sipush 138, 3) := by decide +kernel
theorem dX6_clips_56 : decode cX6_clips 56 = .ok (.iconst 2, 1) := by decide +kernel
theorem dX6_clips_57 : decode cX6_clips 57 = .ok (.iload_n 2, 1) := by decide +kernel
theorem dX6_clips_58 : decode cX6_clips 58 = .ok (.imul, 1) := by decide +kernel
theorem dX6_clips_59 : decode cX6_clips 59 = .ok (.iadd, 1) := by decide +kernel
theorem dX6_clips_60 : decode cX6_clips 60 = .ok (.iconst 1, 1) := by decide +kernel
theorem dX6_clips_61 : decode cX6_clips 61 = .ok (.iadd, 1) := by decide +kernel
theorem dX6_clips_62 : decode cX6_clips 62 = .ok (.aload_n 0, 1) := by decide +kernel
theorem dX6_clips_63 : decode cX6_clips 63 = .ok (.iload_n 1, 1) := by decide +kernel
theorem dX6_clips_64 : decode cX6_clips 64 = .ok (.iload_n 2, 1) := by decide +kernel
theorem dX6_clips_65 : decode cX6_clips 65 = .ok (.iadd, 1) := by decide +kernel
theorem dX6_clips_66 : decode cX6_clips 66 = .ok (.invokevirtual 46, 3) := by decide +kernel
theorem dX6_clips_69 : decode cX6_clips 69 = .ok (.aload_n 0, 1) := by decide +kernel
theorem dX6_clips_70 : decode cX6_clips 70 = .ok (.iload_n 1, 1) := by decide +kernel
theorem dX6_clips_71 : decode cX6_clips 71 = .ok (.invokevirtual 46, 3) := by decide +kernel
theorem dX6_clips_74 : decode cX6_clips 74 = .ok (.isub, 1) := by decide +kernel
theorem dX6_clips_75 : decode cX6_clips 75 = .ok (.iastore, 1) := by decide +kernel
theorem dX6_clips_76 : decode cX6_clips 76 = .ok (.iinc 2 1, 3) := by decide +kernel
theorem dX6_clips_79 : decode cX6_clips 79 = .ok (.goto (-59), 3) := by decide +kernel
theorem dX6_clips_82 : decode cX6_clips 82 = .ok (.return_, 1) := by decide +kernel
theorem dX6_forgets_0 : decode cX6_forgets 0 = .ok (.iconst 0, 1) := by decide +kernel
theorem dX6_forgets_1 : decode cX6_forgets 1 = .ok (.istore_n 1, 1) := by decide +kernel
theorem dX6_forgets_2 : decode cX6_forgets 2 = .ok (.iload_n 1, 1) := by decide +kernel
theorem dX6_forgets_3 : decode cX6_forgets 3 = .ok (.iconst 4, 1) := by decide +kernel
theorem dX6_forgets_4 : decode cX6_forgets 4 = .ok (.if_icmp .ge 44, 3) := by decide +kernel
theorem dX6_forgets_7 : decode cX6_forgets 7 = .ok (.aload_n 0, 1) := by decide +kernel
theorem dX6_forgets_8 : decode cX6_forgets 8 = .ok (.getfield 7, 3) := by decide +kernel
theorem dX6_forgets_11 : decode cX6_forgets 11 = .ok (.iconst 5, 1) := by decide +kernel
theorem dX6_forgets_12 : decode cX6_forgets 12 = .ok (.iload_n 1, 1) := by decide +kernel
theorem dX6_forgets_13 : decode cX6_forgets 13 = .ok (.iadd, 1) := by decide +kernel
theorem dX6_forgets_14 : decode cX6_forgets 14 = .ok (.aload_n 0, 1) := by decide +kernel
theorem dX6_forgets_15 : decode cX6_forgets 15 = .ok (.aload_n 0, 1) := by decide +kernel
theorem dX6_forgets_16 : decode cX6_forgets 16 = .ok (.getfield 7, 3) := by decide +kernel
theorem dX6_forgets_19 : decode cX6_forgets 19 = .ok (.iconst 5, 1) := by decide +kernel
theorem dX6_forgets_20 : decode cX6_forgets 20 = .ok (.iload_n 1, 1) := by decide +kernel
theorem dX6_forgets_21 : decode cX6_forgets 21 = .ok (.iadd, 1) := by decide +kernel
theorem dX6_forgets_22 : decode cX6_forgets 22 = .ok (.iaload, 1) := by decide +kernel
theorem dX6_forgets_23 : decode cX6_forgets 23 = .ok (.invokevirtual 43, 3) := by decide +kernel
theorem dX6_forgets_26 : decode cX6_forgets 26 = .ok (.ifCond .ge 7, 3) := by decide +kernel
theorem dX6_forgets_29 : decode cX6_forgets 29 = .ok (.iconst (-1), 1) := by decide +kernel
theorem dX6_forgets_30 : decode cX6_forgets 30 = .ok (.goto 11, 3) := by decide +kernel
theorem dX6_forgets_33 : decode cX6_forgets 33 = .ok (.aload_n 0, 1) := by decide +kernel
theorem dX6_forgets_34 : decode cX6_forgets 34 = .ok (.getfield 7, 3) := by decide +kernel
theorem dX6_forgets_37 : decode cX6_forgets 37 = .ok (.iconst 5, 1) := by decide +kernel
theorem dX6_forgets_38 : decode cX6_forgets 38 = .ok (.iload_n 1, 1) := by decide +kernel
theorem dX6_forgets_39 : decode cX6_forgets 39 = .ok (.iadd, 1) := by decide +kernel
theorem dX6_forgets_40 : decode cX6_forgets 40 = .ok (.iaload, 1) := by decide +kernel
theorem dX6_forgets_41 : decode cX6_forgets 41 = .ok (.iastore, 1) := by decide +kernel
theorem dX6_forgets_42 : decode cX6_forgets 42 = .ok (.iinc 1 1, 3) := by decide +kernel
theorem dX6_forgets_45 : decode cX6_forgets 45 = .ok (.goto (-43), 3) := by decide +kernel
theorem dX6_forgets_48 : decode cX6_forgets 48 = .ok (.return_, 1) := by decide +kernel
theorem dX6_delete_0 : decode cX6_delete 0 = .ok (.aload_n 0, 1) := by decide +kernel
theorem dX6_delete_1 : decode cX6_delete 1 = .ok (.invokevirtual 55, 3) := by decide +kernel
theorem dX6_delete_4 : decode cX6_delete 4 = .ok (.aload_n 0, 1) := by decide +kernel
theorem dX6_delete_5 : decode cX6_delete 5 = .ok (.aload_n 0, 1) := by decide +kernel
theorem dX6_delete_6 : decode cX6_delete 6 = .ok (.invokevirtual 58, 3) := by decide +kernel
theorem dX6_delete_9 : decode cX6_delete 9 = .ok (.invokevirtual 46, 3) := by decide +kernel
theorem dX6_delete_12 : decode cX6_delete 12 = .ok (.ifCond .ne 6, 3) := by decide +kernel
theorem dX6_delete_15 : decode cX6_delete 15 = .ok (.bipush (-2), 2) := by decide +kernel
theorem dX6_delete_17 : decode cX6_delete 17 = .ok (.ireturn, 1) := by decide +kernel
theorem dX6_delete_18 : decode cX6_delete 18 = .ok (.aload_n 0, 1) := by decide +kernel
theorem dX6_delete_19 : decode cX6_delete 19 = .ok (.invokevirtual 97, 3) := by decide +kernel
theorem dX6_delete_22 : decode cX6_delete 22 = .ok (.istore_n 1, 1) := by decide +kernel
theorem dX6_delete_23 : decode cX6_delete 23 = .ok (.aload_n 0, 1) := by decide +kernel
theorem dX6_delete_24 : decode cX6_delete 24 = .ok (.invokevirtual 100, 3) := by decide +kernel
theorem dX6_delete_27 : decode cX6_delete 27 = .ok (.aload_n 0, 1) := by decide +kernel
theorem dX6_delete_28 : decode cX6_delete 28 = .ok (.iload_n 1, 1) := by decide +kernel
theorem dX6_delete_29 : decode cX6_delete 29 = .ok (.invokevirtual 72, 3) := by decide +kernel
theorem dX6_delete_32 : decode cX6_delete 32 = .ok (.ireturn, 1) := by decide +kernel
theorem dX6_cut_0 : decode cX6_cut 0 = .ok (.aload_n 0, 1) := by decide +kernel
theorem dX6_cut_1 : decode cX6_cut 1 = .ok (.invokevirtual 55, 3) := by decide +kernel
theorem dX6_cut_4 : decode cX6_cut 4 = .ok (.aload_n 0, 1) := by decide +kernel
theorem dX6_cut_5 : decode cX6_cut 5 = .ok (.aload_n 0, 1) := by decide +kernel
theorem dX6_cut_6 : decode cX6_cut 6 = .ok (.invokevirtual 58, 3) := by decide +kernel
theorem dX6_cut_9 : decode cX6_cut 9 = .ok (.invokevirtual 46, 3) := by decide +kernel
theorem dX6_cut_12 : decode cX6_cut 12 = .ok (.ifCond .ne 6, 3) := by decide +kernel
theorem dX6_cut_15 : decode cX6_cut 15 = .ok (.bipush (-2), 2) := by decide +kernel
theorem dX6_cut_17 : decode cX6_cut 17 = .ok (.ireturn, 1) := by decide +kernel
theorem dX6_cut_18 : decode cX6_cut 18 = .ok (.aload_n 0, 1) := by decide +kernel
theorem dX6_cut_19 : decode cX6_cut 19 = .ok (.invokevirtual 103, 3) := by decide +kernel
theorem dX6_cut_22 : decode cX6_cut 22 = .ok (.aload_n 0, 1) := by decide +kernel
theorem dX6_cut_23 : decode cX6_cut 23 = .ok (.invokevirtual 97, 3) := by decide +kernel
theorem dX6_cut_26 : decode cX6_cut 26 = .ok (.istore_n 1, 1) := by decide +kernel
theorem dX6_cut_27 : decode cX6_cut 27 = .ok (.aload_n 0, 1) := by decide +kernel
theorem dX6_cut_28 : decode cX6_cut 28 = .ok (.invokevirtual 100, 3) := by decide +kernel
theorem dX6_cut_31 : decode cX6_cut 31 = .ok (.aload_n 0, 1) := by decide +kernel
theorem dX6_cut_32 : decode cX6_cut 32 = .ok (.iload_n 1, 1) := by decide +kernel
theorem dX6_cut_33 : decode cX6_cut 33 = .ok (.invokevirtual 72, 3) := by decide +kernel
theorem dX6_cut_36 : decode cX6_cut 36 = .ok (.ireturn, 1) := by decide +kernel
theorem dX6_copy_0 : decode cX6_copy 0 = .ok (.aload_n 0, 1) := by decide +kernel
theorem dX6_copy_1 : decode cX6_copy 1 = .ok (.invokevirtual 55, 3) := by decide +kernel
theorem dX6_copy_4 : decode cX6_copy 4 = .ok (.aload_n 0, 1) := by decide +kernel
theorem dX6_copy_5 : decode cX6_copy 5 = .ok (.invokevirtual 103, 3) := by decide +kernel
theorem dX6_copy_8 : decode cX6_copy 8 = .ok (.aload_n 0, 1) := by decide +kernel
theorem dX6_copy_9 : decode cX6_copy 9 = .ok (.aload_n 0, 1) := by decide +kernel
theorem dX6_copy_10 : decode cX6_copy 10 = .ok (.getfield 7, 3) := by decide +kernel
theorem dX6_copy_13 : decode cX6_copy 13 = .ok (.iconst 4, 1) := by decide +kernel
theorem dX6_copy_14 : decode cX6_copy 14 = .ok (.iaload, 1) := by decide +kernel
theorem dX6_copy_15 : decode cX6_copy 15 = .ok (.invokevirtual 72, 3) := by decide +kernel
theorem dX6_copy_18 : decode cX6_copy 18 = .ok (.ireturn, 1) := by decide +kernel
theorem dX6_wrap_0 : decode cX6_wrap 0 = .ok (.aload_n 0, 1) := by decide +kernel
theorem dX6_wrap_1 : decode cX6_wrap 1 = .ok (.invokevirtual 55, 3) := by decide +kernel
theorem dX6_wrap_4 : decode cX6_wrap 4 = .ok (.iload_n 1, 1) := by decide +kernel
theorem dX6_wrap_5 : decode cX6_wrap 5 = .ok (.iconst 0, 1) := by decide +kernel
theorem dX6_wrap_6 : decode cX6_wrap 6 = .ok (.bipush 25, 2) := by decide +kernel
theorem dX6_wrap_8 : decode cX6_wrap 8 = .ok (.invokestatic 35, 3) := by decide +kernel
theorem dX6_wrap_11 : decode cX6_wrap 11 = .ok (.ifCond .ne 5, 3) := by decide +kernel
theorem dX6_wrap_14 : decode cX6_wrap 14 = .ok (.iconst (-1), 1) := by decide +kernel
theorem dX6_wrap_15 : decode cX6_wrap 15 = .ok (.ireturn, 1) := by decide +kernel
theorem dX6_wrap_16 : decode cX6_wrap 16 = .ok (.aload_n 0, 1) := by decide +kernel
theorem dX6_wrap_17 : decode cX6_wrap 17 = .ok (.invokevirtual 58, 3) := by decide +kernel
theorem dX6_wrap_20 : decode cX6_wrap 20 = .ok (.istore_n 2, 1) := by decide +kernel
theorem dX6_wrap_21 : decode cX6_wrap 21 = .ok (.aload_n 0, 1) := by decide +kernel
theorem dX6_wrap_22 : decode cX6_wrap 22 = .ok (.iload_n 2, 1) := by decide +kernel
theorem dX6_wrap_23 : decode cX6_wrap 23 = .ok (.invokevirtual 46, 3) := by decide +kernel
theorem dX6_wrap_26 : decode cX6_wrap 26 = .ok (.istore_n 3, 1) := by decide +kernel
theorem dX6_wrap_27 : decode cX6_wrap 27 = .ok (.aload_n 0, 1) := by decide +kernel
theorem dX6_wrap_28 : decode cX6_wrap 28 = .ok (.getfield 7, 3) := by decide +kernel
theorem dX6_wrap_31 : decode cX6_wrap 31 = .ok (.iconst 0, 1) := by decide +kernel
theorem dX6_wrap_32 : decode cX6_wrap 32 = .ok (.iaload, 1) := by decide +kernel
theorem dX6_wrap_33 : decode cX6_wrap 33 = .ok (.bipush 40, 2) := by decide +kernel
theorem dX6_wrap_35 : decode cX6_wrap 35 = .ok (.if_icmp .eq 15, 3) := by decide +kernel
theorem dX6_wrap_38 : decode cX6_wrap 38 = .ok (.iload_n 3, 1) := by decide +kernel
theorem dX6_wrap_39 : decode cX6_wrap 39 = .ok (.aload_n 0, 1) := by decide +kernel
theorem dX6_wrap_40 : decode cX6_wrap 40 = .ok (.iload_n 2, 1) := by decide +kernel
theorem dX6_wrap_41 : decode cX6_wrap 41 = .ok (.invokevirtual 106, 3) := by decide +kernel
theorem dX6_wrap_44 : decode cX6_wrap 44 = .ok (.iadd, 1) := by decide +kernel
theorem dX6_wrap_45 : decode cX6_wrap 45 = .ok (.bipush 7, 2) := by decide +kernel
theorem dX6_wrap_47 : decode cX6_wrap 47 = .ok (.if_icmp .ne 6, 3) := by decide +kernel
theorem dX6_wrap_50 : decode cX6_wrap 50 = .ok (.bipush (-3), 2) := by decide +kernel
theorem dX6_wrap_52 : decode cX6_wrap 52 = .ok (.ireturn, 1) := by decide +kernel
theorem dX6_wrap_53 : decode cX6_wrap 53 = .ok (.aload_n 0, 1) := by decide +kernel
theorem dX6_wrap_54 : decode cX6_wrap 54 = .ok (.iload_n 2, 1) := by decide +kernel
theorem dX6_wrap_55 : decode cX6_wrap 55 = .ok (.aload_n 0, 1) := by decide +kernel
theorem dX6_wrap_56 : decode cX6_wrap 56 = .ok (.iload_n 2, 1) := by decide +kernel
theorem dX6_wrap_57 : decode cX6_wrap 57 = .ok (.invokevirtual 49, 3) := by decide +kernel
theorem dX6_wrap_60 : decode cX6_wrap 60 = .ok (.iconst 1, 1) := by decide +kernel
theorem dX6_wrap_61 : decode cX6_wrap 61 = .ok (.invokevirtual 109, 3) := by decide +kernel
theorem dX6_wrap_64 : decode cX6_wrap 64 = .ok (.aload_n 0, 1) := by decide +kernel
theorem dX6_wrap_65 : decode cX6_wrap 65 = .ok (.iload_n 2, 1) := by decide +kernel
theorem dX6_wrap_66 : decode cX6_wrap 66 = .ok (.iconst 1, 1) := by decide +kernel
theorem dX6_wrap_67 : decode cX6_wrap 67 = .ok (.invokevirtual 86, 3) := by decide +kernel
theorem dX6_wrap_70 : decode cX6_wrap 70 = .ok (.aload_n 0, 1) := by decide +kernel
theorem dX6_wrap_71 : decode cX6_wrap 71 = .ok (.iload_n 2, 1) := by decide +kernel
theorem dX6_wrap_72 : decode cX6_wrap 72 = .ok (.iload_n 1, 1) := by decide +kernel
theorem dX6_wrap_73 : decode cX6_wrap 73 = .ok (.iload_n 3, 1) := by decide +kernel
theorem dX6_wrap_74 : decode cX6_wrap 74 = .ok (.invokevirtual 90, 3) := by decide +kernel
theorem dX6_wrap_77 : decode cX6_wrap 77 = .ok (.aload_n 0, 1) := by decide +kernel
theorem dX6_wrap_78 : decode cX6_wrap 78 = .ok (.getfield 7, 3) := by decide +kernel
theorem dX6_wrap_81 : decode cX6_wrap 81 = .ok (.iconst 2, 1) := by decide +kernel
theorem dX6_wrap_82 : decode cX6_wrap 82 = .ok (.aload_n 0, 1) := by decide +kernel
theorem dX6_wrap_83 : decode cX6_wrap 83 = .ok (.iload_n 2, 1) := by decide +kernel
theorem dX6_wrap_84 : decode cX6_wrap 84 = .ok (.invokevirtual 39, 3) := by decide +kernel
theorem dX6_wrap_87 : decode cX6_wrap 87 = .ok (.iastore, 1) := by decide +kernel
theorem dX6_wrap_88 : decode cX6_wrap 88 = .ok (.aload_n 0, 1) := by decide +kernel
theorem dX6_wrap_89 : decode cX6_wrap 89 = .ok (.aload_n 0, 1) := by decide +kernel
theorem dX6_wrap_90 : decode cX6_wrap 90 = .ok (.getfield 7, 3) := by decide +kernel
theorem dX6_wrap_93 : decode cX6_wrap 93 = .ok (.iconst 0, 1) := by decide +kernel
theorem dX6_wrap_94 : decode cX6_wrap 94 = .ok (.iaload, 1) := by decide +kernel
theorem dX6_wrap_95 : decode cX6_wrap 95 = .ok (.invokevirtual 72, 3) := by decide +kernel
theorem dX6_wrap_98 : decode cX6_wrap 98 = .ok (.ireturn, 1) := by decide +kernel
theorem dX6_lift_0 : decode cX6_lift 0 = .ok (.aload_n 0, 1) := by decide +kernel
theorem dX6_lift_1 : decode cX6_lift 1 = .ok (.invokevirtual 55, 3) := by decide +kernel
theorem dX6_lift_4 : decode cX6_lift 4 = .ok (.aload_n 0, 1) := by decide +kernel
theorem dX6_lift_5 : decode cX6_lift 5 = .ok (.invokevirtual 58, 3) := by decide +kernel
theorem dX6_lift_8 : decode cX6_lift 8 = .ok (.istore_n 1, 1) := by decide +kernel
theorem dX6_lift_9 : decode cX6_lift 9 = .ok (.aload_n 0, 1) := by decide +kernel
theorem dX6_lift_10 : decode cX6_lift 10 = .ok (.iload_n 1, 1) := by decide +kernel
theorem dX6_lift_11 : decode cX6_lift 11 = .ok (.invokevirtual 62, 3) := by decide +kernel
theorem dX6_lift_14 : decode cX6_lift 14 = .ok (.istore_n 2, 1) := by decide +kernel
theorem dX6_lift_15 : decode cX6_lift 15 = .ok (.aload_n 0, 1) := by decide +kernel
theorem dX6_lift_16 : decode cX6_lift 16 = .ok (.iload_n 1, 1) := by decide +kernel
theorem dX6_lift_17 : decode cX6_lift 17 = .ok (.invokevirtual 52, 3) := by decide +kernel
theorem dX6_lift_20 : decode cX6_lift 20 = .ok (.istore_n 3, 1) := by decide +kernel
theorem dX6_lift_21 : decode cX6_lift 21 = .ok (.iload_n 3, 1) := by decide +kernel
theorem dX6_lift_22 : decode cX6_lift 22 = .ok (.ifCond .ge 11, 3) := by decide +kernel
theorem dX6_lift_25 : decode cX6_lift 25 = .ok (.iload_n 2, 1) := by decide +kernel
theorem dX6_lift_26 : decode cX6_lift 26 = .ok (.iconst 1, 1) := by decide +kernel
theorem dX6_lift_27 : decode cX6_lift 27 = .ok (.if_icmp .eq 6, 3) := by decide +kernel
theorem dX6_lift_30 : decode cX6_lift 30 = .ok (.bipush (-2), 2) := by decide +kernel
theorem dX6_lift_32 : decode cX6_lift 32 = .ok (.ireturn, 1) := by decide +kernel
theorem dX6_lift_33 : decode cX6_lift 33 = .ok (.iload_n 3, 1) := by decide +kernel
theorem dX6_lift_34 : decode cX6_lift 34 = .ok (.ifCond .lt 20, 3) := by decide +kernel
theorem dX6_lift_37 : decode cX6_lift 37 = .ok (.aload_n 0, 1) := by decide +kernel
theorem dX6_lift_38 : decode cX6_lift 38 = .ok (.iload_n 3, 1) := by decide +kernel
theorem dX6_lift_39 : decode cX6_lift 39 = .ok (.invokevirtual 62, 3) := by decide +kernel
theorem dX6_lift_42 : decode cX6_lift 42 = .ok (.iconst 1, 1) := by decide +kernel
theorem dX6_lift_43 : decode cX6_lift 43 = .ok (.isub, 1) := by decide +kernel
theorem dX6_lift_44 : decode cX6_lift 44 = .ok (.iload_n 2, 1) := by decide +kernel
theorem dX6_lift_45 : decode cX6_lift 45 = .ok (.iadd, 1) := by decide +kernel
theorem dX6_lift_46 : decode cX6_lift 46 = .ok (.bipush 6, 2) := by decide +kernel
theorem dX6_lift_48 : decode cX6_lift 48 = .ok (.if_icmp .le 6, 3) := by decide +kernel
theorem dX6_lift_51 : decode cX6_lift 51 = .ok (.bipush (-3), 2) := by decide +kernel
theorem dX6_lift_53 : decode cX6_lift 53 = .ok (.ireturn, 1) := by decide +kernel
theorem dX6_lift_54 : decode cX6_lift 54 = .ok (.iload_n 2, 1) := by decide +kernel
theorem dX6_lift_55 : decode cX6_lift 55 = .ok (.ifCond .ne 12, 3) := by decide +kernel
theorem dX6_lift_58 : decode cX6_lift 58 = .ok (.aload_n 0, 1) := by decide +kernel
theorem dX6_lift_59 : decode cX6_lift 59 = .ok (.invokevirtual 97, 3) := by decide +kernel
theorem dX6_lift_62 : decode cX6_lift 62 = .ok (.istore 4, 2) := by decide +kernel
theorem dX6_lift_64 : decode cX6_lift 64 = .ok (.goto 35, 3) := by decide +kernel
theorem dX6_lift_67 : decode cX6_lift 67 = .ok (.aload_n 0, 1) := by decide +kernel
theorem dX6_lift_68 : decode cX6_lift 68 = .ok (.getfield 7, 3) := by decide +kernel
theorem dX6_lift_71 : decode cX6_lift 71 = .ok (.iconst 2, 1) := by decide +kernel
theorem dX6_lift_72 : decode cX6_lift 72 = .ok (.aload_n 0, 1) := by decide +kernel
theorem dX6_lift_73 : decode cX6_lift 73 = .ok (.iload_n 1, 1) := by decide +kernel
theorem dX6_lift_74 : decode cX6_lift 74 = .ok (.iconst 1, 1) := by decide +kernel
theorem dX6_lift_75 : decode cX6_lift 75 = .ok (.iadd, 1) := by decide +kernel
theorem dX6_lift_76 : decode cX6_lift 76 = .ok (.invokevirtual 39, 3) := by decide +kernel
theorem dX6_lift_79 : decode cX6_lift 79 = .ok (.iastore, 1) := by decide +kernel
theorem dX6_lift_80 : decode cX6_lift 80 = .ok (.aload_n 0, 1) := by decide +kernel
theorem dX6_lift_81 : decode cX6_lift 81 = .ok (.iload_n 1, 1) := by decide +kernel
theorem dX6_lift_82 : decode cX6_lift 82 = .ok (.iconst 1, 1) := by decide +kernel
theorem dX6_lift_83 : decode cX6_lift 83 = .ok (.iadd, 1) := by decide +kernel
theorem dX6_lift_84 : decode cX6_lift 84 = .ok (.aload_n 0, 1) := by decide +kernel
theorem dX6_lift_85 : decode cX6_lift 85 = .ok (.iload_n 1, 1) := by decide +kernel
theorem dX6_lift_86 : decode cX6_lift 86 = .ok (.invokevirtual 49, 3) := by decide +kernel
theorem dX6_lift_89 : decode cX6_lift 89 = .ok (.iconst (-1), 1) := by decide +kernel
theorem dX6_lift_90 : decode cX6_lift 90 = .ok (.invokevirtual 109, 3) := by decide +kernel
theorem dX6_lift_93 : decode cX6_lift 93 = .ok (.aload_n 0, 1) := by decide +kernel
theorem dX6_lift_94 : decode cX6_lift 94 = .ok (.iload_n 1, 1) := by decide +kernel
theorem dX6_lift_95 : decode cX6_lift 95 = .ok (.iconst 1, 1) := by decide +kernel
theorem dX6_lift_96 : decode cX6_lift 96 = .ok (.invokevirtual 94, 3) := by decide +kernel
theorem dX6_lift_99 : decode cX6_lift 99 = .ok (.aload_n 0, 1) := by decide +kernel
theorem dX6_lift_100 : decode cX6_lift 100 = .ok (.invokevirtual 100, 3) := by decide +kernel
theorem dX6_lift_103 : decode cX6_lift 103 = .ok (.aload_n 0, 1) := by decide +kernel
theorem dX6_lift_104 : decode cX6_lift 104 = .ok (.iload_n 2, 1) := by decide +kernel
theorem dX6_lift_105 : decode cX6_lift 105 = .ok (.invokevirtual 72, 3) := by decide +kernel
theorem dX6_lift_108 : decode cX6_lift 108 = .ok (.ireturn, 1) := by decide +kernel
theorem dX6_swaps_0 : decode cX6_swaps 0 = .ok (.iload_n 2, 1) := by decide +kernel
theorem dX6_swaps_1 : decode cX6_swaps 1 = .ok (.iload_n 1, 1) := by decide +kernel
theorem dX6_swaps_2 : decode cX6_swaps 2 = .ok (.isub, 1) := by decide +kernel
theorem dX6_swaps_3 : decode cX6_swaps 3 = .ok (.istore_n 3, 1) := by decide +kernel
theorem dX6_swaps_4 : decode cX6_swaps 4 = .ok (.aload_n 0, 1) := by decide +kernel
theorem dX6_swaps_5 : decode cX6_swaps 5 = .ok (.iload_n 2, 1) := by decide +kernel
theorem dX6_swaps_6 : decode cX6_swaps 6 = .ok (.invokevirtual 49, 3) := by decide +kernel
theorem dX6_swaps_9 : decode cX6_swaps 9 = .ok (.iload_n 1, 1) := by decide +kernel
theorem dX6_swaps_10 : decode cX6_swaps 10 = .ok (.isub, 1) := by decide +kernel
theorem dX6_swaps_11 : decode cX6_swaps 11 = .ok (.istore 4, 2) := by decide +kernel
theorem dX6_swaps_13 : decode cX6_swaps 13 = .ok (.iconst 0, 1) := by decide +kernel
theorem dX6_swaps_14 : decode cX6_swaps 14 = .ok (.istore 5, 2) := by decide +kernel
theorem dX6_swaps_16 : decode cX6_swaps 16 = .ok (.iload 5, 2) := by decide +kernel
theorem dX6_swaps_18 : decode cX6_swaps 18 = .ok (.iconst 3, 1) := by decide +kernel
theorem dX6_swaps_19 : decode cX6_swaps 19 = .ok (.iload 4, 2) := by decide +kernel
theorem dX6_swaps_21 : decode cX6_swaps 21 = .ok (.imul, 1) := by decide +kernel
theorem dX6_swaps_22 : decode cX6_swaps 22 = .ok (.if_icmp .ge 30, 3) := by decide +kernel
theorem dX6_swaps_25 : decode cX6_swaps 25 = .ok (.aload_n 0, 1) := by decide +kernel
theorem dX6_swaps_26 : decode cX6_swaps 26 = .ok (.getfield 19, 3) := by decide +kernel
theorem dX6_swaps_29 : decode cX6_swaps 29 = .ok (.iload 5, 2) := by decide +kernel
theorem dX6_swaps_31 : decode cX6_swaps 31 = .ok (.aload_n 0, 1) := by decide +kernel
theorem dX6_swaps_32 : decode cX6_swaps 32 = .ok (.getfield 7, 3) := by decide +kernel
theorem dX6_swaps_35 : decode cX6_swaps 35 = .ok (.bipush 18, 2) := by decide +kernel
theorem dX6_swaps_37 : decode cX6_swaps 37 = .ok (.iconst 3, 1) := by decide +kernel
theorem dX6_swaps_38 : decode cX6_swaps 38 = .ok (.iload_n 1, 1) := by decide +kernel
theorem dX6_swaps_39 : decode cX6_swaps 39 = .ok (.imul, 1) := by decide +kernel
theorem dX6_swaps_40 : decode cX6_swaps 40 = .ok (.iadd, 1) := by decide +kernel
theorem dX6_swaps_41 : decode cX6_swaps 41 = .ok (.iload 5, 2) := by decide +kernel
theorem dX6_swaps_43 : decode cX6_swaps 43 = .ok (.iadd, 1) := by decide +kernel
theorem dX6_swaps_44 : decode cX6_swaps 44 = .ok (.iaload, 1) := by decide +kernel
theorem dX6_swaps_45 : decode cX6_swaps 45 = .ok (.iastore, 1) := by decide +kernel
theorem dX6_swaps_46 : decode cX6_swaps 46 = .ok (.iinc 5 1, 3) := by decide +kernel
theorem dX6_swaps_49 : decode cX6_swaps 49 = .ok (.goto (-33), 3) := by decide +kernel
theorem dX6_swaps_52 : decode cX6_swaps 52 = .ok (.iconst 0, 1) := by decide +kernel
theorem dX6_swaps_53 : decode cX6_swaps 53 = .ok (.istore 5, 2) := by decide +kernel
theorem dX6_swaps_55 : decode cX6_swaps 55 = .ok (.iload 5, 2) := by decide +kernel
theorem dX6_swaps_57 : decode cX6_swaps 57 = .ok (.iconst 3, 1) := by decide +kernel
theorem dX6_swaps_58 : decode cX6_swaps 58 = .ok (.iload 4, 2) := by decide +kernel
theorem dX6_swaps_60 : decode cX6_swaps 60 = .ok (.imul, 1) := by decide +kernel
theorem dX6_swaps_61 : decode cX6_swaps 61 = .ok (.if_icmp .ge 39, 3) := by decide +kernel
theorem dX6_swaps_64 : decode cX6_swaps 64 = .ok (.aload_n 0, 1) := by decide +kernel
theorem dX6_swaps_65 : decode cX6_swaps 65 = .ok (.getfield 7, 3) := by decide +kernel
theorem dX6_swaps_68 : decode cX6_swaps 68 = .ok (.bipush 18, 2) := by decide +kernel
theorem dX6_swaps_70 : decode cX6_swaps 70 = .ok (.iconst 3, 1) := by decide +kernel
theorem dX6_swaps_71 : decode cX6_swaps 71 = .ok (.iload_n 1, 1) := by decide +kernel
theorem dX6_swaps_72 : decode cX6_swaps 72 = .ok (.imul, 1) := by decide +kernel
theorem dX6_swaps_73 : decode cX6_swaps 73 = .ok (.iadd, 1) := by decide +kernel
theorem dX6_swaps_74 : decode cX6_swaps 74 = .ok (.iload 5, 2) := by decide +kernel
theorem dX6_swaps_76 : decode cX6_swaps 76 = .ok (.iadd, 1) := by decide +kernel
theorem dX6_swaps_77 : decode cX6_swaps 77 = .ok (.aload_n 0, 1) := by decide +kernel
theorem dX6_swaps_78 : decode cX6_swaps 78 = .ok (.getfield 19, 3) := by decide +kernel
theorem dX6_swaps_81 : decode cX6_swaps 81 = .ok (.iload 5, 2) := by decide +kernel
theorem dX6_swaps_83 : decode cX6_swaps 83 = .ok (.iconst 3, 1) := by decide +kernel
theorem dX6_swaps_84 : decode cX6_swaps 84 = .ok (.iload_n 3, 1) := by decide +kernel
theorem dX6_swaps_85 : decode cX6_swaps 85 = .ok (.imul, 1) := by decide +kernel
theorem dX6_swaps_86 : decode cX6_swaps 86 = .ok (.iadd, 1) := by decide +kernel
theorem dX6_swaps_87 : decode cX6_swaps 87 = .ok (.iconst 3, 1) := by decide +kernel
theorem dX6_swaps_88 : decode cX6_swaps 88 = .ok (.iload 4, 2) := by decide +kernel
theorem dX6_swaps_90 : decode cX6_swaps 90 = .ok (.imul, 1) := by decide +kernel
theorem dX6_swaps_91 : decode cX6_swaps 91 = .ok (.irem, 1) := by decide +kernel
theorem dX6_swaps_92 : decode cX6_swaps 92 = .ok (.iaload, 1) := by decide +kernel
theorem dX6_swaps_93 : decode cX6_swaps 93 = .ok (.iastore, 1) := by decide +kernel
theorem dX6_swaps_94 : decode cX6_swaps 94 = .ok (.iinc 5 1, 3) := by decide +kernel
theorem dX6_swaps_97 : decode cX6_swaps 97 = .ok (.goto (-42), 3) := by decide +kernel
theorem dX6_swaps_100 : decode cX6_swaps 100 = .ok (.return_, 1) := by decide +kernel
theorem dX6_exchange_0 : decode cX6_exchange 0 = .ok (.aload_n 0, 1) := by decide +kernel
theorem dX6_exchange_1 : decode cX6_exchange 1 = .ok (.invokevirtual 55, 3) := by decide +kernel
theorem dX6_exchange_4 : decode cX6_exchange 4 = .ok (.iload_n 1, 1) := by decide +kernel
theorem dX6_exchange_5 : decode cX6_exchange 5 = .ok (.iconst 0, 1) := by decide +kernel
theorem dX6_exchange_6 : decode cX6_exchange 6 = .ok (.iconst 1, 1) := by decide +kernel
theorem dX6_exchange_7 : decode cX6_exchange 7 = .ok (.invokestatic 35, 3) := by decide +kernel
theorem dX6_exchange_10 : decode cX6_exchange 10 = .ok (.ifCond .ne 5, 3) := by decide +kernel
theorem dX6_exchange_13 : decode cX6_exchange 13 = .ok (.iconst (-1), 1) := by decide +kernel
theorem dX6_exchange_14 : decode cX6_exchange 14 = .ok (.ireturn, 1) := by decide +kernel
theorem dX6_exchange_15 : decode cX6_exchange 15 = .ok (.aload_n 0, 1) := by decide +kernel
theorem dX6_exchange_16 : decode cX6_exchange 16 = .ok (.invokevirtual 58, 3) := by decide +kernel
theorem dX6_exchange_19 : decode cX6_exchange 19 = .ok (.istore_n 2, 1) := by decide +kernel
theorem dX6_exchange_20 : decode cX6_exchange 20 = .ok (.aload_n 0, 1) := by decide +kernel
theorem dX6_exchange_21 : decode cX6_exchange 21 = .ok (.iload_n 2, 1) := by decide +kernel
theorem dX6_exchange_22 : decode cX6_exchange 22 = .ok (.iload_n 1, 1) := by decide +kernel
theorem dX6_exchange_23 : decode cX6_exchange 23 = .ok (.iconst 1, 1) := by decide +kernel
theorem dX6_exchange_24 : decode cX6_exchange 24 = .ok (.if_icmp .ne 7, 3) := by decide +kernel
theorem dX6_exchange_27 : decode cX6_exchange 27 = .ok (.iconst 1, 1) := by decide +kernel
theorem dX6_exchange_28 : decode cX6_exchange 28 = .ok (.goto 4, 3) := by decide +kernel
theorem dX6_exchange_31 : decode cX6_exchange 31 = .ok (.iconst 0, 1) := by decide +kernel
theorem dX6_exchange_32 : decode cX6_exchange 32 = .ok (.invokevirtual 75, 3) := by decide +kernel
theorem dX6_exchange_35 : decode cX6_exchange 35 = .ok (.istore_n 3, 1) := by decide +kernel
theorem dX6_exchange_36 : decode cX6_exchange 36 = .ok (.iload_n 3, 1) := by decide +kernel
theorem dX6_exchange_37 : decode cX6_exchange 37 = .ok (.ifCond .ge 6, 3) := by decide +kernel
theorem dX6_exchange_40 : decode cX6_exchange 40 = .ok (.bipush (-2), 2) := by decide +kernel
theorem dX6_exchange_42 : decode cX6_exchange 42 = .ok (.ireturn, 1) := by decide +kernel
theorem dX6_exchange_43 : decode cX6_exchange 43 = .ok (.aload_n 0, 1) := by decide +kernel
theorem dX6_exchange_44 : decode cX6_exchange 44 = .ok (.iload_n 2, 1) := by decide +kernel
theorem dX6_exchange_45 : decode cX6_exchange 45 = .ok (.iload_n 3, 1) := by decide +kernel
theorem dX6_exchange_46 : decode cX6_exchange 46 = .ok (.if_icmp .ge 7, 3) := by decide +kernel
theorem dX6_exchange_49 : decode cX6_exchange 49 = .ok (.iload_n 2, 1) := by decide +kernel
theorem dX6_exchange_50 : decode cX6_exchange 50 = .ok (.goto 4, 3) := by decide +kernel
theorem dX6_exchange_53 : decode cX6_exchange 53 = .ok (.iload_n 3, 1) := by decide +kernel
theorem dX6_exchange_54 : decode cX6_exchange 54 = .ok (.iload_n 2, 1) := by decide +kernel
theorem dX6_exchange_55 : decode cX6_exchange 55 = .ok (.iload_n 3, 1) := by decide +kernel
theorem dX6_exchange_56 : decode cX6_exchange 56 = .ok (.if_icmp .ge 7, 3) := by decide +kernel
theorem dX6_exchange_59 : decode cX6_exchange 59 = .ok (.iload_n 3, 1) := by decide +kernel
theorem dX6_exchange_60 : decode cX6_exchange 60 = .ok (.goto 4, 3) := by decide +kernel
theorem dX6_exchange_63 : decode cX6_exchange 63 = .ok (.iload_n 2, 1) := by decide +kernel
theorem dX6_exchange_64 : decode cX6_exchange 64 = .ok (.invokevirtual 112, 3) := by decide +kernel
theorem dX6_exchange_67 : decode cX6_exchange 67 = .ok (.aload_n 0, 1) := by decide +kernel
theorem dX6_exchange_68 : decode cX6_exchange 68 = .ok (.aload_n 0, 1) := by decide +kernel
theorem dX6_exchange_69 : decode cX6_exchange 69 = .ok (.aload_n 0, 1) := by decide +kernel
theorem dX6_exchange_70 : decode cX6_exchange 70 = .ok (.invokevirtual 58, 3) := by decide +kernel
theorem dX6_exchange_73 : decode cX6_exchange 73 = .ok (.invokevirtual 115, 3) := by decide +kernel
theorem dX6_exchange_76 : decode cX6_exchange 76 = .ok (.invokevirtual 72, 3) := by decide +kernel
theorem dX6_exchange_79 : decode cX6_exchange 79 = .ok (.ireturn, 1) := by decide +kernel
theorem dX6_clipHeight_0 : decode cX6_clipHeight 0 = .ok (.iconst 0, 1) := by decide +kernel
theorem dX6_clipHeight_1 : decode cX6_clipHeight 1 = .ok (.istore_n 1, 1) := by decide +kernel
theorem dX6_clipHeight_2 : decode cX6_clipHeight 2 = .ok (.iconst 0, 1) := by decide +kernel
theorem dX6_clipHeight_3 : decode cX6_clipHeight 3 = .ok (.istore_n 2, 1) := by decide +kernel
theorem dX6_clipHeight_4 : decode cX6_clipHeight 4 = .ok (.iload_n 2, 1) := by decide +kernel
theorem dX6_clipHeight_5 : decode cX6_clipHeight 5 = .ok (.aload_n 0, 1) := by decide +kernel
theorem dX6_clipHeight_6 : decode cX6_clipHeight 6 = .ok (.getfield 7, 3) := by decide +kernel
theorem dX6_clipHeight_9 : decode cX6_clipHeight 9 = .ok (.iconst 4, 1) := by decide +kernel
theorem dX6_clipHeight_10 : decode cX6_clipHeight 10 = .ok (.iaload, 1) := by decide +kernel
theorem dX6_clipHeight_11 : decode cX6_clipHeight 11 = .ok (.if_icmp .ge 46, 3) := by decide +kernel
theorem dX6_clipHeight_14 : decode cX6_clipHeight 14 = .ok (.aload_n 0, 1) := by decide +kernel
theorem dX6_clipHeight_15 : decode cX6_clipHeight 15 = .ok (.getfield 7, 3) := by decide +kernel
theorem dX6_clipHeight_18 : decode cX6_clipHeight 18 = .ok (.sipush 138, 3) := by decide +kernel
theorem dX6_clipHeight_21 : decode cX6_clipHeight 21 = .ok (.iconst 2, 1) := by decide +kernel
theorem dX6_clipHeight_22 : decode cX6_clipHeight 22 = .ok (.iload_n 2, 1) := by decide +kernel
theorem dX6_clipHeight_23 : decode cX6_clipHeight 23 = .ok (.imul, 1) := by decide +kernel
theorem dX6_clipHeight_24 : decode cX6_clipHeight 24 = .ok (.iadd, 1) := by decide +kernel
theorem dX6_clipHeight_25 : decode cX6_clipHeight 25 = .ok (.iconst 1, 1) := by decide +kernel
theorem dX6_clipHeight_26 : decode cX6_clipHeight 26 = .ok (.iadd, 1) := by decide +kernel
theorem dX6_clipHeight_27 : decode cX6_clipHeight 27 = .ok (.iaload, 1) := by decide +kernel
theorem dX6_clipHeight_28 : decode cX6_clipHeight 28 = .ok (.iload_n 1, 1) := by decide +kernel
theorem dX6_clipHeight_29 : decode cX6_clipHeight 29 = .ok (.if_icmp .le 20, 3) := by decide +kernel
theorem dX6_clipHeight_32 : decode cX6_clipHeight 32 = .ok (.aload_n 0, 1) := by decide +kernel
theorem dX6_clipHeight_33 : decode cX6_clipHeight 33 = .ok (.getfield 7, 3) := by decide +kernel
theorem dX6_clipHeight_36 : decode cX6_clipHeight 36 = .ok (.sipush 138, 3) := by decide +kernel
theorem dX6_clipHeight_39 : decode cX6_clipHeight 39 = .ok (.iconst 2, 1) := by decide +kernel
theorem dX6_clipHeight_40 : decode cX6_clipHeight 40 = .ok (.iload_n 2, 1) := by decide +kernel
theorem dX6_clipHeight_41 : decode cX6_clipHeight 41 = .ok (.imul, 1) := by decide +kernel
theorem dX6_clipHeight_42 : decode cX6_clipHeight 42 = .ok (.iadd, 1) := by decide +kernel
theorem dX6_clipHeight_43 : decode cX6_clipHeight 43 = .ok (.iconst 1, 1) := by decide +kernel
theorem dX6_clipHeight_44 : decode cX6_clipHeight 44 = .ok (.iadd, 1) := by decide +kernel
theorem dX6_clipHeight_45 : decode cX6_clipHeight 45 = .ok (.iaload, 1) := by decide +kernel
theorem dX6_clipHeight_46 : decode cX6_clipHeight 46 = .ok (.goto 4, 3) := by decide +kernel
theorem dX6_clipHeight_49 : decode cX6_clipHeight 49 = .ok (.iload_n 1, 1) := by decide +kernel
theorem dX6_clipHeight_50 : decode cX6_clipHeight 50 = .ok (.istore_n 1, 1) := by decide +kernel
theorem dX6_clipHeight_51 : decode cX6_clipHeight 51 = .ok (.iinc 2 1, 3) := by decide +kernel
theorem dX6_clipHeight_54 : decode cX6_clipHeight 54 = .ok (.goto (-50), 3) := by decide +kernel
theorem dX6_clipHeight_57 : decode cX6_clipHeight 57 = .ok (.iload_n 1, 1) := by decide +kernel
theorem dX6_clipHeight_58 : decode cX6_clipHeight 58 = .ok (.ireturn, 1) := by decide +kernel
theorem dX6_paste_0 : decode cX6_paste 0 = .ok (.aload_n 0, 1) := by decide +kernel
theorem dX6_paste_1 : decode cX6_paste 1 = .ok (.invokevirtual 55, 3) := by decide +kernel
theorem dX6_paste_4 : decode cX6_paste 4 = .ok (.aload_n 0, 1) := by decide +kernel
theorem dX6_paste_5 : decode cX6_paste 5 = .ok (.invokevirtual 58, 3) := by decide +kernel
theorem dX6_paste_8 : decode cX6_paste 8 = .ok (.istore_n 2, 1) := by decide +kernel
theorem dX6_paste_9 : decode cX6_paste 9 = .ok (.iload_n 1, 1) := by decide +kernel
theorem dX6_paste_10 : decode cX6_paste 10 = .ok (.iconst 0, 1) := by decide +kernel
theorem dX6_paste_11 : decode cX6_paste 11 = .ok (.aload_n 0, 1) := by decide +kernel
theorem dX6_paste_12 : decode cX6_paste 12 = .ok (.iload_n 2, 1) := by decide +kernel
theorem dX6_paste_13 : decode cX6_paste 13 = .ok (.invokevirtual 62, 3) := by decide +kernel
theorem dX6_paste_16 : decode cX6_paste 16 = .ok (.invokestatic 35, 3) := by decide +kernel
theorem dX6_paste_19 : decode cX6_paste 19 = .ok (.ifCond .ne 5, 3) := by decide +kernel
theorem dX6_paste_22 : decode cX6_paste 22 = .ok (.iconst (-1), 1) := by decide +kernel
theorem dX6_paste_23 : decode cX6_paste 23 = .ok (.ireturn, 1) := by decide +kernel
theorem dX6_paste_24 : decode cX6_paste 24 = .ok (.aload_n 0, 1) := by decide +kernel
theorem dX6_paste_25 : decode cX6_paste 25 = .ok (.getfield 7, 3) := by decide +kernel
theorem dX6_paste_28 : decode cX6_paste 28 = .ok (.iconst 4, 1) := by decide +kernel
theorem dX6_paste_29 : decode cX6_paste 29 = .ok (.iaload, 1) := by decide +kernel
theorem dX6_paste_30 : decode cX6_paste 30 = .ok (.ifCond .ne 6, 3) := by decide +kernel
theorem dX6_paste_33 : decode cX6_paste 33 = .ok (.bipush (-2), 2) := by decide +kernel
theorem dX6_paste_35 : decode cX6_paste 35 = .ok (.ireturn, 1) := by decide +kernel
theorem dX6_paste_36 : decode cX6_paste 36 = .ok (.aload_n 0, 1) := by decide +kernel
theorem dX6_paste_37 : decode cX6_paste 37 = .ok (.getfield 7, 3) := by decide +kernel
theorem dX6_paste_40 : decode cX6_paste 40 = .ok (.iconst 0, 1) := by decide +kernel
theorem dX6_paste_41 : decode cX6_paste 41 = .ok (.iaload, 1) := by decide +kernel
theorem dX6_paste_42 : decode cX6_paste 42 = .ok (.aload_n 0, 1) := by decide +kernel
theorem dX6_paste_43 : decode cX6_paste 43 = .ok (.getfield 7, 3) := by decide +kernel
theorem dX6_paste_46 : decode cX6_paste 46 = .ok (.iconst 4, 1) := by decide +kernel
theorem dX6_paste_47 : decode cX6_paste 47 = .ok (.iaload, 1) := by decide +kernel
theorem dX6_paste_48 : decode cX6_paste 48 = .ok (.iadd, 1) := by decide +kernel
theorem dX6_paste_49 : decode cX6_paste 49 = .ok (.bipush 40, 2) := by decide +kernel
theorem dX6_paste_51 : decode cX6_paste 51 = .ok (.if_icmp .gt 30, 3) := by decide +kernel
theorem dX6_paste_54 : decode cX6_paste 54 = .ok (.aload_n 0, 1) := by decide +kernel
theorem dX6_paste_55 : decode cX6_paste 55 = .ok (.iload_n 2, 1) := by decide +kernel
theorem dX6_paste_56 : decode cX6_paste 56 = .ok (.invokevirtual 62, 3) := by decide +kernel
theorem dX6_paste_59 : decode cX6_paste 59 = .ok (.bipush 6, 2) := by decide +kernel
theorem dX6_paste_61 : decode cX6_paste 61 = .ok (.if_icmp .eq 20, 3) := by decide +kernel
theorem dX6_paste_64 : decode cX6_paste 64 = .ok (.aload_n 0, 1) := by decide +kernel
theorem dX6_paste_65 : decode cX6_paste 65 = .ok (.iload_n 2, 1) := by decide +kernel
theorem dX6_paste_66 : decode cX6_paste 66 = .ok (.invokevirtual 46, 3) := by decide +kernel
theorem dX6_paste_69 : decode cX6_paste 69 = .ok (.iconst 1, 1) := by decide +kernel
theorem dX6_paste_70 : decode cX6_paste 70 = .ok (.iadd, 1) := by decide +kernel
theorem dX6_paste_71 : decode cX6_paste 71 = .ok (.aload_n 0, 1) := by decide +kernel
theorem dX6_paste_72 : decode cX6_paste 72 = .ok (.invokevirtual 118, 3) := by decide +kernel
theorem dX6_paste_75 : decode cX6_paste 75 = .ok (.iadd, 1) := by decide +kernel
theorem dX6_paste_76 : decode cX6_paste 76 = .ok (.bipush 7, 2) := by decide +kernel
theorem dX6_paste_78 : decode cX6_paste 78 = .ok (.if_icmp .le 6, 3) := by decide +kernel
theorem dX6_paste_81 : decode cX6_paste 81 = .ok (.bipush (-3), 2) := by decide +kernel
theorem dX6_paste_83 : decode cX6_paste 83 = .ok (.ireturn, 1) := by decide +kernel
theorem dX6_paste_84 : decode cX6_paste 84 = .ok (.aload_n 0, 1) := by decide +kernel
theorem dX6_paste_85 : decode cX6_paste 85 = .ok (.iload_n 2, 1) := by decide +kernel
theorem dX6_paste_86 : decode cX6_paste 86 = .ok (.iload_n 1, 1) := by decide +kernel
theorem dX6_paste_87 : decode cX6_paste 87 = .ok (.invokevirtual 65, 3) := by decide +kernel
theorem dX6_paste_90 : decode cX6_paste 90 = .ok (.istore_n 3, 1) := by decide +kernel
theorem dX6_paste_91 : decode cX6_paste 91 = .ok (.aload_n 0, 1) := by decide +kernel
theorem dX6_paste_92 : decode cX6_paste 92 = .ok (.iload_n 2, 1) := by decide +kernel
theorem dX6_paste_93 : decode cX6_paste 93 = .ok (.invokevirtual 46, 3) := by decide +kernel
theorem dX6_paste_96 : decode cX6_paste 96 = .ok (.iconst 1, 1) := by decide +kernel
theorem dX6_paste_97 : decode cX6_paste 97 = .ok (.iadd, 1) := by decide +kernel
theorem dX6_paste_98 : decode cX6_paste 98 = .ok (.istore 4, 2) := by decide +kernel
theorem dX6_paste_100 : decode cX6_paste 100 = .ok (.aload_n 0, 1) := by decide +kernel
theorem dX6_paste_101 : decode cX6_paste 101 = .ok (.iload_n 3, 1) := by decide +kernel
theorem dX6_paste_102 : decode cX6_paste 102 = .ok (.aload_n 0, 1) := by decide +kernel
theorem dX6_paste_103 : decode cX6_paste 103 = .ok (.getfield 7, 3) := by decide +kernel
theorem dX6_paste_106 : decode cX6_paste 106 = .ok (.iconst 4, 1) := by decide +kernel
theorem dX6_paste_107 : decode cX6_paste 107 = .ok (.iaload, 1) := by decide +kernel
theorem dX6_paste_108 : decode cX6_paste 108 = .ok (.invokevirtual 86, 3) := by decide +kernel
theorem dX6_paste_111 : decode cX6_paste 111 = .ok (.iconst 0, 1) := by decide +kernel
theorem dX6_paste_112 : decode cX6_paste 112 = .ok (.istore 5, 2) := by decide +kernel
theorem dX6_paste_114 : decode cX6_paste 114 = .ok (.iload 5, 2) := by decide +kernel
theorem dX6_paste_116 : decode cX6_paste 116 = .ok (.aload_n 0, 1) := by decide +kernel
theorem dX6_paste_117 : decode cX6_paste 117 = .ok (.getfield 7, 3) := by decide +kernel
theorem dX6_paste_120 : decode cX6_paste 120 = .ok (.iconst 4, 1) := by decide +kernel
theorem dX6_paste_121 : decode cX6_paste 121 = .ok (.iaload, 1) := by decide +kernel
theorem dX6_paste_122 : decode cX6_paste 122 = .ok (.if_icmp .ge 48, 3) := by decide +kernel
theorem dX6_paste_125 : decode cX6_paste 125 = .ok (.aload_n 0, 1) := by decide +kernel
theorem dX6_paste_126 : decode cX6_paste 126 = .ok (.iload_n 3, 1) := by decide +kernel
theorem dX6_paste_127 : decode cX6_paste 127 = .ok (.iload 5, 2) := by decide +kernel
theorem dX6_paste_129 : decode cX6_paste 129 = .ok (.iadd, 1) := by decide +kernel
theorem dX6_paste_130 : decode cX6_paste 130 = .ok (.aload_n 0, 1) := by decide +kernel
theorem dX6_paste_131 : decode cX6_paste 131 = .ok (.getfield 7, 3) := by decide +kernel
theorem dX6_paste_134 : decode cX6_paste 134 = .ok (.sipush 138, 3) := by decide +kernel
theorem dX6_paste_137 : decode cX6_paste 137 = .ok (.iconst 2, 1) := by decide +kernel
theorem dX6_paste_138 : decode cX6_paste 138 = .ok (.iload 5, 2) := by decide +kernel
theorem dX6_paste_140 : decode cX6_paste 140 = .ok (.imul, 1) := by decide +kernel
theorem dX6_paste_141 : decode cX6_paste 141 = .ok (.iadd, 1) := by decide +kernel
theorem dX6_paste_142 : decode cX6_paste 142 = .ok (.iaload, 1) := by decide +kernel
theorem dX6_paste_143 : decode cX6_paste 143 = .ok (.iload 4, 2) := by decide +kernel
theorem dX6_paste_145 : decode cX6_paste 145 = .ok (.aload_n 0, 1) := by decide +kernel
theorem dX6_paste_146 : decode cX6_paste 146 = .ok (.getfield 7, 3) := by decide +kernel
theorem dX6_paste_149 : decode cX6_paste 149 = .ok (.sipush 138, 3) := by decide +kernel
theorem dX6_paste_152 : decode cX6_paste 152 = .ok (.iconst 2, 1) := by decide +kernel
theorem dX6_paste_153 : decode cX6_paste 153 = .ok (.iload 5, 2) := by decide +kernel
theorem dX6_paste_155 : decode cX6_paste 155 = .ok (.imul, 1) := by decide +kernel
theorem dX6_paste_156 : decode cX6_paste 156 = .ok (.iadd, 1) := by decide +kernel
theorem dX6_paste_157 : decode cX6_paste 157 = .ok (.iconst 1, 1) := by decide +kernel
theorem dX6_paste_158 : decode cX6_paste 158 = .ok (.iadd, 1) := by decide +kernel
theorem dX6_paste_159 : decode cX6_paste 159 = .ok (.iaload, 1) := by decide +kernel
theorem dX6_paste_160 : decode cX6_paste 160 = .ok (.iadd, 1) := by decide +kernel
theorem dX6_paste_161 : decode cX6_paste 161 = .ok (.invokevirtual 90, 3) := by decide +kernel
theorem dX6_paste_164 : decode cX6_paste 164 = .ok (.iinc 5 1, 3) := by decide +kernel
theorem dX6_paste_167 : decode cX6_paste 167 = .ok (.goto (-53), 3) := by decide +kernel
theorem dX6_paste_170 : decode cX6_paste 170 = .ok (.aload_n 0, 1) := by decide +kernel
theorem dX6_paste_171 : decode cX6_paste 171 = .ok (.aload_n 0, 1) := by decide +kernel
theorem dX6_paste_172 : decode cX6_paste 172 = .ok (.getfield 7, 3) := by decide +kernel
theorem dX6_paste_175 : decode cX6_paste 175 = .ok (.iconst 0, 1) := by decide +kernel
theorem dX6_paste_176 : decode cX6_paste 176 = .ok (.iaload, 1) := by decide +kernel
theorem dX6_paste_177 : decode cX6_paste 177 = .ok (.invokevirtual 72, 3) := by decide +kernel
theorem dX6_paste_180 : decode cX6_paste 180 = .ok (.ireturn, 1) := by decide +kernel
theorem dX6_mark_0 : decode cX6_mark 0 = .ok (.aload_n 0, 1) := by decide +kernel
theorem dX6_mark_1 : decode cX6_mark 1 = .ok (.invokevirtual 55, 3) := by decide +kernel
theorem dX6_mark_4 : decode cX6_mark 4 = .ok (.iload_n 1, 1) := by decide +kernel
theorem dX6_mark_5 : decode cX6_mark 5 = .ok (.iconst 0, 1) := by decide +kernel
theorem dX6_mark_6 : decode cX6_mark 6 = .ok (.iconst 3, 1) := by decide +kernel
theorem dX6_mark_7 : decode cX6_mark 7 = .ok (.invokestatic 35, 3) := by decide +kernel
theorem dX6_mark_10 : decode cX6_mark 10 = .ok (.ifCond .ne 5, 3) := by decide +kernel
theorem dX6_mark_13 : decode cX6_mark 13 = .ok (.iconst (-1), 1) := by decide +kernel
theorem dX6_mark_14 : decode cX6_mark 14 = .ok (.ireturn, 1) := by decide +kernel
theorem dX6_mark_15 : decode cX6_mark 15 = .ok (.aload_n 0, 1) := by decide +kernel
theorem dX6_mark_16 : decode cX6_mark 16 = .ok (.aload_n 0, 1) := by decide +kernel
theorem dX6_mark_17 : decode cX6_mark 17 = .ok (.getfield 7, 3) := by decide +kernel
theorem dX6_mark_20 : decode cX6_mark 20 = .ok (.iconst 5, 1) := by decide +kernel
theorem dX6_mark_21 : decode cX6_mark 21 = .ok (.iload_n 1, 1) := by decide +kernel
theorem dX6_mark_22 : decode cX6_mark 22 = .ok (.iadd, 1) := by decide +kernel
theorem dX6_mark_23 : decode cX6_mark 23 = .ok (.iaload, 1) := by decide +kernel
theorem dX6_mark_24 : decode cX6_mark 24 = .ok (.invokevirtual 43, 3) := by decide +kernel
theorem dX6_mark_27 : decode cX6_mark 27 = .ok (.istore_n 2, 1) := by decide +kernel
theorem dX6_mark_28 : decode cX6_mark 28 = .ok (.aload_n 0, 1) := by decide +kernel
theorem dX6_mark_29 : decode cX6_mark 29 = .ok (.getfield 7, 3) := by decide +kernel
theorem dX6_mark_32 : decode cX6_mark 32 = .ok (.iconst 5, 1) := by decide +kernel
theorem dX6_mark_33 : decode cX6_mark 33 = .ok (.iload_n 1, 1) := by decide +kernel
theorem dX6_mark_34 : decode cX6_mark 34 = .ok (.iadd, 1) := by decide +kernel
theorem dX6_mark_35 : decode cX6_mark 35 = .ok (.aload_n 0, 1) := by decide +kernel
theorem dX6_mark_36 : decode cX6_mark 36 = .ok (.getfield 7, 3) := by decide +kernel
theorem dX6_mark_39 : decode cX6_mark 39 = .ok (.iconst 2, 1) := by decide +kernel
theorem dX6_mark_40 : decode cX6_mark 40 = .ok (.iaload, 1) := by decide +kernel
theorem dX6_mark_41 : decode cX6_mark 41 = .ok (.iastore, 1) := by decide +kernel
theorem dX6_mark_42 : decode cX6_mark 42 = .ok (.aload_n 0, 1) := by decide +kernel
theorem dX6_mark_43 : decode cX6_mark 43 = .ok (.iload_n 2, 1) := by decide +kernel
theorem dX6_mark_44 : decode cX6_mark 44 = .ok (.ifCond .ge 8, 3) := by decide +kernel
theorem dX6_mark_47 : decode cX6_mark 47 = .ok (.bipush 100, 2) := by decide +kernel
theorem dX6_mark_49 : decode cX6_mark 49 = .ok (.goto 4, 3) := by decide +kernel
theorem dX6_mark_52 : decode cX6_mark 52 = .ok (.iload_n 2, 1) := by decide +kernel
theorem dX6_mark_53 : decode cX6_mark 53 = .ok (.invokevirtual 72, 3) := by decide +kernel
theorem dX6_mark_56 : decode cX6_mark 56 = .ok (.ireturn, 1) := by decide +kernel
theorem dX6_goTo_0 : decode cX6_goTo 0 = .ok (.aload_n 0, 1) := by decide +kernel
theorem dX6_goTo_1 : decode cX6_goTo 1 = .ok (.invokevirtual 55, 3) := by decide +kernel
theorem dX6_goTo_4 : decode cX6_goTo 4 = .ok (.iload_n 1, 1) := by decide +kernel
theorem dX6_goTo_5 : decode cX6_goTo 5 = .ok (.iconst 0, 1) := by decide +kernel
theorem dX6_goTo_6 : decode cX6_goTo 6 = .ok (.iconst 3, 1) := by decide +kernel
theorem dX6_goTo_7 : decode cX6_goTo 7 = .ok (.invokestatic 35, 3) := by decide +kernel
theorem dX6_goTo_10 : decode cX6_goTo 10 = .ok (.ifCond .ne 5, 3) := by decide +kernel
theorem dX6_goTo_13 : decode cX6_goTo 13 = .ok (.iconst (-1), 1) := by decide +kernel
theorem dX6_goTo_14 : decode cX6_goTo 14 = .ok (.ireturn, 1) := by decide +kernel
theorem dX6_goTo_15 : decode cX6_goTo 15 = .ok (.aload_n 0, 1) := by decide +kernel
theorem dX6_goTo_16 : decode cX6_goTo 16 = .ok (.aload_n 0, 1) := by decide +kernel
theorem dX6_goTo_17 : decode cX6_goTo 17 = .ok (.getfield 7, 3) := by decide +kernel
theorem dX6_goTo_20 : decode cX6_goTo 20 = .ok (.iconst 5, 1) := by decide +kernel
theorem dX6_goTo_21 : decode cX6_goTo 21 = .ok (.iload_n 1, 1) := by decide +kernel
theorem dX6_goTo_22 : decode cX6_goTo 22 = .ok (.iadd, 1) := by decide +kernel
theorem dX6_goTo_23 : decode cX6_goTo 23 = .ok (.iaload, 1) := by decide +kernel
theorem dX6_goTo_24 : decode cX6_goTo 24 = .ok (.invokevirtual 43, 3) := by decide +kernel
theorem dX6_goTo_27 : decode cX6_goTo 27 = .ok (.istore_n 2, 1) := by decide +kernel
theorem dX6_goTo_28 : decode cX6_goTo 28 = .ok (.iload_n 2, 1) := by decide +kernel
theorem dX6_goTo_29 : decode cX6_goTo 29 = .ok (.ifCond .ge 8, 3) := by decide +kernel
theorem dX6_goTo_32 : decode cX6_goTo 32 = .ok (.bipush (-2), 2) := by decide +kernel
theorem dX6_goTo_34 : decode cX6_goTo 34 = .ok (.goto 12, 3) := by decide +kernel
theorem dX6_goTo_37 : decode cX6_goTo 37 = .ok (.aload_n 0, 1) := by decide +kernel
theorem dX6_goTo_38 : decode cX6_goTo 38 = .ok (.aload_n 0, 1) := by decide +kernel
theorem dX6_goTo_39 : decode cX6_goTo 39 = .ok (.iload_n 2, 1) := by decide +kernel
theorem dX6_goTo_40 : decode cX6_goTo 40 = .ok (.invokevirtual 69, 3) := by decide +kernel
theorem dX6_goTo_43 : decode cX6_goTo 43 = .ok (.invokevirtual 72, 3) := by decide +kernel
theorem dX6_goTo_46 : decode cX6_goTo 46 = .ok (.ireturn, 1) := by decide +kernel
theorem dX6_orNone_0 : decode cX6_orNone 0 = .ok (.iload_n 0, 1) := by decide +kernel
theorem dX6_orNone_1 : decode cX6_orNone 1 = .ok (.ifCond .ge 8, 3) := by decide +kernel
theorem dX6_orNone_4 : decode cX6_orNone 4 = .ok (.bipush (-4), 2) := by decide +kernel
theorem dX6_orNone_6 : decode cX6_orNone 6 = .ok (.goto 4, 3) := by decide +kernel
theorem dX6_orNone_9 : decode cX6_orNone 9 = .ok (.iload_n 0, 1) := by decide +kernel
theorem dX6_orNone_10 : decode cX6_orNone 10 = .ok (.ireturn, 1) := by decide +kernel
theorem dX6_marksAt_0 : decode cX6_marksAt 0 = .ok (.iconst 0, 1) := by decide +kernel
theorem dX6_marksAt_1 : decode cX6_marksAt 1 = .ok (.istore_n 2, 1) := by decide +kernel
theorem dX6_marksAt_2 : decode cX6_marksAt 2 = .ok (.iconst 0, 1) := by decide +kernel
theorem dX6_marksAt_3 : decode cX6_marksAt 3 = .ok (.istore_n 3, 1) := by decide +kernel
theorem dX6_marksAt_4 : decode cX6_marksAt 4 = .ok (.iload_n 3, 1) := by decide +kernel
theorem dX6_marksAt_5 : decode cX6_marksAt 5 = .ok (.iconst 4, 1) := by decide +kernel
theorem dX6_marksAt_6 : decode cX6_marksAt 6 = .ok (.if_icmp .ge 35, 3) := by decide +kernel
theorem dX6_marksAt_9 : decode cX6_marksAt 9 = .ok (.iload_n 2, 1) := by decide +kernel
theorem dX6_marksAt_10 : decode cX6_marksAt 10 = .ok (.aload_n 0, 1) := by decide +kernel
theorem dX6_marksAt_11 : decode cX6_marksAt 11 = .ok (.getfield 7, 3) := by decide +kernel
theorem dX6_marksAt_14 : decode cX6_marksAt 14 = .ok (.iconst 5, 1) := by decide +kernel
theorem dX6_marksAt_15 : decode cX6_marksAt 15 = .ok (.iload_n 3, 1) := by decide +kernel
theorem dX6_marksAt_16 : decode cX6_marksAt 16 = .ok (.iadd, 1) := by decide +kernel
theorem dX6_marksAt_17 : decode cX6_marksAt 17 = .ok (.iaload, 1) := by decide +kernel
theorem dX6_marksAt_18 : decode cX6_marksAt 18 = .ok (.aload_n 0, 1) := by decide +kernel
theorem dX6_marksAt_19 : decode cX6_marksAt 19 = .ok (.iload_n 1, 1) := by decide +kernel
theorem dX6_marksAt_20 : decode cX6_marksAt 20 = .ok (.invokevirtual 39, 3) := by decide +kernel
theorem dX6_marksAt_23 : decode cX6_marksAt 23 = .ok (.if_icmp .ne 9, 3) := by decide +kernel
theorem dX6_marksAt_26 : decode cX6_marksAt 26 = .ok (.iconst 1, 1) := by decide +kernel
theorem dX6_marksAt_27 : decode cX6_marksAt 27 = .ok (.iload_n 3, 1) := by decide +kernel
theorem dX6_marksAt_28 : decode cX6_marksAt 28 = .ok (.ishl, 1) := by decide +kernel
theorem dX6_marksAt_29 : decode cX6_marksAt 29 = .ok (.goto 4, 3) := by decide +kernel
theorem dX6_marksAt_32 : decode cX6_marksAt 32 = .ok (.iconst 0, 1) := by decide +kernel
theorem dX6_marksAt_33 : decode cX6_marksAt 33 = .ok (.ior, 1) := by decide +kernel
theorem dX6_marksAt_34 : decode cX6_marksAt 34 = .ok (.istore_n 2, 1) := by decide +kernel
theorem dX6_marksAt_35 : decode cX6_marksAt 35 = .ok (.iinc 3 1, 3) := by decide +kernel
theorem dX6_marksAt_38 : decode cX6_marksAt 38 = .ok (.goto (-34), 3) := by decide +kernel
theorem dX6_marksAt_41 : decode cX6_marksAt 41 = .ok (.iload_n 2, 1) := by decide +kernel
theorem dX6_marksAt_42 : decode cX6_marksAt 42 = .ok (.ireturn, 1) := by decide +kernel
theorem dX6_nodeOf_0 : decode cX6_nodeOf 0 = .ok (.aload_n 0, 1) := by decide +kernel
theorem dX6_nodeOf_1 : decode cX6_nodeOf 1 = .ok (.iload_n 1, 1) := by decide +kernel
theorem dX6_nodeOf_2 : decode cX6_nodeOf 2 = .ok (.invokevirtual 79, 3) := by decide +kernel
theorem dX6_nodeOf_5 : decode cX6_nodeOf 5 = .ok (.ifCond .eq 13, 3) := by decide +kernel
theorem dX6_nodeOf_8 : decode cX6_nodeOf 8 = .ok (.iload_n 2, 1) := by decide +kernel
theorem dX6_nodeOf_9 : decode cX6_nodeOf 9 = .ok (.iconst 0, 1) := by decide +kernel
theorem dX6_nodeOf_10 : decode cX6_nodeOf 10 = .ok (.bipush 7, 2) := by decide +kernel
theorem dX6_nodeOf_12 : decode cX6_nodeOf 12 = .ok (.invokestatic 35, 3) := by decide +kernel
theorem dX6_nodeOf_15 : decode cX6_nodeOf 15 = .ok (.ifCond .ne 5, 3) := by decide +kernel
theorem dX6_nodeOf_18 : decode cX6_nodeOf 18 = .ok (.iconst (-1), 1) := by decide +kernel
theorem dX6_nodeOf_19 : decode cX6_nodeOf 19 = .ok (.ireturn, 1) := by decide +kernel
theorem dX6_nodeOf_20 : decode cX6_nodeOf 20 = .ok (.iload_n 2, 1) := by decide +kernel
theorem dX6_nodeOf_21 : decode cX6_nodeOf 21 = .ok (.tableswitch 99 0 6 #[43, 49, 55, 64, 70, 78, 93], 43) := by decide +kernel
theorem dX6_nodeOf_64 : decode cX6_nodeOf 64 = .ok (.aload_n 0, 1) := by decide +kernel
theorem dX6_nodeOf_65 : decode cX6_nodeOf 65 = .ok (.iload_n 1, 1) := by decide +kernel
theorem dX6_nodeOf_66 : decode cX6_nodeOf 66 = .ok (.invokevirtual 83, 3) := by decide +kernel
theorem dX6_nodeOf_69 : decode cX6_nodeOf 69 = .ok (.ireturn, 1) := by decide +kernel
theorem dX6_nodeOf_70 : decode cX6_nodeOf 70 = .ok (.aload_n 0, 1) := by decide +kernel
theorem dX6_nodeOf_71 : decode cX6_nodeOf 71 = .ok (.iload_n 1, 1) := by decide +kernel
theorem dX6_nodeOf_72 : decode cX6_nodeOf 72 = .ok (.invokevirtual 62, 3) := by decide +kernel
theorem dX6_nodeOf_75 : decode cX6_nodeOf 75 = .ok (.ireturn, 1) := by decide +kernel
theorem dX6_nodeOf_76 : decode cX6_nodeOf 76 = .ok (.aload_n 0, 1) := by decide +kernel
theorem dX6_nodeOf_77 : decode cX6_nodeOf 77 = .ok (.iload_n 1, 1) := by decide +kernel
theorem dX6_nodeOf_78 : decode cX6_nodeOf 78 = .ok (.invokevirtual 52, 3) := by decide +kernel
theorem dX6_nodeOf_81 : decode cX6_nodeOf 81 = .ok (.invokestatic 121, 3) := by decide +kernel
theorem dX6_nodeOf_84 : decode cX6_nodeOf 84 = .ok (.ireturn, 1) := by decide +kernel
theorem dX6_nodeOf_85 : decode cX6_nodeOf 85 = .ok (.aload_n 0, 1) := by decide +kernel
theorem dX6_nodeOf_86 : decode cX6_nodeOf 86 = .ok (.iload_n 1, 1) := by decide +kernel
theorem dX6_nodeOf_87 : decode cX6_nodeOf 87 = .ok (.invokevirtual 46, 3) := by decide +kernel
theorem dX6_nodeOf_90 : decode cX6_nodeOf 90 = .ok (.ireturn, 1) := by decide +kernel
theorem dX6_nodeOf_91 : decode cX6_nodeOf 91 = .ok (.aload_n 0, 1) := by decide +kernel
theorem dX6_nodeOf_92 : decode cX6_nodeOf 92 = .ok (.iload_n 1, 1) := by decide +kernel
theorem dX6_nodeOf_93 : decode cX6_nodeOf 93 = .ok (.invokevirtual 49, 3) := by decide +kernel
theorem dX6_nodeOf_96 : decode cX6_nodeOf 96 = .ok (.iload_n 1, 1) := by decide +kernel
theorem dX6_nodeOf_97 : decode cX6_nodeOf 97 = .ok (.isub, 1) := by decide +kernel
theorem dX6_nodeOf_98 : decode cX6_nodeOf 98 = .ok (.ireturn, 1) := by decide +kernel
theorem dX6_nodeOf_99 : decode cX6_nodeOf 99 = .ok (.iload_n 1, 1) := by decide +kernel
theorem dX6_nodeOf_100 : decode cX6_nodeOf 100 = .ok (.ifCond .ne 8, 3) := by decide +kernel
theorem dX6_nodeOf_103 : decode cX6_nodeOf 103 = .ok (.bipush (-4), 2) := by decide +kernel
theorem dX6_nodeOf_105 : decode cX6_nodeOf 105 = .ok (.goto 8, 3) := by decide +kernel
theorem dX6_nodeOf_108 : decode cX6_nodeOf 108 = .ok (.aload_n 0, 1) := by decide +kernel
theorem dX6_nodeOf_109 : decode cX6_nodeOf 109 = .ok (.iload_n 1, 1) := by decide +kernel
theorem dX6_nodeOf_110 : decode cX6_nodeOf 110 = .ok (.invokevirtual 115, 3) := by decide +kernel
theorem dX6_nodeOf_113 : decode cX6_nodeOf 113 = .ok (.ireturn, 1) := by decide +kernel
theorem dX6_nodeOf_114 : decode cX6_nodeOf 114 = .ok (.aload_n 0, 1) := by decide +kernel
theorem dX6_nodeOf_115 : decode cX6_nodeOf 115 = .ok (.iload_n 1, 1) := by decide +kernel
theorem dX6_nodeOf_116 : decode cX6_nodeOf 116 = .ok (.invokevirtual 106, 3) := by decide +kernel
theorem dX6_nodeOf_119 : decode cX6_nodeOf 119 = .ok (.ireturn, 1) := by decide +kernel
theorem dX6_nodeOf_120 : decode cX6_nodeOf 120 = .ok (.aload_n 0, 1) := by decide +kernel
theorem dX6_nodeOf_121 : decode cX6_nodeOf 121 = .ok (.iload_n 1, 1) := by decide +kernel
theorem dX6_nodeOf_122 : decode cX6_nodeOf 122 = .ok (.invokevirtual 124, 3) := by decide +kernel
theorem dX6_nodeOf_125 : decode cX6_nodeOf 125 = .ok (.ireturn, 1) := by decide +kernel
theorem dX6_spine_0 : decode cX6_spine 0 = .ok (.iload_n 1, 1) := by decide +kernel
theorem dX6_spine_1 : decode cX6_spine 1 = .ok (.ifCond .lt 12, 3) := by decide +kernel
theorem dX6_spine_4 : decode cX6_spine 4 = .ok (.iload_n 2, 1) := by decide +kernel
theorem dX6_spine_5 : decode cX6_spine 5 = .ok (.iconst 0, 1) := by decide +kernel
theorem dX6_spine_6 : decode cX6_spine 6 = .ok (.iconst 2, 1) := by decide +kernel
theorem dX6_spine_7 : decode cX6_spine 7 = .ok (.invokestatic 35, 3) := by decide +kernel
theorem dX6_spine_10 : decode cX6_spine 10 = .ok (.ifCond .ne 5, 3) := by decide +kernel
theorem dX6_spine_13 : decode cX6_spine 13 = .ok (.iconst (-1), 1) := by decide +kernel
theorem dX6_spine_14 : decode cX6_spine 14 = .ok (.ireturn, 1) := by decide +kernel
theorem dX6_spine_15 : decode cX6_spine 15 = .ok (.aload_n 0, 1) := by decide +kernel
theorem dX6_spine_16 : decode cX6_spine 16 = .ok (.invokevirtual 58, 3) := by decide +kernel
theorem dX6_spine_19 : decode cX6_spine 19 = .ok (.istore_n 3, 1) := by decide +kernel
theorem dX6_spine_20 : decode cX6_spine 20 = .ok (.iload_n 1, 1) := by decide +kernel
theorem dX6_spine_21 : decode cX6_spine 21 = .ok (.aload_n 0, 1) := by decide +kernel
theorem dX6_spine_22 : decode cX6_spine 22 = .ok (.iload_n 3, 1) := by decide +kernel
theorem dX6_spine_23 : decode cX6_spine 23 = .ok (.invokevirtual 46, 3) := by decide +kernel
theorem dX6_spine_26 : decode cX6_spine 26 = .ok (.if_icmp .le 6, 3) := by decide +kernel
theorem dX6_spine_29 : decode cX6_spine 29 = .ok (.bipush (-4), 2) := by decide +kernel
theorem dX6_spine_31 : decode cX6_spine 31 = .ok (.ireturn, 1) := by decide +kernel
theorem dX6_spine_32 : decode cX6_spine 32 = .ok (.aload_n 0, 1) := by decide +kernel
theorem dX6_spine_33 : decode cX6_spine 33 = .ok (.iload_n 3, 1) := by decide +kernel
theorem dX6_spine_34 : decode cX6_spine 34 = .ok (.invokevirtual 46, 3) := by decide +kernel
theorem dX6_spine_37 : decode cX6_spine 37 = .ok (.iload_n 1, 1) := by decide +kernel
theorem dX6_spine_38 : decode cX6_spine 38 = .ok (.if_icmp .le 12, 3) := by decide +kernel
theorem dX6_spine_41 : decode cX6_spine 41 = .ok (.aload_n 0, 1) := by decide +kernel
theorem dX6_spine_42 : decode cX6_spine 42 = .ok (.iload_n 3, 1) := by decide +kernel
theorem dX6_spine_43 : decode cX6_spine 43 = .ok (.invokevirtual 52, 3) := by decide +kernel
theorem dX6_spine_46 : decode cX6_spine 46 = .ok (.istore_n 3, 1) := by decide +kernel
theorem dX6_spine_47 : decode cX6_spine 47 = .ok (.goto (-15), 3) := by decide +kernel
theorem dX6_spine_50 : decode cX6_spine 50 = .ok (.iload_n 2, 1) := by decide +kernel
theorem dX6_spine_51 : decode cX6_spine 51 = .ok (.ifCond .ne 7, 3) := by decide +kernel
theorem dX6_spine_54 : decode cX6_spine 54 = .ok (.iload_n 3, 1) := by decide +kernel
theorem dX6_spine_55 : decode cX6_spine 55 = .ok (.goto 29, 3) := by decide +kernel
theorem dX6_spine_58 : decode cX6_spine 58 = .ok (.iload_n 2, 1) := by decide +kernel
theorem dX6_spine_59 : decode cX6_spine 59 = .ok (.iconst 1, 1) := by decide +kernel
theorem dX6_spine_60 : decode cX6_spine 60 = .ok (.if_icmp .ne 11, 3) := by decide +kernel
theorem dX6_spine_63 : decode cX6_spine 63 = .ok (.aload_n 0, 1) := by decide +kernel
theorem dX6_spine_64 : decode cX6_spine 64 = .ok (.iload_n 3, 1) := by decide +kernel
theorem dX6_spine_65 : decode cX6_spine 65 = .ok (.invokevirtual 83, 3) := by decide +kernel
theorem dX6_spine_68 : decode cX6_spine 68 = .ok (.goto 16, 3) := by decide +kernel
theorem dX6_spine_71 : decode cX6_spine 71 = .ok (.iload_n 3, 1) := by decide +kernel
theorem dX6_spine_72 : decode cX6_spine 72 = .ok (.ifCond .ne 7, 3) := by decide +kernel
theorem dX6_spine_75 : decode cX6_spine 75 = .ok (.iconst 0, 1) := by decide +kernel
theorem dX6_spine_76 : decode cX6_spine 76 = .ok (.goto 8, 3) := by decide +kernel
theorem dX6_spine_79 : decode cX6_spine 79 = .ok (.aload_n 0, 1) := by decide +kernel
theorem dX6_spine_80 : decode cX6_spine 80 = .ok (.iload_n 3, 1) := by decide +kernel
theorem dX6_spine_81 : decode cX6_spine 81 = .ok (.invokevirtual 115, 3) := by decide +kernel
theorem dX6_spine_84 : decode cX6_spine 84 = .ok (.ireturn, 1) := by decide +kernel
theorem dX6_marked_0 : decode cX6_marked 0 = .ok (.iload_n 1, 1) := by decide +kernel
theorem dX6_marked_1 : decode cX6_marked 1 = .ok (.iconst 0, 1) := by decide +kernel
theorem dX6_marked_2 : decode cX6_marked 2 = .ok (.iconst 3, 1) := by decide +kernel
theorem dX6_marked_3 : decode cX6_marked 3 = .ok (.invokestatic 35, 3) := by decide +kernel
theorem dX6_marked_6 : decode cX6_marked 6 = .ok (.ifCond .eq 21, 3) := by decide +kernel
theorem dX6_marked_9 : decode cX6_marked 9 = .ok (.aload_n 0, 1) := by decide +kernel
theorem dX6_marked_10 : decode cX6_marked 10 = .ok (.aload_n 0, 1) := by decide +kernel
theorem dX6_marked_11 : decode cX6_marked 11 = .ok (.getfield 7, 3) := by decide +kernel
theorem dX6_marked_14 : decode cX6_marked 14 = .ok (.iconst 5, 1) := by decide +kernel
theorem dX6_marked_15 : decode cX6_marked 15 = .ok (.iload_n 1, 1) := by decide +kernel
theorem dX6_marked_16 : decode cX6_marked 16 = .ok (.iadd, 1) := by decide +kernel
theorem dX6_marked_17 : decode cX6_marked 17 = .ok (.iaload, 1) := by decide +kernel
theorem dX6_marked_18 : decode cX6_marked 18 = .ok (.invokevirtual 43, 3) := by decide +kernel
theorem dX6_marked_21 : decode cX6_marked 21 = .ok (.invokestatic 121, 3) := by decide +kernel
theorem dX6_marked_24 : decode cX6_marked 24 = .ok (.goto 4, 3) := by decide +kernel
theorem dX6_marked_27 : decode cX6_marked 27 = .ok (.iconst (-1), 1) := by decide +kernel
theorem dX6_marked_28 : decode cX6_marked 28 = .ok (.ireturn, 1) := by decide +kernel
theorem dX6_leaves_0 : decode cX6_leaves 0 = .ok (.iconst 0, 1) := by decide +kernel
theorem dX6_leaves_1 : decode cX6_leaves 1 = .ok (.istore_n 1, 1) := by decide +kernel
theorem dX6_leaves_2 : decode cX6_leaves 2 = .ok (.iconst 0, 1) := by decide +kernel
theorem dX6_leaves_3 : decode cX6_leaves 3 = .ok (.istore_n 2, 1) := by decide +kernel
theorem dX6_leaves_4 : decode cX6_leaves 4 = .ok (.iload_n 2, 1) := by decide +kernel
theorem dX6_leaves_5 : decode cX6_leaves 5 = .ok (.aload_n 0, 1) := by decide +kernel
theorem dX6_leaves_6 : decode cX6_leaves 6 = .ok (.getfield 7, 3) := by decide +kernel
theorem dX6_leaves_9 : decode cX6_leaves 9 = .ok (.iconst 0, 1) := by decide +kernel
theorem dX6_leaves_10 : decode cX6_leaves 10 = .ok (.iaload, 1) := by decide +kernel
theorem dX6_leaves_11 : decode cX6_leaves 11 = .ok (.if_icmp .ge 25, 3) := by decide +kernel
theorem dX6_leaves_14 : decode cX6_leaves 14 = .ok (.iload_n 1, 1) := by decide +kernel
theorem dX6_leaves_15 : decode cX6_leaves 15 = .ok (.aload_n 0, 1) := by decide +kernel
theorem dX6_leaves_16 : decode cX6_leaves 16 = .ok (.iload_n 2, 1) := by decide +kernel
theorem dX6_leaves_17 : decode cX6_leaves 17 = .ok (.invokevirtual 62, 3) := by decide +kernel
theorem dX6_leaves_20 : decode cX6_leaves 20 = .ok (.ifCond .ne 7, 3) := by decide +kernel
theorem dX6_leaves_23 : decode cX6_leaves 23 = .ok (.iconst 1, 1) := by decide +kernel
theorem dX6_leaves_24 : decode cX6_leaves 24 = .ok (.goto 4, 3) := by decide +kernel
theorem dX6_leaves_27 : decode cX6_leaves 27 = .ok (.iconst 0, 1) := by decide +kernel
theorem dX6_leaves_28 : decode cX6_leaves 28 = .ok (.iadd, 1) := by decide +kernel
theorem dX6_leaves_29 : decode cX6_leaves 29 = .ok (.istore_n 1, 1) := by decide +kernel
theorem dX6_leaves_30 : decode cX6_leaves 30 = .ok (.iinc 2 1, 3) := by decide +kernel
theorem dX6_leaves_33 : decode cX6_leaves 33 = .ok (.goto (-29), 3) := by decide +kernel
theorem dX6_leaves_36 : decode cX6_leaves 36 = .ok (.iload_n 1, 1) := by decide +kernel
theorem dX6_leaves_37 : decode cX6_leaves 37 = .ok (.ireturn, 1) := by decide +kernel
theorem dX6_unlike_0 : decode cX6_unlike 0 = .ok (.iconst 0, 1) := by decide +kernel
theorem dX6_unlike_1 : decode cX6_unlike 1 = .ok (.istore_n 1, 1) := by decide +kernel
theorem dX6_unlike_2 : decode cX6_unlike 2 = .ok (.iconst 0, 1) := by decide +kernel
theorem dX6_unlike_3 : decode cX6_unlike 3 = .ok (.istore_n 2, 1) := by decide +kernel
theorem dX6_unlike_4 : decode cX6_unlike 4 = .ok (.iconst 0, 1) := by decide +kernel
theorem dX6_unlike_5 : decode cX6_unlike 5 = .ok (.istore_n 3, 1) := by decide +kernel
theorem dX6_unlike_6 : decode cX6_unlike 6 = .ok (.iload_n 3, 1) := by decide +kernel
theorem dX6_unlike_7 : decode cX6_unlike 7 = .ok (.aload_n 0, 1) := by decide +kernel
theorem dX6_unlike_8 : decode cX6_unlike 8 = .ok (.getfield 7, 3) := by decide +kernel
theorem dX6_unlike_11 : decode cX6_unlike 11 = .ok (.iconst 0, 1) := by decide +kernel
theorem dX6_unlike_12 : decode cX6_unlike 12 = .ok (.iaload, 1) := by decide +kernel
theorem dX6_unlike_13 : decode cX6_unlike 13 = .ok (.if_icmp .ge 39, 3) := by decide +kernel
theorem dX6_unlike_16 : decode cX6_unlike 16 = .ok (.iload_n 1, 1) := by decide +kernel
theorem dX6_unlike_17 : decode cX6_unlike 17 = .ok (.iload_n 2, 1) := by decide +kernel
theorem dX6_unlike_18 : decode cX6_unlike 18 = .ok (.aload_n 0, 1) := by decide +kernel
theorem dX6_unlike_19 : decode cX6_unlike 19 = .ok (.iload_n 3, 1) := by decide +kernel
theorem dX6_unlike_20 : decode cX6_unlike 20 = .ok (.invokevirtual 83, 3) := by decide +kernel
theorem dX6_unlike_23 : decode cX6_unlike 23 = .ok (.ishr, 1) := by decide +kernel
theorem dX6_unlike_24 : decode cX6_unlike 24 = .ok (.iconst 1, 1) := by decide +kernel
theorem dX6_unlike_25 : decode cX6_unlike 25 = .ok (.iand, 1) := by decide +kernel
theorem dX6_unlike_26 : decode cX6_unlike 26 = .ok (.ifCond .ne 7, 3) := by decide +kernel
theorem dX6_unlike_29 : decode cX6_unlike 29 = .ok (.iconst 1, 1) := by decide +kernel
theorem dX6_unlike_30 : decode cX6_unlike 30 = .ok (.goto 4, 3) := by decide +kernel
theorem dX6_unlike_33 : decode cX6_unlike 33 = .ok (.iconst 0, 1) := by decide +kernel
theorem dX6_unlike_34 : decode cX6_unlike 34 = .ok (.iadd, 1) := by decide +kernel
theorem dX6_unlike_35 : decode cX6_unlike 35 = .ok (.istore_n 1, 1) := by decide +kernel
theorem dX6_unlike_36 : decode cX6_unlike 36 = .ok (.iload_n 2, 1) := by decide +kernel
theorem dX6_unlike_37 : decode cX6_unlike 37 = .ok (.iconst 1, 1) := by decide +kernel
theorem dX6_unlike_38 : decode cX6_unlike 38 = .ok (.aload_n 0, 1) := by decide +kernel
theorem dX6_unlike_39 : decode cX6_unlike 39 = .ok (.iload_n 3, 1) := by decide +kernel
theorem dX6_unlike_40 : decode cX6_unlike 40 = .ok (.invokevirtual 83, 3) := by decide +kernel
theorem dX6_unlike_43 : decode cX6_unlike 43 = .ok (.ishl, 1) := by decide +kernel
theorem dX6_unlike_44 : decode cX6_unlike 44 = .ok (.ior, 1) := by decide +kernel
theorem dX6_unlike_45 : decode cX6_unlike 45 = .ok (.istore_n 2, 1) := by decide +kernel
theorem dX6_unlike_46 : decode cX6_unlike 46 = .ok (.iinc 3 1, 3) := by decide +kernel
theorem dX6_unlike_49 : decode cX6_unlike 49 = .ok (.goto (-43), 3) := by decide +kernel
theorem dX6_unlike_52 : decode cX6_unlike 52 = .ok (.iload_n 1, 1) := by decide +kernel
theorem dX6_unlike_53 : decode cX6_unlike 53 = .ok (.ireturn, 1) := by decide +kernel
theorem dX6_count_0 : decode cX6_count 0 = .ok (.iload_n 1, 1) := by decide +kernel
theorem dX6_count_1 : decode cX6_count 1 = .ok (.tableswitch 107 0 8 #[51, 58, 63, 72, 77, 83, 90, 97, 102], 51) := by decide +kernel
theorem dX6_count_52 : decode cX6_count 52 = .ok (.aload_n 0, 1) := by decide +kernel
theorem dX6_count_53 : decode cX6_count 53 = .ok (.getfield 7, 3) := by decide +kernel
theorem dX6_count_56 : decode cX6_count 56 = .ok (.iconst 0, 1) := by decide +kernel
theorem dX6_count_57 : decode cX6_count 57 = .ok (.iaload, 1) := by decide +kernel
theorem dX6_count_58 : decode cX6_count 58 = .ok (.ireturn, 1) := by decide +kernel
theorem dX6_count_59 : decode cX6_count 59 = .ok (.aload_n 0, 1) := by decide +kernel
theorem dX6_count_60 : decode cX6_count 60 = .ok (.invokevirtual 58, 3) := by decide +kernel
theorem dX6_count_63 : decode cX6_count 63 = .ok (.ireturn, 1) := by decide +kernel
theorem dX6_count_64 : decode cX6_count 64 = .ok (.aload_n 0, 1) := by decide +kernel
theorem dX6_count_65 : decode cX6_count 65 = .ok (.aload_n 0, 1) := by decide +kernel
theorem dX6_count_66 : decode cX6_count 66 = .ok (.invokevirtual 58, 3) := by decide +kernel
theorem dX6_count_69 : decode cX6_count 69 = .ok (.invokevirtual 46, 3) := by decide +kernel
theorem dX6_count_72 : decode cX6_count 72 = .ok (.ireturn, 1) := by decide +kernel
theorem dX6_count_73 : decode cX6_count 73 = .ok (.aload_n 0, 1) := by decide +kernel
theorem dX6_count_74 : decode cX6_count 74 = .ok (.invokevirtual 127, 3) := by decide +kernel
theorem dX6_count_77 : decode cX6_count 77 = .ok (.ireturn, 1) := by decide +kernel
theorem dX6_count_78 : decode cX6_count 78 = .ok (.aload_n 0, 1) := by decide +kernel
theorem dX6_count_79 : decode cX6_count 79 = .ok (.iconst 0, 1) := by decide +kernel
theorem dX6_count_80 : decode cX6_count 80 = .ok (.invokevirtual 106, 3) := by decide +kernel
theorem dX6_count_83 : decode cX6_count 83 = .ok (.ireturn, 1) := by decide +kernel
theorem dX6_count_84 : decode cX6_count 84 = .ok (.aload_n 0, 1) := by decide +kernel
theorem dX6_count_85 : decode cX6_count 85 = .ok (.getfield 7, 3) := by decide +kernel
theorem dX6_count_88 : decode cX6_count 88 = .ok (.iconst 3, 1) := by decide +kernel
theorem dX6_count_89 : decode cX6_count 89 = .ok (.iaload, 1) := by decide +kernel
theorem dX6_count_90 : decode cX6_count 90 = .ok (.ireturn, 1) := by decide +kernel
theorem dX6_count_91 : decode cX6_count 91 = .ok (.aload_n 0, 1) := by decide +kernel
theorem dX6_count_92 : decode cX6_count 92 = .ok (.getfield 7, 3) := by decide +kernel
theorem dX6_count_95 : decode cX6_count 95 = .ok (.iconst 4, 1) := by decide +kernel
theorem dX6_count_96 : decode cX6_count 96 = .ok (.iaload, 1) := by decide +kernel
theorem dX6_count_97 : decode cX6_count 97 = .ok (.ireturn, 1) := by decide +kernel
theorem dX6_count_98 : decode cX6_count 98 = .ok (.aload_n 0, 1) := by decide +kernel
theorem dX6_count_99 : decode cX6_count 99 = .ok (.getfield 31, 3) := by decide +kernel
theorem dX6_count_102 : decode cX6_count 102 = .ok (.ireturn, 1) := by decide +kernel
theorem dX6_count_103 : decode cX6_count 103 = .ok (.aload_n 0, 1) := by decide +kernel
theorem dX6_count_104 : decode cX6_count 104 = .ok (.getfield 130, 3) := by decide +kernel
theorem dX6_count_107 : decode cX6_count 107 = .ok (.ireturn, 1) := by decide +kernel
theorem dX6_count_108 : decode cX6_count 108 = .ok (.iload_n 1, 1) := by decide +kernel
theorem dX6_count_109 : decode cX6_count 109 = .ok (.bipush 9, 2) := by decide +kernel
theorem dX6_count_111 : decode cX6_count 111 = .ok (.if_icmp .ne 10, 3) := by decide +kernel
theorem dX6_count_114 : decode cX6_count 114 = .ok (.aload_n 0, 1) := by decide +kernel
theorem dX6_count_115 : decode cX6_count 115 = .ok (.invokevirtual 133, 3) := by decide +kernel
theorem dX6_count_118 : decode cX6_count 118 = .ok (.goto 4, 3) := by decide +kernel
theorem dX6_count_121 : decode cX6_count 121 = .ok (.iconst (-1), 1) := by decide +kernel
theorem dX6_count_122 : decode cX6_count 122 = .ok (.ireturn, 1) := by decide +kernel
theorem dX6_areLike_0 : decode cX6_areLike 0 = .ok (.aload_n 0, 1) := by decide +kernel
theorem dX6_areLike_1 : decode cX6_areLike 1 = .ok (.iload_n 1, 1) := by decide +kernel
theorem dX6_areLike_2 : decode cX6_areLike 2 = .ok (.invokevirtual 49, 3) := by decide +kernel
theorem dX6_areLike_5 : decode cX6_areLike 5 = .ok (.iload_n 1, 1) := by decide +kernel
theorem dX6_areLike_6 : decode cX6_areLike 6 = .ok (.isub, 1) := by decide +kernel
theorem dX6_areLike_7 : decode cX6_areLike 7 = .ok (.istore_n 3, 1) := by decide +kernel
theorem dX6_areLike_8 : decode cX6_areLike 8 = .ok (.aload_n 0, 1) := by decide +kernel
theorem dX6_areLike_9 : decode cX6_areLike 9 = .ok (.iload_n 2, 1) := by decide +kernel
theorem dX6_areLike_10 : decode cX6_areLike 10 = .ok (.invokevirtual 49, 3) := by decide +kernel
theorem dX6_areLike_13 : decode cX6_areLike 13 = .ok (.iload_n 2, 1) := by decide +kernel
theorem dX6_areLike_14 : decode cX6_areLike 14 = .ok (.isub, 1) := by decide +kernel
theorem dX6_areLike_15 : decode cX6_areLike 15 = .ok (.iload_n 3, 1) := by decide +kernel
theorem dX6_areLike_16 : decode cX6_areLike 16 = .ok (.if_icmp .ne 7, 3) := by decide +kernel
theorem dX6_areLike_19 : decode cX6_areLike 19 = .ok (.iconst 1, 1) := by decide +kernel
theorem dX6_areLike_20 : decode cX6_areLike 20 = .ok (.goto 4, 3) := by decide +kernel
theorem dX6_areLike_23 : decode cX6_areLike 23 = .ok (.iconst 0, 1) := by decide +kernel
theorem dX6_areLike_24 : decode cX6_areLike 24 = .ok (.istore 4, 2) := by decide +kernel
theorem dX6_areLike_26 : decode cX6_areLike 26 = .ok (.iconst 0, 1) := by decide +kernel
theorem dX6_areLike_27 : decode cX6_areLike 27 = .ok (.istore 5, 2) := by decide +kernel
theorem dX6_areLike_29 : decode cX6_areLike 29 = .ok (.iload 5, 2) := by decide +kernel
theorem dX6_areLike_31 : decode cX6_areLike 31 = .ok (.iload_n 3, 1) := by decide +kernel
theorem dX6_areLike_32 : decode cX6_areLike 32 = .ok (.if_icmp .ge 71, 3) := by decide +kernel
theorem dX6_areLike_35 : decode cX6_areLike 35 = .ok (.iload 4, 2) := by decide +kernel
theorem dX6_areLike_37 : decode cX6_areLike 37 = .ok (.ifCond .eq 66, 3) := by decide +kernel
theorem dX6_areLike_40 : decode cX6_areLike 40 = .ok (.aload_n 0, 1) := by decide +kernel
theorem dX6_areLike_41 : decode cX6_areLike 41 = .ok (.iload_n 1, 1) := by decide +kernel
theorem dX6_areLike_42 : decode cX6_areLike 42 = .ok (.iload 5, 2) := by decide +kernel
theorem dX6_areLike_44 : decode cX6_areLike 44 = .ok (.iadd, 1) := by decide +kernel
theorem dX6_areLike_45 : decode cX6_areLike 45 = .ok (.invokevirtual 83, 3) := by decide +kernel
theorem dX6_areLike_48 : decode cX6_areLike 48 = .ok (.aload_n 0, 1) := by decide +kernel
theorem dX6_areLike_49 : decode cX6_areLike 49 = .ok (.iload_n 2, 1) := by decide +kernel
theorem dX6_areLike_50 : decode cX6_areLike 50 = .ok (.iload 5, 2) := by decide +kernel
theorem dX6_areLike_52 : decode cX6_areLike 52 = .ok (.iadd, 1) := by decide +kernel
theorem dX6_areLike_53 : decode cX6_areLike 53 = .ok (.invokevirtual 83, 3) := by decide +kernel
theorem dX6_areLike_56 : decode cX6_areLike 56 = .ok (.if_icmp .ne 38, 3) := by decide +kernel
theorem dX6_areLike_59 : decode cX6_areLike 59 = .ok (.aload_n 0, 1) := by decide +kernel
theorem dX6_areLike_60 : decode cX6_areLike 60 = .ok (.iload_n 1, 1) := by decide +kernel
theorem dX6_areLike_61 : decode cX6_areLike 61 = .ok (.iload 5, 2) := by decide +kernel
theorem dX6_areLike_63 : decode cX6_areLike 63 = .ok (.iadd, 1) := by decide +kernel
theorem dX6_areLike_64 : decode cX6_areLike 64 = .ok (.invokevirtual 46, 3) := by decide +kernel
theorem dX6_areLike_67 : decode cX6_areLike 67 = .ok (.aload_n 0, 1) := by decide +kernel
theorem dX6_areLike_68 : decode cX6_areLike 68 = .ok (.iload_n 1, 1) := by decide +kernel
theorem dX6_areLike_69 : decode cX6_areLike 69 = .ok (.invokevirtual 46, 3) := by decide +kernel
theorem dX6_areLike_72 : decode cX6_areLike 72 = .ok (.isub, 1) := by decide +kernel
theorem dX6_areLike_73 : decode cX6_areLike 73 = .ok (.aload_n 0, 1) := by decide +kernel
theorem dX6_areLike_74 : decode cX6_areLike 74 = .ok (.iload_n 2, 1) := by decide +kernel
theorem dX6_areLike_75 : decode cX6_areLike 75 = .ok (.iload 5, 2) := by decide +kernel
theorem dX6_areLike_77 : decode cX6_areLike 77 = .ok (.iadd, 1) := by decide +kernel
theorem dX6_areLike_78 : decode cX6_areLike 78 = .ok (.invokevirtual 46, 3) := by decide +kernel
theorem dX6_areLike_81 : decode cX6_areLike 81 = .ok (.aload_n 0, 1) := by decide +kernel
theorem dX6_areLike_82 : decode cX6_areLike 82 = .ok (.iload_n 2, 1) := by decide +kernel
theorem dX6_areLike_83 : decode cX6_areLike 83 = .ok (.invokevirtual 46, 3) := by decide +kernel
theorem dX6_areLike_86 : decode cX6_areLike 86 = .ok (.isub, 1) := by decide +kernel
theorem dX6_areLike_87 : decode cX6_areLike 87 = .ok (.if_icmp .ne 7, 3) := by decide +kernel
theorem dX6_areLike_90 : decode cX6_areLike 90 = .ok (.iconst 1, 1) := by decide +kernel
theorem dX6_areLike_91 : decode cX6_areLike 91 = .ok (.goto 4, 3) := by decide +kernel
theorem dX6_areLike_94 : decode cX6_areLike 94 = .ok (.iconst 0, 1) := by decide +kernel
theorem dX6_areLike_95 : decode cX6_areLike 95 = .ok (.istore 4, 2) := by decide +kernel
theorem dX6_areLike_97 : decode cX6_areLike 97 = .ok (.iinc 5 1, 3) := by decide +kernel
theorem dX6_areLike_100 : decode cX6_areLike 100 = .ok (.goto (-71), 3) := by decide +kernel
theorem dX6_areLike_103 : decode cX6_areLike 103 = .ok (.iload 4, 2) := by decide +kernel
theorem dX6_areLike_105 : decode cX6_areLike 105 = .ok (.ireturn, 1) := by decide +kernel
theorem dX6_like_0 : decode cX6_like 0 = .ok (.aload_n 0, 1) := by decide +kernel
theorem dX6_like_1 : decode cX6_like 1 = .ok (.invokevirtual 58, 3) := by decide +kernel
theorem dX6_like_4 : decode cX6_like 4 = .ok (.istore_n 1, 1) := by decide +kernel
theorem dX6_like_5 : decode cX6_like 5 = .ok (.iconst 0, 1) := by decide +kernel
theorem dX6_like_6 : decode cX6_like 6 = .ok (.istore_n 2, 1) := by decide +kernel
theorem dX6_like_7 : decode cX6_like 7 = .ok (.iconst 0, 1) := by decide +kernel
theorem dX6_like_8 : decode cX6_like 8 = .ok (.istore_n 3, 1) := by decide +kernel
theorem dX6_like_9 : decode cX6_like 9 = .ok (.iload_n 3, 1) := by decide +kernel
theorem dX6_like_10 : decode cX6_like 10 = .ok (.aload_n 0, 1) := by decide +kernel
theorem dX6_like_11 : decode cX6_like 11 = .ok (.getfield 7, 3) := by decide +kernel
theorem dX6_like_14 : decode cX6_like 14 = .ok (.iconst 0, 1) := by decide +kernel
theorem dX6_like_15 : decode cX6_like 15 = .ok (.iaload, 1) := by decide +kernel
theorem dX6_like_16 : decode cX6_like 16 = .ok (.if_icmp .ge 26, 3) := by decide +kernel
theorem dX6_like_19 : decode cX6_like 19 = .ok (.iload_n 2, 1) := by decide +kernel
theorem dX6_like_20 : decode cX6_like 20 = .ok (.aload_n 0, 1) := by decide +kernel
theorem dX6_like_21 : decode cX6_like 21 = .ok (.iload_n 1, 1) := by decide +kernel
theorem dX6_like_22 : decode cX6_like 22 = .ok (.iload_n 3, 1) := by decide +kernel
theorem dX6_like_23 : decode cX6_like 23 = .ok (.invokevirtual 136, 3) := by decide +kernel
theorem dX6_like_26 : decode cX6_like 26 = .ok (.ifCond .eq 7, 3) := by decide +kernel
theorem dX6_like_29 : decode cX6_like 29 = .ok (.iconst 1, 1) := by decide +kernel
theorem dX6_like_30 : decode cX6_like 30 = .ok (.goto 4, 3) := by decide +kernel
theorem dX6_like_33 : decode cX6_like 33 = .ok (.iconst 0, 1) := by decide +kernel
theorem dX6_like_34 : decode cX6_like 34 = .ok (.iadd, 1) := by decide +kernel
theorem dX6_like_35 : decode cX6_like 35 = .ok (.istore_n 2, 1) := by decide +kernel
theorem dX6_like_36 : decode cX6_like 36 = .ok (.iinc 3 1, 3) := by decide +kernel
theorem dX6_like_39 : decode cX6_like 39 = .ok (.goto (-30), 3) := by decide +kernel
theorem dX6_like_42 : decode cX6_like 42 = .ok (.iload_n 2, 1) := by decide +kernel
theorem dX6_like_43 : decode cX6_like 43 = .ok (.ireturn, 1) := by decide +kernel
theorem dX6_meet_0 : decode cX6_meet 0 = .ok (.aload_n 0, 1) := by decide +kernel
theorem dX6_meet_1 : decode cX6_meet 1 = .ok (.iload_n 1, 1) := by decide +kernel
theorem dX6_meet_2 : decode cX6_meet 2 = .ok (.invokevirtual 79, 3) := by decide +kernel
theorem dX6_meet_5 : decode cX6_meet 5 = .ok (.ifCond .eq 11, 3) := by decide +kernel
theorem dX6_meet_8 : decode cX6_meet 8 = .ok (.aload_n 0, 1) := by decide +kernel
theorem dX6_meet_9 : decode cX6_meet 9 = .ok (.iload_n 2, 1) := by decide +kernel
theorem dX6_meet_10 : decode cX6_meet 10 = .ok (.invokevirtual 79, 3) := by decide +kernel
theorem dX6_meet_13 : decode cX6_meet 13 = .ok (.ifCond .ne 5, 3) := by decide +kernel
theorem dX6_meet_16 : decode cX6_meet 16 = .ok (.iconst (-1), 1) := by decide +kernel
theorem dX6_meet_17 : decode cX6_meet 17 = .ok (.ireturn, 1) := by decide +kernel
theorem dX6_meet_18 : decode cX6_meet 18 = .ok (.iload_n 1, 1) := by decide +kernel
theorem dX6_meet_19 : decode cX6_meet 19 = .ok (.istore_n 3, 1) := by decide +kernel
theorem dX6_meet_20 : decode cX6_meet 20 = .ok (.iload_n 2, 1) := by decide +kernel
theorem dX6_meet_21 : decode cX6_meet 21 = .ok (.istore 4, 2) := by decide +kernel
theorem dX6_meet_23 : decode cX6_meet 23 = .ok (.iload_n 3, 1) := by decide +kernel
theorem dX6_meet_24 : decode cX6_meet 24 = .ok (.iload 4, 2) := by decide +kernel
theorem dX6_meet_26 : decode cX6_meet 26 = .ok (.if_icmp .eq 61, 3) := by decide +kernel
theorem dX6_meet_29 : decode cX6_meet 29 = .ok (.aload_n 0, 1) := by decide +kernel
theorem dX6_meet_30 : decode cX6_meet 30 = .ok (.iload_n 3, 1) := by decide +kernel
theorem dX6_meet_31 : decode cX6_meet 31 = .ok (.invokevirtual 46, 3) := by decide +kernel
theorem dX6_meet_34 : decode cX6_meet 34 = .ok (.aload_n 0, 1) := by decide +kernel
theorem dX6_meet_35 : decode cX6_meet 35 = .ok (.iload 4, 2) := by decide +kernel
theorem dX6_meet_37 : decode cX6_meet 37 = .ok (.invokevirtual 46, 3) := by decide +kernel
theorem dX6_meet_40 : decode cX6_meet 40 = .ok (.if_icmp .lt 11, 3) := by decide +kernel
theorem dX6_meet_43 : decode cX6_meet 43 = .ok (.aload_n 0, 1) := by decide +kernel
theorem dX6_meet_44 : decode cX6_meet 44 = .ok (.iload_n 3, 1) := by decide +kernel
theorem dX6_meet_45 : decode cX6_meet 45 = .ok (.invokevirtual 52, 3) := by decide +kernel
theorem dX6_meet_48 : decode cX6_meet 48 = .ok (.goto 4, 3) := by decide +kernel
theorem dX6_meet_51 : decode cX6_meet 51 = .ok (.iload_n 3, 1) := by decide +kernel
theorem dX6_meet_52 : decode cX6_meet 52 = .ok (.istore 5, 2) := by decide +kernel
theorem dX6_meet_54 : decode cX6_meet 54 = .ok (.aload_n 0, 1) := by decide +kernel
theorem dX6_meet_55 : decode cX6_meet 55 = .ok (.iload_n 3, 1) := by decide +kernel
theorem dX6_meet_56 : decode cX6_meet 56 = .ok (.invokevirtual 46, 3) := by decide +kernel
theorem dX6_meet_59 : decode cX6_meet 59 = .ok (.aload_n 0, 1) := by decide +kernel
theorem dX6_meet_60 : decode cX6_meet 60 = .ok (.iload 4, 2) := by decide +kernel
theorem dX6_meet_62 : decode cX6_meet 62 = .ok (.invokevirtual 46, 3) := by decide +kernel
theorem dX6_meet_65 : decode cX6_meet 65 = .ok (.if_icmp .lt 8, 3) := by decide +kernel
theorem dX6_meet_68 : decode cX6_meet 68 = .ok (.iload 4, 2) := by decide +kernel
theorem dX6_meet_70 : decode cX6_meet 70 = .ok (.goto 9, 3) := by decide +kernel
theorem dX6_meet_73 : decode cX6_meet 73 = .ok (.aload_n 0, 1) := by decide +kernel
theorem dX6_meet_74 : decode cX6_meet 74 = .ok (.iload 4, 2) := by decide +kernel
theorem dX6_meet_76 : decode cX6_meet 76 = .ok (.invokevirtual 52, 3) := by decide +kernel
theorem dX6_meet_79 : decode cX6_meet 79 = .ok (.istore 4, 2) := by decide +kernel
theorem dX6_meet_81 : decode cX6_meet 81 = .ok (.iload 5, 2) := by decide +kernel
theorem dX6_meet_83 : decode cX6_meet 83 = .ok (.istore_n 3, 1) := by decide +kernel
theorem dX6_meet_84 : decode cX6_meet 84 = .ok (.goto (-61), 3) := by decide +kernel
theorem dX6_meet_87 : decode cX6_meet 87 = .ok (.iload_n 3, 1) := by decide +kernel
theorem dX6_meet_88 : decode cX6_meet 88 = .ok (.ireturn, 1) := by decide +kernel
theorem dX6_find_0 : decode cX6_find 0 = .ok (.iload_n 1, 1) := by decide +kernel
theorem dX6_find_1 : decode cX6_find 1 = .ok (.iconst 0, 1) := by decide +kernel
theorem dX6_find_2 : decode cX6_find 2 = .ok (.bipush 25, 2) := by decide +kernel
theorem dX6_find_4 : decode cX6_find 4 = .ok (.invokestatic 35, 3) := by decide +kernel
theorem dX6_find_7 : decode cX6_find 7 = .ok (.ifCond .ne 5, 3) := by decide +kernel
theorem dX6_find_10 : decode cX6_find 10 = .ok (.iconst (-1), 1) := by decide +kernel
theorem dX6_find_11 : decode cX6_find 11 = .ok (.ireturn, 1) := by decide +kernel
theorem dX6_find_12 : decode cX6_find 12 = .ok (.aload_n 0, 1) := by decide +kernel
theorem dX6_find_13 : decode cX6_find 13 = .ok (.invokevirtual 58, 3) := by decide +kernel
theorem dX6_find_16 : decode cX6_find 16 = .ok (.istore_n 2, 1) := by decide +kernel
theorem dX6_find_17 : decode cX6_find 17 = .ok (.iconst 1, 1) := by decide +kernel
theorem dX6_find_18 : decode cX6_find 18 = .ok (.istore_n 3, 1) := by decide +kernel
theorem dX6_find_19 : decode cX6_find 19 = .ok (.iload_n 3, 1) := by decide +kernel
theorem dX6_find_20 : decode cX6_find 20 = .ok (.aload_n 0, 1) := by decide +kernel
theorem dX6_find_21 : decode cX6_find 21 = .ok (.getfield 7, 3) := by decide +kernel
theorem dX6_find_24 : decode cX6_find 24 = .ok (.iconst 0, 1) := by decide +kernel
theorem dX6_find_25 : decode cX6_find 25 = .ok (.iaload, 1) := by decide +kernel
theorem dX6_find_26 : decode cX6_find 26 = .ok (.if_icmp .gt 34, 3) := by decide +kernel
theorem dX6_find_29 : decode cX6_find 29 = .ok (.iload_n 2, 1) := by decide +kernel
theorem dX6_find_30 : decode cX6_find 30 = .ok (.iload_n 3, 1) := by decide +kernel
theorem dX6_find_31 : decode cX6_find 31 = .ok (.iadd, 1) := by decide +kernel
theorem dX6_find_32 : decode cX6_find 32 = .ok (.aload_n 0, 1) := by decide +kernel
theorem dX6_find_33 : decode cX6_find 33 = .ok (.getfield 7, 3) := by decide +kernel
theorem dX6_find_36 : decode cX6_find 36 = .ok (.iconst 0, 1) := by decide +kernel
theorem dX6_find_37 : decode cX6_find 37 = .ok (.iaload, 1) := by decide +kernel
theorem dX6_find_38 : decode cX6_find 38 = .ok (.irem, 1) := by decide +kernel
theorem dX6_find_39 : decode cX6_find 39 = .ok (.istore 4, 2) := by decide +kernel
theorem dX6_find_41 : decode cX6_find 41 = .ok (.aload_n 0, 1) := by decide +kernel
theorem dX6_find_42 : decode cX6_find 42 = .ok (.iload 4, 2) := by decide +kernel
theorem dX6_find_44 : decode cX6_find 44 = .ok (.invokevirtual 83, 3) := by decide +kernel
theorem dX6_find_47 : decode cX6_find 47 = .ok (.iload_n 1, 1) := by decide +kernel
theorem dX6_find_48 : decode cX6_find 48 = .ok (.if_icmp .ne 6, 3) := by decide +kernel
theorem dX6_find_51 : decode cX6_find 51 = .ok (.iload 4, 2) := by decide +kernel
theorem dX6_find_53 : decode cX6_find 53 = .ok (.ireturn, 1) := by decide +kernel
theorem dX6_find_54 : decode cX6_find 54 = .ok (.iinc 3 1, 3) := by decide +kernel
theorem dX6_find_57 : decode cX6_find 57 = .ok (.goto (-38), 3) := by decide +kernel
theorem dX6_find_60 : decode cX6_find 60 = .ok (.bipush (-4), 2) := by decide +kernel
theorem dX6_find_62 : decode cX6_find 62 = .ok (.ireturn, 1) := by decide +kernel
theorem dX6_undo_0 : decode cX6_undo 0 = .ok (.aload_n 0, 1) := by decide +kernel
theorem dX6_undo_1 : decode cX6_undo 1 = .ok (.getfield 31, 3) := by decide +kernel
theorem dX6_undo_4 : decode cX6_undo 4 = .ok (.ifCond .ne 6, 3) := by decide +kernel
theorem dX6_undo_7 : decode cX6_undo 7 = .ok (.bipush (-2), 2) := by decide +kernel
theorem dX6_undo_9 : decode cX6_undo 9 = .ok (.ireturn, 1) := by decide +kernel
theorem dX6_undo_10 : decode cX6_undo 10 = .ok (.aload_n 0, 1) := by decide +kernel
theorem dX6_undo_11 : decode cX6_undo 11 = .ok (.dup, 1) := by decide +kernel
theorem dX6_undo_12 : decode cX6_undo 12 = .ok (.getfield 31, 3) := by decide +kernel
theorem dX6_undo_15 : decode cX6_undo 15 = .ok (.iconst 1, 1) := by decide +kernel
theorem dX6_undo_16 : decode cX6_undo 16 = .ok (.isub, 1) := by decide +kernel
theorem dX6_undo_17 : decode cX6_undo 17 = .ok (.putfield 31, 3) := by decide +kernel
theorem dX6_undo_20 : decode cX6_undo 20 = .ok (.iconst 0, 1) := by decide +kernel
theorem dX6_undo_21 : decode cX6_undo 21 = .ok (.istore_n 1, 1) := by decide +kernel
theorem dX6_undo_22 : decode cX6_undo 22 = .ok (.iload_n 1, 1) := by decide +kernel
theorem dX6_undo_23 : decode cX6_undo 23 = .ok (.sipush 218, 3) := by decide +kernel
theorem dX6_undo_26 : decode cX6_undo 26 = .ok (.if_icmp .ge 30, 3) := by decide +kernel
theorem dX6_undo_29 : decode cX6_undo 29 = .ok (.aload_n 0, 1) := by decide +kernel
theorem dX6_undo_30 : decode cX6_undo 30 = .ok (.getfield 7, 3) := by decide +kernel
theorem dX6_undo_33 : decode cX6_undo 33 = .ok (.iload_n 1, 1) := by decide +kernel
theorem dX6_undo_34 : decode cX6_undo 34 = .ok (.aload_n 0, 1) := by decide +kernel
theorem dX6_undo_35 : decode cX6_undo 35 = .ok (.getfield 16, 3) := by decide +kernel
theorem dX6_undo_38 : decode cX6_undo 38 = .ok (.sipush 218, 3) := by decide +kernel
theorem dX6_undo_41 : decode cX6_undo 41 = .ok (.aload_n 0, 1) := by decide +kernel
theorem dX6_undo_42 : decode cX6_undo 42 = .ok (.getfield 31, 3) := by decide +kernel
theorem dX6_undo_45 : decode cX6_undo 45 = .ok (.imul, 1) := by decide +kernel
theorem dX6_undo_46 : decode cX6_undo 46 = .ok (.iload_n 1, 1) := by decide +kernel
theorem dX6_undo_47 : decode cX6_undo 47 = .ok (.iadd, 1) := by decide +kernel
theorem dX6_undo_48 : decode cX6_undo 48 = .ok (.iaload, 1) := by decide +kernel
theorem dX6_undo_49 : decode cX6_undo 49 = .ok (.iastore, 1) := by decide +kernel
theorem dX6_undo_50 : decode cX6_undo 50 = .ok (.iinc 1 1, 3) := by decide +kernel
theorem dX6_undo_53 : decode cX6_undo 53 = .ok (.goto (-31), 3) := by decide +kernel
theorem dX6_undo_56 : decode cX6_undo 56 = .ok (.aload_n 0, 1) := by decide +kernel
theorem dX6_undo_57 : decode cX6_undo 57 = .ok (.getfield 31, 3) := by decide +kernel
theorem dX6_undo_60 : decode cX6_undo 60 = .ok (.ireturn, 1) := by decide +kernel
theorem dX6_type_0 : decode cX6_type 0 = .ok (.iload_n 1, 1) := by decide +kernel
theorem dX6_type_1 : decode cX6_type 1 = .ok (.bipush 32, 2) := by decide +kernel
theorem dX6_type_3 : decode cX6_type 3 = .ok (.bipush 126, 2) := by decide +kernel
theorem dX6_type_5 : decode cX6_type 5 = .ok (.invokestatic 35, 3) := by decide +kernel
theorem dX6_type_8 : decode cX6_type 8 = .ok (.ifCond .ne 5, 3) := by decide +kernel
theorem dX6_type_11 : decode cX6_type 11 = .ok (.iconst (-1), 1) := by decide +kernel
theorem dX6_type_12 : decode cX6_type 12 = .ok (.ireturn, 1) := by decide +kernel
theorem dX6_type_13 : decode cX6_type 13 = .ok (.aload_n 0, 1) := by decide +kernel
theorem dX6_type_14 : decode cX6_type 14 = .ok (.getfield 130, 3) := by decide +kernel
theorem dX6_type_17 : decode cX6_type 17 = .ok (.bipush 120, 2) := by decide +kernel
theorem dX6_type_19 : decode cX6_type 19 = .ok (.if_icmp .ne 6, 3) := by decide +kernel
theorem dX6_type_22 : decode cX6_type 22 = .ok (.bipush (-3), 2) := by decide +kernel
theorem dX6_type_24 : decode cX6_type 24 = .ok (.ireturn, 1) := by decide +kernel
theorem dX6_type_25 : decode cX6_type 25 = .ok (.aload_n 0, 1) := by decide +kernel
theorem dX6_type_26 : decode cX6_type 26 = .ok (.getfield 22, 3) := by decide +kernel
theorem dX6_type_29 : decode cX6_type 29 = .ok (.aload_n 0, 1) := by decide +kernel
theorem dX6_type_30 : decode cX6_type 30 = .ok (.getfield 130, 3) := by decide +kernel
theorem dX6_type_33 : decode cX6_type 33 = .ok (.iload_n 1, 1) := by decide +kernel
theorem dX6_type_34 : decode cX6_type 34 = .ok (.iastore, 1) := by decide +kernel
theorem dX6_type_35 : decode cX6_type 35 = .ok (.aload_n 0, 1) := by decide +kernel
theorem dX6_type_36 : decode cX6_type 36 = .ok (.dup, 1) := by decide +kernel
theorem dX6_type_37 : decode cX6_type 37 = .ok (.getfield 130, 3) := by decide +kernel
theorem dX6_type_40 : decode cX6_type 40 = .ok (.iconst 1, 1) := by decide +kernel
theorem dX6_type_41 : decode cX6_type 41 = .ok (.iadd, 1) := by decide +kernel
theorem dX6_type_42 : decode cX6_type 42 = .ok (.putfield 130, 3) := by decide +kernel
theorem dX6_type_45 : decode cX6_type 45 = .ok (.aload_n 0, 1) := by decide +kernel
theorem dX6_type_46 : decode cX6_type 46 = .ok (.getfield 130, 3) := by decide +kernel
theorem dX6_type_49 : decode cX6_type 49 = .ok (.ireturn, 1) := by decide +kernel
theorem dX6_clearText_0 : decode cX6_clearText 0 = .ok (.aload_n 0, 1) := by decide +kernel
theorem dX6_clearText_1 : decode cX6_clearText 1 = .ok (.getfield 130, 3) := by decide +kernel
theorem dX6_clearText_4 : decode cX6_clearText 4 = .ok (.istore_n 1, 1) := by decide +kernel
theorem dX6_clearText_5 : decode cX6_clearText 5 = .ok (.aload_n 0, 1) := by decide +kernel
theorem dX6_clearText_6 : decode cX6_clearText 6 = .ok (.iconst 0, 1) := by decide +kernel
theorem dX6_clearText_7 : decode cX6_clearText 7 = .ok (.putfield 130, 3) := by decide +kernel
theorem dX6_clearText_10 : decode cX6_clearText 10 = .ok (.iload_n 1, 1) := by decide +kernel
theorem dX6_clearText_11 : decode cX6_clearText 11 = .ok (.ireturn, 1) := by decide +kernel
theorem dX6_puts_0 : decode cX6_puts 0 = .ok (.aload_n 0, 1) := by decide +kernel
theorem dX6_puts_1 : decode cX6_puts 1 = .ok (.getfield 22, 3) := by decide +kernel
theorem dX6_puts_4 : decode cX6_puts 4 = .ok (.aload_n 0, 1) := by decide +kernel
theorem dX6_puts_5 : decode cX6_puts 5 = .ok (.getfield 130, 3) := by decide +kernel
theorem dX6_puts_8 : decode cX6_puts 8 = .ok (.iload_n 1, 1) := by decide +kernel
theorem dX6_puts_9 : decode cX6_puts 9 = .ok (.iastore, 1) := by decide +kernel
theorem dX6_puts_10 : decode cX6_puts 10 = .ok (.aload_n 0, 1) := by decide +kernel
theorem dX6_puts_11 : decode cX6_puts 11 = .ok (.dup, 1) := by decide +kernel
theorem dX6_puts_12 : decode cX6_puts 12 = .ok (.getfield 130, 3) := by decide +kernel
theorem dX6_puts_15 : decode cX6_puts 15 = .ok (.iconst 1, 1) := by decide +kernel
theorem dX6_puts_16 : decode cX6_puts 16 = .ok (.iadd, 1) := by decide +kernel
theorem dX6_puts_17 : decode cX6_puts 17 = .ok (.putfield 130, 3) := by decide +kernel
theorem dX6_puts_20 : decode cX6_puts 20 = .ok (.return_, 1) := by decide +kernel
theorem dX6_write_0 : decode cX6_write 0 = .ok (.aload_n 0, 1) := by decide +kernel
theorem dX6_write_1 : decode cX6_write 1 = .ok (.iconst 0, 1) := by decide +kernel
theorem dX6_write_2 : decode cX6_write 2 = .ok (.putfield 130, 3) := by decide +kernel
theorem dX6_write_5 : decode cX6_write 5 = .ok (.iconst 0, 1) := by decide +kernel
theorem dX6_write_6 : decode cX6_write 6 = .ok (.istore_n 1, 1) := by decide +kernel
theorem dX6_write_7 : decode cX6_write 7 = .ok (.iload_n 1, 1) := by decide +kernel
theorem dX6_write_8 : decode cX6_write 8 = .ok (.aload_n 0, 1) := by decide +kernel
theorem dX6_write_9 : decode cX6_write 9 = .ok (.getfield 7, 3) := by decide +kernel
theorem dX6_write_12 : decode cX6_write 12 = .ok (.iconst 0, 1) := by decide +kernel
theorem dX6_write_13 : decode cX6_write 13 = .ok (.iaload, 1) := by decide +kernel
theorem dX6_write_14 : decode cX6_write 14 = .ok (.if_icmp .ge 104, 3) := by decide +kernel
theorem dX6_write_17 : decode cX6_write 17 = .ok (.aload_n 0, 1) := by decide +kernel
theorem dX6_write_18 : decode cX6_write 18 = .ok (.bipush 97, 2) := by decide +kernel
theorem dX6_write_20 : decode cX6_write 20 = .ok (.aload_n 0, 1) := by decide +kernel
theorem dX6_write_21 : decode cX6_write 21 = .ok (.iload_n 1, 1) := by decide +kernel
theorem dX6_write_22 : decode cX6_write 22 = .ok (.invokevirtual 83, 3) := by decide +kernel
theorem dX6_write_25 : decode cX6_write 25 = .ok (.iadd, 1) := by decide +kernel
theorem dX6_write_26 : decode cX6_write 26 = .ok (.invokevirtual 140, 3) := by decide +kernel
theorem dX6_write_29 : decode cX6_write 29 = .ok (.iload_n 1, 1) := by decide +kernel
theorem dX6_write_30 : decode cX6_write 30 = .ok (.iconst 1, 1) := by decide +kernel
theorem dX6_write_31 : decode cX6_write 31 = .ok (.iadd, 1) := by decide +kernel
theorem dX6_write_32 : decode cX6_write 32 = .ok (.aload_n 0, 1) := by decide +kernel
theorem dX6_write_33 : decode cX6_write 33 = .ok (.getfield 7, 3) := by decide +kernel
theorem dX6_write_36 : decode cX6_write 36 = .ok (.iconst 0, 1) := by decide +kernel
theorem dX6_write_37 : decode cX6_write 37 = .ok (.iaload, 1) := by decide +kernel
theorem dX6_write_38 : decode cX6_write 38 = .ok (.if_icmp .ge 13, 3) := by decide +kernel
theorem dX6_write_41 : decode cX6_write 41 = .ok (.aload_n 0, 1) := by decide +kernel
theorem dX6_write_42 : decode cX6_write 42 = .ok (.iload_n 1, 1) := by decide +kernel
theorem dX6_write_43 : decode cX6_write 43 = .ok (.iconst 1, 1) := by decide +kernel
theorem dX6_write_44 : decode cX6_write 44 = .ok (.iadd, 1) := by decide +kernel
theorem dX6_write_45 : decode cX6_write 45 = .ok (.invokevirtual 46, 3) := by decide +kernel
theorem dX6_write_48 : decode cX6_write 48 = .ok (.goto 4, 3) := by decide +kernel
theorem dX6_write_51 : decode cX6_write 51 = .ok (.iconst 0, 1) := by decide +kernel
theorem dX6_write_52 : decode cX6_write 52 = .ok (.istore_n 2, 1) := by decide +kernel
theorem dX6_write_53 : decode cX6_write 53 = .ok (.aload_n 0, 1) := by decide +kernel
theorem dX6_write_54 : decode cX6_write 54 = .ok (.iload_n 1, 1) := by decide +kernel
theorem dX6_write_55 : decode cX6_write 55 = .ok (.invokevirtual 46, 3) := by decide +kernel
theorem dX6_write_58 : decode cX6_write 58 = .ok (.istore_n 3, 1) := by decide +kernel
theorem dX6_write_59 : decode cX6_write 59 = .ok (.iload_n 3, 1) := by decide +kernel
theorem dX6_write_60 : decode cX6_write 60 = .ok (.iload_n 2, 1) := by decide +kernel
theorem dX6_write_61 : decode cX6_write 61 = .ok (.if_icmp .le 15, 3) := by decide +kernel
theorem dX6_write_64 : decode cX6_write 64 = .ok (.aload_n 0, 1) := by decide +kernel
theorem dX6_write_65 : decode cX6_write 65 = .ok (.bipush 41, 2) := by decide +kernel
theorem dX6_write_67 : decode cX6_write 67 = .ok (.invokevirtual 140, 3) := by decide +kernel
theorem dX6_write_70 : decode cX6_write 70 = .ok (.iinc 3 (-1), 3) := by decide +kernel
theorem dX6_write_73 : decode cX6_write 73 = .ok (.goto (-14), 3) := by decide +kernel
theorem dX6_write_76 : decode cX6_write 76 = .ok (.iload_n 2, 1) := by decide +kernel
theorem dX6_write_77 : decode cX6_write 77 = .ok (.aload_n 0, 1) := by decide +kernel
theorem dX6_write_78 : decode cX6_write 78 = .ok (.iload_n 1, 1) := by decide +kernel
theorem dX6_write_79 : decode cX6_write 79 = .ok (.invokevirtual 46, 3) := by decide +kernel
theorem dX6_write_82 : decode cX6_write 82 = .ok (.if_icmp .le 12, 3) := by decide +kernel
theorem dX6_write_85 : decode cX6_write 85 = .ok (.aload_n 0, 1) := by decide +kernel
theorem dX6_write_86 : decode cX6_write 86 = .ok (.bipush 40, 2) := by decide +kernel
theorem dX6_write_88 : decode cX6_write 88 = .ok (.invokevirtual 140, 3) := by decide +kernel
theorem dX6_write_91 : decode cX6_write 91 = .ok (.goto 21, 3) := by decide +kernel
theorem dX6_write_94 : decode cX6_write 94 = .ok (.iload_n 1, 1) := by decide +kernel
theorem dX6_write_95 : decode cX6_write 95 = .ok (.iconst 1, 1) := by decide +kernel
theorem dX6_write_96 : decode cX6_write 96 = .ok (.iadd, 1) := by decide +kernel
theorem dX6_write_97 : decode cX6_write 97 = .ok (.aload_n 0, 1) := by decide +kernel
theorem dX6_write_98 : decode cX6_write 98 = .ok (.getfield 7, 3) := by decide +kernel
theorem dX6_write_101 : decode cX6_write 101 = .ok (.iconst 0, 1) := by decide +kernel
theorem dX6_write_102 : decode cX6_write 102 = .ok (.iaload, 1) := by decide +kernel
theorem dX6_write_103 : decode cX6_write 103 = .ok (.if_icmp .ge 9, 3) := by decide +kernel
theorem dX6_write_106 : decode cX6_write 106 = .ok (.aload_n 0, 1) := by decide +kernel
theorem dX6_write_107 : decode cX6_write 107 = .ok (.bipush 44, 2) := by decide +kernel
theorem dX6_write_109 : decode cX6_write 109 = .ok (.invokevirtual 140, 3) := by decide +kernel
theorem dX6_write_112 : decode cX6_write 112 = .ok (.iinc 1 1, 3) := by decide +kernel
theorem dX6_write_115 : decode cX6_write 115 = .ok (.goto (-108), 3) := by decide +kernel
theorem dX6_write_118 : decode cX6_write 118 = .ok (.aload_n 0, 1) := by decide +kernel
theorem dX6_write_119 : decode cX6_write 119 = .ok (.getfield 130, 3) := by decide +kernel
theorem dX6_write_122 : decode cX6_write 122 = .ok (.ireturn, 1) := by decide +kernel
theorem dX6_breaks_0 : decode cX6_breaks 0 = .ok (.aload_n 0, 1) := by decide +kernel
theorem dX6_breaks_1 : decode cX6_breaks 1 = .ok (.iload_n 1, 1) := by decide +kernel
theorem dX6_breaks_2 : decode cX6_breaks 2 = .ok (.putfield 144, 3) := by decide +kernel
theorem dX6_breaks_5 : decode cX6_breaks 5 = .ok (.aload_n 0, 1) := by decide +kernel
theorem dX6_breaks_6 : decode cX6_breaks 6 = .ok (.iload_n 2, 1) := by decide +kernel
theorem dX6_breaks_7 : decode cX6_breaks 7 = .ok (.putfield 147, 3) := by decide +kernel
theorem dX6_breaks_10 : decode cX6_breaks 10 = .ok (.iconst 0, 1) := by decide +kernel
theorem dX6_breaks_11 : decode cX6_breaks 11 = .ok (.ireturn, 1) := by decide +kernel
theorem dX6_isTree_0 : decode cX6_isTree 0 = .ok (.aload_n 0, 1) := by decide +kernel
theorem dX6_isTree_1 : decode cX6_isTree 1 = .ok (.iconst 0, 1) := by decide +kernel
theorem dX6_isTree_2 : decode cX6_isTree 2 = .ok (.putfield 150, 3) := by decide +kernel
theorem dX6_isTree_5 : decode cX6_isTree 5 = .ok (.iconst 0, 1) := by decide +kernel
theorem dX6_isTree_6 : decode cX6_isTree 6 = .ok (.istore_n 1, 1) := by decide +kernel
theorem dX6_isTree_7 : decode cX6_isTree 7 = .ok (.iconst 1, 1) := by decide +kernel
theorem dX6_isTree_8 : decode cX6_isTree 8 = .ok (.istore_n 2, 1) := by decide +kernel
theorem dX6_isTree_9 : decode cX6_isTree 9 = .ok (.aload_n 0, 1) := by decide +kernel
theorem dX6_isTree_10 : decode cX6_isTree 10 = .ok (.getfield 28, 3) := by decide +kernel
theorem dX6_isTree_13 : decode cX6_isTree 13 = .ok (.iconst 0, 1) := by decide +kernel
theorem dX6_isTree_14 : decode cX6_isTree 14 = .ok (.iconst 1, 1) := by decide +kernel
theorem dX6_isTree_15 : decode cX6_isTree 15 = .ok (.iastore, 1) := by decide +kernel
theorem dX6_isTree_16 : decode cX6_isTree 16 = .ok (.iconst 0, 1) := by decide +kernel
theorem dX6_isTree_17 : decode cX6_isTree 17 = .ok (.istore_n 3, 1) := by decide +kernel
theorem dX6_isTree_18 : decode cX6_isTree 18 = .ok (.iload_n 3, 1) := by decide +kernel
theorem dX6_isTree_19 : decode cX6_isTree 19 = .ok (.aload_n 0, 1) := by decide +kernel
theorem dX6_isTree_20 : decode cX6_isTree 20 = .ok (.getfield 130, 3) := by decide +kernel
theorem dX6_isTree_23 : decode cX6_isTree 23 = .ok (.if_icmp .ge 226, 3) := by decide +kernel
theorem dX6_isTree_26 : decode cX6_isTree 26 = .ok (.aload_n 0, 1) := by decide +kernel
theorem dX6_isTree_27 : decode cX6_isTree 27 = .ok (.getfield 22, 3) := by decide +kernel
theorem dX6_isTree_30 : decode cX6_isTree 30 = .ok (.iload_n 3, 1) := by decide +kernel
theorem dX6_isTree_31 : decode cX6_isTree 31 = .ok (.iaload, 1) := by decide +kernel
theorem dX6_isTree_32 : decode cX6_isTree 32 = .ok (.istore 4, 2) := by decide +kernel
theorem dX6_isTree_34 : decode cX6_isTree 34 = .ok (.iload_n 2, 1) := by decide +kernel
theorem dX6_isTree_35 : decode cX6_isTree 35 = .ok (.ifCond .eq 83, 3) := by decide +kernel
theorem dX6_isTree_38 : decode cX6_isTree 38 = .ok (.iload 4, 2) := by decide +kernel
theorem dX6_isTree_40 : decode cX6_isTree 40 = .ok (.bipush 97, 2) := by decide +kernel
theorem dX6_isTree_42 : decode cX6_isTree 42 = .ok (.bipush 122, 2) := by decide +kernel
theorem dX6_isTree_44 : decode cX6_isTree 44 = .ok (.invokestatic 35, 3) := by decide +kernel
theorem dX6_isTree_47 : decode cX6_isTree 47 = .ok (.ifCond .ne 10, 3) := by decide +kernel
theorem dX6_isTree_50 : decode cX6_isTree 50 = .ok (.aload_n 0, 1) := by decide +kernel
theorem dX6_isTree_51 : decode cX6_isTree 51 = .ok (.iload_n 3, 1) := by decide +kernel
theorem dX6_isTree_52 : decode cX6_isTree 52 = .ok (.iconst 1, 1) := by decide +kernel
theorem dX6_isTree_53 : decode cX6_isTree 53 = .ok (.invokevirtual 153, 3) := by decide +kernel
theorem dX6_isTree_56 : decode cX6_isTree 56 = .ok (.ireturn, 1) := by decide +kernel
theorem dX6_isTree_57 : decode cX6_isTree 57 = .ok (.aload_n 0, 1) := by decide +kernel
theorem dX6_isTree_58 : decode cX6_isTree 58 = .ok (.getfield 150, 3) := by decide +kernel
theorem dX6_isTree_61 : decode cX6_isTree 61 = .ok (.bipush 40, 2) := by decide +kernel
theorem dX6_isTree_63 : decode cX6_isTree 63 = .ok (.if_icmp .ne 10, 3) := by decide +kernel
theorem dX6_isTree_66 : decode cX6_isTree 66 = .ok (.aload_n 0, 1) := by decide +kernel
theorem dX6_isTree_67 : decode cX6_isTree 67 = .ok (.iload_n 3, 1) := by decide +kernel
theorem dX6_isTree_68 : decode cX6_isTree 68 = .ok (.iconst 2, 1) := by decide +kernel
theorem dX6_isTree_69 : decode cX6_isTree 69 = .ok (.invokevirtual 153, 3) := by decide +kernel
theorem dX6_isTree_72 : decode cX6_isTree 72 = .ok (.ireturn, 1) := by decide +kernel
theorem dX6_isTree_73 : decode cX6_isTree 73 = .ok (.aload_n 0, 1) := by decide +kernel
theorem dX6_isTree_74 : decode cX6_isTree 74 = .ok (.getfield 25, 3) := by decide +kernel
theorem dX6_isTree_77 : decode cX6_isTree 77 = .ok (.iconst 2, 1) := by decide +kernel
theorem dX6_isTree_78 : decode cX6_isTree 78 = .ok (.aload_n 0, 1) := by decide +kernel
theorem dX6_isTree_79 : decode cX6_isTree 79 = .ok (.getfield 150, 3) := by decide +kernel
theorem dX6_isTree_82 : decode cX6_isTree 82 = .ok (.imul, 1) := by decide +kernel
theorem dX6_isTree_83 : decode cX6_isTree 83 = .ok (.iload 4, 2) := by decide +kernel
theorem dX6_isTree_85 : decode cX6_isTree 85 = .ok (.bipush 97, 2) := by decide +kernel
theorem dX6_isTree_87 : decode cX6_isTree 87 = .ok (.isub, 1) := by decide +kernel
theorem dX6_isTree_88 : decode cX6_isTree 88 = .ok (.iastore, 1) := by decide +kernel
theorem dX6_isTree_89 : decode cX6_isTree 89 = .ok (.aload_n 0, 1) := by decide +kernel
theorem dX6_isTree_90 : decode cX6_isTree 90 = .ok (.getfield 25, 3) := by decide +kernel
theorem dX6_isTree_93 : decode cX6_isTree 93 = .ok (.iconst 2, 1) := by decide +kernel
theorem dX6_isTree_94 : decode cX6_isTree 94 = .ok (.aload_n 0, 1) := by decide +kernel
theorem dX6_isTree_95 : decode cX6_isTree 95 = .ok (.getfield 150, 3) := by decide +kernel
theorem dX6_isTree_98 : decode cX6_isTree 98 = .ok (.imul, 1) := by decide +kernel
theorem dX6_isTree_99 : decode cX6_isTree 99 = .ok (.iconst 1, 1) := by decide +kernel
theorem dX6_isTree_100 : decode cX6_isTree 100 = .ok (.iadd, 1) := by decide +kernel
theorem dX6_isTree_101 : decode cX6_isTree 101 = .ok (.iload_n 1, 1) := by decide +kernel
theorem dX6_isTree_102 : decode cX6_isTree 102 = .ok (.iastore, 1) := by decide +kernel
theorem dX6_isTree_103 : decode cX6_isTree 103 = .ok (.aload_n 0, 1) := by decide +kernel
theorem dX6_isTree_104 : decode cX6_isTree 104 = .ok (.dup, 1) := by decide +kernel
theorem dX6_isTree_105 : decode cX6_isTree 105 = .ok (.getfield 150, 3) := by decide +kernel
theorem dX6_isTree_108 : decode cX6_isTree 108 = .ok (.iconst 1, 1) := by decide +kernel
theorem dX6_isTree_109 : decode cX6_isTree 109 = .ok (.iadd, 1) := by decide +kernel
theorem dX6_isTree_110 : decode cX6_isTree 110 = .ok (.putfield 150, 3) := by decide +kernel
theorem dX6_isTree_113 : decode cX6_isTree 113 = .ok (.iconst 0, 1) := by decide +kernel
theorem dX6_isTree_114 : decode cX6_isTree 114 = .ok (.istore_n 2, 1) := by decide +kernel
theorem dX6_isTree_115 : decode cX6_isTree 115 = .ok (.goto 128, 3) := by decide +kernel
theorem dX6_isTree_118 : decode cX6_isTree 118 = .ok (.iload 4, 2) := by decide +kernel
theorem dX6_isTree_120 : decode cX6_isTree 120 = .ok (.bipush 40, 2) := by decide +kernel
theorem dX6_isTree_122 : decode cX6_isTree 122 = .ok (.if_icmp .ne 53, 3) := by decide +kernel
theorem dX6_isTree_125 : decode cX6_isTree 125 = .ok (.iload_n 3, 1) := by decide +kernel
theorem dX6_isTree_126 : decode cX6_isTree 126 = .ok (.ifCond .le 49, 3) := by decide +kernel
theorem dX6_isTree_129 : decode cX6_isTree 129 = .ok (.aload_n 0, 1) := by decide +kernel
theorem dX6_isTree_130 : decode cX6_isTree 130 = .ok (.getfield 22, 3) := by decide +kernel
theorem dX6_isTree_133 : decode cX6_isTree 133 = .ok (.iload_n 3, 1) := by decide +kernel
theorem dX6_isTree_134 : decode cX6_isTree 134 = .ok (.iconst 1, 1) := by decide +kernel
theorem dX6_isTree_135 : decode cX6_isTree 135 = .ok (.isub, 1) := by decide +kernel
theorem dX6_isTree_136 : decode cX6_isTree 136 = .ok (.iaload, 1) := by decide +kernel
theorem dX6_isTree_137 : decode cX6_isTree 137 = .ok (.bipush 97, 2) := by decide +kernel
theorem dX6_isTree_139 : decode cX6_isTree 139 = .ok (.bipush 122, 2) := by decide +kernel
theorem dX6_isTree_141 : decode cX6_isTree 141 = .ok (.invokestatic 35, 3) := by decide +kernel
theorem dX6_isTree_144 : decode cX6_isTree 144 = .ok (.ifCond .eq 31, 3) := by decide +kernel
theorem dX6_isTree_147 : decode cX6_isTree 147 = .ok (.iload_n 1, 1) := by decide +kernel
theorem dX6_isTree_148 : decode cX6_isTree 148 = .ok (.bipush 7, 2) := by decide +kernel
theorem dX6_isTree_150 : decode cX6_isTree 150 = .ok (.if_icmp .ne 10, 3) := by decide +kernel
theorem dX6_isTree_153 : decode cX6_isTree 153 = .ok (.aload_n 0, 1) := by decide +kernel
theorem dX6_isTree_154 : decode cX6_isTree 154 = .ok (.iload_n 3, 1) := by decide +kernel
theorem dX6_isTree_155 : decode cX6_isTree 155 = .ok (.iconst 3, 1) := by decide +kernel
theorem dX6_isTree_156 : decode cX6_isTree 156 = .ok (.invokevirtual 153, 3) := by decide +kernel
theorem dX6_isTree_159 : decode cX6_isTree 159 = .ok (.ireturn, 1) := by decide +kernel
theorem dX6_isTree_160 : decode cX6_isTree 160 = .ok (.iinc 1 1, 3) := by decide +kernel
theorem dX6_isTree_163 : decode cX6_isTree 163 = .ok (.aload_n 0, 1) := by decide +kernel
theorem dX6_isTree_164 : decode cX6_isTree 164 = .ok (.getfield 28, 3) := by decide +kernel
theorem dX6_isTree_167 : decode cX6_isTree 167 = .ok (.iload_n 1, 1) := by decide +kernel
theorem dX6_isTree_168 : decode cX6_isTree 168 = .ok (.iconst 1, 1) := by decide +kernel
theorem dX6_isTree_169 : decode cX6_isTree 169 = .ok (.iastore, 1) := by decide +kernel
theorem dX6_isTree_170 : decode cX6_isTree 170 = .ok (.iconst 1, 1) := by decide +kernel
theorem dX6_isTree_171 : decode cX6_isTree 171 = .ok (.istore_n 2, 1) := by decide +kernel
theorem dX6_isTree_172 : decode cX6_isTree 172 = .ok (.goto 71, 3) := by decide +kernel
theorem dX6_isTree_175 : decode cX6_isTree 175 = .ok (.iload 4, 2) := by decide +kernel
theorem dX6_isTree_177 : decode cX6_isTree 177 = .ok (.bipush 44, 2) := by decide +kernel
theorem dX6_isTree_179 : decode cX6_isTree 179 = .ok (.if_icmp .ne 40, 3) := by decide +kernel
theorem dX6_isTree_182 : decode cX6_isTree 182 = .ok (.iload_n 1, 1) := by decide +kernel
theorem dX6_isTree_183 : decode cX6_isTree 183 = .ok (.ifCond .le 36, 3) := by decide +kernel
theorem dX6_isTree_186 : decode cX6_isTree 186 = .ok (.aload_n 0, 1) := by decide +kernel
theorem dX6_isTree_187 : decode cX6_isTree 187 = .ok (.getfield 28, 3) := by decide +kernel
theorem dX6_isTree_190 : decode cX6_isTree 190 = .ok (.iload_n 1, 1) := by decide +kernel
theorem dX6_isTree_191 : decode cX6_isTree 191 = .ok (.iaload, 1) := by decide +kernel
theorem dX6_isTree_192 : decode cX6_isTree 192 = .ok (.bipush 6, 2) := by decide +kernel
theorem dX6_isTree_194 : decode cX6_isTree 194 = .ok (.if_icmp .ne 10, 3) := by decide +kernel
theorem dX6_isTree_197 : decode cX6_isTree 197 = .ok (.aload_n 0, 1) := by decide +kernel
theorem dX6_isTree_198 : decode cX6_isTree 198 = .ok (.iload_n 3, 1) := by decide +kernel
theorem dX6_isTree_199 : decode cX6_isTree 199 = .ok (.iconst 4, 1) := by decide +kernel
theorem dX6_isTree_200 : decode cX6_isTree 200 = .ok (.invokevirtual 153, 3) := by decide +kernel
theorem dX6_isTree_203 : decode cX6_isTree 203 = .ok (.ireturn, 1) := by decide +kernel
theorem dX6_isTree_204 : decode cX6_isTree 204 = .ok (.aload_n 0, 1) := by decide +kernel
theorem dX6_isTree_205 : decode cX6_isTree 205 = .ok (.getfield 28, 3) := by decide +kernel
theorem dX6_isTree_208 : decode cX6_isTree 208 = .ok (.iload_n 1, 1) := by decide +kernel
theorem dX6_isTree_209 : decode cX6_isTree 209 = .ok (.dup2, 1) := by decide +kernel
theorem dX6_isTree_210 : decode cX6_isTree 210 = .ok (.iaload, 1) := by decide +kernel
theorem dX6_isTree_211 : decode cX6_isTree 211 = .ok (.iconst 1, 1) := by decide +kernel
theorem dX6_isTree_212 : decode cX6_isTree 212 = .ok (.iadd, 1) := by decide +kernel
theorem dX6_isTree_213 : decode cX6_isTree 213 = .ok (.iastore, 1) := by decide +kernel
theorem dX6_isTree_214 : decode cX6_isTree 214 = .ok (.iconst 1, 1) := by decide +kernel
theorem dX6_isTree_215 : decode cX6_isTree 215 = .ok (.istore_n 2, 1) := by decide +kernel
theorem dX6_isTree_216 : decode cX6_isTree 216 = .ok (.goto 27, 3) := by decide +kernel
theorem dX6_isTree_219 : decode cX6_isTree 219 = .ok (.iload 4, 2) := by decide +kernel
theorem dX6_isTree_221 : decode cX6_isTree 221 = .ok (.bipush 41, 2) := by decide +kernel
theorem dX6_isTree_223 : decode cX6_isTree 223 = .ok (.if_icmp .ne 13, 3) := by decide +kernel
theorem dX6_isTree_226 : decode cX6_isTree 226 = .ok (.iload_n 1, 1) := by decide +kernel
theorem dX6_isTree_227 : decode cX6_isTree 227 = .ok (.ifCond .le 9, 3) := by decide +kernel
theorem dX6_isTree_230 : decode cX6_isTree 230 = .ok (.iinc 1 (-1), 3) := by decide +kernel
theorem dX6_isTree_233 : decode cX6_isTree 233 = .ok (.goto 10, 3) := by decide +kernel
theorem dX6_isTree_236 : decode cX6_isTree 236 = .ok (.aload_n 0, 1) := by decide +kernel
theorem dX6_isTree_237 : decode cX6_isTree 237 = .ok (.iload_n 3, 1) := by decide +kernel
theorem dX6_isTree_238 : decode cX6_isTree 238 = .ok (.iconst 1, 1) := by decide +kernel
theorem dX6_isTree_239 : decode cX6_isTree 239 = .ok (.invokevirtual 153, 3) := by decide +kernel
theorem dX6_isTree_242 : decode cX6_isTree 242 = .ok (.ireturn, 1) := by decide +kernel
theorem dX6_isTree_243 : decode cX6_isTree 243 = .ok (.iinc 3 1, 3) := by decide +kernel
theorem dX6_isTree_246 : decode cX6_isTree 246 = .ok (.goto (-228), 3) := by decide +kernel
theorem dX6_isTree_249 : decode cX6_isTree 249 = .ok (.iload_n 2, 1) := by decide +kernel
theorem dX6_isTree_250 : decode cX6_isTree 250 = .ok (.ifCond .ne 7, 3) := by decide +kernel
theorem dX6_isTree_253 : decode cX6_isTree 253 = .ok (.iload_n 1, 1) := by decide +kernel
theorem dX6_isTree_254 : decode cX6_isTree 254 = .ok (.ifCond .eq 15, 3) := by decide +kernel
theorem dX6_isTree_257 : decode cX6_isTree 257 = .ok (.aload_n 0, 1) := by decide +kernel
theorem dX6_isTree_258 : decode cX6_isTree 258 = .ok (.aload_n 0, 1) := by decide +kernel
theorem dX6_isTree_259 : decode cX6_isTree 259 = .ok (.getfield 130, 3) := by decide +kernel
theorem dX6_isTree_262 : decode cX6_isTree 262 = .ok (.iconst 1, 1) := by decide +kernel
theorem dX6_isTree_263 : decode cX6_isTree 263 = .ok (.invokevirtual 153, 3) := by decide +kernel
theorem dX6_isTree_266 : decode cX6_isTree 266 = .ok (.ifCond .eq 7, 3) := by decide +kernel
theorem dX6_isTree_269 : decode cX6_isTree 269 = .ok (.iconst 1, 1) := by decide +kernel
theorem dX6_isTree_270 : decode cX6_isTree 270 = .ok (.goto 4, 3) := by decide +kernel
theorem dX6_isTree_273 : decode cX6_isTree 273 = .ok (.iconst 0, 1) := by decide +kernel
theorem dX6_isTree_274 : decode cX6_isTree 274 = .ok (.ireturn, 1) := by decide +kernel
theorem dX6_fault_0 : decode cX6_fault 0 = .ok (.iload_n 1, 1) := by decide +kernel
theorem dX6_fault_1 : decode cX6_fault 1 = .ok (.iconst 0, 1) := by decide +kernel
theorem dX6_fault_2 : decode cX6_fault 2 = .ok (.iconst 1, 1) := by decide +kernel
theorem dX6_fault_3 : decode cX6_fault 3 = .ok (.invokestatic 35, 3) := by decide +kernel
theorem dX6_fault_6 : decode cX6_fault 6 = .ok (.ifCond .ne 5, 3) := by decide +kernel
theorem dX6_fault_9 : decode cX6_fault 9 = .ok (.iconst (-1), 1) := by decide +kernel
theorem dX6_fault_10 : decode cX6_fault 10 = .ok (.ireturn, 1) := by decide +kernel
theorem dX6_fault_11 : decode cX6_fault 11 = .ok (.aload_n 0, 1) := by decide +kernel
theorem dX6_fault_12 : decode cX6_fault 12 = .ok (.invokevirtual 156, 3) := by decide +kernel
theorem dX6_fault_15 : decode cX6_fault 15 = .ok (.ifCond .eq 6, 3) := by decide +kernel
theorem dX6_fault_18 : decode cX6_fault 18 = .ok (.bipush (-4), 2) := by decide +kernel
theorem dX6_fault_20 : decode cX6_fault 20 = .ok (.ireturn, 1) := by decide +kernel
theorem dX6_fault_21 : decode cX6_fault 21 = .ok (.iload_n 1, 1) := by decide +kernel
theorem dX6_fault_22 : decode cX6_fault 22 = .ok (.ifCond .ne 10, 3) := by decide +kernel
theorem dX6_fault_25 : decode cX6_fault 25 = .ok (.aload_n 0, 1) := by decide +kernel
theorem dX6_fault_26 : decode cX6_fault 26 = .ok (.getfield 144, 3) := by decide +kernel
theorem dX6_fault_29 : decode cX6_fault 29 = .ok (.goto 7, 3) := by decide +kernel
theorem dX6_fault_32 : decode cX6_fault 32 = .ok (.aload_n 0, 1) := by decide +kernel
theorem dX6_fault_33 : decode cX6_fault 33 = .ok (.getfield 147, 3) := by decide +kernel
theorem dX6_fault_36 : decode cX6_fault 36 = .ok (.ireturn, 1) := by decide +kernel
theorem dX6_read_0 : decode cX6_read 0 = .ok (.aload_n 0, 1) := by decide +kernel
theorem dX6_read_1 : decode cX6_read 1 = .ok (.invokevirtual 55, 3) := by decide +kernel
theorem dX6_read_4 : decode cX6_read 4 = .ok (.aload_n 0, 1) := by decide +kernel
theorem dX6_read_5 : decode cX6_read 5 = .ok (.invokevirtual 156, 3) := by decide +kernel
theorem dX6_read_8 : decode cX6_read 8 = .ok (.ifCond .ne 6, 3) := by decide +kernel
theorem dX6_read_11 : decode cX6_read 11 = .ok (.bipush (-2), 2) := by decide +kernel
theorem dX6_read_13 : decode cX6_read 13 = .ok (.ireturn, 1) := by decide +kernel
theorem dX6_read_14 : decode cX6_read 14 = .ok (.aload_n 0, 1) := by decide +kernel
theorem dX6_read_15 : decode cX6_read 15 = .ok (.getfield 7, 3) := by decide +kernel
theorem dX6_read_18 : decode cX6_read 18 = .ok (.iconst 0, 1) := by decide +kernel
theorem dX6_read_19 : decode cX6_read 19 = .ok (.aload_n 0, 1) := by decide +kernel
theorem dX6_read_20 : decode cX6_read 20 = .ok (.getfield 150, 3) := by decide +kernel
theorem dX6_read_23 : decode cX6_read 23 = .ok (.iastore, 1) := by decide +kernel
theorem dX6_read_24 : decode cX6_read 24 = .ok (.iconst 0, 1) := by decide +kernel
theorem dX6_read_25 : decode cX6_read 25 = .ok (.istore_n 1, 1) := by decide +kernel
theorem dX6_read_26 : decode cX6_read 26 = .ok (.iload_n 1, 1) := by decide +kernel
theorem dX6_read_27 : decode cX6_read 27 = .ok (.aload_n 0, 1) := by decide +kernel
theorem dX6_read_28 : decode cX6_read 28 = .ok (.getfield 150, 3) := by decide +kernel
theorem dX6_read_31 : decode cX6_read 31 = .ok (.if_icmp .ge 32, 3) := by decide +kernel
theorem dX6_read_34 : decode cX6_read 34 = .ok (.aload_n 0, 1) := by decide +kernel
theorem dX6_read_35 : decode cX6_read 35 = .ok (.iload_n 1, 1) := by decide +kernel
theorem dX6_read_36 : decode cX6_read 36 = .ok (.aload_n 0, 1) := by decide +kernel
theorem dX6_read_37 : decode cX6_read 37 = .ok (.getfield 25, 3) := by decide +kernel
theorem dX6_read_40 : decode cX6_read 40 = .ok (.iconst 2, 1) := by decide +kernel
theorem dX6_read_41 : decode cX6_read 41 = .ok (.iload_n 1, 1) := by decide +kernel
theorem dX6_read_42 : decode cX6_read 42 = .ok (.imul, 1) := by decide +kernel
theorem dX6_read_43 : decode cX6_read 43 = .ok (.iaload, 1) := by decide +kernel
theorem dX6_read_44 : decode cX6_read 44 = .ok (.aload_n 0, 1) := by decide +kernel
theorem dX6_read_45 : decode cX6_read 45 = .ok (.getfield 25, 3) := by decide +kernel
theorem dX6_read_48 : decode cX6_read 48 = .ok (.iconst 2, 1) := by decide +kernel
theorem dX6_read_49 : decode cX6_read 49 = .ok (.iload_n 1, 1) := by decide +kernel
theorem dX6_read_50 : decode cX6_read 50 = .ok (.imul, 1) := by decide +kernel
theorem dX6_read_51 : decode cX6_read 51 = .ok (.iconst 1, 1) := by decide +kernel
theorem dX6_read_52 : decode cX6_read 52 = .ok (.iadd, 1) := by decide +kernel
theorem dX6_read_53 : decode cX6_read 53 = .ok (.iaload, 1) := by decide +kernel
theorem dX6_read_54 : decode cX6_read 54 = .ok (.invokevirtual 90, 3) := by decide +kernel
theorem dX6_read_57 : decode cX6_read 57 = .ok (.iinc 1 1, 3) := by decide +kernel
theorem dX6_read_60 : decode cX6_read 60 = .ok (.goto (-34), 3) := by decide +kernel
theorem dX6_read_63 : decode cX6_read 63 = .ok (.aload_n 0, 1) := by decide +kernel
theorem dX6_read_64 : decode cX6_read 64 = .ok (.getfield 7, 3) := by decide +kernel
theorem dX6_read_67 : decode cX6_read 67 = .ok (.iconst 2, 1) := by decide +kernel
theorem dX6_read_68 : decode cX6_read 68 = .ok (.aload_n 0, 1) := by decide +kernel
theorem dX6_read_69 : decode cX6_read 69 = .ok (.iconst 0, 1) := by decide +kernel
theorem dX6_read_70 : decode cX6_read 70 = .ok (.invokevirtual 39, 3) := by decide +kernel
theorem dX6_read_73 : decode cX6_read 73 = .ok (.iastore, 1) := by decide +kernel
theorem dX6_read_74 : decode cX6_read 74 = .ok (.aload_n 0, 1) := by decide +kernel
theorem dX6_read_75 : decode cX6_read 75 = .ok (.getfield 7, 3) := by decide +kernel
theorem dX6_read_78 : decode cX6_read 78 = .ok (.iconst 3, 1) := by decide +kernel
theorem dX6_read_79 : decode cX6_read 79 = .ok (.iconst 0, 1) := by decide +kernel
theorem dX6_read_80 : decode cX6_read 80 = .ok (.iastore, 1) := by decide +kernel
theorem dX6_read_81 : decode cX6_read 81 = .ok (.iconst 0, 1) := by decide +kernel
theorem dX6_read_82 : decode cX6_read 82 = .ok (.istore_n 1, 1) := by decide +kernel
theorem dX6_read_83 : decode cX6_read 83 = .ok (.iload_n 1, 1) := by decide +kernel
theorem dX6_read_84 : decode cX6_read 84 = .ok (.iconst 4, 1) := by decide +kernel
theorem dX6_read_85 : decode cX6_read 85 = .ok (.if_icmp .ge 18, 3) := by decide +kernel
theorem dX6_read_88 : decode cX6_read 88 = .ok (.aload_n 0, 1) := by decide +kernel
theorem dX6_read_89 : decode cX6_read 89 = .ok (.getfield 7, 3) := by decide +kernel
theorem dX6_read_92 : decode cX6_read 92 = .ok (.iconst 5, 1) := by decide +kernel
theorem dX6_read_93 : decode cX6_read 93 = .ok (.iload_n 1, 1) := by decide +kernel
theorem dX6_read_94 : decode cX6_read 94 = .ok (.iadd, 1) := by decide +kernel
theorem dX6_read_95 : decode cX6_read 95 = .ok (.iconst (-1), 1) := by decide +kernel
theorem dX6_read_96 : decode cX6_read 96 = .ok (.iastore, 1) := by decide +kernel
theorem dX6_read_97 : decode cX6_read 97 = .ok (.iinc 1 1, 3) := by decide +kernel
theorem dX6_read_100 : decode cX6_read 100 = .ok (.goto (-17), 3) := by decide +kernel
theorem dX6_read_103 : decode cX6_read 103 = .ok (.aload_n 0, 1) := by decide +kernel
theorem dX6_read_104 : decode cX6_read 104 = .ok (.aload_n 0, 1) := by decide +kernel
theorem dX6_read_105 : decode cX6_read 105 = .ok (.getfield 150, 3) := by decide +kernel
theorem dX6_read_108 : decode cX6_read 108 = .ok (.invokevirtual 72, 3) := by decide +kernel
theorem dX6_read_111 : decode cX6_read 111 = .ok (.ireturn, 1) := by decide +kernel
theorem dJ6_bitCount_0f7a4_0 : decode cJ6_bitCount_0f7a4 0 = .ok (.iload_n 0, 1) := by decide +kernel
theorem dJ6_bitCount_0f7a4_1 : decode cJ6_bitCount_0f7a4 1 = .ok (.iload_n 0, 1) := by decide +kernel
theorem dJ6_bitCount_0f7a4_2 : decode cJ6_bitCount_0f7a4 2 = .ok (.iconst 1, 1) := by decide +kernel
theorem dJ6_bitCount_0f7a4_3 : decode cJ6_bitCount_0f7a4 3 = .ok (.iushr, 1) := by decide +kernel
theorem dJ6_bitCount_0f7a4_4 : decode cJ6_bitCount_0f7a4 4 = .ok (.ldc_w 265, 3) := by decide +kernel
theorem dJ6_bitCount_0f7a4_7 : decode cJ6_bitCount_0f7a4 7 = .ok (.iand, 1) := by decide +kernel
theorem dJ6_bitCount_0f7a4_8 : decode cJ6_bitCount_0f7a4 8 = .ok (.isub, 1) := by decide +kernel
theorem dJ6_bitCount_0f7a4_9 : decode cJ6_bitCount_0f7a4 9 = .ok (.istore_n 0, 1) := by decide +kernel
theorem dJ6_bitCount_0f7a4_10 : decode cJ6_bitCount_0f7a4 10 = .ok (.iload_n 0, 1) := by decide +kernel
theorem dJ6_bitCount_0f7a4_11 : decode cJ6_bitCount_0f7a4 11 = .ok (.ldc_w 266, 3) := by decide +kernel
theorem dJ6_bitCount_0f7a4_14 : decode cJ6_bitCount_0f7a4 14 = .ok (.iand, 1) := by decide +kernel
theorem dJ6_bitCount_0f7a4_15 : decode cJ6_bitCount_0f7a4 15 = .ok (.iload_n 0, 1) := by decide +kernel
theorem dJ6_bitCount_0f7a4_16 : decode cJ6_bitCount_0f7a4 16 = .ok (.iconst 2, 1) := by decide +kernel
theorem dJ6_bitCount_0f7a4_17 : decode cJ6_bitCount_0f7a4 17 = .ok (.iushr, 1) := by decide +kernel
theorem dJ6_bitCount_0f7a4_18 : decode cJ6_bitCount_0f7a4 18 = .ok (.ldc_w 266, 3) := by decide +kernel
theorem dJ6_bitCount_0f7a4_21 : decode cJ6_bitCount_0f7a4 21 = .ok (.iand, 1) := by decide +kernel
theorem dJ6_bitCount_0f7a4_22 : decode cJ6_bitCount_0f7a4 22 = .ok (.iadd, 1) := by decide +kernel
theorem dJ6_bitCount_0f7a4_23 : decode cJ6_bitCount_0f7a4 23 = .ok (.istore_n 0, 1) := by decide +kernel
theorem dJ6_bitCount_0f7a4_24 : decode cJ6_bitCount_0f7a4 24 = .ok (.iload_n 0, 1) := by decide +kernel
theorem dJ6_bitCount_0f7a4_25 : decode cJ6_bitCount_0f7a4 25 = .ok (.iload_n 0, 1) := by decide +kernel
theorem dJ6_bitCount_0f7a4_26 : decode cJ6_bitCount_0f7a4 26 = .ok (.iconst 4, 1) := by decide +kernel
theorem dJ6_bitCount_0f7a4_27 : decode cJ6_bitCount_0f7a4 27 = .ok (.iushr, 1) := by decide +kernel
theorem dJ6_bitCount_0f7a4_28 : decode cJ6_bitCount_0f7a4 28 = .ok (.iadd, 1) := by decide +kernel
theorem dJ6_bitCount_0f7a4_29 : decode cJ6_bitCount_0f7a4 29 = .ok (.ldc_w 267, 3) := by decide +kernel
theorem dJ6_bitCount_0f7a4_32 : decode cJ6_bitCount_0f7a4 32 = .ok (.iand, 1) := by decide +kernel
theorem dJ6_bitCount_0f7a4_33 : decode cJ6_bitCount_0f7a4 33 = .ok (.istore_n 0, 1) := by decide +kernel
theorem dJ6_bitCount_0f7a4_34 : decode cJ6_bitCount_0f7a4 34 = .ok (.iload_n 0, 1) := by decide +kernel
theorem dJ6_bitCount_0f7a4_35 : decode cJ6_bitCount_0f7a4 35 = .ok (.iload_n 0, 1) := by decide +kernel
theorem dJ6_bitCount_0f7a4_36 : decode cJ6_bitCount_0f7a4 36 = .ok (.bipush 8, 2) := by decide +kernel
theorem dJ6_bitCount_0f7a4_38 : decode cJ6_bitCount_0f7a4 38 = .ok (.iushr, 1) := by decide +kernel
theorem dJ6_bitCount_0f7a4_39 : decode cJ6_bitCount_0f7a4 39 = .ok (.iadd, 1) := by decide +kernel
theorem dJ6_bitCount_0f7a4_40 : decode cJ6_bitCount_0f7a4 40 = .ok (.istore_n 0, 1) := by decide +kernel
theorem dJ6_bitCount_0f7a4_41 : decode cJ6_bitCount_0f7a4 41 = .ok (.iload_n 0, 1) := by decide +kernel
theorem dJ6_bitCount_0f7a4_42 : decode cJ6_bitCount_0f7a4 42 = .ok (.iload_n 0, 1) := by decide +kernel
theorem dJ6_bitCount_0f7a4_43 : decode cJ6_bitCount_0f7a4 43 = .ok (.bipush 16, 2) := by decide +kernel
theorem dJ6_bitCount_0f7a4_45 : decode cJ6_bitCount_0f7a4 45 = .ok (.iushr, 1) := by decide +kernel
theorem dJ6_bitCount_0f7a4_46 : decode cJ6_bitCount_0f7a4 46 = .ok (.iadd, 1) := by decide +kernel
theorem dJ6_bitCount_0f7a4_47 : decode cJ6_bitCount_0f7a4 47 = .ok (.istore_n 0, 1) := by decide +kernel
theorem dJ6_bitCount_0f7a4_48 : decode cJ6_bitCount_0f7a4 48 = .ok (.iload_n 0, 1) := by decide +kernel
theorem dJ6_bitCount_0f7a4_49 : decode cJ6_bitCount_0f7a4 49 = .ok (.bipush 63, 2) := by decide +kernel
theorem dJ6_bitCount_0f7a4_51 : decode cJ6_bitCount_0f7a4 51 = .ok (.iand, 1) := by decide +kernel
theorem dJ6_bitCount_0f7a4_52 : decode cJ6_bitCount_0f7a4 52 = .ok (.ireturn, 1) := by decide +kernel
theorem dL_law_0 : decode cL_law 0 = .ok (.new 7, 3) := by decide +kernel
theorem dL_law_3 : decode cL_law 3 = .ok (.dup, 1) := by decide +kernel
theorem dL_law_4 : decode cL_law 4 = .ok (.invokespecial 9, 3) := by decide +kernel
theorem dL_law_7 : decode cL_law 7 = .ok (.astore_n 1, 1) := by decide +kernel
theorem dL_law_8 : decode cL_law 8 = .ok (.new 10, 3) := by decide +kernel
theorem dL_law_11 : decode cL_law 11 = .ok (.dup, 1) := by decide +kernel
theorem dL_law_12 : decode cL_law 12 = .ok (.invokespecial 12, 3) := by decide +kernel
theorem dL_law_15 : decode cL_law 15 = .ok (.astore_n 2, 1) := by decide +kernel
theorem dL_law_16 : decode cL_law 16 = .ok (.iconst 0, 1) := by decide +kernel
theorem dL_law_17 : decode cL_law 17 = .ok (.istore_n 3, 1) := by decide +kernel
theorem dL_law_18 : decode cL_law 18 = .ok (.iload_n 3, 1) := by decide +kernel
theorem dL_law_19 : decode cL_law 19 = .ok (.aload_n 0, 1) := by decide +kernel
theorem dL_law_20 : decode cL_law 20 = .ok (.arraylength, 1) := by decide +kernel
theorem dL_law_21 : decode cL_law 21 = .ok (.iconst 3, 1) := by decide +kernel
theorem dL_law_22 : decode cL_law 22 = .ok (.isub, 1) := by decide +kernel
theorem dL_law_23 : decode cL_law 23 = .ok (.if_icmp .gt 798, 3) := by decide +kernel
theorem dL_law_26 : decode cL_law 26 = .ok (.aload_n 0, 1) := by decide +kernel
theorem dL_law_27 : decode cL_law 27 = .ok (.iload_n 3, 1) := by decide +kernel
theorem dL_law_28 : decode cL_law 28 = .ok (.iaload, 1) := by decide +kernel
theorem dL_law_29 : decode cL_law 29 = .ok (.bipush 31, 2) := by decide +kernel
theorem dL_law_31 : decode cL_law 31 = .ok (.iand, 1) := by decide +kernel
theorem dL_law_32 : decode cL_law 32 = .ok (.tableswitch 783 0 30 #[140, 163, 176, 199, 222, 235, 248, 271, 304, 337, 350, 373, 386, 409, 422, 435, 458, 481, 504, 537, 570, 593, 616, 629, 662, 685, 698, 721, 734, 747, 770], 140) := by decide +kernel
theorem dL_law_172 : decode cL_law 172 = .ok (.aload_n 1, 1) := by decide +kernel
theorem dL_law_173 : decode cL_law 173 = .ok (.aload_n 0, 1) := by decide +kernel
theorem dL_law_174 : decode cL_law 174 = .ok (.iload_n 3, 1) := by decide +kernel
theorem dL_law_175 : decode cL_law 175 = .ok (.iconst 1, 1) := by decide +kernel
theorem dL_law_176 : decode cL_law 176 = .ok (.iadd, 1) := by decide +kernel
theorem dL_law_177 : decode cL_law 177 = .ok (.iaload, 1) := by decide +kernel
theorem dL_law_178 : decode cL_law 178 = .ok (.invokevirtual 13, 3) := by decide +kernel
theorem dL_law_181 : decode cL_law 181 = .ok (.aload_n 2, 1) := by decide +kernel
theorem dL_law_182 : decode cL_law 182 = .ok (.aload_n 0, 1) := by decide +kernel
theorem dL_law_183 : decode cL_law 183 = .ok (.iload_n 3, 1) := by decide +kernel
theorem dL_law_184 : decode cL_law 184 = .ok (.iconst 1, 1) := by decide +kernel
theorem dL_law_185 : decode cL_law 185 = .ok (.iadd, 1) := by decide +kernel
theorem dL_law_186 : decode cL_law 186 = .ok (.iaload, 1) := by decide +kernel
theorem dL_law_187 : decode cL_law 187 = .ok (.invokevirtual 17, 3) := by decide +kernel
theorem dL_law_190 : decode cL_law 190 = .ok (.if_icmp .eq 625, 3) := by decide +kernel
theorem dL_law_193 : decode cL_law 193 = .ok (.iconst 0, 1) := by decide +kernel
theorem dL_law_194 : decode cL_law 194 = .ok (.ireturn, 1) := by decide +kernel
theorem dL_law_195 : decode cL_law 195 = .ok (.aload_n 1, 1) := by decide +kernel
theorem dL_law_196 : decode cL_law 196 = .ok (.invokevirtual 18, 3) := by decide +kernel
theorem dL_law_199 : decode cL_law 199 = .ok (.aload_n 2, 1) := by decide +kernel
theorem dL_law_200 : decode cL_law 200 = .ok (.invokevirtual 22, 3) := by decide +kernel
theorem dL_law_203 : decode cL_law 203 = .ok (.if_icmp .eq 612, 3) := by decide +kernel
theorem dL_law_206 : decode cL_law 206 = .ok (.iconst 0, 1) := by decide +kernel
theorem dL_law_207 : decode cL_law 207 = .ok (.ireturn, 1) := by decide +kernel
theorem dL_law_208 : decode cL_law 208 = .ok (.aload_n 1, 1) := by decide +kernel
theorem dL_law_209 : decode cL_law 209 = .ok (.aload_n 0, 1) := by decide +kernel
theorem dL_law_210 : decode cL_law 210 = .ok (.iload_n 3, 1) := by decide +kernel
theorem dL_law_211 : decode cL_law 211 = .ok (.iconst 1, 1) := by decide +kernel
theorem dL_law_212 : decode cL_law 212 = .ok (.iadd, 1) := by decide +kernel
theorem dL_law_213 : decode cL_law 213 = .ok (.iaload, 1) := by decide +kernel
theorem dL_law_214 : decode cL_law 214 = .ok (.invokevirtual 23, 3) := by decide +kernel
theorem dL_law_217 : decode cL_law 217 = .ok (.aload_n 2, 1) := by decide +kernel
theorem dL_law_218 : decode cL_law 218 = .ok (.aload_n 0, 1) := by decide +kernel
theorem dL_law_219 : decode cL_law 219 = .ok (.iload_n 3, 1) := by decide +kernel
theorem dL_law_220 : decode cL_law 220 = .ok (.iconst 1, 1) := by decide +kernel
theorem dL_law_221 : decode cL_law 221 = .ok (.iadd, 1) := by decide +kernel
theorem dL_law_222 : decode cL_law 222 = .ok (.iaload, 1) := by decide +kernel
theorem dL_law_223 : decode cL_law 223 = .ok (.invokevirtual 26, 3) := by decide +kernel
theorem dL_law_226 : decode cL_law 226 = .ok (.if_icmp .eq 589, 3) := by decide +kernel
theorem dL_law_229 : decode cL_law 229 = .ok (.iconst 0, 1) := by decide +kernel
theorem dL_law_230 : decode cL_law 230 = .ok (.ireturn, 1) := by decide +kernel
theorem dL_law_231 : decode cL_law 231 = .ok (.aload_n 1, 1) := by decide +kernel
theorem dL_law_232 : decode cL_law 232 = .ok (.aload_n 0, 1) := by decide +kernel
theorem dL_law_233 : decode cL_law 233 = .ok (.iload_n 3, 1) := by decide +kernel
theorem dL_law_234 : decode cL_law 234 = .ok (.iconst 1, 1) := by decide +kernel
theorem dL_law_235 : decode cL_law 235 = .ok (.iadd, 1) := by decide +kernel
theorem dL_law_236 : decode cL_law 236 = .ok (.iaload, 1) := by decide +kernel
theorem dL_law_237 : decode cL_law 237 = .ok (.invokevirtual 27, 3) := by decide +kernel
theorem dL_law_240 : decode cL_law 240 = .ok (.aload_n 2, 1) := by decide +kernel
theorem dL_law_241 : decode cL_law 241 = .ok (.aload_n 0, 1) := by decide +kernel
theorem dL_law_242 : decode cL_law 242 = .ok (.iload_n 3, 1) := by decide +kernel
theorem dL_law_243 : decode cL_law 243 = .ok (.iconst 1, 1) := by decide +kernel
theorem dL_law_244 : decode cL_law 244 = .ok (.iadd, 1) := by decide +kernel
theorem dL_law_245 : decode cL_law 245 = .ok (.iaload, 1) := by decide +kernel
theorem dL_law_246 : decode cL_law 246 = .ok (.invokevirtual 30, 3) := by decide +kernel
theorem dL_law_249 : decode cL_law 249 = .ok (.if_icmp .eq 566, 3) := by decide +kernel
theorem dL_law_252 : decode cL_law 252 = .ok (.iconst 0, 1) := by decide +kernel
theorem dL_law_253 : decode cL_law 253 = .ok (.ireturn, 1) := by decide +kernel
theorem dL_law_254 : decode cL_law 254 = .ok (.aload_n 1, 1) := by decide +kernel
theorem dL_law_255 : decode cL_law 255 = .ok (.invokevirtual 31, 3) := by decide +kernel
theorem dL_law_258 : decode cL_law 258 = .ok (.aload_n 2, 1) := by decide +kernel
theorem dL_law_259 : decode cL_law 259 = .ok (.invokevirtual 34, 3) := by decide +kernel
theorem dL_law_262 : decode cL_law 262 = .ok (.if_icmp .eq 553, 3) := by decide +kernel
theorem dL_law_265 : decode cL_law 265 = .ok (.iconst 0, 1) := by decide +kernel
theorem dL_law_266 : decode cL_law 266 = .ok (.ireturn, 1) := by decide +kernel
theorem dL_law_267 : decode cL_law 267 = .ok (.aload_n 1, 1) := by decide +kernel
theorem dL_law_268 : decode cL_law 268 = .ok (.invokevirtual 35, 3) := by decide +kernel
theorem dL_law_271 : decode cL_law 271 = .ok (.aload_n 2, 1) := by decide +kernel
theorem dL_law_272 : decode cL_law 272 = .ok (.invokevirtual 38, 3) := by decide +kernel
theorem dL_law_275 : decode cL_law 275 = .ok (.if_icmp .eq 540, 3) := by decide +kernel
theorem dL_law_278 : decode cL_law 278 = .ok (.iconst 0, 1) := by decide +kernel
theorem dL_law_279 : decode cL_law 279 = .ok (.ireturn, 1) := by decide +kernel
theorem dL_law_280 : decode cL_law 280 = .ok (.aload_n 1, 1) := by decide +kernel
theorem dL_law_281 : decode cL_law 281 = .ok (.aload_n 0, 1) := by decide +kernel
theorem dL_law_282 : decode cL_law 282 = .ok (.iload_n 3, 1) := by decide +kernel
theorem dL_law_283 : decode cL_law 283 = .ok (.iconst 1, 1) := by decide +kernel
theorem dL_law_284 : decode cL_law 284 = .ok (.iadd, 1) := by decide +kernel
theorem dL_law_285 : decode cL_law 285 = .ok (.iaload, 1) := by decide +kernel
theorem dL_law_286 : decode cL_law 286 = .ok (.invokevirtual 39, 3) := by decide +kernel
theorem dL_law_289 : decode cL_law 289 = .ok (.aload_n 2, 1) := by decide +kernel
theorem dL_law_290 : decode cL_law 290 = .ok (.aload_n 0, 1) := by decide +kernel
theorem dL_law_291 : decode cL_law 291 = .ok (.iload_n 3, 1) := by decide +kernel
theorem dL_law_292 : decode cL_law 292 = .ok (.iconst 1, 1) := by decide +kernel
theorem dL_law_293 : decode cL_law 293 = .ok (.iadd, 1) := by decide +kernel
theorem dL_law_294 : decode cL_law 294 = .ok (.iaload, 1) := by decide +kernel
theorem dL_law_295 : decode cL_law 295 = .ok (.invokevirtual 42, 3) := by decide +kernel
theorem dL_law_298 : decode cL_law 298 = .ok (.if_icmp .eq 517, 3) := by decide +kernel
theorem dL_law_301 : decode cL_law 301 = .ok (.iconst 0, 1) := by decide +kernel
theorem dL_law_302 : decode cL_law 302 = .ok (.ireturn, 1) := by decide +kernel
theorem dL_law_303 : decode cL_law 303 = .ok (.aload_n 1, 1) := by decide +kernel
theorem dL_law_304 : decode cL_law 304 = .ok (.aload_n 0, 1) := by decide +kernel
theorem dL_law_305 : decode cL_law 305 = .ok (.iload_n 3, 1) := by decide +kernel
theorem dL_law_306 : decode cL_law 306 = .ok (.iconst 1, 1) := by decide +kernel
theorem dL_law_307 : decode cL_law 307 = .ok (.iadd, 1) := by decide +kernel
theorem dL_law_308 : decode cL_law 308 = .ok (.iaload, 1) := by decide +kernel
theorem dL_law_309 : decode cL_law 309 = .ok (.aload_n 0, 1) := by decide +kernel
theorem dL_law_310 : decode cL_law 310 = .ok (.iload_n 3, 1) := by decide +kernel
theorem dL_law_311 : decode cL_law 311 = .ok (.iconst 2, 1) := by decide +kernel
theorem dL_law_312 : decode cL_law 312 = .ok (.iadd, 1) := by decide +kernel
theorem dL_law_313 : decode cL_law 313 = .ok (.iaload, 1) := by decide +kernel
theorem dL_law_314 : decode cL_law 314 = .ok (.invokevirtual 43, 3) := by decide +kernel
theorem dL_law_317 : decode cL_law 317 = .ok (.aload_n 2, 1) := by decide +kernel
theorem dL_law_318 : decode cL_law 318 = .ok (.aload_n 0, 1) := by decide +kernel
theorem dL_law_319 : decode cL_law 319 = .ok (.iload_n 3, 1) := by decide +kernel
theorem dL_law_320 : decode cL_law 320 = .ok (.iconst 1, 1) := by decide +kernel
theorem dL_law_321 : decode cL_law 321 = .ok (.iadd, 1) := by decide +kernel
theorem dL_law_322 : decode cL_law 322 = .ok (.iaload, 1) := by decide +kernel
theorem dL_law_323 : decode cL_law 323 = .ok (.aload_n 0, 1) := by decide +kernel
theorem dL_law_324 : decode cL_law 324 = .ok (.iload_n 3, 1) := by decide +kernel
theorem dL_law_325 : decode cL_law 325 = .ok (.iconst 2, 1) := by decide +kernel
theorem dL_law_326 : decode cL_law 326 = .ok (.iadd, 1) := by decide +kernel
theorem dL_law_327 : decode cL_law 327 = .ok (.iaload, 1) := by decide +kernel
theorem dL_law_328 : decode cL_law 328 = .ok (.invokevirtual 47, 3) := by decide +kernel
theorem dL_law_331 : decode cL_law 331 = .ok (.if_icmp .eq 484, 3) := by decide +kernel
theorem dL_law_334 : decode cL_law 334 = .ok (.iconst 0, 1) := by decide +kernel
theorem dL_law_335 : decode cL_law 335 = .ok (.ireturn, 1) := by decide +kernel
theorem dL_law_336 : decode cL_law 336 = .ok (.aload_n 1, 1) := by decide +kernel
theorem dL_law_337 : decode cL_law 337 = .ok (.aload_n 0, 1) := by decide +kernel
theorem dL_law_338 : decode cL_law 338 = .ok (.iload_n 3, 1) := by decide +kernel
theorem dL_law_339 : decode cL_law 339 = .ok (.iconst 1, 1) := by decide +kernel
theorem dL_law_340 : decode cL_law 340 = .ok (.iadd, 1) := by decide +kernel
theorem dL_law_341 : decode cL_law 341 = .ok (.iaload, 1) := by decide +kernel
theorem dL_law_342 : decode cL_law 342 = .ok (.aload_n 0, 1) := by decide +kernel
theorem dL_law_343 : decode cL_law 343 = .ok (.iload_n 3, 1) := by decide +kernel
theorem dL_law_344 : decode cL_law 344 = .ok (.iconst 2, 1) := by decide +kernel
theorem dL_law_345 : decode cL_law 345 = .ok (.iadd, 1) := by decide +kernel
theorem dL_law_346 : decode cL_law 346 = .ok (.iaload, 1) := by decide +kernel
theorem dL_law_347 : decode cL_law 347 = .ok (.invokevirtual 48, 3) := by decide +kernel
theorem dL_law_350 : decode cL_law 350 = .ok (.aload_n 2, 1) := by decide +kernel
theorem dL_law_351 : decode cL_law 351 = .ok (.aload_n 0, 1) := by decide +kernel
theorem dL_law_352 : decode cL_law 352 = .ok (.iload_n 3, 1) := by decide +kernel
theorem dL_law_353 : decode cL_law 353 = .ok (.iconst 1, 1) := by decide +kernel
theorem dL_law_354 : decode cL_law 354 = .ok (.iadd, 1) := by decide +kernel
theorem dL_law_355 : decode cL_law 355 = .ok (.iaload, 1) := by decide +kernel
theorem dL_law_356 : decode cL_law 356 = .ok (.aload_n 0, 1) := by decide +kernel
theorem dL_law_357 : decode cL_law 357 = .ok (.iload_n 3, 1) := by decide +kernel
theorem dL_law_358 : decode cL_law 358 = .ok (.iconst 2, 1) := by decide +kernel
theorem dL_law_359 : decode cL_law 359 = .ok (.iadd, 1) := by decide +kernel
theorem dL_law_360 : decode cL_law 360 = .ok (.iaload, 1) := by decide +kernel
theorem dL_law_361 : decode cL_law 361 = .ok (.invokevirtual 51, 3) := by decide +kernel
theorem dL_law_364 : decode cL_law 364 = .ok (.if_icmp .eq 451, 3) := by decide +kernel
theorem dL_law_367 : decode cL_law 367 = .ok (.iconst 0, 1) := by decide +kernel
theorem dL_law_368 : decode cL_law 368 = .ok (.ireturn, 1) := by decide +kernel
theorem dL_law_369 : decode cL_law 369 = .ok (.aload_n 1, 1) := by decide +kernel
theorem dL_law_370 : decode cL_law 370 = .ok (.invokevirtual 52, 3) := by decide +kernel
theorem dL_law_373 : decode cL_law 373 = .ok (.aload_n 2, 1) := by decide +kernel
theorem dL_law_374 : decode cL_law 374 = .ok (.invokevirtual 55, 3) := by decide +kernel
theorem dL_law_377 : decode cL_law 377 = .ok (.if_icmp .eq 438, 3) := by decide +kernel
theorem dL_law_380 : decode cL_law 380 = .ok (.iconst 0, 1) := by decide +kernel
theorem dL_law_381 : decode cL_law 381 = .ok (.ireturn, 1) := by decide +kernel
theorem dL_law_382 : decode cL_law 382 = .ok (.aload_n 1, 1) := by decide +kernel
theorem dL_law_383 : decode cL_law 383 = .ok (.aload_n 0, 1) := by decide +kernel
theorem dL_law_384 : decode cL_law 384 = .ok (.iload_n 3, 1) := by decide +kernel
theorem dL_law_385 : decode cL_law 385 = .ok (.iconst 1, 1) := by decide +kernel
theorem dL_law_386 : decode cL_law 386 = .ok (.iadd, 1) := by decide +kernel
theorem dL_law_387 : decode cL_law 387 = .ok (.iaload, 1) := by decide +kernel
theorem dL_law_388 : decode cL_law 388 = .ok (.invokevirtual 56, 3) := by decide +kernel
theorem dL_law_391 : decode cL_law 391 = .ok (.aload_n 2, 1) := by decide +kernel
theorem dL_law_392 : decode cL_law 392 = .ok (.aload_n 0, 1) := by decide +kernel
theorem dL_law_393 : decode cL_law 393 = .ok (.iload_n 3, 1) := by decide +kernel
theorem dL_law_394 : decode cL_law 394 = .ok (.iconst 1, 1) := by decide +kernel
theorem dL_law_395 : decode cL_law 395 = .ok (.iadd, 1) := by decide +kernel
theorem dL_law_396 : decode cL_law 396 = .ok (.iaload, 1) := by decide +kernel
theorem dL_law_397 : decode cL_law 397 = .ok (.invokevirtual 59, 3) := by decide +kernel
theorem dL_law_400 : decode cL_law 400 = .ok (.if_icmp .eq 415, 3) := by decide +kernel
theorem dL_law_403 : decode cL_law 403 = .ok (.iconst 0, 1) := by decide +kernel
theorem dL_law_404 : decode cL_law 404 = .ok (.ireturn, 1) := by decide +kernel
theorem dL_law_405 : decode cL_law 405 = .ok (.aload_n 1, 1) := by decide +kernel
theorem dL_law_406 : decode cL_law 406 = .ok (.invokevirtual 60, 3) := by decide +kernel
theorem dL_law_409 : decode cL_law 409 = .ok (.aload_n 2, 1) := by decide +kernel
theorem dL_law_410 : decode cL_law 410 = .ok (.invokevirtual 63, 3) := by decide +kernel
theorem dL_law_413 : decode cL_law 413 = .ok (.if_icmp .eq 402, 3) := by decide +kernel
theorem dL_law_416 : decode cL_law 416 = .ok (.iconst 0, 1) := by decide +kernel
theorem dL_law_417 : decode cL_law 417 = .ok (.ireturn, 1) := by decide +kernel
theorem dL_law_418 : decode cL_law 418 = .ok (.aload_n 1, 1) := by decide +kernel
theorem dL_law_419 : decode cL_law 419 = .ok (.aload_n 0, 1) := by decide +kernel
theorem dL_law_420 : decode cL_law 420 = .ok (.iload_n 3, 1) := by decide +kernel
theorem dL_law_421 : decode cL_law 421 = .ok (.iconst 1, 1) := by decide +kernel
theorem dL_law_422 : decode cL_law 422 = .ok (.iadd, 1) := by decide +kernel
theorem dL_law_423 : decode cL_law 423 = .ok (.iaload, 1) := by decide +kernel
theorem dL_law_424 : decode cL_law 424 = .ok (.invokevirtual 64, 3) := by decide +kernel
theorem dL_law_427 : decode cL_law 427 = .ok (.aload_n 2, 1) := by decide +kernel
theorem dL_law_428 : decode cL_law 428 = .ok (.aload_n 0, 1) := by decide +kernel
theorem dL_law_429 : decode cL_law 429 = .ok (.iload_n 3, 1) := by decide +kernel
theorem dL_law_430 : decode cL_law 430 = .ok (.iconst 1, 1) := by decide +kernel
theorem dL_law_431 : decode cL_law 431 = .ok (.iadd, 1) := by decide +kernel
theorem dL_law_432 : decode cL_law 432 = .ok (.iaload, 1) := by decide +kernel
theorem dL_law_433 : decode cL_law 433 = .ok (.invokevirtual 67, 3) := by decide +kernel
theorem dL_law_436 : decode cL_law 436 = .ok (.if_icmp .eq 379, 3) := by decide +kernel
theorem dL_law_439 : decode cL_law 439 = .ok (.iconst 0, 1) := by decide +kernel
theorem dL_law_440 : decode cL_law 440 = .ok (.ireturn, 1) := by decide +kernel
theorem dL_law_441 : decode cL_law 441 = .ok (.aload_n 1, 1) := by decide +kernel
theorem dL_law_442 : decode cL_law 442 = .ok (.invokevirtual 68, 3) := by decide +kernel
theorem dL_law_445 : decode cL_law 445 = .ok (.aload_n 2, 1) := by decide +kernel
theorem dL_law_446 : decode cL_law 446 = .ok (.invokevirtual 71, 3) := by decide +kernel
theorem dL_law_449 : decode cL_law 449 = .ok (.if_icmp .eq 366, 3) := by decide +kernel
theorem dL_law_452 : decode cL_law 452 = .ok (.iconst 0, 1) := by decide +kernel
theorem dL_law_453 : decode cL_law 453 = .ok (.ireturn, 1) := by decide +kernel
theorem dL_law_454 : decode cL_law 454 = .ok (.aload_n 1, 1) := by decide +kernel
theorem dL_law_455 : decode cL_law 455 = .ok (.invokevirtual 72, 3) := by decide +kernel
theorem dL_law_458 : decode cL_law 458 = .ok (.aload_n 2, 1) := by decide +kernel
theorem dL_law_459 : decode cL_law 459 = .ok (.invokevirtual 75, 3) := by decide +kernel
theorem dL_law_462 : decode cL_law 462 = .ok (.if_icmp .eq 353, 3) := by decide +kernel
theorem dL_law_465 : decode cL_law 465 = .ok (.iconst 0, 1) := by decide +kernel
theorem dL_law_466 : decode cL_law 466 = .ok (.ireturn, 1) := by decide +kernel
theorem dL_law_467 : decode cL_law 467 = .ok (.aload_n 1, 1) := by decide +kernel
theorem dL_law_468 : decode cL_law 468 = .ok (.aload_n 0, 1) := by decide +kernel
theorem dL_law_469 : decode cL_law 469 = .ok (.iload_n 3, 1) := by decide +kernel
theorem dL_law_470 : decode cL_law 470 = .ok (.iconst 1, 1) := by decide +kernel
theorem dL_law_471 : decode cL_law 471 = .ok (.iadd, 1) := by decide +kernel
theorem dL_law_472 : decode cL_law 472 = .ok (.iaload, 1) := by decide +kernel
theorem dL_law_473 : decode cL_law 473 = .ok (.invokevirtual 76, 3) := by decide +kernel
theorem dL_law_476 : decode cL_law 476 = .ok (.aload_n 2, 1) := by decide +kernel
theorem dL_law_477 : decode cL_law 477 = .ok (.aload_n 0, 1) := by decide +kernel
theorem dL_law_478 : decode cL_law 478 = .ok (.iload_n 3, 1) := by decide +kernel
theorem dL_law_479 : decode cL_law 479 = .ok (.iconst 1, 1) := by decide +kernel
theorem dL_law_480 : decode cL_law 480 = .ok (.iadd, 1) := by decide +kernel
theorem dL_law_481 : decode cL_law 481 = .ok (.iaload, 1) := by decide +kernel
theorem dL_law_482 : decode cL_law 482 = .ok (.invokevirtual 79, 3) := by decide +kernel
theorem dL_law_485 : decode cL_law 485 = .ok (.if_icmp .eq 330, 3) := by decide +kernel
theorem dL_law_488 : decode cL_law 488 = .ok (.iconst 0, 1) := by decide +kernel
theorem dL_law_489 : decode cL_law 489 = .ok (.ireturn, 1) := by decide +kernel
theorem dL_law_490 : decode cL_law 490 = .ok (.aload_n 1, 1) := by decide +kernel
theorem dL_law_491 : decode cL_law 491 = .ok (.aload_n 0, 1) := by decide +kernel
theorem dL_law_492 : decode cL_law 492 = .ok (.iload_n 3, 1) := by decide +kernel
theorem dL_law_493 : decode cL_law 493 = .ok (.iconst 1, 1) := by decide +kernel
theorem dL_law_494 : decode cL_law 494 = .ok (.iadd, 1) := by decide +kernel
theorem dL_law_495 : decode cL_law 495 = .ok (.iaload, 1) := by decide +kernel
theorem dL_law_496 : decode cL_law 496 = .ok (.invokevirtual 80, 3) := by decide +kernel
theorem dL_law_499 : decode cL_law 499 = .ok (.aload_n 2, 1) := by decide +kernel
theorem dL_law_500 : decode cL_law 500 = .ok (.aload_n 0, 1) := by decide +kernel
theorem dL_law_501 : decode cL_law 501 = .ok (.iload_n 3, 1) := by decide +kernel
theorem dL_law_502 : decode cL_law 502 = .ok (.iconst 1, 1) := by decide +kernel
theorem dL_law_503 : decode cL_law 503 = .ok (.iadd, 1) := by decide +kernel
theorem dL_law_504 : decode cL_law 504 = .ok (.iaload, 1) := by decide +kernel
theorem dL_law_505 : decode cL_law 505 = .ok (.invokevirtual 83, 3) := by decide +kernel
theorem dL_law_508 : decode cL_law 508 = .ok (.if_icmp .eq 307, 3) := by decide +kernel
theorem dL_law_511 : decode cL_law 511 = .ok (.iconst 0, 1) := by decide +kernel
theorem dL_law_512 : decode cL_law 512 = .ok (.ireturn, 1) := by decide +kernel
theorem dL_law_513 : decode cL_law 513 = .ok (.aload_n 1, 1) := by decide +kernel
theorem dL_law_514 : decode cL_law 514 = .ok (.aload_n 0, 1) := by decide +kernel
theorem dL_law_515 : decode cL_law 515 = .ok (.iload_n 3, 1) := by decide +kernel
theorem dL_law_516 : decode cL_law 516 = .ok (.iconst 1, 1) := by decide +kernel
theorem dL_law_517 : decode cL_law 517 = .ok (.iadd, 1) := by decide +kernel
theorem dL_law_518 : decode cL_law 518 = .ok (.iaload, 1) := by decide +kernel
theorem dL_law_519 : decode cL_law 519 = .ok (.invokevirtual 84, 3) := by decide +kernel
theorem dL_law_522 : decode cL_law 522 = .ok (.aload_n 2, 1) := by decide +kernel
theorem dL_law_523 : decode cL_law 523 = .ok (.aload_n 0, 1) := by decide +kernel
theorem dL_law_524 : decode cL_law 524 = .ok (.iload_n 3, 1) := by decide +kernel
theorem dL_law_525 : decode cL_law 525 = .ok (.iconst 1, 1) := by decide +kernel
theorem dL_law_526 : decode cL_law 526 = .ok (.iadd, 1) := by decide +kernel
theorem dL_law_527 : decode cL_law 527 = .ok (.iaload, 1) := by decide +kernel
theorem dL_law_528 : decode cL_law 528 = .ok (.invokevirtual 87, 3) := by decide +kernel
theorem dL_law_531 : decode cL_law 531 = .ok (.if_icmp .eq 284, 3) := by decide +kernel
theorem dL_law_534 : decode cL_law 534 = .ok (.iconst 0, 1) := by decide +kernel
theorem dL_law_535 : decode cL_law 535 = .ok (.ireturn, 1) := by decide +kernel
theorem dL_law_536 : decode cL_law 536 = .ok (.aload_n 1, 1) := by decide +kernel
theorem dL_law_537 : decode cL_law 537 = .ok (.aload_n 0, 1) := by decide +kernel
theorem dL_law_538 : decode cL_law 538 = .ok (.iload_n 3, 1) := by decide +kernel
theorem dL_law_539 : decode cL_law 539 = .ok (.iconst 1, 1) := by decide +kernel
theorem dL_law_540 : decode cL_law 540 = .ok (.iadd, 1) := by decide +kernel
theorem dL_law_541 : decode cL_law 541 = .ok (.iaload, 1) := by decide +kernel
theorem dL_law_542 : decode cL_law 542 = .ok (.aload_n 0, 1) := by decide +kernel
theorem dL_law_543 : decode cL_law 543 = .ok (.iload_n 3, 1) := by decide +kernel
theorem dL_law_544 : decode cL_law 544 = .ok (.iconst 2, 1) := by decide +kernel
theorem dL_law_545 : decode cL_law 545 = .ok (.iadd, 1) := by decide +kernel
theorem dL_law_546 : decode cL_law 546 = .ok (.iaload, 1) := by decide +kernel
theorem dL_law_547 : decode cL_law 547 = .ok (.invokevirtual 88, 3) := by decide +kernel
theorem dL_law_550 : decode cL_law 550 = .ok (.aload_n 2, 1) := by decide +kernel
theorem dL_law_551 : decode cL_law 551 = .ok (.aload_n 0, 1) := by decide +kernel
theorem dL_law_552 : decode cL_law 552 = .ok (.iload_n 3, 1) := by decide +kernel
theorem dL_law_553 : decode cL_law 553 = .ok (.iconst 1, 1) := by decide +kernel
theorem dL_law_554 : decode cL_law 554 = .ok (.iadd, 1) := by decide +kernel
theorem dL_law_555 : decode cL_law 555 = .ok (.iaload, 1) := by decide +kernel
theorem dL_law_556 : decode cL_law 556 = .ok (.aload_n 0, 1) := by decide +kernel
theorem dL_law_557 : decode cL_law 557 = .ok (.iload_n 3, 1) := by decide +kernel
theorem dL_law_558 : decode cL_law 558 = .ok (.iconst 2, 1) := by decide +kernel
theorem dL_law_559 : decode cL_law 559 = .ok (.iadd, 1) := by decide +kernel
theorem dL_law_560 : decode cL_law 560 = .ok (.iaload, 1) := by decide +kernel
theorem dL_law_561 : decode cL_law 561 = .ok (.invokevirtual 91, 3) := by decide +kernel
theorem dL_law_564 : decode cL_law 564 = .ok (.if_icmp .eq 251, 3) := by decide +kernel
theorem dL_law_567 : decode cL_law 567 = .ok (.iconst 0, 1) := by decide +kernel
theorem dL_law_568 : decode cL_law 568 = .ok (.ireturn, 1) := by decide +kernel
theorem dL_law_569 : decode cL_law 569 = .ok (.aload_n 1, 1) := by decide +kernel
theorem dL_law_570 : decode cL_law 570 = .ok (.aload_n 0, 1) := by decide +kernel
theorem dL_law_571 : decode cL_law 571 = .ok (.iload_n 3, 1) := by decide +kernel
theorem dL_law_572 : decode cL_law 572 = .ok (.iconst 1, 1) := by decide +kernel
theorem dL_law_573 : decode cL_law 573 = .ok (.iadd, 1) := by decide +kernel
theorem dL_law_574 : decode cL_law 574 = .ok (.iaload, 1) := by decide +kernel
theorem dL_law_575 : decode cL_law 575 = .ok (.aload_n 0, 1) := by decide +kernel
theorem dL_law_576 : decode cL_law 576 = .ok (.iload_n 3, 1) := by decide +kernel
theorem dL_law_577 : decode cL_law 577 = .ok (.iconst 2, 1) := by decide +kernel
theorem dL_law_578 : decode cL_law 578 = .ok (.iadd, 1) := by decide +kernel
theorem dL_law_579 : decode cL_law 579 = .ok (.iaload, 1) := by decide +kernel
theorem dL_law_580 : decode cL_law 580 = .ok (.invokevirtual 92, 3) := by decide +kernel
theorem dL_law_583 : decode cL_law 583 = .ok (.aload_n 2, 1) := by decide +kernel
theorem dL_law_584 : decode cL_law 584 = .ok (.aload_n 0, 1) := by decide +kernel
theorem dL_law_585 : decode cL_law 585 = .ok (.iload_n 3, 1) := by decide +kernel
theorem dL_law_586 : decode cL_law 586 = .ok (.iconst 1, 1) := by decide +kernel
theorem dL_law_587 : decode cL_law 587 = .ok (.iadd, 1) := by decide +kernel
theorem dL_law_588 : decode cL_law 588 = .ok (.iaload, 1) := by decide +kernel
theorem dL_law_589 : decode cL_law 589 = .ok (.aload_n 0, 1) := by decide +kernel
theorem dL_law_590 : decode cL_law 590 = .ok (.iload_n 3, 1) := by decide +kernel
theorem dL_law_591 : decode cL_law 591 = .ok (.iconst 2, 1) := by decide +kernel
theorem dL_law_592 : decode cL_law 592 = .ok (.iadd, 1) := by decide +kernel
theorem dL_law_593 : decode cL_law 593 = .ok (.iaload, 1) := by decide +kernel
theorem dL_law_594 : decode cL_law 594 = .ok (.invokevirtual 95, 3) := by decide +kernel
theorem dL_law_597 : decode cL_law 597 = .ok (.if_icmp .eq 218, 3) := by decide +kernel
theorem dL_law_600 : decode cL_law 600 = .ok (.iconst 0, 1) := by decide +kernel
theorem dL_law_601 : decode cL_law 601 = .ok (.ireturn, 1) := by decide +kernel
theorem dL_law_602 : decode cL_law 602 = .ok (.aload_n 1, 1) := by decide +kernel
theorem dL_law_603 : decode cL_law 603 = .ok (.aload_n 0, 1) := by decide +kernel
theorem dL_law_604 : decode cL_law 604 = .ok (.iload_n 3, 1) := by decide +kernel
theorem dL_law_605 : decode cL_law 605 = .ok (.iconst 1, 1) := by decide +kernel
theorem dL_law_606 : decode cL_law 606 = .ok (.iadd, 1) := by decide +kernel
theorem dL_law_607 : decode cL_law 607 = .ok (.iaload, 1) := by decide +kernel
theorem dL_law_608 : decode cL_law 608 = .ok (.invokevirtual 96, 3) := by decide +kernel
theorem dL_law_611 : decode cL_law 611 = .ok (.aload_n 2, 1) := by decide +kernel
theorem dL_law_612 : decode cL_law 612 = .ok (.aload_n 0, 1) := by decide +kernel
theorem dL_law_613 : decode cL_law 613 = .ok (.iload_n 3, 1) := by decide +kernel
theorem dL_law_614 : decode cL_law 614 = .ok (.iconst 1, 1) := by decide +kernel
theorem dL_law_615 : decode cL_law 615 = .ok (.iadd, 1) := by decide +kernel
theorem dL_law_616 : decode cL_law 616 = .ok (.iaload, 1) := by decide +kernel
theorem dL_law_617 : decode cL_law 617 = .ok (.invokevirtual 99, 3) := by decide +kernel
theorem dL_law_620 : decode cL_law 620 = .ok (.if_icmp .eq 195, 3) := by decide +kernel
theorem dL_law_623 : decode cL_law 623 = .ok (.iconst 0, 1) := by decide +kernel
theorem dL_law_624 : decode cL_law 624 = .ok (.ireturn, 1) := by decide +kernel
theorem dL_law_625 : decode cL_law 625 = .ok (.aload_n 1, 1) := by decide +kernel
theorem dL_law_626 : decode cL_law 626 = .ok (.aload_n 0, 1) := by decide +kernel
theorem dL_law_627 : decode cL_law 627 = .ok (.iload_n 3, 1) := by decide +kernel
theorem dL_law_628 : decode cL_law 628 = .ok (.iconst 1, 1) := by decide +kernel
theorem dL_law_629 : decode cL_law 629 = .ok (.iadd, 1) := by decide +kernel
theorem dL_law_630 : decode cL_law 630 = .ok (.iaload, 1) := by decide +kernel
theorem dL_law_631 : decode cL_law 631 = .ok (.invokevirtual 100, 3) := by decide +kernel
theorem dL_law_634 : decode cL_law 634 = .ok (.aload_n 2, 1) := by decide +kernel
theorem dL_law_635 : decode cL_law 635 = .ok (.aload_n 0, 1) := by decide +kernel
theorem dL_law_636 : decode cL_law 636 = .ok (.iload_n 3, 1) := by decide +kernel
theorem dL_law_637 : decode cL_law 637 = .ok (.iconst 1, 1) := by decide +kernel
theorem dL_law_638 : decode cL_law 638 = .ok (.iadd, 1) := by decide +kernel
theorem dL_law_639 : decode cL_law 639 = .ok (.iaload, 1) := by decide +kernel
theorem dL_law_640 : decode cL_law 640 = .ok (.invokevirtual 103, 3) := by decide +kernel
theorem dL_law_643 : decode cL_law 643 = .ok (.if_icmp .eq 172, 3) := by decide +kernel
theorem dL_law_646 : decode cL_law 646 = .ok (.iconst 0, 1) := by decide +kernel
theorem dL_law_647 : decode cL_law 647 = .ok (.ireturn, 1) := by decide +kernel
theorem dL_law_648 : decode cL_law 648 = .ok (.aload_n 1, 1) := by decide +kernel
theorem dL_law_649 : decode cL_law 649 = .ok (.invokevirtual 104, 3) := by decide +kernel
theorem dL_law_652 : decode cL_law 652 = .ok (.aload_n 2, 1) := by decide +kernel
theorem dL_law_653 : decode cL_law 653 = .ok (.invokevirtual 107, 3) := by decide +kernel
theorem dL_law_656 : decode cL_law 656 = .ok (.if_icmp .eq 159, 3) := by decide +kernel
theorem dL_law_659 : decode cL_law 659 = .ok (.iconst 0, 1) := by decide +kernel
theorem dL_law_660 : decode cL_law 660 = .ok (.ireturn, 1) := by decide +kernel
theorem dL_law_661 : decode cL_law 661 = .ok (.aload_n 1, 1) := by decide +kernel
theorem dL_law_662 : decode cL_law 662 = .ok (.aload_n 0, 1) := by decide +kernel
theorem dL_law_663 : decode cL_law 663 = .ok (.iload_n 3, 1) := by decide +kernel
theorem dL_law_664 : decode cL_law 664 = .ok (.iconst 1, 1) := by decide +kernel
theorem dL_law_665 : decode cL_law 665 = .ok (.iadd, 1) := by decide +kernel
theorem dL_law_666 : decode cL_law 666 = .ok (.iaload, 1) := by decide +kernel
theorem dL_law_667 : decode cL_law 667 = .ok (.aload_n 0, 1) := by decide +kernel
theorem dL_law_668 : decode cL_law 668 = .ok (.iload_n 3, 1) := by decide +kernel
theorem dL_law_669 : decode cL_law 669 = .ok (.iconst 2, 1) := by decide +kernel
theorem dL_law_670 : decode cL_law 670 = .ok (.iadd, 1) := by decide +kernel
theorem dL_law_671 : decode cL_law 671 = .ok (.iaload, 1) := by decide +kernel
theorem dL_law_672 : decode cL_law 672 = .ok (.invokevirtual 108, 3) := by decide +kernel
theorem dL_law_675 : decode cL_law 675 = .ok (.aload_n 2, 1) := by decide +kernel
theorem dL_law_676 : decode cL_law 676 = .ok (.aload_n 0, 1) := by decide +kernel
theorem dL_law_677 : decode cL_law 677 = .ok (.iload_n 3, 1) := by decide +kernel
theorem dL_law_678 : decode cL_law 678 = .ok (.iconst 1, 1) := by decide +kernel
theorem dL_law_679 : decode cL_law 679 = .ok (.iadd, 1) := by decide +kernel
theorem dL_law_680 : decode cL_law 680 = .ok (.iaload, 1) := by decide +kernel
theorem dL_law_681 : decode cL_law 681 = .ok (.aload_n 0, 1) := by decide +kernel
theorem dL_law_682 : decode cL_law 682 = .ok (.iload_n 3, 1) := by decide +kernel
theorem dL_law_683 : decode cL_law 683 = .ok (.iconst 2, 1) := by decide +kernel
theorem dL_law_684 : decode cL_law 684 = .ok (.iadd, 1) := by decide +kernel
theorem dL_law_685 : decode cL_law 685 = .ok (.iaload, 1) := by decide +kernel
theorem dL_law_686 : decode cL_law 686 = .ok (.invokevirtual 111, 3) := by decide +kernel
theorem dL_law_689 : decode cL_law 689 = .ok (.if_icmp .eq 126, 3) := by decide +kernel
theorem dL_law_692 : decode cL_law 692 = .ok (.iconst 0, 1) := by decide +kernel
theorem dL_law_693 : decode cL_law 693 = .ok (.ireturn, 1) := by decide +kernel
theorem dL_law_694 : decode cL_law 694 = .ok (.aload_n 1, 1) := by decide +kernel
theorem dL_law_695 : decode cL_law 695 = .ok (.aload_n 0, 1) := by decide +kernel
theorem dL_law_696 : decode cL_law 696 = .ok (.iload_n 3, 1) := by decide +kernel
theorem dL_law_697 : decode cL_law 697 = .ok (.iconst 1, 1) := by decide +kernel
theorem dL_law_698 : decode cL_law 698 = .ok (.iadd, 1) := by decide +kernel
theorem dL_law_699 : decode cL_law 699 = .ok (.iaload, 1) := by decide +kernel
theorem dL_law_700 : decode cL_law 700 = .ok (.invokevirtual 112, 3) := by decide +kernel
theorem dL_law_703 : decode cL_law 703 = .ok (.aload_n 2, 1) := by decide +kernel
theorem dL_law_704 : decode cL_law 704 = .ok (.aload_n 0, 1) := by decide +kernel
theorem dL_law_705 : decode cL_law 705 = .ok (.iload_n 3, 1) := by decide +kernel
theorem dL_law_706 : decode cL_law 706 = .ok (.iconst 1, 1) := by decide +kernel
theorem dL_law_707 : decode cL_law 707 = .ok (.iadd, 1) := by decide +kernel
theorem dL_law_708 : decode cL_law 708 = .ok (.iaload, 1) := by decide +kernel
theorem dL_law_709 : decode cL_law 709 = .ok (.invokevirtual 115, 3) := by decide +kernel
theorem dL_law_712 : decode cL_law 712 = .ok (.if_icmp .eq 103, 3) := by decide +kernel
theorem dL_law_715 : decode cL_law 715 = .ok (.iconst 0, 1) := by decide +kernel
theorem dL_law_716 : decode cL_law 716 = .ok (.ireturn, 1) := by decide +kernel
theorem dL_law_717 : decode cL_law 717 = .ok (.aload_n 1, 1) := by decide +kernel
theorem dL_law_718 : decode cL_law 718 = .ok (.invokevirtual 116, 3) := by decide +kernel
theorem dL_law_721 : decode cL_law 721 = .ok (.aload_n 2, 1) := by decide +kernel
theorem dL_law_722 : decode cL_law 722 = .ok (.invokevirtual 119, 3) := by decide +kernel
theorem dL_law_725 : decode cL_law 725 = .ok (.if_icmp .eq 90, 3) := by decide +kernel
theorem dL_law_728 : decode cL_law 728 = .ok (.iconst 0, 1) := by decide +kernel
theorem dL_law_729 : decode cL_law 729 = .ok (.ireturn, 1) := by decide +kernel
theorem dL_law_730 : decode cL_law 730 = .ok (.aload_n 1, 1) := by decide +kernel
theorem dL_law_731 : decode cL_law 731 = .ok (.aload_n 0, 1) := by decide +kernel
theorem dL_law_732 : decode cL_law 732 = .ok (.iload_n 3, 1) := by decide +kernel
theorem dL_law_733 : decode cL_law 733 = .ok (.iconst 1, 1) := by decide +kernel
theorem dL_law_734 : decode cL_law 734 = .ok (.iadd, 1) := by decide +kernel
theorem dL_law_735 : decode cL_law 735 = .ok (.iaload, 1) := by decide +kernel
theorem dL_law_736 : decode cL_law 736 = .ok (.invokevirtual 120, 3) := by decide +kernel
theorem dL_law_739 : decode cL_law 739 = .ok (.aload_n 2, 1) := by decide +kernel
theorem dL_law_740 : decode cL_law 740 = .ok (.aload_n 0, 1) := by decide +kernel
theorem dL_law_741 : decode cL_law 741 = .ok (.iload_n 3, 1) := by decide +kernel
theorem dL_law_742 : decode cL_law 742 = .ok (.iconst 1, 1) := by decide +kernel
theorem dL_law_743 : decode cL_law 743 = .ok (.iadd, 1) := by decide +kernel
theorem dL_law_744 : decode cL_law 744 = .ok (.iaload, 1) := by decide +kernel
theorem dL_law_745 : decode cL_law 745 = .ok (.invokevirtual 123, 3) := by decide +kernel
theorem dL_law_748 : decode cL_law 748 = .ok (.if_icmp .eq 67, 3) := by decide +kernel
theorem dL_law_751 : decode cL_law 751 = .ok (.iconst 0, 1) := by decide +kernel
theorem dL_law_752 : decode cL_law 752 = .ok (.ireturn, 1) := by decide +kernel
theorem dL_law_753 : decode cL_law 753 = .ok (.aload_n 1, 1) := by decide +kernel
theorem dL_law_754 : decode cL_law 754 = .ok (.invokevirtual 124, 3) := by decide +kernel
theorem dL_law_757 : decode cL_law 757 = .ok (.aload_n 2, 1) := by decide +kernel
theorem dL_law_758 : decode cL_law 758 = .ok (.invokevirtual 127, 3) := by decide +kernel
theorem dL_law_761 : decode cL_law 761 = .ok (.if_icmp .eq 54, 3) := by decide +kernel
theorem dL_law_764 : decode cL_law 764 = .ok (.iconst 0, 1) := by decide +kernel
theorem dL_law_765 : decode cL_law 765 = .ok (.ireturn, 1) := by decide +kernel
theorem dL_law_766 : decode cL_law 766 = .ok (.aload_n 1, 1) := by decide +kernel
theorem dL_law_767 : decode cL_law 767 = .ok (.invokevirtual 128, 3) := by decide +kernel
theorem dL_law_770 : decode cL_law 770 = .ok (.aload_n 2, 1) := by decide +kernel
theorem dL_law_771 : decode cL_law 771 = .ok (.invokevirtual 131, 3) := by decide +kernel
theorem dL_law_774 : decode cL_law 774 = .ok (.if_icmp .eq 41, 3) := by decide +kernel
theorem dL_law_777 : decode cL_law 777 = .ok (.iconst 0, 1) := by decide +kernel
theorem dL_law_778 : decode cL_law 778 = .ok (.ireturn, 1) := by decide +kernel
theorem dL_law_779 : decode cL_law 779 = .ok (.aload_n 1, 1) := by decide +kernel
theorem dL_law_780 : decode cL_law 780 = .ok (.aload_n 0, 1) := by decide +kernel
theorem dL_law_781 : decode cL_law 781 = .ok (.iload_n 3, 1) := by decide +kernel
theorem dL_law_782 : decode cL_law 782 = .ok (.iconst 1, 1) := by decide +kernel
theorem dL_law_783 : decode cL_law 783 = .ok (.iadd, 1) := by decide +kernel
theorem dL_law_784 : decode cL_law 784 = .ok (.iaload, 1) := by decide +kernel
theorem dL_law_785 : decode cL_law 785 = .ok (.invokevirtual 132, 3) := by decide +kernel
theorem dL_law_788 : decode cL_law 788 = .ok (.aload_n 2, 1) := by decide +kernel
theorem dL_law_789 : decode cL_law 789 = .ok (.aload_n 0, 1) := by decide +kernel
theorem dL_law_790 : decode cL_law 790 = .ok (.iload_n 3, 1) := by decide +kernel
theorem dL_law_791 : decode cL_law 791 = .ok (.iconst 1, 1) := by decide +kernel
theorem dL_law_792 : decode cL_law 792 = .ok (.iadd, 1) := by decide +kernel
theorem dL_law_793 : decode cL_law 793 = .ok (.iaload, 1) := by decide +kernel
theorem dL_law_794 : decode cL_law 794 = .ok (.invokevirtual 135, 3) := by decide +kernel
theorem dL_law_797 : decode cL_law 797 = .ok (.if_icmp .eq 18, 3) := by decide +kernel
theorem dL_law_800 : decode cL_law 800 = .ok (.iconst 0, 1) := by decide +kernel
theorem dL_law_801 : decode cL_law 801 = .ok (.ireturn, 1) := by decide +kernel
theorem dL_law_802 : decode cL_law 802 = .ok (.aload_n 1, 1) := by decide +kernel
theorem dL_law_803 : decode cL_law 803 = .ok (.invokevirtual 136, 3) := by decide +kernel
theorem dL_law_806 : decode cL_law 806 = .ok (.aload_n 2, 1) := by decide +kernel
theorem dL_law_807 : decode cL_law 807 = .ok (.invokevirtual 139, 3) := by decide +kernel
theorem dL_law_810 : decode cL_law 810 = .ok (.if_icmp .eq 5, 3) := by decide +kernel
theorem dL_law_813 : decode cL_law 813 = .ok (.iconst 0, 1) := by decide +kernel
theorem dL_law_814 : decode cL_law 814 = .ok (.ireturn, 1) := by decide +kernel
theorem dL_law_815 : decode cL_law 815 = .ok (.iinc 3 3, 3) := by decide +kernel
theorem dL_law_818 : decode cL_law 818 = .ok (.goto (-800), 3) := by decide +kernel
theorem dL_law_821 : decode cL_law 821 = .ok (.iconst 1, 1) := by decide +kernel
theorem dL_law_822 : decode cL_law 822 = .ok (.ireturn, 1) := by decide +kernel
end
section
/-! MY KIT: a walk's goal with its heap, its locals and its fixed things hidden; worlds as lists of chunks -/
/-- the fixed things of a walk: program, launch, env, room, start, method id, arguments, frames below, method, code -/
abbrev kT : Type := Program × Launch × Env × Room × State × MethodId × Array Value × List Frame × Method × Code
abbrev kS (κ : kT) : State := κ.2.2.2.2.1
abbrev kR (κ : kT) : Room := κ.2.2.2.1
abbrev kId (κ : kT) : MethodId := κ.2.2.2.2.2.1
abbrev kAr (κ : kT) : Array Value := κ.2.2.2.2.2.2.1
abbrev kBe (κ : kT) : List Frame := κ.2.2.2.2.2.2.2.1
abbrev kMe (κ : kT) : Method := κ.2.2.2.2.2.2.2.2.1
abbrev kCo (κ : kT) : Code := κ.2.2.2.2.2.2.2.2.2
def kW (κ : kT) (H : Heap) (locs : List Loc) (k n : Nat) (Q : State → Prop) (pc : Nat) (ls : Array Slot) (st : List Value) : Prop :=
  W κ.1 κ.2.1 κ.2.2.1 (kR κ) (kS κ) (kId κ) (kAr κ) (kBe κ) (kMe κ) (kCo κ) H locs k n Q (F0 (kId κ) pc ls st)
/-- the words of nest mates: they are carried in the start condition -/
def kNL : List Cond := [.methodLinkNest RX3 11 yX4_init RX5, .fieldLinkNest RX5 43 RX3 "tree" "LTreePlaces$Tree;" RX5, .fieldLinkNest RX5 136 RX3 "clip" "LTreePlaces$Tree;" RX5, .fieldLinkNest RX5 168 RX3 "walks" "LTreePlaces$Row;" RX5, .fieldLinkNest RX5 47 RX3 "place" "I" RX5, .methodLinkNest RX5 34 yX2_init RX5, .methodLinkNest RX2 11 yX4_init RX5, .fieldLinkNest RX5 202 RX2 "tree" "LTreePlaces$Tree;" RX5, .fieldLinkNest RX5 199 RX2 "faultPlace" "I" RX5, .fieldLinkNest RX5 196 RX2 "reason" "I" RX5, .methodLinkNest RX2 65 yX5_isLetter RX5]
def kNW (U : State) : Prop := (∀ w ∈ kNL, va_Nw w U) ∧ va_AO RX3 U
theorem kNW.warm {s U : State} (hW : s.WarmedH U.vm) (h : kNW s) : kNW U := by
  refine ⟨fun w hw => ?_, va_AO.moved hW.alike h.2⟩
  have h1 := h.1 w hw
  simp only [kNL, List.mem_cons, List.not_mem_nil, or_false] at hw
  rcases hw with rfl | rfl | rfl | rfl | rfl | rfl | rfl | rfl | rfl | rfl | rfl
  all_goals first | exact va_Nw.warmM hW h1 | exact va_Nw.warmF hW h1
theorem kNW.same {u U : State} (h : u.vm = U.vm) (hZ : kNW u) : kNW U := by
  refine ⟨fun w hw => ?_, ?_⟩
  · have h1 := hZ.1 w hw
    simp only [kNL, List.mem_cons, List.not_mem_nil, or_false] at hw
    rcases hw with rfl | rfl | rfl | rfl | rfl | rfl | rfl | rfl | rfl | rfl | rfl
    all_goals exact va_Nw.same rfl h h1
  · exact va_AO.moved (u := u) (by rw [h]; exact Vm.Alike.refl _) hZ.2
/-- what is known all through a method -/
def kC (κ : kT) (D : va_G) (tys : List (ClassId × FieldType)) (A : Nat → Prop) (cc : ByteArray) (nL : Nat) (own : String) (rm : Room) (ret : Option FieldType) (nm : String) : Prop :=
  κ.1.tables.exec = Jvm.exec ∧ (kCo κ).code = cc ∧ (kCo κ).maxLocals = nL ∧ (kS κ).vm.findClass own = some (kId κ).cls ∧ (∀ w ∈ TB, w.before (kAr κ) (kS κ) = true) ∧ va_K D vwCl tys (kS κ) ∧ (∀ q, (kS κ).heap.size ≤ q → A q) ∧ (kMe κ).sig.returnType = ret ∧ (kMe κ).locks = false ∧ kNW (kS κ) ∧ kR κ = rm ∧ (kMe κ).name = nm
def kG (κ : kT) (D : va_G) (A : Nat → Prop) (nL k n : Nat) (Q : State → Prop) (cs : List va_W) (lv : List (Nat × Value)) (pc : Nat) (st : List Value) : Prop :=
  ∀ (H : Heap) (locs : List Loc) (ls : Array Slot), va_P D vwCl cs.flatten H → va_D A cs.flatten → va_S A (kS κ).heap H locs → lv_has ls nL lv → kW κ H locs k n Q pc ls st
/-- a contract: start and end -/
def kP (D : va_G) (tys : List (ClassId × FieldType)) (sz : Nat) (ws : va_W) (U : State) : Prop := U.heap.size = sz ∧ va_P D vwCl ws U.heap ∧ va_K D vwCl tys U ∧ va_D (fun _ => True) ws ∧ kNW U
def kQ (D : va_G) (A : Nat → Prop) (R : Option Value → List va_W → Prop) : Array Value → State → Outcome → State → Prop := fun _ st oc t => (∃ v cs, oc = .returned v ∧ R v cs ∧ va_P D vwCl cs.flatten t.heap ∧ va_D A cs.flatten) ∧ va_F A st t
def kM (l : Launch) (D : va_G) (tys : List (ClassId × FieldType)) (y : MethodName) (Ts : List Cond) (rm : Room) (As : List Value) (cs : List va_W) (R : Option Value → List va_W → Prop) : Prop :=
  ∀ sz, Met l y Ts rm (va_Pc As (kP D tys sz cs.flatten)) (kQ D (va_A cs.flatten sz) R) rm.cells rm.slots (va_A cs.flatten sz)
def kEq (v0 : Option Value) (cs0 : List va_W) : Option Value → List va_W → Prop := fun v cs => v = v0 ∧ cs = cs0
/-! worlds by members -/
theorem kP_mem {D : va_G} {cl : List vw_C} {ws : va_W} {H : Heap} : va_P D cl ws H ↔ ∀ q ∈ ws, va_at D cl q H := by
  constructor
  · intro h q hq
    obtain ⟨i, hi⟩ := List.getElem?_of_mem hq
    exact h i q hi
  · intro h k q hk
    exact h q (List.mem_of_getElem? hk)
theorem kD_mem {A : Nat → Prop} {ws : va_W} : va_D A ws ↔ (ws.map (fun q => q.1)).Nodup ∧ ∀ q ∈ ws, A q.1 := by
  constructor
  · intro h
    refine ⟨?_, fun q hq => ?_⟩
    · refine List.pairwise_iff_getElem.mpr ?_
      intro i j hi hj hij he
      rw [List.getElem_map, List.getElem_map] at he
      rw [List.length_map] at hi hj
      have := h.1 i j _ _ (List.getElem?_eq_getElem hi) (List.getElem?_eq_getElem hj) he
      omega
    · obtain ⟨i, hi⟩ := List.getElem?_of_mem hq
      exact h.2 i q hi
  · intro h
    refine ⟨fun i j p q hi hj hpq => ?_, fun k q hk => h.2 q (List.mem_of_getElem? hk)⟩
    have hn := List.pairwise_iff_getElem.mp h.1
    obtain ⟨hil, hi⟩ := List.getElem?_eq_some_iff.mp hi
    obtain ⟨hjl, hj⟩ := List.getElem?_eq_some_iff.mp hj
    have hil' : i < (ws.map (fun q => q.1)).length := by rw [List.length_map]; exact hil
    have hjl' : j < (ws.map (fun q => q.1)).length := by rw [List.length_map]; exact hjl
    have ei : (ws.map (fun q => q.1))[i] = p.1 := by rw [List.getElem_map, hi]
    have ej : (ws.map (fun q => q.1))[j] = q.1 := by rw [List.getElem_map, hj]
    rcases Nat.lt_trichotomy i j with z | z | z
    · exact absurd (ei.trans (hpq.trans ej.symm)) (hn i j hil' hjl' z)
    · exact z
    · exact absurd (ej.trans (hpq.symm.trans ei.symm)) (hn j i hjl' hil' z)
theorem kP_perm {D : va_G} {cl : List vw_C} {ws ws' : va_W} {H : Heap} (hp : ws.Perm ws') (h : va_P D cl ws H) : va_P D cl ws' H := kP_mem.mpr fun q hq => kP_mem.mp h q (hp.mem_iff.mpr hq)
theorem kD_perm {A : Nat → Prop} {ws ws' : va_W} (hp : ws.Perm ws') (h : va_D A ws) : va_D A ws' := by
  obtain ⟨h1, h2⟩ := kD_mem.mp h
  exact kD_mem.mpr ⟨(hp.map _).nodup_iff.mp h1, fun q hq => h2 q (hp.mem_iff.mpr hq)⟩
theorem k_flat {cs cs' : List va_W} (h : cs.Perm cs') : cs.flatten.Perm cs'.flatten := by
  induction h with
  | nil => exact List.Perm.refl _
  | cons a _ ih => rw [List.flatten_cons, List.flatten_cons]; exact ih.append_left a
  | swap a b l => rw [List.flatten_cons, List.flatten_cons, List.flatten_cons, List.flatten_cons, ← List.append_assoc, ← List.append_assoc]; exact (List.perm_append_comm).append_right _
  | trans _ _ i1 i2 => exact i1.trans i2
theorem k_range {α : Type} (l : List α) : l.map some = (List.range l.length).map (fun i => l[i]?) := by
  apply List.ext_getElem?
  intro i
  by_cases hi : i < l.length
  · simp [hi]
  · simp [hi]
theorem k_split {cs sel rest : List va_W} {N : Nat} (is js : List Nat) (hN : cs.length = N) (hp : (is ++ js).isPerm (List.range N) = true) (h1 : is.map (fun i => cs[i]?) = sel.map some) (h2 : js.map (fun i => cs[i]?) = rest.map some) : cs.Perm (sel ++ rest) := by
  subst hN
  have hp := List.isPerm_iff.mp hp
  have a : (cs.map some).Perm ((sel ++ rest).map some) := by
    rw [k_range cs, List.map_append, ← h1, ← h2, ← List.map_append]
    exact (hp.map _).symm
  have b := a.filterMap id
  rwa [List.filterMap_map, List.filterMap_map, show (id ∘ some : va_W → Option va_W) = some from rfl, List.filterMap_some, List.filterMap_some] at b
/-- the frame rule, on chunks -/
theorem k_join {A0 : Nat → Prop} {D : va_G} {cl : List vw_C} {sel rest sel' : List va_W} {H H1 : Heap} (hP : va_P D cl (sel ++ rest).flatten H) (hD : va_D A0 (sel ++ rest).flatten)
    (hk : ∀ q : Nat, q < H.size → ¬ va_A sel.flatten H.size q → H1[q]? = H[q]?) (hF : ∀ q, va_A sel.flatten H.size q → A0 q) (hP1 : va_P D cl sel'.flatten H1) (hD1 : va_D (va_A sel.flatten H.size) sel'.flatten) : va_P D cl (sel' ++ rest).flatten H1 ∧ va_D A0 (sel' ++ rest).flatten := by
  rw [List.flatten_append] at hP hD ⊢
  have hP := kP_mem.mp hP
  obtain ⟨hn, hA⟩ := kD_mem.mp hD
  have hP1 := kP_mem.mp hP1
  obtain ⟨hn1, hA1⟩ := kD_mem.mp hD1
  have ap : ∀ q ∈ rest.flatten, q.1 < H.size ∧ ¬ va_A sel.flatten H.size q.1 := by
    intro q hq
    have hl := (hP q (List.mem_append_right _ hq)).lt
    refine ⟨hl, fun h => ?_⟩
    rcases h with ⟨k, e, h⟩ | h
    · rw [List.map_append, List.nodup_append] at hn
      exact hn.2.2 q.1 (List.mem_map.mpr ⟨_, List.mem_of_getElem? h, rfl⟩) q.1 (List.mem_map.mpr ⟨_, hq, rfl⟩) rfl
    · omega
  refine ⟨kP_mem.mpr fun q hq => ?_, kD_mem.mpr ⟨?_, fun q hq => ?_⟩⟩
  · rcases List.mem_append.mp hq with h | h
    · exact hP1 q h
    · exact (hP q (List.mem_append_right _ h)).kept (hk q.1 (ap q h).1 (ap q h).2)
  · rw [List.map_append, List.nodup_append] at hn ⊢
    refine ⟨hn1, hn.2.1, fun a ha b hb hab => ?_⟩
    obtain ⟨x, hx, rfl⟩ := List.mem_map.mp ha
    obtain ⟨z, hz, rfl⟩ := List.mem_map.mp hb
    exact (ap z hz).2 (by rw [← hab]; exact hA1 x hx)
  · rcases List.mem_append.mp hq with h | h
    · exact hF _ (hA1 q h)
    · exact hA q (List.mem_append_right _ h)
/-- a cell that stands alone in its chunk -/
theorem k_at {cs : List va_W} {j : Nat} {q : Nat × va_E} (h : cs[j]? = some [q]) : ∃ q0 : Nat, cs.flatten[q0]? = some q ∧ ∀ q', cs.flatten.set q0 q' = (cs.set j [q']).flatten := by
  induction cs generalizing j with
  | nil => simp at h
  | cons c cs ih =>
    cases j with
    | zero =>
      rw [List.getElem?_cons_zero] at h
      cases h
      exact ⟨0, rfl, fun q' => rfl⟩
    | succ j =>
      rw [List.getElem?_cons_succ] at h
      obtain ⟨q0, h1, h2⟩ := ih h
      refine ⟨c.length + q0, ?_, fun q' => ?_⟩
      · rw [List.flatten_cons, List.getElem?_append_right (by omega), Nat.add_sub_cancel_left]
        exact h1
      · have e := List.set_append_right (s := c) (t := cs.flatten) (c.length + q0) q' (by omega)
        rw [Nat.add_sub_cancel_left, h2] at e
        exact e
theorem k_in {cs : List va_W} {j : Nat} {q : Nat × va_E} {w : va_W} (h : cs[j]? = some (q :: w)) : ∃ q0 : Nat, cs.flatten[q0]? = some q := List.getElem?_of_mem (List.mem_flatten.mpr ⟨_, List.mem_of_getElem? h, List.mem_cons_self⟩)
section Rows
variable {κ : kT} {D : va_G} {tys : List (ClassId × FieldType)} {A : Nat → Prop} {cc : ByteArray} {nL : Nat} {own : String} {rm : Room} {ret : Option FieldType} {nm : String} {k n : Nat} {Q : State → Prop} {cs : List va_W} {lv : List (Nat × Value)} {pc : Nat} {st : List Value}
theorem g_iload_n (C : kC κ D tys A cc nL own rm ret nm) (j : Nat) {i : Fin 4} {x : Int32} (hd : decode cc pc = .ok (.iload_n i, 1)) (hj : lv[j]? = some ((i : Nat), .int x)) (kk : kG κ D A nL k n Q cs lv (pc + 1) (.int x :: st)) : kG κ D A nL k n Q cs lv pc st :=
  fun H locs ls hP hD hS hl => lv_iload_n C.1 C.2.1 hd rfl (lv_at hl j hj) (kk H locs ls hP hD hS hl)
theorem g_iload (C : kC κ D tys A cc nL own rm ret nm) (j : Nat) {i : Nat} {x : Int32} (hd : decode cc pc = .ok (.iload i, 2)) (hj : lv[j]? = some (i, .int x)) (kk : kG κ D A nL k n Q cs lv (pc + 2) (.int x :: st)) : kG κ D A nL k n Q cs lv pc st :=
  fun H locs ls hP hD hS hl => lv_iload C.1 C.2.1 hd (lv_at hl j hj) (kk H locs ls hP hD hS hl)
theorem g_aload_n (C : kC κ D tys A cc nL own rm ret nm) (j : Nat) {i : Fin 4} {x : Nat} (hd : decode cc pc = .ok (.aload_n i, 1)) (hj : lv[j]? = some ((i : Nat), .ref x)) (kk : kG κ D A nL k n Q cs lv (pc + 1) (.ref x :: st)) : kG κ D A nL k n Q cs lv pc st :=
  fun H locs ls hP hD hS hl => lv_aload_n C.1 C.2.1 hd rfl (lv_at hl j hj) (kk H locs ls hP hD hS hl)
theorem g_istore_n (C : kC κ D tys A cc nL own rm ret nm) {i : Fin 4} {x : Int32} (lv' : List (Nat × Value)) (hd : decode cc pc = .ok (.istore_n i, 1)) (hn : (i : Nat) < nL) (hl' : ((i : Nat), Value.int x) :: lv.filter (fun q => !(q.1 == (i : Nat)) && !(q.1 + 1 == (i : Nat) && q.2.category == 2)) = lv') (kk : kG κ D A nL k n Q cs lv' (pc + 1) st) : kG κ D A nL k n Q cs lv pc (.int x :: st) :=
  fun H locs ls hP hD hS hl => lv_istore_n C.1 C.2.1 hd rfl hl hn hl' (fun ls hl => kk H locs ls hP hD hS hl)
theorem g_istore (C : kC κ D tys A cc nL own rm ret nm) {i : Nat} {x : Int32} (lv' : List (Nat × Value)) (hd : decode cc pc = .ok (.istore i, 2)) (hn : i < nL) (hl' : (i, Value.int x) :: lv.filter (fun q => !(q.1 == i) && !(q.1 + 1 == i && q.2.category == 2)) = lv') (kk : kG κ D A nL k n Q cs lv' (pc + 2) st) : kG κ D A nL k n Q cs lv pc (.int x :: st) :=
  fun H locs ls hP hD hS hl => lv_istore C.1 C.2.1 hd hl hn hl' (fun ls hl => kk H locs ls hP hD hS hl)
theorem g_astore_n (C : kC κ D tys A cc nL own rm ret nm) {i : Fin 4} {x : Nat} (lv' : List (Nat × Value)) (hd : decode cc pc = .ok (.astore_n i, 1)) (hn : (i : Nat) < nL) (hl' : ((i : Nat), Value.ref x) :: lv.filter (fun q => !(q.1 == (i : Nat)) && !(q.1 + 1 == (i : Nat) && q.2.category == 2)) = lv') (kk : kG κ D A nL k n Q cs lv' (pc + 1) st) : kG κ D A nL k n Q cs lv pc (.ref x :: st) :=
  fun H locs ls hP hD hS hl => lv_astore_n C.1 C.2.1 hd rfl hl hn hl' (fun ls hl => kk H locs ls hP hD hS hl)
theorem g_iinc (C : kC κ D tys A cc nL own rm ret nm) (j : Nat) {i : Nat} {z : Int} {x : Int32} (v : Int32) (lv' : List (Nat × Value)) (hd : decode cc pc = .ok (.iinc i z, 3)) (hj : lv[j]? = some (i, .int x)) (hv : x + Int32.ofInt z = v) (hn : i < nL) (hl' : (i, Value.int v) :: lv.filter (fun q => !(q.1 == i) && !(q.1 + 1 == i && q.2.category == 2)) = lv') (kk : kG κ D A nL k n Q cs lv' (pc + 3) st) : kG κ D A nL k n Q cs lv pc st :=
  fun H locs ls hP hD hS hl => lv_iinc C.1 C.2.1 hd hl hj hv hn hl' (fun ls hl => kk H locs ls hP hD hS hl)
theorem g_iconst (C : kC κ D tys A cc nL own rm ret nm) (v : Int32) {z : Int} (hd : decode cc pc = .ok (.iconst z, 1)) (hv : Int32.ofInt z = v) (kk : kG κ D A nL k n Q cs lv (pc + 1) (.int v :: st)) : kG κ D A nL k n Q cs lv pc st :=
  fun H locs ls hP hD hS hl => lv_iconst C.1 C.2.1 hd hv (kk H locs ls hP hD hS hl)
theorem g_bipush (C : kC κ D tys A cc nL own rm ret nm) (v : Int32) {z : Int} (hd : decode cc pc = .ok (.bipush z, 2)) (hv : (Int8.ofInt z).toInt32 = v) (kk : kG κ D A nL k n Q cs lv (pc + 2) (.int v :: st)) : kG κ D A nL k n Q cs lv pc st :=
  fun H locs ls hP hD hS hl => lv_bipush C.1 C.2.1 hd hv (kk H locs ls hP hD hS hl)
theorem g_sipush (C : kC κ D tys A cc nL own rm ret nm) (v : Int32) {z : Int} (hd : decode cc pc = .ok (.sipush z, 3)) (hv : (Int16.ofInt z).toInt32 = v) (kk : kG κ D A nL k n Q cs lv (pc + 3) (.int v :: st)) : kG κ D A nL k n Q cs lv pc st :=
  fun H locs ls hP hD hS hl => lv_sipush C.1 C.2.1 hd hv (kk H locs ls hP hD hS hl)
theorem g_goto (C : kC κ D tys A cc nL own rm ret nm) (tgt : Nat) {off : Int} (hd : decode cc pc = .ok (.goto off, 3)) (ht : (pc : Int) + off = (tgt : Int)) (kk : kG κ D A nL k n Q cs lv tgt st) : kG κ D A nL k n Q cs lv pc st :=
  fun H locs ls hP hD hS hl => lv_goto C.1 C.2.1 hd ht (kk H locs ls hP hD hS hl)
theorem g_dup (C : kC κ D tys A cc nL own rm ret nm) {v : Value} (hd : decode cc pc = .ok (.dup, 1)) (hv : v.category = 1) (kk : kG κ D A nL k n Q cs lv (pc + 1) (v :: v :: st)) : kG κ D A nL k n Q cs lv pc (v :: st) :=
  fun H locs ls hP hD hS hl => lv_dup C.1 C.2.1 hd hv (kk H locs ls hP hD hS hl)
theorem g_dup2 (C : kC κ D tys A cc nL own rm ret nm) {v u : Value} (hd : decode cc pc = .ok (.dup2, 1)) (hv : v.category = 1) (hu : u.category = 1) (kk : kG κ D A nL k n Q cs lv (pc + 1) (v :: u :: v :: u :: st)) : kG κ D A nL k n Q cs lv pc (v :: u :: st) :=
  fun H locs ls hP hD hS hl => lv_dup2_11 C.1 C.2.1 hd hv hu (kk H locs ls hP hD hS hl)
theorem g_pop (C : kC κ D tys A cc nL own rm ret nm) {v : Value} (hd : decode cc pc = .ok (.pop, 1)) (hv : v.category = 1) (kk : kG κ D A nL k n Q cs lv (pc + 1) st) : kG κ D A nL k n Q cs lv pc (v :: st) :=
  fun H locs ls hP hD hS hl => lv_pop C.1 C.2.1 hd hv (kk H locs ls hP hD hS hl)
theorem g_ifnull (C : kC κ D tys A cc nL own rm ret nm) {x : Nat} {off : Int} (hd : decode cc pc = .ok (.ifnull off, 3)) (kk : kG κ D A nL k n Q cs lv (pc + 3) st) : kG κ D A nL k n Q cs lv pc (.ref x :: st) :=
  fun H locs ls hP hD hS hl => lv_ifnull C.1 C.2.1 hd (kk H locs ls hP hD hS hl)
theorem g_irem (C : kC κ D tys A cc nL own rm ret nm) {x y : Int32} (hd : decode cc pc = .ok (.irem, 1)) (hne : ¬ y = 0) (kk : kG κ D A nL k n Q cs lv (pc + 1) (.int (x - x / y * y) :: st)) : kG κ D A nL k n Q cs lv pc (.int y :: .int x :: st) :=
  fun H locs ls hP hD hS hl => lv_irem C.1 C.2.1 hd hne (kk H locs ls hP hD hS hl)
theorem g_iadd (C : kC κ D tys A cc nL own rm ret nm) {x y : Int32} (hd : decode cc pc = .ok (.iadd, 1)) (kk : kG κ D A nL k n Q cs lv (pc + 1) (.int (x + y) :: st)) : kG κ D A nL k n Q cs lv pc (.int y :: .int x :: st) :=
  fun H locs ls hP hD hS hl => lv_iadd C.1 C.2.1 hd (kk H locs ls hP hD hS hl)
theorem g_isub (C : kC κ D tys A cc nL own rm ret nm) {x y : Int32} (hd : decode cc pc = .ok (.isub, 1)) (kk : kG κ D A nL k n Q cs lv (pc + 1) (.int (x - y) :: st)) : kG κ D A nL k n Q cs lv pc (.int y :: .int x :: st) :=
  fun H locs ls hP hD hS hl => lv_isub C.1 C.2.1 hd (kk H locs ls hP hD hS hl)
theorem g_imul (C : kC κ D tys A cc nL own rm ret nm) {x y : Int32} (hd : decode cc pc = .ok (.imul, 1)) (kk : kG κ D A nL k n Q cs lv (pc + 1) (.int (x * y) :: st)) : kG κ D A nL k n Q cs lv pc (.int y :: .int x :: st) :=
  fun H locs ls hP hD hS hl => lv_imul C.1 C.2.1 hd (kk H locs ls hP hD hS hl)
theorem g_iand (C : kC κ D tys A cc nL own rm ret nm) {x y : Int32} (hd : decode cc pc = .ok (.iand, 1)) (kk : kG κ D A nL k n Q cs lv (pc + 1) (.int (x &&& y) :: st)) : kG κ D A nL k n Q cs lv pc (.int y :: .int x :: st) :=
  fun H locs ls hP hD hS hl => lv_iand C.1 C.2.1 hd (kk H locs ls hP hD hS hl)
theorem g_ior (C : kC κ D tys A cc nL own rm ret nm) {x y : Int32} (hd : decode cc pc = .ok (.ior, 1)) (kk : kG κ D A nL k n Q cs lv (pc + 1) (.int (x ||| y) :: st)) : kG κ D A nL k n Q cs lv pc (.int y :: .int x :: st) :=
  fun H locs ls hP hD hS hl => lv_ior C.1 C.2.1 hd (kk H locs ls hP hD hS hl)
theorem g_ishl (C : kC κ D tys A cc nL own rm ret nm) {x y : Int32} (hd : decode cc pc = .ok (.ishl, 1)) (kk : kG κ D A nL k n Q cs lv (pc + 1) (.int (x <<< (y &&& 31)) :: st)) : kG κ D A nL k n Q cs lv pc (.int y :: .int x :: st) :=
  fun H locs ls hP hD hS hl => lv_ishl C.1 C.2.1 hd (kk H locs ls hP hD hS hl)
theorem g_ishr (C : kC κ D tys A cc nL own rm ret nm) {x y : Int32} (hd : decode cc pc = .ok (.ishr, 1)) (kk : kG κ D A nL k n Q cs lv (pc + 1) (.int (x >>> (y &&& 31)) :: st)) : kG κ D A nL k n Q cs lv pc (.int y :: .int x :: st) :=
  fun H locs ls hP hD hS hl => lv_ishr C.1 C.2.1 hd (kk H locs ls hP hD hS hl)
theorem g_if_eq (C : kC κ D tys A cc nL own rm ret nm) (tgt : Nat) {x : Int32} {off : Int} (hd : decode cc pc = .ok (.ifCond .eq off, 3)) (ht : (pc : Int) + off = (tgt : Int)) (kt : x = 0 → kG κ D A nL k n Q cs lv tgt st) (kf : ¬ x = 0 → kG κ D A nL k n Q cs lv (pc + 3) st) : kG κ D A nL k n Q cs lv pc (.int x :: st) :=
  fun H locs ls hP hD hS hl => lv_if_eq C.1 C.2.1 hd ht (fun q => kt q H locs ls hP hD hS hl) (fun q => kf q H locs ls hP hD hS hl)
theorem g_if_ne (C : kC κ D tys A cc nL own rm ret nm) (tgt : Nat) {x : Int32} {off : Int} (hd : decode cc pc = .ok (.ifCond .ne off, 3)) (ht : (pc : Int) + off = (tgt : Int)) (kt : ¬ x = 0 → kG κ D A nL k n Q cs lv tgt st) (kf : x = 0 → kG κ D A nL k n Q cs lv (pc + 3) st) : kG κ D A nL k n Q cs lv pc (.int x :: st) :=
  fun H locs ls hP hD hS hl => lv_if_ne C.1 C.2.1 hd ht (fun q => kt q H locs ls hP hD hS hl) (fun q => kf q H locs ls hP hD hS hl)
theorem g_if_lt (C : kC κ D tys A cc nL own rm ret nm) (tgt : Nat) {x : Int32} {off : Int} (hd : decode cc pc = .ok (.ifCond .lt off, 3)) (ht : (pc : Int) + off = (tgt : Int)) (kt : x < 0 → kG κ D A nL k n Q cs lv tgt st) (kf : ¬ x < 0 → kG κ D A nL k n Q cs lv (pc + 3) st) : kG κ D A nL k n Q cs lv pc (.int x :: st) :=
  fun H locs ls hP hD hS hl => lv_if_lt C.1 C.2.1 hd ht (fun q => kt q H locs ls hP hD hS hl) (fun q => kf q H locs ls hP hD hS hl)
theorem g_if_ge (C : kC κ D tys A cc nL own rm ret nm) (tgt : Nat) {x : Int32} {off : Int} (hd : decode cc pc = .ok (.ifCond .ge off, 3)) (ht : (pc : Int) + off = (tgt : Int)) (kt : 0 ≤ x → kG κ D A nL k n Q cs lv tgt st) (kf : ¬ 0 ≤ x → kG κ D A nL k n Q cs lv (pc + 3) st) : kG κ D A nL k n Q cs lv pc (.int x :: st) :=
  fun H locs ls hP hD hS hl => lv_if_ge C.1 C.2.1 hd ht (fun q => kt q H locs ls hP hD hS hl) (fun q => kf q H locs ls hP hD hS hl)
theorem g_if_gt (C : kC κ D tys A cc nL own rm ret nm) (tgt : Nat) {x : Int32} {off : Int} (hd : decode cc pc = .ok (.ifCond .gt off, 3)) (ht : (pc : Int) + off = (tgt : Int)) (kt : 0 < x → kG κ D A nL k n Q cs lv tgt st) (kf : ¬ 0 < x → kG κ D A nL k n Q cs lv (pc + 3) st) : kG κ D A nL k n Q cs lv pc (.int x :: st) :=
  fun H locs ls hP hD hS hl => lv_if_gt C.1 C.2.1 hd ht (fun q => kt q H locs ls hP hD hS hl) (fun q => kf q H locs ls hP hD hS hl)
theorem g_if_le (C : kC κ D tys A cc nL own rm ret nm) (tgt : Nat) {x : Int32} {off : Int} (hd : decode cc pc = .ok (.ifCond .le off, 3)) (ht : (pc : Int) + off = (tgt : Int)) (kt : x ≤ 0 → kG κ D A nL k n Q cs lv tgt st) (kf : ¬ x ≤ 0 → kG κ D A nL k n Q cs lv (pc + 3) st) : kG κ D A nL k n Q cs lv pc (.int x :: st) :=
  fun H locs ls hP hD hS hl => lv_if_le C.1 C.2.1 hd ht (fun q => kt q H locs ls hP hD hS hl) (fun q => kf q H locs ls hP hD hS hl)
theorem g_icmp_eq (C : kC κ D tys A cc nL own rm ret nm) (tgt : Nat) {x y : Int32} {off : Int} (hd : decode cc pc = .ok (.if_icmp .eq off, 3)) (ht : (pc : Int) + off = (tgt : Int)) (kt : x = y → kG κ D A nL k n Q cs lv tgt st) (kf : ¬ x = y → kG κ D A nL k n Q cs lv (pc + 3) st) : kG κ D A nL k n Q cs lv pc (.int y :: .int x :: st) :=
  fun H locs ls hP hD hS hl => lv_icmp_eq C.1 C.2.1 hd ht (fun q => kt q H locs ls hP hD hS hl) (fun q => kf q H locs ls hP hD hS hl)
theorem g_icmp_ne (C : kC κ D tys A cc nL own rm ret nm) (tgt : Nat) {x y : Int32} {off : Int} (hd : decode cc pc = .ok (.if_icmp .ne off, 3)) (ht : (pc : Int) + off = (tgt : Int)) (kt : ¬ x = y → kG κ D A nL k n Q cs lv tgt st) (kf : x = y → kG κ D A nL k n Q cs lv (pc + 3) st) : kG κ D A nL k n Q cs lv pc (.int y :: .int x :: st) :=
  fun H locs ls hP hD hS hl => lv_icmp_ne C.1 C.2.1 hd ht (fun q => kt q H locs ls hP hD hS hl) (fun q => kf q H locs ls hP hD hS hl)
theorem g_icmp_lt (C : kC κ D tys A cc nL own rm ret nm) (tgt : Nat) {x y : Int32} {off : Int} (hd : decode cc pc = .ok (.if_icmp .lt off, 3)) (ht : (pc : Int) + off = (tgt : Int)) (kt : x < y → kG κ D A nL k n Q cs lv tgt st) (kf : ¬ x < y → kG κ D A nL k n Q cs lv (pc + 3) st) : kG κ D A nL k n Q cs lv pc (.int y :: .int x :: st) :=
  fun H locs ls hP hD hS hl => lv_icmp_lt C.1 C.2.1 hd ht (fun q => kt q H locs ls hP hD hS hl) (fun q => kf q H locs ls hP hD hS hl)
theorem g_icmp_ge (C : kC κ D tys A cc nL own rm ret nm) (tgt : Nat) {x y : Int32} {off : Int} (hd : decode cc pc = .ok (.if_icmp .ge off, 3)) (ht : (pc : Int) + off = (tgt : Int)) (kt : y ≤ x → kG κ D A nL k n Q cs lv tgt st) (kf : ¬ y ≤ x → kG κ D A nL k n Q cs lv (pc + 3) st) : kG κ D A nL k n Q cs lv pc (.int y :: .int x :: st) :=
  fun H locs ls hP hD hS hl => lv_icmp_ge C.1 C.2.1 hd ht (fun q => kt q H locs ls hP hD hS hl) (fun q => kf q H locs ls hP hD hS hl)
theorem g_icmp_gt (C : kC κ D tys A cc nL own rm ret nm) (tgt : Nat) {x y : Int32} {off : Int} (hd : decode cc pc = .ok (.if_icmp .gt off, 3)) (ht : (pc : Int) + off = (tgt : Int)) (kt : y < x → kG κ D A nL k n Q cs lv tgt st) (kf : ¬ y < x → kG κ D A nL k n Q cs lv (pc + 3) st) : kG κ D A nL k n Q cs lv pc (.int y :: .int x :: st) :=
  fun H locs ls hP hD hS hl => lv_icmp_gt C.1 C.2.1 hd ht (fun q => kt q H locs ls hP hD hS hl) (fun q => kf q H locs ls hP hD hS hl)
theorem g_icmp_le (C : kC κ D tys A cc nL own rm ret nm) (tgt : Nat) {x y : Int32} {off : Int} (hd : decode cc pc = .ok (.if_icmp .le off, 3)) (ht : (pc : Int) + off = (tgt : Int)) (kt : x ≤ y → kG κ D A nL k n Q cs lv tgt st) (kf : ¬ x ≤ y → kG κ D A nL k n Q cs lv (pc + 3) st) : kG κ D A nL k n Q cs lv pc (.int y :: .int x :: st) :=
  fun H locs ls hP hD hS hl => lv_icmp_le C.1 C.2.1 hd ht (fun q => kt q H locs ls hP hD hS hl) (fun q => kf q H locs ls hP hD hS hl)
theorem g_tableOut (C : kC κ D tys A cc nL own rm ret nm) (tgt : Nat) {dflt lo hi : Int} {offs : Array Int} {len : Nat} {x : Int32} (hd : decode cc pc = .ok (.tableswitch dflt lo hi offs, len)) (h : x.toInt < lo ∨ hi < x.toInt) (ht : (pc : Int) + dflt = (tgt : Int)) (kk : kG κ D A nL k n Q cs lv tgt st) : kG κ D A nL k n Q cs lv pc (.int x :: st) :=
  fun H locs ls hP hD hS hl => lv_tableOut C.1 C.2.1 hd h ht (kk H locs ls hP hD hS hl)
theorem g_tableIn (C : kC κ D tys A cc nL own rm ret nm) (tgt : Nat) {dflt lo hi : Int} {offs : Array Int} {len : Nat} {x : Int32} {off : Int} (hd : decode cc pc = .ok (.tableswitch dflt lo hi offs, len)) (h1 : ¬ x.toInt < lo) (h2 : ¬ hi < x.toInt) (ho : offs[(x.toInt - lo).toNat]? = some off) (ht : (pc : Int) + off = (tgt : Int)) (kk : kG κ D A nL k n Q cs lv tgt st) : kG κ D A nL k n Q cs lv pc (.int x :: st) :=
  fun H locs ls hP hD hS hl => lv_tableIn C.1 C.2.1 hd h1 h2 ho ht (kk H locs ls hP hD hS hl)
/-- fewer listed locals -/
theorem g_sub (ks : List Nat) {lv' : List (Nat × Value)} (h : lv_pick lv ks = lv') (kk : kG κ D A nL k n Q cs lv' pc st) : kG κ D A nL k n Q cs lv pc st :=
  fun H locs ls hP hD hS hl => kk H locs ls hP hD hS (lv_sub hl ks h)
/-- the same world otherwise written, or its chunks in another order -/
theorem g_world {cs' : List va_W} (h : cs.flatten.Perm cs'.flatten) (kk : kG κ D A nL k n Q cs' lv pc st) : kG κ D A nL k n Q cs lv pc st :=
  fun H locs ls hP hD hS hl => kk H locs ls (kP_perm h hP) (kD_perm h hD) hS hl
theorem g_chunks {cs' : List va_W} (h : cs.flatten = cs'.flatten) (kk : kG κ D A nL k n Q cs' lv pc st) : kG κ D A nL k n Q cs lv pc st := g_world (by rw [h]) kk
theorem g_widen {k' n' : Nat} (h1 : k ≤ k') (h2 : n ≤ n') (kk : kG κ D A nL k' n' Q cs lv pc st) : kG κ D A nL k n Q cs lv pc st :=
  fun H locs ls hP hD hS hl => W.widen h1 h2 (kk H locs ls hP hD hS hl)
theorem g_get (C : kC κ D tys A cc nL own rm ret nm) (j ci : Nat) {Cn : String} {T : u_T} {N index : Nat} {ref : String} {a : Nat} {fs : List Value} {w : va_W} (f : Nat) (v : Value) (hin : ∀ w ∈ u_ws Cn T N, w ∈ TB) (hj : cs[j]? = some ((a, .inr (ci, fs)) :: w)) (hc : vwCl[ci]? = some (Cn, T, N)) (hf : f < N) (hlk : Cond.fieldLink own index ref (T f).2.1 (T f).2.2.1 ∈ TB) (hr : (T f).1 = ref) (hv : fs[f]? = some v) (hd : decode cc pc = .ok (.getfield index, 3)) (kk : kG κ D A nL k n Q cs lv (pc + 3) (v :: st)) : kG κ D A nL k n Q cs lv pc (.ref a :: st) := by
  intro H locs ls hP hD hS hl
  obtain ⟨q0, hq⟩ := k_in hj
  subst hr
  exact va_get C.1 C.2.1 C.2.2.2.2.1 hin C.2.2.2.1 C.2.2.2.2.2.1 hP q0 hq hc f hf (C.2.2.2.2.1 _ hlk) (fun _ h => h) hv hd (kk H locs ls hP hD hS hl)
theorem g_getN (C : kC κ D tys A cc nL own rm ret nm) (j ci i : Nat) {Cn : String} {T : u_T} {N index : Nat} {ref host : String} {a : Nat} {fs : List Value} {w : va_W} (f : Nat) (v : Value) (hin : ∀ w ∈ u_ws Cn T N, w ∈ TB) (hj : cs[j]? = some ((a, .inr (ci, fs)) :: w)) (hc : vwCl[ci]? = some (Cn, T, N)) (hf : f < N) (hlk : kNL[i]? = some (Cond.fieldLinkNest own index ref (T f).2.1 (T f).2.2.1 host)) (hr : (T f).1 = ref) (hv : fs[f]? = some v) (hd : decode cc pc = .ok (.getfield index, 3)) (kk : kG κ D A nL k n Q cs lv (pc + 3) (v :: st)) : kG κ D A nL k n Q cs lv pc (.ref a :: st) := by
  intro H locs ls hP hD hS hl
  obtain ⟨q0, hq⟩ := k_in hj
  subst hr
  exact va_getN C.1 C.2.1 C.2.2.2.2.1 hin C.2.2.2.1 C.2.2.2.2.2.1 hP q0 hq hc f hf (va_Nw.use rfl (C.2.2.2.2.2.2.2.2.2.1.1 _ (List.mem_of_getElem? hlk))) (fun _ h => h) hv hd (kk H locs ls hP hD hS hl)
theorem g_put (C : kC κ D tys A cc nL own rm ret nm) (j ci : Nat) {Cn : String} {T : u_T} {N index : Nat} {ref : String} {a : Nat} {fs : List Value} (f : Nat) {v : Value} (ty0 : Nat → FieldType) {ty : FieldType} (cs' : List va_W) (hty : ∀ k, k < N → parseFieldDescriptor (T k).2.2.1 = some (ty0 k)) (hnm : ∀ a, a < N → ∀ b, b < N → a ≠ b → (T a).2.1 ≠ (T b).2.1) (hin : ∀ w ∈ u_ws Cn T N, w ∈ TB) (hj : cs[j]? = some [(a, .inr (ci, fs))]) (hc : vwCl[ci]? = some (Cn, T, N)) (hf : f < N) (hlk : Cond.fieldLink own index ref (T f).2.1 (T f).2.2.1 ∈ TB) (hr : (T f).1 = ref) (hfin : (T f).2.2.2 = false) (hdd : ty0 f = ty) (hn : narrow ty v = v) (hfit : fits ty v = true) (hlen : f < fs.length) (hcs : cs.set j [(a, .inr (ci, fs.set f v))] = cs') (hd : decode cc pc = .ok (.putfield index, 3)) (kk : kG κ D A nL k n Q cs' lv (pc + 3) st) : kG κ D A nL k n Q cs lv pc (v :: .ref a :: st) := by
  intro H locs ls hP hD hS hl
  obtain ⟨q0, hq, hset⟩ := k_at hj
  subst hr
  subst hcs
  refine va_put C.1 C.2.1 C.2.2.2.2.1 hin ty0 hty hnm C.2.2.2.1 C.2.2.2.2.2.1 hP hD hS q0 hq hc f hf (C.2.2.2.2.1 _ hlk) (fun _ h => h) hfin ((hty f hf).trans (congrArg some hdd)) hn hfit hlen hd (fun H1 locs1 hP hD hS => ?_)
  rw [hset] at hP hD
  exact kk H1 locs1 ls hP hD hS hl
theorem g_putN (C : kC κ D tys A cc nL own rm ret nm) (j ci i : Nat) {Cn : String} {T : u_T} {N index : Nat} {ref host : String} {a : Nat} {fs : List Value} (f : Nat) {v : Value} (ty0 : Nat → FieldType) {ty : FieldType} (cs' : List va_W) (hty : ∀ k, k < N → parseFieldDescriptor (T k).2.2.1 = some (ty0 k)) (hnm : ∀ a, a < N → ∀ b, b < N → a ≠ b → (T a).2.1 ≠ (T b).2.1) (hin : ∀ w ∈ u_ws Cn T N, w ∈ TB) (hj : cs[j]? = some [(a, .inr (ci, fs))]) (hc : vwCl[ci]? = some (Cn, T, N)) (hf : f < N) (hlk : kNL[i]? = some (Cond.fieldLinkNest own index ref (T f).2.1 (T f).2.2.1 host)) (hr : (T f).1 = ref) (hfin : (T f).2.2.2 = false) (hdd : ty0 f = ty) (hn : narrow ty v = v) (hfit : fits ty v = true) (hlen : f < fs.length) (hcs : cs.set j [(a, .inr (ci, fs.set f v))] = cs') (hd : decode cc pc = .ok (.putfield index, 3)) (kk : kG κ D A nL k n Q cs' lv (pc + 3) st) : kG κ D A nL k n Q cs lv pc (v :: .ref a :: st) := by
  intro H locs ls hP hD hS hl
  obtain ⟨q0, hq, hset⟩ := k_at hj
  subst hr
  subst hcs
  refine va_putN C.1 C.2.1 C.2.2.2.2.1 hin ty0 hty hnm C.2.2.2.1 C.2.2.2.2.2.1 hP hD hS q0 hq hc f hf (va_Nw.use rfl (C.2.2.2.2.2.2.2.2.2.1.1 _ (List.mem_of_getElem? hlk))) (fun _ h => h) hfin ((hty f hf).trans (congrArg some hdd)) hn hfit hlen hd (fun H1 locs1 hP hD hS => ?_)
  rw [hset] at hP hD
  exact kk H1 locs1 ls hP hD hS hl
/-- a final field, in a constructor -/
theorem g_putF (C : kC κ D tys A cc nL own rm ret "<init>") (j ci : Nat) {Cn : String} {T : u_T} {N index : Nat} {ref : String} {a : Nat} {fs : List Value} (f : Nat) {v : Value} (ty0 : Nat → FieldType) {ty : FieldType} (cs' : List va_W) (hty : ∀ k, k < N → parseFieldDescriptor (T k).2.2.1 = some (ty0 k)) (hnm : ∀ a, a < N → ∀ b, b < N → a ≠ b → (T a).2.1 ≠ (T b).2.1) (hin : ∀ w ∈ u_ws Cn T N, w ∈ TB) (hj : cs[j]? = some [(a, .inr (ci, fs))]) (hc : vwCl[ci]? = some (Cn, T, N)) (hf : f < N) (hlk : Cond.fieldLink own index ref (T f).2.1 (T f).2.2.1 ∈ TB) (hr : (T f).1 = ref) (hfin : (T f).2.2.2 = true) (hdecl : (T f).1 = own) (hdd : ty0 f = ty) (hn : narrow ty v = v) (hfit : fits ty v = true) (hlen : f < fs.length) (hcs : cs.set j [(a, .inr (ci, fs.set f v))] = cs') (hd : decode cc pc = .ok (.putfield index, 3)) (kk : kG κ D A nL k n Q cs' lv (pc + 3) st) : kG κ D A nL k n Q cs lv pc (v :: .ref a :: st) := by
  intro H locs ls hP hD hS hl
  obtain ⟨q0, hq, hset⟩ := k_at hj
  subst hr
  subst hcs
  refine va_putF C.1 C.2.1 C.2.2.2.2.1 hin ty0 hty hnm C.2.2.2.1 C.2.2.2.2.2.1 hP hD hS q0 hq hc f hf (C.2.2.2.2.1 _ hlk) (fun _ h => h) hfin C.2.2.2.2.2.2.2.2.2.2.2 hdecl ((hty f hf).trans (congrArg some hdd)) hn hfit hlen hd (fun H1 locs1 hP hD hS => ?_)
  rw [hset] at hP hD
  exact kk H1 locs1 ls hP hD hS hl
theorem g_iald (C : kC κ D tys A cc nL own rm ret nm) (j t0 : Nat) {a : Nat} {cA : ClassId} {N : Nat} {f : Nat → Int32} {i : Int32} {w : va_W} (hj : cs[j]? = some ((a, .inl (cA, N, .inl f)) :: w)) (ht : tys[t0]? = some (cA, .int)) (hin : ¬ (i < 0 ∨ N ≤ i.toNatClampNeg)) (hd : decode cc pc = .ok (.iaload, 1)) (kk : kG κ D A nL k n Q cs lv (pc + 1) (.int (f i.toNatClampNeg) :: st)) : kG κ D A nL k n Q cs lv pc (.int i :: .ref a :: st) := by
  intro H locs ls hP hD hS hl
  obtain ⟨q0, hq⟩ := k_in hj
  exact va_iald C.1 C.2.1 C.2.2.2.2.2.1 hP q0 t0 hq ht hin hd (kk H locs ls hP hD hS hl)
theorem g_iast (C : kC κ D tys A cc nL own rm ret nm) (j t0 : Nat) {a : Nat} {cA : ClassId} {N : Nat} {f : Nat → Int32} {i x : Int32} (cs' : List va_W) (hj : cs[j]? = some [(a, .inl (cA, N, .inl f))]) (ht : tys[t0]? = some (cA, .int)) (hin : ¬ (i < 0 ∨ N ≤ i.toNatClampNeg)) (hcs : cs.set j [(a, .inl (cA, N, .inl (upd f i.toNatClampNeg x)))] = cs') (hd : decode cc pc = .ok (.iastore, 1)) (kk : kG κ D A nL k n Q cs' lv (pc + 1) st) : kG κ D A nL k n Q cs lv pc (.int x :: .int i :: .ref a :: st) := by
  intro H locs ls hP hD hS hl
  obtain ⟨q0, hq, hset⟩ := k_at hj
  subst hcs
  refine va_iast C.1 C.2.1 C.2.2.2.2.2.1 hP hD hS q0 t0 hq ht hin hd (fun H1 locs1 hP hD hS => ?_)
  rw [hset] at hP hD
  exact kk H1 locs1 ls hP hD hS hl
theorem g_alen (C : kC κ D tys A cc nL own rm ret nm) (j t0 : Nat) {a : Nat} {cA : ClassId} {x : vp_A} {w : va_W} {ty : FieldType} (v : Int32) (hj : cs[j]? = some ((a, .inl (cA, x)) :: w)) (ht : tys[t0]? = some (cA, ty)) (hv : Int32.ofNat x.1 = v) (hd : decode cc pc = .ok (.arraylength, 1)) (kk : kG κ D A nL k n Q cs lv (pc + 1) (.int v :: st)) : kG κ D A nL k n Q cs lv pc (.ref a :: st) := by
  intro H locs ls hP hD hS hl
  obtain ⟨q0, hq⟩ := k_in hj
  exact va_alen C.1 C.2.1 C.2.2.2.2.2.1 hP q0 t0 hq ht hv hd (kk H locs ls hP hD hS hl)
theorem g_mmax (C : kC κ D tys A cc nL own rm ret nm) {index : Nat} {x y : Int32} (h1 : Cond.methodLink own index Lib.Math.max.name ∈ TB) (h2 : Cond.static Lib.Math.max.name ∈ TB) (h3 : Cond.initialized "java/lang/Math" ∈ TB) (h4 : Cond.code Lib.Math.max.name Lib.Math.max.code 2 (some .int) ∈ TB) (hf : 1 ≤ rm.frames) (hlo : (st.map fun v => v.category).sum + 13 ≤ rm.locals) (hk : k ≤ rm.cells) (hn : n ≤ rm.slots) (hd : decode cc pc = .ok (.invokestatic index, 3)) (kk : kG κ D A nL k n Q cs lv (pc + 3) (.int (if x < y then y else x) :: st)) : kG κ D A nL k n Q cs lv pc (.int y :: .int x :: st) := by
  intro H locs ls hP hD hS hl
  have hR : kR κ = rm := C.2.2.2.2.2.2.2.2.2.2.1
  subst hR
  exact va_mmax C.1 C.2.1 (by rw [C.2.2.1]; exact hl.1.symm) C.2.2.2.1 (C.2.2.2.2.1 _ h1) (C.2.2.2.2.1 _ h2) (C.2.2.2.2.1 _ h3) (C.2.2.2.2.1 _ h4) hf hlo hk hn hd (kk H locs ls hP hD hS hl)
theorem g_mmin (C : kC κ D tys A cc nL own rm ret nm) {index : Nat} {x y : Int32} (h1 : Cond.methodLink own index Lib.Math.min.name ∈ TB) (h2 : Cond.static Lib.Math.min.name ∈ TB) (h3 : Cond.initialized "java/lang/Math" ∈ TB) (h4 : Cond.code Lib.Math.min.name Lib.Math.min.code 2 (some .int) ∈ TB) (hf : 1 ≤ rm.frames) (hlo : (st.map fun v => v.category).sum + 13 ≤ rm.locals) (hk : k ≤ rm.cells) (hn : n ≤ rm.slots) (hd : decode cc pc = .ok (.invokestatic index, 3)) (kk : kG κ D A nL k n Q cs lv (pc + 3) (.int (if y < x then y else x) :: st)) : kG κ D A nL k n Q cs lv pc (.int y :: .int x :: st) := by
  intro H locs ls hP hD hS hl
  have hR : kR κ = rm := C.2.2.2.2.2.2.2.2.2.2.1
  subst hR
  exact va_mmin C.1 C.2.1 (by rw [C.2.2.1]; exact hl.1.symm) C.2.2.2.1 (C.2.2.2.2.1 _ h1) (C.2.2.2.2.1 _ h2) (C.2.2.2.2.1 _ h3) (C.2.2.2.2.1 _ h4) hf hlo hk hn hd (kk H locs ls hP hD hS hl)
end Rows
section Calls
variable {l : Launch} {κ : kT} {D : va_G} {tys : List (ClassId × FieldType)} {A : Nat → Prop} {cc : ByteArray} {nL : Nat} {own : String} {rm : Room} {ret : Option FieldType} {nm : String} {k n : Nat} {Q : State → Prop} {cs : List va_W} {lv : List (Nat × Value)} {pc : Nat} {st : List Value}
theorem g_ret_v {Rf : Option Value → List va_W → Prop} (C : kC κ D tys A cc nL own rm ret nm) (hr : ret = none) (hR : Rf none cs) (hd : decode cc pc = .ok (.return_, 1)) : kG κ D A nL k n (MQ (kBe κ) (kQ D A Rf) (kAr κ) (kS κ) k n A) cs lv pc [] := by
  intro H locs ls hP hD hS hl
  exact W.vret C.1 C.2.1 (C.2.2.2.2.2.2.2.1.trans hr) (fun t ht hW => ⟨⟨none, cs, rfl, hR, by rw [ht]; exact hP, hD⟩, hS.F ht⟩) hS.2.2 hd (hlocks := C.2.2.2.2.2.2.2.2.1)
theorem g_ret_i {Rf : Option Value → List va_W → Prop} {x : Int32} (C : kC κ D tys A cc nL own rm ret nm) (hr : ret = some .int) (hR : Rf (some (.int x)) cs) (hd : decode cc pc = .ok (.ireturn, 1)) : kG κ D A nL k n (MQ (kBe κ) (kQ D A Rf) (kAr κ) (kS κ) k n A) cs lv pc [.int x] := by
  intro H locs ls hP hD hS hl
  exact W.iret C.1 C.2.1 (C.2.2.2.2.2.2.2.1.trans hr) (fun t ht hW => ⟨⟨some (.int x), cs, rfl, hR, by rw [ht]; exact hP, hD⟩, hS.F ht⟩) hS.2.2 hd (hlocks := C.2.2.2.2.2.2.2.2.1)
theorem g_ret_z {Rf : Option Value → List va_W → Prop} {x : Int32} (C : kC κ D tys A cc nL own rm ret nm) (hr : ret = some .boolean) (hx : x = 0 ∨ x = 1) (hR : Rf (some (.int x)) cs) (hd : decode cc pc = .ok (.ireturn, 1)) : kG κ D A nL k n (MQ (kBe κ) (kQ D A Rf) (kAr κ) (kS κ) k n A) cs lv pc [.int x] := by
  intro H locs ls hP hD hS hl
  exact W.zret C.1 C.2.1 (C.2.2.2.2.2.2.2.1.trans hr) (by rcases hx with rfl | rfl <;> rfl) (fun t ht hW => ⟨⟨some (.int x), cs, rfl, hR, by rw [ht]; exact hP, hD⟩, hS.F ht⟩) hS.2.2 hd (hlocks := C.2.2.2.2.2.2.2.2.1)
theorem g_ret_a {Rf : Option Value → List va_W → Prop} {x : Nat} {cn : String} (C : kC κ D tys A cc nL own rm ret nm) (hr : ret = some (.object cn)) (hR : Rf (some (.ref x)) cs) (hd : decode cc pc = .ok (.areturn, 1)) : kG κ D A nL k n (MQ (kBe κ) (kQ D A Rf) (kAr κ) (kS κ) k n A) cs lv pc [.ref x] := by
  intro H locs ls hP hD hS hl
  exact W.aret C.1 C.2.1 (C.2.2.2.2.2.2.2.1.trans hr) (Or.inl ⟨_, rfl⟩) (Or.inr ⟨_, rfl⟩) (fun t ht hW => ⟨⟨some (.ref x), cs, rfl, hR, by rw [ht]; exact hP, hD⟩, hS.F ht⟩) hS.2.2 hd (hlocks := C.2.2.2.2.2.2.2.2.1)
/-- a method's contract out of its walk -/
theorem k_method {y : MethodName} {As : List Value} {Rf : Option Value → List va_W → Prop} (cc : ByteArray) (maxL : Nat) (ret : Option FieldType) (own : String) (ho : y.cls = own) (lv0 : List (Nat × Value)) (hlv : lv_args 0 As = lv0) (hy : plainName y.cls = true) (hAs : (lg_sl As).length ≤ maxL)
    (body : ∀ (κ : kT) (A : Nat → Prop), κ.2.1 = l → kC κ D tys A cc maxL own rm ret y.name → kG κ D A maxL 0 0 (MQ (kBe κ) (kQ D A Rf) (kAr κ) (kS κ) rm.cells rm.slots A) cs lv0 0 []) : kM l D tys y (Cond.code y cc maxL ret :: TB) rm As cs Rf := by
  subst ho; subst hlv
  intro sz
  refine Met.ofW (cc := cc) (maxL := maxL) (ret := ret) hy rfl ?_
  intro p e s m args below meth c s₁ B hml hv
  obtain ⟨rfl, hsz, hP, hK, hD0, hNW⟩ := hv
  have hts : ∀ w ∈ TB, w.before As.toArray s = true := fun w hw => atoms_spec (ws := Cond.code y cc maxL ret :: TB) B.pre w (List.mem_cons_of_mem _ hw)
  have hown : s.vm.findClass y.cls = some m.cls := findClass_of_methodNamed B.named
  subst hsz
  have hD := hD0.self (sz := s.heap.size)
  have hA : ∀ q : Nat, s.heap.size ≤ q → va_A cs.flatten s.heap.size q := fun q h => Or.inr h
  have hS : va_S (va_A cs.flatten s.heap.size) s.heap s.heap [] := va_S.rf
  have hl := lv_entry As (n := maxL) hAs
  rw [lg_entry_eq]
  exact body (p, l, e, rm, s, m, As.toArray, below, meth, c) (va_A cs.flatten s.heap.size) rfl ⟨B.exec, B.bytes, hml, hown, hts, hK, hA, B.returns, B.notSynchronized, hNW, rfl, (name_of_methodNamed B.named B.method).1⟩ s.heap [] _ hP hD hS hl
/-- behind a call -/
theorem k_goes {p : Program} {l : Launch} {e : Env} {R : Room} {s : State} {m : MethodId} {args : Array Value} {below : List Frame} {meth : Method} {c : Code} {H : Heap} {locs : List Loc} {cells slots : Nat} {Q : State → Prop} {pc : Nat} {ls : Array Slot} {rest st0 : List Value} {a : Array Value} {A0 A1 : Nat → Prop} {H0 : Heap} {mc ms : Nat} {free : Addr → Prop} {Rf : Option Value → List va_W → Prop}
    (hr : va_Run p l e R s m args below meth c H locs cells slots mc ms (F0 m pc ls st0) rest (kQ D A1 Rf a) free) (hS : va_S A0 H0 H locs) (hA : ∀ q, q < H.size → A1 q → A0 q) (hf : ∀ q, free q → A0 q)
    (kk : ∀ (v : Option Value) (cs : List va_W) (H1 : Heap) (locs1 : List Loc), Rf v cs → va_P D vwCl cs.flatten H1 → va_D A1 cs.flatten → H.size ≤ H1.size → (∀ q : Nat, q < H.size → ¬ A1 q → H1[q]? = H[q]?) → va_S A0 H0 H1 locs1 → W p l e R s m args below meth c H1 locs1 (cells + mc) (slots + ms) Q (F0 m (pc + 3) ls (v.toList ++ rest))) : W p l e R s m args below meth c H locs cells slots Q (F0 m pc ls st0) := by
  intro T hT X
  obtain ⟨v, st₀, t, T', L, h0, X', hL, e1, e2, ⟨⟨v', cs, hv, hp, hb, hd⟩, hz, hk⟩, hst⟩ := hr T hT X
  cases hv
  rw [h0] at hz hk
  obtain ⟨t2, a1, b1⟩ := kk v cs T'.heap (locs ++ L) hp (by rw [e1]; exact hb) hd (by rw [e1]; exact hz) (fun q h1 h2 => by rw [e1]; exact hk q h1 h2)
    ⟨Nat.le_trans hS.1 (by rw [e1]; exact hz), fun q h1 h2 => by rw [e1, hk q (Nat.lt_of_lt_of_le h1 hS.1) (fun z => h2 (hA q (Nat.lt_of_lt_of_le h1 hS.1) z))]; exact hS.2.1 q h1 h2, fun q hq => by
      rcases List.mem_append.mp hq with h | h
      · exact hS.2.2 q h
      · exact hf _ (hL q h)⟩ T' rfl X'
  exact ⟨t2, hst t2 a1, b1⟩
theorem k_blind {sz : Nat} {ws : va_W} {As : List Value} : FrameBlind (va_Pc As (kP D tys sz ws)) := fun a U g mk q => by
  obtain ⟨q0, q1, q2, q3, q4, q5⟩ := q
  exact ⟨q0, q1, q2, va_K.moved (u := U) (U := U.calling g mk a) (Vm.Alike.refl U.vm) q3, q4, kNW.same (u := U) rfl q5⟩
/-- the callee's start, out of the caller's world -/
theorem k_pre {H : Heap} {sel : List va_W} {As : List Value} {A0 : Nat → Prop} {s : State} (hP : va_P D vwCl sel.flatten H) (hD : va_D A0 sel.flatten) (hK : va_K D vwCl tys s) (hNW : kNW s) : ∀ U : State, U.heap = H → s.WarmedH U.vm → va_Pc As (kP D tys H.size sel.flatten) As.toArray U :=
  fun U hU hW => ⟨rfl, by rw [hU], by rw [hU]; exact hP, va_K.moved hW.alike hK, hD.weaken (fun _ _ _ _ => trivial), kNW.warm hW hNW⟩
theorem k_part {A0 : Nat → Prop} {H : Heap} {sel rest : List va_W} (hP : va_P D vwCl (sel ++ rest).flatten H) (hD : va_D A0 (sel ++ rest).flatten) : va_P D vwCl sel.flatten H ∧ va_D A0 sel.flatten := by
  rw [List.flatten_append] at hP hD
  refine ⟨kP_mem.mpr fun q hq => kP_mem.mp hP q (List.mem_append_left _ hq), ?_⟩
  obtain ⟨h1, h2⟩ := kD_mem.mp hD
  rw [List.map_append, List.nodup_append] at h1
  exact kD_mem.mpr ⟨h1.1, fun q hq => h2 q (List.mem_append_left _ hq)⟩
theorem k_fr {A0 : Nat → Prop} {H H0 : Heap} {locs : List Loc} {sel : List va_W} (hD : va_D A0 sel.flatten) (hS : va_S A0 H0 H locs) (hA : ∀ q, H0.size ≤ q → A0 q) : ∀ q, va_A sel.flatten H.size q → A0 q := by
  intro q h
  rcases h with ⟨k, e, h⟩ | h
  · exact hD.2 k (q, e) h
  · exact hA q (Nat.le_trans hS.1 h)
/-- a call on an object -/
theorem g_callV {y : MethodName} {Tc ws' : List Cond} {rmc : Room} {As : List Value} {sel rest : List va_W} {Rc : Option Value → List va_W → Prop} {bytes : ByteArray} {maxL : Nat} {retc : Option FieldType} {index : Nat} {Cn : String} {ci : Nat} {fs : List Value} {b : Nat} {T : u_T} {N na : Nat} {st0 : List Value} (hlau : κ.2.1 = l) (C : kC κ D tys A cc nL own rm ret nm)
    (hM : kM l D tys y Tc rmc (.ref b :: As) sel Rc) (hg : GoodIn TB (wsV own index Cn y Tc)) (hw : Tc = Cond.code y bytes maxL retc :: ws')
    (hd : y.cls = Cn ∧ y.cls ≠ "java/lang/invoke/MethodHandle" ∧ y.cls ≠ "java/lang/invoke/VarHandle" ∧ (parseMethodDescriptor y.desc).map (fun d => d.parameters.length) = some na) (hR : rmc.frames + 1 ≤ rm.frames ∧ 8 + (maxL + 11) + rmc.locals ≤ rm.locals)
    (hrec : sel.flatten[0]? = some (b, .inr (ci, fs))) (hc : vwCl[ci]? = some (Cn, T, N)) (hna : As.length = na) (hst : st0 = As.reverse ++ .ref b :: st) (hcat : (st.map fun v => v.category).sum ≤ 8) (hk : k + rmc.cells ≤ rm.cells) (hn : n + rmc.slots ≤ rm.slots)
    (hdg : decode cc pc = .ok (.invokevirtual index, 3)) (hsp : cs.flatten.Perm (sel ++ rest).flatten) (kk : ∀ v sel', Rc v sel' → kG κ D A nL (k + rmc.cells) (n + rmc.slots) Q (sel' ++ rest) lv (pc + 3) (v.toList ++ st)) : kG κ D A nL k n Q cs lv pc st0 := by
  intro H locs ls hP hD hS hl
  have hKK := C.2.2.2.2.2.1
  have hNW := C.2.2.2.2.2.2.2.2.2.1
  have hRR : kR κ = rm := C.2.2.2.2.2.2.2.2.2.2.1
  subst hRR; subst hlau; subst hst
  have hP := kP_perm hsp hP
  have hD := kD_perm hsp hD
  obtain ⟨hPc, hDc⟩ := k_part hP hD
  have hF := k_fr hDc hS C.2.2.2.2.2.2.1
  refine k_goes (va_runV (As := As) (rest := st) ⟨C.1, C.2.1, C.2.2.1, C.2.2.2.1, C.2.2.2.2.1⟩ (hM H.size) (cwV na C.2.2.2.2.1 hg hw rfl rfl hd hR) ⟨k_blind, va_recv hKK hPc hc hrec, k_pre hPc hDc hKK hNW⟩ rfl hna hl.1 rfl (lv_room hcat) hdg ⟨hk, hn⟩) hS (fun q _ h => hF q h) hF (fun v cs' H1 locs1 hRc hP1 hD1 _ hk1 hS1 => ?_)
  obtain ⟨hP2, hD2⟩ := k_join hP hD hk1 hF hP1 hD1
  exact kk v cs' hRc H1 locs1 ls hP2 hD2 hS1 hl
/-- a static call -/
theorem g_callS {y : MethodName} {Tc ws' : List Cond} {rmc : Room} {As : List Value} {sel rest : List va_W} {Rc : Option Value → List va_W → Prop} {bytes : ByteArray} {maxL : Nat} {retc : Option FieldType} {index : Nat} {na : Nat} {st0 : List Value} (hlau : κ.2.1 = l) (C : kC κ D tys A cc nL own rm ret nm)
    (hM : kM l D tys y Tc rmc As sel Rc) (h1 : GoodIn TB Tc) (hlk : Cond.methodLink own index y ∈ TB) (hstat : Cond.static y ∈ TB) (hini : Cond.initialized y.cls ∈ TB) (hw : Tc = Cond.code y bytes maxL retc :: ws')
    (hd : y.cls ≠ "java/lang/invoke/MethodHandle" ∧ y.cls ≠ "java/lang/invoke/VarHandle" ∧ (parseMethodDescriptor y.desc).map (fun d => d.parameters.length) = some na) (hR : rmc.frames + 1 ≤ rm.frames ∧ 8 + (maxL + 11) + rmc.locals ≤ rm.locals)
    (hna : As.length = na) (hst : st0 = As.reverse ++ st) (hcat : (st.map fun v => v.category).sum ≤ 8) (hk : k + rmc.cells ≤ rm.cells) (hn : n + rmc.slots ≤ rm.slots)
    (hdg : decode cc pc = .ok (.invokestatic index, 3)) (hsp : cs.flatten.Perm (sel ++ rest).flatten) (kk : ∀ v sel', Rc v sel' → kG κ D A nL (k + rmc.cells) (n + rmc.slots) Q (sel' ++ rest) lv (pc + 3) (v.toList ++ st)) : kG κ D A nL k n Q cs lv pc st0 := by
  intro H locs ls hP hD hS hl
  have hKK := C.2.2.2.2.2.1
  have hNW := C.2.2.2.2.2.2.2.2.2.1
  have hRR : kR κ = rm := C.2.2.2.2.2.2.2.2.2.2.1
  subst hRR; subst hlau; subst hst
  have hP := kP_perm hsp hP
  have hD := kD_perm hsp hD
  obtain ⟨hPc, hDc⟩ := k_part hP hD
  have hF := k_fr hDc hS C.2.2.2.2.2.2.1
  have hts := C.2.2.2.2.1
  refine k_goes (va_runS (As := As) (rest := st) ⟨C.1, C.2.1, C.2.2.1, C.2.2.2.1, C.2.2.2.2.1⟩ (hM H.size) ⟨callB_of na hts h1 hw rfl rfl (hts _ hini) (hts _ hlk) hd hR, hts _ hstat⟩ ⟨k_blind, k_pre hPc hDc hKK hNW⟩ rfl hna hl.1 rfl (lv_room hcat) hdg ⟨hk, hn⟩) hS (fun q _ h => hF q h) hF (fun v cs' H1 locs1 hRc hP1 hD1 _ hk1 hS1 => ?_)
  obtain ⟨hP2, hD2⟩ := k_join hP hD hk1 hF hP1 hD1
  exact kk v cs' hRc H1 locs1 ls hP2 hD2 hS1 hl
/-- a static call of a nest mate's private method -/
theorem g_callSN {y : MethodName} {Tc ws' : List Cond} {rmc : Room} {As : List Value} {sel rest : List va_W} {Rc : Option Value → List va_W → Prop} {bytes : ByteArray} {maxL : Nat} {retc : Option FieldType} {index : Nat} {host : String} {na : Nat} {st0 : List Value} (i : Nat) (hlau : κ.2.1 = l) (C : kC κ D tys A cc nL own rm ret nm)
    (hM : kM l D tys y Tc rmc As sel Rc) (h1 : GoodIn TB Tc) (hlk : kNL[i]? = some (Cond.methodLinkNest own index y host)) (hstat : Cond.static y ∈ TB) (hini : Cond.initialized y.cls ∈ TB) (hw : Tc = Cond.code y bytes maxL retc :: ws')
    (hd : y.cls ≠ "java/lang/invoke/MethodHandle" ∧ y.cls ≠ "java/lang/invoke/VarHandle" ∧ (parseMethodDescriptor y.desc).map (fun d => d.parameters.length) = some na) (hR : rmc.frames + 1 ≤ rm.frames ∧ 8 + (maxL + 11) + rmc.locals ≤ rm.locals)
    (hna : As.length = na) (hst : st0 = As.reverse ++ st) (hcat : (st.map fun v => v.category).sum ≤ 8) (hk : k + rmc.cells ≤ rm.cells) (hn : n + rmc.slots ≤ rm.slots)
    (hdg : decode cc pc = .ok (.invokestatic index, 3)) (hsp : cs.flatten.Perm (sel ++ rest).flatten) (kk : ∀ v sel', Rc v sel' → kG κ D A nL (k + rmc.cells) (n + rmc.slots) Q (sel' ++ rest) lv (pc + 3) (v.toList ++ st)) : kG κ D A nL k n Q cs lv pc st0 := by
  intro H locs ls hP hD hS hl
  have hKK := C.2.2.2.2.2.1
  have hNW := C.2.2.2.2.2.2.2.2.2.1
  have hRR : kR κ = rm := C.2.2.2.2.2.2.2.2.2.2.1
  subst hRR; subst hlau; subst hst
  have hP := kP_perm hsp hP
  have hD := kD_perm hsp hD
  obtain ⟨hPc, hDc⟩ := k_part hP hD
  have hF := k_fr hDc hS C.2.2.2.2.2.2.1
  have hts := C.2.2.2.2.1
  refine k_goes (va_runSN (As := As) (rest := st) ⟨C.1, C.2.1, C.2.2.1, C.2.2.2.1, C.2.2.2.2.1⟩ (hM H.size) ⟨va_cnB na hts h1 hw rfl rfl (hNW.1 _ (List.mem_of_getElem? hlk)) (hts _ hini) hd hR, hts _ hstat, trivial⟩ ⟨k_blind, k_pre hPc hDc hKK hNW⟩ rfl hna hl.1 rfl (lv_room hcat) hdg ⟨hk, hn⟩) hS (fun q _ h => hF q h) hF (fun v cs' H1 locs1 hRc hP1 hD1 _ hk1 hS1 => ?_)
  obtain ⟨hP2, hD2⟩ := k_join hP hD hk1 hF hP1 hD1
  exact kk v cs' hRc H1 locs1 ls hP2 hD2 hS1 hl
/-- a constructor's call -/
theorem g_callI {y : MethodName} {Tc ws' : List Cond} {rmc : Room} {As : List Value} {sel rest : List va_W} {Rc : Option Value → List va_W → Prop} {bytes : ByteArray} {maxL : Nat} {index : Nat} {b : Nat} {na : Nat} {st0 : List Value} (hlau : κ.2.1 = l) (C : kC κ D tys A cc nL own rm ret nm)
    (hM : kM l D tys y Tc rmc (.ref b :: As) sel Rc) (h1 : GoodIn TB Tc) (hlk : Cond.methodLink own index y ∈ TB) (hinst : Cond.instanceMethod y ∈ TB) (hini : Cond.initialized y.cls ∈ TB) (hw : Tc = Cond.code y bytes maxL none :: ws') (hy : y.name = "<init>")
    (hd : y.cls ≠ "java/lang/invoke/MethodHandle" ∧ y.cls ≠ "java/lang/invoke/VarHandle" ∧ (parseMethodDescriptor y.desc).map (fun d => d.parameters.length) = some na) (hR : rmc.frames + 1 ≤ rm.frames ∧ 8 + (maxL + 11) + rmc.locals ≤ rm.locals)
    (hna : As.length = na) (hst : st0 = As.reverse ++ .ref b :: st) (hcat : (st.map fun v => v.category).sum ≤ 8) (hk : k + rmc.cells ≤ rm.cells) (hn : n + rmc.slots ≤ rm.slots)
    (hdg : decode cc pc = .ok (.invokespecial index, 3)) (hsp : cs.flatten.Perm (sel ++ rest).flatten) (kk : ∀ v sel', Rc v sel' → kG κ D A nL (k + rmc.cells) (n + rmc.slots) Q (sel' ++ rest) lv (pc + 3) (v.toList ++ st)) : kG κ D A nL k n Q cs lv pc st0 := by
  intro H locs ls hP hD hS hl
  have hKK := C.2.2.2.2.2.1
  have hNW := C.2.2.2.2.2.2.2.2.2.1
  have hRR : kR κ = rm := C.2.2.2.2.2.2.2.2.2.2.1
  subst hRR; subst hlau; subst hst
  have hP := kP_perm hsp hP
  have hD := kD_perm hsp hD
  obtain ⟨hPc, hDc⟩ := k_part hP hD
  have hF := k_fr hDc hS C.2.2.2.2.2.2.1
  have hts := C.2.2.2.2.1
  refine k_goes (va_runI (As := As) (rest := st) ⟨C.1, C.2.1, C.2.2.1, C.2.2.2.1, C.2.2.2.2.1⟩ (hM H.size) (cwI na hts h1 hw rfl rfl (hts _ hini) (hts _ hlk) (hts _ hinst) hy hd hR) ⟨k_blind, k_pre hPc hDc hKK hNW⟩ rfl hna hl.1 rfl (lv_room hcat) hdg ⟨hk, hn⟩) hS (fun q _ h => hF q h) hF (fun v cs' H1 locs1 hRc hP1 hD1 _ hk1 hS1 => ?_)
  obtain ⟨hP2, hD2⟩ := k_join hP hD hk1 hF hP1 hD1
  exact kk v cs' hRc H1 locs1 ls hP2 hD2 hS1 hl
theorem g_callIN {y : MethodName} {Tc ws' : List Cond} {rmc : Room} {As : List Value} {sel rest : List va_W} {Rc : Option Value → List va_W → Prop} {bytes : ByteArray} {maxL : Nat} {index : Nat} {host : String} {b : Nat} {na : Nat} {st0 : List Value} (i : Nat) (hlau : κ.2.1 = l) (C : kC κ D tys A cc nL own rm ret nm)
    (hM : kM l D tys y Tc rmc (.ref b :: As) sel Rc) (h1 : GoodIn TB Tc) (hlk : kNL[i]? = some (Cond.methodLinkNest own index y host)) (hinst : Cond.instanceMethod y ∈ TB) (hini : Cond.initialized y.cls ∈ TB) (hw : Tc = Cond.code y bytes maxL none :: ws') (hy : y.name = "<init>")
    (hd : y.cls ≠ "java/lang/invoke/MethodHandle" ∧ y.cls ≠ "java/lang/invoke/VarHandle" ∧ (parseMethodDescriptor y.desc).map (fun d => d.parameters.length) = some na) (hR : rmc.frames + 1 ≤ rm.frames ∧ 8 + (maxL + 11) + rmc.locals ≤ rm.locals)
    (hna : As.length = na) (hst : st0 = As.reverse ++ .ref b :: st) (hcat : (st.map fun v => v.category).sum ≤ 8) (hk : k + rmc.cells ≤ rm.cells) (hn : n + rmc.slots ≤ rm.slots)
    (hdg : decode cc pc = .ok (.invokespecial index, 3)) (hsp : cs.flatten.Perm (sel ++ rest).flatten) (kk : ∀ v sel', Rc v sel' → kG κ D A nL (k + rmc.cells) (n + rmc.slots) Q (sel' ++ rest) lv (pc + 3) (v.toList ++ st)) : kG κ D A nL k n Q cs lv pc st0 := by
  intro H locs ls hP hD hS hl
  have hKK := C.2.2.2.2.2.1
  have hNW := C.2.2.2.2.2.2.2.2.2.1
  have hRR : kR κ = rm := C.2.2.2.2.2.2.2.2.2.2.1
  subst hRR; subst hlau; subst hst
  have hP := kP_perm hsp hP
  have hD := kD_perm hsp hD
  obtain ⟨hPc, hDc⟩ := k_part hP hD
  have hF := k_fr hDc hS C.2.2.2.2.2.2.1
  have hts := C.2.2.2.2.1
  refine k_goes (va_runIN (As := As) (rest := st) ⟨C.1, C.2.1, C.2.2.1, C.2.2.2.1, C.2.2.2.2.1⟩ (hM H.size) ⟨va_cnB na hts h1 hw rfl rfl (hNW.1 _ (List.mem_of_getElem? hlk)) (hts _ hini) hd hR, hy, hts _ hinst⟩ ⟨k_blind, k_pre hPc hDc hKK hNW⟩ rfl hna hl.1 rfl (lv_room hcat) hdg ⟨hk, hn⟩) hS (fun q _ h => hF q h) hF (fun v cs' H1 locs1 hRc hP1 hD1 _ hk1 hS1 => ?_)
  obtain ⟨hP2, hD2⟩ := k_join hP hD hk1 hF hP1 hD1
  exact kk v cs' hRc H1 locs1 ls hP2 hD2 hS1 hl
theorem g_objInit (C : kC κ D tys A cc nL own rm ret nm) {a idx : Nat} (h1 : Cond.methodLink own idx objectInit ∈ TB) (h2 : Cond.instanceMethod objectInit ∈ TB) (h3 : Cond.code objectInit ⟨#[0xb1]⟩ 1 none ∈ TB) (hf : 1 ≤ rm.frames) (hlo : (st.map fun v => v.category).sum + 12 ≤ rm.locals) (hd : decode cc pc = .ok (.invokespecial idx, 3)) (kk : kG κ D A nL k n Q cs lv (pc + 3) st) : kG κ D A nL k n Q cs lv pc (.ref a :: st) := by
  intro H locs ls hP hD hS hl
  have hRR : kR κ = rm := C.2.2.2.2.2.2.2.2.2.2.1
  subst hRR
  have hts := C.2.2.2.2.1
  exact W.objInit C.1 C.2.1 C.2.2.2.1 (hts _ h1) (hts _ h2) (hts _ h3) rfl (hl.1.trans C.2.2.1.symm) rfl hd hf (by show 2 * 0 + _ + 12 ≤ _; omega) (kk H locs ls hP hD hS hl)
/-- the words of any method: its code and the table -/
theorem tb_goodIn {w cw : Cond} (h : w ∈ TB) : GoodIn (cw :: TB) (w :: TB) := fun q hq => by
  rcases List.mem_cons.mp hq with rfl | hq
  · exact ⟨List.mem_cons_of_mem _ h, TB_good _ h⟩
  · exact ⟨List.mem_cons_of_mem _ hq, TB_good _ hq⟩
theorem tb_goodV {own Cn : String} {index : Nat} {y : MethodName} {cw w : Cond} (hc : w ∈ TB) (h1 : Cond.methodLink own index y ∈ TB) (h2 : Cond.instanceMethod y ∈ TB) (h3 : Cond.selects Cn y y ∈ TB) (h4 : Cond.initialized Cn ∈ TB) : GoodIn (cw :: TB) (wsV own index Cn y (w :: TB)) := fun q hq => by
  unfold wsV at hq
  have hb : q ∈ TB := by
    rcases List.mem_append.mp hq with h | h
    · simp only [List.mem_cons, List.not_mem_nil, or_false] at h
      rcases h with rfl | rfl | rfl | rfl <;> assumption
    · rcases List.mem_cons.mp h with rfl | h
      · exact hc
      · exact h
  exact ⟨List.mem_cons_of_mem _ hb, TB_good _ hb⟩
end Calls
end
