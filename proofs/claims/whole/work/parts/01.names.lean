/-- a private method of a class that the tables say can be made, by its rows of tables_1 -/
def lw_okq (q : MethodName × Nat) : Prop := (q.1.cls ≠ "java/lang/invoke/MethodHandle" ∧ q.1.cls ≠ "java/lang/invoke/VarHandle") ∧ Cond.instantiable q.1.cls q.2 ∈ tables_1 ∧ Cond.privateMethod q.1 ∈ tables_1 ∧ Cond.instanceMethod q.1 ∈ tables_1
theorem lw_p0 : lw_okq (⟨"CosyAsylum", "bad", "(I)I"⟩, 13) := ⟨⟨by decide +kernel, by decide +kernel⟩, List.mem_of_getElem? (i := 19) (by decide +kernel), List.mem_of_getElem? (i := 279) (by decide +kernel), List.mem_of_getElem? (i := 280) (by decide +kernel)⟩
theorem lw_p1 : lw_okq (⟨"CosyAsylum", "full", "()I"⟩, 13) := ⟨⟨by decide +kernel, by decide +kernel⟩, List.mem_of_getElem? (i := 19) (by decide +kernel), List.mem_of_getElem? (i := 283) (by decide +kernel), List.mem_of_getElem? (i := 284) (by decide +kernel)⟩
theorem lw_p2 : lw_okq (⟨"CosyAsylum$Text", "byteAt", "(I)I"⟩, 6) := ⟨⟨by decide +kernel, by decide +kernel⟩, List.mem_of_getElem? (i := 143) (by decide +kernel), List.mem_of_getElem? (i := 340) (by decide +kernel), List.mem_of_getElem? (i := 341) (by decide +kernel)⟩
theorem lw_p3 : lw_okq (⟨"CosyAsylum$Text", "takeNumber", "()V"⟩, 6) := ⟨⟨by decide +kernel, by decide +kernel⟩, List.mem_of_getElem? (i := 143) (by decide +kernel), List.mem_of_getElem? (i := 347) (by decide +kernel), List.mem_of_getElem? (i := 348) (by decide +kernel)⟩
theorem lw_p4 : lw_okq (⟨"CosyAsylum$Text", "takeWord", "()V"⟩, 6) := ⟨⟨by decide +kernel, by decide +kernel⟩, List.mem_of_getElem? (i := 143) (by decide +kernel), List.mem_of_getElem? (i := 354) (by decide +kernel), List.mem_of_getElem? (i := 355) (by decide +kernel)⟩
theorem lw_p5 : lw_okq (⟨"CosyAsylum$Text", "spells", "(Ljava/lang/String;)Z"⟩, 6) := ⟨⟨by decide +kernel, by decide +kernel⟩, List.mem_of_getElem? (i := 143) (by decide +kernel), List.mem_of_getElem? (i := 359) (by decide +kernel), List.mem_of_getElem? (i := 360) (by decide +kernel)⟩
theorem lw_p6 : lw_okq (⟨"CosyAsylum$Reader", "takes", "(LCosyAsylum$Text;)Z"⟩, 5) := ⟨⟨by decide +kernel, by decide +kernel⟩, List.mem_of_getElem? (i := 175) (by decide +kernel), List.mem_of_getElem? (i := 415) (by decide +kernel), List.mem_of_getElem? (i := 416) (by decide +kernel)⟩
theorem lw_p7 : lw_okq (⟨"CosyAsylum$Reader", "takesWord", "(LCosyAsylum$Text;)Z"⟩, 5) := ⟨⟨by decide +kernel, by decide +kernel⟩, List.mem_of_getElem? (i := 175) (by decide +kernel), List.mem_of_getElem? (i := 419) (by decide +kernel), List.mem_of_getElem? (i := 420) (by decide +kernel)⟩
theorem lw_p8 : lw_okq (⟨"CosyAsylum$Reader", "takesNumber", "(LCosyAsylum$Text;)Z"⟩, 5) := ⟨⟨by decide +kernel, by decide +kernel⟩, List.mem_of_getElem? (i := 175) (by decide +kernel), List.mem_of_getElem? (i := 426) (by decide +kernel), List.mem_of_getElem? (i := 427) (by decide +kernel)⟩
theorem lw_p9 : lw_okq (⟨"CosyAsylum$Reader", "mostOf", "(II)I"⟩, 5) := ⟨⟨by decide +kernel, by decide +kernel⟩, List.mem_of_getElem? (i := 175) (by decide +kernel), List.mem_of_getElem? (i := 430) (by decide +kernel), List.mem_of_getElem? (i := 431) (by decide +kernel)⟩
theorem lw_p10 : lw_okq (⟨"CosyAsylum$Reader", "addItem", "()V"⟩, 5) := ⟨⟨by decide +kernel, by decide +kernel⟩, List.mem_of_getElem? (i := 175) (by decide +kernel), List.mem_of_getElem? (i := 435) (by decide +kernel), List.mem_of_getElem? (i := 436) (by decide +kernel)⟩
theorem lw_p11 : lw_okq (⟨"CosyAsylum$Past", "dropFirst", "()V"⟩, 2) := ⟨⟨by decide +kernel, by decide +kernel⟩, List.mem_of_getElem? (i := 96) (by decide +kernel), List.mem_of_getElem? (i := 463) (by decide +kernel), List.mem_of_getElem? (i := 464) (by decide +kernel)⟩
theorem lw_p12 : lw_okq (⟨"CosyAsylum$Past", "rowAt", "(I)LCosyAsylum$Common;"⟩, 2) := ⟨⟨by decide +kernel, by decide +kernel⟩, List.mem_of_getElem? (i := 96) (by decide +kernel), List.mem_of_getElem? (i := 467) (by decide +kernel), List.mem_of_getElem? (i := 468) (by decide +kernel)⟩
theorem lw_p13 : lw_okq (⟨"CosyAsylum$Common", "countRooms", "()V"⟩, 13) := ⟨⟨by decide +kernel, by decide +kernel⟩, List.mem_of_getElem? (i := 33) (by decide +kernel), List.mem_of_getElem? (i := 481) (by decide +kernel), List.mem_of_getElem? (i := 482) (by decide +kernel)⟩
theorem lw_p14 : lw_okq (⟨"CosyAsylum$Common", "fill", "(I)V"⟩, 13) := ⟨⟨by decide +kernel, by decide +kernel⟩, List.mem_of_getElem? (i := 33) (by decide +kernel), List.mem_of_getElem? (i := 495) (by decide +kernel), List.mem_of_getElem? (i := 496) (by decide +kernel)⟩
theorem lw_p15 : lw_okq (⟨"CosyAsylum$Common", "flee", "(II)V"⟩, 13) := ⟨⟨by decide +kernel, by decide +kernel⟩, List.mem_of_getElem? (i := 33) (by decide +kernel), List.mem_of_getElem? (i := 499) (by decide +kernel), List.mem_of_getElem? (i := 500) (by decide +kernel)⟩
def lw_privs_1 : List (MethodName × Nat) := [(⟨"CosyAsylum", "bad", "(I)I"⟩, 13), (⟨"CosyAsylum", "full", "()I"⟩, 13), (⟨"CosyAsylum$Text", "byteAt", "(I)I"⟩, 6), (⟨"CosyAsylum$Text", "takeNumber", "()V"⟩, 6), (⟨"CosyAsylum$Text", "takeWord", "()V"⟩, 6), (⟨"CosyAsylum$Text", "spells", "(Ljava/lang/String;)Z"⟩, 6), (⟨"CosyAsylum$Reader", "takes", "(LCosyAsylum$Text;)Z"⟩, 5), (⟨"CosyAsylum$Reader", "takesWord", "(LCosyAsylum$Text;)Z"⟩, 5), (⟨"CosyAsylum$Reader", "takesNumber", "(LCosyAsylum$Text;)Z"⟩, 5), (⟨"CosyAsylum$Reader", "mostOf", "(II)I"⟩, 5), (⟨"CosyAsylum$Reader", "addItem", "()V"⟩, 5), (⟨"CosyAsylum$Past", "dropFirst", "()V"⟩, 2), (⟨"CosyAsylum$Past", "rowAt", "(I)LCosyAsylum$Common;"⟩, 2), (⟨"CosyAsylum$Common", "countRooms", "()V"⟩, 13), (⟨"CosyAsylum$Common", "fill", "(I)V"⟩, 13), (⟨"CosyAsylum$Common", "flee", "(II)V"⟩, 13)]
theorem lw_r1 : ∀ q ∈ lw_privs_1, lw_okq q := List.forall_mem_cons.mpr ⟨lw_p0, List.forall_mem_cons.mpr ⟨lw_p1, List.forall_mem_cons.mpr ⟨lw_p2, List.forall_mem_cons.mpr ⟨lw_p3, List.forall_mem_cons.mpr ⟨lw_p4, List.forall_mem_cons.mpr ⟨lw_p5, List.forall_mem_cons.mpr ⟨lw_p6, List.forall_mem_cons.mpr ⟨lw_p7, List.forall_mem_cons.mpr ⟨lw_p8, List.forall_mem_cons.mpr ⟨lw_p9, List.forall_mem_cons.mpr ⟨lw_p10, List.forall_mem_cons.mpr ⟨lw_p11, List.forall_mem_cons.mpr ⟨lw_p12, List.forall_mem_cons.mpr ⟨lw_p13, List.forall_mem_cons.mpr ⟨lw_p14, List.forall_mem_cons.mpr ⟨lw_p15, fun _ h => absurd h List.not_mem_nil⟩⟩⟩⟩⟩⟩⟩⟩⟩⟩⟩⟩⟩⟩⟩⟩
theorem lw_p16 : lw_okq (⟨"CosyAsylum$Common", "nearestRoom", "(I)I"⟩, 13) := ⟨⟨by decide +kernel, by decide +kernel⟩, List.mem_of_getElem? (i := 33) (by decide +kernel), List.mem_of_getElem? (i := 506) (by decide +kernel), List.mem_of_getElem? (i := 507) (by decide +kernel)⟩
theorem lw_p17 : lw_okq (⟨"CosyAsylum$Common", "chase", "(I)V"⟩, 13) := ⟨⟨by decide +kernel, by decide +kernel⟩, List.mem_of_getElem? (i := 33) (by decide +kernel), List.mem_of_getElem? (i := 519) (by decide +kernel), List.mem_of_getElem? (i := 520) (by decide +kernel)⟩
theorem lw_p18 : lw_okq (⟨"CosyAsylum$Common", "nearestFree", "(I)I"⟩, 13) := ⟨⟨by decide +kernel, by decide +kernel⟩, List.mem_of_getElem? (i := 33) (by decide +kernel), List.mem_of_getElem? (i := 523) (by decide +kernel), List.mem_of_getElem? (i := 524) (by decide +kernel)⟩
theorem lw_p19 : lw_okq (⟨"CosyAsylum$Common", "wearOut", "(I)V"⟩, 13) := ⟨⟨by decide +kernel, by decide +kernel⟩, List.mem_of_getElem? (i := 33) (by decide +kernel), List.mem_of_getElem? (i := 527) (by decide +kernel), List.mem_of_getElem? (i := 528) (by decide +kernel)⟩
theorem lw_p20 : lw_okq (⟨"CosyAsylum", "isCosy", "(I)Z"⟩, 13) := ⟨⟨by decide +kernel, by decide +kernel⟩, List.mem_of_getElem? (i := 19) (by decide +kernel), List.mem_of_getElem? (i := 555) (by decide +kernel), List.mem_of_getElem? (i := 556) (by decide +kernel)⟩
theorem lw_p21 : lw_okq (⟨"CosyAsylum", "no", "()I"⟩, 13) := ⟨⟨by decide +kernel, by decide +kernel⟩, List.mem_of_getElem? (i := 19) (by decide +kernel), List.mem_of_getElem? (i := 573) (by decide +kernel), List.mem_of_getElem? (i := 574) (by decide +kernel)⟩
theorem lw_p22 : lw_okq (⟨"CosyAsylum", "isOneHunted", "(I)Z"⟩, 13) := ⟨⟨by decide +kernel, by decide +kernel⟩, List.mem_of_getElem? (i := 19) (by decide +kernel), List.mem_of_getElem? (i := 591) (by decide +kernel), List.mem_of_getElem? (i := 592) (by decide +kernel)⟩
theorem lw_p23 : lw_okq (⟨"CosyAsylum", "lookAhead", "(I)V"⟩, 13) := ⟨⟨by decide +kernel, by decide +kernel⟩, List.mem_of_getElem? (i := 19) (by decide +kernel), List.mem_of_getElem? (i := 607) (by decide +kernel), List.mem_of_getElem? (i := 608) (by decide +kernel)⟩
theorem lw_p24 : lw_okq (⟨"CosyAsylum$Escape", "stageAt", "(I)LCosyAsylum$Common;"⟩, 2) := ⟨⟨by decide +kernel, by decide +kernel⟩, List.mem_of_getElem? (i := 201) (by decide +kernel), List.mem_of_getElem? (i := 636) (by decide +kernel), List.mem_of_getElem? (i := 637) (by decide +kernel)⟩
theorem lw_p25 : lw_okq (⟨"CosyAsylum", "holdsAs", "(III)I"⟩, 13) := ⟨⟨by decide +kernel, by decide +kernel⟩, List.mem_of_getElem? (i := 19) (by decide +kernel), List.mem_of_getElem? (i := 655) (by decide +kernel), List.mem_of_getElem? (i := 656) (by decide +kernel)⟩
theorem lw_p26 : lw_okq (⟨"CosyAsylum", "fittingKinds", "(I)I"⟩, 13) := ⟨⟨by decide +kernel, by decide +kernel⟩, List.mem_of_getElem? (i := 19) (by decide +kernel), List.mem_of_getElem? (i := 676) (by decide +kernel), List.mem_of_getElem? (i := 677) (by decide +kernel)⟩
theorem lw_p27 : lw_okq (⟨"CosyAsylum", "fitsNotes", "(II)Z"⟩, 13) := ⟨⟨by decide +kernel, by decide +kernel⟩, List.mem_of_getElem? (i := 19) (by decide +kernel), List.mem_of_getElem? (i := 680) (by decide +kernel), List.mem_of_getElem? (i := 681) (by decide +kernel)⟩
theorem lw_p28 : lw_okq (⟨"CosyAsylum", "mostAlike", "(III)I"⟩, 13) := ⟨⟨by decide +kernel, by decide +kernel⟩, List.mem_of_getElem? (i := 19) (by decide +kernel), List.mem_of_getElem? (i := 688) (by decide +kernel), List.mem_of_getElem? (i := 689) (by decide +kernel)⟩
theorem lw_p29 : lw_okq (⟨"CosyAsylum", "rests", "(IIII)Z"⟩, 13) := ⟨⟨by decide +kernel, by decide +kernel⟩, List.mem_of_getElem? (i := 19) (by decide +kernel), List.mem_of_getElem? (i := 705) (by decide +kernel), List.mem_of_getElem? (i := 706) (by decide +kernel)⟩
theorem lw_p30 : lw_okq (⟨"CosyAsylum", "getsBy", "(IIII)I"⟩, 13) := ⟨⟨by decide +kernel, by decide +kernel⟩, List.mem_of_getElem? (i := 19) (by decide +kernel), List.mem_of_getElem? (i := 709) (by decide +kernel), List.mem_of_getElem? (i := 710) (by decide +kernel)⟩
theorem lw_p31 : lw_okq (⟨"CosyAsylum", "imageAt", "(I)LCosyAsylum$Kept;"⟩, 13) := ⟨⟨by decide +kernel, by decide +kernel⟩, List.mem_of_getElem? (i := 19) (by decide +kernel), List.mem_of_getElem? (i := 741) (by decide +kernel), List.mem_of_getElem? (i := 742) (by decide +kernel)⟩
def lw_privs_2 : List (MethodName × Nat) := [(⟨"CosyAsylum$Common", "nearestRoom", "(I)I"⟩, 13), (⟨"CosyAsylum$Common", "chase", "(I)V"⟩, 13), (⟨"CosyAsylum$Common", "nearestFree", "(I)I"⟩, 13), (⟨"CosyAsylum$Common", "wearOut", "(I)V"⟩, 13), (⟨"CosyAsylum", "isCosy", "(I)Z"⟩, 13), (⟨"CosyAsylum", "no", "()I"⟩, 13), (⟨"CosyAsylum", "isOneHunted", "(I)Z"⟩, 13), (⟨"CosyAsylum", "lookAhead", "(I)V"⟩, 13), (⟨"CosyAsylum$Escape", "stageAt", "(I)LCosyAsylum$Common;"⟩, 2), (⟨"CosyAsylum", "holdsAs", "(III)I"⟩, 13), (⟨"CosyAsylum", "fittingKinds", "(I)I"⟩, 13), (⟨"CosyAsylum", "fitsNotes", "(II)Z"⟩, 13), (⟨"CosyAsylum", "mostAlike", "(III)I"⟩, 13), (⟨"CosyAsylum", "rests", "(IIII)Z"⟩, 13), (⟨"CosyAsylum", "getsBy", "(IIII)I"⟩, 13), (⟨"CosyAsylum", "imageAt", "(I)LCosyAsylum$Kept;"⟩, 13)]
theorem lw_r2 : ∀ q ∈ lw_privs_2, lw_okq q := List.forall_mem_cons.mpr ⟨lw_p16, List.forall_mem_cons.mpr ⟨lw_p17, List.forall_mem_cons.mpr ⟨lw_p18, List.forall_mem_cons.mpr ⟨lw_p19, List.forall_mem_cons.mpr ⟨lw_p20, List.forall_mem_cons.mpr ⟨lw_p21, List.forall_mem_cons.mpr ⟨lw_p22, List.forall_mem_cons.mpr ⟨lw_p23, List.forall_mem_cons.mpr ⟨lw_p24, List.forall_mem_cons.mpr ⟨lw_p25, List.forall_mem_cons.mpr ⟨lw_p26, List.forall_mem_cons.mpr ⟨lw_p27, List.forall_mem_cons.mpr ⟨lw_p28, List.forall_mem_cons.mpr ⟨lw_p29, List.forall_mem_cons.mpr ⟨lw_p30, List.forall_mem_cons.mpr ⟨lw_p31, fun _ h => absurd h List.not_mem_nil⟩⟩⟩⟩⟩⟩⟩⟩⟩⟩⟩⟩⟩⟩⟩⟩
theorem lw_p32 : lw_okq (⟨"CosyAsylum", "countOf", "(I)I"⟩, 13) := ⟨⟨by decide +kernel, by decide +kernel⟩, List.mem_of_getElem? (i := 19) (by decide +kernel), List.mem_of_getElem? (i := 767) (by decide +kernel), List.mem_of_getElem? (i := 768) (by decide +kernel)⟩
theorem lw_p33 : lw_okq (⟨"CosyAsylumModel", "bad", "()I"⟩, 17) := ⟨⟨by decide +kernel, by decide +kernel⟩, List.mem_of_getElem? (i := 788) (by decide +kernel), List.mem_of_getElem? (i := 864) (by decide +kernel), List.mem_of_getElem? (i := 865) (by decide +kernel)⟩
theorem lw_p34 : lw_okq (⟨"CosyAsylumModel", "badBy", "(I)I"⟩, 17) := ⟨⟨by decide +kernel, by decide +kernel⟩, List.mem_of_getElem? (i := 788) (by decide +kernel), List.mem_of_getElem? (i := 868) (by decide +kernel), List.mem_of_getElem? (i := 869) (by decide +kernel)⟩
theorem lw_p35 : lw_okq (⟨"CosyAsylumModel", "full", "()I"⟩, 17) := ⟨⟨by decide +kernel, by decide +kernel⟩, List.mem_of_getElem? (i := 788) (by decide +kernel), List.mem_of_getElem? (i := 872) (by decide +kernel), List.mem_of_getElem? (i := 873) (by decide +kernel)⟩
theorem lw_p36 : lw_okq (⟨"CosyAsylumModel", "isRead", "()Z"⟩, 17) := ⟨⟨by decide +kernel, by decide +kernel⟩, List.mem_of_getElem? (i := 788) (by decide +kernel), List.mem_of_getElem? (i := 905) (by decide +kernel), List.mem_of_getElem? (i := 906) (by decide +kernel)⟩
theorem lw_p37 : lw_okq (⟨"CosyAsylumModel", "nextToken", "()V"⟩, 17) := ⟨⟨by decide +kernel, by decide +kernel⟩, List.mem_of_getElem? (i := 788) (by decide +kernel), List.mem_of_getElem? (i := 909) (by decide +kernel), List.mem_of_getElem? (i := 910) (by decide +kernel)⟩
theorem lw_p38 : lw_okq (⟨"CosyAsylumModel", "kindAt", "(I)I"⟩, 17) := ⟨⟨by decide +kernel, by decide +kernel⟩, List.mem_of_getElem? (i := 788) (by decide +kernel), List.mem_of_getElem? (i := 913) (by decide +kernel), List.mem_of_getElem? (i := 914) (by decide +kernel)⟩
theorem lw_p39 : lw_okq (⟨"CosyAsylumModel", "isItem", "()Z"⟩, 17) := ⟨⟨by decide +kernel, by decide +kernel⟩, List.mem_of_getElem? (i := 788) (by decide +kernel), List.mem_of_getElem? (i := 919) (by decide +kernel), List.mem_of_getElem? (i := 920) (by decide +kernel)⟩
theorem lw_p40 : lw_okq (⟨"CosyAsylumModel", "isCosyItem", "()Z"⟩, 17) := ⟨⟨by decide +kernel, by decide +kernel⟩, List.mem_of_getElem? (i := 788) (by decide +kernel), List.mem_of_getElem? (i := 925) (by decide +kernel), List.mem_of_getElem? (i := 926) (by decide +kernel)⟩
theorem lw_p41 : lw_okq (⟨"CosyAsylumModel", "isNumber", "(II)Z"⟩, 17) := ⟨⟨by decide +kernel, by decide +kernel⟩, List.mem_of_getElem? (i := 788) (by decide +kernel), List.mem_of_getElem? (i := 929) (by decide +kernel), List.mem_of_getElem? (i := 930) (by decide +kernel)⟩
theorem lw_p42 : lw_okq (⟨"CosyAsylumModel", "isHuntedItem", "()Z"⟩, 17) := ⟨⟨by decide +kernel, by decide +kernel⟩, List.mem_of_getElem? (i := 788) (by decide +kernel), List.mem_of_getElem? (i := 934) (by decide +kernel), List.mem_of_getElem? (i := 935) (by decide +kernel)⟩
theorem lw_p43 : lw_okq (⟨"CosyAsylumModel", "isSheriffItem", "()Z"⟩, 17) := ⟨⟨by decide +kernel, by decide +kernel⟩, List.mem_of_getElem? (i := 788) (by decide +kernel), List.mem_of_getElem? (i := 939) (by decide +kernel), List.mem_of_getElem? (i := 940) (by decide +kernel)⟩
theorem lw_p44 : lw_okq (⟨"CosyAsylumModel", "isWearItem", "()Z"⟩, 17) := ⟨⟨by decide +kernel, by decide +kernel⟩, List.mem_of_getElem? (i := 788) (by decide +kernel), List.mem_of_getElem? (i := 944) (by decide +kernel), List.mem_of_getElem? (i := 945) (by decide +kernel)⟩
theorem lw_p45 : lw_okq (⟨"CosyAsylumModel", "keepBack", "()V"⟩, 17) := ⟨⟨by decide +kernel, by decide +kernel⟩, List.mem_of_getElem? (i := 788) (by decide +kernel), List.mem_of_getElem? (i := 955) (by decide +kernel), List.mem_of_getElem? (i := 956) (by decide +kernel)⟩
theorem lw_p46 : lw_okq (⟨"CosyAsylumModel", "isCosy", "(I)Z"⟩, 17) := ⟨⟨by decide +kernel, by decide +kernel⟩, List.mem_of_getElem? (i := 788) (by decide +kernel), List.mem_of_getElem? (i := 1008) (by decide +kernel), List.mem_of_getElem? (i := 1009) (by decide +kernel)⟩
theorem lw_p47 : lw_okq (⟨"CosyAsylumModel", "no", "()I"⟩, 17) := ⟨⟨by decide +kernel, by decide +kernel⟩, List.mem_of_getElem? (i := 788) (by decide +kernel), List.mem_of_getElem? (i := 1023) (by decide +kernel), List.mem_of_getElem? (i := 1024) (by decide +kernel)⟩
def lw_privs_3 : List (MethodName × Nat) := [(⟨"CosyAsylum", "countOf", "(I)I"⟩, 13), (⟨"CosyAsylumModel", "bad", "()I"⟩, 17), (⟨"CosyAsylumModel", "badBy", "(I)I"⟩, 17), (⟨"CosyAsylumModel", "full", "()I"⟩, 17), (⟨"CosyAsylumModel", "isRead", "()Z"⟩, 17), (⟨"CosyAsylumModel", "nextToken", "()V"⟩, 17), (⟨"CosyAsylumModel", "kindAt", "(I)I"⟩, 17), (⟨"CosyAsylumModel", "isItem", "()Z"⟩, 17), (⟨"CosyAsylumModel", "isCosyItem", "()Z"⟩, 17), (⟨"CosyAsylumModel", "isNumber", "(II)Z"⟩, 17), (⟨"CosyAsylumModel", "isHuntedItem", "()Z"⟩, 17), (⟨"CosyAsylumModel", "isSheriffItem", "()Z"⟩, 17), (⟨"CosyAsylumModel", "isWearItem", "()Z"⟩, 17), (⟨"CosyAsylumModel", "keepBack", "()V"⟩, 17), (⟨"CosyAsylumModel", "isCosy", "(I)Z"⟩, 17), (⟨"CosyAsylumModel", "no", "()I"⟩, 17)]
theorem lw_r3 : ∀ q ∈ lw_privs_3, lw_okq q := List.forall_mem_cons.mpr ⟨lw_p32, List.forall_mem_cons.mpr ⟨lw_p33, List.forall_mem_cons.mpr ⟨lw_p34, List.forall_mem_cons.mpr ⟨lw_p35, List.forall_mem_cons.mpr ⟨lw_p36, List.forall_mem_cons.mpr ⟨lw_p37, List.forall_mem_cons.mpr ⟨lw_p38, List.forall_mem_cons.mpr ⟨lw_p39, List.forall_mem_cons.mpr ⟨lw_p40, List.forall_mem_cons.mpr ⟨lw_p41, List.forall_mem_cons.mpr ⟨lw_p42, List.forall_mem_cons.mpr ⟨lw_p43, List.forall_mem_cons.mpr ⟨lw_p44, List.forall_mem_cons.mpr ⟨lw_p45, List.forall_mem_cons.mpr ⟨lw_p46, List.forall_mem_cons.mpr ⟨lw_p47, fun _ h => absurd h List.not_mem_nil⟩⟩⟩⟩⟩⟩⟩⟩⟩⟩⟩⟩⟩⟩⟩⟩
theorem lw_p48 : lw_okq (⟨"CosyAsylumModel", "isHunted", "(I)Z"⟩, 17) := ⟨⟨by decide +kernel, by decide +kernel⟩, List.mem_of_getElem? (i := 788) (by decide +kernel), List.mem_of_getElem? (i := 1035) (by decide +kernel), List.mem_of_getElem? (i := 1036) (by decide +kernel)⟩
theorem lw_p49 : lw_okq (⟨"CosyAsylumModel", "copyNow", "()V"⟩, 17) := ⟨⟨by decide +kernel, by decide +kernel⟩, List.mem_of_getElem? (i := 788) (by decide +kernel), List.mem_of_getElem? (i := 1050) (by decide +kernel), List.mem_of_getElem? (i := 1051) (by decide +kernel)⟩
theorem lw_p50 : lw_okq (⟨"CosyAsylumModel", "goOn", "(I)V"⟩, 17) := ⟨⟨by decide +kernel, by decide +kernel⟩, List.mem_of_getElem? (i := 788) (by decide +kernel), List.mem_of_getElem? (i := 1054) (by decide +kernel), List.mem_of_getElem? (i := 1055) (by decide +kernel)⟩
theorem lw_p51 : lw_okq (⟨"CosyAsylumModel", "isUnderBy", "(II)Z"⟩, 17) := ⟨⟨by decide +kernel, by decide +kernel⟩, List.mem_of_getElem? (i := 788) (by decide +kernel), List.mem_of_getElem? (i := 1077) (by decide +kernel), List.mem_of_getElem? (i := 1078) (by decide +kernel)⟩
theorem lw_p52 : lw_okq (⟨"CosyAsylumModel", "goesBy", "(II)Z"⟩, 17) := ⟨⟨by decide +kernel, by decide +kernel⟩, List.mem_of_getElem? (i := 788) (by decide +kernel), List.mem_of_getElem? (i := 1081) (by decide +kernel), List.mem_of_getElem? (i := 1082) (by decide +kernel)⟩
theorem lw_p53 : lw_okq (⟨"CosyAsylumModel", "kindsOf", "(I)I"⟩, 17) := ⟨⟨by decide +kernel, by decide +kernel⟩, List.mem_of_getElem? (i := 788) (by decide +kernel), List.mem_of_getElem? (i := 1104) (by decide +kernel), List.mem_of_getElem? (i := 1105) (by decide +kernel)⟩
theorem lw_p54 : lw_okq (⟨"CosyAsylumModel", "rests", "(IIII)Z"⟩, 17) := ⟨⟨by decide +kernel, by decide +kernel⟩, List.mem_of_getElem? (i := 788) (by decide +kernel), List.mem_of_getElem? (i := 1120) (by decide +kernel), List.mem_of_getElem? (i := 1121) (by decide +kernel)⟩
theorem lw_p55 : lw_okq (⟨"CosyAsylumModel", "gets", "(IIII)I"⟩, 17) := ⟨⟨by decide +kernel, by decide +kernel⟩, List.mem_of_getElem? (i := 788) (by decide +kernel), List.mem_of_getElem? (i := 1124) (by decide +kernel), List.mem_of_getElem? (i := 1125) (by decide +kernel)⟩
theorem lw_p56 : lw_okq (⟨"CosyAsylumModel", "counted", "(I)I"⟩, 17) := ⟨⟨by decide +kernel, by decide +kernel⟩, List.mem_of_getElem? (i := 788) (by decide +kernel), List.mem_of_getElem? (i := 1163) (by decide +kernel), List.mem_of_getElem? (i := 1164) (by decide +kernel)⟩
def lw_privs_4 : List (MethodName × Nat) := [(⟨"CosyAsylumModel", "isHunted", "(I)Z"⟩, 17), (⟨"CosyAsylumModel", "copyNow", "()V"⟩, 17), (⟨"CosyAsylumModel", "goOn", "(I)V"⟩, 17), (⟨"CosyAsylumModel", "isUnderBy", "(II)Z"⟩, 17), (⟨"CosyAsylumModel", "goesBy", "(II)Z"⟩, 17), (⟨"CosyAsylumModel", "kindsOf", "(I)I"⟩, 17), (⟨"CosyAsylumModel", "rests", "(IIII)Z"⟩, 17), (⟨"CosyAsylumModel", "gets", "(IIII)I"⟩, 17), (⟨"CosyAsylumModel", "counted", "(I)I"⟩, 17)]
theorem lw_r4 : ∀ q ∈ lw_privs_4, lw_okq q := List.forall_mem_cons.mpr ⟨lw_p48, List.forall_mem_cons.mpr ⟨lw_p49, List.forall_mem_cons.mpr ⟨lw_p50, List.forall_mem_cons.mpr ⟨lw_p51, List.forall_mem_cons.mpr ⟨lw_p52, List.forall_mem_cons.mpr ⟨lw_p53, List.forall_mem_cons.mpr ⟨lw_p54, List.forall_mem_cons.mpr ⟨lw_p55, List.forall_mem_cons.mpr ⟨lw_p56, fun _ h => absurd h List.not_mem_nil⟩⟩⟩⟩⟩⟩⟩⟩⟩
def lw_privs : List (MethodName × Nat) := lw_privs_1 ++ (lw_privs_2 ++ (lw_privs_3 ++ (lw_privs_4)))
def lw_tbl : List Cond := k2_sels lw_privs ++ tables_1
theorem lw_privs_ok : ∀ q ∈ lw_privs, lw_okq q := by
  show ∀ q ∈ lw_privs_1 ++ (lw_privs_2 ++ (lw_privs_3 ++ (lw_privs_4))), lw_okq q
  exact List.forall_mem_append.mpr ⟨lw_r1, List.forall_mem_append.mpr ⟨lw_r2, List.forall_mem_append.mpr ⟨lw_r3, lw_r4⟩⟩⟩
def RX0 : String := "CosyAsylum$Cells"
def TX0 : u_T := fun k => match k with
  | _ => ("", "", "", false)
def tyX0 : Nat → FieldType := fun k => match k with
  | _ => .int
theorem nmX0 : ∀ a, a < 0 → ∀ b, b < 0 → a ≠ b → (TX0 a).2.1 ≠ (TX0 b).2.1 := by decide +kernel
theorem tyX0_ok : ∀ k, k < 0 → parseFieldDescriptor (TX0 k).2.2.1 = some (tyX0 k) := by decide +kernel
abbrev cX0_far : ByteArray := prog_2_method_2_code
def yX0_far : MethodName := ⟨RX0, "far", "(II)I"⟩
abbrev cX0_step : ByteArray := prog_2_method_3_code
def yX0_step : MethodName := ⟨RX0, "step", "(II)I"⟩
abbrev cX0_beside : ByteArray := prog_2_method_4_code
def yX0_beside : MethodName := ⟨RX0, "beside", "(II)I"⟩
def RX1 : String := "CosyAsylum$Common"
def TX1 : u_T := fun k => match k with
  | 0 => ("CosyAsylum$Common", "kinds", "[I", true)
  | 1 => ("CosyAsylum$Common", "cosyCells", "[I", true)
  | 2 => ("CosyAsylum$Common", "sizes", "[I", true)
  | 3 => ("CosyAsylum$Common", "wears", "[I", true)
  | 4 => ("CosyAsylum$Common", "huntedCells", "[I", true)
  | 5 => ("CosyAsylum$Common", "covers", "[I", true)
  | 6 => ("CosyAsylum$Common", "sheriffCells", "[I", true)
  | 7 => ("CosyAsylum$Common", "rooms", "[I", true)
  | 8 => ("CosyAsylum$Common", "unders", "[I", true)
  | 9 => ("CosyAsylum$Common", "cosies", "I", false)
  | 10 => ("CosyAsylum$Common", "hunted", "I", false)
  | 11 => ("CosyAsylum$Common", "sheriffs", "I", false)
  | _ => ("CosyAsylum$Common", "hour", "I", false)
def tyX1 : Nat → FieldType := fun k => match k with
  | 0 => .array .int
  | 1 => .array .int
  | 2 => .array .int
  | 3 => .array .int
  | 4 => .array .int
  | 5 => .array .int
  | 6 => .array .int
  | 7 => .array .int
  | 8 => .array .int
  | 9 => .int
  | 10 => .int
  | 11 => .int
  | _ => .int
theorem nmX1 : ∀ a, a < 13 → ∀ b, b < 13 → a ≠ b → (TX1 a).2.1 ≠ (TX1 b).2.1 := by decide +kernel
theorem tyX1_ok : ∀ k, k < 13 → parseFieldDescriptor (TX1 k).2.2.1 = some (tyX1 k) := by decide +kernel
abbrev cX1_init : ByteArray := prog_3_method_1_code
def yX1_init : MethodName := ⟨RX1, "<init>", "()V"⟩
abbrev cX1_empty : ByteArray := prog_3_method_2_code
def yX1_empty : MethodName := ⟨RX1, "empty", "()V"⟩
abbrev cX1_becomes : ByteArray := prog_3_method_3_code
def yX1_becomes : MethodName := ⟨RX1, "becomes", "(LCosyAsylum$Common;)V"⟩
abbrev cX1_addCosy : ByteArray := prog_3_method_4_code
def yX1_addCosy : MethodName := ⟨RX1, "addCosy", "(III)I"⟩
abbrev cX1_addHunted : ByteArray := prog_3_method_5_code
def yX1_addHunted : MethodName := ⟨RX1, "addHunted", "(I)I"⟩
abbrev cX1_addSheriff : ByteArray := prog_3_method_6_code
def yX1_addSheriff : MethodName := ⟨RX1, "addSheriff", "(I)I"⟩
abbrev cX1_setFree : ByteArray := prog_3_method_7_code
def yX1_setFree : MethodName := ⟨RX1, "setFree", "(II)V"⟩
abbrev cX1_setWear : ByteArray := prog_3_method_8_code
def yX1_setWear : MethodName := ⟨RX1, "setWear", "(II)V"⟩
abbrev cX1_moveCosy : ByteArray := prog_3_method_9_code
def yX1_moveCosy : MethodName := ⟨RX1, "moveCosy", "(II)V"⟩
abbrev cX1_holds : ByteArray := prog_3_method_10_code
def yX1_holds : MethodName := ⟨RX1, "holds", "(I)I"⟩
abbrev cX1_whoIs : ByteArray := prog_3_method_11_code
def yX1_whoIs : MethodName := ⟨RX1, "whoIs", "(I)I"⟩
abbrev cX1_manyUnder : ByteArray := prog_3_method_12_code
def yX1_manyUnder : MethodName := ⟨RX1, "manyUnder", "(I)I"⟩
abbrev cX1_manyTaken : ByteArray := prog_3_method_13_code
def yX1_manyTaken : MethodName := ⟨RX1, "manyTaken", "()I"⟩
abbrev cX1_manyUnder_ : ByteArray := prog_3_method_14_code
def yX1_manyUnder_ : MethodName := ⟨RX1, "manyUnder", "()I"⟩
abbrev cX1_whoIsNear : ByteArray := prog_3_method_15_code
def yX1_whoIsNear : MethodName := ⟨RX1, "whoIsNear", "(II)I"⟩
abbrev cX1_tellOf : ByteArray := prog_3_method_16_code
def yX1_tellOf : MethodName := ⟨RX1, "tellOf", "(II)I"⟩
abbrev cX1_passHours : ByteArray := prog_3_method_17_code
def yX1_passHours : MethodName := ⟨RX1, "passHours", "(I)V"⟩
abbrev cX1_passHourWith : ByteArray := prog_3_method_18_code
def yX1_passHourWith : MethodName := ⟨RX1, "passHourWith", "(II)V"⟩
abbrev cX1_countRooms : ByteArray := prog_3_method_19_code
def yX1_countRooms : MethodName := ⟨RX1, "countRooms", "()V"⟩
abbrev cX1_fill : ByteArray := prog_3_method_20_code
def yX1_fill : MethodName := ⟨RX1, "fill", "(I)V"⟩
abbrev cX1_flee : ByteArray := prog_3_method_21_code
def yX1_flee : MethodName := ⟨RX1, "flee", "(II)V"⟩
abbrev cX1_nearestRoom : ByteArray := prog_3_method_22_code
def yX1_nearestRoom : MethodName := ⟨RX1, "nearestRoom", "(I)I"⟩
abbrev cX1_chase : ByteArray := prog_3_method_23_code
def yX1_chase : MethodName := ⟨RX1, "chase", "(I)V"⟩
abbrev cX1_nearestFree : ByteArray := prog_3_method_24_code
def yX1_nearestFree : MethodName := ⟨RX1, "nearestFree", "(I)I"⟩
abbrev cX1_wearOut : ByteArray := prog_3_method_25_code
def yX1_wearOut : MethodName := ⟨RX1, "wearOut", "(I)V"⟩
abbrev cX1_fewestHoursTo : ByteArray := prog_3_method_26_code
def yX1_fewestHoursTo : MethodName := ⟨RX1, "fewestHoursTo", "(I)I"⟩
abbrev cX1_digestOn : ByteArray := prog_3_method_27_code
def yX1_digestOn : MethodName := ⟨RX1, "digestOn", "(J)J"⟩
def RX2 : String := "CosyAsylum$Escape"
def TX2 : u_T := fun k => match k with
  | 0 => ("CosyAsylum$Escape", "stages", "[LCosyAsylum$Common;", true)
  | _ => ("CosyAsylum$Escape", "choices", "[I", true)
def tyX2 : Nat → FieldType := fun k => match k with
  | 0 => .array (.object "CosyAsylum$Common")
  | _ => .array .int
theorem nmX2 : ∀ a, a < 2 → ∀ b, b < 2 → a ≠ b → (TX2 a).2.1 ≠ (TX2 b).2.1 := by decide +kernel
theorem tyX2_ok : ∀ k, k < 2 → parseFieldDescriptor (TX2 k).2.2.1 = some (tyX2 k) := by decide +kernel
abbrev cX2_init : ByteArray := prog_4_method_1_code
def yX2_init : MethodName := ⟨RX2, "<init>", "()V"⟩
abbrev cX2_findFewestHours : ByteArray := prog_4_method_2_code
def yX2_findFewestHours : MethodName := ⟨RX2, "findFewestHours", "(LCosyAsylum$Common;I)I"⟩
abbrev cX2_isUnderBehind : ByteArray := prog_4_method_3_code
def yX2_isUnderBehind : MethodName := ⟨RX2, "isUnderBehind", "(LCosyAsylum$Escape;III)Z"⟩
abbrev cX2_stageAt : ByteArray := prog_4_method_4_code
def yX2_stageAt : MethodName := ⟨RX2, "stageAt", "(I)LCosyAsylum$Common;"⟩
def RX3 : String := "CosyAsylum$Kept"
def TX3 : u_T := fun k => match k with
  | 0 => ("CosyAsylum$Kept", "common", "LCosyAsylum$Common;", true)
  | 1 => ("CosyAsylum$Kept", "past", "LCosyAsylum$Past;", true)
  | 2 => ("CosyAsylum$Kept", "noteCosies", "[I", true)
  | 3 => ("CosyAsylum$Kept", "noteWears", "[I", true)
  | 4 => ("CosyAsylum$Kept", "noteHeld", "[I", true)
  | 5 => ("CosyAsylum$Kept", "notes", "I", false)
  | _ => ("CosyAsylum$Kept", "isKept", "Z", false)
def tyX3 : Nat → FieldType := fun k => match k with
  | 0 => .object "CosyAsylum$Common"
  | 1 => .object "CosyAsylum$Past"
  | 2 => .array .int
  | 3 => .array .int
  | 4 => .array .int
  | 5 => .int
  | _ => .boolean
theorem nmX3 : ∀ a, a < 7 → ∀ b, b < 7 → a ≠ b → (TX3 a).2.1 ≠ (TX3 b).2.1 := by decide +kernel
theorem tyX3_ok : ∀ k, k < 7 → parseFieldDescriptor (TX3 k).2.2.1 = some (tyX3 k) := by decide +kernel
abbrev cX3_init : ByteArray := prog_5_method_1_code
def yX3_init : MethodName := ⟨RX3, "<init>", "()V"⟩
abbrev cX3_empty : ByteArray := prog_5_method_2_code
def yX3_empty : MethodName := ⟨RX3, "empty", "()V"⟩
abbrev cX3_becomes : ByteArray := prog_5_method_3_code
def yX3_becomes : MethodName := ⟨RX3, "becomes", "(LCosyAsylum$Kept;)V"⟩
abbrev cX3_addNote : ByteArray := prog_5_method_4_code
def yX3_addNote : MethodName := ⟨RX3, "addNote", "(III)I"⟩
abbrev cX3_digestNotesOn : ByteArray := prog_5_method_5_code
def yX3_digestNotesOn : MethodName := ⟨RX3, "digestNotesOn", "(J)J"⟩
def RX4 : String := "CosyAsylum$Kinds"
def TX4 : u_T := fun k => match k with
  | _ => ("", "", "", false)
def tyX4 : Nat → FieldType := fun k => match k with
  | _ => .int
theorem nmX4 : ∀ a, a < 0 → ∀ b, b < 0 → a ≠ b → (TX4 a).2.1 ≠ (TX4 b).2.1 := by decide +kernel
theorem tyX4_ok : ∀ k, k < 0 → parseFieldDescriptor (TX4 k).2.2.1 = some (tyX4 k) := by decide +kernel
abbrev cX4_holds : ByteArray := prog_6_method_2_code
def yX4_holds : MethodName := ⟨RX4, "holds", "(III)I"⟩
abbrev cX4_wearsInAnHour : ByteArray := prog_6_method_3_code
def yX4_wearsInAnHour : MethodName := ⟨RX4, "wearsInAnHour", "(II)I"⟩
def RX5 : String := "CosyAsylum$Past"
def TX5 : u_T := fun k => match k with
  | 0 => ("CosyAsylum$Past", "rows", "[LCosyAsylum$Common;", true)
  | _ => ("CosyAsylum$Past", "many", "I", false)
def tyX5 : Nat → FieldType := fun k => match k with
  | 0 => .array (.object "CosyAsylum$Common")
  | _ => .int
theorem nmX5 : ∀ a, a < 2 → ∀ b, b < 2 → a ≠ b → (TX5 a).2.1 ≠ (TX5 b).2.1 := by decide +kernel
theorem tyX5_ok : ∀ k, k < 2 → parseFieldDescriptor (TX5 k).2.2.1 = some (tyX5 k) := by decide +kernel
abbrev cX5_init : ByteArray := prog_7_method_1_code
def yX5_init : MethodName := ⟨RX5, "<init>", "()V"⟩
abbrev cX5_keep : ByteArray := prog_7_method_2_code
def yX5_keep : MethodName := ⟨RX5, "keep", "(LCosyAsylum$Common;)V"⟩
abbrev cX5_giveBack : ByteArray := prog_7_method_3_code
def yX5_giveBack : MethodName := ⟨RX5, "giveBack", "(LCosyAsylum$Common;)V"⟩
abbrev cX5_becomes : ByteArray := prog_7_method_4_code
def yX5_becomes : MethodName := ⟨RX5, "becomes", "(LCosyAsylum$Past;)V"⟩
abbrev cX5_dropFirst : ByteArray := prog_7_method_5_code
def yX5_dropFirst : MethodName := ⟨RX5, "dropFirst", "()V"⟩
abbrev cX5_rowAt : ByteArray := prog_7_method_6_code
def yX5_rowAt : MethodName := ⟨RX5, "rowAt", "(I)LCosyAsylum$Common;"⟩
def RX6 : String := "CosyAsylum$Reader"
def TX6 : u_T := fun k => match k with
  | 0 => ("CosyAsylum$Reader", "draft", "LCosyAsylum$Common;", true)
  | 1 => ("CosyAsylum$Reader", "numbers", "[I", true)
  | 2 => ("CosyAsylum$Reader", "items", "I", false)
  | 3 => ("CosyAsylum$Reader", "word", "I", false)
  | _ => ("CosyAsylum$Reader", "numbersRead", "I", false)
def tyX6 : Nat → FieldType := fun k => match k with
  | 0 => .object "CosyAsylum$Common"
  | 1 => .array .int
  | 2 => .int
  | 3 => .int
  | _ => .int
theorem nmX6 : ∀ a, a < 5 → ∀ b, b < 5 → a ≠ b → (TX6 a).2.1 ≠ (TX6 b).2.1 := by decide +kernel
theorem tyX6_ok : ∀ k, k < 5 → parseFieldDescriptor (TX6 k).2.2.1 = some (tyX6 k) := by decide +kernel
abbrev cX6_init : ByteArray := prog_8_method_1_code
def yX6_init : MethodName := ⟨RX6, "<init>", "()V"⟩
abbrev cX6_findFault : ByteArray := prog_8_method_2_code
def yX6_findFault : MethodName := ⟨RX6, "findFault", "(LCosyAsylum$Text;)I"⟩
abbrev cX6_takes : ByteArray := prog_8_method_3_code
def yX6_takes : MethodName := ⟨RX6, "takes", "(LCosyAsylum$Text;)Z"⟩
abbrev cX6_takesWord : ByteArray := prog_8_method_4_code
def yX6_takesWord : MethodName := ⟨RX6, "takesWord", "(LCosyAsylum$Text;)Z"⟩
abbrev cX6_takesNumber : ByteArray := prog_8_method_5_code
def yX6_takesNumber : MethodName := ⟨RX6, "takesNumber", "(LCosyAsylum$Text;)Z"⟩
abbrev cX6_addItem : ByteArray := prog_8_method_6_code
def yX6_addItem : MethodName := ⟨RX6, "addItem", "()V"⟩
abbrev cX6_numbersOf : ByteArray := prog_8_method_7_code
def yX6_numbersOf : MethodName := ⟨RX6, "numbersOf", "(I)I"⟩
abbrev cX6_mostOf : ByteArray := prog_8_method_8_code
def yX6_mostOf : MethodName := ⟨RX6, "mostOf", "(II)I"⟩
def RX7 : String := "CosyAsylum$Text"
def TX7 : u_T := fun k => match k with
  | 0 => ("CosyAsylum$Text", "bytes", "[C", true)
  | 1 => ("CosyAsylum$Text", "length", "I", false)
  | 2 => ("CosyAsylum$Text", "start", "I", false)
  | 3 => ("CosyAsylum$Text", "end", "I", false)
  | 4 => ("CosyAsylum$Text", "sort", "I", false)
  | _ => ("CosyAsylum$Text", "value", "I", false)
def tyX7 : Nat → FieldType := fun k => match k with
  | 0 => .array .char
  | 1 => .int
  | 2 => .int
  | 3 => .int
  | 4 => .int
  | _ => .int
theorem nmX7 : ∀ a, a < 6 → ∀ b, b < 6 → a ≠ b → (TX7 a).2.1 ≠ (TX7 b).2.1 := by decide +kernel
theorem tyX7_ok : ∀ k, k < 6 → parseFieldDescriptor (TX7 k).2.2.1 = some (tyX7 k) := by decide +kernel
abbrev cX7_init : ByteArray := prog_9_method_1_code
def yX7_init : MethodName := ⟨RX7, "<init>", "()V"⟩
abbrev cX7_add : ByteArray := prog_9_method_2_code
def yX7_add : MethodName := ⟨RX7, "add", "(I)V"⟩
abbrev cX7_rewind : ByteArray := prog_9_method_3_code
def yX7_rewind : MethodName := ⟨RX7, "rewind", "()V"⟩
abbrev cX7_goOn : ByteArray := prog_9_method_4_code
def yX7_goOn : MethodName := ⟨RX7, "goOn", "()V"⟩
abbrev cX7_takeNumber : ByteArray := prog_9_method_5_code
def yX7_takeNumber : MethodName := ⟨RX7, "takeNumber", "()V"⟩
abbrev cX7_takeWord : ByteArray := prog_9_method_6_code
def yX7_takeWord : MethodName := ⟨RX7, "takeWord", "()V"⟩
abbrev cX7_spells : ByteArray := prog_9_method_7_code
def yX7_spells : MethodName := ⟨RX7, "spells", "(Ljava/lang/String;)Z"⟩
abbrev cX7_byteAt : ByteArray := prog_9_method_8_code
def yX7_byteAt : MethodName := ⟨RX7, "byteAt", "(I)I"⟩
abbrev cX7_isFigure : ByteArray := prog_9_method_9_code
def yX7_isFigure : MethodName := ⟨RX7, "isFigure", "(I)Z"⟩
abbrev cX7_isLetter : ByteArray := prog_9_method_10_code
def yX7_isLetter : MethodName := ⟨RX7, "isLetter", "(I)Z"⟩
def RX8 : String := "CosyAsylum"
def TX8 : u_T := fun k => match k with
  | 0 => ("CosyAsylum", "now", "LCosyAsylum$Kept;", true)
  | 1 => ("CosyAsylum", "firstImage", "LCosyAsylum$Kept;", true)
  | 2 => ("CosyAsylum", "secondImage", "LCosyAsylum$Kept;", true)
  | 3 => ("CosyAsylum", "text", "LCosyAsylum$Text;", true)
  | 4 => ("CosyAsylum", "trial", "LCosyAsylum$Common;", true)
  | 5 => ("CosyAsylum", "reader", "LCosyAsylum$Reader;", true)
  | 6 => ("CosyAsylum", "escape", "LCosyAsylum$Escape;", true)
  | 7 => ("CosyAsylum", "held", "[I", true)
  | 8 => ("CosyAsylum", "above", "J", false)
  | 9 => ("CosyAsylum", "below", "J", false)
  | 10 => ("CosyAsylum", "bads", "I", false)
  | 11 => ("CosyAsylum", "noes", "I", false)
  | _ => ("CosyAsylum", "fulls", "I", false)
def tyX8 : Nat → FieldType := fun k => match k with
  | 0 => .object "CosyAsylum$Kept"
  | 1 => .object "CosyAsylum$Kept"
  | 2 => .object "CosyAsylum$Kept"
  | 3 => .object "CosyAsylum$Text"
  | 4 => .object "CosyAsylum$Common"
  | 5 => .object "CosyAsylum$Reader"
  | 6 => .object "CosyAsylum$Escape"
  | 7 => .array .int
  | 8 => .long
  | 9 => .long
  | 10 => .int
  | 11 => .int
  | _ => .int
theorem nmX8 : ∀ a, a < 13 → ∀ b, b < 13 → a ≠ b → (TX8 a).2.1 ≠ (TX8 b).2.1 := by decide +kernel
theorem tyX8_ok : ∀ k, k < 13 → parseFieldDescriptor (TX8 k).2.2.1 = some (tyX8 k) := by decide +kernel
abbrev cX8_init : ByteArray := prog_1_method_1_code
def yX8_init : MethodName := ⟨RX8, "<init>", "()V"⟩
abbrev cX8_common : ByteArray := prog_1_method_2_code
def yX8_common : MethodName := ⟨RX8, "common", "()I"⟩
abbrev cX8_cosy : ByteArray := prog_1_method_3_code
def yX8_cosy : MethodName := ⟨RX8, "cosy", "(III)I"⟩
abbrev cX8_hunted : ByteArray := prog_1_method_4_code
def yX8_hunted : MethodName := ⟨RX8, "hunted", "(I)I"⟩
abbrev cX8_sheriff : ByteArray := prog_1_method_5_code
def yX8_sheriff : MethodName := ⟨RX8, "sheriff", "(I)I"⟩
abbrev cX8_type : ByteArray := prog_1_method_6_code
def yX8_type : MethodName := ⟨RX8, "type", "(I)I"⟩
abbrev cX8_clear : ByteArray := prog_1_method_7_code
def yX8_clear : MethodName := ⟨RX8, "clear", "()I"⟩
abbrev cX8_read : ByteArray := prog_1_method_8_code
def yX8_read : MethodName := ⟨RX8, "read", "()I"⟩
abbrev cX8_hour : ByteArray := prog_1_method_9_code
def yX8_hour : MethodName := ⟨RX8, "hour", "(I)I"⟩
abbrev cX8_darn : ByteArray := prog_1_method_10_code
def yX8_darn : MethodName := ⟨RX8, "darn", "(II)I"⟩
abbrev cX8_carry : ByteArray := prog_1_method_11_code
def yX8_carry : MethodName := ⟨RX8, "carry", "(II)I"⟩
abbrev cX8_undo : ByteArray := prog_1_method_12_code
def yX8_undo : MethodName := ⟨RX8, "undo", "()I"⟩
abbrev cX8_of : ByteArray := prog_1_method_13_code
def yX8_of : MethodName := ⟨RX8, "of", "(II)I"⟩
abbrev cX8_about : ByteArray := prog_1_method_14_code
def yX8_about : MethodName := ⟨RX8, "about", "(II)I"⟩
abbrev cX8_where : ByteArray := prog_1_method_15_code
def yX8_where : MethodName := ⟨RX8, "where", "(I)I"⟩
abbrev cX8_then : ByteArray := prog_1_method_16_code
def yX8_then : MethodName := ⟨RX8, "then", "(III)I"⟩
abbrev cX8_fate : ByteArray := prog_1_method_17_code
def yX8_fate : MethodName := ⟨RX8, "fate", "(II)I"⟩
abbrev cX8_when : ByteArray := prog_1_method_18_code
def yX8_when : MethodName := ⟨RX8, "when", "(I)I"⟩
abbrev cX8_place : ByteArray := prog_1_method_19_code
def yX8_place : MethodName := ⟨RX8, "place", "(II)I"⟩
abbrev cX8_run : ByteArray := prog_1_method_20_code
def yX8_run : MethodName := ⟨RX8, "run", "(II)I"⟩
abbrev cX8_stitches : ByteArray := prog_1_method_21_code
def yX8_stitches : MethodName := ⟨RX8, "stitches", "(II)I"⟩
abbrev cX8_note : ByteArray := prog_1_method_22_code
def yX8_note : MethodName := ⟨RX8, "note", "(III)I"⟩
abbrev cX8_forget : ByteArray := prog_1_method_23_code
def yX8_forget : MethodName := ⟨RX8, "forget", "()I"⟩
abbrev cX8_is : ByteArray := prog_1_method_24_code
def yX8_is : MethodName := ⟨RX8, "is", "(I)I"⟩
abbrev cX8_feel : ByteArray := prog_1_method_25_code
def yX8_feel : MethodName := ⟨RX8, "feel", "(I)I"⟩
abbrev cX8_inside : ByteArray := prog_1_method_26_code
def yX8_inside : MethodName := ⟨RX8, "inside", "(III)I"⟩
abbrev cX8_two : ByteArray := prog_1_method_27_code
def yX8_two : MethodName := ⟨RX8, "two", "(III)I"⟩
abbrev cX8_rain : ByteArray := prog_1_method_28_code
def yX8_rain : MethodName := ⟨RX8, "rain", "(I)I"⟩
abbrev cX8_years : ByteArray := prog_1_method_29_code
def yX8_years : MethodName := ⟨RX8, "years", "(II)I"⟩
abbrev cX8_part : ByteArray := prog_1_method_30_code
def yX8_part : MethodName := ⟨RX8, "part", "(I)J"⟩
abbrev cX8_image : ByteArray := prog_1_method_31_code
def yX8_image : MethodName := ⟨RX8, "image", "(I)I"⟩
abbrev cX8_from : ByteArray := prog_1_method_32_code
def yX8_from : MethodName := ⟨RX8, "from", "(I)I"⟩
abbrev cX8_status : ByteArray := prog_1_method_33_code
def yX8_status : MethodName := ⟨RX8, "status", "(I)I"⟩
abbrev cX8_count : ByteArray := prog_1_method_34_code
def yX8_count : MethodName := ⟨RX8, "count", "(I)I"⟩
abbrev cX8_digest : ByteArray := prog_1_method_35_code
def yX8_digest : MethodName := ⟨RX8, "digest", "()J"⟩
abbrev cX8_isIn : ByteArray := prog_1_method_36_code
def yX8_isIn : MethodName := ⟨RX8, "isIn", "(III)Z"⟩
abbrev cX8_isCell : ByteArray := prog_1_method_37_code
def yX8_isCell : MethodName := ⟨RX8, "isCell", "(I)Z"⟩
abbrev cX8_isCosy : ByteArray := prog_1_method_38_code
def yX8_isCosy : MethodName := ⟨RX8, "isCosy", "(I)Z"⟩
abbrev cX8_isOneHunted : ByteArray := prog_1_method_39_code
def yX8_isOneHunted : MethodName := ⟨RX8, "isOneHunted", "(I)Z"⟩
abbrev cX8_bad : ByteArray := prog_1_method_40_code
def yX8_bad : MethodName := ⟨RX8, "bad", "(I)I"⟩
abbrev cX8_no : ByteArray := prog_1_method_41_code
def yX8_no : MethodName := ⟨RX8, "no", "()I"⟩
abbrev cX8_full : ByteArray := prog_1_method_42_code
def yX8_full : MethodName := ⟨RX8, "full", "()I"⟩
abbrev cX8_lookAhead : ByteArray := prog_1_method_43_code
def yX8_lookAhead : MethodName := ⟨RX8, "lookAhead", "(I)V"⟩
abbrev cX8_imageAt : ByteArray := prog_1_method_44_code
def yX8_imageAt : MethodName := ⟨RX8, "imageAt", "(I)LCosyAsylum$Kept;"⟩
abbrev cX8_countOf : ByteArray := prog_1_method_45_code
def yX8_countOf : MethodName := ⟨RX8, "countOf", "(I)I"⟩
abbrev cX8_holdsAs : ByteArray := prog_1_method_46_code
def yX8_holdsAs : MethodName := ⟨RX8, "holdsAs", "(III)I"⟩
abbrev cX8_fittingKinds : ByteArray := prog_1_method_47_code
def yX8_fittingKinds : MethodName := ⟨RX8, "fittingKinds", "(I)I"⟩
abbrev cX8_fitsNotes : ByteArray := prog_1_method_48_code
def yX8_fitsNotes : MethodName := ⟨RX8, "fitsNotes", "(II)Z"⟩
abbrev cX8_mostAlike : ByteArray := prog_1_method_49_code
def yX8_mostAlike : MethodName := ⟨RX8, "mostAlike", "(III)I"⟩
abbrev cX8_rests : ByteArray := prog_1_method_50_code
def yX8_rests : MethodName := ⟨RX8, "rests", "(IIII)Z"⟩
abbrev cX8_getsBy : ByteArray := prog_1_method_51_code
def yX8_getsBy : MethodName := ⟨RX8, "getsBy", "(IIII)I"⟩
def RX9 : String := "CosyAsylumModel"
def TX9 : u_T := fun k => match k with
  | 0 => ("CosyAsylumModel", "now", "[I", true)
  | 1 => ("CosyAsylumModel", "tried", "[I", true)
  | 2 => ("CosyAsylumModel", "read", "[I", true)
  | 3 => ("CosyAsylumModel", "image", "[I", true)
  | 4 => ("CosyAsylumModel", "isKept", "[Z", true)
  | 5 => ("CosyAsylumModel", "refused", "[I", true)
  | 6 => ("CosyAsylumModel", "upper", "J", false)
  | 7 => ("CosyAsylumModel", "lower", "J", false)
  | 8 => ("CosyAsylumModel", "letters", "I", false)
  | 9 => ("CosyAsylumModel", "text", "[I", true)
  | 10 => ("CosyAsylumModel", "position", "I", false)
  | 11 => ("CosyAsylumModel", "tokenAt", "I", false)
  | 12 => ("CosyAsylumModel", "token", "I", false)
  | 13 => ("CosyAsylumModel", "number", "I", false)
  | 14 => ("CosyAsylumModel", "word", "J", false)
  | 15 => ("CosyAsylumModel", "items", "I", false)
  | _ => ("CosyAsylumModel", "choice", "[I", true)
def tyX9 : Nat → FieldType := fun k => match k with
  | 0 => .array .int
  | 1 => .array .int
  | 2 => .array .int
  | 3 => .array .int
  | 4 => .array .boolean
  | 5 => .array .int
  | 6 => .long
  | 7 => .long
  | 8 => .int
  | 9 => .array .int
  | 10 => .int
  | 11 => .int
  | 12 => .int
  | 13 => .int
  | 14 => .long
  | 15 => .int
  | _ => .array .int
theorem nmX9 : ∀ a, a < 17 → ∀ b, b < 17 → a ≠ b → (TX9 a).2.1 ≠ (TX9 b).2.1 := by decide +kernel
theorem tyX9_ok : ∀ k, k < 17 → parseFieldDescriptor (TX9 k).2.2.1 = some (tyX9 k) := by decide +kernel
abbrev cX9_init : ByteArray := prog_11_method_1_code
def yX9_init : MethodName := ⟨RX9, "<init>", "()V"⟩
abbrev cX9_in : ByteArray := prog_11_method_2_code
def yX9_in : MethodName := ⟨RX9, "in", "(III)Z"⟩
abbrev cX9_bits : ByteArray := prog_11_method_3_code
def yX9_bits : MethodName := ⟨RX9, "bits", "(I)I"⟩
abbrev cX9_badBy : ByteArray := prog_11_method_4_code
def yX9_badBy : MethodName := ⟨RX9, "badBy", "(I)I"⟩
abbrev cX9_bad : ByteArray := prog_11_method_5_code
def yX9_bad : MethodName := ⟨RX9, "bad", "()I"⟩
abbrev cX9_no : ByteArray := prog_11_method_6_code
def yX9_no : MethodName := ⟨RX9, "no", "()I"⟩
abbrev cX9_full : ByteArray := prog_11_method_7_code
def yX9_full : MethodName := ⟨RX9, "full", "()I"⟩
abbrev cX9_isCosy : ByteArray := prog_11_method_8_code
def yX9_isCosy : MethodName := ⟨RX9, "isCosy", "(I)Z"⟩
abbrev cX9_isHunted : ByteArray := prog_11_method_9_code
def yX9_isHunted : MethodName := ⟨RX9, "isHunted", "(I)Z"⟩
abbrev cX9_isCell : ByteArray := prog_11_method_10_code
def yX9_isCell : MethodName := ⟨RX9, "isCell", "(I)Z"⟩
abbrev cX9_bring : ByteArray := prog_11_method_11_code
def yX9_bring : MethodName := ⟨RX9, "bring", "([II[III)V"⟩
abbrev cX9_begin : ByteArray := prog_11_method_12_code
def yX9_begin : MethodName := ⟨RX9, "begin", "([I)V"⟩
abbrev cX9_common : ByteArray := prog_11_method_13_code
def yX9_common : MethodName := ⟨RX9, "common", "()I"⟩
abbrev cX9_addCosy : ByteArray := prog_11_method_14_code
def yX9_addCosy : MethodName := ⟨RX9, "addCosy", "([IIII)I"⟩
abbrev cX9_cosy : ByteArray := prog_11_method_15_code
def yX9_cosy : MethodName := ⟨RX9, "cosy", "(III)I"⟩
abbrev cX9_addHunted : ByteArray := prog_11_method_16_code
def yX9_addHunted : MethodName := ⟨RX9, "addHunted", "([II)I"⟩
abbrev cX9_hunted : ByteArray := prog_11_method_17_code
def yX9_hunted : MethodName := ⟨RX9, "hunted", "(I)I"⟩
abbrev cX9_addSheriff : ByteArray := prog_11_method_18_code
def yX9_addSheriff : MethodName := ⟨RX9, "addSheriff", "([II)I"⟩
abbrev cX9_sheriff : ByteArray := prog_11_method_19_code
def yX9_sheriff : MethodName := ⟨RX9, "sheriff", "(I)I"⟩
abbrev cX9_type : ByteArray := prog_11_method_20_code
def yX9_type : MethodName := ⟨RX9, "type", "(I)I"⟩
abbrev cX9_clear : ByteArray := prog_11_method_21_code
def yX9_clear : MethodName := ⟨RX9, "clear", "()I"⟩
abbrev cX9_kindAt : ByteArray := prog_11_method_22_code
def yX9_kindAt : MethodName := ⟨RX9, "kindAt", "(I)I"⟩
abbrev cX9_nextToken : ByteArray := prog_11_method_23_code
def yX9_nextToken : MethodName := ⟨RX9, "nextToken", "()V"⟩
abbrev cX9_isNumber : ByteArray := prog_11_method_24_code
def yX9_isNumber : MethodName := ⟨RX9, "isNumber", "(II)Z"⟩
abbrev cX9_isCosyItem : ByteArray := prog_11_method_25_code
def yX9_isCosyItem : MethodName := ⟨RX9, "isCosyItem", "()Z"⟩
abbrev cX9_isHuntedItem : ByteArray := prog_11_method_26_code
def yX9_isHuntedItem : MethodName := ⟨RX9, "isHuntedItem", "()Z"⟩
abbrev cX9_isSheriffItem : ByteArray := prog_11_method_27_code
def yX9_isSheriffItem : MethodName := ⟨RX9, "isSheriffItem", "()Z"⟩
abbrev cX9_isWearItem : ByteArray := prog_11_method_28_code
def yX9_isWearItem : MethodName := ⟨RX9, "isWearItem", "()Z"⟩
abbrev cX9_isItem : ByteArray := prog_11_method_29_code
def yX9_isItem : MethodName := ⟨RX9, "isItem", "()Z"⟩
abbrev cX9_isRead : ByteArray := prog_11_method_30_code
def yX9_isRead : MethodName := ⟨RX9, "isRead", "()Z"⟩
abbrev cX9_read : ByteArray := prog_11_method_31_code
def yX9_read : MethodName := ⟨RX9, "read", "()I"⟩
abbrev cX9_holdsBy : ByteArray := prog_11_method_32_code
def yX9_holdsBy : MethodName := ⟨RX9, "holdsBy", "(III)I"⟩
abbrev cX9_wearsBy : ByteArray := prog_11_method_33_code
def yX9_wearsBy : MethodName := ⟨RX9, "wearsBy", "(II)I"⟩
abbrev cX9_holds : ByteArray := prog_11_method_34_code
def yX9_holds : MethodName := ⟨RX9, "holds", "([II)I"⟩
abbrev cX9_underIn : ByteArray := prog_11_method_35_code
def yX9_underIn : MethodName := ⟨RX9, "underIn", "([II)I"⟩
abbrev cX9_away : ByteArray := prog_11_method_36_code
def yX9_away : MethodName := ⟨RX9, "away", "(I)I"⟩
abbrev cX9_far : ByteArray := prog_11_method_37_code
def yX9_far : MethodName := ⟨RX9, "far", "(II)I"⟩
abbrev cX9_step : ByteArray := prog_11_method_38_code
def yX9_step : MethodName := ⟨RX9, "step", "(II)I"⟩
abbrev cX9_goal : ByteArray := prog_11_method_39_code
def yX9_goal : MethodName := ⟨RX9, "goal", "([II)I"⟩
abbrev cX9_goes : ByteArray := prog_11_method_40_code
def yX9_goes : MethodName := ⟨RX9, "goes", "([II)V"⟩
abbrev cX9_hunts : ByteArray := prog_11_method_41_code
def yX9_hunts : MethodName := ⟨RX9, "hunts", "([II)V"⟩
abbrev cX9_wears : ByteArray := prog_11_method_42_code
def yX9_wears : MethodName := ⟨RX9, "wears", "([II)V"⟩
abbrev cX9_endHour : ByteArray := prog_11_method_43_code
def yX9_endHour : MethodName := ⟨RX9, "endHour", "([I)V"⟩
abbrev cX9_goBy : ByteArray := prog_11_method_44_code
def yX9_goBy : MethodName := ⟨RX9, "goBy", "([I)V"⟩
abbrev cX9_takenIn : ByteArray := prog_11_method_45_code
def yX9_takenIn : MethodName := ⟨RX9, "takenIn", "([I)I"⟩
abbrev cX9_underAll : ByteArray := prog_11_method_46_code
def yX9_underAll : MethodName := ⟨RX9, "underAll", "([I)I"⟩
abbrev cX9_keepBack : ByteArray := prog_11_method_47_code
def yX9_keepBack : MethodName := ⟨RX9, "keepBack", "()V"⟩
abbrev cX9_hour : ByteArray := prog_11_method_48_code
def yX9_hour : MethodName := ⟨RX9, "hour", "(I)I"⟩
abbrev cX9_darn : ByteArray := prog_11_method_49_code
def yX9_darn : MethodName := ⟨RX9, "darn", "(II)I"⟩
abbrev cX9_bringTo : ByteArray := prog_11_method_50_code
def yX9_bringTo : MethodName := ⟨RX9, "bringTo", "([III)V"⟩
abbrev cX9_carry : ByteArray := prog_11_method_51_code
def yX9_carry : MethodName := ⟨RX9, "carry", "(II)I"⟩
abbrev cX9_undo : ByteArray := prog_11_method_52_code
def yX9_undo : MethodName := ⟨RX9, "undo", "()I"⟩
abbrev cX9_of : ByteArray := prog_11_method_53_code
def yX9_of : MethodName := ⟨RX9, "of", "(II)I"⟩
abbrev cX9_aboutIn : ByteArray := prog_11_method_54_code
def yX9_aboutIn : MethodName := ⟨RX9, "aboutIn", "([III)I"⟩
abbrev cX9_about : ByteArray := prog_11_method_55_code
def yX9_about : MethodName := ⟨RX9, "about", "(II)I"⟩
abbrev cX9_where : ByteArray := prog_11_method_56_code
def yX9_where : MethodName := ⟨RX9, "where", "(I)I"⟩
abbrev cX9_copyNow : ByteArray := prog_11_method_57_code
def yX9_copyNow : MethodName := ⟨RX9, "copyNow", "()V"⟩
abbrev cX9_goOn : ByteArray := prog_11_method_58_code
def yX9_goOn : MethodName := ⟨RX9, "goOn", "(I)V"⟩
abbrev cX9_then : ByteArray := prog_11_method_59_code
def yX9_then : MethodName := ⟨RX9, "then", "(III)I"⟩
abbrev cX9_fate : ByteArray := prog_11_method_60_code
def yX9_fate : MethodName := ⟨RX9, "fate", "(II)I"⟩
abbrev cX9_when : ByteArray := prog_11_method_61_code
def yX9_when : MethodName := ⟨RX9, "when", "(I)I"⟩
abbrev cX9_place : ByteArray := prog_11_method_62_code
def yX9_place : MethodName := ⟨RX9, "place", "(II)I"⟩
abbrev cX9_chooses : ByteArray := prog_11_method_63_code
def yX9_chooses : MethodName := ⟨RX9, "chooses", "([III)Z"⟩
abbrev cX9_goesBy : ByteArray := prog_11_method_64_code
def yX9_goesBy : MethodName := ⟨RX9, "goesBy", "(II)Z"⟩
abbrev cX9_isUnderBy : ByteArray := prog_11_method_65_code
def yX9_isUnderBy : MethodName := ⟨RX9, "isUnderBy", "(II)Z"⟩
abbrev cX9_run : ByteArray := prog_11_method_66_code
def yX9_run : MethodName := ⟨RX9, "run", "(II)I"⟩
abbrev cX9_stitches : ByteArray := prog_11_method_67_code
def yX9_stitches : MethodName := ⟨RX9, "stitches", "(II)I"⟩
abbrev cX9_note : ByteArray := prog_11_method_68_code
def yX9_note : MethodName := ⟨RX9, "note", "(III)I"⟩
abbrev cX9_forget : ByteArray := prog_11_method_69_code
def yX9_forget : MethodName := ⟨RX9, "forget", "()I"⟩
abbrev cX9_kindsOf : ByteArray := prog_11_method_70_code
def yX9_kindsOf : MethodName := ⟨RX9, "kindsOf", "(I)I"⟩
abbrev cX9_is : ByteArray := prog_11_method_71_code
def yX9_is : MethodName := ⟨RX9, "is", "(I)I"⟩
abbrev cX9_feel : ByteArray := prog_11_method_72_code
def yX9_feel : MethodName := ⟨RX9, "feel", "(I)I"⟩
abbrev cX9_inside : ByteArray := prog_11_method_73_code
def yX9_inside : MethodName := ⟨RX9, "inside", "(III)I"⟩
abbrev cX9_gets : ByteArray := prog_11_method_74_code
def yX9_gets : MethodName := ⟨RX9, "gets", "(IIII)I"⟩
abbrev cX9_rests : ByteArray := prog_11_method_75_code
def yX9_rests : MethodName := ⟨RX9, "rests", "(IIII)Z"⟩
abbrev cX9_two : ByteArray := prog_11_method_76_code
def yX9_two : MethodName := ⟨RX9, "two", "(III)I"⟩
abbrev cX9_rain : ByteArray := prog_11_method_77_code
def yX9_rain : MethodName := ⟨RX9, "rain", "(I)I"⟩
abbrev cX9_years : ByteArray := prog_11_method_78_code
def yX9_years : MethodName := ⟨RX9, "years", "(II)I"⟩
abbrev cX9_part : ByteArray := prog_11_method_79_code
def yX9_part : MethodName := ⟨RX9, "part", "(I)J"⟩
abbrev cX9_image : ByteArray := prog_11_method_80_code
def yX9_image : MethodName := ⟨RX9, "image", "(I)I"⟩
abbrev cX9_from : ByteArray := prog_11_method_81_code
def yX9_from : MethodName := ⟨RX9, "from", "(I)I"⟩
abbrev cX9_status : ByteArray := prog_11_method_82_code
def yX9_status : MethodName := ⟨RX9, "status", "(I)I"⟩
abbrev cX9_counted : ByteArray := prog_11_method_83_code
def yX9_counted : MethodName := ⟨RX9, "counted", "(I)I"⟩
abbrev cX9_count : ByteArray := prog_11_method_84_code
def yX9_count : MethodName := ⟨RX9, "count", "(I)I"⟩
abbrev cX9_digest : ByteArray := prog_11_method_85_code
def yX9_digest : MethodName := ⟨RX9, "digest", "()J"⟩
def RJ6 : String := "java/lang/Integer"
def TJ6 : u_T := fun k => match k with
  | _ => ("", "", "", false)
def tyJ6 : Nat → FieldType := fun k => match k with
  | _ => .int
theorem nmJ6 : ∀ a, a < 0 → ∀ b, b < 0 → a ≠ b → (TJ6 a).2.1 ≠ (TJ6 b).2.1 := by decide +kernel
theorem tyJ6_ok : ∀ k, k < 0 → parseFieldDescriptor (TJ6 k).2.2.1 = some (tyJ6 k) := by decide +kernel
abbrev cJ6_bitCount_0f7a4 : ByteArray := prog_12_method_49_code
def yJ6_bitCount_0f7a4 : MethodName := ⟨RJ6, "bitCount", "(I)I"⟩
def RJ9 : String := "java/lang/Math"
def TJ9 : u_T := fun k => match k with
  | _ => ("", "", "", false)
def tyJ9 : Nat → FieldType := fun k => match k with
  | _ => .int
theorem nmJ9 : ∀ a, a < 0 → ∀ b, b < 0 → a ≠ b → (TJ9 a).2.1 ≠ (TJ9 b).2.1 := by decide +kernel
theorem tyJ9_ok : ∀ k, k < 0 → parseFieldDescriptor (TJ9 k).2.2.1 = some (tyJ9 k) := by decide +kernel
abbrev cJ9_abs_0f7a4 : ByteArray := prog_13_method_59_code
def yJ9_abs_0f7a4 : MethodName := ⟨RJ9, "abs", "(I)I"⟩
abbrev cJ9_max_7cf53 : ByteArray := prog_13_method_65_code
def yJ9_max_7cf53 : MethodName := ⟨RJ9, "max", "(II)I"⟩
abbrev cJ9_min_7cf53 : ByteArray := prog_13_method_69_code
def yJ9_min_7cf53 : MethodName := ⟨RJ9, "min", "(II)I"⟩
def RJ0 : String := "java/lang/String"
def TJ0 : u_T := fun k => match k with
  | _ => ("", "", "", false)
def tyJ0 : Nat → FieldType := fun k => match k with
  | _ => .int
theorem nmJ0 : ∀ a, a < 0 → ∀ b, b < 0 → a ≠ b → (TJ0 a).2.1 ≠ (TJ0 b).2.1 := by decide +kernel
theorem tyJ0_ok : ∀ k, k < 0 → parseFieldDescriptor (TJ0 k).2.2.1 = some (tyJ0 k) := by decide +kernel
abbrev cJ0_length_8abf5 : ByteArray := prog_14_method_54_code
def yJ0_length_8abf5 : MethodName := ⟨RJ0, "length", "()I"⟩
abbrev cJ0_charAt_5068e : ByteArray := prog_14_method_56_code
def yJ0_charAt_5068e : MethodName := ⟨RJ0, "charAt", "(I)C"⟩
abbrev cJ0_coder_7d493 : ByteArray := prog_14_method_152_code
def yJ0_coder_7d493 : MethodName := ⟨RJ0, "coder", "()B"⟩
abbrev cJ0_isLatin1_aae02 : ByteArray := prog_14_method_154_code
def yJ0_isLatin1_aae02 : MethodName := ⟨RJ0, "isLatin1", "()Z"⟩
abbrev cJ0_checkIndex_df160 : ByteArray := prog_14_method_155_code
def yJ0_checkIndex_df160 : MethodName := ⟨RJ0, "checkIndex", "(II)V"⟩
def RJ1 : String := "java/lang/StringLatin1"
def TJ1 : u_T := fun k => match k with
  | _ => ("", "", "", false)
def tyJ1 : Nat → FieldType := fun k => match k with
  | _ => .int
theorem nmJ1 : ∀ a, a < 0 → ∀ b, b < 0 → a ≠ b → (TJ1 a).2.1 ≠ (TJ1 b).2.1 := by decide +kernel
theorem tyJ1_ok : ∀ k, k < 0 → parseFieldDescriptor (TJ1 k).2.2.1 = some (tyJ1 k) := by decide +kernel
abbrev cJ1_charAt_3b067 : ByteArray := prog_15_method_2_code
def yJ1_charAt_3b067 : MethodName := ⟨RJ1, "charAt", "([BI)C"⟩
def RJ2 : String := "java/lang/StringUTF16"
def TJ2 : u_T := fun k => match k with
  | _ => ("", "", "", false)
def tyJ2 : Nat → FieldType := fun k => match k with
  | _ => .int
theorem nmJ2 : ∀ a, a < 0 → ∀ b, b < 0 → a ≠ b → (TJ2 a).2.1 ≠ (TJ2 b).2.1 := by decide +kernel
theorem tyJ2_ok : ∀ k, k < 0 → parseFieldDescriptor (TJ2 k).2.2.1 = some (tyJ2 k) := by decide +kernel
abbrev cJ2_getChar_3b067 : ByteArray := prog_16_method_5_code
def yJ2_getChar_3b067 : MethodName := ⟨RJ2, "getChar", "([BI)C"⟩
abbrev cJ2_length_9d52b : ByteArray := prog_16_method_6_code
def yJ2_length_9d52b : MethodName := ⟨RJ2, "length", "([B)I"⟩
abbrev cJ2_charAt_3b067 : ByteArray := prog_16_method_83_code
def yJ2_charAt_3b067 : MethodName := ⟨RJ2, "charAt", "([BI)C"⟩
abbrev cJ2_checkIndex_2214a : ByteArray := prog_16_method_91_code
def yJ2_checkIndex_2214a : MethodName := ⟨RJ2, "checkIndex", "(I[B)V"⟩
def RJ10 : String := "java/lang/System"
def TJ10 : u_T := fun k => match k with
  | _ => ("", "", "", false)
def tyJ10 : Nat → FieldType := fun k => match k with
  | _ => .int
theorem nmJ10 : ∀ a, a < 0 → ∀ b, b < 0 → a ≠ b → (TJ10 a).2.1 ≠ (TJ10 b).2.1 := by decide +kernel
theorem tyJ10_ok : ∀ k, k < 0 → parseFieldDescriptor (TJ10 k).2.2.1 = some (tyJ10 k) := by decide +kernel
def RJ3 : String := "jdk/internal/util/Preconditions"
def TJ3 : u_T := fun k => match k with
  | _ => ("", "", "", false)
def tyJ3 : Nat → FieldType := fun k => match k with
  | _ => .int
theorem nmJ3 : ∀ a, a < 0 → ∀ b, b < 0 → a ≠ b → (TJ3 a).2.1 ≠ (TJ3 b).2.1 := by decide +kernel
theorem tyJ3_ok : ∀ k, k < 0 → parseFieldDescriptor (TJ3 k).2.2.1 = some (tyJ3 k) := by decide +kernel
abbrev cJ3_checkIndex_8e157 : ByteArray := prog_18_method_11_code
def yJ3_checkIndex_8e157 : MethodName := ⟨RJ3, "checkIndex", "(IILjava/util/function/BiFunction;)I"⟩
def RL : String := "CosyAsylumLaw"
abbrev cL_law : ByteArray := code
def yL_law : MethodName := ⟨RL, "law", "([I)Z"⟩
abbrev MM : Type := MethodName × ByteArray × Nat × Option FieldType
abbrev mX0_far : MM := (yX0_far, cX0_far, 2, (some .int))
abbrev mX0_step : MM := (yX0_step, cX0_step, 4, (some .int))
abbrev mX0_beside : MM := (yX0_beside, cX0_beside, 4, (some .int))
abbrev mX1_init : MM := (yX1_init, cX1_init, 1, none)
abbrev mX1_empty : MM := (yX1_empty, cX1_empty, 1, none)
abbrev mX1_becomes : MM := (yX1_becomes, cX1_becomes, 2, none)
abbrev mX1_addCosy : MM := (yX1_addCosy, cX1_addCosy, 4, (some .int))
abbrev mX1_addHunted : MM := (yX1_addHunted, cX1_addHunted, 2, (some .int))
abbrev mX1_addSheriff : MM := (yX1_addSheriff, cX1_addSheriff, 2, (some .int))
abbrev mX1_setFree : MM := (yX1_setFree, cX1_setFree, 3, none)
abbrev mX1_setWear : MM := (yX1_setWear, cX1_setWear, 3, none)
abbrev mX1_moveCosy : MM := (yX1_moveCosy, cX1_moveCosy, 4, none)
abbrev mX1_holds : MM := (yX1_holds, cX1_holds, 2, (some .int))
abbrev mX1_whoIs : MM := (yX1_whoIs, cX1_whoIs, 4, (some .int))
abbrev mX1_manyUnder : MM := (yX1_manyUnder, cX1_manyUnder, 2, (some .int))
abbrev mX1_manyTaken : MM := (yX1_manyTaken, cX1_manyTaken, 1, (some .int))
abbrev mX1_manyUnder_ : MM := (yX1_manyUnder_, cX1_manyUnder_, 1, (some .int))
abbrev mX1_whoIsNear : MM := (yX1_whoIsNear, cX1_whoIsNear, 5, (some .int))
abbrev mX1_tellOf : MM := (yX1_tellOf, cX1_tellOf, 3, (some .int))
abbrev mX1_passHours : MM := (yX1_passHours, cX1_passHours, 3, none)
abbrev mX1_passHourWith : MM := (yX1_passHourWith, cX1_passHourWith, 4, none)
abbrev mX1_countRooms : MM := (yX1_countRooms, cX1_countRooms, 2, none)
abbrev mX1_fill : MM := (yX1_fill, cX1_fill, 2, none)
abbrev mX1_flee : MM := (yX1_flee, cX1_flee, 5, none)
abbrev mX1_nearestRoom : MM := (yX1_nearestRoom, cX1_nearestRoom, 6, (some .int))
abbrev mX1_chase : MM := (yX1_chase, cX1_chase, 5, none)
abbrev mX1_nearestFree : MM := (yX1_nearestFree, cX1_nearestFree, 6, (some .int))
abbrev mX1_wearOut : MM := (yX1_wearOut, cX1_wearOut, 5, none)
abbrev mX1_fewestHoursTo : MM := (yX1_fewestHoursTo, cX1_fewestHoursTo, 4, (some .int))
abbrev mX1_digestOn : MM := (yX1_digestOn, cX1_digestOn, 5, (some .long))
abbrev mX2_init : MM := (yX2_init, cX2_init, 2, none)
abbrev mX2_findFewestHours : MM := (yX2_findFewestHours, cX2_findFewestHours, 5, (some .int))
abbrev mX2_isUnderBehind : MM := (yX2_isUnderBehind, cX2_isUnderBehind, 7, (some .boolean))
abbrev mX2_stageAt : MM := (yX2_stageAt, cX2_stageAt, 2, (some (.object "CosyAsylum$Common")))
abbrev mX3_init : MM := (yX3_init, cX3_init, 1, none)
abbrev mX3_empty : MM := (yX3_empty, cX3_empty, 1, none)
abbrev mX3_becomes : MM := (yX3_becomes, cX3_becomes, 2, none)
abbrev mX3_addNote : MM := (yX3_addNote, cX3_addNote, 4, (some .int))
abbrev mX3_digestNotesOn : MM := (yX3_digestNotesOn, cX3_digestNotesOn, 4, (some .long))
abbrev mX4_holds : MM := (yX4_holds, cX4_holds, 6, (some .int))
abbrev mX4_wearsInAnHour : MM := (yX4_wearsInAnHour, cX4_wearsInAnHour, 2, (some .int))
abbrev mX5_init : MM := (yX5_init, cX5_init, 2, none)
abbrev mX5_keep : MM := (yX5_keep, cX5_keep, 3, none)
abbrev mX5_giveBack : MM := (yX5_giveBack, cX5_giveBack, 3, none)
abbrev mX5_becomes : MM := (yX5_becomes, cX5_becomes, 5, none)
abbrev mX5_dropFirst : MM := (yX5_dropFirst, cX5_dropFirst, 3, none)
abbrev mX5_rowAt : MM := (yX5_rowAt, cX5_rowAt, 2, (some (.object "CosyAsylum$Common")))
abbrev mX6_init : MM := (yX6_init, cX6_init, 1, none)
abbrev mX6_findFault : MM := (yX6_findFault, cX6_findFault, 3, (some .int))
abbrev mX6_takes : MM := (yX6_takes, cX6_takes, 2, (some .boolean))
abbrev mX6_takesWord : MM := (yX6_takesWord, cX6_takesWord, 2, (some .boolean))
abbrev mX6_takesNumber : MM := (yX6_takesNumber, cX6_takesNumber, 4, (some .boolean))
abbrev mX6_addItem : MM := (yX6_addItem, cX6_addItem, 1, none)
abbrev mX6_numbersOf : MM := (yX6_numbersOf, cX6_numbersOf, 1, (some .int))
abbrev mX6_mostOf : MM := (yX6_mostOf, cX6_mostOf, 3, (some .int))
abbrev mX7_init : MM := (yX7_init, cX7_init, 1, none)
abbrev mX7_add : MM := (yX7_add, cX7_add, 2, none)
abbrev mX7_rewind : MM := (yX7_rewind, cX7_rewind, 1, none)
abbrev mX7_goOn : MM := (yX7_goOn, cX7_goOn, 2, none)
abbrev mX7_takeNumber : MM := (yX7_takeNumber, cX7_takeNumber, 2, none)
abbrev mX7_takeWord : MM := (yX7_takeWord, cX7_takeWord, 2, none)
abbrev mX7_spells : MM := (yX7_spells, cX7_spells, 3, (some .boolean))
abbrev mX7_byteAt : MM := (yX7_byteAt, cX7_byteAt, 2, (some .int))
abbrev mX7_isFigure : MM := (yX7_isFigure, cX7_isFigure, 1, (some .boolean))
abbrev mX7_isLetter : MM := (yX7_isLetter, cX7_isLetter, 1, (some .boolean))
abbrev mX8_init : MM := (yX8_init, cX8_init, 1, none)
abbrev mX8_common : MM := (yX8_common, cX8_common, 2, (some .int))
abbrev mX8_cosy : MM := (yX8_cosy, cX8_cosy, 4, (some .int))
abbrev mX8_hunted : MM := (yX8_hunted, cX8_hunted, 2, (some .int))
abbrev mX8_sheriff : MM := (yX8_sheriff, cX8_sheriff, 2, (some .int))
abbrev mX8_type : MM := (yX8_type, cX8_type, 2, (some .int))
abbrev mX8_clear : MM := (yX8_clear, cX8_clear, 2, (some .int))
abbrev mX8_read : MM := (yX8_read, cX8_read, 2, (some .int))
abbrev mX8_hour : MM := (yX8_hour, cX8_hour, 3, (some .int))
abbrev mX8_darn : MM := (yX8_darn, cX8_darn, 4, (some .int))
abbrev mX8_carry : MM := (yX8_carry, cX8_carry, 4, (some .int))
abbrev mX8_undo : MM := (yX8_undo, cX8_undo, 1, (some .int))
abbrev mX8_of : MM := (yX8_of, cX8_of, 3, (some .int))
abbrev mX8_about : MM := (yX8_about, cX8_about, 3, (some .int))
abbrev mX8_where : MM := (yX8_where, cX8_where, 2, (some .int))
abbrev mX8_then : MM := (yX8_then, cX8_then, 4, (some .int))
abbrev mX8_fate : MM := (yX8_fate, cX8_fate, 3, (some .int))
abbrev mX8_when : MM := (yX8_when, cX8_when, 3, (some .int))
abbrev mX8_place : MM := (yX8_place, cX8_place, 9, (some .int))
abbrev mX8_run : MM := (yX8_run, cX8_run, 4, (some .int))
abbrev mX8_stitches : MM := (yX8_stitches, cX8_stitches, 5, (some .int))
abbrev mX8_note : MM := (yX8_note, cX8_note, 4, (some .int))
abbrev mX8_forget : MM := (yX8_forget, cX8_forget, 2, (some .int))
abbrev mX8_is : MM := (yX8_is, cX8_is, 2, (some .int))
abbrev mX8_feel : MM := (yX8_feel, cX8_feel, 7, (some .int))
abbrev mX8_inside : MM := (yX8_inside, cX8_inside, 9, (some .int))
abbrev mX8_two : MM := (yX8_two, cX8_two, 7, (some .int))
abbrev mX8_rain : MM := (yX8_rain, cX8_rain, 4, (some .int))
abbrev mX8_years : MM := (yX8_years, cX8_years, 8, (some .int))
abbrev mX8_part : MM := (yX8_part, cX8_part, 2, (some .long))
abbrev mX8_image : MM := (yX8_image, cX8_image, 3, (some .int))
abbrev mX8_from : MM := (yX8_from, cX8_from, 3, (some .int))
abbrev mX8_status : MM := (yX8_status, cX8_status, 2, (some .int))
abbrev mX8_count : MM := (yX8_count, cX8_count, 2, (some .int))
abbrev mX8_digest : MM := (yX8_digest, cX8_digest, 4, (some .long))
abbrev mX8_isIn : MM := (yX8_isIn, cX8_isIn, 3, (some .boolean))
abbrev mX8_isCell : MM := (yX8_isCell, cX8_isCell, 1, (some .boolean))
abbrev mX8_isCosy : MM := (yX8_isCosy, cX8_isCosy, 2, (some .boolean))
abbrev mX8_isOneHunted : MM := (yX8_isOneHunted, cX8_isOneHunted, 2, (some .boolean))
abbrev mX8_bad : MM := (yX8_bad, cX8_bad, 2, (some .int))
abbrev mX8_no : MM := (yX8_no, cX8_no, 1, (some .int))
abbrev mX8_full : MM := (yX8_full, cX8_full, 1, (some .int))
abbrev mX8_lookAhead : MM := (yX8_lookAhead, cX8_lookAhead, 2, none)
abbrev mX8_imageAt : MM := (yX8_imageAt, cX8_imageAt, 2, (some (.object "CosyAsylum$Kept")))
abbrev mX8_countOf : MM := (yX8_countOf, cX8_countOf, 2, (some .int))
abbrev mX8_holdsAs : MM := (yX8_holdsAs, cX8_holdsAs, 4, (some .int))
abbrev mX8_fittingKinds : MM := (yX8_fittingKinds, cX8_fittingKinds, 4, (some .int))
abbrev mX8_fitsNotes : MM := (yX8_fitsNotes, cX8_fitsNotes, 4, (some .boolean))
abbrev mX8_mostAlike : MM := (yX8_mostAlike, cX8_mostAlike, 8, (some .int))
abbrev mX8_rests : MM := (yX8_rests, cX8_rests, 7, (some .boolean))
abbrev mX8_getsBy : MM := (yX8_getsBy, cX8_getsBy, 8, (some .int))
abbrev mX9_init : MM := (yX9_init, cX9_init, 1, none)
abbrev mX9_in : MM := (yX9_in, cX9_in, 3, (some .boolean))
abbrev mX9_bits : MM := (yX9_bits, cX9_bits, 3, (some .int))
abbrev mX9_badBy : MM := (yX9_badBy, cX9_badBy, 2, (some .int))
abbrev mX9_bad : MM := (yX9_bad, cX9_bad, 1, (some .int))
abbrev mX9_no : MM := (yX9_no, cX9_no, 1, (some .int))
abbrev mX9_full : MM := (yX9_full, cX9_full, 1, (some .int))
abbrev mX9_isCosy : MM := (yX9_isCosy, cX9_isCosy, 2, (some .boolean))
abbrev mX9_isHunted : MM := (yX9_isHunted, cX9_isHunted, 2, (some .boolean))
abbrev mX9_isCell : MM := (yX9_isCell, cX9_isCell, 1, (some .boolean))
abbrev mX9_bring : MM := (yX9_bring, cX9_bring, 6, none)
abbrev mX9_begin : MM := (yX9_begin, cX9_begin, 2, none)
abbrev mX9_common : MM := (yX9_common, cX9_common, 2, (some .int))
abbrev mX9_addCosy : MM := (yX9_addCosy, cX9_addCosy, 5, (some .int))
abbrev mX9_cosy : MM := (yX9_cosy, cX9_cosy, 4, (some .int))
abbrev mX9_addHunted : MM := (yX9_addHunted, cX9_addHunted, 3, (some .int))
abbrev mX9_hunted : MM := (yX9_hunted, cX9_hunted, 2, (some .int))
abbrev mX9_addSheriff : MM := (yX9_addSheriff, cX9_addSheriff, 3, (some .int))
abbrev mX9_sheriff : MM := (yX9_sheriff, cX9_sheriff, 2, (some .int))
abbrev mX9_type : MM := (yX9_type, cX9_type, 2, (some .int))
abbrev mX9_clear : MM := (yX9_clear, cX9_clear, 2, (some .int))
abbrev mX9_kindAt : MM := (yX9_kindAt, cX9_kindAt, 3, (some .int))
abbrev mX9_nextToken : MM := (yX9_nextToken, cX9_nextToken, 2, none)
abbrev mX9_isNumber : MM := (yX9_isNumber, cX9_isNumber, 3, (some .boolean))
abbrev mX9_isCosyItem : MM := (yX9_isCosyItem, cX9_isCosyItem, 3, (some .boolean))
abbrev mX9_isHuntedItem : MM := (yX9_isHuntedItem, cX9_isHuntedItem, 1, (some .boolean))
abbrev mX9_isSheriffItem : MM := (yX9_isSheriffItem, cX9_isSheriffItem, 1, (some .boolean))
abbrev mX9_isWearItem : MM := (yX9_isWearItem, cX9_isWearItem, 2, (some .boolean))
abbrev mX9_isItem : MM := (yX9_isItem, cX9_isItem, 2, (some .boolean))
abbrev mX9_isRead : MM := (yX9_isRead, cX9_isRead, 1, (some .boolean))
abbrev mX9_read : MM := (yX9_read, cX9_read, 1, (some .int))
abbrev mX9_holdsBy : MM := (yX9_holdsBy, cX9_holdsBy, 5, (some .int))
abbrev mX9_wearsBy : MM := (yX9_wearsBy, cX9_wearsBy, 2, (some .int))
abbrev mX9_holds : MM := (yX9_holds, cX9_holds, 2, (some .int))
abbrev mX9_underIn : MM := (yX9_underIn, cX9_underIn, 4, (some .int))
abbrev mX9_away : MM := (yX9_away, cX9_away, 1, (some .int))
abbrev mX9_far : MM := (yX9_far, cX9_far, 2, (some .int))
abbrev mX9_step : MM := (yX9_step, cX9_step, 4, (some .int))
abbrev mX9_goal : MM := (yX9_goal, cX9_goal, 6, (some .int))
abbrev mX9_goes : MM := (yX9_goes, cX9_goes, 3, none)
abbrev mX9_hunts : MM := (yX9_hunts, cX9_hunts, 5, none)
abbrev mX9_wears : MM := (yX9_wears, cX9_wears, 5, none)
abbrev mX9_endHour : MM := (yX9_endHour, cX9_endHour, 2, none)
abbrev mX9_goBy : MM := (yX9_goBy, cX9_goBy, 2, none)
abbrev mX9_takenIn : MM := (yX9_takenIn, cX9_takenIn, 3, (some .int))
abbrev mX9_underAll : MM := (yX9_underAll, cX9_underAll, 3, (some .int))
abbrev mX9_keepBack : MM := (yX9_keepBack, cX9_keepBack, 1, none)
abbrev mX9_hour : MM := (yX9_hour, cX9_hour, 3, (some .int))
abbrev mX9_darn : MM := (yX9_darn, cX9_darn, 3, (some .int))
abbrev mX9_bringTo : MM := (yX9_bringTo, cX9_bringTo, 4, none)
abbrev mX9_carry : MM := (yX9_carry, cX9_carry, 4, (some .int))
abbrev mX9_undo : MM := (yX9_undo, cX9_undo, 1, (some .int))
abbrev mX9_of : MM := (yX9_of, cX9_of, 3, (some .int))
abbrev mX9_aboutIn : MM := (yX9_aboutIn, cX9_aboutIn, 4, (some .int))
abbrev mX9_about : MM := (yX9_about, cX9_about, 3, (some .int))
abbrev mX9_where : MM := (yX9_where, cX9_where, 2, (some .int))
abbrev mX9_copyNow : MM := (yX9_copyNow, cX9_copyNow, 1, none)
abbrev mX9_goOn : MM := (yX9_goOn, cX9_goOn, 3, none)
abbrev mX9_then : MM := (yX9_then, cX9_then, 4, (some .int))
abbrev mX9_fate : MM := (yX9_fate, cX9_fate, 3, (some .int))
abbrev mX9_when : MM := (yX9_when, cX9_when, 3, (some .int))
abbrev mX9_place : MM := (yX9_place, cX9_place, 8, (some .int))
abbrev mX9_chooses : MM := (yX9_chooses, cX9_chooses, 7, (some .boolean))
abbrev mX9_goesBy : MM := (yX9_goesBy, cX9_goesBy, 4, (some .boolean))
abbrev mX9_isUnderBy : MM := (yX9_isUnderBy, cX9_isUnderBy, 4, (some .boolean))
abbrev mX9_run : MM := (yX9_run, cX9_run, 8, (some .int))
abbrev mX9_stitches : MM := (yX9_stitches, cX9_stitches, 4, (some .int))
abbrev mX9_note : MM := (yX9_note, cX9_note, 5, (some .int))
abbrev mX9_forget : MM := (yX9_forget, cX9_forget, 2, (some .int))
abbrev mX9_kindsOf : MM := (yX9_kindsOf, cX9_kindsOf, 7, (some .int))
abbrev mX9_is : MM := (yX9_is, cX9_is, 2, (some .int))
abbrev mX9_feel : MM := (yX9_feel, cX9_feel, 11, (some .int))
abbrev mX9_inside : MM := (yX9_inside, cX9_inside, 9, (some .int))
abbrev mX9_gets : MM := (yX9_gets, cX9_gets, 7, (some .int))
abbrev mX9_rests : MM := (yX9_rests, cX9_rests, 7, (some .boolean))
abbrev mX9_two : MM := (yX9_two, cX9_two, 6, (some .int))
abbrev mX9_rain : MM := (yX9_rain, cX9_rain, 10, (some .int))
abbrev mX9_years : MM := (yX9_years, cX9_years, 8, (some .int))
abbrev mX9_part : MM := (yX9_part, cX9_part, 2, (some .long))
abbrev mX9_image : MM := (yX9_image, cX9_image, 2, (some .int))
abbrev mX9_from : MM := (yX9_from, cX9_from, 2, (some .int))
abbrev mX9_status : MM := (yX9_status, cX9_status, 2, (some .int))
abbrev mX9_counted : MM := (yX9_counted, cX9_counted, 2, (some .int))
abbrev mX9_count : MM := (yX9_count, cX9_count, 2, (some .int))
abbrev mX9_digest : MM := (yX9_digest, cX9_digest, 5, (some .long))
abbrev mJ6_bitCount_0f7a4 : MM := (yJ6_bitCount_0f7a4, cJ6_bitCount_0f7a4, 1, (some .int))
abbrev mJ9_abs_0f7a4 : MM := (yJ9_abs_0f7a4, cJ9_abs_0f7a4, 1, (some .int))
abbrev mJ9_max_7cf53 : MM := (yJ9_max_7cf53, cJ9_max_7cf53, 2, (some .int))
abbrev mJ9_min_7cf53 : MM := (yJ9_min_7cf53, cJ9_min_7cf53, 2, (some .int))
abbrev mJ0_length_8abf5 : MM := (yJ0_length_8abf5, cJ0_length_8abf5, 1, (some .int))
abbrev mJ0_charAt_5068e : MM := (yJ0_charAt_5068e, cJ0_charAt_5068e, 2, (some .char))
abbrev mJ0_coder_7d493 : MM := (yJ0_coder_7d493, cJ0_coder_7d493, 1, (some .byte))
abbrev mJ0_isLatin1_aae02 : MM := (yJ0_isLatin1_aae02, cJ0_isLatin1_aae02, 1, (some .boolean))
abbrev mJ0_checkIndex_df160 : MM := (yJ0_checkIndex_df160, cJ0_checkIndex_df160, 2, none)
abbrev mJ1_charAt_3b067 : MM := (yJ1_charAt_3b067, cJ1_charAt_3b067, 2, (some .char))
abbrev mJ2_getChar_3b067 : MM := (yJ2_getChar_3b067, cJ2_getChar_3b067, 2, (some .char))
abbrev mJ2_length_9d52b : MM := (yJ2_length_9d52b, cJ2_length_9d52b, 1, (some .int))
abbrev mJ2_charAt_3b067 : MM := (yJ2_charAt_3b067, cJ2_charAt_3b067, 2, (some .char))
abbrev mJ2_checkIndex_2214a : MM := (yJ2_checkIndex_2214a, cJ2_checkIndex_2214a, 2, none)
abbrev mJ3_checkIndex_8e157 : MM := (yJ3_checkIndex_8e157, cJ3_checkIndex_8e157, 3, (some .int))
abbrev mL_law : MM := (yL_law, cL_law, 4, some .boolean)
theorem wi_RX0 : (.initialized RX0 : Cond) ∈ lw_tbl := List.mem_of_getElem? (i := 73) (by decide +kernel)
theorem wi_RX1 : (.initialized RX1 : Cond) ∈ lw_tbl := List.mem_of_getElem? (i := 60) (by decide +kernel)
theorem wi_RX2 : (.initialized RX2 : Cond) ∈ lw_tbl := List.mem_of_getElem? (i := 64) (by decide +kernel)
theorem wi_RX3 : (.initialized RX3 : Cond) ∈ lw_tbl := List.mem_of_getElem? (i := 59) (by decide +kernel)
theorem wi_RX4 : (.initialized RX4 : Cond) ∈ lw_tbl := List.mem_of_getElem? (i := 71) (by decide +kernel)
theorem wi_RX5 : (.initialized RX5 : Cond) ∈ lw_tbl := List.mem_of_getElem? (i := 61) (by decide +kernel)
theorem wi_RX6 : (.initialized RX6 : Cond) ∈ lw_tbl := List.mem_of_getElem? (i := 63) (by decide +kernel)
theorem wi_RX7 : (.initialized RX7 : Cond) ∈ lw_tbl := List.mem_of_getElem? (i := 62) (by decide +kernel)
theorem wi_RX8 : (.initialized RX8 : Cond) ∈ lw_tbl := List.mem_of_getElem? (i := 58) (by decide +kernel)
theorem wi_RX9 : (.initialized RX9 : Cond) ∈ lw_tbl := List.mem_of_getElem? (i := 65) (by decide +kernel)
theorem wi_RJ6 : (.initialized RJ6 : Cond) ∈ lw_tbl := List.mem_of_getElem? (i := 74) (by decide +kernel)
theorem wi_RJ9 : (.initialized RJ9 : Cond) ∈ lw_tbl := List.mem_of_getElem? (i := 72) (by decide +kernel)
theorem wi_RJ0 : (.initialized RJ0 : Cond) ∈ lw_tbl := List.mem_of_getElem? (i := 66) (by decide +kernel)
theorem wi_RJ1 : (.initialized RJ1 : Cond) ∈ lw_tbl := List.mem_of_getElem? (i := 67) (by decide +kernel)
theorem wi_RJ2 : (.initialized RJ2 : Cond) ∈ lw_tbl := List.mem_of_getElem? (i := 69) (by decide +kernel)
theorem wi_RJ10 : (.initialized RJ10 : Cond) ∈ lw_tbl := List.mem_of_getElem? (i := 70) (by decide +kernel)
theorem wi_RJ3 : (.initialized RJ3 : Cond) ∈ lw_tbl := List.mem_of_getElem? (i := 68) (by decide +kernel)
theorem wi_RL : (.initialized RL : Cond) ∈ lw_tbl := List.mem_of_getElem? (i := 57) (by decide +kernel)
theorem wc_X0_far : (.code yX0_far cX0_far 2 (some .int) : Cond) ∈ lw_tbl := List.mem_of_getElem? (i := 568) (by decide +kernel)
theorem wt_X0_far : (.static yX0_far : Cond) ∈ lw_tbl := List.mem_of_getElem? (i := 567) (by decide +kernel)
theorem wc_X0_step : (.code yX0_step cX0_step 4 (some .int) : Cond) ∈ lw_tbl := List.mem_of_getElem? (i := 574) (by decide +kernel)
theorem wt_X0_step : (.static yX0_step : Cond) ∈ lw_tbl := List.mem_of_getElem? (i := 573) (by decide +kernel)
theorem wc_X0_beside : (.code yX0_beside cX0_beside 4 (some .int) : Cond) ∈ lw_tbl := List.mem_of_getElem? (i := 561) (by decide +kernel)
theorem wt_X0_beside : (.static yX0_beside : Cond) ∈ lw_tbl := List.mem_of_getElem? (i := 560) (by decide +kernel)
theorem wc_X1_init : (.code yX1_init cX1_init 1 none : Cond) ∈ lw_tbl := List.mem_of_getElem? (i := 93) (by decide +kernel)
theorem wm_X1_init : (.instanceMethod yX1_init : Cond) ∈ lw_tbl := List.mem_of_getElem? (i := 92) (by decide +kernel)
theorem wc_X1_empty : (.code yX1_empty cX1_empty 1 none : Cond) ∈ lw_tbl := List.mem_of_getElem? (i := 324) (by decide +kernel)
theorem wm_X1_empty : (.instanceMethod yX1_empty : Cond) ∈ lw_tbl := List.mem_of_getElem? (i := 322) (by decide +kernel)
theorem wv_X1_empty : (.selects RX1 yX1_empty yX1_empty : Cond) ∈ lw_tbl := List.mem_of_getElem? (i := 323) (by decide +kernel)
theorem wc_X1_becomes : (.code yX1_becomes cX1_becomes 2 none : Cond) ∈ lw_tbl := List.mem_of_getElem? (i := 506) (by decide +kernel)
theorem wm_X1_becomes : (.instanceMethod yX1_becomes : Cond) ∈ lw_tbl := List.mem_of_getElem? (i := 504) (by decide +kernel)
theorem wv_X1_becomes : (.selects RX1 yX1_becomes yX1_becomes : Cond) ∈ lw_tbl := List.mem_of_getElem? (i := 505) (by decide +kernel)
theorem wc_X1_addCosy : (.code yX1_addCosy cX1_addCosy 4 (some .int) : Cond) ∈ lw_tbl := List.mem_of_getElem? (i := 346) (by decide +kernel)
theorem wm_X1_addCosy : (.instanceMethod yX1_addCosy : Cond) ∈ lw_tbl := List.mem_of_getElem? (i := 344) (by decide +kernel)
theorem wv_X1_addCosy : (.selects RX1 yX1_addCosy yX1_addCosy : Cond) ∈ lw_tbl := List.mem_of_getElem? (i := 345) (by decide +kernel)
theorem wc_X1_addHunted : (.code yX1_addHunted cX1_addHunted 2 (some .int) : Cond) ∈ lw_tbl := List.mem_of_getElem? (i := 354) (by decide +kernel)
theorem wm_X1_addHunted : (.instanceMethod yX1_addHunted : Cond) ∈ lw_tbl := List.mem_of_getElem? (i := 352) (by decide +kernel)
theorem wv_X1_addHunted : (.selects RX1 yX1_addHunted yX1_addHunted : Cond) ∈ lw_tbl := List.mem_of_getElem? (i := 353) (by decide +kernel)
theorem wc_X1_addSheriff : (.code yX1_addSheriff cX1_addSheriff 2 (some .int) : Cond) ∈ lw_tbl := List.mem_of_getElem? (i := 366) (by decide +kernel)
theorem wm_X1_addSheriff : (.instanceMethod yX1_addSheriff : Cond) ∈ lw_tbl := List.mem_of_getElem? (i := 364) (by decide +kernel)
theorem wv_X1_addSheriff : (.selects RX1 yX1_addSheriff yX1_addSheriff : Cond) ∈ lw_tbl := List.mem_of_getElem? (i := 365) (by decide +kernel)
theorem wc_X1_setFree : (.code yX1_setFree cX1_setFree 3 none : Cond) ∈ lw_tbl := List.mem_of_getElem? (i := 358) (by decide +kernel)
theorem wm_X1_setFree : (.instanceMethod yX1_setFree : Cond) ∈ lw_tbl := List.mem_of_getElem? (i := 356) (by decide +kernel)
theorem wv_X1_setFree : (.selects RX1 yX1_setFree yX1_setFree : Cond) ∈ lw_tbl := List.mem_of_getElem? (i := 357) (by decide +kernel)
theorem wc_X1_setWear : (.code yX1_setWear cX1_setWear 3 none : Cond) ∈ lw_tbl := List.mem_of_getElem? (i := 501) (by decide +kernel)
theorem wm_X1_setWear : (.instanceMethod yX1_setWear : Cond) ∈ lw_tbl := List.mem_of_getElem? (i := 499) (by decide +kernel)
theorem wv_X1_setWear : (.selects RX1 yX1_setWear yX1_setWear : Cond) ∈ lw_tbl := List.mem_of_getElem? (i := 500) (by decide +kernel)
theorem wc_X1_moveCosy : (.code yX1_moveCosy cX1_moveCosy 4 none : Cond) ∈ lw_tbl := List.mem_of_getElem? (i := 624) (by decide +kernel)
theorem wm_X1_moveCosy : (.instanceMethod yX1_moveCosy : Cond) ∈ lw_tbl := List.mem_of_getElem? (i := 622) (by decide +kernel)
theorem wv_X1_moveCosy : (.selects RX1 yX1_moveCosy yX1_moveCosy : Cond) ∈ lw_tbl := List.mem_of_getElem? (i := 623) (by decide +kernel)
theorem wc_X1_holds : (.code yX1_holds cX1_holds 2 (some .int) : Cond) ∈ lw_tbl := List.mem_of_getElem? (i := 544) (by decide +kernel)
theorem wm_X1_holds : (.instanceMethod yX1_holds : Cond) ∈ lw_tbl := List.mem_of_getElem? (i := 542) (by decide +kernel)
theorem wv_X1_holds : (.selects RX1 yX1_holds yX1_holds : Cond) ∈ lw_tbl := List.mem_of_getElem? (i := 543) (by decide +kernel)
theorem wc_X1_whoIs : (.code yX1_whoIs cX1_whoIs 4 (some .int) : Cond) ∈ lw_tbl := List.mem_of_getElem? (i := 600) (by decide +kernel)
theorem wm_X1_whoIs : (.instanceMethod yX1_whoIs : Cond) ∈ lw_tbl := List.mem_of_getElem? (i := 598) (by decide +kernel)
theorem wv_X1_whoIs : (.selects RX1 yX1_whoIs yX1_whoIs : Cond) ∈ lw_tbl := List.mem_of_getElem? (i := 599) (by decide +kernel)
theorem wc_X1_manyUnder : (.code yX1_manyUnder cX1_manyUnder 2 (some .int) : Cond) ∈ lw_tbl := List.mem_of_getElem? (i := 773) (by decide +kernel)
theorem wm_X1_manyUnder : (.instanceMethod yX1_manyUnder : Cond) ∈ lw_tbl := List.mem_of_getElem? (i := 771) (by decide +kernel)
theorem wv_X1_manyUnder : (.selects RX1 yX1_manyUnder yX1_manyUnder : Cond) ∈ lw_tbl := List.mem_of_getElem? (i := 772) (by decide +kernel)
theorem wc_X1_manyTaken : (.code yX1_manyTaken cX1_manyTaken 1 (some .int) : Cond) ∈ lw_tbl := List.mem_of_getElem? (i := 596) (by decide +kernel)
theorem wm_X1_manyTaken : (.instanceMethod yX1_manyTaken : Cond) ∈ lw_tbl := List.mem_of_getElem? (i := 594) (by decide +kernel)
theorem wv_X1_manyTaken : (.selects RX1 yX1_manyTaken yX1_manyTaken : Cond) ∈ lw_tbl := List.mem_of_getElem? (i := 595) (by decide +kernel)
theorem wc_X1_manyUnder_ : (.code yX1_manyUnder_ cX1_manyUnder_ 1 (some .int) : Cond) ∈ lw_tbl := List.mem_of_getElem? (i := 674) (by decide +kernel)
theorem wm_X1_manyUnder_ : (.instanceMethod yX1_manyUnder_ : Cond) ∈ lw_tbl := List.mem_of_getElem? (i := 672) (by decide +kernel)
theorem wv_X1_manyUnder_ : (.selects RX1 yX1_manyUnder_ yX1_manyUnder_ : Cond) ∈ lw_tbl := List.mem_of_getElem? (i := 673) (by decide +kernel)
theorem wc_X1_whoIsNear : (.code yX1_whoIsNear cX1_whoIsNear 5 (some .int) : Cond) ∈ lw_tbl := List.mem_of_getElem? (i := 755) (by decide +kernel)
theorem wm_X1_whoIsNear : (.instanceMethod yX1_whoIsNear : Cond) ∈ lw_tbl := List.mem_of_getElem? (i := 753) (by decide +kernel)
theorem wv_X1_whoIsNear : (.selects RX1 yX1_whoIsNear yX1_whoIsNear : Cond) ∈ lw_tbl := List.mem_of_getElem? (i := 754) (by decide +kernel)
theorem wc_X1_tellOf : (.code yX1_tellOf cX1_tellOf 3 (some .int) : Cond) ∈ lw_tbl := List.mem_of_getElem? (i := 654) (by decide +kernel)
theorem wm_X1_tellOf : (.instanceMethod yX1_tellOf : Cond) ∈ lw_tbl := List.mem_of_getElem? (i := 652) (by decide +kernel)
theorem wv_X1_tellOf : (.selects RX1 yX1_tellOf yX1_tellOf : Cond) ∈ lw_tbl := List.mem_of_getElem? (i := 653) (by decide +kernel)
theorem wc_X1_passHours : (.code yX1_passHours cX1_passHours 3 none : Cond) ∈ lw_tbl := List.mem_of_getElem? (i := 532) (by decide +kernel)
theorem wm_X1_passHours : (.instanceMethod yX1_passHours : Cond) ∈ lw_tbl := List.mem_of_getElem? (i := 530) (by decide +kernel)
theorem wv_X1_passHours : (.selects RX1 yX1_passHours yX1_passHours : Cond) ∈ lw_tbl := List.mem_of_getElem? (i := 531) (by decide +kernel)
theorem wc_X1_passHourWith : (.code yX1_passHourWith cX1_passHourWith 4 none : Cond) ∈ lw_tbl := List.mem_of_getElem? (i := 536) (by decide +kernel)
theorem wm_X1_passHourWith : (.instanceMethod yX1_passHourWith : Cond) ∈ lw_tbl := List.mem_of_getElem? (i := 534) (by decide +kernel)
theorem wv_X1_passHourWith : (.selects RX1 yX1_passHourWith yX1_passHourWith : Cond) ∈ lw_tbl := List.mem_of_getElem? (i := 535) (by decide +kernel)
theorem wc_X1_countRooms : (.code yX1_countRooms cX1_countRooms 2 none : Cond) ∈ lw_tbl := List.mem_of_getElem? (i := 540) (by decide +kernel)
theorem wm_X1_countRooms : (.instanceMethod yX1_countRooms : Cond) ∈ lw_tbl := List.mem_of_getElem? (i := 539) (by decide +kernel)
theorem wv_X1_countRooms : (.selects RX1 yX1_countRooms yX1_countRooms : Cond) ∈ lw_tbl := List.mem_of_getElem? (i := 13) (by decide +kernel)
theorem wc_X1_fill : (.code yX1_fill cX1_fill 2 none : Cond) ∈ lw_tbl := List.mem_of_getElem? (i := 554) (by decide +kernel)
theorem wm_X1_fill : (.instanceMethod yX1_fill : Cond) ∈ lw_tbl := List.mem_of_getElem? (i := 553) (by decide +kernel)
theorem wv_X1_fill : (.selects RX1 yX1_fill yX1_fill : Cond) ∈ lw_tbl := List.mem_of_getElem? (i := 14) (by decide +kernel)
theorem wc_X1_flee : (.code yX1_flee cX1_flee 5 none : Cond) ∈ lw_tbl := List.mem_of_getElem? (i := 558) (by decide +kernel)
theorem wm_X1_flee : (.instanceMethod yX1_flee : Cond) ∈ lw_tbl := List.mem_of_getElem? (i := 557) (by decide +kernel)
theorem wv_X1_flee : (.selects RX1 yX1_flee yX1_flee : Cond) ∈ lw_tbl := List.mem_of_getElem? (i := 15) (by decide +kernel)
theorem wc_X1_nearestRoom : (.code yX1_nearestRoom cX1_nearestRoom 6 (some .int) : Cond) ∈ lw_tbl := List.mem_of_getElem? (i := 565) (by decide +kernel)
theorem wm_X1_nearestRoom : (.instanceMethod yX1_nearestRoom : Cond) ∈ lw_tbl := List.mem_of_getElem? (i := 564) (by decide +kernel)
theorem wv_X1_nearestRoom : (.selects RX1 yX1_nearestRoom yX1_nearestRoom : Cond) ∈ lw_tbl := List.mem_of_getElem? (i := 16) (by decide +kernel)
theorem wc_X1_chase : (.code yX1_chase cX1_chase 5 none : Cond) ∈ lw_tbl := List.mem_of_getElem? (i := 578) (by decide +kernel)
theorem wm_X1_chase : (.instanceMethod yX1_chase : Cond) ∈ lw_tbl := List.mem_of_getElem? (i := 577) (by decide +kernel)
theorem wv_X1_chase : (.selects RX1 yX1_chase yX1_chase : Cond) ∈ lw_tbl := List.mem_of_getElem? (i := 17) (by decide +kernel)
theorem wc_X1_nearestFree : (.code yX1_nearestFree cX1_nearestFree 6 (some .int) : Cond) ∈ lw_tbl := List.mem_of_getElem? (i := 582) (by decide +kernel)
theorem wm_X1_nearestFree : (.instanceMethod yX1_nearestFree : Cond) ∈ lw_tbl := List.mem_of_getElem? (i := 581) (by decide +kernel)
theorem wv_X1_nearestFree : (.selects RX1 yX1_nearestFree yX1_nearestFree : Cond) ∈ lw_tbl := List.mem_of_getElem? (i := 18) (by decide +kernel)
theorem wc_X1_wearOut : (.code yX1_wearOut cX1_wearOut 5 none : Cond) ∈ lw_tbl := List.mem_of_getElem? (i := 586) (by decide +kernel)
theorem wm_X1_wearOut : (.instanceMethod yX1_wearOut : Cond) ∈ lw_tbl := List.mem_of_getElem? (i := 585) (by decide +kernel)
theorem wv_X1_wearOut : (.selects RX1 yX1_wearOut yX1_wearOut : Cond) ∈ lw_tbl := List.mem_of_getElem? (i := 19) (by decide +kernel)
theorem wc_X1_fewestHoursTo : (.code yX1_fewestHoursTo cX1_fewestHoursTo 4 (some .int) : Cond) ∈ lw_tbl := List.mem_of_getElem? (i := 704) (by decide +kernel)
theorem wm_X1_fewestHoursTo : (.instanceMethod yX1_fewestHoursTo : Cond) ∈ lw_tbl := List.mem_of_getElem? (i := 702) (by decide +kernel)
theorem wv_X1_fewestHoursTo : (.selects RX1 yX1_fewestHoursTo yX1_fewestHoursTo : Cond) ∈ lw_tbl := List.mem_of_getElem? (i := 703) (by decide +kernel)
theorem wc_X1_digestOn : (.code yX1_digestOn cX1_digestOn 5 (some .long) : Cond) ∈ lw_tbl := List.mem_of_getElem? (i := 836) (by decide +kernel)
theorem wm_X1_digestOn : (.instanceMethod yX1_digestOn : Cond) ∈ lw_tbl := List.mem_of_getElem? (i := 834) (by decide +kernel)
theorem wv_X1_digestOn : (.selects RX1 yX1_digestOn yX1_digestOn : Cond) ∈ lw_tbl := List.mem_of_getElem? (i := 835) (by decide +kernel)
theorem wc_X2_init : (.code yX2_init cX2_init 2 none : Cond) ∈ lw_tbl := List.mem_of_getElem? (i := 261) (by decide +kernel)
theorem wm_X2_init : (.instanceMethod yX2_init : Cond) ∈ lw_tbl := List.mem_of_getElem? (i := 260) (by decide +kernel)
theorem wc_X2_findFewestHours : (.code yX2_findFewestHours cX2_findFewestHours 5 (some .int) : Cond) ∈ lw_tbl := List.mem_of_getElem? (i := 691) (by decide +kernel)
theorem wm_X2_findFewestHours : (.instanceMethod yX2_findFewestHours : Cond) ∈ lw_tbl := List.mem_of_getElem? (i := 689) (by decide +kernel)
theorem wv_X2_findFewestHours : (.selects RX2 yX2_findFewestHours yX2_findFewestHours : Cond) ∈ lw_tbl := List.mem_of_getElem? (i := 690) (by decide +kernel)
theorem wc_X2_isUnderBehind : (.code yX2_isUnderBehind cX2_isUnderBehind 7 (some .boolean) : Cond) ∈ lw_tbl := List.mem_of_getElem? (i := 700) (by decide +kernel)
theorem wt_X2_isUnderBehind : (.static yX2_isUnderBehind : Cond) ∈ lw_tbl := List.mem_of_getElem? (i := 699) (by decide +kernel)
theorem wc_X2_stageAt : (.code yX2_stageAt cX2_stageAt 2 (some (.object "CosyAsylum$Common")) : Cond) ∈ lw_tbl := List.mem_of_getElem? (i := 695) (by decide +kernel)
theorem wm_X2_stageAt : (.instanceMethod yX2_stageAt : Cond) ∈ lw_tbl := List.mem_of_getElem? (i := 694) (by decide +kernel)
theorem wv_X2_stageAt : (.selects RX2 yX2_stageAt yX2_stageAt : Cond) ∈ lw_tbl := List.mem_of_getElem? (i := 24) (by decide +kernel)
theorem wc_X3_init : (.code yX3_init cX3_init 1 none : Cond) ∈ lw_tbl := List.mem_of_getElem? (i := 87) (by decide +kernel)
theorem wm_X3_init : (.instanceMethod yX3_init : Cond) ∈ lw_tbl := List.mem_of_getElem? (i := 86) (by decide +kernel)
theorem wc_X3_empty : (.code yX3_empty cX3_empty 1 none : Cond) ∈ lw_tbl := List.mem_of_getElem? (i := 320) (by decide +kernel)
theorem wm_X3_empty : (.instanceMethod yX3_empty : Cond) ∈ lw_tbl := List.mem_of_getElem? (i := 318) (by decide +kernel)
theorem wv_X3_empty : (.selects RX3 yX3_empty yX3_empty : Cond) ∈ lw_tbl := List.mem_of_getElem? (i := 319) (by decide +kernel)
theorem wc_X3_becomes : (.code yX3_becomes cX3_becomes 2 none : Cond) ∈ lw_tbl := List.mem_of_getElem? (i := 804) (by decide +kernel)
theorem wm_X3_becomes : (.instanceMethod yX3_becomes : Cond) ∈ lw_tbl := List.mem_of_getElem? (i := 802) (by decide +kernel)
theorem wv_X3_becomes : (.selects RX3 yX3_becomes yX3_becomes : Cond) ∈ lw_tbl := List.mem_of_getElem? (i := 803) (by decide +kernel)
theorem wc_X3_addNote : (.code yX3_addNote cX3_addNote 4 (some .int) : Cond) ∈ lw_tbl := List.mem_of_getElem? (i := 723) (by decide +kernel)
theorem wm_X3_addNote : (.instanceMethod yX3_addNote : Cond) ∈ lw_tbl := List.mem_of_getElem? (i := 721) (by decide +kernel)
theorem wv_X3_addNote : (.selects RX3 yX3_addNote yX3_addNote : Cond) ∈ lw_tbl := List.mem_of_getElem? (i := 722) (by decide +kernel)
theorem wc_X3_digestNotesOn : (.code yX3_digestNotesOn cX3_digestNotesOn 4 (some .long) : Cond) ∈ lw_tbl := List.mem_of_getElem? (i := 842) (by decide +kernel)
theorem wm_X3_digestNotesOn : (.instanceMethod yX3_digestNotesOn : Cond) ∈ lw_tbl := List.mem_of_getElem? (i := 840) (by decide +kernel)
theorem wv_X3_digestNotesOn : (.selects RX3 yX3_digestNotesOn yX3_digestNotesOn : Cond) ∈ lw_tbl := List.mem_of_getElem? (i := 841) (by decide +kernel)
theorem wc_X4_holds : (.code yX4_holds cX4_holds 6 (some .int) : Cond) ∈ lw_tbl := List.mem_of_getElem? (i := 547) (by decide +kernel)
theorem wt_X4_holds : (.static yX4_holds : Cond) ∈ lw_tbl := List.mem_of_getElem? (i := 546) (by decide +kernel)
theorem wc_X4_wearsInAnHour : (.code yX4_wearsInAnHour cX4_wearsInAnHour 2 (some .int) : Cond) ∈ lw_tbl := List.mem_of_getElem? (i := 589) (by decide +kernel)
theorem wt_X4_wearsInAnHour : (.static yX4_wearsInAnHour : Cond) ∈ lw_tbl := List.mem_of_getElem? (i := 588) (by decide +kernel)
theorem wc_X5_init : (.code yX5_init cX5_init 2 none : Cond) ∈ lw_tbl := List.mem_of_getElem? (i := 156) (by decide +kernel)
theorem wm_X5_init : (.instanceMethod yX5_init : Cond) ∈ lw_tbl := List.mem_of_getElem? (i := 155) (by decide +kernel)
theorem wc_X5_keep : (.code yX5_keep cX5_keep 3 none : Cond) ∈ lw_tbl := List.mem_of_getElem? (i := 518) (by decide +kernel)
theorem wm_X5_keep : (.instanceMethod yX5_keep : Cond) ∈ lw_tbl := List.mem_of_getElem? (i := 516) (by decide +kernel)
theorem wv_X5_keep : (.selects RX5 yX5_keep yX5_keep : Cond) ∈ lw_tbl := List.mem_of_getElem? (i := 517) (by decide +kernel)
theorem wc_X5_giveBack : (.code yX5_giveBack cX5_giveBack 3 none : Cond) ∈ lw_tbl := List.mem_of_getElem? (i := 636) (by decide +kernel)
theorem wm_X5_giveBack : (.instanceMethod yX5_giveBack : Cond) ∈ lw_tbl := List.mem_of_getElem? (i := 634) (by decide +kernel)
theorem wv_X5_giveBack : (.selects RX5 yX5_giveBack yX5_giveBack : Cond) ∈ lw_tbl := List.mem_of_getElem? (i := 635) (by decide +kernel)
theorem wc_X5_becomes : (.code yX5_becomes cX5_becomes 5 none : Cond) ∈ lw_tbl := List.mem_of_getElem? (i := 809) (by decide +kernel)
theorem wm_X5_becomes : (.instanceMethod yX5_becomes : Cond) ∈ lw_tbl := List.mem_of_getElem? (i := 807) (by decide +kernel)
theorem wv_X5_becomes : (.selects RX5 yX5_becomes yX5_becomes : Cond) ∈ lw_tbl := List.mem_of_getElem? (i := 808) (by decide +kernel)
theorem wc_X5_dropFirst : (.code yX5_dropFirst cX5_dropFirst 3 none : Cond) ∈ lw_tbl := List.mem_of_getElem? (i := 522) (by decide +kernel)
theorem wm_X5_dropFirst : (.instanceMethod yX5_dropFirst : Cond) ∈ lw_tbl := List.mem_of_getElem? (i := 521) (by decide +kernel)
theorem wv_X5_dropFirst : (.selects RX5 yX5_dropFirst yX5_dropFirst : Cond) ∈ lw_tbl := List.mem_of_getElem? (i := 11) (by decide +kernel)
theorem wc_X5_rowAt : (.code yX5_rowAt cX5_rowAt 2 (some (.object "CosyAsylum$Common")) : Cond) ∈ lw_tbl := List.mem_of_getElem? (i := 526) (by decide +kernel)
theorem wm_X5_rowAt : (.instanceMethod yX5_rowAt : Cond) ∈ lw_tbl := List.mem_of_getElem? (i := 525) (by decide +kernel)
theorem wv_X5_rowAt : (.selects RX5 yX5_rowAt yX5_rowAt : Cond) ∈ lw_tbl := List.mem_of_getElem? (i := 12) (by decide +kernel)
theorem wc_X6_init : (.code yX6_init cX6_init 1 none : Cond) ∈ lw_tbl := List.mem_of_getElem? (i := 235) (by decide +kernel)
theorem wm_X6_init : (.instanceMethod yX6_init : Cond) ∈ lw_tbl := List.mem_of_getElem? (i := 234) (by decide +kernel)
theorem wc_X6_findFault : (.code yX6_findFault cX6_findFault 3 (some .int) : Cond) ∈ lw_tbl := List.mem_of_getElem? (i := 386) (by decide +kernel)
theorem wm_X6_findFault : (.instanceMethod yX6_findFault : Cond) ∈ lw_tbl := List.mem_of_getElem? (i := 384) (by decide +kernel)
theorem wv_X6_findFault : (.selects RX6 yX6_findFault yX6_findFault : Cond) ∈ lw_tbl := List.mem_of_getElem? (i := 385) (by decide +kernel)
theorem wc_X6_takes : (.code yX6_takes cX6_takes 2 (some .boolean) : Cond) ∈ lw_tbl := List.mem_of_getElem? (i := 474) (by decide +kernel)
theorem wm_X6_takes : (.instanceMethod yX6_takes : Cond) ∈ lw_tbl := List.mem_of_getElem? (i := 473) (by decide +kernel)
theorem wv_X6_takes : (.selects RX6 yX6_takes yX6_takes : Cond) ∈ lw_tbl := List.mem_of_getElem? (i := 6) (by decide +kernel)
theorem wc_X6_takesWord : (.code yX6_takesWord cX6_takesWord 2 (some .boolean) : Cond) ∈ lw_tbl := List.mem_of_getElem? (i := 478) (by decide +kernel)
theorem wm_X6_takesWord : (.instanceMethod yX6_takesWord : Cond) ∈ lw_tbl := List.mem_of_getElem? (i := 477) (by decide +kernel)
theorem wv_X6_takesWord : (.selects RX6 yX6_takesWord yX6_takesWord : Cond) ∈ lw_tbl := List.mem_of_getElem? (i := 7) (by decide +kernel)
theorem wc_X6_takesNumber : (.code yX6_takesNumber cX6_takesNumber 4 (some .boolean) : Cond) ∈ lw_tbl := List.mem_of_getElem? (i := 485) (by decide +kernel)
theorem wm_X6_takesNumber : (.instanceMethod yX6_takesNumber : Cond) ∈ lw_tbl := List.mem_of_getElem? (i := 484) (by decide +kernel)
theorem wv_X6_takesNumber : (.selects RX6 yX6_takesNumber yX6_takesNumber : Cond) ∈ lw_tbl := List.mem_of_getElem? (i := 8) (by decide +kernel)
theorem wc_X6_addItem : (.code yX6_addItem cX6_addItem 1 none : Cond) ∈ lw_tbl := List.mem_of_getElem? (i := 494) (by decide +kernel)
theorem wm_X6_addItem : (.instanceMethod yX6_addItem : Cond) ∈ lw_tbl := List.mem_of_getElem? (i := 493) (by decide +kernel)
theorem wv_X6_addItem : (.selects RX6 yX6_addItem yX6_addItem : Cond) ∈ lw_tbl := List.mem_of_getElem? (i := 10) (by decide +kernel)
theorem wc_X6_numbersOf : (.code yX6_numbersOf cX6_numbersOf 1 (some .int) : Cond) ∈ lw_tbl := List.mem_of_getElem? (i := 481) (by decide +kernel)
theorem wt_X6_numbersOf : (.static yX6_numbersOf : Cond) ∈ lw_tbl := List.mem_of_getElem? (i := 480) (by decide +kernel)
theorem wc_X6_mostOf : (.code yX6_mostOf cX6_mostOf 3 (some .int) : Cond) ∈ lw_tbl := List.mem_of_getElem? (i := 489) (by decide +kernel)
theorem wm_X6_mostOf : (.instanceMethod yX6_mostOf : Cond) ∈ lw_tbl := List.mem_of_getElem? (i := 488) (by decide +kernel)
theorem wv_X6_mostOf : (.selects RX6 yX6_mostOf yX6_mostOf : Cond) ∈ lw_tbl := List.mem_of_getElem? (i := 9) (by decide +kernel)
theorem wc_X7_init : (.code yX7_init cX7_init 1 none : Cond) ∈ lw_tbl := List.mem_of_getElem? (i := 203) (by decide +kernel)
theorem wm_X7_init : (.instanceMethod yX7_init : Cond) ∈ lw_tbl := List.mem_of_getElem? (i := 202) (by decide +kernel)
theorem wc_X7_add : (.code yX7_add cX7_add 2 none : Cond) ∈ lw_tbl := List.mem_of_getElem? (i := 374) (by decide +kernel)
theorem wm_X7_add : (.instanceMethod yX7_add : Cond) ∈ lw_tbl := List.mem_of_getElem? (i := 372) (by decide +kernel)
theorem wv_X7_add : (.selects RX7 yX7_add yX7_add : Cond) ∈ lw_tbl := List.mem_of_getElem? (i := 373) (by decide +kernel)
theorem wc_X7_rewind : (.code yX7_rewind cX7_rewind 1 none : Cond) ∈ lw_tbl := List.mem_of_getElem? (i := 390) (by decide +kernel)
theorem wm_X7_rewind : (.instanceMethod yX7_rewind : Cond) ∈ lw_tbl := List.mem_of_getElem? (i := 388) (by decide +kernel)
theorem wv_X7_rewind : (.selects RX7 yX7_rewind yX7_rewind : Cond) ∈ lw_tbl := List.mem_of_getElem? (i := 389) (by decide +kernel)
theorem wc_X7_goOn : (.code yX7_goOn cX7_goOn 2 none : Cond) ∈ lw_tbl := List.mem_of_getElem? (i := 395) (by decide +kernel)
theorem wm_X7_goOn : (.instanceMethod yX7_goOn : Cond) ∈ lw_tbl := List.mem_of_getElem? (i := 393) (by decide +kernel)
theorem wv_X7_goOn : (.selects RX7 yX7_goOn yX7_goOn : Cond) ∈ lw_tbl := List.mem_of_getElem? (i := 394) (by decide +kernel)
theorem wc_X7_takeNumber : (.code yX7_takeNumber cX7_takeNumber 2 none : Cond) ∈ lw_tbl := List.mem_of_getElem? (i := 406) (by decide +kernel)
theorem wm_X7_takeNumber : (.instanceMethod yX7_takeNumber : Cond) ∈ lw_tbl := List.mem_of_getElem? (i := 405) (by decide +kernel)
theorem wv_X7_takeNumber : (.selects RX7 yX7_takeNumber yX7_takeNumber : Cond) ∈ lw_tbl := List.mem_of_getElem? (i := 3) (by decide +kernel)
theorem wc_X7_takeWord : (.code yX7_takeWord cX7_takeWord 2 none : Cond) ∈ lw_tbl := List.mem_of_getElem? (i := 413) (by decide +kernel)
theorem wm_X7_takeWord : (.instanceMethod yX7_takeWord : Cond) ∈ lw_tbl := List.mem_of_getElem? (i := 412) (by decide +kernel)
theorem wv_X7_takeWord : (.selects RX7 yX7_takeWord yX7_takeWord : Cond) ∈ lw_tbl := List.mem_of_getElem? (i := 4) (by decide +kernel)
theorem wc_X7_spells : (.code yX7_spells cX7_spells 3 (some .boolean) : Cond) ∈ lw_tbl := List.mem_of_getElem? (i := 418) (by decide +kernel)
theorem wm_X7_spells : (.instanceMethod yX7_spells : Cond) ∈ lw_tbl := List.mem_of_getElem? (i := 417) (by decide +kernel)
theorem wv_X7_spells : (.selects RX7 yX7_spells yX7_spells : Cond) ∈ lw_tbl := List.mem_of_getElem? (i := 5) (by decide +kernel)
theorem wc_X7_byteAt : (.code yX7_byteAt cX7_byteAt 2 (some .int) : Cond) ∈ lw_tbl := List.mem_of_getElem? (i := 399) (by decide +kernel)
theorem wm_X7_byteAt : (.instanceMethod yX7_byteAt : Cond) ∈ lw_tbl := List.mem_of_getElem? (i := 398) (by decide +kernel)
theorem wv_X7_byteAt : (.selects RX7 yX7_byteAt yX7_byteAt : Cond) ∈ lw_tbl := List.mem_of_getElem? (i := 2) (by decide +kernel)
theorem wc_X7_isFigure : (.code yX7_isFigure cX7_isFigure 1 (some .boolean) : Cond) ∈ lw_tbl := List.mem_of_getElem? (i := 402) (by decide +kernel)
theorem wt_X7_isFigure : (.static yX7_isFigure : Cond) ∈ lw_tbl := List.mem_of_getElem? (i := 401) (by decide +kernel)
theorem wc_X7_isLetter : (.code yX7_isLetter cX7_isLetter 1 (some .boolean) : Cond) ∈ lw_tbl := List.mem_of_getElem? (i := 409) (by decide +kernel)
theorem wt_X7_isLetter : (.static yX7_isLetter : Cond) ∈ lw_tbl := List.mem_of_getElem? (i := 408) (by decide +kernel)
theorem wc_X8_init : (.code yX8_init cX8_init 1 none : Cond) ∈ lw_tbl := List.mem_of_getElem? (i := 79) (by decide +kernel)
theorem wm_X8_init : (.instanceMethod yX8_init : Cond) ∈ lw_tbl := List.mem_of_getElem? (i := 78) (by decide +kernel)
theorem wc_X8_common : (.code yX8_common cX8_common 2 (some .int) : Cond) ∈ lw_tbl := List.mem_of_getElem? (i := 316) (by decide +kernel)
theorem wm_X8_common : (.instanceMethod yX8_common : Cond) ∈ lw_tbl := List.mem_of_getElem? (i := 314) (by decide +kernel)
theorem wv_X8_common : (.selects RX8 yX8_common yX8_common : Cond) ∈ lw_tbl := List.mem_of_getElem? (i := 315) (by decide +kernel)
theorem wc_X8_cosy : (.code yX8_cosy cX8_cosy 4 (some .int) : Cond) ∈ lw_tbl := List.mem_of_getElem? (i := 328) (by decide +kernel)
theorem wm_X8_cosy : (.instanceMethod yX8_cosy : Cond) ∈ lw_tbl := List.mem_of_getElem? (i := 326) (by decide +kernel)
theorem wv_X8_cosy : (.selects RX8 yX8_cosy yX8_cosy : Cond) ∈ lw_tbl := List.mem_of_getElem? (i := 327) (by decide +kernel)
theorem wc_X8_hunted : (.code yX8_hunted cX8_hunted 2 (some .int) : Cond) ∈ lw_tbl := List.mem_of_getElem? (i := 350) (by decide +kernel)
theorem wm_X8_hunted : (.instanceMethod yX8_hunted : Cond) ∈ lw_tbl := List.mem_of_getElem? (i := 348) (by decide +kernel)
theorem wv_X8_hunted : (.selects RX8 yX8_hunted yX8_hunted : Cond) ∈ lw_tbl := List.mem_of_getElem? (i := 349) (by decide +kernel)
theorem wc_X8_sheriff : (.code yX8_sheriff cX8_sheriff 2 (some .int) : Cond) ∈ lw_tbl := List.mem_of_getElem? (i := 362) (by decide +kernel)
theorem wm_X8_sheriff : (.instanceMethod yX8_sheriff : Cond) ∈ lw_tbl := List.mem_of_getElem? (i := 360) (by decide +kernel)
theorem wv_X8_sheriff : (.selects RX8 yX8_sheriff yX8_sheriff : Cond) ∈ lw_tbl := List.mem_of_getElem? (i := 361) (by decide +kernel)
theorem wc_X8_type : (.code yX8_type cX8_type 2 (some .int) : Cond) ∈ lw_tbl := List.mem_of_getElem? (i := 370) (by decide +kernel)
theorem wm_X8_type : (.instanceMethod yX8_type : Cond) ∈ lw_tbl := List.mem_of_getElem? (i := 368) (by decide +kernel)
theorem wv_X8_type : (.selects RX8 yX8_type yX8_type : Cond) ∈ lw_tbl := List.mem_of_getElem? (i := 369) (by decide +kernel)
theorem wc_X8_clear : (.code yX8_clear cX8_clear 2 (some .int) : Cond) ∈ lw_tbl := List.mem_of_getElem? (i := 378) (by decide +kernel)
theorem wm_X8_clear : (.instanceMethod yX8_clear : Cond) ∈ lw_tbl := List.mem_of_getElem? (i := 376) (by decide +kernel)
theorem wv_X8_clear : (.selects RX8 yX8_clear yX8_clear : Cond) ∈ lw_tbl := List.mem_of_getElem? (i := 377) (by decide +kernel)
theorem wc_X8_read : (.code yX8_read cX8_read 2 (some .int) : Cond) ∈ lw_tbl := List.mem_of_getElem? (i := 382) (by decide +kernel)
theorem wm_X8_read : (.instanceMethod yX8_read : Cond) ∈ lw_tbl := List.mem_of_getElem? (i := 380) (by decide +kernel)
theorem wv_X8_read : (.selects RX8 yX8_read yX8_read : Cond) ∈ lw_tbl := List.mem_of_getElem? (i := 381) (by decide +kernel)
theorem wc_X8_hour : (.code yX8_hour cX8_hour 3 (some .int) : Cond) ∈ lw_tbl := List.mem_of_getElem? (i := 514) (by decide +kernel)
theorem wm_X8_hour : (.instanceMethod yX8_hour : Cond) ∈ lw_tbl := List.mem_of_getElem? (i := 512) (by decide +kernel)
theorem wv_X8_hour : (.selects RX8 yX8_hour yX8_hour : Cond) ∈ lw_tbl := List.mem_of_getElem? (i := 513) (by decide +kernel)
theorem wc_X8_darn : (.code yX8_darn cX8_darn 4 (some .int) : Cond) ∈ lw_tbl := List.mem_of_getElem? (i := 610) (by decide +kernel)
theorem wm_X8_darn : (.instanceMethod yX8_darn : Cond) ∈ lw_tbl := List.mem_of_getElem? (i := 608) (by decide +kernel)
theorem wv_X8_darn : (.selects RX8 yX8_darn yX8_darn : Cond) ∈ lw_tbl := List.mem_of_getElem? (i := 609) (by decide +kernel)
theorem wc_X8_carry : (.code yX8_carry cX8_carry 4 (some .int) : Cond) ∈ lw_tbl := List.mem_of_getElem? (i := 620) (by decide +kernel)
theorem wm_X8_carry : (.instanceMethod yX8_carry : Cond) ∈ lw_tbl := List.mem_of_getElem? (i := 618) (by decide +kernel)
theorem wv_X8_carry : (.selects RX8 yX8_carry yX8_carry : Cond) ∈ lw_tbl := List.mem_of_getElem? (i := 619) (by decide +kernel)
theorem wc_X8_undo : (.code yX8_undo cX8_undo 1 (some .int) : Cond) ∈ lw_tbl := List.mem_of_getElem? (i := 628) (by decide +kernel)
theorem wm_X8_undo : (.instanceMethod yX8_undo : Cond) ∈ lw_tbl := List.mem_of_getElem? (i := 626) (by decide +kernel)
theorem wv_X8_undo : (.selects RX8 yX8_undo yX8_undo : Cond) ∈ lw_tbl := List.mem_of_getElem? (i := 627) (by decide +kernel)
theorem wc_X8_of : (.code yX8_of cX8_of 3 (some .int) : Cond) ∈ lw_tbl := List.mem_of_getElem? (i := 640) (by decide +kernel)
theorem wm_X8_of : (.instanceMethod yX8_of : Cond) ∈ lw_tbl := List.mem_of_getElem? (i := 638) (by decide +kernel)
theorem wv_X8_of : (.selects RX8 yX8_of yX8_of : Cond) ∈ lw_tbl := List.mem_of_getElem? (i := 639) (by decide +kernel)
theorem wc_X8_about : (.code yX8_about cX8_about 3 (some .int) : Cond) ∈ lw_tbl := List.mem_of_getElem? (i := 646) (by decide +kernel)
theorem wm_X8_about : (.instanceMethod yX8_about : Cond) ∈ lw_tbl := List.mem_of_getElem? (i := 644) (by decide +kernel)
theorem wv_X8_about : (.selects RX8 yX8_about yX8_about : Cond) ∈ lw_tbl := List.mem_of_getElem? (i := 645) (by decide +kernel)
theorem wc_X8_where : (.code yX8_where cX8_where 2 (some .int) : Cond) ∈ lw_tbl := List.mem_of_getElem? (i := 658) (by decide +kernel)
theorem wm_X8_where : (.instanceMethod yX8_where : Cond) ∈ lw_tbl := List.mem_of_getElem? (i := 656) (by decide +kernel)
theorem wv_X8_where : (.selects RX8 yX8_where yX8_where : Cond) ∈ lw_tbl := List.mem_of_getElem? (i := 657) (by decide +kernel)
theorem wc_X8_then : (.code yX8_then cX8_then 4 (some .int) : Cond) ∈ lw_tbl := List.mem_of_getElem? (i := 662) (by decide +kernel)
theorem wm_X8_then : (.instanceMethod yX8_then : Cond) ∈ lw_tbl := List.mem_of_getElem? (i := 660) (by decide +kernel)
theorem wv_X8_then : (.selects RX8 yX8_then yX8_then : Cond) ∈ lw_tbl := List.mem_of_getElem? (i := 661) (by decide +kernel)
theorem wc_X8_fate : (.code yX8_fate cX8_fate 3 (some .int) : Cond) ∈ lw_tbl := List.mem_of_getElem? (i := 670) (by decide +kernel)
theorem wm_X8_fate : (.instanceMethod yX8_fate : Cond) ∈ lw_tbl := List.mem_of_getElem? (i := 668) (by decide +kernel)
theorem wv_X8_fate : (.selects RX8 yX8_fate yX8_fate : Cond) ∈ lw_tbl := List.mem_of_getElem? (i := 669) (by decide +kernel)
theorem wc_X8_when : (.code yX8_when cX8_when 3 (some .int) : Cond) ∈ lw_tbl := List.mem_of_getElem? (i := 679) (by decide +kernel)
theorem wm_X8_when : (.instanceMethod yX8_when : Cond) ∈ lw_tbl := List.mem_of_getElem? (i := 677) (by decide +kernel)
theorem wv_X8_when : (.selects RX8 yX8_when yX8_when : Cond) ∈ lw_tbl := List.mem_of_getElem? (i := 678) (by decide +kernel)
theorem wc_X8_place : (.code yX8_place cX8_place 9 (some .int) : Cond) ∈ lw_tbl := List.mem_of_getElem? (i := 683) (by decide +kernel)
theorem wm_X8_place : (.instanceMethod yX8_place : Cond) ∈ lw_tbl := List.mem_of_getElem? (i := 681) (by decide +kernel)
theorem wv_X8_place : (.selects RX8 yX8_place yX8_place : Cond) ∈ lw_tbl := List.mem_of_getElem? (i := 682) (by decide +kernel)
theorem wc_X8_run : (.code yX8_run cX8_run 4 (some .int) : Cond) ∈ lw_tbl := List.mem_of_getElem? (i := 687) (by decide +kernel)
theorem wm_X8_run : (.instanceMethod yX8_run : Cond) ∈ lw_tbl := List.mem_of_getElem? (i := 685) (by decide +kernel)
theorem wv_X8_run : (.selects RX8 yX8_run yX8_run : Cond) ∈ lw_tbl := List.mem_of_getElem? (i := 686) (by decide +kernel)
theorem wc_X8_stitches : (.code yX8_stitches cX8_stitches 5 (some .int) : Cond) ∈ lw_tbl := List.mem_of_getElem? (i := 710) (by decide +kernel)
theorem wm_X8_stitches : (.instanceMethod yX8_stitches : Cond) ∈ lw_tbl := List.mem_of_getElem? (i := 708) (by decide +kernel)
theorem wv_X8_stitches : (.selects RX8 yX8_stitches yX8_stitches : Cond) ∈ lw_tbl := List.mem_of_getElem? (i := 709) (by decide +kernel)
theorem wc_X8_note : (.code yX8_note cX8_note 4 (some .int) : Cond) ∈ lw_tbl := List.mem_of_getElem? (i := 719) (by decide +kernel)
theorem wm_X8_note : (.instanceMethod yX8_note : Cond) ∈ lw_tbl := List.mem_of_getElem? (i := 717) (by decide +kernel)
theorem wv_X8_note : (.selects RX8 yX8_note yX8_note : Cond) ∈ lw_tbl := List.mem_of_getElem? (i := 718) (by decide +kernel)
theorem wc_X8_forget : (.code yX8_forget cX8_forget 2 (some .int) : Cond) ∈ lw_tbl := List.mem_of_getElem? (i := 727) (by decide +kernel)
theorem wm_X8_forget : (.instanceMethod yX8_forget : Cond) ∈ lw_tbl := List.mem_of_getElem? (i := 725) (by decide +kernel)
theorem wv_X8_forget : (.selects RX8 yX8_forget yX8_forget : Cond) ∈ lw_tbl := List.mem_of_getElem? (i := 726) (by decide +kernel)
theorem wc_X8_is : (.code yX8_is cX8_is 2 (some .int) : Cond) ∈ lw_tbl := List.mem_of_getElem? (i := 731) (by decide +kernel)
theorem wm_X8_is : (.instanceMethod yX8_is : Cond) ∈ lw_tbl := List.mem_of_getElem? (i := 729) (by decide +kernel)
theorem wv_X8_is : (.selects RX8 yX8_is yX8_is : Cond) ∈ lw_tbl := List.mem_of_getElem? (i := 730) (by decide +kernel)
theorem wc_X8_feel : (.code yX8_feel cX8_feel 7 (some .int) : Cond) ∈ lw_tbl := List.mem_of_getElem? (i := 743) (by decide +kernel)
theorem wm_X8_feel : (.instanceMethod yX8_feel : Cond) ∈ lw_tbl := List.mem_of_getElem? (i := 741) (by decide +kernel)
theorem wv_X8_feel : (.selects RX8 yX8_feel yX8_feel : Cond) ∈ lw_tbl := List.mem_of_getElem? (i := 742) (by decide +kernel)
theorem wc_X8_inside : (.code yX8_inside cX8_inside 9 (some .int) : Cond) ∈ lw_tbl := List.mem_of_getElem? (i := 751) (by decide +kernel)
theorem wm_X8_inside : (.instanceMethod yX8_inside : Cond) ∈ lw_tbl := List.mem_of_getElem? (i := 749) (by decide +kernel)
theorem wv_X8_inside : (.selects RX8 yX8_inside yX8_inside : Cond) ∈ lw_tbl := List.mem_of_getElem? (i := 750) (by decide +kernel)
theorem wc_X8_two : (.code yX8_two cX8_two 7 (some .int) : Cond) ∈ lw_tbl := List.mem_of_getElem? (i := 760) (by decide +kernel)
theorem wm_X8_two : (.instanceMethod yX8_two : Cond) ∈ lw_tbl := List.mem_of_getElem? (i := 758) (by decide +kernel)
theorem wv_X8_two : (.selects RX8 yX8_two yX8_two : Cond) ∈ lw_tbl := List.mem_of_getElem? (i := 759) (by decide +kernel)
theorem wc_X8_rain : (.code yX8_rain cX8_rain 4 (some .int) : Cond) ∈ lw_tbl := List.mem_of_getElem? (i := 777) (by decide +kernel)
theorem wm_X8_rain : (.instanceMethod yX8_rain : Cond) ∈ lw_tbl := List.mem_of_getElem? (i := 775) (by decide +kernel)
theorem wv_X8_rain : (.selects RX8 yX8_rain yX8_rain : Cond) ∈ lw_tbl := List.mem_of_getElem? (i := 776) (by decide +kernel)
theorem wc_X8_years : (.code yX8_years cX8_years 8 (some .int) : Cond) ∈ lw_tbl := List.mem_of_getElem? (i := 781) (by decide +kernel)
theorem wm_X8_years : (.instanceMethod yX8_years : Cond) ∈ lw_tbl := List.mem_of_getElem? (i := 779) (by decide +kernel)
theorem wv_X8_years : (.selects RX8 yX8_years yX8_years : Cond) ∈ lw_tbl := List.mem_of_getElem? (i := 780) (by decide +kernel)
theorem wc_X8_part : (.code yX8_part cX8_part 2 (some .long) : Cond) ∈ lw_tbl := List.mem_of_getElem? (i := 792) (by decide +kernel)
theorem wm_X8_part : (.instanceMethod yX8_part : Cond) ∈ lw_tbl := List.mem_of_getElem? (i := 790) (by decide +kernel)
theorem wv_X8_part : (.selects RX8 yX8_part yX8_part : Cond) ∈ lw_tbl := List.mem_of_getElem? (i := 791) (by decide +kernel)
theorem wc_X8_image : (.code yX8_image cX8_image 3 (some .int) : Cond) ∈ lw_tbl := List.mem_of_getElem? (i := 796) (by decide +kernel)
theorem wm_X8_image : (.instanceMethod yX8_image : Cond) ∈ lw_tbl := List.mem_of_getElem? (i := 794) (by decide +kernel)
theorem wv_X8_image : (.selects RX8 yX8_image yX8_image : Cond) ∈ lw_tbl := List.mem_of_getElem? (i := 795) (by decide +kernel)
theorem wc_X8_from : (.code yX8_from cX8_from 3 (some .int) : Cond) ∈ lw_tbl := List.mem_of_getElem? (i := 814) (by decide +kernel)
theorem wm_X8_from : (.instanceMethod yX8_from : Cond) ∈ lw_tbl := List.mem_of_getElem? (i := 812) (by decide +kernel)
theorem wv_X8_from : (.selects RX8 yX8_from yX8_from : Cond) ∈ lw_tbl := List.mem_of_getElem? (i := 813) (by decide +kernel)
theorem wc_X8_status : (.code yX8_status cX8_status 2 (some .int) : Cond) ∈ lw_tbl := List.mem_of_getElem? (i := 818) (by decide +kernel)
theorem wm_X8_status : (.instanceMethod yX8_status : Cond) ∈ lw_tbl := List.mem_of_getElem? (i := 816) (by decide +kernel)
theorem wv_X8_status : (.selects RX8 yX8_status yX8_status : Cond) ∈ lw_tbl := List.mem_of_getElem? (i := 817) (by decide +kernel)
theorem wc_X8_count : (.code yX8_count cX8_count 2 (some .int) : Cond) ∈ lw_tbl := List.mem_of_getElem? (i := 822) (by decide +kernel)
theorem wm_X8_count : (.instanceMethod yX8_count : Cond) ∈ lw_tbl := List.mem_of_getElem? (i := 820) (by decide +kernel)
theorem wv_X8_count : (.selects RX8 yX8_count yX8_count : Cond) ∈ lw_tbl := List.mem_of_getElem? (i := 821) (by decide +kernel)
theorem wc_X8_digest : (.code yX8_digest cX8_digest 4 (some .long) : Cond) ∈ lw_tbl := List.mem_of_getElem? (i := 830) (by decide +kernel)
theorem wm_X8_digest : (.instanceMethod yX8_digest : Cond) ∈ lw_tbl := List.mem_of_getElem? (i := 828) (by decide +kernel)
theorem wv_X8_digest : (.selects RX8 yX8_digest yX8_digest : Cond) ∈ lw_tbl := List.mem_of_getElem? (i := 829) (by decide +kernel)
theorem wc_X8_isIn : (.code yX8_isIn cX8_isIn 3 (some .boolean) : Cond) ∈ lw_tbl := List.mem_of_getElem? (i := 331) (by decide +kernel)
theorem wt_X8_isIn : (.static yX8_isIn : Cond) ∈ lw_tbl := List.mem_of_getElem? (i := 330) (by decide +kernel)
theorem wc_X8_isCell : (.code yX8_isCell cX8_isCell 1 (some .boolean) : Cond) ∈ lw_tbl := List.mem_of_getElem? (i := 334) (by decide +kernel)
theorem wt_X8_isCell : (.static yX8_isCell : Cond) ∈ lw_tbl := List.mem_of_getElem? (i := 333) (by decide +kernel)
theorem wc_X8_isCosy : (.code yX8_isCosy cX8_isCosy 2 (some .boolean) : Cond) ∈ lw_tbl := List.mem_of_getElem? (i := 614) (by decide +kernel)
theorem wm_X8_isCosy : (.instanceMethod yX8_isCosy : Cond) ∈ lw_tbl := List.mem_of_getElem? (i := 613) (by decide +kernel)
theorem wv_X8_isCosy : (.selects RX8 yX8_isCosy yX8_isCosy : Cond) ∈ lw_tbl := List.mem_of_getElem? (i := 20) (by decide +kernel)
theorem wc_X8_isOneHunted : (.code yX8_isOneHunted cX8_isOneHunted 2 (some .boolean) : Cond) ∈ lw_tbl := List.mem_of_getElem? (i := 650) (by decide +kernel)
theorem wm_X8_isOneHunted : (.instanceMethod yX8_isOneHunted : Cond) ∈ lw_tbl := List.mem_of_getElem? (i := 649) (by decide +kernel)
theorem wv_X8_isOneHunted : (.selects RX8 yX8_isOneHunted yX8_isOneHunted : Cond) ∈ lw_tbl := List.mem_of_getElem? (i := 22) (by decide +kernel)
theorem wc_X8_bad : (.code yX8_bad cX8_bad 2 (some .int) : Cond) ∈ lw_tbl := List.mem_of_getElem? (i := 338) (by decide +kernel)
theorem wm_X8_bad : (.instanceMethod yX8_bad : Cond) ∈ lw_tbl := List.mem_of_getElem? (i := 337) (by decide +kernel)
theorem wv_X8_bad : (.selects RX8 yX8_bad yX8_bad : Cond) ∈ lw_tbl := List.mem_of_getElem? (i := 0) (by decide +kernel)
theorem wc_X8_no : (.code yX8_no cX8_no 1 (some .int) : Cond) ∈ lw_tbl := List.mem_of_getElem? (i := 632) (by decide +kernel)
theorem wm_X8_no : (.instanceMethod yX8_no : Cond) ∈ lw_tbl := List.mem_of_getElem? (i := 631) (by decide +kernel)
theorem wv_X8_no : (.selects RX8 yX8_no yX8_no : Cond) ∈ lw_tbl := List.mem_of_getElem? (i := 21) (by decide +kernel)
theorem wc_X8_full : (.code yX8_full cX8_full 1 (some .int) : Cond) ∈ lw_tbl := List.mem_of_getElem? (i := 342) (by decide +kernel)
theorem wm_X8_full : (.instanceMethod yX8_full : Cond) ∈ lw_tbl := List.mem_of_getElem? (i := 341) (by decide +kernel)
theorem wv_X8_full : (.selects RX8 yX8_full yX8_full : Cond) ∈ lw_tbl := List.mem_of_getElem? (i := 1) (by decide +kernel)
theorem wc_X8_lookAhead : (.code yX8_lookAhead cX8_lookAhead 2 none : Cond) ∈ lw_tbl := List.mem_of_getElem? (i := 666) (by decide +kernel)
theorem wm_X8_lookAhead : (.instanceMethod yX8_lookAhead : Cond) ∈ lw_tbl := List.mem_of_getElem? (i := 665) (by decide +kernel)
theorem wv_X8_lookAhead : (.selects RX8 yX8_lookAhead yX8_lookAhead : Cond) ∈ lw_tbl := List.mem_of_getElem? (i := 23) (by decide +kernel)
theorem wc_X8_imageAt : (.code yX8_imageAt cX8_imageAt 2 (some (.object "CosyAsylum$Kept")) : Cond) ∈ lw_tbl := List.mem_of_getElem? (i := 800) (by decide +kernel)
theorem wm_X8_imageAt : (.instanceMethod yX8_imageAt : Cond) ∈ lw_tbl := List.mem_of_getElem? (i := 799) (by decide +kernel)
theorem wv_X8_imageAt : (.selects RX8 yX8_imageAt yX8_imageAt : Cond) ∈ lw_tbl := List.mem_of_getElem? (i := 31) (by decide +kernel)
theorem wc_X8_countOf : (.code yX8_countOf cX8_countOf 2 (some .int) : Cond) ∈ lw_tbl := List.mem_of_getElem? (i := 826) (by decide +kernel)
theorem wm_X8_countOf : (.instanceMethod yX8_countOf : Cond) ∈ lw_tbl := List.mem_of_getElem? (i := 825) (by decide +kernel)
theorem wv_X8_countOf : (.selects RX8 yX8_countOf yX8_countOf : Cond) ∈ lw_tbl := List.mem_of_getElem? (i := 32) (by decide +kernel)
theorem wc_X8_holdsAs : (.code yX8_holdsAs cX8_holdsAs 4 (some .int) : Cond) ∈ lw_tbl := List.mem_of_getElem? (i := 714) (by decide +kernel)
theorem wm_X8_holdsAs : (.instanceMethod yX8_holdsAs : Cond) ∈ lw_tbl := List.mem_of_getElem? (i := 713) (by decide +kernel)
theorem wv_X8_holdsAs : (.selects RX8 yX8_holdsAs yX8_holdsAs : Cond) ∈ lw_tbl := List.mem_of_getElem? (i := 25) (by decide +kernel)
theorem wc_X8_fittingKinds : (.code yX8_fittingKinds cX8_fittingKinds 4 (some .int) : Cond) ∈ lw_tbl := List.mem_of_getElem? (i := 735) (by decide +kernel)
theorem wm_X8_fittingKinds : (.instanceMethod yX8_fittingKinds : Cond) ∈ lw_tbl := List.mem_of_getElem? (i := 734) (by decide +kernel)
theorem wv_X8_fittingKinds : (.selects RX8 yX8_fittingKinds yX8_fittingKinds : Cond) ∈ lw_tbl := List.mem_of_getElem? (i := 26) (by decide +kernel)
theorem wc_X8_fitsNotes : (.code yX8_fitsNotes cX8_fitsNotes 4 (some .boolean) : Cond) ∈ lw_tbl := List.mem_of_getElem? (i := 739) (by decide +kernel)
theorem wm_X8_fitsNotes : (.instanceMethod yX8_fitsNotes : Cond) ∈ lw_tbl := List.mem_of_getElem? (i := 738) (by decide +kernel)
theorem wv_X8_fitsNotes : (.selects RX8 yX8_fitsNotes yX8_fitsNotes : Cond) ∈ lw_tbl := List.mem_of_getElem? (i := 27) (by decide +kernel)
theorem wc_X8_mostAlike : (.code yX8_mostAlike cX8_mostAlike 8 (some .int) : Cond) ∈ lw_tbl := List.mem_of_getElem? (i := 747) (by decide +kernel)
theorem wm_X8_mostAlike : (.instanceMethod yX8_mostAlike : Cond) ∈ lw_tbl := List.mem_of_getElem? (i := 746) (by decide +kernel)
theorem wv_X8_mostAlike : (.selects RX8 yX8_mostAlike yX8_mostAlike : Cond) ∈ lw_tbl := List.mem_of_getElem? (i := 28) (by decide +kernel)
theorem wc_X8_rests : (.code yX8_rests cX8_rests 7 (some .boolean) : Cond) ∈ lw_tbl := List.mem_of_getElem? (i := 764) (by decide +kernel)
theorem wm_X8_rests : (.instanceMethod yX8_rests : Cond) ∈ lw_tbl := List.mem_of_getElem? (i := 763) (by decide +kernel)
theorem wv_X8_rests : (.selects RX8 yX8_rests yX8_rests : Cond) ∈ lw_tbl := List.mem_of_getElem? (i := 29) (by decide +kernel)
theorem wc_X8_getsBy : (.code yX8_getsBy cX8_getsBy 8 (some .int) : Cond) ∈ lw_tbl := List.mem_of_getElem? (i := 768) (by decide +kernel)
theorem wm_X8_getsBy : (.instanceMethod yX8_getsBy : Cond) ∈ lw_tbl := List.mem_of_getElem? (i := 767) (by decide +kernel)
theorem wv_X8_getsBy : (.selects RX8 yX8_getsBy yX8_getsBy : Cond) ∈ lw_tbl := List.mem_of_getElem? (i := 30) (by decide +kernel)
theorem wc_X9_init : (.code yX9_init cX9_init 1 none : Cond) ∈ lw_tbl := List.mem_of_getElem? (i := 848) (by decide +kernel)
theorem wm_X9_init : (.instanceMethod yX9_init : Cond) ∈ lw_tbl := List.mem_of_getElem? (i := 847) (by decide +kernel)
theorem wc_X9_in : (.code yX9_in cX9_in 3 (some .boolean) : Cond) ∈ lw_tbl := List.mem_of_getElem? (i := 916) (by decide +kernel)
theorem wt_X9_in : (.static yX9_in : Cond) ∈ lw_tbl := List.mem_of_getElem? (i := 915) (by decide +kernel)
theorem wc_X9_bits : (.code yX9_bits cX9_bits 3 (some .int) : Cond) ∈ lw_tbl := List.mem_of_getElem? (i := 1035) (by decide +kernel)
theorem wt_X9_bits : (.static yX9_bits : Cond) ∈ lw_tbl := List.mem_of_getElem? (i := 1034) (by decide +kernel)
theorem wc_X9_badBy : (.code yX9_badBy cX9_badBy 2 (some .int) : Cond) ∈ lw_tbl := List.mem_of_getElem? (i := 927) (by decide +kernel)
theorem wm_X9_badBy : (.instanceMethod yX9_badBy : Cond) ∈ lw_tbl := List.mem_of_getElem? (i := 926) (by decide +kernel)
theorem wv_X9_badBy : (.selects RX9 yX9_badBy yX9_badBy : Cond) ∈ lw_tbl := List.mem_of_getElem? (i := 34) (by decide +kernel)
theorem wc_X9_bad : (.code yX9_bad cX9_bad 1 (some .int) : Cond) ∈ lw_tbl := List.mem_of_getElem? (i := 923) (by decide +kernel)
theorem wm_X9_bad : (.instanceMethod yX9_bad : Cond) ∈ lw_tbl := List.mem_of_getElem? (i := 922) (by decide +kernel)
theorem wv_X9_bad : (.selects RX9 yX9_bad yX9_bad : Cond) ∈ lw_tbl := List.mem_of_getElem? (i := 33) (by decide +kernel)
theorem wc_X9_no : (.code yX9_no cX9_no 1 (some .int) : Cond) ∈ lw_tbl := List.mem_of_getElem? (i := 1082) (by decide +kernel)
theorem wm_X9_no : (.instanceMethod yX9_no : Cond) ∈ lw_tbl := List.mem_of_getElem? (i := 1081) (by decide +kernel)
theorem wv_X9_no : (.selects RX9 yX9_no yX9_no : Cond) ∈ lw_tbl := List.mem_of_getElem? (i := 47) (by decide +kernel)
theorem wc_X9_full : (.code yX9_full cX9_full 1 (some .int) : Cond) ∈ lw_tbl := List.mem_of_getElem? (i := 931) (by decide +kernel)
theorem wm_X9_full : (.instanceMethod yX9_full : Cond) ∈ lw_tbl := List.mem_of_getElem? (i := 930) (by decide +kernel)
theorem wv_X9_full : (.selects RX9 yX9_full yX9_full : Cond) ∈ lw_tbl := List.mem_of_getElem? (i := 35) (by decide +kernel)
theorem wc_X9_isCosy : (.code yX9_isCosy cX9_isCosy 2 (some .boolean) : Cond) ∈ lw_tbl := List.mem_of_getElem? (i := 1067) (by decide +kernel)
theorem wm_X9_isCosy : (.instanceMethod yX9_isCosy : Cond) ∈ lw_tbl := List.mem_of_getElem? (i := 1066) (by decide +kernel)
theorem wv_X9_isCosy : (.selects RX9 yX9_isCosy yX9_isCosy : Cond) ∈ lw_tbl := List.mem_of_getElem? (i := 46) (by decide +kernel)
theorem wc_X9_isHunted : (.code yX9_isHunted cX9_isHunted 2 (some .boolean) : Cond) ∈ lw_tbl := List.mem_of_getElem? (i := 1094) (by decide +kernel)
theorem wm_X9_isHunted : (.instanceMethod yX9_isHunted : Cond) ∈ lw_tbl := List.mem_of_getElem? (i := 1093) (by decide +kernel)
theorem wv_X9_isHunted : (.selects RX9 yX9_isHunted yX9_isHunted : Cond) ∈ lw_tbl := List.mem_of_getElem? (i := 48) (by decide +kernel)
theorem wc_X9_isCell : (.code yX9_isCell cX9_isCell 1 (some .boolean) : Cond) ∈ lw_tbl := List.mem_of_getElem? (i := 919) (by decide +kernel)
theorem wt_X9_isCell : (.static yX9_isCell : Cond) ∈ lw_tbl := List.mem_of_getElem? (i := 918) (by decide +kernel)
theorem wc_X9_bring : (.code yX9_bring cX9_bring 6 none : Cond) ∈ lw_tbl := List.mem_of_getElem? (i := 1006) (by decide +kernel)
theorem wt_X9_bring : (.static yX9_bring : Cond) ∈ lw_tbl := List.mem_of_getElem? (i := 1005) (by decide +kernel)
theorem wc_X9_begin : (.code yX9_begin cX9_begin 2 none : Cond) ∈ lw_tbl := List.mem_of_getElem? (i := 909) (by decide +kernel)
theorem wt_X9_begin : (.static yX9_begin : Cond) ∈ lw_tbl := List.mem_of_getElem? (i := 908) (by decide +kernel)
theorem wc_X9_common : (.code yX9_common cX9_common 2 (some .int) : Cond) ∈ lw_tbl := List.mem_of_getElem? (i := 906) (by decide +kernel)
theorem wm_X9_common : (.instanceMethod yX9_common : Cond) ∈ lw_tbl := List.mem_of_getElem? (i := 904) (by decide +kernel)
theorem wv_X9_common : (.selects RX9 yX9_common yX9_common : Cond) ∈ lw_tbl := List.mem_of_getElem? (i := 905) (by decide +kernel)
theorem wc_X9_addCosy : (.code yX9_addCosy cX9_addCosy 5 (some .int) : Cond) ∈ lw_tbl := List.mem_of_getElem? (i := 934) (by decide +kernel)
theorem wt_X9_addCosy : (.static yX9_addCosy : Cond) ∈ lw_tbl := List.mem_of_getElem? (i := 933) (by decide +kernel)
theorem wc_X9_cosy : (.code yX9_cosy cX9_cosy 4 (some .int) : Cond) ∈ lw_tbl := List.mem_of_getElem? (i := 913) (by decide +kernel)
theorem wm_X9_cosy : (.instanceMethod yX9_cosy : Cond) ∈ lw_tbl := List.mem_of_getElem? (i := 911) (by decide +kernel)
theorem wv_X9_cosy : (.selects RX9 yX9_cosy yX9_cosy : Cond) ∈ lw_tbl := List.mem_of_getElem? (i := 912) (by decide +kernel)
theorem wc_X9_addHunted : (.code yX9_addHunted cX9_addHunted 3 (some .int) : Cond) ∈ lw_tbl := List.mem_of_getElem? (i := 941) (by decide +kernel)
theorem wt_X9_addHunted : (.static yX9_addHunted : Cond) ∈ lw_tbl := List.mem_of_getElem? (i := 940) (by decide +kernel)
theorem wc_X9_hunted : (.code yX9_hunted cX9_hunted 2 (some .int) : Cond) ∈ lw_tbl := List.mem_of_getElem? (i := 938) (by decide +kernel)
theorem wm_X9_hunted : (.instanceMethod yX9_hunted : Cond) ∈ lw_tbl := List.mem_of_getElem? (i := 936) (by decide +kernel)
theorem wv_X9_hunted : (.selects RX9 yX9_hunted yX9_hunted : Cond) ∈ lw_tbl := List.mem_of_getElem? (i := 937) (by decide +kernel)
theorem wc_X9_addSheriff : (.code yX9_addSheriff cX9_addSheriff 3 (some .int) : Cond) ∈ lw_tbl := List.mem_of_getElem? (i := 948) (by decide +kernel)
theorem wt_X9_addSheriff : (.static yX9_addSheriff : Cond) ∈ lw_tbl := List.mem_of_getElem? (i := 947) (by decide +kernel)
theorem wc_X9_sheriff : (.code yX9_sheriff cX9_sheriff 2 (some .int) : Cond) ∈ lw_tbl := List.mem_of_getElem? (i := 945) (by decide +kernel)
theorem wm_X9_sheriff : (.instanceMethod yX9_sheriff : Cond) ∈ lw_tbl := List.mem_of_getElem? (i := 943) (by decide +kernel)
theorem wv_X9_sheriff : (.selects RX9 yX9_sheriff yX9_sheriff : Cond) ∈ lw_tbl := List.mem_of_getElem? (i := 944) (by decide +kernel)
theorem wc_X9_type : (.code yX9_type cX9_type 2 (some .int) : Cond) ∈ lw_tbl := List.mem_of_getElem? (i := 952) (by decide +kernel)
theorem wm_X9_type : (.instanceMethod yX9_type : Cond) ∈ lw_tbl := List.mem_of_getElem? (i := 950) (by decide +kernel)
theorem wv_X9_type : (.selects RX9 yX9_type yX9_type : Cond) ∈ lw_tbl := List.mem_of_getElem? (i := 951) (by decide +kernel)
theorem wc_X9_clear : (.code yX9_clear cX9_clear 2 (some .int) : Cond) ∈ lw_tbl := List.mem_of_getElem? (i := 956) (by decide +kernel)
theorem wm_X9_clear : (.instanceMethod yX9_clear : Cond) ∈ lw_tbl := List.mem_of_getElem? (i := 954) (by decide +kernel)
theorem wv_X9_clear : (.selects RX9 yX9_clear yX9_clear : Cond) ∈ lw_tbl := List.mem_of_getElem? (i := 955) (by decide +kernel)
theorem wc_X9_kindAt : (.code yX9_kindAt cX9_kindAt 3 (some .int) : Cond) ∈ lw_tbl := List.mem_of_getElem? (i := 972) (by decide +kernel)
theorem wm_X9_kindAt : (.instanceMethod yX9_kindAt : Cond) ∈ lw_tbl := List.mem_of_getElem? (i := 971) (by decide +kernel)
theorem wv_X9_kindAt : (.selects RX9 yX9_kindAt yX9_kindAt : Cond) ∈ lw_tbl := List.mem_of_getElem? (i := 38) (by decide +kernel)
theorem wc_X9_nextToken : (.code yX9_nextToken cX9_nextToken 2 none : Cond) ∈ lw_tbl := List.mem_of_getElem? (i := 968) (by decide +kernel)
theorem wm_X9_nextToken : (.instanceMethod yX9_nextToken : Cond) ∈ lw_tbl := List.mem_of_getElem? (i := 967) (by decide +kernel)
theorem wv_X9_nextToken : (.selects RX9 yX9_nextToken yX9_nextToken : Cond) ∈ lw_tbl := List.mem_of_getElem? (i := 37) (by decide +kernel)
theorem wc_X9_isNumber : (.code yX9_isNumber cX9_isNumber 3 (some .boolean) : Cond) ∈ lw_tbl := List.mem_of_getElem? (i := 988) (by decide +kernel)
theorem wm_X9_isNumber : (.instanceMethod yX9_isNumber : Cond) ∈ lw_tbl := List.mem_of_getElem? (i := 987) (by decide +kernel)
theorem wv_X9_isNumber : (.selects RX9 yX9_isNumber yX9_isNumber : Cond) ∈ lw_tbl := List.mem_of_getElem? (i := 41) (by decide +kernel)
theorem wc_X9_isCosyItem : (.code yX9_isCosyItem cX9_isCosyItem 3 (some .boolean) : Cond) ∈ lw_tbl := List.mem_of_getElem? (i := 984) (by decide +kernel)
theorem wm_X9_isCosyItem : (.instanceMethod yX9_isCosyItem : Cond) ∈ lw_tbl := List.mem_of_getElem? (i := 983) (by decide +kernel)
theorem wv_X9_isCosyItem : (.selects RX9 yX9_isCosyItem yX9_isCosyItem : Cond) ∈ lw_tbl := List.mem_of_getElem? (i := 40) (by decide +kernel)
theorem wc_X9_isHuntedItem : (.code yX9_isHuntedItem cX9_isHuntedItem 1 (some .boolean) : Cond) ∈ lw_tbl := List.mem_of_getElem? (i := 993) (by decide +kernel)
theorem wm_X9_isHuntedItem : (.instanceMethod yX9_isHuntedItem : Cond) ∈ lw_tbl := List.mem_of_getElem? (i := 992) (by decide +kernel)
theorem wv_X9_isHuntedItem : (.selects RX9 yX9_isHuntedItem yX9_isHuntedItem : Cond) ∈ lw_tbl := List.mem_of_getElem? (i := 42) (by decide +kernel)
theorem wc_X9_isSheriffItem : (.code yX9_isSheriffItem cX9_isSheriffItem 1 (some .boolean) : Cond) ∈ lw_tbl := List.mem_of_getElem? (i := 998) (by decide +kernel)
theorem wm_X9_isSheriffItem : (.instanceMethod yX9_isSheriffItem : Cond) ∈ lw_tbl := List.mem_of_getElem? (i := 997) (by decide +kernel)
theorem wv_X9_isSheriffItem : (.selects RX9 yX9_isSheriffItem yX9_isSheriffItem : Cond) ∈ lw_tbl := List.mem_of_getElem? (i := 43) (by decide +kernel)
theorem wc_X9_isWearItem : (.code yX9_isWearItem cX9_isWearItem 2 (some .boolean) : Cond) ∈ lw_tbl := List.mem_of_getElem? (i := 1003) (by decide +kernel)
theorem wm_X9_isWearItem : (.instanceMethod yX9_isWearItem : Cond) ∈ lw_tbl := List.mem_of_getElem? (i := 1002) (by decide +kernel)
theorem wv_X9_isWearItem : (.selects RX9 yX9_isWearItem yX9_isWearItem : Cond) ∈ lw_tbl := List.mem_of_getElem? (i := 44) (by decide +kernel)
theorem wc_X9_isItem : (.code yX9_isItem cX9_isItem 2 (some .boolean) : Cond) ∈ lw_tbl := List.mem_of_getElem? (i := 978) (by decide +kernel)
theorem wm_X9_isItem : (.instanceMethod yX9_isItem : Cond) ∈ lw_tbl := List.mem_of_getElem? (i := 977) (by decide +kernel)
theorem wv_X9_isItem : (.selects RX9 yX9_isItem yX9_isItem : Cond) ∈ lw_tbl := List.mem_of_getElem? (i := 39) (by decide +kernel)
theorem wc_X9_isRead : (.code yX9_isRead cX9_isRead 1 (some .boolean) : Cond) ∈ lw_tbl := List.mem_of_getElem? (i := 964) (by decide +kernel)
theorem wm_X9_isRead : (.instanceMethod yX9_isRead : Cond) ∈ lw_tbl := List.mem_of_getElem? (i := 963) (by decide +kernel)
theorem wv_X9_isRead : (.selects RX9 yX9_isRead yX9_isRead : Cond) ∈ lw_tbl := List.mem_of_getElem? (i := 36) (by decide +kernel)
theorem wc_X9_read : (.code yX9_read cX9_read 1 (some .int) : Cond) ∈ lw_tbl := List.mem_of_getElem? (i := 960) (by decide +kernel)
theorem wm_X9_read : (.instanceMethod yX9_read : Cond) ∈ lw_tbl := List.mem_of_getElem? (i := 958) (by decide +kernel)
theorem wv_X9_read : (.selects RX9 yX9_read yX9_read : Cond) ∈ lw_tbl := List.mem_of_getElem? (i := 959) (by decide +kernel)
theorem wc_X9_holdsBy : (.code yX9_holdsBy cX9_holdsBy 5 (some .int) : Cond) ∈ lw_tbl := List.mem_of_getElem? (i := 1029) (by decide +kernel)
theorem wt_X9_holdsBy : (.static yX9_holdsBy : Cond) ∈ lw_tbl := List.mem_of_getElem? (i := 1028) (by decide +kernel)
theorem wc_X9_wearsBy : (.code yX9_wearsBy cX9_wearsBy 2 (some .int) : Cond) ∈ lw_tbl := List.mem_of_getElem? (i := 1056) (by decide +kernel)
theorem wt_X9_wearsBy : (.static yX9_wearsBy : Cond) ∈ lw_tbl := List.mem_of_getElem? (i := 1055) (by decide +kernel)
theorem wc_X9_holds : (.code yX9_holds cX9_holds 2 (some .int) : Cond) ∈ lw_tbl := List.mem_of_getElem? (i := 1026) (by decide +kernel)
theorem wt_X9_holds : (.static yX9_holds : Cond) ∈ lw_tbl := List.mem_of_getElem? (i := 1025) (by decide +kernel)
theorem wc_X9_underIn : (.code yX9_underIn cX9_underIn 4 (some .int) : Cond) ∈ lw_tbl := List.mem_of_getElem? (i := 1032) (by decide +kernel)
theorem wt_X9_underIn : (.static yX9_underIn : Cond) ∈ lw_tbl := List.mem_of_getElem? (i := 1031) (by decide +kernel)
theorem wc_X9_away : (.code yX9_away cX9_away 1 (some .int) : Cond) ∈ lw_tbl := List.mem_of_getElem? (i := 1041) (by decide +kernel)
theorem wt_X9_away : (.static yX9_away : Cond) ∈ lw_tbl := List.mem_of_getElem? (i := 1040) (by decide +kernel)
theorem wc_X9_far : (.code yX9_far cX9_far 2 (some .int) : Cond) ∈ lw_tbl := List.mem_of_getElem? (i := 1038) (by decide +kernel)
theorem wt_X9_far : (.static yX9_far : Cond) ∈ lw_tbl := List.mem_of_getElem? (i := 1037) (by decide +kernel)
theorem wc_X9_step : (.code yX9_step cX9_step 4 (some .int) : Cond) ∈ lw_tbl := List.mem_of_getElem? (i := 1044) (by decide +kernel)
theorem wt_X9_step : (.static yX9_step : Cond) ∈ lw_tbl := List.mem_of_getElem? (i := 1043) (by decide +kernel)
theorem wc_X9_goal : (.code yX9_goal cX9_goal 6 (some .int) : Cond) ∈ lw_tbl := List.mem_of_getElem? (i := 1023) (by decide +kernel)
theorem wt_X9_goal : (.static yX9_goal : Cond) ∈ lw_tbl := List.mem_of_getElem? (i := 1022) (by decide +kernel)
theorem wc_X9_goes : (.code yX9_goes cX9_goes 3 none : Cond) ∈ lw_tbl := List.mem_of_getElem? (i := 1020) (by decide +kernel)
theorem wt_X9_goes : (.static yX9_goes : Cond) ∈ lw_tbl := List.mem_of_getElem? (i := 1019) (by decide +kernel)
theorem wc_X9_hunts : (.code yX9_hunts cX9_hunts 5 none : Cond) ∈ lw_tbl := List.mem_of_getElem? (i := 1050) (by decide +kernel)
theorem wt_X9_hunts : (.static yX9_hunts : Cond) ∈ lw_tbl := List.mem_of_getElem? (i := 1049) (by decide +kernel)
theorem wc_X9_wears : (.code yX9_wears cX9_wears 5 none : Cond) ∈ lw_tbl := List.mem_of_getElem? (i := 1053) (by decide +kernel)
theorem wt_X9_wears : (.static yX9_wears : Cond) ∈ lw_tbl := List.mem_of_getElem? (i := 1052) (by decide +kernel)
theorem wc_X9_endHour : (.code yX9_endHour cX9_endHour 2 none : Cond) ∈ lw_tbl := List.mem_of_getElem? (i := 1047) (by decide +kernel)
theorem wt_X9_endHour : (.static yX9_endHour : Cond) ∈ lw_tbl := List.mem_of_getElem? (i := 1046) (by decide +kernel)
theorem wc_X9_goBy : (.code yX9_goBy cX9_goBy 2 none : Cond) ∈ lw_tbl := List.mem_of_getElem? (i := 1017) (by decide +kernel)
theorem wt_X9_goBy : (.static yX9_goBy : Cond) ∈ lw_tbl := List.mem_of_getElem? (i := 1016) (by decide +kernel)
theorem wc_X9_takenIn : (.code yX9_takenIn cX9_takenIn 3 (some .int) : Cond) ∈ lw_tbl := List.mem_of_getElem? (i := 1059) (by decide +kernel)
theorem wt_X9_takenIn : (.static yX9_takenIn : Cond) ∈ lw_tbl := List.mem_of_getElem? (i := 1058) (by decide +kernel)
theorem wc_X9_underAll : (.code yX9_underAll cX9_underAll 3 (some .int) : Cond) ∈ lw_tbl := List.mem_of_getElem? (i := 1120) (by decide +kernel)
theorem wt_X9_underAll : (.static yX9_underAll : Cond) ∈ lw_tbl := List.mem_of_getElem? (i := 1119) (by decide +kernel)
theorem wc_X9_keepBack : (.code yX9_keepBack cX9_keepBack 1 none : Cond) ∈ lw_tbl := List.mem_of_getElem? (i := 1014) (by decide +kernel)
theorem wm_X9_keepBack : (.instanceMethod yX9_keepBack : Cond) ∈ lw_tbl := List.mem_of_getElem? (i := 1013) (by decide +kernel)
theorem wv_X9_keepBack : (.selects RX9 yX9_keepBack yX9_keepBack : Cond) ∈ lw_tbl := List.mem_of_getElem? (i := 45) (by decide +kernel)
theorem wc_X9_hour : (.code yX9_hour cX9_hour 3 (some .int) : Cond) ∈ lw_tbl := List.mem_of_getElem? (i := 1010) (by decide +kernel)
theorem wm_X9_hour : (.instanceMethod yX9_hour : Cond) ∈ lw_tbl := List.mem_of_getElem? (i := 1008) (by decide +kernel)
theorem wv_X9_hour : (.selects RX9 yX9_hour yX9_hour : Cond) ∈ lw_tbl := List.mem_of_getElem? (i := 1009) (by decide +kernel)
theorem wc_X9_darn : (.code yX9_darn cX9_darn 3 (some .int) : Cond) ∈ lw_tbl := List.mem_of_getElem? (i := 1063) (by decide +kernel)
theorem wm_X9_darn : (.instanceMethod yX9_darn : Cond) ∈ lw_tbl := List.mem_of_getElem? (i := 1061) (by decide +kernel)
theorem wv_X9_darn : (.selects RX9 yX9_darn yX9_darn : Cond) ∈ lw_tbl := List.mem_of_getElem? (i := 1062) (by decide +kernel)
theorem wc_X9_bringTo : (.code yX9_bringTo cX9_bringTo 4 none : Cond) ∈ lw_tbl := List.mem_of_getElem? (i := 1074) (by decide +kernel)
theorem wt_X9_bringTo : (.static yX9_bringTo : Cond) ∈ lw_tbl := List.mem_of_getElem? (i := 1073) (by decide +kernel)
theorem wc_X9_carry : (.code yX9_carry cX9_carry 4 (some .int) : Cond) ∈ lw_tbl := List.mem_of_getElem? (i := 1071) (by decide +kernel)
theorem wm_X9_carry : (.instanceMethod yX9_carry : Cond) ∈ lw_tbl := List.mem_of_getElem? (i := 1069) (by decide +kernel)
theorem wv_X9_carry : (.selects RX9 yX9_carry yX9_carry : Cond) ∈ lw_tbl := List.mem_of_getElem? (i := 1070) (by decide +kernel)
theorem wc_X9_undo : (.code yX9_undo cX9_undo 1 (some .int) : Cond) ∈ lw_tbl := List.mem_of_getElem? (i := 1078) (by decide +kernel)
theorem wm_X9_undo : (.instanceMethod yX9_undo : Cond) ∈ lw_tbl := List.mem_of_getElem? (i := 1076) (by decide +kernel)
theorem wv_X9_undo : (.selects RX9 yX9_undo yX9_undo : Cond) ∈ lw_tbl := List.mem_of_getElem? (i := 1077) (by decide +kernel)
theorem wc_X9_of : (.code yX9_of cX9_of 3 (some .int) : Cond) ∈ lw_tbl := List.mem_of_getElem? (i := 1086) (by decide +kernel)
theorem wm_X9_of : (.instanceMethod yX9_of : Cond) ∈ lw_tbl := List.mem_of_getElem? (i := 1084) (by decide +kernel)
theorem wv_X9_of : (.selects RX9 yX9_of yX9_of : Cond) ∈ lw_tbl := List.mem_of_getElem? (i := 1085) (by decide +kernel)
theorem wc_X9_aboutIn : (.code yX9_aboutIn cX9_aboutIn 4 (some .int) : Cond) ∈ lw_tbl := List.mem_of_getElem? (i := 1097) (by decide +kernel)
theorem wt_X9_aboutIn : (.static yX9_aboutIn : Cond) ∈ lw_tbl := List.mem_of_getElem? (i := 1096) (by decide +kernel)
theorem wc_X9_about : (.code yX9_about cX9_about 3 (some .int) : Cond) ∈ lw_tbl := List.mem_of_getElem? (i := 1090) (by decide +kernel)
theorem wm_X9_about : (.instanceMethod yX9_about : Cond) ∈ lw_tbl := List.mem_of_getElem? (i := 1088) (by decide +kernel)
theorem wv_X9_about : (.selects RX9 yX9_about yX9_about : Cond) ∈ lw_tbl := List.mem_of_getElem? (i := 1089) (by decide +kernel)
theorem wc_X9_where : (.code yX9_where cX9_where 2 (some .int) : Cond) ∈ lw_tbl := List.mem_of_getElem? (i := 1101) (by decide +kernel)
theorem wm_X9_where : (.instanceMethod yX9_where : Cond) ∈ lw_tbl := List.mem_of_getElem? (i := 1099) (by decide +kernel)
theorem wv_X9_where : (.selects RX9 yX9_where yX9_where : Cond) ∈ lw_tbl := List.mem_of_getElem? (i := 1100) (by decide +kernel)
theorem wc_X9_copyNow : (.code yX9_copyNow cX9_copyNow 1 none : Cond) ∈ lw_tbl := List.mem_of_getElem? (i := 1109) (by decide +kernel)
theorem wm_X9_copyNow : (.instanceMethod yX9_copyNow : Cond) ∈ lw_tbl := List.mem_of_getElem? (i := 1108) (by decide +kernel)
theorem wv_X9_copyNow : (.selects RX9 yX9_copyNow yX9_copyNow : Cond) ∈ lw_tbl := List.mem_of_getElem? (i := 49) (by decide +kernel)
theorem wc_X9_goOn : (.code yX9_goOn cX9_goOn 3 none : Cond) ∈ lw_tbl := List.mem_of_getElem? (i := 1113) (by decide +kernel)
theorem wm_X9_goOn : (.instanceMethod yX9_goOn : Cond) ∈ lw_tbl := List.mem_of_getElem? (i := 1112) (by decide +kernel)
theorem wv_X9_goOn : (.selects RX9 yX9_goOn yX9_goOn : Cond) ∈ lw_tbl := List.mem_of_getElem? (i := 50) (by decide +kernel)
theorem wc_X9_then : (.code yX9_then cX9_then 4 (some .int) : Cond) ∈ lw_tbl := List.mem_of_getElem? (i := 1105) (by decide +kernel)
theorem wm_X9_then : (.instanceMethod yX9_then : Cond) ∈ lw_tbl := List.mem_of_getElem? (i := 1103) (by decide +kernel)
theorem wv_X9_then : (.selects RX9 yX9_then yX9_then : Cond) ∈ lw_tbl := List.mem_of_getElem? (i := 1104) (by decide +kernel)
theorem wc_X9_fate : (.code yX9_fate cX9_fate 3 (some .int) : Cond) ∈ lw_tbl := List.mem_of_getElem? (i := 1117) (by decide +kernel)
theorem wm_X9_fate : (.instanceMethod yX9_fate : Cond) ∈ lw_tbl := List.mem_of_getElem? (i := 1115) (by decide +kernel)
theorem wv_X9_fate : (.selects RX9 yX9_fate yX9_fate : Cond) ∈ lw_tbl := List.mem_of_getElem? (i := 1116) (by decide +kernel)
theorem wc_X9_when : (.code yX9_when cX9_when 3 (some .int) : Cond) ∈ lw_tbl := List.mem_of_getElem? (i := 1124) (by decide +kernel)
theorem wm_X9_when : (.instanceMethod yX9_when : Cond) ∈ lw_tbl := List.mem_of_getElem? (i := 1122) (by decide +kernel)
theorem wv_X9_when : (.selects RX9 yX9_when yX9_when : Cond) ∈ lw_tbl := List.mem_of_getElem? (i := 1123) (by decide +kernel)
theorem wc_X9_place : (.code yX9_place cX9_place 8 (some .int) : Cond) ∈ lw_tbl := List.mem_of_getElem? (i := 1128) (by decide +kernel)
theorem wm_X9_place : (.instanceMethod yX9_place : Cond) ∈ lw_tbl := List.mem_of_getElem? (i := 1126) (by decide +kernel)
theorem wv_X9_place : (.selects RX9 yX9_place yX9_place : Cond) ∈ lw_tbl := List.mem_of_getElem? (i := 1127) (by decide +kernel)
theorem wc_X9_chooses : (.code yX9_chooses cX9_chooses 7 (some .boolean) : Cond) ∈ lw_tbl := List.mem_of_getElem? (i := 1143) (by decide +kernel)
theorem wt_X9_chooses : (.static yX9_chooses : Cond) ∈ lw_tbl := List.mem_of_getElem? (i := 1142) (by decide +kernel)
theorem wc_X9_goesBy : (.code yX9_goesBy cX9_goesBy 4 (some .boolean) : Cond) ∈ lw_tbl := List.mem_of_getElem? (i := 1140) (by decide +kernel)
theorem wm_X9_goesBy : (.instanceMethod yX9_goesBy : Cond) ∈ lw_tbl := List.mem_of_getElem? (i := 1139) (by decide +kernel)
theorem wv_X9_goesBy : (.selects RX9 yX9_goesBy yX9_goesBy : Cond) ∈ lw_tbl := List.mem_of_getElem? (i := 52) (by decide +kernel)
theorem wc_X9_isUnderBy : (.code yX9_isUnderBy cX9_isUnderBy 4 (some .boolean) : Cond) ∈ lw_tbl := List.mem_of_getElem? (i := 1136) (by decide +kernel)
theorem wm_X9_isUnderBy : (.instanceMethod yX9_isUnderBy : Cond) ∈ lw_tbl := List.mem_of_getElem? (i := 1135) (by decide +kernel)
theorem wv_X9_isUnderBy : (.selects RX9 yX9_isUnderBy yX9_isUnderBy : Cond) ∈ lw_tbl := List.mem_of_getElem? (i := 51) (by decide +kernel)
theorem wc_X9_run : (.code yX9_run cX9_run 8 (some .int) : Cond) ∈ lw_tbl := List.mem_of_getElem? (i := 1132) (by decide +kernel)
theorem wm_X9_run : (.instanceMethod yX9_run : Cond) ∈ lw_tbl := List.mem_of_getElem? (i := 1130) (by decide +kernel)
theorem wv_X9_run : (.selects RX9 yX9_run yX9_run : Cond) ∈ lw_tbl := List.mem_of_getElem? (i := 1131) (by decide +kernel)
theorem wc_X9_stitches : (.code yX9_stitches cX9_stitches 4 (some .int) : Cond) ∈ lw_tbl := List.mem_of_getElem? (i := 1147) (by decide +kernel)
theorem wm_X9_stitches : (.instanceMethod yX9_stitches : Cond) ∈ lw_tbl := List.mem_of_getElem? (i := 1145) (by decide +kernel)
theorem wv_X9_stitches : (.selects RX9 yX9_stitches yX9_stitches : Cond) ∈ lw_tbl := List.mem_of_getElem? (i := 1146) (by decide +kernel)
theorem wc_X9_note : (.code yX9_note cX9_note 5 (some .int) : Cond) ∈ lw_tbl := List.mem_of_getElem? (i := 1151) (by decide +kernel)
theorem wm_X9_note : (.instanceMethod yX9_note : Cond) ∈ lw_tbl := List.mem_of_getElem? (i := 1149) (by decide +kernel)
theorem wv_X9_note : (.selects RX9 yX9_note yX9_note : Cond) ∈ lw_tbl := List.mem_of_getElem? (i := 1150) (by decide +kernel)
theorem wc_X9_forget : (.code yX9_forget cX9_forget 2 (some .int) : Cond) ∈ lw_tbl := List.mem_of_getElem? (i := 1155) (by decide +kernel)
theorem wm_X9_forget : (.instanceMethod yX9_forget : Cond) ∈ lw_tbl := List.mem_of_getElem? (i := 1153) (by decide +kernel)
theorem wv_X9_forget : (.selects RX9 yX9_forget yX9_forget : Cond) ∈ lw_tbl := List.mem_of_getElem? (i := 1154) (by decide +kernel)
theorem wc_X9_kindsOf : (.code yX9_kindsOf cX9_kindsOf 7 (some .int) : Cond) ∈ lw_tbl := List.mem_of_getElem? (i := 1163) (by decide +kernel)
theorem wm_X9_kindsOf : (.instanceMethod yX9_kindsOf : Cond) ∈ lw_tbl := List.mem_of_getElem? (i := 1162) (by decide +kernel)
theorem wv_X9_kindsOf : (.selects RX9 yX9_kindsOf yX9_kindsOf : Cond) ∈ lw_tbl := List.mem_of_getElem? (i := 53) (by decide +kernel)
theorem wc_X9_is : (.code yX9_is cX9_is 2 (some .int) : Cond) ∈ lw_tbl := List.mem_of_getElem? (i := 1159) (by decide +kernel)
theorem wm_X9_is : (.instanceMethod yX9_is : Cond) ∈ lw_tbl := List.mem_of_getElem? (i := 1157) (by decide +kernel)
theorem wv_X9_is : (.selects RX9 yX9_is yX9_is : Cond) ∈ lw_tbl := List.mem_of_getElem? (i := 1158) (by decide +kernel)
theorem wc_X9_feel : (.code yX9_feel cX9_feel 11 (some .int) : Cond) ∈ lw_tbl := List.mem_of_getElem? (i := 1167) (by decide +kernel)
theorem wm_X9_feel : (.instanceMethod yX9_feel : Cond) ∈ lw_tbl := List.mem_of_getElem? (i := 1165) (by decide +kernel)
theorem wv_X9_feel : (.selects RX9 yX9_feel yX9_feel : Cond) ∈ lw_tbl := List.mem_of_getElem? (i := 1166) (by decide +kernel)
theorem wc_X9_inside : (.code yX9_inside cX9_inside 9 (some .int) : Cond) ∈ lw_tbl := List.mem_of_getElem? (i := 1171) (by decide +kernel)
theorem wm_X9_inside : (.instanceMethod yX9_inside : Cond) ∈ lw_tbl := List.mem_of_getElem? (i := 1169) (by decide +kernel)
theorem wv_X9_inside : (.selects RX9 yX9_inside yX9_inside : Cond) ∈ lw_tbl := List.mem_of_getElem? (i := 1170) (by decide +kernel)
theorem wc_X9_gets : (.code yX9_gets cX9_gets 7 (some .int) : Cond) ∈ lw_tbl := List.mem_of_getElem? (i := 1183) (by decide +kernel)
theorem wm_X9_gets : (.instanceMethod yX9_gets : Cond) ∈ lw_tbl := List.mem_of_getElem? (i := 1182) (by decide +kernel)
theorem wv_X9_gets : (.selects RX9 yX9_gets yX9_gets : Cond) ∈ lw_tbl := List.mem_of_getElem? (i := 55) (by decide +kernel)
theorem wc_X9_rests : (.code yX9_rests cX9_rests 7 (some .boolean) : Cond) ∈ lw_tbl := List.mem_of_getElem? (i := 1179) (by decide +kernel)
theorem wm_X9_rests : (.instanceMethod yX9_rests : Cond) ∈ lw_tbl := List.mem_of_getElem? (i := 1178) (by decide +kernel)
theorem wv_X9_rests : (.selects RX9 yX9_rests yX9_rests : Cond) ∈ lw_tbl := List.mem_of_getElem? (i := 54) (by decide +kernel)
theorem wc_X9_two : (.code yX9_two cX9_two 6 (some .int) : Cond) ∈ lw_tbl := List.mem_of_getElem? (i := 1175) (by decide +kernel)
theorem wm_X9_two : (.instanceMethod yX9_two : Cond) ∈ lw_tbl := List.mem_of_getElem? (i := 1173) (by decide +kernel)
theorem wv_X9_two : (.selects RX9 yX9_two yX9_two : Cond) ∈ lw_tbl := List.mem_of_getElem? (i := 1174) (by decide +kernel)
theorem wc_X9_rain : (.code yX9_rain cX9_rain 10 (some .int) : Cond) ∈ lw_tbl := List.mem_of_getElem? (i := 1187) (by decide +kernel)
theorem wm_X9_rain : (.instanceMethod yX9_rain : Cond) ∈ lw_tbl := List.mem_of_getElem? (i := 1185) (by decide +kernel)
theorem wv_X9_rain : (.selects RX9 yX9_rain yX9_rain : Cond) ∈ lw_tbl := List.mem_of_getElem? (i := 1186) (by decide +kernel)
theorem wc_X9_years : (.code yX9_years cX9_years 8 (some .int) : Cond) ∈ lw_tbl := List.mem_of_getElem? (i := 1192) (by decide +kernel)
theorem wm_X9_years : (.instanceMethod yX9_years : Cond) ∈ lw_tbl := List.mem_of_getElem? (i := 1190) (by decide +kernel)
theorem wv_X9_years : (.selects RX9 yX9_years yX9_years : Cond) ∈ lw_tbl := List.mem_of_getElem? (i := 1191) (by decide +kernel)
theorem wc_X9_part : (.code yX9_part cX9_part 2 (some .long) : Cond) ∈ lw_tbl := List.mem_of_getElem? (i := 1202) (by decide +kernel)
theorem wm_X9_part : (.instanceMethod yX9_part : Cond) ∈ lw_tbl := List.mem_of_getElem? (i := 1200) (by decide +kernel)
theorem wv_X9_part : (.selects RX9 yX9_part yX9_part : Cond) ∈ lw_tbl := List.mem_of_getElem? (i := 1201) (by decide +kernel)
theorem wc_X9_image : (.code yX9_image cX9_image 2 (some .int) : Cond) ∈ lw_tbl := List.mem_of_getElem? (i := 1206) (by decide +kernel)
theorem wm_X9_image : (.instanceMethod yX9_image : Cond) ∈ lw_tbl := List.mem_of_getElem? (i := 1204) (by decide +kernel)
theorem wv_X9_image : (.selects RX9 yX9_image yX9_image : Cond) ∈ lw_tbl := List.mem_of_getElem? (i := 1205) (by decide +kernel)
theorem wc_X9_from : (.code yX9_from cX9_from 2 (some .int) : Cond) ∈ lw_tbl := List.mem_of_getElem? (i := 1210) (by decide +kernel)
theorem wm_X9_from : (.instanceMethod yX9_from : Cond) ∈ lw_tbl := List.mem_of_getElem? (i := 1208) (by decide +kernel)
theorem wv_X9_from : (.selects RX9 yX9_from yX9_from : Cond) ∈ lw_tbl := List.mem_of_getElem? (i := 1209) (by decide +kernel)
theorem wc_X9_status : (.code yX9_status cX9_status 2 (some .int) : Cond) ∈ lw_tbl := List.mem_of_getElem? (i := 1214) (by decide +kernel)
theorem wm_X9_status : (.instanceMethod yX9_status : Cond) ∈ lw_tbl := List.mem_of_getElem? (i := 1212) (by decide +kernel)
theorem wv_X9_status : (.selects RX9 yX9_status yX9_status : Cond) ∈ lw_tbl := List.mem_of_getElem? (i := 1213) (by decide +kernel)
theorem wc_X9_counted : (.code yX9_counted cX9_counted 2 (some .int) : Cond) ∈ lw_tbl := List.mem_of_getElem? (i := 1222) (by decide +kernel)
theorem wm_X9_counted : (.instanceMethod yX9_counted : Cond) ∈ lw_tbl := List.mem_of_getElem? (i := 1221) (by decide +kernel)
theorem wv_X9_counted : (.selects RX9 yX9_counted yX9_counted : Cond) ∈ lw_tbl := List.mem_of_getElem? (i := 56) (by decide +kernel)
theorem wc_X9_count : (.code yX9_count cX9_count 2 (some .int) : Cond) ∈ lw_tbl := List.mem_of_getElem? (i := 1218) (by decide +kernel)
theorem wm_X9_count : (.instanceMethod yX9_count : Cond) ∈ lw_tbl := List.mem_of_getElem? (i := 1216) (by decide +kernel)
theorem wv_X9_count : (.selects RX9 yX9_count yX9_count : Cond) ∈ lw_tbl := List.mem_of_getElem? (i := 1217) (by decide +kernel)
theorem wc_X9_digest : (.code yX9_digest cX9_digest 5 (some .long) : Cond) ∈ lw_tbl := List.mem_of_getElem? (i := 1226) (by decide +kernel)
theorem wm_X9_digest : (.instanceMethod yX9_digest : Cond) ∈ lw_tbl := List.mem_of_getElem? (i := 1224) (by decide +kernel)
theorem wv_X9_digest : (.selects RX9 yX9_digest yX9_digest : Cond) ∈ lw_tbl := List.mem_of_getElem? (i := 1225) (by decide +kernel)
theorem wc_J6_bitCount_0f7a4 : (.code yJ6_bitCount_0f7a4 cJ6_bitCount_0f7a4 1 (some .int) : Cond) ∈ lw_tbl := List.mem_of_getElem? (i := 603) (by decide +kernel)
theorem wt_J6_bitCount_0f7a4 : (.static yJ6_bitCount_0f7a4 : Cond) ∈ lw_tbl := List.mem_of_getElem? (i := 602) (by decide +kernel)
theorem wc_J9_abs_0f7a4 : (.code yJ9_abs_0f7a4 cJ9_abs_0f7a4 1 (some .int) : Cond) ∈ lw_tbl := List.mem_of_getElem? (i := 571) (by decide +kernel)
theorem wt_J9_abs_0f7a4 : (.static yJ9_abs_0f7a4 : Cond) ∈ lw_tbl := List.mem_of_getElem? (i := 570) (by decide +kernel)
theorem wc_J9_max_7cf53 : (.code yJ9_max_7cf53 cJ9_max_7cf53 2 (some .int) : Cond) ∈ lw_tbl := List.mem_of_getElem? (i := 550) (by decide +kernel)
theorem wt_J9_max_7cf53 : (.static yJ9_max_7cf53 : Cond) ∈ lw_tbl := List.mem_of_getElem? (i := 549) (by decide +kernel)
theorem wc_J9_min_7cf53 : (.code yJ9_min_7cf53 cJ9_min_7cf53 2 (some .int) : Cond) ∈ lw_tbl := List.mem_of_getElem? (i := 592) (by decide +kernel)
theorem wt_J9_min_7cf53 : (.static yJ9_min_7cf53 : Cond) ∈ lw_tbl := List.mem_of_getElem? (i := 591) (by decide +kernel)
theorem wc_J0_length_8abf5 : (.code yJ0_length_8abf5 cJ0_length_8abf5 1 (some .int) : Cond) ∈ lw_tbl := List.mem_of_getElem? (i := 422) (by decide +kernel)
theorem wm_J0_length_8abf5 : (.instanceMethod yJ0_length_8abf5 : Cond) ∈ lw_tbl := List.mem_of_getElem? (i := 420) (by decide +kernel)
theorem wv_J0_length_8abf5 : (.selects RJ0 yJ0_length_8abf5 yJ0_length_8abf5 : Cond) ∈ lw_tbl := List.mem_of_getElem? (i := 421) (by decide +kernel)
theorem wc_J0_charAt_5068e : (.code yJ0_charAt_5068e cJ0_charAt_5068e 2 (some .char) : Cond) ∈ lw_tbl := List.mem_of_getElem? (i := 432) (by decide +kernel)
theorem wm_J0_charAt_5068e : (.instanceMethod yJ0_charAt_5068e : Cond) ∈ lw_tbl := List.mem_of_getElem? (i := 430) (by decide +kernel)
theorem wv_J0_charAt_5068e : (.selects RJ0 yJ0_charAt_5068e yJ0_charAt_5068e : Cond) ∈ lw_tbl := List.mem_of_getElem? (i := 431) (by decide +kernel)
theorem wc_J0_coder_7d493 : (.code yJ0_coder_7d493 cJ0_coder_7d493 1 (some .byte) : Cond) ∈ lw_tbl := List.mem_of_getElem? (i := 426) (by decide +kernel)
theorem wm_J0_coder_7d493 : (.instanceMethod yJ0_coder_7d493 : Cond) ∈ lw_tbl := List.mem_of_getElem? (i := 424) (by decide +kernel)
theorem wv_J0_coder_7d493 : (.selects RJ0 yJ0_coder_7d493 yJ0_coder_7d493 : Cond) ∈ lw_tbl := List.mem_of_getElem? (i := 425) (by decide +kernel)
theorem wc_J0_isLatin1_aae02 : (.code yJ0_isLatin1_aae02 cJ0_isLatin1_aae02 1 (some .boolean) : Cond) ∈ lw_tbl := List.mem_of_getElem? (i := 436) (by decide +kernel)
theorem wm_J0_isLatin1_aae02 : (.instanceMethod yJ0_isLatin1_aae02 : Cond) ∈ lw_tbl := List.mem_of_getElem? (i := 434) (by decide +kernel)
theorem wv_J0_isLatin1_aae02 : (.selects RJ0 yJ0_isLatin1_aae02 yJ0_isLatin1_aae02 : Cond) ∈ lw_tbl := List.mem_of_getElem? (i := 435) (by decide +kernel)
theorem wc_J0_checkIndex_df160 : (.code yJ0_checkIndex_df160 cJ0_checkIndex_df160 2 none : Cond) ∈ lw_tbl := List.mem_of_getElem? (i := 442) (by decide +kernel)
theorem wt_J0_checkIndex_df160 : (.static yJ0_checkIndex_df160 : Cond) ∈ lw_tbl := List.mem_of_getElem? (i := 441) (by decide +kernel)
theorem wc_J1_charAt_3b067 : (.code yJ1_charAt_3b067 cJ1_charAt_3b067 2 (some .char) : Cond) ∈ lw_tbl := List.mem_of_getElem? (i := 439) (by decide +kernel)
theorem wt_J1_charAt_3b067 : (.static yJ1_charAt_3b067 : Cond) ∈ lw_tbl := List.mem_of_getElem? (i := 438) (by decide +kernel)
theorem wc_J2_getChar_3b067 : (.code yJ2_getChar_3b067 cJ2_getChar_3b067 2 (some .char) : Cond) ∈ lw_tbl := List.mem_of_getElem? (i := 460) (by decide +kernel)
theorem wt_J2_getChar_3b067 : (.static yJ2_getChar_3b067 : Cond) ∈ lw_tbl := List.mem_of_getElem? (i := 459) (by decide +kernel)
theorem wc_J2_length_9d52b : (.code yJ2_length_9d52b cJ2_length_9d52b 1 (some .int) : Cond) ∈ lw_tbl := List.mem_of_getElem? (i := 456) (by decide +kernel)
theorem wt_J2_length_9d52b : (.static yJ2_length_9d52b : Cond) ∈ lw_tbl := List.mem_of_getElem? (i := 455) (by decide +kernel)
theorem wc_J2_charAt_3b067 : (.code yJ2_charAt_3b067 cJ2_charAt_3b067 2 (some .char) : Cond) ∈ lw_tbl := List.mem_of_getElem? (i := 450) (by decide +kernel)
theorem wt_J2_charAt_3b067 : (.static yJ2_charAt_3b067 : Cond) ∈ lw_tbl := List.mem_of_getElem? (i := 449) (by decide +kernel)
theorem wc_J2_checkIndex_2214a : (.code yJ2_checkIndex_2214a cJ2_checkIndex_2214a 2 none : Cond) ∈ lw_tbl := List.mem_of_getElem? (i := 453) (by decide +kernel)
theorem wt_J2_checkIndex_2214a : (.static yJ2_checkIndex_2214a : Cond) ∈ lw_tbl := List.mem_of_getElem? (i := 452) (by decide +kernel)
theorem wc_J3_checkIndex_8e157 : (.code yJ3_checkIndex_8e157 cJ3_checkIndex_8e157 3 (some .int) : Cond) ∈ lw_tbl := List.mem_of_getElem? (i := 447) (by decide +kernel)
theorem wt_J3_checkIndex_8e157 : (.static yJ3_checkIndex_8e157 : Cond) ∈ lw_tbl := List.mem_of_getElem? (i := 446) (by decide +kernel)
theorem wl_L_7 : (.classLink RL 7 RX8 : Cond) ∈ lw_tbl := List.mem_of_getElem? (i := 75) (by decide +kernel)
theorem wk_L_9 : (.methodLink RL 9 yX8_init : Cond) ∈ lw_tbl := List.mem_of_getElem? (i := 77) (by decide +kernel)
theorem wk_X8_1 : (.methodLink RX8 1 objectInit : Cond) ∈ lw_tbl := List.mem_of_getElem? (i := 80) (by decide +kernel)
theorem wm_object : (.instanceMethod objectInit : Cond) ∈ lw_tbl := List.mem_of_getElem? (i := 81) (by decide +kernel)
theorem wc_object : (.code objectInit ⟨#[0xb1]⟩ 1 none : Cond) ∈ lw_tbl := List.mem_of_getElem? (i := 82) (by decide +kernel)
theorem wl_X8_7 : (.classLink RX8 7 RX3 : Cond) ∈ lw_tbl := List.mem_of_getElem? (i := 83) (by decide +kernel)
theorem wk_X8_9 : (.methodLinkNest RX8 9 yX3_init "CosyAsylum" : Cond) ∈ lw_tbl := List.mem_of_getElem? (i := 85) (by decide +kernel)
theorem wk_X3_3 : (.methodLink RX3 3 objectInit : Cond) ∈ lw_tbl := List.mem_of_getElem? (i := 88) (by decide +kernel)
theorem wl_X3_9 : (.classLink RX3 9 RX1 : Cond) ∈ lw_tbl := List.mem_of_getElem? (i := 89) (by decide +kernel)
theorem wk_X3_11 : (.methodLinkNest RX3 11 yX1_init "CosyAsylum" : Cond) ∈ lw_tbl := List.mem_of_getElem? (i := 91) (by decide +kernel)
theorem wk_X1_3 : (.methodLink RX1 3 objectInit : Cond) ∈ lw_tbl := List.mem_of_getElem? (i := 94) (by decide +kernel)
theorem wf_X1_9 : (.fieldLink RX1 9 "CosyAsylum$Common" "kinds" "[I" : Cond) ∈ lw_tbl := List.mem_of_getElem? (i := 95) (by decide +kernel)
theorem wf_X8_182 : (.fieldLinkNest RX8 182 "CosyAsylum$Common" "kinds" "[I" "CosyAsylum" : Cond) ∈ lw_tbl := List.mem_of_getElem? (i := 96) (by decide +kernel)
theorem wf_X1_15 : (.fieldLink RX1 15 "CosyAsylum$Common" "cosyCells" "[I" : Cond) ∈ lw_tbl := List.mem_of_getElem? (i := 97) (by decide +kernel)
theorem wf_X8_170 : (.fieldLinkNest RX8 170 "CosyAsylum$Common" "cosyCells" "[I" "CosyAsylum" : Cond) ∈ lw_tbl := List.mem_of_getElem? (i := 98) (by decide +kernel)
theorem wf_X1_18 : (.fieldLink RX1 18 "CosyAsylum$Common" "sizes" "[I" : Cond) ∈ lw_tbl := List.mem_of_getElem? (i := 99) (by decide +kernel)
theorem wf_X8_185 : (.fieldLinkNest RX8 185 "CosyAsylum$Common" "sizes" "[I" "CosyAsylum" : Cond) ∈ lw_tbl := List.mem_of_getElem? (i := 100) (by decide +kernel)
theorem wf_X1_21 : (.fieldLink RX1 21 "CosyAsylum$Common" "wears" "[I" : Cond) ∈ lw_tbl := List.mem_of_getElem? (i := 101) (by decide +kernel)
theorem wf_X8_157 : (.fieldLinkNest RX8 157 "CosyAsylum$Common" "wears" "[I" "CosyAsylum" : Cond) ∈ lw_tbl := List.mem_of_getElem? (i := 102) (by decide +kernel)
theorem wf_X1_24 : (.fieldLink RX1 24 "CosyAsylum$Common" "huntedCells" "[I" : Cond) ∈ lw_tbl := List.mem_of_getElem? (i := 103) (by decide +kernel)
theorem wf_X2_41 : (.fieldLinkNest RX2 41 "CosyAsylum$Common" "huntedCells" "[I" "CosyAsylum" : Cond) ∈ lw_tbl := List.mem_of_getElem? (i := 104) (by decide +kernel)
theorem wf_X8_306 : (.fieldLinkNest RX8 306 "CosyAsylum$Common" "huntedCells" "[I" "CosyAsylum" : Cond) ∈ lw_tbl := List.mem_of_getElem? (i := 105) (by decide +kernel)
theorem wf_X1_27 : (.fieldLink RX1 27 "CosyAsylum$Common" "covers" "[I" : Cond) ∈ lw_tbl := List.mem_of_getElem? (i := 106) (by decide +kernel)
theorem wf_X2_34 : (.fieldLinkNest RX2 34 "CosyAsylum$Common" "covers" "[I" "CosyAsylum" : Cond) ∈ lw_tbl := List.mem_of_getElem? (i := 107) (by decide +kernel)
theorem wf_X8_209 : (.fieldLinkNest RX8 209 "CosyAsylum$Common" "covers" "[I" "CosyAsylum" : Cond) ∈ lw_tbl := List.mem_of_getElem? (i := 108) (by decide +kernel)
theorem wf_X1_30 : (.fieldLink RX1 30 "CosyAsylum$Common" "sheriffCells" "[I" : Cond) ∈ lw_tbl := List.mem_of_getElem? (i := 109) (by decide +kernel)
theorem wf_X8_200 : (.fieldLinkNest RX8 200 "CosyAsylum$Common" "sheriffCells" "[I" "CosyAsylum" : Cond) ∈ lw_tbl := List.mem_of_getElem? (i := 110) (by decide +kernel)
theorem wf_X1_33 : (.fieldLink RX1 33 "CosyAsylum$Common" "rooms" "[I" : Cond) ∈ lw_tbl := List.mem_of_getElem? (i := 111) (by decide +kernel)
theorem wf_X1_36 : (.fieldLink RX1 36 "CosyAsylum$Common" "unders" "[I" : Cond) ∈ lw_tbl := List.mem_of_getElem? (i := 112) (by decide +kernel)
theorem wf_X1_39 : (.fieldLink RX1 39 "CosyAsylum$Common" "cosies" "I" : Cond) ∈ lw_tbl := List.mem_of_getElem? (i := 113) (by decide +kernel)
theorem wf_X8_74 : (.fieldLinkNest RX8 74 "CosyAsylum$Common" "cosies" "I" "CosyAsylum" : Cond) ∈ lw_tbl := List.mem_of_getElem? (i := 114) (by decide +kernel)
theorem wf_X6_69 : (.fieldLinkNest RX6 69 "CosyAsylum$Common" "cosies" "I" "CosyAsylum" : Cond) ∈ lw_tbl := List.mem_of_getElem? (i := 115) (by decide +kernel)
theorem wf_X1_43 : (.fieldLink RX1 43 "CosyAsylum$Common" "hunted" "I" : Cond) ∈ lw_tbl := List.mem_of_getElem? (i := 116) (by decide +kernel)
theorem wf_X8_109 : (.fieldLinkNest RX8 109 "CosyAsylum$Common" "hunted" "I" "CosyAsylum" : Cond) ∈ lw_tbl := List.mem_of_getElem? (i := 117) (by decide +kernel)
theorem wf_X6_72 : (.fieldLinkNest RX6 72 "CosyAsylum$Common" "hunted" "I" "CosyAsylum" : Cond) ∈ lw_tbl := List.mem_of_getElem? (i := 118) (by decide +kernel)
theorem wf_X1_46 : (.fieldLink RX1 46 "CosyAsylum$Common" "sheriffs" "I" : Cond) ∈ lw_tbl := List.mem_of_getElem? (i := 119) (by decide +kernel)
theorem wf_X6_75 : (.fieldLinkNest RX6 75 "CosyAsylum$Common" "sheriffs" "I" "CosyAsylum" : Cond) ∈ lw_tbl := List.mem_of_getElem? (i := 120) (by decide +kernel)
theorem wf_X8_115 : (.fieldLinkNest RX8 115 "CosyAsylum$Common" "sheriffs" "I" "CosyAsylum" : Cond) ∈ lw_tbl := List.mem_of_getElem? (i := 121) (by decide +kernel)
theorem wf_X1_49 : (.fieldLink RX1 49 "CosyAsylum$Common" "hour" "I" : Cond) ∈ lw_tbl := List.mem_of_getElem? (i := 122) (by decide +kernel)
theorem wf_X8_145 : (.fieldLinkNest RX8 145 "CosyAsylum$Common" "hour" "I" "CosyAsylum" : Cond) ∈ lw_tbl := List.mem_of_getElem? (i := 123) (by decide +kernel)
theorem wa_int : (.arrayClass .int : Cond) ∈ lw_tbl := List.mem_of_getElem? (i := 151) (by decide +kernel)
theorem wl_X3_18 : (.classLink RX3 18 RX5 : Cond) ∈ lw_tbl := List.mem_of_getElem? (i := 152) (by decide +kernel)
theorem wk_X3_20 : (.methodLink RX3 20 yX5_init : Cond) ∈ lw_tbl := List.mem_of_getElem? (i := 154) (by decide +kernel)
theorem wk_X5_3 : (.methodLink RX5 3 objectInit : Cond) ∈ lw_tbl := List.mem_of_getElem? (i := 157) (by decide +kernel)
theorem wl_X5_9 : (.classLink RX5 9 RX1 : Cond) ∈ lw_tbl := List.mem_of_getElem? (i := 158) (by decide +kernel)
theorem wa_over : (.arrayOver (.object RX1) : Cond) ∈ lw_tbl := List.mem_of_getElem? (i := 159) (by decide +kernel)
theorem wk_X5_21 : (.methodLinkNest RX5 21 yX1_init "CosyAsylum" : Cond) ∈ lw_tbl := List.mem_of_getElem? (i := 160) (by decide +kernel)
theorem wf_X5_11 : (.fieldLink RX5 11 "CosyAsylum$Past" "rows" "[LCosyAsylum$Common;" : Cond) ∈ lw_tbl := List.mem_of_getElem? (i := 161) (by decide +kernel)
theorem wf_X5_17 : (.fieldLink RX5 17 "CosyAsylum$Past" "many" "I" : Cond) ∈ lw_tbl := List.mem_of_getElem? (i := 162) (by decide +kernel)
theorem wf_X3_46 : (.fieldLinkNest RX3 46 "CosyAsylum$Past" "many" "I" "CosyAsylum" : Cond) ∈ lw_tbl := List.mem_of_getElem? (i := 163) (by decide +kernel)
theorem wf_X8_100 : (.fieldLinkNest RX8 100 "CosyAsylum$Past" "many" "I" "CosyAsylum" : Cond) ∈ lw_tbl := List.mem_of_getElem? (i := 164) (by decide +kernel)
theorem wf_X3_12 : (.fieldLink RX3 12 "CosyAsylum$Kept" "common" "LCosyAsylum$Common;" : Cond) ∈ lw_tbl := List.mem_of_getElem? (i := 170) (by decide +kernel)
theorem wf_X8_71 : (.fieldLinkNest RX8 71 "CosyAsylum$Kept" "common" "LCosyAsylum$Common;" "CosyAsylum" : Cond) ∈ lw_tbl := List.mem_of_getElem? (i := 171) (by decide +kernel)
theorem wf_X3_21 : (.fieldLink RX3 21 "CosyAsylum$Kept" "past" "LCosyAsylum$Past;" : Cond) ∈ lw_tbl := List.mem_of_getElem? (i := 172) (by decide +kernel)
theorem wf_X8_96 : (.fieldLinkNest RX8 96 "CosyAsylum$Kept" "past" "LCosyAsylum$Past;" "CosyAsylum" : Cond) ∈ lw_tbl := List.mem_of_getElem? (i := 173) (by decide +kernel)
theorem wf_X3_25 : (.fieldLink RX3 25 "CosyAsylum$Kept" "noteCosies" "[I" : Cond) ∈ lw_tbl := List.mem_of_getElem? (i := 174) (by decide +kernel)
theorem wf_X8_293 : (.fieldLinkNest RX8 293 "CosyAsylum$Kept" "noteCosies" "[I" "CosyAsylum" : Cond) ∈ lw_tbl := List.mem_of_getElem? (i := 175) (by decide +kernel)
theorem wf_X3_29 : (.fieldLink RX3 29 "CosyAsylum$Kept" "noteWears" "[I" : Cond) ∈ lw_tbl := List.mem_of_getElem? (i := 176) (by decide +kernel)
theorem wf_X8_296 : (.fieldLinkNest RX8 296 "CosyAsylum$Kept" "noteWears" "[I" "CosyAsylum" : Cond) ∈ lw_tbl := List.mem_of_getElem? (i := 177) (by decide +kernel)
theorem wf_X3_32 : (.fieldLink RX3 32 "CosyAsylum$Kept" "noteHeld" "[I" : Cond) ∈ lw_tbl := List.mem_of_getElem? (i := 178) (by decide +kernel)
theorem wf_X8_299 : (.fieldLinkNest RX8 299 "CosyAsylum$Kept" "noteHeld" "[I" "CosyAsylum" : Cond) ∈ lw_tbl := List.mem_of_getElem? (i := 179) (by decide +kernel)
theorem wf_X3_35 : (.fieldLink RX3 35 "CosyAsylum$Kept" "notes" "I" : Cond) ∈ lw_tbl := List.mem_of_getElem? (i := 180) (by decide +kernel)
theorem wf_X8_222 : (.fieldLinkNest RX8 222 "CosyAsylum$Kept" "notes" "I" "CosyAsylum" : Cond) ∈ lw_tbl := List.mem_of_getElem? (i := 181) (by decide +kernel)
theorem wf_X3_39 : (.fieldLink RX3 39 "CosyAsylum$Kept" "isKept" "Z" : Cond) ∈ lw_tbl := List.mem_of_getElem? (i := 182) (by decide +kernel)
theorem wf_X8_267 : (.fieldLinkNest RX8 267 "CosyAsylum$Kept" "isKept" "Z" "CosyAsylum" : Cond) ∈ lw_tbl := List.mem_of_getElem? (i := 183) (by decide +kernel)
theorem wl_X8_22 : (.classLink RX8 22 RX7 : Cond) ∈ lw_tbl := List.mem_of_getElem? (i := 199) (by decide +kernel)
theorem wk_X8_24 : (.methodLinkNest RX8 24 yX7_init "CosyAsylum" : Cond) ∈ lw_tbl := List.mem_of_getElem? (i := 201) (by decide +kernel)
theorem wk_X7_3 : (.methodLink RX7 3 objectInit : Cond) ∈ lw_tbl := List.mem_of_getElem? (i := 204) (by decide +kernel)
theorem wf_X7_9 : (.fieldLink RX7 9 "CosyAsylum$Text" "bytes" "[C" : Cond) ∈ lw_tbl := List.mem_of_getElem? (i := 205) (by decide +kernel)
theorem wf_X7_15 : (.fieldLink RX7 15 "CosyAsylum$Text" "length" "I" : Cond) ∈ lw_tbl := List.mem_of_getElem? (i := 206) (by decide +kernel)
theorem wf_X8_121 : (.fieldLinkNest RX8 121 "CosyAsylum$Text" "length" "I" "CosyAsylum" : Cond) ∈ lw_tbl := List.mem_of_getElem? (i := 207) (by decide +kernel)
theorem wf_X7_19 : (.fieldLink RX7 19 "CosyAsylum$Text" "start" "I" : Cond) ∈ lw_tbl := List.mem_of_getElem? (i := 208) (by decide +kernel)
theorem wf_X6_50 : (.fieldLinkNest RX6 50 "CosyAsylum$Text" "start" "I" "CosyAsylum" : Cond) ∈ lw_tbl := List.mem_of_getElem? (i := 209) (by decide +kernel)
theorem wf_X7_22 : (.fieldLink RX7 22 "CosyAsylum$Text" "end" "I" : Cond) ∈ lw_tbl := List.mem_of_getElem? (i := 210) (by decide +kernel)
theorem wf_X7_25 : (.fieldLink RX7 25 "CosyAsylum$Text" "sort" "I" : Cond) ∈ lw_tbl := List.mem_of_getElem? (i := 211) (by decide +kernel)
theorem wf_X6_43 : (.fieldLinkNest RX6 43 "CosyAsylum$Text" "sort" "I" "CosyAsylum" : Cond) ∈ lw_tbl := List.mem_of_getElem? (i := 212) (by decide +kernel)
theorem wf_X7_28 : (.fieldLink RX7 28 "CosyAsylum$Text" "value" "I" : Cond) ∈ lw_tbl := List.mem_of_getElem? (i := 213) (by decide +kernel)
theorem wf_X6_66 : (.fieldLinkNest RX6 66 "CosyAsylum$Text" "value" "I" "CosyAsylum" : Cond) ∈ lw_tbl := List.mem_of_getElem? (i := 214) (by decide +kernel)
theorem wa_char : (.arrayClass .char : Cond) ∈ lw_tbl := List.mem_of_getElem? (i := 228) (by decide +kernel)
theorem wl_X8_29 : (.classLink RX8 29 RX1 : Cond) ∈ lw_tbl := List.mem_of_getElem? (i := 229) (by decide +kernel)
theorem wk_X8_31 : (.methodLinkNest RX8 31 yX1_init "CosyAsylum" : Cond) ∈ lw_tbl := List.mem_of_getElem? (i := 230) (by decide +kernel)
theorem wl_X8_36 : (.classLink RX8 36 RX6 : Cond) ∈ lw_tbl := List.mem_of_getElem? (i := 231) (by decide +kernel)
theorem wk_X8_38 : (.methodLinkNest RX8 38 yX6_init "CosyAsylum" : Cond) ∈ lw_tbl := List.mem_of_getElem? (i := 233) (by decide +kernel)
theorem wk_X6_3 : (.methodLink RX6 3 objectInit : Cond) ∈ lw_tbl := List.mem_of_getElem? (i := 236) (by decide +kernel)
theorem wl_X6_9 : (.classLink RX6 9 RX1 : Cond) ∈ lw_tbl := List.mem_of_getElem? (i := 237) (by decide +kernel)
theorem wk_X6_11 : (.methodLinkNest RX6 11 yX1_init "CosyAsylum" : Cond) ∈ lw_tbl := List.mem_of_getElem? (i := 238) (by decide +kernel)
theorem wf_X6_12 : (.fieldLink RX6 12 "CosyAsylum$Reader" "draft" "LCosyAsylum$Common;" : Cond) ∈ lw_tbl := List.mem_of_getElem? (i := 239) (by decide +kernel)
theorem wf_X8_132 : (.fieldLinkNest RX8 132 "CosyAsylum$Reader" "draft" "LCosyAsylum$Common;" "CosyAsylum" : Cond) ∈ lw_tbl := List.mem_of_getElem? (i := 240) (by decide +kernel)
theorem wf_X6_18 : (.fieldLink RX6 18 "CosyAsylum$Reader" "numbers" "[I" : Cond) ∈ lw_tbl := List.mem_of_getElem? (i := 241) (by decide +kernel)
theorem wf_X6_22 : (.fieldLink RX6 22 "CosyAsylum$Reader" "items" "I" : Cond) ∈ lw_tbl := List.mem_of_getElem? (i := 242) (by decide +kernel)
theorem wf_X8_139 : (.fieldLinkNest RX8 139 "CosyAsylum$Reader" "items" "I" "CosyAsylum" : Cond) ∈ lw_tbl := List.mem_of_getElem? (i := 243) (by decide +kernel)
theorem wf_X6_26 : (.fieldLink RX6 26 "CosyAsylum$Reader" "word" "I" : Cond) ∈ lw_tbl := List.mem_of_getElem? (i := 244) (by decide +kernel)
theorem wf_X6_29 : (.fieldLink RX6 29 "CosyAsylum$Reader" "numbersRead" "I" : Cond) ∈ lw_tbl := List.mem_of_getElem? (i := 245) (by decide +kernel)
theorem wl_X8_43 : (.classLink RX8 43 RX2 : Cond) ∈ lw_tbl := List.mem_of_getElem? (i := 257) (by decide +kernel)
theorem wk_X8_45 : (.methodLink RX8 45 yX2_init : Cond) ∈ lw_tbl := List.mem_of_getElem? (i := 259) (by decide +kernel)
theorem wk_X2_3 : (.methodLink RX2 3 objectInit : Cond) ∈ lw_tbl := List.mem_of_getElem? (i := 262) (by decide +kernel)
theorem wl_X2_9 : (.classLink RX2 9 RX1 : Cond) ∈ lw_tbl := List.mem_of_getElem? (i := 263) (by decide +kernel)
theorem wk_X2_21 : (.methodLinkNest RX2 21 yX1_init "CosyAsylum" : Cond) ∈ lw_tbl := List.mem_of_getElem? (i := 264) (by decide +kernel)
theorem wf_X2_11 : (.fieldLink RX2 11 "CosyAsylum$Escape" "stages" "[LCosyAsylum$Common;" : Cond) ∈ lw_tbl := List.mem_of_getElem? (i := 265) (by decide +kernel)
theorem wf_X2_17 : (.fieldLink RX2 17 "CosyAsylum$Escape" "choices" "[I" : Cond) ∈ lw_tbl := List.mem_of_getElem? (i := 266) (by decide +kernel)
theorem wf_X8_216 : (.fieldLinkNest RX8 216 "CosyAsylum$Escape" "choices" "[I" "CosyAsylum" : Cond) ∈ lw_tbl := List.mem_of_getElem? (i := 267) (by decide +kernel)
theorem wf_X8_10 : (.fieldLink RX8 10 "CosyAsylum" "now" "LCosyAsylum$Kept;" : Cond) ∈ lw_tbl := List.mem_of_getElem? (i := 273) (by decide +kernel)
theorem wf_X8_16 : (.fieldLink RX8 16 "CosyAsylum" "firstImage" "LCosyAsylum$Kept;" : Cond) ∈ lw_tbl := List.mem_of_getElem? (i := 274) (by decide +kernel)
theorem wf_X8_19 : (.fieldLink RX8 19 "CosyAsylum" "secondImage" "LCosyAsylum$Kept;" : Cond) ∈ lw_tbl := List.mem_of_getElem? (i := 275) (by decide +kernel)
theorem wf_X8_25 : (.fieldLink RX8 25 "CosyAsylum" "text" "LCosyAsylum$Text;" : Cond) ∈ lw_tbl := List.mem_of_getElem? (i := 276) (by decide +kernel)
theorem wf_X8_32 : (.fieldLink RX8 32 "CosyAsylum" "trial" "LCosyAsylum$Common;" : Cond) ∈ lw_tbl := List.mem_of_getElem? (i := 277) (by decide +kernel)
theorem wf_X8_39 : (.fieldLink RX8 39 "CosyAsylum" "reader" "LCosyAsylum$Reader;" : Cond) ∈ lw_tbl := List.mem_of_getElem? (i := 278) (by decide +kernel)
theorem wf_X8_46 : (.fieldLink RX8 46 "CosyAsylum" "escape" "LCosyAsylum$Escape;" : Cond) ∈ lw_tbl := List.mem_of_getElem? (i := 279) (by decide +kernel)
theorem wf_X8_50 : (.fieldLink RX8 50 "CosyAsylum" "held" "[I" : Cond) ∈ lw_tbl := List.mem_of_getElem? (i := 280) (by decide +kernel)
theorem wf_X8_54 : (.fieldLink RX8 54 "CosyAsylum" "above" "J" : Cond) ∈ lw_tbl := List.mem_of_getElem? (i := 281) (by decide +kernel)
theorem wf_X8_58 : (.fieldLink RX8 58 "CosyAsylum" "below" "J" : Cond) ∈ lw_tbl := List.mem_of_getElem? (i := 282) (by decide +kernel)
theorem wf_X8_61 : (.fieldLink RX8 61 "CosyAsylum" "bads" "I" : Cond) ∈ lw_tbl := List.mem_of_getElem? (i := 283) (by decide +kernel)
theorem wf_X8_65 : (.fieldLink RX8 65 "CosyAsylum" "noes" "I" : Cond) ∈ lw_tbl := List.mem_of_getElem? (i := 284) (by decide +kernel)
theorem wf_X8_68 : (.fieldLink RX8 68 "CosyAsylum" "fulls" "I" : Cond) ∈ lw_tbl := List.mem_of_getElem? (i := 285) (by decide +kernel)
theorem wk_L_13 : (.methodLink RL 13 yX8_common : Cond) ∈ lw_tbl := List.mem_of_getElem? (i := 313) (by decide +kernel)
theorem wk_X8_77 : (.methodLink RX8 77 yX3_empty : Cond) ∈ lw_tbl := List.mem_of_getElem? (i := 317) (by decide +kernel)
theorem wk_X3_43 : (.methodLink RX3 43 yX1_empty : Cond) ∈ lw_tbl := List.mem_of_getElem? (i := 321) (by decide +kernel)
theorem wk_L_18 : (.methodLink RL 18 yX8_cosy : Cond) ∈ lw_tbl := List.mem_of_getElem? (i := 325) (by decide +kernel)
theorem wk_X8_80 : (.methodLink RX8 80 yX8_isIn : Cond) ∈ lw_tbl := List.mem_of_getElem? (i := 329) (by decide +kernel)
theorem wk_X8_84 : (.methodLink RX8 84 yX8_isCell : Cond) ∈ lw_tbl := List.mem_of_getElem? (i := 332) (by decide +kernel)
theorem wk_X8_88 : (.methodLink RX8 88 yX8_bad : Cond) ∈ lw_tbl := List.mem_of_getElem? (i := 335) (by decide +kernel)
theorem wk_X8_92 : (.methodLink RX8 92 yX8_full : Cond) ∈ lw_tbl := List.mem_of_getElem? (i := 339) (by decide +kernel)
theorem wk_X8_105 : (.methodLink RX8 105 yX1_addCosy : Cond) ∈ lw_tbl := List.mem_of_getElem? (i := 343) (by decide +kernel)
theorem wk_L_23 : (.methodLink RL 23 yX8_hunted : Cond) ∈ lw_tbl := List.mem_of_getElem? (i := 347) (by decide +kernel)
theorem wk_X8_112 : (.methodLink RX8 112 yX1_addHunted : Cond) ∈ lw_tbl := List.mem_of_getElem? (i := 351) (by decide +kernel)
theorem wk_X1_58 : (.methodLink RX1 58 yX1_setFree : Cond) ∈ lw_tbl := List.mem_of_getElem? (i := 355) (by decide +kernel)
theorem wk_L_28 : (.methodLink RL 28 yX8_sheriff : Cond) ∈ lw_tbl := List.mem_of_getElem? (i := 359) (by decide +kernel)
theorem wk_X8_118 : (.methodLink RX8 118 yX1_addSheriff : Cond) ∈ lw_tbl := List.mem_of_getElem? (i := 363) (by decide +kernel)
theorem wk_L_32 : (.methodLink RL 32 yX8_type : Cond) ∈ lw_tbl := List.mem_of_getElem? (i := 367) (by decide +kernel)
theorem wk_X8_124 : (.methodLink RX8 124 yX7_add : Cond) ∈ lw_tbl := List.mem_of_getElem? (i := 371) (by decide +kernel)
theorem wk_L_36 : (.methodLink RL 36 yX8_clear : Cond) ∈ lw_tbl := List.mem_of_getElem? (i := 375) (by decide +kernel)
theorem wk_L_40 : (.methodLink RL 40 yX8_read : Cond) ∈ lw_tbl := List.mem_of_getElem? (i := 379) (by decide +kernel)
theorem wk_X8_128 : (.methodLink RX8 128 yX6_findFault : Cond) ∈ lw_tbl := List.mem_of_getElem? (i := 383) (by decide +kernel)
theorem wk_X6_32 : (.methodLink RX6 32 yX7_rewind : Cond) ∈ lw_tbl := List.mem_of_getElem? (i := 387) (by decide +kernel)
theorem wk_X6_37 : (.methodLink RX6 37 yX1_empty : Cond) ∈ lw_tbl := List.mem_of_getElem? (i := 391) (by decide +kernel)
theorem wk_X6_40 : (.methodLink RX6 40 yX7_goOn : Cond) ∈ lw_tbl := List.mem_of_getElem? (i := 392) (by decide +kernel)
theorem wk_X7_31 : (.methodLink RX7 31 yX7_byteAt : Cond) ∈ lw_tbl := List.mem_of_getElem? (i := 396) (by decide +kernel)
theorem wk_X7_35 : (.methodLink RX7 35 yX7_isFigure : Cond) ∈ lw_tbl := List.mem_of_getElem? (i := 400) (by decide +kernel)
theorem wk_X7_39 : (.methodLink RX7 39 yX7_takeNumber : Cond) ∈ lw_tbl := List.mem_of_getElem? (i := 403) (by decide +kernel)
theorem wk_X7_42 : (.methodLink RX7 42 yX7_isLetter : Cond) ∈ lw_tbl := List.mem_of_getElem? (i := 407) (by decide +kernel)
theorem wk_X7_45 : (.methodLink RX7 45 yX7_takeWord : Cond) ∈ lw_tbl := List.mem_of_getElem? (i := 410) (by decide +kernel)
theorem wr_X7_48 : (.stringRef RX7 48 "common" : Cond) ∈ lw_tbl := List.mem_of_getElem? (i := 414) (by decide +kernel)
theorem wk_X7_50 : (.methodLink RX7 50 yX7_spells : Cond) ∈ lw_tbl := List.mem_of_getElem? (i := 415) (by decide +kernel)
theorem wk_X7_62 : (.methodLink RX7 62 yJ0_length_8abf5 : Cond) ∈ lw_tbl := List.mem_of_getElem? (i := 419) (by decide +kernel)
theorem wk_J0_335 : (.methodLink RJ0 335 yJ0_coder_7d493 : Cond) ∈ lw_tbl := List.mem_of_getElem? (i := 423) (by decide +kernel)
theorem wf_J0_38 : (.fieldLink RJ0 38 "java/lang/String" "COMPACT_STRINGS" "Z" : Cond) ∈ lw_tbl := List.mem_of_getElem? (i := 427) (by decide +kernel)
theorem wx_COMPACT_STRINGS : (.laysStatic "java/lang/String" "COMPACT_STRINGS" "Z" : Cond) ∈ lw_tbl := List.mem_of_getElem? (i := 428) (by decide +kernel)
theorem wk_X7_67 : (.methodLink RX7 67 yJ0_charAt_5068e : Cond) ∈ lw_tbl := List.mem_of_getElem? (i := 429) (by decide +kernel)
theorem wk_J0_492 : (.methodLink RJ0 492 yJ0_isLatin1_aae02 : Cond) ∈ lw_tbl := List.mem_of_getElem? (i := 433) (by decide +kernel)
theorem wk_J0_495 : (.methodLink RJ0 495 yJ1_charAt_3b067 : Cond) ∈ lw_tbl := List.mem_of_getElem? (i := 437) (by decide +kernel)
theorem wk_J1_9 : (.methodLink RJ1 9 yJ0_checkIndex_df160 : Cond) ∈ lw_tbl := List.mem_of_getElem? (i := 440) (by decide +kernel)
theorem wf_J0_1053 : (.fieldLink RJ0 1053 "jdk/internal/util/Preconditions" "SIOOBE_FORMATTER" "Ljava/util/function/BiFunction;" : Cond) ∈ lw_tbl := List.mem_of_getElem? (i := 443) (by decide +kernel)
theorem wx_SIOOBE_FORMATTER : (.laysStatic "jdk/internal/util/Preconditions" "SIOOBE_FORMATTER" "Ljava/util/function/BiFunction;" : Cond) ∈ lw_tbl := List.mem_of_getElem? (i := 444) (by decide +kernel)
theorem wk_J0_1059 : (.methodLink RJ0 1059 yJ3_checkIndex_8e157 : Cond) ∈ lw_tbl := List.mem_of_getElem? (i := 445) (by decide +kernel)
theorem wk_J0_498 : (.methodLink RJ0 498 yJ2_charAt_3b067 : Cond) ∈ lw_tbl := List.mem_of_getElem? (i := 448) (by decide +kernel)
theorem wk_J2_67 : (.methodLink RJ2 67 yJ2_checkIndex_2214a : Cond) ∈ lw_tbl := List.mem_of_getElem? (i := 451) (by decide +kernel)
theorem wk_J2_48 : (.methodLink RJ2 48 yJ2_length_9d52b : Cond) ∈ lw_tbl := List.mem_of_getElem? (i := 454) (by decide +kernel)
theorem wk_J2_414 : (.methodLink RJ2 414 yJ0_checkIndex_df160 : Cond) ∈ lw_tbl := List.mem_of_getElem? (i := 457) (by decide +kernel)
theorem wk_J2_71 : (.methodLink RJ2 71 yJ2_getChar_3b067 : Cond) ∈ lw_tbl := List.mem_of_getElem? (i := 458) (by decide +kernel)
theorem wf_J2_44 : (.fieldLink RJ2 44 "java/lang/StringUTF16" "$assertionsDisabled" "Z" : Cond) ∈ lw_tbl := List.mem_of_getElem? (i := 461) (by decide +kernel)
theorem wx_DassertionsDisabled : (.laysStatic "java/lang/StringUTF16" "$assertionsDisabled" "Z" : Cond) ∈ lw_tbl := List.mem_of_getElem? (i := 462) (by decide +kernel)
theorem wf_J2_59 : (.fieldLink RJ2 59 "java/lang/StringUTF16" "HI_BYTE_SHIFT" "I" : Cond) ∈ lw_tbl := List.mem_of_getElem? (i := 463) (by decide +kernel)
theorem wx_HI_BYTE_SHIFT : (.laysStatic "java/lang/StringUTF16" "HI_BYTE_SHIFT" "I" : Cond) ∈ lw_tbl := List.mem_of_getElem? (i := 464) (by decide +kernel)
theorem wf_J2_63 : (.fieldLink RJ2 63 "java/lang/StringUTF16" "LO_BYTE_SHIFT" "I" : Cond) ∈ lw_tbl := List.mem_of_getElem? (i := 465) (by decide +kernel)
theorem wx_LO_BYTE_SHIFT : (.laysStatic "java/lang/StringUTF16" "LO_BYTE_SHIFT" "I" : Cond) ∈ lw_tbl := List.mem_of_getElem? (i := 466) (by decide +kernel)
theorem wr_X7_54 : (.stringRef RX7 54 "cosy" : Cond) ∈ lw_tbl := List.mem_of_getElem? (i := 467) (by decide +kernel)
theorem wr_X7_56 : (.stringRef RX7 56 "hunted" : Cond) ∈ lw_tbl := List.mem_of_getElem? (i := 468) (by decide +kernel)
theorem wr_X7_58 : (.stringRef RX7 58 "sheriff" : Cond) ∈ lw_tbl := List.mem_of_getElem? (i := 469) (by decide +kernel)
theorem wr_X7_60 : (.stringRef RX7 60 "wear" : Cond) ∈ lw_tbl := List.mem_of_getElem? (i := 470) (by decide +kernel)
theorem wk_X6_46 : (.methodLink RX6 46 yX6_takes : Cond) ∈ lw_tbl := List.mem_of_getElem? (i := 471) (by decide +kernel)
theorem wk_X6_53 : (.methodLink RX6 53 yX6_takesWord : Cond) ∈ lw_tbl := List.mem_of_getElem? (i := 475) (by decide +kernel)
theorem wk_X6_56 : (.methodLink RX6 56 yX6_numbersOf : Cond) ∈ lw_tbl := List.mem_of_getElem? (i := 479) (by decide +kernel)
theorem wk_X6_60 : (.methodLink RX6 60 yX6_takesNumber : Cond) ∈ lw_tbl := List.mem_of_getElem? (i := 482) (by decide +kernel)
theorem wk_X6_78 : (.methodLink RX6 78 yX6_mostOf : Cond) ∈ lw_tbl := List.mem_of_getElem? (i := 486) (by decide +kernel)
theorem wk_X6_82 : (.methodLinkNest RX6 82 yX8_isIn "CosyAsylum" : Cond) ∈ lw_tbl := List.mem_of_getElem? (i := 490) (by decide +kernel)
theorem wk_X6_63 : (.methodLink RX6 63 yX6_addItem : Cond) ∈ lw_tbl := List.mem_of_getElem? (i := 491) (by decide +kernel)
theorem wk_X6_86 : (.methodLink RX6 86 yX1_addCosy : Cond) ∈ lw_tbl := List.mem_of_getElem? (i := 495) (by decide +kernel)
theorem wk_X6_90 : (.methodLink RX6 90 yX1_addHunted : Cond) ∈ lw_tbl := List.mem_of_getElem? (i := 496) (by decide +kernel)
theorem wk_X6_93 : (.methodLink RX6 93 yX1_addSheriff : Cond) ∈ lw_tbl := List.mem_of_getElem? (i := 497) (by decide +kernel)
theorem wk_X6_96 : (.methodLink RX6 96 yX1_setWear : Cond) ∈ lw_tbl := List.mem_of_getElem? (i := 498) (by decide +kernel)
theorem wk_X1_62 : (.methodLinkNest RX1 62 yX8_isIn "CosyAsylum" : Cond) ∈ lw_tbl := List.mem_of_getElem? (i := 502) (by decide +kernel)
theorem wk_X8_135 : (.methodLink RX8 135 yX1_becomes : Cond) ∈ lw_tbl := List.mem_of_getElem? (i := 503) (by decide +kernel)
theorem wk_X1_52 : (.methodLink RX1 52 arraycopyName : Cond) ∈ lw_tbl := List.mem_of_getElem? (i := 507) (by decide +kernel)
theorem wt_arraycopy : (.static arraycopyName : Cond) ∈ lw_tbl := List.mem_of_getElem? (i := 508) (by decide +kernel)
theorem wt_native : (.native arraycopyName : Cond) ∈ lw_tbl := List.mem_of_getElem? (i := 509) (by decide +kernel)
theorem wa_byte : (.arrayClass .byte : Cond) ∈ lw_tbl := List.mem_of_getElem? (i := 510) (by decide +kernel)
theorem wk_L_44 : (.methodLink RL 44 yX8_hour : Cond) ∈ lw_tbl := List.mem_of_getElem? (i := 511) (by decide +kernel)
theorem wk_X8_142 : (.methodLink RX8 142 yX5_keep : Cond) ∈ lw_tbl := List.mem_of_getElem? (i := 515) (by decide +kernel)
theorem wk_X5_22 : (.methodLink RX5 22 yX5_dropFirst : Cond) ∈ lw_tbl := List.mem_of_getElem? (i := 519) (by decide +kernel)
theorem wk_X5_25 : (.methodLink RX5 25 yX5_rowAt : Cond) ∈ lw_tbl := List.mem_of_getElem? (i := 523) (by decide +kernel)
theorem wk_X5_33 : (.methodLinkNest RX5 33 yX8_isIn "CosyAsylum" : Cond) ∈ lw_tbl := List.mem_of_getElem? (i := 527) (by decide +kernel)
theorem wk_X5_29 : (.methodLink RX5 29 yX1_becomes : Cond) ∈ lw_tbl := List.mem_of_getElem? (i := 528) (by decide +kernel)
theorem wk_X8_148 : (.methodLink RX8 148 yX1_passHours : Cond) ∈ lw_tbl := List.mem_of_getElem? (i := 529) (by decide +kernel)
theorem wk_X1_91 : (.methodLink RX1 91 yX1_passHourWith : Cond) ∈ lw_tbl := List.mem_of_getElem? (i := 533) (by decide +kernel)
theorem wk_X1_94 : (.methodLink RX1 94 yX1_countRooms : Cond) ∈ lw_tbl := List.mem_of_getElem? (i := 537) (by decide +kernel)
theorem wk_X1_107 : (.methodLink RX1 107 yX1_holds : Cond) ∈ lw_tbl := List.mem_of_getElem? (i := 541) (by decide +kernel)
theorem wk_X1_66 : (.methodLink RX1 66 yX4_holds : Cond) ∈ lw_tbl := List.mem_of_getElem? (i := 545) (by decide +kernel)
theorem wk_X4_9 : (.methodLink RX4 9 yJ9_max_7cf53 : Cond) ∈ lw_tbl := List.mem_of_getElem? (i := 548) (by decide +kernel)
theorem wk_X1_109 : (.methodLink RX1 109 yX1_fill : Cond) ∈ lw_tbl := List.mem_of_getElem? (i := 551) (by decide +kernel)
theorem wk_X1_97 : (.methodLink RX1 97 yX1_flee : Cond) ∈ lw_tbl := List.mem_of_getElem? (i := 555) (by decide +kernel)
theorem wk_X1_112 : (.methodLink RX1 112 yX0_beside : Cond) ∈ lw_tbl := List.mem_of_getElem? (i := 559) (by decide +kernel)
theorem wk_X1_115 : (.methodLink RX1 115 yX1_nearestRoom : Cond) ∈ lw_tbl := List.mem_of_getElem? (i := 562) (by decide +kernel)
theorem wk_X1_85 : (.methodLink RX1 85 yX0_far : Cond) ∈ lw_tbl := List.mem_of_getElem? (i := 566) (by decide +kernel)
theorem wk_X0_9 : (.methodLink RX0 9 yJ9_abs_0f7a4 : Cond) ∈ lw_tbl := List.mem_of_getElem? (i := 569) (by decide +kernel)
theorem wk_X1_118 : (.methodLink RX1 118 yX0_step : Cond) ∈ lw_tbl := List.mem_of_getElem? (i := 572) (by decide +kernel)
theorem wk_X1_100 : (.methodLink RX1 100 yX1_chase : Cond) ∈ lw_tbl := List.mem_of_getElem? (i := 575) (by decide +kernel)
theorem wk_X1_121 : (.methodLink RX1 121 yX1_nearestFree : Cond) ∈ lw_tbl := List.mem_of_getElem? (i := 579) (by decide +kernel)
theorem wk_X1_104 : (.methodLink RX1 104 yX1_wearOut : Cond) ∈ lw_tbl := List.mem_of_getElem? (i := 583) (by decide +kernel)
theorem wk_X1_124 : (.methodLink RX1 124 yX4_wearsInAnHour : Cond) ∈ lw_tbl := List.mem_of_getElem? (i := 587) (by decide +kernel)
theorem wk_X1_127 : (.methodLink RX1 127 yJ9_min_7cf53 : Cond) ∈ lw_tbl := List.mem_of_getElem? (i := 590) (by decide +kernel)
theorem wk_X8_151 : (.methodLink RX8 151 yX1_manyTaken : Cond) ∈ lw_tbl := List.mem_of_getElem? (i := 593) (by decide +kernel)
theorem wk_X1_72 : (.methodLink RX1 72 yX1_whoIs : Cond) ∈ lw_tbl := List.mem_of_getElem? (i := 597) (by decide +kernel)
theorem wk_X1_76 : (.methodLink RX1 76 yJ6_bitCount_0f7a4 : Cond) ∈ lw_tbl := List.mem_of_getElem? (i := 601) (by decide +kernel)
theorem wq_J6_265 : (.constant RJ6 265 (1431655765) : Cond) ∈ lw_tbl := List.mem_of_getElem? (i := 604) (by decide +kernel)
theorem wq_J6_266 : (.constant RJ6 266 (858993459) : Cond) ∈ lw_tbl := List.mem_of_getElem? (i := 605) (by decide +kernel)
theorem wq_J6_267 : (.constant RJ6 267 (252645135) : Cond) ∈ lw_tbl := List.mem_of_getElem? (i := 606) (by decide +kernel)
theorem wk_L_48 : (.methodLink RL 48 yX8_darn : Cond) ∈ lw_tbl := List.mem_of_getElem? (i := 607) (by decide +kernel)
theorem wk_X8_154 : (.methodLink RX8 154 yX8_isCosy : Cond) ∈ lw_tbl := List.mem_of_getElem? (i := 611) (by decide +kernel)
theorem wk_X8_160 : (.methodLink RX8 160 yJ9_max_7cf53 : Cond) ∈ lw_tbl := List.mem_of_getElem? (i := 615) (by decide +kernel)
theorem wk_X8_166 : (.methodLink RX8 166 yX1_setWear : Cond) ∈ lw_tbl := List.mem_of_getElem? (i := 616) (by decide +kernel)
theorem wk_L_53 : (.methodLink RL 53 yX8_carry : Cond) ∈ lw_tbl := List.mem_of_getElem? (i := 617) (by decide +kernel)
theorem wk_X8_173 : (.methodLink RX8 173 yX1_moveCosy : Cond) ∈ lw_tbl := List.mem_of_getElem? (i := 621) (by decide +kernel)
theorem wk_L_57 : (.methodLink RL 57 yX8_undo : Cond) ∈ lw_tbl := List.mem_of_getElem? (i := 625) (by decide +kernel)
theorem wk_X8_176 : (.methodLink RX8 176 yX8_no : Cond) ∈ lw_tbl := List.mem_of_getElem? (i := 629) (by decide +kernel)
theorem wk_X8_179 : (.methodLink RX8 179 yX5_giveBack : Cond) ∈ lw_tbl := List.mem_of_getElem? (i := 633) (by decide +kernel)
theorem wk_L_61 : (.methodLink RL 61 yX8_of : Cond) ∈ lw_tbl := List.mem_of_getElem? (i := 637) (by decide +kernel)
theorem wk_X8_188 : (.methodLink RX8 188 yX1_holds : Cond) ∈ lw_tbl := List.mem_of_getElem? (i := 641) (by decide +kernel)
theorem wk_X8_191 : (.methodLink RX8 191 yX1_whoIs : Cond) ∈ lw_tbl := List.mem_of_getElem? (i := 642) (by decide +kernel)
theorem wk_L_65 : (.methodLink RL 65 yX8_about : Cond) ∈ lw_tbl := List.mem_of_getElem? (i := 643) (by decide +kernel)
theorem wk_X8_194 : (.methodLink RX8 194 yX8_isOneHunted : Cond) ∈ lw_tbl := List.mem_of_getElem? (i := 647) (by decide +kernel)
theorem wk_X8_197 : (.methodLink RX8 197 yX1_tellOf : Cond) ∈ lw_tbl := List.mem_of_getElem? (i := 651) (by decide +kernel)
theorem wk_L_69 : (.methodLink RL 69 yX8_where : Cond) ∈ lw_tbl := List.mem_of_getElem? (i := 655) (by decide +kernel)
theorem wk_L_73 : (.methodLink RL 73 yX8_then : Cond) ∈ lw_tbl := List.mem_of_getElem? (i := 659) (by decide +kernel)
theorem wk_X8_203 : (.methodLink RX8 203 yX8_lookAhead : Cond) ∈ lw_tbl := List.mem_of_getElem? (i := 663) (by decide +kernel)
theorem wk_L_77 : (.methodLink RL 77 yX8_fate : Cond) ∈ lw_tbl := List.mem_of_getElem? (i := 667) (by decide +kernel)
theorem wk_X8_206 : (.methodLink RX8 206 yX1_manyUnder_ : Cond) ∈ lw_tbl := List.mem_of_getElem? (i := 671) (by decide +kernel)
theorem wk_X1_81 : (.methodLink RX1 81 yX1_manyTaken : Cond) ∈ lw_tbl := List.mem_of_getElem? (i := 675) (by decide +kernel)
theorem wk_L_81 : (.methodLink RL 81 yX8_when : Cond) ∈ lw_tbl := List.mem_of_getElem? (i := 676) (by decide +kernel)
theorem wk_L_85 : (.methodLink RL 85 yX8_place : Cond) ∈ lw_tbl := List.mem_of_getElem? (i := 680) (by decide +kernel)
theorem wk_L_89 : (.methodLink RL 89 yX8_run : Cond) ∈ lw_tbl := List.mem_of_getElem? (i := 684) (by decide +kernel)
theorem wk_X8_212 : (.methodLink RX8 212 yX2_findFewestHours : Cond) ∈ lw_tbl := List.mem_of_getElem? (i := 688) (by decide +kernel)
theorem wk_X2_22 : (.methodLink RX2 22 yX2_stageAt : Cond) ∈ lw_tbl := List.mem_of_getElem? (i := 692) (by decide +kernel)
theorem wk_X2_54 : (.methodLinkNest RX2 54 yX8_isIn "CosyAsylum" : Cond) ∈ lw_tbl := List.mem_of_getElem? (i := 696) (by decide +kernel)
theorem wk_X2_26 : (.methodLink RX2 26 yX1_becomes : Cond) ∈ lw_tbl := List.mem_of_getElem? (i := 697) (by decide +kernel)
theorem wk_X2_30 : (.methodLink RX2 30 yX2_isUnderBehind : Cond) ∈ lw_tbl := List.mem_of_getElem? (i := 698) (by decide +kernel)
theorem wk_X2_37 : (.methodLink RX2 37 yX1_fewestHoursTo : Cond) ∈ lw_tbl := List.mem_of_getElem? (i := 701) (by decide +kernel)
theorem wk_X2_44 : (.methodLink RX2 44 yX0_beside : Cond) ∈ lw_tbl := List.mem_of_getElem? (i := 705) (by decide +kernel)
theorem wk_X2_50 : (.methodLink RX2 50 yX1_passHourWith : Cond) ∈ lw_tbl := List.mem_of_getElem? (i := 706) (by decide +kernel)
theorem wk_L_93 : (.methodLink RL 93 yX8_stitches : Cond) ∈ lw_tbl := List.mem_of_getElem? (i := 707) (by decide +kernel)
theorem wk_X8_219 : (.methodLink RX8 219 yX8_holdsAs : Cond) ∈ lw_tbl := List.mem_of_getElem? (i := 711) (by decide +kernel)
theorem wk_X8_285 : (.methodLink RX8 285 yX4_holds : Cond) ∈ lw_tbl := List.mem_of_getElem? (i := 715) (by decide +kernel)
theorem wk_L_97 : (.methodLink RL 97 yX8_note : Cond) ∈ lw_tbl := List.mem_of_getElem? (i := 716) (by decide +kernel)
theorem wk_X8_225 : (.methodLink RX8 225 yX3_addNote : Cond) ∈ lw_tbl := List.mem_of_getElem? (i := 720) (by decide +kernel)
theorem wk_L_101 : (.methodLink RL 101 yX8_forget : Cond) ∈ lw_tbl := List.mem_of_getElem? (i := 724) (by decide +kernel)
theorem wk_L_105 : (.methodLink RL 105 yX8_is : Cond) ∈ lw_tbl := List.mem_of_getElem? (i := 728) (by decide +kernel)
theorem wk_X8_228 : (.methodLink RX8 228 yX8_fittingKinds : Cond) ∈ lw_tbl := List.mem_of_getElem? (i := 732) (by decide +kernel)
theorem wk_X8_289 : (.methodLink RX8 289 yX8_fitsNotes : Cond) ∈ lw_tbl := List.mem_of_getElem? (i := 736) (by decide +kernel)
theorem wk_L_109 : (.methodLink RL 109 yX8_feel : Cond) ∈ lw_tbl := List.mem_of_getElem? (i := 740) (by decide +kernel)
theorem wk_X8_231 : (.methodLink RX8 231 yX8_mostAlike : Cond) ∈ lw_tbl := List.mem_of_getElem? (i := 744) (by decide +kernel)
theorem wk_L_113 : (.methodLink RL 113 yX8_inside : Cond) ∈ lw_tbl := List.mem_of_getElem? (i := 748) (by decide +kernel)
theorem wk_X8_234 : (.methodLink RX8 234 yX1_whoIsNear : Cond) ∈ lw_tbl := List.mem_of_getElem? (i := 752) (by decide +kernel)
theorem wk_X8_237 : (.methodLink RX8 237 yJ6_bitCount_0f7a4 : Cond) ∈ lw_tbl := List.mem_of_getElem? (i := 756) (by decide +kernel)
theorem wk_L_117 : (.methodLink RL 117 yX8_two : Cond) ∈ lw_tbl := List.mem_of_getElem? (i := 757) (by decide +kernel)
theorem wk_X8_242 : (.methodLink RX8 242 yX8_rests : Cond) ∈ lw_tbl := List.mem_of_getElem? (i := 761) (by decide +kernel)
theorem wk_X8_302 : (.methodLink RX8 302 yX8_getsBy : Cond) ∈ lw_tbl := List.mem_of_getElem? (i := 765) (by decide +kernel)
theorem wk_X8_309 : (.methodLink RX8 309 yX0_far : Cond) ∈ lw_tbl := List.mem_of_getElem? (i := 769) (by decide +kernel)
theorem wk_X8_314 : (.methodLink RX8 314 yX1_manyUnder : Cond) ∈ lw_tbl := List.mem_of_getElem? (i := 770) (by decide +kernel)
theorem wk_L_121 : (.methodLink RL 121 yX8_rain : Cond) ∈ lw_tbl := List.mem_of_getElem? (i := 774) (by decide +kernel)
theorem wk_L_125 : (.methodLink RL 125 yX8_years : Cond) ∈ lw_tbl := List.mem_of_getElem? (i := 778) (by decide +kernel)
theorem wq_X8_246 : (.constant RX8 246 (999999) : Cond) ∈ lw_tbl := List.mem_of_getElem? (i := 782) (by decide +kernel)
theorem wq_X8_247 : (.constantLong RX8 247 (1103515245) : Cond) ∈ lw_tbl := List.mem_of_getElem? (i := 783) (by decide +kernel)
theorem wq_X8_249 : (.constantLong RX8 249 (12345) : Cond) ∈ lw_tbl := List.mem_of_getElem? (i := 784) (by decide +kernel)
theorem wq_X8_251 : (.constantLong RX8 251 (2147483648) : Cond) ∈ lw_tbl := List.mem_of_getElem? (i := 785) (by decide +kernel)
theorem wq_X8_253 : (.constantLong RX8 253 (65536) : Cond) ∈ lw_tbl := List.mem_of_getElem? (i := 786) (by decide +kernel)
theorem wq_X8_255 : (.constantLong RX8 255 (24) : Cond) ∈ lw_tbl := List.mem_of_getElem? (i := 787) (by decide +kernel)
theorem wk_X8_257 : (.methodLink RX8 257 yX1_setFree : Cond) ∈ lw_tbl := List.mem_of_getElem? (i := 788) (by decide +kernel)
theorem wk_L_129 : (.methodLink RL 129 yX8_part : Cond) ∈ lw_tbl := List.mem_of_getElem? (i := 789) (by decide +kernel)
theorem wk_L_134 : (.methodLink RL 134 yX8_image : Cond) ∈ lw_tbl := List.mem_of_getElem? (i := 793) (by decide +kernel)
theorem wk_X8_260 : (.methodLink RX8 260 yX8_imageAt : Cond) ∈ lw_tbl := List.mem_of_getElem? (i := 797) (by decide +kernel)
theorem wk_X8_264 : (.methodLink RX8 264 yX3_becomes : Cond) ∈ lw_tbl := List.mem_of_getElem? (i := 801) (by decide +kernel)
theorem wk_X3_49 : (.methodLink RX3 49 yX1_becomes : Cond) ∈ lw_tbl := List.mem_of_getElem? (i := 805) (by decide +kernel)
theorem wk_X3_53 : (.methodLink RX3 53 yX5_becomes : Cond) ∈ lw_tbl := List.mem_of_getElem? (i := 806) (by decide +kernel)
theorem wk_X3_56 : (.methodLink RX3 56 arraycopyName : Cond) ∈ lw_tbl := List.mem_of_getElem? (i := 810) (by decide +kernel)
theorem wk_L_138 : (.methodLink RL 138 yX8_from : Cond) ∈ lw_tbl := List.mem_of_getElem? (i := 811) (by decide +kernel)
theorem wk_L_142 : (.methodLink RL 142 yX8_status : Cond) ∈ lw_tbl := List.mem_of_getElem? (i := 815) (by decide +kernel)
theorem wk_L_146 : (.methodLink RL 146 yX8_count : Cond) ∈ lw_tbl := List.mem_of_getElem? (i := 819) (by decide +kernel)
theorem wk_X8_271 : (.methodLink RX8 271 yX8_countOf : Cond) ∈ lw_tbl := List.mem_of_getElem? (i := 823) (by decide +kernel)
theorem wk_L_150 : (.methodLink RL 150 yX8_digest : Cond) ∈ lw_tbl := List.mem_of_getElem? (i := 827) (by decide +kernel)
theorem wq_X8_274 : (.constantLong RX8 274 (1409) : Cond) ∈ lw_tbl := List.mem_of_getElem? (i := 831) (by decide +kernel)
theorem wq_X8_276 : (.constantLong RX8 276 (31) : Cond) ∈ lw_tbl := List.mem_of_getElem? (i := 832) (by decide +kernel)
theorem wk_X8_278 : (.methodLink RX8 278 yX1_digestOn : Cond) ∈ lw_tbl := List.mem_of_getElem? (i := 833) (by decide +kernel)
theorem wq_X1_132 : (.constantLong RX1 132 (31) : Cond) ∈ lw_tbl := List.mem_of_getElem? (i := 837) (by decide +kernel)
theorem wk_X1_134 : (.methodLink RX1 134 yX1_tellOf : Cond) ∈ lw_tbl := List.mem_of_getElem? (i := 838) (by decide +kernel)
theorem wk_X8_282 : (.methodLink RX8 282 yX3_digestNotesOn : Cond) ∈ lw_tbl := List.mem_of_getElem? (i := 839) (by decide +kernel)
theorem wq_X3_62 : (.constantLong RX3 62 (31) : Cond) ∈ lw_tbl := List.mem_of_getElem? (i := 843) (by decide +kernel)
theorem wl_L_10 : (.classLink RL 10 RX9 : Cond) ∈ lw_tbl := List.mem_of_getElem? (i := 844) (by decide +kernel)
theorem wk_L_12 : (.methodLink RL 12 yX9_init : Cond) ∈ lw_tbl := List.mem_of_getElem? (i := 846) (by decide +kernel)
theorem wk_X9_1 : (.methodLink RX9 1 objectInit : Cond) ∈ lw_tbl := List.mem_of_getElem? (i := 849) (by decide +kernel)
theorem wf_X9_7 : (.fieldLink RX9 7 "CosyAsylumModel" "now" "[I" : Cond) ∈ lw_tbl := List.mem_of_getElem? (i := 850) (by decide +kernel)
theorem wf_X9_13 : (.fieldLink RX9 13 "CosyAsylumModel" "tried" "[I" : Cond) ∈ lw_tbl := List.mem_of_getElem? (i := 851) (by decide +kernel)
theorem wf_X9_16 : (.fieldLink RX9 16 "CosyAsylumModel" "read" "[I" : Cond) ∈ lw_tbl := List.mem_of_getElem? (i := 852) (by decide +kernel)
theorem wf_X9_19 : (.fieldLink RX9 19 "CosyAsylumModel" "image" "[I" : Cond) ∈ lw_tbl := List.mem_of_getElem? (i := 853) (by decide +kernel)
theorem wf_X9_22 : (.fieldLink RX9 22 "CosyAsylumModel" "isKept" "[Z" : Cond) ∈ lw_tbl := List.mem_of_getElem? (i := 854) (by decide +kernel)
theorem wf_X9_26 : (.fieldLink RX9 26 "CosyAsylumModel" "refused" "[I" : Cond) ∈ lw_tbl := List.mem_of_getElem? (i := 855) (by decide +kernel)
theorem wf_X9_244 : (.fieldLink RX9 244 "CosyAsylumModel" "upper" "J" : Cond) ∈ lw_tbl := List.mem_of_getElem? (i := 856) (by decide +kernel)
theorem wf_X9_29 : (.fieldLink RX9 29 "CosyAsylumModel" "lower" "J" : Cond) ∈ lw_tbl := List.mem_of_getElem? (i := 857) (by decide +kernel)
theorem wf_X9_73 : (.fieldLink RX9 73 "CosyAsylumModel" "letters" "I" : Cond) ∈ lw_tbl := List.mem_of_getElem? (i := 858) (by decide +kernel)
theorem wf_X9_33 : (.fieldLink RX9 33 "CosyAsylumModel" "text" "[I" : Cond) ∈ lw_tbl := List.mem_of_getElem? (i := 859) (by decide +kernel)
theorem wf_X9_77 : (.fieldLink RX9 77 "CosyAsylumModel" "position" "I" : Cond) ∈ lw_tbl := List.mem_of_getElem? (i := 860) (by decide +kernel)
theorem wf_X9_80 : (.fieldLink RX9 80 "CosyAsylumModel" "tokenAt" "I" : Cond) ∈ lw_tbl := List.mem_of_getElem? (i := 861) (by decide +kernel)
theorem wf_X9_89 : (.fieldLink RX9 89 "CosyAsylumModel" "token" "I" : Cond) ∈ lw_tbl := List.mem_of_getElem? (i := 862) (by decide +kernel)
theorem wf_X9_86 : (.fieldLink RX9 86 "CosyAsylumModel" "number" "I" : Cond) ∈ lw_tbl := List.mem_of_getElem? (i := 863) (by decide +kernel)
theorem wf_X9_83 : (.fieldLink RX9 83 "CosyAsylumModel" "word" "J" : Cond) ∈ lw_tbl := List.mem_of_getElem? (i := 864) (by decide +kernel)
theorem wf_X9_106 : (.fieldLink RX9 106 "CosyAsylumModel" "items" "I" : Cond) ∈ lw_tbl := List.mem_of_getElem? (i := 865) (by decide +kernel)
theorem wf_X9_36 : (.fieldLink RX9 36 "CosyAsylumModel" "choice" "[I" : Cond) ∈ lw_tbl := List.mem_of_getElem? (i := 866) (by decide +kernel)
theorem wa_boolean : (.arrayClass .boolean : Cond) ∈ lw_tbl := List.mem_of_getElem? (i := 902) (by decide +kernel)
theorem wk_L_17 : (.methodLink RL 17 yX9_common : Cond) ∈ lw_tbl := List.mem_of_getElem? (i := 903) (by decide +kernel)
theorem wk_X9_47 : (.methodLink RX9 47 yX9_begin : Cond) ∈ lw_tbl := List.mem_of_getElem? (i := 907) (by decide +kernel)
theorem wk_L_22 : (.methodLink RL 22 yX9_cosy : Cond) ∈ lw_tbl := List.mem_of_getElem? (i := 910) (by decide +kernel)
theorem wk_X9_43 : (.methodLink RX9 43 yX9_in : Cond) ∈ lw_tbl := List.mem_of_getElem? (i := 914) (by decide +kernel)
theorem wk_X9_51 : (.methodLink RX9 51 yX9_isCell : Cond) ∈ lw_tbl := List.mem_of_getElem? (i := 917) (by decide +kernel)
theorem wk_X9_55 : (.methodLink RX9 55 yX9_bad : Cond) ∈ lw_tbl := List.mem_of_getElem? (i := 920) (by decide +kernel)
theorem wk_X9_39 : (.methodLink RX9 39 yX9_badBy : Cond) ∈ lw_tbl := List.mem_of_getElem? (i := 924) (by decide +kernel)
theorem wk_X9_59 : (.methodLink RX9 59 yX9_full : Cond) ∈ lw_tbl := List.mem_of_getElem? (i := 928) (by decide +kernel)
theorem wk_X9_62 : (.methodLink RX9 62 yX9_addCosy : Cond) ∈ lw_tbl := List.mem_of_getElem? (i := 932) (by decide +kernel)
theorem wk_L_27 : (.methodLink RL 27 yX9_hunted : Cond) ∈ lw_tbl := List.mem_of_getElem? (i := 935) (by decide +kernel)
theorem wk_X9_66 : (.methodLink RX9 66 yX9_addHunted : Cond) ∈ lw_tbl := List.mem_of_getElem? (i := 939) (by decide +kernel)
theorem wk_L_31 : (.methodLink RL 31 yX9_sheriff : Cond) ∈ lw_tbl := List.mem_of_getElem? (i := 942) (by decide +kernel)
theorem wk_X9_70 : (.methodLink RX9 70 yX9_addSheriff : Cond) ∈ lw_tbl := List.mem_of_getElem? (i := 946) (by decide +kernel)
theorem wk_L_35 : (.methodLink RL 35 yX9_type : Cond) ∈ lw_tbl := List.mem_of_getElem? (i := 949) (by decide +kernel)
theorem wk_L_39 : (.methodLink RL 39 yX9_clear : Cond) ∈ lw_tbl := List.mem_of_getElem? (i := 953) (by decide +kernel)
theorem wk_L_43 : (.methodLink RL 43 yX9_read : Cond) ∈ lw_tbl := List.mem_of_getElem? (i := 957) (by decide +kernel)
theorem wk_X9_135 : (.methodLink RX9 135 yX9_isRead : Cond) ∈ lw_tbl := List.mem_of_getElem? (i := 961) (by decide +kernel)
theorem wk_X9_99 : (.methodLink RX9 99 yX9_nextToken : Cond) ∈ lw_tbl := List.mem_of_getElem? (i := 965) (by decide +kernel)
theorem wk_X9_92 : (.methodLink RX9 92 yX9_kindAt : Cond) ∈ lw_tbl := List.mem_of_getElem? (i := 969) (by decide +kernel)
theorem wq_X9_95 : (.constantLong RX9 95 (256) : Cond) ∈ lw_tbl := List.mem_of_getElem? (i := 973) (by decide +kernel)
theorem wq_X9_97 : (.constantLong RX9 97 (-1) : Cond) ∈ lw_tbl := List.mem_of_getElem? (i := 974) (by decide +kernel)
theorem wk_X9_132 : (.methodLink RX9 132 yX9_isItem : Cond) ∈ lw_tbl := List.mem_of_getElem? (i := 975) (by decide +kernel)
theorem wq_X9_109 : (.constantLong RX9 109 (109330228408174) : Cond) ∈ lw_tbl := List.mem_of_getElem? (i := 979) (by decide +kernel)
theorem wq_X9_111 : (.constantLong RX9 111 (1668248441) : Cond) ∈ lw_tbl := List.mem_of_getElem? (i := 980) (by decide +kernel)
theorem wk_X9_113 : (.methodLink RX9 113 yX9_isCosyItem : Cond) ∈ lw_tbl := List.mem_of_getElem? (i := 981) (by decide +kernel)
theorem wk_X9_102 : (.methodLink RX9 102 yX9_isNumber : Cond) ∈ lw_tbl := List.mem_of_getElem? (i := 985) (by decide +kernel)
theorem wq_X9_117 : (.constantLong RX9 117 (114853573584228) : Cond) ∈ lw_tbl := List.mem_of_getElem? (i := 989) (by decide +kernel)
theorem wk_X9_119 : (.methodLink RX9 119 yX9_isHuntedItem : Cond) ∈ lw_tbl := List.mem_of_getElem? (i := 990) (by decide +kernel)
theorem wq_X9_122 : (.constantLong RX9 122 (32484407242221158) : Cond) ∈ lw_tbl := List.mem_of_getElem? (i := 994) (by decide +kernel)
theorem wk_X9_124 : (.methodLink RX9 124 yX9_isSheriffItem : Cond) ∈ lw_tbl := List.mem_of_getElem? (i := 995) (by decide +kernel)
theorem wq_X9_127 : (.constantLong RX9 127 (2003132786) : Cond) ∈ lw_tbl := List.mem_of_getElem? (i := 999) (by decide +kernel)
theorem wk_X9_129 : (.methodLink RX9 129 yX9_isWearItem : Cond) ∈ lw_tbl := List.mem_of_getElem? (i := 1000) (by decide +kernel)
theorem wk_X9_138 : (.methodLink RX9 138 yX9_bring : Cond) ∈ lw_tbl := List.mem_of_getElem? (i := 1004) (by decide +kernel)
theorem wk_L_47 : (.methodLink RL 47 yX9_hour : Cond) ∈ lw_tbl := List.mem_of_getElem? (i := 1007) (by decide +kernel)
theorem wk_X9_184 : (.methodLink RX9 184 yX9_keepBack : Cond) ∈ lw_tbl := List.mem_of_getElem? (i := 1011) (by decide +kernel)
theorem wk_X9_187 : (.methodLink RX9 187 yX9_goBy : Cond) ∈ lw_tbl := List.mem_of_getElem? (i := 1015) (by decide +kernel)
theorem wk_X9_178 : (.methodLink RX9 178 yX9_goes : Cond) ∈ lw_tbl := List.mem_of_getElem? (i := 1018) (by decide +kernel)
theorem wk_X9_162 : (.methodLink RX9 162 yX9_goal : Cond) ∈ lw_tbl := List.mem_of_getElem? (i := 1021) (by decide +kernel)
theorem wk_X9_149 : (.methodLink RX9 149 yX9_holds : Cond) ∈ lw_tbl := List.mem_of_getElem? (i := 1024) (by decide +kernel)
theorem wk_X9_142 : (.methodLink RX9 142 yX9_holdsBy : Cond) ∈ lw_tbl := List.mem_of_getElem? (i := 1027) (by decide +kernel)
theorem wk_X9_152 : (.methodLink RX9 152 yX9_underIn : Cond) ∈ lw_tbl := List.mem_of_getElem? (i := 1030) (by decide +kernel)
theorem wk_X9_155 : (.methodLink RX9 155 yX9_bits : Cond) ∈ lw_tbl := List.mem_of_getElem? (i := 1033) (by decide +kernel)
theorem wk_X9_158 : (.methodLink RX9 158 yX9_far : Cond) ∈ lw_tbl := List.mem_of_getElem? (i := 1036) (by decide +kernel)
theorem wk_X9_146 : (.methodLink RX9 146 yX9_away : Cond) ∈ lw_tbl := List.mem_of_getElem? (i := 1039) (by decide +kernel)
theorem wk_X9_165 : (.methodLink RX9 165 yX9_step : Cond) ∈ lw_tbl := List.mem_of_getElem? (i := 1042) (by decide +kernel)
theorem wk_X9_181 : (.methodLink RX9 181 yX9_endHour : Cond) ∈ lw_tbl := List.mem_of_getElem? (i := 1045) (by decide +kernel)
theorem wk_X9_171 : (.methodLink RX9 171 yX9_hunts : Cond) ∈ lw_tbl := List.mem_of_getElem? (i := 1048) (by decide +kernel)
theorem wk_X9_175 : (.methodLink RX9 175 yX9_wears : Cond) ∈ lw_tbl := List.mem_of_getElem? (i := 1051) (by decide +kernel)
theorem wk_X9_168 : (.methodLink RX9 168 yX9_wearsBy : Cond) ∈ lw_tbl := List.mem_of_getElem? (i := 1054) (by decide +kernel)
theorem wk_X9_190 : (.methodLink RX9 190 yX9_takenIn : Cond) ∈ lw_tbl := List.mem_of_getElem? (i := 1057) (by decide +kernel)
theorem wk_L_52 : (.methodLink RL 52 yX9_darn : Cond) ∈ lw_tbl := List.mem_of_getElem? (i := 1060) (by decide +kernel)
theorem wk_X9_194 : (.methodLink RX9 194 yX9_isCosy : Cond) ∈ lw_tbl := List.mem_of_getElem? (i := 1064) (by decide +kernel)
theorem wk_L_56 : (.methodLink RL 56 yX9_carry : Cond) ∈ lw_tbl := List.mem_of_getElem? (i := 1068) (by decide +kernel)
theorem wk_X9_197 : (.methodLink RX9 197 yX9_bringTo : Cond) ∈ lw_tbl := List.mem_of_getElem? (i := 1072) (by decide +kernel)
theorem wk_L_60 : (.methodLink RL 60 yX9_undo : Cond) ∈ lw_tbl := List.mem_of_getElem? (i := 1075) (by decide +kernel)
theorem wk_X9_201 : (.methodLink RX9 201 yX9_no : Cond) ∈ lw_tbl := List.mem_of_getElem? (i := 1079) (by decide +kernel)
theorem wk_L_64 : (.methodLink RL 64 yX9_of : Cond) ∈ lw_tbl := List.mem_of_getElem? (i := 1083) (by decide +kernel)
theorem wk_L_68 : (.methodLink RL 68 yX9_about : Cond) ∈ lw_tbl := List.mem_of_getElem? (i := 1087) (by decide +kernel)
theorem wk_X9_204 : (.methodLink RX9 204 yX9_isHunted : Cond) ∈ lw_tbl := List.mem_of_getElem? (i := 1091) (by decide +kernel)
theorem wk_X9_207 : (.methodLink RX9 207 yX9_aboutIn : Cond) ∈ lw_tbl := List.mem_of_getElem? (i := 1095) (by decide +kernel)
theorem wk_L_72 : (.methodLink RL 72 yX9_where : Cond) ∈ lw_tbl := List.mem_of_getElem? (i := 1098) (by decide +kernel)
theorem wk_L_76 : (.methodLink RL 76 yX9_then : Cond) ∈ lw_tbl := List.mem_of_getElem? (i := 1102) (by decide +kernel)
theorem wk_X9_211 : (.methodLink RX9 211 yX9_copyNow : Cond) ∈ lw_tbl := List.mem_of_getElem? (i := 1106) (by decide +kernel)
theorem wk_X9_214 : (.methodLink RX9 214 yX9_goOn : Cond) ∈ lw_tbl := List.mem_of_getElem? (i := 1110) (by decide +kernel)
theorem wk_L_80 : (.methodLink RL 80 yX9_fate : Cond) ∈ lw_tbl := List.mem_of_getElem? (i := 1114) (by decide +kernel)
theorem wk_X9_218 : (.methodLink RX9 218 yX9_underAll : Cond) ∈ lw_tbl := List.mem_of_getElem? (i := 1118) (by decide +kernel)
theorem wk_L_84 : (.methodLink RL 84 yX9_when : Cond) ∈ lw_tbl := List.mem_of_getElem? (i := 1121) (by decide +kernel)
theorem wk_L_88 : (.methodLink RL 88 yX9_place : Cond) ∈ lw_tbl := List.mem_of_getElem? (i := 1125) (by decide +kernel)
theorem wk_L_92 : (.methodLink RL 92 yX9_run : Cond) ∈ lw_tbl := List.mem_of_getElem? (i := 1129) (by decide +kernel)
theorem wk_X9_228 : (.methodLink RX9 228 yX9_isUnderBy : Cond) ∈ lw_tbl := List.mem_of_getElem? (i := 1133) (by decide +kernel)
theorem wk_X9_225 : (.methodLink RX9 225 yX9_goesBy : Cond) ∈ lw_tbl := List.mem_of_getElem? (i := 1137) (by decide +kernel)
theorem wk_X9_221 : (.methodLink RX9 221 yX9_chooses : Cond) ∈ lw_tbl := List.mem_of_getElem? (i := 1141) (by decide +kernel)
theorem wk_L_96 : (.methodLink RL 96 yX9_stitches : Cond) ∈ lw_tbl := List.mem_of_getElem? (i := 1144) (by decide +kernel)
theorem wk_L_100 : (.methodLink RL 100 yX9_note : Cond) ∈ lw_tbl := List.mem_of_getElem? (i := 1148) (by decide +kernel)
theorem wk_L_104 : (.methodLink RL 104 yX9_forget : Cond) ∈ lw_tbl := List.mem_of_getElem? (i := 1152) (by decide +kernel)
theorem wk_L_108 : (.methodLink RL 108 yX9_is : Cond) ∈ lw_tbl := List.mem_of_getElem? (i := 1156) (by decide +kernel)
theorem wk_X9_231 : (.methodLink RX9 231 yX9_kindsOf : Cond) ∈ lw_tbl := List.mem_of_getElem? (i := 1160) (by decide +kernel)
theorem wk_L_112 : (.methodLink RL 112 yX9_feel : Cond) ∈ lw_tbl := List.mem_of_getElem? (i := 1164) (by decide +kernel)
theorem wk_L_116 : (.methodLink RL 116 yX9_inside : Cond) ∈ lw_tbl := List.mem_of_getElem? (i := 1168) (by decide +kernel)
theorem wk_L_120 : (.methodLink RL 120 yX9_two : Cond) ∈ lw_tbl := List.mem_of_getElem? (i := 1172) (by decide +kernel)
theorem wk_X9_238 : (.methodLink RX9 238 yX9_rests : Cond) ∈ lw_tbl := List.mem_of_getElem? (i := 1176) (by decide +kernel)
theorem wk_X9_234 : (.methodLink RX9 234 yX9_gets : Cond) ∈ lw_tbl := List.mem_of_getElem? (i := 1180) (by decide +kernel)
theorem wk_L_124 : (.methodLink RL 124 yX9_rain : Cond) ∈ lw_tbl := List.mem_of_getElem? (i := 1184) (by decide +kernel)
theorem wq_X9_242 : (.constantLong RX9 242 (10) : Cond) ∈ lw_tbl := List.mem_of_getElem? (i := 1188) (by decide +kernel)
theorem wk_L_128 : (.methodLink RL 128 yX9_years : Cond) ∈ lw_tbl := List.mem_of_getElem? (i := 1189) (by decide +kernel)
theorem wq_X9_247 : (.constant RX9 247 (999999) : Cond) ∈ lw_tbl := List.mem_of_getElem? (i := 1193) (by decide +kernel)
theorem wq_X9_248 : (.constantLong RX9 248 (1103515245) : Cond) ∈ lw_tbl := List.mem_of_getElem? (i := 1194) (by decide +kernel)
theorem wq_X9_250 : (.constantLong RX9 250 (12345) : Cond) ∈ lw_tbl := List.mem_of_getElem? (i := 1195) (by decide +kernel)
theorem wq_X9_252 : (.constantLong RX9 252 (2147483648) : Cond) ∈ lw_tbl := List.mem_of_getElem? (i := 1196) (by decide +kernel)
theorem wq_X9_254 : (.constantLong RX9 254 (65536) : Cond) ∈ lw_tbl := List.mem_of_getElem? (i := 1197) (by decide +kernel)
theorem wq_X9_256 : (.constantLong RX9 256 (24) : Cond) ∈ lw_tbl := List.mem_of_getElem? (i := 1198) (by decide +kernel)
theorem wk_L_133 : (.methodLink RL 133 yX9_part : Cond) ∈ lw_tbl := List.mem_of_getElem? (i := 1199) (by decide +kernel)
theorem wk_L_137 : (.methodLink RL 137 yX9_image : Cond) ∈ lw_tbl := List.mem_of_getElem? (i := 1203) (by decide +kernel)
theorem wk_L_141 : (.methodLink RL 141 yX9_from : Cond) ∈ lw_tbl := List.mem_of_getElem? (i := 1207) (by decide +kernel)
theorem wk_L_145 : (.methodLink RL 145 yX9_status : Cond) ∈ lw_tbl := List.mem_of_getElem? (i := 1211) (by decide +kernel)
theorem wk_L_149 : (.methodLink RL 149 yX9_count : Cond) ∈ lw_tbl := List.mem_of_getElem? (i := 1215) (by decide +kernel)
theorem wk_X9_258 : (.methodLink RX9 258 yX9_counted : Cond) ∈ lw_tbl := List.mem_of_getElem? (i := 1219) (by decide +kernel)
theorem wk_L_154 : (.methodLink RL 154 yX9_digest : Cond) ∈ lw_tbl := List.mem_of_getElem? (i := 1223) (by decide +kernel)
theorem wq_X9_261 : (.constantLong RX9 261 (1409) : Cond) ∈ lw_tbl := List.mem_of_getElem? (i := 1227) (by decide +kernel)
theorem wq_X9_263 : (.constantLong RX9 263 (31) : Cond) ∈ lw_tbl := List.mem_of_getElem? (i := 1228) (by decide +kernel)
theorem wf_J0_9 : (.fieldLink RJ0 9 "java/lang/String" "value" "[B" : Cond) ∈ lw_tbl := List.mem_of_getElem? (i := 1229) (by decide +kernel)
theorem wf_J0_15 : (.fieldLink RJ0 15 "java/lang/String" "coder" "B" : Cond) ∈ lw_tbl := List.mem_of_getElem? (i := 1230) (by decide +kernel)
theorem wu_1 : ∀ w ∈ u_ws RX1 TX1 13, w ∈ lw_tbl := by decide +kernel
theorem wu_2 : ∀ w ∈ u_ws RX2 TX2 2, w ∈ lw_tbl := by decide +kernel
theorem wu_3 : ∀ w ∈ u_ws RX3 TX3 7, w ∈ lw_tbl := by decide +kernel
theorem wu_5 : ∀ w ∈ u_ws RX5 TX5 2, w ∈ lw_tbl := by decide +kernel
theorem wu_6 : ∀ w ∈ u_ws RX6 TX6 5, w ∈ lw_tbl := by decide +kernel
theorem wu_7 : ∀ w ∈ u_ws RX7 TX7 6, w ∈ lw_tbl := by decide +kernel
theorem wu_8 : ∀ w ∈ u_ws RX8 TX8 13, w ∈ lw_tbl := by decide +kernel
theorem wu_9 : ∀ w ∈ u_ws RX9 TX9 17, w ∈ lw_tbl := by decide +kernel
abbrev clsL : List vw_C := [(RX8, TX8, 13), (RX1, TX1, 13), (RX2, TX2, 2), (RX3, TX3, 7), (RX5, TX5, 2), (RX6, TX6, 5), (RX7, TX7, 6), (RX9, TX9, 17)]
