section
-- ===== PART A: goes FIRST, ahead of the names: the tables' words, and 'selects' of the private methods out of them =====
/-- a private method of a class that the tables say can be made, by its rows of tables_1 -/
def lw_okq (q : MethodName × Nat) : Prop := (q.1.cls ≠ "java/lang/invoke/MethodHandle" ∧ q.1.cls ≠ "java/lang/invoke/VarHandle") ∧ Cond.instantiable q.1.cls q.2 ∈ tables_1 ∧ Cond.privateMethod q.1 ∈ tables_1 ∧ Cond.instanceMethod q.1 ∈ tables_1
theorem lw_p0 : lw_okq (⟨"DrumMaps", "layText", "()Z"⟩, 14) := ⟨⟨by decide +kernel, by decide +kernel⟩, List.mem_of_getElem? (i := 18) (by decide +kernel), List.mem_of_getElem? (i := 273) (by decide +kernel), List.mem_of_getElem? (i := 274) (by decide +kernel)⟩
theorem lw_p1 : lw_okq (⟨"DrumMaps$Reader", "readItem", "(LDrumMaps$Text;I)I"⟩, 3) := ⟨⟨by decide +kernel, by decide +kernel⟩, List.mem_of_getElem? (i := 42) (by decide +kernel), List.mem_of_getElem? (i := 293) (by decide +kernel), List.mem_of_getElem? (i := 294) (by decide +kernel)⟩
theorem lw_p2 : lw_okq (⟨"DrumMaps$Reader", "readRow", "(LDrumMaps$Text;I)I"⟩, 3) := ⟨⟨by decide +kernel, by decide +kernel⟩, List.mem_of_getElem? (i := 42) (by decide +kernel), List.mem_of_getElem? (i := 301) (by decide +kernel), List.mem_of_getElem? (i := 302) (by decide +kernel)⟩
theorem lw_p3 : lw_okq (⟨"DrumMaps$Reader", "readDrum", "(LDrumMaps$Text;I)I"⟩, 3) := ⟨⟨by decide +kernel, by decide +kernel⟩, List.mem_of_getElem? (i := 42) (by decide +kernel), List.mem_of_getElem? (i := 315) (by decide +kernel), List.mem_of_getElem? (i := 316) (by decide +kernel)⟩
theorem lw_p4 : lw_okq (⟨"DrumMaps$Reader", "readNumbers", "(LDrumMaps$Text;II)I"⟩, 3) := ⟨⟨by decide +kernel, by decide +kernel⟩, List.mem_of_getElem? (i := 42) (by decide +kernel), List.mem_of_getElem? (i := 319) (by decide +kernel), List.mem_of_getElem? (i := 320) (by decide +kernel)⟩
theorem lw_p5 : lw_okq (⟨"DrumMaps$Reader", "readTold", "(LDrumMaps$Text;I)I"⟩, 3) := ⟨⟨by decide +kernel, by decide +kernel⟩, List.mem_of_getElem? (i := 42) (by decide +kernel), List.mem_of_getElem? (i := 327) (by decide +kernel), List.mem_of_getElem? (i := 328) (by decide +kernel)⟩
theorem lw_p6 : lw_okq (⟨"DrumMaps$Reader", "readTraveller", "(LDrumMaps$Text;I)I"⟩, 3) := ⟨⟨by decide +kernel, by decide +kernel⟩, List.mem_of_getElem? (i := 42) (by decide +kernel), List.mem_of_getElem? (i := 344) (by decide +kernel), List.mem_of_getElem? (i := 345) (by decide +kernel)⟩
theorem lw_p7 : lw_okq (⟨"DrumMaps$Reader", "readWet", "(LDrumMaps$Text;I)I"⟩, 3) := ⟨⟨by decide +kernel, by decide +kernel⟩, List.mem_of_getElem? (i := 42) (by decide +kernel), List.mem_of_getElem? (i := 360) (by decide +kernel), List.mem_of_getElem? (i := 361) (by decide +kernel)⟩
theorem lw_p8 : lw_okq (⟨"DrumMaps$Ways", "measure", "(LDrumMaps$Land;I)V"⟩, 2) := ⟨⟨by decide +kernel, by decide +kernel⟩, List.mem_of_getElem? (i := 205) (by decide +kernel), List.mem_of_getElem? (i := 512) (by decide +kernel), List.mem_of_getElem? (i := 513) (by decide +kernel)⟩
theorem lw_p9 : lw_okq (⟨"DrumMaps$Ways", "firstOf", "(LDrumMaps$Land;I)I"⟩, 2) := ⟨⟨by decide +kernel, by decide +kernel⟩, List.mem_of_getElem? (i := 205) (by decide +kernel), List.mem_of_getElem? (i := 518) (by decide +kernel), List.mem_of_getElem? (i := 519) (by decide +kernel)⟩
theorem lw_p10 : lw_okq (⟨"DrumMaps$Ways", "hoursOver", "(I)I"⟩, 2) := ⟨⟨by decide +kernel, by decide +kernel⟩, List.mem_of_getElem? (i := 205) (by decide +kernel), List.mem_of_getElem? (i := 523) (by decide +kernel), List.mem_of_getElem? (i := 524) (by decide +kernel)⟩
theorem lw_p11 : lw_okq (⟨"DrumMaps$Shelf", "dropLowest", "()V"⟩, 2) := ⟨⟨by decide +kernel, by decide +kernel⟩, List.mem_of_getElem? (i := 184) (by decide +kernel), List.mem_of_getElem? (i := 555) (by decide +kernel), List.mem_of_getElem? (i := 556) (by decide +kernel)⟩
theorem lw_p12 : lw_okq (⟨"DrumMaps", "letHourPass", "(LDrumMaps$Forest;)V"⟩, 14) := ⟨⟨by decide +kernel, by decide +kernel⟩, List.mem_of_getElem? (i := 18) (by decide +kernel), List.mem_of_getElem? (i := 560) (by decide +kernel), List.mem_of_getElem? (i := 561) (by decide +kernel)⟩
theorem lw_p13 : lw_okq (⟨"DrumMaps", "walkHour", "(LDrumMaps$Traveller;LDrumMaps$Ways;I)V"⟩, 14) := ⟨⟨by decide +kernel, by decide +kernel⟩, List.mem_of_getElem? (i := 18) (by decide +kernel), List.mem_of_getElem? (i := 568) (by decide +kernel), List.mem_of_getElem? (i := 569) (by decide +kernel)⟩
theorem lw_p14 : lw_okq (⟨"DrumMaps", "setOut", "(LDrumMaps$Traveller;II)V"⟩, 14) := ⟨⟨by decide +kernel, by decide +kernel⟩, List.mem_of_getElem? (i := 18) (by decide +kernel), List.mem_of_getElem? (i := 572) (by decide +kernel), List.mem_of_getElem? (i := 573) (by decide +kernel)⟩
theorem lw_p15 : lw_okq (⟨"DrumMaps", "hoursUntil", "(LDrumMaps$Forest;I)I"⟩, 14) := ⟨⟨by decide +kernel, by decide +kernel⟩, List.mem_of_getElem? (i := 18) (by decide +kernel), List.mem_of_getElem? (i := 612) (by decide +kernel), List.mem_of_getElem? (i := 613) (by decide +kernel)⟩
def lw_privs_1 : List (MethodName × Nat) := [(⟨"DrumMaps", "layText", "()Z"⟩, 14), (⟨"DrumMaps$Reader", "readItem", "(LDrumMaps$Text;I)I"⟩, 3), (⟨"DrumMaps$Reader", "readRow", "(LDrumMaps$Text;I)I"⟩, 3), (⟨"DrumMaps$Reader", "readDrum", "(LDrumMaps$Text;I)I"⟩, 3), (⟨"DrumMaps$Reader", "readNumbers", "(LDrumMaps$Text;II)I"⟩, 3), (⟨"DrumMaps$Reader", "readTold", "(LDrumMaps$Text;I)I"⟩, 3), (⟨"DrumMaps$Reader", "readTraveller", "(LDrumMaps$Text;I)I"⟩, 3), (⟨"DrumMaps$Reader", "readWet", "(LDrumMaps$Text;I)I"⟩, 3), (⟨"DrumMaps$Ways", "measure", "(LDrumMaps$Land;I)V"⟩, 2), (⟨"DrumMaps$Ways", "firstOf", "(LDrumMaps$Land;I)I"⟩, 2), (⟨"DrumMaps$Ways", "hoursOver", "(I)I"⟩, 2), (⟨"DrumMaps$Shelf", "dropLowest", "()V"⟩, 2), (⟨"DrumMaps", "letHourPass", "(LDrumMaps$Forest;)V"⟩, 14), (⟨"DrumMaps", "walkHour", "(LDrumMaps$Traveller;LDrumMaps$Ways;I)V"⟩, 14), (⟨"DrumMaps", "setOut", "(LDrumMaps$Traveller;II)V"⟩, 14), (⟨"DrumMaps", "hoursUntil", "(LDrumMaps$Forest;I)I"⟩, 14)]
theorem lw_r1 : ∀ q ∈ lw_privs_1, lw_okq q := List.forall_mem_cons.mpr ⟨lw_p0, List.forall_mem_cons.mpr ⟨lw_p1, List.forall_mem_cons.mpr ⟨lw_p2, List.forall_mem_cons.mpr ⟨lw_p3, List.forall_mem_cons.mpr ⟨lw_p4, List.forall_mem_cons.mpr ⟨lw_p5, List.forall_mem_cons.mpr ⟨lw_p6, List.forall_mem_cons.mpr ⟨lw_p7, List.forall_mem_cons.mpr ⟨lw_p8, List.forall_mem_cons.mpr ⟨lw_p9, List.forall_mem_cons.mpr ⟨lw_p10, List.forall_mem_cons.mpr ⟨lw_p11, List.forall_mem_cons.mpr ⟨lw_p12, List.forall_mem_cons.mpr ⟨lw_p13, List.forall_mem_cons.mpr ⟨lw_p14, List.forall_mem_cons.mpr ⟨lw_p15, fun _ h => absurd h List.not_mem_nil⟩⟩⟩⟩⟩⟩⟩⟩⟩⟩⟩⟩⟩⟩⟩⟩
theorem lw_p16 : lw_okq (⟨"DrumMaps", "hoursLed", "(III)I"⟩, 14) := ⟨⟨by decide +kernel, by decide +kernel⟩, List.mem_of_getElem? (i := 18) (by decide +kernel), List.mem_of_getElem? (i := 624) (by decide +kernel), List.mem_of_getElem? (i := 625) (by decide +kernel)⟩
theorem lw_p17 : lw_okq (⟨"DrumMaps", "hoursToArrive", "(LDrumMaps$Forest;LDrumMaps$Traveller;I)I"⟩, 14) := ⟨⟨by decide +kernel, by decide +kernel⟩, List.mem_of_getElem? (i := 18) (by decide +kernel), List.mem_of_getElem? (i := 633) (by decide +kernel), List.mem_of_getElem? (i := 634) (by decide +kernel)⟩
theorem lw_p18 : lw_okq (⟨"DrumMaps", "toldAllHeard", "(I)Z"⟩, 14) := ⟨⟨by decide +kernel, by decide +kernel⟩, List.mem_of_getElem? (i := 18) (by decide +kernel), List.mem_of_getElem? (i := 670) (by decide +kernel), List.mem_of_getElem? (i := 671) (by decide +kernel)⟩
theorem lw_p19 : lw_okq (⟨"DrumMaps", "placeBehind", "(LDrumMaps$Traveller;II)I"⟩, 14) := ⟨⟨by decide +kernel, by decide +kernel⟩, List.mem_of_getElem? (i := 18) (by decide +kernel), List.mem_of_getElem? (i := 678) (by decide +kernel), List.mem_of_getElem? (i := 679) (by decide +kernel)⟩
theorem lw_p20 : lw_okq (⟨"DrumMaps", "weightIfThere", "(LDrumMaps$Traveller;III)I"⟩, 14) := ⟨⟨by decide +kernel, by decide +kernel⟩, List.mem_of_getElem? (i := 18) (by decide +kernel), List.mem_of_getElem? (i := 686) (by decide +kernel), List.mem_of_getElem? (i := 687) (by decide +kernel)⟩
theorem lw_p21 : lw_okq (⟨"DrumMaps", "stir", "(LDrumMaps$Forest;I)V"⟩, 14) := ⟨⟨by decide +kernel, by decide +kernel⟩, List.mem_of_getElem? (i := 18) (by decide +kernel), List.mem_of_getElem? (i := 703) (by decide +kernel), List.mem_of_getElem? (i := 704) (by decide +kernel)⟩
theorem lw_p22 : lw_okq (⟨"DrumMaps", "sendIfHeCan", "(LDrumMaps$Forest;II)V"⟩, 14) := ⟨⟨by decide +kernel, by decide +kernel⟩, List.mem_of_getElem? (i := 18) (by decide +kernel), List.mem_of_getElem? (i := 708) (by decide +kernel), List.mem_of_getElem? (i := 709) (by decide +kernel)⟩
theorem lw_p23 : lw_okq (⟨"DrumMaps", "sure", "()I"⟩, 14) := ⟨⟨by decide +kernel, by decide +kernel⟩, List.mem_of_getElem? (i := 18) (by decide +kernel), List.mem_of_getElem? (i := 729) (by decide +kernel), List.mem_of_getElem? (i := 730) (by decide +kernel)⟩
theorem lw_p24 : lw_okq (⟨"DrumMapsModel", "forgetsRead", "()V"⟩, 30) := ⟨⟨by decide +kernel, by decide +kernel⟩, List.mem_of_getElem? (i := 733) (by decide +kernel), List.mem_of_getElem? (i := 739) (by decide +kernel), List.mem_of_getElem? (i := 740) (by decide +kernel)⟩
theorem lw_p25 : lw_okq (⟨"DrumMapsModel", "laysRow", "(II)V"⟩, 30) := ⟨⟨by decide +kernel, by decide +kernel⟩, List.mem_of_getElem? (i := 733) (by decide +kernel), List.mem_of_getElem? (i := 743) (by decide +kernel), List.mem_of_getElem? (i := 744) (by decide +kernel)⟩
theorem lw_p26 : lw_okq (⟨"DrumMapsModel", "laysTraveller", "(III)V"⟩, 30) := ⟨⟨by decide +kernel, by decide +kernel⟩, List.mem_of_getElem? (i := 733) (by decide +kernel), List.mem_of_getElem? (i := 747) (by decide +kernel), List.mem_of_getElem? (i := 748) (by decide +kernel)⟩
theorem lw_p27 : lw_okq (⟨"DrumMapsModel", "begins", "()V"⟩, 30) := ⟨⟨by decide +kernel, by decide +kernel⟩, List.mem_of_getElem? (i := 733) (by decide +kernel), List.mem_of_getElem? (i := 751) (by decide +kernel), List.mem_of_getElem? (i := 752) (by decide +kernel)⟩
theorem lw_p28 : lw_okq (⟨"DrumMapsModel", "reads", "()I"⟩, 30) := ⟨⟨by decide +kernel, by decide +kernel⟩, List.mem_of_getElem? (i := 733) (by decide +kernel), List.mem_of_getElem? (i := 866) (by decide +kernel), List.mem_of_getElem? (i := 867) (by decide +kernel)⟩
theorem lw_p29 : lw_okq (⟨"DrumMapsModel", "readsItem", "()Z"⟩, 30) := ⟨⟨by decide +kernel, by decide +kernel⟩, List.mem_of_getElem? (i := 733) (by decide +kernel), List.mem_of_getElem? (i := 870) (by decide +kernel), List.mem_of_getElem? (i := 871) (by decide +kernel)⟩
theorem lw_p30 : lw_okq (⟨"DrumMapsModel", "here", "()I"⟩, 30) := ⟨⟨by decide +kernel, by decide +kernel⟩, List.mem_of_getElem? (i := 733) (by decide +kernel), List.mem_of_getElem? (i := 874) (by decide +kernel), List.mem_of_getElem? (i := 875) (by decide +kernel)⟩
theorem lw_p31 : lw_okq (⟨"DrumMapsModel", "readsRow", "()Z"⟩, 30) := ⟨⟨by decide +kernel, by decide +kernel⟩, List.mem_of_getElem? (i := 733) (by decide +kernel), List.mem_of_getElem? (i := 878) (by decide +kernel), List.mem_of_getElem? (i := 879) (by decide +kernel)⟩
def lw_privs_2 : List (MethodName × Nat) := [(⟨"DrumMaps", "hoursLed", "(III)I"⟩, 14), (⟨"DrumMaps", "hoursToArrive", "(LDrumMaps$Forest;LDrumMaps$Traveller;I)I"⟩, 14), (⟨"DrumMaps", "toldAllHeard", "(I)Z"⟩, 14), (⟨"DrumMaps", "placeBehind", "(LDrumMaps$Traveller;II)I"⟩, 14), (⟨"DrumMaps", "weightIfThere", "(LDrumMaps$Traveller;III)I"⟩, 14), (⟨"DrumMaps", "stir", "(LDrumMaps$Forest;I)V"⟩, 14), (⟨"DrumMaps", "sendIfHeCan", "(LDrumMaps$Forest;II)V"⟩, 14), (⟨"DrumMaps", "sure", "()I"⟩, 14), (⟨"DrumMapsModel", "forgetsRead", "()V"⟩, 30), (⟨"DrumMapsModel", "laysRow", "(II)V"⟩, 30), (⟨"DrumMapsModel", "laysTraveller", "(III)V"⟩, 30), (⟨"DrumMapsModel", "begins", "()V"⟩, 30), (⟨"DrumMapsModel", "reads", "()I"⟩, 30), (⟨"DrumMapsModel", "readsItem", "()Z"⟩, 30), (⟨"DrumMapsModel", "here", "()I"⟩, 30), (⟨"DrumMapsModel", "readsRow", "()Z"⟩, 30)]
theorem lw_r2 : ∀ q ∈ lw_privs_2, lw_okq q := List.forall_mem_cons.mpr ⟨lw_p16, List.forall_mem_cons.mpr ⟨lw_p17, List.forall_mem_cons.mpr ⟨lw_p18, List.forall_mem_cons.mpr ⟨lw_p19, List.forall_mem_cons.mpr ⟨lw_p20, List.forall_mem_cons.mpr ⟨lw_p21, List.forall_mem_cons.mpr ⟨lw_p22, List.forall_mem_cons.mpr ⟨lw_p23, List.forall_mem_cons.mpr ⟨lw_p24, List.forall_mem_cons.mpr ⟨lw_p25, List.forall_mem_cons.mpr ⟨lw_p26, List.forall_mem_cons.mpr ⟨lw_p27, List.forall_mem_cons.mpr ⟨lw_p28, List.forall_mem_cons.mpr ⟨lw_p29, List.forall_mem_cons.mpr ⟨lw_p30, List.forall_mem_cons.mpr ⟨lw_p31, fun _ h => absurd h List.not_mem_nil⟩⟩⟩⟩⟩⟩⟩⟩⟩⟩⟩⟩⟩⟩⟩⟩
theorem lw_p32 : lw_okq (⟨"DrumMapsModel", "readsDrum", "()Z"⟩, 30) := ⟨⟨by decide +kernel, by decide +kernel⟩, List.mem_of_getElem? (i := 733) (by decide +kernel), List.mem_of_getElem? (i := 885) (by decide +kernel), List.mem_of_getElem? (i := 886) (by decide +kernel)⟩
theorem lw_p33 : lw_okq (⟨"DrumMapsModel", "number", "(II)Z"⟩, 30) := ⟨⟨by decide +kernel, by decide +kernel⟩, List.mem_of_getElem? (i := 733) (by decide +kernel), List.mem_of_getElem? (i := 889) (by decide +kernel), List.mem_of_getElem? (i := 890) (by decide +kernel)⟩
theorem lw_p34 : lw_okq (⟨"DrumMapsModel", "readsOther", "()Z"⟩, 30) := ⟨⟨by decide +kernel, by decide +kernel⟩, List.mem_of_getElem? (i := 733) (by decide +kernel), List.mem_of_getElem? (i := 897) (by decide +kernel), List.mem_of_getElem? (i := 898) (by decide +kernel)⟩
theorem lw_p35 : lw_okq (⟨"DrumMapsModel", "takes", "(I)Z"⟩, 30) := ⟨⟨by decide +kernel, by decide +kernel⟩, List.mem_of_getElem? (i := 733) (by decide +kernel), List.mem_of_getElem? (i := 901) (by decide +kernel), List.mem_of_getElem? (i := 902) (by decide +kernel)⟩
theorem lw_p36 : lw_okq (⟨"DrumMapsModel", "readsTraveller", "()Z"⟩, 30) := ⟨⟨by decide +kernel, by decide +kernel⟩, List.mem_of_getElem? (i := 733) (by decide +kernel), List.mem_of_getElem? (i := 905) (by decide +kernel), List.mem_of_getElem? (i := 906) (by decide +kernel)⟩
theorem lw_p37 : lw_okq (⟨"DrumMapsModel", "readsWet", "()Z"⟩, 30) := ⟨⟨by decide +kernel, by decide +kernel⟩, List.mem_of_getElem? (i := 733) (by decide +kernel), List.mem_of_getElem? (i := 909) (by decide +kernel), List.mem_of_getElem? (i := 910) (by decide +kernel)⟩
theorem lw_p38 : lw_okq (⟨"DrumMapsModel", "isPlace", "(I)Z"⟩, 30) := ⟨⟨by decide +kernel, by decide +kernel⟩, List.mem_of_getElem? (i := 733) (by decide +kernel), List.mem_of_getElem? (i := 921) (by decide +kernel), List.mem_of_getElem? (i := 922) (by decide +kernel)⟩
theorem lw_p39 : lw_okq (⟨"DrumMapsModel", "isDrum", "(I)Z"⟩, 30) := ⟨⟨by decide +kernel, by decide +kernel⟩, List.mem_of_getElem? (i := 733) (by decide +kernel), List.mem_of_getElem? (i := 929) (by decide +kernel), List.mem_of_getElem? (i := 930) (by decide +kernel)⟩
theorem lw_p40 : lw_okq (⟨"DrumMapsModel", "taken", "([III)I"⟩, 30) := ⟨⟨by decide +kernel, by decide +kernel⟩, List.mem_of_getElem? (i := 733) (by decide +kernel), List.mem_of_getElem? (i := 937) (by decide +kernel), List.mem_of_getElem? (i := 938) (by decide +kernel)⟩
theorem lw_p41 : lw_okq (⟨"DrumMapsModel", "isTraveller", "(I)Z"⟩, 30) := ⟨⟨by decide +kernel, by decide +kernel⟩, List.mem_of_getElem? (i := 733) (by decide +kernel), List.mem_of_getElem? (i := 949) (by decide +kernel), List.mem_of_getElem? (i := 950) (by decide +kernel)⟩
theorem lw_p42 : lw_okq (⟨"DrumMapsModel", "lengthOf", "([IIII)I"⟩, 30) := ⟨⟨by decide +kernel, by decide +kernel⟩, List.mem_of_getElem? (i := 733) (by decide +kernel), List.mem_of_getElem? (i := 958) (by decide +kernel), List.mem_of_getElem? (i := 959) (by decide +kernel)⟩
theorem lw_p43 : lw_okq (⟨"DrumMapsModel", "layAway", "([III)V"⟩, 30) := ⟨⟨by decide +kernel, by decide +kernel⟩, List.mem_of_getElem? (i := 733) (by decide +kernel), List.mem_of_getElem? (i := 962) (by decide +kernel), List.mem_of_getElem? (i := 963) (by decide +kernel)⟩
theorem lw_p44 : lw_okq (⟨"DrumMapsModel", "byWay", "([IIII)I"⟩, 30) := ⟨⟨by decide +kernel, by decide +kernel⟩, List.mem_of_getElem? (i := 733) (by decide +kernel), List.mem_of_getElem? (i := 967) (by decide +kernel), List.mem_of_getElem? (i := 968) (by decide +kernel)⟩
theorem lw_p45 : lw_okq (⟨"DrumMapsModel", "beside", "(II)I"⟩, 30) := ⟨⟨by decide +kernel, by decide +kernel⟩, List.mem_of_getElem? (i := 733) (by decide +kernel), List.mem_of_getElem? (i := 971) (by decide +kernel), List.mem_of_getElem? (i := 972) (by decide +kernel)⟩
theorem lw_p46 : lw_okq (⟨"DrumMapsModel", "firstOf", "([IIII)I"⟩, 30) := ⟨⟨by decide +kernel, by decide +kernel⟩, List.mem_of_getElem? (i := 733) (by decide +kernel), List.mem_of_getElem? (i := 978) (by decide +kernel), List.mem_of_getElem? (i := 979) (by decide +kernel)⟩
theorem lw_p47 : lw_okq (⟨"DrumMapsModel", "remember", "()V"⟩, 30) := ⟨⟨by decide +kernel, by decide +kernel⟩, List.mem_of_getElem? (i := 733) (by decide +kernel), List.mem_of_getElem? (i := 991) (by decide +kernel), List.mem_of_getElem? (i := 992) (by decide +kernel)⟩
def lw_privs_3 : List (MethodName × Nat) := [(⟨"DrumMapsModel", "readsDrum", "()Z"⟩, 30), (⟨"DrumMapsModel", "number", "(II)Z"⟩, 30), (⟨"DrumMapsModel", "readsOther", "()Z"⟩, 30), (⟨"DrumMapsModel", "takes", "(I)Z"⟩, 30), (⟨"DrumMapsModel", "readsTraveller", "()Z"⟩, 30), (⟨"DrumMapsModel", "readsWet", "()Z"⟩, 30), (⟨"DrumMapsModel", "isPlace", "(I)Z"⟩, 30), (⟨"DrumMapsModel", "isDrum", "(I)Z"⟩, 30), (⟨"DrumMapsModel", "taken", "([III)I"⟩, 30), (⟨"DrumMapsModel", "isTraveller", "(I)Z"⟩, 30), (⟨"DrumMapsModel", "lengthOf", "([IIII)I"⟩, 30), (⟨"DrumMapsModel", "layAway", "([III)V"⟩, 30), (⟨"DrumMapsModel", "byWay", "([IIII)I"⟩, 30), (⟨"DrumMapsModel", "beside", "(II)I"⟩, 30), (⟨"DrumMapsModel", "firstOf", "([IIII)I"⟩, 30), (⟨"DrumMapsModel", "remember", "()V"⟩, 30)]
theorem lw_r3 : ∀ q ∈ lw_privs_3, lw_okq q := List.forall_mem_cons.mpr ⟨lw_p32, List.forall_mem_cons.mpr ⟨lw_p33, List.forall_mem_cons.mpr ⟨lw_p34, List.forall_mem_cons.mpr ⟨lw_p35, List.forall_mem_cons.mpr ⟨lw_p36, List.forall_mem_cons.mpr ⟨lw_p37, List.forall_mem_cons.mpr ⟨lw_p38, List.forall_mem_cons.mpr ⟨lw_p39, List.forall_mem_cons.mpr ⟨lw_p40, List.forall_mem_cons.mpr ⟨lw_p41, List.forall_mem_cons.mpr ⟨lw_p42, List.forall_mem_cons.mpr ⟨lw_p43, List.forall_mem_cons.mpr ⟨lw_p44, List.forall_mem_cons.mpr ⟨lw_p45, List.forall_mem_cons.mpr ⟨lw_p46, List.forall_mem_cons.mpr ⟨lw_p47, fun _ h => absurd h List.not_mem_nil⟩⟩⟩⟩⟩⟩⟩⟩⟩⟩⟩⟩⟩⟩⟩⟩
theorem lw_p48 : lw_okq (⟨"DrumMapsModel", "hourGoes", "([I)V"⟩, 30) := ⟨⟨by decide +kernel, by decide +kernel⟩, List.mem_of_getElem? (i := 733) (by decide +kernel), List.mem_of_getElem? (i := 995) (by decide +kernel), List.mem_of_getElem? (i := 996) (by decide +kernel)⟩
theorem lw_p49 : lw_okq (⟨"DrumMapsModel", "oneGoes", "([II)V"⟩, 30) := ⟨⟨by decide +kernel, by decide +kernel⟩, List.mem_of_getElem? (i := 733) (by decide +kernel), List.mem_of_getElem? (i := 999) (by decide +kernel), List.mem_of_getElem? (i := 1000) (by decide +kernel)⟩
theorem lw_p50 : lw_okq (⟨"DrumMapsModel", "untilNow", "(II)I"⟩, 30) := ⟨⟨by decide +kernel, by decide +kernel⟩, List.mem_of_getElem? (i := 733) (by decide +kernel), List.mem_of_getElem? (i := 1031) (by decide +kernel), List.mem_of_getElem? (i := 1032) (by decide +kernel)⟩
theorem lw_p51 : lw_okq (⟨"DrumMapsModel", "untilSo", "(II)I"⟩, 30) := ⟨⟨by decide +kernel, by decide +kernel⟩, List.mem_of_getElem? (i := 733) (by decide +kernel), List.mem_of_getElem? (i := 1035) (by decide +kernel), List.mem_of_getElem? (i := 1036) (by decide +kernel)⟩
theorem lw_p52 : lw_okq (⟨"DrumMapsModel", "ledBy", "(III)I"⟩, 30) := ⟨⟨by decide +kernel, by decide +kernel⟩, List.mem_of_getElem? (i := 733) (by decide +kernel), List.mem_of_getElem? (i := 1047) (by decide +kernel), List.mem_of_getElem? (i := 1048) (by decide +kernel)⟩
theorem lw_p53 : lw_okq (⟨"DrumMapsModel", "yearDraws", "(I)V"⟩, 30) := ⟨⟨by decide +kernel, by decide +kernel⟩, List.mem_of_getElem? (i := 733) (by decide +kernel), List.mem_of_getElem? (i := 1109) (by decide +kernel), List.mem_of_getElem? (i := 1110) (by decide +kernel)⟩
theorem lw_p54 : lw_okq (⟨"DrumMapsModel", "manyOf", "([II)I"⟩, 30) := ⟨⟨by decide +kernel, by decide +kernel⟩, List.mem_of_getElem? (i := 733) (by decide +kernel), List.mem_of_getElem? (i := 1113) (by decide +kernel), List.mem_of_getElem? (i := 1114) (by decide +kernel)⟩
theorem lw_p55 : lw_okq (⟨"DrumMapsModel", "sure", "()I"⟩, 30) := ⟨⟨by decide +kernel, by decide +kernel⟩, List.mem_of_getElem? (i := 733) (by decide +kernel), List.mem_of_getElem? (i := 1129) (by decide +kernel), List.mem_of_getElem? (i := 1130) (by decide +kernel)⟩
def lw_privs_4 : List (MethodName × Nat) := [(⟨"DrumMapsModel", "hourGoes", "([I)V"⟩, 30), (⟨"DrumMapsModel", "oneGoes", "([II)V"⟩, 30), (⟨"DrumMapsModel", "untilNow", "(II)I"⟩, 30), (⟨"DrumMapsModel", "untilSo", "(II)I"⟩, 30), (⟨"DrumMapsModel", "ledBy", "(III)I"⟩, 30), (⟨"DrumMapsModel", "yearDraws", "(I)V"⟩, 30), (⟨"DrumMapsModel", "manyOf", "([II)I"⟩, 30), (⟨"DrumMapsModel", "sure", "()I"⟩, 30)]
theorem lw_r4 : ∀ q ∈ lw_privs_4, lw_okq q := List.forall_mem_cons.mpr ⟨lw_p48, List.forall_mem_cons.mpr ⟨lw_p49, List.forall_mem_cons.mpr ⟨lw_p50, List.forall_mem_cons.mpr ⟨lw_p51, List.forall_mem_cons.mpr ⟨lw_p52, List.forall_mem_cons.mpr ⟨lw_p53, List.forall_mem_cons.mpr ⟨lw_p54, List.forall_mem_cons.mpr ⟨lw_p55, fun _ h => absurd h List.not_mem_nil⟩⟩⟩⟩⟩⟩⟩⟩
def lw_privs : List (MethodName × Nat) := lw_privs_1 ++ (lw_privs_2 ++ (lw_privs_3 ++ (lw_privs_4)))
def lw_tbl : List Cond := k2_sels lw_privs ++ tables_1
theorem lw_privs_ok : ∀ q ∈ lw_privs, lw_okq q := by
  show ∀ q ∈ lw_privs_1 ++ (lw_privs_2 ++ (lw_privs_3 ++ (lw_privs_4))), lw_okq q
  exact List.forall_mem_append.mpr ⟨lw_r1, List.forall_mem_append.mpr ⟨lw_r2, List.forall_mem_append.mpr ⟨lw_r3, lw_r4⟩⟩⟩
end
section
def RX0 : String := "DrumMaps$Forest"
def TX0 : u_T := fun k => match k with
  | 0 => ("DrumMaps$Forest", "told", "LDrumMaps$Row;", true)
  | 1 => ("DrumMaps$Forest", "travellers", "[LDrumMaps$Traveller;", true)
  | 2 => ("DrumMaps$Forest", "wet", "I", false)
  | _ => ("DrumMaps$Forest", "hours", "I", false)
def tyX0 : Nat → FieldType := fun k => match k with
  | 0 => .object "DrumMaps$Row"
  | 1 => .array (.object "DrumMaps$Traveller")
  | 2 => .int
  | _ => .int
abbrev wsX00 : List Cond := u_ws RX0 TX0 4
theorem nmX0 : ∀ a, a < 4 → ∀ b, b < 4 → a ≠ b → (TX0 a).2.1 ≠ (TX0 b).2.1 := by decide +kernel
theorem tyX0_ok : ∀ k, k < 4 → parseFieldDescriptor (TX0 k).2.2.1 = some (tyX0 k) := by decide +kernel
abbrev cX0_init : ByteArray := prog_2_method_1_code
def yX0_init : MethodName := ⟨RX0, "<init>", "()V"⟩
abbrev cX0_who : ByteArray := prog_2_method_2_code
def yX0_who : MethodName := ⟨RX0, "who", "(I)LDrumMaps$Traveller;"⟩
abbrev cX0_clear : ByteArray := prog_2_method_3_code
def yX0_clear : MethodName := ⟨RX0, "clear", "()V"⟩
abbrev cX0_setTold : ByteArray := prog_2_method_4_code
def yX0_setTold : MethodName := ⟨RX0, "setTold", "(III)V"⟩
abbrev cX0_tells : ByteArray := prog_2_method_5_code
def yX0_tells : MethodName := ⟨RX0, "tells", "(LDrumMaps$Land;II)I"⟩
abbrev cX0_takes : ByteArray := prog_2_method_6_code
def yX0_takes : MethodName := ⟨RX0, "takes", "(LDrumMaps$Land;II)I"⟩
abbrev cX0_howMany : ByteArray := prog_2_method_7_code
def yX0_howMany : MethodName := ⟨RX0, "howMany", "(LDrumMaps$Land;I)I"⟩
abbrev cX0_copyFrom : ByteArray := prog_2_method_8_code
def yX0_copyFrom : MethodName := ⟨RX0, "copyFrom", "(LDrumMaps$Forest;)V"⟩
def RX1 : String := "DrumMaps$Land"
def TX1 : u_T := fun k => match k with
  | 0 => ("DrumMaps$Land", "ground", "LDrumMaps$Row;", true)
  | 1 => ("DrumMaps$Land", "kinds", "LDrumMaps$Row;", true)
  | 2 => ("DrumMaps$Land", "beside", "LDrumMaps$Row;", true)
  | 3 => ("DrumMaps$Land", "places", "I", false)
  | 4 => ("DrumMaps$Land", "width", "I", false)
  | 5 => ("DrumMaps$Land", "rows", "I", false)
  | 6 => ("DrumMaps$Land", "drums", "I", false)
  | _ => ("DrumMaps$Land", "travellers", "I", false)
def tyX1 : Nat → FieldType := fun k => match k with
  | 0 => .object "DrumMaps$Row"
  | 1 => .object "DrumMaps$Row"
  | 2 => .object "DrumMaps$Row"
  | 3 => .int
  | 4 => .int
  | 5 => .int
  | 6 => .int
  | _ => .int
abbrev wsX10 : List Cond := u_ws RX1 TX1 8
theorem nmX1 : ∀ a, a < 8 → ∀ b, b < 8 → a ≠ b → (TX1 a).2.1 ≠ (TX1 b).2.1 := by decide +kernel
theorem tyX1_ok : ∀ k, k < 8 → parseFieldDescriptor (TX1 k).2.2.1 = some (tyX1 k) := by decide +kernel
abbrev cX1_init : ByteArray := prog_3_method_1_code
def yX1_init : MethodName := ⟨RX1, "<init>", "()V"⟩
abbrev cX1_hasPlace : ByteArray := prog_3_method_2_code
def yX1_hasPlace : MethodName := ⟨RX1, "hasPlace", "(I)Z"⟩
abbrev cX1_hasDrum : ByteArray := prog_3_method_3_code
def yX1_hasDrum : MethodName := ⟨RX1, "hasDrum", "(I)Z"⟩
abbrev cX1_hasTraveller : ByteArray := prog_3_method_4_code
def yX1_hasTraveller : MethodName := ⟨RX1, "hasTraveller", "(I)Z"⟩
abbrev cX1_clear : ByteArray := prog_3_method_5_code
def yX1_clear : MethodName := ⟨RX1, "clear", "()V"⟩
abbrev cX1_copyFrom : ByteArray := prog_3_method_6_code
def yX1_copyFrom : MethodName := ⟨RX1, "copyFrom", "(LDrumMaps$Land;)V"⟩
abbrev cX1_linkPlaces : ByteArray := prog_3_method_7_code
def yX1_linkPlaces : MethodName := ⟨RX1, "linkPlaces", "()V"⟩
def RX2 : String := "DrumMaps$Reader"
def TX2 : u_T := fun k => match k with
  | 0 => ("DrumMaps$Reader", "land", "LDrumMaps$Land;", true)
  | 1 => ("DrumMaps$Reader", "forest", "LDrumMaps$Forest;", true)
  | _ => ("DrumMaps$Reader", "numbers", "LDrumMaps$Row;", true)
def tyX2 : Nat → FieldType := fun k => match k with
  | 0 => .object "DrumMaps$Land"
  | 1 => .object "DrumMaps$Forest"
  | _ => .object "DrumMaps$Row"
abbrev wsX20 : List Cond := u_ws RX2 TX2 3
theorem nmX2 : ∀ a, a < 3 → ∀ b, b < 3 → a ≠ b → (TX2 a).2.1 ≠ (TX2 b).2.1 := by decide +kernel
theorem tyX2_ok : ∀ k, k < 3 → parseFieldDescriptor (TX2 k).2.2.1 = some (tyX2 k) := by decide +kernel
abbrev cX2_init : ByteArray := prog_4_method_1_code
def yX2_init : MethodName := ⟨RX2, "<init>", "()V"⟩
abbrev cX2_firstFault : ByteArray := prog_4_method_2_code
def yX2_firstFault : MethodName := ⟨RX2, "firstFault", "(LDrumMaps$Text;)I"⟩
abbrev cX2_readItem : ByteArray := prog_4_method_3_code
def yX2_readItem : MethodName := ⟨RX2, "readItem", "(LDrumMaps$Text;I)I"⟩
abbrev cX2_readRow : ByteArray := prog_4_method_4_code
def yX2_readRow : MethodName := ⟨RX2, "readRow", "(LDrumMaps$Text;I)I"⟩
abbrev cX2_readDrum : ByteArray := prog_4_method_5_code
def yX2_readDrum : MethodName := ⟨RX2, "readDrum", "(LDrumMaps$Text;I)I"⟩
abbrev cX2_readTold : ByteArray := prog_4_method_6_code
def yX2_readTold : MethodName := ⟨RX2, "readTold", "(LDrumMaps$Text;I)I"⟩
abbrev cX2_readTraveller : ByteArray := prog_4_method_7_code
def yX2_readTraveller : MethodName := ⟨RX2, "readTraveller", "(LDrumMaps$Text;I)I"⟩
abbrev cX2_readWet : ByteArray := prog_4_method_8_code
def yX2_readWet : MethodName := ⟨RX2, "readWet", "(LDrumMaps$Text;I)I"⟩
abbrev cX2_readNumbers : ByteArray := prog_4_method_9_code
def yX2_readNumbers : MethodName := ⟨RX2, "readNumbers", "(LDrumMaps$Text;II)I"⟩
def RX3 : String := "DrumMaps$Row"
def TX3 : u_T := fun k => match k with
  | _ => ("DrumMaps$Row", "cells", "[I", true)
def tyX3 : Nat → FieldType := fun k => match k with
  | _ => .array .int
abbrev wsX30 : List Cond := u_ws RX3 TX3 1
theorem nmX3 : ∀ a, a < 1 → ∀ b, b < 1 → a ≠ b → (TX3 a).2.1 ≠ (TX3 b).2.1 := by decide +kernel
theorem tyX3_ok : ∀ k, k < 1 → parseFieldDescriptor (TX3 k).2.2.1 = some (tyX3 k) := by decide +kernel
abbrev cX3_init : ByteArray := prog_5_method_1_code
def yX3_init : MethodName := ⟨RX3, "<init>", "(I)V"⟩
abbrev cX3_at : ByteArray := prog_5_method_2_code
def yX3_at : MethodName := ⟨RX3, "at", "(I)I"⟩
abbrev cX3_put : ByteArray := prog_5_method_3_code
def yX3_put : MethodName := ⟨RX3, "put", "(II)V"⟩
abbrev cX3_fill : ByteArray := prog_5_method_4_code
def yX3_fill : MethodName := ⟨RX3, "fill", "(I)V"⟩
abbrev cX3_copyFrom : ByteArray := prog_5_method_5_code
def yX3_copyFrom : MethodName := ⟨RX3, "copyFrom", "(LDrumMaps$Row;)V"⟩
def RX4 : String := "DrumMaps$Shelf"
def TX4 : u_T := fun k => match k with
  | 0 => ("DrumMaps$Shelf", "stood", "[LDrumMaps$Forest;", true)
  | _ => ("DrumMaps$Shelf", "size", "I", false)
def tyX4 : Nat → FieldType := fun k => match k with
  | 0 => .array (.object "DrumMaps$Forest")
  | _ => .int
abbrev wsX40 : List Cond := u_ws RX4 TX4 2
theorem nmX4 : ∀ a, a < 2 → ∀ b, b < 2 → a ≠ b → (TX4 a).2.1 ≠ (TX4 b).2.1 := by decide +kernel
theorem tyX4_ok : ∀ k, k < 2 → parseFieldDescriptor (TX4 k).2.2.1 = some (tyX4 k) := by decide +kernel
abbrev cX4_init : ByteArray := prog_6_method_1_code
def yX4_init : MethodName := ⟨RX4, "<init>", "(I)V"⟩
abbrev cX4_isFull : ByteArray := prog_6_method_2_code
def yX4_isFull : MethodName := ⟨RX4, "isFull", "()Z"⟩
abbrev cX4_add : ByteArray := prog_6_method_3_code
def yX4_add : MethodName := ⟨RX4, "add", "(LDrumMaps$Forest;)V"⟩
abbrev cX4_dropLowest : ByteArray := prog_6_method_4_code
def yX4_dropLowest : MethodName := ⟨RX4, "dropLowest", "()V"⟩
abbrev cX4_takeInto : ByteArray := prog_6_method_5_code
def yX4_takeInto : MethodName := ⟨RX4, "takeInto", "(LDrumMaps$Forest;)Z"⟩
def RX5 : String := "DrumMaps$Text"
def TX5 : u_T := fun k => match k with
  | 0 => ("DrumMaps$Text", "letters", "[I", true)
  | _ => ("DrumMaps$Text", "length", "I", false)
def tyX5 : Nat → FieldType := fun k => match k with
  | 0 => .array .int
  | _ => .int
abbrev wsX50 : List Cond := u_ws RX5 TX5 2
theorem nmX5 : ∀ a, a < 2 → ∀ b, b < 2 → a ≠ b → (TX5 a).2.1 ≠ (TX5 b).2.1 := by decide +kernel
theorem tyX5_ok : ∀ k, k < 2 → parseFieldDescriptor (TX5 k).2.2.1 = some (tyX5 k) := by decide +kernel
abbrev cX5_init : ByteArray := prog_7_method_1_code
def yX5_init : MethodName := ⟨RX5, "<init>", "()V"⟩
abbrev cX5_add : ByteArray := prog_7_method_2_code
def yX5_add : MethodName := ⟨RX5, "add", "(I)Z"⟩
abbrev cX5_letterAt : ByteArray := prog_7_method_3_code
def yX5_letterAt : MethodName := ⟨RX5, "letterAt", "(I)I"⟩
def RX6 : String := "DrumMaps$Traveller"
def TX6 : u_T := fun k => match k with
  | 0 => ("DrumMaps$Traveller", "place", "I", false)
  | 1 => ("DrumMaps$Traveller", "goal", "I", false)
  | 2 => ("DrumMaps$Traveller", "drum", "I", false)
  | 3 => ("DrumMaps$Traveller", "state", "I", false)
  | 4 => ("DrumMaps$Traveller", "toward", "I", false)
  | _ => ("DrumMaps$Traveller", "left", "I", false)
def tyX6 : Nat → FieldType := fun k => match k with
  | 0 => .int
  | 1 => .int
  | 2 => .int
  | 3 => .int
  | 4 => .int
  | _ => .int
abbrev wsX60 : List Cond := u_ws RX6 TX6 6
theorem nmX6 : ∀ a, a < 6 → ∀ b, b < 6 → a ≠ b → (TX6 a).2.1 ≠ (TX6 b).2.1 := by decide +kernel
theorem tyX6_ok : ∀ k, k < 6 → parseFieldDescriptor (TX6 k).2.2.1 = some (tyX6 k) := by decide +kernel
abbrev cX6_init : ByteArray := prog_8_method_1_code
def yX6_init : MethodName := ⟨RX6, "<init>", "()V"⟩
abbrev cX6_start : ByteArray := prog_8_method_2_code
def yX6_start : MethodName := ⟨RX6, "start", "(III)V"⟩
abbrev cX6_goTo : ByteArray := prog_8_method_3_code
def yX6_goTo : MethodName := ⟨RX6, "goTo", "(I)V"⟩
abbrev cX6_isOnHisWay : ByteArray := prog_8_method_4_code
def yX6_isOnHisWay : MethodName := ⟨RX6, "isOnHisWay", "()Z"⟩
abbrev cX6_mustSetOut : ByteArray := prog_8_method_5_code
def yX6_mustSetOut : MethodName := ⟨RX6, "mustSetOut", "()Z"⟩
abbrev cX6_goOn : ByteArray := prog_8_method_6_code
def yX6_goOn : MethodName := ⟨RX6, "goOn", "()V"⟩
abbrev cX6_isWith : ByteArray := prog_8_method_7_code
def yX6_isWith : MethodName := ⟨RX6, "isWith", "(LDrumMaps$Traveller;)Z"⟩
abbrev cX6_copyFrom : ByteArray := prog_8_method_8_code
def yX6_copyFrom : MethodName := ⟨RX6, "copyFrom", "(LDrumMaps$Traveller;)V"⟩
def RX7 : String := "DrumMaps$Ways"
def TX7 : u_T := fun k => match k with
  | 0 => ("DrumMaps$Ways", "toEnter", "LDrumMaps$Row;", true)
  | _ => ("DrumMaps$Ways", "toGoal", "LDrumMaps$Row;", true)
def tyX7 : Nat → FieldType := fun k => match k with
  | 0 => .object "DrumMaps$Row"
  | _ => .object "DrumMaps$Row"
abbrev wsX70 : List Cond := u_ws RX7 TX7 2
theorem nmX7 : ∀ a, a < 2 → ∀ b, b < 2 → a ≠ b → (TX7 a).2.1 ≠ (TX7 b).2.1 := by decide +kernel
theorem tyX7_ok : ∀ k, k < 2 → parseFieldDescriptor (TX7 k).2.2.1 = some (tyX7 k) := by decide +kernel
abbrev cX7_init : ByteArray := prog_9_method_1_code
def yX7_init : MethodName := ⟨RX7, "<init>", "()V"⟩
abbrev cX7_learnByDrum : ByteArray := prog_9_method_2_code
def yX7_learnByDrum : MethodName := ⟨RX7, "learnByDrum", "(LDrumMaps$Land;LDrumMaps$Forest;II)V"⟩
abbrev cX7_learnInTruth : ByteArray := prog_9_method_3_code
def yX7_learnInTruth : MethodName := ⟨RX7, "learnInTruth", "(LDrumMaps$Land;II)V"⟩
abbrev cX7_measure : ByteArray := prog_9_method_4_code
def yX7_measure : MethodName := ⟨RX7, "measure", "(LDrumMaps$Land;I)V"⟩
abbrev cX7_hoursOver : ByteArray := prog_9_method_5_code
def yX7_hoursOver : MethodName := ⟨RX7, "hoursOver", "(I)I"⟩
abbrev cX7_firstOf : ByteArray := prog_9_method_6_code
def yX7_firstOf : MethodName := ⟨RX7, "firstOf", "(LDrumMaps$Land;I)I"⟩
abbrev cX7_hoursFrom : ByteArray := prog_9_method_7_code
def yX7_hoursFrom : MethodName := ⟨RX7, "hoursFrom", "(I)I"⟩
abbrev cX7_firstFrom : ByteArray := prog_9_method_8_code
def yX7_firstFrom : MethodName := ⟨RX7, "firstFrom", "(LDrumMaps$Land;I)I"⟩
def RX8 : String := "DrumMaps"
def TX8 : u_T := fun k => match k with
  | 0 => ("DrumMaps", "text", "LDrumMaps$Text;", true)
  | 1 => ("DrumMaps", "reader", "LDrumMaps$Reader;", true)
  | 2 => ("DrumMaps", "land", "LDrumMaps$Land;", true)
  | 3 => ("DrumMaps", "now", "LDrumMaps$Forest;", true)
  | 4 => ("DrumMaps", "undone", "LDrumMaps$Shelf;", true)
  | 5 => ("DrumMaps", "kept", "LDrumMaps$Shelf;", true)
  | 6 => ("DrumMaps", "heardPlaces", "LDrumMaps$Row;", true)
  | 7 => ("DrumMaps", "heardTold", "LDrumMaps$Row;", true)
  | 8 => ("DrumMaps", "heard", "I", false)
  | 9 => ("DrumMaps", "supposed", "LDrumMaps$Forest;", true)
  | 10 => ("DrumMaps", "walker", "LDrumMaps$Traveller;", true)
  | 11 => ("DrumMaps", "otherWalker", "LDrumMaps$Traveller;", true)
  | 12 => ("DrumMaps", "ways", "LDrumMaps$Ways;", true)
  | _ => ("DrumMaps", "otherWays", "LDrumMaps$Ways;", true)
def tyX8 : Nat → FieldType := fun k => match k with
  | 0 => .object "DrumMaps$Text"
  | 1 => .object "DrumMaps$Reader"
  | 2 => .object "DrumMaps$Land"
  | 3 => .object "DrumMaps$Forest"
  | 4 => .object "DrumMaps$Shelf"
  | 5 => .object "DrumMaps$Shelf"
  | 6 => .object "DrumMaps$Row"
  | 7 => .object "DrumMaps$Row"
  | 8 => .int
  | 9 => .object "DrumMaps$Forest"
  | 10 => .object "DrumMaps$Traveller"
  | 11 => .object "DrumMaps$Traveller"
  | 12 => .object "DrumMaps$Ways"
  | _ => .object "DrumMaps$Ways"
abbrev wsX80 : List Cond := u_ws RX8 TX8 14
theorem nmX8 : ∀ a, a < 14 → ∀ b, b < 14 → a ≠ b → (TX8 a).2.1 ≠ (TX8 b).2.1 := by decide +kernel
theorem tyX8_ok : ∀ k, k < 14 → parseFieldDescriptor (TX8 k).2.2.1 = some (tyX8 k) := by decide +kernel
abbrev cX8_init : ByteArray := prog_1_method_1_code
def yX8_init : MethodName := ⟨RX8, "<init>", "()V"⟩
abbrev cX8_write : ByteArray := prog_1_method_2_code
def yX8_write : MethodName := ⟨RX8, "write", "(I)I"⟩
abbrev cX8_wipe : ByteArray := prog_1_method_3_code
def yX8_wipe : MethodName := ⟨RX8, "wipe", "()I"⟩
abbrev cX8_fault : ByteArray := prog_1_method_4_code
def yX8_fault : MethodName := ⟨RX8, "fault", "()I"⟩
abbrev cX8_lay : ByteArray := prog_1_method_5_code
def yX8_lay : MethodName := ⟨RX8, "lay", "()I"⟩
abbrev cX8_place : ByteArray := prog_1_method_6_code
def yX8_place : MethodName := ⟨RX8, "place", "(I)I"⟩
abbrev cX8_drum : ByteArray := prog_1_method_7_code
def yX8_drum : MethodName := ⟨RX8, "drum", "(III)I"⟩
abbrev cX8_kind : ByteArray := prog_1_method_8_code
def yX8_kind : MethodName := ⟨RX8, "kind", "(I)I"⟩
abbrev cX8_traveller : ByteArray := prog_1_method_9_code
def yX8_traveller : MethodName := ⟨RX8, "traveller", "(II)I"⟩
abbrev cX8_route : ByteArray := prog_1_method_10_code
def yX8_route : MethodName := ⟨RX8, "route", "(IIII)I"⟩
abbrev cX8_truth : ByteArray := prog_1_method_11_code
def yX8_truth : MethodName := ⟨RX8, "truth", "(II)I"⟩
abbrev cX8_pass : ByteArray := prog_1_method_12_code
def yX8_pass : MethodName := ⟨RX8, "pass", "(I)I"⟩
abbrev cX8_rain : ByteArray := prog_1_method_13_code
def yX8_rain : MethodName := ⟨RX8, "rain", "(I)I"⟩
abbrev cX8_retune : ByteArray := prog_1_method_14_code
def yX8_retune : MethodName := ⟨RX8, "retune", "(III)I"⟩
abbrev cX8_give : ByteArray := prog_1_method_15_code
def yX8_give : MethodName := ⟨RX8, "give", "(II)I"⟩
abbrev cX8_send : ByteArray := prog_1_method_16_code
def yX8_send : MethodName := ⟨RX8, "send", "(II)I"⟩
abbrev cX8_undo : ByteArray := prog_1_method_17_code
def yX8_undo : MethodName := ⟨RX8, "undo", "()I"⟩
abbrev cX8_arrives : ByteArray := prog_1_method_18_code
def yX8_arrives : MethodName := ⟨RX8, "arrives", "(I)I"⟩
abbrev cX8_loses : ByteArray := prog_1_method_19_code
def yX8_loses : MethodName := ⟨RX8, "loses", "(I)I"⟩
abbrev cX8_led : ByteArray := prog_1_method_20_code
def yX8_led : MethodName := ⟨RX8, "led", "(III)I"⟩
abbrev cX8_fastest : ByteArray := prog_1_method_21_code
def yX8_fastest : MethodName := ⟨RX8, "fastest", "(I)I"⟩
abbrev cX8_tune : ByteArray := prog_1_method_22_code
def yX8_tune : MethodName := ⟨RX8, "tune", "(I)I"⟩
abbrev cX8_meet : ByteArray := prog_1_method_23_code
def yX8_meet : MethodName := ⟨RX8, "meet", "(II)I"⟩
abbrev cX8_clash : ByteArray := prog_1_method_24_code
def yX8_clash : MethodName := ⟨RX8, "clash", "(III)I"⟩
abbrev cX8_right : ByteArray := prog_1_method_25_code
def yX8_right : MethodName := ⟨RX8, "right", "(II)I"⟩
abbrev cX8_hear : ByteArray := prog_1_method_26_code
def yX8_hear : MethodName := ⟨RX8, "hear", "(II)I"⟩
abbrev cX8_forget : ByteArray := prog_1_method_27_code
def yX8_forget : MethodName := ⟨RX8, "forget", "()I"⟩
abbrev cX8_which : ByteArray := prog_1_method_28_code
def yX8_which : MethodName := ⟨RX8, "which", "()I"⟩
abbrev cX8_seen : ByteArray := prog_1_method_29_code
def yX8_seen : MethodName := ⟨RX8, "seen", "(III)I"⟩
abbrev cX8_rains : ByteArray := prog_1_method_30_code
def yX8_rains : MethodName := ⟨RX8, "rains", "(IIII)I"⟩
abbrev cX8_year : ByteArray := prog_1_method_31_code
def yX8_year : MethodName := ⟨RX8, "year", "(III)I"⟩
abbrev cX8_keep : ByteArray := prog_1_method_32_code
def yX8_keep : MethodName := ⟨RX8, "keep", "()I"⟩
abbrev cX8_back : ByteArray := prog_1_method_33_code
def yX8_back : MethodName := ⟨RX8, "back", "()I"⟩
abbrev cX8_count : ByteArray := prog_1_method_34_code
def yX8_count : MethodName := ⟨RX8, "count", "(I)I"⟩
abbrev cX8_within : ByteArray := prog_1_method_35_code
def yX8_within : MethodName := ⟨RX8, "within", "(III)Z"⟩
abbrev cX8_figureOf : ByteArray := prog_1_method_36_code
def yX8_figureOf : MethodName := ⟨RX8, "figureOf", "(I)I"⟩
abbrev cX8_modulo : ByteArray := prog_1_method_37_code
def yX8_modulo : MethodName := ⟨RX8, "modulo", "(II)I"⟩
abbrev cX8_greatestDivisor : ByteArray := prog_1_method_38_code
def yX8_greatestDivisor : MethodName := ⟨RX8, "greatestDivisor", "(II)I"⟩
abbrev cX8_hoursToEnter : ByteArray := prog_1_method_39_code
def yX8_hoursToEnter : MethodName := ⟨RX8, "hoursToEnter", "(II)I"⟩
abbrev cX8_loudness : ByteArray := prog_1_method_40_code
def yX8_loudness : MethodName := ⟨RX8, "loudness", "(II)I"⟩
abbrev cX8_layText : ByteArray := prog_1_method_41_code
def yX8_layText : MethodName := ⟨RX8, "layText", "()Z"⟩
abbrev cX8_letHourPass : ByteArray := prog_1_method_42_code
def yX8_letHourPass : MethodName := ⟨RX8, "letHourPass", "(LDrumMaps$Forest;)V"⟩
abbrev cX8_walkHour : ByteArray := prog_1_method_43_code
def yX8_walkHour : MethodName := ⟨RX8, "walkHour", "(LDrumMaps$Traveller;LDrumMaps$Ways;I)V"⟩
abbrev cX8_setOut : ByteArray := prog_1_method_44_code
def yX8_setOut : MethodName := ⟨RX8, "setOut", "(LDrumMaps$Traveller;II)V"⟩
abbrev cX8_hoursUntil : ByteArray := prog_1_method_45_code
def yX8_hoursUntil : MethodName := ⟨RX8, "hoursUntil", "(LDrumMaps$Forest;I)I"⟩
abbrev cX8_hoursToArrive : ByteArray := prog_1_method_46_code
def yX8_hoursToArrive : MethodName := ⟨RX8, "hoursToArrive", "(LDrumMaps$Forest;LDrumMaps$Traveller;I)I"⟩
abbrev cX8_hoursLed : ByteArray := prog_1_method_47_code
def yX8_hoursLed : MethodName := ⟨RX8, "hoursLed", "(III)I"⟩
abbrev cX8_placeBehind : ByteArray := prog_1_method_48_code
def yX8_placeBehind : MethodName := ⟨RX8, "placeBehind", "(LDrumMaps$Traveller;II)I"⟩
abbrev cX8_sure : ByteArray := prog_1_method_49_code
def yX8_sure : MethodName := ⟨RX8, "sure", "()I"⟩
abbrev cX8_toldAllHeard : ByteArray := prog_1_method_50_code
def yX8_toldAllHeard : MethodName := ⟨RX8, "toldAllHeard", "(I)Z"⟩
abbrev cX8_weightIfThere : ByteArray := prog_1_method_51_code
def yX8_weightIfThere : MethodName := ⟨RX8, "weightIfThere", "(LDrumMaps$Traveller;III)I"⟩
abbrev cX8_drawOf : ByteArray := prog_1_method_52_code
def yX8_drawOf : MethodName := ⟨RX8, "drawOf", "(II)I"⟩
abbrev cX8_stir : ByteArray := prog_1_method_53_code
def yX8_stir : MethodName := ⟨RX8, "stir", "(LDrumMaps$Forest;I)V"⟩
abbrev cX8_sendIfHeCan : ByteArray := prog_1_method_54_code
def yX8_sendIfHeCan : MethodName := ⟨RX8, "sendIfHeCan", "(LDrumMaps$Forest;II)V"⟩
def RX9 : String := "DrumMapsModel"
def TX9 : u_T := fun k => match k with
  | 0 => ("DrumMapsModel", "rows", "I", false)
  | 1 => ("DrumMapsModel", "across", "I", false)
  | 2 => ("DrumMapsModel", "land", "[I", true)
  | 3 => ("DrumMapsModel", "drums", "I", false)
  | 4 => ("DrumMapsModel", "kinds", "[I", true)
  | 5 => ("DrumMapsModel", "travellers", "I", false)
  | 6 => ("DrumMapsModel", "now", "[I", true)
  | 7 => ("DrumMapsModel", "aside", "[I", true)
  | 8 => ("DrumMapsModel", "past", "[I", true)
  | 9 => ("DrumMapsModel", "undos", "I", false)
  | 10 => ("DrumMapsModel", "kept", "[I", true)
  | 11 => ("DrumMapsModel", "keptMany", "I", false)
  | 12 => ("DrumMapsModel", "heard", "[I", true)
  | 13 => ("DrumMapsModel", "heardMany", "I", false)
  | 14 => ("DrumMapsModel", "text", "[I", true)
  | 15 => ("DrumMapsModel", "size", "I", false)
  | 16 => ("DrumMapsModel", "readRows", "I", false)
  | 17 => ("DrumMapsModel", "readAcross", "I", false)
  | 18 => ("DrumMapsModel", "readLand", "[I", true)
  | 19 => ("DrumMapsModel", "readDrums", "I", false)
  | 20 => ("DrumMapsModel", "readKinds", "[I", true)
  | 21 => ("DrumMapsModel", "readOther", "[I", true)
  | 22 => ("DrumMapsModel", "readTravellers", "I", false)
  | 23 => ("DrumMapsModel", "readFrom", "[I", true)
  | 24 => ("DrumMapsModel", "readTo", "[I", true)
  | 25 => ("DrumMapsModel", "readBy", "[I", true)
  | 26 => ("DrumMapsModel", "readWet", "I", false)
  | 27 => ("DrumMapsModel", "at", "I", false)
  | 28 => ("DrumMapsModel", "value", "I", false)
  | _ => ("DrumMapsModel", "away", "[I", true)
def tyX9 : Nat → FieldType := fun k => match k with
  | 0 => .int
  | 1 => .int
  | 2 => .array .int
  | 3 => .int
  | 4 => .array .int
  | 5 => .int
  | 6 => .array .int
  | 7 => .array .int
  | 8 => .array .int
  | 9 => .int
  | 10 => .array .int
  | 11 => .int
  | 12 => .array .int
  | 13 => .int
  | 14 => .array .int
  | 15 => .int
  | 16 => .int
  | 17 => .int
  | 18 => .array .int
  | 19 => .int
  | 20 => .array .int
  | 21 => .array .int
  | 22 => .int
  | 23 => .array .int
  | 24 => .array .int
  | 25 => .array .int
  | 26 => .int
  | 27 => .int
  | 28 => .int
  | _ => .array .int
abbrev wsX90 : List Cond := u_ws RX9 TX9 30
theorem nmX9 : ∀ a, a < 30 → ∀ b, b < 30 → a ≠ b → (TX9 a).2.1 ≠ (TX9 b).2.1 := by decide +kernel
theorem tyX9_ok : ∀ k, k < 30 → parseFieldDescriptor (TX9 k).2.2.1 = some (tyX9 k) := by decide +kernel
abbrev cX9_init : ByteArray := prog_11_method_1_code
def yX9_init : MethodName := ⟨RX9, "<init>", "()V"⟩
abbrev cX9_in : ByteArray := prog_11_method_3_code
def yX9_in : MethodName := ⟨RX9, "in", "(JJJ)Z"⟩
abbrev cX9_has : ByteArray := prog_11_method_4_code
def yX9_has : MethodName := ⟨RX9, "has", "(II)Z"⟩
abbrev cX9_copies : ByteArray := prog_11_method_5_code
def yX9_copies : MethodName := ⟨RX9, "copies", "([II[III)V"⟩
abbrev cX9_forgetsRead : ByteArray := prog_11_method_6_code
def yX9_forgetsRead : MethodName := ⟨RX9, "forgetsRead", "()V"⟩
abbrev cX9_laysRow : ByteArray := prog_11_method_7_code
def yX9_laysRow : MethodName := ⟨RX9, "laysRow", "(II)V"⟩
abbrev cX9_laysTraveller : ByteArray := prog_11_method_8_code
def yX9_laysTraveller : MethodName := ⟨RX9, "laysTraveller", "(III)V"⟩
abbrev cX9_begins : ByteArray := prog_11_method_9_code
def yX9_begins : MethodName := ⟨RX9, "begins", "()V"⟩
abbrev cX9_write : ByteArray := prog_11_method_10_code
def yX9_write : MethodName := ⟨RX9, "write", "(I)I"⟩
abbrev cX9_wipe : ByteArray := prog_11_method_11_code
def yX9_wipe : MethodName := ⟨RX9, "wipe", "()I"⟩
abbrev cX9_here : ByteArray := prog_11_method_12_code
def yX9_here : MethodName := ⟨RX9, "here", "()I"⟩
abbrev cX9_takes : ByteArray := prog_11_method_13_code
def yX9_takes : MethodName := ⟨RX9, "takes", "(I)Z"⟩
abbrev cX9_isFigure : ByteArray := prog_11_method_14_code
def yX9_isFigure : MethodName := ⟨RX9, "isFigure", "(I)Z"⟩
abbrev cX9_number : ByteArray := prog_11_method_15_code
def yX9_number : MethodName := ⟨RX9, "number", "(II)Z"⟩
abbrev cX9_readsRow : ByteArray := prog_11_method_16_code
def yX9_readsRow : MethodName := ⟨RX9, "readsRow", "()Z"⟩
abbrev cX9_readsDrum : ByteArray := prog_11_method_17_code
def yX9_readsDrum : MethodName := ⟨RX9, "readsDrum", "()Z"⟩
abbrev cX9_readsOther : ByteArray := prog_11_method_18_code
def yX9_readsOther : MethodName := ⟨RX9, "readsOther", "()Z"⟩
abbrev cX9_readsTraveller : ByteArray := prog_11_method_19_code
def yX9_readsTraveller : MethodName := ⟨RX9, "readsTraveller", "()Z"⟩
abbrev cX9_readsWet : ByteArray := prog_11_method_20_code
def yX9_readsWet : MethodName := ⟨RX9, "readsWet", "()Z"⟩
abbrev cX9_readsItem : ByteArray := prog_11_method_21_code
def yX9_readsItem : MethodName := ⟨RX9, "readsItem", "()Z"⟩
abbrev cX9_reads : ByteArray := prog_11_method_22_code
def yX9_reads : MethodName := ⟨RX9, "reads", "()I"⟩
abbrev cX9_fault : ByteArray := prog_11_method_23_code
def yX9_fault : MethodName := ⟨RX9, "fault", "()I"⟩
abbrev cX9_lay : ByteArray := prog_11_method_24_code
def yX9_lay : MethodName := ⟨RX9, "lay", "()I"⟩
abbrev cX9_isPlace : ByteArray := prog_11_method_25_code
def yX9_isPlace : MethodName := ⟨RX9, "isPlace", "(I)Z"⟩
abbrev cX9_isDrum : ByteArray := prog_11_method_26_code
def yX9_isDrum : MethodName := ⟨RX9, "isDrum", "(I)Z"⟩
abbrev cX9_isTraveller : ByteArray := prog_11_method_27_code
def yX9_isTraveller : MethodName := ⟨RX9, "isTraveller", "(I)Z"⟩
abbrev cX9_tells : ByteArray := prog_11_method_28_code
def yX9_tells : MethodName := ⟨RX9, "tells", "([III)I"⟩
abbrev cX9_taken : ByteArray := prog_11_method_29_code
def yX9_taken : MethodName := ⟨RX9, "taken", "([III)I"⟩
abbrev cX9_hoursFor : ByteArray := prog_11_method_30_code
def yX9_hoursFor : MethodName := ⟨RX9, "hoursFor", "(II)I"⟩
abbrev cX9_beside : ByteArray := prog_11_method_31_code
def yX9_beside : MethodName := ⟨RX9, "beside", "(II)I"⟩
abbrev cX9_byWay : ByteArray := prog_11_method_32_code
def yX9_byWay : MethodName := ⟨RX9, "byWay", "([IIII)I"⟩
abbrev cX9_layAway : ByteArray := prog_11_method_33_code
def yX9_layAway : MethodName := ⟨RX9, "layAway", "([III)V"⟩
abbrev cX9_firstOf : ByteArray := prog_11_method_34_code
def yX9_firstOf : MethodName := ⟨RX9, "firstOf", "([IIII)I"⟩
abbrev cX9_lengthOf : ByteArray := prog_11_method_35_code
def yX9_lengthOf : MethodName := ⟨RX9, "lengthOf", "([IIII)I"⟩
abbrev cX9_place : ByteArray := prog_11_method_36_code
def yX9_place : MethodName := ⟨RX9, "place", "(I)I"⟩
abbrev cX9_drum : ByteArray := prog_11_method_37_code
def yX9_drum : MethodName := ⟨RX9, "drum", "(III)I"⟩
abbrev cX9_kind : ByteArray := prog_11_method_38_code
def yX9_kind : MethodName := ⟨RX9, "kind", "(I)I"⟩
abbrev cX9_traveller : ByteArray := prog_11_method_39_code
def yX9_traveller : MethodName := ⟨RX9, "traveller", "(II)I"⟩
abbrev cX9_route : ByteArray := prog_11_method_40_code
def yX9_route : MethodName := ⟨RX9, "route", "(IIII)I"⟩
abbrev cX9_truth : ByteArray := prog_11_method_41_code
def yX9_truth : MethodName := ⟨RX9, "truth", "(II)I"⟩
abbrev cX9_oneGoes : ByteArray := prog_11_method_42_code
def yX9_oneGoes : MethodName := ⟨RX9, "oneGoes", "([II)V"⟩
abbrev cX9_hourGoes : ByteArray := prog_11_method_43_code
def yX9_hourGoes : MethodName := ⟨RX9, "hourGoes", "([I)V"⟩
abbrev cX9_remember : ByteArray := prog_11_method_44_code
def yX9_remember : MethodName := ⟨RX9, "remember", "()V"⟩
abbrev cX9_pass : ByteArray := prog_11_method_45_code
def yX9_pass : MethodName := ⟨RX9, "pass", "(I)I"⟩
abbrev cX9_rain : ByteArray := prog_11_method_46_code
def yX9_rain : MethodName := ⟨RX9, "rain", "(I)I"⟩
abbrev cX9_retune : ByteArray := prog_11_method_47_code
def yX9_retune : MethodName := ⟨RX9, "retune", "(III)I"⟩
abbrev cX9_give : ByteArray := prog_11_method_48_code
def yX9_give : MethodName := ⟨RX9, "give", "(II)I"⟩
abbrev cX9_sends : ByteArray := prog_11_method_49_code
def yX9_sends : MethodName := ⟨RX9, "sends", "([III)V"⟩
abbrev cX9_send : ByteArray := prog_11_method_50_code
def yX9_send : MethodName := ⟨RX9, "send", "(II)I"⟩
abbrev cX9_undo : ByteArray := prog_11_method_51_code
def yX9_undo : MethodName := ⟨RX9, "undo", "()I"⟩
abbrev cX9_untilSo : ByteArray := prog_11_method_52_code
def yX9_untilSo : MethodName := ⟨RX9, "untilSo", "(II)I"⟩
abbrev cX9_untilNow : ByteArray := prog_11_method_53_code
def yX9_untilNow : MethodName := ⟨RX9, "untilNow", "(II)I"⟩
abbrev cX9_arrives : ByteArray := prog_11_method_54_code
def yX9_arrives : MethodName := ⟨RX9, "arrives", "(I)I"⟩
abbrev cX9_loses : ByteArray := prog_11_method_55_code
def yX9_loses : MethodName := ⟨RX9, "loses", "(I)I"⟩
abbrev cX9_ledBy : ByteArray := prog_11_method_56_code
def yX9_ledBy : MethodName := ⟨RX9, "ledBy", "(III)I"⟩
abbrev cX9_led : ByteArray := prog_11_method_57_code
def yX9_led : MethodName := ⟨RX9, "led", "(III)I"⟩
abbrev cX9_fastest : ByteArray := prog_11_method_58_code
def yX9_fastest : MethodName := ⟨RX9, "fastest", "(I)I"⟩
abbrev cX9_tune : ByteArray := prog_11_method_59_code
def yX9_tune : MethodName := ⟨RX9, "tune", "(I)I"⟩
abbrev cX9_meet : ByteArray := prog_11_method_60_code
def yX9_meet : MethodName := ⟨RX9, "meet", "(II)I"⟩
abbrev cX9_clash : ByteArray := prog_11_method_61_code
def yX9_clash : MethodName := ⟨RX9, "clash", "(III)I"⟩
abbrev cX9_right : ByteArray := prog_11_method_62_code
def yX9_right : MethodName := ⟨RX9, "right", "(II)I"⟩
abbrev cX9_hear : ByteArray := prog_11_method_63_code
def yX9_hear : MethodName := ⟨RX9, "hear", "(II)I"⟩
abbrev cX9_forget : ByteArray := prog_11_method_64_code
def yX9_forget : MethodName := ⟨RX9, "forget", "()I"⟩
abbrev cX9_which : ByteArray := prog_11_method_65_code
def yX9_which : MethodName := ⟨RX9, "which", "()I"⟩
abbrev cX9_seen : ByteArray := prog_11_method_66_code
def yX9_seen : MethodName := ⟨RX9, "seen", "(III)I"⟩
abbrev cX9_lowest : ByteArray := prog_11_method_67_code
def yX9_lowest : MethodName := ⟨RX9, "lowest", "(JJI)I"⟩
abbrev cX9_rains : ByteArray := prog_11_method_68_code
def yX9_rains : MethodName := ⟨RX9, "rains", "(IIII)I"⟩
abbrev cX9_manyOf : ByteArray := prog_11_method_69_code
def yX9_manyOf : MethodName := ⟨RX9, "manyOf", "([II)I"⟩
abbrev cX9_yearDraws : ByteArray := prog_11_method_70_code
def yX9_yearDraws : MethodName := ⟨RX9, "yearDraws", "(I)V"⟩
abbrev cX9_year : ByteArray := prog_11_method_71_code
def yX9_year : MethodName := ⟨RX9, "year", "(III)I"⟩
abbrev cX9_keep : ByteArray := prog_11_method_72_code
def yX9_keep : MethodName := ⟨RX9, "keep", "()I"⟩
abbrev cX9_back : ByteArray := prog_11_method_73_code
def yX9_back : MethodName := ⟨RX9, "back", "()I"⟩
abbrev cX9_sure : ByteArray := prog_11_method_74_code
def yX9_sure : MethodName := ⟨RX9, "sure", "()I"⟩
abbrev cX9_count : ByteArray := prog_11_method_75_code
def yX9_count : MethodName := ⟨RX9, "count", "(I)I"⟩
def RJ9 : String := "java/lang/Math"
def TJ9 : u_T := fun k => match k with
  | _ => ("", "", "", false)
abbrev cJ9_min_7cf53 : ByteArray := prog_12_method_69_code
def yJ9_min_7cf53 : MethodName := ⟨RJ9, "min", "(II)I"⟩
def RJ0 : String := "java/lang/String"
def TJ0 : u_T := fun k => match k with
  | _ => ("", "", "", false)
abbrev cJ0_length_8abf5 : ByteArray := prog_13_method_54_code
def yJ0_length_8abf5 : MethodName := ⟨RJ0, "length", "()I"⟩
abbrev cJ0_charAt_5068e : ByteArray := prog_13_method_56_code
def yJ0_charAt_5068e : MethodName := ⟨RJ0, "charAt", "(I)C"⟩
abbrev cJ0_coder_7d493 : ByteArray := prog_13_method_152_code
def yJ0_coder_7d493 : MethodName := ⟨RJ0, "coder", "()B"⟩
abbrev cJ0_isLatin1_aae02 : ByteArray := prog_13_method_154_code
def yJ0_isLatin1_aae02 : MethodName := ⟨RJ0, "isLatin1", "()Z"⟩
abbrev cJ0_checkIndex_df160 : ByteArray := prog_13_method_155_code
def yJ0_checkIndex_df160 : MethodName := ⟨RJ0, "checkIndex", "(II)V"⟩
def RJ1 : String := "java/lang/StringLatin1"
def TJ1 : u_T := fun k => match k with
  | _ => ("", "", "", false)
abbrev cJ1_charAt_3b067 : ByteArray := prog_14_method_2_code
def yJ1_charAt_3b067 : MethodName := ⟨RJ1, "charAt", "([BI)C"⟩
def RJ2 : String := "java/lang/StringUTF16"
def TJ2 : u_T := fun k => match k with
  | _ => ("", "", "", false)
abbrev cJ2_getChar_3b067 : ByteArray := prog_15_method_5_code
def yJ2_getChar_3b067 : MethodName := ⟨RJ2, "getChar", "([BI)C"⟩
abbrev cJ2_length_9d52b : ByteArray := prog_15_method_6_code
def yJ2_length_9d52b : MethodName := ⟨RJ2, "length", "([B)I"⟩
abbrev cJ2_charAt_3b067 : ByteArray := prog_15_method_83_code
def yJ2_charAt_3b067 : MethodName := ⟨RJ2, "charAt", "([BI)C"⟩
abbrev cJ2_checkIndex_2214a : ByteArray := prog_15_method_91_code
def yJ2_checkIndex_2214a : MethodName := ⟨RJ2, "checkIndex", "(I[B)V"⟩
def RJ10 : String := "java/lang/System"
def TJ10 : u_T := fun k => match k with
  | _ => ("", "", "", false)
def RJ3 : String := "jdk/internal/util/Preconditions"
def TJ3 : u_T := fun k => match k with
  | _ => ("", "", "", false)
abbrev cJ3_checkIndex_8e157 : ByteArray := prog_17_method_11_code
def yJ3_checkIndex_8e157 : MethodName := ⟨RJ3, "checkIndex", "(IILjava/util/function/BiFunction;)I"⟩
def RL : String := "DrumMapsLaw"
abbrev cL_law : ByteArray := code
def yL_law : MethodName := ⟨RL, "law", "([I)Z"⟩
end
section
theorem dX0_init_0 : decode cX0_init 0 = .ok (.aload_n 0, 1) := by decide +kernel
theorem dX0_init_1 : decode cX0_init 1 = .ok (.invokespecial 3, 3) := by decide +kernel
theorem dX0_init_4 : decode cX0_init 4 = .ok (.aload_n 0, 1) := by decide +kernel
theorem dX0_init_5 : decode cX0_init 5 = .ok (.new 9, 3) := by decide +kernel
theorem dX0_init_8 : decode cX0_init 8 = .ok (.dup, 1) := by decide +kernel
theorem dX0_init_9 : decode cX0_init 9 = .ok (.sipush 144, 3) := by decide +kernel
theorem dX0_init_12 : decode cX0_init 12 = .ok (.invokespecial 11, 3) := by decide +kernel
theorem dX0_init_15 : decode cX0_init 15 = .ok (.putfield 14, 3) := by decide +kernel
theorem dX0_init_18 : decode cX0_init 18 = .ok (.aload_n 0, 1) := by decide +kernel
theorem dX0_init_19 : decode cX0_init 19 = .ok (.iconst 4, 1) := by decide +kernel
theorem dX0_init_20 : decode cX0_init 20 = .ok (.anewarray 20, 3) := by decide +kernel
theorem dX0_init_23 : decode cX0_init 23 = .ok (.putfield 22, 3) := by decide +kernel
theorem dX0_init_26 : decode cX0_init 26 = .ok (.iconst 0, 1) := by decide +kernel
theorem dX0_init_27 : decode cX0_init 27 = .ok (.istore_n 1, 1) := by decide +kernel
theorem dX0_init_28 : decode cX0_init 28 = .ok (.iload_n 1, 1) := by decide +kernel
theorem dX0_init_29 : decode cX0_init 29 = .ok (.aload_n 0, 1) := by decide +kernel
theorem dX0_init_30 : decode cX0_init 30 = .ok (.getfield 22, 3) := by decide +kernel
theorem dX0_init_33 : decode cX0_init 33 = .ok (.arraylength, 1) := by decide +kernel
theorem dX0_init_34 : decode cX0_init 34 = .ok (.if_icmp .ge 22, 3) := by decide +kernel
theorem dX0_init_37 : decode cX0_init 37 = .ok (.aload_n 0, 1) := by decide +kernel
theorem dX0_init_38 : decode cX0_init 38 = .ok (.getfield 22, 3) := by decide +kernel
theorem dX0_init_41 : decode cX0_init 41 = .ok (.iload_n 1, 1) := by decide +kernel
theorem dX0_init_42 : decode cX0_init 42 = .ok (.new 20, 3) := by decide +kernel
theorem dX0_init_45 : decode cX0_init 45 = .ok (.dup, 1) := by decide +kernel
theorem dX0_init_46 : decode cX0_init 46 = .ok (.invokespecial 26, 3) := by decide +kernel
theorem dX0_init_49 : decode cX0_init 49 = .ok (.aastore, 1) := by decide +kernel
theorem dX0_init_50 : decode cX0_init 50 = .ok (.iinc 1 1, 3) := by decide +kernel
theorem dX0_init_53 : decode cX0_init 53 = .ok (.goto (-25), 3) := by decide +kernel
theorem dX0_init_56 : decode cX0_init 56 = .ok (.return_, 1) := by decide +kernel
theorem dX0_who_0 : decode cX0_who 0 = .ok (.aload_n 0, 1) := by decide +kernel
theorem dX0_who_1 : decode cX0_who 1 = .ok (.getfield 22, 3) := by decide +kernel
theorem dX0_who_4 : decode cX0_who 4 = .ok (.iload_n 1, 1) := by decide +kernel
theorem dX0_who_5 : decode cX0_who 5 = .ok (.ifCond .lt 16, 3) := by decide +kernel
theorem dX0_who_8 : decode cX0_who 8 = .ok (.iload_n 1, 1) := by decide +kernel
theorem dX0_who_9 : decode cX0_who 9 = .ok (.aload_n 0, 1) := by decide +kernel
theorem dX0_who_10 : decode cX0_who 10 = .ok (.getfield 22, 3) := by decide +kernel
theorem dX0_who_13 : decode cX0_who 13 = .ok (.arraylength, 1) := by decide +kernel
theorem dX0_who_14 : decode cX0_who 14 = .ok (.if_icmp .ge 7, 3) := by decide +kernel
theorem dX0_who_17 : decode cX0_who 17 = .ok (.iload_n 1, 1) := by decide +kernel
theorem dX0_who_18 : decode cX0_who 18 = .ok (.goto 4, 3) := by decide +kernel
theorem dX0_who_21 : decode cX0_who 21 = .ok (.iconst 0, 1) := by decide +kernel
theorem dX0_who_22 : decode cX0_who 22 = .ok (.aaload, 1) := by decide +kernel
theorem dX0_who_23 : decode cX0_who 23 = .ok (.areturn, 1) := by decide +kernel
theorem dX0_clear_0 : decode cX0_clear 0 = .ok (.aload_n 0, 1) := by decide +kernel
theorem dX0_clear_1 : decode cX0_clear 1 = .ok (.getfield 14, 3) := by decide +kernel
theorem dX0_clear_4 : decode cX0_clear 4 = .ok (.iconst (-1), 1) := by decide +kernel
theorem dX0_clear_5 : decode cX0_clear 5 = .ok (.invokevirtual 27, 3) := by decide +kernel
theorem dX0_clear_8 : decode cX0_clear 8 = .ok (.aload_n 0, 1) := by decide +kernel
theorem dX0_clear_9 : decode cX0_clear 9 = .ok (.iconst 0, 1) := by decide +kernel
theorem dX0_clear_10 : decode cX0_clear 10 = .ok (.putfield 30, 3) := by decide +kernel
theorem dX0_clear_13 : decode cX0_clear 13 = .ok (.aload_n 0, 1) := by decide +kernel
theorem dX0_clear_14 : decode cX0_clear 14 = .ok (.iconst 0, 1) := by decide +kernel
theorem dX0_clear_15 : decode cX0_clear 15 = .ok (.putfield 34, 3) := by decide +kernel
theorem dX0_clear_18 : decode cX0_clear 18 = .ok (.return_, 1) := by decide +kernel
theorem dX0_setTold_0 : decode cX0_setTold 0 = .ok (.aload_n 0, 1) := by decide +kernel
theorem dX0_setTold_1 : decode cX0_setTold 1 = .ok (.getfield 14, 3) := by decide +kernel
theorem dX0_setTold_4 : decode cX0_setTold 4 = .ok (.iload_n 1, 1) := by decide +kernel
theorem dX0_setTold_5 : decode cX0_setTold 5 = .ok (.bipush 36, 2) := by decide +kernel
theorem dX0_setTold_7 : decode cX0_setTold 7 = .ok (.imul, 1) := by decide +kernel
theorem dX0_setTold_8 : decode cX0_setTold 8 = .ok (.iload_n 2, 1) := by decide +kernel
theorem dX0_setTold_9 : decode cX0_setTold 9 = .ok (.iadd, 1) := by decide +kernel
theorem dX0_setTold_10 : decode cX0_setTold 10 = .ok (.iload_n 3, 1) := by decide +kernel
theorem dX0_setTold_11 : decode cX0_setTold 11 = .ok (.invokevirtual 37, 3) := by decide +kernel
theorem dX0_setTold_14 : decode cX0_setTold 14 = .ok (.return_, 1) := by decide +kernel
theorem dX0_tells_0 : decode cX0_tells 0 = .ok (.aload_n 0, 1) := by decide +kernel
theorem dX0_tells_1 : decode cX0_tells 1 = .ok (.getfield 14, 3) := by decide +kernel
theorem dX0_tells_4 : decode cX0_tells 4 = .ok (.iload_n 2, 1) := by decide +kernel
theorem dX0_tells_5 : decode cX0_tells 5 = .ok (.bipush 36, 2) := by decide +kernel
theorem dX0_tells_7 : decode cX0_tells 7 = .ok (.imul, 1) := by decide +kernel
theorem dX0_tells_8 : decode cX0_tells 8 = .ok (.iload_n 3, 1) := by decide +kernel
theorem dX0_tells_9 : decode cX0_tells 9 = .ok (.iadd, 1) := by decide +kernel
theorem dX0_tells_10 : decode cX0_tells 10 = .ok (.invokevirtual 41, 3) := by decide +kernel
theorem dX0_tells_13 : decode cX0_tells 13 = .ok (.istore 4, 2) := by decide +kernel
theorem dX0_tells_15 : decode cX0_tells 15 = .ok (.iload 4, 2) := by decide +kernel
theorem dX0_tells_17 : decode cX0_tells 17 = .ok (.iconst (-1), 1) := by decide +kernel
theorem dX0_tells_18 : decode cX0_tells 18 = .ok (.if_icmp .ne 14, 3) := by decide +kernel
theorem dX0_tells_21 : decode cX0_tells 21 = .ok (.aload_n 1, 1) := by decide +kernel
theorem dX0_tells_22 : decode cX0_tells 22 = .ok (.getfield 45, 3) := by decide +kernel
theorem dX0_tells_25 : decode cX0_tells 25 = .ok (.iload_n 3, 1) := by decide +kernel
theorem dX0_tells_26 : decode cX0_tells 26 = .ok (.invokevirtual 41, 3) := by decide +kernel
theorem dX0_tells_29 : decode cX0_tells 29 = .ok (.goto 5, 3) := by decide +kernel
theorem dX0_tells_32 : decode cX0_tells 32 = .ok (.iload 4, 2) := by decide +kernel
theorem dX0_tells_34 : decode cX0_tells 34 = .ok (.ireturn, 1) := by decide +kernel
theorem dX0_takes_0 : decode cX0_takes 0 = .ok (.aload_n 0, 1) := by decide +kernel
theorem dX0_takes_1 : decode cX0_takes 1 = .ok (.aload_n 1, 1) := by decide +kernel
theorem dX0_takes_2 : decode cX0_takes 2 = .ok (.iload_n 2, 1) := by decide +kernel
theorem dX0_takes_3 : decode cX0_takes 3 = .ok (.iload_n 3, 1) := by decide +kernel
theorem dX0_takes_4 : decode cX0_takes 4 = .ok (.invokevirtual 50, 3) := by decide +kernel
theorem dX0_takes_7 : decode cX0_takes 7 = .ok (.istore 4, 2) := by decide +kernel
theorem dX0_takes_9 : decode cX0_takes 9 = .ok (.aload_n 1, 1) := by decide +kernel
theorem dX0_takes_10 : decode cX0_takes 10 = .ok (.getfield 54, 3) := by decide +kernel
theorem dX0_takes_13 : decode cX0_takes 13 = .ok (.iload_n 2, 1) := by decide +kernel
theorem dX0_takes_14 : decode cX0_takes 14 = .ok (.invokevirtual 41, 3) := by decide +kernel
theorem dX0_takes_17 : decode cX0_takes 17 = .ok (.tableswitch 66 1 3 #[27, 40, 53], 27) := by decide +kernel
theorem dX0_takes_44 : decode cX0_takes 44 = .ok (.iload 4, 2) := by decide +kernel
theorem dX0_takes_46 : decode cX0_takes 46 = .ok (.iconst 1, 1) := by decide +kernel
theorem dX0_takes_47 : decode cX0_takes 47 = .ok (.if_icmp .ne 7, 3) := by decide +kernel
theorem dX0_takes_50 : decode cX0_takes 50 = .ok (.iconst 0, 1) := by decide +kernel
theorem dX0_takes_51 : decode cX0_takes 51 = .ok (.goto 5, 3) := by decide +kernel
theorem dX0_takes_54 : decode cX0_takes 54 = .ok (.iload 4, 2) := by decide +kernel
theorem dX0_takes_56 : decode cX0_takes 56 = .ok (.ireturn, 1) := by decide +kernel
theorem dX0_takes_57 : decode cX0_takes 57 = .ok (.iload 4, 2) := by decide +kernel
theorem dX0_takes_59 : decode cX0_takes 59 = .ok (.iconst 2, 1) := by decide +kernel
theorem dX0_takes_60 : decode cX0_takes 60 = .ok (.if_icmp .ne 7, 3) := by decide +kernel
theorem dX0_takes_63 : decode cX0_takes 63 = .ok (.iconst 0, 1) := by decide +kernel
theorem dX0_takes_64 : decode cX0_takes 64 = .ok (.goto 5, 3) := by decide +kernel
theorem dX0_takes_67 : decode cX0_takes 67 = .ok (.iload 4, 2) := by decide +kernel
theorem dX0_takes_69 : decode cX0_takes 69 = .ok (.ireturn, 1) := by decide +kernel
theorem dX0_takes_70 : decode cX0_takes 70 = .ok (.iload 4, 2) := by decide +kernel
theorem dX0_takes_72 : decode cX0_takes 72 = .ok (.iconst 3, 1) := by decide +kernel
theorem dX0_takes_73 : decode cX0_takes 73 = .ok (.if_icmp .ne 7, 3) := by decide +kernel
theorem dX0_takes_76 : decode cX0_takes 76 = .ok (.iconst 0, 1) := by decide +kernel
theorem dX0_takes_77 : decode cX0_takes 77 = .ok (.goto 5, 3) := by decide +kernel
theorem dX0_takes_80 : decode cX0_takes 80 = .ok (.iload 4, 2) := by decide +kernel
theorem dX0_takes_82 : decode cX0_takes 82 = .ok (.ireturn, 1) := by decide +kernel
theorem dX0_takes_83 : decode cX0_takes 83 = .ok (.iload 4, 2) := by decide +kernel
theorem dX0_takes_85 : decode cX0_takes 85 = .ok (.ireturn, 1) := by decide +kernel
theorem dX0_howMany_0 : decode cX0_howMany 0 = .ok (.iconst 0, 1) := by decide +kernel
theorem dX0_howMany_1 : decode cX0_howMany 1 = .ok (.istore_n 3, 1) := by decide +kernel
theorem dX0_howMany_2 : decode cX0_howMany 2 = .ok (.iconst 0, 1) := by decide +kernel
theorem dX0_howMany_3 : decode cX0_howMany 3 = .ok (.istore 4, 2) := by decide +kernel
theorem dX0_howMany_5 : decode cX0_howMany 5 = .ok (.iload 4, 2) := by decide +kernel
theorem dX0_howMany_7 : decode cX0_howMany 7 = .ok (.aload_n 1, 1) := by decide +kernel
theorem dX0_howMany_8 : decode cX0_howMany 8 = .ok (.getfield 57, 3) := by decide +kernel
theorem dX0_howMany_11 : decode cX0_howMany 11 = .ok (.if_icmp .ge 30, 3) := by decide +kernel
theorem dX0_howMany_14 : decode cX0_howMany 14 = .ok (.iload_n 3, 1) := by decide +kernel
theorem dX0_howMany_15 : decode cX0_howMany 15 = .ok (.aload_n 0, 1) := by decide +kernel
theorem dX0_howMany_16 : decode cX0_howMany 16 = .ok (.iload 4, 2) := by decide +kernel
theorem dX0_howMany_18 : decode cX0_howMany 18 = .ok (.invokevirtual 59, 3) := by decide +kernel
theorem dX0_howMany_21 : decode cX0_howMany 21 = .ok (.getfield 63, 3) := by decide +kernel
theorem dX0_howMany_24 : decode cX0_howMany 24 = .ok (.iload_n 2, 1) := by decide +kernel
theorem dX0_howMany_25 : decode cX0_howMany 25 = .ok (.if_icmp .ne 7, 3) := by decide +kernel
theorem dX0_howMany_28 : decode cX0_howMany 28 = .ok (.iconst 1, 1) := by decide +kernel
theorem dX0_howMany_29 : decode cX0_howMany 29 = .ok (.goto 4, 3) := by decide +kernel
theorem dX0_howMany_32 : decode cX0_howMany 32 = .ok (.iconst 0, 1) := by decide +kernel
theorem dX0_howMany_33 : decode cX0_howMany 33 = .ok (.iadd, 1) := by decide +kernel
theorem dX0_howMany_34 : decode cX0_howMany 34 = .ok (.istore_n 3, 1) := by decide +kernel
theorem dX0_howMany_35 : decode cX0_howMany 35 = .ok (.iinc 4 1, 3) := by decide +kernel
theorem dX0_howMany_38 : decode cX0_howMany 38 = .ok (.goto (-33), 3) := by decide +kernel
theorem dX0_howMany_41 : decode cX0_howMany 41 = .ok (.iload_n 3, 1) := by decide +kernel
theorem dX0_howMany_42 : decode cX0_howMany 42 = .ok (.ireturn, 1) := by decide +kernel
theorem dX0_copyFrom_0 : decode cX0_copyFrom 0 = .ok (.aload_n 0, 1) := by decide +kernel
theorem dX0_copyFrom_1 : decode cX0_copyFrom 1 = .ok (.getfield 14, 3) := by decide +kernel
theorem dX0_copyFrom_4 : decode cX0_copyFrom 4 = .ok (.aload_n 1, 1) := by decide +kernel
theorem dX0_copyFrom_5 : decode cX0_copyFrom 5 = .ok (.getfield 14, 3) := by decide +kernel
theorem dX0_copyFrom_8 : decode cX0_copyFrom 8 = .ok (.invokevirtual 66, 3) := by decide +kernel
theorem dX0_copyFrom_11 : decode cX0_copyFrom 11 = .ok (.iconst 0, 1) := by decide +kernel
theorem dX0_copyFrom_12 : decode cX0_copyFrom 12 = .ok (.istore_n 2, 1) := by decide +kernel
theorem dX0_copyFrom_13 : decode cX0_copyFrom 13 = .ok (.iload_n 2, 1) := by decide +kernel
theorem dX0_copyFrom_14 : decode cX0_copyFrom 14 = .ok (.iconst 4, 1) := by decide +kernel
theorem dX0_copyFrom_15 : decode cX0_copyFrom 15 = .ok (.if_icmp .ge 22, 3) := by decide +kernel
theorem dX0_copyFrom_18 : decode cX0_copyFrom 18 = .ok (.aload_n 0, 1) := by decide +kernel
theorem dX0_copyFrom_19 : decode cX0_copyFrom 19 = .ok (.iload_n 2, 1) := by decide +kernel
theorem dX0_copyFrom_20 : decode cX0_copyFrom 20 = .ok (.invokevirtual 59, 3) := by decide +kernel
theorem dX0_copyFrom_23 : decode cX0_copyFrom 23 = .ok (.aload_n 1, 1) := by decide +kernel
theorem dX0_copyFrom_24 : decode cX0_copyFrom 24 = .ok (.iload_n 2, 1) := by decide +kernel
theorem dX0_copyFrom_25 : decode cX0_copyFrom 25 = .ok (.invokevirtual 59, 3) := by decide +kernel
theorem dX0_copyFrom_28 : decode cX0_copyFrom 28 = .ok (.invokevirtual 70, 3) := by decide +kernel
theorem dX0_copyFrom_31 : decode cX0_copyFrom 31 = .ok (.iinc 2 1, 3) := by decide +kernel
theorem dX0_copyFrom_34 : decode cX0_copyFrom 34 = .ok (.goto (-21), 3) := by decide +kernel
theorem dX0_copyFrom_37 : decode cX0_copyFrom 37 = .ok (.aload_n 0, 1) := by decide +kernel
theorem dX0_copyFrom_38 : decode cX0_copyFrom 38 = .ok (.aload_n 1, 1) := by decide +kernel
theorem dX0_copyFrom_39 : decode cX0_copyFrom 39 = .ok (.getfield 30, 3) := by decide +kernel
theorem dX0_copyFrom_42 : decode cX0_copyFrom 42 = .ok (.putfield 30, 3) := by decide +kernel
theorem dX0_copyFrom_45 : decode cX0_copyFrom 45 = .ok (.aload_n 0, 1) := by decide +kernel
theorem dX0_copyFrom_46 : decode cX0_copyFrom 46 = .ok (.aload_n 1, 1) := by decide +kernel
theorem dX0_copyFrom_47 : decode cX0_copyFrom 47 = .ok (.getfield 34, 3) := by decide +kernel
theorem dX0_copyFrom_50 : decode cX0_copyFrom 50 = .ok (.putfield 34, 3) := by decide +kernel
theorem dX0_copyFrom_53 : decode cX0_copyFrom 53 = .ok (.return_, 1) := by decide +kernel
theorem dX1_init_0 : decode cX1_init 0 = .ok (.aload_n 0, 1) := by decide +kernel
theorem dX1_init_1 : decode cX1_init 1 = .ok (.invokespecial 3, 3) := by decide +kernel
theorem dX1_init_4 : decode cX1_init 4 = .ok (.aload_n 0, 1) := by decide +kernel
theorem dX1_init_5 : decode cX1_init 5 = .ok (.new 9, 3) := by decide +kernel
theorem dX1_init_8 : decode cX1_init 8 = .ok (.dup, 1) := by decide +kernel
theorem dX1_init_9 : decode cX1_init 9 = .ok (.bipush 36, 2) := by decide +kernel
theorem dX1_init_11 : decode cX1_init 11 = .ok (.invokespecial 11, 3) := by decide +kernel
theorem dX1_init_14 : decode cX1_init 14 = .ok (.putfield 14, 3) := by decide +kernel
theorem dX1_init_17 : decode cX1_init 17 = .ok (.aload_n 0, 1) := by decide +kernel
theorem dX1_init_18 : decode cX1_init 18 = .ok (.new 9, 3) := by decide +kernel
theorem dX1_init_21 : decode cX1_init 21 = .ok (.dup, 1) := by decide +kernel
theorem dX1_init_22 : decode cX1_init 22 = .ok (.iconst 4, 1) := by decide +kernel
theorem dX1_init_23 : decode cX1_init 23 = .ok (.invokespecial 11, 3) := by decide +kernel
theorem dX1_init_26 : decode cX1_init 26 = .ok (.putfield 20, 3) := by decide +kernel
theorem dX1_init_29 : decode cX1_init 29 = .ok (.aload_n 0, 1) := by decide +kernel
theorem dX1_init_30 : decode cX1_init 30 = .ok (.new 9, 3) := by decide +kernel
theorem dX1_init_33 : decode cX1_init 33 = .ok (.dup, 1) := by decide +kernel
theorem dX1_init_34 : decode cX1_init 34 = .ok (.sipush 144, 3) := by decide +kernel
theorem dX1_init_37 : decode cX1_init 37 = .ok (.invokespecial 11, 3) := by decide +kernel
theorem dX1_init_40 : decode cX1_init 40 = .ok (.putfield 23, 3) := by decide +kernel
theorem dX1_init_43 : decode cX1_init 43 = .ok (.return_, 1) := by decide +kernel
theorem dX1_hasPlace_0 : decode cX1_hasPlace 0 = .ok (.iload_n 1, 1) := by decide +kernel
theorem dX1_hasPlace_1 : decode cX1_hasPlace 1 = .ok (.ifCond .lt 15, 3) := by decide +kernel
theorem dX1_hasPlace_4 : decode cX1_hasPlace 4 = .ok (.iload_n 1, 1) := by decide +kernel
theorem dX1_hasPlace_5 : decode cX1_hasPlace 5 = .ok (.aload_n 0, 1) := by decide +kernel
theorem dX1_hasPlace_6 : decode cX1_hasPlace 6 = .ok (.getfield 26, 3) := by decide +kernel
theorem dX1_hasPlace_9 : decode cX1_hasPlace 9 = .ok (.if_icmp .ge 7, 3) := by decide +kernel
theorem dX1_hasPlace_12 : decode cX1_hasPlace 12 = .ok (.iconst 1, 1) := by decide +kernel
theorem dX1_hasPlace_13 : decode cX1_hasPlace 13 = .ok (.goto 4, 3) := by decide +kernel
theorem dX1_hasPlace_16 : decode cX1_hasPlace 16 = .ok (.iconst 0, 1) := by decide +kernel
theorem dX1_hasPlace_17 : decode cX1_hasPlace 17 = .ok (.ireturn, 1) := by decide +kernel
theorem dX1_hasDrum_0 : decode cX1_hasDrum 0 = .ok (.iload_n 1, 1) := by decide +kernel
theorem dX1_hasDrum_1 : decode cX1_hasDrum 1 = .ok (.ifCond .lt 15, 3) := by decide +kernel
theorem dX1_hasDrum_4 : decode cX1_hasDrum 4 = .ok (.iload_n 1, 1) := by decide +kernel
theorem dX1_hasDrum_5 : decode cX1_hasDrum 5 = .ok (.aload_n 0, 1) := by decide +kernel
theorem dX1_hasDrum_6 : decode cX1_hasDrum 6 = .ok (.getfield 30, 3) := by decide +kernel
theorem dX1_hasDrum_9 : decode cX1_hasDrum 9 = .ok (.if_icmp .ge 7, 3) := by decide +kernel
theorem dX1_hasDrum_12 : decode cX1_hasDrum 12 = .ok (.iconst 1, 1) := by decide +kernel
theorem dX1_hasDrum_13 : decode cX1_hasDrum 13 = .ok (.goto 4, 3) := by decide +kernel
theorem dX1_hasDrum_16 : decode cX1_hasDrum 16 = .ok (.iconst 0, 1) := by decide +kernel
theorem dX1_hasDrum_17 : decode cX1_hasDrum 17 = .ok (.ireturn, 1) := by decide +kernel
theorem dX1_hasTraveller_0 : decode cX1_hasTraveller 0 = .ok (.iload_n 1, 1) := by decide +kernel
theorem dX1_hasTraveller_1 : decode cX1_hasTraveller 1 = .ok (.ifCond .lt 15, 3) := by decide +kernel
theorem dX1_hasTraveller_4 : decode cX1_hasTraveller 4 = .ok (.iload_n 1, 1) := by decide +kernel
theorem dX1_hasTraveller_5 : decode cX1_hasTraveller 5 = .ok (.aload_n 0, 1) := by decide +kernel
theorem dX1_hasTraveller_6 : decode cX1_hasTraveller 6 = .ok (.getfield 33, 3) := by decide +kernel
theorem dX1_hasTraveller_9 : decode cX1_hasTraveller 9 = .ok (.if_icmp .ge 7, 3) := by decide +kernel
theorem dX1_hasTraveller_12 : decode cX1_hasTraveller 12 = .ok (.iconst 1, 1) := by decide +kernel
theorem dX1_hasTraveller_13 : decode cX1_hasTraveller 13 = .ok (.goto 4, 3) := by decide +kernel
theorem dX1_hasTraveller_16 : decode cX1_hasTraveller 16 = .ok (.iconst 0, 1) := by decide +kernel
theorem dX1_hasTraveller_17 : decode cX1_hasTraveller 17 = .ok (.ireturn, 1) := by decide +kernel
theorem dX1_clear_0 : decode cX1_clear 0 = .ok (.aload_n 0, 1) := by decide +kernel
theorem dX1_clear_1 : decode cX1_clear 1 = .ok (.iconst 0, 1) := by decide +kernel
theorem dX1_clear_2 : decode cX1_clear 2 = .ok (.putfield 26, 3) := by decide +kernel
theorem dX1_clear_5 : decode cX1_clear 5 = .ok (.aload_n 0, 1) := by decide +kernel
theorem dX1_clear_6 : decode cX1_clear 6 = .ok (.iconst 0, 1) := by decide +kernel
theorem dX1_clear_7 : decode cX1_clear 7 = .ok (.putfield 36, 3) := by decide +kernel
theorem dX1_clear_10 : decode cX1_clear 10 = .ok (.aload_n 0, 1) := by decide +kernel
theorem dX1_clear_11 : decode cX1_clear 11 = .ok (.iconst 0, 1) := by decide +kernel
theorem dX1_clear_12 : decode cX1_clear 12 = .ok (.putfield 39, 3) := by decide +kernel
theorem dX1_clear_15 : decode cX1_clear 15 = .ok (.aload_n 0, 1) := by decide +kernel
theorem dX1_clear_16 : decode cX1_clear 16 = .ok (.iconst 0, 1) := by decide +kernel
theorem dX1_clear_17 : decode cX1_clear 17 = .ok (.putfield 30, 3) := by decide +kernel
theorem dX1_clear_20 : decode cX1_clear 20 = .ok (.aload_n 0, 1) := by decide +kernel
theorem dX1_clear_21 : decode cX1_clear 21 = .ok (.iconst 0, 1) := by decide +kernel
theorem dX1_clear_22 : decode cX1_clear 22 = .ok (.putfield 33, 3) := by decide +kernel
theorem dX1_clear_25 : decode cX1_clear 25 = .ok (.return_, 1) := by decide +kernel
theorem dX1_copyFrom_0 : decode cX1_copyFrom 0 = .ok (.aload_n 0, 1) := by decide +kernel
theorem dX1_copyFrom_1 : decode cX1_copyFrom 1 = .ok (.getfield 14, 3) := by decide +kernel
theorem dX1_copyFrom_4 : decode cX1_copyFrom 4 = .ok (.aload_n 1, 1) := by decide +kernel
theorem dX1_copyFrom_5 : decode cX1_copyFrom 5 = .ok (.getfield 14, 3) := by decide +kernel
theorem dX1_copyFrom_8 : decode cX1_copyFrom 8 = .ok (.invokevirtual 42, 3) := by decide +kernel
theorem dX1_copyFrom_11 : decode cX1_copyFrom 11 = .ok (.aload_n 0, 1) := by decide +kernel
theorem dX1_copyFrom_12 : decode cX1_copyFrom 12 = .ok (.getfield 20, 3) := by decide +kernel
theorem dX1_copyFrom_15 : decode cX1_copyFrom 15 = .ok (.aload_n 1, 1) := by decide +kernel
theorem dX1_copyFrom_16 : decode cX1_copyFrom 16 = .ok (.getfield 20, 3) := by decide +kernel
theorem dX1_copyFrom_19 : decode cX1_copyFrom 19 = .ok (.invokevirtual 42, 3) := by decide +kernel
theorem dX1_copyFrom_22 : decode cX1_copyFrom 22 = .ok (.aload_n 0, 1) := by decide +kernel
theorem dX1_copyFrom_23 : decode cX1_copyFrom 23 = .ok (.aload_n 1, 1) := by decide +kernel
theorem dX1_copyFrom_24 : decode cX1_copyFrom 24 = .ok (.getfield 26, 3) := by decide +kernel
theorem dX1_copyFrom_27 : decode cX1_copyFrom 27 = .ok (.putfield 26, 3) := by decide +kernel
theorem dX1_copyFrom_30 : decode cX1_copyFrom 30 = .ok (.aload_n 0, 1) := by decide +kernel
theorem dX1_copyFrom_31 : decode cX1_copyFrom 31 = .ok (.aload_n 1, 1) := by decide +kernel
theorem dX1_copyFrom_32 : decode cX1_copyFrom 32 = .ok (.getfield 36, 3) := by decide +kernel
theorem dX1_copyFrom_35 : decode cX1_copyFrom 35 = .ok (.putfield 36, 3) := by decide +kernel
theorem dX1_copyFrom_38 : decode cX1_copyFrom 38 = .ok (.aload_n 0, 1) := by decide +kernel
theorem dX1_copyFrom_39 : decode cX1_copyFrom 39 = .ok (.aload_n 1, 1) := by decide +kernel
theorem dX1_copyFrom_40 : decode cX1_copyFrom 40 = .ok (.getfield 39, 3) := by decide +kernel
theorem dX1_copyFrom_43 : decode cX1_copyFrom 43 = .ok (.putfield 39, 3) := by decide +kernel
theorem dX1_copyFrom_46 : decode cX1_copyFrom 46 = .ok (.aload_n 0, 1) := by decide +kernel
theorem dX1_copyFrom_47 : decode cX1_copyFrom 47 = .ok (.aload_n 1, 1) := by decide +kernel
theorem dX1_copyFrom_48 : decode cX1_copyFrom 48 = .ok (.getfield 30, 3) := by decide +kernel
theorem dX1_copyFrom_51 : decode cX1_copyFrom 51 = .ok (.putfield 30, 3) := by decide +kernel
theorem dX1_copyFrom_54 : decode cX1_copyFrom 54 = .ok (.aload_n 0, 1) := by decide +kernel
theorem dX1_copyFrom_55 : decode cX1_copyFrom 55 = .ok (.aload_n 1, 1) := by decide +kernel
theorem dX1_copyFrom_56 : decode cX1_copyFrom 56 = .ok (.getfield 33, 3) := by decide +kernel
theorem dX1_copyFrom_59 : decode cX1_copyFrom 59 = .ok (.putfield 33, 3) := by decide +kernel
theorem dX1_copyFrom_62 : decode cX1_copyFrom 62 = .ok (.return_, 1) := by decide +kernel
theorem dX1_linkPlaces_0 : decode cX1_linkPlaces 0 = .ok (.iconst 0, 1) := by decide +kernel
theorem dX1_linkPlaces_1 : decode cX1_linkPlaces 1 = .ok (.istore_n 1, 1) := by decide +kernel
theorem dX1_linkPlaces_2 : decode cX1_linkPlaces 2 = .ok (.iload_n 1, 1) := by decide +kernel
theorem dX1_linkPlaces_3 : decode cX1_linkPlaces 3 = .ok (.aload_n 0, 1) := by decide +kernel
theorem dX1_linkPlaces_4 : decode cX1_linkPlaces 4 = .ok (.getfield 26, 3) := by decide +kernel
theorem dX1_linkPlaces_7 : decode cX1_linkPlaces 7 = .ok (.if_icmp .ge 137, 3) := by decide +kernel
theorem dX1_linkPlaces_10 : decode cX1_linkPlaces 10 = .ok (.iload_n 1, 1) := by decide +kernel
theorem dX1_linkPlaces_11 : decode cX1_linkPlaces 11 = .ok (.aload_n 0, 1) := by decide +kernel
theorem dX1_linkPlaces_12 : decode cX1_linkPlaces 12 = .ok (.getfield 36, 3) := by decide +kernel
theorem dX1_linkPlaces_15 : decode cX1_linkPlaces 15 = .ok (.invokestatic 46, 3) := by decide +kernel
theorem dX1_linkPlaces_18 : decode cX1_linkPlaces 18 = .ok (.istore_n 2, 1) := by decide +kernel
theorem dX1_linkPlaces_19 : decode cX1_linkPlaces 19 = .ok (.aload_n 0, 1) := by decide +kernel
theorem dX1_linkPlaces_20 : decode cX1_linkPlaces 20 = .ok (.getfield 23, 3) := by decide +kernel
theorem dX1_linkPlaces_23 : decode cX1_linkPlaces 23 = .ok (.iload_n 1, 1) := by decide +kernel
theorem dX1_linkPlaces_24 : decode cX1_linkPlaces 24 = .ok (.iconst 4, 1) := by decide +kernel
theorem dX1_linkPlaces_25 : decode cX1_linkPlaces 25 = .ok (.imul, 1) := by decide +kernel
theorem dX1_linkPlaces_26 : decode cX1_linkPlaces 26 = .ok (.iload_n 1, 1) := by decide +kernel
theorem dX1_linkPlaces_27 : decode cX1_linkPlaces 27 = .ok (.aload_n 0, 1) := by decide +kernel
theorem dX1_linkPlaces_28 : decode cX1_linkPlaces 28 = .ok (.getfield 36, 3) := by decide +kernel
theorem dX1_linkPlaces_31 : decode cX1_linkPlaces 31 = .ok (.if_icmp .lt 12, 3) := by decide +kernel
theorem dX1_linkPlaces_34 : decode cX1_linkPlaces 34 = .ok (.iload_n 1, 1) := by decide +kernel
theorem dX1_linkPlaces_35 : decode cX1_linkPlaces 35 = .ok (.aload_n 0, 1) := by decide +kernel
theorem dX1_linkPlaces_36 : decode cX1_linkPlaces 36 = .ok (.getfield 36, 3) := by decide +kernel
theorem dX1_linkPlaces_39 : decode cX1_linkPlaces 39 = .ok (.isub, 1) := by decide +kernel
theorem dX1_linkPlaces_40 : decode cX1_linkPlaces 40 = .ok (.goto 5, 3) := by decide +kernel
theorem dX1_linkPlaces_43 : decode cX1_linkPlaces 43 = .ok (.bipush (-4), 2) := by decide +kernel
theorem dX1_linkPlaces_45 : decode cX1_linkPlaces 45 = .ok (.invokevirtual 50, 3) := by decide +kernel
theorem dX1_linkPlaces_48 : decode cX1_linkPlaces 48 = .ok (.aload_n 0, 1) := by decide +kernel
theorem dX1_linkPlaces_49 : decode cX1_linkPlaces 49 = .ok (.getfield 23, 3) := by decide +kernel
theorem dX1_linkPlaces_52 : decode cX1_linkPlaces 52 = .ok (.iload_n 1, 1) := by decide +kernel
theorem dX1_linkPlaces_53 : decode cX1_linkPlaces 53 = .ok (.iconst 4, 1) := by decide +kernel
theorem dX1_linkPlaces_54 : decode cX1_linkPlaces 54 = .ok (.imul, 1) := by decide +kernel
theorem dX1_linkPlaces_55 : decode cX1_linkPlaces 55 = .ok (.iconst 1, 1) := by decide +kernel
theorem dX1_linkPlaces_56 : decode cX1_linkPlaces 56 = .ok (.iadd, 1) := by decide +kernel
theorem dX1_linkPlaces_57 : decode cX1_linkPlaces 57 = .ok (.iload_n 2, 1) := by decide +kernel
theorem dX1_linkPlaces_58 : decode cX1_linkPlaces 58 = .ok (.ifCond .le 9, 3) := by decide +kernel
theorem dX1_linkPlaces_61 : decode cX1_linkPlaces 61 = .ok (.iload_n 1, 1) := by decide +kernel
theorem dX1_linkPlaces_62 : decode cX1_linkPlaces 62 = .ok (.iconst 1, 1) := by decide +kernel
theorem dX1_linkPlaces_63 : decode cX1_linkPlaces 63 = .ok (.isub, 1) := by decide +kernel
theorem dX1_linkPlaces_64 : decode cX1_linkPlaces 64 = .ok (.goto 5, 3) := by decide +kernel
theorem dX1_linkPlaces_67 : decode cX1_linkPlaces 67 = .ok (.bipush (-4), 2) := by decide +kernel
theorem dX1_linkPlaces_69 : decode cX1_linkPlaces 69 = .ok (.invokevirtual 50, 3) := by decide +kernel
theorem dX1_linkPlaces_72 : decode cX1_linkPlaces 72 = .ok (.aload_n 0, 1) := by decide +kernel
theorem dX1_linkPlaces_73 : decode cX1_linkPlaces 73 = .ok (.getfield 23, 3) := by decide +kernel
theorem dX1_linkPlaces_76 : decode cX1_linkPlaces 76 = .ok (.iload_n 1, 1) := by decide +kernel
theorem dX1_linkPlaces_77 : decode cX1_linkPlaces 77 = .ok (.iconst 4, 1) := by decide +kernel
theorem dX1_linkPlaces_78 : decode cX1_linkPlaces 78 = .ok (.imul, 1) := by decide +kernel
theorem dX1_linkPlaces_79 : decode cX1_linkPlaces 79 = .ok (.iconst 2, 1) := by decide +kernel
theorem dX1_linkPlaces_80 : decode cX1_linkPlaces 80 = .ok (.iadd, 1) := by decide +kernel
theorem dX1_linkPlaces_81 : decode cX1_linkPlaces 81 = .ok (.iload_n 2, 1) := by decide +kernel
theorem dX1_linkPlaces_82 : decode cX1_linkPlaces 82 = .ok (.iconst 1, 1) := by decide +kernel
theorem dX1_linkPlaces_83 : decode cX1_linkPlaces 83 = .ok (.iadd, 1) := by decide +kernel
theorem dX1_linkPlaces_84 : decode cX1_linkPlaces 84 = .ok (.aload_n 0, 1) := by decide +kernel
theorem dX1_linkPlaces_85 : decode cX1_linkPlaces 85 = .ok (.getfield 36, 3) := by decide +kernel
theorem dX1_linkPlaces_88 : decode cX1_linkPlaces 88 = .ok (.if_icmp .ge 9, 3) := by decide +kernel
theorem dX1_linkPlaces_91 : decode cX1_linkPlaces 91 = .ok (.iload_n 1, 1) := by decide +kernel
theorem dX1_linkPlaces_92 : decode cX1_linkPlaces 92 = .ok (.iconst 1, 1) := by decide +kernel
theorem dX1_linkPlaces_93 : decode cX1_linkPlaces 93 = .ok (.iadd, 1) := by decide +kernel
theorem dX1_linkPlaces_94 : decode cX1_linkPlaces 94 = .ok (.goto 5, 3) := by decide +kernel
theorem dX1_linkPlaces_97 : decode cX1_linkPlaces 97 = .ok (.bipush (-4), 2) := by decide +kernel
theorem dX1_linkPlaces_99 : decode cX1_linkPlaces 99 = .ok (.invokevirtual 50, 3) := by decide +kernel
theorem dX1_linkPlaces_102 : decode cX1_linkPlaces 102 = .ok (.aload_n 0, 1) := by decide +kernel
theorem dX1_linkPlaces_103 : decode cX1_linkPlaces 103 = .ok (.getfield 23, 3) := by decide +kernel
theorem dX1_linkPlaces_106 : decode cX1_linkPlaces 106 = .ok (.iload_n 1, 1) := by decide +kernel
theorem dX1_linkPlaces_107 : decode cX1_linkPlaces 107 = .ok (.iconst 4, 1) := by decide +kernel
theorem dX1_linkPlaces_108 : decode cX1_linkPlaces 108 = .ok (.imul, 1) := by decide +kernel
theorem dX1_linkPlaces_109 : decode cX1_linkPlaces 109 = .ok (.iconst 3, 1) := by decide +kernel
theorem dX1_linkPlaces_110 : decode cX1_linkPlaces 110 = .ok (.iadd, 1) := by decide +kernel
theorem dX1_linkPlaces_111 : decode cX1_linkPlaces 111 = .ok (.iload_n 1, 1) := by decide +kernel
theorem dX1_linkPlaces_112 : decode cX1_linkPlaces 112 = .ok (.aload_n 0, 1) := by decide +kernel
theorem dX1_linkPlaces_113 : decode cX1_linkPlaces 113 = .ok (.getfield 36, 3) := by decide +kernel
theorem dX1_linkPlaces_116 : decode cX1_linkPlaces 116 = .ok (.iadd, 1) := by decide +kernel
theorem dX1_linkPlaces_117 : decode cX1_linkPlaces 117 = .ok (.aload_n 0, 1) := by decide +kernel
theorem dX1_linkPlaces_118 : decode cX1_linkPlaces 118 = .ok (.getfield 26, 3) := by decide +kernel
theorem dX1_linkPlaces_121 : decode cX1_linkPlaces 121 = .ok (.if_icmp .ge 12, 3) := by decide +kernel
theorem dX1_linkPlaces_124 : decode cX1_linkPlaces 124 = .ok (.iload_n 1, 1) := by decide +kernel
theorem dX1_linkPlaces_125 : decode cX1_linkPlaces 125 = .ok (.aload_n 0, 1) := by decide +kernel
theorem dX1_linkPlaces_126 : decode cX1_linkPlaces 126 = .ok (.getfield 36, 3) := by decide +kernel
theorem dX1_linkPlaces_129 : decode cX1_linkPlaces 129 = .ok (.iadd, 1) := by decide +kernel
theorem dX1_linkPlaces_130 : decode cX1_linkPlaces 130 = .ok (.goto 5, 3) := by decide +kernel
theorem dX1_linkPlaces_133 : decode cX1_linkPlaces 133 = .ok (.bipush (-4), 2) := by decide +kernel
theorem dX1_linkPlaces_135 : decode cX1_linkPlaces 135 = .ok (.invokevirtual 50, 3) := by decide +kernel
theorem dX1_linkPlaces_138 : decode cX1_linkPlaces 138 = .ok (.iinc 1 1, 3) := by decide +kernel
theorem dX1_linkPlaces_141 : decode cX1_linkPlaces 141 = .ok (.goto (-139), 3) := by decide +kernel
theorem dX1_linkPlaces_144 : decode cX1_linkPlaces 144 = .ok (.return_, 1) := by decide +kernel
theorem dX2_init_0 : decode cX2_init 0 = .ok (.aload_n 0, 1) := by decide +kernel
theorem dX2_init_1 : decode cX2_init 1 = .ok (.invokespecial 3, 3) := by decide +kernel
theorem dX2_init_4 : decode cX2_init 4 = .ok (.aload_n 0, 1) := by decide +kernel
theorem dX2_init_5 : decode cX2_init 5 = .ok (.new 9, 3) := by decide +kernel
theorem dX2_init_8 : decode cX2_init 8 = .ok (.dup, 1) := by decide +kernel
theorem dX2_init_9 : decode cX2_init 9 = .ok (.invokespecial 11, 3) := by decide +kernel
theorem dX2_init_12 : decode cX2_init 12 = .ok (.putfield 12, 3) := by decide +kernel
theorem dX2_init_15 : decode cX2_init 15 = .ok (.aload_n 0, 1) := by decide +kernel
theorem dX2_init_16 : decode cX2_init 16 = .ok (.new 18, 3) := by decide +kernel
theorem dX2_init_19 : decode cX2_init 19 = .ok (.dup, 1) := by decide +kernel
theorem dX2_init_20 : decode cX2_init 20 = .ok (.invokespecial 20, 3) := by decide +kernel
theorem dX2_init_23 : decode cX2_init 23 = .ok (.putfield 21, 3) := by decide +kernel
theorem dX2_init_26 : decode cX2_init 26 = .ok (.aload_n 0, 1) := by decide +kernel
theorem dX2_init_27 : decode cX2_init 27 = .ok (.new 25, 3) := by decide +kernel
theorem dX2_init_30 : decode cX2_init 30 = .ok (.dup, 1) := by decide +kernel
theorem dX2_init_31 : decode cX2_init 31 = .ok (.iconst 3, 1) := by decide +kernel
theorem dX2_init_32 : decode cX2_init 32 = .ok (.invokespecial 27, 3) := by decide +kernel
theorem dX2_init_35 : decode cX2_init 35 = .ok (.putfield 30, 3) := by decide +kernel
theorem dX2_init_38 : decode cX2_init 38 = .ok (.return_, 1) := by decide +kernel
theorem dX2_firstFault_0 : decode cX2_firstFault 0 = .ok (.aload_n 0, 1) := by decide +kernel
theorem dX2_firstFault_1 : decode cX2_firstFault 1 = .ok (.getfield 12, 3) := by decide +kernel
theorem dX2_firstFault_4 : decode cX2_firstFault 4 = .ok (.invokevirtual 34, 3) := by decide +kernel
theorem dX2_firstFault_7 : decode cX2_firstFault 7 = .ok (.aload_n 0, 1) := by decide +kernel
theorem dX2_firstFault_8 : decode cX2_firstFault 8 = .ok (.getfield 21, 3) := by decide +kernel
theorem dX2_firstFault_11 : decode cX2_firstFault 11 = .ok (.invokevirtual 37, 3) := by decide +kernel
theorem dX2_firstFault_14 : decode cX2_firstFault 14 = .ok (.iconst 0, 1) := by decide +kernel
theorem dX2_firstFault_15 : decode cX2_firstFault 15 = .ok (.istore_n 2, 1) := by decide +kernel
theorem dX2_firstFault_16 : decode cX2_firstFault 16 = .ok (.iconst 0, 1) := by decide +kernel
theorem dX2_firstFault_17 : decode cX2_firstFault 17 = .ok (.istore_n 3, 1) := by decide +kernel
theorem dX2_firstFault_18 : decode cX2_firstFault 18 = .ok (.iload_n 3, 1) := by decide +kernel
theorem dX2_firstFault_19 : decode cX2_firstFault 19 = .ok (.sipush 200, 3) := by decide +kernel
theorem dX2_firstFault_22 : decode cX2_firstFault 22 = .ok (.if_icmp .ge 36, 3) := by decide +kernel
theorem dX2_firstFault_25 : decode cX2_firstFault 25 = .ok (.iload_n 2, 1) := by decide +kernel
theorem dX2_firstFault_26 : decode cX2_firstFault 26 = .ok (.aload_n 1, 1) := by decide +kernel
theorem dX2_firstFault_27 : decode cX2_firstFault 27 = .ok (.getfield 38, 3) := by decide +kernel
theorem dX2_firstFault_30 : decode cX2_firstFault 30 = .ok (.if_icmp .ge 28, 3) := by decide +kernel
theorem dX2_firstFault_33 : decode cX2_firstFault 33 = .ok (.aload_n 0, 1) := by decide +kernel
theorem dX2_firstFault_34 : decode cX2_firstFault 34 = .ok (.aload_n 1, 1) := by decide +kernel
theorem dX2_firstFault_35 : decode cX2_firstFault 35 = .ok (.iload_n 2, 1) := by decide +kernel
theorem dX2_firstFault_36 : decode cX2_firstFault 36 = .ok (.invokevirtual 44, 3) := by decide +kernel
theorem dX2_firstFault_39 : decode cX2_firstFault 39 = .ok (.istore 4, 2) := by decide +kernel
theorem dX2_firstFault_41 : decode cX2_firstFault 41 = .ok (.iload 4, 2) := by decide +kernel
theorem dX2_firstFault_43 : decode cX2_firstFault 43 = .ok (.iload_n 2, 1) := by decide +kernel
theorem dX2_firstFault_44 : decode cX2_firstFault 44 = .ok (.if_icmp .gt 5, 3) := by decide +kernel
theorem dX2_firstFault_47 : decode cX2_firstFault 47 = .ok (.iload_n 2, 1) := by decide +kernel
theorem dX2_firstFault_48 : decode cX2_firstFault 48 = .ok (.ireturn, 1) := by decide +kernel
theorem dX2_firstFault_49 : decode cX2_firstFault 49 = .ok (.iload 4, 2) := by decide +kernel
theorem dX2_firstFault_51 : decode cX2_firstFault 51 = .ok (.istore_n 2, 1) := by decide +kernel
theorem dX2_firstFault_52 : decode cX2_firstFault 52 = .ok (.iinc 3 1, 3) := by decide +kernel
theorem dX2_firstFault_55 : decode cX2_firstFault 55 = .ok (.goto (-37), 3) := by decide +kernel
theorem dX2_firstFault_58 : decode cX2_firstFault 58 = .ok (.bipush (-4), 2) := by decide +kernel
theorem dX2_firstFault_60 : decode cX2_firstFault 60 = .ok (.ireturn, 1) := by decide +kernel
theorem dX2_readItem_0 : decode cX2_readItem 0 = .ok (.aload_n 1, 1) := by decide +kernel
theorem dX2_readItem_1 : decode cX2_readItem 1 = .ok (.iload_n 2, 1) := by decide +kernel
theorem dX2_readItem_2 : decode cX2_readItem 2 = .ok (.invokevirtual 48, 3) := by decide +kernel
theorem dX2_readItem_5 : decode cX2_readItem 5 = .ok (.lookupswitch 96 #[(100, 60), (114, 51), (116, 78), (119, 87), (120, 69)], 51) := by decide +kernel
theorem dX2_readItem_56 : decode cX2_readItem 56 = .ok (.aload_n 0, 1) := by decide +kernel
theorem dX2_readItem_57 : decode cX2_readItem 57 = .ok (.aload_n 1, 1) := by decide +kernel
theorem dX2_readItem_58 : decode cX2_readItem 58 = .ok (.iload_n 2, 1) := by decide +kernel
theorem dX2_readItem_59 : decode cX2_readItem 59 = .ok (.iconst 1, 1) := by decide +kernel
theorem dX2_readItem_60 : decode cX2_readItem 60 = .ok (.iadd, 1) := by decide +kernel
theorem dX2_readItem_61 : decode cX2_readItem 61 = .ok (.invokevirtual 52, 3) := by decide +kernel
theorem dX2_readItem_64 : decode cX2_readItem 64 = .ok (.ireturn, 1) := by decide +kernel
theorem dX2_readItem_65 : decode cX2_readItem 65 = .ok (.aload_n 0, 1) := by decide +kernel
theorem dX2_readItem_66 : decode cX2_readItem 66 = .ok (.aload_n 1, 1) := by decide +kernel
theorem dX2_readItem_67 : decode cX2_readItem 67 = .ok (.iload_n 2, 1) := by decide +kernel
theorem dX2_readItem_68 : decode cX2_readItem 68 = .ok (.iconst 1, 1) := by decide +kernel
theorem dX2_readItem_69 : decode cX2_readItem 69 = .ok (.iadd, 1) := by decide +kernel
theorem dX2_readItem_70 : decode cX2_readItem 70 = .ok (.invokevirtual 55, 3) := by decide +kernel
theorem dX2_readItem_73 : decode cX2_readItem 73 = .ok (.ireturn, 1) := by decide +kernel
theorem dX2_readItem_74 : decode cX2_readItem 74 = .ok (.aload_n 0, 1) := by decide +kernel
theorem dX2_readItem_75 : decode cX2_readItem 75 = .ok (.aload_n 1, 1) := by decide +kernel
theorem dX2_readItem_76 : decode cX2_readItem 76 = .ok (.iload_n 2, 1) := by decide +kernel
theorem dX2_readItem_77 : decode cX2_readItem 77 = .ok (.iconst 1, 1) := by decide +kernel
theorem dX2_readItem_78 : decode cX2_readItem 78 = .ok (.iadd, 1) := by decide +kernel
theorem dX2_readItem_79 : decode cX2_readItem 79 = .ok (.invokevirtual 58, 3) := by decide +kernel
theorem dX2_readItem_82 : decode cX2_readItem 82 = .ok (.ireturn, 1) := by decide +kernel
theorem dX2_readItem_83 : decode cX2_readItem 83 = .ok (.aload_n 0, 1) := by decide +kernel
theorem dX2_readItem_84 : decode cX2_readItem 84 = .ok (.aload_n 1, 1) := by decide +kernel
theorem dX2_readItem_85 : decode cX2_readItem 85 = .ok (.iload_n 2, 1) := by decide +kernel
theorem dX2_readItem_86 : decode cX2_readItem 86 = .ok (.iconst 1, 1) := by decide +kernel
theorem dX2_readItem_87 : decode cX2_readItem 87 = .ok (.iadd, 1) := by decide +kernel
theorem dX2_readItem_88 : decode cX2_readItem 88 = .ok (.invokevirtual 61, 3) := by decide +kernel
theorem dX2_readItem_91 : decode cX2_readItem 91 = .ok (.ireturn, 1) := by decide +kernel
theorem dX2_readItem_92 : decode cX2_readItem 92 = .ok (.aload_n 0, 1) := by decide +kernel
theorem dX2_readItem_93 : decode cX2_readItem 93 = .ok (.aload_n 1, 1) := by decide +kernel
theorem dX2_readItem_94 : decode cX2_readItem 94 = .ok (.iload_n 2, 1) := by decide +kernel
theorem dX2_readItem_95 : decode cX2_readItem 95 = .ok (.iconst 1, 1) := by decide +kernel
theorem dX2_readItem_96 : decode cX2_readItem 96 = .ok (.iadd, 1) := by decide +kernel
theorem dX2_readItem_97 : decode cX2_readItem 97 = .ok (.invokevirtual 64, 3) := by decide +kernel
theorem dX2_readItem_100 : decode cX2_readItem 100 = .ok (.ireturn, 1) := by decide +kernel
theorem dX2_readItem_101 : decode cX2_readItem 101 = .ok (.iconst (-1), 1) := by decide +kernel
theorem dX2_readItem_102 : decode cX2_readItem 102 = .ok (.ireturn, 1) := by decide +kernel
theorem dX2_readRow_0 : decode cX2_readRow 0 = .ok (.iconst 0, 1) := by decide +kernel
theorem dX2_readRow_1 : decode cX2_readRow 1 = .ok (.istore_n 3, 1) := by decide +kernel
theorem dX2_readRow_2 : decode cX2_readRow 2 = .ok (.iload_n 3, 1) := by decide +kernel
theorem dX2_readRow_3 : decode cX2_readRow 3 = .ok (.bipush 6, 2) := by decide +kernel
theorem dX2_readRow_5 : decode cX2_readRow 5 = .ok (.if_icmp .ge 56, 3) := by decide +kernel
theorem dX2_readRow_8 : decode cX2_readRow 8 = .ok (.aload_n 1, 1) := by decide +kernel
theorem dX2_readRow_9 : decode cX2_readRow 9 = .ok (.iload_n 2, 1) := by decide +kernel
theorem dX2_readRow_10 : decode cX2_readRow 10 = .ok (.iload_n 3, 1) := by decide +kernel
theorem dX2_readRow_11 : decode cX2_readRow 11 = .ok (.iadd, 1) := by decide +kernel
theorem dX2_readRow_12 : decode cX2_readRow 12 = .ok (.invokevirtual 48, 3) := by decide +kernel
theorem dX2_readRow_15 : decode cX2_readRow 15 = .ok (.invokestatic 67, 3) := by decide +kernel
theorem dX2_readRow_18 : decode cX2_readRow 18 = .ok (.iconst 0, 1) := by decide +kernel
theorem dX2_readRow_19 : decode cX2_readRow 19 = .ok (.iconst 3, 1) := by decide +kernel
theorem dX2_readRow_20 : decode cX2_readRow 20 = .ok (.invokestatic 70, 3) := by decide +kernel
theorem dX2_readRow_23 : decode cX2_readRow 23 = .ok (.ifCond .eq 38, 3) := by decide +kernel
theorem dX2_readRow_26 : decode cX2_readRow 26 = .ok (.aload_n 0, 1) := by decide +kernel
theorem dX2_readRow_27 : decode cX2_readRow 27 = .ok (.getfield 12, 3) := by decide +kernel
theorem dX2_readRow_30 : decode cX2_readRow 30 = .ok (.getfield 74, 3) := by decide +kernel
theorem dX2_readRow_33 : decode cX2_readRow 33 = .ok (.aload_n 0, 1) := by decide +kernel
theorem dX2_readRow_34 : decode cX2_readRow 34 = .ok (.getfield 12, 3) := by decide +kernel
theorem dX2_readRow_37 : decode cX2_readRow 37 = .ok (.getfield 77, 3) := by decide +kernel
theorem dX2_readRow_40 : decode cX2_readRow 40 = .ok (.iload_n 3, 1) := by decide +kernel
theorem dX2_readRow_41 : decode cX2_readRow 41 = .ok (.iadd, 1) := by decide +kernel
theorem dX2_readRow_42 : decode cX2_readRow 42 = .ok (.aload_n 1, 1) := by decide +kernel
theorem dX2_readRow_43 : decode cX2_readRow 43 = .ok (.iload_n 2, 1) := by decide +kernel
theorem dX2_readRow_44 : decode cX2_readRow 44 = .ok (.iload_n 3, 1) := by decide +kernel
theorem dX2_readRow_45 : decode cX2_readRow 45 = .ok (.iadd, 1) := by decide +kernel
theorem dX2_readRow_46 : decode cX2_readRow 46 = .ok (.invokevirtual 48, 3) := by decide +kernel
theorem dX2_readRow_49 : decode cX2_readRow 49 = .ok (.invokestatic 67, 3) := by decide +kernel
theorem dX2_readRow_52 : decode cX2_readRow 52 = .ok (.invokevirtual 80, 3) := by decide +kernel
theorem dX2_readRow_55 : decode cX2_readRow 55 = .ok (.iinc 3 1, 3) := by decide +kernel
theorem dX2_readRow_58 : decode cX2_readRow 58 = .ok (.goto (-56), 3) := by decide +kernel
theorem dX2_readRow_61 : decode cX2_readRow 61 = .ok (.iload_n 3, 1) := by decide +kernel
theorem dX2_readRow_62 : decode cX2_readRow 62 = .ok (.ifCond .le 28, 3) := by decide +kernel
theorem dX2_readRow_65 : decode cX2_readRow 65 = .ok (.aload_n 0, 1) := by decide +kernel
theorem dX2_readRow_66 : decode cX2_readRow 66 = .ok (.getfield 12, 3) := by decide +kernel
theorem dX2_readRow_69 : decode cX2_readRow 69 = .ok (.getfield 84, 3) := by decide +kernel
theorem dX2_readRow_72 : decode cX2_readRow 72 = .ok (.ifCond .eq 14, 3) := by decide +kernel
theorem dX2_readRow_75 : decode cX2_readRow 75 = .ok (.iload_n 3, 1) := by decide +kernel
theorem dX2_readRow_76 : decode cX2_readRow 76 = .ok (.aload_n 0, 1) := by decide +kernel
theorem dX2_readRow_77 : decode cX2_readRow 77 = .ok (.getfield 12, 3) := by decide +kernel
theorem dX2_readRow_80 : decode cX2_readRow 80 = .ok (.getfield 87, 3) := by decide +kernel
theorem dX2_readRow_83 : decode cX2_readRow 83 = .ok (.if_icmp .ne 7, 3) := by decide +kernel
theorem dX2_readRow_86 : decode cX2_readRow 86 = .ok (.iconst 1, 1) := by decide +kernel
theorem dX2_readRow_87 : decode cX2_readRow 87 = .ok (.goto 4, 3) := by decide +kernel
theorem dX2_readRow_90 : decode cX2_readRow 90 = .ok (.iconst 0, 1) := by decide +kernel
theorem dX2_readRow_91 : decode cX2_readRow 91 = .ok (.istore 4, 2) := by decide +kernel
theorem dX2_readRow_93 : decode cX2_readRow 93 = .ok (.iload 4, 2) := by decide +kernel
theorem dX2_readRow_95 : decode cX2_readRow 95 = .ok (.ifCond .eq 27, 3) := by decide +kernel
theorem dX2_readRow_98 : decode cX2_readRow 98 = .ok (.aload_n 0, 1) := by decide +kernel
theorem dX2_readRow_99 : decode cX2_readRow 99 = .ok (.getfield 12, 3) := by decide +kernel
theorem dX2_readRow_102 : decode cX2_readRow 102 = .ok (.getfield 84, 3) := by decide +kernel
theorem dX2_readRow_105 : decode cX2_readRow 105 = .ok (.bipush 6, 2) := by decide +kernel
theorem dX2_readRow_107 : decode cX2_readRow 107 = .ok (.if_icmp .ge 15, 3) := by decide +kernel
theorem dX2_readRow_110 : decode cX2_readRow 110 = .ok (.aload_n 1, 1) := by decide +kernel
theorem dX2_readRow_111 : decode cX2_readRow 111 = .ok (.iload_n 2, 1) := by decide +kernel
theorem dX2_readRow_112 : decode cX2_readRow 112 = .ok (.iload_n 3, 1) := by decide +kernel
theorem dX2_readRow_113 : decode cX2_readRow 113 = .ok (.iadd, 1) := by decide +kernel
theorem dX2_readRow_114 : decode cX2_readRow 114 = .ok (.invokevirtual 48, 3) := by decide +kernel
theorem dX2_readRow_117 : decode cX2_readRow 117 = .ok (.bipush 59, 2) := by decide +kernel
theorem dX2_readRow_119 : decode cX2_readRow 119 = .ok (.if_icmp .eq 5, 3) := by decide +kernel
theorem dX2_readRow_122 : decode cX2_readRow 122 = .ok (.iconst (-1), 1) := by decide +kernel
theorem dX2_readRow_123 : decode cX2_readRow 123 = .ok (.ireturn, 1) := by decide +kernel
theorem dX2_readRow_124 : decode cX2_readRow 124 = .ok (.aload_n 0, 1) := by decide +kernel
theorem dX2_readRow_125 : decode cX2_readRow 125 = .ok (.getfield 12, 3) := by decide +kernel
theorem dX2_readRow_128 : decode cX2_readRow 128 = .ok (.iload_n 3, 1) := by decide +kernel
theorem dX2_readRow_129 : decode cX2_readRow 129 = .ok (.putfield 87, 3) := by decide +kernel
theorem dX2_readRow_132 : decode cX2_readRow 132 = .ok (.aload_n 0, 1) := by decide +kernel
theorem dX2_readRow_133 : decode cX2_readRow 133 = .ok (.getfield 12, 3) := by decide +kernel
theorem dX2_readRow_136 : decode cX2_readRow 136 = .ok (.dup, 1) := by decide +kernel
theorem dX2_readRow_137 : decode cX2_readRow 137 = .ok (.getfield 77, 3) := by decide +kernel
theorem dX2_readRow_140 : decode cX2_readRow 140 = .ok (.iload_n 3, 1) := by decide +kernel
theorem dX2_readRow_141 : decode cX2_readRow 141 = .ok (.iadd, 1) := by decide +kernel
theorem dX2_readRow_142 : decode cX2_readRow 142 = .ok (.putfield 77, 3) := by decide +kernel
theorem dX2_readRow_145 : decode cX2_readRow 145 = .ok (.aload_n 0, 1) := by decide +kernel
theorem dX2_readRow_146 : decode cX2_readRow 146 = .ok (.getfield 12, 3) := by decide +kernel
theorem dX2_readRow_149 : decode cX2_readRow 149 = .ok (.dup, 1) := by decide +kernel
theorem dX2_readRow_150 : decode cX2_readRow 150 = .ok (.getfield 84, 3) := by decide +kernel
theorem dX2_readRow_153 : decode cX2_readRow 153 = .ok (.iconst 1, 1) := by decide +kernel
theorem dX2_readRow_154 : decode cX2_readRow 154 = .ok (.iadd, 1) := by decide +kernel
theorem dX2_readRow_155 : decode cX2_readRow 155 = .ok (.putfield 84, 3) := by decide +kernel
theorem dX2_readRow_158 : decode cX2_readRow 158 = .ok (.iload_n 2, 1) := by decide +kernel
theorem dX2_readRow_159 : decode cX2_readRow 159 = .ok (.iload_n 3, 1) := by decide +kernel
theorem dX2_readRow_160 : decode cX2_readRow 160 = .ok (.iadd, 1) := by decide +kernel
theorem dX2_readRow_161 : decode cX2_readRow 161 = .ok (.iconst 1, 1) := by decide +kernel
theorem dX2_readRow_162 : decode cX2_readRow 162 = .ok (.iadd, 1) := by decide +kernel
theorem dX2_readRow_163 : decode cX2_readRow 163 = .ok (.ireturn, 1) := by decide +kernel
theorem dX2_readDrum_0 : decode cX2_readDrum 0 = .ok (.aload_n 0, 1) := by decide +kernel
theorem dX2_readDrum_1 : decode cX2_readDrum 1 = .ok (.aload_n 1, 1) := by decide +kernel
theorem dX2_readDrum_2 : decode cX2_readDrum 2 = .ok (.iload_n 2, 1) := by decide +kernel
theorem dX2_readDrum_3 : decode cX2_readDrum 3 = .ok (.iconst 1, 1) := by decide +kernel
theorem dX2_readDrum_4 : decode cX2_readDrum 4 = .ok (.invokevirtual 90, 3) := by decide +kernel
theorem dX2_readDrum_7 : decode cX2_readDrum 7 = .ok (.istore_n 3, 1) := by decide +kernel
theorem dX2_readDrum_8 : decode cX2_readDrum 8 = .ok (.aload_n 0, 1) := by decide +kernel
theorem dX2_readDrum_9 : decode cX2_readDrum 9 = .ok (.getfield 30, 3) := by decide +kernel
theorem dX2_readDrum_12 : decode cX2_readDrum 12 = .ok (.iconst 0, 1) := by decide +kernel
theorem dX2_readDrum_13 : decode cX2_readDrum 13 = .ok (.invokevirtual 94, 3) := by decide +kernel
theorem dX2_readDrum_16 : decode cX2_readDrum 16 = .ok (.istore 4, 2) := by decide +kernel
theorem dX2_readDrum_18 : decode cX2_readDrum 18 = .ok (.iload_n 3, 1) := by decide +kernel
theorem dX2_readDrum_19 : decode cX2_readDrum 19 = .ok (.iconst (-1), 1) := by decide +kernel
theorem dX2_readDrum_20 : decode cX2_readDrum 20 = .ok (.if_icmp .eq 20, 3) := by decide +kernel
theorem dX2_readDrum_23 : decode cX2_readDrum 23 = .ok (.iload 4, 2) := by decide +kernel
theorem dX2_readDrum_25 : decode cX2_readDrum 25 = .ok (.iconst 3, 1) := by decide +kernel
theorem dX2_readDrum_26 : decode cX2_readDrum 26 = .ok (.if_icmp .gt 14, 3) := by decide +kernel
theorem dX2_readDrum_29 : decode cX2_readDrum 29 = .ok (.aload_n 0, 1) := by decide +kernel
theorem dX2_readDrum_30 : decode cX2_readDrum 30 = .ok (.getfield 12, 3) := by decide +kernel
theorem dX2_readDrum_33 : decode cX2_readDrum 33 = .ok (.getfield 97, 3) := by decide +kernel
theorem dX2_readDrum_36 : decode cX2_readDrum 36 = .ok (.iconst 4, 1) := by decide +kernel
theorem dX2_readDrum_37 : decode cX2_readDrum 37 = .ok (.if_icmp .lt 5, 3) := by decide +kernel
theorem dX2_readDrum_40 : decode cX2_readDrum 40 = .ok (.iconst (-1), 1) := by decide +kernel
theorem dX2_readDrum_41 : decode cX2_readDrum 41 = .ok (.ireturn, 1) := by decide +kernel
theorem dX2_readDrum_42 : decode cX2_readDrum 42 = .ok (.aload_n 0, 1) := by decide +kernel
theorem dX2_readDrum_43 : decode cX2_readDrum 43 = .ok (.getfield 12, 3) := by decide +kernel
theorem dX2_readDrum_46 : decode cX2_readDrum 46 = .ok (.getfield 100, 3) := by decide +kernel
theorem dX2_readDrum_49 : decode cX2_readDrum 49 = .ok (.aload_n 0, 1) := by decide +kernel
theorem dX2_readDrum_50 : decode cX2_readDrum 50 = .ok (.getfield 12, 3) := by decide +kernel
theorem dX2_readDrum_53 : decode cX2_readDrum 53 = .ok (.getfield 97, 3) := by decide +kernel
theorem dX2_readDrum_56 : decode cX2_readDrum 56 = .ok (.iload 4, 2) := by decide +kernel
theorem dX2_readDrum_58 : decode cX2_readDrum 58 = .ok (.invokevirtual 80, 3) := by decide +kernel
theorem dX2_readDrum_61 : decode cX2_readDrum 61 = .ok (.aload_n 0, 1) := by decide +kernel
theorem dX2_readDrum_62 : decode cX2_readDrum 62 = .ok (.getfield 12, 3) := by decide +kernel
theorem dX2_readDrum_65 : decode cX2_readDrum 65 = .ok (.dup, 1) := by decide +kernel
theorem dX2_readDrum_66 : decode cX2_readDrum 66 = .ok (.getfield 97, 3) := by decide +kernel
theorem dX2_readDrum_69 : decode cX2_readDrum 69 = .ok (.iconst 1, 1) := by decide +kernel
theorem dX2_readDrum_70 : decode cX2_readDrum 70 = .ok (.iadd, 1) := by decide +kernel
theorem dX2_readDrum_71 : decode cX2_readDrum 71 = .ok (.putfield 97, 3) := by decide +kernel
theorem dX2_readDrum_74 : decode cX2_readDrum 74 = .ok (.iload_n 3, 1) := by decide +kernel
theorem dX2_readDrum_75 : decode cX2_readDrum 75 = .ok (.ireturn, 1) := by decide +kernel
theorem dX2_readTold_0 : decode cX2_readTold 0 = .ok (.aload_n 0, 1) := by decide +kernel
theorem dX2_readTold_1 : decode cX2_readTold 1 = .ok (.aload_n 1, 1) := by decide +kernel
theorem dX2_readTold_2 : decode cX2_readTold 2 = .ok (.iload_n 2, 1) := by decide +kernel
theorem dX2_readTold_3 : decode cX2_readTold 3 = .ok (.iconst 3, 1) := by decide +kernel
theorem dX2_readTold_4 : decode cX2_readTold 4 = .ok (.invokevirtual 90, 3) := by decide +kernel
theorem dX2_readTold_7 : decode cX2_readTold 7 = .ok (.istore_n 3, 1) := by decide +kernel
theorem dX2_readTold_8 : decode cX2_readTold 8 = .ok (.aload_n 0, 1) := by decide +kernel
theorem dX2_readTold_9 : decode cX2_readTold 9 = .ok (.getfield 30, 3) := by decide +kernel
theorem dX2_readTold_12 : decode cX2_readTold 12 = .ok (.iconst 0, 1) := by decide +kernel
theorem dX2_readTold_13 : decode cX2_readTold 13 = .ok (.invokevirtual 94, 3) := by decide +kernel
theorem dX2_readTold_16 : decode cX2_readTold 16 = .ok (.istore 4, 2) := by decide +kernel
theorem dX2_readTold_18 : decode cX2_readTold 18 = .ok (.aload_n 0, 1) := by decide +kernel
theorem dX2_readTold_19 : decode cX2_readTold 19 = .ok (.getfield 30, 3) := by decide +kernel
theorem dX2_readTold_22 : decode cX2_readTold 22 = .ok (.iconst 1, 1) := by decide +kernel
theorem dX2_readTold_23 : decode cX2_readTold 23 = .ok (.invokevirtual 94, 3) := by decide +kernel
theorem dX2_readTold_26 : decode cX2_readTold 26 = .ok (.istore 5, 2) := by decide +kernel
theorem dX2_readTold_28 : decode cX2_readTold 28 = .ok (.aload_n 0, 1) := by decide +kernel
theorem dX2_readTold_29 : decode cX2_readTold 29 = .ok (.getfield 30, 3) := by decide +kernel
theorem dX2_readTold_32 : decode cX2_readTold 32 = .ok (.iconst 2, 1) := by decide +kernel
theorem dX2_readTold_33 : decode cX2_readTold 33 = .ok (.invokevirtual 94, 3) := by decide +kernel
theorem dX2_readTold_36 : decode cX2_readTold 36 = .ok (.istore 6, 2) := by decide +kernel
theorem dX2_readTold_38 : decode cX2_readTold 38 = .ok (.iload_n 3, 1) := by decide +kernel
theorem dX2_readTold_39 : decode cX2_readTold 39 = .ok (.iconst (-1), 1) := by decide +kernel
theorem dX2_readTold_40 : decode cX2_readTold 40 = .ok (.if_icmp .eq 33, 3) := by decide +kernel
theorem dX2_readTold_43 : decode cX2_readTold 43 = .ok (.aload_n 0, 1) := by decide +kernel
theorem dX2_readTold_44 : decode cX2_readTold 44 = .ok (.getfield 12, 3) := by decide +kernel
theorem dX2_readTold_47 : decode cX2_readTold 47 = .ok (.iload 4, 2) := by decide +kernel
theorem dX2_readTold_49 : decode cX2_readTold 49 = .ok (.invokevirtual 103, 3) := by decide +kernel
theorem dX2_readTold_52 : decode cX2_readTold 52 = .ok (.ifCond .eq 21, 3) := by decide +kernel
theorem dX2_readTold_55 : decode cX2_readTold 55 = .ok (.aload_n 0, 1) := by decide +kernel
theorem dX2_readTold_56 : decode cX2_readTold 56 = .ok (.getfield 12, 3) := by decide +kernel
theorem dX2_readTold_59 : decode cX2_readTold 59 = .ok (.iload 5, 2) := by decide +kernel
theorem dX2_readTold_61 : decode cX2_readTold 61 = .ok (.invokevirtual 107, 3) := by decide +kernel
theorem dX2_readTold_64 : decode cX2_readTold 64 = .ok (.ifCond .eq 9, 3) := by decide +kernel
theorem dX2_readTold_67 : decode cX2_readTold 67 = .ok (.iload 6, 2) := by decide +kernel
theorem dX2_readTold_69 : decode cX2_readTold 69 = .ok (.iconst 3, 1) := by decide +kernel
theorem dX2_readTold_70 : decode cX2_readTold 70 = .ok (.if_icmp .le 5, 3) := by decide +kernel
theorem dX2_readTold_73 : decode cX2_readTold 73 = .ok (.iconst (-1), 1) := by decide +kernel
theorem dX2_readTold_74 : decode cX2_readTold 74 = .ok (.ireturn, 1) := by decide +kernel
theorem dX2_readTold_75 : decode cX2_readTold 75 = .ok (.aload_n 0, 1) := by decide +kernel
theorem dX2_readTold_76 : decode cX2_readTold 76 = .ok (.getfield 21, 3) := by decide +kernel
theorem dX2_readTold_79 : decode cX2_readTold 79 = .ok (.iload 4, 2) := by decide +kernel
theorem dX2_readTold_81 : decode cX2_readTold 81 = .ok (.iload 5, 2) := by decide +kernel
theorem dX2_readTold_83 : decode cX2_readTold 83 = .ok (.iload 6, 2) := by decide +kernel
theorem dX2_readTold_85 : decode cX2_readTold 85 = .ok (.invokevirtual 110, 3) := by decide +kernel
theorem dX2_readTold_88 : decode cX2_readTold 88 = .ok (.iload_n 3, 1) := by decide +kernel
theorem dX2_readTold_89 : decode cX2_readTold 89 = .ok (.ireturn, 1) := by decide +kernel
theorem dX2_readTraveller_0 : decode cX2_readTraveller 0 = .ok (.aload_n 0, 1) := by decide +kernel
theorem dX2_readTraveller_1 : decode cX2_readTraveller 1 = .ok (.aload_n 1, 1) := by decide +kernel
theorem dX2_readTraveller_2 : decode cX2_readTraveller 2 = .ok (.iload_n 2, 1) := by decide +kernel
theorem dX2_readTraveller_3 : decode cX2_readTraveller 3 = .ok (.iconst 3, 1) := by decide +kernel
theorem dX2_readTraveller_4 : decode cX2_readTraveller 4 = .ok (.invokevirtual 90, 3) := by decide +kernel
theorem dX2_readTraveller_7 : decode cX2_readTraveller 7 = .ok (.istore_n 3, 1) := by decide +kernel
theorem dX2_readTraveller_8 : decode cX2_readTraveller 8 = .ok (.aload_n 0, 1) := by decide +kernel
theorem dX2_readTraveller_9 : decode cX2_readTraveller 9 = .ok (.getfield 30, 3) := by decide +kernel
theorem dX2_readTraveller_12 : decode cX2_readTraveller 12 = .ok (.iconst 0, 1) := by decide +kernel
theorem dX2_readTraveller_13 : decode cX2_readTraveller 13 = .ok (.invokevirtual 94, 3) := by decide +kernel
theorem dX2_readTraveller_16 : decode cX2_readTraveller 16 = .ok (.istore 4, 2) := by decide +kernel
theorem dX2_readTraveller_18 : decode cX2_readTraveller 18 = .ok (.aload_n 0, 1) := by decide +kernel
theorem dX2_readTraveller_19 : decode cX2_readTraveller 19 = .ok (.getfield 30, 3) := by decide +kernel
theorem dX2_readTraveller_22 : decode cX2_readTraveller 22 = .ok (.iconst 1, 1) := by decide +kernel
theorem dX2_readTraveller_23 : decode cX2_readTraveller 23 = .ok (.invokevirtual 94, 3) := by decide +kernel
theorem dX2_readTraveller_26 : decode cX2_readTraveller 26 = .ok (.istore 5, 2) := by decide +kernel
theorem dX2_readTraveller_28 : decode cX2_readTraveller 28 = .ok (.aload_n 0, 1) := by decide +kernel
theorem dX2_readTraveller_29 : decode cX2_readTraveller 29 = .ok (.getfield 30, 3) := by decide +kernel
theorem dX2_readTraveller_32 : decode cX2_readTraveller 32 = .ok (.iconst 2, 1) := by decide +kernel
theorem dX2_readTraveller_33 : decode cX2_readTraveller 33 = .ok (.invokevirtual 94, 3) := by decide +kernel
theorem dX2_readTraveller_36 : decode cX2_readTraveller 36 = .ok (.istore 6, 2) := by decide +kernel
theorem dX2_readTraveller_38 : decode cX2_readTraveller 38 = .ok (.iload_n 3, 1) := by decide +kernel
theorem dX2_readTraveller_39 : decode cX2_readTraveller 39 = .ok (.iconst (-1), 1) := by decide +kernel
theorem dX2_readTraveller_40 : decode cX2_readTraveller 40 = .ok (.if_icmp .eq 39, 3) := by decide +kernel
theorem dX2_readTraveller_43 : decode cX2_readTraveller 43 = .ok (.aload_n 0, 1) := by decide +kernel
theorem dX2_readTraveller_44 : decode cX2_readTraveller 44 = .ok (.getfield 12, 3) := by decide +kernel
theorem dX2_readTraveller_47 : decode cX2_readTraveller 47 = .ok (.iload 4, 2) := by decide +kernel
theorem dX2_readTraveller_49 : decode cX2_readTraveller 49 = .ok (.invokevirtual 107, 3) := by decide +kernel
theorem dX2_readTraveller_52 : decode cX2_readTraveller 52 = .ok (.ifCond .eq 27, 3) := by decide +kernel
theorem dX2_readTraveller_55 : decode cX2_readTraveller 55 = .ok (.aload_n 0, 1) := by decide +kernel
theorem dX2_readTraveller_56 : decode cX2_readTraveller 56 = .ok (.getfield 12, 3) := by decide +kernel
theorem dX2_readTraveller_59 : decode cX2_readTraveller 59 = .ok (.iload 5, 2) := by decide +kernel
theorem dX2_readTraveller_61 : decode cX2_readTraveller 61 = .ok (.invokevirtual 107, 3) := by decide +kernel
theorem dX2_readTraveller_64 : decode cX2_readTraveller 64 = .ok (.ifCond .eq 15, 3) := by decide +kernel
theorem dX2_readTraveller_67 : decode cX2_readTraveller 67 = .ok (.aload_n 0, 1) := by decide +kernel
theorem dX2_readTraveller_68 : decode cX2_readTraveller 68 = .ok (.getfield 12, 3) := by decide +kernel
theorem dX2_readTraveller_71 : decode cX2_readTraveller 71 = .ok (.iload 6, 2) := by decide +kernel
theorem dX2_readTraveller_73 : decode cX2_readTraveller 73 = .ok (.invokevirtual 103, 3) := by decide +kernel
theorem dX2_readTraveller_76 : decode cX2_readTraveller 76 = .ok (.ifCond .ne 5, 3) := by decide +kernel
theorem dX2_readTraveller_79 : decode cX2_readTraveller 79 = .ok (.iconst (-1), 1) := by decide +kernel
theorem dX2_readTraveller_80 : decode cX2_readTraveller 80 = .ok (.ireturn, 1) := by decide +kernel
theorem dX2_readTraveller_81 : decode cX2_readTraveller 81 = .ok (.aload_n 0, 1) := by decide +kernel
theorem dX2_readTraveller_82 : decode cX2_readTraveller 82 = .ok (.getfield 12, 3) := by decide +kernel
theorem dX2_readTraveller_85 : decode cX2_readTraveller 85 = .ok (.getfield 114, 3) := by decide +kernel
theorem dX2_readTraveller_88 : decode cX2_readTraveller 88 = .ok (.iconst 4, 1) := by decide +kernel
theorem dX2_readTraveller_89 : decode cX2_readTraveller 89 = .ok (.if_icmp .lt 5, 3) := by decide +kernel
theorem dX2_readTraveller_92 : decode cX2_readTraveller 92 = .ok (.iconst (-1), 1) := by decide +kernel
theorem dX2_readTraveller_93 : decode cX2_readTraveller 93 = .ok (.ireturn, 1) := by decide +kernel
theorem dX2_readTraveller_94 : decode cX2_readTraveller 94 = .ok (.aload_n 0, 1) := by decide +kernel
theorem dX2_readTraveller_95 : decode cX2_readTraveller 95 = .ok (.getfield 21, 3) := by decide +kernel
theorem dX2_readTraveller_98 : decode cX2_readTraveller 98 = .ok (.aload_n 0, 1) := by decide +kernel
theorem dX2_readTraveller_99 : decode cX2_readTraveller 99 = .ok (.getfield 12, 3) := by decide +kernel
theorem dX2_readTraveller_102 : decode cX2_readTraveller 102 = .ok (.getfield 114, 3) := by decide +kernel
theorem dX2_readTraveller_105 : decode cX2_readTraveller 105 = .ok (.invokevirtual 117, 3) := by decide +kernel
theorem dX2_readTraveller_108 : decode cX2_readTraveller 108 = .ok (.iload 4, 2) := by decide +kernel
theorem dX2_readTraveller_110 : decode cX2_readTraveller 110 = .ok (.iload 5, 2) := by decide +kernel
theorem dX2_readTraveller_112 : decode cX2_readTraveller 112 = .ok (.iload 6, 2) := by decide +kernel
theorem dX2_readTraveller_114 : decode cX2_readTraveller 114 = .ok (.invokevirtual 121, 3) := by decide +kernel
theorem dX2_readTraveller_117 : decode cX2_readTraveller 117 = .ok (.aload_n 0, 1) := by decide +kernel
theorem dX2_readTraveller_118 : decode cX2_readTraveller 118 = .ok (.getfield 12, 3) := by decide +kernel
theorem dX2_readTraveller_121 : decode cX2_readTraveller 121 = .ok (.dup, 1) := by decide +kernel
theorem dX2_readTraveller_122 : decode cX2_readTraveller 122 = .ok (.getfield 114, 3) := by decide +kernel
theorem dX2_readTraveller_125 : decode cX2_readTraveller 125 = .ok (.iconst 1, 1) := by decide +kernel
theorem dX2_readTraveller_126 : decode cX2_readTraveller 126 = .ok (.iadd, 1) := by decide +kernel
theorem dX2_readTraveller_127 : decode cX2_readTraveller 127 = .ok (.putfield 114, 3) := by decide +kernel
theorem dX2_readTraveller_130 : decode cX2_readTraveller 130 = .ok (.iload_n 3, 1) := by decide +kernel
theorem dX2_readTraveller_131 : decode cX2_readTraveller 131 = .ok (.ireturn, 1) := by decide +kernel
theorem dX2_readWet_0 : decode cX2_readWet 0 = .ok (.aload_n 0, 1) := by decide +kernel
theorem dX2_readWet_1 : decode cX2_readWet 1 = .ok (.aload_n 1, 1) := by decide +kernel
theorem dX2_readWet_2 : decode cX2_readWet 2 = .ok (.iload_n 2, 1) := by decide +kernel
theorem dX2_readWet_3 : decode cX2_readWet 3 = .ok (.iconst 1, 1) := by decide +kernel
theorem dX2_readWet_4 : decode cX2_readWet 4 = .ok (.invokevirtual 90, 3) := by decide +kernel
theorem dX2_readWet_7 : decode cX2_readWet 7 = .ok (.istore_n 3, 1) := by decide +kernel
theorem dX2_readWet_8 : decode cX2_readWet 8 = .ok (.iload_n 3, 1) := by decide +kernel
theorem dX2_readWet_9 : decode cX2_readWet 9 = .ok (.iconst (-1), 1) := by decide +kernel
theorem dX2_readWet_10 : decode cX2_readWet 10 = .ok (.if_icmp .eq 15, 3) := by decide +kernel
theorem dX2_readWet_13 : decode cX2_readWet 13 = .ok (.aload_n 0, 1) := by decide +kernel
theorem dX2_readWet_14 : decode cX2_readWet 14 = .ok (.getfield 30, 3) := by decide +kernel
theorem dX2_readWet_17 : decode cX2_readWet 17 = .ok (.iconst 0, 1) := by decide +kernel
theorem dX2_readWet_18 : decode cX2_readWet 18 = .ok (.invokevirtual 94, 3) := by decide +kernel
theorem dX2_readWet_21 : decode cX2_readWet 21 = .ok (.iconst 3, 1) := by decide +kernel
theorem dX2_readWet_22 : decode cX2_readWet 22 = .ok (.if_icmp .le 5, 3) := by decide +kernel
theorem dX2_readWet_25 : decode cX2_readWet 25 = .ok (.iconst (-1), 1) := by decide +kernel
theorem dX2_readWet_26 : decode cX2_readWet 26 = .ok (.ireturn, 1) := by decide +kernel
theorem dX2_readWet_27 : decode cX2_readWet 27 = .ok (.aload_n 0, 1) := by decide +kernel
theorem dX2_readWet_28 : decode cX2_readWet 28 = .ok (.getfield 21, 3) := by decide +kernel
theorem dX2_readWet_31 : decode cX2_readWet 31 = .ok (.aload_n 0, 1) := by decide +kernel
theorem dX2_readWet_32 : decode cX2_readWet 32 = .ok (.getfield 30, 3) := by decide +kernel
theorem dX2_readWet_35 : decode cX2_readWet 35 = .ok (.iconst 0, 1) := by decide +kernel
theorem dX2_readWet_36 : decode cX2_readWet 36 = .ok (.invokevirtual 94, 3) := by decide +kernel
theorem dX2_readWet_39 : decode cX2_readWet 39 = .ok (.putfield 126, 3) := by decide +kernel
theorem dX2_readWet_42 : decode cX2_readWet 42 = .ok (.iload_n 3, 1) := by decide +kernel
theorem dX2_readWet_43 : decode cX2_readWet 43 = .ok (.ireturn, 1) := by decide +kernel
theorem dX2_readNumbers_0 : decode cX2_readNumbers 0 = .ok (.iload_n 2, 1) := by decide +kernel
theorem dX2_readNumbers_1 : decode cX2_readNumbers 1 = .ok (.istore 4, 2) := by decide +kernel
theorem dX2_readNumbers_3 : decode cX2_readNumbers 3 = .ok (.iconst 0, 1) := by decide +kernel
theorem dX2_readNumbers_4 : decode cX2_readNumbers 4 = .ok (.istore 5, 2) := by decide +kernel
theorem dX2_readNumbers_6 : decode cX2_readNumbers 6 = .ok (.iload 5, 2) := by decide +kernel
theorem dX2_readNumbers_8 : decode cX2_readNumbers 8 = .ok (.iload_n 3, 1) := by decide +kernel
theorem dX2_readNumbers_9 : decode cX2_readNumbers 9 = .ok (.if_icmp .ge 101, 3) := by decide +kernel
theorem dX2_readNumbers_12 : decode cX2_readNumbers 12 = .ok (.aload_n 1, 1) := by decide +kernel
theorem dX2_readNumbers_13 : decode cX2_readNumbers 13 = .ok (.iload 4, 2) := by decide +kernel
theorem dX2_readNumbers_15 : decode cX2_readNumbers 15 = .ok (.invokevirtual 48, 3) := by decide +kernel
theorem dX2_readNumbers_18 : decode cX2_readNumbers 18 = .ok (.invokestatic 67, 3) := by decide +kernel
theorem dX2_readNumbers_21 : decode cX2_readNumbers 21 = .ok (.istore 6, 2) := by decide +kernel
theorem dX2_readNumbers_23 : decode cX2_readNumbers 23 = .ok (.iload 6, 2) := by decide +kernel
theorem dX2_readNumbers_25 : decode cX2_readNumbers 25 = .ok (.iconst (-1), 1) := by decide +kernel
theorem dX2_readNumbers_26 : decode cX2_readNumbers 26 = .ok (.if_icmp .ne 5, 3) := by decide +kernel
theorem dX2_readNumbers_29 : decode cX2_readNumbers 29 = .ok (.iconst (-1), 1) := by decide +kernel
theorem dX2_readNumbers_30 : decode cX2_readNumbers 30 = .ok (.ireturn, 1) := by decide +kernel
theorem dX2_readNumbers_31 : decode cX2_readNumbers 31 = .ok (.iinc 4 1, 3) := by decide +kernel
theorem dX2_readNumbers_34 : decode cX2_readNumbers 34 = .ok (.aload_n 1, 1) := by decide +kernel
theorem dX2_readNumbers_35 : decode cX2_readNumbers 35 = .ok (.iload 4, 2) := by decide +kernel
theorem dX2_readNumbers_37 : decode cX2_readNumbers 37 = .ok (.invokevirtual 48, 3) := by decide +kernel
theorem dX2_readNumbers_40 : decode cX2_readNumbers 40 = .ok (.invokestatic 67, 3) := by decide +kernel
theorem dX2_readNumbers_43 : decode cX2_readNumbers 43 = .ok (.istore 7, 2) := by decide +kernel
theorem dX2_readNumbers_45 : decode cX2_readNumbers 45 = .ok (.iload 7, 2) := by decide +kernel
theorem dX2_readNumbers_47 : decode cX2_readNumbers 47 = .ok (.iconst (-1), 1) := by decide +kernel
theorem dX2_readNumbers_48 : decode cX2_readNumbers 48 = .ok (.if_icmp .eq 16, 3) := by decide +kernel
theorem dX2_readNumbers_51 : decode cX2_readNumbers 51 = .ok (.iload 6, 2) := by decide +kernel
theorem dX2_readNumbers_53 : decode cX2_readNumbers 53 = .ok (.bipush 10, 2) := by decide +kernel
theorem dX2_readNumbers_55 : decode cX2_readNumbers 55 = .ok (.imul, 1) := by decide +kernel
theorem dX2_readNumbers_56 : decode cX2_readNumbers 56 = .ok (.iload 7, 2) := by decide +kernel
theorem dX2_readNumbers_58 : decode cX2_readNumbers 58 = .ok (.iadd, 1) := by decide +kernel
theorem dX2_readNumbers_59 : decode cX2_readNumbers 59 = .ok (.istore 6, 2) := by decide +kernel
theorem dX2_readNumbers_61 : decode cX2_readNumbers 61 = .ok (.iinc 4 1, 3) := by decide +kernel
theorem dX2_readNumbers_64 : decode cX2_readNumbers 64 = .ok (.aload_n 1, 1) := by decide +kernel
theorem dX2_readNumbers_65 : decode cX2_readNumbers 65 = .ok (.iload 4, 2) := by decide +kernel
theorem dX2_readNumbers_67 : decode cX2_readNumbers 67 = .ok (.invokevirtual 48, 3) := by decide +kernel
theorem dX2_readNumbers_70 : decode cX2_readNumbers 70 = .ok (.iload 5, 2) := by decide +kernel
theorem dX2_readNumbers_72 : decode cX2_readNumbers 72 = .ok (.iconst 1, 1) := by decide +kernel
theorem dX2_readNumbers_73 : decode cX2_readNumbers 73 = .ok (.iadd, 1) := by decide +kernel
theorem dX2_readNumbers_74 : decode cX2_readNumbers 74 = .ok (.iload_n 3, 1) := by decide +kernel
theorem dX2_readNumbers_75 : decode cX2_readNumbers 75 = .ok (.if_icmp .ge 8, 3) := by decide +kernel
theorem dX2_readNumbers_78 : decode cX2_readNumbers 78 = .ok (.bipush 44, 2) := by decide +kernel
theorem dX2_readNumbers_80 : decode cX2_readNumbers 80 = .ok (.goto 5, 3) := by decide +kernel
theorem dX2_readNumbers_83 : decode cX2_readNumbers 83 = .ok (.bipush 59, 2) := by decide +kernel
theorem dX2_readNumbers_85 : decode cX2_readNumbers 85 = .ok (.if_icmp .eq 5, 3) := by decide +kernel
theorem dX2_readNumbers_88 : decode cX2_readNumbers 88 = .ok (.iconst (-1), 1) := by decide +kernel
theorem dX2_readNumbers_89 : decode cX2_readNumbers 89 = .ok (.ireturn, 1) := by decide +kernel
theorem dX2_readNumbers_90 : decode cX2_readNumbers 90 = .ok (.iinc 4 1, 3) := by decide +kernel
theorem dX2_readNumbers_93 : decode cX2_readNumbers 93 = .ok (.aload_n 0, 1) := by decide +kernel
theorem dX2_readNumbers_94 : decode cX2_readNumbers 94 = .ok (.getfield 30, 3) := by decide +kernel
theorem dX2_readNumbers_97 : decode cX2_readNumbers 97 = .ok (.iload 5, 2) := by decide +kernel
theorem dX2_readNumbers_99 : decode cX2_readNumbers 99 = .ok (.iload 6, 2) := by decide +kernel
theorem dX2_readNumbers_101 : decode cX2_readNumbers 101 = .ok (.invokevirtual 80, 3) := by decide +kernel
theorem dX2_readNumbers_104 : decode cX2_readNumbers 104 = .ok (.iinc 5 1, 3) := by decide +kernel
theorem dX2_readNumbers_107 : decode cX2_readNumbers 107 = .ok (.goto (-101), 3) := by decide +kernel
theorem dX2_readNumbers_110 : decode cX2_readNumbers 110 = .ok (.iload 4, 2) := by decide +kernel
theorem dX2_readNumbers_112 : decode cX2_readNumbers 112 = .ok (.ireturn, 1) := by decide +kernel
theorem dX3_init_0 : decode cX3_init 0 = .ok (.aload_n 0, 1) := by decide +kernel
theorem dX3_init_1 : decode cX3_init 1 = .ok (.invokespecial 1, 3) := by decide +kernel
theorem dX3_init_4 : decode cX3_init 4 = .ok (.aload_n 0, 1) := by decide +kernel
theorem dX3_init_5 : decode cX3_init 5 = .ok (.iload_n 1, 1) := by decide +kernel
theorem dX3_init_6 : decode cX3_init 6 = .ok (.ifCond .le 7, 3) := by decide +kernel
theorem dX3_init_9 : decode cX3_init 9 = .ok (.iload_n 1, 1) := by decide +kernel
theorem dX3_init_10 : decode cX3_init 10 = .ok (.goto 4, 3) := by decide +kernel
theorem dX3_init_13 : decode cX3_init 13 = .ok (.iconst 0, 1) := by decide +kernel
theorem dX3_init_14 : decode cX3_init 14 = .ok (.newarray .int, 2) := by decide +kernel
theorem dX3_init_16 : decode cX3_init 16 = .ok (.putfield 7, 3) := by decide +kernel
theorem dX3_init_19 : decode cX3_init 19 = .ok (.return_, 1) := by decide +kernel
theorem dX3_at_0 : decode cX3_at 0 = .ok (.iload_n 1, 1) := by decide +kernel
theorem dX3_at_1 : decode cX3_at 1 = .ok (.ifCond .lt 21, 3) := by decide +kernel
theorem dX3_at_4 : decode cX3_at 4 = .ok (.iload_n 1, 1) := by decide +kernel
theorem dX3_at_5 : decode cX3_at 5 = .ok (.aload_n 0, 1) := by decide +kernel
theorem dX3_at_6 : decode cX3_at 6 = .ok (.getfield 7, 3) := by decide +kernel
theorem dX3_at_9 : decode cX3_at 9 = .ok (.arraylength, 1) := by decide +kernel
theorem dX3_at_10 : decode cX3_at 10 = .ok (.if_icmp .ge 12, 3) := by decide +kernel
theorem dX3_at_13 : decode cX3_at 13 = .ok (.aload_n 0, 1) := by decide +kernel
theorem dX3_at_14 : decode cX3_at 14 = .ok (.getfield 7, 3) := by decide +kernel
theorem dX3_at_17 : decode cX3_at 17 = .ok (.iload_n 1, 1) := by decide +kernel
theorem dX3_at_18 : decode cX3_at 18 = .ok (.iaload, 1) := by decide +kernel
theorem dX3_at_19 : decode cX3_at 19 = .ok (.goto 4, 3) := by decide +kernel
theorem dX3_at_22 : decode cX3_at 22 = .ok (.iconst 0, 1) := by decide +kernel
theorem dX3_at_23 : decode cX3_at 23 = .ok (.ireturn, 1) := by decide +kernel
theorem dX3_put_0 : decode cX3_put 0 = .ok (.iload_n 1, 1) := by decide +kernel
theorem dX3_put_1 : decode cX3_put 1 = .ok (.ifCond .lt 19, 3) := by decide +kernel
theorem dX3_put_4 : decode cX3_put 4 = .ok (.iload_n 1, 1) := by decide +kernel
theorem dX3_put_5 : decode cX3_put 5 = .ok (.aload_n 0, 1) := by decide +kernel
theorem dX3_put_6 : decode cX3_put 6 = .ok (.getfield 7, 3) := by decide +kernel
theorem dX3_put_9 : decode cX3_put 9 = .ok (.arraylength, 1) := by decide +kernel
theorem dX3_put_10 : decode cX3_put 10 = .ok (.if_icmp .ge 10, 3) := by decide +kernel
theorem dX3_put_13 : decode cX3_put 13 = .ok (.aload_n 0, 1) := by decide +kernel
theorem dX3_put_14 : decode cX3_put 14 = .ok (.getfield 7, 3) := by decide +kernel
theorem dX3_put_17 : decode cX3_put 17 = .ok (.iload_n 1, 1) := by decide +kernel
theorem dX3_put_18 : decode cX3_put 18 = .ok (.iload_n 2, 1) := by decide +kernel
theorem dX3_put_19 : decode cX3_put 19 = .ok (.iastore, 1) := by decide +kernel
theorem dX3_put_20 : decode cX3_put 20 = .ok (.return_, 1) := by decide +kernel
theorem dX3_fill_0 : decode cX3_fill 0 = .ok (.iconst 0, 1) := by decide +kernel
theorem dX3_fill_1 : decode cX3_fill 1 = .ok (.istore_n 2, 1) := by decide +kernel
theorem dX3_fill_2 : decode cX3_fill 2 = .ok (.iload_n 2, 1) := by decide +kernel
theorem dX3_fill_3 : decode cX3_fill 3 = .ok (.aload_n 0, 1) := by decide +kernel
theorem dX3_fill_4 : decode cX3_fill 4 = .ok (.getfield 7, 3) := by decide +kernel
theorem dX3_fill_7 : decode cX3_fill 7 = .ok (.arraylength, 1) := by decide +kernel
theorem dX3_fill_8 : decode cX3_fill 8 = .ok (.if_icmp .ge 16, 3) := by decide +kernel
theorem dX3_fill_11 : decode cX3_fill 11 = .ok (.aload_n 0, 1) := by decide +kernel
theorem dX3_fill_12 : decode cX3_fill 12 = .ok (.getfield 7, 3) := by decide +kernel
theorem dX3_fill_15 : decode cX3_fill 15 = .ok (.iload_n 2, 1) := by decide +kernel
theorem dX3_fill_16 : decode cX3_fill 16 = .ok (.iload_n 1, 1) := by decide +kernel
theorem dX3_fill_17 : decode cX3_fill 17 = .ok (.iastore, 1) := by decide +kernel
theorem dX3_fill_18 : decode cX3_fill 18 = .ok (.iinc 2 1, 3) := by decide +kernel
theorem dX3_fill_21 : decode cX3_fill 21 = .ok (.goto (-19), 3) := by decide +kernel
theorem dX3_fill_24 : decode cX3_fill 24 = .ok (.return_, 1) := by decide +kernel
theorem dX3_copyFrom_0 : decode cX3_copyFrom 0 = .ok (.aload_n 1, 1) := by decide +kernel
theorem dX3_copyFrom_1 : decode cX3_copyFrom 1 = .ok (.getfield 7, 3) := by decide +kernel
theorem dX3_copyFrom_4 : decode cX3_copyFrom 4 = .ok (.iconst 0, 1) := by decide +kernel
theorem dX3_copyFrom_5 : decode cX3_copyFrom 5 = .ok (.aload_n 0, 1) := by decide +kernel
theorem dX3_copyFrom_6 : decode cX3_copyFrom 6 = .ok (.getfield 7, 3) := by decide +kernel
theorem dX3_copyFrom_9 : decode cX3_copyFrom 9 = .ok (.iconst 0, 1) := by decide +kernel
theorem dX3_copyFrom_10 : decode cX3_copyFrom 10 = .ok (.aload_n 0, 1) := by decide +kernel
theorem dX3_copyFrom_11 : decode cX3_copyFrom 11 = .ok (.getfield 7, 3) := by decide +kernel
theorem dX3_copyFrom_14 : decode cX3_copyFrom 14 = .ok (.arraylength, 1) := by decide +kernel
theorem dX3_copyFrom_15 : decode cX3_copyFrom 15 = .ok (.aload_n 1, 1) := by decide +kernel
theorem dX3_copyFrom_16 : decode cX3_copyFrom 16 = .ok (.getfield 7, 3) := by decide +kernel
theorem dX3_copyFrom_19 : decode cX3_copyFrom 19 = .ok (.arraylength, 1) := by decide +kernel
theorem dX3_copyFrom_20 : decode cX3_copyFrom 20 = .ok (.invokestatic 13, 3) := by decide +kernel
theorem dX3_copyFrom_23 : decode cX3_copyFrom 23 = .ok (.invokestatic 19, 3) := by decide +kernel
theorem dX3_copyFrom_26 : decode cX3_copyFrom 26 = .ok (.return_, 1) := by decide +kernel
theorem dX4_init_0 : decode cX4_init 0 = .ok (.aload_n 0, 1) := by decide +kernel
theorem dX4_init_1 : decode cX4_init 1 = .ok (.invokespecial 1, 3) := by decide +kernel
theorem dX4_init_4 : decode cX4_init 4 = .ok (.aload_n 0, 1) := by decide +kernel
theorem dX4_init_5 : decode cX4_init 5 = .ok (.iload_n 1, 1) := by decide +kernel
theorem dX4_init_6 : decode cX4_init 6 = .ok (.ifCond .le 7, 3) := by decide +kernel
theorem dX4_init_9 : decode cX4_init 9 = .ok (.iload_n 1, 1) := by decide +kernel
theorem dX4_init_10 : decode cX4_init 10 = .ok (.goto 4, 3) := by decide +kernel
theorem dX4_init_13 : decode cX4_init 13 = .ok (.iconst 0, 1) := by decide +kernel
theorem dX4_init_14 : decode cX4_init 14 = .ok (.anewarray 7, 3) := by decide +kernel
theorem dX4_init_17 : decode cX4_init 17 = .ok (.putfield 9, 3) := by decide +kernel
theorem dX4_init_20 : decode cX4_init 20 = .ok (.iconst 0, 1) := by decide +kernel
theorem dX4_init_21 : decode cX4_init 21 = .ok (.istore_n 2, 1) := by decide +kernel
theorem dX4_init_22 : decode cX4_init 22 = .ok (.iload_n 2, 1) := by decide +kernel
theorem dX4_init_23 : decode cX4_init 23 = .ok (.aload_n 0, 1) := by decide +kernel
theorem dX4_init_24 : decode cX4_init 24 = .ok (.getfield 9, 3) := by decide +kernel
theorem dX4_init_27 : decode cX4_init 27 = .ok (.arraylength, 1) := by decide +kernel
theorem dX4_init_28 : decode cX4_init 28 = .ok (.if_icmp .ge 22, 3) := by decide +kernel
theorem dX4_init_31 : decode cX4_init 31 = .ok (.aload_n 0, 1) := by decide +kernel
theorem dX4_init_32 : decode cX4_init 32 = .ok (.getfield 9, 3) := by decide +kernel
theorem dX4_init_35 : decode cX4_init 35 = .ok (.iload_n 2, 1) := by decide +kernel
theorem dX4_init_36 : decode cX4_init 36 = .ok (.new 7, 3) := by decide +kernel
theorem dX4_init_39 : decode cX4_init 39 = .ok (.dup, 1) := by decide +kernel
theorem dX4_init_40 : decode cX4_init 40 = .ok (.invokespecial 15, 3) := by decide +kernel
theorem dX4_init_43 : decode cX4_init 43 = .ok (.aastore, 1) := by decide +kernel
theorem dX4_init_44 : decode cX4_init 44 = .ok (.iinc 2 1, 3) := by decide +kernel
theorem dX4_init_47 : decode cX4_init 47 = .ok (.goto (-25), 3) := by decide +kernel
theorem dX4_init_50 : decode cX4_init 50 = .ok (.return_, 1) := by decide +kernel
theorem dX4_isFull_0 : decode cX4_isFull 0 = .ok (.aload_n 0, 1) := by decide +kernel
theorem dX4_isFull_1 : decode cX4_isFull 1 = .ok (.getfield 16, 3) := by decide +kernel
theorem dX4_isFull_4 : decode cX4_isFull 4 = .ok (.aload_n 0, 1) := by decide +kernel
theorem dX4_isFull_5 : decode cX4_isFull 5 = .ok (.getfield 9, 3) := by decide +kernel
theorem dX4_isFull_8 : decode cX4_isFull 8 = .ok (.arraylength, 1) := by decide +kernel
theorem dX4_isFull_9 : decode cX4_isFull 9 = .ok (.if_icmp .lt 7, 3) := by decide +kernel
theorem dX4_isFull_12 : decode cX4_isFull 12 = .ok (.iconst 1, 1) := by decide +kernel
theorem dX4_isFull_13 : decode cX4_isFull 13 = .ok (.goto 4, 3) := by decide +kernel
theorem dX4_isFull_16 : decode cX4_isFull 16 = .ok (.iconst 0, 1) := by decide +kernel
theorem dX4_isFull_17 : decode cX4_isFull 17 = .ok (.ireturn, 1) := by decide +kernel
theorem dX4_add_0 : decode cX4_add 0 = .ok (.aload_n 0, 1) := by decide +kernel
theorem dX4_add_1 : decode cX4_add 1 = .ok (.invokevirtual 20, 3) := by decide +kernel
theorem dX4_add_4 : decode cX4_add 4 = .ok (.ifCond .eq 7, 3) := by decide +kernel
theorem dX4_add_7 : decode cX4_add 7 = .ok (.aload_n 0, 1) := by decide +kernel
theorem dX4_add_8 : decode cX4_add 8 = .ok (.invokevirtual 24, 3) := by decide +kernel
theorem dX4_add_11 : decode cX4_add 11 = .ok (.aload_n 0, 1) := by decide +kernel
theorem dX4_add_12 : decode cX4_add 12 = .ok (.getfield 16, 3) := by decide +kernel
theorem dX4_add_15 : decode cX4_add 15 = .ok (.ifCond .lt 38, 3) := by decide +kernel
theorem dX4_add_18 : decode cX4_add 18 = .ok (.aload_n 0, 1) := by decide +kernel
theorem dX4_add_19 : decode cX4_add 19 = .ok (.getfield 16, 3) := by decide +kernel
theorem dX4_add_22 : decode cX4_add 22 = .ok (.aload_n 0, 1) := by decide +kernel
theorem dX4_add_23 : decode cX4_add 23 = .ok (.getfield 9, 3) := by decide +kernel
theorem dX4_add_26 : decode cX4_add 26 = .ok (.arraylength, 1) := by decide +kernel
theorem dX4_add_27 : decode cX4_add 27 = .ok (.if_icmp .ge 26, 3) := by decide +kernel
theorem dX4_add_30 : decode cX4_add 30 = .ok (.aload_n 0, 1) := by decide +kernel
theorem dX4_add_31 : decode cX4_add 31 = .ok (.getfield 9, 3) := by decide +kernel
theorem dX4_add_34 : decode cX4_add 34 = .ok (.aload_n 0, 1) := by decide +kernel
theorem dX4_add_35 : decode cX4_add 35 = .ok (.getfield 16, 3) := by decide +kernel
theorem dX4_add_38 : decode cX4_add 38 = .ok (.aaload, 1) := by decide +kernel
theorem dX4_add_39 : decode cX4_add 39 = .ok (.aload_n 1, 1) := by decide +kernel
theorem dX4_add_40 : decode cX4_add 40 = .ok (.invokevirtual 27, 3) := by decide +kernel
theorem dX4_add_43 : decode cX4_add 43 = .ok (.aload_n 0, 1) := by decide +kernel
theorem dX4_add_44 : decode cX4_add 44 = .ok (.dup, 1) := by decide +kernel
theorem dX4_add_45 : decode cX4_add 45 = .ok (.getfield 16, 3) := by decide +kernel
theorem dX4_add_48 : decode cX4_add 48 = .ok (.iconst 1, 1) := by decide +kernel
theorem dX4_add_49 : decode cX4_add 49 = .ok (.iadd, 1) := by decide +kernel
theorem dX4_add_50 : decode cX4_add 50 = .ok (.putfield 16, 3) := by decide +kernel
theorem dX4_add_53 : decode cX4_add 53 = .ok (.return_, 1) := by decide +kernel
theorem dX4_dropLowest_0 : decode cX4_dropLowest 0 = .ok (.aload_n 0, 1) := by decide +kernel
theorem dX4_dropLowest_1 : decode cX4_dropLowest 1 = .ok (.getfield 9, 3) := by decide +kernel
theorem dX4_dropLowest_4 : decode cX4_dropLowest 4 = .ok (.arraylength, 1) := by decide +kernel
theorem dX4_dropLowest_5 : decode cX4_dropLowest 5 = .ok (.ifCond .ne 4, 3) := by decide +kernel
theorem dX4_dropLowest_8 : decode cX4_dropLowest 8 = .ok (.return_, 1) := by decide +kernel
theorem dX4_dropLowest_9 : decode cX4_dropLowest 9 = .ok (.aload_n 0, 1) := by decide +kernel
theorem dX4_dropLowest_10 : decode cX4_dropLowest 10 = .ok (.getfield 9, 3) := by decide +kernel
theorem dX4_dropLowest_13 : decode cX4_dropLowest 13 = .ok (.iconst 0, 1) := by decide +kernel
theorem dX4_dropLowest_14 : decode cX4_dropLowest 14 = .ok (.aaload, 1) := by decide +kernel
theorem dX4_dropLowest_15 : decode cX4_dropLowest 15 = .ok (.astore_n 1, 1) := by decide +kernel
theorem dX4_dropLowest_16 : decode cX4_dropLowest 16 = .ok (.iconst 1, 1) := by decide +kernel
theorem dX4_dropLowest_17 : decode cX4_dropLowest 17 = .ok (.istore_n 2, 1) := by decide +kernel
theorem dX4_dropLowest_18 : decode cX4_dropLowest 18 = .ok (.iload_n 2, 1) := by decide +kernel
theorem dX4_dropLowest_19 : decode cX4_dropLowest 19 = .ok (.aload_n 0, 1) := by decide +kernel
theorem dX4_dropLowest_20 : decode cX4_dropLowest 20 = .ok (.getfield 9, 3) := by decide +kernel
theorem dX4_dropLowest_23 : decode cX4_dropLowest 23 = .ok (.arraylength, 1) := by decide +kernel
theorem dX4_dropLowest_24 : decode cX4_dropLowest 24 = .ok (.if_icmp .ge 23, 3) := by decide +kernel
theorem dX4_dropLowest_27 : decode cX4_dropLowest 27 = .ok (.aload_n 0, 1) := by decide +kernel
theorem dX4_dropLowest_28 : decode cX4_dropLowest 28 = .ok (.getfield 9, 3) := by decide +kernel
theorem dX4_dropLowest_31 : decode cX4_dropLowest 31 = .ok (.iload_n 2, 1) := by decide +kernel
theorem dX4_dropLowest_32 : decode cX4_dropLowest 32 = .ok (.iconst 1, 1) := by decide +kernel
theorem dX4_dropLowest_33 : decode cX4_dropLowest 33 = .ok (.isub, 1) := by decide +kernel
theorem dX4_dropLowest_34 : decode cX4_dropLowest 34 = .ok (.aload_n 0, 1) := by decide +kernel
theorem dX4_dropLowest_35 : decode cX4_dropLowest 35 = .ok (.getfield 9, 3) := by decide +kernel
theorem dX4_dropLowest_38 : decode cX4_dropLowest 38 = .ok (.iload_n 2, 1) := by decide +kernel
theorem dX4_dropLowest_39 : decode cX4_dropLowest 39 = .ok (.aaload, 1) := by decide +kernel
theorem dX4_dropLowest_40 : decode cX4_dropLowest 40 = .ok (.aastore, 1) := by decide +kernel
theorem dX4_dropLowest_41 : decode cX4_dropLowest 41 = .ok (.iinc 2 1, 3) := by decide +kernel
theorem dX4_dropLowest_44 : decode cX4_dropLowest 44 = .ok (.goto (-26), 3) := by decide +kernel
theorem dX4_dropLowest_47 : decode cX4_dropLowest 47 = .ok (.aload_n 0, 1) := by decide +kernel
theorem dX4_dropLowest_48 : decode cX4_dropLowest 48 = .ok (.getfield 9, 3) := by decide +kernel
theorem dX4_dropLowest_51 : decode cX4_dropLowest 51 = .ok (.aload_n 0, 1) := by decide +kernel
theorem dX4_dropLowest_52 : decode cX4_dropLowest 52 = .ok (.getfield 9, 3) := by decide +kernel
theorem dX4_dropLowest_55 : decode cX4_dropLowest 55 = .ok (.arraylength, 1) := by decide +kernel
theorem dX4_dropLowest_56 : decode cX4_dropLowest 56 = .ok (.iconst 1, 1) := by decide +kernel
theorem dX4_dropLowest_57 : decode cX4_dropLowest 57 = .ok (.isub, 1) := by decide +kernel
theorem dX4_dropLowest_58 : decode cX4_dropLowest 58 = .ok (.aload_n 1, 1) := by decide +kernel
theorem dX4_dropLowest_59 : decode cX4_dropLowest 59 = .ok (.aastore, 1) := by decide +kernel
theorem dX4_dropLowest_60 : decode cX4_dropLowest 60 = .ok (.aload_n 0, 1) := by decide +kernel
theorem dX4_dropLowest_61 : decode cX4_dropLowest 61 = .ok (.dup, 1) := by decide +kernel
theorem dX4_dropLowest_62 : decode cX4_dropLowest 62 = .ok (.getfield 16, 3) := by decide +kernel
theorem dX4_dropLowest_65 : decode cX4_dropLowest 65 = .ok (.iconst 1, 1) := by decide +kernel
theorem dX4_dropLowest_66 : decode cX4_dropLowest 66 = .ok (.isub, 1) := by decide +kernel
theorem dX4_dropLowest_67 : decode cX4_dropLowest 67 = .ok (.putfield 16, 3) := by decide +kernel
theorem dX4_dropLowest_70 : decode cX4_dropLowest 70 = .ok (.return_, 1) := by decide +kernel
theorem dX4_takeInto_0 : decode cX4_takeInto 0 = .ok (.aload_n 0, 1) := by decide +kernel
theorem dX4_takeInto_1 : decode cX4_takeInto 1 = .ok (.getfield 16, 3) := by decide +kernel
theorem dX4_takeInto_4 : decode cX4_takeInto 4 = .ok (.ifCond .le 15, 3) := by decide +kernel
theorem dX4_takeInto_7 : decode cX4_takeInto 7 = .ok (.aload_n 0, 1) := by decide +kernel
theorem dX4_takeInto_8 : decode cX4_takeInto 8 = .ok (.getfield 16, 3) := by decide +kernel
theorem dX4_takeInto_11 : decode cX4_takeInto 11 = .ok (.aload_n 0, 1) := by decide +kernel
theorem dX4_takeInto_12 : decode cX4_takeInto 12 = .ok (.getfield 9, 3) := by decide +kernel
theorem dX4_takeInto_15 : decode cX4_takeInto 15 = .ok (.arraylength, 1) := by decide +kernel
theorem dX4_takeInto_16 : decode cX4_takeInto 16 = .ok (.if_icmp .le 5, 3) := by decide +kernel
theorem dX4_takeInto_19 : decode cX4_takeInto 19 = .ok (.iconst 0, 1) := by decide +kernel
theorem dX4_takeInto_20 : decode cX4_takeInto 20 = .ok (.ireturn, 1) := by decide +kernel
theorem dX4_takeInto_21 : decode cX4_takeInto 21 = .ok (.aload_n 0, 1) := by decide +kernel
theorem dX4_takeInto_22 : decode cX4_takeInto 22 = .ok (.dup, 1) := by decide +kernel
theorem dX4_takeInto_23 : decode cX4_takeInto 23 = .ok (.getfield 16, 3) := by decide +kernel
theorem dX4_takeInto_26 : decode cX4_takeInto 26 = .ok (.iconst 1, 1) := by decide +kernel
theorem dX4_takeInto_27 : decode cX4_takeInto 27 = .ok (.isub, 1) := by decide +kernel
theorem dX4_takeInto_28 : decode cX4_takeInto 28 = .ok (.putfield 16, 3) := by decide +kernel
theorem dX4_takeInto_31 : decode cX4_takeInto 31 = .ok (.aload_n 1, 1) := by decide +kernel
theorem dX4_takeInto_32 : decode cX4_takeInto 32 = .ok (.aload_n 0, 1) := by decide +kernel
theorem dX4_takeInto_33 : decode cX4_takeInto 33 = .ok (.getfield 9, 3) := by decide +kernel
theorem dX4_takeInto_36 : decode cX4_takeInto 36 = .ok (.aload_n 0, 1) := by decide +kernel
theorem dX4_takeInto_37 : decode cX4_takeInto 37 = .ok (.getfield 16, 3) := by decide +kernel
theorem dX4_takeInto_40 : decode cX4_takeInto 40 = .ok (.aaload, 1) := by decide +kernel
theorem dX4_takeInto_41 : decode cX4_takeInto 41 = .ok (.invokevirtual 27, 3) := by decide +kernel
theorem dX4_takeInto_44 : decode cX4_takeInto 44 = .ok (.iconst 1, 1) := by decide +kernel
theorem dX4_takeInto_45 : decode cX4_takeInto 45 = .ok (.ireturn, 1) := by decide +kernel
theorem dX5_init_0 : decode cX5_init 0 = .ok (.aload_n 0, 1) := by decide +kernel
theorem dX5_init_1 : decode cX5_init 1 = .ok (.invokespecial 3, 3) := by decide +kernel
theorem dX5_init_4 : decode cX5_init 4 = .ok (.aload_n 0, 1) := by decide +kernel
theorem dX5_init_5 : decode cX5_init 5 = .ok (.sipush 200, 3) := by decide +kernel
theorem dX5_init_8 : decode cX5_init 8 = .ok (.newarray .int, 2) := by decide +kernel
theorem dX5_init_10 : decode cX5_init 10 = .ok (.putfield 9, 3) := by decide +kernel
theorem dX5_init_13 : decode cX5_init 13 = .ok (.return_, 1) := by decide +kernel
theorem dX5_add_0 : decode cX5_add 0 = .ok (.aload_n 0, 1) := by decide +kernel
theorem dX5_add_1 : decode cX5_add 1 = .ok (.getfield 15, 3) := by decide +kernel
theorem dX5_add_4 : decode cX5_add 4 = .ok (.ifCond .lt 15, 3) := by decide +kernel
theorem dX5_add_7 : decode cX5_add 7 = .ok (.aload_n 0, 1) := by decide +kernel
theorem dX5_add_8 : decode cX5_add 8 = .ok (.getfield 15, 3) := by decide +kernel
theorem dX5_add_11 : decode cX5_add 11 = .ok (.aload_n 0, 1) := by decide +kernel
theorem dX5_add_12 : decode cX5_add 12 = .ok (.getfield 9, 3) := by decide +kernel
theorem dX5_add_15 : decode cX5_add 15 = .ok (.arraylength, 1) := by decide +kernel
theorem dX5_add_16 : decode cX5_add 16 = .ok (.if_icmp .lt 5, 3) := by decide +kernel
theorem dX5_add_19 : decode cX5_add 19 = .ok (.iconst 0, 1) := by decide +kernel
theorem dX5_add_20 : decode cX5_add 20 = .ok (.ireturn, 1) := by decide +kernel
theorem dX5_add_21 : decode cX5_add 21 = .ok (.aload_n 0, 1) := by decide +kernel
theorem dX5_add_22 : decode cX5_add 22 = .ok (.getfield 9, 3) := by decide +kernel
theorem dX5_add_25 : decode cX5_add 25 = .ok (.aload_n 0, 1) := by decide +kernel
theorem dX5_add_26 : decode cX5_add 26 = .ok (.getfield 15, 3) := by decide +kernel
theorem dX5_add_29 : decode cX5_add 29 = .ok (.iload_n 1, 1) := by decide +kernel
theorem dX5_add_30 : decode cX5_add 30 = .ok (.iastore, 1) := by decide +kernel
theorem dX5_add_31 : decode cX5_add 31 = .ok (.aload_n 0, 1) := by decide +kernel
theorem dX5_add_32 : decode cX5_add 32 = .ok (.dup, 1) := by decide +kernel
theorem dX5_add_33 : decode cX5_add 33 = .ok (.getfield 15, 3) := by decide +kernel
theorem dX5_add_36 : decode cX5_add 36 = .ok (.iconst 1, 1) := by decide +kernel
theorem dX5_add_37 : decode cX5_add 37 = .ok (.iadd, 1) := by decide +kernel
theorem dX5_add_38 : decode cX5_add 38 = .ok (.putfield 15, 3) := by decide +kernel
theorem dX5_add_41 : decode cX5_add 41 = .ok (.iconst 1, 1) := by decide +kernel
theorem dX5_add_42 : decode cX5_add 42 = .ok (.ireturn, 1) := by decide +kernel
theorem dX5_letterAt_0 : decode cX5_letterAt 0 = .ok (.iload_n 1, 1) := by decide +kernel
theorem dX5_letterAt_1 : decode cX5_letterAt 1 = .ok (.ifCond .lt 29, 3) := by decide +kernel
theorem dX5_letterAt_4 : decode cX5_letterAt 4 = .ok (.iload_n 1, 1) := by decide +kernel
theorem dX5_letterAt_5 : decode cX5_letterAt 5 = .ok (.aload_n 0, 1) := by decide +kernel
theorem dX5_letterAt_6 : decode cX5_letterAt 6 = .ok (.getfield 15, 3) := by decide +kernel
theorem dX5_letterAt_9 : decode cX5_letterAt 9 = .ok (.if_icmp .ge 21, 3) := by decide +kernel
theorem dX5_letterAt_12 : decode cX5_letterAt 12 = .ok (.iload_n 1, 1) := by decide +kernel
theorem dX5_letterAt_13 : decode cX5_letterAt 13 = .ok (.aload_n 0, 1) := by decide +kernel
theorem dX5_letterAt_14 : decode cX5_letterAt 14 = .ok (.getfield 9, 3) := by decide +kernel
theorem dX5_letterAt_17 : decode cX5_letterAt 17 = .ok (.arraylength, 1) := by decide +kernel
theorem dX5_letterAt_18 : decode cX5_letterAt 18 = .ok (.if_icmp .ge 12, 3) := by decide +kernel
theorem dX5_letterAt_21 : decode cX5_letterAt 21 = .ok (.aload_n 0, 1) := by decide +kernel
theorem dX5_letterAt_22 : decode cX5_letterAt 22 = .ok (.getfield 9, 3) := by decide +kernel
theorem dX5_letterAt_25 : decode cX5_letterAt 25 = .ok (.iload_n 1, 1) := by decide +kernel
theorem dX5_letterAt_26 : decode cX5_letterAt 26 = .ok (.iaload, 1) := by decide +kernel
theorem dX5_letterAt_27 : decode cX5_letterAt 27 = .ok (.goto 4, 3) := by decide +kernel
theorem dX5_letterAt_30 : decode cX5_letterAt 30 = .ok (.iconst 0, 1) := by decide +kernel
theorem dX5_letterAt_31 : decode cX5_letterAt 31 = .ok (.ireturn, 1) := by decide +kernel
theorem dX6_init_0 : decode cX6_init 0 = .ok (.aload_n 0, 1) := by decide +kernel
theorem dX6_init_1 : decode cX6_init 1 = .ok (.invokespecial 3, 3) := by decide +kernel
theorem dX6_init_4 : decode cX6_init 4 = .ok (.return_, 1) := by decide +kernel
theorem dX6_start_0 : decode cX6_start 0 = .ok (.aload_n 0, 1) := by decide +kernel
theorem dX6_start_1 : decode cX6_start 1 = .ok (.iload_n 1, 1) := by decide +kernel
theorem dX6_start_2 : decode cX6_start 2 = .ok (.putfield 9, 3) := by decide +kernel
theorem dX6_start_5 : decode cX6_start 5 = .ok (.aload_n 0, 1) := by decide +kernel
theorem dX6_start_6 : decode cX6_start 6 = .ok (.iload_n 1, 1) := by decide +kernel
theorem dX6_start_7 : decode cX6_start 7 = .ok (.putfield 15, 3) := by decide +kernel
theorem dX6_start_10 : decode cX6_start 10 = .ok (.aload_n 0, 1) := by decide +kernel
theorem dX6_start_11 : decode cX6_start 11 = .ok (.iconst 0, 1) := by decide +kernel
theorem dX6_start_12 : decode cX6_start 12 = .ok (.putfield 18, 3) := by decide +kernel
theorem dX6_start_15 : decode cX6_start 15 = .ok (.aload_n 0, 1) := by decide +kernel
theorem dX6_start_16 : decode cX6_start 16 = .ok (.iload_n 3, 1) := by decide +kernel
theorem dX6_start_17 : decode cX6_start 17 = .ok (.putfield 21, 3) := by decide +kernel
theorem dX6_start_20 : decode cX6_start 20 = .ok (.aload_n 0, 1) := by decide +kernel
theorem dX6_start_21 : decode cX6_start 21 = .ok (.iload_n 2, 1) := by decide +kernel
theorem dX6_start_22 : decode cX6_start 22 = .ok (.invokevirtual 24, 3) := by decide +kernel
theorem dX6_start_25 : decode cX6_start 25 = .ok (.return_, 1) := by decide +kernel
theorem dX6_goTo_0 : decode cX6_goTo 0 = .ok (.aload_n 0, 1) := by decide +kernel
theorem dX6_goTo_1 : decode cX6_goTo 1 = .ok (.iload_n 1, 1) := by decide +kernel
theorem dX6_goTo_2 : decode cX6_goTo 2 = .ok (.putfield 28, 3) := by decide +kernel
theorem dX6_goTo_5 : decode cX6_goTo 5 = .ok (.aload_n 0, 1) := by decide +kernel
theorem dX6_goTo_6 : decode cX6_goTo 6 = .ok (.aload_n 0, 1) := by decide +kernel
theorem dX6_goTo_7 : decode cX6_goTo 7 = .ok (.getfield 18, 3) := by decide +kernel
theorem dX6_goTo_10 : decode cX6_goTo 10 = .ok (.ifCond .ne 15, 3) := by decide +kernel
theorem dX6_goTo_13 : decode cX6_goTo 13 = .ok (.aload_n 0, 1) := by decide +kernel
theorem dX6_goTo_14 : decode cX6_goTo 14 = .ok (.getfield 9, 3) := by decide +kernel
theorem dX6_goTo_17 : decode cX6_goTo 17 = .ok (.iload_n 1, 1) := by decide +kernel
theorem dX6_goTo_18 : decode cX6_goTo 18 = .ok (.if_icmp .ne 7, 3) := by decide +kernel
theorem dX6_goTo_21 : decode cX6_goTo 21 = .ok (.iconst 1, 1) := by decide +kernel
theorem dX6_goTo_22 : decode cX6_goTo 22 = .ok (.goto 4, 3) := by decide +kernel
theorem dX6_goTo_25 : decode cX6_goTo 25 = .ok (.iconst 0, 1) := by decide +kernel
theorem dX6_goTo_26 : decode cX6_goTo 26 = .ok (.putfield 31, 3) := by decide +kernel
theorem dX6_goTo_29 : decode cX6_goTo 29 = .ok (.return_, 1) := by decide +kernel
theorem dX6_isOnHisWay_0 : decode cX6_isOnHisWay 0 = .ok (.aload_n 0, 1) := by decide +kernel
theorem dX6_isOnHisWay_1 : decode cX6_isOnHisWay 1 = .ok (.getfield 18, 3) := by decide +kernel
theorem dX6_isOnHisWay_4 : decode cX6_isOnHisWay 4 = .ok (.ifCond .le 7, 3) := by decide +kernel
theorem dX6_isOnHisWay_7 : decode cX6_isOnHisWay 7 = .ok (.iconst 1, 1) := by decide +kernel
theorem dX6_isOnHisWay_8 : decode cX6_isOnHisWay 8 = .ok (.goto 4, 3) := by decide +kernel
theorem dX6_isOnHisWay_11 : decode cX6_isOnHisWay 11 = .ok (.iconst 0, 1) := by decide +kernel
theorem dX6_isOnHisWay_12 : decode cX6_isOnHisWay 12 = .ok (.ireturn, 1) := by decide +kernel
theorem dX6_mustSetOut_0 : decode cX6_mustSetOut 0 = .ok (.aload_n 0, 1) := by decide +kernel
theorem dX6_mustSetOut_1 : decode cX6_mustSetOut 1 = .ok (.getfield 31, 3) := by decide +kernel
theorem dX6_mustSetOut_4 : decode cX6_mustSetOut 4 = .ok (.ifCond .ne 14, 3) := by decide +kernel
theorem dX6_mustSetOut_7 : decode cX6_mustSetOut 7 = .ok (.aload_n 0, 1) := by decide +kernel
theorem dX6_mustSetOut_8 : decode cX6_mustSetOut 8 = .ok (.getfield 18, 3) := by decide +kernel
theorem dX6_mustSetOut_11 : decode cX6_mustSetOut 11 = .ok (.ifCond .ne 7, 3) := by decide +kernel
theorem dX6_mustSetOut_14 : decode cX6_mustSetOut 14 = .ok (.iconst 1, 1) := by decide +kernel
theorem dX6_mustSetOut_15 : decode cX6_mustSetOut 15 = .ok (.goto 4, 3) := by decide +kernel
theorem dX6_mustSetOut_18 : decode cX6_mustSetOut 18 = .ok (.iconst 0, 1) := by decide +kernel
theorem dX6_mustSetOut_19 : decode cX6_mustSetOut 19 = .ok (.ireturn, 1) := by decide +kernel
theorem dX6_goOn_0 : decode cX6_goOn 0 = .ok (.aload_n 0, 1) := by decide +kernel
theorem dX6_goOn_1 : decode cX6_goOn 1 = .ok (.dup, 1) := by decide +kernel
theorem dX6_goOn_2 : decode cX6_goOn 2 = .ok (.getfield 18, 3) := by decide +kernel
theorem dX6_goOn_5 : decode cX6_goOn 5 = .ok (.iconst 1, 1) := by decide +kernel
theorem dX6_goOn_6 : decode cX6_goOn 6 = .ok (.isub, 1) := by decide +kernel
theorem dX6_goOn_7 : decode cX6_goOn 7 = .ok (.putfield 18, 3) := by decide +kernel
theorem dX6_goOn_10 : decode cX6_goOn 10 = .ok (.aload_n 0, 1) := by decide +kernel
theorem dX6_goOn_11 : decode cX6_goOn 11 = .ok (.getfield 18, 3) := by decide +kernel
theorem dX6_goOn_14 : decode cX6_goOn 14 = .ok (.ifCond .ne 31, 3) := by decide +kernel
theorem dX6_goOn_17 : decode cX6_goOn 17 = .ok (.aload_n 0, 1) := by decide +kernel
theorem dX6_goOn_18 : decode cX6_goOn 18 = .ok (.aload_n 0, 1) := by decide +kernel
theorem dX6_goOn_19 : decode cX6_goOn 19 = .ok (.getfield 15, 3) := by decide +kernel
theorem dX6_goOn_22 : decode cX6_goOn 22 = .ok (.putfield 9, 3) := by decide +kernel
theorem dX6_goOn_25 : decode cX6_goOn 25 = .ok (.aload_n 0, 1) := by decide +kernel
theorem dX6_goOn_26 : decode cX6_goOn 26 = .ok (.aload_n 0, 1) := by decide +kernel
theorem dX6_goOn_27 : decode cX6_goOn 27 = .ok (.getfield 9, 3) := by decide +kernel
theorem dX6_goOn_30 : decode cX6_goOn 30 = .ok (.aload_n 0, 1) := by decide +kernel
theorem dX6_goOn_31 : decode cX6_goOn 31 = .ok (.getfield 28, 3) := by decide +kernel
theorem dX6_goOn_34 : decode cX6_goOn 34 = .ok (.if_icmp .ne 7, 3) := by decide +kernel
theorem dX6_goOn_37 : decode cX6_goOn 37 = .ok (.iconst 1, 1) := by decide +kernel
theorem dX6_goOn_38 : decode cX6_goOn 38 = .ok (.goto 4, 3) := by decide +kernel
theorem dX6_goOn_41 : decode cX6_goOn 41 = .ok (.iconst 0, 1) := by decide +kernel
theorem dX6_goOn_42 : decode cX6_goOn 42 = .ok (.putfield 31, 3) := by decide +kernel
theorem dX6_goOn_45 : decode cX6_goOn 45 = .ok (.return_, 1) := by decide +kernel
theorem dX6_isWith_0 : decode cX6_isWith 0 = .ok (.aload_n 0, 1) := by decide +kernel
theorem dX6_isWith_1 : decode cX6_isWith 1 = .ok (.getfield 18, 3) := by decide +kernel
theorem dX6_isWith_4 : decode cX6_isWith 4 = .ok (.ifCond .ne 25, 3) := by decide +kernel
theorem dX6_isWith_7 : decode cX6_isWith 7 = .ok (.aload_n 1, 1) := by decide +kernel
theorem dX6_isWith_8 : decode cX6_isWith 8 = .ok (.getfield 18, 3) := by decide +kernel
theorem dX6_isWith_11 : decode cX6_isWith 11 = .ok (.ifCond .ne 18, 3) := by decide +kernel
theorem dX6_isWith_14 : decode cX6_isWith 14 = .ok (.aload_n 0, 1) := by decide +kernel
theorem dX6_isWith_15 : decode cX6_isWith 15 = .ok (.getfield 9, 3) := by decide +kernel
theorem dX6_isWith_18 : decode cX6_isWith 18 = .ok (.aload_n 1, 1) := by decide +kernel
theorem dX6_isWith_19 : decode cX6_isWith 19 = .ok (.getfield 9, 3) := by decide +kernel
theorem dX6_isWith_22 : decode cX6_isWith 22 = .ok (.if_icmp .ne 7, 3) := by decide +kernel
theorem dX6_isWith_25 : decode cX6_isWith 25 = .ok (.iconst 1, 1) := by decide +kernel
theorem dX6_isWith_26 : decode cX6_isWith 26 = .ok (.goto 4, 3) := by decide +kernel
theorem dX6_isWith_29 : decode cX6_isWith 29 = .ok (.iconst 0, 1) := by decide +kernel
theorem dX6_isWith_30 : decode cX6_isWith 30 = .ok (.ireturn, 1) := by decide +kernel
theorem dX6_copyFrom_0 : decode cX6_copyFrom 0 = .ok (.aload_n 0, 1) := by decide +kernel
theorem dX6_copyFrom_1 : decode cX6_copyFrom 1 = .ok (.aload_n 1, 1) := by decide +kernel
theorem dX6_copyFrom_2 : decode cX6_copyFrom 2 = .ok (.getfield 9, 3) := by decide +kernel
theorem dX6_copyFrom_5 : decode cX6_copyFrom 5 = .ok (.putfield 9, 3) := by decide +kernel
theorem dX6_copyFrom_8 : decode cX6_copyFrom 8 = .ok (.aload_n 0, 1) := by decide +kernel
theorem dX6_copyFrom_9 : decode cX6_copyFrom 9 = .ok (.aload_n 1, 1) := by decide +kernel
theorem dX6_copyFrom_10 : decode cX6_copyFrom 10 = .ok (.getfield 28, 3) := by decide +kernel
theorem dX6_copyFrom_13 : decode cX6_copyFrom 13 = .ok (.putfield 28, 3) := by decide +kernel
theorem dX6_copyFrom_16 : decode cX6_copyFrom 16 = .ok (.aload_n 0, 1) := by decide +kernel
theorem dX6_copyFrom_17 : decode cX6_copyFrom 17 = .ok (.aload_n 1, 1) := by decide +kernel
theorem dX6_copyFrom_18 : decode cX6_copyFrom 18 = .ok (.getfield 21, 3) := by decide +kernel
theorem dX6_copyFrom_21 : decode cX6_copyFrom 21 = .ok (.putfield 21, 3) := by decide +kernel
theorem dX6_copyFrom_24 : decode cX6_copyFrom 24 = .ok (.aload_n 0, 1) := by decide +kernel
theorem dX6_copyFrom_25 : decode cX6_copyFrom 25 = .ok (.aload_n 1, 1) := by decide +kernel
theorem dX6_copyFrom_26 : decode cX6_copyFrom 26 = .ok (.getfield 31, 3) := by decide +kernel
theorem dX6_copyFrom_29 : decode cX6_copyFrom 29 = .ok (.putfield 31, 3) := by decide +kernel
theorem dX6_copyFrom_32 : decode cX6_copyFrom 32 = .ok (.aload_n 0, 1) := by decide +kernel
theorem dX6_copyFrom_33 : decode cX6_copyFrom 33 = .ok (.aload_n 1, 1) := by decide +kernel
theorem dX6_copyFrom_34 : decode cX6_copyFrom 34 = .ok (.getfield 15, 3) := by decide +kernel
theorem dX6_copyFrom_37 : decode cX6_copyFrom 37 = .ok (.putfield 15, 3) := by decide +kernel
theorem dX6_copyFrom_40 : decode cX6_copyFrom 40 = .ok (.aload_n 0, 1) := by decide +kernel
theorem dX6_copyFrom_41 : decode cX6_copyFrom 41 = .ok (.aload_n 1, 1) := by decide +kernel
theorem dX6_copyFrom_42 : decode cX6_copyFrom 42 = .ok (.getfield 18, 3) := by decide +kernel
theorem dX6_copyFrom_45 : decode cX6_copyFrom 45 = .ok (.putfield 18, 3) := by decide +kernel
theorem dX6_copyFrom_48 : decode cX6_copyFrom 48 = .ok (.return_, 1) := by decide +kernel
theorem dX7_init_0 : decode cX7_init 0 = .ok (.aload_n 0, 1) := by decide +kernel
theorem dX7_init_1 : decode cX7_init 1 = .ok (.invokespecial 3, 3) := by decide +kernel
theorem dX7_init_4 : decode cX7_init 4 = .ok (.aload_n 0, 1) := by decide +kernel
theorem dX7_init_5 : decode cX7_init 5 = .ok (.new 9, 3) := by decide +kernel
theorem dX7_init_8 : decode cX7_init 8 = .ok (.dup, 1) := by decide +kernel
theorem dX7_init_9 : decode cX7_init 9 = .ok (.bipush 36, 2) := by decide +kernel
theorem dX7_init_11 : decode cX7_init 11 = .ok (.invokespecial 11, 3) := by decide +kernel
theorem dX7_init_14 : decode cX7_init 14 = .ok (.putfield 14, 3) := by decide +kernel
theorem dX7_init_17 : decode cX7_init 17 = .ok (.aload_n 0, 1) := by decide +kernel
theorem dX7_init_18 : decode cX7_init 18 = .ok (.new 9, 3) := by decide +kernel
theorem dX7_init_21 : decode cX7_init 21 = .ok (.dup, 1) := by decide +kernel
theorem dX7_init_22 : decode cX7_init 22 = .ok (.bipush 36, 2) := by decide +kernel
theorem dX7_init_24 : decode cX7_init 24 = .ok (.invokespecial 11, 3) := by decide +kernel
theorem dX7_init_27 : decode cX7_init 27 = .ok (.putfield 20, 3) := by decide +kernel
theorem dX7_init_30 : decode cX7_init 30 = .ok (.return_, 1) := by decide +kernel
theorem dX7_learnByDrum_0 : decode cX7_learnByDrum 0 = .ok (.iconst 0, 1) := by decide +kernel
theorem dX7_learnByDrum_1 : decode cX7_learnByDrum 1 = .ok (.istore 5, 2) := by decide +kernel
theorem dX7_learnByDrum_3 : decode cX7_learnByDrum 3 = .ok (.iload 5, 2) := by decide +kernel
theorem dX7_learnByDrum_5 : decode cX7_learnByDrum 5 = .ok (.aload_n 1, 1) := by decide +kernel
theorem dX7_learnByDrum_6 : decode cX7_learnByDrum 6 = .ok (.getfield 23, 3) := by decide +kernel
theorem dX7_learnByDrum_9 : decode cX7_learnByDrum 9 = .ok (.if_icmp .ge 33, 3) := by decide +kernel
theorem dX7_learnByDrum_12 : decode cX7_learnByDrum 12 = .ok (.aload_n 0, 1) := by decide +kernel
theorem dX7_learnByDrum_13 : decode cX7_learnByDrum 13 = .ok (.getfield 14, 3) := by decide +kernel
theorem dX7_learnByDrum_16 : decode cX7_learnByDrum 16 = .ok (.iload 5, 2) := by decide +kernel
theorem dX7_learnByDrum_18 : decode cX7_learnByDrum 18 = .ok (.aload_n 2, 1) := by decide +kernel
theorem dX7_learnByDrum_19 : decode cX7_learnByDrum 19 = .ok (.aload_n 1, 1) := by decide +kernel
theorem dX7_learnByDrum_20 : decode cX7_learnByDrum 20 = .ok (.iload_n 3, 1) := by decide +kernel
theorem dX7_learnByDrum_21 : decode cX7_learnByDrum 21 = .ok (.iload 5, 2) := by decide +kernel
theorem dX7_learnByDrum_23 : decode cX7_learnByDrum 23 = .ok (.invokevirtual 29, 3) := by decide +kernel
theorem dX7_learnByDrum_26 : decode cX7_learnByDrum 26 = .ok (.aload_n 2, 1) := by decide +kernel
theorem dX7_learnByDrum_27 : decode cX7_learnByDrum 27 = .ok (.getfield 35, 3) := by decide +kernel
theorem dX7_learnByDrum_30 : decode cX7_learnByDrum 30 = .ok (.invokestatic 38, 3) := by decide +kernel
theorem dX7_learnByDrum_33 : decode cX7_learnByDrum 33 = .ok (.invokevirtual 42, 3) := by decide +kernel
theorem dX7_learnByDrum_36 : decode cX7_learnByDrum 36 = .ok (.iinc 5 1, 3) := by decide +kernel
theorem dX7_learnByDrum_39 : decode cX7_learnByDrum 39 = .ok (.goto (-36), 3) := by decide +kernel
theorem dX7_learnByDrum_42 : decode cX7_learnByDrum 42 = .ok (.aload_n 0, 1) := by decide +kernel
theorem dX7_learnByDrum_43 : decode cX7_learnByDrum 43 = .ok (.aload_n 1, 1) := by decide +kernel
theorem dX7_learnByDrum_44 : decode cX7_learnByDrum 44 = .ok (.iload 4, 2) := by decide +kernel
theorem dX7_learnByDrum_46 : decode cX7_learnByDrum 46 = .ok (.invokevirtual 46, 3) := by decide +kernel
theorem dX7_learnByDrum_49 : decode cX7_learnByDrum 49 = .ok (.return_, 1) := by decide +kernel
theorem dX7_learnInTruth_0 : decode cX7_learnInTruth 0 = .ok (.iconst 0, 1) := by decide +kernel
theorem dX7_learnInTruth_1 : decode cX7_learnInTruth 1 = .ok (.istore 4, 2) := by decide +kernel
theorem dX7_learnInTruth_3 : decode cX7_learnInTruth 3 = .ok (.iload 4, 2) := by decide +kernel
theorem dX7_learnInTruth_5 : decode cX7_learnInTruth 5 = .ok (.aload_n 1, 1) := by decide +kernel
theorem dX7_learnInTruth_6 : decode cX7_learnInTruth 6 = .ok (.getfield 23, 3) := by decide +kernel
theorem dX7_learnInTruth_9 : decode cX7_learnInTruth 9 = .ok (.if_icmp .ge 31, 3) := by decide +kernel
theorem dX7_learnInTruth_12 : decode cX7_learnInTruth 12 = .ok (.aload_n 0, 1) := by decide +kernel
theorem dX7_learnInTruth_13 : decode cX7_learnInTruth 13 = .ok (.getfield 14, 3) := by decide +kernel
theorem dX7_learnInTruth_16 : decode cX7_learnInTruth 16 = .ok (.iload 4, 2) := by decide +kernel
theorem dX7_learnInTruth_18 : decode cX7_learnInTruth 18 = .ok (.aload_n 1, 1) := by decide +kernel
theorem dX7_learnInTruth_19 : decode cX7_learnInTruth 19 = .ok (.getfield 50, 3) := by decide +kernel
theorem dX7_learnInTruth_22 : decode cX7_learnInTruth 22 = .ok (.iload 4, 2) := by decide +kernel
theorem dX7_learnInTruth_24 : decode cX7_learnInTruth 24 = .ok (.invokevirtual 53, 3) := by decide +kernel
theorem dX7_learnInTruth_27 : decode cX7_learnInTruth 27 = .ok (.iload_n 2, 1) := by decide +kernel
theorem dX7_learnInTruth_28 : decode cX7_learnInTruth 28 = .ok (.invokestatic 38, 3) := by decide +kernel
theorem dX7_learnInTruth_31 : decode cX7_learnInTruth 31 = .ok (.invokevirtual 42, 3) := by decide +kernel
theorem dX7_learnInTruth_34 : decode cX7_learnInTruth 34 = .ok (.iinc 4 1, 3) := by decide +kernel
theorem dX7_learnInTruth_37 : decode cX7_learnInTruth 37 = .ok (.goto (-34), 3) := by decide +kernel
theorem dX7_learnInTruth_40 : decode cX7_learnInTruth 40 = .ok (.aload_n 0, 1) := by decide +kernel
theorem dX7_learnInTruth_41 : decode cX7_learnInTruth 41 = .ok (.aload_n 1, 1) := by decide +kernel
theorem dX7_learnInTruth_42 : decode cX7_learnInTruth 42 = .ok (.iload_n 3, 1) := by decide +kernel
theorem dX7_learnInTruth_43 : decode cX7_learnInTruth 43 = .ok (.invokevirtual 46, 3) := by decide +kernel
theorem dX7_learnInTruth_46 : decode cX7_learnInTruth 46 = .ok (.return_, 1) := by decide +kernel
theorem dX7_measure_0 : decode cX7_measure 0 = .ok (.aload_n 0, 1) := by decide +kernel
theorem dX7_measure_1 : decode cX7_measure 1 = .ok (.getfield 20, 3) := by decide +kernel
theorem dX7_measure_4 : decode cX7_measure 4 = .ok (.ldc 57, 2) := by decide +kernel
theorem dX7_measure_6 : decode cX7_measure 6 = .ok (.invokevirtual 58, 3) := by decide +kernel
theorem dX7_measure_9 : decode cX7_measure 9 = .ok (.aload_n 0, 1) := by decide +kernel
theorem dX7_measure_10 : decode cX7_measure 10 = .ok (.getfield 20, 3) := by decide +kernel
theorem dX7_measure_13 : decode cX7_measure 13 = .ok (.iload_n 2, 1) := by decide +kernel
theorem dX7_measure_14 : decode cX7_measure 14 = .ok (.iconst 0, 1) := by decide +kernel
theorem dX7_measure_15 : decode cX7_measure 15 = .ok (.invokevirtual 42, 3) := by decide +kernel
theorem dX7_measure_18 : decode cX7_measure 18 = .ok (.iconst 1, 1) := by decide +kernel
theorem dX7_measure_19 : decode cX7_measure 19 = .ok (.istore_n 3, 1) := by decide +kernel
theorem dX7_measure_20 : decode cX7_measure 20 = .ok (.iconst 0, 1) := by decide +kernel
theorem dX7_measure_21 : decode cX7_measure 21 = .ok (.istore 4, 2) := by decide +kernel
theorem dX7_measure_23 : decode cX7_measure 23 = .ok (.iload 4, 2) := by decide +kernel
theorem dX7_measure_25 : decode cX7_measure 25 = .ok (.bipush 36, 2) := by decide +kernel
theorem dX7_measure_27 : decode cX7_measure 27 = .ok (.if_icmp .ge 96, 3) := by decide +kernel
theorem dX7_measure_30 : decode cX7_measure 30 = .ok (.iload_n 3, 1) := by decide +kernel
theorem dX7_measure_31 : decode cX7_measure 31 = .ok (.ifCond .eq 92, 3) := by decide +kernel
theorem dX7_measure_34 : decode cX7_measure 34 = .ok (.iconst 0, 1) := by decide +kernel
theorem dX7_measure_35 : decode cX7_measure 35 = .ok (.istore_n 3, 1) := by decide +kernel
theorem dX7_measure_36 : decode cX7_measure 36 = .ok (.iconst 0, 1) := by decide +kernel
theorem dX7_measure_37 : decode cX7_measure 37 = .ok (.istore 5, 2) := by decide +kernel
theorem dX7_measure_39 : decode cX7_measure 39 = .ok (.iload 5, 2) := by decide +kernel
theorem dX7_measure_41 : decode cX7_measure 41 = .ok (.aload_n 1, 1) := by decide +kernel
theorem dX7_measure_42 : decode cX7_measure 42 = .ok (.getfield 23, 3) := by decide +kernel
theorem dX7_measure_45 : decode cX7_measure 45 = .ok (.if_icmp .ge 72, 3) := by decide +kernel
theorem dX7_measure_48 : decode cX7_measure 48 = .ok (.iload 4, 2) := by decide +kernel
theorem dX7_measure_50 : decode cX7_measure 50 = .ok (.iconst 2, 1) := by decide +kernel
theorem dX7_measure_51 : decode cX7_measure 51 = .ok (.irem, 1) := by decide +kernel
theorem dX7_measure_52 : decode cX7_measure 52 = .ok (.ifCond .ne 15, 3) := by decide +kernel
theorem dX7_measure_55 : decode cX7_measure 55 = .ok (.aload_n 1, 1) := by decide +kernel
theorem dX7_measure_56 : decode cX7_measure 56 = .ok (.getfield 23, 3) := by decide +kernel
theorem dX7_measure_59 : decode cX7_measure 59 = .ok (.iconst 1, 1) := by decide +kernel
theorem dX7_measure_60 : decode cX7_measure 60 = .ok (.isub, 1) := by decide +kernel
theorem dX7_measure_61 : decode cX7_measure 61 = .ok (.iload 5, 2) := by decide +kernel
theorem dX7_measure_63 : decode cX7_measure 63 = .ok (.isub, 1) := by decide +kernel
theorem dX7_measure_64 : decode cX7_measure 64 = .ok (.goto 5, 3) := by decide +kernel
theorem dX7_measure_67 : decode cX7_measure 67 = .ok (.iload 5, 2) := by decide +kernel
theorem dX7_measure_69 : decode cX7_measure 69 = .ok (.istore 6, 2) := by decide +kernel
theorem dX7_measure_71 : decode cX7_measure 71 = .ok (.aload_n 0, 1) := by decide +kernel
theorem dX7_measure_72 : decode cX7_measure 72 = .ok (.aload_n 0, 1) := by decide +kernel
theorem dX7_measure_73 : decode cX7_measure 73 = .ok (.aload_n 1, 1) := by decide +kernel
theorem dX7_measure_74 : decode cX7_measure 74 = .ok (.iload 6, 2) := by decide +kernel
theorem dX7_measure_76 : decode cX7_measure 76 = .ok (.invokevirtual 61, 3) := by decide +kernel
theorem dX7_measure_79 : decode cX7_measure 79 = .ok (.invokevirtual 65, 3) := by decide +kernel
theorem dX7_measure_82 : decode cX7_measure 82 = .ok (.istore 7, 2) := by decide +kernel
theorem dX7_measure_84 : decode cX7_measure 84 = .ok (.iload 7, 2) := by decide +kernel
theorem dX7_measure_86 : decode cX7_measure 86 = .ok (.aload_n 0, 1) := by decide +kernel
theorem dX7_measure_87 : decode cX7_measure 87 = .ok (.getfield 20, 3) := by decide +kernel
theorem dX7_measure_90 : decode cX7_measure 90 = .ok (.iload 6, 2) := by decide +kernel
theorem dX7_measure_92 : decode cX7_measure 92 = .ok (.invokevirtual 53, 3) := by decide +kernel
theorem dX7_measure_95 : decode cX7_measure 95 = .ok (.if_icmp .ge 16, 3) := by decide +kernel
theorem dX7_measure_98 : decode cX7_measure 98 = .ok (.aload_n 0, 1) := by decide +kernel
theorem dX7_measure_99 : decode cX7_measure 99 = .ok (.getfield 20, 3) := by decide +kernel
theorem dX7_measure_102 : decode cX7_measure 102 = .ok (.iload 6, 2) := by decide +kernel
theorem dX7_measure_104 : decode cX7_measure 104 = .ok (.iload 7, 2) := by decide +kernel
theorem dX7_measure_106 : decode cX7_measure 106 = .ok (.invokevirtual 42, 3) := by decide +kernel
theorem dX7_measure_109 : decode cX7_measure 109 = .ok (.iconst 1, 1) := by decide +kernel
theorem dX7_measure_110 : decode cX7_measure 110 = .ok (.istore_n 3, 1) := by decide +kernel
theorem dX7_measure_111 : decode cX7_measure 111 = .ok (.iinc 5 1, 3) := by decide +kernel
theorem dX7_measure_114 : decode cX7_measure 114 = .ok (.goto (-75), 3) := by decide +kernel
theorem dX7_measure_117 : decode cX7_measure 117 = .ok (.iinc 4 1, 3) := by decide +kernel
theorem dX7_measure_120 : decode cX7_measure 120 = .ok (.goto (-97), 3) := by decide +kernel
theorem dX7_measure_123 : decode cX7_measure 123 = .ok (.return_, 1) := by decide +kernel
theorem dX7_hoursOver_0 : decode cX7_hoursOver 0 = .ok (.iload_n 1, 1) := by decide +kernel
theorem dX7_hoursOver_1 : decode cX7_hoursOver 1 = .ok (.bipush (-4), 2) := by decide +kernel
theorem dX7_hoursOver_3 : decode cX7_hoursOver 3 = .ok (.if_icmp .ne 8, 3) := by decide +kernel
theorem dX7_hoursOver_6 : decode cX7_hoursOver 6 = .ok (.ldc 57, 2) := by decide +kernel
theorem dX7_hoursOver_8 : decode cX7_hoursOver 8 = .ok (.goto 20, 3) := by decide +kernel
theorem dX7_hoursOver_11 : decode cX7_hoursOver 11 = .ok (.aload_n 0, 1) := by decide +kernel
theorem dX7_hoursOver_12 : decode cX7_hoursOver 12 = .ok (.getfield 14, 3) := by decide +kernel
theorem dX7_hoursOver_15 : decode cX7_hoursOver 15 = .ok (.iload_n 1, 1) := by decide +kernel
theorem dX7_hoursOver_16 : decode cX7_hoursOver 16 = .ok (.invokevirtual 53, 3) := by decide +kernel
theorem dX7_hoursOver_19 : decode cX7_hoursOver 19 = .ok (.aload_n 0, 1) := by decide +kernel
theorem dX7_hoursOver_20 : decode cX7_hoursOver 20 = .ok (.getfield 20, 3) := by decide +kernel
theorem dX7_hoursOver_23 : decode cX7_hoursOver 23 = .ok (.iload_n 1, 1) := by decide +kernel
theorem dX7_hoursOver_24 : decode cX7_hoursOver 24 = .ok (.invokevirtual 53, 3) := by decide +kernel
theorem dX7_hoursOver_27 : decode cX7_hoursOver 27 = .ok (.iadd, 1) := by decide +kernel
theorem dX7_hoursOver_28 : decode cX7_hoursOver 28 = .ok (.ireturn, 1) := by decide +kernel
theorem dX7_firstOf_0 : decode cX7_firstOf 0 = .ok (.bipush (-4), 2) := by decide +kernel
theorem dX7_firstOf_2 : decode cX7_firstOf 2 = .ok (.istore_n 3, 1) := by decide +kernel
theorem dX7_firstOf_3 : decode cX7_firstOf 3 = .ok (.ldc 57, 2) := by decide +kernel
theorem dX7_firstOf_5 : decode cX7_firstOf 5 = .ok (.istore 4, 2) := by decide +kernel
theorem dX7_firstOf_7 : decode cX7_firstOf 7 = .ok (.iconst 0, 1) := by decide +kernel
theorem dX7_firstOf_8 : decode cX7_firstOf 8 = .ok (.istore 5, 2) := by decide +kernel
theorem dX7_firstOf_10 : decode cX7_firstOf 10 = .ok (.iload 5, 2) := by decide +kernel
theorem dX7_firstOf_12 : decode cX7_firstOf 12 = .ok (.iconst 4, 1) := by decide +kernel
theorem dX7_firstOf_13 : decode cX7_firstOf 13 = .ok (.if_icmp .ge 71, 3) := by decide +kernel
theorem dX7_firstOf_16 : decode cX7_firstOf 16 = .ok (.aload_n 1, 1) := by decide +kernel
theorem dX7_firstOf_17 : decode cX7_firstOf 17 = .ok (.getfield 68, 3) := by decide +kernel
theorem dX7_firstOf_20 : decode cX7_firstOf 20 = .ok (.iload_n 2, 1) := by decide +kernel
theorem dX7_firstOf_21 : decode cX7_firstOf 21 = .ok (.iconst 4, 1) := by decide +kernel
theorem dX7_firstOf_22 : decode cX7_firstOf 22 = .ok (.imul, 1) := by decide +kernel
theorem dX7_firstOf_23 : decode cX7_firstOf 23 = .ok (.iload 5, 2) := by decide +kernel
theorem dX7_firstOf_25 : decode cX7_firstOf 25 = .ok (.iadd, 1) := by decide +kernel
theorem dX7_firstOf_26 : decode cX7_firstOf 26 = .ok (.invokevirtual 53, 3) := by decide +kernel
theorem dX7_firstOf_29 : decode cX7_firstOf 29 = .ok (.istore 6, 2) := by decide +kernel
theorem dX7_firstOf_31 : decode cX7_firstOf 31 = .ok (.iload 6, 2) := by decide +kernel
theorem dX7_firstOf_33 : decode cX7_firstOf 33 = .ok (.bipush (-4), 2) := by decide +kernel
theorem dX7_firstOf_35 : decode cX7_firstOf 35 = .ok (.if_icmp .ne 8, 3) := by decide +kernel
theorem dX7_firstOf_38 : decode cX7_firstOf 38 = .ok (.ldc 57, 2) := by decide +kernel
theorem dX7_firstOf_40 : decode cX7_firstOf 40 = .ok (.goto 22, 3) := by decide +kernel
theorem dX7_firstOf_43 : decode cX7_firstOf 43 = .ok (.aload_n 0, 1) := by decide +kernel
theorem dX7_firstOf_44 : decode cX7_firstOf 44 = .ok (.getfield 14, 3) := by decide +kernel
theorem dX7_firstOf_47 : decode cX7_firstOf 47 = .ok (.iload 6, 2) := by decide +kernel
theorem dX7_firstOf_49 : decode cX7_firstOf 49 = .ok (.invokevirtual 53, 3) := by decide +kernel
theorem dX7_firstOf_52 : decode cX7_firstOf 52 = .ok (.aload_n 0, 1) := by decide +kernel
theorem dX7_firstOf_53 : decode cX7_firstOf 53 = .ok (.getfield 20, 3) := by decide +kernel
theorem dX7_firstOf_56 : decode cX7_firstOf 56 = .ok (.iload 6, 2) := by decide +kernel
theorem dX7_firstOf_58 : decode cX7_firstOf 58 = .ok (.invokevirtual 53, 3) := by decide +kernel
theorem dX7_firstOf_61 : decode cX7_firstOf 61 = .ok (.iadd, 1) := by decide +kernel
theorem dX7_firstOf_62 : decode cX7_firstOf 62 = .ok (.istore 7, 2) := by decide +kernel
theorem dX7_firstOf_64 : decode cX7_firstOf 64 = .ok (.iload 7, 2) := by decide +kernel
theorem dX7_firstOf_66 : decode cX7_firstOf 66 = .ok (.iload 4, 2) := by decide +kernel
theorem dX7_firstOf_68 : decode cX7_firstOf 68 = .ok (.if_icmp .ge 10, 3) := by decide +kernel
theorem dX7_firstOf_71 : decode cX7_firstOf 71 = .ok (.iload 7, 2) := by decide +kernel
theorem dX7_firstOf_73 : decode cX7_firstOf 73 = .ok (.istore 4, 2) := by decide +kernel
theorem dX7_firstOf_75 : decode cX7_firstOf 75 = .ok (.iload 6, 2) := by decide +kernel
theorem dX7_firstOf_77 : decode cX7_firstOf 77 = .ok (.istore_n 3, 1) := by decide +kernel
theorem dX7_firstOf_78 : decode cX7_firstOf 78 = .ok (.iinc 5 1, 3) := by decide +kernel
theorem dX7_firstOf_81 : decode cX7_firstOf 81 = .ok (.goto (-71), 3) := by decide +kernel
theorem dX7_firstOf_84 : decode cX7_firstOf 84 = .ok (.iload_n 3, 1) := by decide +kernel
theorem dX7_firstOf_85 : decode cX7_firstOf 85 = .ok (.ireturn, 1) := by decide +kernel
theorem dX7_hoursFrom_0 : decode cX7_hoursFrom 0 = .ok (.aload_n 0, 1) := by decide +kernel
theorem dX7_hoursFrom_1 : decode cX7_hoursFrom 1 = .ok (.getfield 20, 3) := by decide +kernel
theorem dX7_hoursFrom_4 : decode cX7_hoursFrom 4 = .ok (.iload_n 1, 1) := by decide +kernel
theorem dX7_hoursFrom_5 : decode cX7_hoursFrom 5 = .ok (.invokevirtual 53, 3) := by decide +kernel
theorem dX7_hoursFrom_8 : decode cX7_hoursFrom 8 = .ok (.ldc 57, 2) := by decide +kernel
theorem dX7_hoursFrom_10 : decode cX7_hoursFrom 10 = .ok (.if_icmp .ge 14, 3) := by decide +kernel
theorem dX7_hoursFrom_13 : decode cX7_hoursFrom 13 = .ok (.aload_n 0, 1) := by decide +kernel
theorem dX7_hoursFrom_14 : decode cX7_hoursFrom 14 = .ok (.getfield 20, 3) := by decide +kernel
theorem dX7_hoursFrom_17 : decode cX7_hoursFrom 17 = .ok (.iload_n 1, 1) := by decide +kernel
theorem dX7_hoursFrom_18 : decode cX7_hoursFrom 18 = .ok (.invokevirtual 53, 3) := by decide +kernel
theorem dX7_hoursFrom_21 : decode cX7_hoursFrom 21 = .ok (.goto 5, 3) := by decide +kernel
theorem dX7_hoursFrom_24 : decode cX7_hoursFrom 24 = .ok (.bipush (-4), 2) := by decide +kernel
theorem dX7_hoursFrom_26 : decode cX7_hoursFrom 26 = .ok (.ireturn, 1) := by decide +kernel
theorem dX7_firstFrom_0 : decode cX7_firstFrom 0 = .ok (.aload_n 0, 1) := by decide +kernel
theorem dX7_firstFrom_1 : decode cX7_firstFrom 1 = .ok (.getfield 20, 3) := by decide +kernel
theorem dX7_firstFrom_4 : decode cX7_firstFrom 4 = .ok (.iload_n 2, 1) := by decide +kernel
theorem dX7_firstFrom_5 : decode cX7_firstFrom 5 = .ok (.invokevirtual 53, 3) := by decide +kernel
theorem dX7_firstFrom_8 : decode cX7_firstFrom 8 = .ok (.ifCond .ne 8, 3) := by decide +kernel
theorem dX7_firstFrom_11 : decode cX7_firstFrom 11 = .ok (.bipush (-4), 2) := by decide +kernel
theorem dX7_firstFrom_13 : decode cX7_firstFrom 13 = .ok (.goto 9, 3) := by decide +kernel
theorem dX7_firstFrom_16 : decode cX7_firstFrom 16 = .ok (.aload_n 0, 1) := by decide +kernel
theorem dX7_firstFrom_17 : decode cX7_firstFrom 17 = .ok (.aload_n 1, 1) := by decide +kernel
theorem dX7_firstFrom_18 : decode cX7_firstFrom 18 = .ok (.iload_n 2, 1) := by decide +kernel
theorem dX7_firstFrom_19 : decode cX7_firstFrom 19 = .ok (.invokevirtual 61, 3) := by decide +kernel
theorem dX7_firstFrom_22 : decode cX7_firstFrom 22 = .ok (.ireturn, 1) := by decide +kernel
theorem dJ9_min_7cf53_0 : decode cJ9_min_7cf53 0 = .ok (.iload_n 0, 1) := by decide +kernel
theorem dJ9_min_7cf53_1 : decode cJ9_min_7cf53 1 = .ok (.iload_n 1, 1) := by decide +kernel
theorem dJ9_min_7cf53_2 : decode cJ9_min_7cf53 2 = .ok (.if_icmp .gt 7, 3) := by decide +kernel
theorem dJ9_min_7cf53_5 : decode cJ9_min_7cf53 5 = .ok (.iload_n 0, 1) := by decide +kernel
theorem dJ9_min_7cf53_6 : decode cJ9_min_7cf53 6 = .ok (.goto 4, 3) := by decide +kernel
theorem dJ9_min_7cf53_9 : decode cJ9_min_7cf53 9 = .ok (.iload_n 1, 1) := by decide +kernel
theorem dJ9_min_7cf53_10 : decode cJ9_min_7cf53 10 = .ok (.ireturn, 1) := by decide +kernel
theorem dJ0_length_8abf5_0 : decode cJ0_length_8abf5 0 = .ok (.aload_n 0, 1) := by decide +kernel
theorem dJ0_length_8abf5_1 : decode cJ0_length_8abf5 1 = .ok (.getfield 9, 3) := by decide +kernel
theorem dJ0_length_8abf5_4 : decode cJ0_length_8abf5 4 = .ok (.arraylength, 1) := by decide +kernel
theorem dJ0_length_8abf5_5 : decode cJ0_length_8abf5 5 = .ok (.aload_n 0, 1) := by decide +kernel
theorem dJ0_length_8abf5_6 : decode cJ0_length_8abf5 6 = .ok (.invokevirtual 335, 3) := by decide +kernel
theorem dJ0_length_8abf5_9 : decode cJ0_length_8abf5 9 = .ok (.ishr, 1) := by decide +kernel
theorem dJ0_length_8abf5_10 : decode cJ0_length_8abf5 10 = .ok (.ireturn, 1) := by decide +kernel
theorem dJ0_charAt_5068e_0 : decode cJ0_charAt_5068e 0 = .ok (.aload_n 0, 1) := by decide +kernel
theorem dJ0_charAt_5068e_1 : decode cJ0_charAt_5068e 1 = .ok (.invokevirtual 492, 3) := by decide +kernel
theorem dJ0_charAt_5068e_4 : decode cJ0_charAt_5068e 4 = .ok (.ifCond .eq 12, 3) := by decide +kernel
theorem dJ0_charAt_5068e_7 : decode cJ0_charAt_5068e 7 = .ok (.aload_n 0, 1) := by decide +kernel
theorem dJ0_charAt_5068e_8 : decode cJ0_charAt_5068e 8 = .ok (.getfield 9, 3) := by decide +kernel
theorem dJ0_charAt_5068e_11 : decode cJ0_charAt_5068e 11 = .ok (.iload_n 1, 1) := by decide +kernel
theorem dJ0_charAt_5068e_12 : decode cJ0_charAt_5068e 12 = .ok (.invokestatic 495, 3) := by decide +kernel
theorem dJ0_charAt_5068e_15 : decode cJ0_charAt_5068e 15 = .ok (.ireturn, 1) := by decide +kernel
theorem dJ0_charAt_5068e_16 : decode cJ0_charAt_5068e 16 = .ok (.aload_n 0, 1) := by decide +kernel
theorem dJ0_charAt_5068e_17 : decode cJ0_charAt_5068e 17 = .ok (.getfield 9, 3) := by decide +kernel
theorem dJ0_charAt_5068e_20 : decode cJ0_charAt_5068e 20 = .ok (.iload_n 1, 1) := by decide +kernel
theorem dJ0_charAt_5068e_21 : decode cJ0_charAt_5068e 21 = .ok (.invokestatic 498, 3) := by decide +kernel
theorem dJ0_charAt_5068e_24 : decode cJ0_charAt_5068e 24 = .ok (.ireturn, 1) := by decide +kernel
theorem dJ0_coder_7d493_0 : decode cJ0_coder_7d493 0 = .ok (.getstatic 38, 3) := by decide +kernel
theorem dJ0_coder_7d493_3 : decode cJ0_coder_7d493 3 = .ok (.ifCond .eq 10, 3) := by decide +kernel
theorem dJ0_coder_7d493_6 : decode cJ0_coder_7d493 6 = .ok (.aload_n 0, 1) := by decide +kernel
theorem dJ0_coder_7d493_7 : decode cJ0_coder_7d493 7 = .ok (.getfield 15, 3) := by decide +kernel
theorem dJ0_coder_7d493_10 : decode cJ0_coder_7d493 10 = .ok (.goto 4, 3) := by decide +kernel
theorem dJ0_coder_7d493_13 : decode cJ0_coder_7d493 13 = .ok (.iconst 1, 1) := by decide +kernel
theorem dJ0_coder_7d493_14 : decode cJ0_coder_7d493 14 = .ok (.ireturn, 1) := by decide +kernel
theorem dJ0_isLatin1_aae02_0 : decode cJ0_isLatin1_aae02 0 = .ok (.getstatic 38, 3) := by decide +kernel
theorem dJ0_isLatin1_aae02_3 : decode cJ0_isLatin1_aae02 3 = .ok (.ifCond .eq 14, 3) := by decide +kernel
theorem dJ0_isLatin1_aae02_6 : decode cJ0_isLatin1_aae02 6 = .ok (.aload_n 0, 1) := by decide +kernel
theorem dJ0_isLatin1_aae02_7 : decode cJ0_isLatin1_aae02 7 = .ok (.getfield 15, 3) := by decide +kernel
theorem dJ0_isLatin1_aae02_10 : decode cJ0_isLatin1_aae02 10 = .ok (.ifCond .ne 7, 3) := by decide +kernel
theorem dJ0_isLatin1_aae02_13 : decode cJ0_isLatin1_aae02 13 = .ok (.iconst 1, 1) := by decide +kernel
theorem dJ0_isLatin1_aae02_14 : decode cJ0_isLatin1_aae02 14 = .ok (.goto 4, 3) := by decide +kernel
theorem dJ0_isLatin1_aae02_17 : decode cJ0_isLatin1_aae02 17 = .ok (.iconst 0, 1) := by decide +kernel
theorem dJ0_isLatin1_aae02_18 : decode cJ0_isLatin1_aae02 18 = .ok (.ireturn, 1) := by decide +kernel
theorem dJ0_checkIndex_df160_0 : decode cJ0_checkIndex_df160 0 = .ok (.iload_n 0, 1) := by decide +kernel
theorem dJ0_checkIndex_df160_1 : decode cJ0_checkIndex_df160 1 = .ok (.iload_n 1, 1) := by decide +kernel
theorem dJ0_checkIndex_df160_2 : decode cJ0_checkIndex_df160 2 = .ok (.getstatic 1053, 3) := by decide +kernel
theorem dJ0_checkIndex_df160_5 : decode cJ0_checkIndex_df160 5 = .ok (.invokestatic 1059, 3) := by decide +kernel
theorem dJ0_checkIndex_df160_8 : decode cJ0_checkIndex_df160 8 = .ok (.pop, 1) := by decide +kernel
theorem dJ0_checkIndex_df160_9 : decode cJ0_checkIndex_df160 9 = .ok (.return_, 1) := by decide +kernel
theorem dJ1_charAt_3b067_0 : decode cJ1_charAt_3b067 0 = .ok (.iload_n 1, 1) := by decide +kernel
theorem dJ1_charAt_3b067_1 : decode cJ1_charAt_3b067 1 = .ok (.aload_n 0, 1) := by decide +kernel
theorem dJ1_charAt_3b067_2 : decode cJ1_charAt_3b067 2 = .ok (.arraylength, 1) := by decide +kernel
theorem dJ1_charAt_3b067_3 : decode cJ1_charAt_3b067 3 = .ok (.invokestatic 9, 3) := by decide +kernel
theorem dJ1_charAt_3b067_6 : decode cJ1_charAt_3b067 6 = .ok (.aload_n 0, 1) := by decide +kernel
theorem dJ1_charAt_3b067_7 : decode cJ1_charAt_3b067 7 = .ok (.iload_n 1, 1) := by decide +kernel
theorem dJ1_charAt_3b067_8 : decode cJ1_charAt_3b067 8 = .ok (.baload, 1) := by decide +kernel
theorem dJ1_charAt_3b067_9 : decode cJ1_charAt_3b067 9 = .ok (.sipush 255, 3) := by decide +kernel
theorem dJ1_charAt_3b067_12 : decode cJ1_charAt_3b067 12 = .ok (.iand, 1) := by decide +kernel
theorem dJ1_charAt_3b067_13 : decode cJ1_charAt_3b067 13 = .ok (.i2c, 1) := by decide +kernel
theorem dJ1_charAt_3b067_14 : decode cJ1_charAt_3b067 14 = .ok (.ireturn, 1) := by decide +kernel
theorem dJ2_getChar_3b067_0 : decode cJ2_getChar_3b067 0 = .ok (.getstatic 44, 3) := by decide +kernel
theorem dJ2_getChar_3b067_3 : decode cJ2_getChar_3b067 3 = .ok (.ifCond .ne 25, 3) := by decide +kernel
theorem dJ2_getChar_3b067_6 : decode cJ2_getChar_3b067 6 = .ok (.iload_n 1, 1) := by decide +kernel
theorem dJ2_getChar_3b067_7 : decode cJ2_getChar_3b067 7 = .ok (.ifCond .lt 11, 3) := by decide +kernel
theorem dJ2_getChar_3b067_10 : decode cJ2_getChar_3b067 10 = .ok (.iload_n 1, 1) := by decide +kernel
theorem dJ2_getChar_3b067_11 : decode cJ2_getChar_3b067 11 = .ok (.aload_n 0, 1) := by decide +kernel
theorem dJ2_getChar_3b067_12 : decode cJ2_getChar_3b067 12 = .ok (.invokestatic 48, 3) := by decide +kernel
theorem dJ2_getChar_3b067_15 : decode cJ2_getChar_3b067 15 = .ok (.if_icmp .lt 13, 3) := by decide +kernel
theorem dJ2_getChar_3b067_18 : decode cJ2_getChar_3b067 18 = .ok (.new 52, 3) := by decide +kernel
theorem dJ2_getChar_3b067_21 : decode cJ2_getChar_3b067 21 = .ok (.dup, 1) := by decide +kernel
theorem dJ2_getChar_3b067_22 : decode cJ2_getChar_3b067 22 = .ok (.ldc 54, 2) := by decide +kernel
theorem dJ2_getChar_3b067_24 : decode cJ2_getChar_3b067 24 = .ok (.invokespecial 56, 3) := by decide +kernel
theorem dJ2_getChar_3b067_27 : decode cJ2_getChar_3b067 27 = .ok (.athrow, 1) := by decide +kernel
theorem dJ2_getChar_3b067_28 : decode cJ2_getChar_3b067 28 = .ok (.iload_n 1, 1) := by decide +kernel
theorem dJ2_getChar_3b067_29 : decode cJ2_getChar_3b067 29 = .ok (.iconst 1, 1) := by decide +kernel
theorem dJ2_getChar_3b067_30 : decode cJ2_getChar_3b067 30 = .ok (.ishl, 1) := by decide +kernel
theorem dJ2_getChar_3b067_31 : decode cJ2_getChar_3b067 31 = .ok (.istore_n 1, 1) := by decide +kernel
theorem dJ2_getChar_3b067_32 : decode cJ2_getChar_3b067 32 = .ok (.aload_n 0, 1) := by decide +kernel
theorem dJ2_getChar_3b067_33 : decode cJ2_getChar_3b067 33 = .ok (.iload_n 1, 1) := by decide +kernel
theorem dJ2_getChar_3b067_34 : decode cJ2_getChar_3b067 34 = .ok (.iinc 1 1, 3) := by decide +kernel
theorem dJ2_getChar_3b067_37 : decode cJ2_getChar_3b067 37 = .ok (.baload, 1) := by decide +kernel
theorem dJ2_getChar_3b067_38 : decode cJ2_getChar_3b067 38 = .ok (.sipush 255, 3) := by decide +kernel
theorem dJ2_getChar_3b067_41 : decode cJ2_getChar_3b067 41 = .ok (.iand, 1) := by decide +kernel
theorem dJ2_getChar_3b067_42 : decode cJ2_getChar_3b067 42 = .ok (.getstatic 59, 3) := by decide +kernel
theorem dJ2_getChar_3b067_45 : decode cJ2_getChar_3b067 45 = .ok (.ishl, 1) := by decide +kernel
theorem dJ2_getChar_3b067_46 : decode cJ2_getChar_3b067 46 = .ok (.aload_n 0, 1) := by decide +kernel
theorem dJ2_getChar_3b067_47 : decode cJ2_getChar_3b067 47 = .ok (.iload_n 1, 1) := by decide +kernel
theorem dJ2_getChar_3b067_48 : decode cJ2_getChar_3b067 48 = .ok (.baload, 1) := by decide +kernel
theorem dJ2_getChar_3b067_49 : decode cJ2_getChar_3b067 49 = .ok (.sipush 255, 3) := by decide +kernel
theorem dJ2_getChar_3b067_52 : decode cJ2_getChar_3b067 52 = .ok (.iand, 1) := by decide +kernel
theorem dJ2_getChar_3b067_53 : decode cJ2_getChar_3b067 53 = .ok (.getstatic 63, 3) := by decide +kernel
theorem dJ2_getChar_3b067_56 : decode cJ2_getChar_3b067 56 = .ok (.ishl, 1) := by decide +kernel
theorem dJ2_getChar_3b067_57 : decode cJ2_getChar_3b067 57 = .ok (.ior, 1) := by decide +kernel
theorem dJ2_getChar_3b067_58 : decode cJ2_getChar_3b067 58 = .ok (.i2c, 1) := by decide +kernel
theorem dJ2_getChar_3b067_59 : decode cJ2_getChar_3b067 59 = .ok (.ireturn, 1) := by decide +kernel
theorem dJ2_length_9d52b_0 : decode cJ2_length_9d52b 0 = .ok (.aload_n 0, 1) := by decide +kernel
theorem dJ2_length_9d52b_1 : decode cJ2_length_9d52b 1 = .ok (.arraylength, 1) := by decide +kernel
theorem dJ2_length_9d52b_2 : decode cJ2_length_9d52b 2 = .ok (.iconst 1, 1) := by decide +kernel
theorem dJ2_length_9d52b_3 : decode cJ2_length_9d52b 3 = .ok (.ishr, 1) := by decide +kernel
theorem dJ2_length_9d52b_4 : decode cJ2_length_9d52b 4 = .ok (.ireturn, 1) := by decide +kernel
theorem dJ2_charAt_3b067_0 : decode cJ2_charAt_3b067 0 = .ok (.iload_n 1, 1) := by decide +kernel
theorem dJ2_charAt_3b067_1 : decode cJ2_charAt_3b067 1 = .ok (.aload_n 0, 1) := by decide +kernel
theorem dJ2_charAt_3b067_2 : decode cJ2_charAt_3b067 2 = .ok (.invokestatic 67, 3) := by decide +kernel
theorem dJ2_charAt_3b067_5 : decode cJ2_charAt_3b067 5 = .ok (.aload_n 0, 1) := by decide +kernel
theorem dJ2_charAt_3b067_6 : decode cJ2_charAt_3b067 6 = .ok (.iload_n 1, 1) := by decide +kernel
theorem dJ2_charAt_3b067_7 : decode cJ2_charAt_3b067 7 = .ok (.invokestatic 71, 3) := by decide +kernel
theorem dJ2_charAt_3b067_10 : decode cJ2_charAt_3b067 10 = .ok (.ireturn, 1) := by decide +kernel
theorem dJ2_checkIndex_2214a_0 : decode cJ2_checkIndex_2214a 0 = .ok (.iload_n 0, 1) := by decide +kernel
theorem dJ2_checkIndex_2214a_1 : decode cJ2_checkIndex_2214a 1 = .ok (.aload_n 1, 1) := by decide +kernel
theorem dJ2_checkIndex_2214a_2 : decode cJ2_checkIndex_2214a 2 = .ok (.invokestatic 48, 3) := by decide +kernel
theorem dJ2_checkIndex_2214a_5 : decode cJ2_checkIndex_2214a 5 = .ok (.invokestatic 414, 3) := by decide +kernel
theorem dJ2_checkIndex_2214a_8 : decode cJ2_checkIndex_2214a 8 = .ok (.return_, 1) := by decide +kernel
theorem dJ3_checkIndex_8e157_0 : decode cJ3_checkIndex_8e157 0 = .ok (.iload_n 0, 1) := by decide +kernel
theorem dJ3_checkIndex_8e157_1 : decode cJ3_checkIndex_8e157 1 = .ok (.ifCond .lt 8, 3) := by decide +kernel
theorem dJ3_checkIndex_8e157_4 : decode cJ3_checkIndex_8e157 4 = .ok (.iload_n 0, 1) := by decide +kernel
theorem dJ3_checkIndex_8e157_5 : decode cJ3_checkIndex_8e157 5 = .ok (.iload_n 1, 1) := by decide +kernel
theorem dJ3_checkIndex_8e157_6 : decode cJ3_checkIndex_8e157 6 = .ok (.if_icmp .lt 10, 3) := by decide +kernel
theorem dJ3_checkIndex_8e157_9 : decode cJ3_checkIndex_8e157 9 = .ok (.aload_n 2, 1) := by decide +kernel
theorem dJ3_checkIndex_8e157_10 : decode cJ3_checkIndex_8e157 10 = .ok (.iload_n 0, 1) := by decide +kernel
theorem dJ3_checkIndex_8e157_11 : decode cJ3_checkIndex_8e157 11 = .ok (.iload_n 1, 1) := by decide +kernel
theorem dJ3_checkIndex_8e157_12 : decode cJ3_checkIndex_8e157 12 = .ok (.invokestatic 95, 3) := by decide +kernel
theorem dJ3_checkIndex_8e157_15 : decode cJ3_checkIndex_8e157 15 = .ok (.athrow, 1) := by decide +kernel
theorem dJ3_checkIndex_8e157_16 : decode cJ3_checkIndex_8e157 16 = .ok (.iload_n 0, 1) := by decide +kernel
theorem dJ3_checkIndex_8e157_17 : decode cJ3_checkIndex_8e157 17 = .ok (.ireturn, 1) := by decide +kernel
end
section
theorem dX8_init_0 : decode cX8_init 0 = .ok (.aload_n 0, 1) := by decide +kernel
theorem dX8_init_1 : decode cX8_init 1 = .ok (.invokespecial 1, 3) := by decide +kernel
theorem dX8_init_4 : decode cX8_init 4 = .ok (.aload_n 0, 1) := by decide +kernel
theorem dX8_init_5 : decode cX8_init 5 = .ok (.new 7, 3) := by decide +kernel
theorem dX8_init_8 : decode cX8_init 8 = .ok (.dup, 1) := by decide +kernel
theorem dX8_init_9 : decode cX8_init 9 = .ok (.invokespecial 9, 3) := by decide +kernel
theorem dX8_init_12 : decode cX8_init 12 = .ok (.putfield 10, 3) := by decide +kernel
theorem dX8_init_15 : decode cX8_init 15 = .ok (.aload_n 0, 1) := by decide +kernel
theorem dX8_init_16 : decode cX8_init 16 = .ok (.new 16, 3) := by decide +kernel
theorem dX8_init_19 : decode cX8_init 19 = .ok (.dup, 1) := by decide +kernel
theorem dX8_init_20 : decode cX8_init 20 = .ok (.invokespecial 18, 3) := by decide +kernel
theorem dX8_init_23 : decode cX8_init 23 = .ok (.putfield 19, 3) := by decide +kernel
theorem dX8_init_26 : decode cX8_init 26 = .ok (.aload_n 0, 1) := by decide +kernel
theorem dX8_init_27 : decode cX8_init 27 = .ok (.new 23, 3) := by decide +kernel
theorem dX8_init_30 : decode cX8_init 30 = .ok (.dup, 1) := by decide +kernel
theorem dX8_init_31 : decode cX8_init 31 = .ok (.invokespecial 25, 3) := by decide +kernel
theorem dX8_init_34 : decode cX8_init 34 = .ok (.putfield 26, 3) := by decide +kernel
theorem dX8_init_37 : decode cX8_init 37 = .ok (.aload_n 0, 1) := by decide +kernel
theorem dX8_init_38 : decode cX8_init 38 = .ok (.new 30, 3) := by decide +kernel
theorem dX8_init_41 : decode cX8_init 41 = .ok (.dup, 1) := by decide +kernel
theorem dX8_init_42 : decode cX8_init 42 = .ok (.invokespecial 32, 3) := by decide +kernel
theorem dX8_init_45 : decode cX8_init 45 = .ok (.putfield 33, 3) := by decide +kernel
theorem dX8_init_48 : decode cX8_init 48 = .ok (.aload_n 0, 1) := by decide +kernel
theorem dX8_init_49 : decode cX8_init 49 = .ok (.new 37, 3) := by decide +kernel
theorem dX8_init_52 : decode cX8_init 52 = .ok (.dup, 1) := by decide +kernel
theorem dX8_init_53 : decode cX8_init 53 = .ok (.bipush 8, 2) := by decide +kernel
theorem dX8_init_55 : decode cX8_init 55 = .ok (.invokespecial 39, 3) := by decide +kernel
theorem dX8_init_58 : decode cX8_init 58 = .ok (.putfield 42, 3) := by decide +kernel
theorem dX8_init_61 : decode cX8_init 61 = .ok (.aload_n 0, 1) := by decide +kernel
theorem dX8_init_62 : decode cX8_init 62 = .ok (.new 37, 3) := by decide +kernel
theorem dX8_init_65 : decode cX8_init 65 = .ok (.dup, 1) := by decide +kernel
theorem dX8_init_66 : decode cX8_init 66 = .ok (.iconst 2, 1) := by decide +kernel
theorem dX8_init_67 : decode cX8_init 67 = .ok (.invokespecial 39, 3) := by decide +kernel
theorem dX8_init_70 : decode cX8_init 70 = .ok (.putfield 46, 3) := by decide +kernel
theorem dX8_init_73 : decode cX8_init 73 = .ok (.aload_n 0, 1) := by decide +kernel
theorem dX8_init_74 : decode cX8_init 74 = .ok (.new 49, 3) := by decide +kernel
theorem dX8_init_77 : decode cX8_init 77 = .ok (.dup, 1) := by decide +kernel
theorem dX8_init_78 : decode cX8_init 78 = .ok (.bipush 8, 2) := by decide +kernel
theorem dX8_init_80 : decode cX8_init 80 = .ok (.invokespecial 51, 3) := by decide +kernel
theorem dX8_init_83 : decode cX8_init 83 = .ok (.putfield 52, 3) := by decide +kernel
theorem dX8_init_86 : decode cX8_init 86 = .ok (.aload_n 0, 1) := by decide +kernel
theorem dX8_init_87 : decode cX8_init 87 = .ok (.new 49, 3) := by decide +kernel
theorem dX8_init_90 : decode cX8_init 90 = .ok (.dup, 1) := by decide +kernel
theorem dX8_init_91 : decode cX8_init 91 = .ok (.bipush 8, 2) := by decide +kernel
theorem dX8_init_93 : decode cX8_init 93 = .ok (.invokespecial 51, 3) := by decide +kernel
theorem dX8_init_96 : decode cX8_init 96 = .ok (.putfield 56, 3) := by decide +kernel
theorem dX8_init_99 : decode cX8_init 99 = .ok (.aload_n 0, 1) := by decide +kernel
theorem dX8_init_100 : decode cX8_init 100 = .ok (.new 30, 3) := by decide +kernel
theorem dX8_init_103 : decode cX8_init 103 = .ok (.dup, 1) := by decide +kernel
theorem dX8_init_104 : decode cX8_init 104 = .ok (.invokespecial 32, 3) := by decide +kernel
theorem dX8_init_107 : decode cX8_init 107 = .ok (.putfield 59, 3) := by decide +kernel
theorem dX8_init_110 : decode cX8_init 110 = .ok (.aload_n 0, 1) := by decide +kernel
theorem dX8_init_111 : decode cX8_init 111 = .ok (.new 62, 3) := by decide +kernel
theorem dX8_init_114 : decode cX8_init 114 = .ok (.dup, 1) := by decide +kernel
theorem dX8_init_115 : decode cX8_init 115 = .ok (.invokespecial 64, 3) := by decide +kernel
theorem dX8_init_118 : decode cX8_init 118 = .ok (.putfield 65, 3) := by decide +kernel
theorem dX8_init_121 : decode cX8_init 121 = .ok (.aload_n 0, 1) := by decide +kernel
theorem dX8_init_122 : decode cX8_init 122 = .ok (.new 62, 3) := by decide +kernel
theorem dX8_init_125 : decode cX8_init 125 = .ok (.dup, 1) := by decide +kernel
theorem dX8_init_126 : decode cX8_init 126 = .ok (.invokespecial 64, 3) := by decide +kernel
theorem dX8_init_129 : decode cX8_init 129 = .ok (.putfield 69, 3) := by decide +kernel
theorem dX8_init_132 : decode cX8_init 132 = .ok (.aload_n 0, 1) := by decide +kernel
theorem dX8_init_133 : decode cX8_init 133 = .ok (.new 72, 3) := by decide +kernel
theorem dX8_init_136 : decode cX8_init 136 = .ok (.dup, 1) := by decide +kernel
theorem dX8_init_137 : decode cX8_init 137 = .ok (.invokespecial 74, 3) := by decide +kernel
theorem dX8_init_140 : decode cX8_init 140 = .ok (.putfield 75, 3) := by decide +kernel
theorem dX8_init_143 : decode cX8_init 143 = .ok (.aload_n 0, 1) := by decide +kernel
theorem dX8_init_144 : decode cX8_init 144 = .ok (.new 72, 3) := by decide +kernel
theorem dX8_init_147 : decode cX8_init 147 = .ok (.dup, 1) := by decide +kernel
theorem dX8_init_148 : decode cX8_init 148 = .ok (.invokespecial 74, 3) := by decide +kernel
theorem dX8_init_151 : decode cX8_init 151 = .ok (.putfield 79, 3) := by decide +kernel
theorem dX8_init_154 : decode cX8_init 154 = .ok (.iconst 0, 1) := by decide +kernel
theorem dX8_init_155 : decode cX8_init 155 = .ok (.istore_n 1, 1) := by decide +kernel
theorem dX8_init_156 : decode cX8_init 156 = .ok (.iload_n 1, 1) := by decide +kernel
theorem dX8_init_157 : decode cX8_init 157 = .ok (.ldc 82, 2) := by decide +kernel
theorem dX8_init_159 : decode cX8_init 159 = .ok (.invokevirtual 84, 3) := by decide +kernel
theorem dX8_init_162 : decode cX8_init 162 = .ok (.if_icmp .ge 23, 3) := by decide +kernel
theorem dX8_init_165 : decode cX8_init 165 = .ok (.aload_n 0, 1) := by decide +kernel
theorem dX8_init_166 : decode cX8_init 166 = .ok (.getfield 10, 3) := by decide +kernel
theorem dX8_init_169 : decode cX8_init 169 = .ok (.ldc 82, 2) := by decide +kernel
theorem dX8_init_171 : decode cX8_init 171 = .ok (.iload_n 1, 1) := by decide +kernel
theorem dX8_init_172 : decode cX8_init 172 = .ok (.invokevirtual 90, 3) := by decide +kernel
theorem dX8_init_175 : decode cX8_init 175 = .ok (.invokevirtual 94, 3) := by decide +kernel
theorem dX8_init_178 : decode cX8_init 178 = .ok (.pop, 1) := by decide +kernel
theorem dX8_init_179 : decode cX8_init 179 = .ok (.iinc 1 1, 3) := by decide +kernel
theorem dX8_init_182 : decode cX8_init 182 = .ok (.goto (-26), 3) := by decide +kernel
theorem dX8_init_185 : decode cX8_init 185 = .ok (.aload_n 0, 1) := by decide +kernel
theorem dX8_init_186 : decode cX8_init 186 = .ok (.invokevirtual 98, 3) := by decide +kernel
theorem dX8_init_189 : decode cX8_init 189 = .ok (.pop, 1) := by decide +kernel
theorem dX8_init_190 : decode cX8_init 190 = .ok (.aload_n 0, 1) := by decide +kernel
theorem dX8_init_191 : decode cX8_init 191 = .ok (.getfield 10, 3) := by decide +kernel
theorem dX8_init_194 : decode cX8_init 194 = .ok (.iconst 0, 1) := by decide +kernel
theorem dX8_init_195 : decode cX8_init 195 = .ok (.putfield 102, 3) := by decide +kernel
theorem dX8_init_198 : decode cX8_init 198 = .ok (.return_, 1) := by decide +kernel
theorem dX8_write_0 : decode cX8_write 0 = .ok (.iload_n 1, 1) := by decide +kernel
theorem dX8_write_1 : decode cX8_write 1 = .ok (.bipush 32, 2) := by decide +kernel
theorem dX8_write_3 : decode cX8_write 3 = .ok (.bipush 126, 2) := by decide +kernel
theorem dX8_write_5 : decode cX8_write 5 = .ok (.invokestatic 105, 3) := by decide +kernel
theorem dX8_write_8 : decode cX8_write 8 = .ok (.ifCond .ne 5, 3) := by decide +kernel
theorem dX8_write_11 : decode cX8_write 11 = .ok (.iconst (-1), 1) := by decide +kernel
theorem dX8_write_12 : decode cX8_write 12 = .ok (.ireturn, 1) := by decide +kernel
theorem dX8_write_13 : decode cX8_write 13 = .ok (.aload_n 0, 1) := by decide +kernel
theorem dX8_write_14 : decode cX8_write 14 = .ok (.getfield 10, 3) := by decide +kernel
theorem dX8_write_17 : decode cX8_write 17 = .ok (.iload_n 1, 1) := by decide +kernel
theorem dX8_write_18 : decode cX8_write 18 = .ok (.invokevirtual 94, 3) := by decide +kernel
theorem dX8_write_21 : decode cX8_write 21 = .ok (.ifCond .eq 13, 3) := by decide +kernel
theorem dX8_write_24 : decode cX8_write 24 = .ok (.aload_n 0, 1) := by decide +kernel
theorem dX8_write_25 : decode cX8_write 25 = .ok (.getfield 10, 3) := by decide +kernel
theorem dX8_write_28 : decode cX8_write 28 = .ok (.getfield 102, 3) := by decide +kernel
theorem dX8_write_31 : decode cX8_write 31 = .ok (.goto 5, 3) := by decide +kernel
theorem dX8_write_34 : decode cX8_write 34 = .ok (.bipush (-3), 2) := by decide +kernel
theorem dX8_write_36 : decode cX8_write 36 = .ok (.ireturn, 1) := by decide +kernel
theorem dX8_wipe_0 : decode cX8_wipe 0 = .ok (.aload_n 0, 1) := by decide +kernel
theorem dX8_wipe_1 : decode cX8_wipe 1 = .ok (.getfield 10, 3) := by decide +kernel
theorem dX8_wipe_4 : decode cX8_wipe 4 = .ok (.getfield 102, 3) := by decide +kernel
theorem dX8_wipe_7 : decode cX8_wipe 7 = .ok (.istore_n 1, 1) := by decide +kernel
theorem dX8_wipe_8 : decode cX8_wipe 8 = .ok (.aload_n 0, 1) := by decide +kernel
theorem dX8_wipe_9 : decode cX8_wipe 9 = .ok (.getfield 10, 3) := by decide +kernel
theorem dX8_wipe_12 : decode cX8_wipe 12 = .ok (.iconst 0, 1) := by decide +kernel
theorem dX8_wipe_13 : decode cX8_wipe 13 = .ok (.putfield 102, 3) := by decide +kernel
theorem dX8_wipe_16 : decode cX8_wipe 16 = .ok (.iload_n 1, 1) := by decide +kernel
theorem dX8_wipe_17 : decode cX8_wipe 17 = .ok (.ireturn, 1) := by decide +kernel
theorem dX8_fault_0 : decode cX8_fault 0 = .ok (.aload_n 0, 1) := by decide +kernel
theorem dX8_fault_1 : decode cX8_fault 1 = .ok (.getfield 19, 3) := by decide +kernel
theorem dX8_fault_4 : decode cX8_fault 4 = .ok (.aload_n 0, 1) := by decide +kernel
theorem dX8_fault_5 : decode cX8_fault 5 = .ok (.getfield 10, 3) := by decide +kernel
theorem dX8_fault_8 : decode cX8_fault 8 = .ok (.invokevirtual 109, 3) := by decide +kernel
theorem dX8_fault_11 : decode cX8_fault 11 = .ok (.ireturn, 1) := by decide +kernel
theorem dX8_lay_0 : decode cX8_lay 0 = .ok (.aload_n 0, 1) := by decide +kernel
theorem dX8_lay_1 : decode cX8_lay 1 = .ok (.invokevirtual 98, 3) := by decide +kernel
theorem dX8_lay_4 : decode cX8_lay 4 = .ok (.ifCond .eq 13, 3) := by decide +kernel
theorem dX8_lay_7 : decode cX8_lay 7 = .ok (.aload_n 0, 1) := by decide +kernel
theorem dX8_lay_8 : decode cX8_lay 8 = .ok (.getfield 26, 3) := by decide +kernel
theorem dX8_lay_11 : decode cX8_lay 11 = .ok (.getfield 113, 3) := by decide +kernel
theorem dX8_lay_14 : decode cX8_lay 14 = .ok (.goto 5, 3) := by decide +kernel
theorem dX8_lay_17 : decode cX8_lay 17 = .ok (.bipush (-2), 2) := by decide +kernel
theorem dX8_lay_19 : decode cX8_lay 19 = .ok (.ireturn, 1) := by decide +kernel
theorem dX8_place_0 : decode cX8_place 0 = .ok (.aload_n 0, 1) := by decide +kernel
theorem dX8_place_1 : decode cX8_place 1 = .ok (.getfield 26, 3) := by decide +kernel
theorem dX8_place_4 : decode cX8_place 4 = .ok (.iload_n 1, 1) := by decide +kernel
theorem dX8_place_5 : decode cX8_place 5 = .ok (.invokevirtual 116, 3) := by decide +kernel
theorem dX8_place_8 : decode cX8_place 8 = .ok (.ifCond .eq 17, 3) := by decide +kernel
theorem dX8_place_11 : decode cX8_place 11 = .ok (.aload_n 0, 1) := by decide +kernel
theorem dX8_place_12 : decode cX8_place 12 = .ok (.getfield 26, 3) := by decide +kernel
theorem dX8_place_15 : decode cX8_place 15 = .ok (.getfield 119, 3) := by decide +kernel
theorem dX8_place_18 : decode cX8_place 18 = .ok (.iload_n 1, 1) := by decide +kernel
theorem dX8_place_19 : decode cX8_place 19 = .ok (.invokevirtual 122, 3) := by decide +kernel
theorem dX8_place_22 : decode cX8_place 22 = .ok (.goto 4, 3) := by decide +kernel
theorem dX8_place_25 : decode cX8_place 25 = .ok (.iconst (-1), 1) := by decide +kernel
theorem dX8_place_26 : decode cX8_place 26 = .ok (.ireturn, 1) := by decide +kernel
theorem dX8_drum_0 : decode cX8_drum 0 = .ok (.aload_n 0, 1) := by decide +kernel
theorem dX8_drum_1 : decode cX8_drum 1 = .ok (.getfield 26, 3) := by decide +kernel
theorem dX8_drum_4 : decode cX8_drum 4 = .ok (.iload_n 1, 1) := by decide +kernel
theorem dX8_drum_5 : decode cX8_drum 5 = .ok (.invokevirtual 126, 3) := by decide +kernel
theorem dX8_drum_8 : decode cX8_drum 8 = .ok (.ifCond .eq 14, 3) := by decide +kernel
theorem dX8_drum_11 : decode cX8_drum 11 = .ok (.aload_n 0, 1) := by decide +kernel
theorem dX8_drum_12 : decode cX8_drum 12 = .ok (.getfield 26, 3) := by decide +kernel
theorem dX8_drum_15 : decode cX8_drum 15 = .ok (.iload_n 2, 1) := by decide +kernel
theorem dX8_drum_16 : decode cX8_drum 16 = .ok (.invokevirtual 116, 3) := by decide +kernel
theorem dX8_drum_19 : decode cX8_drum 19 = .ok (.ifCond .ne 5, 3) := by decide +kernel
theorem dX8_drum_22 : decode cX8_drum 22 = .ok (.iconst (-1), 1) := by decide +kernel
theorem dX8_drum_23 : decode cX8_drum 23 = .ok (.ireturn, 1) := by decide +kernel
theorem dX8_drum_24 : decode cX8_drum 24 = .ok (.iload_n 3, 1) := by decide +kernel
theorem dX8_drum_25 : decode cX8_drum 25 = .ok (.tableswitch 79 0 2 #[27, 41, 55], 27) := by decide +kernel
theorem dX8_drum_52 : decode cX8_drum 52 = .ok (.aload_n 0, 1) := by decide +kernel
theorem dX8_drum_53 : decode cX8_drum 53 = .ok (.getfield 33, 3) := by decide +kernel
theorem dX8_drum_56 : decode cX8_drum 56 = .ok (.aload_n 0, 1) := by decide +kernel
theorem dX8_drum_57 : decode cX8_drum 57 = .ok (.getfield 26, 3) := by decide +kernel
theorem dX8_drum_60 : decode cX8_drum 60 = .ok (.iload_n 1, 1) := by decide +kernel
theorem dX8_drum_61 : decode cX8_drum 61 = .ok (.iload_n 2, 1) := by decide +kernel
theorem dX8_drum_62 : decode cX8_drum 62 = .ok (.invokevirtual 129, 3) := by decide +kernel
theorem dX8_drum_65 : decode cX8_drum 65 = .ok (.ireturn, 1) := by decide +kernel
theorem dX8_drum_66 : decode cX8_drum 66 = .ok (.aload_n 0, 1) := by decide +kernel
theorem dX8_drum_67 : decode cX8_drum 67 = .ok (.getfield 33, 3) := by decide +kernel
theorem dX8_drum_70 : decode cX8_drum 70 = .ok (.aload_n 0, 1) := by decide +kernel
theorem dX8_drum_71 : decode cX8_drum 71 = .ok (.getfield 26, 3) := by decide +kernel
theorem dX8_drum_74 : decode cX8_drum 74 = .ok (.iload_n 1, 1) := by decide +kernel
theorem dX8_drum_75 : decode cX8_drum 75 = .ok (.iload_n 2, 1) := by decide +kernel
theorem dX8_drum_76 : decode cX8_drum 76 = .ok (.invokevirtual 133, 3) := by decide +kernel
theorem dX8_drum_79 : decode cX8_drum 79 = .ok (.ireturn, 1) := by decide +kernel
theorem dX8_drum_80 : decode cX8_drum 80 = .ok (.aload_n 0, 1) := by decide +kernel
theorem dX8_drum_81 : decode cX8_drum 81 = .ok (.getfield 33, 3) := by decide +kernel
theorem dX8_drum_84 : decode cX8_drum 84 = .ok (.aload_n 0, 1) := by decide +kernel
theorem dX8_drum_85 : decode cX8_drum 85 = .ok (.getfield 26, 3) := by decide +kernel
theorem dX8_drum_88 : decode cX8_drum 88 = .ok (.iload_n 1, 1) := by decide +kernel
theorem dX8_drum_89 : decode cX8_drum 89 = .ok (.iload_n 2, 1) := by decide +kernel
theorem dX8_drum_90 : decode cX8_drum 90 = .ok (.invokevirtual 129, 3) := by decide +kernel
theorem dX8_drum_93 : decode cX8_drum 93 = .ok (.aload_n 0, 1) := by decide +kernel
theorem dX8_drum_94 : decode cX8_drum 94 = .ok (.getfield 33, 3) := by decide +kernel
theorem dX8_drum_97 : decode cX8_drum 97 = .ok (.getfield 136, 3) := by decide +kernel
theorem dX8_drum_100 : decode cX8_drum 100 = .ok (.invokestatic 139, 3) := by decide +kernel
theorem dX8_drum_103 : decode cX8_drum 103 = .ok (.ireturn, 1) := by decide +kernel
theorem dX8_drum_104 : decode cX8_drum 104 = .ok (.iconst (-1), 1) := by decide +kernel
theorem dX8_drum_105 : decode cX8_drum 105 = .ok (.ireturn, 1) := by decide +kernel
theorem dX8_kind_0 : decode cX8_kind 0 = .ok (.aload_n 0, 1) := by decide +kernel
theorem dX8_kind_1 : decode cX8_kind 1 = .ok (.getfield 26, 3) := by decide +kernel
theorem dX8_kind_4 : decode cX8_kind 4 = .ok (.iload_n 1, 1) := by decide +kernel
theorem dX8_kind_5 : decode cX8_kind 5 = .ok (.invokevirtual 126, 3) := by decide +kernel
theorem dX8_kind_8 : decode cX8_kind 8 = .ok (.ifCond .eq 17, 3) := by decide +kernel
theorem dX8_kind_11 : decode cX8_kind 11 = .ok (.aload_n 0, 1) := by decide +kernel
theorem dX8_kind_12 : decode cX8_kind 12 = .ok (.getfield 26, 3) := by decide +kernel
theorem dX8_kind_15 : decode cX8_kind 15 = .ok (.getfield 143, 3) := by decide +kernel
theorem dX8_kind_18 : decode cX8_kind 18 = .ok (.iload_n 1, 1) := by decide +kernel
theorem dX8_kind_19 : decode cX8_kind 19 = .ok (.invokevirtual 122, 3) := by decide +kernel
theorem dX8_kind_22 : decode cX8_kind 22 = .ok (.goto 4, 3) := by decide +kernel
theorem dX8_kind_25 : decode cX8_kind 25 = .ok (.iconst (-1), 1) := by decide +kernel
theorem dX8_kind_26 : decode cX8_kind 26 = .ok (.ireturn, 1) := by decide +kernel
theorem dX8_traveller_0 : decode cX8_traveller 0 = .ok (.aload_n 0, 1) := by decide +kernel
theorem dX8_traveller_1 : decode cX8_traveller 1 = .ok (.getfield 26, 3) := by decide +kernel
theorem dX8_traveller_4 : decode cX8_traveller 4 = .ok (.iload_n 1, 1) := by decide +kernel
theorem dX8_traveller_5 : decode cX8_traveller 5 = .ok (.invokevirtual 146, 3) := by decide +kernel
theorem dX8_traveller_8 : decode cX8_traveller 8 = .ok (.ifCond .ne 5, 3) := by decide +kernel
theorem dX8_traveller_11 : decode cX8_traveller 11 = .ok (.iconst (-1), 1) := by decide +kernel
theorem dX8_traveller_12 : decode cX8_traveller 12 = .ok (.ireturn, 1) := by decide +kernel
theorem dX8_traveller_13 : decode cX8_traveller 13 = .ok (.aload_n 0, 1) := by decide +kernel
theorem dX8_traveller_14 : decode cX8_traveller 14 = .ok (.getfield 33, 3) := by decide +kernel
theorem dX8_traveller_17 : decode cX8_traveller 17 = .ok (.iload_n 1, 1) := by decide +kernel
theorem dX8_traveller_18 : decode cX8_traveller 18 = .ok (.invokevirtual 149, 3) := by decide +kernel
theorem dX8_traveller_21 : decode cX8_traveller 21 = .ok (.astore_n 3, 1) := by decide +kernel
theorem dX8_traveller_22 : decode cX8_traveller 22 = .ok (.iload_n 2, 1) := by decide +kernel
theorem dX8_traveller_23 : decode cX8_traveller 23 = .ok (.tableswitch 79 0 5 #[37, 42, 47, 52, 57, 74], 37) := by decide +kernel
theorem dX8_traveller_60 : decode cX8_traveller 60 = .ok (.aload_n 3, 1) := by decide +kernel
theorem dX8_traveller_61 : decode cX8_traveller 61 = .ok (.getfield 153, 3) := by decide +kernel
theorem dX8_traveller_64 : decode cX8_traveller 64 = .ok (.ireturn, 1) := by decide +kernel
theorem dX8_traveller_65 : decode cX8_traveller 65 = .ok (.aload_n 3, 1) := by decide +kernel
theorem dX8_traveller_66 : decode cX8_traveller 66 = .ok (.getfield 156, 3) := by decide +kernel
theorem dX8_traveller_69 : decode cX8_traveller 69 = .ok (.ireturn, 1) := by decide +kernel
theorem dX8_traveller_70 : decode cX8_traveller 70 = .ok (.aload_n 3, 1) := by decide +kernel
theorem dX8_traveller_71 : decode cX8_traveller 71 = .ok (.getfield 159, 3) := by decide +kernel
theorem dX8_traveller_74 : decode cX8_traveller 74 = .ok (.ireturn, 1) := by decide +kernel
theorem dX8_traveller_75 : decode cX8_traveller 75 = .ok (.aload_n 3, 1) := by decide +kernel
theorem dX8_traveller_76 : decode cX8_traveller 76 = .ok (.getfield 162, 3) := by decide +kernel
theorem dX8_traveller_79 : decode cX8_traveller 79 = .ok (.ireturn, 1) := by decide +kernel
theorem dX8_traveller_80 : decode cX8_traveller 80 = .ok (.aload_n 3, 1) := by decide +kernel
theorem dX8_traveller_81 : decode cX8_traveller 81 = .ok (.invokevirtual 165, 3) := by decide +kernel
theorem dX8_traveller_84 : decode cX8_traveller 84 = .ok (.ifCond .eq 10, 3) := by decide +kernel
theorem dX8_traveller_87 : decode cX8_traveller 87 = .ok (.aload_n 3, 1) := by decide +kernel
theorem dX8_traveller_88 : decode cX8_traveller 88 = .ok (.getfield 168, 3) := by decide +kernel
theorem dX8_traveller_91 : decode cX8_traveller 91 = .ok (.goto 5, 3) := by decide +kernel
theorem dX8_traveller_94 : decode cX8_traveller 94 = .ok (.bipush (-4), 2) := by decide +kernel
theorem dX8_traveller_96 : decode cX8_traveller 96 = .ok (.ireturn, 1) := by decide +kernel
theorem dX8_traveller_97 : decode cX8_traveller 97 = .ok (.aload_n 3, 1) := by decide +kernel
theorem dX8_traveller_98 : decode cX8_traveller 98 = .ok (.getfield 171, 3) := by decide +kernel
theorem dX8_traveller_101 : decode cX8_traveller 101 = .ok (.ireturn, 1) := by decide +kernel
theorem dX8_traveller_102 : decode cX8_traveller 102 = .ok (.iconst (-1), 1) := by decide +kernel
theorem dX8_traveller_103 : decode cX8_traveller 103 = .ok (.ireturn, 1) := by decide +kernel
theorem dX8_route_0 : decode cX8_route 0 = .ok (.aload_n 0, 1) := by decide +kernel
theorem dX8_route_1 : decode cX8_route 1 = .ok (.getfield 26, 3) := by decide +kernel
theorem dX8_route_4 : decode cX8_route 4 = .ok (.iload_n 1, 1) := by decide +kernel
theorem dX8_route_5 : decode cX8_route 5 = .ok (.invokevirtual 126, 3) := by decide +kernel
theorem dX8_route_8 : decode cX8_route 8 = .ok (.ifCond .eq 35, 3) := by decide +kernel
theorem dX8_route_11 : decode cX8_route 11 = .ok (.aload_n 0, 1) := by decide +kernel
theorem dX8_route_12 : decode cX8_route 12 = .ok (.getfield 26, 3) := by decide +kernel
theorem dX8_route_15 : decode cX8_route 15 = .ok (.iload_n 2, 1) := by decide +kernel
theorem dX8_route_16 : decode cX8_route 16 = .ok (.invokevirtual 116, 3) := by decide +kernel
theorem dX8_route_19 : decode cX8_route 19 = .ok (.ifCond .eq 24, 3) := by decide +kernel
theorem dX8_route_22 : decode cX8_route 22 = .ok (.aload_n 0, 1) := by decide +kernel
theorem dX8_route_23 : decode cX8_route 23 = .ok (.getfield 26, 3) := by decide +kernel
theorem dX8_route_26 : decode cX8_route 26 = .ok (.iload_n 3, 1) := by decide +kernel
theorem dX8_route_27 : decode cX8_route 27 = .ok (.invokevirtual 116, 3) := by decide +kernel
theorem dX8_route_30 : decode cX8_route 30 = .ok (.ifCond .eq 13, 3) := by decide +kernel
theorem dX8_route_33 : decode cX8_route 33 = .ok (.iload 4, 2) := by decide +kernel
theorem dX8_route_35 : decode cX8_route 35 = .ok (.iconst 0, 1) := by decide +kernel
theorem dX8_route_36 : decode cX8_route 36 = .ok (.iconst 1, 1) := by decide +kernel
theorem dX8_route_37 : decode cX8_route 37 = .ok (.invokestatic 105, 3) := by decide +kernel
theorem dX8_route_40 : decode cX8_route 40 = .ok (.ifCond .ne 5, 3) := by decide +kernel
theorem dX8_route_43 : decode cX8_route 43 = .ok (.iconst (-1), 1) := by decide +kernel
theorem dX8_route_44 : decode cX8_route 44 = .ok (.ireturn, 1) := by decide +kernel
theorem dX8_route_45 : decode cX8_route 45 = .ok (.aload_n 0, 1) := by decide +kernel
theorem dX8_route_46 : decode cX8_route 46 = .ok (.getfield 75, 3) := by decide +kernel
theorem dX8_route_49 : decode cX8_route 49 = .ok (.aload_n 0, 1) := by decide +kernel
theorem dX8_route_50 : decode cX8_route 50 = .ok (.getfield 26, 3) := by decide +kernel
theorem dX8_route_53 : decode cX8_route 53 = .ok (.aload_n 0, 1) := by decide +kernel
theorem dX8_route_54 : decode cX8_route 54 = .ok (.getfield 33, 3) := by decide +kernel
theorem dX8_route_57 : decode cX8_route 57 = .ok (.iload_n 1, 1) := by decide +kernel
theorem dX8_route_58 : decode cX8_route 58 = .ok (.iload_n 3, 1) := by decide +kernel
theorem dX8_route_59 : decode cX8_route 59 = .ok (.invokevirtual 174, 3) := by decide +kernel
theorem dX8_route_62 : decode cX8_route 62 = .ok (.iload 4, 2) := by decide +kernel
theorem dX8_route_64 : decode cX8_route 64 = .ok (.ifCond .ne 14, 3) := by decide +kernel
theorem dX8_route_67 : decode cX8_route 67 = .ok (.aload_n 0, 1) := by decide +kernel
theorem dX8_route_68 : decode cX8_route 68 = .ok (.getfield 75, 3) := by decide +kernel
theorem dX8_route_71 : decode cX8_route 71 = .ok (.iload_n 2, 1) := by decide +kernel
theorem dX8_route_72 : decode cX8_route 72 = .ok (.invokevirtual 178, 3) := by decide +kernel
theorem dX8_route_75 : decode cX8_route 75 = .ok (.goto 15, 3) := by decide +kernel
theorem dX8_route_78 : decode cX8_route 78 = .ok (.aload_n 0, 1) := by decide +kernel
theorem dX8_route_79 : decode cX8_route 79 = .ok (.getfield 75, 3) := by decide +kernel
theorem dX8_route_82 : decode cX8_route 82 = .ok (.aload_n 0, 1) := by decide +kernel
theorem dX8_route_83 : decode cX8_route 83 = .ok (.getfield 26, 3) := by decide +kernel
theorem dX8_route_86 : decode cX8_route 86 = .ok (.iload_n 2, 1) := by decide +kernel
theorem dX8_route_87 : decode cX8_route 87 = .ok (.invokevirtual 181, 3) := by decide +kernel
theorem dX8_route_90 : decode cX8_route 90 = .ok (.ireturn, 1) := by decide +kernel
theorem dX8_truth_0 : decode cX8_truth 0 = .ok (.aload_n 0, 1) := by decide +kernel
theorem dX8_truth_1 : decode cX8_truth 1 = .ok (.getfield 26, 3) := by decide +kernel
theorem dX8_truth_4 : decode cX8_truth 4 = .ok (.iload_n 1, 1) := by decide +kernel
theorem dX8_truth_5 : decode cX8_truth 5 = .ok (.invokevirtual 116, 3) := by decide +kernel
theorem dX8_truth_8 : decode cX8_truth 8 = .ok (.ifCond .eq 14, 3) := by decide +kernel
theorem dX8_truth_11 : decode cX8_truth 11 = .ok (.aload_n 0, 1) := by decide +kernel
theorem dX8_truth_12 : decode cX8_truth 12 = .ok (.getfield 26, 3) := by decide +kernel
theorem dX8_truth_15 : decode cX8_truth 15 = .ok (.iload_n 2, 1) := by decide +kernel
theorem dX8_truth_16 : decode cX8_truth 16 = .ok (.invokevirtual 116, 3) := by decide +kernel
theorem dX8_truth_19 : decode cX8_truth 19 = .ok (.ifCond .ne 5, 3) := by decide +kernel
theorem dX8_truth_22 : decode cX8_truth 22 = .ok (.iconst (-1), 1) := by decide +kernel
theorem dX8_truth_23 : decode cX8_truth 23 = .ok (.ireturn, 1) := by decide +kernel
theorem dX8_truth_24 : decode cX8_truth 24 = .ok (.aload_n 0, 1) := by decide +kernel
theorem dX8_truth_25 : decode cX8_truth 25 = .ok (.getfield 75, 3) := by decide +kernel
theorem dX8_truth_28 : decode cX8_truth 28 = .ok (.aload_n 0, 1) := by decide +kernel
theorem dX8_truth_29 : decode cX8_truth 29 = .ok (.getfield 26, 3) := by decide +kernel
theorem dX8_truth_32 : decode cX8_truth 32 = .ok (.aload_n 0, 1) := by decide +kernel
theorem dX8_truth_33 : decode cX8_truth 33 = .ok (.getfield 33, 3) := by decide +kernel
theorem dX8_truth_36 : decode cX8_truth 36 = .ok (.getfield 136, 3) := by decide +kernel
theorem dX8_truth_39 : decode cX8_truth 39 = .ok (.iload_n 2, 1) := by decide +kernel
theorem dX8_truth_40 : decode cX8_truth 40 = .ok (.invokevirtual 185, 3) := by decide +kernel
theorem dX8_truth_43 : decode cX8_truth 43 = .ok (.aload_n 0, 1) := by decide +kernel
theorem dX8_truth_44 : decode cX8_truth 44 = .ok (.getfield 75, 3) := by decide +kernel
theorem dX8_truth_47 : decode cX8_truth 47 = .ok (.iload_n 1, 1) := by decide +kernel
theorem dX8_truth_48 : decode cX8_truth 48 = .ok (.invokevirtual 178, 3) := by decide +kernel
theorem dX8_truth_51 : decode cX8_truth 51 = .ok (.ireturn, 1) := by decide +kernel
theorem dX8_pass_0 : decode cX8_pass 0 = .ok (.iload_n 1, 1) := by decide +kernel
theorem dX8_pass_1 : decode cX8_pass 1 = .ok (.iconst 1, 1) := by decide +kernel
theorem dX8_pass_2 : decode cX8_pass 2 = .ok (.bipush 24, 2) := by decide +kernel
theorem dX8_pass_4 : decode cX8_pass 4 = .ok (.invokestatic 105, 3) := by decide +kernel
theorem dX8_pass_7 : decode cX8_pass 7 = .ok (.ifCond .ne 5, 3) := by decide +kernel
theorem dX8_pass_10 : decode cX8_pass 10 = .ok (.iconst (-1), 1) := by decide +kernel
theorem dX8_pass_11 : decode cX8_pass 11 = .ok (.ireturn, 1) := by decide +kernel
theorem dX8_pass_12 : decode cX8_pass 12 = .ok (.aload_n 0, 1) := by decide +kernel
theorem dX8_pass_13 : decode cX8_pass 13 = .ok (.getfield 42, 3) := by decide +kernel
theorem dX8_pass_16 : decode cX8_pass 16 = .ok (.aload_n 0, 1) := by decide +kernel
theorem dX8_pass_17 : decode cX8_pass 17 = .ok (.getfield 33, 3) := by decide +kernel
theorem dX8_pass_20 : decode cX8_pass 20 = .ok (.invokevirtual 189, 3) := by decide +kernel
theorem dX8_pass_23 : decode cX8_pass 23 = .ok (.iconst 0, 1) := by decide +kernel
theorem dX8_pass_24 : decode cX8_pass 24 = .ok (.istore_n 2, 1) := by decide +kernel
theorem dX8_pass_25 : decode cX8_pass 25 = .ok (.iload_n 2, 1) := by decide +kernel
theorem dX8_pass_26 : decode cX8_pass 26 = .ok (.iload_n 1, 1) := by decide +kernel
theorem dX8_pass_27 : decode cX8_pass 27 = .ok (.if_icmp .ge 17, 3) := by decide +kernel
theorem dX8_pass_30 : decode cX8_pass 30 = .ok (.aload_n 0, 1) := by decide +kernel
theorem dX8_pass_31 : decode cX8_pass 31 = .ok (.aload_n 0, 1) := by decide +kernel
theorem dX8_pass_32 : decode cX8_pass 32 = .ok (.getfield 33, 3) := by decide +kernel
theorem dX8_pass_35 : decode cX8_pass 35 = .ok (.invokevirtual 192, 3) := by decide +kernel
theorem dX8_pass_38 : decode cX8_pass 38 = .ok (.iinc 2 1, 3) := by decide +kernel
theorem dX8_pass_41 : decode cX8_pass 41 = .ok (.goto (-16), 3) := by decide +kernel
theorem dX8_pass_44 : decode cX8_pass 44 = .ok (.aload_n 0, 1) := by decide +kernel
theorem dX8_pass_45 : decode cX8_pass 45 = .ok (.getfield 33, 3) := by decide +kernel
theorem dX8_pass_48 : decode cX8_pass 48 = .ok (.getfield 195, 3) := by decide +kernel
theorem dX8_pass_51 : decode cX8_pass 51 = .ok (.ireturn, 1) := by decide +kernel
theorem dX8_rain_0 : decode cX8_rain 0 = .ok (.iload_n 1, 1) := by decide +kernel
theorem dX8_rain_1 : decode cX8_rain 1 = .ok (.iconst 0, 1) := by decide +kernel
theorem dX8_rain_2 : decode cX8_rain 2 = .ok (.iconst 3, 1) := by decide +kernel
theorem dX8_rain_3 : decode cX8_rain 3 = .ok (.invokestatic 105, 3) := by decide +kernel
theorem dX8_rain_6 : decode cX8_rain 6 = .ok (.ifCond .ne 5, 3) := by decide +kernel
theorem dX8_rain_9 : decode cX8_rain 9 = .ok (.iconst (-1), 1) := by decide +kernel
theorem dX8_rain_10 : decode cX8_rain 10 = .ok (.ireturn, 1) := by decide +kernel
theorem dX8_rain_11 : decode cX8_rain 11 = .ok (.aload_n 0, 1) := by decide +kernel
theorem dX8_rain_12 : decode cX8_rain 12 = .ok (.getfield 42, 3) := by decide +kernel
theorem dX8_rain_15 : decode cX8_rain 15 = .ok (.aload_n 0, 1) := by decide +kernel
theorem dX8_rain_16 : decode cX8_rain 16 = .ok (.getfield 33, 3) := by decide +kernel
theorem dX8_rain_19 : decode cX8_rain 19 = .ok (.invokevirtual 189, 3) := by decide +kernel
theorem dX8_rain_22 : decode cX8_rain 22 = .ok (.aload_n 0, 1) := by decide +kernel
theorem dX8_rain_23 : decode cX8_rain 23 = .ok (.getfield 33, 3) := by decide +kernel
theorem dX8_rain_26 : decode cX8_rain 26 = .ok (.getfield 136, 3) := by decide +kernel
theorem dX8_rain_29 : decode cX8_rain 29 = .ok (.istore_n 2, 1) := by decide +kernel
theorem dX8_rain_30 : decode cX8_rain 30 = .ok (.aload_n 0, 1) := by decide +kernel
theorem dX8_rain_31 : decode cX8_rain 31 = .ok (.getfield 33, 3) := by decide +kernel
theorem dX8_rain_34 : decode cX8_rain 34 = .ok (.iload_n 1, 1) := by decide +kernel
theorem dX8_rain_35 : decode cX8_rain 35 = .ok (.putfield 136, 3) := by decide +kernel
theorem dX8_rain_38 : decode cX8_rain 38 = .ok (.iload_n 2, 1) := by decide +kernel
theorem dX8_rain_39 : decode cX8_rain 39 = .ok (.ireturn, 1) := by decide +kernel
theorem dX8_retune_0 : decode cX8_retune 0 = .ok (.aload_n 0, 1) := by decide +kernel
theorem dX8_retune_1 : decode cX8_retune 1 = .ok (.getfield 26, 3) := by decide +kernel
theorem dX8_retune_4 : decode cX8_retune 4 = .ok (.iload_n 1, 1) := by decide +kernel
theorem dX8_retune_5 : decode cX8_retune 5 = .ok (.invokevirtual 126, 3) := by decide +kernel
theorem dX8_retune_8 : decode cX8_retune 8 = .ok (.ifCond .eq 23, 3) := by decide +kernel
theorem dX8_retune_11 : decode cX8_retune 11 = .ok (.aload_n 0, 1) := by decide +kernel
theorem dX8_retune_12 : decode cX8_retune 12 = .ok (.getfield 26, 3) := by decide +kernel
theorem dX8_retune_15 : decode cX8_retune 15 = .ok (.iload_n 2, 1) := by decide +kernel
theorem dX8_retune_16 : decode cX8_retune 16 = .ok (.invokevirtual 116, 3) := by decide +kernel
theorem dX8_retune_19 : decode cX8_retune 19 = .ok (.ifCond .eq 12, 3) := by decide +kernel
theorem dX8_retune_22 : decode cX8_retune 22 = .ok (.iload_n 3, 1) := by decide +kernel
theorem dX8_retune_23 : decode cX8_retune 23 = .ok (.iconst 0, 1) := by decide +kernel
theorem dX8_retune_24 : decode cX8_retune 24 = .ok (.iconst 3, 1) := by decide +kernel
theorem dX8_retune_25 : decode cX8_retune 25 = .ok (.invokestatic 105, 3) := by decide +kernel
theorem dX8_retune_28 : decode cX8_retune 28 = .ok (.ifCond .ne 5, 3) := by decide +kernel
theorem dX8_retune_31 : decode cX8_retune 31 = .ok (.iconst (-1), 1) := by decide +kernel
theorem dX8_retune_32 : decode cX8_retune 32 = .ok (.ireturn, 1) := by decide +kernel
theorem dX8_retune_33 : decode cX8_retune 33 = .ok (.aload_n 0, 1) := by decide +kernel
theorem dX8_retune_34 : decode cX8_retune 34 = .ok (.getfield 42, 3) := by decide +kernel
theorem dX8_retune_37 : decode cX8_retune 37 = .ok (.aload_n 0, 1) := by decide +kernel
theorem dX8_retune_38 : decode cX8_retune 38 = .ok (.getfield 33, 3) := by decide +kernel
theorem dX8_retune_41 : decode cX8_retune 41 = .ok (.invokevirtual 189, 3) := by decide +kernel
theorem dX8_retune_44 : decode cX8_retune 44 = .ok (.aload_n 0, 1) := by decide +kernel
theorem dX8_retune_45 : decode cX8_retune 45 = .ok (.getfield 33, 3) := by decide +kernel
theorem dX8_retune_48 : decode cX8_retune 48 = .ok (.aload_n 0, 1) := by decide +kernel
theorem dX8_retune_49 : decode cX8_retune 49 = .ok (.getfield 26, 3) := by decide +kernel
theorem dX8_retune_52 : decode cX8_retune 52 = .ok (.iload_n 1, 1) := by decide +kernel
theorem dX8_retune_53 : decode cX8_retune 53 = .ok (.iload_n 2, 1) := by decide +kernel
theorem dX8_retune_54 : decode cX8_retune 54 = .ok (.invokevirtual 129, 3) := by decide +kernel
theorem dX8_retune_57 : decode cX8_retune 57 = .ok (.istore 4, 2) := by decide +kernel
theorem dX8_retune_59 : decode cX8_retune 59 = .ok (.aload_n 0, 1) := by decide +kernel
theorem dX8_retune_60 : decode cX8_retune 60 = .ok (.getfield 33, 3) := by decide +kernel
theorem dX8_retune_63 : decode cX8_retune 63 = .ok (.iload_n 1, 1) := by decide +kernel
theorem dX8_retune_64 : decode cX8_retune 64 = .ok (.iload_n 2, 1) := by decide +kernel
theorem dX8_retune_65 : decode cX8_retune 65 = .ok (.iload_n 3, 1) := by decide +kernel
theorem dX8_retune_66 : decode cX8_retune 66 = .ok (.invokevirtual 198, 3) := by decide +kernel
theorem dX8_retune_69 : decode cX8_retune 69 = .ok (.iload 4, 2) := by decide +kernel
theorem dX8_retune_71 : decode cX8_retune 71 = .ok (.ireturn, 1) := by decide +kernel
theorem dX8_give_0 : decode cX8_give 0 = .ok (.aload_n 0, 1) := by decide +kernel
theorem dX8_give_1 : decode cX8_give 1 = .ok (.getfield 26, 3) := by decide +kernel
theorem dX8_give_4 : decode cX8_give 4 = .ok (.iload_n 1, 1) := by decide +kernel
theorem dX8_give_5 : decode cX8_give 5 = .ok (.invokevirtual 146, 3) := by decide +kernel
theorem dX8_give_8 : decode cX8_give 8 = .ok (.ifCond .eq 14, 3) := by decide +kernel
theorem dX8_give_11 : decode cX8_give 11 = .ok (.aload_n 0, 1) := by decide +kernel
theorem dX8_give_12 : decode cX8_give 12 = .ok (.getfield 26, 3) := by decide +kernel
theorem dX8_give_15 : decode cX8_give 15 = .ok (.iload_n 2, 1) := by decide +kernel
theorem dX8_give_16 : decode cX8_give 16 = .ok (.invokevirtual 126, 3) := by decide +kernel
theorem dX8_give_19 : decode cX8_give 19 = .ok (.ifCond .ne 5, 3) := by decide +kernel
theorem dX8_give_22 : decode cX8_give 22 = .ok (.iconst (-1), 1) := by decide +kernel
theorem dX8_give_23 : decode cX8_give 23 = .ok (.ireturn, 1) := by decide +kernel
theorem dX8_give_24 : decode cX8_give 24 = .ok (.aload_n 0, 1) := by decide +kernel
theorem dX8_give_25 : decode cX8_give 25 = .ok (.getfield 33, 3) := by decide +kernel
theorem dX8_give_28 : decode cX8_give 28 = .ok (.iload_n 1, 1) := by decide +kernel
theorem dX8_give_29 : decode cX8_give 29 = .ok (.invokevirtual 149, 3) := by decide +kernel
theorem dX8_give_32 : decode cX8_give 32 = .ok (.astore_n 3, 1) := by decide +kernel
theorem dX8_give_33 : decode cX8_give 33 = .ok (.aload_n 3, 1) := by decide +kernel
theorem dX8_give_34 : decode cX8_give 34 = .ok (.getfield 162, 3) := by decide +kernel
theorem dX8_give_37 : decode cX8_give 37 = .ok (.ifCond .eq 6, 3) := by decide +kernel
theorem dX8_give_40 : decode cX8_give 40 = .ok (.bipush (-2), 2) := by decide +kernel
theorem dX8_give_42 : decode cX8_give 42 = .ok (.ireturn, 1) := by decide +kernel
theorem dX8_give_43 : decode cX8_give 43 = .ok (.aload_n 0, 1) := by decide +kernel
theorem dX8_give_44 : decode cX8_give 44 = .ok (.getfield 42, 3) := by decide +kernel
theorem dX8_give_47 : decode cX8_give 47 = .ok (.aload_n 0, 1) := by decide +kernel
theorem dX8_give_48 : decode cX8_give 48 = .ok (.getfield 33, 3) := by decide +kernel
theorem dX8_give_51 : decode cX8_give 51 = .ok (.invokevirtual 189, 3) := by decide +kernel
theorem dX8_give_54 : decode cX8_give 54 = .ok (.aload_n 3, 1) := by decide +kernel
theorem dX8_give_55 : decode cX8_give 55 = .ok (.getfield 159, 3) := by decide +kernel
theorem dX8_give_58 : decode cX8_give 58 = .ok (.istore 4, 2) := by decide +kernel
theorem dX8_give_60 : decode cX8_give 60 = .ok (.aload_n 3, 1) := by decide +kernel
theorem dX8_give_61 : decode cX8_give 61 = .ok (.iload_n 2, 1) := by decide +kernel
theorem dX8_give_62 : decode cX8_give 62 = .ok (.putfield 159, 3) := by decide +kernel
theorem dX8_give_65 : decode cX8_give 65 = .ok (.iload 4, 2) := by decide +kernel
theorem dX8_give_67 : decode cX8_give 67 = .ok (.ireturn, 1) := by decide +kernel
theorem dX8_send_0 : decode cX8_send 0 = .ok (.aload_n 0, 1) := by decide +kernel
theorem dX8_send_1 : decode cX8_send 1 = .ok (.getfield 26, 3) := by decide +kernel
theorem dX8_send_4 : decode cX8_send 4 = .ok (.iload_n 1, 1) := by decide +kernel
theorem dX8_send_5 : decode cX8_send 5 = .ok (.invokevirtual 146, 3) := by decide +kernel
theorem dX8_send_8 : decode cX8_send 8 = .ok (.ifCond .eq 14, 3) := by decide +kernel
theorem dX8_send_11 : decode cX8_send 11 = .ok (.aload_n 0, 1) := by decide +kernel
theorem dX8_send_12 : decode cX8_send 12 = .ok (.getfield 26, 3) := by decide +kernel
theorem dX8_send_15 : decode cX8_send 15 = .ok (.iload_n 2, 1) := by decide +kernel
theorem dX8_send_16 : decode cX8_send 16 = .ok (.invokevirtual 116, 3) := by decide +kernel
theorem dX8_send_19 : decode cX8_send 19 = .ok (.ifCond .ne 5, 3) := by decide +kernel
theorem dX8_send_22 : decode cX8_send 22 = .ok (.iconst (-1), 1) := by decide +kernel
theorem dX8_send_23 : decode cX8_send 23 = .ok (.ireturn, 1) := by decide +kernel
theorem dX8_send_24 : decode cX8_send 24 = .ok (.aload_n 0, 1) := by decide +kernel
theorem dX8_send_25 : decode cX8_send 25 = .ok (.getfield 33, 3) := by decide +kernel
theorem dX8_send_28 : decode cX8_send 28 = .ok (.iload_n 1, 1) := by decide +kernel
theorem dX8_send_29 : decode cX8_send 29 = .ok (.invokevirtual 149, 3) := by decide +kernel
theorem dX8_send_32 : decode cX8_send 32 = .ok (.astore_n 3, 1) := by decide +kernel
theorem dX8_send_33 : decode cX8_send 33 = .ok (.aload_n 3, 1) := by decide +kernel
theorem dX8_send_34 : decode cX8_send 34 = .ok (.getfield 162, 3) := by decide +kernel
theorem dX8_send_37 : decode cX8_send 37 = .ok (.iconst 2, 1) := by decide +kernel
theorem dX8_send_38 : decode cX8_send 38 = .ok (.if_icmp .ne 6, 3) := by decide +kernel
theorem dX8_send_41 : decode cX8_send 41 = .ok (.bipush (-2), 2) := by decide +kernel
theorem dX8_send_43 : decode cX8_send 43 = .ok (.ireturn, 1) := by decide +kernel
theorem dX8_send_44 : decode cX8_send 44 = .ok (.aload_n 0, 1) := by decide +kernel
theorem dX8_send_45 : decode cX8_send 45 = .ok (.getfield 42, 3) := by decide +kernel
theorem dX8_send_48 : decode cX8_send 48 = .ok (.aload_n 0, 1) := by decide +kernel
theorem dX8_send_49 : decode cX8_send 49 = .ok (.getfield 33, 3) := by decide +kernel
theorem dX8_send_52 : decode cX8_send 52 = .ok (.invokevirtual 189, 3) := by decide +kernel
theorem dX8_send_55 : decode cX8_send 55 = .ok (.aload_n 3, 1) := by decide +kernel
theorem dX8_send_56 : decode cX8_send 56 = .ok (.iload_n 2, 1) := by decide +kernel
theorem dX8_send_57 : decode cX8_send 57 = .ok (.invokevirtual 202, 3) := by decide +kernel
theorem dX8_send_60 : decode cX8_send 60 = .ok (.aload_n 3, 1) := by decide +kernel
theorem dX8_send_61 : decode cX8_send 61 = .ok (.getfield 162, 3) := by decide +kernel
theorem dX8_send_64 : decode cX8_send 64 = .ok (.iconst 1, 1) := by decide +kernel
theorem dX8_send_65 : decode cX8_send 65 = .ok (.if_icmp .ne 7, 3) := by decide +kernel
theorem dX8_send_68 : decode cX8_send 68 = .ok (.iconst 1, 1) := by decide +kernel
theorem dX8_send_69 : decode cX8_send 69 = .ok (.goto 4, 3) := by decide +kernel
theorem dX8_send_72 : decode cX8_send 72 = .ok (.iconst 0, 1) := by decide +kernel
theorem dX8_send_73 : decode cX8_send 73 = .ok (.ireturn, 1) := by decide +kernel
theorem dX8_undo_0 : decode cX8_undo 0 = .ok (.aload_n 0, 1) := by decide +kernel
theorem dX8_undo_1 : decode cX8_undo 1 = .ok (.getfield 42, 3) := by decide +kernel
theorem dX8_undo_4 : decode cX8_undo 4 = .ok (.aload_n 0, 1) := by decide +kernel
theorem dX8_undo_5 : decode cX8_undo 5 = .ok (.getfield 33, 3) := by decide +kernel
theorem dX8_undo_8 : decode cX8_undo 8 = .ok (.invokevirtual 205, 3) := by decide +kernel
theorem dX8_undo_11 : decode cX8_undo 11 = .ok (.ifCond .eq 13, 3) := by decide +kernel
theorem dX8_undo_14 : decode cX8_undo 14 = .ok (.aload_n 0, 1) := by decide +kernel
theorem dX8_undo_15 : decode cX8_undo 15 = .ok (.getfield 42, 3) := by decide +kernel
theorem dX8_undo_18 : decode cX8_undo 18 = .ok (.getfield 209, 3) := by decide +kernel
theorem dX8_undo_21 : decode cX8_undo 21 = .ok (.goto 5, 3) := by decide +kernel
theorem dX8_undo_24 : decode cX8_undo 24 = .ok (.bipush (-2), 2) := by decide +kernel
theorem dX8_undo_26 : decode cX8_undo 26 = .ok (.ireturn, 1) := by decide +kernel
theorem dX8_arrives_0 : decode cX8_arrives 0 = .ok (.aload_n 0, 1) := by decide +kernel
theorem dX8_arrives_1 : decode cX8_arrives 1 = .ok (.getfield 26, 3) := by decide +kernel
theorem dX8_arrives_4 : decode cX8_arrives 4 = .ok (.iload_n 1, 1) := by decide +kernel
theorem dX8_arrives_5 : decode cX8_arrives 5 = .ok (.invokevirtual 146, 3) := by decide +kernel
theorem dX8_arrives_8 : decode cX8_arrives 8 = .ok (.ifCond .ne 5, 3) := by decide +kernel
theorem dX8_arrives_11 : decode cX8_arrives 11 = .ok (.iconst (-1), 1) := by decide +kernel
theorem dX8_arrives_12 : decode cX8_arrives 12 = .ok (.ireturn, 1) := by decide +kernel
theorem dX8_arrives_13 : decode cX8_arrives 13 = .ok (.aload_n 0, 1) := by decide +kernel
theorem dX8_arrives_14 : decode cX8_arrives 14 = .ok (.getfield 65, 3) := by decide +kernel
theorem dX8_arrives_17 : decode cX8_arrives 17 = .ok (.aload_n 0, 1) := by decide +kernel
theorem dX8_arrives_18 : decode cX8_arrives 18 = .ok (.getfield 33, 3) := by decide +kernel
theorem dX8_arrives_21 : decode cX8_arrives 21 = .ok (.iload_n 1, 1) := by decide +kernel
theorem dX8_arrives_22 : decode cX8_arrives 22 = .ok (.invokevirtual 149, 3) := by decide +kernel
theorem dX8_arrives_25 : decode cX8_arrives 25 = .ok (.invokevirtual 212, 3) := by decide +kernel
theorem dX8_arrives_28 : decode cX8_arrives 28 = .ok (.aload_n 0, 1) := by decide +kernel
theorem dX8_arrives_29 : decode cX8_arrives 29 = .ok (.aload_n 0, 1) := by decide +kernel
theorem dX8_arrives_30 : decode cX8_arrives 30 = .ok (.getfield 33, 3) := by decide +kernel
theorem dX8_arrives_33 : decode cX8_arrives 33 = .ok (.iconst 1, 1) := by decide +kernel
theorem dX8_arrives_34 : decode cX8_arrives 34 = .ok (.invokevirtual 216, 3) := by decide +kernel
theorem dX8_arrives_37 : decode cX8_arrives 37 = .ok (.ireturn, 1) := by decide +kernel
theorem dX8_loses_0 : decode cX8_loses 0 = .ok (.aload_n 0, 1) := by decide +kernel
theorem dX8_loses_1 : decode cX8_loses 1 = .ok (.getfield 26, 3) := by decide +kernel
theorem dX8_loses_4 : decode cX8_loses 4 = .ok (.iload_n 1, 1) := by decide +kernel
theorem dX8_loses_5 : decode cX8_loses 5 = .ok (.invokevirtual 146, 3) := by decide +kernel
theorem dX8_loses_8 : decode cX8_loses 8 = .ok (.ifCond .ne 5, 3) := by decide +kernel
theorem dX8_loses_11 : decode cX8_loses 11 = .ok (.iconst (-1), 1) := by decide +kernel
theorem dX8_loses_12 : decode cX8_loses 12 = .ok (.ireturn, 1) := by decide +kernel
theorem dX8_loses_13 : decode cX8_loses 13 = .ok (.aload_n 0, 1) := by decide +kernel
theorem dX8_loses_14 : decode cX8_loses 14 = .ok (.getfield 65, 3) := by decide +kernel
theorem dX8_loses_17 : decode cX8_loses 17 = .ok (.aload_n 0, 1) := by decide +kernel
theorem dX8_loses_18 : decode cX8_loses 18 = .ok (.getfield 33, 3) := by decide +kernel
theorem dX8_loses_21 : decode cX8_loses 21 = .ok (.iload_n 1, 1) := by decide +kernel
theorem dX8_loses_22 : decode cX8_loses 22 = .ok (.invokevirtual 149, 3) := by decide +kernel
theorem dX8_loses_25 : decode cX8_loses 25 = .ok (.invokevirtual 212, 3) := by decide +kernel
theorem dX8_loses_28 : decode cX8_loses 28 = .ok (.aload_n 0, 1) := by decide +kernel
theorem dX8_loses_29 : decode cX8_loses 29 = .ok (.aload_n 0, 1) := by decide +kernel
theorem dX8_loses_30 : decode cX8_loses 30 = .ok (.getfield 33, 3) := by decide +kernel
theorem dX8_loses_33 : decode cX8_loses 33 = .ok (.iconst 2, 1) := by decide +kernel
theorem dX8_loses_34 : decode cX8_loses 34 = .ok (.invokevirtual 216, 3) := by decide +kernel
theorem dX8_loses_37 : decode cX8_loses 37 = .ok (.ireturn, 1) := by decide +kernel
theorem dX8_led_0 : decode cX8_led 0 = .ok (.aload_n 0, 1) := by decide +kernel
theorem dX8_led_1 : decode cX8_led 1 = .ok (.getfield 26, 3) := by decide +kernel
theorem dX8_led_4 : decode cX8_led 4 = .ok (.iload_n 1, 1) := by decide +kernel
theorem dX8_led_5 : decode cX8_led 5 = .ok (.invokevirtual 126, 3) := by decide +kernel
theorem dX8_led_8 : decode cX8_led 8 = .ok (.ifCond .eq 25, 3) := by decide +kernel
theorem dX8_led_11 : decode cX8_led 11 = .ok (.aload_n 0, 1) := by decide +kernel
theorem dX8_led_12 : decode cX8_led 12 = .ok (.getfield 26, 3) := by decide +kernel
theorem dX8_led_15 : decode cX8_led 15 = .ok (.iload_n 2, 1) := by decide +kernel
theorem dX8_led_16 : decode cX8_led 16 = .ok (.invokevirtual 116, 3) := by decide +kernel
theorem dX8_led_19 : decode cX8_led 19 = .ok (.ifCond .eq 14, 3) := by decide +kernel
theorem dX8_led_22 : decode cX8_led 22 = .ok (.aload_n 0, 1) := by decide +kernel
theorem dX8_led_23 : decode cX8_led 23 = .ok (.getfield 26, 3) := by decide +kernel
theorem dX8_led_26 : decode cX8_led 26 = .ok (.iload_n 3, 1) := by decide +kernel
theorem dX8_led_27 : decode cX8_led 27 = .ok (.invokevirtual 116, 3) := by decide +kernel
theorem dX8_led_30 : decode cX8_led 30 = .ok (.ifCond .ne 5, 3) := by decide +kernel
theorem dX8_led_33 : decode cX8_led 33 = .ok (.iconst (-1), 1) := by decide +kernel
theorem dX8_led_34 : decode cX8_led 34 = .ok (.ireturn, 1) := by decide +kernel
theorem dX8_led_35 : decode cX8_led 35 = .ok (.aload_n 0, 1) := by decide +kernel
theorem dX8_led_36 : decode cX8_led 36 = .ok (.iload_n 1, 1) := by decide +kernel
theorem dX8_led_37 : decode cX8_led 37 = .ok (.iload_n 2, 1) := by decide +kernel
theorem dX8_led_38 : decode cX8_led 38 = .ok (.iload_n 3, 1) := by decide +kernel
theorem dX8_led_39 : decode cX8_led 39 = .ok (.invokevirtual 220, 3) := by decide +kernel
theorem dX8_led_42 : decode cX8_led 42 = .ok (.ireturn, 1) := by decide +kernel
theorem dX8_fastest_0 : decode cX8_fastest 0 = .ok (.aload_n 0, 1) := by decide +kernel
theorem dX8_fastest_1 : decode cX8_fastest 1 = .ok (.getfield 26, 3) := by decide +kernel
theorem dX8_fastest_4 : decode cX8_fastest 4 = .ok (.iload_n 1, 1) := by decide +kernel
theorem dX8_fastest_5 : decode cX8_fastest 5 = .ok (.invokevirtual 146, 3) := by decide +kernel
theorem dX8_fastest_8 : decode cX8_fastest 8 = .ok (.ifCond .ne 5, 3) := by decide +kernel
theorem dX8_fastest_11 : decode cX8_fastest 11 = .ok (.iconst (-1), 1) := by decide +kernel
theorem dX8_fastest_12 : decode cX8_fastest 12 = .ok (.ireturn, 1) := by decide +kernel
theorem dX8_fastest_13 : decode cX8_fastest 13 = .ok (.aload_n 0, 1) := by decide +kernel
theorem dX8_fastest_14 : decode cX8_fastest 14 = .ok (.getfield 33, 3) := by decide +kernel
theorem dX8_fastest_17 : decode cX8_fastest 17 = .ok (.iload_n 1, 1) := by decide +kernel
theorem dX8_fastest_18 : decode cX8_fastest 18 = .ok (.invokevirtual 149, 3) := by decide +kernel
theorem dX8_fastest_21 : decode cX8_fastest 21 = .ok (.astore_n 2, 1) := by decide +kernel
theorem dX8_fastest_22 : decode cX8_fastest 22 = .ok (.aload_n 2, 1) := by decide +kernel
theorem dX8_fastest_23 : decode cX8_fastest 23 = .ok (.getfield 162, 3) := by decide +kernel
theorem dX8_fastest_26 : decode cX8_fastest 26 = .ok (.ifCond .eq 6, 3) := by decide +kernel
theorem dX8_fastest_29 : decode cX8_fastest 29 = .ok (.bipush (-2), 2) := by decide +kernel
theorem dX8_fastest_31 : decode cX8_fastest 31 = .ok (.ireturn, 1) := by decide +kernel
theorem dX8_fastest_32 : decode cX8_fastest 32 = .ok (.bipush (-4), 2) := by decide +kernel
theorem dX8_fastest_34 : decode cX8_fastest 34 = .ok (.istore_n 3, 1) := by decide +kernel
theorem dX8_fastest_35 : decode cX8_fastest 35 = .ok (.ldc 224, 2) := by decide +kernel
theorem dX8_fastest_37 : decode cX8_fastest 37 = .ok (.istore 4, 2) := by decide +kernel
theorem dX8_fastest_39 : decode cX8_fastest 39 = .ok (.iconst 0, 1) := by decide +kernel
theorem dX8_fastest_40 : decode cX8_fastest 40 = .ok (.istore 5, 2) := by decide +kernel
theorem dX8_fastest_42 : decode cX8_fastest 42 = .ok (.iload 5, 2) := by decide +kernel
theorem dX8_fastest_44 : decode cX8_fastest 44 = .ok (.aload_n 0, 1) := by decide +kernel
theorem dX8_fastest_45 : decode cX8_fastest 45 = .ok (.getfield 26, 3) := by decide +kernel
theorem dX8_fastest_48 : decode cX8_fastest 48 = .ok (.getfield 225, 3) := by decide +kernel
theorem dX8_fastest_51 : decode cX8_fastest 51 = .ok (.if_icmp .ge 43, 3) := by decide +kernel
theorem dX8_fastest_54 : decode cX8_fastest 54 = .ok (.aload_n 0, 1) := by decide +kernel
theorem dX8_fastest_55 : decode cX8_fastest 55 = .ok (.aload_n 0, 1) := by decide +kernel
theorem dX8_fastest_56 : decode cX8_fastest 56 = .ok (.getfield 33, 3) := by decide +kernel
theorem dX8_fastest_59 : decode cX8_fastest 59 = .ok (.aload_n 2, 1) := by decide +kernel
theorem dX8_fastest_60 : decode cX8_fastest 60 = .ok (.iload 5, 2) := by decide +kernel
theorem dX8_fastest_62 : decode cX8_fastest 62 = .ok (.invokevirtual 228, 3) := by decide +kernel
theorem dX8_fastest_65 : decode cX8_fastest 65 = .ok (.istore 6, 2) := by decide +kernel
theorem dX8_fastest_67 : decode cX8_fastest 67 = .ok (.iload 6, 2) := by decide +kernel
theorem dX8_fastest_69 : decode cX8_fastest 69 = .ok (.bipush (-4), 2) := by decide +kernel
theorem dX8_fastest_71 : decode cX8_fastest 71 = .ok (.if_icmp .eq 17, 3) := by decide +kernel
theorem dX8_fastest_74 : decode cX8_fastest 74 = .ok (.iload 6, 2) := by decide +kernel
theorem dX8_fastest_76 : decode cX8_fastest 76 = .ok (.iload 4, 2) := by decide +kernel
theorem dX8_fastest_78 : decode cX8_fastest 78 = .ok (.if_icmp .ge 10, 3) := by decide +kernel
theorem dX8_fastest_81 : decode cX8_fastest 81 = .ok (.iload 6, 2) := by decide +kernel
theorem dX8_fastest_83 : decode cX8_fastest 83 = .ok (.istore 4, 2) := by decide +kernel
theorem dX8_fastest_85 : decode cX8_fastest 85 = .ok (.iload 5, 2) := by decide +kernel
theorem dX8_fastest_87 : decode cX8_fastest 87 = .ok (.istore_n 3, 1) := by decide +kernel
theorem dX8_fastest_88 : decode cX8_fastest 88 = .ok (.iinc 5 1, 3) := by decide +kernel
theorem dX8_fastest_91 : decode cX8_fastest 91 = .ok (.goto (-49), 3) := by decide +kernel
theorem dX8_fastest_94 : decode cX8_fastest 94 = .ok (.iload_n 3, 1) := by decide +kernel
theorem dX8_fastest_95 : decode cX8_fastest 95 = .ok (.ireturn, 1) := by decide +kernel
theorem dX8_tune_0 : decode cX8_tune 0 = .ok (.aload_n 0, 1) := by decide +kernel
theorem dX8_tune_1 : decode cX8_tune 1 = .ok (.getfield 26, 3) := by decide +kernel
theorem dX8_tune_4 : decode cX8_tune 4 = .ok (.iload_n 1, 1) := by decide +kernel
theorem dX8_tune_5 : decode cX8_tune 5 = .ok (.invokevirtual 146, 3) := by decide +kernel
theorem dX8_tune_8 : decode cX8_tune 8 = .ok (.ifCond .ne 5, 3) := by decide +kernel
theorem dX8_tune_11 : decode cX8_tune 11 = .ok (.iconst (-1), 1) := by decide +kernel
theorem dX8_tune_12 : decode cX8_tune 12 = .ok (.ireturn, 1) := by decide +kernel
theorem dX8_tune_13 : decode cX8_tune 13 = .ok (.aload_n 0, 1) := by decide +kernel
theorem dX8_tune_14 : decode cX8_tune 14 = .ok (.getfield 33, 3) := by decide +kernel
theorem dX8_tune_17 : decode cX8_tune 17 = .ok (.iload_n 1, 1) := by decide +kernel
theorem dX8_tune_18 : decode cX8_tune 18 = .ok (.invokevirtual 149, 3) := by decide +kernel
theorem dX8_tune_21 : decode cX8_tune 21 = .ok (.astore_n 2, 1) := by decide +kernel
theorem dX8_tune_22 : decode cX8_tune 22 = .ok (.aload_n 2, 1) := by decide +kernel
theorem dX8_tune_23 : decode cX8_tune 23 = .ok (.getfield 162, 3) := by decide +kernel
theorem dX8_tune_26 : decode cX8_tune 26 = .ok (.ifCond .eq 6, 3) := by decide +kernel
theorem dX8_tune_29 : decode cX8_tune 29 = .ok (.bipush (-2), 2) := by decide +kernel
theorem dX8_tune_31 : decode cX8_tune 31 = .ok (.ireturn, 1) := by decide +kernel
theorem dX8_tune_32 : decode cX8_tune 32 = .ok (.aload_n 0, 1) := by decide +kernel
theorem dX8_tune_33 : decode cX8_tune 33 = .ok (.aload_n 0, 1) := by decide +kernel
theorem dX8_tune_34 : decode cX8_tune 34 = .ok (.getfield 33, 3) := by decide +kernel
theorem dX8_tune_37 : decode cX8_tune 37 = .ok (.aload_n 2, 1) := by decide +kernel
theorem dX8_tune_38 : decode cX8_tune 38 = .ok (.aload_n 2, 1) := by decide +kernel
theorem dX8_tune_39 : decode cX8_tune 39 = .ok (.getfield 159, 3) := by decide +kernel
theorem dX8_tune_42 : decode cX8_tune 42 = .ok (.invokevirtual 228, 3) := by decide +kernel
theorem dX8_tune_45 : decode cX8_tune 45 = .ok (.istore_n 3, 1) := by decide +kernel
theorem dX8_tune_46 : decode cX8_tune 46 = .ok (.iload_n 3, 1) := by decide +kernel
theorem dX8_tune_47 : decode cX8_tune 47 = .ok (.bipush (-4), 2) := by decide +kernel
theorem dX8_tune_49 : decode cX8_tune 49 = .ok (.if_icmp .ne 8, 3) := by decide +kernel
theorem dX8_tune_52 : decode cX8_tune 52 = .ok (.ldc 224, 2) := by decide +kernel
theorem dX8_tune_54 : decode cX8_tune 54 = .ok (.goto 4, 3) := by decide +kernel
theorem dX8_tune_57 : decode cX8_tune 57 = .ok (.iload_n 3, 1) := by decide +kernel
theorem dX8_tune_58 : decode cX8_tune 58 = .ok (.istore 4, 2) := by decide +kernel
theorem dX8_tune_60 : decode cX8_tune 60 = .ok (.bipush (-4), 2) := by decide +kernel
theorem dX8_tune_62 : decode cX8_tune 62 = .ok (.istore 5, 2) := by decide +kernel
theorem dX8_tune_64 : decode cX8_tune 64 = .ok (.aload_n 0, 1) := by decide +kernel
theorem dX8_tune_65 : decode cX8_tune 65 = .ok (.getfield 59, 3) := by decide +kernel
theorem dX8_tune_68 : decode cX8_tune 68 = .ok (.aload_n 0, 1) := by decide +kernel
theorem dX8_tune_69 : decode cX8_tune 69 = .ok (.getfield 33, 3) := by decide +kernel
theorem dX8_tune_72 : decode cX8_tune 72 = .ok (.invokevirtual 232, 3) := by decide +kernel
theorem dX8_tune_75 : decode cX8_tune 75 = .ok (.iconst 0, 1) := by decide +kernel
theorem dX8_tune_76 : decode cX8_tune 76 = .ok (.istore 6, 2) := by decide +kernel
theorem dX8_tune_78 : decode cX8_tune 78 = .ok (.iload 6, 2) := by decide +kernel
theorem dX8_tune_80 : decode cX8_tune 80 = .ok (.aload_n 0, 1) := by decide +kernel
theorem dX8_tune_81 : decode cX8_tune 81 = .ok (.getfield 26, 3) := by decide +kernel
theorem dX8_tune_84 : decode cX8_tune 84 = .ok (.getfield 113, 3) := by decide +kernel
theorem dX8_tune_87 : decode cX8_tune 87 = .ok (.if_icmp .ge 116, 3) := by decide +kernel
theorem dX8_tune_90 : decode cX8_tune 90 = .ok (.aload_n 0, 1) := by decide +kernel
theorem dX8_tune_91 : decode cX8_tune 91 = .ok (.getfield 33, 3) := by decide +kernel
theorem dX8_tune_94 : decode cX8_tune 94 = .ok (.aload_n 0, 1) := by decide +kernel
theorem dX8_tune_95 : decode cX8_tune 95 = .ok (.getfield 26, 3) := by decide +kernel
theorem dX8_tune_98 : decode cX8_tune 98 = .ok (.aload_n 2, 1) := by decide +kernel
theorem dX8_tune_99 : decode cX8_tune 99 = .ok (.getfield 159, 3) := by decide +kernel
theorem dX8_tune_102 : decode cX8_tune 102 = .ok (.iload 6, 2) := by decide +kernel
theorem dX8_tune_104 : decode cX8_tune 104 = .ok (.invokevirtual 129, 3) := by decide +kernel
theorem dX8_tune_107 : decode cX8_tune 107 = .ok (.istore 7, 2) := by decide +kernel
theorem dX8_tune_109 : decode cX8_tune 109 = .ok (.aload_n 0, 1) := by decide +kernel
theorem dX8_tune_110 : decode cX8_tune 110 = .ok (.getfield 59, 3) := by decide +kernel
theorem dX8_tune_113 : decode cX8_tune 113 = .ok (.aload_n 2, 1) := by decide +kernel
theorem dX8_tune_114 : decode cX8_tune 114 = .ok (.getfield 159, 3) := by decide +kernel
theorem dX8_tune_117 : decode cX8_tune 117 = .ok (.iload 6, 2) := by decide +kernel
theorem dX8_tune_119 : decode cX8_tune 119 = .ok (.iconst (-1), 1) := by decide +kernel
theorem dX8_tune_120 : decode cX8_tune 120 = .ok (.invokevirtual 198, 3) := by decide +kernel
theorem dX8_tune_123 : decode cX8_tune 123 = .ok (.iload 7, 2) := by decide +kernel
theorem dX8_tune_125 : decode cX8_tune 125 = .ok (.aload_n 0, 1) := by decide +kernel
theorem dX8_tune_126 : decode cX8_tune 126 = .ok (.getfield 26, 3) := by decide +kernel
theorem dX8_tune_129 : decode cX8_tune 129 = .ok (.getfield 119, 3) := by decide +kernel
theorem dX8_tune_132 : decode cX8_tune 132 = .ok (.iload 6, 2) := by decide +kernel
theorem dX8_tune_134 : decode cX8_tune 134 = .ok (.invokevirtual 122, 3) := by decide +kernel
theorem dX8_tune_137 : decode cX8_tune 137 = .ok (.if_icmp .ne 8, 3) := by decide +kernel
theorem dX8_tune_140 : decode cX8_tune 140 = .ok (.bipush (-4), 2) := by decide +kernel
theorem dX8_tune_142 : decode cX8_tune 142 = .ok (.goto 16, 3) := by decide +kernel
theorem dX8_tune_145 : decode cX8_tune 145 = .ok (.aload_n 0, 1) := by decide +kernel
theorem dX8_tune_146 : decode cX8_tune 146 = .ok (.aload_n 0, 1) := by decide +kernel
theorem dX8_tune_147 : decode cX8_tune 147 = .ok (.getfield 59, 3) := by decide +kernel
theorem dX8_tune_150 : decode cX8_tune 150 = .ok (.aload_n 2, 1) := by decide +kernel
theorem dX8_tune_151 : decode cX8_tune 151 = .ok (.aload_n 2, 1) := by decide +kernel
theorem dX8_tune_152 : decode cX8_tune 152 = .ok (.getfield 159, 3) := by decide +kernel
theorem dX8_tune_155 : decode cX8_tune 155 = .ok (.invokevirtual 228, 3) := by decide +kernel
theorem dX8_tune_158 : decode cX8_tune 158 = .ok (.istore 8, 2) := by decide +kernel
theorem dX8_tune_160 : decode cX8_tune 160 = .ok (.aload_n 0, 1) := by decide +kernel
theorem dX8_tune_161 : decode cX8_tune 161 = .ok (.getfield 59, 3) := by decide +kernel
theorem dX8_tune_164 : decode cX8_tune 164 = .ok (.aload_n 2, 1) := by decide +kernel
theorem dX8_tune_165 : decode cX8_tune 165 = .ok (.getfield 159, 3) := by decide +kernel
theorem dX8_tune_168 : decode cX8_tune 168 = .ok (.iload 6, 2) := by decide +kernel
theorem dX8_tune_170 : decode cX8_tune 170 = .ok (.iload 7, 2) := by decide +kernel
theorem dX8_tune_172 : decode cX8_tune 172 = .ok (.invokevirtual 198, 3) := by decide +kernel
theorem dX8_tune_175 : decode cX8_tune 175 = .ok (.iload 8, 2) := by decide +kernel
theorem dX8_tune_177 : decode cX8_tune 177 = .ok (.bipush (-4), 2) := by decide +kernel
theorem dX8_tune_179 : decode cX8_tune 179 = .ok (.if_icmp .eq 18, 3) := by decide +kernel
theorem dX8_tune_182 : decode cX8_tune 182 = .ok (.iload 8, 2) := by decide +kernel
theorem dX8_tune_184 : decode cX8_tune 184 = .ok (.iload 4, 2) := by decide +kernel
theorem dX8_tune_186 : decode cX8_tune 186 = .ok (.if_icmp .ge 11, 3) := by decide +kernel
theorem dX8_tune_189 : decode cX8_tune 189 = .ok (.iload 8, 2) := by decide +kernel
theorem dX8_tune_191 : decode cX8_tune 191 = .ok (.istore 4, 2) := by decide +kernel
theorem dX8_tune_193 : decode cX8_tune 193 = .ok (.iload 6, 2) := by decide +kernel
theorem dX8_tune_195 : decode cX8_tune 195 = .ok (.istore 5, 2) := by decide +kernel
theorem dX8_tune_197 : decode cX8_tune 197 = .ok (.iinc 6 1, 3) := by decide +kernel
theorem dX8_tune_200 : decode cX8_tune 200 = .ok (.goto (-122), 3) := by decide +kernel
theorem dX8_tune_203 : decode cX8_tune 203 = .ok (.iload 5, 2) := by decide +kernel
theorem dX8_tune_205 : decode cX8_tune 205 = .ok (.ireturn, 1) := by decide +kernel
theorem dX8_meet_0 : decode cX8_meet 0 = .ok (.aload_n 0, 1) := by decide +kernel
theorem dX8_meet_1 : decode cX8_meet 1 = .ok (.getfield 26, 3) := by decide +kernel
theorem dX8_meet_4 : decode cX8_meet 4 = .ok (.iload_n 1, 1) := by decide +kernel
theorem dX8_meet_5 : decode cX8_meet 5 = .ok (.invokevirtual 146, 3) := by decide +kernel
theorem dX8_meet_8 : decode cX8_meet 8 = .ok (.ifCond .eq 19, 3) := by decide +kernel
theorem dX8_meet_11 : decode cX8_meet 11 = .ok (.aload_n 0, 1) := by decide +kernel
theorem dX8_meet_12 : decode cX8_meet 12 = .ok (.getfield 26, 3) := by decide +kernel
theorem dX8_meet_15 : decode cX8_meet 15 = .ok (.iload_n 2, 1) := by decide +kernel
theorem dX8_meet_16 : decode cX8_meet 16 = .ok (.invokevirtual 146, 3) := by decide +kernel
theorem dX8_meet_19 : decode cX8_meet 19 = .ok (.ifCond .eq 8, 3) := by decide +kernel
theorem dX8_meet_22 : decode cX8_meet 22 = .ok (.iload_n 1, 1) := by decide +kernel
theorem dX8_meet_23 : decode cX8_meet 23 = .ok (.iload_n 2, 1) := by decide +kernel
theorem dX8_meet_24 : decode cX8_meet 24 = .ok (.if_icmp .ne 5, 3) := by decide +kernel
theorem dX8_meet_27 : decode cX8_meet 27 = .ok (.iconst (-1), 1) := by decide +kernel
theorem dX8_meet_28 : decode cX8_meet 28 = .ok (.ireturn, 1) := by decide +kernel
theorem dX8_meet_29 : decode cX8_meet 29 = .ok (.aload_n 0, 1) := by decide +kernel
theorem dX8_meet_30 : decode cX8_meet 30 = .ok (.getfield 65, 3) := by decide +kernel
theorem dX8_meet_33 : decode cX8_meet 33 = .ok (.aload_n 0, 1) := by decide +kernel
theorem dX8_meet_34 : decode cX8_meet 34 = .ok (.getfield 33, 3) := by decide +kernel
theorem dX8_meet_37 : decode cX8_meet 37 = .ok (.iload_n 1, 1) := by decide +kernel
theorem dX8_meet_38 : decode cX8_meet 38 = .ok (.invokevirtual 149, 3) := by decide +kernel
theorem dX8_meet_41 : decode cX8_meet 41 = .ok (.invokevirtual 212, 3) := by decide +kernel
theorem dX8_meet_44 : decode cX8_meet 44 = .ok (.aload_n 0, 1) := by decide +kernel
theorem dX8_meet_45 : decode cX8_meet 45 = .ok (.getfield 69, 3) := by decide +kernel
theorem dX8_meet_48 : decode cX8_meet 48 = .ok (.aload_n 0, 1) := by decide +kernel
theorem dX8_meet_49 : decode cX8_meet 49 = .ok (.getfield 33, 3) := by decide +kernel
theorem dX8_meet_52 : decode cX8_meet 52 = .ok (.iload_n 2, 1) := by decide +kernel
theorem dX8_meet_53 : decode cX8_meet 53 = .ok (.invokevirtual 149, 3) := by decide +kernel
theorem dX8_meet_56 : decode cX8_meet 56 = .ok (.invokevirtual 212, 3) := by decide +kernel
theorem dX8_meet_59 : decode cX8_meet 59 = .ok (.aload_n 0, 1) := by decide +kernel
theorem dX8_meet_60 : decode cX8_meet 60 = .ok (.getfield 75, 3) := by decide +kernel
theorem dX8_meet_63 : decode cX8_meet 63 = .ok (.aload_n 0, 1) := by decide +kernel
theorem dX8_meet_64 : decode cX8_meet 64 = .ok (.getfield 26, 3) := by decide +kernel
theorem dX8_meet_67 : decode cX8_meet 67 = .ok (.aload_n 0, 1) := by decide +kernel
theorem dX8_meet_68 : decode cX8_meet 68 = .ok (.getfield 33, 3) := by decide +kernel
theorem dX8_meet_71 : decode cX8_meet 71 = .ok (.aload_n 0, 1) := by decide +kernel
theorem dX8_meet_72 : decode cX8_meet 72 = .ok (.getfield 65, 3) := by decide +kernel
theorem dX8_meet_75 : decode cX8_meet 75 = .ok (.getfield 159, 3) := by decide +kernel
theorem dX8_meet_78 : decode cX8_meet 78 = .ok (.aload_n 0, 1) := by decide +kernel
theorem dX8_meet_79 : decode cX8_meet 79 = .ok (.getfield 65, 3) := by decide +kernel
theorem dX8_meet_82 : decode cX8_meet 82 = .ok (.getfield 156, 3) := by decide +kernel
theorem dX8_meet_85 : decode cX8_meet 85 = .ok (.invokevirtual 174, 3) := by decide +kernel
theorem dX8_meet_88 : decode cX8_meet 88 = .ok (.aload_n 0, 1) := by decide +kernel
theorem dX8_meet_89 : decode cX8_meet 89 = .ok (.getfield 79, 3) := by decide +kernel
theorem dX8_meet_92 : decode cX8_meet 92 = .ok (.aload_n 0, 1) := by decide +kernel
theorem dX8_meet_93 : decode cX8_meet 93 = .ok (.getfield 26, 3) := by decide +kernel
theorem dX8_meet_96 : decode cX8_meet 96 = .ok (.aload_n 0, 1) := by decide +kernel
theorem dX8_meet_97 : decode cX8_meet 97 = .ok (.getfield 33, 3) := by decide +kernel
theorem dX8_meet_100 : decode cX8_meet 100 = .ok (.aload_n 0, 1) := by decide +kernel
theorem dX8_meet_101 : decode cX8_meet 101 = .ok (.getfield 69, 3) := by decide +kernel
theorem dX8_meet_104 : decode cX8_meet 104 = .ok (.getfield 159, 3) := by decide +kernel
theorem dX8_meet_107 : decode cX8_meet 107 = .ok (.aload_n 0, 1) := by decide +kernel
theorem dX8_meet_108 : decode cX8_meet 108 = .ok (.getfield 69, 3) := by decide +kernel
theorem dX8_meet_111 : decode cX8_meet 111 = .ok (.getfield 156, 3) := by decide +kernel
theorem dX8_meet_114 : decode cX8_meet 114 = .ok (.invokevirtual 174, 3) := by decide +kernel
theorem dX8_meet_117 : decode cX8_meet 117 = .ok (.iconst 0, 1) := by decide +kernel
theorem dX8_meet_118 : decode cX8_meet 118 = .ok (.istore_n 3, 1) := by decide +kernel
theorem dX8_meet_119 : decode cX8_meet 119 = .ok (.iload_n 3, 1) := by decide +kernel
theorem dX8_meet_120 : decode cX8_meet 120 = .ok (.bipush 60, 2) := by decide +kernel
theorem dX8_meet_122 : decode cX8_meet 122 = .ok (.if_icmp .gt 63, 3) := by decide +kernel
theorem dX8_meet_125 : decode cX8_meet 125 = .ok (.aload_n 0, 1) := by decide +kernel
theorem dX8_meet_126 : decode cX8_meet 126 = .ok (.getfield 65, 3) := by decide +kernel
theorem dX8_meet_129 : decode cX8_meet 129 = .ok (.aload_n 0, 1) := by decide +kernel
theorem dX8_meet_130 : decode cX8_meet 130 = .ok (.getfield 69, 3) := by decide +kernel
theorem dX8_meet_133 : decode cX8_meet 133 = .ok (.invokevirtual 234, 3) := by decide +kernel
theorem dX8_meet_136 : decode cX8_meet 136 = .ok (.ifCond .eq 5, 3) := by decide +kernel
theorem dX8_meet_139 : decode cX8_meet 139 = .ok (.iload_n 3, 1) := by decide +kernel
theorem dX8_meet_140 : decode cX8_meet 140 = .ok (.ireturn, 1) := by decide +kernel
theorem dX8_meet_141 : decode cX8_meet 141 = .ok (.aload_n 0, 1) := by decide +kernel
theorem dX8_meet_142 : decode cX8_meet 142 = .ok (.aload_n 0, 1) := by decide +kernel
theorem dX8_meet_143 : decode cX8_meet 143 = .ok (.getfield 65, 3) := by decide +kernel
theorem dX8_meet_146 : decode cX8_meet 146 = .ok (.aload_n 0, 1) := by decide +kernel
theorem dX8_meet_147 : decode cX8_meet 147 = .ok (.getfield 75, 3) := by decide +kernel
theorem dX8_meet_150 : decode cX8_meet 150 = .ok (.aload_n 0, 1) := by decide +kernel
theorem dX8_meet_151 : decode cX8_meet 151 = .ok (.getfield 33, 3) := by decide +kernel
theorem dX8_meet_154 : decode cX8_meet 154 = .ok (.getfield 136, 3) := by decide +kernel
theorem dX8_meet_157 : decode cX8_meet 157 = .ok (.invokevirtual 238, 3) := by decide +kernel
theorem dX8_meet_160 : decode cX8_meet 160 = .ok (.aload_n 0, 1) := by decide +kernel
theorem dX8_meet_161 : decode cX8_meet 161 = .ok (.aload_n 0, 1) := by decide +kernel
theorem dX8_meet_162 : decode cX8_meet 162 = .ok (.getfield 69, 3) := by decide +kernel
theorem dX8_meet_165 : decode cX8_meet 165 = .ok (.aload_n 0, 1) := by decide +kernel
theorem dX8_meet_166 : decode cX8_meet 166 = .ok (.getfield 79, 3) := by decide +kernel
theorem dX8_meet_169 : decode cX8_meet 169 = .ok (.aload_n 0, 1) := by decide +kernel
theorem dX8_meet_170 : decode cX8_meet 170 = .ok (.getfield 33, 3) := by decide +kernel
theorem dX8_meet_173 : decode cX8_meet 173 = .ok (.getfield 136, 3) := by decide +kernel
theorem dX8_meet_176 : decode cX8_meet 176 = .ok (.invokevirtual 238, 3) := by decide +kernel
theorem dX8_meet_179 : decode cX8_meet 179 = .ok (.iinc 3 1, 3) := by decide +kernel
theorem dX8_meet_182 : decode cX8_meet 182 = .ok (.goto (-63), 3) := by decide +kernel
theorem dX8_meet_185 : decode cX8_meet 185 = .ok (.bipush (-4), 2) := by decide +kernel
theorem dX8_meet_187 : decode cX8_meet 187 = .ok (.ireturn, 1) := by decide +kernel
theorem dX8_clash_0 : decode cX8_clash 0 = .ok (.aload_n 0, 1) := by decide +kernel
theorem dX8_clash_1 : decode cX8_clash 1 = .ok (.getfield 26, 3) := by decide +kernel
theorem dX8_clash_4 : decode cX8_clash 4 = .ok (.iload_n 1, 1) := by decide +kernel
theorem dX8_clash_5 : decode cX8_clash 5 = .ok (.invokevirtual 126, 3) := by decide +kernel
theorem dX8_clash_8 : decode cX8_clash 8 = .ok (.ifCond .eq 28, 3) := by decide +kernel
theorem dX8_clash_11 : decode cX8_clash 11 = .ok (.aload_n 0, 1) := by decide +kernel
theorem dX8_clash_12 : decode cX8_clash 12 = .ok (.getfield 26, 3) := by decide +kernel
theorem dX8_clash_15 : decode cX8_clash 15 = .ok (.iload_n 2, 1) := by decide +kernel
theorem dX8_clash_16 : decode cX8_clash 16 = .ok (.invokevirtual 126, 3) := by decide +kernel
theorem dX8_clash_19 : decode cX8_clash 19 = .ok (.ifCond .eq 17, 3) := by decide +kernel
theorem dX8_clash_22 : decode cX8_clash 22 = .ok (.iload_n 1, 1) := by decide +kernel
theorem dX8_clash_23 : decode cX8_clash 23 = .ok (.iload_n 2, 1) := by decide +kernel
theorem dX8_clash_24 : decode cX8_clash 24 = .ok (.if_icmp .eq 12, 3) := by decide +kernel
theorem dX8_clash_27 : decode cX8_clash 27 = .ok (.iload_n 3, 1) := by decide +kernel
theorem dX8_clash_28 : decode cX8_clash 28 = .ok (.iconst 0, 1) := by decide +kernel
theorem dX8_clash_29 : decode cX8_clash 29 = .ok (.iconst 1, 1) := by decide +kernel
theorem dX8_clash_30 : decode cX8_clash 30 = .ok (.invokestatic 105, 3) := by decide +kernel
theorem dX8_clash_33 : decode cX8_clash 33 = .ok (.ifCond .ne 5, 3) := by decide +kernel
theorem dX8_clash_36 : decode cX8_clash 36 = .ok (.iconst (-1), 1) := by decide +kernel
theorem dX8_clash_37 : decode cX8_clash 37 = .ok (.ireturn, 1) := by decide +kernel
theorem dX8_clash_38 : decode cX8_clash 38 = .ok (.iconst 0, 1) := by decide +kernel
theorem dX8_clash_39 : decode cX8_clash 39 = .ok (.istore 4, 2) := by decide +kernel
theorem dX8_clash_41 : decode cX8_clash 41 = .ok (.bipush (-4), 2) := by decide +kernel
theorem dX8_clash_43 : decode cX8_clash 43 = .ok (.istore 5, 2) := by decide +kernel
theorem dX8_clash_45 : decode cX8_clash 45 = .ok (.iconst 0, 1) := by decide +kernel
theorem dX8_clash_46 : decode cX8_clash 46 = .ok (.istore 6, 2) := by decide +kernel
theorem dX8_clash_48 : decode cX8_clash 48 = .ok (.iload 6, 2) := by decide +kernel
theorem dX8_clash_50 : decode cX8_clash 50 = .ok (.aload_n 0, 1) := by decide +kernel
theorem dX8_clash_51 : decode cX8_clash 51 = .ok (.getfield 26, 3) := by decide +kernel
theorem dX8_clash_54 : decode cX8_clash 54 = .ok (.getfield 113, 3) := by decide +kernel
theorem dX8_clash_57 : decode cX8_clash 57 = .ok (.if_icmp .ge 59, 3) := by decide +kernel
theorem dX8_clash_60 : decode cX8_clash 60 = .ok (.aload_n 0, 1) := by decide +kernel
theorem dX8_clash_61 : decode cX8_clash 61 = .ok (.getfield 33, 3) := by decide +kernel
theorem dX8_clash_64 : decode cX8_clash 64 = .ok (.aload_n 0, 1) := by decide +kernel
theorem dX8_clash_65 : decode cX8_clash 65 = .ok (.getfield 26, 3) := by decide +kernel
theorem dX8_clash_68 : decode cX8_clash 68 = .ok (.iload_n 1, 1) := by decide +kernel
theorem dX8_clash_69 : decode cX8_clash 69 = .ok (.iload 6, 2) := by decide +kernel
theorem dX8_clash_71 : decode cX8_clash 71 = .ok (.invokevirtual 129, 3) := by decide +kernel
theorem dX8_clash_74 : decode cX8_clash 74 = .ok (.aload_n 0, 1) := by decide +kernel
theorem dX8_clash_75 : decode cX8_clash 75 = .ok (.getfield 33, 3) := by decide +kernel
theorem dX8_clash_78 : decode cX8_clash 78 = .ok (.aload_n 0, 1) := by decide +kernel
theorem dX8_clash_79 : decode cX8_clash 79 = .ok (.getfield 26, 3) := by decide +kernel
theorem dX8_clash_82 : decode cX8_clash 82 = .ok (.iload_n 2, 1) := by decide +kernel
theorem dX8_clash_83 : decode cX8_clash 83 = .ok (.iload 6, 2) := by decide +kernel
theorem dX8_clash_85 : decode cX8_clash 85 = .ok (.invokevirtual 129, 3) := by decide +kernel
theorem dX8_clash_88 : decode cX8_clash 88 = .ok (.if_icmp .eq 22, 3) := by decide +kernel
theorem dX8_clash_91 : decode cX8_clash 91 = .ok (.iinc 4 1, 3) := by decide +kernel
theorem dX8_clash_94 : decode cX8_clash 94 = .ok (.iload 5, 2) := by decide +kernel
theorem dX8_clash_96 : decode cX8_clash 96 = .ok (.bipush (-4), 2) := by decide +kernel
theorem dX8_clash_98 : decode cX8_clash 98 = .ok (.if_icmp .ne 8, 3) := by decide +kernel
theorem dX8_clash_101 : decode cX8_clash 101 = .ok (.iload 6, 2) := by decide +kernel
theorem dX8_clash_103 : decode cX8_clash 103 = .ok (.goto 5, 3) := by decide +kernel
theorem dX8_clash_106 : decode cX8_clash 106 = .ok (.iload 5, 2) := by decide +kernel
theorem dX8_clash_108 : decode cX8_clash 108 = .ok (.istore 5, 2) := by decide +kernel
theorem dX8_clash_110 : decode cX8_clash 110 = .ok (.iinc 6 1, 3) := by decide +kernel
theorem dX8_clash_113 : decode cX8_clash 113 = .ok (.goto (-65), 3) := by decide +kernel
theorem dX8_clash_116 : decode cX8_clash 116 = .ok (.iload_n 3, 1) := by decide +kernel
theorem dX8_clash_117 : decode cX8_clash 117 = .ok (.ifCond .ne 8, 3) := by decide +kernel
theorem dX8_clash_120 : decode cX8_clash 120 = .ok (.iload 4, 2) := by decide +kernel
theorem dX8_clash_122 : decode cX8_clash 122 = .ok (.goto 5, 3) := by decide +kernel
theorem dX8_clash_125 : decode cX8_clash 125 = .ok (.iload 5, 2) := by decide +kernel
theorem dX8_clash_127 : decode cX8_clash 127 = .ok (.ireturn, 1) := by decide +kernel
theorem dX8_right_0 : decode cX8_right 0 = .ok (.aload_n 0, 1) := by decide +kernel
theorem dX8_right_1 : decode cX8_right 1 = .ok (.getfield 26, 3) := by decide +kernel
theorem dX8_right_4 : decode cX8_right 4 = .ok (.iload_n 1, 1) := by decide +kernel
theorem dX8_right_5 : decode cX8_right 5 = .ok (.invokevirtual 116, 3) := by decide +kernel
theorem dX8_right_8 : decode cX8_right 8 = .ok (.ifCond .eq 14, 3) := by decide +kernel
theorem dX8_right_11 : decode cX8_right 11 = .ok (.aload_n 0, 1) := by decide +kernel
theorem dX8_right_12 : decode cX8_right 12 = .ok (.getfield 26, 3) := by decide +kernel
theorem dX8_right_15 : decode cX8_right 15 = .ok (.iload_n 2, 1) := by decide +kernel
theorem dX8_right_16 : decode cX8_right 16 = .ok (.invokevirtual 116, 3) := by decide +kernel
theorem dX8_right_19 : decode cX8_right 19 = .ok (.ifCond .ne 5, 3) := by decide +kernel
theorem dX8_right_22 : decode cX8_right 22 = .ok (.iconst (-1), 1) := by decide +kernel
theorem dX8_right_23 : decode cX8_right 23 = .ok (.ireturn, 1) := by decide +kernel
theorem dX8_right_24 : decode cX8_right 24 = .ok (.aload_n 0, 1) := by decide +kernel
theorem dX8_right_25 : decode cX8_right 25 = .ok (.getfield 75, 3) := by decide +kernel
theorem dX8_right_28 : decode cX8_right 28 = .ok (.aload_n 0, 1) := by decide +kernel
theorem dX8_right_29 : decode cX8_right 29 = .ok (.getfield 26, 3) := by decide +kernel
theorem dX8_right_32 : decode cX8_right 32 = .ok (.aload_n 0, 1) := by decide +kernel
theorem dX8_right_33 : decode cX8_right 33 = .ok (.getfield 33, 3) := by decide +kernel
theorem dX8_right_36 : decode cX8_right 36 = .ok (.getfield 136, 3) := by decide +kernel
theorem dX8_right_39 : decode cX8_right 39 = .ok (.iload_n 2, 1) := by decide +kernel
theorem dX8_right_40 : decode cX8_right 40 = .ok (.invokevirtual 185, 3) := by decide +kernel
theorem dX8_right_43 : decode cX8_right 43 = .ok (.aload_n 0, 1) := by decide +kernel
theorem dX8_right_44 : decode cX8_right 44 = .ok (.getfield 75, 3) := by decide +kernel
theorem dX8_right_47 : decode cX8_right 47 = .ok (.iload_n 1, 1) := by decide +kernel
theorem dX8_right_48 : decode cX8_right 48 = .ok (.invokevirtual 178, 3) := by decide +kernel
theorem dX8_right_51 : decode cX8_right 51 = .ok (.istore_n 3, 1) := by decide +kernel
theorem dX8_right_52 : decode cX8_right 52 = .ok (.iconst 0, 1) := by decide +kernel
theorem dX8_right_53 : decode cX8_right 53 = .ok (.istore 4, 2) := by decide +kernel
theorem dX8_right_55 : decode cX8_right 55 = .ok (.iload_n 3, 1) := by decide +kernel
theorem dX8_right_56 : decode cX8_right 56 = .ok (.bipush (-4), 2) := by decide +kernel
theorem dX8_right_58 : decode cX8_right 58 = .ok (.if_icmp .ne 6, 3) := by decide +kernel
theorem dX8_right_61 : decode cX8_right 61 = .ok (.iload 4, 2) := by decide +kernel
theorem dX8_right_63 : decode cX8_right 63 = .ok (.ireturn, 1) := by decide +kernel
theorem dX8_right_64 : decode cX8_right 64 = .ok (.iconst 0, 1) := by decide +kernel
theorem dX8_right_65 : decode cX8_right 65 = .ok (.istore 5, 2) := by decide +kernel
theorem dX8_right_67 : decode cX8_right 67 = .ok (.iload 5, 2) := by decide +kernel
theorem dX8_right_69 : decode cX8_right 69 = .ok (.aload_n 0, 1) := by decide +kernel
theorem dX8_right_70 : decode cX8_right 70 = .ok (.getfield 26, 3) := by decide +kernel
theorem dX8_right_73 : decode cX8_right 73 = .ok (.getfield 225, 3) := by decide +kernel
theorem dX8_right_76 : decode cX8_right 76 = .ok (.if_icmp .ge 41, 3) := by decide +kernel
theorem dX8_right_79 : decode cX8_right 79 = .ok (.aload_n 0, 1) := by decide +kernel
theorem dX8_right_80 : decode cX8_right 80 = .ok (.iload 5, 2) := by decide +kernel
theorem dX8_right_82 : decode cX8_right 82 = .ok (.iload_n 1, 1) := by decide +kernel
theorem dX8_right_83 : decode cX8_right 83 = .ok (.iload_n 2, 1) := by decide +kernel
theorem dX8_right_84 : decode cX8_right 84 = .ok (.invokevirtual 220, 3) := by decide +kernel
theorem dX8_right_87 : decode cX8_right 87 = .ok (.istore 6, 2) := by decide +kernel
theorem dX8_right_89 : decode cX8_right 89 = .ok (.iload 6, 2) := by decide +kernel
theorem dX8_right_91 : decode cX8_right 91 = .ok (.bipush (-4), 2) := by decide +kernel
theorem dX8_right_93 : decode cX8_right 93 = .ok (.if_icmp .eq 18, 3) := by decide +kernel
theorem dX8_right_96 : decode cX8_right 96 = .ok (.iload 6, 2) := by decide +kernel
theorem dX8_right_98 : decode cX8_right 98 = .ok (.iload_n 3, 1) := by decide +kernel
theorem dX8_right_99 : decode cX8_right 99 = .ok (.if_icmp .gt 12, 3) := by decide +kernel
theorem dX8_right_102 : decode cX8_right 102 = .ok (.iload 4, 2) := by decide +kernel
theorem dX8_right_104 : decode cX8_right 104 = .ok (.iconst 1, 1) := by decide +kernel
theorem dX8_right_105 : decode cX8_right 105 = .ok (.iload 5, 2) := by decide +kernel
theorem dX8_right_107 : decode cX8_right 107 = .ok (.ishl, 1) := by decide +kernel
theorem dX8_right_108 : decode cX8_right 108 = .ok (.ior, 1) := by decide +kernel
theorem dX8_right_109 : decode cX8_right 109 = .ok (.istore 4, 2) := by decide +kernel
theorem dX8_right_111 : decode cX8_right 111 = .ok (.iinc 5 1, 3) := by decide +kernel
theorem dX8_right_114 : decode cX8_right 114 = .ok (.goto (-47), 3) := by decide +kernel
theorem dX8_right_117 : decode cX8_right 117 = .ok (.iload 4, 2) := by decide +kernel
theorem dX8_right_119 : decode cX8_right 119 = .ok (.ireturn, 1) := by decide +kernel
theorem dX8_hear_0 : decode cX8_hear 0 = .ok (.aload_n 0, 1) := by decide +kernel
theorem dX8_hear_1 : decode cX8_hear 1 = .ok (.getfield 26, 3) := by decide +kernel
theorem dX8_hear_4 : decode cX8_hear 4 = .ok (.iload_n 1, 1) := by decide +kernel
theorem dX8_hear_5 : decode cX8_hear 5 = .ok (.invokevirtual 116, 3) := by decide +kernel
theorem dX8_hear_8 : decode cX8_hear 8 = .ok (.ifCond .eq 12, 3) := by decide +kernel
theorem dX8_hear_11 : decode cX8_hear 11 = .ok (.iload_n 2, 1) := by decide +kernel
theorem dX8_hear_12 : decode cX8_hear 12 = .ok (.iconst 0, 1) := by decide +kernel
theorem dX8_hear_13 : decode cX8_hear 13 = .ok (.iconst 3, 1) := by decide +kernel
theorem dX8_hear_14 : decode cX8_hear 14 = .ok (.invokestatic 105, 3) := by decide +kernel
theorem dX8_hear_17 : decode cX8_hear 17 = .ok (.ifCond .ne 5, 3) := by decide +kernel
theorem dX8_hear_20 : decode cX8_hear 20 = .ok (.iconst (-1), 1) := by decide +kernel
theorem dX8_hear_21 : decode cX8_hear 21 = .ok (.ireturn, 1) := by decide +kernel
theorem dX8_hear_22 : decode cX8_hear 22 = .ok (.aload_n 0, 1) := by decide +kernel
theorem dX8_hear_23 : decode cX8_hear 23 = .ok (.getfield 242, 3) := by decide +kernel
theorem dX8_hear_26 : decode cX8_hear 26 = .ok (.bipush 8, 2) := by decide +kernel
theorem dX8_hear_28 : decode cX8_hear 28 = .ok (.if_icmp .lt 6, 3) := by decide +kernel
theorem dX8_hear_31 : decode cX8_hear 31 = .ok (.bipush (-3), 2) := by decide +kernel
theorem dX8_hear_33 : decode cX8_hear 33 = .ok (.ireturn, 1) := by decide +kernel
theorem dX8_hear_34 : decode cX8_hear 34 = .ok (.aload_n 0, 1) := by decide +kernel
theorem dX8_hear_35 : decode cX8_hear 35 = .ok (.getfield 52, 3) := by decide +kernel
theorem dX8_hear_38 : decode cX8_hear 38 = .ok (.aload_n 0, 1) := by decide +kernel
theorem dX8_hear_39 : decode cX8_hear 39 = .ok (.getfield 242, 3) := by decide +kernel
theorem dX8_hear_42 : decode cX8_hear 42 = .ok (.iload_n 1, 1) := by decide +kernel
theorem dX8_hear_43 : decode cX8_hear 43 = .ok (.invokevirtual 245, 3) := by decide +kernel
theorem dX8_hear_46 : decode cX8_hear 46 = .ok (.aload_n 0, 1) := by decide +kernel
theorem dX8_hear_47 : decode cX8_hear 47 = .ok (.getfield 56, 3) := by decide +kernel
theorem dX8_hear_50 : decode cX8_hear 50 = .ok (.aload_n 0, 1) := by decide +kernel
theorem dX8_hear_51 : decode cX8_hear 51 = .ok (.getfield 242, 3) := by decide +kernel
theorem dX8_hear_54 : decode cX8_hear 54 = .ok (.iload_n 2, 1) := by decide +kernel
theorem dX8_hear_55 : decode cX8_hear 55 = .ok (.invokevirtual 245, 3) := by decide +kernel
theorem dX8_hear_58 : decode cX8_hear 58 = .ok (.aload_n 0, 1) := by decide +kernel
theorem dX8_hear_59 : decode cX8_hear 59 = .ok (.dup, 1) := by decide +kernel
theorem dX8_hear_60 : decode cX8_hear 60 = .ok (.getfield 242, 3) := by decide +kernel
theorem dX8_hear_63 : decode cX8_hear 63 = .ok (.iconst 1, 1) := by decide +kernel
theorem dX8_hear_64 : decode cX8_hear 64 = .ok (.iadd, 1) := by decide +kernel
theorem dX8_hear_65 : decode cX8_hear 65 = .ok (.putfield 242, 3) := by decide +kernel
theorem dX8_hear_68 : decode cX8_hear 68 = .ok (.aload_n 0, 1) := by decide +kernel
theorem dX8_hear_69 : decode cX8_hear 69 = .ok (.getfield 242, 3) := by decide +kernel
theorem dX8_hear_72 : decode cX8_hear 72 = .ok (.ireturn, 1) := by decide +kernel
theorem dX8_forget_0 : decode cX8_forget 0 = .ok (.aload_n 0, 1) := by decide +kernel
theorem dX8_forget_1 : decode cX8_forget 1 = .ok (.getfield 242, 3) := by decide +kernel
theorem dX8_forget_4 : decode cX8_forget 4 = .ok (.istore_n 1, 1) := by decide +kernel
theorem dX8_forget_5 : decode cX8_forget 5 = .ok (.aload_n 0, 1) := by decide +kernel
theorem dX8_forget_6 : decode cX8_forget 6 = .ok (.iconst 0, 1) := by decide +kernel
theorem dX8_forget_7 : decode cX8_forget 7 = .ok (.putfield 242, 3) := by decide +kernel
theorem dX8_forget_10 : decode cX8_forget 10 = .ok (.iload_n 1, 1) := by decide +kernel
theorem dX8_forget_11 : decode cX8_forget 11 = .ok (.ireturn, 1) := by decide +kernel
theorem dX8_which_0 : decode cX8_which 0 = .ok (.iconst 0, 1) := by decide +kernel
theorem dX8_which_1 : decode cX8_which 1 = .ok (.istore_n 1, 1) := by decide +kernel
theorem dX8_which_2 : decode cX8_which 2 = .ok (.iconst 0, 1) := by decide +kernel
theorem dX8_which_3 : decode cX8_which 3 = .ok (.istore_n 2, 1) := by decide +kernel
theorem dX8_which_4 : decode cX8_which 4 = .ok (.iload_n 2, 1) := by decide +kernel
theorem dX8_which_5 : decode cX8_which 5 = .ok (.aload_n 0, 1) := by decide +kernel
theorem dX8_which_6 : decode cX8_which 6 = .ok (.getfield 26, 3) := by decide +kernel
theorem dX8_which_9 : decode cX8_which 9 = .ok (.getfield 225, 3) := by decide +kernel
theorem dX8_which_12 : decode cX8_which 12 = .ok (.if_icmp .ge 23, 3) := by decide +kernel
theorem dX8_which_15 : decode cX8_which 15 = .ok (.aload_n 0, 1) := by decide +kernel
theorem dX8_which_16 : decode cX8_which 16 = .ok (.iload_n 2, 1) := by decide +kernel
theorem dX8_which_17 : decode cX8_which 17 = .ok (.invokevirtual 249, 3) := by decide +kernel
theorem dX8_which_20 : decode cX8_which 20 = .ok (.ifCond .eq 9, 3) := by decide +kernel
theorem dX8_which_23 : decode cX8_which 23 = .ok (.iload_n 1, 1) := by decide +kernel
theorem dX8_which_24 : decode cX8_which 24 = .ok (.iconst 1, 1) := by decide +kernel
theorem dX8_which_25 : decode cX8_which 25 = .ok (.iload_n 2, 1) := by decide +kernel
theorem dX8_which_26 : decode cX8_which 26 = .ok (.ishl, 1) := by decide +kernel
theorem dX8_which_27 : decode cX8_which 27 = .ok (.ior, 1) := by decide +kernel
theorem dX8_which_28 : decode cX8_which 28 = .ok (.istore_n 1, 1) := by decide +kernel
theorem dX8_which_29 : decode cX8_which 29 = .ok (.iinc 2 1, 3) := by decide +kernel
theorem dX8_which_32 : decode cX8_which 32 = .ok (.goto (-28), 3) := by decide +kernel
theorem dX8_which_35 : decode cX8_which 35 = .ok (.iload_n 1, 1) := by decide +kernel
theorem dX8_which_36 : decode cX8_which 36 = .ok (.ireturn, 1) := by decide +kernel
theorem dX8_seen_0 : decode cX8_seen 0 = .ok (.aload_n 0, 1) := by decide +kernel
theorem dX8_seen_1 : decode cX8_seen 1 = .ok (.getfield 26, 3) := by decide +kernel
theorem dX8_seen_4 : decode cX8_seen 4 = .ok (.iload_n 1, 1) := by decide +kernel
theorem dX8_seen_5 : decode cX8_seen 5 = .ok (.invokevirtual 146, 3) := by decide +kernel
theorem dX8_seen_8 : decode cX8_seen 8 = .ok (.ifCond .eq 24, 3) := by decide +kernel
theorem dX8_seen_11 : decode cX8_seen 11 = .ok (.aload_n 0, 1) := by decide +kernel
theorem dX8_seen_12 : decode cX8_seen 12 = .ok (.getfield 26, 3) := by decide +kernel
theorem dX8_seen_15 : decode cX8_seen 15 = .ok (.iload_n 2, 1) := by decide +kernel
theorem dX8_seen_16 : decode cX8_seen 16 = .ok (.invokevirtual 116, 3) := by decide +kernel
theorem dX8_seen_19 : decode cX8_seen 19 = .ok (.ifCond .eq 13, 3) := by decide +kernel
theorem dX8_seen_22 : decode cX8_seen 22 = .ok (.iload_n 3, 1) := by decide +kernel
theorem dX8_seen_23 : decode cX8_seen 23 = .ok (.iconst 0, 1) := by decide +kernel
theorem dX8_seen_24 : decode cX8_seen 24 = .ok (.bipush 30, 2) := by decide +kernel
theorem dX8_seen_26 : decode cX8_seen 26 = .ok (.invokestatic 105, 3) := by decide +kernel
theorem dX8_seen_29 : decode cX8_seen 29 = .ok (.ifCond .ne 5, 3) := by decide +kernel
theorem dX8_seen_32 : decode cX8_seen 32 = .ok (.iconst (-1), 1) := by decide +kernel
theorem dX8_seen_33 : decode cX8_seen 33 = .ok (.ireturn, 1) := by decide +kernel
theorem dX8_seen_34 : decode cX8_seen 34 = .ok (.iconst 0, 1) := by decide +kernel
theorem dX8_seen_35 : decode cX8_seen 35 = .ok (.istore 4, 2) := by decide +kernel
theorem dX8_seen_37 : decode cX8_seen 37 = .ok (.iconst 0, 1) := by decide +kernel
theorem dX8_seen_38 : decode cX8_seen 38 = .ok (.istore 5, 2) := by decide +kernel
theorem dX8_seen_40 : decode cX8_seen 40 = .ok (.iload 5, 2) := by decide +kernel
theorem dX8_seen_42 : decode cX8_seen 42 = .ok (.aload_n 0, 1) := by decide +kernel
theorem dX8_seen_43 : decode cX8_seen 43 = .ok (.getfield 26, 3) := by decide +kernel
theorem dX8_seen_46 : decode cX8_seen 46 = .ok (.getfield 225, 3) := by decide +kernel
theorem dX8_seen_49 : decode cX8_seen 49 = .ok (.if_icmp .ge 37, 3) := by decide +kernel
theorem dX8_seen_52 : decode cX8_seen 52 = .ok (.aload_n 0, 1) := by decide +kernel
theorem dX8_seen_53 : decode cX8_seen 53 = .ok (.aload_n 0, 1) := by decide +kernel
theorem dX8_seen_54 : decode cX8_seen 54 = .ok (.getfield 33, 3) := by decide +kernel
theorem dX8_seen_57 : decode cX8_seen 57 = .ok (.iload_n 1, 1) := by decide +kernel
theorem dX8_seen_58 : decode cX8_seen 58 = .ok (.invokevirtual 149, 3) := by decide +kernel
theorem dX8_seen_61 : decode cX8_seen 61 = .ok (.iload 5, 2) := by decide +kernel
theorem dX8_seen_63 : decode cX8_seen 63 = .ok (.iload_n 3, 1) := by decide +kernel
theorem dX8_seen_64 : decode cX8_seen 64 = .ok (.invokevirtual 252, 3) := by decide +kernel
theorem dX8_seen_67 : decode cX8_seen 67 = .ok (.iload_n 2, 1) := by decide +kernel
theorem dX8_seen_68 : decode cX8_seen 68 = .ok (.if_icmp .ne 12, 3) := by decide +kernel
theorem dX8_seen_71 : decode cX8_seen 71 = .ok (.iload 4, 2) := by decide +kernel
theorem dX8_seen_73 : decode cX8_seen 73 = .ok (.iconst 1, 1) := by decide +kernel
theorem dX8_seen_74 : decode cX8_seen 74 = .ok (.iload 5, 2) := by decide +kernel
theorem dX8_seen_76 : decode cX8_seen 76 = .ok (.ishl, 1) := by decide +kernel
theorem dX8_seen_77 : decode cX8_seen 77 = .ok (.ior, 1) := by decide +kernel
theorem dX8_seen_78 : decode cX8_seen 78 = .ok (.istore 4, 2) := by decide +kernel
theorem dX8_seen_80 : decode cX8_seen 80 = .ok (.iinc 5 1, 3) := by decide +kernel
theorem dX8_seen_83 : decode cX8_seen 83 = .ok (.goto (-43), 3) := by decide +kernel
theorem dX8_seen_86 : decode cX8_seen 86 = .ok (.iload 4, 2) := by decide +kernel
theorem dX8_seen_88 : decode cX8_seen 88 = .ok (.ireturn, 1) := by decide +kernel
theorem dX8_rains_0 : decode cX8_rains 0 = .ok (.aload_n 0, 1) := by decide +kernel
theorem dX8_rains_1 : decode cX8_rains 1 = .ok (.getfield 26, 3) := by decide +kernel
theorem dX8_rains_4 : decode cX8_rains 4 = .ok (.iload_n 1, 1) := by decide +kernel
theorem dX8_rains_5 : decode cX8_rains 5 = .ok (.invokevirtual 146, 3) := by decide +kernel
theorem dX8_rains_8 : decode cX8_rains 8 = .ok (.ifCond .eq 33, 3) := by decide +kernel
theorem dX8_rains_11 : decode cX8_rains 11 = .ok (.iload_n 2, 1) := by decide +kernel
theorem dX8_rains_12 : decode cX8_rains 12 = .ok (.iconst 0, 1) := by decide +kernel
theorem dX8_rains_13 : decode cX8_rains 13 = .ok (.bipush 8, 2) := by decide +kernel
theorem dX8_rains_15 : decode cX8_rains 15 = .ok (.invokestatic 105, 3) := by decide +kernel
theorem dX8_rains_18 : decode cX8_rains 18 = .ok (.ifCond .eq 23, 3) := by decide +kernel
theorem dX8_rains_21 : decode cX8_rains 21 = .ok (.iload_n 3, 1) := by decide +kernel
theorem dX8_rains_22 : decode cX8_rains 22 = .ok (.iconst 0, 1) := by decide +kernel
theorem dX8_rains_23 : decode cX8_rains 23 = .ok (.bipush 10, 2) := by decide +kernel
theorem dX8_rains_25 : decode cX8_rains 25 = .ok (.invokestatic 105, 3) := by decide +kernel
theorem dX8_rains_28 : decode cX8_rains 28 = .ok (.ifCond .eq 13, 3) := by decide +kernel
theorem dX8_rains_31 : decode cX8_rains 31 = .ok (.iload 4, 2) := by decide +kernel
theorem dX8_rains_33 : decode cX8_rains 33 = .ok (.iconst 0, 1) := by decide +kernel
theorem dX8_rains_34 : decode cX8_rains 34 = .ok (.iconst 1, 1) := by decide +kernel
theorem dX8_rains_35 : decode cX8_rains 35 = .ok (.invokestatic 105, 3) := by decide +kernel
theorem dX8_rains_38 : decode cX8_rains 38 = .ok (.ifCond .ne 5, 3) := by decide +kernel
theorem dX8_rains_41 : decode cX8_rains 41 = .ok (.iconst (-1), 1) := by decide +kernel
theorem dX8_rains_42 : decode cX8_rains 42 = .ok (.ireturn, 1) := by decide +kernel
theorem dX8_rains_43 : decode cX8_rains 43 = .ok (.aload_n 0, 1) := by decide +kernel
theorem dX8_rains_44 : decode cX8_rains 44 = .ok (.getfield 33, 3) := by decide +kernel
theorem dX8_rains_47 : decode cX8_rains 47 = .ok (.iload_n 1, 1) := by decide +kernel
theorem dX8_rains_48 : decode cX8_rains 48 = .ok (.invokevirtual 149, 3) := by decide +kernel
theorem dX8_rains_51 : decode cX8_rains 51 = .ok (.astore 5, 2) := by decide +kernel
theorem dX8_rains_53 : decode cX8_rains 53 = .ok (.aload_n 0, 1) := by decide +kernel
theorem dX8_rains_54 : decode cX8_rains 54 = .ok (.getfield 75, 3) := by decide +kernel
theorem dX8_rains_57 : decode cX8_rains 57 = .ok (.aload_n 0, 1) := by decide +kernel
theorem dX8_rains_58 : decode cX8_rains 58 = .ok (.getfield 26, 3) := by decide +kernel
theorem dX8_rains_61 : decode cX8_rains 61 = .ok (.aload_n 0, 1) := by decide +kernel
theorem dX8_rains_62 : decode cX8_rains 62 = .ok (.getfield 33, 3) := by decide +kernel
theorem dX8_rains_65 : decode cX8_rains 65 = .ok (.aload 5, 2) := by decide +kernel
theorem dX8_rains_67 : decode cX8_rains 67 = .ok (.getfield 159, 3) := by decide +kernel
theorem dX8_rains_70 : decode cX8_rains 70 = .ok (.aload 5, 2) := by decide +kernel
theorem dX8_rains_72 : decode cX8_rains 72 = .ok (.getfield 156, 3) := by decide +kernel
theorem dX8_rains_75 : decode cX8_rains 75 = .ok (.invokevirtual 174, 3) := by decide +kernel
theorem dX8_rains_78 : decode cX8_rains 78 = .ok (.aload_n 0, 1) := by decide +kernel
theorem dX8_rains_79 : decode cX8_rains 79 = .ok (.getfield 59, 3) := by decide +kernel
theorem dX8_rains_82 : decode cX8_rains 82 = .ok (.aload_n 0, 1) := by decide +kernel
theorem dX8_rains_83 : decode cX8_rains 83 = .ok (.getfield 33, 3) := by decide +kernel
theorem dX8_rains_86 : decode cX8_rains 86 = .ok (.invokevirtual 232, 3) := by decide +kernel
theorem dX8_rains_89 : decode cX8_rains 89 = .ok (.aload_n 0, 1) := by decide +kernel
theorem dX8_rains_90 : decode cX8_rains 90 = .ok (.getfield 59, 3) := by decide +kernel
theorem dX8_rains_93 : decode cX8_rains 93 = .ok (.iconst 3, 1) := by decide +kernel
theorem dX8_rains_94 : decode cX8_rains 94 = .ok (.putfield 136, 3) := by decide +kernel
theorem dX8_rains_97 : decode cX8_rains 97 = .ok (.aload_n 0, 1) := by decide +kernel
theorem dX8_rains_98 : decode cX8_rains 98 = .ok (.getfield 79, 3) := by decide +kernel
theorem dX8_rains_101 : decode cX8_rains 101 = .ok (.aload_n 0, 1) := by decide +kernel
theorem dX8_rains_102 : decode cX8_rains 102 = .ok (.getfield 26, 3) := by decide +kernel
theorem dX8_rains_105 : decode cX8_rains 105 = .ok (.aload_n 0, 1) := by decide +kernel
theorem dX8_rains_106 : decode cX8_rains 106 = .ok (.getfield 59, 3) := by decide +kernel
theorem dX8_rains_109 : decode cX8_rains 109 = .ok (.aload 5, 2) := by decide +kernel
theorem dX8_rains_111 : decode cX8_rains 111 = .ok (.getfield 159, 3) := by decide +kernel
theorem dX8_rains_114 : decode cX8_rains 114 = .ok (.aload 5, 2) := by decide +kernel
theorem dX8_rains_116 : decode cX8_rains 116 = .ok (.getfield 156, 3) := by decide +kernel
theorem dX8_rains_119 : decode cX8_rains 119 = .ok (.invokevirtual 174, 3) := by decide +kernel
theorem dX8_rains_122 : decode cX8_rains 122 = .ok (.iconst 1, 1) := by decide +kernel
theorem dX8_rains_123 : decode cX8_rains 123 = .ok (.istore 6, 2) := by decide +kernel
theorem dX8_rains_125 : decode cX8_rains 125 = .ok (.iconst 0, 1) := by decide +kernel
theorem dX8_rains_126 : decode cX8_rains 126 = .ok (.istore 7, 2) := by decide +kernel
theorem dX8_rains_128 : decode cX8_rains 128 = .ok (.iload 7, 2) := by decide +kernel
theorem dX8_rains_130 : decode cX8_rains 130 = .ok (.iload_n 2, 1) := by decide +kernel
theorem dX8_rains_131 : decode cX8_rains 131 = .ok (.if_icmp .ge 16, 3) := by decide +kernel
theorem dX8_rains_134 : decode cX8_rains 134 = .ok (.iload 6, 2) := by decide +kernel
theorem dX8_rains_136 : decode cX8_rains 136 = .ok (.bipush 10, 2) := by decide +kernel
theorem dX8_rains_138 : decode cX8_rains 138 = .ok (.imul, 1) := by decide +kernel
theorem dX8_rains_139 : decode cX8_rains 139 = .ok (.istore 6, 2) := by decide +kernel
theorem dX8_rains_141 : decode cX8_rains 141 = .ok (.iinc 7 1, 3) := by decide +kernel
theorem dX8_rains_144 : decode cX8_rains 144 = .ok (.goto (-16), 3) := by decide +kernel
theorem dX8_rains_147 : decode cX8_rains 147 = .ok (.iconst 0, 1) := by decide +kernel
theorem dX8_rains_148 : decode cX8_rains 148 = .ok (.istore 7, 2) := by decide +kernel
theorem dX8_rains_150 : decode cX8_rains 150 = .ok (.iconst 0, 1) := by decide +kernel
theorem dX8_rains_151 : decode cX8_rains 151 = .ok (.istore 8, 2) := by decide +kernel
theorem dX8_rains_153 : decode cX8_rains 153 = .ok (.iload 8, 2) := by decide +kernel
theorem dX8_rains_155 : decode cX8_rains 155 = .ok (.iconst 1, 1) := by decide +kernel
theorem dX8_rains_156 : decode cX8_rains 156 = .ok (.iload_n 2, 1) := by decide +kernel
theorem dX8_rains_157 : decode cX8_rains 157 = .ok (.ishl, 1) := by decide +kernel
theorem dX8_rains_158 : decode cX8_rains 158 = .ok (.if_icmp .ge 24, 3) := by decide +kernel
theorem dX8_rains_161 : decode cX8_rains 161 = .ok (.iload 7, 2) := by decide +kernel
theorem dX8_rains_163 : decode cX8_rains 163 = .ok (.aload_n 0, 1) := by decide +kernel
theorem dX8_rains_164 : decode cX8_rains 164 = .ok (.aload 5, 2) := by decide +kernel
theorem dX8_rains_166 : decode cX8_rains 166 = .ok (.iload 8, 2) := by decide +kernel
theorem dX8_rains_168 : decode cX8_rains 168 = .ok (.iload_n 2, 1) := by decide +kernel
theorem dX8_rains_169 : decode cX8_rains 169 = .ok (.iload_n 3, 1) := by decide +kernel
theorem dX8_rains_170 : decode cX8_rains 170 = .ok (.invokevirtual 256, 3) := by decide +kernel
theorem dX8_rains_173 : decode cX8_rains 173 = .ok (.iadd, 1) := by decide +kernel
theorem dX8_rains_174 : decode cX8_rains 174 = .ok (.istore 7, 2) := by decide +kernel
theorem dX8_rains_176 : decode cX8_rains 176 = .ok (.iinc 8 1, 3) := by decide +kernel
theorem dX8_rains_179 : decode cX8_rains 179 = .ok (.goto (-26), 3) := by decide +kernel
theorem dX8_rains_182 : decode cX8_rains 182 = .ok (.iload 6, 2) := by decide +kernel
theorem dX8_rains_184 : decode cX8_rains 184 = .ok (.iload 7, 2) := by decide +kernel
theorem dX8_rains_186 : decode cX8_rains 186 = .ok (.invokestatic 260, 3) := by decide +kernel
theorem dX8_rains_189 : decode cX8_rains 189 = .ok (.istore 8, 2) := by decide +kernel
theorem dX8_rains_191 : decode cX8_rains 191 = .ok (.iload 4, 2) := by decide +kernel
theorem dX8_rains_193 : decode cX8_rains 193 = .ok (.ifCond .ne 8, 3) := by decide +kernel
theorem dX8_rains_196 : decode cX8_rains 196 = .ok (.iload 7, 2) := by decide +kernel
theorem dX8_rains_198 : decode cX8_rains 198 = .ok (.goto 5, 3) := by decide +kernel
theorem dX8_rains_201 : decode cX8_rains 201 = .ok (.iload 6, 2) := by decide +kernel
theorem dX8_rains_203 : decode cX8_rains 203 = .ok (.istore 9, 2) := by decide +kernel
theorem dX8_rains_205 : decode cX8_rains 205 = .ok (.iload 8, 2) := by decide +kernel
theorem dX8_rains_207 : decode cX8_rains 207 = .ok (.ifCond .le 11, 3) := by decide +kernel
theorem dX8_rains_210 : decode cX8_rains 210 = .ok (.iload 9, 2) := by decide +kernel
theorem dX8_rains_212 : decode cX8_rains 212 = .ok (.iload 8, 2) := by decide +kernel
theorem dX8_rains_214 : decode cX8_rains 214 = .ok (.idiv, 1) := by decide +kernel
theorem dX8_rains_215 : decode cX8_rains 215 = .ok (.goto 5, 3) := by decide +kernel
theorem dX8_rains_218 : decode cX8_rains 218 = .ok (.iload 9, 2) := by decide +kernel
theorem dX8_rains_220 : decode cX8_rains 220 = .ok (.ireturn, 1) := by decide +kernel
theorem dX8_year_0 : decode cX8_year 0 = .ok (.iload_n 1, 1) := by decide +kernel
theorem dX8_year_1 : decode cX8_year 1 = .ok (.iconst 0, 1) := by decide +kernel
theorem dX8_year_2 : decode cX8_year 2 = .ok (.sipush 9999, 3) := by decide +kernel
theorem dX8_year_5 : decode cX8_year 5 = .ok (.invokestatic 105, 3) := by decide +kernel
theorem dX8_year_8 : decode cX8_year 8 = .ok (.ifCond .eq 22, 3) := by decide +kernel
theorem dX8_year_11 : decode cX8_year 11 = .ok (.iload_n 2, 1) := by decide +kernel
theorem dX8_year_12 : decode cX8_year 12 = .ok (.iconst 1, 1) := by decide +kernel
theorem dX8_year_13 : decode cX8_year 13 = .ok (.bipush 60, 2) := by decide +kernel
theorem dX8_year_15 : decode cX8_year 15 = .ok (.invokestatic 105, 3) := by decide +kernel
theorem dX8_year_18 : decode cX8_year 18 = .ok (.ifCond .eq 12, 3) := by decide +kernel
theorem dX8_year_21 : decode cX8_year 21 = .ok (.iload_n 3, 1) := by decide +kernel
theorem dX8_year_22 : decode cX8_year 22 = .ok (.iconst 0, 1) := by decide +kernel
theorem dX8_year_23 : decode cX8_year 23 = .ok (.iconst 1, 1) := by decide +kernel
theorem dX8_year_24 : decode cX8_year 24 = .ok (.invokestatic 105, 3) := by decide +kernel
theorem dX8_year_27 : decode cX8_year 27 = .ok (.ifCond .ne 5, 3) := by decide +kernel
theorem dX8_year_30 : decode cX8_year 30 = .ok (.iconst (-1), 1) := by decide +kernel
theorem dX8_year_31 : decode cX8_year 31 = .ok (.ireturn, 1) := by decide +kernel
theorem dX8_year_32 : decode cX8_year 32 = .ok (.aload_n 0, 1) := by decide +kernel
theorem dX8_year_33 : decode cX8_year 33 = .ok (.getfield 59, 3) := by decide +kernel
theorem dX8_year_36 : decode cX8_year 36 = .ok (.aload_n 0, 1) := by decide +kernel
theorem dX8_year_37 : decode cX8_year 37 = .ok (.getfield 33, 3) := by decide +kernel
theorem dX8_year_40 : decode cX8_year 40 = .ok (.invokevirtual 232, 3) := by decide +kernel
theorem dX8_year_43 : decode cX8_year 43 = .ok (.iconst 0, 1) := by decide +kernel
theorem dX8_year_44 : decode cX8_year 44 = .ok (.istore 4, 2) := by decide +kernel
theorem dX8_year_46 : decode cX8_year 46 = .ok (.iload 4, 2) := by decide +kernel
theorem dX8_year_48 : decode cX8_year 48 = .ok (.iload_n 2, 1) := by decide +kernel
theorem dX8_year_49 : decode cX8_year 49 = .ok (.if_icmp .ge 31, 3) := by decide +kernel
theorem dX8_year_52 : decode cX8_year 52 = .ok (.aload_n 0, 1) := by decide +kernel
theorem dX8_year_53 : decode cX8_year 53 = .ok (.aload_n 0, 1) := by decide +kernel
theorem dX8_year_54 : decode cX8_year 54 = .ok (.getfield 59, 3) := by decide +kernel
theorem dX8_year_57 : decode cX8_year 57 = .ok (.iload_n 1, 1) := by decide +kernel
theorem dX8_year_58 : decode cX8_year 58 = .ok (.iload 4, 2) := by decide +kernel
theorem dX8_year_60 : decode cX8_year 60 = .ok (.invokestatic 263, 3) := by decide +kernel
theorem dX8_year_63 : decode cX8_year 63 = .ok (.invokevirtual 266, 3) := by decide +kernel
theorem dX8_year_66 : decode cX8_year 66 = .ok (.aload_n 0, 1) := by decide +kernel
theorem dX8_year_67 : decode cX8_year 67 = .ok (.aload_n 0, 1) := by decide +kernel
theorem dX8_year_68 : decode cX8_year 68 = .ok (.getfield 59, 3) := by decide +kernel
theorem dX8_year_71 : decode cX8_year 71 = .ok (.invokevirtual 192, 3) := by decide +kernel
theorem dX8_year_74 : decode cX8_year 74 = .ok (.iinc 4 1, 3) := by decide +kernel
theorem dX8_year_77 : decode cX8_year 77 = .ok (.goto (-31), 3) := by decide +kernel
theorem dX8_year_80 : decode cX8_year 80 = .ok (.aload_n 0, 1) := by decide +kernel
theorem dX8_year_81 : decode cX8_year 81 = .ok (.getfield 59, 3) := by decide +kernel
theorem dX8_year_84 : decode cX8_year 84 = .ok (.aload_n 0, 1) := by decide +kernel
theorem dX8_year_85 : decode cX8_year 85 = .ok (.getfield 26, 3) := by decide +kernel
theorem dX8_year_88 : decode cX8_year 88 = .ok (.iload_n 3, 1) := by decide +kernel
theorem dX8_year_89 : decode cX8_year 89 = .ok (.ifCond .ne 7, 3) := by decide +kernel
theorem dX8_year_92 : decode cX8_year 92 = .ok (.iconst 1, 1) := by decide +kernel
theorem dX8_year_93 : decode cX8_year 93 = .ok (.goto 4, 3) := by decide +kernel
theorem dX8_year_96 : decode cX8_year 96 = .ok (.iconst 2, 1) := by decide +kernel
theorem dX8_year_97 : decode cX8_year 97 = .ok (.invokevirtual 270, 3) := by decide +kernel
theorem dX8_year_100 : decode cX8_year 100 = .ok (.ireturn, 1) := by decide +kernel
theorem dX8_keep_0 : decode cX8_keep 0 = .ok (.aload_n 0, 1) := by decide +kernel
theorem dX8_keep_1 : decode cX8_keep 1 = .ok (.getfield 46, 3) := by decide +kernel
theorem dX8_keep_4 : decode cX8_keep 4 = .ok (.invokevirtual 273, 3) := by decide +kernel
theorem dX8_keep_7 : decode cX8_keep 7 = .ok (.ifCond .eq 6, 3) := by decide +kernel
theorem dX8_keep_10 : decode cX8_keep 10 = .ok (.bipush (-3), 2) := by decide +kernel
theorem dX8_keep_12 : decode cX8_keep 12 = .ok (.ireturn, 1) := by decide +kernel
theorem dX8_keep_13 : decode cX8_keep 13 = .ok (.aload_n 0, 1) := by decide +kernel
theorem dX8_keep_14 : decode cX8_keep 14 = .ok (.getfield 46, 3) := by decide +kernel
theorem dX8_keep_17 : decode cX8_keep 17 = .ok (.aload_n 0, 1) := by decide +kernel
theorem dX8_keep_18 : decode cX8_keep 18 = .ok (.getfield 33, 3) := by decide +kernel
theorem dX8_keep_21 : decode cX8_keep 21 = .ok (.invokevirtual 189, 3) := by decide +kernel
theorem dX8_keep_24 : decode cX8_keep 24 = .ok (.aload_n 0, 1) := by decide +kernel
theorem dX8_keep_25 : decode cX8_keep 25 = .ok (.getfield 46, 3) := by decide +kernel
theorem dX8_keep_28 : decode cX8_keep 28 = .ok (.getfield 209, 3) := by decide +kernel
theorem dX8_keep_31 : decode cX8_keep 31 = .ok (.ireturn, 1) := by decide +kernel
theorem dX8_back_0 : decode cX8_back 0 = .ok (.aload_n 0, 1) := by decide +kernel
theorem dX8_back_1 : decode cX8_back 1 = .ok (.getfield 46, 3) := by decide +kernel
theorem dX8_back_4 : decode cX8_back 4 = .ok (.aload_n 0, 1) := by decide +kernel
theorem dX8_back_5 : decode cX8_back 5 = .ok (.getfield 33, 3) := by decide +kernel
theorem dX8_back_8 : decode cX8_back 8 = .ok (.invokevirtual 205, 3) := by decide +kernel
theorem dX8_back_11 : decode cX8_back 11 = .ok (.ifCond .ne 6, 3) := by decide +kernel
theorem dX8_back_14 : decode cX8_back 14 = .ok (.bipush (-2), 2) := by decide +kernel
theorem dX8_back_16 : decode cX8_back 16 = .ok (.ireturn, 1) := by decide +kernel
theorem dX8_back_17 : decode cX8_back 17 = .ok (.aload_n 0, 1) := by decide +kernel
theorem dX8_back_18 : decode cX8_back 18 = .ok (.getfield 42, 3) := by decide +kernel
theorem dX8_back_21 : decode cX8_back 21 = .ok (.iconst 0, 1) := by decide +kernel
theorem dX8_back_22 : decode cX8_back 22 = .ok (.putfield 209, 3) := by decide +kernel
theorem dX8_back_25 : decode cX8_back 25 = .ok (.aload_n 0, 1) := by decide +kernel
theorem dX8_back_26 : decode cX8_back 26 = .ok (.getfield 46, 3) := by decide +kernel
theorem dX8_back_29 : decode cX8_back 29 = .ok (.getfield 209, 3) := by decide +kernel
theorem dX8_back_32 : decode cX8_back 32 = .ok (.ireturn, 1) := by decide +kernel
theorem dX8_count_0 : decode cX8_count 0 = .ok (.iload_n 1, 1) := by decide +kernel
theorem dX8_count_1 : decode cX8_count 1 = .ok (.tableswitch 175 0 12 #[67, 75, 83, 91, 99, 107, 115, 128, 141, 146, 151, 159, 167], 67) := by decide +kernel
theorem dX8_count_68 : decode cX8_count 68 = .ok (.aload_n 0, 1) := by decide +kernel
theorem dX8_count_69 : decode cX8_count 69 = .ok (.getfield 26, 3) := by decide +kernel
theorem dX8_count_72 : decode cX8_count 72 = .ok (.getfield 113, 3) := by decide +kernel
theorem dX8_count_75 : decode cX8_count 75 = .ok (.ireturn, 1) := by decide +kernel
theorem dX8_count_76 : decode cX8_count 76 = .ok (.aload_n 0, 1) := by decide +kernel
theorem dX8_count_77 : decode cX8_count 77 = .ok (.getfield 26, 3) := by decide +kernel
theorem dX8_count_80 : decode cX8_count 80 = .ok (.getfield 276, 3) := by decide +kernel
theorem dX8_count_83 : decode cX8_count 83 = .ok (.ireturn, 1) := by decide +kernel
theorem dX8_count_84 : decode cX8_count 84 = .ok (.aload_n 0, 1) := by decide +kernel
theorem dX8_count_85 : decode cX8_count 85 = .ok (.getfield 26, 3) := by decide +kernel
theorem dX8_count_88 : decode cX8_count 88 = .ok (.getfield 225, 3) := by decide +kernel
theorem dX8_count_91 : decode cX8_count 91 = .ok (.ireturn, 1) := by decide +kernel
theorem dX8_count_92 : decode cX8_count 92 = .ok (.aload_n 0, 1) := by decide +kernel
theorem dX8_count_93 : decode cX8_count 93 = .ok (.getfield 26, 3) := by decide +kernel
theorem dX8_count_96 : decode cX8_count 96 = .ok (.getfield 279, 3) := by decide +kernel
theorem dX8_count_99 : decode cX8_count 99 = .ok (.ireturn, 1) := by decide +kernel
theorem dX8_count_100 : decode cX8_count 100 = .ok (.aload_n 0, 1) := by decide +kernel
theorem dX8_count_101 : decode cX8_count 101 = .ok (.getfield 33, 3) := by decide +kernel
theorem dX8_count_104 : decode cX8_count 104 = .ok (.getfield 136, 3) := by decide +kernel
theorem dX8_count_107 : decode cX8_count 107 = .ok (.ireturn, 1) := by decide +kernel
theorem dX8_count_108 : decode cX8_count 108 = .ok (.aload_n 0, 1) := by decide +kernel
theorem dX8_count_109 : decode cX8_count 109 = .ok (.getfield 33, 3) := by decide +kernel
theorem dX8_count_112 : decode cX8_count 112 = .ok (.getfield 195, 3) := by decide +kernel
theorem dX8_count_115 : decode cX8_count 115 = .ok (.ireturn, 1) := by decide +kernel
theorem dX8_count_116 : decode cX8_count 116 = .ok (.aload_n 0, 1) := by decide +kernel
theorem dX8_count_117 : decode cX8_count 117 = .ok (.getfield 33, 3) := by decide +kernel
theorem dX8_count_120 : decode cX8_count 120 = .ok (.aload_n 0, 1) := by decide +kernel
theorem dX8_count_121 : decode cX8_count 121 = .ok (.getfield 26, 3) := by decide +kernel
theorem dX8_count_124 : decode cX8_count 124 = .ok (.iconst 1, 1) := by decide +kernel
theorem dX8_count_125 : decode cX8_count 125 = .ok (.invokevirtual 270, 3) := by decide +kernel
theorem dX8_count_128 : decode cX8_count 128 = .ok (.ireturn, 1) := by decide +kernel
theorem dX8_count_129 : decode cX8_count 129 = .ok (.aload_n 0, 1) := by decide +kernel
theorem dX8_count_130 : decode cX8_count 130 = .ok (.getfield 33, 3) := by decide +kernel
theorem dX8_count_133 : decode cX8_count 133 = .ok (.aload_n 0, 1) := by decide +kernel
theorem dX8_count_134 : decode cX8_count 134 = .ok (.getfield 26, 3) := by decide +kernel
theorem dX8_count_137 : decode cX8_count 137 = .ok (.iconst 2, 1) := by decide +kernel
theorem dX8_count_138 : decode cX8_count 138 = .ok (.invokevirtual 270, 3) := by decide +kernel
theorem dX8_count_141 : decode cX8_count 141 = .ok (.ireturn, 1) := by decide +kernel
theorem dX8_count_142 : decode cX8_count 142 = .ok (.aload_n 0, 1) := by decide +kernel
theorem dX8_count_143 : decode cX8_count 143 = .ok (.invokevirtual 282, 3) := by decide +kernel
theorem dX8_count_146 : decode cX8_count 146 = .ok (.ireturn, 1) := by decide +kernel
theorem dX8_count_147 : decode cX8_count 147 = .ok (.aload_n 0, 1) := by decide +kernel
theorem dX8_count_148 : decode cX8_count 148 = .ok (.getfield 242, 3) := by decide +kernel
theorem dX8_count_151 : decode cX8_count 151 = .ok (.ireturn, 1) := by decide +kernel
theorem dX8_count_152 : decode cX8_count 152 = .ok (.aload_n 0, 1) := by decide +kernel
theorem dX8_count_153 : decode cX8_count 153 = .ok (.getfield 42, 3) := by decide +kernel
theorem dX8_count_156 : decode cX8_count 156 = .ok (.getfield 209, 3) := by decide +kernel
theorem dX8_count_159 : decode cX8_count 159 = .ok (.ireturn, 1) := by decide +kernel
theorem dX8_count_160 : decode cX8_count 160 = .ok (.aload_n 0, 1) := by decide +kernel
theorem dX8_count_161 : decode cX8_count 161 = .ok (.getfield 46, 3) := by decide +kernel
theorem dX8_count_164 : decode cX8_count 164 = .ok (.getfield 209, 3) := by decide +kernel
theorem dX8_count_167 : decode cX8_count 167 = .ok (.ireturn, 1) := by decide +kernel
theorem dX8_count_168 : decode cX8_count 168 = .ok (.aload_n 0, 1) := by decide +kernel
theorem dX8_count_169 : decode cX8_count 169 = .ok (.getfield 10, 3) := by decide +kernel
theorem dX8_count_172 : decode cX8_count 172 = .ok (.getfield 102, 3) := by decide +kernel
theorem dX8_count_175 : decode cX8_count 175 = .ok (.ireturn, 1) := by decide +kernel
theorem dX8_count_176 : decode cX8_count 176 = .ok (.iconst (-1), 1) := by decide +kernel
theorem dX8_count_177 : decode cX8_count 177 = .ok (.ireturn, 1) := by decide +kernel
theorem dX8_within_0 : decode cX8_within 0 = .ok (.iload_n 0, 1) := by decide +kernel
theorem dX8_within_1 : decode cX8_within 1 = .ok (.iload_n 1, 1) := by decide +kernel
theorem dX8_within_2 : decode cX8_within 2 = .ok (.if_icmp .lt 12, 3) := by decide +kernel
theorem dX8_within_5 : decode cX8_within 5 = .ok (.iload_n 0, 1) := by decide +kernel
theorem dX8_within_6 : decode cX8_within 6 = .ok (.iload_n 2, 1) := by decide +kernel
theorem dX8_within_7 : decode cX8_within 7 = .ok (.if_icmp .gt 7, 3) := by decide +kernel
theorem dX8_within_10 : decode cX8_within 10 = .ok (.iconst 1, 1) := by decide +kernel
theorem dX8_within_11 : decode cX8_within 11 = .ok (.goto 4, 3) := by decide +kernel
theorem dX8_within_14 : decode cX8_within 14 = .ok (.iconst 0, 1) := by decide +kernel
theorem dX8_within_15 : decode cX8_within 15 = .ok (.ireturn, 1) := by decide +kernel
theorem dX8_figureOf_0 : decode cX8_figureOf 0 = .ok (.iload_n 0, 1) := by decide +kernel
theorem dX8_figureOf_1 : decode cX8_figureOf 1 = .ok (.bipush 48, 2) := by decide +kernel
theorem dX8_figureOf_3 : decode cX8_figureOf 3 = .ok (.if_icmp .lt 16, 3) := by decide +kernel
theorem dX8_figureOf_6 : decode cX8_figureOf 6 = .ok (.iload_n 0, 1) := by decide +kernel
theorem dX8_figureOf_7 : decode cX8_figureOf 7 = .ok (.bipush 57, 2) := by decide +kernel
theorem dX8_figureOf_9 : decode cX8_figureOf 9 = .ok (.if_icmp .gt 10, 3) := by decide +kernel
theorem dX8_figureOf_12 : decode cX8_figureOf 12 = .ok (.iload_n 0, 1) := by decide +kernel
theorem dX8_figureOf_13 : decode cX8_figureOf 13 = .ok (.bipush 48, 2) := by decide +kernel
theorem dX8_figureOf_15 : decode cX8_figureOf 15 = .ok (.isub, 1) := by decide +kernel
theorem dX8_figureOf_16 : decode cX8_figureOf 16 = .ok (.goto 4, 3) := by decide +kernel
theorem dX8_figureOf_19 : decode cX8_figureOf 19 = .ok (.iconst (-1), 1) := by decide +kernel
theorem dX8_figureOf_20 : decode cX8_figureOf 20 = .ok (.ireturn, 1) := by decide +kernel
theorem dX8_modulo_0 : decode cX8_modulo 0 = .ok (.iload_n 1, 1) := by decide +kernel
theorem dX8_modulo_1 : decode cX8_modulo 1 = .ok (.ifCond .le 9, 3) := by decide +kernel
theorem dX8_modulo_4 : decode cX8_modulo 4 = .ok (.iload_n 0, 1) := by decide +kernel
theorem dX8_modulo_5 : decode cX8_modulo 5 = .ok (.iload_n 1, 1) := by decide +kernel
theorem dX8_modulo_6 : decode cX8_modulo 6 = .ok (.irem, 1) := by decide +kernel
theorem dX8_modulo_7 : decode cX8_modulo 7 = .ok (.goto 4, 3) := by decide +kernel
theorem dX8_modulo_10 : decode cX8_modulo 10 = .ok (.iconst 0, 1) := by decide +kernel
theorem dX8_modulo_11 : decode cX8_modulo 11 = .ok (.ireturn, 1) := by decide +kernel
theorem dX8_greatestDivisor_0 : decode cX8_greatestDivisor 0 = .ok (.iload_n 0, 1) := by decide +kernel
theorem dX8_greatestDivisor_1 : decode cX8_greatestDivisor 1 = .ok (.istore_n 2, 1) := by decide +kernel
theorem dX8_greatestDivisor_2 : decode cX8_greatestDivisor 2 = .ok (.iload_n 1, 1) := by decide +kernel
theorem dX8_greatestDivisor_3 : decode cX8_greatestDivisor 3 = .ok (.istore_n 3, 1) := by decide +kernel
theorem dX8_greatestDivisor_4 : decode cX8_greatestDivisor 4 = .ok (.iconst 0, 1) := by decide +kernel
theorem dX8_greatestDivisor_5 : decode cX8_greatestDivisor 5 = .ok (.istore 4, 2) := by decide +kernel
theorem dX8_greatestDivisor_7 : decode cX8_greatestDivisor 7 = .ok (.iload 4, 2) := by decide +kernel
theorem dX8_greatestDivisor_9 : decode cX8_greatestDivisor 9 = .ok (.bipush 100, 2) := by decide +kernel
theorem dX8_greatestDivisor_11 : decode cX8_greatestDivisor 11 = .ok (.if_icmp .ge 23, 3) := by decide +kernel
theorem dX8_greatestDivisor_14 : decode cX8_greatestDivisor 14 = .ok (.iload_n 3, 1) := by decide +kernel
theorem dX8_greatestDivisor_15 : decode cX8_greatestDivisor 15 = .ok (.ifCond .eq 19, 3) := by decide +kernel
theorem dX8_greatestDivisor_18 : decode cX8_greatestDivisor 18 = .ok (.iload_n 2, 1) := by decide +kernel
theorem dX8_greatestDivisor_19 : decode cX8_greatestDivisor 19 = .ok (.iload_n 3, 1) := by decide +kernel
theorem dX8_greatestDivisor_20 : decode cX8_greatestDivisor 20 = .ok (.irem, 1) := by decide +kernel
theorem dX8_greatestDivisor_21 : decode cX8_greatestDivisor 21 = .ok (.istore 5, 2) := by decide +kernel
theorem dX8_greatestDivisor_23 : decode cX8_greatestDivisor 23 = .ok (.iload_n 3, 1) := by decide +kernel
theorem dX8_greatestDivisor_24 : decode cX8_greatestDivisor 24 = .ok (.istore_n 2, 1) := by decide +kernel
theorem dX8_greatestDivisor_25 : decode cX8_greatestDivisor 25 = .ok (.iload 5, 2) := by decide +kernel
theorem dX8_greatestDivisor_27 : decode cX8_greatestDivisor 27 = .ok (.istore_n 3, 1) := by decide +kernel
theorem dX8_greatestDivisor_28 : decode cX8_greatestDivisor 28 = .ok (.iinc 4 1, 3) := by decide +kernel
theorem dX8_greatestDivisor_31 : decode cX8_greatestDivisor 31 = .ok (.goto (-24), 3) := by decide +kernel
theorem dX8_greatestDivisor_34 : decode cX8_greatestDivisor 34 = .ok (.iload_n 2, 1) := by decide +kernel
theorem dX8_greatestDivisor_35 : decode cX8_greatestDivisor 35 = .ok (.ireturn, 1) := by decide +kernel
theorem dX8_hoursToEnter_0 : decode cX8_hoursToEnter 0 = .ok (.iload_n 1, 1) := by decide +kernel
theorem dX8_hoursToEnter_1 : decode cX8_hoursToEnter 1 = .ok (.iconst 2, 1) := by decide +kernel
theorem dX8_hoursToEnter_2 : decode cX8_hoursToEnter 2 = .ok (.if_icmp .lt 7, 3) := by decide +kernel
theorem dX8_hoursToEnter_5 : decode cX8_hoursToEnter 5 = .ok (.iconst 1, 1) := by decide +kernel
theorem dX8_hoursToEnter_6 : decode cX8_hoursToEnter 6 = .ok (.goto 4, 3) := by decide +kernel
theorem dX8_hoursToEnter_9 : decode cX8_hoursToEnter 9 = .ok (.iconst 0, 1) := by decide +kernel
theorem dX8_hoursToEnter_10 : decode cX8_hoursToEnter 10 = .ok (.istore_n 2, 1) := by decide +kernel
theorem dX8_hoursToEnter_11 : decode cX8_hoursToEnter 11 = .ok (.iload_n 0, 1) := by decide +kernel
theorem dX8_hoursToEnter_12 : decode cX8_hoursToEnter 12 = .ok (.tableswitch 48 1 3 #[28, 32, 36], 28) := by decide +kernel
theorem dX8_hoursToEnter_40 : decode cX8_hoursToEnter 40 = .ok (.iconst 2, 1) := by decide +kernel
theorem dX8_hoursToEnter_41 : decode cX8_hoursToEnter 41 = .ok (.iload_n 2, 1) := by decide +kernel
theorem dX8_hoursToEnter_42 : decode cX8_hoursToEnter 42 = .ok (.iadd, 1) := by decide +kernel
theorem dX8_hoursToEnter_43 : decode cX8_hoursToEnter 43 = .ok (.ireturn, 1) := by decide +kernel
theorem dX8_hoursToEnter_44 : decode cX8_hoursToEnter 44 = .ok (.iconst 3, 1) := by decide +kernel
theorem dX8_hoursToEnter_45 : decode cX8_hoursToEnter 45 = .ok (.iload_n 2, 1) := by decide +kernel
theorem dX8_hoursToEnter_46 : decode cX8_hoursToEnter 46 = .ok (.iadd, 1) := by decide +kernel
theorem dX8_hoursToEnter_47 : decode cX8_hoursToEnter 47 = .ok (.ireturn, 1) := by decide +kernel
theorem dX8_hoursToEnter_48 : decode cX8_hoursToEnter 48 = .ok (.iload_n 1, 1) := by decide +kernel
theorem dX8_hoursToEnter_49 : decode cX8_hoursToEnter 49 = .ok (.iconst 2, 1) := by decide +kernel
theorem dX8_hoursToEnter_50 : decode cX8_hoursToEnter 50 = .ok (.if_icmp .lt 8, 3) := by decide +kernel
theorem dX8_hoursToEnter_53 : decode cX8_hoursToEnter 53 = .ok (.ldc 224, 2) := by decide +kernel
theorem dX8_hoursToEnter_55 : decode cX8_hoursToEnter 55 = .ok (.goto 4, 3) := by decide +kernel
theorem dX8_hoursToEnter_58 : decode cX8_hoursToEnter 58 = .ok (.iconst 1, 1) := by decide +kernel
theorem dX8_hoursToEnter_59 : decode cX8_hoursToEnter 59 = .ok (.ireturn, 1) := by decide +kernel
theorem dX8_hoursToEnter_60 : decode cX8_hoursToEnter 60 = .ok (.iconst 1, 1) := by decide +kernel
theorem dX8_hoursToEnter_61 : decode cX8_hoursToEnter 61 = .ok (.iload_n 2, 1) := by decide +kernel
theorem dX8_hoursToEnter_62 : decode cX8_hoursToEnter 62 = .ok (.iadd, 1) := by decide +kernel
theorem dX8_hoursToEnter_63 : decode cX8_hoursToEnter 63 = .ok (.ireturn, 1) := by decide +kernel
theorem dX8_loudness_0 : decode cX8_loudness 0 = .ok (.iload_n 0, 1) := by decide +kernel
theorem dX8_loudness_1 : decode cX8_loudness 1 = .ok (.tableswitch 41 0 2 #[27, 32, 37], 27) := by decide +kernel
theorem dX8_loudness_28 : decode cX8_loudness 28 = .ok (.bipush 9, 2) := by decide +kernel
theorem dX8_loudness_30 : decode cX8_loudness 30 = .ok (.iload_n 1, 1) := by decide +kernel
theorem dX8_loudness_31 : decode cX8_loudness 31 = .ok (.isub, 1) := by decide +kernel
theorem dX8_loudness_32 : decode cX8_loudness 32 = .ok (.ireturn, 1) := by decide +kernel
theorem dX8_loudness_33 : decode cX8_loudness 33 = .ok (.bipush 6, 2) := by decide +kernel
theorem dX8_loudness_35 : decode cX8_loudness 35 = .ok (.iload_n 1, 1) := by decide +kernel
theorem dX8_loudness_36 : decode cX8_loudness 36 = .ok (.isub, 1) := by decide +kernel
theorem dX8_loudness_37 : decode cX8_loudness 37 = .ok (.ireturn, 1) := by decide +kernel
theorem dX8_loudness_38 : decode cX8_loudness 38 = .ok (.iconst 4, 1) := by decide +kernel
theorem dX8_loudness_39 : decode cX8_loudness 39 = .ok (.iload_n 1, 1) := by decide +kernel
theorem dX8_loudness_40 : decode cX8_loudness 40 = .ok (.isub, 1) := by decide +kernel
theorem dX8_loudness_41 : decode cX8_loudness 41 = .ok (.ireturn, 1) := by decide +kernel
theorem dX8_loudness_42 : decode cX8_loudness 42 = .ok (.iconst 0, 1) := by decide +kernel
theorem dX8_loudness_43 : decode cX8_loudness 43 = .ok (.ireturn, 1) := by decide +kernel
theorem dX8_layText_0 : decode cX8_layText 0 = .ok (.aload_n 0, 1) := by decide +kernel
theorem dX8_layText_1 : decode cX8_layText 1 = .ok (.getfield 19, 3) := by decide +kernel
theorem dX8_layText_4 : decode cX8_layText 4 = .ok (.aload_n 0, 1) := by decide +kernel
theorem dX8_layText_5 : decode cX8_layText 5 = .ok (.getfield 10, 3) := by decide +kernel
theorem dX8_layText_8 : decode cX8_layText 8 = .ok (.invokevirtual 109, 3) := by decide +kernel
theorem dX8_layText_11 : decode cX8_layText 11 = .ok (.bipush (-4), 2) := by decide +kernel
theorem dX8_layText_13 : decode cX8_layText 13 = .ok (.if_icmp .ne 29, 3) := by decide +kernel
theorem dX8_layText_16 : decode cX8_layText 16 = .ok (.aload_n 0, 1) := by decide +kernel
theorem dX8_layText_17 : decode cX8_layText 17 = .ok (.getfield 19, 3) := by decide +kernel
theorem dX8_layText_20 : decode cX8_layText 20 = .ok (.getfield 285, 3) := by decide +kernel
theorem dX8_layText_23 : decode cX8_layText 23 = .ok (.getfield 113, 3) := by decide +kernel
theorem dX8_layText_26 : decode cX8_layText 26 = .ok (.ifCond .eq 16, 3) := by decide +kernel
theorem dX8_layText_29 : decode cX8_layText 29 = .ok (.aload_n 0, 1) := by decide +kernel
theorem dX8_layText_30 : decode cX8_layText 30 = .ok (.getfield 19, 3) := by decide +kernel
theorem dX8_layText_33 : decode cX8_layText 33 = .ok (.getfield 285, 3) := by decide +kernel
theorem dX8_layText_36 : decode cX8_layText 36 = .ok (.getfield 225, 3) := by decide +kernel
theorem dX8_layText_39 : decode cX8_layText 39 = .ok (.ifCond .ne 5, 3) := by decide +kernel
theorem dX8_layText_42 : decode cX8_layText 42 = .ok (.iconst 0, 1) := by decide +kernel
theorem dX8_layText_43 : decode cX8_layText 43 = .ok (.ireturn, 1) := by decide +kernel
theorem dX8_layText_44 : decode cX8_layText 44 = .ok (.aload_n 0, 1) := by decide +kernel
theorem dX8_layText_45 : decode cX8_layText 45 = .ok (.getfield 26, 3) := by decide +kernel
theorem dX8_layText_48 : decode cX8_layText 48 = .ok (.aload_n 0, 1) := by decide +kernel
theorem dX8_layText_49 : decode cX8_layText 49 = .ok (.getfield 19, 3) := by decide +kernel
theorem dX8_layText_52 : decode cX8_layText 52 = .ok (.getfield 285, 3) := by decide +kernel
theorem dX8_layText_55 : decode cX8_layText 55 = .ok (.invokevirtual 286, 3) := by decide +kernel
theorem dX8_layText_58 : decode cX8_layText 58 = .ok (.aload_n 0, 1) := by decide +kernel
theorem dX8_layText_59 : decode cX8_layText 59 = .ok (.getfield 26, 3) := by decide +kernel
theorem dX8_layText_62 : decode cX8_layText 62 = .ok (.invokevirtual 289, 3) := by decide +kernel
theorem dX8_layText_65 : decode cX8_layText 65 = .ok (.aload_n 0, 1) := by decide +kernel
theorem dX8_layText_66 : decode cX8_layText 66 = .ok (.getfield 33, 3) := by decide +kernel
theorem dX8_layText_69 : decode cX8_layText 69 = .ok (.aload_n 0, 1) := by decide +kernel
theorem dX8_layText_70 : decode cX8_layText 70 = .ok (.getfield 19, 3) := by decide +kernel
theorem dX8_layText_73 : decode cX8_layText 73 = .ok (.getfield 292, 3) := by decide +kernel
theorem dX8_layText_76 : decode cX8_layText 76 = .ok (.invokevirtual 232, 3) := by decide +kernel
theorem dX8_layText_79 : decode cX8_layText 79 = .ok (.aload_n 0, 1) := by decide +kernel
theorem dX8_layText_80 : decode cX8_layText 80 = .ok (.iconst 0, 1) := by decide +kernel
theorem dX8_layText_81 : decode cX8_layText 81 = .ok (.putfield 242, 3) := by decide +kernel
theorem dX8_layText_84 : decode cX8_layText 84 = .ok (.aload_n 0, 1) := by decide +kernel
theorem dX8_layText_85 : decode cX8_layText 85 = .ok (.getfield 42, 3) := by decide +kernel
theorem dX8_layText_88 : decode cX8_layText 88 = .ok (.iconst 0, 1) := by decide +kernel
theorem dX8_layText_89 : decode cX8_layText 89 = .ok (.putfield 209, 3) := by decide +kernel
theorem dX8_layText_92 : decode cX8_layText 92 = .ok (.aload_n 0, 1) := by decide +kernel
theorem dX8_layText_93 : decode cX8_layText 93 = .ok (.getfield 46, 3) := by decide +kernel
theorem dX8_layText_96 : decode cX8_layText 96 = .ok (.iconst 0, 1) := by decide +kernel
theorem dX8_layText_97 : decode cX8_layText 97 = .ok (.putfield 209, 3) := by decide +kernel
theorem dX8_layText_100 : decode cX8_layText 100 = .ok (.iconst 1, 1) := by decide +kernel
theorem dX8_layText_101 : decode cX8_layText 101 = .ok (.ireturn, 1) := by decide +kernel
theorem dX8_letHourPass_0 : decode cX8_letHourPass 0 = .ok (.iconst 0, 1) := by decide +kernel
theorem dX8_letHourPass_1 : decode cX8_letHourPass 1 = .ok (.istore_n 2, 1) := by decide +kernel
theorem dX8_letHourPass_2 : decode cX8_letHourPass 2 = .ok (.iload_n 2, 1) := by decide +kernel
theorem dX8_letHourPass_3 : decode cX8_letHourPass 3 = .ok (.aload_n 0, 1) := by decide +kernel
theorem dX8_letHourPass_4 : decode cX8_letHourPass 4 = .ok (.getfield 26, 3) := by decide +kernel
theorem dX8_letHourPass_7 : decode cX8_letHourPass 7 = .ok (.getfield 279, 3) := by decide +kernel
theorem dX8_letHourPass_10 : decode cX8_letHourPass 10 = .ok (.if_icmp .ge 55, 3) := by decide +kernel
theorem dX8_letHourPass_13 : decode cX8_letHourPass 13 = .ok (.aload_n 1, 1) := by decide +kernel
theorem dX8_letHourPass_14 : decode cX8_letHourPass 14 = .ok (.iload_n 2, 1) := by decide +kernel
theorem dX8_letHourPass_15 : decode cX8_letHourPass 15 = .ok (.invokevirtual 149, 3) := by decide +kernel
theorem dX8_letHourPass_18 : decode cX8_letHourPass 18 = .ok (.astore_n 3, 1) := by decide +kernel
theorem dX8_letHourPass_19 : decode cX8_letHourPass 19 = .ok (.aload_n 3, 1) := by decide +kernel
theorem dX8_letHourPass_20 : decode cX8_letHourPass 20 = .ok (.invokevirtual 295, 3) := by decide +kernel
theorem dX8_letHourPass_23 : decode cX8_letHourPass 23 = .ok (.ifCond .eq 23, 3) := by decide +kernel
theorem dX8_letHourPass_26 : decode cX8_letHourPass 26 = .ok (.aload_n 0, 1) := by decide +kernel
theorem dX8_letHourPass_27 : decode cX8_letHourPass 27 = .ok (.getfield 75, 3) := by decide +kernel
theorem dX8_letHourPass_30 : decode cX8_letHourPass 30 = .ok (.aload_n 0, 1) := by decide +kernel
theorem dX8_letHourPass_31 : decode cX8_letHourPass 31 = .ok (.getfield 26, 3) := by decide +kernel
theorem dX8_letHourPass_34 : decode cX8_letHourPass 34 = .ok (.aload_n 1, 1) := by decide +kernel
theorem dX8_letHourPass_35 : decode cX8_letHourPass 35 = .ok (.aload_n 3, 1) := by decide +kernel
theorem dX8_letHourPass_36 : decode cX8_letHourPass 36 = .ok (.getfield 159, 3) := by decide +kernel
theorem dX8_letHourPass_39 : decode cX8_letHourPass 39 = .ok (.aload_n 3, 1) := by decide +kernel
theorem dX8_letHourPass_40 : decode cX8_letHourPass 40 = .ok (.getfield 156, 3) := by decide +kernel
theorem dX8_letHourPass_43 : decode cX8_letHourPass 43 = .ok (.invokevirtual 174, 3) := by decide +kernel
theorem dX8_letHourPass_46 : decode cX8_letHourPass 46 = .ok (.aload_n 0, 1) := by decide +kernel
theorem dX8_letHourPass_47 : decode cX8_letHourPass 47 = .ok (.aload_n 3, 1) := by decide +kernel
theorem dX8_letHourPass_48 : decode cX8_letHourPass 48 = .ok (.aload_n 0, 1) := by decide +kernel
theorem dX8_letHourPass_49 : decode cX8_letHourPass 49 = .ok (.getfield 75, 3) := by decide +kernel
theorem dX8_letHourPass_52 : decode cX8_letHourPass 52 = .ok (.aload_n 1, 1) := by decide +kernel
theorem dX8_letHourPass_53 : decode cX8_letHourPass 53 = .ok (.getfield 136, 3) := by decide +kernel
theorem dX8_letHourPass_56 : decode cX8_letHourPass 56 = .ok (.invokevirtual 238, 3) := by decide +kernel
theorem dX8_letHourPass_59 : decode cX8_letHourPass 59 = .ok (.iinc 2 1, 3) := by decide +kernel
theorem dX8_letHourPass_62 : decode cX8_letHourPass 62 = .ok (.goto (-60), 3) := by decide +kernel
theorem dX8_letHourPass_65 : decode cX8_letHourPass 65 = .ok (.aload_n 1, 1) := by decide +kernel
theorem dX8_letHourPass_66 : decode cX8_letHourPass 66 = .ok (.dup, 1) := by decide +kernel
theorem dX8_letHourPass_67 : decode cX8_letHourPass 67 = .ok (.getfield 195, 3) := by decide +kernel
theorem dX8_letHourPass_70 : decode cX8_letHourPass 70 = .ok (.iconst 1, 1) := by decide +kernel
theorem dX8_letHourPass_71 : decode cX8_letHourPass 71 = .ok (.iadd, 1) := by decide +kernel
theorem dX8_letHourPass_72 : decode cX8_letHourPass 72 = .ok (.putfield 195, 3) := by decide +kernel
theorem dX8_letHourPass_75 : decode cX8_letHourPass 75 = .ok (.return_, 1) := by decide +kernel
theorem dX8_walkHour_0 : decode cX8_walkHour 0 = .ok (.aload_n 1, 1) := by decide +kernel
theorem dX8_walkHour_1 : decode cX8_walkHour 1 = .ok (.invokevirtual 295, 3) := by decide +kernel
theorem dX8_walkHour_4 : decode cX8_walkHour 4 = .ok (.ifCond .eq 21, 3) := by decide +kernel
theorem dX8_walkHour_7 : decode cX8_walkHour 7 = .ok (.aload_n 0, 1) := by decide +kernel
theorem dX8_walkHour_8 : decode cX8_walkHour 8 = .ok (.aload_n 1, 1) := by decide +kernel
theorem dX8_walkHour_9 : decode cX8_walkHour 9 = .ok (.aload_n 2, 1) := by decide +kernel
theorem dX8_walkHour_10 : decode cX8_walkHour 10 = .ok (.aload_n 0, 1) := by decide +kernel
theorem dX8_walkHour_11 : decode cX8_walkHour 11 = .ok (.getfield 26, 3) := by decide +kernel
theorem dX8_walkHour_14 : decode cX8_walkHour 14 = .ok (.aload_n 1, 1) := by decide +kernel
theorem dX8_walkHour_15 : decode cX8_walkHour 15 = .ok (.getfield 153, 3) := by decide +kernel
theorem dX8_walkHour_18 : decode cX8_walkHour 18 = .ok (.invokevirtual 181, 3) := by decide +kernel
theorem dX8_walkHour_21 : decode cX8_walkHour 21 = .ok (.iload_n 3, 1) := by decide +kernel
theorem dX8_walkHour_22 : decode cX8_walkHour 22 = .ok (.invokevirtual 298, 3) := by decide +kernel
theorem dX8_walkHour_25 : decode cX8_walkHour 25 = .ok (.aload_n 1, 1) := by decide +kernel
theorem dX8_walkHour_26 : decode cX8_walkHour 26 = .ok (.invokevirtual 165, 3) := by decide +kernel
theorem dX8_walkHour_29 : decode cX8_walkHour 29 = .ok (.ifCond .eq 7, 3) := by decide +kernel
theorem dX8_walkHour_32 : decode cX8_walkHour 32 = .ok (.aload_n 1, 1) := by decide +kernel
theorem dX8_walkHour_33 : decode cX8_walkHour 33 = .ok (.invokevirtual 302, 3) := by decide +kernel
theorem dX8_walkHour_36 : decode cX8_walkHour 36 = .ok (.return_, 1) := by decide +kernel
theorem dX8_setOut_0 : decode cX8_setOut 0 = .ok (.iload_n 2, 1) := by decide +kernel
theorem dX8_setOut_1 : decode cX8_setOut 1 = .ok (.bipush (-4), 2) := by decide +kernel
theorem dX8_setOut_3 : decode cX8_setOut 3 = .ok (.if_icmp .ne 4, 3) := by decide +kernel
theorem dX8_setOut_6 : decode cX8_setOut 6 = .ok (.return_, 1) := by decide +kernel
theorem dX8_setOut_7 : decode cX8_setOut 7 = .ok (.aload_n 0, 1) := by decide +kernel
theorem dX8_setOut_8 : decode cX8_setOut 8 = .ok (.getfield 26, 3) := by decide +kernel
theorem dX8_setOut_11 : decode cX8_setOut 11 = .ok (.getfield 119, 3) := by decide +kernel
theorem dX8_setOut_14 : decode cX8_setOut 14 = .ok (.iload_n 2, 1) := by decide +kernel
theorem dX8_setOut_15 : decode cX8_setOut 15 = .ok (.invokevirtual 122, 3) := by decide +kernel
theorem dX8_setOut_18 : decode cX8_setOut 18 = .ok (.iload_n 3, 1) := by decide +kernel
theorem dX8_setOut_19 : decode cX8_setOut 19 = .ok (.invokestatic 305, 3) := by decide +kernel
theorem dX8_setOut_22 : decode cX8_setOut 22 = .ok (.istore 4, 2) := by decide +kernel
theorem dX8_setOut_24 : decode cX8_setOut 24 = .ok (.iload 4, 2) := by decide +kernel
theorem dX8_setOut_26 : decode cX8_setOut 26 = .ok (.ldc 224, 2) := by decide +kernel
theorem dX8_setOut_28 : decode cX8_setOut 28 = .ok (.if_icmp .lt 9, 3) := by decide +kernel
theorem dX8_setOut_31 : decode cX8_setOut 31 = .ok (.aload_n 1, 1) := by decide +kernel
theorem dX8_setOut_32 : decode cX8_setOut 32 = .ok (.iconst 2, 1) := by decide +kernel
theorem dX8_setOut_33 : decode cX8_setOut 33 = .ok (.putfield 162, 3) := by decide +kernel
theorem dX8_setOut_36 : decode cX8_setOut 36 = .ok (.return_, 1) := by decide +kernel
theorem dX8_setOut_37 : decode cX8_setOut 37 = .ok (.aload_n 1, 1) := by decide +kernel
theorem dX8_setOut_38 : decode cX8_setOut 38 = .ok (.iload_n 2, 1) := by decide +kernel
theorem dX8_setOut_39 : decode cX8_setOut 39 = .ok (.putfield 168, 3) := by decide +kernel
theorem dX8_setOut_42 : decode cX8_setOut 42 = .ok (.aload_n 1, 1) := by decide +kernel
theorem dX8_setOut_43 : decode cX8_setOut 43 = .ok (.iload 4, 2) := by decide +kernel
theorem dX8_setOut_45 : decode cX8_setOut 45 = .ok (.putfield 171, 3) := by decide +kernel
theorem dX8_setOut_48 : decode cX8_setOut 48 = .ok (.return_, 1) := by decide +kernel
theorem dX8_hoursUntil_0 : decode cX8_hoursUntil 0 = .ok (.aload_n 0, 1) := by decide +kernel
theorem dX8_hoursUntil_1 : decode cX8_hoursUntil 1 = .ok (.getfield 75, 3) := by decide +kernel
theorem dX8_hoursUntil_4 : decode cX8_hoursUntil 4 = .ok (.aload_n 0, 1) := by decide +kernel
theorem dX8_hoursUntil_5 : decode cX8_hoursUntil 5 = .ok (.getfield 26, 3) := by decide +kernel
theorem dX8_hoursUntil_8 : decode cX8_hoursUntil 8 = .ok (.aload_n 1, 1) := by decide +kernel
theorem dX8_hoursUntil_9 : decode cX8_hoursUntil 9 = .ok (.aload_n 0, 1) := by decide +kernel
theorem dX8_hoursUntil_10 : decode cX8_hoursUntil 10 = .ok (.getfield 65, 3) := by decide +kernel
theorem dX8_hoursUntil_13 : decode cX8_hoursUntil 13 = .ok (.getfield 159, 3) := by decide +kernel
theorem dX8_hoursUntil_16 : decode cX8_hoursUntil 16 = .ok (.aload_n 0, 1) := by decide +kernel
theorem dX8_hoursUntil_17 : decode cX8_hoursUntil 17 = .ok (.getfield 65, 3) := by decide +kernel
theorem dX8_hoursUntil_20 : decode cX8_hoursUntil 20 = .ok (.getfield 156, 3) := by decide +kernel
theorem dX8_hoursUntil_23 : decode cX8_hoursUntil 23 = .ok (.invokevirtual 174, 3) := by decide +kernel
theorem dX8_hoursUntil_26 : decode cX8_hoursUntil 26 = .ok (.iconst 0, 1) := by decide +kernel
theorem dX8_hoursUntil_27 : decode cX8_hoursUntil 27 = .ok (.istore_n 3, 1) := by decide +kernel
theorem dX8_hoursUntil_28 : decode cX8_hoursUntil 28 = .ok (.iload_n 3, 1) := by decide +kernel
theorem dX8_hoursUntil_29 : decode cX8_hoursUntil 29 = .ok (.bipush 60, 2) := by decide +kernel
theorem dX8_hoursUntil_31 : decode cX8_hoursUntil 31 = .ok (.if_icmp .gt 38, 3) := by decide +kernel
theorem dX8_hoursUntil_34 : decode cX8_hoursUntil 34 = .ok (.aload_n 0, 1) := by decide +kernel
theorem dX8_hoursUntil_35 : decode cX8_hoursUntil 35 = .ok (.getfield 65, 3) := by decide +kernel
theorem dX8_hoursUntil_38 : decode cX8_hoursUntil 38 = .ok (.getfield 162, 3) := by decide +kernel
theorem dX8_hoursUntil_41 : decode cX8_hoursUntil 41 = .ok (.iload_n 2, 1) := by decide +kernel
theorem dX8_hoursUntil_42 : decode cX8_hoursUntil 42 = .ok (.if_icmp .ne 5, 3) := by decide +kernel
theorem dX8_hoursUntil_45 : decode cX8_hoursUntil 45 = .ok (.iload_n 3, 1) := by decide +kernel
theorem dX8_hoursUntil_46 : decode cX8_hoursUntil 46 = .ok (.ireturn, 1) := by decide +kernel
theorem dX8_hoursUntil_47 : decode cX8_hoursUntil 47 = .ok (.aload_n 0, 1) := by decide +kernel
theorem dX8_hoursUntil_48 : decode cX8_hoursUntil 48 = .ok (.aload_n 0, 1) := by decide +kernel
theorem dX8_hoursUntil_49 : decode cX8_hoursUntil 49 = .ok (.getfield 65, 3) := by decide +kernel
theorem dX8_hoursUntil_52 : decode cX8_hoursUntil 52 = .ok (.aload_n 0, 1) := by decide +kernel
theorem dX8_hoursUntil_53 : decode cX8_hoursUntil 53 = .ok (.getfield 75, 3) := by decide +kernel
theorem dX8_hoursUntil_56 : decode cX8_hoursUntil 56 = .ok (.aload_n 1, 1) := by decide +kernel
theorem dX8_hoursUntil_57 : decode cX8_hoursUntil 57 = .ok (.getfield 136, 3) := by decide +kernel
theorem dX8_hoursUntil_60 : decode cX8_hoursUntil 60 = .ok (.invokevirtual 238, 3) := by decide +kernel
theorem dX8_hoursUntil_63 : decode cX8_hoursUntil 63 = .ok (.iinc 3 1, 3) := by decide +kernel
theorem dX8_hoursUntil_66 : decode cX8_hoursUntil 66 = .ok (.goto (-38), 3) := by decide +kernel
theorem dX8_hoursUntil_69 : decode cX8_hoursUntil 69 = .ok (.bipush (-4), 2) := by decide +kernel
theorem dX8_hoursUntil_71 : decode cX8_hoursUntil 71 = .ok (.ireturn, 1) := by decide +kernel
theorem dX8_hoursToArrive_0 : decode cX8_hoursToArrive 0 = .ok (.aload_n 0, 1) := by decide +kernel
theorem dX8_hoursToArrive_1 : decode cX8_hoursToArrive 1 = .ok (.getfield 65, 3) := by decide +kernel
theorem dX8_hoursToArrive_4 : decode cX8_hoursToArrive 4 = .ok (.aload_n 2, 1) := by decide +kernel
theorem dX8_hoursToArrive_5 : decode cX8_hoursToArrive 5 = .ok (.invokevirtual 212, 3) := by decide +kernel
theorem dX8_hoursToArrive_8 : decode cX8_hoursToArrive 8 = .ok (.aload_n 0, 1) := by decide +kernel
theorem dX8_hoursToArrive_9 : decode cX8_hoursToArrive 9 = .ok (.getfield 65, 3) := by decide +kernel
theorem dX8_hoursToArrive_12 : decode cX8_hoursToArrive 12 = .ok (.iload_n 3, 1) := by decide +kernel
theorem dX8_hoursToArrive_13 : decode cX8_hoursToArrive 13 = .ok (.putfield 159, 3) := by decide +kernel
theorem dX8_hoursToArrive_16 : decode cX8_hoursToArrive 16 = .ok (.aload_n 0, 1) := by decide +kernel
theorem dX8_hoursToArrive_17 : decode cX8_hoursToArrive 17 = .ok (.aload_n 1, 1) := by decide +kernel
theorem dX8_hoursToArrive_18 : decode cX8_hoursToArrive 18 = .ok (.iconst 1, 1) := by decide +kernel
theorem dX8_hoursToArrive_19 : decode cX8_hoursToArrive 19 = .ok (.invokevirtual 216, 3) := by decide +kernel
theorem dX8_hoursToArrive_22 : decode cX8_hoursToArrive 22 = .ok (.ireturn, 1) := by decide +kernel
theorem dX8_hoursLed_0 : decode cX8_hoursLed 0 = .ok (.aload_n 0, 1) := by decide +kernel
theorem dX8_hoursLed_1 : decode cX8_hoursLed 1 = .ok (.getfield 65, 3) := by decide +kernel
theorem dX8_hoursLed_4 : decode cX8_hoursLed 4 = .ok (.iload_n 2, 1) := by decide +kernel
theorem dX8_hoursLed_5 : decode cX8_hoursLed 5 = .ok (.iload_n 3, 1) := by decide +kernel
theorem dX8_hoursLed_6 : decode cX8_hoursLed 6 = .ok (.iload_n 1, 1) := by decide +kernel
theorem dX8_hoursLed_7 : decode cX8_hoursLed 7 = .ok (.invokevirtual 308, 3) := by decide +kernel
theorem dX8_hoursLed_10 : decode cX8_hoursLed 10 = .ok (.aload_n 0, 1) := by decide +kernel
theorem dX8_hoursLed_11 : decode cX8_hoursLed 11 = .ok (.aload_n 0, 1) := by decide +kernel
theorem dX8_hoursLed_12 : decode cX8_hoursLed 12 = .ok (.getfield 33, 3) := by decide +kernel
theorem dX8_hoursLed_15 : decode cX8_hoursLed 15 = .ok (.iconst 1, 1) := by decide +kernel
theorem dX8_hoursLed_16 : decode cX8_hoursLed 16 = .ok (.invokevirtual 216, 3) := by decide +kernel
theorem dX8_hoursLed_19 : decode cX8_hoursLed 19 = .ok (.ireturn, 1) := by decide +kernel
theorem dX8_placeBehind_0 : decode cX8_placeBehind 0 = .ok (.aload_n 0, 1) := by decide +kernel
theorem dX8_placeBehind_1 : decode cX8_placeBehind 1 = .ok (.getfield 65, 3) := by decide +kernel
theorem dX8_placeBehind_4 : decode cX8_placeBehind 4 = .ok (.aload_n 1, 1) := by decide +kernel
theorem dX8_placeBehind_5 : decode cX8_placeBehind 5 = .ok (.invokevirtual 212, 3) := by decide +kernel
theorem dX8_placeBehind_8 : decode cX8_placeBehind 8 = .ok (.aload_n 0, 1) := by decide +kernel
theorem dX8_placeBehind_9 : decode cX8_placeBehind 9 = .ok (.getfield 65, 3) := by decide +kernel
theorem dX8_placeBehind_12 : decode cX8_placeBehind 12 = .ok (.iload_n 2, 1) := by decide +kernel
theorem dX8_placeBehind_13 : decode cX8_placeBehind 13 = .ok (.putfield 159, 3) := by decide +kernel
theorem dX8_placeBehind_16 : decode cX8_placeBehind 16 = .ok (.aload_n 0, 1) := by decide +kernel
theorem dX8_placeBehind_17 : decode cX8_placeBehind 17 = .ok (.getfield 75, 3) := by decide +kernel
theorem dX8_placeBehind_20 : decode cX8_placeBehind 20 = .ok (.aload_n 0, 1) := by decide +kernel
theorem dX8_placeBehind_21 : decode cX8_placeBehind 21 = .ok (.getfield 26, 3) := by decide +kernel
theorem dX8_placeBehind_24 : decode cX8_placeBehind 24 = .ok (.aload_n 0, 1) := by decide +kernel
theorem dX8_placeBehind_25 : decode cX8_placeBehind 25 = .ok (.getfield 33, 3) := by decide +kernel
theorem dX8_placeBehind_28 : decode cX8_placeBehind 28 = .ok (.aload_n 0, 1) := by decide +kernel
theorem dX8_placeBehind_29 : decode cX8_placeBehind 29 = .ok (.getfield 65, 3) := by decide +kernel
theorem dX8_placeBehind_32 : decode cX8_placeBehind 32 = .ok (.getfield 159, 3) := by decide +kernel
theorem dX8_placeBehind_35 : decode cX8_placeBehind 35 = .ok (.aload_n 0, 1) := by decide +kernel
theorem dX8_placeBehind_36 : decode cX8_placeBehind 36 = .ok (.getfield 65, 3) := by decide +kernel
theorem dX8_placeBehind_39 : decode cX8_placeBehind 39 = .ok (.getfield 156, 3) := by decide +kernel
theorem dX8_placeBehind_42 : decode cX8_placeBehind 42 = .ok (.invokevirtual 174, 3) := by decide +kernel
theorem dX8_placeBehind_45 : decode cX8_placeBehind 45 = .ok (.iconst 0, 1) := by decide +kernel
theorem dX8_placeBehind_46 : decode cX8_placeBehind 46 = .ok (.istore 4, 2) := by decide +kernel
theorem dX8_placeBehind_48 : decode cX8_placeBehind 48 = .ok (.iload 4, 2) := by decide +kernel
theorem dX8_placeBehind_50 : decode cX8_placeBehind 50 = .ok (.iload_n 3, 1) := by decide +kernel
theorem dX8_placeBehind_51 : decode cX8_placeBehind 51 = .ok (.if_icmp .ge 28, 3) := by decide +kernel
theorem dX8_placeBehind_54 : decode cX8_placeBehind 54 = .ok (.aload_n 0, 1) := by decide +kernel
theorem dX8_placeBehind_55 : decode cX8_placeBehind 55 = .ok (.aload_n 0, 1) := by decide +kernel
theorem dX8_placeBehind_56 : decode cX8_placeBehind 56 = .ok (.getfield 65, 3) := by decide +kernel
theorem dX8_placeBehind_59 : decode cX8_placeBehind 59 = .ok (.aload_n 0, 1) := by decide +kernel
theorem dX8_placeBehind_60 : decode cX8_placeBehind 60 = .ok (.getfield 75, 3) := by decide +kernel
theorem dX8_placeBehind_63 : decode cX8_placeBehind 63 = .ok (.aload_n 0, 1) := by decide +kernel
theorem dX8_placeBehind_64 : decode cX8_placeBehind 64 = .ok (.getfield 33, 3) := by decide +kernel
theorem dX8_placeBehind_67 : decode cX8_placeBehind 67 = .ok (.getfield 136, 3) := by decide +kernel
theorem dX8_placeBehind_70 : decode cX8_placeBehind 70 = .ok (.invokevirtual 238, 3) := by decide +kernel
theorem dX8_placeBehind_73 : decode cX8_placeBehind 73 = .ok (.iinc 4 1, 3) := by decide +kernel
theorem dX8_placeBehind_76 : decode cX8_placeBehind 76 = .ok (.goto (-28), 3) := by decide +kernel
theorem dX8_placeBehind_79 : decode cX8_placeBehind 79 = .ok (.aload_n 0, 1) := by decide +kernel
theorem dX8_placeBehind_80 : decode cX8_placeBehind 80 = .ok (.getfield 65, 3) := by decide +kernel
theorem dX8_placeBehind_83 : decode cX8_placeBehind 83 = .ok (.getfield 153, 3) := by decide +kernel
theorem dX8_placeBehind_86 : decode cX8_placeBehind 86 = .ok (.ireturn, 1) := by decide +kernel
theorem dX8_sure_0 : decode cX8_sure 0 = .ok (.iconst 0, 1) := by decide +kernel
theorem dX8_sure_1 : decode cX8_sure 1 = .ok (.istore_n 1, 1) := by decide +kernel
theorem dX8_sure_2 : decode cX8_sure 2 = .ok (.iconst 0, 1) := by decide +kernel
theorem dX8_sure_3 : decode cX8_sure 3 = .ok (.istore_n 2, 1) := by decide +kernel
theorem dX8_sure_4 : decode cX8_sure 4 = .ok (.iload_n 2, 1) := by decide +kernel
theorem dX8_sure_5 : decode cX8_sure 5 = .ok (.aload_n 0, 1) := by decide +kernel
theorem dX8_sure_6 : decode cX8_sure 6 = .ok (.getfield 26, 3) := by decide +kernel
theorem dX8_sure_9 : decode cX8_sure 9 = .ok (.getfield 113, 3) := by decide +kernel
theorem dX8_sure_12 : decode cX8_sure 12 = .ok (.if_icmp .ge 82, 3) := by decide +kernel
theorem dX8_sure_15 : decode cX8_sure 15 = .ok (.iconst 1, 1) := by decide +kernel
theorem dX8_sure_16 : decode cX8_sure 16 = .ok (.istore_n 3, 1) := by decide +kernel
theorem dX8_sure_17 : decode cX8_sure 17 = .ok (.iconst 0, 1) := by decide +kernel
theorem dX8_sure_18 : decode cX8_sure 18 = .ok (.istore 4, 2) := by decide +kernel
theorem dX8_sure_20 : decode cX8_sure 20 = .ok (.iload 4, 2) := by decide +kernel
theorem dX8_sure_22 : decode cX8_sure 22 = .ok (.aload_n 0, 1) := by decide +kernel
theorem dX8_sure_23 : decode cX8_sure 23 = .ok (.getfield 26, 3) := by decide +kernel
theorem dX8_sure_26 : decode cX8_sure 26 = .ok (.getfield 225, 3) := by decide +kernel
theorem dX8_sure_29 : decode cX8_sure 29 = .ok (.if_icmp .ge 47, 3) := by decide +kernel
theorem dX8_sure_32 : decode cX8_sure 32 = .ok (.iload_n 3, 1) := by decide +kernel
theorem dX8_sure_33 : decode cX8_sure 33 = .ok (.ifCond .eq 35, 3) := by decide +kernel
theorem dX8_sure_36 : decode cX8_sure 36 = .ok (.aload_n 0, 1) := by decide +kernel
theorem dX8_sure_37 : decode cX8_sure 37 = .ok (.getfield 33, 3) := by decide +kernel
theorem dX8_sure_40 : decode cX8_sure 40 = .ok (.aload_n 0, 1) := by decide +kernel
theorem dX8_sure_41 : decode cX8_sure 41 = .ok (.getfield 26, 3) := by decide +kernel
theorem dX8_sure_44 : decode cX8_sure 44 = .ok (.iload 4, 2) := by decide +kernel
theorem dX8_sure_46 : decode cX8_sure 46 = .ok (.iload_n 2, 1) := by decide +kernel
theorem dX8_sure_47 : decode cX8_sure 47 = .ok (.invokevirtual 129, 3) := by decide +kernel
theorem dX8_sure_50 : decode cX8_sure 50 = .ok (.aload_n 0, 1) := by decide +kernel
theorem dX8_sure_51 : decode cX8_sure 51 = .ok (.getfield 26, 3) := by decide +kernel
theorem dX8_sure_54 : decode cX8_sure 54 = .ok (.getfield 119, 3) := by decide +kernel
theorem dX8_sure_57 : decode cX8_sure 57 = .ok (.iload_n 2, 1) := by decide +kernel
theorem dX8_sure_58 : decode cX8_sure 58 = .ok (.invokevirtual 122, 3) := by decide +kernel
theorem dX8_sure_61 : decode cX8_sure 61 = .ok (.if_icmp .ne 7, 3) := by decide +kernel
theorem dX8_sure_64 : decode cX8_sure 64 = .ok (.iconst 1, 1) := by decide +kernel
theorem dX8_sure_65 : decode cX8_sure 65 = .ok (.goto 4, 3) := by decide +kernel
theorem dX8_sure_68 : decode cX8_sure 68 = .ok (.iconst 0, 1) := by decide +kernel
theorem dX8_sure_69 : decode cX8_sure 69 = .ok (.istore_n 3, 1) := by decide +kernel
theorem dX8_sure_70 : decode cX8_sure 70 = .ok (.iinc 4 1, 3) := by decide +kernel
theorem dX8_sure_73 : decode cX8_sure 73 = .ok (.goto (-53), 3) := by decide +kernel
theorem dX8_sure_76 : decode cX8_sure 76 = .ok (.iload_n 1, 1) := by decide +kernel
theorem dX8_sure_77 : decode cX8_sure 77 = .ok (.iload_n 3, 1) := by decide +kernel
theorem dX8_sure_78 : decode cX8_sure 78 = .ok (.ifCond .eq 7, 3) := by decide +kernel
theorem dX8_sure_81 : decode cX8_sure 81 = .ok (.iconst 1, 1) := by decide +kernel
theorem dX8_sure_82 : decode cX8_sure 82 = .ok (.goto 4, 3) := by decide +kernel
theorem dX8_sure_85 : decode cX8_sure 85 = .ok (.iconst 0, 1) := by decide +kernel
theorem dX8_sure_86 : decode cX8_sure 86 = .ok (.iadd, 1) := by decide +kernel
theorem dX8_sure_87 : decode cX8_sure 87 = .ok (.istore_n 1, 1) := by decide +kernel
theorem dX8_sure_88 : decode cX8_sure 88 = .ok (.iinc 2 1, 3) := by decide +kernel
theorem dX8_sure_91 : decode cX8_sure 91 = .ok (.goto (-87), 3) := by decide +kernel
theorem dX8_sure_94 : decode cX8_sure 94 = .ok (.iload_n 1, 1) := by decide +kernel
theorem dX8_sure_95 : decode cX8_sure 95 = .ok (.ireturn, 1) := by decide +kernel
theorem dX8_toldAllHeard_0 : decode cX8_toldAllHeard 0 = .ok (.iconst 0, 1) := by decide +kernel
theorem dX8_toldAllHeard_1 : decode cX8_toldAllHeard 1 = .ok (.istore_n 2, 1) := by decide +kernel
theorem dX8_toldAllHeard_2 : decode cX8_toldAllHeard 2 = .ok (.iload_n 2, 1) := by decide +kernel
theorem dX8_toldAllHeard_3 : decode cX8_toldAllHeard 3 = .ok (.aload_n 0, 1) := by decide +kernel
theorem dX8_toldAllHeard_4 : decode cX8_toldAllHeard 4 = .ok (.getfield 242, 3) := by decide +kernel
theorem dX8_toldAllHeard_7 : decode cX8_toldAllHeard 7 = .ok (.if_icmp .ge 42, 3) := by decide +kernel
theorem dX8_toldAllHeard_10 : decode cX8_toldAllHeard 10 = .ok (.aload_n 0, 1) := by decide +kernel
theorem dX8_toldAllHeard_11 : decode cX8_toldAllHeard 11 = .ok (.getfield 33, 3) := by decide +kernel
theorem dX8_toldAllHeard_14 : decode cX8_toldAllHeard 14 = .ok (.aload_n 0, 1) := by decide +kernel
theorem dX8_toldAllHeard_15 : decode cX8_toldAllHeard 15 = .ok (.getfield 26, 3) := by decide +kernel
theorem dX8_toldAllHeard_18 : decode cX8_toldAllHeard 18 = .ok (.iload_n 1, 1) := by decide +kernel
theorem dX8_toldAllHeard_19 : decode cX8_toldAllHeard 19 = .ok (.aload_n 0, 1) := by decide +kernel
theorem dX8_toldAllHeard_20 : decode cX8_toldAllHeard 20 = .ok (.getfield 52, 3) := by decide +kernel
theorem dX8_toldAllHeard_23 : decode cX8_toldAllHeard 23 = .ok (.iload_n 2, 1) := by decide +kernel
theorem dX8_toldAllHeard_24 : decode cX8_toldAllHeard 24 = .ok (.invokevirtual 122, 3) := by decide +kernel
theorem dX8_toldAllHeard_27 : decode cX8_toldAllHeard 27 = .ok (.invokevirtual 129, 3) := by decide +kernel
theorem dX8_toldAllHeard_30 : decode cX8_toldAllHeard 30 = .ok (.aload_n 0, 1) := by decide +kernel
theorem dX8_toldAllHeard_31 : decode cX8_toldAllHeard 31 = .ok (.getfield 56, 3) := by decide +kernel
theorem dX8_toldAllHeard_34 : decode cX8_toldAllHeard 34 = .ok (.iload_n 2, 1) := by decide +kernel
theorem dX8_toldAllHeard_35 : decode cX8_toldAllHeard 35 = .ok (.invokevirtual 122, 3) := by decide +kernel
theorem dX8_toldAllHeard_38 : decode cX8_toldAllHeard 38 = .ok (.if_icmp .eq 5, 3) := by decide +kernel
theorem dX8_toldAllHeard_41 : decode cX8_toldAllHeard 41 = .ok (.iconst 0, 1) := by decide +kernel
theorem dX8_toldAllHeard_42 : decode cX8_toldAllHeard 42 = .ok (.ireturn, 1) := by decide +kernel
theorem dX8_toldAllHeard_43 : decode cX8_toldAllHeard 43 = .ok (.iinc 2 1, 3) := by decide +kernel
theorem dX8_toldAllHeard_46 : decode cX8_toldAllHeard 46 = .ok (.goto (-44), 3) := by decide +kernel
theorem dX8_toldAllHeard_49 : decode cX8_toldAllHeard 49 = .ok (.iconst 1, 1) := by decide +kernel
theorem dX8_toldAllHeard_50 : decode cX8_toldAllHeard 50 = .ok (.ireturn, 1) := by decide +kernel
theorem dX8_weightIfThere_0 : decode cX8_weightIfThere 0 = .ok (.aload_n 0, 1) := by decide +kernel
theorem dX8_weightIfThere_1 : decode cX8_weightIfThere 1 = .ok (.getfield 65, 3) := by decide +kernel
theorem dX8_weightIfThere_4 : decode cX8_weightIfThere 4 = .ok (.aload_n 1, 1) := by decide +kernel
theorem dX8_weightIfThere_5 : decode cX8_weightIfThere 5 = .ok (.invokevirtual 212, 3) := by decide +kernel
theorem dX8_weightIfThere_8 : decode cX8_weightIfThere 8 = .ok (.iconst 1, 1) := by decide +kernel
theorem dX8_weightIfThere_9 : decode cX8_weightIfThere 9 = .ok (.istore 5, 2) := by decide +kernel
theorem dX8_weightIfThere_11 : decode cX8_weightIfThere 11 = .ok (.iconst 0, 1) := by decide +kernel
theorem dX8_weightIfThere_12 : decode cX8_weightIfThere 12 = .ok (.istore 6, 2) := by decide +kernel
theorem dX8_weightIfThere_14 : decode cX8_weightIfThere 14 = .ok (.iload 6, 2) := by decide +kernel
theorem dX8_weightIfThere_16 : decode cX8_weightIfThere 16 = .ok (.iload_n 3, 1) := by decide +kernel
theorem dX8_weightIfThere_17 : decode cX8_weightIfThere 17 = .ok (.if_icmp .ge 76, 3) := by decide +kernel
theorem dX8_weightIfThere_20 : decode cX8_weightIfThere 20 = .ok (.iload 5, 2) := by decide +kernel
theorem dX8_weightIfThere_22 : decode cX8_weightIfThere 22 = .ok (.ifCond .le 71, 3) := by decide +kernel
theorem dX8_weightIfThere_25 : decode cX8_weightIfThere 25 = .ok (.iload_n 2, 1) := by decide +kernel
theorem dX8_weightIfThere_26 : decode cX8_weightIfThere 26 = .ok (.iload 6, 2) := by decide +kernel
theorem dX8_weightIfThere_28 : decode cX8_weightIfThere 28 = .ok (.ishr, 1) := by decide +kernel
theorem dX8_weightIfThere_29 : decode cX8_weightIfThere 29 = .ok (.iconst 1, 1) := by decide +kernel
theorem dX8_weightIfThere_30 : decode cX8_weightIfThere 30 = .ok (.iand, 1) := by decide +kernel
theorem dX8_weightIfThere_31 : decode cX8_weightIfThere 31 = .ok (.iconst 1, 1) := by decide +kernel
theorem dX8_weightIfThere_32 : decode cX8_weightIfThere 32 = .ok (.if_icmp .ne 26, 3) := by decide +kernel
theorem dX8_weightIfThere_35 : decode cX8_weightIfThere 35 = .ok (.iload 5, 2) := by decide +kernel
theorem dX8_weightIfThere_37 : decode cX8_weightIfThere 37 = .ok (.iload 4, 2) := by decide +kernel
theorem dX8_weightIfThere_39 : decode cX8_weightIfThere 39 = .ok (.imul, 1) := by decide +kernel
theorem dX8_weightIfThere_40 : decode cX8_weightIfThere 40 = .ok (.istore 5, 2) := by decide +kernel
theorem dX8_weightIfThere_42 : decode cX8_weightIfThere 42 = .ok (.aload_n 0, 1) := by decide +kernel
theorem dX8_weightIfThere_43 : decode cX8_weightIfThere 43 = .ok (.aload_n 0, 1) := by decide +kernel
theorem dX8_weightIfThere_44 : decode cX8_weightIfThere 44 = .ok (.getfield 65, 3) := by decide +kernel
theorem dX8_weightIfThere_47 : decode cX8_weightIfThere 47 = .ok (.aload_n 0, 1) := by decide +kernel
theorem dX8_weightIfThere_48 : decode cX8_weightIfThere 48 = .ok (.getfield 79, 3) := by decide +kernel
theorem dX8_weightIfThere_51 : decode cX8_weightIfThere 51 = .ok (.iconst 3, 1) := by decide +kernel
theorem dX8_weightIfThere_52 : decode cX8_weightIfThere 52 = .ok (.invokevirtual 238, 3) := by decide +kernel
theorem dX8_weightIfThere_55 : decode cX8_weightIfThere 55 = .ok (.goto 32, 3) := by decide +kernel
theorem dX8_weightIfThere_58 : decode cX8_weightIfThere 58 = .ok (.iload 5, 2) := by decide +kernel
theorem dX8_weightIfThere_60 : decode cX8_weightIfThere 60 = .ok (.bipush 10, 2) := by decide +kernel
theorem dX8_weightIfThere_62 : decode cX8_weightIfThere 62 = .ok (.iload 4, 2) := by decide +kernel
theorem dX8_weightIfThere_64 : decode cX8_weightIfThere 64 = .ok (.isub, 1) := by decide +kernel
theorem dX8_weightIfThere_65 : decode cX8_weightIfThere 65 = .ok (.imul, 1) := by decide +kernel
theorem dX8_weightIfThere_66 : decode cX8_weightIfThere 66 = .ok (.istore 5, 2) := by decide +kernel
theorem dX8_weightIfThere_68 : decode cX8_weightIfThere 68 = .ok (.aload_n 0, 1) := by decide +kernel
theorem dX8_weightIfThere_69 : decode cX8_weightIfThere 69 = .ok (.aload_n 0, 1) := by decide +kernel
theorem dX8_weightIfThere_70 : decode cX8_weightIfThere 70 = .ok (.getfield 65, 3) := by decide +kernel
theorem dX8_weightIfThere_73 : decode cX8_weightIfThere 73 = .ok (.aload_n 0, 1) := by decide +kernel
theorem dX8_weightIfThere_74 : decode cX8_weightIfThere 74 = .ok (.getfield 75, 3) := by decide +kernel
theorem dX8_weightIfThere_77 : decode cX8_weightIfThere 77 = .ok (.aload_n 0, 1) := by decide +kernel
theorem dX8_weightIfThere_78 : decode cX8_weightIfThere 78 = .ok (.getfield 33, 3) := by decide +kernel
theorem dX8_weightIfThere_81 : decode cX8_weightIfThere 81 = .ok (.getfield 136, 3) := by decide +kernel
theorem dX8_weightIfThere_84 : decode cX8_weightIfThere 84 = .ok (.invokevirtual 238, 3) := by decide +kernel
theorem dX8_weightIfThere_87 : decode cX8_weightIfThere 87 = .ok (.iinc 6 1, 3) := by decide +kernel
theorem dX8_weightIfThere_90 : decode cX8_weightIfThere 90 = .ok (.goto (-76), 3) := by decide +kernel
theorem dX8_weightIfThere_93 : decode cX8_weightIfThere 93 = .ok (.aload_n 0, 1) := by decide +kernel
theorem dX8_weightIfThere_94 : decode cX8_weightIfThere 94 = .ok (.getfield 65, 3) := by decide +kernel
theorem dX8_weightIfThere_97 : decode cX8_weightIfThere 97 = .ok (.getfield 162, 3) := by decide +kernel
theorem dX8_weightIfThere_100 : decode cX8_weightIfThere 100 = .ok (.iconst 1, 1) := by decide +kernel
theorem dX8_weightIfThere_101 : decode cX8_weightIfThere 101 = .ok (.if_icmp .ne 8, 3) := by decide +kernel
theorem dX8_weightIfThere_104 : decode cX8_weightIfThere 104 = .ok (.iload 5, 2) := by decide +kernel
theorem dX8_weightIfThere_106 : decode cX8_weightIfThere 106 = .ok (.goto 4, 3) := by decide +kernel
theorem dX8_weightIfThere_109 : decode cX8_weightIfThere 109 = .ok (.iconst 0, 1) := by decide +kernel
theorem dX8_weightIfThere_110 : decode cX8_weightIfThere 110 = .ok (.ireturn, 1) := by decide +kernel
theorem dX8_drawOf_0 : decode cX8_drawOf 0 = .ok (.ldc2_w 311, 3) := by decide +kernel
theorem dX8_drawOf_3 : decode cX8_drawOf 3 = .ok (.iload_n 0, 1) := by decide +kernel
theorem dX8_drawOf_4 : decode cX8_drawOf 4 = .ok (.i2l, 1) := by decide +kernel
theorem dX8_drawOf_5 : decode cX8_drawOf 5 = .ok (.lmul, 1) := by decide +kernel
theorem dX8_drawOf_6 : decode cX8_drawOf 6 = .ok (.ldc2_w 313, 3) := by decide +kernel
theorem dX8_drawOf_9 : decode cX8_drawOf 9 = .ok (.iload_n 1, 1) := by decide +kernel
theorem dX8_drawOf_10 : decode cX8_drawOf 10 = .ok (.i2l, 1) := by decide +kernel
theorem dX8_drawOf_11 : decode cX8_drawOf 11 = .ok (.lmul, 1) := by decide +kernel
theorem dX8_drawOf_12 : decode cX8_drawOf 12 = .ok (.ladd, 1) := by decide +kernel
theorem dX8_drawOf_13 : decode cX8_drawOf 13 = .ok (.lconst 1, 1) := by decide +kernel
theorem dX8_drawOf_14 : decode cX8_drawOf 14 = .ok (.ladd, 1) := by decide +kernel
theorem dX8_drawOf_15 : decode cX8_drawOf 15 = .ok (.lstore_n 2, 1) := by decide +kernel
theorem dX8_drawOf_16 : decode cX8_drawOf 16 = .ok (.lload_n 2, 1) := by decide +kernel
theorem dX8_drawOf_17 : decode cX8_drawOf 17 = .ok (.lload_n 2, 1) := by decide +kernel
theorem dX8_drawOf_18 : decode cX8_drawOf 18 = .ok (.lmul, 1) := by decide +kernel
theorem dX8_drawOf_19 : decode cX8_drawOf 19 = .ok (.ldc2_w 315, 3) := by decide +kernel
theorem dX8_drawOf_22 : decode cX8_drawOf 22 = .ok (.lrem, 1) := by decide +kernel
theorem dX8_drawOf_23 : decode cX8_drawOf 23 = .ok (.l2i, 1) := by decide +kernel
theorem dX8_drawOf_24 : decode cX8_drawOf 24 = .ok (.ireturn, 1) := by decide +kernel
theorem dX8_stir_0 : decode cX8_stir 0 = .ok (.iload_n 2, 1) := by decide +kernel
theorem dX8_stir_1 : decode cX8_stir 1 = .ok (.bipush 8, 2) := by decide +kernel
theorem dX8_stir_3 : decode cX8_stir 3 = .ok (.idiv, 1) := by decide +kernel
theorem dX8_stir_4 : decode cX8_stir 4 = .ok (.istore_n 3, 1) := by decide +kernel
theorem dX8_stir_5 : decode cX8_stir 5 = .ok (.iload_n 2, 1) := by decide +kernel
theorem dX8_stir_6 : decode cX8_stir 6 = .ok (.bipush 32, 2) := by decide +kernel
theorem dX8_stir_8 : decode cX8_stir 8 = .ok (.idiv, 1) := by decide +kernel
theorem dX8_stir_9 : decode cX8_stir 9 = .ok (.aload_n 0, 1) := by decide +kernel
theorem dX8_stir_10 : decode cX8_stir 10 = .ok (.getfield 26, 3) := by decide +kernel
theorem dX8_stir_13 : decode cX8_stir 13 = .ok (.getfield 113, 3) := by decide +kernel
theorem dX8_stir_16 : decode cX8_stir 16 = .ok (.invokestatic 317, 3) := by decide +kernel
theorem dX8_stir_19 : decode cX8_stir 19 = .ok (.istore 4, 2) := by decide +kernel
theorem dX8_stir_21 : decode cX8_stir 21 = .ok (.iload_n 2, 1) := by decide +kernel
theorem dX8_stir_22 : decode cX8_stir 22 = .ok (.bipush 8, 2) := by decide +kernel
theorem dX8_stir_24 : decode cX8_stir 24 = .ok (.irem, 1) := by decide +kernel
theorem dX8_stir_25 : decode cX8_stir 25 = .ok (.tableswitch 85 0 2 #[27, 37, 64], 27) := by decide +kernel
theorem dX8_stir_52 : decode cX8_stir 52 = .ok (.aload_n 1, 1) := by decide +kernel
theorem dX8_stir_53 : decode cX8_stir 53 = .ok (.iload_n 3, 1) := by decide +kernel
theorem dX8_stir_54 : decode cX8_stir 54 = .ok (.iconst 4, 1) := by decide +kernel
theorem dX8_stir_55 : decode cX8_stir 55 = .ok (.irem, 1) := by decide +kernel
theorem dX8_stir_56 : decode cX8_stir 56 = .ok (.putfield 136, 3) := by decide +kernel
theorem dX8_stir_59 : decode cX8_stir 59 = .ok (.goto 51, 3) := by decide +kernel
theorem dX8_stir_62 : decode cX8_stir 62 = .ok (.aload_n 1, 1) := by decide +kernel
theorem dX8_stir_63 : decode cX8_stir 63 = .ok (.iload_n 3, 1) := by decide +kernel
theorem dX8_stir_64 : decode cX8_stir 64 = .ok (.aload_n 0, 1) := by decide +kernel
theorem dX8_stir_65 : decode cX8_stir 65 = .ok (.getfield 26, 3) := by decide +kernel
theorem dX8_stir_68 : decode cX8_stir 68 = .ok (.getfield 225, 3) := by decide +kernel
theorem dX8_stir_71 : decode cX8_stir 71 = .ok (.invokestatic 317, 3) := by decide +kernel
theorem dX8_stir_74 : decode cX8_stir 74 = .ok (.iload 4, 2) := by decide +kernel
theorem dX8_stir_76 : decode cX8_stir 76 = .ok (.iload_n 2, 1) := by decide +kernel
theorem dX8_stir_77 : decode cX8_stir 77 = .ok (.sipush 2048, 3) := by decide +kernel
theorem dX8_stir_80 : decode cX8_stir 80 = .ok (.idiv, 1) := by decide +kernel
theorem dX8_stir_81 : decode cX8_stir 81 = .ok (.iconst 4, 1) := by decide +kernel
theorem dX8_stir_82 : decode cX8_stir 82 = .ok (.irem, 1) := by decide +kernel
theorem dX8_stir_83 : decode cX8_stir 83 = .ok (.invokevirtual 198, 3) := by decide +kernel
theorem dX8_stir_86 : decode cX8_stir 86 = .ok (.goto 24, 3) := by decide +kernel
theorem dX8_stir_89 : decode cX8_stir 89 = .ok (.aload_n 0, 1) := by decide +kernel
theorem dX8_stir_90 : decode cX8_stir 90 = .ok (.aload_n 1, 1) := by decide +kernel
theorem dX8_stir_91 : decode cX8_stir 91 = .ok (.iload_n 3, 1) := by decide +kernel
theorem dX8_stir_92 : decode cX8_stir 92 = .ok (.aload_n 0, 1) := by decide +kernel
theorem dX8_stir_93 : decode cX8_stir 93 = .ok (.getfield 26, 3) := by decide +kernel
theorem dX8_stir_96 : decode cX8_stir 96 = .ok (.getfield 279, 3) := by decide +kernel
theorem dX8_stir_99 : decode cX8_stir 99 = .ok (.invokestatic 317, 3) := by decide +kernel
theorem dX8_stir_102 : decode cX8_stir 102 = .ok (.iload 4, 2) := by decide +kernel
theorem dX8_stir_104 : decode cX8_stir 104 = .ok (.invokevirtual 320, 3) := by decide +kernel
theorem dX8_stir_107 : decode cX8_stir 107 = .ok (.goto 3, 3) := by decide +kernel
theorem dX8_stir_110 : decode cX8_stir 110 = .ok (.return_, 1) := by decide +kernel
theorem dX8_sendIfHeCan_0 : decode cX8_sendIfHeCan 0 = .ok (.aload_n 0, 1) := by decide +kernel
theorem dX8_sendIfHeCan_1 : decode cX8_sendIfHeCan 1 = .ok (.getfield 26, 3) := by decide +kernel
theorem dX8_sendIfHeCan_4 : decode cX8_sendIfHeCan 4 = .ok (.iload_n 2, 1) := by decide +kernel
theorem dX8_sendIfHeCan_5 : decode cX8_sendIfHeCan 5 = .ok (.invokevirtual 146, 3) := by decide +kernel
theorem dX8_sendIfHeCan_8 : decode cX8_sendIfHeCan 8 = .ok (.ifCond .eq 24, 3) := by decide +kernel
theorem dX8_sendIfHeCan_11 : decode cX8_sendIfHeCan 11 = .ok (.aload_n 1, 1) := by decide +kernel
theorem dX8_sendIfHeCan_12 : decode cX8_sendIfHeCan 12 = .ok (.iload_n 2, 1) := by decide +kernel
theorem dX8_sendIfHeCan_13 : decode cX8_sendIfHeCan 13 = .ok (.invokevirtual 149, 3) := by decide +kernel
theorem dX8_sendIfHeCan_16 : decode cX8_sendIfHeCan 16 = .ok (.getfield 162, 3) := by decide +kernel
theorem dX8_sendIfHeCan_19 : decode cX8_sendIfHeCan 19 = .ok (.iconst 2, 1) := by decide +kernel
theorem dX8_sendIfHeCan_20 : decode cX8_sendIfHeCan 20 = .ok (.if_icmp .eq 12, 3) := by decide +kernel
theorem dX8_sendIfHeCan_23 : decode cX8_sendIfHeCan 23 = .ok (.aload_n 1, 1) := by decide +kernel
theorem dX8_sendIfHeCan_24 : decode cX8_sendIfHeCan 24 = .ok (.iload_n 2, 1) := by decide +kernel
theorem dX8_sendIfHeCan_25 : decode cX8_sendIfHeCan 25 = .ok (.invokevirtual 149, 3) := by decide +kernel
theorem dX8_sendIfHeCan_28 : decode cX8_sendIfHeCan 28 = .ok (.iload_n 3, 1) := by decide +kernel
theorem dX8_sendIfHeCan_29 : decode cX8_sendIfHeCan 29 = .ok (.invokevirtual 202, 3) := by decide +kernel
theorem dX8_sendIfHeCan_32 : decode cX8_sendIfHeCan 32 = .ok (.return_, 1) := by decide +kernel
end
section
theorem dX9_init_0 : decode cX9_init 0 = .ok (.aload_n 0, 1) := by decide +kernel
theorem dX9_init_1 : decode cX9_init 1 = .ok (.invokespecial 1, 3) := by decide +kernel
theorem dX9_init_4 : decode cX9_init 4 = .ok (.aload_n 0, 1) := by decide +kernel
theorem dX9_init_5 : decode cX9_init 5 = .ok (.bipush 36, 2) := by decide +kernel
theorem dX9_init_7 : decode cX9_init 7 = .ok (.newarray .int, 2) := by decide +kernel
theorem dX9_init_9 : decode cX9_init 9 = .ok (.putfield 7, 3) := by decide +kernel
theorem dX9_init_12 : decode cX9_init 12 = .ok (.aload_n 0, 1) := by decide +kernel
theorem dX9_init_13 : decode cX9_init 13 = .ok (.iconst 4, 1) := by decide +kernel
theorem dX9_init_14 : decode cX9_init 14 = .ok (.newarray .int, 2) := by decide +kernel
theorem dX9_init_16 : decode cX9_init 16 = .ok (.putfield 13, 3) := by decide +kernel
theorem dX9_init_19 : decode cX9_init 19 = .ok (.aload_n 0, 1) := by decide +kernel
theorem dX9_init_20 : decode cX9_init 20 = .ok (.sipush 170, 3) := by decide +kernel
theorem dX9_init_23 : decode cX9_init 23 = .ok (.newarray .int, 2) := by decide +kernel
theorem dX9_init_25 : decode cX9_init 25 = .ok (.putfield 16, 3) := by decide +kernel
theorem dX9_init_28 : decode cX9_init 28 = .ok (.aload_n 0, 1) := by decide +kernel
theorem dX9_init_29 : decode cX9_init 29 = .ok (.sipush 170, 3) := by decide +kernel
theorem dX9_init_32 : decode cX9_init 32 = .ok (.newarray .int, 2) := by decide +kernel
theorem dX9_init_34 : decode cX9_init 34 = .ok (.putfield 19, 3) := by decide +kernel
theorem dX9_init_37 : decode cX9_init 37 = .ok (.aload_n 0, 1) := by decide +kernel
theorem dX9_init_38 : decode cX9_init 38 = .ok (.sipush 1360, 3) := by decide +kernel
theorem dX9_init_41 : decode cX9_init 41 = .ok (.newarray .int, 2) := by decide +kernel
theorem dX9_init_43 : decode cX9_init 43 = .ok (.putfield 22, 3) := by decide +kernel
theorem dX9_init_46 : decode cX9_init 46 = .ok (.aload_n 0, 1) := by decide +kernel
theorem dX9_init_47 : decode cX9_init 47 = .ok (.sipush 340, 3) := by decide +kernel
theorem dX9_init_50 : decode cX9_init 50 = .ok (.newarray .int, 2) := by decide +kernel
theorem dX9_init_52 : decode cX9_init 52 = .ok (.putfield 25, 3) := by decide +kernel
theorem dX9_init_55 : decode cX9_init 55 = .ok (.aload_n 0, 1) := by decide +kernel
theorem dX9_init_56 : decode cX9_init 56 = .ok (.bipush 16, 2) := by decide +kernel
theorem dX9_init_58 : decode cX9_init 58 = .ok (.newarray .int, 2) := by decide +kernel
theorem dX9_init_60 : decode cX9_init 60 = .ok (.putfield 28, 3) := by decide +kernel
theorem dX9_init_63 : decode cX9_init 63 = .ok (.aload_n 0, 1) := by decide +kernel
theorem dX9_init_64 : decode cX9_init 64 = .ok (.sipush 200, 3) := by decide +kernel
theorem dX9_init_67 : decode cX9_init 67 = .ok (.newarray .int, 2) := by decide +kernel
theorem dX9_init_69 : decode cX9_init 69 = .ok (.putfield 31, 3) := by decide +kernel
theorem dX9_init_72 : decode cX9_init 72 = .ok (.aload_n 0, 1) := by decide +kernel
theorem dX9_init_73 : decode cX9_init 73 = .ok (.bipush 36, 2) := by decide +kernel
theorem dX9_init_75 : decode cX9_init 75 = .ok (.newarray .int, 2) := by decide +kernel
theorem dX9_init_77 : decode cX9_init 77 = .ok (.putfield 34, 3) := by decide +kernel
theorem dX9_init_80 : decode cX9_init 80 = .ok (.aload_n 0, 1) := by decide +kernel
theorem dX9_init_81 : decode cX9_init 81 = .ok (.iconst 4, 1) := by decide +kernel
theorem dX9_init_82 : decode cX9_init 82 = .ok (.newarray .int, 2) := by decide +kernel
theorem dX9_init_84 : decode cX9_init 84 = .ok (.putfield 37, 3) := by decide +kernel
theorem dX9_init_87 : decode cX9_init 87 = .ok (.aload_n 0, 1) := by decide +kernel
theorem dX9_init_88 : decode cX9_init 88 = .ok (.sipush 144, 3) := by decide +kernel
theorem dX9_init_91 : decode cX9_init 91 = .ok (.newarray .int, 2) := by decide +kernel
theorem dX9_init_93 : decode cX9_init 93 = .ok (.putfield 40, 3) := by decide +kernel
theorem dX9_init_96 : decode cX9_init 96 = .ok (.aload_n 0, 1) := by decide +kernel
theorem dX9_init_97 : decode cX9_init 97 = .ok (.iconst 4, 1) := by decide +kernel
theorem dX9_init_98 : decode cX9_init 98 = .ok (.newarray .int, 2) := by decide +kernel
theorem dX9_init_100 : decode cX9_init 100 = .ok (.putfield 43, 3) := by decide +kernel
theorem dX9_init_103 : decode cX9_init 103 = .ok (.aload_n 0, 1) := by decide +kernel
theorem dX9_init_104 : decode cX9_init 104 = .ok (.iconst 4, 1) := by decide +kernel
theorem dX9_init_105 : decode cX9_init 105 = .ok (.newarray .int, 2) := by decide +kernel
theorem dX9_init_107 : decode cX9_init 107 = .ok (.putfield 46, 3) := by decide +kernel
theorem dX9_init_110 : decode cX9_init 110 = .ok (.aload_n 0, 1) := by decide +kernel
theorem dX9_init_111 : decode cX9_init 111 = .ok (.iconst 4, 1) := by decide +kernel
theorem dX9_init_112 : decode cX9_init 112 = .ok (.newarray .int, 2) := by decide +kernel
theorem dX9_init_114 : decode cX9_init 114 = .ok (.putfield 49, 3) := by decide +kernel
theorem dX9_init_117 : decode cX9_init 117 = .ok (.aload_n 0, 1) := by decide +kernel
theorem dX9_init_118 : decode cX9_init 118 = .ok (.bipush 36, 2) := by decide +kernel
theorem dX9_init_120 : decode cX9_init 120 = .ok (.newarray .int, 2) := by decide +kernel
theorem dX9_init_122 : decode cX9_init 122 = .ok (.putfield 52, 3) := by decide +kernel
theorem dX9_init_125 : decode cX9_init 125 = .ok (.aload_n 0, 1) := by decide +kernel
theorem dX9_init_126 : decode cX9_init 126 = .ok (.invokevirtual 55, 3) := by decide +kernel
theorem dX9_init_129 : decode cX9_init 129 = .ok (.aload_n 0, 1) := by decide +kernel
theorem dX9_init_130 : decode cX9_init 130 = .ok (.bipush 123, 2) := by decide +kernel
theorem dX9_init_132 : decode cX9_init 132 = .ok (.iconst 5, 1) := by decide +kernel
theorem dX9_init_133 : decode cX9_init 133 = .ok (.invokevirtual 58, 3) := by decide +kernel
theorem dX9_init_136 : decode cX9_init 136 = .ok (.aload_n 0, 1) := by decide +kernel
theorem dX9_init_137 : decode cX9_init 137 = .ok (.sipush 1110, 3) := by decide +kernel
theorem dX9_init_140 : decode cX9_init 140 = .ok (.iconst 5, 1) := by decide +kernel
theorem dX9_init_141 : decode cX9_init 141 = .ok (.invokevirtual 58, 3) := by decide +kernel
theorem dX9_init_144 : decode cX9_init 144 = .ok (.aload_n 0, 1) := by decide +kernel
theorem dX9_init_145 : decode cX9_init 145 = .ok (.sipush 32010, 3) := by decide +kernel
theorem dX9_init_148 : decode cX9_init 148 = .ok (.iconst 5, 1) := by decide +kernel
theorem dX9_init_149 : decode cX9_init 149 = .ok (.invokevirtual 58, 3) := by decide +kernel
theorem dX9_init_152 : decode cX9_init 152 = .ok (.aload_n 0, 1) := by decide +kernel
theorem dX9_init_153 : decode cX9_init 153 = .ok (.sipush 130, 3) := by decide +kernel
theorem dX9_init_156 : decode cX9_init 156 = .ok (.iconst 5, 1) := by decide +kernel
theorem dX9_init_157 : decode cX9_init 157 = .ok (.invokevirtual 58, 3) := by decide +kernel
theorem dX9_init_160 : decode cX9_init 160 = .ok (.iconst 0, 1) := by decide +kernel
theorem dX9_init_161 : decode cX9_init 161 = .ok (.istore_n 1, 1) := by decide +kernel
theorem dX9_init_162 : decode cX9_init 162 = .ok (.iload_n 1, 1) := by decide +kernel
theorem dX9_init_163 : decode cX9_init 163 = .ok (.iconst 4, 1) := by decide +kernel
theorem dX9_init_164 : decode cX9_init 164 = .ok (.if_icmp .ge 16, 3) := by decide +kernel
theorem dX9_init_167 : decode cX9_init 167 = .ok (.aload_n 0, 1) := by decide +kernel
theorem dX9_init_168 : decode cX9_init 168 = .ok (.getfield 37, 3) := by decide +kernel
theorem dX9_init_171 : decode cX9_init 171 = .ok (.iload_n 1, 1) := by decide +kernel
theorem dX9_init_172 : decode cX9_init 172 = .ok (.iload_n 1, 1) := by decide +kernel
theorem dX9_init_173 : decode cX9_init 173 = .ok (.iastore, 1) := by decide +kernel
theorem dX9_init_174 : decode cX9_init 174 = .ok (.iinc 1 1, 3) := by decide +kernel
theorem dX9_init_177 : decode cX9_init 177 = .ok (.goto (-15), 3) := by decide +kernel
theorem dX9_init_180 : decode cX9_init 180 = .ok (.aload_n 0, 1) := by decide +kernel
theorem dX9_init_181 : decode cX9_init 181 = .ok (.iconst 4, 1) := by decide +kernel
theorem dX9_init_182 : decode cX9_init 182 = .ok (.putfield 62, 3) := by decide +kernel
theorem dX9_init_185 : decode cX9_init 185 = .ok (.aload_n 0, 1) := by decide +kernel
theorem dX9_init_186 : decode cX9_init 186 = .ok (.getfield 40, 3) := by decide +kernel
theorem dX9_init_189 : decode cX9_init 189 = .ok (.bipush 7, 2) := by decide +kernel
theorem dX9_init_191 : decode cX9_init 191 = .ok (.iconst 0, 1) := by decide +kernel
theorem dX9_init_192 : decode cX9_init 192 = .ok (.iastore, 1) := by decide +kernel
theorem dX9_init_193 : decode cX9_init 193 = .ok (.aload_n 0, 1) := by decide +kernel
theorem dX9_init_194 : decode cX9_init 194 = .ok (.getfield 40, 3) := by decide +kernel
theorem dX9_init_197 : decode cX9_init 197 = .ok (.bipush 13, 2) := by decide +kernel
theorem dX9_init_199 : decode cX9_init 199 = .ok (.iconst 3, 1) := by decide +kernel
theorem dX9_init_200 : decode cX9_init 200 = .ok (.iastore, 1) := by decide +kernel
theorem dX9_init_201 : decode cX9_init 201 = .ok (.aload_n 0, 1) := by decide +kernel
theorem dX9_init_202 : decode cX9_init 202 = .ok (.getfield 40, 3) := by decide +kernel
theorem dX9_init_205 : decode cX9_init 205 = .ok (.bipush 37, 2) := by decide +kernel
theorem dX9_init_207 : decode cX9_init 207 = .ok (.iconst 2, 1) := by decide +kernel
theorem dX9_init_208 : decode cX9_init 208 = .ok (.iastore, 1) := by decide +kernel
theorem dX9_init_209 : decode cX9_init 209 = .ok (.aload_n 0, 1) := by decide +kernel
theorem dX9_init_210 : decode cX9_init 210 = .ok (.getfield 40, 3) := by decide +kernel
theorem dX9_init_213 : decode cX9_init 213 = .ok (.bipush 83, 2) := by decide +kernel
theorem dX9_init_215 : decode cX9_init 215 = .ok (.iconst 0, 1) := by decide +kernel
theorem dX9_init_216 : decode cX9_init 216 = .ok (.iastore, 1) := by decide +kernel
theorem dX9_init_217 : decode cX9_init 217 = .ok (.aload_n 0, 1) := by decide +kernel
theorem dX9_init_218 : decode cX9_init 218 = .ok (.getfield 40, 3) := by decide +kernel
theorem dX9_init_221 : decode cX9_init 221 = .ok (.bipush 126, 2) := by decide +kernel
theorem dX9_init_223 : decode cX9_init 223 = .ok (.iconst 0, 1) := by decide +kernel
theorem dX9_init_224 : decode cX9_init 224 = .ok (.iastore, 1) := by decide +kernel
theorem dX9_init_225 : decode cX9_init 225 = .ok (.aload_n 0, 1) := by decide +kernel
theorem dX9_init_226 : decode cX9_init 226 = .ok (.iconst 0, 1) := by decide +kernel
theorem dX9_init_227 : decode cX9_init 227 = .ok (.bipush 19, 2) := by decide +kernel
theorem dX9_init_229 : decode cX9_init 229 = .ok (.iconst 0, 1) := by decide +kernel
theorem dX9_init_230 : decode cX9_init 230 = .ok (.invokevirtual 66, 3) := by decide +kernel
theorem dX9_init_233 : decode cX9_init 233 = .ok (.aload_n 0, 1) := by decide +kernel
theorem dX9_init_234 : decode cX9_init 234 = .ok (.iconst 4, 1) := by decide +kernel
theorem dX9_init_235 : decode cX9_init 235 = .ok (.bipush 15, 2) := by decide +kernel
theorem dX9_init_237 : decode cX9_init 237 = .ok (.iconst 1, 1) := by decide +kernel
theorem dX9_init_238 : decode cX9_init 238 = .ok (.invokevirtual 66, 3) := by decide +kernel
theorem dX9_init_241 : decode cX9_init 241 = .ok (.aload_n 0, 1) := by decide +kernel
theorem dX9_init_242 : decode cX9_init 242 = .ok (.bipush 15, 2) := by decide +kernel
theorem dX9_init_244 : decode cX9_init 244 = .ok (.iconst 4, 1) := by decide +kernel
theorem dX9_init_245 : decode cX9_init 245 = .ok (.iconst 2, 1) := by decide +kernel
theorem dX9_init_246 : decode cX9_init 246 = .ok (.invokevirtual 66, 3) := by decide +kernel
theorem dX9_init_249 : decode cX9_init 249 = .ok (.aload_n 0, 1) := by decide +kernel
theorem dX9_init_250 : decode cX9_init 250 = .ok (.bipush 10, 2) := by decide +kernel
theorem dX9_init_252 : decode cX9_init 252 = .ok (.bipush 9, 2) := by decide +kernel
theorem dX9_init_254 : decode cX9_init 254 = .ok (.iconst 3, 1) := by decide +kernel
theorem dX9_init_255 : decode cX9_init 255 = .ok (.invokevirtual 66, 3) := by decide +kernel
theorem dX9_init_258 : decode cX9_init 258 = .ok (.aload_n 0, 1) := by decide +kernel
theorem dX9_init_259 : decode cX9_init 259 = .ok (.iconst 1, 1) := by decide +kernel
theorem dX9_init_260 : decode cX9_init 260 = .ok (.putfield 70, 3) := by decide +kernel
theorem dX9_init_263 : decode cX9_init 263 = .ok (.aload_n 0, 1) := by decide +kernel
theorem dX9_init_264 : decode cX9_init 264 = .ok (.invokevirtual 73, 3) := by decide +kernel
theorem dX9_init_267 : decode cX9_init 267 = .ok (.return_, 1) := by decide +kernel
theorem dX9_in_0 : decode cX9_in 0 = .ok (.lload_n 0, 1) := by decide +kernel
theorem dX9_in_1 : decode cX9_in 1 = .ok (.lload_n 2, 1) := by decide +kernel
theorem dX9_in_2 : decode cX9_in 2 = .ok (.lcmp, 1) := by decide +kernel
theorem dX9_in_3 : decode cX9_in 3 = .ok (.ifCond .lt 14, 3) := by decide +kernel
theorem dX9_in_6 : decode cX9_in 6 = .ok (.lload_n 0, 1) := by decide +kernel
theorem dX9_in_7 : decode cX9_in 7 = .ok (.lload 4, 2) := by decide +kernel
theorem dX9_in_9 : decode cX9_in 9 = .ok (.lcmp, 1) := by decide +kernel
theorem dX9_in_10 : decode cX9_in 10 = .ok (.ifCond .gt 7, 3) := by decide +kernel
theorem dX9_in_13 : decode cX9_in 13 = .ok (.iconst 1, 1) := by decide +kernel
theorem dX9_in_14 : decode cX9_in 14 = .ok (.goto 4, 3) := by decide +kernel
theorem dX9_in_17 : decode cX9_in 17 = .ok (.iconst 0, 1) := by decide +kernel
theorem dX9_in_18 : decode cX9_in 18 = .ok (.ireturn, 1) := by decide +kernel
theorem dX9_has_0 : decode cX9_has 0 = .ok (.iload_n 0, 1) := by decide +kernel
theorem dX9_has_1 : decode cX9_has 1 = .ok (.iload_n 1, 1) := by decide +kernel
theorem dX9_has_2 : decode cX9_has 2 = .ok (.ishr, 1) := by decide +kernel
theorem dX9_has_3 : decode cX9_has 3 = .ok (.iconst 1, 1) := by decide +kernel
theorem dX9_has_4 : decode cX9_has 4 = .ok (.iand, 1) := by decide +kernel
theorem dX9_has_5 : decode cX9_has 5 = .ok (.iconst 1, 1) := by decide +kernel
theorem dX9_has_6 : decode cX9_has 6 = .ok (.if_icmp .ne 7, 3) := by decide +kernel
theorem dX9_has_9 : decode cX9_has 9 = .ok (.iconst 1, 1) := by decide +kernel
theorem dX9_has_10 : decode cX9_has 10 = .ok (.goto 4, 3) := by decide +kernel
theorem dX9_has_13 : decode cX9_has 13 = .ok (.iconst 0, 1) := by decide +kernel
theorem dX9_has_14 : decode cX9_has 14 = .ok (.ireturn, 1) := by decide +kernel
theorem dX9_copies_0 : decode cX9_copies 0 = .ok (.iconst 0, 1) := by decide +kernel
theorem dX9_copies_1 : decode cX9_copies 1 = .ok (.istore 5, 2) := by decide +kernel
theorem dX9_copies_3 : decode cX9_copies 3 = .ok (.iload 5, 2) := by decide +kernel
theorem dX9_copies_5 : decode cX9_copies 5 = .ok (.iload 4, 2) := by decide +kernel
theorem dX9_copies_7 : decode cX9_copies 7 = .ok (.if_icmp .ge 21, 3) := by decide +kernel
theorem dX9_copies_10 : decode cX9_copies 10 = .ok (.aload_n 2, 1) := by decide +kernel
theorem dX9_copies_11 : decode cX9_copies 11 = .ok (.iload_n 3, 1) := by decide +kernel
theorem dX9_copies_12 : decode cX9_copies 12 = .ok (.iload 5, 2) := by decide +kernel
theorem dX9_copies_14 : decode cX9_copies 14 = .ok (.iadd, 1) := by decide +kernel
theorem dX9_copies_15 : decode cX9_copies 15 = .ok (.aload_n 0, 1) := by decide +kernel
theorem dX9_copies_16 : decode cX9_copies 16 = .ok (.iload_n 1, 1) := by decide +kernel
theorem dX9_copies_17 : decode cX9_copies 17 = .ok (.iload 5, 2) := by decide +kernel
theorem dX9_copies_19 : decode cX9_copies 19 = .ok (.iadd, 1) := by decide +kernel
theorem dX9_copies_20 : decode cX9_copies 20 = .ok (.iaload, 1) := by decide +kernel
theorem dX9_copies_21 : decode cX9_copies 21 = .ok (.iastore, 1) := by decide +kernel
theorem dX9_copies_22 : decode cX9_copies 22 = .ok (.iinc 5 1, 3) := by decide +kernel
theorem dX9_copies_25 : decode cX9_copies 25 = .ok (.goto (-22), 3) := by decide +kernel
theorem dX9_copies_28 : decode cX9_copies 28 = .ok (.return_, 1) := by decide +kernel
theorem dX9_forgetsRead_0 : decode cX9_forgetsRead 0 = .ok (.aload_n 0, 1) := by decide +kernel
theorem dX9_forgetsRead_1 : decode cX9_forgetsRead 1 = .ok (.iconst 0, 1) := by decide +kernel
theorem dX9_forgetsRead_2 : decode cX9_forgetsRead 2 = .ok (.putfield 76, 3) := by decide +kernel
theorem dX9_forgetsRead_5 : decode cX9_forgetsRead 5 = .ok (.aload_n 0, 1) := by decide +kernel
theorem dX9_forgetsRead_6 : decode cX9_forgetsRead 6 = .ok (.iconst 0, 1) := by decide +kernel
theorem dX9_forgetsRead_7 : decode cX9_forgetsRead 7 = .ok (.putfield 79, 3) := by decide +kernel
theorem dX9_forgetsRead_10 : decode cX9_forgetsRead 10 = .ok (.aload_n 0, 1) := by decide +kernel
theorem dX9_forgetsRead_11 : decode cX9_forgetsRead 11 = .ok (.iconst 0, 1) := by decide +kernel
theorem dX9_forgetsRead_12 : decode cX9_forgetsRead 12 = .ok (.putfield 62, 3) := by decide +kernel
theorem dX9_forgetsRead_15 : decode cX9_forgetsRead 15 = .ok (.aload_n 0, 1) := by decide +kernel
theorem dX9_forgetsRead_16 : decode cX9_forgetsRead 16 = .ok (.iconst 0, 1) := by decide +kernel
theorem dX9_forgetsRead_17 : decode cX9_forgetsRead 17 = .ok (.putfield 82, 3) := by decide +kernel
theorem dX9_forgetsRead_20 : decode cX9_forgetsRead 20 = .ok (.aload_n 0, 1) := by decide +kernel
theorem dX9_forgetsRead_21 : decode cX9_forgetsRead 21 = .ok (.iconst 0, 1) := by decide +kernel
theorem dX9_forgetsRead_22 : decode cX9_forgetsRead 22 = .ok (.putfield 70, 3) := by decide +kernel
theorem dX9_forgetsRead_25 : decode cX9_forgetsRead 25 = .ok (.iconst 0, 1) := by decide +kernel
theorem dX9_forgetsRead_26 : decode cX9_forgetsRead 26 = .ok (.istore_n 1, 1) := by decide +kernel
theorem dX9_forgetsRead_27 : decode cX9_forgetsRead 27 = .ok (.iload_n 1, 1) := by decide +kernel
theorem dX9_forgetsRead_28 : decode cX9_forgetsRead 28 = .ok (.sipush 144, 3) := by decide +kernel
theorem dX9_forgetsRead_31 : decode cX9_forgetsRead 31 = .ok (.if_icmp .ge 17, 3) := by decide +kernel
theorem dX9_forgetsRead_34 : decode cX9_forgetsRead 34 = .ok (.aload_n 0, 1) := by decide +kernel
theorem dX9_forgetsRead_35 : decode cX9_forgetsRead 35 = .ok (.getfield 40, 3) := by decide +kernel
theorem dX9_forgetsRead_38 : decode cX9_forgetsRead 38 = .ok (.iload_n 1, 1) := by decide +kernel
theorem dX9_forgetsRead_39 : decode cX9_forgetsRead 39 = .ok (.bipush (-4), 2) := by decide +kernel
theorem dX9_forgetsRead_41 : decode cX9_forgetsRead 41 = .ok (.iastore, 1) := by decide +kernel
theorem dX9_forgetsRead_42 : decode cX9_forgetsRead 42 = .ok (.iinc 1 1, 3) := by decide +kernel
theorem dX9_forgetsRead_45 : decode cX9_forgetsRead 45 = .ok (.goto (-18), 3) := by decide +kernel
theorem dX9_forgetsRead_48 : decode cX9_forgetsRead 48 = .ok (.return_, 1) := by decide +kernel
theorem dX9_laysRow_0 : decode cX9_laysRow 0 = .ok (.iload_n 1, 1) := by decide +kernel
theorem dX9_laysRow_1 : decode cX9_laysRow 1 = .ok (.istore_n 3, 1) := by decide +kernel
theorem dX9_laysRow_2 : decode cX9_laysRow 2 = .ok (.iload_n 2, 1) := by decide +kernel
theorem dX9_laysRow_3 : decode cX9_laysRow 3 = .ok (.iconst 1, 1) := by decide +kernel
theorem dX9_laysRow_4 : decode cX9_laysRow 4 = .ok (.isub, 1) := by decide +kernel
theorem dX9_laysRow_5 : decode cX9_laysRow 5 = .ok (.istore 4, 2) := by decide +kernel
theorem dX9_laysRow_7 : decode cX9_laysRow 7 = .ok (.iload 4, 2) := by decide +kernel
theorem dX9_laysRow_9 : decode cX9_laysRow 9 = .ok (.ifCond .lt 32, 3) := by decide +kernel
theorem dX9_laysRow_12 : decode cX9_laysRow 12 = .ok (.aload_n 0, 1) := by decide +kernel
theorem dX9_laysRow_13 : decode cX9_laysRow 13 = .ok (.getfield 34, 3) := by decide +kernel
theorem dX9_laysRow_16 : decode cX9_laysRow 16 = .ok (.iload_n 2, 1) := by decide +kernel
theorem dX9_laysRow_17 : decode cX9_laysRow 17 = .ok (.aload_n 0, 1) := by decide +kernel
theorem dX9_laysRow_18 : decode cX9_laysRow 18 = .ok (.getfield 76, 3) := by decide +kernel
theorem dX9_laysRow_21 : decode cX9_laysRow 21 = .ok (.imul, 1) := by decide +kernel
theorem dX9_laysRow_22 : decode cX9_laysRow 22 = .ok (.iload 4, 2) := by decide +kernel
theorem dX9_laysRow_24 : decode cX9_laysRow 24 = .ok (.iadd, 1) := by decide +kernel
theorem dX9_laysRow_25 : decode cX9_laysRow 25 = .ok (.iload_n 3, 1) := by decide +kernel
theorem dX9_laysRow_26 : decode cX9_laysRow 26 = .ok (.bipush 10, 2) := by decide +kernel
theorem dX9_laysRow_28 : decode cX9_laysRow 28 = .ok (.irem, 1) := by decide +kernel
theorem dX9_laysRow_29 : decode cX9_laysRow 29 = .ok (.iastore, 1) := by decide +kernel
theorem dX9_laysRow_30 : decode cX9_laysRow 30 = .ok (.iload_n 3, 1) := by decide +kernel
theorem dX9_laysRow_31 : decode cX9_laysRow 31 = .ok (.bipush 10, 2) := by decide +kernel
theorem dX9_laysRow_33 : decode cX9_laysRow 33 = .ok (.idiv, 1) := by decide +kernel
theorem dX9_laysRow_34 : decode cX9_laysRow 34 = .ok (.istore_n 3, 1) := by decide +kernel
theorem dX9_laysRow_35 : decode cX9_laysRow 35 = .ok (.iinc 4 (-1), 3) := by decide +kernel
theorem dX9_laysRow_38 : decode cX9_laysRow 38 = .ok (.goto (-31), 3) := by decide +kernel
theorem dX9_laysRow_41 : decode cX9_laysRow 41 = .ok (.aload_n 0, 1) := by decide +kernel
theorem dX9_laysRow_42 : decode cX9_laysRow 42 = .ok (.iload_n 2, 1) := by decide +kernel
theorem dX9_laysRow_43 : decode cX9_laysRow 43 = .ok (.putfield 79, 3) := by decide +kernel
theorem dX9_laysRow_46 : decode cX9_laysRow 46 = .ok (.aload_n 0, 1) := by decide +kernel
theorem dX9_laysRow_47 : decode cX9_laysRow 47 = .ok (.dup, 1) := by decide +kernel
theorem dX9_laysRow_48 : decode cX9_laysRow 48 = .ok (.getfield 76, 3) := by decide +kernel
theorem dX9_laysRow_51 : decode cX9_laysRow 51 = .ok (.iconst 1, 1) := by decide +kernel
theorem dX9_laysRow_52 : decode cX9_laysRow 52 = .ok (.iadd, 1) := by decide +kernel
theorem dX9_laysRow_53 : decode cX9_laysRow 53 = .ok (.putfield 76, 3) := by decide +kernel
theorem dX9_laysRow_56 : decode cX9_laysRow 56 = .ok (.return_, 1) := by decide +kernel
theorem dX9_laysTraveller_0 : decode cX9_laysTraveller 0 = .ok (.aload_n 0, 1) := by decide +kernel
theorem dX9_laysTraveller_1 : decode cX9_laysTraveller 1 = .ok (.getfield 43, 3) := by decide +kernel
theorem dX9_laysTraveller_4 : decode cX9_laysTraveller 4 = .ok (.aload_n 0, 1) := by decide +kernel
theorem dX9_laysTraveller_5 : decode cX9_laysTraveller 5 = .ok (.getfield 82, 3) := by decide +kernel
theorem dX9_laysTraveller_8 : decode cX9_laysTraveller 8 = .ok (.iload_n 1, 1) := by decide +kernel
theorem dX9_laysTraveller_9 : decode cX9_laysTraveller 9 = .ok (.iastore, 1) := by decide +kernel
theorem dX9_laysTraveller_10 : decode cX9_laysTraveller 10 = .ok (.aload_n 0, 1) := by decide +kernel
theorem dX9_laysTraveller_11 : decode cX9_laysTraveller 11 = .ok (.getfield 46, 3) := by decide +kernel
theorem dX9_laysTraveller_14 : decode cX9_laysTraveller 14 = .ok (.aload_n 0, 1) := by decide +kernel
theorem dX9_laysTraveller_15 : decode cX9_laysTraveller 15 = .ok (.getfield 82, 3) := by decide +kernel
theorem dX9_laysTraveller_18 : decode cX9_laysTraveller 18 = .ok (.iload_n 2, 1) := by decide +kernel
theorem dX9_laysTraveller_19 : decode cX9_laysTraveller 19 = .ok (.iastore, 1) := by decide +kernel
theorem dX9_laysTraveller_20 : decode cX9_laysTraveller 20 = .ok (.aload_n 0, 1) := by decide +kernel
theorem dX9_laysTraveller_21 : decode cX9_laysTraveller 21 = .ok (.getfield 49, 3) := by decide +kernel
theorem dX9_laysTraveller_24 : decode cX9_laysTraveller 24 = .ok (.aload_n 0, 1) := by decide +kernel
theorem dX9_laysTraveller_25 : decode cX9_laysTraveller 25 = .ok (.getfield 82, 3) := by decide +kernel
theorem dX9_laysTraveller_28 : decode cX9_laysTraveller 28 = .ok (.iload_n 3, 1) := by decide +kernel
theorem dX9_laysTraveller_29 : decode cX9_laysTraveller 29 = .ok (.iastore, 1) := by decide +kernel
theorem dX9_laysTraveller_30 : decode cX9_laysTraveller 30 = .ok (.aload_n 0, 1) := by decide +kernel
theorem dX9_laysTraveller_31 : decode cX9_laysTraveller 31 = .ok (.dup, 1) := by decide +kernel
theorem dX9_laysTraveller_32 : decode cX9_laysTraveller 32 = .ok (.getfield 82, 3) := by decide +kernel
theorem dX9_laysTraveller_35 : decode cX9_laysTraveller 35 = .ok (.iconst 1, 1) := by decide +kernel
theorem dX9_laysTraveller_36 : decode cX9_laysTraveller 36 = .ok (.iadd, 1) := by decide +kernel
theorem dX9_laysTraveller_37 : decode cX9_laysTraveller 37 = .ok (.putfield 82, 3) := by decide +kernel
theorem dX9_laysTraveller_40 : decode cX9_laysTraveller 40 = .ok (.return_, 1) := by decide +kernel
theorem dX9_begins_0 : decode cX9_begins 0 = .ok (.aload_n 0, 1) := by decide +kernel
theorem dX9_begins_1 : decode cX9_begins 1 = .ok (.aload_n 0, 1) := by decide +kernel
theorem dX9_begins_2 : decode cX9_begins 2 = .ok (.getfield 76, 3) := by decide +kernel
theorem dX9_begins_5 : decode cX9_begins 5 = .ok (.putfield 85, 3) := by decide +kernel
theorem dX9_begins_8 : decode cX9_begins 8 = .ok (.aload_n 0, 1) := by decide +kernel
theorem dX9_begins_9 : decode cX9_begins 9 = .ok (.aload_n 0, 1) := by decide +kernel
theorem dX9_begins_10 : decode cX9_begins 10 = .ok (.getfield 79, 3) := by decide +kernel
theorem dX9_begins_13 : decode cX9_begins 13 = .ok (.putfield 88, 3) := by decide +kernel
theorem dX9_begins_16 : decode cX9_begins 16 = .ok (.aload_n 0, 1) := by decide +kernel
theorem dX9_begins_17 : decode cX9_begins 17 = .ok (.aload_n 0, 1) := by decide +kernel
theorem dX9_begins_18 : decode cX9_begins 18 = .ok (.getfield 62, 3) := by decide +kernel
theorem dX9_begins_21 : decode cX9_begins 21 = .ok (.putfield 91, 3) := by decide +kernel
theorem dX9_begins_24 : decode cX9_begins 24 = .ok (.aload_n 0, 1) := by decide +kernel
theorem dX9_begins_25 : decode cX9_begins 25 = .ok (.aload_n 0, 1) := by decide +kernel
theorem dX9_begins_26 : decode cX9_begins 26 = .ok (.getfield 82, 3) := by decide +kernel
theorem dX9_begins_29 : decode cX9_begins 29 = .ok (.putfield 94, 3) := by decide +kernel
theorem dX9_begins_32 : decode cX9_begins 32 = .ok (.aload_n 0, 1) := by decide +kernel
theorem dX9_begins_33 : decode cX9_begins 33 = .ok (.getfield 34, 3) := by decide +kernel
theorem dX9_begins_36 : decode cX9_begins 36 = .ok (.iconst 0, 1) := by decide +kernel
theorem dX9_begins_37 : decode cX9_begins 37 = .ok (.aload_n 0, 1) := by decide +kernel
theorem dX9_begins_38 : decode cX9_begins 38 = .ok (.getfield 7, 3) := by decide +kernel
theorem dX9_begins_41 : decode cX9_begins 41 = .ok (.iconst 0, 1) := by decide +kernel
theorem dX9_begins_42 : decode cX9_begins 42 = .ok (.bipush 36, 2) := by decide +kernel
theorem dX9_begins_44 : decode cX9_begins 44 = .ok (.invokestatic 97, 3) := by decide +kernel
theorem dX9_begins_47 : decode cX9_begins 47 = .ok (.aload_n 0, 1) := by decide +kernel
theorem dX9_begins_48 : decode cX9_begins 48 = .ok (.getfield 37, 3) := by decide +kernel
theorem dX9_begins_51 : decode cX9_begins 51 = .ok (.iconst 0, 1) := by decide +kernel
theorem dX9_begins_52 : decode cX9_begins 52 = .ok (.aload_n 0, 1) := by decide +kernel
theorem dX9_begins_53 : decode cX9_begins 53 = .ok (.getfield 13, 3) := by decide +kernel
theorem dX9_begins_56 : decode cX9_begins 56 = .ok (.iconst 0, 1) := by decide +kernel
theorem dX9_begins_57 : decode cX9_begins 57 = .ok (.iconst 4, 1) := by decide +kernel
theorem dX9_begins_58 : decode cX9_begins 58 = .ok (.invokestatic 97, 3) := by decide +kernel
theorem dX9_begins_61 : decode cX9_begins 61 = .ok (.iconst 0, 1) := by decide +kernel
theorem dX9_begins_62 : decode cX9_begins 62 = .ok (.istore_n 1, 1) := by decide +kernel
theorem dX9_begins_63 : decode cX9_begins 63 = .ok (.iload_n 1, 1) := by decide +kernel
theorem dX9_begins_64 : decode cX9_begins 64 = .ok (.sipush 170, 3) := by decide +kernel
theorem dX9_begins_67 : decode cX9_begins 67 = .ok (.if_icmp .ge 16, 3) := by decide +kernel
theorem dX9_begins_70 : decode cX9_begins 70 = .ok (.aload_n 0, 1) := by decide +kernel
theorem dX9_begins_71 : decode cX9_begins 71 = .ok (.getfield 16, 3) := by decide +kernel
theorem dX9_begins_74 : decode cX9_begins 74 = .ok (.iload_n 1, 1) := by decide +kernel
theorem dX9_begins_75 : decode cX9_begins 75 = .ok (.iconst 0, 1) := by decide +kernel
theorem dX9_begins_76 : decode cX9_begins 76 = .ok (.iastore, 1) := by decide +kernel
theorem dX9_begins_77 : decode cX9_begins 77 = .ok (.iinc 1 1, 3) := by decide +kernel
theorem dX9_begins_80 : decode cX9_begins 80 = .ok (.goto (-17), 3) := by decide +kernel
theorem dX9_begins_83 : decode cX9_begins 83 = .ok (.aload_n 0, 1) := by decide +kernel
theorem dX9_begins_84 : decode cX9_begins 84 = .ok (.getfield 16, 3) := by decide +kernel
theorem dX9_begins_87 : decode cX9_begins 87 = .ok (.iconst 0, 1) := by decide +kernel
theorem dX9_begins_88 : decode cX9_begins 88 = .ok (.aload_n 0, 1) := by decide +kernel
theorem dX9_begins_89 : decode cX9_begins 89 = .ok (.getfield 70, 3) := by decide +kernel
theorem dX9_begins_92 : decode cX9_begins 92 = .ok (.iastore, 1) := by decide +kernel
theorem dX9_begins_93 : decode cX9_begins 93 = .ok (.iconst 0, 1) := by decide +kernel
theorem dX9_begins_94 : decode cX9_begins 94 = .ok (.istore_n 1, 1) := by decide +kernel
theorem dX9_begins_95 : decode cX9_begins 95 = .ok (.iload_n 1, 1) := by decide +kernel
theorem dX9_begins_96 : decode cX9_begins 96 = .ok (.aload_n 0, 1) := by decide +kernel
theorem dX9_begins_97 : decode cX9_begins 97 = .ok (.getfield 91, 3) := by decide +kernel
theorem dX9_begins_100 : decode cX9_begins 100 = .ok (.if_icmp .ge 71, 3) := by decide +kernel
theorem dX9_begins_103 : decode cX9_begins 103 = .ok (.iconst 0, 1) := by decide +kernel
theorem dX9_begins_104 : decode cX9_begins 104 = .ok (.istore_n 2, 1) := by decide +kernel
theorem dX9_begins_105 : decode cX9_begins 105 = .ok (.iload_n 2, 1) := by decide +kernel
theorem dX9_begins_106 : decode cX9_begins 106 = .ok (.aload_n 0, 1) := by decide +kernel
theorem dX9_begins_107 : decode cX9_begins 107 = .ok (.getfield 85, 3) := by decide +kernel
theorem dX9_begins_110 : decode cX9_begins 110 = .ok (.aload_n 0, 1) := by decide +kernel
theorem dX9_begins_111 : decode cX9_begins 111 = .ok (.getfield 88, 3) := by decide +kernel
theorem dX9_begins_114 : decode cX9_begins 114 = .ok (.imul, 1) := by decide +kernel
theorem dX9_begins_115 : decode cX9_begins 115 = .ok (.if_icmp .ge 50, 3) := by decide +kernel
theorem dX9_begins_118 : decode cX9_begins 118 = .ok (.aload_n 0, 1) := by decide +kernel
theorem dX9_begins_119 : decode cX9_begins 119 = .ok (.getfield 40, 3) := by decide +kernel
theorem dX9_begins_122 : decode cX9_begins 122 = .ok (.bipush 36, 2) := by decide +kernel
theorem dX9_begins_124 : decode cX9_begins 124 = .ok (.iload_n 1, 1) := by decide +kernel
theorem dX9_begins_125 : decode cX9_begins 125 = .ok (.imul, 1) := by decide +kernel
theorem dX9_begins_126 : decode cX9_begins 126 = .ok (.iload_n 2, 1) := by decide +kernel
theorem dX9_begins_127 : decode cX9_begins 127 = .ok (.iadd, 1) := by decide +kernel
theorem dX9_begins_128 : decode cX9_begins 128 = .ok (.iaload, 1) := by decide +kernel
theorem dX9_begins_129 : decode cX9_begins 129 = .ok (.istore_n 3, 1) := by decide +kernel
theorem dX9_begins_130 : decode cX9_begins 130 = .ok (.aload_n 0, 1) := by decide +kernel
theorem dX9_begins_131 : decode cX9_begins 131 = .ok (.getfield 16, 3) := by decide +kernel
theorem dX9_begins_134 : decode cX9_begins 134 = .ok (.iconst 2, 1) := by decide +kernel
theorem dX9_begins_135 : decode cX9_begins 135 = .ok (.bipush 36, 2) := by decide +kernel
theorem dX9_begins_137 : decode cX9_begins 137 = .ok (.iload_n 1, 1) := by decide +kernel
theorem dX9_begins_138 : decode cX9_begins 138 = .ok (.imul, 1) := by decide +kernel
theorem dX9_begins_139 : decode cX9_begins 139 = .ok (.iadd, 1) := by decide +kernel
theorem dX9_begins_140 : decode cX9_begins 140 = .ok (.iload_n 2, 1) := by decide +kernel
theorem dX9_begins_141 : decode cX9_begins 141 = .ok (.iadd, 1) := by decide +kernel
theorem dX9_begins_142 : decode cX9_begins 142 = .ok (.iload_n 3, 1) := by decide +kernel
theorem dX9_begins_143 : decode cX9_begins 143 = .ok (.bipush (-4), 2) := by decide +kernel
theorem dX9_begins_145 : decode cX9_begins 145 = .ok (.if_icmp .ne 12, 3) := by decide +kernel
theorem dX9_begins_148 : decode cX9_begins 148 = .ok (.aload_n 0, 1) := by decide +kernel
theorem dX9_begins_149 : decode cX9_begins 149 = .ok (.getfield 7, 3) := by decide +kernel
theorem dX9_begins_152 : decode cX9_begins 152 = .ok (.iload_n 2, 1) := by decide +kernel
theorem dX9_begins_153 : decode cX9_begins 153 = .ok (.iaload, 1) := by decide +kernel
theorem dX9_begins_154 : decode cX9_begins 154 = .ok (.goto 4, 3) := by decide +kernel
theorem dX9_begins_157 : decode cX9_begins 157 = .ok (.iload_n 3, 1) := by decide +kernel
theorem dX9_begins_158 : decode cX9_begins 158 = .ok (.iastore, 1) := by decide +kernel
theorem dX9_begins_159 : decode cX9_begins 159 = .ok (.iinc 2 1, 3) := by decide +kernel
theorem dX9_begins_162 : decode cX9_begins 162 = .ok (.goto (-57), 3) := by decide +kernel
theorem dX9_begins_165 : decode cX9_begins 165 = .ok (.iinc 1 1, 3) := by decide +kernel
theorem dX9_begins_168 : decode cX9_begins 168 = .ok (.goto (-73), 3) := by decide +kernel
theorem dX9_begins_171 : decode cX9_begins 171 = .ok (.iconst 0, 1) := by decide +kernel
theorem dX9_begins_172 : decode cX9_begins 172 = .ok (.istore_n 1, 1) := by decide +kernel
theorem dX9_begins_173 : decode cX9_begins 173 = .ok (.iload_n 1, 1) := by decide +kernel
theorem dX9_begins_174 : decode cX9_begins 174 = .ok (.aload_n 0, 1) := by decide +kernel
theorem dX9_begins_175 : decode cX9_begins 175 = .ok (.getfield 94, 3) := by decide +kernel
theorem dX9_begins_178 : decode cX9_begins 178 = .ok (.if_icmp .ge 99, 3) := by decide +kernel
theorem dX9_begins_181 : decode cX9_begins 181 = .ok (.aload_n 0, 1) := by decide +kernel
theorem dX9_begins_182 : decode cX9_begins 182 = .ok (.getfield 16, 3) := by decide +kernel
theorem dX9_begins_185 : decode cX9_begins 185 = .ok (.sipush 146, 3) := by decide +kernel
theorem dX9_begins_188 : decode cX9_begins 188 = .ok (.iload_n 1, 1) := by decide +kernel
theorem dX9_begins_189 : decode cX9_begins 189 = .ok (.iadd, 1) := by decide +kernel
theorem dX9_begins_190 : decode cX9_begins 190 = .ok (.aload_n 0, 1) := by decide +kernel
theorem dX9_begins_191 : decode cX9_begins 191 = .ok (.getfield 43, 3) := by decide +kernel
theorem dX9_begins_194 : decode cX9_begins 194 = .ok (.iload_n 1, 1) := by decide +kernel
theorem dX9_begins_195 : decode cX9_begins 195 = .ok (.iaload, 1) := by decide +kernel
theorem dX9_begins_196 : decode cX9_begins 196 = .ok (.iastore, 1) := by decide +kernel
theorem dX9_begins_197 : decode cX9_begins 197 = .ok (.aload_n 0, 1) := by decide +kernel
theorem dX9_begins_198 : decode cX9_begins 198 = .ok (.getfield 16, 3) := by decide +kernel
theorem dX9_begins_201 : decode cX9_begins 201 = .ok (.sipush 150, 3) := by decide +kernel
theorem dX9_begins_204 : decode cX9_begins 204 = .ok (.iload_n 1, 1) := by decide +kernel
theorem dX9_begins_205 : decode cX9_begins 205 = .ok (.iadd, 1) := by decide +kernel
theorem dX9_begins_206 : decode cX9_begins 206 = .ok (.aload_n 0, 1) := by decide +kernel
theorem dX9_begins_207 : decode cX9_begins 207 = .ok (.getfield 46, 3) := by decide +kernel
theorem dX9_begins_210 : decode cX9_begins 210 = .ok (.iload_n 1, 1) := by decide +kernel
theorem dX9_begins_211 : decode cX9_begins 211 = .ok (.iaload, 1) := by decide +kernel
theorem dX9_begins_212 : decode cX9_begins 212 = .ok (.iastore, 1) := by decide +kernel
theorem dX9_begins_213 : decode cX9_begins 213 = .ok (.aload_n 0, 1) := by decide +kernel
theorem dX9_begins_214 : decode cX9_begins 214 = .ok (.getfield 16, 3) := by decide +kernel
theorem dX9_begins_217 : decode cX9_begins 217 = .ok (.sipush 154, 3) := by decide +kernel
theorem dX9_begins_220 : decode cX9_begins 220 = .ok (.iload_n 1, 1) := by decide +kernel
theorem dX9_begins_221 : decode cX9_begins 221 = .ok (.iadd, 1) := by decide +kernel
theorem dX9_begins_222 : decode cX9_begins 222 = .ok (.aload_n 0, 1) := by decide +kernel
theorem dX9_begins_223 : decode cX9_begins 223 = .ok (.getfield 49, 3) := by decide +kernel
theorem dX9_begins_226 : decode cX9_begins 226 = .ok (.iload_n 1, 1) := by decide +kernel
theorem dX9_begins_227 : decode cX9_begins 227 = .ok (.iaload, 1) := by decide +kernel
theorem dX9_begins_228 : decode cX9_begins 228 = .ok (.iastore, 1) := by decide +kernel
theorem dX9_begins_229 : decode cX9_begins 229 = .ok (.aload_n 0, 1) := by decide +kernel
theorem dX9_begins_230 : decode cX9_begins 230 = .ok (.getfield 16, 3) := by decide +kernel
theorem dX9_begins_233 : decode cX9_begins 233 = .ok (.sipush 158, 3) := by decide +kernel
theorem dX9_begins_236 : decode cX9_begins 236 = .ok (.iload_n 1, 1) := by decide +kernel
theorem dX9_begins_237 : decode cX9_begins 237 = .ok (.iadd, 1) := by decide +kernel
theorem dX9_begins_238 : decode cX9_begins 238 = .ok (.aload_n 0, 1) := by decide +kernel
theorem dX9_begins_239 : decode cX9_begins 239 = .ok (.getfield 43, 3) := by decide +kernel
theorem dX9_begins_242 : decode cX9_begins 242 = .ok (.iload_n 1, 1) := by decide +kernel
theorem dX9_begins_243 : decode cX9_begins 243 = .ok (.iaload, 1) := by decide +kernel
theorem dX9_begins_244 : decode cX9_begins 244 = .ok (.aload_n 0, 1) := by decide +kernel
theorem dX9_begins_245 : decode cX9_begins 245 = .ok (.getfield 46, 3) := by decide +kernel
theorem dX9_begins_248 : decode cX9_begins 248 = .ok (.iload_n 1, 1) := by decide +kernel
theorem dX9_begins_249 : decode cX9_begins 249 = .ok (.iaload, 1) := by decide +kernel
theorem dX9_begins_250 : decode cX9_begins 250 = .ok (.if_icmp .ne 7, 3) := by decide +kernel
theorem dX9_begins_253 : decode cX9_begins 253 = .ok (.iconst 1, 1) := by decide +kernel
theorem dX9_begins_254 : decode cX9_begins 254 = .ok (.goto 4, 3) := by decide +kernel
theorem dX9_begins_257 : decode cX9_begins 257 = .ok (.iconst 0, 1) := by decide +kernel
theorem dX9_begins_258 : decode cX9_begins 258 = .ok (.iastore, 1) := by decide +kernel
theorem dX9_begins_259 : decode cX9_begins 259 = .ok (.aload_n 0, 1) := by decide +kernel
theorem dX9_begins_260 : decode cX9_begins 260 = .ok (.getfield 16, 3) := by decide +kernel
theorem dX9_begins_263 : decode cX9_begins 263 = .ok (.sipush 162, 3) := by decide +kernel
theorem dX9_begins_266 : decode cX9_begins 266 = .ok (.iload_n 1, 1) := by decide +kernel
theorem dX9_begins_267 : decode cX9_begins 267 = .ok (.iadd, 1) := by decide +kernel
theorem dX9_begins_268 : decode cX9_begins 268 = .ok (.bipush (-4), 2) := by decide +kernel
theorem dX9_begins_270 : decode cX9_begins 270 = .ok (.iastore, 1) := by decide +kernel
theorem dX9_begins_271 : decode cX9_begins 271 = .ok (.iinc 1 1, 3) := by decide +kernel
theorem dX9_begins_274 : decode cX9_begins 274 = .ok (.goto (-101), 3) := by decide +kernel
theorem dX9_begins_277 : decode cX9_begins 277 = .ok (.aload_n 0, 1) := by decide +kernel
theorem dX9_begins_278 : decode cX9_begins 278 = .ok (.iconst 0, 1) := by decide +kernel
theorem dX9_begins_279 : decode cX9_begins 279 = .ok (.putfield 101, 3) := by decide +kernel
theorem dX9_begins_282 : decode cX9_begins 282 = .ok (.aload_n 0, 1) := by decide +kernel
theorem dX9_begins_283 : decode cX9_begins 283 = .ok (.iconst 0, 1) := by decide +kernel
theorem dX9_begins_284 : decode cX9_begins 284 = .ok (.putfield 104, 3) := by decide +kernel
theorem dX9_begins_287 : decode cX9_begins 287 = .ok (.aload_n 0, 1) := by decide +kernel
theorem dX9_begins_288 : decode cX9_begins 288 = .ok (.iconst 0, 1) := by decide +kernel
theorem dX9_begins_289 : decode cX9_begins 289 = .ok (.putfield 107, 3) := by decide +kernel
theorem dX9_begins_292 : decode cX9_begins 292 = .ok (.return_, 1) := by decide +kernel
theorem dX9_write_0 : decode cX9_write 0 = .ok (.iload_n 1, 1) := by decide +kernel
theorem dX9_write_1 : decode cX9_write 1 = .ok (.i2l, 1) := by decide +kernel
theorem dX9_write_2 : decode cX9_write 2 = .ok (.ldc2_w 110, 3) := by decide +kernel
theorem dX9_write_5 : decode cX9_write 5 = .ok (.ldc2_w 112, 3) := by decide +kernel
theorem dX9_write_8 : decode cX9_write 8 = .ok (.invokestatic 114, 3) := by decide +kernel
theorem dX9_write_11 : decode cX9_write 11 = .ok (.ifCond .ne 5, 3) := by decide +kernel
theorem dX9_write_14 : decode cX9_write 14 = .ok (.iconst (-1), 1) := by decide +kernel
theorem dX9_write_15 : decode cX9_write 15 = .ok (.ireturn, 1) := by decide +kernel
theorem dX9_write_16 : decode cX9_write 16 = .ok (.aload_n 0, 1) := by decide +kernel
theorem dX9_write_17 : decode cX9_write 17 = .ok (.getfield 118, 3) := by decide +kernel
theorem dX9_write_20 : decode cX9_write 20 = .ok (.sipush 200, 3) := by decide +kernel
theorem dX9_write_23 : decode cX9_write 23 = .ok (.if_icmp .ne 6, 3) := by decide +kernel
theorem dX9_write_26 : decode cX9_write 26 = .ok (.bipush (-3), 2) := by decide +kernel
theorem dX9_write_28 : decode cX9_write 28 = .ok (.ireturn, 1) := by decide +kernel
theorem dX9_write_29 : decode cX9_write 29 = .ok (.aload_n 0, 1) := by decide +kernel
theorem dX9_write_30 : decode cX9_write 30 = .ok (.getfield 31, 3) := by decide +kernel
theorem dX9_write_33 : decode cX9_write 33 = .ok (.aload_n 0, 1) := by decide +kernel
theorem dX9_write_34 : decode cX9_write 34 = .ok (.getfield 118, 3) := by decide +kernel
theorem dX9_write_37 : decode cX9_write 37 = .ok (.iload_n 1, 1) := by decide +kernel
theorem dX9_write_38 : decode cX9_write 38 = .ok (.iastore, 1) := by decide +kernel
theorem dX9_write_39 : decode cX9_write 39 = .ok (.aload_n 0, 1) := by decide +kernel
theorem dX9_write_40 : decode cX9_write 40 = .ok (.dup, 1) := by decide +kernel
theorem dX9_write_41 : decode cX9_write 41 = .ok (.getfield 118, 3) := by decide +kernel
theorem dX9_write_44 : decode cX9_write 44 = .ok (.iconst 1, 1) := by decide +kernel
theorem dX9_write_45 : decode cX9_write 45 = .ok (.iadd, 1) := by decide +kernel
theorem dX9_write_46 : decode cX9_write 46 = .ok (.putfield 118, 3) := by decide +kernel
theorem dX9_write_49 : decode cX9_write 49 = .ok (.aload_n 0, 1) := by decide +kernel
theorem dX9_write_50 : decode cX9_write 50 = .ok (.getfield 118, 3) := by decide +kernel
theorem dX9_write_53 : decode cX9_write 53 = .ok (.ireturn, 1) := by decide +kernel
theorem dX9_wipe_0 : decode cX9_wipe 0 = .ok (.aload_n 0, 1) := by decide +kernel
theorem dX9_wipe_1 : decode cX9_wipe 1 = .ok (.getfield 118, 3) := by decide +kernel
theorem dX9_wipe_4 : decode cX9_wipe 4 = .ok (.istore_n 1, 1) := by decide +kernel
theorem dX9_wipe_5 : decode cX9_wipe 5 = .ok (.aload_n 0, 1) := by decide +kernel
theorem dX9_wipe_6 : decode cX9_wipe 6 = .ok (.iconst 0, 1) := by decide +kernel
theorem dX9_wipe_7 : decode cX9_wipe 7 = .ok (.putfield 118, 3) := by decide +kernel
theorem dX9_wipe_10 : decode cX9_wipe 10 = .ok (.iload_n 1, 1) := by decide +kernel
theorem dX9_wipe_11 : decode cX9_wipe 11 = .ok (.ireturn, 1) := by decide +kernel
theorem dX9_here_0 : decode cX9_here 0 = .ok (.aload_n 0, 1) := by decide +kernel
theorem dX9_here_1 : decode cX9_here 1 = .ok (.getfield 121, 3) := by decide +kernel
theorem dX9_here_4 : decode cX9_here 4 = .ok (.aload_n 0, 1) := by decide +kernel
theorem dX9_here_5 : decode cX9_here 5 = .ok (.getfield 118, 3) := by decide +kernel
theorem dX9_here_8 : decode cX9_here 8 = .ok (.if_icmp .ge 15, 3) := by decide +kernel
theorem dX9_here_11 : decode cX9_here 11 = .ok (.aload_n 0, 1) := by decide +kernel
theorem dX9_here_12 : decode cX9_here 12 = .ok (.getfield 31, 3) := by decide +kernel
theorem dX9_here_15 : decode cX9_here 15 = .ok (.aload_n 0, 1) := by decide +kernel
theorem dX9_here_16 : decode cX9_here 16 = .ok (.getfield 121, 3) := by decide +kernel
theorem dX9_here_19 : decode cX9_here 19 = .ok (.iaload, 1) := by decide +kernel
theorem dX9_here_20 : decode cX9_here 20 = .ok (.goto 4, 3) := by decide +kernel
theorem dX9_here_23 : decode cX9_here 23 = .ok (.iconst (-1), 1) := by decide +kernel
theorem dX9_here_24 : decode cX9_here 24 = .ok (.ireturn, 1) := by decide +kernel
theorem dX9_takes_0 : decode cX9_takes 0 = .ok (.aload_n 0, 1) := by decide +kernel
theorem dX9_takes_1 : decode cX9_takes 1 = .ok (.invokevirtual 124, 3) := by decide +kernel
theorem dX9_takes_4 : decode cX9_takes 4 = .ok (.iload_n 1, 1) := by decide +kernel
theorem dX9_takes_5 : decode cX9_takes 5 = .ok (.if_icmp .ne 7, 3) := by decide +kernel
theorem dX9_takes_8 : decode cX9_takes 8 = .ok (.iconst 1, 1) := by decide +kernel
theorem dX9_takes_9 : decode cX9_takes 9 = .ok (.goto 4, 3) := by decide +kernel
theorem dX9_takes_12 : decode cX9_takes 12 = .ok (.iconst 0, 1) := by decide +kernel
theorem dX9_takes_13 : decode cX9_takes 13 = .ok (.istore_n 2, 1) := by decide +kernel
theorem dX9_takes_14 : decode cX9_takes 14 = .ok (.aload_n 0, 1) := by decide +kernel
theorem dX9_takes_15 : decode cX9_takes 15 = .ok (.dup, 1) := by decide +kernel
theorem dX9_takes_16 : decode cX9_takes 16 = .ok (.getfield 121, 3) := by decide +kernel
theorem dX9_takes_19 : decode cX9_takes 19 = .ok (.iload_n 2, 1) := by decide +kernel
theorem dX9_takes_20 : decode cX9_takes 20 = .ok (.ifCond .eq 7, 3) := by decide +kernel
theorem dX9_takes_23 : decode cX9_takes 23 = .ok (.iconst 1, 1) := by decide +kernel
theorem dX9_takes_24 : decode cX9_takes 24 = .ok (.goto 4, 3) := by decide +kernel
theorem dX9_takes_27 : decode cX9_takes 27 = .ok (.iconst 0, 1) := by decide +kernel
theorem dX9_takes_28 : decode cX9_takes 28 = .ok (.iadd, 1) := by decide +kernel
theorem dX9_takes_29 : decode cX9_takes 29 = .ok (.putfield 121, 3) := by decide +kernel
theorem dX9_takes_32 : decode cX9_takes 32 = .ok (.iload_n 2, 1) := by decide +kernel
theorem dX9_takes_33 : decode cX9_takes 33 = .ok (.ireturn, 1) := by decide +kernel
theorem dX9_isFigure_0 : decode cX9_isFigure 0 = .ok (.iload_n 0, 1) := by decide +kernel
theorem dX9_isFigure_1 : decode cX9_isFigure 1 = .ok (.i2l, 1) := by decide +kernel
theorem dX9_isFigure_2 : decode cX9_isFigure 2 = .ok (.ldc2_w 128, 3) := by decide +kernel
theorem dX9_isFigure_5 : decode cX9_isFigure 5 = .ok (.ldc2_w 130, 3) := by decide +kernel
theorem dX9_isFigure_8 : decode cX9_isFigure 8 = .ok (.invokestatic 114, 3) := by decide +kernel
theorem dX9_isFigure_11 : decode cX9_isFigure 11 = .ok (.ireturn, 1) := by decide +kernel
theorem dX9_number_0 : decode cX9_number 0 = .ok (.aload_n 0, 1) := by decide +kernel
theorem dX9_number_1 : decode cX9_number 1 = .ok (.invokevirtual 124, 3) := by decide +kernel
theorem dX9_number_4 : decode cX9_number 4 = .ok (.invokestatic 132, 3) := by decide +kernel
theorem dX9_number_7 : decode cX9_number 7 = .ok (.ifCond .ne 5, 3) := by decide +kernel
theorem dX9_number_10 : decode cX9_number 10 = .ok (.iconst 0, 1) := by decide +kernel
theorem dX9_number_11 : decode cX9_number 11 = .ok (.ireturn, 1) := by decide +kernel
theorem dX9_number_12 : decode cX9_number 12 = .ok (.aload_n 0, 1) := by decide +kernel
theorem dX9_number_13 : decode cX9_number 13 = .ok (.aload_n 0, 1) := by decide +kernel
theorem dX9_number_14 : decode cX9_number 14 = .ok (.invokevirtual 124, 3) := by decide +kernel
theorem dX9_number_17 : decode cX9_number 17 = .ok (.bipush 48, 2) := by decide +kernel
theorem dX9_number_19 : decode cX9_number 19 = .ok (.isub, 1) := by decide +kernel
theorem dX9_number_20 : decode cX9_number 20 = .ok (.putfield 136, 3) := by decide +kernel
theorem dX9_number_23 : decode cX9_number 23 = .ok (.aload_n 0, 1) := by decide +kernel
theorem dX9_number_24 : decode cX9_number 24 = .ok (.dup, 1) := by decide +kernel
theorem dX9_number_25 : decode cX9_number 25 = .ok (.getfield 121, 3) := by decide +kernel
theorem dX9_number_28 : decode cX9_number 28 = .ok (.iconst 1, 1) := by decide +kernel
theorem dX9_number_29 : decode cX9_number 29 = .ok (.iadd, 1) := by decide +kernel
theorem dX9_number_30 : decode cX9_number 30 = .ok (.putfield 121, 3) := by decide +kernel
theorem dX9_number_33 : decode cX9_number 33 = .ok (.aload_n 0, 1) := by decide +kernel
theorem dX9_number_34 : decode cX9_number 34 = .ok (.invokevirtual 124, 3) := by decide +kernel
theorem dX9_number_37 : decode cX9_number 37 = .ok (.invokestatic 132, 3) := by decide +kernel
theorem dX9_number_40 : decode cX9_number 40 = .ok (.ifCond .eq 32, 3) := by decide +kernel
theorem dX9_number_43 : decode cX9_number 43 = .ok (.aload_n 0, 1) := by decide +kernel
theorem dX9_number_44 : decode cX9_number 44 = .ok (.bipush 10, 2) := by decide +kernel
theorem dX9_number_46 : decode cX9_number 46 = .ok (.aload_n 0, 1) := by decide +kernel
theorem dX9_number_47 : decode cX9_number 47 = .ok (.getfield 136, 3) := by decide +kernel
theorem dX9_number_50 : decode cX9_number 50 = .ok (.imul, 1) := by decide +kernel
theorem dX9_number_51 : decode cX9_number 51 = .ok (.aload_n 0, 1) := by decide +kernel
theorem dX9_number_52 : decode cX9_number 52 = .ok (.invokevirtual 124, 3) := by decide +kernel
theorem dX9_number_55 : decode cX9_number 55 = .ok (.iadd, 1) := by decide +kernel
theorem dX9_number_56 : decode cX9_number 56 = .ok (.bipush 48, 2) := by decide +kernel
theorem dX9_number_58 : decode cX9_number 58 = .ok (.isub, 1) := by decide +kernel
theorem dX9_number_59 : decode cX9_number 59 = .ok (.putfield 136, 3) := by decide +kernel
theorem dX9_number_62 : decode cX9_number 62 = .ok (.aload_n 0, 1) := by decide +kernel
theorem dX9_number_63 : decode cX9_number 63 = .ok (.dup, 1) := by decide +kernel
theorem dX9_number_64 : decode cX9_number 64 = .ok (.getfield 121, 3) := by decide +kernel
theorem dX9_number_67 : decode cX9_number 67 = .ok (.iconst 1, 1) := by decide +kernel
theorem dX9_number_68 : decode cX9_number 68 = .ok (.iadd, 1) := by decide +kernel
theorem dX9_number_69 : decode cX9_number 69 = .ok (.putfield 121, 3) := by decide +kernel
theorem dX9_number_72 : decode cX9_number 72 = .ok (.aload_n 0, 1) := by decide +kernel
theorem dX9_number_73 : decode cX9_number 73 = .ok (.getfield 136, 3) := by decide +kernel
theorem dX9_number_76 : decode cX9_number 76 = .ok (.i2l, 1) := by decide +kernel
theorem dX9_number_77 : decode cX9_number 77 = .ok (.iload_n 1, 1) := by decide +kernel
theorem dX9_number_78 : decode cX9_number 78 = .ok (.i2l, 1) := by decide +kernel
theorem dX9_number_79 : decode cX9_number 79 = .ok (.iload_n 2, 1) := by decide +kernel
theorem dX9_number_80 : decode cX9_number 80 = .ok (.i2l, 1) := by decide +kernel
theorem dX9_number_81 : decode cX9_number 81 = .ok (.invokestatic 114, 3) := by decide +kernel
theorem dX9_number_84 : decode cX9_number 84 = .ok (.ireturn, 1) := by decide +kernel
theorem dX9_readsRow_0 : decode cX9_readsRow 0 = .ok (.iconst 0, 1) := by decide +kernel
theorem dX9_readsRow_1 : decode cX9_readsRow 1 = .ok (.istore_n 1, 1) := by decide +kernel
theorem dX9_readsRow_2 : decode cX9_readsRow 2 = .ok (.iconst 0, 1) := by decide +kernel
theorem dX9_readsRow_3 : decode cX9_readsRow 3 = .ok (.istore_n 2, 1) := by decide +kernel
theorem dX9_readsRow_4 : decode cX9_readsRow 4 = .ok (.aload_n 0, 1) := by decide +kernel
theorem dX9_readsRow_5 : decode cX9_readsRow 5 = .ok (.invokevirtual 124, 3) := by decide +kernel
theorem dX9_readsRow_8 : decode cX9_readsRow 8 = .ok (.i2l, 1) := by decide +kernel
theorem dX9_readsRow_9 : decode cX9_readsRow 9 = .ok (.ldc2_w 128, 3) := by decide +kernel
theorem dX9_readsRow_12 : decode cX9_readsRow 12 = .ok (.ldc2_w 139, 3) := by decide +kernel
theorem dX9_readsRow_15 : decode cX9_readsRow 15 = .ok (.invokestatic 114, 3) := by decide +kernel
theorem dX9_readsRow_18 : decode cX9_readsRow 18 = .ok (.ifCond .eq 38, 3) := by decide +kernel
theorem dX9_readsRow_21 : decode cX9_readsRow 21 = .ok (.iload_n 2, 1) := by decide +kernel
theorem dX9_readsRow_22 : decode cX9_readsRow 22 = .ok (.bipush 7, 2) := by decide +kernel
theorem dX9_readsRow_24 : decode cX9_readsRow 24 = .ok (.if_icmp .ge 32, 3) := by decide +kernel
theorem dX9_readsRow_27 : decode cX9_readsRow 27 = .ok (.bipush 10, 2) := by decide +kernel
theorem dX9_readsRow_29 : decode cX9_readsRow 29 = .ok (.iload_n 1, 1) := by decide +kernel
theorem dX9_readsRow_30 : decode cX9_readsRow 30 = .ok (.imul, 1) := by decide +kernel
theorem dX9_readsRow_31 : decode cX9_readsRow 31 = .ok (.aload_n 0, 1) := by decide +kernel
theorem dX9_readsRow_32 : decode cX9_readsRow 32 = .ok (.invokevirtual 124, 3) := by decide +kernel
theorem dX9_readsRow_35 : decode cX9_readsRow 35 = .ok (.iadd, 1) := by decide +kernel
theorem dX9_readsRow_36 : decode cX9_readsRow 36 = .ok (.bipush 48, 2) := by decide +kernel
theorem dX9_readsRow_38 : decode cX9_readsRow 38 = .ok (.isub, 1) := by decide +kernel
theorem dX9_readsRow_39 : decode cX9_readsRow 39 = .ok (.istore_n 1, 1) := by decide +kernel
theorem dX9_readsRow_40 : decode cX9_readsRow 40 = .ok (.iinc 2 1, 3) := by decide +kernel
theorem dX9_readsRow_43 : decode cX9_readsRow 43 = .ok (.aload_n 0, 1) := by decide +kernel
theorem dX9_readsRow_44 : decode cX9_readsRow 44 = .ok (.dup, 1) := by decide +kernel
theorem dX9_readsRow_45 : decode cX9_readsRow 45 = .ok (.getfield 121, 3) := by decide +kernel
theorem dX9_readsRow_48 : decode cX9_readsRow 48 = .ok (.iconst 1, 1) := by decide +kernel
theorem dX9_readsRow_49 : decode cX9_readsRow 49 = .ok (.iadd, 1) := by decide +kernel
theorem dX9_readsRow_50 : decode cX9_readsRow 50 = .ok (.putfield 121, 3) := by decide +kernel
theorem dX9_readsRow_53 : decode cX9_readsRow 53 = .ok (.goto (-49), 3) := by decide +kernel
theorem dX9_readsRow_56 : decode cX9_readsRow 56 = .ok (.iload_n 2, 1) := by decide +kernel
theorem dX9_readsRow_57 : decode cX9_readsRow 57 = .ok (.i2l, 1) := by decide +kernel
theorem dX9_readsRow_58 : decode cX9_readsRow 58 = .ok (.lconst 1, 1) := by decide +kernel
theorem dX9_readsRow_59 : decode cX9_readsRow 59 = .ok (.ldc2_w 141, 3) := by decide +kernel
theorem dX9_readsRow_62 : decode cX9_readsRow 62 = .ok (.invokestatic 114, 3) := by decide +kernel
theorem dX9_readsRow_65 : decode cX9_readsRow 65 = .ok (.ifCond .eq 27, 3) := by decide +kernel
theorem dX9_readsRow_68 : decode cX9_readsRow 68 = .ok (.aload_n 0, 1) := by decide +kernel
theorem dX9_readsRow_69 : decode cX9_readsRow 69 = .ok (.getfield 76, 3) := by decide +kernel
theorem dX9_readsRow_72 : decode cX9_readsRow 72 = .ok (.bipush 6, 2) := by decide +kernel
theorem dX9_readsRow_74 : decode cX9_readsRow 74 = .ok (.if_icmp .eq 18, 3) := by decide +kernel
theorem dX9_readsRow_77 : decode cX9_readsRow 77 = .ok (.aload_n 0, 1) := by decide +kernel
theorem dX9_readsRow_78 : decode cX9_readsRow 78 = .ok (.getfield 76, 3) := by decide +kernel
theorem dX9_readsRow_81 : decode cX9_readsRow 81 = .ok (.ifCond .le 13, 3) := by decide +kernel
theorem dX9_readsRow_84 : decode cX9_readsRow 84 = .ok (.iload_n 2, 1) := by decide +kernel
theorem dX9_readsRow_85 : decode cX9_readsRow 85 = .ok (.aload_n 0, 1) := by decide +kernel
theorem dX9_readsRow_86 : decode cX9_readsRow 86 = .ok (.getfield 79, 3) := by decide +kernel
theorem dX9_readsRow_89 : decode cX9_readsRow 89 = .ok (.if_icmp .eq 5, 3) := by decide +kernel
theorem dX9_readsRow_92 : decode cX9_readsRow 92 = .ok (.iconst 0, 1) := by decide +kernel
theorem dX9_readsRow_93 : decode cX9_readsRow 93 = .ok (.ireturn, 1) := by decide +kernel
theorem dX9_readsRow_94 : decode cX9_readsRow 94 = .ok (.aload_n 0, 1) := by decide +kernel
theorem dX9_readsRow_95 : decode cX9_readsRow 95 = .ok (.iload_n 1, 1) := by decide +kernel
theorem dX9_readsRow_96 : decode cX9_readsRow 96 = .ok (.iload_n 2, 1) := by decide +kernel
theorem dX9_readsRow_97 : decode cX9_readsRow 97 = .ok (.invokevirtual 58, 3) := by decide +kernel
theorem dX9_readsRow_100 : decode cX9_readsRow 100 = .ok (.iconst 1, 1) := by decide +kernel
theorem dX9_readsRow_101 : decode cX9_readsRow 101 = .ok (.ireturn, 1) := by decide +kernel
theorem dX9_readsDrum_0 : decode cX9_readsDrum 0 = .ok (.aload_n 0, 1) := by decide +kernel
theorem dX9_readsDrum_1 : decode cX9_readsDrum 1 = .ok (.getfield 62, 3) := by decide +kernel
theorem dX9_readsDrum_4 : decode cX9_readsDrum 4 = .ok (.iconst 4, 1) := by decide +kernel
theorem dX9_readsDrum_5 : decode cX9_readsDrum 5 = .ok (.if_icmp .eq 12, 3) := by decide +kernel
theorem dX9_readsDrum_8 : decode cX9_readsDrum 8 = .ok (.aload_n 0, 1) := by decide +kernel
theorem dX9_readsDrum_9 : decode cX9_readsDrum 9 = .ok (.iconst 0, 1) := by decide +kernel
theorem dX9_readsDrum_10 : decode cX9_readsDrum 10 = .ok (.iconst 3, 1) := by decide +kernel
theorem dX9_readsDrum_11 : decode cX9_readsDrum 11 = .ok (.invokevirtual 143, 3) := by decide +kernel
theorem dX9_readsDrum_14 : decode cX9_readsDrum 14 = .ok (.ifCond .ne 5, 3) := by decide +kernel
theorem dX9_readsDrum_17 : decode cX9_readsDrum 17 = .ok (.iconst 0, 1) := by decide +kernel
theorem dX9_readsDrum_18 : decode cX9_readsDrum 18 = .ok (.ireturn, 1) := by decide +kernel
theorem dX9_readsDrum_19 : decode cX9_readsDrum 19 = .ok (.aload_n 0, 1) := by decide +kernel
theorem dX9_readsDrum_20 : decode cX9_readsDrum 20 = .ok (.getfield 37, 3) := by decide +kernel
theorem dX9_readsDrum_23 : decode cX9_readsDrum 23 = .ok (.aload_n 0, 1) := by decide +kernel
theorem dX9_readsDrum_24 : decode cX9_readsDrum 24 = .ok (.getfield 62, 3) := by decide +kernel
theorem dX9_readsDrum_27 : decode cX9_readsDrum 27 = .ok (.aload_n 0, 1) := by decide +kernel
theorem dX9_readsDrum_28 : decode cX9_readsDrum 28 = .ok (.getfield 136, 3) := by decide +kernel
theorem dX9_readsDrum_31 : decode cX9_readsDrum 31 = .ok (.iastore, 1) := by decide +kernel
theorem dX9_readsDrum_32 : decode cX9_readsDrum 32 = .ok (.aload_n 0, 1) := by decide +kernel
theorem dX9_readsDrum_33 : decode cX9_readsDrum 33 = .ok (.dup, 1) := by decide +kernel
theorem dX9_readsDrum_34 : decode cX9_readsDrum 34 = .ok (.getfield 62, 3) := by decide +kernel
theorem dX9_readsDrum_37 : decode cX9_readsDrum 37 = .ok (.iconst 1, 1) := by decide +kernel
theorem dX9_readsDrum_38 : decode cX9_readsDrum 38 = .ok (.iadd, 1) := by decide +kernel
theorem dX9_readsDrum_39 : decode cX9_readsDrum 39 = .ok (.putfield 62, 3) := by decide +kernel
theorem dX9_readsDrum_42 : decode cX9_readsDrum 42 = .ok (.iconst 1, 1) := by decide +kernel
theorem dX9_readsDrum_43 : decode cX9_readsDrum 43 = .ok (.ireturn, 1) := by decide +kernel
theorem dX9_readsOther_0 : decode cX9_readsOther 0 = .ok (.aload_n 0, 1) := by decide +kernel
theorem dX9_readsOther_1 : decode cX9_readsOther 1 = .ok (.iconst 0, 1) := by decide +kernel
theorem dX9_readsOther_2 : decode cX9_readsOther 2 = .ok (.aload_n 0, 1) := by decide +kernel
theorem dX9_readsOther_3 : decode cX9_readsOther 3 = .ok (.getfield 62, 3) := by decide +kernel
theorem dX9_readsOther_6 : decode cX9_readsOther 6 = .ok (.iconst 1, 1) := by decide +kernel
theorem dX9_readsOther_7 : decode cX9_readsOther 7 = .ok (.isub, 1) := by decide +kernel
theorem dX9_readsOther_8 : decode cX9_readsOther 8 = .ok (.invokevirtual 143, 3) := by decide +kernel
theorem dX9_readsOther_11 : decode cX9_readsOther 11 = .ok (.ifCond .eq 12, 3) := by decide +kernel
theorem dX9_readsOther_14 : decode cX9_readsOther 14 = .ok (.aload_n 0, 1) := by decide +kernel
theorem dX9_readsOther_15 : decode cX9_readsOther 15 = .ok (.bipush 44, 2) := by decide +kernel
theorem dX9_readsOther_17 : decode cX9_readsOther 17 = .ok (.invokevirtual 147, 3) := by decide +kernel
theorem dX9_readsOther_20 : decode cX9_readsOther 20 = .ok (.ifCond .ne 5, 3) := by decide +kernel
theorem dX9_readsOther_23 : decode cX9_readsOther 23 = .ok (.iconst 0, 1) := by decide +kernel
theorem dX9_readsOther_24 : decode cX9_readsOther 24 = .ok (.ireturn, 1) := by decide +kernel
theorem dX9_readsOther_25 : decode cX9_readsOther 25 = .ok (.aload_n 0, 1) := by decide +kernel
theorem dX9_readsOther_26 : decode cX9_readsOther 26 = .ok (.getfield 136, 3) := by decide +kernel
theorem dX9_readsOther_29 : decode cX9_readsOther 29 = .ok (.istore_n 1, 1) := by decide +kernel
theorem dX9_readsOther_30 : decode cX9_readsOther 30 = .ok (.aload_n 0, 1) := by decide +kernel
theorem dX9_readsOther_31 : decode cX9_readsOther 31 = .ok (.iconst 0, 1) := by decide +kernel
theorem dX9_readsOther_32 : decode cX9_readsOther 32 = .ok (.aload_n 0, 1) := by decide +kernel
theorem dX9_readsOther_33 : decode cX9_readsOther 33 = .ok (.getfield 76, 3) := by decide +kernel
theorem dX9_readsOther_36 : decode cX9_readsOther 36 = .ok (.aload_n 0, 1) := by decide +kernel
theorem dX9_readsOther_37 : decode cX9_readsOther 37 = .ok (.getfield 79, 3) := by decide +kernel
theorem dX9_readsOther_40 : decode cX9_readsOther 40 = .ok (.imul, 1) := by decide +kernel
theorem dX9_readsOther_41 : decode cX9_readsOther 41 = .ok (.iconst 1, 1) := by decide +kernel
theorem dX9_readsOther_42 : decode cX9_readsOther 42 = .ok (.isub, 1) := by decide +kernel
theorem dX9_readsOther_43 : decode cX9_readsOther 43 = .ok (.invokevirtual 143, 3) := by decide +kernel
theorem dX9_readsOther_46 : decode cX9_readsOther 46 = .ok (.ifCond .eq 12, 3) := by decide +kernel
theorem dX9_readsOther_49 : decode cX9_readsOther 49 = .ok (.aload_n 0, 1) := by decide +kernel
theorem dX9_readsOther_50 : decode cX9_readsOther 50 = .ok (.bipush 44, 2) := by decide +kernel
theorem dX9_readsOther_52 : decode cX9_readsOther 52 = .ok (.invokevirtual 147, 3) := by decide +kernel
theorem dX9_readsOther_55 : decode cX9_readsOther 55 = .ok (.ifCond .ne 5, 3) := by decide +kernel
theorem dX9_readsOther_58 : decode cX9_readsOther 58 = .ok (.iconst 0, 1) := by decide +kernel
theorem dX9_readsOther_59 : decode cX9_readsOther 59 = .ok (.ireturn, 1) := by decide +kernel
theorem dX9_readsOther_60 : decode cX9_readsOther 60 = .ok (.aload_n 0, 1) := by decide +kernel
theorem dX9_readsOther_61 : decode cX9_readsOther 61 = .ok (.getfield 136, 3) := by decide +kernel
theorem dX9_readsOther_64 : decode cX9_readsOther 64 = .ok (.istore_n 2, 1) := by decide +kernel
theorem dX9_readsOther_65 : decode cX9_readsOther 65 = .ok (.aload_n 0, 1) := by decide +kernel
theorem dX9_readsOther_66 : decode cX9_readsOther 66 = .ok (.iconst 0, 1) := by decide +kernel
theorem dX9_readsOther_67 : decode cX9_readsOther 67 = .ok (.iconst 3, 1) := by decide +kernel
theorem dX9_readsOther_68 : decode cX9_readsOther 68 = .ok (.invokevirtual 143, 3) := by decide +kernel
theorem dX9_readsOther_71 : decode cX9_readsOther 71 = .ok (.ifCond .ne 5, 3) := by decide +kernel
theorem dX9_readsOther_74 : decode cX9_readsOther 74 = .ok (.iconst 0, 1) := by decide +kernel
theorem dX9_readsOther_75 : decode cX9_readsOther 75 = .ok (.ireturn, 1) := by decide +kernel
theorem dX9_readsOther_76 : decode cX9_readsOther 76 = .ok (.aload_n 0, 1) := by decide +kernel
theorem dX9_readsOther_77 : decode cX9_readsOther 77 = .ok (.getfield 40, 3) := by decide +kernel
theorem dX9_readsOther_80 : decode cX9_readsOther 80 = .ok (.bipush 36, 2) := by decide +kernel
theorem dX9_readsOther_82 : decode cX9_readsOther 82 = .ok (.iload_n 1, 1) := by decide +kernel
theorem dX9_readsOther_83 : decode cX9_readsOther 83 = .ok (.imul, 1) := by decide +kernel
theorem dX9_readsOther_84 : decode cX9_readsOther 84 = .ok (.iload_n 2, 1) := by decide +kernel
theorem dX9_readsOther_85 : decode cX9_readsOther 85 = .ok (.iadd, 1) := by decide +kernel
theorem dX9_readsOther_86 : decode cX9_readsOther 86 = .ok (.aload_n 0, 1) := by decide +kernel
theorem dX9_readsOther_87 : decode cX9_readsOther 87 = .ok (.getfield 136, 3) := by decide +kernel
theorem dX9_readsOther_90 : decode cX9_readsOther 90 = .ok (.iastore, 1) := by decide +kernel
theorem dX9_readsOther_91 : decode cX9_readsOther 91 = .ok (.iconst 1, 1) := by decide +kernel
theorem dX9_readsOther_92 : decode cX9_readsOther 92 = .ok (.ireturn, 1) := by decide +kernel
theorem dX9_readsTraveller_0 : decode cX9_readsTraveller 0 = .ok (.aload_n 0, 1) := by decide +kernel
theorem dX9_readsTraveller_1 : decode cX9_readsTraveller 1 = .ok (.getfield 82, 3) := by decide +kernel
theorem dX9_readsTraveller_4 : decode cX9_readsTraveller 4 = .ok (.iconst 4, 1) := by decide +kernel
theorem dX9_readsTraveller_5 : decode cX9_readsTraveller 5 = .ok (.if_icmp .eq 31, 3) := by decide +kernel
theorem dX9_readsTraveller_8 : decode cX9_readsTraveller 8 = .ok (.aload_n 0, 1) := by decide +kernel
theorem dX9_readsTraveller_9 : decode cX9_readsTraveller 9 = .ok (.iconst 0, 1) := by decide +kernel
theorem dX9_readsTraveller_10 : decode cX9_readsTraveller 10 = .ok (.aload_n 0, 1) := by decide +kernel
theorem dX9_readsTraveller_11 : decode cX9_readsTraveller 11 = .ok (.getfield 76, 3) := by decide +kernel
theorem dX9_readsTraveller_14 : decode cX9_readsTraveller 14 = .ok (.aload_n 0, 1) := by decide +kernel
theorem dX9_readsTraveller_15 : decode cX9_readsTraveller 15 = .ok (.getfield 79, 3) := by decide +kernel
theorem dX9_readsTraveller_18 : decode cX9_readsTraveller 18 = .ok (.imul, 1) := by decide +kernel
theorem dX9_readsTraveller_19 : decode cX9_readsTraveller 19 = .ok (.iconst 1, 1) := by decide +kernel
theorem dX9_readsTraveller_20 : decode cX9_readsTraveller 20 = .ok (.isub, 1) := by decide +kernel
theorem dX9_readsTraveller_21 : decode cX9_readsTraveller 21 = .ok (.invokevirtual 143, 3) := by decide +kernel
theorem dX9_readsTraveller_24 : decode cX9_readsTraveller 24 = .ok (.ifCond .eq 12, 3) := by decide +kernel
theorem dX9_readsTraveller_27 : decode cX9_readsTraveller 27 = .ok (.aload_n 0, 1) := by decide +kernel
theorem dX9_readsTraveller_28 : decode cX9_readsTraveller 28 = .ok (.bipush 44, 2) := by decide +kernel
theorem dX9_readsTraveller_30 : decode cX9_readsTraveller 30 = .ok (.invokevirtual 147, 3) := by decide +kernel
theorem dX9_readsTraveller_33 : decode cX9_readsTraveller 33 = .ok (.ifCond .ne 5, 3) := by decide +kernel
theorem dX9_readsTraveller_36 : decode cX9_readsTraveller 36 = .ok (.iconst 0, 1) := by decide +kernel
theorem dX9_readsTraveller_37 : decode cX9_readsTraveller 37 = .ok (.ireturn, 1) := by decide +kernel
theorem dX9_readsTraveller_38 : decode cX9_readsTraveller 38 = .ok (.aload_n 0, 1) := by decide +kernel
theorem dX9_readsTraveller_39 : decode cX9_readsTraveller 39 = .ok (.getfield 136, 3) := by decide +kernel
theorem dX9_readsTraveller_42 : decode cX9_readsTraveller 42 = .ok (.istore_n 1, 1) := by decide +kernel
theorem dX9_readsTraveller_43 : decode cX9_readsTraveller 43 = .ok (.aload_n 0, 1) := by decide +kernel
theorem dX9_readsTraveller_44 : decode cX9_readsTraveller 44 = .ok (.iconst 0, 1) := by decide +kernel
theorem dX9_readsTraveller_45 : decode cX9_readsTraveller 45 = .ok (.aload_n 0, 1) := by decide +kernel
theorem dX9_readsTraveller_46 : decode cX9_readsTraveller 46 = .ok (.getfield 76, 3) := by decide +kernel
theorem dX9_readsTraveller_49 : decode cX9_readsTraveller 49 = .ok (.aload_n 0, 1) := by decide +kernel
theorem dX9_readsTraveller_50 : decode cX9_readsTraveller 50 = .ok (.getfield 79, 3) := by decide +kernel
theorem dX9_readsTraveller_53 : decode cX9_readsTraveller 53 = .ok (.imul, 1) := by decide +kernel
theorem dX9_readsTraveller_54 : decode cX9_readsTraveller 54 = .ok (.iconst 1, 1) := by decide +kernel
theorem dX9_readsTraveller_55 : decode cX9_readsTraveller 55 = .ok (.isub, 1) := by decide +kernel
theorem dX9_readsTraveller_56 : decode cX9_readsTraveller 56 = .ok (.invokevirtual 143, 3) := by decide +kernel
theorem dX9_readsTraveller_59 : decode cX9_readsTraveller 59 = .ok (.ifCond .eq 12, 3) := by decide +kernel
theorem dX9_readsTraveller_62 : decode cX9_readsTraveller 62 = .ok (.aload_n 0, 1) := by decide +kernel
theorem dX9_readsTraveller_63 : decode cX9_readsTraveller 63 = .ok (.bipush 44, 2) := by decide +kernel
theorem dX9_readsTraveller_65 : decode cX9_readsTraveller 65 = .ok (.invokevirtual 147, 3) := by decide +kernel
theorem dX9_readsTraveller_68 : decode cX9_readsTraveller 68 = .ok (.ifCond .ne 5, 3) := by decide +kernel
theorem dX9_readsTraveller_71 : decode cX9_readsTraveller 71 = .ok (.iconst 0, 1) := by decide +kernel
theorem dX9_readsTraveller_72 : decode cX9_readsTraveller 72 = .ok (.ireturn, 1) := by decide +kernel
theorem dX9_readsTraveller_73 : decode cX9_readsTraveller 73 = .ok (.aload_n 0, 1) := by decide +kernel
theorem dX9_readsTraveller_74 : decode cX9_readsTraveller 74 = .ok (.getfield 136, 3) := by decide +kernel
theorem dX9_readsTraveller_77 : decode cX9_readsTraveller 77 = .ok (.istore_n 2, 1) := by decide +kernel
theorem dX9_readsTraveller_78 : decode cX9_readsTraveller 78 = .ok (.aload_n 0, 1) := by decide +kernel
theorem dX9_readsTraveller_79 : decode cX9_readsTraveller 79 = .ok (.iconst 0, 1) := by decide +kernel
theorem dX9_readsTraveller_80 : decode cX9_readsTraveller 80 = .ok (.aload_n 0, 1) := by decide +kernel
theorem dX9_readsTraveller_81 : decode cX9_readsTraveller 81 = .ok (.getfield 62, 3) := by decide +kernel
theorem dX9_readsTraveller_84 : decode cX9_readsTraveller 84 = .ok (.iconst 1, 1) := by decide +kernel
theorem dX9_readsTraveller_85 : decode cX9_readsTraveller 85 = .ok (.isub, 1) := by decide +kernel
theorem dX9_readsTraveller_86 : decode cX9_readsTraveller 86 = .ok (.invokevirtual 143, 3) := by decide +kernel
theorem dX9_readsTraveller_89 : decode cX9_readsTraveller 89 = .ok (.ifCond .ne 5, 3) := by decide +kernel
theorem dX9_readsTraveller_92 : decode cX9_readsTraveller 92 = .ok (.iconst 0, 1) := by decide +kernel
theorem dX9_readsTraveller_93 : decode cX9_readsTraveller 93 = .ok (.ireturn, 1) := by decide +kernel
theorem dX9_readsTraveller_94 : decode cX9_readsTraveller 94 = .ok (.aload_n 0, 1) := by decide +kernel
theorem dX9_readsTraveller_95 : decode cX9_readsTraveller 95 = .ok (.iload_n 1, 1) := by decide +kernel
theorem dX9_readsTraveller_96 : decode cX9_readsTraveller 96 = .ok (.iload_n 2, 1) := by decide +kernel
theorem dX9_readsTraveller_97 : decode cX9_readsTraveller 97 = .ok (.aload_n 0, 1) := by decide +kernel
theorem dX9_readsTraveller_98 : decode cX9_readsTraveller 98 = .ok (.getfield 136, 3) := by decide +kernel
theorem dX9_readsTraveller_101 : decode cX9_readsTraveller 101 = .ok (.invokevirtual 66, 3) := by decide +kernel
theorem dX9_readsTraveller_104 : decode cX9_readsTraveller 104 = .ok (.iconst 1, 1) := by decide +kernel
theorem dX9_readsTraveller_105 : decode cX9_readsTraveller 105 = .ok (.ireturn, 1) := by decide +kernel
theorem dX9_readsWet_0 : decode cX9_readsWet 0 = .ok (.aload_n 0, 1) := by decide +kernel
theorem dX9_readsWet_1 : decode cX9_readsWet 1 = .ok (.iconst 0, 1) := by decide +kernel
theorem dX9_readsWet_2 : decode cX9_readsWet 2 = .ok (.iconst 3, 1) := by decide +kernel
theorem dX9_readsWet_3 : decode cX9_readsWet 3 = .ok (.invokevirtual 143, 3) := by decide +kernel
theorem dX9_readsWet_6 : decode cX9_readsWet 6 = .ok (.ifCond .ne 5, 3) := by decide +kernel
theorem dX9_readsWet_9 : decode cX9_readsWet 9 = .ok (.iconst 0, 1) := by decide +kernel
theorem dX9_readsWet_10 : decode cX9_readsWet 10 = .ok (.ireturn, 1) := by decide +kernel
theorem dX9_readsWet_11 : decode cX9_readsWet 11 = .ok (.aload_n 0, 1) := by decide +kernel
theorem dX9_readsWet_12 : decode cX9_readsWet 12 = .ok (.aload_n 0, 1) := by decide +kernel
theorem dX9_readsWet_13 : decode cX9_readsWet 13 = .ok (.getfield 136, 3) := by decide +kernel
theorem dX9_readsWet_16 : decode cX9_readsWet 16 = .ok (.putfield 70, 3) := by decide +kernel
theorem dX9_readsWet_19 : decode cX9_readsWet 19 = .ok (.iconst 1, 1) := by decide +kernel
theorem dX9_readsWet_20 : decode cX9_readsWet 20 = .ok (.ireturn, 1) := by decide +kernel
theorem dX9_readsItem_0 : decode cX9_readsItem 0 = .ok (.aload_n 0, 1) := by decide +kernel
theorem dX9_readsItem_1 : decode cX9_readsItem 1 = .ok (.invokevirtual 124, 3) := by decide +kernel
theorem dX9_readsItem_4 : decode cX9_readsItem 4 = .ok (.istore_n 1, 1) := by decide +kernel
theorem dX9_readsItem_5 : decode cX9_readsItem 5 = .ok (.aload_n 0, 1) := by decide +kernel
theorem dX9_readsItem_6 : decode cX9_readsItem 6 = .ok (.dup, 1) := by decide +kernel
theorem dX9_readsItem_7 : decode cX9_readsItem 7 = .ok (.getfield 121, 3) := by decide +kernel
theorem dX9_readsItem_10 : decode cX9_readsItem 10 = .ok (.iconst 1, 1) := by decide +kernel
theorem dX9_readsItem_11 : decode cX9_readsItem 11 = .ok (.iadd, 1) := by decide +kernel
theorem dX9_readsItem_12 : decode cX9_readsItem 12 = .ok (.putfield 121, 3) := by decide +kernel
theorem dX9_readsItem_15 : decode cX9_readsItem 15 = .ok (.iload_n 1, 1) := by decide +kernel
theorem dX9_readsItem_16 : decode cX9_readsItem 16 = .ok (.lookupswitch 77 #[(100, 57), (114, 52), (116, 67), (119, 72), (120, 62)], 52) := by decide +kernel
theorem dX9_readsItem_68 : decode cX9_readsItem 68 = .ok (.aload_n 0, 1) := by decide +kernel
theorem dX9_readsItem_69 : decode cX9_readsItem 69 = .ok (.invokevirtual 150, 3) := by decide +kernel
theorem dX9_readsItem_72 : decode cX9_readsItem 72 = .ok (.ireturn, 1) := by decide +kernel
theorem dX9_readsItem_73 : decode cX9_readsItem 73 = .ok (.aload_n 0, 1) := by decide +kernel
theorem dX9_readsItem_74 : decode cX9_readsItem 74 = .ok (.invokevirtual 154, 3) := by decide +kernel
theorem dX9_readsItem_77 : decode cX9_readsItem 77 = .ok (.ireturn, 1) := by decide +kernel
theorem dX9_readsItem_78 : decode cX9_readsItem 78 = .ok (.aload_n 0, 1) := by decide +kernel
theorem dX9_readsItem_79 : decode cX9_readsItem 79 = .ok (.invokevirtual 157, 3) := by decide +kernel
theorem dX9_readsItem_82 : decode cX9_readsItem 82 = .ok (.ireturn, 1) := by decide +kernel
theorem dX9_readsItem_83 : decode cX9_readsItem 83 = .ok (.aload_n 0, 1) := by decide +kernel
theorem dX9_readsItem_84 : decode cX9_readsItem 84 = .ok (.invokevirtual 160, 3) := by decide +kernel
theorem dX9_readsItem_87 : decode cX9_readsItem 87 = .ok (.ireturn, 1) := by decide +kernel
theorem dX9_readsItem_88 : decode cX9_readsItem 88 = .ok (.aload_n 0, 1) := by decide +kernel
theorem dX9_readsItem_89 : decode cX9_readsItem 89 = .ok (.invokevirtual 163, 3) := by decide +kernel
theorem dX9_readsItem_92 : decode cX9_readsItem 92 = .ok (.ireturn, 1) := by decide +kernel
theorem dX9_readsItem_93 : decode cX9_readsItem 93 = .ok (.iconst 0, 1) := by decide +kernel
theorem dX9_readsItem_94 : decode cX9_readsItem 94 = .ok (.ireturn, 1) := by decide +kernel
theorem dX9_reads_0 : decode cX9_reads 0 = .ok (.aload_n 0, 1) := by decide +kernel
theorem dX9_reads_1 : decode cX9_reads 1 = .ok (.invokevirtual 55, 3) := by decide +kernel
theorem dX9_reads_4 : decode cX9_reads 4 = .ok (.aload_n 0, 1) := by decide +kernel
theorem dX9_reads_5 : decode cX9_reads 5 = .ok (.iconst 0, 1) := by decide +kernel
theorem dX9_reads_6 : decode cX9_reads 6 = .ok (.putfield 121, 3) := by decide +kernel
theorem dX9_reads_9 : decode cX9_reads 9 = .ok (.aload_n 0, 1) := by decide +kernel
theorem dX9_reads_10 : decode cX9_reads 10 = .ok (.getfield 121, 3) := by decide +kernel
theorem dX9_reads_13 : decode cX9_reads 13 = .ok (.aload_n 0, 1) := by decide +kernel
theorem dX9_reads_14 : decode cX9_reads 14 = .ok (.getfield 118, 3) := by decide +kernel
theorem dX9_reads_17 : decode cX9_reads 17 = .ok (.if_icmp .ge 29, 3) := by decide +kernel
theorem dX9_reads_20 : decode cX9_reads 20 = .ok (.aload_n 0, 1) := by decide +kernel
theorem dX9_reads_21 : decode cX9_reads 21 = .ok (.getfield 121, 3) := by decide +kernel
theorem dX9_reads_24 : decode cX9_reads 24 = .ok (.istore_n 1, 1) := by decide +kernel
theorem dX9_reads_25 : decode cX9_reads 25 = .ok (.aload_n 0, 1) := by decide +kernel
theorem dX9_reads_26 : decode cX9_reads 26 = .ok (.invokevirtual 166, 3) := by decide +kernel
theorem dX9_reads_29 : decode cX9_reads 29 = .ok (.ifCond .eq 12, 3) := by decide +kernel
theorem dX9_reads_32 : decode cX9_reads 32 = .ok (.aload_n 0, 1) := by decide +kernel
theorem dX9_reads_33 : decode cX9_reads 33 = .ok (.bipush 59, 2) := by decide +kernel
theorem dX9_reads_35 : decode cX9_reads 35 = .ok (.invokevirtual 147, 3) := by decide +kernel
theorem dX9_reads_38 : decode cX9_reads 38 = .ok (.ifCond .ne 5, 3) := by decide +kernel
theorem dX9_reads_41 : decode cX9_reads 41 = .ok (.iload_n 1, 1) := by decide +kernel
theorem dX9_reads_42 : decode cX9_reads 42 = .ok (.ireturn, 1) := by decide +kernel
theorem dX9_reads_43 : decode cX9_reads 43 = .ok (.goto (-34), 3) := by decide +kernel
theorem dX9_reads_46 : decode cX9_reads 46 = .ok (.bipush (-4), 2) := by decide +kernel
theorem dX9_reads_48 : decode cX9_reads 48 = .ok (.ireturn, 1) := by decide +kernel
theorem dX9_fault_0 : decode cX9_fault 0 = .ok (.aload_n 0, 1) := by decide +kernel
theorem dX9_fault_1 : decode cX9_fault 1 = .ok (.invokevirtual 169, 3) := by decide +kernel
theorem dX9_fault_4 : decode cX9_fault 4 = .ok (.ireturn, 1) := by decide +kernel
theorem dX9_lay_0 : decode cX9_lay 0 = .ok (.aload_n 0, 1) := by decide +kernel
theorem dX9_lay_1 : decode cX9_lay 1 = .ok (.invokevirtual 169, 3) := by decide +kernel
theorem dX9_lay_4 : decode cX9_lay 4 = .ok (.bipush (-4), 2) := by decide +kernel
theorem dX9_lay_6 : decode cX9_lay 6 = .ok (.if_icmp .ne 17, 3) := by decide +kernel
theorem dX9_lay_9 : decode cX9_lay 9 = .ok (.aload_n 0, 1) := by decide +kernel
theorem dX9_lay_10 : decode cX9_lay 10 = .ok (.getfield 76, 3) := by decide +kernel
theorem dX9_lay_13 : decode cX9_lay 13 = .ok (.ifCond .eq 10, 3) := by decide +kernel
theorem dX9_lay_16 : decode cX9_lay 16 = .ok (.aload_n 0, 1) := by decide +kernel
theorem dX9_lay_17 : decode cX9_lay 17 = .ok (.getfield 62, 3) := by decide +kernel
theorem dX9_lay_20 : decode cX9_lay 20 = .ok (.ifCond .ne 6, 3) := by decide +kernel
theorem dX9_lay_23 : decode cX9_lay 23 = .ok (.bipush (-2), 2) := by decide +kernel
theorem dX9_lay_25 : decode cX9_lay 25 = .ok (.ireturn, 1) := by decide +kernel
theorem dX9_lay_26 : decode cX9_lay 26 = .ok (.aload_n 0, 1) := by decide +kernel
theorem dX9_lay_27 : decode cX9_lay 27 = .ok (.invokevirtual 73, 3) := by decide +kernel
theorem dX9_lay_30 : decode cX9_lay 30 = .ok (.aload_n 0, 1) := by decide +kernel
theorem dX9_lay_31 : decode cX9_lay 31 = .ok (.getfield 85, 3) := by decide +kernel
theorem dX9_lay_34 : decode cX9_lay 34 = .ok (.aload_n 0, 1) := by decide +kernel
theorem dX9_lay_35 : decode cX9_lay 35 = .ok (.getfield 88, 3) := by decide +kernel
theorem dX9_lay_38 : decode cX9_lay 38 = .ok (.imul, 1) := by decide +kernel
theorem dX9_lay_39 : decode cX9_lay 39 = .ok (.ireturn, 1) := by decide +kernel
theorem dX9_isPlace_0 : decode cX9_isPlace 0 = .ok (.iload_n 1, 1) := by decide +kernel
theorem dX9_isPlace_1 : decode cX9_isPlace 1 = .ok (.i2l, 1) := by decide +kernel
theorem dX9_isPlace_2 : decode cX9_isPlace 2 = .ok (.lconst 0, 1) := by decide +kernel
theorem dX9_isPlace_3 : decode cX9_isPlace 3 = .ok (.aload_n 0, 1) := by decide +kernel
theorem dX9_isPlace_4 : decode cX9_isPlace 4 = .ok (.getfield 85, 3) := by decide +kernel
theorem dX9_isPlace_7 : decode cX9_isPlace 7 = .ok (.aload_n 0, 1) := by decide +kernel
theorem dX9_isPlace_8 : decode cX9_isPlace 8 = .ok (.getfield 88, 3) := by decide +kernel
theorem dX9_isPlace_11 : decode cX9_isPlace 11 = .ok (.imul, 1) := by decide +kernel
theorem dX9_isPlace_12 : decode cX9_isPlace 12 = .ok (.iconst 1, 1) := by decide +kernel
theorem dX9_isPlace_13 : decode cX9_isPlace 13 = .ok (.isub, 1) := by decide +kernel
theorem dX9_isPlace_14 : decode cX9_isPlace 14 = .ok (.i2l, 1) := by decide +kernel
theorem dX9_isPlace_15 : decode cX9_isPlace 15 = .ok (.invokestatic 114, 3) := by decide +kernel
theorem dX9_isPlace_18 : decode cX9_isPlace 18 = .ok (.ireturn, 1) := by decide +kernel
theorem dX9_isDrum_0 : decode cX9_isDrum 0 = .ok (.iload_n 1, 1) := by decide +kernel
theorem dX9_isDrum_1 : decode cX9_isDrum 1 = .ok (.i2l, 1) := by decide +kernel
theorem dX9_isDrum_2 : decode cX9_isDrum 2 = .ok (.lconst 0, 1) := by decide +kernel
theorem dX9_isDrum_3 : decode cX9_isDrum 3 = .ok (.aload_n 0, 1) := by decide +kernel
theorem dX9_isDrum_4 : decode cX9_isDrum 4 = .ok (.getfield 91, 3) := by decide +kernel
theorem dX9_isDrum_7 : decode cX9_isDrum 7 = .ok (.iconst 1, 1) := by decide +kernel
theorem dX9_isDrum_8 : decode cX9_isDrum 8 = .ok (.isub, 1) := by decide +kernel
theorem dX9_isDrum_9 : decode cX9_isDrum 9 = .ok (.i2l, 1) := by decide +kernel
theorem dX9_isDrum_10 : decode cX9_isDrum 10 = .ok (.invokestatic 114, 3) := by decide +kernel
theorem dX9_isDrum_13 : decode cX9_isDrum 13 = .ok (.ireturn, 1) := by decide +kernel
theorem dX9_isTraveller_0 : decode cX9_isTraveller 0 = .ok (.iload_n 1, 1) := by decide +kernel
theorem dX9_isTraveller_1 : decode cX9_isTraveller 1 = .ok (.i2l, 1) := by decide +kernel
theorem dX9_isTraveller_2 : decode cX9_isTraveller 2 = .ok (.lconst 0, 1) := by decide +kernel
theorem dX9_isTraveller_3 : decode cX9_isTraveller 3 = .ok (.aload_n 0, 1) := by decide +kernel
theorem dX9_isTraveller_4 : decode cX9_isTraveller 4 = .ok (.getfield 94, 3) := by decide +kernel
theorem dX9_isTraveller_7 : decode cX9_isTraveller 7 = .ok (.iconst 1, 1) := by decide +kernel
theorem dX9_isTraveller_8 : decode cX9_isTraveller 8 = .ok (.isub, 1) := by decide +kernel
theorem dX9_isTraveller_9 : decode cX9_isTraveller 9 = .ok (.i2l, 1) := by decide +kernel
theorem dX9_isTraveller_10 : decode cX9_isTraveller 10 = .ok (.invokestatic 114, 3) := by decide +kernel
theorem dX9_isTraveller_13 : decode cX9_isTraveller 13 = .ok (.ireturn, 1) := by decide +kernel
theorem dX9_tells_0 : decode cX9_tells 0 = .ok (.aload_n 0, 1) := by decide +kernel
theorem dX9_tells_1 : decode cX9_tells 1 = .ok (.iconst 2, 1) := by decide +kernel
theorem dX9_tells_2 : decode cX9_tells 2 = .ok (.bipush 36, 2) := by decide +kernel
theorem dX9_tells_4 : decode cX9_tells 4 = .ok (.iload_n 1, 1) := by decide +kernel
theorem dX9_tells_5 : decode cX9_tells 5 = .ok (.imul, 1) := by decide +kernel
theorem dX9_tells_6 : decode cX9_tells 6 = .ok (.iadd, 1) := by decide +kernel
theorem dX9_tells_7 : decode cX9_tells 7 = .ok (.iload_n 2, 1) := by decide +kernel
theorem dX9_tells_8 : decode cX9_tells 8 = .ok (.iadd, 1) := by decide +kernel
theorem dX9_tells_9 : decode cX9_tells 9 = .ok (.iaload, 1) := by decide +kernel
theorem dX9_tells_10 : decode cX9_tells 10 = .ok (.ireturn, 1) := by decide +kernel
theorem dX9_taken_0 : decode cX9_taken 0 = .ok (.iload_n 2, 1) := by decide +kernel
theorem dX9_taken_1 : decode cX9_taken 1 = .ok (.ifCond .ge 10, 3) := by decide +kernel
theorem dX9_taken_4 : decode cX9_taken 4 = .ok (.aload_n 0, 1) := by decide +kernel
theorem dX9_taken_5 : decode cX9_taken 5 = .ok (.getfield 7, 3) := by decide +kernel
theorem dX9_taken_8 : decode cX9_taken 8 = .ok (.iload_n 3, 1) := by decide +kernel
theorem dX9_taken_9 : decode cX9_taken 9 = .ok (.iaload, 1) := by decide +kernel
theorem dX9_taken_10 : decode cX9_taken 10 = .ok (.ireturn, 1) := by decide +kernel
theorem dX9_taken_11 : decode cX9_taken 11 = .ok (.aload_n 1, 1) := by decide +kernel
theorem dX9_taken_12 : decode cX9_taken 12 = .ok (.iload_n 2, 1) := by decide +kernel
theorem dX9_taken_13 : decode cX9_taken 13 = .ok (.iload_n 3, 1) := by decide +kernel
theorem dX9_taken_14 : decode cX9_taken 14 = .ok (.invokestatic 172, 3) := by decide +kernel
theorem dX9_taken_17 : decode cX9_taken 17 = .ok (.istore 4, 2) := by decide +kernel
theorem dX9_taken_19 : decode cX9_taken 19 = .ok (.aload_n 0, 1) := by decide +kernel
theorem dX9_taken_20 : decode cX9_taken 20 = .ok (.getfield 13, 3) := by decide +kernel
theorem dX9_taken_23 : decode cX9_taken 23 = .ok (.iload_n 2, 1) := by decide +kernel
theorem dX9_taken_24 : decode cX9_taken 24 = .ok (.iaload, 1) := by decide +kernel
theorem dX9_taken_25 : decode cX9_taken 25 = .ok (.ifCond .le 18, 3) := by decide +kernel
theorem dX9_taken_28 : decode cX9_taken 28 = .ok (.aload_n 0, 1) := by decide +kernel
theorem dX9_taken_29 : decode cX9_taken 29 = .ok (.getfield 13, 3) := by decide +kernel
theorem dX9_taken_32 : decode cX9_taken 32 = .ok (.iload_n 2, 1) := by decide +kernel
theorem dX9_taken_33 : decode cX9_taken 33 = .ok (.iaload, 1) := by decide +kernel
theorem dX9_taken_34 : decode cX9_taken 34 = .ok (.iload 4, 2) := by decide +kernel
theorem dX9_taken_36 : decode cX9_taken 36 = .ok (.if_icmp .ne 7, 3) := by decide +kernel
theorem dX9_taken_39 : decode cX9_taken 39 = .ok (.iconst 0, 1) := by decide +kernel
theorem dX9_taken_40 : decode cX9_taken 40 = .ok (.goto 5, 3) := by decide +kernel
theorem dX9_taken_43 : decode cX9_taken 43 = .ok (.iload 4, 2) := by decide +kernel
theorem dX9_taken_45 : decode cX9_taken 45 = .ok (.ireturn, 1) := by decide +kernel
theorem dX9_hoursFor_0 : decode cX9_hoursFor 0 = .ok (.iload_n 0, 1) := by decide +kernel
theorem dX9_hoursFor_1 : decode cX9_hoursFor 1 = .ok (.iconst 2, 1) := by decide +kernel
theorem dX9_hoursFor_2 : decode cX9_hoursFor 2 = .ok (.if_icmp .ne 7, 3) := by decide +kernel
theorem dX9_hoursFor_5 : decode cX9_hoursFor 5 = .ok (.iconst 3, 1) := by decide +kernel
theorem dX9_hoursFor_6 : decode cX9_hoursFor 6 = .ok (.goto 13, 3) := by decide +kernel
theorem dX9_hoursFor_9 : decode cX9_hoursFor 9 = .ok (.iload_n 0, 1) := by decide +kernel
theorem dX9_hoursFor_10 : decode cX9_hoursFor 10 = .ok (.iconst 1, 1) := by decide +kernel
theorem dX9_hoursFor_11 : decode cX9_hoursFor 11 = .ok (.if_icmp .ne 7, 3) := by decide +kernel
theorem dX9_hoursFor_14 : decode cX9_hoursFor 14 = .ok (.iconst 2, 1) := by decide +kernel
theorem dX9_hoursFor_15 : decode cX9_hoursFor 15 = .ok (.goto 4, 3) := by decide +kernel
theorem dX9_hoursFor_18 : decode cX9_hoursFor 18 = .ok (.iconst 1, 1) := by decide +kernel
theorem dX9_hoursFor_19 : decode cX9_hoursFor 19 = .ok (.istore_n 2, 1) := by decide +kernel
theorem dX9_hoursFor_20 : decode cX9_hoursFor 20 = .ok (.iload_n 1, 1) := by decide +kernel
theorem dX9_hoursFor_21 : decode cX9_hoursFor 21 = .ok (.iconst 2, 1) := by decide +kernel
theorem dX9_hoursFor_22 : decode cX9_hoursFor 22 = .ok (.if_icmp .ge 7, 3) := by decide +kernel
theorem dX9_hoursFor_25 : decode cX9_hoursFor 25 = .ok (.iload_n 2, 1) := by decide +kernel
theorem dX9_hoursFor_26 : decode cX9_hoursFor 26 = .ok (.goto 16, 3) := by decide +kernel
theorem dX9_hoursFor_29 : decode cX9_hoursFor 29 = .ok (.iload_n 0, 1) := by decide +kernel
theorem dX9_hoursFor_30 : decode cX9_hoursFor 30 = .ok (.iconst 3, 1) := by decide +kernel
theorem dX9_hoursFor_31 : decode cX9_hoursFor 31 = .ok (.if_icmp .ne 8, 3) := by decide +kernel
theorem dX9_hoursFor_34 : decode cX9_hoursFor 34 = .ok (.ldc 176, 2) := by decide +kernel
theorem dX9_hoursFor_36 : decode cX9_hoursFor 36 = .ok (.goto 6, 3) := by decide +kernel
theorem dX9_hoursFor_39 : decode cX9_hoursFor 39 = .ok (.iload_n 2, 1) := by decide +kernel
theorem dX9_hoursFor_40 : decode cX9_hoursFor 40 = .ok (.iconst 1, 1) := by decide +kernel
theorem dX9_hoursFor_41 : decode cX9_hoursFor 41 = .ok (.iadd, 1) := by decide +kernel
theorem dX9_hoursFor_42 : decode cX9_hoursFor 42 = .ok (.ireturn, 1) := by decide +kernel
theorem dX9_beside_0 : decode cX9_beside 0 = .ok (.iload_n 2, 1) := by decide +kernel
theorem dX9_beside_1 : decode cX9_beside 1 = .ok (.ifCond .ne 23, 3) := by decide +kernel
theorem dX9_beside_4 : decode cX9_beside 4 = .ok (.iload_n 1, 1) := by decide +kernel
theorem dX9_beside_5 : decode cX9_beside 5 = .ok (.aload_n 0, 1) := by decide +kernel
theorem dX9_beside_6 : decode cX9_beside 6 = .ok (.getfield 88, 3) := by decide +kernel
theorem dX9_beside_9 : decode cX9_beside 9 = .ok (.if_icmp .ge 8, 3) := by decide +kernel
theorem dX9_beside_12 : decode cX9_beside 12 = .ok (.bipush (-4), 2) := by decide +kernel
theorem dX9_beside_14 : decode cX9_beside 14 = .ok (.goto 9, 3) := by decide +kernel
theorem dX9_beside_17 : decode cX9_beside 17 = .ok (.iload_n 1, 1) := by decide +kernel
theorem dX9_beside_18 : decode cX9_beside 18 = .ok (.aload_n 0, 1) := by decide +kernel
theorem dX9_beside_19 : decode cX9_beside 19 = .ok (.getfield 88, 3) := by decide +kernel
theorem dX9_beside_22 : decode cX9_beside 22 = .ok (.isub, 1) := by decide +kernel
theorem dX9_beside_23 : decode cX9_beside 23 = .ok (.ireturn, 1) := by decide +kernel
theorem dX9_beside_24 : decode cX9_beside 24 = .ok (.iload_n 2, 1) := by decide +kernel
theorem dX9_beside_25 : decode cX9_beside 25 = .ok (.iconst 1, 1) := by decide +kernel
theorem dX9_beside_26 : decode cX9_beside 26 = .ok (.if_icmp .ne 21, 3) := by decide +kernel
theorem dX9_beside_29 : decode cX9_beside 29 = .ok (.iload_n 1, 1) := by decide +kernel
theorem dX9_beside_30 : decode cX9_beside 30 = .ok (.aload_n 0, 1) := by decide +kernel
theorem dX9_beside_31 : decode cX9_beside 31 = .ok (.getfield 88, 3) := by decide +kernel
theorem dX9_beside_34 : decode cX9_beside 34 = .ok (.irem, 1) := by decide +kernel
theorem dX9_beside_35 : decode cX9_beside 35 = .ok (.ifCond .ne 8, 3) := by decide +kernel
theorem dX9_beside_38 : decode cX9_beside 38 = .ok (.bipush (-4), 2) := by decide +kernel
theorem dX9_beside_40 : decode cX9_beside 40 = .ok (.goto 6, 3) := by decide +kernel
theorem dX9_beside_43 : decode cX9_beside 43 = .ok (.iload_n 1, 1) := by decide +kernel
theorem dX9_beside_44 : decode cX9_beside 44 = .ok (.iconst 1, 1) := by decide +kernel
theorem dX9_beside_45 : decode cX9_beside 45 = .ok (.isub, 1) := by decide +kernel
theorem dX9_beside_46 : decode cX9_beside 46 = .ok (.ireturn, 1) := by decide +kernel
theorem dX9_beside_47 : decode cX9_beside 47 = .ok (.iload_n 2, 1) := by decide +kernel
theorem dX9_beside_48 : decode cX9_beside 48 = .ok (.iconst 2, 1) := by decide +kernel
theorem dX9_beside_49 : decode cX9_beside 49 = .ok (.if_icmp .ne 27, 3) := by decide +kernel
theorem dX9_beside_52 : decode cX9_beside 52 = .ok (.iload_n 1, 1) := by decide +kernel
theorem dX9_beside_53 : decode cX9_beside 53 = .ok (.aload_n 0, 1) := by decide +kernel
theorem dX9_beside_54 : decode cX9_beside 54 = .ok (.getfield 88, 3) := by decide +kernel
theorem dX9_beside_57 : decode cX9_beside 57 = .ok (.irem, 1) := by decide +kernel
theorem dX9_beside_58 : decode cX9_beside 58 = .ok (.aload_n 0, 1) := by decide +kernel
theorem dX9_beside_59 : decode cX9_beside 59 = .ok (.getfield 88, 3) := by decide +kernel
theorem dX9_beside_62 : decode cX9_beside 62 = .ok (.iconst 1, 1) := by decide +kernel
theorem dX9_beside_63 : decode cX9_beside 63 = .ok (.isub, 1) := by decide +kernel
theorem dX9_beside_64 : decode cX9_beside 64 = .ok (.if_icmp .ne 8, 3) := by decide +kernel
theorem dX9_beside_67 : decode cX9_beside 67 = .ok (.bipush (-4), 2) := by decide +kernel
theorem dX9_beside_69 : decode cX9_beside 69 = .ok (.goto 6, 3) := by decide +kernel
theorem dX9_beside_72 : decode cX9_beside 72 = .ok (.iload_n 1, 1) := by decide +kernel
theorem dX9_beside_73 : decode cX9_beside 73 = .ok (.iconst 1, 1) := by decide +kernel
theorem dX9_beside_74 : decode cX9_beside 74 = .ok (.iadd, 1) := by decide +kernel
theorem dX9_beside_75 : decode cX9_beside 75 = .ok (.ireturn, 1) := by decide +kernel
theorem dX9_beside_76 : decode cX9_beside 76 = .ok (.iload_n 1, 1) := by decide +kernel
theorem dX9_beside_77 : decode cX9_beside 77 = .ok (.aload_n 0, 1) := by decide +kernel
theorem dX9_beside_78 : decode cX9_beside 78 = .ok (.getfield 88, 3) := by decide +kernel
theorem dX9_beside_81 : decode cX9_beside 81 = .ok (.aload_n 0, 1) := by decide +kernel
theorem dX9_beside_82 : decode cX9_beside 82 = .ok (.getfield 85, 3) := by decide +kernel
theorem dX9_beside_85 : decode cX9_beside 85 = .ok (.iconst 1, 1) := by decide +kernel
theorem dX9_beside_86 : decode cX9_beside 86 = .ok (.isub, 1) := by decide +kernel
theorem dX9_beside_87 : decode cX9_beside 87 = .ok (.imul, 1) := by decide +kernel
theorem dX9_beside_88 : decode cX9_beside 88 = .ok (.if_icmp .lt 8, 3) := by decide +kernel
theorem dX9_beside_91 : decode cX9_beside 91 = .ok (.bipush (-4), 2) := by decide +kernel
theorem dX9_beside_93 : decode cX9_beside 93 = .ok (.goto 9, 3) := by decide +kernel
theorem dX9_beside_96 : decode cX9_beside 96 = .ok (.iload_n 1, 1) := by decide +kernel
theorem dX9_beside_97 : decode cX9_beside 97 = .ok (.aload_n 0, 1) := by decide +kernel
theorem dX9_beside_98 : decode cX9_beside 98 = .ok (.getfield 88, 3) := by decide +kernel
theorem dX9_beside_101 : decode cX9_beside 101 = .ok (.iadd, 1) := by decide +kernel
theorem dX9_beside_102 : decode cX9_beside 102 = .ok (.ireturn, 1) := by decide +kernel
theorem dX9_byWay_0 : decode cX9_byWay 0 = .ok (.aload_n 0, 1) := by decide +kernel
theorem dX9_byWay_1 : decode cX9_byWay 1 = .ok (.iload_n 3, 1) := by decide +kernel
theorem dX9_byWay_2 : decode cX9_byWay 2 = .ok (.iload 4, 2) := by decide +kernel
theorem dX9_byWay_4 : decode cX9_byWay 4 = .ok (.invokevirtual 177, 3) := by decide +kernel
theorem dX9_byWay_7 : decode cX9_byWay 7 = .ok (.istore 5, 2) := by decide +kernel
theorem dX9_byWay_9 : decode cX9_byWay 9 = .ok (.iload 5, 2) := by decide +kernel
theorem dX9_byWay_11 : decode cX9_byWay 11 = .ok (.bipush (-4), 2) := by decide +kernel
theorem dX9_byWay_13 : decode cX9_byWay 13 = .ok (.if_icmp .eq 15, 3) := by decide +kernel
theorem dX9_byWay_16 : decode cX9_byWay 16 = .ok (.aload_n 0, 1) := by decide +kernel
theorem dX9_byWay_17 : decode cX9_byWay 17 = .ok (.getfield 52, 3) := by decide +kernel
theorem dX9_byWay_20 : decode cX9_byWay 20 = .ok (.iload 5, 2) := by decide +kernel
theorem dX9_byWay_22 : decode cX9_byWay 22 = .ok (.iaload, 1) := by decide +kernel
theorem dX9_byWay_23 : decode cX9_byWay 23 = .ok (.ldc 176, 2) := by decide +kernel
theorem dX9_byWay_25 : decode cX9_byWay 25 = .ok (.if_icmp .lt 6, 3) := by decide +kernel
theorem dX9_byWay_28 : decode cX9_byWay 28 = .ok (.ldc 176, 2) := by decide +kernel
theorem dX9_byWay_30 : decode cX9_byWay 30 = .ok (.ireturn, 1) := by decide +kernel
theorem dX9_byWay_31 : decode cX9_byWay 31 = .ok (.aload_n 0, 1) := by decide +kernel
theorem dX9_byWay_32 : decode cX9_byWay 32 = .ok (.aload_n 1, 1) := by decide +kernel
theorem dX9_byWay_33 : decode cX9_byWay 33 = .ok (.iload_n 2, 1) := by decide +kernel
theorem dX9_byWay_34 : decode cX9_byWay 34 = .ok (.iload 5, 2) := by decide +kernel
theorem dX9_byWay_36 : decode cX9_byWay 36 = .ok (.invokevirtual 181, 3) := by decide +kernel
theorem dX9_byWay_39 : decode cX9_byWay 39 = .ok (.aload_n 1, 1) := by decide +kernel
theorem dX9_byWay_40 : decode cX9_byWay 40 = .ok (.iconst 0, 1) := by decide +kernel
theorem dX9_byWay_41 : decode cX9_byWay 41 = .ok (.iaload, 1) := by decide +kernel
theorem dX9_byWay_42 : decode cX9_byWay 42 = .ok (.invokestatic 184, 3) := by decide +kernel
theorem dX9_byWay_45 : decode cX9_byWay 45 = .ok (.istore 6, 2) := by decide +kernel
theorem dX9_byWay_47 : decode cX9_byWay 47 = .ok (.iload 6, 2) := by decide +kernel
theorem dX9_byWay_49 : decode cX9_byWay 49 = .ok (.ldc 176, 2) := by decide +kernel
theorem dX9_byWay_51 : decode cX9_byWay 51 = .ok (.if_icmp .lt 8, 3) := by decide +kernel
theorem dX9_byWay_54 : decode cX9_byWay 54 = .ok (.ldc 176, 2) := by decide +kernel
theorem dX9_byWay_56 : decode cX9_byWay 56 = .ok (.goto 13, 3) := by decide +kernel
theorem dX9_byWay_59 : decode cX9_byWay 59 = .ok (.iload 6, 2) := by decide +kernel
theorem dX9_byWay_61 : decode cX9_byWay 61 = .ok (.aload_n 0, 1) := by decide +kernel
theorem dX9_byWay_62 : decode cX9_byWay 62 = .ok (.getfield 52, 3) := by decide +kernel
theorem dX9_byWay_65 : decode cX9_byWay 65 = .ok (.iload 5, 2) := by decide +kernel
theorem dX9_byWay_67 : decode cX9_byWay 67 = .ok (.iaload, 1) := by decide +kernel
theorem dX9_byWay_68 : decode cX9_byWay 68 = .ok (.iadd, 1) := by decide +kernel
theorem dX9_byWay_69 : decode cX9_byWay 69 = .ok (.ireturn, 1) := by decide +kernel
theorem dX9_layAway_0 : decode cX9_layAway 0 = .ok (.iconst 0, 1) := by decide +kernel
theorem dX9_layAway_1 : decode cX9_layAway 1 = .ok (.istore 4, 2) := by decide +kernel
theorem dX9_layAway_3 : decode cX9_layAway 3 = .ok (.iload 4, 2) := by decide +kernel
theorem dX9_layAway_5 : decode cX9_layAway 5 = .ok (.bipush 36, 2) := by decide +kernel
theorem dX9_layAway_7 : decode cX9_layAway 7 = .ok (.if_icmp .ge 28, 3) := by decide +kernel
theorem dX9_layAway_10 : decode cX9_layAway 10 = .ok (.aload_n 0, 1) := by decide +kernel
theorem dX9_layAway_11 : decode cX9_layAway 11 = .ok (.getfield 52, 3) := by decide +kernel
theorem dX9_layAway_14 : decode cX9_layAway 14 = .ok (.iload 4, 2) := by decide +kernel
theorem dX9_layAway_16 : decode cX9_layAway 16 = .ok (.iload 4, 2) := by decide +kernel
theorem dX9_layAway_18 : decode cX9_layAway 18 = .ok (.iload_n 3, 1) := by decide +kernel
theorem dX9_layAway_19 : decode cX9_layAway 19 = .ok (.if_icmp .ne 7, 3) := by decide +kernel
theorem dX9_layAway_22 : decode cX9_layAway 22 = .ok (.iconst 0, 1) := by decide +kernel
theorem dX9_layAway_23 : decode cX9_layAway 23 = .ok (.goto 5, 3) := by decide +kernel
theorem dX9_layAway_26 : decode cX9_layAway 26 = .ok (.ldc 176, 2) := by decide +kernel
theorem dX9_layAway_28 : decode cX9_layAway 28 = .ok (.iastore, 1) := by decide +kernel
theorem dX9_layAway_29 : decode cX9_layAway 29 = .ok (.iinc 4 1, 3) := by decide +kernel
theorem dX9_layAway_32 : decode cX9_layAway 32 = .ok (.goto (-29), 3) := by decide +kernel
theorem dX9_layAway_35 : decode cX9_layAway 35 = .ok (.iconst 1, 1) := by decide +kernel
theorem dX9_layAway_36 : decode cX9_layAway 36 = .ok (.istore 4, 2) := by decide +kernel
theorem dX9_layAway_38 : decode cX9_layAway 38 = .ok (.iload 4, 2) := by decide +kernel
theorem dX9_layAway_40 : decode cX9_layAway 40 = .ok (.ifCond .eq 114, 3) := by decide +kernel
theorem dX9_layAway_43 : decode cX9_layAway 43 = .ok (.iconst 0, 1) := by decide +kernel
theorem dX9_layAway_44 : decode cX9_layAway 44 = .ok (.istore 4, 2) := by decide +kernel
theorem dX9_layAway_46 : decode cX9_layAway 46 = .ok (.iconst 0, 1) := by decide +kernel
theorem dX9_layAway_47 : decode cX9_layAway 47 = .ok (.istore 5, 2) := by decide +kernel
theorem dX9_layAway_49 : decode cX9_layAway 49 = .ok (.iload 5, 2) := by decide +kernel
theorem dX9_layAway_51 : decode cX9_layAway 51 = .ok (.aload_n 0, 1) := by decide +kernel
theorem dX9_layAway_52 : decode cX9_layAway 52 = .ok (.getfield 85, 3) := by decide +kernel
theorem dX9_layAway_55 : decode cX9_layAway 55 = .ok (.aload_n 0, 1) := by decide +kernel
theorem dX9_layAway_56 : decode cX9_layAway 56 = .ok (.getfield 88, 3) := by decide +kernel
theorem dX9_layAway_59 : decode cX9_layAway 59 = .ok (.imul, 1) := by decide +kernel
theorem dX9_layAway_60 : decode cX9_layAway 60 = .ok (.if_icmp .ge 91, 3) := by decide +kernel
theorem dX9_layAway_63 : decode cX9_layAway 63 = .ok (.iconst 0, 1) := by decide +kernel
theorem dX9_layAway_64 : decode cX9_layAway 64 = .ok (.istore 6, 2) := by decide +kernel
theorem dX9_layAway_66 : decode cX9_layAway 66 = .ok (.iload 6, 2) := by decide +kernel
theorem dX9_layAway_68 : decode cX9_layAway 68 = .ok (.iconst 4, 1) := by decide +kernel
theorem dX9_layAway_69 : decode cX9_layAway 69 = .ok (.if_icmp .ge 76, 3) := by decide +kernel
theorem dX9_layAway_72 : decode cX9_layAway 72 = .ok (.aload_n 0, 1) := by decide +kernel
theorem dX9_layAway_73 : decode cX9_layAway 73 = .ok (.aload_n 1, 1) := by decide +kernel
theorem dX9_layAway_74 : decode cX9_layAway 74 = .ok (.iload_n 2, 1) := by decide +kernel
theorem dX9_layAway_75 : decode cX9_layAway 75 = .ok (.iload 5, 2) := by decide +kernel
theorem dX9_layAway_77 : decode cX9_layAway 77 = .ok (.iload 6, 2) := by decide +kernel
theorem dX9_layAway_79 : decode cX9_layAway 79 = .ok (.invokevirtual 187, 3) := by decide +kernel
theorem dX9_layAway_82 : decode cX9_layAway 82 = .ok (.istore 7, 2) := by decide +kernel
theorem dX9_layAway_84 : decode cX9_layAway 84 = .ok (.iload 4, 2) := by decide +kernel
theorem dX9_layAway_86 : decode cX9_layAway 86 = .ok (.ifCond .ne 15, 3) := by decide +kernel
theorem dX9_layAway_89 : decode cX9_layAway 89 = .ok (.iload 7, 2) := by decide +kernel
theorem dX9_layAway_91 : decode cX9_layAway 91 = .ok (.aload_n 0, 1) := by decide +kernel
theorem dX9_layAway_92 : decode cX9_layAway 92 = .ok (.getfield 52, 3) := by decide +kernel
theorem dX9_layAway_95 : decode cX9_layAway 95 = .ok (.iload 5, 2) := by decide +kernel
theorem dX9_layAway_97 : decode cX9_layAway 97 = .ok (.iaload, 1) := by decide +kernel
theorem dX9_layAway_98 : decode cX9_layAway 98 = .ok (.if_icmp .ge 7, 3) := by decide +kernel
theorem dX9_layAway_101 : decode cX9_layAway 101 = .ok (.iconst 1, 1) := by decide +kernel
theorem dX9_layAway_102 : decode cX9_layAway 102 = .ok (.goto 4, 3) := by decide +kernel
theorem dX9_layAway_105 : decode cX9_layAway 105 = .ok (.iconst 0, 1) := by decide +kernel
theorem dX9_layAway_106 : decode cX9_layAway 106 = .ok (.istore 4, 2) := by decide +kernel
theorem dX9_layAway_108 : decode cX9_layAway 108 = .ok (.aload_n 0, 1) := by decide +kernel
theorem dX9_layAway_109 : decode cX9_layAway 109 = .ok (.getfield 52, 3) := by decide +kernel
theorem dX9_layAway_112 : decode cX9_layAway 112 = .ok (.iload 5, 2) := by decide +kernel
theorem dX9_layAway_114 : decode cX9_layAway 114 = .ok (.iload 7, 2) := by decide +kernel
theorem dX9_layAway_116 : decode cX9_layAway 116 = .ok (.aload_n 0, 1) := by decide +kernel
theorem dX9_layAway_117 : decode cX9_layAway 117 = .ok (.getfield 52, 3) := by decide +kernel
theorem dX9_layAway_120 : decode cX9_layAway 120 = .ok (.iload 5, 2) := by decide +kernel
theorem dX9_layAway_122 : decode cX9_layAway 122 = .ok (.iaload, 1) := by decide +kernel
theorem dX9_layAway_123 : decode cX9_layAway 123 = .ok (.if_icmp .ge 8, 3) := by decide +kernel
theorem dX9_layAway_126 : decode cX9_layAway 126 = .ok (.iload 7, 2) := by decide +kernel
theorem dX9_layAway_128 : decode cX9_layAway 128 = .ok (.goto 10, 3) := by decide +kernel
theorem dX9_layAway_131 : decode cX9_layAway 131 = .ok (.aload_n 0, 1) := by decide +kernel
theorem dX9_layAway_132 : decode cX9_layAway 132 = .ok (.getfield 52, 3) := by decide +kernel
theorem dX9_layAway_135 : decode cX9_layAway 135 = .ok (.iload 5, 2) := by decide +kernel
theorem dX9_layAway_137 : decode cX9_layAway 137 = .ok (.iaload, 1) := by decide +kernel
theorem dX9_layAway_138 : decode cX9_layAway 138 = .ok (.iastore, 1) := by decide +kernel
theorem dX9_layAway_139 : decode cX9_layAway 139 = .ok (.iinc 6 1, 3) := by decide +kernel
theorem dX9_layAway_142 : decode cX9_layAway 142 = .ok (.goto (-76), 3) := by decide +kernel
theorem dX9_layAway_145 : decode cX9_layAway 145 = .ok (.iinc 5 1, 3) := by decide +kernel
theorem dX9_layAway_148 : decode cX9_layAway 148 = .ok (.goto (-99), 3) := by decide +kernel
theorem dX9_layAway_151 : decode cX9_layAway 151 = .ok (.goto (-113), 3) := by decide +kernel
theorem dX9_layAway_154 : decode cX9_layAway 154 = .ok (.return_, 1) := by decide +kernel
theorem dX9_firstOf_0 : decode cX9_firstOf 0 = .ok (.aload_n 0, 1) := by decide +kernel
theorem dX9_firstOf_1 : decode cX9_firstOf 1 = .ok (.aload_n 1, 1) := by decide +kernel
theorem dX9_firstOf_2 : decode cX9_firstOf 2 = .ok (.iload_n 2, 1) := by decide +kernel
theorem dX9_firstOf_3 : decode cX9_firstOf 3 = .ok (.iload 4, 2) := by decide +kernel
theorem dX9_firstOf_5 : decode cX9_firstOf 5 = .ok (.invokevirtual 191, 3) := by decide +kernel
theorem dX9_firstOf_8 : decode cX9_firstOf 8 = .ok (.iload_n 3, 1) := by decide +kernel
theorem dX9_firstOf_9 : decode cX9_firstOf 9 = .ok (.iload 4, 2) := by decide +kernel
theorem dX9_firstOf_11 : decode cX9_firstOf 11 = .ok (.if_icmp .eq 14, 3) := by decide +kernel
theorem dX9_firstOf_14 : decode cX9_firstOf 14 = .ok (.aload_n 0, 1) := by decide +kernel
theorem dX9_firstOf_15 : decode cX9_firstOf 15 = .ok (.getfield 52, 3) := by decide +kernel
theorem dX9_firstOf_18 : decode cX9_firstOf 18 = .ok (.iload_n 3, 1) := by decide +kernel
theorem dX9_firstOf_19 : decode cX9_firstOf 19 = .ok (.iaload, 1) := by decide +kernel
theorem dX9_firstOf_20 : decode cX9_firstOf 20 = .ok (.ldc 176, 2) := by decide +kernel
theorem dX9_firstOf_22 : decode cX9_firstOf 22 = .ok (.if_icmp .lt 6, 3) := by decide +kernel
theorem dX9_firstOf_25 : decode cX9_firstOf 25 = .ok (.bipush (-4), 2) := by decide +kernel
theorem dX9_firstOf_27 : decode cX9_firstOf 27 = .ok (.ireturn, 1) := by decide +kernel
theorem dX9_firstOf_28 : decode cX9_firstOf 28 = .ok (.iconst 0, 1) := by decide +kernel
theorem dX9_firstOf_29 : decode cX9_firstOf 29 = .ok (.istore 5, 2) := by decide +kernel
theorem dX9_firstOf_31 : decode cX9_firstOf 31 = .ok (.iload 5, 2) := by decide +kernel
theorem dX9_firstOf_33 : decode cX9_firstOf 33 = .ok (.iconst 4, 1) := by decide +kernel
theorem dX9_firstOf_34 : decode cX9_firstOf 34 = .ok (.if_icmp .ge 35, 3) := by decide +kernel
theorem dX9_firstOf_37 : decode cX9_firstOf 37 = .ok (.aload_n 0, 1) := by decide +kernel
theorem dX9_firstOf_38 : decode cX9_firstOf 38 = .ok (.aload_n 1, 1) := by decide +kernel
theorem dX9_firstOf_39 : decode cX9_firstOf 39 = .ok (.iload_n 2, 1) := by decide +kernel
theorem dX9_firstOf_40 : decode cX9_firstOf 40 = .ok (.iload_n 3, 1) := by decide +kernel
theorem dX9_firstOf_41 : decode cX9_firstOf 41 = .ok (.iload 5, 2) := by decide +kernel
theorem dX9_firstOf_43 : decode cX9_firstOf 43 = .ok (.invokevirtual 187, 3) := by decide +kernel
theorem dX9_firstOf_46 : decode cX9_firstOf 46 = .ok (.aload_n 0, 1) := by decide +kernel
theorem dX9_firstOf_47 : decode cX9_firstOf 47 = .ok (.getfield 52, 3) := by decide +kernel
theorem dX9_firstOf_50 : decode cX9_firstOf 50 = .ok (.iload_n 3, 1) := by decide +kernel
theorem dX9_firstOf_51 : decode cX9_firstOf 51 = .ok (.iaload, 1) := by decide +kernel
theorem dX9_firstOf_52 : decode cX9_firstOf 52 = .ok (.if_icmp .ne 11, 3) := by decide +kernel
theorem dX9_firstOf_55 : decode cX9_firstOf 55 = .ok (.aload_n 0, 1) := by decide +kernel
theorem dX9_firstOf_56 : decode cX9_firstOf 56 = .ok (.iload_n 3, 1) := by decide +kernel
theorem dX9_firstOf_57 : decode cX9_firstOf 57 = .ok (.iload 5, 2) := by decide +kernel
theorem dX9_firstOf_59 : decode cX9_firstOf 59 = .ok (.invokevirtual 177, 3) := by decide +kernel
theorem dX9_firstOf_62 : decode cX9_firstOf 62 = .ok (.ireturn, 1) := by decide +kernel
theorem dX9_firstOf_63 : decode cX9_firstOf 63 = .ok (.iinc 5 1, 3) := by decide +kernel
theorem dX9_firstOf_66 : decode cX9_firstOf 66 = .ok (.goto (-35), 3) := by decide +kernel
theorem dX9_firstOf_69 : decode cX9_firstOf 69 = .ok (.bipush (-4), 2) := by decide +kernel
theorem dX9_firstOf_71 : decode cX9_firstOf 71 = .ok (.ireturn, 1) := by decide +kernel
theorem dX9_lengthOf_0 : decode cX9_lengthOf 0 = .ok (.aload_n 0, 1) := by decide +kernel
theorem dX9_lengthOf_1 : decode cX9_lengthOf 1 = .ok (.aload_n 1, 1) := by decide +kernel
theorem dX9_lengthOf_2 : decode cX9_lengthOf 2 = .ok (.iload_n 2, 1) := by decide +kernel
theorem dX9_lengthOf_3 : decode cX9_lengthOf 3 = .ok (.iload 4, 2) := by decide +kernel
theorem dX9_lengthOf_5 : decode cX9_lengthOf 5 = .ok (.invokevirtual 191, 3) := by decide +kernel
theorem dX9_lengthOf_8 : decode cX9_lengthOf 8 = .ok (.aload_n 0, 1) := by decide +kernel
theorem dX9_lengthOf_9 : decode cX9_lengthOf 9 = .ok (.getfield 52, 3) := by decide +kernel
theorem dX9_lengthOf_12 : decode cX9_lengthOf 12 = .ok (.iload_n 3, 1) := by decide +kernel
theorem dX9_lengthOf_13 : decode cX9_lengthOf 13 = .ok (.iaload, 1) := by decide +kernel
theorem dX9_lengthOf_14 : decode cX9_lengthOf 14 = .ok (.ldc 176, 2) := by decide +kernel
theorem dX9_lengthOf_16 : decode cX9_lengthOf 16 = .ok (.if_icmp .lt 8, 3) := by decide +kernel
theorem dX9_lengthOf_19 : decode cX9_lengthOf 19 = .ok (.bipush (-4), 2) := by decide +kernel
theorem dX9_lengthOf_21 : decode cX9_lengthOf 21 = .ok (.goto 9, 3) := by decide +kernel
theorem dX9_lengthOf_24 : decode cX9_lengthOf 24 = .ok (.aload_n 0, 1) := by decide +kernel
theorem dX9_lengthOf_25 : decode cX9_lengthOf 25 = .ok (.getfield 52, 3) := by decide +kernel
theorem dX9_lengthOf_28 : decode cX9_lengthOf 28 = .ok (.iload_n 3, 1) := by decide +kernel
theorem dX9_lengthOf_29 : decode cX9_lengthOf 29 = .ok (.iaload, 1) := by decide +kernel
theorem dX9_lengthOf_30 : decode cX9_lengthOf 30 = .ok (.ireturn, 1) := by decide +kernel
theorem dX9_place_0 : decode cX9_place 0 = .ok (.aload_n 0, 1) := by decide +kernel
theorem dX9_place_1 : decode cX9_place 1 = .ok (.iload_n 1, 1) := by decide +kernel
theorem dX9_place_2 : decode cX9_place 2 = .ok (.invokevirtual 195, 3) := by decide +kernel
theorem dX9_place_5 : decode cX9_place 5 = .ok (.ifCond .eq 12, 3) := by decide +kernel
theorem dX9_place_8 : decode cX9_place 8 = .ok (.aload_n 0, 1) := by decide +kernel
theorem dX9_place_9 : decode cX9_place 9 = .ok (.getfield 7, 3) := by decide +kernel
theorem dX9_place_12 : decode cX9_place 12 = .ok (.iload_n 1, 1) := by decide +kernel
theorem dX9_place_13 : decode cX9_place 13 = .ok (.iaload, 1) := by decide +kernel
theorem dX9_place_14 : decode cX9_place 14 = .ok (.goto 4, 3) := by decide +kernel
theorem dX9_place_17 : decode cX9_place 17 = .ok (.iconst (-1), 1) := by decide +kernel
theorem dX9_place_18 : decode cX9_place 18 = .ok (.ireturn, 1) := by decide +kernel
theorem dX9_drum_0 : decode cX9_drum 0 = .ok (.aload_n 0, 1) := by decide +kernel
theorem dX9_drum_1 : decode cX9_drum 1 = .ok (.iload_n 1, 1) := by decide +kernel
theorem dX9_drum_2 : decode cX9_drum 2 = .ok (.invokevirtual 198, 3) := by decide +kernel
theorem dX9_drum_5 : decode cX9_drum 5 = .ok (.ifCond .eq 23, 3) := by decide +kernel
theorem dX9_drum_8 : decode cX9_drum 8 = .ok (.aload_n 0, 1) := by decide +kernel
theorem dX9_drum_9 : decode cX9_drum 9 = .ok (.iload_n 2, 1) := by decide +kernel
theorem dX9_drum_10 : decode cX9_drum 10 = .ok (.invokevirtual 195, 3) := by decide +kernel
theorem dX9_drum_13 : decode cX9_drum 13 = .ok (.ifCond .eq 15, 3) := by decide +kernel
theorem dX9_drum_16 : decode cX9_drum 16 = .ok (.iload_n 3, 1) := by decide +kernel
theorem dX9_drum_17 : decode cX9_drum 17 = .ok (.i2l, 1) := by decide +kernel
theorem dX9_drum_18 : decode cX9_drum 18 = .ok (.lconst 0, 1) := by decide +kernel
theorem dX9_drum_19 : decode cX9_drum 19 = .ok (.ldc2_w 201, 3) := by decide +kernel
theorem dX9_drum_22 : decode cX9_drum 22 = .ok (.invokestatic 114, 3) := by decide +kernel
theorem dX9_drum_25 : decode cX9_drum 25 = .ok (.ifCond .ne 5, 3) := by decide +kernel
theorem dX9_drum_28 : decode cX9_drum 28 = .ok (.iconst (-1), 1) := by decide +kernel
theorem dX9_drum_29 : decode cX9_drum 29 = .ok (.ireturn, 1) := by decide +kernel
theorem dX9_drum_30 : decode cX9_drum 30 = .ok (.aload_n 0, 1) := by decide +kernel
theorem dX9_drum_31 : decode cX9_drum 31 = .ok (.getfield 16, 3) := by decide +kernel
theorem dX9_drum_34 : decode cX9_drum 34 = .ok (.iload_n 1, 1) := by decide +kernel
theorem dX9_drum_35 : decode cX9_drum 35 = .ok (.iload_n 2, 1) := by decide +kernel
theorem dX9_drum_36 : decode cX9_drum 36 = .ok (.invokestatic 172, 3) := by decide +kernel
theorem dX9_drum_39 : decode cX9_drum 39 = .ok (.istore 4, 2) := by decide +kernel
theorem dX9_drum_41 : decode cX9_drum 41 = .ok (.iload_n 3, 1) := by decide +kernel
theorem dX9_drum_42 : decode cX9_drum 42 = .ok (.iconst 2, 1) := by decide +kernel
theorem dX9_drum_43 : decode cX9_drum 43 = .ok (.if_icmp .ge 23, 3) := by decide +kernel
theorem dX9_drum_46 : decode cX9_drum 46 = .ok (.iload_n 3, 1) := by decide +kernel
theorem dX9_drum_47 : decode cX9_drum 47 = .ok (.ifCond .ne 8, 3) := by decide +kernel
theorem dX9_drum_50 : decode cX9_drum 50 = .ok (.iload 4, 2) := by decide +kernel
theorem dX9_drum_52 : decode cX9_drum 52 = .ok (.goto 13, 3) := by decide +kernel
theorem dX9_drum_55 : decode cX9_drum 55 = .ok (.aload_n 0, 1) := by decide +kernel
theorem dX9_drum_56 : decode cX9_drum 56 = .ok (.aload_n 0, 1) := by decide +kernel
theorem dX9_drum_57 : decode cX9_drum 57 = .ok (.getfield 16, 3) := by decide +kernel
theorem dX9_drum_60 : decode cX9_drum 60 = .ok (.iload_n 1, 1) := by decide +kernel
theorem dX9_drum_61 : decode cX9_drum 61 = .ok (.iload_n 2, 1) := by decide +kernel
theorem dX9_drum_62 : decode cX9_drum 62 = .ok (.invokevirtual 181, 3) := by decide +kernel
theorem dX9_drum_65 : decode cX9_drum 65 = .ok (.ireturn, 1) := by decide +kernel
theorem dX9_drum_66 : decode cX9_drum 66 = .ok (.iload 4, 2) := by decide +kernel
theorem dX9_drum_68 : decode cX9_drum 68 = .ok (.iconst 3, 1) := by decide +kernel
theorem dX9_drum_69 : decode cX9_drum 69 = .ok (.if_icmp .ne 7, 3) := by decide +kernel
theorem dX9_drum_72 : decode cX9_drum 72 = .ok (.iconst 0, 1) := by decide +kernel
theorem dX9_drum_73 : decode cX9_drum 73 = .ok (.goto 32, 3) := by decide +kernel
theorem dX9_drum_76 : decode cX9_drum 76 = .ok (.iload 4, 2) := by decide +kernel
theorem dX9_drum_78 : decode cX9_drum 78 = .ok (.ifCond .ne 8, 3) := by decide +kernel
theorem dX9_drum_81 : decode cX9_drum 81 = .ok (.bipush 9, 2) := by decide +kernel
theorem dX9_drum_83 : decode cX9_drum 83 = .ok (.goto 15, 3) := by decide +kernel
theorem dX9_drum_86 : decode cX9_drum 86 = .ok (.iload 4, 2) := by decide +kernel
theorem dX9_drum_88 : decode cX9_drum 88 = .ok (.iconst 1, 1) := by decide +kernel
theorem dX9_drum_89 : decode cX9_drum 89 = .ok (.if_icmp .ne 8, 3) := by decide +kernel
theorem dX9_drum_92 : decode cX9_drum 92 = .ok (.bipush 6, 2) := by decide +kernel
theorem dX9_drum_94 : decode cX9_drum 94 = .ok (.goto 4, 3) := by decide +kernel
theorem dX9_drum_97 : decode cX9_drum 97 = .ok (.iconst 4, 1) := by decide +kernel
theorem dX9_drum_98 : decode cX9_drum 98 = .ok (.aload_n 0, 1) := by decide +kernel
theorem dX9_drum_99 : decode cX9_drum 99 = .ok (.getfield 16, 3) := by decide +kernel
theorem dX9_drum_102 : decode cX9_drum 102 = .ok (.iconst 0, 1) := by decide +kernel
theorem dX9_drum_103 : decode cX9_drum 103 = .ok (.iaload, 1) := by decide +kernel
theorem dX9_drum_104 : decode cX9_drum 104 = .ok (.isub, 1) := by decide +kernel
theorem dX9_drum_105 : decode cX9_drum 105 = .ok (.ireturn, 1) := by decide +kernel
theorem dX9_kind_0 : decode cX9_kind 0 = .ok (.aload_n 0, 1) := by decide +kernel
theorem dX9_kind_1 : decode cX9_kind 1 = .ok (.iload_n 1, 1) := by decide +kernel
theorem dX9_kind_2 : decode cX9_kind 2 = .ok (.invokevirtual 198, 3) := by decide +kernel
theorem dX9_kind_5 : decode cX9_kind 5 = .ok (.ifCond .eq 12, 3) := by decide +kernel
theorem dX9_kind_8 : decode cX9_kind 8 = .ok (.aload_n 0, 1) := by decide +kernel
theorem dX9_kind_9 : decode cX9_kind 9 = .ok (.getfield 13, 3) := by decide +kernel
theorem dX9_kind_12 : decode cX9_kind 12 = .ok (.iload_n 1, 1) := by decide +kernel
theorem dX9_kind_13 : decode cX9_kind 13 = .ok (.iaload, 1) := by decide +kernel
theorem dX9_kind_14 : decode cX9_kind 14 = .ok (.goto 4, 3) := by decide +kernel
theorem dX9_kind_17 : decode cX9_kind 17 = .ok (.iconst (-1), 1) := by decide +kernel
theorem dX9_kind_18 : decode cX9_kind 18 = .ok (.ireturn, 1) := by decide +kernel
theorem dX9_traveller_0 : decode cX9_traveller 0 = .ok (.aload_n 0, 1) := by decide +kernel
theorem dX9_traveller_1 : decode cX9_traveller 1 = .ok (.iload_n 1, 1) := by decide +kernel
theorem dX9_traveller_2 : decode cX9_traveller 2 = .ok (.invokevirtual 203, 3) := by decide +kernel
theorem dX9_traveller_5 : decode cX9_traveller 5 = .ok (.ifCond .eq 32, 3) := by decide +kernel
theorem dX9_traveller_8 : decode cX9_traveller 8 = .ok (.iload_n 2, 1) := by decide +kernel
theorem dX9_traveller_9 : decode cX9_traveller 9 = .ok (.i2l, 1) := by decide +kernel
theorem dX9_traveller_10 : decode cX9_traveller 10 = .ok (.lconst 0, 1) := by decide +kernel
theorem dX9_traveller_11 : decode cX9_traveller 11 = .ok (.ldc2_w 206, 3) := by decide +kernel
theorem dX9_traveller_14 : decode cX9_traveller 14 = .ok (.invokestatic 114, 3) := by decide +kernel
theorem dX9_traveller_17 : decode cX9_traveller 17 = .ok (.ifCond .eq 20, 3) := by decide +kernel
theorem dX9_traveller_20 : decode cX9_traveller 20 = .ok (.aload_n 0, 1) := by decide +kernel
theorem dX9_traveller_21 : decode cX9_traveller 21 = .ok (.getfield 16, 3) := by decide +kernel
theorem dX9_traveller_24 : decode cX9_traveller 24 = .ok (.sipush 146, 3) := by decide +kernel
theorem dX9_traveller_27 : decode cX9_traveller 27 = .ok (.iconst 4, 1) := by decide +kernel
theorem dX9_traveller_28 : decode cX9_traveller 28 = .ok (.iload_n 2, 1) := by decide +kernel
theorem dX9_traveller_29 : decode cX9_traveller 29 = .ok (.imul, 1) := by decide +kernel
theorem dX9_traveller_30 : decode cX9_traveller 30 = .ok (.iadd, 1) := by decide +kernel
theorem dX9_traveller_31 : decode cX9_traveller 31 = .ok (.iload_n 1, 1) := by decide +kernel
theorem dX9_traveller_32 : decode cX9_traveller 32 = .ok (.iadd, 1) := by decide +kernel
theorem dX9_traveller_33 : decode cX9_traveller 33 = .ok (.iaload, 1) := by decide +kernel
theorem dX9_traveller_34 : decode cX9_traveller 34 = .ok (.goto 4, 3) := by decide +kernel
theorem dX9_traveller_37 : decode cX9_traveller 37 = .ok (.iconst (-1), 1) := by decide +kernel
theorem dX9_traveller_38 : decode cX9_traveller 38 = .ok (.ireturn, 1) := by decide +kernel
theorem dX9_route_0 : decode cX9_route 0 = .ok (.aload_n 0, 1) := by decide +kernel
theorem dX9_route_1 : decode cX9_route 1 = .ok (.iload_n 1, 1) := by decide +kernel
theorem dX9_route_2 : decode cX9_route 2 = .ok (.invokevirtual 198, 3) := by decide +kernel
theorem dX9_route_5 : decode cX9_route 5 = .ok (.ifCond .eq 30, 3) := by decide +kernel
theorem dX9_route_8 : decode cX9_route 8 = .ok (.aload_n 0, 1) := by decide +kernel
theorem dX9_route_9 : decode cX9_route 9 = .ok (.iload_n 2, 1) := by decide +kernel
theorem dX9_route_10 : decode cX9_route 10 = .ok (.invokevirtual 195, 3) := by decide +kernel
theorem dX9_route_13 : decode cX9_route 13 = .ok (.ifCond .eq 22, 3) := by decide +kernel
theorem dX9_route_16 : decode cX9_route 16 = .ok (.aload_n 0, 1) := by decide +kernel
theorem dX9_route_17 : decode cX9_route 17 = .ok (.iload_n 3, 1) := by decide +kernel
theorem dX9_route_18 : decode cX9_route 18 = .ok (.invokevirtual 195, 3) := by decide +kernel
theorem dX9_route_21 : decode cX9_route 21 = .ok (.ifCond .eq 14, 3) := by decide +kernel
theorem dX9_route_24 : decode cX9_route 24 = .ok (.iload 4, 2) := by decide +kernel
theorem dX9_route_26 : decode cX9_route 26 = .ok (.i2l, 1) := by decide +kernel
theorem dX9_route_27 : decode cX9_route 27 = .ok (.lconst 0, 1) := by decide +kernel
theorem dX9_route_28 : decode cX9_route 28 = .ok (.lconst 1, 1) := by decide +kernel
theorem dX9_route_29 : decode cX9_route 29 = .ok (.invokestatic 114, 3) := by decide +kernel
theorem dX9_route_32 : decode cX9_route 32 = .ok (.ifCond .ne 5, 3) := by decide +kernel
theorem dX9_route_35 : decode cX9_route 35 = .ok (.iconst (-1), 1) := by decide +kernel
theorem dX9_route_36 : decode cX9_route 36 = .ok (.ireturn, 1) := by decide +kernel
theorem dX9_route_37 : decode cX9_route 37 = .ok (.iload 4, 2) := by decide +kernel
theorem dX9_route_39 : decode cX9_route 39 = .ok (.ifCond .ne 17, 3) := by decide +kernel
theorem dX9_route_42 : decode cX9_route 42 = .ok (.aload_n 0, 1) := by decide +kernel
theorem dX9_route_43 : decode cX9_route 43 = .ok (.aload_n 0, 1) := by decide +kernel
theorem dX9_route_44 : decode cX9_route 44 = .ok (.getfield 16, 3) := by decide +kernel
theorem dX9_route_47 : decode cX9_route 47 = .ok (.iload_n 1, 1) := by decide +kernel
theorem dX9_route_48 : decode cX9_route 48 = .ok (.iload_n 2, 1) := by decide +kernel
theorem dX9_route_49 : decode cX9_route 49 = .ok (.iload_n 3, 1) := by decide +kernel
theorem dX9_route_50 : decode cX9_route 50 = .ok (.invokevirtual 208, 3) := by decide +kernel
theorem dX9_route_53 : decode cX9_route 53 = .ok (.goto 14, 3) := by decide +kernel
theorem dX9_route_56 : decode cX9_route 56 = .ok (.aload_n 0, 1) := by decide +kernel
theorem dX9_route_57 : decode cX9_route 57 = .ok (.aload_n 0, 1) := by decide +kernel
theorem dX9_route_58 : decode cX9_route 58 = .ok (.getfield 16, 3) := by decide +kernel
theorem dX9_route_61 : decode cX9_route 61 = .ok (.iload_n 1, 1) := by decide +kernel
theorem dX9_route_62 : decode cX9_route 62 = .ok (.iload_n 2, 1) := by decide +kernel
theorem dX9_route_63 : decode cX9_route 63 = .ok (.iload_n 3, 1) := by decide +kernel
theorem dX9_route_64 : decode cX9_route 64 = .ok (.invokevirtual 211, 3) := by decide +kernel
theorem dX9_route_67 : decode cX9_route 67 = .ok (.ireturn, 1) := by decide +kernel
theorem dX9_truth_0 : decode cX9_truth 0 = .ok (.aload_n 0, 1) := by decide +kernel
theorem dX9_truth_1 : decode cX9_truth 1 = .ok (.iload_n 1, 1) := by decide +kernel
theorem dX9_truth_2 : decode cX9_truth 2 = .ok (.invokevirtual 195, 3) := by decide +kernel
theorem dX9_truth_5 : decode cX9_truth 5 = .ok (.ifCond .eq 25, 3) := by decide +kernel
theorem dX9_truth_8 : decode cX9_truth 8 = .ok (.aload_n 0, 1) := by decide +kernel
theorem dX9_truth_9 : decode cX9_truth 9 = .ok (.iload_n 2, 1) := by decide +kernel
theorem dX9_truth_10 : decode cX9_truth 10 = .ok (.invokevirtual 195, 3) := by decide +kernel
theorem dX9_truth_13 : decode cX9_truth 13 = .ok (.ifCond .eq 17, 3) := by decide +kernel
theorem dX9_truth_16 : decode cX9_truth 16 = .ok (.aload_n 0, 1) := by decide +kernel
theorem dX9_truth_17 : decode cX9_truth 17 = .ok (.aload_n 0, 1) := by decide +kernel
theorem dX9_truth_18 : decode cX9_truth 18 = .ok (.getfield 16, 3) := by decide +kernel
theorem dX9_truth_21 : decode cX9_truth 21 = .ok (.iconst (-1), 1) := by decide +kernel
theorem dX9_truth_22 : decode cX9_truth 22 = .ok (.iload_n 1, 1) := by decide +kernel
theorem dX9_truth_23 : decode cX9_truth 23 = .ok (.iload_n 2, 1) := by decide +kernel
theorem dX9_truth_24 : decode cX9_truth 24 = .ok (.invokevirtual 208, 3) := by decide +kernel
theorem dX9_truth_27 : decode cX9_truth 27 = .ok (.goto 4, 3) := by decide +kernel
theorem dX9_truth_30 : decode cX9_truth 30 = .ok (.iconst (-1), 1) := by decide +kernel
theorem dX9_truth_31 : decode cX9_truth 31 = .ok (.ireturn, 1) := by decide +kernel
theorem dX9_oneGoes_0 : decode cX9_oneGoes 0 = .ok (.aload_n 1, 1) := by decide +kernel
theorem dX9_oneGoes_1 : decode cX9_oneGoes 1 = .ok (.sipush 158, 3) := by decide +kernel
theorem dX9_oneGoes_4 : decode cX9_oneGoes 4 = .ok (.iload_n 2, 1) := by decide +kernel
theorem dX9_oneGoes_5 : decode cX9_oneGoes 5 = .ok (.iadd, 1) := by decide +kernel
theorem dX9_oneGoes_6 : decode cX9_oneGoes 6 = .ok (.iaload, 1) := by decide +kernel
theorem dX9_oneGoes_7 : decode cX9_oneGoes 7 = .ok (.ifCond .eq 4, 3) := by decide +kernel
theorem dX9_oneGoes_10 : decode cX9_oneGoes 10 = .ok (.return_, 1) := by decide +kernel
theorem dX9_oneGoes_11 : decode cX9_oneGoes 11 = .ok (.aload_n 1, 1) := by decide +kernel
theorem dX9_oneGoes_12 : decode cX9_oneGoes 12 = .ok (.sipush 166, 3) := by decide +kernel
theorem dX9_oneGoes_15 : decode cX9_oneGoes 15 = .ok (.iload_n 2, 1) := by decide +kernel
theorem dX9_oneGoes_16 : decode cX9_oneGoes 16 = .ok (.iadd, 1) := by decide +kernel
theorem dX9_oneGoes_17 : decode cX9_oneGoes 17 = .ok (.iaload, 1) := by decide +kernel
theorem dX9_oneGoes_18 : decode cX9_oneGoes 18 = .ok (.ifCond .ne 84, 3) := by decide +kernel
theorem dX9_oneGoes_21 : decode cX9_oneGoes 21 = .ok (.aload_n 0, 1) := by decide +kernel
theorem dX9_oneGoes_22 : decode cX9_oneGoes 22 = .ok (.aload_n 1, 1) := by decide +kernel
theorem dX9_oneGoes_23 : decode cX9_oneGoes 23 = .ok (.aload_n 1, 1) := by decide +kernel
theorem dX9_oneGoes_24 : decode cX9_oneGoes 24 = .ok (.sipush 154, 3) := by decide +kernel
theorem dX9_oneGoes_27 : decode cX9_oneGoes 27 = .ok (.iload_n 2, 1) := by decide +kernel
theorem dX9_oneGoes_28 : decode cX9_oneGoes 28 = .ok (.iadd, 1) := by decide +kernel
theorem dX9_oneGoes_29 : decode cX9_oneGoes 29 = .ok (.iaload, 1) := by decide +kernel
theorem dX9_oneGoes_30 : decode cX9_oneGoes 30 = .ok (.aload_n 1, 1) := by decide +kernel
theorem dX9_oneGoes_31 : decode cX9_oneGoes 31 = .ok (.sipush 146, 3) := by decide +kernel
theorem dX9_oneGoes_34 : decode cX9_oneGoes 34 = .ok (.iload_n 2, 1) := by decide +kernel
theorem dX9_oneGoes_35 : decode cX9_oneGoes 35 = .ok (.iadd, 1) := by decide +kernel
theorem dX9_oneGoes_36 : decode cX9_oneGoes 36 = .ok (.iaload, 1) := by decide +kernel
theorem dX9_oneGoes_37 : decode cX9_oneGoes 37 = .ok (.aload_n 1, 1) := by decide +kernel
theorem dX9_oneGoes_38 : decode cX9_oneGoes 38 = .ok (.sipush 150, 3) := by decide +kernel
theorem dX9_oneGoes_41 : decode cX9_oneGoes 41 = .ok (.iload_n 2, 1) := by decide +kernel
theorem dX9_oneGoes_42 : decode cX9_oneGoes 42 = .ok (.iadd, 1) := by decide +kernel
theorem dX9_oneGoes_43 : decode cX9_oneGoes 43 = .ok (.iaload, 1) := by decide +kernel
theorem dX9_oneGoes_44 : decode cX9_oneGoes 44 = .ok (.invokevirtual 211, 3) := by decide +kernel
theorem dX9_oneGoes_47 : decode cX9_oneGoes 47 = .ok (.istore_n 3, 1) := by decide +kernel
theorem dX9_oneGoes_48 : decode cX9_oneGoes 48 = .ok (.iload_n 3, 1) := by decide +kernel
theorem dX9_oneGoes_49 : decode cX9_oneGoes 49 = .ok (.bipush (-4), 2) := by decide +kernel
theorem dX9_oneGoes_51 : decode cX9_oneGoes 51 = .ok (.if_icmp .ne 4, 3) := by decide +kernel
theorem dX9_oneGoes_54 : decode cX9_oneGoes 54 = .ok (.return_, 1) := by decide +kernel
theorem dX9_oneGoes_55 : decode cX9_oneGoes 55 = .ok (.aload_n 0, 1) := by decide +kernel
theorem dX9_oneGoes_56 : decode cX9_oneGoes 56 = .ok (.getfield 7, 3) := by decide +kernel
theorem dX9_oneGoes_59 : decode cX9_oneGoes 59 = .ok (.iload_n 3, 1) := by decide +kernel
theorem dX9_oneGoes_60 : decode cX9_oneGoes 60 = .ok (.iaload, 1) := by decide +kernel
theorem dX9_oneGoes_61 : decode cX9_oneGoes 61 = .ok (.aload_n 1, 1) := by decide +kernel
theorem dX9_oneGoes_62 : decode cX9_oneGoes 62 = .ok (.iconst 0, 1) := by decide +kernel
theorem dX9_oneGoes_63 : decode cX9_oneGoes 63 = .ok (.iaload, 1) := by decide +kernel
theorem dX9_oneGoes_64 : decode cX9_oneGoes 64 = .ok (.invokestatic 184, 3) := by decide +kernel
theorem dX9_oneGoes_67 : decode cX9_oneGoes 67 = .ok (.istore 4, 2) := by decide +kernel
theorem dX9_oneGoes_69 : decode cX9_oneGoes 69 = .ok (.iload 4, 2) := by decide +kernel
theorem dX9_oneGoes_71 : decode cX9_oneGoes 71 = .ok (.ldc 176, 2) := by decide +kernel
theorem dX9_oneGoes_73 : decode cX9_oneGoes 73 = .ok (.if_icmp .lt 12, 3) := by decide +kernel
theorem dX9_oneGoes_76 : decode cX9_oneGoes 76 = .ok (.aload_n 1, 1) := by decide +kernel
theorem dX9_oneGoes_77 : decode cX9_oneGoes 77 = .ok (.sipush 158, 3) := by decide +kernel
theorem dX9_oneGoes_80 : decode cX9_oneGoes 80 = .ok (.iload_n 2, 1) := by decide +kernel
theorem dX9_oneGoes_81 : decode cX9_oneGoes 81 = .ok (.iadd, 1) := by decide +kernel
theorem dX9_oneGoes_82 : decode cX9_oneGoes 82 = .ok (.iconst 2, 1) := by decide +kernel
theorem dX9_oneGoes_83 : decode cX9_oneGoes 83 = .ok (.iastore, 1) := by decide +kernel
theorem dX9_oneGoes_84 : decode cX9_oneGoes 84 = .ok (.return_, 1) := by decide +kernel
theorem dX9_oneGoes_85 : decode cX9_oneGoes 85 = .ok (.aload_n 1, 1) := by decide +kernel
theorem dX9_oneGoes_86 : decode cX9_oneGoes 86 = .ok (.sipush 162, 3) := by decide +kernel
theorem dX9_oneGoes_89 : decode cX9_oneGoes 89 = .ok (.iload_n 2, 1) := by decide +kernel
theorem dX9_oneGoes_90 : decode cX9_oneGoes 90 = .ok (.iadd, 1) := by decide +kernel
theorem dX9_oneGoes_91 : decode cX9_oneGoes 91 = .ok (.iload_n 3, 1) := by decide +kernel
theorem dX9_oneGoes_92 : decode cX9_oneGoes 92 = .ok (.iastore, 1) := by decide +kernel
theorem dX9_oneGoes_93 : decode cX9_oneGoes 93 = .ok (.aload_n 1, 1) := by decide +kernel
theorem dX9_oneGoes_94 : decode cX9_oneGoes 94 = .ok (.sipush 166, 3) := by decide +kernel
theorem dX9_oneGoes_97 : decode cX9_oneGoes 97 = .ok (.iload_n 2, 1) := by decide +kernel
theorem dX9_oneGoes_98 : decode cX9_oneGoes 98 = .ok (.iadd, 1) := by decide +kernel
theorem dX9_oneGoes_99 : decode cX9_oneGoes 99 = .ok (.iload 4, 2) := by decide +kernel
theorem dX9_oneGoes_101 : decode cX9_oneGoes 101 = .ok (.iastore, 1) := by decide +kernel
theorem dX9_oneGoes_102 : decode cX9_oneGoes 102 = .ok (.aload_n 1, 1) := by decide +kernel
theorem dX9_oneGoes_103 : decode cX9_oneGoes 103 = .ok (.sipush 166, 3) := by decide +kernel
theorem dX9_oneGoes_106 : decode cX9_oneGoes 106 = .ok (.iload_n 2, 1) := by decide +kernel
theorem dX9_oneGoes_107 : decode cX9_oneGoes 107 = .ok (.iadd, 1) := by decide +kernel
theorem dX9_oneGoes_108 : decode cX9_oneGoes 108 = .ok (.dup2, 1) := by decide +kernel
theorem dX9_oneGoes_109 : decode cX9_oneGoes 109 = .ok (.iaload, 1) := by decide +kernel
theorem dX9_oneGoes_110 : decode cX9_oneGoes 110 = .ok (.iconst 1, 1) := by decide +kernel
theorem dX9_oneGoes_111 : decode cX9_oneGoes 111 = .ok (.isub, 1) := by decide +kernel
theorem dX9_oneGoes_112 : decode cX9_oneGoes 112 = .ok (.iastore, 1) := by decide +kernel
theorem dX9_oneGoes_113 : decode cX9_oneGoes 113 = .ok (.aload_n 1, 1) := by decide +kernel
theorem dX9_oneGoes_114 : decode cX9_oneGoes 114 = .ok (.sipush 166, 3) := by decide +kernel
theorem dX9_oneGoes_117 : decode cX9_oneGoes 117 = .ok (.iload_n 2, 1) := by decide +kernel
theorem dX9_oneGoes_118 : decode cX9_oneGoes 118 = .ok (.iadd, 1) := by decide +kernel
theorem dX9_oneGoes_119 : decode cX9_oneGoes 119 = .ok (.iaload, 1) := by decide +kernel
theorem dX9_oneGoes_120 : decode cX9_oneGoes 120 = .ok (.ifCond .ne 55, 3) := by decide +kernel
theorem dX9_oneGoes_123 : decode cX9_oneGoes 123 = .ok (.aload_n 1, 1) := by decide +kernel
theorem dX9_oneGoes_124 : decode cX9_oneGoes 124 = .ok (.sipush 146, 3) := by decide +kernel
theorem dX9_oneGoes_127 : decode cX9_oneGoes 127 = .ok (.iload_n 2, 1) := by decide +kernel
theorem dX9_oneGoes_128 : decode cX9_oneGoes 128 = .ok (.iadd, 1) := by decide +kernel
theorem dX9_oneGoes_129 : decode cX9_oneGoes 129 = .ok (.aload_n 1, 1) := by decide +kernel
theorem dX9_oneGoes_130 : decode cX9_oneGoes 130 = .ok (.sipush 162, 3) := by decide +kernel
theorem dX9_oneGoes_133 : decode cX9_oneGoes 133 = .ok (.iload_n 2, 1) := by decide +kernel
theorem dX9_oneGoes_134 : decode cX9_oneGoes 134 = .ok (.iadd, 1) := by decide +kernel
theorem dX9_oneGoes_135 : decode cX9_oneGoes 135 = .ok (.iaload, 1) := by decide +kernel
theorem dX9_oneGoes_136 : decode cX9_oneGoes 136 = .ok (.iastore, 1) := by decide +kernel
theorem dX9_oneGoes_137 : decode cX9_oneGoes 137 = .ok (.aload_n 1, 1) := by decide +kernel
theorem dX9_oneGoes_138 : decode cX9_oneGoes 138 = .ok (.sipush 162, 3) := by decide +kernel
theorem dX9_oneGoes_141 : decode cX9_oneGoes 141 = .ok (.iload_n 2, 1) := by decide +kernel
theorem dX9_oneGoes_142 : decode cX9_oneGoes 142 = .ok (.iadd, 1) := by decide +kernel
theorem dX9_oneGoes_143 : decode cX9_oneGoes 143 = .ok (.bipush (-4), 2) := by decide +kernel
theorem dX9_oneGoes_145 : decode cX9_oneGoes 145 = .ok (.iastore, 1) := by decide +kernel
theorem dX9_oneGoes_146 : decode cX9_oneGoes 146 = .ok (.aload_n 1, 1) := by decide +kernel
theorem dX9_oneGoes_147 : decode cX9_oneGoes 147 = .ok (.sipush 158, 3) := by decide +kernel
theorem dX9_oneGoes_150 : decode cX9_oneGoes 150 = .ok (.iload_n 2, 1) := by decide +kernel
theorem dX9_oneGoes_151 : decode cX9_oneGoes 151 = .ok (.iadd, 1) := by decide +kernel
theorem dX9_oneGoes_152 : decode cX9_oneGoes 152 = .ok (.aload_n 1, 1) := by decide +kernel
theorem dX9_oneGoes_153 : decode cX9_oneGoes 153 = .ok (.sipush 146, 3) := by decide +kernel
theorem dX9_oneGoes_156 : decode cX9_oneGoes 156 = .ok (.iload_n 2, 1) := by decide +kernel
theorem dX9_oneGoes_157 : decode cX9_oneGoes 157 = .ok (.iadd, 1) := by decide +kernel
theorem dX9_oneGoes_158 : decode cX9_oneGoes 158 = .ok (.iaload, 1) := by decide +kernel
theorem dX9_oneGoes_159 : decode cX9_oneGoes 159 = .ok (.aload_n 1, 1) := by decide +kernel
theorem dX9_oneGoes_160 : decode cX9_oneGoes 160 = .ok (.sipush 150, 3) := by decide +kernel
theorem dX9_oneGoes_163 : decode cX9_oneGoes 163 = .ok (.iload_n 2, 1) := by decide +kernel
theorem dX9_oneGoes_164 : decode cX9_oneGoes 164 = .ok (.iadd, 1) := by decide +kernel
theorem dX9_oneGoes_165 : decode cX9_oneGoes 165 = .ok (.iaload, 1) := by decide +kernel
theorem dX9_oneGoes_166 : decode cX9_oneGoes 166 = .ok (.if_icmp .ne 7, 3) := by decide +kernel
theorem dX9_oneGoes_169 : decode cX9_oneGoes 169 = .ok (.iconst 1, 1) := by decide +kernel
theorem dX9_oneGoes_170 : decode cX9_oneGoes 170 = .ok (.goto 4, 3) := by decide +kernel
theorem dX9_oneGoes_173 : decode cX9_oneGoes 173 = .ok (.iconst 0, 1) := by decide +kernel
theorem dX9_oneGoes_174 : decode cX9_oneGoes 174 = .ok (.iastore, 1) := by decide +kernel
theorem dX9_oneGoes_175 : decode cX9_oneGoes 175 = .ok (.return_, 1) := by decide +kernel
theorem dX9_hourGoes_0 : decode cX9_hourGoes 0 = .ok (.iconst 0, 1) := by decide +kernel
theorem dX9_hourGoes_1 : decode cX9_hourGoes 1 = .ok (.istore_n 2, 1) := by decide +kernel
theorem dX9_hourGoes_2 : decode cX9_hourGoes 2 = .ok (.iload_n 2, 1) := by decide +kernel
theorem dX9_hourGoes_3 : decode cX9_hourGoes 3 = .ok (.aload_n 0, 1) := by decide +kernel
theorem dX9_hourGoes_4 : decode cX9_hourGoes 4 = .ok (.getfield 94, 3) := by decide +kernel
theorem dX9_hourGoes_7 : decode cX9_hourGoes 7 = .ok (.if_icmp .ge 15, 3) := by decide +kernel
theorem dX9_hourGoes_10 : decode cX9_hourGoes 10 = .ok (.aload_n 0, 1) := by decide +kernel
theorem dX9_hourGoes_11 : decode cX9_hourGoes 11 = .ok (.aload_n 1, 1) := by decide +kernel
theorem dX9_hourGoes_12 : decode cX9_hourGoes 12 = .ok (.iload_n 2, 1) := by decide +kernel
theorem dX9_hourGoes_13 : decode cX9_hourGoes 13 = .ok (.invokevirtual 214, 3) := by decide +kernel
theorem dX9_hourGoes_16 : decode cX9_hourGoes 16 = .ok (.iinc 2 1, 3) := by decide +kernel
theorem dX9_hourGoes_19 : decode cX9_hourGoes 19 = .ok (.goto (-17), 3) := by decide +kernel
theorem dX9_hourGoes_22 : decode cX9_hourGoes 22 = .ok (.aload_n 1, 1) := by decide +kernel
theorem dX9_hourGoes_23 : decode cX9_hourGoes 23 = .ok (.iconst 1, 1) := by decide +kernel
theorem dX9_hourGoes_24 : decode cX9_hourGoes 24 = .ok (.dup2, 1) := by decide +kernel
theorem dX9_hourGoes_25 : decode cX9_hourGoes 25 = .ok (.iaload, 1) := by decide +kernel
theorem dX9_hourGoes_26 : decode cX9_hourGoes 26 = .ok (.iconst 1, 1) := by decide +kernel
theorem dX9_hourGoes_27 : decode cX9_hourGoes 27 = .ok (.iadd, 1) := by decide +kernel
theorem dX9_hourGoes_28 : decode cX9_hourGoes 28 = .ok (.iastore, 1) := by decide +kernel
theorem dX9_hourGoes_29 : decode cX9_hourGoes 29 = .ok (.return_, 1) := by decide +kernel
theorem dX9_remember_0 : decode cX9_remember 0 = .ok (.aload_n 0, 1) := by decide +kernel
theorem dX9_remember_1 : decode cX9_remember 1 = .ok (.getfield 101, 3) := by decide +kernel
theorem dX9_remember_4 : decode cX9_remember 4 = .ok (.bipush 8, 2) := by decide +kernel
theorem dX9_remember_6 : decode cX9_remember 6 = .ok (.if_icmp .ne 44, 3) := by decide +kernel
theorem dX9_remember_9 : decode cX9_remember 9 = .ok (.iconst 0, 1) := by decide +kernel
theorem dX9_remember_10 : decode cX9_remember 10 = .ok (.istore_n 1, 1) := by decide +kernel
theorem dX9_remember_11 : decode cX9_remember 11 = .ok (.iload_n 1, 1) := by decide +kernel
theorem dX9_remember_12 : decode cX9_remember 12 = .ok (.sipush 1190, 3) := by decide +kernel
theorem dX9_remember_15 : decode cX9_remember 15 = .ok (.if_icmp .ge 25, 3) := by decide +kernel
theorem dX9_remember_18 : decode cX9_remember 18 = .ok (.aload_n 0, 1) := by decide +kernel
theorem dX9_remember_19 : decode cX9_remember 19 = .ok (.getfield 22, 3) := by decide +kernel
theorem dX9_remember_22 : decode cX9_remember 22 = .ok (.iload_n 1, 1) := by decide +kernel
theorem dX9_remember_23 : decode cX9_remember 23 = .ok (.aload_n 0, 1) := by decide +kernel
theorem dX9_remember_24 : decode cX9_remember 24 = .ok (.getfield 22, 3) := by decide +kernel
theorem dX9_remember_27 : decode cX9_remember 27 = .ok (.iload_n 1, 1) := by decide +kernel
theorem dX9_remember_28 : decode cX9_remember 28 = .ok (.sipush 170, 3) := by decide +kernel
theorem dX9_remember_31 : decode cX9_remember 31 = .ok (.iadd, 1) := by decide +kernel
theorem dX9_remember_32 : decode cX9_remember 32 = .ok (.iaload, 1) := by decide +kernel
theorem dX9_remember_33 : decode cX9_remember 33 = .ok (.iastore, 1) := by decide +kernel
theorem dX9_remember_34 : decode cX9_remember 34 = .ok (.iinc 1 1, 3) := by decide +kernel
theorem dX9_remember_37 : decode cX9_remember 37 = .ok (.goto (-26), 3) := by decide +kernel
theorem dX9_remember_40 : decode cX9_remember 40 = .ok (.aload_n 0, 1) := by decide +kernel
theorem dX9_remember_41 : decode cX9_remember 41 = .ok (.dup, 1) := by decide +kernel
theorem dX9_remember_42 : decode cX9_remember 42 = .ok (.getfield 101, 3) := by decide +kernel
theorem dX9_remember_45 : decode cX9_remember 45 = .ok (.iconst 1, 1) := by decide +kernel
theorem dX9_remember_46 : decode cX9_remember 46 = .ok (.isub, 1) := by decide +kernel
theorem dX9_remember_47 : decode cX9_remember 47 = .ok (.putfield 101, 3) := by decide +kernel
theorem dX9_remember_50 : decode cX9_remember 50 = .ok (.aload_n 0, 1) := by decide +kernel
theorem dX9_remember_51 : decode cX9_remember 51 = .ok (.getfield 16, 3) := by decide +kernel
theorem dX9_remember_54 : decode cX9_remember 54 = .ok (.iconst 0, 1) := by decide +kernel
theorem dX9_remember_55 : decode cX9_remember 55 = .ok (.aload_n 0, 1) := by decide +kernel
theorem dX9_remember_56 : decode cX9_remember 56 = .ok (.getfield 22, 3) := by decide +kernel
theorem dX9_remember_59 : decode cX9_remember 59 = .ok (.sipush 170, 3) := by decide +kernel
theorem dX9_remember_62 : decode cX9_remember 62 = .ok (.aload_n 0, 1) := by decide +kernel
theorem dX9_remember_63 : decode cX9_remember 63 = .ok (.getfield 101, 3) := by decide +kernel
theorem dX9_remember_66 : decode cX9_remember 66 = .ok (.imul, 1) := by decide +kernel
theorem dX9_remember_67 : decode cX9_remember 67 = .ok (.sipush 170, 3) := by decide +kernel
theorem dX9_remember_70 : decode cX9_remember 70 = .ok (.invokestatic 97, 3) := by decide +kernel
theorem dX9_remember_73 : decode cX9_remember 73 = .ok (.aload_n 0, 1) := by decide +kernel
theorem dX9_remember_74 : decode cX9_remember 74 = .ok (.dup, 1) := by decide +kernel
theorem dX9_remember_75 : decode cX9_remember 75 = .ok (.getfield 101, 3) := by decide +kernel
theorem dX9_remember_78 : decode cX9_remember 78 = .ok (.iconst 1, 1) := by decide +kernel
theorem dX9_remember_79 : decode cX9_remember 79 = .ok (.iadd, 1) := by decide +kernel
theorem dX9_remember_80 : decode cX9_remember 80 = .ok (.putfield 101, 3) := by decide +kernel
theorem dX9_remember_83 : decode cX9_remember 83 = .ok (.return_, 1) := by decide +kernel
theorem dX9_pass_0 : decode cX9_pass 0 = .ok (.iload_n 1, 1) := by decide +kernel
theorem dX9_pass_1 : decode cX9_pass 1 = .ok (.i2l, 1) := by decide +kernel
theorem dX9_pass_2 : decode cX9_pass 2 = .ok (.lconst 1, 1) := by decide +kernel
theorem dX9_pass_3 : decode cX9_pass 3 = .ok (.ldc2_w 218, 3) := by decide +kernel
theorem dX9_pass_6 : decode cX9_pass 6 = .ok (.invokestatic 114, 3) := by decide +kernel
theorem dX9_pass_9 : decode cX9_pass 9 = .ok (.ifCond .ne 5, 3) := by decide +kernel
theorem dX9_pass_12 : decode cX9_pass 12 = .ok (.iconst (-1), 1) := by decide +kernel
theorem dX9_pass_13 : decode cX9_pass 13 = .ok (.ireturn, 1) := by decide +kernel
theorem dX9_pass_14 : decode cX9_pass 14 = .ok (.aload_n 0, 1) := by decide +kernel
theorem dX9_pass_15 : decode cX9_pass 15 = .ok (.invokevirtual 220, 3) := by decide +kernel
theorem dX9_pass_18 : decode cX9_pass 18 = .ok (.iconst 0, 1) := by decide +kernel
theorem dX9_pass_19 : decode cX9_pass 19 = .ok (.istore_n 2, 1) := by decide +kernel
theorem dX9_pass_20 : decode cX9_pass 20 = .ok (.iload_n 2, 1) := by decide +kernel
theorem dX9_pass_21 : decode cX9_pass 21 = .ok (.iload_n 1, 1) := by decide +kernel
theorem dX9_pass_22 : decode cX9_pass 22 = .ok (.if_icmp .ge 17, 3) := by decide +kernel
theorem dX9_pass_25 : decode cX9_pass 25 = .ok (.aload_n 0, 1) := by decide +kernel
theorem dX9_pass_26 : decode cX9_pass 26 = .ok (.aload_n 0, 1) := by decide +kernel
theorem dX9_pass_27 : decode cX9_pass 27 = .ok (.getfield 16, 3) := by decide +kernel
theorem dX9_pass_30 : decode cX9_pass 30 = .ok (.invokevirtual 223, 3) := by decide +kernel
theorem dX9_pass_33 : decode cX9_pass 33 = .ok (.iinc 2 1, 3) := by decide +kernel
theorem dX9_pass_36 : decode cX9_pass 36 = .ok (.goto (-16), 3) := by decide +kernel
theorem dX9_pass_39 : decode cX9_pass 39 = .ok (.aload_n 0, 1) := by decide +kernel
theorem dX9_pass_40 : decode cX9_pass 40 = .ok (.getfield 16, 3) := by decide +kernel
theorem dX9_pass_43 : decode cX9_pass 43 = .ok (.iconst 1, 1) := by decide +kernel
theorem dX9_pass_44 : decode cX9_pass 44 = .ok (.iaload, 1) := by decide +kernel
theorem dX9_pass_45 : decode cX9_pass 45 = .ok (.ireturn, 1) := by decide +kernel
theorem dX9_rain_0 : decode cX9_rain 0 = .ok (.iload_n 1, 1) := by decide +kernel
theorem dX9_rain_1 : decode cX9_rain 1 = .ok (.i2l, 1) := by decide +kernel
theorem dX9_rain_2 : decode cX9_rain 2 = .ok (.lconst 0, 1) := by decide +kernel
theorem dX9_rain_3 : decode cX9_rain 3 = .ok (.ldc2_w 227, 3) := by decide +kernel
theorem dX9_rain_6 : decode cX9_rain 6 = .ok (.invokestatic 114, 3) := by decide +kernel
theorem dX9_rain_9 : decode cX9_rain 9 = .ok (.ifCond .ne 5, 3) := by decide +kernel
theorem dX9_rain_12 : decode cX9_rain 12 = .ok (.iconst (-1), 1) := by decide +kernel
theorem dX9_rain_13 : decode cX9_rain 13 = .ok (.ireturn, 1) := by decide +kernel
theorem dX9_rain_14 : decode cX9_rain 14 = .ok (.aload_n 0, 1) := by decide +kernel
theorem dX9_rain_15 : decode cX9_rain 15 = .ok (.invokevirtual 220, 3) := by decide +kernel
theorem dX9_rain_18 : decode cX9_rain 18 = .ok (.aload_n 0, 1) := by decide +kernel
theorem dX9_rain_19 : decode cX9_rain 19 = .ok (.getfield 16, 3) := by decide +kernel
theorem dX9_rain_22 : decode cX9_rain 22 = .ok (.iconst 0, 1) := by decide +kernel
theorem dX9_rain_23 : decode cX9_rain 23 = .ok (.iaload, 1) := by decide +kernel
theorem dX9_rain_24 : decode cX9_rain 24 = .ok (.istore_n 2, 1) := by decide +kernel
theorem dX9_rain_25 : decode cX9_rain 25 = .ok (.aload_n 0, 1) := by decide +kernel
theorem dX9_rain_26 : decode cX9_rain 26 = .ok (.getfield 16, 3) := by decide +kernel
theorem dX9_rain_29 : decode cX9_rain 29 = .ok (.iconst 0, 1) := by decide +kernel
theorem dX9_rain_30 : decode cX9_rain 30 = .ok (.iload_n 1, 1) := by decide +kernel
theorem dX9_rain_31 : decode cX9_rain 31 = .ok (.iastore, 1) := by decide +kernel
theorem dX9_rain_32 : decode cX9_rain 32 = .ok (.iload_n 2, 1) := by decide +kernel
theorem dX9_rain_33 : decode cX9_rain 33 = .ok (.ireturn, 1) := by decide +kernel
theorem dX9_retune_0 : decode cX9_retune 0 = .ok (.aload_n 0, 1) := by decide +kernel
theorem dX9_retune_1 : decode cX9_retune 1 = .ok (.iload_n 1, 1) := by decide +kernel
theorem dX9_retune_2 : decode cX9_retune 2 = .ok (.invokevirtual 198, 3) := by decide +kernel
theorem dX9_retune_5 : decode cX9_retune 5 = .ok (.ifCond .eq 23, 3) := by decide +kernel
theorem dX9_retune_8 : decode cX9_retune 8 = .ok (.aload_n 0, 1) := by decide +kernel
theorem dX9_retune_9 : decode cX9_retune 9 = .ok (.iload_n 2, 1) := by decide +kernel
theorem dX9_retune_10 : decode cX9_retune 10 = .ok (.invokevirtual 195, 3) := by decide +kernel
theorem dX9_retune_13 : decode cX9_retune 13 = .ok (.ifCond .eq 15, 3) := by decide +kernel
theorem dX9_retune_16 : decode cX9_retune 16 = .ok (.iload_n 3, 1) := by decide +kernel
theorem dX9_retune_17 : decode cX9_retune 17 = .ok (.i2l, 1) := by decide +kernel
theorem dX9_retune_18 : decode cX9_retune 18 = .ok (.lconst 0, 1) := by decide +kernel
theorem dX9_retune_19 : decode cX9_retune 19 = .ok (.ldc2_w 227, 3) := by decide +kernel
theorem dX9_retune_22 : decode cX9_retune 22 = .ok (.invokestatic 114, 3) := by decide +kernel
theorem dX9_retune_25 : decode cX9_retune 25 = .ok (.ifCond .ne 5, 3) := by decide +kernel
theorem dX9_retune_28 : decode cX9_retune 28 = .ok (.iconst (-1), 1) := by decide +kernel
theorem dX9_retune_29 : decode cX9_retune 29 = .ok (.ireturn, 1) := by decide +kernel
theorem dX9_retune_30 : decode cX9_retune 30 = .ok (.aload_n 0, 1) := by decide +kernel
theorem dX9_retune_31 : decode cX9_retune 31 = .ok (.invokevirtual 220, 3) := by decide +kernel
theorem dX9_retune_34 : decode cX9_retune 34 = .ok (.aload_n 0, 1) := by decide +kernel
theorem dX9_retune_35 : decode cX9_retune 35 = .ok (.getfield 16, 3) := by decide +kernel
theorem dX9_retune_38 : decode cX9_retune 38 = .ok (.iload_n 1, 1) := by decide +kernel
theorem dX9_retune_39 : decode cX9_retune 39 = .ok (.iload_n 2, 1) := by decide +kernel
theorem dX9_retune_40 : decode cX9_retune 40 = .ok (.invokestatic 172, 3) := by decide +kernel
theorem dX9_retune_43 : decode cX9_retune 43 = .ok (.istore 4, 2) := by decide +kernel
theorem dX9_retune_45 : decode cX9_retune 45 = .ok (.aload_n 0, 1) := by decide +kernel
theorem dX9_retune_46 : decode cX9_retune 46 = .ok (.getfield 16, 3) := by decide +kernel
theorem dX9_retune_49 : decode cX9_retune 49 = .ok (.iconst 2, 1) := by decide +kernel
theorem dX9_retune_50 : decode cX9_retune 50 = .ok (.bipush 36, 2) := by decide +kernel
theorem dX9_retune_52 : decode cX9_retune 52 = .ok (.iload_n 1, 1) := by decide +kernel
theorem dX9_retune_53 : decode cX9_retune 53 = .ok (.imul, 1) := by decide +kernel
theorem dX9_retune_54 : decode cX9_retune 54 = .ok (.iadd, 1) := by decide +kernel
theorem dX9_retune_55 : decode cX9_retune 55 = .ok (.iload_n 2, 1) := by decide +kernel
theorem dX9_retune_56 : decode cX9_retune 56 = .ok (.iadd, 1) := by decide +kernel
theorem dX9_retune_57 : decode cX9_retune 57 = .ok (.iload_n 3, 1) := by decide +kernel
theorem dX9_retune_58 : decode cX9_retune 58 = .ok (.iastore, 1) := by decide +kernel
theorem dX9_retune_59 : decode cX9_retune 59 = .ok (.iload 4, 2) := by decide +kernel
theorem dX9_retune_61 : decode cX9_retune 61 = .ok (.ireturn, 1) := by decide +kernel
theorem dX9_give_0 : decode cX9_give 0 = .ok (.aload_n 0, 1) := by decide +kernel
theorem dX9_give_1 : decode cX9_give 1 = .ok (.iload_n 1, 1) := by decide +kernel
theorem dX9_give_2 : decode cX9_give 2 = .ok (.invokevirtual 203, 3) := by decide +kernel
theorem dX9_give_5 : decode cX9_give 5 = .ok (.ifCond .eq 11, 3) := by decide +kernel
theorem dX9_give_8 : decode cX9_give 8 = .ok (.aload_n 0, 1) := by decide +kernel
theorem dX9_give_9 : decode cX9_give 9 = .ok (.iload_n 2, 1) := by decide +kernel
theorem dX9_give_10 : decode cX9_give 10 = .ok (.invokevirtual 198, 3) := by decide +kernel
theorem dX9_give_13 : decode cX9_give 13 = .ok (.ifCond .ne 5, 3) := by decide +kernel
theorem dX9_give_16 : decode cX9_give 16 = .ok (.iconst (-1), 1) := by decide +kernel
theorem dX9_give_17 : decode cX9_give 17 = .ok (.ireturn, 1) := by decide +kernel
theorem dX9_give_18 : decode cX9_give 18 = .ok (.aload_n 0, 1) := by decide +kernel
theorem dX9_give_19 : decode cX9_give 19 = .ok (.getfield 16, 3) := by decide +kernel
theorem dX9_give_22 : decode cX9_give 22 = .ok (.sipush 158, 3) := by decide +kernel
theorem dX9_give_25 : decode cX9_give 25 = .ok (.iload_n 1, 1) := by decide +kernel
theorem dX9_give_26 : decode cX9_give 26 = .ok (.iadd, 1) := by decide +kernel
theorem dX9_give_27 : decode cX9_give 27 = .ok (.iaload, 1) := by decide +kernel
theorem dX9_give_28 : decode cX9_give 28 = .ok (.ifCond .eq 6, 3) := by decide +kernel
theorem dX9_give_31 : decode cX9_give 31 = .ok (.bipush (-2), 2) := by decide +kernel
theorem dX9_give_33 : decode cX9_give 33 = .ok (.ireturn, 1) := by decide +kernel
theorem dX9_give_34 : decode cX9_give 34 = .ok (.aload_n 0, 1) := by decide +kernel
theorem dX9_give_35 : decode cX9_give 35 = .ok (.invokevirtual 220, 3) := by decide +kernel
theorem dX9_give_38 : decode cX9_give 38 = .ok (.aload_n 0, 1) := by decide +kernel
theorem dX9_give_39 : decode cX9_give 39 = .ok (.getfield 16, 3) := by decide +kernel
theorem dX9_give_42 : decode cX9_give 42 = .ok (.sipush 154, 3) := by decide +kernel
theorem dX9_give_45 : decode cX9_give 45 = .ok (.iload_n 1, 1) := by decide +kernel
theorem dX9_give_46 : decode cX9_give 46 = .ok (.iadd, 1) := by decide +kernel
theorem dX9_give_47 : decode cX9_give 47 = .ok (.iaload, 1) := by decide +kernel
theorem dX9_give_48 : decode cX9_give 48 = .ok (.istore_n 3, 1) := by decide +kernel
theorem dX9_give_49 : decode cX9_give 49 = .ok (.aload_n 0, 1) := by decide +kernel
theorem dX9_give_50 : decode cX9_give 50 = .ok (.getfield 16, 3) := by decide +kernel
theorem dX9_give_53 : decode cX9_give 53 = .ok (.sipush 154, 3) := by decide +kernel
theorem dX9_give_56 : decode cX9_give 56 = .ok (.iload_n 1, 1) := by decide +kernel
theorem dX9_give_57 : decode cX9_give 57 = .ok (.iadd, 1) := by decide +kernel
theorem dX9_give_58 : decode cX9_give 58 = .ok (.iload_n 2, 1) := by decide +kernel
theorem dX9_give_59 : decode cX9_give 59 = .ok (.iastore, 1) := by decide +kernel
theorem dX9_give_60 : decode cX9_give 60 = .ok (.iload_n 3, 1) := by decide +kernel
theorem dX9_give_61 : decode cX9_give 61 = .ok (.ireturn, 1) := by decide +kernel
theorem dX9_sends_0 : decode cX9_sends 0 = .ok (.aload_n 0, 1) := by decide +kernel
theorem dX9_sends_1 : decode cX9_sends 1 = .ok (.sipush 150, 3) := by decide +kernel
theorem dX9_sends_4 : decode cX9_sends 4 = .ok (.iload_n 1, 1) := by decide +kernel
theorem dX9_sends_5 : decode cX9_sends 5 = .ok (.iadd, 1) := by decide +kernel
theorem dX9_sends_6 : decode cX9_sends 6 = .ok (.iload_n 2, 1) := by decide +kernel
theorem dX9_sends_7 : decode cX9_sends 7 = .ok (.iastore, 1) := by decide +kernel
theorem dX9_sends_8 : decode cX9_sends 8 = .ok (.aload_n 0, 1) := by decide +kernel
theorem dX9_sends_9 : decode cX9_sends 9 = .ok (.sipush 158, 3) := by decide +kernel
theorem dX9_sends_12 : decode cX9_sends 12 = .ok (.iload_n 1, 1) := by decide +kernel
theorem dX9_sends_13 : decode cX9_sends 13 = .ok (.iadd, 1) := by decide +kernel
theorem dX9_sends_14 : decode cX9_sends 14 = .ok (.aload_n 0, 1) := by decide +kernel
theorem dX9_sends_15 : decode cX9_sends 15 = .ok (.sipush 166, 3) := by decide +kernel
theorem dX9_sends_18 : decode cX9_sends 18 = .ok (.iload_n 1, 1) := by decide +kernel
theorem dX9_sends_19 : decode cX9_sends 19 = .ok (.iadd, 1) := by decide +kernel
theorem dX9_sends_20 : decode cX9_sends 20 = .ok (.iaload, 1) := by decide +kernel
theorem dX9_sends_21 : decode cX9_sends 21 = .ok (.ifCond .ne 18, 3) := by decide +kernel
theorem dX9_sends_24 : decode cX9_sends 24 = .ok (.aload_n 0, 1) := by decide +kernel
theorem dX9_sends_25 : decode cX9_sends 25 = .ok (.sipush 146, 3) := by decide +kernel
theorem dX9_sends_28 : decode cX9_sends 28 = .ok (.iload_n 1, 1) := by decide +kernel
theorem dX9_sends_29 : decode cX9_sends 29 = .ok (.iadd, 1) := by decide +kernel
theorem dX9_sends_30 : decode cX9_sends 30 = .ok (.iaload, 1) := by decide +kernel
theorem dX9_sends_31 : decode cX9_sends 31 = .ok (.iload_n 2, 1) := by decide +kernel
theorem dX9_sends_32 : decode cX9_sends 32 = .ok (.if_icmp .ne 7, 3) := by decide +kernel
theorem dX9_sends_35 : decode cX9_sends 35 = .ok (.iconst 1, 1) := by decide +kernel
theorem dX9_sends_36 : decode cX9_sends 36 = .ok (.goto 4, 3) := by decide +kernel
theorem dX9_sends_39 : decode cX9_sends 39 = .ok (.iconst 0, 1) := by decide +kernel
theorem dX9_sends_40 : decode cX9_sends 40 = .ok (.iastore, 1) := by decide +kernel
theorem dX9_sends_41 : decode cX9_sends 41 = .ok (.return_, 1) := by decide +kernel
theorem dX9_send_0 : decode cX9_send 0 = .ok (.aload_n 0, 1) := by decide +kernel
theorem dX9_send_1 : decode cX9_send 1 = .ok (.iload_n 1, 1) := by decide +kernel
theorem dX9_send_2 : decode cX9_send 2 = .ok (.invokevirtual 203, 3) := by decide +kernel
theorem dX9_send_5 : decode cX9_send 5 = .ok (.ifCond .eq 11, 3) := by decide +kernel
theorem dX9_send_8 : decode cX9_send 8 = .ok (.aload_n 0, 1) := by decide +kernel
theorem dX9_send_9 : decode cX9_send 9 = .ok (.iload_n 2, 1) := by decide +kernel
theorem dX9_send_10 : decode cX9_send 10 = .ok (.invokevirtual 195, 3) := by decide +kernel
theorem dX9_send_13 : decode cX9_send 13 = .ok (.ifCond .ne 5, 3) := by decide +kernel
theorem dX9_send_16 : decode cX9_send 16 = .ok (.iconst (-1), 1) := by decide +kernel
theorem dX9_send_17 : decode cX9_send 17 = .ok (.ireturn, 1) := by decide +kernel
theorem dX9_send_18 : decode cX9_send 18 = .ok (.aload_n 0, 1) := by decide +kernel
theorem dX9_send_19 : decode cX9_send 19 = .ok (.getfield 16, 3) := by decide +kernel
theorem dX9_send_22 : decode cX9_send 22 = .ok (.sipush 158, 3) := by decide +kernel
theorem dX9_send_25 : decode cX9_send 25 = .ok (.iload_n 1, 1) := by decide +kernel
theorem dX9_send_26 : decode cX9_send 26 = .ok (.iadd, 1) := by decide +kernel
theorem dX9_send_27 : decode cX9_send 27 = .ok (.iaload, 1) := by decide +kernel
theorem dX9_send_28 : decode cX9_send 28 = .ok (.iconst 2, 1) := by decide +kernel
theorem dX9_send_29 : decode cX9_send 29 = .ok (.if_icmp .ne 6, 3) := by decide +kernel
theorem dX9_send_32 : decode cX9_send 32 = .ok (.bipush (-2), 2) := by decide +kernel
theorem dX9_send_34 : decode cX9_send 34 = .ok (.ireturn, 1) := by decide +kernel
theorem dX9_send_35 : decode cX9_send 35 = .ok (.aload_n 0, 1) := by decide +kernel
theorem dX9_send_36 : decode cX9_send 36 = .ok (.invokevirtual 220, 3) := by decide +kernel
theorem dX9_send_39 : decode cX9_send 39 = .ok (.aload_n 0, 1) := by decide +kernel
theorem dX9_send_40 : decode cX9_send 40 = .ok (.getfield 16, 3) := by decide +kernel
theorem dX9_send_43 : decode cX9_send 43 = .ok (.iload_n 1, 1) := by decide +kernel
theorem dX9_send_44 : decode cX9_send 44 = .ok (.iload_n 2, 1) := by decide +kernel
theorem dX9_send_45 : decode cX9_send 45 = .ok (.invokestatic 229, 3) := by decide +kernel
theorem dX9_send_48 : decode cX9_send 48 = .ok (.aload_n 0, 1) := by decide +kernel
theorem dX9_send_49 : decode cX9_send 49 = .ok (.getfield 16, 3) := by decide +kernel
theorem dX9_send_52 : decode cX9_send 52 = .ok (.sipush 158, 3) := by decide +kernel
theorem dX9_send_55 : decode cX9_send 55 = .ok (.iload_n 1, 1) := by decide +kernel
theorem dX9_send_56 : decode cX9_send 56 = .ok (.iadd, 1) := by decide +kernel
theorem dX9_send_57 : decode cX9_send 57 = .ok (.iaload, 1) := by decide +kernel
theorem dX9_send_58 : decode cX9_send 58 = .ok (.iconst 1, 1) := by decide +kernel
theorem dX9_send_59 : decode cX9_send 59 = .ok (.if_icmp .ne 7, 3) := by decide +kernel
theorem dX9_send_62 : decode cX9_send 62 = .ok (.iconst 1, 1) := by decide +kernel
theorem dX9_send_63 : decode cX9_send 63 = .ok (.goto 4, 3) := by decide +kernel
theorem dX9_send_66 : decode cX9_send 66 = .ok (.iconst 0, 1) := by decide +kernel
theorem dX9_send_67 : decode cX9_send 67 = .ok (.ireturn, 1) := by decide +kernel
theorem dX9_undo_0 : decode cX9_undo 0 = .ok (.aload_n 0, 1) := by decide +kernel
theorem dX9_undo_1 : decode cX9_undo 1 = .ok (.getfield 101, 3) := by decide +kernel
theorem dX9_undo_4 : decode cX9_undo 4 = .ok (.ifCond .ne 6, 3) := by decide +kernel
theorem dX9_undo_7 : decode cX9_undo 7 = .ok (.bipush (-2), 2) := by decide +kernel
theorem dX9_undo_9 : decode cX9_undo 9 = .ok (.ireturn, 1) := by decide +kernel
theorem dX9_undo_10 : decode cX9_undo 10 = .ok (.aload_n 0, 1) := by decide +kernel
theorem dX9_undo_11 : decode cX9_undo 11 = .ok (.dup, 1) := by decide +kernel
theorem dX9_undo_12 : decode cX9_undo 12 = .ok (.getfield 101, 3) := by decide +kernel
theorem dX9_undo_15 : decode cX9_undo 15 = .ok (.iconst 1, 1) := by decide +kernel
theorem dX9_undo_16 : decode cX9_undo 16 = .ok (.isub, 1) := by decide +kernel
theorem dX9_undo_17 : decode cX9_undo 17 = .ok (.putfield 101, 3) := by decide +kernel
theorem dX9_undo_20 : decode cX9_undo 20 = .ok (.aload_n 0, 1) := by decide +kernel
theorem dX9_undo_21 : decode cX9_undo 21 = .ok (.getfield 22, 3) := by decide +kernel
theorem dX9_undo_24 : decode cX9_undo 24 = .ok (.sipush 170, 3) := by decide +kernel
theorem dX9_undo_27 : decode cX9_undo 27 = .ok (.aload_n 0, 1) := by decide +kernel
theorem dX9_undo_28 : decode cX9_undo 28 = .ok (.getfield 101, 3) := by decide +kernel
theorem dX9_undo_31 : decode cX9_undo 31 = .ok (.imul, 1) := by decide +kernel
theorem dX9_undo_32 : decode cX9_undo 32 = .ok (.aload_n 0, 1) := by decide +kernel
theorem dX9_undo_33 : decode cX9_undo 33 = .ok (.getfield 16, 3) := by decide +kernel
theorem dX9_undo_36 : decode cX9_undo 36 = .ok (.iconst 0, 1) := by decide +kernel
theorem dX9_undo_37 : decode cX9_undo 37 = .ok (.sipush 170, 3) := by decide +kernel
theorem dX9_undo_40 : decode cX9_undo 40 = .ok (.invokestatic 97, 3) := by decide +kernel
theorem dX9_undo_43 : decode cX9_undo 43 = .ok (.aload_n 0, 1) := by decide +kernel
theorem dX9_undo_44 : decode cX9_undo 44 = .ok (.getfield 101, 3) := by decide +kernel
theorem dX9_undo_47 : decode cX9_undo 47 = .ok (.ireturn, 1) := by decide +kernel
theorem dX9_untilSo_0 : decode cX9_untilSo 0 = .ok (.iconst 0, 1) := by decide +kernel
theorem dX9_untilSo_1 : decode cX9_untilSo 1 = .ok (.istore_n 3, 1) := by decide +kernel
theorem dX9_untilSo_2 : decode cX9_untilSo 2 = .ok (.iload_n 3, 1) := by decide +kernel
theorem dX9_untilSo_3 : decode cX9_untilSo 3 = .ok (.bipush 61, 2) := by decide +kernel
theorem dX9_untilSo_5 : decode cX9_untilSo 5 = .ok (.if_icmp .ge 34, 3) := by decide +kernel
theorem dX9_untilSo_8 : decode cX9_untilSo 8 = .ok (.aload_n 0, 1) := by decide +kernel
theorem dX9_untilSo_9 : decode cX9_untilSo 9 = .ok (.getfield 19, 3) := by decide +kernel
theorem dX9_untilSo_12 : decode cX9_untilSo 12 = .ok (.sipush 158, 3) := by decide +kernel
theorem dX9_untilSo_15 : decode cX9_untilSo 15 = .ok (.iload_n 1, 1) := by decide +kernel
theorem dX9_untilSo_16 : decode cX9_untilSo 16 = .ok (.iadd, 1) := by decide +kernel
theorem dX9_untilSo_17 : decode cX9_untilSo 17 = .ok (.iaload, 1) := by decide +kernel
theorem dX9_untilSo_18 : decode cX9_untilSo 18 = .ok (.iload_n 2, 1) := by decide +kernel
theorem dX9_untilSo_19 : decode cX9_untilSo 19 = .ok (.if_icmp .ne 5, 3) := by decide +kernel
theorem dX9_untilSo_22 : decode cX9_untilSo 22 = .ok (.iload_n 3, 1) := by decide +kernel
theorem dX9_untilSo_23 : decode cX9_untilSo 23 = .ok (.ireturn, 1) := by decide +kernel
theorem dX9_untilSo_24 : decode cX9_untilSo 24 = .ok (.aload_n 0, 1) := by decide +kernel
theorem dX9_untilSo_25 : decode cX9_untilSo 25 = .ok (.aload_n 0, 1) := by decide +kernel
theorem dX9_untilSo_26 : decode cX9_untilSo 26 = .ok (.getfield 19, 3) := by decide +kernel
theorem dX9_untilSo_29 : decode cX9_untilSo 29 = .ok (.iload_n 1, 1) := by decide +kernel
theorem dX9_untilSo_30 : decode cX9_untilSo 30 = .ok (.invokevirtual 214, 3) := by decide +kernel
theorem dX9_untilSo_33 : decode cX9_untilSo 33 = .ok (.iinc 3 1, 3) := by decide +kernel
theorem dX9_untilSo_36 : decode cX9_untilSo 36 = .ok (.goto (-34), 3) := by decide +kernel
theorem dX9_untilSo_39 : decode cX9_untilSo 39 = .ok (.bipush (-4), 2) := by decide +kernel
theorem dX9_untilSo_41 : decode cX9_untilSo 41 = .ok (.ireturn, 1) := by decide +kernel
theorem dX9_untilNow_0 : decode cX9_untilNow 0 = .ok (.aload_n 0, 1) := by decide +kernel
theorem dX9_untilNow_1 : decode cX9_untilNow 1 = .ok (.getfield 16, 3) := by decide +kernel
theorem dX9_untilNow_4 : decode cX9_untilNow 4 = .ok (.iconst 0, 1) := by decide +kernel
theorem dX9_untilNow_5 : decode cX9_untilNow 5 = .ok (.aload_n 0, 1) := by decide +kernel
theorem dX9_untilNow_6 : decode cX9_untilNow 6 = .ok (.getfield 19, 3) := by decide +kernel
theorem dX9_untilNow_9 : decode cX9_untilNow 9 = .ok (.iconst 0, 1) := by decide +kernel
theorem dX9_untilNow_10 : decode cX9_untilNow 10 = .ok (.sipush 170, 3) := by decide +kernel
theorem dX9_untilNow_13 : decode cX9_untilNow 13 = .ok (.invokestatic 97, 3) := by decide +kernel
theorem dX9_untilNow_16 : decode cX9_untilNow 16 = .ok (.aload_n 0, 1) := by decide +kernel
theorem dX9_untilNow_17 : decode cX9_untilNow 17 = .ok (.iload_n 1, 1) := by decide +kernel
theorem dX9_untilNow_18 : decode cX9_untilNow 18 = .ok (.iload_n 2, 1) := by decide +kernel
theorem dX9_untilNow_19 : decode cX9_untilNow 19 = .ok (.invokevirtual 232, 3) := by decide +kernel
theorem dX9_untilNow_22 : decode cX9_untilNow 22 = .ok (.ireturn, 1) := by decide +kernel
theorem dX9_arrives_0 : decode cX9_arrives 0 = .ok (.aload_n 0, 1) := by decide +kernel
theorem dX9_arrives_1 : decode cX9_arrives 1 = .ok (.iload_n 1, 1) := by decide +kernel
theorem dX9_arrives_2 : decode cX9_arrives 2 = .ok (.invokevirtual 203, 3) := by decide +kernel
theorem dX9_arrives_5 : decode cX9_arrives 5 = .ok (.ifCond .eq 12, 3) := by decide +kernel
theorem dX9_arrives_8 : decode cX9_arrives 8 = .ok (.aload_n 0, 1) := by decide +kernel
theorem dX9_arrives_9 : decode cX9_arrives 9 = .ok (.iload_n 1, 1) := by decide +kernel
theorem dX9_arrives_10 : decode cX9_arrives 10 = .ok (.iconst 1, 1) := by decide +kernel
theorem dX9_arrives_11 : decode cX9_arrives 11 = .ok (.invokevirtual 235, 3) := by decide +kernel
theorem dX9_arrives_14 : decode cX9_arrives 14 = .ok (.goto 4, 3) := by decide +kernel
theorem dX9_arrives_17 : decode cX9_arrives 17 = .ok (.iconst (-1), 1) := by decide +kernel
theorem dX9_arrives_18 : decode cX9_arrives 18 = .ok (.ireturn, 1) := by decide +kernel
theorem dX9_loses_0 : decode cX9_loses 0 = .ok (.aload_n 0, 1) := by decide +kernel
theorem dX9_loses_1 : decode cX9_loses 1 = .ok (.iload_n 1, 1) := by decide +kernel
theorem dX9_loses_2 : decode cX9_loses 2 = .ok (.invokevirtual 203, 3) := by decide +kernel
theorem dX9_loses_5 : decode cX9_loses 5 = .ok (.ifCond .eq 12, 3) := by decide +kernel
theorem dX9_loses_8 : decode cX9_loses 8 = .ok (.aload_n 0, 1) := by decide +kernel
theorem dX9_loses_9 : decode cX9_loses 9 = .ok (.iload_n 1, 1) := by decide +kernel
theorem dX9_loses_10 : decode cX9_loses 10 = .ok (.iconst 2, 1) := by decide +kernel
theorem dX9_loses_11 : decode cX9_loses 11 = .ok (.invokevirtual 235, 3) := by decide +kernel
theorem dX9_loses_14 : decode cX9_loses 14 = .ok (.goto 4, 3) := by decide +kernel
theorem dX9_loses_17 : decode cX9_loses 17 = .ok (.iconst (-1), 1) := by decide +kernel
theorem dX9_loses_18 : decode cX9_loses 18 = .ok (.ireturn, 1) := by decide +kernel
theorem dX9_ledBy_0 : decode cX9_ledBy 0 = .ok (.aload_n 0, 1) := by decide +kernel
theorem dX9_ledBy_1 : decode cX9_ledBy 1 = .ok (.getfield 16, 3) := by decide +kernel
theorem dX9_ledBy_4 : decode cX9_ledBy 4 = .ok (.iconst 0, 1) := by decide +kernel
theorem dX9_ledBy_5 : decode cX9_ledBy 5 = .ok (.aload_n 0, 1) := by decide +kernel
theorem dX9_ledBy_6 : decode cX9_ledBy 6 = .ok (.getfield 19, 3) := by decide +kernel
theorem dX9_ledBy_9 : decode cX9_ledBy 9 = .ok (.iconst 0, 1) := by decide +kernel
theorem dX9_ledBy_10 : decode cX9_ledBy 10 = .ok (.sipush 170, 3) := by decide +kernel
theorem dX9_ledBy_13 : decode cX9_ledBy 13 = .ok (.invokestatic 97, 3) := by decide +kernel
theorem dX9_ledBy_16 : decode cX9_ledBy 16 = .ok (.aload_n 0, 1) := by decide +kernel
theorem dX9_ledBy_17 : decode cX9_ledBy 17 = .ok (.getfield 19, 3) := by decide +kernel
theorem dX9_ledBy_20 : decode cX9_ledBy 20 = .ok (.sipush 146, 3) := by decide +kernel
theorem dX9_ledBy_23 : decode cX9_ledBy 23 = .ok (.iload_n 2, 1) := by decide +kernel
theorem dX9_ledBy_24 : decode cX9_ledBy 24 = .ok (.iastore, 1) := by decide +kernel
theorem dX9_ledBy_25 : decode cX9_ledBy 25 = .ok (.aload_n 0, 1) := by decide +kernel
theorem dX9_ledBy_26 : decode cX9_ledBy 26 = .ok (.getfield 19, 3) := by decide +kernel
theorem dX9_ledBy_29 : decode cX9_ledBy 29 = .ok (.sipush 154, 3) := by decide +kernel
theorem dX9_ledBy_32 : decode cX9_ledBy 32 = .ok (.iload_n 1, 1) := by decide +kernel
theorem dX9_ledBy_33 : decode cX9_ledBy 33 = .ok (.iastore, 1) := by decide +kernel
theorem dX9_ledBy_34 : decode cX9_ledBy 34 = .ok (.aload_n 0, 1) := by decide +kernel
theorem dX9_ledBy_35 : decode cX9_ledBy 35 = .ok (.getfield 19, 3) := by decide +kernel
theorem dX9_ledBy_38 : decode cX9_ledBy 38 = .ok (.sipush 162, 3) := by decide +kernel
theorem dX9_ledBy_41 : decode cX9_ledBy 41 = .ok (.bipush (-4), 2) := by decide +kernel
theorem dX9_ledBy_43 : decode cX9_ledBy 43 = .ok (.iastore, 1) := by decide +kernel
theorem dX9_ledBy_44 : decode cX9_ledBy 44 = .ok (.aload_n 0, 1) := by decide +kernel
theorem dX9_ledBy_45 : decode cX9_ledBy 45 = .ok (.getfield 19, 3) := by decide +kernel
theorem dX9_ledBy_48 : decode cX9_ledBy 48 = .ok (.sipush 166, 3) := by decide +kernel
theorem dX9_ledBy_51 : decode cX9_ledBy 51 = .ok (.iconst 0, 1) := by decide +kernel
theorem dX9_ledBy_52 : decode cX9_ledBy 52 = .ok (.iastore, 1) := by decide +kernel
theorem dX9_ledBy_53 : decode cX9_ledBy 53 = .ok (.aload_n 0, 1) := by decide +kernel
theorem dX9_ledBy_54 : decode cX9_ledBy 54 = .ok (.getfield 19, 3) := by decide +kernel
theorem dX9_ledBy_57 : decode cX9_ledBy 57 = .ok (.iconst 0, 1) := by decide +kernel
theorem dX9_ledBy_58 : decode cX9_ledBy 58 = .ok (.iload_n 3, 1) := by decide +kernel
theorem dX9_ledBy_59 : decode cX9_ledBy 59 = .ok (.invokestatic 229, 3) := by decide +kernel
theorem dX9_ledBy_62 : decode cX9_ledBy 62 = .ok (.aload_n 0, 1) := by decide +kernel
theorem dX9_ledBy_63 : decode cX9_ledBy 63 = .ok (.iconst 0, 1) := by decide +kernel
theorem dX9_ledBy_64 : decode cX9_ledBy 64 = .ok (.iconst 1, 1) := by decide +kernel
theorem dX9_ledBy_65 : decode cX9_ledBy 65 = .ok (.invokevirtual 232, 3) := by decide +kernel
theorem dX9_ledBy_68 : decode cX9_ledBy 68 = .ok (.ireturn, 1) := by decide +kernel
theorem dX9_led_0 : decode cX9_led 0 = .ok (.aload_n 0, 1) := by decide +kernel
theorem dX9_led_1 : decode cX9_led 1 = .ok (.iload_n 1, 1) := by decide +kernel
theorem dX9_led_2 : decode cX9_led 2 = .ok (.invokevirtual 198, 3) := by decide +kernel
theorem dX9_led_5 : decode cX9_led 5 = .ok (.ifCond .eq 29, 3) := by decide +kernel
theorem dX9_led_8 : decode cX9_led 8 = .ok (.aload_n 0, 1) := by decide +kernel
theorem dX9_led_9 : decode cX9_led 9 = .ok (.iload_n 2, 1) := by decide +kernel
theorem dX9_led_10 : decode cX9_led 10 = .ok (.invokevirtual 195, 3) := by decide +kernel
theorem dX9_led_13 : decode cX9_led 13 = .ok (.ifCond .eq 21, 3) := by decide +kernel
theorem dX9_led_16 : decode cX9_led 16 = .ok (.aload_n 0, 1) := by decide +kernel
theorem dX9_led_17 : decode cX9_led 17 = .ok (.iload_n 3, 1) := by decide +kernel
theorem dX9_led_18 : decode cX9_led 18 = .ok (.invokevirtual 195, 3) := by decide +kernel
theorem dX9_led_21 : decode cX9_led 21 = .ok (.ifCond .eq 13, 3) := by decide +kernel
theorem dX9_led_24 : decode cX9_led 24 = .ok (.aload_n 0, 1) := by decide +kernel
theorem dX9_led_25 : decode cX9_led 25 = .ok (.iload_n 1, 1) := by decide +kernel
theorem dX9_led_26 : decode cX9_led 26 = .ok (.iload_n 2, 1) := by decide +kernel
theorem dX9_led_27 : decode cX9_led 27 = .ok (.iload_n 3, 1) := by decide +kernel
theorem dX9_led_28 : decode cX9_led 28 = .ok (.invokevirtual 238, 3) := by decide +kernel
theorem dX9_led_31 : decode cX9_led 31 = .ok (.goto 4, 3) := by decide +kernel
theorem dX9_led_34 : decode cX9_led 34 = .ok (.iconst (-1), 1) := by decide +kernel
theorem dX9_led_35 : decode cX9_led 35 = .ok (.ireturn, 1) := by decide +kernel
theorem dX9_fastest_0 : decode cX9_fastest 0 = .ok (.aload_n 0, 1) := by decide +kernel
theorem dX9_fastest_1 : decode cX9_fastest 1 = .ok (.iload_n 1, 1) := by decide +kernel
theorem dX9_fastest_2 : decode cX9_fastest 2 = .ok (.invokevirtual 203, 3) := by decide +kernel
theorem dX9_fastest_5 : decode cX9_fastest 5 = .ok (.ifCond .ne 5, 3) := by decide +kernel
theorem dX9_fastest_8 : decode cX9_fastest 8 = .ok (.iconst (-1), 1) := by decide +kernel
theorem dX9_fastest_9 : decode cX9_fastest 9 = .ok (.ireturn, 1) := by decide +kernel
theorem dX9_fastest_10 : decode cX9_fastest 10 = .ok (.aload_n 0, 1) := by decide +kernel
theorem dX9_fastest_11 : decode cX9_fastest 11 = .ok (.getfield 16, 3) := by decide +kernel
theorem dX9_fastest_14 : decode cX9_fastest 14 = .ok (.sipush 158, 3) := by decide +kernel
theorem dX9_fastest_17 : decode cX9_fastest 17 = .ok (.iload_n 1, 1) := by decide +kernel
theorem dX9_fastest_18 : decode cX9_fastest 18 = .ok (.iadd, 1) := by decide +kernel
theorem dX9_fastest_19 : decode cX9_fastest 19 = .ok (.iaload, 1) := by decide +kernel
theorem dX9_fastest_20 : decode cX9_fastest 20 = .ok (.ifCond .eq 6, 3) := by decide +kernel
theorem dX9_fastest_23 : decode cX9_fastest 23 = .ok (.bipush (-2), 2) := by decide +kernel
theorem dX9_fastest_25 : decode cX9_fastest 25 = .ok (.ireturn, 1) := by decide +kernel
theorem dX9_fastest_26 : decode cX9_fastest 26 = .ok (.bipush (-4), 2) := by decide +kernel
theorem dX9_fastest_28 : decode cX9_fastest 28 = .ok (.istore_n 2, 1) := by decide +kernel
theorem dX9_fastest_29 : decode cX9_fastest 29 = .ok (.ldc 176, 2) := by decide +kernel
theorem dX9_fastest_31 : decode cX9_fastest 31 = .ok (.istore_n 3, 1) := by decide +kernel
theorem dX9_fastest_32 : decode cX9_fastest 32 = .ok (.iconst 0, 1) := by decide +kernel
theorem dX9_fastest_33 : decode cX9_fastest 33 = .ok (.istore 4, 2) := by decide +kernel
theorem dX9_fastest_35 : decode cX9_fastest 35 = .ok (.iload 4, 2) := by decide +kernel
theorem dX9_fastest_37 : decode cX9_fastest 37 = .ok (.aload_n 0, 1) := by decide +kernel
theorem dX9_fastest_38 : decode cX9_fastest 38 = .ok (.getfield 91, 3) := by decide +kernel
theorem dX9_fastest_41 : decode cX9_fastest 41 = .ok (.if_icmp .ge 85, 3) := by decide +kernel
theorem dX9_fastest_44 : decode cX9_fastest 44 = .ok (.aload_n 0, 1) := by decide +kernel
theorem dX9_fastest_45 : decode cX9_fastest 45 = .ok (.getfield 16, 3) := by decide +kernel
theorem dX9_fastest_48 : decode cX9_fastest 48 = .ok (.iconst 0, 1) := by decide +kernel
theorem dX9_fastest_49 : decode cX9_fastest 49 = .ok (.aload_n 0, 1) := by decide +kernel
theorem dX9_fastest_50 : decode cX9_fastest 50 = .ok (.getfield 19, 3) := by decide +kernel
theorem dX9_fastest_53 : decode cX9_fastest 53 = .ok (.iconst 0, 1) := by decide +kernel
theorem dX9_fastest_54 : decode cX9_fastest 54 = .ok (.sipush 170, 3) := by decide +kernel
theorem dX9_fastest_57 : decode cX9_fastest 57 = .ok (.invokestatic 97, 3) := by decide +kernel
theorem dX9_fastest_60 : decode cX9_fastest 60 = .ok (.aload_n 0, 1) := by decide +kernel
theorem dX9_fastest_61 : decode cX9_fastest 61 = .ok (.getfield 19, 3) := by decide +kernel
theorem dX9_fastest_64 : decode cX9_fastest 64 = .ok (.sipush 154, 3) := by decide +kernel
theorem dX9_fastest_67 : decode cX9_fastest 67 = .ok (.iload_n 1, 1) := by decide +kernel
theorem dX9_fastest_68 : decode cX9_fastest 68 = .ok (.iadd, 1) := by decide +kernel
theorem dX9_fastest_69 : decode cX9_fastest 69 = .ok (.iload 4, 2) := by decide +kernel
theorem dX9_fastest_71 : decode cX9_fastest 71 = .ok (.iastore, 1) := by decide +kernel
theorem dX9_fastest_72 : decode cX9_fastest 72 = .ok (.aload_n 0, 1) := by decide +kernel
theorem dX9_fastest_73 : decode cX9_fastest 73 = .ok (.iload_n 1, 1) := by decide +kernel
theorem dX9_fastest_74 : decode cX9_fastest 74 = .ok (.iconst 1, 1) := by decide +kernel
theorem dX9_fastest_75 : decode cX9_fastest 75 = .ok (.invokevirtual 232, 3) := by decide +kernel
theorem dX9_fastest_78 : decode cX9_fastest 78 = .ok (.istore 5, 2) := by decide +kernel
theorem dX9_fastest_80 : decode cX9_fastest 80 = .ok (.iload 5, 2) := by decide +kernel
theorem dX9_fastest_82 : decode cX9_fastest 82 = .ok (.bipush (-4), 2) := by decide +kernel
theorem dX9_fastest_84 : decode cX9_fastest 84 = .ok (.if_icmp .eq 14, 3) := by decide +kernel
theorem dX9_fastest_87 : decode cX9_fastest 87 = .ok (.iload 5, 2) := by decide +kernel
theorem dX9_fastest_89 : decode cX9_fastest 89 = .ok (.iload_n 3, 1) := by decide +kernel
theorem dX9_fastest_90 : decode cX9_fastest 90 = .ok (.if_icmp .ge 8, 3) := by decide +kernel
theorem dX9_fastest_93 : decode cX9_fastest 93 = .ok (.iload 4, 2) := by decide +kernel
theorem dX9_fastest_95 : decode cX9_fastest 95 = .ok (.goto 4, 3) := by decide +kernel
theorem dX9_fastest_98 : decode cX9_fastest 98 = .ok (.iload_n 2, 1) := by decide +kernel
theorem dX9_fastest_99 : decode cX9_fastest 99 = .ok (.istore_n 2, 1) := by decide +kernel
theorem dX9_fastest_100 : decode cX9_fastest 100 = .ok (.iload 5, 2) := by decide +kernel
theorem dX9_fastest_102 : decode cX9_fastest 102 = .ok (.bipush (-4), 2) := by decide +kernel
theorem dX9_fastest_104 : decode cX9_fastest 104 = .ok (.if_icmp .eq 14, 3) := by decide +kernel
theorem dX9_fastest_107 : decode cX9_fastest 107 = .ok (.iload 5, 2) := by decide +kernel
theorem dX9_fastest_109 : decode cX9_fastest 109 = .ok (.iload_n 3, 1) := by decide +kernel
theorem dX9_fastest_110 : decode cX9_fastest 110 = .ok (.if_icmp .ge 8, 3) := by decide +kernel
theorem dX9_fastest_113 : decode cX9_fastest 113 = .ok (.iload 5, 2) := by decide +kernel
theorem dX9_fastest_115 : decode cX9_fastest 115 = .ok (.goto 4, 3) := by decide +kernel
theorem dX9_fastest_118 : decode cX9_fastest 118 = .ok (.iload_n 3, 1) := by decide +kernel
theorem dX9_fastest_119 : decode cX9_fastest 119 = .ok (.istore_n 3, 1) := by decide +kernel
theorem dX9_fastest_120 : decode cX9_fastest 120 = .ok (.iinc 4 1, 3) := by decide +kernel
theorem dX9_fastest_123 : decode cX9_fastest 123 = .ok (.goto (-88), 3) := by decide +kernel
theorem dX9_fastest_126 : decode cX9_fastest 126 = .ok (.iload_n 2, 1) := by decide +kernel
theorem dX9_fastest_127 : decode cX9_fastest 127 = .ok (.ireturn, 1) := by decide +kernel
theorem dX9_tune_0 : decode cX9_tune 0 = .ok (.aload_n 0, 1) := by decide +kernel
theorem dX9_tune_1 : decode cX9_tune 1 = .ok (.iload_n 1, 1) := by decide +kernel
theorem dX9_tune_2 : decode cX9_tune 2 = .ok (.invokevirtual 203, 3) := by decide +kernel
theorem dX9_tune_5 : decode cX9_tune 5 = .ok (.ifCond .ne 5, 3) := by decide +kernel
theorem dX9_tune_8 : decode cX9_tune 8 = .ok (.iconst (-1), 1) := by decide +kernel
theorem dX9_tune_9 : decode cX9_tune 9 = .ok (.ireturn, 1) := by decide +kernel
theorem dX9_tune_10 : decode cX9_tune 10 = .ok (.aload_n 0, 1) := by decide +kernel
theorem dX9_tune_11 : decode cX9_tune 11 = .ok (.getfield 16, 3) := by decide +kernel
theorem dX9_tune_14 : decode cX9_tune 14 = .ok (.sipush 158, 3) := by decide +kernel
theorem dX9_tune_17 : decode cX9_tune 17 = .ok (.iload_n 1, 1) := by decide +kernel
theorem dX9_tune_18 : decode cX9_tune 18 = .ok (.iadd, 1) := by decide +kernel
theorem dX9_tune_19 : decode cX9_tune 19 = .ok (.iaload, 1) := by decide +kernel
theorem dX9_tune_20 : decode cX9_tune 20 = .ok (.ifCond .eq 6, 3) := by decide +kernel
theorem dX9_tune_23 : decode cX9_tune 23 = .ok (.bipush (-2), 2) := by decide +kernel
theorem dX9_tune_25 : decode cX9_tune 25 = .ok (.ireturn, 1) := by decide +kernel
theorem dX9_tune_26 : decode cX9_tune 26 = .ok (.aload_n 0, 1) := by decide +kernel
theorem dX9_tune_27 : decode cX9_tune 27 = .ok (.iload_n 1, 1) := by decide +kernel
theorem dX9_tune_28 : decode cX9_tune 28 = .ok (.iconst 1, 1) := by decide +kernel
theorem dX9_tune_29 : decode cX9_tune 29 = .ok (.invokevirtual 235, 3) := by decide +kernel
theorem dX9_tune_32 : decode cX9_tune 32 = .ok (.istore_n 2, 1) := by decide +kernel
theorem dX9_tune_33 : decode cX9_tune 33 = .ok (.iload_n 2, 1) := by decide +kernel
theorem dX9_tune_34 : decode cX9_tune 34 = .ok (.bipush (-4), 2) := by decide +kernel
theorem dX9_tune_36 : decode cX9_tune 36 = .ok (.if_icmp .ne 8, 3) := by decide +kernel
theorem dX9_tune_39 : decode cX9_tune 39 = .ok (.ldc 176, 2) := by decide +kernel
theorem dX9_tune_41 : decode cX9_tune 41 = .ok (.goto 4, 3) := by decide +kernel
theorem dX9_tune_44 : decode cX9_tune 44 = .ok (.iload_n 2, 1) := by decide +kernel
theorem dX9_tune_45 : decode cX9_tune 45 = .ok (.istore_n 3, 1) := by decide +kernel
theorem dX9_tune_46 : decode cX9_tune 46 = .ok (.bipush (-4), 2) := by decide +kernel
theorem dX9_tune_48 : decode cX9_tune 48 = .ok (.istore 4, 2) := by decide +kernel
theorem dX9_tune_50 : decode cX9_tune 50 = .ok (.iconst 2, 1) := by decide +kernel
theorem dX9_tune_51 : decode cX9_tune 51 = .ok (.bipush 36, 2) := by decide +kernel
theorem dX9_tune_53 : decode cX9_tune 53 = .ok (.aload_n 0, 1) := by decide +kernel
theorem dX9_tune_54 : decode cX9_tune 54 = .ok (.getfield 16, 3) := by decide +kernel
theorem dX9_tune_57 : decode cX9_tune 57 = .ok (.sipush 154, 3) := by decide +kernel
theorem dX9_tune_60 : decode cX9_tune 60 = .ok (.iload_n 1, 1) := by decide +kernel
theorem dX9_tune_61 : decode cX9_tune 61 = .ok (.iadd, 1) := by decide +kernel
theorem dX9_tune_62 : decode cX9_tune 62 = .ok (.iaload, 1) := by decide +kernel
theorem dX9_tune_63 : decode cX9_tune 63 = .ok (.imul, 1) := by decide +kernel
theorem dX9_tune_64 : decode cX9_tune 64 = .ok (.iadd, 1) := by decide +kernel
theorem dX9_tune_65 : decode cX9_tune 65 = .ok (.istore 5, 2) := by decide +kernel
theorem dX9_tune_67 : decode cX9_tune 67 = .ok (.iconst 0, 1) := by decide +kernel
theorem dX9_tune_68 : decode cX9_tune 68 = .ok (.istore 6, 2) := by decide +kernel
theorem dX9_tune_70 : decode cX9_tune 70 = .ok (.iload 6, 2) := by decide +kernel
theorem dX9_tune_72 : decode cX9_tune 72 = .ok (.aload_n 0, 1) := by decide +kernel
theorem dX9_tune_73 : decode cX9_tune 73 = .ok (.getfield 85, 3) := by decide +kernel
theorem dX9_tune_76 : decode cX9_tune 76 = .ok (.aload_n 0, 1) := by decide +kernel
theorem dX9_tune_77 : decode cX9_tune 77 = .ok (.getfield 88, 3) := by decide +kernel
theorem dX9_tune_80 : decode cX9_tune 80 = .ok (.imul, 1) := by decide +kernel
theorem dX9_tune_81 : decode cX9_tune 81 = .ok (.if_icmp .ge 112, 3) := by decide +kernel
theorem dX9_tune_84 : decode cX9_tune 84 = .ok (.aload_n 0, 1) := by decide +kernel
theorem dX9_tune_85 : decode cX9_tune 85 = .ok (.getfield 16, 3) := by decide +kernel
theorem dX9_tune_88 : decode cX9_tune 88 = .ok (.iload 5, 2) := by decide +kernel
theorem dX9_tune_90 : decode cX9_tune 90 = .ok (.iload 6, 2) := by decide +kernel
theorem dX9_tune_92 : decode cX9_tune 92 = .ok (.iadd, 1) := by decide +kernel
theorem dX9_tune_93 : decode cX9_tune 93 = .ok (.iaload, 1) := by decide +kernel
theorem dX9_tune_94 : decode cX9_tune 94 = .ok (.aload_n 0, 1) := by decide +kernel
theorem dX9_tune_95 : decode cX9_tune 95 = .ok (.getfield 7, 3) := by decide +kernel
theorem dX9_tune_98 : decode cX9_tune 98 = .ok (.iload 6, 2) := by decide +kernel
theorem dX9_tune_100 : decode cX9_tune 100 = .ok (.iaload, 1) := by decide +kernel
theorem dX9_tune_101 : decode cX9_tune 101 = .ok (.if_icmp .eq 86, 3) := by decide +kernel
theorem dX9_tune_104 : decode cX9_tune 104 = .ok (.aload_n 0, 1) := by decide +kernel
theorem dX9_tune_105 : decode cX9_tune 105 = .ok (.getfield 16, 3) := by decide +kernel
theorem dX9_tune_108 : decode cX9_tune 108 = .ok (.iconst 0, 1) := by decide +kernel
theorem dX9_tune_109 : decode cX9_tune 109 = .ok (.aload_n 0, 1) := by decide +kernel
theorem dX9_tune_110 : decode cX9_tune 110 = .ok (.getfield 19, 3) := by decide +kernel
theorem dX9_tune_113 : decode cX9_tune 113 = .ok (.iconst 0, 1) := by decide +kernel
theorem dX9_tune_114 : decode cX9_tune 114 = .ok (.sipush 170, 3) := by decide +kernel
theorem dX9_tune_117 : decode cX9_tune 117 = .ok (.invokestatic 97, 3) := by decide +kernel
theorem dX9_tune_120 : decode cX9_tune 120 = .ok (.aload_n 0, 1) := by decide +kernel
theorem dX9_tune_121 : decode cX9_tune 121 = .ok (.getfield 19, 3) := by decide +kernel
theorem dX9_tune_124 : decode cX9_tune 124 = .ok (.iload 5, 2) := by decide +kernel
theorem dX9_tune_126 : decode cX9_tune 126 = .ok (.iload 6, 2) := by decide +kernel
theorem dX9_tune_128 : decode cX9_tune 128 = .ok (.iadd, 1) := by decide +kernel
theorem dX9_tune_129 : decode cX9_tune 129 = .ok (.aload_n 0, 1) := by decide +kernel
theorem dX9_tune_130 : decode cX9_tune 130 = .ok (.getfield 7, 3) := by decide +kernel
theorem dX9_tune_133 : decode cX9_tune 133 = .ok (.iload 6, 2) := by decide +kernel
theorem dX9_tune_135 : decode cX9_tune 135 = .ok (.iaload, 1) := by decide +kernel
theorem dX9_tune_136 : decode cX9_tune 136 = .ok (.iastore, 1) := by decide +kernel
theorem dX9_tune_137 : decode cX9_tune 137 = .ok (.aload_n 0, 1) := by decide +kernel
theorem dX9_tune_138 : decode cX9_tune 138 = .ok (.iload_n 1, 1) := by decide +kernel
theorem dX9_tune_139 : decode cX9_tune 139 = .ok (.iconst 1, 1) := by decide +kernel
theorem dX9_tune_140 : decode cX9_tune 140 = .ok (.invokevirtual 232, 3) := by decide +kernel
theorem dX9_tune_143 : decode cX9_tune 143 = .ok (.istore 7, 2) := by decide +kernel
theorem dX9_tune_145 : decode cX9_tune 145 = .ok (.iload 7, 2) := by decide +kernel
theorem dX9_tune_147 : decode cX9_tune 147 = .ok (.bipush (-4), 2) := by decide +kernel
theorem dX9_tune_149 : decode cX9_tune 149 = .ok (.if_icmp .eq 14, 3) := by decide +kernel
theorem dX9_tune_152 : decode cX9_tune 152 = .ok (.iload 7, 2) := by decide +kernel
theorem dX9_tune_154 : decode cX9_tune 154 = .ok (.iload_n 3, 1) := by decide +kernel
theorem dX9_tune_155 : decode cX9_tune 155 = .ok (.if_icmp .ge 8, 3) := by decide +kernel
theorem dX9_tune_158 : decode cX9_tune 158 = .ok (.iload 6, 2) := by decide +kernel
theorem dX9_tune_160 : decode cX9_tune 160 = .ok (.goto 5, 3) := by decide +kernel
theorem dX9_tune_163 : decode cX9_tune 163 = .ok (.iload 4, 2) := by decide +kernel
theorem dX9_tune_165 : decode cX9_tune 165 = .ok (.istore 4, 2) := by decide +kernel
theorem dX9_tune_167 : decode cX9_tune 167 = .ok (.iload 7, 2) := by decide +kernel
theorem dX9_tune_169 : decode cX9_tune 169 = .ok (.bipush (-4), 2) := by decide +kernel
theorem dX9_tune_171 : decode cX9_tune 171 = .ok (.if_icmp .eq 14, 3) := by decide +kernel
theorem dX9_tune_174 : decode cX9_tune 174 = .ok (.iload 7, 2) := by decide +kernel
theorem dX9_tune_176 : decode cX9_tune 176 = .ok (.iload_n 3, 1) := by decide +kernel
theorem dX9_tune_177 : decode cX9_tune 177 = .ok (.if_icmp .ge 8, 3) := by decide +kernel
theorem dX9_tune_180 : decode cX9_tune 180 = .ok (.iload 7, 2) := by decide +kernel
theorem dX9_tune_182 : decode cX9_tune 182 = .ok (.goto 4, 3) := by decide +kernel
theorem dX9_tune_185 : decode cX9_tune 185 = .ok (.iload_n 3, 1) := by decide +kernel
theorem dX9_tune_186 : decode cX9_tune 186 = .ok (.istore_n 3, 1) := by decide +kernel
theorem dX9_tune_187 : decode cX9_tune 187 = .ok (.iinc 6 1, 3) := by decide +kernel
theorem dX9_tune_190 : decode cX9_tune 190 = .ok (.goto (-120), 3) := by decide +kernel
theorem dX9_tune_193 : decode cX9_tune 193 = .ok (.iload 4, 2) := by decide +kernel
theorem dX9_tune_195 : decode cX9_tune 195 = .ok (.ireturn, 1) := by decide +kernel
theorem dX9_meet_0 : decode cX9_meet 0 = .ok (.aload_n 0, 1) := by decide +kernel
theorem dX9_meet_1 : decode cX9_meet 1 = .ok (.iload_n 1, 1) := by decide +kernel
theorem dX9_meet_2 : decode cX9_meet 2 = .ok (.invokevirtual 203, 3) := by decide +kernel
theorem dX9_meet_5 : decode cX9_meet 5 = .ok (.ifCond .eq 16, 3) := by decide +kernel
theorem dX9_meet_8 : decode cX9_meet 8 = .ok (.aload_n 0, 1) := by decide +kernel
theorem dX9_meet_9 : decode cX9_meet 9 = .ok (.iload_n 2, 1) := by decide +kernel
theorem dX9_meet_10 : decode cX9_meet 10 = .ok (.invokevirtual 203, 3) := by decide +kernel
theorem dX9_meet_13 : decode cX9_meet 13 = .ok (.ifCond .eq 8, 3) := by decide +kernel
theorem dX9_meet_16 : decode cX9_meet 16 = .ok (.iload_n 1, 1) := by decide +kernel
theorem dX9_meet_17 : decode cX9_meet 17 = .ok (.iload_n 2, 1) := by decide +kernel
theorem dX9_meet_18 : decode cX9_meet 18 = .ok (.if_icmp .ne 5, 3) := by decide +kernel
theorem dX9_meet_21 : decode cX9_meet 21 = .ok (.iconst (-1), 1) := by decide +kernel
theorem dX9_meet_22 : decode cX9_meet 22 = .ok (.ireturn, 1) := by decide +kernel
theorem dX9_meet_23 : decode cX9_meet 23 = .ok (.aload_n 0, 1) := by decide +kernel
theorem dX9_meet_24 : decode cX9_meet 24 = .ok (.getfield 16, 3) := by decide +kernel
theorem dX9_meet_27 : decode cX9_meet 27 = .ok (.iconst 0, 1) := by decide +kernel
theorem dX9_meet_28 : decode cX9_meet 28 = .ok (.aload_n 0, 1) := by decide +kernel
theorem dX9_meet_29 : decode cX9_meet 29 = .ok (.getfield 19, 3) := by decide +kernel
theorem dX9_meet_32 : decode cX9_meet 32 = .ok (.iconst 0, 1) := by decide +kernel
theorem dX9_meet_33 : decode cX9_meet 33 = .ok (.sipush 170, 3) := by decide +kernel
theorem dX9_meet_36 : decode cX9_meet 36 = .ok (.invokestatic 97, 3) := by decide +kernel
theorem dX9_meet_39 : decode cX9_meet 39 = .ok (.iconst 0, 1) := by decide +kernel
theorem dX9_meet_40 : decode cX9_meet 40 = .ok (.istore_n 3, 1) := by decide +kernel
theorem dX9_meet_41 : decode cX9_meet 41 = .ok (.iload_n 3, 1) := by decide +kernel
theorem dX9_meet_42 : decode cX9_meet 42 = .ok (.bipush 61, 2) := by decide +kernel
theorem dX9_meet_44 : decode cX9_meet 44 = .ok (.if_icmp .ge 78, 3) := by decide +kernel
theorem dX9_meet_47 : decode cX9_meet 47 = .ok (.aload_n 0, 1) := by decide +kernel
theorem dX9_meet_48 : decode cX9_meet 48 = .ok (.getfield 19, 3) := by decide +kernel
theorem dX9_meet_51 : decode cX9_meet 51 = .ok (.sipush 146, 3) := by decide +kernel
theorem dX9_meet_54 : decode cX9_meet 54 = .ok (.iload_n 1, 1) := by decide +kernel
theorem dX9_meet_55 : decode cX9_meet 55 = .ok (.iadd, 1) := by decide +kernel
theorem dX9_meet_56 : decode cX9_meet 56 = .ok (.iaload, 1) := by decide +kernel
theorem dX9_meet_57 : decode cX9_meet 57 = .ok (.aload_n 0, 1) := by decide +kernel
theorem dX9_meet_58 : decode cX9_meet 58 = .ok (.getfield 19, 3) := by decide +kernel
theorem dX9_meet_61 : decode cX9_meet 61 = .ok (.sipush 146, 3) := by decide +kernel
theorem dX9_meet_64 : decode cX9_meet 64 = .ok (.iload_n 2, 1) := by decide +kernel
theorem dX9_meet_65 : decode cX9_meet 65 = .ok (.iadd, 1) := by decide +kernel
theorem dX9_meet_66 : decode cX9_meet 66 = .ok (.iaload, 1) := by decide +kernel
theorem dX9_meet_67 : decode cX9_meet 67 = .ok (.if_icmp .ne 31, 3) := by decide +kernel
theorem dX9_meet_70 : decode cX9_meet 70 = .ok (.aload_n 0, 1) := by decide +kernel
theorem dX9_meet_71 : decode cX9_meet 71 = .ok (.getfield 19, 3) := by decide +kernel
theorem dX9_meet_74 : decode cX9_meet 74 = .ok (.sipush 166, 3) := by decide +kernel
theorem dX9_meet_77 : decode cX9_meet 77 = .ok (.iload_n 1, 1) := by decide +kernel
theorem dX9_meet_78 : decode cX9_meet 78 = .ok (.iadd, 1) := by decide +kernel
theorem dX9_meet_79 : decode cX9_meet 79 = .ok (.iaload, 1) := by decide +kernel
theorem dX9_meet_80 : decode cX9_meet 80 = .ok (.ifCond .ne 18, 3) := by decide +kernel
theorem dX9_meet_83 : decode cX9_meet 83 = .ok (.aload_n 0, 1) := by decide +kernel
theorem dX9_meet_84 : decode cX9_meet 84 = .ok (.getfield 19, 3) := by decide +kernel
theorem dX9_meet_87 : decode cX9_meet 87 = .ok (.sipush 166, 3) := by decide +kernel
theorem dX9_meet_90 : decode cX9_meet 90 = .ok (.iload_n 2, 1) := by decide +kernel
theorem dX9_meet_91 : decode cX9_meet 91 = .ok (.iadd, 1) := by decide +kernel
theorem dX9_meet_92 : decode cX9_meet 92 = .ok (.iaload, 1) := by decide +kernel
theorem dX9_meet_93 : decode cX9_meet 93 = .ok (.ifCond .ne 5, 3) := by decide +kernel
theorem dX9_meet_96 : decode cX9_meet 96 = .ok (.iload_n 3, 1) := by decide +kernel
theorem dX9_meet_97 : decode cX9_meet 97 = .ok (.ireturn, 1) := by decide +kernel
theorem dX9_meet_98 : decode cX9_meet 98 = .ok (.aload_n 0, 1) := by decide +kernel
theorem dX9_meet_99 : decode cX9_meet 99 = .ok (.aload_n 0, 1) := by decide +kernel
theorem dX9_meet_100 : decode cX9_meet 100 = .ok (.getfield 19, 3) := by decide +kernel
theorem dX9_meet_103 : decode cX9_meet 103 = .ok (.iload_n 1, 1) := by decide +kernel
theorem dX9_meet_104 : decode cX9_meet 104 = .ok (.invokevirtual 214, 3) := by decide +kernel
theorem dX9_meet_107 : decode cX9_meet 107 = .ok (.aload_n 0, 1) := by decide +kernel
theorem dX9_meet_108 : decode cX9_meet 108 = .ok (.aload_n 0, 1) := by decide +kernel
theorem dX9_meet_109 : decode cX9_meet 109 = .ok (.getfield 19, 3) := by decide +kernel
theorem dX9_meet_112 : decode cX9_meet 112 = .ok (.iload_n 2, 1) := by decide +kernel
theorem dX9_meet_113 : decode cX9_meet 113 = .ok (.invokevirtual 214, 3) := by decide +kernel
theorem dX9_meet_116 : decode cX9_meet 116 = .ok (.iinc 3 1, 3) := by decide +kernel
theorem dX9_meet_119 : decode cX9_meet 119 = .ok (.goto (-78), 3) := by decide +kernel
theorem dX9_meet_122 : decode cX9_meet 122 = .ok (.bipush (-4), 2) := by decide +kernel
theorem dX9_meet_124 : decode cX9_meet 124 = .ok (.ireturn, 1) := by decide +kernel
theorem dX9_clash_0 : decode cX9_clash 0 = .ok (.aload_n 0, 1) := by decide +kernel
theorem dX9_clash_1 : decode cX9_clash 1 = .ok (.iload_n 1, 1) := by decide +kernel
theorem dX9_clash_2 : decode cX9_clash 2 = .ok (.invokevirtual 198, 3) := by decide +kernel
theorem dX9_clash_5 : decode cX9_clash 5 = .ok (.ifCond .eq 26, 3) := by decide +kernel
theorem dX9_clash_8 : decode cX9_clash 8 = .ok (.aload_n 0, 1) := by decide +kernel
theorem dX9_clash_9 : decode cX9_clash 9 = .ok (.iload_n 2, 1) := by decide +kernel
theorem dX9_clash_10 : decode cX9_clash 10 = .ok (.invokevirtual 198, 3) := by decide +kernel
theorem dX9_clash_13 : decode cX9_clash 13 = .ok (.ifCond .eq 18, 3) := by decide +kernel
theorem dX9_clash_16 : decode cX9_clash 16 = .ok (.iload_n 1, 1) := by decide +kernel
theorem dX9_clash_17 : decode cX9_clash 17 = .ok (.iload_n 2, 1) := by decide +kernel
theorem dX9_clash_18 : decode cX9_clash 18 = .ok (.if_icmp .eq 13, 3) := by decide +kernel
theorem dX9_clash_21 : decode cX9_clash 21 = .ok (.iload_n 3, 1) := by decide +kernel
theorem dX9_clash_22 : decode cX9_clash 22 = .ok (.i2l, 1) := by decide +kernel
theorem dX9_clash_23 : decode cX9_clash 23 = .ok (.lconst 0, 1) := by decide +kernel
theorem dX9_clash_24 : decode cX9_clash 24 = .ok (.lconst 1, 1) := by decide +kernel
theorem dX9_clash_25 : decode cX9_clash 25 = .ok (.invokestatic 114, 3) := by decide +kernel
theorem dX9_clash_28 : decode cX9_clash 28 = .ok (.ifCond .ne 5, 3) := by decide +kernel
theorem dX9_clash_31 : decode cX9_clash 31 = .ok (.iconst (-1), 1) := by decide +kernel
theorem dX9_clash_32 : decode cX9_clash 32 = .ok (.ireturn, 1) := by decide +kernel
theorem dX9_clash_33 : decode cX9_clash 33 = .ok (.iconst 0, 1) := by decide +kernel
theorem dX9_clash_34 : decode cX9_clash 34 = .ok (.istore 4, 2) := by decide +kernel
theorem dX9_clash_36 : decode cX9_clash 36 = .ok (.bipush (-4), 2) := by decide +kernel
theorem dX9_clash_38 : decode cX9_clash 38 = .ok (.istore 5, 2) := by decide +kernel
theorem dX9_clash_40 : decode cX9_clash 40 = .ok (.aload_n 0, 1) := by decide +kernel
theorem dX9_clash_41 : decode cX9_clash 41 = .ok (.getfield 85, 3) := by decide +kernel
theorem dX9_clash_44 : decode cX9_clash 44 = .ok (.aload_n 0, 1) := by decide +kernel
theorem dX9_clash_45 : decode cX9_clash 45 = .ok (.getfield 88, 3) := by decide +kernel
theorem dX9_clash_48 : decode cX9_clash 48 = .ok (.imul, 1) := by decide +kernel
theorem dX9_clash_49 : decode cX9_clash 49 = .ok (.iconst 1, 1) := by decide +kernel
theorem dX9_clash_50 : decode cX9_clash 50 = .ok (.isub, 1) := by decide +kernel
theorem dX9_clash_51 : decode cX9_clash 51 = .ok (.istore 6, 2) := by decide +kernel
theorem dX9_clash_53 : decode cX9_clash 53 = .ok (.iload 6, 2) := by decide +kernel
theorem dX9_clash_55 : decode cX9_clash 55 = .ok (.ifCond .lt 68, 3) := by decide +kernel
theorem dX9_clash_58 : decode cX9_clash 58 = .ok (.aload_n 0, 1) := by decide +kernel
theorem dX9_clash_59 : decode cX9_clash 59 = .ok (.getfield 16, 3) := by decide +kernel
theorem dX9_clash_62 : decode cX9_clash 62 = .ok (.iload_n 1, 1) := by decide +kernel
theorem dX9_clash_63 : decode cX9_clash 63 = .ok (.iload 6, 2) := by decide +kernel
theorem dX9_clash_65 : decode cX9_clash 65 = .ok (.invokestatic 172, 3) := by decide +kernel
theorem dX9_clash_68 : decode cX9_clash 68 = .ok (.aload_n 0, 1) := by decide +kernel
theorem dX9_clash_69 : decode cX9_clash 69 = .ok (.getfield 16, 3) := by decide +kernel
theorem dX9_clash_72 : decode cX9_clash 72 = .ok (.iload_n 2, 1) := by decide +kernel
theorem dX9_clash_73 : decode cX9_clash 73 = .ok (.iload 6, 2) := by decide +kernel
theorem dX9_clash_75 : decode cX9_clash 75 = .ok (.invokestatic 172, 3) := by decide +kernel
theorem dX9_clash_78 : decode cX9_clash 78 = .ok (.if_icmp .eq 7, 3) := by decide +kernel
theorem dX9_clash_81 : decode cX9_clash 81 = .ok (.iconst 1, 1) := by decide +kernel
theorem dX9_clash_82 : decode cX9_clash 82 = .ok (.goto 4, 3) := by decide +kernel
theorem dX9_clash_85 : decode cX9_clash 85 = .ok (.iconst 0, 1) := by decide +kernel
theorem dX9_clash_86 : decode cX9_clash 86 = .ok (.istore 7, 2) := by decide +kernel
theorem dX9_clash_88 : decode cX9_clash 88 = .ok (.iload 4, 2) := by decide +kernel
theorem dX9_clash_90 : decode cX9_clash 90 = .ok (.iload 7, 2) := by decide +kernel
theorem dX9_clash_92 : decode cX9_clash 92 = .ok (.ifCond .eq 7, 3) := by decide +kernel
theorem dX9_clash_95 : decode cX9_clash 95 = .ok (.iconst 1, 1) := by decide +kernel
theorem dX9_clash_96 : decode cX9_clash 96 = .ok (.goto 4, 3) := by decide +kernel
theorem dX9_clash_99 : decode cX9_clash 99 = .ok (.iconst 0, 1) := by decide +kernel
theorem dX9_clash_100 : decode cX9_clash 100 = .ok (.iadd, 1) := by decide +kernel
theorem dX9_clash_101 : decode cX9_clash 101 = .ok (.istore 4, 2) := by decide +kernel
theorem dX9_clash_103 : decode cX9_clash 103 = .ok (.iload 7, 2) := by decide +kernel
theorem dX9_clash_105 : decode cX9_clash 105 = .ok (.ifCond .eq 8, 3) := by decide +kernel
theorem dX9_clash_108 : decode cX9_clash 108 = .ok (.iload 6, 2) := by decide +kernel
theorem dX9_clash_110 : decode cX9_clash 110 = .ok (.goto 5, 3) := by decide +kernel
theorem dX9_clash_113 : decode cX9_clash 113 = .ok (.iload 5, 2) := by decide +kernel
theorem dX9_clash_115 : decode cX9_clash 115 = .ok (.istore 5, 2) := by decide +kernel
theorem dX9_clash_117 : decode cX9_clash 117 = .ok (.iinc 6 (-1), 3) := by decide +kernel
theorem dX9_clash_120 : decode cX9_clash 120 = .ok (.goto (-67), 3) := by decide +kernel
theorem dX9_clash_123 : decode cX9_clash 123 = .ok (.iload_n 3, 1) := by decide +kernel
theorem dX9_clash_124 : decode cX9_clash 124 = .ok (.ifCond .ne 8, 3) := by decide +kernel
theorem dX9_clash_127 : decode cX9_clash 127 = .ok (.iload 4, 2) := by decide +kernel
theorem dX9_clash_129 : decode cX9_clash 129 = .ok (.goto 5, 3) := by decide +kernel
theorem dX9_clash_132 : decode cX9_clash 132 = .ok (.iload 5, 2) := by decide +kernel
theorem dX9_clash_134 : decode cX9_clash 134 = .ok (.ireturn, 1) := by decide +kernel
theorem dX9_right_0 : decode cX9_right 0 = .ok (.aload_n 0, 1) := by decide +kernel
theorem dX9_right_1 : decode cX9_right 1 = .ok (.iload_n 1, 1) := by decide +kernel
theorem dX9_right_2 : decode cX9_right 2 = .ok (.invokevirtual 195, 3) := by decide +kernel
theorem dX9_right_5 : decode cX9_right 5 = .ok (.ifCond .eq 11, 3) := by decide +kernel
theorem dX9_right_8 : decode cX9_right 8 = .ok (.aload_n 0, 1) := by decide +kernel
theorem dX9_right_9 : decode cX9_right 9 = .ok (.iload_n 2, 1) := by decide +kernel
theorem dX9_right_10 : decode cX9_right 10 = .ok (.invokevirtual 195, 3) := by decide +kernel
theorem dX9_right_13 : decode cX9_right 13 = .ok (.ifCond .ne 5, 3) := by decide +kernel
theorem dX9_right_16 : decode cX9_right 16 = .ok (.iconst (-1), 1) := by decide +kernel
theorem dX9_right_17 : decode cX9_right 17 = .ok (.ireturn, 1) := by decide +kernel
theorem dX9_right_18 : decode cX9_right 18 = .ok (.aload_n 0, 1) := by decide +kernel
theorem dX9_right_19 : decode cX9_right 19 = .ok (.aload_n 0, 1) := by decide +kernel
theorem dX9_right_20 : decode cX9_right 20 = .ok (.getfield 16, 3) := by decide +kernel
theorem dX9_right_23 : decode cX9_right 23 = .ok (.iconst (-1), 1) := by decide +kernel
theorem dX9_right_24 : decode cX9_right 24 = .ok (.iload_n 1, 1) := by decide +kernel
theorem dX9_right_25 : decode cX9_right 25 = .ok (.iload_n 2, 1) := by decide +kernel
theorem dX9_right_26 : decode cX9_right 26 = .ok (.invokevirtual 208, 3) := by decide +kernel
theorem dX9_right_29 : decode cX9_right 29 = .ok (.istore_n 3, 1) := by decide +kernel
theorem dX9_right_30 : decode cX9_right 30 = .ok (.iconst 0, 1) := by decide +kernel
theorem dX9_right_31 : decode cX9_right 31 = .ok (.istore 4, 2) := by decide +kernel
theorem dX9_right_33 : decode cX9_right 33 = .ok (.iconst 0, 1) := by decide +kernel
theorem dX9_right_34 : decode cX9_right 34 = .ok (.istore 5, 2) := by decide +kernel
theorem dX9_right_36 : decode cX9_right 36 = .ok (.iload 5, 2) := by decide +kernel
theorem dX9_right_38 : decode cX9_right 38 = .ok (.aload_n 0, 1) := by decide +kernel
theorem dX9_right_39 : decode cX9_right 39 = .ok (.getfield 91, 3) := by decide +kernel
theorem dX9_right_42 : decode cX9_right 42 = .ok (.if_icmp .ge 51, 3) := by decide +kernel
theorem dX9_right_45 : decode cX9_right 45 = .ok (.iload_n 3, 1) := by decide +kernel
theorem dX9_right_46 : decode cX9_right 46 = .ok (.bipush (-4), 2) := by decide +kernel
theorem dX9_right_48 : decode cX9_right 48 = .ok (.if_icmp .eq 45, 3) := by decide +kernel
theorem dX9_right_51 : decode cX9_right 51 = .ok (.aload_n 0, 1) := by decide +kernel
theorem dX9_right_52 : decode cX9_right 52 = .ok (.iload 5, 2) := by decide +kernel
theorem dX9_right_54 : decode cX9_right 54 = .ok (.iload_n 1, 1) := by decide +kernel
theorem dX9_right_55 : decode cX9_right 55 = .ok (.iload_n 2, 1) := by decide +kernel
theorem dX9_right_56 : decode cX9_right 56 = .ok (.invokevirtual 238, 3) := by decide +kernel
theorem dX9_right_59 : decode cX9_right 59 = .ok (.istore 6, 2) := by decide +kernel
theorem dX9_right_61 : decode cX9_right 61 = .ok (.iload 4, 2) := by decide +kernel
theorem dX9_right_63 : decode cX9_right 63 = .ok (.iload 6, 2) := by decide +kernel
theorem dX9_right_65 : decode cX9_right 65 = .ok (.bipush (-4), 2) := by decide +kernel
theorem dX9_right_67 : decode cX9_right 67 = .ok (.if_icmp .eq 16, 3) := by decide +kernel
theorem dX9_right_70 : decode cX9_right 70 = .ok (.iload 6, 2) := by decide +kernel
theorem dX9_right_72 : decode cX9_right 72 = .ok (.iload_n 3, 1) := by decide +kernel
theorem dX9_right_73 : decode cX9_right 73 = .ok (.if_icmp .gt 10, 3) := by decide +kernel
theorem dX9_right_76 : decode cX9_right 76 = .ok (.iconst 1, 1) := by decide +kernel
theorem dX9_right_77 : decode cX9_right 77 = .ok (.iload 5, 2) := by decide +kernel
theorem dX9_right_79 : decode cX9_right 79 = .ok (.ishl, 1) := by decide +kernel
theorem dX9_right_80 : decode cX9_right 80 = .ok (.goto 4, 3) := by decide +kernel
theorem dX9_right_83 : decode cX9_right 83 = .ok (.iconst 0, 1) := by decide +kernel
theorem dX9_right_84 : decode cX9_right 84 = .ok (.ior, 1) := by decide +kernel
theorem dX9_right_85 : decode cX9_right 85 = .ok (.istore 4, 2) := by decide +kernel
theorem dX9_right_87 : decode cX9_right 87 = .ok (.iinc 5 1, 3) := by decide +kernel
theorem dX9_right_90 : decode cX9_right 90 = .ok (.goto (-54), 3) := by decide +kernel
theorem dX9_right_93 : decode cX9_right 93 = .ok (.iload 4, 2) := by decide +kernel
theorem dX9_right_95 : decode cX9_right 95 = .ok (.ireturn, 1) := by decide +kernel
theorem dX9_hear_0 : decode cX9_hear 0 = .ok (.aload_n 0, 1) := by decide +kernel
theorem dX9_hear_1 : decode cX9_hear 1 = .ok (.iload_n 1, 1) := by decide +kernel
theorem dX9_hear_2 : decode cX9_hear 2 = .ok (.invokevirtual 195, 3) := by decide +kernel
theorem dX9_hear_5 : decode cX9_hear 5 = .ok (.ifCond .eq 15, 3) := by decide +kernel
theorem dX9_hear_8 : decode cX9_hear 8 = .ok (.iload_n 2, 1) := by decide +kernel
theorem dX9_hear_9 : decode cX9_hear 9 = .ok (.i2l, 1) := by decide +kernel
theorem dX9_hear_10 : decode cX9_hear 10 = .ok (.lconst 0, 1) := by decide +kernel
theorem dX9_hear_11 : decode cX9_hear 11 = .ok (.ldc2_w 227, 3) := by decide +kernel
theorem dX9_hear_14 : decode cX9_hear 14 = .ok (.invokestatic 114, 3) := by decide +kernel
theorem dX9_hear_17 : decode cX9_hear 17 = .ok (.ifCond .ne 5, 3) := by decide +kernel
theorem dX9_hear_20 : decode cX9_hear 20 = .ok (.iconst (-1), 1) := by decide +kernel
theorem dX9_hear_21 : decode cX9_hear 21 = .ok (.ireturn, 1) := by decide +kernel
theorem dX9_hear_22 : decode cX9_hear 22 = .ok (.aload_n 0, 1) := by decide +kernel
theorem dX9_hear_23 : decode cX9_hear 23 = .ok (.getfield 107, 3) := by decide +kernel
theorem dX9_hear_26 : decode cX9_hear 26 = .ok (.bipush 8, 2) := by decide +kernel
theorem dX9_hear_28 : decode cX9_hear 28 = .ok (.if_icmp .ne 6, 3) := by decide +kernel
theorem dX9_hear_31 : decode cX9_hear 31 = .ok (.bipush (-3), 2) := by decide +kernel
theorem dX9_hear_33 : decode cX9_hear 33 = .ok (.ireturn, 1) := by decide +kernel
theorem dX9_hear_34 : decode cX9_hear 34 = .ok (.aload_n 0, 1) := by decide +kernel
theorem dX9_hear_35 : decode cX9_hear 35 = .ok (.getfield 28, 3) := by decide +kernel
theorem dX9_hear_38 : decode cX9_hear 38 = .ok (.iconst 2, 1) := by decide +kernel
theorem dX9_hear_39 : decode cX9_hear 39 = .ok (.aload_n 0, 1) := by decide +kernel
theorem dX9_hear_40 : decode cX9_hear 40 = .ok (.getfield 107, 3) := by decide +kernel
theorem dX9_hear_43 : decode cX9_hear 43 = .ok (.imul, 1) := by decide +kernel
theorem dX9_hear_44 : decode cX9_hear 44 = .ok (.iload_n 1, 1) := by decide +kernel
theorem dX9_hear_45 : decode cX9_hear 45 = .ok (.iastore, 1) := by decide +kernel
theorem dX9_hear_46 : decode cX9_hear 46 = .ok (.aload_n 0, 1) := by decide +kernel
theorem dX9_hear_47 : decode cX9_hear 47 = .ok (.getfield 28, 3) := by decide +kernel
theorem dX9_hear_50 : decode cX9_hear 50 = .ok (.iconst 2, 1) := by decide +kernel
theorem dX9_hear_51 : decode cX9_hear 51 = .ok (.aload_n 0, 1) := by decide +kernel
theorem dX9_hear_52 : decode cX9_hear 52 = .ok (.getfield 107, 3) := by decide +kernel
theorem dX9_hear_55 : decode cX9_hear 55 = .ok (.imul, 1) := by decide +kernel
theorem dX9_hear_56 : decode cX9_hear 56 = .ok (.iconst 1, 1) := by decide +kernel
theorem dX9_hear_57 : decode cX9_hear 57 = .ok (.iadd, 1) := by decide +kernel
theorem dX9_hear_58 : decode cX9_hear 58 = .ok (.iload_n 2, 1) := by decide +kernel
theorem dX9_hear_59 : decode cX9_hear 59 = .ok (.iastore, 1) := by decide +kernel
theorem dX9_hear_60 : decode cX9_hear 60 = .ok (.aload_n 0, 1) := by decide +kernel
theorem dX9_hear_61 : decode cX9_hear 61 = .ok (.dup, 1) := by decide +kernel
theorem dX9_hear_62 : decode cX9_hear 62 = .ok (.getfield 107, 3) := by decide +kernel
theorem dX9_hear_65 : decode cX9_hear 65 = .ok (.iconst 1, 1) := by decide +kernel
theorem dX9_hear_66 : decode cX9_hear 66 = .ok (.iadd, 1) := by decide +kernel
theorem dX9_hear_67 : decode cX9_hear 67 = .ok (.putfield 107, 3) := by decide +kernel
theorem dX9_hear_70 : decode cX9_hear 70 = .ok (.aload_n 0, 1) := by decide +kernel
theorem dX9_hear_71 : decode cX9_hear 71 = .ok (.getfield 107, 3) := by decide +kernel
theorem dX9_hear_74 : decode cX9_hear 74 = .ok (.ireturn, 1) := by decide +kernel
theorem dX9_forget_0 : decode cX9_forget 0 = .ok (.aload_n 0, 1) := by decide +kernel
theorem dX9_forget_1 : decode cX9_forget 1 = .ok (.getfield 107, 3) := by decide +kernel
theorem dX9_forget_4 : decode cX9_forget 4 = .ok (.istore_n 1, 1) := by decide +kernel
theorem dX9_forget_5 : decode cX9_forget 5 = .ok (.aload_n 0, 1) := by decide +kernel
theorem dX9_forget_6 : decode cX9_forget 6 = .ok (.iconst 0, 1) := by decide +kernel
theorem dX9_forget_7 : decode cX9_forget 7 = .ok (.putfield 107, 3) := by decide +kernel
theorem dX9_forget_10 : decode cX9_forget 10 = .ok (.iload_n 1, 1) := by decide +kernel
theorem dX9_forget_11 : decode cX9_forget 11 = .ok (.ireturn, 1) := by decide +kernel
theorem dX9_which_0 : decode cX9_which 0 = .ok (.iconst 0, 1) := by decide +kernel
theorem dX9_which_1 : decode cX9_which 1 = .ok (.istore_n 1, 1) := by decide +kernel
theorem dX9_which_2 : decode cX9_which 2 = .ok (.iconst 0, 1) := by decide +kernel
theorem dX9_which_3 : decode cX9_which 3 = .ok (.istore_n 2, 1) := by decide +kernel
theorem dX9_which_4 : decode cX9_which 4 = .ok (.iload_n 2, 1) := by decide +kernel
theorem dX9_which_5 : decode cX9_which 5 = .ok (.aload_n 0, 1) := by decide +kernel
theorem dX9_which_6 : decode cX9_which 6 = .ok (.getfield 91, 3) := by decide +kernel
theorem dX9_which_9 : decode cX9_which 9 = .ok (.if_icmp .ge 82, 3) := by decide +kernel
theorem dX9_which_12 : decode cX9_which 12 = .ok (.iconst 1, 1) := by decide +kernel
theorem dX9_which_13 : decode cX9_which 13 = .ok (.istore_n 3, 1) := by decide +kernel
theorem dX9_which_14 : decode cX9_which 14 = .ok (.iconst 0, 1) := by decide +kernel
theorem dX9_which_15 : decode cX9_which 15 = .ok (.istore 4, 2) := by decide +kernel
theorem dX9_which_17 : decode cX9_which 17 = .ok (.iload 4, 2) := by decide +kernel
theorem dX9_which_19 : decode cX9_which 19 = .ok (.iconst 2, 1) := by decide +kernel
theorem dX9_which_20 : decode cX9_which 20 = .ok (.aload_n 0, 1) := by decide +kernel
theorem dX9_which_21 : decode cX9_which 21 = .ok (.getfield 107, 3) := by decide +kernel
theorem dX9_which_24 : decode cX9_which 24 = .ok (.imul, 1) := by decide +kernel
theorem dX9_which_25 : decode cX9_which 25 = .ok (.if_icmp .ge 46, 3) := by decide +kernel
theorem dX9_which_28 : decode cX9_which 28 = .ok (.iload_n 3, 1) := by decide +kernel
theorem dX9_which_29 : decode cX9_which 29 = .ok (.ifCond .eq 34, 3) := by decide +kernel
theorem dX9_which_32 : decode cX9_which 32 = .ok (.aload_n 0, 1) := by decide +kernel
theorem dX9_which_33 : decode cX9_which 33 = .ok (.getfield 16, 3) := by decide +kernel
theorem dX9_which_36 : decode cX9_which 36 = .ok (.iload_n 2, 1) := by decide +kernel
theorem dX9_which_37 : decode cX9_which 37 = .ok (.aload_n 0, 1) := by decide +kernel
theorem dX9_which_38 : decode cX9_which 38 = .ok (.getfield 28, 3) := by decide +kernel
theorem dX9_which_41 : decode cX9_which 41 = .ok (.iload 4, 2) := by decide +kernel
theorem dX9_which_43 : decode cX9_which 43 = .ok (.iaload, 1) := by decide +kernel
theorem dX9_which_44 : decode cX9_which 44 = .ok (.invokestatic 172, 3) := by decide +kernel
theorem dX9_which_47 : decode cX9_which 47 = .ok (.aload_n 0, 1) := by decide +kernel
theorem dX9_which_48 : decode cX9_which 48 = .ok (.getfield 28, 3) := by decide +kernel
theorem dX9_which_51 : decode cX9_which 51 = .ok (.iload 4, 2) := by decide +kernel
theorem dX9_which_53 : decode cX9_which 53 = .ok (.iconst 1, 1) := by decide +kernel
theorem dX9_which_54 : decode cX9_which 54 = .ok (.iadd, 1) := by decide +kernel
theorem dX9_which_55 : decode cX9_which 55 = .ok (.iaload, 1) := by decide +kernel
theorem dX9_which_56 : decode cX9_which 56 = .ok (.if_icmp .ne 7, 3) := by decide +kernel
theorem dX9_which_59 : decode cX9_which 59 = .ok (.iconst 1, 1) := by decide +kernel
theorem dX9_which_60 : decode cX9_which 60 = .ok (.goto 4, 3) := by decide +kernel
theorem dX9_which_63 : decode cX9_which 63 = .ok (.iconst 0, 1) := by decide +kernel
theorem dX9_which_64 : decode cX9_which 64 = .ok (.istore_n 3, 1) := by decide +kernel
theorem dX9_which_65 : decode cX9_which 65 = .ok (.iinc 4 2, 3) := by decide +kernel
theorem dX9_which_68 : decode cX9_which 68 = .ok (.goto (-51), 3) := by decide +kernel
theorem dX9_which_71 : decode cX9_which 71 = .ok (.iload_n 1, 1) := by decide +kernel
theorem dX9_which_72 : decode cX9_which 72 = .ok (.iload_n 3, 1) := by decide +kernel
theorem dX9_which_73 : decode cX9_which 73 = .ok (.ifCond .eq 9, 3) := by decide +kernel
theorem dX9_which_76 : decode cX9_which 76 = .ok (.iconst 1, 1) := by decide +kernel
theorem dX9_which_77 : decode cX9_which 77 = .ok (.iload_n 2, 1) := by decide +kernel
theorem dX9_which_78 : decode cX9_which 78 = .ok (.ishl, 1) := by decide +kernel
theorem dX9_which_79 : decode cX9_which 79 = .ok (.goto 4, 3) := by decide +kernel
theorem dX9_which_82 : decode cX9_which 82 = .ok (.iconst 0, 1) := by decide +kernel
theorem dX9_which_83 : decode cX9_which 83 = .ok (.ior, 1) := by decide +kernel
theorem dX9_which_84 : decode cX9_which 84 = .ok (.istore_n 1, 1) := by decide +kernel
theorem dX9_which_85 : decode cX9_which 85 = .ok (.iinc 2 1, 3) := by decide +kernel
theorem dX9_which_88 : decode cX9_which 88 = .ok (.goto (-84), 3) := by decide +kernel
theorem dX9_which_91 : decode cX9_which 91 = .ok (.iload_n 1, 1) := by decide +kernel
theorem dX9_which_92 : decode cX9_which 92 = .ok (.ireturn, 1) := by decide +kernel
theorem dX9_seen_0 : decode cX9_seen 0 = .ok (.aload_n 0, 1) := by decide +kernel
theorem dX9_seen_1 : decode cX9_seen 1 = .ok (.iload_n 1, 1) := by decide +kernel
theorem dX9_seen_2 : decode cX9_seen 2 = .ok (.invokevirtual 203, 3) := by decide +kernel
theorem dX9_seen_5 : decode cX9_seen 5 = .ok (.ifCond .eq 23, 3) := by decide +kernel
theorem dX9_seen_8 : decode cX9_seen 8 = .ok (.aload_n 0, 1) := by decide +kernel
theorem dX9_seen_9 : decode cX9_seen 9 = .ok (.iload_n 2, 1) := by decide +kernel
theorem dX9_seen_10 : decode cX9_seen 10 = .ok (.invokevirtual 195, 3) := by decide +kernel
theorem dX9_seen_13 : decode cX9_seen 13 = .ok (.ifCond .eq 15, 3) := by decide +kernel
theorem dX9_seen_16 : decode cX9_seen 16 = .ok (.iload_n 3, 1) := by decide +kernel
theorem dX9_seen_17 : decode cX9_seen 17 = .ok (.i2l, 1) := by decide +kernel
theorem dX9_seen_18 : decode cX9_seen 18 = .ok (.lconst 0, 1) := by decide +kernel
theorem dX9_seen_19 : decode cX9_seen 19 = .ok (.ldc2_w 242, 3) := by decide +kernel
theorem dX9_seen_22 : decode cX9_seen 22 = .ok (.invokestatic 114, 3) := by decide +kernel
theorem dX9_seen_25 : decode cX9_seen 25 = .ok (.ifCond .ne 5, 3) := by decide +kernel
theorem dX9_seen_28 : decode cX9_seen 28 = .ok (.iconst (-1), 1) := by decide +kernel
theorem dX9_seen_29 : decode cX9_seen 29 = .ok (.ireturn, 1) := by decide +kernel
theorem dX9_seen_30 : decode cX9_seen 30 = .ok (.iconst 0, 1) := by decide +kernel
theorem dX9_seen_31 : decode cX9_seen 31 = .ok (.istore 4, 2) := by decide +kernel
theorem dX9_seen_33 : decode cX9_seen 33 = .ok (.iconst 0, 1) := by decide +kernel
theorem dX9_seen_34 : decode cX9_seen 34 = .ok (.istore 5, 2) := by decide +kernel
theorem dX9_seen_36 : decode cX9_seen 36 = .ok (.iload 5, 2) := by decide +kernel
theorem dX9_seen_38 : decode cX9_seen 38 = .ok (.aload_n 0, 1) := by decide +kernel
theorem dX9_seen_39 : decode cX9_seen 39 = .ok (.getfield 91, 3) := by decide +kernel
theorem dX9_seen_42 : decode cX9_seen 42 = .ok (.if_icmp .ge 88, 3) := by decide +kernel
theorem dX9_seen_45 : decode cX9_seen 45 = .ok (.aload_n 0, 1) := by decide +kernel
theorem dX9_seen_46 : decode cX9_seen 46 = .ok (.getfield 16, 3) := by decide +kernel
theorem dX9_seen_49 : decode cX9_seen 49 = .ok (.iconst 0, 1) := by decide +kernel
theorem dX9_seen_50 : decode cX9_seen 50 = .ok (.aload_n 0, 1) := by decide +kernel
theorem dX9_seen_51 : decode cX9_seen 51 = .ok (.getfield 19, 3) := by decide +kernel
theorem dX9_seen_54 : decode cX9_seen 54 = .ok (.iconst 0, 1) := by decide +kernel
theorem dX9_seen_55 : decode cX9_seen 55 = .ok (.sipush 170, 3) := by decide +kernel
theorem dX9_seen_58 : decode cX9_seen 58 = .ok (.invokestatic 97, 3) := by decide +kernel
theorem dX9_seen_61 : decode cX9_seen 61 = .ok (.aload_n 0, 1) := by decide +kernel
theorem dX9_seen_62 : decode cX9_seen 62 = .ok (.getfield 19, 3) := by decide +kernel
theorem dX9_seen_65 : decode cX9_seen 65 = .ok (.sipush 154, 3) := by decide +kernel
theorem dX9_seen_68 : decode cX9_seen 68 = .ok (.iload_n 1, 1) := by decide +kernel
theorem dX9_seen_69 : decode cX9_seen 69 = .ok (.iadd, 1) := by decide +kernel
theorem dX9_seen_70 : decode cX9_seen 70 = .ok (.iload 5, 2) := by decide +kernel
theorem dX9_seen_72 : decode cX9_seen 72 = .ok (.iastore, 1) := by decide +kernel
theorem dX9_seen_73 : decode cX9_seen 73 = .ok (.iconst 0, 1) := by decide +kernel
theorem dX9_seen_74 : decode cX9_seen 74 = .ok (.istore 6, 2) := by decide +kernel
theorem dX9_seen_76 : decode cX9_seen 76 = .ok (.iload 6, 2) := by decide +kernel
theorem dX9_seen_78 : decode cX9_seen 78 = .ok (.iload_n 3, 1) := by decide +kernel
theorem dX9_seen_79 : decode cX9_seen 79 = .ok (.if_icmp .ge 18, 3) := by decide +kernel
theorem dX9_seen_82 : decode cX9_seen 82 = .ok (.aload_n 0, 1) := by decide +kernel
theorem dX9_seen_83 : decode cX9_seen 83 = .ok (.aload_n 0, 1) := by decide +kernel
theorem dX9_seen_84 : decode cX9_seen 84 = .ok (.getfield 19, 3) := by decide +kernel
theorem dX9_seen_87 : decode cX9_seen 87 = .ok (.iload_n 1, 1) := by decide +kernel
theorem dX9_seen_88 : decode cX9_seen 88 = .ok (.invokevirtual 214, 3) := by decide +kernel
theorem dX9_seen_91 : decode cX9_seen 91 = .ok (.iinc 6 1, 3) := by decide +kernel
theorem dX9_seen_94 : decode cX9_seen 94 = .ok (.goto (-18), 3) := by decide +kernel
theorem dX9_seen_97 : decode cX9_seen 97 = .ok (.iload 4, 2) := by decide +kernel
theorem dX9_seen_99 : decode cX9_seen 99 = .ok (.aload_n 0, 1) := by decide +kernel
theorem dX9_seen_100 : decode cX9_seen 100 = .ok (.getfield 19, 3) := by decide +kernel
theorem dX9_seen_103 : decode cX9_seen 103 = .ok (.sipush 146, 3) := by decide +kernel
theorem dX9_seen_106 : decode cX9_seen 106 = .ok (.iload_n 1, 1) := by decide +kernel
theorem dX9_seen_107 : decode cX9_seen 107 = .ok (.iadd, 1) := by decide +kernel
theorem dX9_seen_108 : decode cX9_seen 108 = .ok (.iaload, 1) := by decide +kernel
theorem dX9_seen_109 : decode cX9_seen 109 = .ok (.iload_n 2, 1) := by decide +kernel
theorem dX9_seen_110 : decode cX9_seen 110 = .ok (.if_icmp .ne 10, 3) := by decide +kernel
theorem dX9_seen_113 : decode cX9_seen 113 = .ok (.iconst 1, 1) := by decide +kernel
theorem dX9_seen_114 : decode cX9_seen 114 = .ok (.iload 5, 2) := by decide +kernel
theorem dX9_seen_116 : decode cX9_seen 116 = .ok (.ishl, 1) := by decide +kernel
theorem dX9_seen_117 : decode cX9_seen 117 = .ok (.goto 4, 3) := by decide +kernel
theorem dX9_seen_120 : decode cX9_seen 120 = .ok (.iconst 0, 1) := by decide +kernel
theorem dX9_seen_121 : decode cX9_seen 121 = .ok (.ior, 1) := by decide +kernel
theorem dX9_seen_122 : decode cX9_seen 122 = .ok (.istore 4, 2) := by decide +kernel
theorem dX9_seen_124 : decode cX9_seen 124 = .ok (.iinc 5 1, 3) := by decide +kernel
theorem dX9_seen_127 : decode cX9_seen 127 = .ok (.goto (-91), 3) := by decide +kernel
theorem dX9_seen_130 : decode cX9_seen 130 = .ok (.iload 4, 2) := by decide +kernel
theorem dX9_seen_132 : decode cX9_seen 132 = .ok (.ireturn, 1) := by decide +kernel
theorem dX9_lowest_0 : decode cX9_lowest 0 = .ok (.lload_n 0, 1) := by decide +kernel
theorem dX9_lowest_1 : decode cX9_lowest 1 = .ok (.lstore 5, 2) := by decide +kernel
theorem dX9_lowest_3 : decode cX9_lowest 3 = .ok (.lload_n 2, 1) := by decide +kernel
theorem dX9_lowest_4 : decode cX9_lowest 4 = .ok (.lstore 7, 2) := by decide +kernel
theorem dX9_lowest_6 : decode cX9_lowest 6 = .ok (.lload 7, 2) := by decide +kernel
theorem dX9_lowest_8 : decode cX9_lowest 8 = .ok (.lconst 0, 1) := by decide +kernel
theorem dX9_lowest_9 : decode cX9_lowest 9 = .ok (.lcmp, 1) := by decide +kernel
theorem dX9_lowest_10 : decode cX9_lowest 10 = .ok (.ifCond .eq 21, 3) := by decide +kernel
theorem dX9_lowest_13 : decode cX9_lowest 13 = .ok (.lload 5, 2) := by decide +kernel
theorem dX9_lowest_15 : decode cX9_lowest 15 = .ok (.lload 7, 2) := by decide +kernel
theorem dX9_lowest_17 : decode cX9_lowest 17 = .ok (.lrem, 1) := by decide +kernel
theorem dX9_lowest_18 : decode cX9_lowest 18 = .ok (.lstore 9, 2) := by decide +kernel
theorem dX9_lowest_20 : decode cX9_lowest 20 = .ok (.lload 7, 2) := by decide +kernel
theorem dX9_lowest_22 : decode cX9_lowest 22 = .ok (.lstore 5, 2) := by decide +kernel
theorem dX9_lowest_24 : decode cX9_lowest 24 = .ok (.lload 9, 2) := by decide +kernel
theorem dX9_lowest_26 : decode cX9_lowest 26 = .ok (.lstore 7, 2) := by decide +kernel
theorem dX9_lowest_28 : decode cX9_lowest 28 = .ok (.goto (-22), 3) := by decide +kernel
theorem dX9_lowest_31 : decode cX9_lowest 31 = .ok (.iload 4, 2) := by decide +kernel
theorem dX9_lowest_33 : decode cX9_lowest 33 = .ok (.ifCond .ne 10, 3) := by decide +kernel
theorem dX9_lowest_36 : decode cX9_lowest 36 = .ok (.lload_n 0, 1) := by decide +kernel
theorem dX9_lowest_37 : decode cX9_lowest 37 = .ok (.lload 5, 2) := by decide +kernel
theorem dX9_lowest_39 : decode cX9_lowest 39 = .ok (.ldiv, 1) := by decide +kernel
theorem dX9_lowest_40 : decode cX9_lowest 40 = .ok (.goto 7, 3) := by decide +kernel
theorem dX9_lowest_43 : decode cX9_lowest 43 = .ok (.lload_n 2, 1) := by decide +kernel
theorem dX9_lowest_44 : decode cX9_lowest 44 = .ok (.lload 5, 2) := by decide +kernel
theorem dX9_lowest_46 : decode cX9_lowest 46 = .ok (.ldiv, 1) := by decide +kernel
theorem dX9_lowest_47 : decode cX9_lowest 47 = .ok (.l2i, 1) := by decide +kernel
theorem dX9_lowest_48 : decode cX9_lowest 48 = .ok (.ireturn, 1) := by decide +kernel
theorem dX9_rains_0 : decode cX9_rains 0 = .ok (.aload_n 0, 1) := by decide +kernel
theorem dX9_rains_1 : decode cX9_rains 1 = .ok (.iload_n 1, 1) := by decide +kernel
theorem dX9_rains_2 : decode cX9_rains 2 = .ok (.invokevirtual 203, 3) := by decide +kernel
theorem dX9_rains_5 : decode cX9_rains 5 = .ok (.ifCond .eq 38, 3) := by decide +kernel
theorem dX9_rains_8 : decode cX9_rains 8 = .ok (.iload_n 2, 1) := by decide +kernel
theorem dX9_rains_9 : decode cX9_rains 9 = .ok (.i2l, 1) := by decide +kernel
theorem dX9_rains_10 : decode cX9_rains 10 = .ok (.lconst 0, 1) := by decide +kernel
theorem dX9_rains_11 : decode cX9_rains 11 = .ok (.ldc2_w 244, 3) := by decide +kernel
theorem dX9_rains_14 : decode cX9_rains 14 = .ok (.invokestatic 114, 3) := by decide +kernel
theorem dX9_rains_17 : decode cX9_rains 17 = .ok (.ifCond .eq 26, 3) := by decide +kernel
theorem dX9_rains_20 : decode cX9_rains 20 = .ok (.iload_n 3, 1) := by decide +kernel
theorem dX9_rains_21 : decode cX9_rains 21 = .ok (.i2l, 1) := by decide +kernel
theorem dX9_rains_22 : decode cX9_rains 22 = .ok (.lconst 0, 1) := by decide +kernel
theorem dX9_rains_23 : decode cX9_rains 23 = .ok (.ldc2_w 246, 3) := by decide +kernel
theorem dX9_rains_26 : decode cX9_rains 26 = .ok (.invokestatic 114, 3) := by decide +kernel
theorem dX9_rains_29 : decode cX9_rains 29 = .ok (.ifCond .eq 14, 3) := by decide +kernel
theorem dX9_rains_32 : decode cX9_rains 32 = .ok (.iload 4, 2) := by decide +kernel
theorem dX9_rains_34 : decode cX9_rains 34 = .ok (.i2l, 1) := by decide +kernel
theorem dX9_rains_35 : decode cX9_rains 35 = .ok (.lconst 0, 1) := by decide +kernel
theorem dX9_rains_36 : decode cX9_rains 36 = .ok (.lconst 1, 1) := by decide +kernel
theorem dX9_rains_37 : decode cX9_rains 37 = .ok (.invokestatic 114, 3) := by decide +kernel
theorem dX9_rains_40 : decode cX9_rains 40 = .ok (.ifCond .ne 5, 3) := by decide +kernel
theorem dX9_rains_43 : decode cX9_rains 43 = .ok (.iconst (-1), 1) := by decide +kernel
theorem dX9_rains_44 : decode cX9_rains 44 = .ok (.ireturn, 1) := by decide +kernel
theorem dX9_rains_45 : decode cX9_rains 45 = .ok (.lconst 0, 1) := by decide +kernel
theorem dX9_rains_46 : decode cX9_rains 46 = .ok (.lstore 5, 2) := by decide +kernel
theorem dX9_rains_48 : decode cX9_rains 48 = .ok (.lconst 1, 1) := by decide +kernel
theorem dX9_rains_49 : decode cX9_rains 49 = .ok (.lstore 7, 2) := by decide +kernel
theorem dX9_rains_51 : decode cX9_rains 51 = .ok (.iconst 0, 1) := by decide +kernel
theorem dX9_rains_52 : decode cX9_rains 52 = .ok (.istore 9, 2) := by decide +kernel
theorem dX9_rains_54 : decode cX9_rains 54 = .ok (.iload 9, 2) := by decide +kernel
theorem dX9_rains_56 : decode cX9_rains 56 = .ok (.iload_n 2, 1) := by decide +kernel
theorem dX9_rains_57 : decode cX9_rains 57 = .ok (.if_icmp .ge 17, 3) := by decide +kernel
theorem dX9_rains_60 : decode cX9_rains 60 = .ok (.lload 7, 2) := by decide +kernel
theorem dX9_rains_62 : decode cX9_rains 62 = .ok (.ldc2_w 246, 3) := by decide +kernel
theorem dX9_rains_65 : decode cX9_rains 65 = .ok (.lmul, 1) := by decide +kernel
theorem dX9_rains_66 : decode cX9_rains 66 = .ok (.lstore 7, 2) := by decide +kernel
theorem dX9_rains_68 : decode cX9_rains 68 = .ok (.iinc 9 1, 3) := by decide +kernel
theorem dX9_rains_71 : decode cX9_rains 71 = .ok (.goto (-17), 3) := by decide +kernel
theorem dX9_rains_74 : decode cX9_rains 74 = .ok (.iconst 0, 1) := by decide +kernel
theorem dX9_rains_75 : decode cX9_rains 75 = .ok (.istore 9, 2) := by decide +kernel
theorem dX9_rains_77 : decode cX9_rains 77 = .ok (.iload 9, 2) := by decide +kernel
theorem dX9_rains_79 : decode cX9_rains 79 = .ok (.iconst 1, 1) := by decide +kernel
theorem dX9_rains_80 : decode cX9_rains 80 = .ok (.iload_n 2, 1) := by decide +kernel
theorem dX9_rains_81 : decode cX9_rains 81 = .ok (.ishl, 1) := by decide +kernel
theorem dX9_rains_82 : decode cX9_rains 82 = .ok (.if_icmp .ge 128, 3) := by decide +kernel
theorem dX9_rains_85 : decode cX9_rains 85 = .ok (.lconst 1, 1) := by decide +kernel
theorem dX9_rains_86 : decode cX9_rains 86 = .ok (.lstore 10, 2) := by decide +kernel
theorem dX9_rains_88 : decode cX9_rains 88 = .ok (.aload_n 0, 1) := by decide +kernel
theorem dX9_rains_89 : decode cX9_rains 89 = .ok (.getfield 16, 3) := by decide +kernel
theorem dX9_rains_92 : decode cX9_rains 92 = .ok (.iconst 0, 1) := by decide +kernel
theorem dX9_rains_93 : decode cX9_rains 93 = .ok (.aload_n 0, 1) := by decide +kernel
theorem dX9_rains_94 : decode cX9_rains 94 = .ok (.getfield 19, 3) := by decide +kernel
theorem dX9_rains_97 : decode cX9_rains 97 = .ok (.iconst 0, 1) := by decide +kernel
theorem dX9_rains_98 : decode cX9_rains 98 = .ok (.sipush 170, 3) := by decide +kernel
theorem dX9_rains_101 : decode cX9_rains 101 = .ok (.invokestatic 97, 3) := by decide +kernel
theorem dX9_rains_104 : decode cX9_rains 104 = .ok (.iconst 0, 1) := by decide +kernel
theorem dX9_rains_105 : decode cX9_rains 105 = .ok (.istore 12, 2) := by decide +kernel
theorem dX9_rains_107 : decode cX9_rains 107 = .ok (.iload 12, 2) := by decide +kernel
theorem dX9_rains_109 : decode cX9_rains 109 = .ok (.iload_n 2, 1) := by decide +kernel
theorem dX9_rains_110 : decode cX9_rains 110 = .ok (.if_icmp .ge 69, 3) := by decide +kernel
theorem dX9_rains_113 : decode cX9_rains 113 = .ok (.lload 10, 2) := by decide +kernel
theorem dX9_rains_115 : decode cX9_rains 115 = .ok (.iload 9, 2) := by decide +kernel
theorem dX9_rains_117 : decode cX9_rains 117 = .ok (.iload 12, 2) := by decide +kernel
theorem dX9_rains_119 : decode cX9_rains 119 = .ok (.invokestatic 248, 3) := by decide +kernel
theorem dX9_rains_122 : decode cX9_rains 122 = .ok (.ifCond .eq 8, 3) := by decide +kernel
theorem dX9_rains_125 : decode cX9_rains 125 = .ok (.iload_n 3, 1) := by decide +kernel
theorem dX9_rains_126 : decode cX9_rains 126 = .ok (.i2l, 1) := by decide +kernel
theorem dX9_rains_127 : decode cX9_rains 127 = .ok (.goto 8, 3) := by decide +kernel
theorem dX9_rains_130 : decode cX9_rains 130 = .ok (.bipush 10, 2) := by decide +kernel
theorem dX9_rains_132 : decode cX9_rains 132 = .ok (.iload_n 3, 1) := by decide +kernel
theorem dX9_rains_133 : decode cX9_rains 133 = .ok (.isub, 1) := by decide +kernel
theorem dX9_rains_134 : decode cX9_rains 134 = .ok (.i2l, 1) := by decide +kernel
theorem dX9_rains_135 : decode cX9_rains 135 = .ok (.lmul, 1) := by decide +kernel
theorem dX9_rains_136 : decode cX9_rains 136 = .ok (.lstore 10, 2) := by decide +kernel
theorem dX9_rains_138 : decode cX9_rains 138 = .ok (.aload_n 0, 1) := by decide +kernel
theorem dX9_rains_139 : decode cX9_rains 139 = .ok (.getfield 19, 3) := by decide +kernel
theorem dX9_rains_142 : decode cX9_rains 142 = .ok (.iconst 0, 1) := by decide +kernel
theorem dX9_rains_143 : decode cX9_rains 143 = .ok (.iload 9, 2) := by decide +kernel
theorem dX9_rains_145 : decode cX9_rains 145 = .ok (.iload 12, 2) := by decide +kernel
theorem dX9_rains_147 : decode cX9_rains 147 = .ok (.invokestatic 248, 3) := by decide +kernel
theorem dX9_rains_150 : decode cX9_rains 150 = .ok (.ifCond .eq 7, 3) := by decide +kernel
theorem dX9_rains_153 : decode cX9_rains 153 = .ok (.iconst 3, 1) := by decide +kernel
theorem dX9_rains_154 : decode cX9_rains 154 = .ok (.goto 9, 3) := by decide +kernel
theorem dX9_rains_157 : decode cX9_rains 157 = .ok (.aload_n 0, 1) := by decide +kernel
theorem dX9_rains_158 : decode cX9_rains 158 = .ok (.getfield 16, 3) := by decide +kernel
theorem dX9_rains_161 : decode cX9_rains 161 = .ok (.iconst 0, 1) := by decide +kernel
theorem dX9_rains_162 : decode cX9_rains 162 = .ok (.iaload, 1) := by decide +kernel
theorem dX9_rains_163 : decode cX9_rains 163 = .ok (.iastore, 1) := by decide +kernel
theorem dX9_rains_164 : decode cX9_rains 164 = .ok (.aload_n 0, 1) := by decide +kernel
theorem dX9_rains_165 : decode cX9_rains 165 = .ok (.aload_n 0, 1) := by decide +kernel
theorem dX9_rains_166 : decode cX9_rains 166 = .ok (.getfield 19, 3) := by decide +kernel
theorem dX9_rains_169 : decode cX9_rains 169 = .ok (.iload_n 1, 1) := by decide +kernel
theorem dX9_rains_170 : decode cX9_rains 170 = .ok (.invokevirtual 214, 3) := by decide +kernel
theorem dX9_rains_173 : decode cX9_rains 173 = .ok (.iinc 12 1, 3) := by decide +kernel
theorem dX9_rains_176 : decode cX9_rains 176 = .ok (.goto (-69), 3) := by decide +kernel
theorem dX9_rains_179 : decode cX9_rains 179 = .ok (.lload 5, 2) := by decide +kernel
theorem dX9_rains_181 : decode cX9_rains 181 = .ok (.aload_n 0, 1) := by decide +kernel
theorem dX9_rains_182 : decode cX9_rains 182 = .ok (.getfield 19, 3) := by decide +kernel
theorem dX9_rains_185 : decode cX9_rains 185 = .ok (.sipush 158, 3) := by decide +kernel
theorem dX9_rains_188 : decode cX9_rains 188 = .ok (.iload_n 1, 1) := by decide +kernel
theorem dX9_rains_189 : decode cX9_rains 189 = .ok (.iadd, 1) := by decide +kernel
theorem dX9_rains_190 : decode cX9_rains 190 = .ok (.iaload, 1) := by decide +kernel
theorem dX9_rains_191 : decode cX9_rains 191 = .ok (.iconst 1, 1) := by decide +kernel
theorem dX9_rains_192 : decode cX9_rains 192 = .ok (.if_icmp .ne 8, 3) := by decide +kernel
theorem dX9_rains_195 : decode cX9_rains 195 = .ok (.lload 10, 2) := by decide +kernel
theorem dX9_rains_197 : decode cX9_rains 197 = .ok (.goto 4, 3) := by decide +kernel
theorem dX9_rains_200 : decode cX9_rains 200 = .ok (.lconst 0, 1) := by decide +kernel
theorem dX9_rains_201 : decode cX9_rains 201 = .ok (.ladd, 1) := by decide +kernel
theorem dX9_rains_202 : decode cX9_rains 202 = .ok (.lstore 5, 2) := by decide +kernel
theorem dX9_rains_204 : decode cX9_rains 204 = .ok (.iinc 9 1, 3) := by decide +kernel
theorem dX9_rains_207 : decode cX9_rains 207 = .ok (.goto (-130), 3) := by decide +kernel
theorem dX9_rains_210 : decode cX9_rains 210 = .ok (.lload 5, 2) := by decide +kernel
theorem dX9_rains_212 : decode cX9_rains 212 = .ok (.lload 7, 2) := by decide +kernel
theorem dX9_rains_214 : decode cX9_rains 214 = .ok (.iload 4, 2) := by decide +kernel
theorem dX9_rains_216 : decode cX9_rains 216 = .ok (.invokestatic 251, 3) := by decide +kernel
theorem dX9_rains_219 : decode cX9_rains 219 = .ok (.ireturn, 1) := by decide +kernel
theorem dX9_manyOf_0 : decode cX9_manyOf 0 = .ok (.iconst 0, 1) := by decide +kernel
theorem dX9_manyOf_1 : decode cX9_manyOf 1 = .ok (.istore_n 3, 1) := by decide +kernel
theorem dX9_manyOf_2 : decode cX9_manyOf 2 = .ok (.iconst 0, 1) := by decide +kernel
theorem dX9_manyOf_3 : decode cX9_manyOf 3 = .ok (.istore 4, 2) := by decide +kernel
theorem dX9_manyOf_5 : decode cX9_manyOf 5 = .ok (.iload 4, 2) := by decide +kernel
theorem dX9_manyOf_7 : decode cX9_manyOf 7 = .ok (.aload_n 0, 1) := by decide +kernel
theorem dX9_manyOf_8 : decode cX9_manyOf 8 = .ok (.getfield 94, 3) := by decide +kernel
theorem dX9_manyOf_11 : decode cX9_manyOf 11 = .ok (.if_icmp .ge 29, 3) := by decide +kernel
theorem dX9_manyOf_14 : decode cX9_manyOf 14 = .ok (.iload_n 3, 1) := by decide +kernel
theorem dX9_manyOf_15 : decode cX9_manyOf 15 = .ok (.aload_n 1, 1) := by decide +kernel
theorem dX9_manyOf_16 : decode cX9_manyOf 16 = .ok (.sipush 158, 3) := by decide +kernel
theorem dX9_manyOf_19 : decode cX9_manyOf 19 = .ok (.iload 4, 2) := by decide +kernel
theorem dX9_manyOf_21 : decode cX9_manyOf 21 = .ok (.iadd, 1) := by decide +kernel
theorem dX9_manyOf_22 : decode cX9_manyOf 22 = .ok (.iaload, 1) := by decide +kernel
theorem dX9_manyOf_23 : decode cX9_manyOf 23 = .ok (.iload_n 2, 1) := by decide +kernel
theorem dX9_manyOf_24 : decode cX9_manyOf 24 = .ok (.if_icmp .ne 7, 3) := by decide +kernel
theorem dX9_manyOf_27 : decode cX9_manyOf 27 = .ok (.iconst 1, 1) := by decide +kernel
theorem dX9_manyOf_28 : decode cX9_manyOf 28 = .ok (.goto 4, 3) := by decide +kernel
theorem dX9_manyOf_31 : decode cX9_manyOf 31 = .ok (.iconst 0, 1) := by decide +kernel
theorem dX9_manyOf_32 : decode cX9_manyOf 32 = .ok (.iadd, 1) := by decide +kernel
theorem dX9_manyOf_33 : decode cX9_manyOf 33 = .ok (.istore_n 3, 1) := by decide +kernel
theorem dX9_manyOf_34 : decode cX9_manyOf 34 = .ok (.iinc 4 1, 3) := by decide +kernel
theorem dX9_manyOf_37 : decode cX9_manyOf 37 = .ok (.goto (-32), 3) := by decide +kernel
theorem dX9_manyOf_40 : decode cX9_manyOf 40 = .ok (.iload_n 3, 1) := by decide +kernel
theorem dX9_manyOf_41 : decode cX9_manyOf 41 = .ok (.ireturn, 1) := by decide +kernel
theorem dX9_yearDraws_0 : decode cX9_yearDraws 0 = .ok (.iload_n 1, 1) := by decide +kernel
theorem dX9_yearDraws_1 : decode cX9_yearDraws 1 = .ok (.bipush 8, 2) := by decide +kernel
theorem dX9_yearDraws_3 : decode cX9_yearDraws 3 = .ok (.irem, 1) := by decide +kernel
theorem dX9_yearDraws_4 : decode cX9_yearDraws 4 = .ok (.istore_n 2, 1) := by decide +kernel
theorem dX9_yearDraws_5 : decode cX9_yearDraws 5 = .ok (.iload_n 2, 1) := by decide +kernel
theorem dX9_yearDraws_6 : decode cX9_yearDraws 6 = .ok (.ifCond .ne 18, 3) := by decide +kernel
theorem dX9_yearDraws_9 : decode cX9_yearDraws 9 = .ok (.aload_n 0, 1) := by decide +kernel
theorem dX9_yearDraws_10 : decode cX9_yearDraws 10 = .ok (.getfield 19, 3) := by decide +kernel
theorem dX9_yearDraws_13 : decode cX9_yearDraws 13 = .ok (.iconst 0, 1) := by decide +kernel
theorem dX9_yearDraws_14 : decode cX9_yearDraws 14 = .ok (.iload_n 1, 1) := by decide +kernel
theorem dX9_yearDraws_15 : decode cX9_yearDraws 15 = .ok (.bipush 8, 2) := by decide +kernel
theorem dX9_yearDraws_17 : decode cX9_yearDraws 17 = .ok (.idiv, 1) := by decide +kernel
theorem dX9_yearDraws_18 : decode cX9_yearDraws 18 = .ok (.iconst 4, 1) := by decide +kernel
theorem dX9_yearDraws_19 : decode cX9_yearDraws 19 = .ok (.irem, 1) := by decide +kernel
theorem dX9_yearDraws_20 : decode cX9_yearDraws 20 = .ok (.iastore, 1) := by decide +kernel
theorem dX9_yearDraws_21 : decode cX9_yearDraws 21 = .ok (.goto 116, 3) := by decide +kernel
theorem dX9_yearDraws_24 : decode cX9_yearDraws 24 = .ok (.iload_n 2, 1) := by decide +kernel
theorem dX9_yearDraws_25 : decode cX9_yearDraws 25 = .ok (.iconst 1, 1) := by decide +kernel
theorem dX9_yearDraws_26 : decode cX9_yearDraws 26 = .ok (.if_icmp .ne 47, 3) := by decide +kernel
theorem dX9_yearDraws_29 : decode cX9_yearDraws 29 = .ok (.aload_n 0, 1) := by decide +kernel
theorem dX9_yearDraws_30 : decode cX9_yearDraws 30 = .ok (.getfield 19, 3) := by decide +kernel
theorem dX9_yearDraws_33 : decode cX9_yearDraws 33 = .ok (.iconst 2, 1) := by decide +kernel
theorem dX9_yearDraws_34 : decode cX9_yearDraws 34 = .ok (.bipush 36, 2) := by decide +kernel
theorem dX9_yearDraws_36 : decode cX9_yearDraws 36 = .ok (.iload_n 1, 1) := by decide +kernel
theorem dX9_yearDraws_37 : decode cX9_yearDraws 37 = .ok (.bipush 8, 2) := by decide +kernel
theorem dX9_yearDraws_39 : decode cX9_yearDraws 39 = .ok (.idiv, 1) := by decide +kernel
theorem dX9_yearDraws_40 : decode cX9_yearDraws 40 = .ok (.aload_n 0, 1) := by decide +kernel
theorem dX9_yearDraws_41 : decode cX9_yearDraws 41 = .ok (.getfield 91, 3) := by decide +kernel
theorem dX9_yearDraws_44 : decode cX9_yearDraws 44 = .ok (.irem, 1) := by decide +kernel
theorem dX9_yearDraws_45 : decode cX9_yearDraws 45 = .ok (.imul, 1) := by decide +kernel
theorem dX9_yearDraws_46 : decode cX9_yearDraws 46 = .ok (.iadd, 1) := by decide +kernel
theorem dX9_yearDraws_47 : decode cX9_yearDraws 47 = .ok (.iload_n 1, 1) := by decide +kernel
theorem dX9_yearDraws_48 : decode cX9_yearDraws 48 = .ok (.bipush 32, 2) := by decide +kernel
theorem dX9_yearDraws_50 : decode cX9_yearDraws 50 = .ok (.idiv, 1) := by decide +kernel
theorem dX9_yearDraws_51 : decode cX9_yearDraws 51 = .ok (.aload_n 0, 1) := by decide +kernel
theorem dX9_yearDraws_52 : decode cX9_yearDraws 52 = .ok (.getfield 85, 3) := by decide +kernel
theorem dX9_yearDraws_55 : decode cX9_yearDraws 55 = .ok (.aload_n 0, 1) := by decide +kernel
theorem dX9_yearDraws_56 : decode cX9_yearDraws 56 = .ok (.getfield 88, 3) := by decide +kernel
theorem dX9_yearDraws_59 : decode cX9_yearDraws 59 = .ok (.imul, 1) := by decide +kernel
theorem dX9_yearDraws_60 : decode cX9_yearDraws 60 = .ok (.irem, 1) := by decide +kernel
theorem dX9_yearDraws_61 : decode cX9_yearDraws 61 = .ok (.iadd, 1) := by decide +kernel
theorem dX9_yearDraws_62 : decode cX9_yearDraws 62 = .ok (.iload_n 1, 1) := by decide +kernel
theorem dX9_yearDraws_63 : decode cX9_yearDraws 63 = .ok (.sipush 2048, 3) := by decide +kernel
theorem dX9_yearDraws_66 : decode cX9_yearDraws 66 = .ok (.idiv, 1) := by decide +kernel
theorem dX9_yearDraws_67 : decode cX9_yearDraws 67 = .ok (.iconst 4, 1) := by decide +kernel
theorem dX9_yearDraws_68 : decode cX9_yearDraws 68 = .ok (.irem, 1) := by decide +kernel
theorem dX9_yearDraws_69 : decode cX9_yearDraws 69 = .ok (.iastore, 1) := by decide +kernel
theorem dX9_yearDraws_70 : decode cX9_yearDraws 70 = .ok (.goto 67, 3) := by decide +kernel
theorem dX9_yearDraws_73 : decode cX9_yearDraws 73 = .ok (.iload_n 2, 1) := by decide +kernel
theorem dX9_yearDraws_74 : decode cX9_yearDraws 74 = .ok (.iconst 2, 1) := by decide +kernel
theorem dX9_yearDraws_75 : decode cX9_yearDraws 75 = .ok (.if_icmp .ne 62, 3) := by decide +kernel
theorem dX9_yearDraws_78 : decode cX9_yearDraws 78 = .ok (.aload_n 0, 1) := by decide +kernel
theorem dX9_yearDraws_79 : decode cX9_yearDraws 79 = .ok (.getfield 94, 3) := by decide +kernel
theorem dX9_yearDraws_82 : decode cX9_yearDraws 82 = .ok (.ifCond .le 55, 3) := by decide +kernel
theorem dX9_yearDraws_85 : decode cX9_yearDraws 85 = .ok (.aload_n 0, 1) := by decide +kernel
theorem dX9_yearDraws_86 : decode cX9_yearDraws 86 = .ok (.getfield 19, 3) := by decide +kernel
theorem dX9_yearDraws_89 : decode cX9_yearDraws 89 = .ok (.sipush 158, 3) := by decide +kernel
theorem dX9_yearDraws_92 : decode cX9_yearDraws 92 = .ok (.iload_n 1, 1) := by decide +kernel
theorem dX9_yearDraws_93 : decode cX9_yearDraws 93 = .ok (.bipush 8, 2) := by decide +kernel
theorem dX9_yearDraws_95 : decode cX9_yearDraws 95 = .ok (.idiv, 1) := by decide +kernel
theorem dX9_yearDraws_96 : decode cX9_yearDraws 96 = .ok (.aload_n 0, 1) := by decide +kernel
theorem dX9_yearDraws_97 : decode cX9_yearDraws 97 = .ok (.getfield 94, 3) := by decide +kernel
theorem dX9_yearDraws_100 : decode cX9_yearDraws 100 = .ok (.irem, 1) := by decide +kernel
theorem dX9_yearDraws_101 : decode cX9_yearDraws 101 = .ok (.iadd, 1) := by decide +kernel
theorem dX9_yearDraws_102 : decode cX9_yearDraws 102 = .ok (.iaload, 1) := by decide +kernel
theorem dX9_yearDraws_103 : decode cX9_yearDraws 103 = .ok (.iconst 2, 1) := by decide +kernel
theorem dX9_yearDraws_104 : decode cX9_yearDraws 104 = .ok (.if_icmp .eq 33, 3) := by decide +kernel
theorem dX9_yearDraws_107 : decode cX9_yearDraws 107 = .ok (.aload_n 0, 1) := by decide +kernel
theorem dX9_yearDraws_108 : decode cX9_yearDraws 108 = .ok (.getfield 19, 3) := by decide +kernel
theorem dX9_yearDraws_111 : decode cX9_yearDraws 111 = .ok (.iload_n 1, 1) := by decide +kernel
theorem dX9_yearDraws_112 : decode cX9_yearDraws 112 = .ok (.bipush 8, 2) := by decide +kernel
theorem dX9_yearDraws_114 : decode cX9_yearDraws 114 = .ok (.idiv, 1) := by decide +kernel
theorem dX9_yearDraws_115 : decode cX9_yearDraws 115 = .ok (.aload_n 0, 1) := by decide +kernel
theorem dX9_yearDraws_116 : decode cX9_yearDraws 116 = .ok (.getfield 94, 3) := by decide +kernel
theorem dX9_yearDraws_119 : decode cX9_yearDraws 119 = .ok (.irem, 1) := by decide +kernel
theorem dX9_yearDraws_120 : decode cX9_yearDraws 120 = .ok (.iload_n 1, 1) := by decide +kernel
theorem dX9_yearDraws_121 : decode cX9_yearDraws 121 = .ok (.bipush 32, 2) := by decide +kernel
theorem dX9_yearDraws_123 : decode cX9_yearDraws 123 = .ok (.idiv, 1) := by decide +kernel
theorem dX9_yearDraws_124 : decode cX9_yearDraws 124 = .ok (.aload_n 0, 1) := by decide +kernel
theorem dX9_yearDraws_125 : decode cX9_yearDraws 125 = .ok (.getfield 85, 3) := by decide +kernel
theorem dX9_yearDraws_128 : decode cX9_yearDraws 128 = .ok (.aload_n 0, 1) := by decide +kernel
theorem dX9_yearDraws_129 : decode cX9_yearDraws 129 = .ok (.getfield 88, 3) := by decide +kernel
theorem dX9_yearDraws_132 : decode cX9_yearDraws 132 = .ok (.imul, 1) := by decide +kernel
theorem dX9_yearDraws_133 : decode cX9_yearDraws 133 = .ok (.irem, 1) := by decide +kernel
theorem dX9_yearDraws_134 : decode cX9_yearDraws 134 = .ok (.invokestatic 229, 3) := by decide +kernel
theorem dX9_yearDraws_137 : decode cX9_yearDraws 137 = .ok (.return_, 1) := by decide +kernel
theorem dX9_year_0 : decode cX9_year 0 = .ok (.iload_n 1, 1) := by decide +kernel
theorem dX9_year_1 : decode cX9_year 1 = .ok (.i2l, 1) := by decide +kernel
theorem dX9_year_2 : decode cX9_year 2 = .ok (.lconst 0, 1) := by decide +kernel
theorem dX9_year_3 : decode cX9_year 3 = .ok (.ldc2_w 255, 3) := by decide +kernel
theorem dX9_year_6 : decode cX9_year 6 = .ok (.invokestatic 114, 3) := by decide +kernel
theorem dX9_year_9 : decode cX9_year 9 = .ok (.ifCond .eq 25, 3) := by decide +kernel
theorem dX9_year_12 : decode cX9_year 12 = .ok (.iload_n 2, 1) := by decide +kernel
theorem dX9_year_13 : decode cX9_year 13 = .ok (.i2l, 1) := by decide +kernel
theorem dX9_year_14 : decode cX9_year 14 = .ok (.lconst 1, 1) := by decide +kernel
theorem dX9_year_15 : decode cX9_year 15 = .ok (.ldc2_w 257, 3) := by decide +kernel
theorem dX9_year_18 : decode cX9_year 18 = .ok (.invokestatic 114, 3) := by decide +kernel
theorem dX9_year_21 : decode cX9_year 21 = .ok (.ifCond .eq 13, 3) := by decide +kernel
theorem dX9_year_24 : decode cX9_year 24 = .ok (.iload_n 3, 1) := by decide +kernel
theorem dX9_year_25 : decode cX9_year 25 = .ok (.i2l, 1) := by decide +kernel
theorem dX9_year_26 : decode cX9_year 26 = .ok (.lconst 0, 1) := by decide +kernel
theorem dX9_year_27 : decode cX9_year 27 = .ok (.lconst 1, 1) := by decide +kernel
theorem dX9_year_28 : decode cX9_year 28 = .ok (.invokestatic 114, 3) := by decide +kernel
theorem dX9_year_31 : decode cX9_year 31 = .ok (.ifCond .ne 5, 3) := by decide +kernel
theorem dX9_year_34 : decode cX9_year 34 = .ok (.iconst (-1), 1) := by decide +kernel
theorem dX9_year_35 : decode cX9_year 35 = .ok (.ireturn, 1) := by decide +kernel
theorem dX9_year_36 : decode cX9_year 36 = .ok (.aload_n 0, 1) := by decide +kernel
theorem dX9_year_37 : decode cX9_year 37 = .ok (.getfield 16, 3) := by decide +kernel
theorem dX9_year_40 : decode cX9_year 40 = .ok (.iconst 0, 1) := by decide +kernel
theorem dX9_year_41 : decode cX9_year 41 = .ok (.aload_n 0, 1) := by decide +kernel
theorem dX9_year_42 : decode cX9_year 42 = .ok (.getfield 19, 3) := by decide +kernel
theorem dX9_year_45 : decode cX9_year 45 = .ok (.iconst 0, 1) := by decide +kernel
theorem dX9_year_46 : decode cX9_year 46 = .ok (.sipush 170, 3) := by decide +kernel
theorem dX9_year_49 : decode cX9_year 49 = .ok (.invokestatic 97, 3) := by decide +kernel
theorem dX9_year_52 : decode cX9_year 52 = .ok (.iconst 0, 1) := by decide +kernel
theorem dX9_year_53 : decode cX9_year 53 = .ok (.istore 4, 2) := by decide +kernel
theorem dX9_year_55 : decode cX9_year 55 = .ok (.iload 4, 2) := by decide +kernel
theorem dX9_year_57 : decode cX9_year 57 = .ok (.iload_n 2, 1) := by decide +kernel
theorem dX9_year_58 : decode cX9_year 58 = .ok (.if_icmp .ge 49, 3) := by decide +kernel
theorem dX9_year_61 : decode cX9_year 61 = .ok (.ldc2_w 259, 3) := by decide +kernel
theorem dX9_year_64 : decode cX9_year 64 = .ok (.iload_n 1, 1) := by decide +kernel
theorem dX9_year_65 : decode cX9_year 65 = .ok (.i2l, 1) := by decide +kernel
theorem dX9_year_66 : decode cX9_year 66 = .ok (.lmul, 1) := by decide +kernel
theorem dX9_year_67 : decode cX9_year 67 = .ok (.ldc2_w 261, 3) := by decide +kernel
theorem dX9_year_70 : decode cX9_year 70 = .ok (.iload 4, 2) := by decide +kernel
theorem dX9_year_72 : decode cX9_year 72 = .ok (.i2l, 1) := by decide +kernel
theorem dX9_year_73 : decode cX9_year 73 = .ok (.lmul, 1) := by decide +kernel
theorem dX9_year_74 : decode cX9_year 74 = .ok (.ladd, 1) := by decide +kernel
theorem dX9_year_75 : decode cX9_year 75 = .ok (.lconst 1, 1) := by decide +kernel
theorem dX9_year_76 : decode cX9_year 76 = .ok (.ladd, 1) := by decide +kernel
theorem dX9_year_77 : decode cX9_year 77 = .ok (.lstore 5, 2) := by decide +kernel
theorem dX9_year_79 : decode cX9_year 79 = .ok (.aload_n 0, 1) := by decide +kernel
theorem dX9_year_80 : decode cX9_year 80 = .ok (.lload 5, 2) := by decide +kernel
theorem dX9_year_82 : decode cX9_year 82 = .ok (.lload 5, 2) := by decide +kernel
theorem dX9_year_84 : decode cX9_year 84 = .ok (.lmul, 1) := by decide +kernel
theorem dX9_year_85 : decode cX9_year 85 = .ok (.ldc2_w 263, 3) := by decide +kernel
theorem dX9_year_88 : decode cX9_year 88 = .ok (.lrem, 1) := by decide +kernel
theorem dX9_year_89 : decode cX9_year 89 = .ok (.l2i, 1) := by decide +kernel
theorem dX9_year_90 : decode cX9_year 90 = .ok (.invokevirtual 265, 3) := by decide +kernel
theorem dX9_year_93 : decode cX9_year 93 = .ok (.aload_n 0, 1) := by decide +kernel
theorem dX9_year_94 : decode cX9_year 94 = .ok (.aload_n 0, 1) := by decide +kernel
theorem dX9_year_95 : decode cX9_year 95 = .ok (.getfield 19, 3) := by decide +kernel
theorem dX9_year_98 : decode cX9_year 98 = .ok (.invokevirtual 223, 3) := by decide +kernel
theorem dX9_year_101 : decode cX9_year 101 = .ok (.iinc 4 1, 3) := by decide +kernel
theorem dX9_year_104 : decode cX9_year 104 = .ok (.goto (-49), 3) := by decide +kernel
theorem dX9_year_107 : decode cX9_year 107 = .ok (.aload_n 0, 1) := by decide +kernel
theorem dX9_year_108 : decode cX9_year 108 = .ok (.aload_n 0, 1) := by decide +kernel
theorem dX9_year_109 : decode cX9_year 109 = .ok (.getfield 19, 3) := by decide +kernel
theorem dX9_year_112 : decode cX9_year 112 = .ok (.iload_n 3, 1) := by decide +kernel
theorem dX9_year_113 : decode cX9_year 113 = .ok (.ifCond .ne 7, 3) := by decide +kernel
theorem dX9_year_116 : decode cX9_year 116 = .ok (.iconst 1, 1) := by decide +kernel
theorem dX9_year_117 : decode cX9_year 117 = .ok (.goto 4, 3) := by decide +kernel
theorem dX9_year_120 : decode cX9_year 120 = .ok (.iconst 2, 1) := by decide +kernel
theorem dX9_year_121 : decode cX9_year 121 = .ok (.invokevirtual 269, 3) := by decide +kernel
theorem dX9_year_124 : decode cX9_year 124 = .ok (.ireturn, 1) := by decide +kernel
theorem dX9_keep_0 : decode cX9_keep 0 = .ok (.aload_n 0, 1) := by decide +kernel
theorem dX9_keep_1 : decode cX9_keep 1 = .ok (.getfield 104, 3) := by decide +kernel
theorem dX9_keep_4 : decode cX9_keep 4 = .ok (.iconst 2, 1) := by decide +kernel
theorem dX9_keep_5 : decode cX9_keep 5 = .ok (.if_icmp .ne 6, 3) := by decide +kernel
theorem dX9_keep_8 : decode cX9_keep 8 = .ok (.bipush (-3), 2) := by decide +kernel
theorem dX9_keep_10 : decode cX9_keep 10 = .ok (.ireturn, 1) := by decide +kernel
theorem dX9_keep_11 : decode cX9_keep 11 = .ok (.aload_n 0, 1) := by decide +kernel
theorem dX9_keep_12 : decode cX9_keep 12 = .ok (.getfield 16, 3) := by decide +kernel
theorem dX9_keep_15 : decode cX9_keep 15 = .ok (.iconst 0, 1) := by decide +kernel
theorem dX9_keep_16 : decode cX9_keep 16 = .ok (.aload_n 0, 1) := by decide +kernel
theorem dX9_keep_17 : decode cX9_keep 17 = .ok (.getfield 25, 3) := by decide +kernel
theorem dX9_keep_20 : decode cX9_keep 20 = .ok (.sipush 170, 3) := by decide +kernel
theorem dX9_keep_23 : decode cX9_keep 23 = .ok (.aload_n 0, 1) := by decide +kernel
theorem dX9_keep_24 : decode cX9_keep 24 = .ok (.getfield 104, 3) := by decide +kernel
theorem dX9_keep_27 : decode cX9_keep 27 = .ok (.imul, 1) := by decide +kernel
theorem dX9_keep_28 : decode cX9_keep 28 = .ok (.sipush 170, 3) := by decide +kernel
theorem dX9_keep_31 : decode cX9_keep 31 = .ok (.invokestatic 97, 3) := by decide +kernel
theorem dX9_keep_34 : decode cX9_keep 34 = .ok (.aload_n 0, 1) := by decide +kernel
theorem dX9_keep_35 : decode cX9_keep 35 = .ok (.dup, 1) := by decide +kernel
theorem dX9_keep_36 : decode cX9_keep 36 = .ok (.getfield 104, 3) := by decide +kernel
theorem dX9_keep_39 : decode cX9_keep 39 = .ok (.iconst 1, 1) := by decide +kernel
theorem dX9_keep_40 : decode cX9_keep 40 = .ok (.iadd, 1) := by decide +kernel
theorem dX9_keep_41 : decode cX9_keep 41 = .ok (.putfield 104, 3) := by decide +kernel
theorem dX9_keep_44 : decode cX9_keep 44 = .ok (.aload_n 0, 1) := by decide +kernel
theorem dX9_keep_45 : decode cX9_keep 45 = .ok (.getfield 104, 3) := by decide +kernel
theorem dX9_keep_48 : decode cX9_keep 48 = .ok (.ireturn, 1) := by decide +kernel
theorem dX9_back_0 : decode cX9_back 0 = .ok (.aload_n 0, 1) := by decide +kernel
theorem dX9_back_1 : decode cX9_back 1 = .ok (.getfield 104, 3) := by decide +kernel
theorem dX9_back_4 : decode cX9_back 4 = .ok (.ifCond .ne 6, 3) := by decide +kernel
theorem dX9_back_7 : decode cX9_back 7 = .ok (.bipush (-2), 2) := by decide +kernel
theorem dX9_back_9 : decode cX9_back 9 = .ok (.ireturn, 1) := by decide +kernel
theorem dX9_back_10 : decode cX9_back 10 = .ok (.aload_n 0, 1) := by decide +kernel
theorem dX9_back_11 : decode cX9_back 11 = .ok (.dup, 1) := by decide +kernel
theorem dX9_back_12 : decode cX9_back 12 = .ok (.getfield 104, 3) := by decide +kernel
theorem dX9_back_15 : decode cX9_back 15 = .ok (.iconst 1, 1) := by decide +kernel
theorem dX9_back_16 : decode cX9_back 16 = .ok (.isub, 1) := by decide +kernel
theorem dX9_back_17 : decode cX9_back 17 = .ok (.putfield 104, 3) := by decide +kernel
theorem dX9_back_20 : decode cX9_back 20 = .ok (.aload_n 0, 1) := by decide +kernel
theorem dX9_back_21 : decode cX9_back 21 = .ok (.getfield 25, 3) := by decide +kernel
theorem dX9_back_24 : decode cX9_back 24 = .ok (.sipush 170, 3) := by decide +kernel
theorem dX9_back_27 : decode cX9_back 27 = .ok (.aload_n 0, 1) := by decide +kernel
theorem dX9_back_28 : decode cX9_back 28 = .ok (.getfield 104, 3) := by decide +kernel
theorem dX9_back_31 : decode cX9_back 31 = .ok (.imul, 1) := by decide +kernel
theorem dX9_back_32 : decode cX9_back 32 = .ok (.aload_n 0, 1) := by decide +kernel
theorem dX9_back_33 : decode cX9_back 33 = .ok (.getfield 16, 3) := by decide +kernel
theorem dX9_back_36 : decode cX9_back 36 = .ok (.iconst 0, 1) := by decide +kernel
theorem dX9_back_37 : decode cX9_back 37 = .ok (.sipush 170, 3) := by decide +kernel
theorem dX9_back_40 : decode cX9_back 40 = .ok (.invokestatic 97, 3) := by decide +kernel
theorem dX9_back_43 : decode cX9_back 43 = .ok (.aload_n 0, 1) := by decide +kernel
theorem dX9_back_44 : decode cX9_back 44 = .ok (.iconst 0, 1) := by decide +kernel
theorem dX9_back_45 : decode cX9_back 45 = .ok (.putfield 101, 3) := by decide +kernel
theorem dX9_back_48 : decode cX9_back 48 = .ok (.aload_n 0, 1) := by decide +kernel
theorem dX9_back_49 : decode cX9_back 49 = .ok (.getfield 104, 3) := by decide +kernel
theorem dX9_back_52 : decode cX9_back 52 = .ok (.ireturn, 1) := by decide +kernel
theorem dX9_sure_0 : decode cX9_sure 0 = .ok (.iconst 0, 1) := by decide +kernel
theorem dX9_sure_1 : decode cX9_sure 1 = .ok (.istore_n 1, 1) := by decide +kernel
theorem dX9_sure_2 : decode cX9_sure 2 = .ok (.iconst 0, 1) := by decide +kernel
theorem dX9_sure_3 : decode cX9_sure 3 = .ok (.istore_n 2, 1) := by decide +kernel
theorem dX9_sure_4 : decode cX9_sure 4 = .ok (.iload_n 2, 1) := by decide +kernel
theorem dX9_sure_5 : decode cX9_sure 5 = .ok (.aload_n 0, 1) := by decide +kernel
theorem dX9_sure_6 : decode cX9_sure 6 = .ok (.getfield 85, 3) := by decide +kernel
theorem dX9_sure_9 : decode cX9_sure 9 = .ok (.aload_n 0, 1) := by decide +kernel
theorem dX9_sure_10 : decode cX9_sure 10 = .ok (.getfield 88, 3) := by decide +kernel
theorem dX9_sure_13 : decode cX9_sure 13 = .ok (.imul, 1) := by decide +kernel
theorem dX9_sure_14 : decode cX9_sure 14 = .ok (.if_icmp .ge 70, 3) := by decide +kernel
theorem dX9_sure_17 : decode cX9_sure 17 = .ok (.iconst 1, 1) := by decide +kernel
theorem dX9_sure_18 : decode cX9_sure 18 = .ok (.istore_n 3, 1) := by decide +kernel
theorem dX9_sure_19 : decode cX9_sure 19 = .ok (.iconst 0, 1) := by decide +kernel
theorem dX9_sure_20 : decode cX9_sure 20 = .ok (.istore 4, 2) := by decide +kernel
theorem dX9_sure_22 : decode cX9_sure 22 = .ok (.iload 4, 2) := by decide +kernel
theorem dX9_sure_24 : decode cX9_sure 24 = .ok (.aload_n 0, 1) := by decide +kernel
theorem dX9_sure_25 : decode cX9_sure 25 = .ok (.getfield 91, 3) := by decide +kernel
theorem dX9_sure_28 : decode cX9_sure 28 = .ok (.if_icmp .ge 38, 3) := by decide +kernel
theorem dX9_sure_31 : decode cX9_sure 31 = .ok (.iload_n 3, 1) := by decide +kernel
theorem dX9_sure_32 : decode cX9_sure 32 = .ok (.ifCond .eq 26, 3) := by decide +kernel
theorem dX9_sure_35 : decode cX9_sure 35 = .ok (.aload_n 0, 1) := by decide +kernel
theorem dX9_sure_36 : decode cX9_sure 36 = .ok (.getfield 16, 3) := by decide +kernel
theorem dX9_sure_39 : decode cX9_sure 39 = .ok (.iload 4, 2) := by decide +kernel
theorem dX9_sure_41 : decode cX9_sure 41 = .ok (.iload_n 2, 1) := by decide +kernel
theorem dX9_sure_42 : decode cX9_sure 42 = .ok (.invokestatic 172, 3) := by decide +kernel
theorem dX9_sure_45 : decode cX9_sure 45 = .ok (.aload_n 0, 1) := by decide +kernel
theorem dX9_sure_46 : decode cX9_sure 46 = .ok (.getfield 7, 3) := by decide +kernel
theorem dX9_sure_49 : decode cX9_sure 49 = .ok (.iload_n 2, 1) := by decide +kernel
theorem dX9_sure_50 : decode cX9_sure 50 = .ok (.iaload, 1) := by decide +kernel
theorem dX9_sure_51 : decode cX9_sure 51 = .ok (.if_icmp .ne 7, 3) := by decide +kernel
theorem dX9_sure_54 : decode cX9_sure 54 = .ok (.iconst 1, 1) := by decide +kernel
theorem dX9_sure_55 : decode cX9_sure 55 = .ok (.goto 4, 3) := by decide +kernel
theorem dX9_sure_58 : decode cX9_sure 58 = .ok (.iconst 0, 1) := by decide +kernel
theorem dX9_sure_59 : decode cX9_sure 59 = .ok (.istore_n 3, 1) := by decide +kernel
theorem dX9_sure_60 : decode cX9_sure 60 = .ok (.iinc 4 1, 3) := by decide +kernel
theorem dX9_sure_63 : decode cX9_sure 63 = .ok (.goto (-41), 3) := by decide +kernel
theorem dX9_sure_66 : decode cX9_sure 66 = .ok (.iload_n 1, 1) := by decide +kernel
theorem dX9_sure_67 : decode cX9_sure 67 = .ok (.iload_n 3, 1) := by decide +kernel
theorem dX9_sure_68 : decode cX9_sure 68 = .ok (.ifCond .eq 7, 3) := by decide +kernel
theorem dX9_sure_71 : decode cX9_sure 71 = .ok (.iconst 1, 1) := by decide +kernel
theorem dX9_sure_72 : decode cX9_sure 72 = .ok (.goto 4, 3) := by decide +kernel
theorem dX9_sure_75 : decode cX9_sure 75 = .ok (.iconst 0, 1) := by decide +kernel
theorem dX9_sure_76 : decode cX9_sure 76 = .ok (.iadd, 1) := by decide +kernel
theorem dX9_sure_77 : decode cX9_sure 77 = .ok (.istore_n 1, 1) := by decide +kernel
theorem dX9_sure_78 : decode cX9_sure 78 = .ok (.iinc 2 1, 3) := by decide +kernel
theorem dX9_sure_81 : decode cX9_sure 81 = .ok (.goto (-77), 3) := by decide +kernel
theorem dX9_sure_84 : decode cX9_sure 84 = .ok (.iload_n 1, 1) := by decide +kernel
theorem dX9_sure_85 : decode cX9_sure 85 = .ok (.ireturn, 1) := by decide +kernel
theorem dX9_count_0 : decode cX9_count 0 = .ok (.iload_n 1, 1) := by decide +kernel
theorem dX9_count_1 : decode cX9_count 1 = .ok (.tableswitch 151 0 12 #[67, 77, 82, 87, 92, 99, 106, 116, 126, 131, 136, 141, 146], 67) := by decide +kernel
theorem dX9_count_68 : decode cX9_count 68 = .ok (.aload_n 0, 1) := by decide +kernel
theorem dX9_count_69 : decode cX9_count 69 = .ok (.getfield 85, 3) := by decide +kernel
theorem dX9_count_72 : decode cX9_count 72 = .ok (.aload_n 0, 1) := by decide +kernel
theorem dX9_count_73 : decode cX9_count 73 = .ok (.getfield 88, 3) := by decide +kernel
theorem dX9_count_76 : decode cX9_count 76 = .ok (.imul, 1) := by decide +kernel
theorem dX9_count_77 : decode cX9_count 77 = .ok (.ireturn, 1) := by decide +kernel
theorem dX9_count_78 : decode cX9_count 78 = .ok (.aload_n 0, 1) := by decide +kernel
theorem dX9_count_79 : decode cX9_count 79 = .ok (.getfield 88, 3) := by decide +kernel
theorem dX9_count_82 : decode cX9_count 82 = .ok (.ireturn, 1) := by decide +kernel
theorem dX9_count_83 : decode cX9_count 83 = .ok (.aload_n 0, 1) := by decide +kernel
theorem dX9_count_84 : decode cX9_count 84 = .ok (.getfield 91, 3) := by decide +kernel
theorem dX9_count_87 : decode cX9_count 87 = .ok (.ireturn, 1) := by decide +kernel
theorem dX9_count_88 : decode cX9_count 88 = .ok (.aload_n 0, 1) := by decide +kernel
theorem dX9_count_89 : decode cX9_count 89 = .ok (.getfield 94, 3) := by decide +kernel
theorem dX9_count_92 : decode cX9_count 92 = .ok (.ireturn, 1) := by decide +kernel
theorem dX9_count_93 : decode cX9_count 93 = .ok (.aload_n 0, 1) := by decide +kernel
theorem dX9_count_94 : decode cX9_count 94 = .ok (.getfield 16, 3) := by decide +kernel
theorem dX9_count_97 : decode cX9_count 97 = .ok (.iconst 0, 1) := by decide +kernel
theorem dX9_count_98 : decode cX9_count 98 = .ok (.iaload, 1) := by decide +kernel
theorem dX9_count_99 : decode cX9_count 99 = .ok (.ireturn, 1) := by decide +kernel
theorem dX9_count_100 : decode cX9_count 100 = .ok (.aload_n 0, 1) := by decide +kernel
theorem dX9_count_101 : decode cX9_count 101 = .ok (.getfield 16, 3) := by decide +kernel
theorem dX9_count_104 : decode cX9_count 104 = .ok (.iconst 1, 1) := by decide +kernel
theorem dX9_count_105 : decode cX9_count 105 = .ok (.iaload, 1) := by decide +kernel
theorem dX9_count_106 : decode cX9_count 106 = .ok (.ireturn, 1) := by decide +kernel
theorem dX9_count_107 : decode cX9_count 107 = .ok (.aload_n 0, 1) := by decide +kernel
theorem dX9_count_108 : decode cX9_count 108 = .ok (.aload_n 0, 1) := by decide +kernel
theorem dX9_count_109 : decode cX9_count 109 = .ok (.getfield 16, 3) := by decide +kernel
theorem dX9_count_112 : decode cX9_count 112 = .ok (.iconst 1, 1) := by decide +kernel
theorem dX9_count_113 : decode cX9_count 113 = .ok (.invokevirtual 269, 3) := by decide +kernel
theorem dX9_count_116 : decode cX9_count 116 = .ok (.ireturn, 1) := by decide +kernel
theorem dX9_count_117 : decode cX9_count 117 = .ok (.aload_n 0, 1) := by decide +kernel
theorem dX9_count_118 : decode cX9_count 118 = .ok (.aload_n 0, 1) := by decide +kernel
theorem dX9_count_119 : decode cX9_count 119 = .ok (.getfield 16, 3) := by decide +kernel
theorem dX9_count_122 : decode cX9_count 122 = .ok (.iconst 2, 1) := by decide +kernel
theorem dX9_count_123 : decode cX9_count 123 = .ok (.invokevirtual 269, 3) := by decide +kernel
theorem dX9_count_126 : decode cX9_count 126 = .ok (.ireturn, 1) := by decide +kernel
theorem dX9_count_127 : decode cX9_count 127 = .ok (.aload_n 0, 1) := by decide +kernel
theorem dX9_count_128 : decode cX9_count 128 = .ok (.invokevirtual 273, 3) := by decide +kernel
theorem dX9_count_131 : decode cX9_count 131 = .ok (.ireturn, 1) := by decide +kernel
theorem dX9_count_132 : decode cX9_count 132 = .ok (.aload_n 0, 1) := by decide +kernel
theorem dX9_count_133 : decode cX9_count 133 = .ok (.getfield 107, 3) := by decide +kernel
theorem dX9_count_136 : decode cX9_count 136 = .ok (.ireturn, 1) := by decide +kernel
theorem dX9_count_137 : decode cX9_count 137 = .ok (.aload_n 0, 1) := by decide +kernel
theorem dX9_count_138 : decode cX9_count 138 = .ok (.getfield 101, 3) := by decide +kernel
theorem dX9_count_141 : decode cX9_count 141 = .ok (.ireturn, 1) := by decide +kernel
theorem dX9_count_142 : decode cX9_count 142 = .ok (.aload_n 0, 1) := by decide +kernel
theorem dX9_count_143 : decode cX9_count 143 = .ok (.getfield 104, 3) := by decide +kernel
theorem dX9_count_146 : decode cX9_count 146 = .ok (.ireturn, 1) := by decide +kernel
theorem dX9_count_147 : decode cX9_count 147 = .ok (.aload_n 0, 1) := by decide +kernel
theorem dX9_count_148 : decode cX9_count 148 = .ok (.getfield 118, 3) := by decide +kernel
theorem dX9_count_151 : decode cX9_count 151 = .ok (.ireturn, 1) := by decide +kernel
theorem dX9_count_152 : decode cX9_count 152 = .ok (.iconst (-1), 1) := by decide +kernel
theorem dX9_count_153 : decode cX9_count 153 = .ok (.ireturn, 1) := by decide +kernel
end
section
theorem dL_law_0 : decode cL_law 0 = .ok (.new 7, 3) := by decide +kernel
theorem dL_law_3 : decode cL_law 3 = .ok (.dup, 1) := by decide +kernel
theorem dL_law_4 : decode cL_law 4 = .ok (.invokespecial 9, 3) := by decide +kernel
theorem dL_law_7 : decode cL_law 7 = .ok (.astore_n 1, 1) := by decide +kernel
theorem dL_law_8 : decode cL_law 8 = .ok (.new 10, 3) := by decide +kernel
theorem dL_law_11 : decode cL_law 11 = .ok (.dup, 1) := by decide +kernel
theorem dL_law_12 : decode cL_law 12 = .ok (.invokespecial 12, 3) := by decide +kernel
theorem dL_law_15 : decode cL_law 15 = .ok (.astore_n 2, 1) := by decide +kernel
theorem dL_law_16 : decode cL_law 16 = .ok (.iconst 0, 1) := by decide +kernel
theorem dL_law_17 : decode cL_law 17 = .ok (.istore_n 3, 1) := by decide +kernel
theorem dL_law_18 : decode cL_law 18 = .ok (.iload_n 3, 1) := by decide +kernel
theorem dL_law_19 : decode cL_law 19 = .ok (.aload_n 0, 1) := by decide +kernel
theorem dL_law_20 : decode cL_law 20 = .ok (.arraylength, 1) := by decide +kernel
theorem dL_law_21 : decode cL_law 21 = .ok (.iconst 5, 1) := by decide +kernel
theorem dL_law_22 : decode cL_law 22 = .ok (.isub, 1) := by decide +kernel
theorem dL_law_23 : decode cL_law 23 = .ok (.if_icmp .gt 1092, 3) := by decide +kernel
theorem dL_law_26 : decode cL_law 26 = .ok (.aload_n 0, 1) := by decide +kernel
theorem dL_law_27 : decode cL_law 27 = .ok (.iload_n 3, 1) := by decide +kernel
theorem dL_law_28 : decode cL_law 28 = .ok (.iaload, 1) := by decide +kernel
theorem dL_law_29 : decode cL_law 29 = .ok (.bipush 63, 2) := by decide +kernel
theorem dL_law_31 : decode cL_law 31 = .ok (.iand, 1) := by decide +kernel
theorem dL_law_32 : decode cL_law 32 = .ok (.tableswitch 1077 0 32 #[148, 171, 184, 197, 210, 233, 276, 299, 332, 385, 418, 441, 464, 507, 540, 573, 586, 609, 632, 675, 698, 721, 754, 797, 830, 863, 876, 889, 932, 985, 1028, 1041, 1054], 148) := by decide +kernel
theorem dL_law_180 : decode cL_law 180 = .ok (.aload_n 1, 1) := by decide +kernel
theorem dL_law_181 : decode cL_law 181 = .ok (.aload_n 0, 1) := by decide +kernel
theorem dL_law_182 : decode cL_law 182 = .ok (.iload_n 3, 1) := by decide +kernel
theorem dL_law_183 : decode cL_law 183 = .ok (.iconst 1, 1) := by decide +kernel
theorem dL_law_184 : decode cL_law 184 = .ok (.iadd, 1) := by decide +kernel
theorem dL_law_185 : decode cL_law 185 = .ok (.iaload, 1) := by decide +kernel
theorem dL_law_186 : decode cL_law 186 = .ok (.invokevirtual 13, 3) := by decide +kernel
theorem dL_law_189 : decode cL_law 189 = .ok (.aload_n 2, 1) := by decide +kernel
theorem dL_law_190 : decode cL_law 190 = .ok (.aload_n 0, 1) := by decide +kernel
theorem dL_law_191 : decode cL_law 191 = .ok (.iload_n 3, 1) := by decide +kernel
theorem dL_law_192 : decode cL_law 192 = .ok (.iconst 1, 1) := by decide +kernel
theorem dL_law_193 : decode cL_law 193 = .ok (.iadd, 1) := by decide +kernel
theorem dL_law_194 : decode cL_law 194 = .ok (.iaload, 1) := by decide +kernel
theorem dL_law_195 : decode cL_law 195 = .ok (.invokevirtual 17, 3) := by decide +kernel
theorem dL_law_198 : decode cL_law 198 = .ok (.if_icmp .eq 911, 3) := by decide +kernel
theorem dL_law_201 : decode cL_law 201 = .ok (.iconst 0, 1) := by decide +kernel
theorem dL_law_202 : decode cL_law 202 = .ok (.ireturn, 1) := by decide +kernel
theorem dL_law_203 : decode cL_law 203 = .ok (.aload_n 1, 1) := by decide +kernel
theorem dL_law_204 : decode cL_law 204 = .ok (.invokevirtual 18, 3) := by decide +kernel
theorem dL_law_207 : decode cL_law 207 = .ok (.aload_n 2, 1) := by decide +kernel
theorem dL_law_208 : decode cL_law 208 = .ok (.invokevirtual 22, 3) := by decide +kernel
theorem dL_law_211 : decode cL_law 211 = .ok (.if_icmp .eq 898, 3) := by decide +kernel
theorem dL_law_214 : decode cL_law 214 = .ok (.iconst 0, 1) := by decide +kernel
theorem dL_law_215 : decode cL_law 215 = .ok (.ireturn, 1) := by decide +kernel
theorem dL_law_216 : decode cL_law 216 = .ok (.aload_n 1, 1) := by decide +kernel
theorem dL_law_217 : decode cL_law 217 = .ok (.invokevirtual 23, 3) := by decide +kernel
theorem dL_law_220 : decode cL_law 220 = .ok (.aload_n 2, 1) := by decide +kernel
theorem dL_law_221 : decode cL_law 221 = .ok (.invokevirtual 26, 3) := by decide +kernel
theorem dL_law_224 : decode cL_law 224 = .ok (.if_icmp .eq 885, 3) := by decide +kernel
theorem dL_law_227 : decode cL_law 227 = .ok (.iconst 0, 1) := by decide +kernel
theorem dL_law_228 : decode cL_law 228 = .ok (.ireturn, 1) := by decide +kernel
theorem dL_law_229 : decode cL_law 229 = .ok (.aload_n 1, 1) := by decide +kernel
theorem dL_law_230 : decode cL_law 230 = .ok (.invokevirtual 27, 3) := by decide +kernel
theorem dL_law_233 : decode cL_law 233 = .ok (.aload_n 2, 1) := by decide +kernel
theorem dL_law_234 : decode cL_law 234 = .ok (.invokevirtual 30, 3) := by decide +kernel
theorem dL_law_237 : decode cL_law 237 = .ok (.if_icmp .eq 872, 3) := by decide +kernel
theorem dL_law_240 : decode cL_law 240 = .ok (.iconst 0, 1) := by decide +kernel
theorem dL_law_241 : decode cL_law 241 = .ok (.ireturn, 1) := by decide +kernel
theorem dL_law_242 : decode cL_law 242 = .ok (.aload_n 1, 1) := by decide +kernel
theorem dL_law_243 : decode cL_law 243 = .ok (.aload_n 0, 1) := by decide +kernel
theorem dL_law_244 : decode cL_law 244 = .ok (.iload_n 3, 1) := by decide +kernel
theorem dL_law_245 : decode cL_law 245 = .ok (.iconst 1, 1) := by decide +kernel
theorem dL_law_246 : decode cL_law 246 = .ok (.iadd, 1) := by decide +kernel
theorem dL_law_247 : decode cL_law 247 = .ok (.iaload, 1) := by decide +kernel
theorem dL_law_248 : decode cL_law 248 = .ok (.invokevirtual 31, 3) := by decide +kernel
theorem dL_law_251 : decode cL_law 251 = .ok (.aload_n 2, 1) := by decide +kernel
theorem dL_law_252 : decode cL_law 252 = .ok (.aload_n 0, 1) := by decide +kernel
theorem dL_law_253 : decode cL_law 253 = .ok (.iload_n 3, 1) := by decide +kernel
theorem dL_law_254 : decode cL_law 254 = .ok (.iconst 1, 1) := by decide +kernel
theorem dL_law_255 : decode cL_law 255 = .ok (.iadd, 1) := by decide +kernel
theorem dL_law_256 : decode cL_law 256 = .ok (.iaload, 1) := by decide +kernel
theorem dL_law_257 : decode cL_law 257 = .ok (.invokevirtual 34, 3) := by decide +kernel
theorem dL_law_260 : decode cL_law 260 = .ok (.if_icmp .eq 849, 3) := by decide +kernel
theorem dL_law_263 : decode cL_law 263 = .ok (.iconst 0, 1) := by decide +kernel
theorem dL_law_264 : decode cL_law 264 = .ok (.ireturn, 1) := by decide +kernel
theorem dL_law_265 : decode cL_law 265 = .ok (.aload_n 1, 1) := by decide +kernel
theorem dL_law_266 : decode cL_law 266 = .ok (.aload_n 0, 1) := by decide +kernel
theorem dL_law_267 : decode cL_law 267 = .ok (.iload_n 3, 1) := by decide +kernel
theorem dL_law_268 : decode cL_law 268 = .ok (.iconst 1, 1) := by decide +kernel
theorem dL_law_269 : decode cL_law 269 = .ok (.iadd, 1) := by decide +kernel
theorem dL_law_270 : decode cL_law 270 = .ok (.iaload, 1) := by decide +kernel
theorem dL_law_271 : decode cL_law 271 = .ok (.aload_n 0, 1) := by decide +kernel
theorem dL_law_272 : decode cL_law 272 = .ok (.iload_n 3, 1) := by decide +kernel
theorem dL_law_273 : decode cL_law 273 = .ok (.iconst 2, 1) := by decide +kernel
theorem dL_law_274 : decode cL_law 274 = .ok (.iadd, 1) := by decide +kernel
theorem dL_law_275 : decode cL_law 275 = .ok (.iaload, 1) := by decide +kernel
theorem dL_law_276 : decode cL_law 276 = .ok (.aload_n 0, 1) := by decide +kernel
theorem dL_law_277 : decode cL_law 277 = .ok (.iload_n 3, 1) := by decide +kernel
theorem dL_law_278 : decode cL_law 278 = .ok (.iconst 3, 1) := by decide +kernel
theorem dL_law_279 : decode cL_law 279 = .ok (.iadd, 1) := by decide +kernel
theorem dL_law_280 : decode cL_law 280 = .ok (.iaload, 1) := by decide +kernel
theorem dL_law_281 : decode cL_law 281 = .ok (.invokevirtual 35, 3) := by decide +kernel
theorem dL_law_284 : decode cL_law 284 = .ok (.aload_n 2, 1) := by decide +kernel
theorem dL_law_285 : decode cL_law 285 = .ok (.aload_n 0, 1) := by decide +kernel
theorem dL_law_286 : decode cL_law 286 = .ok (.iload_n 3, 1) := by decide +kernel
theorem dL_law_287 : decode cL_law 287 = .ok (.iconst 1, 1) := by decide +kernel
theorem dL_law_288 : decode cL_law 288 = .ok (.iadd, 1) := by decide +kernel
theorem dL_law_289 : decode cL_law 289 = .ok (.iaload, 1) := by decide +kernel
theorem dL_law_290 : decode cL_law 290 = .ok (.aload_n 0, 1) := by decide +kernel
theorem dL_law_291 : decode cL_law 291 = .ok (.iload_n 3, 1) := by decide +kernel
theorem dL_law_292 : decode cL_law 292 = .ok (.iconst 2, 1) := by decide +kernel
theorem dL_law_293 : decode cL_law 293 = .ok (.iadd, 1) := by decide +kernel
theorem dL_law_294 : decode cL_law 294 = .ok (.iaload, 1) := by decide +kernel
theorem dL_law_295 : decode cL_law 295 = .ok (.aload_n 0, 1) := by decide +kernel
theorem dL_law_296 : decode cL_law 296 = .ok (.iload_n 3, 1) := by decide +kernel
theorem dL_law_297 : decode cL_law 297 = .ok (.iconst 3, 1) := by decide +kernel
theorem dL_law_298 : decode cL_law 298 = .ok (.iadd, 1) := by decide +kernel
theorem dL_law_299 : decode cL_law 299 = .ok (.iaload, 1) := by decide +kernel
theorem dL_law_300 : decode cL_law 300 = .ok (.invokevirtual 39, 3) := by decide +kernel
theorem dL_law_303 : decode cL_law 303 = .ok (.if_icmp .eq 806, 3) := by decide +kernel
theorem dL_law_306 : decode cL_law 306 = .ok (.iconst 0, 1) := by decide +kernel
theorem dL_law_307 : decode cL_law 307 = .ok (.ireturn, 1) := by decide +kernel
theorem dL_law_308 : decode cL_law 308 = .ok (.aload_n 1, 1) := by decide +kernel
theorem dL_law_309 : decode cL_law 309 = .ok (.aload_n 0, 1) := by decide +kernel
theorem dL_law_310 : decode cL_law 310 = .ok (.iload_n 3, 1) := by decide +kernel
theorem dL_law_311 : decode cL_law 311 = .ok (.iconst 1, 1) := by decide +kernel
theorem dL_law_312 : decode cL_law 312 = .ok (.iadd, 1) := by decide +kernel
theorem dL_law_313 : decode cL_law 313 = .ok (.iaload, 1) := by decide +kernel
theorem dL_law_314 : decode cL_law 314 = .ok (.invokevirtual 40, 3) := by decide +kernel
theorem dL_law_317 : decode cL_law 317 = .ok (.aload_n 2, 1) := by decide +kernel
theorem dL_law_318 : decode cL_law 318 = .ok (.aload_n 0, 1) := by decide +kernel
theorem dL_law_319 : decode cL_law 319 = .ok (.iload_n 3, 1) := by decide +kernel
theorem dL_law_320 : decode cL_law 320 = .ok (.iconst 1, 1) := by decide +kernel
theorem dL_law_321 : decode cL_law 321 = .ok (.iadd, 1) := by decide +kernel
theorem dL_law_322 : decode cL_law 322 = .ok (.iaload, 1) := by decide +kernel
theorem dL_law_323 : decode cL_law 323 = .ok (.invokevirtual 43, 3) := by decide +kernel
theorem dL_law_326 : decode cL_law 326 = .ok (.if_icmp .eq 783, 3) := by decide +kernel
theorem dL_law_329 : decode cL_law 329 = .ok (.iconst 0, 1) := by decide +kernel
theorem dL_law_330 : decode cL_law 330 = .ok (.ireturn, 1) := by decide +kernel
theorem dL_law_331 : decode cL_law 331 = .ok (.aload_n 1, 1) := by decide +kernel
theorem dL_law_332 : decode cL_law 332 = .ok (.aload_n 0, 1) := by decide +kernel
theorem dL_law_333 : decode cL_law 333 = .ok (.iload_n 3, 1) := by decide +kernel
theorem dL_law_334 : decode cL_law 334 = .ok (.iconst 1, 1) := by decide +kernel
theorem dL_law_335 : decode cL_law 335 = .ok (.iadd, 1) := by decide +kernel
theorem dL_law_336 : decode cL_law 336 = .ok (.iaload, 1) := by decide +kernel
theorem dL_law_337 : decode cL_law 337 = .ok (.aload_n 0, 1) := by decide +kernel
theorem dL_law_338 : decode cL_law 338 = .ok (.iload_n 3, 1) := by decide +kernel
theorem dL_law_339 : decode cL_law 339 = .ok (.iconst 2, 1) := by decide +kernel
theorem dL_law_340 : decode cL_law 340 = .ok (.iadd, 1) := by decide +kernel
theorem dL_law_341 : decode cL_law 341 = .ok (.iaload, 1) := by decide +kernel
theorem dL_law_342 : decode cL_law 342 = .ok (.invokevirtual 44, 3) := by decide +kernel
theorem dL_law_345 : decode cL_law 345 = .ok (.aload_n 2, 1) := by decide +kernel
theorem dL_law_346 : decode cL_law 346 = .ok (.aload_n 0, 1) := by decide +kernel
theorem dL_law_347 : decode cL_law 347 = .ok (.iload_n 3, 1) := by decide +kernel
theorem dL_law_348 : decode cL_law 348 = .ok (.iconst 1, 1) := by decide +kernel
theorem dL_law_349 : decode cL_law 349 = .ok (.iadd, 1) := by decide +kernel
theorem dL_law_350 : decode cL_law 350 = .ok (.iaload, 1) := by decide +kernel
theorem dL_law_351 : decode cL_law 351 = .ok (.aload_n 0, 1) := by decide +kernel
theorem dL_law_352 : decode cL_law 352 = .ok (.iload_n 3, 1) := by decide +kernel
theorem dL_law_353 : decode cL_law 353 = .ok (.iconst 2, 1) := by decide +kernel
theorem dL_law_354 : decode cL_law 354 = .ok (.iadd, 1) := by decide +kernel
theorem dL_law_355 : decode cL_law 355 = .ok (.iaload, 1) := by decide +kernel
theorem dL_law_356 : decode cL_law 356 = .ok (.invokevirtual 48, 3) := by decide +kernel
theorem dL_law_359 : decode cL_law 359 = .ok (.if_icmp .eq 750, 3) := by decide +kernel
theorem dL_law_362 : decode cL_law 362 = .ok (.iconst 0, 1) := by decide +kernel
theorem dL_law_363 : decode cL_law 363 = .ok (.ireturn, 1) := by decide +kernel
theorem dL_law_364 : decode cL_law 364 = .ok (.aload_n 1, 1) := by decide +kernel
theorem dL_law_365 : decode cL_law 365 = .ok (.aload_n 0, 1) := by decide +kernel
theorem dL_law_366 : decode cL_law 366 = .ok (.iload_n 3, 1) := by decide +kernel
theorem dL_law_367 : decode cL_law 367 = .ok (.iconst 1, 1) := by decide +kernel
theorem dL_law_368 : decode cL_law 368 = .ok (.iadd, 1) := by decide +kernel
theorem dL_law_369 : decode cL_law 369 = .ok (.iaload, 1) := by decide +kernel
theorem dL_law_370 : decode cL_law 370 = .ok (.aload_n 0, 1) := by decide +kernel
theorem dL_law_371 : decode cL_law 371 = .ok (.iload_n 3, 1) := by decide +kernel
theorem dL_law_372 : decode cL_law 372 = .ok (.iconst 2, 1) := by decide +kernel
theorem dL_law_373 : decode cL_law 373 = .ok (.iadd, 1) := by decide +kernel
theorem dL_law_374 : decode cL_law 374 = .ok (.iaload, 1) := by decide +kernel
theorem dL_law_375 : decode cL_law 375 = .ok (.aload_n 0, 1) := by decide +kernel
theorem dL_law_376 : decode cL_law 376 = .ok (.iload_n 3, 1) := by decide +kernel
theorem dL_law_377 : decode cL_law 377 = .ok (.iconst 3, 1) := by decide +kernel
theorem dL_law_378 : decode cL_law 378 = .ok (.iadd, 1) := by decide +kernel
theorem dL_law_379 : decode cL_law 379 = .ok (.iaload, 1) := by decide +kernel
theorem dL_law_380 : decode cL_law 380 = .ok (.aload_n 0, 1) := by decide +kernel
theorem dL_law_381 : decode cL_law 381 = .ok (.iload_n 3, 1) := by decide +kernel
theorem dL_law_382 : decode cL_law 382 = .ok (.iconst 4, 1) := by decide +kernel
theorem dL_law_383 : decode cL_law 383 = .ok (.iadd, 1) := by decide +kernel
theorem dL_law_384 : decode cL_law 384 = .ok (.iaload, 1) := by decide +kernel
theorem dL_law_385 : decode cL_law 385 = .ok (.invokevirtual 49, 3) := by decide +kernel
theorem dL_law_388 : decode cL_law 388 = .ok (.aload_n 2, 1) := by decide +kernel
theorem dL_law_389 : decode cL_law 389 = .ok (.aload_n 0, 1) := by decide +kernel
theorem dL_law_390 : decode cL_law 390 = .ok (.iload_n 3, 1) := by decide +kernel
theorem dL_law_391 : decode cL_law 391 = .ok (.iconst 1, 1) := by decide +kernel
theorem dL_law_392 : decode cL_law 392 = .ok (.iadd, 1) := by decide +kernel
theorem dL_law_393 : decode cL_law 393 = .ok (.iaload, 1) := by decide +kernel
theorem dL_law_394 : decode cL_law 394 = .ok (.aload_n 0, 1) := by decide +kernel
theorem dL_law_395 : decode cL_law 395 = .ok (.iload_n 3, 1) := by decide +kernel
theorem dL_law_396 : decode cL_law 396 = .ok (.iconst 2, 1) := by decide +kernel
theorem dL_law_397 : decode cL_law 397 = .ok (.iadd, 1) := by decide +kernel
theorem dL_law_398 : decode cL_law 398 = .ok (.iaload, 1) := by decide +kernel
theorem dL_law_399 : decode cL_law 399 = .ok (.aload_n 0, 1) := by decide +kernel
theorem dL_law_400 : decode cL_law 400 = .ok (.iload_n 3, 1) := by decide +kernel
theorem dL_law_401 : decode cL_law 401 = .ok (.iconst 3, 1) := by decide +kernel
theorem dL_law_402 : decode cL_law 402 = .ok (.iadd, 1) := by decide +kernel
theorem dL_law_403 : decode cL_law 403 = .ok (.iaload, 1) := by decide +kernel
theorem dL_law_404 : decode cL_law 404 = .ok (.aload_n 0, 1) := by decide +kernel
theorem dL_law_405 : decode cL_law 405 = .ok (.iload_n 3, 1) := by decide +kernel
theorem dL_law_406 : decode cL_law 406 = .ok (.iconst 4, 1) := by decide +kernel
theorem dL_law_407 : decode cL_law 407 = .ok (.iadd, 1) := by decide +kernel
theorem dL_law_408 : decode cL_law 408 = .ok (.iaload, 1) := by decide +kernel
theorem dL_law_409 : decode cL_law 409 = .ok (.invokevirtual 53, 3) := by decide +kernel
theorem dL_law_412 : decode cL_law 412 = .ok (.if_icmp .eq 697, 3) := by decide +kernel
theorem dL_law_415 : decode cL_law 415 = .ok (.iconst 0, 1) := by decide +kernel
theorem dL_law_416 : decode cL_law 416 = .ok (.ireturn, 1) := by decide +kernel
theorem dL_law_417 : decode cL_law 417 = .ok (.aload_n 1, 1) := by decide +kernel
theorem dL_law_418 : decode cL_law 418 = .ok (.aload_n 0, 1) := by decide +kernel
theorem dL_law_419 : decode cL_law 419 = .ok (.iload_n 3, 1) := by decide +kernel
theorem dL_law_420 : decode cL_law 420 = .ok (.iconst 1, 1) := by decide +kernel
theorem dL_law_421 : decode cL_law 421 = .ok (.iadd, 1) := by decide +kernel
theorem dL_law_422 : decode cL_law 422 = .ok (.iaload, 1) := by decide +kernel
theorem dL_law_423 : decode cL_law 423 = .ok (.aload_n 0, 1) := by decide +kernel
theorem dL_law_424 : decode cL_law 424 = .ok (.iload_n 3, 1) := by decide +kernel
theorem dL_law_425 : decode cL_law 425 = .ok (.iconst 2, 1) := by decide +kernel
theorem dL_law_426 : decode cL_law 426 = .ok (.iadd, 1) := by decide +kernel
theorem dL_law_427 : decode cL_law 427 = .ok (.iaload, 1) := by decide +kernel
theorem dL_law_428 : decode cL_law 428 = .ok (.invokevirtual 54, 3) := by decide +kernel
theorem dL_law_431 : decode cL_law 431 = .ok (.aload_n 2, 1) := by decide +kernel
theorem dL_law_432 : decode cL_law 432 = .ok (.aload_n 0, 1) := by decide +kernel
theorem dL_law_433 : decode cL_law 433 = .ok (.iload_n 3, 1) := by decide +kernel
theorem dL_law_434 : decode cL_law 434 = .ok (.iconst 1, 1) := by decide +kernel
theorem dL_law_435 : decode cL_law 435 = .ok (.iadd, 1) := by decide +kernel
theorem dL_law_436 : decode cL_law 436 = .ok (.iaload, 1) := by decide +kernel
theorem dL_law_437 : decode cL_law 437 = .ok (.aload_n 0, 1) := by decide +kernel
theorem dL_law_438 : decode cL_law 438 = .ok (.iload_n 3, 1) := by decide +kernel
theorem dL_law_439 : decode cL_law 439 = .ok (.iconst 2, 1) := by decide +kernel
theorem dL_law_440 : decode cL_law 440 = .ok (.iadd, 1) := by decide +kernel
theorem dL_law_441 : decode cL_law 441 = .ok (.iaload, 1) := by decide +kernel
theorem dL_law_442 : decode cL_law 442 = .ok (.invokevirtual 57, 3) := by decide +kernel
theorem dL_law_445 : decode cL_law 445 = .ok (.if_icmp .eq 664, 3) := by decide +kernel
theorem dL_law_448 : decode cL_law 448 = .ok (.iconst 0, 1) := by decide +kernel
theorem dL_law_449 : decode cL_law 449 = .ok (.ireturn, 1) := by decide +kernel
theorem dL_law_450 : decode cL_law 450 = .ok (.aload_n 1, 1) := by decide +kernel
theorem dL_law_451 : decode cL_law 451 = .ok (.aload_n 0, 1) := by decide +kernel
theorem dL_law_452 : decode cL_law 452 = .ok (.iload_n 3, 1) := by decide +kernel
theorem dL_law_453 : decode cL_law 453 = .ok (.iconst 1, 1) := by decide +kernel
theorem dL_law_454 : decode cL_law 454 = .ok (.iadd, 1) := by decide +kernel
theorem dL_law_455 : decode cL_law 455 = .ok (.iaload, 1) := by decide +kernel
theorem dL_law_456 : decode cL_law 456 = .ok (.invokevirtual 58, 3) := by decide +kernel
theorem dL_law_459 : decode cL_law 459 = .ok (.aload_n 2, 1) := by decide +kernel
theorem dL_law_460 : decode cL_law 460 = .ok (.aload_n 0, 1) := by decide +kernel
theorem dL_law_461 : decode cL_law 461 = .ok (.iload_n 3, 1) := by decide +kernel
theorem dL_law_462 : decode cL_law 462 = .ok (.iconst 1, 1) := by decide +kernel
theorem dL_law_463 : decode cL_law 463 = .ok (.iadd, 1) := by decide +kernel
theorem dL_law_464 : decode cL_law 464 = .ok (.iaload, 1) := by decide +kernel
theorem dL_law_465 : decode cL_law 465 = .ok (.invokevirtual 61, 3) := by decide +kernel
theorem dL_law_468 : decode cL_law 468 = .ok (.if_icmp .eq 641, 3) := by decide +kernel
theorem dL_law_471 : decode cL_law 471 = .ok (.iconst 0, 1) := by decide +kernel
theorem dL_law_472 : decode cL_law 472 = .ok (.ireturn, 1) := by decide +kernel
theorem dL_law_473 : decode cL_law 473 = .ok (.aload_n 1, 1) := by decide +kernel
theorem dL_law_474 : decode cL_law 474 = .ok (.aload_n 0, 1) := by decide +kernel
theorem dL_law_475 : decode cL_law 475 = .ok (.iload_n 3, 1) := by decide +kernel
theorem dL_law_476 : decode cL_law 476 = .ok (.iconst 1, 1) := by decide +kernel
theorem dL_law_477 : decode cL_law 477 = .ok (.iadd, 1) := by decide +kernel
theorem dL_law_478 : decode cL_law 478 = .ok (.iaload, 1) := by decide +kernel
theorem dL_law_479 : decode cL_law 479 = .ok (.invokevirtual 62, 3) := by decide +kernel
theorem dL_law_482 : decode cL_law 482 = .ok (.aload_n 2, 1) := by decide +kernel
theorem dL_law_483 : decode cL_law 483 = .ok (.aload_n 0, 1) := by decide +kernel
theorem dL_law_484 : decode cL_law 484 = .ok (.iload_n 3, 1) := by decide +kernel
theorem dL_law_485 : decode cL_law 485 = .ok (.iconst 1, 1) := by decide +kernel
theorem dL_law_486 : decode cL_law 486 = .ok (.iadd, 1) := by decide +kernel
theorem dL_law_487 : decode cL_law 487 = .ok (.iaload, 1) := by decide +kernel
theorem dL_law_488 : decode cL_law 488 = .ok (.invokevirtual 65, 3) := by decide +kernel
theorem dL_law_491 : decode cL_law 491 = .ok (.if_icmp .eq 618, 3) := by decide +kernel
theorem dL_law_494 : decode cL_law 494 = .ok (.iconst 0, 1) := by decide +kernel
theorem dL_law_495 : decode cL_law 495 = .ok (.ireturn, 1) := by decide +kernel
theorem dL_law_496 : decode cL_law 496 = .ok (.aload_n 1, 1) := by decide +kernel
theorem dL_law_497 : decode cL_law 497 = .ok (.aload_n 0, 1) := by decide +kernel
theorem dL_law_498 : decode cL_law 498 = .ok (.iload_n 3, 1) := by decide +kernel
theorem dL_law_499 : decode cL_law 499 = .ok (.iconst 1, 1) := by decide +kernel
theorem dL_law_500 : decode cL_law 500 = .ok (.iadd, 1) := by decide +kernel
theorem dL_law_501 : decode cL_law 501 = .ok (.iaload, 1) := by decide +kernel
theorem dL_law_502 : decode cL_law 502 = .ok (.aload_n 0, 1) := by decide +kernel
theorem dL_law_503 : decode cL_law 503 = .ok (.iload_n 3, 1) := by decide +kernel
theorem dL_law_504 : decode cL_law 504 = .ok (.iconst 2, 1) := by decide +kernel
theorem dL_law_505 : decode cL_law 505 = .ok (.iadd, 1) := by decide +kernel
theorem dL_law_506 : decode cL_law 506 = .ok (.iaload, 1) := by decide +kernel
theorem dL_law_507 : decode cL_law 507 = .ok (.aload_n 0, 1) := by decide +kernel
theorem dL_law_508 : decode cL_law 508 = .ok (.iload_n 3, 1) := by decide +kernel
theorem dL_law_509 : decode cL_law 509 = .ok (.iconst 3, 1) := by decide +kernel
theorem dL_law_510 : decode cL_law 510 = .ok (.iadd, 1) := by decide +kernel
theorem dL_law_511 : decode cL_law 511 = .ok (.iaload, 1) := by decide +kernel
theorem dL_law_512 : decode cL_law 512 = .ok (.invokevirtual 66, 3) := by decide +kernel
theorem dL_law_515 : decode cL_law 515 = .ok (.aload_n 2, 1) := by decide +kernel
theorem dL_law_516 : decode cL_law 516 = .ok (.aload_n 0, 1) := by decide +kernel
theorem dL_law_517 : decode cL_law 517 = .ok (.iload_n 3, 1) := by decide +kernel
theorem dL_law_518 : decode cL_law 518 = .ok (.iconst 1, 1) := by decide +kernel
theorem dL_law_519 : decode cL_law 519 = .ok (.iadd, 1) := by decide +kernel
theorem dL_law_520 : decode cL_law 520 = .ok (.iaload, 1) := by decide +kernel
theorem dL_law_521 : decode cL_law 521 = .ok (.aload_n 0, 1) := by decide +kernel
theorem dL_law_522 : decode cL_law 522 = .ok (.iload_n 3, 1) := by decide +kernel
theorem dL_law_523 : decode cL_law 523 = .ok (.iconst 2, 1) := by decide +kernel
theorem dL_law_524 : decode cL_law 524 = .ok (.iadd, 1) := by decide +kernel
theorem dL_law_525 : decode cL_law 525 = .ok (.iaload, 1) := by decide +kernel
theorem dL_law_526 : decode cL_law 526 = .ok (.aload_n 0, 1) := by decide +kernel
theorem dL_law_527 : decode cL_law 527 = .ok (.iload_n 3, 1) := by decide +kernel
theorem dL_law_528 : decode cL_law 528 = .ok (.iconst 3, 1) := by decide +kernel
theorem dL_law_529 : decode cL_law 529 = .ok (.iadd, 1) := by decide +kernel
theorem dL_law_530 : decode cL_law 530 = .ok (.iaload, 1) := by decide +kernel
theorem dL_law_531 : decode cL_law 531 = .ok (.invokevirtual 69, 3) := by decide +kernel
theorem dL_law_534 : decode cL_law 534 = .ok (.if_icmp .eq 575, 3) := by decide +kernel
theorem dL_law_537 : decode cL_law 537 = .ok (.iconst 0, 1) := by decide +kernel
theorem dL_law_538 : decode cL_law 538 = .ok (.ireturn, 1) := by decide +kernel
theorem dL_law_539 : decode cL_law 539 = .ok (.aload_n 1, 1) := by decide +kernel
theorem dL_law_540 : decode cL_law 540 = .ok (.aload_n 0, 1) := by decide +kernel
theorem dL_law_541 : decode cL_law 541 = .ok (.iload_n 3, 1) := by decide +kernel
theorem dL_law_542 : decode cL_law 542 = .ok (.iconst 1, 1) := by decide +kernel
theorem dL_law_543 : decode cL_law 543 = .ok (.iadd, 1) := by decide +kernel
theorem dL_law_544 : decode cL_law 544 = .ok (.iaload, 1) := by decide +kernel
theorem dL_law_545 : decode cL_law 545 = .ok (.aload_n 0, 1) := by decide +kernel
theorem dL_law_546 : decode cL_law 546 = .ok (.iload_n 3, 1) := by decide +kernel
theorem dL_law_547 : decode cL_law 547 = .ok (.iconst 2, 1) := by decide +kernel
theorem dL_law_548 : decode cL_law 548 = .ok (.iadd, 1) := by decide +kernel
theorem dL_law_549 : decode cL_law 549 = .ok (.iaload, 1) := by decide +kernel
theorem dL_law_550 : decode cL_law 550 = .ok (.invokevirtual 70, 3) := by decide +kernel
theorem dL_law_553 : decode cL_law 553 = .ok (.aload_n 2, 1) := by decide +kernel
theorem dL_law_554 : decode cL_law 554 = .ok (.aload_n 0, 1) := by decide +kernel
theorem dL_law_555 : decode cL_law 555 = .ok (.iload_n 3, 1) := by decide +kernel
theorem dL_law_556 : decode cL_law 556 = .ok (.iconst 1, 1) := by decide +kernel
theorem dL_law_557 : decode cL_law 557 = .ok (.iadd, 1) := by decide +kernel
theorem dL_law_558 : decode cL_law 558 = .ok (.iaload, 1) := by decide +kernel
theorem dL_law_559 : decode cL_law 559 = .ok (.aload_n 0, 1) := by decide +kernel
theorem dL_law_560 : decode cL_law 560 = .ok (.iload_n 3, 1) := by decide +kernel
theorem dL_law_561 : decode cL_law 561 = .ok (.iconst 2, 1) := by decide +kernel
theorem dL_law_562 : decode cL_law 562 = .ok (.iadd, 1) := by decide +kernel
theorem dL_law_563 : decode cL_law 563 = .ok (.iaload, 1) := by decide +kernel
theorem dL_law_564 : decode cL_law 564 = .ok (.invokevirtual 73, 3) := by decide +kernel
theorem dL_law_567 : decode cL_law 567 = .ok (.if_icmp .eq 542, 3) := by decide +kernel
theorem dL_law_570 : decode cL_law 570 = .ok (.iconst 0, 1) := by decide +kernel
theorem dL_law_571 : decode cL_law 571 = .ok (.ireturn, 1) := by decide +kernel
theorem dL_law_572 : decode cL_law 572 = .ok (.aload_n 1, 1) := by decide +kernel
theorem dL_law_573 : decode cL_law 573 = .ok (.aload_n 0, 1) := by decide +kernel
theorem dL_law_574 : decode cL_law 574 = .ok (.iload_n 3, 1) := by decide +kernel
theorem dL_law_575 : decode cL_law 575 = .ok (.iconst 1, 1) := by decide +kernel
theorem dL_law_576 : decode cL_law 576 = .ok (.iadd, 1) := by decide +kernel
theorem dL_law_577 : decode cL_law 577 = .ok (.iaload, 1) := by decide +kernel
theorem dL_law_578 : decode cL_law 578 = .ok (.aload_n 0, 1) := by decide +kernel
theorem dL_law_579 : decode cL_law 579 = .ok (.iload_n 3, 1) := by decide +kernel
theorem dL_law_580 : decode cL_law 580 = .ok (.iconst 2, 1) := by decide +kernel
theorem dL_law_581 : decode cL_law 581 = .ok (.iadd, 1) := by decide +kernel
theorem dL_law_582 : decode cL_law 582 = .ok (.iaload, 1) := by decide +kernel
theorem dL_law_583 : decode cL_law 583 = .ok (.invokevirtual 74, 3) := by decide +kernel
theorem dL_law_586 : decode cL_law 586 = .ok (.aload_n 2, 1) := by decide +kernel
theorem dL_law_587 : decode cL_law 587 = .ok (.aload_n 0, 1) := by decide +kernel
theorem dL_law_588 : decode cL_law 588 = .ok (.iload_n 3, 1) := by decide +kernel
theorem dL_law_589 : decode cL_law 589 = .ok (.iconst 1, 1) := by decide +kernel
theorem dL_law_590 : decode cL_law 590 = .ok (.iadd, 1) := by decide +kernel
theorem dL_law_591 : decode cL_law 591 = .ok (.iaload, 1) := by decide +kernel
theorem dL_law_592 : decode cL_law 592 = .ok (.aload_n 0, 1) := by decide +kernel
theorem dL_law_593 : decode cL_law 593 = .ok (.iload_n 3, 1) := by decide +kernel
theorem dL_law_594 : decode cL_law 594 = .ok (.iconst 2, 1) := by decide +kernel
theorem dL_law_595 : decode cL_law 595 = .ok (.iadd, 1) := by decide +kernel
theorem dL_law_596 : decode cL_law 596 = .ok (.iaload, 1) := by decide +kernel
theorem dL_law_597 : decode cL_law 597 = .ok (.invokevirtual 77, 3) := by decide +kernel
theorem dL_law_600 : decode cL_law 600 = .ok (.if_icmp .eq 509, 3) := by decide +kernel
theorem dL_law_603 : decode cL_law 603 = .ok (.iconst 0, 1) := by decide +kernel
theorem dL_law_604 : decode cL_law 604 = .ok (.ireturn, 1) := by decide +kernel
theorem dL_law_605 : decode cL_law 605 = .ok (.aload_n 1, 1) := by decide +kernel
theorem dL_law_606 : decode cL_law 606 = .ok (.invokevirtual 78, 3) := by decide +kernel
theorem dL_law_609 : decode cL_law 609 = .ok (.aload_n 2, 1) := by decide +kernel
theorem dL_law_610 : decode cL_law 610 = .ok (.invokevirtual 81, 3) := by decide +kernel
theorem dL_law_613 : decode cL_law 613 = .ok (.if_icmp .eq 496, 3) := by decide +kernel
theorem dL_law_616 : decode cL_law 616 = .ok (.iconst 0, 1) := by decide +kernel
theorem dL_law_617 : decode cL_law 617 = .ok (.ireturn, 1) := by decide +kernel
theorem dL_law_618 : decode cL_law 618 = .ok (.aload_n 1, 1) := by decide +kernel
theorem dL_law_619 : decode cL_law 619 = .ok (.aload_n 0, 1) := by decide +kernel
theorem dL_law_620 : decode cL_law 620 = .ok (.iload_n 3, 1) := by decide +kernel
theorem dL_law_621 : decode cL_law 621 = .ok (.iconst 1, 1) := by decide +kernel
theorem dL_law_622 : decode cL_law 622 = .ok (.iadd, 1) := by decide +kernel
theorem dL_law_623 : decode cL_law 623 = .ok (.iaload, 1) := by decide +kernel
theorem dL_law_624 : decode cL_law 624 = .ok (.invokevirtual 82, 3) := by decide +kernel
theorem dL_law_627 : decode cL_law 627 = .ok (.aload_n 2, 1) := by decide +kernel
theorem dL_law_628 : decode cL_law 628 = .ok (.aload_n 0, 1) := by decide +kernel
theorem dL_law_629 : decode cL_law 629 = .ok (.iload_n 3, 1) := by decide +kernel
theorem dL_law_630 : decode cL_law 630 = .ok (.iconst 1, 1) := by decide +kernel
theorem dL_law_631 : decode cL_law 631 = .ok (.iadd, 1) := by decide +kernel
theorem dL_law_632 : decode cL_law 632 = .ok (.iaload, 1) := by decide +kernel
theorem dL_law_633 : decode cL_law 633 = .ok (.invokevirtual 85, 3) := by decide +kernel
theorem dL_law_636 : decode cL_law 636 = .ok (.if_icmp .eq 473, 3) := by decide +kernel
theorem dL_law_639 : decode cL_law 639 = .ok (.iconst 0, 1) := by decide +kernel
theorem dL_law_640 : decode cL_law 640 = .ok (.ireturn, 1) := by decide +kernel
theorem dL_law_641 : decode cL_law 641 = .ok (.aload_n 1, 1) := by decide +kernel
theorem dL_law_642 : decode cL_law 642 = .ok (.aload_n 0, 1) := by decide +kernel
theorem dL_law_643 : decode cL_law 643 = .ok (.iload_n 3, 1) := by decide +kernel
theorem dL_law_644 : decode cL_law 644 = .ok (.iconst 1, 1) := by decide +kernel
theorem dL_law_645 : decode cL_law 645 = .ok (.iadd, 1) := by decide +kernel
theorem dL_law_646 : decode cL_law 646 = .ok (.iaload, 1) := by decide +kernel
theorem dL_law_647 : decode cL_law 647 = .ok (.invokevirtual 86, 3) := by decide +kernel
theorem dL_law_650 : decode cL_law 650 = .ok (.aload_n 2, 1) := by decide +kernel
theorem dL_law_651 : decode cL_law 651 = .ok (.aload_n 0, 1) := by decide +kernel
theorem dL_law_652 : decode cL_law 652 = .ok (.iload_n 3, 1) := by decide +kernel
theorem dL_law_653 : decode cL_law 653 = .ok (.iconst 1, 1) := by decide +kernel
theorem dL_law_654 : decode cL_law 654 = .ok (.iadd, 1) := by decide +kernel
theorem dL_law_655 : decode cL_law 655 = .ok (.iaload, 1) := by decide +kernel
theorem dL_law_656 : decode cL_law 656 = .ok (.invokevirtual 89, 3) := by decide +kernel
theorem dL_law_659 : decode cL_law 659 = .ok (.if_icmp .eq 450, 3) := by decide +kernel
theorem dL_law_662 : decode cL_law 662 = .ok (.iconst 0, 1) := by decide +kernel
theorem dL_law_663 : decode cL_law 663 = .ok (.ireturn, 1) := by decide +kernel
theorem dL_law_664 : decode cL_law 664 = .ok (.aload_n 1, 1) := by decide +kernel
theorem dL_law_665 : decode cL_law 665 = .ok (.aload_n 0, 1) := by decide +kernel
theorem dL_law_666 : decode cL_law 666 = .ok (.iload_n 3, 1) := by decide +kernel
theorem dL_law_667 : decode cL_law 667 = .ok (.iconst 1, 1) := by decide +kernel
theorem dL_law_668 : decode cL_law 668 = .ok (.iadd, 1) := by decide +kernel
theorem dL_law_669 : decode cL_law 669 = .ok (.iaload, 1) := by decide +kernel
theorem dL_law_670 : decode cL_law 670 = .ok (.aload_n 0, 1) := by decide +kernel
theorem dL_law_671 : decode cL_law 671 = .ok (.iload_n 3, 1) := by decide +kernel
theorem dL_law_672 : decode cL_law 672 = .ok (.iconst 2, 1) := by decide +kernel
theorem dL_law_673 : decode cL_law 673 = .ok (.iadd, 1) := by decide +kernel
theorem dL_law_674 : decode cL_law 674 = .ok (.iaload, 1) := by decide +kernel
theorem dL_law_675 : decode cL_law 675 = .ok (.aload_n 0, 1) := by decide +kernel
theorem dL_law_676 : decode cL_law 676 = .ok (.iload_n 3, 1) := by decide +kernel
theorem dL_law_677 : decode cL_law 677 = .ok (.iconst 3, 1) := by decide +kernel
theorem dL_law_678 : decode cL_law 678 = .ok (.iadd, 1) := by decide +kernel
theorem dL_law_679 : decode cL_law 679 = .ok (.iaload, 1) := by decide +kernel
theorem dL_law_680 : decode cL_law 680 = .ok (.invokevirtual 90, 3) := by decide +kernel
theorem dL_law_683 : decode cL_law 683 = .ok (.aload_n 2, 1) := by decide +kernel
theorem dL_law_684 : decode cL_law 684 = .ok (.aload_n 0, 1) := by decide +kernel
theorem dL_law_685 : decode cL_law 685 = .ok (.iload_n 3, 1) := by decide +kernel
theorem dL_law_686 : decode cL_law 686 = .ok (.iconst 1, 1) := by decide +kernel
theorem dL_law_687 : decode cL_law 687 = .ok (.iadd, 1) := by decide +kernel
theorem dL_law_688 : decode cL_law 688 = .ok (.iaload, 1) := by decide +kernel
theorem dL_law_689 : decode cL_law 689 = .ok (.aload_n 0, 1) := by decide +kernel
theorem dL_law_690 : decode cL_law 690 = .ok (.iload_n 3, 1) := by decide +kernel
theorem dL_law_691 : decode cL_law 691 = .ok (.iconst 2, 1) := by decide +kernel
theorem dL_law_692 : decode cL_law 692 = .ok (.iadd, 1) := by decide +kernel
theorem dL_law_693 : decode cL_law 693 = .ok (.iaload, 1) := by decide +kernel
theorem dL_law_694 : decode cL_law 694 = .ok (.aload_n 0, 1) := by decide +kernel
theorem dL_law_695 : decode cL_law 695 = .ok (.iload_n 3, 1) := by decide +kernel
theorem dL_law_696 : decode cL_law 696 = .ok (.iconst 3, 1) := by decide +kernel
theorem dL_law_697 : decode cL_law 697 = .ok (.iadd, 1) := by decide +kernel
theorem dL_law_698 : decode cL_law 698 = .ok (.iaload, 1) := by decide +kernel
theorem dL_law_699 : decode cL_law 699 = .ok (.invokevirtual 93, 3) := by decide +kernel
theorem dL_law_702 : decode cL_law 702 = .ok (.if_icmp .eq 407, 3) := by decide +kernel
theorem dL_law_705 : decode cL_law 705 = .ok (.iconst 0, 1) := by decide +kernel
theorem dL_law_706 : decode cL_law 706 = .ok (.ireturn, 1) := by decide +kernel
theorem dL_law_707 : decode cL_law 707 = .ok (.aload_n 1, 1) := by decide +kernel
theorem dL_law_708 : decode cL_law 708 = .ok (.aload_n 0, 1) := by decide +kernel
theorem dL_law_709 : decode cL_law 709 = .ok (.iload_n 3, 1) := by decide +kernel
theorem dL_law_710 : decode cL_law 710 = .ok (.iconst 1, 1) := by decide +kernel
theorem dL_law_711 : decode cL_law 711 = .ok (.iadd, 1) := by decide +kernel
theorem dL_law_712 : decode cL_law 712 = .ok (.iaload, 1) := by decide +kernel
theorem dL_law_713 : decode cL_law 713 = .ok (.invokevirtual 94, 3) := by decide +kernel
theorem dL_law_716 : decode cL_law 716 = .ok (.aload_n 2, 1) := by decide +kernel
theorem dL_law_717 : decode cL_law 717 = .ok (.aload_n 0, 1) := by decide +kernel
theorem dL_law_718 : decode cL_law 718 = .ok (.iload_n 3, 1) := by decide +kernel
theorem dL_law_719 : decode cL_law 719 = .ok (.iconst 1, 1) := by decide +kernel
theorem dL_law_720 : decode cL_law 720 = .ok (.iadd, 1) := by decide +kernel
theorem dL_law_721 : decode cL_law 721 = .ok (.iaload, 1) := by decide +kernel
theorem dL_law_722 : decode cL_law 722 = .ok (.invokevirtual 97, 3) := by decide +kernel
theorem dL_law_725 : decode cL_law 725 = .ok (.if_icmp .eq 384, 3) := by decide +kernel
theorem dL_law_728 : decode cL_law 728 = .ok (.iconst 0, 1) := by decide +kernel
theorem dL_law_729 : decode cL_law 729 = .ok (.ireturn, 1) := by decide +kernel
theorem dL_law_730 : decode cL_law 730 = .ok (.aload_n 1, 1) := by decide +kernel
theorem dL_law_731 : decode cL_law 731 = .ok (.aload_n 0, 1) := by decide +kernel
theorem dL_law_732 : decode cL_law 732 = .ok (.iload_n 3, 1) := by decide +kernel
theorem dL_law_733 : decode cL_law 733 = .ok (.iconst 1, 1) := by decide +kernel
theorem dL_law_734 : decode cL_law 734 = .ok (.iadd, 1) := by decide +kernel
theorem dL_law_735 : decode cL_law 735 = .ok (.iaload, 1) := by decide +kernel
theorem dL_law_736 : decode cL_law 736 = .ok (.invokevirtual 98, 3) := by decide +kernel
theorem dL_law_739 : decode cL_law 739 = .ok (.aload_n 2, 1) := by decide +kernel
theorem dL_law_740 : decode cL_law 740 = .ok (.aload_n 0, 1) := by decide +kernel
theorem dL_law_741 : decode cL_law 741 = .ok (.iload_n 3, 1) := by decide +kernel
theorem dL_law_742 : decode cL_law 742 = .ok (.iconst 1, 1) := by decide +kernel
theorem dL_law_743 : decode cL_law 743 = .ok (.iadd, 1) := by decide +kernel
theorem dL_law_744 : decode cL_law 744 = .ok (.iaload, 1) := by decide +kernel
theorem dL_law_745 : decode cL_law 745 = .ok (.invokevirtual 101, 3) := by decide +kernel
theorem dL_law_748 : decode cL_law 748 = .ok (.if_icmp .eq 361, 3) := by decide +kernel
theorem dL_law_751 : decode cL_law 751 = .ok (.iconst 0, 1) := by decide +kernel
theorem dL_law_752 : decode cL_law 752 = .ok (.ireturn, 1) := by decide +kernel
theorem dL_law_753 : decode cL_law 753 = .ok (.aload_n 1, 1) := by decide +kernel
theorem dL_law_754 : decode cL_law 754 = .ok (.aload_n 0, 1) := by decide +kernel
theorem dL_law_755 : decode cL_law 755 = .ok (.iload_n 3, 1) := by decide +kernel
theorem dL_law_756 : decode cL_law 756 = .ok (.iconst 1, 1) := by decide +kernel
theorem dL_law_757 : decode cL_law 757 = .ok (.iadd, 1) := by decide +kernel
theorem dL_law_758 : decode cL_law 758 = .ok (.iaload, 1) := by decide +kernel
theorem dL_law_759 : decode cL_law 759 = .ok (.aload_n 0, 1) := by decide +kernel
theorem dL_law_760 : decode cL_law 760 = .ok (.iload_n 3, 1) := by decide +kernel
theorem dL_law_761 : decode cL_law 761 = .ok (.iconst 2, 1) := by decide +kernel
theorem dL_law_762 : decode cL_law 762 = .ok (.iadd, 1) := by decide +kernel
theorem dL_law_763 : decode cL_law 763 = .ok (.iaload, 1) := by decide +kernel
theorem dL_law_764 : decode cL_law 764 = .ok (.invokevirtual 102, 3) := by decide +kernel
theorem dL_law_767 : decode cL_law 767 = .ok (.aload_n 2, 1) := by decide +kernel
theorem dL_law_768 : decode cL_law 768 = .ok (.aload_n 0, 1) := by decide +kernel
theorem dL_law_769 : decode cL_law 769 = .ok (.iload_n 3, 1) := by decide +kernel
theorem dL_law_770 : decode cL_law 770 = .ok (.iconst 1, 1) := by decide +kernel
theorem dL_law_771 : decode cL_law 771 = .ok (.iadd, 1) := by decide +kernel
theorem dL_law_772 : decode cL_law 772 = .ok (.iaload, 1) := by decide +kernel
theorem dL_law_773 : decode cL_law 773 = .ok (.aload_n 0, 1) := by decide +kernel
theorem dL_law_774 : decode cL_law 774 = .ok (.iload_n 3, 1) := by decide +kernel
theorem dL_law_775 : decode cL_law 775 = .ok (.iconst 2, 1) := by decide +kernel
theorem dL_law_776 : decode cL_law 776 = .ok (.iadd, 1) := by decide +kernel
theorem dL_law_777 : decode cL_law 777 = .ok (.iaload, 1) := by decide +kernel
theorem dL_law_778 : decode cL_law 778 = .ok (.invokevirtual 105, 3) := by decide +kernel
theorem dL_law_781 : decode cL_law 781 = .ok (.if_icmp .eq 328, 3) := by decide +kernel
theorem dL_law_784 : decode cL_law 784 = .ok (.iconst 0, 1) := by decide +kernel
theorem dL_law_785 : decode cL_law 785 = .ok (.ireturn, 1) := by decide +kernel
theorem dL_law_786 : decode cL_law 786 = .ok (.aload_n 1, 1) := by decide +kernel
theorem dL_law_787 : decode cL_law 787 = .ok (.aload_n 0, 1) := by decide +kernel
theorem dL_law_788 : decode cL_law 788 = .ok (.iload_n 3, 1) := by decide +kernel
theorem dL_law_789 : decode cL_law 789 = .ok (.iconst 1, 1) := by decide +kernel
theorem dL_law_790 : decode cL_law 790 = .ok (.iadd, 1) := by decide +kernel
theorem dL_law_791 : decode cL_law 791 = .ok (.iaload, 1) := by decide +kernel
theorem dL_law_792 : decode cL_law 792 = .ok (.aload_n 0, 1) := by decide +kernel
theorem dL_law_793 : decode cL_law 793 = .ok (.iload_n 3, 1) := by decide +kernel
theorem dL_law_794 : decode cL_law 794 = .ok (.iconst 2, 1) := by decide +kernel
theorem dL_law_795 : decode cL_law 795 = .ok (.iadd, 1) := by decide +kernel
theorem dL_law_796 : decode cL_law 796 = .ok (.iaload, 1) := by decide +kernel
theorem dL_law_797 : decode cL_law 797 = .ok (.aload_n 0, 1) := by decide +kernel
theorem dL_law_798 : decode cL_law 798 = .ok (.iload_n 3, 1) := by decide +kernel
theorem dL_law_799 : decode cL_law 799 = .ok (.iconst 3, 1) := by decide +kernel
theorem dL_law_800 : decode cL_law 800 = .ok (.iadd, 1) := by decide +kernel
theorem dL_law_801 : decode cL_law 801 = .ok (.iaload, 1) := by decide +kernel
theorem dL_law_802 : decode cL_law 802 = .ok (.invokevirtual 106, 3) := by decide +kernel
theorem dL_law_805 : decode cL_law 805 = .ok (.aload_n 2, 1) := by decide +kernel
theorem dL_law_806 : decode cL_law 806 = .ok (.aload_n 0, 1) := by decide +kernel
theorem dL_law_807 : decode cL_law 807 = .ok (.iload_n 3, 1) := by decide +kernel
theorem dL_law_808 : decode cL_law 808 = .ok (.iconst 1, 1) := by decide +kernel
theorem dL_law_809 : decode cL_law 809 = .ok (.iadd, 1) := by decide +kernel
theorem dL_law_810 : decode cL_law 810 = .ok (.iaload, 1) := by decide +kernel
theorem dL_law_811 : decode cL_law 811 = .ok (.aload_n 0, 1) := by decide +kernel
theorem dL_law_812 : decode cL_law 812 = .ok (.iload_n 3, 1) := by decide +kernel
theorem dL_law_813 : decode cL_law 813 = .ok (.iconst 2, 1) := by decide +kernel
theorem dL_law_814 : decode cL_law 814 = .ok (.iadd, 1) := by decide +kernel
theorem dL_law_815 : decode cL_law 815 = .ok (.iaload, 1) := by decide +kernel
theorem dL_law_816 : decode cL_law 816 = .ok (.aload_n 0, 1) := by decide +kernel
theorem dL_law_817 : decode cL_law 817 = .ok (.iload_n 3, 1) := by decide +kernel
theorem dL_law_818 : decode cL_law 818 = .ok (.iconst 3, 1) := by decide +kernel
theorem dL_law_819 : decode cL_law 819 = .ok (.iadd, 1) := by decide +kernel
theorem dL_law_820 : decode cL_law 820 = .ok (.iaload, 1) := by decide +kernel
theorem dL_law_821 : decode cL_law 821 = .ok (.invokevirtual 109, 3) := by decide +kernel
theorem dL_law_824 : decode cL_law 824 = .ok (.if_icmp .eq 285, 3) := by decide +kernel
theorem dL_law_827 : decode cL_law 827 = .ok (.iconst 0, 1) := by decide +kernel
theorem dL_law_828 : decode cL_law 828 = .ok (.ireturn, 1) := by decide +kernel
theorem dL_law_829 : decode cL_law 829 = .ok (.aload_n 1, 1) := by decide +kernel
theorem dL_law_830 : decode cL_law 830 = .ok (.aload_n 0, 1) := by decide +kernel
theorem dL_law_831 : decode cL_law 831 = .ok (.iload_n 3, 1) := by decide +kernel
theorem dL_law_832 : decode cL_law 832 = .ok (.iconst 1, 1) := by decide +kernel
theorem dL_law_833 : decode cL_law 833 = .ok (.iadd, 1) := by decide +kernel
theorem dL_law_834 : decode cL_law 834 = .ok (.iaload, 1) := by decide +kernel
theorem dL_law_835 : decode cL_law 835 = .ok (.aload_n 0, 1) := by decide +kernel
theorem dL_law_836 : decode cL_law 836 = .ok (.iload_n 3, 1) := by decide +kernel
theorem dL_law_837 : decode cL_law 837 = .ok (.iconst 2, 1) := by decide +kernel
theorem dL_law_838 : decode cL_law 838 = .ok (.iadd, 1) := by decide +kernel
theorem dL_law_839 : decode cL_law 839 = .ok (.iaload, 1) := by decide +kernel
theorem dL_law_840 : decode cL_law 840 = .ok (.invokevirtual 110, 3) := by decide +kernel
theorem dL_law_843 : decode cL_law 843 = .ok (.aload_n 2, 1) := by decide +kernel
theorem dL_law_844 : decode cL_law 844 = .ok (.aload_n 0, 1) := by decide +kernel
theorem dL_law_845 : decode cL_law 845 = .ok (.iload_n 3, 1) := by decide +kernel
theorem dL_law_846 : decode cL_law 846 = .ok (.iconst 1, 1) := by decide +kernel
theorem dL_law_847 : decode cL_law 847 = .ok (.iadd, 1) := by decide +kernel
theorem dL_law_848 : decode cL_law 848 = .ok (.iaload, 1) := by decide +kernel
theorem dL_law_849 : decode cL_law 849 = .ok (.aload_n 0, 1) := by decide +kernel
theorem dL_law_850 : decode cL_law 850 = .ok (.iload_n 3, 1) := by decide +kernel
theorem dL_law_851 : decode cL_law 851 = .ok (.iconst 2, 1) := by decide +kernel
theorem dL_law_852 : decode cL_law 852 = .ok (.iadd, 1) := by decide +kernel
theorem dL_law_853 : decode cL_law 853 = .ok (.iaload, 1) := by decide +kernel
theorem dL_law_854 : decode cL_law 854 = .ok (.invokevirtual 113, 3) := by decide +kernel
theorem dL_law_857 : decode cL_law 857 = .ok (.if_icmp .eq 252, 3) := by decide +kernel
theorem dL_law_860 : decode cL_law 860 = .ok (.iconst 0, 1) := by decide +kernel
theorem dL_law_861 : decode cL_law 861 = .ok (.ireturn, 1) := by decide +kernel
theorem dL_law_862 : decode cL_law 862 = .ok (.aload_n 1, 1) := by decide +kernel
theorem dL_law_863 : decode cL_law 863 = .ok (.aload_n 0, 1) := by decide +kernel
theorem dL_law_864 : decode cL_law 864 = .ok (.iload_n 3, 1) := by decide +kernel
theorem dL_law_865 : decode cL_law 865 = .ok (.iconst 1, 1) := by decide +kernel
theorem dL_law_866 : decode cL_law 866 = .ok (.iadd, 1) := by decide +kernel
theorem dL_law_867 : decode cL_law 867 = .ok (.iaload, 1) := by decide +kernel
theorem dL_law_868 : decode cL_law 868 = .ok (.aload_n 0, 1) := by decide +kernel
theorem dL_law_869 : decode cL_law 869 = .ok (.iload_n 3, 1) := by decide +kernel
theorem dL_law_870 : decode cL_law 870 = .ok (.iconst 2, 1) := by decide +kernel
theorem dL_law_871 : decode cL_law 871 = .ok (.iadd, 1) := by decide +kernel
theorem dL_law_872 : decode cL_law 872 = .ok (.iaload, 1) := by decide +kernel
theorem dL_law_873 : decode cL_law 873 = .ok (.invokevirtual 114, 3) := by decide +kernel
theorem dL_law_876 : decode cL_law 876 = .ok (.aload_n 2, 1) := by decide +kernel
theorem dL_law_877 : decode cL_law 877 = .ok (.aload_n 0, 1) := by decide +kernel
theorem dL_law_878 : decode cL_law 878 = .ok (.iload_n 3, 1) := by decide +kernel
theorem dL_law_879 : decode cL_law 879 = .ok (.iconst 1, 1) := by decide +kernel
theorem dL_law_880 : decode cL_law 880 = .ok (.iadd, 1) := by decide +kernel
theorem dL_law_881 : decode cL_law 881 = .ok (.iaload, 1) := by decide +kernel
theorem dL_law_882 : decode cL_law 882 = .ok (.aload_n 0, 1) := by decide +kernel
theorem dL_law_883 : decode cL_law 883 = .ok (.iload_n 3, 1) := by decide +kernel
theorem dL_law_884 : decode cL_law 884 = .ok (.iconst 2, 1) := by decide +kernel
theorem dL_law_885 : decode cL_law 885 = .ok (.iadd, 1) := by decide +kernel
theorem dL_law_886 : decode cL_law 886 = .ok (.iaload, 1) := by decide +kernel
theorem dL_law_887 : decode cL_law 887 = .ok (.invokevirtual 117, 3) := by decide +kernel
theorem dL_law_890 : decode cL_law 890 = .ok (.if_icmp .eq 219, 3) := by decide +kernel
theorem dL_law_893 : decode cL_law 893 = .ok (.iconst 0, 1) := by decide +kernel
theorem dL_law_894 : decode cL_law 894 = .ok (.ireturn, 1) := by decide +kernel
theorem dL_law_895 : decode cL_law 895 = .ok (.aload_n 1, 1) := by decide +kernel
theorem dL_law_896 : decode cL_law 896 = .ok (.invokevirtual 118, 3) := by decide +kernel
theorem dL_law_899 : decode cL_law 899 = .ok (.aload_n 2, 1) := by decide +kernel
theorem dL_law_900 : decode cL_law 900 = .ok (.invokevirtual 121, 3) := by decide +kernel
theorem dL_law_903 : decode cL_law 903 = .ok (.if_icmp .eq 206, 3) := by decide +kernel
theorem dL_law_906 : decode cL_law 906 = .ok (.iconst 0, 1) := by decide +kernel
theorem dL_law_907 : decode cL_law 907 = .ok (.ireturn, 1) := by decide +kernel
theorem dL_law_908 : decode cL_law 908 = .ok (.aload_n 1, 1) := by decide +kernel
theorem dL_law_909 : decode cL_law 909 = .ok (.invokevirtual 122, 3) := by decide +kernel
theorem dL_law_912 : decode cL_law 912 = .ok (.aload_n 2, 1) := by decide +kernel
theorem dL_law_913 : decode cL_law 913 = .ok (.invokevirtual 125, 3) := by decide +kernel
theorem dL_law_916 : decode cL_law 916 = .ok (.if_icmp .eq 193, 3) := by decide +kernel
theorem dL_law_919 : decode cL_law 919 = .ok (.iconst 0, 1) := by decide +kernel
theorem dL_law_920 : decode cL_law 920 = .ok (.ireturn, 1) := by decide +kernel
theorem dL_law_921 : decode cL_law 921 = .ok (.aload_n 1, 1) := by decide +kernel
theorem dL_law_922 : decode cL_law 922 = .ok (.aload_n 0, 1) := by decide +kernel
theorem dL_law_923 : decode cL_law 923 = .ok (.iload_n 3, 1) := by decide +kernel
theorem dL_law_924 : decode cL_law 924 = .ok (.iconst 1, 1) := by decide +kernel
theorem dL_law_925 : decode cL_law 925 = .ok (.iadd, 1) := by decide +kernel
theorem dL_law_926 : decode cL_law 926 = .ok (.iaload, 1) := by decide +kernel
theorem dL_law_927 : decode cL_law 927 = .ok (.aload_n 0, 1) := by decide +kernel
theorem dL_law_928 : decode cL_law 928 = .ok (.iload_n 3, 1) := by decide +kernel
theorem dL_law_929 : decode cL_law 929 = .ok (.iconst 2, 1) := by decide +kernel
theorem dL_law_930 : decode cL_law 930 = .ok (.iadd, 1) := by decide +kernel
theorem dL_law_931 : decode cL_law 931 = .ok (.iaload, 1) := by decide +kernel
theorem dL_law_932 : decode cL_law 932 = .ok (.aload_n 0, 1) := by decide +kernel
theorem dL_law_933 : decode cL_law 933 = .ok (.iload_n 3, 1) := by decide +kernel
theorem dL_law_934 : decode cL_law 934 = .ok (.iconst 3, 1) := by decide +kernel
theorem dL_law_935 : decode cL_law 935 = .ok (.iadd, 1) := by decide +kernel
theorem dL_law_936 : decode cL_law 936 = .ok (.iaload, 1) := by decide +kernel
theorem dL_law_937 : decode cL_law 937 = .ok (.invokevirtual 126, 3) := by decide +kernel
theorem dL_law_940 : decode cL_law 940 = .ok (.aload_n 2, 1) := by decide +kernel
theorem dL_law_941 : decode cL_law 941 = .ok (.aload_n 0, 1) := by decide +kernel
theorem dL_law_942 : decode cL_law 942 = .ok (.iload_n 3, 1) := by decide +kernel
theorem dL_law_943 : decode cL_law 943 = .ok (.iconst 1, 1) := by decide +kernel
theorem dL_law_944 : decode cL_law 944 = .ok (.iadd, 1) := by decide +kernel
theorem dL_law_945 : decode cL_law 945 = .ok (.iaload, 1) := by decide +kernel
theorem dL_law_946 : decode cL_law 946 = .ok (.aload_n 0, 1) := by decide +kernel
theorem dL_law_947 : decode cL_law 947 = .ok (.iload_n 3, 1) := by decide +kernel
theorem dL_law_948 : decode cL_law 948 = .ok (.iconst 2, 1) := by decide +kernel
theorem dL_law_949 : decode cL_law 949 = .ok (.iadd, 1) := by decide +kernel
theorem dL_law_950 : decode cL_law 950 = .ok (.iaload, 1) := by decide +kernel
theorem dL_law_951 : decode cL_law 951 = .ok (.aload_n 0, 1) := by decide +kernel
theorem dL_law_952 : decode cL_law 952 = .ok (.iload_n 3, 1) := by decide +kernel
theorem dL_law_953 : decode cL_law 953 = .ok (.iconst 3, 1) := by decide +kernel
theorem dL_law_954 : decode cL_law 954 = .ok (.iadd, 1) := by decide +kernel
theorem dL_law_955 : decode cL_law 955 = .ok (.iaload, 1) := by decide +kernel
theorem dL_law_956 : decode cL_law 956 = .ok (.invokevirtual 129, 3) := by decide +kernel
theorem dL_law_959 : decode cL_law 959 = .ok (.if_icmp .eq 150, 3) := by decide +kernel
theorem dL_law_962 : decode cL_law 962 = .ok (.iconst 0, 1) := by decide +kernel
theorem dL_law_963 : decode cL_law 963 = .ok (.ireturn, 1) := by decide +kernel
theorem dL_law_964 : decode cL_law 964 = .ok (.aload_n 1, 1) := by decide +kernel
theorem dL_law_965 : decode cL_law 965 = .ok (.aload_n 0, 1) := by decide +kernel
theorem dL_law_966 : decode cL_law 966 = .ok (.iload_n 3, 1) := by decide +kernel
theorem dL_law_967 : decode cL_law 967 = .ok (.iconst 1, 1) := by decide +kernel
theorem dL_law_968 : decode cL_law 968 = .ok (.iadd, 1) := by decide +kernel
theorem dL_law_969 : decode cL_law 969 = .ok (.iaload, 1) := by decide +kernel
theorem dL_law_970 : decode cL_law 970 = .ok (.aload_n 0, 1) := by decide +kernel
theorem dL_law_971 : decode cL_law 971 = .ok (.iload_n 3, 1) := by decide +kernel
theorem dL_law_972 : decode cL_law 972 = .ok (.iconst 2, 1) := by decide +kernel
theorem dL_law_973 : decode cL_law 973 = .ok (.iadd, 1) := by decide +kernel
theorem dL_law_974 : decode cL_law 974 = .ok (.iaload, 1) := by decide +kernel
theorem dL_law_975 : decode cL_law 975 = .ok (.aload_n 0, 1) := by decide +kernel
theorem dL_law_976 : decode cL_law 976 = .ok (.iload_n 3, 1) := by decide +kernel
theorem dL_law_977 : decode cL_law 977 = .ok (.iconst 3, 1) := by decide +kernel
theorem dL_law_978 : decode cL_law 978 = .ok (.iadd, 1) := by decide +kernel
theorem dL_law_979 : decode cL_law 979 = .ok (.iaload, 1) := by decide +kernel
theorem dL_law_980 : decode cL_law 980 = .ok (.aload_n 0, 1) := by decide +kernel
theorem dL_law_981 : decode cL_law 981 = .ok (.iload_n 3, 1) := by decide +kernel
theorem dL_law_982 : decode cL_law 982 = .ok (.iconst 4, 1) := by decide +kernel
theorem dL_law_983 : decode cL_law 983 = .ok (.iadd, 1) := by decide +kernel
theorem dL_law_984 : decode cL_law 984 = .ok (.iaload, 1) := by decide +kernel
theorem dL_law_985 : decode cL_law 985 = .ok (.invokevirtual 130, 3) := by decide +kernel
theorem dL_law_988 : decode cL_law 988 = .ok (.aload_n 2, 1) := by decide +kernel
theorem dL_law_989 : decode cL_law 989 = .ok (.aload_n 0, 1) := by decide +kernel
theorem dL_law_990 : decode cL_law 990 = .ok (.iload_n 3, 1) := by decide +kernel
theorem dL_law_991 : decode cL_law 991 = .ok (.iconst 1, 1) := by decide +kernel
theorem dL_law_992 : decode cL_law 992 = .ok (.iadd, 1) := by decide +kernel
theorem dL_law_993 : decode cL_law 993 = .ok (.iaload, 1) := by decide +kernel
theorem dL_law_994 : decode cL_law 994 = .ok (.aload_n 0, 1) := by decide +kernel
theorem dL_law_995 : decode cL_law 995 = .ok (.iload_n 3, 1) := by decide +kernel
theorem dL_law_996 : decode cL_law 996 = .ok (.iconst 2, 1) := by decide +kernel
theorem dL_law_997 : decode cL_law 997 = .ok (.iadd, 1) := by decide +kernel
theorem dL_law_998 : decode cL_law 998 = .ok (.iaload, 1) := by decide +kernel
theorem dL_law_999 : decode cL_law 999 = .ok (.aload_n 0, 1) := by decide +kernel
theorem dL_law_1000 : decode cL_law 1000 = .ok (.iload_n 3, 1) := by decide +kernel
theorem dL_law_1001 : decode cL_law 1001 = .ok (.iconst 3, 1) := by decide +kernel
theorem dL_law_1002 : decode cL_law 1002 = .ok (.iadd, 1) := by decide +kernel
theorem dL_law_1003 : decode cL_law 1003 = .ok (.iaload, 1) := by decide +kernel
theorem dL_law_1004 : decode cL_law 1004 = .ok (.aload_n 0, 1) := by decide +kernel
theorem dL_law_1005 : decode cL_law 1005 = .ok (.iload_n 3, 1) := by decide +kernel
theorem dL_law_1006 : decode cL_law 1006 = .ok (.iconst 4, 1) := by decide +kernel
theorem dL_law_1007 : decode cL_law 1007 = .ok (.iadd, 1) := by decide +kernel
theorem dL_law_1008 : decode cL_law 1008 = .ok (.iaload, 1) := by decide +kernel
theorem dL_law_1009 : decode cL_law 1009 = .ok (.invokevirtual 133, 3) := by decide +kernel
theorem dL_law_1012 : decode cL_law 1012 = .ok (.if_icmp .eq 97, 3) := by decide +kernel
theorem dL_law_1015 : decode cL_law 1015 = .ok (.iconst 0, 1) := by decide +kernel
theorem dL_law_1016 : decode cL_law 1016 = .ok (.ireturn, 1) := by decide +kernel
theorem dL_law_1017 : decode cL_law 1017 = .ok (.aload_n 1, 1) := by decide +kernel
theorem dL_law_1018 : decode cL_law 1018 = .ok (.aload_n 0, 1) := by decide +kernel
theorem dL_law_1019 : decode cL_law 1019 = .ok (.iload_n 3, 1) := by decide +kernel
theorem dL_law_1020 : decode cL_law 1020 = .ok (.iconst 1, 1) := by decide +kernel
theorem dL_law_1021 : decode cL_law 1021 = .ok (.iadd, 1) := by decide +kernel
theorem dL_law_1022 : decode cL_law 1022 = .ok (.iaload, 1) := by decide +kernel
theorem dL_law_1023 : decode cL_law 1023 = .ok (.aload_n 0, 1) := by decide +kernel
theorem dL_law_1024 : decode cL_law 1024 = .ok (.iload_n 3, 1) := by decide +kernel
theorem dL_law_1025 : decode cL_law 1025 = .ok (.iconst 2, 1) := by decide +kernel
theorem dL_law_1026 : decode cL_law 1026 = .ok (.iadd, 1) := by decide +kernel
theorem dL_law_1027 : decode cL_law 1027 = .ok (.iaload, 1) := by decide +kernel
theorem dL_law_1028 : decode cL_law 1028 = .ok (.aload_n 0, 1) := by decide +kernel
theorem dL_law_1029 : decode cL_law 1029 = .ok (.iload_n 3, 1) := by decide +kernel
theorem dL_law_1030 : decode cL_law 1030 = .ok (.iconst 3, 1) := by decide +kernel
theorem dL_law_1031 : decode cL_law 1031 = .ok (.iadd, 1) := by decide +kernel
theorem dL_law_1032 : decode cL_law 1032 = .ok (.iaload, 1) := by decide +kernel
theorem dL_law_1033 : decode cL_law 1033 = .ok (.invokevirtual 134, 3) := by decide +kernel
theorem dL_law_1036 : decode cL_law 1036 = .ok (.aload_n 2, 1) := by decide +kernel
theorem dL_law_1037 : decode cL_law 1037 = .ok (.aload_n 0, 1) := by decide +kernel
theorem dL_law_1038 : decode cL_law 1038 = .ok (.iload_n 3, 1) := by decide +kernel
theorem dL_law_1039 : decode cL_law 1039 = .ok (.iconst 1, 1) := by decide +kernel
theorem dL_law_1040 : decode cL_law 1040 = .ok (.iadd, 1) := by decide +kernel
theorem dL_law_1041 : decode cL_law 1041 = .ok (.iaload, 1) := by decide +kernel
theorem dL_law_1042 : decode cL_law 1042 = .ok (.aload_n 0, 1) := by decide +kernel
theorem dL_law_1043 : decode cL_law 1043 = .ok (.iload_n 3, 1) := by decide +kernel
theorem dL_law_1044 : decode cL_law 1044 = .ok (.iconst 2, 1) := by decide +kernel
theorem dL_law_1045 : decode cL_law 1045 = .ok (.iadd, 1) := by decide +kernel
theorem dL_law_1046 : decode cL_law 1046 = .ok (.iaload, 1) := by decide +kernel
theorem dL_law_1047 : decode cL_law 1047 = .ok (.aload_n 0, 1) := by decide +kernel
theorem dL_law_1048 : decode cL_law 1048 = .ok (.iload_n 3, 1) := by decide +kernel
theorem dL_law_1049 : decode cL_law 1049 = .ok (.iconst 3, 1) := by decide +kernel
theorem dL_law_1050 : decode cL_law 1050 = .ok (.iadd, 1) := by decide +kernel
theorem dL_law_1051 : decode cL_law 1051 = .ok (.iaload, 1) := by decide +kernel
theorem dL_law_1052 : decode cL_law 1052 = .ok (.invokevirtual 137, 3) := by decide +kernel
theorem dL_law_1055 : decode cL_law 1055 = .ok (.if_icmp .eq 54, 3) := by decide +kernel
theorem dL_law_1058 : decode cL_law 1058 = .ok (.iconst 0, 1) := by decide +kernel
theorem dL_law_1059 : decode cL_law 1059 = .ok (.ireturn, 1) := by decide +kernel
theorem dL_law_1060 : decode cL_law 1060 = .ok (.aload_n 1, 1) := by decide +kernel
theorem dL_law_1061 : decode cL_law 1061 = .ok (.invokevirtual 138, 3) := by decide +kernel
theorem dL_law_1064 : decode cL_law 1064 = .ok (.aload_n 2, 1) := by decide +kernel
theorem dL_law_1065 : decode cL_law 1065 = .ok (.invokevirtual 141, 3) := by decide +kernel
theorem dL_law_1068 : decode cL_law 1068 = .ok (.if_icmp .eq 41, 3) := by decide +kernel
theorem dL_law_1071 : decode cL_law 1071 = .ok (.iconst 0, 1) := by decide +kernel
theorem dL_law_1072 : decode cL_law 1072 = .ok (.ireturn, 1) := by decide +kernel
theorem dL_law_1073 : decode cL_law 1073 = .ok (.aload_n 1, 1) := by decide +kernel
theorem dL_law_1074 : decode cL_law 1074 = .ok (.invokevirtual 142, 3) := by decide +kernel
theorem dL_law_1077 : decode cL_law 1077 = .ok (.aload_n 2, 1) := by decide +kernel
theorem dL_law_1078 : decode cL_law 1078 = .ok (.invokevirtual 145, 3) := by decide +kernel
theorem dL_law_1081 : decode cL_law 1081 = .ok (.if_icmp .eq 28, 3) := by decide +kernel
theorem dL_law_1084 : decode cL_law 1084 = .ok (.iconst 0, 1) := by decide +kernel
theorem dL_law_1085 : decode cL_law 1085 = .ok (.ireturn, 1) := by decide +kernel
theorem dL_law_1086 : decode cL_law 1086 = .ok (.aload_n 1, 1) := by decide +kernel
theorem dL_law_1087 : decode cL_law 1087 = .ok (.aload_n 0, 1) := by decide +kernel
theorem dL_law_1088 : decode cL_law 1088 = .ok (.iload_n 3, 1) := by decide +kernel
theorem dL_law_1089 : decode cL_law 1089 = .ok (.iconst 1, 1) := by decide +kernel
theorem dL_law_1090 : decode cL_law 1090 = .ok (.iadd, 1) := by decide +kernel
theorem dL_law_1091 : decode cL_law 1091 = .ok (.iaload, 1) := by decide +kernel
theorem dL_law_1092 : decode cL_law 1092 = .ok (.invokevirtual 146, 3) := by decide +kernel
theorem dL_law_1095 : decode cL_law 1095 = .ok (.aload_n 2, 1) := by decide +kernel
theorem dL_law_1096 : decode cL_law 1096 = .ok (.aload_n 0, 1) := by decide +kernel
theorem dL_law_1097 : decode cL_law 1097 = .ok (.iload_n 3, 1) := by decide +kernel
theorem dL_law_1098 : decode cL_law 1098 = .ok (.iconst 1, 1) := by decide +kernel
theorem dL_law_1099 : decode cL_law 1099 = .ok (.iadd, 1) := by decide +kernel
theorem dL_law_1100 : decode cL_law 1100 = .ok (.iaload, 1) := by decide +kernel
theorem dL_law_1101 : decode cL_law 1101 = .ok (.invokevirtual 149, 3) := by decide +kernel
theorem dL_law_1104 : decode cL_law 1104 = .ok (.if_icmp .eq 5, 3) := by decide +kernel
theorem dL_law_1107 : decode cL_law 1107 = .ok (.iconst 0, 1) := by decide +kernel
theorem dL_law_1108 : decode cL_law 1108 = .ok (.ireturn, 1) := by decide +kernel
theorem dL_law_1109 : decode cL_law 1109 = .ok (.iinc 3 5, 3) := by decide +kernel
theorem dL_law_1112 : decode cL_law 1112 = .ok (.goto (-1094), 3) := by decide +kernel
theorem dL_law_1115 : decode cL_law 1115 = .ok (.iconst 1, 1) := by decide +kernel
theorem dL_law_1116 : decode cL_law 1116 = .ok (.ireturn, 1) := by decide +kernel
end
section
/-! ===== THE SMALL MACHINE: values are integers (an int or a long stands for its residue), references count from the base; a heap is a list of cells' shapes and a table of their integers ===== -/
abbrev mV : Type := Int ⊕ Int ⊕ Option Nat
abbrev mi (a : Int) : mV := .inl a
abbrev ml (a : Int) : mV := .inr (.inl a)
abbrev mo (a : Option Nat) : mV := .inr (.inr a)
abbrev mr (a : Nat) : mV := .inr (.inr (some a))
abbrev mC : Type := (Nat × List (Option (Option Nat))) ⊕ Nat ⊕ (Nat × List (Option Nat))
abbrev mI : Type := Nat → Nat → Int
abbrev mH : Type := List mC × mI
abbrev mL : Type := List (Option mV)
abbrev mM : Type := MethodName × ByteArray × Nat × Option FieldType × Nat × Nat
abbrev mP : Type := Nat × (Nat → ClassId)
def mcl : List vw_C := [(RX0, TX0, 4), (RX1, TX1, 8), (RX2, TX2, 3), (RX3, TX3, 1), (RX4, TX4, 2), (RX5, TX5, 2), (RX6, TX6, 6), (RX7, TX7, 2), (RX8, TX8, 14), (RX9, TX9, 30)]
def mtys (P : mP) : List (ClassId × FieldType) := [(P.2 0, .int), (P.2 1, .object RX6), (P.2 2, .object RX0)]
def gtbl : List Cond := lw_tbl.filter goodWord
theorem g_in {w : Cond} (h : w ∈ lw_tbl) (hg : goodWord w = true) : w ∈ gtbl := List.mem_filter.mpr ⟨h, hg⟩
theorem g_good {w : Cond} (h : w ∈ gtbl) : (w.onTables && w.keeps) = true ∨ ∃ ty, w = .arrayClass ty := good_of_word (List.mem_filter.mp h).2
def mden (b : Nat) : mV → Value
  | .inl a => .int (Int32.ofInt a)
  | .inr (.inl a) => .long (Int64.ofInt a)
  | .inr (.inr o) => va_rf (o.map (fun r => b + r))
def mfl (b : Nat) (J : Nat → Int) (k : Nat) : Option (Option Nat) → Value
  | none => .int (Int32.ofInt (J k))
  | some o => va_rf (o.map (fun r => b + r))
def mce (P : mP) (J : Nat → Int) : mC → va_E
  | .inl (ci, fs) => .inr (ci, fs.mapIdx (fun k f => mfl P.1 J k f))
  | .inr (.inl n) => .inl (P.2 0, n, .inl (fun j => Int32.ofInt (J j)))
  | .inr (.inr (t, rs)) => .inl (P.2 t, rs.length, .inr (.inr (.inr (.inr (fun j => (rs.getD j none).map (fun r => P.1 + r))))))
def msz : mC → Nat
  | .inl (_, fs) => fs.length
  | .inr (.inl n) => n
  | .inr (.inr (_, rs)) => rs.length
def mS (h : mH) : Nat := (h.1.map msz).sum
def mRz (P : mP) (D : va_G) (h : mH) (H : Heap) : Prop := H.size = P.1 + h.1.length ∧ ∀ (k : Nat) (c : mC), h.1[k]? = some c → va_at D mcl (P.1 + k, mce P (h.2 k) c) H
theorem mRz.one {P : mP} {D : va_G} {h : mH} {H : Heap} (hR : mRz P D h H) {k : Nat} {c : mC} (hk : h.1[k]? = some c) : va_P D mcl [(P.1 + k, mce P (h.2 k) c)] H := by
  intro i q hq
  cases i with
  | zero => cases hq; exact hR.2 k c hk
  | succ i => cases hq
def mAo (P : mP) : Nat → Prop := fun q => P.1 ≤ q
def mLs (b : Nat) (la : Array Slot) (n : Nat) (ls : mL) : Prop := la.size = n ∧ lv_wf la ∧ ∀ (i : Nat) (v : mV), ls[i]? = some (some v) → la[i]? = some (.val (mden b v))
/-- words that ride outside the tables' lists: nest mates, arrays of objects -/
def mNw : List Cond := [.methodLinkNest RX8 9 yX5_init RX8, .methodLinkNest RX8 18 yX2_init RX8, .methodLinkNest RX2 11 yX1_init RX8, .methodLinkNest RX0 26 yX6_init RX8, .methodLinkNest RX8 25 yX1_init RX8, .methodLinkNest RX8 64 yX6_init RX8, .methodLinkNest RX8 74 yX7_init RX8, .methodLinkNest RX2 67 yX8_figureOf RX8, .methodLinkNest RX2 70 yX8_within RX8, .methodLinkNest RX1 46 yX8_modulo RX8, .methodLinkNest RX7 38 yX8_hoursToEnter RX8]
def mSt (P : mP) (U : State) (H : Heap) : Prop := True
def mEX (P : mP) (U : State) (H : Heap) : Prop := (∀ w ∈ mNw, va_Nw w U) ∧ va_AO RX6 U ∧ va_AO RX0 U ∧ mSt P U H
theorem mNw_warm {s U : State} (hW : s.WarmedH U.vm) : ∀ w ∈ mNw, va_Nw w s → va_Nw w U := by
  intro w hw h
  simp only [mNw, List.mem_cons, List.not_mem_nil, or_false] at hw
  rcases hw with rfl | rfl | rfl | rfl | rfl | rfl | rfl | rfl | rfl | rfl | rfl <;> exact va_Nw.warmM hW h
theorem mEX.next {P : mP} {s U : State} {H : Heap} {locs : List Loc} (h : mEX P s s.heap) (hS : va_S (mAo P) s.heap H locs) (hW : s.WarmedH U.vm) (hU : U.heap = H) : mEX P U U.heap :=
  ⟨fun w hw => mNw_warm hW w hw (h.1 w hw), h.2.1.moved hW.alike, h.2.2.1.moved hW.alike, trivial⟩
theorem mEX.same {P : mP} {s U : State} (h : mEX P s s.heap) (hv : s.vm = U.vm) (hh : U.heap = s.heap) : mEX P U U.heap :=
  ⟨fun w hw => va_Nw.same (by
    simp only [mNw, List.mem_cons, List.not_mem_nil, or_false] at hw
    rcases hw with rfl | rfl | rfl | rfl | rfl | rfl | rfl | rfl | rfl | rfl | rfl <;> rfl) hv (h.1 w hw), h.2.1.moved (hv ▸ Vm.Alike.refl s.vm), h.2.2.1.moved (hv ▸ Vm.Alike.refl s.vm), trivial⟩
def mCx (M : mM) (P : mP) (D : va_G) (p : Program) (R : Room) (s : State) (m : MethodId) (args : Array Value) (meth : Method) (c : Code) : Prop :=
  p.tables.exec = Jvm.exec ∧ c.code = M.2.1 ∧ c.maxLocals = M.2.2.1 ∧ s.vm.findClass M.1.cls = some m.cls ∧ meth.name = M.1.name ∧ (∀ w ∈ gtbl, w.before args s = true) ∧ va_K D mcl (mtys P) s ∧ mEX P s s.heap ∧ M.2.2.2.2.1 ≤ R.frames ∧ M.2.2.2.2.2 ≤ R.locals ∧ P.1 ≤ s.heap.size
abbrev mZ : Type := mP → Array Value → State → Prop
def mZt : mZ := fun _ _ _ => True
def mGm (M : mM) (P : mP) (D : va_G) (p : Program) (l : Launch) (e : Env) (R : Room) (s : State) (m : MethodId) (args : Array Value) (below : List Frame) (meth : Method) (c : Code) (Q : State → Prop) (c0 s0 : Nat) (pc : Nat) (ls : mL) (st : List mV) (h : mH) : Prop :=
  ∀ (H : Heap) (locs : List Loc) (la : Array Slot), mLs P.1 la M.2.2.1 ls → mRz P D h H → va_S (mAo P) s.heap H locs → W p l e R s m args below meth c H locs (h.1.length - c0) (mS h - s0) Q (F0 m pc la (st.map (mden P.1)))
def mGo (Z : mZ) (M : mM) (pc : Nat) (ls : mL) (st : List mV) (h : mH) (pc' : Nat) (ls' : mL) (st' : List mV) (h' : mH) : Prop :=
  (h.1.length ≤ h'.1.length ∧ mS h ≤ mS h') ∧ ∀ (P : mP) (D : va_G) (p : Program) (l : Launch) (e : Env) (R : Room) (s : State) (m : MethodId) (args : Array Value) (below : List Frame) (meth : Method) (c : Code) (Q : State → Prop) (c0 s0 : Nat),
    mCx M P D p R s m args meth c → Z P args s → c0 ≤ h.1.length → s0 ≤ mS h → h'.1.length - c0 ≤ R.cells → mS h' - s0 ≤ R.slots →
    mGm M P D p l e R s m args below meth c Q c0 s0 pc' ls' st' h' → mGm M P D p l e R s m args below meth c Q c0 s0 pc ls st h
theorem mGo.rf {Z : mZ} {M : mM} {pc : Nat} {ls : mL} {st : List mV} {h : mH} : mGo Z M pc ls st h pc ls st h := ⟨⟨Nat.le_refl _, Nat.le_refl _⟩, fun _ _ _ _ _ _ _ _ _ _ _ _ _ _ _ _ _ _ _ _ _ k => k⟩
theorem mGo.tr {Z : mZ} {M : mM} {pc1 pc2 pc3 : Nat} {l1 l2 l3 : mL} {s1 s2 s3 : List mV} {h1 h2 h3 : mH} (a : mGo Z M pc1 l1 s1 h1 pc2 l2 s2 h2) (b : mGo Z M pc2 l2 s2 h2 pc3 l3 s3 h3) : mGo Z M pc1 l1 s1 h1 pc3 l3 s3 h3 := by
  refine ⟨⟨Nat.le_trans a.1.1 b.1.1, Nat.le_trans a.1.2 b.1.2⟩, ?_⟩
  intro P D p l e R s m args below meth c Q c0 s0 C hZ hc hs hC hS k
  have b1 := b.1
  have a1 := a.1
  exact a.2 P D p l e R s m args below meth c Q c0 s0 C hZ hc hs (by omega) (by omega) (b.2 P D p l e R s m args below meth c Q c0 s0 C hZ (by omega) (by omega) hC hS k)
def mRet (M : mM) (pc : Nat) : Option mV → Prop
  | none => decode M.2.1 pc = .ok (.return_, 1) ∧ M.2.2.2.1 = none
  | some (.inl a) => decode M.2.1 pc = .ok (.ireturn, 1) ∧ ∃ ty, M.2.2.2.1 = some ty ∧ narrow ty (.int (Int32.ofInt a)) = .int (Int32.ofInt a)
  | some (.inr (.inr _)) => decode M.2.1 pc = .ok (.areturn, 1) ∧ ∃ n, M.2.2.2.1 = some (.object n)
  | some (.inr (.inl _)) => False
def mRun (Z : mZ) (M : mM) (pc : Nat) (ls : mL) (st : List mV) (h : mH) (post : Option mV → mH → Prop) : Prop :=
  ∃ (pc' : Nat) (ls' : mL) (v : Option mV) (h' : mH), mGo Z M pc ls st h pc' ls' v.toList h' ∧ mRet M pc' v ∧ post v h'
theorem mRun.go {Z : mZ} {M : mM} {pc pc' : Nat} {ls ls' : mL} {st st' : List mV} {h h' : mH} {post : Option mV → mH → Prop} (a : mGo Z M pc ls st h pc' ls' st' h') (k : mRun Z M pc' ls' st' h' post) : mRun Z M pc ls st h post := by
  obtain ⟨p2, l2, v, h2, g, r, q⟩ := k
  exact ⟨p2, l2, v, h2, a.tr g, r, q⟩
theorem mRun.im {Z : mZ} {M : mM} {pc : Nat} {ls : mL} {st : List mV} {h : mH} {post post' : Option mV → mH → Prop} (k : mRun Z M pc ls st h post) (hi : ∀ v h', post v h' → post' v h') : mRun Z M pc ls st h post' := by
  obtain ⟨p2, l2, v, h2, g, r, q⟩ := k
  exact ⟨p2, l2, v, h2, g, r, hi _ _ q⟩
/-! contracts -/
def mwsM (M : mM) : List Cond := Cond.code M.1 M.2.1 M.2.2.1 M.2.2.2.1 :: gtbl
def mPc (P : mP) (D : va_G) (as : List mV) (h : mH) : Array Value → State → Prop := fun a U => a = (as.map (mden P.1)).toArray ∧ mRz P D h U.heap ∧ va_K D mcl (mtys P) U ∧ mEX P U U.heap
def mQc (P : mP) (D : va_G) (v : Option mV) (h' : mH) : Array Value → State → Outcome → State → Prop := fun _ st o t => o = .returned (v.map (mden P.1)) ∧ mRz P D h' t.heap ∧ va_F (mAo P) st t
def mCt (M : mM) (as : List mV) (h : mH) (v : Option mV) (h' : mH) : Prop :=
  (h.1.length ≤ h'.1.length ∧ mS h ≤ mS h') ∧ ∀ (l : Launch) (P : mP) (D : va_G), Met l M.1 (mwsM M) ({ frames := M.2.2.2.2.1, cells := h'.1.length - h.1.length, slots := mS h' - mS h, locals := M.2.2.2.2.2 }) (mPc P D as h) (mQc P D v h') (h'.1.length - h.1.length) (mS h' - mS h) (mAo P)
def mMt (M : mM) (as : List mV) (h : mH) (post : Option mV → mH → Prop) : Prop := ∃ (v : Option mV) (h' : mH), mCt M as h v h' ∧ post v h'
theorem mMt.im {M : mM} {as : List mV} {h : mH} {post post' : Option mV → mH → Prop} (k : mMt M as h post) (hi : ∀ v h', post v h' → post' v h') : mMt M as h post' := by
  obtain ⟨v, h2, g, q⟩ := k
  exact ⟨v, h2, g, hi _ _ q⟩
def mArgs : List mV → mL
  | [] => []
  | .inr (.inl a) :: vs => some (ml a) :: none :: mArgs vs
  | v :: vs => some v :: mArgs vs
theorem mden_cat1 (b : Nat) (v : mV) (h : ∀ a, v ≠ ml a) : (mden b v).category = 1 := by
  rcases v with a | a | (_ | a)
  · rfl
  · exact absurd rfl (h a)
  · rfl
  · rfl
theorem mArgs_in (b : Nat) : ∀ (vs : List mV) (i j : Nat) (v : mV), (mArgs vs)[j]? = some (some v) → (i + j, mden b v) ∈ lv_args i (vs.map (mden b)) := by
  intro vs
  induction vs with
  | nil => intro i j v h; simp [mArgs] at h
  | cons w vs ih =>
    intro i j v h
    rcases w with a | a | a
    · cases j with
      | zero => simp [mArgs] at h; subst h; exact List.mem_cons_self
      | succ j =>
        have h' : (mArgs vs)[j]? = some (some v) := by simpa [mArgs] using h
        have := ih (i + 1) j v h'
        simp only [List.map_cons, lv_args]
        refine List.mem_cons_of_mem _ ?_
        rw [if_neg (by rw [mden_cat1 b (.inl a) (fun x => by simp)]; decide)]
        rw [show i + (j + 1) = i + 1 + j by omega]
        exact this
    · cases j with
      | zero => simp [mArgs] at h; subst h; exact List.mem_cons_self
      | succ j =>
        cases j with
        | zero => simp [mArgs] at h
        | succ j =>
          have h' : (mArgs vs)[j]? = some (some v) := by simpa [mArgs] using h
          have := ih (i + 2) j v h'
          simp only [List.map_cons, lv_args]
          refine List.mem_cons_of_mem _ ?_
          rw [if_pos (show (mden b (.inr (.inl a))).category = 2 from rfl)]
          rw [show i + (j + 1 + 1) = i + 2 + j by omega]
          exact this
    · cases j with
      | zero => simp [mArgs] at h; subst h; exact List.mem_cons_self
      | succ j =>
        have h' : (mArgs vs)[j]? = some (some v) := by simpa [mArgs] using h
        have := ih (i + 1) j v h'
        simp only [List.map_cons, lv_args]
        refine List.mem_cons_of_mem _ ?_
        rw [if_neg (by rw [mden_cat1 b (.inr (.inr a)) (fun x => by simp)]; decide)]
        rw [show i + (j + 1) = i + 1 + j by omega]
        exact this
def mEnt (n : Nat) (as : List mV) : mL := mArgs as ++ List.replicate (n - (mArgs as).length) none
theorem mArgs_len (b : Nat) : ∀ vs : List mV, (lg_sl (vs.map (mden b))).length = (mArgs vs).length := by
  intro vs
  induction vs with
  | nil => rfl
  | cons w vs ih =>
    rcases w with a | a | a
    · simp [lg_sl, mArgs, mden_cat1 b (.inl a) (fun x => by simp)] at ih ⊢
      exact ih
    · simp [lg_sl, mArgs, show (mden b (.inr (.inl a))).category = 2 from rfl] at ih ⊢
      omega
    · simp [lg_sl, mArgs, mden_cat1 b (.inr (.inr a)) (fun x => by simp)] at ih ⊢
      exact ih
theorem mEnt_ls (b n : Nat) (as : List mV) (hn : (mArgs as).length ≤ n) : mLs b ((lg_sl (as.map (mden b)) ++ List.replicate (n - (lg_sl (as.map (mden b))).length) Slot.unset).toArray) n (mEnt n as) := by
  obtain ⟨h1, h2, h3⟩ := lv_entry (as.map (mden b)) (n := n) (by rw [mArgs_len]; exact hn)
  refine ⟨h1, h2, fun i v hi => ?_⟩
  have hj : (mArgs as)[i]? = some (some v) := by
    unfold mEnt at hi
    by_cases hl : i < (mArgs as).length
    · rw [List.getElem?_append_left hl] at hi; exact hi
    · rw [List.getElem?_append_right (by omega)] at hi
      have := List.eq_of_mem_replicate (List.mem_of_getElem? hi)
      cases this
  have := h3 _ (mArgs_in b as 0 i v hj)
  simpa using this
theorem mPc_blind {P : mP} {D : va_G} {as : List mV} {h : mH} : FrameBlind (mPc P D as h) := by
  intro a U g mk q
  obtain ⟨q1, q2, q3, q4⟩ := q
  exact ⟨q1, q2, va_K.moved (u := U) (U := U.calling g mk a) (Vm.Alike.refl U.vm) q3, mEX.same (s := U) (U := U.calling g mk a) q4 rfl rfl⟩
theorem mCt.of {M : mM} {as : List mV} {h h' : mH} {v : Option mV} {pc : Nat} {ls : mL} (hp : plainName M.1.cls = true) (hn : (mArgs as).length ≤ M.2.2.1) (hg : mGo mZt M 0 (mEnt M.2.2.1 as) [] h pc ls v.toList h') (hr : mRet M pc v) : mCt M as h v h' := by
  refine ⟨hg.1, fun l P D => ?_⟩
  refine Met.ofW (cc := M.2.1) (maxL := M.2.2.1) (ret := M.2.2.2.1) hp rfl ?_
  intro p e s m args below meth c s₁ B hml hv
  obtain ⟨rfl, hR, hK, hE⟩ := hv
  have hx := B.exec
  have hb := B.bytes
  have hrt := B.returns
  have hts := atoms_spec (ws := mwsM M) B.pre
  have hlocks := B.notSynchronized
  have hsz : P.1 ≤ s.heap.size := by rw [hR.1]; omega
  have X := hg.2 P D p l e (headSpec (mwsM M) ({ frames := M.2.2.2.2.1, cells := h'.1.length - h.1.length, slots := mS h' - mS h, locals := M.2.2.2.2.2 })).room s m (as.map (mden P.1)).toArray below meth c
    (MQ below (mQc P D v h') (as.map (mden P.1)).toArray s (h'.1.length - h.1.length) (mS h' - mS h) (mAo P)) h.1.length (mS h)
    ⟨hx, hb, hml, findClass_of_methodNamed B.named, (name_of_methodNamed B.named B.method).1, fun w hw => hts w (List.mem_cons_of_mem _ hw), hK, hE, Nat.le_refl _, Nat.le_refl _, hsz⟩ trivial (Nat.le_refl _) (Nat.le_refl _) (Nat.le_refl _) (Nat.le_refl _) ?_ s.heap [] _ (mEnt_ls P.1 M.2.2.1 as hn) hR va_S.rf
  · rw [lg_entry_eq]
    rw [Nat.sub_self, Nat.sub_self] at X
    exact X
  · intro H locs la hl hR' hS
    rcases v with _ | (a | a | a)
    · obtain ⟨d, hr2⟩ := hr
      exact W.vret hx hb (hrt.trans hr2) (fun t ht hW => ⟨rfl, by rw [ht]; exact hR', hS.F ht⟩) hS.2.2 d
    · obtain ⟨d, ty, hr2, hnar⟩ := hr
      exact W.zret hx hb (hrt.trans hr2) hnar (fun t ht hW => ⟨rfl, by rw [ht]; exact hR', hS.F ht⟩) hS.2.2 d
    · exact hr.elim
    · obtain ⟨d, n, hr2⟩ := hr
      refine W.aret hx hb (hrt.trans hr2) (Or.inl ⟨n, rfl⟩) (va_rf_or _) (fun t ht hW => ⟨rfl, by rw [ht]; exact hR', hS.F ht⟩) hS.2.2 d
theorem mMt.of {M : mM} {as : List mV} {h : mH} {post : Option mV → mH → Prop} (hp : plainName M.1.cls = true) (hn : (mArgs as).length ≤ M.2.2.1) (k : mRun mZt M 0 (mEnt M.2.2.1 as) [] h post) : mMt M as h post := by
  obtain ⟨p2, l2, v, h2, g, r, q⟩ := k
  exact ⟨v, h2, mCt.of hp hn g r, q⟩
end
section
/-! ===== the small machine's instructions ===== -/
theorem o32 {a : Int} (h : -2147483648 ≤ a ∧ a < 2147483648) : (Int32.ofInt a).toInt = a := by
  refine Int32.toInt_ofInt_of_le ?_ ?_
  · have : (-2 ^ 31 : Int) = -2147483648 := by decide
    omega
  · have : (2 ^ 31 : Int) = 2147483648 := by decide
    omega
theorem o64 {a : Int} (h : -9223372036854775808 ≤ a ∧ a < 9223372036854775808) : (Int64.ofInt a).toInt = a := by
  refine Int64.toInt_ofInt_of_le ?_ ?_
  · have : (-2 ^ 63 : Int) = -9223372036854775808 := by decide
    omega
  · have : (2 ^ 63 : Int) = 9223372036854775808 := by decide
    omega
theorem o32_eq {a b : Int} (ha : -2147483648 ≤ a ∧ a < 2147483648) (hb : -2147483648 ≤ b ∧ b < 2147483648) : Int32.ofInt a = Int32.ofInt b ↔ a = b := by
  rw [← Int32.toInt_inj, o32 ha, o32 hb]
theorem o32_lt {a b : Int} (ha : -2147483648 ≤ a ∧ a < 2147483648) (hb : -2147483648 ≤ b ∧ b < 2147483648) : Int32.ofInt a < Int32.ofInt b ↔ a < b := by
  rw [Int32.lt_iff_toInt_lt, o32 ha, o32 hb]
theorem o32_le {a b : Int} (ha : -2147483648 ≤ a ∧ a < 2147483648) (hb : -2147483648 ≤ b ∧ b < 2147483648) : Int32.ofInt a ≤ Int32.ofInt b ↔ a ≤ b := by
  rw [Int32.le_iff_toInt_le, o32 ha, o32 hb]
theorem o32_cl {a : Int} (ha : 0 ≤ a ∧ a < 2147483648) : (Int32.ofInt a).toNatClampNeg = a.toNat := by
  show (Int32.ofInt a).toInt.toNat = a.toNat
  rw [o32 ⟨by omega, ha.2⟩]
theorem o32_in {a : Int} {n : Nat} (h : 0 ≤ a ∧ a < (n : Int)) (hn : n < 2147483648) : vp_in (Int32.ofInt a) n := by
  rw [vp_in_iff, o32 ⟨by omega, by omega⟩]
  exact h
/-- a step that leaves the heap as it is -/
theorem mGo.pu {Z : mZ} {M : mM} {pc pc' : Nat} {ls ls' : mL} {st st' : List mV} {h : mH}
    (hh : ∀ (b : Nat) (p : Program) (l : Launch) (e : Env) (R : Room) (s : State) (m : MethodId) (args : Array Value) (below : List Frame) (meth : Method) (c : Code) (H : Heap) (locs : List Loc) (cells slots : Nat) (Q : State → Prop) (la : Array Slot), p.tables.exec = Jvm.exec → c.code = M.2.1 → s.vm.findClass M.1.cls = some m.cls → (∀ w ∈ gtbl, w.before args s = true) → mLs b la M.2.2.1 ls →
      (∀ la' : Array Slot, mLs b la' M.2.2.1 ls' → W p l e R s m args below meth c H locs cells slots Q (F0 m pc' la' (st'.map (mden b)))) → W p l e R s m args below meth c H locs cells slots Q (F0 m pc la (st.map (mden b)))) : mGo Z M pc ls st h pc' ls' st' h := by
  refine ⟨⟨Nat.le_refl _, Nat.le_refl _⟩, ?_⟩
  intro P D p l e R s m args below meth c Q c0 s0 C hZ hc hs hC hS k H locs la hl hR hV
  exact hh P.1 p l e R s m args below meth c H locs _ _ Q la C.1 C.2.1 C.2.2.2.1 C.2.2.2.2.2.1 hl (fun la' hl' => k H locs la' hl' hR hV)
section OPS
variable {Z : mZ} {M : mM} {pc : Nat} {ls : mL} {st : List mV} {h : mH}
/-! constants -/
theorem q_iconst {n : Int} (d : decode M.2.1 pc = .ok (.iconst n, 1)) : mGo Z M pc ls st h (pc + 1) ls (mi n :: st) h :=
  mGo.pu fun b p l e R s m args below meth c H locs cells slots Q la hx hb ho ht hl k => lv_iconst hx hb d rfl (k la hl)
theorem q_bipush {n : Int} (d : decode M.2.1 pc = .ok (.bipush n, 2)) (hn : (Int8.ofInt n).toInt32 = Int32.ofInt n) : mGo Z M pc ls st h (pc + 2) ls (mi n :: st) h :=
  mGo.pu fun b p l e R s m args below meth c H locs cells slots Q la hx hb ho ht hl k => lv_bipush hx hb d hn (k la hl)
theorem q_sipush {n : Int} (d : decode M.2.1 pc = .ok (.sipush n, 3)) (hn : (Int16.ofInt n).toInt32 = Int32.ofInt n) : mGo Z M pc ls st h (pc + 3) ls (mi n :: st) h :=
  mGo.pu fun b p l e R s m args below meth c H locs cells slots Q la hx hb ho ht hl k => lv_sipush hx hb d hn (k la hl)
theorem q_lconst {n : Fin 2} {a : Int} (d : decode M.2.1 pc = .ok (.lconst n, 1)) (hn : Int64.ofNat (n : Nat) = Int64.ofInt a) : mGo Z M pc ls st h (pc + 1) ls (ml a :: st) h :=
  mGo.pu fun b p l e R s m args below meth c H locs cells slots Q la hx hb ho ht hl k => lv_lconst hx hb d hn (k la hl)
theorem q_ldc {index : Nat} {a : Int} (d : decode M.2.1 pc = .ok (.ldc index, 2)) (ok : Cond.constant M.1.cls index (Int32.ofInt a) ∈ gtbl) : mGo Z M pc ls st h (pc + 2) ls (mi a :: st) h :=
  mGo.pu fun b p l e R s m args below meth c H locs cells slots Q la hx hb ho ht hl k => lv_ldc hx hb ho (ht _ ok) d (k la hl)
theorem q_ldc2 {index : Nat} {a : Int} (d : decode M.2.1 pc = .ok (.ldc2_w index, 3)) (ok : Cond.constantLong M.1.cls index (Int64.ofInt a) ∈ gtbl) : mGo Z M pc ls st h (pc + 3) ls (ml a :: st) h :=
  mGo.pu fun b p l e R s m args below meth c H locs cells slots Q la hx hb ho ht hl k => lv_ldc2 hx hb ho (ht _ ok) d (k la hl)
/-! locals -/
theorem q_iload_n {k : Fin 4} {i : Nat} {a : Int} (d : decode M.2.1 pc = .ok (.iload_n k, 1)) (hi : (k : Nat) = i) (hv : ls[i]? = some (some (mi a))) : mGo Z M pc ls st h (pc + 1) ls (mi a :: st) h :=
  mGo.pu fun b p l e R s m args below meth c H locs cells slots Q la hx hb ho ht hl k => lv_iload_n hx hb d hi (hl.2.2 i _ hv) (k la hl)
theorem q_iload {i : Nat} {a : Int} (d : decode M.2.1 pc = .ok (.iload i, 2)) (hv : ls[i]? = some (some (mi a))) : mGo Z M pc ls st h (pc + 2) ls (mi a :: st) h :=
  mGo.pu fun b p l e R s m args below meth c H locs cells slots Q la hx hb ho ht hl k => lv_iload hx hb d (hl.2.2 i _ hv) (k la hl)
theorem q_lload_n {k : Fin 4} {i : Nat} {a : Int} (d : decode M.2.1 pc = .ok (.lload_n k, 1)) (hi : (k : Nat) = i) (hv : ls[i]? = some (some (ml a))) : mGo Z M pc ls st h (pc + 1) ls (ml a :: st) h :=
  mGo.pu fun b p l e R s m args below meth c H locs cells slots Q la hx hb ho ht hl k => lv_lload_n hx hb d hi (hl.2.2 i _ hv) (k la hl)
theorem q_lload {i : Nat} {a : Int} (d : decode M.2.1 pc = .ok (.lload i, 2)) (hv : ls[i]? = some (some (ml a))) : mGo Z M pc ls st h (pc + 2) ls (ml a :: st) h :=
  mGo.pu fun b p l e R s m args below meth c H locs cells slots Q la hx hb ho ht hl k => lv_lload hx hb d (hl.2.2 i _ hv) (k la hl)
theorem q_aload_n {k : Fin 4} {i a : Nat} (d : decode M.2.1 pc = .ok (.aload_n k, 1)) (hi : (k : Nat) = i) (hv : ls[i]? = some (some (mr a))) : mGo Z M pc ls st h (pc + 1) ls (mr a :: st) h :=
  mGo.pu fun b p l e R s m args below meth c H locs cells slots Q la hx hb ho ht hl k => lv_aload_n hx hb d hi (hl.2.2 i _ hv) (k la hl)
theorem q_aload {i a : Nat} (d : decode M.2.1 pc = .ok (.aload i, 2)) (hv : ls[i]? = some (some (mr a))) : mGo Z M pc ls st h (pc + 2) ls (mr a :: st) h :=
  mGo.pu fun b p l e R s m args below meth c H locs cells slots Q la hx hb ho ht hl k => lv_aload hx hb d (hl.2.2 i _ hv) (k la hl)
/-- storing: the place behind a long that ended there is free again -/
def mil : Option mV → Bool
  | some (.inr (.inl _)) => true
  | _ => false
def mst (ls : mL) (i : Nat) (v : mV) : mL := (match i with
  | 0 => ls
  | i + 1 => bif mil ((ls[i]?).getD none) then ls.set i none else ls).set i (some v)
theorem mLs_as {b n : Nat} {la : Array Slot} {ls : mL} (h : mLs b la n ls) : lv_has la n ((List.range ls.length).filterMap (fun i => (ls.getD i none).map (fun v => (i, mden b v)))) := by
  refine ⟨h.1, h.2.1, fun q hq => ?_⟩
  obtain ⟨i, hi, hv⟩ := List.mem_filterMap.mp hq
  have hi := List.mem_range.mp hi
  cases hx : ls.getD i none with
  | none => rw [hx] at hv; cases hv
  | some v =>
    rw [hx] at hv
    cases hv
    refine h.2.2 i v ?_
    rw [List.getD_eq_getElem?_getD, List.getElem?_eq_getElem hi] at hx
    rw [List.getElem?_eq_getElem hi]
    exact congrArg some hx
theorem mil_cat (b : Nat) (v : mV) : (mden b v).category = 2 → mil (some v) = true := by
  rcases v with a | a | (_ | a)
  · intro h; cases h
  · intro h; rfl
  · intro h; cases h
  · intro h; cases h
theorem mst_of {b n i : Nat} {la la' : Array Slot} {ls : mL} {v : mV} (h : mLs b la n ls) (h' : lv_has la' n ((i, mden b v) :: ((List.range ls.length).filterMap (fun j => (ls.getD j none).map (fun v => (j, mden b v)))).filter (fun q => !(q.1 == i) && !(q.1 + 1 == i && q.2.category == 2)))) : mLs b la' n (mst ls i v) := by
  refine ⟨h'.1, h'.2.1, fun j w hj => ?_⟩
  have hlen : (mst ls i v).length = ls.length := by
    unfold mst
    cases i with
    | zero => simp
    | succ i => simp only [List.length_set]; cases mil ((ls[i]?).getD none) <;> simp
  have hjl : j < ls.length := by rw [← hlen]; exact (List.getElem?_eq_some_iff.mp hj).1
  by_cases hji : j = i
  · subst hji
    have e : w = v := by
      unfold mst at hj
      rw [List.getElem?_set_self (by
        cases j with
        | zero => exact hjl
        | succ j =>
          cases hm : mil ((ls[j]?).getD none) with
          | true => simp only [hm, cond_true, List.length_set]; exact hjl
          | false => simp only [hm, cond_false]; exact hjl)] at hj
      exact (Option.some.inj (Option.some.inj hj)).symm
    subst e
    exact h'.2.2 _ List.mem_cons_self
  · have hold : ls[j]? = some (some w) ∧ ¬ (j + 1 = i ∧ mil (some w) = true) := by
      unfold mst at hj
      rw [List.getElem?_set_ne (Ne.symm hji)] at hj
      cases i with
      | zero => exact ⟨hj, by omega⟩
      | succ i =>
        by_cases hjj : j = i
        · subst hjj
          cases hm : mil ((ls[j]?).getD none) with
          | true =>
            simp only [hm, cond_true] at hj
            rw [List.getElem?_set_self hjl] at hj
            cases hj
          | false =>
            simp only [hm, cond_false] at hj
            refine ⟨hj, fun q => ?_⟩
            rw [hj] at hm
            simp only [Option.getD_some] at hm
            rw [q.2] at hm
            cases hm
        · have hne : ¬ j + 1 = i + 1 := by omega
          refine ⟨?_, fun q => hne q.1⟩
          cases hm : mil ((ls[i]?).getD none) with
          | true =>
            simp only [hm, cond_true] at hj
            rw [List.getElem?_set_ne (Ne.symm hjj)] at hj
            exact hj
          | false =>
            simp only [hm, cond_false] at hj
            exact hj
    refine h'.2.2 (j, mden b w) (List.mem_cons_of_mem _ (List.mem_filter.mpr ⟨List.mem_filterMap.mpr ⟨j, List.mem_range.mpr hjl, ?_⟩, ?_⟩))
    · rw [List.getD_eq_getElem?_getD, hold.1]
      rfl
    · simp only [Bool.and_eq_true, Bool.not_eq_true', beq_eq_false_iff_ne, ne_eq, Bool.and_eq_false_iff]
      refine ⟨hji, ?_⟩
      by_cases h1 : j + 1 = i
      · right
        intro h2
        exact hold.2 ⟨h1, mil_cat b w h2⟩
      · left
        exact h1
theorem q_istore_n {k : Fin 4} {i : Nat} {a : Int} {ls' : mL} (d : decode M.2.1 pc = .ok (.istore_n k, 1)) (hi : (k : Nat) = i) (hn : i < M.2.2.1) (e : mst ls i (mi a) = ls') : mGo Z M pc ls (mi a :: st) h (pc + 1) ls' st h :=
  mGo.pu fun b p l e R s m args below meth c H locs cells slots Q la hx hb ho ht hl k => lv_istore_n hx hb d hi (mLs_as hl) hn rfl (fun la' h' => k la' (by rw [← ‹mst ls i (mi a) = ls'›]; exact mst_of hl h'))
theorem q_istore {i : Nat} {a : Int} {ls' : mL} (d : decode M.2.1 pc = .ok (.istore i, 2)) (hn : i < M.2.2.1) (e : mst ls i (mi a) = ls') : mGo Z M pc ls (mi a :: st) h (pc + 2) ls' st h :=
  mGo.pu fun b p l e R s m args below meth c H locs cells slots Q la hx hb ho ht hl k => lv_istore hx hb d (mLs_as hl) hn rfl (fun la' h' => k la' (by rw [← ‹mst ls i (mi a) = ls'›]; exact mst_of hl h'))
theorem q_astore_n {k : Fin 4} {i a : Nat} {ls' : mL} (d : decode M.2.1 pc = .ok (.astore_n k, 1)) (hi : (k : Nat) = i) (hn : i < M.2.2.1) (e : mst ls i (mr a) = ls') : mGo Z M pc ls (mr a :: st) h (pc + 1) ls' st h :=
  mGo.pu fun b p l e R s m args below meth c H locs cells slots Q la hx hb ho ht hl k => lv_astore_n hx hb d hi (mLs_as hl) hn rfl (fun la' h' => k la' (by rw [← ‹mst ls i (mr a) = ls'›]; exact mst_of (v := mr a) hl h'))
theorem q_astore {i a : Nat} {ls' : mL} (d : decode M.2.1 pc = .ok (.astore i, 2)) (hn : i < M.2.2.1) (e : mst ls i (mr a) = ls') : mGo Z M pc ls (mr a :: st) h (pc + 2) ls' st h :=
  mGo.pu fun b p l e R s m args below meth c H locs cells slots Q la hx hb ho ht hl k => lv_astore hx hb d (mLs_as hl) hn rfl (fun la' h' => k la' (by rw [← ‹mst ls i (mr a) = ls'›]; exact mst_of (v := mr a) hl h'))
theorem lv_fewer {la : Array Slot} {n : Nat} {l l' : List (Nat × Value)} (h : lv_has la n l) (hs : ∀ q ∈ l', q ∈ l) : lv_has la n l' := ⟨h.1, h.2.1, fun q hq => h.2.2 q (hs q hq)⟩
def mst2 (ls : mL) (i : Nat) (v : mV) : mL := mst (ls.set (i + 1) none) i v
theorem mst2_of {b n i : Nat} {la la' : Array Slot} {ls : mL} {v : mV} (h : mLs b la n ls) (h' : lv_has la' n ((i, mden b v) :: ((List.range ls.length).filterMap (fun j => (ls.getD j none).map (fun v => (j, mden b v)))).filter (fun q => !(q.1 == i) && (!(q.1 == i + 1) && !(q.1 + 1 == i && q.2.category == 2))))) : mLs b la' n (mst2 ls i v) := by
  have h2 : mLs b la n (ls.set (i + 1) none) := by
    refine ⟨h.1, h.2.1, fun j w hj => ?_⟩
    by_cases hji : i + 1 = j
    · subst hji
      by_cases hl : i + 1 < ls.length
      · rw [List.getElem?_set_self hl] at hj; cases hj
      · rw [List.getElem?_eq_none (by simp; omega)] at hj; cases hj
    · rw [List.getElem?_set_ne hji] at hj
      exact h.2.2 j w hj
  refine mst_of h2 (lv_fewer h' (fun q hq => ?_))
  rcases List.mem_cons.mp hq with rfl | hq
  · exact List.mem_cons_self
  · refine List.mem_cons_of_mem _ ?_
    obtain ⟨hq1, hq2⟩ := List.mem_filter.mp hq
    obtain ⟨j, hj, hv⟩ := List.mem_filterMap.mp hq1
    have hj := List.mem_range.mp hj
    rw [List.length_set] at hj
    by_cases hji : i + 1 = j
    · subst hji
      rw [List.getD_eq_getElem?_getD, List.getElem?_set_self hj] at hv
      cases hv
    · rw [List.getD_eq_getElem?_getD, List.getElem?_set_ne hji, ← List.getD_eq_getElem?_getD] at hv
      refine List.mem_filter.mpr ⟨List.mem_filterMap.mpr ⟨j, List.mem_range.mpr hj, hv⟩, ?_⟩
      have hq0 : q.1 = j := by
        cases hx : ls.getD j none with
        | none => rw [hx] at hv; cases hv
        | some w => rw [hx] at hv; cases hv; rfl
      simp only [Bool.and_eq_true] at hq2 ⊢
      refine ⟨hq2.1, ?_, hq2.2⟩
      rw [hq0]
      simp only [Bool.not_eq_true', beq_eq_false_iff_ne, ne_eq]
      omega
theorem q_lstore_n {k : Fin 4} {i : Nat} {a : Int} {ls' : mL} (d : decode M.2.1 pc = .ok (.lstore_n k, 1)) (hi : (k : Nat) = i) (hn : i + 1 < M.2.2.1) (e : mst2 ls i (ml a) = ls') : mGo Z M pc ls (ml a :: st) h (pc + 1) ls' st h :=
  mGo.pu fun b p l e R s m args below meth c H locs cells slots Q la hx hb ho ht hl k => lv_lstore_n hx hb d hi (mLs_as hl) hn rfl (fun la' h' => k la' (by rw [← ‹mst2 ls i (ml a) = ls'›]; exact mst2_of hl h'))
theorem q_lstore {i : Nat} {a : Int} {ls' : mL} (d : decode M.2.1 pc = .ok (.lstore i, 2)) (hn : i + 1 < M.2.2.1) (e : mst2 ls i (ml a) = ls') : mGo Z M pc ls (ml a :: st) h (pc + 2) ls' st h :=
  mGo.pu fun b p l e R s m args below meth c H locs cells slots Q la hx hb ho ht hl k => lv_lstore hx hb d (mLs_as hl) hn rfl (fun la' h' => k la' (by rw [← ‹mst2 ls i (ml a) = ls'›]; exact mst2_of hl h'))
theorem q_iinc {i : Nat} {n a : Int} {ls' : mL} (d : decode M.2.1 pc = .ok (.iinc i n, 3)) (hv : ls[i]? = some (some (mi a))) (hn : i < M.2.2.1) (e : mst ls i (mi (a + n)) = ls') : mGo Z M pc ls st h (pc + 3) ls' st h :=
  mGo.pu fun b p l e R s m args below meth c H locs cells slots Q la hx hb ho ht hl k => by
    have hm : (i, Value.int (Int32.ofInt a)) ∈ (List.range ls.length).filterMap (fun j => (ls.getD j none).map (fun v => (j, mden b v))) :=
      List.mem_filterMap.mpr ⟨i, List.mem_range.mpr (List.getElem?_eq_some_iff.mp hv).1, by rw [List.getD_eq_getElem?_getD, hv]; rfl⟩
    obtain ⟨j, hj⟩ := List.getElem?_of_mem hm
    exact lv_iinc (k := j) (v := Int32.ofInt (a + n)) hx hb d (mLs_as hl) hj (Int32.ofInt_add a n).symm hn rfl (fun la' h' => k la' (by rw [← ‹mst ls i (mi (a + n)) = ls'›]; exact mst_of (v := mi (a + n)) hl h'))
/-! the stack -/
theorem cat1 (b : Nat) (a : Int) : (mden b (mi a)).category = 1 := rfl
theorem cat1o (b : Nat) (a : Option Nat) : (mden b (mo a)).category = 1 := by cases a <;> rfl
theorem q_dup {v : mV} (d : decode M.2.1 pc = .ok (.dup, 1)) (hv : mil (some v) = false) : mGo Z M pc ls (v :: st) h (pc + 1) ls (v :: v :: st) h :=
  mGo.pu fun b p l e R s m args below meth c H locs cells slots Q la hx hb ho ht hl k => lv_dup hx hb d (mden_cat1 b v (fun a q => by subst q; cases hv)) (k la hl)
theorem q_pop {v : mV} (d : decode M.2.1 pc = .ok (.pop, 1)) (hv : mil (some v) = false) : mGo Z M pc ls (v :: st) h (pc + 1) ls st h :=
  mGo.pu fun b p l e R s m args below meth c H locs cells slots Q la hx hb ho ht hl k => lv_pop hx hb d (mden_cat1 b v (fun a q => by subst q; cases hv)) (k la hl)
theorem q_dup2 {v w : mV} (d : decode M.2.1 pc = .ok (.dup2, 1)) (hv : mil (some v) = false) (hw : mil (some w) = false) : mGo Z M pc ls (v :: w :: st) h (pc + 1) ls (v :: w :: v :: w :: st) h :=
  mGo.pu fun b p l e R s m args below meth c H locs cells slots Q la hx hb ho ht hl k => lv_dup2_11 hx hb d (mden_cat1 b v (fun a q => by subst q; cases hv)) (mden_cat1 b w (fun a q => by subst q; cases hw)) (k la hl)
/-! arithmetic -/
theorem q_iadd {x y : Int} (d : decode M.2.1 pc = .ok (.iadd, 1)) : mGo Z M pc ls (mi y :: mi x :: st) h (pc + 1) ls (mi (x + y) :: st) h :=
  mGo.pu fun b p l e R s m args below meth c H locs cells slots Q la hx hb ho ht hl k => lv_iadd hx hb d (by rw [← Int32.ofInt_add]; exact k la hl)
theorem q_isub {x y : Int} (d : decode M.2.1 pc = .ok (.isub, 1)) : mGo Z M pc ls (mi y :: mi x :: st) h (pc + 1) ls (mi (x - y) :: st) h :=
  mGo.pu fun b p l e R s m args below meth c H locs cells slots Q la hx hb ho ht hl k => lv_isub hx hb d (by rw [← Int32.ofInt_sub]; exact k la hl)
theorem q_imul {x y : Int} (d : decode M.2.1 pc = .ok (.imul, 1)) : mGo Z M pc ls (mi y :: mi x :: st) h (pc + 1) ls (mi (x * y) :: st) h :=
  mGo.pu fun b p l e R s m args below meth c H locs cells slots Q la hx hb ho ht hl k => lv_imul hx hb d (by rw [← Int32.ofInt_mul]; exact k la hl)
theorem q_ladd {x y : Int} (d : decode M.2.1 pc = .ok (.ladd, 1)) : mGo Z M pc ls (ml y :: ml x :: st) h (pc + 1) ls (ml (x + y) :: st) h :=
  mGo.pu fun b p l e R s m args below meth c H locs cells slots Q la hx hb ho ht hl k => lv_ladd hx hb d (by rw [← Int64.ofInt_add]; exact k la hl)
theorem q_lmul {x y : Int} (d : decode M.2.1 pc = .ok (.lmul, 1)) : mGo Z M pc ls (ml y :: ml x :: st) h (pc + 1) ls (ml (x * y) :: st) h :=
  mGo.pu fun b p l e R s m args below meth c H locs cells slots Q la hx hb ho ht hl k => lv_lmul hx hb d (by rw [← Int64.ofInt_mul]; exact k la hl)
theorem nz32 {y : Int} (hy : 0 < y ∧ y < 2147483648) : ¬ Int32.ofInt y = 0 := by
  intro q
  have := congrArg Int32.toInt q
  rw [o32 ⟨by omega, hy.2⟩] at this
  have z : (0 : Int32).toInt = 0 := rfl
  omega
theorem nz64 {y : Int} (hy : 0 < y ∧ y < 9223372036854775808) : ¬ Int64.ofInt y = 0 := by
  intro q
  have := congrArg Int64.toInt q
  rw [o64 ⟨by omega, hy.2⟩] at this
  have z : (0 : Int64).toInt = 0 := rfl
  omega
theorem bmod_self {a : Int} {n : Nat} (h1 : -((n : Int) / 2) ≤ a) (h2 : a < ((n : Int) + 1) / 2) : a.bmod n = a := Int.bmod_eq_of_le h1 h2
theorem div32 {x y : Int} (hx : 0 ≤ x ∧ x < 2147483648) (hy : 0 < y ∧ y < 2147483648) : Int32.ofInt x / Int32.ofInt y = Int32.ofInt (x / y) := by
  have e1 := o32 (a := x) ⟨by omega, hx.2⟩
  have e2 := o32 (a := y) ⟨by omega, hy.2⟩
  have q1 : 0 ≤ x / y := Int.ediv_nonneg hx.1 (by omega)
  have q2 : x / y ≤ x := Int.ediv_le_self _ hx.1
  apply Int32.toInt_inj.mp
  rw [Int32.toInt_div, e1, e2, o32 ⟨by omega, by omega⟩, Int.tdiv_eq_ediv_of_nonneg hx.1]
  exact bmod_self (by omega) (by omega)
theorem div64 {x y : Int} (hx : 0 ≤ x ∧ x < 9223372036854775808) (hy : 0 < y ∧ y < 9223372036854775808) : Int64.ofInt x / Int64.ofInt y = Int64.ofInt (x / y) := by
  have e1 := o64 (a := x) ⟨by omega, hx.2⟩
  have e2 := o64 (a := y) ⟨by omega, hy.2⟩
  have q1 : 0 ≤ x / y := Int.ediv_nonneg hx.1 (by omega)
  have q2 : x / y ≤ x := Int.ediv_le_self _ hx.1
  apply Int64.toInt_inj.mp
  rw [Int64.toInt_div, e1, e2, o64 ⟨by omega, by omega⟩, Int.tdiv_eq_ediv_of_nonneg hx.1]
  exact bmod_self (by omega) (by omega)
theorem q_idiv {x y : Int} (d : decode M.2.1 pc = .ok (.idiv, 1)) (hx : 0 ≤ x ∧ x < 2147483648) (hy : 0 < y ∧ y < 2147483648) : mGo Z M pc ls (mi y :: mi x :: st) h (pc + 1) ls (mi (x / y) :: st) h :=
  mGo.pu fun b p l e R s m args below meth c H locs cells slots Q la hxx hb ho ht hl k => lv_idiv hxx hb d (nz32 hy) (by rw [div32 hx hy]; exact k la hl)
theorem q_irem {x y : Int} (d : decode M.2.1 pc = .ok (.irem, 1)) (hx : 0 ≤ x ∧ x < 2147483648) (hy : 0 < y ∧ y < 2147483648) : mGo Z M pc ls (mi y :: mi x :: st) h (pc + 1) ls (mi (x % y) :: st) h :=
  mGo.pu fun b p l e R s m args below meth c H locs cells slots Q la hxx hb ho ht hl k => lv_irem hxx hb d (nz32 hy) (by
    rw [div32 hx hy, ← Int32.ofInt_mul, ← Int32.ofInt_sub, show x - x / y * y = x % y by rw [Int.emod_def, Int.mul_comm]]
    exact k la hl)
theorem q_ldiv {x y : Int} (d : decode M.2.1 pc = .ok (.ldiv, 1)) (hx : 0 ≤ x ∧ x < 9223372036854775808) (hy : 0 < y ∧ y < 9223372036854775808) : mGo Z M pc ls (ml y :: ml x :: st) h (pc + 1) ls (ml (x / y) :: st) h :=
  mGo.pu fun b p l e R s m args below meth c H locs cells slots Q la hxx hb ho ht hl k => lv_ldiv hxx hb d (nz64 hy) (by rw [div64 hx hy]; exact k la hl)
theorem q_lrem {x y : Int} (d : decode M.2.1 pc = .ok (.lrem, 1)) (hx : 0 ≤ x ∧ x < 9223372036854775808) (hy : 0 < y ∧ y < 9223372036854775808) : mGo Z M pc ls (ml y :: ml x :: st) h (pc + 1) ls (ml (x % y) :: st) h :=
  mGo.pu fun b p l e R s m args below meth c H locs cells slots Q la hxx hb ho ht hl k => lv_lrem hxx hb d (nz64 hy) (by
    rw [div64 hx hy, ← Int64.ofInt_mul, ← Int64.ofInt_sub, show x - x / y * y = x % y by rw [Int.emod_def, Int.mul_comm]]
    exact k la hl)
theorem q_i2l {x : Int} (d : decode M.2.1 pc = .ok (.i2l, 1)) (hx : -2147483648 ≤ x ∧ x < 2147483648) : mGo Z M pc ls (mi x :: st) h (pc + 1) ls (ml x :: st) h :=
  mGo.pu fun b p l e R s m args below meth c H locs cells slots Q la hxx hb ho ht hl k => lv_i2l hxx hb d (v := Int64.ofInt x) (by
    apply Int64.toInt_inj.mp
    rw [Int32.toInt_toInt64, o32 hx, o64 ⟨by omega, by omega⟩]) (k la hl)
theorem q_l2i {x : Int} (d : decode M.2.1 pc = .ok (.l2i, 1)) : mGo Z M pc ls (ml x :: st) h (pc + 1) ls (mi x :: st) h :=
  mGo.pu fun b p l e R s m args below meth c H locs cells slots Q la hxx hb ho ht hl k => lv_l2i hxx hb d (v := Int32.ofInt x) Int64.toInt32_ofInt (k la hl)
/-- bits as the machine has them -/
def mand (x y : Int) : Int := (Int32.ofInt x &&& Int32.ofInt y).toInt
def mor (x y : Int) : Int := (Int32.ofInt x ||| Int32.ofInt y).toInt
def mshl (x y : Int) : Int := (Int32.ofInt x <<< (Int32.ofInt y &&& 31)).toInt
def mshr (x y : Int) : Int := (Int32.ofInt x >>> (Int32.ofInt y &&& 31)).toInt
theorem q_iand {x y : Int} (d : decode M.2.1 pc = .ok (.iand, 1)) : mGo Z M pc ls (mi y :: mi x :: st) h (pc + 1) ls (mi (mand x y) :: st) h :=
  mGo.pu fun b p l e R s m args below meth c H locs cells slots Q la hx hb ho ht hl k => lv_iand hx hb d (by rw [← Int32.ofInt_toInt (_ &&& _)]; exact k la hl)
theorem q_ior {x y : Int} (d : decode M.2.1 pc = .ok (.ior, 1)) : mGo Z M pc ls (mi y :: mi x :: st) h (pc + 1) ls (mi (mor x y) :: st) h :=
  mGo.pu fun b p l e R s m args below meth c H locs cells slots Q la hx hb ho ht hl k => lv_ior hx hb d (by rw [← Int32.ofInt_toInt (_ ||| _)]; exact k la hl)
theorem q_ishl {x y : Int} (d : decode M.2.1 pc = .ok (.ishl, 1)) : mGo Z M pc ls (mi y :: mi x :: st) h (pc + 1) ls (mi (mshl x y) :: st) h :=
  mGo.pu fun b p l e R s m args below meth c H locs cells slots Q la hx hb ho ht hl k => lv_ishl hx hb d (by rw [← Int32.ofInt_toInt (_ <<< _)]; exact k la hl)
theorem q_ishr {x y : Int} (d : decode M.2.1 pc = .ok (.ishr, 1)) : mGo Z M pc ls (mi y :: mi x :: st) h (pc + 1) ls (mi (mshr x y) :: st) h :=
  mGo.pu fun b p l e R s m args below meth c H locs cells slots Q la hx hb ho ht hl k => lv_ishr hx hb d (by rw [← Int32.ofInt_toInt (_ >>> _)]; exact k la hl)
def mcmp (x y : Int) : Int := if y < x then 1 else if x = y then 0 else -1
theorem q_lcmp {x y : Int} (d : decode M.2.1 pc = .ok (.lcmp, 1)) (hx : -9223372036854775808 ≤ x ∧ x < 9223372036854775808) (hy : -9223372036854775808 ≤ y ∧ y < 9223372036854775808) : mGo Z M pc ls (ml y :: ml x :: st) h (pc + 1) ls (mi (mcmp x y) :: st) h :=
  mGo.pu fun b p l e R s m args below meth c H locs cells slots Q la hxx hb ho ht hl k => W.lcmp hxx hb d (by
    have e : lg_cmp (Int64.ofInt x) (Int64.ofInt y) = Int32.ofInt (mcmp x y) := by
      unfold lg_cmp mcmp
      simp only [gt_iff_lt, Int64.lt_iff_toInt_lt, ← Int64.toInt_inj, o64 hx, o64 hy]
      by_cases h1 : y < x
      · rw [if_pos h1, if_pos h1]; rfl
      · rw [if_neg h1, if_neg h1]
        by_cases h2 : x = y
        · rw [if_pos h2, if_pos h2]; rfl
        · rw [if_neg h2, if_neg h2]; rfl
    rw [e]
    exact k la hl)
/-! ways -/
theorem q_goto {off : Int} {tgt : Nat} (d : decode M.2.1 pc = .ok (.goto off, 3)) (ht : (pc : Int) + off = (tgt : Int)) : mGo Z M pc ls st h tgt ls st h :=
  mGo.pu fun b p l e R s m args below meth c H locs cells slots Q la hx hb ho hw hl k => lv_goto hx hb d ht (k la hl)
end OPS
end
section
theorem gw_0 : (Jvm.Cond.initialized "DrumMapsLaw") ∈ gtbl := g_in (List.mem_of_getElem? (i := 56) (by decide +kernel)) rfl
theorem gw_1 : (Jvm.Cond.initialized "DrumMaps") ∈ gtbl := g_in (List.mem_of_getElem? (i := 57) (by decide +kernel)) rfl
theorem gw_2 : (Jvm.Cond.initialized "DrumMaps$Text") ∈ gtbl := g_in (List.mem_of_getElem? (i := 58) (by decide +kernel)) rfl
theorem gw_3 : (Jvm.Cond.initialized "DrumMaps$Reader") ∈ gtbl := g_in (List.mem_of_getElem? (i := 59) (by decide +kernel)) rfl
theorem gw_4 : (Jvm.Cond.initialized "DrumMaps$Land") ∈ gtbl := g_in (List.mem_of_getElem? (i := 60) (by decide +kernel)) rfl
theorem gw_5 : (Jvm.Cond.initialized "DrumMaps$Row") ∈ gtbl := g_in (List.mem_of_getElem? (i := 61) (by decide +kernel)) rfl
theorem gw_6 : (Jvm.Cond.initialized "DrumMaps$Forest") ∈ gtbl := g_in (List.mem_of_getElem? (i := 62) (by decide +kernel)) rfl
theorem gw_7 : (Jvm.Cond.initialized "DrumMaps$Traveller") ∈ gtbl := g_in (List.mem_of_getElem? (i := 63) (by decide +kernel)) rfl
theorem gw_8 : (Jvm.Cond.initialized "DrumMaps$Shelf") ∈ gtbl := g_in (List.mem_of_getElem? (i := 64) (by decide +kernel)) rfl
theorem gw_9 : (Jvm.Cond.initialized "DrumMaps$Ways") ∈ gtbl := g_in (List.mem_of_getElem? (i := 65) (by decide +kernel)) rfl
theorem gw_10 : (Jvm.Cond.initialized "java/lang/String") ∈ gtbl := g_in (List.mem_of_getElem? (i := 66) (by decide +kernel)) rfl
theorem gw_11 : (Jvm.Cond.initialized "java/lang/StringLatin1") ∈ gtbl := g_in (List.mem_of_getElem? (i := 67) (by decide +kernel)) rfl
theorem gw_12 : (Jvm.Cond.initialized "jdk/internal/util/Preconditions") ∈ gtbl := g_in (List.mem_of_getElem? (i := 68) (by decide +kernel)) rfl
theorem gw_13 : (Jvm.Cond.initialized "java/lang/StringUTF16") ∈ gtbl := g_in (List.mem_of_getElem? (i := 69) (by decide +kernel)) rfl
theorem gw_14 : (Jvm.Cond.initialized "java/lang/Math") ∈ gtbl := g_in (List.mem_of_getElem? (i := 70) (by decide +kernel)) rfl
theorem gw_15 : (Jvm.Cond.initialized "java/lang/System") ∈ gtbl := g_in (List.mem_of_getElem? (i := 71) (by decide +kernel)) rfl
theorem gw_16 : (Jvm.Cond.initialized "DrumMapsModel") ∈ gtbl := g_in (List.mem_of_getElem? (i := 72) (by decide +kernel)) rfl
theorem gw_17 : (Jvm.Cond.classLink "DrumMapsLaw" (7 : Nat) "DrumMaps") ∈ gtbl := g_in (List.mem_of_getElem? (i := 73) (by decide +kernel)) rfl
theorem gw_18 : (Jvm.Cond.instantiable "DrumMaps" (14 : Nat)) ∈ gtbl := g_in (List.mem_of_getElem? (i := 74) (by decide +kernel)) rfl
theorem gw_19 : (Jvm.Cond.methodLink "DrumMapsLaw" (9 : Nat) ({ cls := "DrumMaps", name := "<init>", desc := "()V" } : Jvm.MethodName)) ∈ gtbl := g_in (List.mem_of_getElem? (i := 75) (by decide +kernel)) rfl
theorem gw_20 : (Jvm.Cond.instanceMethod ({ cls := "DrumMaps", name := "<init>", desc := "()V" } : Jvm.MethodName)) ∈ gtbl := g_in (List.mem_of_getElem? (i := 76) (by decide +kernel)) rfl
theorem gw_21 : (Jvm.Cond.code ({ cls := "DrumMaps", name := "<init>", desc := "()V" } : Jvm.MethodName) prog_1_method_1_code (2 : Nat) (Option.none : Option Jvm.ClassFile.FieldType)) ∈ gtbl := g_in (List.mem_of_getElem? (i := 77) (by decide +kernel)) rfl
theorem gw_22 : (Jvm.Cond.methodLink "DrumMaps" (1 : Nat) ({ cls := "java/lang/Object", name := "<init>", desc := "()V" } : Jvm.MethodName)) ∈ gtbl := g_in (List.mem_of_getElem? (i := 78) (by decide +kernel)) rfl
theorem gw_23 : (Jvm.Cond.instanceMethod ({ cls := "java/lang/Object", name := "<init>", desc := "()V" } : Jvm.MethodName)) ∈ gtbl := g_in (List.mem_of_getElem? (i := 79) (by decide +kernel)) rfl
theorem gw_24 : (Jvm.Cond.code ({ cls := "java/lang/Object", name := "<init>", desc := "()V" } : Jvm.MethodName) object_method_1_code (1 : Nat) (Option.none : Option Jvm.ClassFile.FieldType)) ∈ gtbl := g_in (List.mem_of_getElem? (i := 80) (by decide +kernel)) rfl
theorem gw_25 : (Jvm.Cond.classLink "DrumMaps" (7 : Nat) "DrumMaps$Text") ∈ gtbl := g_in (List.mem_of_getElem? (i := 81) (by decide +kernel)) rfl
theorem gw_26 : (Jvm.Cond.instantiable "DrumMaps$Text" (2 : Nat)) ∈ gtbl := g_in (List.mem_of_getElem? (i := 82) (by decide +kernel)) rfl
theorem gw_28 : (Jvm.Cond.instanceMethod ({ cls := "DrumMaps$Text", name := "<init>", desc := "()V" } : Jvm.MethodName)) ∈ gtbl := g_in (List.mem_of_getElem? (i := 84) (by decide +kernel)) rfl
theorem gw_29 : (Jvm.Cond.code ({ cls := "DrumMaps$Text", name := "<init>", desc := "()V" } : Jvm.MethodName) prog_7_method_1_code (1 : Nat) (Option.none : Option Jvm.ClassFile.FieldType)) ∈ gtbl := g_in (List.mem_of_getElem? (i := 85) (by decide +kernel)) rfl
theorem gw_30 : (Jvm.Cond.methodLink "DrumMaps$Text" (3 : Nat) ({ cls := "java/lang/Object", name := "<init>", desc := "()V" } : Jvm.MethodName)) ∈ gtbl := g_in (List.mem_of_getElem? (i := 86) (by decide +kernel)) rfl
theorem gw_31 : (Jvm.Cond.fieldLink "DrumMaps$Text" (9 : Nat) "DrumMaps$Text" "letters" "[I") ∈ gtbl := g_in (List.mem_of_getElem? (i := 87) (by decide +kernel)) rfl
theorem gw_32 : (Jvm.Cond.fieldLink "DrumMaps" (102 : Nat) "DrumMaps$Text" "length" "I") ∈ gtbl := g_in (List.mem_of_getElem? (i := 88) (by decide +kernel)) rfl
theorem gw_33 : (Jvm.Cond.fieldLink "DrumMaps$Text" (15 : Nat) "DrumMaps$Text" "length" "I") ∈ gtbl := g_in (List.mem_of_getElem? (i := 89) (by decide +kernel)) rfl
theorem gw_34 : (Jvm.Cond.fieldLink "DrumMaps$Reader" (38 : Nat) "DrumMaps$Text" "length" "I") ∈ gtbl := g_in (List.mem_of_getElem? (i := 90) (by decide +kernel)) rfl
theorem gw_40 : (Jvm.Cond.arrayClass Jvm.ClassFile.FieldType.int) ∈ gtbl := g_in (List.mem_of_getElem? (i := 96) (by decide +kernel)) rfl
theorem gw_41 : (Jvm.Cond.classLink "DrumMaps" (16 : Nat) "DrumMaps$Reader") ∈ gtbl := g_in (List.mem_of_getElem? (i := 97) (by decide +kernel)) rfl
theorem gw_42 : (Jvm.Cond.instantiable "DrumMaps$Reader" (3 : Nat)) ∈ gtbl := g_in (List.mem_of_getElem? (i := 98) (by decide +kernel)) rfl
theorem gw_44 : (Jvm.Cond.instanceMethod ({ cls := "DrumMaps$Reader", name := "<init>", desc := "()V" } : Jvm.MethodName)) ∈ gtbl := g_in (List.mem_of_getElem? (i := 100) (by decide +kernel)) rfl
theorem gw_45 : (Jvm.Cond.code ({ cls := "DrumMaps$Reader", name := "<init>", desc := "()V" } : Jvm.MethodName) prog_4_method_1_code (1 : Nat) (Option.none : Option Jvm.ClassFile.FieldType)) ∈ gtbl := g_in (List.mem_of_getElem? (i := 101) (by decide +kernel)) rfl
theorem gw_46 : (Jvm.Cond.methodLink "DrumMaps$Reader" (3 : Nat) ({ cls := "java/lang/Object", name := "<init>", desc := "()V" } : Jvm.MethodName)) ∈ gtbl := g_in (List.mem_of_getElem? (i := 102) (by decide +kernel)) rfl
theorem gw_47 : (Jvm.Cond.classLink "DrumMaps$Reader" (9 : Nat) "DrumMaps$Land") ∈ gtbl := g_in (List.mem_of_getElem? (i := 103) (by decide +kernel)) rfl
theorem gw_48 : (Jvm.Cond.instantiable "DrumMaps$Land" (8 : Nat)) ∈ gtbl := g_in (List.mem_of_getElem? (i := 104) (by decide +kernel)) rfl
theorem gw_50 : (Jvm.Cond.instanceMethod ({ cls := "DrumMaps$Land", name := "<init>", desc := "()V" } : Jvm.MethodName)) ∈ gtbl := g_in (List.mem_of_getElem? (i := 106) (by decide +kernel)) rfl
theorem gw_51 : (Jvm.Cond.code ({ cls := "DrumMaps$Land", name := "<init>", desc := "()V" } : Jvm.MethodName) prog_3_method_1_code (1 : Nat) (Option.none : Option Jvm.ClassFile.FieldType)) ∈ gtbl := g_in (List.mem_of_getElem? (i := 107) (by decide +kernel)) rfl
theorem gw_52 : (Jvm.Cond.methodLink "DrumMaps$Land" (3 : Nat) ({ cls := "java/lang/Object", name := "<init>", desc := "()V" } : Jvm.MethodName)) ∈ gtbl := g_in (List.mem_of_getElem? (i := 108) (by decide +kernel)) rfl
theorem gw_53 : (Jvm.Cond.classLink "DrumMaps$Land" (9 : Nat) "DrumMaps$Row") ∈ gtbl := g_in (List.mem_of_getElem? (i := 109) (by decide +kernel)) rfl
theorem gw_54 : (Jvm.Cond.instantiable "DrumMaps$Row" (1 : Nat)) ∈ gtbl := g_in (List.mem_of_getElem? (i := 110) (by decide +kernel)) rfl
theorem gw_55 : (Jvm.Cond.methodLink "DrumMaps$Land" (11 : Nat) ({ cls := "DrumMaps$Row", name := "<init>", desc := "(I)V" } : Jvm.MethodName)) ∈ gtbl := g_in (List.mem_of_getElem? (i := 111) (by decide +kernel)) rfl
theorem gw_56 : (Jvm.Cond.instanceMethod ({ cls := "DrumMaps$Row", name := "<init>", desc := "(I)V" } : Jvm.MethodName)) ∈ gtbl := g_in (List.mem_of_getElem? (i := 112) (by decide +kernel)) rfl
theorem gw_57 : (Jvm.Cond.code ({ cls := "DrumMaps$Row", name := "<init>", desc := "(I)V" } : Jvm.MethodName) prog_5_method_1_code (2 : Nat) (Option.none : Option Jvm.ClassFile.FieldType)) ∈ gtbl := g_in (List.mem_of_getElem? (i := 113) (by decide +kernel)) rfl
theorem gw_58 : (Jvm.Cond.methodLink "DrumMaps$Row" (1 : Nat) ({ cls := "java/lang/Object", name := "<init>", desc := "()V" } : Jvm.MethodName)) ∈ gtbl := g_in (List.mem_of_getElem? (i := 114) (by decide +kernel)) rfl
theorem gw_59 : (Jvm.Cond.fieldLink "DrumMaps$Row" (7 : Nat) "DrumMaps$Row" "cells" "[I") ∈ gtbl := g_in (List.mem_of_getElem? (i := 115) (by decide +kernel)) rfl
theorem gw_63 : (Jvm.Cond.fieldLink "DrumMaps$Land" (14 : Nat) "DrumMaps$Land" "ground" "LDrumMaps$Row;") ∈ gtbl := g_in (List.mem_of_getElem? (i := 119) (by decide +kernel)) rfl
theorem gw_64 : (Jvm.Cond.fieldLink "DrumMaps$Ways" (50 : Nat) "DrumMaps$Land" "ground" "LDrumMaps$Row;") ∈ gtbl := g_in (List.mem_of_getElem? (i := 120) (by decide +kernel)) rfl
theorem gw_65 : (Jvm.Cond.fieldLink "DrumMaps$Reader" (74 : Nat) "DrumMaps$Land" "ground" "LDrumMaps$Row;") ∈ gtbl := g_in (List.mem_of_getElem? (i := 121) (by decide +kernel)) rfl
theorem gw_66 : (Jvm.Cond.fieldLink "DrumMaps$Forest" (45 : Nat) "DrumMaps$Land" "ground" "LDrumMaps$Row;") ∈ gtbl := g_in (List.mem_of_getElem? (i := 122) (by decide +kernel)) rfl
theorem gw_67 : (Jvm.Cond.fieldLink "DrumMaps" (119 : Nat) "DrumMaps$Land" "ground" "LDrumMaps$Row;") ∈ gtbl := g_in (List.mem_of_getElem? (i := 123) (by decide +kernel)) rfl
theorem gw_68 : (Jvm.Cond.fieldLink "DrumMaps$Land" (20 : Nat) "DrumMaps$Land" "kinds" "LDrumMaps$Row;") ∈ gtbl := g_in (List.mem_of_getElem? (i := 124) (by decide +kernel)) rfl
theorem gw_69 : (Jvm.Cond.fieldLink "DrumMaps$Reader" (100 : Nat) "DrumMaps$Land" "kinds" "LDrumMaps$Row;") ∈ gtbl := g_in (List.mem_of_getElem? (i := 125) (by decide +kernel)) rfl
theorem gw_70 : (Jvm.Cond.fieldLink "DrumMaps$Forest" (54 : Nat) "DrumMaps$Land" "kinds" "LDrumMaps$Row;") ∈ gtbl := g_in (List.mem_of_getElem? (i := 126) (by decide +kernel)) rfl
theorem gw_71 : (Jvm.Cond.fieldLink "DrumMaps" (143 : Nat) "DrumMaps$Land" "kinds" "LDrumMaps$Row;") ∈ gtbl := g_in (List.mem_of_getElem? (i := 127) (by decide +kernel)) rfl
theorem gw_72 : (Jvm.Cond.fieldLink "DrumMaps$Land" (23 : Nat) "DrumMaps$Land" "beside" "LDrumMaps$Row;") ∈ gtbl := g_in (List.mem_of_getElem? (i := 128) (by decide +kernel)) rfl
theorem gw_73 : (Jvm.Cond.fieldLink "DrumMaps$Ways" (68 : Nat) "DrumMaps$Land" "beside" "LDrumMaps$Row;") ∈ gtbl := g_in (List.mem_of_getElem? (i := 129) (by decide +kernel)) rfl
theorem gw_74 : (Jvm.Cond.fieldLink "DrumMaps$Land" (26 : Nat) "DrumMaps$Land" "places" "I") ∈ gtbl := g_in (List.mem_of_getElem? (i := 130) (by decide +kernel)) rfl
theorem gw_75 : (Jvm.Cond.fieldLink "DrumMaps$Ways" (23 : Nat) "DrumMaps$Land" "places" "I") ∈ gtbl := g_in (List.mem_of_getElem? (i := 131) (by decide +kernel)) rfl
theorem gw_76 : (Jvm.Cond.fieldLink "DrumMaps$Reader" (77 : Nat) "DrumMaps$Land" "places" "I") ∈ gtbl := g_in (List.mem_of_getElem? (i := 132) (by decide +kernel)) rfl
theorem gw_77 : (Jvm.Cond.fieldLink "DrumMaps" (113 : Nat) "DrumMaps$Land" "places" "I") ∈ gtbl := g_in (List.mem_of_getElem? (i := 133) (by decide +kernel)) rfl
theorem gw_78 : (Jvm.Cond.fieldLink "DrumMaps$Reader" (87 : Nat) "DrumMaps$Land" "width" "I") ∈ gtbl := g_in (List.mem_of_getElem? (i := 134) (by decide +kernel)) rfl
theorem gw_79 : (Jvm.Cond.fieldLink "DrumMaps$Land" (36 : Nat) "DrumMaps$Land" "width" "I") ∈ gtbl := g_in (List.mem_of_getElem? (i := 135) (by decide +kernel)) rfl
theorem gw_80 : (Jvm.Cond.fieldLink "DrumMaps" (276 : Nat) "DrumMaps$Land" "width" "I") ∈ gtbl := g_in (List.mem_of_getElem? (i := 136) (by decide +kernel)) rfl
theorem gw_81 : (Jvm.Cond.fieldLink "DrumMaps$Reader" (84 : Nat) "DrumMaps$Land" "rows" "I") ∈ gtbl := g_in (List.mem_of_getElem? (i := 137) (by decide +kernel)) rfl
theorem gw_82 : (Jvm.Cond.fieldLink "DrumMaps$Land" (39 : Nat) "DrumMaps$Land" "rows" "I") ∈ gtbl := g_in (List.mem_of_getElem? (i := 138) (by decide +kernel)) rfl
theorem gw_83 : (Jvm.Cond.fieldLink "DrumMaps$Land" (30 : Nat) "DrumMaps$Land" "drums" "I") ∈ gtbl := g_in (List.mem_of_getElem? (i := 139) (by decide +kernel)) rfl
theorem gw_84 : (Jvm.Cond.fieldLink "DrumMaps$Reader" (97 : Nat) "DrumMaps$Land" "drums" "I") ∈ gtbl := g_in (List.mem_of_getElem? (i := 140) (by decide +kernel)) rfl
theorem gw_85 : (Jvm.Cond.fieldLink "DrumMaps" (225 : Nat) "DrumMaps$Land" "drums" "I") ∈ gtbl := g_in (List.mem_of_getElem? (i := 141) (by decide +kernel)) rfl
theorem gw_86 : (Jvm.Cond.fieldLink "DrumMaps$Land" (33 : Nat) "DrumMaps$Land" "travellers" "I") ∈ gtbl := g_in (List.mem_of_getElem? (i := 142) (by decide +kernel)) rfl
theorem gw_87 : (Jvm.Cond.fieldLink "DrumMaps$Forest" (57 : Nat) "DrumMaps$Land" "travellers" "I") ∈ gtbl := g_in (List.mem_of_getElem? (i := 143) (by decide +kernel)) rfl
theorem gw_88 : (Jvm.Cond.fieldLink "DrumMaps$Reader" (114 : Nat) "DrumMaps$Land" "travellers" "I") ∈ gtbl := g_in (List.mem_of_getElem? (i := 144) (by decide +kernel)) rfl
theorem gw_89 : (Jvm.Cond.fieldLink "DrumMaps" (279 : Nat) "DrumMaps$Land" "travellers" "I") ∈ gtbl := g_in (List.mem_of_getElem? (i := 145) (by decide +kernel)) rfl
theorem gw_107 : (Jvm.Cond.classLink "DrumMaps$Reader" (18 : Nat) "DrumMaps$Forest") ∈ gtbl := g_in (List.mem_of_getElem? (i := 163) (by decide +kernel)) rfl
theorem gw_108 : (Jvm.Cond.instantiable "DrumMaps$Forest" (4 : Nat)) ∈ gtbl := g_in (List.mem_of_getElem? (i := 164) (by decide +kernel)) rfl
theorem gw_109 : (Jvm.Cond.methodLink "DrumMaps$Reader" (20 : Nat) ({ cls := "DrumMaps$Forest", name := "<init>", desc := "()V" } : Jvm.MethodName)) ∈ gtbl := g_in (List.mem_of_getElem? (i := 165) (by decide +kernel)) rfl
theorem gw_110 : (Jvm.Cond.instanceMethod ({ cls := "DrumMaps$Forest", name := "<init>", desc := "()V" } : Jvm.MethodName)) ∈ gtbl := g_in (List.mem_of_getElem? (i := 166) (by decide +kernel)) rfl
theorem gw_111 : (Jvm.Cond.code ({ cls := "DrumMaps$Forest", name := "<init>", desc := "()V" } : Jvm.MethodName) prog_2_method_1_code (2 : Nat) (Option.none : Option Jvm.ClassFile.FieldType)) ∈ gtbl := g_in (List.mem_of_getElem? (i := 167) (by decide +kernel)) rfl
theorem gw_112 : (Jvm.Cond.methodLink "DrumMaps$Forest" (3 : Nat) ({ cls := "java/lang/Object", name := "<init>", desc := "()V" } : Jvm.MethodName)) ∈ gtbl := g_in (List.mem_of_getElem? (i := 168) (by decide +kernel)) rfl
theorem gw_113 : (Jvm.Cond.classLink "DrumMaps$Forest" (9 : Nat) "DrumMaps$Row") ∈ gtbl := g_in (List.mem_of_getElem? (i := 169) (by decide +kernel)) rfl
theorem gw_114 : (Jvm.Cond.methodLink "DrumMaps$Forest" (11 : Nat) ({ cls := "DrumMaps$Row", name := "<init>", desc := "(I)V" } : Jvm.MethodName)) ∈ gtbl := g_in (List.mem_of_getElem? (i := 170) (by decide +kernel)) rfl
theorem gw_115 : (Jvm.Cond.classLink "DrumMaps$Forest" (20 : Nat) "DrumMaps$Traveller") ∈ gtbl := g_in (List.mem_of_getElem? (i := 171) (by decide +kernel)) rfl
theorem gw_117 : (Jvm.Cond.instantiable "DrumMaps$Traveller" (6 : Nat)) ∈ gtbl := g_in (List.mem_of_getElem? (i := 173) (by decide +kernel)) rfl
theorem gw_119 : (Jvm.Cond.instanceMethod ({ cls := "DrumMaps$Traveller", name := "<init>", desc := "()V" } : Jvm.MethodName)) ∈ gtbl := g_in (List.mem_of_getElem? (i := 175) (by decide +kernel)) rfl
theorem gw_120 : (Jvm.Cond.code ({ cls := "DrumMaps$Traveller", name := "<init>", desc := "()V" } : Jvm.MethodName) prog_8_method_1_code (1 : Nat) (Option.none : Option Jvm.ClassFile.FieldType)) ∈ gtbl := g_in (List.mem_of_getElem? (i := 176) (by decide +kernel)) rfl
theorem gw_121 : (Jvm.Cond.methodLink "DrumMaps$Traveller" (3 : Nat) ({ cls := "java/lang/Object", name := "<init>", desc := "()V" } : Jvm.MethodName)) ∈ gtbl := g_in (List.mem_of_getElem? (i := 177) (by decide +kernel)) rfl
theorem gw_122 : (Jvm.Cond.fieldLink "DrumMaps$Traveller" (9 : Nat) "DrumMaps$Traveller" "place" "I") ∈ gtbl := g_in (List.mem_of_getElem? (i := 178) (by decide +kernel)) rfl
theorem gw_123 : (Jvm.Cond.fieldLink "DrumMaps" (153 : Nat) "DrumMaps$Traveller" "place" "I") ∈ gtbl := g_in (List.mem_of_getElem? (i := 179) (by decide +kernel)) rfl
theorem gw_124 : (Jvm.Cond.fieldLink "DrumMaps$Traveller" (28 : Nat) "DrumMaps$Traveller" "goal" "I") ∈ gtbl := g_in (List.mem_of_getElem? (i := 180) (by decide +kernel)) rfl
theorem gw_125 : (Jvm.Cond.fieldLink "DrumMaps" (156 : Nat) "DrumMaps$Traveller" "goal" "I") ∈ gtbl := g_in (List.mem_of_getElem? (i := 181) (by decide +kernel)) rfl
theorem gw_126 : (Jvm.Cond.fieldLink "DrumMaps$Traveller" (21 : Nat) "DrumMaps$Traveller" "drum" "I") ∈ gtbl := g_in (List.mem_of_getElem? (i := 182) (by decide +kernel)) rfl
theorem gw_127 : (Jvm.Cond.fieldLink "DrumMaps" (159 : Nat) "DrumMaps$Traveller" "drum" "I") ∈ gtbl := g_in (List.mem_of_getElem? (i := 183) (by decide +kernel)) rfl
theorem gw_128 : (Jvm.Cond.fieldLink "DrumMaps$Traveller" (31 : Nat) "DrumMaps$Traveller" "state" "I") ∈ gtbl := g_in (List.mem_of_getElem? (i := 184) (by decide +kernel)) rfl
theorem gw_129 : (Jvm.Cond.fieldLink "DrumMaps$Forest" (63 : Nat) "DrumMaps$Traveller" "state" "I") ∈ gtbl := g_in (List.mem_of_getElem? (i := 185) (by decide +kernel)) rfl
theorem gw_130 : (Jvm.Cond.fieldLink "DrumMaps" (162 : Nat) "DrumMaps$Traveller" "state" "I") ∈ gtbl := g_in (List.mem_of_getElem? (i := 186) (by decide +kernel)) rfl
theorem gw_131 : (Jvm.Cond.fieldLink "DrumMaps$Traveller" (15 : Nat) "DrumMaps$Traveller" "toward" "I") ∈ gtbl := g_in (List.mem_of_getElem? (i := 187) (by decide +kernel)) rfl
theorem gw_132 : (Jvm.Cond.fieldLink "DrumMaps" (168 : Nat) "DrumMaps$Traveller" "toward" "I") ∈ gtbl := g_in (List.mem_of_getElem? (i := 188) (by decide +kernel)) rfl
theorem gw_133 : (Jvm.Cond.fieldLink "DrumMaps$Traveller" (18 : Nat) "DrumMaps$Traveller" "left" "I") ∈ gtbl := g_in (List.mem_of_getElem? (i := 189) (by decide +kernel)) rfl
theorem gw_134 : (Jvm.Cond.fieldLink "DrumMaps" (171 : Nat) "DrumMaps$Traveller" "left" "I") ∈ gtbl := g_in (List.mem_of_getElem? (i := 190) (by decide +kernel)) rfl
theorem gw_148 : (Jvm.Cond.fieldLink "DrumMaps$Forest" (14 : Nat) "DrumMaps$Forest" "told" "LDrumMaps$Row;") ∈ gtbl := g_in (List.mem_of_getElem? (i := 204) (by decide +kernel)) rfl
theorem gw_149 : (Jvm.Cond.fieldLink "DrumMaps$Forest" (22 : Nat) "DrumMaps$Forest" "travellers" "[LDrumMaps$Traveller;") ∈ gtbl := g_in (List.mem_of_getElem? (i := 205) (by decide +kernel)) rfl
theorem gw_150 : (Jvm.Cond.fieldLink "DrumMaps$Ways" (35 : Nat) "DrumMaps$Forest" "wet" "I") ∈ gtbl := g_in (List.mem_of_getElem? (i := 206) (by decide +kernel)) rfl
theorem gw_151 : (Jvm.Cond.fieldLink "DrumMaps$Forest" (30 : Nat) "DrumMaps$Forest" "wet" "I") ∈ gtbl := g_in (List.mem_of_getElem? (i := 207) (by decide +kernel)) rfl
theorem gw_152 : (Jvm.Cond.fieldLink "DrumMaps" (136 : Nat) "DrumMaps$Forest" "wet" "I") ∈ gtbl := g_in (List.mem_of_getElem? (i := 208) (by decide +kernel)) rfl
theorem gw_153 : (Jvm.Cond.fieldLink "DrumMaps$Reader" (126 : Nat) "DrumMaps$Forest" "wet" "I") ∈ gtbl := g_in (List.mem_of_getElem? (i := 209) (by decide +kernel)) rfl
theorem gw_154 : (Jvm.Cond.fieldLink "DrumMaps$Forest" (34 : Nat) "DrumMaps$Forest" "hours" "I") ∈ gtbl := g_in (List.mem_of_getElem? (i := 210) (by decide +kernel)) rfl
theorem gw_155 : (Jvm.Cond.fieldLink "DrumMaps" (195 : Nat) "DrumMaps$Forest" "hours" "I") ∈ gtbl := g_in (List.mem_of_getElem? (i := 211) (by decide +kernel)) rfl
theorem gw_165 : (Jvm.Cond.classLink "DrumMaps$Reader" (25 : Nat) "DrumMaps$Row") ∈ gtbl := g_in (List.mem_of_getElem? (i := 221) (by decide +kernel)) rfl
theorem gw_166 : (Jvm.Cond.methodLink "DrumMaps$Reader" (27 : Nat) ({ cls := "DrumMaps$Row", name := "<init>", desc := "(I)V" } : Jvm.MethodName)) ∈ gtbl := g_in (List.mem_of_getElem? (i := 222) (by decide +kernel)) rfl
theorem gw_167 : (Jvm.Cond.fieldLink "DrumMaps$Reader" (12 : Nat) "DrumMaps$Reader" "land" "LDrumMaps$Land;") ∈ gtbl := g_in (List.mem_of_getElem? (i := 223) (by decide +kernel)) rfl
theorem gw_168 : (Jvm.Cond.fieldLink "DrumMaps" (285 : Nat) "DrumMaps$Reader" "land" "LDrumMaps$Land;") ∈ gtbl := g_in (List.mem_of_getElem? (i := 224) (by decide +kernel)) rfl
theorem gw_169 : (Jvm.Cond.fieldLink "DrumMaps$Reader" (21 : Nat) "DrumMaps$Reader" "forest" "LDrumMaps$Forest;") ∈ gtbl := g_in (List.mem_of_getElem? (i := 225) (by decide +kernel)) rfl
theorem gw_170 : (Jvm.Cond.fieldLink "DrumMaps" (292 : Nat) "DrumMaps$Reader" "forest" "LDrumMaps$Forest;") ∈ gtbl := g_in (List.mem_of_getElem? (i := 226) (by decide +kernel)) rfl
theorem gw_171 : (Jvm.Cond.fieldLink "DrumMaps$Reader" (30 : Nat) "DrumMaps$Reader" "numbers" "LDrumMaps$Row;") ∈ gtbl := g_in (List.mem_of_getElem? (i := 227) (by decide +kernel)) rfl
theorem gw_179 : (Jvm.Cond.classLink "DrumMaps" (23 : Nat) "DrumMaps$Land") ∈ gtbl := g_in (List.mem_of_getElem? (i := 235) (by decide +kernel)) rfl
theorem gw_181 : (Jvm.Cond.classLink "DrumMaps" (30 : Nat) "DrumMaps$Forest") ∈ gtbl := g_in (List.mem_of_getElem? (i := 237) (by decide +kernel)) rfl
theorem gw_182 : (Jvm.Cond.methodLink "DrumMaps" (32 : Nat) ({ cls := "DrumMaps$Forest", name := "<init>", desc := "()V" } : Jvm.MethodName)) ∈ gtbl := g_in (List.mem_of_getElem? (i := 238) (by decide +kernel)) rfl
theorem gw_183 : (Jvm.Cond.classLink "DrumMaps" (37 : Nat) "DrumMaps$Shelf") ∈ gtbl := g_in (List.mem_of_getElem? (i := 239) (by decide +kernel)) rfl
theorem gw_184 : (Jvm.Cond.instantiable "DrumMaps$Shelf" (2 : Nat)) ∈ gtbl := g_in (List.mem_of_getElem? (i := 240) (by decide +kernel)) rfl
theorem gw_185 : (Jvm.Cond.methodLink "DrumMaps" (39 : Nat) ({ cls := "DrumMaps$Shelf", name := "<init>", desc := "(I)V" } : Jvm.MethodName)) ∈ gtbl := g_in (List.mem_of_getElem? (i := 241) (by decide +kernel)) rfl
theorem gw_186 : (Jvm.Cond.instanceMethod ({ cls := "DrumMaps$Shelf", name := "<init>", desc := "(I)V" } : Jvm.MethodName)) ∈ gtbl := g_in (List.mem_of_getElem? (i := 242) (by decide +kernel)) rfl
theorem gw_187 : (Jvm.Cond.code ({ cls := "DrumMaps$Shelf", name := "<init>", desc := "(I)V" } : Jvm.MethodName) prog_6_method_1_code (3 : Nat) (Option.none : Option Jvm.ClassFile.FieldType)) ∈ gtbl := g_in (List.mem_of_getElem? (i := 243) (by decide +kernel)) rfl
theorem gw_188 : (Jvm.Cond.methodLink "DrumMaps$Shelf" (1 : Nat) ({ cls := "java/lang/Object", name := "<init>", desc := "()V" } : Jvm.MethodName)) ∈ gtbl := g_in (List.mem_of_getElem? (i := 244) (by decide +kernel)) rfl
theorem gw_189 : (Jvm.Cond.classLink "DrumMaps$Shelf" (7 : Nat) "DrumMaps$Forest") ∈ gtbl := g_in (List.mem_of_getElem? (i := 245) (by decide +kernel)) rfl
theorem gw_191 : (Jvm.Cond.methodLink "DrumMaps$Shelf" (15 : Nat) ({ cls := "DrumMaps$Forest", name := "<init>", desc := "()V" } : Jvm.MethodName)) ∈ gtbl := g_in (List.mem_of_getElem? (i := 247) (by decide +kernel)) rfl
theorem gw_192 : (Jvm.Cond.fieldLink "DrumMaps$Shelf" (9 : Nat) "DrumMaps$Shelf" "stood" "[LDrumMaps$Forest;") ∈ gtbl := g_in (List.mem_of_getElem? (i := 248) (by decide +kernel)) rfl
theorem gw_193 : (Jvm.Cond.fieldLink "DrumMaps$Shelf" (16 : Nat) "DrumMaps$Shelf" "size" "I") ∈ gtbl := g_in (List.mem_of_getElem? (i := 249) (by decide +kernel)) rfl
theorem gw_194 : (Jvm.Cond.fieldLink "DrumMaps" (209 : Nat) "DrumMaps$Shelf" "size" "I") ∈ gtbl := g_in (List.mem_of_getElem? (i := 250) (by decide +kernel)) rfl
theorem gw_200 : (Jvm.Cond.classLink "DrumMaps" (49 : Nat) "DrumMaps$Row") ∈ gtbl := g_in (List.mem_of_getElem? (i := 256) (by decide +kernel)) rfl
theorem gw_201 : (Jvm.Cond.methodLink "DrumMaps" (51 : Nat) ({ cls := "DrumMaps$Row", name := "<init>", desc := "(I)V" } : Jvm.MethodName)) ∈ gtbl := g_in (List.mem_of_getElem? (i := 257) (by decide +kernel)) rfl
theorem gw_202 : (Jvm.Cond.classLink "DrumMaps" (62 : Nat) "DrumMaps$Traveller") ∈ gtbl := g_in (List.mem_of_getElem? (i := 258) (by decide +kernel)) rfl
theorem gw_204 : (Jvm.Cond.classLink "DrumMaps" (72 : Nat) "DrumMaps$Ways") ∈ gtbl := g_in (List.mem_of_getElem? (i := 260) (by decide +kernel)) rfl
theorem gw_205 : (Jvm.Cond.instantiable "DrumMaps$Ways" (2 : Nat)) ∈ gtbl := g_in (List.mem_of_getElem? (i := 261) (by decide +kernel)) rfl
theorem gw_207 : (Jvm.Cond.instanceMethod ({ cls := "DrumMaps$Ways", name := "<init>", desc := "()V" } : Jvm.MethodName)) ∈ gtbl := g_in (List.mem_of_getElem? (i := 263) (by decide +kernel)) rfl
theorem gw_208 : (Jvm.Cond.code ({ cls := "DrumMaps$Ways", name := "<init>", desc := "()V" } : Jvm.MethodName) prog_9_method_1_code (1 : Nat) (Option.none : Option Jvm.ClassFile.FieldType)) ∈ gtbl := g_in (List.mem_of_getElem? (i := 264) (by decide +kernel)) rfl
theorem gw_209 : (Jvm.Cond.methodLink "DrumMaps$Ways" (3 : Nat) ({ cls := "java/lang/Object", name := "<init>", desc := "()V" } : Jvm.MethodName)) ∈ gtbl := g_in (List.mem_of_getElem? (i := 265) (by decide +kernel)) rfl
theorem gw_210 : (Jvm.Cond.classLink "DrumMaps$Ways" (9 : Nat) "DrumMaps$Row") ∈ gtbl := g_in (List.mem_of_getElem? (i := 266) (by decide +kernel)) rfl
theorem gw_211 : (Jvm.Cond.methodLink "DrumMaps$Ways" (11 : Nat) ({ cls := "DrumMaps$Row", name := "<init>", desc := "(I)V" } : Jvm.MethodName)) ∈ gtbl := g_in (List.mem_of_getElem? (i := 267) (by decide +kernel)) rfl
theorem gw_212 : (Jvm.Cond.fieldLink "DrumMaps$Ways" (14 : Nat) "DrumMaps$Ways" "toEnter" "LDrumMaps$Row;") ∈ gtbl := g_in (List.mem_of_getElem? (i := 268) (by decide +kernel)) rfl
theorem gw_213 : (Jvm.Cond.fieldLink "DrumMaps$Ways" (20 : Nat) "DrumMaps$Ways" "toGoal" "LDrumMaps$Row;") ∈ gtbl := g_in (List.mem_of_getElem? (i := 269) (by decide +kernel)) rfl
theorem gw_220 : (Jvm.Cond.methodLink "DrumMaps" (84 : Nat) ({ cls := "java/lang/String", name := "length", desc := "()I" } : Jvm.MethodName)) ∈ gtbl := g_in (List.mem_of_getElem? (i := 276) (by decide +kernel)) rfl
theorem gw_221 : (Jvm.Cond.instanceMethod ({ cls := "java/lang/String", name := "length", desc := "()I" } : Jvm.MethodName)) ∈ gtbl := g_in (List.mem_of_getElem? (i := 277) (by decide +kernel)) rfl
theorem gw_222 : (Jvm.Cond.selects "java/lang/String" ({ cls := "java/lang/String", name := "length", desc := "()I" } : Jvm.MethodName) ({ cls := "java/lang/String", name := "length", desc := "()I" } : Jvm.MethodName)) ∈ gtbl := g_in (List.mem_of_getElem? (i := 278) (by decide +kernel)) rfl
theorem gw_223 : (Jvm.Cond.code ({ cls := "java/lang/String", name := "length", desc := "()I" } : Jvm.MethodName) prog_13_method_54_code (1 : Nat) (Option.some Jvm.ClassFile.FieldType.int)) ∈ gtbl := g_in (List.mem_of_getElem? (i := 279) (by decide +kernel)) rfl
theorem gw_224 : (Jvm.Cond.methodLink "java/lang/String" (335 : Nat) ({ cls := "java/lang/String", name := "coder", desc := "()B" } : Jvm.MethodName)) ∈ gtbl := g_in (List.mem_of_getElem? (i := 280) (by decide +kernel)) rfl
theorem gw_225 : (Jvm.Cond.instanceMethod ({ cls := "java/lang/String", name := "coder", desc := "()B" } : Jvm.MethodName)) ∈ gtbl := g_in (List.mem_of_getElem? (i := 281) (by decide +kernel)) rfl
theorem gw_226 : (Jvm.Cond.selects "java/lang/String" ({ cls := "java/lang/String", name := "coder", desc := "()B" } : Jvm.MethodName) ({ cls := "java/lang/String", name := "coder", desc := "()B" } : Jvm.MethodName)) ∈ gtbl := g_in (List.mem_of_getElem? (i := 282) (by decide +kernel)) rfl
theorem gw_227 : (Jvm.Cond.code ({ cls := "java/lang/String", name := "coder", desc := "()B" } : Jvm.MethodName) prog_13_method_152_code (1 : Nat) (Option.some Jvm.ClassFile.FieldType.byte)) ∈ gtbl := g_in (List.mem_of_getElem? (i := 283) (by decide +kernel)) rfl
theorem gw_228 : (Jvm.Cond.fieldLink "java/lang/String" (38 : Nat) "java/lang/String" "COMPACT_STRINGS" "Z") ∈ gtbl := g_in (List.mem_of_getElem? (i := 284) (by decide +kernel)) rfl
theorem gw_230 : (Jvm.Cond.methodLink "DrumMaps" (90 : Nat) ({ cls := "java/lang/String", name := "charAt", desc := "(I)C" } : Jvm.MethodName)) ∈ gtbl := g_in (List.mem_of_getElem? (i := 286) (by decide +kernel)) rfl
theorem gw_231 : (Jvm.Cond.instanceMethod ({ cls := "java/lang/String", name := "charAt", desc := "(I)C" } : Jvm.MethodName)) ∈ gtbl := g_in (List.mem_of_getElem? (i := 287) (by decide +kernel)) rfl
theorem gw_232 : (Jvm.Cond.selects "java/lang/String" ({ cls := "java/lang/String", name := "charAt", desc := "(I)C" } : Jvm.MethodName) ({ cls := "java/lang/String", name := "charAt", desc := "(I)C" } : Jvm.MethodName)) ∈ gtbl := g_in (List.mem_of_getElem? (i := 288) (by decide +kernel)) rfl
theorem gw_233 : (Jvm.Cond.code ({ cls := "java/lang/String", name := "charAt", desc := "(I)C" } : Jvm.MethodName) prog_13_method_56_code (2 : Nat) (Option.some Jvm.ClassFile.FieldType.char)) ∈ gtbl := g_in (List.mem_of_getElem? (i := 289) (by decide +kernel)) rfl
theorem gw_234 : (Jvm.Cond.methodLink "java/lang/String" (492 : Nat) ({ cls := "java/lang/String", name := "isLatin1", desc := "()Z" } : Jvm.MethodName)) ∈ gtbl := g_in (List.mem_of_getElem? (i := 290) (by decide +kernel)) rfl
theorem gw_235 : (Jvm.Cond.instanceMethod ({ cls := "java/lang/String", name := "isLatin1", desc := "()Z" } : Jvm.MethodName)) ∈ gtbl := g_in (List.mem_of_getElem? (i := 291) (by decide +kernel)) rfl
theorem gw_236 : (Jvm.Cond.selects "java/lang/String" ({ cls := "java/lang/String", name := "isLatin1", desc := "()Z" } : Jvm.MethodName) ({ cls := "java/lang/String", name := "isLatin1", desc := "()Z" } : Jvm.MethodName)) ∈ gtbl := g_in (List.mem_of_getElem? (i := 292) (by decide +kernel)) rfl
theorem gw_237 : (Jvm.Cond.code ({ cls := "java/lang/String", name := "isLatin1", desc := "()Z" } : Jvm.MethodName) prog_13_method_154_code (1 : Nat) (Option.some Jvm.ClassFile.FieldType.boolean)) ∈ gtbl := g_in (List.mem_of_getElem? (i := 293) (by decide +kernel)) rfl
theorem gw_238 : (Jvm.Cond.methodLink "java/lang/String" (495 : Nat) ({ cls := "java/lang/StringLatin1", name := "charAt", desc := "([BI)C" } : Jvm.MethodName)) ∈ gtbl := g_in (List.mem_of_getElem? (i := 294) (by decide +kernel)) rfl
theorem gw_239 : (Jvm.Cond.static ({ cls := "java/lang/StringLatin1", name := "charAt", desc := "([BI)C" } : Jvm.MethodName)) ∈ gtbl := g_in (List.mem_of_getElem? (i := 295) (by decide +kernel)) rfl
theorem gw_240 : (Jvm.Cond.code ({ cls := "java/lang/StringLatin1", name := "charAt", desc := "([BI)C" } : Jvm.MethodName) prog_14_method_2_code (2 : Nat) (Option.some Jvm.ClassFile.FieldType.char)) ∈ gtbl := g_in (List.mem_of_getElem? (i := 296) (by decide +kernel)) rfl
theorem gw_241 : (Jvm.Cond.methodLink "java/lang/StringLatin1" (9 : Nat) ({ cls := "java/lang/String", name := "checkIndex", desc := "(II)V" } : Jvm.MethodName)) ∈ gtbl := g_in (List.mem_of_getElem? (i := 297) (by decide +kernel)) rfl
theorem gw_242 : (Jvm.Cond.static ({ cls := "java/lang/String", name := "checkIndex", desc := "(II)V" } : Jvm.MethodName)) ∈ gtbl := g_in (List.mem_of_getElem? (i := 298) (by decide +kernel)) rfl
theorem gw_243 : (Jvm.Cond.code ({ cls := "java/lang/String", name := "checkIndex", desc := "(II)V" } : Jvm.MethodName) prog_13_method_155_code (2 : Nat) (Option.none : Option Jvm.ClassFile.FieldType)) ∈ gtbl := g_in (List.mem_of_getElem? (i := 299) (by decide +kernel)) rfl
theorem gw_244 : (Jvm.Cond.fieldLink "java/lang/String" (1053 : Nat) "jdk/internal/util/Preconditions" "SIOOBE_FORMATTER" "Ljava/util/function/BiFunction;") ∈ gtbl := g_in (List.mem_of_getElem? (i := 300) (by decide +kernel)) rfl
theorem gw_246 : (Jvm.Cond.methodLink "java/lang/String" (1059 : Nat) ({ cls := "jdk/internal/util/Preconditions", name := "checkIndex", desc := "(IILjava/util/function/BiFunction;)I" } : Jvm.MethodName)) ∈ gtbl := g_in (List.mem_of_getElem? (i := 302) (by decide +kernel)) rfl
theorem gw_247 : (Jvm.Cond.static ({ cls := "jdk/internal/util/Preconditions", name := "checkIndex", desc := "(IILjava/util/function/BiFunction;)I" } : Jvm.MethodName)) ∈ gtbl := g_in (List.mem_of_getElem? (i := 303) (by decide +kernel)) rfl
theorem gw_248 : (Jvm.Cond.code ({ cls := "jdk/internal/util/Preconditions", name := "checkIndex", desc := "(IILjava/util/function/BiFunction;)I" } : Jvm.MethodName) prog_17_method_11_code (3 : Nat) (Option.some Jvm.ClassFile.FieldType.int)) ∈ gtbl := g_in (List.mem_of_getElem? (i := 304) (by decide +kernel)) rfl
theorem gw_249 : (Jvm.Cond.methodLink "java/lang/String" (498 : Nat) ({ cls := "java/lang/StringUTF16", name := "charAt", desc := "([BI)C" } : Jvm.MethodName)) ∈ gtbl := g_in (List.mem_of_getElem? (i := 305) (by decide +kernel)) rfl
theorem gw_250 : (Jvm.Cond.static ({ cls := "java/lang/StringUTF16", name := "charAt", desc := "([BI)C" } : Jvm.MethodName)) ∈ gtbl := g_in (List.mem_of_getElem? (i := 306) (by decide +kernel)) rfl
theorem gw_251 : (Jvm.Cond.code ({ cls := "java/lang/StringUTF16", name := "charAt", desc := "([BI)C" } : Jvm.MethodName) prog_15_method_83_code (2 : Nat) (Option.some Jvm.ClassFile.FieldType.char)) ∈ gtbl := g_in (List.mem_of_getElem? (i := 307) (by decide +kernel)) rfl
theorem gw_252 : (Jvm.Cond.methodLink "java/lang/StringUTF16" (67 : Nat) ({ cls := "java/lang/StringUTF16", name := "checkIndex", desc := "(I[B)V" } : Jvm.MethodName)) ∈ gtbl := g_in (List.mem_of_getElem? (i := 308) (by decide +kernel)) rfl
theorem gw_253 : (Jvm.Cond.static ({ cls := "java/lang/StringUTF16", name := "checkIndex", desc := "(I[B)V" } : Jvm.MethodName)) ∈ gtbl := g_in (List.mem_of_getElem? (i := 309) (by decide +kernel)) rfl
theorem gw_254 : (Jvm.Cond.code ({ cls := "java/lang/StringUTF16", name := "checkIndex", desc := "(I[B)V" } : Jvm.MethodName) prog_15_method_91_code (2 : Nat) (Option.none : Option Jvm.ClassFile.FieldType)) ∈ gtbl := g_in (List.mem_of_getElem? (i := 310) (by decide +kernel)) rfl
theorem gw_255 : (Jvm.Cond.methodLink "java/lang/StringUTF16" (48 : Nat) ({ cls := "java/lang/StringUTF16", name := "length", desc := "([B)I" } : Jvm.MethodName)) ∈ gtbl := g_in (List.mem_of_getElem? (i := 311) (by decide +kernel)) rfl
theorem gw_256 : (Jvm.Cond.static ({ cls := "java/lang/StringUTF16", name := "length", desc := "([B)I" } : Jvm.MethodName)) ∈ gtbl := g_in (List.mem_of_getElem? (i := 312) (by decide +kernel)) rfl
theorem gw_257 : (Jvm.Cond.code ({ cls := "java/lang/StringUTF16", name := "length", desc := "([B)I" } : Jvm.MethodName) prog_15_method_6_code (1 : Nat) (Option.some Jvm.ClassFile.FieldType.int)) ∈ gtbl := g_in (List.mem_of_getElem? (i := 313) (by decide +kernel)) rfl
theorem gw_258 : (Jvm.Cond.methodLink "java/lang/StringUTF16" (414 : Nat) ({ cls := "java/lang/String", name := "checkIndex", desc := "(II)V" } : Jvm.MethodName)) ∈ gtbl := g_in (List.mem_of_getElem? (i := 314) (by decide +kernel)) rfl
theorem gw_259 : (Jvm.Cond.methodLink "java/lang/StringUTF16" (71 : Nat) ({ cls := "java/lang/StringUTF16", name := "getChar", desc := "([BI)C" } : Jvm.MethodName)) ∈ gtbl := g_in (List.mem_of_getElem? (i := 315) (by decide +kernel)) rfl
theorem gw_260 : (Jvm.Cond.static ({ cls := "java/lang/StringUTF16", name := "getChar", desc := "([BI)C" } : Jvm.MethodName)) ∈ gtbl := g_in (List.mem_of_getElem? (i := 316) (by decide +kernel)) rfl
theorem gw_261 : (Jvm.Cond.code ({ cls := "java/lang/StringUTF16", name := "getChar", desc := "([BI)C" } : Jvm.MethodName) prog_15_method_5_code (2 : Nat) (Option.some Jvm.ClassFile.FieldType.char)) ∈ gtbl := g_in (List.mem_of_getElem? (i := 317) (by decide +kernel)) rfl
theorem gw_262 : (Jvm.Cond.fieldLink "java/lang/StringUTF16" (44 : Nat) "java/lang/StringUTF16" "$assertionsDisabled" "Z") ∈ gtbl := g_in (List.mem_of_getElem? (i := 318) (by decide +kernel)) rfl
theorem gw_264 : (Jvm.Cond.fieldLink "java/lang/StringUTF16" (59 : Nat) "java/lang/StringUTF16" "HI_BYTE_SHIFT" "I") ∈ gtbl := g_in (List.mem_of_getElem? (i := 320) (by decide +kernel)) rfl
theorem gw_266 : (Jvm.Cond.fieldLink "java/lang/StringUTF16" (63 : Nat) "java/lang/StringUTF16" "LO_BYTE_SHIFT" "I") ∈ gtbl := g_in (List.mem_of_getElem? (i := 322) (by decide +kernel)) rfl
theorem gw_268 : (Jvm.Cond.methodLink "DrumMaps" (94 : Nat) ({ cls := "DrumMaps$Text", name := "add", desc := "(I)Z" } : Jvm.MethodName)) ∈ gtbl := g_in (List.mem_of_getElem? (i := 324) (by decide +kernel)) rfl
theorem gw_269 : (Jvm.Cond.instanceMethod ({ cls := "DrumMaps$Text", name := "add", desc := "(I)Z" } : Jvm.MethodName)) ∈ gtbl := g_in (List.mem_of_getElem? (i := 325) (by decide +kernel)) rfl
theorem gw_270 : (Jvm.Cond.selects "DrumMaps$Text" ({ cls := "DrumMaps$Text", name := "add", desc := "(I)Z" } : Jvm.MethodName) ({ cls := "DrumMaps$Text", name := "add", desc := "(I)Z" } : Jvm.MethodName)) ∈ gtbl := g_in (List.mem_of_getElem? (i := 326) (by decide +kernel)) rfl
theorem gw_271 : (Jvm.Cond.code ({ cls := "DrumMaps$Text", name := "add", desc := "(I)Z" } : Jvm.MethodName) prog_7_method_2_code (2 : Nat) (Option.some Jvm.ClassFile.FieldType.boolean)) ∈ gtbl := g_in (List.mem_of_getElem? (i := 327) (by decide +kernel)) rfl
theorem gw_272 : (Jvm.Cond.methodLink "DrumMaps" (98 : Nat) ({ cls := "DrumMaps", name := "layText", desc := "()Z" } : Jvm.MethodName)) ∈ gtbl := g_in (List.mem_of_getElem? (i := 328) (by decide +kernel)) rfl
theorem gw_274 : (Jvm.Cond.instanceMethod ({ cls := "DrumMaps", name := "layText", desc := "()Z" } : Jvm.MethodName)) ∈ gtbl := g_in (List.mem_of_getElem? (i := 330) (by decide +kernel)) rfl
theorem gw_275 : (Jvm.Cond.code ({ cls := "DrumMaps", name := "layText", desc := "()Z" } : Jvm.MethodName) prog_1_method_41_code (1 : Nat) (Option.some Jvm.ClassFile.FieldType.boolean)) ∈ gtbl := g_in (List.mem_of_getElem? (i := 331) (by decide +kernel)) rfl
theorem gw_276 : (Jvm.Cond.methodLink "DrumMaps" (109 : Nat) ({ cls := "DrumMaps$Reader", name := "firstFault", desc := "(LDrumMaps$Text;)I" } : Jvm.MethodName)) ∈ gtbl := g_in (List.mem_of_getElem? (i := 332) (by decide +kernel)) rfl
theorem gw_277 : (Jvm.Cond.instanceMethod ({ cls := "DrumMaps$Reader", name := "firstFault", desc := "(LDrumMaps$Text;)I" } : Jvm.MethodName)) ∈ gtbl := g_in (List.mem_of_getElem? (i := 333) (by decide +kernel)) rfl
theorem gw_278 : (Jvm.Cond.selects "DrumMaps$Reader" ({ cls := "DrumMaps$Reader", name := "firstFault", desc := "(LDrumMaps$Text;)I" } : Jvm.MethodName) ({ cls := "DrumMaps$Reader", name := "firstFault", desc := "(LDrumMaps$Text;)I" } : Jvm.MethodName)) ∈ gtbl := g_in (List.mem_of_getElem? (i := 334) (by decide +kernel)) rfl
theorem gw_279 : (Jvm.Cond.code ({ cls := "DrumMaps$Reader", name := "firstFault", desc := "(LDrumMaps$Text;)I" } : Jvm.MethodName) prog_4_method_2_code (5 : Nat) (Option.some Jvm.ClassFile.FieldType.int)) ∈ gtbl := g_in (List.mem_of_getElem? (i := 335) (by decide +kernel)) rfl
theorem gw_280 : (Jvm.Cond.methodLink "DrumMaps$Reader" (34 : Nat) ({ cls := "DrumMaps$Land", name := "clear", desc := "()V" } : Jvm.MethodName)) ∈ gtbl := g_in (List.mem_of_getElem? (i := 336) (by decide +kernel)) rfl
theorem gw_281 : (Jvm.Cond.instanceMethod ({ cls := "DrumMaps$Land", name := "clear", desc := "()V" } : Jvm.MethodName)) ∈ gtbl := g_in (List.mem_of_getElem? (i := 337) (by decide +kernel)) rfl
theorem gw_282 : (Jvm.Cond.selects "DrumMaps$Land" ({ cls := "DrumMaps$Land", name := "clear", desc := "()V" } : Jvm.MethodName) ({ cls := "DrumMaps$Land", name := "clear", desc := "()V" } : Jvm.MethodName)) ∈ gtbl := g_in (List.mem_of_getElem? (i := 338) (by decide +kernel)) rfl
theorem gw_283 : (Jvm.Cond.code ({ cls := "DrumMaps$Land", name := "clear", desc := "()V" } : Jvm.MethodName) prog_3_method_5_code (1 : Nat) (Option.none : Option Jvm.ClassFile.FieldType)) ∈ gtbl := g_in (List.mem_of_getElem? (i := 339) (by decide +kernel)) rfl
theorem gw_284 : (Jvm.Cond.methodLink "DrumMaps$Reader" (37 : Nat) ({ cls := "DrumMaps$Forest", name := "clear", desc := "()V" } : Jvm.MethodName)) ∈ gtbl := g_in (List.mem_of_getElem? (i := 340) (by decide +kernel)) rfl
theorem gw_285 : (Jvm.Cond.instanceMethod ({ cls := "DrumMaps$Forest", name := "clear", desc := "()V" } : Jvm.MethodName)) ∈ gtbl := g_in (List.mem_of_getElem? (i := 341) (by decide +kernel)) rfl
theorem gw_286 : (Jvm.Cond.selects "DrumMaps$Forest" ({ cls := "DrumMaps$Forest", name := "clear", desc := "()V" } : Jvm.MethodName) ({ cls := "DrumMaps$Forest", name := "clear", desc := "()V" } : Jvm.MethodName)) ∈ gtbl := g_in (List.mem_of_getElem? (i := 342) (by decide +kernel)) rfl
theorem gw_287 : (Jvm.Cond.code ({ cls := "DrumMaps$Forest", name := "clear", desc := "()V" } : Jvm.MethodName) prog_2_method_3_code (1 : Nat) (Option.none : Option Jvm.ClassFile.FieldType)) ∈ gtbl := g_in (List.mem_of_getElem? (i := 343) (by decide +kernel)) rfl
theorem gw_288 : (Jvm.Cond.methodLink "DrumMaps$Forest" (27 : Nat) ({ cls := "DrumMaps$Row", name := "fill", desc := "(I)V" } : Jvm.MethodName)) ∈ gtbl := g_in (List.mem_of_getElem? (i := 344) (by decide +kernel)) rfl
theorem gw_289 : (Jvm.Cond.instanceMethod ({ cls := "DrumMaps$Row", name := "fill", desc := "(I)V" } : Jvm.MethodName)) ∈ gtbl := g_in (List.mem_of_getElem? (i := 345) (by decide +kernel)) rfl
theorem gw_290 : (Jvm.Cond.selects "DrumMaps$Row" ({ cls := "DrumMaps$Row", name := "fill", desc := "(I)V" } : Jvm.MethodName) ({ cls := "DrumMaps$Row", name := "fill", desc := "(I)V" } : Jvm.MethodName)) ∈ gtbl := g_in (List.mem_of_getElem? (i := 346) (by decide +kernel)) rfl
theorem gw_291 : (Jvm.Cond.code ({ cls := "DrumMaps$Row", name := "fill", desc := "(I)V" } : Jvm.MethodName) prog_5_method_4_code (3 : Nat) (Option.none : Option Jvm.ClassFile.FieldType)) ∈ gtbl := g_in (List.mem_of_getElem? (i := 347) (by decide +kernel)) rfl
theorem gw_292 : (Jvm.Cond.methodLink "DrumMaps$Reader" (44 : Nat) ({ cls := "DrumMaps$Reader", name := "readItem", desc := "(LDrumMaps$Text;I)I" } : Jvm.MethodName)) ∈ gtbl := g_in (List.mem_of_getElem? (i := 348) (by decide +kernel)) rfl
theorem gw_294 : (Jvm.Cond.instanceMethod ({ cls := "DrumMaps$Reader", name := "readItem", desc := "(LDrumMaps$Text;I)I" } : Jvm.MethodName)) ∈ gtbl := g_in (List.mem_of_getElem? (i := 350) (by decide +kernel)) rfl
theorem gw_295 : (Jvm.Cond.code ({ cls := "DrumMaps$Reader", name := "readItem", desc := "(LDrumMaps$Text;I)I" } : Jvm.MethodName) prog_4_method_3_code (3 : Nat) (Option.some Jvm.ClassFile.FieldType.int)) ∈ gtbl := g_in (List.mem_of_getElem? (i := 351) (by decide +kernel)) rfl
theorem gw_296 : (Jvm.Cond.methodLink "DrumMaps$Reader" (48 : Nat) ({ cls := "DrumMaps$Text", name := "letterAt", desc := "(I)I" } : Jvm.MethodName)) ∈ gtbl := g_in (List.mem_of_getElem? (i := 352) (by decide +kernel)) rfl
theorem gw_297 : (Jvm.Cond.instanceMethod ({ cls := "DrumMaps$Text", name := "letterAt", desc := "(I)I" } : Jvm.MethodName)) ∈ gtbl := g_in (List.mem_of_getElem? (i := 353) (by decide +kernel)) rfl
theorem gw_298 : (Jvm.Cond.selects "DrumMaps$Text" ({ cls := "DrumMaps$Text", name := "letterAt", desc := "(I)I" } : Jvm.MethodName) ({ cls := "DrumMaps$Text", name := "letterAt", desc := "(I)I" } : Jvm.MethodName)) ∈ gtbl := g_in (List.mem_of_getElem? (i := 354) (by decide +kernel)) rfl
theorem gw_299 : (Jvm.Cond.code ({ cls := "DrumMaps$Text", name := "letterAt", desc := "(I)I" } : Jvm.MethodName) prog_7_method_3_code (2 : Nat) (Option.some Jvm.ClassFile.FieldType.int)) ∈ gtbl := g_in (List.mem_of_getElem? (i := 355) (by decide +kernel)) rfl
theorem gw_300 : (Jvm.Cond.methodLink "DrumMaps$Reader" (52 : Nat) ({ cls := "DrumMaps$Reader", name := "readRow", desc := "(LDrumMaps$Text;I)I" } : Jvm.MethodName)) ∈ gtbl := g_in (List.mem_of_getElem? (i := 356) (by decide +kernel)) rfl
theorem gw_302 : (Jvm.Cond.instanceMethod ({ cls := "DrumMaps$Reader", name := "readRow", desc := "(LDrumMaps$Text;I)I" } : Jvm.MethodName)) ∈ gtbl := g_in (List.mem_of_getElem? (i := 358) (by decide +kernel)) rfl
theorem gw_303 : (Jvm.Cond.code ({ cls := "DrumMaps$Reader", name := "readRow", desc := "(LDrumMaps$Text;I)I" } : Jvm.MethodName) prog_4_method_4_code (5 : Nat) (Option.some Jvm.ClassFile.FieldType.int)) ∈ gtbl := g_in (List.mem_of_getElem? (i := 359) (by decide +kernel)) rfl
theorem gw_305 : (Jvm.Cond.static ({ cls := "DrumMaps", name := "figureOf", desc := "(I)I" } : Jvm.MethodName)) ∈ gtbl := g_in (List.mem_of_getElem? (i := 361) (by decide +kernel)) rfl
theorem gw_306 : (Jvm.Cond.code ({ cls := "DrumMaps", name := "figureOf", desc := "(I)I" } : Jvm.MethodName) prog_1_method_36_code (1 : Nat) (Option.some Jvm.ClassFile.FieldType.int)) ∈ gtbl := g_in (List.mem_of_getElem? (i := 362) (by decide +kernel)) rfl
theorem gw_308 : (Jvm.Cond.static ({ cls := "DrumMaps", name := "within", desc := "(III)Z" } : Jvm.MethodName)) ∈ gtbl := g_in (List.mem_of_getElem? (i := 364) (by decide +kernel)) rfl
theorem gw_309 : (Jvm.Cond.code ({ cls := "DrumMaps", name := "within", desc := "(III)Z" } : Jvm.MethodName) prog_1_method_35_code (3 : Nat) (Option.some Jvm.ClassFile.FieldType.boolean)) ∈ gtbl := g_in (List.mem_of_getElem? (i := 365) (by decide +kernel)) rfl
theorem gw_310 : (Jvm.Cond.methodLink "DrumMaps$Reader" (80 : Nat) ({ cls := "DrumMaps$Row", name := "put", desc := "(II)V" } : Jvm.MethodName)) ∈ gtbl := g_in (List.mem_of_getElem? (i := 366) (by decide +kernel)) rfl
theorem gw_311 : (Jvm.Cond.instanceMethod ({ cls := "DrumMaps$Row", name := "put", desc := "(II)V" } : Jvm.MethodName)) ∈ gtbl := g_in (List.mem_of_getElem? (i := 367) (by decide +kernel)) rfl
theorem gw_312 : (Jvm.Cond.selects "DrumMaps$Row" ({ cls := "DrumMaps$Row", name := "put", desc := "(II)V" } : Jvm.MethodName) ({ cls := "DrumMaps$Row", name := "put", desc := "(II)V" } : Jvm.MethodName)) ∈ gtbl := g_in (List.mem_of_getElem? (i := 368) (by decide +kernel)) rfl
theorem gw_313 : (Jvm.Cond.code ({ cls := "DrumMaps$Row", name := "put", desc := "(II)V" } : Jvm.MethodName) prog_5_method_3_code (3 : Nat) (Option.none : Option Jvm.ClassFile.FieldType)) ∈ gtbl := g_in (List.mem_of_getElem? (i := 369) (by decide +kernel)) rfl
theorem gw_314 : (Jvm.Cond.methodLink "DrumMaps$Reader" (55 : Nat) ({ cls := "DrumMaps$Reader", name := "readDrum", desc := "(LDrumMaps$Text;I)I" } : Jvm.MethodName)) ∈ gtbl := g_in (List.mem_of_getElem? (i := 370) (by decide +kernel)) rfl
theorem gw_316 : (Jvm.Cond.instanceMethod ({ cls := "DrumMaps$Reader", name := "readDrum", desc := "(LDrumMaps$Text;I)I" } : Jvm.MethodName)) ∈ gtbl := g_in (List.mem_of_getElem? (i := 372) (by decide +kernel)) rfl
theorem gw_317 : (Jvm.Cond.code ({ cls := "DrumMaps$Reader", name := "readDrum", desc := "(LDrumMaps$Text;I)I" } : Jvm.MethodName) prog_4_method_5_code (5 : Nat) (Option.some Jvm.ClassFile.FieldType.int)) ∈ gtbl := g_in (List.mem_of_getElem? (i := 373) (by decide +kernel)) rfl
theorem gw_318 : (Jvm.Cond.methodLink "DrumMaps$Reader" (90 : Nat) ({ cls := "DrumMaps$Reader", name := "readNumbers", desc := "(LDrumMaps$Text;II)I" } : Jvm.MethodName)) ∈ gtbl := g_in (List.mem_of_getElem? (i := 374) (by decide +kernel)) rfl
theorem gw_320 : (Jvm.Cond.instanceMethod ({ cls := "DrumMaps$Reader", name := "readNumbers", desc := "(LDrumMaps$Text;II)I" } : Jvm.MethodName)) ∈ gtbl := g_in (List.mem_of_getElem? (i := 376) (by decide +kernel)) rfl
theorem gw_321 : (Jvm.Cond.code ({ cls := "DrumMaps$Reader", name := "readNumbers", desc := "(LDrumMaps$Text;II)I" } : Jvm.MethodName) prog_4_method_9_code (8 : Nat) (Option.some Jvm.ClassFile.FieldType.int)) ∈ gtbl := g_in (List.mem_of_getElem? (i := 377) (by decide +kernel)) rfl
theorem gw_322 : (Jvm.Cond.methodLink "DrumMaps$Reader" (94 : Nat) ({ cls := "DrumMaps$Row", name := "at", desc := "(I)I" } : Jvm.MethodName)) ∈ gtbl := g_in (List.mem_of_getElem? (i := 378) (by decide +kernel)) rfl
theorem gw_323 : (Jvm.Cond.instanceMethod ({ cls := "DrumMaps$Row", name := "at", desc := "(I)I" } : Jvm.MethodName)) ∈ gtbl := g_in (List.mem_of_getElem? (i := 379) (by decide +kernel)) rfl
theorem gw_324 : (Jvm.Cond.selects "DrumMaps$Row" ({ cls := "DrumMaps$Row", name := "at", desc := "(I)I" } : Jvm.MethodName) ({ cls := "DrumMaps$Row", name := "at", desc := "(I)I" } : Jvm.MethodName)) ∈ gtbl := g_in (List.mem_of_getElem? (i := 380) (by decide +kernel)) rfl
theorem gw_325 : (Jvm.Cond.code ({ cls := "DrumMaps$Row", name := "at", desc := "(I)I" } : Jvm.MethodName) prog_5_method_2_code (2 : Nat) (Option.some Jvm.ClassFile.FieldType.int)) ∈ gtbl := g_in (List.mem_of_getElem? (i := 381) (by decide +kernel)) rfl
theorem gw_326 : (Jvm.Cond.methodLink "DrumMaps$Reader" (58 : Nat) ({ cls := "DrumMaps$Reader", name := "readTold", desc := "(LDrumMaps$Text;I)I" } : Jvm.MethodName)) ∈ gtbl := g_in (List.mem_of_getElem? (i := 382) (by decide +kernel)) rfl
theorem gw_328 : (Jvm.Cond.instanceMethod ({ cls := "DrumMaps$Reader", name := "readTold", desc := "(LDrumMaps$Text;I)I" } : Jvm.MethodName)) ∈ gtbl := g_in (List.mem_of_getElem? (i := 384) (by decide +kernel)) rfl
theorem gw_329 : (Jvm.Cond.code ({ cls := "DrumMaps$Reader", name := "readTold", desc := "(LDrumMaps$Text;I)I" } : Jvm.MethodName) prog_4_method_6_code (7 : Nat) (Option.some Jvm.ClassFile.FieldType.int)) ∈ gtbl := g_in (List.mem_of_getElem? (i := 385) (by decide +kernel)) rfl
theorem gw_330 : (Jvm.Cond.methodLink "DrumMaps$Reader" (103 : Nat) ({ cls := "DrumMaps$Land", name := "hasDrum", desc := "(I)Z" } : Jvm.MethodName)) ∈ gtbl := g_in (List.mem_of_getElem? (i := 386) (by decide +kernel)) rfl
theorem gw_331 : (Jvm.Cond.instanceMethod ({ cls := "DrumMaps$Land", name := "hasDrum", desc := "(I)Z" } : Jvm.MethodName)) ∈ gtbl := g_in (List.mem_of_getElem? (i := 387) (by decide +kernel)) rfl
theorem gw_332 : (Jvm.Cond.selects "DrumMaps$Land" ({ cls := "DrumMaps$Land", name := "hasDrum", desc := "(I)Z" } : Jvm.MethodName) ({ cls := "DrumMaps$Land", name := "hasDrum", desc := "(I)Z" } : Jvm.MethodName)) ∈ gtbl := g_in (List.mem_of_getElem? (i := 388) (by decide +kernel)) rfl
theorem gw_333 : (Jvm.Cond.code ({ cls := "DrumMaps$Land", name := "hasDrum", desc := "(I)Z" } : Jvm.MethodName) prog_3_method_3_code (2 : Nat) (Option.some Jvm.ClassFile.FieldType.boolean)) ∈ gtbl := g_in (List.mem_of_getElem? (i := 389) (by decide +kernel)) rfl
theorem gw_334 : (Jvm.Cond.methodLink "DrumMaps$Reader" (107 : Nat) ({ cls := "DrumMaps$Land", name := "hasPlace", desc := "(I)Z" } : Jvm.MethodName)) ∈ gtbl := g_in (List.mem_of_getElem? (i := 390) (by decide +kernel)) rfl
theorem gw_335 : (Jvm.Cond.instanceMethod ({ cls := "DrumMaps$Land", name := "hasPlace", desc := "(I)Z" } : Jvm.MethodName)) ∈ gtbl := g_in (List.mem_of_getElem? (i := 391) (by decide +kernel)) rfl
theorem gw_336 : (Jvm.Cond.selects "DrumMaps$Land" ({ cls := "DrumMaps$Land", name := "hasPlace", desc := "(I)Z" } : Jvm.MethodName) ({ cls := "DrumMaps$Land", name := "hasPlace", desc := "(I)Z" } : Jvm.MethodName)) ∈ gtbl := g_in (List.mem_of_getElem? (i := 392) (by decide +kernel)) rfl
theorem gw_337 : (Jvm.Cond.code ({ cls := "DrumMaps$Land", name := "hasPlace", desc := "(I)Z" } : Jvm.MethodName) prog_3_method_2_code (2 : Nat) (Option.some Jvm.ClassFile.FieldType.boolean)) ∈ gtbl := g_in (List.mem_of_getElem? (i := 393) (by decide +kernel)) rfl
theorem gw_338 : (Jvm.Cond.methodLink "DrumMaps$Reader" (110 : Nat) ({ cls := "DrumMaps$Forest", name := "setTold", desc := "(III)V" } : Jvm.MethodName)) ∈ gtbl := g_in (List.mem_of_getElem? (i := 394) (by decide +kernel)) rfl
theorem gw_339 : (Jvm.Cond.instanceMethod ({ cls := "DrumMaps$Forest", name := "setTold", desc := "(III)V" } : Jvm.MethodName)) ∈ gtbl := g_in (List.mem_of_getElem? (i := 395) (by decide +kernel)) rfl
theorem gw_340 : (Jvm.Cond.selects "DrumMaps$Forest" ({ cls := "DrumMaps$Forest", name := "setTold", desc := "(III)V" } : Jvm.MethodName) ({ cls := "DrumMaps$Forest", name := "setTold", desc := "(III)V" } : Jvm.MethodName)) ∈ gtbl := g_in (List.mem_of_getElem? (i := 396) (by decide +kernel)) rfl
theorem gw_341 : (Jvm.Cond.code ({ cls := "DrumMaps$Forest", name := "setTold", desc := "(III)V" } : Jvm.MethodName) prog_2_method_4_code (4 : Nat) (Option.none : Option Jvm.ClassFile.FieldType)) ∈ gtbl := g_in (List.mem_of_getElem? (i := 397) (by decide +kernel)) rfl
theorem gw_342 : (Jvm.Cond.methodLink "DrumMaps$Forest" (37 : Nat) ({ cls := "DrumMaps$Row", name := "put", desc := "(II)V" } : Jvm.MethodName)) ∈ gtbl := g_in (List.mem_of_getElem? (i := 398) (by decide +kernel)) rfl
theorem gw_343 : (Jvm.Cond.methodLink "DrumMaps$Reader" (61 : Nat) ({ cls := "DrumMaps$Reader", name := "readTraveller", desc := "(LDrumMaps$Text;I)I" } : Jvm.MethodName)) ∈ gtbl := g_in (List.mem_of_getElem? (i := 399) (by decide +kernel)) rfl
theorem gw_345 : (Jvm.Cond.instanceMethod ({ cls := "DrumMaps$Reader", name := "readTraveller", desc := "(LDrumMaps$Text;I)I" } : Jvm.MethodName)) ∈ gtbl := g_in (List.mem_of_getElem? (i := 401) (by decide +kernel)) rfl
theorem gw_346 : (Jvm.Cond.code ({ cls := "DrumMaps$Reader", name := "readTraveller", desc := "(LDrumMaps$Text;I)I" } : Jvm.MethodName) prog_4_method_7_code (7 : Nat) (Option.some Jvm.ClassFile.FieldType.int)) ∈ gtbl := g_in (List.mem_of_getElem? (i := 402) (by decide +kernel)) rfl
theorem gw_347 : (Jvm.Cond.methodLink "DrumMaps$Reader" (117 : Nat) ({ cls := "DrumMaps$Forest", name := "who", desc := "(I)LDrumMaps$Traveller;" } : Jvm.MethodName)) ∈ gtbl := g_in (List.mem_of_getElem? (i := 403) (by decide +kernel)) rfl
theorem gw_348 : (Jvm.Cond.instanceMethod ({ cls := "DrumMaps$Forest", name := "who", desc := "(I)LDrumMaps$Traveller;" } : Jvm.MethodName)) ∈ gtbl := g_in (List.mem_of_getElem? (i := 404) (by decide +kernel)) rfl
theorem gw_349 : (Jvm.Cond.selects "DrumMaps$Forest" ({ cls := "DrumMaps$Forest", name := "who", desc := "(I)LDrumMaps$Traveller;" } : Jvm.MethodName) ({ cls := "DrumMaps$Forest", name := "who", desc := "(I)LDrumMaps$Traveller;" } : Jvm.MethodName)) ∈ gtbl := g_in (List.mem_of_getElem? (i := 405) (by decide +kernel)) rfl
theorem gw_350 : (Jvm.Cond.code ({ cls := "DrumMaps$Forest", name := "who", desc := "(I)LDrumMaps$Traveller;" } : Jvm.MethodName) prog_2_method_2_code (2 : Nat) (Option.some (Jvm.ClassFile.FieldType.object "DrumMaps$Traveller"))) ∈ gtbl := g_in (List.mem_of_getElem? (i := 406) (by decide +kernel)) rfl
theorem gw_351 : (Jvm.Cond.methodLink "DrumMaps$Reader" (121 : Nat) ({ cls := "DrumMaps$Traveller", name := "start", desc := "(III)V" } : Jvm.MethodName)) ∈ gtbl := g_in (List.mem_of_getElem? (i := 407) (by decide +kernel)) rfl
theorem gw_352 : (Jvm.Cond.instanceMethod ({ cls := "DrumMaps$Traveller", name := "start", desc := "(III)V" } : Jvm.MethodName)) ∈ gtbl := g_in (List.mem_of_getElem? (i := 408) (by decide +kernel)) rfl
theorem gw_353 : (Jvm.Cond.selects "DrumMaps$Traveller" ({ cls := "DrumMaps$Traveller", name := "start", desc := "(III)V" } : Jvm.MethodName) ({ cls := "DrumMaps$Traveller", name := "start", desc := "(III)V" } : Jvm.MethodName)) ∈ gtbl := g_in (List.mem_of_getElem? (i := 409) (by decide +kernel)) rfl
theorem gw_354 : (Jvm.Cond.code ({ cls := "DrumMaps$Traveller", name := "start", desc := "(III)V" } : Jvm.MethodName) prog_8_method_2_code (4 : Nat) (Option.none : Option Jvm.ClassFile.FieldType)) ∈ gtbl := g_in (List.mem_of_getElem? (i := 410) (by decide +kernel)) rfl
theorem gw_355 : (Jvm.Cond.methodLink "DrumMaps$Traveller" (24 : Nat) ({ cls := "DrumMaps$Traveller", name := "goTo", desc := "(I)V" } : Jvm.MethodName)) ∈ gtbl := g_in (List.mem_of_getElem? (i := 411) (by decide +kernel)) rfl
theorem gw_356 : (Jvm.Cond.instanceMethod ({ cls := "DrumMaps$Traveller", name := "goTo", desc := "(I)V" } : Jvm.MethodName)) ∈ gtbl := g_in (List.mem_of_getElem? (i := 412) (by decide +kernel)) rfl
theorem gw_357 : (Jvm.Cond.selects "DrumMaps$Traveller" ({ cls := "DrumMaps$Traveller", name := "goTo", desc := "(I)V" } : Jvm.MethodName) ({ cls := "DrumMaps$Traveller", name := "goTo", desc := "(I)V" } : Jvm.MethodName)) ∈ gtbl := g_in (List.mem_of_getElem? (i := 413) (by decide +kernel)) rfl
theorem gw_358 : (Jvm.Cond.code ({ cls := "DrumMaps$Traveller", name := "goTo", desc := "(I)V" } : Jvm.MethodName) prog_8_method_3_code (2 : Nat) (Option.none : Option Jvm.ClassFile.FieldType)) ∈ gtbl := g_in (List.mem_of_getElem? (i := 414) (by decide +kernel)) rfl
theorem gw_359 : (Jvm.Cond.methodLink "DrumMaps$Reader" (64 : Nat) ({ cls := "DrumMaps$Reader", name := "readWet", desc := "(LDrumMaps$Text;I)I" } : Jvm.MethodName)) ∈ gtbl := g_in (List.mem_of_getElem? (i := 415) (by decide +kernel)) rfl
theorem gw_361 : (Jvm.Cond.instanceMethod ({ cls := "DrumMaps$Reader", name := "readWet", desc := "(LDrumMaps$Text;I)I" } : Jvm.MethodName)) ∈ gtbl := g_in (List.mem_of_getElem? (i := 417) (by decide +kernel)) rfl
theorem gw_362 : (Jvm.Cond.code ({ cls := "DrumMaps$Reader", name := "readWet", desc := "(LDrumMaps$Text;I)I" } : Jvm.MethodName) prog_4_method_8_code (4 : Nat) (Option.some Jvm.ClassFile.FieldType.int)) ∈ gtbl := g_in (List.mem_of_getElem? (i := 418) (by decide +kernel)) rfl
theorem gw_363 : (Jvm.Cond.methodLink "DrumMaps" (286 : Nat) ({ cls := "DrumMaps$Land", name := "copyFrom", desc := "(LDrumMaps$Land;)V" } : Jvm.MethodName)) ∈ gtbl := g_in (List.mem_of_getElem? (i := 419) (by decide +kernel)) rfl
theorem gw_364 : (Jvm.Cond.instanceMethod ({ cls := "DrumMaps$Land", name := "copyFrom", desc := "(LDrumMaps$Land;)V" } : Jvm.MethodName)) ∈ gtbl := g_in (List.mem_of_getElem? (i := 420) (by decide +kernel)) rfl
theorem gw_365 : (Jvm.Cond.selects "DrumMaps$Land" ({ cls := "DrumMaps$Land", name := "copyFrom", desc := "(LDrumMaps$Land;)V" } : Jvm.MethodName) ({ cls := "DrumMaps$Land", name := "copyFrom", desc := "(LDrumMaps$Land;)V" } : Jvm.MethodName)) ∈ gtbl := g_in (List.mem_of_getElem? (i := 421) (by decide +kernel)) rfl
theorem gw_366 : (Jvm.Cond.code ({ cls := "DrumMaps$Land", name := "copyFrom", desc := "(LDrumMaps$Land;)V" } : Jvm.MethodName) prog_3_method_6_code (2 : Nat) (Option.none : Option Jvm.ClassFile.FieldType)) ∈ gtbl := g_in (List.mem_of_getElem? (i := 422) (by decide +kernel)) rfl
theorem gw_367 : (Jvm.Cond.methodLink "DrumMaps$Land" (42 : Nat) ({ cls := "DrumMaps$Row", name := "copyFrom", desc := "(LDrumMaps$Row;)V" } : Jvm.MethodName)) ∈ gtbl := g_in (List.mem_of_getElem? (i := 423) (by decide +kernel)) rfl
theorem gw_368 : (Jvm.Cond.instanceMethod ({ cls := "DrumMaps$Row", name := "copyFrom", desc := "(LDrumMaps$Row;)V" } : Jvm.MethodName)) ∈ gtbl := g_in (List.mem_of_getElem? (i := 424) (by decide +kernel)) rfl
theorem gw_369 : (Jvm.Cond.selects "DrumMaps$Row" ({ cls := "DrumMaps$Row", name := "copyFrom", desc := "(LDrumMaps$Row;)V" } : Jvm.MethodName) ({ cls := "DrumMaps$Row", name := "copyFrom", desc := "(LDrumMaps$Row;)V" } : Jvm.MethodName)) ∈ gtbl := g_in (List.mem_of_getElem? (i := 425) (by decide +kernel)) rfl
theorem gw_370 : (Jvm.Cond.code ({ cls := "DrumMaps$Row", name := "copyFrom", desc := "(LDrumMaps$Row;)V" } : Jvm.MethodName) prog_5_method_5_code (2 : Nat) (Option.none : Option Jvm.ClassFile.FieldType)) ∈ gtbl := g_in (List.mem_of_getElem? (i := 426) (by decide +kernel)) rfl
theorem gw_371 : (Jvm.Cond.methodLink "DrumMaps$Row" (13 : Nat) ({ cls := "java/lang/Math", name := "min", desc := "(II)I" } : Jvm.MethodName)) ∈ gtbl := g_in (List.mem_of_getElem? (i := 427) (by decide +kernel)) rfl
theorem gw_372 : (Jvm.Cond.static ({ cls := "java/lang/Math", name := "min", desc := "(II)I" } : Jvm.MethodName)) ∈ gtbl := g_in (List.mem_of_getElem? (i := 428) (by decide +kernel)) rfl
theorem gw_373 : (Jvm.Cond.code ({ cls := "java/lang/Math", name := "min", desc := "(II)I" } : Jvm.MethodName) prog_12_method_69_code (2 : Nat) (Option.some Jvm.ClassFile.FieldType.int)) ∈ gtbl := g_in (List.mem_of_getElem? (i := 429) (by decide +kernel)) rfl
theorem gw_374 : (Jvm.Cond.methodLink "DrumMaps$Row" (19 : Nat) ({ cls := "java/lang/System", name := "arraycopy", desc := "(Ljava/lang/Object;ILjava/lang/Object;II)V" } : Jvm.MethodName)) ∈ gtbl := g_in (List.mem_of_getElem? (i := 430) (by decide +kernel)) rfl
theorem gw_375 : (Jvm.Cond.static ({ cls := "java/lang/System", name := "arraycopy", desc := "(Ljava/lang/Object;ILjava/lang/Object;II)V" } : Jvm.MethodName)) ∈ gtbl := g_in (List.mem_of_getElem? (i := 431) (by decide +kernel)) rfl
theorem gw_377 : (Jvm.Cond.methodLink "DrumMaps" (289 : Nat) ({ cls := "DrumMaps$Land", name := "linkPlaces", desc := "()V" } : Jvm.MethodName)) ∈ gtbl := g_in (List.mem_of_getElem? (i := 433) (by decide +kernel)) rfl
theorem gw_378 : (Jvm.Cond.instanceMethod ({ cls := "DrumMaps$Land", name := "linkPlaces", desc := "()V" } : Jvm.MethodName)) ∈ gtbl := g_in (List.mem_of_getElem? (i := 434) (by decide +kernel)) rfl
theorem gw_379 : (Jvm.Cond.selects "DrumMaps$Land" ({ cls := "DrumMaps$Land", name := "linkPlaces", desc := "()V" } : Jvm.MethodName) ({ cls := "DrumMaps$Land", name := "linkPlaces", desc := "()V" } : Jvm.MethodName)) ∈ gtbl := g_in (List.mem_of_getElem? (i := 435) (by decide +kernel)) rfl
theorem gw_380 : (Jvm.Cond.code ({ cls := "DrumMaps$Land", name := "linkPlaces", desc := "()V" } : Jvm.MethodName) prog_3_method_7_code (3 : Nat) (Option.none : Option Jvm.ClassFile.FieldType)) ∈ gtbl := g_in (List.mem_of_getElem? (i := 436) (by decide +kernel)) rfl
theorem gw_382 : (Jvm.Cond.static ({ cls := "DrumMaps", name := "modulo", desc := "(II)I" } : Jvm.MethodName)) ∈ gtbl := g_in (List.mem_of_getElem? (i := 438) (by decide +kernel)) rfl
theorem gw_383 : (Jvm.Cond.code ({ cls := "DrumMaps", name := "modulo", desc := "(II)I" } : Jvm.MethodName) prog_1_method_37_code (2 : Nat) (Option.some Jvm.ClassFile.FieldType.int)) ∈ gtbl := g_in (List.mem_of_getElem? (i := 439) (by decide +kernel)) rfl
theorem gw_384 : (Jvm.Cond.methodLink "DrumMaps$Land" (50 : Nat) ({ cls := "DrumMaps$Row", name := "put", desc := "(II)V" } : Jvm.MethodName)) ∈ gtbl := g_in (List.mem_of_getElem? (i := 440) (by decide +kernel)) rfl
theorem gw_385 : (Jvm.Cond.methodLink "DrumMaps" (232 : Nat) ({ cls := "DrumMaps$Forest", name := "copyFrom", desc := "(LDrumMaps$Forest;)V" } : Jvm.MethodName)) ∈ gtbl := g_in (List.mem_of_getElem? (i := 441) (by decide +kernel)) rfl
theorem gw_386 : (Jvm.Cond.instanceMethod ({ cls := "DrumMaps$Forest", name := "copyFrom", desc := "(LDrumMaps$Forest;)V" } : Jvm.MethodName)) ∈ gtbl := g_in (List.mem_of_getElem? (i := 442) (by decide +kernel)) rfl
theorem gw_387 : (Jvm.Cond.selects "DrumMaps$Forest" ({ cls := "DrumMaps$Forest", name := "copyFrom", desc := "(LDrumMaps$Forest;)V" } : Jvm.MethodName) ({ cls := "DrumMaps$Forest", name := "copyFrom", desc := "(LDrumMaps$Forest;)V" } : Jvm.MethodName)) ∈ gtbl := g_in (List.mem_of_getElem? (i := 443) (by decide +kernel)) rfl
theorem gw_388 : (Jvm.Cond.code ({ cls := "DrumMaps$Forest", name := "copyFrom", desc := "(LDrumMaps$Forest;)V" } : Jvm.MethodName) prog_2_method_8_code (3 : Nat) (Option.none : Option Jvm.ClassFile.FieldType)) ∈ gtbl := g_in (List.mem_of_getElem? (i := 444) (by decide +kernel)) rfl
theorem gw_389 : (Jvm.Cond.methodLink "DrumMaps$Forest" (66 : Nat) ({ cls := "DrumMaps$Row", name := "copyFrom", desc := "(LDrumMaps$Row;)V" } : Jvm.MethodName)) ∈ gtbl := g_in (List.mem_of_getElem? (i := 445) (by decide +kernel)) rfl
theorem gw_390 : (Jvm.Cond.methodLink "DrumMaps$Forest" (59 : Nat) ({ cls := "DrumMaps$Forest", name := "who", desc := "(I)LDrumMaps$Traveller;" } : Jvm.MethodName)) ∈ gtbl := g_in (List.mem_of_getElem? (i := 446) (by decide +kernel)) rfl
theorem gw_391 : (Jvm.Cond.methodLink "DrumMaps$Forest" (70 : Nat) ({ cls := "DrumMaps$Traveller", name := "copyFrom", desc := "(LDrumMaps$Traveller;)V" } : Jvm.MethodName)) ∈ gtbl := g_in (List.mem_of_getElem? (i := 447) (by decide +kernel)) rfl
theorem gw_392 : (Jvm.Cond.instanceMethod ({ cls := "DrumMaps$Traveller", name := "copyFrom", desc := "(LDrumMaps$Traveller;)V" } : Jvm.MethodName)) ∈ gtbl := g_in (List.mem_of_getElem? (i := 448) (by decide +kernel)) rfl
theorem gw_393 : (Jvm.Cond.selects "DrumMaps$Traveller" ({ cls := "DrumMaps$Traveller", name := "copyFrom", desc := "(LDrumMaps$Traveller;)V" } : Jvm.MethodName) ({ cls := "DrumMaps$Traveller", name := "copyFrom", desc := "(LDrumMaps$Traveller;)V" } : Jvm.MethodName)) ∈ gtbl := g_in (List.mem_of_getElem? (i := 449) (by decide +kernel)) rfl
theorem gw_394 : (Jvm.Cond.code ({ cls := "DrumMaps$Traveller", name := "copyFrom", desc := "(LDrumMaps$Traveller;)V" } : Jvm.MethodName) prog_8_method_8_code (2 : Nat) (Option.none : Option Jvm.ClassFile.FieldType)) ∈ gtbl := g_in (List.mem_of_getElem? (i := 450) (by decide +kernel)) rfl
theorem gw_395 : (Jvm.Cond.fieldLink "DrumMaps" (10 : Nat) "DrumMaps" "text" "LDrumMaps$Text;") ∈ gtbl := g_in (List.mem_of_getElem? (i := 451) (by decide +kernel)) rfl
theorem gw_396 : (Jvm.Cond.fieldLink "DrumMaps" (19 : Nat) "DrumMaps" "reader" "LDrumMaps$Reader;") ∈ gtbl := g_in (List.mem_of_getElem? (i := 452) (by decide +kernel)) rfl
theorem gw_397 : (Jvm.Cond.fieldLink "DrumMaps" (26 : Nat) "DrumMaps" "land" "LDrumMaps$Land;") ∈ gtbl := g_in (List.mem_of_getElem? (i := 453) (by decide +kernel)) rfl
theorem gw_398 : (Jvm.Cond.fieldLink "DrumMaps" (33 : Nat) "DrumMaps" "now" "LDrumMaps$Forest;") ∈ gtbl := g_in (List.mem_of_getElem? (i := 454) (by decide +kernel)) rfl
theorem gw_399 : (Jvm.Cond.fieldLink "DrumMaps" (42 : Nat) "DrumMaps" "undone" "LDrumMaps$Shelf;") ∈ gtbl := g_in (List.mem_of_getElem? (i := 455) (by decide +kernel)) rfl
theorem gw_400 : (Jvm.Cond.fieldLink "DrumMaps" (46 : Nat) "DrumMaps" "kept" "LDrumMaps$Shelf;") ∈ gtbl := g_in (List.mem_of_getElem? (i := 456) (by decide +kernel)) rfl
theorem gw_401 : (Jvm.Cond.fieldLink "DrumMaps" (52 : Nat) "DrumMaps" "heardPlaces" "LDrumMaps$Row;") ∈ gtbl := g_in (List.mem_of_getElem? (i := 457) (by decide +kernel)) rfl
theorem gw_402 : (Jvm.Cond.fieldLink "DrumMaps" (56 : Nat) "DrumMaps" "heardTold" "LDrumMaps$Row;") ∈ gtbl := g_in (List.mem_of_getElem? (i := 458) (by decide +kernel)) rfl
theorem gw_403 : (Jvm.Cond.fieldLink "DrumMaps" (242 : Nat) "DrumMaps" "heard" "I") ∈ gtbl := g_in (List.mem_of_getElem? (i := 459) (by decide +kernel)) rfl
theorem gw_404 : (Jvm.Cond.fieldLink "DrumMaps" (59 : Nat) "DrumMaps" "supposed" "LDrumMaps$Forest;") ∈ gtbl := g_in (List.mem_of_getElem? (i := 460) (by decide +kernel)) rfl
theorem gw_405 : (Jvm.Cond.fieldLink "DrumMaps" (65 : Nat) "DrumMaps" "walker" "LDrumMaps$Traveller;") ∈ gtbl := g_in (List.mem_of_getElem? (i := 461) (by decide +kernel)) rfl
theorem gw_406 : (Jvm.Cond.fieldLink "DrumMaps" (69 : Nat) "DrumMaps" "otherWalker" "LDrumMaps$Traveller;") ∈ gtbl := g_in (List.mem_of_getElem? (i := 462) (by decide +kernel)) rfl
theorem gw_407 : (Jvm.Cond.fieldLink "DrumMaps" (75 : Nat) "DrumMaps" "ways" "LDrumMaps$Ways;") ∈ gtbl := g_in (List.mem_of_getElem? (i := 463) (by decide +kernel)) rfl
theorem gw_408 : (Jvm.Cond.fieldLink "DrumMaps" (79 : Nat) "DrumMaps" "otherWays" "LDrumMaps$Ways;") ∈ gtbl := g_in (List.mem_of_getElem? (i := 464) (by decide +kernel)) rfl
theorem gw_438 : (Jvm.Cond.arrayClass Jvm.ClassFile.FieldType.byte) ∈ gtbl := g_in (List.mem_of_getElem? (i := 494) (by decide +kernel)) rfl
theorem gw_439 : (Jvm.Cond.methodLink "DrumMapsLaw" (13 : Nat) ({ cls := "DrumMaps", name := "write", desc := "(I)I" } : Jvm.MethodName)) ∈ gtbl := g_in (List.mem_of_getElem? (i := 495) (by decide +kernel)) rfl
theorem gw_440 : (Jvm.Cond.instanceMethod ({ cls := "DrumMaps", name := "write", desc := "(I)I" } : Jvm.MethodName)) ∈ gtbl := g_in (List.mem_of_getElem? (i := 496) (by decide +kernel)) rfl
theorem gw_441 : (Jvm.Cond.selects "DrumMaps" ({ cls := "DrumMaps", name := "write", desc := "(I)I" } : Jvm.MethodName) ({ cls := "DrumMaps", name := "write", desc := "(I)I" } : Jvm.MethodName)) ∈ gtbl := g_in (List.mem_of_getElem? (i := 497) (by decide +kernel)) rfl
theorem gw_442 : (Jvm.Cond.code ({ cls := "DrumMaps", name := "write", desc := "(I)I" } : Jvm.MethodName) prog_1_method_2_code (2 : Nat) (Option.some Jvm.ClassFile.FieldType.int)) ∈ gtbl := g_in (List.mem_of_getElem? (i := 498) (by decide +kernel)) rfl
theorem gw_443 : (Jvm.Cond.methodLink "DrumMaps" (105 : Nat) ({ cls := "DrumMaps", name := "within", desc := "(III)Z" } : Jvm.MethodName)) ∈ gtbl := g_in (List.mem_of_getElem? (i := 499) (by decide +kernel)) rfl
theorem gw_444 : (Jvm.Cond.methodLink "DrumMapsLaw" (18 : Nat) ({ cls := "DrumMaps", name := "wipe", desc := "()I" } : Jvm.MethodName)) ∈ gtbl := g_in (List.mem_of_getElem? (i := 500) (by decide +kernel)) rfl
theorem gw_445 : (Jvm.Cond.instanceMethod ({ cls := "DrumMaps", name := "wipe", desc := "()I" } : Jvm.MethodName)) ∈ gtbl := g_in (List.mem_of_getElem? (i := 501) (by decide +kernel)) rfl
theorem gw_446 : (Jvm.Cond.selects "DrumMaps" ({ cls := "DrumMaps", name := "wipe", desc := "()I" } : Jvm.MethodName) ({ cls := "DrumMaps", name := "wipe", desc := "()I" } : Jvm.MethodName)) ∈ gtbl := g_in (List.mem_of_getElem? (i := 502) (by decide +kernel)) rfl
theorem gw_447 : (Jvm.Cond.code ({ cls := "DrumMaps", name := "wipe", desc := "()I" } : Jvm.MethodName) prog_1_method_3_code (2 : Nat) (Option.some Jvm.ClassFile.FieldType.int)) ∈ gtbl := g_in (List.mem_of_getElem? (i := 503) (by decide +kernel)) rfl
theorem gw_448 : (Jvm.Cond.methodLink "DrumMapsLaw" (23 : Nat) ({ cls := "DrumMaps", name := "fault", desc := "()I" } : Jvm.MethodName)) ∈ gtbl := g_in (List.mem_of_getElem? (i := 504) (by decide +kernel)) rfl
theorem gw_449 : (Jvm.Cond.instanceMethod ({ cls := "DrumMaps", name := "fault", desc := "()I" } : Jvm.MethodName)) ∈ gtbl := g_in (List.mem_of_getElem? (i := 505) (by decide +kernel)) rfl
theorem gw_450 : (Jvm.Cond.selects "DrumMaps" ({ cls := "DrumMaps", name := "fault", desc := "()I" } : Jvm.MethodName) ({ cls := "DrumMaps", name := "fault", desc := "()I" } : Jvm.MethodName)) ∈ gtbl := g_in (List.mem_of_getElem? (i := 506) (by decide +kernel)) rfl
theorem gw_451 : (Jvm.Cond.code ({ cls := "DrumMaps", name := "fault", desc := "()I" } : Jvm.MethodName) prog_1_method_4_code (1 : Nat) (Option.some Jvm.ClassFile.FieldType.int)) ∈ gtbl := g_in (List.mem_of_getElem? (i := 507) (by decide +kernel)) rfl
theorem gw_452 : (Jvm.Cond.methodLink "DrumMapsLaw" (27 : Nat) ({ cls := "DrumMaps", name := "lay", desc := "()I" } : Jvm.MethodName)) ∈ gtbl := g_in (List.mem_of_getElem? (i := 508) (by decide +kernel)) rfl
theorem gw_453 : (Jvm.Cond.instanceMethod ({ cls := "DrumMaps", name := "lay", desc := "()I" } : Jvm.MethodName)) ∈ gtbl := g_in (List.mem_of_getElem? (i := 509) (by decide +kernel)) rfl
theorem gw_454 : (Jvm.Cond.selects "DrumMaps" ({ cls := "DrumMaps", name := "lay", desc := "()I" } : Jvm.MethodName) ({ cls := "DrumMaps", name := "lay", desc := "()I" } : Jvm.MethodName)) ∈ gtbl := g_in (List.mem_of_getElem? (i := 510) (by decide +kernel)) rfl
theorem gw_455 : (Jvm.Cond.code ({ cls := "DrumMaps", name := "lay", desc := "()I" } : Jvm.MethodName) prog_1_method_5_code (1 : Nat) (Option.some Jvm.ClassFile.FieldType.int)) ∈ gtbl := g_in (List.mem_of_getElem? (i := 511) (by decide +kernel)) rfl
theorem gw_456 : (Jvm.Cond.methodLink "DrumMapsLaw" (31 : Nat) ({ cls := "DrumMaps", name := "place", desc := "(I)I" } : Jvm.MethodName)) ∈ gtbl := g_in (List.mem_of_getElem? (i := 512) (by decide +kernel)) rfl
theorem gw_457 : (Jvm.Cond.instanceMethod ({ cls := "DrumMaps", name := "place", desc := "(I)I" } : Jvm.MethodName)) ∈ gtbl := g_in (List.mem_of_getElem? (i := 513) (by decide +kernel)) rfl
theorem gw_458 : (Jvm.Cond.selects "DrumMaps" ({ cls := "DrumMaps", name := "place", desc := "(I)I" } : Jvm.MethodName) ({ cls := "DrumMaps", name := "place", desc := "(I)I" } : Jvm.MethodName)) ∈ gtbl := g_in (List.mem_of_getElem? (i := 514) (by decide +kernel)) rfl
theorem gw_459 : (Jvm.Cond.code ({ cls := "DrumMaps", name := "place", desc := "(I)I" } : Jvm.MethodName) prog_1_method_6_code (2 : Nat) (Option.some Jvm.ClassFile.FieldType.int)) ∈ gtbl := g_in (List.mem_of_getElem? (i := 515) (by decide +kernel)) rfl
theorem gw_460 : (Jvm.Cond.methodLink "DrumMaps" (116 : Nat) ({ cls := "DrumMaps$Land", name := "hasPlace", desc := "(I)Z" } : Jvm.MethodName)) ∈ gtbl := g_in (List.mem_of_getElem? (i := 516) (by decide +kernel)) rfl
theorem gw_461 : (Jvm.Cond.methodLink "DrumMaps" (122 : Nat) ({ cls := "DrumMaps$Row", name := "at", desc := "(I)I" } : Jvm.MethodName)) ∈ gtbl := g_in (List.mem_of_getElem? (i := 517) (by decide +kernel)) rfl
theorem gw_462 : (Jvm.Cond.methodLink "DrumMapsLaw" (35 : Nat) ({ cls := "DrumMaps", name := "drum", desc := "(III)I" } : Jvm.MethodName)) ∈ gtbl := g_in (List.mem_of_getElem? (i := 518) (by decide +kernel)) rfl
theorem gw_463 : (Jvm.Cond.instanceMethod ({ cls := "DrumMaps", name := "drum", desc := "(III)I" } : Jvm.MethodName)) ∈ gtbl := g_in (List.mem_of_getElem? (i := 519) (by decide +kernel)) rfl
theorem gw_464 : (Jvm.Cond.selects "DrumMaps" ({ cls := "DrumMaps", name := "drum", desc := "(III)I" } : Jvm.MethodName) ({ cls := "DrumMaps", name := "drum", desc := "(III)I" } : Jvm.MethodName)) ∈ gtbl := g_in (List.mem_of_getElem? (i := 520) (by decide +kernel)) rfl
theorem gw_465 : (Jvm.Cond.code ({ cls := "DrumMaps", name := "drum", desc := "(III)I" } : Jvm.MethodName) prog_1_method_7_code (4 : Nat) (Option.some Jvm.ClassFile.FieldType.int)) ∈ gtbl := g_in (List.mem_of_getElem? (i := 521) (by decide +kernel)) rfl
theorem gw_466 : (Jvm.Cond.methodLink "DrumMaps" (126 : Nat) ({ cls := "DrumMaps$Land", name := "hasDrum", desc := "(I)Z" } : Jvm.MethodName)) ∈ gtbl := g_in (List.mem_of_getElem? (i := 522) (by decide +kernel)) rfl
theorem gw_467 : (Jvm.Cond.methodLink "DrumMaps" (129 : Nat) ({ cls := "DrumMaps$Forest", name := "tells", desc := "(LDrumMaps$Land;II)I" } : Jvm.MethodName)) ∈ gtbl := g_in (List.mem_of_getElem? (i := 523) (by decide +kernel)) rfl
theorem gw_468 : (Jvm.Cond.instanceMethod ({ cls := "DrumMaps$Forest", name := "tells", desc := "(LDrumMaps$Land;II)I" } : Jvm.MethodName)) ∈ gtbl := g_in (List.mem_of_getElem? (i := 524) (by decide +kernel)) rfl
theorem gw_469 : (Jvm.Cond.selects "DrumMaps$Forest" ({ cls := "DrumMaps$Forest", name := "tells", desc := "(LDrumMaps$Land;II)I" } : Jvm.MethodName) ({ cls := "DrumMaps$Forest", name := "tells", desc := "(LDrumMaps$Land;II)I" } : Jvm.MethodName)) ∈ gtbl := g_in (List.mem_of_getElem? (i := 525) (by decide +kernel)) rfl
theorem gw_470 : (Jvm.Cond.code ({ cls := "DrumMaps$Forest", name := "tells", desc := "(LDrumMaps$Land;II)I" } : Jvm.MethodName) prog_2_method_5_code (5 : Nat) (Option.some Jvm.ClassFile.FieldType.int)) ∈ gtbl := g_in (List.mem_of_getElem? (i := 526) (by decide +kernel)) rfl
theorem gw_471 : (Jvm.Cond.methodLink "DrumMaps$Forest" (41 : Nat) ({ cls := "DrumMaps$Row", name := "at", desc := "(I)I" } : Jvm.MethodName)) ∈ gtbl := g_in (List.mem_of_getElem? (i := 527) (by decide +kernel)) rfl
theorem gw_472 : (Jvm.Cond.methodLink "DrumMaps" (133 : Nat) ({ cls := "DrumMaps$Forest", name := "takes", desc := "(LDrumMaps$Land;II)I" } : Jvm.MethodName)) ∈ gtbl := g_in (List.mem_of_getElem? (i := 528) (by decide +kernel)) rfl
theorem gw_473 : (Jvm.Cond.instanceMethod ({ cls := "DrumMaps$Forest", name := "takes", desc := "(LDrumMaps$Land;II)I" } : Jvm.MethodName)) ∈ gtbl := g_in (List.mem_of_getElem? (i := 529) (by decide +kernel)) rfl
theorem gw_474 : (Jvm.Cond.selects "DrumMaps$Forest" ({ cls := "DrumMaps$Forest", name := "takes", desc := "(LDrumMaps$Land;II)I" } : Jvm.MethodName) ({ cls := "DrumMaps$Forest", name := "takes", desc := "(LDrumMaps$Land;II)I" } : Jvm.MethodName)) ∈ gtbl := g_in (List.mem_of_getElem? (i := 530) (by decide +kernel)) rfl
theorem gw_475 : (Jvm.Cond.code ({ cls := "DrumMaps$Forest", name := "takes", desc := "(LDrumMaps$Land;II)I" } : Jvm.MethodName) prog_2_method_6_code (5 : Nat) (Option.some Jvm.ClassFile.FieldType.int)) ∈ gtbl := g_in (List.mem_of_getElem? (i := 531) (by decide +kernel)) rfl
theorem gw_476 : (Jvm.Cond.methodLink "DrumMaps$Forest" (50 : Nat) ({ cls := "DrumMaps$Forest", name := "tells", desc := "(LDrumMaps$Land;II)I" } : Jvm.MethodName)) ∈ gtbl := g_in (List.mem_of_getElem? (i := 532) (by decide +kernel)) rfl
theorem gw_477 : (Jvm.Cond.methodLink "DrumMaps" (139 : Nat) ({ cls := "DrumMaps", name := "loudness", desc := "(II)I" } : Jvm.MethodName)) ∈ gtbl := g_in (List.mem_of_getElem? (i := 533) (by decide +kernel)) rfl
theorem gw_478 : (Jvm.Cond.static ({ cls := "DrumMaps", name := "loudness", desc := "(II)I" } : Jvm.MethodName)) ∈ gtbl := g_in (List.mem_of_getElem? (i := 534) (by decide +kernel)) rfl
theorem gw_479 : (Jvm.Cond.code ({ cls := "DrumMaps", name := "loudness", desc := "(II)I" } : Jvm.MethodName) prog_1_method_40_code (2 : Nat) (Option.some Jvm.ClassFile.FieldType.int)) ∈ gtbl := g_in (List.mem_of_getElem? (i := 535) (by decide +kernel)) rfl
theorem gw_480 : (Jvm.Cond.methodLink "DrumMapsLaw" (40 : Nat) ({ cls := "DrumMaps", name := "kind", desc := "(I)I" } : Jvm.MethodName)) ∈ gtbl := g_in (List.mem_of_getElem? (i := 536) (by decide +kernel)) rfl
theorem gw_481 : (Jvm.Cond.instanceMethod ({ cls := "DrumMaps", name := "kind", desc := "(I)I" } : Jvm.MethodName)) ∈ gtbl := g_in (List.mem_of_getElem? (i := 537) (by decide +kernel)) rfl
theorem gw_482 : (Jvm.Cond.selects "DrumMaps" ({ cls := "DrumMaps", name := "kind", desc := "(I)I" } : Jvm.MethodName) ({ cls := "DrumMaps", name := "kind", desc := "(I)I" } : Jvm.MethodName)) ∈ gtbl := g_in (List.mem_of_getElem? (i := 538) (by decide +kernel)) rfl
theorem gw_483 : (Jvm.Cond.code ({ cls := "DrumMaps", name := "kind", desc := "(I)I" } : Jvm.MethodName) prog_1_method_8_code (2 : Nat) (Option.some Jvm.ClassFile.FieldType.int)) ∈ gtbl := g_in (List.mem_of_getElem? (i := 539) (by decide +kernel)) rfl
theorem gw_484 : (Jvm.Cond.methodLink "DrumMapsLaw" (44 : Nat) ({ cls := "DrumMaps", name := "traveller", desc := "(II)I" } : Jvm.MethodName)) ∈ gtbl := g_in (List.mem_of_getElem? (i := 540) (by decide +kernel)) rfl
theorem gw_485 : (Jvm.Cond.instanceMethod ({ cls := "DrumMaps", name := "traveller", desc := "(II)I" } : Jvm.MethodName)) ∈ gtbl := g_in (List.mem_of_getElem? (i := 541) (by decide +kernel)) rfl
theorem gw_486 : (Jvm.Cond.selects "DrumMaps" ({ cls := "DrumMaps", name := "traveller", desc := "(II)I" } : Jvm.MethodName) ({ cls := "DrumMaps", name := "traveller", desc := "(II)I" } : Jvm.MethodName)) ∈ gtbl := g_in (List.mem_of_getElem? (i := 542) (by decide +kernel)) rfl
theorem gw_487 : (Jvm.Cond.code ({ cls := "DrumMaps", name := "traveller", desc := "(II)I" } : Jvm.MethodName) prog_1_method_9_code (4 : Nat) (Option.some Jvm.ClassFile.FieldType.int)) ∈ gtbl := g_in (List.mem_of_getElem? (i := 543) (by decide +kernel)) rfl
theorem gw_488 : (Jvm.Cond.methodLink "DrumMaps" (146 : Nat) ({ cls := "DrumMaps$Land", name := "hasTraveller", desc := "(I)Z" } : Jvm.MethodName)) ∈ gtbl := g_in (List.mem_of_getElem? (i := 544) (by decide +kernel)) rfl
theorem gw_489 : (Jvm.Cond.instanceMethod ({ cls := "DrumMaps$Land", name := "hasTraveller", desc := "(I)Z" } : Jvm.MethodName)) ∈ gtbl := g_in (List.mem_of_getElem? (i := 545) (by decide +kernel)) rfl
theorem gw_490 : (Jvm.Cond.selects "DrumMaps$Land" ({ cls := "DrumMaps$Land", name := "hasTraveller", desc := "(I)Z" } : Jvm.MethodName) ({ cls := "DrumMaps$Land", name := "hasTraveller", desc := "(I)Z" } : Jvm.MethodName)) ∈ gtbl := g_in (List.mem_of_getElem? (i := 546) (by decide +kernel)) rfl
theorem gw_491 : (Jvm.Cond.code ({ cls := "DrumMaps$Land", name := "hasTraveller", desc := "(I)Z" } : Jvm.MethodName) prog_3_method_4_code (2 : Nat) (Option.some Jvm.ClassFile.FieldType.boolean)) ∈ gtbl := g_in (List.mem_of_getElem? (i := 547) (by decide +kernel)) rfl
theorem gw_492 : (Jvm.Cond.methodLink "DrumMaps" (149 : Nat) ({ cls := "DrumMaps$Forest", name := "who", desc := "(I)LDrumMaps$Traveller;" } : Jvm.MethodName)) ∈ gtbl := g_in (List.mem_of_getElem? (i := 548) (by decide +kernel)) rfl
theorem gw_493 : (Jvm.Cond.methodLink "DrumMaps" (165 : Nat) ({ cls := "DrumMaps$Traveller", name := "isOnHisWay", desc := "()Z" } : Jvm.MethodName)) ∈ gtbl := g_in (List.mem_of_getElem? (i := 549) (by decide +kernel)) rfl
theorem gw_494 : (Jvm.Cond.instanceMethod ({ cls := "DrumMaps$Traveller", name := "isOnHisWay", desc := "()Z" } : Jvm.MethodName)) ∈ gtbl := g_in (List.mem_of_getElem? (i := 550) (by decide +kernel)) rfl
theorem gw_495 : (Jvm.Cond.selects "DrumMaps$Traveller" ({ cls := "DrumMaps$Traveller", name := "isOnHisWay", desc := "()Z" } : Jvm.MethodName) ({ cls := "DrumMaps$Traveller", name := "isOnHisWay", desc := "()Z" } : Jvm.MethodName)) ∈ gtbl := g_in (List.mem_of_getElem? (i := 551) (by decide +kernel)) rfl
theorem gw_496 : (Jvm.Cond.code ({ cls := "DrumMaps$Traveller", name := "isOnHisWay", desc := "()Z" } : Jvm.MethodName) prog_8_method_4_code (1 : Nat) (Option.some Jvm.ClassFile.FieldType.boolean)) ∈ gtbl := g_in (List.mem_of_getElem? (i := 552) (by decide +kernel)) rfl
theorem gw_497 : (Jvm.Cond.methodLink "DrumMapsLaw" (49 : Nat) ({ cls := "DrumMaps", name := "route", desc := "(IIII)I" } : Jvm.MethodName)) ∈ gtbl := g_in (List.mem_of_getElem? (i := 553) (by decide +kernel)) rfl
theorem gw_498 : (Jvm.Cond.instanceMethod ({ cls := "DrumMaps", name := "route", desc := "(IIII)I" } : Jvm.MethodName)) ∈ gtbl := g_in (List.mem_of_getElem? (i := 554) (by decide +kernel)) rfl
theorem gw_499 : (Jvm.Cond.selects "DrumMaps" ({ cls := "DrumMaps", name := "route", desc := "(IIII)I" } : Jvm.MethodName) ({ cls := "DrumMaps", name := "route", desc := "(IIII)I" } : Jvm.MethodName)) ∈ gtbl := g_in (List.mem_of_getElem? (i := 555) (by decide +kernel)) rfl
theorem gw_500 : (Jvm.Cond.code ({ cls := "DrumMaps", name := "route", desc := "(IIII)I" } : Jvm.MethodName) prog_1_method_10_code (5 : Nat) (Option.some Jvm.ClassFile.FieldType.int)) ∈ gtbl := g_in (List.mem_of_getElem? (i := 556) (by decide +kernel)) rfl
theorem gw_501 : (Jvm.Cond.methodLink "DrumMaps" (174 : Nat) ({ cls := "DrumMaps$Ways", name := "learnByDrum", desc := "(LDrumMaps$Land;LDrumMaps$Forest;II)V" } : Jvm.MethodName)) ∈ gtbl := g_in (List.mem_of_getElem? (i := 557) (by decide +kernel)) rfl
theorem gw_502 : (Jvm.Cond.instanceMethod ({ cls := "DrumMaps$Ways", name := "learnByDrum", desc := "(LDrumMaps$Land;LDrumMaps$Forest;II)V" } : Jvm.MethodName)) ∈ gtbl := g_in (List.mem_of_getElem? (i := 558) (by decide +kernel)) rfl
theorem gw_503 : (Jvm.Cond.selects "DrumMaps$Ways" ({ cls := "DrumMaps$Ways", name := "learnByDrum", desc := "(LDrumMaps$Land;LDrumMaps$Forest;II)V" } : Jvm.MethodName) ({ cls := "DrumMaps$Ways", name := "learnByDrum", desc := "(LDrumMaps$Land;LDrumMaps$Forest;II)V" } : Jvm.MethodName)) ∈ gtbl := g_in (List.mem_of_getElem? (i := 559) (by decide +kernel)) rfl
theorem gw_504 : (Jvm.Cond.code ({ cls := "DrumMaps$Ways", name := "learnByDrum", desc := "(LDrumMaps$Land;LDrumMaps$Forest;II)V" } : Jvm.MethodName) prog_9_method_2_code (6 : Nat) (Option.none : Option Jvm.ClassFile.FieldType)) ∈ gtbl := g_in (List.mem_of_getElem? (i := 560) (by decide +kernel)) rfl
theorem gw_505 : (Jvm.Cond.methodLink "DrumMaps$Ways" (29 : Nat) ({ cls := "DrumMaps$Forest", name := "takes", desc := "(LDrumMaps$Land;II)I" } : Jvm.MethodName)) ∈ gtbl := g_in (List.mem_of_getElem? (i := 561) (by decide +kernel)) rfl
theorem gw_507 : (Jvm.Cond.static ({ cls := "DrumMaps", name := "hoursToEnter", desc := "(II)I" } : Jvm.MethodName)) ∈ gtbl := g_in (List.mem_of_getElem? (i := 563) (by decide +kernel)) rfl
theorem gw_508 : (Jvm.Cond.code ({ cls := "DrumMaps", name := "hoursToEnter", desc := "(II)I" } : Jvm.MethodName) prog_1_method_39_code (3 : Nat) (Option.some Jvm.ClassFile.FieldType.int)) ∈ gtbl := g_in (List.mem_of_getElem? (i := 564) (by decide +kernel)) rfl
theorem gw_509 : (Jvm.Cond.constant "DrumMaps" (224 : Nat) (1000000 : Int32)) ∈ gtbl := g_in (List.mem_of_getElem? (i := 565) (by decide +kernel)) rfl
theorem gw_510 : (Jvm.Cond.methodLink "DrumMaps$Ways" (42 : Nat) ({ cls := "DrumMaps$Row", name := "put", desc := "(II)V" } : Jvm.MethodName)) ∈ gtbl := g_in (List.mem_of_getElem? (i := 566) (by decide +kernel)) rfl
theorem gw_511 : (Jvm.Cond.methodLink "DrumMaps$Ways" (46 : Nat) ({ cls := "DrumMaps$Ways", name := "measure", desc := "(LDrumMaps$Land;I)V" } : Jvm.MethodName)) ∈ gtbl := g_in (List.mem_of_getElem? (i := 567) (by decide +kernel)) rfl
theorem gw_513 : (Jvm.Cond.instanceMethod ({ cls := "DrumMaps$Ways", name := "measure", desc := "(LDrumMaps$Land;I)V" } : Jvm.MethodName)) ∈ gtbl := g_in (List.mem_of_getElem? (i := 569) (by decide +kernel)) rfl
theorem gw_514 : (Jvm.Cond.code ({ cls := "DrumMaps$Ways", name := "measure", desc := "(LDrumMaps$Land;I)V" } : Jvm.MethodName) prog_9_method_4_code (8 : Nat) (Option.none : Option Jvm.ClassFile.FieldType)) ∈ gtbl := g_in (List.mem_of_getElem? (i := 570) (by decide +kernel)) rfl
theorem gw_515 : (Jvm.Cond.constant "DrumMaps$Ways" (57 : Nat) (1000000 : Int32)) ∈ gtbl := g_in (List.mem_of_getElem? (i := 571) (by decide +kernel)) rfl
theorem gw_516 : (Jvm.Cond.methodLink "DrumMaps$Ways" (58 : Nat) ({ cls := "DrumMaps$Row", name := "fill", desc := "(I)V" } : Jvm.MethodName)) ∈ gtbl := g_in (List.mem_of_getElem? (i := 572) (by decide +kernel)) rfl
theorem gw_517 : (Jvm.Cond.methodLink "DrumMaps$Ways" (61 : Nat) ({ cls := "DrumMaps$Ways", name := "firstOf", desc := "(LDrumMaps$Land;I)I" } : Jvm.MethodName)) ∈ gtbl := g_in (List.mem_of_getElem? (i := 573) (by decide +kernel)) rfl
theorem gw_519 : (Jvm.Cond.instanceMethod ({ cls := "DrumMaps$Ways", name := "firstOf", desc := "(LDrumMaps$Land;I)I" } : Jvm.MethodName)) ∈ gtbl := g_in (List.mem_of_getElem? (i := 575) (by decide +kernel)) rfl
theorem gw_520 : (Jvm.Cond.code ({ cls := "DrumMaps$Ways", name := "firstOf", desc := "(LDrumMaps$Land;I)I" } : Jvm.MethodName) prog_9_method_6_code (8 : Nat) (Option.some Jvm.ClassFile.FieldType.int)) ∈ gtbl := g_in (List.mem_of_getElem? (i := 576) (by decide +kernel)) rfl
theorem gw_521 : (Jvm.Cond.methodLink "DrumMaps$Ways" (53 : Nat) ({ cls := "DrumMaps$Row", name := "at", desc := "(I)I" } : Jvm.MethodName)) ∈ gtbl := g_in (List.mem_of_getElem? (i := 577) (by decide +kernel)) rfl
theorem gw_522 : (Jvm.Cond.methodLink "DrumMaps$Ways" (65 : Nat) ({ cls := "DrumMaps$Ways", name := "hoursOver", desc := "(I)I" } : Jvm.MethodName)) ∈ gtbl := g_in (List.mem_of_getElem? (i := 578) (by decide +kernel)) rfl
theorem gw_524 : (Jvm.Cond.instanceMethod ({ cls := "DrumMaps$Ways", name := "hoursOver", desc := "(I)I" } : Jvm.MethodName)) ∈ gtbl := g_in (List.mem_of_getElem? (i := 580) (by decide +kernel)) rfl
theorem gw_525 : (Jvm.Cond.code ({ cls := "DrumMaps$Ways", name := "hoursOver", desc := "(I)I" } : Jvm.MethodName) prog_9_method_5_code (2 : Nat) (Option.some Jvm.ClassFile.FieldType.int)) ∈ gtbl := g_in (List.mem_of_getElem? (i := 581) (by decide +kernel)) rfl
theorem gw_526 : (Jvm.Cond.methodLink "DrumMaps" (178 : Nat) ({ cls := "DrumMaps$Ways", name := "hoursFrom", desc := "(I)I" } : Jvm.MethodName)) ∈ gtbl := g_in (List.mem_of_getElem? (i := 582) (by decide +kernel)) rfl
theorem gw_527 : (Jvm.Cond.instanceMethod ({ cls := "DrumMaps$Ways", name := "hoursFrom", desc := "(I)I" } : Jvm.MethodName)) ∈ gtbl := g_in (List.mem_of_getElem? (i := 583) (by decide +kernel)) rfl
theorem gw_528 : (Jvm.Cond.selects "DrumMaps$Ways" ({ cls := "DrumMaps$Ways", name := "hoursFrom", desc := "(I)I" } : Jvm.MethodName) ({ cls := "DrumMaps$Ways", name := "hoursFrom", desc := "(I)I" } : Jvm.MethodName)) ∈ gtbl := g_in (List.mem_of_getElem? (i := 584) (by decide +kernel)) rfl
theorem gw_529 : (Jvm.Cond.code ({ cls := "DrumMaps$Ways", name := "hoursFrom", desc := "(I)I" } : Jvm.MethodName) prog_9_method_7_code (2 : Nat) (Option.some Jvm.ClassFile.FieldType.int)) ∈ gtbl := g_in (List.mem_of_getElem? (i := 585) (by decide +kernel)) rfl
theorem gw_530 : (Jvm.Cond.methodLink "DrumMaps" (181 : Nat) ({ cls := "DrumMaps$Ways", name := "firstFrom", desc := "(LDrumMaps$Land;I)I" } : Jvm.MethodName)) ∈ gtbl := g_in (List.mem_of_getElem? (i := 586) (by decide +kernel)) rfl
theorem gw_531 : (Jvm.Cond.instanceMethod ({ cls := "DrumMaps$Ways", name := "firstFrom", desc := "(LDrumMaps$Land;I)I" } : Jvm.MethodName)) ∈ gtbl := g_in (List.mem_of_getElem? (i := 587) (by decide +kernel)) rfl
theorem gw_532 : (Jvm.Cond.selects "DrumMaps$Ways" ({ cls := "DrumMaps$Ways", name := "firstFrom", desc := "(LDrumMaps$Land;I)I" } : Jvm.MethodName) ({ cls := "DrumMaps$Ways", name := "firstFrom", desc := "(LDrumMaps$Land;I)I" } : Jvm.MethodName)) ∈ gtbl := g_in (List.mem_of_getElem? (i := 588) (by decide +kernel)) rfl
theorem gw_533 : (Jvm.Cond.code ({ cls := "DrumMaps$Ways", name := "firstFrom", desc := "(LDrumMaps$Land;I)I" } : Jvm.MethodName) prog_9_method_8_code (3 : Nat) (Option.some Jvm.ClassFile.FieldType.int)) ∈ gtbl := g_in (List.mem_of_getElem? (i := 589) (by decide +kernel)) rfl
theorem gw_534 : (Jvm.Cond.methodLink "DrumMapsLaw" (54 : Nat) ({ cls := "DrumMaps", name := "truth", desc := "(II)I" } : Jvm.MethodName)) ∈ gtbl := g_in (List.mem_of_getElem? (i := 590) (by decide +kernel)) rfl
theorem gw_535 : (Jvm.Cond.instanceMethod ({ cls := "DrumMaps", name := "truth", desc := "(II)I" } : Jvm.MethodName)) ∈ gtbl := g_in (List.mem_of_getElem? (i := 591) (by decide +kernel)) rfl
theorem gw_536 : (Jvm.Cond.selects "DrumMaps" ({ cls := "DrumMaps", name := "truth", desc := "(II)I" } : Jvm.MethodName) ({ cls := "DrumMaps", name := "truth", desc := "(II)I" } : Jvm.MethodName)) ∈ gtbl := g_in (List.mem_of_getElem? (i := 592) (by decide +kernel)) rfl
theorem gw_537 : (Jvm.Cond.code ({ cls := "DrumMaps", name := "truth", desc := "(II)I" } : Jvm.MethodName) prog_1_method_11_code (3 : Nat) (Option.some Jvm.ClassFile.FieldType.int)) ∈ gtbl := g_in (List.mem_of_getElem? (i := 593) (by decide +kernel)) rfl
theorem gw_538 : (Jvm.Cond.methodLink "DrumMaps" (185 : Nat) ({ cls := "DrumMaps$Ways", name := "learnInTruth", desc := "(LDrumMaps$Land;II)V" } : Jvm.MethodName)) ∈ gtbl := g_in (List.mem_of_getElem? (i := 594) (by decide +kernel)) rfl
theorem gw_539 : (Jvm.Cond.instanceMethod ({ cls := "DrumMaps$Ways", name := "learnInTruth", desc := "(LDrumMaps$Land;II)V" } : Jvm.MethodName)) ∈ gtbl := g_in (List.mem_of_getElem? (i := 595) (by decide +kernel)) rfl
theorem gw_540 : (Jvm.Cond.selects "DrumMaps$Ways" ({ cls := "DrumMaps$Ways", name := "learnInTruth", desc := "(LDrumMaps$Land;II)V" } : Jvm.MethodName) ({ cls := "DrumMaps$Ways", name := "learnInTruth", desc := "(LDrumMaps$Land;II)V" } : Jvm.MethodName)) ∈ gtbl := g_in (List.mem_of_getElem? (i := 596) (by decide +kernel)) rfl
theorem gw_541 : (Jvm.Cond.code ({ cls := "DrumMaps$Ways", name := "learnInTruth", desc := "(LDrumMaps$Land;II)V" } : Jvm.MethodName) prog_9_method_3_code (5 : Nat) (Option.none : Option Jvm.ClassFile.FieldType)) ∈ gtbl := g_in (List.mem_of_getElem? (i := 597) (by decide +kernel)) rfl
theorem gw_542 : (Jvm.Cond.methodLink "DrumMapsLaw" (58 : Nat) ({ cls := "DrumMaps", name := "pass", desc := "(I)I" } : Jvm.MethodName)) ∈ gtbl := g_in (List.mem_of_getElem? (i := 598) (by decide +kernel)) rfl
theorem gw_543 : (Jvm.Cond.instanceMethod ({ cls := "DrumMaps", name := "pass", desc := "(I)I" } : Jvm.MethodName)) ∈ gtbl := g_in (List.mem_of_getElem? (i := 599) (by decide +kernel)) rfl
theorem gw_544 : (Jvm.Cond.selects "DrumMaps" ({ cls := "DrumMaps", name := "pass", desc := "(I)I" } : Jvm.MethodName) ({ cls := "DrumMaps", name := "pass", desc := "(I)I" } : Jvm.MethodName)) ∈ gtbl := g_in (List.mem_of_getElem? (i := 600) (by decide +kernel)) rfl
theorem gw_545 : (Jvm.Cond.code ({ cls := "DrumMaps", name := "pass", desc := "(I)I" } : Jvm.MethodName) prog_1_method_12_code (3 : Nat) (Option.some Jvm.ClassFile.FieldType.int)) ∈ gtbl := g_in (List.mem_of_getElem? (i := 601) (by decide +kernel)) rfl
theorem gw_546 : (Jvm.Cond.methodLink "DrumMaps" (189 : Nat) ({ cls := "DrumMaps$Shelf", name := "add", desc := "(LDrumMaps$Forest;)V" } : Jvm.MethodName)) ∈ gtbl := g_in (List.mem_of_getElem? (i := 602) (by decide +kernel)) rfl
theorem gw_547 : (Jvm.Cond.instanceMethod ({ cls := "DrumMaps$Shelf", name := "add", desc := "(LDrumMaps$Forest;)V" } : Jvm.MethodName)) ∈ gtbl := g_in (List.mem_of_getElem? (i := 603) (by decide +kernel)) rfl
theorem gw_548 : (Jvm.Cond.selects "DrumMaps$Shelf" ({ cls := "DrumMaps$Shelf", name := "add", desc := "(LDrumMaps$Forest;)V" } : Jvm.MethodName) ({ cls := "DrumMaps$Shelf", name := "add", desc := "(LDrumMaps$Forest;)V" } : Jvm.MethodName)) ∈ gtbl := g_in (List.mem_of_getElem? (i := 604) (by decide +kernel)) rfl
theorem gw_549 : (Jvm.Cond.code ({ cls := "DrumMaps$Shelf", name := "add", desc := "(LDrumMaps$Forest;)V" } : Jvm.MethodName) prog_6_method_3_code (2 : Nat) (Option.none : Option Jvm.ClassFile.FieldType)) ∈ gtbl := g_in (List.mem_of_getElem? (i := 605) (by decide +kernel)) rfl
theorem gw_550 : (Jvm.Cond.methodLink "DrumMaps$Shelf" (20 : Nat) ({ cls := "DrumMaps$Shelf", name := "isFull", desc := "()Z" } : Jvm.MethodName)) ∈ gtbl := g_in (List.mem_of_getElem? (i := 606) (by decide +kernel)) rfl
theorem gw_551 : (Jvm.Cond.instanceMethod ({ cls := "DrumMaps$Shelf", name := "isFull", desc := "()Z" } : Jvm.MethodName)) ∈ gtbl := g_in (List.mem_of_getElem? (i := 607) (by decide +kernel)) rfl
theorem gw_552 : (Jvm.Cond.selects "DrumMaps$Shelf" ({ cls := "DrumMaps$Shelf", name := "isFull", desc := "()Z" } : Jvm.MethodName) ({ cls := "DrumMaps$Shelf", name := "isFull", desc := "()Z" } : Jvm.MethodName)) ∈ gtbl := g_in (List.mem_of_getElem? (i := 608) (by decide +kernel)) rfl
theorem gw_553 : (Jvm.Cond.code ({ cls := "DrumMaps$Shelf", name := "isFull", desc := "()Z" } : Jvm.MethodName) prog_6_method_2_code (1 : Nat) (Option.some Jvm.ClassFile.FieldType.boolean)) ∈ gtbl := g_in (List.mem_of_getElem? (i := 609) (by decide +kernel)) rfl
theorem gw_554 : (Jvm.Cond.methodLink "DrumMaps$Shelf" (24 : Nat) ({ cls := "DrumMaps$Shelf", name := "dropLowest", desc := "()V" } : Jvm.MethodName)) ∈ gtbl := g_in (List.mem_of_getElem? (i := 610) (by decide +kernel)) rfl
theorem gw_556 : (Jvm.Cond.instanceMethod ({ cls := "DrumMaps$Shelf", name := "dropLowest", desc := "()V" } : Jvm.MethodName)) ∈ gtbl := g_in (List.mem_of_getElem? (i := 612) (by decide +kernel)) rfl
theorem gw_557 : (Jvm.Cond.code ({ cls := "DrumMaps$Shelf", name := "dropLowest", desc := "()V" } : Jvm.MethodName) prog_6_method_4_code (3 : Nat) (Option.none : Option Jvm.ClassFile.FieldType)) ∈ gtbl := g_in (List.mem_of_getElem? (i := 613) (by decide +kernel)) rfl
theorem gw_558 : (Jvm.Cond.methodLink "DrumMaps$Shelf" (27 : Nat) ({ cls := "DrumMaps$Forest", name := "copyFrom", desc := "(LDrumMaps$Forest;)V" } : Jvm.MethodName)) ∈ gtbl := g_in (List.mem_of_getElem? (i := 614) (by decide +kernel)) rfl
theorem gw_559 : (Jvm.Cond.methodLink "DrumMaps" (192 : Nat) ({ cls := "DrumMaps", name := "letHourPass", desc := "(LDrumMaps$Forest;)V" } : Jvm.MethodName)) ∈ gtbl := g_in (List.mem_of_getElem? (i := 615) (by decide +kernel)) rfl
theorem gw_561 : (Jvm.Cond.instanceMethod ({ cls := "DrumMaps", name := "letHourPass", desc := "(LDrumMaps$Forest;)V" } : Jvm.MethodName)) ∈ gtbl := g_in (List.mem_of_getElem? (i := 617) (by decide +kernel)) rfl
theorem gw_562 : (Jvm.Cond.code ({ cls := "DrumMaps", name := "letHourPass", desc := "(LDrumMaps$Forest;)V" } : Jvm.MethodName) prog_1_method_42_code (4 : Nat) (Option.none : Option Jvm.ClassFile.FieldType)) ∈ gtbl := g_in (List.mem_of_getElem? (i := 618) (by decide +kernel)) rfl
theorem gw_563 : (Jvm.Cond.methodLink "DrumMaps" (295 : Nat) ({ cls := "DrumMaps$Traveller", name := "mustSetOut", desc := "()Z" } : Jvm.MethodName)) ∈ gtbl := g_in (List.mem_of_getElem? (i := 619) (by decide +kernel)) rfl
theorem gw_564 : (Jvm.Cond.instanceMethod ({ cls := "DrumMaps$Traveller", name := "mustSetOut", desc := "()Z" } : Jvm.MethodName)) ∈ gtbl := g_in (List.mem_of_getElem? (i := 620) (by decide +kernel)) rfl
theorem gw_565 : (Jvm.Cond.selects "DrumMaps$Traveller" ({ cls := "DrumMaps$Traveller", name := "mustSetOut", desc := "()Z" } : Jvm.MethodName) ({ cls := "DrumMaps$Traveller", name := "mustSetOut", desc := "()Z" } : Jvm.MethodName)) ∈ gtbl := g_in (List.mem_of_getElem? (i := 621) (by decide +kernel)) rfl
theorem gw_566 : (Jvm.Cond.code ({ cls := "DrumMaps$Traveller", name := "mustSetOut", desc := "()Z" } : Jvm.MethodName) prog_8_method_5_code (1 : Nat) (Option.some Jvm.ClassFile.FieldType.boolean)) ∈ gtbl := g_in (List.mem_of_getElem? (i := 622) (by decide +kernel)) rfl
theorem gw_567 : (Jvm.Cond.methodLink "DrumMaps" (238 : Nat) ({ cls := "DrumMaps", name := "walkHour", desc := "(LDrumMaps$Traveller;LDrumMaps$Ways;I)V" } : Jvm.MethodName)) ∈ gtbl := g_in (List.mem_of_getElem? (i := 623) (by decide +kernel)) rfl
theorem gw_569 : (Jvm.Cond.instanceMethod ({ cls := "DrumMaps", name := "walkHour", desc := "(LDrumMaps$Traveller;LDrumMaps$Ways;I)V" } : Jvm.MethodName)) ∈ gtbl := g_in (List.mem_of_getElem? (i := 625) (by decide +kernel)) rfl
theorem gw_570 : (Jvm.Cond.code ({ cls := "DrumMaps", name := "walkHour", desc := "(LDrumMaps$Traveller;LDrumMaps$Ways;I)V" } : Jvm.MethodName) prog_1_method_43_code (4 : Nat) (Option.none : Option Jvm.ClassFile.FieldType)) ∈ gtbl := g_in (List.mem_of_getElem? (i := 626) (by decide +kernel)) rfl
theorem gw_571 : (Jvm.Cond.methodLink "DrumMaps" (298 : Nat) ({ cls := "DrumMaps", name := "setOut", desc := "(LDrumMaps$Traveller;II)V" } : Jvm.MethodName)) ∈ gtbl := g_in (List.mem_of_getElem? (i := 627) (by decide +kernel)) rfl
theorem gw_573 : (Jvm.Cond.instanceMethod ({ cls := "DrumMaps", name := "setOut", desc := "(LDrumMaps$Traveller;II)V" } : Jvm.MethodName)) ∈ gtbl := g_in (List.mem_of_getElem? (i := 629) (by decide +kernel)) rfl
theorem gw_574 : (Jvm.Cond.code ({ cls := "DrumMaps", name := "setOut", desc := "(LDrumMaps$Traveller;II)V" } : Jvm.MethodName) prog_1_method_44_code (5 : Nat) (Option.none : Option Jvm.ClassFile.FieldType)) ∈ gtbl := g_in (List.mem_of_getElem? (i := 630) (by decide +kernel)) rfl
theorem gw_575 : (Jvm.Cond.methodLink "DrumMaps" (305 : Nat) ({ cls := "DrumMaps", name := "hoursToEnter", desc := "(II)I" } : Jvm.MethodName)) ∈ gtbl := g_in (List.mem_of_getElem? (i := 631) (by decide +kernel)) rfl
theorem gw_576 : (Jvm.Cond.methodLink "DrumMaps" (302 : Nat) ({ cls := "DrumMaps$Traveller", name := "goOn", desc := "()V" } : Jvm.MethodName)) ∈ gtbl := g_in (List.mem_of_getElem? (i := 632) (by decide +kernel)) rfl
theorem gw_577 : (Jvm.Cond.instanceMethod ({ cls := "DrumMaps$Traveller", name := "goOn", desc := "()V" } : Jvm.MethodName)) ∈ gtbl := g_in (List.mem_of_getElem? (i := 633) (by decide +kernel)) rfl
theorem gw_578 : (Jvm.Cond.selects "DrumMaps$Traveller" ({ cls := "DrumMaps$Traveller", name := "goOn", desc := "()V" } : Jvm.MethodName) ({ cls := "DrumMaps$Traveller", name := "goOn", desc := "()V" } : Jvm.MethodName)) ∈ gtbl := g_in (List.mem_of_getElem? (i := 634) (by decide +kernel)) rfl
theorem gw_579 : (Jvm.Cond.code ({ cls := "DrumMaps$Traveller", name := "goOn", desc := "()V" } : Jvm.MethodName) prog_8_method_6_code (1 : Nat) (Option.none : Option Jvm.ClassFile.FieldType)) ∈ gtbl := g_in (List.mem_of_getElem? (i := 635) (by decide +kernel)) rfl
theorem gw_580 : (Jvm.Cond.methodLink "DrumMapsLaw" (62 : Nat) ({ cls := "DrumMaps", name := "rain", desc := "(I)I" } : Jvm.MethodName)) ∈ gtbl := g_in (List.mem_of_getElem? (i := 636) (by decide +kernel)) rfl
theorem gw_581 : (Jvm.Cond.instanceMethod ({ cls := "DrumMaps", name := "rain", desc := "(I)I" } : Jvm.MethodName)) ∈ gtbl := g_in (List.mem_of_getElem? (i := 637) (by decide +kernel)) rfl
theorem gw_582 : (Jvm.Cond.selects "DrumMaps" ({ cls := "DrumMaps", name := "rain", desc := "(I)I" } : Jvm.MethodName) ({ cls := "DrumMaps", name := "rain", desc := "(I)I" } : Jvm.MethodName)) ∈ gtbl := g_in (List.mem_of_getElem? (i := 638) (by decide +kernel)) rfl
theorem gw_583 : (Jvm.Cond.code ({ cls := "DrumMaps", name := "rain", desc := "(I)I" } : Jvm.MethodName) prog_1_method_13_code (3 : Nat) (Option.some Jvm.ClassFile.FieldType.int)) ∈ gtbl := g_in (List.mem_of_getElem? (i := 639) (by decide +kernel)) rfl
theorem gw_584 : (Jvm.Cond.methodLink "DrumMapsLaw" (66 : Nat) ({ cls := "DrumMaps", name := "retune", desc := "(III)I" } : Jvm.MethodName)) ∈ gtbl := g_in (List.mem_of_getElem? (i := 640) (by decide +kernel)) rfl
theorem gw_585 : (Jvm.Cond.instanceMethod ({ cls := "DrumMaps", name := "retune", desc := "(III)I" } : Jvm.MethodName)) ∈ gtbl := g_in (List.mem_of_getElem? (i := 641) (by decide +kernel)) rfl
theorem gw_586 : (Jvm.Cond.selects "DrumMaps" ({ cls := "DrumMaps", name := "retune", desc := "(III)I" } : Jvm.MethodName) ({ cls := "DrumMaps", name := "retune", desc := "(III)I" } : Jvm.MethodName)) ∈ gtbl := g_in (List.mem_of_getElem? (i := 642) (by decide +kernel)) rfl
theorem gw_587 : (Jvm.Cond.code ({ cls := "DrumMaps", name := "retune", desc := "(III)I" } : Jvm.MethodName) prog_1_method_14_code (5 : Nat) (Option.some Jvm.ClassFile.FieldType.int)) ∈ gtbl := g_in (List.mem_of_getElem? (i := 643) (by decide +kernel)) rfl
theorem gw_588 : (Jvm.Cond.methodLink "DrumMaps" (198 : Nat) ({ cls := "DrumMaps$Forest", name := "setTold", desc := "(III)V" } : Jvm.MethodName)) ∈ gtbl := g_in (List.mem_of_getElem? (i := 644) (by decide +kernel)) rfl
theorem gw_589 : (Jvm.Cond.methodLink "DrumMapsLaw" (70 : Nat) ({ cls := "DrumMaps", name := "give", desc := "(II)I" } : Jvm.MethodName)) ∈ gtbl := g_in (List.mem_of_getElem? (i := 645) (by decide +kernel)) rfl
theorem gw_590 : (Jvm.Cond.instanceMethod ({ cls := "DrumMaps", name := "give", desc := "(II)I" } : Jvm.MethodName)) ∈ gtbl := g_in (List.mem_of_getElem? (i := 646) (by decide +kernel)) rfl
theorem gw_591 : (Jvm.Cond.selects "DrumMaps" ({ cls := "DrumMaps", name := "give", desc := "(II)I" } : Jvm.MethodName) ({ cls := "DrumMaps", name := "give", desc := "(II)I" } : Jvm.MethodName)) ∈ gtbl := g_in (List.mem_of_getElem? (i := 647) (by decide +kernel)) rfl
theorem gw_592 : (Jvm.Cond.code ({ cls := "DrumMaps", name := "give", desc := "(II)I" } : Jvm.MethodName) prog_1_method_15_code (5 : Nat) (Option.some Jvm.ClassFile.FieldType.int)) ∈ gtbl := g_in (List.mem_of_getElem? (i := 648) (by decide +kernel)) rfl
theorem gw_593 : (Jvm.Cond.methodLink "DrumMapsLaw" (74 : Nat) ({ cls := "DrumMaps", name := "send", desc := "(II)I" } : Jvm.MethodName)) ∈ gtbl := g_in (List.mem_of_getElem? (i := 649) (by decide +kernel)) rfl
theorem gw_594 : (Jvm.Cond.instanceMethod ({ cls := "DrumMaps", name := "send", desc := "(II)I" } : Jvm.MethodName)) ∈ gtbl := g_in (List.mem_of_getElem? (i := 650) (by decide +kernel)) rfl
theorem gw_595 : (Jvm.Cond.selects "DrumMaps" ({ cls := "DrumMaps", name := "send", desc := "(II)I" } : Jvm.MethodName) ({ cls := "DrumMaps", name := "send", desc := "(II)I" } : Jvm.MethodName)) ∈ gtbl := g_in (List.mem_of_getElem? (i := 651) (by decide +kernel)) rfl
theorem gw_596 : (Jvm.Cond.code ({ cls := "DrumMaps", name := "send", desc := "(II)I" } : Jvm.MethodName) prog_1_method_16_code (4 : Nat) (Option.some Jvm.ClassFile.FieldType.int)) ∈ gtbl := g_in (List.mem_of_getElem? (i := 652) (by decide +kernel)) rfl
theorem gw_597 : (Jvm.Cond.methodLink "DrumMaps" (202 : Nat) ({ cls := "DrumMaps$Traveller", name := "goTo", desc := "(I)V" } : Jvm.MethodName)) ∈ gtbl := g_in (List.mem_of_getElem? (i := 653) (by decide +kernel)) rfl
theorem gw_598 : (Jvm.Cond.methodLink "DrumMapsLaw" (78 : Nat) ({ cls := "DrumMaps", name := "undo", desc := "()I" } : Jvm.MethodName)) ∈ gtbl := g_in (List.mem_of_getElem? (i := 654) (by decide +kernel)) rfl
theorem gw_599 : (Jvm.Cond.instanceMethod ({ cls := "DrumMaps", name := "undo", desc := "()I" } : Jvm.MethodName)) ∈ gtbl := g_in (List.mem_of_getElem? (i := 655) (by decide +kernel)) rfl
theorem gw_600 : (Jvm.Cond.selects "DrumMaps" ({ cls := "DrumMaps", name := "undo", desc := "()I" } : Jvm.MethodName) ({ cls := "DrumMaps", name := "undo", desc := "()I" } : Jvm.MethodName)) ∈ gtbl := g_in (List.mem_of_getElem? (i := 656) (by decide +kernel)) rfl
theorem gw_601 : (Jvm.Cond.code ({ cls := "DrumMaps", name := "undo", desc := "()I" } : Jvm.MethodName) prog_1_method_17_code (1 : Nat) (Option.some Jvm.ClassFile.FieldType.int)) ∈ gtbl := g_in (List.mem_of_getElem? (i := 657) (by decide +kernel)) rfl
theorem gw_602 : (Jvm.Cond.methodLink "DrumMaps" (205 : Nat) ({ cls := "DrumMaps$Shelf", name := "takeInto", desc := "(LDrumMaps$Forest;)Z" } : Jvm.MethodName)) ∈ gtbl := g_in (List.mem_of_getElem? (i := 658) (by decide +kernel)) rfl
theorem gw_603 : (Jvm.Cond.instanceMethod ({ cls := "DrumMaps$Shelf", name := "takeInto", desc := "(LDrumMaps$Forest;)Z" } : Jvm.MethodName)) ∈ gtbl := g_in (List.mem_of_getElem? (i := 659) (by decide +kernel)) rfl
theorem gw_604 : (Jvm.Cond.selects "DrumMaps$Shelf" ({ cls := "DrumMaps$Shelf", name := "takeInto", desc := "(LDrumMaps$Forest;)Z" } : Jvm.MethodName) ({ cls := "DrumMaps$Shelf", name := "takeInto", desc := "(LDrumMaps$Forest;)Z" } : Jvm.MethodName)) ∈ gtbl := g_in (List.mem_of_getElem? (i := 660) (by decide +kernel)) rfl
theorem gw_605 : (Jvm.Cond.code ({ cls := "DrumMaps$Shelf", name := "takeInto", desc := "(LDrumMaps$Forest;)Z" } : Jvm.MethodName) prog_6_method_5_code (2 : Nat) (Option.some Jvm.ClassFile.FieldType.boolean)) ∈ gtbl := g_in (List.mem_of_getElem? (i := 661) (by decide +kernel)) rfl
theorem gw_606 : (Jvm.Cond.methodLink "DrumMapsLaw" (82 : Nat) ({ cls := "DrumMaps", name := "arrives", desc := "(I)I" } : Jvm.MethodName)) ∈ gtbl := g_in (List.mem_of_getElem? (i := 662) (by decide +kernel)) rfl
theorem gw_607 : (Jvm.Cond.instanceMethod ({ cls := "DrumMaps", name := "arrives", desc := "(I)I" } : Jvm.MethodName)) ∈ gtbl := g_in (List.mem_of_getElem? (i := 663) (by decide +kernel)) rfl
theorem gw_608 : (Jvm.Cond.selects "DrumMaps" ({ cls := "DrumMaps", name := "arrives", desc := "(I)I" } : Jvm.MethodName) ({ cls := "DrumMaps", name := "arrives", desc := "(I)I" } : Jvm.MethodName)) ∈ gtbl := g_in (List.mem_of_getElem? (i := 664) (by decide +kernel)) rfl
theorem gw_609 : (Jvm.Cond.code ({ cls := "DrumMaps", name := "arrives", desc := "(I)I" } : Jvm.MethodName) prog_1_method_18_code (2 : Nat) (Option.some Jvm.ClassFile.FieldType.int)) ∈ gtbl := g_in (List.mem_of_getElem? (i := 665) (by decide +kernel)) rfl
theorem gw_610 : (Jvm.Cond.methodLink "DrumMaps" (212 : Nat) ({ cls := "DrumMaps$Traveller", name := "copyFrom", desc := "(LDrumMaps$Traveller;)V" } : Jvm.MethodName)) ∈ gtbl := g_in (List.mem_of_getElem? (i := 666) (by decide +kernel)) rfl
theorem gw_611 : (Jvm.Cond.methodLink "DrumMaps" (216 : Nat) ({ cls := "DrumMaps", name := "hoursUntil", desc := "(LDrumMaps$Forest;I)I" } : Jvm.MethodName)) ∈ gtbl := g_in (List.mem_of_getElem? (i := 667) (by decide +kernel)) rfl
theorem gw_613 : (Jvm.Cond.instanceMethod ({ cls := "DrumMaps", name := "hoursUntil", desc := "(LDrumMaps$Forest;I)I" } : Jvm.MethodName)) ∈ gtbl := g_in (List.mem_of_getElem? (i := 669) (by decide +kernel)) rfl
theorem gw_614 : (Jvm.Cond.code ({ cls := "DrumMaps", name := "hoursUntil", desc := "(LDrumMaps$Forest;I)I" } : Jvm.MethodName) prog_1_method_45_code (4 : Nat) (Option.some Jvm.ClassFile.FieldType.int)) ∈ gtbl := g_in (List.mem_of_getElem? (i := 670) (by decide +kernel)) rfl
theorem gw_615 : (Jvm.Cond.methodLink "DrumMapsLaw" (86 : Nat) ({ cls := "DrumMaps", name := "loses", desc := "(I)I" } : Jvm.MethodName)) ∈ gtbl := g_in (List.mem_of_getElem? (i := 671) (by decide +kernel)) rfl
theorem gw_616 : (Jvm.Cond.instanceMethod ({ cls := "DrumMaps", name := "loses", desc := "(I)I" } : Jvm.MethodName)) ∈ gtbl := g_in (List.mem_of_getElem? (i := 672) (by decide +kernel)) rfl
theorem gw_617 : (Jvm.Cond.selects "DrumMaps" ({ cls := "DrumMaps", name := "loses", desc := "(I)I" } : Jvm.MethodName) ({ cls := "DrumMaps", name := "loses", desc := "(I)I" } : Jvm.MethodName)) ∈ gtbl := g_in (List.mem_of_getElem? (i := 673) (by decide +kernel)) rfl
theorem gw_618 : (Jvm.Cond.code ({ cls := "DrumMaps", name := "loses", desc := "(I)I" } : Jvm.MethodName) prog_1_method_19_code (2 : Nat) (Option.some Jvm.ClassFile.FieldType.int)) ∈ gtbl := g_in (List.mem_of_getElem? (i := 674) (by decide +kernel)) rfl
theorem gw_619 : (Jvm.Cond.methodLink "DrumMapsLaw" (90 : Nat) ({ cls := "DrumMaps", name := "led", desc := "(III)I" } : Jvm.MethodName)) ∈ gtbl := g_in (List.mem_of_getElem? (i := 675) (by decide +kernel)) rfl
theorem gw_620 : (Jvm.Cond.instanceMethod ({ cls := "DrumMaps", name := "led", desc := "(III)I" } : Jvm.MethodName)) ∈ gtbl := g_in (List.mem_of_getElem? (i := 676) (by decide +kernel)) rfl
theorem gw_621 : (Jvm.Cond.selects "DrumMaps" ({ cls := "DrumMaps", name := "led", desc := "(III)I" } : Jvm.MethodName) ({ cls := "DrumMaps", name := "led", desc := "(III)I" } : Jvm.MethodName)) ∈ gtbl := g_in (List.mem_of_getElem? (i := 677) (by decide +kernel)) rfl
theorem gw_622 : (Jvm.Cond.code ({ cls := "DrumMaps", name := "led", desc := "(III)I" } : Jvm.MethodName) prog_1_method_20_code (4 : Nat) (Option.some Jvm.ClassFile.FieldType.int)) ∈ gtbl := g_in (List.mem_of_getElem? (i := 678) (by decide +kernel)) rfl
theorem gw_623 : (Jvm.Cond.methodLink "DrumMaps" (220 : Nat) ({ cls := "DrumMaps", name := "hoursLed", desc := "(III)I" } : Jvm.MethodName)) ∈ gtbl := g_in (List.mem_of_getElem? (i := 679) (by decide +kernel)) rfl
theorem gw_625 : (Jvm.Cond.instanceMethod ({ cls := "DrumMaps", name := "hoursLed", desc := "(III)I" } : Jvm.MethodName)) ∈ gtbl := g_in (List.mem_of_getElem? (i := 681) (by decide +kernel)) rfl
theorem gw_626 : (Jvm.Cond.code ({ cls := "DrumMaps", name := "hoursLed", desc := "(III)I" } : Jvm.MethodName) prog_1_method_47_code (4 : Nat) (Option.some Jvm.ClassFile.FieldType.int)) ∈ gtbl := g_in (List.mem_of_getElem? (i := 682) (by decide +kernel)) rfl
theorem gw_627 : (Jvm.Cond.methodLink "DrumMaps" (308 : Nat) ({ cls := "DrumMaps$Traveller", name := "start", desc := "(III)V" } : Jvm.MethodName)) ∈ gtbl := g_in (List.mem_of_getElem? (i := 683) (by decide +kernel)) rfl
theorem gw_628 : (Jvm.Cond.methodLink "DrumMapsLaw" (94 : Nat) ({ cls := "DrumMaps", name := "fastest", desc := "(I)I" } : Jvm.MethodName)) ∈ gtbl := g_in (List.mem_of_getElem? (i := 684) (by decide +kernel)) rfl
theorem gw_629 : (Jvm.Cond.instanceMethod ({ cls := "DrumMaps", name := "fastest", desc := "(I)I" } : Jvm.MethodName)) ∈ gtbl := g_in (List.mem_of_getElem? (i := 685) (by decide +kernel)) rfl
theorem gw_630 : (Jvm.Cond.selects "DrumMaps" ({ cls := "DrumMaps", name := "fastest", desc := "(I)I" } : Jvm.MethodName) ({ cls := "DrumMaps", name := "fastest", desc := "(I)I" } : Jvm.MethodName)) ∈ gtbl := g_in (List.mem_of_getElem? (i := 686) (by decide +kernel)) rfl
theorem gw_631 : (Jvm.Cond.code ({ cls := "DrumMaps", name := "fastest", desc := "(I)I" } : Jvm.MethodName) prog_1_method_21_code (7 : Nat) (Option.some Jvm.ClassFile.FieldType.int)) ∈ gtbl := g_in (List.mem_of_getElem? (i := 687) (by decide +kernel)) rfl
theorem gw_632 : (Jvm.Cond.methodLink "DrumMaps" (228 : Nat) ({ cls := "DrumMaps", name := "hoursToArrive", desc := "(LDrumMaps$Forest;LDrumMaps$Traveller;I)I" } : Jvm.MethodName)) ∈ gtbl := g_in (List.mem_of_getElem? (i := 688) (by decide +kernel)) rfl
theorem gw_634 : (Jvm.Cond.instanceMethod ({ cls := "DrumMaps", name := "hoursToArrive", desc := "(LDrumMaps$Forest;LDrumMaps$Traveller;I)I" } : Jvm.MethodName)) ∈ gtbl := g_in (List.mem_of_getElem? (i := 690) (by decide +kernel)) rfl
theorem gw_635 : (Jvm.Cond.code ({ cls := "DrumMaps", name := "hoursToArrive", desc := "(LDrumMaps$Forest;LDrumMaps$Traveller;I)I" } : Jvm.MethodName) prog_1_method_46_code (4 : Nat) (Option.some Jvm.ClassFile.FieldType.int)) ∈ gtbl := g_in (List.mem_of_getElem? (i := 691) (by decide +kernel)) rfl
theorem gw_636 : (Jvm.Cond.methodLink "DrumMapsLaw" (98 : Nat) ({ cls := "DrumMaps", name := "tune", desc := "(I)I" } : Jvm.MethodName)) ∈ gtbl := g_in (List.mem_of_getElem? (i := 692) (by decide +kernel)) rfl
theorem gw_637 : (Jvm.Cond.instanceMethod ({ cls := "DrumMaps", name := "tune", desc := "(I)I" } : Jvm.MethodName)) ∈ gtbl := g_in (List.mem_of_getElem? (i := 693) (by decide +kernel)) rfl
theorem gw_638 : (Jvm.Cond.selects "DrumMaps" ({ cls := "DrumMaps", name := "tune", desc := "(I)I" } : Jvm.MethodName) ({ cls := "DrumMaps", name := "tune", desc := "(I)I" } : Jvm.MethodName)) ∈ gtbl := g_in (List.mem_of_getElem? (i := 694) (by decide +kernel)) rfl
theorem gw_639 : (Jvm.Cond.code ({ cls := "DrumMaps", name := "tune", desc := "(I)I" } : Jvm.MethodName) prog_1_method_22_code (9 : Nat) (Option.some Jvm.ClassFile.FieldType.int)) ∈ gtbl := g_in (List.mem_of_getElem? (i := 695) (by decide +kernel)) rfl
theorem gw_640 : (Jvm.Cond.methodLink "DrumMapsLaw" (102 : Nat) ({ cls := "DrumMaps", name := "meet", desc := "(II)I" } : Jvm.MethodName)) ∈ gtbl := g_in (List.mem_of_getElem? (i := 696) (by decide +kernel)) rfl
theorem gw_641 : (Jvm.Cond.instanceMethod ({ cls := "DrumMaps", name := "meet", desc := "(II)I" } : Jvm.MethodName)) ∈ gtbl := g_in (List.mem_of_getElem? (i := 697) (by decide +kernel)) rfl
theorem gw_642 : (Jvm.Cond.selects "DrumMaps" ({ cls := "DrumMaps", name := "meet", desc := "(II)I" } : Jvm.MethodName) ({ cls := "DrumMaps", name := "meet", desc := "(II)I" } : Jvm.MethodName)) ∈ gtbl := g_in (List.mem_of_getElem? (i := 698) (by decide +kernel)) rfl
theorem gw_643 : (Jvm.Cond.code ({ cls := "DrumMaps", name := "meet", desc := "(II)I" } : Jvm.MethodName) prog_1_method_23_code (4 : Nat) (Option.some Jvm.ClassFile.FieldType.int)) ∈ gtbl := g_in (List.mem_of_getElem? (i := 699) (by decide +kernel)) rfl
theorem gw_644 : (Jvm.Cond.methodLink "DrumMaps" (234 : Nat) ({ cls := "DrumMaps$Traveller", name := "isWith", desc := "(LDrumMaps$Traveller;)Z" } : Jvm.MethodName)) ∈ gtbl := g_in (List.mem_of_getElem? (i := 700) (by decide +kernel)) rfl
theorem gw_645 : (Jvm.Cond.instanceMethod ({ cls := "DrumMaps$Traveller", name := "isWith", desc := "(LDrumMaps$Traveller;)Z" } : Jvm.MethodName)) ∈ gtbl := g_in (List.mem_of_getElem? (i := 701) (by decide +kernel)) rfl
theorem gw_646 : (Jvm.Cond.selects "DrumMaps$Traveller" ({ cls := "DrumMaps$Traveller", name := "isWith", desc := "(LDrumMaps$Traveller;)Z" } : Jvm.MethodName) ({ cls := "DrumMaps$Traveller", name := "isWith", desc := "(LDrumMaps$Traveller;)Z" } : Jvm.MethodName)) ∈ gtbl := g_in (List.mem_of_getElem? (i := 702) (by decide +kernel)) rfl
theorem gw_647 : (Jvm.Cond.code ({ cls := "DrumMaps$Traveller", name := "isWith", desc := "(LDrumMaps$Traveller;)Z" } : Jvm.MethodName) prog_8_method_7_code (2 : Nat) (Option.some Jvm.ClassFile.FieldType.boolean)) ∈ gtbl := g_in (List.mem_of_getElem? (i := 703) (by decide +kernel)) rfl
theorem gw_648 : (Jvm.Cond.methodLink "DrumMapsLaw" (106 : Nat) ({ cls := "DrumMaps", name := "clash", desc := "(III)I" } : Jvm.MethodName)) ∈ gtbl := g_in (List.mem_of_getElem? (i := 704) (by decide +kernel)) rfl
theorem gw_649 : (Jvm.Cond.instanceMethod ({ cls := "DrumMaps", name := "clash", desc := "(III)I" } : Jvm.MethodName)) ∈ gtbl := g_in (List.mem_of_getElem? (i := 705) (by decide +kernel)) rfl
theorem gw_650 : (Jvm.Cond.selects "DrumMaps" ({ cls := "DrumMaps", name := "clash", desc := "(III)I" } : Jvm.MethodName) ({ cls := "DrumMaps", name := "clash", desc := "(III)I" } : Jvm.MethodName)) ∈ gtbl := g_in (List.mem_of_getElem? (i := 706) (by decide +kernel)) rfl
theorem gw_651 : (Jvm.Cond.code ({ cls := "DrumMaps", name := "clash", desc := "(III)I" } : Jvm.MethodName) prog_1_method_24_code (7 : Nat) (Option.some Jvm.ClassFile.FieldType.int)) ∈ gtbl := g_in (List.mem_of_getElem? (i := 707) (by decide +kernel)) rfl
theorem gw_652 : (Jvm.Cond.methodLink "DrumMapsLaw" (110 : Nat) ({ cls := "DrumMaps", name := "right", desc := "(II)I" } : Jvm.MethodName)) ∈ gtbl := g_in (List.mem_of_getElem? (i := 708) (by decide +kernel)) rfl
theorem gw_653 : (Jvm.Cond.instanceMethod ({ cls := "DrumMaps", name := "right", desc := "(II)I" } : Jvm.MethodName)) ∈ gtbl := g_in (List.mem_of_getElem? (i := 709) (by decide +kernel)) rfl
theorem gw_654 : (Jvm.Cond.selects "DrumMaps" ({ cls := "DrumMaps", name := "right", desc := "(II)I" } : Jvm.MethodName) ({ cls := "DrumMaps", name := "right", desc := "(II)I" } : Jvm.MethodName)) ∈ gtbl := g_in (List.mem_of_getElem? (i := 710) (by decide +kernel)) rfl
theorem gw_655 : (Jvm.Cond.code ({ cls := "DrumMaps", name := "right", desc := "(II)I" } : Jvm.MethodName) prog_1_method_25_code (7 : Nat) (Option.some Jvm.ClassFile.FieldType.int)) ∈ gtbl := g_in (List.mem_of_getElem? (i := 711) (by decide +kernel)) rfl
theorem gw_656 : (Jvm.Cond.methodLink "DrumMapsLaw" (114 : Nat) ({ cls := "DrumMaps", name := "hear", desc := "(II)I" } : Jvm.MethodName)) ∈ gtbl := g_in (List.mem_of_getElem? (i := 712) (by decide +kernel)) rfl
theorem gw_657 : (Jvm.Cond.instanceMethod ({ cls := "DrumMaps", name := "hear", desc := "(II)I" } : Jvm.MethodName)) ∈ gtbl := g_in (List.mem_of_getElem? (i := 713) (by decide +kernel)) rfl
theorem gw_658 : (Jvm.Cond.selects "DrumMaps" ({ cls := "DrumMaps", name := "hear", desc := "(II)I" } : Jvm.MethodName) ({ cls := "DrumMaps", name := "hear", desc := "(II)I" } : Jvm.MethodName)) ∈ gtbl := g_in (List.mem_of_getElem? (i := 714) (by decide +kernel)) rfl
theorem gw_659 : (Jvm.Cond.code ({ cls := "DrumMaps", name := "hear", desc := "(II)I" } : Jvm.MethodName) prog_1_method_26_code (3 : Nat) (Option.some Jvm.ClassFile.FieldType.int)) ∈ gtbl := g_in (List.mem_of_getElem? (i := 715) (by decide +kernel)) rfl
theorem gw_660 : (Jvm.Cond.methodLink "DrumMaps" (245 : Nat) ({ cls := "DrumMaps$Row", name := "put", desc := "(II)V" } : Jvm.MethodName)) ∈ gtbl := g_in (List.mem_of_getElem? (i := 716) (by decide +kernel)) rfl
theorem gw_661 : (Jvm.Cond.methodLink "DrumMapsLaw" (118 : Nat) ({ cls := "DrumMaps", name := "forget", desc := "()I" } : Jvm.MethodName)) ∈ gtbl := g_in (List.mem_of_getElem? (i := 717) (by decide +kernel)) rfl
theorem gw_662 : (Jvm.Cond.instanceMethod ({ cls := "DrumMaps", name := "forget", desc := "()I" } : Jvm.MethodName)) ∈ gtbl := g_in (List.mem_of_getElem? (i := 718) (by decide +kernel)) rfl
theorem gw_663 : (Jvm.Cond.selects "DrumMaps" ({ cls := "DrumMaps", name := "forget", desc := "()I" } : Jvm.MethodName) ({ cls := "DrumMaps", name := "forget", desc := "()I" } : Jvm.MethodName)) ∈ gtbl := g_in (List.mem_of_getElem? (i := 719) (by decide +kernel)) rfl
theorem gw_664 : (Jvm.Cond.code ({ cls := "DrumMaps", name := "forget", desc := "()I" } : Jvm.MethodName) prog_1_method_27_code (2 : Nat) (Option.some Jvm.ClassFile.FieldType.int)) ∈ gtbl := g_in (List.mem_of_getElem? (i := 720) (by decide +kernel)) rfl
theorem gw_665 : (Jvm.Cond.methodLink "DrumMapsLaw" (122 : Nat) ({ cls := "DrumMaps", name := "which", desc := "()I" } : Jvm.MethodName)) ∈ gtbl := g_in (List.mem_of_getElem? (i := 721) (by decide +kernel)) rfl
theorem gw_666 : (Jvm.Cond.instanceMethod ({ cls := "DrumMaps", name := "which", desc := "()I" } : Jvm.MethodName)) ∈ gtbl := g_in (List.mem_of_getElem? (i := 722) (by decide +kernel)) rfl
theorem gw_667 : (Jvm.Cond.selects "DrumMaps" ({ cls := "DrumMaps", name := "which", desc := "()I" } : Jvm.MethodName) ({ cls := "DrumMaps", name := "which", desc := "()I" } : Jvm.MethodName)) ∈ gtbl := g_in (List.mem_of_getElem? (i := 723) (by decide +kernel)) rfl
theorem gw_668 : (Jvm.Cond.code ({ cls := "DrumMaps", name := "which", desc := "()I" } : Jvm.MethodName) prog_1_method_28_code (3 : Nat) (Option.some Jvm.ClassFile.FieldType.int)) ∈ gtbl := g_in (List.mem_of_getElem? (i := 724) (by decide +kernel)) rfl
theorem gw_669 : (Jvm.Cond.methodLink "DrumMaps" (249 : Nat) ({ cls := "DrumMaps", name := "toldAllHeard", desc := "(I)Z" } : Jvm.MethodName)) ∈ gtbl := g_in (List.mem_of_getElem? (i := 725) (by decide +kernel)) rfl
theorem gw_671 : (Jvm.Cond.instanceMethod ({ cls := "DrumMaps", name := "toldAllHeard", desc := "(I)Z" } : Jvm.MethodName)) ∈ gtbl := g_in (List.mem_of_getElem? (i := 727) (by decide +kernel)) rfl
theorem gw_672 : (Jvm.Cond.code ({ cls := "DrumMaps", name := "toldAllHeard", desc := "(I)Z" } : Jvm.MethodName) prog_1_method_50_code (3 : Nat) (Option.some Jvm.ClassFile.FieldType.boolean)) ∈ gtbl := g_in (List.mem_of_getElem? (i := 728) (by decide +kernel)) rfl
theorem gw_673 : (Jvm.Cond.methodLink "DrumMapsLaw" (126 : Nat) ({ cls := "DrumMaps", name := "seen", desc := "(III)I" } : Jvm.MethodName)) ∈ gtbl := g_in (List.mem_of_getElem? (i := 729) (by decide +kernel)) rfl
theorem gw_674 : (Jvm.Cond.instanceMethod ({ cls := "DrumMaps", name := "seen", desc := "(III)I" } : Jvm.MethodName)) ∈ gtbl := g_in (List.mem_of_getElem? (i := 730) (by decide +kernel)) rfl
theorem gw_675 : (Jvm.Cond.selects "DrumMaps" ({ cls := "DrumMaps", name := "seen", desc := "(III)I" } : Jvm.MethodName) ({ cls := "DrumMaps", name := "seen", desc := "(III)I" } : Jvm.MethodName)) ∈ gtbl := g_in (List.mem_of_getElem? (i := 731) (by decide +kernel)) rfl
theorem gw_676 : (Jvm.Cond.code ({ cls := "DrumMaps", name := "seen", desc := "(III)I" } : Jvm.MethodName) prog_1_method_29_code (6 : Nat) (Option.some Jvm.ClassFile.FieldType.int)) ∈ gtbl := g_in (List.mem_of_getElem? (i := 732) (by decide +kernel)) rfl
theorem gw_677 : (Jvm.Cond.methodLink "DrumMaps" (252 : Nat) ({ cls := "DrumMaps", name := "placeBehind", desc := "(LDrumMaps$Traveller;II)I" } : Jvm.MethodName)) ∈ gtbl := g_in (List.mem_of_getElem? (i := 733) (by decide +kernel)) rfl
theorem gw_679 : (Jvm.Cond.instanceMethod ({ cls := "DrumMaps", name := "placeBehind", desc := "(LDrumMaps$Traveller;II)I" } : Jvm.MethodName)) ∈ gtbl := g_in (List.mem_of_getElem? (i := 735) (by decide +kernel)) rfl
theorem gw_680 : (Jvm.Cond.code ({ cls := "DrumMaps", name := "placeBehind", desc := "(LDrumMaps$Traveller;II)I" } : Jvm.MethodName) prog_1_method_48_code (5 : Nat) (Option.some Jvm.ClassFile.FieldType.int)) ∈ gtbl := g_in (List.mem_of_getElem? (i := 736) (by decide +kernel)) rfl
theorem gw_681 : (Jvm.Cond.methodLink "DrumMapsLaw" (130 : Nat) ({ cls := "DrumMaps", name := "rains", desc := "(IIII)I" } : Jvm.MethodName)) ∈ gtbl := g_in (List.mem_of_getElem? (i := 737) (by decide +kernel)) rfl
theorem gw_682 : (Jvm.Cond.instanceMethod ({ cls := "DrumMaps", name := "rains", desc := "(IIII)I" } : Jvm.MethodName)) ∈ gtbl := g_in (List.mem_of_getElem? (i := 738) (by decide +kernel)) rfl
theorem gw_683 : (Jvm.Cond.selects "DrumMaps" ({ cls := "DrumMaps", name := "rains", desc := "(IIII)I" } : Jvm.MethodName) ({ cls := "DrumMaps", name := "rains", desc := "(IIII)I" } : Jvm.MethodName)) ∈ gtbl := g_in (List.mem_of_getElem? (i := 739) (by decide +kernel)) rfl
theorem gw_684 : (Jvm.Cond.code ({ cls := "DrumMaps", name := "rains", desc := "(IIII)I" } : Jvm.MethodName) prog_1_method_30_code (10 : Nat) (Option.some Jvm.ClassFile.FieldType.int)) ∈ gtbl := g_in (List.mem_of_getElem? (i := 740) (by decide +kernel)) rfl
theorem gw_685 : (Jvm.Cond.methodLink "DrumMaps" (256 : Nat) ({ cls := "DrumMaps", name := "weightIfThere", desc := "(LDrumMaps$Traveller;III)I" } : Jvm.MethodName)) ∈ gtbl := g_in (List.mem_of_getElem? (i := 741) (by decide +kernel)) rfl
theorem gw_687 : (Jvm.Cond.instanceMethod ({ cls := "DrumMaps", name := "weightIfThere", desc := "(LDrumMaps$Traveller;III)I" } : Jvm.MethodName)) ∈ gtbl := g_in (List.mem_of_getElem? (i := 743) (by decide +kernel)) rfl
theorem gw_688 : (Jvm.Cond.code ({ cls := "DrumMaps", name := "weightIfThere", desc := "(LDrumMaps$Traveller;III)I" } : Jvm.MethodName) prog_1_method_51_code (7 : Nat) (Option.some Jvm.ClassFile.FieldType.int)) ∈ gtbl := g_in (List.mem_of_getElem? (i := 744) (by decide +kernel)) rfl
theorem gw_689 : (Jvm.Cond.methodLink "DrumMaps" (260 : Nat) ({ cls := "DrumMaps", name := "greatestDivisor", desc := "(II)I" } : Jvm.MethodName)) ∈ gtbl := g_in (List.mem_of_getElem? (i := 745) (by decide +kernel)) rfl
theorem gw_690 : (Jvm.Cond.static ({ cls := "DrumMaps", name := "greatestDivisor", desc := "(II)I" } : Jvm.MethodName)) ∈ gtbl := g_in (List.mem_of_getElem? (i := 746) (by decide +kernel)) rfl
theorem gw_691 : (Jvm.Cond.code ({ cls := "DrumMaps", name := "greatestDivisor", desc := "(II)I" } : Jvm.MethodName) prog_1_method_38_code (6 : Nat) (Option.some Jvm.ClassFile.FieldType.int)) ∈ gtbl := g_in (List.mem_of_getElem? (i := 747) (by decide +kernel)) rfl
theorem gw_692 : (Jvm.Cond.methodLink "DrumMapsLaw" (134 : Nat) ({ cls := "DrumMaps", name := "year", desc := "(III)I" } : Jvm.MethodName)) ∈ gtbl := g_in (List.mem_of_getElem? (i := 748) (by decide +kernel)) rfl
theorem gw_693 : (Jvm.Cond.instanceMethod ({ cls := "DrumMaps", name := "year", desc := "(III)I" } : Jvm.MethodName)) ∈ gtbl := g_in (List.mem_of_getElem? (i := 749) (by decide +kernel)) rfl
theorem gw_694 : (Jvm.Cond.selects "DrumMaps" ({ cls := "DrumMaps", name := "year", desc := "(III)I" } : Jvm.MethodName) ({ cls := "DrumMaps", name := "year", desc := "(III)I" } : Jvm.MethodName)) ∈ gtbl := g_in (List.mem_of_getElem? (i := 750) (by decide +kernel)) rfl
theorem gw_695 : (Jvm.Cond.code ({ cls := "DrumMaps", name := "year", desc := "(III)I" } : Jvm.MethodName) prog_1_method_31_code (5 : Nat) (Option.some Jvm.ClassFile.FieldType.int)) ∈ gtbl := g_in (List.mem_of_getElem? (i := 751) (by decide +kernel)) rfl
theorem gw_696 : (Jvm.Cond.methodLink "DrumMaps" (263 : Nat) ({ cls := "DrumMaps", name := "drawOf", desc := "(II)I" } : Jvm.MethodName)) ∈ gtbl := g_in (List.mem_of_getElem? (i := 752) (by decide +kernel)) rfl
theorem gw_697 : (Jvm.Cond.static ({ cls := "DrumMaps", name := "drawOf", desc := "(II)I" } : Jvm.MethodName)) ∈ gtbl := g_in (List.mem_of_getElem? (i := 753) (by decide +kernel)) rfl
theorem gw_698 : (Jvm.Cond.code ({ cls := "DrumMaps", name := "drawOf", desc := "(II)I" } : Jvm.MethodName) prog_1_method_52_code (4 : Nat) (Option.some Jvm.ClassFile.FieldType.int)) ∈ gtbl := g_in (List.mem_of_getElem? (i := 754) (by decide +kernel)) rfl
theorem gw_699 : (Jvm.Cond.constantLong "DrumMaps" (311 : Nat) (7919 : Int64)) ∈ gtbl := g_in (List.mem_of_getElem? (i := 755) (by decide +kernel)) rfl
theorem gw_700 : (Jvm.Cond.constantLong "DrumMaps" (313 : Nat) (6151 : Int64)) ∈ gtbl := g_in (List.mem_of_getElem? (i := 756) (by decide +kernel)) rfl
theorem gw_701 : (Jvm.Cond.constantLong "DrumMaps" (315 : Nat) (65521 : Int64)) ∈ gtbl := g_in (List.mem_of_getElem? (i := 757) (by decide +kernel)) rfl
theorem gw_702 : (Jvm.Cond.methodLink "DrumMaps" (266 : Nat) ({ cls := "DrumMaps", name := "stir", desc := "(LDrumMaps$Forest;I)V" } : Jvm.MethodName)) ∈ gtbl := g_in (List.mem_of_getElem? (i := 758) (by decide +kernel)) rfl
theorem gw_704 : (Jvm.Cond.instanceMethod ({ cls := "DrumMaps", name := "stir", desc := "(LDrumMaps$Forest;I)V" } : Jvm.MethodName)) ∈ gtbl := g_in (List.mem_of_getElem? (i := 760) (by decide +kernel)) rfl
theorem gw_705 : (Jvm.Cond.code ({ cls := "DrumMaps", name := "stir", desc := "(LDrumMaps$Forest;I)V" } : Jvm.MethodName) prog_1_method_53_code (5 : Nat) (Option.none : Option Jvm.ClassFile.FieldType)) ∈ gtbl := g_in (List.mem_of_getElem? (i := 761) (by decide +kernel)) rfl
theorem gw_706 : (Jvm.Cond.methodLink "DrumMaps" (317 : Nat) ({ cls := "DrumMaps", name := "modulo", desc := "(II)I" } : Jvm.MethodName)) ∈ gtbl := g_in (List.mem_of_getElem? (i := 762) (by decide +kernel)) rfl
theorem gw_707 : (Jvm.Cond.methodLink "DrumMaps" (320 : Nat) ({ cls := "DrumMaps", name := "sendIfHeCan", desc := "(LDrumMaps$Forest;II)V" } : Jvm.MethodName)) ∈ gtbl := g_in (List.mem_of_getElem? (i := 763) (by decide +kernel)) rfl
theorem gw_709 : (Jvm.Cond.instanceMethod ({ cls := "DrumMaps", name := "sendIfHeCan", desc := "(LDrumMaps$Forest;II)V" } : Jvm.MethodName)) ∈ gtbl := g_in (List.mem_of_getElem? (i := 765) (by decide +kernel)) rfl
theorem gw_710 : (Jvm.Cond.code ({ cls := "DrumMaps", name := "sendIfHeCan", desc := "(LDrumMaps$Forest;II)V" } : Jvm.MethodName) prog_1_method_54_code (4 : Nat) (Option.none : Option Jvm.ClassFile.FieldType)) ∈ gtbl := g_in (List.mem_of_getElem? (i := 766) (by decide +kernel)) rfl
theorem gw_711 : (Jvm.Cond.methodLink "DrumMaps" (270 : Nat) ({ cls := "DrumMaps$Forest", name := "howMany", desc := "(LDrumMaps$Land;I)I" } : Jvm.MethodName)) ∈ gtbl := g_in (List.mem_of_getElem? (i := 767) (by decide +kernel)) rfl
theorem gw_712 : (Jvm.Cond.instanceMethod ({ cls := "DrumMaps$Forest", name := "howMany", desc := "(LDrumMaps$Land;I)I" } : Jvm.MethodName)) ∈ gtbl := g_in (List.mem_of_getElem? (i := 768) (by decide +kernel)) rfl
theorem gw_713 : (Jvm.Cond.selects "DrumMaps$Forest" ({ cls := "DrumMaps$Forest", name := "howMany", desc := "(LDrumMaps$Land;I)I" } : Jvm.MethodName) ({ cls := "DrumMaps$Forest", name := "howMany", desc := "(LDrumMaps$Land;I)I" } : Jvm.MethodName)) ∈ gtbl := g_in (List.mem_of_getElem? (i := 769) (by decide +kernel)) rfl
theorem gw_714 : (Jvm.Cond.code ({ cls := "DrumMaps$Forest", name := "howMany", desc := "(LDrumMaps$Land;I)I" } : Jvm.MethodName) prog_2_method_7_code (5 : Nat) (Option.some Jvm.ClassFile.FieldType.int)) ∈ gtbl := g_in (List.mem_of_getElem? (i := 770) (by decide +kernel)) rfl
theorem gw_715 : (Jvm.Cond.methodLink "DrumMapsLaw" (138 : Nat) ({ cls := "DrumMaps", name := "keep", desc := "()I" } : Jvm.MethodName)) ∈ gtbl := g_in (List.mem_of_getElem? (i := 771) (by decide +kernel)) rfl
theorem gw_716 : (Jvm.Cond.instanceMethod ({ cls := "DrumMaps", name := "keep", desc := "()I" } : Jvm.MethodName)) ∈ gtbl := g_in (List.mem_of_getElem? (i := 772) (by decide +kernel)) rfl
theorem gw_717 : (Jvm.Cond.selects "DrumMaps" ({ cls := "DrumMaps", name := "keep", desc := "()I" } : Jvm.MethodName) ({ cls := "DrumMaps", name := "keep", desc := "()I" } : Jvm.MethodName)) ∈ gtbl := g_in (List.mem_of_getElem? (i := 773) (by decide +kernel)) rfl
theorem gw_718 : (Jvm.Cond.code ({ cls := "DrumMaps", name := "keep", desc := "()I" } : Jvm.MethodName) prog_1_method_32_code (1 : Nat) (Option.some Jvm.ClassFile.FieldType.int)) ∈ gtbl := g_in (List.mem_of_getElem? (i := 774) (by decide +kernel)) rfl
theorem gw_719 : (Jvm.Cond.methodLink "DrumMaps" (273 : Nat) ({ cls := "DrumMaps$Shelf", name := "isFull", desc := "()Z" } : Jvm.MethodName)) ∈ gtbl := g_in (List.mem_of_getElem? (i := 775) (by decide +kernel)) rfl
theorem gw_720 : (Jvm.Cond.methodLink "DrumMapsLaw" (142 : Nat) ({ cls := "DrumMaps", name := "back", desc := "()I" } : Jvm.MethodName)) ∈ gtbl := g_in (List.mem_of_getElem? (i := 776) (by decide +kernel)) rfl
theorem gw_721 : (Jvm.Cond.instanceMethod ({ cls := "DrumMaps", name := "back", desc := "()I" } : Jvm.MethodName)) ∈ gtbl := g_in (List.mem_of_getElem? (i := 777) (by decide +kernel)) rfl
theorem gw_722 : (Jvm.Cond.selects "DrumMaps" ({ cls := "DrumMaps", name := "back", desc := "()I" } : Jvm.MethodName) ({ cls := "DrumMaps", name := "back", desc := "()I" } : Jvm.MethodName)) ∈ gtbl := g_in (List.mem_of_getElem? (i := 778) (by decide +kernel)) rfl
theorem gw_723 : (Jvm.Cond.code ({ cls := "DrumMaps", name := "back", desc := "()I" } : Jvm.MethodName) prog_1_method_33_code (1 : Nat) (Option.some Jvm.ClassFile.FieldType.int)) ∈ gtbl := g_in (List.mem_of_getElem? (i := 779) (by decide +kernel)) rfl
theorem gw_724 : (Jvm.Cond.methodLink "DrumMapsLaw" (146 : Nat) ({ cls := "DrumMaps", name := "count", desc := "(I)I" } : Jvm.MethodName)) ∈ gtbl := g_in (List.mem_of_getElem? (i := 780) (by decide +kernel)) rfl
theorem gw_725 : (Jvm.Cond.instanceMethod ({ cls := "DrumMaps", name := "count", desc := "(I)I" } : Jvm.MethodName)) ∈ gtbl := g_in (List.mem_of_getElem? (i := 781) (by decide +kernel)) rfl
theorem gw_726 : (Jvm.Cond.selects "DrumMaps" ({ cls := "DrumMaps", name := "count", desc := "(I)I" } : Jvm.MethodName) ({ cls := "DrumMaps", name := "count", desc := "(I)I" } : Jvm.MethodName)) ∈ gtbl := g_in (List.mem_of_getElem? (i := 782) (by decide +kernel)) rfl
theorem gw_727 : (Jvm.Cond.code ({ cls := "DrumMaps", name := "count", desc := "(I)I" } : Jvm.MethodName) prog_1_method_34_code (2 : Nat) (Option.some Jvm.ClassFile.FieldType.int)) ∈ gtbl := g_in (List.mem_of_getElem? (i := 783) (by decide +kernel)) rfl
theorem gw_728 : (Jvm.Cond.methodLink "DrumMaps" (282 : Nat) ({ cls := "DrumMaps", name := "sure", desc := "()I" } : Jvm.MethodName)) ∈ gtbl := g_in (List.mem_of_getElem? (i := 784) (by decide +kernel)) rfl
theorem gw_730 : (Jvm.Cond.instanceMethod ({ cls := "DrumMaps", name := "sure", desc := "()I" } : Jvm.MethodName)) ∈ gtbl := g_in (List.mem_of_getElem? (i := 786) (by decide +kernel)) rfl
theorem gw_731 : (Jvm.Cond.code ({ cls := "DrumMaps", name := "sure", desc := "()I" } : Jvm.MethodName) prog_1_method_49_code (5 : Nat) (Option.some Jvm.ClassFile.FieldType.int)) ∈ gtbl := g_in (List.mem_of_getElem? (i := 787) (by decide +kernel)) rfl
theorem gw_732 : (Jvm.Cond.classLink "DrumMapsLaw" (10 : Nat) "DrumMapsModel") ∈ gtbl := g_in (List.mem_of_getElem? (i := 788) (by decide +kernel)) rfl
theorem gw_733 : (Jvm.Cond.instantiable "DrumMapsModel" (30 : Nat)) ∈ gtbl := g_in (List.mem_of_getElem? (i := 789) (by decide +kernel)) rfl
theorem gw_734 : (Jvm.Cond.methodLink "DrumMapsLaw" (12 : Nat) ({ cls := "DrumMapsModel", name := "<init>", desc := "()V" } : Jvm.MethodName)) ∈ gtbl := g_in (List.mem_of_getElem? (i := 790) (by decide +kernel)) rfl
theorem gw_735 : (Jvm.Cond.instanceMethod ({ cls := "DrumMapsModel", name := "<init>", desc := "()V" } : Jvm.MethodName)) ∈ gtbl := g_in (List.mem_of_getElem? (i := 791) (by decide +kernel)) rfl
theorem gw_736 : (Jvm.Cond.code ({ cls := "DrumMapsModel", name := "<init>", desc := "()V" } : Jvm.MethodName) prog_11_method_1_code (2 : Nat) (Option.none : Option Jvm.ClassFile.FieldType)) ∈ gtbl := g_in (List.mem_of_getElem? (i := 792) (by decide +kernel)) rfl
theorem gw_737 : (Jvm.Cond.methodLink "DrumMapsModel" (1 : Nat) ({ cls := "java/lang/Object", name := "<init>", desc := "()V" } : Jvm.MethodName)) ∈ gtbl := g_in (List.mem_of_getElem? (i := 793) (by decide +kernel)) rfl
theorem gw_738 : (Jvm.Cond.methodLink "DrumMapsModel" (55 : Nat) ({ cls := "DrumMapsModel", name := "forgetsRead", desc := "()V" } : Jvm.MethodName)) ∈ gtbl := g_in (List.mem_of_getElem? (i := 794) (by decide +kernel)) rfl
theorem gw_740 : (Jvm.Cond.instanceMethod ({ cls := "DrumMapsModel", name := "forgetsRead", desc := "()V" } : Jvm.MethodName)) ∈ gtbl := g_in (List.mem_of_getElem? (i := 796) (by decide +kernel)) rfl
theorem gw_741 : (Jvm.Cond.code ({ cls := "DrumMapsModel", name := "forgetsRead", desc := "()V" } : Jvm.MethodName) prog_11_method_6_code (2 : Nat) (Option.none : Option Jvm.ClassFile.FieldType)) ∈ gtbl := g_in (List.mem_of_getElem? (i := 797) (by decide +kernel)) rfl
theorem gw_742 : (Jvm.Cond.methodLink "DrumMapsModel" (58 : Nat) ({ cls := "DrumMapsModel", name := "laysRow", desc := "(II)V" } : Jvm.MethodName)) ∈ gtbl := g_in (List.mem_of_getElem? (i := 798) (by decide +kernel)) rfl
theorem gw_744 : (Jvm.Cond.instanceMethod ({ cls := "DrumMapsModel", name := "laysRow", desc := "(II)V" } : Jvm.MethodName)) ∈ gtbl := g_in (List.mem_of_getElem? (i := 800) (by decide +kernel)) rfl
theorem gw_745 : (Jvm.Cond.code ({ cls := "DrumMapsModel", name := "laysRow", desc := "(II)V" } : Jvm.MethodName) prog_11_method_7_code (5 : Nat) (Option.none : Option Jvm.ClassFile.FieldType)) ∈ gtbl := g_in (List.mem_of_getElem? (i := 801) (by decide +kernel)) rfl
theorem gw_746 : (Jvm.Cond.methodLink "DrumMapsModel" (66 : Nat) ({ cls := "DrumMapsModel", name := "laysTraveller", desc := "(III)V" } : Jvm.MethodName)) ∈ gtbl := g_in (List.mem_of_getElem? (i := 802) (by decide +kernel)) rfl
theorem gw_748 : (Jvm.Cond.instanceMethod ({ cls := "DrumMapsModel", name := "laysTraveller", desc := "(III)V" } : Jvm.MethodName)) ∈ gtbl := g_in (List.mem_of_getElem? (i := 804) (by decide +kernel)) rfl
theorem gw_749 : (Jvm.Cond.code ({ cls := "DrumMapsModel", name := "laysTraveller", desc := "(III)V" } : Jvm.MethodName) prog_11_method_8_code (4 : Nat) (Option.none : Option Jvm.ClassFile.FieldType)) ∈ gtbl := g_in (List.mem_of_getElem? (i := 805) (by decide +kernel)) rfl
theorem gw_750 : (Jvm.Cond.methodLink "DrumMapsModel" (73 : Nat) ({ cls := "DrumMapsModel", name := "begins", desc := "()V" } : Jvm.MethodName)) ∈ gtbl := g_in (List.mem_of_getElem? (i := 806) (by decide +kernel)) rfl
theorem gw_752 : (Jvm.Cond.instanceMethod ({ cls := "DrumMapsModel", name := "begins", desc := "()V" } : Jvm.MethodName)) ∈ gtbl := g_in (List.mem_of_getElem? (i := 808) (by decide +kernel)) rfl
theorem gw_753 : (Jvm.Cond.code ({ cls := "DrumMapsModel", name := "begins", desc := "()V" } : Jvm.MethodName) prog_11_method_9_code (4 : Nat) (Option.none : Option Jvm.ClassFile.FieldType)) ∈ gtbl := g_in (List.mem_of_getElem? (i := 809) (by decide +kernel)) rfl
theorem gw_754 : (Jvm.Cond.methodLink "DrumMapsModel" (97 : Nat) ({ cls := "DrumMapsModel", name := "copies", desc := "([II[III)V" } : Jvm.MethodName)) ∈ gtbl := g_in (List.mem_of_getElem? (i := 810) (by decide +kernel)) rfl
theorem gw_755 : (Jvm.Cond.static ({ cls := "DrumMapsModel", name := "copies", desc := "([II[III)V" } : Jvm.MethodName)) ∈ gtbl := g_in (List.mem_of_getElem? (i := 811) (by decide +kernel)) rfl
theorem gw_756 : (Jvm.Cond.code ({ cls := "DrumMapsModel", name := "copies", desc := "([II[III)V" } : Jvm.MethodName) prog_11_method_5_code (6 : Nat) (Option.none : Option Jvm.ClassFile.FieldType)) ∈ gtbl := g_in (List.mem_of_getElem? (i := 812) (by decide +kernel)) rfl
theorem gw_757 : (Jvm.Cond.fieldLink "DrumMapsModel" (85 : Nat) "DrumMapsModel" "rows" "I") ∈ gtbl := g_in (List.mem_of_getElem? (i := 813) (by decide +kernel)) rfl
theorem gw_758 : (Jvm.Cond.fieldLink "DrumMapsModel" (88 : Nat) "DrumMapsModel" "across" "I") ∈ gtbl := g_in (List.mem_of_getElem? (i := 814) (by decide +kernel)) rfl
theorem gw_759 : (Jvm.Cond.fieldLink "DrumMapsModel" (7 : Nat) "DrumMapsModel" "land" "[I") ∈ gtbl := g_in (List.mem_of_getElem? (i := 815) (by decide +kernel)) rfl
theorem gw_760 : (Jvm.Cond.fieldLink "DrumMapsModel" (91 : Nat) "DrumMapsModel" "drums" "I") ∈ gtbl := g_in (List.mem_of_getElem? (i := 816) (by decide +kernel)) rfl
theorem gw_761 : (Jvm.Cond.fieldLink "DrumMapsModel" (13 : Nat) "DrumMapsModel" "kinds" "[I") ∈ gtbl := g_in (List.mem_of_getElem? (i := 817) (by decide +kernel)) rfl
theorem gw_762 : (Jvm.Cond.fieldLink "DrumMapsModel" (94 : Nat) "DrumMapsModel" "travellers" "I") ∈ gtbl := g_in (List.mem_of_getElem? (i := 818) (by decide +kernel)) rfl
theorem gw_763 : (Jvm.Cond.fieldLink "DrumMapsModel" (16 : Nat) "DrumMapsModel" "now" "[I") ∈ gtbl := g_in (List.mem_of_getElem? (i := 819) (by decide +kernel)) rfl
theorem gw_764 : (Jvm.Cond.fieldLink "DrumMapsModel" (19 : Nat) "DrumMapsModel" "aside" "[I") ∈ gtbl := g_in (List.mem_of_getElem? (i := 820) (by decide +kernel)) rfl
theorem gw_765 : (Jvm.Cond.fieldLink "DrumMapsModel" (22 : Nat) "DrumMapsModel" "past" "[I") ∈ gtbl := g_in (List.mem_of_getElem? (i := 821) (by decide +kernel)) rfl
theorem gw_766 : (Jvm.Cond.fieldLink "DrumMapsModel" (101 : Nat) "DrumMapsModel" "undos" "I") ∈ gtbl := g_in (List.mem_of_getElem? (i := 822) (by decide +kernel)) rfl
theorem gw_767 : (Jvm.Cond.fieldLink "DrumMapsModel" (25 : Nat) "DrumMapsModel" "kept" "[I") ∈ gtbl := g_in (List.mem_of_getElem? (i := 823) (by decide +kernel)) rfl
theorem gw_768 : (Jvm.Cond.fieldLink "DrumMapsModel" (104 : Nat) "DrumMapsModel" "keptMany" "I") ∈ gtbl := g_in (List.mem_of_getElem? (i := 824) (by decide +kernel)) rfl
theorem gw_769 : (Jvm.Cond.fieldLink "DrumMapsModel" (28 : Nat) "DrumMapsModel" "heard" "[I") ∈ gtbl := g_in (List.mem_of_getElem? (i := 825) (by decide +kernel)) rfl
theorem gw_770 : (Jvm.Cond.fieldLink "DrumMapsModel" (107 : Nat) "DrumMapsModel" "heardMany" "I") ∈ gtbl := g_in (List.mem_of_getElem? (i := 826) (by decide +kernel)) rfl
theorem gw_771 : (Jvm.Cond.fieldLink "DrumMapsModel" (31 : Nat) "DrumMapsModel" "text" "[I") ∈ gtbl := g_in (List.mem_of_getElem? (i := 827) (by decide +kernel)) rfl
theorem gw_772 : (Jvm.Cond.fieldLink "DrumMapsModel" (118 : Nat) "DrumMapsModel" "size" "I") ∈ gtbl := g_in (List.mem_of_getElem? (i := 828) (by decide +kernel)) rfl
theorem gw_773 : (Jvm.Cond.fieldLink "DrumMapsModel" (76 : Nat) "DrumMapsModel" "readRows" "I") ∈ gtbl := g_in (List.mem_of_getElem? (i := 829) (by decide +kernel)) rfl
theorem gw_774 : (Jvm.Cond.fieldLink "DrumMapsModel" (79 : Nat) "DrumMapsModel" "readAcross" "I") ∈ gtbl := g_in (List.mem_of_getElem? (i := 830) (by decide +kernel)) rfl
theorem gw_775 : (Jvm.Cond.fieldLink "DrumMapsModel" (34 : Nat) "DrumMapsModel" "readLand" "[I") ∈ gtbl := g_in (List.mem_of_getElem? (i := 831) (by decide +kernel)) rfl
theorem gw_776 : (Jvm.Cond.fieldLink "DrumMapsModel" (62 : Nat) "DrumMapsModel" "readDrums" "I") ∈ gtbl := g_in (List.mem_of_getElem? (i := 832) (by decide +kernel)) rfl
theorem gw_777 : (Jvm.Cond.fieldLink "DrumMapsModel" (37 : Nat) "DrumMapsModel" "readKinds" "[I") ∈ gtbl := g_in (List.mem_of_getElem? (i := 833) (by decide +kernel)) rfl
theorem gw_778 : (Jvm.Cond.fieldLink "DrumMapsModel" (40 : Nat) "DrumMapsModel" "readOther" "[I") ∈ gtbl := g_in (List.mem_of_getElem? (i := 834) (by decide +kernel)) rfl
theorem gw_779 : (Jvm.Cond.fieldLink "DrumMapsModel" (82 : Nat) "DrumMapsModel" "readTravellers" "I") ∈ gtbl := g_in (List.mem_of_getElem? (i := 835) (by decide +kernel)) rfl
theorem gw_780 : (Jvm.Cond.fieldLink "DrumMapsModel" (43 : Nat) "DrumMapsModel" "readFrom" "[I") ∈ gtbl := g_in (List.mem_of_getElem? (i := 836) (by decide +kernel)) rfl
theorem gw_781 : (Jvm.Cond.fieldLink "DrumMapsModel" (46 : Nat) "DrumMapsModel" "readTo" "[I") ∈ gtbl := g_in (List.mem_of_getElem? (i := 837) (by decide +kernel)) rfl
theorem gw_782 : (Jvm.Cond.fieldLink "DrumMapsModel" (49 : Nat) "DrumMapsModel" "readBy" "[I") ∈ gtbl := g_in (List.mem_of_getElem? (i := 838) (by decide +kernel)) rfl
theorem gw_783 : (Jvm.Cond.fieldLink "DrumMapsModel" (70 : Nat) "DrumMapsModel" "readWet" "I") ∈ gtbl := g_in (List.mem_of_getElem? (i := 839) (by decide +kernel)) rfl
theorem gw_784 : (Jvm.Cond.fieldLink "DrumMapsModel" (121 : Nat) "DrumMapsModel" "at" "I") ∈ gtbl := g_in (List.mem_of_getElem? (i := 840) (by decide +kernel)) rfl
theorem gw_785 : (Jvm.Cond.fieldLink "DrumMapsModel" (136 : Nat) "DrumMapsModel" "value" "I") ∈ gtbl := g_in (List.mem_of_getElem? (i := 841) (by decide +kernel)) rfl
theorem gw_786 : (Jvm.Cond.fieldLink "DrumMapsModel" (52 : Nat) "DrumMapsModel" "away" "[I") ∈ gtbl := g_in (List.mem_of_getElem? (i := 842) (by decide +kernel)) rfl
theorem gw_848 : (Jvm.Cond.methodLink "DrumMapsLaw" (17 : Nat) ({ cls := "DrumMapsModel", name := "write", desc := "(I)I" } : Jvm.MethodName)) ∈ gtbl := g_in (List.mem_of_getElem? (i := 904) (by decide +kernel)) rfl
theorem gw_849 : (Jvm.Cond.instanceMethod ({ cls := "DrumMapsModel", name := "write", desc := "(I)I" } : Jvm.MethodName)) ∈ gtbl := g_in (List.mem_of_getElem? (i := 905) (by decide +kernel)) rfl
theorem gw_850 : (Jvm.Cond.selects "DrumMapsModel" ({ cls := "DrumMapsModel", name := "write", desc := "(I)I" } : Jvm.MethodName) ({ cls := "DrumMapsModel", name := "write", desc := "(I)I" } : Jvm.MethodName)) ∈ gtbl := g_in (List.mem_of_getElem? (i := 906) (by decide +kernel)) rfl
theorem gw_851 : (Jvm.Cond.code ({ cls := "DrumMapsModel", name := "write", desc := "(I)I" } : Jvm.MethodName) prog_11_method_10_code (2 : Nat) (Option.some Jvm.ClassFile.FieldType.int)) ∈ gtbl := g_in (List.mem_of_getElem? (i := 907) (by decide +kernel)) rfl
theorem gw_852 : (Jvm.Cond.constantLong "DrumMapsModel" (110 : Nat) (32 : Int64)) ∈ gtbl := g_in (List.mem_of_getElem? (i := 908) (by decide +kernel)) rfl
theorem gw_853 : (Jvm.Cond.constantLong "DrumMapsModel" (112 : Nat) (126 : Int64)) ∈ gtbl := g_in (List.mem_of_getElem? (i := 909) (by decide +kernel)) rfl
theorem gw_854 : (Jvm.Cond.methodLink "DrumMapsModel" (114 : Nat) ({ cls := "DrumMapsModel", name := "in", desc := "(JJJ)Z" } : Jvm.MethodName)) ∈ gtbl := g_in (List.mem_of_getElem? (i := 910) (by decide +kernel)) rfl
theorem gw_855 : (Jvm.Cond.static ({ cls := "DrumMapsModel", name := "in", desc := "(JJJ)Z" } : Jvm.MethodName)) ∈ gtbl := g_in (List.mem_of_getElem? (i := 911) (by decide +kernel)) rfl
theorem gw_856 : (Jvm.Cond.code ({ cls := "DrumMapsModel", name := "in", desc := "(JJJ)Z" } : Jvm.MethodName) prog_11_method_3_code (6 : Nat) (Option.some Jvm.ClassFile.FieldType.boolean)) ∈ gtbl := g_in (List.mem_of_getElem? (i := 912) (by decide +kernel)) rfl
theorem gw_857 : (Jvm.Cond.methodLink "DrumMapsLaw" (22 : Nat) ({ cls := "DrumMapsModel", name := "wipe", desc := "()I" } : Jvm.MethodName)) ∈ gtbl := g_in (List.mem_of_getElem? (i := 913) (by decide +kernel)) rfl
theorem gw_858 : (Jvm.Cond.instanceMethod ({ cls := "DrumMapsModel", name := "wipe", desc := "()I" } : Jvm.MethodName)) ∈ gtbl := g_in (List.mem_of_getElem? (i := 914) (by decide +kernel)) rfl
theorem gw_859 : (Jvm.Cond.selects "DrumMapsModel" ({ cls := "DrumMapsModel", name := "wipe", desc := "()I" } : Jvm.MethodName) ({ cls := "DrumMapsModel", name := "wipe", desc := "()I" } : Jvm.MethodName)) ∈ gtbl := g_in (List.mem_of_getElem? (i := 915) (by decide +kernel)) rfl
theorem gw_860 : (Jvm.Cond.code ({ cls := "DrumMapsModel", name := "wipe", desc := "()I" } : Jvm.MethodName) prog_11_method_11_code (2 : Nat) (Option.some Jvm.ClassFile.FieldType.int)) ∈ gtbl := g_in (List.mem_of_getElem? (i := 916) (by decide +kernel)) rfl
theorem gw_861 : (Jvm.Cond.methodLink "DrumMapsLaw" (26 : Nat) ({ cls := "DrumMapsModel", name := "fault", desc := "()I" } : Jvm.MethodName)) ∈ gtbl := g_in (List.mem_of_getElem? (i := 917) (by decide +kernel)) rfl
theorem gw_862 : (Jvm.Cond.instanceMethod ({ cls := "DrumMapsModel", name := "fault", desc := "()I" } : Jvm.MethodName)) ∈ gtbl := g_in (List.mem_of_getElem? (i := 918) (by decide +kernel)) rfl
theorem gw_863 : (Jvm.Cond.selects "DrumMapsModel" ({ cls := "DrumMapsModel", name := "fault", desc := "()I" } : Jvm.MethodName) ({ cls := "DrumMapsModel", name := "fault", desc := "()I" } : Jvm.MethodName)) ∈ gtbl := g_in (List.mem_of_getElem? (i := 919) (by decide +kernel)) rfl
theorem gw_864 : (Jvm.Cond.code ({ cls := "DrumMapsModel", name := "fault", desc := "()I" } : Jvm.MethodName) prog_11_method_23_code (1 : Nat) (Option.some Jvm.ClassFile.FieldType.int)) ∈ gtbl := g_in (List.mem_of_getElem? (i := 920) (by decide +kernel)) rfl
theorem gw_865 : (Jvm.Cond.methodLink "DrumMapsModel" (169 : Nat) ({ cls := "DrumMapsModel", name := "reads", desc := "()I" } : Jvm.MethodName)) ∈ gtbl := g_in (List.mem_of_getElem? (i := 921) (by decide +kernel)) rfl
theorem gw_867 : (Jvm.Cond.instanceMethod ({ cls := "DrumMapsModel", name := "reads", desc := "()I" } : Jvm.MethodName)) ∈ gtbl := g_in (List.mem_of_getElem? (i := 923) (by decide +kernel)) rfl
theorem gw_868 : (Jvm.Cond.code ({ cls := "DrumMapsModel", name := "reads", desc := "()I" } : Jvm.MethodName) prog_11_method_22_code (2 : Nat) (Option.some Jvm.ClassFile.FieldType.int)) ∈ gtbl := g_in (List.mem_of_getElem? (i := 924) (by decide +kernel)) rfl
theorem gw_869 : (Jvm.Cond.methodLink "DrumMapsModel" (166 : Nat) ({ cls := "DrumMapsModel", name := "readsItem", desc := "()Z" } : Jvm.MethodName)) ∈ gtbl := g_in (List.mem_of_getElem? (i := 925) (by decide +kernel)) rfl
theorem gw_871 : (Jvm.Cond.instanceMethod ({ cls := "DrumMapsModel", name := "readsItem", desc := "()Z" } : Jvm.MethodName)) ∈ gtbl := g_in (List.mem_of_getElem? (i := 927) (by decide +kernel)) rfl
theorem gw_872 : (Jvm.Cond.code ({ cls := "DrumMapsModel", name := "readsItem", desc := "()Z" } : Jvm.MethodName) prog_11_method_21_code (2 : Nat) (Option.some Jvm.ClassFile.FieldType.boolean)) ∈ gtbl := g_in (List.mem_of_getElem? (i := 928) (by decide +kernel)) rfl
theorem gw_873 : (Jvm.Cond.methodLink "DrumMapsModel" (124 : Nat) ({ cls := "DrumMapsModel", name := "here", desc := "()I" } : Jvm.MethodName)) ∈ gtbl := g_in (List.mem_of_getElem? (i := 929) (by decide +kernel)) rfl
theorem gw_875 : (Jvm.Cond.instanceMethod ({ cls := "DrumMapsModel", name := "here", desc := "()I" } : Jvm.MethodName)) ∈ gtbl := g_in (List.mem_of_getElem? (i := 931) (by decide +kernel)) rfl
theorem gw_876 : (Jvm.Cond.code ({ cls := "DrumMapsModel", name := "here", desc := "()I" } : Jvm.MethodName) prog_11_method_12_code (1 : Nat) (Option.some Jvm.ClassFile.FieldType.int)) ∈ gtbl := g_in (List.mem_of_getElem? (i := 932) (by decide +kernel)) rfl
theorem gw_877 : (Jvm.Cond.methodLink "DrumMapsModel" (150 : Nat) ({ cls := "DrumMapsModel", name := "readsRow", desc := "()Z" } : Jvm.MethodName)) ∈ gtbl := g_in (List.mem_of_getElem? (i := 933) (by decide +kernel)) rfl
theorem gw_879 : (Jvm.Cond.instanceMethod ({ cls := "DrumMapsModel", name := "readsRow", desc := "()Z" } : Jvm.MethodName)) ∈ gtbl := g_in (List.mem_of_getElem? (i := 935) (by decide +kernel)) rfl
theorem gw_880 : (Jvm.Cond.code ({ cls := "DrumMapsModel", name := "readsRow", desc := "()Z" } : Jvm.MethodName) prog_11_method_16_code (3 : Nat) (Option.some Jvm.ClassFile.FieldType.boolean)) ∈ gtbl := g_in (List.mem_of_getElem? (i := 936) (by decide +kernel)) rfl
theorem gw_881 : (Jvm.Cond.constantLong "DrumMapsModel" (128 : Nat) (48 : Int64)) ∈ gtbl := g_in (List.mem_of_getElem? (i := 937) (by decide +kernel)) rfl
theorem gw_882 : (Jvm.Cond.constantLong "DrumMapsModel" (139 : Nat) (51 : Int64)) ∈ gtbl := g_in (List.mem_of_getElem? (i := 938) (by decide +kernel)) rfl
theorem gw_883 : (Jvm.Cond.constantLong "DrumMapsModel" (141 : Nat) (6 : Int64)) ∈ gtbl := g_in (List.mem_of_getElem? (i := 939) (by decide +kernel)) rfl
theorem gw_884 : (Jvm.Cond.methodLink "DrumMapsModel" (154 : Nat) ({ cls := "DrumMapsModel", name := "readsDrum", desc := "()Z" } : Jvm.MethodName)) ∈ gtbl := g_in (List.mem_of_getElem? (i := 940) (by decide +kernel)) rfl
theorem gw_886 : (Jvm.Cond.instanceMethod ({ cls := "DrumMapsModel", name := "readsDrum", desc := "()Z" } : Jvm.MethodName)) ∈ gtbl := g_in (List.mem_of_getElem? (i := 942) (by decide +kernel)) rfl
theorem gw_887 : (Jvm.Cond.code ({ cls := "DrumMapsModel", name := "readsDrum", desc := "()Z" } : Jvm.MethodName) prog_11_method_17_code (1 : Nat) (Option.some Jvm.ClassFile.FieldType.boolean)) ∈ gtbl := g_in (List.mem_of_getElem? (i := 943) (by decide +kernel)) rfl
theorem gw_888 : (Jvm.Cond.methodLink "DrumMapsModel" (143 : Nat) ({ cls := "DrumMapsModel", name := "number", desc := "(II)Z" } : Jvm.MethodName)) ∈ gtbl := g_in (List.mem_of_getElem? (i := 944) (by decide +kernel)) rfl
theorem gw_890 : (Jvm.Cond.instanceMethod ({ cls := "DrumMapsModel", name := "number", desc := "(II)Z" } : Jvm.MethodName)) ∈ gtbl := g_in (List.mem_of_getElem? (i := 946) (by decide +kernel)) rfl
theorem gw_891 : (Jvm.Cond.code ({ cls := "DrumMapsModel", name := "number", desc := "(II)Z" } : Jvm.MethodName) prog_11_method_15_code (3 : Nat) (Option.some Jvm.ClassFile.FieldType.boolean)) ∈ gtbl := g_in (List.mem_of_getElem? (i := 947) (by decide +kernel)) rfl
theorem gw_892 : (Jvm.Cond.methodLink "DrumMapsModel" (132 : Nat) ({ cls := "DrumMapsModel", name := "isFigure", desc := "(I)Z" } : Jvm.MethodName)) ∈ gtbl := g_in (List.mem_of_getElem? (i := 948) (by decide +kernel)) rfl
theorem gw_893 : (Jvm.Cond.static ({ cls := "DrumMapsModel", name := "isFigure", desc := "(I)Z" } : Jvm.MethodName)) ∈ gtbl := g_in (List.mem_of_getElem? (i := 949) (by decide +kernel)) rfl
theorem gw_894 : (Jvm.Cond.code ({ cls := "DrumMapsModel", name := "isFigure", desc := "(I)Z" } : Jvm.MethodName) prog_11_method_14_code (1 : Nat) (Option.some Jvm.ClassFile.FieldType.boolean)) ∈ gtbl := g_in (List.mem_of_getElem? (i := 950) (by decide +kernel)) rfl
theorem gw_895 : (Jvm.Cond.constantLong "DrumMapsModel" (130 : Nat) (57 : Int64)) ∈ gtbl := g_in (List.mem_of_getElem? (i := 951) (by decide +kernel)) rfl
theorem gw_896 : (Jvm.Cond.methodLink "DrumMapsModel" (157 : Nat) ({ cls := "DrumMapsModel", name := "readsOther", desc := "()Z" } : Jvm.MethodName)) ∈ gtbl := g_in (List.mem_of_getElem? (i := 952) (by decide +kernel)) rfl
theorem gw_898 : (Jvm.Cond.instanceMethod ({ cls := "DrumMapsModel", name := "readsOther", desc := "()Z" } : Jvm.MethodName)) ∈ gtbl := g_in (List.mem_of_getElem? (i := 954) (by decide +kernel)) rfl
theorem gw_899 : (Jvm.Cond.code ({ cls := "DrumMapsModel", name := "readsOther", desc := "()Z" } : Jvm.MethodName) prog_11_method_18_code (3 : Nat) (Option.some Jvm.ClassFile.FieldType.boolean)) ∈ gtbl := g_in (List.mem_of_getElem? (i := 955) (by decide +kernel)) rfl
theorem gw_900 : (Jvm.Cond.methodLink "DrumMapsModel" (147 : Nat) ({ cls := "DrumMapsModel", name := "takes", desc := "(I)Z" } : Jvm.MethodName)) ∈ gtbl := g_in (List.mem_of_getElem? (i := 956) (by decide +kernel)) rfl
theorem gw_902 : (Jvm.Cond.instanceMethod ({ cls := "DrumMapsModel", name := "takes", desc := "(I)Z" } : Jvm.MethodName)) ∈ gtbl := g_in (List.mem_of_getElem? (i := 958) (by decide +kernel)) rfl
theorem gw_903 : (Jvm.Cond.code ({ cls := "DrumMapsModel", name := "takes", desc := "(I)Z" } : Jvm.MethodName) prog_11_method_13_code (3 : Nat) (Option.some Jvm.ClassFile.FieldType.boolean)) ∈ gtbl := g_in (List.mem_of_getElem? (i := 959) (by decide +kernel)) rfl
theorem gw_904 : (Jvm.Cond.methodLink "DrumMapsModel" (160 : Nat) ({ cls := "DrumMapsModel", name := "readsTraveller", desc := "()Z" } : Jvm.MethodName)) ∈ gtbl := g_in (List.mem_of_getElem? (i := 960) (by decide +kernel)) rfl
theorem gw_906 : (Jvm.Cond.instanceMethod ({ cls := "DrumMapsModel", name := "readsTraveller", desc := "()Z" } : Jvm.MethodName)) ∈ gtbl := g_in (List.mem_of_getElem? (i := 962) (by decide +kernel)) rfl
theorem gw_907 : (Jvm.Cond.code ({ cls := "DrumMapsModel", name := "readsTraveller", desc := "()Z" } : Jvm.MethodName) prog_11_method_19_code (3 : Nat) (Option.some Jvm.ClassFile.FieldType.boolean)) ∈ gtbl := g_in (List.mem_of_getElem? (i := 963) (by decide +kernel)) rfl
theorem gw_908 : (Jvm.Cond.methodLink "DrumMapsModel" (163 : Nat) ({ cls := "DrumMapsModel", name := "readsWet", desc := "()Z" } : Jvm.MethodName)) ∈ gtbl := g_in (List.mem_of_getElem? (i := 964) (by decide +kernel)) rfl
theorem gw_910 : (Jvm.Cond.instanceMethod ({ cls := "DrumMapsModel", name := "readsWet", desc := "()Z" } : Jvm.MethodName)) ∈ gtbl := g_in (List.mem_of_getElem? (i := 966) (by decide +kernel)) rfl
theorem gw_911 : (Jvm.Cond.code ({ cls := "DrumMapsModel", name := "readsWet", desc := "()Z" } : Jvm.MethodName) prog_11_method_20_code (1 : Nat) (Option.some Jvm.ClassFile.FieldType.boolean)) ∈ gtbl := g_in (List.mem_of_getElem? (i := 967) (by decide +kernel)) rfl
theorem gw_912 : (Jvm.Cond.methodLink "DrumMapsLaw" (30 : Nat) ({ cls := "DrumMapsModel", name := "lay", desc := "()I" } : Jvm.MethodName)) ∈ gtbl := g_in (List.mem_of_getElem? (i := 968) (by decide +kernel)) rfl
theorem gw_913 : (Jvm.Cond.instanceMethod ({ cls := "DrumMapsModel", name := "lay", desc := "()I" } : Jvm.MethodName)) ∈ gtbl := g_in (List.mem_of_getElem? (i := 969) (by decide +kernel)) rfl
theorem gw_914 : (Jvm.Cond.selects "DrumMapsModel" ({ cls := "DrumMapsModel", name := "lay", desc := "()I" } : Jvm.MethodName) ({ cls := "DrumMapsModel", name := "lay", desc := "()I" } : Jvm.MethodName)) ∈ gtbl := g_in (List.mem_of_getElem? (i := 970) (by decide +kernel)) rfl
theorem gw_915 : (Jvm.Cond.code ({ cls := "DrumMapsModel", name := "lay", desc := "()I" } : Jvm.MethodName) prog_11_method_24_code (1 : Nat) (Option.some Jvm.ClassFile.FieldType.int)) ∈ gtbl := g_in (List.mem_of_getElem? (i := 971) (by decide +kernel)) rfl
theorem gw_916 : (Jvm.Cond.methodLink "DrumMapsLaw" (34 : Nat) ({ cls := "DrumMapsModel", name := "place", desc := "(I)I" } : Jvm.MethodName)) ∈ gtbl := g_in (List.mem_of_getElem? (i := 972) (by decide +kernel)) rfl
theorem gw_917 : (Jvm.Cond.instanceMethod ({ cls := "DrumMapsModel", name := "place", desc := "(I)I" } : Jvm.MethodName)) ∈ gtbl := g_in (List.mem_of_getElem? (i := 973) (by decide +kernel)) rfl
theorem gw_918 : (Jvm.Cond.selects "DrumMapsModel" ({ cls := "DrumMapsModel", name := "place", desc := "(I)I" } : Jvm.MethodName) ({ cls := "DrumMapsModel", name := "place", desc := "(I)I" } : Jvm.MethodName)) ∈ gtbl := g_in (List.mem_of_getElem? (i := 974) (by decide +kernel)) rfl
theorem gw_919 : (Jvm.Cond.code ({ cls := "DrumMapsModel", name := "place", desc := "(I)I" } : Jvm.MethodName) prog_11_method_36_code (2 : Nat) (Option.some Jvm.ClassFile.FieldType.int)) ∈ gtbl := g_in (List.mem_of_getElem? (i := 975) (by decide +kernel)) rfl
theorem gw_920 : (Jvm.Cond.methodLink "DrumMapsModel" (195 : Nat) ({ cls := "DrumMapsModel", name := "isPlace", desc := "(I)Z" } : Jvm.MethodName)) ∈ gtbl := g_in (List.mem_of_getElem? (i := 976) (by decide +kernel)) rfl
theorem gw_922 : (Jvm.Cond.instanceMethod ({ cls := "DrumMapsModel", name := "isPlace", desc := "(I)Z" } : Jvm.MethodName)) ∈ gtbl := g_in (List.mem_of_getElem? (i := 978) (by decide +kernel)) rfl
theorem gw_923 : (Jvm.Cond.code ({ cls := "DrumMapsModel", name := "isPlace", desc := "(I)Z" } : Jvm.MethodName) prog_11_method_25_code (2 : Nat) (Option.some Jvm.ClassFile.FieldType.boolean)) ∈ gtbl := g_in (List.mem_of_getElem? (i := 979) (by decide +kernel)) rfl
theorem gw_924 : (Jvm.Cond.methodLink "DrumMapsLaw" (39 : Nat) ({ cls := "DrumMapsModel", name := "drum", desc := "(III)I" } : Jvm.MethodName)) ∈ gtbl := g_in (List.mem_of_getElem? (i := 980) (by decide +kernel)) rfl
theorem gw_925 : (Jvm.Cond.instanceMethod ({ cls := "DrumMapsModel", name := "drum", desc := "(III)I" } : Jvm.MethodName)) ∈ gtbl := g_in (List.mem_of_getElem? (i := 981) (by decide +kernel)) rfl
theorem gw_926 : (Jvm.Cond.selects "DrumMapsModel" ({ cls := "DrumMapsModel", name := "drum", desc := "(III)I" } : Jvm.MethodName) ({ cls := "DrumMapsModel", name := "drum", desc := "(III)I" } : Jvm.MethodName)) ∈ gtbl := g_in (List.mem_of_getElem? (i := 982) (by decide +kernel)) rfl
theorem gw_927 : (Jvm.Cond.code ({ cls := "DrumMapsModel", name := "drum", desc := "(III)I" } : Jvm.MethodName) prog_11_method_37_code (5 : Nat) (Option.some Jvm.ClassFile.FieldType.int)) ∈ gtbl := g_in (List.mem_of_getElem? (i := 983) (by decide +kernel)) rfl
theorem gw_928 : (Jvm.Cond.methodLink "DrumMapsModel" (198 : Nat) ({ cls := "DrumMapsModel", name := "isDrum", desc := "(I)Z" } : Jvm.MethodName)) ∈ gtbl := g_in (List.mem_of_getElem? (i := 984) (by decide +kernel)) rfl
theorem gw_930 : (Jvm.Cond.instanceMethod ({ cls := "DrumMapsModel", name := "isDrum", desc := "(I)Z" } : Jvm.MethodName)) ∈ gtbl := g_in (List.mem_of_getElem? (i := 986) (by decide +kernel)) rfl
theorem gw_931 : (Jvm.Cond.code ({ cls := "DrumMapsModel", name := "isDrum", desc := "(I)Z" } : Jvm.MethodName) prog_11_method_26_code (2 : Nat) (Option.some Jvm.ClassFile.FieldType.boolean)) ∈ gtbl := g_in (List.mem_of_getElem? (i := 987) (by decide +kernel)) rfl
theorem gw_932 : (Jvm.Cond.constantLong "DrumMapsModel" (201 : Nat) (2 : Int64)) ∈ gtbl := g_in (List.mem_of_getElem? (i := 988) (by decide +kernel)) rfl
theorem gw_933 : (Jvm.Cond.methodLink "DrumMapsModel" (172 : Nat) ({ cls := "DrumMapsModel", name := "tells", desc := "([III)I" } : Jvm.MethodName)) ∈ gtbl := g_in (List.mem_of_getElem? (i := 989) (by decide +kernel)) rfl
theorem gw_934 : (Jvm.Cond.static ({ cls := "DrumMapsModel", name := "tells", desc := "([III)I" } : Jvm.MethodName)) ∈ gtbl := g_in (List.mem_of_getElem? (i := 990) (by decide +kernel)) rfl
theorem gw_935 : (Jvm.Cond.code ({ cls := "DrumMapsModel", name := "tells", desc := "([III)I" } : Jvm.MethodName) prog_11_method_28_code (3 : Nat) (Option.some Jvm.ClassFile.FieldType.int)) ∈ gtbl := g_in (List.mem_of_getElem? (i := 991) (by decide +kernel)) rfl
theorem gw_936 : (Jvm.Cond.methodLink "DrumMapsModel" (181 : Nat) ({ cls := "DrumMapsModel", name := "taken", desc := "([III)I" } : Jvm.MethodName)) ∈ gtbl := g_in (List.mem_of_getElem? (i := 992) (by decide +kernel)) rfl
theorem gw_938 : (Jvm.Cond.instanceMethod ({ cls := "DrumMapsModel", name := "taken", desc := "([III)I" } : Jvm.MethodName)) ∈ gtbl := g_in (List.mem_of_getElem? (i := 994) (by decide +kernel)) rfl
theorem gw_939 : (Jvm.Cond.code ({ cls := "DrumMapsModel", name := "taken", desc := "([III)I" } : Jvm.MethodName) prog_11_method_29_code (5 : Nat) (Option.some Jvm.ClassFile.FieldType.int)) ∈ gtbl := g_in (List.mem_of_getElem? (i := 995) (by decide +kernel)) rfl
theorem gw_940 : (Jvm.Cond.methodLink "DrumMapsLaw" (43 : Nat) ({ cls := "DrumMapsModel", name := "kind", desc := "(I)I" } : Jvm.MethodName)) ∈ gtbl := g_in (List.mem_of_getElem? (i := 996) (by decide +kernel)) rfl
theorem gw_941 : (Jvm.Cond.instanceMethod ({ cls := "DrumMapsModel", name := "kind", desc := "(I)I" } : Jvm.MethodName)) ∈ gtbl := g_in (List.mem_of_getElem? (i := 997) (by decide +kernel)) rfl
theorem gw_942 : (Jvm.Cond.selects "DrumMapsModel" ({ cls := "DrumMapsModel", name := "kind", desc := "(I)I" } : Jvm.MethodName) ({ cls := "DrumMapsModel", name := "kind", desc := "(I)I" } : Jvm.MethodName)) ∈ gtbl := g_in (List.mem_of_getElem? (i := 998) (by decide +kernel)) rfl
theorem gw_943 : (Jvm.Cond.code ({ cls := "DrumMapsModel", name := "kind", desc := "(I)I" } : Jvm.MethodName) prog_11_method_38_code (2 : Nat) (Option.some Jvm.ClassFile.FieldType.int)) ∈ gtbl := g_in (List.mem_of_getElem? (i := 999) (by decide +kernel)) rfl
theorem gw_944 : (Jvm.Cond.methodLink "DrumMapsLaw" (48 : Nat) ({ cls := "DrumMapsModel", name := "traveller", desc := "(II)I" } : Jvm.MethodName)) ∈ gtbl := g_in (List.mem_of_getElem? (i := 1000) (by decide +kernel)) rfl
theorem gw_945 : (Jvm.Cond.instanceMethod ({ cls := "DrumMapsModel", name := "traveller", desc := "(II)I" } : Jvm.MethodName)) ∈ gtbl := g_in (List.mem_of_getElem? (i := 1001) (by decide +kernel)) rfl
theorem gw_946 : (Jvm.Cond.selects "DrumMapsModel" ({ cls := "DrumMapsModel", name := "traveller", desc := "(II)I" } : Jvm.MethodName) ({ cls := "DrumMapsModel", name := "traveller", desc := "(II)I" } : Jvm.MethodName)) ∈ gtbl := g_in (List.mem_of_getElem? (i := 1002) (by decide +kernel)) rfl
theorem gw_947 : (Jvm.Cond.code ({ cls := "DrumMapsModel", name := "traveller", desc := "(II)I" } : Jvm.MethodName) prog_11_method_39_code (3 : Nat) (Option.some Jvm.ClassFile.FieldType.int)) ∈ gtbl := g_in (List.mem_of_getElem? (i := 1003) (by decide +kernel)) rfl
theorem gw_948 : (Jvm.Cond.methodLink "DrumMapsModel" (203 : Nat) ({ cls := "DrumMapsModel", name := "isTraveller", desc := "(I)Z" } : Jvm.MethodName)) ∈ gtbl := g_in (List.mem_of_getElem? (i := 1004) (by decide +kernel)) rfl
theorem gw_950 : (Jvm.Cond.instanceMethod ({ cls := "DrumMapsModel", name := "isTraveller", desc := "(I)Z" } : Jvm.MethodName)) ∈ gtbl := g_in (List.mem_of_getElem? (i := 1006) (by decide +kernel)) rfl
theorem gw_951 : (Jvm.Cond.code ({ cls := "DrumMapsModel", name := "isTraveller", desc := "(I)Z" } : Jvm.MethodName) prog_11_method_27_code (2 : Nat) (Option.some Jvm.ClassFile.FieldType.boolean)) ∈ gtbl := g_in (List.mem_of_getElem? (i := 1007) (by decide +kernel)) rfl
theorem gw_952 : (Jvm.Cond.constantLong "DrumMapsModel" (206 : Nat) (5 : Int64)) ∈ gtbl := g_in (List.mem_of_getElem? (i := 1008) (by decide +kernel)) rfl
theorem gw_953 : (Jvm.Cond.methodLink "DrumMapsLaw" (53 : Nat) ({ cls := "DrumMapsModel", name := "route", desc := "(IIII)I" } : Jvm.MethodName)) ∈ gtbl := g_in (List.mem_of_getElem? (i := 1009) (by decide +kernel)) rfl
theorem gw_954 : (Jvm.Cond.instanceMethod ({ cls := "DrumMapsModel", name := "route", desc := "(IIII)I" } : Jvm.MethodName)) ∈ gtbl := g_in (List.mem_of_getElem? (i := 1010) (by decide +kernel)) rfl
theorem gw_955 : (Jvm.Cond.selects "DrumMapsModel" ({ cls := "DrumMapsModel", name := "route", desc := "(IIII)I" } : Jvm.MethodName) ({ cls := "DrumMapsModel", name := "route", desc := "(IIII)I" } : Jvm.MethodName)) ∈ gtbl := g_in (List.mem_of_getElem? (i := 1011) (by decide +kernel)) rfl
theorem gw_956 : (Jvm.Cond.code ({ cls := "DrumMapsModel", name := "route", desc := "(IIII)I" } : Jvm.MethodName) prog_11_method_40_code (5 : Nat) (Option.some Jvm.ClassFile.FieldType.int)) ∈ gtbl := g_in (List.mem_of_getElem? (i := 1012) (by decide +kernel)) rfl
theorem gw_957 : (Jvm.Cond.methodLink "DrumMapsModel" (208 : Nat) ({ cls := "DrumMapsModel", name := "lengthOf", desc := "([IIII)I" } : Jvm.MethodName)) ∈ gtbl := g_in (List.mem_of_getElem? (i := 1013) (by decide +kernel)) rfl
theorem gw_959 : (Jvm.Cond.instanceMethod ({ cls := "DrumMapsModel", name := "lengthOf", desc := "([IIII)I" } : Jvm.MethodName)) ∈ gtbl := g_in (List.mem_of_getElem? (i := 1015) (by decide +kernel)) rfl
theorem gw_960 : (Jvm.Cond.code ({ cls := "DrumMapsModel", name := "lengthOf", desc := "([IIII)I" } : Jvm.MethodName) prog_11_method_35_code (5 : Nat) (Option.some Jvm.ClassFile.FieldType.int)) ∈ gtbl := g_in (List.mem_of_getElem? (i := 1016) (by decide +kernel)) rfl
theorem gw_961 : (Jvm.Cond.methodLink "DrumMapsModel" (191 : Nat) ({ cls := "DrumMapsModel", name := "layAway", desc := "([III)V" } : Jvm.MethodName)) ∈ gtbl := g_in (List.mem_of_getElem? (i := 1017) (by decide +kernel)) rfl
theorem gw_963 : (Jvm.Cond.instanceMethod ({ cls := "DrumMapsModel", name := "layAway", desc := "([III)V" } : Jvm.MethodName)) ∈ gtbl := g_in (List.mem_of_getElem? (i := 1019) (by decide +kernel)) rfl
theorem gw_964 : (Jvm.Cond.code ({ cls := "DrumMapsModel", name := "layAway", desc := "([III)V" } : Jvm.MethodName) prog_11_method_33_code (8 : Nat) (Option.none : Option Jvm.ClassFile.FieldType)) ∈ gtbl := g_in (List.mem_of_getElem? (i := 1020) (by decide +kernel)) rfl
theorem gw_965 : (Jvm.Cond.constant "DrumMapsModel" (176 : Nat) (1000000 : Int32)) ∈ gtbl := g_in (List.mem_of_getElem? (i := 1021) (by decide +kernel)) rfl
theorem gw_966 : (Jvm.Cond.methodLink "DrumMapsModel" (187 : Nat) ({ cls := "DrumMapsModel", name := "byWay", desc := "([IIII)I" } : Jvm.MethodName)) ∈ gtbl := g_in (List.mem_of_getElem? (i := 1022) (by decide +kernel)) rfl
theorem gw_968 : (Jvm.Cond.instanceMethod ({ cls := "DrumMapsModel", name := "byWay", desc := "([IIII)I" } : Jvm.MethodName)) ∈ gtbl := g_in (List.mem_of_getElem? (i := 1024) (by decide +kernel)) rfl
theorem gw_969 : (Jvm.Cond.code ({ cls := "DrumMapsModel", name := "byWay", desc := "([IIII)I" } : Jvm.MethodName) prog_11_method_32_code (7 : Nat) (Option.some Jvm.ClassFile.FieldType.int)) ∈ gtbl := g_in (List.mem_of_getElem? (i := 1025) (by decide +kernel)) rfl
theorem gw_970 : (Jvm.Cond.methodLink "DrumMapsModel" (177 : Nat) ({ cls := "DrumMapsModel", name := "beside", desc := "(II)I" } : Jvm.MethodName)) ∈ gtbl := g_in (List.mem_of_getElem? (i := 1026) (by decide +kernel)) rfl
theorem gw_972 : (Jvm.Cond.instanceMethod ({ cls := "DrumMapsModel", name := "beside", desc := "(II)I" } : Jvm.MethodName)) ∈ gtbl := g_in (List.mem_of_getElem? (i := 1028) (by decide +kernel)) rfl
theorem gw_973 : (Jvm.Cond.code ({ cls := "DrumMapsModel", name := "beside", desc := "(II)I" } : Jvm.MethodName) prog_11_method_31_code (3 : Nat) (Option.some Jvm.ClassFile.FieldType.int)) ∈ gtbl := g_in (List.mem_of_getElem? (i := 1029) (by decide +kernel)) rfl
theorem gw_974 : (Jvm.Cond.methodLink "DrumMapsModel" (184 : Nat) ({ cls := "DrumMapsModel", name := "hoursFor", desc := "(II)I" } : Jvm.MethodName)) ∈ gtbl := g_in (List.mem_of_getElem? (i := 1030) (by decide +kernel)) rfl
theorem gw_975 : (Jvm.Cond.static ({ cls := "DrumMapsModel", name := "hoursFor", desc := "(II)I" } : Jvm.MethodName)) ∈ gtbl := g_in (List.mem_of_getElem? (i := 1031) (by decide +kernel)) rfl
theorem gw_976 : (Jvm.Cond.code ({ cls := "DrumMapsModel", name := "hoursFor", desc := "(II)I" } : Jvm.MethodName) prog_11_method_30_code (3 : Nat) (Option.some Jvm.ClassFile.FieldType.int)) ∈ gtbl := g_in (List.mem_of_getElem? (i := 1032) (by decide +kernel)) rfl
theorem gw_977 : (Jvm.Cond.methodLink "DrumMapsModel" (211 : Nat) ({ cls := "DrumMapsModel", name := "firstOf", desc := "([IIII)I" } : Jvm.MethodName)) ∈ gtbl := g_in (List.mem_of_getElem? (i := 1033) (by decide +kernel)) rfl
theorem gw_979 : (Jvm.Cond.instanceMethod ({ cls := "DrumMapsModel", name := "firstOf", desc := "([IIII)I" } : Jvm.MethodName)) ∈ gtbl := g_in (List.mem_of_getElem? (i := 1035) (by decide +kernel)) rfl
theorem gw_980 : (Jvm.Cond.code ({ cls := "DrumMapsModel", name := "firstOf", desc := "([IIII)I" } : Jvm.MethodName) prog_11_method_34_code (6 : Nat) (Option.some Jvm.ClassFile.FieldType.int)) ∈ gtbl := g_in (List.mem_of_getElem? (i := 1036) (by decide +kernel)) rfl
theorem gw_981 : (Jvm.Cond.methodLink "DrumMapsLaw" (57 : Nat) ({ cls := "DrumMapsModel", name := "truth", desc := "(II)I" } : Jvm.MethodName)) ∈ gtbl := g_in (List.mem_of_getElem? (i := 1037) (by decide +kernel)) rfl
theorem gw_982 : (Jvm.Cond.instanceMethod ({ cls := "DrumMapsModel", name := "truth", desc := "(II)I" } : Jvm.MethodName)) ∈ gtbl := g_in (List.mem_of_getElem? (i := 1038) (by decide +kernel)) rfl
theorem gw_983 : (Jvm.Cond.selects "DrumMapsModel" ({ cls := "DrumMapsModel", name := "truth", desc := "(II)I" } : Jvm.MethodName) ({ cls := "DrumMapsModel", name := "truth", desc := "(II)I" } : Jvm.MethodName)) ∈ gtbl := g_in (List.mem_of_getElem? (i := 1039) (by decide +kernel)) rfl
theorem gw_984 : (Jvm.Cond.code ({ cls := "DrumMapsModel", name := "truth", desc := "(II)I" } : Jvm.MethodName) prog_11_method_41_code (3 : Nat) (Option.some Jvm.ClassFile.FieldType.int)) ∈ gtbl := g_in (List.mem_of_getElem? (i := 1040) (by decide +kernel)) rfl
theorem gw_985 : (Jvm.Cond.methodLink "DrumMapsLaw" (61 : Nat) ({ cls := "DrumMapsModel", name := "pass", desc := "(I)I" } : Jvm.MethodName)) ∈ gtbl := g_in (List.mem_of_getElem? (i := 1041) (by decide +kernel)) rfl
theorem gw_986 : (Jvm.Cond.instanceMethod ({ cls := "DrumMapsModel", name := "pass", desc := "(I)I" } : Jvm.MethodName)) ∈ gtbl := g_in (List.mem_of_getElem? (i := 1042) (by decide +kernel)) rfl
theorem gw_987 : (Jvm.Cond.selects "DrumMapsModel" ({ cls := "DrumMapsModel", name := "pass", desc := "(I)I" } : Jvm.MethodName) ({ cls := "DrumMapsModel", name := "pass", desc := "(I)I" } : Jvm.MethodName)) ∈ gtbl := g_in (List.mem_of_getElem? (i := 1043) (by decide +kernel)) rfl
theorem gw_988 : (Jvm.Cond.code ({ cls := "DrumMapsModel", name := "pass", desc := "(I)I" } : Jvm.MethodName) prog_11_method_45_code (3 : Nat) (Option.some Jvm.ClassFile.FieldType.int)) ∈ gtbl := g_in (List.mem_of_getElem? (i := 1044) (by decide +kernel)) rfl
theorem gw_989 : (Jvm.Cond.constantLong "DrumMapsModel" (218 : Nat) (24 : Int64)) ∈ gtbl := g_in (List.mem_of_getElem? (i := 1045) (by decide +kernel)) rfl
theorem gw_990 : (Jvm.Cond.methodLink "DrumMapsModel" (220 : Nat) ({ cls := "DrumMapsModel", name := "remember", desc := "()V" } : Jvm.MethodName)) ∈ gtbl := g_in (List.mem_of_getElem? (i := 1046) (by decide +kernel)) rfl
theorem gw_992 : (Jvm.Cond.instanceMethod ({ cls := "DrumMapsModel", name := "remember", desc := "()V" } : Jvm.MethodName)) ∈ gtbl := g_in (List.mem_of_getElem? (i := 1048) (by decide +kernel)) rfl
theorem gw_993 : (Jvm.Cond.code ({ cls := "DrumMapsModel", name := "remember", desc := "()V" } : Jvm.MethodName) prog_11_method_44_code (2 : Nat) (Option.none : Option Jvm.ClassFile.FieldType)) ∈ gtbl := g_in (List.mem_of_getElem? (i := 1049) (by decide +kernel)) rfl
theorem gw_994 : (Jvm.Cond.methodLink "DrumMapsModel" (223 : Nat) ({ cls := "DrumMapsModel", name := "hourGoes", desc := "([I)V" } : Jvm.MethodName)) ∈ gtbl := g_in (List.mem_of_getElem? (i := 1050) (by decide +kernel)) rfl
theorem gw_996 : (Jvm.Cond.instanceMethod ({ cls := "DrumMapsModel", name := "hourGoes", desc := "([I)V" } : Jvm.MethodName)) ∈ gtbl := g_in (List.mem_of_getElem? (i := 1052) (by decide +kernel)) rfl
theorem gw_997 : (Jvm.Cond.code ({ cls := "DrumMapsModel", name := "hourGoes", desc := "([I)V" } : Jvm.MethodName) prog_11_method_43_code (3 : Nat) (Option.none : Option Jvm.ClassFile.FieldType)) ∈ gtbl := g_in (List.mem_of_getElem? (i := 1053) (by decide +kernel)) rfl
theorem gw_998 : (Jvm.Cond.methodLink "DrumMapsModel" (214 : Nat) ({ cls := "DrumMapsModel", name := "oneGoes", desc := "([II)V" } : Jvm.MethodName)) ∈ gtbl := g_in (List.mem_of_getElem? (i := 1054) (by decide +kernel)) rfl
theorem gw_1000 : (Jvm.Cond.instanceMethod ({ cls := "DrumMapsModel", name := "oneGoes", desc := "([II)V" } : Jvm.MethodName)) ∈ gtbl := g_in (List.mem_of_getElem? (i := 1056) (by decide +kernel)) rfl
theorem gw_1001 : (Jvm.Cond.code ({ cls := "DrumMapsModel", name := "oneGoes", desc := "([II)V" } : Jvm.MethodName) prog_11_method_42_code (5 : Nat) (Option.none : Option Jvm.ClassFile.FieldType)) ∈ gtbl := g_in (List.mem_of_getElem? (i := 1057) (by decide +kernel)) rfl
theorem gw_1002 : (Jvm.Cond.methodLink "DrumMapsLaw" (65 : Nat) ({ cls := "DrumMapsModel", name := "rain", desc := "(I)I" } : Jvm.MethodName)) ∈ gtbl := g_in (List.mem_of_getElem? (i := 1058) (by decide +kernel)) rfl
theorem gw_1003 : (Jvm.Cond.instanceMethod ({ cls := "DrumMapsModel", name := "rain", desc := "(I)I" } : Jvm.MethodName)) ∈ gtbl := g_in (List.mem_of_getElem? (i := 1059) (by decide +kernel)) rfl
theorem gw_1004 : (Jvm.Cond.selects "DrumMapsModel" ({ cls := "DrumMapsModel", name := "rain", desc := "(I)I" } : Jvm.MethodName) ({ cls := "DrumMapsModel", name := "rain", desc := "(I)I" } : Jvm.MethodName)) ∈ gtbl := g_in (List.mem_of_getElem? (i := 1060) (by decide +kernel)) rfl
theorem gw_1005 : (Jvm.Cond.code ({ cls := "DrumMapsModel", name := "rain", desc := "(I)I" } : Jvm.MethodName) prog_11_method_46_code (3 : Nat) (Option.some Jvm.ClassFile.FieldType.int)) ∈ gtbl := g_in (List.mem_of_getElem? (i := 1061) (by decide +kernel)) rfl
theorem gw_1006 : (Jvm.Cond.constantLong "DrumMapsModel" (227 : Nat) (3 : Int64)) ∈ gtbl := g_in (List.mem_of_getElem? (i := 1062) (by decide +kernel)) rfl
theorem gw_1007 : (Jvm.Cond.methodLink "DrumMapsLaw" (69 : Nat) ({ cls := "DrumMapsModel", name := "retune", desc := "(III)I" } : Jvm.MethodName)) ∈ gtbl := g_in (List.mem_of_getElem? (i := 1063) (by decide +kernel)) rfl
theorem gw_1008 : (Jvm.Cond.instanceMethod ({ cls := "DrumMapsModel", name := "retune", desc := "(III)I" } : Jvm.MethodName)) ∈ gtbl := g_in (List.mem_of_getElem? (i := 1064) (by decide +kernel)) rfl
theorem gw_1009 : (Jvm.Cond.selects "DrumMapsModel" ({ cls := "DrumMapsModel", name := "retune", desc := "(III)I" } : Jvm.MethodName) ({ cls := "DrumMapsModel", name := "retune", desc := "(III)I" } : Jvm.MethodName)) ∈ gtbl := g_in (List.mem_of_getElem? (i := 1065) (by decide +kernel)) rfl
theorem gw_1010 : (Jvm.Cond.code ({ cls := "DrumMapsModel", name := "retune", desc := "(III)I" } : Jvm.MethodName) prog_11_method_47_code (5 : Nat) (Option.some Jvm.ClassFile.FieldType.int)) ∈ gtbl := g_in (List.mem_of_getElem? (i := 1066) (by decide +kernel)) rfl
theorem gw_1011 : (Jvm.Cond.methodLink "DrumMapsLaw" (73 : Nat) ({ cls := "DrumMapsModel", name := "give", desc := "(II)I" } : Jvm.MethodName)) ∈ gtbl := g_in (List.mem_of_getElem? (i := 1067) (by decide +kernel)) rfl
theorem gw_1012 : (Jvm.Cond.instanceMethod ({ cls := "DrumMapsModel", name := "give", desc := "(II)I" } : Jvm.MethodName)) ∈ gtbl := g_in (List.mem_of_getElem? (i := 1068) (by decide +kernel)) rfl
theorem gw_1013 : (Jvm.Cond.selects "DrumMapsModel" ({ cls := "DrumMapsModel", name := "give", desc := "(II)I" } : Jvm.MethodName) ({ cls := "DrumMapsModel", name := "give", desc := "(II)I" } : Jvm.MethodName)) ∈ gtbl := g_in (List.mem_of_getElem? (i := 1069) (by decide +kernel)) rfl
theorem gw_1014 : (Jvm.Cond.code ({ cls := "DrumMapsModel", name := "give", desc := "(II)I" } : Jvm.MethodName) prog_11_method_48_code (4 : Nat) (Option.some Jvm.ClassFile.FieldType.int)) ∈ gtbl := g_in (List.mem_of_getElem? (i := 1070) (by decide +kernel)) rfl
theorem gw_1015 : (Jvm.Cond.methodLink "DrumMapsLaw" (77 : Nat) ({ cls := "DrumMapsModel", name := "send", desc := "(II)I" } : Jvm.MethodName)) ∈ gtbl := g_in (List.mem_of_getElem? (i := 1071) (by decide +kernel)) rfl
theorem gw_1016 : (Jvm.Cond.instanceMethod ({ cls := "DrumMapsModel", name := "send", desc := "(II)I" } : Jvm.MethodName)) ∈ gtbl := g_in (List.mem_of_getElem? (i := 1072) (by decide +kernel)) rfl
theorem gw_1017 : (Jvm.Cond.selects "DrumMapsModel" ({ cls := "DrumMapsModel", name := "send", desc := "(II)I" } : Jvm.MethodName) ({ cls := "DrumMapsModel", name := "send", desc := "(II)I" } : Jvm.MethodName)) ∈ gtbl := g_in (List.mem_of_getElem? (i := 1073) (by decide +kernel)) rfl
theorem gw_1018 : (Jvm.Cond.code ({ cls := "DrumMapsModel", name := "send", desc := "(II)I" } : Jvm.MethodName) prog_11_method_50_code (3 : Nat) (Option.some Jvm.ClassFile.FieldType.int)) ∈ gtbl := g_in (List.mem_of_getElem? (i := 1074) (by decide +kernel)) rfl
theorem gw_1019 : (Jvm.Cond.methodLink "DrumMapsModel" (229 : Nat) ({ cls := "DrumMapsModel", name := "sends", desc := "([III)V" } : Jvm.MethodName)) ∈ gtbl := g_in (List.mem_of_getElem? (i := 1075) (by decide +kernel)) rfl
theorem gw_1020 : (Jvm.Cond.static ({ cls := "DrumMapsModel", name := "sends", desc := "([III)V" } : Jvm.MethodName)) ∈ gtbl := g_in (List.mem_of_getElem? (i := 1076) (by decide +kernel)) rfl
theorem gw_1021 : (Jvm.Cond.code ({ cls := "DrumMapsModel", name := "sends", desc := "([III)V" } : Jvm.MethodName) prog_11_method_49_code (3 : Nat) (Option.none : Option Jvm.ClassFile.FieldType)) ∈ gtbl := g_in (List.mem_of_getElem? (i := 1077) (by decide +kernel)) rfl
theorem gw_1022 : (Jvm.Cond.methodLink "DrumMapsLaw" (81 : Nat) ({ cls := "DrumMapsModel", name := "undo", desc := "()I" } : Jvm.MethodName)) ∈ gtbl := g_in (List.mem_of_getElem? (i := 1078) (by decide +kernel)) rfl
theorem gw_1023 : (Jvm.Cond.instanceMethod ({ cls := "DrumMapsModel", name := "undo", desc := "()I" } : Jvm.MethodName)) ∈ gtbl := g_in (List.mem_of_getElem? (i := 1079) (by decide +kernel)) rfl
theorem gw_1024 : (Jvm.Cond.selects "DrumMapsModel" ({ cls := "DrumMapsModel", name := "undo", desc := "()I" } : Jvm.MethodName) ({ cls := "DrumMapsModel", name := "undo", desc := "()I" } : Jvm.MethodName)) ∈ gtbl := g_in (List.mem_of_getElem? (i := 1080) (by decide +kernel)) rfl
theorem gw_1025 : (Jvm.Cond.code ({ cls := "DrumMapsModel", name := "undo", desc := "()I" } : Jvm.MethodName) prog_11_method_51_code (1 : Nat) (Option.some Jvm.ClassFile.FieldType.int)) ∈ gtbl := g_in (List.mem_of_getElem? (i := 1081) (by decide +kernel)) rfl
theorem gw_1026 : (Jvm.Cond.methodLink "DrumMapsLaw" (85 : Nat) ({ cls := "DrumMapsModel", name := "arrives", desc := "(I)I" } : Jvm.MethodName)) ∈ gtbl := g_in (List.mem_of_getElem? (i := 1082) (by decide +kernel)) rfl
theorem gw_1027 : (Jvm.Cond.instanceMethod ({ cls := "DrumMapsModel", name := "arrives", desc := "(I)I" } : Jvm.MethodName)) ∈ gtbl := g_in (List.mem_of_getElem? (i := 1083) (by decide +kernel)) rfl
theorem gw_1028 : (Jvm.Cond.selects "DrumMapsModel" ({ cls := "DrumMapsModel", name := "arrives", desc := "(I)I" } : Jvm.MethodName) ({ cls := "DrumMapsModel", name := "arrives", desc := "(I)I" } : Jvm.MethodName)) ∈ gtbl := g_in (List.mem_of_getElem? (i := 1084) (by decide +kernel)) rfl
theorem gw_1029 : (Jvm.Cond.code ({ cls := "DrumMapsModel", name := "arrives", desc := "(I)I" } : Jvm.MethodName) prog_11_method_54_code (2 : Nat) (Option.some Jvm.ClassFile.FieldType.int)) ∈ gtbl := g_in (List.mem_of_getElem? (i := 1085) (by decide +kernel)) rfl
theorem gw_1030 : (Jvm.Cond.methodLink "DrumMapsModel" (235 : Nat) ({ cls := "DrumMapsModel", name := "untilNow", desc := "(II)I" } : Jvm.MethodName)) ∈ gtbl := g_in (List.mem_of_getElem? (i := 1086) (by decide +kernel)) rfl
theorem gw_1032 : (Jvm.Cond.instanceMethod ({ cls := "DrumMapsModel", name := "untilNow", desc := "(II)I" } : Jvm.MethodName)) ∈ gtbl := g_in (List.mem_of_getElem? (i := 1088) (by decide +kernel)) rfl
theorem gw_1033 : (Jvm.Cond.code ({ cls := "DrumMapsModel", name := "untilNow", desc := "(II)I" } : Jvm.MethodName) prog_11_method_53_code (3 : Nat) (Option.some Jvm.ClassFile.FieldType.int)) ∈ gtbl := g_in (List.mem_of_getElem? (i := 1089) (by decide +kernel)) rfl
theorem gw_1034 : (Jvm.Cond.methodLink "DrumMapsModel" (232 : Nat) ({ cls := "DrumMapsModel", name := "untilSo", desc := "(II)I" } : Jvm.MethodName)) ∈ gtbl := g_in (List.mem_of_getElem? (i := 1090) (by decide +kernel)) rfl
theorem gw_1036 : (Jvm.Cond.instanceMethod ({ cls := "DrumMapsModel", name := "untilSo", desc := "(II)I" } : Jvm.MethodName)) ∈ gtbl := g_in (List.mem_of_getElem? (i := 1092) (by decide +kernel)) rfl
theorem gw_1037 : (Jvm.Cond.code ({ cls := "DrumMapsModel", name := "untilSo", desc := "(II)I" } : Jvm.MethodName) prog_11_method_52_code (4 : Nat) (Option.some Jvm.ClassFile.FieldType.int)) ∈ gtbl := g_in (List.mem_of_getElem? (i := 1093) (by decide +kernel)) rfl
theorem gw_1038 : (Jvm.Cond.methodLink "DrumMapsLaw" (89 : Nat) ({ cls := "DrumMapsModel", name := "loses", desc := "(I)I" } : Jvm.MethodName)) ∈ gtbl := g_in (List.mem_of_getElem? (i := 1094) (by decide +kernel)) rfl
theorem gw_1039 : (Jvm.Cond.instanceMethod ({ cls := "DrumMapsModel", name := "loses", desc := "(I)I" } : Jvm.MethodName)) ∈ gtbl := g_in (List.mem_of_getElem? (i := 1095) (by decide +kernel)) rfl
theorem gw_1040 : (Jvm.Cond.selects "DrumMapsModel" ({ cls := "DrumMapsModel", name := "loses", desc := "(I)I" } : Jvm.MethodName) ({ cls := "DrumMapsModel", name := "loses", desc := "(I)I" } : Jvm.MethodName)) ∈ gtbl := g_in (List.mem_of_getElem? (i := 1096) (by decide +kernel)) rfl
theorem gw_1041 : (Jvm.Cond.code ({ cls := "DrumMapsModel", name := "loses", desc := "(I)I" } : Jvm.MethodName) prog_11_method_55_code (2 : Nat) (Option.some Jvm.ClassFile.FieldType.int)) ∈ gtbl := g_in (List.mem_of_getElem? (i := 1097) (by decide +kernel)) rfl
theorem gw_1042 : (Jvm.Cond.methodLink "DrumMapsLaw" (93 : Nat) ({ cls := "DrumMapsModel", name := "led", desc := "(III)I" } : Jvm.MethodName)) ∈ gtbl := g_in (List.mem_of_getElem? (i := 1098) (by decide +kernel)) rfl
theorem gw_1043 : (Jvm.Cond.instanceMethod ({ cls := "DrumMapsModel", name := "led", desc := "(III)I" } : Jvm.MethodName)) ∈ gtbl := g_in (List.mem_of_getElem? (i := 1099) (by decide +kernel)) rfl
theorem gw_1044 : (Jvm.Cond.selects "DrumMapsModel" ({ cls := "DrumMapsModel", name := "led", desc := "(III)I" } : Jvm.MethodName) ({ cls := "DrumMapsModel", name := "led", desc := "(III)I" } : Jvm.MethodName)) ∈ gtbl := g_in (List.mem_of_getElem? (i := 1100) (by decide +kernel)) rfl
theorem gw_1045 : (Jvm.Cond.code ({ cls := "DrumMapsModel", name := "led", desc := "(III)I" } : Jvm.MethodName) prog_11_method_57_code (4 : Nat) (Option.some Jvm.ClassFile.FieldType.int)) ∈ gtbl := g_in (List.mem_of_getElem? (i := 1101) (by decide +kernel)) rfl
theorem gw_1046 : (Jvm.Cond.methodLink "DrumMapsModel" (238 : Nat) ({ cls := "DrumMapsModel", name := "ledBy", desc := "(III)I" } : Jvm.MethodName)) ∈ gtbl := g_in (List.mem_of_getElem? (i := 1102) (by decide +kernel)) rfl
theorem gw_1048 : (Jvm.Cond.instanceMethod ({ cls := "DrumMapsModel", name := "ledBy", desc := "(III)I" } : Jvm.MethodName)) ∈ gtbl := g_in (List.mem_of_getElem? (i := 1104) (by decide +kernel)) rfl
theorem gw_1049 : (Jvm.Cond.code ({ cls := "DrumMapsModel", name := "ledBy", desc := "(III)I" } : Jvm.MethodName) prog_11_method_56_code (4 : Nat) (Option.some Jvm.ClassFile.FieldType.int)) ∈ gtbl := g_in (List.mem_of_getElem? (i := 1105) (by decide +kernel)) rfl
theorem gw_1050 : (Jvm.Cond.methodLink "DrumMapsLaw" (97 : Nat) ({ cls := "DrumMapsModel", name := "fastest", desc := "(I)I" } : Jvm.MethodName)) ∈ gtbl := g_in (List.mem_of_getElem? (i := 1106) (by decide +kernel)) rfl
theorem gw_1051 : (Jvm.Cond.instanceMethod ({ cls := "DrumMapsModel", name := "fastest", desc := "(I)I" } : Jvm.MethodName)) ∈ gtbl := g_in (List.mem_of_getElem? (i := 1107) (by decide +kernel)) rfl
theorem gw_1052 : (Jvm.Cond.selects "DrumMapsModel" ({ cls := "DrumMapsModel", name := "fastest", desc := "(I)I" } : Jvm.MethodName) ({ cls := "DrumMapsModel", name := "fastest", desc := "(I)I" } : Jvm.MethodName)) ∈ gtbl := g_in (List.mem_of_getElem? (i := 1108) (by decide +kernel)) rfl
theorem gw_1053 : (Jvm.Cond.code ({ cls := "DrumMapsModel", name := "fastest", desc := "(I)I" } : Jvm.MethodName) prog_11_method_58_code (6 : Nat) (Option.some Jvm.ClassFile.FieldType.int)) ∈ gtbl := g_in (List.mem_of_getElem? (i := 1109) (by decide +kernel)) rfl
theorem gw_1054 : (Jvm.Cond.methodLink "DrumMapsLaw" (101 : Nat) ({ cls := "DrumMapsModel", name := "tune", desc := "(I)I" } : Jvm.MethodName)) ∈ gtbl := g_in (List.mem_of_getElem? (i := 1110) (by decide +kernel)) rfl
theorem gw_1055 : (Jvm.Cond.instanceMethod ({ cls := "DrumMapsModel", name := "tune", desc := "(I)I" } : Jvm.MethodName)) ∈ gtbl := g_in (List.mem_of_getElem? (i := 1111) (by decide +kernel)) rfl
theorem gw_1056 : (Jvm.Cond.selects "DrumMapsModel" ({ cls := "DrumMapsModel", name := "tune", desc := "(I)I" } : Jvm.MethodName) ({ cls := "DrumMapsModel", name := "tune", desc := "(I)I" } : Jvm.MethodName)) ∈ gtbl := g_in (List.mem_of_getElem? (i := 1112) (by decide +kernel)) rfl
theorem gw_1057 : (Jvm.Cond.code ({ cls := "DrumMapsModel", name := "tune", desc := "(I)I" } : Jvm.MethodName) prog_11_method_59_code (8 : Nat) (Option.some Jvm.ClassFile.FieldType.int)) ∈ gtbl := g_in (List.mem_of_getElem? (i := 1113) (by decide +kernel)) rfl
theorem gw_1058 : (Jvm.Cond.methodLink "DrumMapsLaw" (105 : Nat) ({ cls := "DrumMapsModel", name := "meet", desc := "(II)I" } : Jvm.MethodName)) ∈ gtbl := g_in (List.mem_of_getElem? (i := 1114) (by decide +kernel)) rfl
theorem gw_1059 : (Jvm.Cond.instanceMethod ({ cls := "DrumMapsModel", name := "meet", desc := "(II)I" } : Jvm.MethodName)) ∈ gtbl := g_in (List.mem_of_getElem? (i := 1115) (by decide +kernel)) rfl
theorem gw_1060 : (Jvm.Cond.selects "DrumMapsModel" ({ cls := "DrumMapsModel", name := "meet", desc := "(II)I" } : Jvm.MethodName) ({ cls := "DrumMapsModel", name := "meet", desc := "(II)I" } : Jvm.MethodName)) ∈ gtbl := g_in (List.mem_of_getElem? (i := 1116) (by decide +kernel)) rfl
theorem gw_1061 : (Jvm.Cond.code ({ cls := "DrumMapsModel", name := "meet", desc := "(II)I" } : Jvm.MethodName) prog_11_method_60_code (4 : Nat) (Option.some Jvm.ClassFile.FieldType.int)) ∈ gtbl := g_in (List.mem_of_getElem? (i := 1117) (by decide +kernel)) rfl
theorem gw_1062 : (Jvm.Cond.methodLink "DrumMapsLaw" (109 : Nat) ({ cls := "DrumMapsModel", name := "clash", desc := "(III)I" } : Jvm.MethodName)) ∈ gtbl := g_in (List.mem_of_getElem? (i := 1118) (by decide +kernel)) rfl
theorem gw_1063 : (Jvm.Cond.instanceMethod ({ cls := "DrumMapsModel", name := "clash", desc := "(III)I" } : Jvm.MethodName)) ∈ gtbl := g_in (List.mem_of_getElem? (i := 1119) (by decide +kernel)) rfl
theorem gw_1064 : (Jvm.Cond.selects "DrumMapsModel" ({ cls := "DrumMapsModel", name := "clash", desc := "(III)I" } : Jvm.MethodName) ({ cls := "DrumMapsModel", name := "clash", desc := "(III)I" } : Jvm.MethodName)) ∈ gtbl := g_in (List.mem_of_getElem? (i := 1120) (by decide +kernel)) rfl
theorem gw_1065 : (Jvm.Cond.code ({ cls := "DrumMapsModel", name := "clash", desc := "(III)I" } : Jvm.MethodName) prog_11_method_61_code (8 : Nat) (Option.some Jvm.ClassFile.FieldType.int)) ∈ gtbl := g_in (List.mem_of_getElem? (i := 1121) (by decide +kernel)) rfl
theorem gw_1066 : (Jvm.Cond.methodLink "DrumMapsLaw" (113 : Nat) ({ cls := "DrumMapsModel", name := "right", desc := "(II)I" } : Jvm.MethodName)) ∈ gtbl := g_in (List.mem_of_getElem? (i := 1122) (by decide +kernel)) rfl
theorem gw_1067 : (Jvm.Cond.instanceMethod ({ cls := "DrumMapsModel", name := "right", desc := "(II)I" } : Jvm.MethodName)) ∈ gtbl := g_in (List.mem_of_getElem? (i := 1123) (by decide +kernel)) rfl
theorem gw_1068 : (Jvm.Cond.selects "DrumMapsModel" ({ cls := "DrumMapsModel", name := "right", desc := "(II)I" } : Jvm.MethodName) ({ cls := "DrumMapsModel", name := "right", desc := "(II)I" } : Jvm.MethodName)) ∈ gtbl := g_in (List.mem_of_getElem? (i := 1124) (by decide +kernel)) rfl
theorem gw_1069 : (Jvm.Cond.code ({ cls := "DrumMapsModel", name := "right", desc := "(II)I" } : Jvm.MethodName) prog_11_method_62_code (7 : Nat) (Option.some Jvm.ClassFile.FieldType.int)) ∈ gtbl := g_in (List.mem_of_getElem? (i := 1125) (by decide +kernel)) rfl
theorem gw_1070 : (Jvm.Cond.methodLink "DrumMapsLaw" (117 : Nat) ({ cls := "DrumMapsModel", name := "hear", desc := "(II)I" } : Jvm.MethodName)) ∈ gtbl := g_in (List.mem_of_getElem? (i := 1126) (by decide +kernel)) rfl
theorem gw_1071 : (Jvm.Cond.instanceMethod ({ cls := "DrumMapsModel", name := "hear", desc := "(II)I" } : Jvm.MethodName)) ∈ gtbl := g_in (List.mem_of_getElem? (i := 1127) (by decide +kernel)) rfl
theorem gw_1072 : (Jvm.Cond.selects "DrumMapsModel" ({ cls := "DrumMapsModel", name := "hear", desc := "(II)I" } : Jvm.MethodName) ({ cls := "DrumMapsModel", name := "hear", desc := "(II)I" } : Jvm.MethodName)) ∈ gtbl := g_in (List.mem_of_getElem? (i := 1128) (by decide +kernel)) rfl
theorem gw_1073 : (Jvm.Cond.code ({ cls := "DrumMapsModel", name := "hear", desc := "(II)I" } : Jvm.MethodName) prog_11_method_63_code (3 : Nat) (Option.some Jvm.ClassFile.FieldType.int)) ∈ gtbl := g_in (List.mem_of_getElem? (i := 1129) (by decide +kernel)) rfl
theorem gw_1074 : (Jvm.Cond.methodLink "DrumMapsLaw" (121 : Nat) ({ cls := "DrumMapsModel", name := "forget", desc := "()I" } : Jvm.MethodName)) ∈ gtbl := g_in (List.mem_of_getElem? (i := 1130) (by decide +kernel)) rfl
theorem gw_1075 : (Jvm.Cond.instanceMethod ({ cls := "DrumMapsModel", name := "forget", desc := "()I" } : Jvm.MethodName)) ∈ gtbl := g_in (List.mem_of_getElem? (i := 1131) (by decide +kernel)) rfl
theorem gw_1076 : (Jvm.Cond.selects "DrumMapsModel" ({ cls := "DrumMapsModel", name := "forget", desc := "()I" } : Jvm.MethodName) ({ cls := "DrumMapsModel", name := "forget", desc := "()I" } : Jvm.MethodName)) ∈ gtbl := g_in (List.mem_of_getElem? (i := 1132) (by decide +kernel)) rfl
theorem gw_1077 : (Jvm.Cond.code ({ cls := "DrumMapsModel", name := "forget", desc := "()I" } : Jvm.MethodName) prog_11_method_64_code (2 : Nat) (Option.some Jvm.ClassFile.FieldType.int)) ∈ gtbl := g_in (List.mem_of_getElem? (i := 1133) (by decide +kernel)) rfl
theorem gw_1078 : (Jvm.Cond.methodLink "DrumMapsLaw" (125 : Nat) ({ cls := "DrumMapsModel", name := "which", desc := "()I" } : Jvm.MethodName)) ∈ gtbl := g_in (List.mem_of_getElem? (i := 1134) (by decide +kernel)) rfl
theorem gw_1079 : (Jvm.Cond.instanceMethod ({ cls := "DrumMapsModel", name := "which", desc := "()I" } : Jvm.MethodName)) ∈ gtbl := g_in (List.mem_of_getElem? (i := 1135) (by decide +kernel)) rfl
theorem gw_1080 : (Jvm.Cond.selects "DrumMapsModel" ({ cls := "DrumMapsModel", name := "which", desc := "()I" } : Jvm.MethodName) ({ cls := "DrumMapsModel", name := "which", desc := "()I" } : Jvm.MethodName)) ∈ gtbl := g_in (List.mem_of_getElem? (i := 1136) (by decide +kernel)) rfl
theorem gw_1081 : (Jvm.Cond.code ({ cls := "DrumMapsModel", name := "which", desc := "()I" } : Jvm.MethodName) prog_11_method_65_code (5 : Nat) (Option.some Jvm.ClassFile.FieldType.int)) ∈ gtbl := g_in (List.mem_of_getElem? (i := 1137) (by decide +kernel)) rfl
theorem gw_1082 : (Jvm.Cond.methodLink "DrumMapsLaw" (129 : Nat) ({ cls := "DrumMapsModel", name := "seen", desc := "(III)I" } : Jvm.MethodName)) ∈ gtbl := g_in (List.mem_of_getElem? (i := 1138) (by decide +kernel)) rfl
theorem gw_1083 : (Jvm.Cond.instanceMethod ({ cls := "DrumMapsModel", name := "seen", desc := "(III)I" } : Jvm.MethodName)) ∈ gtbl := g_in (List.mem_of_getElem? (i := 1139) (by decide +kernel)) rfl
theorem gw_1084 : (Jvm.Cond.selects "DrumMapsModel" ({ cls := "DrumMapsModel", name := "seen", desc := "(III)I" } : Jvm.MethodName) ({ cls := "DrumMapsModel", name := "seen", desc := "(III)I" } : Jvm.MethodName)) ∈ gtbl := g_in (List.mem_of_getElem? (i := 1140) (by decide +kernel)) rfl
theorem gw_1085 : (Jvm.Cond.code ({ cls := "DrumMapsModel", name := "seen", desc := "(III)I" } : Jvm.MethodName) prog_11_method_66_code (7 : Nat) (Option.some Jvm.ClassFile.FieldType.int)) ∈ gtbl := g_in (List.mem_of_getElem? (i := 1141) (by decide +kernel)) rfl
theorem gw_1086 : (Jvm.Cond.constantLong "DrumMapsModel" (242 : Nat) (30 : Int64)) ∈ gtbl := g_in (List.mem_of_getElem? (i := 1142) (by decide +kernel)) rfl
theorem gw_1087 : (Jvm.Cond.methodLink "DrumMapsLaw" (133 : Nat) ({ cls := "DrumMapsModel", name := "rains", desc := "(IIII)I" } : Jvm.MethodName)) ∈ gtbl := g_in (List.mem_of_getElem? (i := 1143) (by decide +kernel)) rfl
theorem gw_1088 : (Jvm.Cond.instanceMethod ({ cls := "DrumMapsModel", name := "rains", desc := "(IIII)I" } : Jvm.MethodName)) ∈ gtbl := g_in (List.mem_of_getElem? (i := 1144) (by decide +kernel)) rfl
theorem gw_1089 : (Jvm.Cond.selects "DrumMapsModel" ({ cls := "DrumMapsModel", name := "rains", desc := "(IIII)I" } : Jvm.MethodName) ({ cls := "DrumMapsModel", name := "rains", desc := "(IIII)I" } : Jvm.MethodName)) ∈ gtbl := g_in (List.mem_of_getElem? (i := 1145) (by decide +kernel)) rfl
theorem gw_1090 : (Jvm.Cond.code ({ cls := "DrumMapsModel", name := "rains", desc := "(IIII)I" } : Jvm.MethodName) prog_11_method_68_code (13 : Nat) (Option.some Jvm.ClassFile.FieldType.int)) ∈ gtbl := g_in (List.mem_of_getElem? (i := 1146) (by decide +kernel)) rfl
theorem gw_1091 : (Jvm.Cond.constantLong "DrumMapsModel" (244 : Nat) (8 : Int64)) ∈ gtbl := g_in (List.mem_of_getElem? (i := 1147) (by decide +kernel)) rfl
theorem gw_1092 : (Jvm.Cond.constantLong "DrumMapsModel" (246 : Nat) (10 : Int64)) ∈ gtbl := g_in (List.mem_of_getElem? (i := 1148) (by decide +kernel)) rfl
theorem gw_1093 : (Jvm.Cond.methodLink "DrumMapsModel" (248 : Nat) ({ cls := "DrumMapsModel", name := "has", desc := "(II)Z" } : Jvm.MethodName)) ∈ gtbl := g_in (List.mem_of_getElem? (i := 1149) (by decide +kernel)) rfl
theorem gw_1094 : (Jvm.Cond.static ({ cls := "DrumMapsModel", name := "has", desc := "(II)Z" } : Jvm.MethodName)) ∈ gtbl := g_in (List.mem_of_getElem? (i := 1150) (by decide +kernel)) rfl
theorem gw_1095 : (Jvm.Cond.code ({ cls := "DrumMapsModel", name := "has", desc := "(II)Z" } : Jvm.MethodName) prog_11_method_4_code (2 : Nat) (Option.some Jvm.ClassFile.FieldType.boolean)) ∈ gtbl := g_in (List.mem_of_getElem? (i := 1151) (by decide +kernel)) rfl
theorem gw_1096 : (Jvm.Cond.methodLink "DrumMapsModel" (251 : Nat) ({ cls := "DrumMapsModel", name := "lowest", desc := "(JJI)I" } : Jvm.MethodName)) ∈ gtbl := g_in (List.mem_of_getElem? (i := 1152) (by decide +kernel)) rfl
theorem gw_1097 : (Jvm.Cond.static ({ cls := "DrumMapsModel", name := "lowest", desc := "(JJI)I" } : Jvm.MethodName)) ∈ gtbl := g_in (List.mem_of_getElem? (i := 1153) (by decide +kernel)) rfl
theorem gw_1098 : (Jvm.Cond.code ({ cls := "DrumMapsModel", name := "lowest", desc := "(JJI)I" } : Jvm.MethodName) prog_11_method_67_code (11 : Nat) (Option.some Jvm.ClassFile.FieldType.int)) ∈ gtbl := g_in (List.mem_of_getElem? (i := 1154) (by decide +kernel)) rfl
theorem gw_1099 : (Jvm.Cond.methodLink "DrumMapsLaw" (137 : Nat) ({ cls := "DrumMapsModel", name := "year", desc := "(III)I" } : Jvm.MethodName)) ∈ gtbl := g_in (List.mem_of_getElem? (i := 1155) (by decide +kernel)) rfl
theorem gw_1100 : (Jvm.Cond.instanceMethod ({ cls := "DrumMapsModel", name := "year", desc := "(III)I" } : Jvm.MethodName)) ∈ gtbl := g_in (List.mem_of_getElem? (i := 1156) (by decide +kernel)) rfl
theorem gw_1101 : (Jvm.Cond.selects "DrumMapsModel" ({ cls := "DrumMapsModel", name := "year", desc := "(III)I" } : Jvm.MethodName) ({ cls := "DrumMapsModel", name := "year", desc := "(III)I" } : Jvm.MethodName)) ∈ gtbl := g_in (List.mem_of_getElem? (i := 1157) (by decide +kernel)) rfl
theorem gw_1102 : (Jvm.Cond.code ({ cls := "DrumMapsModel", name := "year", desc := "(III)I" } : Jvm.MethodName) prog_11_method_71_code (7 : Nat) (Option.some Jvm.ClassFile.FieldType.int)) ∈ gtbl := g_in (List.mem_of_getElem? (i := 1158) (by decide +kernel)) rfl
theorem gw_1103 : (Jvm.Cond.constantLong "DrumMapsModel" (255 : Nat) (9999 : Int64)) ∈ gtbl := g_in (List.mem_of_getElem? (i := 1159) (by decide +kernel)) rfl
theorem gw_1104 : (Jvm.Cond.constantLong "DrumMapsModel" (257 : Nat) (60 : Int64)) ∈ gtbl := g_in (List.mem_of_getElem? (i := 1160) (by decide +kernel)) rfl
theorem gw_1105 : (Jvm.Cond.constantLong "DrumMapsModel" (259 : Nat) (7919 : Int64)) ∈ gtbl := g_in (List.mem_of_getElem? (i := 1161) (by decide +kernel)) rfl
theorem gw_1106 : (Jvm.Cond.constantLong "DrumMapsModel" (261 : Nat) (6151 : Int64)) ∈ gtbl := g_in (List.mem_of_getElem? (i := 1162) (by decide +kernel)) rfl
theorem gw_1107 : (Jvm.Cond.constantLong "DrumMapsModel" (263 : Nat) (65521 : Int64)) ∈ gtbl := g_in (List.mem_of_getElem? (i := 1163) (by decide +kernel)) rfl
theorem gw_1108 : (Jvm.Cond.methodLink "DrumMapsModel" (265 : Nat) ({ cls := "DrumMapsModel", name := "yearDraws", desc := "(I)V" } : Jvm.MethodName)) ∈ gtbl := g_in (List.mem_of_getElem? (i := 1164) (by decide +kernel)) rfl
theorem gw_1110 : (Jvm.Cond.instanceMethod ({ cls := "DrumMapsModel", name := "yearDraws", desc := "(I)V" } : Jvm.MethodName)) ∈ gtbl := g_in (List.mem_of_getElem? (i := 1166) (by decide +kernel)) rfl
theorem gw_1111 : (Jvm.Cond.code ({ cls := "DrumMapsModel", name := "yearDraws", desc := "(I)V" } : Jvm.MethodName) prog_11_method_70_code (3 : Nat) (Option.none : Option Jvm.ClassFile.FieldType)) ∈ gtbl := g_in (List.mem_of_getElem? (i := 1167) (by decide +kernel)) rfl
theorem gw_1112 : (Jvm.Cond.methodLink "DrumMapsModel" (269 : Nat) ({ cls := "DrumMapsModel", name := "manyOf", desc := "([II)I" } : Jvm.MethodName)) ∈ gtbl := g_in (List.mem_of_getElem? (i := 1168) (by decide +kernel)) rfl
theorem gw_1114 : (Jvm.Cond.instanceMethod ({ cls := "DrumMapsModel", name := "manyOf", desc := "([II)I" } : Jvm.MethodName)) ∈ gtbl := g_in (List.mem_of_getElem? (i := 1170) (by decide +kernel)) rfl
theorem gw_1115 : (Jvm.Cond.code ({ cls := "DrumMapsModel", name := "manyOf", desc := "([II)I" } : Jvm.MethodName) prog_11_method_69_code (5 : Nat) (Option.some Jvm.ClassFile.FieldType.int)) ∈ gtbl := g_in (List.mem_of_getElem? (i := 1171) (by decide +kernel)) rfl
theorem gw_1116 : (Jvm.Cond.methodLink "DrumMapsLaw" (141 : Nat) ({ cls := "DrumMapsModel", name := "keep", desc := "()I" } : Jvm.MethodName)) ∈ gtbl := g_in (List.mem_of_getElem? (i := 1172) (by decide +kernel)) rfl
theorem gw_1117 : (Jvm.Cond.instanceMethod ({ cls := "DrumMapsModel", name := "keep", desc := "()I" } : Jvm.MethodName)) ∈ gtbl := g_in (List.mem_of_getElem? (i := 1173) (by decide +kernel)) rfl
theorem gw_1118 : (Jvm.Cond.selects "DrumMapsModel" ({ cls := "DrumMapsModel", name := "keep", desc := "()I" } : Jvm.MethodName) ({ cls := "DrumMapsModel", name := "keep", desc := "()I" } : Jvm.MethodName)) ∈ gtbl := g_in (List.mem_of_getElem? (i := 1174) (by decide +kernel)) rfl
theorem gw_1119 : (Jvm.Cond.code ({ cls := "DrumMapsModel", name := "keep", desc := "()I" } : Jvm.MethodName) prog_11_method_72_code (1 : Nat) (Option.some Jvm.ClassFile.FieldType.int)) ∈ gtbl := g_in (List.mem_of_getElem? (i := 1175) (by decide +kernel)) rfl
theorem gw_1120 : (Jvm.Cond.methodLink "DrumMapsLaw" (145 : Nat) ({ cls := "DrumMapsModel", name := "back", desc := "()I" } : Jvm.MethodName)) ∈ gtbl := g_in (List.mem_of_getElem? (i := 1176) (by decide +kernel)) rfl
theorem gw_1121 : (Jvm.Cond.instanceMethod ({ cls := "DrumMapsModel", name := "back", desc := "()I" } : Jvm.MethodName)) ∈ gtbl := g_in (List.mem_of_getElem? (i := 1177) (by decide +kernel)) rfl
theorem gw_1122 : (Jvm.Cond.selects "DrumMapsModel" ({ cls := "DrumMapsModel", name := "back", desc := "()I" } : Jvm.MethodName) ({ cls := "DrumMapsModel", name := "back", desc := "()I" } : Jvm.MethodName)) ∈ gtbl := g_in (List.mem_of_getElem? (i := 1178) (by decide +kernel)) rfl
theorem gw_1123 : (Jvm.Cond.code ({ cls := "DrumMapsModel", name := "back", desc := "()I" } : Jvm.MethodName) prog_11_method_73_code (1 : Nat) (Option.some Jvm.ClassFile.FieldType.int)) ∈ gtbl := g_in (List.mem_of_getElem? (i := 1179) (by decide +kernel)) rfl
theorem gw_1124 : (Jvm.Cond.methodLink "DrumMapsLaw" (149 : Nat) ({ cls := "DrumMapsModel", name := "count", desc := "(I)I" } : Jvm.MethodName)) ∈ gtbl := g_in (List.mem_of_getElem? (i := 1180) (by decide +kernel)) rfl
theorem gw_1125 : (Jvm.Cond.instanceMethod ({ cls := "DrumMapsModel", name := "count", desc := "(I)I" } : Jvm.MethodName)) ∈ gtbl := g_in (List.mem_of_getElem? (i := 1181) (by decide +kernel)) rfl
theorem gw_1126 : (Jvm.Cond.selects "DrumMapsModel" ({ cls := "DrumMapsModel", name := "count", desc := "(I)I" } : Jvm.MethodName) ({ cls := "DrumMapsModel", name := "count", desc := "(I)I" } : Jvm.MethodName)) ∈ gtbl := g_in (List.mem_of_getElem? (i := 1182) (by decide +kernel)) rfl
theorem gw_1127 : (Jvm.Cond.code ({ cls := "DrumMapsModel", name := "count", desc := "(I)I" } : Jvm.MethodName) prog_11_method_75_code (2 : Nat) (Option.some Jvm.ClassFile.FieldType.int)) ∈ gtbl := g_in (List.mem_of_getElem? (i := 1183) (by decide +kernel)) rfl
theorem gw_1128 : (Jvm.Cond.methodLink "DrumMapsModel" (273 : Nat) ({ cls := "DrumMapsModel", name := "sure", desc := "()I" } : Jvm.MethodName)) ∈ gtbl := g_in (List.mem_of_getElem? (i := 1184) (by decide +kernel)) rfl
theorem gw_1130 : (Jvm.Cond.instanceMethod ({ cls := "DrumMapsModel", name := "sure", desc := "()I" } : Jvm.MethodName)) ∈ gtbl := g_in (List.mem_of_getElem? (i := 1186) (by decide +kernel)) rfl
theorem gw_1131 : (Jvm.Cond.code ({ cls := "DrumMapsModel", name := "sure", desc := "()I" } : Jvm.MethodName) prog_11_method_74_code (5 : Nat) (Option.some Jvm.ClassFile.FieldType.int)) ∈ gtbl := g_in (List.mem_of_getElem? (i := 1187) (by decide +kernel)) rfl
theorem gw_1132 : (Jvm.Cond.fieldLink "java/lang/String" (9 : Nat) "java/lang/String" "value" "[B") ∈ gtbl := g_in (List.mem_of_getElem? (i := 1188) (by decide +kernel)) rfl
theorem gw_1133 : (Jvm.Cond.fieldLink "java/lang/String" (15 : Nat) "java/lang/String" "coder" "B") ∈ gtbl := g_in (List.mem_of_getElem? (i := 1189) (by decide +kernel)) rfl
theorem gw_376 : (Jvm.Cond.native ({ cls := "java/lang/System", name := "arraycopy", desc := "(Ljava/lang/Object;ILjava/lang/Object;II)V" } : Jvm.MethodName)) ∈ gtbl := g_in (List.mem_of_getElem? (i := 432) (by decide +kernel)) rfl
theorem gs_0 : (Jvm.Cond.selects "DrumMaps" ({ cls := "DrumMaps", name := "layText", desc := "()Z" } : Jvm.MethodName) ({ cls := "DrumMaps", name := "layText", desc := "()Z" } : Jvm.MethodName)) ∈ gtbl := g_in (List.mem_of_getElem? (i := 0) (by decide +kernel)) rfl
theorem gs_1 : (Jvm.Cond.selects "DrumMaps$Reader" ({ cls := "DrumMaps$Reader", name := "readItem", desc := "(LDrumMaps$Text;I)I" } : Jvm.MethodName) ({ cls := "DrumMaps$Reader", name := "readItem", desc := "(LDrumMaps$Text;I)I" } : Jvm.MethodName)) ∈ gtbl := g_in (List.mem_of_getElem? (i := 1) (by decide +kernel)) rfl
theorem gs_2 : (Jvm.Cond.selects "DrumMaps$Reader" ({ cls := "DrumMaps$Reader", name := "readRow", desc := "(LDrumMaps$Text;I)I" } : Jvm.MethodName) ({ cls := "DrumMaps$Reader", name := "readRow", desc := "(LDrumMaps$Text;I)I" } : Jvm.MethodName)) ∈ gtbl := g_in (List.mem_of_getElem? (i := 2) (by decide +kernel)) rfl
theorem gs_3 : (Jvm.Cond.selects "DrumMaps$Reader" ({ cls := "DrumMaps$Reader", name := "readDrum", desc := "(LDrumMaps$Text;I)I" } : Jvm.MethodName) ({ cls := "DrumMaps$Reader", name := "readDrum", desc := "(LDrumMaps$Text;I)I" } : Jvm.MethodName)) ∈ gtbl := g_in (List.mem_of_getElem? (i := 3) (by decide +kernel)) rfl
theorem gs_4 : (Jvm.Cond.selects "DrumMaps$Reader" ({ cls := "DrumMaps$Reader", name := "readNumbers", desc := "(LDrumMaps$Text;II)I" } : Jvm.MethodName) ({ cls := "DrumMaps$Reader", name := "readNumbers", desc := "(LDrumMaps$Text;II)I" } : Jvm.MethodName)) ∈ gtbl := g_in (List.mem_of_getElem? (i := 4) (by decide +kernel)) rfl
theorem gs_5 : (Jvm.Cond.selects "DrumMaps$Reader" ({ cls := "DrumMaps$Reader", name := "readTold", desc := "(LDrumMaps$Text;I)I" } : Jvm.MethodName) ({ cls := "DrumMaps$Reader", name := "readTold", desc := "(LDrumMaps$Text;I)I" } : Jvm.MethodName)) ∈ gtbl := g_in (List.mem_of_getElem? (i := 5) (by decide +kernel)) rfl
theorem gs_6 : (Jvm.Cond.selects "DrumMaps$Reader" ({ cls := "DrumMaps$Reader", name := "readTraveller", desc := "(LDrumMaps$Text;I)I" } : Jvm.MethodName) ({ cls := "DrumMaps$Reader", name := "readTraveller", desc := "(LDrumMaps$Text;I)I" } : Jvm.MethodName)) ∈ gtbl := g_in (List.mem_of_getElem? (i := 6) (by decide +kernel)) rfl
theorem gs_7 : (Jvm.Cond.selects "DrumMaps$Reader" ({ cls := "DrumMaps$Reader", name := "readWet", desc := "(LDrumMaps$Text;I)I" } : Jvm.MethodName) ({ cls := "DrumMaps$Reader", name := "readWet", desc := "(LDrumMaps$Text;I)I" } : Jvm.MethodName)) ∈ gtbl := g_in (List.mem_of_getElem? (i := 7) (by decide +kernel)) rfl
theorem gs_8 : (Jvm.Cond.selects "DrumMaps$Ways" ({ cls := "DrumMaps$Ways", name := "measure", desc := "(LDrumMaps$Land;I)V" } : Jvm.MethodName) ({ cls := "DrumMaps$Ways", name := "measure", desc := "(LDrumMaps$Land;I)V" } : Jvm.MethodName)) ∈ gtbl := g_in (List.mem_of_getElem? (i := 8) (by decide +kernel)) rfl
theorem gs_9 : (Jvm.Cond.selects "DrumMaps$Ways" ({ cls := "DrumMaps$Ways", name := "firstOf", desc := "(LDrumMaps$Land;I)I" } : Jvm.MethodName) ({ cls := "DrumMaps$Ways", name := "firstOf", desc := "(LDrumMaps$Land;I)I" } : Jvm.MethodName)) ∈ gtbl := g_in (List.mem_of_getElem? (i := 9) (by decide +kernel)) rfl
theorem gs_10 : (Jvm.Cond.selects "DrumMaps$Ways" ({ cls := "DrumMaps$Ways", name := "hoursOver", desc := "(I)I" } : Jvm.MethodName) ({ cls := "DrumMaps$Ways", name := "hoursOver", desc := "(I)I" } : Jvm.MethodName)) ∈ gtbl := g_in (List.mem_of_getElem? (i := 10) (by decide +kernel)) rfl
theorem gs_11 : (Jvm.Cond.selects "DrumMaps$Shelf" ({ cls := "DrumMaps$Shelf", name := "dropLowest", desc := "()V" } : Jvm.MethodName) ({ cls := "DrumMaps$Shelf", name := "dropLowest", desc := "()V" } : Jvm.MethodName)) ∈ gtbl := g_in (List.mem_of_getElem? (i := 11) (by decide +kernel)) rfl
theorem gs_12 : (Jvm.Cond.selects "DrumMaps" ({ cls := "DrumMaps", name := "letHourPass", desc := "(LDrumMaps$Forest;)V" } : Jvm.MethodName) ({ cls := "DrumMaps", name := "letHourPass", desc := "(LDrumMaps$Forest;)V" } : Jvm.MethodName)) ∈ gtbl := g_in (List.mem_of_getElem? (i := 12) (by decide +kernel)) rfl
theorem gs_13 : (Jvm.Cond.selects "DrumMaps" ({ cls := "DrumMaps", name := "walkHour", desc := "(LDrumMaps$Traveller;LDrumMaps$Ways;I)V" } : Jvm.MethodName) ({ cls := "DrumMaps", name := "walkHour", desc := "(LDrumMaps$Traveller;LDrumMaps$Ways;I)V" } : Jvm.MethodName)) ∈ gtbl := g_in (List.mem_of_getElem? (i := 13) (by decide +kernel)) rfl
theorem gs_14 : (Jvm.Cond.selects "DrumMaps" ({ cls := "DrumMaps", name := "setOut", desc := "(LDrumMaps$Traveller;II)V" } : Jvm.MethodName) ({ cls := "DrumMaps", name := "setOut", desc := "(LDrumMaps$Traveller;II)V" } : Jvm.MethodName)) ∈ gtbl := g_in (List.mem_of_getElem? (i := 14) (by decide +kernel)) rfl
theorem gs_15 : (Jvm.Cond.selects "DrumMaps" ({ cls := "DrumMaps", name := "hoursUntil", desc := "(LDrumMaps$Forest;I)I" } : Jvm.MethodName) ({ cls := "DrumMaps", name := "hoursUntil", desc := "(LDrumMaps$Forest;I)I" } : Jvm.MethodName)) ∈ gtbl := g_in (List.mem_of_getElem? (i := 15) (by decide +kernel)) rfl
theorem gs_16 : (Jvm.Cond.selects "DrumMaps" ({ cls := "DrumMaps", name := "hoursLed", desc := "(III)I" } : Jvm.MethodName) ({ cls := "DrumMaps", name := "hoursLed", desc := "(III)I" } : Jvm.MethodName)) ∈ gtbl := g_in (List.mem_of_getElem? (i := 16) (by decide +kernel)) rfl
theorem gs_17 : (Jvm.Cond.selects "DrumMaps" ({ cls := "DrumMaps", name := "hoursToArrive", desc := "(LDrumMaps$Forest;LDrumMaps$Traveller;I)I" } : Jvm.MethodName) ({ cls := "DrumMaps", name := "hoursToArrive", desc := "(LDrumMaps$Forest;LDrumMaps$Traveller;I)I" } : Jvm.MethodName)) ∈ gtbl := g_in (List.mem_of_getElem? (i := 17) (by decide +kernel)) rfl
theorem gs_18 : (Jvm.Cond.selects "DrumMaps" ({ cls := "DrumMaps", name := "toldAllHeard", desc := "(I)Z" } : Jvm.MethodName) ({ cls := "DrumMaps", name := "toldAllHeard", desc := "(I)Z" } : Jvm.MethodName)) ∈ gtbl := g_in (List.mem_of_getElem? (i := 18) (by decide +kernel)) rfl
theorem gs_19 : (Jvm.Cond.selects "DrumMaps" ({ cls := "DrumMaps", name := "placeBehind", desc := "(LDrumMaps$Traveller;II)I" } : Jvm.MethodName) ({ cls := "DrumMaps", name := "placeBehind", desc := "(LDrumMaps$Traveller;II)I" } : Jvm.MethodName)) ∈ gtbl := g_in (List.mem_of_getElem? (i := 19) (by decide +kernel)) rfl
theorem gs_20 : (Jvm.Cond.selects "DrumMaps" ({ cls := "DrumMaps", name := "weightIfThere", desc := "(LDrumMaps$Traveller;III)I" } : Jvm.MethodName) ({ cls := "DrumMaps", name := "weightIfThere", desc := "(LDrumMaps$Traveller;III)I" } : Jvm.MethodName)) ∈ gtbl := g_in (List.mem_of_getElem? (i := 20) (by decide +kernel)) rfl
theorem gs_21 : (Jvm.Cond.selects "DrumMaps" ({ cls := "DrumMaps", name := "stir", desc := "(LDrumMaps$Forest;I)V" } : Jvm.MethodName) ({ cls := "DrumMaps", name := "stir", desc := "(LDrumMaps$Forest;I)V" } : Jvm.MethodName)) ∈ gtbl := g_in (List.mem_of_getElem? (i := 21) (by decide +kernel)) rfl
theorem gs_22 : (Jvm.Cond.selects "DrumMaps" ({ cls := "DrumMaps", name := "sendIfHeCan", desc := "(LDrumMaps$Forest;II)V" } : Jvm.MethodName) ({ cls := "DrumMaps", name := "sendIfHeCan", desc := "(LDrumMaps$Forest;II)V" } : Jvm.MethodName)) ∈ gtbl := g_in (List.mem_of_getElem? (i := 22) (by decide +kernel)) rfl
theorem gs_23 : (Jvm.Cond.selects "DrumMaps" ({ cls := "DrumMaps", name := "sure", desc := "()I" } : Jvm.MethodName) ({ cls := "DrumMaps", name := "sure", desc := "()I" } : Jvm.MethodName)) ∈ gtbl := g_in (List.mem_of_getElem? (i := 23) (by decide +kernel)) rfl
theorem gs_24 : (Jvm.Cond.selects "DrumMapsModel" ({ cls := "DrumMapsModel", name := "forgetsRead", desc := "()V" } : Jvm.MethodName) ({ cls := "DrumMapsModel", name := "forgetsRead", desc := "()V" } : Jvm.MethodName)) ∈ gtbl := g_in (List.mem_of_getElem? (i := 24) (by decide +kernel)) rfl
theorem gs_25 : (Jvm.Cond.selects "DrumMapsModel" ({ cls := "DrumMapsModel", name := "laysRow", desc := "(II)V" } : Jvm.MethodName) ({ cls := "DrumMapsModel", name := "laysRow", desc := "(II)V" } : Jvm.MethodName)) ∈ gtbl := g_in (List.mem_of_getElem? (i := 25) (by decide +kernel)) rfl
theorem gs_26 : (Jvm.Cond.selects "DrumMapsModel" ({ cls := "DrumMapsModel", name := "laysTraveller", desc := "(III)V" } : Jvm.MethodName) ({ cls := "DrumMapsModel", name := "laysTraveller", desc := "(III)V" } : Jvm.MethodName)) ∈ gtbl := g_in (List.mem_of_getElem? (i := 26) (by decide +kernel)) rfl
theorem gs_27 : (Jvm.Cond.selects "DrumMapsModel" ({ cls := "DrumMapsModel", name := "begins", desc := "()V" } : Jvm.MethodName) ({ cls := "DrumMapsModel", name := "begins", desc := "()V" } : Jvm.MethodName)) ∈ gtbl := g_in (List.mem_of_getElem? (i := 27) (by decide +kernel)) rfl
theorem gs_28 : (Jvm.Cond.selects "DrumMapsModel" ({ cls := "DrumMapsModel", name := "reads", desc := "()I" } : Jvm.MethodName) ({ cls := "DrumMapsModel", name := "reads", desc := "()I" } : Jvm.MethodName)) ∈ gtbl := g_in (List.mem_of_getElem? (i := 28) (by decide +kernel)) rfl
theorem gs_29 : (Jvm.Cond.selects "DrumMapsModel" ({ cls := "DrumMapsModel", name := "readsItem", desc := "()Z" } : Jvm.MethodName) ({ cls := "DrumMapsModel", name := "readsItem", desc := "()Z" } : Jvm.MethodName)) ∈ gtbl := g_in (List.mem_of_getElem? (i := 29) (by decide +kernel)) rfl
theorem gs_30 : (Jvm.Cond.selects "DrumMapsModel" ({ cls := "DrumMapsModel", name := "here", desc := "()I" } : Jvm.MethodName) ({ cls := "DrumMapsModel", name := "here", desc := "()I" } : Jvm.MethodName)) ∈ gtbl := g_in (List.mem_of_getElem? (i := 30) (by decide +kernel)) rfl
theorem gs_31 : (Jvm.Cond.selects "DrumMapsModel" ({ cls := "DrumMapsModel", name := "readsRow", desc := "()Z" } : Jvm.MethodName) ({ cls := "DrumMapsModel", name := "readsRow", desc := "()Z" } : Jvm.MethodName)) ∈ gtbl := g_in (List.mem_of_getElem? (i := 31) (by decide +kernel)) rfl
theorem gs_32 : (Jvm.Cond.selects "DrumMapsModel" ({ cls := "DrumMapsModel", name := "readsDrum", desc := "()Z" } : Jvm.MethodName) ({ cls := "DrumMapsModel", name := "readsDrum", desc := "()Z" } : Jvm.MethodName)) ∈ gtbl := g_in (List.mem_of_getElem? (i := 32) (by decide +kernel)) rfl
theorem gs_33 : (Jvm.Cond.selects "DrumMapsModel" ({ cls := "DrumMapsModel", name := "number", desc := "(II)Z" } : Jvm.MethodName) ({ cls := "DrumMapsModel", name := "number", desc := "(II)Z" } : Jvm.MethodName)) ∈ gtbl := g_in (List.mem_of_getElem? (i := 33) (by decide +kernel)) rfl
theorem gs_34 : (Jvm.Cond.selects "DrumMapsModel" ({ cls := "DrumMapsModel", name := "readsOther", desc := "()Z" } : Jvm.MethodName) ({ cls := "DrumMapsModel", name := "readsOther", desc := "()Z" } : Jvm.MethodName)) ∈ gtbl := g_in (List.mem_of_getElem? (i := 34) (by decide +kernel)) rfl
theorem gs_35 : (Jvm.Cond.selects "DrumMapsModel" ({ cls := "DrumMapsModel", name := "takes", desc := "(I)Z" } : Jvm.MethodName) ({ cls := "DrumMapsModel", name := "takes", desc := "(I)Z" } : Jvm.MethodName)) ∈ gtbl := g_in (List.mem_of_getElem? (i := 35) (by decide +kernel)) rfl
theorem gs_36 : (Jvm.Cond.selects "DrumMapsModel" ({ cls := "DrumMapsModel", name := "readsTraveller", desc := "()Z" } : Jvm.MethodName) ({ cls := "DrumMapsModel", name := "readsTraveller", desc := "()Z" } : Jvm.MethodName)) ∈ gtbl := g_in (List.mem_of_getElem? (i := 36) (by decide +kernel)) rfl
theorem gs_37 : (Jvm.Cond.selects "DrumMapsModel" ({ cls := "DrumMapsModel", name := "readsWet", desc := "()Z" } : Jvm.MethodName) ({ cls := "DrumMapsModel", name := "readsWet", desc := "()Z" } : Jvm.MethodName)) ∈ gtbl := g_in (List.mem_of_getElem? (i := 37) (by decide +kernel)) rfl
theorem gs_38 : (Jvm.Cond.selects "DrumMapsModel" ({ cls := "DrumMapsModel", name := "isPlace", desc := "(I)Z" } : Jvm.MethodName) ({ cls := "DrumMapsModel", name := "isPlace", desc := "(I)Z" } : Jvm.MethodName)) ∈ gtbl := g_in (List.mem_of_getElem? (i := 38) (by decide +kernel)) rfl
theorem gs_39 : (Jvm.Cond.selects "DrumMapsModel" ({ cls := "DrumMapsModel", name := "isDrum", desc := "(I)Z" } : Jvm.MethodName) ({ cls := "DrumMapsModel", name := "isDrum", desc := "(I)Z" } : Jvm.MethodName)) ∈ gtbl := g_in (List.mem_of_getElem? (i := 39) (by decide +kernel)) rfl
theorem gs_40 : (Jvm.Cond.selects "DrumMapsModel" ({ cls := "DrumMapsModel", name := "taken", desc := "([III)I" } : Jvm.MethodName) ({ cls := "DrumMapsModel", name := "taken", desc := "([III)I" } : Jvm.MethodName)) ∈ gtbl := g_in (List.mem_of_getElem? (i := 40) (by decide +kernel)) rfl
theorem gs_41 : (Jvm.Cond.selects "DrumMapsModel" ({ cls := "DrumMapsModel", name := "isTraveller", desc := "(I)Z" } : Jvm.MethodName) ({ cls := "DrumMapsModel", name := "isTraveller", desc := "(I)Z" } : Jvm.MethodName)) ∈ gtbl := g_in (List.mem_of_getElem? (i := 41) (by decide +kernel)) rfl
theorem gs_42 : (Jvm.Cond.selects "DrumMapsModel" ({ cls := "DrumMapsModel", name := "lengthOf", desc := "([IIII)I" } : Jvm.MethodName) ({ cls := "DrumMapsModel", name := "lengthOf", desc := "([IIII)I" } : Jvm.MethodName)) ∈ gtbl := g_in (List.mem_of_getElem? (i := 42) (by decide +kernel)) rfl
theorem gs_43 : (Jvm.Cond.selects "DrumMapsModel" ({ cls := "DrumMapsModel", name := "layAway", desc := "([III)V" } : Jvm.MethodName) ({ cls := "DrumMapsModel", name := "layAway", desc := "([III)V" } : Jvm.MethodName)) ∈ gtbl := g_in (List.mem_of_getElem? (i := 43) (by decide +kernel)) rfl
theorem gs_44 : (Jvm.Cond.selects "DrumMapsModel" ({ cls := "DrumMapsModel", name := "byWay", desc := "([IIII)I" } : Jvm.MethodName) ({ cls := "DrumMapsModel", name := "byWay", desc := "([IIII)I" } : Jvm.MethodName)) ∈ gtbl := g_in (List.mem_of_getElem? (i := 44) (by decide +kernel)) rfl
theorem gs_45 : (Jvm.Cond.selects "DrumMapsModel" ({ cls := "DrumMapsModel", name := "beside", desc := "(II)I" } : Jvm.MethodName) ({ cls := "DrumMapsModel", name := "beside", desc := "(II)I" } : Jvm.MethodName)) ∈ gtbl := g_in (List.mem_of_getElem? (i := 45) (by decide +kernel)) rfl
theorem gs_46 : (Jvm.Cond.selects "DrumMapsModel" ({ cls := "DrumMapsModel", name := "firstOf", desc := "([IIII)I" } : Jvm.MethodName) ({ cls := "DrumMapsModel", name := "firstOf", desc := "([IIII)I" } : Jvm.MethodName)) ∈ gtbl := g_in (List.mem_of_getElem? (i := 46) (by decide +kernel)) rfl
theorem gs_47 : (Jvm.Cond.selects "DrumMapsModel" ({ cls := "DrumMapsModel", name := "remember", desc := "()V" } : Jvm.MethodName) ({ cls := "DrumMapsModel", name := "remember", desc := "()V" } : Jvm.MethodName)) ∈ gtbl := g_in (List.mem_of_getElem? (i := 47) (by decide +kernel)) rfl
theorem gs_48 : (Jvm.Cond.selects "DrumMapsModel" ({ cls := "DrumMapsModel", name := "hourGoes", desc := "([I)V" } : Jvm.MethodName) ({ cls := "DrumMapsModel", name := "hourGoes", desc := "([I)V" } : Jvm.MethodName)) ∈ gtbl := g_in (List.mem_of_getElem? (i := 48) (by decide +kernel)) rfl
theorem gs_49 : (Jvm.Cond.selects "DrumMapsModel" ({ cls := "DrumMapsModel", name := "oneGoes", desc := "([II)V" } : Jvm.MethodName) ({ cls := "DrumMapsModel", name := "oneGoes", desc := "([II)V" } : Jvm.MethodName)) ∈ gtbl := g_in (List.mem_of_getElem? (i := 49) (by decide +kernel)) rfl
theorem gs_50 : (Jvm.Cond.selects "DrumMapsModel" ({ cls := "DrumMapsModel", name := "untilNow", desc := "(II)I" } : Jvm.MethodName) ({ cls := "DrumMapsModel", name := "untilNow", desc := "(II)I" } : Jvm.MethodName)) ∈ gtbl := g_in (List.mem_of_getElem? (i := 50) (by decide +kernel)) rfl
theorem gs_51 : (Jvm.Cond.selects "DrumMapsModel" ({ cls := "DrumMapsModel", name := "untilSo", desc := "(II)I" } : Jvm.MethodName) ({ cls := "DrumMapsModel", name := "untilSo", desc := "(II)I" } : Jvm.MethodName)) ∈ gtbl := g_in (List.mem_of_getElem? (i := 51) (by decide +kernel)) rfl
theorem gs_52 : (Jvm.Cond.selects "DrumMapsModel" ({ cls := "DrumMapsModel", name := "ledBy", desc := "(III)I" } : Jvm.MethodName) ({ cls := "DrumMapsModel", name := "ledBy", desc := "(III)I" } : Jvm.MethodName)) ∈ gtbl := g_in (List.mem_of_getElem? (i := 52) (by decide +kernel)) rfl
theorem gs_53 : (Jvm.Cond.selects "DrumMapsModel" ({ cls := "DrumMapsModel", name := "yearDraws", desc := "(I)V" } : Jvm.MethodName) ({ cls := "DrumMapsModel", name := "yearDraws", desc := "(I)V" } : Jvm.MethodName)) ∈ gtbl := g_in (List.mem_of_getElem? (i := 53) (by decide +kernel)) rfl
theorem gs_54 : (Jvm.Cond.selects "DrumMapsModel" ({ cls := "DrumMapsModel", name := "manyOf", desc := "([II)I" } : Jvm.MethodName) ({ cls := "DrumMapsModel", name := "manyOf", desc := "([II)I" } : Jvm.MethodName)) ∈ gtbl := g_in (List.mem_of_getElem? (i := 54) (by decide +kernel)) rfl
theorem gs_55 : (Jvm.Cond.selects "DrumMapsModel" ({ cls := "DrumMapsModel", name := "sure", desc := "()I" } : Jvm.MethodName) ({ cls := "DrumMapsModel", name := "sure", desc := "()I" } : Jvm.MethodName)) ∈ gtbl := g_in (List.mem_of_getElem? (i := 55) (by decide +kernel)) rfl
end
section
/-! the methods: name, code, locals, answer, rooms of frames and locals -/
def mX5_init : mM := (yX5_init, cX5_init, 1, none, 1, 20)
def mX3_init : mM := (yX3_init, cX3_init, 2, none, 1, 20)
def mX1_init : mM := (yX1_init, cX1_init, 1, none, 2, 41)
def mX6_init : mM := (yX6_init, cX6_init, 1, none, 1, 20)
def mX0_init : mM := (yX0_init, cX0_init, 2, none, 2, 41)
def mX2_init : mM := (yX2_init, cX2_init, 1, none, 3, 62)
def mX4_init : mM := (yX4_init, cX4_init, 3, none, 3, 62)
def mX7_init : mM := (yX7_init, cX7_init, 1, none, 2, 41)
def mX5_add : mM := (yX5_add, cX5_add, 2, (some .boolean), 0, 0)
def mX1_clear : mM := (yX1_clear, cX1_clear, 1, none, 0, 0)
def mX3_fill : mM := (yX3_fill, cX3_fill, 3, none, 0, 0)
def mX0_clear : mM := (yX0_clear, cX0_clear, 1, none, 1, 22)
def mX5_letterAt : mM := (yX5_letterAt, cX5_letterAt, 2, (some .int), 0, 0)
def mX8_figureOf : mM := (yX8_figureOf, cX8_figureOf, 1, (some .int), 0, 0)
def mX8_within : mM := (yX8_within, cX8_within, 3, (some .boolean), 0, 0)
def mX3_put : mM := (yX3_put, cX3_put, 3, none, 0, 0)
def mX2_readRow : mM := (yX2_readRow, cX2_readRow, 5, (some .int), 1, 22)
def mX2_readNumbers : mM := (yX2_readNumbers, cX2_readNumbers, 8, (some .int), 1, 22)
def mX3_at : mM := (yX3_at, cX3_at, 2, (some .int), 0, 0)
def mX2_readDrum : mM := (yX2_readDrum, cX2_readDrum, 5, (some .int), 2, 49)
def mX1_hasDrum : mM := (yX1_hasDrum, cX1_hasDrum, 2, (some .boolean), 0, 0)
def mX1_hasPlace : mM := (yX1_hasPlace, cX1_hasPlace, 2, (some .boolean), 0, 0)
def mX0_setTold : mM := (yX0_setTold, cX0_setTold, 4, none, 1, 22)
def mX2_readTold : mM := (yX2_readTold, cX2_readTold, 7, (some .int), 2, 49)
def mX0_who : mM := (yX0_who, cX0_who, 2, (some (.object "DrumMaps$Traveller")), 0, 0)
def mX6_goTo : mM := (yX6_goTo, cX6_goTo, 2, none, 0, 0)
def mX6_start : mM := (yX6_start, cX6_start, 4, none, 1, 21)
def mX2_readTraveller : mM := (yX2_readTraveller, cX2_readTraveller, 7, (some .int), 2, 49)
def mX2_readWet : mM := (yX2_readWet, cX2_readWet, 4, (some .int), 2, 49)
def mX2_readItem : mM := (yX2_readItem, cX2_readItem, 3, (some .int), 3, 75)
def mX2_firstFault : mM := (yX2_firstFault, cX2_firstFault, 5, (some .int), 4, 97)
def mX3_copyFrom : mM := (yX3_copyFrom, cX3_copyFrom, 2, none, 1, 34)
def mX1_copyFrom : mM := (yX1_copyFrom, cX1_copyFrom, 2, none, 2, 55)
def mX8_modulo : mM := (yX8_modulo, cX8_modulo, 2, (some .int), 0, 0)
def mX1_linkPlaces : mM := (yX1_linkPlaces, cX1_linkPlaces, 3, none, 1, 22)
def mX6_copyFrom : mM := (yX6_copyFrom, cX6_copyFrom, 2, none, 0, 0)
def mX0_copyFrom : mM := (yX0_copyFrom, cX0_copyFrom, 3, none, 2, 55)
def mX8_layText : mM := (yX8_layText, cX8_layText, 1, (some .boolean), 5, 121)
def mX8_init : mM := (yX8_init, cX8_init, 2, none, 6, 141)
def mX8_write : mM := (yX8_write, cX8_write, 2, (some .int), 1, 22)
def mX8_wipe : mM := (yX8_wipe, cX8_wipe, 2, (some .int), 0, 0)
def mX8_fault : mM := (yX8_fault, cX8_fault, 1, (some .int), 5, 121)
def mX8_lay : mM := (yX8_lay, cX8_lay, 1, (some .int), 6, 141)
def mX8_place : mM := (yX8_place, cX8_place, 2, (some .int), 1, 21)
def mX0_tells : mM := (yX0_tells, cX0_tells, 5, (some .int), 1, 21)
def mX0_takes : mM := (yX0_takes, cX0_takes, 5, (some .int), 2, 45)
def mX8_loudness : mM := (yX8_loudness, cX8_loudness, 2, (some .int), 0, 0)
def mX8_drum : mM := (yX8_drum, cX8_drum, 4, (some .int), 3, 69)
def mX8_kind : mM := (yX8_kind, cX8_kind, 2, (some .int), 1, 21)
def mX1_hasTraveller : mM := (yX1_hasTraveller, cX1_hasTraveller, 2, (some .boolean), 0, 0)
def mX6_isOnHisWay : mM := (yX6_isOnHisWay, cX6_isOnHisWay, 1, (some .boolean), 0, 0)
def mX8_traveller : mM := (yX8_traveller, cX8_traveller, 4, (some .int), 1, 21)
def mX8_hoursToEnter : mM := (yX8_hoursToEnter, cX8_hoursToEnter, 3, (some .int), 0, 0)
def mX7_firstOf : mM := (yX7_firstOf, cX7_firstOf, 8, (some .int), 1, 21)
def mX7_hoursOver : mM := (yX7_hoursOver, cX7_hoursOver, 2, (some .int), 1, 21)
def mX7_measure : mM := (yX7_measure, cX7_measure, 8, none, 2, 48)
def mX7_learnByDrum : mM := (yX7_learnByDrum, cX7_learnByDrum, 6, none, 3, 75)
def mX7_hoursFrom : mM := (yX7_hoursFrom, cX7_hoursFrom, 2, (some .int), 1, 21)
def mX7_firstFrom : mM := (yX7_firstFrom, cX7_firstFrom, 3, (some .int), 2, 48)
def mX8_route : mM := (yX8_route, cX8_route, 5, (some .int), 4, 100)
def mX7_learnInTruth : mM := (yX7_learnInTruth, cX7_learnInTruth, 5, none, 3, 75)
def mX8_truth : mM := (yX8_truth, cX8_truth, 3, (some .int), 4, 99)
def mX4_isFull : mM := (yX4_isFull, cX4_isFull, 1, (some .boolean), 0, 0)
def mX4_dropLowest : mM := (yX4_dropLowest, cX4_dropLowest, 3, none, 0, 0)
def mX4_add : mM := (yX4_add, cX4_add, 2, none, 3, 77)
def mX6_mustSetOut : mM := (yX6_mustSetOut, cX6_mustSetOut, 1, (some .boolean), 0, 0)
def mX8_setOut : mM := (yX8_setOut, cX8_setOut, 5, none, 1, 22)
def mX6_goOn : mM := (yX6_goOn, cX6_goOn, 1, none, 0, 0)
def mX8_walkHour : mM := (yX8_walkHour, cX8_walkHour, 4, none, 3, 70)
def mX8_letHourPass : mM := (yX8_letHourPass, cX8_letHourPass, 4, none, 4, 100)
def mX8_pass : mM := (yX8_pass, cX8_pass, 3, (some .int), 5, 123)
def mX8_rain : mM := (yX8_rain, cX8_rain, 3, (some .int), 4, 98)
def mX8_retune : mM := (yX8_retune, cX8_retune, 5, (some .int), 4, 98)
def mX8_give : mM := (yX8_give, cX8_give, 5, (some .int), 4, 98)
def mX8_send : mM := (yX8_send, cX8_send, 4, (some .int), 4, 98)
def mX4_takeInto : mM := (yX4_takeInto, cX4_takeInto, 2, (some .boolean), 3, 77)
def mX8_undo : mM := (yX8_undo, cX8_undo, 1, (some .int), 4, 98)
def mX8_hoursUntil : mM := (yX8_hoursUntil, cX8_hoursUntil, 4, (some .int), 4, 100)
def mX8_arrives : mM := (yX8_arrives, cX8_arrives, 2, (some .int), 5, 123)
def mX8_loses : mM := (yX8_loses, cX8_loses, 2, (some .int), 5, 123)
def mX8_hoursLed : mM := (yX8_hoursLed, cX8_hoursLed, 4, (some .int), 5, 123)
def mX8_led : mM := (yX8_led, cX8_led, 4, (some .int), 6, 146)
def mX8_hoursToArrive : mM := (yX8_hoursToArrive, cX8_hoursToArrive, 4, (some .int), 5, 123)
def mX8_fastest : mM := (yX8_fastest, cX8_fastest, 7, (some .int), 6, 146)
def mX8_tune : mM := (yX8_tune, cX8_tune, 9, (some .int), 6, 146)
def mX6_isWith : mM := (yX6_isWith, cX6_isWith, 2, (some .boolean), 0, 0)
def mX8_meet : mM := (yX8_meet, cX8_meet, 4, (some .int), 4, 100)
def mX8_clash : mM := (yX8_clash, cX8_clash, 7, (some .int), 2, 45)
def mX8_right : mM := (yX8_right, cX8_right, 7, (some .int), 6, 146)
def mX8_hear : mM := (yX8_hear, cX8_hear, 3, (some .int), 1, 22)
def mX8_forget : mM := (yX8_forget, cX8_forget, 2, (some .int), 0, 0)
def mX8_toldAllHeard : mM := (yX8_toldAllHeard, cX8_toldAllHeard, 3, (some .boolean), 2, 45)
def mX8_which : mM := (yX8_which, cX8_which, 3, (some .int), 3, 67)
def mX8_placeBehind : mM := (yX8_placeBehind, cX8_placeBehind, 5, (some .int), 4, 100)
def mX8_seen : mM := (yX8_seen, cX8_seen, 6, (some .int), 5, 124)
def mX8_weightIfThere : mM := (yX8_weightIfThere, cX8_weightIfThere, 7, (some .int), 4, 93)
def mX8_greatestDivisor : mM := (yX8_greatestDivisor, cX8_greatestDivisor, 6, (some .int), 0, 0)
def mX8_rains : mM := (yX8_rains, cX8_rains, 10, (some .int), 5, 119)
def mX8_drawOf : mM := (yX8_drawOf, cX8_drawOf, 4, (some .int), 0, 0)
def mX8_sendIfHeCan : mM := (yX8_sendIfHeCan, cX8_sendIfHeCan, 4, none, 1, 21)
def mX8_stir : mM := (yX8_stir, cX8_stir, 5, none, 2, 45)
def mX0_howMany : mM := (yX0_howMany, cX0_howMany, 5, (some .int), 1, 21)
def mX8_year : mM := (yX8_year, cX8_year, 5, (some .int), 5, 123)
def mX8_keep : mM := (yX8_keep, cX8_keep, 1, (some .int), 4, 98)
def mX8_back : mM := (yX8_back, cX8_back, 1, (some .int), 4, 98)
def mX8_sure : mM := (yX8_sure, cX8_sure, 5, (some .int), 2, 45)
def mX8_count : mM := (yX8_count, cX8_count, 2, (some .int), 3, 69)
def mX9_forgetsRead : mM := (yX9_forgetsRead, cX9_forgetsRead, 2, none, 0, 0)
def mX9_laysRow : mM := (yX9_laysRow, cX9_laysRow, 5, none, 0, 0)
def mX9_laysTraveller : mM := (yX9_laysTraveller, cX9_laysTraveller, 4, none, 0, 0)
def mX9_copies : mM := (yX9_copies, cX9_copies, 6, none, 0, 0)
def mX9_begins : mM := (yX9_begins, cX9_begins, 4, none, 1, 25)
def mX9_init : mM := (yX9_init, cX9_init, 2, none, 2, 48)
def mX9_in : mM := (yX9_in, cX9_in, 6, (some .boolean), 0, 0)
def mX9_has : mM := (yX9_has, cX9_has, 2, (some .boolean), 0, 0)
def mX9_write : mM := (yX9_write, cX9_write, 2, (some .int), 1, 25)
def mX9_wipe : mM := (yX9_wipe, cX9_wipe, 2, (some .int), 0, 0)
def mX9_here : mM := (yX9_here, cX9_here, 1, (some .int), 0, 0)
def mX9_takes : mM := (yX9_takes, cX9_takes, 3, (some .boolean), 1, 20)
def mX9_isFigure : mM := (yX9_isFigure, cX9_isFigure, 1, (some .boolean), 1, 25)
def mX9_number : mM := (yX9_number, cX9_number, 3, (some .boolean), 2, 45)
def mX9_readsRow : mM := (yX9_readsRow, cX9_readsRow, 3, (some .boolean), 1, 25)
def mX9_readsDrum : mM := (yX9_readsDrum, cX9_readsDrum, 1, (some .boolean), 3, 67)
def mX9_readsOther : mM := (yX9_readsOther, cX9_readsOther, 3, (some .boolean), 3, 67)
def mX9_readsTraveller : mM := (yX9_readsTraveller, cX9_readsTraveller, 3, (some .boolean), 3, 67)
def mX9_readsWet : mM := (yX9_readsWet, cX9_readsWet, 1, (some .boolean), 3, 67)
def mX9_readsItem : mM := (yX9_readsItem, cX9_readsItem, 2, (some .boolean), 4, 89)
def mX9_reads : mM := (yX9_reads, cX9_reads, 2, (some .int), 5, 110)
def mX9_fault : mM := (yX9_fault, cX9_fault, 1, (some .int), 6, 131)
def mX9_lay : mM := (yX9_lay, cX9_lay, 1, (some .int), 6, 131)
def mX9_isPlace : mM := (yX9_isPlace, cX9_isPlace, 2, (some .boolean), 1, 25)
def mX9_isDrum : mM := (yX9_isDrum, cX9_isDrum, 2, (some .boolean), 1, 25)
def mX9_isTraveller : mM := (yX9_isTraveller, cX9_isTraveller, 2, (some .boolean), 1, 25)
def mX9_tells : mM := (yX9_tells, cX9_tells, 3, (some .int), 0, 0)
def mX9_taken : mM := (yX9_taken, cX9_taken, 5, (some .int), 1, 22)
def mX9_hoursFor : mM := (yX9_hoursFor, cX9_hoursFor, 3, (some .int), 0, 0)
def mX9_beside : mM := (yX9_beside, cX9_beside, 3, (some .int), 0, 0)
def mX9_byWay : mM := (yX9_byWay, cX9_byWay, 7, (some .int), 2, 46)
def mX9_layAway : mM := (yX9_layAway, cX9_layAway, 8, none, 3, 72)
def mX9_firstOf : mM := (yX9_firstOf, cX9_firstOf, 6, (some .int), 4, 99)
def mX9_lengthOf : mM := (yX9_lengthOf, cX9_lengthOf, 5, (some .int), 4, 99)
def mX9_place : mM := (yX9_place, cX9_place, 2, (some .int), 2, 46)
def mX9_drum : mM := (yX9_drum, cX9_drum, 5, (some .int), 2, 46)
def mX9_kind : mM := (yX9_kind, cX9_kind, 2, (some .int), 2, 46)
def mX9_traveller : mM := (yX9_traveller, cX9_traveller, 3, (some .int), 2, 46)
def mX9_route : mM := (yX9_route, cX9_route, 5, (some .int), 5, 124)
def mX9_truth : mM := (yX9_truth, cX9_truth, 3, (some .int), 5, 123)
def mX9_oneGoes : mM := (yX9_oneGoes, cX9_oneGoes, 5, none, 5, 124)
def mX9_hourGoes : mM := (yX9_hourGoes, cX9_hourGoes, 3, none, 6, 148)
def mX9_remember : mM := (yX9_remember, cX9_remember, 2, none, 1, 25)
def mX9_pass : mM := (yX9_pass, cX9_pass, 3, (some .int), 7, 170)
def mX9_rain : mM := (yX9_rain, cX9_rain, 3, (some .int), 2, 46)
def mX9_retune : mM := (yX9_retune, cX9_retune, 5, (some .int), 2, 46)
def mX9_give : mM := (yX9_give, cX9_give, 4, (some .int), 2, 46)
def mX9_sends : mM := (yX9_sends, cX9_sends, 3, none, 0, 0)
def mX9_send : mM := (yX9_send, cX9_send, 3, (some .int), 2, 46)
def mX9_undo : mM := (yX9_undo, cX9_undo, 1, (some .int), 1, 25)
def mX9_untilSo : mM := (yX9_untilSo, cX9_untilSo, 4, (some .int), 6, 148)
def mX9_untilNow : mM := (yX9_untilNow, cX9_untilNow, 3, (some .int), 7, 171)
def mX9_arrives : mM := (yX9_arrives, cX9_arrives, 2, (some .int), 8, 193)
def mX9_loses : mM := (yX9_loses, cX9_loses, 2, (some .int), 8, 193)
def mX9_ledBy : mM := (yX9_ledBy, cX9_ledBy, 4, (some .int), 7, 171)
def mX9_led : mM := (yX9_led, cX9_led, 4, (some .int), 8, 194)
def mX9_fastest : mM := (yX9_fastest, cX9_fastest, 6, (some .int), 7, 171)
def mX9_tune : mM := (yX9_tune, cX9_tune, 8, (some .int), 8, 193)
def mX9_meet : mM := (yX9_meet, cX9_meet, 4, (some .int), 6, 148)
def mX9_clash : mM := (yX9_clash, cX9_clash, 8, (some .int), 2, 46)
def mX9_right : mM := (yX9_right, cX9_right, 7, (some .int), 8, 194)
def mX9_hear : mM := (yX9_hear, cX9_hear, 3, (some .int), 2, 46)
def mX9_forget : mM := (yX9_forget, cX9_forget, 2, (some .int), 0, 0)
def mX9_which : mM := (yX9_which, cX9_which, 5, (some .int), 1, 22)
def mX9_seen : mM := (yX9_seen, cX9_seen, 7, (some .int), 6, 148)
def mX9_lowest : mM := (yX9_lowest, cX9_lowest, 11, (some .int), 0, 0)
def mX9_rains : mM := (yX9_rains, cX9_rains, 13, (some .int), 6, 148)
def mX9_manyOf : mM := (yX9_manyOf, cX9_manyOf, 5, (some .int), 0, 0)
def mX9_yearDraws : mM := (yX9_yearDraws, cX9_yearDraws, 3, none, 1, 22)
def mX9_year : mM := (yX9_year, cX9_year, 7, (some .int), 7, 170)
def mX9_keep : mM := (yX9_keep, cX9_keep, 1, (some .int), 1, 25)
def mX9_back : mM := (yX9_back, cX9_back, 1, (some .int), 1, 25)
def mX9_sure : mM := (yX9_sure, cX9_sure, 5, (some .int), 1, 22)
def mX9_count : mM := (yX9_count, cX9_count, 2, (some .int), 2, 46)
/-! the classes: their words, types, names -/
theorem gu_0 : ∀ w ∈ u_ws RX0 TX0 4, w ∈ gtbl := by
  have h : GoodIn lw_tbl (u_ws RX0 TX0 4) := goodIn_p _ [] rfl (by decide +kernel)
  have hg : (u_ws RX0 TX0 4).all goodWord = true := by decide +kernel
  exact fun w hw => g_in (h w hw).1 (List.all_eq_true.mp hg w hw)
theorem gu_1 : ∀ w ∈ u_ws RX1 TX1 8, w ∈ gtbl := by
  have h : GoodIn lw_tbl (u_ws RX1 TX1 8) := goodIn_p _ [] rfl (by decide +kernel)
  have hg : (u_ws RX1 TX1 8).all goodWord = true := by decide +kernel
  exact fun w hw => g_in (h w hw).1 (List.all_eq_true.mp hg w hw)
theorem gu_2 : ∀ w ∈ u_ws RX2 TX2 3, w ∈ gtbl := by
  have h : GoodIn lw_tbl (u_ws RX2 TX2 3) := goodIn_p _ [] rfl (by decide +kernel)
  have hg : (u_ws RX2 TX2 3).all goodWord = true := by decide +kernel
  exact fun w hw => g_in (h w hw).1 (List.all_eq_true.mp hg w hw)
theorem gu_3 : ∀ w ∈ u_ws RX3 TX3 1, w ∈ gtbl := by
  have h : GoodIn lw_tbl (u_ws RX3 TX3 1) := goodIn_p _ [] rfl (by decide +kernel)
  have hg : (u_ws RX3 TX3 1).all goodWord = true := by decide +kernel
  exact fun w hw => g_in (h w hw).1 (List.all_eq_true.mp hg w hw)
theorem gu_4 : ∀ w ∈ u_ws RX4 TX4 2, w ∈ gtbl := by
  have h : GoodIn lw_tbl (u_ws RX4 TX4 2) := goodIn_p _ [] rfl (by decide +kernel)
  have hg : (u_ws RX4 TX4 2).all goodWord = true := by decide +kernel
  exact fun w hw => g_in (h w hw).1 (List.all_eq_true.mp hg w hw)
theorem gu_5 : ∀ w ∈ u_ws RX5 TX5 2, w ∈ gtbl := by
  have h : GoodIn lw_tbl (u_ws RX5 TX5 2) := goodIn_p _ [] rfl (by decide +kernel)
  have hg : (u_ws RX5 TX5 2).all goodWord = true := by decide +kernel
  exact fun w hw => g_in (h w hw).1 (List.all_eq_true.mp hg w hw)
theorem gu_6 : ∀ w ∈ u_ws RX6 TX6 6, w ∈ gtbl := by
  have h : GoodIn lw_tbl (u_ws RX6 TX6 6) := goodIn_p _ [] rfl (by decide +kernel)
  have hg : (u_ws RX6 TX6 6).all goodWord = true := by decide +kernel
  exact fun w hw => g_in (h w hw).1 (List.all_eq_true.mp hg w hw)
theorem gu_7 : ∀ w ∈ u_ws RX7 TX7 2, w ∈ gtbl := by
  have h : GoodIn lw_tbl (u_ws RX7 TX7 2) := goodIn_p _ [] rfl (by decide +kernel)
  have hg : (u_ws RX7 TX7 2).all goodWord = true := by decide +kernel
  exact fun w hw => g_in (h w hw).1 (List.all_eq_true.mp hg w hw)
theorem gu_8 : ∀ w ∈ u_ws RX8 TX8 14, w ∈ gtbl := by
  have h : GoodIn lw_tbl (u_ws RX8 TX8 14) := goodIn_p _ [] rfl (by decide +kernel)
  have hg : (u_ws RX8 TX8 14).all goodWord = true := by decide +kernel
  exact fun w hw => g_in (h w hw).1 (List.all_eq_true.mp hg w hw)
theorem gu_9 : ∀ w ∈ u_ws RX9 TX9 30, w ∈ gtbl := by
  have h : GoodIn lw_tbl (u_ws RX9 TX9 30) := goodIn_p _ [] rfl (by decide +kernel)
  have hg : (u_ws RX9 TX9 30).all goodWord = true := by decide +kernel
  exact fun w hw => g_in (h w hw).1 (List.all_eq_true.mp hg w hw)
end
section
/-! ===== the small machine: ways, the heap, calls ===== -/
section WAYS
variable {Z : mZ} {M : mM} {pc : Nat} {ls : mL} {st : List mV} {h : mH} {post : Option mV → mH → Prop}
theorem z32 : Int32.ofInt 0 = 0 := by decide
theorem i32z : (-2147483648 : Int) ≤ 0 ∧ (0 : Int) < 2147483648 := ⟨by decide, by decide⟩
theorem q_icmp_eq_t {x y off : Int} {tgt : Nat} (d : decode M.2.1 pc = .ok (.if_icmp .eq off, 3)) (ht : (pc : Int) + off = (tgt : Int)) (hx : -2147483648 ≤ x ∧ x < 2147483648) (hy : -2147483648 ≤ y ∧ y < 2147483648) (cc : x = y) : mGo Z M pc ls (mi y :: mi x :: st) h tgt ls st h :=
  mGo.pu fun b p l e R s m args below meth c H locs cells slots Q la hxx hb ho hw hl k => lv_icmp_eq hxx hb d ht (fun _ => k la hl) (fun q => absurd ((o32_eq hx hy).mpr cc) q)
theorem q_icmp_eq_f {x y off : Int} {tgt : Nat} (d : decode M.2.1 pc = .ok (.if_icmp .eq off, 3)) (ht : (pc : Int) + off = (tgt : Int)) (hx : -2147483648 ≤ x ∧ x < 2147483648) (hy : -2147483648 ≤ y ∧ y < 2147483648) (cc : ¬ (x = y)) : mGo Z M pc ls (mi y :: mi x :: st) h (pc + 3) ls st h :=
  mGo.pu fun b p l e R s m args below meth c H locs cells slots Q la hxx hb ho hw hl k => lv_icmp_eq hxx hb d ht (fun q => absurd ((o32_eq hx hy).mp q) cc) (fun _ => k la hl)
theorem r_icmp_eq {x y off : Int} {tgt : Nat} (d : decode M.2.1 pc = .ok (.if_icmp .eq off, 3)) (ht : (pc : Int) + off = (tgt : Int)) (hx : -2147483648 ≤ x ∧ x < 2147483648) (hy : -2147483648 ≤ y ∧ y < 2147483648) (kt : x = y → mRun Z M tgt ls st h post) (kf : ¬ (x = y) → mRun Z M (pc + 3) ls st h post) : mRun Z M pc ls (mi y :: mi x :: st) h post := by
  by_cases cc : x = y
  · exact mRun.go (q_icmp_eq_t d ht hx hy cc) (kt cc)
  · exact mRun.go (q_icmp_eq_f d ht hx hy cc) (kf cc)
theorem q_icmp_ne_t {x y off : Int} {tgt : Nat} (d : decode M.2.1 pc = .ok (.if_icmp .ne off, 3)) (ht : (pc : Int) + off = (tgt : Int)) (hx : -2147483648 ≤ x ∧ x < 2147483648) (hy : -2147483648 ≤ y ∧ y < 2147483648) (cc : ¬ x = y) : mGo Z M pc ls (mi y :: mi x :: st) h tgt ls st h :=
  mGo.pu fun b p l e R s m args below meth c H locs cells slots Q la hxx hb ho hw hl k => lv_icmp_ne hxx hb d ht (fun _ => k la hl) (fun q => absurd ((o32_eq hx hy).mp q) cc)
theorem q_icmp_ne_f {x y off : Int} {tgt : Nat} (d : decode M.2.1 pc = .ok (.if_icmp .ne off, 3)) (ht : (pc : Int) + off = (tgt : Int)) (hx : -2147483648 ≤ x ∧ x < 2147483648) (hy : -2147483648 ≤ y ∧ y < 2147483648) (cc : ¬ (¬ x = y)) : mGo Z M pc ls (mi y :: mi x :: st) h (pc + 3) ls st h :=
  mGo.pu fun b p l e R s m args below meth c H locs cells slots Q la hxx hb ho hw hl k => lv_icmp_ne hxx hb d ht (fun q => absurd ((o32_eq hx hy).mpr (Classical.not_not.mp cc)) q) (fun _ => k la hl)
theorem r_icmp_ne {x y off : Int} {tgt : Nat} (d : decode M.2.1 pc = .ok (.if_icmp .ne off, 3)) (ht : (pc : Int) + off = (tgt : Int)) (hx : -2147483648 ≤ x ∧ x < 2147483648) (hy : -2147483648 ≤ y ∧ y < 2147483648) (kt : ¬ x = y → mRun Z M tgt ls st h post) (kf : ¬ (¬ x = y) → mRun Z M (pc + 3) ls st h post) : mRun Z M pc ls (mi y :: mi x :: st) h post := by
  by_cases cc : ¬ x = y
  · exact mRun.go (q_icmp_ne_t d ht hx hy cc) (kt cc)
  · exact mRun.go (q_icmp_ne_f d ht hx hy cc) (kf cc)
theorem q_icmp_lt_t {x y off : Int} {tgt : Nat} (d : decode M.2.1 pc = .ok (.if_icmp .lt off, 3)) (ht : (pc : Int) + off = (tgt : Int)) (hx : -2147483648 ≤ x ∧ x < 2147483648) (hy : -2147483648 ≤ y ∧ y < 2147483648) (cc : x < y) : mGo Z M pc ls (mi y :: mi x :: st) h tgt ls st h :=
  mGo.pu fun b p l e R s m args below meth c H locs cells slots Q la hxx hb ho hw hl k => lv_icmp_lt hxx hb d ht (fun _ => k la hl) (fun q => absurd ((o32_lt hx hy).mpr cc) q)
theorem q_icmp_lt_f {x y off : Int} {tgt : Nat} (d : decode M.2.1 pc = .ok (.if_icmp .lt off, 3)) (ht : (pc : Int) + off = (tgt : Int)) (hx : -2147483648 ≤ x ∧ x < 2147483648) (hy : -2147483648 ≤ y ∧ y < 2147483648) (cc : ¬ (x < y)) : mGo Z M pc ls (mi y :: mi x :: st) h (pc + 3) ls st h :=
  mGo.pu fun b p l e R s m args below meth c H locs cells slots Q la hxx hb ho hw hl k => lv_icmp_lt hxx hb d ht (fun q => absurd ((o32_lt hx hy).mp q) cc) (fun _ => k la hl)
theorem r_icmp_lt {x y off : Int} {tgt : Nat} (d : decode M.2.1 pc = .ok (.if_icmp .lt off, 3)) (ht : (pc : Int) + off = (tgt : Int)) (hx : -2147483648 ≤ x ∧ x < 2147483648) (hy : -2147483648 ≤ y ∧ y < 2147483648) (kt : x < y → mRun Z M tgt ls st h post) (kf : ¬ (x < y) → mRun Z M (pc + 3) ls st h post) : mRun Z M pc ls (mi y :: mi x :: st) h post := by
  by_cases cc : x < y
  · exact mRun.go (q_icmp_lt_t d ht hx hy cc) (kt cc)
  · exact mRun.go (q_icmp_lt_f d ht hx hy cc) (kf cc)
theorem q_icmp_ge_t {x y off : Int} {tgt : Nat} (d : decode M.2.1 pc = .ok (.if_icmp .ge off, 3)) (ht : (pc : Int) + off = (tgt : Int)) (hx : -2147483648 ≤ x ∧ x < 2147483648) (hy : -2147483648 ≤ y ∧ y < 2147483648) (cc : y ≤ x) : mGo Z M pc ls (mi y :: mi x :: st) h tgt ls st h :=
  mGo.pu fun b p l e R s m args below meth c H locs cells slots Q la hxx hb ho hw hl k => lv_icmp_ge hxx hb d ht (fun _ => k la hl) (fun q => absurd ((o32_le hy hx).mpr cc) q)
theorem q_icmp_ge_f {x y off : Int} {tgt : Nat} (d : decode M.2.1 pc = .ok (.if_icmp .ge off, 3)) (ht : (pc : Int) + off = (tgt : Int)) (hx : -2147483648 ≤ x ∧ x < 2147483648) (hy : -2147483648 ≤ y ∧ y < 2147483648) (cc : ¬ (y ≤ x)) : mGo Z M pc ls (mi y :: mi x :: st) h (pc + 3) ls st h :=
  mGo.pu fun b p l e R s m args below meth c H locs cells slots Q la hxx hb ho hw hl k => lv_icmp_ge hxx hb d ht (fun q => absurd ((o32_le hy hx).mp q) cc) (fun _ => k la hl)
theorem r_icmp_ge {x y off : Int} {tgt : Nat} (d : decode M.2.1 pc = .ok (.if_icmp .ge off, 3)) (ht : (pc : Int) + off = (tgt : Int)) (hx : -2147483648 ≤ x ∧ x < 2147483648) (hy : -2147483648 ≤ y ∧ y < 2147483648) (kt : y ≤ x → mRun Z M tgt ls st h post) (kf : ¬ (y ≤ x) → mRun Z M (pc + 3) ls st h post) : mRun Z M pc ls (mi y :: mi x :: st) h post := by
  by_cases cc : y ≤ x
  · exact mRun.go (q_icmp_ge_t d ht hx hy cc) (kt cc)
  · exact mRun.go (q_icmp_ge_f d ht hx hy cc) (kf cc)
theorem q_icmp_gt_t {x y off : Int} {tgt : Nat} (d : decode M.2.1 pc = .ok (.if_icmp .gt off, 3)) (ht : (pc : Int) + off = (tgt : Int)) (hx : -2147483648 ≤ x ∧ x < 2147483648) (hy : -2147483648 ≤ y ∧ y < 2147483648) (cc : y < x) : mGo Z M pc ls (mi y :: mi x :: st) h tgt ls st h :=
  mGo.pu fun b p l e R s m args below meth c H locs cells slots Q la hxx hb ho hw hl k => lv_icmp_gt hxx hb d ht (fun _ => k la hl) (fun q => absurd ((o32_lt hy hx).mpr cc) q)
theorem q_icmp_gt_f {x y off : Int} {tgt : Nat} (d : decode M.2.1 pc = .ok (.if_icmp .gt off, 3)) (ht : (pc : Int) + off = (tgt : Int)) (hx : -2147483648 ≤ x ∧ x < 2147483648) (hy : -2147483648 ≤ y ∧ y < 2147483648) (cc : ¬ (y < x)) : mGo Z M pc ls (mi y :: mi x :: st) h (pc + 3) ls st h :=
  mGo.pu fun b p l e R s m args below meth c H locs cells slots Q la hxx hb ho hw hl k => lv_icmp_gt hxx hb d ht (fun q => absurd ((o32_lt hy hx).mp q) cc) (fun _ => k la hl)
theorem r_icmp_gt {x y off : Int} {tgt : Nat} (d : decode M.2.1 pc = .ok (.if_icmp .gt off, 3)) (ht : (pc : Int) + off = (tgt : Int)) (hx : -2147483648 ≤ x ∧ x < 2147483648) (hy : -2147483648 ≤ y ∧ y < 2147483648) (kt : y < x → mRun Z M tgt ls st h post) (kf : ¬ (y < x) → mRun Z M (pc + 3) ls st h post) : mRun Z M pc ls (mi y :: mi x :: st) h post := by
  by_cases cc : y < x
  · exact mRun.go (q_icmp_gt_t d ht hx hy cc) (kt cc)
  · exact mRun.go (q_icmp_gt_f d ht hx hy cc) (kf cc)
theorem q_icmp_le_t {x y off : Int} {tgt : Nat} (d : decode M.2.1 pc = .ok (.if_icmp .le off, 3)) (ht : (pc : Int) + off = (tgt : Int)) (hx : -2147483648 ≤ x ∧ x < 2147483648) (hy : -2147483648 ≤ y ∧ y < 2147483648) (cc : x ≤ y) : mGo Z M pc ls (mi y :: mi x :: st) h tgt ls st h :=
  mGo.pu fun b p l e R s m args below meth c H locs cells slots Q la hxx hb ho hw hl k => lv_icmp_le hxx hb d ht (fun _ => k la hl) (fun q => absurd ((o32_le hx hy).mpr cc) q)
theorem q_icmp_le_f {x y off : Int} {tgt : Nat} (d : decode M.2.1 pc = .ok (.if_icmp .le off, 3)) (ht : (pc : Int) + off = (tgt : Int)) (hx : -2147483648 ≤ x ∧ x < 2147483648) (hy : -2147483648 ≤ y ∧ y < 2147483648) (cc : ¬ (x ≤ y)) : mGo Z M pc ls (mi y :: mi x :: st) h (pc + 3) ls st h :=
  mGo.pu fun b p l e R s m args below meth c H locs cells slots Q la hxx hb ho hw hl k => lv_icmp_le hxx hb d ht (fun q => absurd ((o32_le hx hy).mp q) cc) (fun _ => k la hl)
theorem r_icmp_le {x y off : Int} {tgt : Nat} (d : decode M.2.1 pc = .ok (.if_icmp .le off, 3)) (ht : (pc : Int) + off = (tgt : Int)) (hx : -2147483648 ≤ x ∧ x < 2147483648) (hy : -2147483648 ≤ y ∧ y < 2147483648) (kt : x ≤ y → mRun Z M tgt ls st h post) (kf : ¬ (x ≤ y) → mRun Z M (pc + 3) ls st h post) : mRun Z M pc ls (mi y :: mi x :: st) h post := by
  by_cases cc : x ≤ y
  · exact mRun.go (q_icmp_le_t d ht hx hy cc) (kt cc)
  · exact mRun.go (q_icmp_le_f d ht hx hy cc) (kf cc)
theorem q_if_eq_t {x off : Int} {tgt : Nat} (d : decode M.2.1 pc = .ok (.ifCond .eq off, 3)) (ht : (pc : Int) + off = (tgt : Int)) (hx : -2147483648 ≤ x ∧ x < 2147483648) (cc : x = 0) : mGo Z M pc ls (mi x :: st) h tgt ls st h :=
  mGo.pu fun b p l e R s m args below meth c H locs cells slots Q la hxx hb ho hw hl k => lv_if_eq hxx hb d ht (fun _ => k la hl) (fun q => absurd (((o32_eq hx i32z).mpr cc).trans z32) q)
theorem q_if_eq_f {x off : Int} {tgt : Nat} (d : decode M.2.1 pc = .ok (.ifCond .eq off, 3)) (ht : (pc : Int) + off = (tgt : Int)) (hx : -2147483648 ≤ x ∧ x < 2147483648) (cc : ¬ (x = 0)) : mGo Z M pc ls (mi x :: st) h (pc + 3) ls st h :=
  mGo.pu fun b p l e R s m args below meth c H locs cells slots Q la hxx hb ho hw hl k => lv_if_eq hxx hb d ht (fun q => absurd ((o32_eq hx i32z).mp (q.trans z32.symm)) cc) (fun _ => k la hl)
theorem r_if_eq {x off : Int} {tgt : Nat} (d : decode M.2.1 pc = .ok (.ifCond .eq off, 3)) (ht : (pc : Int) + off = (tgt : Int)) (hx : -2147483648 ≤ x ∧ x < 2147483648) (kt : x = 0 → mRun Z M tgt ls st h post) (kf : ¬ (x = 0) → mRun Z M (pc + 3) ls st h post) : mRun Z M pc ls (mi x :: st) h post := by
  by_cases cc : x = 0
  · exact mRun.go (q_if_eq_t d ht hx cc) (kt cc)
  · exact mRun.go (q_if_eq_f d ht hx cc) (kf cc)
theorem q_if_ne_t {x off : Int} {tgt : Nat} (d : decode M.2.1 pc = .ok (.ifCond .ne off, 3)) (ht : (pc : Int) + off = (tgt : Int)) (hx : -2147483648 ≤ x ∧ x < 2147483648) (cc : ¬ x = 0) : mGo Z M pc ls (mi x :: st) h tgt ls st h :=
  mGo.pu fun b p l e R s m args below meth c H locs cells slots Q la hxx hb ho hw hl k => lv_if_ne hxx hb d ht (fun _ => k la hl) (fun q => absurd ((o32_eq hx i32z).mp (q.trans z32.symm)) cc)
theorem q_if_ne_f {x off : Int} {tgt : Nat} (d : decode M.2.1 pc = .ok (.ifCond .ne off, 3)) (ht : (pc : Int) + off = (tgt : Int)) (hx : -2147483648 ≤ x ∧ x < 2147483648) (cc : ¬ (¬ x = 0)) : mGo Z M pc ls (mi x :: st) h (pc + 3) ls st h :=
  mGo.pu fun b p l e R s m args below meth c H locs cells slots Q la hxx hb ho hw hl k => lv_if_ne hxx hb d ht (fun q => absurd (((o32_eq hx i32z).mpr (Classical.not_not.mp cc)).trans z32) q) (fun _ => k la hl)
theorem r_if_ne {x off : Int} {tgt : Nat} (d : decode M.2.1 pc = .ok (.ifCond .ne off, 3)) (ht : (pc : Int) + off = (tgt : Int)) (hx : -2147483648 ≤ x ∧ x < 2147483648) (kt : ¬ x = 0 → mRun Z M tgt ls st h post) (kf : ¬ (¬ x = 0) → mRun Z M (pc + 3) ls st h post) : mRun Z M pc ls (mi x :: st) h post := by
  by_cases cc : ¬ x = 0
  · exact mRun.go (q_if_ne_t d ht hx cc) (kt cc)
  · exact mRun.go (q_if_ne_f d ht hx cc) (kf cc)
theorem q_if_lt_t {x off : Int} {tgt : Nat} (d : decode M.2.1 pc = .ok (.ifCond .lt off, 3)) (ht : (pc : Int) + off = (tgt : Int)) (hx : -2147483648 ≤ x ∧ x < 2147483648) (cc : x < 0) : mGo Z M pc ls (mi x :: st) h tgt ls st h :=
  mGo.pu fun b p l e R s m args below meth c H locs cells slots Q la hxx hb ho hw hl k => lv_if_lt hxx hb d ht (fun _ => k la hl) (fun q => absurd (by rw [← z32]; exact (o32_lt hx i32z).mpr cc) q)
theorem q_if_lt_f {x off : Int} {tgt : Nat} (d : decode M.2.1 pc = .ok (.ifCond .lt off, 3)) (ht : (pc : Int) + off = (tgt : Int)) (hx : -2147483648 ≤ x ∧ x < 2147483648) (cc : ¬ (x < 0)) : mGo Z M pc ls (mi x :: st) h (pc + 3) ls st h :=
  mGo.pu fun b p l e R s m args below meth c H locs cells slots Q la hxx hb ho hw hl k => lv_if_lt hxx hb d ht (fun q => absurd (by rw [← z32] at q; exact (o32_lt hx i32z).mp q) cc) (fun _ => k la hl)
theorem r_if_lt {x off : Int} {tgt : Nat} (d : decode M.2.1 pc = .ok (.ifCond .lt off, 3)) (ht : (pc : Int) + off = (tgt : Int)) (hx : -2147483648 ≤ x ∧ x < 2147483648) (kt : x < 0 → mRun Z M tgt ls st h post) (kf : ¬ (x < 0) → mRun Z M (pc + 3) ls st h post) : mRun Z M pc ls (mi x :: st) h post := by
  by_cases cc : x < 0
  · exact mRun.go (q_if_lt_t d ht hx cc) (kt cc)
  · exact mRun.go (q_if_lt_f d ht hx cc) (kf cc)
theorem q_if_ge_t {x off : Int} {tgt : Nat} (d : decode M.2.1 pc = .ok (.ifCond .ge off, 3)) (ht : (pc : Int) + off = (tgt : Int)) (hx : -2147483648 ≤ x ∧ x < 2147483648) (cc : 0 ≤ x) : mGo Z M pc ls (mi x :: st) h tgt ls st h :=
  mGo.pu fun b p l e R s m args below meth c H locs cells slots Q la hxx hb ho hw hl k => lv_if_ge hxx hb d ht (fun _ => k la hl) (fun q => absurd (by rw [← z32]; exact (o32_le i32z hx).mpr cc) q)
theorem q_if_ge_f {x off : Int} {tgt : Nat} (d : decode M.2.1 pc = .ok (.ifCond .ge off, 3)) (ht : (pc : Int) + off = (tgt : Int)) (hx : -2147483648 ≤ x ∧ x < 2147483648) (cc : ¬ (0 ≤ x)) : mGo Z M pc ls (mi x :: st) h (pc + 3) ls st h :=
  mGo.pu fun b p l e R s m args below meth c H locs cells slots Q la hxx hb ho hw hl k => lv_if_ge hxx hb d ht (fun q => absurd (by rw [← z32] at q; exact (o32_le i32z hx).mp q) cc) (fun _ => k la hl)
theorem r_if_ge {x off : Int} {tgt : Nat} (d : decode M.2.1 pc = .ok (.ifCond .ge off, 3)) (ht : (pc : Int) + off = (tgt : Int)) (hx : -2147483648 ≤ x ∧ x < 2147483648) (kt : 0 ≤ x → mRun Z M tgt ls st h post) (kf : ¬ (0 ≤ x) → mRun Z M (pc + 3) ls st h post) : mRun Z M pc ls (mi x :: st) h post := by
  by_cases cc : 0 ≤ x
  · exact mRun.go (q_if_ge_t d ht hx cc) (kt cc)
  · exact mRun.go (q_if_ge_f d ht hx cc) (kf cc)
theorem q_if_gt_t {x off : Int} {tgt : Nat} (d : decode M.2.1 pc = .ok (.ifCond .gt off, 3)) (ht : (pc : Int) + off = (tgt : Int)) (hx : -2147483648 ≤ x ∧ x < 2147483648) (cc : 0 < x) : mGo Z M pc ls (mi x :: st) h tgt ls st h :=
  mGo.pu fun b p l e R s m args below meth c H locs cells slots Q la hxx hb ho hw hl k => lv_if_gt hxx hb d ht (fun _ => k la hl) (fun q => absurd (by rw [← z32]; exact (o32_lt i32z hx).mpr cc) q)
theorem q_if_gt_f {x off : Int} {tgt : Nat} (d : decode M.2.1 pc = .ok (.ifCond .gt off, 3)) (ht : (pc : Int) + off = (tgt : Int)) (hx : -2147483648 ≤ x ∧ x < 2147483648) (cc : ¬ (0 < x)) : mGo Z M pc ls (mi x :: st) h (pc + 3) ls st h :=
  mGo.pu fun b p l e R s m args below meth c H locs cells slots Q la hxx hb ho hw hl k => lv_if_gt hxx hb d ht (fun q => absurd (by rw [← z32] at q; exact (o32_lt i32z hx).mp q) cc) (fun _ => k la hl)
theorem r_if_gt {x off : Int} {tgt : Nat} (d : decode M.2.1 pc = .ok (.ifCond .gt off, 3)) (ht : (pc : Int) + off = (tgt : Int)) (hx : -2147483648 ≤ x ∧ x < 2147483648) (kt : 0 < x → mRun Z M tgt ls st h post) (kf : ¬ (0 < x) → mRun Z M (pc + 3) ls st h post) : mRun Z M pc ls (mi x :: st) h post := by
  by_cases cc : 0 < x
  · exact mRun.go (q_if_gt_t d ht hx cc) (kt cc)
  · exact mRun.go (q_if_gt_f d ht hx cc) (kf cc)
theorem q_if_le_t {x off : Int} {tgt : Nat} (d : decode M.2.1 pc = .ok (.ifCond .le off, 3)) (ht : (pc : Int) + off = (tgt : Int)) (hx : -2147483648 ≤ x ∧ x < 2147483648) (cc : x ≤ 0) : mGo Z M pc ls (mi x :: st) h tgt ls st h :=
  mGo.pu fun b p l e R s m args below meth c H locs cells slots Q la hxx hb ho hw hl k => lv_if_le hxx hb d ht (fun _ => k la hl) (fun q => absurd (by rw [← z32]; exact (o32_le hx i32z).mpr cc) q)
theorem q_if_le_f {x off : Int} {tgt : Nat} (d : decode M.2.1 pc = .ok (.ifCond .le off, 3)) (ht : (pc : Int) + off = (tgt : Int)) (hx : -2147483648 ≤ x ∧ x < 2147483648) (cc : ¬ (x ≤ 0)) : mGo Z M pc ls (mi x :: st) h (pc + 3) ls st h :=
  mGo.pu fun b p l e R s m args below meth c H locs cells slots Q la hxx hb ho hw hl k => lv_if_le hxx hb d ht (fun q => absurd (by rw [← z32] at q; exact (o32_le hx i32z).mp q) cc) (fun _ => k la hl)
theorem r_if_le {x off : Int} {tgt : Nat} (d : decode M.2.1 pc = .ok (.ifCond .le off, 3)) (ht : (pc : Int) + off = (tgt : Int)) (hx : -2147483648 ≤ x ∧ x < 2147483648) (kt : x ≤ 0 → mRun Z M tgt ls st h post) (kf : ¬ (x ≤ 0) → mRun Z M (pc + 3) ls st h post) : mRun Z M pc ls (mi x :: st) h post := by
  by_cases cc : x ≤ 0
  · exact mRun.go (q_if_le_t d ht hx cc) (kt cc)
  · exact mRun.go (q_if_le_f d ht hx cc) (kf cc)
theorem q_tsw_in {dflt lo hi x off : Int} {offs : Array Int} {len tgt : Nat} (d : decode M.2.1 pc = .ok (.tableswitch dflt lo hi offs, len)) (hx : -2147483648 ≤ x ∧ x < 2147483648) (h1 : lo ≤ x ∧ x ≤ hi) (ho : offs[(x - lo).toNat]? = some off) (ht : (pc : Int) + off = (tgt : Int)) : mGo Z M pc ls (mi x :: st) h tgt ls st h :=
  mGo.pu fun b p l e R s m args below meth c H locs cells slots Q la hxx hb hoo hw hl k => lv_tableIn hxx hb d (by rw [o32 hx]; omega) (by rw [o32 hx]; omega) (by rw [o32 hx]; exact ho) ht (k la hl)
theorem q_tsw_out {dflt lo hi x : Int} {offs : Array Int} {len tgt : Nat} (d : decode M.2.1 pc = .ok (.tableswitch dflt lo hi offs, len)) (hx : -2147483648 ≤ x ∧ x < 2147483648) (h1 : x < lo ∨ hi < x) (ht : (pc : Int) + dflt = (tgt : Int)) : mGo Z M pc ls (mi x :: st) h tgt ls st h :=
  mGo.pu fun b p l e R s m args below meth c H locs cells slots Q la hxx hb hoo hw hl k => lv_tableOut hxx hb d (by rw [o32 hx]; exact h1) ht (k la hl)
theorem q_lsw {dflt x off : Int} {ps : Array (Int × Int)} {len tgt : Nat} (d : decode M.2.1 pc = .ok (.lookupswitch dflt ps, len)) (hx : -2147483648 ≤ x ∧ x < 2147483648) (hp : (ps.toList.zip (ps.toList.drop 1)).all (fun (a, next) => a.1 < next.1) = true) (ho : Op.lookupswitch.offset ps.toList dflt x = off) (ht : (pc : Int) + off = (tgt : Int)) : mGo Z M pc ls (mi x :: st) h tgt ls st h :=
  mGo.pu fun b p l e R s m args below meth c H locs cells slots Q la hxx hb hoo hw hl k => lv_lookup hxx hb d hp (by rw [o32 hx]; exact ho) ht (k la hl)
/-! the end -/
theorem r_ret (d : decode M.2.1 pc = .ok (.return_, 1)) (hr : M.2.2.2.1 = none) (hp : post none h) : mRun Z M pc ls [] h post := ⟨pc, ls, none, h, mGo.rf, ⟨d, hr⟩, hp⟩
theorem r_iret {x : Int} (d : decode M.2.1 pc = .ok (.ireturn, 1)) (hr : M.2.2.2.1 = some .int) (hp : post (some (mi x)) h) : mRun Z M pc ls [mi x] h post := ⟨pc, ls, some (mi x), h, mGo.rf, ⟨d, .int, hr, rfl⟩, hp⟩
theorem nz_bool {x : Int} (hx : x = 0 ∨ x = 1) : narrow .boolean (.int (Int32.ofInt x)) = .int (Int32.ofInt x) := by
  rcases hx with rfl | rfl <;> rfl
theorem r_zret {x : Int} (d : decode M.2.1 pc = .ok (.ireturn, 1)) (hr : M.2.2.2.1 = some .boolean) (hx : x = 0 ∨ x = 1) (hp : post (some (mi x)) h) : mRun Z M pc ls [mi x] h post := ⟨pc, ls, some (mi x), h, mGo.rf, ⟨d, .boolean, hr, nz_bool hx⟩, hp⟩
theorem r_aret {x : Nat} {n : String} (d : decode M.2.1 pc = .ok (.areturn, 1)) (hr : M.2.2.2.1 = some (.object n)) (hp : post (some (mr x)) h) : mRun Z M pc ls [mr x] h post := ⟨pc, ls, some (mr x), h, mGo.rf, ⟨d, n, hr⟩, hp⟩
end WAYS
/-! ===== fields ===== -/
def mty : Nat → Nat → FieldType := fun ci => match ci with
  | 0 => tyX0 | 1 => tyX1 | 2 => tyX2 | 3 => tyX3 | 4 => tyX4 | 5 => tyX5 | 6 => tyX6 | 7 => tyX7 | 8 => tyX8 | _ => tyX9
theorem mcl_ok (ci : Nat) (q : vw_C) (h : mcl[ci]? = some q) : (∀ w ∈ u_ws q.1 q.2.1 q.2.2, w ∈ gtbl) ∧ (∀ k, k < q.2.2 → parseFieldDescriptor (q.2.1 k).2.2.1 = some (mty ci k)) ∧ (∀ a, a < q.2.2 → ∀ b, b < q.2.2 → a ≠ b → (q.2.1 a).2.1 ≠ (q.2.1 b).2.1) := by
  match ci, h with
  | 0, h => cases h; exact ⟨gu_0, tyX0_ok, nmX0⟩
  | 1, h => cases h; exact ⟨gu_1, tyX1_ok, nmX1⟩
  | 2, h => cases h; exact ⟨gu_2, tyX2_ok, nmX2⟩
  | 3, h => cases h; exact ⟨gu_3, tyX3_ok, nmX3⟩
  | 4, h => cases h; exact ⟨gu_4, tyX4_ok, nmX4⟩
  | 5, h => cases h; exact ⟨gu_5, tyX5_ok, nmX5⟩
  | 6, h => cases h; exact ⟨gu_6, tyX6_ok, nmX6⟩
  | 7, h => cases h; exact ⟨gu_7, tyX7_ok, nmX7⟩
  | 8, h => cases h; exact ⟨gu_8, tyX8_ok, nmX8⟩
  | 9, h => cases h; exact ⟨gu_9, tyX9_ok, nmX9⟩
  | n + 10, h => simp [mcl] at h
/-- entry idx of the class own is the field k of the class ci -/
def mOkF (own : String) (idx ci k : Nat) : Prop := ∃ q : vw_C, mcl[ci]? = some q ∧ k < q.2.2 ∧ Cond.fieldLink own idx (q.2.1 k).1 (q.2.1 k).2.1 (q.2.1 k).2.2.1 ∈ gtbl
theorem vp_mx (fs : List (Option (Option Nat))) (g : Nat → Option (Option Nat) → Value) (j : Nat) : vp_V (fs.mapIdx g) j = ((fs[j]?).map (g j)).getD .null := by
  simp [vp_V, List.getD_eq_getElem?_getD]
/-- a table of integers with one other -/
def mup (I : mI) (r k : Nat) (x : Int) : mI := fun r' k' => if r' = r ∧ k' = k then x else I r' k'
/-- a table of integers with a row of noughts -/
def mzr (I : mI) (r : Nat) : mI := fun r' k' => if r' = r then 0 else I r' k'
theorem mRz.put {P : mP} {D : va_G} {σ σ' : List mC} {I I' : mI} {H H' : Heap} {r : Nat} {c' : mC} (hR : mRz P D (σ, I) H) (hlen : σ'.length = σ.length) (hsz : H'.size = H.size) (ho : ∀ q : Nat, q ≠ P.1 + r → H'[q]? = H[q]?) (hσ : ∀ j, j ≠ r → σ'[j]? = σ[j]?) (hc : ∀ c, σ'[r]? = some c → c = c') (hI : ∀ j, j ≠ r → I' j = I j) (hn : va_at D mcl (P.1 + r, mce P (I' r) c') H') : mRz P D (σ', I') H' := by
  refine ⟨by rw [hsz, hlen]; exact hR.1, fun k c hk => ?_⟩
  by_cases hkr : k = r
  · subst hkr
    rw [hc c hk]
    exact hn
  · rw [show ((σ', I') : mH).1[k]? = σ'[k]? from rfl, hσ k hkr] at hk
    have := hR.2 k c hk
    rw [show ((σ', I') : mH).2 k = I k from hI k hkr]
    exact this.kept (ho _ (by simp only; omega))
theorem mRz.push {P : mP} {D : va_G} {σ : List mC} {I I' : mI} {H H' : Heap} {c' : mC} (hR : mRz P D (σ, I) H) (hsz : H'.size = H.size + 1) (ho : ∀ q : Nat, q < H.size → H'[q]? = H[q]?) (hI : ∀ j, j < σ.length → I' j = I j) (hn : va_at D mcl (P.1 + σ.length, mce P (I' σ.length) c') H') : mRz P D (σ ++ [c'], I') H' := by
  have h1 : H.size = P.1 + σ.length := hR.1
  refine ⟨by show H'.size = P.1 + (σ ++ [c']).length; rw [hsz, List.length_append, h1]; simp only [List.length_singleton]; omega, fun k c hk => ?_⟩
  by_cases hl : k < σ.length
  · rw [show ((σ ++ [c'], I') : mH).1[k]? = (σ ++ [c'])[k]? from rfl, List.getElem?_append_left hl] at hk
    have := hR.2 k c hk
    rw [show ((σ ++ [c'], I') : mH).2 k = I k from hI k hl]
    exact this.kept (ho _ (by simp only; omega))
  · rw [show ((σ ++ [c'], I') : mH).1[k]? = (σ ++ [c'])[k]? from rfl, List.getElem?_append_right (by omega)] at hk
    have hz : k - σ.length < 1 := (List.getElem?_eq_some_iff.mp hk).1
    have hk0 : k = σ.length := by omega
    subst hk0
    rw [Nat.sub_self] at hk
    cases hk
    exact hn
theorem mS_set {σ : List mC} {I I' : mI} {r : Nat} {c c' : mC} (hr : σ[r]? = some c) (hs : msz c' = msz c) : mS (σ.set r c', I') = mS (σ, I) := by
  have hl := (List.getElem?_eq_some_iff.mp hr).1
  have he := (List.getElem?_eq_some_iff.mp hr).2
  show ((σ.set r c').map msz).sum = (σ.map msz).sum
  rw [List.map_set]
  congr 1
  apply List.ext_getElem?
  intro i
  by_cases hi : i = r
  · subst hi
    rw [List.getElem?_set_self (by simpa using hl), List.getElem?_map, hr, hs]; rfl
  · rw [List.getElem?_set_ne (Ne.symm hi)]
theorem mS_push {σ : List mC} {I I' : mI} {c' : mC} : mS (σ ++ [c'], I') = mS (σ, I) + msz c' := by
  simp [mS]
section FIELDS
variable {Z : mZ} {M : mM} {pc : Nat} {ls : mL} {st : List mV} {σ : List mC} {I : mI}
theorem q_getI {idx ci k r : Nat} {fs : List (Option (Option Nat))} (d : decode M.2.1 pc = .ok (.getfield idx, 3)) (ok : mOkF M.1.cls idx ci k) (hr : σ[r]? = some (.inl (ci, fs))) (hk : fs[k]? = some none) : mGo Z M pc ls (mr r :: st) (σ, I) (pc + 3) ls (mi (I r k) :: st) (σ, I) := by
  refine ⟨⟨Nat.le_refl _, Nat.le_refl _⟩, ?_⟩
  intro P D p l e R s m args below meth c Q c0 s0 C hZ hc hs hC hS kk H locs la hl hR hV
  obtain ⟨⟨C0, T, N⟩, hq, hkN, hlink⟩ := ok
  refine va_get (v := .int (Int32.ofInt (I r k))) C.1 C.2.1 C.2.2.2.2.2.1 (mcl_ok ci _ hq).1 C.2.2.2.1 C.2.2.2.2.2.2.1 (hR.one hr) 0 rfl hq k hkN (C.2.2.2.2.2.1 _ hlink) (fun _ x => x) ?_ d (kk H locs la hl hR hV)
  rw [List.getElem?_mapIdx, hk]
  rfl
theorem q_getR {idx ci k r : Nat} {o : Option Nat} {fs : List (Option (Option Nat))} (d : decode M.2.1 pc = .ok (.getfield idx, 3)) (ok : mOkF M.1.cls idx ci k) (hr : σ[r]? = some (.inl (ci, fs))) (hk : fs[k]? = some (some o)) : mGo Z M pc ls (mr r :: st) (σ, I) (pc + 3) ls (mo o :: st) (σ, I) := by
  refine ⟨⟨Nat.le_refl _, Nat.le_refl _⟩, ?_⟩
  intro P D p l e R s m args below meth c Q c0 s0 C hZ hc hs hC hS kk H locs la hl hR hV
  obtain ⟨⟨C0, T, N⟩, hq, hkN, hlink⟩ := ok
  refine va_get (v := mden P.1 (mo o)) C.1 C.2.1 C.2.2.2.2.2.1 (mcl_ok ci _ hq).1 C.2.2.2.1 C.2.2.2.2.2.2.1 (hR.one hr) 0 rfl hq k hkN (C.2.2.2.2.2.1 _ hlink) (fun _ x => x) ?_ d (kk H locs la hl hR hV)
  rw [List.getElem?_mapIdx, hk]
  rfl
theorem q_putI {idx ci k r : Nat} {x : Int} {fs : List (Option (Option Nat))} (d : decode M.2.1 pc = .ok (.putfield idx, 3)) (ok : mOkF M.1.cls idx ci k) (hf : ∀ q : vw_C, mcl[ci]? = some q → (q.2.1 k).2.2.2 = false ∧ (q.2.1 k).2.2.1 = "I") (hr : σ[r]? = some (.inl (ci, fs))) (hk : fs[k]? = some none) : mGo Z M pc ls (mi x :: mr r :: st) (σ, I) (pc + 3) ls st (σ, mup I r k x) := by
  refine ⟨⟨Nat.le_refl _, Nat.le_refl _⟩, ?_⟩
  intro P D p l e R s m args below meth c Q c0 s0 C hZ hc0 hs0 hC hS kk H locs la hl hR hV
  obtain ⟨⟨C0, T, N⟩, hq, hkN, hlink⟩ := ok
  obtain ⟨gu, gty, gnm⟩ := mcl_ok ci _ hq
  obtain ⟨hfin, hd⟩ := hf _ hq
  have hts := C.2.2.2.2.2.1
  have hK := C.2.2.2.2.2.2.1
  have hap := va_apart (own := M.1.cls) hts gu (mty ci) gty gnm hK hq
  obtain ⟨r0, h1, cell, q1, q2, q3, q4⟩ := hR.2 r _ hr
  have hr0 : r0 = (C0, T, N) := Option.some.inj (h1.symm.trans hq)
  subst hr0
  obtain ⟨hSl, hfc, kC, hkC, hkind⟩ := hK.1 ci _ hq
  obtain ⟨cf, kf, fi, f, hi, hsl⟩ := hSl k hkN
  have hlay := hts _ (gu _ (u_in_lay hkN))
  unfold u_lay at hlay
  rw [if_neg (by rw [hfin]; decide)] at hlay
  have hst := (u_facts hfc hkC (u_lays hts gu hkN) hi).1
  have hd2 : parseFieldDescriptor (T k).2.2.1 = some .int := by rw [show (T k).2.2.1 = "I" from hd]; decide +kernel
  have h6 := u_store (v := Value.int (Int32.ofInt x)) hfc hkC hkind hlay hi hd2 rfl rfl
  refine W.putK C.1 C.2.1 (f := f) ⟨C.2.2.2.1, hts _ hlink, ⟨_, _, _, hi⟩, hst⟩ (by rw [q2]; exact h6) q1 q3 (by rw [hsl]; exact k2_hasslot (q4 k hkN)) rfl rfl d fun H' e1 e2 e3 => ?_
  rw [hsl] at e1 ⊢
  have hkl := (List.getElem?_eq_some_iff.mp hk).1
  refine kk H' _ la hl (hR.put rfl e2 e3 (fun _ _ => rfl) (fun c hc => Option.some.inj (hc.symm.trans hr)) (fun j hj => by funext k'; simp [mup, hj]) ?_) (hV.put e2 e3 (show P.1 ≤ P.1 + r by omega))
  refine ⟨_, hq, t_OB.to (V := updV (vp_V (fs.mapIdx (fun k f => mfl P.1 (I r) k f))) k (Value.int (Int32.ofInt x))) ⟨_, e1, q2, q3, t_set q4 hap hkN (Value.int (Int32.ofInt x))⟩ (fun j hj => ?_)⟩
  rw [vp_mx]
  by_cases hjk : j = k
  · subst hjk
    rw [hk]
    simp [updV, mfl, mup]
  · simp only [updV, if_neg hjk]
    rw [vp_mx]
    congr 2
    funext o
    cases o with
    | none => simp [mfl, mup, hjk]
    | some o => rfl
theorem q_putR {idx ci k r : Nat} {o o' : Option Nat} {fs : List (Option (Option Nat))} (d : decode M.2.1 pc = .ok (.putfield idx, 3)) (ok : mOkF M.1.cls idx ci k) (hf : ∀ q : vw_C, mcl[ci]? = some q → (q.2.1 k).2.2.2 = true ∧ (q.2.1 k).1 = M.1.cls) (hty : (∃ n, mty ci k = .object n) ∨ ∃ t, mty ci k = .array t) (hin : M.1.name = "<init>") (hr : σ[r]? = some (.inl (ci, fs))) (hk : fs[k]? = some (some o')) : mGo Z M pc ls (mo o :: mr r :: st) (σ, I) (pc + 3) ls st (σ.set r (.inl (ci, fs.set k (some o))), I) := by
  have hsz : mS (σ.set r (.inl (ci, fs.set k (some o))), I) = mS (σ, I) := mS_set hr (by simp [msz])
  refine ⟨⟨by simp, Nat.le_of_eq hsz.symm⟩, ?_⟩
  intro P D p l e R s m args below meth c Q c0 s0 C hZ hc0 hs0 hC hS kk H locs la hl hR hV
  obtain ⟨⟨C0, T, N⟩, hq, hkN, hlink⟩ := ok
  obtain ⟨gu, gty, gnm⟩ := mcl_ok ci _ hq
  obtain ⟨hfin, hdecl⟩ := hf _ hq
  have hts := C.2.2.2.2.2.1
  have hK := C.2.2.2.2.2.2.1
  have hap := va_apart (own := M.1.cls) hts gu (mty ci) gty gnm hK hq
  obtain ⟨r0, h1, cell, q1, q2, q3, q4⟩ := hR.2 r _ hr
  have hr0 : r0 = (C0, T, N) := Option.some.inj (h1.symm.trans hq)
  subst hr0
  obtain ⟨hSl, hfc, kC, hkC, hkind⟩ := hK.1 ci _ hq
  obtain ⟨cf, kf, fi, f, hi, hsl⟩ := hSl k hkN
  have hlay := hts _ (gu _ (u_in_lay hkN))
  unfold u_lay at hlay
  rw [if_pos hfin] at hlay
  have hst := (u_facts hfc hkC (u_lays hts gu hkN) hi).1
  have hcf : m.cls = cf := by
    obtain ⟨_, _, c', _, _, _, -, -, hf', -, -, -, hown2, -⟩ := Cond.laysFinal_spec hlay
    have e1 : c' = cf := by have := hi.symm.trans hf'; simp at this; exact this.1.symm
    rw [hdecl] at hown2
    rw [← e1]; exact Option.some.inj (C.2.2.2.1.symm.trans hown2)
  have hd2 := gty k hkN
  have hnf : narrow (mty ci k) (mden P.1 (mo o)) = mden P.1 (mo o) ∧ fits (mty ci k) (mden P.1 (mo o)) = true := by
    rcases hty with ⟨n, hn⟩ | ⟨t, hn⟩ <;> rw [hn] <;> cases o <;> exact ⟨rfl, rfl⟩
  have h6 := u_fits hfc hkC hkind (Or.inr hlay) hi hd2 hnf.1 hnf.2
  refine W.putFinK C.1 C.2.1 C.2.2.2.1 (hts _ hlink) hi hst hcf (C.2.2.2.2.1.trans hin) (by rw [q2]; exact h6) q1 q3 (by rw [hsl]; exact k2_hasslot (q4 k hkN)) rfl rfl d fun H' e1 e2 e3 => ?_
  rw [hsl] at e1 ⊢
  have hkl := (List.getElem?_eq_some_iff.mp hk).1
  have hrl := (List.getElem?_eq_some_iff.mp hr).1
  have K := kk H' (locs ++ [⟨P.1 + r, D.2 ci k⟩]) la hl (hR.put (by simp) e2 e3 (fun j hj => List.getElem?_set_ne (Ne.symm hj)) (fun c hc => by rw [List.getElem?_set_self hrl] at hc; exact (Option.some.inj hc).symm) (fun j hj => rfl) ?_) (hV.put e2 e3 (show P.1 ≤ P.1 + r by omega))
  · rw [hsz] at K
    rw [show ((σ.set r (.inl (ci, fs.set k (some o))), I) : mH).1.length = σ.length by simp] at K
    exact K
  refine ⟨_, hq, t_OB.to (V := updV (vp_V (fs.mapIdx (fun k f => mfl P.1 (I r) k f))) k (mden P.1 (mo o))) ⟨_, e1, q2, q3, t_set q4 hap hkN (mden P.1 (mo o))⟩ (fun j hj => ?_)⟩
  rw [vp_mx]
  by_cases hjk : j = k
  · subst hjk
    rw [List.getElem?_set_self hkl]
    simp only [updV, if_pos]
    cases o <;> rfl
  · simp only [updV, if_neg hjk]
    rw [vp_mx, List.getElem?_set_ne (Ne.symm hjk)]
end FIELDS
end
section
/-! ===== arrays, making, calls ===== -/
section ARR
variable {Z : mZ} {M : mM} {pc : Nat} {ls : mL} {st : List mV} {σ : List mC} {I : mI}
theorem mK_int {P : mP} {D : va_G} {s : State} (hK : va_K D mcl (mtys P) s) : ArrOfT s (P.2 0) .int ∧ va_RA s (P.2 0) .int := hK.2 0 _ rfl
theorem q_alen {r n : Nat} (d : decode M.2.1 pc = .ok (.arraylength, 1)) (hr : σ[r]? = some (.inr (.inl n))) : mGo Z M pc ls (mr r :: st) (σ, I) (pc + 1) ls (mi (n : Int) :: st) (σ, I) := by
  refine ⟨⟨Nat.le_refl _, Nat.le_refl _⟩, ?_⟩
  intro P D p l e R s m args below meth c Q c0 s0 C hZ hc hs hC hS kk H locs la hl hR hV
  exact va_alen C.1 C.2.1 C.2.2.2.2.2.2.1 (hR.one hr) 0 0 rfl rfl (v := Int32.ofInt (n : Int)) Int32.ofInt_eq_ofNat.symm d (kk H locs la hl hR hV)
theorem q_alenR {r t : Nat} {rs : List (Option Nat)} (d : decode M.2.1 pc = .ok (.arraylength, 1)) (hr : σ[r]? = some (.inr (.inr (t, rs)))) (ht : t = 1 ∨ t = 2) : mGo Z M pc ls (mr r :: st) (σ, I) (pc + 1) ls (mi (rs.length : Int) :: st) (σ, I) := by
  refine ⟨⟨Nat.le_refl _, Nat.le_refl _⟩, ?_⟩
  intro P D p l e R s m args below meth c Q c0 s0 C hZ hc hs hC hS kk H locs la hl hR hV
  rcases ht with rfl | rfl
  · exact va_alen C.1 C.2.1 C.2.2.2.2.2.2.1 (hR.one hr) 0 1 rfl rfl (v := Int32.ofInt (rs.length : Int)) Int32.ofInt_eq_ofNat.symm d (kk H locs la hl hR hV)
  · exact va_alen C.1 C.2.1 C.2.2.2.2.2.2.1 (hR.one hr) 0 2 rfl rfl (v := Int32.ofInt (rs.length : Int)) Int32.ofInt_eq_ofNat.symm d (kk H locs la hl hR hV)
theorem q_iald {r n : Nat} {i : Int} (d : decode M.2.1 pc = .ok (.iaload, 1)) (hr : σ[r]? = some (.inr (.inl n))) (hi : 0 ≤ i ∧ i < (n : Int)) (hn : n < 2147483648) : mGo Z M pc ls (mi i :: mr r :: st) (σ, I) (pc + 1) ls (mi (I r i.toNat) :: st) (σ, I) := by
  refine ⟨⟨Nat.le_refl _, Nat.le_refl _⟩, ?_⟩
  intro P D p l e R s m args below meth c Q c0 s0 C hZ hc hs hC hS kk H locs la hl hR hV
  refine va_iald C.1 C.2.1 C.2.2.2.2.2.2.1 (hR.one hr) 0 0 rfl rfl (o32_in hi hn) d ?_
  rw [o32_cl ⟨hi.1, by omega⟩]
  exact kk H locs la hl hR hV
theorem q_iast {r n : Nat} {i x : Int} (d : decode M.2.1 pc = .ok (.iastore, 1)) (hr : σ[r]? = some (.inr (.inl n))) (hi : 0 ≤ i ∧ i < (n : Int)) (hn : n < 2147483648) : mGo Z M pc ls (mi x :: mi i :: mr r :: st) (σ, I) (pc + 1) ls st (σ, mup I r i.toNat x) := by
  refine ⟨⟨Nat.le_refl _, Nat.le_refl _⟩, ?_⟩
  intro P D p l e R s m args below meth c Q c0 s0 C hZ hc hs hC hS kk H locs la hl hR hV
  have hin := o32_in hi hn
  refine W.iast C.1 C.2.1 (hR.2 r _ hr) ((mK_int C.2.2.2.2.2.2.1).1 n (fun j => .int (Int32.ofInt (I r j)))) (fun q => by cases q) (by show ¬ (Int32.ofInt i < 0 ∨ (arrV _ _ _).slots.size ≤ _); rw [arrV_size]; exact hin) rfl rfl d fun H1 e z oq => ?_
  refine kk H1 _ la hl (hR.put rfl z oq (fun _ _ => rfl) (fun c hc => Option.some.inj (hc.symm.trans hr)) (fun j hj => by funext k'; simp [mup, hj]) ?_) (hV.put z oq (show P.1 ≤ P.1 + r by omega))
  show H1[P.1 + r]? = some (vp_cell _ _)
  rw [e]
  show some ((arrV (P.2 0) n (fun j => .int (Int32.ofInt (I r j)))).setSlot _ _) = _
  rw [arrV_store, vp_cell_i, o32_cl ⟨hi.1, by omega⟩]
  congr 2
  funext q
  by_cases hq : q = i.toNat
  · subst hq
    simp [updV, mup]
  · simp [updV, mup, hq]
def mek (t : Nat) : Nat := if t = 1 then 6 else 0
theorem q_aald {r t : Nat} {i : Int} {rs : List (Option Nat)} (d : decode M.2.1 pc = .ok (.aaload, 1)) (hr : σ[r]? = some (.inr (.inr (t, rs)))) (ht : t = 1 ∨ t = 2) (hi : 0 ≤ i ∧ i < (rs.length : Int)) (hn : rs.length < 2147483648) : mGo Z M pc ls (mi i :: mr r :: st) (σ, I) (pc + 1) ls (mo (rs.getD i.toNat none) :: st) (σ, I) := by
  refine ⟨⟨Nat.le_refl _, Nat.le_refl _⟩, ?_⟩
  intro P D p l e R s m args below meth c Q c0 s0 C hZ hc hs hC hS kk H locs la hl hR hV
  have K := kk H locs la hl hR hV
  rcases ht with rfl | rfl
  · refine va_aldq (C := RX6) C.1 C.2.1 C.2.2.2.2.2.2.1 (hR.one hr) 0 1 rfl rfl (o32_in hi hn) d ?_
    rw [o32_cl ⟨hi.1, by omega⟩]
    exact K
  · refine va_aldq (C := RX0) C.1 C.2.1 C.2.2.2.2.2.2.1 (hR.one hr) 0 2 rfl rfl (o32_in hi hn) d ?_
    rw [o32_cl ⟨hi.1, by omega⟩]
    exact K
theorem q_aast {r t v : Nat} {i : Int} {rs : List (Option Nat)} {fs : List (Option (Option Nat))} (d : decode M.2.1 pc = .ok (.aastore, 1)) (hr : σ[r]? = some (.inr (.inr (t, rs)))) (ht : t = 1 ∨ t = 2) (hv : σ[v]? = some (.inl (mek t, fs))) (hi : 0 ≤ i ∧ i < (rs.length : Int)) (hn : rs.length < 2147483648) : mGo Z M pc ls (mr v :: mi i :: mr r :: st) (σ, I) (pc + 1) ls st (σ.set r (.inr (.inr (t, rs.set i.toNat (some v)))), I) := by
  have hsz : mS (σ.set r (.inr (.inr (t, rs.set i.toNat (some v)))), I) = mS (σ, I) := mS_set hr (by simp [msz])
  refine ⟨⟨by simp, Nat.le_of_eq hsz.symm⟩, ?_⟩
  intro P D p l e R s m args below meth c Q c0 s0 C hZ hc hs hC hS kk H locs la hl hR hV
  have hK := C.2.2.2.2.2.2.1
  have hin := o32_in hi hn
  have hlt : (Int32.ofInt i).toNatClampNeg < rs.length := by rw [o32_cl ⟨hi.1, by omega⟩]; omega
  have h0 : ¬ Int32.ofInt i < 0 := fun q => hin (Or.inl q)
  have hrl := (List.getElem?_eq_some_iff.mp hr).1
  obtain ⟨q, hq, hE⟩ : ∃ q : vw_C, mcl[mek t]? = some q ∧ (mtys P)[t]? = some (P.2 t, .object q.1) := by
    rcases ht with rfl | rfl
    · exact ⟨_, rfl, rfl⟩
    · exact ⟨_, rfl, rfl⟩
  obtain ⟨r', hr', cellV, g1, g2, g3, -⟩ := hR.2 v _ hv
  have hcls := (hK.1 (mek t) q hq).2
  obtain ⟨kA, comp, k1, k2, k3, -⟩ := (hK.2 t _ hE).2
  have hcomp : comp = D.1 (mek t) := Option.some.inj (k3.symm.trans hcls.1)
  subst hcomp
  obtain ⟨kC, hkC, -⟩ := hcls.2
  refine W.aast C.1 C.2.1 (hR.2 r _ hr) (fun q h => by cases h) (fun h => by cases h) k1 k2 rfl hkC ⟨h0, by show _ < (arrV _ _ _).slots.size; rw [arrV_size]; exact hlt⟩ g1 (fun q h => by rw [g3] at h; cases h) (by rw [g2]; exact hkC) (by rw [g2]; exact va_assign hcls) rfl rfl d fun H1 e z oq => ?_
  have K := kk H1 (locs ++ [⟨P.1 + r, (Int32.ofInt i).toNatClampNeg⟩]) la hl (hR.put (by simp) z oq (fun j hj => List.getElem?_set_ne (Ne.symm hj)) (fun c hc => by rw [List.getElem?_set_self hrl] at hc; exact (Option.some.inj hc).symm) (fun j hj => rfl) ?_) (hV.put z oq (show P.1 ≤ P.1 + r by omega))
  · rw [hsz] at K
    rw [show ((σ.set r (.inr (.inr (t, rs.set i.toNat (some v)))), I) : mH).1.length = σ.length by simp] at K
    exact K
  show H1[P.1 + r]? = some (vp_cell _ _)
  rw [e]
  show some ((arrV (P.2 t) rs.length (fun j => va_rf ((rs.getD j none).map (fun r => P.1 + r)))).setSlot _ _) = _
  rw [arrV_store, vp_cell_q, List.length_set, o32_cl ⟨hi.1, by omega⟩]
  congr 2
  funext j
  by_cases hj : j = i.toNat
  · subst hj
    have hjl : i.toNat < rs.length := by omega
    simp [updV, va_rf, List.getD_eq_getElem?_getD, hjl]
  · simp only [updV, if_neg hj, List.getD_eq_getElem?_getD]
    rw [List.getElem?_set_ne (Ne.symm hj)]
/-! making -/
theorem vp_mx0 {P : mP} {J : Nat → Int} {fs : List (Option (Option Nat))} {N : Nat} {ty : Nat → FieldType} (hN : fs.length = N) (hJ : ∀ j, J j = 0) (hf : ∀ j, j < N → (fs[j]? = some none ∧ ty j = .int) ∨ (fs[j]? = some (some none) ∧ ((∃ n, ty j = .object n) ∨ ∃ t, ty j = .array t))) : ∀ j, j < N → defaultValue (ty j) = vp_V (fs.mapIdx (fun k f => mfl P.1 J k f)) j := by
  intro j hj
  rw [vp_mx]
  rcases hf j hj with ⟨h1, h2⟩ | ⟨h1, ⟨n, h2⟩ | ⟨t, h2⟩⟩
  · rw [h1, h2]
    simp only [Option.map_some, Option.getD_some, mfl, hJ]
    rfl
  · rw [h1, h2]; rfl
  · rw [h1, h2]; rfl
theorem q_new {idx ci : Nat} {q : vw_C} {fs : List (Option (Option Nat))} (d : decode M.2.1 pc = .ok (.new idx, 3)) (hq : mcl[ci]? = some q) (w1 : Cond.classLink M.1.cls idx q.1 ∈ gtbl) (w2 : Cond.instantiable q.1 q.2.2 ∈ gtbl) (w3 : Cond.initialized q.1 ∈ gtbl) (hN : fs.length = q.2.2) (hf : ∀ j, j < q.2.2 → (fs[j]? = some none ∧ mty ci j = .int) ∨ (fs[j]? = some (some none) ∧ ((∃ n, mty ci j = .object n) ∨ ∃ t, mty ci j = .array t))) : mGo Z M pc ls st (σ, I) (pc + 3) ls (mr σ.length :: st) (σ ++ [.inl (ci, fs)], mzr I σ.length) := by
  have hmS : mS (σ ++ [.inl (ci, fs)], mzr I σ.length) = mS (σ, I) + q.2.2 := by rw [mS_push, ← hN]; rfl
  refine ⟨⟨by simp, by rw [hmS]; omega⟩, ?_⟩
  intro P D p l e R s m args below meth c Q c0 s0 C hZ hc0 hs0 hC hS kk H locs la hl hR hV
  have hc0 : c0 ≤ σ.length := hc0
  rw [hmS] at hS
  have hC : (σ ++ [(.inl (ci, fs) : mC)]).length - c0 ≤ R.cells := hC
  rw [List.length_append, List.length_singleton] at hC
  have hts := C.2.2.2.2.2.1
  have hKn := C.2.2.2.2.2.2.1.1 ci _ hq
  have hH : H.size = P.1 + σ.length := hR.1
  have hcl : (σ, I).1.length - c0 + 1 ≤ R.cells := by show σ.length - c0 + 1 ≤ R.cells; omega
  have hsl : mS (σ, I) - s0 + q.2.2 ≤ R.slots := by omega
  refine W.newcK C.1 C.2.1 C.2.2.2.1 (hts _ w1) (hts _ w2) (hts _ w3) rfl d hcl hsl hKn.2.1 hH fun H1 kC hkC e1 z1 o1 => ?_
  have K := kk H1 locs la hl (hR.push (by omega) (fun q hq => o1 q (by omega)) (fun j hj => by funext k'; simp only [mzr]; rw [if_neg (by omega)]) ?_) ⟨Nat.le_trans hV.1 (by omega), fun x h1 h2 => (o1 x (by have := hV.1; omega)).trans (hV.2.1 x h1 h2), hV.2.2⟩
  · rw [hmS] at K
    rw [show ((σ ++ [.inl (ci, fs)], mzr I σ.length) : mH).1.length - c0 = (σ, I).1.length - c0 + 1 by simp only [List.length_append, List.length_singleton]; omega, show mS (σ, I) + q.2.2 - s0 = mS (σ, I) - s0 + q.2.2 by omega] at K
    exact K
  exact ⟨_, hq, (u_born (mty ci) hts (mcl_ok ci _ hq).1 hKn hkC e1 (mcl_ok ci _ hq).2.1).to (vp_mx0 hN (fun j => by simp [mzr]) hf)⟩
theorem q_newI {n : Int} (d : decode M.2.1 pc = .ok (.newarray .int, 2)) (w : Cond.arrayClass .int ∈ gtbl) (hn : 0 ≤ n ∧ n < 100000) : mGo Z M pc ls (mi n :: st) (σ, I) (pc + 2) ls (mr σ.length :: st) (σ ++ [.inr (.inl n.toNat)], mzr I σ.length) := by
  have hmS : mS (σ ++ [.inr (.inl n.toNat)], mzr I σ.length) = mS (σ, I) + n.toNat := by rw [mS_push]; rfl
  refine ⟨⟨by simp, by rw [hmS]; omega⟩, ?_⟩
  intro P D p l e R s m args below meth c Q c0 s0 C hZ hc0 hs0 hC hS kk H locs la hl hR hV
  have hc0 : c0 ≤ σ.length := hc0
  rw [hmS] at hS
  have hC : (σ ++ [(.inr (.inl n.toNat) : mC)]).length - c0 ≤ R.cells := hC
  rw [List.length_append, List.length_singleton] at hC
  have hts := C.2.2.2.2.2.1
  have hH : H.size = P.1 + σ.length := hR.1
  have hcl : (σ, I).1.length - c0 + 1 ≤ R.cells := by show σ.length - c0 + 1 ≤ R.cells; omega
  have hsl : mS (σ, I) - s0 + n.toNat ≤ R.slots := by omega
  have hneg : ¬ Int32.ofInt n < 0 := by rw [← z32, o32_lt ⟨by omega, by omega⟩ ⟨by decide, by decide⟩]; omega
  refine va_newaK C.1 C.2.1 (atype := .int) (hts _ w) rfl d rfl hneg (o32_cl ⟨hn.1, by omega⟩) (by show n.toNat * 4 ≤ _; omega) hcl hsl hH fun H1 cA e1 z1 o1 hAr hNm => ?_
  have hcA : cA = P.2 0 := by
    have h2 : s.vm.findClass ("[" ++ (FieldType.int).toString) = some (P.2 0) := (mK_int C.2.2.2.2.2.2.1).2
    exact Option.some.inj (hNm.symm.trans h2)
  subst hcA
  have K := kk H1 locs la hl (hR.push (by omega) (fun q hq => o1 q (by omega)) (fun j hj => by funext k'; simp only [mzr]; rw [if_neg (by omega)]) ?_) ⟨Nat.le_trans hV.1 (by omega), fun x h1 h2 => (o1 x (by have := hV.1; omega)).trans (hV.2.1 x h1 h2), hV.2.2⟩
  · rw [hmS] at K
    rw [show ((σ ++ [.inr (.inl n.toNat)], mzr I σ.length) : mH).1.length - c0 = (σ, I).1.length - c0 + 1 by simp only [List.length_append, List.length_singleton]; omega, show mS (σ, I) + n.toNat - s0 = mS (σ, I) - s0 + n.toNat by omega] at K
    exact K
  show H1[P.1 + σ.length]? = some (vp_cell _ _)
  rw [e1, vp_cell_i]
  congr 2
  funext j
  simp only [mzr, if_true]
  rfl
theorem q_newR {idx t : Nat} {n : Int} {q : vw_C} (d : decode M.2.1 pc = .ok (.anewarray idx, 3)) (ht : t = 1 ∨ t = 2) (hq : mcl[mek t]? = some q) (w : Cond.classLink M.1.cls idx q.1 ∈ gtbl) (hn : 0 ≤ n ∧ n < 100000) : mGo Z M pc ls (mi n :: st) (σ, I) (pc + 3) ls (mr σ.length :: st) (σ ++ [.inr (.inr (t, List.replicate n.toNat none))], I) := by
  have hmS : mS (σ ++ [.inr (.inr (t, List.replicate n.toNat none))], I) = mS (σ, I) + n.toNat := by rw [mS_push (I := I)]; simp [msz]
  refine ⟨⟨by simp, by rw [hmS]; omega⟩, ?_⟩
  intro P D p l e R s m args below meth c Q c0 s0 C hZ hc0 hs0 hC hS kk H locs la hl hR hV
  have hc0 : c0 ≤ σ.length := hc0
  rw [hmS] at hS
  have hC : (σ ++ [(.inr (.inr (t, List.replicate n.toNat none)) : mC)]).length - c0 ≤ R.cells := hC
  rw [List.length_append, List.length_singleton] at hC
  have hts := C.2.2.2.2.2.1
  have hK := C.2.2.2.2.2.2.1
  have hH : H.size = P.1 + σ.length := hR.1
  have hcl : (σ, I).1.length - c0 + 1 ≤ R.cells := by show σ.length - c0 + 1 ≤ R.cells; omega
  have hcl2 := o32_cl (a := n) ⟨hn.1, by omega⟩
  have hsl : mS (σ, I) - s0 + (Int32.ofInt n).toNatClampNeg ≤ R.slots := by rw [hcl2]; omega
  have hneg : ¬ Int32.ofInt n < 0 := by rw [← z32, o32_lt ⟨by omega, by omega⟩ ⟨by decide, by decide⟩]; omega
  have hE : (mtys P)[t]? = some (P.2 t, .object q.1) ∧ va_AO q.1 s := by
    rcases ht with rfl | rfl
    · cases hq; exact ⟨rfl, C.2.2.2.2.2.2.2.1.2.1⟩
    · cases hq; exact ⟨rfl, C.2.2.2.2.2.2.2.1.2.2.1⟩
  refine W.anew C.1 C.2.1 C.2.2.2.1 (hts _ w) (va_AO.use hE.2) rfl d rfl hneg (by rw [hcl2]; omega) hcl hsl fun cA kA comp f1 f2 f3 f4 => ?_
  have hcA : cA = P.2 t := by
    obtain ⟨kA', comp', g1, g2, g3, g4⟩ := (hK.2 t _ hE.1).2
    exact Option.some.inj (f1.symm.trans g4)
  subst hcA
  generalize hH1 : H.push ({ cls := P.2 t, slots := Array.replicate (Int32.ofInt n).toNatClampNeg .null, vm := .none } : Cell) = H1
  have z1 : H1.size = H.size + 1 := by rw [← hH1, Array.size_push]
  have e1 : H1[H.size]? = some (arrV (P.2 t) (Int32.ofInt n).toNatClampNeg (fun _ => .null)) := by rw [← hH1, Array.getElem?_push_size, ← arrV_new]
  have o1 : ∀ q : Nat, q < H.size → H1[q]? = H[q]? := fun q hq => by rw [← hH1, Array.getElem?_push, if_neg (Nat.ne_of_lt hq)]
  have K := kk H1 locs la hl (hR.push z1 o1 (fun j hj => rfl) ?_) ⟨Nat.le_trans hV.1 (by omega), fun x h1 h2 => (o1 x (by have := hV.1; omega)).trans (hV.2.1 x h1 h2), hV.2.2⟩
  · rw [hmS] at K
    rw [show ((σ ++ [.inr (.inr (t, List.replicate n.toNat none))], I) : mH).1.length - c0 = (σ, I).1.length - c0 + 1 by simp only [List.length_append, List.length_singleton]; omega, show mS (σ, I) + n.toNat - s0 = mS (σ, I) - s0 + n.toNat by omega] at K
    rw [hcl2, hH]
    exact K
  show H1[P.1 + σ.length]? = some (vp_cell _ _)
  rw [← hH, e1, vp_cell_q, List.length_replicate, hcl2]
  congr 2
  funext j
  have : (List.replicate n.toNat (none : Option Nat)).getD j none = none := by
    rw [List.getD_eq_getElem?_getD]
    cases hx : (List.replicate n.toNat (none : Option Nat))[j]? with
    | none => rfl
    | some y => rw [List.eq_of_mem_replicate (List.mem_of_getElem? hx)]; rfl
  rw [this]
  rfl
end ARR
end
