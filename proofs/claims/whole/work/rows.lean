section
def lw_okq (q : MethodName × Nat) : Prop := (q.1.cls ≠ "java/lang/invoke/MethodHandle" ∧ q.1.cls ≠ "java/lang/invoke/VarHandle") ∧ Cond.instantiable q.1.cls q.2 ∈ tables_1 ∧ Cond.privateMethod q.1 ∈ tables_1 ∧ Cond.instanceMethod q.1 ∈ tables_1
theorem lw_p0 : lw_okq (⟨"TurnedStones", "begin", "(LTurnedStones$Table;III)I"⟩, 14) := ⟨⟨by decide +kernel, by decide +kernel⟩, List.mem_of_getElem? (i := 18) (by decide +kernel), List.mem_of_getElem? (i := 318) (by decide +kernel), List.mem_of_getElem? (i := 319) (by decide +kernel)⟩
theorem lw_p1 : lw_okq (⟨"TurnedStones", "find", "(I)I"⟩, 14) := ⟨⟨by decide +kernel, by decide +kernel⟩, List.mem_of_getElem? (i := 18) (by decide +kernel), List.mem_of_getElem? (i := 326) (by decide +kernel), List.mem_of_getElem? (i := 327) (by decide +kernel)⟩
theorem lw_p2 : lw_okq (⟨"TurnedStones", "placeRefusal", "(LTurnedStones$Table;II)I"⟩, 14) := ⟨⟨by decide +kernel, by decide +kernel⟩, List.mem_of_getElem? (i := 18) (by decide +kernel), List.mem_of_getElem? (i := 349) (by decide +kernel), List.mem_of_getElem? (i := 350) (by decide +kernel)⟩
theorem lw_p3 : lw_okq (⟨"TurnedStones", "refusal", "(LTurnedStones$Table;I)I"⟩, 14) := ⟨⟨by decide +kernel, by decide +kernel⟩, List.mem_of_getElem? (i := 18) (by decide +kernel), List.mem_of_getElem? (i := 353) (by decide +kernel), List.mem_of_getElem? (i := 354) (by decide +kernel)⟩
theorem lw_p4 : lw_okq (⟨"TurnedStones$TownReader", "readSize", "()Z"⟩, 5) := ⟨⟨by decide +kernel, by decide +kernel⟩, List.mem_of_getElem? (i := 87) (by decide +kernel), List.mem_of_getElem? (i := 424) (by decide +kernel), List.mem_of_getElem? (i := 425) (by decide +kernel)⟩
theorem lw_p5 : lw_okq (⟨"TurnedStones$TownReader", "skipBlanks", "()V"⟩, 5) := ⟨⟨by decide +kernel, by decide +kernel⟩, List.mem_of_getElem? (i := 87) (by decide +kernel), List.mem_of_getElem? (i := 428) (by decide +kernel), List.mem_of_getElem? (i := 429) (by decide +kernel)⟩
theorem lw_p6 : lw_okq (⟨"TurnedStones$TownReader", "readSign", "(II)Z"⟩, 5) := ⟨⟨by decide +kernel, by decide +kernel⟩, List.mem_of_getElem? (i := 87) (by decide +kernel), List.mem_of_getElem? (i := 434) (by decide +kernel), List.mem_of_getElem? (i := 435) (by decide +kernel)⟩
theorem lw_p7 : lw_okq (⟨"TurnedStones$TownReader", "readStones", "()Z"⟩, 5) := ⟨⟨by decide +kernel, by decide +kernel⟩, List.mem_of_getElem? (i := 87) (by decide +kernel), List.mem_of_getElem? (i := 438) (by decide +kernel), List.mem_of_getElem? (i := 439) (by decide +kernel)⟩
theorem lw_p8 : lw_okq (⟨"TurnedStones$TownReader", "readKind", "(I)Z"⟩, 5) := ⟨⟨by decide +kernel, by decide +kernel⟩, List.mem_of_getElem? (i := 87) (by decide +kernel), List.mem_of_getElem? (i := 446) (by decide +kernel), List.mem_of_getElem? (i := 447) (by decide +kernel)⟩
theorem lw_p9 : lw_okq (⟨"TurnedStones$TownReader", "readWords", "(I)Z"⟩, 5) := ⟨⟨by decide +kernel, by decide +kernel⟩, List.mem_of_getElem? (i := 87) (by decide +kernel), List.mem_of_getElem? (i := 453) (by decide +kernel), List.mem_of_getElem? (i := 454) (by decide +kernel)⟩
theorem lw_p10 : lw_okq (⟨"TurnedStones$TownReader", "readSide", "(I)Z"⟩, 5) := ⟨⟨by decide +kernel, by decide +kernel⟩, List.mem_of_getElem? (i := 87) (by decide +kernel), List.mem_of_getElem? (i := 457) (by decide +kernel), List.mem_of_getElem? (i := 458) (by decide +kernel)⟩
theorem lw_p11 : lw_okq (⟨"TurnedStones$TownReader", "readEnd", "()Z"⟩, 5) := ⟨⟨by decide +kernel, by decide +kernel⟩, List.mem_of_getElem? (i := 87) (by decide +kernel), List.mem_of_getElem? (i := 465) (by decide +kernel), List.mem_of_getElem? (i := 466) (by decide +kernel)⟩
theorem lw_p12 : lw_okq (⟨"TurnedStones$LawBook", "joinStreet", "(III)V"⟩, 5) := ⟨⟨by decide +kernel, by decide +kernel⟩, List.mem_of_getElem? (i := 109) (by decide +kernel), List.mem_of_getElem? (i := 502) (by decide +kernel), List.mem_of_getElem? (i := 503) (by decide +kernel)⟩
theorem lw_p13 : lw_okq (⟨"TurnedStones$LawBook", "lastStart", "(II)I"⟩, 5) := ⟨⟨by decide +kernel, by decide +kernel⟩, List.mem_of_getElem? (i := 109) (by decide +kernel), List.mem_of_getElem? (i := 510) (by decide +kernel), List.mem_of_getElem? (i := 511) (by decide +kernel)⟩
theorem lw_p14 : lw_okq (⟨"TurnedStones", "stoneTells", "(II)I"⟩, 14) := ⟨⟨by decide +kernel, by decide +kernel⟩, List.mem_of_getElem? (i := 18) (by decide +kernel), List.mem_of_getElem? (i := 563) (by decide +kernel), List.mem_of_getElem? (i := 564) (by decide +kernel)⟩
theorem lw_p15 : lw_okq (⟨"TurnedStones", "holdsWords", "(II)Z"⟩, 14) := ⟨⟨by decide +kernel, by decide +kernel⟩, List.mem_of_getElem? (i := 18) (by decide +kernel), List.mem_of_getElem? (i := 597) (by decide +kernel), List.mem_of_getElem? (i := 598) (by decide +kernel)⟩
def lw_privs_1 : List (MethodName × Nat) := [(⟨"TurnedStones", "begin", "(LTurnedStones$Table;III)I"⟩, 14), (⟨"TurnedStones", "find", "(I)I"⟩, 14), (⟨"TurnedStones", "placeRefusal", "(LTurnedStones$Table;II)I"⟩, 14), (⟨"TurnedStones", "refusal", "(LTurnedStones$Table;I)I"⟩, 14), (⟨"TurnedStones$TownReader", "readSize", "()Z"⟩, 5), (⟨"TurnedStones$TownReader", "skipBlanks", "()V"⟩, 5), (⟨"TurnedStones$TownReader", "readSign", "(II)Z"⟩, 5), (⟨"TurnedStones$TownReader", "readStones", "()Z"⟩, 5), (⟨"TurnedStones$TownReader", "readKind", "(I)Z"⟩, 5), (⟨"TurnedStones$TownReader", "readWords", "(I)Z"⟩, 5), (⟨"TurnedStones$TownReader", "readSide", "(I)Z"⟩, 5), (⟨"TurnedStones$TownReader", "readEnd", "()Z"⟩, 5), (⟨"TurnedStones$LawBook", "joinStreet", "(III)V"⟩, 5), (⟨"TurnedStones$LawBook", "lastStart", "(II)I"⟩, 5), (⟨"TurnedStones", "stoneTells", "(II)I"⟩, 14), (⟨"TurnedStones", "holdsWords", "(II)Z"⟩, 14)]
theorem lw_r1 : ∀ q ∈ lw_privs_1, lw_okq q := List.forall_mem_cons.mpr ⟨lw_p0, List.forall_mem_cons.mpr ⟨lw_p1, List.forall_mem_cons.mpr ⟨lw_p2, List.forall_mem_cons.mpr ⟨lw_p3, List.forall_mem_cons.mpr ⟨lw_p4, List.forall_mem_cons.mpr ⟨lw_p5, List.forall_mem_cons.mpr ⟨lw_p6, List.forall_mem_cons.mpr ⟨lw_p7, List.forall_mem_cons.mpr ⟨lw_p8, List.forall_mem_cons.mpr ⟨lw_p9, List.forall_mem_cons.mpr ⟨lw_p10, List.forall_mem_cons.mpr ⟨lw_p11, List.forall_mem_cons.mpr ⟨lw_p12, List.forall_mem_cons.mpr ⟨lw_p13, List.forall_mem_cons.mpr ⟨lw_p14, List.forall_mem_cons.mpr ⟨lw_p15, fun _ h => absurd h List.not_mem_nil⟩⟩⟩⟩⟩⟩⟩⟩⟩⟩⟩⟩⟩⟩⟩⟩
theorem lw_p16 : lw_okq (⟨"TurnedStones", "isStreetEnd", "(II)Z"⟩, 14) := ⟨⟨by decide +kernel, by decide +kernel⟩, List.mem_of_getElem? (i := 18) (by decide +kernel), List.mem_of_getElem? (i := 614) (by decide +kernel), List.mem_of_getElem? (i := 615) (by decide +kernel)⟩
theorem lw_p17 : lw_okq (⟨"TurnedStones$LawBook", "levelIn", "(IIII)I"⟩, 5) := ⟨⟨by decide +kernel, by decide +kernel⟩, List.mem_of_getElem? (i := 109) (by decide +kernel), List.mem_of_getElem? (i := 636) (by decide +kernel), List.mem_of_getElem? (i := 637) (by decide +kernel)⟩
theorem lw_p18 : lw_okq (⟨"TurnedStones$LawBook", "levelAt", "(IIIII)I"⟩, 5) := ⟨⟨by decide +kernel, by decide +kernel⟩, List.mem_of_getElem? (i := 109) (by decide +kernel), List.mem_of_getElem? (i := 640) (by decide +kernel), List.mem_of_getElem? (i := 641) (by decide +kernel)⟩
theorem lw_p19 : lw_okq (⟨"TurnedStones$LawBook", "wordLevel", "(III)I"⟩, 5) := ⟨⟨by decide +kernel, by decide +kernel⟩, List.mem_of_getElem? (i := 109) (by decide +kernel), List.mem_of_getElem? (i := 645) (by decide +kernel), List.mem_of_getElem? (i := 646) (by decide +kernel)⟩
theorem lw_p20 : lw_okq (⟨"TurnedStones", "mayTurn", "(I)Z"⟩, 14) := ⟨⟨by decide +kernel, by decide +kernel⟩, List.mem_of_getElem? (i := 18) (by decide +kernel), List.mem_of_getElem? (i := 674) (by decide +kernel), List.mem_of_getElem? (i := 675) (by decide +kernel)⟩
theorem lw_p21 : lw_okq (⟨"TurnedStones", "passYear", "(I)V"⟩, 14) := ⟨⟨by decide +kernel, by decide +kernel⟩, List.mem_of_getElem? (i := 18) (by decide +kernel), List.mem_of_getElem? (i := 678) (by decide +kernel), List.mem_of_getElem? (i := 679) (by decide +kernel)⟩
theorem lw_p22 : lw_okq (⟨"TurnedStones$StateSet", "moved", "(III)J"⟩, 1) := ⟨⟨by decide +kernel, by decide +kernel⟩, List.mem_of_getElem? (i := 118) (by decide +kernel), List.mem_of_getElem? (i := 766) (by decide +kernel), List.mem_of_getElem? (i := 767) (by decide +kernel)⟩
theorem lw_p23 : lw_okq (⟨"TurnedStones$LawBook", "turnsAt", "(IIIII)I"⟩, 5) := ⟨⟨by decide +kernel, by decide +kernel⟩, List.mem_of_getElem? (i := 109) (by decide +kernel), List.mem_of_getElem? (i := 812) (by decide +kernel), List.mem_of_getElem? (i := 813) (by decide +kernel)⟩
theorem lw_p24 : lw_okq (⟨"TurnedStones$LawBook", "hasWord", "(II)Z"⟩, 5) := ⟨⟨by decide +kernel, by decide +kernel⟩, List.mem_of_getElem? (i := 109) (by decide +kernel), List.mem_of_getElem? (i := 828) (by decide +kernel), List.mem_of_getElem? (i := 829) (by decide +kernel)⟩
theorem lw_p25 : lw_okq (⟨"TurnedStones$Wants", "reckonTurn", "(IZ)V"⟩, 8) := ⟨⟨by decide +kernel, by decide +kernel⟩, List.mem_of_getElem? (i := 149) (by decide +kernel), List.mem_of_getElem? (i := 841) (by decide +kernel), List.mem_of_getElem? (i := 842) (by decide +kernel)⟩
theorem lw_p26 : lw_okq (⟨"TurnedStones$Past", "meetFitting", "(I)V"⟩, 7) := ⟨⟨by decide +kernel, by decide +kernel⟩, List.mem_of_getElem? (i := 212) (by decide +kernel), List.mem_of_getElem? (i := 876) (by decide +kernel), List.mem_of_getElem? (i := 877) (by decide +kernel)⟩
theorem lw_p27 : lw_okq (⟨"TurnedStones$Records", "meetEngraving", "(I[I)V"⟩, 6) := ⟨⟨by decide +kernel, by decide +kernel⟩, List.mem_of_getElem? (i := 184) (by decide +kernel), List.mem_of_getElem? (i := 885) (by decide +kernel), List.mem_of_getElem? (i := 886) (by decide +kernel)⟩
theorem lw_p28 : lw_okq (⟨"TurnedStones$Past", "meetAhead", "(I)V"⟩, 7) := ⟨⟨by decide +kernel, by decide +kernel⟩, List.mem_of_getElem? (i := 212) (by decide +kernel), List.mem_of_getElem? (i := 901) (by decide +kernel), List.mem_of_getElem? (i := 902) (by decide +kernel)⟩
theorem lw_p29 : lw_okq (⟨"TurnedStones$Past", "waysTo", "(IIILTurnedStones$StateSet;)I"⟩, 7) := ⟨⟨by decide +kernel, by decide +kernel⟩, List.mem_of_getElem? (i := 212) (by decide +kernel), List.mem_of_getElem? (i := 915) (by decide +kernel), List.mem_of_getElem? (i := 916) (by decide +kernel)⟩
theorem lw_p30 : lw_okq (⟨"TurnedStones$Past", "spread", "(I)V"⟩, 7) := ⟨⟨by decide +kernel, by decide +kernel⟩, List.mem_of_getElem? (i := 212) (by decide +kernel), List.mem_of_getElem? (i := 920) (by decide +kernel), List.mem_of_getElem? (i := 921) (by decide +kernel)⟩
theorem lw_p31 : lw_okq (⟨"TurnedStones$Past", "spreadTurned", "(III)V"⟩, 7) := ⟨⟨by decide +kernel, by decide +kernel⟩, List.mem_of_getElem? (i := 212) (by decide +kernel), List.mem_of_getElem? (i := 925) (by decide +kernel), List.mem_of_getElem? (i := 926) (by decide +kernel)⟩
def lw_privs_2 : List (MethodName × Nat) := [(⟨"TurnedStones", "isStreetEnd", "(II)Z"⟩, 14), (⟨"TurnedStones$LawBook", "levelIn", "(IIII)I"⟩, 5), (⟨"TurnedStones$LawBook", "levelAt", "(IIIII)I"⟩, 5), (⟨"TurnedStones$LawBook", "wordLevel", "(III)I"⟩, 5), (⟨"TurnedStones", "mayTurn", "(I)Z"⟩, 14), (⟨"TurnedStones", "passYear", "(I)V"⟩, 14), (⟨"TurnedStones$StateSet", "moved", "(III)J"⟩, 1), (⟨"TurnedStones$LawBook", "turnsAt", "(IIIII)I"⟩, 5), (⟨"TurnedStones$LawBook", "hasWord", "(II)Z"⟩, 5), (⟨"TurnedStones$Wants", "reckonTurn", "(IZ)V"⟩, 8), (⟨"TurnedStones$Past", "meetFitting", "(I)V"⟩, 7), (⟨"TurnedStones$Records", "meetEngraving", "(I[I)V"⟩, 6), (⟨"TurnedStones$Past", "meetAhead", "(I)V"⟩, 7), (⟨"TurnedStones$Past", "waysTo", "(IIILTurnedStones$StateSet;)I"⟩, 7), (⟨"TurnedStones$Past", "spread", "(I)V"⟩, 7), (⟨"TurnedStones$Past", "spreadTurned", "(III)V"⟩, 7)]
theorem lw_r2 : ∀ q ∈ lw_privs_2, lw_okq q := List.forall_mem_cons.mpr ⟨lw_p16, List.forall_mem_cons.mpr ⟨lw_p17, List.forall_mem_cons.mpr ⟨lw_p18, List.forall_mem_cons.mpr ⟨lw_p19, List.forall_mem_cons.mpr ⟨lw_p20, List.forall_mem_cons.mpr ⟨lw_p21, List.forall_mem_cons.mpr ⟨lw_p22, List.forall_mem_cons.mpr ⟨lw_p23, List.forall_mem_cons.mpr ⟨lw_p24, List.forall_mem_cons.mpr ⟨lw_p25, List.forall_mem_cons.mpr ⟨lw_p26, List.forall_mem_cons.mpr ⟨lw_p27, List.forall_mem_cons.mpr ⟨lw_p28, List.forall_mem_cons.mpr ⟨lw_p29, List.forall_mem_cons.mpr ⟨lw_p30, List.forall_mem_cons.mpr ⟨lw_p31, fun _ h => absurd h List.not_mem_nil⟩⟩⟩⟩⟩⟩⟩⟩⟩⟩⟩⟩⟩⟩⟩⟩
theorem lw_p32 : lw_okq (⟨"TurnedStones$Past", "keepOnly", "(LTurnedStones$StateSet;I)V"⟩, 7) := ⟨⟨by decide +kernel, by decide +kernel⟩, List.mem_of_getElem? (i := 212) (by decide +kernel), List.mem_of_getElem? (i := 930) (by decide +kernel), List.mem_of_getElem? (i := 931) (by decide +kernel)⟩
theorem lw_p33 : lw_okq (⟨"TurnedStones", "tally", "(I)I"⟩, 14) := ⟨⟨by decide +kernel, by decide +kernel⟩, List.mem_of_getElem? (i := 18) (by decide +kernel), List.mem_of_getElem? (i := 994) (by decide +kernel), List.mem_of_getElem? (i := 995) (by decide +kernel)⟩
theorem lw_p34 : lw_okq (⟨"TurnedStonesModel", "meets", "(I)I"⟩, 41) := ⟨⟨by decide +kernel, by decide +kernel⟩, List.mem_of_getElem? (i := 1032) (by decide +kernel), List.mem_of_getElem? (i := 1195) (by decide +kernel), List.mem_of_getElem? (i := 1196) (by decide +kernel)⟩
theorem lw_p35 : lw_okq (⟨"TurnedStonesModel", "rowAt", "(II)I"⟩, 41) := ⟨⟨by decide +kernel, by decide +kernel⟩, List.mem_of_getElem? (i := 1032) (by decide +kernel), List.mem_of_getElem? (i := 1203) (by decide +kernel), List.mem_of_getElem? (i := 1204) (by decide +kernel)⟩
theorem lw_p36 : lw_okq (⟨"TurnedStonesModel", "tells", "(II)I"⟩, 41) := ⟨⟨by decide +kernel, by decide +kernel⟩, List.mem_of_getElem? (i := 1032) (by decide +kernel), List.mem_of_getElem? (i := 1207) (by decide +kernel), List.mem_of_getElem? (i := 1208) (by decide +kernel)⟩
theorem lw_p37 : lw_okq (⟨"TurnedStonesModel", "faultOf", "(I)I"⟩, 41) := ⟨⟨by decide +kernel, by decide +kernel⟩, List.mem_of_getElem? (i := 1032) (by decide +kernel), List.mem_of_getElem? (i := 1242) (by decide +kernel), List.mem_of_getElem? (i := 1243) (by decide +kernel)⟩
theorem lw_p38 : lw_okq (⟨"TurnedStonesModel", "byteAt", "(II)I"⟩, 41) := ⟨⟨by decide +kernel, by decide +kernel⟩, List.mem_of_getElem? (i := 1032) (by decide +kernel), List.mem_of_getElem? (i := 1246) (by decide +kernel), List.mem_of_getElem? (i := 1247) (by decide +kernel)⟩
theorem lw_p39 : lw_okq (⟨"TurnedStonesModel", "readsGrid", "(I)Z"⟩, 41) := ⟨⟨by decide +kernel, by decide +kernel⟩, List.mem_of_getElem? (i := 1032) (by decide +kernel), List.mem_of_getElem? (i := 1250) (by decide +kernel), List.mem_of_getElem? (i := 1251) (by decide +kernel)⟩
theorem lw_p40 : lw_okq (⟨"TurnedStonesModel", "sign", "(III)Z"⟩, 41) := ⟨⟨by decide +kernel, by decide +kernel⟩, List.mem_of_getElem? (i := 1032) (by decide +kernel), List.mem_of_getElem? (i := 1254) (by decide +kernel), List.mem_of_getElem? (i := 1255) (by decide +kernel)⟩
theorem lw_p41 : lw_okq (⟨"TurnedStonesModel", "readsStone", "(I)Z"⟩, 41) := ⟨⟨by decide +kernel, by decide +kernel⟩, List.mem_of_getElem? (i := 1032) (by decide +kernel), List.mem_of_getElem? (i := 1258) (by decide +kernel), List.mem_of_getElem? (i := 1259) (by decide +kernel)⟩
theorem lw_p42 : lw_okq (⟨"TurnedStonesModel", "isStone", "(I)Z"⟩, 41) := ⟨⟨by decide +kernel, by decide +kernel⟩, List.mem_of_getElem? (i := 1032) (by decide +kernel), List.mem_of_getElem? (i := 1273) (by decide +kernel), List.mem_of_getElem? (i := 1274) (by decide +kernel)⟩
theorem lw_p43 : lw_okq (⟨"TurnedStonesModel", "stoneTells", "(II)I"⟩, 41) := ⟨⟨by decide +kernel, by decide +kernel⟩, List.mem_of_getElem? (i := 1032) (by decide +kernel), List.mem_of_getElem? (i := 1277) (by decide +kernel), List.mem_of_getElem? (i := 1278) (by decide +kernel)⟩
theorem lw_p44 : lw_okq (⟨"TurnedStonesModel", "unlike", "(II)I"⟩, 41) := ⟨⟨by decide +kernel, by decide +kernel⟩, List.mem_of_getElem? (i := 1032) (by decide +kernel), List.mem_of_getElem? (i := 1285) (by decide +kernel), List.mem_of_getElem? (i := 1286) (by decide +kernel)⟩
theorem lw_p45 : lw_okq (⟨"TurnedStonesModel", "isStreet", "(I)Z"⟩, 41) := ⟨⟨by decide +kernel, by decide +kernel⟩, List.mem_of_getElem? (i := 1032) (by decide +kernel), List.mem_of_getElem? (i := 1306) (by decide +kernel), List.mem_of_getElem? (i := 1307) (by decide +kernel)⟩
theorem lw_p46 : lw_okq (⟨"TurnedStonesModel", "streetMany", "()I"⟩, 41) := ⟨⟨by decide +kernel, by decide +kernel⟩, List.mem_of_getElem? (i := 1032) (by decide +kernel), List.mem_of_getElem? (i := 1310) (by decide +kernel), List.mem_of_getElem? (i := 1311) (by decide +kernel)⟩
theorem lw_p47 : lw_okq (⟨"TurnedStonesModel", "layNow", "()V"⟩, 41) := ⟨⟨by decide +kernel, by decide +kernel⟩, List.mem_of_getElem? (i := 1032) (by decide +kernel), List.mem_of_getElem? (i := 1314) (by decide +kernel), List.mem_of_getElem? (i := 1315) (by decide +kernel)⟩
def lw_privs_3 : List (MethodName × Nat) := [(⟨"TurnedStones$Past", "keepOnly", "(LTurnedStones$StateSet;I)V"⟩, 7), (⟨"TurnedStones", "tally", "(I)I"⟩, 14), (⟨"TurnedStonesModel", "meets", "(I)I"⟩, 41), (⟨"TurnedStonesModel", "rowAt", "(II)I"⟩, 41), (⟨"TurnedStonesModel", "tells", "(II)I"⟩, 41), (⟨"TurnedStonesModel", "faultOf", "(I)I"⟩, 41), (⟨"TurnedStonesModel", "byteAt", "(II)I"⟩, 41), (⟨"TurnedStonesModel", "readsGrid", "(I)Z"⟩, 41), (⟨"TurnedStonesModel", "sign", "(III)Z"⟩, 41), (⟨"TurnedStonesModel", "readsStone", "(I)Z"⟩, 41), (⟨"TurnedStonesModel", "isStone", "(I)Z"⟩, 41), (⟨"TurnedStonesModel", "stoneTells", "(II)I"⟩, 41), (⟨"TurnedStonesModel", "unlike", "(II)I"⟩, 41), (⟨"TurnedStonesModel", "isStreet", "(I)Z"⟩, 41), (⟨"TurnedStonesModel", "streetMany", "()I"⟩, 41), (⟨"TurnedStonesModel", "layNow", "()V"⟩, 41)]
theorem lw_r3 : ∀ q ∈ lw_privs_3, lw_okq q := List.forall_mem_cons.mpr ⟨lw_p32, List.forall_mem_cons.mpr ⟨lw_p33, List.forall_mem_cons.mpr ⟨lw_p34, List.forall_mem_cons.mpr ⟨lw_p35, List.forall_mem_cons.mpr ⟨lw_p36, List.forall_mem_cons.mpr ⟨lw_p37, List.forall_mem_cons.mpr ⟨lw_p38, List.forall_mem_cons.mpr ⟨lw_p39, List.forall_mem_cons.mpr ⟨lw_p40, List.forall_mem_cons.mpr ⟨lw_p41, List.forall_mem_cons.mpr ⟨lw_p42, List.forall_mem_cons.mpr ⟨lw_p43, List.forall_mem_cons.mpr ⟨lw_p44, List.forall_mem_cons.mpr ⟨lw_p45, List.forall_mem_cons.mpr ⟨lw_p46, List.forall_mem_cons.mpr ⟨lw_p47, fun _ h => absurd h List.not_mem_nil⟩⟩⟩⟩⟩⟩⟩⟩⟩⟩⟩⟩⟩⟩⟩⟩
theorem lw_p48 : lw_okq (⟨"TurnedStonesModel", "longOf", "(I)I"⟩, 41) := ⟨⟨by decide +kernel, by decide +kernel⟩, List.mem_of_getElem? (i := 1032) (by decide +kernel), List.mem_of_getElem? (i := 1318) (by decide +kernel), List.mem_of_getElem? (i := 1319) (by decide +kernel)⟩
theorem lw_p49 : lw_okq (⟨"TurnedStonesModel", "wordAt", "(III)I"⟩, 41) := ⟨⟨by decide +kernel, by decide +kernel⟩, List.mem_of_getElem? (i := 1032) (by decide +kernel), List.mem_of_getElem? (i := 1322) (by decide +kernel), List.mem_of_getElem? (i := 1323) (by decide +kernel)⟩
theorem lw_p50 : lw_okq (⟨"TurnedStonesModel", "stoneAt", "(III)I"⟩, 41) := ⟨⟨by decide +kernel, by decide +kernel⟩, List.mem_of_getElem? (i := 1032) (by decide +kernel), List.mem_of_getElem? (i := 1326) (by decide +kernel), List.mem_of_getElem? (i := 1327) (by decide +kernel)⟩
theorem lw_p51 : lw_okq (⟨"TurnedStonesModel", "sideAt", "(III)I"⟩, 41) := ⟨⟨by decide +kernel, by decide +kernel⟩, List.mem_of_getElem? (i := 1032) (by decide +kernel), List.mem_of_getElem? (i := 1330) (by decide +kernel), List.mem_of_getElem? (i := 1331) (by decide +kernel)⟩
theorem lw_p52 : lw_okq (⟨"TurnedStonesModel", "readIn", "(III)I"⟩, 41) := ⟨⟨by decide +kernel, by decide +kernel⟩, List.mem_of_getElem? (i := 1032) (by decide +kernel), List.mem_of_getElem? (i := 1338) (by decide +kernel), List.mem_of_getElem? (i := 1339) (by decide +kernel)⟩
theorem lw_p53 : lw_okq (⟨"TurnedStonesModel", "readFrom", "(IIII)I"⟩, 41) := ⟨⟨by decide +kernel, by decide +kernel⟩, List.mem_of_getElem? (i := 1032) (by decide +kernel), List.mem_of_getElem? (i := 1342) (by decide +kernel), List.mem_of_getElem? (i := 1343) (by decide +kernel)⟩
theorem lw_p54 : lw_okq (⟨"TurnedStonesModel", "isWornAt", "(III)Z"⟩, 41) := ⟨⟨by decide +kernel, by decide +kernel⟩, List.mem_of_getElem? (i := 1032) (by decide +kernel), List.mem_of_getElem? (i := 1346) (by decide +kernel), List.mem_of_getElem? (i := 1347) (by decide +kernel)⟩
theorem lw_p55 : lw_okq (⟨"TurnedStonesModel", "readBest", "(I)I"⟩, 41) := ⟨⟨by decide +kernel, by decide +kernel⟩, List.mem_of_getElem? (i := 1032) (by decide +kernel), List.mem_of_getElem? (i := 1350) (by decide +kernel), List.mem_of_getElem? (i := 1351) (by decide +kernel)⟩
theorem lw_p56 : lw_okq (⟨"TurnedStonesModel", "standing", "()I"⟩, 41) := ⟨⟨by decide +kernel, by decide +kernel⟩, List.mem_of_getElem? (i := 1032) (by decide +kernel), List.mem_of_getElem? (i := 1358) (by decide +kernel), List.mem_of_getElem? (i := 1359) (by decide +kernel)⟩
theorem lw_p57 : lw_okq (⟨"TurnedStonesModel", "isFixed", "(I)Z"⟩, 41) := ⟨⟨by decide +kernel, by decide +kernel⟩, List.mem_of_getElem? (i := 1032) (by decide +kernel), List.mem_of_getElem? (i := 1366) (by decide +kernel), List.mem_of_getElem? (i := 1367) (by decide +kernel)⟩
theorem lw_p58 : lw_okq (⟨"TurnedStonesModel", "turns", "(I)V"⟩, 41) := ⟨⟨by decide +kernel, by decide +kernel⟩, List.mem_of_getElem? (i := 1032) (by decide +kernel), List.mem_of_getElem? (i := 1370) (by decide +kernel), List.mem_of_getElem? (i := 1371) (by decide +kernel)⟩
theorem lw_p59 : lw_okq (⟨"TurnedStonesModel", "stepOf", "(I)I"⟩, 41) := ⟨⟨by decide +kernel, by decide +kernel⟩, List.mem_of_getElem? (i := 1032) (by decide +kernel), List.mem_of_getElem? (i := 1374) (by decide +kernel), List.mem_of_getElem? (i := 1375) (by decide +kernel)⟩
theorem lw_p60 : lw_okq (⟨"TurnedStonesModel", "stateNow", "()I"⟩, 41) := ⟨⟨by decide +kernel, by decide +kernel⟩, List.mem_of_getElem? (i := 1032) (by decide +kernel), List.mem_of_getElem? (i := 1386) (by decide +kernel), List.mem_of_getElem? (i := 1387) (by decide +kernel)⟩
theorem lw_p61 : lw_okq (⟨"TurnedStonesModel", "nearest", "(I)I"⟩, 41) := ⟨⟨by decide +kernel, by decide +kernel⟩, List.mem_of_getElem? (i := 1032) (by decide +kernel), List.mem_of_getElem? (i := 1405) (by decide +kernel), List.mem_of_getElem? (i := 1406) (by decide +kernel)⟩
theorem lw_p62 : lw_okq (⟨"TurnedStonesModel", "layTurns", "()V"⟩, 41) := ⟨⟨by decide +kernel, by decide +kernel⟩, List.mem_of_getElem? (i := 1032) (by decide +kernel), List.mem_of_getElem? (i := 1409) (by decide +kernel), List.mem_of_getElem? (i := 1410) (by decide +kernel)⟩
theorem lw_p63 : lw_okq (⟨"TurnedStonesModel", "stateMany", "()I"⟩, 41) := ⟨⟨by decide +kernel, by decide +kernel⟩, List.mem_of_getElem? (i := 1032) (by decide +kernel), List.mem_of_getElem? (i := 1413) (by decide +kernel), List.mem_of_getElem? (i := 1414) (by decide +kernel)⟩
def lw_privs_4 : List (MethodName × Nat) := [(⟨"TurnedStonesModel", "longOf", "(I)I"⟩, 41), (⟨"TurnedStonesModel", "wordAt", "(III)I"⟩, 41), (⟨"TurnedStonesModel", "stoneAt", "(III)I"⟩, 41), (⟨"TurnedStonesModel", "sideAt", "(III)I"⟩, 41), (⟨"TurnedStonesModel", "readIn", "(III)I"⟩, 41), (⟨"TurnedStonesModel", "readFrom", "(IIII)I"⟩, 41), (⟨"TurnedStonesModel", "isWornAt", "(III)Z"⟩, 41), (⟨"TurnedStonesModel", "readBest", "(I)I"⟩, 41), (⟨"TurnedStonesModel", "standing", "()I"⟩, 41), (⟨"TurnedStonesModel", "isFixed", "(I)Z"⟩, 41), (⟨"TurnedStonesModel", "turns", "(I)V"⟩, 41), (⟨"TurnedStonesModel", "stepOf", "(I)I"⟩, 41), (⟨"TurnedStonesModel", "stateNow", "()I"⟩, 41), (⟨"TurnedStonesModel", "nearest", "(I)I"⟩, 41), (⟨"TurnedStonesModel", "layTurns", "()V"⟩, 41), (⟨"TurnedStonesModel", "stateMany", "()I"⟩, 41)]
theorem lw_r4 : ∀ q ∈ lw_privs_4, lw_okq q := List.forall_mem_cons.mpr ⟨lw_p48, List.forall_mem_cons.mpr ⟨lw_p49, List.forall_mem_cons.mpr ⟨lw_p50, List.forall_mem_cons.mpr ⟨lw_p51, List.forall_mem_cons.mpr ⟨lw_p52, List.forall_mem_cons.mpr ⟨lw_p53, List.forall_mem_cons.mpr ⟨lw_p54, List.forall_mem_cons.mpr ⟨lw_p55, List.forall_mem_cons.mpr ⟨lw_p56, List.forall_mem_cons.mpr ⟨lw_p57, List.forall_mem_cons.mpr ⟨lw_p58, List.forall_mem_cons.mpr ⟨lw_p59, List.forall_mem_cons.mpr ⟨lw_p60, List.forall_mem_cons.mpr ⟨lw_p61, List.forall_mem_cons.mpr ⟨lw_p62, List.forall_mem_cons.mpr ⟨lw_p63, fun _ h => absurd h List.not_mem_nil⟩⟩⟩⟩⟩⟩⟩⟩⟩⟩⟩⟩⟩⟩⟩⟩
theorem lw_p64 : lw_okq (⟨"TurnedStonesModel", "turnsBy", "(III)I"⟩, 41) := ⟨⟨by decide +kernel, by decide +kernel⟩, List.mem_of_getElem? (i := 1032) (by decide +kernel), List.mem_of_getElem? (i := 1417) (by decide +kernel), List.mem_of_getElem? (i := 1418) (by decide +kernel)⟩
theorem lw_p65 : lw_okq (⟨"TurnedStonesModel", "layStands", "(Z)V"⟩, 41) := ⟨⟨by decide +kernel, by decide +kernel⟩, List.mem_of_getElem? (i := 1032) (by decide +kernel), List.mem_of_getElem? (i := 1421) (by decide +kernel), List.mem_of_getElem? (i := 1422) (by decide +kernel)⟩
theorem lw_p66 : lw_okq (⟨"TurnedStonesModel", "layState", "(I)V"⟩, 41) := ⟨⟨by decide +kernel, by decide +kernel⟩, List.mem_of_getElem? (i := 1032) (by decide +kernel), List.mem_of_getElem? (i := 1425) (by decide +kernel), List.mem_of_getElem? (i := 1426) (by decide +kernel)⟩
theorem lw_p67 : lw_okq (⟨"TurnedStonesModel", "layLine", "(I)V"⟩, 41) := ⟨⟨by decide +kernel, by decide +kernel⟩, List.mem_of_getElem? (i := 1032) (by decide +kernel), List.mem_of_getElem? (i := 1433) (by decide +kernel), List.mem_of_getElem? (i := 1434) (by decide +kernel)⟩
theorem lw_p68 : lw_okq (⟨"TurnedStonesModel", "fraction", "(JJI)I"⟩, 41) := ⟨⟨by decide +kernel, by decide +kernel⟩, List.mem_of_getElem? (i := 1032) (by decide +kernel), List.mem_of_getElem? (i := 1445) (by decide +kernel), List.mem_of_getElem? (i := 1446) (by decide +kernel)⟩
theorem lw_p69 : lw_okq (⟨"TurnedStonesModel", "layMakes", "(III)V"⟩, 41) := ⟨⟨by decide +kernel, by decide +kernel⟩, List.mem_of_getElem? (i := 1032) (by decide +kernel), List.mem_of_getElem? (i := 1461) (by decide +kernel), List.mem_of_getElem? (i := 1462) (by decide +kernel)⟩
theorem lw_p70 : lw_okq (⟨"TurnedStonesModel", "turnedOf", "(II)I"⟩, 41) := ⟨⟨by decide +kernel, by decide +kernel⟩, List.mem_of_getElem? (i := 1032) (by decide +kernel), List.mem_of_getElem? (i := 1465) (by decide +kernel), List.mem_of_getElem? (i := 1466) (by decide +kernel)⟩
theorem lw_p71 : lw_okq (⟨"TurnedStonesModel", "layHistories", "(I)V"⟩, 41) := ⟨⟨by decide +kernel, by decide +kernel⟩, List.mem_of_getElem? (i := 1032) (by decide +kernel), List.mem_of_getElem? (i := 1484) (by decide +kernel), List.mem_of_getElem? (i := 1485) (by decide +kernel)⟩
theorem lw_p72 : lw_okq (⟨"TurnedStonesModel", "fits", "(II)Z"⟩, 41) := ⟨⟨by decide +kernel, by decide +kernel⟩, List.mem_of_getElem? (i := 1032) (by decide +kernel), List.mem_of_getElem? (i := 1491) (by decide +kernel), List.mem_of_getElem? (i := 1492) (by decide +kernel)⟩
theorem lw_p73 : lw_okq (⟨"TurnedStonesModel", "counted", "(I)I"⟩, 41) := ⟨⟨by decide +kernel, by decide +kernel⟩, List.mem_of_getElem? (i := 1032) (by decide +kernel), List.mem_of_getElem? (i := 1516) (by decide +kernel), List.mem_of_getElem? (i := 1517) (by decide +kernel)⟩
theorem lw_p74 : lw_okq (⟨"TurnedStonesModel", "mix", "(J)V"⟩, 41) := ⟨⟨by decide +kernel, by decide +kernel⟩, List.mem_of_getElem? (i := 1032) (by decide +kernel), List.mem_of_getElem? (i := 1525) (by decide +kernel), List.mem_of_getElem? (i := 1526) (by decide +kernel)⟩
theorem lw_p75 : lw_okq (⟨"TurnedStonesModel", "mixTown", "()V"⟩, 41) := ⟨⟨by decide +kernel, by decide +kernel⟩, List.mem_of_getElem? (i := 1032) (by decide +kernel), List.mem_of_getElem? (i := 1530) (by decide +kernel), List.mem_of_getElem? (i := 1531) (by decide +kernel)⟩
def lw_privs_5 : List (MethodName × Nat) := [(⟨"TurnedStonesModel", "turnsBy", "(III)I"⟩, 41), (⟨"TurnedStonesModel", "layStands", "(Z)V"⟩, 41), (⟨"TurnedStonesModel", "layState", "(I)V"⟩, 41), (⟨"TurnedStonesModel", "layLine", "(I)V"⟩, 41), (⟨"TurnedStonesModel", "fraction", "(JJI)I"⟩, 41), (⟨"TurnedStonesModel", "layMakes", "(III)V"⟩, 41), (⟨"TurnedStonesModel", "turnedOf", "(II)I"⟩, 41), (⟨"TurnedStonesModel", "layHistories", "(I)V"⟩, 41), (⟨"TurnedStonesModel", "fits", "(II)Z"⟩, 41), (⟨"TurnedStonesModel", "counted", "(I)I"⟩, 41), (⟨"TurnedStonesModel", "mix", "(J)V"⟩, 41), (⟨"TurnedStonesModel", "mixTown", "()V"⟩, 41)]
theorem lw_r5 : ∀ q ∈ lw_privs_5, lw_okq q := List.forall_mem_cons.mpr ⟨lw_p64, List.forall_mem_cons.mpr ⟨lw_p65, List.forall_mem_cons.mpr ⟨lw_p66, List.forall_mem_cons.mpr ⟨lw_p67, List.forall_mem_cons.mpr ⟨lw_p68, List.forall_mem_cons.mpr ⟨lw_p69, List.forall_mem_cons.mpr ⟨lw_p70, List.forall_mem_cons.mpr ⟨lw_p71, List.forall_mem_cons.mpr ⟨lw_p72, List.forall_mem_cons.mpr ⟨lw_p73, List.forall_mem_cons.mpr ⟨lw_p74, List.forall_mem_cons.mpr ⟨lw_p75, fun _ h => absurd h List.not_mem_nil⟩⟩⟩⟩⟩⟩⟩⟩⟩⟩⟩⟩
def lw_privs : List (MethodName × Nat) := lw_privs_1 ++ (lw_privs_2 ++ (lw_privs_3 ++ (lw_privs_4 ++ (lw_privs_5))))
def lw_tbl : List Cond := k2_sels lw_privs ++ tables_1
theorem lw_privs_ok : ∀ q ∈ lw_privs, lw_okq q := by
  show ∀ q ∈ lw_privs_1 ++ (lw_privs_2 ++ (lw_privs_3 ++ (lw_privs_4 ++ (lw_privs_5)))), lw_okq q
  exact List.forall_mem_append.mpr ⟨lw_r1, List.forall_mem_append.mpr ⟨lw_r2, List.forall_mem_append.mpr ⟨lw_r3, List.forall_mem_append.mpr ⟨lw_r4, lw_r5⟩⟩⟩⟩
end
section
def RX0 : String := "TurnedStones$LawBook"
def TX0 : u_T := fun k => match k with
  | 0 => ("TurnedStones$LawBook", "words", "LTurnedStones$Table;", true)
  | 1 => ("TurnedStones$LawBook", "standing", "[LTurnedStones$StateSet;", true)
  | 2 => ("TurnedStones$LawBook", "mendedYears", "I", false)
  | 3 => ("TurnedStones$LawBook", "stones", "LTurnedStones$Stones;", true)
  | _ => ("TurnedStones$LawBook", "quarterBits", "[I", true)
def tyX0 : Nat → FieldType := fun k => match k with
  | 0 => .object "TurnedStones$Table"
  | 1 => .array (.object "TurnedStones$StateSet")
  | 2 => .int
  | 3 => .object "TurnedStones$Stones"
  | _ => .array .int
abbrev wsX00 : List Cond := u_ws RX0 TX0 5
theorem nmX0 : ∀ a, a < 5 → ∀ b, b < 5 → a ≠ b → (TX0 a).2.1 ≠ (TX0 b).2.1 := by decide +kernel
theorem tyX0_ok : ∀ k, k < 5 → parseFieldDescriptor (TX0 k).2.2.1 = some (tyX0 k) := by decide +kernel
abbrev cX0_init : ByteArray := prog_2_method_1_code
def yX0_init : MethodName := ⟨RX0, "<init>", "(LTurnedStones$Stones;)V"⟩
abbrev cX0_rebuildAll : ByteArray := prog_2_method_2_code
def yX0_rebuildAll : MethodName := ⟨RX0, "rebuildAll", "()V"⟩
abbrev cX0_rebuild : ByteArray := prog_2_method_3_code
def yX0_rebuild : MethodName := ⟨RX0, "rebuild", "(I)V"⟩
abbrev cX0_joinStreet : ByteArray := prog_2_method_4_code
def yX0_joinStreet : MethodName := ⟨RX0, "joinStreet", "(III)V"⟩
abbrev cX0_lastStart : ByteArray := prog_2_method_5_code
def yX0_lastStart : MethodName := ⟨RX0, "lastStart", "(II)I"⟩
abbrev cX0_standingIn : ByteArray := prog_2_method_6_code
def yX0_standingIn : MethodName := ⟨RX0, "standingIn", "(I)I"⟩
abbrev cX0_level : ByteArray := prog_2_method_7_code
def yX0_level : MethodName := ⟨RX0, "level", "(II)I"⟩
abbrev cX0_readings : ByteArray := prog_2_method_8_code
def yX0_readings : MethodName := ⟨RX0, "readings", "(II)I"⟩
abbrev cX0_levelIn : ByteArray := prog_2_method_9_code
def yX0_levelIn : MethodName := ⟨RX0, "levelIn", "(IIII)I"⟩
abbrev cX0_levelAt : ByteArray := prog_2_method_10_code
def yX0_levelAt : MethodName := ⟨RX0, "levelAt", "(IIIII)I"⟩
abbrev cX0_wordLevel : ByteArray := prog_2_method_11_code
def yX0_wordLevel : MethodName := ⟨RX0, "wordLevel", "(III)I"⟩
abbrev cX0_leastYears : ByteArray := prog_2_method_12_code
def yX0_leastYears : MethodName := ⟨RX0, "leastYears", "(II)I"⟩
abbrev cX0_turnsAt : ByteArray := prog_2_method_13_code
def yX0_turnsAt : MethodName := ⟨RX0, "turnsAt", "(IIIII)I"⟩
abbrev cX0_mendingWord : ByteArray := prog_2_method_14_code
def yX0_mendingWord : MethodName := ⟨RX0, "mendingWord", "(IIII)I"⟩
abbrev cX0_hasWord : ByteArray := prog_2_method_15_code
def yX0_hasWord : MethodName := ⟨RX0, "hasWord", "(II)Z"⟩
def RX1 : String := "TurnedStones$Past"
def TX1 : u_T := fun k => match k with
  | 0 => ("TurnedStones$Past", "live", "[LTurnedStones$StateSet;", true)
  | 1 => ("TurnedStones$Past", "stones", "LTurnedStones$Stones;", true)
  | 2 => ("TurnedStones$Past", "records", "LTurnedStones$Records;", true)
  | 3 => ("TurnedStones$Past", "spare", "LTurnedStones$StateSet;", true)
  | 4 => ("TurnedStones$Past", "quarterBits", "[I", true)
  | 5 => ("TurnedStones$Past", "ways", "[I", false)
  | _ => ("TurnedStones$Past", "nextWays", "[I", false)
def tyX1 : Nat → FieldType := fun k => match k with
  | 0 => .array (.object "TurnedStones$StateSet")
  | 1 => .object "TurnedStones$Stones"
  | 2 => .object "TurnedStones$Records"
  | 3 => .object "TurnedStones$StateSet"
  | 4 => .array .int
  | 5 => .array .int
  | _ => .array .int
abbrev wsX10 : List Cond := u_ws RX1 TX1 7
theorem nmX1 : ∀ a, a < 7 → ∀ b, b < 7 → a ≠ b → (TX1 a).2.1 ≠ (TX1 b).2.1 := by decide +kernel
theorem tyX1_ok : ∀ k, k < 7 → parseFieldDescriptor (TX1 k).2.2.1 = some (tyX1 k) := by decide +kernel
abbrev cX1_init : ByteArray := prog_3_method_1_code
def yX1_init : MethodName := ⟨RX1, "<init>", "(LTurnedStones$Stones;LTurnedStones$Records;)V"⟩
abbrev cX1_isTold : ByteArray := prog_3_method_2_code
def yX1_isTold : MethodName := ⟨RX1, "isTold", "(I)Z"⟩
abbrev cX1_meetFitting : ByteArray := prog_3_method_3_code
def yX1_meetFitting : MethodName := ⟨RX1, "meetFitting", "(I)V"⟩
abbrev cX1_meetAhead : ByteArray := prog_3_method_4_code
def yX1_meetAhead : MethodName := ⟨RX1, "meetAhead", "(I)V"⟩
abbrev cX1_turnedInto : ByteArray := prog_3_method_5_code
def yX1_turnedInto : MethodName := ⟨RX1, "turnedInto", "(I)I"⟩
abbrev cX1_allWays : ByteArray := prog_3_method_6_code
def yX1_allWays : MethodName := ⟨RX1, "allWays", "(I)I"⟩
abbrev cX1_waysBy : ByteArray := prog_3_method_7_code
def yX1_waysBy : MethodName := ⟨RX1, "waysBy", "(IILTurnedStones$StateSet;)I"⟩
abbrev cX1_waysTo : ByteArray := prog_3_method_8_code
def yX1_waysTo : MethodName := ⟨RX1, "waysTo", "(IIILTurnedStones$StateSet;)I"⟩
abbrev cX1_spread : ByteArray := prog_3_method_9_code
def yX1_spread : MethodName := ⟨RX1, "spread", "(I)V"⟩
abbrev cX1_spreadTurned : ByteArray := prog_3_method_10_code
def yX1_spreadTurned : MethodName := ⟨RX1, "spreadTurned", "(III)V"⟩
abbrev cX1_keepOnly : ByteArray := prog_3_method_11_code
def yX1_keepOnly : MethodName := ⟨RX1, "keepOnly", "(LTurnedStones$StateSet;I)V"⟩
def RX2 : String := "TurnedStones$Records"
def TX2 : u_T := fun k => match k with
  | 0 => ("TurnedStones$Records", "number", "I", false)
  | 1 => ("TurnedStones$Records", "stones", "LTurnedStones$Stones;", true)
  | 2 => ("TurnedStones$Records", "years", "[I", true)
  | 3 => ("TurnedStones$Records", "streets", "[I", true)
  | 4 => ("TurnedStones$Records", "ends", "[I", true)
  | _ => ("TurnedStones$Records", "words", "LTurnedStones$Table;", true)
def tyX2 : Nat → FieldType := fun k => match k with
  | 0 => .int
  | 1 => .object "TurnedStones$Stones"
  | 2 => .array .int
  | 3 => .array .int
  | 4 => .array .int
  | _ => .object "TurnedStones$Table"
abbrev wsX20 : List Cond := u_ws RX2 TX2 6
theorem nmX2 : ∀ a, a < 6 → ∀ b, b < 6 → a ≠ b → (TX2 a).2.1 ≠ (TX2 b).2.1 := by decide +kernel
theorem tyX2_ok : ∀ k, k < 6 → parseFieldDescriptor (TX2 k).2.2.1 = some (tyX2 k) := by decide +kernel
abbrev cX2_init : ByteArray := prog_4_method_1_code
def yX2_init : MethodName := ⟨RX2, "<init>", "(LTurnedStones$Stones;)V"⟩
abbrev cX2_add : ByteArray := prog_4_method_2_code
def yX2_add : MethodName := ⟨RX2, "add", "(IIILTurnedStones$Table;I)I"⟩
abbrev cX2_dropFrom : ByteArray := prog_4_method_3_code
def yX2_dropFrom : MethodName := ⟨RX2, "dropFrom", "(I)V"⟩
abbrev cX2_meetFitting : ByteArray := prog_4_method_4_code
def yX2_meetFitting : MethodName := ⟨RX2, "meetFitting", "(I[I)V"⟩
abbrev cX2_meetEngraving : ByteArray := prog_4_method_5_code
def yX2_meetEngraving : MethodName := ⟨RX2, "meetEngraving", "(I[I)V"⟩
abbrev cX2_lastTold : ByteArray := prog_4_method_6_code
def yX2_lastTold : MethodName := ⟨RX2, "lastTold", "(I)I"⟩
abbrev cX2_fold : ByteArray := prog_4_method_7_code
def yX2_fold : MethodName := ⟨RX2, "fold", "(J)J"⟩
def RX3 : String := "TurnedStones$StateSet"
def TX3 : u_T := fun k => match k with
  | _ => ("TurnedStones$StateSet", "bits", "[J", true)
def tyX3 : Nat → FieldType := fun k => match k with
  | _ => .array .long
abbrev wsX30 : List Cond := u_ws RX3 TX3 1
theorem nmX3 : ∀ a, a < 1 → ∀ b, b < 1 → a ≠ b → (TX3 a).2.1 ≠ (TX3 b).2.1 := by decide +kernel
theorem tyX3_ok : ∀ k, k < 1 → parseFieldDescriptor (TX3 k).2.2.1 = some (tyX3 k) := by decide +kernel
abbrev cX3_init : ByteArray := prog_5_method_1_code
def yX3_init : MethodName := ⟨RX3, "<init>", "()V"⟩
abbrev cX3_clear : ByteArray := prog_5_method_2_code
def yX3_clear : MethodName := ⟨RX3, "clear", "()V"⟩
abbrev cX3_take : ByteArray := prog_5_method_3_code
def yX3_take : MethodName := ⟨RX3, "take", "(LTurnedStones$StateSet;)V"⟩
abbrev cX3_only : ByteArray := prog_5_method_4_code
def yX3_only : MethodName := ⟨RX3, "only", "(I)V"⟩
abbrev cX3_has : ByteArray := prog_5_method_5_code
def yX3_has : MethodName := ⟨RX3, "has", "(I)Z"⟩
abbrev cX3_isEmpty : ByteArray := prog_5_method_6_code
def yX3_isEmpty : MethodName := ⟨RX3, "isEmpty", "()Z"⟩
abbrev cX3_size : ByteArray := prog_5_method_7_code
def yX3_size : MethodName := ⟨RX3, "size", "()I"⟩
abbrev cX3_meets : ByteArray := prog_5_method_8_code
def yX3_meets : MethodName := ⟨RX3, "meets", "(LTurnedStones$StateSet;)Z"⟩
abbrev cX3_isWithin : ByteArray := prog_5_method_9_code
def yX3_isWithin : MethodName := ⟨RX3, "isWithin", "(LTurnedStones$StateSet;)Z"⟩
abbrev cX3_leastWith : ByteArray := prog_5_method_10_code
def yX3_leastWith : MethodName := ⟨RX3, "leastWith", "(LTurnedStones$StateSet;)I"⟩
abbrev cX3_meet : ByteArray := prog_5_method_11_code
def yX3_meet : MethodName := ⟨RX3, "meet", "(LTurnedStones$StateSet;)V"⟩
abbrev cX3_meetMoved : ByteArray := prog_5_method_12_code
def yX3_meetMoved : MethodName := ⟨RX3, "meetMoved", "(LTurnedStones$StateSet;II)V"⟩
abbrev cX3_joinMoved : ByteArray := prog_5_method_13_code
def yX3_joinMoved : MethodName := ⟨RX3, "joinMoved", "(LTurnedStones$StateSet;II)V"⟩
abbrev cX3_meetsMoved : ByteArray := prog_5_method_14_code
def yX3_meetsMoved : MethodName := ⟨RX3, "meetsMoved", "(LTurnedStones$StateSet;II)Z"⟩
abbrev cX3_joinProduct : ByteArray := prog_5_method_15_code
def yX3_joinProduct : MethodName := ⟨RX3, "joinProduct", "([I)V"⟩
abbrev cX3_pattern : ByteArray := prog_5_method_16_code
def yX3_pattern : MethodName := ⟨RX3, "pattern", "([II)J"⟩
abbrev cX3_moved : ByteArray := prog_5_method_17_code
def yX3_moved : MethodName := ⟨RX3, "moved", "(III)J"⟩
def RX4 : String := "TurnedStones$Stones"
def TX4 : u_T := fun k => match k with
  | 0 => ("TurnedStones$Stones", "wide", "I", false)
  | 1 => ("TurnedStones$Stones", "high", "I", false)
  | 2 => ("TurnedStones$Stones", "kinds", "[I", true)
  | 3 => ("TurnedStones$Stones", "words", "[I", true)
  | 4 => ("TurnedStones$Stones", "sides", "[I", true)
  | _ => ("TurnedStones$Stones", "others", "[I", true)
def tyX4 : Nat → FieldType := fun k => match k with
  | 0 => .int
  | 1 => .int
  | 2 => .array .int
  | 3 => .array .int
  | 4 => .array .int
  | _ => .array .int
abbrev wsX40 : List Cond := u_ws RX4 TX4 6
theorem nmX4 : ∀ a, a < 6 → ∀ b, b < 6 → a ≠ b → (TX4 a).2.1 ≠ (TX4 b).2.1 := by decide +kernel
theorem tyX4_ok : ∀ k, k < 6 → parseFieldDescriptor (TX4 k).2.2.1 = some (tyX4 k) := by decide +kernel
abbrev cX4_init : ByteArray := prog_6_method_1_code
def yX4_init : MethodName := ⟨RX4, "<init>", "()V"⟩
abbrev cX4_take : ByteArray := prog_6_method_2_code
def yX4_take : MethodName := ⟨RX4, "take", "(LTurnedStones$Stones;)V"⟩
abbrev cX4_number : ByteArray := prog_6_method_3_code
def yX4_number : MethodName := ⟨RX4, "number", "()I"⟩
abbrev cX4_streets : ByteArray := prog_6_method_4_code
def yX4_streets : MethodName := ⟨RX4, "streets", "()I"⟩
abbrev cX4_knows : ByteArray := prog_6_method_5_code
def yX4_knows : MethodName := ⟨RX4, "knows", "(I)Z"⟩
abbrev cX4_isOf : ByteArray := prog_6_method_6_code
def yX4_isOf : MethodName := ⟨RX4, "isOf", "(II)Z"⟩
abbrev cX4_numberOf : ByteArray := prog_6_method_7_code
def yX4_numberOf : MethodName := ⟨RX4, "numberOf", "(I)I"⟩
abbrev cX4_rowOf : ByteArray := prog_6_method_8_code
def yX4_rowOf : MethodName := ⟨RX4, "rowOf", "(I)I"⟩
abbrev cX4_sharedStreets : ByteArray := prog_6_method_9_code
def yX4_sharedStreets : MethodName := ⟨RX4, "sharedStreets", "()I"⟩
abbrev cX4_unlikeWords : ByteArray := prog_6_method_10_code
def yX4_unlikeWords : MethodName := ⟨RX4, "unlikeWords", "(II)I"⟩
abbrev cX4_quarters : ByteArray := prog_6_method_11_code
def yX4_quarters : MethodName := ⟨RX4, "quarters", "(II)I"⟩
abbrev cX4_step : ByteArray := prog_6_method_12_code
def yX4_step : MethodName := ⟨RX4, "step", "(I)I"⟩
abbrev cX4_mostTurns : ByteArray := prog_6_method_13_code
def yX4_mostTurns : MethodName := ⟨RX4, "mostTurns", "(I)I"⟩
abbrev cX4_mostYears : ByteArray := prog_6_method_14_code
def yX4_mostYears : MethodName := ⟨RX4, "mostYears", "()I"⟩
abbrev cX4_moved : ByteArray := prog_6_method_15_code
def yX4_moved : MethodName := ⟨RX4, "moved", "(II)I"⟩
abbrev cX4_movedBy : ByteArray := prog_6_method_16_code
def yX4_movedBy : MethodName := ⟨RX4, "movedBy", "(III)I"⟩
abbrev cX4_turnsBetween : ByteArray := prog_6_method_17_code
def yX4_turnsBetween : MethodName := ⟨RX4, "turnsBetween", "(III)I"⟩
abbrev cX4_length : ByteArray := prog_6_method_18_code
def yX4_length : MethodName := ⟨RX4, "length", "(I)I"⟩
abbrev cX4_stoneAt : ByteArray := prog_6_method_19_code
def yX4_stoneAt : MethodName := ⟨RX4, "stoneAt", "(III)I"⟩
abbrev cX4_firstSide : ByteArray := prog_6_method_20_code
def yX4_firstSide : MethodName := ⟨RX4, "firstSide", "(II)I"⟩
abbrev cX4_sideRead : ByteArray := prog_6_method_21_code
def yX4_sideRead : MethodName := ⟨RX4, "sideRead", "(IIII)I"⟩
abbrev cX4_shown : ByteArray := prog_6_method_22_code
def yX4_shown : MethodName := ⟨RX4, "shown", "(II)I"⟩
abbrev cX4_isMendable : ByteArray := prog_6_method_23_code
def yX4_isMendable : MethodName := ⟨RX4, "isMendable", "(II)Z"⟩
abbrev cX4_quartersHad : ByteArray := prog_6_method_24_code
def yX4_quartersHad : MethodName := ⟨RX4, "quartersHad", "([I)V"⟩
abbrev cX4_quartersShowing : ByteArray := prog_6_method_25_code
def yX4_quartersShowing : MethodName := ⟨RX4, "quartersShowing", "(III)I"⟩
abbrev cX4_turnsTo : ByteArray := prog_6_method_26_code
def yX4_turnsTo : MethodName := ⟨RX4, "turnsTo", "(III)I"⟩
def RX5 : String := "TurnedStones$Table"
def TX5 : u_T := fun k => match k with
  | 0 => ("TurnedStones$Table", "longest", "I", true)
  | 1 => ("TurnedStones$Table", "places", "[[I", true)
  | _ => ("TurnedStones$Table", "sizes", "[I", true)
def tyX5 : Nat → FieldType := fun k => match k with
  | 0 => .int
  | 1 => .array (.array .int)
  | _ => .array .int
abbrev wsX50 : List Cond := u_ws RX5 TX5 3
theorem nmX5 : ∀ a, a < 3 → ∀ b, b < 3 → a ≠ b → (TX5 a).2.1 ≠ (TX5 b).2.1 := by decide +kernel
theorem tyX5_ok : ∀ k, k < 3 → parseFieldDescriptor (TX5 k).2.2.1 = some (tyX5 k) := by decide +kernel
abbrev cX5_init : ByteArray := prog_7_method_1_code
def yX5_init : MethodName := ⟨RX5, "<init>", "(II)V"⟩
abbrev cX5_knows : ByteArray := prog_7_method_2_code
def yX5_knows : MethodName := ⟨RX5, "knows", "(I)Z"⟩
abbrev cX5_has : ByteArray := prog_7_method_3_code
def yX5_has : MethodName := ⟨RX5, "has", "(I)Z"⟩
abbrev cX5_size : ByteArray := prog_7_method_4_code
def yX5_size : MethodName := ⟨RX5, "size", "(I)I"⟩
abbrev cX5_holds : ByteArray := prog_7_method_5_code
def yX5_holds : MethodName := ⟨RX5, "holds", "(III)Z"⟩
abbrev cX5_get : ByteArray := prog_7_method_6_code
def yX5_get : MethodName := ⟨RX5, "get", "(II)I"⟩
abbrev cX5_set : ByteArray := prog_7_method_7_code
def yX5_set : MethodName := ⟨RX5, "set", "(III)V"⟩
abbrev cX5_begin : ByteArray := prog_7_method_8_code
def yX5_begin : MethodName := ⟨RX5, "begin", "(III)V"⟩
abbrev cX5_drop : ByteArray := prog_7_method_9_code
def yX5_drop : MethodName := ⟨RX5, "drop", "(I)V"⟩
abbrev cX5_move : ByteArray := prog_7_method_10_code
def yX5_move : MethodName := ⟨RX5, "move", "(IIIII)V"⟩
abbrev cX5_take : ByteArray := prog_7_method_11_code
def yX5_take : MethodName := ⟨RX5, "take", "(ILTurnedStones$Table;I)V"⟩
abbrev cX5_number : ByteArray := prog_7_method_12_code
def yX5_number : MethodName := ⟨RX5, "number", "()I"⟩
abbrev cX5_fold : ByteArray := prog_7_method_13_code
def yX5_fold : MethodName := ⟨RX5, "fold", "(J)J"⟩
abbrev cX5_foldPlaces : ByteArray := prog_7_method_14_code
def yX5_foldPlaces : MethodName := ⟨RX5, "foldPlaces", "(JI)J"⟩
def RX6 : String := "TurnedStones$Told"
def TX6 : u_T := fun k => match k with
  | 0 => ("TurnedStones$Told", "answer", "I", false)
  | 1 => ("TurnedStones$Told", "top", "J", false)
  | 2 => ("TurnedStones$Told", "bottom", "J", false)
  | 3 => ("TurnedStones$Told", "latest", "I", false)
  | _ => ("TurnedStones$Told", "found", "[I", true)
def tyX6 : Nat → FieldType := fun k => match k with
  | 0 => .int
  | 1 => .long
  | 2 => .long
  | 3 => .int
  | _ => .array .int
abbrev wsX60 : List Cond := u_ws RX6 TX6 5
theorem nmX6 : ∀ a, a < 5 → ∀ b, b < 5 → a ≠ b → (TX6 a).2.1 ≠ (TX6 b).2.1 := by decide +kernel
theorem tyX6_ok : ∀ k, k < 5 → parseFieldDescriptor (TX6 k).2.2.1 = some (tyX6 k) := by decide +kernel
abbrev cX6_init : ByteArray := prog_8_method_1_code
def yX6_init : MethodName := ⟨RX6, "<init>", "()V"⟩
abbrev cX6_note : ByteArray := prog_8_method_2_code
def yX6_note : MethodName := ⟨RX6, "note", "(I)V"⟩
abbrev cX6_fraction : ByteArray := prog_8_method_3_code
def yX6_fraction : MethodName := ⟨RX6, "fraction", "(JJ)V"⟩
abbrev cX6_greatestDivisor : ByteArray := prog_8_method_4_code
def yX6_greatestDivisor : MethodName := ⟨RX6, "greatestDivisor", "(JJ)J"⟩
def RX7 : String := "TurnedStones$TownReader"
def TX7 : u_T := fun k => match k with
  | 0 => ("TurnedStones$TownReader", "texts", "LTurnedStones$Table;", true)
  | 1 => ("TurnedStones$TownReader", "into", "LTurnedStones$Stones;", true)
  | 2 => ("TurnedStones$TownReader", "text", "I", false)
  | 3 => ("TurnedStones$TownReader", "place", "I", false)
  | _ => ("TurnedStones$TownReader", "value", "I", false)
def tyX7 : Nat → FieldType := fun k => match k with
  | 0 => .object "TurnedStones$Table"
  | 1 => .object "TurnedStones$Stones"
  | 2 => .int
  | 3 => .int
  | _ => .int
abbrev wsX70 : List Cond := u_ws RX7 TX7 5
theorem nmX7 : ∀ a, a < 5 → ∀ b, b < 5 → a ≠ b → (TX7 a).2.1 ≠ (TX7 b).2.1 := by decide +kernel
theorem tyX7_ok : ∀ k, k < 5 → parseFieldDescriptor (TX7 k).2.2.1 = some (tyX7 k) := by decide +kernel
abbrev cX7_init : ByteArray := prog_9_method_1_code
def yX7_init : MethodName := ⟨RX7, "<init>", "(LTurnedStones$Table;LTurnedStones$Stones;)V"⟩
abbrev cX7_faultOf : ByteArray := prog_9_method_2_code
def yX7_faultOf : MethodName := ⟨RX7, "faultOf", "(I)I"⟩
abbrev cX7_readSize : ByteArray := prog_9_method_3_code
def yX7_readSize : MethodName := ⟨RX7, "readSize", "()Z"⟩
abbrev cX7_readStones : ByteArray := prog_9_method_4_code
def yX7_readStones : MethodName := ⟨RX7, "readStones", "()Z"⟩
abbrev cX7_readEnd : ByteArray := prog_9_method_5_code
def yX7_readEnd : MethodName := ⟨RX7, "readEnd", "()Z"⟩
abbrev cX7_readKind : ByteArray := prog_9_method_6_code
def yX7_readKind : MethodName := ⟨RX7, "readKind", "(I)Z"⟩
abbrev cX7_readWords : ByteArray := prog_9_method_7_code
def yX7_readWords : MethodName := ⟨RX7, "readWords", "(I)Z"⟩
abbrev cX7_readSide : ByteArray := prog_9_method_8_code
def yX7_readSide : MethodName := ⟨RX7, "readSide", "(I)Z"⟩
abbrev cX7_kindOf : ByteArray := prog_9_method_9_code
def yX7_kindOf : MethodName := ⟨RX7, "kindOf", "(I)I"⟩
abbrev cX7_readSign : ByteArray := prog_9_method_10_code
def yX7_readSign : MethodName := ⟨RX7, "readSign", "(II)Z"⟩
abbrev cX7_skipBlanks : ByteArray := prog_9_method_11_code
def yX7_skipBlanks : MethodName := ⟨RX7, "skipBlanks", "()V"⟩
def RX8 : String := "TurnedStones$Wants"
def TX8 : u_T := fun k => match k with
  | 0 => ("TurnedStones$Wants", "reached", "I", false)
  | 1 => ("TurnedStones$Wants", "opening", "I", false)
  | 2 => ("TurnedStones$Wants", "stones", "LTurnedStones$Stones;", true)
  | 3 => ("TurnedStones$Wants", "book", "LTurnedStones$LawBook;", true)
  | 4 => ("TurnedStones$Wants", "goal", "LTurnedStones$StateSet;", true)
  | 5 => ("TurnedStones$Wants", "near", "LTurnedStones$StateSet;", true)
  | 6 => ("TurnedStones$Wants", "next", "LTurnedStones$StateSet;", true)
  | _ => ("TurnedStones$Wants", "quarterBits", "[I", true)
def tyX8 : Nat → FieldType := fun k => match k with
  | 0 => .int
  | 1 => .int
  | 2 => .object "TurnedStones$Stones"
  | 3 => .object "TurnedStones$LawBook"
  | 4 => .object "TurnedStones$StateSet"
  | 5 => .object "TurnedStones$StateSet"
  | 6 => .object "TurnedStones$StateSet"
  | _ => .array .int
abbrev wsX80 : List Cond := u_ws RX8 TX8 8
theorem nmX8 : ∀ a, a < 8 → ∀ b, b < 8 → a ≠ b → (TX8 a).2.1 ≠ (TX8 b).2.1 := by decide +kernel
theorem tyX8_ok : ∀ k, k < 8 → parseFieldDescriptor (TX8 k).2.2.1 = some (tyX8 k) := by decide +kernel
abbrev cX8_init : ByteArray := prog_10_method_1_code
def yX8_init : MethodName := ⟨RX8, "<init>", "(LTurnedStones$Stones;LTurnedStones$LawBook;)V"⟩
abbrev cX8_goalOf : ByteArray := prog_10_method_2_code
def yX8_goalOf : MethodName := ⟨RX8, "goalOf", "(I)LTurnedStones$StateSet;"⟩
abbrev cX8_leastYears : ByteArray := prog_10_method_3_code
def yX8_leastYears : MethodName := ⟨RX8, "leastYears", "(II)I"⟩
abbrev cX8_isWon : ByteArray := prog_10_method_4_code
def yX8_isWon : MethodName := ⟨RX8, "isWon", "(III)Z"⟩
abbrev cX8_reckonTurn : ByteArray := prog_10_method_5_code
def yX8_reckonTurn : MethodName := ⟨RX8, "reckonTurn", "(IZ)V"⟩
def RX9 : String := "TurnedStones"
def TX9 : u_T := fun k => match k with
  | 0 => ("TurnedStones", "rows", "LTurnedStones$Table;", true)
  | 1 => ("TurnedStones", "texts", "LTurnedStones$Table;", true)
  | 2 => ("TurnedStones", "stones", "LTurnedStones$Stones;", true)
  | 3 => ("TurnedStones", "draft", "LTurnedStones$Stones;", true)
  | 4 => ("TurnedStones", "reader", "LTurnedStones$TownReader;", true)
  | 5 => ("TurnedStones", "book", "LTurnedStones$LawBook;", true)
  | 6 => ("TurnedStones", "wants", "LTurnedStones$Wants;", true)
  | 7 => ("TurnedStones", "records", "LTurnedStones$Records;", true)
  | 8 => ("TurnedStones", "past", "LTurnedStones$Past;", true)
  | 9 => ("TurnedStones", "told", "LTurnedStones$Told;", true)
  | 10 => ("TurnedStones", "keptStates", "[I", true)
  | 11 => ("TurnedStones", "keptYears", "[I", true)
  | 12 => ("TurnedStones", "nowState", "I", false)
  | _ => ("TurnedStones", "nowYear", "I", false)
def tyX9 : Nat → FieldType := fun k => match k with
  | 0 => .object "TurnedStones$Table"
  | 1 => .object "TurnedStones$Table"
  | 2 => .object "TurnedStones$Stones"
  | 3 => .object "TurnedStones$Stones"
  | 4 => .object "TurnedStones$TownReader"
  | 5 => .object "TurnedStones$LawBook"
  | 6 => .object "TurnedStones$Wants"
  | 7 => .object "TurnedStones$Records"
  | 8 => .object "TurnedStones$Past"
  | 9 => .object "TurnedStones$Told"
  | 10 => .array .int
  | 11 => .array .int
  | 12 => .int
  | _ => .int
abbrev wsX90 : List Cond := u_ws RX9 TX9 14
theorem nmX9 : ∀ a, a < 14 → ∀ b, b < 14 → a ≠ b → (TX9 a).2.1 ≠ (TX9 b).2.1 := by decide +kernel
theorem tyX9_ok : ∀ k, k < 14 → parseFieldDescriptor (TX9 k).2.2.1 = some (tyX9 k) := by decide +kernel
abbrev cX9_init : ByteArray := prog_1_method_1_code
def yX9_init : MethodName := ⟨RX9, "<init>", "()V"⟩
abbrev cX9_row : ByteArray := prog_1_method_2_code
def yX9_row : MethodName := ⟨RX9, "row", "(II)I"⟩
abbrev cX9_lay : ByteArray := prog_1_method_3_code
def yX9_lay : MethodName := ⟨RX9, "lay", "(III)I"⟩
abbrev cX9_at : ByteArray := prog_1_method_4_code
def yX9_at : MethodName := ⟨RX9, "at", "(II)I"⟩
abbrev cX9_tear : ByteArray := prog_1_method_5_code
def yX9_tear : MethodName := ⟨RX9, "tear", "(I)I"⟩
abbrev cX9_copy : ByteArray := prog_1_method_6_code
def yX9_copy : MethodName := ⟨RX9, "copy", "(IIIII)I"⟩
abbrev cX9_mean : ByteArray := prog_1_method_7_code
def yX9_mean : MethodName := ⟨RX9, "mean", "(I)I"⟩
abbrev cX9_text : ByteArray := prog_1_method_8_code
def yX9_text : MethodName := ⟨RX9, "text", "(II)I"⟩
abbrev cX9_put : ByteArray := prog_1_method_9_code
def yX9_put : MethodName := ⟨RX9, "put", "(III)I"⟩
abbrev cX9_fault : ByteArray := prog_1_method_10_code
def yX9_fault : MethodName := ⟨RX9, "fault", "(I)I"⟩
abbrev cX9_town : ByteArray := prog_1_method_11_code
def yX9_town : MethodName := ⟨RX9, "town", "(I)I"⟩
abbrev cX9_stone : ByteArray := prog_1_method_12_code
def yX9_stone : MethodName := ⟨RX9, "stone", "(II)I"⟩
abbrev cX9_mark : ByteArray := prog_1_method_13_code
def yX9_mark : MethodName := ⟨RX9, "mark", "(II)I"⟩
abbrev cX9_law : ByteArray := prog_1_method_14_code
def yX9_law : MethodName := ⟨RX9, "law", "(II)I"⟩
abbrev cX9_reads : ByteArray := prog_1_method_15_code
def yX9_reads : MethodName := ⟨RX9, "reads", "(III)I"⟩
abbrev cX9_stands : ByteArray := prog_1_method_16_code
def yX9_stands : MethodName := ⟨RX9, "stands", "(I)I"⟩
abbrev cX9_laws : ByteArray := prog_1_method_17_code
def yX9_laws : MethodName := ⟨RX9, "laws", "()I"⟩
abbrev cX9_turn : ByteArray := prog_1_method_18_code
def yX9_turn : MethodName := ⟨RX9, "turn", "(I)I"⟩
abbrev cX9_till : ByteArray := prog_1_method_19_code
def yX9_till : MethodName := ⟨RX9, "till", "(II)I"⟩
abbrev cX9_keep : ByteArray := prog_1_method_20_code
def yX9_keep : MethodName := ⟨RX9, "keep", "(I)I"⟩
abbrev cX9_on : ByteArray := prog_1_method_21_code
def yX9_on : MethodName := ⟨RX9, "on", "(I)I"⟩
abbrev cX9_state : ByteArray := prog_1_method_22_code
def yX9_state : MethodName := ⟨RX9, "state", "()I"⟩
abbrev cX9_years : ByteArray := prog_1_method_23_code
def yX9_years : MethodName := ⟨RX9, "years", "(I)I"⟩
abbrev cX9_way : ByteArray := prog_1_method_24_code
def yX9_way : MethodName := ⟨RX9, "way", "(II)I"⟩
abbrev cX9_lost : ByteArray := prog_1_method_25_code
def yX9_lost : MethodName := ⟨RX9, "lost", "(I)I"⟩
abbrev cX9_share : ByteArray := prog_1_method_26_code
def yX9_share : MethodName := ⟨RX9, "share", "(I)I"⟩
abbrev cX9_together : ByteArray := prog_1_method_27_code
def yX9_together : MethodName := ⟨RX9, "together", "()I"⟩
abbrev cX9_mend : ByteArray := prog_1_method_28_code
def yX9_mend : MethodName := ⟨RX9, "mend", "(I)I"⟩
abbrev cX9_contest : ByteArray := prog_1_method_29_code
def yX9_contest : MethodName := ⟨RX9, "contest", "(II)I"⟩
abbrev cX9_engrave : ByteArray := prog_1_method_30_code
def yX9_engrave : MethodName := ⟨RX9, "engrave", "(IIII)I"⟩
abbrev cX9_lose : ByteArray := prog_1_method_31_code
def yX9_lose : MethodName := ⟨RX9, "lose", "(I)I"⟩
abbrev cX9_histories : ByteArray := prog_1_method_32_code
def yX9_histories : MethodName := ⟨RX9, "histories", "(I)I"⟩
abbrev cX9_when : ByteArray := prog_1_method_33_code
def yX9_when : MethodName := ⟨RX9, "when", "(II)I"⟩
abbrev cX9_turned : ByteArray := prog_1_method_34_code
def yX9_turned : MethodName := ⟨RX9, "turned", "(II)I"⟩
abbrev cX9_odds : ByteArray := prog_1_method_35_code
def yX9_odds : MethodName := ⟨RX9, "odds", "(III)I"⟩
abbrev cX9_lives : ByteArray := prog_1_method_36_code
def yX9_lives : MethodName := ⟨RX9, "lives", "(II)I"⟩
abbrev cX9_asked : ByteArray := prog_1_method_37_code
def yX9_asked : MethodName := ⟨RX9, "asked", "()I"⟩
abbrev cX9_upper : ByteArray := prog_1_method_38_code
def yX9_upper : MethodName := ⟨RX9, "upper", "()J"⟩
abbrev cX9_lower : ByteArray := prog_1_method_39_code
def yX9_lower : MethodName := ⟨RX9, "lower", "()J"⟩
abbrev cX9_count : ByteArray := prog_1_method_40_code
def yX9_count : MethodName := ⟨RX9, "count", "(I)I"⟩
abbrev cX9_finding : ByteArray := prog_1_method_41_code
def yX9_finding : MethodName := ⟨RX9, "finding", "()I"⟩
abbrev cX9_findings : ByteArray := prog_1_method_42_code
def yX9_findings : MethodName := ⟨RX9, "findings", "(I)I"⟩
abbrev cX9_digest : ByteArray := prog_1_method_43_code
def yX9_digest : MethodName := ⟨RX9, "digest", "()J"⟩
abbrev cX9_find : ByteArray := prog_1_method_44_code
def yX9_find : MethodName := ⟨RX9, "find", "(I)I"⟩
abbrev cX9_refusal : ByteArray := prog_1_method_45_code
def yX9_refusal : MethodName := ⟨RX9, "refusal", "(LTurnedStones$Table;I)I"⟩
abbrev cX9_placeRefusal : ByteArray := prog_1_method_46_code
def yX9_placeRefusal : MethodName := ⟨RX9, "placeRefusal", "(LTurnedStones$Table;II)I"⟩
abbrev cX9_begin : ByteArray := prog_1_method_47_code
def yX9_begin : MethodName := ⟨RX9, "begin", "(LTurnedStones$Table;III)I"⟩
abbrev cX9_holdsWords : ByteArray := prog_1_method_48_code
def yX9_holdsWords : MethodName := ⟨RX9, "holdsWords", "(II)Z"⟩
abbrev cX9_isStreetEnd : ByteArray := prog_1_method_49_code
def yX9_isStreetEnd : MethodName := ⟨RX9, "isStreetEnd", "(II)Z"⟩
abbrev cX9_isLawSet : ByteArray := prog_1_method_50_code
def yX9_isLawSet : MethodName := ⟨RX9, "isLawSet", "(I)Z"⟩
abbrev cX9_isToldYear : ByteArray := prog_1_method_51_code
def yX9_isToldYear : MethodName := ⟨RX9, "isToldYear", "(I)Z"⟩
abbrev cX9_mayTurn : ByteArray := prog_1_method_52_code
def yX9_mayTurn : MethodName := ⟨RX9, "mayTurn", "(I)Z"⟩
abbrev cX9_passYear : ByteArray := prog_1_method_53_code
def yX9_passYear : MethodName := ⟨RX9, "passYear", "(I)V"⟩
abbrev cX9_stoneTells : ByteArray := prog_1_method_54_code
def yX9_stoneTells : MethodName := ⟨RX9, "stoneTells", "(II)I"⟩
abbrev cX9_tally : ByteArray := prog_1_method_55_code
def yX9_tally : MethodName := ⟨RX9, "tally", "(I)I"⟩
def RX10 : String := "TurnedStonesModel"
def TX10 : u_T := fun k => match k with
  | 0 => ("TurnedStonesModel", "latest", "I", false)
  | 1 => ("TurnedStonesModel", "came", "[I", true)
  | 2 => ("TurnedStonesModel", "asked", "I", false)
  | 3 => ("TurnedStonesModel", "upper", "J", false)
  | 4 => ("TurnedStonesModel", "lower", "J", false)
  | 5 => ("TurnedStonesModel", "sizes", "[I", true)
  | 6 => ("TurnedStonesModel", "rows", "[I", true)
  | 7 => ("TurnedStonesModel", "copied", "[I", true)
  | 8 => ("TurnedStonesModel", "textSizes", "[I", true)
  | 9 => ("TurnedStonesModel", "bytes", "[B", true)
  | 10 => ("TurnedStonesModel", "wide", "I", false)
  | 11 => ("TurnedStonesModel", "high", "I", false)
  | 12 => ("TurnedStonesModel", "n", "I", false)
  | 13 => ("TurnedStonesModel", "kinds", "[I", true)
  | 14 => ("TurnedStonesModel", "words", "[I", true)
  | 15 => ("TurnedStonesModel", "wornSide", "[I", true)
  | 16 => ("TurnedStonesModel", "wornWord", "[I", true)
  | 17 => ("TurnedStonesModel", "quarters", "[I", true)
  | 18 => ("TurnedStonesModel", "yearNow", "I", false)
  | 19 => ("TurnedStonesModel", "readAt", "I", false)
  | 20 => ("TurnedStonesModel", "readNumber", "I", false)
  | 21 => ("TurnedStonesModel", "readWide", "I", false)
  | 22 => ("TurnedStonesModel", "readHigh", "I", false)
  | 23 => ("TurnedStonesModel", "readMany", "I", false)
  | 24 => ("TurnedStonesModel", "readStones", "[I", true)
  | 25 => ("TurnedStonesModel", "lawSize", "[I", true)
  | 26 => ("TurnedStonesModel", "lawWords", "[I", true)
  | 27 => ("TurnedStonesModel", "laid", "[I", true)
  | 28 => ("TurnedStonesModel", "keptState", "[I", true)
  | 29 => ("TurnedStonesModel", "keptYear", "[I", true)
  | 30 => ("TurnedStonesModel", "turnsTo", "[I", true)
  | 31 => ("TurnedStonesModel", "standsIn", "[I", true)
  | 32 => ("TurnedStonesModel", "line", "[I", true)
  | 33 => ("TurnedStonesModel", "lineMany", "I", false)
  | 34 => ("TurnedStonesModel", "makes", "[Z", false)
  | 35 => ("TurnedStonesModel", "makesThen", "[Z", false)
  | 36 => ("TurnedStonesModel", "engravedMany", "I", false)
  | 37 => ("TurnedStonesModel", "engraved", "[I", true)
  | 38 => ("TurnedStonesModel", "forth", "[J", true)
  | 39 => ("TurnedStonesModel", "onward", "[J", true)
  | _ => ("TurnedStonesModel", "hash", "J", false)
def tyX10 : Nat → FieldType := fun k => match k with
  | 0 => .int
  | 1 => .array .int
  | 2 => .int
  | 3 => .long
  | 4 => .long
  | 5 => .array .int
  | 6 => .array .int
  | 7 => .array .int
  | 8 => .array .int
  | 9 => .array .byte
  | 10 => .int
  | 11 => .int
  | 12 => .int
  | 13 => .array .int
  | 14 => .array .int
  | 15 => .array .int
  | 16 => .array .int
  | 17 => .array .int
  | 18 => .int
  | 19 => .int
  | 20 => .int
  | 21 => .int
  | 22 => .int
  | 23 => .int
  | 24 => .array .int
  | 25 => .array .int
  | 26 => .array .int
  | 27 => .array .int
  | 28 => .array .int
  | 29 => .array .int
  | 30 => .array .int
  | 31 => .array .int
  | 32 => .array .int
  | 33 => .int
  | 34 => .array .boolean
  | 35 => .array .boolean
  | 36 => .int
  | 37 => .array .int
  | 38 => .array .long
  | 39 => .array .long
  | _ => .long
abbrev wsX100 : List Cond := u_ws RX10 TX10 41
theorem nmX10 : ∀ a, a < 41 → ∀ b, b < 41 → a ≠ b → (TX10 a).2.1 ≠ (TX10 b).2.1 := by decide +kernel
theorem tyX10_ok : ∀ k, k < 41 → parseFieldDescriptor (TX10 k).2.2.1 = some (tyX10 k) := by decide +kernel
abbrev cX10_init : ByteArray := prog_12_method_1_code
def yX10_init : MethodName := ⟨RX10, "<init>", "()V"⟩
abbrev cX10_in : ByteArray := prog_12_method_2_code
def yX10_in : MethodName := ⟨RX10, "in", "(III)Z"⟩
abbrev cX10_has : ByteArray := prog_12_method_3_code
def yX10_has : MethodName := ⟨RX10, "has", "(II)Z"⟩
abbrev cX10_bits : ByteArray := prog_12_method_4_code
def yX10_bits : MethodName := ⟨RX10, "bits", "(I)I"⟩
abbrev cX10_meets : ByteArray := prog_12_method_5_code
def yX10_meets : MethodName := ⟨RX10, "meets", "(I)I"⟩
abbrev cX10_finding : ByteArray := prog_12_method_6_code
def yX10_finding : MethodName := ⟨RX10, "finding", "()I"⟩
abbrev cX10_findings : ByteArray := prog_12_method_7_code
def yX10_findings : MethodName := ⟨RX10, "findings", "(I)I"⟩
abbrev cX10_tells : ByteArray := prog_12_method_8_code
def yX10_tells : MethodName := ⟨RX10, "tells", "(II)I"⟩
abbrev cX10_asked : ByteArray := prog_12_method_9_code
def yX10_asked : MethodName := ⟨RX10, "asked", "()I"⟩
abbrev cX10_fraction : ByteArray := prog_12_method_10_code
def yX10_fraction : MethodName := ⟨RX10, "fraction", "(JJI)I"⟩
abbrev cX10_upper : ByteArray := prog_12_method_11_code
def yX10_upper : MethodName := ⟨RX10, "upper", "()J"⟩
abbrev cX10_lower : ByteArray := prog_12_method_12_code
def yX10_lower : MethodName := ⟨RX10, "lower", "()J"⟩
abbrev cX10_isRow : ByteArray := prog_12_method_13_code
def yX10_isRow : MethodName := ⟨RX10, "isRow", "(I)Z"⟩
abbrev cX10_rowAt : ByteArray := prog_12_method_14_code
def yX10_rowAt : MethodName := ⟨RX10, "rowAt", "(II)I"⟩
abbrev cX10_row : ByteArray := prog_12_method_15_code
def yX10_row : MethodName := ⟨RX10, "row", "(II)I"⟩
abbrev cX10_lay : ByteArray := prog_12_method_16_code
def yX10_lay : MethodName := ⟨RX10, "lay", "(III)I"⟩
abbrev cX10_at : ByteArray := prog_12_method_17_code
def yX10_at : MethodName := ⟨RX10, "at", "(II)I"⟩
abbrev cX10_tear : ByteArray := prog_12_method_18_code
def yX10_tear : MethodName := ⟨RX10, "tear", "(I)I"⟩
abbrev cX10_copy : ByteArray := prog_12_method_19_code
def yX10_copy : MethodName := ⟨RX10, "copy", "(IIIII)I"⟩
abbrev cX10_mean : ByteArray := prog_12_method_20_code
def yX10_mean : MethodName := ⟨RX10, "mean", "(I)I"⟩
abbrev cX10_isText : ByteArray := prog_12_method_21_code
def yX10_isText : MethodName := ⟨RX10, "isText", "(I)Z"⟩
abbrev cX10_text : ByteArray := prog_12_method_22_code
def yX10_text : MethodName := ⟨RX10, "text", "(II)I"⟩
abbrev cX10_put : ByteArray := prog_12_method_23_code
def yX10_put : MethodName := ⟨RX10, "put", "(III)I"⟩
abbrev cX10_byteAt : ByteArray := prog_12_method_24_code
def yX10_byteAt : MethodName := ⟨RX10, "byteAt", "(II)I"⟩
abbrev cX10_sign : ByteArray := prog_12_method_25_code
def yX10_sign : MethodName := ⟨RX10, "sign", "(III)Z"⟩
abbrev cX10_kindOf : ByteArray := prog_12_method_26_code
def yX10_kindOf : MethodName := ⟨RX10, "kindOf", "(I)I"⟩
abbrev cX10_readsGrid : ByteArray := prog_12_method_27_code
def yX10_readsGrid : MethodName := ⟨RX10, "readsGrid", "(I)Z"⟩
abbrev cX10_readsStone : ByteArray := prog_12_method_28_code
def yX10_readsStone : MethodName := ⟨RX10, "readsStone", "(I)Z"⟩
abbrev cX10_faultOf : ByteArray := prog_12_method_29_code
def yX10_faultOf : MethodName := ⟨RX10, "faultOf", "(I)I"⟩
abbrev cX10_fault : ByteArray := prog_12_method_30_code
def yX10_fault : MethodName := ⟨RX10, "fault", "(I)I"⟩
abbrev cX10_town : ByteArray := prog_12_method_31_code
def yX10_town : MethodName := ⟨RX10, "town", "(I)I"⟩
abbrev cX10_isStone : ByteArray := prog_12_method_32_code
def yX10_isStone : MethodName := ⟨RX10, "isStone", "(I)Z"⟩
abbrev cX10_isFixed : ByteArray := prog_12_method_33_code
def yX10_isFixed : MethodName := ⟨RX10, "isFixed", "(I)Z"⟩
abbrev cX10_stoneTells : ByteArray := prog_12_method_34_code
def yX10_stoneTells : MethodName := ⟨RX10, "stoneTells", "(II)I"⟩
abbrev cX10_stone : ByteArray := prog_12_method_35_code
def yX10_stone : MethodName := ⟨RX10, "stone", "(II)I"⟩
abbrev cX10_unlike : ByteArray := prog_12_method_36_code
def yX10_unlike : MethodName := ⟨RX10, "unlike", "(II)I"⟩
abbrev cX10_mark : ByteArray := prog_12_method_37_code
def yX10_mark : MethodName := ⟨RX10, "mark", "(II)I"⟩
abbrev cX10_isLaw : ByteArray := prog_12_method_38_code
def yX10_isLaw : MethodName := ⟨RX10, "isLaw", "(I)Z"⟩
abbrev cX10_law : ByteArray := prog_12_method_39_code
def yX10_law : MethodName := ⟨RX10, "law", "(II)I"⟩
abbrev cX10_layNow : ByteArray := prog_12_method_40_code
def yX10_layNow : MethodName := ⟨RX10, "layNow", "()V"⟩
abbrev cX10_layState : ByteArray := prog_12_method_41_code
def yX10_layState : MethodName := ⟨RX10, "layState", "(I)V"⟩
abbrev cX10_streetMany : ByteArray := prog_12_method_42_code
def yX10_streetMany : MethodName := ⟨RX10, "streetMany", "()I"⟩
abbrev cX10_isStreet : ByteArray := prog_12_method_43_code
def yX10_isStreet : MethodName := ⟨RX10, "isStreet", "(I)Z"⟩
abbrev cX10_longOf : ByteArray := prog_12_method_44_code
def yX10_longOf : MethodName := ⟨RX10, "longOf", "(I)I"⟩
abbrev cX10_stoneAt : ByteArray := prog_12_method_45_code
def yX10_stoneAt : MethodName := ⟨RX10, "stoneAt", "(III)I"⟩
abbrev cX10_sideAt : ByteArray := prog_12_method_46_code
def yX10_sideAt : MethodName := ⟨RX10, "sideAt", "(III)I"⟩
abbrev cX10_wordAt : ByteArray := prog_12_method_47_code
def yX10_wordAt : MethodName := ⟨RX10, "wordAt", "(III)I"⟩
abbrev cX10_isWornAt : ByteArray := prog_12_method_48_code
def yX10_isWornAt : MethodName := ⟨RX10, "isWornAt", "(III)Z"⟩
abbrev cX10_readFrom : ByteArray := prog_12_method_49_code
def yX10_readFrom : MethodName := ⟨RX10, "readFrom", "(IIII)I"⟩
abbrev cX10_readIn : ByteArray := prog_12_method_50_code
def yX10_readIn : MethodName := ⟨RX10, "readIn", "(III)I"⟩
abbrev cX10_readBest : ByteArray := prog_12_method_51_code
def yX10_readBest : MethodName := ⟨RX10, "readBest", "(I)I"⟩
abbrev cX10_standing : ByteArray := prog_12_method_52_code
def yX10_standing : MethodName := ⟨RX10, "standing", "()I"⟩
abbrev cX10_reads : ByteArray := prog_12_method_53_code
def yX10_reads : MethodName := ⟨RX10, "reads", "(III)I"⟩
abbrev cX10_stands : ByteArray := prog_12_method_54_code
def yX10_stands : MethodName := ⟨RX10, "stands", "(I)I"⟩
abbrev cX10_laws : ByteArray := prog_12_method_55_code
def yX10_laws : MethodName := ⟨RX10, "laws", "()I"⟩
abbrev cX10_stepOf : ByteArray := prog_12_method_56_code
def yX10_stepOf : MethodName := ⟨RX10, "stepOf", "(I)I"⟩
abbrev cX10_turns : ByteArray := prog_12_method_57_code
def yX10_turns : MethodName := ⟨RX10, "turns", "(I)V"⟩
abbrev cX10_turn : ByteArray := prog_12_method_58_code
def yX10_turn : MethodName := ⟨RX10, "turn", "(I)I"⟩
abbrev cX10_till : ByteArray := prog_12_method_59_code
def yX10_till : MethodName := ⟨RX10, "till", "(II)I"⟩
abbrev cX10_stateNow : ByteArray := prog_12_method_60_code
def yX10_stateNow : MethodName := ⟨RX10, "stateNow", "()I"⟩
abbrev cX10_keep : ByteArray := prog_12_method_61_code
def yX10_keep : MethodName := ⟨RX10, "keep", "(I)I"⟩
abbrev cX10_on : ByteArray := prog_12_method_62_code
def yX10_on : MethodName := ⟨RX10, "on", "(I)I"⟩
abbrev cX10_state : ByteArray := prog_12_method_63_code
def yX10_state : MethodName := ⟨RX10, "state", "()I"⟩
abbrev cX10_stateMany : ByteArray := prog_12_method_64_code
def yX10_stateMany : MethodName := ⟨RX10, "stateMany", "()I"⟩
abbrev cX10_turnsBy : ByteArray := prog_12_method_65_code
def yX10_turnsBy : MethodName := ⟨RX10, "turnsBy", "(III)I"⟩
abbrev cX10_layTurns : ByteArray := prog_12_method_66_code
def yX10_layTurns : MethodName := ⟨RX10, "layTurns", "()V"⟩
abbrev cX10_layStands : ByteArray := prog_12_method_67_code
def yX10_layStands : MethodName := ⟨RX10, "layStands", "(Z)V"⟩
abbrev cX10_isSet : ByteArray := prog_12_method_68_code
def yX10_isSet : MethodName := ⟨RX10, "isSet", "(I)Z"⟩
abbrev cX10_nearest : ByteArray := prog_12_method_69_code
def yX10_nearest : MethodName := ⟨RX10, "nearest", "(I)I"⟩
abbrev cX10_years : ByteArray := prog_12_method_70_code
def yX10_years : MethodName := ⟨RX10, "years", "(I)I"⟩
abbrev cX10_layLine : ByteArray := prog_12_method_71_code
def yX10_layLine : MethodName := ⟨RX10, "layLine", "(I)V"⟩
abbrev cX10_way : ByteArray := prog_12_method_72_code
def yX10_way : MethodName := ⟨RX10, "way", "(II)I"⟩
abbrev cX10_lost : ByteArray := prog_12_method_73_code
def yX10_lost : MethodName := ⟨RX10, "lost", "(I)I"⟩
abbrev cX10_share : ByteArray := prog_12_method_74_code
def yX10_share : MethodName := ⟨RX10, "share", "(I)I"⟩
abbrev cX10_together : ByteArray := prog_12_method_75_code
def yX10_together : MethodName := ⟨RX10, "together", "()I"⟩
abbrev cX10_mend : ByteArray := prog_12_method_76_code
def yX10_mend : MethodName := ⟨RX10, "mend", "(I)I"⟩
abbrev cX10_turnedOf : ByteArray := prog_12_method_77_code
def yX10_turnedOf : MethodName := ⟨RX10, "turnedOf", "(II)I"⟩
abbrev cX10_layMakes : ByteArray := prog_12_method_78_code
def yX10_layMakes : MethodName := ⟨RX10, "layMakes", "(III)V"⟩
abbrev cX10_contest : ByteArray := prog_12_method_79_code
def yX10_contest : MethodName := ⟨RX10, "contest", "(II)I"⟩
abbrev cX10_engrave : ByteArray := prog_12_method_80_code
def yX10_engrave : MethodName := ⟨RX10, "engrave", "(IIII)I"⟩
abbrev cX10_lose : ByteArray := prog_12_method_81_code
def yX10_lose : MethodName := ⟨RX10, "lose", "(I)I"⟩
abbrev cX10_fits : ByteArray := prog_12_method_82_code
def yX10_fits : MethodName := ⟨RX10, "fits", "(II)Z"⟩
abbrev cX10_spot : ByteArray := prog_12_method_83_code
def yX10_spot : MethodName := ⟨RX10, "spot", "(II)I"⟩
abbrev cX10_layHistories : ByteArray := prog_12_method_84_code
def yX10_layHistories : MethodName := ⟨RX10, "layHistories", "(I)V"⟩
abbrev cX10_areYears : ByteArray := prog_12_method_85_code
def yX10_areYears : MethodName := ⟨RX10, "areYears", "(I)Z"⟩
abbrev cX10_histories : ByteArray := prog_12_method_86_code
def yX10_histories : MethodName := ⟨RX10, "histories", "(I)I"⟩
abbrev cX10_when : ByteArray := prog_12_method_87_code
def yX10_when : MethodName := ⟨RX10, "when", "(II)I"⟩
abbrev cX10_turned : ByteArray := prog_12_method_88_code
def yX10_turned : MethodName := ⟨RX10, "turned", "(II)I"⟩
abbrev cX10_odds : ByteArray := prog_12_method_89_code
def yX10_odds : MethodName := ⟨RX10, "odds", "(III)I"⟩
abbrev cX10_lives : ByteArray := prog_12_method_90_code
def yX10_lives : MethodName := ⟨RX10, "lives", "(II)I"⟩
abbrev cX10_counted : ByteArray := prog_12_method_91_code
def yX10_counted : MethodName := ⟨RX10, "counted", "(I)I"⟩
abbrev cX10_count : ByteArray := prog_12_method_92_code
def yX10_count : MethodName := ⟨RX10, "count", "(I)I"⟩
abbrev cX10_mix : ByteArray := prog_12_method_93_code
def yX10_mix : MethodName := ⟨RX10, "mix", "(J)V"⟩
abbrev cX10_mixTown : ByteArray := prog_12_method_94_code
def yX10_mixTown : MethodName := ⟨RX10, "mixTown", "()V"⟩
abbrev cX10_digest : ByteArray := prog_12_method_95_code
def yX10_digest : MethodName := ⟨RX10, "digest", "()J"⟩
def RJ6 : String := "java/lang/Integer"
def TJ6 : u_T := fun k => match k with
  | _ => ("", "", "", false)
def tyJ6 : Nat → FieldType := fun k => match k with
  | _ => .int
abbrev wsJ60 : List Cond := u_ws RJ6 TJ6 0
theorem nmJ6 : ∀ a, a < 0 → ∀ b, b < 0 → a ≠ b → (TJ6 a).2.1 ≠ (TJ6 b).2.1 := by decide +kernel
theorem tyJ6_ok : ∀ k, k < 0 → parseFieldDescriptor (TJ6 k).2.2.1 = some (tyJ6 k) := by decide +kernel
abbrev cJ6_bitCount_0f7a4 : ByteArray := prog_13_method_49_code
def yJ6_bitCount_0f7a4 : MethodName := ⟨RJ6, "bitCount", "(I)I"⟩
def RJ13 : String := "java/lang/Long"
def TJ13 : u_T := fun k => match k with
  | _ => ("", "", "", false)
def tyJ13 : Nat → FieldType := fun k => match k with
  | _ => .int
abbrev wsJ130 : List Cond := u_ws RJ13 TJ13 0
theorem nmJ13 : ∀ a, a < 0 → ∀ b, b < 0 → a ≠ b → (TJ13 a).2.1 ≠ (TJ13 b).2.1 := by decide +kernel
theorem tyJ13_ok : ∀ k, k < 0 → parseFieldDescriptor (TJ13 k).2.2.1 = some (tyJ13 k) := by decide +kernel
abbrev cJ13_bitCount_95d88 : ByteArray := prog_14_method_50_code
def yJ13_bitCount_95d88 : MethodName := ⟨RJ13, "bitCount", "(J)I"⟩
def RJ9 : String := "java/lang/Math"
def TJ9 : u_T := fun k => match k with
  | _ => ("", "", "", false)
def tyJ9 : Nat → FieldType := fun k => match k with
  | _ => .int
abbrev wsJ90 : List Cond := u_ws RJ9 TJ9 0
theorem nmJ9 : ∀ a, a < 0 → ∀ b, b < 0 → a ≠ b → (TJ9 a).2.1 ≠ (TJ9 b).2.1 := by decide +kernel
theorem tyJ9_ok : ∀ k, k < 0 → parseFieldDescriptor (TJ9 k).2.2.1 = some (tyJ9 k) := by decide +kernel
abbrev cJ9_max_7cf53 : ByteArray := prog_15_method_65_code
def yJ9_max_7cf53 : MethodName := ⟨RJ9, "max", "(II)I"⟩
abbrev cJ9_min_7cf53 : ByteArray := prog_15_method_69_code
def yJ9_min_7cf53 : MethodName := ⟨RJ9, "min", "(II)I"⟩
def RJ10 : String := "java/lang/System"
def TJ10 : u_T := fun k => match k with
  | _ => ("", "", "", false)
def tyJ10 : Nat → FieldType := fun k => match k with
  | _ => .int
abbrev wsJ100 : List Cond := u_ws RJ10 TJ10 0
theorem nmJ10 : ∀ a, a < 0 → ∀ b, b < 0 → a ≠ b → (TJ10 a).2.1 ≠ (TJ10 b).2.1 := by decide +kernel
theorem tyJ10_ok : ∀ k, k < 0 → parseFieldDescriptor (TJ10 k).2.2.1 = some (tyJ10 k) := by decide +kernel
def RJ7 : String := "java/util/Arrays"
def TJ7 : u_T := fun k => match k with
  | _ => ("", "", "", false)
def tyJ7 : Nat → FieldType := fun k => match k with
  | _ => .int
abbrev wsJ70 : List Cond := u_ws RJ7 TJ7 0
theorem nmJ7 : ∀ a, a < 0 → ∀ b, b < 0 → a ≠ b → (TJ7 a).2.1 ≠ (TJ7 b).2.1 := by decide +kernel
theorem tyJ7_ok : ∀ k, k < 0 → parseFieldDescriptor (TJ7 k).2.2.1 = some (tyJ7 k) := by decide +kernel
abbrev cJ7_rangeCheck_23922 : ByteArray := prog_17_method_30_code
def yJ7_rangeCheck_23922 : MethodName := ⟨RJ7, "rangeCheck", "(III)V"⟩
abbrev cJ7_fill_d0a16 : ByteArray := prog_17_method_101_code
def yJ7_fill_d0a16 : MethodName := ⟨RJ7, "fill", "([JJ)V"⟩
abbrev cJ7_fill_53178 : ByteArray := prog_17_method_103_code
def yJ7_fill_53178 : MethodName := ⟨RJ7, "fill", "([II)V"⟩
abbrev cJ7_fill_fda19 : ByteArray := prog_17_method_104_code
def yJ7_fill_fda19 : MethodName := ⟨RJ7, "fill", "([IIII)V"⟩
def RL : String := "TurnedStonesLaw"
abbrev cL_law : ByteArray := code
def yL_law : MethodName := ⟨RL, "law", "([I)Z"⟩
/-- the words that a call carries on -/
def lw_gd : List Cond := lw_tbl.filter goodWord
theorem lw_gd_tbl {w : Cond} (h : w ∈ lw_gd) : w ∈ lw_tbl := (List.mem_filter.mp h).1
theorem lw_gd_good {w : Cond} (h : w ∈ lw_gd) : (w.onTables && w.keeps) = true ∨ ∃ ty, w = .arrayClass ty := good_of_word (List.mem_filter.mp h).2
abbrev classes : List vw_C := [(RX0, TX0, 5), (RX1, TX1, 7), (RX2, TX2, 6), (RX3, TX3, 1), (RX4, TX4, 6), (RX5, TX5, 3), (RX6, TX6, 5), (RX7, TX7, 5), (RX8, TX8, 8), (RX9, TX9, 14), (RX10, TX10, 41)]
theorem iX0 : ∀ w ∈ wsX00, w ∈ lw_gd := by decide +kernel
theorem iX1 : ∀ w ∈ wsX10, w ∈ lw_gd := by decide +kernel
theorem iX2 : ∀ w ∈ wsX20, w ∈ lw_gd := by decide +kernel
theorem iX3 : ∀ w ∈ wsX30, w ∈ lw_gd := by decide +kernel
theorem iX4 : ∀ w ∈ wsX40, w ∈ lw_gd := by decide +kernel
theorem iX5 : ∀ w ∈ wsX50, w ∈ lw_gd := by decide +kernel
theorem iX6 : ∀ w ∈ wsX60, w ∈ lw_gd := by decide +kernel
theorem iX7 : ∀ w ∈ wsX70, w ∈ lw_gd := by decide +kernel
theorem iX8 : ∀ w ∈ wsX80, w ∈ lw_gd := by decide +kernel
theorem iX9 : ∀ w ∈ wsX90, w ∈ lw_gd := by decide +kernel
theorem iX10 : ∀ w ∈ wsX100, w ∈ lw_gd := by decide +kernel
end
section
/-! ===== the memory of the two systems: cells in the order of their making; ints, longs, and where four references point ===== -/
abbrev wm_M : Type := (Nat → Nat → Int32) × (Nat → Nat → Int64) × (Nat → Bool)
/-- a cell's shape: an object (its class, its fields: int, long, a reference to a cell, a reference that moves), or an array (its kind, its length; of references: the first cell, and how far apart) -/
abbrev wm_S : Type := (Nat × List (Nat × Nat)) ⊕ (Nat × Nat × Nat × Nat)
abbrev wm_G : Type := Launch × va_G × (Nat → Nat) × (Nat → ClassId) × (Nat → Prop) × Nat
abbrev wm_T : Type := MethodName × ByteArray × Nat × Option FieldType × Nat × Nat
def wm_shp : List wm_S := [.inl (9, [(2, 1), (2, 10), (2, 17), (2, 22), (2, 27), (2, 28), (2, 46), (2, 54), (2, 65), (2, 92), (2, 94), (2, 95), (0, 0), (0, 0)]), .inl (5, [(0, 0), (2, 2), (2, 9)]), .inr (4, 6, 3, 1), .inr (0, 60, 0, 0), .inr (0, 60, 0, 0), .inr (0, 60, 0, 0), .inr (0, 60, 0, 0), .inr (0, 60, 0, 0), .inr (0, 60, 0, 0), .inr (0, 6, 0, 0), .inl (5, [(0, 0), (2, 11), (2, 16)]), .inr (4, 4, 12, 1), .inr (0, 80, 0, 0), .inr (0, 80, 0, 0), .inr (0, 80, 0, 0), .inr (0, 80, 0, 0), .inr (0, 4, 0, 0), .inl (4, [(0, 0), (0, 0), (2, 18), (2, 19), (2, 20), (2, 21)]), .inr (0, 6, 0, 0), .inr (0, 24, 0, 0), .inr (0, 6, 0, 0), .inr (0, 6, 0, 0), .inl (4, [(0, 0), (0, 0), (2, 23), (2, 24), (2, 25), (2, 26)]), .inr (0, 6, 0, 0), .inr (0, 24, 0, 0), .inr (0, 6, 0, 0), .inr (0, 6, 0, 0), .inl (7, [(2, 10), (2, 22), (0, 0), (0, 0), (0, 0)]), .inl (0, [(2, 29), (2, 36), (0, 0), (2, 17), (2, 37)]), .inl (5, [(0, 0), (2, 30), (2, 35)]), .inr (4, 4, 31, 1), .inr (0, 3, 0, 0), .inr (0, 3, 0, 0), .inr (0, 3, 0, 0), .inr (0, 3, 0, 0), .inr (0, 4, 0, 0), .inr (5, 4, 38, 2), .inr (0, 6, 0, 0), .inl (3, [(2, 39)]), .inr (1, 64, 0, 0), .inl (3, [(2, 41)]), .inr (1, 64, 0, 0), .inl (3, [(2, 43)]), .inr (1, 64, 0, 0), .inl (3, [(2, 45)]), .inr (1, 64, 0, 0), .inl (8, [(0, 0), (0, 0), (2, 17), (2, 28), (2, 47), (2, 49), (2, 51), (2, 53)]), .inl (3, [(2, 48)]), .inr (1, 64, 0, 0), .inl (3, [(2, 50)]), .inr (1, 64, 0, 0), .inl (3, [(2, 52)]), .inr (1, 64, 0, 0), .inr (0, 6, 0, 0), .inl (2, [(0, 0), (2, 17), (2, 55), (2, 56), (2, 57), (2, 58)]), .inr (0, 4, 0, 0), .inr (0, 4, 0, 0), .inr (0, 4, 0, 0), .inl (5, [(0, 0), (2, 59), (2, 64)]), .inr (4, 4, 60, 1), .inr (0, 3, 0, 0), .inr (0, 3, 0, 0), .inr (0, 3, 0, 0), .inr (0, 3, 0, 0), .inr (0, 4, 0, 0), .inl (1, [(2, 66), (2, 17), (2, 54), (2, 67), (2, 69), (3, 0), (3, 1)]), .inr (5, 10, 72, 2), .inl (3, [(2, 68)]), .inr (1, 64, 0, 0), .inr (0, 6, 0, 0), .inr (0, 4096, 0, 0), .inr (0, 4096, 0, 0), .inl (3, [(2, 73)]), .inr (1, 64, 0, 0), .inl (3, [(2, 75)]), .inr (1, 64, 0, 0), .inl (3, [(2, 77)]), .inr (1, 64, 0, 0), .inl (3, [(2, 79)]), .inr (1, 64, 0, 0), .inl (3, [(2, 81)]), .inr (1, 64, 0, 0), .inl (3, [(2, 83)]), .inr (1, 64, 0, 0), .inl (3, [(2, 85)]), .inr (1, 64, 0, 0), .inl (3, [(2, 87)]), .inr (1, 64, 0, 0), .inl (3, [(2, 89)]), .inr (1, 64, 0, 0), .inl (3, [(2, 91)]), .inr (1, 64, 0, 0), .inl (6, [(0, 0), (1, 0), (1, 0), (0, 0), (2, 93)]), .inr (0, 6, 0, 0), .inr (0, 3, 0, 0), .inr (0, 3, 0, 0), .inl (10, [(0, 0), (2, 97), (0, 0), (1, 0), (1, 0), (2, 98), (2, 99), (2, 100), (2, 101), (2, 102), (0, 0), (0, 0), (0, 0), (2, 103), (2, 104), (2, 105), (2, 106), (2, 107), (0, 0), (0, 0), (0, 0), (0, 0), (0, 0), (0, 0), (2, 108), (2, 109), (2, 110), (2, 111), (2, 112), (2, 113), (2, 114), (2, 115), (2, 116), (0, 0), (3, 2), (3, 3), (0, 0), (2, 119), (2, 120), (2, 121), (1, 0)]), .inr (0, 6, 0, 0), .inr (0, 6, 0, 0), .inr (0, 360, 0, 0), .inr (0, 60, 0, 0), .inr (0, 4, 0, 0), .inr (2, 320, 0, 0), .inr (0, 6, 0, 0), .inr (0, 24, 0, 0), .inr (0, 6, 0, 0), .inr (0, 6, 0, 0), .inr (0, 6, 0, 0), .inr (0, 42, 0, 0), .inr (0, 4, 0, 0), .inr (0, 12, 0, 0), .inr (0, 6, 0, 0), .inr (0, 3, 0, 0), .inr (0, 3, 0, 0), .inr (0, 4096, 0, 0), .inr (0, 4096, 0, 0), .inr (0, 24, 0, 0), .inr (3, 4096, 0, 0), .inr (3, 4096, 0, 0), .inr (0, 24, 0, 0), .inr (1, 40960, 0, 0), .inr (1, 40960, 0, 0)]
def wm_n : Nat := 122
def wm_sh (k : Nat) : wm_S := wm_shp.getD k (.inl (0, []))
def wm_dt (d : Nat) (b : Bool) : Nat := (if d < 2 then 70 else 117) + (if b then 1 else 0)
def wm_dl (d : Nat) : Nat × Nat := if d = 0 then (65, 5) else if d = 1 then (65, 6) else if d = 2 then (96, 34) else (96, 35)

theorem wm_lt {k : Nat} (h : wm_sh k ≠ .inl (0, [])) : k < wm_n := by
  rcases Nat.lt_or_ge k wm_n with q | q
  · exact q
  · exact absurd (by unfold wm_sh; rw [List.getD_eq_getElem?_getD, List.getElem?_eq_none (show wm_shp.length ≤ k from q)]; rfl) h
def wm_a (G : wm_G) (k : Nat) : Nat := G.2.2.1 k
def wm_r (G : wm_G) (k : Nat) : Value := .ref (wm_a G k)
def wm_fv (G : wm_G) (M : wm_M) (k j : Nat) (t : Nat × Nat) : Value := match t.1 with
  | 0 => .int (M.1 k j)
  | 1 => .long (M.2.1 k j)
  | 2 => wm_r G t.2
  | _ => wm_r G (wm_dt t.2 (M.2.2 t.2))
def wm_fs (G : wm_G) (M : wm_M) (k : Nat) : Nat → List (Nat × Nat) → List Value
  | _, [] => []
  | j, t :: ts => wm_fv G M k j t :: wm_fs G M k (j + 1) ts
theorem wm_fs_get {G : wm_G} {M : wm_M} {k : Nat} : ∀ (ts : List (Nat × Nat)) (j i : Nat), (wm_fs G M k j ts)[i]? = (ts[i]?).map (fun t => wm_fv G M k (j + i) t)
  | [], j, i => by simp [wm_fs]
  | t :: ts, j, 0 => by simp [wm_fs]
  | t :: ts, j, i + 1 => by
    simp only [wm_fs, List.getElem?_cons_succ]
    rw [wm_fs_get ts (j + 1) i, show j + 1 + i = j + (i + 1) by omega]
theorem wm_fs_len {G : wm_G} {M : wm_M} {k : Nat} : ∀ (ts : List (Nat × Nat)) (j : Nat), (wm_fs G M k j ts).length = ts.length
  | [], j => rfl
  | t :: ts, j => by simp [wm_fs, wm_fs_len ts (j + 1)]
theorem wm_fs_set {G : wm_G} {M M' : wm_M} {k i : Nat} {ts : List (Nat × Nat)} {t : Nat × Nat} {v : Value} (ht : ts[i]? = some t) (hv : wm_fv G M' k i t = v) (ho : ∀ (i' : Nat) (t' : Nat × Nat), i' ≠ i → ts[i']? = some t' → wm_fv G M' k i' t' = wm_fv G M k i' t') : (wm_fs G M k 0 ts).set i v = wm_fs G M' k 0 ts := by
  apply List.ext_getElem?
  intro i'
  by_cases h : i' = i
  · subst h
    have hl := (List.getElem?_eq_some_iff.mp ht).1
    rw [List.getElem?_set_self (by rw [wm_fs_len]; exact hl), wm_fs_get, ht]
    simp [hv]
  · rw [List.getElem?_set_ne (Ne.symm h), wm_fs_get, wm_fs_get]
    cases hq : ts[i']? with
    | none => rfl
    | some t' => simp [ho i' t' h hq]
def wm_ar (G : wm_G) (M : wm_M) (k : Nat) (a : Nat × Nat × Nat × Nat) : vp_A := (a.2.1, match a.1 with
  | 1 => .inr (.inl (M.2.1 k))
  | 4 => .inr (.inr (.inr (.inr (fun i => if i < a.2.1 then some (wm_a G (a.2.2.1 + a.2.2.2 * i)) else none))))
  | 5 => .inr (.inr (.inr (.inr (fun i => if i < a.2.1 then some (wm_a G (a.2.2.1 + a.2.2.2 * i)) else none))))
  | _ => .inl (M.1 k))
def wm_cell (G : wm_G) (M : wm_M) (k : Nat) : va_E := match wm_sh k with
  | .inl o => .inr (o.1, wm_fs G M k 0 o.2)
  | .inr a => .inl (G.2.2.2.1 a.1, wm_ar G M k a)
def wm_ws (G : wm_G) (M : wm_M) : va_W := (List.range wm_n).map (fun k => (wm_a G k, wm_cell G M k))
theorem wm_at {G : wm_G} {M : wm_M} {k : Nat} (hk : k < wm_n) : (wm_ws G M)[k]? = some (wm_a G k, wm_cell G M k) := by simp [wm_ws, hk]
theorem wm_set {G : wm_G} {M M' : wm_M} {k : Nat} {e : va_E} (hk : k < wm_n) (h : wm_cell G M' k = e) (ho : ∀ j, j ≠ k → wm_cell G M' j = wm_cell G M j) : (wm_ws G M).set k (wm_a G k, e) = wm_ws G M' := by
  apply List.ext_getElem?
  intro i
  by_cases hi : i = k
  · subst hi
    rw [List.getElem?_set_self (by simp [wm_ws, hk]), wm_at hk, h]
  · rw [List.getElem?_set_ne (Ne.symm hi)]
    simp only [wm_ws, List.getElem?_map]
    by_cases hl : i < wm_n
    · simp [hl, ho i hi]
    · simp [hl]
theorem wm_obj {G : wm_G} {M : wm_M} {k ci : Nat} {fts : List (Nat × Nat)} (h : wm_sh k = .inl (ci, fts)) : wm_cell G M k = .inr (ci, wm_fs G M k 0 fts) := by unfold wm_cell; rw [h]
theorem wm_arr {G : wm_G} {M : wm_M} {k : Nat} {a : Nat × Nat × Nat × Nat} (h : wm_sh k = .inr a) : wm_cell G M k = .inl (G.2.2.2.1 a.1, wm_ar G M k a) := by unfold wm_cell; rw [h]
theorem wm_ltO {k ci j : Nat} {fts : List (Nat × Nat)} {t : Nat × Nat} (h : wm_sh k = .inl (ci, fts)) (hf : fts[j]? = some t) : k < wm_n := wm_lt (fun q => by rw [h] at q; cases q; simp at hf)
theorem wm_ltA {k : Nat} {a : Nat × Nat × Nat × Nat} (h : wm_sh k = .inr a) : k < wm_n := wm_lt (fun q => by rw [h] at q; cases q)
/-- what a store makes of the memory -/
def wIa (M : wm_M) (k : Nat) (f : Nat → Int32) : wm_M := (fun k' => if k' = k then f else M.1 k', M.2)
def wJa (M : wm_M) (k : Nat) (f : Nat → Int64) : wm_M := (M.1, fun k' => if k' = k then f else M.2.1 k', M.2.2)
def wI (M : wm_M) (k j : Nat) (x : Int32) : wm_M := wIa M k (upd (M.1 k) j x)
def wJ (M : wm_M) (k j : Nat) (x : Int64) : wm_M := wJa M k (vp_updL (M.2.1 k) j x)
def wD (M : wm_M) (d : Nat) (b : Bool) : wm_M := (M.1, M.2.1, fun d' => if d' = d then b else M.2.2 d')
theorem wIa_s {M : wm_M} {k : Nat} {f : Nat → Int32} : (wIa M k f).1 k = f := if_pos rfl
theorem wIa_n {M : wm_M} {k k' : Nat} {f : Nat → Int32} (h : k' ≠ k) : (wIa M k f).1 k' = M.1 k' := if_neg h
theorem wIa_2 {M : wm_M} {k : Nat} {f : Nat → Int32} : (wIa M k f).2 = M.2 := rfl
theorem wJa_s {M : wm_M} {k : Nat} {f : Nat → Int64} : (wJa M k f).2.1 k = f := if_pos rfl
theorem wJa_n {M : wm_M} {k k' : Nat} {f : Nat → Int64} (h : k' ≠ k) : (wJa M k f).2.1 k' = M.2.1 k' := if_neg h
theorem wJa_1 {M : wm_M} {k : Nat} {f : Nat → Int64} : (wJa M k f).1 = M.1 := rfl
theorem wJa_22 {M : wm_M} {k : Nat} {f : Nat → Int64} : (wJa M k f).2.2 = M.2.2 := rfl
theorem wIa_self {M : wm_M} {k : Nat} : wIa M k (M.1 k) = M := by
  have : (fun k' => if k' = k then M.1 k else M.1 k') = M.1 := by
    funext k'; by_cases h : k' = k
    · simp [h]
    · simp [h]
  unfold wIa; rw [this]
theorem wIa_wIa {M : wm_M} {k : Nat} {f g : Nat → Int32} : wIa (wIa M k f) k g = wIa M k g := by
  unfold wIa; congr 1; funext k'; by_cases h : k' = k <;> simp [h]
theorem wJa_self {M : wm_M} {k : Nat} : wJa M k (M.2.1 k) = M := by
  have : (fun k' => if k' = k then M.2.1 k else M.2.1 k') = M.2.1 := by
    funext k'; by_cases h : k' = k
    · simp [h]
    · simp [h]
  unfold wJa; rw [this]
theorem wJa_wJa {M : wm_M} {k : Nat} {f g : Nat → Int64} : wJa (wJa M k f) k g = wJa M k g := by
  unfold wJa; congr 2; funext k'; by_cases h : k' = k <;> simp [h]
theorem wIa_comm {M : wm_M} {k k' : Nat} {f g : Nat → Int32} (h : k ≠ k') : wIa (wIa M k f) k' g = wIa (wIa M k' g) k f := by
  unfold wIa; congr 1; funext q
  by_cases h1 : q = k
  · subst h1; simp [h]
  · by_cases h2 : q = k'
    · subst h2; simp [h1]
    · simp [h1, h2]
theorem wm_fv_I {G : wm_G} {M : wm_M} {k j : Nat} {f : Nat → Int32} {t : Nat × Nat} {k' : Nat} (h : k' ≠ k) : wm_fv G (wIa M k f) k' j t = wm_fv G M k' j t := by
  unfold wm_fv; split <;> simp [wIa_n h, wIa_2]
theorem wm_fs_I {G : wm_G} {M : wm_M} {k : Nat} {f : Nat → Int32} {k' : Nat} (h : k' ≠ k) : ∀ (ts : List (Nat × Nat)) (j : Nat), wm_fs G (wIa M k f) k' j ts = wm_fs G M k' j ts
  | [], _ => rfl
  | t :: ts, j => by simp only [wm_fs]; rw [wm_fv_I h, wm_fs_I h ts (j + 1)]
theorem wm_cell_I {G : wm_G} {M : wm_M} {k : Nat} {f : Nat → Int32} {k' : Nat} (h : k' ≠ k) : wm_cell G (wIa M k f) k' = wm_cell G M k' := by
  unfold wm_cell
  cases wm_sh k' with
  | inl o => simp only; rw [wm_fs_I h]
  | inr a => simp only; unfold wm_ar; split <;> simp [wIa_n h, wIa_2]
theorem wm_fv_J {G : wm_G} {M : wm_M} {k j : Nat} {f : Nat → Int64} {t : Nat × Nat} {k' : Nat} (h : k' ≠ k) : wm_fv G (wJa M k f) k' j t = wm_fv G M k' j t := by
  unfold wm_fv; split <;> simp [wJa_n h, wJa_1, wJa_22]
theorem wm_fs_J {G : wm_G} {M : wm_M} {k : Nat} {f : Nat → Int64} {k' : Nat} (h : k' ≠ k) : ∀ (ts : List (Nat × Nat)) (j : Nat), wm_fs G (wJa M k f) k' j ts = wm_fs G M k' j ts
  | [], _ => rfl
  | t :: ts, j => by simp only [wm_fs]; rw [wm_fv_J h, wm_fs_J h ts (j + 1)]
theorem wm_cell_J {G : wm_G} {M : wm_M} {k : Nat} {f : Nat → Int64} {k' : Nat} (h : k' ≠ k) : wm_cell G (wJa M k f) k' = wm_cell G M k' := by
  unfold wm_cell
  cases wm_sh k' with
  | inl o => simp only; rw [wm_fs_J h]
  | inr a => simp only; unfold wm_ar; split <;> simp [wJa_n h, wJa_1, wJa_22]
/-- the moving references lie where they are told -/
theorem wm_dyn_all : ∀ k, k < wm_n → ∀ j, j < 50 → (match wm_sh k with | .inl o => (match o.2[j]? with | some t => decide (t.1 ≠ 3 ∨ (t.2 < 4 ∧ (k, j) = wm_dl t.2)) | none => true) | .inr _ => true) = true := by decide +kernel
theorem wm_len_all : ∀ k, k < wm_n → (match wm_sh k with | .inl o => decide (o.2.length < 50) && o.2.all (fun t => decide (t.1 < 4)) | .inr _ => true) = true := by decide +kernel
theorem wm_dyn {k ci j d : Nat} {fts : List (Nat × Nat)} (h : wm_sh k = .inl (ci, fts)) (hf : fts[j]? = some (3, d)) : d < 4 ∧ (k, j) = wm_dl d := by
  have hk := wm_ltO h hf
  have h1 := wm_len_all k hk
  have hj : j < 50 := by
    have := (List.getElem?_eq_some_iff.mp hf).1
    rw [h] at h1
    simp only [Bool.and_eq_true, decide_eq_true_eq] at h1
    omega
  have h2 := wm_dyn_all k hk j hj
  rw [h] at h2
  simp only [hf, decide_eq_true_eq] at h2
  rcases h2 with h2 | h2
  · exact absurd rfl h2
  · exact h2

/-! ===== WA, MA ===== -/
def wm_tys (G : wm_G) : List (ClassId × FieldType) := [(G.2.2.2.1 0, .int), (G.2.2.2.1 1, .long), (G.2.2.2.1 2, .byte), (G.2.2.2.1 3, .boolean), (G.2.2.2.1 4, .array .int), (G.2.2.2.1 5, .object "TurnedStones$StateSet")]
def wm_first (j : Nat) : Int64 := if j = 0 then 1229782938247303441 else if j = 1 then 4222189076152335 else 65535
/-- what stays as it is: classes, arrays' classes, the static array, the cells apart -/
def wm_F (G : wm_G) (U : State) : Prop := va_K G.2.1 classes (wm_tys G) U ∧ va_Z RX3 "FIRST" "[J" (.ref G.2.2.2.2.2) G.2.2.2.2.1 U U.heap ∧ va_T .long G.2.2.2.2.2 3 (fun j => .long (wm_first j)) G.2.2.2.2.1 U U.heap ∧ (∀ i j, i < wm_n → j < wm_n → wm_a G i = wm_a G j → i = j) ∧ ∀ k, k < wm_n → G.2.2.2.2.1 (wm_a G k)
def wm_R (t : wm_T) : Room := { frames := t.2.2.2.2.1, cells := 0, slots := 0, locals := t.2.2.2.2.2 }
def wm_Q (G : wm_G) (post : Option Value → wm_M → Prop) : Array Value → State → Outcome → State → Prop := fun _ st o t => (∃ (v : Option Value) (N : wm_M), o = .returned v ∧ post v N ∧ va_P G.2.1 classes (wm_ws G N) t.heap) ∧ va_F G.2.2.2.2.1 st t
def wm_C (G : wm_G) (t : wm_T) (p : Program) (s : State) (m : MethodId) (args : Array Value) (meth : Method) (c : Code) : Prop :=
  p.tables.exec = Jvm.exec ∧ c.code = t.2.1 ∧ meth.sig.returnType = t.2.2.2.1 ∧ c.maxLocals = t.2.2.1 ∧ s.vm.findClass t.1.cls = some m.cls ∧ (∀ w ∈ lw_gd, w.before args s = true) ∧ meth.locks = false ∧ wm_F G s
/-- the frame of method t at pc, with these locals, this stack, this memory: it comes to its end with post -/
def WA (G : wm_G) (t : wm_T) (post : Option Value → wm_M → Prop) (pc : Nat) (ls : List (Nat × Value)) (st : List Value) (M : wm_M) : Prop :=
  ∀ (p : Program) (e : Env) (s : State) (m : MethodId) (args : Array Value) (below : List Frame) (meth : Method) (c : Code), wm_C G t p s m args meth c → ∀ (H : Heap) (locs : List Loc) (la : Array Slot), va_P G.2.1 classes (wm_ws G M) H → va_S G.2.2.2.2.1 s.heap H locs → lv_has la t.2.2.1 ls →
    W p G.1 e (wm_R t) s m args below meth c H locs 0 0 (MQ below (wm_Q G post) args s 0 0 G.2.2.2.2.1) (F0 m pc la st)
def wm_ws0 (t : wm_T) : List Cond := Cond.code t.1 t.2.1 t.2.2.1 t.2.2.2.1 :: lw_gd
/-- method t, called with these values over this memory, comes back with post -/
def MA (G : wm_G) (t : wm_T) (av : List Value) (M : wm_M) (post : Option Value → wm_M → Prop) : Prop :=
  Met G.1 t.1 (wm_ws0 t) (wm_R t) (va_Pc av (fun U => va_P G.2.1 classes (wm_ws G M) U.heap ∧ wm_F G U)) (wm_Q G post) 0 0 G.2.2.2.2.1
theorem wm_D {G : wm_G} {U : State} (h : wm_F G U) (M : wm_M) : va_D G.2.2.2.2.1 (wm_ws G M) := by
  obtain ⟨-, -, -, hi, hA⟩ := h
  have key : ∀ (k : Nat) (q : Nat × va_E), (wm_ws G M)[k]? = some q → k < wm_n ∧ q.1 = wm_a G k := by
    intro k q hq
    have hl : k < wm_n := by
      have := (List.getElem?_eq_some_iff.mp hq).1
      simpa [wm_ws] using this
    rw [wm_at hl] at hq
    cases hq
    exact ⟨hl, rfl⟩
  refine ⟨fun i j x y h1 h2 h3 => ?_, fun k q hq => ?_⟩
  · obtain ⟨a1, a2⟩ := key i x h1
    obtain ⟨b1, b2⟩ := key j y h2
    exact hi i j a1 b1 (by rw [← a2, ← b2]; exact h3)
  · obtain ⟨a1, a2⟩ := key k q hq
    rw [a2]; exact hA k a1
theorem wm_F.moved {G : wm_G} {u U : State} (hvm : u.vm.Alike U.vm) (hh : ∀ a : Nat, a < u.heap.size → ¬ G.2.2.2.2.1 a → U.heap[a]? = u.heap[a]?) (h : wm_F G u) : wm_F G U :=
  ⟨h.1.moved hvm, (h.2.1.moved hvm).kept hh, (h.2.2.1.moved hvm).kept hh, h.2.2.2⟩
section WMR
variable {G : wm_G} {t : wm_T} {post : Option Value → wm_M → Prop} {pc : Nat} {ls : List (Nat × Value)} {st : List Value} {M : wm_M}
theorem wm_met {av : List Value} (hy : plainName t.1.cls = true) (hn : (lg_sl av).length ≤ t.2.2.1) (h : WA G t post 0 (lv_args 0 av) [] M) : MA G t av M post := by
  refine Met.ofW (cc := t.2.1) (maxL := t.2.2.1) (ret := t.2.2.2.1) hy rfl ?_
  intro p e s m args below meth c s₁ B hml hv
  obtain ⟨rfl, hP, hF⟩ := hv
  have hts := atoms_spec (ws := wm_ws0 t) B.pre
  have hl := lv_entry av hn
  rw [lg_entry_eq]
  exact h p e s m _ below meth c ⟨B.exec, B.bytes, B.returns, hml, findClass_of_methodNamed B.named, fun w hw => hts w (List.mem_cons_of_mem _ hw), B.notSynchronized, hF⟩ s.heap [] _ hP va_S.rf hl
theorem MA.mono {av : List Value} {post' : Option Value → wm_M → Prop} (h : MA G t av M post') (hp : ∀ v N, post' v N → post v N) : MA G t av M post := by
  intro p e ha hc hk s m args below hf hpre hP hq
  obtain ⟨k, o, h1, h2, h3, ⟨⟨v, N, e1, e2, e3⟩, e4⟩, h5⟩ := h p e ha hc hk s m args below hf hpre hP hq
  exact ⟨k, o, h1, h2, h3, ⟨⟨v, N, e1, hp v N e2, e3⟩, e4⟩, h5⟩
theorem WA.mono {post' : Option Value → wm_M → Prop} (h : WA G t post' pc ls st M) (hp : ∀ v N, post' v N → post v N) : WA G t post pc ls st M := by
  intro p e s m args below meth c C H locs la hP hS hl T hT X
  obtain ⟨tt, a, o, b1, b2, ⟨⟨v, N, e1, e2, e3⟩, e4⟩, h5⟩ := h p e s m args below meth c C H locs la hP hS hl T hT X
  exact ⟨tt, a, o, b1, b2, ⟨⟨v, N, e1, hp v N e2, e3⟩, e4⟩, h5⟩
theorem wa_top {M' : wm_M} (k : ∀ N : wm_M, N = M' → WA G t post pc ls st N) : WA G t post pc ls st M' := k M' rfl
theorem wa_topi {x : Int32} (k : ∀ y : Int32, y = x → WA G t post pc ls (.int y :: st) M) : WA G t post pc ls (.int x :: st) M := k x rfl
theorem wa_topl {x : Int64} (k : ∀ y : Int64, y = x → WA G t post pc ls (.long y :: st) M) : WA G t post pc ls (.long x :: st) M := k x rfl
theorem wa_eqi {x y : Int32} (h : x = y) (k : WA G t post pc ls (.int y :: st) M) : WA G t post pc ls (.int x :: st) M := h ▸ k
theorem wa_eql {x y : Int64} (h : x = y) (k : WA G t post pc ls (.long y :: st) M) : WA G t post pc ls (.long x :: st) M := h ▸ k
theorem wa_eqm {M' : wm_M} (h : M = M') (k : WA G t post pc ls st M') : WA G t post pc ls st M := h ▸ k
theorem wa_sub {ls' : List (Nat × Value)} (ks : List Nat) (h : lv_pick ls ks = ls') (k : WA G t post pc ls' st M) : WA G t post pc ls st M :=
  fun p e s m args below meth c C H locs la hP hS hl => k p e s m args below meth c C H locs la hP hS (lv_sub hl ks h)

theorem wa_iadd {x y : Int32} (d : decode t.2.1 pc = .ok (.iadd, 1)) (k : WA G t post (pc + 1) ls (.int (x + y) :: st) M) : WA G t post pc ls (.int y :: .int x :: st) M :=
  fun p e s m args below meth c C H locs la hP hS hl => lv_iadd C.1 C.2.1 d (k p e s m args below meth c C H locs la hP hS hl)
theorem wa_isub {x y : Int32} (d : decode t.2.1 pc = .ok (.isub, 1)) (k : WA G t post (pc + 1) ls (.int (x - y) :: st) M) : WA G t post pc ls (.int y :: .int x :: st) M :=
  fun p e s m args below meth c C H locs la hP hS hl => lv_isub C.1 C.2.1 d (k p e s m args below meth c C H locs la hP hS hl)
theorem wa_imul {x y : Int32} (d : decode t.2.1 pc = .ok (.imul, 1)) (k : WA G t post (pc + 1) ls (.int (x * y) :: st) M) : WA G t post pc ls (.int y :: .int x :: st) M :=
  fun p e s m args below meth c C H locs la hP hS hl => lv_imul C.1 C.2.1 d (k p e s m args below meth c C H locs la hP hS hl)
theorem wa_iand {x y : Int32} (d : decode t.2.1 pc = .ok (.iand, 1)) (k : WA G t post (pc + 1) ls (.int (x &&& y) :: st) M) : WA G t post pc ls (.int y :: .int x :: st) M :=
  fun p e s m args below meth c C H locs la hP hS hl => lv_iand C.1 C.2.1 d (k p e s m args below meth c C H locs la hP hS hl)
theorem wa_ior {x y : Int32} (d : decode t.2.1 pc = .ok (.ior, 1)) (k : WA G t post (pc + 1) ls (.int (x ||| y) :: st) M) : WA G t post pc ls (.int y :: .int x :: st) M :=
  fun p e s m args below meth c C H locs la hP hS hl => lv_ior C.1 C.2.1 d (k p e s m args below meth c C H locs la hP hS hl)
theorem wa_ixor {x y : Int32} (d : decode t.2.1 pc = .ok (.ixor, 1)) (k : WA G t post (pc + 1) ls (.int (x ^^^ y) :: st) M) : WA G t post pc ls (.int y :: .int x :: st) M :=
  fun p e s m args below meth c C H locs la hP hS hl => lv_ixor C.1 C.2.1 d (k p e s m args below meth c C H locs la hP hS hl)
theorem wa_ishl {x y : Int32} (d : decode t.2.1 pc = .ok (.ishl, 1)) (k : WA G t post (pc + 1) ls (.int (x <<< (y &&& 31)) :: st) M) : WA G t post pc ls (.int y :: .int x :: st) M :=
  fun p e s m args below meth c C H locs la hP hS hl => lv_ishl C.1 C.2.1 d (k p e s m args below meth c C H locs la hP hS hl)
theorem wa_ishr {x y : Int32} (d : decode t.2.1 pc = .ok (.ishr, 1)) (k : WA G t post (pc + 1) ls (.int (x >>> (y &&& 31)) :: st) M) : WA G t post pc ls (.int y :: .int x :: st) M :=
  fun p e s m args below meth c C H locs la hP hS hl => lv_ishr C.1 C.2.1 d (k p e s m args below meth c C H locs la hP hS hl)
theorem wa_ladd {x y : Int64} (d : decode t.2.1 pc = .ok (.ladd, 1)) (k : WA G t post (pc + 1) ls (.long (x + y) :: st) M) : WA G t post pc ls (.long y :: .long x :: st) M :=
  fun p e s m args below meth c C H locs la hP hS hl => lv_ladd C.1 C.2.1 d (k p e s m args below meth c C H locs la hP hS hl)
theorem wa_lsub {x y : Int64} (d : decode t.2.1 pc = .ok (.lsub, 1)) (k : WA G t post (pc + 1) ls (.long (x - y) :: st) M) : WA G t post pc ls (.long y :: .long x :: st) M :=
  fun p e s m args below meth c C H locs la hP hS hl => lv_lsub C.1 C.2.1 d (k p e s m args below meth c C H locs la hP hS hl)
theorem wa_lmul {x y : Int64} (d : decode t.2.1 pc = .ok (.lmul, 1)) (k : WA G t post (pc + 1) ls (.long (x * y) :: st) M) : WA G t post pc ls (.long y :: .long x :: st) M :=
  fun p e s m args below meth c C H locs la hP hS hl => lv_lmul C.1 C.2.1 d (k p e s m args below meth c C H locs la hP hS hl)
theorem wa_land {x y : Int64} (d : decode t.2.1 pc = .ok (.land, 1)) (k : WA G t post (pc + 1) ls (.long (x &&& y) :: st) M) : WA G t post pc ls (.long y :: .long x :: st) M :=
  fun p e s m args below meth c C H locs la hP hS hl => lv_land C.1 C.2.1 d (k p e s m args below meth c C H locs la hP hS hl)
theorem wa_lor {x y : Int64} (d : decode t.2.1 pc = .ok (.lor, 1)) (k : WA G t post (pc + 1) ls (.long (x ||| y) :: st) M) : WA G t post pc ls (.long y :: .long x :: st) M :=
  fun p e s m args below meth c C H locs la hP hS hl => lv_lor C.1 C.2.1 d (k p e s m args below meth c C H locs la hP hS hl)
theorem wa_lxor {x y : Int64} (d : decode t.2.1 pc = .ok (.lxor, 1)) (k : WA G t post (pc + 1) ls (.long (x ^^^ y) :: st) M) : WA G t post pc ls (.long y :: .long x :: st) M :=
  fun p e s m args below meth c C H locs la hP hS hl => lv_lxor C.1 C.2.1 d (k p e s m args below meth c C H locs la hP hS hl)
theorem wa_idiv {x y : Int32} (d : decode t.2.1 pc = .ok (.idiv, 1)) (h : ¬ y = 0) (k : WA G t post (pc + 1) ls (.int (x / y) :: st) M) : WA G t post pc ls (.int y :: .int x :: st) M :=
  fun p e s m args below meth c C H locs la hP hS hl => lv_idiv C.1 C.2.1 d h (k p e s m args below meth c C H locs la hP hS hl)
theorem wa_irem {x y : Int32} (d : decode t.2.1 pc = .ok (.irem, 1)) (h : ¬ y = 0) (k : WA G t post (pc + 1) ls (.int (x - x / y * y) :: st) M) : WA G t post pc ls (.int y :: .int x :: st) M :=
  fun p e s m args below meth c C H locs la hP hS hl => lv_irem C.1 C.2.1 d h (k p e s m args below meth c C H locs la hP hS hl)
theorem wa_ldiv {x y : Int64} (d : decode t.2.1 pc = .ok (.ldiv, 1)) (h : ¬ y = 0) (k : WA G t post (pc + 1) ls (.long (x / y) :: st) M) : WA G t post pc ls (.long y :: .long x :: st) M :=
  fun p e s m args below meth c C H locs la hP hS hl => lv_ldiv C.1 C.2.1 d h (k p e s m args below meth c C H locs la hP hS hl)
theorem wa_lrem {x y : Int64} (d : decode t.2.1 pc = .ok (.lrem, 1)) (h : ¬ y = 0) (k : WA G t post (pc + 1) ls (.long (x - x / y * y) :: st) M) : WA G t post pc ls (.long y :: .long x :: st) M :=
  fun p e s m args below meth c C H locs la hP hS hl => lv_lrem C.1 C.2.1 d h (k p e s m args below meth c C H locs la hP hS hl)
theorem wa_i2l {x : Int32} (d : decode t.2.1 pc = .ok (.i2l, 1)) (k : WA G t post (pc + 1) ls (.long x.toInt64 :: st) M) : WA G t post pc ls (.int x :: st) M :=
  fun p e s m args below meth c C H locs la hP hS hl => lv_i2l C.1 C.2.1 d rfl (k p e s m args below meth c C H locs la hP hS hl)
theorem wa_l2i {x : Int64} (d : decode t.2.1 pc = .ok (.l2i, 1)) (k : WA G t post (pc + 1) ls (.int x.toInt32 :: st) M) : WA G t post pc ls (.long x :: st) M :=
  fun p e s m args below meth c C H locs la hP hS hl => lv_l2i C.1 C.2.1 d rfl (k p e s m args below meth c C H locs la hP hS hl)
theorem wa_i2b {x : Int32} (d : decode t.2.1 pc = .ok (.i2b, 1)) (k : WA G t post (pc + 1) ls (.int x.toInt8.toInt32 :: st) M) : WA G t post pc ls (.int x :: st) M :=
  fun p e s m args below meth c C H locs la hP hS hl => lv_i2b C.1 C.2.1 d rfl (k p e s m args below meth c C H locs la hP hS hl)
theorem wa_iushr {x y : Int32} (d : decode t.2.1 pc = .ok (.iushr, 1)) (k : WA G t post (pc + 1) ls (.int (x.toUInt32 >>> (y.toUInt32 &&& Int32.toUInt32 31)).toInt32 :: st) M) : WA G t post pc ls (.int y :: .int x :: st) M :=
  fun p e s m args below meth c C H locs la hP hS hl => lv_iushr C.1 C.2.1 d rfl (k p e s m args below meth c C H locs la hP hS hl)
theorem wa_lushr {x : Int64} {y : Int32} (d : decode t.2.1 pc = .ok (.lushr, 1)) (k : WA G t post (pc + 1) ls (.long (x.toUInt64 >>> (y.toInt64.toUInt64 &&& Int64.toUInt64 63)).toInt64 :: st) M) : WA G t post pc ls (.int y :: .long x :: st) M :=
  fun p e s m args below meth c C H locs la hP hS hl => lv_lushr C.1 C.2.1 d rfl (k p e s m args below meth c C H locs la hP hS hl)
theorem wa_lshl {x : Int64} {y : Int32} (d : decode t.2.1 pc = .ok (.lshl, 1)) (k : WA G t post (pc + 1) ls (.long (x <<< (y.toInt64 &&& 63)) :: st) M) : WA G t post pc ls (.int y :: .long x :: st) M :=
  fun p e s m args below meth c C H locs la hP hS hl => lv_lshl C.1 C.2.1 d rfl (k p e s m args below meth c C H locs la hP hS hl)
theorem wa_lcmp {x y : Int64} (d : decode t.2.1 pc = .ok (.lcmp, 1)) (k : WA G t post (pc + 1) ls (.int (lg_cmp x y) :: st) M) : WA G t post pc ls (.long y :: .long x :: st) M :=
  fun p e s m args below meth c C H locs la hP hS hl => W.lcmp C.1 C.2.1 d (k p e s m args below meth c C H locs la hP hS hl)
theorem wa_dup {v : Value} (d : decode t.2.1 pc = .ok (.dup, 1)) (h : v.category = 1) (k : WA G t post (pc + 1) ls (v :: v :: st) M) : WA G t post pc ls (v :: st) M :=
  fun p e s m args below meth c C H locs la hP hS hl => lv_dup C.1 C.2.1 d h (k p e s m args below meth c C H locs la hP hS hl)
theorem wa_dup_x1 {v u : Value} (d : decode t.2.1 pc = .ok (.dup_x1, 1)) (h : v.category = 1) (h2 : u.category = 1) (k : WA G t post (pc + 1) ls (v :: u :: v :: st) M) : WA G t post pc ls (v :: u :: st) M :=
  fun p e s m args below meth c C H locs la hP hS hl => lv_dup_x1 C.1 C.2.1 d h h2 (k p e s m args below meth c C H locs la hP hS hl)
theorem wa_dup2_11 {v u : Value} (d : decode t.2.1 pc = .ok (.dup2, 1)) (h : v.category = 1) (h2 : u.category = 1) (k : WA G t post (pc + 1) ls (v :: u :: v :: u :: st) M) : WA G t post pc ls (v :: u :: st) M :=
  fun p e s m args below meth c C H locs la hP hS hl => lv_dup2_11 C.1 C.2.1 d h h2 (k p e s m args below meth c C H locs la hP hS hl)
theorem wa_dup2_2 {v : Value} (d : decode t.2.1 pc = .ok (.dup2, 1)) (h : v.category = 2) (k : WA G t post (pc + 1) ls (v :: v :: st) M) : WA G t post pc ls (v :: st) M :=
  fun p e s m args below meth c C H locs la hP hS hl => lv_dup2_2 C.1 C.2.1 d h (k p e s m args below meth c C H locs la hP hS hl)
theorem wa_pop {v : Value} (d : decode t.2.1 pc = .ok (.pop, 1)) (h : v.category = 1) (k : WA G t post (pc + 1) ls (st) M) : WA G t post pc ls (v :: st) M :=
  fun p e s m args below meth c C H locs la hP hS hl => lv_pop C.1 C.2.1 d h (k p e s m args below meth c C H locs la hP hS hl)
theorem wa_iconst {n : Int} (v : Int32) (d : decode t.2.1 pc = .ok (.iconst n, 1)) (h : Int32.ofInt n = v) (k : WA G t post (pc + 1) ls (.int v :: st) M) : WA G t post pc ls (st) M :=
  fun p e s m args below meth c C H locs la hP hS hl => lv_iconst C.1 C.2.1 d h (k p e s m args below meth c C H locs la hP hS hl)
theorem wa_bipush {n : Int} (v : Int32) (d : decode t.2.1 pc = .ok (.bipush n, 2)) (h : (Int8.ofInt n).toInt32 = v) (k : WA G t post (pc + 2) ls (.int v :: st) M) : WA G t post pc ls (st) M :=
  fun p e s m args below meth c C H locs la hP hS hl => lv_bipush C.1 C.2.1 d h (k p e s m args below meth c C H locs la hP hS hl)
theorem wa_sipush {n : Int} (v : Int32) (d : decode t.2.1 pc = .ok (.sipush n, 3)) (h : (Int16.ofInt n).toInt32 = v) (k : WA G t post (pc + 3) ls (.int v :: st) M) : WA G t post pc ls (st) M :=
  fun p e s m args below meth c C H locs la hP hS hl => lv_sipush C.1 C.2.1 d h (k p e s m args below meth c C H locs la hP hS hl)
theorem wa_lconst {n : Fin 2} (v : Int64) (d : decode t.2.1 pc = .ok (.lconst n, 1)) (h : Int64.ofNat (n : Nat) = v) (k : WA G t post (pc + 1) ls (.long v :: st) M) : WA G t post pc ls (st) M :=
  fun p e s m args below meth c C H locs la hP hS hl => lv_lconst C.1 C.2.1 d h (k p e s m args below meth c C H locs la hP hS hl)
theorem wa_iload_n {x : Int32} {kk : Fin 4} {i : Nat} (d : decode t.2.1 pc = .ok (.iload_n kk, 1)) (hi : (kk : Nat) = i) (q : Nat) (h : ls[q]? = some (i, .int x)) (k : WA G t post (pc + 1) ls (.int x :: st) M) : WA G t post pc ls st M :=
  fun p e s m args below meth c C H locs la hP hS hl => lv_iload_n C.1 C.2.1 d hi (lv_at hl q h) (k p e s m args below meth c C H locs la hP hS hl)
theorem wa_iload {x : Int32} {i : Nat} (d : decode t.2.1 pc = .ok (.iload i, 2)) (q : Nat) (h : ls[q]? = some (i, .int x)) (k : WA G t post (pc + 2) ls (.int x :: st) M) : WA G t post pc ls st M :=
  fun p e s m args below meth c C H locs la hP hS hl => lv_iload C.1 C.2.1 d (lv_at hl q h) (k p e s m args below meth c C H locs la hP hS hl)
theorem wa_lload_n {x : Int64} {kk : Fin 4} {i : Nat} (d : decode t.2.1 pc = .ok (.lload_n kk, 1)) (hi : (kk : Nat) = i) (q : Nat) (h : ls[q]? = some (i, .long x)) (k : WA G t post (pc + 1) ls (.long x :: st) M) : WA G t post pc ls st M :=
  fun p e s m args below meth c C H locs la hP hS hl => lv_lload_n C.1 C.2.1 d hi (lv_at hl q h) (k p e s m args below meth c C H locs la hP hS hl)
theorem wa_lload {x : Int64} {i : Nat} (d : decode t.2.1 pc = .ok (.lload i, 2)) (q : Nat) (h : ls[q]? = some (i, .long x)) (k : WA G t post (pc + 2) ls (.long x :: st) M) : WA G t post pc ls st M :=
  fun p e s m args below meth c C H locs la hP hS hl => lv_lload C.1 C.2.1 d (lv_at hl q h) (k p e s m args below meth c C H locs la hP hS hl)
theorem wa_aload_n {x : Nat} {kk : Fin 4} {i : Nat} (d : decode t.2.1 pc = .ok (.aload_n kk, 1)) (hi : (kk : Nat) = i) (q : Nat) (h : ls[q]? = some (i, .ref x)) (k : WA G t post (pc + 1) ls (.ref x :: st) M) : WA G t post pc ls st M :=
  fun p e s m args below meth c C H locs la hP hS hl => lv_aload_n C.1 C.2.1 d hi (lv_at hl q h) (k p e s m args below meth c C H locs la hP hS hl)
theorem wa_aload {x : Nat} {i : Nat} (d : decode t.2.1 pc = .ok (.aload i, 2)) (q : Nat) (h : ls[q]? = some (i, .ref x)) (k : WA G t post (pc + 2) ls (.ref x :: st) M) : WA G t post pc ls st M :=
  fun p e s m args below meth c C H locs la hP hS hl => lv_aload C.1 C.2.1 d (lv_at hl q h) (k p e s m args below meth c C H locs la hP hS hl)
theorem wa_istore_n {x : Int32} {kk : Fin 4} {i : Nat} (ls' : List (Nat × Value)) (d : decode t.2.1 pc = .ok (.istore_n kk, 1)) (hi : (kk : Nat) = i) (hn : i < t.2.2.1) (h : (i, Value.int x) :: ls.filter (fun q => !(q.1 == i) && !(q.1 + 1 == i && q.2.category == 2)) = ls') (k : WA G t post (pc + 1) ls' st M) : WA G t post pc ls (.int x :: st) M :=
  fun p e s m args below meth c C H locs la hP hS hl => lv_istore_n C.1 C.2.1 d hi hl hn h (fun la hl => k p e s m args below meth c C H locs la hP hS hl)
theorem wa_istore {x : Int32} {i : Nat} (ls' : List (Nat × Value)) (d : decode t.2.1 pc = .ok (.istore i, 2)) (hn : i < t.2.2.1) (h : (i, Value.int x) :: ls.filter (fun q => !(q.1 == i) && !(q.1 + 1 == i && q.2.category == 2)) = ls') (k : WA G t post (pc + 2) ls' st M) : WA G t post pc ls (.int x :: st) M :=
  fun p e s m args below meth c C H locs la hP hS hl => lv_istore C.1 C.2.1 d hl hn h (fun la hl => k p e s m args below meth c C H locs la hP hS hl)
theorem wa_lstore_n {x : Int64} {kk : Fin 4} {i : Nat} (ls' : List (Nat × Value)) (d : decode t.2.1 pc = .ok (.lstore_n kk, 1)) (hi : (kk : Nat) = i) (hn : i + 1 < t.2.2.1) (h : (i, Value.long x) :: ls.filter (fun q => !(q.1 == i) && (!(q.1 == i + 1) && !(q.1 + 1 == i && q.2.category == 2))) = ls') (k : WA G t post (pc + 1) ls' st M) : WA G t post pc ls (.long x :: st) M :=
  fun p e s m args below meth c C H locs la hP hS hl => lv_lstore_n C.1 C.2.1 d hi hl hn h (fun la hl => k p e s m args below meth c C H locs la hP hS hl)
theorem wa_lstore {x : Int64} {i : Nat} (ls' : List (Nat × Value)) (d : decode t.2.1 pc = .ok (.lstore i, 2)) (hn : i + 1 < t.2.2.1) (h : (i, Value.long x) :: ls.filter (fun q => !(q.1 == i) && (!(q.1 == i + 1) && !(q.1 + 1 == i && q.2.category == 2))) = ls') (k : WA G t post (pc + 2) ls' st M) : WA G t post pc ls (.long x :: st) M :=
  fun p e s m args below meth c C H locs la hP hS hl => lv_lstore C.1 C.2.1 d hl hn h (fun la hl => k p e s m args below meth c C H locs la hP hS hl)
theorem wa_astore_n {x : Nat} {kk : Fin 4} {i : Nat} (ls' : List (Nat × Value)) (d : decode t.2.1 pc = .ok (.astore_n kk, 1)) (hi : (kk : Nat) = i) (hn : i < t.2.2.1) (h : (i, Value.ref x) :: ls.filter (fun q => !(q.1 == i) && !(q.1 + 1 == i && q.2.category == 2)) = ls') (k : WA G t post (pc + 1) ls' st M) : WA G t post pc ls (.ref x :: st) M :=
  fun p e s m args below meth c C H locs la hP hS hl => lv_astore_n C.1 C.2.1 d hi hl hn h (fun la hl => k p e s m args below meth c C H locs la hP hS hl)
theorem wa_astore {x : Nat} {i : Nat} (ls' : List (Nat × Value)) (d : decode t.2.1 pc = .ok (.astore i, 2)) (hn : i < t.2.2.1) (h : (i, Value.ref x) :: ls.filter (fun q => !(q.1 == i) && !(q.1 + 1 == i && q.2.category == 2)) = ls') (k : WA G t post (pc + 2) ls' st M) : WA G t post pc ls (.ref x :: st) M :=
  fun p e s m args below meth c C H locs la hP hS hl => lv_astore C.1 C.2.1 d hl hn h (fun la hl => k p e s m args below meth c C H locs la hP hS hl)
theorem wa_iinc {i : Nat} {n : Int} {x : Int32} (v : Int32) (ls' : List (Nat × Value)) (d : decode t.2.1 pc = .ok (.iinc i n, 3)) (q : Nat) (hq : ls[q]? = some (i, .int x)) (hv : x + Int32.ofInt n = v) (hn : i < t.2.2.1) (h : (i, Value.int v) :: ls.filter (fun q => !(q.1 == i) && !(q.1 + 1 == i && q.2.category == 2)) = ls') (k : WA G t post (pc + 3) ls' st M) : WA G t post pc ls st M :=
  fun p e s m args below meth c C H locs la hP hS hl => lv_iinc C.1 C.2.1 d hl hq hv hn h (fun la hl => k p e s m args below meth c C H locs la hP hS hl)
theorem wa_goto {off : Int} (tgt : Nat) (d : decode t.2.1 pc = .ok (.goto off, 3)) (ht : (pc : Int) + off = (tgt : Int)) (k : WA G t post tgt ls st M) : WA G t post pc ls st M :=
  fun p e s m args below meth c C H locs la hP hS hl => lv_goto C.1 C.2.1 d ht (k p e s m args below meth c C H locs la hP hS hl)
theorem wa_if_eq {x : Int32} {off : Int} (tgt : Nat) (d : decode t.2.1 pc = .ok (.ifCond .eq off, 3)) (ht : (pc : Int) + off = (tgt : Int)) (kt : x = 0 → WA G t post tgt ls st M) (kf : ¬ x = 0 → WA G t post (pc + 3) ls st M) : WA G t post pc ls (.int x :: st) M :=
  fun p e s m args below meth c C H locs la hP hS hl => lv_if_eq C.1 C.2.1 d ht (fun q => kt q p e s m args below meth c C H locs la hP hS hl) (fun q => kf q p e s m args below meth c C H locs la hP hS hl)
theorem wa_icmp_eq {x y : Int32} {off : Int} (tgt : Nat) (d : decode t.2.1 pc = .ok (.if_icmp .eq off, 3)) (ht : (pc : Int) + off = (tgt : Int)) (kt : x = y → WA G t post tgt ls st M) (kf : ¬ x = y → WA G t post (pc + 3) ls st M) : WA G t post pc ls (.int y :: .int x :: st) M :=
  fun p e s m args below meth c C H locs la hP hS hl => lv_icmp_eq C.1 C.2.1 d ht (fun q => kt q p e s m args below meth c C H locs la hP hS hl) (fun q => kf q p e s m args below meth c C H locs la hP hS hl)
theorem wa_if_ne {x : Int32} {off : Int} (tgt : Nat) (d : decode t.2.1 pc = .ok (.ifCond .ne off, 3)) (ht : (pc : Int) + off = (tgt : Int)) (kt : ¬ x = 0 → WA G t post tgt ls st M) (kf : x = 0 → WA G t post (pc + 3) ls st M) : WA G t post pc ls (.int x :: st) M :=
  fun p e s m args below meth c C H locs la hP hS hl => lv_if_ne C.1 C.2.1 d ht (fun q => kt q p e s m args below meth c C H locs la hP hS hl) (fun q => kf q p e s m args below meth c C H locs la hP hS hl)
theorem wa_icmp_ne {x y : Int32} {off : Int} (tgt : Nat) (d : decode t.2.1 pc = .ok (.if_icmp .ne off, 3)) (ht : (pc : Int) + off = (tgt : Int)) (kt : ¬ x = y → WA G t post tgt ls st M) (kf : x = y → WA G t post (pc + 3) ls st M) : WA G t post pc ls (.int y :: .int x :: st) M :=
  fun p e s m args below meth c C H locs la hP hS hl => lv_icmp_ne C.1 C.2.1 d ht (fun q => kt q p e s m args below meth c C H locs la hP hS hl) (fun q => kf q p e s m args below meth c C H locs la hP hS hl)
theorem wa_if_lt {x : Int32} {off : Int} (tgt : Nat) (d : decode t.2.1 pc = .ok (.ifCond .lt off, 3)) (ht : (pc : Int) + off = (tgt : Int)) (kt : x < 0 → WA G t post tgt ls st M) (kf : ¬ x < 0 → WA G t post (pc + 3) ls st M) : WA G t post pc ls (.int x :: st) M :=
  fun p e s m args below meth c C H locs la hP hS hl => lv_if_lt C.1 C.2.1 d ht (fun q => kt q p e s m args below meth c C H locs la hP hS hl) (fun q => kf q p e s m args below meth c C H locs la hP hS hl)
theorem wa_icmp_lt {x y : Int32} {off : Int} (tgt : Nat) (d : decode t.2.1 pc = .ok (.if_icmp .lt off, 3)) (ht : (pc : Int) + off = (tgt : Int)) (kt : x < y → WA G t post tgt ls st M) (kf : ¬ x < y → WA G t post (pc + 3) ls st M) : WA G t post pc ls (.int y :: .int x :: st) M :=
  fun p e s m args below meth c C H locs la hP hS hl => lv_icmp_lt C.1 C.2.1 d ht (fun q => kt q p e s m args below meth c C H locs la hP hS hl) (fun q => kf q p e s m args below meth c C H locs la hP hS hl)
theorem wa_if_ge {x : Int32} {off : Int} (tgt : Nat) (d : decode t.2.1 pc = .ok (.ifCond .ge off, 3)) (ht : (pc : Int) + off = (tgt : Int)) (kt : 0 ≤ x → WA G t post tgt ls st M) (kf : ¬ 0 ≤ x → WA G t post (pc + 3) ls st M) : WA G t post pc ls (.int x :: st) M :=
  fun p e s m args below meth c C H locs la hP hS hl => lv_if_ge C.1 C.2.1 d ht (fun q => kt q p e s m args below meth c C H locs la hP hS hl) (fun q => kf q p e s m args below meth c C H locs la hP hS hl)
theorem wa_icmp_ge {x y : Int32} {off : Int} (tgt : Nat) (d : decode t.2.1 pc = .ok (.if_icmp .ge off, 3)) (ht : (pc : Int) + off = (tgt : Int)) (kt : y ≤ x → WA G t post tgt ls st M) (kf : ¬ y ≤ x → WA G t post (pc + 3) ls st M) : WA G t post pc ls (.int y :: .int x :: st) M :=
  fun p e s m args below meth c C H locs la hP hS hl => lv_icmp_ge C.1 C.2.1 d ht (fun q => kt q p e s m args below meth c C H locs la hP hS hl) (fun q => kf q p e s m args below meth c C H locs la hP hS hl)
theorem wa_if_gt {x : Int32} {off : Int} (tgt : Nat) (d : decode t.2.1 pc = .ok (.ifCond .gt off, 3)) (ht : (pc : Int) + off = (tgt : Int)) (kt : 0 < x → WA G t post tgt ls st M) (kf : ¬ 0 < x → WA G t post (pc + 3) ls st M) : WA G t post pc ls (.int x :: st) M :=
  fun p e s m args below meth c C H locs la hP hS hl => lv_if_gt C.1 C.2.1 d ht (fun q => kt q p e s m args below meth c C H locs la hP hS hl) (fun q => kf q p e s m args below meth c C H locs la hP hS hl)
theorem wa_icmp_gt {x y : Int32} {off : Int} (tgt : Nat) (d : decode t.2.1 pc = .ok (.if_icmp .gt off, 3)) (ht : (pc : Int) + off = (tgt : Int)) (kt : y < x → WA G t post tgt ls st M) (kf : ¬ y < x → WA G t post (pc + 3) ls st M) : WA G t post pc ls (.int y :: .int x :: st) M :=
  fun p e s m args below meth c C H locs la hP hS hl => lv_icmp_gt C.1 C.2.1 d ht (fun q => kt q p e s m args below meth c C H locs la hP hS hl) (fun q => kf q p e s m args below meth c C H locs la hP hS hl)
theorem wa_if_le {x : Int32} {off : Int} (tgt : Nat) (d : decode t.2.1 pc = .ok (.ifCond .le off, 3)) (ht : (pc : Int) + off = (tgt : Int)) (kt : x ≤ 0 → WA G t post tgt ls st M) (kf : ¬ x ≤ 0 → WA G t post (pc + 3) ls st M) : WA G t post pc ls (.int x :: st) M :=
  fun p e s m args below meth c C H locs la hP hS hl => lv_if_le C.1 C.2.1 d ht (fun q => kt q p e s m args below meth c C H locs la hP hS hl) (fun q => kf q p e s m args below meth c C H locs la hP hS hl)
theorem wa_icmp_le {x y : Int32} {off : Int} (tgt : Nat) (d : decode t.2.1 pc = .ok (.if_icmp .le off, 3)) (ht : (pc : Int) + off = (tgt : Int)) (kt : x ≤ y → WA G t post tgt ls st M) (kf : ¬ x ≤ y → WA G t post (pc + 3) ls st M) : WA G t post pc ls (.int y :: .int x :: st) M :=
  fun p e s m args below meth c C H locs la hP hS hl => lv_icmp_le C.1 C.2.1 d ht (fun q => kt q p e s m args below meth c C H locs la hP hS hl) (fun q => kf q p e s m args below meth c C H locs la hP hS hl)
end WMR
end
section
theorem wm_cls {ci : Nat} {C : String} {T : u_T} {N : Nat} (h : classes[ci]? = some (C, T, N)) : (∀ w ∈ u_ws C T N, w ∈ lw_gd) ∧ (∀ a, a < N → ∀ b, b < N → a ≠ b → (T a).2.1 ≠ (T b).2.1) ∧ ∃ ty0 : Nat → FieldType, ∀ k, k < N → parseFieldDescriptor (T k).2.2.1 = some (ty0 k) := by
  match ci, h with
  | 0, h => cases h; exact ⟨iX0, nmX0, tyX0, tyX0_ok⟩
  | 1, h => cases h; exact ⟨iX1, nmX1, tyX1, tyX1_ok⟩
  | 2, h => cases h; exact ⟨iX2, nmX2, tyX2, tyX2_ok⟩
  | 3, h => cases h; exact ⟨iX3, nmX3, tyX3, tyX3_ok⟩
  | 4, h => cases h; exact ⟨iX4, nmX4, tyX4, tyX4_ok⟩
  | 5, h => cases h; exact ⟨iX5, nmX5, tyX5, tyX5_ok⟩
  | 6, h => cases h; exact ⟨iX6, nmX6, tyX6, tyX6_ok⟩
  | 7, h => cases h; exact ⟨iX7, nmX7, tyX7, tyX7_ok⟩
  | 8, h => cases h; exact ⟨iX8, nmX8, tyX8, tyX8_ok⟩
  | 9, h => cases h; exact ⟨iX9, nmX9, tyX9, tyX9_ok⟩
  | 10, h => cases h; exact ⟨iX10, nmX10, tyX10, tyX10_ok⟩
  | k + 11, h => simp [classes] at h
/-- a getfield at pc of method t that asks field j of an object of class ci -/
def wm_gf (t : wm_T) (pc ci j : Nat) : Prop := ∃ (C : String) (T : u_T) (N index : Nat), classes[ci]? = some (C, T, N) ∧ j < N ∧ Cond.fieldLink t.1.cls index (T j).1 (T j).2.1 (T j).2.2.1 ∈ lw_gd ∧ decode t.2.1 pc = .ok (.getfield index, 3)
def wm_pf (t : wm_T) (pc ci j : Nat) (ty : FieldType) : Prop := ∃ (C : String) (T : u_T) (N index : Nat), classes[ci]? = some (C, T, N) ∧ j < N ∧ Cond.fieldLink t.1.cls index (T j).1 (T j).2.1 (T j).2.2.1 ∈ lw_gd ∧ decode t.2.1 pc = .ok (.putfield index, 3) ∧ (T j).2.2.2 = false ∧ parseFieldDescriptor (T j).2.2.1 = some ty
section WMH
variable {G : wm_G} {t : wm_T} {post : Option Value → wm_M → Prop} {pc : Nat} {ls : List (Nat × Value)} {st : List Value} {M : wm_M}
theorem wa_getv {k ci j : Nat} {fts : List (Nat × Nat)} {ft : Nat × Nat} (hi : wm_gf t pc ci j) (hs : wm_sh k = .inl (ci, fts)) (hf : fts[j]? = some ft) (kk : WA G t post (pc + 3) ls (wm_fv G M k j ft :: st) M) : WA G t post pc ls (wm_r G k :: st) M := by
  obtain ⟨C, T, N, index, hc, hj, hlink, hd⟩ := hi
  intro p e s m args below meth c Cx H locs la hP hS hl
  have hw := (wm_cls hc).1
  have hts := Cx.2.2.2.2.2.1
  exact va_get (D := G.2.1) (cl := classes) (tys := wm_tys G) (ws := wm_ws G M) (ci := ci) (fs := wm_fs G M k 0 fts) Cx.1 Cx.2.1 hts hw Cx.2.2.2.2.1 Cx.2.2.2.2.2.2.2.1 hP k (by rw [wm_at (wm_ltO hs hf), wm_obj hs]) hc j hj (hts _ hlink) (fun _ h9 => h9) (v := wm_fv G M k j ft) (by rw [wm_fs_get, hf, Nat.zero_add]; rfl) hd (kk p e s m args below meth c Cx H locs la hP hS hl)
theorem wa_geti {k ci j z : Nat} {fts : List (Nat × Nat)} (hi : wm_gf t pc ci j) (hs : wm_sh k = .inl (ci, fts)) (hf : fts[j]? = some (0, z)) (kk : WA G t post (pc + 3) ls (.int (M.1 k j) :: st) M) : WA G t post pc ls (wm_r G k :: st) M := wa_getv hi hs hf kk
theorem wa_getl {k ci j z : Nat} {fts : List (Nat × Nat)} (hi : wm_gf t pc ci j) (hs : wm_sh k = .inl (ci, fts)) (hf : fts[j]? = some (1, z)) (kk : WA G t post (pc + 3) ls (.long (M.2.1 k j) :: st) M) : WA G t post pc ls (wm_r G k :: st) M := wa_getv hi hs hf kk
theorem wa_getr {k ci j k2 : Nat} {fts : List (Nat × Nat)} (hi : wm_gf t pc ci j) (hs : wm_sh k = .inl (ci, fts)) (hf : fts[j]? = some (2, k2)) (kk : WA G t post (pc + 3) ls (wm_r G k2 :: st) M) : WA G t post pc ls (wm_r G k :: st) M := wa_getv hi hs hf kk
theorem wa_getd {k ci j d : Nat} {fts : List (Nat × Nat)} (hi : wm_gf t pc ci j) (hs : wm_sh k = .inl (ci, fts)) (hf : fts[j]? = some (3, d)) (kk : WA G t post (pc + 3) ls (wm_r G (wm_dt d (M.2.2 d)) :: st) M) : WA G t post pc ls (wm_r G k :: st) M := wa_getv hi hs hf kk
theorem wa_putv {k ci j : Nat} {fts : List (Nat × Nat)} {ft : Nat × Nat} {ty : FieldType} {v : Value} {M' : wm_M} (hi : wm_pf t pc ci j ty) (hs : wm_sh k = .inl (ci, fts)) (hf : fts[j]? = some ft) (hn : narrow ty v = v) (hfit : fits ty v = true) (hv : wm_fv G M' k j ft = v) (ho : ∀ (i' : Nat) (t' : Nat × Nat), i' ≠ j → fts[i']? = some t' → wm_fv G M' k i' t' = wm_fv G M k i' t') (hc' : ∀ k', k' ≠ k → wm_cell G M' k' = wm_cell G M k') (kk : WA G t post (pc + 3) ls st M') : WA G t post pc ls (v :: wm_r G k :: st) M := by
  obtain ⟨C, T, N, index, hc, hj, hlink, hd, hfin, hty⟩ := hi
  intro p e s m args below meth c Cx H locs la hP hS hl
  obtain ⟨hw, hnm, ty0, hty0⟩ := wm_cls hc
  have hts := Cx.2.2.2.2.2.1
  have hF := Cx.2.2.2.2.2.2.2
  have hlt := wm_ltO hs hf
  refine va_put (D := G.2.1) (cl := classes) (tys := wm_tys G) (ws := wm_ws G M) (ci := ci) (fs := wm_fs G M k 0 fts) Cx.1 Cx.2.1 hts hw ty0 hty0 hnm Cx.2.2.2.2.1 hF.1 hP (wm_D hF M) hS k (by rw [wm_at hlt, wm_obj hs]) hc j hj (hts _ hlink) (fun _ h9 => h9) hfin hty hn hfit (by rw [wm_fs_len]; exact (List.getElem?_eq_some_iff.mp hf).1) hd (fun H1 locs1 hP1 hD1 hS1 => ?_)
  refine kk p e s m args below meth c Cx H1 locs1 la ?_ hS1 hl
  rw [← wm_set hlt (e := .inr (ci, (wm_fs G M k 0 fts).set j v)) (by rw [wm_obj hs, wm_fs_set hf hv ho]) hc']
  exact hP1
theorem wm_fv_Ij {k j j' : Nat} {x : Int32} {t' : Nat × Nat} (h : j' ≠ j) : wm_fv G (wI M k j x) k j' t' = wm_fv G M k j' t' := by
  unfold wm_fv wI; split <;> simp [wIa_s, wIa_2, upd, h]
theorem wm_fv_Jj {k j j' : Nat} {x : Int64} {t' : Nat × Nat} (h : j' ≠ j) : wm_fv G (wJ M k j x) k j' t' = wm_fv G M k j' t' := by
  unfold wm_fv wJ; split <;> simp [wJa_s, wJa_1, wJa_22, vp_updL, h]
theorem wa_puti {k ci j z : Nat} {fts : List (Nat × Nat)} {x : Int32} (hi : wm_pf t pc ci j .int) (hs : wm_sh k = .inl (ci, fts)) (hf : fts[j]? = some (0, z)) (kk : WA G t post (pc + 3) ls st (wI M k j x)) : WA G t post pc ls (.int x :: wm_r G k :: st) M :=
  wa_putv hi hs hf rfl rfl (by show Value.int ((wI M k j x).1 k j) = _; simp [wI, wIa_s, upd]) (fun i' t' h _ => wm_fv_Ij h) (fun k' h => wm_cell_I h) kk
theorem wa_putl {k ci j z : Nat} {fts : List (Nat × Nat)} {x : Int64} (hi : wm_pf t pc ci j .long) (hs : wm_sh k = .inl (ci, fts)) (hf : fts[j]? = some (1, z)) (kk : WA G t post (pc + 3) ls st (wJ M k j x)) : WA G t post pc ls (.long x :: wm_r G k :: st) M :=
  wa_putv hi hs hf rfl rfl (by show Value.long ((wJ M k j x).2.1 k j) = _; simp [wJ, wJa_s, vp_updL]) (fun i' t' h _ => wm_fv_Jj h) (fun k' h => wm_cell_J h) kk
theorem wm_fv_D {k j d : Nat} {b : Bool} {t' : Nat × Nat} (h : ¬ (t'.1 ≥ 3 ∧ t'.2 = d)) : wm_fv G (wD M d b) k j t' = wm_fv G M k j t' := by
  obtain ⟨a, q⟩ := t'
  unfold wm_fv wD
  match a with
  | 0 => rfl
  | 1 => rfl
  | 2 => rfl
  | a + 3 =>
    have : ¬ q = d := fun e => h ⟨Nat.le_add_left 3 a, e⟩
    simp [this]
theorem wm_t3 {k ci i : Nat} {fts : List (Nat × Nat)} {t' : Nat × Nat} (hs : wm_sh k = .inl (ci, fts)) (ht : fts[i]? = some t') (h : t'.1 ≥ 3) : t'.1 = 3 := by
  have h1 := wm_len_all k (wm_ltO hs ht)
  rw [hs] at h1
  simp only [Bool.and_eq_true, List.all_eq_true, decide_eq_true_eq] at h1
  have := h1.2 t' (List.mem_of_getElem? ht)
  omega
theorem wm_dl_inj {d d' : Nat} (h : d < 4) (h' : d' < 4) (e : wm_dl d = wm_dl d') : d = d' := by
  have : ∀ a, a < 4 → ∀ b, b < 4 → wm_dl a = wm_dl b → a = b := by decide +kernel
  exact this d h d' h' e
theorem wa_putd {k ci j d : Nat} {fts : List (Nat × Nat)} {ty : FieldType} (b : Bool) {k2 : Nat} (hi : wm_pf t pc ci j ty) (hs : wm_sh k = .inl (ci, fts)) (hf : fts[j]? = some (3, d)) (hk : k2 = wm_dt d b) (hty : ∃ q, ty = .array q) (kk : WA G t post (pc + 3) ls st (wD M d b)) : WA G t post pc ls (wm_r G k2 :: wm_r G k :: st) M := by
  subst hk
  obtain ⟨q, rfl⟩ := hty
  have h0 := wm_dyn hs hf
  refine wa_putv hi hs hf rfl rfl (by simp [wm_fv, wD]) (fun i' t' h ht' => ?_) (fun k' h => ?_) kk
  · refine wm_fv_D (fun hh => ?_)
    have h3 := wm_t3 hs ht' hh.1
    have h1 := wm_dyn hs (d := t'.2) (by rw [ht', ← h3])
    have := h1.2.trans (by rw [hh.2, ← h0.2] : wm_dl t'.2 = (k, j))
    cases this; exact h rfl
  · unfold wm_cell
    cases hq : wm_sh k' with
    | inr a => simp only; unfold wm_ar; split <;> rfl
    | inl o =>
      obtain ⟨ci', fts'⟩ := o
      simp only
      refine congrArg (fun z => (Sum.inr (ci', z) : va_E)) ?_
      apply List.ext_getElem?
      intro i
      rw [wm_fs_get, wm_fs_get]
      cases ht : fts'[i]? with
      | none => rfl
      | some t' =>
        simp only [Option.map_some]
        refine congrArg some (wm_fv_D (fun hh => ?_))
        have h3 := wm_t3 hq ht hh.1
        have h1 := wm_dyn hq (d := t'.2) (j := i) (by rw [ht, ← h3])
        have := h1.2.trans (by rw [hh.2, ← h0.2] : wm_dl t'.2 = (k, j))
        cases this; exact h rfl

theorem wa_iald {k n : Nat} {i : Int32} (d : decode t.2.1 pc = .ok (.iaload, 1)) (hs : wm_sh k = .inr (0, n, 0, 0)) (hin : vp_in i n) (kk : WA G t post (pc + 1) ls (.int (M.1 k i.toNatClampNeg) :: st) M) : WA G t post pc ls (.int i :: wm_r G k :: st) M := by
  intro p e s m args below meth c Cx H locs la hP hS hl
  exact va_iald (D := G.2.1) (cl := classes) (tys := wm_tys G) (ws := wm_ws G M) Cx.1 Cx.2.1 Cx.2.2.2.2.2.2.2.1 hP k 0 (by rw [wm_at (wm_ltA hs), wm_arr hs]; rfl) rfl hin d (kk p e s m args below meth c Cx H locs la hP hS hl)
theorem wa_bald {k n : Nat} {i : Int32} (d : decode t.2.1 pc = .ok (.baload, 1)) (hs : wm_sh k = .inr (2, n, 0, 0)) (hin : vp_in i n) (kk : WA G t post (pc + 1) ls (.int (M.1 k i.toNatClampNeg) :: st) M) : WA G t post pc ls (.int i :: wm_r G k :: st) M := by
  intro p e s m args below meth c Cx H locs la hP hS hl
  exact va_bald (D := G.2.1) (cl := classes) (tys := wm_tys G) (ws := wm_ws G M) Cx.1 Cx.2.1 Cx.2.2.2.2.2.2.2.1 hP k 2 (by rw [wm_at (wm_ltA hs), wm_arr hs]; rfl) rfl hin d (kk p e s m args below meth c Cx H locs la hP hS hl)
theorem wa_zald {k n : Nat} {i : Int32} (d : decode t.2.1 pc = .ok (.baload, 1)) (hs : wm_sh k = .inr (3, n, 0, 0)) (hin : vp_in i n) (kk : WA G t post (pc + 1) ls (.int (M.1 k i.toNatClampNeg) :: st) M) : WA G t post pc ls (.int i :: wm_r G k :: st) M := by
  intro p e s m args below meth c Cx H locs la hP hS hl
  exact va_zald (D := G.2.1) (cl := classes) (tys := wm_tys G) (ws := wm_ws G M) Cx.1 Cx.2.1 Cx.2.2.2.2.2.2.2.1 hP k 3 (by rw [wm_at (wm_ltA hs), wm_arr hs]; rfl) rfl hin d (kk p e s m args below meth c Cx H locs la hP hS hl)
theorem wa_lald {k n : Nat} {i : Int32} (d : decode t.2.1 pc = .ok (.laload, 1)) (hs : wm_sh k = .inr (1, n, 0, 0)) (hin : vp_in i n) (kk : WA G t post (pc + 1) ls (.long (M.2.1 k i.toNatClampNeg) :: st) M) : WA G t post pc ls (.int i :: wm_r G k :: st) M := by
  intro p e s m args below meth c Cx H locs la hP hS hl
  exact va_lald (D := G.2.1) (cl := classes) (tys := wm_tys G) (ws := wm_ws G M) Cx.1 Cx.2.1 Cx.2.2.2.2.2.2.2.1 hP k 1 (by rw [wm_at (wm_ltA hs), wm_arr hs]; rfl) rfl hin d (kk p e s m args below meth c Cx H locs la hP hS hl)
theorem wa_aald {k n b z kd : Nat} {i : Int32} (hkd : kd = 4 ∨ kd = 5) (d : decode t.2.1 pc = .ok (.aaload, 1)) (hs : wm_sh k = .inr (kd, n, b, z)) (hin : vp_in i n) (kk : WA G t post (pc + 1) ls (wm_r G (b + z * i.toNatClampNeg) :: st) M) : WA G t post pc ls (.int i :: wm_r G k :: st) M := by
  intro p e s m args below meth c Cx H locs la hP hS hl
  have hlt : i.toNatClampNeg < n := Nat.not_le.mp fun q => hin (Or.inr q)
  have hK := Cx.2.2.2.2.2.2.2.1
  have kk' := kk p e s m args below meth c Cx H locs la hP hS hl
  have hc : wm_cell G M k = .inl (G.2.2.2.1 kd, n, .inr (.inr (.inr (.inr (fun j => if j < n then some (wm_a G (b + z * j)) else none))))) := by
    rw [wm_arr hs]; rcases hkd with rfl | rfl <;> rfl
  have hat : H[wm_a G k]? = some (arrV (G.2.2.2.1 kd) n (fun j => va_rf (if j < n then some (wm_a G (b + z * j)) else none))) := by
    have h1 := hP k _ (wm_at (wm_ltA hs))
    rw [hc] at h1
    exact h1
  rcases hkd with rfl | rfl
  · exact W.aald (v := wm_r G (b + z * i.toNatClampNeg)) (ty := .array .int) Cx.1 Cx.2.1 hat ((hK.2 4 _ rfl).1 n _) rfl (fun q => by cases q) (by show ¬ (i < 0 ∨ (arrV _ _ _).slots.size ≤ _); rw [arrV_size]; exact hin) (by show (arrV _ _ _).slots[_]? = _; rw [arrV_read _ _ hlt]; simp [hlt, va_rf, wm_r]) rfl rfl d kk'
  · exact W.aald (v := wm_r G (b + z * i.toNatClampNeg)) (ty := .object "TurnedStones$StateSet") Cx.1 Cx.2.1 hat ((hK.2 5 _ rfl).1 n _) rfl (fun q => by cases q) (by show ¬ (i < 0 ∨ (arrV _ _ _).slots.size ≤ _); rw [arrV_size]; exact hin) (by show (arrV _ _ _).slots[_]? = _; rw [arrV_read _ _ hlt]; simp [hlt, va_rf, wm_r]) rfl rfl d kk'
theorem wa_iast {k n : Nat} {i : Int32} {x : Int32} (d : decode t.2.1 pc = .ok (.iastore, 1)) (hs : wm_sh k = .inr (0, n, 0, 0)) (hin : vp_in i n) (kk : WA G t post (pc + 1) ls st (wI M k i.toNatClampNeg x)) : WA G t post pc ls (.int x :: .int i :: wm_r G k :: st) M := by
  intro p e s m args below meth c Cx H locs la hP hS hl
  have hF := Cx.2.2.2.2.2.2.2
  refine va_iast (D := G.2.1) (cl := classes) (tys := wm_tys G) (ws := wm_ws G M) Cx.1 Cx.2.1 hF.1 hP (wm_D hF M) hS k 0 (by rw [wm_at (wm_ltA hs), wm_arr hs]; rfl) rfl hin d (fun H1 locs1 hP1 hD1 hS1 => ?_)
  refine kk p e s m args below meth c Cx H1 locs1 la ?_ hS1 hl
  rw [← wm_set (wm_ltA hs) (M := M) (M' := wI M k i.toNatClampNeg x) (e := _) rfl (fun k' h => wm_cell_I h), wm_arr hs]
  simpa [wm_ar, wI, wJ, wIa_s, wJa_s] using hP1
theorem wa_bast {k n : Nat} {i : Int32} {x : Int32} (d : decode t.2.1 pc = .ok (.bastore, 1)) (hs : wm_sh k = .inr (2, n, 0, 0)) (hin : vp_in i n) (kk : WA G t post (pc + 1) ls st (wI M k i.toNatClampNeg (vp_nar .byte x))) : WA G t post pc ls (.int x :: .int i :: wm_r G k :: st) M := by
  intro p e s m args below meth c Cx H locs la hP hS hl
  have hF := Cx.2.2.2.2.2.2.2
  refine va_bast (D := G.2.1) (cl := classes) (tys := wm_tys G) (ws := wm_ws G M) Cx.1 Cx.2.1 hF.1 hP (wm_D hF M) hS k 2 (by rw [wm_at (wm_ltA hs), wm_arr hs]; rfl) rfl hin d (fun H1 locs1 hP1 hD1 hS1 => ?_)
  refine kk p e s m args below meth c Cx H1 locs1 la ?_ hS1 hl
  rw [← wm_set (wm_ltA hs) (M := M) (M' := wI M k i.toNatClampNeg (vp_nar .byte x)) (e := _) rfl (fun k' h => wm_cell_I h), wm_arr hs]
  simpa [wm_ar, wI, wJ, wIa_s, wJa_s] using hP1
theorem wa_zast {k n : Nat} {i : Int32} {x : Int32} (d : decode t.2.1 pc = .ok (.bastore, 1)) (hs : wm_sh k = .inr (3, n, 0, 0)) (hin : vp_in i n) (kk : WA G t post (pc + 1) ls st (wI M k i.toNatClampNeg (vp_nar .boolean x))) : WA G t post pc ls (.int x :: .int i :: wm_r G k :: st) M := by
  intro p e s m args below meth c Cx H locs la hP hS hl
  have hF := Cx.2.2.2.2.2.2.2
  refine va_zast (D := G.2.1) (cl := classes) (tys := wm_tys G) (ws := wm_ws G M) Cx.1 Cx.2.1 hF.1 hP (wm_D hF M) hS k 3 (by rw [wm_at (wm_ltA hs), wm_arr hs]; rfl) rfl hin d (fun H1 locs1 hP1 hD1 hS1 => ?_)
  refine kk p e s m args below meth c Cx H1 locs1 la ?_ hS1 hl
  rw [← wm_set (wm_ltA hs) (M := M) (M' := wI M k i.toNatClampNeg (vp_nar .boolean x)) (e := _) rfl (fun k' h => wm_cell_I h), wm_arr hs]
  simpa [wm_ar, wI, wJ, wIa_s, wJa_s] using hP1
theorem wa_last {k n : Nat} {i : Int32} {x : Int64} (d : decode t.2.1 pc = .ok (.lastore, 1)) (hs : wm_sh k = .inr (1, n, 0, 0)) (hin : vp_in i n) (kk : WA G t post (pc + 1) ls st (wJ M k i.toNatClampNeg x)) : WA G t post pc ls (.long x :: .int i :: wm_r G k :: st) M := by
  intro p e s m args below meth c Cx H locs la hP hS hl
  have hF := Cx.2.2.2.2.2.2.2
  refine va_last (D := G.2.1) (cl := classes) (tys := wm_tys G) (ws := wm_ws G M) Cx.1 Cx.2.1 hF.1 hP (wm_D hF M) hS k 1 (by rw [wm_at (wm_ltA hs), wm_arr hs]; rfl) rfl hin d (fun H1 locs1 hP1 hD1 hS1 => ?_)
  refine kk p e s m args below meth c Cx H1 locs1 la ?_ hS1 hl
  rw [← wm_set (wm_ltA hs) (M := M) (M' := wJ M k i.toNatClampNeg x) (e := _) rfl (fun k' h => wm_cell_J h), wm_arr hs]
  simpa [wm_ar, wI, wJ, wIa_s, wJa_s] using hP1
theorem wa_alen {k kd n b z : Nat} (v : Int32) (d : decode t.2.1 pc = .ok (.arraylength, 1)) (hs : wm_sh k = .inr (kd, n, b, z)) (hkd : kd < 6) (hv : Int32.ofNat n = v) (kk : WA G t post (pc + 1) ls (.int v :: st) M) : WA G t post pc ls (wm_r G k :: st) M := by
  intro p e s m args below meth c Cx H locs la hP hS hl
  have kk' := kk p e s m args below meth c Cx H locs la hP hS hl
  have hK := Cx.2.2.2.2.2.2.2.1
  have ht : ∃ ty, (wm_tys G)[kd]? = some (G.2.2.2.1 kd, ty) := by
    match kd, hkd with
    | 0, _ => exact ⟨_, rfl⟩
    | 1, _ => exact ⟨_, rfl⟩
    | 2, _ => exact ⟨_, rfl⟩
    | 3, _ => exact ⟨_, rfl⟩
    | 4, _ => exact ⟨_, rfl⟩
    | 5, _ => exact ⟨_, rfl⟩
  obtain ⟨ty, ht⟩ := ht
  exact va_alen (D := G.2.1) (cl := classes) (tys := wm_tys G) (ws := wm_ws G M) (x := wm_ar G M k (kd, n, b, z)) Cx.1 Cx.2.1 hK hP k kd (by rw [wm_at (wm_ltA hs), wm_arr hs]) ht hv d kk'
/-- the static array -/
def wm_gs (t : wm_T) (pc : Nat) : Prop := ∃ index, Cond.fieldLink t.1.cls index RX3 "FIRST" "[J" ∈ lw_gd ∧ decode t.2.1 pc = .ok (.getstatic index, 3)
theorem wa_gets (hi : wm_gs t pc) (kk : WA G t post (pc + 3) ls (.ref G.2.2.2.2.2 :: st) M) : WA G t post pc ls st M := by
  obtain ⟨index, hlink, hd⟩ := hi
  intro p e s m args below meth c Cx H locs la hP hS hl
  have hF := Cx.2.2.2.2.2.2.2
  exact va_gets (C := RX3) (ref := RX3) Cx.1 Cx.2.1 hF.2.1 hS Cx.2.2.2.2.1 (Cx.2.2.2.2.2.1 _ hlink) (fun _ h => h) hd (kk p e s m args below meth c Cx H locs la hP hS hl)
theorem wa_firstld {i : Int32} (d : decode t.2.1 pc = .ok (.laload, 1)) (hin : vp_in i 3) (kk : WA G t post (pc + 1) ls (.long (wm_first i.toNatClampNeg) :: st) M) : WA G t post pc ls (.int i :: .ref G.2.2.2.2.2 :: st) M := by
  intro p e s m args below meth c Cx H locs la hP hS hl
  obtain ⟨cell, h1, h2, h3, h4, -, h6, h7⟩ := Cx.2.2.2.2.2.2.2.2.2.1
  have hlt : i.toNatClampNeg < 3 := Nat.not_le.mp fun q => hin (Or.inr q)
  exact W.lald (v := .long (wm_first i.toNatClampNeg)) Cx.1 Cx.2.1 (by rw [hS.2.1 _ (Array.getElem?_eq_some_iff.mp h1).1 h7]; exact h1) h2 h3 (fun q => hin (q.elim Or.inl (fun z => Or.inr (Nat.le_trans h4 z)))) (h6 _ hlt) rfl rfl d (kk p e s m args below meth c Cx H locs la hP hS hl)

theorem wa_ldc2 {index : Nat} (v : Int64) (d : decode t.2.1 pc = .ok (.ldc2_w index, 3)) (hc : Cond.constantLong t.1.cls index v ∈ lw_gd) (kk : WA G t post (pc + 3) ls (.long v :: st) M) : WA G t post pc ls st M :=
  fun p e s m args below meth c C H locs la hP hS hl => lv_ldc2 C.1 C.2.1 C.2.2.2.2.1 (C.2.2.2.2.2.1 _ hc) d (kk p e s m args below meth c C H locs la hP hS hl)
theorem wa_ldcw {index : Nat} (v : Int32) (d : decode t.2.1 pc = .ok (.ldc_w index, 3)) (hc : Cond.constant t.1.cls index v ∈ lw_gd) (kk : WA G t post (pc + 3) ls (.int v :: st) M) : WA G t post pc ls st M :=
  fun p e s m args below meth c C H locs la hP hS hl => lv_ldcw C.1 C.2.1 C.2.2.2.2.1 (C.2.2.2.2.2.1 _ hc) d (kk p e s m args below meth c C H locs la hP hS hl)
theorem wa_lookup {dflt : Int} {ps : Array (Int × Int)} {len : Nat} {x : Int32} {off : Int} (tgt : Nat) (d : decode t.2.1 pc = .ok (.lookupswitch dflt ps, len)) (hp : (ps.toList.zip (ps.toList.drop 1)).all (fun (a, next) => a.1 < next.1) = true) (ho : Op.lookupswitch.offset ps.toList dflt x.toInt = off) (ht : (pc : Int) + off = (tgt : Int)) (kk : WA G t post tgt ls st M) : WA G t post pc ls (.int x :: st) M :=
  fun p e s m args below meth c C H locs la hP hS hl => lv_lookup C.1 C.2.1 d hp ho ht (kk p e s m args below meth c C H locs la hP hS hl)
theorem wa_tableOut {dflt lo hi : Int} {offs : Array Int} {len : Nat} {x : Int32} (tgt : Nat) (d : decode t.2.1 pc = .ok (.tableswitch dflt lo hi offs, len)) (h : x.toInt < lo ∨ hi < x.toInt) (ht : (pc : Int) + dflt = (tgt : Int)) (kk : WA G t post tgt ls st M) : WA G t post pc ls (.int x :: st) M :=
  fun p e s m args below meth c C H locs la hP hS hl => lv_tableOut C.1 C.2.1 d h ht (kk p e s m args below meth c C H locs la hP hS hl)
theorem wa_tableIn {dflt lo hi : Int} {offs : Array Int} {len : Nat} {x : Int32} {off : Int} (tgt : Nat) (d : decode t.2.1 pc = .ok (.tableswitch dflt lo hi offs, len)) (h1 : ¬ x.toInt < lo) (h2 : ¬ hi < x.toInt) (ho : offs[(x.toInt - lo).toNat]? = some off) (ht : (pc : Int) + off = (tgt : Int)) (kk : WA G t post tgt ls st M) : WA G t post pc ls (.int x :: st) M :=
  fun p e s m args below meth c C H locs la hP hS hl => lv_tableIn C.1 C.2.1 d h1 h2 ho ht (kk p e s m args below meth c C H locs la hP hS hl)
/-! ends -/
theorem wm_end {p : Program} {s : State} {m : MethodId} {args : Array Value} {meth : Method} {c : Code} {H : Heap} {locs : List Loc} {v : Option Value} (hP : va_P G.2.1 classes (wm_ws G M) H) (hS : va_S G.2.2.2.2.1 s.heap H locs) (hq : post v M) : ∀ tt : State, tt.heap = H → s.WarmedH tt.vm → wm_Q G post args s (.returned v) tt :=
  fun tt ht hW => ⟨⟨v, M, rfl, hq, by rw [ht]; exact hP⟩, hS.F ht⟩
theorem wa_iret {v : Int32} (d : decode t.2.1 pc = .ok (.ireturn, 1)) (hr : t.2.2.2.1 = some .int) (hq : post (some (.int v)) M) : WA G t post pc ls [.int v] M :=
  fun p e s m args below meth c C H locs la hP hS hl => W.iret C.1 C.2.1 (C.2.2.1.trans hr) (wm_end (p := p) (m := m) (meth := meth) (c := c) hP hS hq) hS.2.2 d C.2.2.2.2.2.2.1
theorem wa_zret {v : Int32} (d : decode t.2.1 pc = .ok (.ireturn, 1)) (hr : t.2.2.2.1 = some .boolean) (hn : narrow .boolean (.int v) = .int v) (hq : post (some (.int v)) M) : WA G t post pc ls [.int v] M :=
  fun p e s m args below meth c C H locs la hP hS hl => W.zret C.1 C.2.1 (C.2.2.1.trans hr) hn (wm_end (p := p) (m := m) (meth := meth) (c := c) hP hS hq) hS.2.2 d C.2.2.2.2.2.2.1
theorem wa_lret {v : Int64} (d : decode t.2.1 pc = .ok (.lreturn, 1)) (hr : t.2.2.2.1 = some .long) (hq : post (some (.long v)) M) : WA G t post pc ls [.long v] M :=
  fun p e s m args below meth c C H locs la hP hS hl => W.lret C.1 C.2.1 (C.2.2.1.trans hr) (wm_end (p := p) (m := m) (meth := meth) (c := c) hP hS hq) hS.2.2 d C.2.2.2.2.2.2.1
theorem wa_vret (d : decode t.2.1 pc = .ok (.return_, 1)) (hr : t.2.2.2.1 = none) (hq : post none M) : WA G t post pc ls [] M :=
  fun p e s m args below meth c C H locs la hP hS hl => W.vret C.1 C.2.1 (C.2.2.1.trans hr) (wm_end (p := p) (m := m) (meth := meth) (c := c) hP hS hq) hS.2.2 d C.2.2.2.2.2.2.1
theorem wa_aret {k : Nat} {C0 : String} (d : decode t.2.1 pc = .ok (.areturn, 1)) (hr : t.2.2.2.1 = some (.object C0)) (hq : post (some (wm_r G k)) M) : WA G t post pc ls [wm_r G k] M :=
  fun p e s m args below meth c C H locs la hP hS hl => W.aret C.1 C.2.1 (C.2.2.1.trans hr) (Or.inl ⟨_, rfl⟩) (Or.inr ⟨_, rfl⟩) (wm_end (p := p) (m := m) (meth := meth) (c := c) hP hS hq) hS.2.2 d C.2.2.2.2.2.2.1
/-! calls -/
def wm_cal (t : wm_T) (n : Nat) : Prop := Cond.code t.1 t.2.1 t.2.2.1 t.2.2.2.1 ∈ lw_gd ∧ Cond.initialized t.1.cls ∈ lw_gd ∧ t.1.cls ≠ "java/lang/invoke/MethodHandle" ∧ t.1.cls ≠ "java/lang/invoke/VarHandle" ∧ (parseMethodDescriptor t.1.desc).map (fun d => d.parameters.length) = some n
def wm_calV (t : wm_T) (n : Nat) : Prop := wm_cal t n ∧ Cond.instanceMethod t.1 ∈ lw_gd ∧ Cond.selects t.1.cls t.1 t.1 ∈ lw_gd
def wm_calS (t : wm_T) (n : Nat) : Prop := wm_cal t n ∧ Cond.static t.1 ∈ lw_gd
def wm_iv (t t' : wm_T) (pc : Nat) : Prop := ∃ index, Cond.methodLink t.1.cls index t'.1 ∈ lw_gd ∧ decode t.2.1 pc = .ok (.invokevirtual index, 3)
def wm_is (t t' : wm_T) (pc : Nat) : Prop := ∃ index, Cond.methodLink t.1.cls index t'.1 ∈ lw_gd ∧ decode t.2.1 pc = .ok (.invokestatic index, 3)
theorem wm_blind (av : List Value) : FrameBlind (va_Pc av (fun U => va_P G.2.1 classes (wm_ws G M) U.heap ∧ wm_F G U)) := by
  intro a U g mk q
  obtain ⟨q0, q1, q2⟩ := q
  exact ⟨q0, q1, wm_F.moved (u := U) (U := U.calling g mk a) (Vm.Alike.refl U.vm) (fun _ _ _ => rfl) q2⟩
theorem wm_pre {s U : State} {H : Heap} {locs : List Loc} (hF : wm_F G s) (hP : va_P G.2.1 classes (wm_ws G M) H) (hS : va_S G.2.2.2.2.1 s.heap H locs) (hU : U.heap = H) (hW : s.WarmedH U.vm) : va_P G.2.1 classes (wm_ws G M) U.heap ∧ wm_F G U :=
  ⟨by rw [hU]; exact hP, wm_F.moved hW.alike (fun a h1 h2 => by rw [hU]; exact hS.2.1 a h1 h2) hF⟩
theorem wm_callx {p : Program} {e : Env} {R : Room} {s : State} {m : MethodId} {args : Array Value} {below : List Frame} {meth : Method} {c : Code} {H : Heap} {locs : List Loc} {Q : State → Prop} {la : Array Slot} {rest st0 : List Value} {a : Array Value} {post' : Option Value → wm_M → Prop}
    (hr : va_Run p G.1 e R s m args below meth c H locs 0 0 0 0 (F0 m pc la st0) rest (wm_Q G post' a) G.2.2.2.2.1) (hS : va_S G.2.2.2.2.1 s.heap H locs)
    (kk : ∀ (v : Option Value) (N : wm_M) (H1 : Heap) (locs1 : List Loc), post' v N → va_P G.2.1 classes (wm_ws G N) H1 → va_S G.2.2.2.2.1 s.heap H1 locs1 → W p G.1 e R s m args below meth c H1 locs1 0 0 Q (F0 m (pc + 3) la (v.toList ++ rest))) : W p G.1 e R s m args below meth c H locs 0 0 Q (F0 m pc la st0) := by
  intro T hT X
  obtain ⟨v, st₀, tt, T', L, h0, X', hL, e1, e2, ⟨⟨v', N, hv, hp, hb⟩, hz, hk⟩, stp⟩ := hr T hT X
  cases hv
  rw [h0] at hz hk
  obtain ⟨t2, a1, b1⟩ := kk v N T'.heap (locs ++ L) hp (by rw [e1]; exact hb)
    ⟨Nat.le_trans hS.1 (by rw [e1]; exact hz), fun q h1 h2 => by rw [e1, hk q (Nat.lt_of_lt_of_le h1 hS.1) h2]; exact hS.2.1 q h1 h2, fun q hq => by
      rcases List.mem_append.mp hq with h | h
      · exact hS.2.2 q h
      · exact hL q h⟩ T' rfl X'
  exact ⟨t2, stp t2 a1, b1⟩
theorem wa_callV {t' : wm_T} {As : List Value} {st0 : List Value} {k ci n : Nat} {fts : List (Nat × Nat)} {ft : Nat × Nat} {post' : Option Value → wm_M → Prop} (hM : MA G t' (wm_r G k :: As) M post') (hc : wm_calV t' n) (hi : wm_iv t t' pc) (hs : wm_sh k = .inl (ci, ft :: fts)) (hcl : (classes[ci]?).map (fun q => q.1) = some t'.1.cls)
    (hn : As.length = n) (hst : st0 = As.reverse ++ wm_r G k :: st) (hw : (st.map fun v => v.category).sum ≤ 8) (hR : t'.2.2.2.2.1 + 1 ≤ t.2.2.2.2.1 ∧ 8 + (t'.2.2.1 + 11) + t'.2.2.2.2.2 ≤ t.2.2.2.2.2)
    (kk : ∀ (v : Option Value) (N : wm_M), post' v N → WA G t post (pc + 3) ls (v.toList ++ st) N) : WA G t post pc ls st0 M := by
  subst hst
  obtain ⟨index, hlink, hd⟩ := hi
  obtain ⟨⟨h1, h2, h3, h4, h5⟩, h6, h7⟩ := hc
  intro p e s m args below meth c Cx H locs la hP hS hl
  have hF := Cx.2.2.2.2.2.2.2
  have hts := Cx.2.2.2.2.2.1
  obtain ⟨q, hq, hqc⟩ : ∃ q, classes[ci]? = some q ∧ q.1 = t'.1.cls := by
    cases h : classes[ci]? with
    | none => rw [h] at hcl; cases hcl
    | some q => rw [h] at hcl; exact ⟨q, rfl, Option.some.inj hcl⟩
  have hG : GoodIn lw_gd (wsV t.1.cls index t'.1.cls t'.1 (wm_ws0 t')) := by
    intro w hw
    have : w ∈ lw_gd := by
      simp only [wsV, wm_ws0, List.mem_append, List.mem_cons, List.not_mem_nil, or_false] at hw
      rcases hw with (rfl | rfl | rfl | rfl) | rfl | hw
      · exact hlink
      · exact h6
      · exact h7
      · exact h2
      · exact h1
      · exact hw
    exact ⟨this, lw_gd_good this⟩
  have hrec := va_recv (q0 := k) (a := wm_a G k) (fs := wm_fs G M k 0 (ft :: fts)) hF.1 hP hq (by rw [wm_at (wm_lt (fun q => by rw [hs] at q; cases q)), wm_obj hs])
  rw [hqc] at hrec
  refine wm_callx (va_runV (cc := t.2.1) (nL := t.2.2.1) (Ts := lw_gd) (own := t.1.cls) (C := t'.1.cls) (b := wm_a G k) (As := As) (rest := st) ⟨Cx.1, Cx.2.1, Cx.2.2.2.1, Cx.2.2.2.2.1, hts⟩ hM (cwV n hts hG rfl rfl rfl ⟨rfl, h3, h4, h5⟩ hR) ⟨wm_blind _, hrec, fun U hU hW => ⟨rfl, wm_pre hF hP hS hU hW⟩⟩ rfl hn hl.1 rfl (lv_room hw) hd ⟨Nat.le_refl _, Nat.le_refl _⟩) hS (fun v N H1 locs1 hp hP1 hS1 => ?_)
  exact kk v N hp p e s m args below meth c Cx H1 locs1 la hP1 hS1 hl
theorem wa_callS {t' : wm_T} {As : List Value} {st0 : List Value} {n : Nat} {post' : Option Value → wm_M → Prop} (hM : MA G t' As M post') (hc : wm_calS t' n) (hi : wm_is t t' pc)
    (hn : As.length = n) (hst : st0 = As.reverse ++ st) (hw : (st.map fun v => v.category).sum ≤ 8) (hR : t'.2.2.2.2.1 + 1 ≤ t.2.2.2.2.1 ∧ 8 + (t'.2.2.1 + 11) + t'.2.2.2.2.2 ≤ t.2.2.2.2.2)
    (kk : ∀ (v : Option Value) (N : wm_M), post' v N → WA G t post (pc + 3) ls (v.toList ++ st) N) : WA G t post pc ls st0 M := by
  subst hst
  obtain ⟨index, hlink, hd⟩ := hi
  obtain ⟨⟨h1, h2, h3, h4, h5⟩, h6⟩ := hc
  intro p e s m args below meth c Cx H locs la hP hS hl
  have hF := Cx.2.2.2.2.2.2.2
  have hts := Cx.2.2.2.2.2.1
  have hG : GoodIn lw_gd (va_wsS t.1.cls index t'.1 (wm_ws0 t')) := by
    intro w hw
    have : w ∈ lw_gd := by
      simp only [va_wsS, wm_ws0, List.mem_append, List.mem_cons, List.not_mem_nil, or_false] at hw
      rcases hw with (rfl | rfl | rfl) | rfl | hw
      · exact hlink
      · exact h6
      · exact h2
      · exact h1
      · exact hw
    exact ⟨this, lw_gd_good this⟩
  refine wm_callx (va_runS (cc := t.2.1) (nL := t.2.2.1) (Ts := lw_gd) (own := t.1.cls) (As := As) (rest := st) ⟨Cx.1, Cx.2.1, Cx.2.2.2.1, Cx.2.2.2.2.1, hts⟩ hM (va_cwS n hts hG rfl rfl rfl ⟨h3, h4, h5⟩ hR) ⟨wm_blind _, fun U hU hW => ⟨rfl, wm_pre hF hP hS hU hW⟩⟩ rfl hn hl.1 rfl (lv_room hw) hd ⟨Nat.le_refl _, Nat.le_refl _⟩) hS (fun v N H1 locs1 hp hP1 hS1 => ?_)
  exact kk v N hp p e s m args below meth c Cx H1 locs1 la hP1 hS1 hl
/-- a contract with one end -/
def MD (G : wm_G) (t : wm_T) (av : List Value) (M : wm_M) (r : Option Value) (N : wm_M) : Prop := MA G t av M (fun v N' => v = r ∧ N' = N)
theorem wa_cV {t' : wm_T} {As : List Value} {st0 : List Value} {k ci n : Nat} {fts : List (Nat × Nat)} {ft : Nat × Nat} {r : Option Value} {N : wm_M} (hM : MD G t' (wm_r G k :: As) M r N) (hc : wm_calV t' n) (hi : wm_iv t t' pc) (hs : wm_sh k = .inl (ci, ft :: fts)) (hcl : (classes[ci]?).map (fun q => q.1) = some t'.1.cls)
    (hn : As.length = n) (hst : st0 = As.reverse ++ wm_r G k :: st) (hw : (st.map fun v => v.category).sum ≤ 8) (hR : t'.2.2.2.2.1 + 1 ≤ t.2.2.2.2.1 ∧ 8 + (t'.2.2.1 + 11) + t'.2.2.2.2.2 ≤ t.2.2.2.2.2)
    (kk : WA G t post (pc + 3) ls (r.toList ++ st) N) : WA G t post pc ls st0 M :=
  wa_callV hM hc hi hs hcl hn hst hw hR (fun v N' h => by obtain ⟨rfl, rfl⟩ := h; exact kk)
theorem wa_cS {t' : wm_T} {As : List Value} {st0 : List Value} {n : Nat} {r : Option Value} {N : wm_M} (hM : MD G t' As M r N) (hc : wm_calS t' n) (hi : wm_is t t' pc)
    (hn : As.length = n) (hst : st0 = As.reverse ++ st) (hw : (st.map fun v => v.category).sum ≤ 8) (hR : t'.2.2.2.2.1 + 1 ≤ t.2.2.2.2.1 ∧ 8 + (t'.2.2.1 + 11) + t'.2.2.2.2.2 ≤ t.2.2.2.2.2)
    (kk : WA G t post (pc + 3) ls (r.toList ++ st) N) : WA G t post pc ls st0 M :=
  wa_callS hM hc hi hn hst hw hR (fun v N' h => by obtain ⟨rfl, rfl⟩ := h; exact kk)
/-! the JDK's -/
def wm_ij (t : wm_T) (y : MethodName) (pc : Nat) : Prop := ∃ index, Cond.methodLink t.1.cls index y ∈ lw_gd ∧ decode t.2.1 pc = .ok (.invokestatic index, 3)
theorem wm_mathMax : Cond.static Lib.Math.max.name ∈ lw_gd ∧ Cond.initialized "java/lang/Math" ∈ lw_gd ∧ Cond.code Lib.Math.max.name Lib.Math.max.code 2 (some .int) ∈ lw_gd := by decide +kernel
theorem wm_mathMin : Cond.static Lib.Math.min.name ∈ lw_gd ∧ Cond.initialized "java/lang/Math" ∈ lw_gd ∧ Cond.code Lib.Math.min.name Lib.Math.min.code 2 (some .int) ∈ lw_gd := by decide +kernel
theorem wm_copyW : Cond.native arraycopyName ∈ lw_gd ∧ Cond.static arraycopyName ∈ lw_gd ∧ Cond.initialized "java/lang/System" ∈ lw_gd := by decide +kernel
theorem wa_max {x y : Int32} (hi : wm_ij t Lib.Math.max.name pc) (hR : 1 ≤ t.2.2.2.2.1 ∧ (st.map fun v => v.category).sum + 13 ≤ t.2.2.2.2.2) (kk : WA G t post (pc + 3) ls (.int (if x < y then y else x) :: st) M) : WA G t post pc ls (.int y :: .int x :: st) M := by
  obtain ⟨index, hlink, hd⟩ := hi
  intro p e s m args below meth c Cx H locs la hP hS hl
  have hts := Cx.2.2.2.2.2.1
  exact va_mmax Cx.1 Cx.2.1 (by rw [Cx.2.2.2.1]; exact hl.1.symm) Cx.2.2.2.2.1 (hts _ hlink) (hts _ wm_mathMax.1) (hts _ wm_mathMax.2.1) (hts _ wm_mathMax.2.2) hR.1 hR.2 (Nat.zero_le _) (Nat.zero_le _) hd (kk p e s m args below meth c Cx H locs la hP hS hl)
theorem wa_min {x y : Int32} (hi : wm_ij t Lib.Math.min.name pc) (hR : 1 ≤ t.2.2.2.2.1 ∧ (st.map fun v => v.category).sum + 13 ≤ t.2.2.2.2.2) (kk : WA G t post (pc + 3) ls (.int (if y < x then y else x) :: st) M) : WA G t post pc ls (.int y :: .int x :: st) M := by
  obtain ⟨index, hlink, hd⟩ := hi
  intro p e s m args below meth c Cx H locs la hP hS hl
  have hts := Cx.2.2.2.2.2.1
  exact va_mmin Cx.1 Cx.2.1 (by rw [Cx.2.2.2.1]; exact hl.1.symm) Cx.2.2.2.2.1 (hts _ hlink) (hts _ wm_mathMin.1) (hts _ wm_mathMin.2.1) (hts _ wm_mathMin.2.2) hR.1 hR.2 (Nat.zero_le _) (Nat.zero_le _) hd (kk p e s m args below meth c Cx H locs la hP hS hl)
theorem wa_copyi {k0 k1 n0 n1 : Nat} {sp dp n : Int32} (hi : wm_ij t arraycopyName pc) (h0 : wm_sh k0 = .inr (0, n0, 0, 0)) (h1 : wm_sh k1 = .inr (0, n1, 0, 0)) (p1 : ¬ sp < 0) (p2 : ¬ dp < 0) (p3 : ¬ n < 0) (p4 : sp.toNatClampNeg + n.toNatClampNeg ≤ n0) (p5 : dp.toNatClampNeg + n.toNatClampNeg ≤ n1)
    (hR : 1 ≤ t.2.2.2.2.1 ∧ (st.map fun v => v.category).sum + (nativeFrameWords "java/lang/System" "arraycopy" 5 + 11) ≤ t.2.2.2.2.2) (kk : WA G t post (pc + 3) ls st (wIa M k1 (va_cpy (M.1 k0) (M.1 k1) sp.toNatClampNeg dp.toNatClampNeg n.toNatClampNeg))) : WA G t post pc ls (.int n :: .int dp :: wm_r G k1 :: .int sp :: wm_r G k0 :: st) M := by
  obtain ⟨index, hlink, hd⟩ := hi
  intro p e s m args below meth c Cx H locs la hP hS hl
  have hts := Cx.2.2.2.2.2.1
  have hF := Cx.2.2.2.2.2.2.2
  refine va_copyi (D := G.2.1) (cl := classes) (tys := wm_tys G) (ws := wm_ws G M) (n0 := n0) (n1 := n1) (f := M.1 k0) (g := M.1 k1) (ty := .int) Cx.1 Cx.2.1 (by rw [Cx.2.2.2.1]; exact hl.1.symm) Cx.2.2.2.2.1 (hts _ hlink) (hts _ wm_copyW.1) (hts _ wm_copyW.2.1) (hts _ wm_copyW.2.2) hF.1 hP (wm_D hF M) hS k0 k1 0 0 (by rw [wm_at (wm_ltA h0), wm_arr h0]; rfl) (by rw [wm_at (wm_ltA h1), wm_arr h1]; rfl) rfl rfl rfl p1 p2 p3 p4 p5 (fun _ _ => rfl) hR.1 hR.2 hd (fun H1 locs1 hP1 hD1 hS1 => ?_)
  refine kk p e s m args below meth c Cx H1 locs1 la ?_ hS1 hl
  rw [← wm_set (wm_ltA h1) (M := M) (e := _) rfl (fun k' h => wm_cell_I h), wm_arr h1]
  simpa [wm_ar, wIa_s] using hP1
theorem wa_copyl {k0 k1 n0 n1 : Nat} {sp dp n : Int32} (hi : wm_ij t arraycopyName pc) (h0 : wm_sh k0 = .inr (1, n0, 0, 0)) (h1 : wm_sh k1 = .inr (1, n1, 0, 0)) (p1 : ¬ sp < 0) (p2 : ¬ dp < 0) (p3 : ¬ n < 0) (p4 : sp.toNatClampNeg + n.toNatClampNeg ≤ n0) (p5 : dp.toNatClampNeg + n.toNatClampNeg ≤ n1)
    (hR : 1 ≤ t.2.2.2.2.1 ∧ (st.map fun v => v.category).sum + (nativeFrameWords "java/lang/System" "arraycopy" 5 + 11) ≤ t.2.2.2.2.2) (kk : WA G t post (pc + 3) ls st (wJa M k1 (va_cpy (M.2.1 k0) (M.2.1 k1) sp.toNatClampNeg dp.toNatClampNeg n.toNatClampNeg))) : WA G t post pc ls (.int n :: .int dp :: wm_r G k1 :: .int sp :: wm_r G k0 :: st) M := by
  obtain ⟨index, hlink, hd⟩ := hi
  intro p e s m args below meth c Cx H locs la hP hS hl
  have hts := Cx.2.2.2.2.2.1
  have hF := Cx.2.2.2.2.2.2.2
  refine va_copyl (D := G.2.1) (cl := classes) (tys := wm_tys G) (ws := wm_ws G M) (n0 := n0) (n1 := n1) (f := M.2.1 k0) (g := M.2.1 k1) (ty := .long) Cx.1 Cx.2.1 (by rw [Cx.2.2.2.1]; exact hl.1.symm) Cx.2.2.2.2.1 (hts _ hlink) (hts _ wm_copyW.1) (hts _ wm_copyW.2.1) (hts _ wm_copyW.2.2) hF.1 hP (wm_D hF M) hS k0 k1 1 1 (by rw [wm_at (wm_ltA h0), wm_arr h0]; rfl) (by rw [wm_at (wm_ltA h1), wm_arr h1]; rfl) rfl rfl rfl p1 p2 p3 p4 p5 (fun _ _ => rfl) hR.1 hR.2 hd (fun H1 locs1 hP1 hD1 hS1 => ?_)
  refine kk p e s m args below meth c Cx H1 locs1 la ?_ hS1 hl
  rw [← wm_set (wm_ltA h1) (M := M) (e := _) rfl (fun k' h => wm_cell_J h), wm_arr h1]
  simpa [wm_ar, wJa_s] using hP1
end WMH
end
