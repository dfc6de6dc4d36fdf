def lw_sp1 (pc : Nat) : Bool := Nat.beq pc 23
def lw_sp2 (pc : Nat) : Bool := Nat.beq pc 1256 || Nat.beq pc 1304
set_option maxRecDepth 20000 in
theorem vl_23 {call : Nat → List Value → ab_S → Option Value → ab_S → Prop} {L : Nat} {xs : Nat → Int32} {Q : Option Value → ab_S → Prop} {X : ab_F → Prop} (y4 : Int32) (mi : Nat → Nat → Int32) (ml : Nat → Nat → Int64)
    (h : ((((Int32.ofNat L) - 7) < y4) → (Q (some (.int 1)) (ab_G mi ml))) ∧ (¬ (((Int32.ofNat L) - 7) < y4) → (vp_in y4 L ∧ (((((xs (y4).toNatClampNeg) &&& 31) = 0) → (vp_in (y4 + 1) L ∧ (∃ (r3 : Int32) (mi1 : Nat → Nat → Int32) (ml2 : Nat → Nat → Int64), call 103 [.ref 0, .int (xs ((y4 + 1)).toNatClampNeg)] (ab_G mi ml) (some (.int r3)) (ab_G mi1 ml2) ∧ (vp_in (y4 + 1) L ∧ (∃ (r6 : Int32) (mi4 : Nat → Nat → Int32) (ml5 : Nat → Nat → Int64), call 179 [.ref 40, .int (xs ((y4 + 1)).toNatClampNeg)] (ab_G mi1 ml2) (some (.int r6)) (ab_G mi4 ml5) ∧ (((r3 = r6) → (X (1304, [some (.ref 1000220), some (.ref 0), some (.ref 40), some (.ref 83), some (.int y4), none, none], [], 0, 0, (ab_G mi4 ml5)))) ∧ (¬ (r3 = r6) → (Q (some (.int 0)) (ab_G mi4 ml5))))))))) ∧ (¬ (((xs (y4).toNatClampNeg) &&& 31) = 0) → (((((xs (y4).toNatClampNeg) &&& 31) = 1) → (vp_in (y4 + 1) L ∧ (∃ (r9 : Int32) (mi7 : Nat → Nat → Int32) (ml8 : Nat → Nat → Int64), call 104 [.ref 0, .int (xs ((y4 + 1)).toNatClampNeg)] (ab_G mi ml) (some (.int r9)) (ab_G mi7 ml8) ∧ (vp_in (y4 + 1) L ∧ (∃ (r12 : Int32) (mi10 : Nat → Nat → Int32) (ml11 : Nat → Nat → Int64), call 180 [.ref 40, .int (xs ((y4 + 1)).toNatClampNeg)] (ab_G mi7 ml8) (some (.int r12)) (ab_G mi10 ml11) ∧ (((r9 = r12) → (X (1304, [some (.ref 1000220), some (.ref 0), some (.ref 40), some (.ref 83), some (.int y4), none, none], [], 0, 0, (ab_G mi10 ml11)))) ∧ (¬ (r9 = r12) → (Q (some (.int 0)) (ab_G mi10 ml11))))))))) ∧ (¬ (((xs (y4).toNatClampNeg) &&& 31) = 1) → (((((xs (y4).toNatClampNeg) &&& 31) = 2) → (vp_in (y4 + 1) L ∧ (vp_in (y4 + 2) L ∧ (vp_in (y4 + 3) L ∧ (vp_in (y4 + 4) L ∧ (vp_in (y4 + 5) L ∧ (vp_in (y4 + 6) L ∧ (∃ (r15 : Int32) (mi13 : Nat → Nat → Int32) (ml14 : Nat → Nat → Int64), call 105 [.ref 0, .long ((((xs ((y4 + 1)).toNatClampNeg) : Int32).toInt64 <<< (((32 : Int32)).toInt64 &&& 63)) ||| (((xs ((y4 + 2)).toNatClampNeg) : Int32).toInt64 &&& 4294967295)), .long ((((xs ((y4 + 3)).toNatClampNeg) : Int32).toInt64 <<< (((32 : Int32)).toInt64 &&& 63)) ||| (((xs ((y4 + 4)).toNatClampNeg) : Int32).toInt64 &&& 4294967295)), .long ((((xs ((y4 + 5)).toNatClampNeg) : Int32).toInt64 <<< (((32 : Int32)).toInt64 &&& 63)) ||| (((xs ((y4 + 6)).toNatClampNeg) : Int32).toInt64 &&& 4294967295))] (ab_G mi ml) (some (.int r15)) (ab_G mi13 ml14) ∧ (vp_in (y4 + 1) L ∧ (vp_in (y4 + 2) L ∧ (vp_in (y4 + 3) L ∧ (vp_in (y4 + 4) L ∧ (vp_in (y4 + 5) L ∧ (vp_in (y4 + 6) L ∧ (∃ (r18 : Int32) (mi16 : Nat → Nat → Int32) (ml17 : Nat → Nat → Int64), call 145 [.ref 40, .long ((((xs ((y4 + 1)).toNatClampNeg) : Int32).toInt64 <<< (((32 : Int32)).toInt64 &&& 63)) ||| (((xs ((y4 + 2)).toNatClampNeg) : Int32).toInt64 &&& 4294967295)), .long ((((xs ((y4 + 3)).toNatClampNeg) : Int32).toInt64 <<< (((32 : Int32)).toInt64 &&& 63)) ||| (((xs ((y4 + 4)).toNatClampNeg) : Int32).toInt64 &&& 4294967295)), .long ((((xs ((y4 + 5)).toNatClampNeg) : Int32).toInt64 <<< (((32 : Int32)).toInt64 &&& 63)) ||| (((xs ((y4 + 6)).toNatClampNeg) : Int32).toInt64 &&& 4294967295))] (ab_G mi13 ml14) (some (.int r18)) (ab_G mi16 ml17) ∧ (((r15 = r18) → (X (1304, [some (.ref 1000220), some (.ref 0), some (.ref 40), some (.ref 83), some (.int y4), none, none], [], 0, 0, (ab_G mi16 ml17)))) ∧ (¬ (r15 = r18) → (Q (some (.int 0)) (ab_G mi16 ml17))))))))))))))))))) ∧ (¬ (((xs (y4).toNatClampNeg) &&& 31) = 2) → (((((xs (y4).toNatClampNeg) &&& 31) = 3) → (∃ (r21 : Int32) (mi19 : Nat → Nat → Int32) (ml20 : Nat → Nat → Int64), call 106 [.ref 0] (ab_G mi ml) (some (.int r21)) (ab_G mi19 ml20) ∧ (∃ (r24 : Int32) (mi22 : Nat → Nat → Int32) (ml23 : Nat → Nat → Int64), call 170 [.ref 40] (ab_G mi19 ml20) (some (.int r24)) (ab_G mi22 ml23) ∧ (((r21 = r24) → (X (1304, [some (.ref 1000220), some (.ref 0), some (.ref 40), some (.ref 83), some (.int y4), none, none], [], 0, 0, (ab_G mi22 ml23)))) ∧ (¬ (r21 = r24) → (Q (some (.int 0)) (ab_G mi22 ml23))))))) ∧ (¬ (((xs (y4).toNatClampNeg) &&& 31) = 3) → (((((xs (y4).toNatClampNeg) &&& 31) = 4) → (vp_in (y4 + 1) L ∧ (∃ (r27 : Int32) (mi25 : Nat → Nat → Int32) (ml26 : Nat → Nat → Int64), call 107 [.ref 0, .int (xs ((y4 + 1)).toNatClampNeg)] (ab_G mi ml) (some (.int r27)) (ab_G mi25 ml26) ∧ (vp_in (y4 + 1) L ∧ (∃ (r30 : Int32) (mi28 : Nat → Nat → Int32) (ml29 : Nat → Nat → Int64), call 171 [.ref 40, .int (xs ((y4 + 1)).toNatClampNeg)] (ab_G mi25 ml26) (some (.int r30)) (ab_G mi28 ml29) ∧ (((r27 = r30) → (X (1304, [some (.ref 1000220), some (.ref 0), some (.ref 40), some (.ref 83), some (.int y4), none, none], [], 0, 0, (ab_G mi28 ml29)))) ∧ (¬ (r27 = r30) → (Q (some (.int 0)) (ab_G mi28 ml29))))))))) ∧ (¬ (((xs (y4).toNatClampNeg) &&& 31) = 4) → (((((xs (y4).toNatClampNeg) &&& 31) = 5) → (vp_in (y4 + 1) L ∧ (∃ (r33 : Int32) (mi31 : Nat → Nat → Int32) (ml32 : Nat → Nat → Int64), call 108 [.ref 0, .int (xs ((y4 + 1)).toNatClampNeg)] (ab_G mi ml) (some (.int r33)) (ab_G mi31 ml32) ∧ (vp_in (y4 + 1) L ∧ (∃ (r36 : Int32) (mi34 : Nat → Nat → Int32) (ml35 : Nat → Nat → Int64), call 184 [.ref 40, .int (xs ((y4 + 1)).toNatClampNeg)] (ab_G mi31 ml32) (some (.int r36)) (ab_G mi34 ml35) ∧ (((r33 = r36) → (X (1304, [some (.ref 1000220), some (.ref 0), some (.ref 40), some (.ref 83), some (.int y4), none, none], [], 0, 0, (ab_G mi34 ml35)))) ∧ (¬ (r33 = r36) → (Q (some (.int 0)) (ab_G mi34 ml35))))))))) ∧ (¬ (((xs (y4).toNatClampNeg) &&& 31) = 5) → (((((xs (y4).toNatClampNeg) &&& 31) = 6) → (vp_in (y4 + 1) L ∧ (vp_in (y4 + 2) L ∧ (∃ (r39 : Int32) (mi37 : Nat → Nat → Int32) (ml38 : Nat → Nat → Int64), call 109 [.ref 0, .int (xs ((y4 + 1)).toNatClampNeg), .int (xs ((y4 + 2)).toNatClampNeg)] (ab_G mi ml) (some (.int r39)) (ab_G mi37 ml38) ∧ (vp_in (y4 + 1) L ∧ (vp_in (y4 + 2) L ∧ (∃ (r42 : Int32) (mi40 : Nat → Nat → Int32) (ml41 : Nat → Nat → Int64), call 185 [.ref 40, .int (xs ((y4 + 1)).toNatClampNeg), .int (xs ((y4 + 2)).toNatClampNeg)] (ab_G mi37 ml38) (some (.int r42)) (ab_G mi40 ml41) ∧ (((r39 = r42) → (X (1304, [some (.ref 1000220), some (.ref 0), some (.ref 40), some (.ref 83), some (.int y4), none, none], [], 0, 0, (ab_G mi40 ml41)))) ∧ (¬ (r39 = r42) → (Q (some (.int 0)) (ab_G mi40 ml41))))))))))) ∧ (¬ (((xs (y4).toNatClampNeg) &&& 31) = 6) → (((((xs (y4).toNatClampNeg) &&& 31) = 7) → (vp_in (y4 + 1) L ∧ (∃ (r45 : Int32) (mi43 : Nat → Nat → Int32) (ml44 : Nat → Nat → Int64), call 110 [.ref 0, .int (xs ((y4 + 1)).toNatClampNeg)] (ab_G mi ml) (some (.int r45)) (ab_G mi43 ml44) ∧ (vp_in (y4 + 1) L ∧ (∃ (r48 : Int32) (mi46 : Nat → Nat → Int32) (ml47 : Nat → Nat → Int64), call 192 [.ref 40, .int (xs ((y4 + 1)).toNatClampNeg)] (ab_G mi43 ml44) (some (.int r48)) (ab_G mi46 ml47) ∧ (((r45 = r48) → (X (1304, [some (.ref 1000220), some (.ref 0), some (.ref 40), some (.ref 83), some (.int y4), none, none], [], 0, 0, (ab_G mi46 ml47)))) ∧ (¬ (r45 = r48) → (Q (some (.int 0)) (ab_G mi46 ml47))))))))) ∧ (¬ (((xs (y4).toNatClampNeg) &&& 31) = 7) → (((((xs (y4).toNatClampNeg) &&& 31) = 8) → (vp_in (y4 + 1) L ∧ (∃ (r51 : Int32) (mi49 : Nat → Nat → Int32) (ml50 : Nat → Nat → Int64), call 111 [.ref 0, .int (xs ((y4 + 1)).toNatClampNeg)] (ab_G mi ml) (some (.int r51)) (ab_G mi49 ml50) ∧ (vp_in (y4 + 1) L ∧ (∃ (r54 : Int32) (mi52 : Nat → Nat → Int32) (ml53 : Nat → Nat → Int64), call 193 [.ref 40, .int (xs ((y4 + 1)).toNatClampNeg)] (ab_G mi49 ml50) (some (.int r54)) (ab_G mi52 ml53) ∧ (((r51 = r54) → (X (1304, [some (.ref 1000220), some (.ref 0), some (.ref 40), some (.ref 83), some (.int y4), none, none], [], 0, 0, (ab_G mi52 ml53)))) ∧ (¬ (r51 = r54) → (Q (some (.int 0)) (ab_G mi52 ml53))))))))) ∧ (¬ (((xs (y4).toNatClampNeg) &&& 31) = 8) → (((((xs (y4).toNatClampNeg) &&& 31) = 9) → (vp_in (y4 + 1) L ∧ (vp_in (y4 + 2) L ∧ (∃ (r57 : Int32) (mi55 : Nat → Nat → Int32) (ml56 : Nat → Nat → Int64), call 112 [.ref 0, .int (xs ((y4 + 1)).toNatClampNeg), .int (xs ((y4 + 2)).toNatClampNeg)] (ab_G mi ml) (some (.int r57)) (ab_G mi55 ml56) ∧ (vp_in (y4 + 1) L ∧ (vp_in (y4 + 2) L ∧ (∃ (r60 : Int32) (mi58 : Nat → Nat → Int32) (ml59 : Nat → Nat → Int64), call 194 [.ref 40, .int (xs ((y4 + 1)).toNatClampNeg), .int (xs ((y4 + 2)).toNatClampNeg)] (ab_G mi55 ml56) (some (.int r60)) (ab_G mi58 ml59) ∧ (((r57 = r60) → (X (1304, [some (.ref 1000220), some (.ref 0), some (.ref 40), some (.ref 83), some (.int y4), none, none], [], 0, 0, (ab_G mi58 ml59)))) ∧ (¬ (r57 = r60) → (Q (some (.int 0)) (ab_G mi58 ml59))))))))))) ∧ (¬ (((xs (y4).toNatClampNeg) &&& 31) = 9) → (((((xs (y4).toNatClampNeg) &&& 31) = 10) → (vp_in (y4 + 1) L ∧ (vp_in (y4 + 2) L ∧ (∃ (r63 : Int32) (mi61 : Nat → Nat → Int32) (ml62 : Nat → Nat → Int64), call 113 [.ref 0, .int (xs ((y4 + 1)).toNatClampNeg), .int (xs ((y4 + 2)).toNatClampNeg)] (ab_G mi ml) (some (.int r63)) (ab_G mi61 ml62) ∧ (vp_in (y4 + 1) L ∧ (vp_in (y4 + 2) L ∧ (∃ (r66 : Int32) (mi64 : Nat → Nat → Int32) (ml65 : Nat → Nat → Int64), call 199 [.ref 40, .int (xs ((y4 + 1)).toNatClampNeg), .int (xs ((y4 + 2)).toNatClampNeg)] (ab_G mi61 ml62) (some (.int r66)) (ab_G mi64 ml65) ∧ (((r63 = r66) → (X (1304, [some (.ref 1000220), some (.ref 0), some (.ref 40), some (.ref 83), some (.int y4), none, none], [], 0, 0, (ab_G mi64 ml65)))) ∧ (¬ (r63 = r66) → (Q (some (.int 0)) (ab_G mi64 ml65))))))))))) ∧ (¬ (((xs (y4).toNatClampNeg) &&& 31) = 10) → (((((xs (y4).toNatClampNeg) &&& 31) = 11) → (vp_in (y4 + 1) L ∧ (∃ (r69 : Int32) (mi67 : Nat → Nat → Int32) (ml68 : Nat → Nat → Int64), call 114 [.ref 0, .int (xs ((y4 + 1)).toNatClampNeg)] (ab_G mi ml) (some (.int r69)) (ab_G mi67 ml68) ∧ (vp_in (y4 + 1) L ∧ (∃ (r72 : Int32) (mi70 : Nat → Nat → Int32) (ml71 : Nat → Nat → Int64), call 172 [.ref 40, .int (xs ((y4 + 1)).toNatClampNeg)] (ab_G mi67 ml68) (some (.int r72)) (ab_G mi70 ml71) ∧ (((r69 = r72) → (X (1304, [some (.ref 1000220), some (.ref 0), some (.ref 40), some (.ref 83), some (.int y4), none, none], [], 0, 0, (ab_G mi70 ml71)))) ∧ (¬ (r69 = r72) → (Q (some (.int 0)) (ab_G mi70 ml71))))))))) ∧ (¬ (((xs (y4).toNatClampNeg) &&& 31) = 11) → (((((xs (y4).toNatClampNeg) &&& 31) = 12) → (vp_in (y4 + 1) L ∧ (vp_in (y4 + 2) L ∧ (∃ (r75 : Int32) (mi73 : Nat → Nat → Int32) (ml74 : Nat → Nat → Int64), call 115 [.ref 0, .int (xs ((y4 + 1)).toNatClampNeg), .int (xs ((y4 + 2)).toNatClampNeg)] (ab_G mi ml) (some (.int r75)) (ab_G mi73 ml74) ∧ (vp_in (y4 + 1) L ∧ (vp_in (y4 + 2) L ∧ (∃ (r78 : Int32) (mi76 : Nat → Nat → Int32) (ml77 : Nat → Nat → Int64), call 175 [.ref 40, .int (xs ((y4 + 1)).toNatClampNeg), .int (xs ((y4 + 2)).toNatClampNeg)] (ab_G mi73 ml74) (some (.int r78)) (ab_G mi76 ml77) ∧ (((r75 = r78) → (X (1304, [some (.ref 1000220), some (.ref 0), some (.ref 40), some (.ref 83), some (.int y4), none, none], [], 0, 0, (ab_G mi76 ml77)))) ∧ (¬ (r75 = r78) → (Q (some (.int 0)) (ab_G mi76 ml77))))))))))) ∧ (¬ (((xs (y4).toNatClampNeg) &&& 31) = 12) → (((((xs (y4).toNatClampNeg) &&& 31) = 13) → (vp_in (y4 + 1) L ∧ (vp_in (y4 + 2) L ∧ (∃ (r81 : Int32) (mi79 : Nat → Nat → Int32) (ml80 : Nat → Nat → Int64), call 116 [.ref 0, .int (xs ((y4 + 1)).toNatClampNeg), .int (xs ((y4 + 2)).toNatClampNeg)] (ab_G mi ml) (some (.int r81)) (ab_G mi79 ml80) ∧ (vp_in (y4 + 1) L ∧ (vp_in (y4 + 2) L ∧ (∃ (r84 : Int32) (mi82 : Nat → Nat → Int32) (ml83 : Nat → Nat → Int64), call 205 [.ref 40, .int (xs ((y4 + 1)).toNatClampNeg), .int (xs ((y4 + 2)).toNatClampNeg)] (ab_G mi79 ml80) (some (.int r84)) (ab_G mi82 ml83) ∧ (((r81 = r84) → (X (1304, [some (.ref 1000220), some (.ref 0), some (.ref 40), some (.ref 83), some (.int y4), none, none], [], 0, 0, (ab_G mi82 ml83)))) ∧ (¬ (r81 = r84) → (Q (some (.int 0)) (ab_G mi82 ml83))))))))))) ∧ (¬ (((xs (y4).toNatClampNeg) &&& 31) = 13) → (((((xs (y4).toNatClampNeg) &&& 31) = 14) → (vp_in (y4 + 1) L ∧ (vp_in (y4 + 2) L ∧ (∃ (r87 : Int32) (mi85 : Nat → Nat → Int32) (ml86 : Nat → Nat → Int64), call 117 [.ref 0, .int (xs ((y4 + 1)).toNatClampNeg), .int (xs ((y4 + 2)).toNatClampNeg)] (ab_G mi ml) (some (.int r87)) (ab_G mi85 ml86) ∧ (vp_in (y4 + 1) L ∧ (vp_in (y4 + 2) L ∧ (∃ (r90 : Int32) (mi88 : Nat → Nat → Int32) (ml89 : Nat → Nat → Int64), call 214 [.ref 40, .int (xs ((y4 + 1)).toNatClampNeg), .int (xs ((y4 + 2)).toNatClampNeg)] (ab_G mi85 ml86) (some (.int r90)) (ab_G mi88 ml89) ∧ (((r87 = r90) → (X (1304, [some (.ref 1000220), some (.ref 0), some (.ref 40), some (.ref 83), some (.int y4), none, none], [], 0, 0, (ab_G mi88 ml89)))) ∧ (¬ (r87 = r90) → (Q (some (.int 0)) (ab_G mi88 ml89))))))))))) ∧ (¬ (((xs (y4).toNatClampNeg) &&& 31) = 14) → (((((xs (y4).toNatClampNeg) &&& 31) = 15) → (vp_in (y4 + 1) L ∧ (∃ (r93 : Int32) (mi91 : Nat → Nat → Int32) (ml92 : Nat → Nat → Int64), call 118 [.ref 0, .int (xs ((y4 + 1)).toNatClampNeg)] (ab_G mi ml) (some (.int r93)) (ab_G mi91 ml92) ∧ (vp_in (y4 + 1) L ∧ (∃ (r96 : Int32) (mi94 : Nat → Nat → Int32) (ml95 : Nat → Nat → Int64), call 216 [.ref 40, .int (xs ((y4 + 1)).toNatClampNeg)] (ab_G mi91 ml92) (some (.int r96)) (ab_G mi94 ml95) ∧ (((r93 = r96) → (X (1304, [some (.ref 1000220), some (.ref 0), some (.ref 40), some (.ref 83), some (.int y4), none, none], [], 0, 0, (ab_G mi94 ml95)))) ∧ (¬ (r93 = r96) → (Q (some (.int 0)) (ab_G mi94 ml95))))))))) ∧ (¬ (((xs (y4).toNatClampNeg) &&& 31) = 15) → (((((xs (y4).toNatClampNeg) &&& 31) = 16) → (vp_in (y4 + 1) L ∧ (∃ (r99 : Int32) (mi97 : Nat → Nat → Int32) (ml98 : Nat → Nat → Int64), call 119 [.ref 0, .int (xs ((y4 + 1)).toNatClampNeg)] (ab_G mi ml) (some (.int r99)) (ab_G mi97 ml98) ∧ (vp_in (y4 + 1) L ∧ (∃ (r102 : Int32) (mi100 : Nat → Nat → Int32) (ml101 : Nat → Nat → Int64), call 219 [.ref 40, .int (xs ((y4 + 1)).toNatClampNeg)] (ab_G mi97 ml98) (some (.int r102)) (ab_G mi100 ml101) ∧ (((r99 = r102) → (X (1304, [some (.ref 1000220), some (.ref 0), some (.ref 40), some (.ref 83), some (.int y4), none, none], [], 0, 0, (ab_G mi100 ml101)))) ∧ (¬ (r99 = r102) → (Q (some (.int 0)) (ab_G mi100 ml101))))))))) ∧ (¬ (((xs (y4).toNatClampNeg) &&& 31) = 16) → (((((xs (y4).toNatClampNeg) &&& 31) = 17) → (vp_in (y4 + 1) L ∧ (vp_in (y4 + 2) L ∧ (∃ (r105 : Int32) (mi103 : Nat → Nat → Int32) (ml104 : Nat → Nat → Int64), call 120 [.ref 0, .int (xs ((y4 + 1)).toNatClampNeg), .int (xs ((y4 + 2)).toNatClampNeg)] (ab_G mi ml) (some (.int r105)) (ab_G mi103 ml104) ∧ (vp_in (y4 + 1) L ∧ (vp_in (y4 + 2) L ∧ (∃ (r108 : Int32) (mi106 : Nat → Nat → Int32) (ml107 : Nat → Nat → Int64), call 220 [.ref 40, .int (xs ((y4 + 1)).toNatClampNeg), .int (xs ((y4 + 2)).toNatClampNeg)] (ab_G mi103 ml104) (some (.int r108)) (ab_G mi106 ml107) ∧ (((r105 = r108) → (X (1304, [some (.ref 1000220), some (.ref 0), some (.ref 40), some (.ref 83), some (.int y4), none, none], [], 0, 0, (ab_G mi106 ml107)))) ∧ (¬ (r105 = r108) → (Q (some (.int 0)) (ab_G mi106 ml107))))))))))) ∧ (¬ (((xs (y4).toNatClampNeg) &&& 31) = 17) → (((((xs (y4).toNatClampNeg) &&& 31) = 18) → (vp_in (y4 + 1) L ∧ (vp_in (y4 + 2) L ∧ (∃ (r111 : Int32) (mi109 : Nat → Nat → Int32) (ml110 : Nat → Nat → Int64), call 121 [.ref 0, .int (xs ((y4 + 1)).toNatClampNeg), .int (xs ((y4 + 2)).toNatClampNeg)] (ab_G mi ml) (some (.int r111)) (ab_G mi109 ml110) ∧ (vp_in (y4 + 1) L ∧ (vp_in (y4 + 2) L ∧ (∃ (r114 : Int32) (mi112 : Nat → Nat → Int32) (ml113 : Nat → Nat → Int64), call 222 [.ref 40, .int (xs ((y4 + 1)).toNatClampNeg), .int (xs ((y4 + 2)).toNatClampNeg)] (ab_G mi109 ml110) (some (.int r114)) (ab_G mi112 ml113) ∧ (((r111 = r114) → (X (1304, [some (.ref 1000220), some (.ref 0), some (.ref 40), some (.ref 83), some (.int y4), none, none], [], 0, 0, (ab_G mi112 ml113)))) ∧ (¬ (r111 = r114) → (Q (some (.int 0)) (ab_G mi112 ml113))))))))))) ∧ (¬ (((xs (y4).toNatClampNeg) &&& 31) = 18) → (((((xs (y4).toNatClampNeg) &&& 31) = 19) → (vp_in (y4 + 1) L ∧ (vp_in (y4 + 2) L ∧ (vp_in (y4 + 3) L ∧ (∃ (r117 : Int32) (mi115 : Nat → Nat → Int32) (ml116 : Nat → Nat → Int64), call 122 [.ref 0, .int (xs ((y4 + 1)).toNatClampNeg), .int (xs ((y4 + 2)).toNatClampNeg), .int (xs ((y4 + 3)).toNatClampNeg)] (ab_G mi ml) (some (.int r117)) (ab_G mi115 ml116) ∧ (vp_in (y4 + 1) L ∧ (vp_in (y4 + 2) L ∧ (vp_in (y4 + 3) L ∧ (∃ (r120 : Int32) (mi118 : Nat → Nat → Int32) (ml119 : Nat → Nat → Int64), call 223 [.ref 40, .int (xs ((y4 + 1)).toNatClampNeg), .int (xs ((y4 + 2)).toNatClampNeg), .int (xs ((y4 + 3)).toNatClampNeg)] (ab_G mi115 ml116) (some (.int r120)) (ab_G mi118 ml119) ∧ (((r117 = r120) → (X (1304, [some (.ref 1000220), some (.ref 0), some (.ref 40), some (.ref 83), some (.int y4), none, none], [], 0, 0, (ab_G mi118 ml119)))) ∧ (¬ (r117 = r120) → (Q (some (.int 0)) (ab_G mi118 ml119))))))))))))) ∧ (¬ (((xs (y4).toNatClampNeg) &&& 31) = 19) → (((((xs (y4).toNatClampNeg) &&& 31) = 20) → (vp_in (y4 + 1) L ∧ (vp_in (y4 + 2) L ∧ (vp_in (y4 + 3) L ∧ ((((xs ((y4 + 3)).toNatClampNeg) = 0) → (∃ (r123 : Int32) (mi121 : Nat → Nat → Int32) (ml122 : Nat → Nat → Int64), call 123 [.ref 0, .int (xs ((y4 + 1)).toNatClampNeg), .int (xs ((y4 + 2)).toNatClampNeg), .int 0] (ab_G mi ml) (some (.int r123)) (ab_G mi121 ml122) ∧ (vp_in (y4 + 1) L ∧ (vp_in (y4 + 2) L ∧ (vp_in (y4 + 3) L ∧ ((((xs ((y4 + 3)).toNatClampNeg) = 0) → (∃ (r126 : Int32) (mi124 : Nat → Nat → Int32) (ml125 : Nat → Nat → Int64), call 224 [.ref 40, .int (xs ((y4 + 1)).toNatClampNeg), .int (xs ((y4 + 2)).toNatClampNeg), .int 0] (ab_G mi121 ml122) (some (.int r126)) (ab_G mi124 ml125) ∧ (((r123 = r126) → (X (1304, [some (.ref 1000220), some (.ref 0), some (.ref 40), some (.ref 83), some (.int y4), none, none], [], 0, 0, (ab_G mi124 ml125)))) ∧ (¬ (r123 = r126) → (Q (some (.int 0)) (ab_G mi124 ml125)))))) ∧ (¬ ((xs ((y4 + 3)).toNatClampNeg) = 0) → (∃ (r129 : Int32) (mi127 : Nat → Nat → Int32) (ml128 : Nat → Nat → Int64), call 224 [.ref 40, .int (xs ((y4 + 1)).toNatClampNeg), .int (xs ((y4 + 2)).toNatClampNeg), .int 1] (ab_G mi121 ml122) (some (.int r129)) (ab_G mi127 ml128) ∧ (((r123 = r129) → (X (1304, [some (.ref 1000220), some (.ref 0), some (.ref 40), some (.ref 83), some (.int y4), none, none], [], 0, 0, (ab_G mi127 ml128)))) ∧ (¬ (r123 = r129) → (Q (some (.int 0)) (ab_G mi127 ml128)))))))))))) ∧ (¬ ((xs ((y4 + 3)).toNatClampNeg) = 0) → (∃ (r132 : Int32) (mi130 : Nat → Nat → Int32) (ml131 : Nat → Nat → Int64), call 123 [.ref 0, .int (xs ((y4 + 1)).toNatClampNeg), .int (xs ((y4 + 2)).toNatClampNeg), .int 1] (ab_G mi ml) (some (.int r132)) (ab_G mi130 ml131) ∧ (vp_in (y4 + 1) L ∧ (vp_in (y4 + 2) L ∧ (vp_in (y4 + 3) L ∧ ((((xs ((y4 + 3)).toNatClampNeg) = 0) → (∃ (r135 : Int32) (mi133 : Nat → Nat → Int32) (ml134 : Nat → Nat → Int64), call 224 [.ref 40, .int (xs ((y4 + 1)).toNatClampNeg), .int (xs ((y4 + 2)).toNatClampNeg), .int 0] (ab_G mi130 ml131) (some (.int r135)) (ab_G mi133 ml134) ∧ (((r132 = r135) → (X (1304, [some (.ref 1000220), some (.ref 0), some (.ref 40), some (.ref 83), some (.int y4), none, none], [], 0, 0, (ab_G mi133 ml134)))) ∧ (¬ (r132 = r135) → (Q (some (.int 0)) (ab_G mi133 ml134)))))) ∧ (¬ ((xs ((y4 + 3)).toNatClampNeg) = 0) → (∃ (r138 : Int32) (mi136 : Nat → Nat → Int32) (ml137 : Nat → Nat → Int64), call 224 [.ref 40, .int (xs ((y4 + 1)).toNatClampNeg), .int (xs ((y4 + 2)).toNatClampNeg), .int 1] (ab_G mi130 ml131) (some (.int r138)) (ab_G mi136 ml137) ∧ (((r132 = r138) → (X (1304, [some (.ref 1000220), some (.ref 0), some (.ref 40), some (.ref 83), some (.int y4), none, none], [], 0, 0, (ab_G mi136 ml137)))) ∧ (¬ (r132 = r138) → (Q (some (.int 0)) (ab_G mi136 ml137))))))))))))))))) ∧ (¬ (((xs (y4).toNatClampNeg) &&& 31) = 20) → (((((xs (y4).toNatClampNeg) &&& 31) = 21) → (vp_in (y4 + 1) L ∧ (∃ (r141 : Int32) (mi139 : Nat → Nat → Int32) (ml140 : Nat → Nat → Int64), call 124 [.ref 0, .int (xs ((y4 + 1)).toNatClampNeg)] (ab_G mi ml) (some (.int r141)) (ab_G mi139 ml140) ∧ (vp_in (y4 + 1) L ∧ (∃ (r144 : Int32) (mi142 : Nat → Nat → Int32) (ml143 : Nat → Nat → Int64), call 231 [.ref 40, .int (xs ((y4 + 1)).toNatClampNeg)] (ab_G mi139 ml140) (some (.int r144)) (ab_G mi142 ml143) ∧ (((r141 = r144) → (X (1304, [some (.ref 1000220), some (.ref 0), some (.ref 40), some (.ref 83), some (.int y4), none, none], [], 0, 0, (ab_G mi142 ml143)))) ∧ (¬ (r141 = r144) → (Q (some (.int 0)) (ab_G mi142 ml143))))))))) ∧ (¬ (((xs (y4).toNatClampNeg) &&& 31) = 21) → (((((xs (y4).toNatClampNeg) &&& 31) = 22) → (vp_in (y4 + 1) L ∧ (vp_in (y4 + 2) L ∧ (∃ (r147 : Int32) (mi145 : Nat → Nat → Int32) (ml146 : Nat → Nat → Int64), call 125 [.ref 0, .int (xs ((y4 + 1)).toNatClampNeg), .int (xs ((y4 + 2)).toNatClampNeg)] (ab_G mi ml) (some (.int r147)) (ab_G mi145 ml146) ∧ (vp_in (y4 + 1) L ∧ (vp_in (y4 + 2) L ∧ (∃ (r150 : Int32) (mi148 : Nat → Nat → Int32) (ml149 : Nat → Nat → Int64), call 235 [.ref 40, .int (xs ((y4 + 1)).toNatClampNeg), .int (xs ((y4 + 2)).toNatClampNeg)] (ab_G mi145 ml146) (some (.int r150)) (ab_G mi148 ml149) ∧ (((r147 = r150) → (X (1304, [some (.ref 1000220), some (.ref 0), some (.ref 40), some (.ref 83), some (.int y4), none, none], [], 0, 0, (ab_G mi148 ml149)))) ∧ (¬ (r147 = r150) → (Q (some (.int 0)) (ab_G mi148 ml149))))))))))) ∧ (¬ (((xs (y4).toNatClampNeg) &&& 31) = 22) → (((((xs (y4).toNatClampNeg) &&& 31) = 23) → (vp_in (y4 + 1) L ∧ (∃ (r153 : Int32) (mi151 : Nat → Nat → Int32) (ml152 : Nat → Nat → Int64), call 126 [.ref 0, .int (xs ((y4 + 1)).toNatClampNeg)] (ab_G mi ml) (some (.int r153)) (ab_G mi151 ml152) ∧ (vp_in (y4 + 1) L ∧ (∃ (r156 : Int32) (mi154 : Nat → Nat → Int32) (ml155 : Nat → Nat → Int64), call 232 [.ref 40, .int (xs ((y4 + 1)).toNatClampNeg)] (ab_G mi151 ml152) (some (.int r156)) (ab_G mi154 ml155) ∧ (((r153 = r156) → (X (1304, [some (.ref 1000220), some (.ref 0), some (.ref 40), some (.ref 83), some (.int y4), none, none], [], 0, 0, (ab_G mi154 ml155)))) ∧ (¬ (r153 = r156) → (Q (some (.int 0)) (ab_G mi154 ml155))))))))) ∧ (¬ (((xs (y4).toNatClampNeg) &&& 31) = 23) → (((((xs (y4).toNatClampNeg) &&& 31) = 24) → (vp_in (y4 + 1) L ∧ (∃ (r159 : Int32) (mi157 : Nat → Nat → Int32) (ml158 : Nat → Nat → Int64), call 127 [.ref 0, .int (xs ((y4 + 1)).toNatClampNeg)] (ab_G mi ml) (some (.int r159)) (ab_G mi157 ml158) ∧ (vp_in (y4 + 1) L ∧ (∃ (r162 : Int32) (mi160 : Nat → Nat → Int32) (ml161 : Nat → Nat → Int64), call 236 [.ref 40, .int (xs ((y4 + 1)).toNatClampNeg)] (ab_G mi157 ml158) (some (.int r162)) (ab_G mi160 ml161) ∧ (((r159 = r162) → (X (1304, [some (.ref 1000220), some (.ref 0), some (.ref 40), some (.ref 83), some (.int y4), none, none], [], 0, 0, (ab_G mi160 ml161)))) ∧ (¬ (r159 = r162) → (Q (some (.int 0)) (ab_G mi160 ml161))))))))) ∧ (¬ (((xs (y4).toNatClampNeg) &&& 31) = 24) → (((((xs (y4).toNatClampNeg) &&& 31) = 25) → (vp_in (y4 + 1) L ∧ (vp_in (y4 + 2) L ∧ (∃ (r165 : Int32) (mi163 : Nat → Nat → Int32) (ml164 : Nat → Nat → Int64), call 128 [.ref 0, .int (xs ((y4 + 1)).toNatClampNeg), .int (xs ((y4 + 2)).toNatClampNeg)] (ab_G mi ml) (some (.int r165)) (ab_G mi163 ml164) ∧ (vp_in (y4 + 1) L ∧ (vp_in (y4 + 2) L ∧ (∃ (r168 : Int32) (mi166 : Nat → Nat → Int32) (ml167 : Nat → Nat → Int64), call 237 [.ref 40, .int (xs ((y4 + 1)).toNatClampNeg), .int (xs ((y4 + 2)).toNatClampNeg)] (ab_G mi163 ml164) (some (.int r168)) (ab_G mi166 ml167) ∧ (((r165 = r168) → (X (1304, [some (.ref 1000220), some (.ref 0), some (.ref 40), some (.ref 83), some (.int y4), none, none], [], 0, 0, (ab_G mi166 ml167)))) ∧ (¬ (r165 = r168) → (Q (some (.int 0)) (ab_G mi166 ml167))))))))))) ∧ (¬ (((xs (y4).toNatClampNeg) &&& 31) = 25) → (((((xs (y4).toNatClampNeg) &&& 31) = 26) → (vp_in (y4 + 1) L ∧ (vp_in (y4 + 2) L ∧ (∃ (r171 : Int32) (mi169 : Nat → Nat → Int32) (ml170 : Nat → Nat → Int64), call 129 [.ref 0, .int (xs ((y4 + 1)).toNatClampNeg), .int (xs ((y4 + 2)).toNatClampNeg)] (ab_G mi ml) (some (.int r171)) (ab_G mi169 ml170) ∧ (vp_in (y4 + 1) L ∧ (vp_in (y4 + 2) L ∧ (∃ (r174 : Int32) (mi172 : Nat → Nat → Int32) (ml173 : Nat → Nat → Int64), call 239 [.ref 40, .int (xs ((y4 + 1)).toNatClampNeg), .int (xs ((y4 + 2)).toNatClampNeg)] (ab_G mi169 ml170) (some (.int r174)) (ab_G mi172 ml173) ∧ (((r171 = r174) → (X (1304, [some (.ref 1000220), some (.ref 0), some (.ref 40), some (.ref 83), some (.int y4), none, none], [], 0, 0, (ab_G mi172 ml173)))) ∧ (¬ (r171 = r174) → (Q (some (.int 0)) (ab_G mi172 ml173))))))))))) ∧ (¬ (((xs (y4).toNatClampNeg) &&& 31) = 26) → (((((xs (y4).toNatClampNeg) &&& 31) = 27) → (vp_in (y4 + 1) L ∧ (∃ (r177 : Int32) (mi175 : Nat → Nat → Int32) (ml176 : Nat → Nat → Int64), call 130 [.ref 0, .int (xs ((y4 + 1)).toNatClampNeg)] (ab_G mi ml) (some (.int r177)) (ab_G mi175 ml176) ∧ (vp_in (y4 + 1) L ∧ (∃ (r180 : Int32) (mi178 : Nat → Nat → Int32) (ml179 : Nat → Nat → Int64), call 208 [.ref 40, .int (xs ((y4 + 1)).toNatClampNeg)] (ab_G mi175 ml176) (some (.int r180)) (ab_G mi178 ml179) ∧ (((r177 = r180) → (X (1304, [some (.ref 1000220), some (.ref 0), some (.ref 40), some (.ref 83), some (.int y4), none, none], [], 0, 0, (ab_G mi178 ml179)))) ∧ (¬ (r177 = r180) → (Q (some (.int 0)) (ab_G mi178 ml179))))))))) ∧ (¬ (((xs (y4).toNatClampNeg) &&& 31) = 27) → (((((xs (y4).toNatClampNeg) &&& 31) = 28) → (vp_in (y4 + 1) L ∧ (∃ (r183 : Int32) (mi181 : Nat → Nat → Int32) (ml182 : Nat → Nat → Int64), call 131 [.ref 0, .int (xs ((y4 + 1)).toNatClampNeg)] (ab_G mi ml) (some (.int r183)) (ab_G mi181 ml182) ∧ (vp_in (y4 + 1) L ∧ (∃ (r186 : Int32) (mi184 : Nat → Nat → Int32) (ml185 : Nat → Nat → Int64), call 209 [.ref 40, .int (xs ((y4 + 1)).toNatClampNeg)] (ab_G mi181 ml182) (some (.int r186)) (ab_G mi184 ml185) ∧ (((r183 = r186) → (X (1304, [some (.ref 1000220), some (.ref 0), some (.ref 40), some (.ref 83), some (.int y4), none, none], [], 0, 0, (ab_G mi184 ml185)))) ∧ (¬ (r183 = r186) → (Q (some (.int 0)) (ab_G mi184 ml185))))))))) ∧ (¬ (((xs (y4).toNatClampNeg) &&& 31) = 28) → (((((xs (y4).toNatClampNeg) &&& 31) = 29) → (vp_in (y4 + 1) L ∧ (vp_in (y4 + 2) L ∧ (∃ (r189 : Int32) (mi187 : Nat → Nat → Int32) (ml188 : Nat → Nat → Int64), call 132 [.ref 0, .int (xs ((y4 + 1)).toNatClampNeg), .int (xs ((y4 + 2)).toNatClampNeg)] (ab_G mi ml) (some (.int r189)) (ab_G mi187 ml188) ∧ (vp_in (y4 + 1) L ∧ (vp_in (y4 + 2) L ∧ (∃ (r192 : Int32) (mi190 : Nat → Nat → Int32) (ml191 : Nat → Nat → Int64), call 240 [.ref 40, .int (xs ((y4 + 1)).toNatClampNeg), .int (xs ((y4 + 2)).toNatClampNeg)] (ab_G mi187 ml188) (some (.int r192)) (ab_G mi190 ml191) ∧ (((r189 = r192) → (X (1304, [some (.ref 1000220), some (.ref 0), some (.ref 40), some (.ref 83), some (.int y4), none, none], [], 0, 0, (ab_G mi190 ml191)))) ∧ (¬ (r189 = r192) → (Q (some (.int 0)) (ab_G mi190 ml191))))))))))) ∧ (¬ (((xs (y4).toNatClampNeg) &&& 31) = 29) → (((((xs (y4).toNatClampNeg) &&& 31) = 30) → (vp_in (y4 + 1) L ∧ (X (1256, [some (.ref 1000220), some (.ref 0), some (.ref 40), some (.ref 83), some (.int y4), none, none], [.ref 83, .int (xs ((y4 + 1)).toNatClampNeg), .ref 0], 0, 0, (ab_G mi ml))))) ∧ (¬ (((xs (y4).toNatClampNeg) &&& 31) = 30) → (X (1304, [some (.ref 1000220), some (.ref 0), some (.ref 40), some (.ref 83), some (.int y4), none, none], [], 0, 0, (ab_G mi ml)))))))))))))))))))))))))))))))))))))))))))))))))))))))))))))))))))) :
    ab_X call (ab_ro L xs) 0 0 (ab_lk2 pl_L_law) lw_sp2 Q X (23, [some (.ref 1000220), some (.ref 0), some (.ref 40), some (.ref 83), some (.int y4), none, none], [], 0, 0, ab_G mi ml) := by
  refine ab_xk 6 (f' := (if ((Int32.ofNat L) - 7) < y4 then 1310 else 33, [some (.ref 1000220), some (.ref 0), some (.ref 40), some (.ref 83), some (.int y4), none, none], [], 0, 0, (ab_G mi ml))) rfl ⟨trivial, trivial, trivial, trivial, trivial, trivial, trivial⟩ ?_
  refine ab_xi (fun c => ?_) (fun c => ?_)
  · have h := h.1 c
    exact ab_xr 2 rfl ⟨trivial, (Or.inr rfl)⟩ h
  · have h := h.2 c
    obtain ⟨p0, h⟩ := h
    refine ab_xk 6 (f' := (ab_sw ((xs (y4).toNatClampNeg) &&& 31) [(0, 180), (1, 205), (2, 230), (3, 377), (4, 390), (5, 415), (6, 440), (7, 477), (8, 502), (9, 527), (10, 564), (11, 601), (12, 626), (13, 663), (14, 700), (15, 737), (16, 762), (17, 787), (18, 824), (19, 861), (20, 910), (21, 975), (22, 1000), (23, 1037), (24, 1062), (25, 1087), (26, 1124), (27, 1161), (28, 1186), (29, 1211), (30, 1248)] 1304, [some (.ref 1000220), some (.ref 0), some (.ref 40), some (.ref 83), some (.int y4), none, none], [], 0, 0, (ab_G mi ml))) rfl ⟨trivial, trivial, p0, trivial, trivial, trivial, trivial⟩ ?_
    refine ab_xi (fun c => ?_) (fun c => ?_)
    · have h := h.1 c
      obtain ⟨p0, h⟩ := h
      obtain ⟨r3, mi1, ml2, hc, h⟩ := h
      refine ab_xc 7 (c := 103) (as := [.ref 0, .int (xs ((y4 + 1)).toNatClampNeg)]) (pc := 190) (ll := [some (.ref 1000220), some (.ref 0), some (.ref 40), some (.ref 83), some (.int y4), none, none]) (st := []) (c1 := 0) (s1 := 0) (g := (ab_G mi ml)) rfl ⟨trivial, trivial, trivial, trivial, trivial, p0, trivial⟩ hc ?_
      obtain ⟨p0, h⟩ := h
      obtain ⟨r6, mi4, ml5, hc, h⟩ := h
      refine ab_xc 7 (c := 179) (as := [.ref 40, .int (xs ((y4 + 1)).toNatClampNeg)]) (pc := 200) (ll := [some (.ref 1000220), some (.ref 0), some (.ref 40), some (.ref 83), some (.int y4), none, none]) (st := [.int r3]) (c1 := 0) (s1 := 0) (g := (ab_G mi1 ml2)) rfl ⟨trivial, trivial, trivial, trivial, trivial, p0, trivial⟩ hc ?_
      refine ab_xk 1 (f' := (if r3 = r6 then 1304 else 203, [some (.ref 1000220), some (.ref 0), some (.ref 40), some (.ref 83), some (.int y4), none, none], [], 0, 0, (ab_G mi4 ml5))) rfl ⟨trivial, trivial⟩ ?_
      refine ab_xi (fun c => ?_) (fun c => ?_)
      · have h := h.1 c
        exact ab_xs rfl h
      · have h := h.2 c
        exact ab_xr 2 rfl ⟨trivial, (Or.inl rfl)⟩ h
    · have h := h.2 c
      refine ab_xi (fun c => ?_) (fun c => ?_)
      · have h := h.1 c
        obtain ⟨p0, h⟩ := h
        obtain ⟨r9, mi7, ml8, hc, h⟩ := h
        refine ab_xc 7 (c := 104) (as := [.ref 0, .int (xs ((y4 + 1)).toNatClampNeg)]) (pc := 215) (ll := [some (.ref 1000220), some (.ref 0), some (.ref 40), some (.ref 83), some (.int y4), none, none]) (st := []) (c1 := 0) (s1 := 0) (g := (ab_G mi ml)) rfl ⟨trivial, trivial, trivial, trivial, trivial, p0, trivial⟩ hc ?_
        obtain ⟨p0, h⟩ := h
        obtain ⟨r12, mi10, ml11, hc, h⟩ := h
        refine ab_xc 7 (c := 180) (as := [.ref 40, .int (xs ((y4 + 1)).toNatClampNeg)]) (pc := 225) (ll := [some (.ref 1000220), some (.ref 0), some (.ref 40), some (.ref 83), some (.int y4), none, none]) (st := [.int r9]) (c1 := 0) (s1 := 0) (g := (ab_G mi7 ml8)) rfl ⟨trivial, trivial, trivial, trivial, trivial, p0, trivial⟩ hc ?_
        refine ab_xk 1 (f' := (if r9 = r12 then 1304 else 228, [some (.ref 1000220), some (.ref 0), some (.ref 40), some (.ref 83), some (.int y4), none, none], [], 0, 0, (ab_G mi10 ml11))) rfl ⟨trivial, trivial⟩ ?_
        refine ab_xi (fun c => ?_) (fun c => ?_)
        · have h := h.1 c
          exact ab_xs rfl h
        · have h := h.2 c
          exact ab_xr 2 rfl ⟨trivial, (Or.inl rfl)⟩ h
      · have h := h.2 c
        refine ab_xi (fun c => ?_) (fun c => ?_)
        · have h := h.1 c
          obtain ⟨p0, p1, p2, p3, p4, p5, h⟩ := h
          obtain ⟨r15, mi13, ml14, hc, h⟩ := h
          refine ab_xc 53 (c := 105) (as := [.ref 0, .long ((((xs ((y4 + 1)).toNatClampNeg) : Int32).toInt64 <<< (((32 : Int32)).toInt64 &&& 63)) ||| (((xs ((y4 + 2)).toNatClampNeg) : Int32).toInt64 &&& 4294967295)), .long ((((xs ((y4 + 3)).toNatClampNeg) : Int32).toInt64 <<< (((32 : Int32)).toInt64 &&& 63)) ||| (((xs ((y4 + 4)).toNatClampNeg) : Int32).toInt64 &&& 4294967295)), .long ((((xs ((y4 + 5)).toNatClampNeg) : Int32).toInt64 <<< (((32 : Int32)).toInt64 &&& 63)) ||| (((xs ((y4 + 6)).toNatClampNeg) : Int32).toInt64 &&& 4294967295))]) (pc := 301) (ll := [some (.ref 1000220), some (.ref 0), some (.ref 40), some (.ref 83), some (.int y4), none, none]) (st := []) (c1 := 0) (s1 := 0) (g := (ab_G mi ml)) rfl ⟨trivial, trivial, trivial, trivial, trivial, p0, trivial, trivial, trivial, trivial, trivial, trivial, trivial, p1, trivial, trivial, trivial, trivial, trivial, trivial, trivial, trivial, p2, trivial, trivial, trivial, trivial, trivial, trivial, trivial, p3, trivial, trivial, trivial, trivial, trivial, trivial, trivial, trivial, p4, trivial, trivial, trivial, trivial, trivial, trivial, trivial, p5, trivial, trivial, trivial, trivial, trivial⟩ hc ?_
          obtain ⟨p0, p1, p2, p3, p4, p5, h⟩ := h
          obtain ⟨r18, mi16, ml17, hc, h⟩ := h
          refine ab_xc 53 (c := 145) (as := [.ref 40, .long ((((xs ((y4 + 1)).toNatClampNeg) : Int32).toInt64 <<< (((32 : Int32)).toInt64 &&& 63)) ||| (((xs ((y4 + 2)).toNatClampNeg) : Int32).toInt64 &&& 4294967295)), .long ((((xs ((y4 + 3)).toNatClampNeg) : Int32).toInt64 <<< (((32 : Int32)).toInt64 &&& 63)) ||| (((xs ((y4 + 4)).toNatClampNeg) : Int32).toInt64 &&& 4294967295)), .long ((((xs ((y4 + 5)).toNatClampNeg) : Int32).toInt64 <<< (((32 : Int32)).toInt64 &&& 63)) ||| (((xs ((y4 + 6)).toNatClampNeg) : Int32).toInt64 &&& 4294967295))]) (pc := 372) (ll := [some (.ref 1000220), some (.ref 0), some (.ref 40), some (.ref 83), some (.int y4), none, none]) (st := [.int r15]) (c1 := 0) (s1 := 0) (g := (ab_G mi13 ml14)) rfl ⟨trivial, trivial, trivial, trivial, trivial, p0, trivial, trivial, trivial, trivial, trivial, trivial, trivial, p1, trivial, trivial, trivial, trivial, trivial, trivial, trivial, trivial, p2, trivial, trivial, trivial, trivial, trivial, trivial, trivial, p3, trivial, trivial, trivial, trivial, trivial, trivial, trivial, trivial, p4, trivial, trivial, trivial, trivial, trivial, trivial, trivial, p5, trivial, trivial, trivial, trivial, trivial⟩ hc ?_
          refine ab_xk 1 (f' := (if r15 = r18 then 1304 else 375, [some (.ref 1000220), some (.ref 0), some (.ref 40), some (.ref 83), some (.int y4), none, none], [], 0, 0, (ab_G mi16 ml17))) rfl ⟨trivial, trivial⟩ ?_
          refine ab_xi (fun c => ?_) (fun c => ?_)
          · have h := h.1 c
            exact ab_xs rfl h
          · have h := h.2 c
            exact ab_xr 2 rfl ⟨trivial, (Or.inl rfl)⟩ h
        · have h := h.2 c
          refine ab_xi (fun c => ?_) (fun c => ?_)
          · have h := h.1 c
            obtain ⟨r21, mi19, ml20, hc, h⟩ := h
            refine ab_xc 2 (c := 106) (as := [.ref 0]) (pc := 381) (ll := [some (.ref 1000220), some (.ref 0), some (.ref 40), some (.ref 83), some (.int y4), none, none]) (st := []) (c1 := 0) (s1 := 0) (g := (ab_G mi ml)) rfl ⟨trivial, trivial⟩ hc ?_
            obtain ⟨r24, mi22, ml23, hc, h⟩ := h
            refine ab_xc 2 (c := 170) (as := [.ref 40]) (pc := 385) (ll := [some (.ref 1000220), some (.ref 0), some (.ref 40), some (.ref 83), some (.int y4), none, none]) (st := [.int r21]) (c1 := 0) (s1 := 0) (g := (ab_G mi19 ml20)) rfl ⟨trivial, trivial⟩ hc ?_
            refine ab_xk 1 (f' := (if r21 = r24 then 1304 else 388, [some (.ref 1000220), some (.ref 0), some (.ref 40), some (.ref 83), some (.int y4), none, none], [], 0, 0, (ab_G mi22 ml23))) rfl ⟨trivial, trivial⟩ ?_
            refine ab_xi (fun c => ?_) (fun c => ?_)
            · have h := h.1 c
              exact ab_xs rfl h
            · have h := h.2 c
              exact ab_xr 2 rfl ⟨trivial, (Or.inl rfl)⟩ h
          · have h := h.2 c
            refine ab_xi (fun c => ?_) (fun c => ?_)
            · have h := h.1 c
              obtain ⟨p0, h⟩ := h
              obtain ⟨r27, mi25, ml26, hc, h⟩ := h
              refine ab_xc 7 (c := 107) (as := [.ref 0, .int (xs ((y4 + 1)).toNatClampNeg)]) (pc := 400) (ll := [some (.ref 1000220), some (.ref 0), some (.ref 40), some (.ref 83), some (.int y4), none, none]) (st := []) (c1 := 0) (s1 := 0) (g := (ab_G mi ml)) rfl ⟨trivial, trivial, trivial, trivial, trivial, p0, trivial⟩ hc ?_
              obtain ⟨p0, h⟩ := h
              obtain ⟨r30, mi28, ml29, hc, h⟩ := h
              refine ab_xc 7 (c := 171) (as := [.ref 40, .int (xs ((y4 + 1)).toNatClampNeg)]) (pc := 410) (ll := [some (.ref 1000220), some (.ref 0), some (.ref 40), some (.ref 83), some (.int y4), none, none]) (st := [.int r27]) (c1 := 0) (s1 := 0) (g := (ab_G mi25 ml26)) rfl ⟨trivial, trivial, trivial, trivial, trivial, p0, trivial⟩ hc ?_
              refine ab_xk 1 (f' := (if r27 = r30 then 1304 else 413, [some (.ref 1000220), some (.ref 0), some (.ref 40), some (.ref 83), some (.int y4), none, none], [], 0, 0, (ab_G mi28 ml29))) rfl ⟨trivial, trivial⟩ ?_
              refine ab_xi (fun c => ?_) (fun c => ?_)
              · have h := h.1 c
                exact ab_xs rfl h
              · have h := h.2 c
                exact ab_xr 2 rfl ⟨trivial, (Or.inl rfl)⟩ h
            · have h := h.2 c
              refine ab_xi (fun c => ?_) (fun c => ?_)
              · have h := h.1 c
                obtain ⟨p0, h⟩ := h
                obtain ⟨r33, mi31, ml32, hc, h⟩ := h
                refine ab_xc 7 (c := 108) (as := [.ref 0, .int (xs ((y4 + 1)).toNatClampNeg)]) (pc := 425) (ll := [some (.ref 1000220), some (.ref 0), some (.ref 40), some (.ref 83), some (.int y4), none, none]) (st := []) (c1 := 0) (s1 := 0) (g := (ab_G mi ml)) rfl ⟨trivial, trivial, trivial, trivial, trivial, p0, trivial⟩ hc ?_
                obtain ⟨p0, h⟩ := h
                obtain ⟨r36, mi34, ml35, hc, h⟩ := h
                refine ab_xc 7 (c := 184) (as := [.ref 40, .int (xs ((y4 + 1)).toNatClampNeg)]) (pc := 435) (ll := [some (.ref 1000220), some (.ref 0), some (.ref 40), some (.ref 83), some (.int y4), none, none]) (st := [.int r33]) (c1 := 0) (s1 := 0) (g := (ab_G mi31 ml32)) rfl ⟨trivial, trivial, trivial, trivial, trivial, p0, trivial⟩ hc ?_
                refine ab_xk 1 (f' := (if r33 = r36 then 1304 else 438, [some (.ref 1000220), some (.ref 0), some (.ref 40), some (.ref 83), some (.int y4), none, none], [], 0, 0, (ab_G mi34 ml35))) rfl ⟨trivial, trivial⟩ ?_
                refine ab_xi (fun c => ?_) (fun c => ?_)
                · have h := h.1 c
                  exact ab_xs rfl h
                · have h := h.2 c
                  exact ab_xr 2 rfl ⟨trivial, (Or.inl rfl)⟩ h
              · have h := h.2 c
                refine ab_xi (fun c => ?_) (fun c => ?_)
                · have h := h.1 c
                  obtain ⟨p0, p1, h⟩ := h
                  obtain ⟨r39, mi37, ml38, hc, h⟩ := h
                  refine ab_xc 12 (c := 109) (as := [.ref 0, .int (xs ((y4 + 1)).toNatClampNeg), .int (xs ((y4 + 2)).toNatClampNeg)]) (pc := 456) (ll := [some (.ref 1000220), some (.ref 0), some (.ref 40), some (.ref 83), some (.int y4), none, none]) (st := []) (c1 := 0) (s1 := 0) (g := (ab_G mi ml)) rfl ⟨trivial, trivial, trivial, trivial, trivial, p0, trivial, trivial, trivial, trivial, p1, trivial⟩ hc ?_
                  obtain ⟨p0, p1, h⟩ := h
                  obtain ⟨r42, mi40, ml41, hc, h⟩ := h
                  refine ab_xc 12 (c := 185) (as := [.ref 40, .int (xs ((y4 + 1)).toNatClampNeg), .int (xs ((y4 + 2)).toNatClampNeg)]) (pc := 472) (ll := [some (.ref 1000220), some (.ref 0), some (.ref 40), some (.ref 83), some (.int y4), none, none]) (st := [.int r39]) (c1 := 0) (s1 := 0) (g := (ab_G mi37 ml38)) rfl ⟨trivial, trivial, trivial, trivial, trivial, p0, trivial, trivial, trivial, trivial, p1, trivial⟩ hc ?_
                  refine ab_xk 1 (f' := (if r39 = r42 then 1304 else 475, [some (.ref 1000220), some (.ref 0), some (.ref 40), some (.ref 83), some (.int y4), none, none], [], 0, 0, (ab_G mi40 ml41))) rfl ⟨trivial, trivial⟩ ?_
                  refine ab_xi (fun c => ?_) (fun c => ?_)
                  · have h := h.1 c
                    exact ab_xs rfl h
                  · have h := h.2 c
                    exact ab_xr 2 rfl ⟨trivial, (Or.inl rfl)⟩ h
                · have h := h.2 c
                  refine ab_xi (fun c => ?_) (fun c => ?_)
                  · have h := h.1 c
                    obtain ⟨p0, h⟩ := h
                    obtain ⟨r45, mi43, ml44, hc, h⟩ := h
                    refine ab_xc 7 (c := 110) (as := [.ref 0, .int (xs ((y4 + 1)).toNatClampNeg)]) (pc := 487) (ll := [some (.ref 1000220), some (.ref 0), some (.ref 40), some (.ref 83), some (.int y4), none, none]) (st := []) (c1 := 0) (s1 := 0) (g := (ab_G mi ml)) rfl ⟨trivial, trivial, trivial, trivial, trivial, p0, trivial⟩ hc ?_
                    obtain ⟨p0, h⟩ := h
                    obtain ⟨r48, mi46, ml47, hc, h⟩ := h
                    refine ab_xc 7 (c := 192) (as := [.ref 40, .int (xs ((y4 + 1)).toNatClampNeg)]) (pc := 497) (ll := [some (.ref 1000220), some (.ref 0), some (.ref 40), some (.ref 83), some (.int y4), none, none]) (st := [.int r45]) (c1 := 0) (s1 := 0) (g := (ab_G mi43 ml44)) rfl ⟨trivial, trivial, trivial, trivial, trivial, p0, trivial⟩ hc ?_
                    refine ab_xk 1 (f' := (if r45 = r48 then 1304 else 500, [some (.ref 1000220), some (.ref 0), some (.ref 40), some (.ref 83), some (.int y4), none, none], [], 0, 0, (ab_G mi46 ml47))) rfl ⟨trivial, trivial⟩ ?_
                    refine ab_xi (fun c => ?_) (fun c => ?_)
                    · have h := h.1 c
                      exact ab_xs rfl h
                    · have h := h.2 c
                      exact ab_xr 2 rfl ⟨trivial, (Or.inl rfl)⟩ h
                  · have h := h.2 c
                    refine ab_xi (fun c => ?_) (fun c => ?_)
                    · have h := h.1 c
                      obtain ⟨p0, h⟩ := h
                      obtain ⟨r51, mi49, ml50, hc, h⟩ := h
                      refine ab_xc 7 (c := 111) (as := [.ref 0, .int (xs ((y4 + 1)).toNatClampNeg)]) (pc := 512) (ll := [some (.ref 1000220), some (.ref 0), some (.ref 40), some (.ref 83), some (.int y4), none, none]) (st := []) (c1 := 0) (s1 := 0) (g := (ab_G mi ml)) rfl ⟨trivial, trivial, trivial, trivial, trivial, p0, trivial⟩ hc ?_
                      obtain ⟨p0, h⟩ := h
                      obtain ⟨r54, mi52, ml53, hc, h⟩ := h
                      refine ab_xc 7 (c := 193) (as := [.ref 40, .int (xs ((y4 + 1)).toNatClampNeg)]) (pc := 522) (ll := [some (.ref 1000220), some (.ref 0), some (.ref 40), some (.ref 83), some (.int y4), none, none]) (st := [.int r51]) (c1 := 0) (s1 := 0) (g := (ab_G mi49 ml50)) rfl ⟨trivial, trivial, trivial, trivial, trivial, p0, trivial⟩ hc ?_
                      refine ab_xk 1 (f' := (if r51 = r54 then 1304 else 525, [some (.ref 1000220), some (.ref 0), some (.ref 40), some (.ref 83), some (.int y4), none, none], [], 0, 0, (ab_G mi52 ml53))) rfl ⟨trivial, trivial⟩ ?_
                      refine ab_xi (fun c => ?_) (fun c => ?_)
                      · have h := h.1 c
                        exact ab_xs rfl h
                      · have h := h.2 c
                        exact ab_xr 2 rfl ⟨trivial, (Or.inl rfl)⟩ h
                    · have h := h.2 c
                      refine ab_xi (fun c => ?_) (fun c => ?_)
                      · have h := h.1 c
                        obtain ⟨p0, p1, h⟩ := h
                        obtain ⟨r57, mi55, ml56, hc, h⟩ := h
                        refine ab_xc 12 (c := 112) (as := [.ref 0, .int (xs ((y4 + 1)).toNatClampNeg), .int (xs ((y4 + 2)).toNatClampNeg)]) (pc := 543) (ll := [some (.ref 1000220), some (.ref 0), some (.ref 40), some (.ref 83), some (.int y4), none, none]) (st := []) (c1 := 0) (s1 := 0) (g := (ab_G mi ml)) rfl ⟨trivial, trivial, trivial, trivial, trivial, p0, trivial, trivial, trivial, trivial, p1, trivial⟩ hc ?_
                        obtain ⟨p0, p1, h⟩ := h
                        obtain ⟨r60, mi58, ml59, hc, h⟩ := h
                        refine ab_xc 12 (c := 194) (as := [.ref 40, .int (xs ((y4 + 1)).toNatClampNeg), .int (xs ((y4 + 2)).toNatClampNeg)]) (pc := 559) (ll := [some (.ref 1000220), some (.ref 0), some (.ref 40), some (.ref 83), some (.int y4), none, none]) (st := [.int r57]) (c1 := 0) (s1 := 0) (g := (ab_G mi55 ml56)) rfl ⟨trivial, trivial, trivial, trivial, trivial, p0, trivial, trivial, trivial, trivial, p1, trivial⟩ hc ?_
                        refine ab_xk 1 (f' := (if r57 = r60 then 1304 else 562, [some (.ref 1000220), some (.ref 0), some (.ref 40), some (.ref 83), some (.int y4), none, none], [], 0, 0, (ab_G mi58 ml59))) rfl ⟨trivial, trivial⟩ ?_
                        refine ab_xi (fun c => ?_) (fun c => ?_)
                        · have h := h.1 c
                          exact ab_xs rfl h
                        · have h := h.2 c
                          exact ab_xr 2 rfl ⟨trivial, (Or.inl rfl)⟩ h
                      · have h := h.2 c
                        refine ab_xi (fun c => ?_) (fun c => ?_)
                        · have h := h.1 c
                          obtain ⟨p0, p1, h⟩ := h
                          obtain ⟨r63, mi61, ml62, hc, h⟩ := h
                          refine ab_xc 12 (c := 113) (as := [.ref 0, .int (xs ((y4 + 1)).toNatClampNeg), .int (xs ((y4 + 2)).toNatClampNeg)]) (pc := 580) (ll := [some (.ref 1000220), some (.ref 0), some (.ref 40), some (.ref 83), some (.int y4), none, none]) (st := []) (c1 := 0) (s1 := 0) (g := (ab_G mi ml)) rfl ⟨trivial, trivial, trivial, trivial, trivial, p0, trivial, trivial, trivial, trivial, p1, trivial⟩ hc ?_
                          obtain ⟨p0, p1, h⟩ := h
                          obtain ⟨r66, mi64, ml65, hc, h⟩ := h
                          refine ab_xc 12 (c := 199) (as := [.ref 40, .int (xs ((y4 + 1)).toNatClampNeg), .int (xs ((y4 + 2)).toNatClampNeg)]) (pc := 596) (ll := [some (.ref 1000220), some (.ref 0), some (.ref 40), some (.ref 83), some (.int y4), none, none]) (st := [.int r63]) (c1 := 0) (s1 := 0) (g := (ab_G mi61 ml62)) rfl ⟨trivial, trivial, trivial, trivial, trivial, p0, trivial, trivial, trivial, trivial, p1, trivial⟩ hc ?_
                          refine ab_xk 1 (f' := (if r63 = r66 then 1304 else 599, [some (.ref 1000220), some (.ref 0), some (.ref 40), some (.ref 83), some (.int y4), none, none], [], 0, 0, (ab_G mi64 ml65))) rfl ⟨trivial, trivial⟩ ?_
                          refine ab_xi (fun c => ?_) (fun c => ?_)
                          · have h := h.1 c
                            exact ab_xs rfl h
                          · have h := h.2 c
                            exact ab_xr 2 rfl ⟨trivial, (Or.inl rfl)⟩ h
                        · have h := h.2 c
                          refine ab_xi (fun c => ?_) (fun c => ?_)
                          · have h := h.1 c
                            obtain ⟨p0, h⟩ := h
                            obtain ⟨r69, mi67, ml68, hc, h⟩ := h
                            refine ab_xc 7 (c := 114) (as := [.ref 0, .int (xs ((y4 + 1)).toNatClampNeg)]) (pc := 611) (ll := [some (.ref 1000220), some (.ref 0), some (.ref 40), some (.ref 83), some (.int y4), none, none]) (st := []) (c1 := 0) (s1 := 0) (g := (ab_G mi ml)) rfl ⟨trivial, trivial, trivial, trivial, trivial, p0, trivial⟩ hc ?_
                            obtain ⟨p0, h⟩ := h
                            obtain ⟨r72, mi70, ml71, hc, h⟩ := h
                            refine ab_xc 7 (c := 172) (as := [.ref 40, .int (xs ((y4 + 1)).toNatClampNeg)]) (pc := 621) (ll := [some (.ref 1000220), some (.ref 0), some (.ref 40), some (.ref 83), some (.int y4), none, none]) (st := [.int r69]) (c1 := 0) (s1 := 0) (g := (ab_G mi67 ml68)) rfl ⟨trivial, trivial, trivial, trivial, trivial, p0, trivial⟩ hc ?_
                            refine ab_xk 1 (f' := (if r69 = r72 then 1304 else 624, [some (.ref 1000220), some (.ref 0), some (.ref 40), some (.ref 83), some (.int y4), none, none], [], 0, 0, (ab_G mi70 ml71))) rfl ⟨trivial, trivial⟩ ?_
                            refine ab_xi (fun c => ?_) (fun c => ?_)
                            · have h := h.1 c
                              exact ab_xs rfl h
                            · have h := h.2 c
                              exact ab_xr 2 rfl ⟨trivial, (Or.inl rfl)⟩ h
                          · have h := h.2 c
                            refine ab_xi (fun c => ?_) (fun c => ?_)
                            · have h := h.1 c
                              obtain ⟨p0, p1, h⟩ := h
                              obtain ⟨r75, mi73, ml74, hc, h⟩ := h
                              refine ab_xc 12 (c := 115) (as := [.ref 0, .int (xs ((y4 + 1)).toNatClampNeg), .int (xs ((y4 + 2)).toNatClampNeg)]) (pc := 642) (ll := [some (.ref 1000220), some (.ref 0), some (.ref 40), some (.ref 83), some (.int y4), none, none]) (st := []) (c1 := 0) (s1 := 0) (g := (ab_G mi ml)) rfl ⟨trivial, trivial, trivial, trivial, trivial, p0, trivial, trivial, trivial, trivial, p1, trivial⟩ hc ?_
                              obtain ⟨p0, p1, h⟩ := h
                              obtain ⟨r78, mi76, ml77, hc, h⟩ := h
                              refine ab_xc 12 (c := 175) (as := [.ref 40, .int (xs ((y4 + 1)).toNatClampNeg), .int (xs ((y4 + 2)).toNatClampNeg)]) (pc := 658) (ll := [some (.ref 1000220), some (.ref 0), some (.ref 40), some (.ref 83), some (.int y4), none, none]) (st := [.int r75]) (c1 := 0) (s1 := 0) (g := (ab_G mi73 ml74)) rfl ⟨trivial, trivial, trivial, trivial, trivial, p0, trivial, trivial, trivial, trivial, p1, trivial⟩ hc ?_
                              refine ab_xk 1 (f' := (if r75 = r78 then 1304 else 661, [some (.ref 1000220), some (.ref 0), some (.ref 40), some (.ref 83), some (.int y4), none, none], [], 0, 0, (ab_G mi76 ml77))) rfl ⟨trivial, trivial⟩ ?_
                              refine ab_xi (fun c => ?_) (fun c => ?_)
                              · have h := h.1 c
                                exact ab_xs rfl h
                              · have h := h.2 c
                                exact ab_xr 2 rfl ⟨trivial, (Or.inl rfl)⟩ h
                            · have h := h.2 c
                              refine ab_xi (fun c => ?_) (fun c => ?_)
                              · have h := h.1 c
                                obtain ⟨p0, p1, h⟩ := h
                                obtain ⟨r81, mi79, ml80, hc, h⟩ := h
                                refine ab_xc 12 (c := 116) (as := [.ref 0, .int (xs ((y4 + 1)).toNatClampNeg), .int (xs ((y4 + 2)).toNatClampNeg)]) (pc := 679) (ll := [some (.ref 1000220), some (.ref 0), some (.ref 40), some (.ref 83), some (.int y4), none, none]) (st := []) (c1 := 0) (s1 := 0) (g := (ab_G mi ml)) rfl ⟨trivial, trivial, trivial, trivial, trivial, p0, trivial, trivial, trivial, trivial, p1, trivial⟩ hc ?_
                                obtain ⟨p0, p1, h⟩ := h
                                obtain ⟨r84, mi82, ml83, hc, h⟩ := h
                                refine ab_xc 12 (c := 205) (as := [.ref 40, .int (xs ((y4 + 1)).toNatClampNeg), .int (xs ((y4 + 2)).toNatClampNeg)]) (pc := 695) (ll := [some (.ref 1000220), some (.ref 0), some (.ref 40), some (.ref 83), some (.int y4), none, none]) (st := [.int r81]) (c1 := 0) (s1 := 0) (g := (ab_G mi79 ml80)) rfl ⟨trivial, trivial, trivial, trivial, trivial, p0, trivial, trivial, trivial, trivial, p1, trivial⟩ hc ?_
                                refine ab_xk 1 (f' := (if r81 = r84 then 1304 else 698, [some (.ref 1000220), some (.ref 0), some (.ref 40), some (.ref 83), some (.int y4), none, none], [], 0, 0, (ab_G mi82 ml83))) rfl ⟨trivial, trivial⟩ ?_
                                refine ab_xi (fun c => ?_) (fun c => ?_)
                                · have h := h.1 c
                                  exact ab_xs rfl h
                                · have h := h.2 c
                                  exact ab_xr 2 rfl ⟨trivial, (Or.inl rfl)⟩ h
                              · have h := h.2 c
                                refine ab_xi (fun c => ?_) (fun c => ?_)
                                · have h := h.1 c
                                  obtain ⟨p0, p1, h⟩ := h
                                  obtain ⟨r87, mi85, ml86, hc, h⟩ := h
                                  refine ab_xc 12 (c := 117) (as := [.ref 0, .int (xs ((y4 + 1)).toNatClampNeg), .int (xs ((y4 + 2)).toNatClampNeg)]) (pc := 716) (ll := [some (.ref 1000220), some (.ref 0), some (.ref 40), some (.ref 83), some (.int y4), none, none]) (st := []) (c1 := 0) (s1 := 0) (g := (ab_G mi ml)) rfl ⟨trivial, trivial, trivial, trivial, trivial, p0, trivial, trivial, trivial, trivial, p1, trivial⟩ hc ?_
                                  obtain ⟨p0, p1, h⟩ := h
                                  obtain ⟨r90, mi88, ml89, hc, h⟩ := h
                                  refine ab_xc 12 (c := 214) (as := [.ref 40, .int (xs ((y4 + 1)).toNatClampNeg), .int (xs ((y4 + 2)).toNatClampNeg)]) (pc := 732) (ll := [some (.ref 1000220), some (.ref 0), some (.ref 40), some (.ref 83), some (.int y4), none, none]) (st := [.int r87]) (c1 := 0) (s1 := 0) (g := (ab_G mi85 ml86)) rfl ⟨trivial, trivial, trivial, trivial, trivial, p0, trivial, trivial, trivial, trivial, p1, trivial⟩ hc ?_
                                  refine ab_xk 1 (f' := (if r87 = r90 then 1304 else 735, [some (.ref 1000220), some (.ref 0), some (.ref 40), some (.ref 83), some (.int y4), none, none], [], 0, 0, (ab_G mi88 ml89))) rfl ⟨trivial, trivial⟩ ?_
                                  refine ab_xi (fun c => ?_) (fun c => ?_)
                                  · have h := h.1 c
                                    exact ab_xs rfl h
                                  · have h := h.2 c
                                    exact ab_xr 2 rfl ⟨trivial, (Or.inl rfl)⟩ h
                                · have h := h.2 c
                                  refine ab_xi (fun c => ?_) (fun c => ?_)
                                  · have h := h.1 c
                                    obtain ⟨p0, h⟩ := h
                                    obtain ⟨r93, mi91, ml92, hc, h⟩ := h
                                    refine ab_xc 7 (c := 118) (as := [.ref 0, .int (xs ((y4 + 1)).toNatClampNeg)]) (pc := 747) (ll := [some (.ref 1000220), some (.ref 0), some (.ref 40), some (.ref 83), some (.int y4), none, none]) (st := []) (c1 := 0) (s1 := 0) (g := (ab_G mi ml)) rfl ⟨trivial, trivial, trivial, trivial, trivial, p0, trivial⟩ hc ?_
                                    obtain ⟨p0, h⟩ := h
                                    obtain ⟨r96, mi94, ml95, hc, h⟩ := h
                                    refine ab_xc 7 (c := 216) (as := [.ref 40, .int (xs ((y4 + 1)).toNatClampNeg)]) (pc := 757) (ll := [some (.ref 1000220), some (.ref 0), some (.ref 40), some (.ref 83), some (.int y4), none, none]) (st := [.int r93]) (c1 := 0) (s1 := 0) (g := (ab_G mi91 ml92)) rfl ⟨trivial, trivial, trivial, trivial, trivial, p0, trivial⟩ hc ?_
                                    refine ab_xk 1 (f' := (if r93 = r96 then 1304 else 760, [some (.ref 1000220), some (.ref 0), some (.ref 40), some (.ref 83), some (.int y4), none, none], [], 0, 0, (ab_G mi94 ml95))) rfl ⟨trivial, trivial⟩ ?_
                                    refine ab_xi (fun c => ?_) (fun c => ?_)
                                    · have h := h.1 c
                                      exact ab_xs rfl h
                                    · have h := h.2 c
                                      exact ab_xr 2 rfl ⟨trivial, (Or.inl rfl)⟩ h
                                  · have h := h.2 c
                                    refine ab_xi (fun c => ?_) (fun c => ?_)
                                    · have h := h.1 c
                                      obtain ⟨p0, h⟩ := h
                                      obtain ⟨r99, mi97, ml98, hc, h⟩ := h
                                      refine ab_xc 7 (c := 119) (as := [.ref 0, .int (xs ((y4 + 1)).toNatClampNeg)]) (pc := 772) (ll := [some (.ref 1000220), some (.ref 0), some (.ref 40), some (.ref 83), some (.int y4), none, none]) (st := []) (c1 := 0) (s1 := 0) (g := (ab_G mi ml)) rfl ⟨trivial, trivial, trivial, trivial, trivial, p0, trivial⟩ hc ?_
                                      obtain ⟨p0, h⟩ := h
                                      obtain ⟨r102, mi100, ml101, hc, h⟩ := h
                                      refine ab_xc 7 (c := 219) (as := [.ref 40, .int (xs ((y4 + 1)).toNatClampNeg)]) (pc := 782) (ll := [some (.ref 1000220), some (.ref 0), some (.ref 40), some (.ref 83), some (.int y4), none, none]) (st := [.int r99]) (c1 := 0) (s1 := 0) (g := (ab_G mi97 ml98)) rfl ⟨trivial, trivial, trivial, trivial, trivial, p0, trivial⟩ hc ?_
                                      refine ab_xk 1 (f' := (if r99 = r102 then 1304 else 785, [some (.ref 1000220), some (.ref 0), some (.ref 40), some (.ref 83), some (.int y4), none, none], [], 0, 0, (ab_G mi100 ml101))) rfl ⟨trivial, trivial⟩ ?_
                                      refine ab_xi (fun c => ?_) (fun c => ?_)
                                      · have h := h.1 c
                                        exact ab_xs rfl h
                                      · have h := h.2 c
                                        exact ab_xr 2 rfl ⟨trivial, (Or.inl rfl)⟩ h
                                    · have h := h.2 c
                                      refine ab_xi (fun c => ?_) (fun c => ?_)
                                      · have h := h.1 c
                                        obtain ⟨p0, p1, h⟩ := h
                                        obtain ⟨r105, mi103, ml104, hc, h⟩ := h
                                        refine ab_xc 12 (c := 120) (as := [.ref 0, .int (xs ((y4 + 1)).toNatClampNeg), .int (xs ((y4 + 2)).toNatClampNeg)]) (pc := 803) (ll := [some (.ref 1000220), some (.ref 0), some (.ref 40), some (.ref 83), some (.int y4), none, none]) (st := []) (c1 := 0) (s1 := 0) (g := (ab_G mi ml)) rfl ⟨trivial, trivial, trivial, trivial, trivial, p0, trivial, trivial, trivial, trivial, p1, trivial⟩ hc ?_
                                        obtain ⟨p0, p1, h⟩ := h
                                        obtain ⟨r108, mi106, ml107, hc, h⟩ := h
                                        refine ab_xc 12 (c := 220) (as := [.ref 40, .int (xs ((y4 + 1)).toNatClampNeg), .int (xs ((y4 + 2)).toNatClampNeg)]) (pc := 819) (ll := [some (.ref 1000220), some (.ref 0), some (.ref 40), some (.ref 83), some (.int y4), none, none]) (st := [.int r105]) (c1 := 0) (s1 := 0) (g := (ab_G mi103 ml104)) rfl ⟨trivial, trivial, trivial, trivial, trivial, p0, trivial, trivial, trivial, trivial, p1, trivial⟩ hc ?_
                                        refine ab_xk 1 (f' := (if r105 = r108 then 1304 else 822, [some (.ref 1000220), some (.ref 0), some (.ref 40), some (.ref 83), some (.int y4), none, none], [], 0, 0, (ab_G mi106 ml107))) rfl ⟨trivial, trivial⟩ ?_
                                        refine ab_xi (fun c => ?_) (fun c => ?_)
                                        · have h := h.1 c
                                          exact ab_xs rfl h
                                        · have h := h.2 c
                                          exact ab_xr 2 rfl ⟨trivial, (Or.inl rfl)⟩ h
                                      · have h := h.2 c
                                        refine ab_xi (fun c => ?_) (fun c => ?_)
                                        · have h := h.1 c
                                          obtain ⟨p0, p1, h⟩ := h
                                          obtain ⟨r111, mi109, ml110, hc, h⟩ := h
                                          refine ab_xc 12 (c := 121) (as := [.ref 0, .int (xs ((y4 + 1)).toNatClampNeg), .int (xs ((y4 + 2)).toNatClampNeg)]) (pc := 840) (ll := [some (.ref 1000220), some (.ref 0), some (.ref 40), some (.ref 83), some (.int y4), none, none]) (st := []) (c1 := 0) (s1 := 0) (g := (ab_G mi ml)) rfl ⟨trivial, trivial, trivial, trivial, trivial, p0, trivial, trivial, trivial, trivial, p1, trivial⟩ hc ?_
                                          obtain ⟨p0, p1, h⟩ := h
                                          obtain ⟨r114, mi112, ml113, hc, h⟩ := h
                                          refine ab_xc 12 (c := 222) (as := [.ref 40, .int (xs ((y4 + 1)).toNatClampNeg), .int (xs ((y4 + 2)).toNatClampNeg)]) (pc := 856) (ll := [some (.ref 1000220), some (.ref 0), some (.ref 40), some (.ref 83), some (.int y4), none, none]) (st := [.int r111]) (c1 := 0) (s1 := 0) (g := (ab_G mi109 ml110)) rfl ⟨trivial, trivial, trivial, trivial, trivial, p0, trivial, trivial, trivial, trivial, p1, trivial⟩ hc ?_
                                          refine ab_xk 1 (f' := (if r111 = r114 then 1304 else 859, [some (.ref 1000220), some (.ref 0), some (.ref 40), some (.ref 83), some (.int y4), none, none], [], 0, 0, (ab_G mi112 ml113))) rfl ⟨trivial, trivial⟩ ?_
                                          refine ab_xi (fun c => ?_) (fun c => ?_)
                                          · have h := h.1 c
                                            exact ab_xs rfl h
                                          · have h := h.2 c
                                            exact ab_xr 2 rfl ⟨trivial, (Or.inl rfl)⟩ h
                                        · have h := h.2 c
                                          refine ab_xi (fun c => ?_) (fun c => ?_)
                                          · have h := h.1 c
                                            obtain ⟨p0, p1, p2, h⟩ := h
                                            obtain ⟨r117, mi115, ml116, hc, h⟩ := h
                                            refine ab_xc 17 (c := 122) (as := [.ref 0, .int (xs ((y4 + 1)).toNatClampNeg), .int (xs ((y4 + 2)).toNatClampNeg), .int (xs ((y4 + 3)).toNatClampNeg)]) (pc := 883) (ll := [some (.ref 1000220), some (.ref 0), some (.ref 40), some (.ref 83), some (.int y4), none, none]) (st := []) (c1 := 0) (s1 := 0) (g := (ab_G mi ml)) rfl ⟨trivial, trivial, trivial, trivial, trivial, p0, trivial, trivial, trivial, trivial, p1, trivial, trivial, trivial, trivial, p2, trivial⟩ hc ?_
                                            obtain ⟨p0, p1, p2, h⟩ := h
                                            obtain ⟨r120, mi118, ml119, hc, h⟩ := h
                                            refine ab_xc 17 (c := 223) (as := [.ref 40, .int (xs ((y4 + 1)).toNatClampNeg), .int (xs ((y4 + 2)).toNatClampNeg), .int (xs ((y4 + 3)).toNatClampNeg)]) (pc := 905) (ll := [some (.ref 1000220), some (.ref 0), some (.ref 40), some (.ref 83), some (.int y4), none, none]) (st := [.int r117]) (c1 := 0) (s1 := 0) (g := (ab_G mi115 ml116)) rfl ⟨trivial, trivial, trivial, trivial, trivial, p0, trivial, trivial, trivial, trivial, p1, trivial, trivial, trivial, trivial, p2, trivial⟩ hc ?_
                                            refine ab_xk 1 (f' := (if r117 = r120 then 1304 else 908, [some (.ref 1000220), some (.ref 0), some (.ref 40), some (.ref 83), some (.int y4), none, none], [], 0, 0, (ab_G mi118 ml119))) rfl ⟨trivial, trivial⟩ ?_
                                            refine ab_xi (fun c => ?_) (fun c => ?_)
                                            · have h := h.1 c
                                              exact ab_xs rfl h
                                            · have h := h.2 c
                                              exact ab_xr 2 rfl ⟨trivial, (Or.inl rfl)⟩ h
                                          · have h := h.2 c
                                            refine ab_xi (fun c => ?_) (fun c => ?_)
                                            · have h := h.1 c
                                              obtain ⟨p0, p1, p2, h⟩ := h
                                              refine ab_xk 17 (f' := (if (xs ((y4 + 3)).toNatClampNeg) = 0 then 936 else 932, [some (.ref 1000220), some (.ref 0), some (.ref 40), some (.ref 83), some (.int y4), none, none], [.int (xs ((y4 + 2)).toNatClampNeg), .int (xs ((y4 + 1)).toNatClampNeg), .ref 0], 0, 0, (ab_G mi ml))) rfl ⟨trivial, trivial, trivial, trivial, trivial, p0, trivial, trivial, trivial, trivial, p1, trivial, trivial, trivial, trivial, p2, trivial, trivial⟩ ?_
                                              refine ab_xi (fun c => ?_) (fun c => ?_)
                                              · have h := h.1 c
                                                obtain ⟨r123, mi121, ml122, hc, h⟩ := h
                                                refine ab_xc 2 (c := 123) (as := [.ref 0, .int (xs ((y4 + 1)).toNatClampNeg), .int (xs ((y4 + 2)).toNatClampNeg), .int 0]) (pc := 940) (ll := [some (.ref 1000220), some (.ref 0), some (.ref 40), some (.ref 83), some (.int y4), none, none]) (st := []) (c1 := 0) (s1 := 0) (g := (ab_G mi ml)) rfl ⟨trivial, trivial⟩ hc ?_
                                                obtain ⟨p0, p1, p2, h⟩ := h
                                                refine ab_xk 17 (f' := (if (xs ((y4 + 3)).toNatClampNeg) = 0 then 966 else 962, [some (.ref 1000220), some (.ref 0), some (.ref 40), some (.ref 83), some (.int y4), none, none], [.int (xs ((y4 + 2)).toNatClampNeg), .int (xs ((y4 + 1)).toNatClampNeg), .ref 40, .int r123], 0, 0, (ab_G mi121 ml122))) rfl ⟨trivial, trivial, trivial, trivial, trivial, p0, trivial, trivial, trivial, trivial, p1, trivial, trivial, trivial, trivial, p2, trivial, trivial⟩ ?_
                                                refine ab_xi (fun c => ?_) (fun c => ?_)
                                                · have h := h.1 c
                                                  obtain ⟨r126, mi124, ml125, hc, h⟩ := h
                                                  refine ab_xc 2 (c := 224) (as := [.ref 40, .int (xs ((y4 + 1)).toNatClampNeg), .int (xs ((y4 + 2)).toNatClampNeg), .int 0]) (pc := 970) (ll := [some (.ref 1000220), some (.ref 0), some (.ref 40), some (.ref 83), some (.int y4), none, none]) (st := [.int r123]) (c1 := 0) (s1 := 0) (g := (ab_G mi121 ml122)) rfl ⟨trivial, trivial⟩ hc ?_
                                                  refine ab_xk 1 (f' := (if r123 = r126 then 1304 else 973, [some (.ref 1000220), some (.ref 0), some (.ref 40), some (.ref 83), some (.int y4), none, none], [], 0, 0, (ab_G mi124 ml125))) rfl ⟨trivial, trivial⟩ ?_
                                                  refine ab_xi (fun c => ?_) (fun c => ?_)
                                                  · have h := h.1 c
                                                    exact ab_xs rfl h
                                                  · have h := h.2 c
                                                    exact ab_xr 2 rfl ⟨trivial, (Or.inl rfl)⟩ h
                                                · have h := h.2 c
                                                  obtain ⟨r129, mi127, ml128, hc, h⟩ := h
                                                  refine ab_xc 3 (c := 224) (as := [.ref 40, .int (xs ((y4 + 1)).toNatClampNeg), .int (xs ((y4 + 2)).toNatClampNeg), .int 1]) (pc := 970) (ll := [some (.ref 1000220), some (.ref 0), some (.ref 40), some (.ref 83), some (.int y4), none, none]) (st := [.int r123]) (c1 := 0) (s1 := 0) (g := (ab_G mi121 ml122)) rfl ⟨trivial, trivial, trivial⟩ hc ?_
                                                  refine ab_xk 1 (f' := (if r123 = r129 then 1304 else 973, [some (.ref 1000220), some (.ref 0), some (.ref 40), some (.ref 83), some (.int y4), none, none], [], 0, 0, (ab_G mi127 ml128))) rfl ⟨trivial, trivial⟩ ?_
                                                  refine ab_xi (fun c => ?_) (fun c => ?_)
                                                  · have h := h.1 c
                                                    exact ab_xs rfl h
                                                  · have h := h.2 c
                                                    exact ab_xr 2 rfl ⟨trivial, (Or.inl rfl)⟩ h
                                              · have h := h.2 c
                                                obtain ⟨r132, mi130, ml131, hc, h⟩ := h
                                                refine ab_xc 3 (c := 123) (as := [.ref 0, .int (xs ((y4 + 1)).toNatClampNeg), .int (xs ((y4 + 2)).toNatClampNeg), .int 1]) (pc := 940) (ll := [some (.ref 1000220), some (.ref 0), some (.ref 40), some (.ref 83), some (.int y4), none, none]) (st := []) (c1 := 0) (s1 := 0) (g := (ab_G mi ml)) rfl ⟨trivial, trivial, trivial⟩ hc ?_
                                                obtain ⟨p0, p1, p2, h⟩ := h
                                                refine ab_xk 17 (f' := (if (xs ((y4 + 3)).toNatClampNeg) = 0 then 966 else 962, [some (.ref 1000220), some (.ref 0), some (.ref 40), some (.ref 83), some (.int y4), none, none], [.int (xs ((y4 + 2)).toNatClampNeg), .int (xs ((y4 + 1)).toNatClampNeg), .ref 40, .int r132], 0, 0, (ab_G mi130 ml131))) rfl ⟨trivial, trivial, trivial, trivial, trivial, p0, trivial, trivial, trivial, trivial, p1, trivial, trivial, trivial, trivial, p2, trivial, trivial⟩ ?_
                                                refine ab_xi (fun c => ?_) (fun c => ?_)
                                                · have h := h.1 c
                                                  obtain ⟨r135, mi133, ml134, hc, h⟩ := h
                                                  refine ab_xc 2 (c := 224) (as := [.ref 40, .int (xs ((y4 + 1)).toNatClampNeg), .int (xs ((y4 + 2)).toNatClampNeg), .int 0]) (pc := 970) (ll := [some (.ref 1000220), some (.ref 0), some (.ref 40), some (.ref 83), some (.int y4), none, none]) (st := [.int r132]) (c1 := 0) (s1 := 0) (g := (ab_G mi130 ml131)) rfl ⟨trivial, trivial⟩ hc ?_
                                                  refine ab_xk 1 (f' := (if r132 = r135 then 1304 else 973, [some (.ref 1000220), some (.ref 0), some (.ref 40), some (.ref 83), some (.int y4), none, none], [], 0, 0, (ab_G mi133 ml134))) rfl ⟨trivial, trivial⟩ ?_
                                                  refine ab_xi (fun c => ?_) (fun c => ?_)
                                                  · have h := h.1 c
                                                    exact ab_xs rfl h
                                                  · have h := h.2 c
                                                    exact ab_xr 2 rfl ⟨trivial, (Or.inl rfl)⟩ h
                                                · have h := h.2 c
                                                  obtain ⟨r138, mi136, ml137, hc, h⟩ := h
                                                  refine ab_xc 3 (c := 224) (as := [.ref 40, .int (xs ((y4 + 1)).toNatClampNeg), .int (xs ((y4 + 2)).toNatClampNeg), .int 1]) (pc := 970) (ll := [some (.ref 1000220), some (.ref 0), some (.ref 40), some (.ref 83), some (.int y4), none, none]) (st := [.int r132]) (c1 := 0) (s1 := 0) (g := (ab_G mi130 ml131)) rfl ⟨trivial, trivial, trivial⟩ hc ?_
                                                  refine ab_xk 1 (f' := (if r132 = r138 then 1304 else 973, [some (.ref 1000220), some (.ref 0), some (.ref 40), some (.ref 83), some (.int y4), none, none], [], 0, 0, (ab_G mi136 ml137))) rfl ⟨trivial, trivial⟩ ?_
                                                  refine ab_xi (fun c => ?_) (fun c => ?_)
                                                  · have h := h.1 c
                                                    exact ab_xs rfl h
                                                  · have h := h.2 c
                                                    exact ab_xr 2 rfl ⟨trivial, (Or.inl rfl)⟩ h
                                            · have h := h.2 c
                                              refine ab_xi (fun c => ?_) (fun c => ?_)
                                              · have h := h.1 c
                                                obtain ⟨p0, h⟩ := h
                                                obtain ⟨r141, mi139, ml140, hc, h⟩ := h
                                                refine ab_xc 7 (c := 124) (as := [.ref 0, .int (xs ((y4 + 1)).toNatClampNeg)]) (pc := 985) (ll := [some (.ref 1000220), some (.ref 0), some (.ref 40), some (.ref 83), some (.int y4), none, none]) (st := []) (c1 := 0) (s1 := 0) (g := (ab_G mi ml)) rfl ⟨trivial, trivial, trivial, trivial, trivial, p0, trivial⟩ hc ?_
                                                obtain ⟨p0, h⟩ := h
                                                obtain ⟨r144, mi142, ml143, hc, h⟩ := h
                                                refine ab_xc 7 (c := 231) (as := [.ref 40, .int (xs ((y4 + 1)).toNatClampNeg)]) (pc := 995) (ll := [some (.ref 1000220), some (.ref 0), some (.ref 40), some (.ref 83), some (.int y4), none, none]) (st := [.int r141]) (c1 := 0) (s1 := 0) (g := (ab_G mi139 ml140)) rfl ⟨trivial, trivial, trivial, trivial, trivial, p0, trivial⟩ hc ?_
                                                refine ab_xk 1 (f' := (if r141 = r144 then 1304 else 998, [some (.ref 1000220), some (.ref 0), some (.ref 40), some (.ref 83), some (.int y4), none, none], [], 0, 0, (ab_G mi142 ml143))) rfl ⟨trivial, trivial⟩ ?_
                                                refine ab_xi (fun c => ?_) (fun c => ?_)
                                                · have h := h.1 c
                                                  exact ab_xs rfl h
                                                · have h := h.2 c
                                                  exact ab_xr 2 rfl ⟨trivial, (Or.inl rfl)⟩ h
                                              · have h := h.2 c
                                                refine ab_xi (fun c => ?_) (fun c => ?_)
                                                · have h := h.1 c
                                                  obtain ⟨p0, p1, h⟩ := h
                                                  obtain ⟨r147, mi145, ml146, hc, h⟩ := h
                                                  refine ab_xc 12 (c := 125) (as := [.ref 0, .int (xs ((y4 + 1)).toNatClampNeg), .int (xs ((y4 + 2)).toNatClampNeg)]) (pc := 1016) (ll := [some (.ref 1000220), some (.ref 0), some (.ref 40), some (.ref 83), some (.int y4), none, none]) (st := []) (c1 := 0) (s1 := 0) (g := (ab_G mi ml)) rfl ⟨trivial, trivial, trivial, trivial, trivial, p0, trivial, trivial, trivial, trivial, p1, trivial⟩ hc ?_
                                                  obtain ⟨p0, p1, h⟩ := h
                                                  obtain ⟨r150, mi148, ml149, hc, h⟩ := h
                                                  refine ab_xc 12 (c := 235) (as := [.ref 40, .int (xs ((y4 + 1)).toNatClampNeg), .int (xs ((y4 + 2)).toNatClampNeg)]) (pc := 1032) (ll := [some (.ref 1000220), some (.ref 0), some (.ref 40), some (.ref 83), some (.int y4), none, none]) (st := [.int r147]) (c1 := 0) (s1 := 0) (g := (ab_G mi145 ml146)) rfl ⟨trivial, trivial, trivial, trivial, trivial, p0, trivial, trivial, trivial, trivial, p1, trivial⟩ hc ?_
                                                  refine ab_xk 1 (f' := (if r147 = r150 then 1304 else 1035, [some (.ref 1000220), some (.ref 0), some (.ref 40), some (.ref 83), some (.int y4), none, none], [], 0, 0, (ab_G mi148 ml149))) rfl ⟨trivial, trivial⟩ ?_
                                                  refine ab_xi (fun c => ?_) (fun c => ?_)
                                                  · have h := h.1 c
                                                    exact ab_xs rfl h
                                                  · have h := h.2 c
                                                    exact ab_xr 2 rfl ⟨trivial, (Or.inl rfl)⟩ h
                                                · have h := h.2 c
                                                  refine ab_xi (fun c => ?_) (fun c => ?_)
                                                  · have h := h.1 c
                                                    obtain ⟨p0, h⟩ := h
                                                    obtain ⟨r153, mi151, ml152, hc, h⟩ := h
                                                    refine ab_xc 7 (c := 126) (as := [.ref 0, .int (xs ((y4 + 1)).toNatClampNeg)]) (pc := 1047) (ll := [some (.ref 1000220), some (.ref 0), some (.ref 40), some (.ref 83), some (.int y4), none, none]) (st := []) (c1 := 0) (s1 := 0) (g := (ab_G mi ml)) rfl ⟨trivial, trivial, trivial, trivial, trivial, p0, trivial⟩ hc ?_
                                                    obtain ⟨p0, h⟩ := h
                                                    obtain ⟨r156, mi154, ml155, hc, h⟩ := h
                                                    refine ab_xc 7 (c := 232) (as := [.ref 40, .int (xs ((y4 + 1)).toNatClampNeg)]) (pc := 1057) (ll := [some (.ref 1000220), some (.ref 0), some (.ref 40), some (.ref 83), some (.int y4), none, none]) (st := [.int r153]) (c1 := 0) (s1 := 0) (g := (ab_G mi151 ml152)) rfl ⟨trivial, trivial, trivial, trivial, trivial, p0, trivial⟩ hc ?_
                                                    refine ab_xk 1 (f' := (if r153 = r156 then 1304 else 1060, [some (.ref 1000220), some (.ref 0), some (.ref 40), some (.ref 83), some (.int y4), none, none], [], 0, 0, (ab_G mi154 ml155))) rfl ⟨trivial, trivial⟩ ?_
                                                    refine ab_xi (fun c => ?_) (fun c => ?_)
                                                    · have h := h.1 c
                                                      exact ab_xs rfl h
                                                    · have h := h.2 c
                                                      exact ab_xr 2 rfl ⟨trivial, (Or.inl rfl)⟩ h
                                                  · have h := h.2 c
                                                    refine ab_xi (fun c => ?_) (fun c => ?_)
                                                    · have h := h.1 c
                                                      obtain ⟨p0, h⟩ := h
                                                      obtain ⟨r159, mi157, ml158, hc, h⟩ := h
                                                      refine ab_xc 7 (c := 127) (as := [.ref 0, .int (xs ((y4 + 1)).toNatClampNeg)]) (pc := 1072) (ll := [some (.ref 1000220), some (.ref 0), some (.ref 40), some (.ref 83), some (.int y4), none, none]) (st := []) (c1 := 0) (s1 := 0) (g := (ab_G mi ml)) rfl ⟨trivial, trivial, trivial, trivial, trivial, p0, trivial⟩ hc ?_
                                                      obtain ⟨p0, h⟩ := h
                                                      obtain ⟨r162, mi160, ml161, hc, h⟩ := h
                                                      refine ab_xc 7 (c := 236) (as := [.ref 40, .int (xs ((y4 + 1)).toNatClampNeg)]) (pc := 1082) (ll := [some (.ref 1000220), some (.ref 0), some (.ref 40), some (.ref 83), some (.int y4), none, none]) (st := [.int r159]) (c1 := 0) (s1 := 0) (g := (ab_G mi157 ml158)) rfl ⟨trivial, trivial, trivial, trivial, trivial, p0, trivial⟩ hc ?_
                                                      refine ab_xk 1 (f' := (if r159 = r162 then 1304 else 1085, [some (.ref 1000220), some (.ref 0), some (.ref 40), some (.ref 83), some (.int y4), none, none], [], 0, 0, (ab_G mi160 ml161))) rfl ⟨trivial, trivial⟩ ?_
                                                      refine ab_xi (fun c => ?_) (fun c => ?_)
                                                      · have h := h.1 c
                                                        exact ab_xs rfl h
                                                      · have h := h.2 c
                                                        exact ab_xr 2 rfl ⟨trivial, (Or.inl rfl)⟩ h
                                                    · have h := h.2 c
                                                      refine ab_xi (fun c => ?_) (fun c => ?_)
                                                      · have h := h.1 c
                                                        obtain ⟨p0, p1, h⟩ := h
                                                        obtain ⟨r165, mi163, ml164, hc, h⟩ := h
                                                        refine ab_xc 12 (c := 128) (as := [.ref 0, .int (xs ((y4 + 1)).toNatClampNeg), .int (xs ((y4 + 2)).toNatClampNeg)]) (pc := 1103) (ll := [some (.ref 1000220), some (.ref 0), some (.ref 40), some (.ref 83), some (.int y4), none, none]) (st := []) (c1 := 0) (s1 := 0) (g := (ab_G mi ml)) rfl ⟨trivial, trivial, trivial, trivial, trivial, p0, trivial, trivial, trivial, trivial, p1, trivial⟩ hc ?_
                                                        obtain ⟨p0, p1, h⟩ := h
                                                        obtain ⟨r168, mi166, ml167, hc, h⟩ := h
                                                        refine ab_xc 12 (c := 237) (as := [.ref 40, .int (xs ((y4 + 1)).toNatClampNeg), .int (xs ((y4 + 2)).toNatClampNeg)]) (pc := 1119) (ll := [some (.ref 1000220), some (.ref 0), some (.ref 40), some (.ref 83), some (.int y4), none, none]) (st := [.int r165]) (c1 := 0) (s1 := 0) (g := (ab_G mi163 ml164)) rfl ⟨trivial, trivial, trivial, trivial, trivial, p0, trivial, trivial, trivial, trivial, p1, trivial⟩ hc ?_
                                                        refine ab_xk 1 (f' := (if r165 = r168 then 1304 else 1122, [some (.ref 1000220), some (.ref 0), some (.ref 40), some (.ref 83), some (.int y4), none, none], [], 0, 0, (ab_G mi166 ml167))) rfl ⟨trivial, trivial⟩ ?_
                                                        refine ab_xi (fun c => ?_) (fun c => ?_)
                                                        · have h := h.1 c
                                                          exact ab_xs rfl h
                                                        · have h := h.2 c
                                                          exact ab_xr 2 rfl ⟨trivial, (Or.inl rfl)⟩ h
                                                      · have h := h.2 c
                                                        refine ab_xi (fun c => ?_) (fun c => ?_)
                                                        · have h := h.1 c
                                                          obtain ⟨p0, p1, h⟩ := h
                                                          obtain ⟨r171, mi169, ml170, hc, h⟩ := h
                                                          refine ab_xc 12 (c := 129) (as := [.ref 0, .int (xs ((y4 + 1)).toNatClampNeg), .int (xs ((y4 + 2)).toNatClampNeg)]) (pc := 1140) (ll := [some (.ref 1000220), some (.ref 0), some (.ref 40), some (.ref 83), some (.int y4), none, none]) (st := []) (c1 := 0) (s1 := 0) (g := (ab_G mi ml)) rfl ⟨trivial, trivial, trivial, trivial, trivial, p0, trivial, trivial, trivial, trivial, p1, trivial⟩ hc ?_
                                                          obtain ⟨p0, p1, h⟩ := h
                                                          obtain ⟨r174, mi172, ml173, hc, h⟩ := h
                                                          refine ab_xc 12 (c := 239) (as := [.ref 40, .int (xs ((y4 + 1)).toNatClampNeg), .int (xs ((y4 + 2)).toNatClampNeg)]) (pc := 1156) (ll := [some (.ref 1000220), some (.ref 0), some (.ref 40), some (.ref 83), some (.int y4), none, none]) (st := [.int r171]) (c1 := 0) (s1 := 0) (g := (ab_G mi169 ml170)) rfl ⟨trivial, trivial, trivial, trivial, trivial, p0, trivial, trivial, trivial, trivial, p1, trivial⟩ hc ?_
                                                          refine ab_xk 1 (f' := (if r171 = r174 then 1304 else 1159, [some (.ref 1000220), some (.ref 0), some (.ref 40), some (.ref 83), some (.int y4), none, none], [], 0, 0, (ab_G mi172 ml173))) rfl ⟨trivial, trivial⟩ ?_
                                                          refine ab_xi (fun c => ?_) (fun c => ?_)
                                                          · have h := h.1 c
                                                            exact ab_xs rfl h
                                                          · have h := h.2 c
                                                            exact ab_xr 2 rfl ⟨trivial, (Or.inl rfl)⟩ h
                                                        · have h := h.2 c
                                                          refine ab_xi (fun c => ?_) (fun c => ?_)
                                                          · have h := h.1 c
                                                            obtain ⟨p0, h⟩ := h
                                                            obtain ⟨r177, mi175, ml176, hc, h⟩ := h
                                                            refine ab_xc 7 (c := 130) (as := [.ref 0, .int (xs ((y4 + 1)).toNatClampNeg)]) (pc := 1171) (ll := [some (.ref 1000220), some (.ref 0), some (.ref 40), some (.ref 83), some (.int y4), none, none]) (st := []) (c1 := 0) (s1 := 0) (g := (ab_G mi ml)) rfl ⟨trivial, trivial, trivial, trivial, trivial, p0, trivial⟩ hc ?_
                                                            obtain ⟨p0, h⟩ := h
                                                            obtain ⟨r180, mi178, ml179, hc, h⟩ := h
                                                            refine ab_xc 7 (c := 208) (as := [.ref 40, .int (xs ((y4 + 1)).toNatClampNeg)]) (pc := 1181) (ll := [some (.ref 1000220), some (.ref 0), some (.ref 40), some (.ref 83), some (.int y4), none, none]) (st := [.int r177]) (c1 := 0) (s1 := 0) (g := (ab_G mi175 ml176)) rfl ⟨trivial, trivial, trivial, trivial, trivial, p0, trivial⟩ hc ?_
                                                            refine ab_xk 1 (f' := (if r177 = r180 then 1304 else 1184, [some (.ref 1000220), some (.ref 0), some (.ref 40), some (.ref 83), some (.int y4), none, none], [], 0, 0, (ab_G mi178 ml179))) rfl ⟨trivial, trivial⟩ ?_
                                                            refine ab_xi (fun c => ?_) (fun c => ?_)
                                                            · have h := h.1 c
                                                              exact ab_xs rfl h
                                                            · have h := h.2 c
                                                              exact ab_xr 2 rfl ⟨trivial, (Or.inl rfl)⟩ h
                                                          · have h := h.2 c
                                                            refine ab_xi (fun c => ?_) (fun c => ?_)
                                                            · have h := h.1 c
                                                              obtain ⟨p0, h⟩ := h
                                                              obtain ⟨r183, mi181, ml182, hc, h⟩ := h
                                                              refine ab_xc 7 (c := 131) (as := [.ref 0, .int (xs ((y4 + 1)).toNatClampNeg)]) (pc := 1196) (ll := [some (.ref 1000220), some (.ref 0), some (.ref 40), some (.ref 83), some (.int y4), none, none]) (st := []) (c1 := 0) (s1 := 0) (g := (ab_G mi ml)) rfl ⟨trivial, trivial, trivial, trivial, trivial, p0, trivial⟩ hc ?_
                                                              obtain ⟨p0, h⟩ := h
                                                              obtain ⟨r186, mi184, ml185, hc, h⟩ := h
                                                              refine ab_xc 7 (c := 209) (as := [.ref 40, .int (xs ((y4 + 1)).toNatClampNeg)]) (pc := 1206) (ll := [some (.ref 1000220), some (.ref 0), some (.ref 40), some (.ref 83), some (.int y4), none, none]) (st := [.int r183]) (c1 := 0) (s1 := 0) (g := (ab_G mi181 ml182)) rfl ⟨trivial, trivial, trivial, trivial, trivial, p0, trivial⟩ hc ?_
                                                              refine ab_xk 1 (f' := (if r183 = r186 then 1304 else 1209, [some (.ref 1000220), some (.ref 0), some (.ref 40), some (.ref 83), some (.int y4), none, none], [], 0, 0, (ab_G mi184 ml185))) rfl ⟨trivial, trivial⟩ ?_
                                                              refine ab_xi (fun c => ?_) (fun c => ?_)
                                                              · have h := h.1 c
                                                                exact ab_xs rfl h
                                                              · have h := h.2 c
                                                                exact ab_xr 2 rfl ⟨trivial, (Or.inl rfl)⟩ h
                                                            · have h := h.2 c
                                                              refine ab_xi (fun c => ?_) (fun c => ?_)
                                                              · have h := h.1 c
                                                                obtain ⟨p0, p1, h⟩ := h
                                                                obtain ⟨r189, mi187, ml188, hc, h⟩ := h
                                                                refine ab_xc 12 (c := 132) (as := [.ref 0, .int (xs ((y4 + 1)).toNatClampNeg), .int (xs ((y4 + 2)).toNatClampNeg)]) (pc := 1227) (ll := [some (.ref 1000220), some (.ref 0), some (.ref 40), some (.ref 83), some (.int y4), none, none]) (st := []) (c1 := 0) (s1 := 0) (g := (ab_G mi ml)) rfl ⟨trivial, trivial, trivial, trivial, trivial, p0, trivial, trivial, trivial, trivial, p1, trivial⟩ hc ?_
                                                                obtain ⟨p0, p1, h⟩ := h
                                                                obtain ⟨r192, mi190, ml191, hc, h⟩ := h
                                                                refine ab_xc 12 (c := 240) (as := [.ref 40, .int (xs ((y4 + 1)).toNatClampNeg), .int (xs ((y4 + 2)).toNatClampNeg)]) (pc := 1243) (ll := [some (.ref 1000220), some (.ref 0), some (.ref 40), some (.ref 83), some (.int y4), none, none]) (st := [.int r189]) (c1 := 0) (s1 := 0) (g := (ab_G mi187 ml188)) rfl ⟨trivial, trivial, trivial, trivial, trivial, p0, trivial, trivial, trivial, trivial, p1, trivial⟩ hc ?_
                                                                refine ab_xk 1 (f' := (if r189 = r192 then 1304 else 1246, [some (.ref 1000220), some (.ref 0), some (.ref 40), some (.ref 83), some (.int y4), none, none], [], 0, 0, (ab_G mi190 ml191))) rfl ⟨trivial, trivial⟩ ?_
                                                                refine ab_xi (fun c => ?_) (fun c => ?_)
                                                                · have h := h.1 c
                                                                  exact ab_xs rfl h
                                                                · have h := h.2 c
                                                                  exact ab_xr 2 rfl ⟨trivial, (Or.inl rfl)⟩ h
                                                              · have h := h.2 c
                                                                refine ab_xi (fun c => ?_) (fun c => ?_)
                                                                · have h := h.1 c
                                                                  obtain ⟨p0, h⟩ := h
                                                                  exact ab_xk 7 (f' := (1256, [some (.ref 1000220), some (.ref 0), some (.ref 40), some (.ref 83), some (.int y4), none, none], [.ref 83, .int (xs ((y4 + 1)).toNatClampNeg), .ref 0], 0, 0, (ab_G mi ml))) rfl ⟨trivial, trivial, trivial, trivial, trivial, p0, trivial, trivial⟩ (ab_xs rfl h)
                                                                · have h := h.2 c
                                                                  exact ab_xs rfl h
set_option maxRecDepth 20000 in
theorem vl_1259 {call : Nat → List Value → ab_S → Option Value → ab_S → Prop} {L : Nat} {xs : Nat → Int32} {Q : Option Value → ab_S → Prop} {X : ab_F → Prop} (y4 : Int32) (r0 : Int32) (mi : Nat → Nat → Int32) (ml : Nat → Nat → Int64)
    (h : vp_in (y4 + 1) L ∧ (∃ (r3 : Int32) (mi1 : Nat → Nat → Int32) (ml2 : Nat → Nat → Int64), call 241 [.ref 40, .int (xs ((y4 + 1)).toNatClampNeg)] (ab_G mi ml) (some (.int r3)) (ab_G mi1 ml2) ∧ (∃ (r6 : Int32) (mi4 : Nat → Nat → Int32) (ml5 : Nat → Nat → Int64), call 144 [.ref 40] (ab_G mi1 ml2) (some (.int r6)) (ab_G mi4 ml5) ∧ (((r6 = r0) → (((r0 = 0) → ((((lg_cmp (ml5 83 0) (r3 : Int32).toInt64) = 0) → (X (1304, [some (.ref 1000220), some (.ref 0), some (.ref 40), some (.ref 83), some (.int y4), some (.int r0), some (.int r3)], [], 0, 0, (ab_G mi4 ml5)))) ∧ (¬ ((lg_cmp (ml5 83 0) (r3 : Int32).toInt64) = 0) → (Q (some (.int 0)) (ab_G mi4 ml5))))) ∧ (¬ (r0 = 0) → (X (1304, [some (.ref 1000220), some (.ref 0), some (.ref 40), some (.ref 83), some (.int y4), some (.int r0), some (.int r3)], [], 0, 0, (ab_G mi4 ml5)))))) ∧ (¬ (r6 = r0) → (Q (some (.int 0)) (ab_G mi4 ml5))))))) :
    ab_X call (ab_ro L xs) 0 0 (ab_lk2 pl_L_law) lw_sp2 Q X (1259, [some (.ref 1000220), some (.ref 0), some (.ref 40), some (.ref 83), some (.int y4), none, none], [.int r0], 0, 0, ab_G mi ml) := by
  obtain ⟨p0, h⟩ := h
  obtain ⟨r3, mi1, ml2, hc, h⟩ := h
  refine ab_xc 8 (c := 241) (as := [.ref 40, .int (xs ((y4 + 1)).toNatClampNeg)]) (pc := 1271) (ll := [some (.ref 1000220), some (.ref 0), some (.ref 40), some (.ref 83), some (.int y4), some (.int r0), none]) (st := []) (c1 := 0) (s1 := 0) (g := (ab_G mi ml)) rfl ⟨trivial, trivial, trivial, trivial, trivial, trivial, p0, trivial⟩ hc ?_
  obtain ⟨r6, mi4, ml5, hc, h⟩ := h
  refine ab_xc 3 (c := 144) (as := [.ref 40]) (pc := 1277) (ll := [some (.ref 1000220), some (.ref 0), some (.ref 40), some (.ref 83), some (.int y4), some (.int r0), some (.int r3)]) (st := []) (c1 := 0) (s1 := 0) (g := (ab_G mi1 ml2)) rfl ⟨trivial, trivial, trivial⟩ hc ?_
  refine ab_xk 2 (f' := (if r6 = r0 then 1284 else 1282, [some (.ref 1000220), some (.ref 0), some (.ref 40), some (.ref 83), some (.int y4), some (.int r0), some (.int r3)], [], 0, 0, (ab_G mi4 ml5))) rfl ⟨trivial, trivial, trivial⟩ ?_
  refine ab_xi (fun c => ?_) (fun c => ?_)
  · have h := h.1 c
    refine ab_xk 2 (f' := (if r0 = 0 then 1289 else 1301, [some (.ref 1000220), some (.ref 0), some (.ref 40), some (.ref 83), some (.int y4), some (.int r0), some (.int r3)], [], 0, 0, (ab_G mi4 ml5))) rfl ⟨trivial, trivial, trivial⟩ ?_
    refine ab_xi (fun c => ?_) (fun c => ?_)
    · have h := h.1 c
      refine ab_xk 7 (f' := (if (lg_cmp (ml5 83 0) (r3 : Int32).toInt64) = 0 then 1301 else 1299, [some (.ref 1000220), some (.ref 0), some (.ref 40), some (.ref 83), some (.int y4), some (.int r0), some (.int r3)], [], 0, 0, (ab_G mi4 ml5))) rfl ⟨trivial, trivial, (by unfold vp_in; decide), trivial, trivial, trivial, trivial, trivial⟩ ?_
      refine ab_xi (fun c => ?_) (fun c => ?_)
      · have h := h.1 c
        exact ab_xk 1 (f' := (1304, [some (.ref 1000220), some (.ref 0), some (.ref 40), some (.ref 83), some (.int y4), some (.int r0), some (.int r3)], [], 0, 0, (ab_G mi4 ml5))) rfl ⟨trivial, trivial⟩ (ab_xs rfl h)
      · have h := h.2 c
        exact ab_xr 2 rfl ⟨trivial, (Or.inl rfl)⟩ h
    · have h := h.2 c
      exact ab_xk 1 (f' := (1304, [some (.ref 1000220), some (.ref 0), some (.ref 40), some (.ref 83), some (.int y4), some (.int r0), some (.int r3)], [], 0, 0, (ab_G mi4 ml5))) rfl ⟨trivial, trivial⟩ (ab_xs rfl h)
  · have h := h.2 c
    exact ab_xr 2 rfl ⟨trivial, (Or.inl rfl)⟩ h
set_option maxRecDepth 20000 in
theorem vl_1304 {call : Nat → List Value → ab_S → Option Value → ab_S → Prop} {L : Nat} {xs : Nat → Int32} {Q : Option Value → ab_S → Prop} {X : ab_F → Prop} (y4 : Int32) (mi : Nat → Nat → Int32) (ml : Nat → Nat → Int64)
    (h : X (23, [some (.ref 1000220), some (.ref 0), some (.ref 40), some (.ref 83), some (.int (y4 + 7)), none, none], [], 0, 0, (ab_G mi ml))) :
    ab_X call (ab_ro L xs) 0 0 (ab_lk2 pl_L_law) lw_sp1 Q X (1304, [some (.ref 1000220), some (.ref 0), some (.ref 40), some (.ref 83), some (.int y4), none, none], [], 0, 0, ab_G mi ml) := by
  exact ab_xk 2 (f' := (23, [some (.ref 1000220), some (.ref 0), some (.ref 40), some (.ref 83), some (.int (y4 + 7)), none, none], [], 0, 0, (ab_G mi ml))) rfl ⟨trivial, trivial, trivial⟩ (ab_xs rfl h)
