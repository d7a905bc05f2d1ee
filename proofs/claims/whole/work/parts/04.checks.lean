/-! CHECKS OF THE TABLES: each row of code is what the bytes decode to, and what it resolves to is what the words say. -/
def q_own (j : Nat) : String := (qmY j).cls
def qTyL : List (Nat → FieldType) := [qT0, qT1, qT2, qT3, qT4, qT5, qT6, qT7]
def qTy (c k : Nat) : FieldType := (qTyL.getD c (fun _ => .int)) k
def qNo : vw_C := ("", fun _ => ("", "", "", false), 0)
def qC (c : Nat) : vw_C := qCl.getD c qNo
def q_tg (pc : Nat) (off : Int) (g : Nat) : Bool := decide ((pc : Int) + off = (g : Int))
def q_tgs (pc : Nat) : List Int → List Nat → Bool
  | [], [] => true
  | o :: os, g :: gs => q_tg pc o g && q_tgs pc os gs
  | _, _ => false
def q_lnk (j idx j' how : Nat) : Bool := qLkL.any (fun e => e.1 == q_own j && e.2.1 == idx && e.2.2.1 == j' && e.2.2.2.2 == how)
def q_cal (j j' na : Nat) : Bool := na == qmN j' && decide (j' < 137) && decide (qmF j' + 1 ≤ qmF j) && decide (8 + (qmL j' + 11) + qmW j' ≤ qmW j)
def q_okc (j : Nat) (pc : Nat) (i : Instr) (n : Nat) (ax : List Nat) : Bool := match i with
  | .iconst _ => n == 1
  | .bipush _ => n == 2
  | .sipush _ => n == 3
  | .iload_n _ => n == 1
  | .iload _ => n == 2
  | .aload_n _ => n == 1
  | .istore_n _ => n == 1
  | .istore _ => n == 2
  | .iinc _ _ => n == 3
  | .dup => n == 1
  | .dup2 => n == 1
  | .iadd => n == 1
  | .isub => n == 1
  | .imul => n == 1
  | .idiv => n == 1
  | .irem => n == 1
  | .ineg => n == 1
  | .ifCond _ off => n == 3 && (match ax with | [g] => q_tg pc off g | _ => false)
  | .if_icmp _ off => n == 3 && (match ax with | [g] => q_tg pc off g | _ => false)
  | .goto off => n == 3 && (match ax with | [g] => q_tg pc off g | _ => false)
  | .tableswitch d lo hi offs => decide (lo = lo ∧ hi = hi) && (match ax with | g :: gs => q_tg pc d g && q_tgs pc offs.toList gs | _ => false)
  | .lookupswitch d ps => (ps.toList.zip (ps.toList.drop 1)).all (fun (a, next) => a.1 < next.1) && (match ax with | g :: gs => q_tg pc d g && q_tgs pc (ps.toList.map (·.2)) gs | _ => false)
  | .getfield idx => n == 3 && (match ax with | [c, k] => qFtL.any (fun e => e.1 == c && e.2.1 == idx && e.2.2.1 == k) && qmC j == c | _ => false)
  | .putfield idx => n == 3 && (match ax with | [c, k, z] => qFtL.any (fun e => e.1 == c && e.2.1 == idx && e.2.2.1 == k) && qmC j == c && ((z == 0 && decide (qTy c k = .int)) || (z == 1 && decide (qTy c k = .boolean))) && !((qC c).2.1 k).2.2.2 | _ => false)
  | .getstatic idx => n == 3 && (match ax with | [g] => g == qGS && ((q_own j == "CashRecycler" && idx == 262) || (q_own j == "CashRecycler$Track" && idx == 26)) | _ => false)
  | .iaload => n == 1
  | .baload => n == 1
  | .aaload => n == 1
  | .iastore => n == 1
  | .bastore => n == 1
  | .ireturn => n == 1 && (match ax with | [z] => (z == 0 && decide (qmR j = some .int)) || (z == 1 && decide (qmR j = some .boolean)) | _ => false)
  | .return_ => n == 1 && decide (qmR j = none)
  | .invokevirtual idx => n == 3 && (match ax with | [j', na] => q_lnk j idx j' 0 && q_cal j j' na && !qmS j' | _ => false)
  | .invokestatic idx => n == 3 && (match ax with | [j', na] => (q_lnk j idx j' 1 || q_lnk j idx j' 2) && q_cal j j' na && qmS j' | _ => false)
  | .new idx => n == 3 && (match ax with | [x, k] => qXtL.any (fun e => e.1 == q_own j && e.2.1 == idx && e.2.2.1 == k && e.2.2.2 == x) && decide (decode (qmB j) (pc + 3) = .ok (.dup, 1)) && decide (decode (qmB j) (pc + 4) = .ok (.invokespecial k, 3)) && decide (decode (qmB j) (pc + 7) = .ok (.athrow, 1)) && decide (6 ≤ qmF j ∧ 90 ≤ qmW j) | _ => false)
  | _ => true
def q_ok (j : Nat) (q : PE) : Bool := decide (decode (qmB j) q.1 = .ok (q.2.1, q.2.2.1)) && q_okc j q.1 q.2.1 q.2.2.1 q.2.2.2
theorem q_ok0 : (qCod 0).all (q_ok 0) = true := by decide +kernel
theorem q_ok1 : (qCod 1).all (q_ok 1) = true := by decide +kernel
theorem q_ok2 : (qCod 2).all (q_ok 2) = true := by decide +kernel
theorem q_ok3 : (qCod 3).all (q_ok 3) = true := by decide +kernel
theorem q_ok4 : (qCod 4).all (q_ok 4) = true := by decide +kernel
theorem q_ok5 : (qCod 5).all (q_ok 5) = true := by decide +kernel
theorem q_ok6 : (qCod 6).all (q_ok 6) = true := by decide +kernel
theorem q_ok7 : (qCod 7).all (q_ok 7) = true := by decide +kernel
theorem q_ok8 : (qCod 8).all (q_ok 8) = true := by decide +kernel
theorem q_ok9 : (qCod 9).all (q_ok 9) = true := by decide +kernel
theorem q_ok10 : (qCod 10).all (q_ok 10) = true := by decide +kernel
theorem q_ok11 : (qCod 11).all (q_ok 11) = true := by decide +kernel
theorem q_ok12 : (qCod 12).all (q_ok 12) = true := by decide +kernel
theorem q_ok13 : (qCod 13).all (q_ok 13) = true := by decide +kernel
theorem q_ok14 : (qCod 14).all (q_ok 14) = true := by decide +kernel
theorem q_ok15 : (qCod 15).all (q_ok 15) = true := by decide +kernel
theorem q_ok16 : (qCod 16).all (q_ok 16) = true := by decide +kernel
theorem q_ok17 : (qCod 17).all (q_ok 17) = true := by decide +kernel
theorem q_ok18 : (qCod 18).all (q_ok 18) = true := by decide +kernel
theorem q_ok19 : (qCod 19).all (q_ok 19) = true := by decide +kernel
theorem q_ok20 : (qCod 20).all (q_ok 20) = true := by decide +kernel
theorem q_ok21 : (qCod 21).all (q_ok 21) = true := by decide +kernel
theorem q_ok22 : (qCod 22).all (q_ok 22) = true := by decide +kernel
theorem q_ok23 : (qCod 23).all (q_ok 23) = true := by decide +kernel
theorem q_ok24 : (qCod 24).all (q_ok 24) = true := by decide +kernel
theorem q_ok25 : (qCod 25).all (q_ok 25) = true := by decide +kernel
theorem q_ok26 : (qCod 26).all (q_ok 26) = true := by decide +kernel
theorem q_ok27 : (qCod 27).all (q_ok 27) = true := by decide +kernel
theorem q_ok28 : (qCod 28).all (q_ok 28) = true := by decide +kernel
theorem q_ok29 : (qCod 29).all (q_ok 29) = true := by decide +kernel
theorem q_ok30 : (qCod 30).all (q_ok 30) = true := by decide +kernel
theorem q_ok31 : (qCod 31).all (q_ok 31) = true := by decide +kernel
theorem q_ok32 : (qCod 32).all (q_ok 32) = true := by decide +kernel
theorem q_ok33 : (qCod 33).all (q_ok 33) = true := by decide +kernel
theorem q_ok34 : (qCod 34).all (q_ok 34) = true := by decide +kernel
theorem q_ok35 : (qCod 35).all (q_ok 35) = true := by decide +kernel
theorem q_ok36 : (qCod 36).all (q_ok 36) = true := by decide +kernel
theorem q_ok37 : (qCod 37).all (q_ok 37) = true := by decide +kernel
theorem q_ok38 : (qCod 38).all (q_ok 38) = true := by decide +kernel
theorem q_ok39 : (qCod 39).all (q_ok 39) = true := by decide +kernel
theorem q_ok40 : (qCod 40).all (q_ok 40) = true := by decide +kernel
theorem q_ok41 : (qCod 41).all (q_ok 41) = true := by decide +kernel
theorem q_ok42 : (qCod 42).all (q_ok 42) = true := by decide +kernel
theorem q_ok43 : (qCod 43).all (q_ok 43) = true := by decide +kernel
theorem q_ok44 : (qCod 44).all (q_ok 44) = true := by decide +kernel
theorem q_ok45 : (qCod 45).all (q_ok 45) = true := by decide +kernel
theorem q_ok46 : (qCod 46).all (q_ok 46) = true := by decide +kernel
theorem q_ok47 : (qCod 47).all (q_ok 47) = true := by decide +kernel
theorem q_ok48 : (qCod 48).all (q_ok 48) = true := by decide +kernel
theorem q_ok49 : (qCod 49).all (q_ok 49) = true := by decide +kernel
theorem q_ok50 : (qCod 50).all (q_ok 50) = true := by decide +kernel
theorem q_ok51 : (qCod 51).all (q_ok 51) = true := by decide +kernel
theorem q_ok52 : (qCod 52).all (q_ok 52) = true := by decide +kernel
theorem q_ok53 : (qCod 53).all (q_ok 53) = true := by decide +kernel
theorem q_ok54 : (qCod 54).all (q_ok 54) = true := by decide +kernel
theorem q_ok55 : (qCod 55).all (q_ok 55) = true := by decide +kernel
theorem q_ok56 : (qCod 56).all (q_ok 56) = true := by decide +kernel
theorem q_ok57 : (qCod 57).all (q_ok 57) = true := by decide +kernel
theorem q_ok58 : (qCod 58).all (q_ok 58) = true := by decide +kernel
theorem q_ok59 : (qCod 59).all (q_ok 59) = true := by decide +kernel
theorem q_ok60 : (qCod 60).all (q_ok 60) = true := by decide +kernel
theorem q_ok61 : (qCod 61).all (q_ok 61) = true := by decide +kernel
theorem q_ok62 : (qCod 62).all (q_ok 62) = true := by decide +kernel
theorem q_ok63 : (qCod 63).all (q_ok 63) = true := by decide +kernel
theorem q_ok64 : (qCod 64).all (q_ok 64) = true := by decide +kernel
theorem q_ok65 : (qCod 65).all (q_ok 65) = true := by decide +kernel
theorem q_ok66 : (qCod 66).all (q_ok 66) = true := by decide +kernel
theorem q_ok67 : (qCod 67).all (q_ok 67) = true := by decide +kernel
theorem q_ok68 : (qCod 68).all (q_ok 68) = true := by decide +kernel
theorem q_ok69 : (qCod 69).all (q_ok 69) = true := by decide +kernel
theorem q_ok70 : (qCod 70).all (q_ok 70) = true := by decide +kernel
theorem q_ok71 : (qCod 71).all (q_ok 71) = true := by decide +kernel
theorem q_ok72 : (qCod 72).all (q_ok 72) = true := by decide +kernel
theorem q_ok73 : (qCod 73).all (q_ok 73) = true := by decide +kernel
theorem q_ok74 : (qCod 74).all (q_ok 74) = true := by decide +kernel
theorem q_ok75 : (qCod 75).all (q_ok 75) = true := by decide +kernel
theorem q_ok76 : (qCod 76).all (q_ok 76) = true := by decide +kernel
theorem q_ok77 : (qCod 77).all (q_ok 77) = true := by decide +kernel
theorem q_ok78 : (qCod 78).all (q_ok 78) = true := by decide +kernel
theorem q_ok79 : (qCod 79).all (q_ok 79) = true := by decide +kernel
theorem q_ok80 : (qCod 80).all (q_ok 80) = true := by decide +kernel
theorem q_ok81 : (qCod 81).all (q_ok 81) = true := by decide +kernel
theorem q_ok82 : (qCod 82).all (q_ok 82) = true := by decide +kernel
theorem q_ok83 : (qCod 83).all (q_ok 83) = true := by decide +kernel
theorem q_ok84 : (qCod 84).all (q_ok 84) = true := by decide +kernel
theorem q_ok85 : (qCod 85).all (q_ok 85) = true := by decide +kernel
theorem q_ok86 : (qCod 86).all (q_ok 86) = true := by decide +kernel
theorem q_ok87 : (qCod 87).all (q_ok 87) = true := by decide +kernel
theorem q_ok88 : (qCod 88).all (q_ok 88) = true := by decide +kernel
theorem q_ok89 : (qCod 89).all (q_ok 89) = true := by decide +kernel
theorem q_ok90 : (qCod 90).all (q_ok 90) = true := by decide +kernel
theorem q_ok91 : (qCod 91).all (q_ok 91) = true := by decide +kernel
theorem q_ok92 : (qCod 92).all (q_ok 92) = true := by decide +kernel
theorem q_ok93 : (qCod 93).all (q_ok 93) = true := by decide +kernel
theorem q_ok94 : (qCod 94).all (q_ok 94) = true := by decide +kernel
theorem q_ok95 : (qCod 95).all (q_ok 95) = true := by decide +kernel
theorem q_ok96 : (qCod 96).all (q_ok 96) = true := by decide +kernel
theorem q_ok97 : (qCod 97).all (q_ok 97) = true := by decide +kernel
theorem q_ok98 : (qCod 98).all (q_ok 98) = true := by decide +kernel
theorem q_ok99 : (qCod 99).all (q_ok 99) = true := by decide +kernel
theorem q_ok100 : (qCod 100).all (q_ok 100) = true := by decide +kernel
theorem q_ok101 : (qCod 101).all (q_ok 101) = true := by decide +kernel
theorem q_ok102 : (qCod 102).all (q_ok 102) = true := by decide +kernel
theorem q_ok103 : (qCod 103).all (q_ok 103) = true := by decide +kernel
theorem q_ok104 : (qCod 104).all (q_ok 104) = true := by decide +kernel
theorem q_ok105 : (qCod 105).all (q_ok 105) = true := by decide +kernel
theorem q_ok106 : (qCod 106).all (q_ok 106) = true := by decide +kernel
theorem q_ok107 : (qCod 107).all (q_ok 107) = true := by decide +kernel
theorem q_ok108 : (qCod 108).all (q_ok 108) = true := by decide +kernel
theorem q_ok109 : (qCod 109).all (q_ok 109) = true := by decide +kernel
theorem q_ok110 : (qCod 110).all (q_ok 110) = true := by decide +kernel
theorem q_ok111 : (qCod 111).all (q_ok 111) = true := by decide +kernel
theorem q_ok112 : (qCod 112).all (q_ok 112) = true := by decide +kernel
theorem q_ok113 : (qCod 113).all (q_ok 113) = true := by decide +kernel
theorem q_ok114 : (qCod 114).all (q_ok 114) = true := by decide +kernel
theorem q_ok115 : (qCod 115).all (q_ok 115) = true := by decide +kernel
theorem q_ok116 : (qCod 116).all (q_ok 116) = true := by decide +kernel
theorem q_ok117 : (qCod 117).all (q_ok 117) = true := by decide +kernel
theorem q_ok118 : (qCod 118).all (q_ok 118) = true := by decide +kernel
theorem q_ok119 : (qCod 119).all (q_ok 119) = true := by decide +kernel
theorem q_ok120 : (qCod 120).all (q_ok 120) = true := by decide +kernel
theorem q_ok121 : (qCod 121).all (q_ok 121) = true := by decide +kernel
theorem q_ok122 : (qCod 122).all (q_ok 122) = true := by decide +kernel
theorem q_ok123 : (qCod 123).all (q_ok 123) = true := by decide +kernel
theorem q_ok124 : (qCod 124).all (q_ok 124) = true := by decide +kernel
theorem q_ok125 : (qCod 125).all (q_ok 125) = true := by decide +kernel
theorem q_ok126 : (qCod 126).all (q_ok 126) = true := by decide +kernel
theorem q_ok127 : (qCod 127).all (q_ok 127) = true := by decide +kernel
theorem q_ok128 : (qCod 128).all (q_ok 128) = true := by decide +kernel
theorem q_ok129 : (qCod 129).all (q_ok 129) = true := by decide +kernel
theorem q_ok130 : (qCod 130).all (q_ok 130) = true := by decide +kernel
theorem q_ok131 : (qCod 131).all (q_ok 131) = true := by decide +kernel
theorem q_ok132 : (qCod 132).all (q_ok 132) = true := by decide +kernel
theorem q_ok133 : (qCod 133).all (q_ok 133) = true := by decide +kernel
theorem q_ok134 : (qCod 134).all (q_ok 134) = true := by decide +kernel
theorem q_ok135 : (qCod 135).all (q_ok 135) = true := by decide +kernel
theorem q_ok136 : (qCod 136).all (q_ok 136) = true := by decide +kernel
