/-! WORDS: what the tables say of the methods, fields and links that the code rows name. -/
def qFtOk (e : Nat × Nat × Nat × Nat) : Bool := decide (e.2.2.1 < (qC e.1).2.2) && decide (e.1 < 8) && decide (lw_tbl[e.2.2.2 + 41]? = some (.fieldLink (qC e.1).1 e.2.1 ((qC e.1).2.1 e.2.2.1).1 ((qC e.1).2.1 e.2.2.1).2.1 ((qC e.1).2.1 e.2.2.1).2.2.1))
theorem qFt_ok : qFtL.all qFtOk = true := by decide +kernel
def qLkOk (e : String × Nat × Nat × Nat × Nat) : Bool := match e.2.2.2.2 with
  | 2 => decide (e.1 = "CashRecycler$Magazine" ∧ e.2.1 = 18 ∧ e.2.2.1 = 29)
  | _ => decide (lw_tbl[e.2.2.2.1 + 41]? = some (.methodLink e.1 e.2.1 (qmY e.2.2.1)))
theorem qLk_ok : qLkL.all qLkOk = true := by decide +kernel
def qWp (j : Nat) : Nat × Nat × Nat × Nat := qWpL.getD j (0, 0, 0, 0)
def qWpOk (j : Nat) : Bool := decide (lw_tbl[(qWp j).1]? = some (.code (qmY j) (qmB j) (qmL j) (qmR j))) && decide (lw_tbl[(qWp j).2.2.2]? = some (.initialized (q_own j))) &&
  (if qmS j = true then decide (lw_tbl[(qWp j).2.1]? = some (.static (qmY j))) else decide (lw_tbl[(qWp j).2.1]? = some (.instanceMethod (qmY j))) && decide (lw_tbl[(qWp j).2.2.1]? = some (.selects (q_own j) (qmY j) (qmY j))) && decide (qmC j < 8) && decide ((qC (qmC j)).1 = q_own j)) &&
  decide ((qmY j).cls ≠ "java/lang/invoke/MethodHandle" ∧ (qmY j).cls ≠ "java/lang/invoke/VarHandle") && decide ((parseMethodDescriptor (qmY j).desc).map (fun d => d.parameters.length) = some (if qmS j = true then qmN j else qmN j - 1)) && plainName (qmY j).cls && decide (qmS j = true ∨ 1 ≤ qmN j) && decide (qmN j ≤ qmL j)
def qRg (a n : Nat) : List Nat := (List.range n).map (· + a)
theorem qWp_ok2 : (qRg 2 15).all qWpOk = true := by decide +kernel
theorem qWp_ok17 : (qRg 17 15).all qWpOk = true := by decide +kernel
theorem qWp_ok32 : (qRg 32 15).all qWpOk = true := by decide +kernel
theorem qWp_ok47 : (qRg 47 15).all qWpOk = true := by decide +kernel
theorem qWp_ok62 : (qRg 62 15).all qWpOk = true := by decide +kernel
theorem qWp_ok77 : (qRg 77 15).all qWpOk = true := by decide +kernel
theorem qWp_ok92 : (qRg 92 15).all qWpOk = true := by decide +kernel
theorem qWp_ok107 : (qRg 107 15).all qWpOk = true := by decide +kernel
theorem qWp_ok122 : (qRg 122 15).all qWpOk = true := by decide +kernel
theorem qWp_ok {j : Nat} (h2 : 2 ≤ j) (h : j < 137) : qWpOk j = true := by
  have key : ∀ a n, (qRg a n).all qWpOk = true → a ≤ j → j < a + n → qWpOk j = true := fun a n h h1 h3 => List.all_eq_true.mp h j (List.mem_map.mpr ⟨j - a, List.mem_range.mpr (by omega), by omega⟩)
  by_cases c2 : j < 17
  · exact key 2 15 qWp_ok2 (by omega) (by omega)
  by_cases c17 : j < 32
  · exact key 17 15 qWp_ok17 (by omega) (by omega)
  by_cases c32 : j < 47
  · exact key 32 15 qWp_ok32 (by omega) (by omega)
  by_cases c47 : j < 62
  · exact key 47 15 qWp_ok47 (by omega) (by omega)
  by_cases c62 : j < 77
  · exact key 62 15 qWp_ok62 (by omega) (by omega)
  by_cases c77 : j < 92
  · exact key 77 15 qWp_ok77 (by omega) (by omega)
  by_cases c92 : j < 107
  · exact key 92 15 qWp_ok92 (by omega) (by omega)
  by_cases c107 : j < 122
  · exact key 107 15 qWp_ok107 (by omega) (by omega)
  exact key 122 15 qWp_ok122 (by omega) (by omega)
def qLyOk (c : Nat) : Bool := (List.range (qC c).2.2).all (fun k => decide (lw_tbl[(qLyL.getD c []).getD k 0]? = some (u_lay (qC c).1 (qC c).2.1 k)) && decide (parseFieldDescriptor ((qC c).2.1 k).2.2.1 = some (qTy c k))) && (List.range (qC c).2.2).all (fun a => (List.range (qC c).2.2).all (fun b => a == b || decide (((qC c).2.1 a).2.1 ≠ ((qC c).2.1 b).2.1)))
theorem qLy_ok : (List.range 8).all qLyOk = true := by decide +kernel
theorem q_wMin : lw_tbl[442]? = some (.code Lib.Math.min.name Lib.Math.min.code 2 (some .int)) ∧ lw_tbl[441]? = some (.static Lib.Math.min.name) := by decide +kernel
theorem q_wAbs : lw_tbl[293]? = some (.code Lib.Math.abs.name Lib.Math.abs.code 1 (some .int)) ∧ lw_tbl[292]? = some (.static Lib.Math.abs.name) := by decide +kernel
theorem q_wMath : lw_tbl[55]? = some (.initialized "java/lang/Math") := by decide +kernel
theorem q_yMath : qmY 0 = Lib.Math.abs.name ∧ qmY 1 = Lib.Math.min.name := by decide +kernel
/-- the words that a method hands on: those that stay true as tables grow warmer -/
def q_WS : List Cond := lw_tbl.filter goodWord
theorem q_inW {w : Cond} (h : w ∈ lw_tbl) (hg : goodWord w = true) : w ∈ q_WS := List.mem_filter.mpr ⟨h, hg⟩
theorem q_inAt {w : Cond} {i : Nat} (h : lw_tbl[i]? = some w) (hg : goodWord w = true) : w ∈ q_WS := q_inW (List.mem_of_getElem? h) hg
def q_ws (j : Nat) : List Cond := .code (qmY j) (qmB j) (qmL j) (qmR j) :: q_WS
theorem q_goodIn {j : Nat} (h2 : 2 ≤ j) (h : j < 137) {big : List Cond} (hb : ∀ w ∈ q_WS, w ∈ big) : GoodIn big (q_ws j) := by
  have h1 := qWp_ok h2 h
  simp only [qWpOk, Bool.and_eq_true, decide_eq_true_eq] at h1
  intro w hw
  rcases List.mem_cons.mp hw with rfl | hw
  · exact ⟨hb _ (q_inAt h1.1.1.1.1.1.1.1 rfl), Or.inl rfl⟩
  · exact ⟨hb _ hw, good_of_word (List.mem_filter.mp hw).2⟩
theorem qOkAll : (List.range 137).all (fun j => (qCod j).all (q_ok j)) = true := by
  refine List.all_eq_true.mpr fun j hj => ?_
  have hj := List.mem_range.mp hj
  by_cases e0 : j = 0
  · subst e0; exact q_ok0
  by_cases e1 : j = 1
  · subst e1; exact q_ok1
  by_cases e2 : j = 2
  · subst e2; exact q_ok2
  by_cases e3 : j = 3
  · subst e3; exact q_ok3
  by_cases e4 : j = 4
  · subst e4; exact q_ok4
  by_cases e5 : j = 5
  · subst e5; exact q_ok5
  by_cases e6 : j = 6
  · subst e6; exact q_ok6
  by_cases e7 : j = 7
  · subst e7; exact q_ok7
  by_cases e8 : j = 8
  · subst e8; exact q_ok8
  by_cases e9 : j = 9
  · subst e9; exact q_ok9
  by_cases e10 : j = 10
  · subst e10; exact q_ok10
  by_cases e11 : j = 11
  · subst e11; exact q_ok11
  by_cases e12 : j = 12
  · subst e12; exact q_ok12
  by_cases e13 : j = 13
  · subst e13; exact q_ok13
  by_cases e14 : j = 14
  · subst e14; exact q_ok14
  by_cases e15 : j = 15
  · subst e15; exact q_ok15
  by_cases e16 : j = 16
  · subst e16; exact q_ok16
  by_cases e17 : j = 17
  · subst e17; exact q_ok17
  by_cases e18 : j = 18
  · subst e18; exact q_ok18
  by_cases e19 : j = 19
  · subst e19; exact q_ok19
  by_cases e20 : j = 20
  · subst e20; exact q_ok20
  by_cases e21 : j = 21
  · subst e21; exact q_ok21
  by_cases e22 : j = 22
  · subst e22; exact q_ok22
  by_cases e23 : j = 23
  · subst e23; exact q_ok23
  by_cases e24 : j = 24
  · subst e24; exact q_ok24
  by_cases e25 : j = 25
  · subst e25; exact q_ok25
  by_cases e26 : j = 26
  · subst e26; exact q_ok26
  by_cases e27 : j = 27
  · subst e27; exact q_ok27
  by_cases e28 : j = 28
  · subst e28; exact q_ok28
  by_cases e29 : j = 29
  · subst e29; exact q_ok29
  by_cases e30 : j = 30
  · subst e30; exact q_ok30
  by_cases e31 : j = 31
  · subst e31; exact q_ok31
  by_cases e32 : j = 32
  · subst e32; exact q_ok32
  by_cases e33 : j = 33
  · subst e33; exact q_ok33
  by_cases e34 : j = 34
  · subst e34; exact q_ok34
  by_cases e35 : j = 35
  · subst e35; exact q_ok35
  by_cases e36 : j = 36
  · subst e36; exact q_ok36
  by_cases e37 : j = 37
  · subst e37; exact q_ok37
  by_cases e38 : j = 38
  · subst e38; exact q_ok38
  by_cases e39 : j = 39
  · subst e39; exact q_ok39
  by_cases e40 : j = 40
  · subst e40; exact q_ok40
  by_cases e41 : j = 41
  · subst e41; exact q_ok41
  by_cases e42 : j = 42
  · subst e42; exact q_ok42
  by_cases e43 : j = 43
  · subst e43; exact q_ok43
  by_cases e44 : j = 44
  · subst e44; exact q_ok44
  by_cases e45 : j = 45
  · subst e45; exact q_ok45
  by_cases e46 : j = 46
  · subst e46; exact q_ok46
  by_cases e47 : j = 47
  · subst e47; exact q_ok47
  by_cases e48 : j = 48
  · subst e48; exact q_ok48
  by_cases e49 : j = 49
  · subst e49; exact q_ok49
  by_cases e50 : j = 50
  · subst e50; exact q_ok50
  by_cases e51 : j = 51
  · subst e51; exact q_ok51
  by_cases e52 : j = 52
  · subst e52; exact q_ok52
  by_cases e53 : j = 53
  · subst e53; exact q_ok53
  by_cases e54 : j = 54
  · subst e54; exact q_ok54
  by_cases e55 : j = 55
  · subst e55; exact q_ok55
  by_cases e56 : j = 56
  · subst e56; exact q_ok56
  by_cases e57 : j = 57
  · subst e57; exact q_ok57
  by_cases e58 : j = 58
  · subst e58; exact q_ok58
  by_cases e59 : j = 59
  · subst e59; exact q_ok59
  by_cases e60 : j = 60
  · subst e60; exact q_ok60
  by_cases e61 : j = 61
  · subst e61; exact q_ok61
  by_cases e62 : j = 62
  · subst e62; exact q_ok62
  by_cases e63 : j = 63
  · subst e63; exact q_ok63
  by_cases e64 : j = 64
  · subst e64; exact q_ok64
  by_cases e65 : j = 65
  · subst e65; exact q_ok65
  by_cases e66 : j = 66
  · subst e66; exact q_ok66
  by_cases e67 : j = 67
  · subst e67; exact q_ok67
  by_cases e68 : j = 68
  · subst e68; exact q_ok68
  by_cases e69 : j = 69
  · subst e69; exact q_ok69
  by_cases e70 : j = 70
  · subst e70; exact q_ok70
  by_cases e71 : j = 71
  · subst e71; exact q_ok71
  by_cases e72 : j = 72
  · subst e72; exact q_ok72
  by_cases e73 : j = 73
  · subst e73; exact q_ok73
  by_cases e74 : j = 74
  · subst e74; exact q_ok74
  by_cases e75 : j = 75
  · subst e75; exact q_ok75
  by_cases e76 : j = 76
  · subst e76; exact q_ok76
  by_cases e77 : j = 77
  · subst e77; exact q_ok77
  by_cases e78 : j = 78
  · subst e78; exact q_ok78
  by_cases e79 : j = 79
  · subst e79; exact q_ok79
  by_cases e80 : j = 80
  · subst e80; exact q_ok80
  by_cases e81 : j = 81
  · subst e81; exact q_ok81
  by_cases e82 : j = 82
  · subst e82; exact q_ok82
  by_cases e83 : j = 83
  · subst e83; exact q_ok83
  by_cases e84 : j = 84
  · subst e84; exact q_ok84
  by_cases e85 : j = 85
  · subst e85; exact q_ok85
  by_cases e86 : j = 86
  · subst e86; exact q_ok86
  by_cases e87 : j = 87
  · subst e87; exact q_ok87
  by_cases e88 : j = 88
  · subst e88; exact q_ok88
  by_cases e89 : j = 89
  · subst e89; exact q_ok89
  by_cases e90 : j = 90
  · subst e90; exact q_ok90
  by_cases e91 : j = 91
  · subst e91; exact q_ok91
  by_cases e92 : j = 92
  · subst e92; exact q_ok92
  by_cases e93 : j = 93
  · subst e93; exact q_ok93
  by_cases e94 : j = 94
  · subst e94; exact q_ok94
  by_cases e95 : j = 95
  · subst e95; exact q_ok95
  by_cases e96 : j = 96
  · subst e96; exact q_ok96
  by_cases e97 : j = 97
  · subst e97; exact q_ok97
  by_cases e98 : j = 98
  · subst e98; exact q_ok98
  by_cases e99 : j = 99
  · subst e99; exact q_ok99
  by_cases e100 : j = 100
  · subst e100; exact q_ok100
  by_cases e101 : j = 101
  · subst e101; exact q_ok101
  by_cases e102 : j = 102
  · subst e102; exact q_ok102
  by_cases e103 : j = 103
  · subst e103; exact q_ok103
  by_cases e104 : j = 104
  · subst e104; exact q_ok104
  by_cases e105 : j = 105
  · subst e105; exact q_ok105
  by_cases e106 : j = 106
  · subst e106; exact q_ok106
  by_cases e107 : j = 107
  · subst e107; exact q_ok107
  by_cases e108 : j = 108
  · subst e108; exact q_ok108
  by_cases e109 : j = 109
  · subst e109; exact q_ok109
  by_cases e110 : j = 110
  · subst e110; exact q_ok110
  by_cases e111 : j = 111
  · subst e111; exact q_ok111
  by_cases e112 : j = 112
  · subst e112; exact q_ok112
  by_cases e113 : j = 113
  · subst e113; exact q_ok113
  by_cases e114 : j = 114
  · subst e114; exact q_ok114
  by_cases e115 : j = 115
  · subst e115; exact q_ok115
  by_cases e116 : j = 116
  · subst e116; exact q_ok116
  by_cases e117 : j = 117
  · subst e117; exact q_ok117
  by_cases e118 : j = 118
  · subst e118; exact q_ok118
  by_cases e119 : j = 119
  · subst e119; exact q_ok119
  by_cases e120 : j = 120
  · subst e120; exact q_ok120
  by_cases e121 : j = 121
  · subst e121; exact q_ok121
  by_cases e122 : j = 122
  · subst e122; exact q_ok122
  by_cases e123 : j = 123
  · subst e123; exact q_ok123
  by_cases e124 : j = 124
  · subst e124; exact q_ok124
  by_cases e125 : j = 125
  · subst e125; exact q_ok125
  by_cases e126 : j = 126
  · subst e126; exact q_ok126
  by_cases e127 : j = 127
  · subst e127; exact q_ok127
  by_cases e128 : j = 128
  · subst e128; exact q_ok128
  by_cases e129 : j = 129
  · subst e129; exact q_ok129
  by_cases e130 : j = 130
  · subst e130; exact q_ok130
  by_cases e131 : j = 131
  · subst e131; exact q_ok131
  by_cases e132 : j = 132
  · subst e132; exact q_ok132
  by_cases e133 : j = 133
  · subst e133; exact q_ok133
  by_cases e134 : j = 134
  · subst e134; exact q_ok134
  by_cases e135 : j = 135
  · subst e135; exact q_ok135
  have e : j = 136 := by omega
  subst e; exact q_ok136
