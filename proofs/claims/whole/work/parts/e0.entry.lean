/-! AT THE LAW'S ENTRY: the constants (GENERATED tables: gene0.py; the rest by hand) -/
def e0C : List (Nat × List Nat) := [(3, [1861, 3909, 197, 1221, 3269, 709, 1733, 3781, 453, 1477, 3525, 965, 3013, 1989, 4037, 37, 1061, 3109, 549, 1573, 3621, 293, 1317, 3365, 805, 1829, 3877, 165, 1189, 3237, 677, 1701, 3749, 421, 1445, 3493, 933, 2981, 1957, 4005, 101, 1125, 3173, 613, 1637, 3685, 357, 1381, 3429, 869, 1893, 3941, 229, 1253, 3301, 741, 1765, 3813, 485, 1509, 3557, 997, 3045, 2021, 4069, 21, 1045, 3093, 533, 1557, 3605, 277, 1301, 3349, 789, 1813, 3861, 149, 1173, 3221, 661, 1685, 3733, 405, 1429, 3477, 917, 2965, 1941, 3989, 85, 1109, 3157, 597, 1621, 3669, 341, 1365, 3413, 853, 1877, 3925, 213, 1237, 3285, 725, 1749, 3797, 469, 1493, 3541, 981, 3029, 2005, 4053, 53, 1077, 3125, 565, 1589, 3637, 309, 1333, 3381, 821, 1845, 3893, 181, 1205, 3253, 693, 1717, 3765, 437, 1461, 3509, 949, 2997, 1973, 4021, 117, 1141, 3189, 629, 1653, 3701, 373, 1397, 3445, 885, 1909, 3957, 245, 1269, 3317, 757, 1781, 3829, 501, 1525, 3573, 1013, 3061, 2037, 4085, 13, 1037, 3085, 525, 1549, 3597, 269, 1293, 3341, 781, 1805]), (5, [1165, 3213, 653, 1677, 3725, 397, 1421, 3469, 909, 2957, 1933, 3981, 77, 1101, 3149, 589, 1613]), (6, [3329, 769, 1793, 3841, 129, 1153]), (7, [641, 1665, 3713, 385, 1409, 3457, 897, 2945]), (8, [3969, 65, 1089, 3137, 577, 1601, 3649, 321, 1345, 3393, 833, 1857]), (9, [193, 1217, 3265, 705, 1729, 3777, 449]), (10, [3521, 961, 3009]), (11, [1505, 3553, 993, 3041, 2017, 4065, 17, 1041]), (12, [529, 1553, 3601, 273, 1297, 3345, 785, 1809]), (13, [145, 1169, 3217, 657, 1681, 3729, 401, 1425]), (14, [913, 2961, 1937, 3985, 81, 1105, 3153, 593]), (15, [3665, 337, 1361, 3409, 849, 1873, 3921, 209, 1233, 3281, 721]), (16, [3793, 465, 1489, 3537, 977, 3025, 2001, 4049, 49, 1073, 3121]), (17, [3617, 289]), (18, [3441, 881, 1905, 3953, 241, 1265, 3313]), (19, [1777, 3825, 497, 1521, 3569, 1009, 3057]), (20, [4081, 9, 1033, 3081, 521]), (21, [3593, 265, 1289, 3337, 777]), (22, [3849, 137, 1161, 3209]), (23, [1673, 3721, 393, 1417, 3465]), (24, [2953, 1929, 3977, 73, 1097]), (25, [585, 1609, 3657, 329, 1353]), (26, [841, 1865, 3913, 201, 1225]), (27, [713, 1737, 3785, 457, 1481]), (28, [873, 1897, 3945, 233]), (29, [3305, 745, 1769, 3817]), (30, [1513, 3561, 1001, 3049]), (31, [4073, 25, 1049, 3097]), (32, [1561, 3609, 281, 1305]), (33, [793, 1817, 3865, 153, 1177, 3225, 665]), (34, [3737, 409, 1433, 3481, 921, 2969, 1945]), (35, [89, 1113, 3161, 601, 1625]), (36, [345, 1369, 3417, 857, 1881]), (37, [217, 1241, 3289, 729]), (38, [4033, 33, 1057, 3105, 545]), (39, [3361, 801, 1825, 3873, 161]), (40, [3233, 673, 1697, 3745]), (41, [1441, 3489, 929]), (42, [1953, 4001, 97]), (43, [3169, 609, 1633]), (44, [353, 1377, 3425, 865]), (45, [3937, 225, 1249, 3297, 737, 1761, 3809]), (46, [1585, 3633, 305, 1329, 3377, 817, 1841]), (47, [177, 1201, 3249, 689, 1713]), (48, [433, 1457, 3505, 945, 2993, 1969, 4017]), (49, [1137, 3185, 625, 1649, 3697, 369]), (50, [969, 3017, 1993, 4041]), (51, [1065, 3113, 553, 1577, 3625, 297]), (52, [3369, 809, 1833, 3881, 169, 1193]), (53, [681, 1705, 3753, 425]), (54, [3497, 937, 2985, 1961, 4009, 105]), (55, [3177, 617, 1641, 3689, 361, 1385]), (56, [3801, 473, 1497, 3545, 985, 3033, 2009, 4057, 57]), (57, [1593, 3641, 313, 1337, 3385, 825, 1849, 3897, 185, 1209, 3257, 697, 1721, 3769, 441, 1465, 3513, 953, 3001, 1977, 4025, 121, 1145, 3193, 633, 1657, 3705, 377, 1401, 3449, 889]), (59, [3419, 859, 1883, 3931, 219, 1243]), (61, [1755, 3803, 475, 1499, 3547, 987]), (63, [4059, 59, 1083, 3131, 571, 1595]), (65, [1339, 3387, 827, 1851]), (67, [1211, 3259, 699, 1723, 3771, 443, 1467]), (69, [3003, 1979, 4027, 123, 1147]), (71, [1659, 3707, 379, 1403, 3451, 891, 1915]), (73, [1275, 3323, 763, 1787, 3835]), (75, [3579, 1019, 3067, 2043, 4091, 7, 519]), (77, [775, 1799, 135, 647, 1671, 391, 1415, 903]), (79, [583, 1607, 327, 839, 1863, 199]), (81, [455, 1479, 967, 1991]), (83, [1575, 295, 807, 1831, 167, 679]), (85, [1447, 935, 1959, 103, 615, 1639]), (87, [1895, 231, 743, 1767]), (89, [999, 2023, 23, 535, 1559, 279]), (91, [151, 663, 1687, 407, 1431, 919, 1943, 87]), (93, [343, 855, 1879, 215, 727, 1751]), (95, [983, 2007, 55, 567, 1591, 311, 823]), (97, [695, 1719, 439, 1463, 951, 1975]), (99, [1655, 375, 887, 1911, 247, 759]), (101, [1527, 1015, 2039, 15, 527, 1551]), (103, [1807, 143, 655, 1679, 399, 1423, 911]), (105, [591, 1615, 335, 847, 1871, 207]), (107, [463, 1487, 975, 1999, 47]), (109, [303, 815, 1839, 175, 687]), (111, [1455, 943, 1967, 111]), (113, [367, 879, 1903, 239, 751]), (115, [1519, 1007, 2031, 31, 543]), (117, [3883, 171, 1195, 3243, 683, 1707, 3755, 427, 1451, 3499, 939, 2987, 1963, 4011, 107, 1131, 3179]), (119, [1395, 3443, 883, 1907, 3955, 243]), (121, [755, 1779, 3827, 499, 1523, 3571, 1011, 3059, 2035]), (123, [1035, 3083, 523, 1547]), (125, [1715, 3763, 435, 1459, 3507, 947, 2995, 1971, 4019, 115, 1139, 3187, 627, 1651]), (127, [1291, 3339, 779, 1803]), (129, [363, 1387, 3435, 875, 1899, 3947, 235, 1259, 3307, 747, 1771, 3819, 491, 1515]), (131, [2027, 4075, 27, 1051, 3099, 539]), (133, [1307, 3355, 795, 1819, 3867, 155, 1179, 3227, 667]), (135, [1435, 3483, 923, 2971]), (137, [1115, 3163, 603, 1627])]
def e0S : List (List Nat) := [[3397, 837, 591], [3853, 141, 640], [347, 1371, 2102], [3291, 731, 2103], [3035, 2011, 2104], [3643, 315, 2105], [3899, 187, 2106], [3515, 955, 2107], [3195, 635, 2108], [3963, 251, 2109], [507, 1531, 2110], [1543, 263, 2111], [1927, 71, 2112], [711, 1735, 2113], [39, 551, 2114], [1703, 423, 2115], [359, 871, 2116], [487, 1511, 2117], [791, 1815, 2118], [599, 1623, 2119], [471, 1495, 2120], [1847, 183, 2121], [119, 631, 2122], [1783, 503, 2123], [271, 783, 2124], [1935, 79, 2125], [719, 1743, 2126], [559, 1583, 2127], [1711, 431, 2128], [623, 1647, 2129], [1775, 495, 2130], [811, 1835, 1790], [3699, 371, 1468], [1267, 3315, 1473], [4083, 11, 1474], [3251, 691, 1438], [3595, 267, 1475], [1643, 3691, 2054], [1003, 3051, 2068], [3611, 283, 2073], [3739, 411, 2074], [3995, 91, 2075]]
def e0R : List (List Nat) := [[349, 1155], [3661, 1056], [429, 1114], [259, 1216], [67, 1217], [1187, 1260], [797, 1124], [531, 1394], [83, 1395], [3027, 1403], [3851, 1483], [587, 1491], [765, 1214], [3117, 1113], [227, 1276], [749, 1123], [3901, 1187], [3251, 1438], [3595, 1475], [3699, 1468], [1267, 1473], [4083, 1474], [3853, 640], [3397, 591], [1643, 2054], [1003, 2068], [3611, 2073], [3739, 2074], [3995, 2075], [347, 2102], [3291, 2103], [3035, 2104], [3643, 2105], [3899, 2106], [3515, 2107], [3195, 2108], [3963, 2109], [507, 2110], [1543, 2111], [1927, 2112], [711, 2113], [39, 2114], [1703, 2115], [359, 2116], [487, 2117], [791, 2118], [599, 2119], [471, 2120], [1847, 2121], [119, 2122], [1783, 2123], [271, 2124], [1935, 2125], [719, 2126], [559, 2127], [1711, 2128], [623, 2129], [1775, 2130], [811, 1790]]
def e0Z : List (List Nat) := [[3073, 601, 117], [513, 617, 119], [1281, 751, 101], [3201, 753, 101], [1921, 755, 101], [3905, 757, 101], [1473, 759, 101], [481, 782, 101], [3089, 784, 101], [3857, 786, 101], [3473, 788, 101], [1617, 790, 101], [1745, 792, 101], [1569, 763, 101], [1393, 805, 101], [753, 807, 101], [2033, 809, 101], [1545, 811, 101], [1801, 813, 101], [649, 818, 101], [905, 820, 101], [3145, 822, 101], [3401, 824, 101], [3273, 826, 101], [3433, 843, 101], [1257, 845, 101], [489, 847, 101], [2025, 849, 101], [537, 851, 101], [3353, 853, 101], [1689, 855, 101], [3993, 857, 101], [3673, 859, 101], [3929, 861, 101], [1985, 761, 101], [1313, 765, 101], [1185, 767, 101], [417, 769, 101], [2977, 771, 101], [1121, 773, 101], [3681, 775, 101], [1889, 777, 101], [561, 794, 101], [3889, 796, 101], [3761, 798, 101], [113, 800, 101], [3529, 828, 101], [41, 830, 101], [1321, 832, 101], [3241, 834, 101], [1449, 836, 101], [1129, 838, 101], [1753, 863, 101], [569, 1785, 109]]
def e0N : List (List Nat) := [[0, 645, 325], [4089, 0, 1349], [5, 1669, 0]]
def e0T : List (List Nat) := [[1081, 1042, 112], [3129, 1044, 112]]
def e0K : List (Nat × Nat × List Nat) := [(469, 4, [484, 486, 488, 490]), (187, 6, [200, 202, 204, 206, 208, 210]), (214, 4, [225, 227, 229, 231]), (235, 7, [339, 341, 343, 345, 347, 349, 351]), (136, 2, [143, 145]), (442, 6, [455, 457, 459, 461, 463, 465]), (361, 8, [388, 390, 392, 394, 396, 398, 400, 402]), (243, 14, [299, 301, 303, 305, 307, 309, 311, 313, 315, 317, 319, 321, 323, 325]), (150, 6, [173, 175, 177, 179, 181, 183]), (355, 10, [420, 422, 424, 426, 428, 430, 432, 434, 436, 438]), (128, 14, [509, 511, 513, 515, 517, 519, 521, 523, 525, 527, 529, 531, 533, 535]), (1508, 21, [1548, 1550, 1552, 1554, 1556, 1558, 1560, 1562, 1564, 1566, 1568, 1570, 1572, 1574, 1576, 1578, 1580, 1582, 1584, 1586, 1588]), (1593, 22, [1633, 1635, 1637, 1639, 1641, 1643, 1645, 1647, 1649, 1651, 1653, 1655, 1657, 1659, 1661, 1663, 1665, 1667, 1669, 1671, 1673, 1675]), (1502, 16, [1698, 1700, 1702, 1704, 1706, 1708, 1710, 1712, 1714, 1716, 1718, 1720, 1722, 1724, 1726, 1728])]
/-- what the Statement gives of the start -/
def e0W : Cond := .and given_1 narrow_1
def e0At : Nat → Nat → Cond → Cond
  | 0, _, w => w
  | f + 1, n, w => match w with
    | .and a b => if n % 2 = 0 then e0At f (n / 2) a else e0At f (n / 2) b
    | w => w
theorem e0At_ok {args : Array Value} {s : State} (f : Nat) : ∀ (n : Nat) (w : Cond), w.before args s = true → (e0At f n w).before args s = true := by
  induction f with
  | zero => intro n w h; exact h
  | succ f ih =>
    intro n w h
    unfold e0At
    split
    · rename_i a b
      rw [Cond.before_and, Bool.and_eq_true] at h
      split
      · exact ih _ _ h.1
      · exact ih _ _ h.2
    · exact h
def e0w (n : Nat) : Cond := e0At 14 n e0W
theorem e0w_of {args : Array Value} {s : State} (hg : e0W.before args s = true) {n : Nat} {w : Cond} (h : decide (e0w n = w) = true) : w.before args s = true := by
  rw [← of_decide_eq_true h]
  exact e0At_ok _ _ _ hg
def e0L (p : Nat) (w : Cond) : Bool := decide (lw_tbl[p]? = some w)
theorem e0L_of {args : Array Value} {s : State} (hts : ∀ w ∈ lw_tbl, w.before args s = true) {p : Nat} {w : Cond} (h : e0L p w = true) : w.before args s = true := hts w (List.mem_of_getElem? (of_decide_eq_true h))
theorem e0zip {α β : Type} {q : α} : ∀ {l : List α} {m : List β}, l.length ≤ m.length → q ∈ l → ∃ r, (q, r) ∈ l.zip m := by
  intro l
  induction l with
  | nil => intro m _ h; cases h
  | cons a t ih =>
    intro m hm hq
    cases m with
    | nil => simp at hm
    | cons b u =>
      rcases List.mem_cons.mp hq with e | e
      · subst e
        exact ⟨b, by rw [List.zip_cons_cons]; exact List.mem_cons_self⟩
      · obtain ⟨r, hr⟩ := ih (m := u) (by simp only [List.length_cons] at hm; omega) e
        exact ⟨r, by rw [List.zip_cons_cons]; exact List.mem_cons_of_mem _ hr⟩
/-- the constants' cells, as terms -/
def e0ref : Value → Nat
  | .ref c => c
  | _ => 999999
def e0tm (c : Nat) : Term :=
  match mStat.find? (fun q => e0ref q.2.2.2 == c) with
  | some q => .static q.1 q.2.1 q.2.2.1
  | none => match mStr.find? (fun q => q.1 == c) with
    | some q => .string q.2.2.1 q.2.2.2.1
    | none => match mStr.find? (fun q => q.2.1 == c) with
      | some q => .field (.string q.2.2.1 q.2.2.2.1) "java/lang/String" "value" "[B"
      | none => .arg c
def e0cv (s : State) (b : Addr) (c : Nat) : Value :=
  match (e0tm c).eval #[.ref b] s none [] s with
  | some (.ref a) => .ref a
  | _ => .null
theorem e0cv_kind {s : State} {b : Addr} (r : Nat) : e0cv s b r = .null ∨ ∃ a, e0cv s b r = .ref a := by
  unfold e0cv
  split
  · exact Or.inr ⟨_, rfl⟩
  · exact Or.inl rfl
theorem e0cv_of {s : State} {b : Addr} {c : Nat} {a : Addr} (h : (e0tm c).eval #[.ref b] s none [] s = some (.ref a)) : e0cv s b c = .ref a := by
  unfold e0cv
  rw [h]
theorem e0cv_ref {s : State} {b : Addr} {c : Nat} {v : Value} (h : (e0tm c).eval #[.ref b] s none [] s = some v) (hv : v.isRef = true) : e0cv s b c = v := by
  unfold e0cv
  rw [h]
  cases v <;> first | rfl | (cases hv; done)
/-! the tables' checks -/
def e0okC (q : Nat × FieldType × List Value) : Bool :=
  match e0C.find? (fun p => p.1 == q.1) with
  | none => false
  | some p => decide (q.2.2.length < 2 ^ 31) && decide (e0w (p.2.getD 0 0) = .arrayOf (e0tm q.1) q.2.1) && decide (e0w (p.2.getD 1 0) = .eq (.length (e0tm q.1)) (.int (Int32.ofNat q.2.2.length))) &&
    (List.range q.2.2.length).all (fun j => match q.2.2.getD j .null with
      | .int z => decide (e0w (p.2.getD (j + 2) 0) = .eq (.elem (e0tm q.1) (.int (Int32.ofNat j))) (.int z))
      | .ref c => decide (c < mNC) && mStr.any (fun r => decide (r.1 = c)) && decide (e0w (p.2.getD (j + 2) 0) = .eq (.elem (e0tm q.1) (.int (Int32.ofNat j))) (e0tm c))
      | _ => false)
def e0okS (x : (Nat × Nat × String × Nat × String) × List Nat) : Bool :=
  decide (e0tm x.1.1 = .string x.1.2.2.1 x.1.2.2.2.1) && decide (e0tm x.1.2.1 = .field (.string x.1.2.2.1 x.1.2.2.2.1) "java/lang/String" "value" "[B") && mCT.any (fun r => decide (r.1 = x.1.2.1)) &&
  decide (e0w (x.2.getD 0 0) = .exactly (.string x.1.2.2.1 x.1.2.2.2.1) "java/lang/String") && decide (e0w (x.2.getD 1 0) = .eq (.field (.string x.1.2.2.1 x.1.2.2.2.1) "java/lang/String" "coder" "B") (.int 0)) &&
  e0L (x.2.getD 2 0) (.stringRef x.1.2.2.1 x.1.2.2.2.1 x.1.2.2.2.2)
def e0okR (x : (String × Nat × String) × List Nat) : Bool :=
  decide (e0w (x.2.getD 0 0) = .exactly (.string x.1.1 x.1.2.1) "java/lang/String") && e0L (x.2.getD 1 0) (.stringRef x.1.1 x.1.2.1 x.1.2.2)
def e0okZ (x : (String × String × String × Value) × List Nat) : Bool :=
  e0L (x.2.getD 1 0) (.laysStatic x.1.1 x.1.2.1 x.1.2.2.1) && e0L (x.2.getD 2 0) (.initialized x.1.1) &&
  (match x.1.2.2.2 with
    | .int z => decide (e0w (x.2.getD 0 0) = .eq (.static x.1.1 x.1.2.1 x.1.2.2.1) (.int z))
    | .ref c => decide (c < mNC) && decide (e0tm c = .static x.1.1 x.1.2.1 x.1.2.2.1) && decide (e0w (x.2.getD 0 0) = .isRef (.static x.1.1 x.1.2.1 x.1.2.2.1))
    | _ => false)
def e0okN (x : String × List Nat) : Bool := (mExc.zip x.2).all (fun y => decide (x.1 = y.1) || decide (e0w y.2 = .not (.castable x.1 y.1)))
def e0okT (n d : String) (l : List Nat) : Bool := decide (e0w (l.getD 0 0) = .isRef (.static Bundle.tN n d)) && e0L (l.getD 1 0) (.laysStatic Bundle.tN n d) && e0L (l.getD 2 0) (.initialized Bundle.tN)
def e0okK (x : (String × Nat) × (Nat × Nat × List Nat)) : Bool := e0L x.2.1 (.instantiable x.1.1 x.2.2.1)
theorem e0C_all : mCT.all e0okC = true := by decide +kernel
theorem e0S_all : (mStr.zip e0S).all e0okS = true := by decide +kernel
theorem e0R_all : (mSref.zip e0R).all e0okR = true := by decide +kernel
theorem e0Z_all : (mStat.zip e0Z).all e0okZ = true := by decide +kernel
theorem e0N_all : (mExc.zip e0N).all e0okN = true ∧ e0N.all (fun l => decide (l.length = 3)) = true := by decide +kernel
theorem e0T_0 : e0okT "UNASSIGNED_STACK" Bundle.steD (e0T.getD 0 []) = true := by decide +kernel
theorem e0T_1 : e0okT "SUPPRESSED_SENTINEL" Bundle.listD (e0T.getD 1 []) = true := by decide +kernel
theorem e0K_all : ((vwCl.map (fun q => (q.1, q.2.2))).zip e0K).all e0okK = true := by decide +kernel
theorem e0_lens : mStr.length ≤ e0S.length ∧ mSref.length ≤ e0R.length ∧ mStat.length ≤ e0Z.length ∧ mExc.length = e0N.length ∧ mExc.length = 3 ∧ (vwCl.map (fun q => (q.1, q.2.2))).length ≤ e0K.length := by decide +kernel
theorem e0tm_0 : e0tm 0 = .arg 0 := by decide +kernel
section E0
variable {s : State} {b : Addr} {A : Nat → Prop}
theorem e0_ex {own : String} {k : Nat} {nm : String} (h : (Cond.exactly (.string own k) nm).before #[.ref b] s = true) : ∃ a, (Term.string own k).eval #[.ref b] s none [] s = some (.ref a) := by
  obtain ⟨a, -, -, -, h1, -⟩ := Cond.exactly_spec (args := #[.ref b]) (first := s) (o := none) (s := s) (idx := []) h
  exact ⟨a, h1⟩
theorem e0_field {t : Term} {a : Addr} {o n d : String} {v : Value} (hA : ∀ a : Nat, a < s.heap.size → ¬ A a) (ht : t.eval #[.ref b] s none [] s = some (.ref a)) (hv : (Term.field t o n d).eval #[.ref b] s none [] s = some v) : va_OF o n d v a A s s.heap := by
  cases hfo : s.fieldFound? o n d with
  | none =>
    rw [va_fe ht] at hv
    simp [State.fieldOf?, State.fieldNamed?, hfo] at hv
  | some x =>
    obtain ⟨cf, k, fi, f⟩ := x
    obtain ⟨hst, cell, hcell, hkn, -, -, hslot⟩ := Term.field_spec hfo ht hv
    exact ⟨cf, k, fi, f, cell, hfo, hst, hcell, hkn, hslot, hA a (Array.getElem?_eq_some_iff.mp hcell).1⟩
theorem e0_str (hg : e0W.before #[.ref b] s = true) {q : Nat × Nat × String × Nat × String} (hq : q ∈ mStr) : ∃ a, (e0tm q.1).eval #[.ref b] s none [] s = some (.ref a) := by
  obtain ⟨r, hr⟩ := e0zip e0_lens.1 hq
  have h := List.all_eq_true.mp e0S_all _ hr
  unfold e0okS at h
  simp only [Bool.and_eq_true] at h
  obtain ⟨⟨⟨⟨⟨h1, h2⟩, h3⟩, h4⟩, h5⟩, h6⟩ := h
  obtain ⟨a, ha⟩ := e0_ex (e0w_of hg h4)
  exact ⟨a, by rw [of_decide_eq_true h1]; exact ha⟩
theorem e0_CT (hg : e0W.before #[.ref b] s = true) (hA : ∀ a : Nat, a < s.heap.size → ¬ A a) {q : Nat × FieldType × List Value} (hq : q ∈ mCT) :
    ∃ t, (e0tm q.1).eval #[.ref b] s none [] s = some (.ref t) ∧ va_T q.2.1 t q.2.2.length (fun j => mF (e0cv s b) (fun a => a) (q.2.2.getD j .null)) A s s.heap := by
  have h := List.all_eq_true.mp e0C_all _ hq
  unfold e0okC at h
  split at h
  · cases h
  · rename_i p hp
    simp only [Bool.and_eq_true] at h
    obtain ⟨⟨⟨h1, h2⟩, h3⟩, h4⟩ := h
    refine va_Tof (args := #[.ref b]) (of_decide_eq_true h1) (e0w_of hg h2) (va_eqt (e0w_of hg h3)) (fun j hj => ?_) hA
    have h5 := List.all_eq_true.mp h4 j (List.mem_range.mpr hj)
    split at h5
    · rename_i z hz
      rw [hz]
      exact va_eqt (e0w_of hg h5)
    · rename_i c hc
      rw [hc]
      simp only [Bool.and_eq_true] at h5
      obtain ⟨⟨g1, g2⟩, g3⟩ := h5
      obtain ⟨r, r1, r2⟩ := List.any_eq_true.mp g2
      obtain ⟨a, ha⟩ := e0_str hg r1
      rw [of_decide_eq_true r2] at ha
      have e : mF (e0cv s b) (fun a => a) (.ref c) = .ref a := by
        show (if c < mNC then e0cv s b c else .ref c) = .ref a
        rw [if_pos (of_decide_eq_true g1)]
        exact e0cv_of ha
      rw [e]
      exact va_eqv (e0w_of hg g3) ha
    · cases h5
theorem e0_KF {L : Nat} {xs : Nat → Int32} (hg : e0W.before #[.ref b] s = true) (hts : ∀ w ∈ lw_tbl, w.before #[.ref b] s = true) (hX : va_X b L xs s s.heap) (hA : ∀ a : Nat, a < s.heap.size → ¬ A a) : mKF (e0cv s b) A (L, xs) s s.heap := by
  refine ⟨e0cv_kind, ?_, fun q hq => ?_, fun q hq => ?_, fun q hq => ?_, fun q hq => ?_, fun w hw hf => ?_, fun x hx y hy hne => ?_, ?_, ?_⟩
  · obtain ⟨scr, h1, h2, h3, h4, h5⟩ := hX
    refine ⟨b, e0cv_of (by rw [e0tm_0]; rfl), scr, h1, h2, h3, Nat.le_of_eq h4.symm, by rw [h4], h5, hA b (Array.getElem?_eq_some_iff.mp h1).1⟩
  · obtain ⟨t, h1, h2⟩ := e0_CT hg hA hq
    exact ⟨t, e0cv_of h1, h2⟩
  · obtain ⟨r, hr⟩ := e0zip e0_lens.1 hq
    have h := List.all_eq_true.mp e0S_all _ hr
    unfold e0okS at h
    simp only [Bool.and_eq_true] at h
    obtain ⟨⟨⟨⟨⟨h1, h2⟩, h3⟩, h4⟩, h5⟩, h6⟩ := h
    have h1 := of_decide_eq_true h1
    have h2 := of_decide_eq_true h2
    obtain ⟨a, ha⟩ := e0_ex (e0w_of hg h4)
    obtain ⟨c, c1, c2⟩ := List.any_eq_true.mp h3
    obtain ⟨t, ht, -⟩ := e0_CT (A := A) hg hA c1
    rw [of_decide_eq_true c2] at ht
    refine ⟨a, e0cv_of (by rw [h1]; exact ha), va_Oof (e0w_of hg h4) ha hA, ?_, ?_, vk_R.of (e0L_of hts h6) ?_⟩
    · rw [e0cv_of ht]
      rw [h2] at ht
      exact e0_field hA ha ht
    · exact e0_field hA ha (va_eqt (e0w_of hg h5))
    · exact ha
  · obtain ⟨r, hr⟩ := e0zip e0_lens.2.2.1 hq
    have h := List.all_eq_true.mp e0Z_all _ hr
    unfold e0okZ at h
    simp only [Bool.and_eq_true] at h
    obtain ⟨⟨h1, h2⟩, h3⟩ := h
    refine va_Zof (e0L_of hts h1) (e0L_of hts h2) ?_ hA
    obtain ⟨q1, q2, q3, q4⟩ := q
    dsimp only at h3 ⊢
    cases q4 with
    | int z => exact va_eqt (e0w_of hg h3)
    | ref c =>
      dsimp only at h3
      simp only [Bool.and_eq_true] at h3
      obtain ⟨⟨g1, g2⟩, g3⟩ := h3
      obtain ⟨v, hv, hvr⟩ := Cond.isRef_spec (args := #[.ref b]) (first := s) (o := none) (s := s) (idx := []) (e0w_of hg g3)
      have e : mF (e0cv s b) (fun a => a) (.ref c) = v := by
        show (if c < mNC then e0cv s b c else .ref c) = v
        rw [if_pos (of_decide_eq_true g1)]
        refine e0cv_ref ?_ hvr
        rw [of_decide_eq_true g2]
        exact hv
      rw [e]
      exact hv
    | _ => cases h3
  · obtain ⟨r, hr⟩ := e0zip e0_lens.2.1 hq
    have h := List.all_eq_true.mp e0R_all _ hr
    unfold e0okR at h
    simp only [Bool.and_eq_true] at h
    obtain ⟨a, ha⟩ := e0_ex (e0w_of hg h.1)
    exact ⟨a, vk_R.of (e0L_of hts h.2) ha⟩
  · have h := hts w hw
    rcases hf with hf | hf
    · unfold mFace at hf
      rw [Bool.and_eq_true] at hf
      exact va_Nw.of hf.1 h
    · cases w <;> first | (cases hf; done) | exact h
  · obtain ⟨r, hr⟩ := e0zip (Nat.le_of_eq e0_lens.2.2.2.1) hx
    have h := List.all_eq_true.mp e0N_all.1 _ hr
    have hl := of_decide_eq_true (List.all_eq_true.mp e0N_all.2 r (List.of_mem_zip hr).2)
    unfold e0okN at h
    obtain ⟨r2, hr2⟩ := e0zip (m := r) (by rw [hl, e0_lens.2.2.2.2.1]; exact Nat.le_refl 3) hy
    have h2 := List.all_eq_true.mp h _ hr2
    rw [Bool.or_eq_true] at h2
    rcases h2 with h2 | h2
    · exact absurd (of_decide_eq_true h2) hne
    · exact va_Nc.of (e0w_of hg h2)
  · have h := e0T_0
    unfold e0okT at h
    simp only [Bool.and_eq_true] at h
    exact vx_Zqof (e0L_of hts h.1.2) (e0L_of hts h.2) (e0w_of hg h.1.1) hA
  · have h := e0T_1
    unfold e0okT at h
    simp only [Bool.and_eq_true] at h
    exact vx_Zqof (e0L_of hts h.1.2) (e0L_of hts h.2) (e0w_of hg h.1.1) hA
/-- the classes, and no array's type yet -/
theorem e0_K (hts : ∀ w ∈ lw_tbl, w.before #[.ref b] s = true) : ∃ D : va_G, va_K D vwCl [] s := by
  have hall : ∀ c : Nat, ∃ D : ClassId × (Nat → Nat), ∀ q, vwCl[c]? = some q → u_Kn s q.1 q.2.1 q.2.2 D.1 D.2 := by
    intro c
    cases hc : vwCl[c]? with
    | none => exact ⟨(0, fun _ => 0), fun q hq => by cases hq⟩
    | some q =>
      obtain ⟨C, T, N⟩ := q
      obtain ⟨u1, -⟩ := mCls hc
      have hm : (C, N) ∈ vwCl.map (fun q => (q.1, q.2.2)) := List.mem_map.mpr ⟨(C, T, N), List.mem_of_getElem? hc, rfl⟩
      obtain ⟨r, hr⟩ := e0zip e0_lens.2.2.2.2.2 hm
      have h := List.all_eq_true.mp e0K_all _ hr
      unfold e0okK at h
      obtain ⟨cC, iS, hK⟩ := u_known (ws := mWall) (fun w hw => hts w (List.mem_filter.mp hw).1) u1 (e0L_of hts h)
      exact ⟨(cC, iS), fun q hq => by cases hq; exact hK⟩
  exact ⟨(fun c => (Classical.choose (hall c)).1, fun c => (Classical.choose (hall c)).2), fun c q hq => Classical.choose_spec (hall c) q hq, fun k q hk => by cases hk⟩
end E0
