/-! classes by number -/
def ownR : Nat → String := fun k => match k with
  | 0 => RX0
  | 1 => RX1
  | 2 => RX2
  | 3 => RX3
  | 4 => RX4
  | 5 => RX5
  | 6 => RX6
  | 7 => RX7
  | 8 => RX8
  | 9 => RX9
  | 10 => RX10
  | 11 => RL
  | 26 => RJ6
  | _ => ""
def clT : Nat → u_T := fun k => match k with
  | 0 => TX0
  | 1 => TX1
  | 2 => TX2
  | 3 => TX3
  | 4 => TX4
  | 5 => TX5
  | 6 => TX6
  | 7 => TX7
  | 8 => TX8
  | 9 => TX9
  | 10 => TX10
  | _ => TX0
def clTy : Nat → Nat → FieldType := fun k => match k with
  | 0 => tyX0
  | 1 => tyX1
  | 2 => tyX2
  | 3 => tyX3
  | 4 => tyX4
  | 5 => tyX5
  | 6 => tyX6
  | 7 => tyX7
  | 8 => tyX8
  | 9 => tyX9
  | 10 => tyX10
  | _ => tyX0
def clN : Nat → Nat := fun k => match k with
  | 0 => 2
  | 1 => 4
  | 2 => 10
  | 3 => 11
  | 4 => 10
  | 5 => 7
  | 6 => 11
  | 7 => 9
  | 8 => 12
  | 9 => 12
  | 10 => 58
  | _ => 0
/-- 0 int, 1 reference, 2 boolean -/
def tagOf (t : FieldType) : Nat := match t with
  | .int => 0
  | .boolean => 2
  | .object _ => 1
  | .array _ => 1
  | _ => 3
theorem vwCl_at : ∀ k, k < 11 → vwCl[k]? = some (ownR k, clT k, clN k) := by
  intro k hk
  have : k = 0 ∨ k = 1 ∨ k = 2 ∨ k = 3 ∨ k = 4 ∨ k = 5 ∨ k = 6 ∨ k = 7 ∨ k = 8 ∨ k = 9 ∨ k = 10 := by omega
  rcases this with rfl | rfl | rfl | rfl | rfl | rfl | rfl | rfl | rfl | rfl | rfl <;> rfl
theorem clTy_ok : ∀ c, c < 11 → ∀ k, k < clN c → parseFieldDescriptor (clT c k).2.2.1 = some (clTy c k) := by
  intro c hc
  have : c = 0 ∨ c = 1 ∨ c = 2 ∨ c = 3 ∨ c = 4 ∨ c = 5 ∨ c = 6 ∨ c = 7 ∨ c = 8 ∨ c = 9 ∨ c = 10 := by omega
  rcases this with rfl | rfl | rfl | rfl | rfl | rfl | rfl | rfl | rfl | rfl | rfl
  · exact tyX0_ok
  · exact tyX1_ok
  · exact tyX2_ok
  · exact tyX3_ok
  · exact tyX4_ok
  · exact tyX5_ok
  · exact tyX6_ok
  · exact tyX7_ok
  · exact tyX8_ok
  · exact tyX9_ok
  · exact tyX10_ok
theorem clNm : ∀ c, c < 11 → ∀ a, a < clN c → ∀ b, b < clN c → a ≠ b → (clT c a).2.1 ≠ (clT c b).2.1 := by
  intro c hc
  have : c = 0 ∨ c = 1 ∨ c = 2 ∨ c = 3 ∨ c = 4 ∨ c = 5 ∨ c = 6 ∨ c = 7 ∨ c = 8 ∨ c = 9 ∨ c = 10 := by omega
  rcases this with rfl | rfl | rfl | rfl | rfl | rfl | rfl | rfl | rfl | rfl | rfl
  · exact nmX0
  · exact nmX1
  · exact nmX2
  · exact nmX3
  · exact nmX4
  · exact nmX5
  · exact nmX6
  · exact nmX7
  · exact nmX8
  · exact nmX9
  · exact nmX10
theorem wd_1549 : Cond.lays RX0 RX0 "kept" "I" ∈ TBg := tb_1 (List.mem_of_getElem? (i := 202) rfl) rfl
theorem wd_1550 : Cond.laysFinal RX0 RX0 "cells" "[I" ∈ TBg := tb_1 (List.mem_of_getElem? (i := 204) rfl) rfl
theorem wd_1551 : Cond.laysFinal RX1 RX1 "town" "LTableTower$Town;" ∈ TBg := tb_2 (List.mem_of_getElem? (i := 171) rfl) rfl
theorem wd_1552 : Cond.laysFinal RX1 RX1 "state" "LTableTower$State;" ∈ TBg := tb_2 (List.mem_of_getElem? (i := 173) rfl) rfl
theorem wd_1553 : Cond.laysFinal RX1 RX1 "counted" "[I" ∈ TBg := tb_2 (List.mem_of_getElem? (i := 175) rfl) rfl
theorem wd_1554 : Cond.lays RX1 RX1 "turn" "I" ∈ TBg := tb_2 (List.mem_of_getElem? (i := 177) rfl) rfl
theorem wd_1555 : Cond.laysFinal RX2 RX2 "town" "LTableTower$Town;" ∈ TBg := tb_2 (List.mem_of_getElem? (i := 140) rfl) rfl
theorem wd_1556 : Cond.laysFinal RX2 RX2 "state" "LTableTower$State;" ∈ TBg := tb_2 (List.mem_of_getElem? (i := 142) rfl) rfl
theorem wd_1557 : Cond.lays RX2 RX2 "mostSet" "I" ∈ TBg := tb_2 (List.mem_of_getElem? (i := 144) rfl) rfl
theorem wd_1558 : Cond.laysFinal RX2 RX2 "mostRow" "[I" ∈ TBg := tb_2 (List.mem_of_getElem? (i := 146) rfl) rfl
theorem wd_1559 : Cond.laysFinal RX2 RX2 "burden" "[I" ∈ TBg := tb_2 (List.mem_of_getElem? (i := 148) rfl) rfl
theorem wd_1560 : Cond.laysFinal RX2 RX2 "tilt" "[I" ∈ TBg := tb_2 (List.mem_of_getElem? (i := 150) rfl) rfl
theorem wd_1561 : Cond.laysFinal RX2 RX2 "ways" "[I" ∈ TBg := tb_2 (List.mem_of_getElem? (i := 152) rfl) rfl
theorem wd_1562 : Cond.lays RX2 RX2 "set" "I" ∈ TBg := tb_2 (List.mem_of_getElem? (i := 154) rfl) rfl
theorem wd_1563 : Cond.lays RX2 RX2 "raised" "I" ∈ TBg := tb_2 (List.mem_of_getElem? (i := 156) rfl) rfl
theorem wd_1564 : Cond.lays RX2 RX2 "sea" "I" ∈ TBg := tb_2 (List.mem_of_getElem? (i := 158) rfl) rfl
theorem wd_1565 : Cond.lays RX3 RX3 "place" "I" ∈ TBg := tb_1 (List.mem_of_getElem? (i := 163) rfl) rfl
theorem wd_1566 : Cond.laysFinal RX3 RX3 "text" "[B" ∈ TBg := tb_1 (List.mem_of_getElem? (i := 165) rfl) rfl
theorem wd_1567 : Cond.laysFinal RX3 RX3 "into" "LTableTower$Town;" ∈ TBg := tb_1 (List.mem_of_getElem? (i := 167) rfl) rfl
theorem wd_1568 : Cond.lays RX3 RX3 "length" "I" ∈ TBg := tb_1 (List.mem_of_getElem? (i := 169) rfl) rfl
theorem wd_1569 : Cond.lays RX3 RX3 "token" "I" ∈ TBg := tb_1 (List.mem_of_getElem? (i := 171) rfl) rfl
theorem wd_1570 : Cond.lays RX3 RX3 "start" "I" ∈ TBg := tb_1 (List.mem_of_getElem? (i := 173) rfl) rfl
theorem wd_1571 : Cond.lays RX3 RX3 "end" "I" ∈ TBg := tb_1 (List.mem_of_getElem? (i := 175) rfl) rfl
theorem wd_1572 : Cond.lays RX3 RX3 "number" "I" ∈ TBg := tb_1 (List.mem_of_getElem? (i := 177) rfl) rfl
theorem wd_1573 : Cond.lays RX3 RX3 "fault" "I" ∈ TBg := tb_1 (List.mem_of_getElem? (i := 179) rfl) rfl
theorem wd_1574 : Cond.lays RX3 RX3 "limitTold" "Z" ∈ TBg := tb_1 (List.mem_of_getElem? (i := 181) rfl) rfl
theorem wd_1575 : Cond.lays RX3 RX3 "foodTold" "Z" ∈ TBg := tb_1 (List.mem_of_getElem? (i := 183) rfl) rfl
theorem wd_1576 : Cond.laysFinal RX4 RX4 "cells" "[I" ∈ TBg := tb_1 (List.mem_of_getElem? (i := 64) rfl) rfl
theorem wd_1577 : Cond.lays RX4 RX4 "length" "I" ∈ TBg := tb_1 (List.mem_of_getElem? (i := 66) rfl) rfl
theorem wd_1578 : Cond.lays RX4 RX4 "level" "I" ∈ TBg := tb_1 (List.mem_of_getElem? (i := 68) rfl) rfl
theorem wd_1579 : Cond.lays RX4 RX4 "hunger" "I" ∈ TBg := tb_1 (List.mem_of_getElem? (i := 70) rfl) rfl
theorem wd_1580 : Cond.lays RX4 RX4 "left" "I" ∈ TBg := tb_1 (List.mem_of_getElem? (i := 72) rfl) rfl
theorem wd_1581 : Cond.lays RX4 RX4 "kind" "I" ∈ TBg := tb_1 (List.mem_of_getElem? (i := 74) rfl) rfl
theorem wd_1582 : Cond.lays RX4 RX4 "above" "I" ∈ TBg := tb_1 (List.mem_of_getElem? (i := 76) rfl) rfl
theorem wd_1583 : Cond.lays RX4 RX4 "weight" "I" ∈ TBg := tb_1 (List.mem_of_getElem? (i := 78) rfl) rfl
theorem wd_1584 : Cond.laysFinal RX4 RX4 "pile" "[I" ∈ TBg := tb_1 (List.mem_of_getElem? (i := 80) rfl) rfl
theorem wd_1585 : Cond.lays RX4 RX4 "high" "I" ∈ TBg := tb_1 (List.mem_of_getElem? (i := 82) rfl) rfl
theorem wd_1586 : Cond.laysFinal RX5 RX5 "tower" "LTableTower$Tower;" ∈ TBg := tb_2 (List.mem_of_getElem? (i := 57) rfl) rfl
theorem wd_1587 : Cond.laysFinal RX5 RX5 "acts" "LTableTower$Acts;" ∈ TBg := tb_2 (List.mem_of_getElem? (i := 59) rfl) rfl
theorem wd_1588 : Cond.lays RX5 RX5 "seen" "I" ∈ TBg := tb_2 (List.mem_of_getElem? (i := 61) rfl) rfl
theorem wd_1589 : Cond.laysFinal RX5 RX5 "seenLevel" "[I" ∈ TBg := tb_2 (List.mem_of_getElem? (i := 63) rfl) rfl
theorem wd_1590 : Cond.laysFinal RX5 RX5 "seenTilt" "[I" ∈ TBg := tb_2 (List.mem_of_getElem? (i := 65) rfl) rfl
theorem wd_1591 : Cond.laysFinal RX5 RX5 "status" "[I" ∈ TBg := tb_2 (List.mem_of_getElem? (i := 67) rfl) rfl
theorem wd_1592 : Cond.lays RX5 RX5 "altered" "Z" ∈ TBg := tb_2 (List.mem_of_getElem? (i := 69) rfl) rfl
theorem wd_1593 : Cond.laysFinal RX6 RX6 "town" "LTableTower$Town;" ∈ TBg := tb_2 (List.mem_of_getElem? (i := 17) rfl) rfl
theorem wd_1594 : Cond.lays RX6 RX6 "levels" "I" ∈ TBg := tb_2 (List.mem_of_getElem? (i := 19) rfl) rfl
theorem wd_1595 : Cond.lays RX6 RX6 "years" "I" ∈ TBg := tb_2 (List.mem_of_getElem? (i := 21) rfl) rfl
theorem wd_1596 : Cond.lays RX6 RX6 "crumbs" "I" ∈ TBg := tb_2 (List.mem_of_getElem? (i := 23) rfl) rfl
theorem wd_1597 : Cond.laysFinal RX6 RX6 "order" "[I" ∈ TBg := tb_2 (List.mem_of_getElem? (i := 25) rfl) rfl
theorem wd_1598 : Cond.laysFinal RX6 RX6 "meal" "[I" ∈ TBg := tb_2 (List.mem_of_getElem? (i := 27) rfl) rfl
theorem wd_1599 : Cond.laysFinal RX6 RX6 "wedge" "[I" ∈ TBg := tb_2 (List.mem_of_getElem? (i := 29) rfl) rfl
theorem wd_1600 : Cond.laysFinal RX6 RX6 "lean" "[I" ∈ TBg := tb_2 (List.mem_of_getElem? (i := 31) rfl) rfl
theorem wd_1601 : Cond.laysFinal RX6 RX6 "load" "[I" ∈ TBg := tb_2 (List.mem_of_getElem? (i := 33) rfl) rfl
theorem wd_1602 : Cond.laysFinal RX6 RX6 "carries" "[I" ∈ TBg := tb_2 (List.mem_of_getElem? (i := 35) rfl) rfl
theorem wd_1603 : Cond.laysFinal RX6 RX6 "tilt" "[I" ∈ TBg := tb_2 (List.mem_of_getElem? (i := 37) rfl) rfl
theorem wd_1604 : Cond.lays RX7 RX7 "tables" "I" ∈ TBg := tb_1 (List.mem_of_getElem? (i := 126) rfl) rfl
theorem wd_1605 : Cond.lays RX7 RX7 "limit" "I" ∈ TBg := tb_1 (List.mem_of_getElem? (i := 128) rfl) rfl
theorem wd_1606 : Cond.lays RX7 RX7 "food" "I" ∈ TBg := tb_1 (List.mem_of_getElem? (i := 130) rfl) rfl
theorem wd_1607 : Cond.laysFinal RX7 RX7 "kind" "[I" ∈ TBg := tb_1 (List.mem_of_getElem? (i := 132) rfl) rfl
theorem wd_1608 : Cond.laysFinal RX7 RX7 "weight" "[I" ∈ TBg := tb_1 (List.mem_of_getElem? (i := 134) rfl) rfl
theorem wd_1609 : Cond.laysFinal RX7 RX7 "bears" "[I" ∈ TBg := tb_1 (List.mem_of_getElem? (i := 136) rfl) rfl
theorem wd_1610 : Cond.laysFinal RX7 RX7 "lean" "[I" ∈ TBg := tb_1 (List.mem_of_getElem? (i := 138) rfl) rfl
theorem wd_1611 : Cond.laysFinal RX7 RX7 "hunger" "[I" ∈ TBg := tb_1 (List.mem_of_getElem? (i := 140) rfl) rfl
theorem wd_1612 : Cond.laysFinal RX7 RX7 "takes" "LTableTower$Rule;" ∈ TBg := tb_1 (List.mem_of_getElem? (i := 142) rfl) rfl
theorem wd_1613 : Cond.laysFinal RX8 RX8 "town" "LTableTower$Town;" ∈ TBg := tb_2 (List.mem_of_getElem? (i := 97) rfl) rfl
theorem wd_1614 : Cond.laysFinal RX8 RX8 "now" "LTableTower$Tower;" ∈ TBg := tb_2 (List.mem_of_getElem? (i := 99) rfl) rfl
theorem wd_1615 : Cond.laysFinal RX8 RX8 "trial" "LTableTower$Tower;" ∈ TBg := tb_2 (List.mem_of_getElem? (i := 101) rfl) rfl
theorem wd_1616 : Cond.lays RX8 RX8 "resting" "I" ∈ TBg := tb_2 (List.mem_of_getElem? (i := 103) rfl) rfl
theorem wd_1617 : Cond.lays RX8 RX8 "firstResting" "I" ∈ TBg := tb_2 (List.mem_of_getElem? (i := 105) rfl) rfl
theorem wd_1618 : Cond.lays RX8 RX8 "stood" "I" ∈ TBg := tb_2 (List.mem_of_getElem? (i := 107) rfl) rfl
theorem wd_1619 : Cond.lays RX8 RX8 "firstFallen" "I" ∈ TBg := tb_2 (List.mem_of_getElem? (i := 109) rfl) rfl
theorem wd_1620 : Cond.lays RX8 RX8 "lastLoad" "I" ∈ TBg := tb_2 (List.mem_of_getElem? (i := 111) rfl) rfl
theorem wd_1621 : Cond.lays RX8 RX8 "seed" "I" ∈ TBg := tb_2 (List.mem_of_getElem? (i := 113) rfl) rfl
theorem wd_1622 : Cond.lays RX8 RX8 "cost" "[I" ∈ TBg := tb_2 (List.mem_of_getElem? (i := 115) rfl) rfl
theorem wd_1623 : Cond.lays RX8 RX8 "nextCost" "[I" ∈ TBg := tb_2 (List.mem_of_getElem? (i := 117) rfl) rfl
theorem wd_1624 : Cond.laysFinal RX8 RX8 "eatable" "[I" ∈ TBg := tb_2 (List.mem_of_getElem? (i := 119) rfl) rfl
theorem wd_1625 : Cond.laysFinal RX9 RX9 "tape" "[B" ∈ TBg := tb_2 (List.mem_of_getElem? (i := 192) rfl) rfl
theorem wd_1626 : Cond.lays RX9 RX9 "bytes" "I" ∈ TBg := tb_2 (List.mem_of_getElem? (i := 194) rfl) rfl
theorem wd_1627 : Cond.lays RX9 RX9 "faultPlace" "I" ∈ TBg := tb_2 (List.mem_of_getElem? (i := 196) rfl) rfl
theorem wd_1628 : Cond.lays RX9 RX9 "imageKept" "Z" ∈ TBg := tb_2 (List.mem_of_getElem? (i := 198) rfl) rfl
theorem wd_1629 : Cond.laysFinal RX9 RX9 "reader" "LTableTower$Reader;" ∈ TBg := tb_2 (List.mem_of_getElem? (i := 200) rfl) rfl
theorem wd_1630 : Cond.laysFinal RX9 RX9 "told" "LTableTower$Town;" ∈ TBg := tb_2 (List.mem_of_getElem? (i := 202) rfl) rfl
theorem wd_1631 : Cond.laysFinal RX9 RX9 "town" "LTableTower$Town;" ∈ TBg := tb_2 (List.mem_of_getElem? (i := 204) rfl) rfl
theorem wd_1632 : Cond.laysFinal RX9 RX9 "now" "LTableTower$State;" ∈ TBg := tb_2 (List.mem_of_getElem? (i := 206) rfl) rfl
theorem wd_1633 : Cond.laysFinal RX9 RX9 "kept" "LTableTower$State;" ∈ TBg := tb_2 (List.mem_of_getElem? (i := 208) rfl) rfl
theorem wd_1634 : Cond.laysFinal RX9 RX9 "trials" "LTableTower$Trials;" ∈ TBg := tb_2 (List.mem_of_getElem? (i := 210) rfl) rfl
theorem wd_1635 : Cond.laysFinal RX9 RX9 "piles" "LTableTower$Piles;" ∈ TBg := tb_2 (List.mem_of_getElem? (i := 212) rfl) rfl
theorem wd_1636 : Cond.laysFinal RX9 RX9 "legs" "LTableTower$Legs;" ∈ TBg := tb_2 (List.mem_of_getElem? (i := 214) rfl) rfl
theorem wd_1637 : Cond.laysFinal RX10 RX10 "kinds" "[Ljava/lang/String;" ∈ TBg := tb_7 (List.mem_of_getElem? (i := 93) rfl) rfl
theorem wd_1638 : Cond.laysFinal RX10 RX10 "values" "[Ljava/lang/String;" ∈ TBg := tb_7 (List.mem_of_getElem? (i := 95) rfl) rfl
theorem wd_1639 : Cond.laysFinal RX10 RX10 "wormOf" "[I" ∈ TBg := tb_7 (List.mem_of_getElem? (i := 97) rfl) rfl
theorem wd_1640 : Cond.lays RX10 RX10 "code" "I" ∈ TBg := tb_7 (List.mem_of_getElem? (i := 99) rfl) rfl
theorem wd_1641 : Cond.laysFinal RX10 RX10 "told" "[I" ∈ TBg := tb_7 (List.mem_of_getElem? (i := 101) rfl) rfl
theorem wd_1642 : Cond.laysFinal RX10 RX10 "kind" "[I" ∈ TBg := tb_7 (List.mem_of_getElem? (i := 103) rfl) rfl
theorem wd_1643 : Cond.laysFinal RX10 RX10 "weight" "[I" ∈ TBg := tb_7 (List.mem_of_getElem? (i := 105) rfl) rfl
theorem wd_1644 : Cond.laysFinal RX10 RX10 "bears" "[I" ∈ TBg := tb_7 (List.mem_of_getElem? (i := 107) rfl) rfl
theorem wd_1645 : Cond.laysFinal RX10 RX10 "leanTold" "[I" ∈ TBg := tb_7 (List.mem_of_getElem? (i := 109) rfl) rfl
theorem wd_1646 : Cond.laysFinal RX10 RX10 "hunger" "[I" ∈ TBg := tb_7 (List.mem_of_getElem? (i := 111) rfl) rfl
theorem wd_1647 : Cond.laysFinal RX10 RX10 "signs" "[I" ∈ TBg := tb_7 (List.mem_of_getElem? (i := 113) rfl) rfl
theorem wd_1648 : Cond.laysFinal RX10 RX10 "status" "[I" ∈ TBg := tb_7 (List.mem_of_getElem? (i := 115) rfl) rfl
theorem wd_1649 : Cond.laysFinal RX10 RX10 "tape" "[I" ∈ TBg := tb_7 (List.mem_of_getElem? (i := 117) rfl) rfl
theorem wd_1650 : Cond.lays RX10 RX10 "taped" "I" ∈ TBg := tb_7 (List.mem_of_getElem? (i := 119) rfl) rfl
theorem wd_1651 : Cond.lays RX10 RX10 "at" "I" ∈ TBg := tb_7 (List.mem_of_getElem? (i := 121) rfl) rfl
theorem wd_1652 : Cond.lays RX10 RX10 "size" "I" ∈ TBg := tb_7 (List.mem_of_getElem? (i := 123) rfl) rfl
theorem wd_1653 : Cond.lays RX10 RX10 "token" "I" ∈ TBg := tb_7 (List.mem_of_getElem? (i := 125) rfl) rfl
theorem wd_1654 : Cond.lays RX10 RX10 "number" "I" ∈ TBg := tb_7 (List.mem_of_getElem? (i := 127) rfl) rfl
theorem wd_1655 : Cond.lays RX10 RX10 "begins" "I" ∈ TBg := tb_7 (List.mem_of_getElem? (i := 129) rfl) rfl
theorem wd_1656 : Cond.lays RX10 RX10 "stops" "I" ∈ TBg := tb_7 (List.mem_of_getElem? (i := 131) rfl) rfl
theorem wd_1657 : Cond.lays RX10 RX10 "bad" "I" ∈ TBg := tb_7 (List.mem_of_getElem? (i := 133) rfl) rfl
theorem wd_1658 : Cond.lays RX10 RX10 "badPlace" "I" ∈ TBg := tb_7 (List.mem_of_getElem? (i := 135) rfl) rfl
theorem wd_1659 : Cond.lays RX10 RX10 "faultPlace" "I" ∈ TBg := tb_7 (List.mem_of_getElem? (i := 137) rfl) rfl
theorem wd_1660 : Cond.laysFinal RX10 RX10 "tower" "[I" ∈ TBg := tb_7 (List.mem_of_getElem? (i := 139) rfl) rfl
theorem wd_1661 : Cond.laysFinal RX10 RX10 "meals" "[I" ∈ TBg := tb_7 (List.mem_of_getElem? (i := 141) rfl) rfl
theorem wd_1662 : Cond.laysFinal RX10 RX10 "wedge" "[I" ∈ TBg := tb_7 (List.mem_of_getElem? (i := 143) rfl) rfl
theorem wd_1663 : Cond.laysFinal RX10 RX10 "lean" "[I" ∈ TBg := tb_7 (List.mem_of_getElem? (i := 145) rfl) rfl
theorem wd_1664 : Cond.laysFinal RX10 RX10 "past" "[I" ∈ TBg := tb_7 (List.mem_of_getElem? (i := 147) rfl) rfl
theorem wd_1665 : Cond.lays RX10 RX10 "height" "I" ∈ TBg := tb_7 (List.mem_of_getElem? (i := 149) rfl) rfl
theorem wd_1666 : Cond.lays RX10 RX10 "gone" "I" ∈ TBg := tb_7 (List.mem_of_getElem? (i := 151) rfl) rfl
theorem wd_1667 : Cond.lays RX10 RX10 "crumbs" "I" ∈ TBg := tb_7 (List.mem_of_getElem? (i := 153) rfl) rfl
theorem wd_1668 : Cond.lays RX10 RX10 "acts" "I" ∈ TBg := tb_7 (List.mem_of_getElem? (i := 155) rfl) rfl
theorem wd_1669 : Cond.lays RX10 RX10 "seen" "I" ∈ TBg := tb_7 (List.mem_of_getElem? (i := 157) rfl) rfl
theorem wd_1670 : Cond.laysFinal RX10 RX10 "asked" "[I" ∈ TBg := tb_7 (List.mem_of_getElem? (i := 159) rfl) rfl
theorem wd_1671 : Cond.laysFinal RX10 RX10 "stack" "[I" ∈ TBg := tb_7 (List.mem_of_getElem? (i := 161) rfl) rfl
theorem wd_1672 : Cond.laysFinal RX10 RX10 "rowThen" "[I" ∈ TBg := tb_7 (List.mem_of_getElem? (i := 163) rfl) rfl
theorem wd_1673 : Cond.laysFinal RX10 RX10 "weights" "[I" ∈ TBg := tb_7 (List.mem_of_getElem? (i := 165) rfl) rfl
theorem wd_1674 : Cond.laysFinal RX10 RX10 "tilts" "[I" ∈ TBg := tb_7 (List.mem_of_getElem? (i := 167) rfl) rfl
theorem wd_1675 : Cond.laysFinal RX10 RX10 "ways" "[J" ∈ TBg := tb_7 (List.mem_of_getElem? (i := 169) rfl) rfl
theorem wd_1676 : Cond.lays RX10 RX10 "lifted" "I" ∈ TBg := tb_7 (List.mem_of_getElem? (i := 171) rfl) rfl
theorem wd_1677 : Cond.lays RX10 RX10 "sea" "I" ∈ TBg := tb_7 (List.mem_of_getElem? (i := 173) rfl) rfl
theorem wd_1678 : Cond.laysFinal RX10 RX10 "few" "[I" ∈ TBg := tb_7 (List.mem_of_getElem? (i := 175) rfl) rfl
theorem wd_1679 : Cond.laysFinal RX10 RX10 "fewer" "[I" ∈ TBg := tb_7 (List.mem_of_getElem? (i := 177) rfl) rfl
theorem wd_1680 : Cond.laysFinal RX10 RX10 "seenLevel" "[I" ∈ TBg := tb_7 (List.mem_of_getElem? (i := 179) rfl) rfl
theorem wd_1681 : Cond.laysFinal RX10 RX10 "seenTilt" "[I" ∈ TBg := tb_7 (List.mem_of_getElem? (i := 181) rfl) rfl
theorem wd_1682 : Cond.laysFinal RX10 RX10 "fitTable" "[I" ∈ TBg := tb_7 (List.mem_of_getElem? (i := 183) rfl) rfl
theorem wd_1683 : Cond.laysFinal RX10 RX10 "fitLean" "[I" ∈ TBg := tb_7 (List.mem_of_getElem? (i := 185) rfl) rfl
theorem wd_1684 : Cond.lays RX10 RX10 "fitMany" "I" ∈ TBg := tb_7 (List.mem_of_getElem? (i := 187) rfl) rfl
theorem wd_1685 : Cond.laysFinal RX10 RX10 "tiltOf" "[I" ∈ TBg := tb_7 (List.mem_of_getElem? (i := 189) rfl) rfl
theorem wd_1686 : Cond.lays RX10 RX10 "seedNow" "I" ∈ TBg := tb_7 (List.mem_of_getElem? (i := 191) rfl) rfl
theorem wd_1687 : Cond.lays RX10 RX10 "hasImage" "Z" ∈ TBg := tb_7 (List.mem_of_getElem? (i := 193) rfl) rfl
theorem wd_1688 : Cond.lays RX10 RX10 "actsThen" "I" ∈ TBg := tb_7 (List.mem_of_getElem? (i := 195) rfl) rfl
theorem wd_1689 : Cond.lays RX10 RX10 "seenThen" "I" ∈ TBg := tb_7 (List.mem_of_getElem? (i := 197) rfl) rfl
theorem wd_1690 : Cond.laysFinal RX10 RX10 "imageRow" "[I" ∈ TBg := tb_7 (List.mem_of_getElem? (i := 199) rfl) rfl
theorem wd_1691 : Cond.laysFinal RX10 RX10 "pastThen" "[I" ∈ TBg := tb_7 (List.mem_of_getElem? (i := 201) rfl) rfl
theorem wd_1692 : Cond.laysFinal RX10 RX10 "seenLevelThen" "[I" ∈ TBg := tb_7 (List.mem_of_getElem? (i := 203) rfl) rfl
theorem wd_1693 : Cond.laysFinal RX10 RX10 "seenTiltThen" "[I" ∈ TBg := tb_7 (List.mem_of_getElem? (i := 205) rfl) rfl
theorem wd_1694 : Cond.laysFinal RX10 RX10 "statusThen" "[I" ∈ TBg := tb_7 (List.mem_of_getElem? (i := 207) rfl) rfl
theorem wd_1695 : Cond.instantiable RX0 2 ∈ TBg := tb_1 (List.mem_of_getElem? (i := 193) rfl) rfl
theorem wd_1696 : Cond.instantiable RX1 4 ∈ TBg := tb_2 (List.mem_of_getElem? (i := 162) rfl) rfl
theorem wd_1697 : Cond.instantiable RX2 10 ∈ TBg := tb_2 (List.mem_of_getElem? (i := 123) rfl) rfl
theorem wd_1698 : Cond.instantiable RX3 11 ∈ TBg := tb_1 (List.mem_of_getElem? (i := 146) rfl) rfl
theorem wd_1699 : Cond.instantiable RX4 10 ∈ TBg := tb_1 (List.mem_of_getElem? (i := 40) rfl) rfl
theorem wd_1700 : Cond.instantiable RX5 7 ∈ TBg := tb_1 (List.mem_of_getElem? (i := 187) rfl) rfl
theorem wd_1701 : Cond.instantiable RX6 11 ∈ TBg := tb_1 (List.mem_of_getElem? (i := 208) rfl) rfl
theorem wd_1702 : Cond.instantiable RX7 9 ∈ TBg := tb_1 (List.mem_of_getElem? (i := 34) rfl) rfl
theorem wd_1703 : Cond.instantiable RX8 12 ∈ TBg := tb_2 (List.mem_of_getElem? (i := 73) rfl) rfl
theorem wd_1704 : Cond.instantiable RX9 12 ∈ TBg := tb_1 (List.mem_of_getElem? (i := 26) rfl) rfl
theorem wd_1705 : Cond.instantiable RX10 58 ∈ TBg := tb_7 (List.mem_of_getElem? (i := 18) rfl) rfl
theorem wd_1706 : Cond.instanceMethod objectInit ∈ TBg := tb_1 (List.mem_of_getElem? (i := 31) rfl) rfl
theorem wd_1707 : Cond.code objectInit ⟨#[0xb1]⟩ 1 none ∈ TBg := tb_1 (List.mem_of_getElem? (i := 32) rfl) rfl
theorem wd_1708 : Cond.code Lib.Math.max.name Lib.Math.max.code 2 (some .int) ∈ TBg := tb_3 (List.mem_of_getElem? (i := 52) rfl) rfl
theorem wd_1709 : Cond.static Lib.Math.max.name ∈ TBg := tb_3 (List.mem_of_getElem? (i := 51) rfl) rfl
theorem wd_1710 : Cond.code Lib.Math.min.name Lib.Math.min.code 2 (some .int) ∈ TBg := tb_3 (List.mem_of_getElem? (i := 30) rfl) rfl
theorem wd_1711 : Cond.static Lib.Math.min.name ∈ TBg := tb_3 (List.mem_of_getElem? (i := 29) rfl) rfl
theorem wd_1712 : Cond.code Lib.Math.abs.name Lib.Math.abs.code 1 (some .int) ∈ TBg := tb_3 (List.mem_of_getElem? (i := 147) rfl) rfl
theorem wd_1713 : Cond.static Lib.Math.abs.name ∈ TBg := tb_3 (List.mem_of_getElem? (i := 146) rfl) rfl
theorem wd_1714 : Cond.initialized "java/lang/Math" ∈ TBg := tb_1 (List.mem_of_getElem? (i := 16) rfl) rfl
theorem wd_1715 : Cond.native arraycopyName ∈ TBg := tb_3 (List.mem_of_getElem? (i := 19) rfl) rfl
theorem wd_1716 : Cond.static arraycopyName ∈ TBg := tb_3 (List.mem_of_getElem? (i := 18) rfl) rfl
theorem wd_1717 : Cond.initialized "java/lang/System" ∈ TBg := tb_1 (List.mem_of_getElem? (i := 22) rfl) rfl
theorem wd_1718 : Cond.arrayClass .int ∈ TBg := tb_1 (List.mem_of_getElem? (i := 86) rfl) rfl
theorem wd_1719 : Cond.arrayClass .byte ∈ TBg := tb_1 (List.mem_of_getElem? (i := 85) rfl) rfl
theorem wd_1720 : Cond.arrayClass .long ∈ TBg := tb_7 (List.mem_of_getElem? (i := 210) rfl) rfl
theorem uw_0 : ∀ w ∈ u_ws RX0 TX0 2, w ∈ TBg := (List.forall_mem_cons.mpr ⟨wd_1549, (List.forall_mem_cons.mpr ⟨wd_1550, fun _ h => nomatch h⟩)⟩)
theorem uw_1 : ∀ w ∈ u_ws RX1 TX1 4, w ∈ TBg := (List.forall_mem_cons.mpr ⟨wd_1551, (List.forall_mem_cons.mpr ⟨wd_1552, (List.forall_mem_cons.mpr ⟨wd_1553, (List.forall_mem_cons.mpr ⟨wd_1554, fun _ h => nomatch h⟩)⟩)⟩)⟩)
theorem uw_2 : ∀ w ∈ u_ws RX2 TX2 10, w ∈ TBg := (List.forall_mem_cons.mpr ⟨wd_1555, (List.forall_mem_cons.mpr ⟨wd_1556, (List.forall_mem_cons.mpr ⟨wd_1557, (List.forall_mem_cons.mpr ⟨wd_1558, (List.forall_mem_cons.mpr ⟨wd_1559, (List.forall_mem_cons.mpr ⟨wd_1560, (List.forall_mem_cons.mpr ⟨wd_1561, (List.forall_mem_cons.mpr ⟨wd_1562, (List.forall_mem_cons.mpr ⟨wd_1563, (List.forall_mem_cons.mpr ⟨wd_1564, fun _ h => nomatch h⟩)⟩)⟩)⟩)⟩)⟩)⟩)⟩)⟩)⟩)
theorem uw_3 : ∀ w ∈ u_ws RX3 TX3 11, w ∈ TBg := (List.forall_mem_cons.mpr ⟨wd_1565, (List.forall_mem_cons.mpr ⟨wd_1566, (List.forall_mem_cons.mpr ⟨wd_1567, (List.forall_mem_cons.mpr ⟨wd_1568, (List.forall_mem_cons.mpr ⟨wd_1569, (List.forall_mem_cons.mpr ⟨wd_1570, (List.forall_mem_cons.mpr ⟨wd_1571, (List.forall_mem_cons.mpr ⟨wd_1572, (List.forall_mem_cons.mpr ⟨wd_1573, (List.forall_mem_cons.mpr ⟨wd_1574, (List.forall_mem_cons.mpr ⟨wd_1575, fun _ h => nomatch h⟩)⟩)⟩)⟩)⟩)⟩)⟩)⟩)⟩)⟩)⟩)
theorem uw_4 : ∀ w ∈ u_ws RX4 TX4 10, w ∈ TBg := (List.forall_mem_cons.mpr ⟨wd_1576, (List.forall_mem_cons.mpr ⟨wd_1577, (List.forall_mem_cons.mpr ⟨wd_1578, (List.forall_mem_cons.mpr ⟨wd_1579, (List.forall_mem_cons.mpr ⟨wd_1580, (List.forall_mem_cons.mpr ⟨wd_1581, (List.forall_mem_cons.mpr ⟨wd_1582, (List.forall_mem_cons.mpr ⟨wd_1583, (List.forall_mem_cons.mpr ⟨wd_1584, (List.forall_mem_cons.mpr ⟨wd_1585, fun _ h => nomatch h⟩)⟩)⟩)⟩)⟩)⟩)⟩)⟩)⟩)⟩)
theorem uw_5 : ∀ w ∈ u_ws RX5 TX5 7, w ∈ TBg := (List.forall_mem_cons.mpr ⟨wd_1586, (List.forall_mem_cons.mpr ⟨wd_1587, (List.forall_mem_cons.mpr ⟨wd_1588, (List.forall_mem_cons.mpr ⟨wd_1589, (List.forall_mem_cons.mpr ⟨wd_1590, (List.forall_mem_cons.mpr ⟨wd_1591, (List.forall_mem_cons.mpr ⟨wd_1592, fun _ h => nomatch h⟩)⟩)⟩)⟩)⟩)⟩)⟩)
theorem uw_6 : ∀ w ∈ u_ws RX6 TX6 11, w ∈ TBg := (List.forall_mem_cons.mpr ⟨wd_1593, (List.forall_mem_cons.mpr ⟨wd_1594, (List.forall_mem_cons.mpr ⟨wd_1595, (List.forall_mem_cons.mpr ⟨wd_1596, (List.forall_mem_cons.mpr ⟨wd_1597, (List.forall_mem_cons.mpr ⟨wd_1598, (List.forall_mem_cons.mpr ⟨wd_1599, (List.forall_mem_cons.mpr ⟨wd_1600, (List.forall_mem_cons.mpr ⟨wd_1601, (List.forall_mem_cons.mpr ⟨wd_1602, (List.forall_mem_cons.mpr ⟨wd_1603, fun _ h => nomatch h⟩)⟩)⟩)⟩)⟩)⟩)⟩)⟩)⟩)⟩)⟩)
theorem uw_7 : ∀ w ∈ u_ws RX7 TX7 9, w ∈ TBg := (List.forall_mem_cons.mpr ⟨wd_1604, (List.forall_mem_cons.mpr ⟨wd_1605, (List.forall_mem_cons.mpr ⟨wd_1606, (List.forall_mem_cons.mpr ⟨wd_1607, (List.forall_mem_cons.mpr ⟨wd_1608, (List.forall_mem_cons.mpr ⟨wd_1609, (List.forall_mem_cons.mpr ⟨wd_1610, (List.forall_mem_cons.mpr ⟨wd_1611, (List.forall_mem_cons.mpr ⟨wd_1612, fun _ h => nomatch h⟩)⟩)⟩)⟩)⟩)⟩)⟩)⟩)⟩)
theorem uw_8 : ∀ w ∈ u_ws RX8 TX8 12, w ∈ TBg := (List.forall_mem_cons.mpr ⟨wd_1613, (List.forall_mem_cons.mpr ⟨wd_1614, (List.forall_mem_cons.mpr ⟨wd_1615, (List.forall_mem_cons.mpr ⟨wd_1616, (List.forall_mem_cons.mpr ⟨wd_1617, (List.forall_mem_cons.mpr ⟨wd_1618, (List.forall_mem_cons.mpr ⟨wd_1619, (List.forall_mem_cons.mpr ⟨wd_1620, (List.forall_mem_cons.mpr ⟨wd_1621, (List.forall_mem_cons.mpr ⟨wd_1622, (List.forall_mem_cons.mpr ⟨wd_1623, (List.forall_mem_cons.mpr ⟨wd_1624, fun _ h => nomatch h⟩)⟩)⟩)⟩)⟩)⟩)⟩)⟩)⟩)⟩)⟩)⟩)
theorem uw_9 : ∀ w ∈ u_ws RX9 TX9 12, w ∈ TBg := (List.forall_mem_cons.mpr ⟨wd_1625, (List.forall_mem_cons.mpr ⟨wd_1626, (List.forall_mem_cons.mpr ⟨wd_1627, (List.forall_mem_cons.mpr ⟨wd_1628, (List.forall_mem_cons.mpr ⟨wd_1629, (List.forall_mem_cons.mpr ⟨wd_1630, (List.forall_mem_cons.mpr ⟨wd_1631, (List.forall_mem_cons.mpr ⟨wd_1632, (List.forall_mem_cons.mpr ⟨wd_1633, (List.forall_mem_cons.mpr ⟨wd_1634, (List.forall_mem_cons.mpr ⟨wd_1635, (List.forall_mem_cons.mpr ⟨wd_1636, fun _ h => nomatch h⟩)⟩)⟩)⟩)⟩)⟩)⟩)⟩)⟩)⟩)⟩)⟩)
theorem uw_10 : ∀ w ∈ u_ws RX10 TX10 58, w ∈ TBg := (List.forall_mem_cons.mpr ⟨wd_1637, (List.forall_mem_cons.mpr ⟨wd_1638, (List.forall_mem_cons.mpr ⟨wd_1639, (List.forall_mem_cons.mpr ⟨wd_1640, (List.forall_mem_cons.mpr ⟨wd_1641, (List.forall_mem_cons.mpr ⟨wd_1642, (List.forall_mem_cons.mpr ⟨wd_1643, (List.forall_mem_cons.mpr ⟨wd_1644, (List.forall_mem_cons.mpr ⟨wd_1645, (List.forall_mem_cons.mpr ⟨wd_1646, (List.forall_mem_cons.mpr ⟨wd_1647, (List.forall_mem_cons.mpr ⟨wd_1648, (List.forall_mem_cons.mpr ⟨wd_1649, (List.forall_mem_cons.mpr ⟨wd_1650, (List.forall_mem_cons.mpr ⟨wd_1651, (List.forall_mem_cons.mpr ⟨wd_1652, (List.forall_mem_cons.mpr ⟨wd_1653, (List.forall_mem_cons.mpr ⟨wd_1654, (List.forall_mem_cons.mpr ⟨wd_1655, (List.forall_mem_cons.mpr ⟨wd_1656, (List.forall_mem_cons.mpr ⟨wd_1657, (List.forall_mem_cons.mpr ⟨wd_1658, (List.forall_mem_cons.mpr ⟨wd_1659, (List.forall_mem_cons.mpr ⟨wd_1660, (List.forall_mem_cons.mpr ⟨wd_1661, (List.forall_mem_cons.mpr ⟨wd_1662, (List.forall_mem_cons.mpr ⟨wd_1663, (List.forall_mem_cons.mpr ⟨wd_1664, (List.forall_mem_cons.mpr ⟨wd_1665, (List.forall_mem_cons.mpr ⟨wd_1666, (List.forall_mem_cons.mpr ⟨wd_1667, (List.forall_mem_cons.mpr ⟨wd_1668, (List.forall_mem_cons.mpr ⟨wd_1669, (List.forall_mem_cons.mpr ⟨wd_1670, (List.forall_mem_cons.mpr ⟨wd_1671, (List.forall_mem_cons.mpr ⟨wd_1672, (List.forall_mem_cons.mpr ⟨wd_1673, (List.forall_mem_cons.mpr ⟨wd_1674, (List.forall_mem_cons.mpr ⟨wd_1675, (List.forall_mem_cons.mpr ⟨wd_1676, (List.forall_mem_cons.mpr ⟨wd_1677, (List.forall_mem_cons.mpr ⟨wd_1678, (List.forall_mem_cons.mpr ⟨wd_1679, (List.forall_mem_cons.mpr ⟨wd_1680, (List.forall_mem_cons.mpr ⟨wd_1681, (List.forall_mem_cons.mpr ⟨wd_1682, (List.forall_mem_cons.mpr ⟨wd_1683, (List.forall_mem_cons.mpr ⟨wd_1684, (List.forall_mem_cons.mpr ⟨wd_1685, (List.forall_mem_cons.mpr ⟨wd_1686, (List.forall_mem_cons.mpr ⟨wd_1687, (List.forall_mem_cons.mpr ⟨wd_1688, (List.forall_mem_cons.mpr ⟨wd_1689, (List.forall_mem_cons.mpr ⟨wd_1690, (List.forall_mem_cons.mpr ⟨wd_1691, (List.forall_mem_cons.mpr ⟨wd_1692, (List.forall_mem_cons.mpr ⟨wd_1693, (List.forall_mem_cons.mpr ⟨wd_1694, fun _ h => nomatch h⟩)⟩)⟩)⟩)⟩)⟩)⟩)⟩)⟩)⟩)⟩)⟩)⟩)⟩)⟩)⟩)⟩)⟩)⟩)⟩)⟩)⟩)⟩)⟩)⟩)⟩)⟩)⟩)⟩)⟩)⟩)⟩)⟩)⟩)⟩)⟩)⟩)⟩)⟩)⟩)⟩)⟩)⟩)⟩)⟩)⟩)⟩)⟩)⟩)⟩)⟩)⟩)⟩)⟩)⟩)⟩)⟩)⟩)
theorem uw_all : ∀ c, c < 11 → ∀ w ∈ u_ws (ownR c) (clT c) (clN c), w ∈ TBg := by
  intro c hc
  have : c = 0 ∨ c = 1 ∨ c = 2 ∨ c = 3 ∨ c = 4 ∨ c = 5 ∨ c = 6 ∨ c = 7 ∨ c = 8 ∨ c = 9 ∨ c = 10 := by omega
  rcases this with rfl | rfl | rfl | rfl | rfl | rfl | rfl | rfl | rfl | rfl | rfl
  · exact uw_0
  · exact uw_1
  · exact uw_2
  · exact uw_3
  · exact uw_4
  · exact uw_5
  · exact uw_6
  · exact uw_7
  · exact uw_8
  · exact uw_9
  · exact uw_10
theorem wi_all : ∀ c, c < 11 → Cond.instantiable (ownR c) (clN c) ∈ TBg ∧ Cond.initialized (ownR c) ∈ TBg := by
  intro c hc
  have : c = 0 ∨ c = 1 ∨ c = 2 ∨ c = 3 ∨ c = 4 ∨ c = 5 ∨ c = 6 ∨ c = 7 ∨ c = 8 ∨ c = 9 ∨ c = 10 := by omega
  rcases this with rfl | rfl | rfl | rfl | rfl | rfl | rfl | rfl | rfl | rfl | rfl
  · exact ⟨wd_1695, wd_648⟩
  · exact ⟨wd_1696, wd_668⟩
  · exact ⟨wd_1697, wd_698⟩
  · exact ⟨wd_1698, wd_731⟩
  · exact ⟨wd_1699, wd_801⟩
  · exact ⟨wd_1700, wd_824⟩
  · exact ⟨wd_1701, wd_866⟩
  · exact ⟨wd_1702, wd_935⟩
  · exact ⟨wd_1703, wd_956⟩
  · exact ⟨wd_1704, wd_1019⟩
  · exact ⟨wd_1705, wd_1166⟩
theorem wx_oc : Cond.code objectInit ⟨#[0xb1]⟩ 1 none ∈ TBg := wd_1707
theorem wx_maxc : Cond.code Lib.Math.max.name Lib.Math.max.code 2 (some .int) ∈ TBg := wd_1708
theorem wx_maxs : Cond.static Lib.Math.max.name ∈ TBg := wd_1709
theorem wx_minc : Cond.code Lib.Math.min.name Lib.Math.min.code 2 (some .int) ∈ TBg := wd_1710
theorem wx_mins : Cond.static Lib.Math.min.name ∈ TBg := wd_1711
theorem wx_absc : Cond.code Lib.Math.abs.name Lib.Math.abs.code 1 (some .int) ∈ TBg := wd_1712
theorem wx_abss : Cond.static Lib.Math.abs.name ∈ TBg := wd_1713
theorem wx_mi : Cond.initialized "java/lang/Math" ∈ TBg := wd_1714
theorem wx_an : Cond.native arraycopyName ∈ TBg := wd_1715
theorem wx_as : Cond.static arraycopyName ∈ TBg := wd_1716
theorem wx_ai : Cond.initialized "java/lang/System" ∈ TBg := wd_1717
theorem wx_aint : Cond.arrayClass .int ∈ TBg := wd_1718
theorem wx_abyte : Cond.arrayClass .byte ∈ TBg := wd_1719
theorem wx_along : Cond.arrayClass .long ∈ TBg := wd_1720
theorem wx_oi : Cond.instanceMethod objectInit ∈ TBg := wd_1706
