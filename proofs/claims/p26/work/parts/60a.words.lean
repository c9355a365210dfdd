/-! MORE WORDS -/
theorem w34 : (Cond.selects "java/util/ArrayList" ({ cls := "java/util/ArrayList", name := "add", desc := "(Ljava/lang/Object;[Ljava/lang/Object;I)V" } : MethodName) ({ cls := "java/util/ArrayList", name := "add", desc := "(Ljava/lang/Object;[Ljava/lang/Object;I)V" } : MethodName)) ∈ lw_gw := am_w 34 (by decide +kernel) rfl
theorem w35 : (Cond.selects "java/util/ArrayList" ({ cls := "java/util/ArrayList", name := "grow", desc := "()[Ljava/lang/Object;" } : MethodName) ({ cls := "java/util/ArrayList", name := "grow", desc := "()[Ljava/lang/Object;" } : MethodName)) ∈ lw_gw := am_w 35 (by decide +kernel) rfl
theorem w36 : (Cond.selects "java/util/ArrayList" ({ cls := "java/util/ArrayList", name := "grow", desc := "(I)[Ljava/lang/Object;" } : MethodName) ({ cls := "java/util/ArrayList", name := "grow", desc := "(I)[Ljava/lang/Object;" } : MethodName)) ∈ lw_gw := am_w 36 (by decide +kernel) rfl
theorem w37 : (Cond.selects "java/util/ArrayList" ({ cls := "java/util/ArrayList", name := "fastRemove", desc := "([Ljava/lang/Object;I)V" } : MethodName) ({ cls := "java/util/ArrayList", name := "fastRemove", desc := "([Ljava/lang/Object;I)V" } : MethodName)) ∈ lw_gw := am_w 37 (by decide +kernel) rfl
theorem w94 : (Cond.initialized "ClockhouseModel") ∈ lw_gw := am_w 94 (by decide +kernel) rfl
theorem w95 : (Cond.initialized "ClockhouseModel$State") ∈ lw_gw := am_w 95 (by decide +kernel) rfl
theorem w96 : (Cond.initialized "ClockhouseModel$Num") ∈ lw_gw := am_w 96 (by decide +kernel) rfl
theorem w97 : (Cond.initialized "java/util/AbstractCollection") ∈ lw_gw := am_w 97 (by decide +kernel) rfl
theorem w98 : (Cond.initialized "java/util/AbstractList") ∈ lw_gw := am_w 98 (by decide +kernel) rfl
theorem w99 : (Cond.initialized "java/util/ArrayList") ∈ lw_gw := am_w 99 (by decide +kernel) rfl
theorem w106 : (Cond.initialized "java/util/ArrayList$Itr") ∈ lw_gw := am_w 106 (by decide +kernel) rfl
theorem w110 : (Cond.initialized "java/lang/Number") ∈ lw_gw := am_w 110 (by decide +kernel) rfl
theorem w113 : (Cond.initialized "java/util/Objects") ∈ lw_gw := am_w 113 (by decide +kernel) rfl
theorem w114 : (Cond.initialized "jdk/internal/util/Preconditions") ∈ lw_gw := am_w 114 (by decide +kernel) rfl
theorem w846 : (Cond.static ({ cls := "jdk/internal/util/Preconditions", name := "checkIndex", desc := "(IILjava/util/function/BiFunction;)I" } : MethodName)) ∈ lw_gw := am_w 846 (by decide +kernel) rfl
theorem w847 : (Cond.code ({ cls := "jdk/internal/util/Preconditions", name := "checkIndex", desc := "(IILjava/util/function/BiFunction;)I" } : MethodName) prog_56_method_11_code (3 : Nat) (Option.some FieldType.int)) ∈ lw_gw := am_w 847 (by decide +kernel) rfl
theorem w1643 : (Cond.instantiable "ClockhouseModel$State" (4 : Nat)) ∈ lw_gw := am_w 1643 (by decide +kernel) rfl
theorem w1654 : (Cond.code ({ cls := "ClockhouseModel$Num", name := "<init>", desc := "(Z[I)V" } : MethodName) prog_15_method_1_code (5 : Nat) (Option.none : Option FieldType)) ∈ lw_gw := am_w 1654 (by decide +kernel) rfl
theorem w1655 : (Cond.methodLink "ClockhouseModel$Num" (3 : Nat) ({ cls := "java/lang/Object", name := "<init>", desc := "()V" } : MethodName)) ∈ lw_gw := am_w 1655 (by decide +kernel) rfl
theorem w1656 : (Cond.fieldLink "ClockhouseModel$Num" (9 : Nat) "ClockhouseModel$Num" "isBelow" "Z") ∈ lw_gw := am_w 1656 (by decide +kernel) rfl
theorem w1658 : (Cond.fieldLink "ClockhouseModel$Num" (15 : Nat) "ClockhouseModel$Num" "digits" "[I") ∈ lw_gw := am_w 1658 (by decide +kernel) rfl
theorem w1660 : (Cond.laysFinal "ClockhouseModel$Num" "ClockhouseModel$Num" "isBelow" "Z") ∈ lw_gw := am_w 1660 (by decide +kernel) rfl
theorem w1662 : (Cond.laysFinal "ClockhouseModel$Num" "ClockhouseModel$Num" "digits" "[I") ∈ lw_gw := am_w 1662 (by decide +kernel) rfl
theorem w1666 : (Cond.instanceMethod ({ cls := "ClockhouseModel$State", name := "<init>", desc := "([LClockhouseModel$Num;)V" } : MethodName)) ∈ lw_gw := am_w 1666 (by decide +kernel) rfl
theorem w1667 : (Cond.code ({ cls := "ClockhouseModel$State", name := "<init>", desc := "([LClockhouseModel$Num;)V" } : MethodName) prog_16_method_1_code (2 : Nat) (Option.none : Option FieldType)) ∈ lw_gw := am_w 1667 (by decide +kernel) rfl
theorem w1668 : (Cond.methodLink "ClockhouseModel$State" (1 : Nat) ({ cls := "java/lang/Object", name := "<init>", desc := "()V" } : MethodName)) ∈ lw_gw := am_w 1668 (by decide +kernel) rfl
theorem w1669 : (Cond.classLink "ClockhouseModel$State" (13 : Nat) "java/util/ArrayList") ∈ lw_gw := am_w 1669 (by decide +kernel) rfl
theorem w1670 : (Cond.instantiable "java/util/ArrayList" (3 : Nat)) ∈ lw_gw := am_w 1670 (by decide +kernel) rfl
theorem w1671 : (Cond.methodLink "ClockhouseModel$State" (15 : Nat) ({ cls := "java/util/ArrayList", name := "<init>", desc := "()V" } : MethodName)) ∈ lw_gw := am_w 1671 (by decide +kernel) rfl
theorem w1672 : (Cond.instanceMethod ({ cls := "java/util/ArrayList", name := "<init>", desc := "()V" } : MethodName)) ∈ lw_gw := am_w 1672 (by decide +kernel) rfl
theorem w1673 : (Cond.code ({ cls := "java/util/ArrayList", name := "<init>", desc := "()V" } : MethodName) prog_46_method_2_code (1 : Nat) (Option.none : Option FieldType)) ∈ lw_gw := am_w 1673 (by decide +kernel) rfl
theorem w1674 : (Cond.methodLink "java/util/ArrayList" (1 : Nat) ({ cls := "java/util/AbstractList", name := "<init>", desc := "()V" } : MethodName)) ∈ lw_gw := am_w 1674 (by decide +kernel) rfl
theorem w1675 : (Cond.instanceMethod ({ cls := "java/util/AbstractList", name := "<init>", desc := "()V" } : MethodName)) ∈ lw_gw := am_w 1675 (by decide +kernel) rfl
theorem w1676 : (Cond.code ({ cls := "java/util/AbstractList", name := "<init>", desc := "()V" } : MethodName) prog_45_method_1_code (1 : Nat) (Option.none : Option FieldType)) ∈ lw_gw := am_w 1676 (by decide +kernel) rfl
theorem w1677 : (Cond.methodLink "java/util/AbstractList" (1 : Nat) ({ cls := "java/util/AbstractCollection", name := "<init>", desc := "()V" } : MethodName)) ∈ lw_gw := am_w 1677 (by decide +kernel) rfl
theorem w1678 : (Cond.instanceMethod ({ cls := "java/util/AbstractCollection", name := "<init>", desc := "()V" } : MethodName)) ∈ lw_gw := am_w 1678 (by decide +kernel) rfl
theorem w1679 : (Cond.code ({ cls := "java/util/AbstractCollection", name := "<init>", desc := "()V" } : MethodName) prog_44_method_1_code (1 : Nat) (Option.none : Option FieldType)) ∈ lw_gw := am_w 1679 (by decide +kernel) rfl
theorem w1680 : (Cond.methodLink "java/util/AbstractCollection" (1 : Nat) ({ cls := "java/lang/Object", name := "<init>", desc := "()V" } : MethodName)) ∈ lw_gw := am_w 1680 (by decide +kernel) rfl
theorem w1681 : (Cond.fieldLink "java/util/ArrayList" (39 : Nat) "java/util/ArrayList" "DEFAULTCAPACITY_EMPTY_ELEMENTDATA" "[Ljava/lang/Object;") ∈ lw_gw := am_w 1681 (by decide +kernel) rfl
theorem w1683 : (Cond.fieldLink "java/util/ArrayList" (9 : Nat) "java/util/ArrayList" "elementData" "[Ljava/lang/Object;") ∈ lw_gw := am_w 1683 (by decide +kernel) rfl
theorem w1684 : (Cond.fieldLink "java/util/ArrayList$Itr" (37 : Nat) "java/util/ArrayList" "elementData" "[Ljava/lang/Object;") ∈ lw_gw := am_w 1684 (by decide +kernel) rfl
theorem w1685 : (Cond.fieldLinkNest "java/util/ArrayList$Itr" (28 : Nat) "java/util/ArrayList" "size" "I" "java/util/ArrayList") ∈ lw_ng := am_ng 1685 (by decide +kernel) rfl
theorem w1686 : (Cond.fieldLink "java/util/ArrayList" (48 : Nat) "java/util/ArrayList" "size" "I") ∈ lw_gw := am_w 1686 (by decide +kernel) rfl
theorem w1687 : (Cond.fieldLink "java/util/AbstractList" (7 : Nat) "java/util/AbstractList" "modCount" "I") ∈ lw_gw := am_w 1687 (by decide +kernel) rfl
theorem w1688 : (Cond.fieldLink "java/util/ArrayList$Itr" (17 : Nat) "java/util/ArrayList" "modCount" "I") ∈ lw_gw := am_w 1688 (by decide +kernel) rfl
theorem w1689 : (Cond.sameField "java/util/ArrayList" "java/util/AbstractList" "modCount" "I") ∈ lw_gw := am_w 1689 (by decide +kernel) rfl
theorem w1690 : (Cond.fieldLink "java/util/ArrayList" (63 : Nat) "java/util/ArrayList" "modCount" "I") ∈ lw_gw := am_w 1690 (by decide +kernel) rfl
theorem w1691 : (Cond.lays "java/util/ArrayList" "java/util/ArrayList" "elementData" "[Ljava/lang/Object;") ∈ lw_gw := am_w 1691 (by decide +kernel) rfl
theorem w1693 : (Cond.lays "java/util/ArrayList" "java/util/ArrayList" "size" "I") ∈ lw_gw := am_w 1693 (by decide +kernel) rfl
theorem w1695 : (Cond.lays "java/util/ArrayList" "java/util/AbstractList" "modCount" "I") ∈ lw_gw := am_w 1695 (by decide +kernel) rfl
theorem w1698 : (Cond.fieldLink "ClockhouseModel$State" (7 : Nat) "ClockhouseModel$State" "dial" "I") ∈ lw_gw := am_w 1698 (by decide +kernel) rfl
theorem w1699 : (Cond.fieldLink "ClockhouseModel" (65 : Nat) "ClockhouseModel$State" "dial" "I") ∈ lw_gw := am_w 1699 (by decide +kernel) rfl
theorem w1700 : (Cond.fieldLink "ClockhouseModel$State" (23 : Nat) "ClockhouseModel$State" "numbers" "[LClockhouseModel$Num;") ∈ lw_gw := am_w 1700 (by decide +kernel) rfl
theorem w1702 : (Cond.fieldLink "ClockhouseModel$State" (16 : Nat) "ClockhouseModel$State" "rows" "Ljava/util/ArrayList;") ∈ lw_gw := am_w 1702 (by decide +kernel) rfl
theorem w1704 : (Cond.fieldLink "ClockhouseModel$State" (20 : Nat) "ClockhouseModel$State" "bases" "Ljava/util/ArrayList;") ∈ lw_gw := am_w 1704 (by decide +kernel) rfl
theorem w1706 : (Cond.lays "ClockhouseModel$State" "ClockhouseModel$State" "dial" "I") ∈ lw_gw := am_w 1706 (by decide +kernel) rfl
theorem w1708 : (Cond.laysFinal "ClockhouseModel$State" "ClockhouseModel$State" "numbers" "[LClockhouseModel$Num;") ∈ lw_gw := am_w 1708 (by decide +kernel) rfl
theorem w1710 : (Cond.laysFinal "ClockhouseModel$State" "ClockhouseModel$State" "rows" "Ljava/util/ArrayList;") ∈ lw_gw := am_w 1710 (by decide +kernel) rfl
theorem w1712 : (Cond.laysFinal "ClockhouseModel$State" "ClockhouseModel$State" "bases" "Ljava/util/ArrayList;") ∈ lw_gw := am_w 1712 (by decide +kernel) rfl
theorem w1718 : (Cond.fieldLink "ClockhouseModel" (18 : Nat) "ClockhouseModel" "now" "LClockhouseModel$State;") ∈ lw_gw := am_w 1718 (by decide +kernel) rfl
theorem w1723 : (Cond.lays "ClockhouseModel" "ClockhouseModel" "thrown" "I") ∈ lw_gw := am_w 1723 (by decide +kernel) rfl
theorem w1725 : (Cond.lays "ClockhouseModel" "ClockhouseModel" "now" "LClockhouseModel$State;") ∈ lw_gw := am_w 1725 (by decide +kernel) rfl
theorem w1727 : (Cond.laysFinal "ClockhouseModel" "ClockhouseModel" "were" "Ljava/util/ArrayList;") ∈ lw_gw := am_w 1727 (by decide +kernel) rfl
theorem w1729 : (Cond.lays "ClockhouseModel" "ClockhouseModel" "jams" "I") ∈ lw_gw := am_w 1729 (by decide +kernel) rfl
theorem w1731 : (Cond.lays "ClockhouseModel" "ClockhouseModel" "misses" "I") ∈ lw_gw := am_w 1731 (by decide +kernel) rfl
theorem w1733 : (Cond.lays "ClockhouseModel" "ClockhouseModel" "knocks" "I") ∈ lw_gw := am_w 1733 (by decide +kernel) rfl
theorem w1758 : (Cond.code ({ cls := "ClockhouseModel$State", name := "copy", desc := "()LClockhouseModel$State;" } : MethodName) prog_16_method_2_code (4 : Nat) (Option.some (FieldType.object "ClockhouseModel$State"))) ∈ lw_gw := am_w 1758 (by decide +kernel) rfl
theorem w1759 : (Cond.classLink "ClockhouseModel$State" (8 : Nat) "ClockhouseModel$State") ∈ lw_gw := am_w 1759 (by decide +kernel) rfl
theorem w1760 : (Cond.methodLink "ClockhouseModel$State" (27 : Nat) ({ cls := "[LClockhouseModel$Num;", name := "clone", desc := "()Ljava/lang/Object;" } : MethodName)) ∈ lw_gw := am_w 1760 (by decide +kernel) rfl
theorem w1761 : (Cond.sameMethod "[LClockhouseModel$Num;" "java/lang/Object" "clone" "()Ljava/lang/Object;") ∈ lw_gw := am_w 1761 (by decide +kernel) rfl
theorem w1762 : (Cond.selects "[LClockhouseModel$Num;" ({ cls := "[LClockhouseModel$Num;", name := "clone", desc := "()Ljava/lang/Object;" } : MethodName) ({ cls := "java/lang/Object", name := "clone", desc := "()Ljava/lang/Object;" } : MethodName)) ∈ lw_gw := am_w 1762 (by decide +kernel) rfl
theorem w1763 : (Cond.castable "[LClockhouseModel$Num;" "java/lang/Cloneable") ∈ lw_ng := am_ng 1763 (by decide +kernel) rfl
theorem w1764 : (Cond.classLink "ClockhouseModel$State" (28 : Nat) "[LClockhouseModel$Num;") ∈ lw_gw := am_w 1764 (by decide +kernel) rfl
theorem w1765 : (Cond.methodLink "ClockhouseModel$State" (32 : Nat) ({ cls := "ClockhouseModel$State", name := "<init>", desc := "([LClockhouseModel$Num;)V" } : MethodName)) ∈ lw_gw := am_w 1765 (by decide +kernel) rfl
theorem w1766 : (Cond.methodLink "ClockhouseModel$State" (35 : Nat) ({ cls := "java/util/ArrayList", name := "iterator", desc := "()Ljava/util/Iterator;" } : MethodName)) ∈ lw_gw := am_w 1766 (by decide +kernel) rfl
theorem w1767 : (Cond.instanceMethod ({ cls := "java/util/ArrayList", name := "iterator", desc := "()Ljava/util/Iterator;" } : MethodName)) ∈ lw_gw := am_w 1767 (by decide +kernel) rfl
theorem w1768 : (Cond.selects "java/util/ArrayList" ({ cls := "java/util/ArrayList", name := "iterator", desc := "()Ljava/util/Iterator;" } : MethodName) ({ cls := "java/util/ArrayList", name := "iterator", desc := "()Ljava/util/Iterator;" } : MethodName)) ∈ lw_gw := am_w 1768 (by decide +kernel) rfl
theorem w1769 : (Cond.code ({ cls := "java/util/ArrayList", name := "iterator", desc := "()Ljava/util/Iterator;" } : MethodName) prog_46_method_55_code (1 : Nat) (Option.some (FieldType.object "java/util/Iterator"))) ∈ lw_gw := am_w 1769 (by decide +kernel) rfl
theorem w1770 : (Cond.classLink "java/util/ArrayList" (267 : Nat) "java/util/ArrayList$Itr") ∈ lw_gw := am_w 1770 (by decide +kernel) rfl
theorem w1771 : (Cond.instantiable "java/util/ArrayList$Itr" (4 : Nat)) ∈ lw_gw := am_w 1771 (by decide +kernel) rfl
theorem w1772 : (Cond.methodLink "java/util/ArrayList" (269 : Nat) ({ cls := "java/util/ArrayList$Itr", name := "<init>", desc := "(Ljava/util/ArrayList;)V" } : MethodName)) ∈ lw_gw := am_w 1772 (by decide +kernel) rfl
theorem w1773 : (Cond.instanceMethod ({ cls := "java/util/ArrayList$Itr", name := "<init>", desc := "(Ljava/util/ArrayList;)V" } : MethodName)) ∈ lw_gw := am_w 1773 (by decide +kernel) rfl
theorem w1774 : (Cond.code ({ cls := "java/util/ArrayList$Itr", name := "<init>", desc := "(Ljava/util/ArrayList;)V" } : MethodName) prog_47_method_1_code (2 : Nat) (Option.none : Option FieldType)) ∈ lw_gw := am_w 1774 (by decide +kernel) rfl
theorem w1775 : (Cond.methodLink "java/util/ArrayList$Itr" (7 : Nat) ({ cls := "java/lang/Object", name := "<init>", desc := "()V" } : MethodName)) ∈ lw_gw := am_w 1775 (by decide +kernel) rfl
theorem w1776 : (Cond.fieldLink "java/util/ArrayList$Itr" (25 : Nat) "java/util/ArrayList$Itr" "cursor" "I") ∈ lw_gw := am_w 1776 (by decide +kernel) rfl
theorem w1777 : (Cond.fieldLink "java/util/ArrayList$Itr" (13 : Nat) "java/util/ArrayList$Itr" "lastRet" "I") ∈ lw_gw := am_w 1777 (by decide +kernel) rfl
theorem w1778 : (Cond.fieldLink "java/util/ArrayList$Itr" (22 : Nat) "java/util/ArrayList$Itr" "expectedModCount" "I") ∈ lw_gw := am_w 1778 (by decide +kernel) rfl
theorem w1779 : (Cond.fieldLink "java/util/ArrayList$Itr" (1 : Nat) "java/util/ArrayList$Itr" "this$0" "Ljava/util/ArrayList;") ∈ lw_gw := am_w 1779 (by decide +kernel) rfl
theorem w1780 : (Cond.lays "java/util/ArrayList$Itr" "java/util/ArrayList$Itr" "cursor" "I") ∈ lw_gw := am_w 1780 (by decide +kernel) rfl
theorem w1782 : (Cond.lays "java/util/ArrayList$Itr" "java/util/ArrayList$Itr" "lastRet" "I") ∈ lw_gw := am_w 1782 (by decide +kernel) rfl
theorem w1784 : (Cond.lays "java/util/ArrayList$Itr" "java/util/ArrayList$Itr" "expectedModCount" "I") ∈ lw_gw := am_w 1784 (by decide +kernel) rfl
theorem w1786 : (Cond.laysFinal "java/util/ArrayList$Itr" "java/util/ArrayList$Itr" "this$0" "Ljava/util/ArrayList;") ∈ lw_gw := am_w 1786 (by decide +kernel) rfl
theorem w1790 : (Cond.methodLink "ClockhouseModel$State" (39 : Nat) ({ cls := "java/util/Iterator", name := "hasNext", desc := "()Z" } : MethodName)) ∈ lw_gw := am_w 1790 (by decide +kernel) rfl
theorem w1791 : (Cond.interfaceMethod "java/util/Iterator" "java/util/Iterator" "hasNext" "()Z") ∈ lw_ng := am_ng 1791 (by decide +kernel) rfl
theorem w1792 : (Cond.declares ({ cls := "java/util/Iterator", name := "hasNext", desc := "()Z" } : MethodName)) ∈ lw_ng := am_ng 1792 (by decide +kernel) rfl
theorem w1793 : (Cond.castable "java/util/ArrayList$Itr" "java/util/Iterator") ∈ lw_ng := am_ng 1793 (by decide +kernel) rfl
theorem w1794 : (Cond.selects "java/util/ArrayList$Itr" ({ cls := "java/util/Iterator", name := "hasNext", desc := "()Z" } : MethodName) ({ cls := "java/util/ArrayList$Itr", name := "hasNext", desc := "()Z" } : MethodName)) ∈ lw_gw := am_w 1794 (by decide +kernel) rfl
theorem w1795 : (Cond.unhidden "java/util/ArrayList$Itr" "hasNext" "()Z") ∈ lw_ng := am_ng 1795 (by decide +kernel) rfl
theorem w1796 : (Cond.instanceMethod ({ cls := "java/util/ArrayList$Itr", name := "hasNext", desc := "()Z" } : MethodName)) ∈ lw_gw := am_w 1796 (by decide +kernel) rfl
theorem w1797 : (Cond.publicMethod ({ cls := "java/util/ArrayList$Itr", name := "hasNext", desc := "()Z" } : MethodName)) ∈ lw_ng := am_ng 1797 (by decide +kernel) rfl
theorem w1798 : (Cond.code ({ cls := "java/util/ArrayList$Itr", name := "hasNext", desc := "()Z" } : MethodName) prog_47_method_2_code (1 : Nat) (Option.some FieldType.boolean)) ∈ lw_gw := am_w 1798 (by decide +kernel) rfl
theorem w1800 : (Cond.methodLink "ClockhouseModel$State" (45 : Nat) ({ cls := "java/util/Iterator", name := "next", desc := "()Ljava/lang/Object;" } : MethodName)) ∈ lw_gw := am_w 1800 (by decide +kernel) rfl
theorem w1801 : (Cond.interfaceMethod "java/util/Iterator" "java/util/Iterator" "next" "()Ljava/lang/Object;") ∈ lw_ng := am_ng 1801 (by decide +kernel) rfl
theorem w1802 : (Cond.declares ({ cls := "java/util/Iterator", name := "next", desc := "()Ljava/lang/Object;" } : MethodName)) ∈ lw_ng := am_ng 1802 (by decide +kernel) rfl
theorem w1803 : (Cond.selects "java/util/ArrayList$Itr" ({ cls := "java/util/Iterator", name := "next", desc := "()Ljava/lang/Object;" } : MethodName) ({ cls := "java/util/ArrayList$Itr", name := "next", desc := "()Ljava/lang/Object;" } : MethodName)) ∈ lw_gw := am_w 1803 (by decide +kernel) rfl
theorem w1804 : (Cond.unhidden "java/util/ArrayList$Itr" "next" "()Ljava/lang/Object;") ∈ lw_ng := am_ng 1804 (by decide +kernel) rfl
theorem w1805 : (Cond.instanceMethod ({ cls := "java/util/ArrayList$Itr", name := "next", desc := "()Ljava/lang/Object;" } : MethodName)) ∈ lw_gw := am_w 1805 (by decide +kernel) rfl
theorem w1806 : (Cond.publicMethod ({ cls := "java/util/ArrayList$Itr", name := "next", desc := "()Ljava/lang/Object;" } : MethodName)) ∈ lw_ng := am_ng 1806 (by decide +kernel) rfl
theorem w1807 : (Cond.code ({ cls := "java/util/ArrayList$Itr", name := "next", desc := "()Ljava/lang/Object;" } : MethodName) prog_47_method_3_code (3 : Nat) (Option.some (FieldType.object "java/lang/Object"))) ∈ lw_gw := am_w 1807 (by decide +kernel) rfl
theorem w1808 : (Cond.methodLink "java/util/ArrayList$Itr" (31 : Nat) ({ cls := "java/util/ArrayList$Itr", name := "checkForComodification", desc := "()V" } : MethodName)) ∈ lw_gw := am_w 1808 (by decide +kernel) rfl
theorem w1809 : (Cond.instanceMethod ({ cls := "java/util/ArrayList$Itr", name := "checkForComodification", desc := "()V" } : MethodName)) ∈ lw_gw := am_w 1809 (by decide +kernel) rfl
theorem w1810 : (Cond.selects "java/util/ArrayList$Itr" ({ cls := "java/util/ArrayList$Itr", name := "checkForComodification", desc := "()V" } : MethodName) ({ cls := "java/util/ArrayList$Itr", name := "checkForComodification", desc := "()V" } : MethodName)) ∈ lw_gw := am_w 1810 (by decide +kernel) rfl
theorem w1811 : (Cond.code ({ cls := "java/util/ArrayList$Itr", name := "checkForComodification", desc := "()V" } : MethodName) prog_47_method_6_code (1 : Nat) (Option.none : Option FieldType)) ∈ lw_gw := am_w 1811 (by decide +kernel) rfl
theorem w1812 : (Cond.classLink "ClockhouseModel$State" (48 : Nat) "[I") ∈ lw_gw := am_w 1812 (by decide +kernel) rfl
theorem w1813 : (Cond.methodLink "ClockhouseModel$State" (50 : Nat) ({ cls := "java/util/ArrayList", name := "add", desc := "(Ljava/lang/Object;)Z" } : MethodName)) ∈ lw_gw := am_w 1813 (by decide +kernel) rfl
theorem w1814 : (Cond.instanceMethod ({ cls := "java/util/ArrayList", name := "add", desc := "(Ljava/lang/Object;)Z" } : MethodName)) ∈ lw_gw := am_w 1814 (by decide +kernel) rfl
theorem w1815 : (Cond.selects "java/util/ArrayList" ({ cls := "java/util/ArrayList", name := "add", desc := "(Ljava/lang/Object;)Z" } : MethodName) ({ cls := "java/util/ArrayList", name := "add", desc := "(Ljava/lang/Object;)Z" } : MethodName)) ∈ lw_gw := am_w 1815 (by decide +kernel) rfl
theorem w1816 : (Cond.code ({ cls := "java/util/ArrayList", name := "add", desc := "(Ljava/lang/Object;)Z" } : MethodName) prog_46_method_25_code (2 : Nat) (Option.some FieldType.boolean)) ∈ lw_gw := am_w 1816 (by decide +kernel) rfl
theorem w1817 : (Cond.methodLink "java/util/ArrayList" (131 : Nat) ({ cls := "java/util/ArrayList", name := "add", desc := "(Ljava/lang/Object;[Ljava/lang/Object;I)V" } : MethodName)) ∈ lw_gw := am_w 1817 (by decide +kernel) rfl
theorem w1819 : (Cond.instanceMethod ({ cls := "java/util/ArrayList", name := "add", desc := "(Ljava/lang/Object;[Ljava/lang/Object;I)V" } : MethodName)) ∈ lw_gw := am_w 1819 (by decide +kernel) rfl
theorem w1820 : (Cond.code ({ cls := "java/util/ArrayList", name := "add", desc := "(Ljava/lang/Object;[Ljava/lang/Object;I)V" } : MethodName) prog_46_method_24_code (4 : Nat) (Option.none : Option FieldType)) ∈ lw_gw := am_w 1820 (by decide +kernel) rfl
theorem w1821 : (Cond.methodLink "java/util/ArrayList" (129 : Nat) ({ cls := "java/util/ArrayList", name := "grow", desc := "()[Ljava/lang/Object;" } : MethodName)) ∈ lw_gw := am_w 1821 (by decide +kernel) rfl
theorem w1823 : (Cond.instanceMethod ({ cls := "java/util/ArrayList", name := "grow", desc := "()[Ljava/lang/Object;" } : MethodName)) ∈ lw_gw := am_w 1823 (by decide +kernel) rfl
theorem w1824 : (Cond.code ({ cls := "java/util/ArrayList", name := "grow", desc := "()[Ljava/lang/Object;" } : MethodName) prog_46_method_7_code (1 : Nat) (Option.some (FieldType.array (FieldType.object "java/lang/Object")))) ∈ lw_gw := am_w 1824 (by decide +kernel) rfl
theorem w1825 : (Cond.methodLink "java/util/ArrayList" (69 : Nat) ({ cls := "java/util/ArrayList", name := "grow", desc := "(I)[Ljava/lang/Object;" } : MethodName)) ∈ lw_gw := am_w 1825 (by decide +kernel) rfl
theorem w1827 : (Cond.instanceMethod ({ cls := "java/util/ArrayList", name := "grow", desc := "(I)[Ljava/lang/Object;" } : MethodName)) ∈ lw_gw := am_w 1827 (by decide +kernel) rfl
theorem w1828 : (Cond.code ({ cls := "java/util/ArrayList", name := "grow", desc := "(I)[Ljava/lang/Object;" } : MethodName) prog_46_method_6_code (4 : Nat) (Option.some (FieldType.array (FieldType.object "java/lang/Object")))) ∈ lw_gw := am_w 1828 (by decide +kernel) rfl
theorem w1829 : (Cond.methodLink "java/util/ArrayList" (73 : Nat) ({ cls := "jdk/internal/util/ArraysSupport", name := "newLength", desc := "(III)I" } : MethodName)) ∈ lw_gw := am_w 1829 (by decide +kernel) rfl
theorem w1830 : (Cond.methodLink "java/util/ArrayList" (66 : Nat) ({ cls := "java/util/Arrays", name := "copyOf", desc := "([Ljava/lang/Object;I)[Ljava/lang/Object;" } : MethodName)) ∈ lw_gw := am_w 1830 (by decide +kernel) rfl
theorem w1831 : (Cond.static ({ cls := "java/util/Arrays", name := "copyOf", desc := "([Ljava/lang/Object;I)[Ljava/lang/Object;" } : MethodName)) ∈ lw_gw := am_w 1831 (by decide +kernel) rfl
theorem w1832 : (Cond.code ({ cls := "java/util/Arrays", name := "copyOf", desc := "([Ljava/lang/Object;I)[Ljava/lang/Object;" } : MethodName) prog_48_method_119_code (2 : Nat) (Option.some (FieldType.array (FieldType.object "java/lang/Object")))) ∈ lw_gw := am_w 1832 (by decide +kernel) rfl
theorem w1833 : (Cond.methodLink "java/util/Arrays" (86 : Nat) ({ cls := "java/lang/Object", name := "getClass", desc := "()Ljava/lang/Class;" } : MethodName)) ∈ lw_gw := am_w 1833 (by decide +kernel) rfl
theorem w1834 : (Cond.instanceMethod ({ cls := "java/lang/Object", name := "getClass", desc := "()Ljava/lang/Class;" } : MethodName)) ∈ lw_gw := am_w 1834 (by decide +kernel) rfl
theorem w1859 : (Cond.native ({ cls := "java/lang/Object", name := "getClass", desc := "()Ljava/lang/Class;" } : MethodName)) ∈ lw_gw := am_w 1859 (by decide +kernel) rfl
theorem w1860 : (Cond.methodLink "java/util/Arrays" (300 : Nat) ({ cls := "java/util/Arrays", name := "copyOf", desc := "([Ljava/lang/Object;ILjava/lang/Class;)[Ljava/lang/Object;" } : MethodName)) ∈ lw_gw := am_w 1860 (by decide +kernel) rfl
theorem w1861 : (Cond.static ({ cls := "java/util/Arrays", name := "copyOf", desc := "([Ljava/lang/Object;ILjava/lang/Class;)[Ljava/lang/Object;" } : MethodName)) ∈ lw_gw := am_w 1861 (by decide +kernel) rfl
theorem w1862 : (Cond.code ({ cls := "java/util/Arrays", name := "copyOf", desc := "([Ljava/lang/Object;ILjava/lang/Class;)[Ljava/lang/Object;" } : MethodName) prog_48_method_120_code (4 : Nat) (Option.some (FieldType.array (FieldType.object "java/lang/Object")))) ∈ lw_gw := am_w 1862 (by decide +kernel) rfl
theorem w1863 : (Cond.classLink "java/util/Arrays" (110 : Nat) "[Ljava/lang/Object;") ∈ lw_gw := am_w 1863 (by decide +kernel) rfl
theorem w1864 : (Cond.arrayOver (FieldType.object "java/lang/Object")) ∈ lw_ng := am_ng 1864 (by decide +kernel) rfl
theorem w1865 : (Cond.classLink "java/util/Arrays" (2 : Nat) "java/lang/Object") ∈ lw_gw := am_w 1865 (by decide +kernel) rfl
theorem w1866 : (Cond.methodLink "java/util/ArrayList" (79 : Nat) ({ cls := "java/lang/Math", name := "max", desc := "(II)I" } : MethodName)) ∈ lw_gw := am_w 1866 (by decide +kernel) rfl
theorem w1867 : (Cond.classLink "java/util/ArrayList" (7 : Nat) "java/lang/Object") ∈ lw_gw := am_w 1867 (by decide +kernel) rfl
theorem w1868 : (Cond.classLink "ClockhouseModel$State" (54 : Nat) "java/lang/Integer") ∈ lw_gw := am_w 1868 (by decide +kernel) rfl
theorem w1869 : (Cond.methodLink "ClockhouseModel$State" (56 : Nat) ({ cls := "java/lang/Integer", name := "intValue", desc := "()I" } : MethodName)) ∈ lw_gw := am_w 1869 (by decide +kernel) rfl
theorem w1870 : (Cond.instanceMethod ({ cls := "java/lang/Integer", name := "intValue", desc := "()I" } : MethodName)) ∈ lw_gw := am_w 1870 (by decide +kernel) rfl
theorem w1871 : (Cond.selects "java/lang/Integer" ({ cls := "java/lang/Integer", name := "intValue", desc := "()I" } : MethodName) ({ cls := "java/lang/Integer", name := "intValue", desc := "()I" } : MethodName)) ∈ lw_gw := am_w 1871 (by decide +kernel) rfl
theorem w1872 : (Cond.code ({ cls := "java/lang/Integer", name := "intValue", desc := "()I" } : MethodName) prog_28_method_27_code (1 : Nat) (Option.some FieldType.int)) ∈ lw_gw := am_w 1872 (by decide +kernel) rfl
theorem w1873 : (Cond.methodLink "ClockhouseModel$State" (60 : Nat) ({ cls := "java/lang/Integer", name := "valueOf", desc := "(I)Ljava/lang/Integer;" } : MethodName)) ∈ lw_gw := am_w 1873 (by decide +kernel) rfl
theorem w1874 : (Cond.static ({ cls := "java/lang/Integer", name := "valueOf", desc := "(I)Ljava/lang/Integer;" } : MethodName)) ∈ lw_gw := am_w 1874 (by decide +kernel) rfl
theorem w1875 : (Cond.code ({ cls := "java/lang/Integer", name := "valueOf", desc := "(I)Ljava/lang/Integer;" } : MethodName) prog_28_method_22_code (1 : Nat) (Option.some (FieldType.object "java/lang/Integer"))) ∈ lw_gw := am_w 1875 (by decide +kernel) rfl
theorem w1876 : (Cond.fieldLink "java/lang/Integer" (191 : Nat) "java/lang/Integer$IntegerCache" "high" "I") ∈ lw_gw := am_w 1876 (by decide +kernel) rfl
theorem w1878 : (Cond.fieldLink "java/lang/Integer" (195 : Nat) "java/lang/Integer$IntegerCache" "cache" "[Ljava/lang/Integer;") ∈ lw_gw := am_w 1878 (by decide +kernel) rfl
theorem w1880 : (Cond.classLink "java/lang/Integer" (1 : Nat) "java/lang/Integer") ∈ lw_gw := am_w 1880 (by decide +kernel) rfl
theorem w1881 : (Cond.instantiable "java/lang/Integer" (1 : Nat)) ∈ lw_gw := am_w 1881 (by decide +kernel) rfl
theorem w1882 : (Cond.methodLink "java/lang/Integer" (199 : Nat) ({ cls := "java/lang/Integer", name := "<init>", desc := "(I)V" } : MethodName)) ∈ lw_gw := am_w 1882 (by decide +kernel) rfl
theorem w1883 : (Cond.instanceMethod ({ cls := "java/lang/Integer", name := "<init>", desc := "(I)V" } : MethodName)) ∈ lw_gw := am_w 1883 (by decide +kernel) rfl
theorem w1884 : (Cond.code ({ cls := "java/lang/Integer", name := "<init>", desc := "(I)V" } : MethodName) prog_28_method_23_code (2 : Nat) (Option.none : Option FieldType)) ∈ lw_gw := am_w 1884 (by decide +kernel) rfl
theorem w1885 : (Cond.methodLink "java/lang/Integer" (202 : Nat) ({ cls := "java/lang/Number", name := "<init>", desc := "()V" } : MethodName)) ∈ lw_gw := am_w 1885 (by decide +kernel) rfl
theorem w1886 : (Cond.instanceMethod ({ cls := "java/lang/Number", name := "<init>", desc := "()V" } : MethodName)) ∈ lw_gw := am_w 1886 (by decide +kernel) rfl
theorem w1887 : (Cond.code ({ cls := "java/lang/Number", name := "<init>", desc := "()V" } : MethodName) prog_33_method_1_code (1 : Nat) (Option.none : Option FieldType)) ∈ lw_gw := am_w 1887 (by decide +kernel) rfl
theorem w1888 : (Cond.methodLink "java/lang/Number" (1 : Nat) ({ cls := "java/lang/Object", name := "<init>", desc := "()V" } : MethodName)) ∈ lw_gw := am_w 1888 (by decide +kernel) rfl
theorem w1889 : (Cond.fieldLink "java/lang/Integer" (205 : Nat) "java/lang/Integer" "value" "I") ∈ lw_gw := am_w 1889 (by decide +kernel) rfl
theorem w1890 : (Cond.laysFinal "java/lang/Integer" "java/lang/Integer" "value" "I") ∈ lw_gw := am_w 1890 (by decide +kernel) rfl
theorem w1897 : (Cond.code ({ cls := "java/util/ArrayList", name := "size", desc := "()I" } : MethodName) prog_46_method_8_code (1 : Nat) (Option.some FieldType.int)) ∈ lw_gw := am_w 1897 (by decide +kernel) rfl
theorem w1901 : (Cond.code ({ cls := "java/util/ArrayList", name := "remove", desc := "(I)Ljava/lang/Object;" } : MethodName) prog_46_method_29_code (4 : Nat) (Option.some (FieldType.object "java/lang/Object"))) ∈ lw_gw := am_w 1901 (by decide +kernel) rfl
theorem w1902 : (Cond.methodLink "java/util/ArrayList" (118 : Nat) ({ cls := "java/util/Objects", name := "checkIndex", desc := "(II)I" } : MethodName)) ∈ lw_gw := am_w 1902 (by decide +kernel) rfl
theorem w1903 : (Cond.static ({ cls := "java/util/Objects", name := "checkIndex", desc := "(II)I" } : MethodName)) ∈ lw_gw := am_w 1903 (by decide +kernel) rfl
theorem w1904 : (Cond.code ({ cls := "java/util/Objects", name := "checkIndex", desc := "(II)I" } : MethodName) prog_52_method_17_code (2 : Nat) (Option.some FieldType.int)) ∈ lw_gw := am_w 1904 (by decide +kernel) rfl
theorem w1905 : (Cond.methodLink "java/util/Objects" (105 : Nat) ({ cls := "jdk/internal/util/Preconditions", name := "checkIndex", desc := "(IILjava/util/function/BiFunction;)I" } : MethodName)) ∈ lw_gw := am_w 1905 (by decide +kernel) rfl
theorem w1906 : (Cond.methodLink "java/util/ArrayList" (144 : Nat) ({ cls := "java/util/ArrayList", name := "fastRemove", desc := "([Ljava/lang/Object;I)V" } : MethodName)) ∈ lw_gw := am_w 1906 (by decide +kernel) rfl
theorem w1908 : (Cond.instanceMethod ({ cls := "java/util/ArrayList", name := "fastRemove", desc := "([Ljava/lang/Object;I)V" } : MethodName)) ∈ lw_gw := am_w 1908 (by decide +kernel) rfl
theorem w1909 : (Cond.code ({ cls := "java/util/ArrayList", name := "fastRemove", desc := "([Ljava/lang/Object;I)V" } : MethodName) prog_46_method_39_code (4 : Nat) (Option.none : Option FieldType)) ∈ lw_gw := am_w 1909 (by decide +kernel) rfl
theorem w1910 : (Cond.methodLink "java/util/ArrayList" (112 : Nat) ({ cls := "java/lang/System", name := "arraycopy", desc := "(Ljava/lang/Object;ILjava/lang/Object;II)V" } : MethodName)) ∈ lw_gw := am_w 1910 (by decide +kernel) rfl
theorem w2048 : (Cond.code ({ cls := "ClockhouseModel", name := "tried", desc := "(JJ[I)I" } : MethodName) prog_14_method_29_code (6 : Nat) (Option.some FieldType.int)) ∈ lw_gw := am_w 2048 (by decide +kernel) rfl
theorem w2051 : (Cond.code ({ cls := "ClockhouseModel", name := "common", desc := "(JI)J" } : MethodName) prog_14_method_30_code (3 : Nat) (Option.some FieldType.long)) ∈ lw_gw := am_w 2051 (by decide +kernel) rfl
theorem w2052 : (Cond.methodLink "ClockhouseModel" (157 : Nat) ({ cls := "ClockhouseModel", name := "gcdOf", desc := "(II)I" } : MethodName)) ∈ lw_gw := am_w 2052 (by decide +kernel) rfl
theorem w2053 : (Cond.static ({ cls := "ClockhouseModel", name := "gcdOf", desc := "(II)I" } : MethodName)) ∈ lw_gw := am_w 2053 (by decide +kernel) rfl
theorem w2054 : (Cond.code ({ cls := "ClockhouseModel", name := "gcdOf", desc := "(II)I" } : MethodName) prog_14_method_8_code (4 : Nat) (Option.some FieldType.int)) ∈ lw_gw := am_w 2054 (by decide +kernel) rfl
theorem w2078 : (Cond.code ({ cls := "java/util/ArrayList", name := "isEmpty", desc := "()Z" } : MethodName) prog_46_method_9_code (1 : Nat) (Option.some FieldType.boolean)) ∈ lw_gw := am_w 2078 (by decide +kernel) rfl
theorem w2118 : (Cond.code ({ cls := "ClockhouseModel$Num", name := "wide", desc := "()[I" } : MethodName) prog_15_method_12_code (3 : Nat) (Option.some (FieldType.array FieldType.int))) ∈ lw_gw := am_w 2118 (by decide +kernel) rfl
theorem w2121 : (Cond.code ({ cls := "ClockhouseModel$Num", name := "euclid", desc := "([I[I)[[I" } : MethodName) prog_15_method_20_code (8 : Nat) (Option.some (FieldType.array (FieldType.array FieldType.int)))) ∈ lw_gw := am_w 2121 (by decide +kernel) rfl
theorem w2122 : (Cond.methodLink "ClockhouseModel$Num" (70 : Nat) ({ cls := "ClockhouseModel$Num", name := "places", desc := "([I)I" } : MethodName)) ∈ lw_gw := am_w 2122 (by decide +kernel) rfl
theorem w2123 : (Cond.static ({ cls := "ClockhouseModel$Num", name := "places", desc := "([I)I" } : MethodName)) ∈ lw_gw := am_w 2123 (by decide +kernel) rfl
theorem w2124 : (Cond.code ({ cls := "ClockhouseModel$Num", name := "places", desc := "([I)I" } : MethodName) prog_15_method_13_code (2 : Nat) (Option.some FieldType.int)) ∈ lw_gw := am_w 2124 (by decide +kernel) rfl
theorem w2125 : (Cond.methodLink "ClockhouseModel$Num" (58 : Nat) ({ cls := "ClockhouseModel$Num", name := "isLess", desc := "([I[II)Z" } : MethodName)) ∈ lw_gw := am_w 2125 (by decide +kernel) rfl
theorem w2126 : (Cond.static ({ cls := "ClockhouseModel$Num", name := "isLess", desc := "([I[II)Z" } : MethodName)) ∈ lw_gw := am_w 2126 (by decide +kernel) rfl
theorem w2127 : (Cond.code ({ cls := "ClockhouseModel$Num", name := "isLess", desc := "([I[II)Z" } : MethodName) prog_15_method_14_code (5 : Nat) (Option.some FieldType.boolean)) ∈ lw_gw := am_w 2127 (by decide +kernel) rfl
theorem w2128 : (Cond.methodLink "ClockhouseModel$Num" (62 : Nat) ({ cls := "ClockhouseModel$Num", name := "change", desc := "([I[III)V" } : MethodName)) ∈ lw_gw := am_w 2128 (by decide +kernel) rfl
theorem w2129 : (Cond.static ({ cls := "ClockhouseModel$Num", name := "change", desc := "([I[III)V" } : MethodName)) ∈ lw_gw := am_w 2129 (by decide +kernel) rfl
theorem w2130 : (Cond.code ({ cls := "ClockhouseModel$Num", name := "change", desc := "([I[III)V" } : MethodName) prog_15_method_15_code (7 : Nat) (Option.none : Option FieldType)) ∈ lw_gw := am_w 2130 (by decide +kernel) rfl
theorem w2131 : (Cond.classLink "ClockhouseModel$Num" (75 : Nat) "[I") ∈ lw_gw := am_w 2131 (by decide +kernel) rfl
theorem w2132 : (Cond.arrayOver (FieldType.array FieldType.int)) ∈ lw_ng := am_ng 2132 (by decide +kernel) rfl
theorem w2260 : (Cond.code ({ cls := "ClockhouseModel", name := "powersOf", desc := "(I)[I" } : MethodName) prog_14_method_66_code (7 : Nat) (Option.some (FieldType.array FieldType.int))) ∈ lw_gw := am_w 2260 (by decide +kernel) rfl
theorem w2330 : (Cond.code ({ cls := "java/util/ArrayList", name := "get", desc := "(I)Ljava/lang/Object;" } : MethodName) prog_46_method_20_code (2 : Nat) (Option.some (FieldType.object "java/lang/Object"))) ∈ lw_gw := am_w 2330 (by decide +kernel) rfl
theorem w2331 : (Cond.methodLink "java/util/ArrayList" (123 : Nat) ({ cls := "java/util/ArrayList", name := "elementData", desc := "(I)Ljava/lang/Object;" } : MethodName)) ∈ lw_gw := am_w 2331 (by decide +kernel) rfl
theorem w2332 : (Cond.instanceMethod ({ cls := "java/util/ArrayList", name := "elementData", desc := "(I)Ljava/lang/Object;" } : MethodName)) ∈ lw_gw := am_w 2332 (by decide +kernel) rfl
theorem w2333 : (Cond.selects "java/util/ArrayList" ({ cls := "java/util/ArrayList", name := "elementData", desc := "(I)Ljava/lang/Object;" } : MethodName) ({ cls := "java/util/ArrayList", name := "elementData", desc := "(I)Ljava/lang/Object;" } : MethodName)) ∈ lw_gw := am_w 2333 (by decide +kernel) rfl
theorem w2334 : (Cond.code ({ cls := "java/util/ArrayList", name := "elementData", desc := "(I)Ljava/lang/Object;" } : MethodName) prog_46_method_18_code (2 : Nat) (Option.some (FieldType.object "java/lang/Object"))) ∈ lw_gw := am_w 2334 (by decide +kernel) rfl
theorem w2499 : (Cond.castable "java/lang/Integer" "java/lang/Object") ∈ lw_ng := am_ng 2499 (by decide +kernel) rfl
theorem w2509 : (Cond.castable "ClockhouseModel$State" "java/lang/Object") ∈ lw_ng := am_ng 2509 (by decide +kernel) rfl
theorem w2521 : (Cond.selects "[Ljava/lang/Object;" ({ cls := "java/lang/Object", name := "getClass", desc := "()Ljava/lang/Class;" } : MethodName) ({ cls := "java/lang/Object", name := "getClass", desc := "()Ljava/lang/Class;" } : MethodName)) ∈ lw_gw := am_w 2521 (by decide +kernel) rfl
theorem w2522 : (Cond.declares ({ cls := "java/lang/Object", name := "getClass", desc := "()Ljava/lang/Class;" } : MethodName)) ∈ lw_ng := am_ng 2522 (by decide +kernel) rfl
theorem w2524 : (Cond.castable "[I" "java/lang/Object") ∈ lw_ng := am_ng 2524 (by decide +kernel) rfl
