/-! MORE WORDS -/
theorem w34 : (Cond.selects "java/util/ArrayList" ({ cls := "java/util/ArrayList", name := "add", desc := "(Ljava/lang/Object;[Ljava/lang/Object;I)V" } : MethodName) ({ cls := "java/util/ArrayList", name := "add", desc := "(Ljava/lang/Object;[Ljava/lang/Object;I)V" } : MethodName)) ∈ lw_gw := am_w 34 (by decide +kernel) rfl
theorem w35 : (Cond.selects "java/util/ArrayList" ({ cls := "java/util/ArrayList", name := "grow", desc := "()[Ljava/lang/Object;" } : MethodName) ({ cls := "java/util/ArrayList", name := "grow", desc := "()[Ljava/lang/Object;" } : MethodName)) ∈ lw_gw := am_w 35 (by decide +kernel) rfl
theorem w36 : (Cond.selects "java/util/ArrayList" ({ cls := "java/util/ArrayList", name := "grow", desc := "(I)[Ljava/lang/Object;" } : MethodName) ({ cls := "java/util/ArrayList", name := "grow", desc := "(I)[Ljava/lang/Object;" } : MethodName)) ∈ lw_gw := am_w 36 (by decide +kernel) rfl
theorem w37 : (Cond.selects "java/util/ArrayList" ({ cls := "java/util/ArrayList", name := "fastRemove", desc := "([Ljava/lang/Object;I)V" } : MethodName) ({ cls := "java/util/ArrayList", name := "fastRemove", desc := "([Ljava/lang/Object;I)V" } : MethodName)) ∈ lw_gw := am_w 37 (by decide +kernel) rfl
theorem w93 : (Cond.initialized "ClockhouseModel") ∈ lw_gw := am_w 93 (by decide +kernel) rfl
theorem w94 : (Cond.initialized "ClockhouseModel$State") ∈ lw_gw := am_w 94 (by decide +kernel) rfl
theorem w95 : (Cond.initialized "ClockhouseModel$Num") ∈ lw_gw := am_w 95 (by decide +kernel) rfl
theorem w96 : (Cond.initialized "java/util/AbstractCollection") ∈ lw_gw := am_w 96 (by decide +kernel) rfl
theorem w97 : (Cond.initialized "java/util/AbstractList") ∈ lw_gw := am_w 97 (by decide +kernel) rfl
theorem w98 : (Cond.initialized "java/util/ArrayList") ∈ lw_gw := am_w 98 (by decide +kernel) rfl
theorem w105 : (Cond.initialized "java/util/ArrayList$Itr") ∈ lw_gw := am_w 105 (by decide +kernel) rfl
theorem w109 : (Cond.initialized "java/lang/Number") ∈ lw_gw := am_w 109 (by decide +kernel) rfl
theorem w112 : (Cond.initialized "java/util/Objects") ∈ lw_gw := am_w 112 (by decide +kernel) rfl
theorem w113 : (Cond.initialized "jdk/internal/util/Preconditions") ∈ lw_gw := am_w 113 (by decide +kernel) rfl
theorem w845 : (Cond.static ({ cls := "jdk/internal/util/Preconditions", name := "checkIndex", desc := "(IILjava/util/function/BiFunction;)I" } : MethodName)) ∈ lw_gw := am_w 845 (by decide +kernel) rfl
theorem w846 : (Cond.code ({ cls := "jdk/internal/util/Preconditions", name := "checkIndex", desc := "(IILjava/util/function/BiFunction;)I" } : MethodName) prog_56_method_11_code (3 : Nat) (Option.some FieldType.int)) ∈ lw_gw := am_w 846 (by decide +kernel) rfl
theorem w1642 : (Cond.instantiable "ClockhouseModel$State" (4 : Nat)) ∈ lw_gw := am_w 1642 (by decide +kernel) rfl
theorem w1653 : (Cond.code ({ cls := "ClockhouseModel$Num", name := "<init>", desc := "(Z[I)V" } : MethodName) prog_15_method_1_code (5 : Nat) (Option.none : Option FieldType)) ∈ lw_gw := am_w 1653 (by decide +kernel) rfl
theorem w1654 : (Cond.methodLink "ClockhouseModel$Num" (3 : Nat) ({ cls := "java/lang/Object", name := "<init>", desc := "()V" } : MethodName)) ∈ lw_gw := am_w 1654 (by decide +kernel) rfl
theorem w1655 : (Cond.fieldLink "ClockhouseModel$Num" (9 : Nat) "ClockhouseModel$Num" "isBelow" "Z") ∈ lw_gw := am_w 1655 (by decide +kernel) rfl
theorem w1657 : (Cond.fieldLink "ClockhouseModel$Num" (15 : Nat) "ClockhouseModel$Num" "digits" "[I") ∈ lw_gw := am_w 1657 (by decide +kernel) rfl
theorem w1659 : (Cond.laysFinal "ClockhouseModel$Num" "ClockhouseModel$Num" "isBelow" "Z") ∈ lw_gw := am_w 1659 (by decide +kernel) rfl
theorem w1661 : (Cond.laysFinal "ClockhouseModel$Num" "ClockhouseModel$Num" "digits" "[I") ∈ lw_gw := am_w 1661 (by decide +kernel) rfl
theorem w1665 : (Cond.instanceMethod ({ cls := "ClockhouseModel$State", name := "<init>", desc := "([LClockhouseModel$Num;)V" } : MethodName)) ∈ lw_gw := am_w 1665 (by decide +kernel) rfl
theorem w1666 : (Cond.code ({ cls := "ClockhouseModel$State", name := "<init>", desc := "([LClockhouseModel$Num;)V" } : MethodName) prog_16_method_1_code (2 : Nat) (Option.none : Option FieldType)) ∈ lw_gw := am_w 1666 (by decide +kernel) rfl
theorem w1667 : (Cond.methodLink "ClockhouseModel$State" (1 : Nat) ({ cls := "java/lang/Object", name := "<init>", desc := "()V" } : MethodName)) ∈ lw_gw := am_w 1667 (by decide +kernel) rfl
theorem w1668 : (Cond.classLink "ClockhouseModel$State" (13 : Nat) "java/util/ArrayList") ∈ lw_gw := am_w 1668 (by decide +kernel) rfl
theorem w1669 : (Cond.instantiable "java/util/ArrayList" (3 : Nat)) ∈ lw_gw := am_w 1669 (by decide +kernel) rfl
theorem w1670 : (Cond.methodLink "ClockhouseModel$State" (15 : Nat) ({ cls := "java/util/ArrayList", name := "<init>", desc := "()V" } : MethodName)) ∈ lw_gw := am_w 1670 (by decide +kernel) rfl
theorem w1671 : (Cond.instanceMethod ({ cls := "java/util/ArrayList", name := "<init>", desc := "()V" } : MethodName)) ∈ lw_gw := am_w 1671 (by decide +kernel) rfl
theorem w1672 : (Cond.code ({ cls := "java/util/ArrayList", name := "<init>", desc := "()V" } : MethodName) prog_46_method_2_code (1 : Nat) (Option.none : Option FieldType)) ∈ lw_gw := am_w 1672 (by decide +kernel) rfl
theorem w1673 : (Cond.methodLink "java/util/ArrayList" (1 : Nat) ({ cls := "java/util/AbstractList", name := "<init>", desc := "()V" } : MethodName)) ∈ lw_gw := am_w 1673 (by decide +kernel) rfl
theorem w1674 : (Cond.instanceMethod ({ cls := "java/util/AbstractList", name := "<init>", desc := "()V" } : MethodName)) ∈ lw_gw := am_w 1674 (by decide +kernel) rfl
theorem w1675 : (Cond.code ({ cls := "java/util/AbstractList", name := "<init>", desc := "()V" } : MethodName) prog_45_method_1_code (1 : Nat) (Option.none : Option FieldType)) ∈ lw_gw := am_w 1675 (by decide +kernel) rfl
theorem w1676 : (Cond.methodLink "java/util/AbstractList" (1 : Nat) ({ cls := "java/util/AbstractCollection", name := "<init>", desc := "()V" } : MethodName)) ∈ lw_gw := am_w 1676 (by decide +kernel) rfl
theorem w1677 : (Cond.instanceMethod ({ cls := "java/util/AbstractCollection", name := "<init>", desc := "()V" } : MethodName)) ∈ lw_gw := am_w 1677 (by decide +kernel) rfl
theorem w1678 : (Cond.code ({ cls := "java/util/AbstractCollection", name := "<init>", desc := "()V" } : MethodName) prog_44_method_1_code (1 : Nat) (Option.none : Option FieldType)) ∈ lw_gw := am_w 1678 (by decide +kernel) rfl
theorem w1679 : (Cond.methodLink "java/util/AbstractCollection" (1 : Nat) ({ cls := "java/lang/Object", name := "<init>", desc := "()V" } : MethodName)) ∈ lw_gw := am_w 1679 (by decide +kernel) rfl
theorem w1680 : (Cond.fieldLink "java/util/ArrayList" (39 : Nat) "java/util/ArrayList" "DEFAULTCAPACITY_EMPTY_ELEMENTDATA" "[Ljava/lang/Object;") ∈ lw_gw := am_w 1680 (by decide +kernel) rfl
theorem w1682 : (Cond.fieldLink "java/util/ArrayList" (9 : Nat) "java/util/ArrayList" "elementData" "[Ljava/lang/Object;") ∈ lw_gw := am_w 1682 (by decide +kernel) rfl
theorem w1683 : (Cond.fieldLink "java/util/ArrayList$Itr" (37 : Nat) "java/util/ArrayList" "elementData" "[Ljava/lang/Object;") ∈ lw_gw := am_w 1683 (by decide +kernel) rfl
theorem w1684 : (Cond.fieldLinkNest "java/util/ArrayList$Itr" (28 : Nat) "java/util/ArrayList" "size" "I" "java/util/ArrayList") ∈ lw_ng := am_ng 1684 (by decide +kernel) rfl
theorem w1685 : (Cond.fieldLink "java/util/ArrayList" (48 : Nat) "java/util/ArrayList" "size" "I") ∈ lw_gw := am_w 1685 (by decide +kernel) rfl
theorem w1686 : (Cond.fieldLink "java/util/AbstractList" (7 : Nat) "java/util/AbstractList" "modCount" "I") ∈ lw_gw := am_w 1686 (by decide +kernel) rfl
theorem w1687 : (Cond.fieldLink "java/util/ArrayList$Itr" (17 : Nat) "java/util/ArrayList" "modCount" "I") ∈ lw_gw := am_w 1687 (by decide +kernel) rfl
theorem w1688 : (Cond.sameField "java/util/ArrayList" "java/util/AbstractList" "modCount" "I") ∈ lw_gw := am_w 1688 (by decide +kernel) rfl
theorem w1689 : (Cond.fieldLink "java/util/ArrayList" (63 : Nat) "java/util/ArrayList" "modCount" "I") ∈ lw_gw := am_w 1689 (by decide +kernel) rfl
theorem w1690 : (Cond.lays "java/util/ArrayList" "java/util/ArrayList" "elementData" "[Ljava/lang/Object;") ∈ lw_gw := am_w 1690 (by decide +kernel) rfl
theorem w1692 : (Cond.lays "java/util/ArrayList" "java/util/ArrayList" "size" "I") ∈ lw_gw := am_w 1692 (by decide +kernel) rfl
theorem w1694 : (Cond.lays "java/util/ArrayList" "java/util/AbstractList" "modCount" "I") ∈ lw_gw := am_w 1694 (by decide +kernel) rfl
theorem w1697 : (Cond.fieldLink "ClockhouseModel$State" (7 : Nat) "ClockhouseModel$State" "dial" "I") ∈ lw_gw := am_w 1697 (by decide +kernel) rfl
theorem w1698 : (Cond.fieldLink "ClockhouseModel" (65 : Nat) "ClockhouseModel$State" "dial" "I") ∈ lw_gw := am_w 1698 (by decide +kernel) rfl
theorem w1699 : (Cond.fieldLink "ClockhouseModel$State" (23 : Nat) "ClockhouseModel$State" "numbers" "[LClockhouseModel$Num;") ∈ lw_gw := am_w 1699 (by decide +kernel) rfl
theorem w1701 : (Cond.fieldLink "ClockhouseModel$State" (16 : Nat) "ClockhouseModel$State" "rows" "Ljava/util/ArrayList;") ∈ lw_gw := am_w 1701 (by decide +kernel) rfl
theorem w1703 : (Cond.fieldLink "ClockhouseModel$State" (20 : Nat) "ClockhouseModel$State" "bases" "Ljava/util/ArrayList;") ∈ lw_gw := am_w 1703 (by decide +kernel) rfl
theorem w1705 : (Cond.lays "ClockhouseModel$State" "ClockhouseModel$State" "dial" "I") ∈ lw_gw := am_w 1705 (by decide +kernel) rfl
theorem w1707 : (Cond.laysFinal "ClockhouseModel$State" "ClockhouseModel$State" "numbers" "[LClockhouseModel$Num;") ∈ lw_gw := am_w 1707 (by decide +kernel) rfl
theorem w1709 : (Cond.laysFinal "ClockhouseModel$State" "ClockhouseModel$State" "rows" "Ljava/util/ArrayList;") ∈ lw_gw := am_w 1709 (by decide +kernel) rfl
theorem w1711 : (Cond.laysFinal "ClockhouseModel$State" "ClockhouseModel$State" "bases" "Ljava/util/ArrayList;") ∈ lw_gw := am_w 1711 (by decide +kernel) rfl
theorem w1717 : (Cond.fieldLink "ClockhouseModel" (18 : Nat) "ClockhouseModel" "now" "LClockhouseModel$State;") ∈ lw_gw := am_w 1717 (by decide +kernel) rfl
theorem w1722 : (Cond.lays "ClockhouseModel" "ClockhouseModel" "thrown" "I") ∈ lw_gw := am_w 1722 (by decide +kernel) rfl
theorem w1724 : (Cond.lays "ClockhouseModel" "ClockhouseModel" "now" "LClockhouseModel$State;") ∈ lw_gw := am_w 1724 (by decide +kernel) rfl
theorem w1726 : (Cond.laysFinal "ClockhouseModel" "ClockhouseModel" "were" "Ljava/util/ArrayList;") ∈ lw_gw := am_w 1726 (by decide +kernel) rfl
theorem w1728 : (Cond.lays "ClockhouseModel" "ClockhouseModel" "jams" "I") ∈ lw_gw := am_w 1728 (by decide +kernel) rfl
theorem w1730 : (Cond.lays "ClockhouseModel" "ClockhouseModel" "misses" "I") ∈ lw_gw := am_w 1730 (by decide +kernel) rfl
theorem w1732 : (Cond.lays "ClockhouseModel" "ClockhouseModel" "knocks" "I") ∈ lw_gw := am_w 1732 (by decide +kernel) rfl
theorem w1757 : (Cond.code ({ cls := "ClockhouseModel$State", name := "copy", desc := "()LClockhouseModel$State;" } : MethodName) prog_16_method_2_code (4 : Nat) (Option.some (FieldType.object "ClockhouseModel$State"))) ∈ lw_gw := am_w 1757 (by decide +kernel) rfl
theorem w1758 : (Cond.classLink "ClockhouseModel$State" (8 : Nat) "ClockhouseModel$State") ∈ lw_gw := am_w 1758 (by decide +kernel) rfl
theorem w1759 : (Cond.methodLink "ClockhouseModel$State" (27 : Nat) ({ cls := "[LClockhouseModel$Num;", name := "clone", desc := "()Ljava/lang/Object;" } : MethodName)) ∈ lw_gw := am_w 1759 (by decide +kernel) rfl
theorem w1760 : (Cond.sameMethod "[LClockhouseModel$Num;" "java/lang/Object" "clone" "()Ljava/lang/Object;") ∈ lw_gw := am_w 1760 (by decide +kernel) rfl
theorem w1761 : (Cond.selects "[LClockhouseModel$Num;" ({ cls := "[LClockhouseModel$Num;", name := "clone", desc := "()Ljava/lang/Object;" } : MethodName) ({ cls := "java/lang/Object", name := "clone", desc := "()Ljava/lang/Object;" } : MethodName)) ∈ lw_gw := am_w 1761 (by decide +kernel) rfl
theorem w1762 : (Cond.castable "[LClockhouseModel$Num;" "java/lang/Cloneable") ∈ lw_ng := am_ng 1762 (by decide +kernel) rfl
theorem w1763 : (Cond.classLink "ClockhouseModel$State" (28 : Nat) "[LClockhouseModel$Num;") ∈ lw_gw := am_w 1763 (by decide +kernel) rfl
theorem w1764 : (Cond.methodLink "ClockhouseModel$State" (32 : Nat) ({ cls := "ClockhouseModel$State", name := "<init>", desc := "([LClockhouseModel$Num;)V" } : MethodName)) ∈ lw_gw := am_w 1764 (by decide +kernel) rfl
theorem w1765 : (Cond.methodLink "ClockhouseModel$State" (35 : Nat) ({ cls := "java/util/ArrayList", name := "iterator", desc := "()Ljava/util/Iterator;" } : MethodName)) ∈ lw_gw := am_w 1765 (by decide +kernel) rfl
theorem w1766 : (Cond.instanceMethod ({ cls := "java/util/ArrayList", name := "iterator", desc := "()Ljava/util/Iterator;" } : MethodName)) ∈ lw_gw := am_w 1766 (by decide +kernel) rfl
theorem w1767 : (Cond.selects "java/util/ArrayList" ({ cls := "java/util/ArrayList", name := "iterator", desc := "()Ljava/util/Iterator;" } : MethodName) ({ cls := "java/util/ArrayList", name := "iterator", desc := "()Ljava/util/Iterator;" } : MethodName)) ∈ lw_gw := am_w 1767 (by decide +kernel) rfl
theorem w1768 : (Cond.code ({ cls := "java/util/ArrayList", name := "iterator", desc := "()Ljava/util/Iterator;" } : MethodName) prog_46_method_55_code (1 : Nat) (Option.some (FieldType.object "java/util/Iterator"))) ∈ lw_gw := am_w 1768 (by decide +kernel) rfl
theorem w1769 : (Cond.classLink "java/util/ArrayList" (267 : Nat) "java/util/ArrayList$Itr") ∈ lw_gw := am_w 1769 (by decide +kernel) rfl
theorem w1770 : (Cond.instantiable "java/util/ArrayList$Itr" (4 : Nat)) ∈ lw_gw := am_w 1770 (by decide +kernel) rfl
theorem w1771 : (Cond.methodLink "java/util/ArrayList" (269 : Nat) ({ cls := "java/util/ArrayList$Itr", name := "<init>", desc := "(Ljava/util/ArrayList;)V" } : MethodName)) ∈ lw_gw := am_w 1771 (by decide +kernel) rfl
theorem w1772 : (Cond.instanceMethod ({ cls := "java/util/ArrayList$Itr", name := "<init>", desc := "(Ljava/util/ArrayList;)V" } : MethodName)) ∈ lw_gw := am_w 1772 (by decide +kernel) rfl
theorem w1773 : (Cond.code ({ cls := "java/util/ArrayList$Itr", name := "<init>", desc := "(Ljava/util/ArrayList;)V" } : MethodName) prog_47_method_1_code (2 : Nat) (Option.none : Option FieldType)) ∈ lw_gw := am_w 1773 (by decide +kernel) rfl
theorem w1774 : (Cond.methodLink "java/util/ArrayList$Itr" (7 : Nat) ({ cls := "java/lang/Object", name := "<init>", desc := "()V" } : MethodName)) ∈ lw_gw := am_w 1774 (by decide +kernel) rfl
theorem w1775 : (Cond.fieldLink "java/util/ArrayList$Itr" (25 : Nat) "java/util/ArrayList$Itr" "cursor" "I") ∈ lw_gw := am_w 1775 (by decide +kernel) rfl
theorem w1776 : (Cond.fieldLink "java/util/ArrayList$Itr" (13 : Nat) "java/util/ArrayList$Itr" "lastRet" "I") ∈ lw_gw := am_w 1776 (by decide +kernel) rfl
theorem w1777 : (Cond.fieldLink "java/util/ArrayList$Itr" (22 : Nat) "java/util/ArrayList$Itr" "expectedModCount" "I") ∈ lw_gw := am_w 1777 (by decide +kernel) rfl
theorem w1778 : (Cond.fieldLink "java/util/ArrayList$Itr" (1 : Nat) "java/util/ArrayList$Itr" "this$0" "Ljava/util/ArrayList;") ∈ lw_gw := am_w 1778 (by decide +kernel) rfl
theorem w1779 : (Cond.lays "java/util/ArrayList$Itr" "java/util/ArrayList$Itr" "cursor" "I") ∈ lw_gw := am_w 1779 (by decide +kernel) rfl
theorem w1781 : (Cond.lays "java/util/ArrayList$Itr" "java/util/ArrayList$Itr" "lastRet" "I") ∈ lw_gw := am_w 1781 (by decide +kernel) rfl
theorem w1783 : (Cond.lays "java/util/ArrayList$Itr" "java/util/ArrayList$Itr" "expectedModCount" "I") ∈ lw_gw := am_w 1783 (by decide +kernel) rfl
theorem w1785 : (Cond.laysFinal "java/util/ArrayList$Itr" "java/util/ArrayList$Itr" "this$0" "Ljava/util/ArrayList;") ∈ lw_gw := am_w 1785 (by decide +kernel) rfl
theorem w1789 : (Cond.methodLink "ClockhouseModel$State" (39 : Nat) ({ cls := "java/util/Iterator", name := "hasNext", desc := "()Z" } : MethodName)) ∈ lw_gw := am_w 1789 (by decide +kernel) rfl
theorem w1790 : (Cond.interfaceMethod "java/util/Iterator" "java/util/Iterator" "hasNext" "()Z") ∈ lw_ng := am_ng 1790 (by decide +kernel) rfl
theorem w1791 : (Cond.declares ({ cls := "java/util/Iterator", name := "hasNext", desc := "()Z" } : MethodName)) ∈ lw_ng := am_ng 1791 (by decide +kernel) rfl
theorem w1792 : (Cond.castable "java/util/ArrayList$Itr" "java/util/Iterator") ∈ lw_ng := am_ng 1792 (by decide +kernel) rfl
theorem w1793 : (Cond.selects "java/util/ArrayList$Itr" ({ cls := "java/util/Iterator", name := "hasNext", desc := "()Z" } : MethodName) ({ cls := "java/util/ArrayList$Itr", name := "hasNext", desc := "()Z" } : MethodName)) ∈ lw_gw := am_w 1793 (by decide +kernel) rfl
theorem w1794 : (Cond.unhidden "java/util/ArrayList$Itr" "hasNext" "()Z") ∈ lw_ng := am_ng 1794 (by decide +kernel) rfl
theorem w1795 : (Cond.instanceMethod ({ cls := "java/util/ArrayList$Itr", name := "hasNext", desc := "()Z" } : MethodName)) ∈ lw_gw := am_w 1795 (by decide +kernel) rfl
theorem w1796 : (Cond.publicMethod ({ cls := "java/util/ArrayList$Itr", name := "hasNext", desc := "()Z" } : MethodName)) ∈ lw_ng := am_ng 1796 (by decide +kernel) rfl
theorem w1797 : (Cond.code ({ cls := "java/util/ArrayList$Itr", name := "hasNext", desc := "()Z" } : MethodName) prog_47_method_2_code (1 : Nat) (Option.some FieldType.boolean)) ∈ lw_gw := am_w 1797 (by decide +kernel) rfl
theorem w1799 : (Cond.methodLink "ClockhouseModel$State" (45 : Nat) ({ cls := "java/util/Iterator", name := "next", desc := "()Ljava/lang/Object;" } : MethodName)) ∈ lw_gw := am_w 1799 (by decide +kernel) rfl
theorem w1800 : (Cond.interfaceMethod "java/util/Iterator" "java/util/Iterator" "next" "()Ljava/lang/Object;") ∈ lw_ng := am_ng 1800 (by decide +kernel) rfl
theorem w1801 : (Cond.declares ({ cls := "java/util/Iterator", name := "next", desc := "()Ljava/lang/Object;" } : MethodName)) ∈ lw_ng := am_ng 1801 (by decide +kernel) rfl
theorem w1802 : (Cond.selects "java/util/ArrayList$Itr" ({ cls := "java/util/Iterator", name := "next", desc := "()Ljava/lang/Object;" } : MethodName) ({ cls := "java/util/ArrayList$Itr", name := "next", desc := "()Ljava/lang/Object;" } : MethodName)) ∈ lw_gw := am_w 1802 (by decide +kernel) rfl
theorem w1803 : (Cond.unhidden "java/util/ArrayList$Itr" "next" "()Ljava/lang/Object;") ∈ lw_ng := am_ng 1803 (by decide +kernel) rfl
theorem w1804 : (Cond.instanceMethod ({ cls := "java/util/ArrayList$Itr", name := "next", desc := "()Ljava/lang/Object;" } : MethodName)) ∈ lw_gw := am_w 1804 (by decide +kernel) rfl
theorem w1805 : (Cond.publicMethod ({ cls := "java/util/ArrayList$Itr", name := "next", desc := "()Ljava/lang/Object;" } : MethodName)) ∈ lw_ng := am_ng 1805 (by decide +kernel) rfl
theorem w1806 : (Cond.code ({ cls := "java/util/ArrayList$Itr", name := "next", desc := "()Ljava/lang/Object;" } : MethodName) prog_47_method_3_code (3 : Nat) (Option.some (FieldType.object "java/lang/Object"))) ∈ lw_gw := am_w 1806 (by decide +kernel) rfl
theorem w1807 : (Cond.methodLink "java/util/ArrayList$Itr" (31 : Nat) ({ cls := "java/util/ArrayList$Itr", name := "checkForComodification", desc := "()V" } : MethodName)) ∈ lw_gw := am_w 1807 (by decide +kernel) rfl
theorem w1808 : (Cond.instanceMethod ({ cls := "java/util/ArrayList$Itr", name := "checkForComodification", desc := "()V" } : MethodName)) ∈ lw_gw := am_w 1808 (by decide +kernel) rfl
theorem w1809 : (Cond.selects "java/util/ArrayList$Itr" ({ cls := "java/util/ArrayList$Itr", name := "checkForComodification", desc := "()V" } : MethodName) ({ cls := "java/util/ArrayList$Itr", name := "checkForComodification", desc := "()V" } : MethodName)) ∈ lw_gw := am_w 1809 (by decide +kernel) rfl
theorem w1810 : (Cond.code ({ cls := "java/util/ArrayList$Itr", name := "checkForComodification", desc := "()V" } : MethodName) prog_47_method_6_code (1 : Nat) (Option.none : Option FieldType)) ∈ lw_gw := am_w 1810 (by decide +kernel) rfl
theorem w1811 : (Cond.classLink "ClockhouseModel$State" (48 : Nat) "[I") ∈ lw_gw := am_w 1811 (by decide +kernel) rfl
theorem w1812 : (Cond.methodLink "ClockhouseModel$State" (50 : Nat) ({ cls := "java/util/ArrayList", name := "add", desc := "(Ljava/lang/Object;)Z" } : MethodName)) ∈ lw_gw := am_w 1812 (by decide +kernel) rfl
theorem w1813 : (Cond.instanceMethod ({ cls := "java/util/ArrayList", name := "add", desc := "(Ljava/lang/Object;)Z" } : MethodName)) ∈ lw_gw := am_w 1813 (by decide +kernel) rfl
theorem w1814 : (Cond.selects "java/util/ArrayList" ({ cls := "java/util/ArrayList", name := "add", desc := "(Ljava/lang/Object;)Z" } : MethodName) ({ cls := "java/util/ArrayList", name := "add", desc := "(Ljava/lang/Object;)Z" } : MethodName)) ∈ lw_gw := am_w 1814 (by decide +kernel) rfl
theorem w1815 : (Cond.code ({ cls := "java/util/ArrayList", name := "add", desc := "(Ljava/lang/Object;)Z" } : MethodName) prog_46_method_25_code (2 : Nat) (Option.some FieldType.boolean)) ∈ lw_gw := am_w 1815 (by decide +kernel) rfl
theorem w1816 : (Cond.methodLink "java/util/ArrayList" (131 : Nat) ({ cls := "java/util/ArrayList", name := "add", desc := "(Ljava/lang/Object;[Ljava/lang/Object;I)V" } : MethodName)) ∈ lw_gw := am_w 1816 (by decide +kernel) rfl
theorem w1818 : (Cond.instanceMethod ({ cls := "java/util/ArrayList", name := "add", desc := "(Ljava/lang/Object;[Ljava/lang/Object;I)V" } : MethodName)) ∈ lw_gw := am_w 1818 (by decide +kernel) rfl
theorem w1819 : (Cond.code ({ cls := "java/util/ArrayList", name := "add", desc := "(Ljava/lang/Object;[Ljava/lang/Object;I)V" } : MethodName) prog_46_method_24_code (4 : Nat) (Option.none : Option FieldType)) ∈ lw_gw := am_w 1819 (by decide +kernel) rfl
theorem w1820 : (Cond.methodLink "java/util/ArrayList" (129 : Nat) ({ cls := "java/util/ArrayList", name := "grow", desc := "()[Ljava/lang/Object;" } : MethodName)) ∈ lw_gw := am_w 1820 (by decide +kernel) rfl
theorem w1822 : (Cond.instanceMethod ({ cls := "java/util/ArrayList", name := "grow", desc := "()[Ljava/lang/Object;" } : MethodName)) ∈ lw_gw := am_w 1822 (by decide +kernel) rfl
theorem w1823 : (Cond.code ({ cls := "java/util/ArrayList", name := "grow", desc := "()[Ljava/lang/Object;" } : MethodName) prog_46_method_7_code (1 : Nat) (Option.some (FieldType.array (FieldType.object "java/lang/Object")))) ∈ lw_gw := am_w 1823 (by decide +kernel) rfl
theorem w1824 : (Cond.methodLink "java/util/ArrayList" (69 : Nat) ({ cls := "java/util/ArrayList", name := "grow", desc := "(I)[Ljava/lang/Object;" } : MethodName)) ∈ lw_gw := am_w 1824 (by decide +kernel) rfl
theorem w1826 : (Cond.instanceMethod ({ cls := "java/util/ArrayList", name := "grow", desc := "(I)[Ljava/lang/Object;" } : MethodName)) ∈ lw_gw := am_w 1826 (by decide +kernel) rfl
theorem w1827 : (Cond.code ({ cls := "java/util/ArrayList", name := "grow", desc := "(I)[Ljava/lang/Object;" } : MethodName) prog_46_method_6_code (4 : Nat) (Option.some (FieldType.array (FieldType.object "java/lang/Object")))) ∈ lw_gw := am_w 1827 (by decide +kernel) rfl
theorem w1828 : (Cond.methodLink "java/util/ArrayList" (73 : Nat) ({ cls := "jdk/internal/util/ArraysSupport", name := "newLength", desc := "(III)I" } : MethodName)) ∈ lw_gw := am_w 1828 (by decide +kernel) rfl
theorem w1829 : (Cond.methodLink "java/util/ArrayList" (66 : Nat) ({ cls := "java/util/Arrays", name := "copyOf", desc := "([Ljava/lang/Object;I)[Ljava/lang/Object;" } : MethodName)) ∈ lw_gw := am_w 1829 (by decide +kernel) rfl
theorem w1830 : (Cond.static ({ cls := "java/util/Arrays", name := "copyOf", desc := "([Ljava/lang/Object;I)[Ljava/lang/Object;" } : MethodName)) ∈ lw_gw := am_w 1830 (by decide +kernel) rfl
theorem w1831 : (Cond.code ({ cls := "java/util/Arrays", name := "copyOf", desc := "([Ljava/lang/Object;I)[Ljava/lang/Object;" } : MethodName) prog_48_method_119_code (2 : Nat) (Option.some (FieldType.array (FieldType.object "java/lang/Object")))) ∈ lw_gw := am_w 1831 (by decide +kernel) rfl
theorem w1832 : (Cond.methodLink "java/util/Arrays" (86 : Nat) ({ cls := "java/lang/Object", name := "getClass", desc := "()Ljava/lang/Class;" } : MethodName)) ∈ lw_gw := am_w 1832 (by decide +kernel) rfl
theorem w1833 : (Cond.instanceMethod ({ cls := "java/lang/Object", name := "getClass", desc := "()Ljava/lang/Class;" } : MethodName)) ∈ lw_gw := am_w 1833 (by decide +kernel) rfl
theorem w1858 : (Cond.native ({ cls := "java/lang/Object", name := "getClass", desc := "()Ljava/lang/Class;" } : MethodName)) ∈ lw_gw := am_w 1858 (by decide +kernel) rfl
theorem w1859 : (Cond.methodLink "java/util/Arrays" (300 : Nat) ({ cls := "java/util/Arrays", name := "copyOf", desc := "([Ljava/lang/Object;ILjava/lang/Class;)[Ljava/lang/Object;" } : MethodName)) ∈ lw_gw := am_w 1859 (by decide +kernel) rfl
theorem w1860 : (Cond.static ({ cls := "java/util/Arrays", name := "copyOf", desc := "([Ljava/lang/Object;ILjava/lang/Class;)[Ljava/lang/Object;" } : MethodName)) ∈ lw_gw := am_w 1860 (by decide +kernel) rfl
theorem w1861 : (Cond.code ({ cls := "java/util/Arrays", name := "copyOf", desc := "([Ljava/lang/Object;ILjava/lang/Class;)[Ljava/lang/Object;" } : MethodName) prog_48_method_120_code (4 : Nat) (Option.some (FieldType.array (FieldType.object "java/lang/Object")))) ∈ lw_gw := am_w 1861 (by decide +kernel) rfl
theorem w1862 : (Cond.classLink "java/util/Arrays" (110 : Nat) "[Ljava/lang/Object;") ∈ lw_gw := am_w 1862 (by decide +kernel) rfl
theorem w1863 : (Cond.arrayOver (FieldType.object "java/lang/Object")) ∈ lw_ng := am_ng 1863 (by decide +kernel) rfl
theorem w1864 : (Cond.classLink "java/util/Arrays" (2 : Nat) "java/lang/Object") ∈ lw_gw := am_w 1864 (by decide +kernel) rfl
theorem w1865 : (Cond.methodLink "java/util/ArrayList" (79 : Nat) ({ cls := "java/lang/Math", name := "max", desc := "(II)I" } : MethodName)) ∈ lw_gw := am_w 1865 (by decide +kernel) rfl
theorem w1866 : (Cond.classLink "java/util/ArrayList" (7 : Nat) "java/lang/Object") ∈ lw_gw := am_w 1866 (by decide +kernel) rfl
theorem w1867 : (Cond.classLink "ClockhouseModel$State" (54 : Nat) "java/lang/Integer") ∈ lw_gw := am_w 1867 (by decide +kernel) rfl
theorem w1868 : (Cond.methodLink "ClockhouseModel$State" (56 : Nat) ({ cls := "java/lang/Integer", name := "intValue", desc := "()I" } : MethodName)) ∈ lw_gw := am_w 1868 (by decide +kernel) rfl
theorem w1869 : (Cond.instanceMethod ({ cls := "java/lang/Integer", name := "intValue", desc := "()I" } : MethodName)) ∈ lw_gw := am_w 1869 (by decide +kernel) rfl
theorem w1870 : (Cond.selects "java/lang/Integer" ({ cls := "java/lang/Integer", name := "intValue", desc := "()I" } : MethodName) ({ cls := "java/lang/Integer", name := "intValue", desc := "()I" } : MethodName)) ∈ lw_gw := am_w 1870 (by decide +kernel) rfl
theorem w1871 : (Cond.code ({ cls := "java/lang/Integer", name := "intValue", desc := "()I" } : MethodName) prog_28_method_27_code (1 : Nat) (Option.some FieldType.int)) ∈ lw_gw := am_w 1871 (by decide +kernel) rfl
theorem w1872 : (Cond.methodLink "ClockhouseModel$State" (60 : Nat) ({ cls := "java/lang/Integer", name := "valueOf", desc := "(I)Ljava/lang/Integer;" } : MethodName)) ∈ lw_gw := am_w 1872 (by decide +kernel) rfl
theorem w1873 : (Cond.static ({ cls := "java/lang/Integer", name := "valueOf", desc := "(I)Ljava/lang/Integer;" } : MethodName)) ∈ lw_gw := am_w 1873 (by decide +kernel) rfl
theorem w1874 : (Cond.code ({ cls := "java/lang/Integer", name := "valueOf", desc := "(I)Ljava/lang/Integer;" } : MethodName) prog_28_method_22_code (1 : Nat) (Option.some (FieldType.object "java/lang/Integer"))) ∈ lw_gw := am_w 1874 (by decide +kernel) rfl
theorem w1875 : (Cond.fieldLink "java/lang/Integer" (191 : Nat) "java/lang/Integer$IntegerCache" "high" "I") ∈ lw_gw := am_w 1875 (by decide +kernel) rfl
theorem w1877 : (Cond.fieldLink "java/lang/Integer" (195 : Nat) "java/lang/Integer$IntegerCache" "cache" "[Ljava/lang/Integer;") ∈ lw_gw := am_w 1877 (by decide +kernel) rfl
theorem w1879 : (Cond.classLink "java/lang/Integer" (1 : Nat) "java/lang/Integer") ∈ lw_gw := am_w 1879 (by decide +kernel) rfl
theorem w1880 : (Cond.instantiable "java/lang/Integer" (1 : Nat)) ∈ lw_gw := am_w 1880 (by decide +kernel) rfl
theorem w1881 : (Cond.methodLink "java/lang/Integer" (199 : Nat) ({ cls := "java/lang/Integer", name := "<init>", desc := "(I)V" } : MethodName)) ∈ lw_gw := am_w 1881 (by decide +kernel) rfl
theorem w1882 : (Cond.instanceMethod ({ cls := "java/lang/Integer", name := "<init>", desc := "(I)V" } : MethodName)) ∈ lw_gw := am_w 1882 (by decide +kernel) rfl
theorem w1883 : (Cond.code ({ cls := "java/lang/Integer", name := "<init>", desc := "(I)V" } : MethodName) prog_28_method_23_code (2 : Nat) (Option.none : Option FieldType)) ∈ lw_gw := am_w 1883 (by decide +kernel) rfl
theorem w1884 : (Cond.methodLink "java/lang/Integer" (202 : Nat) ({ cls := "java/lang/Number", name := "<init>", desc := "()V" } : MethodName)) ∈ lw_gw := am_w 1884 (by decide +kernel) rfl
theorem w1885 : (Cond.instanceMethod ({ cls := "java/lang/Number", name := "<init>", desc := "()V" } : MethodName)) ∈ lw_gw := am_w 1885 (by decide +kernel) rfl
theorem w1886 : (Cond.code ({ cls := "java/lang/Number", name := "<init>", desc := "()V" } : MethodName) prog_33_method_1_code (1 : Nat) (Option.none : Option FieldType)) ∈ lw_gw := am_w 1886 (by decide +kernel) rfl
theorem w1887 : (Cond.methodLink "java/lang/Number" (1 : Nat) ({ cls := "java/lang/Object", name := "<init>", desc := "()V" } : MethodName)) ∈ lw_gw := am_w 1887 (by decide +kernel) rfl
theorem w1888 : (Cond.fieldLink "java/lang/Integer" (205 : Nat) "java/lang/Integer" "value" "I") ∈ lw_gw := am_w 1888 (by decide +kernel) rfl
theorem w1889 : (Cond.laysFinal "java/lang/Integer" "java/lang/Integer" "value" "I") ∈ lw_gw := am_w 1889 (by decide +kernel) rfl
theorem w1896 : (Cond.code ({ cls := "java/util/ArrayList", name := "size", desc := "()I" } : MethodName) prog_46_method_8_code (1 : Nat) (Option.some FieldType.int)) ∈ lw_gw := am_w 1896 (by decide +kernel) rfl
theorem w1900 : (Cond.code ({ cls := "java/util/ArrayList", name := "remove", desc := "(I)Ljava/lang/Object;" } : MethodName) prog_46_method_29_code (4 : Nat) (Option.some (FieldType.object "java/lang/Object"))) ∈ lw_gw := am_w 1900 (by decide +kernel) rfl
theorem w1901 : (Cond.methodLink "java/util/ArrayList" (118 : Nat) ({ cls := "java/util/Objects", name := "checkIndex", desc := "(II)I" } : MethodName)) ∈ lw_gw := am_w 1901 (by decide +kernel) rfl
theorem w1902 : (Cond.static ({ cls := "java/util/Objects", name := "checkIndex", desc := "(II)I" } : MethodName)) ∈ lw_gw := am_w 1902 (by decide +kernel) rfl
theorem w1903 : (Cond.code ({ cls := "java/util/Objects", name := "checkIndex", desc := "(II)I" } : MethodName) prog_52_method_17_code (2 : Nat) (Option.some FieldType.int)) ∈ lw_gw := am_w 1903 (by decide +kernel) rfl
theorem w1904 : (Cond.methodLink "java/util/Objects" (105 : Nat) ({ cls := "jdk/internal/util/Preconditions", name := "checkIndex", desc := "(IILjava/util/function/BiFunction;)I" } : MethodName)) ∈ lw_gw := am_w 1904 (by decide +kernel) rfl
theorem w1905 : (Cond.methodLink "java/util/ArrayList" (144 : Nat) ({ cls := "java/util/ArrayList", name := "fastRemove", desc := "([Ljava/lang/Object;I)V" } : MethodName)) ∈ lw_gw := am_w 1905 (by decide +kernel) rfl
theorem w1907 : (Cond.instanceMethod ({ cls := "java/util/ArrayList", name := "fastRemove", desc := "([Ljava/lang/Object;I)V" } : MethodName)) ∈ lw_gw := am_w 1907 (by decide +kernel) rfl
theorem w1908 : (Cond.code ({ cls := "java/util/ArrayList", name := "fastRemove", desc := "([Ljava/lang/Object;I)V" } : MethodName) prog_46_method_39_code (4 : Nat) (Option.none : Option FieldType)) ∈ lw_gw := am_w 1908 (by decide +kernel) rfl
theorem w1909 : (Cond.methodLink "java/util/ArrayList" (112 : Nat) ({ cls := "java/lang/System", name := "arraycopy", desc := "(Ljava/lang/Object;ILjava/lang/Object;II)V" } : MethodName)) ∈ lw_gw := am_w 1909 (by decide +kernel) rfl
theorem w2047 : (Cond.code ({ cls := "ClockhouseModel", name := "tried", desc := "(JJ[I)I" } : MethodName) prog_14_method_29_code (6 : Nat) (Option.some FieldType.int)) ∈ lw_gw := am_w 2047 (by decide +kernel) rfl
theorem w2050 : (Cond.code ({ cls := "ClockhouseModel", name := "common", desc := "(JI)J" } : MethodName) prog_14_method_30_code (3 : Nat) (Option.some FieldType.long)) ∈ lw_gw := am_w 2050 (by decide +kernel) rfl
theorem w2051 : (Cond.methodLink "ClockhouseModel" (157 : Nat) ({ cls := "ClockhouseModel", name := "gcdOf", desc := "(II)I" } : MethodName)) ∈ lw_gw := am_w 2051 (by decide +kernel) rfl
theorem w2052 : (Cond.static ({ cls := "ClockhouseModel", name := "gcdOf", desc := "(II)I" } : MethodName)) ∈ lw_gw := am_w 2052 (by decide +kernel) rfl
theorem w2053 : (Cond.code ({ cls := "ClockhouseModel", name := "gcdOf", desc := "(II)I" } : MethodName) prog_14_method_8_code (4 : Nat) (Option.some FieldType.int)) ∈ lw_gw := am_w 2053 (by decide +kernel) rfl
theorem w2077 : (Cond.code ({ cls := "java/util/ArrayList", name := "isEmpty", desc := "()Z" } : MethodName) prog_46_method_9_code (1 : Nat) (Option.some FieldType.boolean)) ∈ lw_gw := am_w 2077 (by decide +kernel) rfl
theorem w2117 : (Cond.code ({ cls := "ClockhouseModel$Num", name := "wide", desc := "()[I" } : MethodName) prog_15_method_12_code (3 : Nat) (Option.some (FieldType.array FieldType.int))) ∈ lw_gw := am_w 2117 (by decide +kernel) rfl
theorem w2120 : (Cond.code ({ cls := "ClockhouseModel$Num", name := "euclid", desc := "([I[I)[[I" } : MethodName) prog_15_method_20_code (8 : Nat) (Option.some (FieldType.array (FieldType.array FieldType.int)))) ∈ lw_gw := am_w 2120 (by decide +kernel) rfl
theorem w2121 : (Cond.methodLink "ClockhouseModel$Num" (70 : Nat) ({ cls := "ClockhouseModel$Num", name := "places", desc := "([I)I" } : MethodName)) ∈ lw_gw := am_w 2121 (by decide +kernel) rfl
theorem w2122 : (Cond.static ({ cls := "ClockhouseModel$Num", name := "places", desc := "([I)I" } : MethodName)) ∈ lw_gw := am_w 2122 (by decide +kernel) rfl
theorem w2123 : (Cond.code ({ cls := "ClockhouseModel$Num", name := "places", desc := "([I)I" } : MethodName) prog_15_method_13_code (2 : Nat) (Option.some FieldType.int)) ∈ lw_gw := am_w 2123 (by decide +kernel) rfl
theorem w2124 : (Cond.methodLink "ClockhouseModel$Num" (58 : Nat) ({ cls := "ClockhouseModel$Num", name := "isLess", desc := "([I[II)Z" } : MethodName)) ∈ lw_gw := am_w 2124 (by decide +kernel) rfl
theorem w2125 : (Cond.static ({ cls := "ClockhouseModel$Num", name := "isLess", desc := "([I[II)Z" } : MethodName)) ∈ lw_gw := am_w 2125 (by decide +kernel) rfl
theorem w2126 : (Cond.code ({ cls := "ClockhouseModel$Num", name := "isLess", desc := "([I[II)Z" } : MethodName) prog_15_method_14_code (5 : Nat) (Option.some FieldType.boolean)) ∈ lw_gw := am_w 2126 (by decide +kernel) rfl
theorem w2127 : (Cond.methodLink "ClockhouseModel$Num" (62 : Nat) ({ cls := "ClockhouseModel$Num", name := "change", desc := "([I[III)V" } : MethodName)) ∈ lw_gw := am_w 2127 (by decide +kernel) rfl
theorem w2128 : (Cond.static ({ cls := "ClockhouseModel$Num", name := "change", desc := "([I[III)V" } : MethodName)) ∈ lw_gw := am_w 2128 (by decide +kernel) rfl
theorem w2129 : (Cond.code ({ cls := "ClockhouseModel$Num", name := "change", desc := "([I[III)V" } : MethodName) prog_15_method_15_code (7 : Nat) (Option.none : Option FieldType)) ∈ lw_gw := am_w 2129 (by decide +kernel) rfl
theorem w2130 : (Cond.classLink "ClockhouseModel$Num" (75 : Nat) "[I") ∈ lw_gw := am_w 2130 (by decide +kernel) rfl
theorem w2131 : (Cond.arrayOver (FieldType.array FieldType.int)) ∈ lw_ng := am_ng 2131 (by decide +kernel) rfl
theorem w2259 : (Cond.code ({ cls := "ClockhouseModel", name := "powersOf", desc := "(I)[I" } : MethodName) prog_14_method_66_code (7 : Nat) (Option.some (FieldType.array FieldType.int))) ∈ lw_gw := am_w 2259 (by decide +kernel) rfl
theorem w2329 : (Cond.code ({ cls := "java/util/ArrayList", name := "get", desc := "(I)Ljava/lang/Object;" } : MethodName) prog_46_method_20_code (2 : Nat) (Option.some (FieldType.object "java/lang/Object"))) ∈ lw_gw := am_w 2329 (by decide +kernel) rfl
theorem w2330 : (Cond.methodLink "java/util/ArrayList" (123 : Nat) ({ cls := "java/util/ArrayList", name := "elementData", desc := "(I)Ljava/lang/Object;" } : MethodName)) ∈ lw_gw := am_w 2330 (by decide +kernel) rfl
theorem w2331 : (Cond.instanceMethod ({ cls := "java/util/ArrayList", name := "elementData", desc := "(I)Ljava/lang/Object;" } : MethodName)) ∈ lw_gw := am_w 2331 (by decide +kernel) rfl
theorem w2332 : (Cond.selects "java/util/ArrayList" ({ cls := "java/util/ArrayList", name := "elementData", desc := "(I)Ljava/lang/Object;" } : MethodName) ({ cls := "java/util/ArrayList", name := "elementData", desc := "(I)Ljava/lang/Object;" } : MethodName)) ∈ lw_gw := am_w 2332 (by decide +kernel) rfl
theorem w2333 : (Cond.code ({ cls := "java/util/ArrayList", name := "elementData", desc := "(I)Ljava/lang/Object;" } : MethodName) prog_46_method_18_code (2 : Nat) (Option.some (FieldType.object "java/lang/Object"))) ∈ lw_gw := am_w 2333 (by decide +kernel) rfl
theorem w2498 : (Cond.castable "java/lang/Integer" "java/lang/Object") ∈ lw_ng := am_ng 2498 (by decide +kernel) rfl
theorem w2508 : (Cond.castable "ClockhouseModel$State" "java/lang/Object") ∈ lw_ng := am_ng 2508 (by decide +kernel) rfl
theorem w2520 : (Cond.selects "[Ljava/lang/Object;" ({ cls := "java/lang/Object", name := "getClass", desc := "()Ljava/lang/Class;" } : MethodName) ({ cls := "java/lang/Object", name := "getClass", desc := "()Ljava/lang/Class;" } : MethodName)) ∈ lw_gw := am_w 2520 (by decide +kernel) rfl
theorem w2521 : (Cond.declares ({ cls := "java/lang/Object", name := "getClass", desc := "()Ljava/lang/Class;" } : MethodName)) ∈ lw_ng := am_ng 2521 (by decide +kernel) rfl
theorem w2523 : (Cond.castable "[I" "java/lang/Object") ∈ lw_ng := am_ng 2523 (by decide +kernel) rfl
