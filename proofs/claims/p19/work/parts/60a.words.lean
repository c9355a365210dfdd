/-! MORE WORDS -/
theorem w34 : (Cond.selects "java/util/ArrayList" ({ cls := "java/util/ArrayList", name := "add", desc := "(Ljava/lang/Object;[Ljava/lang/Object;I)V" } : MethodName) ({ cls := "java/util/ArrayList", name := "add", desc := "(Ljava/lang/Object;[Ljava/lang/Object;I)V" } : MethodName)) ∈ lw_gw := am_w 34 (by decide +kernel) rfl
theorem w35 : (Cond.selects "java/util/ArrayList" ({ cls := "java/util/ArrayList", name := "grow", desc := "()[Ljava/lang/Object;" } : MethodName) ({ cls := "java/util/ArrayList", name := "grow", desc := "()[Ljava/lang/Object;" } : MethodName)) ∈ lw_gw := am_w 35 (by decide +kernel) rfl
theorem w36 : (Cond.selects "java/util/ArrayList" ({ cls := "java/util/ArrayList", name := "grow", desc := "(I)[Ljava/lang/Object;" } : MethodName) ({ cls := "java/util/ArrayList", name := "grow", desc := "(I)[Ljava/lang/Object;" } : MethodName)) ∈ lw_gw := am_w 36 (by decide +kernel) rfl
theorem w37 : (Cond.selects "java/util/ArrayList" ({ cls := "java/util/ArrayList", name := "fastRemove", desc := "([Ljava/lang/Object;I)V" } : MethodName) ({ cls := "java/util/ArrayList", name := "fastRemove", desc := "([Ljava/lang/Object;I)V" } : MethodName)) ∈ lw_gw := am_w 37 (by decide +kernel) rfl
theorem w98 : (Cond.initialized "java/util/ArrayList") ∈ lw_gw := am_w 98 (by decide +kernel) rfl
theorem w112 : (Cond.initialized "java/util/Objects") ∈ lw_gw := am_w 112 (by decide +kernel) rfl
theorem w113 : (Cond.initialized "jdk/internal/util/Preconditions") ∈ lw_gw := am_w 113 (by decide +kernel) rfl
theorem w845 : (Cond.static ({ cls := "jdk/internal/util/Preconditions", name := "checkIndex", desc := "(IILjava/util/function/BiFunction;)I" } : MethodName)) ∈ lw_gw := am_w 845 (by decide +kernel) rfl
theorem w846 : (Cond.code ({ cls := "jdk/internal/util/Preconditions", name := "checkIndex", desc := "(IILjava/util/function/BiFunction;)I" } : MethodName) prog_56_method_11_code (3 : Nat) (Option.some FieldType.int)) ∈ lw_gw := am_w 846 (by decide +kernel) rfl
theorem w1680 : (Cond.fieldLink "java/util/ArrayList" (39 : Nat) "java/util/ArrayList" "DEFAULTCAPACITY_EMPTY_ELEMENTDATA" "[Ljava/lang/Object;") ∈ lw_gw := am_w 1680 (by decide +kernel) rfl
theorem w1682 : (Cond.fieldLink "java/util/ArrayList" (9 : Nat) "java/util/ArrayList" "elementData" "[Ljava/lang/Object;") ∈ lw_gw := am_w 1682 (by decide +kernel) rfl
theorem w1685 : (Cond.fieldLink "java/util/ArrayList" (48 : Nat) "java/util/ArrayList" "size" "I") ∈ lw_gw := am_w 1685 (by decide +kernel) rfl
theorem w1688 : (Cond.sameField "java/util/ArrayList" "java/util/AbstractList" "modCount" "I") ∈ lw_gw := am_w 1688 (by decide +kernel) rfl
theorem w1689 : (Cond.fieldLink "java/util/ArrayList" (63 : Nat) "java/util/ArrayList" "modCount" "I") ∈ lw_gw := am_w 1689 (by decide +kernel) rfl
theorem w1690 : (Cond.lays "java/util/ArrayList" "java/util/ArrayList" "elementData" "[Ljava/lang/Object;") ∈ lw_gw := am_w 1690 (by decide +kernel) rfl
theorem w1692 : (Cond.lays "java/util/ArrayList" "java/util/ArrayList" "size" "I") ∈ lw_gw := am_w 1692 (by decide +kernel) rfl
theorem w1694 : (Cond.lays "java/util/ArrayList" "java/util/AbstractList" "modCount" "I") ∈ lw_gw := am_w 1694 (by decide +kernel) rfl
theorem w1815 : (Cond.code ({ cls := "java/util/ArrayList", name := "add", desc := "(Ljava/lang/Object;)Z" } : MethodName) prog_46_method_25_code (2 : Nat) (Option.some FieldType.boolean)) ∈ lw_gw := am_w 1815 (by decide +kernel) rfl
theorem w1816 : (Cond.methodLink "java/util/ArrayList" (131 : Nat) ({ cls := "java/util/ArrayList", name := "add", desc := "(Ljava/lang/Object;[Ljava/lang/Object;I)V" } : MethodName)) ∈ lw_gw := am_w 1816 (by decide +kernel) rfl
theorem w1818 : (Cond.instanceMethod ({ cls := "java/util/ArrayList", name := "add", desc := "(Ljava/lang/Object;[Ljava/lang/Object;I)V" } : MethodName)) ∈ lw_gw := am_w 1818 (by decide +kernel) rfl
theorem w1819 : (Cond.code ({ cls := "java/util/ArrayList", name := "add", desc := "(Ljava/lang/Object;[Ljava/lang/Object;I)V" } : MethodName) prog_46_method_24_code (4 : Nat) (Option.none : Option FieldType)) ∈ lw_gw := am_w 1819 (by decide +kernel) rfl
theorem w1820 : (Cond.methodLink "java/util/ArrayList" (129 : Nat) ({ cls := "java/util/ArrayList", name := "grow", desc := "()[Ljava/lang/Object;" } : MethodName)) ∈ lw_gw := am_w 1820 (by decide +kernel) rfl
theorem w1822 : (Cond.instanceMethod ({ cls := "java/util/ArrayList", name := "grow", desc := "()[Ljava/lang/Object;" } : MethodName)) ∈ lw_gw := am_w 1822 (by decide +kernel) rfl
theorem w1823 : (Cond.code ({ cls := "java/util/ArrayList", name := "grow", desc := "()[Ljava/lang/Object;" } : MethodName) prog_46_method_7_code (1 : Nat) (Option.some (FieldType.array (FieldType.object "java/lang/Object")))) ∈ lw_gw := am_w 1823 (by decide +kernel) rfl
theorem w1824 : (Cond.methodLink "java/util/ArrayList" (69 : Nat) ({ cls := "java/util/ArrayList", name := "grow", desc := "(I)[Ljava/lang/Object;" } : MethodName)) ∈ lw_gw := am_w 1824 (by decide +kernel) rfl
theorem w1826 : (Cond.instanceMethod ({ cls := "java/util/ArrayList", name := "grow", desc := "(I)[Ljava/lang/Object;" } : MethodName)) ∈ lw_gw := am_w 1826 (by decide +kernel) rfl
theorem w1827 : (Cond.code ({ cls := "java/util/ArrayList", name := "grow", desc := "(I)[Ljava/lang/Object;" } : MethodName) prog_46_method_6_code (4 : Nat) (Option.some (FieldType.array (FieldType.object "java/lang/Object")))) ∈ lw_gw := am_w 1827 (by decide +kernel) rfl
theorem w1828 : (Cond.methodLink "java/util/ArrayList" (73 : Nat) ({ cls := "jdk/internal/util/ArraysSupport", name := "newLength", desc := "(III)I" } : MethodName)) ∈ lw_gw := am_w 1828 (by decide +kernel) rfl
theorem w1829 : (Cond.methodLink "java/util/ArrayList" (66 : Nat) ({ cls := "java/util/Arrays", name := "copyOf", desc := "([Ljava/lang/Object;I)[Ljava/lang/Object;" } : MethodName)) ∈ lw_gw := am_w 1829 (by decide +kernel) rfl
theorem w1830 : (Cond.static ({ cls := "java/util/Arrays", name := "copyOf", desc := "([Ljava/lang/Object;I)[Ljava/lang/Object;" } : MethodName)) ∈ lw_gw := am_w 1830 (by decide +kernel) rfl
theorem w1831 : (Cond.code ({ cls := "java/util/Arrays", name := "copyOf", desc := "([Ljava/lang/Object;I)[Ljava/lang/Object;" } : MethodName) prog_48_method_119_code (2 : Nat) (Option.some (FieldType.array (FieldType.object "java/lang/Object")))) ∈ lw_gw := am_w 1831 (by decide +kernel) rfl
theorem w1832 : (Cond.methodLink "java/util/Arrays" (86 : Nat) ({ cls := "java/lang/Object", name := "getClass", desc := "()Ljava/lang/Class;" } : MethodName)) ∈ lw_gw := am_w 1832 (by decide +kernel) rfl
theorem w1833 : (Cond.instanceMethod ({ cls := "java/lang/Object", name := "getClass", desc := "()Ljava/lang/Class;" } : MethodName)) ∈ lw_gw := am_w 1833 (by decide +kernel) rfl
theorem w1858 : (Cond.native ({ cls := "java/lang/Object", name := "getClass", desc := "()Ljava/lang/Class;" } : MethodName)) ∈ lw_gw := am_w 1858 (by decide +kernel) rfl
theorem w1859 : (Cond.methodLink "java/util/Arrays" (300 : Nat) ({ cls := "java/util/Arrays", name := "copyOf", desc := "([Ljava/lang/Object;ILjava/lang/Class;)[Ljava/lang/Object;" } : MethodName)) ∈ lw_gw := am_w 1859 (by decide +kernel) rfl
theorem w1860 : (Cond.static ({ cls := "java/util/Arrays", name := "copyOf", desc := "([Ljava/lang/Object;ILjava/lang/Class;)[Ljava/lang/Object;" } : MethodName)) ∈ lw_gw := am_w 1860 (by decide +kernel) rfl
theorem w1861 : (Cond.code ({ cls := "java/util/Arrays", name := "copyOf", desc := "([Ljava/lang/Object;ILjava/lang/Class;)[Ljava/lang/Object;" } : MethodName) prog_48_method_120_code (4 : Nat) (Option.some (FieldType.array (FieldType.object "java/lang/Object")))) ∈ lw_gw := am_w 1861 (by decide +kernel) rfl
theorem w1862 : (Cond.classLink "java/util/Arrays" (110 : Nat) "[Ljava/lang/Object;") ∈ lw_gw := am_w 1862 (by decide +kernel) rfl
theorem w1863 : (Cond.arrayOver (FieldType.object "java/lang/Object")) ∈ lw_ng := am_ng 1863 (by decide +kernel) rfl
theorem w1864 : (Cond.classLink "java/util/Arrays" (2 : Nat) "java/lang/Object") ∈ lw_gw := am_w 1864 (by decide +kernel) rfl
theorem w1865 : (Cond.methodLink "java/util/ArrayList" (79 : Nat) ({ cls := "java/lang/Math", name := "max", desc := "(II)I" } : MethodName)) ∈ lw_gw := am_w 1865 (by decide +kernel) rfl
theorem w1866 : (Cond.classLink "java/util/ArrayList" (7 : Nat) "java/lang/Object") ∈ lw_gw := am_w 1866 (by decide +kernel) rfl
theorem w1900 : (Cond.code ({ cls := "java/util/ArrayList", name := "remove", desc := "(I)Ljava/lang/Object;" } : MethodName) prog_46_method_29_code (4 : Nat) (Option.some (FieldType.object "java/lang/Object"))) ∈ lw_gw := am_w 1900 (by decide +kernel) rfl
theorem w1901 : (Cond.methodLink "java/util/ArrayList" (118 : Nat) ({ cls := "java/util/Objects", name := "checkIndex", desc := "(II)I" } : MethodName)) ∈ lw_gw := am_w 1901 (by decide +kernel) rfl
theorem w1902 : (Cond.static ({ cls := "java/util/Objects", name := "checkIndex", desc := "(II)I" } : MethodName)) ∈ lw_gw := am_w 1902 (by decide +kernel) rfl
theorem w1903 : (Cond.code ({ cls := "java/util/Objects", name := "checkIndex", desc := "(II)I" } : MethodName) prog_52_method_17_code (2 : Nat) (Option.some FieldType.int)) ∈ lw_gw := am_w 1903 (by decide +kernel) rfl
theorem w1904 : (Cond.methodLink "java/util/Objects" (105 : Nat) ({ cls := "jdk/internal/util/Preconditions", name := "checkIndex", desc := "(IILjava/util/function/BiFunction;)I" } : MethodName)) ∈ lw_gw := am_w 1904 (by decide +kernel) rfl
theorem w1905 : (Cond.methodLink "java/util/ArrayList" (144 : Nat) ({ cls := "java/util/ArrayList", name := "fastRemove", desc := "([Ljava/lang/Object;I)V" } : MethodName)) ∈ lw_gw := am_w 1905 (by decide +kernel) rfl
theorem w1907 : (Cond.instanceMethod ({ cls := "java/util/ArrayList", name := "fastRemove", desc := "([Ljava/lang/Object;I)V" } : MethodName)) ∈ lw_gw := am_w 1907 (by decide +kernel) rfl
theorem w1908 : (Cond.code ({ cls := "java/util/ArrayList", name := "fastRemove", desc := "([Ljava/lang/Object;I)V" } : MethodName) prog_46_method_39_code (4 : Nat) (Option.none : Option FieldType)) ∈ lw_gw := am_w 1908 (by decide +kernel) rfl
theorem w1909 : (Cond.methodLink "java/util/ArrayList" (112 : Nat) ({ cls := "java/lang/System", name := "arraycopy", desc := "(Ljava/lang/Object;ILjava/lang/Object;II)V" } : MethodName)) ∈ lw_gw := am_w 1909 (by decide +kernel) rfl
theorem w2498 : (Cond.castable "java/lang/Integer" "java/lang/Object") ∈ lw_ng := am_ng 2498 (by decide +kernel) rfl
theorem w2508 : (Cond.castable "ClockhouseModel$State" "java/lang/Object") ∈ lw_ng := am_ng 2508 (by decide +kernel) rfl
theorem w2520 : (Cond.selects "[Ljava/lang/Object;" ({ cls := "java/lang/Object", name := "getClass", desc := "()Ljava/lang/Class;" } : MethodName) ({ cls := "java/lang/Object", name := "getClass", desc := "()Ljava/lang/Class;" } : MethodName)) ∈ lw_gw := am_w 2520 (by decide +kernel) rfl
theorem w2521 : (Cond.declares ({ cls := "java/lang/Object", name := "getClass", desc := "()Ljava/lang/Class;" } : MethodName)) ∈ lw_ng := am_ng 2521 (by decide +kernel) rfl
theorem w2523 : (Cond.castable "[I" "java/lang/Object") ∈ lw_ng := am_ng 2523 (by decide +kernel) rfl
