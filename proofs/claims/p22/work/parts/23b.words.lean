theorem kn_190 : Cond.privateMethod yJ5_ensureCapacityInternal_d00df ∈ tables_1 := List.mem_of_getElem? (i := 190) (by decide +kernel)
theorem kn_194 : Cond.privateMethod yJ5_newCapacity_0f7a4 ∈ tables_1 := List.mem_of_getElem? (i := 194) (by decide +kernel)
theorem kn_216 : Cond.castable "[B" RJx8e188 ∈ tables_1 := List.mem_of_getElem? (i := 216) (by decide +kernel)
theorem kn_233 : Cond.privateMethod yJ5_inflate_da8c8 ∈ tables_1 := List.mem_of_getElem? (i := 233) (by decide +kernel)
theorem kn_353 : Cond.castable "java/lang/IllegalArgumentException" "java/lang/IllegalArgumentException" ∈ tables_1 := List.mem_of_getElem? (i := 353) (by decide +kernel)
theorem kn_390 : Cond.privateMethod ⟨"java/lang/Throwable", "fillInStackTrace", "(I)Ljava/lang/Throwable;"⟩ ∈ tables_1 := List.mem_of_getElem? (i := 390) (by decide +kernel)
theorem kn_406 : Cond.privateMethod yJ5_appendNull_278bc ∈ tables_1 := List.mem_of_getElem? (i := 406) (by decide +kernel)
theorem kn_422 : Cond.privateMethod yJ5_putStringAt_47b60 ∈ tables_1 := List.mem_of_getElem? (i := 422) (by decide +kernel)
theorem kn_426 : Cond.privateMethod yJ5_inflateIfNeededFor_a7421 ∈ tables_1 := List.mem_of_getElem? (i := 426) (by decide +kernel)
theorem kn_522 : Cond.privateMethod yX3_writeRounded ∈ tables_1 := List.mem_of_getElem? (i := 522) (by decide +kernel)
theorem kn_560 : Cond.privateMethod yX3_isFoldSound ∈ tables_1 := List.mem_of_getElem? (i := 560) (by decide +kernel)
theorem kn_585 : Cond.privateMethod yX3_areNeighboursSound ∈ tables_1 := List.mem_of_getElem? (i := 585) (by decide +kernel)
theorem kn_610 : Cond.privateMethod yX3_isTreeSound ∈ tables_1 := List.mem_of_getElem? (i := 610) (by decide +kernel)
theorem kn_618 : Cond.privateMethod yX3_stepDown ∈ tables_1 := List.mem_of_getElem? (i := 618) (by decide +kernel)
theorem kn_632 : Cond.privateMethod yX3_stepUp ∈ tables_1 := List.mem_of_getElem? (i := 632) (by decide +kernel)
theorem kn_648 : Cond.privateMethod yX3_areSoundInPairs ∈ tables_1 := List.mem_of_getElem? (i := 648) (by decide +kernel)
theorem kn_675 : Cond.privateMethod yX3_countOf ∈ tables_1 := List.mem_of_getElem? (i := 675) (by decide +kernel)
theorem kn_679 : Cond.privateMethod yX3_wholeCount ∈ tables_1 := List.mem_of_getElem? (i := 679) (by decide +kernel)
theorem kn_687 : Cond.privateMethod yX3_mixedWithRatio ∈ tables_1 := List.mem_of_getElem? (i := 687) (by decide +kernel)
theorem kn_695 : Cond.privateMethod yX3_depthOf ∈ tables_1 := List.mem_of_getElem? (i := 695) (by decide +kernel)
theorem kn_746 : Cond.castable RJx00060 RJx00060 ∈ tables_1 := List.mem_of_getElem? (i := 746) (by decide +kernel)
theorem kn_772 : Cond.privateMethod yX3_writeWay ∈ tables_1 := List.mem_of_getElem? (i := 772) (by decide +kernel)
theorem kn_779 : Cond.privateMethod yX3_mixedWithPairs ∈ tables_1 := List.mem_of_getElem? (i := 779) (by decide +kernel)
theorem kn_783 : Cond.privateMethod yX3_mixedWithTally ∈ tables_1 := List.mem_of_getElem? (i := 783) (by decide +kernel)
theorem kn_810 : Cond.privateMethod yX3_ratioAt ∈ tables_1 := List.mem_of_getElem? (i := 810) (by decide +kernel)
theorem kn_815 : Cond.castable "java/lang/IndexOutOfBoundsException" "java/lang/IndexOutOfBoundsException" ∈ tables_1 := List.mem_of_getElem? (i := 815) (by decide +kernel)
theorem kn_831 : Cond.privateMethod yX3_settle ∈ tables_1 := List.mem_of_getElem? (i := 831) (by decide +kernel)
theorem kn_841 : Cond.privateMethod yX3_refuse ∈ tables_1 := List.mem_of_getElem? (i := 841) (by decide +kernel)
theorem kn_1014 : Cond.castable "java/lang/IllegalStateException" "java/lang/IllegalStateException" ∈ tables_1 := List.mem_of_getElem? (i := 1014) (by decide +kernel)
theorem kn_1050 : Cond.privateMethod yX3_takeNeighbour ∈ tables_1 := List.mem_of_getElem? (i := 1050) (by decide +kernel)
theorem kn_1068 : Cond.privateMethod yX3_isLowerBetter ∈ tables_1 := List.mem_of_getElem? (i := 1068) (by decide +kernel)
theorem kn_1252 : Cond.privateMethod yX5_fails ∈ tables_1 := List.mem_of_getElem? (i := 1252) (by decide +kernel)
theorem kn_1256 : Cond.privateMethod yX5_become ∈ tables_1 := List.mem_of_getElem? (i := 1256) (by decide +kernel)
theorem kn_1265 : Cond.privateMethod yX5_no ∈ tables_1 := List.mem_of_getElem? (i := 1265) (by decide +kernel)
theorem kn_1388 : Cond.privateMethod yX5_partNow ∈ tables_1 := List.mem_of_getElem? (i := 1388) (by decide +kernel)
theorem kn_1404 : Cond.privateMethod yX5_areNextNow ∈ tables_1 := List.mem_of_getElem? (i := 1404) (by decide +kernel)
theorem kn_1439 : Cond.privateMethod yJx4a65c_add_72be8 ∈ tables_1 := List.mem_of_getElem? (i := 1439) (by decide +kernel)
theorem kn_1443 : Cond.privateMethod yJx4a65c_grow_d5877 ∈ tables_1 := List.mem_of_getElem? (i := 1443) (by decide +kernel)
theorem kn_1447 : Cond.privateMethod yJx4a65c_grow_92f84 ∈ tables_1 := List.mem_of_getElem? (i := 1447) (by decide +kernel)
theorem kn_1513 : Cond.castable RJx35411 RJx4d0d8 ∈ tables_1 := List.mem_of_getElem? (i := 1513) (by decide +kernel)
theorem kn_1602 : Cond.privateMethod yJx4a65c_fastRemove_b59b0 ∈ tables_1 := List.mem_of_getElem? (i := 1602) (by decide +kernel)
theorem kn_1611 : Cond.privateMethod yX5_rowNow ∈ tables_1 := List.mem_of_getElem? (i := 1611) (by decide +kernel)
theorem kn_1671 : Cond.privateMethod yX5_depthNow ∈ tables_1 := List.mem_of_getElem? (i := 1671) (by decide +kernel)
theorem kn_1679 : Cond.privateMethod yX5_wayNow ∈ tables_1 := List.mem_of_getElem? (i := 1679) (by decide +kernel)
theorem kn_1701 : Cond.privateMethod yX5_cutNow ∈ tables_1 := List.mem_of_getElem? (i := 1701) (by decide +kernel)
theorem kn_1772 : Cond.privateMethod yX5_roundedNow ∈ tables_1 := List.mem_of_getElem? (i := 1772) (by decide +kernel)
theorem kn_1780 : Cond.privateMethod yX5_errorNow ∈ tables_1 := List.mem_of_getElem? (i := 1780) (by decide +kernel)
theorem kn_1792 : Cond.privateMethod yX5_houseNow ∈ tables_1 := List.mem_of_getElem? (i := 1792) (by decide +kernel)
theorem kn_1822 : Cond.castable RJx00060 "java/lang/IndexOutOfBoundsException" ∈ tables_1 := List.mem_of_getElem? (i := 1822) (by decide +kernel)
theorem kn_1823 : Cond.castable RJx7c733 "java/lang/IndexOutOfBoundsException" ∈ tables_1 := List.mem_of_getElem? (i := 1823) (by decide +kernel)
theorem kn_1824 : Cond.castable RX0 "java/lang/Object" ∈ tables_1 := List.mem_of_getElem? (i := 1824) (by decide +kernel)
theorem kn_1825 : Cond.castable RJ13 "java/lang/Object" ∈ tables_1 := List.mem_of_getElem? (i := 1825) (by decide +kernel)
theorem kn_1826 : Cond.castable RJ6 "java/lang/Object" ∈ tables_1 := List.mem_of_getElem? (i := 1826) (by decide +kernel)
theorem kn_1827 : Cond.castable RX3 "java/lang/Object" ∈ tables_1 := List.mem_of_getElem? (i := 1827) (by decide +kernel)
theorem kn_1828 : Cond.castable RX2 "java/lang/Object" ∈ tables_1 := List.mem_of_getElem? (i := 1828) (by decide +kernel)
theorem kn_1829 : Cond.castable RX1 "java/lang/Object" ∈ tables_1 := List.mem_of_getElem? (i := 1829) (by decide +kernel)
theorem kn_1830 : Cond.castable RX5 "java/lang/Object" ∈ tables_1 := List.mem_of_getElem? (i := 1830) (by decide +kernel)
theorem kn_1831 : Cond.castable RJx4a65c "java/lang/Object" ∈ tables_1 := List.mem_of_getElem? (i := 1831) (by decide +kernel)
theorem kn_1832 : Cond.castable RX4 "java/lang/Object" ∈ tables_1 := List.mem_of_getElem? (i := 1832) (by decide +kernel)
theorem kn_1833 : Cond.castable "java/lang/IndexOutOfBoundsException" "java/lang/Object" ∈ tables_1 := List.mem_of_getElem? (i := 1833) (by decide +kernel)
theorem kn_1834 : Cond.castable "java/lang/IllegalArgumentException" "java/lang/Object" ∈ tables_1 := List.mem_of_getElem? (i := 1834) (by decide +kernel)
theorem kn_1835 : Cond.castable RJ4 "java/lang/Object" ∈ tables_1 := List.mem_of_getElem? (i := 1835) (by decide +kernel)
theorem kn_1836 : Cond.castable RJ0 "java/lang/Object" ∈ tables_1 := List.mem_of_getElem? (i := 1836) (by decide +kernel)
theorem kn_1837 : Cond.castable RJx35411 "java/lang/Object" ∈ tables_1 := List.mem_of_getElem? (i := 1837) (by decide +kernel)
theorem kn_1838 : Cond.castable "java/lang/IllegalStateException" "java/lang/Object" ∈ tables_1 := List.mem_of_getElem? (i := 1838) (by decide +kernel)
theorem kn_1839 : Cond.castable RJx7c733 "java/lang/Object" ∈ tables_1 := List.mem_of_getElem? (i := 1839) (by decide +kernel)
theorem kn_1840 : Cond.castable RJx00060 "java/lang/Object" ∈ tables_1 := List.mem_of_getElem? (i := 1840) (by decide +kernel)
theorem kn_1841 : Cond.castable "java/lang/Throwable" "java/lang/Object" ∈ tables_1 := List.mem_of_getElem? (i := 1841) (by decide +kernel)
theorem kn_1845 : Cond.castable "[LBestratios$Fraction;" "java/lang/Object" ∈ tables_1 := List.mem_of_getElem? (i := 1845) (by decide +kernel)
theorem kn_1846 : Cond.castable "[J" "java/lang/Object" ∈ tables_1 := List.mem_of_getElem? (i := 1846) (by decide +kernel)
theorem kn_1847 : Cond.castable "[B" "java/lang/Object" ∈ tables_1 := List.mem_of_getElem? (i := 1847) (by decide +kernel)
theorem kn_1848 : Cond.castable "[[J" "java/lang/Object" ∈ tables_1 := List.mem_of_getElem? (i := 1848) (by decide +kernel)
theorem kn_1849 : Cond.castable "[Ljava/lang/Object;" "java/lang/Object" ∈ tables_1 := List.mem_of_getElem? (i := 1849) (by decide +kernel)
theorem kn_1850 : Cond.castable "[I" "java/lang/Object" ∈ tables_1 := List.mem_of_getElem? (i := 1850) (by decide +kernel)
theorem kw_60 : Cond.superclass RX0 "java/lang/Object" ∈ GW := gw_t 60 (by decide +kernel) rfl
theorem kw_74 : Cond.superclass RX2 "java/lang/Object" ∈ GW := gw_t 74 (by decide +kernel) rfl
theorem kw_113 : Cond.superclass RX1 "java/lang/Object" ∈ GW := gw_t 113 (by decide +kernel) rfl
theorem kw_141 : Cond.superclass RX3 "java/lang/Object" ∈ GW := gw_t 141 (by decide +kernel) rfl
theorem kw_180 : Cond.superclass RJ4 RJ5 ∈ GW := gw_t 180 (by decide +kernel) rfl
theorem kw_212 : Cond.sameMethod "[B" "java/lang/Object" "clone" "()Ljava/lang/Object;" ∈ GW := gw_t 212 (by decide +kernel) rfl
theorem kw_213 : Cond.native ⟨"java/lang/Object", "clone", "()Ljava/lang/Object;"⟩ ∈ GW := gw_t 213 (by decide +kernel) rfl
theorem kw_223 : Cond.native ⟨"java/lang/System", "arraycopy", "(Ljava/lang/Object;ILjava/lang/Object;II)V"⟩ ∈ GW := gw_t 223 (by decide +kernel) rfl
theorem kw_226 : Cond.sameMethod RJ5 RJ5 "isLatin1" "()Z" ∈ GW := gw_t 226 (by decide +kernel) rfl
theorem kw_330 : Cond.sameMethod RJ5 RJ5 "getValue" "()[B" ∈ GW := gw_t 330 (by decide +kernel) rfl
theorem kw_335 : Cond.sameMethod RJ5 RJ5 "length" "()I" ∈ GW := gw_t 335 (by decide +kernel) rfl
theorem kw_373 : Cond.superclass "java/lang/Throwable" "java/lang/Object" ∈ GW := gw_t 373 (by decide +kernel) rfl
theorem kw_383 : Cond.sameMethod "java/lang/Throwable" "java/lang/Throwable" "fillInStackTrace" "()Ljava/lang/Throwable;" ∈ GW := gw_t 383 (by decide +kernel) rfl
theorem kw_393 : Cond.native ⟨"java/lang/Throwable", "fillInStackTrace", "(I)Ljava/lang/Throwable;"⟩ ∈ GW := gw_t 393 (by decide +kernel) rfl
theorem kw_461 : Cond.superclass "java/lang/IllegalArgumentException" "java/lang/RuntimeException" ∈ GW := gw_t 461 (by decide +kernel) rfl
theorem kw_485 : Cond.superclass RJ0 "java/lang/Object" ∈ GW := gw_t 485 (by decide +kernel) rfl
theorem kw_731 : Cond.superclass RJx7c733 "java/lang/IndexOutOfBoundsException" ∈ GW := gw_t 731 (by decide +kernel) rfl
theorem kw_766 : Cond.superclass RJx00060 "java/lang/IndexOutOfBoundsException" ∈ GW := gw_t 766 (by decide +kernel) rfl
theorem kw_799 : Cond.superclass RX4 "java/lang/Object" ∈ GW := gw_t 799 (by decide +kernel) rfl
theorem kw_825 : Cond.superclass "java/lang/IndexOutOfBoundsException" "java/lang/RuntimeException" ∈ GW := gw_t 825 (by decide +kernel) rfl
theorem kw_1027 : Cond.superclass "java/lang/IllegalStateException" "java/lang/RuntimeException" ∈ GW := gw_t 1027 (by decide +kernel) rfl
theorem kw_1190 : Cond.sameField RJx4a65c RJxc12de "modCount" "I" ∈ GW := gw_t 1190 (by decide +kernel) rfl
theorem kw_1198 : Cond.superclass RJx4a65c RJxc12de ∈ GW := gw_t 1198 (by decide +kernel) rfl
theorem kw_1236 : Cond.superclass RX5 "java/lang/Object" ∈ GW := gw_t 1236 (by decide +kernel) rfl
theorem kw_1433 : Cond.superclass RJ13 RJxd2413 ∈ GW := gw_t 1433 (by decide +kernel) rfl
theorem kw_1456 : Cond.sameMethod "java/lang/Object" "java/lang/Object" "getClass" "()Ljava/lang/Class;" ∈ GW := gw_t 1456 (by decide +kernel) rfl
theorem kw_1474 : Cond.native ⟨"java/lang/Object", "getClass", "()Ljava/lang/Class;"⟩ ∈ GW := gw_t 1474 (by decide +kernel) rfl
theorem kw_1508 : Cond.superclass RJx35411 "java/lang/Object" ∈ GW := gw_t 1508 (by decide +kernel) rfl
theorem kw_1592 : Cond.superclass RJ6 RJxd2413 ∈ GW := gw_t 1592 (by decide +kernel) rfl
theorem kw_1809 : Cond.sameMethod RJ5 RJ5 "append" "(C)Ljava/lang/AbstractStringBuilder;" ∈ GW := gw_t 1809 (by decide +kernel) rfl
theorem kw_1810 : Cond.sameMethod RJ5 RJ5 "ensureCapacityInternal" "(I)V" ∈ GW := gw_t 1810 (by decide +kernel) rfl
theorem kw_1811 : Cond.sameMethod RJ5 RJ5 "newCapacity" "(I)I" ∈ GW := gw_t 1811 (by decide +kernel) rfl
theorem kw_1812 : Cond.sameMethod RJ5 RJ5 "inflate" "()V" ∈ GW := gw_t 1812 (by decide +kernel) rfl
theorem kw_1813 : Cond.sameMethod RJ5 RJ5 "append" "(I)Ljava/lang/AbstractStringBuilder;" ∈ GW := gw_t 1813 (by decide +kernel) rfl
theorem kw_1814 : Cond.sameMethod "java/lang/Throwable" "java/lang/Throwable" "fillInStackTrace" "(I)Ljava/lang/Throwable;" ∈ GW := gw_t 1814 (by decide +kernel) rfl
theorem kw_1815 : Cond.sameMethod RJ5 RJ5 "append" "(Ljava/lang/String;)Ljava/lang/AbstractStringBuilder;" ∈ GW := gw_t 1815 (by decide +kernel) rfl
theorem kw_1816 : Cond.sameMethod RJ5 RJ5 "appendNull" "()Ljava/lang/AbstractStringBuilder;" ∈ GW := gw_t 1816 (by decide +kernel) rfl
theorem kw_1817 : Cond.sameMethod RJ5 RJ5 "putStringAt" "(ILjava/lang/String;)V" ∈ GW := gw_t 1817 (by decide +kernel) rfl
theorem kw_1818 : Cond.sameMethod RJ5 RJ5 "inflateIfNeededFor" "(Ljava/lang/String;)V" ∈ GW := gw_t 1818 (by decide +kernel) rfl
theorem kw_1819 : Cond.sameMethod RJ5 RJ5 "setLength" "(I)V" ∈ GW := gw_t 1819 (by decide +kernel) rfl
theorem kw_1821 : Cond.sameMethod RJ5 RJ5 "append" "(J)Ljava/lang/AbstractStringBuilder;" ∈ GW := gw_t 1821 (by decide +kernel) rfl
theorem kw_1842 : Cond.sameMethod "[Ljava/lang/Object;" "java/lang/Object" "getClass" "()Ljava/lang/Class;" ∈ GW := gw_t 1842 (by decide +kernel) rfl
