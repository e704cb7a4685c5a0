theorem kn_190 : Cond.privateMethod yJ5_ensureCapacityInternal_d00df ∈ tables_1 := tbc_1 (List.mem_of_getElem? (i := 190) rfl)
theorem kn_194 : Cond.privateMethod yJ5_newCapacity_0f7a4 ∈ tables_1 := tbc_1 (List.mem_of_getElem? (i := 194) rfl)
theorem kn_216 : Cond.castable "[B" RJx8e188 ∈ tables_1 := tbc_1 (List.mem_of_getElem? (i := 216) rfl)
theorem kn_233 : Cond.privateMethod yJ5_inflate_da8c8 ∈ tables_1 := tbc_1 (List.mem_of_getElem? (i := 233) rfl)
theorem kn_353 : Cond.castable "java/lang/IllegalArgumentException" "java/lang/IllegalArgumentException" ∈ tables_1 := tbc_2 (List.mem_of_getElem? (i := 113) rfl)
theorem kn_390 : Cond.privateMethod ⟨"java/lang/Throwable", "fillInStackTrace", "(I)Ljava/lang/Throwable;"⟩ ∈ tables_1 := tbc_2 (List.mem_of_getElem? (i := 150) rfl)
theorem kn_406 : Cond.privateMethod yJ5_appendNull_278bc ∈ tables_1 := tbc_2 (List.mem_of_getElem? (i := 166) rfl)
theorem kn_422 : Cond.privateMethod yJ5_putStringAt_47b60 ∈ tables_1 := tbc_2 (List.mem_of_getElem? (i := 182) rfl)
theorem kn_426 : Cond.privateMethod yJ5_inflateIfNeededFor_a7421 ∈ tables_1 := tbc_2 (List.mem_of_getElem? (i := 186) rfl)
theorem kn_522 : Cond.privateMethod yX3_writeRounded ∈ tables_1 := tbc_3 (List.mem_of_getElem? (i := 42) rfl)
theorem kn_560 : Cond.privateMethod yX3_isFoldSound ∈ tables_1 := tbc_3 (List.mem_of_getElem? (i := 80) rfl)
theorem kn_585 : Cond.privateMethod yX3_areNeighboursSound ∈ tables_1 := tbc_3 (List.mem_of_getElem? (i := 105) rfl)
theorem kn_610 : Cond.privateMethod yX3_isTreeSound ∈ tables_1 := tbc_3 (List.mem_of_getElem? (i := 130) rfl)
theorem kn_618 : Cond.privateMethod yX3_stepDown ∈ tables_1 := tbc_3 (List.mem_of_getElem? (i := 138) rfl)
theorem kn_632 : Cond.privateMethod yX3_stepUp ∈ tables_1 := tbc_3 (List.mem_of_getElem? (i := 152) rfl)
theorem kn_648 : Cond.privateMethod yX3_areSoundInPairs ∈ tables_1 := tbc_3 (List.mem_of_getElem? (i := 168) rfl)
theorem kn_675 : Cond.privateMethod yX3_countOf ∈ tables_1 := tbc_3 (List.mem_of_getElem? (i := 195) rfl)
theorem kn_679 : Cond.privateMethod yX3_wholeCount ∈ tables_1 := tbc_3 (List.mem_of_getElem? (i := 199) rfl)
theorem kn_687 : Cond.privateMethod yX3_mixedWithRatio ∈ tables_1 := tbc_3 (List.mem_of_getElem? (i := 207) rfl)
theorem kn_695 : Cond.privateMethod yX3_depthOf ∈ tables_1 := tbc_3 (List.mem_of_getElem? (i := 215) rfl)
theorem kn_746 : Cond.castable RJx00060 RJx00060 ∈ tables_1 := tbc_4 (List.mem_of_getElem? (i := 26) rfl)
theorem kn_772 : Cond.privateMethod yX3_writeWay ∈ tables_1 := tbc_4 (List.mem_of_getElem? (i := 52) rfl)
theorem kn_779 : Cond.privateMethod yX3_mixedWithPairs ∈ tables_1 := tbc_4 (List.mem_of_getElem? (i := 59) rfl)
theorem kn_783 : Cond.privateMethod yX3_mixedWithTally ∈ tables_1 := tbc_4 (List.mem_of_getElem? (i := 63) rfl)
theorem kn_810 : Cond.privateMethod yX3_ratioAt ∈ tables_1 := tbc_4 (List.mem_of_getElem? (i := 90) rfl)
theorem kn_815 : Cond.castable "java/lang/IndexOutOfBoundsException" "java/lang/IndexOutOfBoundsException" ∈ tables_1 := tbc_4 (List.mem_of_getElem? (i := 95) rfl)
theorem kn_831 : Cond.privateMethod yX3_settle ∈ tables_1 := tbc_4 (List.mem_of_getElem? (i := 111) rfl)
theorem kn_841 : Cond.privateMethod yX3_refuse ∈ tables_1 := tbc_4 (List.mem_of_getElem? (i := 121) rfl)
theorem kn_1014 : Cond.castable "java/lang/IllegalStateException" "java/lang/IllegalStateException" ∈ tables_1 := tbc_5 (List.mem_of_getElem? (i := 54) rfl)
theorem kn_1050 : Cond.privateMethod yX3_takeNeighbour ∈ tables_1 := tbc_5 (List.mem_of_getElem? (i := 90) rfl)
theorem kn_1068 : Cond.privateMethod yX3_isLowerBetter ∈ tables_1 := tbc_5 (List.mem_of_getElem? (i := 108) rfl)
theorem kn_1252 : Cond.privateMethod yX5_fails ∈ tables_1 := tbc_6 (List.mem_of_getElem? (i := 52) rfl)
theorem kn_1256 : Cond.privateMethod yX5_become ∈ tables_1 := tbc_6 (List.mem_of_getElem? (i := 56) rfl)
theorem kn_1265 : Cond.privateMethod yX5_no ∈ tables_1 := tbc_6 (List.mem_of_getElem? (i := 65) rfl)
theorem kn_1388 : Cond.privateMethod yX5_partNow ∈ tables_1 := tbc_6 (List.mem_of_getElem? (i := 188) rfl)
theorem kn_1404 : Cond.privateMethod yX5_areNextNow ∈ tables_1 := tbc_6 (List.mem_of_getElem? (i := 204) rfl)
theorem kn_1439 : Cond.privateMethod yJx4a65c_add_72be8 ∈ tables_1 := tbc_6 (List.mem_of_getElem? (i := 239) rfl)
theorem kn_1443 : Cond.privateMethod yJx4a65c_grow_d5877 ∈ tables_1 := tbc_7 (List.mem_of_getElem? (i := 3) rfl)
theorem kn_1447 : Cond.privateMethod yJx4a65c_grow_92f84 ∈ tables_1 := tbc_7 (List.mem_of_getElem? (i := 7) rfl)
theorem kn_1513 : Cond.castable RJx35411 RJx4d0d8 ∈ tables_1 := tbc_7 (List.mem_of_getElem? (i := 73) rfl)
theorem kn_1602 : Cond.privateMethod yJx4a65c_fastRemove_b59b0 ∈ tables_1 := tbc_7 (List.mem_of_getElem? (i := 162) rfl)
theorem kn_1611 : Cond.privateMethod yX5_rowNow ∈ tables_1 := tbc_7 (List.mem_of_getElem? (i := 171) rfl)
theorem kn_1671 : Cond.privateMethod yX5_depthNow ∈ tables_1 := tbc_7 (List.mem_of_getElem? (i := 231) rfl)
theorem kn_1679 : Cond.privateMethod yX5_wayNow ∈ tables_1 := tbc_7 (List.mem_of_getElem? (i := 239) rfl)
theorem kn_1701 : Cond.privateMethod yX5_cutNow ∈ tables_1 := tbc_8 (List.mem_of_getElem? (i := 21) rfl)
theorem kn_1772 : Cond.privateMethod yX5_roundedNow ∈ tables_1 := tbc_8 (List.mem_of_getElem? (i := 92) rfl)
theorem kn_1780 : Cond.privateMethod yX5_errorNow ∈ tables_1 := tbc_8 (List.mem_of_getElem? (i := 100) rfl)
theorem kn_1792 : Cond.privateMethod yX5_houseNow ∈ tables_1 := tbc_8 (List.mem_of_getElem? (i := 112) rfl)
theorem kn_1822 : Cond.castable RJx00060 "java/lang/IndexOutOfBoundsException" ∈ tables_1 := tbc_8 (List.mem_of_getElem? (i := 142) rfl)
theorem kn_1823 : Cond.castable RJx7c733 "java/lang/IndexOutOfBoundsException" ∈ tables_1 := tbc_8 (List.mem_of_getElem? (i := 143) rfl)
theorem kn_1824 : Cond.castable RX0 "java/lang/Object" ∈ tables_1 := tbc_8 (List.mem_of_getElem? (i := 144) rfl)
theorem kn_1825 : Cond.castable RJ13 "java/lang/Object" ∈ tables_1 := tbc_8 (List.mem_of_getElem? (i := 145) rfl)
theorem kn_1826 : Cond.castable RJ6 "java/lang/Object" ∈ tables_1 := tbc_8 (List.mem_of_getElem? (i := 146) rfl)
theorem kn_1827 : Cond.castable RX3 "java/lang/Object" ∈ tables_1 := tbc_8 (List.mem_of_getElem? (i := 147) rfl)
theorem kn_1828 : Cond.castable RX2 "java/lang/Object" ∈ tables_1 := tbc_8 (List.mem_of_getElem? (i := 148) rfl)
theorem kn_1829 : Cond.castable RX1 "java/lang/Object" ∈ tables_1 := tbc_8 (List.mem_of_getElem? (i := 149) rfl)
theorem kn_1830 : Cond.castable RX5 "java/lang/Object" ∈ tables_1 := tbc_8 (List.mem_of_getElem? (i := 150) rfl)
theorem kn_1831 : Cond.castable RJx4a65c "java/lang/Object" ∈ tables_1 := tbc_8 (List.mem_of_getElem? (i := 151) rfl)
theorem kn_1832 : Cond.castable RX4 "java/lang/Object" ∈ tables_1 := tbc_8 (List.mem_of_getElem? (i := 152) rfl)
theorem kn_1833 : Cond.castable "java/lang/IndexOutOfBoundsException" "java/lang/Object" ∈ tables_1 := tbc_8 (List.mem_of_getElem? (i := 153) rfl)
theorem kn_1834 : Cond.castable "java/lang/IllegalArgumentException" "java/lang/Object" ∈ tables_1 := tbc_8 (List.mem_of_getElem? (i := 154) rfl)
theorem kn_1835 : Cond.castable RJ4 "java/lang/Object" ∈ tables_1 := tbc_8 (List.mem_of_getElem? (i := 155) rfl)
theorem kn_1836 : Cond.castable RJ0 "java/lang/Object" ∈ tables_1 := tbc_8 (List.mem_of_getElem? (i := 156) rfl)
theorem kn_1837 : Cond.castable RJx35411 "java/lang/Object" ∈ tables_1 := tbc_8 (List.mem_of_getElem? (i := 157) rfl)
theorem kn_1838 : Cond.castable "java/lang/IllegalStateException" "java/lang/Object" ∈ tables_1 := tbc_8 (List.mem_of_getElem? (i := 158) rfl)
theorem kn_1839 : Cond.castable RJx7c733 "java/lang/Object" ∈ tables_1 := tbc_8 (List.mem_of_getElem? (i := 159) rfl)
theorem kn_1840 : Cond.castable RJx00060 "java/lang/Object" ∈ tables_1 := tbc_8 (List.mem_of_getElem? (i := 160) rfl)
theorem kn_1841 : Cond.castable "java/lang/Throwable" "java/lang/Object" ∈ tables_1 := tbc_8 (List.mem_of_getElem? (i := 161) rfl)
theorem kn_1845 : Cond.castable "[LBestratios$Fraction;" "java/lang/Object" ∈ tables_1 := tbc_8 (List.mem_of_getElem? (i := 165) rfl)
theorem kn_1846 : Cond.castable "[J" "java/lang/Object" ∈ tables_1 := tbc_8 (List.mem_of_getElem? (i := 166) rfl)
theorem kn_1847 : Cond.castable "[B" "java/lang/Object" ∈ tables_1 := tbc_8 (List.mem_of_getElem? (i := 167) rfl)
theorem kn_1848 : Cond.castable "[[J" "java/lang/Object" ∈ tables_1 := tbc_8 (List.mem_of_getElem? (i := 168) rfl)
theorem kn_1849 : Cond.castable "[Ljava/lang/Object;" "java/lang/Object" ∈ tables_1 := tbc_8 (List.mem_of_getElem? (i := 169) rfl)
theorem kn_1850 : Cond.castable "[I" "java/lang/Object" ∈ tables_1 := tbc_8 (List.mem_of_getElem? (i := 170) rfl)
theorem kw_60 : Cond.superclass RX0 "java/lang/Object" ∈ GW := gwc_1 60 rfl rfl
theorem kw_74 : Cond.superclass RX2 "java/lang/Object" ∈ GW := gwc_1 74 rfl rfl
theorem kw_113 : Cond.superclass RX1 "java/lang/Object" ∈ GW := gwc_1 113 rfl rfl
theorem kw_141 : Cond.superclass RX3 "java/lang/Object" ∈ GW := gwc_1 141 rfl rfl
theorem kw_180 : Cond.superclass RJ4 RJ5 ∈ GW := gwc_1 180 rfl rfl
theorem kw_212 : Cond.sameMethod "[B" "java/lang/Object" "clone" "()Ljava/lang/Object;" ∈ GW := gwc_1 212 rfl rfl
theorem kw_213 : Cond.native ⟨"java/lang/Object", "clone", "()Ljava/lang/Object;"⟩ ∈ GW := gwc_1 213 rfl rfl
theorem kw_223 : Cond.native ⟨"java/lang/System", "arraycopy", "(Ljava/lang/Object;ILjava/lang/Object;II)V"⟩ ∈ GW := gwc_1 223 rfl rfl
theorem kw_226 : Cond.sameMethod RJ5 RJ5 "isLatin1" "()Z" ∈ GW := gwc_1 226 rfl rfl
theorem kw_330 : Cond.sameMethod RJ5 RJ5 "getValue" "()[B" ∈ GW := gwc_2 90 rfl rfl
theorem kw_335 : Cond.sameMethod RJ5 RJ5 "length" "()I" ∈ GW := gwc_2 95 rfl rfl
theorem kw_373 : Cond.superclass "java/lang/Throwable" "java/lang/Object" ∈ GW := gwc_2 133 rfl rfl
theorem kw_383 : Cond.sameMethod "java/lang/Throwable" "java/lang/Throwable" "fillInStackTrace" "()Ljava/lang/Throwable;" ∈ GW := gwc_2 143 rfl rfl
theorem kw_393 : Cond.native ⟨"java/lang/Throwable", "fillInStackTrace", "(I)Ljava/lang/Throwable;"⟩ ∈ GW := gwc_2 153 rfl rfl
theorem kw_461 : Cond.superclass "java/lang/IllegalArgumentException" "java/lang/RuntimeException" ∈ GW := gwc_2 221 rfl rfl
theorem kw_485 : Cond.superclass RJ0 "java/lang/Object" ∈ GW := gwc_3 5 rfl rfl
theorem kw_731 : Cond.superclass RJx7c733 "java/lang/IndexOutOfBoundsException" ∈ GW := gwc_4 11 rfl rfl
theorem kw_766 : Cond.superclass RJx00060 "java/lang/IndexOutOfBoundsException" ∈ GW := gwc_4 46 rfl rfl
theorem kw_799 : Cond.superclass RX4 "java/lang/Object" ∈ GW := gwc_4 79 rfl rfl
theorem kw_825 : Cond.superclass "java/lang/IndexOutOfBoundsException" "java/lang/RuntimeException" ∈ GW := gwc_4 105 rfl rfl
theorem kw_1027 : Cond.superclass "java/lang/IllegalStateException" "java/lang/RuntimeException" ∈ GW := gwc_5 67 rfl rfl
theorem kw_1190 : Cond.sameField RJx4a65c RJxc12de "modCount" "I" ∈ GW := gwc_5 230 rfl rfl
theorem kw_1198 : Cond.superclass RJx4a65c RJxc12de ∈ GW := gwc_5 238 rfl rfl
theorem kw_1236 : Cond.superclass RX5 "java/lang/Object" ∈ GW := gwc_6 36 rfl rfl
theorem kw_1433 : Cond.superclass RJ13 RJxd2413 ∈ GW := gwc_6 233 rfl rfl
theorem kw_1456 : Cond.sameMethod "java/lang/Object" "java/lang/Object" "getClass" "()Ljava/lang/Class;" ∈ GW := gwc_7 16 rfl rfl
theorem kw_1474 : Cond.native ⟨"java/lang/Object", "getClass", "()Ljava/lang/Class;"⟩ ∈ GW := gwc_7 34 rfl rfl
theorem kw_1508 : Cond.superclass RJx35411 "java/lang/Object" ∈ GW := gwc_7 68 rfl rfl
theorem kw_1592 : Cond.superclass RJ6 RJxd2413 ∈ GW := gwc_7 152 rfl rfl
theorem kw_1809 : Cond.sameMethod RJ5 RJ5 "append" "(C)Ljava/lang/AbstractStringBuilder;" ∈ GW := gwc_8 129 rfl rfl
theorem kw_1810 : Cond.sameMethod RJ5 RJ5 "ensureCapacityInternal" "(I)V" ∈ GW := gwc_8 130 rfl rfl
theorem kw_1811 : Cond.sameMethod RJ5 RJ5 "newCapacity" "(I)I" ∈ GW := gwc_8 131 rfl rfl
theorem kw_1812 : Cond.sameMethod RJ5 RJ5 "inflate" "()V" ∈ GW := gwc_8 132 rfl rfl
theorem kw_1813 : Cond.sameMethod RJ5 RJ5 "append" "(I)Ljava/lang/AbstractStringBuilder;" ∈ GW := gwc_8 133 rfl rfl
theorem kw_1814 : Cond.sameMethod "java/lang/Throwable" "java/lang/Throwable" "fillInStackTrace" "(I)Ljava/lang/Throwable;" ∈ GW := gwc_8 134 rfl rfl
theorem kw_1815 : Cond.sameMethod RJ5 RJ5 "append" "(Ljava/lang/String;)Ljava/lang/AbstractStringBuilder;" ∈ GW := gwc_8 135 rfl rfl
theorem kw_1816 : Cond.sameMethod RJ5 RJ5 "appendNull" "()Ljava/lang/AbstractStringBuilder;" ∈ GW := gwc_8 136 rfl rfl
theorem kw_1817 : Cond.sameMethod RJ5 RJ5 "putStringAt" "(ILjava/lang/String;)V" ∈ GW := gwc_8 137 rfl rfl
theorem kw_1818 : Cond.sameMethod RJ5 RJ5 "inflateIfNeededFor" "(Ljava/lang/String;)V" ∈ GW := gwc_8 138 rfl rfl
theorem kw_1819 : Cond.sameMethod RJ5 RJ5 "setLength" "(I)V" ∈ GW := gwc_8 139 rfl rfl
theorem kw_1821 : Cond.sameMethod RJ5 RJ5 "append" "(J)Ljava/lang/AbstractStringBuilder;" ∈ GW := gwc_8 141 rfl rfl
theorem kw_1842 : Cond.sameMethod "[Ljava/lang/Object;" "java/lang/Object" "getClass" "()Ljava/lang/Class;" ∈ GW := gwc_8 162 rfl rfl
