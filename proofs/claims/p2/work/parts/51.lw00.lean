/-! ===== the law's wrappers ===== -/
abbrev lwR : Room := { frames := 12, cells := 3000, slots := 8000, locals := 300 }
def OUo (D : va_G) (uo : Nat) (H : Heap) : Prop := ∃ (x : Int64) (v : Value), c1 D uo (.inr (12, [.long x, v])) H
def LR (D : va_G) (tk : Nat → ClassId) (sa ad : Nat → Nat) (uo mo : Nat) (P : Nat → Prop) (H : Heap) : Prop := ∃ (g : CS) (kn : Int32) (tt bb : Nat → Int64) (eT eB oT oB : Int64) (pk : Nat) (ca rf : Int32) (vs : Nat → Value) (n9 : Nat) (th : Int32) (ox : Int64) (ov : Value), RV g kn tt bb eT eB oT oB pk ca rf vs n9 ∧ CW D tk ad g H ∧ c1 D uo (.inr (12, [.long ox, ov])) H ∧ MI D tk sa P mo tt bb eT eB oT oB pk ca rf vs kn n9 th H
theorem wc_0 : Cond.castable "java/lang/IndexOutOfBoundsException" "java/lang/IndexOutOfBoundsException" ∈ tables_1 := List.mem_of_getElem? (i := 815) (by decide +kernel)
theorem wc_1 : Cond.castable "java/lang/IllegalArgumentException" "java/lang/IllegalArgumentException" ∈ tables_1 := List.mem_of_getElem? (i := 353) (by decide +kernel)
theorem wc_2 : Cond.castable "java/lang/IllegalStateException" "java/lang/IllegalStateException" ∈ tables_1 := List.mem_of_getElem? (i := 1014) (by decide +kernel)
theorem wh_put : Cond.codeWith yL_put cL_put 6 (some .int) [(0, 13, 16, 19), (0, 13, 20, 21)] ∈ GW := gw_t 802 (by decide +kernel) rfl
theorem wh_putDecimal : Cond.codeWith yL_putDecimal cL_putDecimal 6 (some .int) [(0, 13, 16, 19), (0, 13, 20, 21)] ∈ GW := gw_t 846 (by decide +kernel) rfl
theorem wh_copy : Cond.codeWith yL_copy cL_copy 5 (some .int) [(0, 11, 14, 19)] ∈ GW := gw_t 857 (by decide +kernel) rfl
theorem wh_swap : Cond.codeWith yL_swap cL_swap 5 (some .int) [(0, 11, 14, 19)] ∈ GW := gw_t 864 (by decide +kernel) rfl
theorem wh_plus : Cond.codeWith yL_plus cL_plus 6 (some .int) [(0, 13, 16, 19)] ∈ GW := gw_t 871 (by decide +kernel) rfl
theorem wh_minus : Cond.codeWith yL_minus cL_minus 6 (some .int) [(0, 13, 16, 19)] ∈ GW := gw_t 878 (by decide +kernel) rfl
theorem wh_times : Cond.codeWith yL_times cL_times 6 (some .int) [(0, 13, 16, 19)] ∈ GW := gw_t 885 (by decide +kernel) rfl
theorem wh_mediant : Cond.codeWith yL_mediant cL_mediant 6 (some .int) [(0, 13, 16, 19)] ∈ GW := gw_t 936 (by decide +kernel) rfl
theorem wh_over : Cond.codeWith yL_over cL_over 6 (some .int) [(0, 13, 16, 19)] ∈ GW := gw_t 896 (by decide +kernel) rfl
theorem wh_negate : Cond.codeWith yL_negate cL_negate 4 (some .int) [(0, 10, 13, 19)] ∈ GW := gw_t 907 (by decide +kernel) rfl
theorem wh_invert : Cond.codeWith yL_invert cL_invert 4 (some .int) [(0, 10, 13, 19)] ∈ GW := gw_t 914 (by decide +kernel) rfl
theorem wh_raise : Cond.codeWith yL_raise cL_raise 5 (some .int) [(0, 11, 14, 19), (0, 11, 18, 21)] ∈ GW := gw_t 921 (by decide +kernel) rfl
theorem wh_text : Cond.codeWith yL_text cL_text 4 (some .int) [(0, 9, 12, 19)] ∈ GW := gw_t 947 (by decide +kernel) rfl
theorem wh_part : Cond.codeWith yL_part cL_part 5 (some .int) [(0, 11, 14, 19), (0, 11, 18, 21)] ∈ GW := gw_t 954 (by decide +kernel) rfl
theorem wh_compare : Cond.codeWith yL_compare cL_compare 5 (some .int) [(0, 11, 14, 19)] ∈ GW := gw_t 961 (by decide +kernel) rfl
theorem wh_areNext : Cond.codeWith yL_areNext cL_areNext 5 (some .int) [(0, 18, 21, 19)] ∈ GW := gw_t 968 (by decide +kernel) rfl
theorem wh_terms : Cond.codeWith yL_terms cL_terms 4 (some .int) [(0, 9, 12, 19)] ∈ GW := gw_t 975 (by decide +kernel) rfl
theorem wh_term : Cond.codeWith yL_term cL_term 5 (some .int) [(0, 11, 14, 19), (0, 11, 18, 21)] ∈ GW := gw_t 982 (by decide +kernel) rfl
theorem wh_convergent : Cond.codeWith yL_convergent cL_convergent 6 (some .int) [(0, 13, 16, 19), (0, 13, 20, 21)] ∈ GW := gw_t 993 (by decide +kernel) rfl
theorem wh_say : Cond.codeWith yL_say cL_say 4 (some .int) [(0, 10, 13, 21), (0, 10, 16, 88)] ∈ GW := gw_t 1004 (by decide +kernel) rfl
theorem wh_unsay : Cond.codeWith yL_unsay cL_unsay 4 (some .int) [(0, 10, 13, 21)] ∈ GW := gw_t 1030 (by decide +kernel) rfl
theorem wh_fold : Cond.codeWith yL_fold cL_fold 4 (some .int) [(0, 10, 13, 19)] ∈ GW := gw_t 1037 (by decide +kernel) rfl
theorem wh_lower : Cond.codeWith yL_lower cL_lower 6 (some .int) [(0, 13, 16, 19), (0, 13, 20, 21)] ∈ GW := gw_t 1044 (by decide +kernel) rfl
theorem wh_upper : Cond.codeWith yL_upper cL_upper 6 (some .int) [(0, 13, 16, 19), (0, 13, 20, 21)] ∈ GW := gw_t 1055 (by decide +kernel) rfl
theorem wh_best : Cond.codeWith yL_best cL_best 6 (some .int) [(0, 13, 16, 19), (0, 13, 20, 21)] ∈ GW := gw_t 1062 (by decide +kernel) rfl
theorem wh_up : Cond.codeWith yL_up cL_up 4 (some .int) [(0, 10, 13, 19)] ∈ GW := gw_t 1073 (by decide +kernel) rfl
theorem wh_down : Cond.codeWith yL_down cL_down 5 (some .int) [(0, 11, 14, 19)] ∈ GW := gw_t 1084 (by decide +kernel) rfl
theorem wh_depth : Cond.codeWith yL_depth cL_depth 4 (some .int) [(0, 10, 13, 19)] ∈ GW := gw_t 1091 (by decide +kernel) rfl
theorem wh_way : Cond.codeWith yL_way cL_way 4 (some .int) [(0, 9, 12, 19)] ∈ GW := gw_t 1098 (by decide +kernel) rfl
theorem wh_next : Cond.codeWith yL_next cL_next 5 (some .int) [(0, 11, 14, 19), (0, 11, 18, 21)] ∈ GW := gw_t 1105 (by decide +kernel) rfl
theorem wh_before : Cond.codeWith yL_before cL_before 4 (some .int) [(0, 10, 13, 19)] ∈ GW := gw_t 1112 (by decide +kernel) rfl
theorem wh_cut : Cond.codeWith yL_cut cL_cut 6 (some .int) [(0, 12, 15, 19), (0, 12, 19, 21)] ∈ GW := gw_t 1119 (by decide +kernel) rfl
theorem wh_simplest : Cond.codeWith yL_simplest cL_simplest 7 (some .int) [(0, 15, 18, 19), (0, 15, 22, 21)] ∈ GW := gw_t 1126 (by decide +kernel) rfl
theorem wh_tally : Cond.codeWith yL_tally cL_tally 6 (some .int) [(0, 13, 16, 19), (0, 13, 20, 21)] ∈ GW := gw_t 1139 (by decide +kernel) rfl
theorem wh_house : Cond.codeWith yL_house cL_house 4 (some .int) [(0, 10, 13, 21)] ∈ GW := gw_t 1157 (by decide +kernel) rfl
